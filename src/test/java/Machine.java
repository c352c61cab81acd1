import java.lang.reflect.Array;

/** The four sheets as the Java machine holds them: arrays of their lanes, and what it throws is what it finds. */
final class Machine {
    private final Object[] rows = new Object[4];

    /** What is done to rows; the machine may refuse it. */
    private interface Deed {
        int done();
    }

    /** Of several the first that the machine meets: nothing there, another lane, no such item. */
    private static int found(Deed deed) {
        try {
            return deed.done();
        } catch (NullPointerException e) {
            return ModalKeys.NULL;
        } catch (ClassCastException | ArrayStoreException e) {
            return ModalKeys.CAST;
        } catch (IndexOutOfBoundsException e) {
            return ModalKeys.INDEX;
        } catch (NegativeArraySizeException e) {
            return ModalKeys.SIZE;
        }
    }

    private static boolean isSheet(int sheet) {
        return sheet >= 0 && sheet <= 3;
    }

    static boolean areSheetAndLane(int sheet, int lane) {
        return isSheet(sheet) && lane >= 0 && lane <= 3;
    }

    private static long get(Object row, int lane, int i) {
        switch (lane) {
            case 0: return ((byte[]) row)[i];
            case 1: return ((short[]) row)[i];
            case 2: return ((int[]) row)[i];
            default: return ((long[]) row)[i];
        }
    }

    private static void set(Object row, int lane, int i, long v) {
        switch (lane) {
            case 0: ((byte[]) row)[i] = (byte) v; break;
            case 1: ((short[]) row)[i] = (short) v; break;
            case 2: ((int[]) row)[i] = (int) v; break;
            default: ((long[]) row)[i] = v;
        }
    }

    /** Takes as many items as there is room for: 0, or what the machine finds. */
    int take(int sheet, int lane, int i, long[] taken) {
        return found(() -> {
            for (int k = 0; k < taken.length; k++) {
                taken[k] = get(rows[sheet], lane, i + k);
            }
            return 0;
        });
    }

    int give(int sheet, int lane, int i, long[] given) {
        // Looked at first, since what is refused puts none of them.
        int fault = take(sheet, lane, i, new long[given.length]);
        for (int k = 0; fault == 0 && k < given.length; k++) {
            set(rows[sheet], lane, i + k, given[k]);
        }
        return fault;
    }

    int sheet(int sheet, int lane, int n) {
        if (!areSheetAndLane(sheet, lane) || n > 24) {
            return ModalKeys.BAD;
        }
        return found(() -> {
            Class<?>[] lanes = {byte.class, short.class, int.class, long.class};
            rows[sheet] = Array.newInstance(lanes[lane], n);
            return n;
        });
    }

    int drop(int sheet) {
        if (!isSheet(sheet)) {
            return ModalKeys.BAD;
        }
        int had = found(() -> Array.getLength(rows[sheet]));
        rows[sheet] = null;
        return had;
    }

    int item(int sheet, int lane, int i, long v) {
        if (!areSheetAndLane(sheet, lane)) {
            return ModalKeys.BAD;
        }
        int fault = give(sheet, lane, i, new long[] {v});
        return fault == 0 ? 1 : fault;
    }

    int copy(int from, int i, int to, int j, int n) {
        if (!isSheet(from) || !isSheet(to)) {
            return ModalKeys.BAD;
        }
        return found(() -> {
            System.arraycopy(rows[from], i, rows[to], j, n);
            return n;
        });
    }

    /** Which lane a sheet is of; 0, too, if it holds nothing. */
    int lane(int sheet) {
        Object row = rows[sheet];
        return row instanceof long[] ? 3 : row instanceof int[] ? 2 : row instanceof short[] ? 1 : 0;
    }

    /** How many items a sheet has; 0, too, if it holds nothing. */
    int size(int sheet) {
        return rows[sheet] == null ? 0 : Array.getLength(rows[sheet]);
    }
}
