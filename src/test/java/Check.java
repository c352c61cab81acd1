/** Counts the answers of one test that are not as due, and tells each of them. */
final class Check {
    private final String name;
    private int made = 0;
    private int wrong = 0;

    Check(String name) {
        this.name = name;
    }

    void due(String call, long got, long want) {
        made++;
        if (got != want) {
            wrong++;
            System.out.println(name + ": " + call + " answered " + got + ", due is " + want);
        }
    }

    void due(String call, String got, String want) {
        made++;
        if (!got.equals(want)) {
            wrong++;
            System.out.println(name + ": " + call + " is \"" + got + "\", due is \"" + want + "\"");
        }
    }

    void holds(String what, boolean so) {
        made++;
        if (!so) {
            wrong++;
            System.out.println(name + ": " + what);
        }
    }

    int wrong() {
        return wrong;
    }

    int made() {
        return made;
    }

    void end() {
        System.out.println(name + ": " + made + " checks, " + wrong + " wrong");
        if (wrong != 0) {
            System.exit(1);
        }
    }
}
