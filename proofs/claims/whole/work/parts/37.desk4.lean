/-! ===== Desk: strike ===== -/
abbrev zDk : Type := (Int → Int) × Int × Int × (Int → Int) × Int × Int × (Int → Int) × (Int → Int) × (Int → Int) × Int × Int × (Int → Int) × (Int → Int) × Int × (Int → Int) × Int × (Int → Int) × Int × (Int → Int) × (Int → Int) × Int × Int × Int × Int

abbrev dkT (G : zG) (d : zDk) : List va_E := dkL G (d.1) (d.2.1) (d.2.2.1) (d.2.2.2.1) (d.2.2.2.2.1) (d.2.2.2.2.2.1) (d.2.2.2.2.2.2.1) (d.2.2.2.2.2.2.2.1) (d.2.2.2.2.2.2.2.2.1) (d.2.2.2.2.2.2.2.2.2.1) (d.2.2.2.2.2.2.2.2.2.2.1) (d.2.2.2.2.2.2.2.2.2.2.2.1) (d.2.2.2.2.2.2.2.2.2.2.2.2.1) (d.2.2.2.2.2.2.2.2.2.2.2.2.2.1) (d.2.2.2.2.2.2.2.2.2.2.2.2.2.2.1) (d.2.2.2.2.2.2.2.2.2.2.2.2.2.2.2.1) (d.2.2.2.2.2.2.2.2.2.2.2.2.2.2.2.2.1) (d.2.2.2.2.2.2.2.2.2.2.2.2.2.2.2.2.2.1) (d.2.2.2.2.2.2.2.2.2.2.2.2.2.2.2.2.2.2.1) (d.2.2.2.2.2.2.2.2.2.2.2.2.2.2.2.2.2.2.2.1) (d.2.2.2.2.2.2.2.2.2.2.2.2.2.2.2.2.2.2.2.2.1) (d.2.2.2.2.2.2.2.2.2.2.2.2.2.2.2.2.2.2.2.2.2.1) (d.2.2.2.2.2.2.2.2.2.2.2.2.2.2.2.2.2.2.2.2.2.2.1) (d.2.2.2.2.2.2.2.2.2.2.2.2.2.2.2.2.2.2.2.2.2.2.2)

def tin (f : Int → Int) (L c : Int) (bf : Int → Int) (bL bc : Int) (pf pl pc : Int → Int) (nx sz : Int) (k kf : Int → Int) (ks : Int) (lf : Int → Int) (ls : Int) (sf : Int → Int) (sl : Int) (mf rf : Int → Int) (ty pla fro to : Int) (x rep : Int) : Int × zDk := if x = 33 then (0, f, L, max 0 (c - 1), bf, bL, bc, zcp bf pf 0 (nx * 60) 60, zup pl nx bL, zup pc nx bc, (nx + 1) % 8, min (sz + 1) 8, (fun _ => 0), addF kf ks x, 0, if rep = 0 then zcp (addF kf ks x) lf 0 0 30 else lf, if rep = 0 then min (ks + 1) 31 else ls, sf, sl, mf, rf, 0, pla, fro, to) else if 60 ≤ L then (-3, f, L, c, bf, bL, bc, pf, pl, pc, nx, sz, k, addF kf ks x, min (ks + 1) 31, lf, ls, sf, sl, mf, rf, ty, pla, fro, to) else (2, zup (zcp f f c (c + 1) (L - c)) c x, L + 1, c + 1, bf, bL, bc, pf, pl, pc, nx, sz, k, addF kf ks x, min (ks + 1) 31, lf, ls, sf, sl, mf, rf, ty, pla, fro, to)
theorem tin_1 {f : Int → Int} {L c : Int} {bf : Int → Int} {bL bc : Int} {pf pl pc : Int → Int} {nx sz : Int} {k kf : Int → Int} {ks : Int} {lf : Int → Int} {ls : Int} {sf : Int → Int} {sl : Int} {mf rf : Int → Int} {ty pla fro to : Int} {x rep : Int}  (h1 : x = 33) : tin f L c bf bL bc pf pl pc nx sz k kf ks lf ls sf sl mf rf ty pla fro to x rep = (0, f, L, max 0 (c - 1), bf, bL, bc, zcp bf pf 0 (nx * 60) 60, zup pl nx bL, zup pc nx bc, (nx + 1) % 8, min (sz + 1) 8, (fun _ => 0), addF kf ks x, 0, if rep = 0 then zcp (addF kf ks x) lf 0 0 30 else lf, if rep = 0 then min (ks + 1) 31 else ls, sf, sl, mf, rf, 0, pla, fro, to) := by unfold tin; rw [if_pos h1]
theorem tin_2 {f : Int → Int} {L c : Int} {bf : Int → Int} {bL bc : Int} {pf pl pc : Int → Int} {nx sz : Int} {k kf : Int → Int} {ks : Int} {lf : Int → Int} {ls : Int} {sf : Int → Int} {sl : Int} {mf rf : Int → Int} {ty pla fro to : Int} {x rep : Int} (h1 : ¬ (x = 33)) (h2 : 60 ≤ L) : tin f L c bf bL bc pf pl pc nx sz k kf ks lf ls sf sl mf rf ty pla fro to x rep = (-3, f, L, c, bf, bL, bc, pf, pl, pc, nx, sz, k, addF kf ks x, min (ks + 1) 31, lf, ls, sf, sl, mf, rf, ty, pla, fro, to) := by unfold tin; rw [if_neg h1, if_pos h2]
theorem tin_3 {f : Int → Int} {L c : Int} {bf : Int → Int} {bL bc : Int} {pf pl pc : Int → Int} {nx sz : Int} {k kf : Int → Int} {ks : Int} {lf : Int → Int} {ls : Int} {sf : Int → Int} {sl : Int} {mf rf : Int → Int} {ty pla fro to : Int} {x rep : Int} (h1 : ¬ (x = 33)) (h2 : ¬ (60 ≤ L)) : tin f L c bf bL bc pf pl pc nx sz k kf ks lf ls sf sl mf rf ty pla fro to x rep = (2, zup (zcp f f c (c + 1) (L - c)) c x, L + 1, c + 1, bf, bL, bc, pf, pl, pc, nx, sz, k, addF kf ks x, min (ks + 1) 31, lf, ls, sf, sl, mf, rf, ty, pla, fro, to) := by unfold tin; rw [if_neg h1, if_neg h2]
def stk (f : Int → Int) (L c : Int) (bf : Int → Int) (bL bc : Int) (pf pl pc : Int → Int) (nx sz : Int) (k kf : Int → Int) (ks : Int) (lf : Int → Int) (ls : Int) (sf : Int → Int) (sl : Int) (mf rf : Int → Int) (ty pla fro to : Int) (x rep : Int) : Int × zDk := if ty ≠ 0 then tin f L c bf bL bc pf pl pc nx sz k kf ks lf ls sf sl mf rf ty pla fro to x rep else if (tkA k x).1 = 0 then (1, f, L, c, bf, bL, bc, pf, pl, pc, nx, sz, (tkA k x).2, addF kf ks x, min (ks + 1) 31, lf, ls, sf, sl, mf, rf, ty, pla, fro, to) else if (tkA k x).1 ≠ 1 then (-2, f, L, c, zcp f bf 0 0 60, L, c, pf, pl, pc, nx, sz, (fun _ => 0), addF kf ks x, 0, lf, ls, sf, sl, mf, rf, ty, pla, fro, to) else if amO f L c mf (tkA k x).2 = 0 then (-2, f, L, c, zcp f bf 0 0 60, L, c, pf, pl, pc, nx, sz, (fun _ => 0), addF kf ks x, 0, lf, ls, sf, sl, mf, rf, ty, amP f L c mf (tkA k x).2 pla, amF f L c mf (tkA k x).2 fro, amT f L c mf (tkA k x).2 to) else if (pfm f L c pf pl pc nx sz (tkA k x).2 sf sl mf (amP f L c mf (tkA k x).2 pla) (amF f L c mf (tkA k x).2 fro) (amT f L c mf (tkA k x).2 to) (tmz (tkA k x).2)).1 = 3 then (2, (pfm f L c pf pl pc nx sz (tkA k x).2 sf sl mf (amP f L c mf (tkA k x).2 pla) (amF f L c mf (tkA k x).2 fro) (amT f L c mf (tkA k x).2 to) (tmz (tkA k x).2)).2.1, (pfm f L c pf pl pc nx sz (tkA k x).2 sf sl mf (amP f L c mf (tkA k x).2 pla) (amF f L c mf (tkA k x).2 fro) (amT f L c mf (tkA k x).2 to) (tmz (tkA k x).2)).2.2.1, (pfm f L c pf pl pc nx sz (tkA k x).2 sf sl mf (amP f L c mf (tkA k x).2 pla) (amF f L c mf (tkA k x).2 fro) (amT f L c mf (tkA k x).2 to) (tmz (tkA k x).2)).2.2.2.1, zcp f bf 0 0 60, L, c, pf, pl, pc, (pfm f L c pf pl pc nx sz (tkA k x).2 sf sl mf (amP f L c mf (tkA k x).2 pla) (amF f L c mf (tkA k x).2 fro) (amT f L c mf (tkA k x).2 to) (tmz (tkA k x).2)).2.2.2.2.2.2.2.1, (pfm f L c pf pl pc nx sz (tkA k x).2 sf sl mf (amP f L c mf (tkA k x).2 pla) (amF f L c mf (tkA k x).2 fro) (amT f L c mf (tkA k x).2 to) (tmz (tkA k x).2)).2.2.2.2.2.2.2.2, (tkA k x).2, addF kf ks x, min (ks + 1) 31, lf, ls, (pfm f L c pf pl pc nx sz (tkA k x).2 sf sl mf (amP f L c mf (tkA k x).2 pla) (amF f L c mf (tkA k x).2 fro) (amT f L c mf (tkA k x).2 to) (tmz (tkA k x).2)).2.2.2.2.1, (pfm f L c pf pl pc nx sz (tkA k x).2 sf sl mf (amP f L c mf (tkA k x).2 pla) (amF f L c mf (tkA k x).2 fro) (amT f L c mf (tkA k x).2 to) (tmz (tkA k x).2)).2.2.2.2.2.1, (pfm f L c pf pl pc nx sz (tkA k x).2 sf sl mf (amP f L c mf (tkA k x).2 pla) (amF f L c mf (tkA k x).2 fro) (amT f L c mf (tkA k x).2 to) (tmz (tkA k x).2)).2.2.2.2.2.2.1, rf, 1, amP f L c mf (tkA k x).2 pla, amF f L c mf (tkA k x).2 fro, amT f L c mf (tkA k x).2 to) else if (pfm f L c pf pl pc nx sz (tkA k x).2 sf sl mf (amP f L c mf (tkA k x).2 pla) (amF f L c mf (tkA k x).2 fro) (amT f L c mf (tkA k x).2 to) (tmz (tkA k x).2)).1 = 2 then (0, (pfm f L c pf pl pc nx sz (tkA k x).2 sf sl mf (amP f L c mf (tkA k x).2 pla) (amF f L c mf (tkA k x).2 fro) (amT f L c mf (tkA k x).2 to) (tmz (tkA k x).2)).2.1, (pfm f L c pf pl pc nx sz (tkA k x).2 sf sl mf (amP f L c mf (tkA k x).2 pla) (amF f L c mf (tkA k x).2 fro) (amT f L c mf (tkA k x).2 to) (tmz (tkA k x).2)).2.2.1, (pfm f L c pf pl pc nx sz (tkA k x).2 sf sl mf (amP f L c mf (tkA k x).2 pla) (amF f L c mf (tkA k x).2 fro) (amT f L c mf (tkA k x).2 to) (tmz (tkA k x).2)).2.2.2.1, zcp f bf 0 0 60, L, c, zcp (zcp f bf 0 0 60) pf 0 ((pfm f L c pf pl pc nx sz (tkA k x).2 sf sl mf (amP f L c mf (tkA k x).2 pla) (amF f L c mf (tkA k x).2 fro) (amT f L c mf (tkA k x).2 to) (tmz (tkA k x).2)).2.2.2.2.2.2.2.1 * 60) 60, zup pl (pfm f L c pf pl pc nx sz (tkA k x).2 sf sl mf (amP f L c mf (tkA k x).2 pla) (amF f L c mf (tkA k x).2 fro) (amT f L c mf (tkA k x).2 to) (tmz (tkA k x).2)).2.2.2.2.2.2.2.1 L, zup pc (pfm f L c pf pl pc nx sz (tkA k x).2 sf sl mf (amP f L c mf (tkA k x).2 pla) (amF f L c mf (tkA k x).2 fro) (amT f L c mf (tkA k x).2 to) (tmz (tkA k x).2)).2.2.2.2.2.2.2.1 c, ((pfm f L c pf pl pc nx sz (tkA k x).2 sf sl mf (amP f L c mf (tkA k x).2 pla) (amF f L c mf (tkA k x).2 fro) (amT f L c mf (tkA k x).2 to) (tmz (tkA k x).2)).2.2.2.2.2.2.2.1 + 1) % 8, min ((pfm f L c pf pl pc nx sz (tkA k x).2 sf sl mf (amP f L c mf (tkA k x).2 pla) (amF f L c mf (tkA k x).2 fro) (amT f L c mf (tkA k x).2 to) (tmz (tkA k x).2)).2.2.2.2.2.2.2.2 + 1) 8, (fun _ => 0), addF kf ks x, 0, if rep = 0 then zcp (addF kf ks x) lf 0 0 30 else lf, if rep = 0 then min (ks + 1) 31 else ls, (pfm f L c pf pl pc nx sz (tkA k x).2 sf sl mf (amP f L c mf (tkA k x).2 pla) (amF f L c mf (tkA k x).2 fro) (amT f L c mf (tkA k x).2 to) (tmz (tkA k x).2)).2.2.2.2.1, (pfm f L c pf pl pc nx sz (tkA k x).2 sf sl mf (amP f L c mf (tkA k x).2 pla) (amF f L c mf (tkA k x).2 fro) (amT f L c mf (tkA k x).2 to) (tmz (tkA k x).2)).2.2.2.2.2.1, (pfm f L c pf pl pc nx sz (tkA k x).2 sf sl mf (amP f L c mf (tkA k x).2 pla) (amF f L c mf (tkA k x).2 fro) (amT f L c mf (tkA k x).2 to) (tmz (tkA k x).2)).2.2.2.2.2.2.1, rf, ty, amP f L c mf (tkA k x).2 pla, amF f L c mf (tkA k x).2 fro, amT f L c mf (tkA k x).2 to) else if (pfm f L c pf pl pc nx sz (tkA k x).2 sf sl mf (amP f L c mf (tkA k x).2 pla) (amF f L c mf (tkA k x).2 fro) (amT f L c mf (tkA k x).2 to) (tmz (tkA k x).2)).1 = 0 then (-2, (pfm f L c pf pl pc nx sz (tkA k x).2 sf sl mf (amP f L c mf (tkA k x).2 pla) (amF f L c mf (tkA k x).2 fro) (amT f L c mf (tkA k x).2 to) (tmz (tkA k x).2)).2.1, (pfm f L c pf pl pc nx sz (tkA k x).2 sf sl mf (amP f L c mf (tkA k x).2 pla) (amF f L c mf (tkA k x).2 fro) (amT f L c mf (tkA k x).2 to) (tmz (tkA k x).2)).2.2.1, (pfm f L c pf pl pc nx sz (tkA k x).2 sf sl mf (amP f L c mf (tkA k x).2 pla) (amF f L c mf (tkA k x).2 fro) (amT f L c mf (tkA k x).2 to) (tmz (tkA k x).2)).2.2.2.1, zcp f bf 0 0 60, L, c, pf, pl, pc, (pfm f L c pf pl pc nx sz (tkA k x).2 sf sl mf (amP f L c mf (tkA k x).2 pla) (amF f L c mf (tkA k x).2 fro) (amT f L c mf (tkA k x).2 to) (tmz (tkA k x).2)).2.2.2.2.2.2.2.1, (pfm f L c pf pl pc nx sz (tkA k x).2 sf sl mf (amP f L c mf (tkA k x).2 pla) (amF f L c mf (tkA k x).2 fro) (amT f L c mf (tkA k x).2 to) (tmz (tkA k x).2)).2.2.2.2.2.2.2.2, (fun _ => 0), addF kf ks x, 0, lf, ls, (pfm f L c pf pl pc nx sz (tkA k x).2 sf sl mf (amP f L c mf (tkA k x).2 pla) (amF f L c mf (tkA k x).2 fro) (amT f L c mf (tkA k x).2 to) (tmz (tkA k x).2)).2.2.2.2.1, (pfm f L c pf pl pc nx sz (tkA k x).2 sf sl mf (amP f L c mf (tkA k x).2 pla) (amF f L c mf (tkA k x).2 fro) (amT f L c mf (tkA k x).2 to) (tmz (tkA k x).2)).2.2.2.2.2.1, (pfm f L c pf pl pc nx sz (tkA k x).2 sf sl mf (amP f L c mf (tkA k x).2 pla) (amF f L c mf (tkA k x).2 fro) (amT f L c mf (tkA k x).2 to) (tmz (tkA k x).2)).2.2.2.2.2.2.1, rf, ty, amP f L c mf (tkA k x).2 pla, amF f L c mf (tkA k x).2 fro, amT f L c mf (tkA k x).2 to) else (0, (pfm f L c pf pl pc nx sz (tkA k x).2 sf sl mf (amP f L c mf (tkA k x).2 pla) (amF f L c mf (tkA k x).2 fro) (amT f L c mf (tkA k x).2 to) (tmz (tkA k x).2)).2.1, (pfm f L c pf pl pc nx sz (tkA k x).2 sf sl mf (amP f L c mf (tkA k x).2 pla) (amF f L c mf (tkA k x).2 fro) (amT f L c mf (tkA k x).2 to) (tmz (tkA k x).2)).2.2.1, (pfm f L c pf pl pc nx sz (tkA k x).2 sf sl mf (amP f L c mf (tkA k x).2 pla) (amF f L c mf (tkA k x).2 fro) (amT f L c mf (tkA k x).2 to) (tmz (tkA k x).2)).2.2.2.1, zcp f bf 0 0 60, L, c, pf, pl, pc, (pfm f L c pf pl pc nx sz (tkA k x).2 sf sl mf (amP f L c mf (tkA k x).2 pla) (amF f L c mf (tkA k x).2 fro) (amT f L c mf (tkA k x).2 to) (tmz (tkA k x).2)).2.2.2.2.2.2.2.1, (pfm f L c pf pl pc nx sz (tkA k x).2 sf sl mf (amP f L c mf (tkA k x).2 pla) (amF f L c mf (tkA k x).2 fro) (amT f L c mf (tkA k x).2 to) (tmz (tkA k x).2)).2.2.2.2.2.2.2.2, (fun _ => 0), addF kf ks x, 0, lf, ls, (pfm f L c pf pl pc nx sz (tkA k x).2 sf sl mf (amP f L c mf (tkA k x).2 pla) (amF f L c mf (tkA k x).2 fro) (amT f L c mf (tkA k x).2 to) (tmz (tkA k x).2)).2.2.2.2.1, (pfm f L c pf pl pc nx sz (tkA k x).2 sf sl mf (amP f L c mf (tkA k x).2 pla) (amF f L c mf (tkA k x).2 fro) (amT f L c mf (tkA k x).2 to) (tmz (tkA k x).2)).2.2.2.2.2.1, (pfm f L c pf pl pc nx sz (tkA k x).2 sf sl mf (amP f L c mf (tkA k x).2 pla) (amF f L c mf (tkA k x).2 fro) (amT f L c mf (tkA k x).2 to) (tmz (tkA k x).2)).2.2.2.2.2.2.1, rf, ty, amP f L c mf (tkA k x).2 pla, amF f L c mf (tkA k x).2 fro, amT f L c mf (tkA k x).2 to)
theorem stk_1 {f : Int → Int} {L c : Int} {bf : Int → Int} {bL bc : Int} {pf pl pc : Int → Int} {nx sz : Int} {k kf : Int → Int} {ks : Int} {lf : Int → Int} {ls : Int} {sf : Int → Int} {sl : Int} {mf rf : Int → Int} {ty pla fro to : Int} {x rep : Int}  (h1 : ty ≠ 0) : stk f L c bf bL bc pf pl pc nx sz k kf ks lf ls sf sl mf rf ty pla fro to x rep = tin f L c bf bL bc pf pl pc nx sz k kf ks lf ls sf sl mf rf ty pla fro to x rep := by unfold stk; rw [if_pos h1]
theorem stk_2 {f : Int → Int} {L c : Int} {bf : Int → Int} {bL bc : Int} {pf pl pc : Int → Int} {nx sz : Int} {k kf : Int → Int} {ks : Int} {lf : Int → Int} {ls : Int} {sf : Int → Int} {sl : Int} {mf rf : Int → Int} {ty pla fro to : Int} {x rep : Int} (h1 : ¬ (ty ≠ 0)) (h2 : (tkA k x).1 = 0) : stk f L c bf bL bc pf pl pc nx sz k kf ks lf ls sf sl mf rf ty pla fro to x rep = (1, f, L, c, bf, bL, bc, pf, pl, pc, nx, sz, (tkA k x).2, addF kf ks x, min (ks + 1) 31, lf, ls, sf, sl, mf, rf, ty, pla, fro, to) := by unfold stk; rw [if_neg h1, if_pos h2]
theorem stk_3 {f : Int → Int} {L c : Int} {bf : Int → Int} {bL bc : Int} {pf pl pc : Int → Int} {nx sz : Int} {k kf : Int → Int} {ks : Int} {lf : Int → Int} {ls : Int} {sf : Int → Int} {sl : Int} {mf rf : Int → Int} {ty pla fro to : Int} {x rep : Int} (h1 : ¬ (ty ≠ 0)) (h2 : ¬ ((tkA k x).1 = 0)) (h3 : (tkA k x).1 ≠ 1) : stk f L c bf bL bc pf pl pc nx sz k kf ks lf ls sf sl mf rf ty pla fro to x rep = (-2, f, L, c, zcp f bf 0 0 60, L, c, pf, pl, pc, nx, sz, (fun _ => 0), addF kf ks x, 0, lf, ls, sf, sl, mf, rf, ty, pla, fro, to) := by unfold stk; rw [if_neg h1, if_neg h2, if_pos h3]
theorem stk_4 {f : Int → Int} {L c : Int} {bf : Int → Int} {bL bc : Int} {pf pl pc : Int → Int} {nx sz : Int} {k kf : Int → Int} {ks : Int} {lf : Int → Int} {ls : Int} {sf : Int → Int} {sl : Int} {mf rf : Int → Int} {ty pla fro to : Int} {x rep : Int} (h1 : ¬ (ty ≠ 0)) (h2 : ¬ ((tkA k x).1 = 0)) (h3 : ¬ ((tkA k x).1 ≠ 1)) (h4 : amO f L c mf (tkA k x).2 = 0) : stk f L c bf bL bc pf pl pc nx sz k kf ks lf ls sf sl mf rf ty pla fro to x rep = (-2, f, L, c, zcp f bf 0 0 60, L, c, pf, pl, pc, nx, sz, (fun _ => 0), addF kf ks x, 0, lf, ls, sf, sl, mf, rf, ty, amP f L c mf (tkA k x).2 pla, amF f L c mf (tkA k x).2 fro, amT f L c mf (tkA k x).2 to) := by unfold stk; rw [if_neg h1, if_neg h2, if_neg h3, if_pos h4]
theorem stk_5 {f : Int → Int} {L c : Int} {bf : Int → Int} {bL bc : Int} {pf pl pc : Int → Int} {nx sz : Int} {k kf : Int → Int} {ks : Int} {lf : Int → Int} {ls : Int} {sf : Int → Int} {sl : Int} {mf rf : Int → Int} {ty pla fro to : Int} {x rep : Int} (h1 : ¬ (ty ≠ 0)) (h2 : ¬ ((tkA k x).1 = 0)) (h3 : ¬ ((tkA k x).1 ≠ 1)) (h4 : ¬ (amO f L c mf (tkA k x).2 = 0)) (h5 : (pfm f L c pf pl pc nx sz (tkA k x).2 sf sl mf (amP f L c mf (tkA k x).2 pla) (amF f L c mf (tkA k x).2 fro) (amT f L c mf (tkA k x).2 to) (tmz (tkA k x).2)).1 = 3) : stk f L c bf bL bc pf pl pc nx sz k kf ks lf ls sf sl mf rf ty pla fro to x rep = (2, (pfm f L c pf pl pc nx sz (tkA k x).2 sf sl mf (amP f L c mf (tkA k x).2 pla) (amF f L c mf (tkA k x).2 fro) (amT f L c mf (tkA k x).2 to) (tmz (tkA k x).2)).2.1, (pfm f L c pf pl pc nx sz (tkA k x).2 sf sl mf (amP f L c mf (tkA k x).2 pla) (amF f L c mf (tkA k x).2 fro) (amT f L c mf (tkA k x).2 to) (tmz (tkA k x).2)).2.2.1, (pfm f L c pf pl pc nx sz (tkA k x).2 sf sl mf (amP f L c mf (tkA k x).2 pla) (amF f L c mf (tkA k x).2 fro) (amT f L c mf (tkA k x).2 to) (tmz (tkA k x).2)).2.2.2.1, zcp f bf 0 0 60, L, c, pf, pl, pc, (pfm f L c pf pl pc nx sz (tkA k x).2 sf sl mf (amP f L c mf (tkA k x).2 pla) (amF f L c mf (tkA k x).2 fro) (amT f L c mf (tkA k x).2 to) (tmz (tkA k x).2)).2.2.2.2.2.2.2.1, (pfm f L c pf pl pc nx sz (tkA k x).2 sf sl mf (amP f L c mf (tkA k x).2 pla) (amF f L c mf (tkA k x).2 fro) (amT f L c mf (tkA k x).2 to) (tmz (tkA k x).2)).2.2.2.2.2.2.2.2, (tkA k x).2, addF kf ks x, min (ks + 1) 31, lf, ls, (pfm f L c pf pl pc nx sz (tkA k x).2 sf sl mf (amP f L c mf (tkA k x).2 pla) (amF f L c mf (tkA k x).2 fro) (amT f L c mf (tkA k x).2 to) (tmz (tkA k x).2)).2.2.2.2.1, (pfm f L c pf pl pc nx sz (tkA k x).2 sf sl mf (amP f L c mf (tkA k x).2 pla) (amF f L c mf (tkA k x).2 fro) (amT f L c mf (tkA k x).2 to) (tmz (tkA k x).2)).2.2.2.2.2.1, (pfm f L c pf pl pc nx sz (tkA k x).2 sf sl mf (amP f L c mf (tkA k x).2 pla) (amF f L c mf (tkA k x).2 fro) (amT f L c mf (tkA k x).2 to) (tmz (tkA k x).2)).2.2.2.2.2.2.1, rf, 1, amP f L c mf (tkA k x).2 pla, amF f L c mf (tkA k x).2 fro, amT f L c mf (tkA k x).2 to) := by unfold stk; rw [if_neg h1, if_neg h2, if_neg h3, if_neg h4, if_pos h5]
theorem stk_6 {f : Int → Int} {L c : Int} {bf : Int → Int} {bL bc : Int} {pf pl pc : Int → Int} {nx sz : Int} {k kf : Int → Int} {ks : Int} {lf : Int → Int} {ls : Int} {sf : Int → Int} {sl : Int} {mf rf : Int → Int} {ty pla fro to : Int} {x rep : Int} (h1 : ¬ (ty ≠ 0)) (h2 : ¬ ((tkA k x).1 = 0)) (h3 : ¬ ((tkA k x).1 ≠ 1)) (h4 : ¬ (amO f L c mf (tkA k x).2 = 0)) (h5 : ¬ ((pfm f L c pf pl pc nx sz (tkA k x).2 sf sl mf (amP f L c mf (tkA k x).2 pla) (amF f L c mf (tkA k x).2 fro) (amT f L c mf (tkA k x).2 to) (tmz (tkA k x).2)).1 = 3)) (h6 : (pfm f L c pf pl pc nx sz (tkA k x).2 sf sl mf (amP f L c mf (tkA k x).2 pla) (amF f L c mf (tkA k x).2 fro) (amT f L c mf (tkA k x).2 to) (tmz (tkA k x).2)).1 = 2) : stk f L c bf bL bc pf pl pc nx sz k kf ks lf ls sf sl mf rf ty pla fro to x rep = (0, (pfm f L c pf pl pc nx sz (tkA k x).2 sf sl mf (amP f L c mf (tkA k x).2 pla) (amF f L c mf (tkA k x).2 fro) (amT f L c mf (tkA k x).2 to) (tmz (tkA k x).2)).2.1, (pfm f L c pf pl pc nx sz (tkA k x).2 sf sl mf (amP f L c mf (tkA k x).2 pla) (amF f L c mf (tkA k x).2 fro) (amT f L c mf (tkA k x).2 to) (tmz (tkA k x).2)).2.2.1, (pfm f L c pf pl pc nx sz (tkA k x).2 sf sl mf (amP f L c mf (tkA k x).2 pla) (amF f L c mf (tkA k x).2 fro) (amT f L c mf (tkA k x).2 to) (tmz (tkA k x).2)).2.2.2.1, zcp f bf 0 0 60, L, c, zcp (zcp f bf 0 0 60) pf 0 ((pfm f L c pf pl pc nx sz (tkA k x).2 sf sl mf (amP f L c mf (tkA k x).2 pla) (amF f L c mf (tkA k x).2 fro) (amT f L c mf (tkA k x).2 to) (tmz (tkA k x).2)).2.2.2.2.2.2.2.1 * 60) 60, zup pl (pfm f L c pf pl pc nx sz (tkA k x).2 sf sl mf (amP f L c mf (tkA k x).2 pla) (amF f L c mf (tkA k x).2 fro) (amT f L c mf (tkA k x).2 to) (tmz (tkA k x).2)).2.2.2.2.2.2.2.1 L, zup pc (pfm f L c pf pl pc nx sz (tkA k x).2 sf sl mf (amP f L c mf (tkA k x).2 pla) (amF f L c mf (tkA k x).2 fro) (amT f L c mf (tkA k x).2 to) (tmz (tkA k x).2)).2.2.2.2.2.2.2.1 c, ((pfm f L c pf pl pc nx sz (tkA k x).2 sf sl mf (amP f L c mf (tkA k x).2 pla) (amF f L c mf (tkA k x).2 fro) (amT f L c mf (tkA k x).2 to) (tmz (tkA k x).2)).2.2.2.2.2.2.2.1 + 1) % 8, min ((pfm f L c pf pl pc nx sz (tkA k x).2 sf sl mf (amP f L c mf (tkA k x).2 pla) (amF f L c mf (tkA k x).2 fro) (amT f L c mf (tkA k x).2 to) (tmz (tkA k x).2)).2.2.2.2.2.2.2.2 + 1) 8, (fun _ => 0), addF kf ks x, 0, if rep = 0 then zcp (addF kf ks x) lf 0 0 30 else lf, if rep = 0 then min (ks + 1) 31 else ls, (pfm f L c pf pl pc nx sz (tkA k x).2 sf sl mf (amP f L c mf (tkA k x).2 pla) (amF f L c mf (tkA k x).2 fro) (amT f L c mf (tkA k x).2 to) (tmz (tkA k x).2)).2.2.2.2.1, (pfm f L c pf pl pc nx sz (tkA k x).2 sf sl mf (amP f L c mf (tkA k x).2 pla) (amF f L c mf (tkA k x).2 fro) (amT f L c mf (tkA k x).2 to) (tmz (tkA k x).2)).2.2.2.2.2.1, (pfm f L c pf pl pc nx sz (tkA k x).2 sf sl mf (amP f L c mf (tkA k x).2 pla) (amF f L c mf (tkA k x).2 fro) (amT f L c mf (tkA k x).2 to) (tmz (tkA k x).2)).2.2.2.2.2.2.1, rf, ty, amP f L c mf (tkA k x).2 pla, amF f L c mf (tkA k x).2 fro, amT f L c mf (tkA k x).2 to) := by unfold stk; rw [if_neg h1, if_neg h2, if_neg h3, if_neg h4, if_neg h5, if_pos h6]
theorem stk_7 {f : Int → Int} {L c : Int} {bf : Int → Int} {bL bc : Int} {pf pl pc : Int → Int} {nx sz : Int} {k kf : Int → Int} {ks : Int} {lf : Int → Int} {ls : Int} {sf : Int → Int} {sl : Int} {mf rf : Int → Int} {ty pla fro to : Int} {x rep : Int} (h1 : ¬ (ty ≠ 0)) (h2 : ¬ ((tkA k x).1 = 0)) (h3 : ¬ ((tkA k x).1 ≠ 1)) (h4 : ¬ (amO f L c mf (tkA k x).2 = 0)) (h5 : ¬ ((pfm f L c pf pl pc nx sz (tkA k x).2 sf sl mf (amP f L c mf (tkA k x).2 pla) (amF f L c mf (tkA k x).2 fro) (amT f L c mf (tkA k x).2 to) (tmz (tkA k x).2)).1 = 3)) (h6 : ¬ ((pfm f L c pf pl pc nx sz (tkA k x).2 sf sl mf (amP f L c mf (tkA k x).2 pla) (amF f L c mf (tkA k x).2 fro) (amT f L c mf (tkA k x).2 to) (tmz (tkA k x).2)).1 = 2)) (h7 : (pfm f L c pf pl pc nx sz (tkA k x).2 sf sl mf (amP f L c mf (tkA k x).2 pla) (amF f L c mf (tkA k x).2 fro) (amT f L c mf (tkA k x).2 to) (tmz (tkA k x).2)).1 = 0) : stk f L c bf bL bc pf pl pc nx sz k kf ks lf ls sf sl mf rf ty pla fro to x rep = (-2, (pfm f L c pf pl pc nx sz (tkA k x).2 sf sl mf (amP f L c mf (tkA k x).2 pla) (amF f L c mf (tkA k x).2 fro) (amT f L c mf (tkA k x).2 to) (tmz (tkA k x).2)).2.1, (pfm f L c pf pl pc nx sz (tkA k x).2 sf sl mf (amP f L c mf (tkA k x).2 pla) (amF f L c mf (tkA k x).2 fro) (amT f L c mf (tkA k x).2 to) (tmz (tkA k x).2)).2.2.1, (pfm f L c pf pl pc nx sz (tkA k x).2 sf sl mf (amP f L c mf (tkA k x).2 pla) (amF f L c mf (tkA k x).2 fro) (amT f L c mf (tkA k x).2 to) (tmz (tkA k x).2)).2.2.2.1, zcp f bf 0 0 60, L, c, pf, pl, pc, (pfm f L c pf pl pc nx sz (tkA k x).2 sf sl mf (amP f L c mf (tkA k x).2 pla) (amF f L c mf (tkA k x).2 fro) (amT f L c mf (tkA k x).2 to) (tmz (tkA k x).2)).2.2.2.2.2.2.2.1, (pfm f L c pf pl pc nx sz (tkA k x).2 sf sl mf (amP f L c mf (tkA k x).2 pla) (amF f L c mf (tkA k x).2 fro) (amT f L c mf (tkA k x).2 to) (tmz (tkA k x).2)).2.2.2.2.2.2.2.2, (fun _ => 0), addF kf ks x, 0, lf, ls, (pfm f L c pf pl pc nx sz (tkA k x).2 sf sl mf (amP f L c mf (tkA k x).2 pla) (amF f L c mf (tkA k x).2 fro) (amT f L c mf (tkA k x).2 to) (tmz (tkA k x).2)).2.2.2.2.1, (pfm f L c pf pl pc nx sz (tkA k x).2 sf sl mf (amP f L c mf (tkA k x).2 pla) (amF f L c mf (tkA k x).2 fro) (amT f L c mf (tkA k x).2 to) (tmz (tkA k x).2)).2.2.2.2.2.1, (pfm f L c pf pl pc nx sz (tkA k x).2 sf sl mf (amP f L c mf (tkA k x).2 pla) (amF f L c mf (tkA k x).2 fro) (amT f L c mf (tkA k x).2 to) (tmz (tkA k x).2)).2.2.2.2.2.2.1, rf, ty, amP f L c mf (tkA k x).2 pla, amF f L c mf (tkA k x).2 fro, amT f L c mf (tkA k x).2 to) := by unfold stk; rw [if_neg h1, if_neg h2, if_neg h3, if_neg h4, if_neg h5, if_neg h6, if_pos h7]
theorem stk_8 {f : Int → Int} {L c : Int} {bf : Int → Int} {bL bc : Int} {pf pl pc : Int → Int} {nx sz : Int} {k kf : Int → Int} {ks : Int} {lf : Int → Int} {ls : Int} {sf : Int → Int} {sl : Int} {mf rf : Int → Int} {ty pla fro to : Int} {x rep : Int} (h1 : ¬ (ty ≠ 0)) (h2 : ¬ ((tkA k x).1 = 0)) (h3 : ¬ ((tkA k x).1 ≠ 1)) (h4 : ¬ (amO f L c mf (tkA k x).2 = 0)) (h5 : ¬ ((pfm f L c pf pl pc nx sz (tkA k x).2 sf sl mf (amP f L c mf (tkA k x).2 pla) (amF f L c mf (tkA k x).2 fro) (amT f L c mf (tkA k x).2 to) (tmz (tkA k x).2)).1 = 3)) (h6 : ¬ ((pfm f L c pf pl pc nx sz (tkA k x).2 sf sl mf (amP f L c mf (tkA k x).2 pla) (amF f L c mf (tkA k x).2 fro) (amT f L c mf (tkA k x).2 to) (tmz (tkA k x).2)).1 = 2)) (h7 : ¬ ((pfm f L c pf pl pc nx sz (tkA k x).2 sf sl mf (amP f L c mf (tkA k x).2 pla) (amF f L c mf (tkA k x).2 fro) (amT f L c mf (tkA k x).2 to) (tmz (tkA k x).2)).1 = 0)) : stk f L c bf bL bc pf pl pc nx sz k kf ks lf ls sf sl mf rf ty pla fro to x rep = (0, (pfm f L c pf pl pc nx sz (tkA k x).2 sf sl mf (amP f L c mf (tkA k x).2 pla) (amF f L c mf (tkA k x).2 fro) (amT f L c mf (tkA k x).2 to) (tmz (tkA k x).2)).2.1, (pfm f L c pf pl pc nx sz (tkA k x).2 sf sl mf (amP f L c mf (tkA k x).2 pla) (amF f L c mf (tkA k x).2 fro) (amT f L c mf (tkA k x).2 to) (tmz (tkA k x).2)).2.2.1, (pfm f L c pf pl pc nx sz (tkA k x).2 sf sl mf (amP f L c mf (tkA k x).2 pla) (amF f L c mf (tkA k x).2 fro) (amT f L c mf (tkA k x).2 to) (tmz (tkA k x).2)).2.2.2.1, zcp f bf 0 0 60, L, c, pf, pl, pc, (pfm f L c pf pl pc nx sz (tkA k x).2 sf sl mf (amP f L c mf (tkA k x).2 pla) (amF f L c mf (tkA k x).2 fro) (amT f L c mf (tkA k x).2 to) (tmz (tkA k x).2)).2.2.2.2.2.2.2.1, (pfm f L c pf pl pc nx sz (tkA k x).2 sf sl mf (amP f L c mf (tkA k x).2 pla) (amF f L c mf (tkA k x).2 fro) (amT f L c mf (tkA k x).2 to) (tmz (tkA k x).2)).2.2.2.2.2.2.2.2, (fun _ => 0), addF kf ks x, 0, lf, ls, (pfm f L c pf pl pc nx sz (tkA k x).2 sf sl mf (amP f L c mf (tkA k x).2 pla) (amF f L c mf (tkA k x).2 fro) (amT f L c mf (tkA k x).2 to) (tmz (tkA k x).2)).2.2.2.2.1, (pfm f L c pf pl pc nx sz (tkA k x).2 sf sl mf (amP f L c mf (tkA k x).2 pla) (amF f L c mf (tkA k x).2 fro) (amT f L c mf (tkA k x).2 to) (tmz (tkA k x).2)).2.2.2.2.2.1, (pfm f L c pf pl pc nx sz (tkA k x).2 sf sl mf (amP f L c mf (tkA k x).2 pla) (amF f L c mf (tkA k x).2 fro) (amT f L c mf (tkA k x).2 to) (tmz (tkA k x).2)).2.2.2.2.2.2.1, rf, ty, amP f L c mf (tkA k x).2 pla, amF f L c mf (tkA k x).2 fro, amT f L c mf (tkA k x).2 to) := by unfold stk; rw [if_neg h1, if_neg h2, if_neg h3, if_neg h4, if_neg h5, if_neg h6, if_neg h7]
/-- a Command that waits: what it can be -/
def okC (k : Int → Int) : Prop := 0 ≤ k 1 ∧ k 1 ≤ 4 ∧ 0 ≤ k 6 ∧ k 6 ≤ 9 ∧ (k 1 = 0 → k 2 = 0) ∧ (k 1 = 1 ∨ k 1 = 2 → k 2 = 100 ∨ k 2 = 121 ∨ k 2 = 99) ∧ (k 1 = 3 → k 2 = 114 ∨ k 5 = 1) ∧ (k 1 = 4 → k 2 = 109 ∨ k 5 = 1)
theorem zup_at (g : Int → Int) (i v j : Int) : zup g i v j = if j = i then v else g j := rfl
theorem tkM_f (k : Int → Int) (x : Int) : (tkM k x).2 2 = k 2 ∧ (tkM k x).2 5 = 1 ∧ (tkM k x).2 6 = mOf x ∧ ((tkM k x).1 = 0 → 7 ≤ mOf x ∧ (tkM k x).2 1 = if mOf x = 9 then 4 else 3) ∧ ((tkM k x).1 = 1 → 0 ≤ mOf x ∧ mOf x < 7) := by
  have h := mOf_in x
  by_cases h1 : mOf x = -1
  · rw [tkM_1 h1]; simp [zup_at, h1]
  · by_cases h2 : mOf x < 7
    · rw [tkM_2 h1 h2]; simp [zup_at]; omega
    · rw [tkM_3 h1 h2]; simp [zup_at]; omega
theorem tkA_w {k : Int → Int} {x : Int} (h : okC k) (h1 : (tkA k x).1 = 1) : 0 ≤ (tkA k x).2 6 ∧ (tkA k x).2 6 ≤ 9 ∧ ((tkA k x).2 2 = 100 ∨ (tkA k x).2 2 = 121 ∨ (tkA k x).2 2 = 99 → 1 ≤ (tkA k x).2 5 ∧ (tkA k x).2 5 ≤ 5) := by
  obtain ⟨a1, a2, a3, a4, a5, a6, a7, a8⟩ := h
  have hm := tkM_f k x
  have hmi := mOf_in x
  by_cases e0 : k 1 = 0
  · rw [tkA_1 e0] at h1 ⊢
    have e2 := a5 e0
    by_cases c1 : isFg x (k 3)
    · rw [tkV_1 c1] at h1; simp at h1
    by_cases c2 : x = 100 ∨ x = 121 ∨ x = 99
    · rw [tkV_2 c1 c2] at h1; simp at h1
    by_cases c3 : x = 114
    · rw [tkV_3 c1 c2 c3] at h1; simp at h1
    by_cases c4 : x = 109
    · rw [tkV_4 c1 c2 c3 c4] at h1; simp at h1
    by_cases c5 : x = 120
    · rw [tkV_5 c1 c2 c3 c4 c5]; simp [zup_at]; omega
    by_cases c6 : x = 126 ∨ x = 112 ∨ x = 80 ∨ x = 105 ∨ x = 97 ∨ x = 73 ∨ x = 65 ∨ x = 117
    · rw [tkV_6 c1 c2 c3 c4 c5 c6]; simp [zup_at]; omega
    · rw [tkV_7 c1 c2 c3 c4 c5 c6] at h1 ⊢; omega
  by_cases e1 : k 1 = 1
  · rw [tkA_2 e0 e1] at h1 ⊢
    by_cases c1 : isFg x (k 4)
    · rw [tkR_1 c1] at h1; simp at h1
    by_cases c2 : x = k 2
    · rw [tkR_2 c1 c2]; simp [zup_at]; omega
    by_cases c3 : x = 105 ∨ x = 97
    · rw [tkR_3 c1 c2 c3] at h1; simp at h1
    · rw [tkR_4 c1 c2 c3] at h1 ⊢; omega
  by_cases e2 : k 1 = 2
  · rw [tkA_3 e0 e1 e2] at h1 ⊢
    by_cases c1 : x ≠ 119 ∧ x ≠ 98
    · rw [tkO_1 c1] at h1; simp at h1
    · rw [tkO_2 c1]; simp [zup_at]; omega
  by_cases e3 : k 1 = 3
  · rw [tkA_4 e0 e1 e2 e3]; simp [zup_at]; omega
  · rw [tkA_5 e0 e1 e2 e3]; simp [zup_at]; omega
theorem tkA_c {k : Int → Int} {x : Int} (h : okC k) (h1 : (tkA k x).1 = 0) : okC (tkA k x).2 := by
  obtain ⟨a1, a2, a3, a4, a5, a6, a7, a8⟩ := h
  have hm := tkM_f k x
  have hmi := mOf_in x
  unfold okC
  by_cases e0 : k 1 = 0
  · rw [tkA_1 e0] at h1 ⊢
    have e2 := a5 e0
    by_cases c1 : isFg x (k 3)
    · rw [tkV_1 c1]; simp [zup_at]; omega
    by_cases c2 : x = 100 ∨ x = 121 ∨ x = 99
    · rw [tkV_2 c1 c2]; simp [zup_at]; omega
    by_cases c3 : x = 114
    · rw [tkV_3 c1 c2 c3]; simp [zup_at]; omega
    by_cases c4 : x = 109
    · rw [tkV_4 c1 c2 c3 c4]; simp [zup_at]; omega
    by_cases c5 : x = 120
    · rw [tkV_5 c1 c2 c3 c4 c5] at h1; simp at h1
    by_cases c6 : x = 126 ∨ x = 112 ∨ x = 80 ∨ x = 105 ∨ x = 97 ∨ x = 73 ∨ x = 65 ∨ x = 117
    · rw [tkV_6 c1 c2 c3 c4 c5 c6] at h1; simp at h1
    · rw [tkV_7 c1 c2 c3 c4 c5 c6] at h1 ⊢; omega
  by_cases e1 : k 1 = 1
  · rw [tkA_2 e0 e1] at h1 ⊢
    by_cases c1 : isFg x (k 4)
    · rw [tkR_1 c1]; simp [zup_at]; omega
    by_cases c2 : x = k 2
    · rw [tkR_2 c1 c2] at h1; simp at h1
    by_cases c3 : x = 105 ∨ x = 97
    · rw [tkR_3 c1 c2 c3]; simp [zup_at]; omega
    · rw [tkR_4 c1 c2 c3] at h1 ⊢; omega
  by_cases e2 : k 1 = 2
  · rw [tkA_3 e0 e1 e2] at h1 ⊢
    by_cases c1 : x ≠ 119 ∧ x ≠ 98
    · rw [tkO_1 c1] at h1; simp at h1
    · rw [tkO_2 c1] at h1; simp at h1
  by_cases e3 : k 1 = 3
  · rw [tkA_4 e0 e1 e2 e3] at h1; simp at h1
  · rw [tkA_5 e0 e1 e2 e3] at h1
    split at h1 <;> simp at h1
theorem wFg_in {n x : Int} (hn : 0 ≤ n ∧ n ≤ 99) (hx : 0 ≤ x ∧ x ≤ 126) (h : isFg x n) : 0 ≤ wFg n x ∧ wFg n x ≤ 99 := by unfold wFg; omega
theorem tkM_r {k : Int → Int} {x : Int} (hk : ∀ j, rng (k j)) : (∀ j, rng ((tkM k x).2 j)) ∧ (tkM k x).2 3 = k 3 ∧ (tkM k x).2 4 = k 4 := by
  have hmi := mOf_in x
  by_cases h1 : mOf x = -1
  · rw [tkM_1 h1]; exact ⟨zup_rng (zup_rng hk (by omega)) (by omega), rfl, rfl⟩
  · by_cases h2 : mOf x < 7
    · rw [tkM_2 h1 h2]; exact ⟨zup_rng (zup_rng hk (by omega)) (by omega), rfl, rfl⟩
    · rw [tkM_3 h1 h2]; exact ⟨zup_rng (zup_rng (zup_rng hk (by omega)) (by omega)) (by omega), rfl, rfl⟩
theorem tkA_r {k : Int → Int} {x : Int} (hk : ∀ j, rng (k j)) (h3 : 0 ≤ k 3 ∧ k 3 ≤ 99) (h4 : 0 ≤ k 4 ∧ k 4 ≤ 99) (hx : 0 ≤ x ∧ x ≤ 126) : (∀ j, rng ((tkA k x).2 j)) ∧ (0 ≤ (tkA k x).2 3 ∧ (tkA k x).2 3 ≤ 99) ∧ (0 ≤ (tkA k x).2 4 ∧ (tkA k x).2 4 ≤ 99) ∧ (0 ≤ (tkA k x).1 ∧ (tkA k x).1 ≤ 2) := by
  obtain ⟨m1, m2, m3⟩ := tkM_r (x := x) hk
  have m4 : 0 ≤ (tkM k x).1 ∧ (tkM k x).1 ≤ 2 := by unfold tkM; split; simp; split <;> simp
  by_cases e0 : k 1 = 0
  · rw [tkA_1 e0]
    by_cases c1 : isFg x (k 3)
    · have := wFg_in h3 hx c1
      rw [tkV_1 c1]; exact ⟨zup_rng hk (by omega), this, h4, by simp⟩
    by_cases c2 : x = 100 ∨ x = 121 ∨ x = 99
    · rw [tkV_2 c1 c2]; exact ⟨zup_rng (zup_rng hk (by omega)) (by omega), h3, h4, by simp⟩
    by_cases c3 : x = 114
    · rw [tkV_3 c1 c2 c3]; exact ⟨zup_rng (zup_rng hk (by omega)) (by omega), h3, h4, by simp⟩
    by_cases c4 : x = 109
    · rw [tkV_4 c1 c2 c3 c4]; exact ⟨zup_rng (zup_rng hk (by omega)) (by omega), h3, h4, by simp⟩
    by_cases c5 : x = 120
    · rw [tkV_5 c1 c2 c3 c4 c5]; exact ⟨zup_rng (zup_rng hk (by omega)) (by omega), h3, h4, by simp⟩
    by_cases c6 : x = 126 ∨ x = 112 ∨ x = 80 ∨ x = 105 ∨ x = 97 ∨ x = 73 ∨ x = 65 ∨ x = 117
    · rw [tkV_6 c1 c2 c3 c4 c5 c6]; exact ⟨zup_rng hk (by omega), h3, h4, by simp⟩
    · rw [tkV_7 c1 c2 c3 c4 c5 c6, m2, m3]; exact ⟨m1, h3, h4, m4⟩
  by_cases e1 : k 1 = 1
  · rw [tkA_2 e0 e1]
    by_cases c1 : isFg x (k 4)
    · have := wFg_in h4 hx c1
      rw [tkR_1 c1]; exact ⟨zup_rng hk (by omega), h3, this, by simp⟩
    by_cases c2 : x = k 2
    · rw [tkR_2 c1 c2]; exact ⟨zup_rng hk (by omega), h3, h4, by simp⟩
    by_cases c3 : x = 105 ∨ x = 97
    · rw [tkR_3 c1 c2 c3]; exact ⟨zup_rng (zup_rng hk (by omega)) (by omega), h3, h4, by simp⟩
    · rw [tkR_4 c1 c2 c3, m2, m3]; exact ⟨m1, h3, h4, m4⟩
  by_cases e2 : k 1 = 2
  · rw [tkA_3 e0 e1 e2]
    by_cases c1 : x ≠ 119 ∧ x ≠ 98
    · rw [tkO_1 c1]; exact ⟨hk, h3, h4, by simp⟩
    · rw [tkO_2 c1]; exact ⟨zup_rng hk (by omega), h3, h4, by simp⟩
  by_cases e3 : k 1 = 3
  · rw [tkA_4 e0 e1 e2 e3]; exact ⟨zup_rng hk (by omega), h3, h4, by simp⟩
  · rw [tkA_5 e0 e1 e2 e3]; exact ⟨zup_rng hk (by omega), h3, h4, by split <;> simp⟩
theorem plc_in {f : Int → Int} {L c : Int} {mf : Int → Int} {m n a : Int} (hL : 0 ≤ L ∧ L ≤ 60) (hc : 0 ≤ c ∧ c ≤ 60) (hm : ∀ j, -1 ≤ mf j) : plc f L c mf m n a = -1 ∨ (0 ≤ plc f L c mf m n a ∧ plc f L c mf m n a ≤ L ∧ (m = 8 → min c (la L) + 1 ≤ plc f L c mf m n a)) := by
  have hla := la_in hL.1
  by_cases h9 : m = 9
  · rw [plc_1 h9]
    unfold pmk
    have := hm a
    split <;> omega
  · by_cases h7 : 7 ≤ m
    · rw [plc_2 h9 h7]
      have := fb_in f L a n (min c (la L) + 1) 0
      omega
    · rw [plc_3 (by omega)]
      have := ldN_in (f := f) (L := L) (m := m) n.toNat (min c (la L)) (by omega) (by omega)
      omega
theorem amR {f : Int → Int} {L c : Int} {mf k : Int → Int} {fro to : Int} (hL : 0 ≤ L ∧ L ≤ 60) (hc : 0 ≤ c ∧ c ≤ la L) (hm : ∀ j, -1 ≤ mf j) (h3 : 0 ≤ k 3 ∧ k 3 ≤ 99) (h4 : 0 ≤ k 4 ∧ k 4 ≤ 99) (h5 : 1 ≤ k 5 ∧ k 5 ≤ 5) (ho : amO f L c mf k ≠ 0) : 0 ≤ amF f L c mf k fro ∧ amF f L c mf k fro ≤ 60 ∧ rng (amT f L c mf k to) ∧ amT f L c mf k to ≤ L := by
  have hla := la_in hL.1
  obtain ⟨t1, t2, -, -⟩ := tmz_in h3 h4
  by_cases e1 : k 5 = 1
  · rw [amO_1 e1] at ho
    rw [amF_1 e1, amT_1 e1]
    have hp := plc_in (f := f) (L := L) (c := c) (mf := mf) (m := k 6) (n := tmz k) (a := k 8) hL (by omega) hm
    generalize plc f L c mf (k 6) (tmz k) (k 8) = p at ho hp ⊢
    have hne : p ≠ -1 := fun h => ho (b2z_f (fun q => q h))
    have hb : 0 ≤ b2z (tkP (k 6)) ∧ b2z (tkP (k 6)) ≤ 1 := by unfold b2z; split <;> omega
    unfold aMf aMt aMp
    rw [if_neg hne, if_neg hne, if_neg hne]
    by_cases e8 : k 6 = 8
    · rw [if_pos e8]; omega
    · rw [if_neg e8]; omega
  by_cases e2 : k 5 = 2
  · rw [amO_2 e1 e2] at ho
    have hne : L ≠ 0 := fun h => ho (b2z_f (fun q => q h))
    rw [amF_2 e1 e2, amT_2 e1 e2, if_neg hne, if_neg hne]
    have a1 := bg_in f L (kd f L c) c
    have a2 := bh_in f L (kd f L c) c
    have a3 := bh_in f L 0 (bh f L (kd f L c) c)
    split <;> omega
  by_cases e3 : k 5 = 3
  · rw [amO_3 e1 e2 e3] at ho
    have hne : brC f L c ≠ -1 := fun h => ho (b2z_f (fun q => q h))
    rw [amF_3 e1 e2 e3, amT_3 e1 e2 e3, if_neg hne, if_neg hne]
    have a1 := op_in f L c c 0
    have a2 := cl_in f L (op f L c c 0 + 1) 0
    have a3 : op f L c c 0 ≠ -1 ∧ brC f L c = cl f L (op f L c c 0 + 1) 0 := by
      unfold brC at hne ⊢
      split at hne
      · exact absurd rfl hne
      · rename_i q; exact ⟨q, if_neg q⟩
    split <;> omega
  by_cases e4 : k 5 = 4
  · rw [amF_4 e1 e2 e3 e4, amT_4 e1 e2 e3 e4]; omega
  · rw [amF_5 e1 e2 e3 e4 (by omega), amT_5 e1 e2 e3 e4 (by omega)]; omega
theorem amO_in (f : Int → Int) (L c : Int) (mf k : Int → Int) : rng (amO f L c mf k) := by
  unfold amO
  split; exact b2z_rng _
  split; exact b2z_rng _
  split; exact b2z_rng _
  split; exact b2z_rng _
  decide
theorem amP_in {f : Int → Int} {L c : Int} {mf k : Int → Int} {pla : Int} (hL : 0 ≤ L ∧ L ≤ 60) (hc : 0 ≤ c ∧ c ≤ 60) (hm : ∀ j, -1 ≤ mf j) (hp : rng pla) : rng (amP f L c mf k pla) := by
  by_cases e1 : k 5 = 1
  · rw [amP_1 e1]
    have h := plc_in (f := f) (L := L) (c := c) (mf := mf) (m := k 6) (n := tmz k) (a := k 8) hL hc hm
    unfold aMp
    omega
  · rw [amP_2 e1]; exact hp

/-- what holds of a Desk between calls -/
def okD (f : Int → Int) (L c : Int) (bf : Int → Int) (bL bc : Int) (pf pl pc : Int → Int) (nx sz : Int) (k kf : Int → Int) (ks : Int) (lf : Int → Int) (ls : Int) (sf : Int → Int) (sl : Int) (mf rf : Int → Int) (ty pla fro to : Int) : Prop :=
  (∀ j, rng (f j)) ∧ (0 ≤ L ∧ L ≤ 60) ∧ (0 ≤ c ∧ c ≤ L ∧ (ty = 0 → c ≤ la L)) ∧ (∀ j, rng (bf j)) ∧ (0 ≤ bL ∧ bL ≤ 60) ∧ (0 ≤ bc ∧ bc ≤ la bL) ∧ (∀ j, rng (pf j)) ∧ (∀ j, (0 ≤ pl j ∧ pl j ≤ 60) ∧ 0 ≤ pc j ∧ pc j ≤ la (pl j)) ∧ (0 ≤ nx ∧ nx < 8) ∧ (0 ≤ sz ∧ sz ≤ 8) ∧ (∀ j, rng (k j)) ∧ (0 ≤ k 3 ∧ k 3 ≤ 99) ∧ (0 ≤ k 4 ∧ k 4 ≤ 99) ∧ (∀ j, 0 ≤ kf j ∧ kf j ≤ 126) ∧ (0 ≤ ks ∧ ks ≤ 31) ∧ (∀ j, 0 ≤ lf j ∧ lf j ≤ 126) ∧ (0 ≤ ls ∧ ls ≤ 31) ∧ (∀ j, rng (sf j)) ∧ (0 ≤ sl ∧ sl ≤ 60) ∧ (∀ j, -1 ≤ mf j ∧ mf j ≤ 60) ∧ (∀ j, 1 ≤ rf j ∧ rf j ≤ 9) ∧ (ty = 0 ∨ ty = 1) ∧ rng pla ∧ rng fro ∧ rng to ∧ (ty = 0 → okC k)

set_option maxRecDepth 100000 in
theorem m_X1_remember (G : zG) {f bf pf pl pc k kf lf sf mf rf : Int → Int} {L c bL bc nx sz ks ls sl ty pla fro to : Int} {rest : List va_E} {rep : Int} (hr : rep = 0 ∨ rep = 1) (hbf : ∀ j, rng (bf j)) (hbL : 0 ≤ bL ∧ bL ≤ 60) (hpf : ∀ j, rng (pf j)) (rpl : ∀ j, rng (pl j)) (rpc : ∀ j, rng (pc j)) (hnx : 0 ≤ nx ∧ nx < 8) (hsz : 0 ≤ sz ∧ sz ≤ 8) (rkf : ∀ j, rng (kf j)) (hks : 0 ≤ ks ∧ ks ≤ 31) (rlf : ∀ j, rng (lf j)) (hls : 0 ≤ ls ∧ ls ≤ 31) : zMet G yX1_remember cX1_remember 2 none 2 47 [.ref (G.ad 0), .int (iI rep)] (dkL G f L c bf bL bc pf pl pc nx sz k kf ks lf ls sf sl mf rf ty pla fro to ++ rest) (zO0 (dkL G f L c bf bL bc (zcp bf pf 0 (nx * 60) 60) (zup pl nx bL) (zup pc nx bc) ((nx + 1) % 8) (min (sz + 1) 8) k kf ks (if rep = 0 then zcp kf lf 0 0 30 else lf) (if rep = 0 then ks else ls) sf sl mf rf ty pla fro to ++ rest)) := by
  refine zMet.of (by decide) (Nat.le_of_ble_eq_true rfl) ?_
  intro E C R
  have C : zC G E RX1 cX1_remember 2 2 47 := C
  show V G E 0 [some (.ref (G.ad 0)), some (.int (iI rep))] [] (dkL G f L c bf bL bc pf pl pc nx sz k kf ks lf ls sf sl mf rf ty pla fro to ++ rest)
  refine V_aload_n C dX1_remember_0 rfl ?_
  refine vg_X1_24 C dX1_remember_1 rfl rfl ?_
  refine V_aload_n C dX1_remember_4 rfl ?_
  refine vg_X1_18 C dX1_remember_5 rfl rfl ?_
  refine V_callN C lk_X1_152 (m_X3_keep G (i := 5) (j1 := 6) (j2 := 7) (j3 := 8) (a := 3) (b := 4) ⟨rfl, rfl, rfl, rfl, hpf, rpl, rpc, by omega, by omega, by omega, by omega, by decide, by decide, by decide⟩ ⟨rfl, rfl, hbf, by omega, by omega⟩ (by decide) (by decide)) dX1_remember_8 rfl rfl rfl rfl (by decide) (Nat.le_of_ble_eq_true rfl) (kO0 ?_)
  refine V_iload_n C dX1_remember_11 rfl ?_
  refine V_if_ne (tgt := 29) C dX1_remember_12 (by decide) (by omega) (fun c_12 => ?_) (fun c_12 => ?_)
  · skip
    exact V_vret C R dX1_remember_29 ⟨rfl, by first | (rw [if_pos (by omega), if_pos (by omega)] <;> rfl) | (rw [if_neg (by omega), if_neg (by omega)] <;> rfl)⟩
  · skip
    refine V_aload_n C dX1_remember_15 rfl ?_
    refine vg_X1_38 C dX1_remember_16 rfl rfl ?_
    refine V_aload_n C dX1_remember_19 rfl ?_
    refine vg_X1_31 C dX1_remember_20 rfl rfl ?_
    refine vg_X1_101 C dX1_remember_23 rfl rfl ?_
    refine V_callN C lk_X1_62 (m_X2_become G (i := 12) (j := 13) (i2 := 10) (j2 := 11) ⟨rfl, rfl, rlf, by omega, by omega⟩ ⟨rfl, rfl, rkf, by omega, by omega⟩ (by decide)) dX1_remember_26 rfl rfl rfl rfl (by decide) (Nat.le_of_ble_eq_true rfl) (kO0 ?_)
    exact V_vret C R dX1_remember_29 ⟨rfl, by first | (rw [if_pos (by omega), if_pos (by omega)] <;> rfl) | (rw [if_neg (by omega), if_neg (by omega)] <;> rfl)⟩

set_option maxRecDepth 100000 in
theorem m_X1_typeIn (G : zG) {f bf pf pl pc k kf lf sf mf rf : Int → Int} {L c bL bc nx sz ks ls sl ty pla fro to : Int} {rest : List va_E} {x rep : Int} (O : okD f L c bf bL bc pf pl pc nx sz k kf ks lf ls sf sl mf rf ty pla fro to) (hx : 0 ≤ x ∧ x ≤ 126) (hrep : rep = 0 ∨ rep = 1) (ht : ty = 1) : zMet G yX1_typeIn cX1_typeIn 3 (some .int) 3 68 [.ref (G.ad 0), .int (iI x), .int (iI rep)] (dkL G f L c bf bL bc pf pl pc nx sz k kf ks lf ls sf sl mf rf ty pla fro to ++ rest) (zO (.int (iI (tin f L c bf bL bc pf pl pc nx sz k kf ks lf ls sf sl mf rf ty pla fro to x rep).1)) (dkT G (tin f L c bf bL bc pf pl pc nx sz k kf ks lf ls sf sl mf rf ty pla fro to x rep).2 ++ rest)) := by
  refine zMet.of (by decide) (Nat.le_of_ble_eq_true rfl) ?_
  intro E C R
  have C : zC G E RX1 cX1_typeIn 3 3 68 := C
  show V G E 0 [some (.ref (G.ad 0)), some (.int (iI x)), some (.int (iI rep))] [] (dkL G f L c bf bL bc pf pl pc nx sz k kf ks lf ls sf sl mf rf ty pla fro to ++ rest)
  obtain ⟨hf, hL, hc, hbf, hbL, hbc, hpf, hplc, hnx, hsz, hk, hk3, hk4, hkf, hks, hlf, hls, hsf, hsl, hmf, hrf, hty, hpa, hfr, hto, hcm⟩ := id O
  have hla := la_in hL.1
  have hlb := la_in hbL.1
  have rpl : ∀ j, rng (pl j) := fun j => by have := hplc j; omega
  have rpc : ∀ j, rng (pc j) := fun j => by have := hplc j; have := la_in (hplc j).1.1; omega
  have rkf : ∀ j, rng (kf j) := fun j => by have := hkf j; omega
  have rlf : ∀ j, rng (lf j) := fun j => by have := hlf j; omega
  have rmf : ∀ j, rng (mf j) := fun j => by have := hmf j; omega
  have gmf : ∀ j, -1 ≤ mf j := fun j => (hmf j).1
  refine V_aload_n C dX1_typeIn_0 rfl ?_
  refine vg_X1_31 C dX1_typeIn_1 rfl rfl ?_
  refine vg_X1_101 C dX1_typeIn_4 rfl rfl ?_
  refine V_iload_n C dX1_typeIn_7 rfl ?_
  refine V_callN C lk_X1_138 (m_X2_add G (i := 10) (j := 11) ⟨rfl, rfl, rkf, by omega, by omega⟩) dX1_typeIn_8 rfl rfl rfl rfl (by decide) (Nat.le_of_ble_eq_true rfl) (kO0 ?_)
  refine V_iload_n C dX1_typeIn_11 rfl ?_
  refine V_bipush C dX1_typeIn_12 (by decide) ?_
  refine V_icmp_ne (tgt := 56) C dX1_typeIn_14 (by decide) (by omega) (by omega) (fun c_14 => ?_) (fun c_14 => ?_)
  · skip
    refine V_aload_n C dX1_typeIn_56 rfl ?_
    refine vg_X1_12 C dX1_typeIn_57 rfl rfl ?_
    refine vg_X1_82 C dX1_typeIn_60 rfl rfl ?_
    refine V_bipush C dX1_typeIn_63 (by decide) ?_
    refine V_icmp_lt (tgt := 71) C dX1_typeIn_65 (by decide) (by omega) (by omega) (fun c_65 => ?_) (fun c_65 => ?_)
    · skip
      refine V_aload_n C dX1_typeIn_71 rfl ?_
      refine vg_X1_12 C dX1_typeIn_72 rfl rfl ?_
      refine V_aload_n C dX1_typeIn_75 rfl ?_
      refine vg_X1_12 C dX1_typeIn_76 rfl rfl ?_
      refine vg_X1_85 C dX1_typeIn_79 rfl rfl ?_
      refine V_iconst C dX1_typeIn_82 ?_
      refine V_callN C lk_X1_148 (m_X5_makeRoom G (i := 1) (j := 2) ⟨rfl, rfl, hf, by omega, by omega⟩ (by omega) (by omega)) dX1_typeIn_83 rfl rfl rfl rfl (by decide) (Nat.le_of_ble_eq_true rfl) (kO0 ?_)
      refine V_aload_n C dX1_typeIn_86 rfl ?_
      refine vg_X1_12 C dX1_typeIn_87 rfl rfl ?_
      refine vg_X1_79 C dX1_typeIn_90 rfl rfl ?_
      refine V_aload_n C dX1_typeIn_93 rfl ?_
      refine vg_X1_12 C dX1_typeIn_94 rfl rfl ?_
      refine vg_X1_85 C dX1_typeIn_97 rfl rfl ?_
      refine V_iload_n C dX1_typeIn_100 rfl ?_
      refine V_iast C dX1_typeIn_101 rfl (by omega) (by omega) (by decide) ?_
      refine V_aload_n C dX1_typeIn_102 rfl ?_
      refine vg_X1_12 C dX1_typeIn_103 rfl rfl ?_
      refine V_dup C dX1_typeIn_106 rfl ?_
      refine vg_X1_85 C dX1_typeIn_107 rfl rfl ?_
      refine V_iconst C dX1_typeIn_110 ?_
      refine V_iadd C dX1_typeIn_111 ?_
      refine vp_X1_85 C dX1_typeIn_112 rfl (Nat.le_of_ble_eq_true rfl) ?_
      refine V_iconst C dX1_typeIn_115 ?_
      exact V_iret C R dX1_typeIn_116 ⟨by rw [tin_3 (by omega) (by omega)], by rw [tin_3 (by omega) (by omega)] <;> rfl⟩
    · skip
      refine V_bipush C dX1_typeIn_68 (by decide) ?_
      exact V_iret C R dX1_typeIn_70 ⟨by rw [tin_2 (by omega) (by omega)], by rw [tin_2 (by omega) (by omega)] <;> rfl⟩
  · skip
    refine V_aload_n C dX1_typeIn_17 rfl ?_
    refine V_iconst C dX1_typeIn_18 ?_
    refine vp_X1_75 C dX1_typeIn_19 rfl (Nat.le_of_ble_eq_true rfl) (by decide) ?_
    refine V_aload_n C dX1_typeIn_22 rfl ?_
    refine vg_X1_12 C dX1_typeIn_23 rfl rfl ?_
    refine V_iconst C dX1_typeIn_26 ?_
    refine V_aload_n C dX1_typeIn_27 rfl ?_
    refine vg_X1_12 C dX1_typeIn_28 rfl rfl ?_
    refine vg_X1_85 C dX1_typeIn_31 rfl rfl ?_
    refine V_iconst C dX1_typeIn_34 ?_
    refine V_isub C dX1_typeIn_35 ?_
    refine V_max C wm_X1_142 dX1_typeIn_36 (by omega) (by omega) (by decide) (Nat.le_of_ble_eq_true rfl) ?_
    refine vp_X1_85 C dX1_typeIn_39 rfl (Nat.le_of_ble_eq_true rfl) ?_
    refine V_aload_n C dX1_typeIn_42 rfl ?_
    refine V_iload_n C dX1_typeIn_43 rfl ?_
    refine V_callV C lk_X1_134 (m_X1_remember G hrep (hbf := hbf) (hbL := hbL) (hpf := hpf) (rpl := rpl) (rpc := rpc) (hnx := hnx) (hsz := hsz) (rkf := addF_rng rkf (by omega)) (hks := by omega) (rlf := rlf) (hls := hls)) dX1_typeIn_44 rfl rfl rfl rfl (by decide) (Nat.le_of_ble_eq_true rfl) (kO0 ?_)
    refine V_aload_n C dX1_typeIn_47 rfl ?_
    refine vg_X1_31 C dX1_typeIn_48 rfl rfl ?_
    refine V_callN C lk_X1_98 (m_X0_clear G (i := 9) (j := 10) (jj := 11) (f := addF kf ks x) (s := min (ks + 1) 31) (k := k) ⟨rfl, ⟨rfl, rfl, addF_rng rkf (by omega), by omega, by omega⟩, hk, by decide, hk3.1, hk3.2, hk4.1, hk4.2⟩) dX1_typeIn_51 rfl rfl rfl rfl (by decide) (Nat.le_of_ble_eq_true rfl) (kO0 ?_)
    refine V_iconst C dX1_typeIn_54 ?_
    exact V_iret C R dX1_typeIn_55 ⟨by rw [tin_1 (by omega)], by rw [tin_1 (by omega)] <;> rfl⟩
