/-! ===== Desk: perform ===== -/
abbrev zPf : Type := Int × (Int → Int) × Int × Int × (Int → Int) × Int × (Int → Int) × Int × Int

def pfm (f : Int → Int) (L c : Int) (pf pl pc : Int → Int) (nx sz : Int) (k sf : Int → Int) (sl : Int) (mf : Int → Int) (pla fro to n : Int) : zPf := if k 2 = 0 then (1, f, L, min pla (la L), sf, sl, mf, nx, sz) else if k 2 = 100 then (if fro < to then 2 else 1, (ctT f L fro to).1, (ctT f L fro to).2, min fro (la (ctT f L fro to).2), (stS f sf sl fro to).1, (stS f sf sl fro to).2, mf, nx, sz) else if k 2 = 121 then (1, f, L, min fro (la L), (stS f sf sl fro to).1, (stS f sf sl fro to).2, mf, nx, sz) else if k 2 = 99 then (3, (ctT f L fro to).1, (ctT f L fro to).2, fro, (stS f sf sl fro to).1, (stS f sf sl fro to).2, mf, nx, sz) else if k 2 = 114 then (if c + n > L then 0 else 2, if c + n > L then f else ovr f c (c + n) (k 8), L, if c + n > L then c else c + n - 1, sf, sl, mf, nx, sz) else if k 2 = 126 then (if L = 0 then 0 else 2, if L = 0 then f else sws f c (min L (c + n)), L, if L = 0 then c else min (min L (c + n)) (la L), sf, sl, mf, nx, sz) else if k 2 = 112 then (if n * sl = 0 ∨ n * sl > 60 - L then 0 else 2, if n * sl = 0 ∨ n * sl > 60 - L then f else pin (zcp f f (min (c + 1) L) (min (c + 1) L + n * sl) (L - min (c + 1) L)) sf sl (min (c + 1) L) (min (c + 1) L + n * sl), if n * sl = 0 ∨ n * sl > 60 - L then L else L + n * sl, if n * sl = 0 ∨ n * sl > 60 - L then c else min (c + 1) L + n * sl - 1, sf, sl, mf, nx, sz) else if k 2 = 80 then (if n * sl = 0 ∨ n * sl > 60 - L then 0 else 2, if n * sl = 0 ∨ n * sl > 60 - L then f else pin (zcp f f (c) (c + n * sl) (L - c)) sf sl (c) (c + n * sl), if n * sl = 0 ∨ n * sl > 60 - L then L else L + n * sl, if n * sl = 0 ∨ n * sl > 60 - L then c else c + n * sl - 1, sf, sl, mf, nx, sz) else if k 2 = 105 then (3, f, L, c, sf, sl, mf, nx, sz) else if k 2 = 97 then (3, f, L, min (c + 1) L, sf, sl, mf, nx, sz) else if k 2 = 73 then (3, f, L, 0, sf, sl, mf, nx, sz) else if k 2 = 65 then (3, f, L, L, sf, sl, mf, nx, sz) else if k 2 = 117 ∧ sz = 0 then (0, f, L, c, sf, sl, mf, nx, sz) else if k 2 = 117 then (1, zcp pf f ((nx - min n sz) % 8 * 60) 0 60, pl ((nx - min n sz) % 8), pc ((nx - min n sz) % 8), sf, sl, mf, (nx - min n sz) % 8, sz - min n sz) else if k 2 = 109 then (if 0 ≤ k 8 ∧ k 8 < 4 then 1 else 0, f, L, c, sf, sl, if 0 ≤ k 8 ∧ k 8 < 4 then zup mf (k 8) c else mf, nx, sz) else (0, f, L, c, sf, sl, mf, nx, sz)
theorem pfm_1 {f : Int → Int} {L c : Int} {pf pl pc : Int → Int} {nx sz : Int} {k sf : Int → Int} {sl : Int} {mf : Int → Int} {pla fro to n : Int}  (h1 : k 2 = 0) : pfm f L c pf pl pc nx sz k sf sl mf pla fro to n = (1, f, L, min pla (la L), sf, sl, mf, nx, sz) := by unfold pfm; rw [if_pos h1]
theorem pfm_2 {f : Int → Int} {L c : Int} {pf pl pc : Int → Int} {nx sz : Int} {k sf : Int → Int} {sl : Int} {mf : Int → Int} {pla fro to n : Int} (h1 : ¬ (k 2 = 0)) (h2 : k 2 = 100) : pfm f L c pf pl pc nx sz k sf sl mf pla fro to n = (if fro < to then 2 else 1, (ctT f L fro to).1, (ctT f L fro to).2, min fro (la (ctT f L fro to).2), (stS f sf sl fro to).1, (stS f sf sl fro to).2, mf, nx, sz) := by unfold pfm; rw [if_neg h1, if_pos h2]
theorem pfm_3 {f : Int → Int} {L c : Int} {pf pl pc : Int → Int} {nx sz : Int} {k sf : Int → Int} {sl : Int} {mf : Int → Int} {pla fro to n : Int} (h1 : ¬ (k 2 = 0)) (h2 : ¬ (k 2 = 100)) (h3 : k 2 = 121) : pfm f L c pf pl pc nx sz k sf sl mf pla fro to n = (1, f, L, min fro (la L), (stS f sf sl fro to).1, (stS f sf sl fro to).2, mf, nx, sz) := by unfold pfm; rw [if_neg h1, if_neg h2, if_pos h3]
theorem pfm_4 {f : Int → Int} {L c : Int} {pf pl pc : Int → Int} {nx sz : Int} {k sf : Int → Int} {sl : Int} {mf : Int → Int} {pla fro to n : Int} (h1 : ¬ (k 2 = 0)) (h2 : ¬ (k 2 = 100)) (h3 : ¬ (k 2 = 121)) (h4 : k 2 = 99) : pfm f L c pf pl pc nx sz k sf sl mf pla fro to n = (3, (ctT f L fro to).1, (ctT f L fro to).2, fro, (stS f sf sl fro to).1, (stS f sf sl fro to).2, mf, nx, sz) := by unfold pfm; rw [if_neg h1, if_neg h2, if_neg h3, if_pos h4]
theorem pfm_5 {f : Int → Int} {L c : Int} {pf pl pc : Int → Int} {nx sz : Int} {k sf : Int → Int} {sl : Int} {mf : Int → Int} {pla fro to n : Int} (h1 : ¬ (k 2 = 0)) (h2 : ¬ (k 2 = 100)) (h3 : ¬ (k 2 = 121)) (h4 : ¬ (k 2 = 99)) (h5 : k 2 = 114) : pfm f L c pf pl pc nx sz k sf sl mf pla fro to n = (if c + n > L then 0 else 2, if c + n > L then f else ovr f c (c + n) (k 8), L, if c + n > L then c else c + n - 1, sf, sl, mf, nx, sz) := by unfold pfm; rw [if_neg h1, if_neg h2, if_neg h3, if_neg h4, if_pos h5]
theorem pfm_6 {f : Int → Int} {L c : Int} {pf pl pc : Int → Int} {nx sz : Int} {k sf : Int → Int} {sl : Int} {mf : Int → Int} {pla fro to n : Int} (h1 : ¬ (k 2 = 0)) (h2 : ¬ (k 2 = 100)) (h3 : ¬ (k 2 = 121)) (h4 : ¬ (k 2 = 99)) (h5 : ¬ (k 2 = 114)) (h6 : k 2 = 126) : pfm f L c pf pl pc nx sz k sf sl mf pla fro to n = (if L = 0 then 0 else 2, if L = 0 then f else sws f c (min L (c + n)), L, if L = 0 then c else min (min L (c + n)) (la L), sf, sl, mf, nx, sz) := by unfold pfm; rw [if_neg h1, if_neg h2, if_neg h3, if_neg h4, if_neg h5, if_pos h6]
theorem pfm_7 {f : Int → Int} {L c : Int} {pf pl pc : Int → Int} {nx sz : Int} {k sf : Int → Int} {sl : Int} {mf : Int → Int} {pla fro to n : Int} (h1 : ¬ (k 2 = 0)) (h2 : ¬ (k 2 = 100)) (h3 : ¬ (k 2 = 121)) (h4 : ¬ (k 2 = 99)) (h5 : ¬ (k 2 = 114)) (h6 : ¬ (k 2 = 126)) (h7 : k 2 = 112) : pfm f L c pf pl pc nx sz k sf sl mf pla fro to n = (if n * sl = 0 ∨ n * sl > 60 - L then 0 else 2, if n * sl = 0 ∨ n * sl > 60 - L then f else pin (zcp f f (min (c + 1) L) (min (c + 1) L + n * sl) (L - min (c + 1) L)) sf sl (min (c + 1) L) (min (c + 1) L + n * sl), if n * sl = 0 ∨ n * sl > 60 - L then L else L + n * sl, if n * sl = 0 ∨ n * sl > 60 - L then c else min (c + 1) L + n * sl - 1, sf, sl, mf, nx, sz) := by unfold pfm; rw [if_neg h1, if_neg h2, if_neg h3, if_neg h4, if_neg h5, if_neg h6, if_pos h7]
theorem pfm_8 {f : Int → Int} {L c : Int} {pf pl pc : Int → Int} {nx sz : Int} {k sf : Int → Int} {sl : Int} {mf : Int → Int} {pla fro to n : Int} (h1 : ¬ (k 2 = 0)) (h2 : ¬ (k 2 = 100)) (h3 : ¬ (k 2 = 121)) (h4 : ¬ (k 2 = 99)) (h5 : ¬ (k 2 = 114)) (h6 : ¬ (k 2 = 126)) (h7 : ¬ (k 2 = 112)) (h8 : k 2 = 80) : pfm f L c pf pl pc nx sz k sf sl mf pla fro to n = (if n * sl = 0 ∨ n * sl > 60 - L then 0 else 2, if n * sl = 0 ∨ n * sl > 60 - L then f else pin (zcp f f (c) (c + n * sl) (L - c)) sf sl (c) (c + n * sl), if n * sl = 0 ∨ n * sl > 60 - L then L else L + n * sl, if n * sl = 0 ∨ n * sl > 60 - L then c else c + n * sl - 1, sf, sl, mf, nx, sz) := by unfold pfm; rw [if_neg h1, if_neg h2, if_neg h3, if_neg h4, if_neg h5, if_neg h6, if_neg h7, if_pos h8]
theorem pfm_9 {f : Int → Int} {L c : Int} {pf pl pc : Int → Int} {nx sz : Int} {k sf : Int → Int} {sl : Int} {mf : Int → Int} {pla fro to n : Int} (h1 : ¬ (k 2 = 0)) (h2 : ¬ (k 2 = 100)) (h3 : ¬ (k 2 = 121)) (h4 : ¬ (k 2 = 99)) (h5 : ¬ (k 2 = 114)) (h6 : ¬ (k 2 = 126)) (h7 : ¬ (k 2 = 112)) (h8 : ¬ (k 2 = 80)) (h9 : k 2 = 105) : pfm f L c pf pl pc nx sz k sf sl mf pla fro to n = (3, f, L, c, sf, sl, mf, nx, sz) := by unfold pfm; rw [if_neg h1, if_neg h2, if_neg h3, if_neg h4, if_neg h5, if_neg h6, if_neg h7, if_neg h8, if_pos h9]
theorem pfm_10 {f : Int → Int} {L c : Int} {pf pl pc : Int → Int} {nx sz : Int} {k sf : Int → Int} {sl : Int} {mf : Int → Int} {pla fro to n : Int} (h1 : ¬ (k 2 = 0)) (h2 : ¬ (k 2 = 100)) (h3 : ¬ (k 2 = 121)) (h4 : ¬ (k 2 = 99)) (h5 : ¬ (k 2 = 114)) (h6 : ¬ (k 2 = 126)) (h7 : ¬ (k 2 = 112)) (h8 : ¬ (k 2 = 80)) (h9 : ¬ (k 2 = 105)) (h10 : k 2 = 97) : pfm f L c pf pl pc nx sz k sf sl mf pla fro to n = (3, f, L, min (c + 1) L, sf, sl, mf, nx, sz) := by unfold pfm; rw [if_neg h1, if_neg h2, if_neg h3, if_neg h4, if_neg h5, if_neg h6, if_neg h7, if_neg h8, if_neg h9, if_pos h10]
theorem pfm_11 {f : Int → Int} {L c : Int} {pf pl pc : Int → Int} {nx sz : Int} {k sf : Int → Int} {sl : Int} {mf : Int → Int} {pla fro to n : Int} (h1 : ¬ (k 2 = 0)) (h2 : ¬ (k 2 = 100)) (h3 : ¬ (k 2 = 121)) (h4 : ¬ (k 2 = 99)) (h5 : ¬ (k 2 = 114)) (h6 : ¬ (k 2 = 126)) (h7 : ¬ (k 2 = 112)) (h8 : ¬ (k 2 = 80)) (h9 : ¬ (k 2 = 105)) (h10 : ¬ (k 2 = 97)) (h11 : k 2 = 73) : pfm f L c pf pl pc nx sz k sf sl mf pla fro to n = (3, f, L, 0, sf, sl, mf, nx, sz) := by unfold pfm; rw [if_neg h1, if_neg h2, if_neg h3, if_neg h4, if_neg h5, if_neg h6, if_neg h7, if_neg h8, if_neg h9, if_neg h10, if_pos h11]
theorem pfm_12 {f : Int → Int} {L c : Int} {pf pl pc : Int → Int} {nx sz : Int} {k sf : Int → Int} {sl : Int} {mf : Int → Int} {pla fro to n : Int} (h1 : ¬ (k 2 = 0)) (h2 : ¬ (k 2 = 100)) (h3 : ¬ (k 2 = 121)) (h4 : ¬ (k 2 = 99)) (h5 : ¬ (k 2 = 114)) (h6 : ¬ (k 2 = 126)) (h7 : ¬ (k 2 = 112)) (h8 : ¬ (k 2 = 80)) (h9 : ¬ (k 2 = 105)) (h10 : ¬ (k 2 = 97)) (h11 : ¬ (k 2 = 73)) (h12 : k 2 = 65) : pfm f L c pf pl pc nx sz k sf sl mf pla fro to n = (3, f, L, L, sf, sl, mf, nx, sz) := by unfold pfm; rw [if_neg h1, if_neg h2, if_neg h3, if_neg h4, if_neg h5, if_neg h6, if_neg h7, if_neg h8, if_neg h9, if_neg h10, if_neg h11, if_pos h12]
theorem pfm_13 {f : Int → Int} {L c : Int} {pf pl pc : Int → Int} {nx sz : Int} {k sf : Int → Int} {sl : Int} {mf : Int → Int} {pla fro to n : Int} (h1 : ¬ (k 2 = 0)) (h2 : ¬ (k 2 = 100)) (h3 : ¬ (k 2 = 121)) (h4 : ¬ (k 2 = 99)) (h5 : ¬ (k 2 = 114)) (h6 : ¬ (k 2 = 126)) (h7 : ¬ (k 2 = 112)) (h8 : ¬ (k 2 = 80)) (h9 : ¬ (k 2 = 105)) (h10 : ¬ (k 2 = 97)) (h11 : ¬ (k 2 = 73)) (h12 : ¬ (k 2 = 65)) (h13 : k 2 = 117 ∧ sz = 0) : pfm f L c pf pl pc nx sz k sf sl mf pla fro to n = (0, f, L, c, sf, sl, mf, nx, sz) := by unfold pfm; rw [if_neg h1, if_neg h2, if_neg h3, if_neg h4, if_neg h5, if_neg h6, if_neg h7, if_neg h8, if_neg h9, if_neg h10, if_neg h11, if_neg h12, if_pos h13]
theorem pfm_14 {f : Int → Int} {L c : Int} {pf pl pc : Int → Int} {nx sz : Int} {k sf : Int → Int} {sl : Int} {mf : Int → Int} {pla fro to n : Int} (h1 : ¬ (k 2 = 0)) (h2 : ¬ (k 2 = 100)) (h3 : ¬ (k 2 = 121)) (h4 : ¬ (k 2 = 99)) (h5 : ¬ (k 2 = 114)) (h6 : ¬ (k 2 = 126)) (h7 : ¬ (k 2 = 112)) (h8 : ¬ (k 2 = 80)) (h9 : ¬ (k 2 = 105)) (h10 : ¬ (k 2 = 97)) (h11 : ¬ (k 2 = 73)) (h12 : ¬ (k 2 = 65)) (h13 : ¬ (k 2 = 117 ∧ sz = 0)) (h14 : k 2 = 117) : pfm f L c pf pl pc nx sz k sf sl mf pla fro to n = (1, zcp pf f ((nx - min n sz) % 8 * 60) 0 60, pl ((nx - min n sz) % 8), pc ((nx - min n sz) % 8), sf, sl, mf, (nx - min n sz) % 8, sz - min n sz) := by unfold pfm; rw [if_neg h1, if_neg h2, if_neg h3, if_neg h4, if_neg h5, if_neg h6, if_neg h7, if_neg h8, if_neg h9, if_neg h10, if_neg h11, if_neg h12, if_neg h13, if_pos h14]
theorem pfm_15 {f : Int → Int} {L c : Int} {pf pl pc : Int → Int} {nx sz : Int} {k sf : Int → Int} {sl : Int} {mf : Int → Int} {pla fro to n : Int} (h1 : ¬ (k 2 = 0)) (h2 : ¬ (k 2 = 100)) (h3 : ¬ (k 2 = 121)) (h4 : ¬ (k 2 = 99)) (h5 : ¬ (k 2 = 114)) (h6 : ¬ (k 2 = 126)) (h7 : ¬ (k 2 = 112)) (h8 : ¬ (k 2 = 80)) (h9 : ¬ (k 2 = 105)) (h10 : ¬ (k 2 = 97)) (h11 : ¬ (k 2 = 73)) (h12 : ¬ (k 2 = 65)) (h13 : ¬ (k 2 = 117 ∧ sz = 0)) (h14 : ¬ (k 2 = 117)) (h15 : k 2 = 109) : pfm f L c pf pl pc nx sz k sf sl mf pla fro to n = (if 0 ≤ k 8 ∧ k 8 < 4 then 1 else 0, f, L, c, sf, sl, if 0 ≤ k 8 ∧ k 8 < 4 then zup mf (k 8) c else mf, nx, sz) := by unfold pfm; rw [if_neg h1, if_neg h2, if_neg h3, if_neg h4, if_neg h5, if_neg h6, if_neg h7, if_neg h8, if_neg h9, if_neg h10, if_neg h11, if_neg h12, if_neg h13, if_neg h14, if_pos h15]
theorem pfm_16 {f : Int → Int} {L c : Int} {pf pl pc : Int → Int} {nx sz : Int} {k sf : Int → Int} {sl : Int} {mf : Int → Int} {pla fro to n : Int} (h1 : ¬ (k 2 = 0)) (h2 : ¬ (k 2 = 100)) (h3 : ¬ (k 2 = 121)) (h4 : ¬ (k 2 = 99)) (h5 : ¬ (k 2 = 114)) (h6 : ¬ (k 2 = 126)) (h7 : ¬ (k 2 = 112)) (h8 : ¬ (k 2 = 80)) (h9 : ¬ (k 2 = 105)) (h10 : ¬ (k 2 = 97)) (h11 : ¬ (k 2 = 73)) (h12 : ¬ (k 2 = 65)) (h13 : ¬ (k 2 = 117 ∧ sz = 0)) (h14 : ¬ (k 2 = 117)) (h15 : ¬ (k 2 = 109)) : pfm f L c pf pl pc nx sz k sf sl mf pla fro to n = (0, f, L, c, sf, sl, mf, nx, sz) := by unfold pfm; rw [if_neg h1, if_neg h2, if_neg h3, if_neg h4, if_neg h5, if_neg h6, if_neg h7, if_neg h8, if_neg h9, if_neg h10, if_neg h11, if_neg h12, if_neg h13, if_neg h14, if_neg h15]
theorem kOr {G : zG} {E : zE} {pc : Nat} {lv : List (Option Value)} {st : List Value} {A B : Prop} {v w : Value} {c1 c2 : List va_E} (h1 : A → V G E pc lv (v :: st) c1) (h2 : B → V G E pc lv (w :: st) c2) : ∀ r cs', (A ∧ zO v c1 r cs' ∨ B ∧ zO w c2 r cs') → V G E pc lv (r.toList ++ st) cs' := by
  rintro r cs' (⟨ha, e1, e2⟩ | ⟨hb, e1, e2⟩)
  · rw [e1, e2]; exact h1 ha
  · rw [e1, e2]; exact h2 hb

set_option maxHeartbeats 4000000 in
set_option maxRecDepth 100000 in
theorem m_X1_perform (G : zG) {f bf pf pl pc k kf lf sf mf rf : Int → Int} {L c bL bc nx sz ks ls sl ty pla fro to : Int} {rest : List va_E} {n : Int} (hf : ∀ k, rng (f k)) (hL : 0 ≤ L ∧ L ≤ 60) (hc : 0 ≤ c ∧ c ≤ la L) (hn : 1 ≤ n ∧ n ≤ 99) (hk : ∀ n, rng (k n)) (hs : 0 ≤ sl ∧ sl ≤ 60) (hsf : ∀ k, rng (sf k)) (hpa : rng pla) (hv : k 2 = 100 ∨ k 2 = 121 ∨ k 2 = 99 → 0 ≤ fro ∧ fro ≤ 60 ∧ rng to ∧ to ≤ L) (hpf : ∀ k, rng (pf k)) (hpl : ∀ k, rng (pl k)) (hpc : ∀ k, rng (pc k)) (hnx : 0 ≤ nx ∧ nx < 8) (hsz : 0 ≤ sz ∧ sz ≤ 8) : zMet G yX1_perform cX1_perform 2 (some .int) 3 72 [.ref (G.ad 0), .int (iI n)] (dkL G f L c bf bL bc pf pl pc nx sz k kf ks lf ls sf sl mf rf ty pla fro to ++ rest) (zO (.int (iI (pfm f L c pf pl pc nx sz k sf sl mf pla fro to n).1)) (dkL G ((pfm f L c pf pl pc nx sz k sf sl mf pla fro to n).2.1) ((pfm f L c pf pl pc nx sz k sf sl mf pla fro to n).2.2.1) ((pfm f L c pf pl pc nx sz k sf sl mf pla fro to n).2.2.2.1) bf bL bc pf pl pc ((pfm f L c pf pl pc nx sz k sf sl mf pla fro to n).2.2.2.2.2.2.2.1) ((pfm f L c pf pl pc nx sz k sf sl mf pla fro to n).2.2.2.2.2.2.2.2) k kf ks lf ls ((pfm f L c pf pl pc nx sz k sf sl mf pla fro to n).2.2.2.2.1) ((pfm f L c pf pl pc nx sz k sf sl mf pla fro to n).2.2.2.2.2.1) ((pfm f L c pf pl pc nx sz k sf sl mf pla fro to n).2.2.2.2.2.2.1) rf ty pla fro to ++ rest)) := by
  refine zMet.of (by decide) (Nat.le_of_ble_eq_true rfl) ?_
  intro E C R
  have C : zC G E RX1 cX1_perform 2 3 72 := C
  show V G E 0 [some (.ref (G.ad 0)), some (.int (iI n))] [] (dkL G f L c bf bL bc pf pl pc nx sz k kf ks lf ls sf sl mf rf ty pla fro to ++ rest)
  have hla := la_in hL.1
  have hk2 := hk 2
  have hk8 := hk 8
  refine V_aload_n C dX1_perform_0 rfl ?_
  refine vg_X1_31 C dX1_perform_1 rfl rfl ?_
  refine vg_X1_224 C dX1_perform_4 rfl rfl ?_
  by_cases w_7_0 : k 2 = 0
  · skip
    refine V_lookup (tgt := 128) (off := 121) C dX1_perform_7 rfl (by omega) (by rw [w_7_0]; rfl) (by decide) ?_
    refine V_aload_n C dX1_perform_128 rfl ?_
    refine vg_X1_12 C dX1_perform_129 rfl rfl ?_
    refine V_aload_n C dX1_perform_132 rfl ?_
    refine vg_X1_187 C dX1_perform_133 rfl rfl ?_
    refine V_callN C lk_X1_227 (m_X5_goTo G (i := 1) (j := 2) ⟨rfl, rfl, hf, by omega, by omega⟩ (by omega)) dX1_perform_136 rfl rfl rfl rfl (by decide) (Nat.le_of_ble_eq_true rfl) (kO0 ?_)
    refine V_iconst C dX1_perform_139 ?_
    exact V_iret C R dX1_perform_140 ⟨by rw [pfm_1 (by omega)], by rw [pfm_1 (by omega)] <;> rfl⟩
  by_cases w_7_65 : k 2 = 65
  · skip
    refine V_lookup (tgt := 269) (off := 262) C dX1_perform_7 rfl (by omega) (by rw [w_7_65]; rfl) (by decide) ?_
    refine V_aload_n C dX1_perform_269 rfl ?_
    refine V_aload_n C dX1_perform_270 rfl ?_
    refine vg_X1_12 C dX1_perform_271 rfl rfl ?_
    refine vg_X1_82 C dX1_perform_274 rfl rfl ?_
    refine V_callV C lk_X1_236 (m_X1_typeAt G) dX1_perform_277 rfl rfl rfl rfl (by decide) (Nat.le_of_ble_eq_true rfl) (kO ?_)
    exact V_iret C R dX1_perform_280 ⟨by rw [pfm_12 (by omega) (by omega) (by omega) (by omega) (by omega) (by omega) (by omega) (by omega) (by omega) (by omega) (by omega) (by omega)], by rw [pfm_12 (by omega) (by omega) (by omega) (by omega) (by omega) (by omega) (by omega) (by omega) (by omega) (by omega) (by omega) (by omega)] <;> rfl⟩
  by_cases w_7_73 : k 2 = 73
  · skip
    refine V_lookup (tgt := 263) (off := 256) C dX1_perform_7 rfl (by omega) (by rw [w_7_73]; rfl) (by decide) ?_
    refine V_aload_n C dX1_perform_263 rfl ?_
    refine V_iconst C dX1_perform_264 ?_
    refine V_callV C lk_X1_236 (m_X1_typeAt G) dX1_perform_265 rfl rfl rfl rfl (by decide) (Nat.le_of_ble_eq_true rfl) (kO ?_)
    exact V_iret C R dX1_perform_268 ⟨by rw [pfm_11 (by omega) (by omega) (by omega) (by omega) (by omega) (by omega) (by omega) (by omega) (by omega) (by omega) (by omega)], by rw [pfm_11 (by omega) (by omega) (by omega) (by omega) (by omega) (by omega) (by omega) (by omega) (by omega) (by omega) (by omega)] <;> rfl⟩
  by_cases w_7_80 : k 2 = 80
  · skip
    refine V_lookup (tgt := 214) (off := 207) C dX1_perform_7 rfl (by omega) (by rw [w_7_80]; rfl) (by decide) ?_
    refine V_aload_n C dX1_perform_214 rfl ?_
    refine V_iload_n C dX1_perform_215 rfl ?_
    refine V_aload_n C dX1_perform_216 rfl ?_
    refine vg_X1_12 C dX1_perform_217 rfl rfl ?_
    refine vg_X1_85 C dX1_perform_220 rfl rfl ?_
    refine V_callV C lk_X1_245 (m_X1_putIn G hf hL hn (by omega) hs hsf) dX1_perform_223 rfl rfl rfl rfl (by decide) (Nat.le_of_ble_eq_true rfl) (kO ?_)
    exact V_iret C R dX1_perform_226 ⟨by rw [pfm_8 (by omega) (by omega) (by omega) (by omega) (by omega) (by omega) (by omega) (by omega)], by rw [pfm_8 (by omega) (by omega) (by omega) (by omega) (by omega) (by omega) (by omega) (by omega)] <;> rfl⟩
  by_cases w_7_97 : k 2 = 97
  · skip
    refine V_lookup (tgt := 239) (off := 232) C dX1_perform_7 rfl (by omega) (by rw [w_7_97]; rfl) (by decide) ?_
    refine V_aload_n C dX1_perform_239 rfl ?_
    refine V_aload_n C dX1_perform_240 rfl ?_
    refine vg_X1_12 C dX1_perform_241 rfl rfl ?_
    refine vg_X1_85 C dX1_perform_244 rfl rfl ?_
    refine V_iconst C dX1_perform_247 ?_
    refine V_iadd C dX1_perform_248 ?_
    refine V_aload_n C dX1_perform_249 rfl ?_
    refine vg_X1_12 C dX1_perform_250 rfl rfl ?_
    refine vg_X1_82 C dX1_perform_253 rfl rfl ?_
    refine V_min C wm_X1_200 dX1_perform_256 (by omega) (by omega) (by decide) (Nat.le_of_ble_eq_true rfl) ?_
    refine V_callV C lk_X1_236 (m_X1_typeAt G) dX1_perform_259 rfl rfl rfl rfl (by decide) (Nat.le_of_ble_eq_true rfl) (kO ?_)
    exact V_iret C R dX1_perform_262 ⟨by rw [pfm_10 (by omega) (by omega) (by omega) (by omega) (by omega) (by omega) (by omega) (by omega) (by omega) (by omega)], by rw [pfm_10 (by omega) (by omega) (by omega) (by omega) (by omega) (by omega) (by omega) (by omega) (by omega) (by omega)] <;> rfl⟩
  by_cases w_7_99 : k 2 = 99
  · skip
    refine V_lookup (tgt := 163) (off := 156) C dX1_perform_7 rfl (by omega) (by rw [w_7_99]; rfl) (by decide) ?_
    have hv1 := hv (by omega)
    refine V_aload_n C dX1_perform_163 rfl ?_
    refine V_callV C lk_X1_230 (m_X1_cutRange G hf hL (hv (by omega))) dX1_perform_164 rfl rfl rfl rfl (by decide) (Nat.le_of_ble_eq_true rfl) (kO ?_)
    refine V_pop C dX1_perform_167 rfl ?_
    refine V_aload_n C dX1_perform_168 rfl ?_
    refine V_aload_n C dX1_perform_169 rfl ?_
    refine vg_X1_178 C dX1_perform_170 rfl rfl ?_
    refine V_callV C lk_X1_236 (m_X1_typeAt G) dX1_perform_173 rfl rfl rfl rfl (by decide) (Nat.le_of_ble_eq_true rfl) (kO ?_)
    exact V_iret C R dX1_perform_176 ⟨by rw [pfm_4 (by omega) (by omega) (by omega) (by omega)], by rw [pfm_4 (by omega) (by omega) (by omega) (by omega)] <;> rfl⟩
  by_cases w_7_100 : k 2 = 100
  · skip
    refine V_lookup (tgt := 141) (off := 134) C dX1_perform_7 rfl (by omega) (by rw [w_7_100]; rfl) (by decide) ?_
    refine V_aload_n C dX1_perform_141 rfl ?_
    refine V_callV C lk_X1_230 (m_X1_cutRange G hf hL (hv (by omega))) dX1_perform_142 rfl rfl rfl rfl (by decide) (Nat.le_of_ble_eq_true rfl) (kO ?_)
    exact V_iret C R dX1_perform_145 ⟨by rw [pfm_2 (by omega) (by omega)], by rw [pfm_2 (by omega) (by omega)] <;> rfl⟩
  by_cases w_7_105 : k 2 = 105
  · skip
    refine V_lookup (tgt := 227) (off := 220) C dX1_perform_7 rfl (by omega) (by rw [w_7_105]; rfl) (by decide) ?_
    refine V_aload_n C dX1_perform_227 rfl ?_
    refine V_aload_n C dX1_perform_228 rfl ?_
    refine vg_X1_12 C dX1_perform_229 rfl rfl ?_
    refine vg_X1_85 C dX1_perform_232 rfl rfl ?_
    refine V_callV C lk_X1_236 (m_X1_typeAt G) dX1_perform_235 rfl rfl rfl rfl (by decide) (Nat.le_of_ble_eq_true rfl) (kO ?_)
    exact V_iret C R dX1_perform_238 ⟨by rw [pfm_9 (by omega) (by omega) (by omega) (by omega) (by omega) (by omega) (by omega) (by omega) (by omega)], by rw [pfm_9 (by omega) (by omega) (by omega) (by omega) (by omega) (by omega) (by omega) (by omega) (by omega)] <;> rfl⟩
  by_cases w_7_109 : k 2 = 109
  · skip
    refine V_lookup (tgt := 302) (off := 295) C dX1_perform_7 rfl (by omega) (by rw [w_7_109]; rfl) (by decide) ?_
    refine V_aload_n C dX1_perform_302 rfl ?_
    refine V_aload_n C dX1_perform_303 rfl ?_
    refine vg_X1_31 C dX1_perform_304 rfl rfl ?_
    refine vg_X1_161 C dX1_perform_307 rfl rfl ?_
    refine V_callV C lk_X1_252 (m_X1_setMark G (by omega)) dX1_perform_310 rfl rfl rfl rfl (by decide) (Nat.le_of_ble_eq_true rfl) (kO ?_)
    exact V_iret C R dX1_perform_313 ⟨by rw [pfm_15 (by omega) (by omega) (by omega) (by omega) (by omega) (by omega) (by omega) (by omega) (by omega) (by omega) (by omega) (by omega) (by omega) (by omega) (by omega)], by rw [pfm_15 (by omega) (by omega) (by omega) (by omega) (by omega) (by omega) (by omega) (by omega) (by omega) (by omega) (by omega) (by omega) (by omega) (by omega) (by omega)] <;> rfl⟩
  by_cases w_7_112 : k 2 = 112
  · skip
    refine V_lookup (tgt := 189) (off := 182) C dX1_perform_7 rfl (by omega) (by rw [w_7_112]; rfl) (by decide) ?_
    refine V_aload_n C dX1_perform_189 rfl ?_
    refine V_iload_n C dX1_perform_190 rfl ?_
    refine V_aload_n C dX1_perform_191 rfl ?_
    refine vg_X1_12 C dX1_perform_192 rfl rfl ?_
    refine vg_X1_85 C dX1_perform_195 rfl rfl ?_
    refine V_iconst C dX1_perform_198 ?_
    refine V_iadd C dX1_perform_199 ?_
    refine V_aload_n C dX1_perform_200 rfl ?_
    refine vg_X1_12 C dX1_perform_201 rfl rfl ?_
    refine vg_X1_82 C dX1_perform_204 rfl rfl ?_
    refine V_min C wm_X1_200 dX1_perform_207 (by omega) (by omega) (by decide) (Nat.le_of_ble_eq_true rfl) ?_
    refine V_callV C lk_X1_245 (m_X1_putIn G hf hL hn (by omega) hs hsf) dX1_perform_210 rfl rfl rfl rfl (by decide) (Nat.le_of_ble_eq_true rfl) (kO ?_)
    exact V_iret C R dX1_perform_213 ⟨by rw [pfm_7 (by omega) (by omega) (by omega) (by omega) (by omega) (by omega) (by omega)], by rw [pfm_7 (by omega) (by omega) (by omega) (by omega) (by omega) (by omega) (by omega)] <;> rfl⟩
  by_cases w_7_114 : k 2 = 114
  · skip
    refine V_lookup (tgt := 177) (off := 170) C dX1_perform_7 rfl (by omega) (by rw [w_7_114]; rfl) (by decide) ?_
    refine V_aload_n C dX1_perform_177 rfl ?_
    refine V_iload_n C dX1_perform_178 rfl ?_
    refine V_callV C lk_X1_239 (m_X1_overwrite G hf hL hc hn) dX1_perform_179 rfl rfl rfl rfl (by decide) (Nat.le_of_ble_eq_true rfl) (kO ?_)
    exact V_iret C R dX1_perform_182 ⟨by rw [pfm_5 (by omega) (by omega) (by omega) (by omega) (by omega)], by rw [pfm_5 (by omega) (by omega) (by omega) (by omega) (by omega)] <;> rfl⟩
  by_cases w_7_117 : k 2 = 117
  · skip
    refine V_lookup (tgt := 281) (off := 274) C dX1_perform_7 rfl (by omega) (by rw [w_7_117]; rfl) (by decide) ?_
    refine V_aload_n C dX1_perform_281 rfl ?_
    refine vg_X1_24 C dX1_perform_282 rfl rfl ?_
    refine V_aload_n C dX1_perform_285 rfl ?_
    refine vg_X1_12 C dX1_perform_286 rfl rfl ?_
    refine V_iload_n C dX1_perform_289 rfl ?_
    refine V_callN C lk_X1_248 (m_X3_bringBack G (i := 5) (j1 := 6) (j2 := 7) (j3 := 8) (a := 1) (b := 2) ⟨rfl, rfl, rfl, rfl, hpf, hpl, hpc, by omega, by omega, by omega, by omega, by decide, by decide, by decide⟩ ⟨rfl, rfl, hf, by omega, by omega⟩ (by decide) (by decide) hn) dX1_perform_290 rfl rfl rfl rfl (by decide) (Nat.le_of_ble_eq_true rfl) (kOr (fun hz0 => ?_) (fun hz0 => ?_))
    · refine V_if_eq (tgt := 300) C dX1_perform_293 (by decide) (by decide) (fun c_293 => ?_) (fun c_293 => ?_)
      · refine V_iconst C dX1_perform_300 ?_
        exact V_iret C R dX1_perform_301 ⟨by rw [pfm_13 (by omega) (by omega) (by omega) (by omega) (by omega) (by omega) (by omega) (by omega) (by omega) (by omega) (by omega) (by omega) (by omega)], by rw [pfm_13 (by omega) (by omega) (by omega) (by omega) (by omega) (by omega) (by omega) (by omega) (by omega) (by omega) (by omega) (by omega) (by omega)] <;> rfl⟩
      · exact absurd rfl c_293
    · refine V_if_eq (tgt := 300) C dX1_perform_293 (by decide) (by decide) (fun c_293 => ?_) (fun c_293 => ?_)
      · exact absurd c_293 (by decide)
      · refine V_iconst C dX1_perform_296 ?_
        refine V_goto (tgt := 301) C dX1_perform_297 (by decide) ?_
        exact V_iret C R dX1_perform_301 ⟨by rw [pfm_14 (by omega) (by omega) (by omega) (by omega) (by omega) (by omega) (by omega) (by omega) (by omega) (by omega) (by omega) (by omega) (by omega) (by omega)], by rw [pfm_14 (by omega) (by omega) (by omega) (by omega) (by omega) (by omega) (by omega) (by omega) (by omega) (by omega) (by omega) (by omega) (by omega) (by omega)] <;> rfl⟩
  by_cases w_7_121 : k 2 = 121
  · skip
    refine V_lookup (tgt := 146) (off := 139) C dX1_perform_7 rfl (by omega) (by rw [w_7_121]; rfl) (by decide) ?_
    have hv1 := hv (by omega)
    refine V_aload_n C dX1_perform_146 rfl ?_
    refine V_callV C lk_X1_233 (m_X1_storeRange G hf hL (hv (by omega))) dX1_perform_147 rfl rfl rfl rfl (by decide) (Nat.le_of_ble_eq_true rfl) (kO0 ?_)
    refine V_aload_n C dX1_perform_150 rfl ?_
    refine vg_X1_12 C dX1_perform_151 rfl rfl ?_
    refine V_aload_n C dX1_perform_154 rfl ?_
    refine vg_X1_178 C dX1_perform_155 rfl rfl ?_
    refine V_callN C lk_X1_227 (m_X5_goTo G (i := 1) (j := 2) ⟨rfl, rfl, hf, by omega, by omega⟩ (by omega)) dX1_perform_158 rfl rfl rfl rfl (by decide) (Nat.le_of_ble_eq_true rfl) (kO0 ?_)
    refine V_iconst C dX1_perform_161 ?_
    exact V_iret C R dX1_perform_162 ⟨by rw [pfm_3 (by omega) (by omega) (by omega)], by rw [pfm_3 (by omega) (by omega) (by omega)] <;> rfl⟩
  by_cases w_7_126 : k 2 = 126
  · skip
    refine V_lookup (tgt := 183) (off := 176) C dX1_perform_7 rfl (by omega) (by rw [w_7_126]; rfl) (by decide) ?_
    refine V_aload_n C dX1_perform_183 rfl ?_
    refine V_iload_n C dX1_perform_184 rfl ?_
    refine V_callV C lk_X1_242 (m_X1_swapCases G hf hL hc hn) dX1_perform_185 rfl rfl rfl rfl (by decide) (Nat.le_of_ble_eq_true rfl) (kO ?_)
    exact V_iret C R dX1_perform_188 ⟨by rw [pfm_6 (by omega) (by omega) (by omega) (by omega) (by omega) (by omega)], by rw [pfm_6 (by omega) (by omega) (by omega) (by omega) (by omega) (by omega)] <;> rfl⟩
  refine V_lookup (tgt := 314) (off := 307) C dX1_perform_7 rfl (by omega) (by simp [Op.lookupswitch.offset]; repeat rw [if_neg (Ne.symm (by assumption))]) (by decide) ?_
  refine V_iconst C dX1_perform_314 ?_
  exact V_iret C R dX1_perform_315 ⟨by rw [pfm_16 (by omega) (by omega) (by omega) (by omega) (by omega) (by omega) (by omega) (by omega) (by omega) (by omega) (by omega) (by omega) (by omega) (by omega) (by omega)], by rw [pfm_16 (by omega) (by omega) (by omega) (by omega) (by omega) (by omega) (by omega) (by omega) (by omega) (by omega) (by omega) (by omega) (by omega) (by omega) (by omega)] <;> rfl⟩
