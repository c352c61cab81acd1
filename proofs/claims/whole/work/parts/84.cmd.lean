/-! ===== a key of a command: class and reference ===== -/
def cmR (f : Int → Int) (L c : Int) (pf pl pc : Int → Int) (nx sz : Int) (k sf : Int → Int) (sl : Int) (mf : Int → Int) (pla fro to x : Int) (s : zM) (t : zCm) (cm : Int × zM) : Prop :=
  (t.1 = 0 ∧ ∃ g2 : Int → Int, cm = (1, (sU s, g2, sH s)) ∧ relC t.2 g2 ∧ (∀ j, j < 190 ∨ 194 ≤ j → g2 j = sG s j) ∧ (∀ j, rng (g2 j)) ∧ ((0 ≤ g2 191 ∧ g2 191 ≤ 99) ∧ (0 ≤ g2 192 ∧ g2 192 ≤ 99))) ∨
  (t.1 = 2 ∧ cm = (-2, s)) ∨
  (t.1 = 1 ∧ amO f L c mf t.2 = 0 ∧ cm = (-2, s)) ∨
  (t.1 = 1 ∧ amO f L c mf t.2 ≠ 0 ∧ outR (pfm f L c pf pl pc nx sz t.2 sf sl mf (amP f L c mf t.2 pla) (amF f L c mf t.2 fro) (amT f L c mf t.2 to) (tmz t.2)) f L c pf pl pc nx sz sf sl mf s cm)
theorem mOf_mo (x : Int) : (moM x ≠ -4 → mOf x = moM x ∧ 0 ≤ mOf x ∧ mOf x < 7) ∧ (moM x = -4 → mOf x = if x = 102 then 7 else if x = 116 then 8 else if x = 39 then 9 else -1) := by
  unfold mOf moM
  repeat' split
  all_goals omega
theorem moM_no {x : Int} (h : x ≠ 104 ∧ x ≠ 108 ∧ x ≠ 48 ∧ x ≠ 36 ∧ x ≠ 119 ∧ x ≠ 98 ∧ x ≠ 101) : moM x = -4 := by
  unfold moM
  rw [if_neg h.1, if_neg h.2.1, if_neg h.2.2.1, if_neg h.2.2.2.1, if_neg h.2.2.2.2.1, if_neg h.2.2.2.2.2.1, if_neg h.2.2.2.2.2.2]
theorem moM_x {x : Int} (h : moM x ≠ -4) : x = 104 ∨ x = 108 ∨ x = 48 ∨ x = 36 ∨ x = 119 ∨ x = 98 ∨ x = 101 := by
  apply Classical.byContradiction
  intro q
  exact h (moM_no (by omega))
section CM
variable {f pf pl pc k sf mf : Int → Int} {L c nx sz sl pla fro to x : Int} {s : zM}
/-- a motion 0 .. 6 -/
theorem out_mv {m : Int} (h : relT f L c sf sl mf (sG s)) (hr : ∀ j, rng (sG s j)) (hL : 0 ≤ L ∧ L ≤ 60) (hc : 0 ≤ c ∧ c ≤ la L) (hs : 0 ≤ sl ∧ sl ≤ 60) (h2 : k 2 = sG s 190) (hv : sG s 190 = 0 ∨ vrb (sG s 190)) (h62 : sG s 62 = 0) (hP : relP pf pl pc nx sz (sU s) (sH s)) (h5 : k 5 = 1) (h6 : k 6 = m) (hm : 0 ≤ m ∧ m < 7) (h3 : k 3 = sG s 191) (h4 : k 4 = sG s 192) : amO f L c mf k ≠ 0 ∧ outR (pfm f L c pf pl pc nx sz k sf sl mf (amP f L c mf k pla) (amF f L c mf k fro) (amT f L c mf k to) (tmz k)) f L c pf pl pc nx sz sf sl mf s (mvM s m) := by
  have hla := la_in hL.1
  have hpl := plc_mv (n := tmz k) (a := k 8) h hm.2 hc.2
  have hin := ldN_in (f := lt (sG s)) (L := sG s 0) (m := m) (tmz k).toNat (sG s 61) (by rw [h.2.2.1]; omega) (by rw [h.2.2.1, h.1]; omega)
  have htm := tmz_eq h3 h4
  unfold mvM
  rw [← htm]
  rw [amO_1 h5, amP_1 h5, amF_1 h5, amT_1 h5, h6, hpl]
  generalize hp : ldN (lt (sG s)) (sG s 0) m (tmz k).toNat (sG s 61) = p
  rw [hp, h.1] at hin
  rw [b2z_t (show p ≠ -1 by omega)]
  refine ⟨by omega, ?_⟩
  refine out_gt h hr hL (by omega) hs hin ?_ h2 hv h62 hP ?_ ?_ ?_
  · unfold b2z; split <;> omega
  · unfold aMp; rw [if_neg (by omega), if_neg (by omega)]
  · unfold aMf aMp; rw [if_neg (by omega), if_neg (by omega), if_neg (by omega)]; omega
  · unfold aMt aMp; rw [if_neg (by omega), if_neg (by omega), if_neg (by omega), show min c (la L) = c by omega]
    congr 2
    unfold b2z tkP
    by_cases e : m = 3 ∨ m = 6
    · rw [if_pos e, if_pos (by omega)]
    · rw [if_neg e, if_neg (by omega)]
/-- f, t and a letter -/
theorem out_fd (h : relT f L c sf sl mf (sG s)) (hr : ∀ j, rng (sG s j)) (hL : 0 ≤ L ∧ L ≤ 60) (hc : 0 ≤ c ∧ c ≤ la L) (hs : 0 ≤ sl ∧ sl ≤ 60) (h2 : k 2 = sG s 190) (hv : sG s 190 = 0 ∨ vrb (sG s 190)) (h62 : sG s 62 = 0) (hP : relP pf pl pc nx sz (sU s) (sH s)) (h5 : k 5 = 1) (h8 : k 8 = x) (h3 : k 3 = sG s 191) (h4 : k 4 = sG s 192) (hw : (sG s 193 = 102 ∧ k 6 = 7) ∨ (sG s 193 = 116 ∧ k 6 = 8)) : (amO f L c mf k = 0 ∧ waM s x = (-2, s)) ∨ (amO f L c mf k ≠ 0 ∧ outR (pfm f L c pf pl pc nx sz k sf sl mf (amP f L c mf k pla) (amF f L c mf k fro) (amT f L c mf k to) (tmz k)) f L c pf pl pc nx sz sf sl mf s (waM s x)) := by
  have hla := la_in hL.1
  have hpl := plc_fd (n := tmz k) (a := k 8) h (show k 6 = 7 ∨ k 6 = 8 by omega) hc
  have htm := tmz_eq h3 h4
  have hin := fb_in (lt (sG s)) (sG s 0) x (ofM (sG s)) (sG s 61 + 1) 0
  rw [h8, htm] at hpl
  have e61 : sG s 61 = c := h.2.2.1
  have e0 : sG s 0 = L := h.1
  have ew : waM s x = if fb (lt (sG s)) (sG s 0) x (ofM (sG s)) (sG s 61 + 1) 0 = -1 then (-2, s) else gtM s (if sG s 193 = 102 then fb (lt (sG s)) (sG s 0) x (ofM (sG s)) (sG s 61 + 1) 0 else fb (lt (sG s)) (sG s 0) x (ofM (sG s)) (sG s 61 + 1) 0 - 1) 1 := by
    unfold waM
    rw [if_pos (by omega)]
  rw [ew, amO_1 h5, amP_1 h5, amF_1 h5, amT_1 h5, htm, h8, hpl]
  generalize fb (lt (sG s)) (sG s 0) x (ofM (sG s)) (sG s 61 + 1) 0 = p at hin ⊢
  by_cases e : p = -1
  · rw [if_pos e, b2z_f (fun q => q e)]
    exact Or.inl ⟨rfl, rfl⟩
  · rw [if_neg e, b2z_t e]
    refine Or.inr ⟨by omega, ?_⟩
    rcases hw with ⟨w1, w2⟩ | ⟨w1, w2⟩
    · rw [if_pos w1, w2]
      refine out_gt h hr hL (by omega) hs (by omega) (Or.inr rfl) h2 hv h62 hP ?_ ?_ ?_
      · unfold aMp; rw [if_neg e, if_neg (by omega)]
      · unfold aMf aMp; rw [if_neg e, if_neg e, if_neg (by omega)]; omega
      · unfold aMt aMp; rw [if_neg e, if_neg e, if_neg (by omega), show min c (la L) = c by omega, b2z_t (by omega)]
    · rw [if_neg (by omega), w2]
      refine out_gt h hr hL (by omega) hs (by omega) (Or.inr rfl) h2 hv h62 hP ?_ ?_ ?_
      · unfold aMp; rw [if_neg e, if_pos rfl]
      · unfold aMf aMp; rw [if_neg e, if_neg e, if_pos rfl]; omega
      · unfold aMt aMp; rw [if_neg e, if_neg e, if_pos rfl, show min c (la L) = c by omega, b2z_t (by omega)]
/-- ' and a mark -/
theorem out_mk (h : relT f L c sf sl mf (sG s)) (hr : ∀ j, rng (sG s j)) (hL : 0 ≤ L ∧ L ≤ 60) (hc : 0 ≤ c ∧ c ≤ la L) (hs : 0 ≤ sl ∧ sl ≤ 60) (hmf : ∀ j, -1 ≤ mf j ∧ mf j ≤ 60) (h2 : k 2 = sG s 190) (hv : sG s 190 = 0 ∨ vrb (sG s 190)) (h62 : sG s 62 = 0) (hP : relP pf pl pc nx sz (sU s) (sH s)) (h5 : k 5 = 1) (h8 : k 8 = x - 97) (hx : 97 ≤ x ∧ x ≤ 100) (hw : sG s 193 = 39 ∧ k 6 = 9) : (amO f L c mf k = 0 ∧ waM s x = (-2, s)) ∨ (amO f L c mf k ≠ 0 ∧ outR (pfm f L c pf pl pc nx sz k sf sl mf (amP f L c mf k pla) (amF f L c mf k fro) (amT f L c mf k to) (tmz k)) f L c pf pl pc nx sz sf sl mf s (waM s x)) := by
  have hla := la_in hL.1
  have hpl := plc_mk (n := tmz k) (a := k 8) h hL.1 hmf
  have e61 : sG s 61 = c := h.2.2.1
  have e0 : sG s 0 = L := h.1
  have hk := h.2.2.2.2.2 (x - 97) (by omega) (by omega)
  have hmx := hmf (x - 97)
  rw [h8] at hpl
  unfold waM
  rw [if_neg (by omega), if_pos hw.1]
  rw [amO_1 h5, amP_1 h5, amF_1 h5, amT_1 h5, h8, hw.2, hpl, show 124 + x - 97 = 124 + (x - 97) by omega]
  by_cases e : sG s (124 + (x - 97)) = -4
  · rw [if_neg (fun q => q.2.2 e), if_neg (fun q => q.2.2 e), b2z_f (fun q => q rfl)]
    exact Or.inl ⟨rfl, rfl⟩
  · rw [if_pos ⟨by omega, by omega, e⟩, if_pos ⟨by omega, by omega, e⟩]
    have hp0 : 0 ≤ sG s (124 + (x - 97)) := by
      by_cases z : mf (x - 97) = -1
      · rw [if_pos z] at hk; omega
      · rw [if_neg z] at hk; omega
    generalize sG s (124 + (x - 97)) = q at hp0 ⊢
    rw [b2z_t (by omega)]
    refine Or.inr ⟨by omega, ?_⟩
    refine out_gt h hr hL (by omega) hs (by omega) (Or.inl rfl) h2 hv h62 hP ?_ ?_ ?_
    · unfold aMp; rw [if_neg (by omega), if_neg (by omega)]
    · unfold aMf aMp; rw [if_neg (by omega), if_neg (by omega), if_neg (by omega)]; omega
    · unfold aMt aMp; rw [if_neg (by omega), if_neg (by omega), if_neg (by omega), show min c (la L) = c by omega, b2z_f (by omega)]
/-- an object -/
theorem out_ob {ar : Int} (h : relT f L c sf sl mf (sG s)) (hr : ∀ j, rng (sG s j)) (hL : 0 ≤ L ∧ L ≤ 60) (hc : 0 ≤ c ∧ c ≤ la L) (hs : 0 ≤ sl ∧ sl ≤ 60) (h2 : k 2 = sG s 190) (hv : vrb (sG s 190)) (h62 : sG s 62 = 0) (hP : relP pf pl pc nx sz (sU s) (sH s)) (h7 : k 7 = ar) (hx : (x = 119 ∧ k 5 = 2) ∨ (x = 98 ∧ k 5 = 3)) : (amO f L c mf k = 0 ∧ obM s ar x = (-2, s)) ∨ (amO f L c mf k ≠ 0 ∧ outR (pfm f L c pf pl pc nx sz k sf sl mf (amP f L c mf k pla) (amF f L c mf k fro) (amT f L c mf k to) (tmz k)) f L c pf pl pc nx sz sf sl mf s (obM s ar x)) := by
  have hla := la_in hL.1
  have e61 : sG s 61 = c := h.2.2.1
  have e0 : sG s 0 = L := h.1
  have hE : eL f (lt (sG s)) L := h.2.1
  have hv2 : vrb (k 2) := by rw [h2]; exact hv
  unfold obM
  rcases hx with ⟨x1, x2⟩ | ⟨x1, x2⟩
  · rw [if_pos x1, amO_2 (by omega) x2, amF_2 (by omega) x2, amT_2 (by omega) x2, e0]
    by_cases e : L = 0
    · rw [if_pos e, b2z_f (fun q => q e)]
      exact Or.inl ⟨rfl, rfl⟩
    · rw [if_neg e, b2z_t e, if_neg e, if_neg e]
      refine Or.inr ⟨by omega, ?_⟩
      unfold wdM
      rw [e0, e61, h7, ← kd_cg hE, ← bg_cg hE, ← bh_cg hE, ← bh_cg hE]
      have b1 := bg_in f L (kd f L c) c
      have b2 := bh_in f L (kd f L c) c
      have b3 := bh_in f L 0 (bh f L (kd f L c) c)
      by_cases e7 : ar = 0
      · rw [if_pos e7]
        exact out_rg h hr hL.2 hs (by omega) hv2 h2.symm h62 hP
      · rw [if_neg e7]
        exact out_rg h hr hL.2 hs (by omega) hv2 h2.symm h62 hP
  · rw [if_neg (by omega), if_pos x1, amO_3 (by omega) (by omega) x2, amF_3 (by omega) (by omega) x2, amT_3 (by omega) (by omega) x2]
    unfold brM
    rw [e0, e61, ← brC_cg hE, ← op_cg hE]
    by_cases e : brC f L c = -1
    · rw [if_pos e, b2z_f (fun q => q e)]
      exact Or.inl ⟨rfl, rfl⟩
    · rw [if_neg e, b2z_t e, if_neg e, if_neg e, h7]
      refine Or.inr ⟨by omega, ?_⟩
      have b1 := op_in f L c c 0
      have b2 : op f L c c 0 ≠ -1 ∧ op f L c c 0 + 1 ≤ brC f L c ∧ brC f L c < L := by
        unfold brC at e ⊢
        by_cases z : op f L c c 0 = -1
        · rw [if_pos z] at e; exact absurd rfl e
        · rw [if_neg z] at e ⊢
          have := cl_in f L (op f L c c 0 + 1) 0
          omega
      by_cases e7 : ar = 0
      · rw [if_pos e7, if_pos e7, if_pos e7]
        exact out_rg h hr hL.2 hs (by omega) hv2 h2.symm h62 hP
      · rw [if_neg e7, if_neg e7, if_neg e7]
        exact out_rg h hr hL.2 hs (by omega) hv2 h2.symm h62 hP
end CM
