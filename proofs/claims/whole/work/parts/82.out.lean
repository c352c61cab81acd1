/-! ===== what a whole command does: class and reference ===== -/
def outR (R : zPf) (f : Int → Int) (L c : Int) (pf pl pc : Int → Int) (nx sz : Int) (sf : Int → Int) (sl : Int) (mf : Int → Int) (s : zM) (cm : Int × zM) : Prop :=
  (R = (0, f, L, c, sf, sl, mf, nx, sz) ∧ cm = (-2, s)) ∨
  (∃ (f2 : Int → Int) (L2 c2 : Int) (sf2 : Int → Int) (sl2 : Int) (mf2 g2 : Int → Int), relT f2 L2 c2 sf2 sl2 mf2 g2 ∧ (0 ≤ L2 ∧ L2 ≤ 60) ∧ (0 ≤ sl2 ∧ sl2 ≤ 60) ∧ (∀ j, rng (g2 j)) ∧ (∀ j, 128 ≤ j → g2 j = sG s j) ∧
    ((∃ nx2 sz2 un2, R = (1, f2, L2, c2, sf2, sl2, mf2, nx2, sz2) ∧ g2 62 = 0 ∧ relP pf pl pc nx2 sz2 un2 (sH s) ∧ cm = (0, (un2, g2, sH s))) ∨
     (R = (2, f2, L2, c2, sf2, sl2, mf2, nx, sz) ∧ g2 62 = 0 ∧ cm = (0, chM (sU s, g2, sH s))) ∨
     (R = (3, f2, L2, c2, sf2, sl2, mf2, nx, sz) ∧ g2 62 = 1 ∧ cm = (2, (sU s, g2, sH s)))))
theorem rgB_o {g : Int → Int} {a b j : Int} (ha : 0 ≤ a ∧ a ≤ b ∧ b ≤ g 0 ∧ g 0 ≤ 60) (hj : j = 62 ∨ 124 ≤ j) : rgB g a b j = g j := by
  have hk : rgA g a b j = g j := by
    unfold rgA
    by_cases c1 : a < b
    · rw [if_pos c1, kpG_o (by omega) (by omega)]
    · rw [if_neg c1]
  have hk0 : rgA g a b 0 = g 0 := by
    unfold rgA
    by_cases c1 : a < b
    · rw [if_pos c1, kpG_o (by omega) (by omega)]
    · rw [if_neg c1]
  unfold rgB
  by_cases c2 : g 190 ≠ 121 ∧ a < b
  · rw [if_pos c2]
    unfold ctG
    rw [zup_n (by omega), zcp_out (by omega), hk]
  · rw [if_neg c2, hk]
section OU
variable {f pf pl pc k sf mf : Int → Int} {L c nx sz sl pla fro to n : Int} {s : zM}
theorem out_rg {a b : Int} (h : relT f L c sf sl mf (sG s)) (hr : ∀ j, rng (sG s j)) (hL : L ≤ 60) (hs : 0 ≤ sl ∧ sl ≤ 60) (ha : 0 ≤ a ∧ a ≤ b ∧ b ≤ L) (hv : vrb (k 2)) (hd : sG s 190 = k 2) (h62 : sG s 62 = 0) (hP : relP pf pl pc nx sz (sU s) (sH s)) : outR (pfm f L c pf pl pc nx sz k sf sl mf pla a b n) f L c pf pl pc nx sz sf sl mf s (rgM s a b) := by
  have h0 : sG s 0 = L := h.1
  have hb : 0 ≤ a ∧ a ≤ b ∧ b ≤ sG s 0 ∧ sG s 0 ≤ 60 := by omega
  have hb2 : 0 ≤ a ∧ a ≤ b ∧ b ≤ L ∧ L ≤ 60 := by omega
  have hrb := rgB_rng hr hb
  have ho := fun j (hj : 128 ≤ j) => rgB_o (j := j) hb (by omega)
  have ho62 := rgB_o (j := 62) hb (by omega)
  have h2 := stS_in (f := f) (sf := sf) hb2 hs
  have hlz : ∀ z, rng (min a (la z)) := fun z => by have : 0 ≤ la z := by { unfold la; split <;> omega }; omega
  by_cases e1 : k 2 = 121
  · have e0 : rgB (sG s) a b 0 = L := by
      have := (relT_ry (x := 0) h hb2 hs (by omega)).1
      rw [zup_n (by omega)] at this; exact this
    have e : rgM s a b = (0, (sU s, zup (rgB (sG s) a b) 61 (min a (la L)), sH s)) := by
      unfold rgM; rw [if_neg (by omega), if_neg (by omega), e0]
    rw [pfm_3 (by omega) (by omega) e1, e]
    refine Or.inr ⟨_, _, _, _, _, _, _, relT_ry h hb2 hs (by omega), by omega, h2, zup_rng hrb (hlz L), fun j hj => ?_, Or.inl ⟨nx, sz, sU s, rfl, ?_, hP, rfl⟩⟩
    · rw [zup_n (by omega)]; exact ho j hj
    · rw [zup_n (by omega), ho62]; exact h62
  · have hd2 : sG s 190 ≠ 121 := by omega
    have e0 : rgB (sG s) a b 0 = (ctT f L a b).2 := by
      have := (relT_rd (x := 0) h hb2 hs hd2).1
      rw [zup_n (by omega)] at this; exact this
    have h1 := ctT_in (f := f) hb2
    by_cases e2 : k 2 = 99
    · have e : rgM s a b = (2, (sU s, zup (zup (rgB (sG s) a b) 61 a) 62 1, sH s)) := by
        unfold rgM; rw [if_pos (by omega)]
      rw [pfm_4 (by omega) (by omega) e1 e2, e]
      refine Or.inr ⟨_, _, _, _, _, _, _, relT_mv (relT_rd (x := a) h hb2 hs hd2) (g2 := zup (zup (rgB (sG s) a b) 61 a) 62 1) (fun j hj => zup_n (by omega)) h1 h2 (by rw [zup_n (by omega), zup_s]), h1, h2, zup_rng (zup_rng hrb (by omega)) (by omega), fun j hj => ?_, Or.inr (Or.inr ⟨rfl, zup_s, rfl⟩)⟩
      rw [zup_n (by omega), zup_n (by omega)]; exact ho j hj
    · have e3 : k 2 = 100 := by omega
      by_cases e4 : a < b
      · have e : rgM s a b = (0, chM (sU s, zup (rgB (sG s) a b) 61 (min a (la (ctT f L a b).2)), sH s)) := by
          unfold rgM; rw [if_neg (by omega), if_pos (by omega), e0]
        rw [pfm_2 (by omega) e3, e, if_pos e4]
        refine Or.inr ⟨_, _, _, _, _, _, _, relT_rd h hb2 hs hd2, h1, h2, zup_rng hrb (hlz _), fun j hj => ?_, Or.inr (Or.inl ⟨rfl, ?_, rfl⟩)⟩
        · rw [zup_n (by omega)]; exact ho j hj
        · rw [zup_n (by omega), ho62]; exact h62
      · have e : rgM s a b = (0, (sU s, zup (rgB (sG s) a b) 61 (min a (la (ctT f L a b).2)), sH s)) := by
          unfold rgM; rw [if_neg (by omega), if_neg (by omega), e0]
        rw [pfm_2 (by omega) e3, e, if_neg e4]
        refine Or.inr ⟨_, _, _, _, _, _, _, relT_rd h hb2 hs hd2, h1, h2, zup_rng hrb (hlz _), fun j hj => ?_, Or.inl ⟨nx, sz, sU s, rfl, ?_, hP, rfl⟩⟩
        · rw [zup_n (by omega)]; exact ho j hj
        · rw [zup_n (by omega), ho62]; exact h62
/-- gone to a place, or a range up to it -/
theorem out_gt {p i : Int} (h : relT f L c sf sl mf (sG s)) (hr : ∀ j, rng (sG s j)) (hL : 0 ≤ L ∧ L ≤ 60) (hc : 0 ≤ c ∧ c ≤ L) (hs : 0 ≤ sl ∧ sl ≤ 60) (hp : 0 ≤ p ∧ p ≤ L) (hi : i = 0 ∨ i = 1) (hk : k 2 = sG s 190) (hv : sG s 190 = 0 ∨ vrb (sG s 190)) (h62 : sG s 62 = 0) (hP : relP pf pl pc nx sz (sU s) (sH s)) (e1 : pla = p) (e2 : fro = min c p) (e3 : to = min L (max c p + i)) : outR (pfm f L c pf pl pc nx sz k sf sl mf pla fro to n) f L c pf pl pc nx sz sf sl mf s (gtM s p i) := by
  have h0 : sG s 0 = L := h.1
  have h61 : sG s 61 = c := h.2.2.1
  have hla := la_in hL.1
  unfold gtM
  by_cases e : sG s 190 = 0
  · rw [if_pos e, pfm_1 (by omega), e1, h0]
    refine Or.inr ⟨_, _, _, _, _, _, _, relT_mv h (g2 := zup (sG s) 61 (min p (la L))) (fun j hj => zup_n (by omega)) hL hs zup_s, hL, hs, zup_rng hr (by omega), fun j hj => zup_n (by omega), Or.inl ⟨nx, sz, sU s, rfl, by rw [zup_n (by omega)]; exact h62, hP, rfl⟩⟩
  · rw [if_neg e, h0, h61, e2, e3, show min (max c p + i) L = min L (max c p + i) by omega]
    have hv2 : vrb (k 2) := by rw [hk]; omega
    exact out_rg h hr hL.2 hs (by omega) hv2 hk.symm h62 hP
end OU
