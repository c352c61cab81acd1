theorem kpG_in {g : Int → Int} {a b j : Int} (h : 0 ≤ j ∧ j < b - a) : kpG g a b (64 + j) = g (1 + a + j) := by
  unfold kpG
  rw [zcp_in (by omega) (by omega)]; congr 1; omega
theorem kpG_63 {g : Int → Int} {a b : Int} : kpG g a b 63 = b - a := by
  unfold kpG
  rw [zcp_out (by omega), zup_s]
/-- text and marks are not touched where the row is equal below 63 and from 124 on -/
theorem relT_mv {f g g2 sf mf : Int → Int} {L c sl x : Int} (h : relT f L c sf sl mf g) (h1 : ∀ j, (0 ≤ j ∧ j < 61) ∨ (63 ≤ j ∧ j < 128) → g2 j = g j) (hL : 0 ≤ L ∧ L ≤ 60) (hs : 0 ≤ sl ∧ sl ≤ 60) (hx : g2 61 = x) : relT f L x sf sl mf g2 := by
  obtain ⟨a0, a1, a2, a3, a4, a5⟩ := h
  refine ⟨by rw [h1 0 (by omega)]; exact a0, fun p p1 p2 => ?_, hx, by rw [h1 63 (by omega)]; exact a3, fun j j1 j2 => ?_, fun j j1 j2 => ?_⟩
  · rw [a1 p p1 p2]; show g (1 + p) = g2 (1 + p); rw [h1 (1 + p) (by omega)]
  · rw [a4 j j1 j2, h1 (64 + j) (by omega)]
  · rw [h1 (124 + j) (by omega)]; exact a5 j j1 j2
/-- what a range keeps -/
theorem relT_kp {f g sf mf : Int → Int} {L c sl a b : Int} (h : relT f L c sf sl mf g) (ha : 0 ≤ a ∧ a ≤ b ∧ b ≤ L) (hL : L ≤ 60) : relT f L c (stS f sf sl a b).1 (stS f sf sl a b).2 mf (rgA g a b) := by
  unfold stS rgA
  by_cases e : a < b
  · rw [if_pos e, if_pos e]
    obtain ⟨a0, a1, a2, a3, a4, a5⟩ := h
    refine ⟨by rw [kpG_o (by omega) (by omega)]; exact a0, fun p p1 p2 => ?_, by rw [kpG_o (by omega) (by omega)]; exact a2, kpG_63, fun j j1 j2 => ?_, fun j j1 j2 => ?_⟩
    · rw [a1 p p1 p2]; show g (1 + p) = kpG g a b (1 + p); rw [kpG_o (by omega) (by omega)]
    · dsimp only at j2 ⊢
      rw [kpG_in ⟨j1, j2⟩, zcp_in j1 (by omega), a1 _ (by omega) (by omega)]
      show g (1 + (a + (j - 0))) = g (1 + a + j)
      congr 1; omega
    · rw [kpG_o (by omega) (by omega)]; exact a5 j j1 j2
  · rw [if_neg e, if_neg e]; exact h
/-- what a range cuts -/
theorem relT_ct {f g sf mf : Int → Int} {L c sl a b : Int} (h : relT f L c sf sl mf g) (ha : 0 ≤ a ∧ a ≤ b ∧ b ≤ L) (hL : L ≤ 60) : ∀ c2, (if a < b then ctG g a b else g) 61 = c2 → relT (ctT f L a b).1 (ctT f L a b).2 c2 sf sl mf (if a < b then ctG g a b else g) := by
  intro c2 hc2
  unfold ctT
  by_cases e : a < b
  · rw [if_pos e] at hc2 ⊢
    rw [if_pos e]
    have hcut := relT_cut h ⟨ha.1, e, ha.2.2⟩ hL
    obtain ⟨a0, a1, a2, a3, a4, a5⟩ := h
    have ho : ∀ j, 61 < j → ctG g a b j = g j := fun j hj => by
      unfold ctG; rw [zup_n (by omega), zcp_out (by omega)]
    refine ⟨by rw [ctG_0, a0], hcut, hc2, by rw [ho 63 (by omega)]; exact a3, fun j j1 j2 => by rw [ho (64 + j) (by omega)]; exact a4 j j1 j2, fun j j1 j2 => by rw [ho (124 + j) (by omega)]; exact a5 j j1 j2⟩
  · rw [if_neg e] at hc2 ⊢
    rw [if_neg e]
    obtain ⟨a0, a1, a2, a3, a4, a5⟩ := h
    exact ⟨a0, a1, hc2, a3, a4, a5⟩
