theorem stG_a0 {g : Int → Int} {x j : Int} (h9 : g 159 = 0) (hj : 0 ≤ j ∧ j < 62) : stG g x (194 + j) = g j := by
  unfold stG
  rw [rcG_o (by rw [stF_o (by omega)]; omega) (by omega), if_pos h9, zcp_in (by omega) (by omega)]; congr 1; omega
theorem stG_a1 {g : Int → Int} {x j : Int} (h9 : 0 < g 159) (hj : 0 ≤ j ∧ j < 62) : stG g x (194 + j) = g (194 + j) := by
  unfold stG
  rw [rcG_o (by rw [stF_o (by omega)]; omega) (by omega), if_neg (by omega)]
/-- the first key keeps the text; later keys leave it -/
theorem relB_st {f bf g : Int → Int} {L c bL bc ks x sl : Int} {sf mf : Int → Int} (h : relB f L c bf bL bc ks 0 g) (hT : relT f L c sf sl mf g) (hk : g 159 = ks) (hks : 0 ≤ ks) (hL : 0 ≤ L ∧ L ≤ 60) : stG g x 194 = L ∧ stG g x 255 = c ∧ ∀ j, 0 ≤ j → j < L → stG g x (195 + j) = f j := by
  by_cases e : ks = 0
  · have a := stG_a0 (x := x) (j := 0) (by omega : g 159 = 0) (by omega)
    have b := stG_a0 (x := x) (j := 61) (by omega : g 159 = 0) (by omega)
    refine ⟨by rw [show (194 : Int) = 194 + 0 by omega, a]; exact hT.1, by rw [show (255 : Int) = 194 + 61 by omega, b]; exact hT.2.2.1, fun j j1 j2 => ?_⟩
    rw [show 195 + j = 194 + (1 + j) by omega, stG_a0 (by omega) (by omega)]
    exact (hT.2.1 j j1 j2).symm
  · obtain ⟨q1, q2, q3⟩ := h.1 rfl (by omega)
    have a := stG_a1 (x := x) (j := 0) (by omega : 0 < g 159) (by omega)
    have b := stG_a1 (x := x) (j := 61) (by omega : 0 < g 159) (by omega)
    refine ⟨by rw [show (194 : Int) = 194 + 0 by omega, a]; exact q1, by rw [show (255 : Int) = 194 + 61 by omega, b]; exact q2, fun j j1 j2 => ?_⟩
    rw [show 195 + j = 194 + (1 + j) by omega, stG_a1 (by omega) (by omega), show 194 + (1 + j) = 195 + j by omega]
    exact q3 j j1 j2
