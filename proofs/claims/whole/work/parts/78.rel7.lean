theorem relK_rc {kf lf rf g : Int → Int} {ks ls x : Int} (h : relK kf ks lf ls rf g) (hk : 0 ≤ ks ∧ ks ≤ 31) (hl : 0 ≤ ls ∧ ls ≤ 31) : relK (addF kf ks x) (min (ks + 1) 31) lf ls rf (rcG g x) := by
  obtain ⟨k0, k1, k2, k3, k4⟩ := h
  have h9 : 0 ≤ g 159 := by omega
  refine ⟨by rw [rcG_9, k0], fun j j1 j2 j3 => ?_, by rw [rcG_o h9 (by omega)]; exact k2, fun j j1 j2 j3 => by rw [rcG_o h9 (by omega)]; exact k3 j j1 j2 j3, fun j j1 j2 => by rw [rcG_o h9 (by omega)]; exact k4 j j1 j2⟩
  unfold addF rcG rcF
  rw [zup_n (i := 159) (by omega), k0]
  by_cases e : ks < 30
  · rw [if_pos e, if_pos e]
    by_cases e2 : j = ks
    · rw [e2, zup_s, zup_s]
    · rw [zup_n e2, zup_n (by omega)]; exact k1 j j1 (by omega) j3
  · rw [if_neg e, if_neg e]; exact k1 j j1 (by omega) j3
theorem relK_eq {kf lf rf g g2 : Int → Int} {ks ls : Int} (h : relK kf ks lf ls rf g) (hl : 0 ≤ ls ∧ ls ≤ 31) (e : ∀ j, (128 ≤ j ∧ j < 190) ∨ (256 ≤ j ∧ j < 263) → g2 j = g j) : relK kf ks lf ls rf g2 := by
  obtain ⟨k0, k1, k2, k3, k4⟩ := h
  exact ⟨by rw [e 159 (by omega)]; exact k0, fun j j1 j2 j3 => by rw [e (160 + j) (by omega)]; exact k1 j j1 j2 j3, by rw [e 128 (by omega)]; exact k2, fun j j1 j2 j3 => by rw [e (129 + j) (by omega)]; exact k3 j j1 j2 j3, fun j j1 j2 => by rw [e (256 + j) (by omega)]; exact k4 j j1 j2⟩
theorem relK_st {kf lf rf g : Int → Int} {ks ls x : Int} (h : relK kf ks lf ls rf g) (hk : 0 ≤ ks ∧ ks ≤ 31) (hl : 0 ≤ ls ∧ ls ≤ 31) : relK (addF kf ks x) (min (ks + 1) 31) lf ls rf (stG g x) :=
  relK_rc (relK_eq h hl (fun j hj => stF_o (by omega))) hk hl
theorem relT_st {f g sf mf : Int → Int} {L c sl x : Int} (h : relT f L c sf sl mf g) (hL : 0 ≤ L ∧ L ≤ 60) (hs : 0 ≤ sl ∧ sl ≤ 60) (h9 : 0 ≤ g 159) : relT f L c sf sl mf (stG g x) :=
  relT_mv h (fun j hj => stG_o h9 (by omega)) hL hs (by rw [stG_o h9 (by omega)]; exact h.2.2.1)
