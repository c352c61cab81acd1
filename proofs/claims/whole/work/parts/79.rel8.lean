theorem chG_o {g : Int → Int} {j : Int} (h : j < 128 ∨ 159 ≤ j) : chG g j = g j := by
  unfold chG; rw [zcp_out (by omega), zup_n (by omega)]
/-- the keys of a change are kept -/
theorem relK_ch {kf lf rf g : Int → Int} {ks ls : Int} (h : relK kf ks lf ls rf g) : relK kf ks kf ks rf (chG g) := by
  obtain ⟨k0, k1, k2, k3, k4⟩ := h
  refine ⟨by rw [chG_o (by omega)]; exact k0, fun j j1 j2 j3 => by rw [chG_o (by omega)]; exact k1 j j1 j2 j3, ?_, fun j j1 j2 j3 => ?_, fun j j1 j2 => by rw [chG_o (by omega)]; exact k4 j j1 j2⟩
  · unfold chG; rw [zcp_out (by omega), zup_s]; exact k0
  · unfold chG; rw [zcp_in (by omega) (by omega), k1 j j1 j2 j3]; congr 1; omega
theorem edG_o {g : Int → Int} {j : Int} (h : j < 159 ∨ (160 ≤ j ∧ j < 190) ∨ 194 ≤ j) : edG g j = g j := by
  unfold edG; rw [zup_n (by omega), zup_n (by omega), zup_n (by omega), zup_n (by omega), zup_n (by omega)]
theorem edG_0 {g : Int → Int} {j : Int} (h : j = 159 ∨ (190 ≤ j ∧ j < 194)) : edG g j = 0 := by
  unfold edG zup
  rcases (show j = 159 ∨ j = 190 ∨ j = 191 ∨ j = 192 ∨ j = 193 by omega) with rfl | rfl | rfl | rfl | rfl <;> simp
theorem relK_ed {kf lf rf g : Int → Int} {ks ls : Int} (h : relK kf ks lf ls rf g) : relK kf 0 lf ls rf (edG g) := by
  obtain ⟨k0, k1, k2, k3, k4⟩ := h
  exact ⟨edG_0 (by omega), fun j j1 j2 j3 => by omega, by rw [edG_o (by omega)]; exact k2, fun j j1 j2 j3 => by rw [edG_o (by omega)]; exact k3 j j1 j2 j3, fun j j1 j2 => by rw [edG_o (by omega)]; exact k4 j j1 j2⟩
theorem relC_ed {g : Int → Int} : relC (fun _ => 0) (edG g) :=
  ⟨(edG_0 (by omega)).symm, (edG_0 (by omega)).symm, Or.inl ⟨rfl, rfl, rfl, edG_0 (by omega), edG_0 (by omega)⟩⟩
theorem relT_ed {f g sf mf : Int → Int} {L c sl : Int} (h : relT f L c sf sl mf g) (hL : 0 ≤ L ∧ L ≤ 60) (hs : 0 ≤ sl ∧ sl ≤ 60) : relT f L c sf sl mf (edG g) :=
  relT_mv h (fun j hj => edG_o (by omega)) hL hs (by rw [edG_o (by omega)]; exact h.2.2.1)
theorem relT_ch {f g sf mf : Int → Int} {L c sl : Int} (h : relT f L c sf sl mf g) (hL : 0 ≤ L ∧ L ≤ 60) (hs : 0 ≤ sl ∧ sl ≤ 60) : relT f L c sf sl mf (chG g) :=
  relT_mv h (fun j hj => chG_o (by omega)) hL hs (by rw [chG_o (by omega)]; exact h.2.2.1)
