theorem relP_un {pf pl pc ah : Int → Int} {nx sz un m : Int} (h : relP pf pl pc nx sz un ah) (hm : 0 ≤ m ∧ m ≤ sz) : relP pf pl pc ((nx - m) % 8) (sz - m) (un - m) ah := by
  refine ⟨by rw [h.1], fun t t1 t2 => ?_⟩
  have q := h.2 (t + m) (by omega) (by omega)
  rw [show sz - m - 1 - t = sz - 1 - (t + m) by omega, show ((nx - m) % 8 - 1 - t) % 8 = (nx - 1 - (t + m)) % 8 by omega]
  exact q
/-- a text kept for u -/
theorem relP_ch {pf pl pc bf ah g : Int → Int} {nx sz un bL bc : Int} (h : relP pf pl pc nx sz un ah) (hn : 0 ≤ nx ∧ nx < 8) (hs : 0 ≤ sz ∧ sz ≤ 8) (hb : 0 ≤ bL ∧ bL ≤ 60) (h1 : g 194 = bL) (h2 : g 255 = bc) (h3 : ∀ j, 0 ≤ j → j < bL → g (195 + j) = bf j) (hpl : ∀ j, 0 ≤ j → j < 8 → pl j ≤ 60) : relP (zcp bf pf 0 (nx * 60) 60) (zup pl nx bL) (zup pc nx bc) ((nx + 1) % 8) (min (sz + 1) 8) (chV un + 1) (chA un ah g) := by
  have hu : un = sz := h.1
  have hv : chV un = min (sz + 1) 8 - 1 := by
    unfold chV
    by_cases e : un = 8
    · rw [if_pos e]; omega
    · rw [if_neg e]; omega
  refine ⟨by omega, fun t t1 t2 => ?_⟩
  by_cases e : t = 0
  · subst e
    rw [show ((nx + 1) % 8 - 1 - 0) % 8 = nx by omega, show min (sz + 1) 8 - 1 - 0 = chV un by omega]
    unfold chA
    refine ⟨?_, ?_, fun j j1 j2 => ?_⟩
    · rw [zcp_in (by omega) (by omega), zup_s, ← h1]; congr 1; omega
    · rw [zcp_in (by omega) (by omega), zup_s, ← h2]; congr 1; omega
    · rw [zup_s] at j2
      rw [zcp_in (by omega) (by omega), zcp_in (by omega) (by omega), show 0 + (nx * 60 + j - nx * 60) = j by omega, ← h3 j j1 j2]; congr 1; omega
  · have q := h.2 (t - 1) (by omega) (by omega)
    have hsl : ((nx + 1) % 8 - 1 - t) % 8 = (nx - 1 - (t - 1)) % 8 := by omega
    have hne : (nx - 1 - (t - 1)) % 8 ≠ nx := by omega
    have hr : ∀ x, 0 ≤ x → x < 62 → chA un ah g (62 * (min (sz + 1) 8 - 1 - t) + x) = ah (62 * (sz - 1 - (t - 1)) + x) := by
      intro x x1 x2
      unfold chA
      rw [zcp_out (by omega)]
      by_cases e8 : un = 8
      · rw [if_pos e8, zcp_in (by omega) (by omega)]; congr 1; omega
      · rw [if_neg e8]; congr 1; omega
    have hk0 : 0 ≤ (nx - 1 - (t - 1)) % 8 ∧ (nx - 1 - (t - 1)) % 8 < 8 := by omega
    have hp8 := hpl _ hk0.1 hk0.2
    rw [hsl, zup_n hne, zup_n hne]
    refine ⟨?_, ?_, fun j j1 j2 => ?_⟩
    · have := hr 0 (by omega) (by omega); rw [Int.add_zero, Int.add_zero] at this; rw [this]; exact q.1
    · rw [hr 61 (by omega) (by omega)]; exact q.2.1
    · rw [Int.add_assoc, hr (1 + j) (by omega) (by omega), ← Int.add_assoc, q.2.2 j j1 j2, zcp_out]
      generalize (nx - 1 - (t - 1)) % 8 = s at hne hk0 hp8 j2 ⊢
      omega
