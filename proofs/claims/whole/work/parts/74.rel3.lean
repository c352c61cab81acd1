/-- a row that is changed among the letters only -/
theorem relT_tx {f f2 g g2 sf mf : Int → Int} {L L2 c c2 sl : Int} (h : relT f L c sf sl mf g) (hs : 0 ≤ sl ∧ sl ≤ 60) (h0 : g2 0 = L2) (h1 : ∀ p, 0 ≤ p → p < L2 → f2 p = g2 (1 + p)) (hc : g2 61 = c2) (ho : ∀ j, 63 ≤ j → j < 128 → g2 j = g j) : relT f2 L2 c2 sf sl mf g2 := by
  obtain ⟨a0, a1, a2, a3, a4, a5⟩ := h
  exact ⟨h0, h1, hc, by rw [ho 63 (by omega) (by omega)]; exact a3, fun j j1 j2 => by rw [ho (64 + j) (by omega) (by omega)]; exact a4 j j1 j2, fun j j1 j2 => by rw [ho (124 + j) (by omega) (by omega)]; exact a5 j j1 j2⟩
theorem relT_ov {f g sf mf : Int → Int} {L c sl n v c2 : Int} (h : relT f L c sf sl mf g) (hs : 0 ≤ sl ∧ sl ≤ 60) (hc : 0 ≤ c ∧ 0 ≤ n ∧ c + n ≤ L) (hL : L ≤ 60) : relT (ovr f c (c + n) v) L c2 sf sl mf (zup (ovr g (1 + c) (1 + (c + n)) v) 61 c2) := by
  refine relT_tx h hs (by rw [zup_n (by omega), ovr_o (by omega)]; exact h.1) (fun p p1 p2 => ?_) zup_s (fun j j1 j2 => by rw [zup_n (by omega), ovr_o (by omega)])
  rw [zup_n (by omega)]
  unfold ovr
  by_cases e : c ≤ p ∧ p < c + n
  · rw [if_pos e, if_pos (by omega)]
  · rw [if_neg e, if_neg (by omega)]; exact h.2.1 p p1 p2
theorem relT_sw {f g sf mf : Int → Int} {L c sl b c2 : Int} (h : relT f L c sf sl mf g) (hs : 0 ≤ sl ∧ sl ≤ 60) (hc : 0 ≤ c ∧ b ≤ L) (hL : L ≤ 60) : relT (sws f c b) L c2 sf sl mf (zup (sws g (1 + c) (1 + b)) 61 c2) := by
  refine relT_tx h hs (by rw [zup_n (by omega), sws_o (by omega)]; exact h.1) (fun p p1 p2 => ?_) zup_s (fun j j1 j2 => by rw [zup_n (by omega), sws_o (by omega)])
  rw [zup_n (by omega)]
  unfold sws
  have hp : f p = g (1 + p) := h.2.1 p p1 p2
  by_cases e : c ≤ p ∧ p < b
  · rw [if_pos e, if_pos (by omega), hp]
  · rw [if_neg e, if_neg (by omega), hp]
theorem relT_pt {f g sf mf : Int → Int} {L c sl p P c2 : Int} (h : relT f L c sf sl mf g) (hs : 0 < sl ∧ sl ≤ 60) (hp : 0 ≤ p ∧ p ≤ L) (hP : 0 ≤ P ∧ L + P ≤ 60) : relT (pin (zcp f f p (p + P) (L - p)) sf sl p (p + P)) (L + P) c2 sf sl mf (zup (zup (pin (zcp g g (1 + p) (1 + p + P) (L - p)) (fun k => g (64 + k)) sl (1 + p) (1 + p + P)) 0 (L + P)) 61 c2) := by
  refine relT_tx h (by omega) (by rw [zup_n (by omega), zup_s]) (fun q q1 q2 => ?_) zup_s (fun j j1 j2 => by rw [zup_n (by omega), zup_n (by omega), pin_o (by omega), zcp_out (by omega)])
  rw [zup_n (by omega), zup_n (by omega)]
  have hm := Int.emod_nonneg (q - p) (show sl ≠ 0 by omega)
  have hm2 := Int.emod_lt_of_pos (q - p) hs.1
  unfold pin
  by_cases e : p ≤ q ∧ q < p + P
  · rw [if_pos e, if_pos (by omega), show 1 + q - (1 + p) = q - p by omega]
    exact h.2.2.2.2.1 _ hm hm2
  · rw [if_neg e, if_neg (by omega)]
    by_cases e2 : p + P ≤ q
    · rw [zcp_in e2 (by omega), zcp_in (by omega) (by omega), h.2.1 _ (by omega) (by omega)]
      show g (1 + (p + (q - (p + P)))) = g (1 + p + (1 + q - (1 + p + P)))
      congr 1; omega
    · rw [zcp_out (by omega), zcp_out (by omega)]; exact h.2.1 q q1 (by omega)
/-- a letter inserted -/
theorem relT_is {f g sf mf : Int → Int} {L c sl x : Int} (h : relT f L c sf sl mf g) (hs : 0 ≤ sl ∧ sl ≤ 60) (hc : 0 ≤ c ∧ c ≤ L) (hL : L < 60) (h9 : 0 ≤ g 159) : relT (zup (zcp f f c (c + 1) (L - c)) c x) (L + 1) (c + 1) sf sl mf (isG g x) := by
  have h0 : g 0 = L := h.1
  have h61 : g 61 = c := h.2.2.1
  unfold isG
  rw [h0, h61]
  refine relT_tx h hs (by rw [zup_n (by omega), zup_s]) (fun q q1 q2 => ?_) zup_s (fun j j1 j2 => by rw [zup_n (by omega), zup_n (by omega), zup_n (by omega), zcp_out (by omega), rcG_o h9 (by omega)])
  rw [zup_n (i := 61) (k := 1 + q) (by omega), zup_n (i := 0) (k := 1 + q) (by omega)]
  by_cases e : q = c
  · rw [e, zup_s, zup_s]
  · rw [zup_n e, zup_n (i := 1 + c) (k := 1 + q) (by omega)]
    by_cases e2 : c + 1 ≤ q
    · rw [zcp_in e2 (by omega), zcp_in (by omega) (by omega), rcG_o h9 (by omega), h.2.1 _ (by omega) (by omega)]
      show g (1 + (c + (q - (c + 1)))) = g (1 + c + (1 + q - (2 + c)))
      congr 1; omega
    · rw [zcp_out (by omega), zcp_out (by omega), rcG_o h9 (by omega)]; exact h.2.1 q q1 (by omega)
