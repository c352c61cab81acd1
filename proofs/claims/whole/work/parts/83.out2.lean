/-! ===== the other deeds ===== -/
section OV
variable {f pf pl pc k sf mf : Int → Int} {L c nx sz sl pla fro to n : Int} {s : zM}
/-- x -/
theorem out_x (h : relT f L c sf sl mf (sG s)) (hr : ∀ j, rng (sG s j)) (hL : 0 < L ∧ L ≤ 60) (hc : 0 ≤ c ∧ c < L) (hs : 0 ≤ sl ∧ sl ≤ 60) (hn : 1 ≤ n) (hk : k 2 = 100) (hd : sG s 190 = 0) (h62 : sG s 62 = 0) : outR (pfm f L c pf pl pc nx sz k sf sl mf pla c (min L (c + n)) n) f L c pf pl pc nx sz sf sl mf s (crM s n) := by
  have h0 : sG s 0 = L := h.1
  have h61 : sG s 61 = c := h.2.2.1
  have hb : 0 ≤ c ∧ c ≤ min L (c + n) ∧ min L (c + n) ≤ sG s 0 ∧ sG s 0 ≤ 60 := by omega
  have hb2 : 0 ≤ c ∧ c ≤ min L (c + n) ∧ min L (c + n) ≤ L ∧ L ≤ 60 := by omega
  have hlt : c < min L (c + n) := by omega
  have eB : rgB (sG s) c (min L (c + n)) = ctG (kpG (sG s) c (min L (c + n))) c (min L (c + n)) := by
    unfold rgB rgA; rw [if_pos ⟨by omega, hlt⟩, if_pos hlt]
  have e0 : rgB (sG s) c (min L (c + n)) 0 = (ctT f L c (min L (c + n))).2 := by
    have := (relT_rd (x := 0) h hb2 hs (by omega)).1
    rw [zup_n (by omega)] at this; exact this
  have e : crM s n = (0, chM (sU s, zup (rgB (sG s) c (min L (c + n))) 61 (min c (la (ctT f L c (min L (c + n))).2)), sH s)) := by
    unfold crM
    rw [if_neg (by omega), h0, h61, show min (c + n) L = min L (c + n) by omega, ← eB, e0]
  have h1 := ctT_in (f := f) hb2
  have hlz : ∀ z, rng (min c (la z)) := fun z => by have : 0 ≤ la z := by { unfold la; split <;> omega }; omega
  rw [pfm_2 (by omega) hk, e, if_pos hlt]
  refine Or.inr ⟨_, _, _, _, _, _, _, relT_rd h hb2 hs (by omega), h1, stS_in (f := f) (sf := sf) hb2 hs, zup_rng (rgB_rng hr hb) (hlz _), fun j hj => ?_, Or.inr (Or.inl ⟨rfl, ?_, rfl⟩)⟩
  · rw [zup_n (by omega)]; exact rgB_o hb (by omega)
  · rw [zup_n (by omega), rgB_o hb (by omega)]; exact h62
/-- r -/
theorem out_r {x : Int} (h : relT f L c sf sl mf (sG s)) (hr : ∀ j, rng (sG s j)) (hL : 0 ≤ L ∧ L ≤ 60) (hc : 0 ≤ c ∧ c ≤ L) (hs : 0 ≤ sl ∧ sl ≤ 60) (hn : 1 ≤ n ∧ n ≤ 99) (hk : k 2 = 114) (hx : k 8 = x) (hxr : rng x) (h62 : sG s 62 = 0) : outR (pfm f L c pf pl pc nx sz k sf sl mf pla fro to n) f L c pf pl pc nx sz sf sl mf s (rpM s x n) := by
  have h0 : sG s 0 = L := h.1
  have h61 : sG s 61 = c := h.2.2.1
  rw [pfm_5 (by omega) (by omega) (by omega) (by omega) hk]
  unfold rpM
  rw [h0, h61, hx]
  by_cases e : c + n > L
  · rw [if_pos e, if_pos e, if_pos e, if_pos e]
    exact Or.inl ⟨rfl, rfl⟩
  · rw [if_neg e, if_neg e, if_neg e, if_neg e]
    refine Or.inr ⟨_, _, _, _, _, _, _, relT_ov (n := n) (v := x) h hs (by omega) hL.2, hL, hs, zup_rng (ovr_rng hr hxr) (by omega), fun j hj => ?_, Or.inr (Or.inl ⟨rfl, ?_, rfl⟩)⟩
    · rw [zup_n (by omega), ovr_o (by omega)]
    · rw [zup_n (by omega), ovr_o (by omega)]; exact h62
/-- ~ -/
theorem out_w (h : relT f L c sf sl mf (sG s)) (hr : ∀ j, rng (sG s j)) (hL : 0 ≤ L ∧ L ≤ 60) (hc : 0 ≤ c ∧ c ≤ L) (hs : 0 ≤ sl ∧ sl ≤ 60) (hn : 1 ≤ n ∧ n ≤ 99) (hk : k 2 = 126) (h62 : sG s 62 = 0) : outR (pfm f L c pf pl pc nx sz k sf sl mf pla fro to n) f L c pf pl pc nx sz sf sl mf s (tnM s n) := by
  have h0 : sG s 0 = L := h.1
  have h61 : sG s 61 = c := h.2.2.1
  have hla := la_in hL.1
  rw [pfm_6 (by omega) (by omega) (by omega) (by omega) (by omega) hk]
  unfold tnM
  rw [h0, h61, show min (c + n) L = min L (c + n) by omega]
  by_cases e : L = 0
  · rw [if_pos e, if_pos e, if_pos e, if_pos e]
    exact Or.inl ⟨rfl, rfl⟩
  · rw [if_neg e, if_neg e, if_neg e, if_neg e]
    refine Or.inr ⟨_, _, _, _, _, _, _, relT_sw h hs (by omega) hL.2, hL, hs, zup_rng (sws_rng hr) (by omega), fun j hj => ?_, Or.inr (Or.inl ⟨rfl, ?_, rfl⟩)⟩
    · rw [zup_n (by omega), sws_o (by omega)]
    · rw [zup_n (by omega), sws_o (by omega)]; exact h62
/-- p, P: put in at a place -/
theorem out_put {p P : Int} {g : Int → Int} (h : relT f L c sf sl mf g) (hr : ∀ j, rng (g j)) (hs : 0 < sl ∧ sl ≤ 60) (hp : 0 ≤ p ∧ p ≤ L) (hP : 0 < P ∧ L + P ≤ 60) (h62 : g 62 = 0) : relT (pin (zcp f f p (p + P) (L - p)) sf sl p (p + P)) (L + P) (p + P - 1) sf sl mf (zup (zup (pin (zcp g g (1 + p) (1 + p + P) (L - p)) (fun k => g (64 + k)) sl (1 + p) (1 + p + P)) 0 (L + P)) 61 (p + P - 1)) ∧ (∀ j, rng (zup (zup (pin (zcp g g (1 + p) (1 + p + P) (L - p)) (fun k => g (64 + k)) sl (1 + p) (1 + p + P)) 0 (L + P)) 61 (p + P - 1) j)) ∧ (∀ j, 128 ≤ j → zup (zup (pin (zcp g g (1 + p) (1 + p + P) (L - p)) (fun k => g (64 + k)) sl (1 + p) (1 + p + P)) 0 (L + P)) 61 (p + P - 1) j = g j) ∧ zup (zup (pin (zcp g g (1 + p) (1 + p + P) (L - p)) (fun k => g (64 + k)) sl (1 + p) (1 + p + P)) 0 (L + P)) 61 (p + P - 1) 62 = 0 := by
  refine ⟨relT_pt h hs hp (by omega), zup_rng (zup_rng (pin_rng (zcp_rng hr hr) (fun j => hr (64 + j))) (by omega)) (by omega), fun j hj => ?_, ?_⟩
  · rw [zup_n (by omega), zup_n (by omega), pin_o (by omega), zcp_out (by omega)]
  · rw [zup_n (by omega), zup_n (by omega), pin_o (by omega), zcp_out (by omega)]; exact h62
theorem ptM_no {a : Int} (h0 : sG s 0 = L) (h63 : sG s 63 = sl) (e : n * sl = 0 ∨ n * sl > 60 - L) : ptM s a n = (-2, s) := by
  unfold ptM; rw [h0, h63, if_pos (by omega)]
theorem ptM_go {a p : Int} (h0 : sG s 0 = L) (h63 : sG s 63 = sl) (e : ¬ (n * sl = 0 ∨ n * sl > 60 - L)) (hp : ptP (sG s) a = p) : ptM s a n = (0, chM (sU s, zup (zup (pin (zcp (sG s) (sG s) (1 + p) (1 + p + n * sl) (L - p)) (fun k => sG s (64 + k)) sl (1 + p) (1 + p + n * sl)) 0 (L + n * sl)) 61 (p + n * sl - 1), sH s)) := by
  unfold ptM; rw [h0, h63, hp, if_neg (by omega)]
theorem mul_pos' {n sl : Int} (hn : 1 ≤ n) (hs : 0 ≤ sl) : 0 ≤ n * sl := Int.mul_nonneg (by omega) hs
theorem sl_pos {n sl : Int} (hs : 0 ≤ sl) (e : n * sl ≠ 0) : 0 < sl := by
  apply Classical.byContradiction
  intro q
  have : sl = 0 := by omega
  rw [this, Int.mul_zero] at e
  exact e rfl
theorem out_p (h : relT f L c sf sl mf (sG s)) (hr : ∀ j, rng (sG s j)) (hL : 0 ≤ L ∧ L ≤ 60) (hc : 0 ≤ c ∧ c ≤ la L) (hs : 0 ≤ sl ∧ sl ≤ 60) (hn : 1 ≤ n ∧ n ≤ 99) (hk : k 2 = 112) (h62 : sG s 62 = 0) : outR (pfm f L c pf pl pc nx sz k sf sl mf pla fro to n) f L c pf pl pc nx sz sf sl mf s (ptM s 1 n) := by
  have h0 : sG s 0 = L := h.1
  have h61 : sG s 61 = c := h.2.2.1
  have hla := la_in hL.1
  have hm := mul_pos' hn.1 hs.1
  rw [pfm_7 (by omega) (by omega) (by omega) (by omega) (by omega) (by omega) hk]
  by_cases e : n * sl = 0 ∨ n * sl > 60 - L
  · rw [if_pos e, if_pos e, if_pos e, if_pos e, ptM_no h0 h.2.2.2.1 e]
    exact Or.inl ⟨rfl, rfl⟩
  · have hp : ptP (sG s) 1 = min (c + 1) L := by
      unfold ptP; rw [h0, h61]
      by_cases e2 : 0 < L
      · rw [if_pos ⟨by omega, e2⟩]; omega
      · rw [if_neg (fun q => e2 q.2)]; omega
    rw [if_neg e, if_neg e, if_neg e, if_neg e, ptM_go h0 h.2.2.2.1 e hp]
    have hsl := sl_pos hs.1 (show n * sl ≠ 0 by omega)
    obtain ⟨q1, q2, q3, q4⟩ := out_put (p := min (c + 1) L) (P := n * sl) h hr ⟨hsl, hs.2⟩ (by omega) (by omega) h62
    exact Or.inr ⟨_, _, _, _, _, _, _, q1, by omega, hs, q2, q3, Or.inr (Or.inl ⟨rfl, q4, rfl⟩)⟩
theorem out_P (h : relT f L c sf sl mf (sG s)) (hr : ∀ j, rng (sG s j)) (hL : 0 ≤ L ∧ L ≤ 60) (hc : 0 ≤ c ∧ c ≤ la L) (hs : 0 ≤ sl ∧ sl ≤ 60) (hn : 1 ≤ n ∧ n ≤ 99) (hk : k 2 = 80) (h62 : sG s 62 = 0) : outR (pfm f L c pf pl pc nx sz k sf sl mf pla fro to n) f L c pf pl pc nx sz sf sl mf s (ptM s 0 n) := by
  have h0 : sG s 0 = L := h.1
  have h61 : sG s 61 = c := h.2.2.1
  have hla := la_in hL.1
  have hm := mul_pos' hn.1 hs.1
  rw [pfm_8 (by omega) (by omega) (by omega) (by omega) (by omega) (by omega) (by omega) hk]
  by_cases e : n * sl = 0 ∨ n * sl > 60 - L
  · rw [if_pos e, if_pos e, if_pos e, if_pos e, ptM_no h0 h.2.2.2.1 e]
    exact Or.inl ⟨rfl, rfl⟩
  · have hp : ptP (sG s) 0 = c := by
      unfold ptP; rw [if_neg (fun q => q.1 rfl), h61]
    rw [if_neg e, if_neg e, if_neg e, if_neg e, ptM_go h0 h.2.2.2.1 e hp]
    have hsl := sl_pos hs.1 (show n * sl ≠ 0 by omega)
    obtain ⟨q1, q2, q3, q4⟩ := out_put (p := c) (P := n * sl) h hr ⟨hsl, hs.2⟩ (by omega) (by omega) h62
    exact Or.inr ⟨_, _, _, _, _, _, _, q1, by omega, hs, q2, q3, Or.inr (Or.inl ⟨rfl, q4, rfl⟩)⟩
/-- i, a, I, A: one inserts at a place -/
theorem out_i {R : zPf} {p : Int} (h : relT f L c sf sl mf (sG s)) (hr : ∀ j, rng (sG s j)) (hL : 0 ≤ L ∧ L ≤ 60) (hs : 0 ≤ sl ∧ sl ≤ 60) (hp : 0 ≤ p ∧ p ≤ L) (hR : R = (3, f, L, p, sf, sl, mf, nx, sz)) : outR R f L c pf pl pc nx sz sf sl mf s (2, (sU s, zup (zup (sG s) 61 p) 62 1, sH s)) := by
  rw [hR]
  refine Or.inr ⟨_, _, _, _, _, _, _, relT_mv h (g2 := zup (zup (sG s) 61 p) 62 1) (fun j hj => by rw [zup_n (by omega), zup_n (by omega)]) hL hs (by rw [zup_n (by omega), zup_s]), hL, hs, zup_rng (zup_rng hr (by omega)) (by omega), fun j hj => by rw [zup_n (by omega), zup_n (by omega)], Or.inr (Or.inr ⟨rfl, zup_s, rfl⟩)⟩
/-- m -/
theorem out_m {x : Int} (h : relT f L c sf sl mf (sG s)) (hr : ∀ j, rng (sG s j)) (hL : 0 ≤ L ∧ L ≤ 60) (hc : 0 ≤ c ∧ c ≤ L) (hs : 0 ≤ sl ∧ sl ≤ 60) (hk : k 2 = 109) (hx : k 8 = x - 97) (hx2 : 97 ≤ x ∧ x ≤ 100) (h62 : sG s 62 = 0) (hP : relP pf pl pc nx sz (sU s) (sH s)) : outR (pfm f L c pf pl pc nx sz k sf sl mf pla fro to n) f L c pf pl pc nx sz sf sl mf s (0, (sU s, zup (sG s) (124 + x - 97) (sG s 61), sH s)) := by
  have h61 : sG s 61 = c := h.2.2.1
  rw [pfm_15 (by omega) (by omega) (by omega) (by omega) (by omega) (by omega) (by omega) (by omega) (by omega) (by omega) (by omega) (by omega) (by omega) (by omega) hk, if_pos (by omega), if_pos (by omega), h61, hx]
  refine Or.inr ⟨_, _, _, _, _, _, zup (sG s) (124 + x - 97) c, ?_, hL, hs, zup_rng hr (by omega), fun j hj => zup_n (by omega), Or.inl ⟨nx, sz, sU s, rfl, by rw [zup_n (by omega)]; exact h62, hP, rfl⟩⟩
  obtain ⟨a0, a1, a2, a3, a4, a5⟩ := h
  refine ⟨by rw [zup_n (by omega)]; exact a0, fun p p1 p2 => ?_, by rw [zup_n (by omega)]; exact a2, by rw [zup_n (by omega)]; exact a3, fun j j1 j2 => by rw [zup_n (by omega)]; exact a4 j j1 j2, fun j j1 j2 => ?_⟩
  · rw [a1 p p1 p2]; show sG s (1 + p) = zup (sG s) (124 + x - 97) c (1 + p); rw [zup_n (by omega)]
  · by_cases e : j = x - 97
    · rw [e, show 124 + (x - 97) = 124 + x - 97 by omega, zup_s, zup_s, if_neg (by omega)]
    · rw [zup_n (by omega), zup_n e]; exact a5 j j1 j2
/-- u -/
theorem out_u {t : Int} (h : relT f L c sf sl mf (sG s)) (hr : ∀ j, rng (sG s j)) (hrH : ∀ j, rng (sH s j)) (hL : 0 ≤ L ∧ L ≤ 60) (hs : 0 ≤ sl ∧ sl ≤ 60) (hn : 1 ≤ n ∧ n ≤ 99) (ht : t = n) (hnx : 0 ≤ nx ∧ nx < 8) (hsz : 0 ≤ sz ∧ sz ≤ 8) (hplc : ∀ j, (0 ≤ pl j ∧ pl j ≤ 60) ∧ 0 ≤ pc j ∧ pc j ≤ la (pl j)) (hk : k 2 = 117) (h62 : sG s 62 = 0) (hP : relP pf pl pc nx sz (sU s) (sH s)) : outR (pfm f L c pf pl pc nx sz k sf sl mf pla fro to n) f L c pf pl pc nx sz sf sl mf s (if sU s = 0 then -2 else 0, (sU s - min t (sU s), if sU s = 0 then sG s else unG (sH s) (sG s) (sU s - min t (sU s)), sH s)) := by
  have hu : sU s = sz := hP.1
  rw [hu, ht]
  by_cases e : sz = 0
  · rw [pfm_13 (by omega) (by omega) (by omega) (by omega) (by omega) (by omega) (by omega) (by omega) (by omega) (by omega) (by omega) (by omega) ⟨hk, e⟩, if_pos e, if_pos e]
    refine Or.inl ⟨rfl, ?_⟩
    rw [show sz - min n sz = sU s by omega]
  · rw [pfm_14 (by omega) (by omega) (by omega) (by omega) (by omega) (by omega) (by omega) (by omega) (by omega) (by omega) (by omega) (by omega) (fun q => e q.2) hk, if_neg e, if_neg e]
    have hP2 := relP_un (m := min n sz) hP (by omega)
    have q := hP.2 (min n sz - 1) (by omega) (by omega)
    rw [show sz - 1 - (min n sz - 1) = sz - min n sz by omega, show nx - 1 - (min n sz - 1) = nx - min n sz by omega] at q
    have hl := hplc ((nx - min n sz) % 8)
    generalize (nx - min n sz) % 8 = w at q hP2 hl ⊢
    obtain ⟨q1, q2, q3⟩ := q
    refine Or.inr ⟨_, _, _, _, _, _, unG (sH s) (sG s) (sz - min n sz), ?_, hl.1, hs, zcp_rng hrH hr, fun j hj => zcp_out (by omega), Or.inl ⟨_, _, _, rfl, by unfold unG; rw [zcp_out (by omega)]; exact h62, hP2, by rw [hu]⟩⟩
    obtain ⟨a0, a1, a2, a3, a4, a5⟩ := h
    unfold unG
    refine ⟨?_, fun p p1 p2 => ?_, ?_, by rw [zcp_out (by omega)]; exact a3, fun j j1 j2 => by rw [zcp_out (by omega)]; exact a4 j j1 j2, fun j j1 j2 => by rw [zcp_out (by omega)]; exact a5 j j1 j2⟩
    · rw [zcp_in (by omega) (by omega), ← q1]; congr 1; omega
    · show zcp pf f (w * 60) 0 60 p = zcp (sH s) (sG s) (62 * (sz - min n sz)) 0 62 (1 + p)
      rw [zcp_in (by omega) (by omega), zcp_in (by omega) (by omega), show w * 60 + (p - 0) = w * 60 + p by omega, ← q3 p p1 p2]; congr 1; omega
    · rw [zcp_in (by omega) (by omega), ← q2]; congr 1 <;> omega
end OV
