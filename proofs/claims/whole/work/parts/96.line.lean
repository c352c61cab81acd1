/-! ===== line, goes ===== -/
section PU
variable {G : zG} {cs : List va_E}
theorem liG_z {g tp : Int → Int} {td j : Int} (ht : 0 ≤ td ∧ td ≤ 60) (h : (61 ≤ j ∧ j < 124) ∨ (128 ≤ j ∧ j < 256)) : liG g tp td j = 0 := by
  unfold liG
  rw [zcp_out (by omega), zup_n (by omega), ovr_o (by omega)]
  unfold ovr; rw [if_pos (by omega)]
theorem liG_h {g tp : Int → Int} {td j : Int} (ht : 0 ≤ td ∧ td ≤ 60) (h : 256 ≤ j) : liG g tp td j = g j := by
  unfold liG
  rw [zcp_out (by omega), zup_n (by omega), ovr_o (by omega), ovr_o (by omega)]
theorem pr_line (h : Inv G cs) : prG G cs yX7_line cX7_line 1 2 48 yX8_line cX8_line 2 0 0 [] := by
  obtain ⟨d, d2, tp, td, hi, gs, ln, sn, ws, s, ku, ag, tp', co, wy, th, kp, ka, ln', sn', it, mv, rfl, hlw, hU, hI⟩ := h
  obtain ⟨hg, hi2, hkk, ht, hS, hag, hco, hmv⟩ := id hI
  obtain ⟨hOk, hR, hWf, hLt⟩ := id hg
  refine ⟨_, m_X7_line G hOk ht.1, fun r cs1 hq => ?_⟩
  obtain ⟨rfl, rfl⟩ := hq
  refine ⟨_, rfl, pr2 (d := (zcp tp (d.1) 0 0 td, td, 0, d.2.2.2.1, d.2.2.2.2.1, d.2.2.2.2.2.1, d.2.2.2.2.2.2.1, d.2.2.2.2.2.2.2.1, d.2.2.2.2.2.2.2.2.1, d.2.2.2.2.2.2.2.2.2.1, 0, (fun _ => 0), d.2.2.2.2.2.2.2.2.2.2.2.2.1, 0, d.2.2.2.2.2.2.2.2.2.2.2.2.2.2.1, 0, d.2.2.2.2.2.2.2.2.2.2.2.2.2.2.2.2.1, 0, ovr (d.2.2.2.2.2.2.2.2.2.2.2.2.2.2.2.2.2.2.1) 0 4 (-1), d.2.2.2.2.2.2.2.2.2.2.2.2.2.2.2.2.2.2.2.1, 0, d.2.2.2.2.2.2.2.2.2.2.2.2.2.2.2.2.2.2.2.2.2.1, d.2.2.2.2.2.2.2.2.2.2.2.2.2.2.2.2.2.2.2.2.2.2.1, d.2.2.2.2.2.2.2.2.2.2.2.2.2.2.2.2.2.2.2.2.2.2.2)) hlw hU rfl ⟨_, rfl⟩ (m_X8_line (rG G) hR.1 ht.1 ht.2.2.2) (fun r cs hq => ?_)⟩
  obtain ⟨rfl, rfl⟩ := hq
  obtain ⟨hf, hL, hc, hbf, hbL, hbc, hpf, hplc, hnx, hsz, hk, hk3, hk4, hkf, hks, hlf, hls, hsf, hsl, hmf, hrf, hty, hpa, hfr, hto, hcm⟩ := hOk
  obtain ⟨a1, a2, a3, ⟨k0, k1, k2, k3, k4⟩, a5, a6, a7, a8, a9, a10⟩ := hR
  have hla := la_in ht.1.1
  have hz := fun j h => liG_z (g := sG s) (tp := tp') (j := j) ht.1 h
  refine ⟨rfl, (0, liG (sG s) tp' td, sH s), ku, ag, tp', co, wy, th, kp, ka, ln', sn', it, mv, rfl, ⟨?_, ?_, ⟨wfK_0 _, fun q => absurd q (by dsimp only; omega)⟩, zcp_lr ht.2.2.1 hLt.1, hLt.2.1, hLt.2.2.1, hLt.2.2.2.1, Or.inl rfl⟩, hi2, hkk, ⟨by omega, fun j j1 j2 => absurd j2 (by omega), ht.2.2.1, ht.2.2.2⟩, hS, hag, hco, hmv⟩
  · exact ⟨zcp_rng (fun j => by have := ht.2.2.1 j; omega) hf, ht.1, by dsimp only; omega, hbf, hbL, hbc, hpf, hplc, hnx, by dsimp only; omega, fun _ => (by decide : rng (0 : Int)), by dsimp only; omega, by dsimp only; omega, hkf, by dsimp only; omega, hlf, by dsimp only; omega, hsf, by dsimp only; omega, fun j => by
      have := hmf j
      dsimp only
      unfold ovr; split <;> omega, hrf, Or.inl rfl, hpa, hfr, hto, fun _ => okC_0⟩
  · refine ⟨?_, a2, ⟨?_, fun p p1 p2 => ?_, hz 61 (by omega), hz 63 (by omega), fun j j1 j2 => absurd j2 (by dsimp only; omega), fun j j1 j2 => ?_⟩, ⟨hz 159 (by omega), fun j j1 j2 => absurd j2 (by dsimp only; omega), hz 128 (by omega), fun j j1 j2 => absurd j2 (by dsimp only; omega), fun j j1 j2 => ?_⟩, hz 62 (by omega), fun _ => ?_, fun _ q => ?_, ⟨fun _ q => absurd q (by dsimp only; omega), fun q => absurd rfl q⟩, ⟨rfl, fun t t1 t2 => absurd t2 (by dsimp only; omega)⟩, ?_⟩
    · unfold liG
      exact zcp_rng ht.2.2.2 (zup_rng (ovr_rng (ovr_rng a1 (by omega)) (by omega)) (by omega))
    · show liG (sG s) tp' td 0 = td
      unfold liG; rw [zcp_out (by omega), zup_s]
    · dsimp only at p2
      show zcp tp (d.1) 0 0 td p = liG (sG s) tp' td (1 + p)
      unfold liG
      rw [zcp_in p1 (by omega), zcp_in (by omega) (by omega), show 0 + (p - 0) = p by omega, show 0 + (1 + p - 1) = p by omega]
      exact ht.2.1 p p1 p2
    · show liG (sG s) tp' td (124 + j) = if ovr (d.2.2.2.2.2.2.2.2.2.2.2.2.2.2.2.2.2.2.1) 0 4 (-1) j = -1 then -4 else ovr (d.2.2.2.2.2.2.2.2.2.2.2.2.2.2.2.2.2.2.1) 0 4 (-1) j
      have e1 : ovr (d.2.2.2.2.2.2.2.2.2.2.2.2.2.2.2.2.2.2.1) 0 4 (-1) j = -1 := by unfold ovr; rw [if_pos (by omega)]
      rw [if_pos e1]
      unfold liG
      rw [zcp_out (by omega), zup_n (by omega)]
      unfold ovr; rw [if_pos (by omega)]
    · exact (k4 j j1 j2).trans (liG_h ht.1 (by omega)).symm
    · exact ⟨(hz 191 (by omega)).symm, (hz 192 (by omega)).symm, Or.inl ⟨rfl, rfl, rfl, hz 190 (by omega), hz 193 (by omega)⟩⟩
    · exact absurd q (fun q => q.elim (fun z => z rfl) (fun z => absurd z (Int.lt_irrefl 0)))
    · show (0 ≤ liG (sG s) tp' td 191 ∧ liG (sG s) tp' td 191 ≤ 99) ∧ (0 ≤ liG (sG s) tp' td 192 ∧ liG (sG s) tp' td 192 ≤ 99)
      rw [hz 191 (by omega), hz 192 (by omega)]; omega
theorem pr_goes {x v : Int} (h : Inv G cs) (hx : rng x) (hv : rng v) : prG G cs yX7_goes cX7_goes 3 4 96 yX8_goes cX8_goes 8 5 112 [.int (iI x), .int (iI v)] := by
  obtain ⟨d, d2, tp, td, hi, gs, ln, sn, ws, s, ku, ag, tp', co, wy, th, kp, ka, ln', sn', it, mv, rfl, hlw, hU, hI⟩ := h
  obtain ⟨hg, hi2, hkk, ht, hS, hag, hco, hmv⟩ := id hI
  obtain ⟨hOk, hR, hWf, hLt⟩ := id hg
  have hT := hR.2.2.1
  have hK := hR.2.2.2.1
  have e0 : sG s 0 = d.2.1 := hT.1
  have e61 : sG s 61 = d.2.2.1 := hT.2.2.1
  have hL : 0 ≤ d.2.1 ∧ d.2.1 ≤ 60 := hOk.2.1
  have hc := hOk.2.2.1
  have hL' : 0 ≤ sG s 0 ∧ sG s 0 ≤ 60 := by rw [e0]; exact hL
  have hc' : 0 ≤ sG s 61 ∧ sG s 61 ≤ sG s 0 := by rw [e0, e61]; exact ⟨hc.1, hc.2.1⟩
  refine ⟨_, m_X7_goes G hx hv hOk, fun r cs1 hq => ?_⟩
  rcases hq with ⟨c1, rfl, rfl⟩ | ⟨c1, rfl, rfl⟩
  · refine ⟨_, rfl, pr2 hlw hU rfl ⟨_, rfl⟩ (m_X8_goes (rG G) hR.1 hL' hc' hx hv) (fun r cs hq => ?_)⟩
    obtain ⟨rfl, rfl⟩ := hq
    exact ⟨by rw [if_neg (by omega)], s, ku, ag, tp', co, wy, th, kp, ka, ln', sn', it, mv, rfl, hI⟩
  · have hla := la_in hL.1
    have hst : stt (sG s) = min d.2.2.1 (la d.2.1) := by unfold stt; rw [e0, e61]
    have hin := ldN_in (f := d.1) (L := d.2.1) (m := x) v.toNat (min d.2.2.1 (la d.2.1)) (by omega) (by omega)
    have ep : plc d.1 d.2.1 d.2.2.1 (d.2.2.2.2.2.2.2.2.2.2.2.2.2.2.2.2.2.2.1) x v 0 = ldN d.1 d.2.1 x v.toNat (min d.2.2.1 (la d.2.1)) := plc_3 (by omega)
    have eq2 : ldN (lt (sG s)) (sG s 0) x v.toNat (stt (sG s)) = ldN d.1 d.2.1 x v.toNat (min d.2.2.1 (la d.2.1)) := by rw [hst, e0, ← ldN_cg hT.2.1]
    generalize hA : aMp (plc d.1 d.2.1 d.2.2.1 (d.2.2.2.2.2.2.2.2.2.2.2.2.2.2.2.2.2.2.1) x v 0) x = A
    generalize hB : aMf d.2.1 d.2.2.1 (plc d.1 d.2.1 d.2.2.1 (d.2.2.2.2.2.2.2.2.2.2.2.2.2.2.2.2.2.2.1) x v 0) x (d.2.2.2.2.2.2.2.2.2.2.2.2.2.2.2.2.2.2.2.2.2.2.1) = B
    generalize hC : aMt d.2.1 d.2.2.1 (plc d.1 d.2.1 d.2.2.1 (d.2.2.2.2.2.2.2.2.2.2.2.2.2.2.2.2.2.2.1) x v 0) x (d.2.2.2.2.2.2.2.2.2.2.2.2.2.2.2.2.2.2.2.2.2.2.2) = C
    rw [ep] at hA hB hC
    unfold aMp at hA
    unfold aMf aMp at hB
    unfold aMt aMp at hC
    generalize hp : ldN d.1 d.2.1 x v.toNat (min d.2.2.1 (la d.2.1)) = p at hin hA hB hC eq2
    rw [if_neg (by omega), if_neg (by omega)] at hA
    rw [if_neg (by omega), if_neg (by omega), if_neg (by omega)] at hB
    rw [if_neg (by omega), if_neg (by omega), if_neg (by omega)] at hC
    have hb : b2z (tkP x) = b2z (x = 3 ∨ x = 6) := by unfold b2z tkP; split <;> split <;> omega
    have hb2 := b2z_rng (x = 3 ∨ x = 6)
    have hb3 : 0 ≤ b2z (x = 3 ∨ x = 6) ∧ b2z (x = 3 ∨ x = 6) ≤ 1 := by unfold b2z; split <;> omega
    refine ⟨_, rfl, pr2 (d := (d.1, d.2.1, d.2.2.1, d.2.2.2.1, d.2.2.2.2.1, d.2.2.2.2.2.1, d.2.2.2.2.2.2.1, d.2.2.2.2.2.2.2.1, d.2.2.2.2.2.2.2.2.1, d.2.2.2.2.2.2.2.2.2.1, d.2.2.2.2.2.2.2.2.2.2.1, d.2.2.2.2.2.2.2.2.2.2.2.1, d.2.2.2.2.2.2.2.2.2.2.2.2.1, d.2.2.2.2.2.2.2.2.2.2.2.2.2.1, d.2.2.2.2.2.2.2.2.2.2.2.2.2.2.1, d.2.2.2.2.2.2.2.2.2.2.2.2.2.2.2.1, d.2.2.2.2.2.2.2.2.2.2.2.2.2.2.2.2.1, d.2.2.2.2.2.2.2.2.2.2.2.2.2.2.2.2.2.1, d.2.2.2.2.2.2.2.2.2.2.2.2.2.2.2.2.2.2.1, d.2.2.2.2.2.2.2.2.2.2.2.2.2.2.2.2.2.2.2.1, d.2.2.2.2.2.2.2.2.2.2.2.2.2.2.2.2.2.2.2.2.1, A, B, C)) hlw hU rfl ⟨_, rfl⟩ (m_X8_goes (rG G) hR.1 hL' hc' hx hv) (fun r cs hq => ?_)⟩
    obtain ⟨rfl, rfl⟩ := hq
    refine ⟨?_, s, ku, ag, tp', co, wy, th, kp, ka, ln', sn', it, mv, rfl, ⟨?_, hR, hWf, hLt⟩, hi2, hkk, ht, hS, hag, hco, hmv⟩
    · refine congrArg (fun z => some (Value.int (iI z))) ?_
      rw [if_pos (by omega), eq2, hst, ← hB, ← hC, hb, e0]
      omega
    · obtain ⟨hf, hL, hc, hbf, hbL, hbc, hpf, hplc, hnx, hsz, hk, hk3, hk4, hkf, hks, hlf, hls, hsf, hsl, hmf, hrf, hty, hpa, hfr, hto, hcm⟩ := hOk
      exact ⟨hf, hL, hc, hbf, hbL, hbc, hpf, hplc, hnx, hsz, hk, hk3, hk4, hkf, hks, hlf, hls, hsf, hsl, hmf, hrf, hty, by dsimp only; omega, by dsimp only; omega, by dsimp only; rw [hb] at hC; omega, hcm⟩
end PU
