/-! ===== members that change the desk ===== -/
section PT
variable {G : zG} {cs : List va_E}
theorem pr_price {x v : Int} (h : Inv G cs) (hx : rng x) (hv : rng v) : prG G cs yX7_price cX7_price 4 1 20 yX8_price cX8_price 4 2 45 [.int (iI x), .int (iI v)] := by
  obtain ⟨d, d2, tp, td, hi, gs, ln, sn, ws, s, ku, ag, tp', co, wy, th, kp, ka, ln', sn', it, mv, rfl, hlw, hU, hI⟩ := h
  obtain ⟨hg, hi2, hkk, ht, hS, hag, hco, hmv⟩ := id hI
  obtain ⟨hOk, hR, hWf, hLt⟩ := id hg
  have hT := hR.2.2.1
  have hK := hR.2.2.2.1
  have e0 : sG s 0 = d.2.1 := hT.1
  have e61 : sG s 61 = d.2.2.1 := hT.2.2.1
  have hL : 0 ≤ d.2.1 ∧ d.2.1 ≤ 60 := hOk.2.1
  have hc := hOk.2.2.1
  have hL' : 0 ≤ sG s 0 ∧ sG s 0 ≤ 60 := by rw [e0]; exact hL
  have hc' : 0 ≤ sG s 61 ∧ sG s 61 ≤ sG s 0 := by rw [e0, e61]; exact ⟨hc.1, hc.2.1⟩
  refine ⟨_, m_X7_price G hx hv hOk, fun r cs1 hq => ?_⟩
  obtain ⟨rfl, rfl⟩ := hq
  by_cases c1 : (0 ≤ x ∧ x < 7) ∧ 1 ≤ v ∧ v ≤ 9
  · have eP := hK.2.2.2.2 x c1.1.1 c1.1.2
    by_cases c2 : (d.2.2.2.2.2.2.2.2.2.2.2.2.2.2.2.2.2.2.2.1) x = v
    · rw [if_neg (fun q => q c1), if_pos (Or.inr c2), if_pos c2]
      refine ⟨_, rfl, pr2 hlw hU rfl ⟨_, rfl⟩ (m_X8_price (rG G) hR.1 hx hv) (fun r cs hq => ?_)⟩
      obtain ⟨rfl, rfl⟩ := hq
      exact ⟨by rw [if_pos (by omega), if_pos (by omega)], s, ku, ag, tp', co, wy, th, kp, ka, ln', sn', it, mv, by rw [if_neg (by omega)], hI⟩
    · rw [if_neg (fun q => q c1), if_neg c2, if_neg (fun q => q.elim (fun z => z c1) c2)]
      refine ⟨_, rfl, pr2 (d := (d.1, d.2.1, d.2.2.1, d.2.2.2.1, d.2.2.2.2.1, d.2.2.2.2.2.1, d.2.2.2.2.2.2.1, d.2.2.2.2.2.2.2.1, d.2.2.2.2.2.2.2.2.1, d.2.2.2.2.2.2.2.2.2.1, d.2.2.2.2.2.2.2.2.2.2.1, d.2.2.2.2.2.2.2.2.2.2.2.1, d.2.2.2.2.2.2.2.2.2.2.2.2.1, d.2.2.2.2.2.2.2.2.2.2.2.2.2.1, d.2.2.2.2.2.2.2.2.2.2.2.2.2.2.1, d.2.2.2.2.2.2.2.2.2.2.2.2.2.2.2.1, d.2.2.2.2.2.2.2.2.2.2.2.2.2.2.2.2.1, d.2.2.2.2.2.2.2.2.2.2.2.2.2.2.2.2.2.1, d.2.2.2.2.2.2.2.2.2.2.2.2.2.2.2.2.2.2.1, zup (d.2.2.2.2.2.2.2.2.2.2.2.2.2.2.2.2.2.2.2.1) x v, d.2.2.2.2.2.2.2.2.2.2.2.2.2.2.2.2.2.2.2.2.1, d.2.2.2.2.2.2.2.2.2.2.2.2.2.2.2.2.2.2.2.2.2.1, d.2.2.2.2.2.2.2.2.2.2.2.2.2.2.2.2.2.2.2.2.2.2.1, d.2.2.2.2.2.2.2.2.2.2.2.2.2.2.2.2.2.2.2.2.2.2.2)) hlw hU rfl ⟨_, rfl⟩ (m_X8_price (rG G) hR.1 hx hv) (fun r cs hq => ?_)⟩
      obtain ⟨rfl, rfl⟩ := hq
      refine ⟨by rw [if_pos (by omega), if_neg (by omega), ← eP], (sU s, zup (sG s) (256 + x) v, sH s), ku, ag, tp', co, wy, th, kp, ka, ln', sn', it, mv, by rw [if_pos (by omega)], ⟨?_, ?_, hWf, hLt⟩, hi2, hkk, ht, hS, hag, hco, hmv⟩
      · obtain ⟨hf, hL, hc, hbf, hbL, hbc, hpf, hplc, hnx, hsz, hk, hk3, hk4, hkf, hks, hlf, hls, hsf, hsl, hmf, hrf, hty, hpa, hfr, hto, hcm⟩ := hOk
        exact ⟨hf, hL, hc, hbf, hbL, hbc, hpf, hplc, hnx, hsz, hk, hk3, hk4, hkf, hks, hlf, hls, hsf, hsl, hmf, zup_all (P := fun z => 1 ≤ z ∧ z ≤ 9) hrf (by omega), hty, hpa, hfr, hto, hcm⟩
      · obtain ⟨hf, hL, hc, hbf, hbL, hbc, hpf, hplc, hnx, hsz, hk, hk3, hk4, hkf, hks, hlf, hls, hsf, hsl, hmf, hrf, hty, hpa, hfr, hto, hcm⟩ := hOk
        have eg : ∀ j, j < 256 → zup (sG s) (256 + x) v j = sG s j := fun j hj => zup_n (by omega)
        obtain ⟨a1, a2, a3, ⟨k0, k1, k2, k3, k4⟩, a5, a6, a7, a8, a9, a10⟩ := hR
        refine ⟨zup_rng a1 hv, a2, relT_mv a3 (fun j hj => eg j (by omega)) hL hsl ((eg 61 (by omega)).trans a3.2.2.1), ⟨(eg 159 (by omega)).trans k0, fun j j1 j2 j3 => (k1 j j1 j2 j3).trans (eg (160 + j) (by omega)).symm, (eg 128 (by omega)).trans k2, fun j j1 j2 j3 => (k3 j j1 j2 j3).trans (eg (129 + j) (by omega)).symm, fun j j1 j2 => ?_⟩, (eg 62 (by omega)).trans a5, fun z => ?_, a7, ⟨fun z1 z2 => ?_, fun z1 => ?_⟩, a9, ?_⟩
        · show zup (d.2.2.2.2.2.2.2.2.2.2.2.2.2.2.2.2.2.2.2.1) x v j = zup (sG s) (256 + x) v (256 + j)
          by_cases e : j = x
          · rw [e, zup_s, zup_s]
          · rw [zup_n e, zup_n (by omega)]; exact k4 j j1 j2
        · have q := a6 z
          unfold relC at q ⊢
          dsimp only [sG] at q ⊢
          rw [eg 190 (by omega), eg 191 (by omega), eg 192 (by omega), eg 193 (by omega)]
          exact q
        · obtain ⟨b1, b2, b3⟩ := a8.1 z1 z2
          exact ⟨(eg 194 (by omega)).trans b1, (eg 255 (by omega)).trans b2, fun j j1 j2 => (eg (195 + j) (by dsimp only at j2; omega)).trans (b3 j j1 j2)⟩
        · obtain ⟨b1, b2, b3⟩ := a8.2 z1
          exact ⟨(eg 194 (by omega)).trans b1, (eg 255 (by omega)).trans b2, fun j j1 j2 => (eg (195 + j) (by dsimp only at j2; omega)).trans (b3 j j1 j2)⟩
        · show (0 ≤ zup (sG s) (256 + x) v 191 ∧ zup (sG s) (256 + x) v 191 ≤ 99) ∧ (0 ≤ zup (sG s) (256 + x) v 192 ∧ zup (sG s) (256 + x) v 192 ≤ 99)
          rw [eg 191 (by omega), eg 192 (by omega)]; exact a10
  · rw [if_pos c1, if_pos (Or.inl c1)]
    refine ⟨_, rfl, pr2 hlw hU rfl ⟨_, rfl⟩ (m_X8_price (rG G) hR.1 hx hv) (fun r cs hq => ?_)⟩
    obtain ⟨rfl, rfl⟩ := hq
    exact ⟨by rw [if_neg (by omega)], s, ku, ag, tp', co, wy, th, kp, ka, ln', sn', it, mv, by rw [if_neg (by omega)], hI⟩
theorem pr_key {x : Int} (h : Inv G cs) (hx : rng x) : prG G cs yX7_key cX7_key 2 7 164 yX8_key cX8_key 2 9 205 [.int (iI x)] := by
  obtain ⟨d, d2, tp, td, hi, gs, ln, sn, ws, s, ku, ag, tp', co, wy, th, kp, ka, ln', sn', it, mv, rfl, hlw, hU, hI⟩ := h
  obtain ⟨hg, hi2, hkk, ht, hS, hag, hco, hmv⟩ := id hI
  obtain ⟨hOk, hR, hWf, hLt⟩ := id hg
  refine ⟨_, m_X7_key G hx hOk, fun r cs1 hq => ?_⟩
  have hM : okM (sU s, sG s, sH s) := rel_okM hR hOk
  rcases hq with ⟨c1, rfl, rfl⟩ | ⟨c1, rfl, rfl⟩
  · refine ⟨_, rfl, pr2 hlw hU rfl ⟨_, rfl⟩ (m_X8_key (rG G) hag hM hx (fun q => absurd q c1)) (fun r cs hq => ?_)⟩
    obtain ⟨rfl, rfl⟩ := hq
    have eM : keM (sU s, sG s, sH s) x = (-1, s) := by unfold keM; rw [if_neg c1]
    have eR : keR (sU s, sG s, sH s) x ag = ag := by unfold keR; rw [if_neg c1]
    exact ⟨by rw [eM], s, ku, ag, tp', co, wy, th, kp, ka, ln', sn', it, mv, by rw [eM, eR], hI⟩
  · obtain ⟨p1, p2, p3, p4, p5, p6⟩ := prs_rel (x := x) hR hOk hWf hLt (by omega)
    refine ⟨_, rfl, pr2 hlw hU rfl ⟨_, rfl⟩ (m_X8_key (rG G) hag hM hx (fun _ => ⟨p6.2.1, p6.2.2.1, p6.2.2.2⟩)) (fun r cs hq => ?_)⟩
    obtain ⟨rfl, rfl⟩ := hq
    have eM : keM (sU s, sG s, sH s) x = kyM s x := by unfold keM; rw [if_pos c1]
    have eR : keR (sU s, sG s, sH s) x ag = kyR s x ag := by unfold keR; rw [if_pos c1]
    refine ⟨by rw [eM, p2], (kyM s x).2, ku, kyR s x ag, tp', co, wy, th, kp, ka, ln', sn', it, mv, by rw [eM, eR], ⟨p5, p3, p4, p1⟩, hi2, hkk, ht, hS, ?_, hco, hmv⟩
    unfold kyR
    exact ite_rng (zcp_rng p6.2.2.1 hag) hag
theorem pr_image (h : Inv G cs) : prG G cs yX7_image cX7_image 1 4 89 yX8_image cX8_image 2 0 0 [] := by
  obtain ⟨d, d2, tp, td, hi, gs, ln, sn, ws, s, ku, ag, tp', co, wy, th, kp, ka, ln', sn', it, mv, rfl, hlw, hU, hI⟩ := h
  obtain ⟨hg, hi2, hkk, ht, hS, hag, hco, hmv⟩ := id hI
  obtain ⟨hOk, hR, hWf, hLt⟩ := id hg
  refine ⟨_, m_X7_image G hOk hi2.1 hLt.2.2.2.2, fun r cs1 hq => ?_⟩
  obtain ⟨rfl, rfl⟩ := hq
  have hU8 : 0 ≤ sU s ∧ sU s ≤ 8 := by rw [hR.2.2.2.2.2.2.2.2.1.1]; exact hOk.2.2.2.2.2.2.2.2.2.1
  have q := cpD_gd (un := sU s) (g := sG s) (ah := sH s) hg hi2.1 hi2.2.1 hkk.1 hkk.2
  refine ⟨_, rfl, pr2 (d2 := cpD d d2) hlw hU rfl ⟨_, rfl⟩ (m_X8_image (rG G) hR.1 hR.2.1 (by omega)) (fun r cs hq => ?_)⟩
  obtain ⟨rfl, rfl⟩ := hq
  exact ⟨rfl, s, sU s, ag, tp', co, wy, th, _, _, ln', sn', it, mv, rfl, hg, ⟨q.1, q.2.2.2, Or.inr ⟨rfl, hU8.1, hU8.2, q⟩⟩, ⟨zcp_rng hR.1 hkk.1, zcp_rng hR.2.1 hkk.2⟩, ht, hS, hag, hco, hmv⟩
theorem pr_restore (h : Inv G cs) : prG G cs yX7_restore cX7_restore 1 4 89 yX8_restore cX8_restore 2 0 0 [] := by
  obtain ⟨d, d2, tp, td, hi, gs, ln, sn, ws, s, ku, ag, tp', co, wy, th, kp, ka, ln', sn', it, mv, rfl, hlw, hU, hI⟩ := h
  obtain ⟨hg, hi2, hkk, ht, hS, hag, hco, hmv⟩ := id hI
  obtain ⟨hOk, hR, hWf, hLt⟩ := id hg
  have hh : rng hi ∧ rng ku := by rcases hi2.2.2 with q | q <;> omega
  refine ⟨_, m_X7_restore G hOk hi2.1 hi2.2.1.2.2.2.2 hh.1, fun r cs1 hq => ?_⟩
  rcases hq with ⟨c1, rfl, rfl⟩ | ⟨c1, rfl, rfl⟩
  · have hk : ku < 0 := by rcases hi2.2.2 with q | q <;> omega
    refine ⟨_, rfl, pr2 hlw hU rfl ⟨_, rfl⟩ (m_X8_restore (rG G) hR.1 hh.2 hkk.1 hkk.2) (fun r cs hq => ?_)⟩
    obtain ⟨rfl, rfl⟩ := hq
    exact ⟨by rw [if_pos hk], s, ku, ag, tp', co, wy, th, kp, ka, ln', sn', it, mv, by rw [if_pos hk, if_pos hk, if_pos hk], hI⟩
  · rcases hi2.2.2 with q | ⟨q1, q2, q3, q4⟩
    · exact absurd q.1 c1
    · have hk : ¬ ku < 0 := by omega
      refine ⟨_, rfl, pr2 (d := cpD d2 d) hlw hU rfl ⟨_, rfl⟩ (m_X8_restore (rG G) hR.1 hh.2 hkk.1 hkk.2) (fun r cs hq => ?_)⟩
      obtain ⟨rfl, rfl⟩ := hq
      exact ⟨by rw [if_neg hk], (ku, zcp kp (sG s) 0 0 263, zcp ka (sH s) 0 0 496), ku, ag, tp', co, wy, th, kp, ka, ln', sn', it, mv, by rw [if_neg hk, if_neg hk, if_neg hk], cpD_gd q4 hOk hLt hR.1 hR.2.1, hi2, hkk, ht, hS, hag, hco, hmv⟩
end PT
