/-! ===== members that change nothing ===== -/
section PS
variable {G : zG} {cs : List va_E}
theorem pr_letter {x : Int} (h : Inv G cs) (hx : rng x) : prG G cs yX7_letter cX7_letter 2 2 42 yX8_letter cX8_letter 2 1 25 [.int (iI x)] := by
  obtain ⟨d, d2, tp, td, hi, gs, ln, sn, ws, s, ku, ag, tp', co, wy, th, kp, ka, ln', sn', it, mv, rfl, hlw, hU, hI⟩ := h
  obtain ⟨hg, hi2, hkk, ht, hS, hag, hco, hmv⟩ := id hI
  obtain ⟨hOk, hR, hWf, hLt⟩ := id hg
  have hT := hR.2.2.1
  have hK := hR.2.2.2.1
  have e0 : sG s 0 = d.2.1 := hT.1
  have e61 : sG s 61 = d.2.2.1 := hT.2.2.1
  have hL : 0 ≤ d.2.1 ∧ d.2.1 ≤ 60 := hOk.2.1
  have hc := hOk.2.2.1
  have hL' : 0 ≤ sG s 0 ∧ sG s 0 ≤ 60 := by rw [e0]; exact hL
  have hc' : 0 ≤ sG s 61 ∧ sG s 61 ≤ sG s 0 := by rw [e0, e61]; exact ⟨hc.1, hc.2.1⟩
  refine ⟨_, m_X7_letter G hx hOk, fun r cs1 hq => ?_⟩
  obtain ⟨rfl, rfl⟩ := hq
  refine ⟨_, rfl, pr2 hlw hU rfl ⟨_, rfl⟩ (m_X8_letter (rG G) hR.1 hL' hx) (fun r cs hq => ?_)⟩
  obtain ⟨rfl, rfl⟩ := hq
  refine ⟨?_, s, ku, ag, tp', co, wy, th, kp, ka, ln', sn', it, mv, rfl, hI⟩
  refine congrArg (fun z => some (Value.int (iI z))) ?_
  unfold atv
  rw [e0]
  by_cases e : 0 ≤ x ∧ x < d.2.1
  · rw [if_pos e, if_pos e]; exact (hT.2.1 x e.1 e.2).symm
  · rw [if_neg e, if_neg e]
theorem pr_store {x : Int} (h : Inv G cs) (hx : rng x) : prG G cs yX7_store cX7_store 2 0 0 yX8_store cX8_store 2 1 25 [.int (iI x)] := by
  obtain ⟨d, d2, tp, td, hi, gs, ln, sn, ws, s, ku, ag, tp', co, wy, th, kp, ka, ln', sn', it, mv, rfl, hlw, hU, hI⟩ := h
  obtain ⟨hg, hi2, hkk, ht, hS, hag, hco, hmv⟩ := id hI
  obtain ⟨hOk, hR, hWf, hLt⟩ := id hg
  have hT := hR.2.2.1
  have hK := hR.2.2.2.1
  have e0 : sG s 0 = d.2.1 := hT.1
  have e61 : sG s 61 = d.2.2.1 := hT.2.2.1
  have hL : 0 ≤ d.2.1 ∧ d.2.1 ≤ 60 := hOk.2.1
  have hc := hOk.2.2.1
  have hL' : 0 ≤ sG s 0 ∧ sG s 0 ≤ 60 := by rw [e0]; exact hL
  have hc' : 0 ≤ sG s 61 ∧ sG s 61 ≤ sG s 0 := by rw [e0, e61]; exact ⟨hc.1, hc.2.1⟩
  refine ⟨_, m_X7_store G hx hOk, fun r cs1 hq => ?_⟩
  obtain ⟨rfl, rfl⟩ := hq
  refine ⟨_, rfl, pr2 hlw hU rfl ⟨_, rfl⟩ (m_X8_store (rG G) hR.1 (by rw [hT.2.2.2.1]; exact hOk.2.2.2.2.2.2.2.2.2.2.2.2.2.2.2.2.2.2.1) hx) (fun r cs hq => ?_)⟩
  obtain ⟨rfl, rfl⟩ := hq
  refine ⟨?_, s, ku, ag, tp', co, wy, th, kp, ka, ln', sn', it, mv, rfl, hI⟩
  refine congrArg (fun z => some (Value.int (iI z))) ?_
  unfold atv
  rw [hT.2.2.2.1]
  by_cases e : 0 ≤ x ∧ x < (d.2.2.2.2.2.2.2.2.2.2.2.2.2.2.2.2.2.1)
  · rw [if_pos e, if_pos e]; exact (hT.2.2.2.2.1 x e.1 e.2).symm
  · rw [if_neg e, if_neg e]
theorem pr_mark {x : Int} (h : Inv G cs) (hx : rng x) : prG G cs yX7_mark cX7_mark 2 0 0 yX8_mark cX8_mark 2 1 25 [.int (iI x)] := by
  obtain ⟨d, d2, tp, td, hi, gs, ln, sn, ws, s, ku, ag, tp', co, wy, th, kp, ka, ln', sn', it, mv, rfl, hlw, hU, hI⟩ := h
  obtain ⟨hg, hi2, hkk, ht, hS, hag, hco, hmv⟩ := id hI
  obtain ⟨hOk, hR, hWf, hLt⟩ := id hg
  have hT := hR.2.2.1
  have hK := hR.2.2.2.1
  have e0 : sG s 0 = d.2.1 := hT.1
  have e61 : sG s 61 = d.2.2.1 := hT.2.2.1
  have hL : 0 ≤ d.2.1 ∧ d.2.1 ≤ 60 := hOk.2.1
  have hc := hOk.2.2.1
  have hL' : 0 ≤ sG s 0 ∧ sG s 0 ≤ 60 := by rw [e0]; exact hL
  have hc' : 0 ≤ sG s 61 ∧ sG s 61 ≤ sG s 0 := by rw [e0, e61]; exact ⟨hc.1, hc.2.1⟩
  refine ⟨_, m_X7_mark G hx hOk, fun r cs1 hq => ?_⟩
  obtain ⟨rfl, rfl⟩ := hq
  refine ⟨_, rfl, pr2 hlw hU rfl ⟨_, rfl⟩ (m_X8_mark (rG G) hR.1 hx) (fun r cs hq => ?_)⟩
  obtain ⟨rfl, rfl⟩ := hq
  refine ⟨?_, s, ku, ag, tp', co, wy, th, kp, ka, ln', sn', it, mv, rfl, hI⟩
  refine congrArg (fun z => some (Value.int (iI z))) ?_
  by_cases e : 0 ≤ x ∧ x < 4
  · rw [if_pos e, if_pos e]; exact hT.2.2.2.2.2 x e.1 e.2
  · rw [if_neg e, if_neg e]
theorem bsN_cg {P Q : Int → Bool} : ∀ n : Nat, (∀ j : Nat, j < n → P j = Q j) → bsN P n = bsN Q n
  | 0, _ => rfl
  | n + 1, h => by rw [bsN, bsN, bsN_cg n (fun j hj => h j (by omega)), h n (by omega)]
theorem pr_count {x : Int} (h : Inv G cs) (hx : rng x) : prG G cs yX7_count cX7_count 2 2 47 yX8_count cX8_count 2 4 89 [.int (iI x)] := by
  obtain ⟨d, d2, tp, td, hi, gs, ln, sn, ws, s, ku, ag, tp', co, wy, th, kp, ka, ln', sn', it, mv, rfl, hlw, hU, hI⟩ := h
  obtain ⟨hg, hi2, hkk, ht, hS, hag, hco, hmv⟩ := id hI
  obtain ⟨hOk, hR, hWf, hLt⟩ := id hg
  have hT := hR.2.2.1
  have hK := hR.2.2.2.1
  have e0 : sG s 0 = d.2.1 := hT.1
  have e61 : sG s 61 = d.2.2.1 := hT.2.2.1
  have hL : 0 ≤ d.2.1 ∧ d.2.1 ≤ 60 := hOk.2.1
  have hc := hOk.2.2.1
  have hL' : 0 ≤ sG s 0 ∧ sG s 0 ≤ 60 := by rw [e0]; exact hL
  have hc' : 0 ≤ sG s 61 ∧ sG s 61 ≤ sG s 0 := by rw [e0, e61]; exact ⟨hc.1, hc.2.1⟩
  refine ⟨_, m_X7_count G hx hOk, fun r cs1 hq => ?_⟩
  obtain ⟨rfl, rfl⟩ := hq
  refine ⟨_, rfl, pr2 hlw hU rfl ⟨_, rfl⟩ (m_X8_count (rG G) hR.1 hL' hx) (fun r cs hq => ?_)⟩
  obtain ⟨rfl, rfl⟩ := hq
  refine ⟨?_, s, ku, ag, tp', co, wy, th, kp, ka, ln', sn', it, mv, rfl, hI⟩
  refine congrArg (fun z => some (Value.int (iI z))) ?_
  have hmf := hOk.2.2.2.2.2.2.2.2.2.2.2.2.2.2.2.2.2.2.2.1
  have eM : bsN (fun j => decide (sG s (124 + j) ≠ -4)) 4 = bsN (fun j => decide ((d.2.2.2.2.2.2.2.2.2.2.2.2.2.2.2.2.2.2.1) j ≠ -1)) 4 := bsN_cg 4 (fun j hj => by
    have q := hT.2.2.2.2.2 j (by omega) (by omega)
    have q2 := hmf j
    rw [q]
    by_cases e : (d.2.2.2.2.2.2.2.2.2.2.2.2.2.2.2.2.2.2.1) (j : Int) = -1
    · rw [if_pos e, e]; rfl
    · rw [if_neg e, decide_eq_true (by omega), decide_eq_true e])
  have eW : wd (lt (sG s)) (sG s 0) 0 0 = wd d.1 d.2.1 0 0 := by rw [e0]; exact (wd_cg hT.2.1 0 0).symm
  have e62 : sG s 62 = d.2.2.2.2.2.2.2.2.2.2.2.2.2.2.2.2.2.2.2.2.1 := hR.2.2.2.2.1
  have eU : sU s = d.2.2.2.2.2.2.2.2.2.2.1 := hR.2.2.2.2.2.2.2.2.1.1
  have eP : b2z (0 < sG s 159 ∧ sG s 62 = 0) = b2z (d.2.2.2.2.2.2.2.2.2.2.2.2.2.2.2.2.2.2.2.2.1 = 0 ∧ 0 < d.2.2.2.2.2.2.2.2.2.2.2.2.2.1) := by
    rw [hK.1, e62]
    unfold b2z
    split <;> split <;> omega
  unfold cnM cntV
  rw [eM, eW, eP, e0, e61, e62, hT.2.2.2.1, eU, hK.2.2.1]
theorem pr_leads {x v : Int} (h : Inv G cs) (hx : rng x) (hv : rng v) : prG G cs yX7_leads cX7_leads 3 3 71 yX8_leads cX8_leads 3 5 112 [.int (iI x), .int (iI v)] := by
  obtain ⟨d, d2, tp, td, hi, gs, ln, sn, ws, s, ku, ag, tp', co, wy, th, kp, ka, ln', sn', it, mv, rfl, hlw, hU, hI⟩ := h
  obtain ⟨hg, hi2, hkk, ht, hS, hag, hco, hmv⟩ := id hI
  obtain ⟨hOk, hR, hWf, hLt⟩ := id hg
  have hT := hR.2.2.1
  have hK := hR.2.2.2.1
  have e0 : sG s 0 = d.2.1 := hT.1
  have e61 : sG s 61 = d.2.2.1 := hT.2.2.1
  have hL : 0 ≤ d.2.1 ∧ d.2.1 ≤ 60 := hOk.2.1
  have hc := hOk.2.2.1
  have hL' : 0 ≤ sG s 0 ∧ sG s 0 ≤ 60 := by rw [e0]; exact hL
  have hc' : 0 ≤ sG s 61 ∧ sG s 61 ≤ sG s 0 := by rw [e0, e61]; exact ⟨hc.1, hc.2.1⟩
  refine ⟨_, m_X7_leads G hx hv hOk, fun r cs1 hq => ?_⟩
  obtain ⟨rfl, rfl⟩ := hq
  refine ⟨_, rfl, pr2 hlw hU rfl ⟨_, rfl⟩ (m_X8_leads (rG G) hR.1 hL' hx hv) (fun r cs hq => ?_)⟩
  obtain ⟨rfl, rfl⟩ := hq
  refine ⟨?_, s, ku, ag, tp', co, wy, th, kp, ka, ln', sn', it, mv, rfl, hI⟩
  refine congrArg (fun z => some (Value.int (iI z))) ?_
  rw [e0, ← ld_cg hT.2.1]
  by_cases e : (0 ≤ x ∧ x < 7) ∧ 0 ≤ v ∧ v ≤ d.2.1
  · rw [if_pos e, if_pos (by omega)]
  · rw [if_neg e, if_neg (by omega)]
theorem pr_once {x : Int} (h : Inv G cs) (hx : rng x) : prG G cs yX7_once cX7_once 4 4 93 yX8_once cX8_once 4 6 134 [.int (iI x)] := by
  obtain ⟨d, d2, tp, td, hi, gs, ln, sn, ws, s, ku, ag, tp', co, wy, th, kp, ka, ln', sn', it, mv, rfl, hlw, hU, hI⟩ := h
  obtain ⟨hg, hi2, hkk, ht, hS, hag, hco, hmv⟩ := id hI
  obtain ⟨hOk, hR, hWf, hLt⟩ := id hg
  have hT := hR.2.2.1
  have hK := hR.2.2.2.1
  have e0 : sG s 0 = d.2.1 := hT.1
  have e61 : sG s 61 = d.2.2.1 := hT.2.2.1
  have hL : 0 ≤ d.2.1 ∧ d.2.1 ≤ 60 := hOk.2.1
  have hc := hOk.2.2.1
  have hL' : 0 ≤ sG s 0 ∧ sG s 0 ≤ 60 := by rw [e0]; exact hL
  have hc' : 0 ≤ sG s 61 ∧ sG s 61 ≤ sG s 0 := by rw [e0, e61]; exact ⟨hc.1, hc.2.1⟩
  refine ⟨_, m_X7_once G hx hOk, fun r cs1 hq => ?_⟩
  obtain ⟨rfl, rfl⟩ := hq
  refine ⟨_, rfl, pr2 hlw hU rfl ⟨_, rfl⟩ (m_X8_once (rG G) hR.1 hL' hc' hx) (fun r cs hq => ?_)⟩
  obtain ⟨rfl, rfl⟩ := hq
  refine ⟨?_, s, ku, ag, tp', co, wy, th, kp, ka, ln', sn', it, mv, rfl, hI⟩
  refine congrArg (fun z => some (Value.int (iI z))) ?_
  rw [e0]
  by_cases e : 0 ≤ x ∧ x ≤ la d.2.1
  · rw [if_pos e, if_pos e]
    refine bsN_cg 7 (fun j hj => ?_)
    unfold lnd stt dd
    rw [e0, e61, ← ld_cg hT.2.1]
  · rw [if_neg e, if_neg e]
end PS
