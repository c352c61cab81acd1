/-! ===== sheets ===== -/
theorem cutZ_s {l v : Int} (h : 0 ≤ v ∧ v ≤ 126) : cutZ l v = v := by
  have a : ∀ v : Fin 127, zby (v.val : Int) = v.val ∧ zsh (v.val : Int) = v.val ∧ z32 (v.val : Int) = v.val := by decide +kernel
  obtain ⟨a1, a2, a3⟩ := a ⟨v.toNat, by omega⟩
  dsimp only at a1 a2 a3
  rw [Int.toNat_of_nonneg h.1] at a1 a2 a3
  unfold cutZ
  split
  · exact a1
  split
  · exact a2
  split
  · exact a3
  · rfl
theorem cutZ_L {l v : Int} (h : rngL v) : rngL (cutZ l v) := by
  unfold cutZ
  split
  · unfold zby; have := iI_rng (iI v).toInt8.toInt32; omega
  split
  · unfold zsh; have := iI_rng (iI v).toInt16.toInt32; omega
  split
  · unfold z32; have := iI_rng (iI v); omega
  · exact h
theorem gpS {g : Int → Int → Int} {n : Int} {h : Int → Int} : gup g n h n = h := if_pos rfl
theorem gpN {g : Int → Int → Int} {n i : Int} {h : Int → Int} (e : i ≠ n) : gup g n h i = g i := if_neg e
theorem relS_up {gs : Int → Int → Int} {ln sn ln' sn' it it2 h : Int → Int} {q : Int} (hS : relS gs ln sn ln' sn' it) (hq : 0 ≤ q ∧ q < 4) (hh : ∀ j, rngL (h j)) (hi : ∀ j, rngL (it2 j)) (e1 : ∀ j, 0 ≤ j → j < 24 → h j = it2 (24 * q + j)) (e2 : ∀ j, j < 24 * q ∨ 24 * q + 24 ≤ j → it2 j = it j) : relS (gup gs q h) ln sn ln' sn' it2 := by
  obtain ⟨a1, a2, a3, a4, a5⟩ := hS
  refine ⟨fun n => ?_, a2, a3, hi, fun n n1 n2 => ⟨(a5 n n1 n2).1, fun n3 => ⟨((a5 n n1 n2).2 n3).1, fun j j1 j2 => ?_⟩⟩⟩
  · obtain ⟨b1, b2⟩ := a1 n
    refine ⟨fun k => ?_, b2⟩
    by_cases e : n = q
    · rw [e, gpS]; exact hh k
    · rw [gpN e]; exact b1 k
  · by_cases e : n = q
    · rw [e, gpS]; exact e1 j j1 j2
    · rw [gpN e, e2 _ (by omega)]; exact ((a5 n n1 n2).2 n3).2 j j1 j2
/-- a sheet made anew, or dropped -/
theorem relS_nw {gs : Int → Int → Int} {ln sn ln' sn' sn2 it it2 h : Int → Int} {q a n : Int} (hS : relS gs ln sn ln' sn' it) (hq : 0 ≤ q ∧ q < 4) (ha : -1 ≤ a ∧ a ≤ 3) (hn : 0 ≤ n ∧ n ≤ 24) (hh : ∀ j, rngL (h j)) (hi : ∀ j, rngL (it2 j)) (hs2 : ∀ j, 0 ≤ sn2 j ∧ sn2 j ≤ 24) (e0 : ∀ j, j ≠ q → sn2 j = sn' j) (e1 : a ≠ -1 → sn2 q = n ∧ ∀ j, 0 ≤ j → j < 24 → h j = it2 (24 * q + j)) (e2 : ∀ j, j < 24 * q ∨ 24 * q + 24 ≤ j → it2 j = it j) : relS (gup gs q h) (zup ln q a) (zup sn q n) (zup ln' q a) sn2 it2 := by
  obtain ⟨a1, a2, a3, a4, a5⟩ := hS
  refine ⟨fun m => ?_, zup_rng a2 (by omega), hs2, hi, fun m n1 n2 => ?_⟩
  · obtain ⟨b1, b2⟩ := a1 m
    by_cases e : m = q
    · rw [e, gpS, zup_s, zup_s]; exact ⟨hh, ha.1, ha.2, hn.1, hn.2⟩
    · rw [gpN e, zup_n e, zup_n e]; exact ⟨b1, b2⟩
  · by_cases e : m = q
    · rw [e, gpS, zup_s, zup_s, zup_s]
      exact ⟨rfl, fun z => ⟨(e1 z).1.symm, (e1 z).2⟩⟩
    · rw [gpN e, zup_n e, zup_n e, zup_n e]
      refine ⟨(a5 m n1 n2).1, fun z => ⟨by rw [e0 m e]; exact ((a5 m n1 n2).2 z).1, fun j j1 j2 => ?_⟩⟩
      rw [e2 _ (by omega)]; exact ((a5 m n1 n2).2 z).2 j j1 j2
theorem flt_wh {gs : Int → Int → Int} {ln sn ln' sn' it : Int → Int} {q a i n : Int} (hS : relS gs ln sn ln' sn' it) (hq : 0 ≤ q ∧ q < 4) (hn : 0 ≤ n) : whM ln' sn' q a i n = fltS (ln q) (sn q) a i n ∧ (fltS (ln q) (sn q) a i n = 0 ∨ fltS (ln q) (sn q) a i n < 0) ∧ (fltS (ln q) (sn q) a i n = 0 → ln q = a ∧ ln q ≠ -1 ∧ rchS (sn q) i n) := by
  obtain ⟨a1, a2, a3, a4, a5⟩ := hS
  obtain ⟨b1, b2⟩ := a5 q hq.1 hq.2
  have b3 := (a1 q).2
  by_cases e1 : ln q = -1
  · have eF : fltS (ln q) (sn q) a i n = -11 := by unfold fltS; rw [if_pos e1]
    have eW : whM ln' sn' q a i n = -11 := by unfold whM; rw [if_pos (by omega)]
    rw [eF, eW]; omega
  · have b4 := (b2 e1).1
    by_cases e2 : ln q = a
    · by_cases e3 : rchS (sn q) i n
      · have eF : fltS (ln q) (sn q) a i n = 0 := by unfold fltS; rw [if_neg e1, if_neg (by omega), if_pos e3]
        have eW : whM ln' sn' q a i n = 0 := by unfold whM; rw [if_neg (by omega), if_neg (by omega), if_neg (by omega)]
        rw [eF, eW]; exact ⟨rfl, Or.inl rfl, fun _ => ⟨e2, e1, e3⟩⟩
      · have eF : fltS (ln q) (sn q) a i n = -13 := by unfold fltS; rw [if_neg e1, if_neg (by omega), if_neg e3]
        have eW : whM ln' sn' q a i n = -13 := by unfold whM; rw [if_neg (by omega), if_neg (by omega), if_pos (by omega)]
        rw [eF, eW]; omega
    · have eF : fltS (ln q) (sn q) a i n = -12 := by unfold fltS; rw [if_neg e1, if_pos e2]
      have eW : whM ln' sn' q a i n = -12 := by unfold whM; rw [if_neg (by omega), if_pos (by omega)]
      rw [eF, eW]; omega
section PV
variable {G : zG} {cs : List va_E}
theorem pr_sheet {q a n : Int} (h : Inv G cs) (h1 : rng q) (h2 : rng a) (h3 : rng n) : prG G cs yX7_sheet cX7_sheet 5 2 46 yX8_sheet cX8_sheet 5 2 45 [.int (iI q), .int (iI a), .int (iI n)] := by
  obtain ⟨d, d2, tp, td, hi, gs, ln, sn, ws, s, ku, ag, tp', co, wy, th, kp, ka, ln', sn', it, mv, rfl, hlw, hU, hI⟩ := h
  obtain ⟨hg, hi2, hkk, ht, hS, hag, hco, hmv⟩ := id hI
  obtain ⟨hOk, hR, hWf, hLt⟩ := id hg
  refine ⟨_, m_X7_sheet G h1 h2 h3 hS.1, fun r cs1 hq => ?_⟩
  obtain ⟨rfl, rfl⟩ := hq
  by_cases c1 : ((0 ≤ q ∧ q < 4) ∧ (0 ≤ a ∧ a < 4) ∧ n ≤ 24) ∧ 0 ≤ n
  · rw [if_pos c1, if_neg (not_not_intro c1.1), if_neg (show ¬ n < 0 by omega)]
    refine ⟨_, rfl, pr2 hlw hU rfl ⟨_, rfl⟩ (m_X8_sheet (rG G) h1 h2 h3) (fun r cs hq => ?_)⟩
    obtain ⟨rfl, rfl⟩ := hq
    refine ⟨by rw [if_pos (by omega), if_neg (by omega)], s, ku, ag, tp', co, wy, th, kp, ka, zup ln' q a, zup sn' q n, ovr it (24 * q) (24 * q + 24) 0, mv, by rw [if_pos (by omega), if_pos (by omega), if_pos (by omega)], hg, hi2, hkk, ht, ?_, hag, hco, hmv⟩
    refine relS_nw hS c1.1.1 (by omega) (by omega) (fun j => ?_) (fun j => ?_) (zup_all (P := fun z => 0 ≤ z ∧ z ≤ 24) hS.2.2.1 (by omega)) (fun j hj => zup_n hj) (fun _ => ⟨zup_s, fun j j1 j2 => ?_⟩) (fun j hj => ovr_o hj)
    · unfold ovr; split; omega; exact (hS.1 q).1 j
    · unfold ovr; split; omega; exact hS.2.2.2.1 j
    · unfold ovr; rw [if_pos (by omega), if_pos (by omega)]
  · rw [if_neg c1]
    refine ⟨_, rfl, pr2 hlw hU rfl ⟨_, rfl⟩ (m_X8_sheet (rG G) h1 h2 h3) (fun r cs hq => ?_)⟩
    obtain ⟨rfl, rfl⟩ := hq
    refine ⟨?_, s, ku, ag, tp', co, wy, th, kp, ka, ln', sn', it, mv, by rw [if_neg (by omega), if_neg (by omega), if_neg (by omega)], hI⟩
    refine congrArg (fun z => some (Value.int (iI z))) ?_
    by_cases c2 : (0 ≤ q ∧ q < 4) ∧ (0 ≤ a ∧ a < 4) ∧ n ≤ 24
    · rw [if_pos (show 0 ≤ q ∧ q ≤ 3 ∧ 0 ≤ a ∧ a ≤ 3 ∧ n ≤ 24 by omega), if_neg (not_not_intro c2)]
    · rw [if_neg (show ¬ (0 ≤ q ∧ q ≤ 3 ∧ 0 ≤ a ∧ a ≤ 3 ∧ n ≤ 24) by omega), if_pos c2]
theorem pr_drop {q : Int} (h : Inv G cs) (h1 : rng q) : prG G cs yX7_drop cX7_drop 4 2 46 yX8_drop cX8_drop 2 2 45 [.int (iI q)] := by
  obtain ⟨d, d2, tp, td, hi, gs, ln, sn, ws, s, ku, ag, tp', co, wy, th, kp, ka, ln', sn', it, mv, rfl, hlw, hU, hI⟩ := h
  obtain ⟨hg, hi2, hkk, ht, hS, hag, hco, hmv⟩ := id hI
  obtain ⟨hOk, hR, hWf, hLt⟩ := id hg
  refine ⟨_, m_X7_drop G h1 hS.1, fun r cs1 hq => ?_⟩
  obtain ⟨rfl, rfl⟩ := hq
  have b3 := (hS.1 q).2
  by_cases c1 : (0 ≤ q ∧ q < 4) ∧ ln q ≠ -1
  · obtain ⟨b1, b2⟩ := hS.2.2.2.2 q c1.1.1 c1.1.2
    rw [if_pos c1, if_neg (not_not_intro c1.1), if_neg c1.2]
    refine ⟨_, rfl, pr2 hlw hU rfl ⟨_, rfl⟩ (m_X8_drop (rG G) hS.2.2.1 hS.2.1 hS.2.2.2.1 hmv h1) (fun r cs hq => ?_)⟩
    obtain ⟨rfl, rfl⟩ := hq
    refine ⟨by rw [if_pos (by omega), if_neg (by omega), (b2 c1.2).1], s, ku, ag, tp', co, wy, th, kp, ka, zup ln' q (-1), sn', it, mv, by rw [if_pos (by omega)], hg, hi2, hkk, ht, ?_, hag, hco, hmv⟩
    refine relS_nw hS c1.1 (by omega) (by omega) (fun j => ?_) hS.2.2.2.1 hS.2.2.1 (fun j hj => rfl) (fun z => absurd rfl z) (fun j hj => rfl)
    unfold ovr; split; omega; exact (hS.1 q).1 j
  · rw [if_neg c1]
    refine ⟨_, rfl, pr2 hlw hU rfl ⟨_, rfl⟩ (m_X8_drop (rG G) hS.2.2.1 hS.2.1 hS.2.2.2.1 hmv h1) (fun r cs hq => ?_)⟩
    obtain ⟨rfl, rfl⟩ := hq
    by_cases c2 : 0 ≤ q ∧ q < 4
    · obtain ⟨b1, b2⟩ := hS.2.2.2.2 q c2.1 c2.2
      exact ⟨by rw [if_pos (show 0 ≤ q ∧ q ≤ 3 by omega), if_pos (show ln' q < 0 by omega), if_neg (not_not_intro c2), if_pos (show ln q = -1 by omega)], s, ku, ag, tp', co, wy, th, kp, ka, ln', sn', it, mv, by rw [if_neg (by omega)], hI⟩
    · exact ⟨by rw [if_neg (show ¬ (0 ≤ q ∧ q ≤ 3) by omega), if_pos c2], s, ku, ag, tp', co, wy, th, kp, ka, ln', sn', it, mv, by rw [if_neg (by omega)], hI⟩
theorem pr_item {q a i v : Int} (h : Inv G cs) (h1 : rng q) (h2 : rng a) (h3 : rng i) (h4 : rngL v) : prG G cs yX7_item cX7_item 8 2 45 yX8_item cX8_item 7 2 45 [.int (iI q), .int (iI a), .int (iI i), .long (lI v)] := by
  obtain ⟨d, d2, tp, td, hi, gs, ln, sn, ws, s, ku, ag, tp', co, wy, th, kp, ka, ln', sn', it, mv, rfl, hlw, hU, hI⟩ := h
  obtain ⟨hg, hi2, hkk, ht, hS, hag, hco, hmv⟩ := id hI
  obtain ⟨hOk, hR, hWf, hLt⟩ := id hg
  refine ⟨_, m_X7_item G h1 h2 h3 hS.1, fun r cs1 hq => ?_⟩
  obtain ⟨rfl, rfl⟩ := hq
  by_cases c0 : (0 ≤ q ∧ q < 4) ∧ (0 ≤ a ∧ a < 4)
  · obtain ⟨f1, f2, f3⟩ := flt_wh (a := a) (i := i) (n := 1) hS c0.1 (by omega)
    by_cases c1 : fltS (ln q) (sn q) a i 1 = 0
    · obtain ⟨g1, g2, g3⟩ := f3 c1
      have b3 := (hS.1 q).2
      rw [if_pos (And.intro c0 c1), if_neg (not_not_intro c0), if_neg (not_not_intro c1)]
      refine ⟨_, rfl, pr2 hlw hU rfl ⟨_, rfl⟩ (m_X8_item (rG G) hS.2.2.1 hS.2.1 hS.2.2.2.1 hmv h1 h2 h3 h4) (fun r cs hq => ?_)⟩
      obtain ⟨rfl, rfl⟩ := hq
      refine ⟨by rw [if_pos (by omega), if_neg (by omega)], s, ku, ag, tp', co, wy, th, kp, ka, ln', sn', zup it (24 * q + i) (cutZ a v), mv, by rw [if_pos (by omega)], hg, hi2, hkk, ht, ?_, hag, hco, hmv⟩
      refine relS_up hS c0.1 (zup_rngL (hS.1 q).1 (cutZ_L h4)) (zup_rngL hS.2.2.2.1 (cutZ_L h4)) (fun j j1 j2 => ?_) (fun j hj => zup_n (by omega))
      rw [g1]
      by_cases e : j = i
      · rw [e, zup_s, zup_s]
      · rw [zup_n e, zup_n (by omega)]; exact ((hS.2.2.2.2 q c0.1.1 c0.1.2).2 g2).2 j j1 j2
    · rw [if_neg (mt And.right c1), if_neg (not_not_intro c0), if_pos c1]
      refine ⟨_, rfl, pr2 hlw hU rfl ⟨_, rfl⟩ (m_X8_item (rG G) hS.2.2.1 hS.2.1 hS.2.2.2.1 hmv h1 h2 h3 h4) (fun r cs hq => ?_)⟩
      obtain ⟨rfl, rfl⟩ := hq
      exact ⟨by rw [if_pos (by omega), if_pos (by omega), f1], s, ku, ag, tp', co, wy, th, kp, ka, ln', sn', it, mv, by rw [if_neg (by omega)], hI⟩
  · rw [if_neg (mt And.left c0), if_pos c0]
    refine ⟨_, rfl, pr2 hlw hU rfl ⟨_, rfl⟩ (m_X8_item (rG G) hS.2.2.1 hS.2.1 hS.2.2.2.1 hmv h1 h2 h3 h4) (fun r cs hq => ?_)⟩
    obtain ⟨rfl, rfl⟩ := hq
    exact ⟨by rw [if_neg (by omega)], s, ku, ag, tp', co, wy, th, kp, ka, ln', sn', it, mv, by rw [if_neg (by omega)], hI⟩
theorem pr_film {p n q a i : Int} (h : Inv G cs) (h1 : rng p) (h2 : rng n) (h3 : rng q) (h4 : rng a) (h5 : rng i) : prG G cs yX7_film cX7_film 9 2 45 yX8_film cX8_film 8 2 45 [.int (iI p), .int (iI n), .int (iI q), .int (iI a), .int (iI i)] := by
  obtain ⟨d, d2, tp, td, hi, gs, ln, sn, ws, s, ku, ag, tp', co, wy, th, kp, ka, ln', sn', it, mv, rfl, hlw, hU, hI⟩ := h
  obtain ⟨hg, hi2, hkk, ht, hS, hag, hco, hmv⟩ := id hI
  obtain ⟨hOk, hR, hWf, hLt⟩ := id hg
  have hT := hR.2.2.1
  have hK := hR.2.2.2.1
  have e0 : sG s 0 = d.2.1 := hT.1
  have e61 : sG s 61 = d.2.2.1 := hT.2.2.1
  have hL : 0 ≤ d.2.1 ∧ d.2.1 ≤ 60 := hOk.2.1
  have hc := hOk.2.2.1
  have hL' : 0 ≤ sG s 0 ∧ sG s 0 ≤ 60 := by rw [e0]; exact hL
  have hc' : 0 ≤ sG s 61 ∧ sG s 61 ≤ sG s 0 := by rw [e0, e61]; exact ⟨hc.1, hc.2.1⟩
  refine ⟨_, m_X7_film G h1 h2 h3 h4 h5 hS.1 hOk, fun r cs1 hq => ?_⟩
  obtain ⟨rfl, rfl⟩ := hq
  by_cases c0 : ((0 ≤ q ∧ q < 4) ∧ (0 ≤ a ∧ a < 4)) ∧ (1 ≤ n ∧ n ≤ 24) ∧ 0 ≤ p ∧ p ≤ d.2.1 - n
  · obtain ⟨f1, f2, f3⟩ := flt_wh (a := a) (i := i) (n := n) hS c0.1.1 (by omega)
    by_cases c1 : fltS (ln q) (sn q) a i n = 0
    · obtain ⟨g1, g2, g3⟩ := f3 c1
      have b3 := (hS.1 q).2
      rw [if_pos (And.intro c0 c1), if_neg (not_not_intro c0), if_neg (not_not_intro c1)]
      refine ⟨_, rfl, pr2 hlw hU rfl ⟨_, rfl⟩ (m_X8_film (rG G) hR.1 hL' hS.2.2.1 hS.2.1 hS.2.2.2.1 hmv h1 h2 h3 h4 h5) (fun r cs hq => ?_)⟩
      obtain ⟨rfl, rfl⟩ := hq
      refine ⟨by rw [if_pos (by omega), if_neg (by omega)], s, ku, ag, tp', co, wy, th, kp, ka, ln', sn', zcp (lt (sG s)) it p (24 * q + i) n, mv, by rw [if_pos (by omega)], hg, hi2, hkk, ht, ?_, hag, hco, hmv⟩
      have hcut : ∀ z, cutZ (ln q) (d.1 z) = d.1 z := fun z => cutZ_s (hLt.1 z)
      refine relS_up hS c0.1.1 (fun j => ?_) (zcp_rngL (fun j => by have := hR.1 (1 + j); show rngL (sG s (1 + j)); omega) hS.2.2.2.1) (fun j j1 j2 => ?_) (fun j hj => zcp_out (by omega))
      · unfold flm
        split
        · rw [hcut]; have := hLt.1 (p + (j - i)); omega
        · exact (hS.1 q).1 j
      · unfold flm
        by_cases e : i ≤ j ∧ j < i + n
        · rw [if_pos e, hcut, zcp_in (by omega) (by omega), show p + (24 * q + j - (24 * q + i)) = p + (j - i) by omega]
          exact hT.2.1 _ (by omega) (by omega)
        · rw [if_neg e, zcp_out (by omega)]; exact ((hS.2.2.2.2 q c0.1.1.1 c0.1.1.2).2 g2).2 j j1 j2
    · rw [if_neg (mt And.right c1), if_neg (not_not_intro c0), if_pos c1]
      refine ⟨_, rfl, pr2 hlw hU rfl ⟨_, rfl⟩ (m_X8_film (rG G) hR.1 hL' hS.2.2.1 hS.2.1 hS.2.2.2.1 hmv h1 h2 h3 h4 h5) (fun r cs hq => ?_)⟩
      obtain ⟨rfl, rfl⟩ := hq
      exact ⟨by rw [if_pos (by omega), if_pos (by omega), f1], s, ku, ag, tp', co, wy, th, kp, ka, ln', sn', it, mv, by rw [if_neg (by omega)], hI⟩
  · rw [if_neg (mt And.left c0), if_pos c0]
    refine ⟨_, rfl, pr2 hlw hU rfl ⟨_, rfl⟩ (m_X8_film (rG G) hR.1 hL' hS.2.2.1 hS.2.1 hS.2.2.2.1 hmv h1 h2 h3 h4 h5) (fun r cs hq => ?_)⟩
    obtain ⟨rfl, rfl⟩ := hq
    exact ⟨by rw [if_neg (by omega)], s, ku, ag, tp', co, wy, th, kp, ka, ln', sn', it, mv, by rw [if_neg (by omega)], hI⟩
theorem pr_copy {q i r j n : Int} (h : Inv G cs) (h1 : rng q) (h2 : rng i) (h3 : rng r) (h4 : rng j) (h5 : rng n) : prG G cs yX7_copy cX7_copy 8 1 26 yX8_copy cX8_copy 7 2 45 [.int (iI q), .int (iI i), .int (iI r), .int (iI j), .int (iI n)] := by
  obtain ⟨d, d2, tp, td, hi, gs, ln, sn, ws, s, ku, ag, tp', co, wy, th, kp, ka, ln', sn', it, mv, rfl, hlw, hU, hI⟩ := h
  obtain ⟨hg, hi2, hkk, ht, hS, hag, hco, hmv⟩ := id hI
  obtain ⟨hOk, hR, hWf, hLt⟩ := id hg
  refine ⟨_, m_X7_copy G h1 h2 h3 h4 h5 hS.1, fun r0 cs1 hq => ?_⟩
  obtain ⟨rfl, rfl⟩ := hq
  have b3 := (hS.1 q).2
  have b4 := (hS.1 r).2
  by_cases c0 : (0 ≤ q ∧ q < 4) ∧ 0 ≤ r ∧ r < 4
  · obtain ⟨g1, g2⟩ := hS.2.2.2.2 q c0.1.1 c0.1.2
    obtain ⟨g3, g4⟩ := hS.2.2.2.2 r c0.2.1 c0.2.2
    by_cases c1 : ¬ (ln q = -1 ∨ ln r = -1) ∧ ln q = ln r ∧ rchS (sn q) i n ∧ rchS (sn r) j n
    · have g5 := (g2 (by omega)).1
      have g6 := (g4 (by omega)).1
      have cO : coO ln' sn' q i r j n := ⟨by omega, by omega, by omega, by omega⟩
      rw [if_pos (And.intro c0 c1), if_neg (not_not_intro c0)]
      refine ⟨_, rfl, pr2 hlw hU rfl ⟨_, rfl⟩ (m_X8_copy (rG G) hS.2.2.1 hS.2.1 hS.2.2.2.1 hmv h1 h2 h3 h4 h5) (fun r cs hq => ?_)⟩
      obtain ⟨rfl, rfl⟩ := hq
      refine ⟨?_, s, ku, ag, tp', co, wy, th, kp, ka, ln', sn', zcp (zcp it mv (24 * q + i) 0 n) it 0 (24 * r + j) n, zcp it mv (24 * q + i) 0 n, by rw [if_pos cO, if_pos cO], hg, hi2, hkk, ht, ?_, hag, hco, zcp_rngL hS.2.2.2.1 hmv⟩
      · unfold coM cpV
        rw [if_neg (by omega), if_neg (by omega), if_neg (by omega), if_neg (by omega), if_neg (by omega), if_neg (by omega), if_neg (by omega)]
      · refine relS_up hS c0.2 (zcp_rngL (hS.1 q).1 (hS.1 r).1) (zcp_rngL (zcp_rngL hS.2.2.2.1 hmv) hS.2.2.2.1) (fun k j1 j2 => ?_) (fun k hk => zcp_out (by omega))
        by_cases e : j ≤ k ∧ k < j + n
        · rw [zcp_in e.1 e.2, zcp_in (by omega) (by omega), zcp_in (by omega) (by omega), show 24 * q + i + (0 + (24 * r + k - (24 * r + j)) - 0) = 24 * q + (i + (k - j)) by omega]
          exact (g2 (by omega)).2 _ (by omega) (by omega)
        · rw [zcp_out (by omega), zcp_out (by omega)]; exact (g4 (by omega)).2 k j1 j2
    · have cO : ¬ coO ln' sn' q i r j n := fun z => c1 (by
        obtain ⟨z1, z2, z3, z4⟩ := z
        have g5 := (g2 (by omega)).1
        have g6 := (g4 (by omega)).1
        refine ⟨by omega, by omega, ?_, ?_⟩ <;> omega)
      rw [if_neg (mt And.right c1), if_neg (not_not_intro c0)]
      refine ⟨_, rfl, pr2 hlw hU rfl ⟨_, rfl⟩ (m_X8_copy (rG G) hS.2.2.1 hS.2.1 hS.2.2.2.1 hmv h1 h2 h3 h4 h5) (fun r cs hq => ?_)⟩
      obtain ⟨rfl, rfl⟩ := hq
      refine ⟨?_, s, ku, ag, tp', co, wy, th, kp, ka, ln', sn', it, mv, by rw [if_neg cO, if_neg cO], hI⟩
      unfold coM cpV
      rw [if_neg (by omega)]
      by_cases d1 : ln q = -1 ∨ ln r = -1
      · rw [if_pos d1, if_pos (by omega)]
      · rw [if_neg d1, if_neg (by omega)]
        by_cases d2 : ln q = ln r
        · have g5 := (g2 (by omega)).1
          have g6 := (g4 (by omega)).1
          have n1 : ¬ (ln' q ≠ ln' r) := by omega
          have n2 : ¬ (ln q ≠ ln r) := not_not_intro d2
          have n3 : ¬ (rchS (sn q) i n ∧ rchS (sn r) j n) := fun z => c1 ⟨d1, d2, z.1, z.2⟩
          have n4 : n < 0 ∨ i < 0 ∨ j < 0 ∨ i + n > sn' q ∨ j + n > sn' r := by omega
          rw [if_neg n1, if_neg n2, if_pos n3, if_pos n4]
        · rw [if_pos d2, if_pos (by omega)]
  · have cO : ¬ coO ln' sn' q i r j n := fun z => c0 (by have := z.1; omega)
    rw [if_neg (mt And.left c0), if_pos c0]
    refine ⟨_, rfl, pr2 hlw hU rfl ⟨_, rfl⟩ (m_X8_copy (rG G) hS.2.2.1 hS.2.1 hS.2.2.2.1 hmv h1 h2 h3 h4 h5) (fun r cs hq => ?_)⟩
    obtain ⟨rfl, rfl⟩ := hq
    refine ⟨?_, s, ku, ag, tp', co, wy, th, kp, ka, ln', sn', it, mv, by rw [if_neg cO, if_neg cO], hI⟩
    unfold coM; rw [if_pos (by omega)]
end PV
