/-! ===== play; what the Ways tell ===== -/
def plF (h : Int → Int) (i : Int) (d : zDk) : Nat → Int × zDk
  | 0 => (0, d)
  | k + 1 => (if (prsT (plF h i d k).2 (h (i + k))).1 < 0 then (plF h i d k).1 + 1 else (plF h i d k).1, (prsT (plF h i d k).2 (h (i + k))).2)
theorem plN_F {h : Int → Int} {i e : Int} {d : zDk} {n : Nat} (he : e = i + n) : ∀ (m k r : Nat), k + m = n → plN h e (m + r) (i + k) (plF h i d k).1 (plF h i d k).2 = plF h i d n
  | 0, k, r, hk => by
    rw [plN_no (by omega), show n = k by omega]
  | m + 1, k, r, hk => by
    rw [show m + 1 + r = (m + r) + 1 by omega, plN_go (by omega), show i + (k : Int) + 1 = i + ((k + 1 : Nat) : Int) by omega]
    exact plN_F he m (k + 1) r (by omega)
theorem pl_rel {h a : Int → Int} {i : Int} {d : zDk} {s : zM} {ag : Int → Int} {n : Nat} (hd : gd d s) (hag : ∀ j, rng (ag j)) (ha : ∀ k : Nat, k < n → a k = h (i + k) ∧ 32 ≤ h (i + k) ∧ h (i + k) ≤ 126) : ∀ k : Nat, k ≤ n → gd (plF h i d k).2 (plS a (0, s, ag) k).2.1 ∧ (plF h i d k).1 = (plS a (0, s, ag) k).1 ∧ (∀ j, rng ((plS a (0, s, ag) k).2.2 j)) ∧ (k < n → okK (plS a (0, s, ag) k).2.1 (a k))
  | 0, _ => by
    refine ⟨hd, rfl, hag, fun hk => ?_⟩
    obtain ⟨q1, q2, q3⟩ := ha 0 hk
    rw [q1]
    exact (prs_rel hd.2.1 hd.1 hd.2.2.1 hd.2.2.2 (by omega)).2.2.2.2.2
  | k + 1, hk => by
    obtain ⟨b1, b2, b3, b4⟩ := pl_rel hd hag ha k (by omega)
    obtain ⟨q1, q2, q3⟩ := ha k (by omega)
    obtain ⟨p1, p2, p3, p4, p5, p6⟩ := prs_rel (x := a k) b1.2.1 b1.1 b1.2.2.1 b1.2.2.2 (by omega)
    have e1 : (prsT (plF h i d k).2 (h (i + k))).1 = (kyM (plS a (0, s, ag) k).2.1 (a k)).1 := by rw [← q1]; exact p2
    have g2 : gd (plF h i d (k + 1)).2 (plS a (0, s, ag) (k + 1)).2.1 := by
      show gd (prsT (plF h i d k).2 (h (i + k))).2 (kyM (plS a (0, s, ag) k).2.1 (a k)).2
      rw [← q1]; exact ⟨p5, p3, p4, p1⟩
    refine ⟨g2, ?_, ?_, fun hk2 => ?_⟩
    · show (if (prsT (plF h i d k).2 (h (i + k))).1 < 0 then (plF h i d k).1 + 1 else (plF h i d k).1) = (plS a (0, s, ag) k).1 + (if (kyM (plS a (0, s, ag) k).2.1 (a k)).1 < 0 then 1 else 0)
      rw [e1, b2]
      split <;> omega
    · show ∀ j, rng (kyR (plS a (0, s, ag) k).2.1 (a k) (plS a (0, s, ag) k).2.2 j)
      unfold kyR
      exact ite_rng (zcp_rng p6.2.2.1 b3) b3
    · obtain ⟨r1, r2, r3⟩ := ha (k + 1) hk2
      rw [r1]
      exact (prs_rel g2.2.1 g2.1 g2.2.2.1 g2.2.2.2 (by omega)).2.2.2.2.2
section PW
variable {G : zG} {cs : List va_E}
set_option maxHeartbeats 1000000 in
theorem pr_play {q a i n : Int} (h : Inv G cs) (h1 : rng q) (h2 : rng a) (h3 : rng i) (h4 : rng n) : prG G cs yX7_play cX7_play 9 7 164 yX8_play cX8_play 9 9 205 [.int (iI q), .int (iI a), .int (iI i), .int (iI n)] := by
  obtain ⟨d, d2, tp, td, hi, gs, ln, sn, ws, s, ku, ag, tp', co, wy, th, kp, ka, ln', sn', it, mv, rfl, hlw, hU, hI⟩ := h
  obtain ⟨hg, hi2, hkk, ht, hS, hag, hco, hmv⟩ := id hI
  obtain ⟨hOk, hR, hWf, hLt⟩ := id hg
  refine ⟨_, m_X7_play G h1 h2 h3 h4 hS.1 hOk, fun r cs1 hq => ?_⟩
  have key : (0 ≤ q ∧ q ≤ 3 ∧ 0 ≤ a ∧ a ≤ 3 ∧ 1 ≤ n ∧ n ≤ 24) ∧ 0 ≤ whM ln' sn' q a i n → (∀ k, 0 ≤ k → k < n → it (24 * q + i + k) = gs q (i + k)) := fun z k k1 k2 => by
    obtain ⟨f1, f2, f3⟩ := flt_wh (q := q) (a := a) (i := i) (n := n) hS (by omega) (by omega)
    obtain ⟨g1, g2, g3⟩ := f3 (by omega)
    have b3 := (hS.1 q).2
    rw [((hS.2.2.2.2 q (by omega) (by omega)).2 g2).2 (i + k) (by omega) (by omega)]
    congr 1; omega
  have hall : (0 ≤ q ∧ q ≤ 3 ∧ 0 ≤ a ∧ a ≤ 3 ∧ 1 ≤ n ∧ n ≤ 24) ∧ 0 ≤ whM ln' sn' q a i n → (∀ k, 0 ≤ k → k < n → 32 ≤ it (24 * q + i + k) ∧ it (24 * q + i + k) ≤ 126) → ∀ k : Nat, k ≤ n.toNat → gd (plF (gs q) i d k).2 (plS (fun j => it (24 * q + i + j)) (0, s, ag) k).2.1 ∧ (plF (gs q) i d k).1 = (plS (fun j => it (24 * q + i + j)) (0, s, ag) k).1 ∧ (∀ j, rng ((plS (fun j => it (24 * q + i + j)) (0, s, ag) k).2.2 j)) ∧ (k < n.toNat → okK (plS (fun j => it (24 * q + i + j)) (0, s, ag) k).2.1 (it (24 * q + i + k))) := fun z z2 =>
    pl_rel (a := fun j => it (24 * q + i + j)) hg hag (fun k hk => by
      have e := key z k (by omega) (by omega)
      have e2 := z2 k (by omega) (by omega)
      rw [e] at e2
      exact ⟨e, e2⟩)
  have hm := fun (A : List va_E) => m_X8_play (rG G) (rest := A) (un := sU s) (g := sG s) (ah := sH s) (ag := ag) (td := td) (ku := ku) (tp := tp') (co := co) (wy := wy) (th := th) (kp := kp) (ka := ka) (ln := ln') (sn := sn') (it := it) (mv := mv) (s := q) (a := a) (i := i) (n := n) hS.2.2.1 hS.2.1 hS.2.2.2.1 hmv h1 h2 h3 h4 hag (fun z z2 k hk => (hall z z2 k (by omega)).2.2.2 (by omega))
  rcases hq with ⟨c1, rfl, rfl⟩ | ⟨c1, rfl, rfl⟩ | ⟨c1, rfl, rfl⟩ | ⟨c1, rfl, rfl⟩
  · refine ⟨_, rfl, pr2 hlw hU rfl ⟨_, rfl⟩ (hm _) (fun r cs hq => ?_)⟩
    obtain ⟨rfl, rfl⟩ := hq.1 (by omega)
    exact ⟨rfl, s, ku, ag, tp', co, wy, th, kp, ka, ln', sn', it, mv, rfl, hI⟩
  · obtain ⟨f1, f2, f3⟩ := flt_wh (a := a) (i := i) (n := n) hS c1.1.1.1 (by omega)
    refine ⟨_, rfl, pr2 hlw hU rfl ⟨_, rfl⟩ (hm _) (fun r cs hq => ?_)⟩
    obtain ⟨rfl, rfl⟩ := hq.2.1 (by omega) (by omega)
    exact ⟨by rw [f1], s, ku, ag, tp', co, wy, th, kp, ka, ln', sn', it, mv, rfl, hI⟩
  · obtain ⟨f1, f2, f3⟩ := flt_wh (a := a) (i := i) (n := n) hS c1.1.1.1 (by omega)
    refine ⟨_, rfl, pr2 hlw hU rfl ⟨_, rfl⟩ (hm _) (fun r cs hq => ?_)⟩
    obtain ⟨rfl, rfl⟩ := hq.2.2.1 (by omega) (by omega) (fun z => by
      obtain ⟨c2, c3, p, p1, p2, p3⟩ := c1
      have e := key (by omega) (p - i) (by omega) (by omega)
      have e2 := z (p - i) (by omega) (by omega)
      rw [e, show i + (p - i) = p by omega] at e2
      exact p3 e2)
    exact ⟨rfl, s, ku, ag, tp', co, wy, th, kp, ka, ln', sn', it, mv, rfl, hI⟩
  · obtain ⟨f1, f2, f3⟩ := flt_wh (a := a) (i := i) (n := n) hS c1.1.1.1 (by omega)
    have hz : (0 ≤ q ∧ q ≤ 3 ∧ 0 ≤ a ∧ a ≤ 3 ∧ 1 ≤ n ∧ n ≤ 24) ∧ 0 ≤ whM ln' sn' q a i n := by omega
    have hz2 : ∀ k, 0 ≤ k → k < n → 32 ≤ it (24 * q + i + k) ∧ it (24 * q + i + k) ≤ 126 := fun k k1 k2 => by
      rw [key hz k k1 k2]; exact c1.2.2 (i + k) (by omega) (by omega)
    obtain ⟨a1, a2, a3, -⟩ := hall hz hz2 n.toNat (Nat.le_refl _)
    have eF := plN_F (h := gs q) (i := i) (e := i + n) (d := d) (n := n.toNat) (by omega) n.toNat 0 (24 - n.toNat) (by omega)
    rw [show n.toNat + (24 - n.toNat) = 24 by omega, show i + ((0 : Nat) : Int) = i by omega] at eF
    have eF2 : plN (gs q) (i + n) 24 i 0 d = plF (gs q) i d n.toNat := eF
    have eF3 : plN (gs q) (i + n) 24 i 0 (d.1, d.2.1, d.2.2.1, d.2.2.2.1, d.2.2.2.2.1, d.2.2.2.2.2.1, d.2.2.2.2.2.2.1, d.2.2.2.2.2.2.2.1, d.2.2.2.2.2.2.2.2.1, d.2.2.2.2.2.2.2.2.2.1, d.2.2.2.2.2.2.2.2.2.2.1, d.2.2.2.2.2.2.2.2.2.2.2.1, d.2.2.2.2.2.2.2.2.2.2.2.2.1, d.2.2.2.2.2.2.2.2.2.2.2.2.2.1, d.2.2.2.2.2.2.2.2.2.2.2.2.2.2.1, d.2.2.2.2.2.2.2.2.2.2.2.2.2.2.2.1, d.2.2.2.2.2.2.2.2.2.2.2.2.2.2.2.2.1, d.2.2.2.2.2.2.2.2.2.2.2.2.2.2.2.2.2.1, d.2.2.2.2.2.2.2.2.2.2.2.2.2.2.2.2.2.2.1, d.2.2.2.2.2.2.2.2.2.2.2.2.2.2.2.2.2.2.2.1, d.2.2.2.2.2.2.2.2.2.2.2.2.2.2.2.2.2.2.2.2.1, d.2.2.2.2.2.2.2.2.2.2.2.2.2.2.2.2.2.2.2.2.2.1, d.2.2.2.2.2.2.2.2.2.2.2.2.2.2.2.2.2.2.2.2.2.2.1, d.2.2.2.2.2.2.2.2.2.2.2.2.2.2.2.2.2.2.2.2.2.2.2) = plF (gs q) i d n.toNat := eF2
    rw [eF3]
    refine ⟨_, rfl, pr2 hlw hU rfl ⟨_, rfl⟩ (hm _) (fun r cs hq => ?_)⟩
    obtain ⟨rfl, rfl⟩ := hq.2.2.2 hz.1 hz.2 hz2
    refine ⟨?_, (plS (fun j => it (24 * q + i + j)) (0, s, ag) n.toNat).2.1, ku, (plS (fun j => it (24 * q + i + j)) (0, s, ag) n.toNat).2.2, tp', co, wy, th, kp, ka, ln', sn', it, mv, rfl, a1, hi2, hkk, ht, hS, a3, hco, hmv⟩
    rw [a2]
theorem isW_wl {d d2 : zDk} {tp : Int → Int} {td hi : Int} {gs : Int → Int → Int} {ln sn : Int → Int} {ws b : List va_E} (hU : isU G ws) : ∃ w co ro lo pn, isW G (wl G d d2 tp td hi gs ln sn ws b) w co ro lo pn := by
  obtain ⟨w, co, ro, lo, pn, h⟩ := hU
  have := h (dkT G d ++ (kpT G d2 ++ mkL G tp td hi gs ln sn)) b rfl
  simp only [List.append_assoc] at this
  exact ⟨w, co, ro, lo, pn, this⟩
theorem smO_wl {d d2 : zDk} {tp : Int → Int} {td hi : Int} {gs : Int → Int → Int} {ln sn : Int → Int} {ws b cs2 : List va_E} {w : Int → Int → Int} {co ro lo : Int → Int} {pn : Int} (hl : ws.length = 12) (h : smO (wl G d d2 tp td hi gs ln sn ws b) cs2) (hW : isW G cs2 w co ro lo pn) : ∃ ws2 : List va_E, ws2.length = 12 ∧ isU G ws2 ∧ cs2 = wl G d d2 tp td hi gs ln sn ws2 b := by
  have e : wl G d d2 tp td hi gs ln sn ws b = (dkT G d ++ (kpT G d2 ++ mkL G tp td hi gs ln sn)) ++ (ws ++ b) := by simp only [List.append_assoc]
  have hA : (dkT G d ++ (kpT G d2 ++ mkL G tp td hi gs ln sn)).length = 45 := rfl
  generalize hAe : dkT G d ++ (kpT G d2 ++ mkL G tp td hi gs ln sn) = A at e hA
  rw [e] at h
  have hlen : cs2.length = 57 + b.length := by rw [h.1, List.length_append, List.length_append]; omega
  refine ⟨(cs2.drop 45).take 12, by rw [List.length_take, List.length_drop]; omega, ?_, ?_⟩
  all_goals
    have e2 : cs2 = A ++ ((cs2.drop 45).take 12 ++ b) := by
      apply List.ext_getElem?
      intro k
      by_cases k1 : k < 45
      · rw [h.2 k (Or.inl k1), List.getElem?_append_left (by omega), List.getElem?_append_left (by omega)]
      · rw [List.getElem?_append_right (by omega), hA]
        by_cases k2 : k < 57
        · rw [List.getElem?_append_left (by rw [List.length_take, List.length_drop]; omega), List.getElem?_take_of_lt (by omega), List.getElem?_drop]
          congr 1; omega
        · rw [h.2 k (Or.inr (by omega)), List.getElem?_append_right (by omega), hA, List.getElem?_append_right (by omega), List.getElem?_append_right (by rw [List.length_take, List.length_drop]; omega), hl, List.length_take, List.length_drop]
          congr 1; omega
  · rw [e2] at hW
    exact isU_of (by rw [List.length_take, List.length_drop]; omega) hA hW
  · rw [← hAe] at e2
    simp only [List.append_assoc] at e2
    exact e2
set_option maxHeartbeats 1000000 in
theorem pr_steps {x v : Int} (h : Inv G cs) (hx : rng x) (hv : rng v) : prG G cs yX7_steps cX7_steps 3 5 116 yX8_steps cX8_steps 6 7 159 [.int (iI x), .int (iI v)] := by
  obtain ⟨d, d2, tp, td, hi, gs, ln, sn, ws, s, ku, ag, tp', co, wy, th, kp, ka, ln', sn', it, mv, rfl, hlw, hU, hI⟩ := h
  obtain ⟨hg, hi2, hkk, ht, hS, hag, hco, hmv⟩ := id hI
  obtain ⟨hOk, hR, hWf, hLt⟩ := id hg
  have hT := hR.2.2.1
  have hK := hR.2.2.2.1
  have e0 : sG s 0 = d.2.1 := hT.1
  have e61 : sG s 61 = d.2.2.1 := hT.2.2.1
  have hL : 0 ≤ d.2.1 ∧ d.2.1 ≤ 60 := hOk.2.1
  have hc := hOk.2.2.1
  have hL' : 0 ≤ sG s 0 ∧ sG s 0 ≤ 60 := by rw [e0]; exact hL
  have hc' : 0 ≤ sG s 61 ∧ sG s 61 ≤ sG s 0 := by rw [e0, e61]; exact ⟨hc.1, hc.2.1⟩
  obtain ⟨w, co0, ro, lo, pn, X⟩ := isW_wl (G := G) (d := d) (d2 := d2) (tp := tp) (td := td) (hi := hi) (gs := gs) (ln := ln) (sn := sn) (b := mdT (rG G) s td ku ag tp' co wy th kp ka ln' sn' it mv) hU
  have hpr : prM (sG s) := fun m m1 m2 => by rw [← hK.2.2.2.2 m m1 (by omega)]; exact hOk.2.2.2.2.2.2.2.2.2.2.2.2.2.2.2.2.2.2.2.2.1 m
  refine ⟨_, m_X7_steps G X hx hv hOk, fun r cs1 hq => ?_⟩
  rcases hq with ⟨c1, rfl, rfl⟩ | ⟨c1, z, rfl, w3, c4, hw3, hc4, hz, hsm, co4, ro4, lo4, pl4, hW⟩
  · refine ⟨_, rfl, pr2 hlw hU rfl ⟨_, rfl⟩ (m_X8_steps (rG G) hR.1 hL' hpr hco hc' hx hv) (fun r cs hq => ?_)⟩
    obtain ⟨z, rfl, hz1, -⟩ := hq
    obtain ⟨rfl, rfl⟩ := hz1 (by rw [e0]; omega)
    exact ⟨rfl, s, ku, ag, tp', co, wy, th, kp, ka, ln', sn', it, mv, rfl, hI⟩
  · obtain ⟨ws2, hl2, hU2, rfl⟩ := smO_wl hlw hsm hW
    refine ⟨z, rfl, pr2 hl2 hU2 rfl ⟨_, rfl⟩ (m_X8_steps (rG G) hR.1 hL' hpr hco hc' hx hv) (fun r cs hq => ?_)⟩
    obtain ⟨z2, rfl, -, hz2⟩ := hq
    obtain ⟨c, hD, rfl, hz3⟩ := hz2 (by rw [e0]; omega)
    refine ⟨?_, s, ku, ag, tp', c, wy, th, kp, ka, ln', sn', it, mv, rfl, hg, hi2, hkk, ht, hS, hag, hD.1.1, hmv⟩
    have hla := la_in hL.1
    have hst : stt (sG s) = min d.2.2.1 (la d.2.1) := by unfold stt; rw [e0, e61]
    have hpx : plM (sG s) x := by show 0 ≤ x ∧ x ≤ la (sG s 0); rw [e0]; exact ⟨c1.2.1, c1.2.2⟩
    have hps : plM (sG s) (min d.2.2.1 (la d.2.1)) := by show 0 ≤ min d.2.2.1 (la d.2.1) ∧ min d.2.2.1 (la d.2.1) ≤ la (sG s 0); rw [e0]; omega
    have hw4 : ∀ m p, 0 ≤ m → m < 7 → 0 ≤ p → p ≤ la (sG s 0) → w3 m p = lnd (sG s) m p := fun m p m1 m2 p1 p2 => by
      rw [e0] at p2
      rw [hw3 m p m1 m2 p1 p2]
      unfold lnd dd
      rw [e0, ← ld_cg hT.2.1]
    have hr4 : ∀ m, 0 ≤ m → m < 7 → (d.2.2.2.2.2.2.2.2.2.2.2.2.2.2.2.2.2.2.2.1) m = sG s (256 + m) := fun m m1 m2 => hK.2.2.2.2 m m1 m2
    have eq := to_eq (co := co0) hD hL' hpr hpx hw4 hr4
    rw [show la (sG s 0) = la d.2.1 by rw [e0], ← hc4] at eq
    refine congrArg (fun z => some (Value.int (iI z))) ?_
    rw [hz3, hz, hst]
    by_cases c2 : v = -2
    · rw [if_pos c2, if_pos c2]; exact (eq _ (by omega) (by omega)).symm
    · rw [if_neg c2, if_neg c2]
      have q := stN_full (A := c4) (k := v) hD hL' hpr hpx hps (fun y hy => eq y hy.1 (by have := hy.2; rw [e0] at this; omega)) hw4 hr4
      rw [show la (sG s 0) = la d.2.1 by rw [e0]] at q
      exact q.symm
set_option maxHeartbeats 1000000 in
theorem pr_farthest {x : Int} (h : Inv G cs) (hx : rng x) : prG G cs yX7_farthest cX7_farthest 3 5 116 yX8_farthest cX8_farthest 6 7 159 [.int (iI x)] := by
  obtain ⟨d, d2, tp, td, hi, gs, ln, sn, ws, s, ku, ag, tp', co, wy, th, kp, ka, ln', sn', it, mv, rfl, hlw, hU, hI⟩ := h
  obtain ⟨hg, hi2, hkk, ht, hS, hag, hco, hmv⟩ := id hI
  obtain ⟨hOk, hR, hWf, hLt⟩ := id hg
  have hT := hR.2.2.1
  have hK := hR.2.2.2.1
  have e0 : sG s 0 = d.2.1 := hT.1
  have e61 : sG s 61 = d.2.2.1 := hT.2.2.1
  have hL : 0 ≤ d.2.1 ∧ d.2.1 ≤ 60 := hOk.2.1
  have hc := hOk.2.2.1
  have hL' : 0 ≤ sG s 0 ∧ sG s 0 ≤ 60 := by rw [e0]; exact hL
  have hc' : 0 ≤ sG s 61 ∧ sG s 61 ≤ sG s 0 := by rw [e0, e61]; exact ⟨hc.1, hc.2.1⟩
  obtain ⟨w, co0, ro, lo, pn, X⟩ := isW_wl (G := G) (d := d) (d2 := d2) (tp := tp) (td := td) (hi := hi) (gs := gs) (ln := ln) (sn := sn) (b := mdT (rG G) s td ku ag tp' co wy th kp ka ln' sn' it mv) hU
  have hpr : prM (sG s) := fun m m1 m2 => by rw [← hK.2.2.2.2 m m1 (by omega)]; exact hOk.2.2.2.2.2.2.2.2.2.2.2.2.2.2.2.2.2.2.2.2.1 m
  refine ⟨_, m_X7_farthest G X hx hOk, fun r cs1 hq => ?_⟩
  rcases hq with ⟨c1, rfl, rfl⟩ | ⟨c1, z, rfl, w3, c4, hw3, hc4, hz, hsm, co4, ro4, lo4, pl4, hW⟩
  · refine ⟨_, rfl, pr2 hlw hU rfl ⟨_, rfl⟩ (m_X8_farthest (rG G) hR.1 hL' hpr hco hc' hx) (fun r cs hq => ?_)⟩
    obtain ⟨z, rfl, hz1, -⟩ := hq
    obtain ⟨rfl, rfl⟩ := hz1 (by omega)
    exact ⟨rfl, s, ku, ag, tp', co, wy, th, kp, ka, ln', sn', it, mv, rfl, hI⟩
  · obtain ⟨ws2, hl2, hU2, rfl⟩ := smO_wl hlw hsm hW
    have hx01 : 0 ≤ x ∧ x ≤ 1 := by omega
    refine ⟨z, rfl, pr2 hl2 hU2 rfl ⟨_, rfl⟩ (m_X8_farthest (rG G) hR.1 hL' hpr hco hc' hx) (fun r cs hq => ?_)⟩
    obtain ⟨z2, rfl, -, hz2⟩ := hq
    obtain ⟨DD, co2, hDD, hco2, rfl, hz3⟩ := hz2 hx01
    refine ⟨?_, s, ku, ag, tp', co2, wy, th, kp, ka, ln', sn', it, mv, rfl, hg, hi2, hkk, ht, hS, hag, hco2, hmv⟩
    have hla := la_in hL.1
    have hst : stt (sG s) = min d.2.2.1 (la d.2.1) := by unfold stt; rw [e0, e61]
    have hps : plM (sG s) (min d.2.2.1 (la d.2.1)) := by show 0 ≤ min d.2.2.1 (la d.2.1) ∧ min d.2.2.1 (la d.2.1) ≤ la (sG s 0); rw [e0]; omega
    have hw4 : ∀ m p, 0 ≤ m → m < 7 → 0 ≤ p → p ≤ la (sG s 0) → w3 m p = lnd (sG s) m p := fun m p m1 m2 p1 p2 => by
      rw [e0] at p2
      rw [hw3 m p m1 m2 p1 p2]
      unfold lnd dd
      rw [e0, ← ld_cg hT.2.1]
    have hr4 : ∀ m, 0 ≤ m → m < 7 → (d.2.2.2.2.2.2.2.2.2.2.2.2.2.2.2.2.2.2.2.1) m = sG s (256 + m) := fun m m1 m2 => hK.2.2.2.2 m m1 m2
    have hDD2 : ∀ p, plM (sG s) p → ∃ c, isD (sG s) p c ∧ DD p = c (min d.2.2.1 (la d.2.1)) := fun p hp => by rw [← hst]; exact hDD p hp.1 hp.2
    have eq := from_eq (co := co0) hDD2 hL' hpr hps hw4 hr4
    rw [show la (sG s 0) = la d.2.1 by rw [e0], ← hc4] at eq
    rw [e0] at hz3
    obtain ⟨c9, h9, h99⟩ := hDD2 0 ⟨by omega, by rw [e0]; omega⟩
    have h0 : 0 ≤ DD 0 := by rw [h99]; exact (h9.1.2.1 _ (by omega) (by omega)).1
    have fb := drN_full (A := c4) (D := DD) (n := (la d.2.1 + 1).toNat) (by omega) (by omega) (fun y y1 y2 => eq y y1 (by omega)) h0
    rw [show (((la d.2.1 + 1).toNat : Nat) : Int) = la d.2.1 + 1 by omega] at fb
    refine congrArg (fun z => some (Value.int (iI z))) ?_
    rw [hz3, hz, fb]
set_option maxHeartbeats 1000000 in
theorem pr_struck {x v u : Int} (h : Inv G cs) (hx : rng x) (hv : rng v) (hu : rng u) : prG G cs yX7_struck cX7_struck 8 5 116 yX8_struck cX8_struck 8 6 134 [.int (iI x), .int (iI v), .int (iI u)] := by
  obtain ⟨d, d2, tp, td, hi, gs, ln, sn, ws, s, ku, ag, tp', co, wy, th, kp, ka, ln', sn', it, mv, rfl, hlw, hU, hI⟩ := h
  obtain ⟨hg, hi2, hkk, ht, hS, hag, hco, hmv⟩ := id hI
  obtain ⟨hOk, hR, hWf, hLt⟩ := id hg
  have hT := hR.2.2.1
  have hK := hR.2.2.2.1
  have e0 : sG s 0 = d.2.1 := hT.1
  have e61 : sG s 61 = d.2.2.1 := hT.2.2.1
  have hL : 0 ≤ d.2.1 ∧ d.2.1 ≤ 60 := hOk.2.1
  have hc := hOk.2.2.1
  have hL' : 0 ≤ sG s 0 ∧ sG s 0 ≤ 60 := by rw [e0]; exact hL
  have hc' : 0 ≤ sG s 61 ∧ sG s 61 ≤ sG s 0 := by rw [e0, e61]; exact ⟨hc.1, hc.2.1⟩
  obtain ⟨w, co0, ro, lo, pn, X⟩ := isW_wl (G := G) (d := d) (d2 := d2) (tp := tp) (td := td) (hi := hi) (gs := gs) (ln := ln) (sn := sn) (b := mdT (rG G) s td ku ag tp' co wy th kp ka ln' sn' it mv) hU
  refine ⟨_, m_X7_struck G X hx hv hu hOk, fun r cs1 hq => ?_⟩
  rcases hq with ⟨c1, rfl, rfl⟩ | ⟨c1, z, rfl, w3, hw3, hz, hsm, co4, ro4, lo4, pl4, hW⟩
  · refine ⟨_, rfl, pr2 hlw hU rfl ⟨_, rfl⟩ (m_X8_struck (rG G) hR.1 hL' hc' hx hv hu) (fun r cs hq => ?_)⟩
    obtain ⟨z, rfl, hz1, -⟩ := hq
    obtain ⟨rfl, rfl⟩ := hz1 (by rw [e0]; omega)
    exact ⟨rfl, s, ku, ag, tp', co, wy, th, kp, ka, ln', sn', it, mv, rfl, hI⟩
  · obtain ⟨ws2, hl2, hU2, rfl⟩ := smO_wl hlw hsm hW
    refine ⟨z, rfl, pr2 hl2 hU2 rfl ⟨_, rfl⟩ (m_X8_struck (rG G) hR.1 hL' hc' hx hv hu) (fun r cs hq => ?_)⟩
    obtain ⟨z2, rfl, -, hz2⟩ := hq
    obtain ⟨wy2, th2, rfl, hz3⟩ := hz2 (by rw [e0]; omega)
    refine ⟨?_, s, ku, ag, tp', co, wy2, th2, kp, ka, ln', sn', it, mv, rfl, hI⟩
    have hla := la_in hL.1
    have hst : stt (sG s) = min d.2.2.1 (la d.2.1) := by unfold stt; rw [e0, e61]
    have hw4 : ∀ m p, 0 ≤ m → m < 7 → 0 ≤ p → p < la d.2.1 + 1 → w3 m p = lnd (sG s) m p := fun m p m1 m2 p1 p2 => by
      rw [hw3 m p m1 m2 p1 (by omega)]
      unfold lnd dd
      rw [e0, ← ld_cg hT.2.1]
    have eq := psR_full (n := v) (s := min d.2.2.1 (la d.2.1)) (t := x) (ro := ro) (ro' := wy) (lo := lo) (lo' := th) (by omega) hw4 (by omega)
    have hin := psR_in (w := w3) (pl := la d.2.1 + 1) (n := v) (fun m p m1 m2 p1 p2 => by
      rw [hw3 m p m1 m2 p1 (by omega)]
      have := dd_in (f := d.1) (L := d.2.1) (m := m) p1 (by omega)
      omega) (by omega) (by omega) 4 0 (zup (ovr ro 0 60 0) (min d.2.2.1 (la d.2.1)) 1) lo 1 (ps_start ro (by omega) (by omega)).1 (Int.le_of_eq (ps_start ro (by omega) (by omega)).2)
    have hnn := hin.1 x (by omega) (by omega)
    have fe := frac_eq (n := v) (by omega) hnn
    rw [hst, e0, ← eq] at hz3
    refine congrArg (fun z => some (Value.int (iI z))) ?_
    rw [hz3, hz, fe.1, fe.2]
    by_cases c2 : u = 0
    · rw [if_pos c2, if_pos c2]
    · rw [if_neg c2, if_neg c2]
end PW
