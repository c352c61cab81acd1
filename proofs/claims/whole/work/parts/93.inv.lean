/-! ===== both worlds: what holds between calls ===== -/
abbrev kpT (G : zG) (d : zDk) : List va_E := kpL G (d.1) (d.2.1) (d.2.2.1) (d.2.2.2.1) (d.2.2.2.2.1) (d.2.2.2.2.2.1) (d.2.2.2.2.2.2.1) (d.2.2.2.2.2.2.2.1) (d.2.2.2.2.2.2.2.2.1) (d.2.2.2.2.2.2.2.2.2.1) (d.2.2.2.2.2.2.2.2.2.2.1) (d.2.2.2.2.2.2.2.2.2.2.2.1) (d.2.2.2.2.2.2.2.2.2.2.2.2.1) (d.2.2.2.2.2.2.2.2.2.2.2.2.2.1) (d.2.2.2.2.2.2.2.2.2.2.2.2.2.2.1) (d.2.2.2.2.2.2.2.2.2.2.2.2.2.2.2.1) (d.2.2.2.2.2.2.2.2.2.2.2.2.2.2.2.2.1) (d.2.2.2.2.2.2.2.2.2.2.2.2.2.2.2.2.2.1) (d.2.2.2.2.2.2.2.2.2.2.2.2.2.2.2.2.2.2.1) (d.2.2.2.2.2.2.2.2.2.2.2.2.2.2.2.2.2.2.2.1) (d.2.2.2.2.2.2.2.2.2.2.2.2.2.2.2.2.2.2.2.2.1) (d.2.2.2.2.2.2.2.2.2.2.2.2.2.2.2.2.2.2.2.2.2.1) (d.2.2.2.2.2.2.2.2.2.2.2.2.2.2.2.2.2.2.2.2.2.2.1) (d.2.2.2.2.2.2.2.2.2.2.2.2.2.2.2.2.2.2.2.2.2.2.2)
abbrev mdT (G : zG) (s : zM) (td ku : Int) (ag tp co wy th kp ka ln sn it mv : Int → Int) : List va_E := mdL G (sU s) td ku (sG s) (sH s) ag tp co wy th kp ka ln sn it mv
abbrev clA (G : zG) (d d2 : zDk) (tp : Int → Int) (td hi : Int) (gs : Int → Int → Int) (ln sn : Int → Int) (ws : List va_E) : List va_E := dkT G d ++ (kpT G d2 ++ (mkL G tp td hi gs ln sn ++ ws))
abbrev wl (G : zG) (d d2 : zDk) (tp : Int → Int) (td hi : Int) (gs : Int → Int → Int) (ln sn : Int → Int) (ws b : List va_E) : List va_E := dkT G d ++ (kpT G d2 ++ (mkL G tp td hi gs ln sn ++ (ws ++ b)))
def isU (G : zG) (ws : List va_E) : Prop := ∃ w co ro lo pn, ∀ A b : List va_E, A.length = 45 → isW G (A ++ (ws ++ b)) w co ro lo pn
theorem isU_of {G : zG} {ws A b : List va_E} {w : Int → Int → Int} {co ro lo : Int → Int} {pn : Int} (hl : ws.length = 12) (hA : A.length = 45) (h : isW G (A ++ (ws ++ b)) w co ro lo pn) : isU G ws := by
  refine ⟨w, co, ro, lo, pn, fun A2 b2 hA2 => ?_⟩
  have e : ∀ k, 45 ≤ k → k < 57 → (A2 ++ (ws ++ b2))[k]? = (A ++ (ws ++ b))[k]? := fun k k1 k2 => by
    have e1 : (A2 ++ (ws ++ b2))[k]? = ws[k - 45]? := by rw [List.getElem?_append_right (by omega), hA2, List.getElem?_append_left (by omega)]
    have e2 : (A ++ (ws ++ b))[k]? = ws[k - 45]? := by rw [List.getElem?_append_right (by omega), hA, List.getElem?_append_left (by omega)]
    rw [e1, e2]
  obtain ⟨h1, h2, h3, h4, h5, h6, h7⟩ := h
  exact ⟨(e 45 (by omega) (by omega)).trans h1, (e 46 (by omega) (by omega)).trans h2, fun m m1 m2 => (e _ (by omega) (by omega)).trans (h3 m m1 m2), (e 54 (by omega) (by omega)).trans h4, (e 55 (by omega) (by omega)).trans h5, (e 56 (by omega) (by omega)).trans h6, h7⟩
/-- the sheets -/
def relS (gs : Int → Int → Int) (ln sn ln' sn' it : Int → Int) : Prop := okS gs ln sn ∧ (∀ j, rng (ln' j)) ∧ (∀ j, 0 ≤ sn' j ∧ sn' j ≤ 24) ∧ (∀ j, rngL (it j)) ∧ ∀ q, 0 ≤ q → q < 4 → ln q = ln' q ∧ (ln q ≠ -1 → sn q = sn' q ∧ ∀ j, 0 ≤ j → j < 24 → gs q j = it (24 * q + j))
def InvC (d d2 : zDk) (tp : Int → Int) (td hi : Int) (gs : Int → Int → Int) (ln sn : Int → Int) (s : zM) (ku : Int) (ag tp' co kp ka ln' sn' it mv : Int → Int) : Prop :=
  gd d s ∧ (okT d2 ∧ ltD d2 ∧ ((hi = 0 ∧ ku = -1) ∨ (hi = 1 ∧ 0 ≤ ku ∧ ku ≤ 8 ∧ gd d2 (ku, kp, ka)))) ∧ ((∀ j, rng (kp j)) ∧ ∀ j, rng (ka j)) ∧ ((0 ≤ td ∧ td ≤ 60) ∧ ag2 tp tp' td ∧ lrA tp ∧ ∀ j, rng (tp' j)) ∧ relS gs ln sn ln' sn' it ∧ (∀ j, rng (ag j)) ∧ (∀ j, rng (co j)) ∧ (∀ j, rngL (mv j))
def Inv (G : zG) (cs : List va_E) : Prop := ∃ (d d2 : zDk) (tp : Int → Int) (td hi : Int) (gs : Int → Int → Int) (ln sn : Int → Int) (ws : List va_E) (s : zM) (ku : Int) (ag tp' co wy th kp ka ln' sn' it mv : Int → Int), cs = wl G d d2 tp td hi gs ln sn ws (mdT (rG G) s td ku ag tp' co wy th kp ka ln' sn' it mv) ∧ ws.length = 12 ∧ isU G ws ∧ InvC d d2 tp td hi gs ln sn s ku ag tp' co kp ka ln' sn' it mv
theorem zMet.rotG {G : zG} {y : MethodName} {cc : ByteArray} {nL : Nat} {ret : Option FieldType} {fr lo : Nat} {av : List Value} {a b : List va_E} {Q' : Option Value → List va_E → Prop} (h : zMet (rG G) y cc nL ret fr lo av (b ++ a) Q') (ha : a.length = 57) (hb : b.length = 14) (h1 : ∀ r cs, Q' r cs → ∃ b2 : List va_E, b2.length = 14 ∧ cs = b2 ++ a) : zMet G y cc nL ret fr lo av (a ++ b) (fun r cs => ∃ b2 : List va_E, b2.length = 14 ∧ cs = a ++ b2 ∧ Q' r (b2 ++ a)) :=
  zMet.rot h ha hb (fun r cs q => by
    obtain ⟨b2, e1, e2⟩ := h1 r cs q
    exact ⟨a, b2, e2, ha, e1, b2, e1, rfl, by rw [← e2]; exact q⟩) (fun r cs q => by
    obtain ⟨b2, e1, e2, q2⟩ := q
    exact ⟨a, b2, e2, ha, e1, q2⟩)
/-- a member of both: the class's contract, then the reference's, one answer, and all holds again -/
def prG (G : zG) (cs : List va_E) (y1 : MethodName) (c1 : ByteArray) (n1 f1 l1 : Nat) (y2 : MethodName) (c2 : ByteArray) (n2 f2 l2 : Nat) (av : List Value) : Prop :=
  ∃ Q1, zMet G y1 c1 n1 (some .int) f1 l1 (.ref (G.ad 34) :: av) cs Q1 ∧ ∀ r cs1, Q1 r cs1 → ∃ z, r = some (.int (iI z)) ∧ (∃ fs, cs1[57]? = some (.inr (8, fs))) ∧ ∃ Q2, zMet G y2 c2 n2 (some .int) f2 l2 (.ref (G.ad 57) :: av) cs1 Q2 ∧ ∀ r2 cs2, Q2 r2 cs2 → r2 = some (.int (iI z)) ∧ Inv G cs2
section PR
variable {G : zG} {cs : List va_E}
theorem wl_as {A B C D b : List va_E} : A ++ (B ++ (C ++ (D ++ b))) = (A ++ (B ++ (C ++ D))) ++ b := by simp only [List.append_assoc]
theorem clA_len {d d2 : zDk} {tp : Int → Int} {td hi : Int} {gs : Int → Int → Int} {ln sn : Int → Int} {ws : List va_E} (h : ws.length = 12) : (clA G d d2 tp td hi gs ln sn ws).length = 57 := by
  rw [List.length_append, List.length_append, List.length_append, h]; rfl
theorem pr2 {d d2 : zDk} {tp : Int → Int} {td hi : Int} {gs : Int → Int → Int} {ln sn : Int → Int} {ws b : List va_E} {y : MethodName} {c : ByteArray} {n fr lo : Nat} {av : List Value} {z : Int} {Q' : Option Value → List va_E → Prop} (hlw : ws.length = 12) (hU : isU G ws) (hb : b.length = 14) (hb0 : ∃ fs, b[0]? = some (.inr (8, fs))) (h : zMet (rG G) y c n (some .int) fr lo (.ref ((rG G).ad 0) :: av) (b ++ clA G d d2 tp td hi gs ln sn ws) Q') (h1 : ∀ r cs, Q' r cs → r = some (.int (iI z)) ∧ ∃ (s : zM) (ku : Int) (ag tp' co wy th kp ka ln' sn' it mv : Int → Int), cs = mdT (rG G) s td ku ag tp' co wy th kp ka ln' sn' it mv ++ clA G d d2 tp td hi gs ln sn ws ∧ InvC d d2 tp td hi gs ln sn s ku ag tp' co kp ka ln' sn' it mv) : (∃ fs, (wl G d d2 tp td hi gs ln sn ws b)[57]? = some (.inr (8, fs))) ∧ ∃ Q2, zMet G y c n (some .int) fr lo (.ref (G.ad 57) :: av) (wl G d d2 tp td hi gs ln sn ws b) Q2 ∧ ∀ r2 cs2, Q2 r2 cs2 → r2 = some (.int (iI z)) ∧ Inv G cs2 := by
  have hl := clA_len (G := G) (d := d) (d2 := d2) (tp := tp) (td := td) (hi := hi) (gs := gs) (ln := ln) (sn := sn) hlw
  constructor
  · obtain ⟨fs, e⟩ := hb0
    refine ⟨fs, ?_⟩
    rw [show wl G d d2 tp td hi gs ln sn ws b = clA G d d2 tp td hi gs ln sn ws ++ b from wl_as, List.getElem?_append_right (by omega), hl]
    exact e
  · rw [show wl G d d2 tp td hi gs ln sn ws b = clA G d d2 tp td hi gs ln sn ws ++ b from wl_as]
    refine ⟨_, zMet.rotG h hl hb (fun r cs q => ?_), fun r cs q => ?_⟩
    · obtain ⟨-, s, ku, ag, tp', co, wy, th, kp, ka, ln', sn', it, mv, e, -⟩ := h1 r cs q
      exact ⟨_, rfl, e⟩
    · obtain ⟨b2, e1, e2, q2⟩ := q
      obtain ⟨r1, s, ku, ag, tp', co, wy, th, kp, ka, ln', sn', it, mv, e, hI⟩ := h1 r _ q2
      have e3 := List.append_cancel_right e
      refine ⟨r1, d, d2, tp, td, hi, gs, ln, sn, ws, s, ku, ag, tp', co, wy, th, kp, ka, ln', sn', it, mv, ?_, hlw, hU, hI⟩
      rw [e2, e3]; exact wl_as.symm
theorem Inv_34 (h : Inv G cs) : ∃ fs, cs[34]? = some (.inr (7, fs)) := by
  obtain ⟨d, d2, tp, td, hi, gs, ln, sn, ws, s, ku, ag, tp', co, wy, th, kp, ka, ln', sn', it, mv, rfl, -⟩ := h
  exact ⟨_, rfl⟩
theorem pr_type {x : Int} (h : Inv G cs) (hx : rng x) : prG G cs yX7_type cX7_type 2 1 20 yX8_type cX8_type 2 1 25 [.int (iI x)] := by
  obtain ⟨d, d2, tp, td, hi, gs, ln, sn, ws, s, ku, ag, tp', co, wy, th, kp, ka, ln', sn', it, mv, rfl, hlw, hU, hI⟩ := h
  obtain ⟨hg, hi2, hkk, ht, hS, hag, hco, hmv⟩ := id hI
  obtain ⟨hOk, hR, hWf, hLt⟩ := id hg
  refine ⟨_, m_X7_type G hx ht.1, fun r cs1 hq => ?_⟩
  obtain ⟨rfl, rfl⟩ := hq
  by_cases c1 : (32 ≤ x ∧ x ≤ 126) ∧ td ≠ 60
  · rw [if_neg (by omega), if_neg (by omega), if_neg (by omega), if_neg (by omega)]
    refine ⟨_, rfl, pr2 hlw hU rfl ⟨_, rfl⟩ (m_X8_type (rG G) ht.1 hx) (fun r cs hq => ?_)⟩
    obtain ⟨rfl, rfl⟩ := hq
    refine ⟨by rw [if_pos c1.1, if_neg c1.2], s, ku, ag, zup tp' td x, co, wy, th, kp, ka, ln', sn', it, mv, by rw [if_pos c1, if_pos c1], hg, hi2, hkk, ⟨by omega, fun j j1 j2 => ?_, zup_lr ht.2.2.1 (by omega), zup_rng ht.2.2.2 hx⟩, hS, hag, hco, hmv⟩
    by_cases e : j = td
    · rw [e, zup_s, zup_s]
    · rw [zup_n e, zup_n e]; exact ht.2.1 j j1 (by omega)
  · have c2 : ¬ (32 ≤ x ∧ x ≤ 126) ∨ 60 ≤ td := by omega
    rw [if_pos c2, if_pos c2]
    refine ⟨_, rfl, pr2 hlw hU rfl ⟨_, rfl⟩ (m_X8_type (rG G) ht.1 hx) (fun r cs hq => ?_)⟩
    obtain ⟨rfl, rfl⟩ := hq
    refine ⟨?_, s, ku, ag, tp', co, wy, th, kp, ka, ln', sn', it, mv, by rw [if_neg c1, if_neg c1], hI⟩
    by_cases e : 32 ≤ x ∧ x ≤ 126
    · rw [if_pos e, if_pos (by omega), if_neg (fun q => q e), if_pos (by omega)]
    · rw [if_neg e, if_pos e]
end PR
