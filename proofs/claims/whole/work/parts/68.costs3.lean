theorem foN_cg {w w' : Int → Int → Int} {c c' rf rf' : Int → Int} {p : Int} (h : ∀ m, 0 ≤ m → m < 7 → (c (w m p) + rf m = c p ↔ c' (w' m p) + rf' m = c' p)) : ∀ (k : Nat) (m : Int), 0 ≤ m → m ≤ 6 → foN w c rf p k m = foN w' c' rf' p k m
  | 0, m, h1, h2 => rfl
  | k + 1, m, h1, h2 => by
    have hm := h m h1 (by omega)
    by_cases a : m < 6 ∧ c (w m p) + rf m ≠ c p
    · rw [foN_go a.1 a.2, foN_go a.1 (fun q => a.2 (hm.mpr q))]
      exact foN_cg h k (m + 1) (by omega) (by omega)
    · rw [foN_no a, foN_no (fun q => a ⟨q.1, fun z => q.2 (hm.mp z)⟩)]
theorem foN_is {w : Int → Int → Int} {c rf : Int → Int} {p m0 : Int} (h6 : m0 ≤ 6) (he : c (w m0 p) + rf m0 = c p) : ∀ (k : Nat) (m : Int), m ≤ m0 → 7 ≤ m + k → c (w (foN w c rf p k m) p) + rf (foN w c rf p k m) = c p
  | 0, m, h1, h2 => by omega
  | k + 1, m, h1, h2 => by
    by_cases a : m < 6 ∧ c (w m p) + rf m ≠ c p
    · rw [foN_go a.1 a.2]
      refine foN_is h6 he k (m + 1) ?_ (by omega)
      rcases (show m = m0 ∨ m + 1 ≤ m0 by omega) with e | e
      · exfalso; rw [e] at a; exact a.2 he
      · exact e
    · rw [foN_no a]
      by_cases z : c (w m p) + rf m = c p
      · exact z
      · have e : m = m0 := by
          by_cases q : m < 6
          · exact absurd ⟨q, z⟩ a
          · omega
        rw [e]; exact he
/-- the steps: class = reference -/
theorem stN_eq {g c A rf : Int → Int} {w : Int → Int → Int} {t k n1 n2 : Int} (hD : isD g t c) (hL : 0 ≤ g 0 ∧ g 0 ≤ 60) (hpr : prM g) (ht : plM g t) (hA : ∀ x, plM g x → A x = c x) (hw : ∀ m p, 0 ≤ m → m < 7 → 0 ≤ p → p ≤ la (g 0) → w m p = lnd g m p) (hr : ∀ m, 0 ≤ m → m < 7 → rf m = g (256 + m)) :
    ∀ (d : Nat) (p a : Int) (j1 j2 : Nat), plM g p → cnt c (c p) (la (g 0) + 1).toNat ≤ d → d ≤ j1 → d ≤ j2 → a + d ≤ n1 → a + d ≤ n2 → stN w A rf n1 t k j1 p a = stN (lnd g) c (rfM g) n2 t k j2 p a
  | d, p, a, j1, j2, hp, hc, h1, h2, h3, h4 => by
    have hla := la_59 hL
    by_cases e : p = t
    · rw [stN_no (fun q => q.1 e), stN_no (fun q => q.1 e)]
    · have hpos := isD_p hD hL hpr ht hp e
      have h6 := cnt_lt (F := c) (v := c p) (z := t.toNat) (by rw [show ((t.toNat : Nat) : Int) = t by omega, hD.1.2.2.1]; omega) (la (g 0) + 1).toNat (by omega)
      match d, j1, j2 with
      | 0, _, _ => omega
      | d + 1, 0, _ => omega
      | d + 1, j1 + 1, 0 => omega
      | d + 1, j1 + 1, j2 + 1 =>
        have hf : foN w A rf p 7 0 = foN (lnd g) c (rfM g) p 7 0 := foN_cg (fun m q1 q2 => by
          have hl := lnd_in (g := g) (m := m) (p := p) hL (by omega)
          rw [hw m p q1 q2 hp.1 hp.2, hA _ hl, hA p hp, hr m q1 q2]; exact Iff.rfl) 7 0 (by omega) (by omega)
        have hfi := foN_in (lnd g) c (rfM g) p 7 0 (by omega) (by omega)
        obtain ⟨m0, m1, m2, m3⟩ := isD_m hD hL hpr ht hp e
        have his := foN_is (w := lnd g) (c := c) (rf := rfM g) (p := p) m2 (by show c (lnd g m0 p) + g (256 + m0) = c p; omega) 7 0 m1 (by omega)
        have hl := lnd_in (g := g) (m := foN (lnd g) c (rfM g) p 7 0) (p := p) hL (by omega)
        have hprf := hpr _ hfi.1 hfi.2
        have his2 : c (lnd g (foN (lnd g) c (rfM g) p 7 0) p) + g (256 + foN (lnd g) c (rfM g) p 7 0) = c p := his
        by_cases z : a = k
        · rw [stN_at e (by omega) z, stN_at e (by omega) z, hf]
        · rw [stN_go e (by omega) z, stN_go e (by omega) z, hf, hw _ p hfi.1 (by omega) hp.1 hp.2]
          have h7 := cnt_lt (F := c) (v := c p) (z := (lnd g (foN (lnd g) c (rfM g) p 7 0) p).toNat) (by rw [show (((lnd g (foN (lnd g) c (rfM g) p 7 0) p).toNat : Nat) : Int) = lnd g (foN (lnd g) c (rfM g) p 7 0) p by omega]; omega) (la (g 0) + 1).toNat (by omega)
          rw [show (((lnd g (foN (lnd g) c (rfM g) p 7 0) p).toNat : Nat) : Int) = lnd g (foN (lnd g) c (rfM g) p 7 0) p by omega] at h7
          exact stN_eq hD hL hpr ht hA hw hr d _ (a + 1) j1 j2 hl (by omega) (by omega) (by omega) (by omega) (by omega)
theorem stN_full {g c A rf : Int → Int} {w : Int → Int → Int} {t k s : Int} (hD : isD g t c) (hL : 0 ≤ g 0 ∧ g 0 ≤ 60) (hpr : prM g) (ht : plM g t) (hs : plM g s) (hA : ∀ x, plM g x → A x = c x) (hw : ∀ m p, 0 ≤ m → m < 7 → 0 ≤ p → p ≤ la (g 0) → w m p = lnd g m p) (hr : ∀ m, 0 ≤ m → m < 7 → rf m = g (256 + m)) :
    stN w A rf (la (g 0) + 1) t k 61 s 0 = stN (lnd g) c (rfM g) 1000 t k 1000 s 0 := by
  have hla := la_59 hL
  have hc := cnt_bd (F := c) (x := s.toNat) (la (g 0) + 1).toNat (by have := hs.1; have := hs.2; omega)
  rw [show ((s.toNat : Nat) : Int) = s by have := hs.1; omega] at hc
  exact stN_eq hD hL hpr ht hA hw hr (la (g 0) + 1).toNat s 0 61 1000 hs (by omega) (by omega) (by omega) (by omega) (by omega)
/-- the dearest place: class = reference -/
theorem drN_fb {A D : Int → Int} {n : Nat} (hA : ∀ x : Int, 0 ≤ x → x < n → A x = D x) : ∀ (j k : Nat) (b : Int) (fu : Nat), k + 1 + j = n → j ≤ fu → 0 ≤ b → b ≤ k → fbM D (k + 1) = (D b, b) → fbM D n = (A (drN A n fu ((k + 1 : Nat) : Int) b), drN A n fu ((k + 1 : Nat) : Int) b)
  | 0, k, b, fu, h1, h2, h3, h4, h5 => by
    rw [drN_no (by omega), ← h1, h5, hA b h3 (by omega)]
  | j + 1, k, b, fu, h1, h2, h3, h4, h5 => by
    match fu with
    | 0 => omega
    | fu + 1 =>
      rw [drN_go (by omega)]
      have ha := hA b h3 (by omega)
      have hk := hA ((k + 1 : Nat) : Int) (by omega) (by omega)
      have hn : fbM D (k + 1 + 1) = (D (if A ((k + 1 : Nat) : Int) > A b then ((k + 1 : Nat) : Int) else b), (if A ((k + 1 : Nat) : Int) > A b then ((k + 1 : Nat) : Int) else b)) := by
        rw [fbM, h5, ha, hk]
        show (if D ((k + 1 : Nat) : Int) > D b then (D ((k + 1 : Nat) : Int), ((k + 1 : Nat) : Int)) else (D b, b)) = _
        by_cases c : D ((k + 1 : Nat) : Int) > D b
        · rw [if_pos c, if_pos c]
        · rw [if_neg c, if_neg c]
      have hb : 0 ≤ (if A ((k + 1 : Nat) : Int) > A b then ((k + 1 : Nat) : Int) else b) ∧ (if A ((k + 1 : Nat) : Int) > A b then ((k + 1 : Nat) : Int) else b) ≤ ((k + 1 : Nat) : Int) := by split <;> omega
      exact drN_fb hA j (k + 1) _ fu (by omega) (by omega) hb.1 hb.2 hn
theorem drN_full {A D : Int → Int} {n : Nat} (hn : 1 ≤ n) (h60 : n ≤ 60) (hA : ∀ x : Int, 0 ≤ x → x < n → A x = D x) (h0 : 0 ≤ D 0) : fbM D n = (A (drN A n 60 1 0), drN A n 60 1 0) := by
  refine drN_fb hA (n - 1) 0 0 60 (by omega) (by omega) (by omega) (by omega) ?_
  show (if D ((0 : Nat) : Int) > -1 then (D ((0 : Nat) : Int), ((0 : Nat) : Int)) else (-1, 0)) = (D 0, 0)
  rw [if_pos (show D ((0 : Nat) : Int) > -1 by show D 0 > -1; omega)]; rfl
