abbrev prM (g : Int → Int) : Prop := ∀ m, 0 ≤ m → m ≤ 6 → 1 ≤ g (256 + m) ∧ g (256 + m) ≤ 9
abbrev plM (g : Int → Int) (p : Int) : Prop := 0 ≤ p ∧ p ≤ la (g 0)
theorem isD_p {g c : Int → Int} {t : Int} (hD : isD g t c) (hL : 0 ≤ g 0 ∧ g 0 ≤ 60) (hpr : prM g) (ht : plM g t) {p : Int} (hp : plM g p) (hne : p ≠ t) : 1 ≤ c p := by
  obtain ⟨m, m1, m2, m3⟩ := isD_m hD hL hpr ht hp hne
  have hla := la_59 hL
  have h1 := isD_b hD hL hpr ht (lnd_in (g := g) (m := m) (p := p) hL (by omega))
  have h2 := hpr m m1 m2
  omega
/-- the costs to a place: class = reference -/
theorem to_eq {g c co rf : Int → Int} {w : Int → Int → Int} {t : Int} (hD : isD g t c) (hL : 0 ≤ g 0 ∧ g 0 ≤ 60) (hpr : prM g) (ht : plM g t) (hw : ∀ m p, 0 ≤ m → m < 7 → 0 ≤ p → p ≤ la (g 0) → w m p = lnd g m p) (hr : ∀ m, 0 ≤ m → m < 7 → rf m = g (256 + m)) :
    ∀ x, 0 ≤ x → x < la (g 0) + 1 → (rR (knW 1 w) (asW 1 w) rf (la (g 0) + 1) 60 0 (zup (ovr co 0 60 1000000) t 0) 1).1 x = c x := by
  have hla := la_59 hL
  have hb : ∀ x, 0 ≤ x → x < la (g 0) + 1 → 0 ≤ c x ∧ c x ≤ 540 := fun x h1 h2 => isD_b hD hL hpr ht ⟨h1, by omega⟩
  refine rR_F (s := t) (by omega) ?_ ?_ ⟨ht.1, by omega⟩ hD.1.2.2.1 (fun x h1 h2 => (hb x h1 h2).1) 60 0 _ 1 (by omega) (by omega) ⟨zup_s, fun x h1 h2 => ?_⟩ (fun h => by omega) (fun x h1 h2 h3 => ?_)
  · intro m p h1 h2 h3 h4
    have hl := lnd_in (g := g) (m := m) (p := p) hL (by omega)
    have hp := hpr m h1 (by omega)
    show 0 ≤ w m p ∧ w m p < la (g 0) + 1 ∧ 0 ≤ p ∧ p < la (g 0) + 1 ∧ 1 ≤ rf m ∧ c p ≤ c (w m p) + rf m
    rw [hw m p h1 h2 h3 (by omega), hr m h1 h2]
    have := hD.2 p m h3 h1 (by omega) (Or.inl h4)
    omega
  · intro x h1 h2 h3
    obtain ⟨m, m1, m2, m3⟩ := isD_m hD hL hpr ht (p := x) ⟨h1, by omega⟩ h3
    refine ⟨m, x, m1, by omega, h1, h2, rfl, ?_⟩
    show c x = c (w m x) + rf m
    rw [hw m x m1 (by omega) h1 (by omega), hr m m1 (by omega)]; omega
  · have := hb x h1 h2
    by_cases e : x = t
    · rw [e, zup_s]; rw [e] at this; have := hD.1.2.2.1; omega
    · rw [zup_n e]; unfold ovr; rw [if_pos (by omega)]; omega
  · by_cases e : x = t
    · rw [e, zup_s]; exact hD.1.2.2.1.symm
    · exfalso
      have hx := isD_p hD hL hpr ht (p := x) ⟨h1, by omega⟩ e
      have h6 := cnt_lt (F := c) (v := c x) (z := t.toNat) (by rw [show ((t.toNat : Nat) : Int) = t by omega, hD.1.2.2.1]; omega) (la (g 0) + 1).toNat (by omega)
      omega
theorem tri {g cx cy : Int → Int} {x y : Int} (hX : isD g x cx) (hY : isD g y cy) (hL : 0 ≤ g 0 ∧ g 0 ≤ 60) (hpr : prM g) (hy : plM g y) : ∀ (k : Nat) (q : Int), plM g q → (cy q).toNat ≤ k → cx q ≤ cy q + cx y
  | k, q, hq, hk => by
    by_cases e : q = y
    · rw [e, hY.1.2.2.1]; omega
    · obtain ⟨m, m1, m2, m3⟩ := isD_m hY hL hpr hy hq e
      have hla := la_59 hL
      have hz := lnd_in (g := g) (m := m) (p := q) hL (by omega)
      have hp := hpr m m1 m2
      have hb := isD_b hY hL hpr hy hz
      match k with
      | 0 => omega
      | k + 1 =>
        have h1 := tri hX hY hL hpr hy k (lnd g m q) hz (by omega)
        have h2 := hX.2 q m hq.1 m1 m2 (Or.inl (by omega))
        omega
theorem isD_u {g c c2 : Int → Int} {x : Int} (h1 : isD g x c) (h2 : isD g x c2) (hL : 0 ≤ g 0 ∧ g 0 ≤ 60) (hpr : prM g) (hx : plM g x) {q : Int} (hq : plM g q) : c q = c2 q := by
  have a := tri h1 h2 hL hpr hx _ q hq (Nat.le_refl _)
  have b := tri h2 h1 hL hpr hx _ q hq (Nat.le_refl _)
  rw [h1.1.2.2.1] at a
  rw [h2.1.2.2.1] at b
  omega
theorem lst {g cx : Int → Int} {x : Int} (hX : isD g x cx) (hall : ∀ p, plM g p → ∃ c, isD g p c) (hL : 0 ≤ g 0 ∧ g 0 ≤ 60) (hpr : prM g) (hx : plM g x) : ∀ (k : Nat) (q : Int), plM g q → q ≠ x → (cx q).toNat ≤ k → ∃ m y cy, 0 ≤ m ∧ m ≤ 6 ∧ plM g y ∧ lnd g m y = x ∧ isD g y cy ∧ cy q + g (256 + m) ≤ cx q
  | k, q, hq, hne, hk => by
    obtain ⟨m, m1, m2, m3⟩ := isD_m hX hL hpr hx hq hne
    have hla := la_59 hL
    have hz := lnd_in (g := g) (m := m) (p := q) hL (by omega)
    have hp := hpr m m1 m2
    have hb := isD_b hX hL hpr hx hz
    by_cases e : lnd g m q = x
    · obtain ⟨cq, hcq⟩ := hall q hq
      refine ⟨m, q, cq, m1, m2, hq, e, hcq, ?_⟩
      rw [hcq.1.2.2.1]; omega
    · match k with
      | 0 => omega
      | k + 1 =>
        obtain ⟨m', y, cy, a1, a2, a3, a4, a5, a6⟩ := lst hX hall hL hpr hx k (lnd g m q) hz e (by omega)
        refine ⟨m', y, cy, a1, a2, a3, a4, a5, ?_⟩
        have := a5.2 q m hq.1 m1 m2 (Or.inl (by omega))
        omega
/-- the costs from a place: class = what the reference finds, place by place -/
theorem from_eq {g D co rf : Int → Int} {w : Int → Int → Int} {s : Int} (hDD : ∀ p, plM g p → ∃ c, isD g p c ∧ D p = c s) (hL : 0 ≤ g 0 ∧ g 0 ≤ 60) (hpr : prM g) (hs : plM g s) (hw : ∀ m p, 0 ≤ m → m < 7 → 0 ≤ p → p ≤ la (g 0) → w m p = lnd g m p) (hr : ∀ m, 0 ≤ m → m < 7 → rf m = g (256 + m)) :
    ∀ x, 0 ≤ x → x < la (g 0) + 1 → (rR (knW 0 w) (asW 0 w) rf (la (g 0) + 1) 60 0 (zup (ovr co 0 60 1000000) s 0) 1).1 x = D x := by
  have hla := la_59 hL
  have hall : ∀ p, plM g p → ∃ c, isD g p c := fun p h => by obtain ⟨c, h1, _⟩ := hDD p h; exact ⟨c, h1⟩
  have hb : ∀ x, 0 ≤ x → x < la (g 0) + 1 → 0 ≤ D x ∧ D x ≤ 540 := fun x h1 h2 => by
    obtain ⟨c, hc, e⟩ := hDD x ⟨h1, by omega⟩
    rw [e]; exact isD_b hc hL hpr ⟨h1, by omega⟩ hs
  have hDs : D s = 0 := by
    obtain ⟨c, hc, e⟩ := hDD s hs
    rw [e]; exact hc.1.2.2.1
  have hpos : ∀ x, plM g x → x ≠ s → 1 ≤ D x := fun x hx hne => by
    obtain ⟨c, hc, e⟩ := hDD x hx
    rw [e]; exact isD_p hc hL hpr hx hs (fun h => hne h.symm)
  refine rR_F (s := s) (by omega) ?_ ?_ ⟨hs.1, by omega⟩ hDs (fun x h1 h2 => (hb x h1 h2).1) 60 0 _ 1 (by omega) (by omega) ⟨zup_s, fun x h1 h2 => ?_⟩ (fun h => by omega) (fun x h1 h2 h3 => ?_)
  · intro m p h1 h2 h3 h4
    have hl := lnd_in (g := g) (m := m) (p := p) hL (by omega)
    have hp := hpr m h1 (by omega)
    show 0 ≤ p ∧ p < la (g 0) + 1 ∧ 0 ≤ w m p ∧ w m p < la (g 0) + 1 ∧ 1 ≤ rf m ∧ D (w m p) ≤ D p + rf m
    rw [hw m p h1 h2 h3 (by omega), hr m h1 h2]
    obtain ⟨cx, hcx, ex⟩ := hDD (lnd g m p) hl
    obtain ⟨cp, hcp, ep⟩ := hDD p ⟨h3, by omega⟩
    have t1 := tri hcx hcp hL hpr ⟨h3, by omega⟩ _ s hs (Nat.le_refl _)
    have t2 := hcx.2 p m h3 h1 (by omega) (Or.inl h4)
    rw [hcx.1.2.2.1] at t2
    omega
  · intro x h1 h2 h3
    obtain ⟨cx, hcx, ex⟩ := hDD x ⟨h1, by omega⟩
    obtain ⟨m, y, cy, a1, a2, a3, a4, a5, a6⟩ := lst hcx hall hL hpr ⟨h1, by omega⟩ _ s hs (fun h => h3 h.symm) (Nat.le_refl _)
    obtain ⟨cy2, hcy2, ey⟩ := hDD y a3
    have hu := isD_u hcy2 a5 hL hpr a3 hs
    have hwy := hw m y a1 (by omega) a3.1 a3.2
    refine ⟨m, y, a1, by omega, a3.1, by have := a3.2; omega, ?_, ?_⟩
    · show w m y = x
      rw [hwy, a4]
    · show D x = D y + rf m
      rw [hr m a1 (by omega)]
      have t1 := tri hcx a5 hL hpr a3 _ s hs (Nat.le_refl _)
      have t2 := hcx.2 y m a3.1 a1 a2 (Or.inl (by have := a3.2; omega))
      rw [a4, hcx.1.2.2.1] at t2
      omega
  · have := hb x h1 h2
    by_cases e : x = s
    · rw [e, zup_s]; omega
    · rw [zup_n e]; unfold ovr; rw [if_pos (by omega)]; omega
  · by_cases e : x = s
    · rw [e, zup_s]; exact hDs.symm
    · exfalso
      have hx := hpos x ⟨h1, by omega⟩ e
      have h6 := cnt_lt (F := D) (v := D x) (z := s.toNat) (by rw [show ((s.toNat : Nat) : Int) = s by omega, hDs]; omega) (la (g 0) + 1).toNat (by omega)
      omega
