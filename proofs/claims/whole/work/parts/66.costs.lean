/-! ===== costs: the class's rounds reach the one solution ===== -/
def cnt (F : Int → Int) (v : Int) : Nat → Nat
  | 0 => 0
  | j + 1 => cnt F v j + (if F j < v then 1 else 0)
theorem cnt_mono {F : Int → Int} {v w : Int} (h : v ≤ w) : ∀ N : Nat, cnt F v N ≤ cnt F w N
  | 0 => Nat.le_refl _
  | N + 1 => by
    have := cnt_mono (F := F) h N
    rw [cnt, cnt]
    by_cases c : F N < v
    · rw [if_pos c, if_pos (by omega)]; omega
    · rw [if_neg c]; omega
theorem cnt_lt {F : Int → Int} {v : Int} {z : Nat} (h : F z < v) : ∀ N : Nat, z < N → cnt F (F z) N < cnt F v N
  | 0, hz => by omega
  | N + 1, hz => by
    rw [cnt, cnt]
    by_cases e : z = N
    · have := cnt_mono (F := F) (show F z ≤ v by omega) N
      rw [← e, if_neg (by omega), if_pos h]
      rw [← e] at this; omega
    · have := cnt_lt h N (by omega)
      by_cases c : F N < F z
      · rw [if_pos c, if_pos (by omega)]; omega
      · rw [if_neg c]; omega
theorem cnt_le {F : Int → Int} {v : Int} : ∀ N : Nat, cnt F v N ≤ N
  | 0 => Nat.le_refl _
  | N + 1 => by
    have := cnt_le (F := F) (v := v) N
    rw [cnt]; split <;> omega
theorem cnt_bd {F : Int → Int} {x : Nat} : ∀ N : Nat, x < N → cnt F (F x) N < N
  | 0, h => by omega
  | N + 1, h => by
    rw [cnt]
    by_cases e : x = N
    · have := cnt_le (F := F) (v := F x) N
      rw [← e, if_neg (by omega)]
      rw [← e] at this; omega
    · have := cnt_bd (F := F) N (show x < N by omega)
      split <;> omega
def bfE (kn as : Int → Int → Int) (rf F : Int → Int) (n : Int) : Prop := ∀ m p, 0 ≤ m → m < 7 → 0 ≤ p → p < n → 0 ≤ kn m p ∧ kn m p < n ∧ 0 ≤ as m p ∧ as m p < n ∧ 1 ≤ rf m ∧ F (as m p) ≤ F (kn m p) + rf m
def bfJ (F A : Int → Int) (n s : Int) : Prop := A s = 0 ∧ ∀ x, 0 ≤ x → x < n → F x ≤ A x
theorem rx_J {kn as : Int → Int → Int} {rf F A : Int → Int} {n s m p : Int} (hE : bfE kn as rf F n) (hF : F s = 0) (h0 : ∀ x, 0 ≤ x → x < n → 0 ≤ F x) (hJ : bfJ F A n s) (hm : 0 ≤ m ∧ m < 7) (hp : 0 ≤ p ∧ p < n) :
    bfJ F (rxC A (kn m p) (as m p) (rf m)) n s ∧ (∀ x, rxC A (kn m p) (as m p) (rf m) x ≤ A x) ∧ rxC A (kn m p) (as m p) (rf m) (as m p) ≤ A (kn m p) + rf m := by
  obtain ⟨e1, e2, e3, e4, e5, e6⟩ := hE m p hm.1 hm.2 hp.1 hp.2
  have hk := hJ.2 _ e1 e2
  have hk0 := h0 _ e1 e2
  by_cases h : A (kn m p) + rf m < A (as m p)
  · rw [rxC_1 h]
    refine ⟨⟨?_, fun x h1 h2 => ?_⟩, fun x => ?_, by rw [zup_s]; omega⟩
    · by_cases e : s = as m p
      · exfalso; have := hJ.1; rw [e] at this; omega
      · rw [zup_n e]; exact hJ.1
    · by_cases e : x = as m p
      · rw [e, zup_s]; omega
      · rw [zup_n e]; exact hJ.2 x h1 h2
    · by_cases e : x = as m p
      · rw [e, zup_s]; omega
      · rw [zup_n e]; omega
  · rw [rxC_2 h]; exact ⟨hJ, fun x => by omega, by omega⟩
theorem rM_J {kn as : Int → Int → Int} {rf F : Int → Int} {n s p : Int} (hE : bfE kn as rf F n) (hF : F s = 0) (h0 : ∀ x, 0 ≤ x → x < n → 0 ≤ F x) (hp : 0 ≤ p ∧ p < n) : ∀ (k : Nat) (m : Int) (A : Int → Int) (b : Int), 0 ≤ m → m + k = 7 → bfJ F A n s →
    bfJ F (rM kn as rf p k m A b).1 n s ∧ (∀ x, (rM kn as rf p k m A b).1 x ≤ A x) ∧ (∀ m', m ≤ m' → m' < 7 → (rM kn as rf p k m A b).1 (as m' p) ≤ A (kn m' p) + rf m') ∧ ((rM kn as rf p k m A b).2 = 0 → b = 0 ∧ (rM kn as rf p k m A b).1 = A)
  | 0, m, A, b, hm, hk, hJ => ⟨hJ, fun x => Int.le_refl _, fun m' h1 h2 => by omega, fun h => ⟨h, rfl⟩⟩
  | k + 1, m, A, b, hm, hk, hJ => by
    obtain ⟨r1, r2, r3⟩ := rx_J hE hF h0 hJ ⟨hm, show m < 7 by omega⟩ hp
    obtain ⟨i1, i2, i3, i4⟩ := rM_J hE hF h0 hp k (m + 1) (rxC A (kn m p) (as m p) (rf m)) (rxB A (kn m p) (as m p) (rf m) b) (by omega) (by omega) r1
    rw [rM_go (show m < 7 by omega)]
    refine ⟨i1, fun x => Int.le_trans (i2 x) (r2 x), fun m' h1 h2 => ?_, fun h => ?_⟩
    · by_cases e : m' = m
      · rw [e]; exact Int.le_trans (i2 _) r3
      · exact Int.le_trans (i3 m' (by omega) h2) (by have := r2 (kn m' p); omega)
    · obtain ⟨j1, j2⟩ := i4 h
      by_cases c : A (kn m p) + rf m < A (as m p)
      · rw [rxB_1 c] at j1; omega
      · rw [rxB_2 c] at j1; exact ⟨j1, by rw [j2, rxC_2 c]⟩
theorem rP_J {kn as : Int → Int → Int} {rf F : Int → Int} {n s : Int} (hE : bfE kn as rf F n) (hF : F s = 0) (h0 : ∀ x, 0 ≤ x → x < n → 0 ≤ F x) : ∀ (k : Nat) (p : Int) (A : Int → Int) (b : Int), 0 ≤ p → p + k = n → bfJ F A n s →
    bfJ F (rP kn as rf n k p A b).1 n s ∧ (∀ x, (rP kn as rf n k p A b).1 x ≤ A x) ∧ (∀ p' m', p ≤ p' → p' < n → 0 ≤ m' → m' < 7 → (rP kn as rf n k p A b).1 (as m' p') ≤ A (kn m' p') + rf m') ∧ ((rP kn as rf n k p A b).2 = 0 → b = 0 ∧ (rP kn as rf n k p A b).1 = A)
  | 0, p, A, b, hp, hk, hJ => ⟨hJ, fun x => Int.le_refl _, fun p' m' h1 h2 => by omega, fun h => ⟨h, rfl⟩⟩
  | k + 1, p, A, b, hp, hk, hJ => by
    obtain ⟨r1, r2, r3, r4⟩ := rM_J hE hF h0 ⟨hp, show p < n by omega⟩ 7 0 A b (by omega) (by omega) hJ
    obtain ⟨i1, i2, i3, i4⟩ := rP_J hE hF h0 k (p + 1) (rM kn as rf p 7 0 A b).1 (rM kn as rf p 7 0 A b).2 (by omega) (by omega) r1
    rw [rP_go (show p < n by omega)]
    refine ⟨i1, fun x => Int.le_trans (i2 x) (r2 x), fun p' m' h1 h2 h3 h4 => ?_, fun h => ?_⟩
    · by_cases e : p' = p
      · rw [e]; exact Int.le_trans (i2 _) (r3 m' h3 h4)
      · exact Int.le_trans (i3 p' m' (by omega) h2 h3 h4) (by have := r2 (kn m' p'); omega)
    · obtain ⟨j1, j2⟩ := i4 h
      obtain ⟨q1, q2⟩ := r4 j1
      exact ⟨q1, by rw [j2, q2]⟩
def bfX (kn as : Int → Int → Int) (rf A : Int → Int) (n : Int) : Prop := ∀ m p, 0 ≤ m → m < 7 → 0 ≤ p → p < n → A (as m p) ≤ A (kn m p) + rf m
def bfT (kn as : Int → Int → Int) (rf F : Int → Int) (n s : Int) : Prop := ∀ x, 0 ≤ x → x < n → x ≠ s → ∃ m p, 0 ≤ m ∧ m < 7 ∧ 0 ≤ p ∧ p < n ∧ as m p = x ∧ F x = F (kn m p) + rf m
/-- what no way can better is no dearer than the solution -/
theorem bf_fix {kn as : Int → Int → Int} {rf F A : Int → Int} {n s : Int} (hE : bfE kn as rf F n) (hT : bfT kn as rf F n s) (h0 : ∀ x, 0 ≤ x → x < n → 0 ≤ F x) (hA : A s = 0) (hX : bfX kn as rf A n) : ∀ (k : Nat) (x : Int), 0 ≤ x → x < n → (F x).toNat ≤ k → A x ≤ F x
  | k, x, h1, h2, h3 => by
    by_cases e : x = s
    · have := h0 x h1 h2; rw [e, hA]; rw [e] at this; exact this
    · obtain ⟨m, p, a1, a2, a3, a4, a5, a6⟩ := hT x h1 h2 e
      obtain ⟨e1, e2, e3, e4, e5, e6⟩ := hE m p a1 a2 a3 a4
      have hz := h0 _ e1 e2
      match k with
      | 0 => have := h0 x h1 h2; omega
      | k + 1 =>
        have h := bf_fix hE hT h0 hA hX k (kn m p) e1 e2 (by omega)
        have h5 := hX m p a1 a2 a3 a4
        rw [a5] at h5; omega
theorem rR_F {kn as : Int → Int → Int} {rf F : Int → Int} {n s : Int} (hn : 0 ≤ n) (hE : bfE kn as rf F n) (hT : bfT kn as rf F n s) (hs : 0 ≤ s ∧ s < n) (hF : F s = 0) (h0 : ∀ x, 0 ≤ x → x < n → 0 ≤ F x) : ∀ (k : Nat) (r : Int) (A : Int → Int) (b : Int), 0 ≤ r → n ≤ r + k → bfJ F A n s → (b = 0 → bfX kn as rf A n) → (∀ x : Int, 0 ≤ x → x < n → (cnt F (F x) n.toNat : Int) ≤ r → A x = F x) → ∀ x, 0 ≤ x → x < n → (rR kn as rf n k r A b).1 x = F x := by
  have fin : ∀ (A : Int → Int) (b r : Int), bfJ F A n s → (b = 0 → bfX kn as rf A n) → (∀ x : Int, 0 ≤ x → x < n → (cnt F (F x) n.toNat : Int) ≤ r → A x = F x) → ¬ (r < n ∧ b ≠ 0) → ∀ x, 0 ≤ x → x < n → A x = F x := by
    intro A b r hJ hX hC hno x h1 h2
    by_cases hb : b = 0
    · have := bf_fix hE hT h0 hJ.1 (hX hb) _ x h1 h2 (Nat.le_refl _)
      have := hJ.2 x h1 h2
      omega
    · have h3 := cnt_bd (F := F) (x := x.toNat) n.toNat (by omega)
      rw [show ((x.toNat : Nat) : Int) = x by omega] at h3
      exact hC x h1 h2 (by omega)
  intro k
  induction k with
  | zero => intro r A b hr hk hJ hX hC; exact fin A b r hJ hX hC (by omega)
  | succ k ih =>
    intro r A b hr hk hJ hX hC
    by_cases c : r < n ∧ b ≠ 0
    · rw [rR_go c.1 c.2]
      obtain ⟨i1, i2, i3, i4⟩ := rP_J hE hF h0 n.toNat 0 A 0 (by omega) (by omega) hJ
      refine ih (r + 1) _ _ (by omega) (by omega) i1 (fun h m p h1 h2 h3 h4 => ?_) (fun x h1 h2 h3 => ?_)
      · have h5 := i3 p m h3 h4 h1 h2
        rw [(i4 h).2] at h5 ⊢; exact h5
      · have hlo := i1.2 x h1 h2
        by_cases e : x = s
        · have := i1.1; rw [← e] at this hF; omega
        · obtain ⟨m, p, a1, a2, a3, a4, a5, a6⟩ := hT x h1 h2 e
          obtain ⟨e1, e2, e3, e4, e5, e6⟩ := hE m p a1 a2 a3 a4
          have h6 := cnt_lt (F := F) (v := F x) (z := (kn m p).toNat) (by rw [show (((kn m p).toNat : Nat) : Int) = kn m p by omega]; omega) n.toNat (by omega)
          rw [show (((kn m p).toNat : Nat) : Int) = kn m p by omega] at h6
          have h7 := hC (kn m p) e1 e2 (by omega)
          have h8 := i3 p m a3 a4 a1 a2
          rw [a5] at h8; omega
    · rw [rR_no c]; exact fin A b r hJ hX hC c
