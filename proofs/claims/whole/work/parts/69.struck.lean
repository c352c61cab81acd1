theorem cop7 {a : Nat} (h : ¬ 7 ∣ a) : Nat.gcd a 7 = 1 := by
  have h1 : Nat.gcd a 7 ∣ 7 := Nat.gcd_dvd_right a 7
  have h2 : Nat.gcd a 7 ∣ a := Nat.gcd_dvd_left a 7
  have h3 : Nat.gcd a 7 ≤ 7 := Nat.le_of_dvd (by decide) h1
  generalize Nat.gcd a 7 = d at h1 h2 h3
  match d, h3 with
  | 0, _ => omega
  | 1, _ => rfl
  | 2, _ => omega
  | 3, _ => omega
  | 4, _ => omega
  | 5, _ => omega
  | 6, _ => omega
  | 7, _ => exact absurd h2 h
theorem cop7k {a : Nat} (h : ¬ 7 ∣ a) (k : Nat) : Nat.gcd a (7 ^ k) = 1 := Nat.Coprime.pow_right k (cop7 h)
/-- the fraction, freed of sevens: class = reference -/
theorem skN_g {n : Int} : ∀ (d fu : Nat) (i : Int) (a : Nat) (b : Int), i + d = n → d ≤ fu → skN n fu i (a : Int) b = (((a / Nat.gcd a (7 ^ d) : Nat) : Int), b * ((7 ^ d / Nat.gcd a (7 ^ d) : Nat) : Int))
  | 0, fu, i, a, b, h1, h2 => by
    rw [skN_3 (by omega), Nat.pow_zero, Nat.gcd_one_right, Nat.div_one, Nat.div_one]
    simp
  | d + 1, 0, i, a, b, h1, h2 => by omega
  | d + 1, fu + 1, i, a, b, h1, h2 => by
    by_cases h : 7 ∣ a
    · obtain ⟨a1, rfl⟩ := h
      rw [skN_1 (by omega) (by omega), show ((7 * a1 : Nat) : Int) / 7 = (a1 : Int) by omega, skN_g d fu (i + 1) a1 b (by omega) (by omega)]
      rw [show 7 ^ (d + 1) = 7 * 7 ^ d by rw [Nat.pow_succ, Nat.mul_comm], Nat.gcd_mul_left, Nat.mul_div_mul_left _ _ (by decide), Nat.mul_div_mul_left _ _ (by decide)]
    · rw [skN_2 (by omega) (by omega), skN_g d fu (i + 1) a (b * 7) (by omega) (by omega), cop7k h, cop7k h, Nat.div_one, Nat.div_one, Nat.div_one]
      rw [show 7 ^ (d + 1) = 7 * 7 ^ d by rw [Nat.pow_succ, Nat.mul_comm], Int.natCast_mul, Int.mul_assoc]; rfl
