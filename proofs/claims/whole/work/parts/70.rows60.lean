abbrev a60 (f h : Int → Int) : Prop := ∀ j, 0 ≤ j → j < 60 → f j = h j
theorem psM_cg {w w' : Int → Int → Int} {r r' : Int → Int} {p : Int} (hr : r p = r' p) (hw : ∀ m, 0 ≤ m → m < 7 → w m p = w' m p) : ∀ (k : Nat) (m : Int) (l l' : Int → Int), 0 ≤ m → a60 l l' → a60 (psM w r p k m l) (psM w' r' p k m l')
  | 0, m, l, l', hm, h => h
  | k + 1, m, l, l', hm, h => by
    by_cases c : m < 7
    · rw [psM_go c, psM_go c, hw m hm c, hr]
      refine psM_cg hr hw k (m + 1) _ _ (by omega) (fun j h1 h2 => ?_)
      by_cases e : j = w' m p
      · rw [← e, zup_s, zup_s, h j h1 h2]
      · rw [zup_n e, zup_n e]; exact h j h1 h2
    · rw [psM_no c, psM_no c]; exact h
theorem psP_cg {w w' : Int → Int → Int} {r r' : Int → Int} {n : Int} (hn : n ≤ 60) (hr : a60 r r') (hw : ∀ m p, 0 ≤ m → m < 7 → 0 ≤ p → p < n → w m p = w' m p) : ∀ (k : Nat) (p : Int) (l l' : Int → Int), 0 ≤ p → a60 l l' → a60 (psP w r n k p l) (psP w' r' n k p l')
  | 0, p, l, l', hp, h => h
  | k + 1, p, l, l', hp, h => by
    by_cases c : p < n
    · rw [psP_go c, psP_go c]
      exact psP_cg hn hr hw k (p + 1) _ _ (by omega) (psM_cg (hr p hp (by omega)) (fun m h1 h2 => hw m p h1 h2 hp c) 7 0 l l' (by omega) h)
    · rw [psP_no c, psP_no c]; exact h
theorem psR_cg {w w' : Int → Int → Int} {pl n : Int} (hn : pl ≤ 60) (hw : ∀ m p, 0 ≤ m → m < 7 → 0 ≤ p → p < pl → w m p = w' m p) : ∀ (k : Nat) (i : Int) (r r' l l' : Int → Int), a60 r r' → a60 (psR w pl n k i r l) (psR w' pl n k i r' l')
  | 0, i, r, r', l, l', h => h
  | k + 1, i, r, r', l, l', h => by
    by_cases c : i < n
    · rw [psR_go c, psR_go c]
      refine psR_cg hn hw k (i + 1) _ _ _ _ (fun j h1 h2 => ?_)
      rw [zcp_in h1 (by omega), zcp_in h1 (by omega), Int.sub_zero, Int.zero_add]
      refine psP_cg hn h hw _ 0 _ _ (by omega) (fun q q1 q2 => ?_) j h1 h2
      unfold ovr; rw [if_pos ⟨q1, q2⟩, if_pos ⟨q1, q2⟩]
    · rw [psR_no c, psR_no c]; exact h
/-- the rows of motions that end at t: class = reference -/
theorem psR_full {w w' : Int → Int → Int} {pl n s t : Int} {ro ro' lo lo' : Int → Int} (hn : pl ≤ 60) (hw : ∀ m p, 0 ≤ m → m < 7 → 0 ≤ p → p < pl → w m p = w' m p) (ht : 0 ≤ t ∧ t < 60) : psR w pl n 4 0 (zup (ovr ro 0 60 0) s 1) lo t = psR w' pl n 4 0 (zup (ovr ro' 0 60 0) s 1) lo' t := by
  refine psR_cg hn hw 4 0 _ _ lo lo' (fun j h1 h2 => ?_) t ht.1 ht.2
  by_cases e : j = s
  · rw [e, zup_s, zup_s]
  · rw [zup_n e, zup_n e]; unfold ovr; rw [if_pos ⟨h1, h2⟩, if_pos ⟨h1, h2⟩]
/-- both fractions -/
theorem frac_eq {n W : Int} (hn : 0 ≤ n ∧ n ≤ 4) (hW : 0 ≤ W) : (skN n 4 0 W 1).1 = W / ((Nat.gcd W.toNat (7 ^ n.toNat) : Nat) : Int) ∧ (skN n 4 0 W 1).2 = (7 : Int) ^ n.toNat / ((Nat.gcd W.toNat (7 ^ n.toNat) : Nat) : Int) := by
  have h := skN_g (n := n) n.toNat 4 0 W.toNat 1 (by omega) (by omega)
  rw [show ((W.toNat : Nat) : Int) = W by omega] at h
  rw [h]
  constructor
  · show ((W.toNat / Nat.gcd W.toNat (7 ^ n.toNat) : Nat) : Int) = _
    rw [Int.natCast_ediv, show ((W.toNat : Nat) : Int) = W by omega]
  · show 1 * ((7 ^ n.toNat / Nat.gcd W.toNat (7 ^ n.toNat) : Nat) : Int) = _
    rw [Int.one_mul, Int.natCast_ediv, Int.natCast_pow]; rfl
