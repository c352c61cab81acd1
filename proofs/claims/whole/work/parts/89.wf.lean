/-! ===== the keys of a change, read once more, make a change at the last one only ===== -/
def pk (kf : Int → Int) : Nat → Int → Int
  | 0 => fun _ => 0
  | n + 1 => (tkA (pk kf n) (kf n)).2
def pkw (kf : Int → Int) (n : Nat) : Prop := ∀ i : Nat, i < n → (tkA (pk kf i) (kf i)).1 = 0
theorem pk_cg {a b : Int → Int} : ∀ n : Nat, (∀ j : Nat, j < n → a j = b j) → pk a n = pk b n
  | 0, _ => rfl
  | n + 1, h => by rw [pk, pk, pk_cg n (fun j hj => h j (by omega)), h n (by omega)]
theorem pkw_cg {a b : Int → Int} {n : Nat} (h : ∀ j : Nat, j < n → a j = b j) (w : pkw a n) : pkw b n := fun i hi => by
  rw [← pk_cg i (fun j hj => h j (by omega)), ← h i hi]; exact w i hi
def wfK (k kf : Int → Int) (ks ty : Int) : Prop := ks ≤ 30 → (ty = 0 → pkw kf ks.toNat ∧ k = pk kf ks.toNat) ∧ (ty ≠ 0 → ∃ m : Nat, (m : Int) < ks ∧ pkw kf m ∧ (tkA (pk kf m) (kf m)).1 = 1 ∧ tyv ((tkA (pk kf m) (kf m)).2 2) ∧ ∀ i : Nat, m < i → (i : Int) < ks → kf i ≠ 33)
/-- where the command of a row of keys is whole -/
def wfM (lf : Int → Int) (ls : Int) (m : Nat) : Prop := (m : Int) < ls ∧ pkw lf m ∧ (tkA (pk lf m) (lf m)).1 = 1 ∧ ((m : Int) + 1 < ls → tyv ((tkA (pk lf m) (lf m)).2 2)) ∧ ∀ i : Nat, m < i → (i : Int) + 1 < ls → lf i ≠ 33
def wfL (lf : Int → Int) (ls : Int) : Prop := 0 < ls → ls ≤ 30 → ∃ m : Nat, wfM lf ls m
theorem addF_at {kf : Int → Int} {ks x : Int} (h : ks < 30) : addF kf ks x ks = x := by unfold addF; rw [if_pos h, zup_s]
theorem addF_ne {kf : Int → Int} {ks x j : Int} (h : j ≠ ks) : addF kf ks x j = kf j := by
  unfold addF
  by_cases e : ks < 30
  · rw [if_pos e, zup_n h]
  · rw [if_neg e]
theorem wfK_0 (kf : Int → Int) : wfK (fun _ => 0) kf 0 0 := fun _ => ⟨fun _ => ⟨fun i hi => absurd hi (by omega), rfl⟩, fun h => absurd rfl h⟩
theorem wfM_cg {a b : Int → Int} {ls : Int} {m : Nat} (h : ∀ j : Nat, (j : Int) < ls → a j = b j) (w : wfM a ls m) : wfM b ls m := by
  obtain ⟨w1, w2, w3, w4, w5⟩ := w
  have e := pk_cg m (fun j hj => h j (by omega))
  have e2 := h m w1
  rw [e, e2] at w3 w4
  exact ⟨w1, pkw_cg (fun j hj => h j (by omega)) w2, w3, w4, fun i i1 i2 => by rw [← h i (by omega)]; exact w5 i i1 i2⟩
section WF
variable {k kf lf : Int → Int} {ks ls ty x rep : Int}
theorem wf_st (w : wfK k kf ks 0) (hks : 0 ≤ ks) (h : ks < 30) : pkw (addF kf ks x) ks.toNat ∧ pk (addF kf ks x) ks.toNat = k ∧ addF kf ks x (ks.toNat : Int) = x := by
  obtain ⟨a, b⟩ := (w (by omega)).1 rfl
  have e : ∀ j : Nat, j < ks.toNat → kf j = addF kf ks x j := fun j hj => (addF_ne (by omega)).symm
  refine ⟨pkw_cg e a, ?_, ?_⟩
  · rw [b]; exact (pk_cg _ e).symm
  · rw [show ((ks.toNat : Nat) : Int) = ks by omega, addF_at h]
theorem wf_wait (w : wfK k kf ks 0) (hks : 0 ≤ ks) (h : (tkA k x).1 = 0) : wfK (tkA k x).2 (addF kf ks x) (min (ks + 1) 31) 0 := by
  intro h30
  obtain ⟨a, b, c⟩ := wf_st (x := x) w hks (by omega)
  refine ⟨fun _ => ?_, fun q => absurd rfl q⟩
  rw [show (min (ks + 1) 31).toNat = ks.toNat + 1 by omega]
  refine ⟨fun i hi => ?_, ?_⟩
  · by_cases e : i < ks.toNat
    · exact a i e
    · have e2 : i = ks.toNat := by omega
      rw [e2, b, c]; exact h
  · rw [pk, b, c]
theorem wf_type (w : wfK k kf ks 0) (hks : 0 ≤ ks) (h : (tkA k x).1 = 1) (hv : tyv ((tkA k x).2 2)) (k2 : Int → Int) : wfK k2 (addF kf ks x) (min (ks + 1) 31) 1 := by
  intro h30
  obtain ⟨a, b, c⟩ := wf_st (x := x) w hks (by omega)
  refine ⟨fun q => absurd q (by omega), fun _ => ⟨ks.toNat, by omega, a, ?_, ?_, fun i i1 i2 => absurd i2 (by omega)⟩⟩
  · rw [b, c]; exact h
  · rw [b, c]; exact hv
theorem wf_chg (w : wfK k kf ks 0) (hks : 0 ≤ ks) (h : (tkA k x).1 = 1) (v : wfL lf ls) : wfL (if rep = 0 then zcp (addF kf ks x) lf 0 0 30 else lf) (if rep = 0 then min (ks + 1) 31 else ls) := by
  by_cases e : rep = 0
  · rw [if_pos e, if_pos e]
    intro _ h30
    obtain ⟨a, b, c⟩ := wf_st (x := x) w hks (by omega)
    refine ⟨ks.toNat, wfM_cg (a := addF kf ks x) (fun j hj => ?_) ⟨by omega, a, ?_, fun q => absurd q (by omega), fun i i1 i2 => absurd i2 (by omega)⟩⟩
    · rw [zcp_in (by omega) (by omega)]; congr 1; omega
    · rw [b, c]; exact h
  · rw [if_neg e, if_neg e]; exact v
theorem wf_more (w : wfK k kf ks 1) (hks : 0 ≤ ks) (h : x ≠ 33) : wfK k (addF kf ks x) (min (ks + 1) 31) 1 := by
  intro h30
  obtain ⟨m, a1, a2, a3, a4, a5⟩ := (w (by omega)).2 (by omega)
  have e : ∀ j : Nat, j < m → kf j = addF kf ks x j := fun j hj => (addF_ne (by omega)).symm
  have e2 : addF kf ks x m = kf m := addF_ne (by omega)
  refine ⟨fun q => absurd q (by omega), fun _ => ⟨m, by omega, pkw_cg e a2, ?_, ?_, fun i i1 i2 => ?_⟩⟩
  · rw [← pk_cg m e, e2]; exact a3
  · rw [← pk_cg m e, e2]; exact a4
  · by_cases z : (i : Int) = ks
    · rw [z, addF_at (by omega)]; exact h
    · rw [addF_ne z]; exact a5 i i1 (by omega)
theorem wf_end (w : wfK k kf ks 1) (hks : 0 ≤ ks) (v : wfL lf ls) : wfL (if rep = 0 then zcp (addF kf ks x) lf 0 0 30 else lf) (if rep = 0 then min (ks + 1) 31 else ls) := by
  by_cases e : rep = 0
  · rw [if_pos e, if_pos e]
    intro _ h30
    obtain ⟨m, a1, a2, a3, a4, a5⟩ := (w (by omega)).2 (by omega)
    have e0 : ∀ j : Nat, j < m → kf j = addF kf ks x j := fun j hj => (addF_ne (by omega)).symm
    have e2 : addF kf ks x m = kf m := addF_ne (by omega)
    refine ⟨m, wfM_cg (a := addF kf ks x) (fun j hj => ?_) ⟨by omega, pkw_cg e0 a2, ?_, fun _ => ?_, fun i i1 i2 => ?_⟩⟩
    · rw [zcp_in (by omega) (by omega)]; congr 1; omega
    · rw [← pk_cg m e0, e2]; exact a3
    · rw [← pk_cg m e0, e2]; exact a4
    · rw [addF_ne (by omega)]; exact a5 i i1 (by omega)
  · rw [if_neg e, if_neg e]; exact v
end WF
