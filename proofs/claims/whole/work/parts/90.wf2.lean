/-! ===== keys struck keep this ===== -/
abbrev wfD (d : zDk) : Prop := wfK (d.2.2.2.2.2.2.2.2.2.2.2.1) (d.2.2.2.2.2.2.2.2.2.2.2.2.1) (d.2.2.2.2.2.2.2.2.2.2.2.2.2.1) (d.2.2.2.2.2.2.2.2.2.2.2.2.2.2.2.2.2.2.2.2.1) ∧ wfL (d.2.2.2.2.2.2.2.2.2.2.2.2.2.2.1) (d.2.2.2.2.2.2.2.2.2.2.2.2.2.2.2.1)
theorem stk_wf {f bf pf pl pc k kf lf sf mf rf : Int → Int} {L c bL bc nx sz ks ls sl ty pla fro to : Int} {x rep : Int} (w : wfK k kf ks ty) (v : wfL lf ls) (hks : 0 ≤ ks) (hty : ty = 0 ∨ ty = 1) : wfD (stk f L c bf bL bc pf pl pc nx sz k kf ks lf ls sf sl mf rf ty pla fro to x rep).2 := by
  by_cases c1 : ty ≠ 0
  · rw [stk_1 c1]
    have ht : ty = 1 := by omega
    subst ht
    by_cases d1 : x = 33
    · rw [tin_1 d1]; exact ⟨wfK_0 _, wf_end w hks v⟩
    by_cases d2 : 60 ≤ L
    · rw [tin_2 d1 d2]; exact ⟨wf_more w hks d1, v⟩
    · rw [tin_3 d1 d2]; exact ⟨wf_more w hks d1, v⟩
  have ht : ty = 0 := by omega
  subst ht
  by_cases c2 : (tkA k x).1 = 0
  · rw [stk_2 c1 c2]; exact ⟨wf_wait w hks c2, v⟩
  by_cases c3 : (tkA k x).1 ≠ 1
  · rw [stk_3 c1 c2 c3]; exact ⟨wfK_0 _, v⟩
  by_cases c4 : amO f L c mf (tkA k x).2 = 0
  · rw [stk_4 c1 c2 c3 c4]; exact ⟨wfK_0 _, v⟩
  have t1 : (tkA k x).1 = 1 := by omega
  by_cases c5 : (pfm f L c pf pl pc nx sz (tkA k x).2 sf sl mf (amP f L c mf (tkA k x).2 pla) (amF f L c mf (tkA k x).2 fro) (amT f L c mf (tkA k x).2 to) (tmz (tkA k x).2)).1 = 3
  · rw [stk_5 c1 c2 c3 c4 c5]; exact ⟨wf_type w hks t1 (pfm_t.mp c5) _, v⟩
  by_cases c6 : (pfm f L c pf pl pc nx sz (tkA k x).2 sf sl mf (amP f L c mf (tkA k x).2 pla) (amF f L c mf (tkA k x).2 fro) (amT f L c mf (tkA k x).2 to) (tmz (tkA k x).2)).1 = 2
  · rw [stk_6 c1 c2 c3 c4 c5 c6]; exact ⟨wfK_0 _, wf_chg w hks t1 v⟩
  by_cases c7 : (pfm f L c pf pl pc nx sz (tkA k x).2 sf sl mf (amP f L c mf (tkA k x).2 pla) (amF f L c mf (tkA k x).2 fro) (amT f L c mf (tkA k x).2 to) (tmz (tkA k x).2)).1 = 0
  · rw [stk_7 c1 c2 c3 c4 c5 c6 c7]; exact ⟨wfK_0 _, v⟩
  · rw [stk_8 c1 c2 c3 c4 c5 c6 c7]; exact ⟨wfK_0 _, v⟩
/-- how far the keys are read once more -/
abbrev stp (lf : Int → Int) (m j : Nat) (k kf : Int → Int) (ks ty : Int) : Prop := ks = j ∧ (∀ i : Nat, i < j → kf i = lf i) ∧ ((j ≤ m ∧ ty = 0 ∧ k = pk lf j) ∨ (m < j ∧ ty = 1))
abbrev stpD (lf : Int → Int) (m j : Nat) (d : zDk) : Prop := stp lf m j (d.2.2.2.2.2.2.2.2.2.2.2.1) (d.2.2.2.2.2.2.2.2.2.2.2.2.1) (d.2.2.2.2.2.2.2.2.2.2.2.2.2.1) (d.2.2.2.2.2.2.2.2.2.2.2.2.2.2.2.2.2.2.2.2.1)
theorem tkA_46 {k : Int → Int} (h : k 1 = 0) : (tkA k 46).1 = 2 := by
  rw [tkA_1 h, tkV_7 (by omega) (by omega) (by omega) (by omega) (by omega) (by omega), tkM_1 (by decide)]
theorem stp_nx {f bf pf pl pc k kf lf sf mf rf : Int → Int} {L c bL bc nx sz ks ls sl ty pla fro to : Int} {m j : Nat} {lg : Int → Int} {lz : Int} (w : wfM lg lz m) (h : stp lg m j k kf ks ty) (hj : (j : Int) + 1 < lz) (hl : lz ≤ 30) (ha : (stk f L c bf bL bc pf pl pc nx sz k kf ks lf ls sf sl mf rf ty pla fro to (lg j) 1).1 ≠ -2) : stpD lg m (j + 1) (stk f L c bf bL bc pf pl pc nx sz k kf ks lf ls sf sl mf rf ty pla fro to (lg j) 1).2 := by
  obtain ⟨h1, h2, h3⟩ := h
  obtain ⟨w1, w2, w3, w4, w5⟩ := w
  have hk : ∀ i : Nat, i < j + 1 → addF kf ks (lg j) i = lg i := fun i hi => by
    by_cases e : i = j
    · rw [e, ← h1, addF_at (by omega)]
    · rw [addF_ne (by omega)]; exact h2 i (by omega)
  have hs : min (ks + 1) 31 = ((j + 1 : Nat) : Int) := by omega
  rcases h3 with ⟨a1, a2, a3⟩ | ⟨a1, a2⟩
  · subst a2
    by_cases e : j < m
    · have t0 : (tkA k (lg j)).1 = 0 := by rw [a3]; exact w2 j e
      rw [stk_2 (by omega) t0]
      exact ⟨hs, hk, Or.inl ⟨by omega, rfl, by rw [a3]; rfl⟩⟩
    · have e2 : j = m := by omega
      have t1 : (tkA k (lg j)).1 = 1 := by rw [a3, e2]; exact w3
      have tv : tyv ((tkA k (lg j)).2 2) := by rw [a3, e2]; exact w4 (by omega)
      by_cases c4 : amO f L c mf (tkA k (lg j)).2 = 0
      · rw [stk_4 (by omega) (by omega) (by omega) c4] at ha
        exact absurd rfl ha
      · rw [stk_5 (by omega) (by omega) (by omega) c4 (pfm_t.mpr tv)]
        exact ⟨hs, hk, Or.inr ⟨by omega, rfl⟩⟩
  · have hx : lg j ≠ 33 := w5 j a1 hj
    rw [stk_1 (by omega)]
    by_cases d2 : 60 ≤ L
    · rw [tin_2 hx d2]; exact ⟨hs, hk, Or.inr ⟨by omega, a2⟩⟩
    · rw [tin_3 hx d2]; exact ⟨hs, hk, Or.inr ⟨by omega, a2⟩⟩
theorem stp_rep {lg k kf : Int → Int} {m j : Nat} {lz ks ty : Int} (w : wfM lg lz m) (h : stp lg m j k kf ks ty) (hj : (j : Int) < lz) (hl : lz ≤ 30) : ¬ (lg j = 46 ∧ ty = 0 ∧ k 1 = 0) ∧ ((1 : Int) = 0 ∨ agr kf ks lg lz (lg j) ∨ (ty = 0 ∧ ((tkA k (lg j)).1 = 0 ∨ tyv ((tkA k (lg j)).2 2))) ∨ (ty = 1 ∧ lg j ≠ 33)) := by
  obtain ⟨h1, h2, h3⟩ := h
  obtain ⟨w1, w2, w3, w4, w5⟩ := w
  constructor
  · rintro ⟨q1, q2, q3⟩
    rcases h3 with ⟨a1, a2, a3⟩ | ⟨a1, a2⟩
    · have q4 := tkA_46 q3
      by_cases e : j < m
      · have := w2 j e
        rw [← a3, q1, q4] at this; omega
      · have e2 : m = j := by omega
        rw [e2, ← a3, q1, q4] at w3; omega
    · omega
  · refine Or.inr ?_
    by_cases e : (j : Int) + 1 = lz
    · refine Or.inl ⟨by omega, by omega, fun i i1 i2 => ?_⟩
      by_cases e2 : i = ks
      · rw [e2, addF_at (by omega), h1]
      · rw [addF_ne e2]
        have := h2 i.toNat (by omega)
        rw [show ((i.toNat : Nat) : Int) = i by omega] at this; exact this
    · refine Or.inr ?_
      rcases h3 with ⟨a1, a2, a3⟩ | ⟨a1, a2⟩
      · refine Or.inl ⟨a2, ?_⟩
        by_cases e2 : j < m
        · left; rw [a3]; exact w2 j e2
        · have e3 : j = m := by omega
          right; rw [a3, e3]; exact w4 (by omega)
      · exact Or.inr ⟨a2, w5 j a1 (by omega)⟩
