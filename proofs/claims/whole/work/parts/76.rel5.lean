/-- the relation gives what a key asks of the reference -/
theorem rel_okM {f : Int → Int} {L c : Int} {bf : Int → Int} {bL bc : Int} {pf pl pc : Int → Int} {nx sz : Int} {k kf : Int → Int} {ks : Int} {lf : Int → Int} {ls : Int} {sf : Int → Int} {sl : Int} {mf rf : Int → Int} {ty pla fro to : Int} {s : zM} (h : rel f L c bf bL bc pf pl pc nx sz k kf ks lf ls sf sl mf rf ty s) (ho : okD f L c bf bL bc pf pl pc nx sz k kf ks lf ls sf sl mf rf ty pla fro to) : okM s := by
  obtain ⟨r1, r2, ⟨t0, t1, t2, t3, t4, t5⟩, ⟨k0, k1, k2, k3, k4⟩, r3, r4, r5, r6, r7, r8, r9⟩ := h
  obtain ⟨o1, o2, o3, o4, o5, o6, o7, o8, o9, o10, o11, o12, o13, o14, o15, o16, o17, o18, o19, o20, o21, o22, -⟩ := ho
  have hla := la_in o2.1
  refine ⟨r1, r2, by rw [r7.1]; exact o10, by rw [t0]; exact o2, by rw [t0, t2]; omega, fun hne => ?_, r8, r9, by rw [t3]; exact o19, fun j j1 j2 => ?_, by rw [k0]; exact o15⟩
  · rw [t0, t2]
    have hty : ty = 0 := by rw [r3] at hne; omega
    have := o3.2.2 hty
    omega
  · have e := t5 (j - 124) (by omega) (by omega)
    rw [show 124 + (j - 124) = j by omega] at e
    have := o20 (j - 124)
    rw [e]
    split
    · exact Or.inl rfl
    · exact Or.inr (by omega)
