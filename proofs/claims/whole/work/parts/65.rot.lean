/-! ===== both worlds side by side: the class's 57 cells, then the reference's 14 ===== -/
def rt (k : Nat) : Nat := if k < 14 then k + 57 else if k < 71 then k - 14 else k
def rti (k : Nat) : Nat := if k < 57 then k + 14 else if k < 71 then k - 57 else k
theorem rt_i (k : Nat) : rt (rti k) = k := by
  unfold rt rti
  by_cases h : k < 57
  · rw [if_pos h, if_neg (by omega), if_pos (by omega)]; omega
  · rw [if_neg h]
    by_cases h2 : k < 71
    · rw [if_pos h2, if_pos (by omega)]; omega
    · rw [if_neg h2, if_neg (by omega), if_neg (by omega)]
theorem rti_t (k : Nat) : rti (rt k) = k := by
  unfold rt rti
  by_cases h : k < 14
  · rw [if_pos h, if_neg (by omega), if_pos (by omega)]; omega
  · rw [if_neg h]
    by_cases h2 : k < 71
    · rw [if_pos h2, if_pos (by omega)]; omega
    · rw [if_neg h2, if_neg (by omega), if_neg (by omega)]
theorem rt_lt {k : Nat} (h : k < 71) : rt k < 71 := by
  unfold rt
  by_cases h1 : k < 14
  · rw [if_pos h1]; omega
  · rw [if_neg h1, if_pos h]; omega
theorem rti_lt {k : Nat} (h : k < 71) : rti k < 71 := by
  unfold rti
  by_cases h1 : k < 57
  · rw [if_pos h1]; omega
  · rw [if_neg h1, if_pos h]; omega
def rG (G : zG) : zG := (G.l, G.D, G.cy, fun k => G.ad (rt k))
theorem rot_l {a b : List va_E} (ha : a.length = 57) (hb : b.length = 14) (k : Nat) : (b ++ a)[k]? = (a ++ b)[rt k]? := by
  unfold rt
  by_cases h : k < 14
  · rw [if_pos h, List.getElem?_append_left (by omega), List.getElem?_append_right (by omega), ha]
    congr 1
  · rw [if_neg h, List.getElem?_append_right (by omega), hb]
    by_cases h2 : k < 71
    · rw [if_pos h2, List.getElem?_append_left (by omega)]
    · rw [if_neg h2, List.getElem?_append_right (by omega), List.getElem?_eq_none (by omega), List.getElem?_eq_none (by omega)]
theorem rot_w {G : zG} {a b : List va_E} (ha : a.length = 57) (hb : b.length = 14) (k : Nat) : (zw (rG G).ad (b ++ a))[k]? = (zw G.ad (a ++ b))[rt k]? := by
  rw [zw_get, zw_get, rot_l ha hb k]; rfl
theorem rot_w' {G : zG} {a b : List va_E} (ha : a.length = 57) (hb : b.length = 14) (k : Nat) : (zw G.ad (a ++ b))[k]? = (zw (rG G).ad (b ++ a))[rti k]? := by
  rw [rot_w ha hb, rt_i]
theorem rot_P {G : zG} {a b : List va_E} (ha : a.length = 57) (hb : b.length = 14) {D : va_G} {cl : List vw_C} {H : Heap} : va_P D cl (zw (rG G).ad (b ++ a)) H ↔ va_P D cl (zw G.ad (a ++ b)) H := by
  constructor
  · intro h k q e
    rw [rot_w' ha hb] at e; exact h _ q e
  · intro h k q e
    rw [rot_w ha hb] at e; exact h _ q e
theorem rot_D {G : zG} {a b : List va_E} (ha : a.length = 57) (hb : b.length = 14) {A : Nat → Prop} : va_D A (zw (rG G).ad (b ++ a)) ↔ va_D A (zw G.ad (a ++ b)) := by
  constructor
  · intro h
    refine ⟨fun i j p q e1 e2 e3 => ?_, fun k q e => ?_⟩
    · rw [rot_w' ha hb] at e1 e2
      have := h.1 _ _ p q e1 e2 e3
      rw [← rt_i i, this, rt_i]
    · rw [rot_w' ha hb] at e; exact h.2 _ q e
  · intro h
    refine ⟨fun i j p q e1 e2 e3 => ?_, fun k q e => ?_⟩
    · rw [rot_w ha hb] at e1 e2
      have := h.1 _ _ p q e1 e2 e3
      rw [← rti_t i, this, rti_t]
    · rw [rot_w ha hb] at e; exact h.2 _ q e
theorem rot_A {G : zG} : zA (rG G).ad 71 = zA G.ad 71 := by
  funext q
  apply propext
  constructor
  · rintro ⟨k, h, e⟩; exact ⟨rt k, rt_lt h, e⟩
  · rintro ⟨k, h, e⟩; exact ⟨rti k, rti_lt h, by rw [e]; show G.ad k = G.ad (rt (rti k)); rw [rt_i]⟩
theorem rot_B {G : zG} {a b : List va_E} (ha : a.length = 57) (hb : b.length = 14) : zB (rG G) (b ++ a) = zB G (a ++ b) := by
  funext U
  unfold zB
  apply propext
  constructor
  · rintro ⟨h1, h2, h3, h4⟩; exact ⟨(rot_P ha hb).mp h1, h2, h3, (rot_D ha hb).mp h4⟩
  · rintro ⟨h1, h2, h3, h4⟩; exact ⟨(rot_P ha hb).mpr h1, h2, h3, (rot_D ha hb).mpr h4⟩
theorem rot_Q {G : zG} {Q' Q : Option Value → List va_E → Prop} (h1 : ∀ r cs, Q' r cs → ∃ a b, cs = b ++ a ∧ a.length = 57 ∧ b.length = 14 ∧ Q r (a ++ b)) (h2 : ∀ r cs, Q r cs → ∃ a b, cs = a ++ b ∧ a.length = 57 ∧ b.length = 14 ∧ Q' r (b ++ a)) : zQc (rG G) 71 Q' = zQc G 71 Q := by
  funext x st oc t
  unfold zQc
  rw [rot_A]
  apply propext
  constructor
  · rintro ⟨⟨r, cs, e, hq, hp, hd⟩, hf⟩
    obtain ⟨a, b, rfl, ha, hb, hq2⟩ := h1 r cs hq
    exact ⟨⟨r, a ++ b, e, hq2, (rot_P ha hb).mp hp, (rot_D ha hb).mp hd⟩, hf⟩
  · rintro ⟨⟨r, cs, e, hq, hp, hd⟩, hf⟩
    obtain ⟨a, b, rfl, ha, hb, hq2⟩ := h2 r cs hq
    exact ⟨⟨r, b ++ a, e, hq2, (rot_P ha hb).mpr hp, (rot_D ha hb).mpr hd⟩, hf⟩
theorem zMet.rot {G : zG} {y : MethodName} {cc : ByteArray} {nL : Nat} {ret : Option FieldType} {fr lo : Nat} {av : List Value} {a b : List va_E} {Q' Q : Option Value → List va_E → Prop} (h : zMet (rG G) y cc nL ret fr lo av (b ++ a) Q') (ha : a.length = 57) (hb : b.length = 14) (h1 : ∀ r cs, Q' r cs → ∃ a b, cs = b ++ a ∧ a.length = 57 ∧ b.length = 14 ∧ Q r (a ++ b)) (h2 : ∀ r cs, Q r cs → ∃ a b, cs = a ++ b ∧ a.length = 57 ∧ b.length = 14 ∧ Q' r (b ++ a)) : zMet G y cc nL ret fr lo av (a ++ b) Q := by
  unfold zMet at h ⊢
  rw [show (b ++ a).length = 71 by rw [List.length_append]; omega, rot_B ha hb, rot_Q h1 h2, rot_A] at h
  rw [show (a ++ b).length = 71 by rw [List.length_append]; omega]
  exact h
/-- the plain case: an answer, and cells of the reference -/
theorem zMet.rotO {G : zG} {y : MethodName} {cc : ByteArray} {nL : Nat} {ret : Option FieldType} {fr lo : Nat} {av : List Value} {a b b2 : List va_E} {v : Value} (h : zMet (rG G) y cc nL ret fr lo av (b ++ a) (zO v (b2 ++ a))) (ha : a.length = 57) (hb : b.length = 14) (hb2 : b2.length = 14) : zMet G y cc nL ret fr lo av (a ++ b) (zO v (a ++ b2)) :=
  zMet.rot h ha hb (fun r cs q => ⟨a, b2, q.2, ha, hb2, q.1, rfl⟩) (fun r cs q => ⟨a, b2, q.2, ha, hb2, q.1, rfl⟩)
