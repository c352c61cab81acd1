theorem ctT_in {f : Int → Int} {L a b : Int} (h : 0 ≤ a ∧ a ≤ b ∧ b ≤ L ∧ L ≤ 60) : 0 ≤ (ctT f L a b).2 ∧ (ctT f L a b).2 ≤ 60 := by
  unfold ctT; split
  · dsimp only; omega
  · dsimp only; omega
theorem stS_in {f sf : Int → Int} {L sl a b : Int} (h : 0 ≤ a ∧ a ≤ b ∧ b ≤ L ∧ L ≤ 60) (hs : 0 ≤ sl ∧ sl ≤ 60) : 0 ≤ (stS f sf sl a b).2 ∧ (stS f sf sl a b).2 ≤ 60 := by
  unfold stS; split
  · dsimp only; omega
  · exact hs
/-- a range cut: class = reference -/
theorem relT_rd {f g sf mf : Int → Int} {L c sl a b x : Int} (h : relT f L c sf sl mf g) (ha : 0 ≤ a ∧ a ≤ b ∧ b ≤ L ∧ L ≤ 60) (hs : 0 ≤ sl ∧ sl ≤ 60) (hd : g 190 ≠ 121) : relT (ctT f L a b).1 (ctT f L a b).2 x (stS f sf sl a b).1 (stS f sf sl a b).2 mf (zup (rgB g a b) 61 x) := by
  have h1 := relT_kp h ⟨ha.1, ha.2.1, ha.2.2.1⟩ ha.2.2.2
  have h2 := relT_ct h1 ⟨ha.1, ha.2.1, ha.2.2.1⟩ ha.2.2.2 _ rfl
  have e : rgB g a b = if a < b then ctG (rgA g a b) a b else rgA g a b := by
    unfold rgB
    by_cases c1 : a < b
    · rw [if_pos ⟨hd, c1⟩, if_pos c1]
    · rw [if_neg (fun q => c1 q.2), if_neg c1]
  rw [e]
  exact relT_mv h2 (fun j hj => zup_n (by omega)) (ctT_in ha) (stS_in (f := f) (sf := sf) ha hs) zup_s
/-- a range kept only -/
theorem relT_ry {f g sf mf : Int → Int} {L c sl a b x : Int} (h : relT f L c sf sl mf g) (ha : 0 ≤ a ∧ a ≤ b ∧ b ≤ L ∧ L ≤ 60) (hs : 0 ≤ sl ∧ sl ≤ 60) (hd : g 190 = 121) : relT f L x (stS f sf sl a b).1 (stS f sf sl a b).2 mf (zup (rgB g a b) 61 x) := by
  have h1 := relT_kp h ⟨ha.1, ha.2.1, ha.2.2.1⟩ ha.2.2.2
  have e : rgB g a b = rgA g a b := by unfold rgB; rw [if_neg (fun q => q.1 hd)]
  rw [e]
  exact relT_mv h1 (fun j hj => zup_n (by omega)) ⟨by omega, ha.2.2.2⟩ (stS_in (f := f) (sf := sf) ha hs) zup_s
