theorem tmz_eq {k g : Int → Int} (h3 : k 3 = g 191) (h4 : k 4 = g 192) : tmz k = ofM g := by unfold tmz ofM; rw [h3, h4]
theorem plc_mv {f g sf mf : Int → Int} {L c sl m n a : Int} (h : relT f L c sf sl mf g) (hm : m < 7) (hc : c ≤ la L) : plc f L c mf m n a = ldN (lt g) (g 0) m n.toNat (g 61) := by
  rw [plc_3 hm, show min c (la L) = c by omega, ldN_cg h.2.1, h.1, h.2.2.1]
theorem plc_fd {f g sf mf : Int → Int} {L c sl m n a : Int} (h : relT f L c sf sl mf g) (hm : m = 7 ∨ m = 8) (hc : 0 ≤ c ∧ c ≤ la L) : plc f L c mf m n a = fb (lt g) (g 0) a n (g 61 + 1) 0 := by
  unfold plc
  rw [if_neg (by omega), if_pos (by omega), show min c (la L) = c by omega, fb_cg h.2.1 a n (c + 1) 0 (by omega), h.1, h.2.2.1]
theorem plc_mk {f g sf mf : Int → Int} {L c sl n a : Int} (h : relT f L c sf sl mf g) (hL : 0 ≤ L) (hmf : ∀ j, -1 ≤ mf j ∧ mf j ≤ 60) : plc f L c mf 9 n a = if 0 ≤ a ∧ a < 4 ∧ g (124 + a) ≠ -4 then min (g (124 + a)) (g 0) else -1 := by
  unfold plc pmk
  rw [if_pos rfl, h.1]
  by_cases e : 0 ≤ a ∧ a < 4
  · have e1 := h.2.2.2.2.2 a e.1 e.2
    have e2 := hmf a
    by_cases z : mf a = -1
    · rw [if_pos z] at e1
      rw [if_neg (fun q => q.2.2 z), if_neg (fun q => q.2.2 e1)]
    · rw [if_neg z] at e1
      rw [if_pos ⟨e.1, e.2, z⟩, if_pos ⟨e.1, e.2, by omega⟩, e1]
  · rw [if_neg (fun q => e ⟨q.1, q.2.1⟩), if_neg (fun q => e ⟨q.1, q.2.1⟩)]
