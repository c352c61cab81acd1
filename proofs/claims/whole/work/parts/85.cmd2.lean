/-! ===== a key of a command: all cases ===== -/
section CN
variable {f pf pl pc k sf mf : Int → Int} {L c nx sz sl pla fro to x : Int} {s : zM}
abbrev mdR (f : Int → Int) (L c : Int) (pf pl pc : Int → Int) (nx sz : Int) (k sf : Int → Int) (sl : Int) (mf : Int → Int) (s : zM) : Prop :=
  relT f L c sf sl mf (sG s) ∧ (∀ j, rng (sG s j)) ∧ (∀ j, rng (sH s j)) ∧ (0 ≤ L ∧ L ≤ 60) ∧ (0 ≤ c ∧ c ≤ la L) ∧ (0 ≤ sl ∧ sl ≤ 60) ∧ (∀ j, -1 ≤ mf j ∧ mf j ≤ 60) ∧ sG s 62 = 0 ∧ relP pf pl pc nx sz (sU s) (sH s) ∧ ((0 ≤ sG s 191 ∧ sG s 191 ≤ 99) ∧ (0 ≤ sG s 192 ∧ sG s 192 ≤ 99)) ∧ (0 ≤ nx ∧ nx < 8) ∧ (0 ≤ sz ∧ sz ≤ 8) ∧ (∀ j, (0 ≤ pl j ∧ pl j ≤ 60) ∧ 0 ≤ pc j ∧ pc j ≤ la (pl j))
/-- a motion key: where figures and deeds have been dealt with -/
theorem cm_mo (M : mdR f L c pf pl pc nx sz k sf sl mf s) (h3 : k 3 = sG s 191) (h4 : k 4 = sG s 192) (h2 : k 2 = sG s 190) (hv : sG s 190 = 0 ∨ vrb (sG s 190)) (h193 : sG s 193 = 0) (hx : 0 ≤ x ∧ x ≤ 126) (hf : ¬ ((49 ≤ x ∧ x ≤ 57) ∨ (x = 48 ∧ 0 < sG s (cmI (sG s))))) (hno : mOf x = -1 → cmM s x = (-2, s)) : cmR f L c pf pl pc nx sz k sf sl mf pla fro to x s (tkM k x) (cmM s x) := by
  obtain ⟨hT, hr, hrH, hL, hc, hs, hmf, h62, hP, h9, hnx, hsz, hplc⟩ := M
  have hmo := mOf_mo x
  by_cases e1 : mOf x = -1
  · rw [tkM_1 e1]
    exact Or.inr (Or.inl ⟨rfl, hno e1⟩)
  · by_cases e2 : moM x = -4
    · have e3 := hmo.2 e2
      have hc1 : cmM s x = (1, (sU s, zup (sG s) 193 x, sH s)) := by
        unfold cmM
        rw [if_neg (by omega), if_neg hf, if_neg (fun q => q e2), if_pos (by omega)]
      rw [tkM_3 e1 (by omega), hc1]
      refine Or.inl ⟨rfl, _, rfl, ?_, fun j hj => zup_n (by omega), zup_rng hr (by omega), ?_⟩
      · refine ⟨by simp only [zup_at]; simpa using h3, by simp only [zup_at]; simpa using h4, ?_⟩
        have g190 : zup (sG s) 193 x 190 = sG s 190 := zup_n (by omega)
        have g193 : zup (sG s) 193 x 193 = x := zup_s
        have k1 : zup (zup (zup k 5 1) 6 (mOf x)) 1 (if mOf x = 9 then 4 else 3) 1 = (if mOf x = 9 then 4 else 3) := zup_s
        have k2 : zup (zup (zup k 5 1) 6 (mOf x)) 1 (if mOf x = 9 then 4 else 3) 2 = k 2 := by rw [zup_n (by omega), zup_n (by omega), zup_n (by omega)]
        have k5 : zup (zup (zup k 5 1) 6 (mOf x)) 1 (if mOf x = 9 then 4 else 3) 5 = 1 := by rw [zup_n (by omega), zup_n (by omega), zup_s]
        have k6 : zup (zup (zup k 5 1) 6 (mOf x)) 1 (if mOf x = 9 then 4 else 3) 6 = mOf x := by rw [zup_n (by omega), zup_s]
        rw [g190, g193]
        dsimp only
        rw [k1, k2, k5, k6]
        by_cases z : x = 39
        · have z2 : mOf x = 9 := by rw [e3]; omega
          rw [if_pos z2]
          exact Or.inr (Or.inr (Or.inr (Or.inr (Or.inl ⟨rfl, h2, rfl, hv, z, z2⟩))))
        · have z2 : mOf x ≠ 9 := by rw [e3]; omega
          rw [if_neg z2]
          refine Or.inr (Or.inr (Or.inr (Or.inl ⟨rfl, h2, rfl, hv, ?_⟩)))
          omega
      · rw [zup_n (by omega), zup_n (by omega)]; exact h9
    · have e3 := hmo.1 e2
      have hc1 : cmM s x = mvM s (moM x) := by
        unfold cmM
        rw [if_neg (by omega), if_neg hf, if_pos e2]
      rw [tkM_2 e1 (by omega), hc1, e3.1]
      have := out_mv (pla := pla) (fro := fro) (to := to) (k := zup (zup k 5 1) 6 (moM x)) (m := moM x) hT hr hL hc hs (by rw [zup_n (by omega), zup_n (by omega)]; exact h2) hv h62 hP (by rw [zup_n (by omega), zup_s]) zup_s (by omega) (by rw [zup_n (by omega), zup_n (by omega)]; exact h3) (by rw [zup_n (by omega), zup_n (by omega)]; exact h4)
      exact Or.inr (Or.inr (Or.inr ⟨rfl, this.1, this.2⟩))
theorem amO_0 {k : Int → Int} (h : k 5 = 0) : amO f L c mf k = 1 := amO_5 (by omega) (by omega) (by omega) (by omega)
set_option maxHeartbeats 1000000 in
theorem cm_1 (M : mdR f L c pf pl pc nx sz k sf sl mf s) (h3 : k 3 = sG s 191) (h4 : k 4 = sG s 192) (h1 : k 1 = 0) (h2 : k 2 = 0) (h5 : k 5 = 0) (h190 : sG s 190 = 0) (h193 : sG s 193 = 0) (hx : 0 ≤ x ∧ x ≤ 126) (h46 : x ≠ 46) : cmR f L c pf pl pc nx sz k sf sl mf pla fro to x s (tkA k x) (cmM s x) := by
  obtain ⟨hT, hr, hrH, hL, hc, hs, hmf, h62, hP, h9, hnx, hsz, hplc⟩ := id M
  have hla := la_in hL.1
  have e61 : sG s 61 = c := hT.2.2.1
  have e0 : sG s 0 = L := hT.1
  have eI : cmI (sG s) = 191 := by unfold cmI; rw [if_pos h190]
  have htm := tmz_eq h3 h4
  have ht := tmz_in (k := k) (by omega) (by omega)
  rw [tkA_1 h1]
  by_cases c1 : isFg x (k 3)
  · have hc1 : cmM s x = (1, (sU s, zup (sG s) 191 (wFg (k 3) x), sH s)) := by
      unfold cmM wFg
      rw [if_neg (by omega), eI, if_pos (by omega), h3, show sG s 191 * 10 = 10 * sG s 191 by omega]
    have hw := wFg_in (n := k 3) (by omega) hx c1
    rw [tkV_1 c1, hc1]
    refine Or.inl ⟨rfl, _, rfl, ⟨?_, ?_, Or.inl ⟨?_, ?_, ?_, ?_, ?_⟩⟩, fun j hj => zup_n (by omega), zup_rng hr (by omega), ?_⟩
    · show zup k 3 (wFg (k 3) x) 3 = _; rw [zup_s, zup_s]
    · show zup k 3 (wFg (k 3) x) 4 = _; rw [zup_n (by omega), zup_n (by omega)]; exact h4
    · show zup k 3 (wFg (k 3) x) 1 = _; rw [zup_n (by omega)]; exact h1
    · show zup k 3 (wFg (k 3) x) 2 = _; rw [zup_n (by omega)]; exact h2
    · show zup k 3 (wFg (k 3) x) 5 = _; rw [zup_n (by omega)]; exact h5
    · rw [zup_n (by omega)]; exact h190
    · rw [zup_n (by omega)]; exact h193
    · rw [zup_s, zup_n (by omega)]; omega
  have hf : ¬ ((49 ≤ x ∧ x ≤ 57) ∨ (x = 48 ∧ 0 < sG s (cmI (sG s)))) := by rw [eI]; omega
  -- where the reference comes to deed
  have hde : (x ≠ 104 ∧ x ≠ 108 ∧ x ≠ 48 ∧ x ≠ 36 ∧ x ≠ 119 ∧ x ≠ 98 ∧ x ≠ 101) → (x ≠ 102 ∧ x ≠ 116 ∧ x ≠ 39) → cmM s x = deM s x := fun q1 q2 => by
    unfold cmM
    rw [if_neg (by omega), if_neg hf, if_neg (fun q => q (moM_no q1)), if_neg (by omega), if_pos h190]
  by_cases c2 : x = 100 ∨ x = 121 ∨ x = 99
  · have hc1 : cmM s x = (1, (sU s, zup (sG s) 190 x, sH s)) := by
      rw [hde (by omega) (by omega)]; unfold deM; rw [if_pos c2]
    rw [tkV_2 c1 c2, hc1]
    refine Or.inl ⟨rfl, _, rfl, ⟨?_, ?_, Or.inr (Or.inl ⟨?_, ?_, ?_, ?_, ?_⟩)⟩, fun j hj => zup_n (by omega), zup_rng hr (by omega), ?_⟩
    · show zup (zup k 2 x) 1 1 3 = _; rw [zup_n (by omega), zup_n (by omega), zup_n (by omega)]; exact h3
    · show zup (zup k 2 x) 1 1 4 = _; rw [zup_n (by omega), zup_n (by omega), zup_n (by omega)]; exact h4
    · show zup (zup k 2 x) 1 1 1 = 1; exact zup_s
    · show zup (zup k 2 x) 1 1 2 = _; rw [zup_n (by omega), zup_s, zup_s]
    · show zup (zup k 2 x) 1 1 5 = _; rw [zup_n (by omega), zup_n (by omega)]; exact h5
    · rw [zup_s]; exact c2
    · rw [zup_n (by omega)]; exact h193
    · rw [zup_n (by omega), zup_n (by omega)]; exact h9
  by_cases c3 : x = 114
  · have hc1 : cmM s x = (1, (sU s, zup (sG s) 193 x, sH s)) := by
      rw [hde (by omega) (by omega)]; unfold deM
      rw [if_neg (by omega), if_neg (by omega), if_neg (by omega), if_neg (by omega), if_neg (by omega), if_neg (by omega), if_neg (by omega), if_neg (by omega), if_neg (by omega), if_neg (by omega), if_neg (by omega), if_pos (by omega)]
    rw [tkV_3 c1 c2 c3, hc1]
    refine Or.inl ⟨rfl, _, rfl, ⟨?_, ?_, Or.inr (Or.inr (Or.inr (Or.inr (Or.inr (Or.inl ⟨?_, ?_, ?_, ?_, ?_⟩)))))⟩, fun j hj => zup_n (by omega), zup_rng hr (by omega), ?_⟩
    · show zup (zup k 2 x) 1 3 3 = _; rw [zup_n (by omega), zup_n (by omega), zup_n (by omega)]; exact h3
    · show zup (zup k 2 x) 1 3 4 = _; rw [zup_n (by omega), zup_n (by omega), zup_n (by omega)]; exact h4
    · show zup (zup k 2 x) 1 3 1 = 3; exact zup_s
    · show zup (zup k 2 x) 1 3 2 = _; rw [zup_n (by omega), zup_s]; exact c3
    · show zup (zup k 2 x) 1 3 5 = _; rw [zup_n (by omega), zup_n (by omega)]; exact h5
    · rw [zup_n (by omega)]; exact h190
    · rw [zup_s]; exact c3
    · rw [zup_n (by omega), zup_n (by omega)]; exact h9
  by_cases c4 : x = 109
  · have hc1 : cmM s x = (1, (sU s, zup (sG s) 193 x, sH s)) := by
      rw [hde (by omega) (by omega)]; unfold deM
      rw [if_neg (by omega), if_neg (by omega), if_neg (by omega), if_neg (by omega), if_neg (by omega), if_neg (by omega), if_neg (by omega), if_neg (by omega), if_neg (by omega), if_neg (by omega), if_neg (by omega), if_pos (by omega)]
    rw [tkV_4 c1 c2 c3 c4, hc1]
    refine Or.inl ⟨rfl, _, rfl, ⟨?_, ?_, Or.inr (Or.inr (Or.inr (Or.inr (Or.inr (Or.inr ⟨?_, ?_, ?_, ?_, ?_⟩)))))⟩, fun j hj => zup_n (by omega), zup_rng hr (by omega), ?_⟩
    · show zup (zup k 2 x) 1 4 3 = _; rw [zup_n (by omega), zup_n (by omega), zup_n (by omega)]; exact h3
    · show zup (zup k 2 x) 1 4 4 = _; rw [zup_n (by omega), zup_n (by omega), zup_n (by omega)]; exact h4
    · show zup (zup k 2 x) 1 4 1 = 4; exact zup_s
    · show zup (zup k 2 x) 1 4 2 = _; rw [zup_n (by omega), zup_s]; exact c4
    · show zup (zup k 2 x) 1 4 5 = _; rw [zup_n (by omega), zup_n (by omega)]; exact h5
    · rw [zup_n (by omega)]; exact h190
    · rw [zup_s]; exact c4
    · rw [zup_n (by omega), zup_n (by omega)]; exact h9
  by_cases c5 : x = 120
  · have hc1 : cmM s x = crM s (tmz k) := by
      rw [hde (by omega) (by omega), htm]; unfold deM; rw [if_neg (by omega), if_pos c5]
    rw [tkV_5 c1 c2 c3 c4 c5, hc1]
    have k5 : zup (zup k 2 100) 5 4 5 = 4 := zup_s
    have tm2 : tmz (zup (zup k 2 100) 5 4) = tmz k := by unfold tmz; rw [zup_n (by omega), zup_n (by omega), zup_n (by omega), zup_n (by omega)]
    have aO := amO_4 (f := f) (L := L) (c := c) (mf := mf) (k := zup (zup k 2 100) 5 4) (by omega) (by omega) (by omega) k5
    by_cases e : 0 < L
    · refine Or.inr (Or.inr (Or.inr ⟨rfl, ?_, ?_⟩))
      · show amO f L c mf (zup (zup k 2 100) 5 4) ≠ 0; rw [aO, b2z_t e]; omega
      · show outR (pfm f L c pf pl pc nx sz (zup (zup k 2 100) 5 4) sf sl mf (amP f L c mf (zup (zup k 2 100) 5 4) pla) (amF f L c mf (zup (zup k 2 100) 5 4) fro) (amT f L c mf (zup (zup k 2 100) 5 4) to) (tmz (zup (zup k 2 100) 5 4))) _ _ _ _ _ _ _ _ _ _ _ _ _
        rw [amF_4 (by omega) (by omega) (by omega) k5, amT_4 (by omega) (by omega) (by omega) k5, tm2]
        exact out_x hT hr ⟨e, hL.2⟩ (by omega) hs ht.1 (by rw [zup_n (by omega), zup_s]) h190 h62
    · refine Or.inr (Or.inr (Or.inl ⟨rfl, ?_, ?_⟩))
      · show amO f L c mf (zup (zup k 2 100) 5 4) = 0; rw [aO, b2z_f e]
      · unfold crM; rw [if_pos (by omega)]
  by_cases c6 : x = 126 ∨ x = 112 ∨ x = 80 ∨ x = 105 ∨ x = 97 ∨ x = 73 ∨ x = 65 ∨ x = 117
  · rw [tkV_6 c1 c2 c3 c4 c5 c6, hde (by omega) (by omega)]
    have k5 : zup k 2 x 5 = 0 := by rw [zup_n (by omega)]; exact h5
    have k2 : zup k 2 x 2 = x := zup_s
    have tm2 : tmz (zup k 2 x) = tmz k := by unfold tmz; rw [zup_n (by omega), zup_n (by omega)]
    refine Or.inr (Or.inr (Or.inr ⟨rfl, by show amO f L c mf (zup k 2 x) ≠ 0; rw [amO_0 k5]; omega, ?_⟩))
    show outR (pfm f L c pf pl pc nx sz (zup k 2 x) sf sl mf (amP f L c mf (zup k 2 x) pla) (amF f L c mf (zup k 2 x) fro) (amT f L c mf (zup k 2 x) to) (tmz (zup k 2 x))) _ _ _ _ _ _ _ _ _ _ _ _ _
    rw [tm2]
    generalize amP f L c mf (zup k 2 x) pla = P
    generalize amF f L c mf (zup k 2 x) fro = F
    generalize amT f L c mf (zup k 2 x) to = T
    unfold deM
    rw [← htm, if_neg (by omega), if_neg (by omega)]
    by_cases d1 : x = 126
    · rw [if_pos d1]; exact out_w hT hr hL (by omega) hs ⟨ht.1, ht.2.1⟩ (by omega) h62
    rw [if_neg d1]
    by_cases d2 : x = 112
    · rw [if_pos d2]; exact out_p hT hr hL hc hs ⟨ht.1, ht.2.1⟩ (by omega) h62
    rw [if_neg d2]
    by_cases d3 : x = 80
    · rw [if_pos d3]; exact out_P hT hr hL hc hs ⟨ht.1, ht.2.1⟩ (by omega) h62
    rw [if_neg d3]
    by_cases d4 : x = 105
    · rw [if_pos d4, e61]
      exact out_i hT hr hL hs (by omega) (pfm_9 (by omega) (by omega) (by omega) (by omega) (by omega) (by omega) (by omega) (by omega) (by omega))
    rw [if_neg d4]
    by_cases d5 : x = 97
    · rw [if_pos d5, e61, e0, show (if L = 0 then 0 else c + 1) = min (c + 1) L by omega]
      exact out_i hT hr hL hs (by omega) (pfm_10 (by omega) (by omega) (by omega) (by omega) (by omega) (by omega) (by omega) (by omega) (by omega) (by omega))
    rw [if_neg d5]
    by_cases d6 : x = 73
    · rw [if_pos d6]
      exact out_i hT hr hL hs (by omega) (pfm_11 (by omega) (by omega) (by omega) (by omega) (by omega) (by omega) (by omega) (by omega) (by omega) (by omega) (by omega))
    rw [if_neg d6]
    by_cases d7 : x = 65
    · rw [if_pos d7, e0]
      exact out_i hT hr hL hs (by omega) (pfm_12 (by omega) (by omega) (by omega) (by omega) (by omega) (by omega) (by omega) (by omega) (by omega) (by omega) (by omega) (by omega))
    rw [if_neg d7, if_pos (by omega)]
    exact out_u hT hr hrH hL hs ⟨ht.1, ht.2.1⟩ rfl hnx hsz hplc (by omega) h62 hP
  · rw [tkV_7 c1 c2 c3 c4 c5 c6]
    refine cm_mo M h3 h4 (by omega) (Or.inl h190) h193 hx hf (fun q => ?_)
    have hmo := mOf_mo x
    have e1 : moM x = -4 := by
      apply Classical.byContradiction
      intro z
      have := hmo.1 z
      omega
    have e2 := hmo.2 e1
    have hne : x ≠ 102 ∧ x ≠ 116 ∧ x ≠ 39 := by
      rw [e2] at q
      refine ⟨fun z => ?_, fun z => ?_, fun z => ?_⟩ <;> subst z <;> omega
    unfold cmM
    rw [if_neg (by omega), if_neg hf, if_neg (fun z => z e1), if_neg (by omega), if_pos h190]
    unfold deM
    rw [if_neg c2, if_neg c5, if_neg (by omega), if_neg (by omega), if_neg (by omega), if_neg (by omega), if_neg (by omega), if_neg (by omega), if_neg (by omega), if_neg (by omega), if_neg h46, if_neg (by omega)]
end CN
