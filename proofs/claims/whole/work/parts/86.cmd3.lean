section CO
variable {f pf pl pc k sf mf : Int → Int} {L c nx sz sl pla fro to x : Int} {s : zM}
/-- behind d, y, c -/
theorem cm_2 (M : mdR f L c pf pl pc nx sz k sf sl mf s) (h3 : k 3 = sG s 191) (h4 : k 4 = sG s 192) (h1 : k 1 = 1) (h2 : k 2 = sG s 190) (h5 : k 5 = 0) (hv : vrb (sG s 190)) (h193 : sG s 193 = 0) (hx : 0 ≤ x ∧ x ≤ 126) : cmR f L c pf pl pc nx sz k sf sl mf pla fro to x s (tkA k x) (cmM s x) := by
  obtain ⟨hT, hr, hrH, hL, hc, hs, hmf, h62, hP, h9, hnx, hsz, hplc⟩ := id M
  have hla := la_in hL.1
  have e0 : sG s 0 = L := hT.1
  have h190 : sG s 190 ≠ 0 := by omega
  have eI : cmI (sG s) = 192 := by unfold cmI; rw [if_neg h190]
  rw [tkA_2 (by omega) h1]
  by_cases c1 : isFg x (k 4)
  · have hc1 : cmM s x = (1, (sU s, zup (sG s) 192 (wFg (k 4) x), sH s)) := by
      unfold cmM wFg
      rw [if_neg (by omega), eI, if_pos (by omega), h4, show sG s 192 * 10 = 10 * sG s 192 by omega]
    have hw := wFg_in (n := k 4) (by omega) hx c1
    rw [tkR_1 c1, hc1]
    refine Or.inl ⟨rfl, _, rfl, ⟨?_, ?_, Or.inr (Or.inl ⟨?_, ?_, ?_, ?_, ?_⟩)⟩, fun j hj => zup_n (by omega), zup_rng hr (by omega), ?_⟩
    · show zup k 4 (wFg (k 4) x) 3 = _; rw [zup_n (by omega), zup_n (by omega)]; exact h3
    · show zup k 4 (wFg (k 4) x) 4 = _; rw [zup_s, zup_s]
    · show zup k 4 (wFg (k 4) x) 1 = _; rw [zup_n (by omega)]; exact h1
    · show zup k 4 (wFg (k 4) x) 2 = _; rw [zup_n (by omega), zup_n (by omega)]; exact h2
    · show zup k 4 (wFg (k 4) x) 5 = _; rw [zup_n (by omega)]; exact h5
    · rw [zup_n (by omega)]; exact hv
    · rw [zup_n (by omega)]; exact h193
    · rw [zup_s, zup_n (by omega)]; omega
  have hf : ¬ ((49 ≤ x ∧ x ≤ 57) ∨ (x = 48 ∧ 0 < sG s (cmI (sG s)))) := by rw [eI]; omega
  by_cases c2 : x = k 2
  · have hx2 : x = 100 ∨ x = 121 ∨ x = 99 := by rw [c2, h2]; exact hv
    have hc1 : cmM s x = rgM s 0 L := by
      unfold cmM
      rw [if_neg (by omega), if_neg hf, if_neg (fun q => q (moM_no (by omega))), if_neg (by omega), if_neg h190, if_pos (by omega), e0]
    rw [tkR_2 c1 c2, hc1]
    have k5 : zup k 5 5 5 = 5 := zup_s
    refine Or.inr (Or.inr (Or.inr ⟨rfl, ?_, ?_⟩))
    · show amO f L c mf (zup k 5 5) ≠ 0
      rw [amO_5 (by omega) (by omega) (by omega) (by omega)]; omega
    · show outR (pfm f L c pf pl pc nx sz (zup k 5 5) sf sl mf (amP f L c mf (zup k 5 5) pla) (amF f L c mf (zup k 5 5) fro) (amT f L c mf (zup k 5 5) to) (tmz (zup k 5 5))) _ _ _ _ _ _ _ _ _ _ _ _ _
      rw [amF_5 (by omega) (by omega) (by omega) (by omega) k5, amT_5 (by omega) (by omega) (by omega) (by omega) k5]
      have k2 : zup k 5 5 2 = sG s 190 := by rw [zup_n (by omega)]; exact h2
      exact out_rg hT hr hL.2 hs (by omega) (by rw [k2]; exact hv) k2.symm h62 hP
  by_cases c3 : x = 105 ∨ x = 97
  · have hc1 : cmM s x = (1, (sU s, zup (sG s) 193 x, sH s)) := by
      unfold cmM
      rw [if_neg (by omega), if_neg hf, if_neg (fun q => q (moM_no (by omega))), if_neg (by omega), if_neg h190, if_neg (by omega), if_pos c3]
    rw [tkR_3 c1 c2 c3, hc1]
    refine Or.inl ⟨rfl, _, rfl, ⟨?_, ?_, Or.inr (Or.inr (Or.inl ⟨?_, ?_, ?_, ?_, ?_⟩))⟩, fun j hj => zup_n (by omega), zup_rng hr (by omega), ?_⟩
    · show zup (zup k 7 (if x = 97 then 1 else 0)) 1 2 3 = _; rw [zup_n (by omega), zup_n (by omega), zup_n (by omega)]; exact h3
    · show zup (zup k 7 (if x = 97 then 1 else 0)) 1 2 4 = _; rw [zup_n (by omega), zup_n (by omega), zup_n (by omega)]; exact h4
    · show zup (zup k 7 (if x = 97 then 1 else 0)) 1 2 1 = 2; exact zup_s
    · show zup (zup k 7 (if x = 97 then 1 else 0)) 1 2 2 = _; rw [zup_n (by omega), zup_n (by omega), zup_n (by omega)]; exact h2
    · show zup (zup k 7 (if x = 97 then 1 else 0)) 1 2 5 = _; rw [zup_n (by omega), zup_n (by omega)]; exact h5
    · rw [zup_n (by omega)]; exact hv
    · show (zup (sG s) 193 x 193 = 105 ∧ zup (zup k 7 (if x = 97 then 1 else 0)) 1 2 7 = 0) ∨ (zup (sG s) 193 x 193 = 97 ∧ zup (zup k 7 (if x = 97 then 1 else 0)) 1 2 7 = 1)
      rw [zup_s, zup_n (by omega), zup_s]; omega
    · rw [zup_n (by omega), zup_n (by omega)]; exact h9
  · rw [tkR_4 c1 c2 c3]
    refine cm_mo M h3 h4 h2 (Or.inr hv) h193 hx hf (fun q => ?_)
    have hmo := mOf_mo x
    have e1 : moM x = -4 := by
      apply Classical.byContradiction
      intro z
      have := hmo.1 z
      omega
    have e2 := hmo.2 e1
    have hne : x ≠ 102 ∧ x ≠ 116 ∧ x ≠ 39 := by
      rw [e2] at q
      refine ⟨fun z => ?_, fun z => ?_, fun z => ?_⟩ <;> subst z <;> omega
    unfold cmM
    rw [if_neg (by omega), if_neg hf, if_neg (fun z => z e1), if_neg (by omega), if_neg h190, if_neg (by omega), if_neg c3]
theorem cm_3 (M : mdR f L c pf pl pc nx sz k sf sl mf s) (h1 : k 1 = 2) (h2 : k 2 = sG s 190) (hv : vrb (sG s 190)) (hw : (sG s 193 = 105 ∧ k 7 = 0) ∨ (sG s 193 = 97 ∧ k 7 = 1)) : cmR f L c pf pl pc nx sz k sf sl mf pla fro to x s (tkA k x) (cmM s x) := by
  obtain ⟨hT, hr, hrH, hL, hc, hs, hmf, h62, hP, h9, hnx, hsz, hplc⟩ := id M
  have hc1 : cmM s x = obM s (k 7) x := by
    unfold cmM waM
    rw [if_pos (by omega), if_neg (by omega), if_neg (by omega), if_neg (by omega), if_neg (by omega)]
    congr 1
    rcases hw with ⟨w1, w2⟩ | ⟨w1, w2⟩
    · rw [w2, b2z_f (by omega)]
    · rw [w2, b2z_t w1]
  rw [tkA_3 (by omega) (by omega) h1, hc1]
  by_cases c1 : x ≠ 119 ∧ x ≠ 98
  · rw [tkO_1 c1]
    refine Or.inr (Or.inl ⟨rfl, ?_⟩)
    unfold obM; rw [if_neg c1.1, if_neg c1.2]
  · rw [tkO_2 c1]
    have k2 : zup k 5 (if x = 119 then 2 else 3) 2 = sG s 190 := by rw [zup_n (by omega)]; exact h2
    have k7 : zup k 5 (if x = 119 then 2 else 3) 7 = k 7 := zup_n (by omega)
    have k5 : zup k 5 (if x = 119 then 2 else 3) 5 = (if x = 119 then 2 else 3) := zup_s
    rcases out_ob (pla := pla) (fro := fro) (to := to) (k := zup k 5 (if x = 119 then 2 else 3)) (x := x) hT hr hL hc hs k2 hv h62 hP k7 (by rw [k5]; omega) with q | q
    · exact Or.inr (Or.inr (Or.inl ⟨rfl, q.1, q.2⟩))
    · exact Or.inr (Or.inr (Or.inr ⟨rfl, q.1, q.2⟩))
theorem cm_4 (M : mdR f L c pf pl pc nx sz k sf sl mf s) (h3 : k 3 = sG s 191) (h4 : k 4 = sG s 192) (h1 : k 1 = 3) (h2 : k 2 = sG s 190) (h5 : k 5 = 1) (hv : sG s 190 = 0 ∨ vrb (sG s 190)) (hw : (sG s 193 = 102 ∧ k 6 = 7) ∨ (sG s 193 = 116 ∧ k 6 = 8)) : cmR f L c pf pl pc nx sz k sf sl mf pla fro to x s (tkA k x) (cmM s x) := by
  obtain ⟨hT, hr, hrH, hL, hc, hs, hmf, h62, hP, h9, hnx, hsz, hplc⟩ := id M
  have hc1 : cmM s x = waM s x := by unfold cmM; rw [if_pos (by omega)]
  rw [tkA_4 (by omega) (by omega) (by omega) h1, hc1]
  rcases out_fd (pla := pla) (fro := fro) (to := to) (k := zup k 8 x) (x := x) hT hr hL hc hs (by rw [zup_n (by omega)]; exact h2) hv h62 hP (by rw [zup_n (by omega)]; exact h5) zup_s (by rw [zup_n (by omega)]; exact h3) (by rw [zup_n (by omega)]; exact h4) (by rw [zup_n (by omega)]; exact hw) with q | q
  · exact Or.inr (Or.inr (Or.inl ⟨rfl, q.1, q.2⟩))
  · exact Or.inr (Or.inr (Or.inr ⟨rfl, q.1, q.2⟩))
theorem cm_5 (M : mdR f L c pf pl pc nx sz k sf sl mf s) (h1 : k 1 = 4) (h2 : k 2 = sG s 190) (h5 : k 5 = 1) (hv : sG s 190 = 0 ∨ vrb (sG s 190)) (hw : sG s 193 = 39 ∧ k 6 = 9) : cmR f L c pf pl pc nx sz k sf sl mf pla fro to x s (tkA k x) (cmM s x) := by
  obtain ⟨hT, hr, hrH, hL, hc, hs, hmf, h62, hP, h9, hnx, hsz, hplc⟩ := id M
  have hc1 : cmM s x = waM s x := by unfold cmM; rw [if_pos (by omega)]
  rw [tkA_5 (by omega) (by omega) (by omega) (by omega), hc1]
  by_cases c1 : 0 ≤ x - 97 ∧ x - 97 < 4
  · rw [if_pos c1]
    rcases out_mk (pla := pla) (fro := fro) (to := to) (k := zup k 8 (x - 97)) (x := x) hT hr hL hc hs hmf (by rw [zup_n (by omega)]; exact h2) hv h62 hP (by rw [zup_n (by omega)]; exact h5) zup_s (by omega) (by rw [zup_n (by omega)]; exact hw) with q | q
    · exact Or.inr (Or.inr (Or.inl ⟨rfl, q.1, q.2⟩))
    · exact Or.inr (Or.inr (Or.inr ⟨rfl, q.1, q.2⟩))
  · rw [if_neg c1]
    refine Or.inr (Or.inl ⟨rfl, ?_⟩)
    unfold waM
    rw [if_neg (by omega), if_pos hw.1, if_neg (fun q => c1 (by omega))]
theorem cm_6 (M : mdR f L c pf pl pc nx sz k sf sl mf s) (h3 : k 3 = sG s 191) (h4 : k 4 = sG s 192) (h1 : k 1 = 3) (h2 : k 2 = 114) (h5 : k 5 = 0) (h193 : sG s 193 = 114) (hx : 0 ≤ x ∧ x ≤ 126) : cmR f L c pf pl pc nx sz k sf sl mf pla fro to x s (tkA k x) (cmM s x) := by
  obtain ⟨hT, hr, hrH, hL, hc, hs, hmf, h62, hP, h9, hnx, hsz, hplc⟩ := id M
  have hla := la_in hL.1
  have ht := tmz_in (k := k) (by omega) (by omega)
  have htm := tmz_eq h3 h4
  have hc1 : cmM s x = rpM s x (tmz k) := by
    unfold cmM waM
    rw [if_pos (by omega), if_neg (by omega), if_neg (by omega), if_pos h193, htm]
  rw [tkA_4 (by omega) (by omega) (by omega) h1, hc1]
  have tm2 : tmz (zup k 8 x) = tmz k := by unfold tmz; rw [zup_n (by omega), zup_n (by omega)]
  refine Or.inr (Or.inr (Or.inr ⟨rfl, ?_, ?_⟩))
  · show amO f L c mf (zup k 8 x) ≠ 0
    rw [amO_0 (by rw [zup_n (by omega)]; exact h5)]; omega
  · show outR (pfm f L c pf pl pc nx sz (zup k 8 x) sf sl mf (amP f L c mf (zup k 8 x) pla) (amF f L c mf (zup k 8 x) fro) (amT f L c mf (zup k 8 x) to) (tmz (zup k 8 x))) _ _ _ _ _ _ _ _ _ _ _ _ _
    rw [tm2]
    exact out_r hT hr hL (by omega) hs ⟨ht.1, ht.2.1⟩ (by rw [zup_n (by omega)]; exact h2) zup_s (by omega) h62
theorem cm_7 (M : mdR f L c pf pl pc nx sz k sf sl mf s) (h1 : k 1 = 4) (h2 : k 2 = 109) (h5 : k 5 = 0) (h193 : sG s 193 = 109) : cmR f L c pf pl pc nx sz k sf sl mf pla fro to x s (tkA k x) (cmM s x) := by
  obtain ⟨hT, hr, hrH, hL, hc, hs, hmf, h62, hP, h9, hnx, hsz, hplc⟩ := id M
  have hla := la_in hL.1
  have hc1 : cmM s x = if 97 ≤ x ∧ x ≤ 100 then (0, (sU s, zup (sG s) (124 + x - 97) (sG s 61), sH s)) else (-2, s) := by
    unfold cmM waM
    rw [if_pos (by omega), if_neg (by omega), if_neg (by omega), if_neg (by omega), if_pos h193]
  rw [tkA_5 (by omega) (by omega) (by omega) (by omega), hc1]
  by_cases c1 : 97 ≤ x ∧ x ≤ 100
  · rw [if_pos c1, if_pos (by omega)]
    refine Or.inr (Or.inr (Or.inr ⟨rfl, ?_, ?_⟩))
    · show amO f L c mf (zup k 8 (x - 97)) ≠ 0
      rw [amO_0 (by rw [zup_n (by omega)]; exact h5)]; omega
    · exact out_m hT hr hL (by omega) hs (by show zup k 8 (x - 97) 2 = 109; rw [zup_n (by omega)]; exact h2) (by show zup k 8 (x - 97) 8 = x - 97; exact zup_s) c1 h62 hP
  · rw [if_neg c1, if_neg (by omega)]
    exact Or.inr (Or.inl ⟨rfl, rfl⟩)
/-- a key of a command: class = reference -/
theorem cmd_rel (M : mdR f L c pf pl pc nx sz k sf sl mf s) (hC : relC k (sG s)) (hx : 0 ≤ x ∧ x ≤ 126) (h46 : ¬ (x = 46 ∧ k 1 = 0)) : cmR f L c pf pl pc nx sz k sf sl mf pla fro to x s (tkA k x) (cmM s x) := by
  obtain ⟨h3, h4, h⟩ := hC
  rcases h with ⟨a1, a2, a3, a4, a5⟩ | ⟨a1, a2, a3, a4, a5⟩ | ⟨a1, a2, a3, a4, a5⟩ | ⟨a1, a2, a3, a4, a5⟩ | ⟨a1, a2, a3, a4, a5, a6⟩ | ⟨a1, a2, a3, a4, a5⟩ | ⟨a1, a2, a3, a4, a5⟩
  · exact cm_1 M h3 h4 a1 a2 a3 a4 a5 hx (fun q => h46 ⟨q, a1⟩)
  · exact cm_2 M h3 h4 a1 a2 a3 a4 a5 hx
  · exact cm_3 M a1 a2 a4 a5
  · exact cm_4 M h3 h4 a1 a2 a3 a4 a5
  · exact cm_5 M a1 a2 a3 a4 ⟨a5, a6⟩
  · exact cm_6 M h3 h4 a1 a2 a3 a5 hx
  · exact cm_7 M a1 a2 a3 a5
end CO
