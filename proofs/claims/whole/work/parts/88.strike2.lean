/-! ===== a key struck while nothing is inserted ===== -/
theorem stG_rng {g : Int → Int} {x : Int} (h : ∀ j, rng (g j)) (hx : rng x) (h9 : 0 ≤ g 159 ∧ g 159 ≤ 31) : ∀ j, rng (stG g x j) := rcG_rng (ite_rng (zcp_rng h h) h) hx (by rw [stF_o (by omega)]; exact h9)
theorem pfm_t {f : Int → Int} {L c : Int} {pf pl pc : Int → Int} {nx sz : Int} {k sf : Int → Int} {sl : Int} {mf : Int → Int} {pla fro to n : Int} : (pfm f L c pf pl pc nx sz k sf sl mf pla fro to n).1 = 3 ↔ (k 2 = 99 ∨ k 2 = 105 ∨ k 2 = 97 ∨ k 2 = 73 ∨ k 2 = 65) := by
  by_cases c1 : k 2 = 0
  · rw [pfm_1 c1]; dsimp only; omega
  by_cases c2 : k 2 = 100
  · rw [pfm_2 c1 c2]; dsimp only; omega
  by_cases c3 : k 2 = 121
  · rw [pfm_3 c1 c2 c3]; dsimp only; omega
  by_cases c4 : k 2 = 99
  · rw [pfm_4 c1 c2 c3 c4]; dsimp only; omega
  by_cases c5 : k 2 = 114
  · rw [pfm_5 c1 c2 c3 c4 c5]; dsimp only; omega
  by_cases c6 : k 2 = 126
  · rw [pfm_6 c1 c2 c3 c4 c5 c6]; dsimp only; omega
  by_cases c7 : k 2 = 112
  · rw [pfm_7 c1 c2 c3 c4 c5 c6 c7]; dsimp only; omega
  by_cases c8 : k 2 = 80
  · rw [pfm_8 c1 c2 c3 c4 c5 c6 c7 c8]; dsimp only; omega
  by_cases c9 : k 2 = 105
  · rw [pfm_9 c1 c2 c3 c4 c5 c6 c7 c8 c9]; dsimp only; omega
  by_cases c10 : k 2 = 97
  · rw [pfm_10 c1 c2 c3 c4 c5 c6 c7 c8 c9 c10]; dsimp only; omega
  by_cases c11 : k 2 = 73
  · rw [pfm_11 c1 c2 c3 c4 c5 c6 c7 c8 c9 c10 c11]; dsimp only; omega
  by_cases c12 : k 2 = 65
  · rw [pfm_12 c1 c2 c3 c4 c5 c6 c7 c8 c9 c10 c11 c12]; dsimp only; omega
  by_cases c13 : k 2 = 117 ∧ sz = 0
  · rw [pfm_13 c1 c2 c3 c4 c5 c6 c7 c8 c9 c10 c11 c12 c13]; dsimp only; omega
  by_cases c14 : k 2 = 117
  · rw [pfm_14 c1 c2 c3 c4 c5 c6 c7 c8 c9 c10 c11 c12 c13 c14]; dsimp only; omega
  by_cases c15 : k 2 = 109
  · rw [pfm_15 c1 c2 c3 c4 c5 c6 c7 c8 c9 c10 c11 c12 c13 c14 c15]; dsimp only; omega
  rw [pfm_16 c1 c2 c3 c4 c5 c6 c7 c8 c9 c10 c11 c12 c13 c14 c15]; dsimp only; omega
abbrev tyv (v : Int) : Prop := v = 99 ∨ v = 105 ∨ v = 97 ∨ v = 73 ∨ v = 65
set_option maxHeartbeats 1000000 in
theorem stk_rel {f bf pf pl pc k kf lf sf mf rf : Int → Int} {L c bL bc nx sz ks ls sl ty pla fro to : Int} {s : zM} {x rep : Int} (h : rel f L c bf bL bc pf pl pc nx sz k kf ks lf ls sf sl mf rf ty s) (ho : okD f L c bf bL bc pf pl pc nx sz k kf ks lf ls sf sl mf rf ty pla fro to) (hx : 0 ≤ x ∧ x ≤ 126) (h46 : ¬ (x = 46 ∧ ty = 0 ∧ k 1 = 0)) (hrep : rep = 0 ∨ agr kf ks lf ls x ∨ (ty = 0 ∧ ((tkA k x).1 = 0 ∨ tyv ((tkA k x).2 2))) ∨ (ty = 1 ∧ x ≠ 33)) : (stk f L c bf bL bc pf pl pc nx sz k kf ks lf ls sf sl mf rf ty pla fro to x rep).1 = (stM s x).1 ∧ relD (stk f L c bf bL bc pf pl pc nx sz k kf ks lf ls sf sl mf rf ty pla fro to x rep).2 (stM s x).2 := by
  by_cases c1 : ty ≠ 0
  · rw [stk_1 c1]
    have ht : ty = 1 := by have := ho.2.2.2.2.2.2.2.2.2.2.2.2.2.2.2.2.2.2.2.2.2.1; omega
    refine tin_rel h ho ht hx ?_
    rcases hrep with q | q | q | q
    · exact Or.inl q
    · exact Or.inr (Or.inl q)
    · exact absurd q.1 c1
    · exact Or.inr (Or.inr q.2)
  have ht : ty = 0 := by omega
  subst ht
  obtain ⟨r1, r2, hT, hK, r3, r4, r5, r6, r7, r8⟩ := id h
  obtain ⟨hf, hL, hc, hbf, hbL, hbc, hpf, hplc, hnx, hsz, hk, hk3, hk4, hkf, hks, hlf, hls, hsf, hsl, hmf, hrf, hty, hpa, hfr, hto, hcm⟩ := id ho
  have hla := la_in hL.1
  have h9 : 0 ≤ sG s 159 ∧ sG s 159 ≤ 31 := by rw [hK.1]; exact hks
  have hg := stG_rng (x := x) r1 (by omega) h9
  have hT1 := relT_st (x := x) hT hL hsl h9.1
  have hK1 := relK_st (x := x) hK hks hls
  obtain ⟨b1, b2, b3⟩ := relB_st (x := x) r6 hT hK.1 hks.1 hL
  have hb3 : ∀ j, 0 ≤ j → j < L → stG (sG s) x (195 + j) = zcp f bf 0 0 60 j := fun j j1 j2 => by
    rw [zcp_in (by omega) (by omega), show 0 + (j - 0) = j by omega]; exact b3 j j1 j2
  have h62 : stG (sG s) x 62 = 0 := by rw [stG_o h9.1 (by omega)]; exact r3
  have hC : relC k (stG (sG s) x) := by
    have q := r4 rfl
    unfold relC at q ⊢
    rw [stG_o h9.1 (by omega), stG_o h9.1 (by omega), stG_o h9.1 (by omega), stG_o h9.1 (by omega)]
    exact q
  have M : mdR f L c pf pl pc nx sz k sf sl mf (sU s, stG (sG s) x, sH s) := ⟨hT1, hg, r2, hL, ⟨hc.1, hc.2.2 rfl⟩, hsl, hmf, h62, r7, by
    show (0 ≤ stG (sG s) x 191 ∧ stG (sG s) x 191 ≤ 99) ∧ (0 ≤ stG (sG s) x 192 ∧ stG (sG s) x 192 ≤ 99)
    rw [stG_o h9.1 (by omega), stG_o h9.1 (by omega)]; exact r8, hnx, hsz, hplc⟩
  have key := cmd_rel (pla := pla) (fro := fro) (to := to) (x := x) M hC hx (fun q => h46 ⟨q.1, rfl, q.2⟩)
  have eS : stM s x = if (cmM (sU s, stG (sG s) x, sH s) x).1 = 1 ∨ (cmM (sU s, stG (sG s) x, sH s) x).1 = 2 then cmM (sU s, stG (sG s) x, sH s) x else edM (cmM (sU s, stG (sG s) x, sH s) x) := by
    unfold stM; rw [if_neg (by omega)]
  rw [eS]
  rcases key with ⟨t1, g2, e, hC2, g3, g4, g5⟩ | ⟨t1, e⟩ | ⟨t1, t2, e⟩ | ⟨t1, t2, e⟩
  · rw [stk_2 c1 t1, e, if_pos (Or.inl rfl)]
    refine ⟨rfl, g4, r2, ?_, ?_, ?_, fun _ => hC2, fun _ _ => ?_, ⟨fun _ _ => ⟨?_, ?_, fun j j1 j2 => ?_⟩, fun q => absurd rfl q⟩, r7, g5⟩
    · exact relT_mv hT1 (fun j hj => g3 j (by omega)) hL hsl (by show g2 61 = c; rw [g3 61 (by omega)]; exact hT1.2.2.1)
    · exact relK_eq hK1 hls (fun j hj => g3 j (by omega))
    · show g2 62 = 0; rw [g3 62 (by omega)]; exact h62
    · show 0 < min (ks + 1) 31; omega
    · show g2 194 = L; rw [g3 194 (by omega)]; exact b1
    · show g2 255 = c; rw [g3 255 (by omega)]; exact b2
    · show g2 (195 + j) = f j; rw [g3 (195 + j) (by omega)]; exact b3 j j1 j2
  · rw [stk_3 c1 (by omega) (by omega), e, if_neg (by dsimp only; omega)]
    exact ⟨rfl, fin_d hT1 hL hsl hg r2 h62 hK1 r7⟩
  · rw [stk_4 c1 (by omega) (by omega) t2, e, if_neg (by dsimp only; omega)]
    exact ⟨rfl, fin_d hT1 hL hsl hg r2 h62 hK1 r7⟩
  · have hpt := pfm_t (f := f) (L := L) (c := c) (pf := pf) (pl := pl) (pc := pc) (nx := nx) (sz := sz) (k := (tkA k x).2) (sf := sf) (sl := sl) (mf := mf) (pla := amP f L c mf (tkA k x).2 pla) (fro := amF f L c mf (tkA k x).2 fro) (to := amT f L c mf (tkA k x).2 to) (n := tmz (tkA k x).2)
    have s4 := stk_5 (bf := bf) (bL := bL) (bc := bc) (kf := kf) (ks := ks) (lf := lf) (ls := ls) (rf := rf) (ty := 0) (rep := rep) (pf := pf) (pl := pl) (pc := pc) (nx := nx) (sz := sz) (sf := sf) (sl := sl) (pla := pla) (fro := fro) (to := to) c1 (show ¬ ((tkA k x).1 = 0) by omega) (show ¬ ((tkA k x).1 ≠ 1) by omega) t2
    have s6 := stk_6 (bf := bf) (bL := bL) (bc := bc) (kf := kf) (ks := ks) (lf := lf) (ls := ls) (rf := rf) (ty := 0) (rep := rep) (pf := pf) (pl := pl) (pc := pc) (nx := nx) (sz := sz) (sf := sf) (sl := sl) (pla := pla) (fro := fro) (to := to) c1 (show ¬ ((tkA k x).1 = 0) by omega) (show ¬ ((tkA k x).1 ≠ 1) by omega) t2
    have s7 := stk_7 (bf := bf) (bL := bL) (bc := bc) (kf := kf) (ks := ks) (lf := lf) (ls := ls) (rf := rf) (ty := 0) (rep := rep) (pf := pf) (pl := pl) (pc := pc) (nx := nx) (sz := sz) (sf := sf) (sl := sl) (pla := pla) (fro := fro) (to := to) c1 (show ¬ ((tkA k x).1 = 0) by omega) (show ¬ ((tkA k x).1 ≠ 1) by omega) t2
    have s8 := stk_8 (bf := bf) (bL := bL) (bc := bc) (kf := kf) (ks := ks) (lf := lf) (ls := ls) (rf := rf) (ty := 0) (rep := rep) (pf := pf) (pl := pl) (pc := pc) (nx := nx) (sz := sz) (sf := sf) (sl := sl) (pla := pla) (fro := fro) (to := to) c1 (show ¬ ((tkA k x).1 = 0) by omega) (show ¬ ((tkA k x).1 ≠ 1) by omega) t2
    generalize pfm f L c pf pl pc nx sz (tkA k x).2 sf sl mf (amP f L c mf (tkA k x).2 pla) (amF f L c mf (tkA k x).2 fro) (amT f L c mf (tkA k x).2 to) (tmz (tkA k x).2) = R at hpt s4 s6 s7 s8 e
    rcases e with ⟨e1, e2⟩ | ⟨f2, L2, c2, sf2, sl2, mf2, g2, hT2, hL2, hs2, hg2, hg3, ⟨nx2, sz2, un2, e1, e62, eP, e2⟩ | ⟨e1, e62, e2⟩ | ⟨e1, e62, e2⟩⟩
    · subst e1
      rw [s7 (by dsimp only; omega) (by dsimp only; omega) rfl, e2, if_neg (by dsimp only; omega)]
      exact ⟨rfl, fin_d hT1 hL hsl hg r2 h62 hK1 r7⟩
    · subst e1
      rw [s8 (by dsimp only; omega) (by dsimp only; omega) (by dsimp only; omega), e2, if_neg (by dsimp only; omega)]
      exact ⟨rfl, fin_d hT2 hL2 hs2 hg2 r2 e62 (relK_eq hK1 hls (fun j hj => hg3 j (by omega))) eP⟩
    · subst e1
      rw [e2, if_neg (by dsimp only; omega), s6 (by dsimp only; omega) rfl]
      have hr2 : rep = 0 ∨ agr kf ks lf ls x := by
        rcases hrep with q | q | ⟨-, q⟩ | q
        · exact Or.inl q
        · exact Or.inr q
        · rcases q with q | q
          · omega
          · exact absurd (hpt.mpr q) (by dsimp only; omega)
        · omega
      refine ⟨rfl, fin_c (bf := zcp f bf 0 0 60) hT2 hL2 hs2 hg2 r2 e62 (relK_cr (relK_eq hK1 hls (fun j hj => hg3 j (by omega))) hr2) r7 hnx hsz hL ?_ ?_ (fun j j1 j2 => ?_) (fun j _ _ => (hplc j).1.2)⟩
      · rw [hg3 194 (by omega)]; exact b1
      · rw [hg3 255 (by omega)]; exact b2
      · rw [hg3 (195 + j) (by omega)]; exact hb3 j j1 j2
    · subst e1
      rw [s4 rfl, e2, if_pos (Or.inr rfl)]
      refine ⟨rfl, fin_t (bf := zcp f bf 0 0 60) hT2 hg2 r2 e62 (relK_eq hK1 hls (fun j hj => hg3 j (by omega))) r7 ?_ ?_ (fun j j1 j2 => ?_) ?_⟩
      · rw [hg3 194 (by omega)]; exact b1
      · rw [hg3 255 (by omega)]; exact b2
      · rw [hg3 (195 + j) (by omega)]; exact hb3 j j1 j2
      · rw [hg3 191 (by omega), hg3 192 (by omega)]; exact M.2.2.2.2.2.2.2.2.2.1
