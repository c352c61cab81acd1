/-! ===== . : class and reference ===== -/
def rpF (lf : Int → Int) (d : zDk) : Nat → Int × zDk
  | 0 => (0, d)
  | j + 1 => if (rpF lf d j).1 = -2 then rpF lf d j else stkT (rpF lf d j).2 (lf j) 1
theorem rpF_go {lf : Int → Int} {d : zDk} {j : Nat} (h : (rpF lf d j).1 ≠ -2) : rpF lf d (j + 1) = stkT (rpF lf d j).2 (lf j) 1 := if_neg h
theorem rpF_no {lf : Int → Int} {d : zDk} {j : Nat} (h : (rpF lf d j).1 = -2) : ∀ n : Nat, rpF lf d (j + n) = rpF lf d j
  | 0 => rfl
  | n + 1 => by
    have e := rpF_no h n
    show (if (rpF lf d (j + n)).1 = -2 then rpF lf d (j + n) else _) = _
    rw [e, if_pos h]
theorem rpN_F {lf : Int → Int} {ls : Int} {d : zDk} (hl : ∀ j, dLf (rpF lf d j).2 = lf ∧ dLs (rpF lf d j).2 = ls) : ∀ (n j : Nat), ls ≤ (j : Int) + n → (j : Int) ≤ ls → rpN n j (rpF lf d j).1 (rpF lf d j).2 = rpF lf d ls.toNat
  | 0, j, h1, h2 => by
    rw [show ls.toNat = j by omega]; rfl
  | n + 1, j, h1, h2 => by
    by_cases e : (rpF lf d j).1 = -2
    · rw [rpN_no (fun q => q.2 e), show ls.toNat = j + (ls.toNat - j) by omega, rpF_no e]
    · by_cases e2 : (j : Int) < ls
      · rw [rpN_go (by rw [(hl j).2]; exact e2) e, (hl j).1, ← rpF_go e]
        exact rpN_F hl n (j + 1) (by omega) (by omega)
      · rw [rpN_no (fun q => e2 (by rw [(hl j).2] at q; exact q.1)), show ls.toNat = j by omega]
theorem stkT_la (d : zDk) (x : Int) : dLf (stkT d x 1).2 = dLf d ∧ dLs (stkT d x 1).2 = dLs d := by unfold stkT; exact stk_la
theorem rpF_l {lf : Int → Int} {d : zDk} : ∀ j : Nat, dLf (rpF lf d j).2 = dLf d ∧ dLs (rpF lf d j).2 = dLs d
  | 0 => ⟨rfl, rfl⟩
  | j + 1 => by
    have ih := rpF_l (lf := lf) (d := d) j
    by_cases e : (rpF lf d j).1 = -2
    · rw [rpF_no e 1]; exact ih
    · rw [rpF_go e]
      have q := stkT_la (rpF lf d j).2 (lf j)
      exact ⟨q.1.trans ih.1, q.2.trans ih.2⟩
theorem kyS_go {a : Int → Int} {t : Int × zM} {j : Nat} (h : (kyS a t j).1 ≠ -2) : kyS a t (j + 1) = stM (kyS a t j).2 (a j) := if_neg h
theorem kyS_no {a : Int → Int} {t : Int × zM} {j : Nat} (h : (kyS a t j).1 = -2) : kyS a t (j + 1) = kyS a t j := if_pos h
theorem rp_rel {lf a : Int → Int} {ls : Int} {d : zDk} {t : Int × zM} {m : Nat} (w : wfM lf ls m) (hl : ls ≤ 30) (hlf : ∀ j, 0 ≤ lf j ∧ lf j ≤ 126) (hd : dLf d = lf ∧ dLs d = ls) (ha : ∀ j : Nat, (j : Int) < ls → a j = lf j) (ht : t.1 ≠ -2) (ho : okT d) (hr : relD d t.2) (hw : wfD d) (hs : stpD lf m 0 d) (hlt : ltD d) : ∀ j : Nat, (j : Int) ≤ ls → ltD (rpF lf d j).2 ∧ okT (rpF lf d j).2 ∧ relD (rpF lf d j).2 (kyS a t j).2 ∧ wfD (rpF lf d j).2 ∧ ((rpF lf d j).1 = -2 ↔ (kyS a t j).1 = -2) ∧ (0 < j → (rpF lf d j).1 = (kyS a t j).1) ∧ ((rpF lf d j).1 ≠ -2 → (j : Int) < ls → stpD lf m j (rpF lf d j).2)
  | 0, _ => ⟨hlt, ho, hr, hw, ⟨fun q => absurd q (by show (0 : Int) ≠ -2; omega), fun q => absurd q ht⟩, fun q => absurd q (by omega), fun _ _ => hs⟩
  | j + 1, hj => by
    obtain ⟨i0, i1, i2, i3, i4, i5, i6⟩ := rp_rel w hl hlf hd ha ht ho hr hw hs hlt j (by omega)
    have hl2 := rpF_l (lf := lf) (d := d) j
    by_cases e : (rpF lf d j).1 = -2
    · have e2 := i4.mp e
      rw [rpF_no e 1, kyS_no e2]
      exact ⟨i0, i1, i2, i3, i4, fun _ => by rw [e, e2], fun q => absurd e q⟩
    · have e2 : (kyS a t j).1 ≠ -2 := fun q => e (i4.mpr q)
      rw [rpF_go e, kyS_go e2, ha j (by omega)]
      have hst := i6 e (by omega)
      have hd1 : dLf (rpF lf d j).2 = lf := hl2.1.trans hd.1
      have hd2 : dLs (rpF lf d j).2 = ls := hl2.2.trans hd.2
      obtain ⟨p1, p2⟩ := stp_rep w hst (by omega) hl
      have q := stk_rel (x := lf j) (rep := 1) i2 i1 (hlf j) p1 (p2.imp id (fun z => z.imp (fun y => ⟨y.1, hd2.trans y.2.1, fun i y1 y2 => by rw [y.2.2 i y1 (by rw [← hd2]; exact y2)]; exact (congrFun hd1 i).symm⟩) id))
      refine ⟨stk_lt i2 (hlf j) i0.1 i0.2.1 i0.2.2.1 i0.2.2.2.1 i0.2.2.2.2, stk_ok i1 (hlf j), q.2, stk_wf i3.1 i3.2 i1.2.2.2.2.2.2.2.2.2.2.2.2.2.2.1.1 i1.2.2.2.2.2.2.2.2.2.2.2.2.2.2.2.2.2.2.2.2.2.1, ?_, fun _ => q.1, fun q1 q2 => stp_nx w hst (by omega) hl q1⟩
      rw [← q.1]; exact Iff.rfl
theorem prs_rel {f bf pf pl pc k kf lf sf mf rf : Int → Int} {L c bL bc nx sz ks ls sl ty pla fro to : Int} {s : zM} {x : Int} (h : rel f L c bf bL bc pf pl pc nx sz k kf ks lf ls sf sl mf rf ty s) (ho : okD f L c bf bL bc pf pl pc nx sz k kf ks lf ls sf sl mf rf ty pla fro to) (hw : wfK k kf ks ty ∧ wfL lf ls) (hlt : lrA f ∧ lrA bf ∧ lrA pf ∧ lrA sf ∧ (k 7 = 0 ∨ k 7 = 1)) (hx : 0 ≤ x ∧ x ≤ 126) : ltD (prs f L c bf bL bc pf pl pc nx sz k kf ks lf ls sf sl mf rf ty pla fro to x).2 ∧ (prs f L c bf bL bc pf pl pc nx sz k kf ks lf ls sf sl mf rf ty pla fro to x).1 = (kyM s x).1 ∧ relD (prs f L c bf bL bc pf pl pc nx sz k kf ks lf ls sf sl mf rf ty pla fro to x).2 (kyM s x).2 ∧ wfD (prs f L c bf bL bc pf pl pc nx sz k kf ks lf ls sf sl mf rf ty pla fro to x).2 ∧ okT (prs f L c bf bL bc pf pl pc nx sz k kf ks lf ls sf sl mf rf ty pla fro to x).2 ∧ okK s x := by
  obtain ⟨r1, r2, hT, hK, r3, r4, r5, r6, r7, r8⟩ := id h
  obtain ⟨hf, hL, hc, hbf, hbL, hbc, hpf, hplc, hnx, hsz, hk, hk3, hk4, hkf, hks, hlf, hls, hsf, hsl, hmf, hrf, hty, hpa, hfr, hto, hcm⟩ := id ho
  have hM := rel_okM h ho
  by_cases c1 : ¬ (x = 46 ∧ ty = 0 ∧ k 1 = 0)
  · rw [prs_1 c1]
    obtain ⟨q1, q2⟩ := stk_rel (rep := 0) h ho hx c1 (Or.inl rfl)
    have q3 := stk_rng (f := f) (L := L) (c := c) (bf := bf) (bL := bL) (bc := bc) (pf := pf) (pl := pl) (pc := pc) (nx := nx) (sz := sz) (k := k) (kf := kf) (ks := ks) (lf := lf) (ls := ls) (sf := sf) (sl := sl) (mf := mf) (rf := rf) (ty := ty) (pla := pla) (fro := fro) (to := to) (x := x) (rep := 0)
    have h9 : (stM s x).1 ≠ 9 := by rw [← q1]; omega
    have eK : kyM s x = stM s x := by unfold kyM; rw [if_neg h9]
    rw [eK]
    exact ⟨stk_lt h hx hlt.1 hlt.2.1 hlt.2.2.1 hlt.2.2.2.1 hlt.2.2.2.2, q1, q2, stk_wf hw.1 hw.2 hks.1 hty, stk_ok ho hx, hM, fun q => absurd q h9, q2.1, fun q => absurd q h9⟩
  · have c2 := Decidable.not_not.mp c1
    obtain ⟨e1, e2, e3⟩ := c2
    subst e1 e2
    have h9 : 0 ≤ sG s 159 ∧ sG s 159 ≤ 31 := by rw [hK.1]; exact hks
    have hg := stG_rng (x := 46) r1 (by omega) h9
    have hT1 := relT_st (x := 46) hT hL hsl h9.1
    have hK1 := relK_st (x := 46) hK hks hls
    have h62 : stG (sG s) 46 62 = 0 := by rw [stG_o h9.1 (by omega)]; exact r3
    have h190 : stG (sG s) 46 190 = 0 ∧ stG (sG s) 46 193 = 0 := by
      rw [stG_o h9.1 (by omega), stG_o h9.1 (by omega)]
      have q := (r4 rfl).2.2
      omega
    have h128 : stG (sG s) 46 128 = ls := hK1.2.2.1
    have eC : cmM (sU s, stG (sG s) 46, sH s) 46 = (if 1 ≤ ls ∧ ls ≤ 30 then 9 else -2, (sU s, stG (sG s) 46, sH s)) := by
      have eD : deM (sU s, stG (sG s) 46, sH s) 46 = (if 1 ≤ ls ∧ ls ≤ 30 then 9 else -2, (sU s, stG (sG s) 46, sH s)) := by
        rw [← h128]
        unfold deM
        rw [if_neg (by omega), if_neg (by omega), if_neg (by omega), if_neg (by omega), if_neg (by omega), if_neg (by omega), if_neg (by omega), if_neg (by omega), if_neg (by omega), if_neg (by omega), if_pos rfl]
      unfold cmM
      rw [if_neg (fun q => q h190.2), if_neg (by omega), if_neg (fun q => q (moM_no (by omega))), if_neg (by omega), if_pos h190.1, eD]
    have eS : stM s 46 = (if 1 ≤ ls ∧ ls ≤ 30 then 9 else -2, (sU s, edG (stG (sG s) 46), sH s)) := by
      unfold stM
      rw [if_neg (by omega), eC, if_neg (by dsimp only; omega)]
      rfl
    have hr0 : relD (f, L, c, bf, bL, bc, pf, pl, pc, nx, sz, (fun _ => 0), kf, 0, lf, ls, sf, sl, mf, rf, 0, pla, fro, to) (sU s, edG (stG (sG s) 46), sH s) := by
      have q : rel f L c bf bL bc pf pl pc nx sz (fun _ => 0) (addF kf ks 46) 0 lf ls sf sl mf rf 0 (sU s, edG (stG (sG s) 46), sH s) := fin_d hT1 hL hsl hg r2 h62 hK1 r7
      obtain ⟨a1, a2, a3, a4, a5, a6, a7, a8, a9, a10⟩ := q
      exact ⟨a1, a2, a3, ⟨a4.1, fun j j1 j2 _ => absurd j2 (by dsimp only; omega), a4.2.2⟩, a5, a6, a7, a8, a9, a10⟩
    have ho0 : okT (f, L, c, bf, bL, bc, pf, pl, pc, nx, sz, (fun _ => 0), kf, 0, lf, ls, sf, sl, mf, rf, 0, pla, fro, to) := okD_clr ho
    have hl0 : ltD (f, L, c, bf, bL, bc, pf, pl, pc, nx, sz, (fun _ => 0), kf, 0, lf, ls, sf, sl, mf, rf, 0, pla, fro, to) := ⟨hlt.1, hlt.2.1, hlt.2.2.1, hlt.2.2.2.1, Or.inl rfl⟩
    by_cases c3 : 0 < ls ∧ ls ≤ 30
    · rw [prs_2 c1 c3]
      rw [if_pos (by omega)] at eS
      obtain ⟨m, w⟩ := hw.2 c3.1 c3.2
      have h1 : sG (stM s 46).2 128 = ls := by rw [eS]; exact hr0.2.2.2.1.2.2.1
      have h2 : ∀ j : Nat, (j : Int) < ls → sG (stM s 46).2 (129 + j) = lf j := fun j hj => by rw [eS]; exact (hr0.2.2.2.1.2.2.2.1 j (by omega) hj (by omega)).symm
      have eK : kyM s 46 = kyS (fun j => sG (stM s 46).2 (129 + j)) (stM s 46) ls.toNat := by
        unfold kyM; rw [if_pos (by rw [eS]), h1]
      have all := rp_rel (lf := lf) (a := fun j => sG (stM s 46).2 (129 + j)) (ls := ls) (d := (f, L, c, bf, bL, bc, pf, pl, pc, nx, sz, (fun _ => 0), kf, 0, lf, ls, sf, sl, mf, rf, 0, pla, fro, to)) (t := stM s 46) (m := m) w c3.2 hlf ⟨rfl, rfl⟩ h2 (by rw [eS]; show (9 : Int) ≠ -2; omega) ho0 (by rw [eS]; exact hr0) ⟨wfK_0 _, hw.2⟩ ⟨rfl, fun i hi => absurd hi (by omega), Or.inl ⟨by omega, rfl, rfl⟩⟩ hl0
      have eF := rpN_F (lf := lf) (ls := ls) (d := (f, L, c, bf, bL, bc, pf, pl, pc, nx, sz, (fun _ => 0), kf, 0, lf, ls, sf, sl, mf, rf, 0, pla, fro, to)) (fun j => rpF_l j) 31 0 (by omega) (by omega)
      have eF2 : rpN 31 0 0 (f, L, c, bf, bL, bc, pf, pl, pc, nx, sz, (fun _ => 0), kf, 0, lf, ls, sf, sl, mf, rf, 0, pla, fro, to) = rpF lf (f, L, c, bf, bL, bc, pf, pl, pc, nx, sz, (fun _ => 0), kf, 0, lf, ls, sf, sl, mf, rf, 0, pla, fro, to) ls.toNat := eF
      rw [eF2, eK]
      obtain ⟨a0, a1, a2, a3, a4, a5, a6⟩ := all ls.toNat (by omega)
      refine ⟨a0, a5 (by omega), a2, a3, a1, hM, fun _ => by rw [h1]; omega, ?_, fun _ j hj => ?_⟩
      · rw [eS]; exact hr0.1
      · rw [h1] at hj
        obtain ⟨b0, b1, b2, b3, b4, b5, b6⟩ := all j (by omega)
        have := hlf j
        refine ⟨rel_okM b2 b1, ?_, ?_⟩
        · rw [h2 j hj]; omega
        · rw [h2 j hj]; omega
    · rw [prs_3 c1 c3]
      rw [if_neg (by omega)] at eS
      have h9 : (stM s 46).1 ≠ 9 := by rw [eS]; show (-2 : Int) ≠ 9; omega
      have eK : kyM s 46 = stM s 46 := by unfold kyM; rw [if_neg h9]
      rw [eK, eS]
      refine ⟨hl0, rfl, hr0, ⟨wfK_0 _, hw.2⟩, ho0, hM, fun q => absurd q h9, by rw [eS]; exact hr0.1, fun q => absurd q h9⟩
