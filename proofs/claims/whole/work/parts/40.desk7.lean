/-! ===== Desk: press, begin ===== -/
abbrev dLf (d : zDk) : Int → Int := d.2.2.2.2.2.2.2.2.2.2.2.2.2.2.1
abbrev dLs (d : zDk) : Int := d.2.2.2.2.2.2.2.2.2.2.2.2.2.2.2.1
def rpN : Nat → Int → Int → zDk → Int × zDk
  | 0, _, a, d => (a, d)
  | n + 1, j, a, d => if j < dLs d ∧ a ≠ -2 then rpN n (j + 1) (stkT d (dLf d j) 1).1 (stkT d (dLf d j) 1).2 else (a, d)
theorem rpN_go {n : Nat} {j a : Int} {d : zDk} (h : j < dLs d) (h2 : a ≠ -2) : rpN (n + 1) j a d = rpN n (j + 1) (stkT d (dLf d j) 1).1 (stkT d (dLf d j) 1).2 := if_pos ⟨h, h2⟩
theorem rpN_no {n : Nat} {j a : Int} {d : zDk} (h : ¬ (j < dLs d ∧ a ≠ -2)) : rpN n j a d = (a, d) := by
  cases n with
  | zero => rfl
  | succ n => exact if_neg h

def prs (f : Int → Int) (L c : Int) (bf : Int → Int) (bL bc : Int) (pf pl pc : Int → Int) (nx sz : Int) (k kf : Int → Int) (ks : Int) (lf : Int → Int) (ls : Int) (sf : Int → Int) (sl : Int) (mf rf : Int → Int) (ty pla fro to : Int) (x : Int) : Int × zDk := if ¬ (x = 46 ∧ ty = 0 ∧ k 1 = 0) then stk f L c bf bL bc pf pl pc nx sz k kf ks lf ls sf sl mf rf ty pla fro to x 0 else if 0 < ls ∧ ls ≤ 30 then rpN 31 0 0 (f, L, c, bf, bL, bc, pf, pl, pc, nx, sz, (fun _ => 0), kf, 0, lf, ls, sf, sl, mf, rf, ty, pla, fro, to) else (-2, (f, L, c, bf, bL, bc, pf, pl, pc, nx, sz, (fun _ => 0), kf, 0, lf, ls, sf, sl, mf, rf, ty, pla, fro, to))
theorem prs_1 {f : Int → Int} {L c : Int} {bf : Int → Int} {bL bc : Int} {pf pl pc : Int → Int} {nx sz : Int} {k kf : Int → Int} {ks : Int} {lf : Int → Int} {ls : Int} {sf : Int → Int} {sl : Int} {mf rf : Int → Int} {ty pla fro to : Int} {x : Int}  (h1 : ¬ (x = 46 ∧ ty = 0 ∧ k 1 = 0)) : prs f L c bf bL bc pf pl pc nx sz k kf ks lf ls sf sl mf rf ty pla fro to x = stk f L c bf bL bc pf pl pc nx sz k kf ks lf ls sf sl mf rf ty pla fro to x 0 := by unfold prs; rw [if_pos h1]
theorem prs_2 {f : Int → Int} {L c : Int} {bf : Int → Int} {bL bc : Int} {pf pl pc : Int → Int} {nx sz : Int} {k kf : Int → Int} {ks : Int} {lf : Int → Int} {ls : Int} {sf : Int → Int} {sl : Int} {mf rf : Int → Int} {ty pla fro to : Int} {x : Int} (h1 : ¬ (¬ (x = 46 ∧ ty = 0 ∧ k 1 = 0))) (h2 : 0 < ls ∧ ls ≤ 30) : prs f L c bf bL bc pf pl pc nx sz k kf ks lf ls sf sl mf rf ty pla fro to x = rpN 31 0 0 (f, L, c, bf, bL, bc, pf, pl, pc, nx, sz, (fun _ => 0), kf, 0, lf, ls, sf, sl, mf, rf, ty, pla, fro, to) := by unfold prs; rw [if_neg h1, if_pos h2]
theorem prs_3 {f : Int → Int} {L c : Int} {bf : Int → Int} {bL bc : Int} {pf pl pc : Int → Int} {nx sz : Int} {k kf : Int → Int} {ks : Int} {lf : Int → Int} {ls : Int} {sf : Int → Int} {sl : Int} {mf rf : Int → Int} {ty pla fro to : Int} {x : Int} (h1 : ¬ (¬ (x = 46 ∧ ty = 0 ∧ k 1 = 0))) (h2 : ¬ (0 < ls ∧ ls ≤ 30)) : prs f L c bf bL bc pf pl pc nx sz k kf ks lf ls sf sl mf rf ty pla fro to x = (-2, (f, L, c, bf, bL, bc, pf, pl, pc, nx, sz, (fun _ => 0), kf, 0, lf, ls, sf, sl, mf, rf, ty, pla, fro, to)) := by unfold prs; rw [if_neg h1, if_neg h2]
theorem okD_clr {f bf pf pl pc k kf lf sf mf rf : Int → Int} {L c bL bc nx sz ks ls sl ty pla fro to : Int} (O : okD f L c bf bL bc pf pl pc nx sz k kf ks lf ls sf sl mf rf ty pla fro to) : okD (f) (L) (c) (bf) (bL) (bc) (pf) (pl) (pc) (nx) (sz) ((fun _ => 0)) (kf) (0) (lf) (ls) (sf) (sl) (mf) (rf) (ty) (pla) (fro) (to) := by
  obtain ⟨hf, hL, hc, hbf, hbL, hbc, hpf, hplc, hnx, hsz, hk, hk3, hk4, hkf, hks, hlf, hls, hsf, hsl, hmf, hrf, hty, hpa, hfr, hto, hcm⟩ := O
  exact ⟨hf, hL, hc, hbf, hbL, hbc, hpf, hplc, hnx, hsz, fun _ => (by decide : rng (0 : Int)), by decide, by decide, hkf, by decide, hlf, hls, hsf, hsl, hmf, hrf, hty, hpa, hfr, hto, fun _ => okC_0⟩

theorem stk_rng {f bf pf pl pc k kf lf sf mf rf : Int → Int} {L c bL bc nx sz ks ls sl ty pla fro to : Int} {x rep : Int} : -3 ≤ (stk f L c bf bL bc pf pl pc nx sz k kf ks lf ls sf sl mf rf ty pla fro to x rep).1 ∧ (stk f L c bf bL bc pf pl pc nx sz k kf ks lf ls sf sl mf rf ty pla fro to x rep).1 ≤ 2 := by
  by_cases c1 : ty ≠ 0
  · rw [stk_1 c1]
    by_cases d1 : x = 33
    · rw [tin_1 d1]; dsimp only; omega
    by_cases d2 : 60 ≤ L
    · rw [tin_2 d1 d2]; dsimp only; omega
    · rw [tin_3 d1 d2]; dsimp only; omega
  by_cases c2 : (tkA k x).1 = 0
  · rw [stk_2 c1 c2]; dsimp only; omega
  by_cases c3 : (tkA k x).1 ≠ 1
  · rw [stk_3 c1 c2 c3]; dsimp only; omega
  by_cases c4 : amO f L c mf (tkA k x).2 = 0
  · rw [stk_4 c1 c2 c3 c4]; dsimp only; omega
  by_cases c5 : (pfm f L c pf pl pc nx sz (tkA k x).2 sf sl mf (amP f L c mf (tkA k x).2 pla) (amF f L c mf (tkA k x).2 fro) (amT f L c mf (tkA k x).2 to) (tmz (tkA k x).2)).1 = 3
  · rw [stk_5 c1 c2 c3 c4 c5]; dsimp only; omega
  by_cases c6 : (pfm f L c pf pl pc nx sz (tkA k x).2 sf sl mf (amP f L c mf (tkA k x).2 pla) (amF f L c mf (tkA k x).2 fro) (amT f L c mf (tkA k x).2 to) (tmz (tkA k x).2)).1 = 2
  · rw [stk_6 c1 c2 c3 c4 c5 c6]; dsimp only; omega
  by_cases c7 : (pfm f L c pf pl pc nx sz (tkA k x).2 sf sl mf (amP f L c mf (tkA k x).2 pla) (amF f L c mf (tkA k x).2 fro) (amT f L c mf (tkA k x).2 to) (tmz (tkA k x).2)).1 = 0
  · rw [stk_7 c1 c2 c3 c4 c5 c6 c7]; dsimp only; omega
  · rw [stk_8 c1 c2 c3 c4 c5 c6 c7]; dsimp only; omega

set_option maxRecDepth 100000 in
theorem m_X1_press (G : zG) {f bf pf pl pc k kf lf sf mf rf : Int → Int} {L c bL bc nx sz ks ls sl ty pla fro to : Int} {rest : List va_E} {y : Int} (O : okD f L c bf bL bc pf pl pc nx sz k kf ks lf ls sf sl mf rf ty pla fro to) (hy : 0 ≤ y ∧ y ≤ 126) : zMet G yX1_press cX1_press 5 (some .int) 6 140 [.ref (G.ad 0), .int (iI y)] (dkL G f L c bf bL bc pf pl pc nx sz k kf ks lf ls sf sl mf rf ty pla fro to ++ rest) (zO (.int (iI (prs f L c bf bL bc pf pl pc nx sz k kf ks lf ls sf sl mf rf ty pla fro to y).1)) (dkT G (prs f L c bf bL bc pf pl pc nx sz k kf ks lf ls sf sl mf rf ty pla fro to y).2 ++ rest)) := by
  refine zMet.of (by decide) (Nat.le_of_ble_eq_true rfl) ?_
  intro E C R
  have C : zC G E RX1 cX1_press 5 6 140 := C
  show V G E 0 [some (.ref (G.ad 0)), some (.int (iI y)), none, none, none] [] (dkL G f L c bf bL bc pf pl pc nx sz k kf ks lf ls sf sl mf rf ty pla fro to ++ rest)
  obtain ⟨hf, hL, hc, hbf, hbL, hbc, hpf, hplc, hnx, hsz, hk, hk3, hk4, hkf, hks, hlf, hls, hsf, hsl, hmf, hrf, hty, hpa, hfr, hto, hcm⟩ := id O
  have hla := la_in hL.1
  have hlb := la_in hbL.1
  have rpl : ∀ j, rng (pl j) := fun j => by have := hplc j; omega
  have rpc : ∀ j, rng (pc j) := fun j => by have := hplc j; have := la_in (hplc j).1.1; omega
  have rkf : ∀ j, rng (kf j) := fun j => by have := hkf j; omega
  have rlf : ∀ j, rng (lf j) := fun j => by have := hlf j; omega
  have rmf : ∀ j, rng (mf j) := fun j => by have := hmf j; omega
  have gmf : ∀ j, -1 ≤ mf j := fun j => (hmf j).1
  have hk1 := hk 1
  refine V_midb (pc2 := 28) (y = 46 ∧ ty = 0 ∧ k 1 = 0) ?_ (fun kt_0 kf_0 => ?_)
  · skip
    refine V_istore_n C dX1_press_28 (by decide) rfl ?_
    refine V_iload_n C dX1_press_29 rfl ?_
    refine V_if_neB (tgt := 40) C dX1_press_30 (by decide) (fun c_30 => ?_) (fun c_30 => ?_)
    · skip
      refine V_aload_n C dX1_press_40 rfl ?_
      refine vg_X1_31 C dX1_press_41 rfl rfl ?_
      refine V_callN C lk_X1_98 (m_X0_clear G (i := 9) (j := 10) (jj := 11) (f := kf) (s := ks) (k := k) ⟨rfl, ⟨rfl, rfl, rkf, by omega, by omega⟩, hk, by decide, hk3.1, hk3.2, hk4.1, hk4.2⟩) dX1_press_44 rfl rfl rfl rfl (by decide) (Nat.le_of_ble_eq_true rfl) (kO0 ?_)
      refine V_aload_n C dX1_press_47 rfl ?_
      refine vg_X1_38 C dX1_press_48 rfl rfl ?_
      refine V_callN C lk_X1_111 (m_X2_canBeRepeated G (i := 12) (j := 13) ⟨rfl, rfl, rlf, by omega, by omega⟩) dX1_press_51 rfl rfl rfl rfl (by decide) (Nat.le_of_ble_eq_true rfl) (kO ?_)
      refine V_if_neB (tgt := 60) C dX1_press_54 (by decide) (fun c_54 => ?_) (fun c_54 => ?_)
      · skip
        refine V_iconst C dX1_press_60 ?_
        refine V_istore_n C dX1_press_61 (by decide) rfl ?_
        refine V_iconst C dX1_press_62 ?_
        refine V_istore C dX1_press_63 (by decide) rfl ?_
        refine V_loop (α := Int × Int × zDk) (fun x => (100 - x.1).toNat) (fun x => 0 ≤ x.1 ∧ x.1 ≤ 30 ∧ rng x.2.1 ∧ okT x.2.2 ∧ dLs x.2.2 ≤ 30 ∧ rpN (31 - x.1).toNat x.1 x.2.1 x.2.2 = rpN 31 0 0 (f, L, c, bf, bL, bc, pf, pl, pc, nx, sz, (fun _ => 0), kf, 0, lf, ls, sf, sl, mf, rf, ty, pla, fro, to)) (fun x => V G E 65 [some (.ref (G.ad 0)), some (.int (iI y)), some (.int (iI (b2z (y = 46 ∧ ty = 0 ∧ k 1 = 0)))), some (.int (iI x.2.1)), some (.int (iI x.1))] [] (dkT G x.2.2 ++ rest)) ?_ (0, 0, (f, L, c, bf, bL, bc, pf, pl, pc, nx, sz, (fun _ => 0), kf, 0, lf, ls, sf, sl, mf, rf, ty, pla, fro, to)) ⟨Int.le_refl 0, (show (0 : Int) ≤ 30 by decide), (show rng 0 by decide), okD_clr O, (show ls ≤ 30 by omega), rfl⟩
        rintro ⟨j, an, d⟩ ⟨g1, g2, g3, g4, g5, g6⟩ ih_65
        obtain ⟨f1, L1, c1, bf1, bL1, bc1, pf1, pl1, pc1, nx1, sz1, k1, kf1, ks1, lf1, ls1, sf1, sl1, mf1, rf1, ty1, pla1, fro1, to1⟩ := d
        dsimp only [dLs] at g1 g2 g3 g4 g5 g6
        have ih := ih_65
        clear ih_65
        obtain ⟨-, -, -, -, -, -, -, -, -, -, -, -, -, -, -, hlf1, hls1, -⟩ := id g4
        dsimp only at hlf1 hls1
        have rlf1 : ∀ j, rng (lf1 j) := fun j => by have := hlf1 j; omega
        show V G E 65 [some (.ref (G.ad 0)), some (.int (iI y)), some (.int (iI (b2z (y = 46 ∧ ty = 0 ∧ k 1 = 0)))), some (.int (iI an)), some (.int (iI j))] [] (dkL G f1 L1 c1 bf1 bL1 bc1 pf1 pl1 pc1 nx1 sz1 k1 kf1 ks1 lf1 ls1 sf1 sl1 mf1 rf1 ty1 pla1 fro1 to1 ++ rest)
        refine V_iload C dX1_press_65 rfl ?_
        refine V_aload_n C dX1_press_67 rfl ?_
        refine vg_X1_38 C dX1_press_68 rfl rfl ?_
        refine vg_X1_97 C dX1_press_71 rfl rfl ?_
        refine V_icmp_ge (tgt := 105) C dX1_press_74 (by decide) (by omega) (by omega) (fun c_74 => ?_) (fun c_74 => ?_)
        · skip
          refine V_iload_n C dX1_press_105 rfl ?_
          exact V_iret C R dX1_press_106 ⟨by rw [prs_2 (fun h => h c_30) (by omega), ← g6, rpN_no (by dsimp only [dLs]; omega)], by rw [prs_2 (fun h => h c_30) (by omega), ← g6, rpN_no (by dsimp only [dLs]; omega)] <;> rfl⟩
        · skip
          refine V_iload_n C dX1_press_77 rfl ?_
          refine V_bipush C dX1_press_78 (by decide) ?_
          refine V_icmp_eq (tgt := 105) C dX1_press_80 (by decide) (by omega) (by omega) (fun c_80 => ?_) (fun c_80 => ?_)
          · skip
            refine V_iload_n C dX1_press_105 rfl ?_
            exact V_iret C R dX1_press_106 ⟨by rw [prs_2 (fun h => h c_30) (by omega), ← g6, rpN_no (by dsimp only [dLs]; omega)], by rw [prs_2 (fun h => h c_30) (by omega), ← g6, rpN_no (by dsimp only [dLs]; omega)] <;> rfl⟩
          · skip
            refine V_aload_n C dX1_press_83 rfl ?_
            refine V_aload_n C dX1_press_84 rfl ?_
            refine vg_X1_38 C dX1_press_85 rfl rfl ?_
            refine vg_X1_115 C dX1_press_88 rfl rfl ?_
            refine V_iload C dX1_press_91 rfl ?_
            refine V_iald C dX1_press_93 rfl (by omega) (by omega) (by decide) rlf1 (fun r_93 => ?_)
            refine V_iconst C dX1_press_94 ?_
            refine V_callV C lk_X1_107 (m_X1_strike G (f := f1) (L := L1) (c := c1) (bf := bf1) (bL := bL1) (bc := bc1) (pf := pf1) (pl := pl1) (pc := pc1) (nx := nx1) (sz := sz1) (k := k1) (kf := kf1) (ks := ks1) (lf := lf1) (ls := ls1) (sf := sf1) (sl := sl1) (mf := mf1) (rf := rf1) (ty := ty1) (pla := pla1) (fro := fro1) (to := to1) (rest := rest) g4 (hlf1 j) (Or.inr rfl)) dX1_press_95 rfl rfl rfl rfl (by decide) (Nat.le_of_ble_eq_true rfl) (kO ?_)
            refine V_istore_n C dX1_press_98 (by decide) rfl ?_
            refine V_iinc C dX1_press_99 rfl (by decide) rfl ?_
            refine V_goto (tgt := 65) C dX1_press_102 (by decide) ?_
            have hst := stk_rng (f := f1) (L := L1) (c := c1) (bf := bf1) (bL := bL1) (bc := bc1) (pf := pf1) (pl := pl1) (pc := pc1) (nx := nx1) (sz := sz1) (k := k1) (kf := kf1) (ks := ks1) (lf := lf1) (ls := ls1) (sf := sf1) (sl := sl1) (mf := mf1) (rf := rf1) (ty := ty1) (pla := pla1) (fro := fro1) (to := to1) (x := lf1 j) (rep := 1)
            exact ih (j + 1, (stk f1 L1 c1 bf1 bL1 bc1 pf1 pl1 pc1 nx1 sz1 k1 kf1 ks1 lf1 ls1 sf1 sl1 mf1 rf1 ty1 pla1 fro1 to1 (lf1 j) 1).1, (stk f1 L1 c1 bf1 bL1 bc1 pf1 pl1 pc1 nx1 sz1 k1 kf1 ks1 lf1 ls1 sf1 sl1 mf1 rf1 ty1 pla1 fro1 to1 (lf1 j) 1).2) ⟨(show 0 ≤ j + 1 by omega), (show j + 1 ≤ 30 by omega), ⟨Int.le_trans (by decide) hst.1, Int.le_trans hst.2 (by decide)⟩, stk_ok g4 (hlf1 j), (show (stk f1 L1 c1 bf1 bL1 bc1 pf1 pl1 pc1 nx1 sz1 k1 kf1 ks1 lf1 ls1 sf1 sl1 mf1 rf1 ty1 pla1 fro1 to1 (lf1 j) 1).2.2.2.2.2.2.2.2.2.2.2.2.2.2.2.2.1 ≤ 30 by rw [stk_la.2]; exact g5), (show rpN (31 - (j + 1)).toNat (j + 1) (stk f1 L1 c1 bf1 bL1 bc1 pf1 pl1 pc1 nx1 sz1 k1 kf1 ks1 lf1 ls1 sf1 sl1 mf1 rf1 ty1 pla1 fro1 to1 (lf1 j) 1).1 (stk f1 L1 c1 bf1 bL1 bc1 pf1 pl1 pc1 nx1 sz1 k1 kf1 ks1 lf1 ls1 sf1 sl1 mf1 rf1 ty1 pla1 fro1 to1 (lf1 j) 1).2 = rpN (31 - j).toNat j an (f1, L1, c1, bf1, bL1, bc1, pf1, pl1, pc1, nx1, sz1, k1, kf1, ks1, lf1, ls1, sf1, sl1, mf1, rf1, ty1, pla1, fro1, to1) by rw [show (31 - j).toNat = (31 - (j + 1)).toNat + 1 by omega, rpN_go (show j < ls1 by omega) (by omega)]; rfl).trans g6⟩ (show (100 - (j + 1)).toNat < (100 - j).toNat by omega)
      · skip
        refine V_bipush C dX1_press_57 (by decide) ?_
        exact V_iret C R dX1_press_59 ⟨by rw [prs_3 (fun h => h c_30) (by omega)], by rw [prs_3 (fun h => h c_30) (by omega)] <;> rfl⟩
    · skip
      refine V_aload_n C dX1_press_33 rfl ?_
      refine V_iload_n C dX1_press_34 rfl ?_
      refine V_iconst C dX1_press_35 ?_
      refine V_callV C lk_X1_107 (m_X1_strike G O hy (Or.inl rfl)) dX1_press_36 rfl rfl rfl rfl (by decide) (Nat.le_of_ble_eq_true rfl) (kO ?_)
      exact V_iret C R dX1_press_39 ⟨by rw [prs_1 (by assumption)], by rw [prs_1 (by assumption)]⟩
  · skip
    refine V_iload_n C dX1_press_0 rfl ?_
    refine V_bipush C dX1_press_1 (by decide) ?_
    refine V_icmp_ne (tgt := 27) C dX1_press_3 (by decide) (by omega) (by omega) (fun c_3 => ?_) (fun c_3 => ?_)
    · skip
      refine V_iconst C dX1_press_27 ?_
      exact kf_0 (by omega)
    · skip
      refine V_aload_n C dX1_press_6 rfl ?_
      refine vg_X1_75 C dX1_press_7 rfl rfl ?_
      refine V_if_ne (tgt := 27) C dX1_press_10 (by decide) (by omega) (fun c_10 => ?_) (fun c_10 => ?_)
      · skip
        refine V_iconst C dX1_press_27 ?_
        exact kf_0 (by omega)
      · skip
        refine V_aload_n C dX1_press_13 rfl ?_
        refine vg_X1_31 C dX1_press_14 rfl rfl ?_
        refine vg_X1_104 C dX1_press_17 rfl rfl ?_
        refine V_if_ne (tgt := 27) C dX1_press_20 (by decide) (by omega) (fun c_20 => ?_) (fun c_20 => ?_)
        · skip
          refine V_iconst C dX1_press_27 ?_
          exact kf_0 (by omega)
        · skip
          refine V_iconst C dX1_press_23 ?_
          refine V_goto (tgt := 28) C dX1_press_24 (by decide) ?_
          exact kt_0 (by omega)

set_option maxRecDepth 100000 in
theorem m_fillI (G : zG) {cs : List va_E} {i n : Nat} {g : Int → Int} {v : Int} (hi : cs[i]? = some (zI G n g)) (hn : n < 1000) : zMet G yJ7_fill_53178 cJ7_fill_53178 4 none 0 0 [.ref (G.ad i), .int (iI v)] cs (zO0 (cs.set i (zI G n (ovr g 0 n v)))) := by
  refine zMet.of (by decide) (Nat.le_of_ble_eq_true rfl) ?_
  intro E C R
  have C : zC G E RJ7 cJ7_fill_53178 4 0 0 := C
  show V G E 0 [some (.ref (G.ad i)), some (.int (iI v)), none, none] [] cs
  have hli := zs_lt hi
  refine V_iconst C dJ7_fill_53178_0 ?_
  refine V_istore_n C dJ7_fill_53178_1 (by decide) rfl ?_
  refine V_aload_n C dJ7_fill_53178_2 rfl ?_
  refine V_alenI C dJ7_fill_53178_3 (by repeat (first | with_reducible assumption | with_reducible exact zs_eq (by first | assumption | (simp only [List.length_set]; assumption)) | refine zs_ne (by first | with_reducible assumption | exact Ne.symm (by with_reducible assumption) | omega) ?_)) ?_
  refine V_istore_n C dJ7_fill_53178_4 (by decide) rfl ?_
  have e0 := zs_self hi
  rw [← ovr_0 g 0 v] at e0
  rw [← e0]
  refine V_loop (α := Int) (fun x => (2000 - x).toNat) (fun x => 0 ≤ x ∧ x ≤ n) (fun x => V G E 5 [some (.ref (G.ad i)), some (.int (iI v)), some (.int (iI x)), some (.int (iI n))] [] (cs.set i (zI G n (ovr g 0 x v)))) ?_ 0 ⟨by omega, by omega⟩
  rintro q ⟨g1, g2⟩ ih_5
  refine V_iload_n C dJ7_fill_53178_5 rfl ?_
  refine V_iload_n C dJ7_fill_53178_6 rfl ?_
  refine V_icmp_ge (tgt := 20) C dJ7_fill_53178_7 (by decide) (by omega) (by omega) (fun c_7 => ?_) (fun c_7 => ?_)
  · skip
    exact V_vret C R dJ7_fill_53178_20 ⟨rfl, by rw [show q = (n : Int) by omega]⟩
  · skip
    refine V_aload_n C dJ7_fill_53178_10 rfl ?_
    refine V_iload_n C dJ7_fill_53178_11 rfl ?_
    refine V_iload_n C dJ7_fill_53178_12 rfl ?_
    refine V_iast C dJ7_fill_53178_13 (by repeat (first | with_reducible assumption | with_reducible exact zs_eq (by first | assumption | (simp only [List.length_set]; assumption)) | refine zs_ne (by first | with_reducible assumption | exact Ne.symm (by with_reducible assumption) | omega) ?_)) (by omega) (by omega) (by omega) ?_
    refine V_iinc C dJ7_fill_53178_14 rfl (by decide) rfl ?_
    refine V_goto (tgt := 5) C dJ7_fill_53178_17 (by decide) ?_
    rw [List.set_set, ovr_s g1]
    exact ih_5 (q + 1) ⟨by omega, by omega⟩ (by omega)

set_option maxRecDepth 100000 in
theorem m_fillJ (G : zG) {cs : List va_E} {i n : Nat} {g : Int → Int} {v : Int} (hi : cs[i]? = some (zJ G n g)) (hn : n < 1000) : zMet G yJ7_fill_d0a16 cJ7_fill_d0a16 5 none 0 0 [.ref (G.ad i), .long (lI v)] cs (zO0 (cs.set i (zJ G n (ovr g 0 n v)))) := by
  refine zMet.of (by decide) (Nat.le_of_ble_eq_true rfl) ?_
  intro E C R
  have C : zC G E RJ7 cJ7_fill_d0a16 5 0 0 := C
  show V G E 0 [some (.ref (G.ad i)), some (.long (lI v)), none, none, none] [] cs
  have hli := zs_lt hi
  refine V_iconst C dJ7_fill_d0a16_0 ?_
  refine V_istore_n C dJ7_fill_d0a16_1 (by decide) rfl ?_
  refine V_aload_n C dJ7_fill_d0a16_2 rfl ?_
  refine V_alenJ C dJ7_fill_d0a16_3 (by repeat (first | with_reducible assumption | with_reducible exact zs_eq (by first | assumption | (simp only [List.length_set]; assumption)) | refine zs_ne (by first | with_reducible assumption | exact Ne.symm (by with_reducible assumption) | omega) ?_)) ?_
  refine V_istore C dJ7_fill_d0a16_4 (by decide) rfl ?_
  have e0 := zs_self hi
  rw [← ovr_0 g 0 v] at e0
  rw [← e0]
  refine V_loop (α := Int) (fun x => (2000 - x).toNat) (fun x => 0 ≤ x ∧ x ≤ n) (fun x => V G E 6 [some (.ref (G.ad i)), some (.long (lI v)), none, some (.int (iI x)), some (.int (iI n))] [] (cs.set i (zJ G n (ovr g 0 x v)))) ?_ 0 ⟨by omega, by omega⟩
  rintro q ⟨g1, g2⟩ ih_6
  refine V_iload_n C dJ7_fill_d0a16_6 rfl ?_
  refine V_iload C dJ7_fill_d0a16_7 rfl ?_
  refine V_icmp_ge (tgt := 22) C dJ7_fill_d0a16_9 (by decide) (by omega) (by omega) (fun c_9 => ?_) (fun c_9 => ?_)
  · skip
    exact V_vret C R dJ7_fill_d0a16_22 ⟨rfl, by rw [show q = (n : Int) by omega]⟩
  · skip
    refine V_aload_n C dJ7_fill_d0a16_12 rfl ?_
    refine V_iload_n C dJ7_fill_d0a16_13 rfl ?_
    refine V_lload_n C dJ7_fill_d0a16_14 rfl ?_
    refine V_last C dJ7_fill_d0a16_15 (by repeat (first | with_reducible assumption | with_reducible exact zs_eq (by first | assumption | (simp only [List.length_set]; assumption)) | refine zs_ne (by first | with_reducible assumption | exact Ne.symm (by with_reducible assumption) | omega) ?_)) (by omega) (by omega) (by omega) ?_
    refine V_iinc C dJ7_fill_d0a16_16 rfl (by decide) rfl ?_
    refine V_goto (tgt := 6) C dJ7_fill_d0a16_19 (by decide) ?_
    rw [List.set_set, ovr_s g1]
    exact ih_6 (q + 1) ⟨by omega, by omega⟩ (by omega)

set_option maxRecDepth 100000 in
theorem m_X1_begin (G : zG) {f bf pf pl pc k kf lf sf mf rf : Int → Int} {L c bL bc nx sz ks ls sl ty pla fro to : Int} {rest : List va_E} {a : Nat} {g : Int → Int} {n : Int} (O : okD f L c bf bL bc pf pl pc nx sz k kf ks lf ls sf sl mf rf ty pla fro to) (hr : rest[a]? = some (zI G 60 g)) (hn : 0 ≤ n ∧ n ≤ 60) : zMet G yX1_begin cX1_begin 3 none 1 26 [.ref (G.ad 0), .ref (G.ad (a + 17)), .int (iI n)] (dkL G f L c bf bL bc pf pl pc nx sz k kf ks lf ls sf sl mf rf ty pla fro to ++ rest) (zO0 (dkL G (zcp g f 0 0 n) (n) (0) bf bL bc pf pl pc nx (0) ((fun _ => 0)) kf (0) lf (0) sf (0) (ovr mf 0 4 (-1)) rf (0) pla fro to ++ rest)) := by
  refine zMet.of (by decide) (Nat.le_of_ble_eq_true rfl) ?_
  intro E C R
  have C : zC G E RX1 cX1_begin 3 1 26 := C
  show V G E 0 [some (.ref (G.ad 0)), some (.ref (G.ad (a + 17))), some (.int (iI n))] [] (dkL G f L c bf bL bc pf pl pc nx sz k kf ks lf ls sf sl mf rf ty pla fro to ++ rest)
  obtain ⟨hf, hL, hc, hbf, hbL, hbc, hpf, hplc, hnx, hsz, hk, hk3, hk4, hkf, hks, hlf, hls, hsf, hsl, hmf, hrf, hty, hpa, hfr, hto, hcm⟩ := id O
  have hla := la_in hL.1
  have hlb := la_in hbL.1
  have rpl : ∀ j, rng (pl j) := fun j => by have := hplc j; omega
  have rpc : ∀ j, rng (pc j) := fun j => by have := hplc j; have := la_in (hplc j).1.1; omega
  have rkf : ∀ j, rng (kf j) := fun j => by have := hkf j; omega
  have rlf : ∀ j, rng (lf j) := fun j => by have := hlf j; omega
  have rmf : ∀ j, rng (mf j) := fun j => by have := hmf j; omega
  have gmf : ∀ j, -1 ≤ mf j := fun j => (hmf j).1
  refine V_aload_n C dX1_begin_0 rfl ?_
  refine V_iconst C dX1_begin_1 ?_
  refine V_aload_n C dX1_begin_2 rfl ?_
  refine vg_X1_12 C dX1_begin_3 (by first | rfl | exact hr) rfl ?_
  refine vg_X1_79 C dX1_begin_6 (by first | rfl | exact hr) rfl ?_
  refine V_iconst C dX1_begin_9 ?_
  refine V_iload_n C dX1_begin_10 rfl ?_
  refine V_copyI C wm_X1_65 dX1_begin_11 (by first | rfl | exact hr) (by first | rfl | exact hr) (by omega) (by omega) (by omega) (by omega) (by omega) (by decide) (by decide) (by decide) (Nat.le_of_ble_eq_true rfl) ?_
  refine V_aload_n C dX1_begin_14 rfl ?_
  refine vg_X1_12 C dX1_begin_15 (by first | rfl | exact hr) rfl ?_
  refine V_iload_n C dX1_begin_18 rfl ?_
  refine vp_X1_82 C dX1_begin_19 (by first | rfl | exact hr) (Nat.le_of_ble_eq_true rfl) ?_
  refine V_aload_n C dX1_begin_22 rfl ?_
  refine vg_X1_12 C dX1_begin_23 (by first | rfl | exact hr) rfl ?_
  refine V_iconst C dX1_begin_26 ?_
  refine vp_X1_85 C dX1_begin_27 (by first | rfl | exact hr) (Nat.le_of_ble_eq_true rfl) ?_
  refine V_aload_n C dX1_begin_30 rfl ?_
  refine V_iconst C dX1_begin_31 ?_
  refine vp_X1_71 C dX1_begin_32 (by first | rfl | exact hr) (Nat.le_of_ble_eq_true rfl) ?_
  refine V_aload_n C dX1_begin_35 rfl ?_
  refine vg_X1_46 C dX1_begin_36 (by first | rfl | exact hr) rfl ?_
  refine V_iconst C dX1_begin_39 ?_
  refine V_callS C lk_X1_88 (m_fillI G (i := 15) (n := 4) (g := mf) (v := -1) rfl (by decide)) dX1_begin_40 rfl rfl (by decide) (Nat.le_of_ble_eq_true rfl) (kO0 ?_)
  refine V_aload_n C dX1_begin_43 rfl ?_
  refine vg_X1_24 C dX1_begin_44 (by first | rfl | exact hr) rfl ?_
  refine V_iconst C dX1_begin_47 ?_
  refine vp_X1_94 C dX1_begin_48 (by first | rfl | exact hr) (Nat.le_of_ble_eq_true rfl) ?_
  refine V_aload_n C dX1_begin_51 rfl ?_
  refine vg_X1_38 C dX1_begin_52 (by first | rfl | exact hr) rfl ?_
  refine V_iconst C dX1_begin_55 ?_
  refine vp_X1_97 C dX1_begin_56 (by first | rfl | exact hr) (Nat.le_of_ble_eq_true rfl) ?_
  refine V_aload_n C dX1_begin_59 rfl ?_
  refine vg_X1_31 C dX1_begin_60 (by first | rfl | exact hr) rfl ?_
  refine V_callN C lk_X1_98 (m_X0_clear G (i := 9) (j := 10) (jj := 11) (f := kf) (s := ks) (k := k) ⟨rfl, ⟨rfl, rfl, rkf, by omega, by omega⟩, hk, by decide, hk3.1, hk3.2, hk4.1, hk4.2⟩) dX1_begin_63 rfl rfl (by first | rfl | exact hr) rfl (by decide) (Nat.le_of_ble_eq_true rfl) (kO0 ?_)
  refine V_aload_n C dX1_begin_66 rfl ?_
  refine V_iconst C dX1_begin_67 ?_
  refine vp_X1_75 C dX1_begin_68 (by first | rfl | exact hr) (Nat.le_of_ble_eq_true rfl) (by decide) ?_
  exact V_vret C R dX1_begin_71 ⟨rfl, rfl⟩
