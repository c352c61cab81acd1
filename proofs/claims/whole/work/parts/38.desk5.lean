/-! ===== Desk: strike, begin ===== -/
theorem pfm_n {f : Int → Int} {L c : Int} {pf pl pc : Int → Int} {nx sz : Int} {k sf : Int → Int} {sl : Int} {mf : Int → Int} {pla fro to n : Int} (hnx : 0 ≤ nx ∧ nx < 8) (hsz : 0 ≤ sz ∧ sz ≤ 8) (hn : 1 ≤ n ∧ n ≤ 99) : (0 ≤ (pfm f L c pf pl pc nx sz k sf sl mf pla fro to n).2.2.2.2.2.2.2.1 ∧ (pfm f L c pf pl pc nx sz k sf sl mf pla fro to n).2.2.2.2.2.2.2.1 < 8) ∧ (0 ≤ (pfm f L c pf pl pc nx sz k sf sl mf pla fro to n).2.2.2.2.2.2.2.2 ∧ (pfm f L c pf pl pc nx sz k sf sl mf pla fro to n).2.2.2.2.2.2.2.2 ≤ 8) ∧ (0 ≤ (pfm f L c pf pl pc nx sz k sf sl mf pla fro to n).1 ∧ (pfm f L c pf pl pc nx sz k sf sl mf pla fro to n).1 ≤ 3) := by
  by_cases c1 : k 2 = 0
  · rw [pfm_1 c1]; dsimp only; omega
  by_cases c2 : k 2 = 100
  · rw [pfm_2 c1 c2]; dsimp only; omega
  by_cases c3 : k 2 = 121
  · rw [pfm_3 c1 c2 c3]; dsimp only; omega
  by_cases c4 : k 2 = 99
  · rw [pfm_4 c1 c2 c3 c4]; dsimp only; omega
  by_cases c5 : k 2 = 114
  · rw [pfm_5 c1 c2 c3 c4 c5]; dsimp only; omega
  by_cases c6 : k 2 = 126
  · rw [pfm_6 c1 c2 c3 c4 c5 c6]; dsimp only; omega
  by_cases c7 : k 2 = 112
  · rw [pfm_7 c1 c2 c3 c4 c5 c6 c7]; dsimp only; omega
  by_cases c8 : k 2 = 80
  · rw [pfm_8 c1 c2 c3 c4 c5 c6 c7 c8]; dsimp only; omega
  by_cases c9 : k 2 = 105
  · rw [pfm_9 c1 c2 c3 c4 c5 c6 c7 c8 c9]; dsimp only; omega
  by_cases c10 : k 2 = 97
  · rw [pfm_10 c1 c2 c3 c4 c5 c6 c7 c8 c9 c10]; dsimp only; omega
  by_cases c11 : k 2 = 73
  · rw [pfm_11 c1 c2 c3 c4 c5 c6 c7 c8 c9 c10 c11]; dsimp only; omega
  by_cases c12 : k 2 = 65
  · rw [pfm_12 c1 c2 c3 c4 c5 c6 c7 c8 c9 c10 c11 c12]; dsimp only; omega
  by_cases c13 : k 2 = 117 ∧ sz = 0
  · rw [pfm_13 c1 c2 c3 c4 c5 c6 c7 c8 c9 c10 c11 c12 c13]; dsimp only; omega
  by_cases c14 : k 2 = 117
  · rw [pfm_14 c1 c2 c3 c4 c5 c6 c7 c8 c9 c10 c11 c12 c13 c14]; dsimp only; omega
  by_cases c15 : k 2 = 109
  · rw [pfm_15 c1 c2 c3 c4 c5 c6 c7 c8 c9 c10 c11 c12 c13 c14 c15]; dsimp only; omega
  rw [pfm_16 c1 c2 c3 c4 c5 c6 c7 c8 c9 c10 c11 c12 c13 c14 c15]; dsimp only; omega

set_option maxHeartbeats 4000000 in
set_option maxRecDepth 100000 in
theorem m_X1_strike (G : zG) {f bf pf pl pc k kf lf sf mf rf : Int → Int} {L c bL bc nx sz ks ls sl ty pla fro to : Int} {rest : List va_E} {x rep : Int} (O : okD f L c bf bL bc pf pl pc nx sz k kf ks lf ls sf sl mf rf ty pla fro to) (hx : 0 ≤ x ∧ x ≤ 126) (hrep : rep = 0 ∨ rep = 1) : zMet G yX1_strike cX1_strike 5 (some .int) 5 116 [.ref (G.ad 0), .int (iI x), .int (iI rep)] (dkL G f L c bf bL bc pf pl pc nx sz k kf ks lf ls sf sl mf rf ty pla fro to ++ rest) (zO (.int (iI (stk f L c bf bL bc pf pl pc nx sz k kf ks lf ls sf sl mf rf ty pla fro to x rep).1)) (dkT G (stk f L c bf bL bc pf pl pc nx sz k kf ks lf ls sf sl mf rf ty pla fro to x rep).2 ++ rest)) := by
  refine zMet.of (by decide) (Nat.le_of_ble_eq_true rfl) ?_
  intro E C R
  have C : zC G E RX1 cX1_strike 5 5 116 := C
  show V G E 0 [some (.ref (G.ad 0)), some (.int (iI x)), some (.int (iI rep)), none, none] [] (dkL G f L c bf bL bc pf pl pc nx sz k kf ks lf ls sf sl mf rf ty pla fro to ++ rest)
  obtain ⟨hf, hL, hc, hbf, hbL, hbc, hpf, hplc, hnx, hsz, hk, hk3, hk4, hkf, hks, hlf, hls, hsf, hsl, hmf, hrf, hty, hpa, hfr, hto, hcm⟩ := id O
  have hla := la_in hL.1
  have hlb := la_in hbL.1
  have rpl : ∀ j, rng (pl j) := fun j => by have := hplc j; omega
  have rpc : ∀ j, rng (pc j) := fun j => by have := hplc j; have := la_in (hplc j).1.1; omega
  have rkf : ∀ j, rng (kf j) := fun j => by have := hkf j; omega
  have rlf : ∀ j, rng (lf j) := fun j => by have := hlf j; omega
  have rmf : ∀ j, rng (mf j) := fun j => by have := hmf j; omega
  have gmf : ∀ j, -1 ≤ mf j := fun j => (hmf j).1
  obtain ⟨hr1, hr2, hr3, hr4⟩ := tkA_r (x := x) hk hk3 hk4 (by omega)
  obtain ⟨t1, t2, t3, t4⟩ := tmz_in hr2 hr3
  refine V_aload_n C dX1_strike_0 rfl ?_
  refine vg_X1_75 C dX1_strike_1 rfl rfl ?_
  refine V_if_eq (tgt := 14) C dX1_strike_4 (by decide) (by omega) (fun c_4 => ?_) (fun c_4 => ?_)
  · skip
    refine V_aload_n C dX1_strike_14 rfl ?_
    refine vg_X1_31 C dX1_strike_15 rfl rfl ?_
    refine V_iload_n C dX1_strike_18 rfl ?_
    refine V_callN C lk_X1_120 (m_X0_take G (i := 9) (j := 10) (jj := 11) ⟨rfl, ⟨rfl, rfl, rkf, by omega, by omega⟩, hk, by decide, hk3.1, hk3.2, hk4.1, hk4.2⟩ (by omega)) dX1_strike_19 rfl rfl rfl rfl (by decide) (Nat.le_of_ble_eq_true rfl) (kO ?_)
    refine V_istore_n C dX1_strike_22 (by decide) rfl ?_
    refine V_iload_n C dX1_strike_23 rfl ?_
    refine V_if_ne (tgt := 29) C dX1_strike_24 (by decide) (by omega) (fun c_24 => ?_) (fun c_24 => ?_)
    · skip
      refine V_aload_n C dX1_strike_29 rfl ?_
      refine vg_X1_18 C dX1_strike_30 rfl rfl ?_
      refine V_aload_n C dX1_strike_33 rfl ?_
      refine vg_X1_12 C dX1_strike_34 rfl rfl ?_
      refine V_callN C lk_X1_52 (m_X5_become G (i := 3) (j := 4) (i2 := 1) (j2 := 2) ⟨rfl, rfl, hbf, by omega, by omega⟩ ⟨rfl, rfl, hf, by omega, by omega⟩ (by decide)) dX1_strike_37 rfl rfl rfl rfl (by decide) (Nat.le_of_ble_eq_true rfl) (kO0 ?_)
      refine V_iload_n C dX1_strike_40 rfl ?_
      refine V_iconst C dX1_strike_41 ?_
      refine V_icmp_ne (tgt := 66) C dX1_strike_42 (by decide) (by omega) (by omega) (fun c_42 => ?_) (fun c_42 => ?_)
      · skip
        refine V_iconst C dX1_strike_66 ?_
        refine V_istore C dX1_strike_67 (by decide) rfl ?_
        refine V_iload C dX1_strike_69 rfl ?_
        refine V_iconst C dX1_strike_71 ?_
        refine V_icmp_ne (tgt := 82) C dX1_strike_72 (by decide) (by omega) (by omega) (fun c_72 => ?_) (fun c_72 => ?_)
        · skip
          refine V_iload C dX1_strike_82 rfl ?_
          refine V_iconst C dX1_strike_84 ?_
          refine V_icmp_ne (tgt := 93) C dX1_strike_85 (by decide) (by omega) (by omega) (fun c_85 => ?_) (fun c_85 => ?_)
          · skip
            refine V_aload_n C dX1_strike_93 rfl ?_
            refine vg_X1_31 C dX1_strike_94 rfl rfl ?_
            refine V_callN C lk_X1_98 (m_X0_clear G (i := 9) (j := 10) (jj := 11) (f := addF kf ks x) (s := min (ks + 1) 31) (k := (tkA k x).2) ⟨rfl, ⟨rfl, rfl, addF_rng rkf (by omega), by omega, by omega⟩, hr1, by decide, hr2.1, hr2.2, hr3.1, hr3.2⟩) dX1_strike_97 rfl rfl rfl rfl (by decide) (Nat.le_of_ble_eq_true rfl) (kO0 ?_)
            refine V_iload C dX1_strike_100 rfl ?_
            refine V_if_ne (tgt := 110) C dX1_strike_102 (by decide) (by omega) (fun c_102 => ?_) (fun c_102 => ?_)
            · omega
            · skip
              refine V_bipush C dX1_strike_105 (by decide) ?_
              refine V_goto (tgt := 111) C dX1_strike_107 (by decide) ?_
              exact V_iret C R dX1_strike_111 (by first | omega | exact ⟨by rw [stk_3 (by omega) (by omega) (by omega)], by rw [stk_3 (by omega) (by omega) (by omega)] <;> rfl⟩ | exact ⟨by rw [stk_4 (by omega) (by omega) (by omega) (by omega)], by rw [stk_4 (by omega) (by omega) (by omega) (by omega)] <;> rfl⟩ | exact ⟨by rw [stk_6 (by omega) (by omega) (by omega) (by omega) (by omega) (by omega)], by rw [stk_6 (by omega) (by omega) (by omega) (by omega) (by omega) (by omega)] <;> rfl⟩ | exact ⟨by rw [stk_7 (by omega) (by omega) (by omega) (by omega) (by omega) (by omega) (by omega)], by rw [stk_7 (by omega) (by omega) (by omega) (by omega) (by omega) (by omega) (by omega)] <;> rfl⟩ | exact ⟨by rw [stk_8 (by omega) (by omega) (by omega) (by omega) (by omega) (by omega) (by omega)], by rw [stk_8 (by omega) (by omega) (by omega) (by omega) (by omega) (by omega) (by omega)] <;> rfl⟩)
          · omega
        · omega
      · skip
        have hcc := hcm (by omega)
        have hw := tkA_w hcc (by omega)
        have hw6 : 0 ≤ (tkA k x).2 6 ∧ (tkA k x).2 6 ≤ 9 := ⟨hw.1, hw.2.1⟩
        have hc0 : 0 ≤ c ∧ c ≤ la L := by omega
        have hao := amO_in f L c mf (tkA k x).2
        have hap := amP_in (f := f) (c := c) (k := (tkA k x).2) hL (by omega) gmf hpa
        refine V_aload_n C dX1_strike_45 rfl ?_
        refine V_callV C lk_X1_124 (m_X1_aim G (f := f) (L := L) (c := c) (bf := zcp f bf 0 0 60) (bL := L) (bc := c) (pf := pf) (pl := pl) (pc := pc) (nx := nx) (sz := sz) (k := (tkA k x).2) (kf := addF kf ks x) (ks := min (ks + 1) 31) (lf := lf) (ls := ls) (sf := sf) (sl := sl) (mf := mf) (rf := rf) (ty := ty) (pla := pla) (fro := fro) (to := to) (rest := rest) hf hL hc0 hr1 hr2 hr3 hw6 rmf gmf) dX1_strike_46 rfl rfl rfl rfl (by decide) (Nat.le_of_ble_eq_true rfl) (kO ?_)
        refine V_if_eq (tgt := 66) C dX1_strike_49 (by decide) hao (fun c_49 => ?_) (fun c_49 => ?_)
        · skip
          refine V_iconst C dX1_strike_66 ?_
          refine V_istore C dX1_strike_67 (by decide) rfl ?_
          refine V_iload C dX1_strike_69 rfl ?_
          refine V_iconst C dX1_strike_71 ?_
          refine V_icmp_ne (tgt := 82) C dX1_strike_72 (by decide) (by omega) (by omega) (fun c_72 => ?_) (fun c_72 => ?_)
          · skip
            refine V_iload C dX1_strike_82 rfl ?_
            refine V_iconst C dX1_strike_84 ?_
            refine V_icmp_ne (tgt := 93) C dX1_strike_85 (by decide) (by omega) (by omega) (fun c_85 => ?_) (fun c_85 => ?_)
            · skip
              refine V_aload_n C dX1_strike_93 rfl ?_
              refine vg_X1_31 C dX1_strike_94 rfl rfl ?_
              refine V_callN C lk_X1_98 (m_X0_clear G (i := 9) (j := 10) (jj := 11) (f := addF kf ks x) (s := min (ks + 1) 31) (k := (tkA k x).2) ⟨rfl, ⟨rfl, rfl, addF_rng rkf (by omega), by omega, by omega⟩, hr1, by decide, hr2.1, hr2.2, hr3.1, hr3.2⟩) dX1_strike_97 rfl rfl rfl rfl (by decide) (Nat.le_of_ble_eq_true rfl) (kO0 ?_)
              refine V_iload C dX1_strike_100 rfl ?_
              refine V_if_ne (tgt := 110) C dX1_strike_102 (by decide) (by omega) (fun c_102 => ?_) (fun c_102 => ?_)
              · omega
              · skip
                refine V_bipush C dX1_strike_105 (by decide) ?_
                refine V_goto (tgt := 111) C dX1_strike_107 (by decide) ?_
                exact V_iret C R dX1_strike_111 (by first | omega | exact ⟨by rw [stk_3 (by omega) (by omega) (by omega)], by rw [stk_3 (by omega) (by omega) (by omega)] <;> rfl⟩ | exact ⟨by rw [stk_4 (by omega) (by omega) (by omega) (by omega)], by rw [stk_4 (by omega) (by omega) (by omega) (by omega)] <;> rfl⟩ | exact ⟨by rw [stk_6 (by omega) (by omega) (by omega) (by omega) (by omega) (by omega)], by rw [stk_6 (by omega) (by omega) (by omega) (by omega) (by omega) (by omega)] <;> rfl⟩ | exact ⟨by rw [stk_7 (by omega) (by omega) (by omega) (by omega) (by omega) (by omega) (by omega)], by rw [stk_7 (by omega) (by omega) (by omega) (by omega) (by omega) (by omega) (by omega)] <;> rfl⟩ | exact ⟨by rw [stk_8 (by omega) (by omega) (by omega) (by omega) (by omega) (by omega) (by omega)], by rw [stk_8 (by omega) (by omega) (by omega) (by omega) (by omega) (by omega) (by omega)] <;> rfl⟩)
            · omega
          · omega
        · skip
          refine V_aload_n C dX1_strike_52 rfl ?_
          refine V_aload_n C dX1_strike_53 rfl ?_
          refine vg_X1_31 C dX1_strike_54 rfl rfl ?_
          refine V_callN C lk_X1_127 (m_X0_times G (i := 9) (j := 10) (k := (tkA k x).2) rfl hr1 hr2 hr3) dX1_strike_57 rfl rfl rfl rfl (by decide) (Nat.le_of_ble_eq_true rfl) (kO ?_)
          refine V_callV C lk_X1_131 (m_X1_perform G (f := f) (L := L) (c := c) (bf := zcp f bf 0 0 60) (bL := L) (bc := c) (pf := pf) (pl := pl) (pc := pc) (nx := nx) (sz := sz) (k := (tkA k x).2) (kf := addF kf ks x) (ks := min (ks + 1) 31) (lf := lf) (ls := ls) (sf := sf) (sl := sl) (mf := mf) (rf := rf) (ty := ty) (pla := amP f L c mf (tkA k x).2 pla) (fro := amF f L c mf (tkA k x).2 fro) (to := amT f L c mf (tkA k x).2 to) (rest := rest) hf hL hc0 (by omega) hr1 hsl hsf hap (fun h => amR hL hc0 gmf hr2 hr3 (hw.2.2 h) c_49) hpf rpl rpc hnx hsz) dX1_strike_60 rfl rfl rfl rfl (by decide) (Nat.le_of_ble_eq_true rfl) (kO ?_)
          obtain ⟨hpn, hps, hp0⟩ := pfm_n (f := f) (L := L) (c := c) (pf := pf) (pl := pl) (pc := pc) (k := (tkA k x).2) (sf := sf) (sl := sl) (mf := mf) (pla := amP f L c mf (tkA k x).2 pla) (fro := amF f L c mf (tkA k x).2 fro) (to := amT f L c mf (tkA k x).2 to) (n := tmz (tkA k x).2) hnx hsz (by omega)
          refine V_goto (tgt := 67) C dX1_strike_63 (by decide) ?_
          refine V_istore C dX1_strike_67 (by decide) rfl ?_
          refine V_iload C dX1_strike_69 rfl ?_
          refine V_iconst C dX1_strike_71 ?_
          refine V_icmp_ne (tgt := 82) C dX1_strike_72 (by decide) (by omega) (by omega) (fun c_72 => ?_) (fun c_72 => ?_)
          · skip
            refine V_iload C dX1_strike_82 rfl ?_
            refine V_iconst C dX1_strike_84 ?_
            refine V_icmp_ne (tgt := 93) C dX1_strike_85 (by decide) (by omega) (by omega) (fun c_85 => ?_) (fun c_85 => ?_)
            · skip
              refine V_aload_n C dX1_strike_93 rfl ?_
              refine vg_X1_31 C dX1_strike_94 rfl rfl ?_
              refine V_callN C lk_X1_98 (m_X0_clear G (i := 9) (j := 10) (jj := 11) (f := addF kf ks x) (s := min (ks + 1) 31) (k := (tkA k x).2) ⟨rfl, ⟨rfl, rfl, addF_rng rkf (by omega), by omega, by omega⟩, hr1, by decide, hr2.1, hr2.2, hr3.1, hr3.2⟩) dX1_strike_97 rfl rfl rfl rfl (by decide) (Nat.le_of_ble_eq_true rfl) (kO0 ?_)
              refine V_iload C dX1_strike_100 rfl ?_
              refine V_if_ne (tgt := 110) C dX1_strike_102 (by decide) (by omega) (fun c_102 => ?_) (fun c_102 => ?_)
              · skip
                refine V_iconst C dX1_strike_110 ?_
                exact V_iret C R dX1_strike_111 (by first | omega | exact ⟨by rw [stk_3 (by omega) (by omega) (by omega)], by rw [stk_3 (by omega) (by omega) (by omega)] <;> rfl⟩ | exact ⟨by rw [stk_4 (by omega) (by omega) (by omega) (by omega)], by rw [stk_4 (by omega) (by omega) (by omega) (by omega)] <;> rfl⟩ | exact ⟨by rw [stk_6 (by omega) (by omega) (by omega) (by omega) (by omega) (by omega)], by rw [stk_6 (by omega) (by omega) (by omega) (by omega) (by omega) (by omega)] <;> rfl⟩ | exact ⟨by rw [stk_7 (by omega) (by omega) (by omega) (by omega) (by omega) (by omega) (by omega)], by rw [stk_7 (by omega) (by omega) (by omega) (by omega) (by omega) (by omega) (by omega)] <;> rfl⟩ | exact ⟨by rw [stk_8 (by omega) (by omega) (by omega) (by omega) (by omega) (by omega) (by omega)], by rw [stk_8 (by omega) (by omega) (by omega) (by omega) (by omega) (by omega) (by omega)] <;> rfl⟩)
              · skip
                refine V_bipush C dX1_strike_105 (by decide) ?_
                refine V_goto (tgt := 111) C dX1_strike_107 (by decide) ?_
                exact V_iret C R dX1_strike_111 (by first | omega | exact ⟨by rw [stk_3 (by omega) (by omega) (by omega)], by rw [stk_3 (by omega) (by omega) (by omega)] <;> rfl⟩ | exact ⟨by rw [stk_4 (by omega) (by omega) (by omega) (by omega)], by rw [stk_4 (by omega) (by omega) (by omega) (by omega)] <;> rfl⟩ | exact ⟨by rw [stk_6 (by omega) (by omega) (by omega) (by omega) (by omega) (by omega)], by rw [stk_6 (by omega) (by omega) (by omega) (by omega) (by omega) (by omega)] <;> rfl⟩ | exact ⟨by rw [stk_7 (by omega) (by omega) (by omega) (by omega) (by omega) (by omega) (by omega)], by rw [stk_7 (by omega) (by omega) (by omega) (by omega) (by omega) (by omega) (by omega)] <;> rfl⟩ | exact ⟨by rw [stk_8 (by omega) (by omega) (by omega) (by omega) (by omega) (by omega) (by omega)], by rw [stk_8 (by omega) (by omega) (by omega) (by omega) (by omega) (by omega) (by omega)] <;> rfl⟩)
            · skip
              refine V_aload_n C dX1_strike_88 rfl ?_
              refine V_iload_n C dX1_strike_89 rfl ?_
              refine V_callV C lk_X1_134 (m_X1_remember G (f := (pfm f L c pf pl pc nx sz (tkA k x).2 sf sl mf (amP f L c mf (tkA k x).2 pla) (amF f L c mf (tkA k x).2 fro) (amT f L c mf (tkA k x).2 to) (tmz (tkA k x).2)).2.1) (L := (pfm f L c pf pl pc nx sz (tkA k x).2 sf sl mf (amP f L c mf (tkA k x).2 pla) (amF f L c mf (tkA k x).2 fro) (amT f L c mf (tkA k x).2 to) (tmz (tkA k x).2)).2.2.1) (c := (pfm f L c pf pl pc nx sz (tkA k x).2 sf sl mf (amP f L c mf (tkA k x).2 pla) (amF f L c mf (tkA k x).2 fro) (amT f L c mf (tkA k x).2 to) (tmz (tkA k x).2)).2.2.2.1) (bf := zcp f bf 0 0 60) (bL := L) (bc := c) (pf := pf) (pl := pl) (pc := pc) (nx := (pfm f L c pf pl pc nx sz (tkA k x).2 sf sl mf (amP f L c mf (tkA k x).2 pla) (amF f L c mf (tkA k x).2 fro) (amT f L c mf (tkA k x).2 to) (tmz (tkA k x).2)).2.2.2.2.2.2.2.1) (sz := (pfm f L c pf pl pc nx sz (tkA k x).2 sf sl mf (amP f L c mf (tkA k x).2 pla) (amF f L c mf (tkA k x).2 fro) (amT f L c mf (tkA k x).2 to) (tmz (tkA k x).2)).2.2.2.2.2.2.2.2) (k := (tkA k x).2) (kf := addF kf ks x) (ks := min (ks + 1) 31) (lf := lf) (ls := ls) (sf := (pfm f L c pf pl pc nx sz (tkA k x).2 sf sl mf (amP f L c mf (tkA k x).2 pla) (amF f L c mf (tkA k x).2 fro) (amT f L c mf (tkA k x).2 to) (tmz (tkA k x).2)).2.2.2.2.1) (sl := (pfm f L c pf pl pc nx sz (tkA k x).2 sf sl mf (amP f L c mf (tkA k x).2 pla) (amF f L c mf (tkA k x).2 fro) (amT f L c mf (tkA k x).2 to) (tmz (tkA k x).2)).2.2.2.2.2.1) (mf := (pfm f L c pf pl pc nx sz (tkA k x).2 sf sl mf (amP f L c mf (tkA k x).2 pla) (amF f L c mf (tkA k x).2 fro) (amT f L c mf (tkA k x).2 to) (tmz (tkA k x).2)).2.2.2.2.2.2.1) (rf := rf) (ty := ty) (pla := amP f L c mf (tkA k x).2 pla) (fro := amF f L c mf (tkA k x).2 fro) (to := amT f L c mf (tkA k x).2 to) (rest := rest) hrep (zcp_rng hf hbf) hL hpf rpl rpc hpn hps (addF_rng rkf (by omega)) (by omega) rlf hls) dX1_strike_90 rfl rfl rfl rfl (by decide) (Nat.le_of_ble_eq_true rfl) (kO0 ?_)
              refine V_aload_n C dX1_strike_93 rfl ?_
              refine vg_X1_31 C dX1_strike_94 rfl rfl ?_
              refine V_callN C lk_X1_98 (m_X0_clear G (i := 9) (j := 10) (jj := 11) (f := addF kf ks x) (s := min (ks + 1) 31) (k := (tkA k x).2) ⟨rfl, ⟨rfl, rfl, addF_rng rkf (by omega), by omega, by omega⟩, hr1, by decide, hr2.1, hr2.2, hr3.1, hr3.2⟩) dX1_strike_97 rfl rfl rfl rfl (by decide) (Nat.le_of_ble_eq_true rfl) (kO0 ?_)
              refine V_iload C dX1_strike_100 rfl ?_
              refine V_if_ne (tgt := 110) C dX1_strike_102 (by decide) (by omega) (fun c_102 => ?_) (fun c_102 => ?_)
              · skip
                refine V_iconst C dX1_strike_110 ?_
                exact V_iret C R dX1_strike_111 (by first | omega | exact ⟨by rw [stk_3 (by omega) (by omega) (by omega)], by rw [stk_3 (by omega) (by omega) (by omega)] <;> rfl⟩ | exact ⟨by rw [stk_4 (by omega) (by omega) (by omega) (by omega)], by rw [stk_4 (by omega) (by omega) (by omega) (by omega)] <;> rfl⟩ | exact ⟨by rw [stk_6 (by omega) (by omega) (by omega) (by omega) (by omega) (by omega)], by rw [stk_6 (by omega) (by omega) (by omega) (by omega) (by omega) (by omega)] <;> rfl⟩ | exact ⟨by rw [stk_7 (by omega) (by omega) (by omega) (by omega) (by omega) (by omega) (by omega)], by rw [stk_7 (by omega) (by omega) (by omega) (by omega) (by omega) (by omega) (by omega)] <;> rfl⟩ | exact ⟨by rw [stk_8 (by omega) (by omega) (by omega) (by omega) (by omega) (by omega) (by omega)], by rw [stk_8 (by omega) (by omega) (by omega) (by omega) (by omega) (by omega) (by omega)] <;> rfl⟩)
              · skip
                refine V_bipush C dX1_strike_105 (by decide) ?_
                refine V_goto (tgt := 111) C dX1_strike_107 (by decide) ?_
                exact V_iret C R dX1_strike_111 (by first | omega | exact ⟨by rw [stk_3 (by omega) (by omega) (by omega)], by rw [stk_3 (by omega) (by omega) (by omega)] <;> rfl⟩ | exact ⟨by rw [stk_4 (by omega) (by omega) (by omega) (by omega)], by rw [stk_4 (by omega) (by omega) (by omega) (by omega)] <;> rfl⟩ | exact ⟨by rw [stk_6 (by omega) (by omega) (by omega) (by omega) (by omega) (by omega)], by rw [stk_6 (by omega) (by omega) (by omega) (by omega) (by omega) (by omega)] <;> rfl⟩ | exact ⟨by rw [stk_7 (by omega) (by omega) (by omega) (by omega) (by omega) (by omega) (by omega)], by rw [stk_7 (by omega) (by omega) (by omega) (by omega) (by omega) (by omega) (by omega)] <;> rfl⟩ | exact ⟨by rw [stk_8 (by omega) (by omega) (by omega) (by omega) (by omega) (by omega) (by omega)], by rw [stk_8 (by omega) (by omega) (by omega) (by omega) (by omega) (by omega) (by omega)] <;> rfl⟩)
          · skip
            refine V_aload_n C dX1_strike_75 rfl ?_
            refine V_iconst C dX1_strike_76 ?_
            refine vp_X1_75 C dX1_strike_77 rfl (Nat.le_of_ble_eq_true rfl) (by decide) ?_
            refine V_iconst C dX1_strike_80 ?_
            exact V_iret C R dX1_strike_81 (by first | omega | exact ⟨by rw [stk_5 (by omega) (by omega) (by omega) (by omega) (by omega)], by rw [stk_5 (by omega) (by omega) (by omega) (by omega) (by omega)] <;> rfl⟩)
    · skip
      refine V_iconst C dX1_strike_27 ?_
      exact V_iret C R dX1_strike_28 ⟨by rw [stk_2 (by omega) (by omega)], by rw [stk_2 (by omega) (by omega)] <;> rfl⟩
  · skip
    refine V_aload_n C dX1_strike_7 rfl ?_
    refine V_iload_n C dX1_strike_8 rfl ?_
    refine V_iload_n C dX1_strike_9 rfl ?_
    refine V_callV C lk_X1_117 (m_X1_typeIn G O hx hrep (by omega)) dX1_strike_10 rfl rfl rfl rfl (by decide) (Nat.le_of_ble_eq_true rfl) (kO ?_)
    exact V_iret C R dX1_strike_13 ⟨by rw [stk_1 (by omega)], by rw [stk_1 (by omega)] <;> rfl⟩
