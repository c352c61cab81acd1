def cnM (un : Int) (g : Int → Int) (w : Int) : Int := if w = 0 then g 0 else if w = 1 then g 61 else if w = 2 then g 62 else if w = 3 then b2z (0 < g 159 ∧ g 62 = 0) else if w = 4 then g 63 else if w = 5 then bsN (fun j => decide (g (124 + j) ≠ -4)) 4 else if w = 6 then un else if w = 7 then wd (lt g) (g 0) 0 0 else if w = 8 then g 128 else -1

set_option maxRecDepth 100000 in
theorem m_X8_count (G : zG) {un td ku : Int} {g ah ag tp co wy th kp ka ln sn it mv : Int → Int} {rest : List va_E} (hg : ∀ j, rng (g j))  (hL : 0 ≤ g 0 ∧ g 0 ≤ 60) {w : Int} (hw : rng w) : zMet G yX8_count cX8_count 2 (some .int) 4 89 [.ref (G.ad 0), .int (iI w)] (mdL G un td ku g ah ag tp co wy th kp ka ln sn it mv ++ rest) (zO (.int (iI (cnM un g w))) (mdL G un td ku g ah ag tp co wy th kp ka ln sn it mv ++ rest)) := by
  refine zMet.of (by decide) (Nat.le_of_ble_eq_true rfl) ?_
  intro E C R
  have C : zC G E RX8 cX8_count 2 4 89 := C
  show V G E 0 [some (.ref (G.ad 0)), some (.int (iI w))] [] (mdL G un td ku g ah ag tp co wy th kp ka ln sn it mv ++ rest)
  refine V_iload_n C dX8_count_0 rfl ?_
  by_cases w_1_0 : w = 0
  · skip
    refine V_tableIn (tgt := 52) (off := 51) C dX8_count_1 (by omega) (by omega) (by omega) (by rw [w_1_0]; rfl) (by decide) ?_
    refine V_aload_n C dX8_count_52 rfl ?_
    refine vg_X8_7 C dX8_count_53 rfl rfl ?_
    refine V_iconst C dX8_count_56 ?_
    refine V_iald C dX8_count_57 rfl (by omega) (by omega) (by decide) (by repeat' (first | with_reducible assumption | refine zup_rng ?_ (by first | omega | exact hg _) | refine zcp_rng ?_ ?_ | refine ovr_rng ?_ (by omega) | refine zcp_rngL ?_ ?_ | refine zup_rngL ?_ (by omega))) (fun r_57 => ?_)
    exact V_iret C R dX8_count_58 (zO_i (by unfold cnM; rw [if_pos (by omega)]))
  by_cases w_1_1 : w = 1
  · skip
    refine V_tableIn (tgt := 59) (off := 58) C dX8_count_1 (by omega) (by omega) (by omega) (by rw [w_1_1]; rfl) (by decide) ?_
    refine V_aload_n C dX8_count_59 rfl ?_
    refine vg_X8_7 C dX8_count_60 rfl rfl ?_
    refine V_bipush C dX8_count_63 (by decide) ?_
    refine V_iald C dX8_count_65 rfl (by omega) (by omega) (by decide) (by repeat' (first | with_reducible assumption | refine zup_rng ?_ (by first | omega | exact hg _) | refine zcp_rng ?_ ?_ | refine ovr_rng ?_ (by omega) | refine zcp_rngL ?_ ?_ | refine zup_rngL ?_ (by omega))) (fun r_65 => ?_)
    exact V_iret C R dX8_count_66 (zO_i (by unfold cnM; rw [if_neg (by omega), if_pos (by omega)]))
  by_cases w_1_2 : w = 2
  · skip
    refine V_tableIn (tgt := 67) (off := 66) C dX8_count_1 (by omega) (by omega) (by omega) (by rw [w_1_2]; rfl) (by decide) ?_
    refine V_aload_n C dX8_count_67 rfl ?_
    refine vg_X8_7 C dX8_count_68 rfl rfl ?_
    refine V_bipush C dX8_count_71 (by decide) ?_
    refine V_iald C dX8_count_73 rfl (by omega) (by omega) (by decide) (by repeat' (first | with_reducible assumption | refine zup_rng ?_ (by first | omega | exact hg _) | refine zcp_rng ?_ ?_ | refine ovr_rng ?_ (by omega) | refine zcp_rngL ?_ ?_ | refine zup_rngL ?_ (by omega))) (fun r_73 => ?_)
    exact V_iret C R dX8_count_74 (zO_i (by unfold cnM; rw [if_neg (by omega), if_neg (by omega), if_pos (by omega)]))
  by_cases w_1_3 : w = 3
  · skip
    refine V_tableIn (tgt := 75) (off := 74) C dX8_count_1 (by omega) (by omega) (by omega) (by rw [w_1_3]; rfl) (by decide) ?_
    refine V_midb (pc2 := 101) (0 < g 159 ∧ g 62 = 0) ?_ (fun kt_75 kf_75 => ?_)
    · skip
      exact V_iret C R dX8_count_101 (zO_i (by unfold cnM; rw [if_neg (by omega), if_neg (by omega), if_neg (by omega), if_pos (by omega)]))
    · skip
      refine V_aload_n C dX8_count_75 rfl ?_
      refine vg_X8_7 C dX8_count_76 rfl rfl ?_
      refine V_sipush C dX8_count_79 (by decide) ?_
      refine V_iald C dX8_count_82 rfl (by omega) (by omega) (by decide) (by repeat' (first | with_reducible assumption | refine zup_rng ?_ (by first | omega | exact hg _) | refine zcp_rng ?_ ?_ | refine ovr_rng ?_ (by omega) | refine zcp_rngL ?_ ?_ | refine zup_rngL ?_ (by omega))) (fun r_82 => ?_)
      refine V_if_le (tgt := 100) C dX8_count_83 (by decide) (by omega) (fun c_83 => ?_) (fun c_83 => ?_)
      · skip
        refine V_iconst C dX8_count_100 ?_
        exact kf_75 (by omega)
      · skip
        refine V_aload_n C dX8_count_86 rfl ?_
        refine vg_X8_7 C dX8_count_87 rfl rfl ?_
        refine V_bipush C dX8_count_90 (by decide) ?_
        refine V_iald C dX8_count_92 rfl (by omega) (by omega) (by decide) (by repeat' (first | with_reducible assumption | refine zup_rng ?_ (by first | omega | exact hg _) | refine zcp_rng ?_ ?_ | refine ovr_rng ?_ (by omega) | refine zcp_rngL ?_ ?_ | refine zup_rngL ?_ (by omega))) (fun r_92 => ?_)
        refine V_if_ne (tgt := 100) C dX8_count_93 (by decide) (by omega) (fun c_93 => ?_) (fun c_93 => ?_)
        · skip
          refine V_iconst C dX8_count_100 ?_
          exact kf_75 (by omega)
        · skip
          refine V_iconst C dX8_count_96 ?_
          refine V_goto (tgt := 101) C dX8_count_97 (by decide) ?_
          exact kt_75 (by omega)
  by_cases w_1_4 : w = 4
  · skip
    refine V_tableIn (tgt := 102) (off := 101) C dX8_count_1 (by omega) (by omega) (by omega) (by rw [w_1_4]; rfl) (by decide) ?_
    refine V_aload_n C dX8_count_102 rfl ?_
    refine vg_X8_7 C dX8_count_103 rfl rfl ?_
    refine V_bipush C dX8_count_106 (by decide) ?_
    refine V_iald C dX8_count_108 rfl (by omega) (by omega) (by decide) (by repeat' (first | with_reducible assumption | refine zup_rng ?_ (by first | omega | exact hg _) | refine zcp_rng ?_ ?_ | refine ovr_rng ?_ (by omega) | refine zcp_rngL ?_ ?_ | refine zup_rngL ?_ (by omega))) (fun r_108 => ?_)
    exact V_iret C R dX8_count_109 (zO_i (by unfold cnM; rw [if_neg (by omega), if_neg (by omega), if_neg (by omega), if_neg (by omega), if_pos (by omega)]))
  by_cases w_1_5 : w = 5
  · skip
    refine V_tableIn (tgt := 110) (off := 109) C dX8_count_1 (by omega) (by omega) (by omega) (by rw [w_1_5]; rfl) (by decide) ?_
    refine V_aload_n C dX8_count_110 rfl ?_
    refine V_callV C lk_X8_208 (m_X8_marks G hg) dX8_count_111 rfl rfl rfl rfl (by decide) (Nat.le_of_ble_eq_true rfl) (kO ?_)
    exact V_iret C R dX8_count_114 (zO_i (by unfold cnM; rw [if_neg (by omega), if_neg (by omega), if_neg (by omega), if_neg (by omega), if_neg (by omega), if_pos (by omega)]))
  by_cases w_1_6 : w = 6
  · skip
    refine V_tableIn (tgt := 115) (off := 114) C dX8_count_1 (by omega) (by omega) (by omega) (by rw [w_1_6]; rfl) (by decide) ?_
    refine V_aload_n C dX8_count_115 rfl ?_
    refine vg_X8_97 C dX8_count_116 rfl rfl ?_
    exact V_iret C R dX8_count_119 (zO_i (by unfold cnM; rw [if_neg (by omega), if_neg (by omega), if_neg (by omega), if_neg (by omega), if_neg (by omega), if_neg (by omega), if_pos (by omega)]))
  by_cases w_1_7 : w = 7
  · skip
    refine V_tableIn (tgt := 120) (off := 119) C dX8_count_1 (by omega) (by omega) (by omega) (by rw [w_1_7]; rfl) (by decide) ?_
    refine V_aload_n C dX8_count_120 rfl ?_
    refine V_callV C lk_X8_211 (m_X8_wordsOf G hg hL) dX8_count_121 rfl rfl rfl rfl (by decide) (Nat.le_of_ble_eq_true rfl) (kO ?_)
    exact V_iret C R dX8_count_124 (zO_i (by unfold cnM; rw [if_neg (by omega), if_neg (by omega), if_neg (by omega), if_neg (by omega), if_neg (by omega), if_neg (by omega), if_neg (by omega), if_pos (by omega)]))
  by_cases w_1_8 : w = 8
  · skip
    refine V_tableIn (tgt := 125) (off := 124) C dX8_count_1 (by omega) (by omega) (by omega) (by rw [w_1_8]; rfl) (by decide) ?_
    refine V_aload_n C dX8_count_125 rfl ?_
    refine vg_X8_7 C dX8_count_126 rfl rfl ?_
    refine V_sipush C dX8_count_129 (by decide) ?_
    refine V_iald C dX8_count_132 rfl (by omega) (by omega) (by decide) (by repeat' (first | with_reducible assumption | refine zup_rng ?_ (by first | omega | exact hg _) | refine zcp_rng ?_ ?_ | refine ovr_rng ?_ (by omega) | refine zcp_rngL ?_ ?_ | refine zup_rngL ?_ (by omega))) (fun r_132 => ?_)
    exact V_iret C R dX8_count_133 (zO_i (by unfold cnM; rw [if_neg (by omega), if_neg (by omega), if_neg (by omega), if_neg (by omega), if_neg (by omega), if_neg (by omega), if_neg (by omega), if_neg (by omega), if_pos (by omega)]))
  refine V_tableOut (tgt := 134) C dX8_count_1 (by omega) (by omega) (by decide) ?_
  refine V_iconst C dX8_count_134 ?_
  exact V_iret C R dX8_count_135 (zO_i (by unfold cnM; rw [if_neg (by omega), if_neg (by omega), if_neg (by omega), if_neg (by omega), if_neg (by omega), if_neg (by omega), if_neg (by omega), if_neg (by omega), if_neg (by omega)]))

set_option maxRecDepth 100000 in
theorem m_X8_cut (G : zG) {cs : List va_E} {v a : Int} (ha : rng a) : zMet G yX8_cut cX8_cut 3 (some .long) 0 0 [.long (lI v), .int (iI a)] cs (zO (.long (lI (cutZ a v))) cs) := by
  refine zMet.of (by decide) (Nat.le_of_ble_eq_true rfl) ?_
  intro E C R
  have C : zC G E RX8 cX8_cut 3 0 0 := C
  show V G E 0 [some (.long (lI v)), none, some (.int (iI a))] [] cs
  refine V_iload_n C dX8_cut_0 rfl ?_
  refine V_if_ne (tgt := 11) C dX8_cut_1 (by decide) (by omega) (fun c_1 => ?_) (fun c_1 => ?_)
  · skip
    refine V_iload_n C dX8_cut_11 rfl ?_
    refine V_iconst C dX8_cut_12 ?_
    refine V_icmp_ne (tgt := 23) C dX8_cut_13 (by decide) (by omega) (by omega) (fun c_13 => ?_) (fun c_13 => ?_)
    · skip
      refine V_iload_n C dX8_cut_23 rfl ?_
      refine V_iconst C dX8_cut_24 ?_
      refine V_icmp_ne (tgt := 34) C dX8_cut_25 (by decide) (by omega) (by omega) (fun c_25 => ?_) (fun c_25 => ?_)
      · skip
        refine V_lload_n C dX8_cut_34 rfl ?_
        exact V_lret C R dX8_cut_35 ⟨by unfold cutZ; first | (rw [if_pos (by omega)]; done) | (rw [if_neg (by omega), if_pos (by omega)]; done) | (rw [if_neg (by omega), if_neg (by omega), if_pos (by omega)]; done) | (rw [if_neg (by omega), if_neg (by omega), if_neg (by omega)]; done), rfl⟩
      · skip
        refine V_lload_n C dX8_cut_28 rfl ?_
        refine V_l2i C dX8_cut_29 ?_
        refine V_i2lz C dX8_cut_30 ?_
        refine V_goto (tgt := 35) C dX8_cut_31 (by decide) ?_
        exact V_lret C R dX8_cut_35 ⟨by unfold cutZ; first | (rw [if_pos (by omega)]; done) | (rw [if_neg (by omega), if_pos (by omega)]; done) | (rw [if_neg (by omega), if_neg (by omega), if_pos (by omega)]; done) | (rw [if_neg (by omega), if_neg (by omega), if_neg (by omega)]; done), rfl⟩
    · skip
      refine V_lload_n C dX8_cut_16 rfl ?_
      refine V_l2i C dX8_cut_17 ?_
      refine V_i2s C dX8_cut_18 ?_
      refine V_i2l C dX8_cut_19 (zsh_rng v) ?_
      refine V_goto (tgt := 35) C dX8_cut_20 (by decide) ?_
      exact V_lret C R dX8_cut_35 ⟨by unfold cutZ; first | (rw [if_pos (by omega)]; done) | (rw [if_neg (by omega), if_pos (by omega)]; done) | (rw [if_neg (by omega), if_neg (by omega), if_pos (by omega)]; done) | (rw [if_neg (by omega), if_neg (by omega), if_neg (by omega)]; done), rfl⟩
  · skip
    refine V_lload_n C dX8_cut_4 rfl ?_
    refine V_l2i C dX8_cut_5 ?_
    refine V_i2b C dX8_cut_6 ?_
    refine V_i2l C dX8_cut_7 (zby_rng v) ?_
    refine V_goto (tgt := 35) C dX8_cut_8 (by decide) ?_
    exact V_lret C R dX8_cut_35 ⟨by unfold cutZ; first | (rw [if_pos (by omega)]; done) | (rw [if_neg (by omega), if_pos (by omega)]; done) | (rw [if_neg (by omega), if_neg (by omega), if_pos (by omega)]; done) | (rw [if_neg (by omega), if_neg (by omega), if_neg (by omega)]; done), rfl⟩

set_option maxRecDepth 100000 in
theorem m_X8_sheet (G : zG) {un td ku : Int} {g ah ag tp co wy th kp ka ln sn it mv : Int → Int} {rest : List va_E}  {s a n : Int} (hs : rng s) (ha : rng a) (hn : rng n) : zMet G yX8_sheet cX8_sheet 5 (some .int) 2 45 [.ref (G.ad 0), .int (iI s), .int (iI a), .int (iI n)] (mdL G un td ku g ah ag tp co wy th kp ka ln sn it mv ++ rest) (zO (.int (iI (if (0 ≤ s ∧ s ≤ 3 ∧ 0 ≤ a ∧ a ≤ 3 ∧ n ≤ 24) then (if n < 0 then -14 else n) else -1))) (mdL G un td ku g ah ag tp co wy th kp ka (if (0 ≤ s ∧ s ≤ 3 ∧ 0 ≤ a ∧ a ≤ 3 ∧ n ≤ 24) ∧ 0 ≤ n then zup ln s a else ln) (if (0 ≤ s ∧ s ≤ 3 ∧ 0 ≤ a ∧ a ≤ 3 ∧ n ≤ 24) ∧ 0 ≤ n then zup sn s n else sn) (if (0 ≤ s ∧ s ≤ 3 ∧ 0 ≤ a ∧ a ≤ 3 ∧ n ≤ 24) ∧ 0 ≤ n then ovr it (24 * s) (24 * s + 24) 0 else it) mv ++ rest)) := by
  refine zMet.of (by decide) (Nat.le_of_ble_eq_true rfl) ?_
  intro E C R
  have C : zC G E RX8 cX8_sheet 5 2 45 := C
  show V G E 0 [some (.ref (G.ad 0)), some (.int (iI s)), some (.int (iI a)), some (.int (iI n)), none] [] (mdL G un td ku g ah ag tp co wy th kp ka ln sn it mv ++ rest)
  refine V_iload_n C dX8_sheet_0 rfl ?_
  refine V_callS C lk_X8_239 (m_X8_isSheet G hs) dX8_sheet_1 rfl rfl (by decide) (Nat.le_of_ble_eq_true rfl) (kO ?_)
  refine V_if_eqB (tgt := 25) C dX8_sheet_4 (by decide) (fun c_4 => ?_) (fun c_4 => ?_)
  · skip
    refine V_iconst C dX8_sheet_25 ?_
    exact V_iret C R dX8_sheet_26 ⟨by rw [if_neg (by omega)], by rw [if_neg (by omega), if_neg (by omega), if_neg (by omega)] <;> rfl⟩
  · skip
    refine V_iload_n C dX8_sheet_7 rfl ?_
    refine V_i2l C dX8_sheet_8 (by omega) ?_
    refine V_lconst (z := 0) C dX8_sheet_9 rfl ?_
    refine V_ldc2 (z := 3) C wk_X8_206 rfl dX8_sheet_10 ?_
    refine V_callS C lk_X8_58 (m_X8_in G (by omega) (by omega) (by omega)) dX8_sheet_13 rfl rfl (by decide) (Nat.le_of_ble_eq_true rfl) (kO ?_)
    refine V_if_eqB (tgt := 25) C dX8_sheet_16 (by decide) (fun c_16 => ?_) (fun c_16 => ?_)
    · skip
      refine V_iconst C dX8_sheet_25 ?_
      exact V_iret C R dX8_sheet_26 ⟨by rw [if_neg (by omega)], by rw [if_neg (by omega), if_neg (by omega), if_neg (by omega)] <;> rfl⟩
    · skip
      refine V_iload_n C dX8_sheet_19 rfl ?_
      refine V_bipush C dX8_sheet_20 (by decide) ?_
      refine V_icmp_le (tgt := 27) C dX8_sheet_22 (by decide) (by omega) (by omega) (fun c_22 => ?_) (fun c_22 => ?_)
      · skip
        refine V_iload_n C dX8_sheet_27 rfl ?_
        refine V_if_ge (tgt := 34) C dX8_sheet_28 (by decide) (by omega) (fun c_28 => ?_) (fun c_28 => ?_)
        · skip
          refine V_aload_n C dX8_sheet_34 rfl ?_
          refine vg_X8_41 C dX8_sheet_35 rfl rfl ?_
          refine V_iload_n C dX8_sheet_38 rfl ?_
          refine V_iload_n C dX8_sheet_39 rfl ?_
          refine V_iast C dX8_sheet_40 rfl (by omega) (by omega) (by decide) ?_
          refine V_aload_n C dX8_sheet_41 rfl ?_
          refine vg_X8_44 C dX8_sheet_42 rfl rfl ?_
          refine V_iload_n C dX8_sheet_45 rfl ?_
          refine V_iload_n C dX8_sheet_46 rfl ?_
          refine V_iast C dX8_sheet_47 rfl (by omega) (by omega) (by decide) ?_
          refine V_iconst C dX8_sheet_48 ?_
          refine V_istore C dX8_sheet_49 (by decide) rfl ?_
          suffices H_51 : V G E 51 [some (.ref (G.ad 0)), some (.int (iI s)), some (.int (iI a)), some (.int (iI n)), some (.int (iI 0))] [] (mdL G un td ku g ah ag tp co wy th kp ka (zup ln s a) (zup sn s n) (ovr it (24 * s) (24 * s + 0) 0) mv ++ rest) by
            rw [Int.add_zero, ovr_0] at H_51
            exact H_51
          refine V_loop (α := Int) (fun x => (1000 - x).toNat) (fun x => 0 ≤ x ∧ x ≤ 24) (fun x => V G E 51 [some (.ref (G.ad 0)), some (.int (iI s)), some (.int (iI a)), some (.int (iI n)), some (.int (iI x))] [] (mdL G un td ku g ah ag tp co wy th kp ka (zup ln s a) (zup sn s n) (ovr it (24 * s) (24 * s + x) 0) mv ++ rest)) ?_ 0 ⟨by omega, by omega⟩
          rintro q ⟨g1, g2⟩ ih_51
          refine V_iload C dX8_sheet_51 rfl ?_
          refine V_bipush C dX8_sheet_53 (by decide) ?_
          refine V_icmp_ge (tgt := 77) C dX8_sheet_55 (by decide) (by omega) (by omega) (fun c_55 => ?_) (fun c_55 => ?_)
          · skip
            refine V_iload_n C dX8_sheet_77 rfl ?_
            exact V_iret C R dX8_sheet_78 ⟨by rw [if_pos (by omega), if_neg (by omega)], by rw [if_pos (by omega), if_pos (by omega), if_pos (by omega), show q = 24 by omega] <;> rfl⟩
          · skip
            refine V_aload_n C dX8_sheet_58 rfl ?_
            refine vg_X8_47 C dX8_sheet_59 rfl rfl ?_
            refine V_bipush C dX8_sheet_62 (by decide) ?_
            refine V_iload_n C dX8_sheet_64 rfl ?_
            refine V_imul C dX8_sheet_65 ?_
            refine V_iload C dX8_sheet_66 rfl ?_
            refine V_iadd C dX8_sheet_68 ?_
            refine V_lconst (z := 0) C dX8_sheet_69 rfl ?_
            refine V_last C dX8_sheet_70 rfl (by omega) (by omega) (by decide) ?_
            refine V_iinc C dX8_sheet_71 rfl (by decide) rfl ?_
            refine V_goto (tgt := 51) C dX8_sheet_74 (by decide) ?_
            have H : V G E 51 [some (.ref (G.ad 0)), some (.int (iI s)), some (.int (iI a)), some (.int (iI n)), some (.int (iI (q + 1)))] [] (mdL G un td ku g ah ag tp co wy th kp ka (zup ln s a) (zup sn s n) (ovr it (24 * s) (24 * s + (q + 1)) 0) mv ++ rest) := ih_51 (q + 1) ⟨by omega, by omega⟩ (by omega)
            rw [← ovr_1 (e := 24 * s + q) (by omega) (by omega)] at H
            exact H
        · skip
          refine V_bipush C dX8_sheet_31 (by decide) ?_
          exact V_iret C R dX8_sheet_33 ⟨by rw [if_pos (by omega), if_pos (by omega)], by rw [if_neg (by omega), if_neg (by omega), if_neg (by omega)] <;> rfl⟩
      · skip
        refine V_iconst C dX8_sheet_25 ?_
        exact V_iret C R dX8_sheet_26 ⟨by rw [if_neg (by omega)], by rw [if_neg (by omega), if_neg (by omega), if_neg (by omega)] <;> rfl⟩

set_option maxRecDepth 100000 in
theorem m_X8_drop (G : zG) {un td ku : Int} {g ah ag tp co wy th kp ka ln sn it mv : Int → Int} {rest : List va_E}  (hsn : ∀ j, 0 ≤ sn j ∧ sn j ≤ 24) (hln : ∀ j, rng (ln j)) (hit : ∀ j, rngL (it j)) (hmv : ∀ j, rngL (mv j)) {s : Int} (hs : rng s) : zMet G yX8_drop cX8_drop 2 (some .int) 2 45 [.ref (G.ad 0), .int (iI s)] (mdL G un td ku g ah ag tp co wy th kp ka ln sn it mv ++ rest) (zO (.int (iI (if 0 ≤ s ∧ s ≤ 3 then (if ln s < 0 then -11 else sn s) else -1))) (mdL G un td ku g ah ag tp co wy th kp ka (if 0 ≤ s ∧ s ≤ 3 ∧ 0 ≤ ln s then zup ln s (-1) else ln) sn it mv ++ rest)) := by
  refine zMet.of (by decide) (Nat.le_of_ble_eq_true rfl) ?_
  intro E C R
  have C : zC G E RX8 cX8_drop 2 2 45 := C
  show V G E 0 [some (.ref (G.ad 0)), some (.int (iI s))] [] (mdL G un td ku g ah ag tp co wy th kp ka ln sn it mv ++ rest)
  have hsr : ∀ j, rng (sn j) := fun j => by have := hsn j; omega
  refine V_iload_n C dX8_drop_0 rfl ?_
  refine V_callS C lk_X8_239 (m_X8_isSheet G hs) dX8_drop_1 rfl rfl (by decide) (Nat.le_of_ble_eq_true rfl) (kO ?_)
  refine V_if_neB (tgt := 9) C dX8_drop_4 (by decide) (fun c_4 => ?_) (fun c_4 => ?_)
  · skip
    refine V_aload_n C dX8_drop_9 rfl ?_
    refine vg_X8_41 C dX8_drop_10 rfl rfl ?_
    refine V_iload_n C dX8_drop_13 rfl ?_
    refine V_iald C dX8_drop_14 rfl (by omega) (by omega) (by decide) (by repeat' (first | with_reducible assumption | refine zup_rng ?_ (by first | omega | exact hg _) | refine zcp_rng ?_ ?_ | refine ovr_rng ?_ (by omega) | refine zcp_rngL ?_ ?_ | refine zup_rngL ?_ (by omega))) (fun r_14 => ?_)
    refine V_if_ge (tgt := 21) C dX8_drop_15 (by decide) (by omega) (fun c_15 => ?_) (fun c_15 => ?_)
    · skip
      refine V_aload_n C dX8_drop_21 rfl ?_
      refine vg_X8_41 C dX8_drop_22 rfl rfl ?_
      refine V_iload_n C dX8_drop_25 rfl ?_
      refine V_iconst C dX8_drop_26 ?_
      refine V_iast C dX8_drop_27 rfl (by omega) (by omega) (by decide) ?_
      refine V_aload_n C dX8_drop_28 rfl ?_
      refine vg_X8_44 C dX8_drop_29 rfl rfl ?_
      refine V_iload_n C dX8_drop_32 rfl ?_
      refine V_iald C dX8_drop_33 rfl (by omega) (by omega) (by decide) (by repeat' (first | with_reducible assumption | refine zup_rng ?_ (by first | omega | exact hg _) | refine zcp_rng ?_ ?_ | refine ovr_rng ?_ (by omega) | refine zcp_rngL ?_ ?_ | refine zup_rngL ?_ (by omega))) (fun r_33 => ?_)
      exact V_iret C R dX8_drop_34 ⟨by rw [if_pos (by omega), if_neg (by omega)], by rw [if_pos (by omega)] <;> rfl⟩
    · skip
      refine V_bipush C dX8_drop_18 (by decide) ?_
      exact V_iret C R dX8_drop_20 ⟨by rw [if_pos (by omega), if_pos (by omega)], by rw [if_neg (by omega)] <;> rfl⟩
  · skip
    refine V_iconst C dX8_drop_7 ?_
    exact V_iret C R dX8_drop_8 ⟨by rw [if_neg (by omega)], by rw [if_neg (by omega)] <;> rfl⟩

set_option maxRecDepth 100000 in
theorem m_X8_why (G : zG) {un td ku : Int} {g ah ag tp co wy th kp ka ln sn it mv : Int → Int} {rest : List va_E}  (hsn : ∀ j, 0 ≤ sn j ∧ sn j ≤ 24) (hln : ∀ j, rng (ln j)) (hit : ∀ j, rngL (it j)) (hmv : ∀ j, rngL (mv j)) {s a i n : Int} (hs : 0 ≤ s ∧ s ≤ 3) (ha : rng a) (hi : rng i) (hn : rng n) : zMet G yX8_why cX8_why 5 (some .int) 0 0 [.ref (G.ad 0), .int (iI s), .int (iI a), .int (iI i), .int (iI n)] (mdL G un td ku g ah ag tp co wy th kp ka ln sn it mv ++ rest) (zO (.int (iI (whM ln sn s a i n))) (mdL G un td ku g ah ag tp co wy th kp ka ln sn it mv ++ rest)) := by
  refine zMet.of (by decide) (Nat.le_of_ble_eq_true rfl) ?_
  intro E C R
  have C : zC G E RX8 cX8_why 5 0 0 := C
  show V G E 0 [some (.ref (G.ad 0)), some (.int (iI s)), some (.int (iI a)), some (.int (iI i)), some (.int (iI n))] [] (mdL G un td ku g ah ag tp co wy th kp ka ln sn it mv ++ rest)
  have hsr : ∀ j, rng (sn j) := fun j => by have := hsn j; omega
  have hss := hsn s
  refine V_aload_n C dX8_why_0 rfl ?_
  refine vg_X8_41 C dX8_why_1 rfl rfl ?_
  refine V_iload_n C dX8_why_4 rfl ?_
  refine V_iald C dX8_why_5 rfl (by omega) (by omega) (by decide) (by repeat' (first | with_reducible assumption | refine zup_rng ?_ (by first | omega | exact hg _) | refine zcp_rng ?_ ?_ | refine ovr_rng ?_ (by omega) | refine zcp_rngL ?_ ?_ | refine zup_rngL ?_ (by omega))) (fun r_5 => ?_)
  refine V_if_ge (tgt := 12) C dX8_why_6 (by decide) (by omega) (fun c_6 => ?_) (fun c_6 => ?_)
  · skip
    refine V_aload_n C dX8_why_12 rfl ?_
    refine vg_X8_41 C dX8_why_13 rfl rfl ?_
    refine V_iload_n C dX8_why_16 rfl ?_
    refine V_iald C dX8_why_17 rfl (by omega) (by omega) (by decide) (by repeat' (first | with_reducible assumption | refine zup_rng ?_ (by first | omega | exact hg _) | refine zcp_rng ?_ ?_ | refine ovr_rng ?_ (by omega) | refine zcp_rngL ?_ ?_ | refine zup_rngL ?_ (by omega))) (fun r_17 => ?_)
    refine V_iload_n C dX8_why_18 rfl ?_
    refine V_icmp_eq (tgt := 25) C dX8_why_19 (by decide) (by omega) (by omega) (fun c_19 => ?_) (fun c_19 => ?_)
    · skip
      refine V_iload_n C dX8_why_25 rfl ?_
      refine V_if_lt (tgt := 42) C dX8_why_26 (by decide) (by omega) (fun c_26 => ?_) (fun c_26 => ?_)
      · skip
        refine V_bipush C dX8_why_42 (by decide) ?_
        refine V_goto (tgt := 48) C dX8_why_44 (by decide) ?_
        exact V_iret C R dX8_why_48 (zO_i (by unfold whM; rw [if_neg (by omega), if_neg (by omega)]; first | rw [if_pos (by omega)] | rw [if_neg (by omega)]))
      · skip
        refine V_iload C dX8_why_29 rfl ?_
        refine V_aload_n C dX8_why_31 rfl ?_
        refine vg_X8_44 C dX8_why_32 rfl rfl ?_
        refine V_iload_n C dX8_why_35 rfl ?_
        refine V_iald C dX8_why_36 rfl (by omega) (by omega) (by decide) (by repeat' (first | with_reducible assumption | refine zup_rng ?_ (by first | omega | exact hg _) | refine zcp_rng ?_ ?_ | refine ovr_rng ?_ (by omega) | refine zcp_rngL ?_ ?_ | refine zup_rngL ?_ (by omega))) (fun r_36 => ?_)
        refine V_iload_n C dX8_why_37 rfl ?_
        refine V_isub C dX8_why_38 ?_
        refine V_icmp_le (tgt := 47) C dX8_why_39 (by decide) (by omega) (by omega) (fun c_39 => ?_) (fun c_39 => ?_)
        · skip
          refine V_iconst C dX8_why_47 ?_
          exact V_iret C R dX8_why_48 (zO_i (by unfold whM; rw [if_neg (by omega), if_neg (by omega)]; first | rw [if_pos (by omega)] | rw [if_neg (by omega)]))
        · skip
          refine V_bipush C dX8_why_42 (by decide) ?_
          refine V_goto (tgt := 48) C dX8_why_44 (by decide) ?_
          exact V_iret C R dX8_why_48 (zO_i (by unfold whM; rw [if_neg (by omega), if_neg (by omega)]; first | rw [if_pos (by omega)] | rw [if_neg (by omega)]))
    · skip
      refine V_bipush C dX8_why_22 (by decide) ?_
      exact V_iret C R dX8_why_24 (zO_i (by unfold whM; rw [if_neg (by omega), if_pos (by omega)]))
  · skip
    refine V_bipush C dX8_why_9 (by decide) ?_
    exact V_iret C R dX8_why_11 (zO_i (by unfold whM; rw [if_pos (by omega)]))

set_option maxRecDepth 100000 in
theorem m_X8_item (G : zG) {un td ku : Int} {g ah ag tp co wy th kp ka ln sn it mv : Int → Int} {rest : List va_E} (hsn : ∀ j, 0 ≤ sn j ∧ sn j ≤ 24) (hln : ∀ j, rng (ln j)) (hit : ∀ j, rngL (it j)) (hmv : ∀ j, rngL (mv j)) {s a i v : Int} (hs : rng s) (ha : rng a) (hi : rng i) (hv : rngL v) : zMet G yX8_item cX8_item 7 (some .int) 2 45 [.ref (G.ad 0), .int (iI s), .int (iI a), .int (iI i), .long (lI v)] (mdL G un td ku g ah ag tp co wy th kp ka ln sn it mv ++ rest) (zO (.int (iI (if (0 ≤ s ∧ s ≤ 3 ∧ 0 ≤ a ∧ a ≤ 3) then (if whM ln sn s a i 1 < 0 then whM ln sn s a i 1 else 1) else -1))) (mdL G un td ku g ah ag tp co wy th kp ka ln sn (if (0 ≤ s ∧ s ≤ 3 ∧ 0 ≤ a ∧ a ≤ 3) ∧ 0 ≤ whM ln sn s a i 1 then zup it (24 * s + i) (cutZ a v) else it) mv ++ rest)) := by
  refine zMet.of (by decide) (Nat.le_of_ble_eq_true rfl) ?_
  intro E C R
  have C : zC G E RX8 cX8_item 7 2 45 := C
  show V G E 0 [some (.ref (G.ad 0)), some (.int (iI s)), some (.int (iI a)), some (.int (iI i)), some (.long (lI v)), none, none] [] (mdL G un td ku g ah ag tp co wy th kp ka ln sn it mv ++ rest)
  have hw := whM_r (ln := ln) (sn := sn) (s := s) (a := a) (i := i) (n := 1)
  have hwo := whM_ok (ln := ln) (sn := sn) (s := s) (a := a) (i := i) (n := 1)
  have hss := hsn s
  refine V_iload_n C dX8_item_0 rfl ?_
  refine V_callS C lk_X8_239 (m_X8_isSheet G hs) dX8_item_1 rfl rfl (by decide) (Nat.le_of_ble_eq_true rfl) (kO ?_)
  refine V_if_eqB (tgt := 19) C dX8_item_4 (by decide) (fun c_4 => ?_) (fun c_4 => ?_)
  · skip
    refine V_iconst C dX8_item_19 ?_
    exact V_iret C R dX8_item_20 ⟨by rw [if_neg (by omega)], by rw [if_neg (by omega)] <;> rfl⟩
  · skip
    refine V_iload_n C dX8_item_7 rfl ?_
    refine V_i2l C dX8_item_8 (by omega) ?_
    refine V_lconst (z := 0) C dX8_item_9 rfl ?_
    refine V_ldc2 (z := 3) C wk_X8_206 rfl dX8_item_10 ?_
    refine V_callS C lk_X8_58 (m_X8_in G (by omega) (by omega) (by omega)) dX8_item_13 rfl rfl (by decide) (Nat.le_of_ble_eq_true rfl) (kO ?_)
    refine V_if_neB (tgt := 21) C dX8_item_16 (by decide) (fun c_16 => ?_) (fun c_16 => ?_)
    · skip
      refine V_aload_n C dX8_item_21 rfl ?_
      refine V_iload_n C dX8_item_22 rfl ?_
      refine V_iload_n C dX8_item_23 rfl ?_
      refine V_iload_n C dX8_item_24 rfl ?_
      refine V_iconst C dX8_item_25 ?_
      refine V_callV C lk_X8_242 (m_X8_why G hsn hln hit hmv (by omega) (by omega) (by omega) (by omega)) dX8_item_26 rfl rfl rfl rfl (by decide) (Nat.le_of_ble_eq_true rfl) (kO ?_)
      refine V_istore C dX8_item_29 (by decide) rfl ?_
      refine V_iload C dX8_item_31 rfl ?_
      refine V_if_ge (tgt := 39) C dX8_item_33 (by decide) (by omega) (fun c_33 => ?_) (fun c_33 => ?_)
      · skip
        refine V_aload_n C dX8_item_39 rfl ?_
        refine vg_X8_47 C dX8_item_40 rfl rfl ?_
        refine V_bipush C dX8_item_43 (by decide) ?_
        refine V_iload_n C dX8_item_45 rfl ?_
        refine V_imul C dX8_item_46 ?_
        refine V_iload_n C dX8_item_47 rfl ?_
        refine V_iadd C dX8_item_48 ?_
        refine V_lload C dX8_item_49 rfl ?_
        refine V_iload_n C dX8_item_51 rfl ?_
        refine V_callS C lk_X8_245 (m_X8_cut G ha) dX8_item_52 rfl rfl (by decide) (Nat.le_of_ble_eq_true rfl) (kO ?_)
        refine V_last C dX8_item_55 rfl (by omega) (by omega) (by decide) ?_
        refine V_iconst C dX8_item_56 ?_
        exact V_iret C R dX8_item_57 ⟨by rw [if_pos (by omega), if_neg (by omega)], by rw [if_pos (by omega)] <;> rfl⟩
      · skip
        refine V_iload C dX8_item_36 rfl ?_
        exact V_iret C R dX8_item_38 ⟨by rw [if_pos (by omega), if_pos (by omega)], by rw [if_neg (by omega)] <;> rfl⟩
    · skip
      refine V_iconst C dX8_item_19 ?_
      exact V_iret C R dX8_item_20 ⟨by rw [if_neg (by omega)], by rw [if_neg (by omega)] <;> rfl⟩

def coM (ln sn : Int → Int) (s i t j n : Int) : Int := if ¬ (0 ≤ s ∧ s ≤ 3 ∧ 0 ≤ t ∧ t ≤ 3) then -1 else if (ln s < 0 ∨ ln t < 0) then -11 else if ln s ≠ ln t then -12 else if (n < 0 ∨ i < 0 ∨ j < 0 ∨ i + n > sn s ∨ j + n > sn t) then -13 else n

abbrev coO (ln sn : Int → Int) (s i t j n : Int) : Prop := (0 ≤ s ∧ s ≤ 3 ∧ 0 ≤ t ∧ t ≤ 3) ∧ ¬ (ln s < 0 ∨ ln t < 0) ∧ ln s = ln t ∧ ¬ (n < 0 ∨ i < 0 ∨ j < 0 ∨ i + n > sn s ∨ j + n > sn t)

set_option maxRecDepth 100000 in
theorem m_X8_copy (G : zG) {un td ku : Int} {g ah ag tp co wy th kp ka ln sn it mv : Int → Int} {rest : List va_E}  (hsn : ∀ j, 0 ≤ sn j ∧ sn j ≤ 24) (hln : ∀ j, rng (ln j)) (hit : ∀ j, rngL (it j)) (hmv : ∀ j, rngL (mv j)) {s i t j n : Int} (hs : rng s) (hi : rng i) (ht : rng t) (hj : rng j) (hn : rng n) : zMet G yX8_copy cX8_copy 7 (some .int) 2 45 [.ref (G.ad 0), .int (iI s), .int (iI i), .int (iI t), .int (iI j), .int (iI n)] (mdL G un td ku g ah ag tp co wy th kp ka ln sn it mv ++ rest) (zO (.int (iI (coM ln sn s i t j n))) (mdL G un td ku g ah ag tp co wy th kp ka ln sn (if coO ln sn s i t j n then zcp (zcp it mv (24 * s + i) 0 n) it 0 (24 * t + j) n else it) (if coO ln sn s i t j n then zcp it mv (24 * s + i) 0 n else mv) ++ rest)) := by
  refine zMet.of (by decide) (Nat.le_of_ble_eq_true rfl) ?_
  intro E C R
  have C : zC G E RX8 cX8_copy 7 2 45 := C
  show V G E 0 [some (.ref (G.ad 0)), some (.int (iI s)), some (.int (iI i)), some (.int (iI t)), some (.int (iI j)), some (.int (iI n)), none] [] (mdL G un td ku g ah ag tp co wy th kp ka ln sn it mv ++ rest)
  have hsr : ∀ j, rng (sn j) := fun j => by have := hsn j; omega
  have hss := hsn s
  have hst := hsn t
  refine V_iload_n C dX8_copy_0 rfl ?_
  refine V_callS C lk_X8_239 (m_X8_isSheet G hs) dX8_copy_1 rfl rfl (by decide) (Nat.le_of_ble_eq_true rfl) (kO ?_)
  refine V_if_eqB (tgt := 14) C dX8_copy_4 (by decide) (fun c_4 => ?_) (fun c_4 => ?_)
  · skip
    refine V_iconst C dX8_copy_14 ?_
    exact V_iret C R dX8_copy_15 ⟨by unfold coM; rw [if_pos (by omega)], by unfold coO; rw [if_neg (by omega), if_neg (by omega)] <;> rfl⟩
  · skip
    refine V_iload_n C dX8_copy_7 rfl ?_
    refine V_callS C lk_X8_239 (m_X8_isSheet G ht) dX8_copy_8 rfl rfl (by decide) (Nat.le_of_ble_eq_true rfl) (kO ?_)
    refine V_if_neB (tgt := 16) C dX8_copy_11 (by decide) (fun c_11 => ?_) (fun c_11 => ?_)
    · skip
      refine V_aload_n C dX8_copy_16 rfl ?_
      refine vg_X8_41 C dX8_copy_17 rfl rfl ?_
      refine V_iload_n C dX8_copy_20 rfl ?_
      refine V_iald C dX8_copy_21 rfl (by omega) (by omega) (by decide) (by repeat' (first | with_reducible assumption | refine zup_rng ?_ (by first | omega | exact hg _) | refine zcp_rng ?_ ?_ | refine ovr_rng ?_ (by omega) | refine zcp_rngL ?_ ?_ | refine zup_rngL ?_ (by omega))) (fun r_21 => ?_)
      refine V_if_lt (tgt := 34) C dX8_copy_22 (by decide) (by omega) (fun c_22 => ?_) (fun c_22 => ?_)
      · skip
        refine V_bipush C dX8_copy_34 (by decide) ?_
        exact V_iret C R dX8_copy_36 ⟨by unfold coM; rw [if_neg (by omega), if_pos (by omega)], by unfold coO; rw [if_neg (by omega), if_neg (by omega)] <;> rfl⟩
      · skip
        refine V_aload_n C dX8_copy_25 rfl ?_
        refine vg_X8_41 C dX8_copy_26 rfl rfl ?_
        refine V_iload_n C dX8_copy_29 rfl ?_
        refine V_iald C dX8_copy_30 rfl (by omega) (by omega) (by decide) (by repeat' (first | with_reducible assumption | refine zup_rng ?_ (by first | omega | exact hg _) | refine zcp_rng ?_ ?_ | refine ovr_rng ?_ (by omega) | refine zcp_rngL ?_ ?_ | refine zup_rngL ?_ (by omega))) (fun r_30 => ?_)
        refine V_if_ge (tgt := 37) C dX8_copy_31 (by decide) (by omega) (fun c_31 => ?_) (fun c_31 => ?_)
        · skip
          refine V_aload_n C dX8_copy_37 rfl ?_
          refine vg_X8_41 C dX8_copy_38 rfl rfl ?_
          refine V_iload_n C dX8_copy_41 rfl ?_
          refine V_iald C dX8_copy_42 rfl (by omega) (by omega) (by decide) (by repeat' (first | with_reducible assumption | refine zup_rng ?_ (by first | omega | exact hg _) | refine zcp_rng ?_ ?_ | refine ovr_rng ?_ (by omega) | refine zcp_rngL ?_ ?_ | refine zup_rngL ?_ (by omega))) (fun r_42 => ?_)
          refine V_aload_n C dX8_copy_43 rfl ?_
          refine vg_X8_41 C dX8_copy_44 rfl rfl ?_
          refine V_iload_n C dX8_copy_47 rfl ?_
          refine V_iald C dX8_copy_48 rfl (by omega) (by omega) (by decide) (by repeat' (first | with_reducible assumption | refine zup_rng ?_ (by first | omega | exact hg _) | refine zcp_rng ?_ ?_ | refine ovr_rng ?_ (by omega) | refine zcp_rngL ?_ ?_ | refine zup_rngL ?_ (by omega))) (fun r_48 => ?_)
          refine V_icmp_eq (tgt := 55) C dX8_copy_49 (by decide) (by omega) (by omega) (fun c_49 => ?_) (fun c_49 => ?_)
          · skip
            refine V_iload C dX8_copy_55 rfl ?_
            refine V_if_lt (tgt := 104) C dX8_copy_57 (by decide) (by omega) (fun c_57 => ?_) (fun c_57 => ?_)
            · skip
              refine V_bipush C dX8_copy_104 (by decide) ?_
              exact V_iret C R dX8_copy_106 ⟨by unfold coM; rw [if_neg (by omega), if_neg (by omega), if_neg (by omega), if_pos (by omega)], by unfold coO; rw [if_neg (by omega), if_neg (by omega)] <;> rfl⟩
            · skip
              refine V_iload_n C dX8_copy_60 rfl ?_
              refine V_if_lt (tgt := 104) C dX8_copy_61 (by decide) (by omega) (fun c_61 => ?_) (fun c_61 => ?_)
              · skip
                refine V_bipush C dX8_copy_104 (by decide) ?_
                exact V_iret C R dX8_copy_106 ⟨by unfold coM; rw [if_neg (by omega), if_neg (by omega), if_neg (by omega), if_pos (by omega)], by unfold coO; rw [if_neg (by omega), if_neg (by omega)] <;> rfl⟩
              · skip
                refine V_iload C dX8_copy_64 rfl ?_
                refine V_if_lt (tgt := 104) C dX8_copy_66 (by decide) (by omega) (fun c_66 => ?_) (fun c_66 => ?_)
                · skip
                  refine V_bipush C dX8_copy_104 (by decide) ?_
                  exact V_iret C R dX8_copy_106 ⟨by unfold coM; rw [if_neg (by omega), if_neg (by omega), if_neg (by omega), if_pos (by omega)], by unfold coO; rw [if_neg (by omega), if_neg (by omega)] <;> rfl⟩
                · skip
                  refine V_iload_n C dX8_copy_69 rfl ?_
                  refine V_i2l C dX8_copy_70 (by omega) ?_
                  refine V_iload C dX8_copy_71 rfl ?_
                  refine V_i2l C dX8_copy_73 (by omega) ?_
                  refine V_ladd C dX8_copy_74 ?_
                  refine V_aload_n C dX8_copy_75 rfl ?_
                  refine vg_X8_44 C dX8_copy_76 rfl rfl ?_
                  refine V_iload_n C dX8_copy_79 rfl ?_
                  refine V_iald C dX8_copy_80 rfl (by omega) (by omega) (by decide) (by repeat' (first | with_reducible assumption | refine zup_rng ?_ (by first | omega | exact hg _) | refine zcp_rng ?_ ?_ | refine ovr_rng ?_ (by omega) | refine zcp_rngL ?_ ?_ | refine zup_rngL ?_ (by omega))) (fun r_80 => ?_)
                  refine V_i2l C dX8_copy_81 (by omega) ?_
                  refine V_lcmp_gt (tgt := 104) C dX8_copy_82 dX8_copy_83 (by decide) (by omega) (by omega) (fun c_83 => ?_) (fun c_83 => ?_)
                  · skip
                    refine V_bipush C dX8_copy_104 (by decide) ?_
                    exact V_iret C R dX8_copy_106 ⟨by unfold coM; rw [if_neg (by omega), if_neg (by omega), if_neg (by omega), if_pos (by omega)], by unfold coO; rw [if_neg (by omega), if_neg (by omega)] <;> rfl⟩
                  · skip
                    refine V_iload C dX8_copy_86 rfl ?_
                    refine V_i2l C dX8_copy_88 (by omega) ?_
                    refine V_iload C dX8_copy_89 rfl ?_
                    refine V_i2l C dX8_copy_91 (by omega) ?_
                    refine V_ladd C dX8_copy_92 ?_
                    refine V_aload_n C dX8_copy_93 rfl ?_
                    refine vg_X8_44 C dX8_copy_94 rfl rfl ?_
                    refine V_iload_n C dX8_copy_97 rfl ?_
                    refine V_iald C dX8_copy_98 rfl (by omega) (by omega) (by decide) (by repeat' (first | with_reducible assumption | refine zup_rng ?_ (by first | omega | exact hg _) | refine zcp_rng ?_ ?_ | refine ovr_rng ?_ (by omega) | refine zcp_rngL ?_ ?_ | refine zup_rngL ?_ (by omega))) (fun r_98 => ?_)
                    refine V_i2l C dX8_copy_99 (by omega) ?_
                    refine V_lcmp_le (tgt := 107) C dX8_copy_100 dX8_copy_101 (by decide) (by omega) (by omega) (fun c_101 => ?_) (fun c_101 => ?_)
                    · skip
                      refine V_iconst C dX8_copy_107 ?_
                      refine V_istore C dX8_copy_108 (by decide) rfl ?_
                      suffices H_110 : V G E 110 [some (.ref (G.ad 0)), some (.int (iI s)), some (.int (iI i)), some (.int (iI t)), some (.int (iI j)), some (.int (iI n)), some (.int (iI (0)))] [] (mdL G un td ku g ah ag tp co wy th kp ka ln sn it (zcp (it) (mv) (24 * s + i) (0) ((0) - (0))) ++ rest) by
                        rw [show zcp (it) (mv) (24 * s + i) (0) (0 - (0)) = mv from by rw [Int.sub_self]; exact zcp_0] at H_110
                        exact H_110
                      refine V_loop (α := Int) (fun x => (100000 - x).toNat) (fun x => 0 ≤ x ∧ x ≤ n) (fun x => V G E 110 [some (.ref (G.ad 0)), some (.int (iI s)), some (.int (iI i)), some (.int (iI t)), some (.int (iI j)), some (.int (iI n)), some (.int (iI x))] [] (mdL G un td ku g ah ag tp co wy th kp ka ln sn it (zcp (it) (mv) (24 * s + i) (0) (x - (0))) ++ rest)) ?_ (0) ⟨by omega, by omega⟩
                      rintro q ⟨g1, g2⟩ ih_110
                      refine V_iload C dX8_copy_110 rfl ?_
                      refine V_iload C dX8_copy_112 rfl ?_
                      refine V_icmp_ge (tgt := 144) C dX8_copy_114 (by decide) (by omega) (by omega) (fun c_114 => ?_) (fun c_114 => ?_)
                      · skip
                        have hq : n = q - 0 := by omega
                        suffices H_144 : V G E 144 [some (.ref (G.ad 0)), some (.int (iI s)), some (.int (iI i)), some (.int (iI t)), some (.int (iI j)), some (.int (iI n)), some (.int (iI q))] [] (mdL G un td ku g ah ag tp co wy th kp ka ln sn it (zcp it mv (24 * s + i) 0 n) ++ rest) by
                          rw [← hq]
                          exact H_144
                        clear ih_110
                        refine V_iconst C dX8_copy_144 ?_
                        refine V_istore C dX8_copy_145 (by decide) rfl ?_
                        suffices H_147 : V G E 147 [some (.ref (G.ad 0)), some (.int (iI s)), some (.int (iI i)), some (.int (iI t)), some (.int (iI j)), some (.int (iI n)), some (.int (iI (0)))] [] (mdL G un td ku g ah ag tp co wy th kp ka ln sn (zcp (zcp it mv (24 * s + i) 0 n) (it) (0) (24 * t + j) ((0) - (0))) (zcp it mv (24 * s + i) 0 n) ++ rest) by
                          rw [show zcp (zcp it mv (24 * s + i) 0 n) (it) (0) (24 * t + j) (0 - (0)) = it from by rw [Int.sub_self]; exact zcp_0] at H_147
                          exact H_147
                        refine V_loop (α := Int) (fun x => (100000 - x).toNat) (fun x => 0 ≤ x ∧ x ≤ n) (fun x => V G E 147 [some (.ref (G.ad 0)), some (.int (iI s)), some (.int (iI i)), some (.int (iI t)), some (.int (iI j)), some (.int (iI n)), some (.int (iI x))] [] (mdL G un td ku g ah ag tp co wy th kp ka ln sn (zcp (zcp it mv (24 * s + i) 0 n) (it) (0) (24 * t + j) (x - (0))) (zcp it mv (24 * s + i) 0 n) ++ rest)) ?_ (0) ⟨by omega, by omega⟩
                        rintro r ⟨k1, k2⟩ ih_147
                        refine V_iload C dX8_copy_147 rfl ?_
                        refine V_iload C dX8_copy_149 rfl ?_
                        refine V_icmp_ge (tgt := 182) C dX8_copy_151 (by decide) (by omega) (by omega) (fun c_151 => ?_) (fun c_151 => ?_)
                        · skip
                          refine V_iload C dX8_copy_182 rfl ?_
                          exact V_iret C R dX8_copy_184 ⟨by unfold coM; rw [if_neg (by omega), if_neg (by omega), if_neg (by omega), if_neg (by omega)], by unfold coO; rw [if_pos (by omega), if_pos (by omega), show r - 0 = n by omega] <;> rfl⟩
                        · skip
                          refine V_aload_n C dX8_copy_154 rfl ?_
                          refine vg_X8_47 C dX8_copy_155 rfl rfl ?_
                          refine V_bipush C dX8_copy_158 (by decide) ?_
                          refine V_iload_n C dX8_copy_160 rfl ?_
                          refine V_imul C dX8_copy_161 ?_
                          refine V_iload C dX8_copy_162 rfl ?_
                          refine V_iadd C dX8_copy_164 ?_
                          refine V_iload C dX8_copy_165 rfl ?_
                          refine V_iadd C dX8_copy_167 ?_
                          refine V_aload_n C dX8_copy_168 rfl ?_
                          refine vg_X8_51 C dX8_copy_169 rfl rfl ?_
                          refine V_iload C dX8_copy_172 rfl ?_
                          refine V_lald C dX8_copy_174 rfl (by omega) (by omega) (by decide) (by repeat' (first | with_reducible assumption | refine zup_rng ?_ (by first | omega | exact hg _) | refine zcp_rng ?_ ?_ | refine ovr_rng ?_ (by omega) | refine zcp_rngL ?_ ?_ | refine zup_rngL ?_ (by omega))) (fun r_174 => ?_)
                          refine V_last C dX8_copy_175 rfl (by omega) (by omega) (by decide) ?_
                          refine V_iinc C dX8_copy_176 rfl (by decide) rfl ?_
                          refine V_goto (tgt := 147) C dX8_copy_179 (by decide) ?_
                          have e_147 : zup (zcp (zcp it mv (24 * s + i) 0 n) (it) (0) (24 * t + j) (r - (0))) (24 * t + j + r) ((zcp it mv (24 * s + i) 0 n) r) = zcp (zcp it mv (24 * s + i) 0 n) (it) (0) (24 * t + j) (r + 1 - (0)) := zcp_st (by rw [Int.sub_zero, Int.zero_add]) (by omega) (by omega) (by omega)
                          have H : V G E 147 [some (.ref (G.ad 0)), some (.int (iI s)), some (.int (iI i)), some (.int (iI t)), some (.int (iI j)), some (.int (iI n)), some (.int (iI (r + 1)))] [] (mdL G un td ku g ah ag tp co wy th kp ka ln sn (zcp (zcp it mv (24 * s + i) 0 n) (it) (0) (24 * t + j) ((r + 1) - (0))) (zcp it mv (24 * s + i) 0 n) ++ rest) := ih_147 (r + 1) ⟨by omega, by omega⟩ (by omega)
                          rw [← e_147] at H
                          exact H
                      · skip
                        refine V_aload_n C dX8_copy_117 rfl ?_
                        refine vg_X8_51 C dX8_copy_118 rfl rfl ?_
                        refine V_iload C dX8_copy_121 rfl ?_
                        refine V_aload_n C dX8_copy_123 rfl ?_
                        refine vg_X8_47 C dX8_copy_124 rfl rfl ?_
                        refine V_bipush C dX8_copy_127 (by decide) ?_
                        refine V_iload_n C dX8_copy_129 rfl ?_
                        refine V_imul C dX8_copy_130 ?_
                        refine V_iload_n C dX8_copy_131 rfl ?_
                        refine V_iadd C dX8_copy_132 ?_
                        refine V_iload C dX8_copy_133 rfl ?_
                        refine V_iadd C dX8_copy_135 ?_
                        refine V_lald C dX8_copy_136 rfl (by omega) (by omega) (by decide) (by repeat' (first | with_reducible assumption | refine zup_rng ?_ (by first | omega | exact hg _) | refine zcp_rng ?_ ?_ | refine ovr_rng ?_ (by omega) | refine zcp_rngL ?_ ?_ | refine zup_rngL ?_ (by omega))) (fun r_136 => ?_)
                        refine V_last C dX8_copy_137 rfl (by omega) (by omega) (by decide) ?_
                        refine V_iinc C dX8_copy_138 rfl (by decide) rfl ?_
                        refine V_goto (tgt := 110) C dX8_copy_141 (by decide) ?_
                        have e_110 : zup (zcp (it) (mv) (24 * s + i) (0) (q - (0))) (q) (it (24 * s + i + q)) = zcp (it) (mv) (24 * s + i) (0) (q + 1 - (0)) := zcp_st (by rw [Int.sub_zero]) (by omega) (by omega) (by omega)
                        have H : V G E 110 [some (.ref (G.ad 0)), some (.int (iI s)), some (.int (iI i)), some (.int (iI t)), some (.int (iI j)), some (.int (iI n)), some (.int (iI (q + 1)))] [] (mdL G un td ku g ah ag tp co wy th kp ka ln sn it (zcp (it) (mv) (24 * s + i) (0) ((q + 1) - (0))) ++ rest) := ih_110 (q + 1) ⟨by omega, by omega⟩ (by omega)
                        rw [← e_110] at H
                        exact H
                    · skip
                      refine V_bipush C dX8_copy_104 (by decide) ?_
                      exact V_iret C R dX8_copy_106 ⟨by unfold coM; rw [if_neg (by omega), if_neg (by omega), if_neg (by omega), if_pos (by omega)], by unfold coO; rw [if_neg (by omega), if_neg (by omega)] <;> rfl⟩
          · skip
            refine V_bipush C dX8_copy_52 (by decide) ?_
            exact V_iret C R dX8_copy_54 ⟨by unfold coM; rw [if_neg (by omega), if_neg (by omega), if_pos (by omega)], by unfold coO; rw [if_neg (by omega), if_neg (by omega)] <;> rfl⟩
        · skip
          refine V_bipush C dX8_copy_34 (by decide) ?_
          exact V_iret C R dX8_copy_36 ⟨by unfold coM; rw [if_neg (by omega), if_pos (by omega)], by unfold coO; rw [if_neg (by omega), if_neg (by omega)] <;> rfl⟩
    · skip
      refine V_iconst C dX8_copy_14 ?_
      exact V_iret C R dX8_copy_15 ⟨by unfold coM; rw [if_pos (by omega)], by unfold coO; rw [if_neg (by omega), if_neg (by omega)] <;> rfl⟩

set_option maxRecDepth 100000 in
theorem m_X8_film (G : zG) {un td ku : Int} {g ah ag tp co wy th kp ka ln sn it mv : Int → Int} {rest : List va_E} (hg : ∀ j, rng (g j))  (hL : 0 ≤ g 0 ∧ g 0 ≤ 60) (hsn : ∀ j, 0 ≤ sn j ∧ sn j ≤ 24) (hln : ∀ j, rng (ln j)) (hit : ∀ j, rngL (it j)) (hmv : ∀ j, rngL (mv j)) {p n s a i : Int} (hp : rng p) (hn : rng n) (hs : rng s) (ha : rng a) (hi : rng i) : zMet G yX8_film cX8_film 8 (some .int) 2 45 [.ref (G.ad 0), .int (iI p), .int (iI n), .int (iI s), .int (iI a), .int (iI i)] (mdL G un td ku g ah ag tp co wy th kp ka ln sn it mv ++ rest) (zO (.int (iI (if (1 ≤ n ∧ n ≤ 24 ∧ 0 ≤ p ∧ p ≤ g 0 - n ∧ 0 ≤ s ∧ s ≤ 3 ∧ 0 ≤ a ∧ a ≤ 3) then (if whM ln sn s a i n < 0 then whM ln sn s a i n else n) else -1))) (mdL G un td ku g ah ag tp co wy th kp ka ln sn (if (1 ≤ n ∧ n ≤ 24 ∧ 0 ≤ p ∧ p ≤ g 0 - n ∧ 0 ≤ s ∧ s ≤ 3 ∧ 0 ≤ a ∧ a ≤ 3) ∧ 0 ≤ whM ln sn s a i n then zcp (lt g) it p (24 * s + i) n else it) mv ++ rest)) := by
  refine zMet.of (by decide) (Nat.le_of_ble_eq_true rfl) ?_
  intro E C R
  have C : zC G E RX8 cX8_film 8 2 45 := C
  show V G E 0 [some (.ref (G.ad 0)), some (.int (iI p)), some (.int (iI n)), some (.int (iI s)), some (.int (iI a)), some (.int (iI i)), none, none] [] (mdL G un td ku g ah ag tp co wy th kp ka ln sn it mv ++ rest)
  have hw := whM_r (ln := ln) (sn := sn) (s := s) (a := a) (i := i) (n := n)
  have hwo := whM_ok (ln := ln) (sn := sn) (s := s) (a := a) (i := i) (n := n)
  have hss := hsn s
  refine V_iload_n C dX8_film_0 rfl ?_
  refine V_i2l C dX8_film_1 (by omega) ?_
  refine V_lconst (z := 1) C dX8_film_2 rfl ?_
  refine V_ldc2 (z := 24) C wk_X8_249 rfl dX8_film_3 ?_
  refine V_callS C lk_X8_58 (m_X8_in G (by omega) (by omega) (by omega)) dX8_film_6 rfl rfl (by decide) (Nat.le_of_ble_eq_true rfl) (kO ?_)
  refine V_if_eqB (tgt := 50) C dX8_film_9 (by decide) (fun c_9 => ?_) (fun c_9 => ?_)
  · skip
    refine V_iconst C dX8_film_50 ?_
    exact V_iret C R dX8_film_51 ⟨by rw [if_neg (by omega)], by rw [if_neg (by omega)] <;> rfl⟩
  · skip
    refine V_iload_n C dX8_film_12 rfl ?_
    refine V_i2l C dX8_film_13 (by omega) ?_
    refine V_lconst (z := 0) C dX8_film_14 rfl ?_
    refine V_aload_n C dX8_film_15 rfl ?_
    refine vg_X8_7 C dX8_film_16 rfl rfl ?_
    refine V_iconst C dX8_film_19 ?_
    refine V_iald C dX8_film_20 rfl (by omega) (by omega) (by decide) (by repeat' (first | with_reducible assumption | refine zup_rng ?_ (by first | omega | exact hg _) | refine zcp_rng ?_ ?_ | refine ovr_rng ?_ (by omega) | refine zcp_rngL ?_ ?_ | refine zup_rngL ?_ (by omega))) (fun r_20 => ?_)
    refine V_iload_n C dX8_film_21 rfl ?_
    refine V_isub C dX8_film_22 ?_
    refine V_i2l C dX8_film_23 (by omega) ?_
    refine V_callS C lk_X8_58 (m_X8_in G (by omega) (by omega) (by omega)) dX8_film_24 rfl rfl (by decide) (Nat.le_of_ble_eq_true rfl) (kO ?_)
    refine V_if_eqB (tgt := 50) C dX8_film_27 (by decide) (fun c_27 => ?_) (fun c_27 => ?_)
    · skip
      refine V_iconst C dX8_film_50 ?_
      exact V_iret C R dX8_film_51 ⟨by rw [if_neg (by omega)], by rw [if_neg (by omega)] <;> rfl⟩
    · skip
      refine V_iload_n C dX8_film_30 rfl ?_
      refine V_callS C lk_X8_239 (m_X8_isSheet G hs) dX8_film_31 rfl rfl (by decide) (Nat.le_of_ble_eq_true rfl) (kO ?_)
      refine V_if_eqB (tgt := 50) C dX8_film_34 (by decide) (fun c_34 => ?_) (fun c_34 => ?_)
      · skip
        refine V_iconst C dX8_film_50 ?_
        exact V_iret C R dX8_film_51 ⟨by rw [if_neg (by omega)], by rw [if_neg (by omega)] <;> rfl⟩
      · skip
        refine V_iload C dX8_film_37 rfl ?_
        refine V_i2l C dX8_film_39 (by omega) ?_
        refine V_lconst (z := 0) C dX8_film_40 rfl ?_
        refine V_ldc2 (z := 3) C wk_X8_206 rfl dX8_film_41 ?_
        refine V_callS C lk_X8_58 (m_X8_in G (by omega) (by omega) (by omega)) dX8_film_44 rfl rfl (by decide) (Nat.le_of_ble_eq_true rfl) (kO ?_)
        refine V_if_neB (tgt := 52) C dX8_film_47 (by decide) (fun c_47 => ?_) (fun c_47 => ?_)
        · skip
          refine V_aload_n C dX8_film_52 rfl ?_
          refine V_iload_n C dX8_film_53 rfl ?_
          refine V_iload C dX8_film_54 rfl ?_
          refine V_iload C dX8_film_56 rfl ?_
          refine V_iload_n C dX8_film_58 rfl ?_
          refine V_callV C lk_X8_242 (m_X8_why G hsn hln hit hmv (by omega) (by omega) (by omega) (by omega)) dX8_film_59 rfl rfl rfl rfl (by decide) (Nat.le_of_ble_eq_true rfl) (kO ?_)
          refine V_istore C dX8_film_62 (by decide) rfl ?_
          refine V_iload C dX8_film_64 rfl ?_
          refine V_if_ge (tgt := 72) C dX8_film_66 (by decide) (by omega) (fun c_66 => ?_) (fun c_66 => ?_)
          · skip
            refine V_iconst C dX8_film_72 ?_
            refine V_istore C dX8_film_73 (by decide) rfl ?_
            suffices H_75 : V G E 75 [some (.ref (G.ad 0)), some (.int (iI p)), some (.int (iI n)), some (.int (iI s)), some (.int (iI a)), some (.int (iI i)), some (.int (iI (whM ln sn s a i n))), some (.int (iI (0)))] [] (mdL G un td ku g ah ag tp co wy th kp ka ln sn (zcp (lt g) (it) (p) (24 * s + i) ((0) - (0))) mv ++ rest) by
              rw [show zcp (lt g) (it) (p) (24 * s + i) (0 - (0)) = it from by rw [Int.sub_self]; exact zcp_0] at H_75
              exact H_75
            refine V_loop (α := Int) (fun x => (100000 - x).toNat) (fun x => 0 ≤ x ∧ x ≤ n) (fun x => V G E 75 [some (.ref (G.ad 0)), some (.int (iI p)), some (.int (iI n)), some (.int (iI s)), some (.int (iI a)), some (.int (iI i)), some (.int (iI (whM ln sn s a i n))), some (.int (iI x))] [] (mdL G un td ku g ah ag tp co wy th kp ka ln sn (zcp (lt g) (it) (p) (24 * s + i) (x - (0))) mv ++ rest)) ?_ (0) ⟨by omega, by omega⟩
            rintro q ⟨g1, g2⟩ ih_75
            refine V_iload C dX8_film_75 rfl ?_
            refine V_iload_n C dX8_film_77 rfl ?_
            refine V_icmp_ge (tgt := 114) C dX8_film_78 (by decide) (by omega) (by omega) (fun c_78 => ?_) (fun c_78 => ?_)
            · skip
              refine V_iload_n C dX8_film_114 rfl ?_
              exact V_iret C R dX8_film_115 ⟨by rw [if_pos (by omega), if_neg (by omega)], by rw [if_pos (by omega), show q - 0 = n by omega] <;> rfl⟩
            · skip
              refine V_aload_n C dX8_film_81 rfl ?_
              refine vg_X8_47 C dX8_film_82 rfl rfl ?_
              refine V_bipush C dX8_film_85 (by decide) ?_
              refine V_iload_n C dX8_film_87 rfl ?_
              refine V_imul C dX8_film_88 ?_
              refine V_iload C dX8_film_89 rfl ?_
              refine V_iadd C dX8_film_91 ?_
              refine V_iload C dX8_film_92 rfl ?_
              refine V_iadd C dX8_film_94 ?_
              refine V_aload_n C dX8_film_95 rfl ?_
              refine vg_X8_7 C dX8_film_96 rfl rfl ?_
              refine V_iconst C dX8_film_99 ?_
              refine V_iload_n C dX8_film_100 rfl ?_
              refine V_iadd C dX8_film_101 ?_
              refine V_iload C dX8_film_102 rfl ?_
              refine V_iadd C dX8_film_104 ?_
              refine V_iald C dX8_film_105 rfl (by omega) (by omega) (by decide) (by repeat' (first | with_reducible assumption | refine zup_rng ?_ (by first | omega | exact hg _) | refine zcp_rng ?_ ?_ | refine ovr_rng ?_ (by omega) | refine zcp_rngL ?_ ?_ | refine zup_rngL ?_ (by omega))) (fun r_105 => ?_)
              refine V_i2l C dX8_film_106 (by omega) ?_
              refine V_last C dX8_film_107 rfl (by omega) (by omega) (by decide) ?_
              refine V_iinc C dX8_film_108 rfl (by decide) rfl ?_
              refine V_goto (tgt := 75) C dX8_film_111 (by decide) ?_
              have e_75 : zup (zcp (lt g) (it) (p) (24 * s + i) (q - (0))) (24 * s + i + q) (g (1 + p + q)) = zcp (lt g) (it) (p) (24 * s + i) (q + 1 - (0)) := zcp_st (by rw [Int.sub_zero]; show _ = g (1 + (p + q)); rw [Int.add_assoc]) (by omega) (by omega) (by omega)
              have H : V G E 75 [some (.ref (G.ad 0)), some (.int (iI p)), some (.int (iI n)), some (.int (iI s)), some (.int (iI a)), some (.int (iI i)), some (.int (iI (whM ln sn s a i n))), some (.int (iI (q + 1)))] [] (mdL G un td ku g ah ag tp co wy th kp ka ln sn (zcp (lt g) (it) (p) (24 * s + i) ((q + 1) - (0))) mv ++ rest) := ih_75 (q + 1) ⟨by omega, by omega⟩ (by omega)
              rw [← e_75] at H
              exact H
          · skip
            refine V_iload C dX8_film_69 rfl ?_
            exact V_iret C R dX8_film_71 ⟨by rw [if_pos (by omega), if_pos (by omega)], by rw [if_neg (by omega)] <;> rfl⟩
        · skip
          refine V_iconst C dX8_film_50 ?_
          exact V_iret C R dX8_film_51 ⟨by rw [if_neg (by omega)], by rw [if_neg (by omega)] <;> rfl⟩
