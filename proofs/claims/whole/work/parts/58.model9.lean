def liG (g tp : Int → Int) (td : Int) : Int → Int := zcp tp (zup (ovr (ovr g 0 256 0) 124 128 (-4)) 0 td) 0 1 td
def lnd (g : Int → Int) (m p : Int) : Int := min (ld (lt g) (g 0) m p) (la (g 0))
def stt (g : Int → Int) : Int := min (g 61) (la (g 0))
theorem stt_in {g : Int → Int} (hL : 0 ≤ g 0 ∧ g 0 ≤ 60) (hc : 0 ≤ g 61 ∧ g 61 ≤ g 0) : 0 ≤ stt g ∧ stt g ≤ la (g 0) := by
  have := la_in hL.1
  unfold stt; omega
theorem lnd_in {g : Int → Int} {m p : Int} (hL : 0 ≤ g 0 ∧ g 0 ≤ 60) (hp : 0 ≤ p ∧ p ≤ g 0) : 0 ≤ lnd g m p ∧ lnd g m p ≤ la (g 0) := by
  have := la_in hL.1
  have := ld_in (f := lt g) (m := m) hp.1 hp.2
  unfold lnd; omega
def whM (ln sn : Int → Int) (s a i n : Int) : Int := if ln s < 0 then -11 else if ln s ≠ a then -12 else if i < 0 ∨ n > sn s - i then -13 else 0
theorem whM_r {ln sn : Int → Int} {s a i n : Int} : -13 ≤ whM ln sn s a i n ∧ whM ln sn s a i n ≤ 0 := by
  unfold whM
  split
  · omega
  split
  · omega
  split <;> omega
theorem whM_ok {ln sn : Int → Int} {s a i n : Int} (h : 0 ≤ whM ln sn s a i n) : 0 ≤ ln s ∧ ln s = a ∧ 0 ≤ i ∧ n ≤ sn s - i := by
  unfold whM at h
  by_cases h1 : ln s < 0
  · rw [if_pos h1] at h; omega
  rw [if_neg h1] at h
  by_cases h2 : ln s ≠ a
  · rw [if_pos h2] at h; omega
  rw [if_neg h2] at h
  by_cases h3 : i < 0 ∨ n > sn s - i
  · rw [if_pos h3] at h; omega
  omega

set_option maxRecDepth 100000 in
theorem m_X8_line (G : zG) {un td ku : Int} {g ah ag tp co wy th kp ka ln sn it mv : Int → Int} {rest : List va_E} (hg : ∀ j, rng (g j))  (htd : 0 ≤ td ∧ td ≤ 60) (htp : ∀ j, rng (tp j)) : zMet G yX8_line cX8_line 2 (some .int) 0 0 [.ref (G.ad 0)] (mdL G un td ku g ah ag tp co wy th kp ka ln sn it mv ++ rest) (zO (.int (iI td)) (mdL G (0) (0) ku (liG g tp td) ah ag tp co wy th kp ka ln sn it mv ++ rest)) := by
  refine zMet.of (by decide) (Nat.le_of_ble_eq_true rfl) ?_
  intro E C R
  have C : zC G E RX8 cX8_line 2 0 0 := C
  show V G E 0 [some (.ref (G.ad 0)), none] [] (mdL G un td ku g ah ag tp co wy th kp ka ln sn it mv ++ rest)
  refine V_iconst C dX8_line_0 ?_
  refine V_istore_n C dX8_line_1 (by decide) rfl ?_
  suffices H_2 : V G E 2 [some (.ref (G.ad 0)), some (.int (iI 0))] [] (mdL G un td ku (ovr (g) (0) (0) (0)) ah ag tp co wy th kp ka ln sn it mv ++ rest) by
    rw [ovr_0] at H_2
    exact H_2
  refine V_loop (α := Int) (fun x => (1000 - x).toNat) (fun x => 0 ≤ x ∧ x ≤ 256) (fun x => V G E 2 [some (.ref (G.ad 0)), some (.int (iI x))] [] (mdL G un td ku (ovr (g) (0) (x) (0)) ah ag tp co wy th kp ka ln sn it mv ++ rest)) ?_ 0 ⟨by omega, by omega⟩
  rintro q ⟨g1, g2⟩ ih_2
  refine V_iload_n C dX8_line_2 rfl ?_
  refine V_sipush C dX8_line_3 (by decide) ?_
  refine V_icmp_ge (tgt := 22) C dX8_line_6 (by decide) (by omega) (by omega) (fun c_6 => ?_) (fun c_6 => ?_)
  · skip
    have hq : q = 256 := by omega
    subst hq
    clear ih_2
    refine V_iconst C dX8_line_22 ?_
    refine V_istore_n C dX8_line_23 (by decide) rfl ?_
    suffices H_24 : V G E 24 [some (.ref (G.ad 0)), some (.int (iI 0))] [] (mdL G un td ku (ovr (ovr g 0 256 0) (124) (124 + 0) (-4)) ah ag tp co wy th kp ka ln sn it mv ++ rest) by
      rw [Int.add_zero, ovr_0] at H_24
      exact H_24
    refine V_loop (α := Int) (fun x => (1000 - x).toNat) (fun x => 0 ≤ x ∧ x ≤ 4) (fun x => V G E 24 [some (.ref (G.ad 0)), some (.int (iI x))] [] (mdL G un td ku (ovr (ovr g 0 256 0) (124) (124 + x) (-4)) ah ag tp co wy th kp ka ln sn it mv ++ rest)) ?_ 0 ⟨by omega, by omega⟩
    rintro q ⟨g1, g2⟩ ih_24
    refine V_iload_n C dX8_line_24 rfl ?_
    refine V_iconst C dX8_line_25 ?_
    refine V_icmp_ge (tgt := 46) C dX8_line_26 (by decide) (by omega) (by omega) (fun c_26 => ?_) (fun c_26 => ?_)
    · skip
      have hq : q = 4 := by omega
      subst hq
      clear ih_24
      refine V_aload_n C dX8_line_46 rfl ?_
      refine vg_X8_7 C dX8_line_47 rfl rfl ?_
      refine V_iconst C dX8_line_50 ?_
      refine V_aload_n C dX8_line_51 rfl ?_
      refine vg_X8_203 C dX8_line_52 rfl rfl ?_
      refine V_iast C dX8_line_55 rfl (by omega) (by omega) (by decide) ?_
      refine V_iconst C dX8_line_56 ?_
      refine V_istore_n C dX8_line_57 (by decide) rfl ?_
      suffices H_58 : V G E 58 [some (.ref (G.ad 0)), some (.int (iI (0)))] [] (mdL G un td ku (zcp (tp) (zup (ovr (ovr g 0 256 0) 124 128 (-4)) 0 td) (0) (1) ((0) - (0))) ah ag tp co wy th kp ka ln sn it mv ++ rest) by
        rw [show zcp (tp) (zup (ovr (ovr g 0 256 0) 124 128 (-4)) 0 td) (0) (1) (0 - (0)) = zup (ovr (ovr g 0 256 0) 124 128 (-4)) 0 td from by rw [Int.sub_self]; exact zcp_0] at H_58
        exact H_58
      refine V_loop (α := Int) (fun x => (100000 - x).toNat) (fun x => 0 ≤ x ∧ x ≤ td) (fun x => V G E 58 [some (.ref (G.ad 0)), some (.int (iI x))] [] (mdL G un td ku (zcp (tp) (zup (ovr (ovr g 0 256 0) 124 128 (-4)) 0 td) (0) (1) (x - (0))) ah ag tp co wy th kp ka ln sn it mv ++ rest)) ?_ (0) ⟨by omega, by omega⟩
      rintro q ⟨g1, g2⟩ ih_58
      refine V_iload_n C dX8_line_58 rfl ?_
      refine V_aload_n C dX8_line_59 rfl ?_
      refine vg_X8_203 C dX8_line_60 rfl rfl ?_
      refine V_icmp_ge (tgt := 86) C dX8_line_63 (by decide) (by omega) (by omega) (fun c_63 => ?_) (fun c_63 => ?_)
      · skip
        refine V_aload_n C dX8_line_86 rfl ?_
        refine V_iconst C dX8_line_87 ?_
        refine vp_X8_97 C dX8_line_88 rfl (Nat.le_of_ble_eq_true rfl) ?_
        refine V_aload_n C dX8_line_91 rfl ?_
        refine V_iconst C dX8_line_92 ?_
        refine vp_X8_203 C dX8_line_93 rfl (Nat.le_of_ble_eq_true rfl) ?_
        refine V_aload_n C dX8_line_96 rfl ?_
        refine vg_X8_7 C dX8_line_97 rfl rfl ?_
        refine V_iconst C dX8_line_100 ?_
        refine V_iald C dX8_line_101 rfl (by omega) (by omega) (by decide) (by repeat' (first | with_reducible assumption | refine zup_rng ?_ (by first | omega | exact hg _) | refine zcp_rng ?_ ?_ | refine ovr_rng ?_ (by omega) | refine zcp_rngL ?_ ?_ | refine zup_rngL ?_ (by omega))) (fun r_101 => ?_)
        exact V_iret C R dX8_line_102 ⟨by rw [zcp_out (by omega), zup_s], by unfold liG; rw [show q - 0 = td by omega] <;> rfl⟩
      · skip
        refine V_aload_n C dX8_line_66 rfl ?_
        refine vg_X8_7 C dX8_line_67 rfl rfl ?_
        refine V_iconst C dX8_line_70 ?_
        refine V_iload_n C dX8_line_71 rfl ?_
        refine V_iadd C dX8_line_72 ?_
        refine V_aload_n C dX8_line_73 rfl ?_
        refine vg_X8_19 C dX8_line_74 rfl rfl ?_
        refine V_iload_n C dX8_line_77 rfl ?_
        refine V_iald C dX8_line_78 rfl (by omega) (by omega) (by decide) (by repeat' (first | with_reducible assumption | refine zup_rng ?_ (by first | omega | exact hg _) | refine zcp_rng ?_ ?_ | refine ovr_rng ?_ (by omega) | refine zcp_rngL ?_ ?_ | refine zup_rngL ?_ (by omega))) (fun r_78 => ?_)
        refine V_iast C dX8_line_79 rfl (by omega) (by omega) (by decide) ?_
        refine V_iinc C dX8_line_80 rfl (by decide) rfl ?_
        refine V_goto (tgt := 58) C dX8_line_83 (by decide) ?_
        have e_58 : zup (zcp (tp) (zup (ovr (ovr g 0 256 0) 124 128 (-4)) 0 td) (0) (1) (q - (0))) (1 + q) (tp q) = zcp (tp) (zup (ovr (ovr g 0 256 0) 124 128 (-4)) 0 td) (0) (1) (q + 1 - (0)) := zcp_st (by rw [Int.sub_zero, Int.zero_add]) (by omega) (by omega) (by omega)
        have H : V G E 58 [some (.ref (G.ad 0)), some (.int (iI (q + 1)))] [] (mdL G un td ku (zcp (tp) (zup (ovr (ovr g 0 256 0) 124 128 (-4)) 0 td) (0) (1) ((q + 1) - (0))) ah ag tp co wy th kp ka ln sn it mv ++ rest) := ih_58 (q + 1) ⟨by omega, by omega⟩ (by omega)
        rw [← e_58] at H
        exact H
    · skip
      refine V_aload_n C dX8_line_29 rfl ?_
      refine vg_X8_7 C dX8_line_30 rfl rfl ?_
      refine V_bipush C dX8_line_33 (by decide) ?_
      refine V_iload_n C dX8_line_35 rfl ?_
      refine V_iadd C dX8_line_36 ?_
      refine V_bipush C dX8_line_37 (by decide) ?_
      refine V_iast C dX8_line_39 rfl (by omega) (by omega) (by decide) ?_
      refine V_iinc C dX8_line_40 rfl (by decide) rfl ?_
      refine V_goto (tgt := 24) C dX8_line_43 (by decide) ?_
      have H : V G E 24 [some (.ref (G.ad 0)), some (.int (iI (q + 1)))] [] (mdL G un td ku (ovr (ovr g 0 256 0) (124) (124 + (q + 1)) (-4)) ah ag tp co wy th kp ka ln sn it mv ++ rest) := ih_24 (q + 1) ⟨by omega, by omega⟩ (by omega)
      rw [← ovr_1 (e := 124 + q) (by omega) (by omega)] at H
      exact H
  · skip
    refine V_aload_n C dX8_line_9 rfl ?_
    refine vg_X8_7 C dX8_line_10 rfl rfl ?_
    refine V_iload_n C dX8_line_13 rfl ?_
    refine V_iconst C dX8_line_14 ?_
    refine V_iast C dX8_line_15 rfl (by omega) (by omega) (by decide) ?_
    refine V_iinc C dX8_line_16 rfl (by decide) rfl ?_
    refine V_goto (tgt := 2) C dX8_line_19 (by decide) ?_
    have H : V G E 2 [some (.ref (G.ad 0)), some (.int (iI (q + 1)))] [] (mdL G un td ku (ovr (g) (0) ((q + 1)) (0)) ah ag tp co wy th kp ka ln sn it mv ++ rest) := ih_2 (q + 1) ⟨by omega, by omega⟩ (by omega)
    rw [← ovr_1 (e := q) (by omega) (by omega)] at H
    exact H

set_option maxRecDepth 100000 in
theorem m_X8_price (G : zG) {un td ku : Int} {g ah ag tp co wy th kp ka ln sn it mv : Int → Int} {rest : List va_E} (hg : ∀ j, rng (g j))  {m v : Int} (hm : rng m) (hv : rng v) : zMet G yX8_price cX8_price 4 (some .int) 2 45 [.ref (G.ad 0), .int (iI m), .int (iI v)] (mdL G un td ku g ah ag tp co wy th kp ka ln sn it mv ++ rest) (zO (.int (iI (if 0 ≤ m ∧ m ≤ 6 ∧ 1 ≤ v ∧ v ≤ 9 then (if g (256 + m) = v then -2 else g (256 + m)) else -1))) (mdL G un td ku (if 0 ≤ m ∧ m ≤ 6 ∧ 1 ≤ v ∧ v ≤ 9 ∧ g (256 + m) ≠ v then zup g (256 + m) v else g) ah ag tp co wy th kp ka ln sn it mv ++ rest)) := by
  refine zMet.of (by decide) (Nat.le_of_ble_eq_true rfl) ?_
  intro E C R
  have C : zC G E RX8 cX8_price 4 2 45 := C
  show V G E 0 [some (.ref (G.ad 0)), some (.int (iI m)), some (.int (iI v)), none] [] (mdL G un td ku g ah ag tp co wy th kp ka ln sn it mv ++ rest)
  refine V_iload_n C dX8_price_0 rfl ?_
  refine V_callS C lk_X8_216 (m_X8_isMotion G hm) dX8_price_1 rfl rfl (by decide) (Nat.le_of_ble_eq_true rfl) (kO ?_)
  refine V_if_eqB (tgt := 19) C dX8_price_4 (by decide) (fun c_4 => ?_) (fun c_4 => ?_)
  · skip
    refine V_iconst C dX8_price_19 ?_
    exact V_iret C R dX8_price_20 ⟨by rw [if_neg (by omega)], by rw [if_neg (by omega)] <;> rfl⟩
  · skip
    refine V_iload_n C dX8_price_7 rfl ?_
    refine V_i2l C dX8_price_8 (by omega) ?_
    refine V_lconst (z := 1) C dX8_price_9 rfl ?_
    refine V_ldc2 (z := 9) C wk_X8_220 rfl dX8_price_10 ?_
    refine V_callS C lk_X8_58 (m_X8_in G (by omega) (by omega) (by omega)) dX8_price_13 rfl rfl (by decide) (Nat.le_of_ble_eq_true rfl) (kO ?_)
    refine V_if_neB (tgt := 21) C dX8_price_16 (by decide) (fun c_16 => ?_) (fun c_16 => ?_)
    · skip
      refine V_aload_n C dX8_price_21 rfl ?_
      refine vg_X8_7 C dX8_price_22 rfl rfl ?_
      refine V_sipush C dX8_price_25 (by decide) ?_
      refine V_iload_n C dX8_price_28 rfl ?_
      refine V_iadd C dX8_price_29 ?_
      refine V_iald C dX8_price_30 rfl (by omega) (by omega) (by decide) (by repeat' (first | with_reducible assumption | refine zup_rng ?_ (by first | omega | exact hg _) | refine zcp_rng ?_ ?_ | refine ovr_rng ?_ (by omega) | refine zcp_rngL ?_ ?_ | refine zup_rngL ?_ (by omega))) (fun r_30 => ?_)
      refine V_istore_n C dX8_price_31 (by decide) rfl ?_
      refine V_iload_n C dX8_price_32 rfl ?_
      refine V_iload_n C dX8_price_33 rfl ?_
      refine V_icmp_ne (tgt := 40) C dX8_price_34 (by decide) (by omega) (by omega) (fun c_34 => ?_) (fun c_34 => ?_)
      · skip
        refine V_aload_n C dX8_price_40 rfl ?_
        refine vg_X8_7 C dX8_price_41 rfl rfl ?_
        refine V_sipush C dX8_price_44 (by decide) ?_
        refine V_iload_n C dX8_price_47 rfl ?_
        refine V_iadd C dX8_price_48 ?_
        refine V_iload_n C dX8_price_49 rfl ?_
        refine V_iast C dX8_price_50 rfl (by omega) (by omega) (by decide) ?_
        refine V_iload_n C dX8_price_51 rfl ?_
        exact V_iret C R dX8_price_52 ⟨by rw [if_pos (by omega), if_neg (by omega)], by rw [if_pos (by omega)] <;> rfl⟩
      · skip
        refine V_bipush C dX8_price_37 (by decide) ?_
        exact V_iret C R dX8_price_39 ⟨by rw [if_pos (by omega), if_pos (by omega)], by rw [if_neg (by omega)] <;> rfl⟩
    · skip
      refine V_iconst C dX8_price_19 ?_
      exact V_iret C R dX8_price_20 ⟨by rw [if_neg (by omega)], by rw [if_neg (by omega)] <;> rfl⟩

set_option maxRecDepth 100000 in
theorem m_X8_start (G : zG) {un td ku : Int} {g ah ag tp co wy th kp ka ln sn it mv : Int → Int} {rest : List va_E} (hg : ∀ j, rng (g j))  (hL : 0 ≤ g 0 ∧ g 0 ≤ 60) : zMet G yX8_start cX8_start 1 (some .int) 1 21 [.ref (G.ad 0)] (mdL G un td ku g ah ag tp co wy th kp ka ln sn it mv ++ rest) (zO (.int (iI (stt g))) (mdL G un td ku g ah ag tp co wy th kp ka ln sn it mv ++ rest)) := by
  refine zMet.of (by decide) (Nat.le_of_ble_eq_true rfl) ?_
  intro E C R
  have C : zC G E RX8 cX8_start 1 1 21 := C
  show V G E 0 [some (.ref (G.ad 0))] [] (mdL G un td ku g ah ag tp co wy th kp ka ln sn it mv ++ rest)
  have hla := la_in hL.1
  refine V_aload_n C dX8_start_0 rfl ?_
  refine vg_X8_7 C dX8_start_1 rfl rfl ?_
  refine V_bipush C dX8_start_4 (by decide) ?_
  refine V_iald C dX8_start_6 rfl (by omega) (by omega) (by decide) (by repeat' (first | with_reducible assumption | refine zup_rng ?_ (by first | omega | exact hg _) | refine zcp_rng ?_ ?_ | refine ovr_rng ?_ (by omega) | refine zcp_rngL ?_ ?_ | refine zup_rngL ?_ (by omega))) (fun r_6 => ?_)
  refine V_aload_n C dX8_start_7 rfl ?_
  refine V_callV C lk_X8_77 (m_X8_last G hg hL) dX8_start_8 rfl rfl rfl rfl (by decide) (Nat.le_of_ble_eq_true rfl) (kO ?_)
  refine V_callS C lk_X8_94 (m_X8_lesser G (by omega) (by omega)) dX8_start_11 rfl rfl (by decide) (Nat.le_of_ble_eq_true rfl) (kO ?_)
  exact V_iret C R dX8_start_14 ⟨rfl, rfl⟩

set_option maxRecDepth 100000 in
theorem m_X8_lands (G : zG) {un td ku : Int} {g ah ag tp co wy th kp ka ln sn it mv : Int → Int} {rest : List va_E} (hg : ∀ j, rng (g j))  (hL : 0 ≤ g 0 ∧ g 0 ≤ 60) {m p : Int} (hm : 0 ≤ m ∧ m ≤ 6) (hp : 0 ≤ p ∧ p ≤ g 0) : zMet G yX8_lands cX8_lands 3 (some .int) 5 112 [.ref (G.ad 0), .int (iI m), .int (iI p)] (mdL G un td ku g ah ag tp co wy th kp ka ln sn it mv ++ rest) (zO (.int (iI (lnd g m p))) (mdL G un td ku g ah ag tp co wy th kp ka ln sn it mv ++ rest)) := by
  refine zMet.of (by decide) (Nat.le_of_ble_eq_true rfl) ?_
  intro E C R
  have C : zC G E RX8 cX8_lands 3 5 112 := C
  show V G E 0 [some (.ref (G.ad 0)), some (.int (iI m)), some (.int (iI p))] [] (mdL G un td ku g ah ag tp co wy th kp ka ln sn it mv ++ rest)
  have hla := la_in hL.1
  have hl := ld_in (f := lt g) (m := m) hp.1 hp.2
  refine V_aload_n C dX8_lands_0 rfl ?_
  refine V_iload_n C dX8_lands_1 rfl ?_
  refine V_iload_n C dX8_lands_2 rfl ?_
  refine V_callV C lk_X8_119 (m_X8_leadsTo G hg hL hm hp) dX8_lands_3 rfl rfl rfl rfl (by decide) (Nat.le_of_ble_eq_true rfl) (kO ?_)
  refine V_aload_n C dX8_lands_6 rfl ?_
  refine V_callV C lk_X8_77 (m_X8_last G hg hL) dX8_lands_7 rfl rfl rfl rfl (by decide) (Nat.le_of_ble_eq_true rfl) (kO ?_)
  refine V_callS C lk_X8_94 (m_X8_lesser G (by omega) (by omega)) dX8_lands_10 rfl rfl (by decide) (Nat.le_of_ble_eq_true rfl) (kO ?_)
  exact V_iret C R dX8_lands_13 ⟨rfl, rfl⟩

set_option maxRecDepth 100000 in
theorem m_X8_isPlace (G : zG) {un td ku : Int} {g ah ag tp co wy th kp ka ln sn it mv : Int → Int} {rest : List va_E} (hg : ∀ j, rng (g j))  (hL : 0 ≤ g 0 ∧ g 0 ≤ 60) {p : Int} (hp : rng p) : zMet G yX8_isPlace cX8_isPlace 2 (some .boolean) 1 25 [.ref (G.ad 0), .int (iI p)] (mdL G un td ku g ah ag tp co wy th kp ka ln sn it mv ++ rest) (zO (.int (iI (b2z (0 ≤ p ∧ p ≤ la (g 0))))) (mdL G un td ku g ah ag tp co wy th kp ka ln sn it mv ++ rest)) := by
  refine zMet.of (by decide) (Nat.le_of_ble_eq_true rfl) ?_
  intro E C R
  have C : zC G E RX8 cX8_isPlace 2 1 25 := C
  show V G E 0 [some (.ref (G.ad 0)), some (.int (iI p))] [] (mdL G un td ku g ah ag tp co wy th kp ka ln sn it mv ++ rest)
  have hla := la_in hL.1
  refine V_iload_n C dX8_isPlace_0 rfl ?_
  refine V_i2l C dX8_isPlace_1 (by omega) ?_
  refine V_lconst (z := 0) C dX8_isPlace_2 rfl ?_
  refine V_aload_n C dX8_isPlace_3 rfl ?_
  refine V_callV C lk_X8_77 (m_X8_last G hg hL) dX8_isPlace_4 rfl rfl rfl rfl (by decide) (Nat.le_of_ble_eq_true rfl) (kO ?_)
  refine V_i2l C dX8_isPlace_7 (by omega) ?_
  refine V_callS C lk_X8_58 (m_X8_in G (by omega) (by omega) (by omega)) dX8_isPlace_8 rfl rfl (by decide) (Nat.le_of_ble_eq_true rfl) (kO ?_)
  exact V_zret C R dX8_isPlace_11 (by unfold b2z; split; exact Or.inr rfl; exact Or.inl rfl) ⟨rfl, rfl⟩

set_option maxRecDepth 100000 in
theorem m_X8_leads (G : zG) {un td ku : Int} {g ah ag tp co wy th kp ka ln sn it mv : Int → Int} {rest : List va_E} (hg : ∀ j, rng (g j))  (hL : 0 ≤ g 0 ∧ g 0 ≤ 60) {m p : Int} (hm : rng m) (hp : rng p) : zMet G yX8_leads cX8_leads 3 (some .int) 5 112 [.ref (G.ad 0), .int (iI m), .int (iI p)] (mdL G un td ku g ah ag tp co wy th kp ka ln sn it mv ++ rest) (zO (.int (iI (if 0 ≤ m ∧ m ≤ 6 ∧ 0 ≤ p ∧ p ≤ g 0 then ld (lt g) (g 0) m p else -1))) (mdL G un td ku g ah ag tp co wy th kp ka ln sn it mv ++ rest)) := by
  refine zMet.of (by decide) (Nat.le_of_ble_eq_true rfl) ?_
  intro E C R
  have C : zC G E RX8 cX8_leads 3 5 112 := C
  show V G E 0 [some (.ref (G.ad 0)), some (.int (iI m)), some (.int (iI p))] [] (mdL G un td ku g ah ag tp co wy th kp ka ln sn it mv ++ rest)
  refine V_iload_n C dX8_leads_0 rfl ?_
  refine V_callS C lk_X8_216 (m_X8_isMotion G hm) dX8_leads_1 rfl rfl (by decide) (Nat.le_of_ble_eq_true rfl) (kO ?_)
  refine V_if_eqB (tgt := 32) C dX8_leads_4 (by decide) (fun c_4 => ?_) (fun c_4 => ?_)
  · skip
    refine V_iconst C dX8_leads_32 ?_
    exact V_iret C R dX8_leads_33 (zO_i (by first | rw [if_pos (by omega)] | rw [if_neg (by omega)]))
  · skip
    refine V_iload_n C dX8_leads_7 rfl ?_
    refine V_i2l C dX8_leads_8 (by omega) ?_
    refine V_lconst (z := 0) C dX8_leads_9 rfl ?_
    refine V_aload_n C dX8_leads_10 rfl ?_
    refine vg_X8_7 C dX8_leads_11 rfl rfl ?_
    refine V_iconst C dX8_leads_14 ?_
    refine V_iald C dX8_leads_15 rfl (by omega) (by omega) (by decide) (by repeat' (first | with_reducible assumption | refine zup_rng ?_ (by first | omega | exact hg _) | refine zcp_rng ?_ ?_ | refine ovr_rng ?_ (by omega) | refine zcp_rngL ?_ ?_ | refine zup_rngL ?_ (by omega))) (fun r_15 => ?_)
    refine V_i2l C dX8_leads_16 (by omega) ?_
    refine V_callS C lk_X8_58 (m_X8_in G (by omega) (by omega) (by omega)) dX8_leads_17 rfl rfl (by decide) (Nat.le_of_ble_eq_true rfl) (kO ?_)
    refine V_if_eqB (tgt := 32) C dX8_leads_20 (by decide) (fun c_20 => ?_) (fun c_20 => ?_)
    · skip
      refine V_iconst C dX8_leads_32 ?_
      exact V_iret C R dX8_leads_33 (zO_i (by first | rw [if_pos (by omega)] | rw [if_neg (by omega)]))
    · skip
      refine V_aload_n C dX8_leads_23 rfl ?_
      refine V_iload_n C dX8_leads_24 rfl ?_
      refine V_iload_n C dX8_leads_25 rfl ?_
      refine V_callV C lk_X8_119 (m_X8_leadsTo G hg hL (by omega) (by omega)) dX8_leads_26 rfl rfl rfl rfl (by decide) (Nat.le_of_ble_eq_true rfl) (kO ?_)
      refine V_goto (tgt := 33) C dX8_leads_29 (by decide) ?_
      exact V_iret C R dX8_leads_33 (zO_i (by first | rw [if_pos (by omega)] | rw [if_neg (by omega)]))

set_option maxRecDepth 100000 in
theorem m_X8_once (G : zG) {un td ku : Int} {g ah ag tp co wy th kp ka ln sn it mv : Int → Int} {rest : List va_E} (hg : ∀ j, rng (g j))  (hL : 0 ≤ g 0 ∧ g 0 ≤ 60) (hc : 0 ≤ g 61 ∧ g 61 ≤ g 0) {p : Int} (hp : rng p) : zMet G yX8_once cX8_once 4 (some .int) 6 134 [.ref (G.ad 0), .int (iI p)] (mdL G un td ku g ah ag tp co wy th kp ka ln sn it mv ++ rest) (zO (.int (iI (if 0 ≤ p ∧ p ≤ la (g 0) then bsN (fun j => decide (lnd g j (stt g) = p)) 7 else -1))) (mdL G un td ku g ah ag tp co wy th kp ka ln sn it mv ++ rest)) := by
  refine zMet.of (by decide) (Nat.le_of_ble_eq_true rfl) ?_
  intro E C R
  have C : zC G E RX8 cX8_once 4 6 134 := C
  show V G E 0 [some (.ref (G.ad 0)), some (.int (iI p)), none, none] [] (mdL G un td ku g ah ag tp co wy th kp ka ln sn it mv ++ rest)
  have hla := la_in hL.1
  have hst := stt_in hL hc
  refine V_aload_n C dX8_once_0 rfl ?_
  refine V_iload_n C dX8_once_1 rfl ?_
  refine V_callV C lk_X8_226 (m_X8_isPlace G hg hL hp) dX8_once_2 rfl rfl rfl rfl (by decide) (Nat.le_of_ble_eq_true rfl) (kO ?_)
  refine V_if_neB (tgt := 10) C dX8_once_5 (by decide) (fun c_5 => ?_) (fun c_5 => ?_)
  · skip
    refine V_iconst C dX8_once_10 ?_
    refine V_istore_n C dX8_once_11 (by decide) rfl ?_
    refine V_iconst C dX8_once_12 ?_
    refine V_istore_n C dX8_once_13 (by decide) rfl ?_
    refine V_loop (α := Nat) (fun x => 10 - x) (fun x => x ≤ 7) (fun x => V G E 14 [some (.ref (G.ad 0)), some (.int (iI p)), some (.int (iI (bsN (fun j => decide (lnd g j (stt g) = p)) x))), some (.int (iI (x : Int)))] [] (mdL G un td ku g ah ag tp co wy th kp ka ln sn it mv ++ rest)) ?_ 0 (by omega)
    rintro q g1 ih_14
    have hb := bsN_in (fun j => decide (lnd g j (stt g) = p)) q
    have hld := lnd_in (g := g) (m := (q : Int)) (p := stt g) hL (by omega)
    refine V_iload_n C dX8_once_14 rfl ?_
    refine V_bipush C dX8_once_15 (by decide) ?_
    refine V_icmp_ge (tgt := 49) C dX8_once_17 (by decide) (by omega) (by omega) (fun c_17 => ?_) (fun c_17 => ?_)
    · skip
      refine V_iload_n C dX8_once_49 rfl ?_
      exact V_iret C R dX8_once_50 (zO_i (by rw [if_pos (by omega), show q = 7 by omega]))
    · skip
      refine V_iload_n C dX8_once_20 rfl ?_
      refine V_aload_n C dX8_once_21 rfl ?_
      refine V_iload_n C dX8_once_22 rfl ?_
      refine V_aload_n C dX8_once_23 rfl ?_
      refine V_callV C lk_X8_232 (m_X8_start G hg hL) dX8_once_24 rfl rfl rfl rfl (by decide) (Nat.le_of_ble_eq_true rfl) (kO ?_)
      refine V_callV C lk_X8_223 (m_X8_lands G hg hL (by omega) (by omega)) dX8_once_27 rfl rfl rfl rfl (by decide) (Nat.le_of_ble_eq_true rfl) (kO ?_)
      refine V_iload_n C dX8_once_30 rfl ?_
      refine V_icmp_ne (tgt := 40) C dX8_once_31 (by decide) (by omega) (by omega) (fun c_31 => ?_) (fun c_31 => ?_)
      · skip
        refine V_iconst C dX8_once_40 ?_
        refine V_ior (z := bsN (fun j => decide (lnd g j (stt g) = p)) q) C dX8_once_41 (by rw [bs_or0]) ?_
        refine V_istore_n C dX8_once_42 (by decide) rfl ?_
        refine V_iinc C dX8_once_43 rfl (by decide) rfl ?_
        refine V_goto (tgt := 14) C dX8_once_46 (by decide) ?_
        have e1 : bsN (fun j => decide (lnd g j (stt g) = p)) (q + 1) = _ := bsN.eq_2 _ _
        first
          | (rw [if_pos (by simpa using c_31)] at e1; rw [← e1]; exact ih_14 (q + 1) (by omega) (by omega))
          | (rw [if_neg (by simpa using c_31), Int.add_zero] at e1; rw [← e1]; exact ih_14 (q + 1) (by omega) (by omega))
      · skip
        refine V_iconst C dX8_once_34 ?_
        refine V_iload_n C dX8_once_35 rfl ?_
        refine V_ishl (z := _) C dX8_once_36 (iI_of _).symm ?_
        refine V_goto (tgt := 41) C dX8_once_37 (by decide) ?_
        refine V_ior (z := bsN (fun j => decide (lnd g j (stt g) = p)) q + 2 ^ q) C dX8_once_41 (by rw [iI_of]; exact bs_or2 (by omega) hb.1 hb.2 (bs_lt _ (by omega))) ?_
        refine V_istore_n C dX8_once_42 (by decide) rfl ?_
        refine V_iinc C dX8_once_43 rfl (by decide) rfl ?_
        refine V_goto (tgt := 14) C dX8_once_46 (by decide) ?_
        have e1 : bsN (fun j => decide (lnd g j (stt g) = p)) (q + 1) = _ := bsN.eq_2 _ _
        first
          | (rw [if_pos (by simpa using c_31)] at e1; rw [← e1]; exact ih_14 (q + 1) (by omega) (by omega))
          | (rw [if_neg (by simpa using c_31), Int.add_zero] at e1; rw [← e1]; exact ih_14 (q + 1) (by omega) (by omega))
  · skip
    refine V_iconst C dX8_once_8 ?_
    exact V_iret C R dX8_once_9 (zO_i (by rw [if_neg (by omega)]))

set_option maxRecDepth 100000 in
theorem m_X8_goes (G : zG) {un td ku : Int} {g ah ag tp co wy th kp ka ln sn it mv : Int → Int} {rest : List va_E} (hg : ∀ j, rng (g j))  (hL : 0 ≤ g 0 ∧ g 0 ≤ 60) (hc : 0 ≤ g 61 ∧ g 61 ≤ g 0) {m n : Int} (hm : rng m) (hn : rng n) : zMet G yX8_goes cX8_goes 8 (some .int) 5 112 [.ref (G.ad 0), .int (iI m), .int (iI n)] (mdL G un td ku g ah ag tp co wy th kp ka ln sn it mv ++ rest) (zO (.int (iI (if 0 ≤ m ∧ m ≤ 6 ∧ 1 ≤ n ∧ n ≤ 99 then min (max (stt g) (ldN (lt g) (g 0) m n.toNat (stt g)) + b2z (m = 3 ∨ m = 6)) (g 0) - min (stt g) (ldN (lt g) (g 0) m n.toNat (stt g)) else -1))) (mdL G un td ku g ah ag tp co wy th kp ka ln sn it mv ++ rest)) := by
  refine zMet.of (by decide) (Nat.le_of_ble_eq_true rfl) ?_
  intro E C R
  have C : zC G E RX8 cX8_goes 8 5 112 := C
  show V G E 0 [some (.ref (G.ad 0)), some (.int (iI m)), some (.int (iI n)), none, none, none, none, none] [] (mdL G un td ku g ah ag tp co wy th kp ka ln sn it mv ++ rest)
  have hla := la_in hL.1
  have hst := stt_in hL hc
  have hN := ldN_in (f := lt g) (L := g 0) (m := m) n.toNat (stt g) (by omega) (by omega)
  have hb2 : 0 ≤ b2z (m = 3 ∨ m = 6) ∧ b2z (m = 3 ∨ m = 6) ≤ 1 := by unfold b2z; split <;> omega
  refine V_iload_n C dX8_goes_0 rfl ?_
  refine V_callS C lk_X8_216 (m_X8_isMotion G hm) dX8_goes_1 rfl rfl (by decide) (Nat.le_of_ble_eq_true rfl) (kO ?_)
  refine V_if_eqB (tgt := 19) C dX8_goes_4 (by decide) (fun c_4 => ?_) (fun c_4 => ?_)
  · skip
    refine V_iconst C dX8_goes_19 ?_
    exact V_iret C R dX8_goes_20 (zO_i (by rw [if_neg (by omega)]))
  · skip
    refine V_iload_n C dX8_goes_7 rfl ?_
    refine V_i2l C dX8_goes_8 (by omega) ?_
    refine V_lconst (z := 1) C dX8_goes_9 rfl ?_
    refine V_ldc2 (z := 99) C wk_X8_235 rfl dX8_goes_10 ?_
    refine V_callS C lk_X8_58 (m_X8_in G (by omega) (by omega) (by omega)) dX8_goes_13 rfl rfl (by decide) (Nat.le_of_ble_eq_true rfl) (kO ?_)
    refine V_if_neB (tgt := 21) C dX8_goes_16 (by decide) (fun c_16 => ?_) (fun c_16 => ?_)
    · skip
      refine V_aload_n C dX8_goes_21 rfl ?_
      refine V_callV C lk_X8_232 (m_X8_start G hg hL) dX8_goes_22 rfl rfl rfl rfl (by decide) (Nat.le_of_ble_eq_true rfl) (kO ?_)
      refine V_istore_n C dX8_goes_25 (by decide) rfl ?_
      refine V_iload_n C dX8_goes_26 rfl ?_
      refine V_istore C dX8_goes_27 (by decide) rfl ?_
      refine V_iconst C dX8_goes_29 ?_
      refine V_istore C dX8_goes_30 (by decide) rfl ?_
      refine V_loop (α := Int × Int) (fun x => (200 - x.1).toNat) (fun x => 0 ≤ x.1 ∧ x.1 ≤ n ∧ 0 ≤ x.2 ∧ x.2 ≤ g 0 ∧ ldN (lt g) (g 0) m (n - x.1).toNat x.2 = (ldN (lt g) (g 0) m n.toNat (stt g))) (fun x => V G E 32 [some (.ref (G.ad 0)), some (.int (iI m)), some (.int (iI n)), some (.int (iI (stt g))), some (.int (iI x.2)), some (.int (iI x.1)), none, none] [] (mdL G un td ku g ah ag tp co wy th kp ka ln sn it mv ++ rest)) ?_ (0, stt g) ⟨by dsimp only; omega, by dsimp only; omega, by dsimp only; omega, by dsimp only; omega, by dsimp only; rw [Int.sub_zero]⟩
      rintro ⟨i, q⟩ ⟨g1, g2, g3, g4, g5⟩ ih_32
      dsimp only at *
      refine V_iload C dX8_goes_32 rfl ?_
      refine V_iload_n C dX8_goes_34 rfl ?_
      refine V_icmp_ge (tgt := 53) C dX8_goes_35 (by decide) (by omega) (by omega) (fun c_35 => ?_) (fun c_35 => ?_)
      · skip
        rw [show (n - i).toNat = 0 by omega] at g5
        have hq : q = (ldN (lt g) (g 0) m n.toNat (stt g)) := g5
        subst hq
        refine V_iload_n C dX8_goes_53 rfl ?_
        refine V_iload C dX8_goes_54 rfl ?_
        refine V_callS C lk_X8_94 (m_X8_lesser G (by omega) (by omega)) dX8_goes_56 rfl rfl (by decide) (Nat.le_of_ble_eq_true rfl) (kO ?_)
        refine V_istore C dX8_goes_59 (by decide) rfl ?_
        refine V_midz (pc2 := 73) (max (stt g) (ldN (lt g) (g 0) m n.toNat (stt g))) ?_ (fun kk_61 => ?_)
        · skip
          refine V_istore C dX8_goes_73 (by decide) rfl ?_
          refine V_midb (pc2 := 91) (m = 3 ∨ m = 6) ?_ (fun kt_75 kf_75 => ?_)
          · skip
            refine V_istore C dX8_goes_91 (by decide) rfl ?_
            refine V_iload C dX8_goes_93 rfl ?_
            refine V_midz (pc2 := 105) (b2z (m = 3 ∨ m = 6)) ?_ (fun kk_95 => ?_)
            · skip
              refine V_iadd C dX8_goes_105 ?_
              refine V_aload_n C dX8_goes_106 rfl ?_
              refine vg_X8_7 C dX8_goes_107 rfl rfl ?_
              refine V_iconst C dX8_goes_110 ?_
              refine V_iald C dX8_goes_111 rfl (by omega) (by omega) (by decide) (by repeat' (first | with_reducible assumption | refine zup_rng ?_ (by first | omega | exact hg _) | refine zcp_rng ?_ ?_ | refine ovr_rng ?_ (by omega) | refine zcp_rngL ?_ ?_ | refine zup_rngL ?_ (by omega))) (fun r_111 => ?_)
              refine V_callS C lk_X8_94 (m_X8_lesser G (by omega) (by omega)) dX8_goes_112 rfl rfl (by decide) (Nat.le_of_ble_eq_true rfl) (kO ?_)
              refine V_iload C dX8_goes_115 rfl ?_
              refine V_isub C dX8_goes_117 ?_
              exact V_iret C R dX8_goes_118 (zO_i (by rw [if_pos (by omega)]))
            · skip
              refine V_iload C dX8_goes_95 rfl ?_
              refine V_if_eqB (tgt := 104) C dX8_goes_97 (by decide) (fun c_97 => ?_) (fun c_97 => ?_)
              · skip
                refine V_iconst C dX8_goes_104 ?_
                exact kk_95 _ (by first | exact (b2z_1 (by assumption)) | exact (b2z_0 (by assumption)))
              · skip
                refine V_iconst C dX8_goes_100 ?_
                refine V_goto (tgt := 105) C dX8_goes_101 (by decide) ?_
                exact kk_95 _ (by first | exact (b2z_1 (by assumption)) | exact (b2z_0 (by assumption)))
          · skip
            refine V_iload_n C dX8_goes_75 rfl ?_
            refine V_iconst C dX8_goes_76 ?_
            refine V_icmp_eq (tgt := 86) C dX8_goes_77 (by decide) (by omega) (by omega) (fun c_77 => ?_) (fun c_77 => ?_)
            · skip
              refine V_iconst C dX8_goes_86 ?_
              refine V_goto (tgt := 91) C dX8_goes_87 (by decide) ?_
              exact kt_75 (by omega)
            · skip
              refine V_iload_n C dX8_goes_80 rfl ?_
              refine V_bipush C dX8_goes_81 (by decide) ?_
              refine V_icmp_ne (tgt := 90) C dX8_goes_83 (by decide) (by omega) (by omega) (fun c_83 => ?_) (fun c_83 => ?_)
              · skip
                refine V_iconst C dX8_goes_90 ?_
                exact kf_75 (by omega)
              · skip
                refine V_iconst C dX8_goes_86 ?_
                refine V_goto (tgt := 91) C dX8_goes_87 (by decide) ?_
                exact kt_75 (by omega)
        · skip
          refine V_iload C dX8_goes_61 rfl ?_
          refine V_iload_n C dX8_goes_63 rfl ?_
          refine V_icmp_ne (tgt := 72) C dX8_goes_64 (by decide) (by omega) (by omega) (fun c_64 => ?_) (fun c_64 => ?_)
          · skip
            refine V_iload_n C dX8_goes_72 rfl ?_
            exact kk_61 _ (by omega)
          · skip
            refine V_iload C dX8_goes_67 rfl ?_
            refine V_goto (tgt := 73) C dX8_goes_69 (by decide) ?_
            exact kk_61 _ (by omega)
      · skip
        refine V_aload_n C dX8_goes_38 rfl ?_
        refine V_iload_n C dX8_goes_39 rfl ?_
        refine V_iload C dX8_goes_40 rfl ?_
        refine V_callV C lk_X8_119 (m_X8_leadsTo G hg hL (by omega) (by omega)) dX8_goes_42 rfl rfl rfl rfl (by decide) (Nat.le_of_ble_eq_true rfl) (kO ?_)
        refine V_istore C dX8_goes_45 (by decide) rfl ?_
        refine V_iinc C dX8_goes_47 rfl (by decide) rfl ?_
        refine V_goto (tgt := 32) C dX8_goes_50 (by decide) ?_
        have hl := ld_in (f := lt g) (m := m) g3 g4
        exact ih_32 (i + 1, ld (lt g) (g 0) m q) ⟨by dsimp only; omega, by dsimp only; omega, hl.1, hl.2, by rw [← g5, show (n - i).toNat = (n - (i + 1)).toNat + 1 by omega]; rfl⟩ (by dsimp only; omega)
    · skip
      refine V_iconst C dX8_goes_19 ?_
      exact V_iret C R dX8_goes_20 (zO_i (by rw [if_neg (by omega)]))

set_option maxRecDepth 100000 in
theorem m_X8_image (G : zG) {un td ku : Int} {g ah ag tp co wy th kp ka ln sn it mv : Int → Int} {rest : List va_E} (hg : ∀ j, rng (g j))  (hah : ∀ j, rng (ah j)) (hun : rng un) : zMet G yX8_image cX8_image 2 (some .int) 0 0 [.ref (G.ad 0)] (mdL G un td ku g ah ag tp co wy th kp ka ln sn it mv ++ rest) (zO (.int (iI 1)) (mdL G un td (un) g ah ag tp co wy th (zcp g kp 0 0 263) (zcp ah ka 0 0 496) ln sn it mv ++ rest)) := by
  refine zMet.of (by decide) (Nat.le_of_ble_eq_true rfl) ?_
  intro E C R
  have C : zC G E RX8 cX8_image 2 0 0 := C
  show V G E 0 [some (.ref (G.ad 0)), none] [] (mdL G un td ku g ah ag tp co wy th kp ka ln sn it mv ++ rest)
  refine V_iconst C dX8_image_0 ?_
  refine V_istore_n C dX8_image_1 (by decide) rfl ?_
  suffices H_2 : V G E 2 [some (.ref (G.ad 0)), some (.int (iI (0)))] [] (mdL G un td ku g ah ag tp co wy th (zcp (g) (kp) (0) (0) ((0) - (0))) ka ln sn it mv ++ rest) by
    rw [show zcp (g) (kp) (0) (0) (0 - (0)) = kp from by rw [Int.sub_self]; exact zcp_0] at H_2
    exact H_2
  refine V_loop (α := Int) (fun x => (100000 - x).toNat) (fun x => 0 ≤ x ∧ x ≤ 263) (fun x => V G E 2 [some (.ref (G.ad 0)), some (.int (iI x))] [] (mdL G un td ku g ah ag tp co wy th (zcp (g) (kp) (0) (0) (x - (0))) ka ln sn it mv ++ rest)) ?_ (0) ⟨by omega, by omega⟩
  rintro q ⟨g1, g2⟩ ih_2
  refine V_iload_n C dX8_image_2 rfl ?_
  refine V_sipush C dX8_image_3 (by decide) ?_
  refine V_icmp_ge (tgt := 27) C dX8_image_6 (by decide) (by omega) (by omega) (fun c_6 => ?_) (fun c_6 => ?_)
  · skip
    have hq : q = 263 := by omega
    subst hq
    clear ih_2
    refine V_iconst C dX8_image_27 ?_
    refine V_istore_n C dX8_image_28 (by decide) rfl ?_
    suffices H_29 : V G E 29 [some (.ref (G.ad 0)), some (.int (iI (0)))] [] (mdL G un td ku g ah ag tp co wy th (zcp g kp 0 0 263) (zcp (ah) (ka) (0) (0) ((0) - (0))) ln sn it mv ++ rest) by
      rw [show zcp (ah) (ka) (0) (0) (0 - (0)) = ka from by rw [Int.sub_self]; exact zcp_0] at H_29
      exact H_29
    refine V_loop (α := Int) (fun x => (100000 - x).toNat) (fun x => 0 ≤ x ∧ x ≤ 496) (fun x => V G E 29 [some (.ref (G.ad 0)), some (.int (iI x))] [] (mdL G un td ku g ah ag tp co wy th (zcp g kp 0 0 263) (zcp (ah) (ka) (0) (0) (x - (0))) ln sn it mv ++ rest)) ?_ (0) ⟨by omega, by omega⟩
    rintro q ⟨g1, g2⟩ ih_29
    refine V_iload_n C dX8_image_29 rfl ?_
    refine V_sipush C dX8_image_30 (by decide) ?_
    refine V_icmp_ge (tgt := 54) C dX8_image_33 (by decide) (by omega) (by omega) (fun c_33 => ?_) (fun c_33 => ?_)
    · skip
      refine V_aload_n C dX8_image_54 rfl ?_
      refine V_aload_n C dX8_image_55 rfl ?_
      refine vg_X8_97 C dX8_image_56 rfl rfl ?_
      refine vp_X8_37 C dX8_image_59 rfl (Nat.le_of_ble_eq_true rfl) ?_
      refine V_iconst C dX8_image_62 ?_
      exact V_iret C R dX8_image_63 ⟨rfl, by rw [show q - 0 = 496 by omega] <;> rfl⟩
    · skip
      refine V_aload_n C dX8_image_36 rfl ?_
      refine vg_X8_34 C dX8_image_37 rfl rfl ?_
      refine V_iload_n C dX8_image_40 rfl ?_
      refine V_aload_n C dX8_image_41 rfl ?_
      refine vg_X8_13 C dX8_image_42 rfl rfl ?_
      refine V_iload_n C dX8_image_45 rfl ?_
      refine V_iald C dX8_image_46 rfl (by omega) (by omega) (by decide) (by repeat' (first | with_reducible assumption | refine zup_rng ?_ (by first | omega | exact hg _) | refine zcp_rng ?_ ?_ | refine ovr_rng ?_ (by omega) | refine zcp_rngL ?_ ?_ | refine zup_rngL ?_ (by omega))) (fun r_46 => ?_)
      refine V_iast C dX8_image_47 rfl (by omega) (by omega) (by decide) ?_
      refine V_iinc C dX8_image_48 rfl (by decide) rfl ?_
      refine V_goto (tgt := 29) C dX8_image_51 (by decide) ?_
      have e_29 : zup (zcp (ah) (ka) (0) (0) (q - (0))) (q) (ah q) = zcp (ah) (ka) (0) (0) (q + 1 - (0)) := zcp_st (by rw [Int.sub_zero, Int.zero_add]) (by omega) (by omega) (by omega)
      have H : V G E 29 [some (.ref (G.ad 0)), some (.int (iI (q + 1)))] [] (mdL G un td ku g ah ag tp co wy th (zcp g kp 0 0 263) (zcp (ah) (ka) (0) (0) ((q + 1) - (0))) ln sn it mv ++ rest) := ih_29 (q + 1) ⟨by omega, by omega⟩ (by omega)
      rw [← e_29] at H
      exact H
  · skip
    refine V_aload_n C dX8_image_9 rfl ?_
    refine vg_X8_31 C dX8_image_10 rfl rfl ?_
    refine V_iload_n C dX8_image_13 rfl ?_
    refine V_aload_n C dX8_image_14 rfl ?_
    refine vg_X8_7 C dX8_image_15 rfl rfl ?_
    refine V_iload_n C dX8_image_18 rfl ?_
    refine V_iald C dX8_image_19 rfl (by omega) (by omega) (by decide) (by repeat' (first | with_reducible assumption | refine zup_rng ?_ (by first | omega | exact hg _) | refine zcp_rng ?_ ?_ | refine ovr_rng ?_ (by omega) | refine zcp_rngL ?_ ?_ | refine zup_rngL ?_ (by omega))) (fun r_19 => ?_)
    refine V_iast C dX8_image_20 rfl (by omega) (by omega) (by decide) ?_
    refine V_iinc C dX8_image_21 rfl (by decide) rfl ?_
    refine V_goto (tgt := 2) C dX8_image_24 (by decide) ?_
    have e_2 : zup (zcp (g) (kp) (0) (0) (q - (0))) (q) (g q) = zcp (g) (kp) (0) (0) (q + 1 - (0)) := zcp_st (by rw [Int.sub_zero, Int.zero_add]) (by omega) (by omega) (by omega)
    have H : V G E 2 [some (.ref (G.ad 0)), some (.int (iI (q + 1)))] [] (mdL G un td ku g ah ag tp co wy th (zcp (g) (kp) (0) (0) ((q + 1) - (0))) ka ln sn it mv ++ rest) := ih_2 (q + 1) ⟨by omega, by omega⟩ (by omega)
    rw [← e_2] at H
    exact H

set_option maxRecDepth 100000 in
theorem m_X8_restore (G : zG) {un td ku : Int} {g ah ag tp co wy th kp ka ln sn it mv : Int → Int} {rest : List va_E} (hg : ∀ j, rng (g j))  (hku : rng ku) (hkp : ∀ j, rng (kp j)) (hka : ∀ j, rng (ka j)) : zMet G yX8_restore cX8_restore 2 (some .int) 0 0 [.ref (G.ad 0)] (mdL G un td ku g ah ag tp co wy th kp ka ln sn it mv ++ rest) (zO (.int (iI (if ku < 0 then -4 else 1))) (mdL G (if ku < 0 then un else ku) td ku (if ku < 0 then g else zcp kp g 0 0 263) (if ku < 0 then ah else zcp ka ah 0 0 496) ag tp co wy th kp ka ln sn it mv ++ rest)) := by
  refine zMet.of (by decide) (Nat.le_of_ble_eq_true rfl) ?_
  intro E C R
  have C : zC G E RX8 cX8_restore 2 0 0 := C
  show V G E 0 [some (.ref (G.ad 0)), none] [] (mdL G un td ku g ah ag tp co wy th kp ka ln sn it mv ++ rest)
  refine V_aload_n C dX8_restore_0 rfl ?_
  refine vg_X8_37 C dX8_restore_1 rfl rfl ?_
  refine V_if_ge (tgt := 10) C dX8_restore_4 (by decide) (by omega) (fun c_4 => ?_) (fun c_4 => ?_)
  · skip
    refine V_iconst C dX8_restore_10 ?_
    refine V_istore_n C dX8_restore_11 (by decide) rfl ?_
    suffices H_12 : V G E 12 [some (.ref (G.ad 0)), some (.int (iI (0)))] [] (mdL G un td ku (zcp (kp) (g) (0) (0) ((0) - (0))) ah ag tp co wy th kp ka ln sn it mv ++ rest) by
      rw [show zcp (kp) (g) (0) (0) (0 - (0)) = g from by rw [Int.sub_self]; exact zcp_0] at H_12
      exact H_12
    refine V_loop (α := Int) (fun x => (100000 - x).toNat) (fun x => 0 ≤ x ∧ x ≤ 263) (fun x => V G E 12 [some (.ref (G.ad 0)), some (.int (iI x))] [] (mdL G un td ku (zcp (kp) (g) (0) (0) (x - (0))) ah ag tp co wy th kp ka ln sn it mv ++ rest)) ?_ (0) ⟨by omega, by omega⟩
    rintro q ⟨g1, g2⟩ ih_12
    refine V_iload_n C dX8_restore_12 rfl ?_
    refine V_sipush C dX8_restore_13 (by decide) ?_
    refine V_icmp_ge (tgt := 37) C dX8_restore_16 (by decide) (by omega) (by omega) (fun c_16 => ?_) (fun c_16 => ?_)
    · skip
      have hq : q = 263 := by omega
      subst hq
      clear ih_12
      refine V_iconst C dX8_restore_37 ?_
      refine V_istore_n C dX8_restore_38 (by decide) rfl ?_
      suffices H_39 : V G E 39 [some (.ref (G.ad 0)), some (.int (iI (0)))] [] (mdL G un td ku (zcp kp g 0 0 263) (zcp (ka) (ah) (0) (0) ((0) - (0))) ag tp co wy th kp ka ln sn it mv ++ rest) by
        rw [show zcp (ka) (ah) (0) (0) (0 - (0)) = ah from by rw [Int.sub_self]; exact zcp_0] at H_39
        exact H_39
      refine V_loop (α := Int) (fun x => (100000 - x).toNat) (fun x => 0 ≤ x ∧ x ≤ 496) (fun x => V G E 39 [some (.ref (G.ad 0)), some (.int (iI x))] [] (mdL G un td ku (zcp kp g 0 0 263) (zcp (ka) (ah) (0) (0) (x - (0))) ag tp co wy th kp ka ln sn it mv ++ rest)) ?_ (0) ⟨by omega, by omega⟩
      rintro q ⟨g1, g2⟩ ih_39
      refine V_iload_n C dX8_restore_39 rfl ?_
      refine V_sipush C dX8_restore_40 (by decide) ?_
      refine V_icmp_ge (tgt := 64) C dX8_restore_43 (by decide) (by omega) (by omega) (fun c_43 => ?_) (fun c_43 => ?_)
      · skip
        refine V_aload_n C dX8_restore_64 rfl ?_
        refine V_aload_n C dX8_restore_65 rfl ?_
        refine vg_X8_37 C dX8_restore_66 rfl rfl ?_
        refine vp_X8_97 C dX8_restore_69 rfl (Nat.le_of_ble_eq_true rfl) ?_
        refine V_iconst C dX8_restore_72 ?_
        exact V_iret C R dX8_restore_73 ⟨by rw [if_neg (by omega)], by rw [if_neg (by omega), if_neg (by omega), if_neg (by omega), show q - 0 = 496 by omega] <;> rfl⟩
      · skip
        refine V_aload_n C dX8_restore_46 rfl ?_
        refine vg_X8_13 C dX8_restore_47 rfl rfl ?_
        refine V_iload_n C dX8_restore_50 rfl ?_
        refine V_aload_n C dX8_restore_51 rfl ?_
        refine vg_X8_34 C dX8_restore_52 rfl rfl ?_
        refine V_iload_n C dX8_restore_55 rfl ?_
        refine V_iald C dX8_restore_56 rfl (by omega) (by omega) (by decide) (by repeat' (first | with_reducible assumption | refine zup_rng ?_ (by first | omega | exact hg _) | refine zcp_rng ?_ ?_ | refine ovr_rng ?_ (by omega) | refine zcp_rngL ?_ ?_ | refine zup_rngL ?_ (by omega))) (fun r_56 => ?_)
        refine V_iast C dX8_restore_57 rfl (by omega) (by omega) (by decide) ?_
        refine V_iinc C dX8_restore_58 rfl (by decide) rfl ?_
        refine V_goto (tgt := 39) C dX8_restore_61 (by decide) ?_
        have e_39 : zup (zcp (ka) (ah) (0) (0) (q - (0))) (q) (ka q) = zcp (ka) (ah) (0) (0) (q + 1 - (0)) := zcp_st (by rw [Int.sub_zero, Int.zero_add]) (by omega) (by omega) (by omega)
        have H : V G E 39 [some (.ref (G.ad 0)), some (.int (iI (q + 1)))] [] (mdL G un td ku (zcp kp g 0 0 263) (zcp (ka) (ah) (0) (0) ((q + 1) - (0))) ag tp co wy th kp ka ln sn it mv ++ rest) := ih_39 (q + 1) ⟨by omega, by omega⟩ (by omega)
        rw [← e_39] at H
        exact H
    · skip
      refine V_aload_n C dX8_restore_19 rfl ?_
      refine vg_X8_7 C dX8_restore_20 rfl rfl ?_
      refine V_iload_n C dX8_restore_23 rfl ?_
      refine V_aload_n C dX8_restore_24 rfl ?_
      refine vg_X8_31 C dX8_restore_25 rfl rfl ?_
      refine V_iload_n C dX8_restore_28 rfl ?_
      refine V_iald C dX8_restore_29 rfl (by omega) (by omega) (by decide) (by repeat' (first | with_reducible assumption | refine zup_rng ?_ (by first | omega | exact hg _) | refine zcp_rng ?_ ?_ | refine ovr_rng ?_ (by omega) | refine zcp_rngL ?_ ?_ | refine zup_rngL ?_ (by omega))) (fun r_29 => ?_)
      refine V_iast C dX8_restore_30 rfl (by omega) (by omega) (by decide) ?_
      refine V_iinc C dX8_restore_31 rfl (by decide) rfl ?_
      refine V_goto (tgt := 12) C dX8_restore_34 (by decide) ?_
      have e_12 : zup (zcp (kp) (g) (0) (0) (q - (0))) (q) (kp q) = zcp (kp) (g) (0) (0) (q + 1 - (0)) := zcp_st (by rw [Int.sub_zero, Int.zero_add]) (by omega) (by omega) (by omega)
      have H : V G E 12 [some (.ref (G.ad 0)), some (.int (iI (q + 1)))] [] (mdL G un td ku (zcp (kp) (g) (0) (0) ((q + 1) - (0))) ah ag tp co wy th kp ka ln sn it mv ++ rest) := ih_12 (q + 1) ⟨by omega, by omega⟩ (by omega)
      rw [← e_12] at H
      exact H
  · skip
    refine V_bipush C dX8_restore_7 (by decide) ?_
    exact V_iret C R dX8_restore_9 ⟨by rw [if_pos (by omega)], by rw [if_pos (by omega), if_pos (by omega), if_pos (by omega)] <;> rfl⟩
