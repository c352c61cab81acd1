/-! ===== ModalKeys$Text ===== -/
/-- a Text at the ids i (itself), j (its letters) -/
def isT (G : zG) (cs : List va_E) (i j : Nat) (f : Int → Int) (L c : Int) : Prop := cs[i]? = some (.inr (5, [.ref (G.ad j), .int (iI L), .int (iI c)])) ∧ cs[j]? = some (zI G 60 f) ∧ (∀ k, rng (f k)) ∧ 0 ≤ L ∧ L ≤ 60
/-- the cells of a Text, changed -/
def toT (G : zG) (cs : List va_E) (i j : Nat) (f : Int → Int) (L c : Int) : List va_E := (cs.set j (zI G 60 f)).set i (.inr (5, [.ref (G.ad j), .int (iI L), .int (iI c)]))

set_option maxRecDepth 100000 in
theorem m_X5_has (G : zG) {cs : List va_E} {i j : Nat} {f : Int → Int} {L c : Int} (T : isT G cs i j f L c) {p : Int} (hp : rng p) : zMet G yX5_has cX5_has 2 (some .boolean) 0 0 [.ref (G.ad i), .int (iI p)] cs (zO (.int (iI (b2z (0 ≤ p ∧ p < L)))) cs) := by
  refine zMet.of (by decide) (Nat.le_of_ble_eq_true rfl) ?_
  intro E C R
  have C : zC G E RX5 cX5_has 2 0 0 := C
  show V G E 0 [some (.ref (G.ad i)), some (.int (iI p))] [] cs
  obtain ⟨hi, hj, hf, hL0, hL1⟩ := id T
  refine V_iload_n C dX5_has_0 rfl ?_
  refine V_if_lt (tgt := 16) C dX5_has_1 (by decide) (by omega) (fun c_1 => ?_) (fun c_1 => ?_)
  · skip
    refine V_iconst C dX5_has_16 ?_
    exact V_zret C R dX5_has_17 (by first | decide | omega) (zO_i (by first | exact b2z_1 (by omega) | exact b2z_0 (by omega)))
  · skip
    refine V_iload_n C dX5_has_4 rfl ?_
    refine V_aload_n C dX5_has_5 rfl ?_
    refine vg_X5_21 C dX5_has_6 (by assumption) rfl ?_
    refine V_icmp_ge (tgt := 16) C dX5_has_9 (by decide) (by omega) (by omega) (fun c_9 => ?_) (fun c_9 => ?_)
    · skip
      refine V_iconst C dX5_has_16 ?_
      exact V_zret C R dX5_has_17 (by first | decide | omega) (zO_i (by first | exact b2z_1 (by omega) | exact b2z_0 (by omega)))
    · skip
      refine V_iconst C dX5_has_12 ?_
      refine V_goto (tgt := 17) C dX5_has_13 (by decide) ?_
      exact V_zret C R dX5_has_17 (by first | decide | omega) (zO_i (by first | exact b2z_1 (by omega) | exact b2z_0 (by omega)))

set_option maxRecDepth 100000 in
theorem m_X5_at (G : zG) {cs : List va_E} {i j : Nat} {f : Int → Int} {L c : Int} (T : isT G cs i j f L c) {p : Int} (hp : rng p) : zMet G yX5_at cX5_at 2 (some .int) 1 21 [.ref (G.ad i), .int (iI p)] cs (zO (.int (iI (atv f L p))) cs) := by
  refine zMet.of (by decide) (Nat.le_of_ble_eq_true rfl) ?_
  intro E C R
  have C : zC G E RX5 cX5_at 2 1 21 := C
  show V G E 0 [some (.ref (G.ad i)), some (.int (iI p))] [] cs
  obtain ⟨hi, hj, hf, hL0, hL1⟩ := id T
  refine V_aload_n C dX5_at_0 rfl ?_
  refine V_iload_n C dX5_at_1 rfl ?_
  refine V_callV C lk_X5_28 (m_X5_has G T (by omega)) dX5_at_2 rfl rfl (by assumption) rfl (by decide) (Nat.le_of_ble_eq_true rfl) (kO ?_)
  refine V_if_eqB (tgt := 17) C dX5_at_5 (by decide) (fun c_5 => ?_) (fun c_5 => ?_)
  · skip
    refine V_iconst C dX5_at_17 ?_
    exact V_iret C R dX5_at_18 (zO_i (by first | exact (atv_at (by omega) (by omega)).symm | exact (atv_out (by omega)).symm))
  · skip
    refine V_aload_n C dX5_at_8 rfl ?_
    refine vg_X5_9 C dX5_at_9 (by assumption) rfl ?_
    refine V_iload_n C dX5_at_12 rfl ?_
    refine V_iald C dX5_at_13 (by assumption) (by omega) (by omega) (by decide) (by assumption) (fun r_13 => ?_)
    refine V_goto (tgt := 18) C dX5_at_14 (by decide) ?_
    exact V_iret C R dX5_at_18 (zO_i (by first | exact (atv_at (by omega) (by omega)).symm | exact (atv_out (by omega)).symm))

set_option maxRecDepth 100000 in
theorem m_X5_last (G : zG) {cs : List va_E} {i j : Nat} {f : Int → Int} {L c : Int} (T : isT G cs i j f L c) : zMet G yX5_last cX5_last 1 (some .int) 0 0 [.ref (G.ad i)] cs (zO (.int (iI (la L))) cs) := by
  refine zMet.of (by decide) (Nat.le_of_ble_eq_true rfl) ?_
  intro E C R
  have C : zC G E RX5 cX5_last 1 0 0 := C
  show V G E 0 [some (.ref (G.ad i))] [] cs
  obtain ⟨hi, hj, hf, hL0, hL1⟩ := id T
  refine V_aload_n C dX5_last_0 rfl ?_
  refine vg_X5_21 C dX5_last_1 (by assumption) rfl ?_
  refine V_if_le (tgt := 16) C dX5_last_4 (by decide) (by omega) (fun c_4 => ?_) (fun c_4 => ?_)
  · skip
    refine V_iconst C dX5_last_16 ?_
    exact V_iret C R dX5_last_17 (zO_i (by unfold la; split <;> omega))
  · skip
    refine V_aload_n C dX5_last_7 rfl ?_
    refine vg_X5_21 C dX5_last_8 (by assumption) rfl ?_
    refine V_iconst C dX5_last_11 ?_
    refine V_isub C dX5_last_12 ?_
    refine V_goto (tgt := 17) C dX5_last_13 (by decide) ?_
    exact V_iret C R dX5_last_17 (zO_i (by unfold la; split <;> omega))

set_option maxRecDepth 100000 in
theorem m_X5_canStand (G : zG) {cs : List va_E} {i j : Nat} {f : Int → Int} {L c : Int} (T : isT G cs i j f L c) {p : Int} (hp : rng p) : zMet G yX5_canStand cX5_canStand 2 (some .boolean) 1 20 [.ref (G.ad i), .int (iI p)] cs (zO (.int (iI (b2z (0 ≤ p ∧ p ≤ la L)))) cs) := by
  refine zMet.of (by decide) (Nat.le_of_ble_eq_true rfl) ?_
  intro E C R
  have C : zC G E RX5 cX5_canStand 2 1 20 := C
  show V G E 0 [some (.ref (G.ad i)), some (.int (iI p))] [] cs
  obtain ⟨hi, hj, hf, hL0, hL1⟩ := id T
  have hla := la_in hL0
  refine V_iload_n C dX5_canStand_0 rfl ?_
  refine V_if_lt (tgt := 16) C dX5_canStand_1 (by decide) (by omega) (fun c_1 => ?_) (fun c_1 => ?_)
  · skip
    refine V_iconst C dX5_canStand_16 ?_
    exact V_zret C R dX5_canStand_17 (by first | decide | omega) (zO_i (by first | exact b2z_1 (by omega) | exact b2z_0 (by omega)))
  · skip
    refine V_iload_n C dX5_canStand_4 rfl ?_
    refine V_aload_n C dX5_canStand_5 rfl ?_
    refine V_callV C lk_X5_32 (m_X5_last G T) dX5_canStand_6 rfl rfl (by assumption) rfl (by decide) (Nat.le_of_ble_eq_true rfl) (kO ?_)
    refine V_icmp_gt (tgt := 16) C dX5_canStand_9 (by decide) (by omega) (by omega) (fun c_9 => ?_) (fun c_9 => ?_)
    · skip
      refine V_iconst C dX5_canStand_16 ?_
      exact V_zret C R dX5_canStand_17 (by first | decide | omega) (zO_i (by first | exact b2z_1 (by omega) | exact b2z_0 (by omega)))
    · skip
      refine V_iconst C dX5_canStand_12 ?_
      refine V_goto (tgt := 17) C dX5_canStand_13 (by decide) ?_
      exact V_zret C R dX5_canStand_17 (by first | decide | omega) (zO_i (by first | exact b2z_1 (by omega) | exact b2z_0 (by omega)))

set_option maxRecDepth 100000 in
theorem m_X5_standing (G : zG) {cs : List va_E} {i j : Nat} {f : Int → Int} {L c : Int} (T : isT G cs i j f L c) (hc : rng c) : zMet G yX5_standing cX5_standing 1 (some .int) 1 21 [.ref (G.ad i)] cs (zO (.int (iI (min c (la L)))) cs) := by
  refine zMet.of (by decide) (Nat.le_of_ble_eq_true rfl) ?_
  intro E C R
  have C : zC G E RX5 cX5_standing 1 1 21 := C
  show V G E 0 [some (.ref (G.ad i))] [] cs
  obtain ⟨hi, hj, hf, hL0, hL1⟩ := id T
  have hla := la_in hL0
  refine V_aload_n C dX5_standing_0 rfl ?_
  refine vg_X5_25 C dX5_standing_1 (by assumption) rfl ?_
  refine V_aload_n C dX5_standing_4 rfl ?_
  refine V_callV C lk_X5_32 (m_X5_last G T) dX5_standing_5 rfl rfl (by assumption) rfl (by decide) (Nat.le_of_ble_eq_true rfl) (kO ?_)
  refine V_min C wm_X5_36 dX5_standing_8 (by omega) (by omega) (by decide) (Nat.le_of_ble_eq_true rfl) ?_
  exact V_iret C R dX5_standing_11 (zO_i rfl)

set_option maxRecDepth 100000 in
theorem m_X5_kindAt (G : zG) {cs : List va_E} {i j : Nat} {f : Int → Int} {L c : Int} (T : isT G cs i j f L c) {p : Int} (hp : rng p) : zMet G yX5_kindAt cX5_kindAt 6 (some .int) 0 0 [.ref (G.ad i), .int (iI p)] cs (zO (.int (iI (kd f L p))) cs) := by
  refine zMet.of (by decide) (Nat.le_of_ble_eq_true rfl) ?_
  intro E C R
  have C : zC G E RX5 cX5_kindAt 6 0 0 := C
  show V G E 0 [some (.ref (G.ad i)), some (.int (iI p)), none, none, none, none] [] cs
  obtain ⟨hi, hj, hf, hL0, hL1⟩ := id T
  refine V_iload_n C dX5_kindAt_0 rfl ?_
  refine V_if_lt (tgt := 12) C dX5_kindAt_1 (by decide) (by omega) (fun c_1 => ?_) (fun c_1 => ?_)
  · skip
    refine V_iconst C dX5_kindAt_12 ?_
    exact V_iret C R dX5_kindAt_13 (zO_i (by rw [kd_out (by omega)]))
  · skip
    refine V_iload_n C dX5_kindAt_4 rfl ?_
    refine V_aload_n C dX5_kindAt_5 rfl ?_
    refine vg_X5_21 C dX5_kindAt_6 (by assumption) rfl ?_
    refine V_icmp_lt (tgt := 14) C dX5_kindAt_9 (by decide) (by omega) (by omega) (fun c_9 => ?_) (fun c_9 => ?_)
    · skip
      refine V_aload_n C dX5_kindAt_14 rfl ?_
      refine vg_X5_9 C dX5_kindAt_15 (by assumption) rfl ?_
      refine V_iload_n C dX5_kindAt_18 rfl ?_
      refine V_iald C dX5_kindAt_19 (by assumption) (by omega) (by omega) (by decide) (by assumption) (fun r_19 => ?_)
      refine V_istore_n C dX5_kindAt_20 (by decide) rfl ?_
      refine V_iload_n C dX5_kindAt_21 rfl ?_
      refine V_bipush C dX5_kindAt_22 (by decide) ?_
      refine V_icmp_ne (tgt := 29) C dX5_kindAt_24 (by decide) (by omega) (by omega) (fun c_24 => ?_) (fun c_24 => ?_)
      · skip
        refine V_midb (pc2 := 46) (97 ≤ f p ∧ f p ≤ 122) ?_ (fun kt_29 kf_29 => ?_)
        · skip
          refine V_istore_n C dX5_kindAt_46 (by decide) rfl ?_
          refine V_midb (pc2 := 64) (65 ≤ f p ∧ f p ≤ 90) ?_ (fun kt_47 kf_47 => ?_)
          · skip
            refine V_istore C dX5_kindAt_64 (by decide) rfl ?_
            refine V_midb (pc2 := 83) (48 ≤ f p ∧ f p ≤ 57) ?_ (fun kt_66 kf_66 => ?_)
            · skip
              refine V_istore C dX5_kindAt_83 (by decide) rfl ?_
              refine V_iload_n C dX5_kindAt_85 rfl ?_
              refine V_if_neB (tgt := 99) C dX5_kindAt_86 (by decide) (fun c_86 => ?_) (fun c_86 => ?_)
              · skip
                refine V_iconst C dX5_kindAt_99 ?_
                refine V_goto (tgt := 104) C dX5_kindAt_100 (by decide) ?_
                exact V_iret C R dX5_kindAt_104 (zO_i (by rw [kd_at (by omega) (by omega)]; unfold kc; rw [if_neg (by omega)]; first | rw [if_pos (by omega)] | rw [if_neg (by omega)]))
              · skip
                refine V_iload C dX5_kindAt_89 rfl ?_
                refine V_if_neB (tgt := 99) C dX5_kindAt_91 (by decide) (fun c_91 => ?_) (fun c_91 => ?_)
                · skip
                  refine V_iconst C dX5_kindAt_99 ?_
                  refine V_goto (tgt := 104) C dX5_kindAt_100 (by decide) ?_
                  exact V_iret C R dX5_kindAt_104 (zO_i (by rw [kd_at (by omega) (by omega)]; unfold kc; rw [if_neg (by omega)]; first | rw [if_pos (by omega)] | rw [if_neg (by omega)]))
                · skip
                  refine V_iload C dX5_kindAt_94 rfl ?_
                  refine V_if_eqB (tgt := 103) C dX5_kindAt_96 (by decide) (fun c_96 => ?_) (fun c_96 => ?_)
                  · skip
                    refine V_iconst C dX5_kindAt_103 ?_
                    exact V_iret C R dX5_kindAt_104 (zO_i (by rw [kd_at (by omega) (by omega)]; unfold kc; rw [if_neg (by omega)]; first | rw [if_pos (by omega)] | rw [if_neg (by omega)]))
                  · skip
                    refine V_iconst C dX5_kindAt_99 ?_
                    refine V_goto (tgt := 104) C dX5_kindAt_100 (by decide) ?_
                    exact V_iret C R dX5_kindAt_104 (zO_i (by rw [kd_at (by omega) (by omega)]; unfold kc; rw [if_neg (by omega)]; first | rw [if_pos (by omega)] | rw [if_neg (by omega)]))
            · skip
              refine V_iload_n C dX5_kindAt_66 rfl ?_
              refine V_bipush C dX5_kindAt_67 (by decide) ?_
              refine V_icmp_lt (tgt := 82) C dX5_kindAt_69 (by decide) (by omega) (by omega) (fun c_69 => ?_) (fun c_69 => ?_)
              · skip
                refine V_iconst C dX5_kindAt_82 ?_
                exact kf_66 (by omega)
              · skip
                refine V_iload_n C dX5_kindAt_72 rfl ?_
                refine V_bipush C dX5_kindAt_73 (by decide) ?_
                refine V_icmp_gt (tgt := 82) C dX5_kindAt_75 (by decide) (by omega) (by omega) (fun c_75 => ?_) (fun c_75 => ?_)
                · skip
                  refine V_iconst C dX5_kindAt_82 ?_
                  exact kf_66 (by omega)
                · skip
                  refine V_iconst C dX5_kindAt_78 ?_
                  refine V_goto (tgt := 83) C dX5_kindAt_79 (by decide) ?_
                  exact kt_66 (by omega)
          · skip
            refine V_iload_n C dX5_kindAt_47 rfl ?_
            refine V_bipush C dX5_kindAt_48 (by decide) ?_
            refine V_icmp_lt (tgt := 63) C dX5_kindAt_50 (by decide) (by omega) (by omega) (fun c_50 => ?_) (fun c_50 => ?_)
            · skip
              refine V_iconst C dX5_kindAt_63 ?_
              exact kf_47 (by omega)
            · skip
              refine V_iload_n C dX5_kindAt_53 rfl ?_
              refine V_bipush C dX5_kindAt_54 (by decide) ?_
              refine V_icmp_gt (tgt := 63) C dX5_kindAt_56 (by decide) (by omega) (by omega) (fun c_56 => ?_) (fun c_56 => ?_)
              · skip
                refine V_iconst C dX5_kindAt_63 ?_
                exact kf_47 (by omega)
              · skip
                refine V_iconst C dX5_kindAt_59 ?_
                refine V_goto (tgt := 64) C dX5_kindAt_60 (by decide) ?_
                exact kt_47 (by omega)
        · skip
          refine V_iload_n C dX5_kindAt_29 rfl ?_
          refine V_bipush C dX5_kindAt_30 (by decide) ?_
          refine V_icmp_lt (tgt := 45) C dX5_kindAt_32 (by decide) (by omega) (by omega) (fun c_32 => ?_) (fun c_32 => ?_)
          · skip
            refine V_iconst C dX5_kindAt_45 ?_
            exact kf_29 (by omega)
          · skip
            refine V_iload_n C dX5_kindAt_35 rfl ?_
            refine V_bipush C dX5_kindAt_36 (by decide) ?_
            refine V_icmp_gt (tgt := 45) C dX5_kindAt_38 (by decide) (by omega) (by omega) (fun c_38 => ?_) (fun c_38 => ?_)
            · skip
              refine V_iconst C dX5_kindAt_45 ?_
              exact kf_29 (by omega)
            · skip
              refine V_iconst C dX5_kindAt_41 ?_
              refine V_goto (tgt := 46) C dX5_kindAt_42 (by decide) ?_
              exact kt_29 (by omega)
      · skip
        refine V_iconst C dX5_kindAt_27 ?_
        exact V_iret C R dX5_kindAt_28 (zO_i (by rw [kd_at (by omega) (by omega)]; unfold kc; rw [if_pos (by omega)]))
    · skip
      refine V_iconst C dX5_kindAt_12 ?_
      exact V_iret C R dX5_kindAt_13 (zO_i (by rw [kd_out (by omega)]))

set_option maxRecDepth 100000 in
theorem m_X5_behindKind (G : zG) {cs : List va_E} {i j : Nat} {f : Int → Int} {L c : Int} (T : isT G cs i j f L c) {p kd0 : Int} (hp : -1 ≤ p ∧ p ≤ 100) (hk : rng kd0) : zMet G yX5_behindKind cX5_behindKind 4 (some .int) 1 25 [.ref (G.ad i), .int (iI p), .int (iI kd0)] cs (zO (.int (iI (bh f L kd0 p))) cs) := by
  refine zMet.of (by decide) (Nat.le_of_ble_eq_true rfl) ?_
  intro E C R
  have C : zC G E RX5 cX5_behindKind 4 1 25 := C
  show V G E 0 [some (.ref (G.ad i)), some (.int (iI p)), some (.int (iI kd0)), none] [] cs
  obtain ⟨hi, hj, hf, hL0, hL1⟩ := id T
  refine V_iload_n C dX5_behindKind_0 rfl ?_
  refine V_istore_n C dX5_behindKind_1 (by decide) rfl ?_
  refine V_loop (α := Int) (fun x => (200 - x).toNat) (fun x => p ≤ x ∧ x ≤ max p L ∧ bh f L kd0 x = bh f L kd0 p) (fun x => V G E 2 [some (.ref (G.ad i)), some (.int (iI p)), some (.int (iI kd0)), some (.int (iI x))] [] cs) ?_ p ⟨by omega, by omega, rfl⟩
  rintro q ⟨g1, g2, g3⟩ ih_2
  have hq := kd_in f L q
  refine V_iload_n C dX5_behindKind_2 rfl ?_
  refine V_aload_n C dX5_behindKind_3 rfl ?_
  refine vg_X5_21 C dX5_behindKind_4 (by assumption) rfl ?_
  refine V_icmp_ge (tgt := 25) C dX5_behindKind_7 (by decide) (by omega) (by omega) (fun c_7 => ?_) (fun c_7 => ?_)
  · skip
    refine V_iload_n C dX5_behindKind_25 rfl ?_
    exact V_iret C R dX5_behindKind_26 (zO_i (by rw [← g3]; exact (bh_no (by omega)).symm))
  · skip
    refine V_aload_n C dX5_behindKind_10 rfl ?_
    refine V_iload_n C dX5_behindKind_11 rfl ?_
    refine V_callV C lk_X5_42 (m_X5_kindAt G T (by omega)) dX5_behindKind_12 rfl rfl (by assumption) rfl (by decide) (Nat.le_of_ble_eq_true rfl) (kO ?_)
    refine V_iload_n C dX5_behindKind_15 rfl ?_
    refine V_icmp_ne (tgt := 25) C dX5_behindKind_16 (by decide) (by omega) (by omega) (fun c_16 => ?_) (fun c_16 => ?_)
    · skip
      refine V_iload_n C dX5_behindKind_25 rfl ?_
      exact V_iret C R dX5_behindKind_26 (zO_i (by rw [← g3]; exact (bh_no (by omega)).symm))
    · skip
      refine V_iinc C dX5_behindKind_19 rfl (by decide) rfl ?_
      refine V_goto (tgt := 2) C dX5_behindKind_22 (by decide) ?_
      exact ih_2 (q + 1) ⟨by omega, by omega, by rw [← g3]; exact (bh_go (by omega) (by omega)).symm⟩ (by omega)

set_option maxRecDepth 100000 in
theorem m_X5_beginOfKind (G : zG) {cs : List va_E} {i j : Nat} {f : Int → Int} {L c : Int} (T : isT G cs i j f L c) {p kd0 : Int} (hp : 0 ≤ p ∧ p ≤ 100) (hk : rng kd0) : zMet G yX5_beginOfKind cX5_beginOfKind 4 (some .int) 1 25 [.ref (G.ad i), .int (iI p), .int (iI kd0)] cs (zO (.int (iI (bg f L kd0 p))) cs) := by
  refine zMet.of (by decide) (Nat.le_of_ble_eq_true rfl) ?_
  intro E C R
  have C : zC G E RX5 cX5_beginOfKind 4 1 25 := C
  show V G E 0 [some (.ref (G.ad i)), some (.int (iI p)), some (.int (iI kd0)), none] [] cs
  obtain ⟨hi, hj, hf, hL0, hL1⟩ := id T
  refine V_iload_n C dX5_beginOfKind_0 rfl ?_
  refine V_istore_n C dX5_beginOfKind_1 (by decide) rfl ?_
  refine V_loop (α := Int) (fun x => x.toNat) (fun x => 0 ≤ x ∧ x ≤ p ∧ bg f L kd0 x = bg f L kd0 p) (fun x => V G E 2 [some (.ref (G.ad i)), some (.int (iI p)), some (.int (iI kd0)), some (.int (iI x))] [] cs) ?_ p ⟨by omega, by omega, rfl⟩
  rintro q ⟨g1, g2, g3⟩ ih_2
  have hq := kd_in f L (q - 1)
  refine V_iload_n C dX5_beginOfKind_2 rfl ?_
  refine V_if_le (tgt := 23) C dX5_beginOfKind_3 (by decide) (by omega) (fun c_3 => ?_) (fun c_3 => ?_)
  · skip
    refine V_iload_n C dX5_beginOfKind_23 rfl ?_
    exact V_iret C R dX5_beginOfKind_24 (zO_i (by rw [← g3]; exact (bg_no (by omega)).symm))
  · skip
    refine V_aload_n C dX5_beginOfKind_6 rfl ?_
    refine V_iload_n C dX5_beginOfKind_7 rfl ?_
    refine V_iconst C dX5_beginOfKind_8 ?_
    refine V_isub C dX5_beginOfKind_9 ?_
    refine V_callV C lk_X5_42 (m_X5_kindAt G T (by omega)) dX5_beginOfKind_10 rfl rfl (by assumption) rfl (by decide) (Nat.le_of_ble_eq_true rfl) (kO ?_)
    refine V_iload_n C dX5_beginOfKind_13 rfl ?_
    refine V_icmp_ne (tgt := 23) C dX5_beginOfKind_14 (by decide) (by omega) (by omega) (fun c_14 => ?_) (fun c_14 => ?_)
    · skip
      refine V_iload_n C dX5_beginOfKind_23 rfl ?_
      exact V_iret C R dX5_beginOfKind_24 (zO_i (by rw [← g3]; exact (bg_no (by omega)).symm))
    · skip
      refine V_iinc C dX5_beginOfKind_17 rfl (by decide) rfl ?_
      refine V_goto (tgt := 2) C dX5_beginOfKind_20 (by decide) ?_
      exact ih_2 (q + -1) ⟨by omega, by omega, by rw [← g3]; exact (bg_go (by omega) (by omega)).symm⟩ (by omega)

set_option maxRecDepth 100000 in
theorem m_X5_lead (G : zG) {cs : List va_E} {i j : Nat} {f : Int → Int} {L c : Int} (T : isT G cs i j f L c) {m p : Int} (hm : 0 ≤ m ∧ m ≤ 6) (hp : 0 ≤ p ∧ p ≤ L) : zMet G yX5_lead cX5_lead 4 (some .int) 2 48 [.ref (G.ad i), .int (iI m), .int (iI p)] cs (zO (.int (iI (ld f L m p))) cs) := by
  refine zMet.of (by decide) (Nat.le_of_ble_eq_true rfl) ?_
  intro E C R
  have C : zC G E RX5 cX5_lead 4 2 48 := C
  show V G E 0 [some (.ref (G.ad i)), some (.int (iI m)), some (.int (iI p)), none] [] cs
  obtain ⟨hi, hj, hf, hL0, hL1⟩ := id T
  have hla := la_in hL0
  have hq0 := kd_in f L p
  have hb0 := bh_in f L (kd f L p) p
  have hb1 := bg_in f L 0 p
  have hb2 := bh_in f L 0 (p + 1)
  have hb4 := bh_mx f L 0 (p + 1)
  have hb5 := bh_in f L (kd f L (bh f L 0 (p + 1))) (bh f L 0 (p + 1))
  have hq1 := kd_in f L (bg f L 0 p - 1)
  have hq2 := kd_in f L (bh f L 0 (p + 1))
  refine V_iload_n C dX5_lead_0 rfl ?_
  by_cases w_1_0 : m = 0
  · rw [w_1_0]
    refine V_tableIn (tgt := 40) C dX5_lead_1 (by decide) (by decide) (by decide) rfl (by decide) ?_
    refine V_iconst C dX5_lead_40 ?_
    refine V_iload_n C dX5_lead_41 rfl ?_
    refine V_iconst C dX5_lead_42 ?_
    refine V_isub C dX5_lead_43 ?_
    refine V_max C wm_X5_46 dX5_lead_44 (by omega) (by omega) (by decide) (Nat.le_of_ble_eq_true rfl) ?_
    exact V_iret C R dX5_lead_47 (zO_i (by simp [ld, w_1_0]))
  by_cases w_1_1 : m = 1
  · rw [w_1_1]
    refine V_tableIn (tgt := 48) C dX5_lead_1 (by decide) (by decide) (by decide) rfl (by decide) ?_
    refine V_aload_n C dX5_lead_48 rfl ?_
    refine vg_X5_21 C dX5_lead_49 (by assumption) rfl ?_
    refine V_iload_n C dX5_lead_52 rfl ?_
    refine V_iconst C dX5_lead_53 ?_
    refine V_iadd C dX5_lead_54 ?_
    refine V_min C wm_X5_36 dX5_lead_55 (by omega) (by omega) (by decide) (Nat.le_of_ble_eq_true rfl) ?_
    exact V_iret C R dX5_lead_58 (zO_i (by simp [ld, w_1_1]))
  by_cases w_1_2 : m = 2
  · rw [w_1_2]
    refine V_tableIn (tgt := 59) C dX5_lead_1 (by decide) (by decide) (by decide) rfl (by decide) ?_
    refine V_iconst C dX5_lead_59 ?_
    exact V_iret C R dX5_lead_60 (zO_i (by simp [ld, w_1_2]))
  by_cases w_1_3 : m = 3
  · rw [w_1_3]
    refine V_tableIn (tgt := 61) C dX5_lead_1 (by decide) (by decide) (by decide) rfl (by decide) ?_
    refine V_aload_n C dX5_lead_61 rfl ?_
    refine V_callV C lk_X5_32 (m_X5_last G T) dX5_lead_62 rfl rfl (by assumption) rfl (by decide) (Nat.le_of_ble_eq_true rfl) (kO ?_)
    exact V_iret C R dX5_lead_65 (zO_i (by simp [ld, w_1_3]))
  by_cases w_1_4 : m = 4
  · rw [w_1_4]
    refine V_tableIn (tgt := 66) C dX5_lead_1 (by decide) (by decide) (by decide) rfl (by decide) ?_
    refine V_midz (pc2 := 88) (if kd f L p = 0 then p else bh f L (kd f L p) p) ?_ (fun kk_66 => ?_)
    · skip
      have hb3 : 0 ≤ (if kd f L p = 0 then p else bh f L (kd f L p) p) ∧ (if kd f L p = 0 then p else bh f L (kd f L p) p) ≤ 60 := by split <;> omega
      refine V_istore_n C dX5_lead_88 (by decide) rfl ?_
      refine V_aload_n C dX5_lead_89 rfl ?_
      refine V_iload_n C dX5_lead_90 rfl ?_
      refine V_iconst C dX5_lead_91 ?_
      refine V_callV C lk_X5_49 (m_X5_behindKind G T (by omega) (by omega)) dX5_lead_92 rfl rfl (by assumption) rfl (by decide) (Nat.le_of_ble_eq_true rfl) (kO ?_)
      exact V_iret C R dX5_lead_95 (zO_i (by simp [ld, wOn, w_1_4]))
    · skip
      refine V_aload_n C dX5_lead_66 rfl ?_
      refine V_iload_n C dX5_lead_67 rfl ?_
      refine V_callV C lk_X5_42 (m_X5_kindAt G T (by omega)) dX5_lead_68 rfl rfl (by assumption) rfl (by decide) (Nat.le_of_ble_eq_true rfl) (kO ?_)
      refine V_if_ne (tgt := 78) C dX5_lead_71 (by decide) (by omega) (fun c_71 => ?_) (fun c_71 => ?_)
      · skip
        refine V_aload_n C dX5_lead_78 rfl ?_
        refine V_iload_n C dX5_lead_79 rfl ?_
        refine V_aload_n C dX5_lead_80 rfl ?_
        refine V_iload_n C dX5_lead_81 rfl ?_
        refine V_callV C lk_X5_42 (m_X5_kindAt G T (by omega)) dX5_lead_82 rfl rfl (by assumption) rfl (by decide) (Nat.le_of_ble_eq_true rfl) (kO ?_)
        refine V_callV C lk_X5_49 (m_X5_behindKind G T (by omega) (by omega)) dX5_lead_85 rfl rfl (by assumption) rfl (by decide) (Nat.le_of_ble_eq_true rfl) (kO ?_)
        exact kk_66 _ (by first | exact (if_pos (by omega)).symm | exact (if_neg (by omega)).symm)
      · skip
        refine V_iload_n C dX5_lead_74 rfl ?_
        refine V_goto (tgt := 88) C dX5_lead_75 (by decide) ?_
        exact kk_66 _ (by first | exact (if_pos (by omega)).symm | exact (if_neg (by omega)).symm)
  by_cases w_1_5 : m = 5
  · rw [w_1_5]
    refine V_tableIn (tgt := 96) C dX5_lead_1 (by decide) (by decide) (by decide) rfl (by decide) ?_
    refine V_aload_n C dX5_lead_96 rfl ?_
    refine V_iload_n C dX5_lead_97 rfl ?_
    refine V_iconst C dX5_lead_98 ?_
    refine V_callV C lk_X5_52 (m_X5_beginOfKind G T (by omega) (by omega)) dX5_lead_99 rfl rfl (by assumption) rfl (by decide) (Nat.le_of_ble_eq_true rfl) (kO ?_)
    refine V_istore_n C dX5_lead_102 (by decide) rfl ?_
    refine V_aload_n C dX5_lead_103 rfl ?_
    refine V_iload_n C dX5_lead_104 rfl ?_
    refine V_aload_n C dX5_lead_105 rfl ?_
    refine V_iload_n C dX5_lead_106 rfl ?_
    refine V_iconst C dX5_lead_107 ?_
    refine V_isub C dX5_lead_108 ?_
    refine V_callV C lk_X5_42 (m_X5_kindAt G T (by omega)) dX5_lead_109 rfl rfl (by assumption) rfl (by decide) (Nat.le_of_ble_eq_true rfl) (kO ?_)
    refine V_callV C lk_X5_52 (m_X5_beginOfKind G T (by omega) (by omega)) dX5_lead_112 rfl rfl (by assumption) rfl (by decide) (Nat.le_of_ble_eq_true rfl) (kO ?_)
    exact V_iret C R dX5_lead_115 (zO_i (by simp [ld, wBack, w_1_5]))
  refine V_tableOut (tgt := 116) C dX5_lead_1 (by omega) (by omega) (by decide) ?_
  refine V_aload_n C dX5_lead_116 rfl ?_
  refine V_iload_n C dX5_lead_117 rfl ?_
  refine V_iconst C dX5_lead_118 ?_
  refine V_iadd C dX5_lead_119 ?_
  refine V_iconst C dX5_lead_120 ?_
  refine V_callV C lk_X5_49 (m_X5_behindKind G T (by omega) (by omega)) dX5_lead_121 rfl rfl (by assumption) rfl (by decide) (Nat.le_of_ble_eq_true rfl) (kO ?_)
  refine V_istore_n C dX5_lead_124 (by decide) rfl ?_
  refine V_iload_n C dX5_lead_125 rfl ?_
  refine V_aload_n C dX5_lead_126 rfl ?_
  refine vg_X5_21 C dX5_lead_127 (by assumption) rfl ?_
  refine V_icmp_ge (tgt := 148) C dX5_lead_130 (by decide) (by omega) (by omega) (fun c_130 => ?_) (fun c_130 => ?_)
  · skip
    refine V_aload_n C dX5_lead_148 rfl ?_
    refine V_callV C lk_X5_32 (m_X5_last G T) dX5_lead_149 rfl rfl (by assumption) rfl (by decide) (Nat.le_of_ble_eq_true rfl) (kO ?_)
    exact V_iret C R dX5_lead_152 (zO_i (by unfold ld wEnd; rw [if_neg (by omega), if_neg (by omega), if_neg (by omega), if_neg (by omega), if_neg (by omega), if_neg (by omega)]; first | rw [if_pos (by omega)] | rw [if_neg (by omega)]))
  · skip
    refine V_aload_n C dX5_lead_133 rfl ?_
    refine V_iload_n C dX5_lead_134 rfl ?_
    refine V_aload_n C dX5_lead_135 rfl ?_
    refine V_iload_n C dX5_lead_136 rfl ?_
    refine V_callV C lk_X5_42 (m_X5_kindAt G T (by omega)) dX5_lead_137 rfl rfl (by assumption) rfl (by decide) (Nat.le_of_ble_eq_true rfl) (kO ?_)
    refine V_callV C lk_X5_49 (m_X5_behindKind G T (by omega) (by omega)) dX5_lead_140 rfl rfl (by assumption) rfl (by decide) (Nat.le_of_ble_eq_true rfl) (kO ?_)
    refine V_iconst C dX5_lead_143 ?_
    refine V_isub C dX5_lead_144 ?_
    refine V_goto (tgt := 152) C dX5_lead_145 (by decide) ?_
    exact V_iret C R dX5_lead_152 (zO_i (by unfold ld wEnd; rw [if_neg (by omega), if_neg (by omega), if_neg (by omega), if_neg (by omega), if_neg (by omega), if_neg (by omega)]; first | rw [if_pos (by omega)] | rw [if_neg (by omega)]))

set_option maxRecDepth 100000 in
theorem m_X5_deed (G : zG) {cs : List va_E} {i j : Nat} {f : Int → Int} {L c : Int} (T : isT G cs i j f L c) {m p : Int} (hm : 0 ≤ m ∧ m ≤ 6) (hp : 0 ≤ p ∧ p ≤ L) : zMet G yX5_deed cX5_deed 3 (some .int) 3 71 [.ref (G.ad i), .int (iI m), .int (iI p)] cs (zO (.int (iI (dd f L m p))) cs) := by
  refine zMet.of (by decide) (Nat.le_of_ble_eq_true rfl) ?_
  intro E C R
  have C : zC G E RX5 cX5_deed 3 3 71 := C
  show V G E 0 [some (.ref (G.ad i)), some (.int (iI m)), some (.int (iI p))] [] cs
  obtain ⟨hi, hj, hf, hL0, hL1⟩ := id T
  have hla := la_in hL0
  have hq := ld_in (f := f) (m := m) hp.1 hp.2
  refine V_aload_n C dX5_deed_0 rfl ?_
  refine V_iload_n C dX5_deed_1 rfl ?_
  refine V_iload_n C dX5_deed_2 rfl ?_
  refine V_callV C lk_X5_55 (m_X5_lead G T (by omega) (by omega)) dX5_deed_3 rfl rfl (by assumption) rfl (by decide) (Nat.le_of_ble_eq_true rfl) (kO ?_)
  refine V_aload_n C dX5_deed_6 rfl ?_
  refine V_callV C lk_X5_32 (m_X5_last G T) dX5_deed_7 rfl rfl (by assumption) rfl (by decide) (Nat.le_of_ble_eq_true rfl) (kO ?_)
  refine V_min C wm_X5_36 dX5_deed_10 (by omega) (by omega) (by decide) (Nat.le_of_ble_eq_true rfl) ?_
  exact V_iret C R dX5_deed_13 (zO_i rfl)

set_option maxRecDepth 100000 in
theorem m_X5_findBehind (G : zG) {cs : List va_E} {i j : Nat} {f : Int → Int} {L c : Int} (T : isT G cs i j f L c) {p w n : Int} (hp : 0 ≤ p ∧ p ≤ 60) (hw : rng w) (hn : rng n) : zMet G yX5_findBehind cX5_findBehind 6 (some .int) 0 0 [.ref (G.ad i), .int (iI p), .int (iI w), .int (iI n)] cs (zO (.int (iI (fb f L w n (p + 1) 0))) cs) := by
  refine zMet.of (by decide) (Nat.le_of_ble_eq_true rfl) ?_
  intro E C R
  have C : zC G E RX5 cX5_findBehind 6 0 0 := C
  show V G E 0 [some (.ref (G.ad i)), some (.int (iI p)), some (.int (iI w)), some (.int (iI n)), none, none] [] cs
  obtain ⟨hi, hj, hf, hL0, hL1⟩ := id T
  refine V_iconst C dX5_findBehind_0 ?_
  refine V_istore C dX5_findBehind_1 (by decide) rfl ?_
  refine V_iload_n C dX5_findBehind_3 rfl ?_
  refine V_iconst C dX5_findBehind_4 ?_
  refine V_iadd C dX5_findBehind_5 ?_
  refine V_istore C dX5_findBehind_6 (by decide) rfl ?_
  refine V_loop (α := Int × Int) (fun x => (100 - x.1).toNat) (fun x => p + 1 ≤ x.1 ∧ x.1 ≤ 61 ∧ 0 ≤ x.2 ∧ x.2 ≤ x.1 ∧ fb f L w n x.1 x.2 = fb f L w n (p + 1) 0) (fun x => V G E 8 [some (.ref (G.ad i)), some (.int (iI p)), some (.int (iI w)), some (.int (iI n)), some (.int (iI x.2)), some (.int (iI x.1))] [] cs) ?_ (p + 1, 0) ⟨by omega, by omega, by omega, by omega, rfl⟩
  rintro ⟨q, d⟩ ⟨g1, g2, g3, g4, g5⟩ ih_8
  dsimp only at *
  refine V_iload C dX5_findBehind_8 rfl ?_
  refine V_aload_n C dX5_findBehind_10 rfl ?_
  refine vg_X5_21 C dX5_findBehind_11 (by assumption) rfl ?_
  refine V_icmp_ge (tgt := 46) C dX5_findBehind_14 (by decide) (by omega) (by omega) (fun c_14 => ?_) (fun c_14 => ?_)
  · skip
    refine V_iconst C dX5_findBehind_46 ?_
    exact V_iret C R dX5_findBehind_47 (zO_i (by rw [← g5]; first | exact (fb_5 (by omega)).symm))
  · skip
    refine V_aload_n C dX5_findBehind_17 rfl ?_
    refine vg_X5_9 C dX5_findBehind_18 (by assumption) rfl ?_
    refine V_iload C dX5_findBehind_21 rfl ?_
    refine V_iald C dX5_findBehind_23 (by assumption) (by omega) (by omega) (by decide) (by assumption) (fun r_23 => ?_)
    refine V_iload_n C dX5_findBehind_24 rfl ?_
    refine V_icmp_ne (tgt := 31) C dX5_findBehind_25 (by decide) (by omega) (by omega) (fun c_25 => ?_) (fun c_25 => ?_)
    · skip
      refine V_iload C dX5_findBehind_31 rfl ?_
      refine V_iload_n C dX5_findBehind_33 rfl ?_
      refine V_icmp_ne (tgt := 40) C dX5_findBehind_34 (by decide) (by omega) (by omega) (fun c_34 => ?_) (fun c_34 => ?_)
      · skip
        refine V_iinc C dX5_findBehind_40 rfl (by decide) rfl ?_
        refine V_goto (tgt := 8) C dX5_findBehind_43 (by decide) ?_
        exact ih_8 (q + 1, _) ⟨by omega, by omega, by dsimp only; omega, by dsimp only; omega, (by rw [← g5]; first | exact (fb_3 (by omega) (by omega) (by omega)).symm | exact (fb_4 (by omega) (by omega) (by omega)).symm)⟩ (by dsimp only; omega)
      · skip
        refine V_iload C dX5_findBehind_37 rfl ?_
        exact V_iret C R dX5_findBehind_39 (zO_i (by rw [← g5]; first | exact (fb_1 (by omega) (by omega) (by omega)).symm | exact (fb_2 (by omega) (by omega) (by omega)).symm))
    · skip
      refine V_iinc C dX5_findBehind_28 rfl (by decide) rfl ?_
      refine V_iload C dX5_findBehind_31 rfl ?_
      refine V_iload_n C dX5_findBehind_33 rfl ?_
      refine V_icmp_ne (tgt := 40) C dX5_findBehind_34 (by decide) (by omega) (by omega) (fun c_34 => ?_) (fun c_34 => ?_)
      · skip
        refine V_iinc C dX5_findBehind_40 rfl (by decide) rfl ?_
        refine V_goto (tgt := 8) C dX5_findBehind_43 (by decide) ?_
        exact ih_8 (q + 1, _) ⟨by omega, by omega, by dsimp only; omega, by dsimp only; omega, (by rw [← g5]; first | exact (fb_3 (by omega) (by omega) (by omega)).symm | exact (fb_4 (by omega) (by omega) (by omega)).symm)⟩ (by dsimp only; omega)
      · skip
        refine V_iload C dX5_findBehind_37 rfl ?_
        exact V_iret C R dX5_findBehind_39 (zO_i (by rw [← g5]; first | exact (fb_1 (by omega) (by omega) (by omega)).symm | exact (fb_2 (by omega) (by omega) (by omega)).symm))

set_option maxRecDepth 100000 in
theorem m_X5_openingRound (G : zG) {cs : List va_E} {i j : Nat} {f : Int → Int} {L c : Int} (T : isT G cs i j f L c) {p : Int} (hp : 0 ≤ p ∧ p ≤ 60) : zMet G yX5_openingRound cX5_openingRound 4 (some .int) 2 42 [.ref (G.ad i), .int (iI p)] cs (zO (.int (iI (op f L p p 0))) cs) := by
  refine zMet.of (by decide) (Nat.le_of_ble_eq_true rfl) ?_
  intro E C R
  have C : zC G E RX5 cX5_openingRound 4 2 42 := C
  show V G E 0 [some (.ref (G.ad i)), some (.int (iI p)), none, none] [] cs
  obtain ⟨hi, hj, hf, hL0, hL1⟩ := id T
  refine V_iconst C dX5_openingRound_0 ?_
  refine V_istore_n C dX5_openingRound_1 (by decide) rfl ?_
  refine V_iload_n C dX5_openingRound_2 rfl ?_
  refine V_istore_n C dX5_openingRound_3 (by decide) rfl ?_
  refine V_loop (α := Int × Int) (fun x => (x.1 + 1).toNat) (fun x => -1 ≤ x.1 ∧ x.1 ≤ p ∧ 0 ≤ x.2 ∧ x.2 ≤ p - x.1 ∧ op f L p x.1 x.2 = op f L p p 0) (fun x => V G E 4 [some (.ref (G.ad i)), some (.int (iI p)), some (.int (iI x.2)), some (.int (iI x.1))] [] cs) ?_ (p, 0) ⟨by omega, by omega, by omega, by omega, rfl⟩
  rintro ⟨q, d⟩ ⟨g1, g2, g3, g4, g5⟩ ih_4
  dsimp only at *
  have ha := atv_rng hf L q
  refine V_iload_n C dX5_openingRound_4 rfl ?_
  refine V_if_lt (tgt := 54) C dX5_openingRound_5 (by decide) (by omega) (fun c_5 => ?_) (fun c_5 => ?_)
  · skip
    refine V_iconst C dX5_openingRound_54 ?_
    exact V_iret C R dX5_openingRound_55 (zO_i (by rw [← g5]; first | exact (op_5 (by omega)).symm))
  · skip
    refine V_aload_n C dX5_openingRound_8 rfl ?_
    refine V_iload_n C dX5_openingRound_9 rfl ?_
    refine V_callV C lk_X5_58 (m_X5_at G T (by omega)) dX5_openingRound_10 rfl rfl (by assumption) rfl (by decide) (Nat.le_of_ble_eq_true rfl) (kO ?_)
    refine V_bipush C dX5_openingRound_13 (by decide) ?_
    refine V_icmp_ne (tgt := 30) C dX5_openingRound_15 (by decide) (by omega) (by omega) (fun c_15 => ?_) (fun c_15 => ?_)
    · skip
      refine V_aload_n C dX5_openingRound_30 rfl ?_
      refine V_iload_n C dX5_openingRound_31 rfl ?_
      refine V_callV C lk_X5_58 (m_X5_at G T (by omega)) dX5_openingRound_32 rfl rfl (by assumption) rfl (by decide) (Nat.le_of_ble_eq_true rfl) (kO ?_)
      refine V_bipush C dX5_openingRound_35 (by decide) ?_
      refine V_icmp_ne (tgt := 48) C dX5_openingRound_37 (by decide) (by omega) (by omega) (fun c_37 => ?_) (fun c_37 => ?_)
      · skip
        refine V_iinc C dX5_openingRound_48 rfl (by decide) rfl ?_
        refine V_goto (tgt := 4) C dX5_openingRound_51 (by decide) ?_
        exact ih_4 (q + -1, _) ⟨by omega, by omega, by dsimp only; omega, by dsimp only; omega, (by rw [← g5]; first | exact (op_2 (by omega) (by omega) (by omega)).symm | exact (op_3 (by omega) (by omega) (by omega) (by omega)).symm | exact (op_4 (by omega) (by omega) (by omega)).symm)⟩ (by dsimp only; omega)
      · skip
        refine V_iload_n C dX5_openingRound_40 rfl ?_
        refine V_iload_n C dX5_openingRound_41 rfl ?_
        refine V_icmp_eq (tgt := 48) C dX5_openingRound_42 (by decide) (by omega) (by omega) (fun c_42 => ?_) (fun c_42 => ?_)
        · skip
          refine V_iinc C dX5_openingRound_48 rfl (by decide) rfl ?_
          refine V_goto (tgt := 4) C dX5_openingRound_51 (by decide) ?_
          exact ih_4 (q + -1, _) ⟨by omega, by omega, by dsimp only; omega, by dsimp only; omega, (by rw [← g5]; first | exact (op_2 (by omega) (by omega) (by omega)).symm | exact (op_3 (by omega) (by omega) (by omega) (by omega)).symm | exact (op_4 (by omega) (by omega) (by omega)).symm)⟩ (by dsimp only; omega)
        · skip
          refine V_iinc C dX5_openingRound_45 rfl (by decide) rfl ?_
          refine V_iinc C dX5_openingRound_48 rfl (by decide) rfl ?_
          refine V_goto (tgt := 4) C dX5_openingRound_51 (by decide) ?_
          exact ih_4 (q + -1, _) ⟨by omega, by omega, by dsimp only; omega, by dsimp only; omega, (by rw [← g5]; first | exact (op_2 (by omega) (by omega) (by omega)).symm | exact (op_3 (by omega) (by omega) (by omega) (by omega)).symm | exact (op_4 (by omega) (by omega) (by omega)).symm)⟩ (by dsimp only; omega)
    · skip
      refine V_iload_n C dX5_openingRound_18 rfl ?_
      refine V_if_ne (tgt := 24) C dX5_openingRound_19 (by decide) (by omega) (fun c_19 => ?_) (fun c_19 => ?_)
      · skip
        refine V_iinc C dX5_openingRound_24 rfl (by decide) rfl ?_
        refine V_goto (tgt := 48) C dX5_openingRound_27 (by decide) ?_
        refine V_iinc C dX5_openingRound_48 rfl (by decide) rfl ?_
        refine V_goto (tgt := 4) C dX5_openingRound_51 (by decide) ?_
        exact ih_4 (q + -1, _) ⟨by omega, by omega, by dsimp only; omega, by dsimp only; omega, (by rw [← g5]; first | exact (op_2 (by omega) (by omega) (by omega)).symm | exact (op_3 (by omega) (by omega) (by omega) (by omega)).symm | exact (op_4 (by omega) (by omega) (by omega)).symm)⟩ (by dsimp only; omega)
      · skip
        refine V_iload_n C dX5_openingRound_22 rfl ?_
        exact V_iret C R dX5_openingRound_23 (zO_i (by rw [← g5]; first | exact (op_1 (by omega) (by omega) (by omega)).symm))

set_option maxRecDepth 100000 in
theorem m_X5_closingOf (G : zG) {cs : List va_E} {i j : Nat} {f : Int → Int} {L c : Int} (T : isT G cs i j f L c) {p : Int} (hp : 0 ≤ p ∧ p ≤ 60) : zMet G yX5_closingOf cX5_closingOf 4 (some .int) 2 42 [.ref (G.ad i), .int (iI p)] cs (zO (.int (iI (cl f L (p + 1) 0))) cs) := by
  refine zMet.of (by decide) (Nat.le_of_ble_eq_true rfl) ?_
  intro E C R
  have C : zC G E RX5 cX5_closingOf 4 2 42 := C
  show V G E 0 [some (.ref (G.ad i)), some (.int (iI p)), none, none] [] cs
  obtain ⟨hi, hj, hf, hL0, hL1⟩ := id T
  refine V_iconst C dX5_closingOf_0 ?_
  refine V_istore_n C dX5_closingOf_1 (by decide) rfl ?_
  refine V_iload_n C dX5_closingOf_2 rfl ?_
  refine V_iconst C dX5_closingOf_3 ?_
  refine V_iadd C dX5_closingOf_4 ?_
  refine V_istore_n C dX5_closingOf_5 (by decide) rfl ?_
  refine V_loop (α := Int × Int) (fun x => (100 - x.1).toNat) (fun x => p + 1 ≤ x.1 ∧ x.1 ≤ 61 ∧ 0 ≤ x.2 ∧ x.2 ≤ x.1 ∧ cl f L x.1 x.2 = cl f L (p + 1) 0) (fun x => V G E 6 [some (.ref (G.ad i)), some (.int (iI p)), some (.int (iI x.2)), some (.int (iI x.1))] [] cs) ?_ (p + 1, 0) ⟨by omega, by omega, by omega, by omega, rfl⟩
  rintro ⟨q, d⟩ ⟨g1, g2, g3, g4, g5⟩ ih_6
  dsimp only at *
  have ha := atv_rng hf L q
  refine V_iload_n C dX5_closingOf_6 rfl ?_
  refine V_aload_n C dX5_closingOf_7 rfl ?_
  refine vg_X5_21 C dX5_closingOf_8 (by assumption) rfl ?_
  refine V_icmp_ge (tgt := 55) C dX5_closingOf_11 (by decide) (by omega) (by omega) (fun c_11 => ?_) (fun c_11 => ?_)
  · skip
    refine V_iconst C dX5_closingOf_55 ?_
    exact V_iret C R dX5_closingOf_56 (zO_i (by rw [← g5]; first | exact (cl_5 (by omega)).symm))
  · skip
    refine V_aload_n C dX5_closingOf_14 rfl ?_
    refine V_iload_n C dX5_closingOf_15 rfl ?_
    refine V_callV C lk_X5_58 (m_X5_at G T (by omega)) dX5_closingOf_16 rfl rfl (by assumption) rfl (by decide) (Nat.le_of_ble_eq_true rfl) (kO ?_)
    refine V_bipush C dX5_closingOf_19 (by decide) ?_
    refine V_icmp_ne (tgt := 36) C dX5_closingOf_21 (by decide) (by omega) (by omega) (fun c_21 => ?_) (fun c_21 => ?_)
    · skip
      refine V_aload_n C dX5_closingOf_36 rfl ?_
      refine V_iload_n C dX5_closingOf_37 rfl ?_
      refine V_callV C lk_X5_58 (m_X5_at G T (by omega)) dX5_closingOf_38 rfl rfl (by assumption) rfl (by decide) (Nat.le_of_ble_eq_true rfl) (kO ?_)
      refine V_bipush C dX5_closingOf_41 (by decide) ?_
      refine V_icmp_ne (tgt := 49) C dX5_closingOf_43 (by decide) (by omega) (by omega) (fun c_43 => ?_) (fun c_43 => ?_)
      · skip
        refine V_iinc C dX5_closingOf_49 rfl (by decide) rfl ?_
        refine V_goto (tgt := 6) C dX5_closingOf_52 (by decide) ?_
        exact ih_6 (q + 1, _) ⟨by omega, by omega, by dsimp only; omega, by dsimp only; omega, (by rw [← g5]; first | exact (cl_2 (by omega) (by omega) (by omega)).symm | exact (cl_3 (by omega) (by omega) (by omega)).symm | exact (cl_4 (by omega) (by omega) (by omega)).symm)⟩ (by dsimp only; omega)
      · skip
        refine V_iinc C dX5_closingOf_46 rfl (by decide) rfl ?_
        refine V_iinc C dX5_closingOf_49 rfl (by decide) rfl ?_
        refine V_goto (tgt := 6) C dX5_closingOf_52 (by decide) ?_
        exact ih_6 (q + 1, _) ⟨by omega, by omega, by dsimp only; omega, by dsimp only; omega, (by rw [← g5]; first | exact (cl_2 (by omega) (by omega) (by omega)).symm | exact (cl_3 (by omega) (by omega) (by omega)).symm | exact (cl_4 (by omega) (by omega) (by omega)).symm)⟩ (by dsimp only; omega)
    · skip
      refine V_iload_n C dX5_closingOf_24 rfl ?_
      refine V_if_ne (tgt := 30) C dX5_closingOf_25 (by decide) (by omega) (fun c_25 => ?_) (fun c_25 => ?_)
      · skip
        refine V_iinc C dX5_closingOf_30 rfl (by decide) rfl ?_
        refine V_goto (tgt := 49) C dX5_closingOf_33 (by decide) ?_
        refine V_iinc C dX5_closingOf_49 rfl (by decide) rfl ?_
        refine V_goto (tgt := 6) C dX5_closingOf_52 (by decide) ?_
        exact ih_6 (q + 1, _) ⟨by omega, by omega, by dsimp only; omega, by dsimp only; omega, (by rw [← g5]; first | exact (cl_2 (by omega) (by omega) (by omega)).symm | exact (cl_3 (by omega) (by omega) (by omega)).symm | exact (cl_4 (by omega) (by omega) (by omega)).symm)⟩ (by dsimp only; omega)
      · skip
        refine V_iload_n C dX5_closingOf_28 rfl ?_
        exact V_iret C R dX5_closingOf_29 (zO_i (by rw [← g5]; first | exact (cl_1 (by omega) (by omega) (by omega)).symm))

set_option maxRecDepth 100000 in
theorem m_X5_words (G : zG) {cs : List va_E} {i j : Nat} {f : Int → Int} {L c : Int} (T : isT G cs i j f L c) : zMet G yX5_words cX5_words 3 (some .int) 1 25 [.ref (G.ad i)] cs (zO (.int (iI (wd f L 0 0))) cs) := by
  refine zMet.of (by decide) (Nat.le_of_ble_eq_true rfl) ?_
  intro E C R
  have C : zC G E RX5 cX5_words 3 1 25 := C
  show V G E 0 [some (.ref (G.ad i)), none, none] [] cs
  obtain ⟨hi, hj, hf, hL0, hL1⟩ := id T
  refine V_iconst C dX5_words_0 ?_
  refine V_istore_n C dX5_words_1 (by decide) rfl ?_
  refine V_iconst C dX5_words_2 ?_
  refine V_istore_n C dX5_words_3 (by decide) rfl ?_
  refine V_loop (α := Int × Int) (fun x => (100 - x.1).toNat) (fun x => 0 ≤ x.1 ∧ x.1 ≤ 61 ∧ 0 ≤ x.2 ∧ x.2 ≤ x.1 ∧ wd f L x.1 x.2 = wd f L 0 0) (fun x => V G E 4 [some (.ref (G.ad i)), some (.int (iI x.2)), some (.int (iI x.1))] [] cs) ?_ (0, 0) ⟨by omega, by omega, by omega, by omega, rfl⟩
  rintro ⟨q, d⟩ ⟨g1, g2, g3, g4, g5⟩ ih_4
  dsimp only at *
  have hk0 := kd_in f L q
  have hk1 := kd_in f L (q - 1)
  refine V_iload_n C dX5_words_4 rfl ?_
  refine V_aload_n C dX5_words_5 rfl ?_
  refine vg_X5_21 C dX5_words_6 (by assumption) rfl ?_
  refine V_icmp_ge (tgt := 41) C dX5_words_9 (by decide) (by omega) (by omega) (fun c_9 => ?_) (fun c_9 => ?_)
  · skip
    refine V_iload_n C dX5_words_41 rfl ?_
    exact V_iret C R dX5_words_42 (zO_i (by rw [← g5]; first | exact (wd_3 (by omega)).symm))
  · skip
    refine V_aload_n C dX5_words_12 rfl ?_
    refine V_iload_n C dX5_words_13 rfl ?_
    refine V_callV C lk_X5_42 (m_X5_kindAt G T (by omega)) dX5_words_14 rfl rfl (by assumption) rfl (by decide) (Nat.le_of_ble_eq_true rfl) (kO ?_)
    refine V_iconst C dX5_words_17 ?_
    refine V_icmp_ne (tgt := 35) C dX5_words_18 (by decide) (by omega) (by omega) (fun c_18 => ?_) (fun c_18 => ?_)
    · skip
      refine V_iinc C dX5_words_35 rfl (by decide) rfl ?_
      refine V_goto (tgt := 4) C dX5_words_38 (by decide) ?_
      exact ih_4 (q + 1, _) ⟨by omega, by omega, by dsimp only; omega, by dsimp only; omega, (by rw [← g5]; first | exact (wd_1 (by omega) (by omega) (by omega)).symm | exact (wd_2 (by omega) (by omega)).symm)⟩ (by dsimp only; omega)
    · skip
      refine V_aload_n C dX5_words_21 rfl ?_
      refine V_iload_n C dX5_words_22 rfl ?_
      refine V_iconst C dX5_words_23 ?_
      refine V_isub C dX5_words_24 ?_
      refine V_callV C lk_X5_42 (m_X5_kindAt G T (by omega)) dX5_words_25 rfl rfl (by assumption) rfl (by decide) (Nat.le_of_ble_eq_true rfl) (kO ?_)
      refine V_iconst C dX5_words_28 ?_
      refine V_icmp_eq (tgt := 35) C dX5_words_29 (by decide) (by omega) (by omega) (fun c_29 => ?_) (fun c_29 => ?_)
      · skip
        refine V_iinc C dX5_words_35 rfl (by decide) rfl ?_
        refine V_goto (tgt := 4) C dX5_words_38 (by decide) ?_
        exact ih_4 (q + 1, _) ⟨by omega, by omega, by dsimp only; omega, by dsimp only; omega, (by rw [← g5]; first | exact (wd_1 (by omega) (by omega) (by omega)).symm | exact (wd_2 (by omega) (by omega)).symm)⟩ (by dsimp only; omega)
      · skip
        refine V_iinc C dX5_words_32 rfl (by decide) rfl ?_
        refine V_iinc C dX5_words_35 rfl (by decide) rfl ?_
        refine V_goto (tgt := 4) C dX5_words_38 (by decide) ?_
        exact ih_4 (q + 1, _) ⟨by omega, by omega, by dsimp only; omega, by dsimp only; omega, (by rw [← g5]; first | exact (wd_1 (by omega) (by omega) (by omega)).symm | exact (wd_2 (by omega) (by omega)).symm)⟩ (by dsimp only; omega)

set_option maxRecDepth 100000 in
theorem m_X5_goTo (G : zG) {cs : List va_E} {i j : Nat} {f : Int → Int} {L c : Int} (T : isT G cs i j f L c) {p : Int} (hp : rng p) : zMet G yX5_goTo cX5_goTo 2 none 1 21 [.ref (G.ad i), .int (iI p)] cs (zO0 (toT G cs i j f L (min p (la L)))) := by
  refine zMet.of (by decide) (Nat.le_of_ble_eq_true rfl) ?_
  intro E C R
  have C : zC G E RX5 cX5_goTo 2 1 21 := C
  show V G E 0 [some (.ref (G.ad i)), some (.int (iI p))] [] cs
  obtain ⟨hi, hj, hf, hL0, hL1⟩ := id T
  have hij := zs_ao hi hj
  have hli := zs_lt hi
  have hlj := zs_lt hj
  have hla := la_in hL0
  refine V_aload_n C dX5_goTo_0 rfl ?_
  refine V_iload_n C dX5_goTo_1 rfl ?_
  refine V_aload_n C dX5_goTo_2 rfl ?_
  refine V_callV C lk_X5_32 (m_X5_last G T) dX5_goTo_3 rfl rfl (by assumption) rfl (by decide) (Nat.le_of_ble_eq_true rfl) (kO ?_)
  refine V_min C wm_X5_36 dX5_goTo_6 (by omega) (by omega) (by decide) (Nat.le_of_ble_eq_true rfl) ?_
  refine vp_X5_25 C dX5_goTo_9 (by assumption) (Nat.le_of_ble_eq_true rfl) ?_
  exact V_vret C R dX5_goTo_12 ⟨rfl, by unfold toT; rw [zs_self hj]; rfl⟩

set_option maxRecDepth 100000 in
theorem m_X5_takeOut (G : zG) {cs : List va_E} {i j : Nat} {f : Int → Int} {L c : Int} (T : isT G cs i j f L c) {p q : Int} (hp : 0 ≤ p ∧ p ≤ q ∧ q ≤ L) : zMet G yX5_takeOut cX5_takeOut 3 none 1 26 [.ref (G.ad i), .int (iI p), .int (iI q)] cs (zO0 (toT G cs i j (zcp f f q p (L - q)) (L - (q - p)) c)) := by
  refine zMet.of (by decide) (Nat.le_of_ble_eq_true rfl) ?_
  intro E C R
  have C : zC G E RX5 cX5_takeOut 3 1 26 := C
  show V G E 0 [some (.ref (G.ad i)), some (.int (iI p)), some (.int (iI q))] [] cs
  obtain ⟨hi, hj, hf, hL0, hL1⟩ := id T
  have hij := zs_ao hi hj
  have hli := zs_lt hi
  have hlj := zs_lt hj
  refine V_aload_n C dX5_takeOut_0 rfl ?_
  refine vg_X5_9 C dX5_takeOut_1 (by repeat (first | assumption | exact zs_eq (by simp only [List.length_set]; assumption) | refine zs_ne (by omega) ?_)) rfl ?_
  refine V_iload_n C dX5_takeOut_4 rfl ?_
  refine V_aload_n C dX5_takeOut_5 rfl ?_
  refine vg_X5_9 C dX5_takeOut_6 (by repeat (first | assumption | exact zs_eq (by simp only [List.length_set]; assumption) | refine zs_ne (by omega) ?_)) rfl ?_
  refine V_iload_n C dX5_takeOut_9 rfl ?_
  refine V_aload_n C dX5_takeOut_10 rfl ?_
  refine vg_X5_21 C dX5_takeOut_11 (by repeat (first | assumption | exact zs_eq (by simp only [List.length_set]; assumption) | refine zs_ne (by omega) ?_)) rfl ?_
  refine V_iload_n C dX5_takeOut_14 rfl ?_
  refine V_isub C dX5_takeOut_15 ?_
  refine V_copyI C wm_X5_15 dX5_takeOut_16 (by repeat (first | assumption | exact zs_eq (by simp only [List.length_set]; assumption) | refine zs_ne (by omega) ?_)) (by repeat (first | assumption | exact zs_eq (by simp only [List.length_set]; assumption) | refine zs_ne (by omega) ?_)) (by omega) (by omega) (by omega) (by omega) (by omega) (by decide) (by decide) (by decide) (Nat.le_of_ble_eq_true rfl) ?_
  refine V_aload_n C dX5_takeOut_19 rfl ?_
  refine V_dup C dX5_takeOut_20 rfl ?_
  refine vg_X5_21 C dX5_takeOut_21 (by repeat (first | assumption | exact zs_eq (by simp only [List.length_set]; assumption) | refine zs_ne (by omega) ?_)) rfl ?_
  refine V_iload_n C dX5_takeOut_24 rfl ?_
  refine V_iload_n C dX5_takeOut_25 rfl ?_
  refine V_isub C dX5_takeOut_26 ?_
  refine V_isub C dX5_takeOut_27 ?_
  refine vp_X5_21 C dX5_takeOut_28 (by repeat (first | assumption | exact zs_eq (by simp only [List.length_set]; assumption) | refine zs_ne (by omega) ?_)) (Nat.le_of_ble_eq_true rfl) ?_
  exact V_vret C R dX5_takeOut_31 ⟨rfl, rfl⟩

set_option maxRecDepth 100000 in
theorem m_X5_makeRoom (G : zG) {cs : List va_E} {i j : Nat} {f : Int → Int} {L c : Int} (T : isT G cs i j f L c) {p n : Int} (hp : 0 ≤ p ∧ p ≤ L) (hn : 0 ≤ n ∧ L + n ≤ 60) : zMet G yX5_makeRoom cX5_makeRoom 3 none 1 26 [.ref (G.ad i), .int (iI p), .int (iI n)] cs (zO0 (toT G cs i j (zcp f f p (p + n) (L - p)) (L + n) c)) := by
  refine zMet.of (by decide) (Nat.le_of_ble_eq_true rfl) ?_
  intro E C R
  have C : zC G E RX5 cX5_makeRoom 3 1 26 := C
  show V G E 0 [some (.ref (G.ad i)), some (.int (iI p)), some (.int (iI n))] [] cs
  obtain ⟨hi, hj, hf, hL0, hL1⟩ := id T
  have hij := zs_ao hi hj
  have hli := zs_lt hi
  have hlj := zs_lt hj
  refine V_aload_n C dX5_makeRoom_0 rfl ?_
  refine vg_X5_9 C dX5_makeRoom_1 (by repeat (first | assumption | exact zs_eq (by simp only [List.length_set]; assumption) | refine zs_ne (by omega) ?_)) rfl ?_
  refine V_iload_n C dX5_makeRoom_4 rfl ?_
  refine V_aload_n C dX5_makeRoom_5 rfl ?_
  refine vg_X5_9 C dX5_makeRoom_6 (by repeat (first | assumption | exact zs_eq (by simp only [List.length_set]; assumption) | refine zs_ne (by omega) ?_)) rfl ?_
  refine V_iload_n C dX5_makeRoom_9 rfl ?_
  refine V_iload_n C dX5_makeRoom_10 rfl ?_
  refine V_iadd C dX5_makeRoom_11 ?_
  refine V_aload_n C dX5_makeRoom_12 rfl ?_
  refine vg_X5_21 C dX5_makeRoom_13 (by repeat (first | assumption | exact zs_eq (by simp only [List.length_set]; assumption) | refine zs_ne (by omega) ?_)) rfl ?_
  refine V_iload_n C dX5_makeRoom_16 rfl ?_
  refine V_isub C dX5_makeRoom_17 ?_
  refine V_copyI C wm_X5_15 dX5_makeRoom_18 (by repeat (first | assumption | exact zs_eq (by simp only [List.length_set]; assumption) | refine zs_ne (by omega) ?_)) (by repeat (first | assumption | exact zs_eq (by simp only [List.length_set]; assumption) | refine zs_ne (by omega) ?_)) (by omega) (by omega) (by omega) (by omega) (by omega) (by decide) (by decide) (by decide) (Nat.le_of_ble_eq_true rfl) ?_
  refine V_aload_n C dX5_makeRoom_21 rfl ?_
  refine V_dup C dX5_makeRoom_22 rfl ?_
  refine vg_X5_21 C dX5_makeRoom_23 (by repeat (first | assumption | exact zs_eq (by simp only [List.length_set]; assumption) | refine zs_ne (by omega) ?_)) rfl ?_
  refine V_iload_n C dX5_makeRoom_26 rfl ?_
  refine V_iadd C dX5_makeRoom_27 ?_
  refine vp_X5_21 C dX5_makeRoom_28 (by repeat (first | assumption | exact zs_eq (by simp only [List.length_set]; assumption) | refine zs_ne (by omega) ?_)) (Nat.le_of_ble_eq_true rfl) ?_
  exact V_vret C R dX5_makeRoom_31 ⟨rfl, rfl⟩

set_option maxRecDepth 100000 in
theorem m_X5_swapCase (G : zG) {cs : List va_E} {i j : Nat} {f : Int → Int} {L c : Int} (T : isT G cs i j f L c) {p : Int} (hp : 0 ≤ p ∧ p < 60) : zMet G yX5_swapCase cX5_swapCase 3 none 0 0 [.ref (G.ad i), .int (iI p)] cs (zO0 (cs.set j (zI G 60 (zup f p (swc (f p)))))) := by
  refine zMet.of (by decide) (Nat.le_of_ble_eq_true rfl) ?_
  intro E C R
  have C : zC G E RX5 cX5_swapCase 3 0 0 := C
  show V G E 0 [some (.ref (G.ad i)), some (.int (iI p)), none] [] cs
  obtain ⟨hi, hj, hf, hL0, hL1⟩ := id T
  have hij := zs_ao hi hj
  have hli := zs_lt hi
  have hlj := zs_lt hj
  refine V_aload_n C dX5_swapCase_0 rfl ?_
  refine vg_X5_9 C dX5_swapCase_1 (by repeat (first | assumption | exact zs_eq (by simp only [List.length_set]; assumption) | refine zs_ne (by omega) ?_)) rfl ?_
  refine V_iload_n C dX5_swapCase_4 rfl ?_
  refine V_iald C dX5_swapCase_5 (by repeat (first | assumption | exact zs_eq (by simp only [List.length_set]; assumption) | refine zs_ne (by omega) ?_)) (by omega) (by omega) (by decide) (by assumption) (fun r_5 => ?_)
  refine V_istore_n C dX5_swapCase_6 (by decide) rfl ?_
  refine V_iload_n C dX5_swapCase_7 rfl ?_
  refine V_bipush C dX5_swapCase_8 (by decide) ?_
  refine V_icmp_lt (tgt := 35) C dX5_swapCase_10 (by decide) (by omega) (by omega) (fun c_10 => ?_) (fun c_10 => ?_)
  · skip
    refine V_iload_n C dX5_swapCase_35 rfl ?_
    refine V_bipush C dX5_swapCase_36 (by decide) ?_
    refine V_icmp_lt (tgt := 60) C dX5_swapCase_38 (by decide) (by omega) (by omega) (fun c_38 => ?_) (fun c_38 => ?_)
    · skip
      exact V_vret C R dX5_swapCase_60 ⟨rfl, by first | (rw [show swc (f p) = f p - 97 + 65 from if_pos (by omega)]; done) | (rw [show swc (f p) = f p - 65 + 97 by unfold swc; rw [if_neg (by omega), if_pos (by omega)]]; done) | (rw [show swc (f p) = f p by unfold swc; rw [if_neg (by omega), if_neg (by omega)], zup_self rfl, zs_self hj])⟩
    · skip
      refine V_iload_n C dX5_swapCase_41 rfl ?_
      refine V_bipush C dX5_swapCase_42 (by decide) ?_
      refine V_icmp_gt (tgt := 60) C dX5_swapCase_44 (by decide) (by omega) (by omega) (fun c_44 => ?_) (fun c_44 => ?_)
      · skip
        exact V_vret C R dX5_swapCase_60 ⟨rfl, by first | (rw [show swc (f p) = f p - 97 + 65 from if_pos (by omega)]; done) | (rw [show swc (f p) = f p - 65 + 97 by unfold swc; rw [if_neg (by omega), if_pos (by omega)]]; done) | (rw [show swc (f p) = f p by unfold swc; rw [if_neg (by omega), if_neg (by omega)], zup_self rfl, zs_self hj])⟩
      · skip
        refine V_aload_n C dX5_swapCase_47 rfl ?_
        refine vg_X5_9 C dX5_swapCase_48 (by repeat (first | assumption | exact zs_eq (by simp only [List.length_set]; assumption) | refine zs_ne (by omega) ?_)) rfl ?_
        refine V_iload_n C dX5_swapCase_51 rfl ?_
        refine V_iload_n C dX5_swapCase_52 rfl ?_
        refine V_bipush C dX5_swapCase_53 (by decide) ?_
        refine V_isub C dX5_swapCase_55 ?_
        refine V_bipush C dX5_swapCase_56 (by decide) ?_
        refine V_iadd C dX5_swapCase_58 ?_
        refine V_iast C dX5_swapCase_59 (by repeat (first | assumption | exact zs_eq (by simp only [List.length_set]; assumption) | refine zs_ne (by omega) ?_)) (by omega) (by omega) (by decide) ?_
        exact V_vret C R dX5_swapCase_60 ⟨rfl, by first | (rw [show swc (f p) = f p - 97 + 65 from if_pos (by omega)]; done) | (rw [show swc (f p) = f p - 65 + 97 by unfold swc; rw [if_neg (by omega), if_pos (by omega)]]; done) | (rw [show swc (f p) = f p by unfold swc; rw [if_neg (by omega), if_neg (by omega)], zup_self rfl, zs_self hj])⟩
  · skip
    refine V_iload_n C dX5_swapCase_13 rfl ?_
    refine V_bipush C dX5_swapCase_14 (by decide) ?_
    refine V_icmp_gt (tgt := 35) C dX5_swapCase_16 (by decide) (by omega) (by omega) (fun c_16 => ?_) (fun c_16 => ?_)
    · skip
      refine V_iload_n C dX5_swapCase_35 rfl ?_
      refine V_bipush C dX5_swapCase_36 (by decide) ?_
      refine V_icmp_lt (tgt := 60) C dX5_swapCase_38 (by decide) (by omega) (by omega) (fun c_38 => ?_) (fun c_38 => ?_)
      · skip
        exact V_vret C R dX5_swapCase_60 ⟨rfl, by first | (rw [show swc (f p) = f p - 97 + 65 from if_pos (by omega)]; done) | (rw [show swc (f p) = f p - 65 + 97 by unfold swc; rw [if_neg (by omega), if_pos (by omega)]]; done) | (rw [show swc (f p) = f p by unfold swc; rw [if_neg (by omega), if_neg (by omega)], zup_self rfl, zs_self hj])⟩
      · skip
        refine V_iload_n C dX5_swapCase_41 rfl ?_
        refine V_bipush C dX5_swapCase_42 (by decide) ?_
        refine V_icmp_gt (tgt := 60) C dX5_swapCase_44 (by decide) (by omega) (by omega) (fun c_44 => ?_) (fun c_44 => ?_)
        · skip
          exact V_vret C R dX5_swapCase_60 ⟨rfl, by first | (rw [show swc (f p) = f p - 97 + 65 from if_pos (by omega)]; done) | (rw [show swc (f p) = f p - 65 + 97 by unfold swc; rw [if_neg (by omega), if_pos (by omega)]]; done) | (rw [show swc (f p) = f p by unfold swc; rw [if_neg (by omega), if_neg (by omega)], zup_self rfl, zs_self hj])⟩
        · skip
          refine V_aload_n C dX5_swapCase_47 rfl ?_
          refine vg_X5_9 C dX5_swapCase_48 (by repeat (first | assumption | exact zs_eq (by simp only [List.length_set]; assumption) | refine zs_ne (by omega) ?_)) rfl ?_
          refine V_iload_n C dX5_swapCase_51 rfl ?_
          refine V_iload_n C dX5_swapCase_52 rfl ?_
          refine V_bipush C dX5_swapCase_53 (by decide) ?_
          refine V_isub C dX5_swapCase_55 ?_
          refine V_bipush C dX5_swapCase_56 (by decide) ?_
          refine V_iadd C dX5_swapCase_58 ?_
          refine V_iast C dX5_swapCase_59 (by repeat (first | assumption | exact zs_eq (by simp only [List.length_set]; assumption) | refine zs_ne (by omega) ?_)) (by omega) (by omega) (by decide) ?_
          exact V_vret C R dX5_swapCase_60 ⟨rfl, by first | (rw [show swc (f p) = f p - 97 + 65 from if_pos (by omega)]; done) | (rw [show swc (f p) = f p - 65 + 97 by unfold swc; rw [if_neg (by omega), if_pos (by omega)]]; done) | (rw [show swc (f p) = f p by unfold swc; rw [if_neg (by omega), if_neg (by omega)], zup_self rfl, zs_self hj])⟩
    · skip
      refine V_aload_n C dX5_swapCase_19 rfl ?_
      refine vg_X5_9 C dX5_swapCase_20 (by repeat (first | assumption | exact zs_eq (by simp only [List.length_set]; assumption) | refine zs_ne (by omega) ?_)) rfl ?_
      refine V_iload_n C dX5_swapCase_23 rfl ?_
      refine V_iload_n C dX5_swapCase_24 rfl ?_
      refine V_bipush C dX5_swapCase_25 (by decide) ?_
      refine V_isub C dX5_swapCase_27 ?_
      refine V_bipush C dX5_swapCase_28 (by decide) ?_
      refine V_iadd C dX5_swapCase_30 ?_
      refine V_iast C dX5_swapCase_31 (by repeat (first | assumption | exact zs_eq (by simp only [List.length_set]; assumption) | refine zs_ne (by omega) ?_)) (by omega) (by omega) (by decide) ?_
      refine V_goto (tgt := 60) C dX5_swapCase_32 (by decide) ?_
      exact V_vret C R dX5_swapCase_60 ⟨rfl, by first | (rw [show swc (f p) = f p - 97 + 65 from if_pos (by omega)]; done) | (rw [show swc (f p) = f p - 65 + 97 by unfold swc; rw [if_neg (by omega), if_pos (by omega)]]; done) | (rw [show swc (f p) = f p by unfold swc; rw [if_neg (by omega), if_neg (by omega)], zup_self rfl, zs_self hj])⟩

set_option maxRecDepth 100000 in
theorem m_X5_become (G : zG) {cs : List va_E} {i j i2 j2 : Nat} {f f2 : Int → Int} {L c L2 c2 : Int} (T : isT G cs i j f L c) (T2 : isT G cs i2 j2 f2 L2 c2) (hne : i ≠ i2 ∧ j ≠ j2) : zMet G yX5_become cX5_become 2 none 1 26 [.ref (G.ad i), .ref (G.ad i2)] cs (zO0 (toT G cs i j (zcp f2 f 0 0 60) L2 c2)) := by
  refine zMet.of (by decide) (Nat.le_of_ble_eq_true rfl) ?_
  intro E C R
  have C : zC G E RX5 cX5_become 2 1 26 := C
  show V G E 0 [some (.ref (G.ad i)), some (.ref (G.ad i2))] [] cs
  obtain ⟨hi, hj, hf, hL0, hL1⟩ := id T
  have hij := zs_ao hi hj
  have hli := zs_lt hi
  have hlj := zs_lt hj
  obtain ⟨hi2, hj2, hf2, hM0, hM1⟩ := id T2
  have h1 := zs_ao hi hj2
  have h2 := zs_ao hi2 hj
  refine V_aload_n C dX5_become_0 rfl ?_
  refine vg_X5_9 C dX5_become_1 (by repeat (first | assumption | exact zs_eq (by simp only [List.length_set]; assumption) | refine zs_ne (by omega) ?_)) rfl ?_
  refine V_iconst C dX5_become_4 ?_
  refine V_aload_n C dX5_become_5 rfl ?_
  refine vg_X5_9 C dX5_become_6 (by repeat (first | assumption | exact zs_eq (by simp only [List.length_set]; assumption) | refine zs_ne (by omega) ?_)) rfl ?_
  refine V_iconst C dX5_become_9 ?_
  refine V_bipush C dX5_become_10 (by decide) ?_
  refine V_copyI C wm_X5_15 dX5_become_12 (by repeat (first | assumption | exact zs_eq (by simp only [List.length_set]; assumption) | refine zs_ne (by omega) ?_)) (by repeat (first | assumption | exact zs_eq (by simp only [List.length_set]; assumption) | refine zs_ne (by omega) ?_)) (by omega) (by omega) (by omega) (by omega) (by omega) (by decide) (by decide) (by decide) (Nat.le_of_ble_eq_true rfl) ?_
  refine V_aload_n C dX5_become_15 rfl ?_
  refine V_aload_n C dX5_become_16 rfl ?_
  refine vg_X5_21 C dX5_become_17 (by repeat (first | assumption | exact zs_eq (by simp only [List.length_set]; assumption) | refine zs_ne (by omega) ?_)) rfl ?_
  refine vp_X5_21 C dX5_become_20 (by repeat (first | assumption | exact zs_eq (by simp only [List.length_set]; assumption) | refine zs_ne (by omega) ?_)) (Nat.le_of_ble_eq_true rfl) ?_
  refine V_aload_n C dX5_become_23 rfl ?_
  refine V_aload_n C dX5_become_24 rfl ?_
  refine vg_X5_25 C dX5_become_25 (by repeat (first | assumption | exact zs_eq (by simp only [List.length_set]; assumption) | refine zs_ne (by omega) ?_)) rfl ?_
  refine vp_X5_25 C dX5_become_28 (by repeat (first | assumption | exact zs_eq (by simp only [List.length_set]; assumption) | refine zs_ne (by omega) ?_)) (Nat.le_of_ble_eq_true rfl) ?_
  exact V_vret C R dX5_become_31 ⟨rfl, by unfold toT; rw [List.set_set]; rfl⟩
