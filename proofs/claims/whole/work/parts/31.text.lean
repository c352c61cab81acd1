/-! ===== ModalKeys$Text: what is read ===== -/
/-- a Text at the ids i (itself), j (its letters) -/
def isT (G : zG) (cs : List va_E) (i j : Nat) (f : Int → Int) (L c : Int) : Prop := cs[i]? = some (.inr (5, [.ref (G.ad j), .int (iI L), .int (iI c)])) ∧ cs[j]? = some (zI G 60 f) ∧ (∀ k, rng (f k)) ∧ 0 ≤ L ∧ L ≤ 60

set_option maxRecDepth 100000 in
theorem m_X5_has (G : zG) {cs : List va_E} {i j : Nat} {f : Int → Int} {L c : Int} (T : isT G cs i j f L c) {p : Int} (hp : rng p) : zMet G yX5_has cX5_has 2 (some .boolean) 0 0 [.ref (G.ad i), .int (iI p)] cs (zO (.int (iI (b2z (0 ≤ p ∧ p < L)))) cs) := by
  refine zMet.of (by decide) (Nat.le_of_ble_eq_true rfl) ?_
  intro E C R
  have C : zC G E RX5 cX5_has 2 0 0 := C
  show V G E 0 [some (.ref (G.ad i)), some (.int (iI p))] [] cs
  obtain ⟨hi, hj, hf, hL0, hL1⟩ := id T
  refine V_iload_n C dX5_has_0 rfl ?_
  refine V_if_lt (tgt := 16) C dX5_has_1 (by decide) (by omega) (fun c_1 => ?_) (fun c_1 => ?_)
  · skip
    refine V_iconst C dX5_has_16 ?_
    exact V_zret C R dX5_has_17 (by first | decide | omega) (zO_i (by first | exact b2z_1 (by omega) | exact b2z_0 (by omega)))
  · skip
    refine V_iload_n C dX5_has_4 rfl ?_
    refine V_aload_n C dX5_has_5 rfl ?_
    refine vg_X5_21 C dX5_has_6 (by assumption) rfl ?_
    refine V_icmp_ge (tgt := 16) C dX5_has_9 (by decide) (by omega) (by omega) (fun c_9 => ?_) (fun c_9 => ?_)
    · skip
      refine V_iconst C dX5_has_16 ?_
      exact V_zret C R dX5_has_17 (by first | decide | omega) (zO_i (by first | exact b2z_1 (by omega) | exact b2z_0 (by omega)))
    · skip
      refine V_iconst C dX5_has_12 ?_
      refine V_goto (tgt := 17) C dX5_has_13 (by decide) ?_
      exact V_zret C R dX5_has_17 (by first | decide | omega) (zO_i (by first | exact b2z_1 (by omega) | exact b2z_0 (by omega)))

set_option maxRecDepth 100000 in
theorem m_X5_at (G : zG) {cs : List va_E} {i j : Nat} {f : Int → Int} {L c : Int} (T : isT G cs i j f L c) {p : Int} (hp : rng p) : zMet G yX5_at cX5_at 2 (some .int) 1 21 [.ref (G.ad i), .int (iI p)] cs (zO (.int (iI (if 0 ≤ p ∧ p < L then f p else -1))) cs) := by
  refine zMet.of (by decide) (Nat.le_of_ble_eq_true rfl) ?_
  intro E C R
  have C : zC G E RX5 cX5_at 2 1 21 := C
  show V G E 0 [some (.ref (G.ad i)), some (.int (iI p))] [] cs
  obtain ⟨hi, hj, hf, hL0, hL1⟩ := id T
  refine V_aload_n C dX5_at_0 rfl ?_
  refine V_iload_n C dX5_at_1 rfl ?_
  refine V_callV C lk_X5_28 (m_X5_has G T (by omega)) dX5_at_2 rfl rfl (by assumption) rfl (by decide) (Nat.le_of_ble_eq_true rfl) (kO ?_)
  refine V_if_eqB (tgt := 17) C dX5_at_5 (by decide) (fun c_5 => ?_) (fun c_5 => ?_)
  · skip
    refine V_iconst C dX5_at_17 ?_
    exact V_iret C R dX5_at_18 (zO_i (by simp only [*, if_true, if_false, and_self]))
  · skip
    refine V_aload_n C dX5_at_8 rfl ?_
    refine vg_X5_9 C dX5_at_9 (by assumption) rfl ?_
    refine V_iload_n C dX5_at_12 rfl ?_
    refine V_iald C dX5_at_13 (by assumption) (by omega) (by omega) (by decide) (by assumption) (fun r_13 => ?_)
    refine V_goto (tgt := 18) C dX5_at_14 (by decide) ?_
    exact V_iret C R dX5_at_18 (zO_i (by simp only [*, if_true, if_false, and_self]))

set_option maxRecDepth 100000 in
theorem m_X5_last (G : zG) {cs : List va_E} {i j : Nat} {f : Int → Int} {L c : Int} (T : isT G cs i j f L c) : zMet G yX5_last cX5_last 1 (some .int) 0 0 [.ref (G.ad i)] cs (zO (.int (iI (la L))) cs) := by
  refine zMet.of (by decide) (Nat.le_of_ble_eq_true rfl) ?_
  intro E C R
  have C : zC G E RX5 cX5_last 1 0 0 := C
  show V G E 0 [some (.ref (G.ad i))] [] cs
  obtain ⟨hi, hj, hf, hL0, hL1⟩ := id T
  refine V_aload_n C dX5_last_0 rfl ?_
  refine vg_X5_21 C dX5_last_1 (by assumption) rfl ?_
  refine V_if_le (tgt := 16) C dX5_last_4 (by decide) (by omega) (fun c_4 => ?_) (fun c_4 => ?_)
  · skip
    refine V_iconst C dX5_last_16 ?_
    exact V_iret C R dX5_last_17 (zO_i (by unfold la; split <;> omega))
  · skip
    refine V_aload_n C dX5_last_7 rfl ?_
    refine vg_X5_21 C dX5_last_8 (by assumption) rfl ?_
    refine V_iconst C dX5_last_11 ?_
    refine V_isub C dX5_last_12 ?_
    refine V_goto (tgt := 17) C dX5_last_13 (by decide) ?_
    exact V_iret C R dX5_last_17 (zO_i (by unfold la; split <;> omega))

set_option maxRecDepth 100000 in
theorem m_X5_canStand (G : zG) {cs : List va_E} {i j : Nat} {f : Int → Int} {L c : Int} (T : isT G cs i j f L c) {p : Int} (hp : rng p) : zMet G yX5_canStand cX5_canStand 2 (some .boolean) 1 20 [.ref (G.ad i), .int (iI p)] cs (zO (.int (iI (b2z (0 ≤ p ∧ p ≤ la L)))) cs) := by
  refine zMet.of (by decide) (Nat.le_of_ble_eq_true rfl) ?_
  intro E C R
  have C : zC G E RX5 cX5_canStand 2 1 20 := C
  show V G E 0 [some (.ref (G.ad i)), some (.int (iI p))] [] cs
  obtain ⟨hi, hj, hf, hL0, hL1⟩ := id T
  have hla := la_in hL0
  refine V_iload_n C dX5_canStand_0 rfl ?_
  refine V_if_lt (tgt := 16) C dX5_canStand_1 (by decide) (by omega) (fun c_1 => ?_) (fun c_1 => ?_)
  · skip
    refine V_iconst C dX5_canStand_16 ?_
    exact V_zret C R dX5_canStand_17 (by first | decide | omega) (zO_i (by first | exact b2z_1 (by omega) | exact b2z_0 (by omega)))
  · skip
    refine V_iload_n C dX5_canStand_4 rfl ?_
    refine V_aload_n C dX5_canStand_5 rfl ?_
    refine V_callV C lk_X5_32 (m_X5_last G T) dX5_canStand_6 rfl rfl (by assumption) rfl (by decide) (Nat.le_of_ble_eq_true rfl) (kO ?_)
    refine V_icmp_gt (tgt := 16) C dX5_canStand_9 (by decide) (by omega) (by omega) (fun c_9 => ?_) (fun c_9 => ?_)
    · skip
      refine V_iconst C dX5_canStand_16 ?_
      exact V_zret C R dX5_canStand_17 (by first | decide | omega) (zO_i (by first | exact b2z_1 (by omega) | exact b2z_0 (by omega)))
    · skip
      refine V_iconst C dX5_canStand_12 ?_
      refine V_goto (tgt := 17) C dX5_canStand_13 (by decide) ?_
      exact V_zret C R dX5_canStand_17 (by first | decide | omega) (zO_i (by first | exact b2z_1 (by omega) | exact b2z_0 (by omega)))

set_option maxRecDepth 100000 in
theorem m_X5_standing (G : zG) {cs : List va_E} {i j : Nat} {f : Int → Int} {L c : Int} (T : isT G cs i j f L c) (hc : rng c) : zMet G yX5_standing cX5_standing 1 (some .int) 1 21 [.ref (G.ad i)] cs (zO (.int (iI (min c (la L)))) cs) := by
  refine zMet.of (by decide) (Nat.le_of_ble_eq_true rfl) ?_
  intro E C R
  have C : zC G E RX5 cX5_standing 1 1 21 := C
  show V G E 0 [some (.ref (G.ad i))] [] cs
  obtain ⟨hi, hj, hf, hL0, hL1⟩ := id T
  have hla := la_in hL0
  refine V_aload_n C dX5_standing_0 rfl ?_
  refine vg_X5_25 C dX5_standing_1 (by assumption) rfl ?_
  refine V_aload_n C dX5_standing_4 rfl ?_
  refine V_callV C lk_X5_32 (m_X5_last G T) dX5_standing_5 rfl rfl (by assumption) rfl (by decide) (Nat.le_of_ble_eq_true rfl) (kO ?_)
  refine V_min C wm_X5_36 dX5_standing_8 (by omega) (by omega) (by decide) (Nat.le_of_ble_eq_true rfl) ?_
  exact V_iret C R dX5_standing_11 (zO_i rfl)

set_option maxRecDepth 100000 in
theorem m_X5_kindAt (G : zG) {cs : List va_E} {i j : Nat} {f : Int → Int} {L c : Int} (T : isT G cs i j f L c) {p : Int} (hp : rng p) : zMet G yX5_kindAt cX5_kindAt 6 (some .int) 0 0 [.ref (G.ad i), .int (iI p)] cs (zO (.int (iI (kd f L p))) cs) := by
  refine zMet.of (by decide) (Nat.le_of_ble_eq_true rfl) ?_
  intro E C R
  have C : zC G E RX5 cX5_kindAt 6 0 0 := C
  show V G E 0 [some (.ref (G.ad i)), some (.int (iI p)), none, none, none, none] [] cs
  obtain ⟨hi, hj, hf, hL0, hL1⟩ := id T
  refine V_iload_n C dX5_kindAt_0 rfl ?_
  refine V_if_lt (tgt := 12) C dX5_kindAt_1 (by decide) (by omega) (fun c_1 => ?_) (fun c_1 => ?_)
  · skip
    refine V_iconst C dX5_kindAt_12 ?_
    exact V_iret C R dX5_kindAt_13 (zO_i (by rw [kd_out (by omega)]))
  · skip
    refine V_iload_n C dX5_kindAt_4 rfl ?_
    refine V_aload_n C dX5_kindAt_5 rfl ?_
    refine vg_X5_21 C dX5_kindAt_6 (by assumption) rfl ?_
    refine V_icmp_lt (tgt := 14) C dX5_kindAt_9 (by decide) (by omega) (by omega) (fun c_9 => ?_) (fun c_9 => ?_)
    · skip
      refine V_aload_n C dX5_kindAt_14 rfl ?_
      refine vg_X5_9 C dX5_kindAt_15 (by assumption) rfl ?_
      refine V_iload_n C dX5_kindAt_18 rfl ?_
      refine V_iald C dX5_kindAt_19 (by assumption) (by omega) (by omega) (by decide) (by assumption) (fun r_19 => ?_)
      refine V_istore_n C dX5_kindAt_20 (by decide) rfl ?_
      refine V_iload_n C dX5_kindAt_21 rfl ?_
      refine V_bipush C dX5_kindAt_22 (by decide) ?_
      refine V_icmp_ne (tgt := 29) C dX5_kindAt_24 (by decide) (by omega) (by omega) (fun c_24 => ?_) (fun c_24 => ?_)
      · skip
        refine V_midb (pc2 := 46) (97 ≤ f p ∧ f p ≤ 122) ?_ (fun kt_29 kf_29 => ?_)
        · skip
          refine V_istore_n C dX5_kindAt_46 (by decide) rfl ?_
          refine V_midb (pc2 := 64) (65 ≤ f p ∧ f p ≤ 90) ?_ (fun kt_47 kf_47 => ?_)
          · skip
            refine V_istore C dX5_kindAt_64 (by decide) rfl ?_
            refine V_midb (pc2 := 83) (48 ≤ f p ∧ f p ≤ 57) ?_ (fun kt_66 kf_66 => ?_)
            · skip
              refine V_istore C dX5_kindAt_83 (by decide) rfl ?_
              refine V_iload_n C dX5_kindAt_85 rfl ?_
              refine V_if_neB (tgt := 99) C dX5_kindAt_86 (by decide) (fun c_86 => ?_) (fun c_86 => ?_)
              · skip
                refine V_iconst C dX5_kindAt_99 ?_
                refine V_goto (tgt := 104) C dX5_kindAt_100 (by decide) ?_
                exact V_iret C R dX5_kindAt_104 (zO_i (by rw [kd_at (by omega) (by omega)]; unfold kc; rw [if_neg (by omega)]; first | rw [if_pos (by omega)] | rw [if_neg (by omega)]))
              · skip
                refine V_iload C dX5_kindAt_89 rfl ?_
                refine V_if_neB (tgt := 99) C dX5_kindAt_91 (by decide) (fun c_91 => ?_) (fun c_91 => ?_)
                · skip
                  refine V_iconst C dX5_kindAt_99 ?_
                  refine V_goto (tgt := 104) C dX5_kindAt_100 (by decide) ?_
                  exact V_iret C R dX5_kindAt_104 (zO_i (by rw [kd_at (by omega) (by omega)]; unfold kc; rw [if_neg (by omega)]; first | rw [if_pos (by omega)] | rw [if_neg (by omega)]))
                · skip
                  refine V_iload C dX5_kindAt_94 rfl ?_
                  refine V_if_eqB (tgt := 103) C dX5_kindAt_96 (by decide) (fun c_96 => ?_) (fun c_96 => ?_)
                  · skip
                    refine V_iconst C dX5_kindAt_103 ?_
                    exact V_iret C R dX5_kindAt_104 (zO_i (by rw [kd_at (by omega) (by omega)]; unfold kc; rw [if_neg (by omega)]; first | rw [if_pos (by omega)] | rw [if_neg (by omega)]))
                  · skip
                    refine V_iconst C dX5_kindAt_99 ?_
                    refine V_goto (tgt := 104) C dX5_kindAt_100 (by decide) ?_
                    exact V_iret C R dX5_kindAt_104 (zO_i (by rw [kd_at (by omega) (by omega)]; unfold kc; rw [if_neg (by omega)]; first | rw [if_pos (by omega)] | rw [if_neg (by omega)]))
            · skip
              refine V_iload_n C dX5_kindAt_66 rfl ?_
              refine V_bipush C dX5_kindAt_67 (by decide) ?_
              refine V_icmp_lt (tgt := 82) C dX5_kindAt_69 (by decide) (by omega) (by omega) (fun c_69 => ?_) (fun c_69 => ?_)
              · skip
                refine V_iconst C dX5_kindAt_82 ?_
                exact kf_66 (by omega)
              · skip
                refine V_iload_n C dX5_kindAt_72 rfl ?_
                refine V_bipush C dX5_kindAt_73 (by decide) ?_
                refine V_icmp_gt (tgt := 82) C dX5_kindAt_75 (by decide) (by omega) (by omega) (fun c_75 => ?_) (fun c_75 => ?_)
                · skip
                  refine V_iconst C dX5_kindAt_82 ?_
                  exact kf_66 (by omega)
                · skip
                  refine V_iconst C dX5_kindAt_78 ?_
                  refine V_goto (tgt := 83) C dX5_kindAt_79 (by decide) ?_
                  exact kt_66 (by omega)
          · skip
            refine V_iload_n C dX5_kindAt_47 rfl ?_
            refine V_bipush C dX5_kindAt_48 (by decide) ?_
            refine V_icmp_lt (tgt := 63) C dX5_kindAt_50 (by decide) (by omega) (by omega) (fun c_50 => ?_) (fun c_50 => ?_)
            · skip
              refine V_iconst C dX5_kindAt_63 ?_
              exact kf_47 (by omega)
            · skip
              refine V_iload_n C dX5_kindAt_53 rfl ?_
              refine V_bipush C dX5_kindAt_54 (by decide) ?_
              refine V_icmp_gt (tgt := 63) C dX5_kindAt_56 (by decide) (by omega) (by omega) (fun c_56 => ?_) (fun c_56 => ?_)
              · skip
                refine V_iconst C dX5_kindAt_63 ?_
                exact kf_47 (by omega)
              · skip
                refine V_iconst C dX5_kindAt_59 ?_
                refine V_goto (tgt := 64) C dX5_kindAt_60 (by decide) ?_
                exact kt_47 (by omega)
        · skip
          refine V_iload_n C dX5_kindAt_29 rfl ?_
          refine V_bipush C dX5_kindAt_30 (by decide) ?_
          refine V_icmp_lt (tgt := 45) C dX5_kindAt_32 (by decide) (by omega) (by omega) (fun c_32 => ?_) (fun c_32 => ?_)
          · skip
            refine V_iconst C dX5_kindAt_45 ?_
            exact kf_29 (by omega)
          · skip
            refine V_iload_n C dX5_kindAt_35 rfl ?_
            refine V_bipush C dX5_kindAt_36 (by decide) ?_
            refine V_icmp_gt (tgt := 45) C dX5_kindAt_38 (by decide) (by omega) (by omega) (fun c_38 => ?_) (fun c_38 => ?_)
            · skip
              refine V_iconst C dX5_kindAt_45 ?_
              exact kf_29 (by omega)
            · skip
              refine V_iconst C dX5_kindAt_41 ?_
              refine V_goto (tgt := 46) C dX5_kindAt_42 (by decide) ?_
              exact kt_29 (by omega)
      · skip
        refine V_iconst C dX5_kindAt_27 ?_
        exact V_iret C R dX5_kindAt_28 (zO_i (by rw [kd_at (by omega) (by omega)]; unfold kc; rw [if_pos (by omega)]))
    · skip
      refine V_iconst C dX5_kindAt_12 ?_
      exact V_iret C R dX5_kindAt_13 (zO_i (by rw [kd_out (by omega)]))

set_option maxRecDepth 100000 in
theorem m_X5_behindKind (G : zG) {cs : List va_E} {i j : Nat} {f : Int → Int} {L c : Int} (T : isT G cs i j f L c) {p kd0 : Int} (hp : -1 ≤ p ∧ p ≤ 100) (hk : rng kd0) : zMet G yX5_behindKind cX5_behindKind 4 (some .int) 1 25 [.ref (G.ad i), .int (iI p), .int (iI kd0)] cs (zO (.int (iI (bh f L kd0 p))) cs) := by
  refine zMet.of (by decide) (Nat.le_of_ble_eq_true rfl) ?_
  intro E C R
  have C : zC G E RX5 cX5_behindKind 4 1 25 := C
  show V G E 0 [some (.ref (G.ad i)), some (.int (iI p)), some (.int (iI kd0)), none] [] cs
  obtain ⟨hi, hj, hf, hL0, hL1⟩ := id T
  refine V_iload_n C dX5_behindKind_0 rfl ?_
  refine V_istore_n C dX5_behindKind_1 (by decide) rfl ?_
  refine V_loop (α := Int) (fun x => (200 - x).toNat) (fun x => p ≤ x ∧ x ≤ max p L ∧ bh f L kd0 x = bh f L kd0 p) (fun x => V G E 2 [some (.ref (G.ad i)), some (.int (iI p)), some (.int (iI kd0)), some (.int (iI x))] [] cs) ?_ p ⟨by omega, by omega, rfl⟩
  rintro q ⟨g1, g2, g3⟩ ih_2
  have hq := kd_in f L q
  refine V_iload_n C dX5_behindKind_2 rfl ?_
  refine V_aload_n C dX5_behindKind_3 rfl ?_
  refine vg_X5_21 C dX5_behindKind_4 (by assumption) rfl ?_
  refine V_icmp_ge (tgt := 25) C dX5_behindKind_7 (by decide) (by omega) (by omega) (fun c_7 => ?_) (fun c_7 => ?_)
  · skip
    refine V_iload_n C dX5_behindKind_25 rfl ?_
    exact V_iret C R dX5_behindKind_26 (zO_i (by rw [← g3]; exact (bh_no (by omega)).symm))
  · skip
    refine V_aload_n C dX5_behindKind_10 rfl ?_
    refine V_iload_n C dX5_behindKind_11 rfl ?_
    refine V_callV C lk_X5_42 (m_X5_kindAt G T (by omega)) dX5_behindKind_12 rfl rfl (by assumption) rfl (by decide) (Nat.le_of_ble_eq_true rfl) (kO ?_)
    refine V_iload_n C dX5_behindKind_15 rfl ?_
    refine V_icmp_ne (tgt := 25) C dX5_behindKind_16 (by decide) (by omega) (by omega) (fun c_16 => ?_) (fun c_16 => ?_)
    · skip
      refine V_iload_n C dX5_behindKind_25 rfl ?_
      exact V_iret C R dX5_behindKind_26 (zO_i (by rw [← g3]; exact (bh_no (by omega)).symm))
    · skip
      refine V_iinc C dX5_behindKind_19 rfl (by decide) rfl ?_
      refine V_goto (tgt := 2) C dX5_behindKind_22 (by decide) ?_
      exact ih_2 (q + 1) ⟨by omega, by omega, by rw [← g3]; exact (bh_go (by omega) (by omega)).symm⟩ (by omega)

set_option maxRecDepth 100000 in
theorem m_X5_beginOfKind (G : zG) {cs : List va_E} {i j : Nat} {f : Int → Int} {L c : Int} (T : isT G cs i j f L c) {p kd0 : Int} (hp : 0 ≤ p ∧ p ≤ 100) (hk : rng kd0) : zMet G yX5_beginOfKind cX5_beginOfKind 4 (some .int) 1 25 [.ref (G.ad i), .int (iI p), .int (iI kd0)] cs (zO (.int (iI (bg f L kd0 p))) cs) := by
  refine zMet.of (by decide) (Nat.le_of_ble_eq_true rfl) ?_
  intro E C R
  have C : zC G E RX5 cX5_beginOfKind 4 1 25 := C
  show V G E 0 [some (.ref (G.ad i)), some (.int (iI p)), some (.int (iI kd0)), none] [] cs
  obtain ⟨hi, hj, hf, hL0, hL1⟩ := id T
  refine V_iload_n C dX5_beginOfKind_0 rfl ?_
  refine V_istore_n C dX5_beginOfKind_1 (by decide) rfl ?_
  refine V_loop (α := Int) (fun x => x.toNat) (fun x => 0 ≤ x ∧ x ≤ p ∧ bg f L kd0 x = bg f L kd0 p) (fun x => V G E 2 [some (.ref (G.ad i)), some (.int (iI p)), some (.int (iI kd0)), some (.int (iI x))] [] cs) ?_ p ⟨by omega, by omega, rfl⟩
  rintro q ⟨g1, g2, g3⟩ ih_2
  have hq := kd_in f L (q - 1)
  refine V_iload_n C dX5_beginOfKind_2 rfl ?_
  refine V_if_le (tgt := 23) C dX5_beginOfKind_3 (by decide) (by omega) (fun c_3 => ?_) (fun c_3 => ?_)
  · skip
    refine V_iload_n C dX5_beginOfKind_23 rfl ?_
    exact V_iret C R dX5_beginOfKind_24 (zO_i (by rw [← g3]; exact (bg_no (by omega)).symm))
  · skip
    refine V_aload_n C dX5_beginOfKind_6 rfl ?_
    refine V_iload_n C dX5_beginOfKind_7 rfl ?_
    refine V_iconst C dX5_beginOfKind_8 ?_
    refine V_isub C dX5_beginOfKind_9 ?_
    refine V_callV C lk_X5_42 (m_X5_kindAt G T (by omega)) dX5_beginOfKind_10 rfl rfl (by assumption) rfl (by decide) (Nat.le_of_ble_eq_true rfl) (kO ?_)
    refine V_iload_n C dX5_beginOfKind_13 rfl ?_
    refine V_icmp_ne (tgt := 23) C dX5_beginOfKind_14 (by decide) (by omega) (by omega) (fun c_14 => ?_) (fun c_14 => ?_)
    · skip
      refine V_iload_n C dX5_beginOfKind_23 rfl ?_
      exact V_iret C R dX5_beginOfKind_24 (zO_i (by rw [← g3]; exact (bg_no (by omega)).symm))
    · skip
      refine V_iinc C dX5_beginOfKind_17 rfl (by decide) rfl ?_
      refine V_goto (tgt := 2) C dX5_beginOfKind_20 (by decide) ?_
      exact ih_2 (q + -1) ⟨by omega, by omega, by rw [← g3]; exact (bg_go (by omega) (by omega)).symm⟩ (by omega)
