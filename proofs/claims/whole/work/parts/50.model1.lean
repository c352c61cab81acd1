/-! ===== the reference: its cells (ids of its own) ===== -/
def mdL (G : zG) (un td ku : Int) (g ah ag tp co wy th kp ka ln sn it mv : Int → Int) : List va_E :=
  [.inr (8, [.ref (G.ad 1), .ref (G.ad 2), .int (iI un), .ref (G.ad 3), .ref (G.ad 4), .int (iI td), .ref (G.ad 5), .ref (G.ad 6), .ref (G.ad 7), .ref (G.ad 8), .ref (G.ad 9), .int (iI ku), .ref (G.ad 10), .ref (G.ad 11), .ref (G.ad 12), .ref (G.ad 13)]),
   zI G 263 g, zI G 496 ah, zI G 30 ag, zI G 60 tp, zI G 60 co, zI G 60 wy, zI G 60 th, zI G 263 kp, zI G 496 ka, zI G 4 ln, zI G 4 sn, zJ G 96 it, zJ G 24 mv]
abbrev lt (g : Int → Int) : Int → Int := fun p => g (1 + p)
theorem zcp_0 {f g : Int → Int} {sp dp : Int} : zcp f g sp dp 0 = g := by funext j; unfold zcp; rw [if_neg (by omega)]
theorem zcp_s {f g : Int → Int} {sp dp q : Int} (h : 0 ≤ q) : zup (zcp f g sp dp q) (dp + q) (f (sp + q)) = zcp f g sp dp (q + 1) := by
  funext j
  unfold zup zcp
  by_cases e : j = dp + q
  · rw [if_pos e, if_pos (by omega), e, show sp + (dp + q - dp) = sp + q by omega]
  · rw [if_neg e]
    by_cases e2 : dp ≤ j ∧ j < dp + q
    · rw [if_pos e2, if_pos (by omega)]
    · rw [if_neg e2, if_neg (by omega)]
theorem zcp_d {f g : Int → Int} {sp dp n : Int} (h : 0 ≤ n) : zup (zcp f g (sp + 1) (dp + 1) n) dp (f sp) = zcp f g sp dp (n + 1) := by
  funext j
  unfold zup zcp
  by_cases e : j = dp
  · rw [if_pos e, if_pos (by omega), e, show sp + (dp - dp) = sp by omega]
  · rw [if_neg e]
    by_cases e2 : dp + 1 ≤ j ∧ j < dp + 1 + n
    · rw [if_pos e2, if_pos (by omega)]; congr 1; omega
    · rw [if_neg e2, if_neg (by omega)]
theorem zcp_in {f g : Int → Int} {sp dp n j : Int} (h : dp ≤ j) (h2 : j < dp + n) : zcp f g sp dp n j = f (sp + (j - dp)) := if_pos ⟨h, h2⟩
theorem zcp_out {f g : Int → Int} {sp dp n j : Int} (h : j < dp ∨ dp + n ≤ j) : zcp f g sp dp n j = g j := if_neg (by omega)
theorem up_at {VV : Prop} {W : (Int → Int) → Prop} (a b : Int → Int) (e : a = b) (h : W a) : W b := e ▸ h

set_option maxRecDepth 100000 in
theorem m_X8_in (G : zG) {cs : List va_E} {a b c : Int} (ha : rngL a) (hb : rngL b) (hc : rngL c) : zMet G yX8_in cX8_in 6 (some .boolean) 0 0 [.long (lI a), .long (lI b), .long (lI c)] cs (zO (.int (iI (b2z (b ≤ a ∧ a ≤ c)))) cs) := by
  refine zMet.of (by decide) (Nat.le_of_ble_eq_true rfl) ?_
  intro E C R
  have C : zC G E RX8 cX8_in 6 0 0 := C
  show V G E 0 [some (.long (lI a)), none, some (.long (lI b)), none, some (.long (lI c)), none] [] cs
  refine V_lload_n C dX8_in_0 rfl ?_
  refine V_lload_n C dX8_in_1 rfl ?_
  refine V_lcmp_lt (tgt := 17) C dX8_in_2 dX8_in_3 (by decide) (by omega) (by omega) (fun c_3 => ?_) (fun c_3 => ?_)
  · skip
    refine V_iconst C dX8_in_17 ?_
    exact V_zret C R dX8_in_18 (by first | decide | omega) (zO_i (by first | exact b2z_1 (by omega) | exact b2z_0 (by omega)))
  · skip
    refine V_lload_n C dX8_in_6 rfl ?_
    refine V_lload C dX8_in_7 rfl ?_
    refine V_lcmp_gt (tgt := 17) C dX8_in_9 dX8_in_10 (by decide) (by omega) (by omega) (fun c_10 => ?_) (fun c_10 => ?_)
    · skip
      refine V_iconst C dX8_in_17 ?_
      exact V_zret C R dX8_in_18 (by first | decide | omega) (zO_i (by first | exact b2z_1 (by omega) | exact b2z_0 (by omega)))
    · skip
      refine V_iconst C dX8_in_13 ?_
      refine V_goto (tgt := 18) C dX8_in_14 (by decide) ?_
      exact V_zret C R dX8_in_18 (by first | decide | omega) (zO_i (by first | exact b2z_1 (by omega) | exact b2z_0 (by omega)))

set_option maxRecDepth 100000 in
theorem m_X8_lesser (G : zG) {cs : List va_E} {a b : Int} (ha : rng a) (hb : rng b) : zMet G yX8_lesser cX8_lesser 2 (some .int) 0 0 [.int (iI a), .int (iI b)] cs (zO (.int (iI (min a b))) cs) := by
  refine zMet.of (by decide) (Nat.le_of_ble_eq_true rfl) ?_
  intro E C R
  have C : zC G E RX8 cX8_lesser 2 0 0 := C
  show V G E 0 [some (.int (iI a)), some (.int (iI b))] [] cs
  refine V_iload_n C dX8_lesser_0 rfl ?_
  refine V_iload_n C dX8_lesser_1 rfl ?_
  refine V_icmp_ge (tgt := 9) C dX8_lesser_2 (by decide) (by omega) (by omega) (fun c_2 => ?_) (fun c_2 => ?_)
  · skip
    refine V_iload_n C dX8_lesser_9 rfl ?_
    exact V_iret C R dX8_lesser_10 (zO_i (by omega))
  · skip
    refine V_iload_n C dX8_lesser_5 rfl ?_
    refine V_goto (tgt := 10) C dX8_lesser_6 (by decide) ?_
    exact V_iret C R dX8_lesser_10 (zO_i (by omega))

set_option maxRecDepth 100000 in
theorem m_X8_classOf (G : zG) {cs : List va_E} {x : Int} (hx : rng x) : zMet G yX8_classOf cX8_classOf 2 (some .int) 1 25 [.int (iI x)] cs (zO (.int (iI (kc x))) cs) := by
  refine zMet.of (by decide) (Nat.le_of_ble_eq_true rfl) ?_
  intro E C R
  have C : zC G E RX8 cX8_classOf 2 1 25 := C
  show V G E 0 [some (.int (iI x)), none] [] cs
  refine V_midb (pc2 := 47) ((97 ≤ x ∧ x ≤ 122) ∨ (65 ≤ x ∧ x ≤ 90) ∨ (48 ≤ x ∧ x ≤ 57)) ?_ (fun kt_0 kf_0 => ?_)
  · skip
    refine V_istore_n C dX8_classOf_47 (by decide) rfl ?_
    refine V_iload_n C dX8_classOf_48 rfl ?_
    refine V_bipush C dX8_classOf_49 (by decide) ?_
    refine V_icmp_ne (tgt := 58) C dX8_classOf_51 (by decide) (by omega) (by omega) (fun c_51 => ?_) (fun c_51 => ?_)
    · skip
      refine V_iload_n C dX8_classOf_58 rfl ?_
      refine V_if_eqB (tgt := 66) C dX8_classOf_59 (by decide) (fun c_59 => ?_) (fun c_59 => ?_)
      · skip
        refine V_iconst C dX8_classOf_66 ?_
        exact V_iret C R dX8_classOf_67 (zO_i (by unfold kc; first | rw [if_pos (by omega)] | (rw [if_neg (by omega)]; first | rw [if_pos (by omega)] | rw [if_neg (by omega)])))
      · skip
        refine V_iconst C dX8_classOf_62 ?_
        refine V_goto (tgt := 67) C dX8_classOf_63 (by decide) ?_
        exact V_iret C R dX8_classOf_67 (zO_i (by unfold kc; first | rw [if_pos (by omega)] | (rw [if_neg (by omega)]; first | rw [if_pos (by omega)] | rw [if_neg (by omega)])))
    · skip
      refine V_iconst C dX8_classOf_54 ?_
      refine V_goto (tgt := 67) C dX8_classOf_55 (by decide) ?_
      exact V_iret C R dX8_classOf_67 (zO_i (by unfold kc; first | rw [if_pos (by omega)] | (rw [if_neg (by omega)]; first | rw [if_pos (by omega)] | rw [if_neg (by omega)])))
  · skip
    refine V_iload_n C dX8_classOf_0 rfl ?_
    refine V_i2l C dX8_classOf_1 (by omega) ?_
    refine V_ldc2 (z := 97) C wk_X8_54 rfl dX8_classOf_2 ?_
    refine V_ldc2 (z := 122) C wk_X8_56 rfl dX8_classOf_5 ?_
    refine V_callS C lk_X8_58 (m_X8_in G (by omega) (by omega) (by omega)) dX8_classOf_8 rfl rfl (by decide) (Nat.le_of_ble_eq_true rfl) (kO ?_)
    refine V_if_neB (tgt := 42) C dX8_classOf_11 (by decide) (fun c_11 => ?_) (fun c_11 => ?_)
    · skip
      refine V_iconst C dX8_classOf_42 ?_
      refine V_goto (tgt := 47) C dX8_classOf_43 (by decide) ?_
      exact kt_0 (by omega)
    · skip
      refine V_iload_n C dX8_classOf_14 rfl ?_
      refine V_i2l C dX8_classOf_15 (by omega) ?_
      refine V_ldc2 (z := 65) C wk_X8_62 rfl dX8_classOf_16 ?_
      refine V_ldc2 (z := 90) C wk_X8_64 rfl dX8_classOf_19 ?_
      refine V_callS C lk_X8_58 (m_X8_in G (by omega) (by omega) (by omega)) dX8_classOf_22 rfl rfl (by decide) (Nat.le_of_ble_eq_true rfl) (kO ?_)
      refine V_if_neB (tgt := 42) C dX8_classOf_25 (by decide) (fun c_25 => ?_) (fun c_25 => ?_)
      · skip
        refine V_iconst C dX8_classOf_42 ?_
        refine V_goto (tgt := 47) C dX8_classOf_43 (by decide) ?_
        exact kt_0 (by omega)
      · skip
        refine V_iload_n C dX8_classOf_28 rfl ?_
        refine V_i2l C dX8_classOf_29 (by omega) ?_
        refine V_ldc2 (z := 48) C wk_X8_66 rfl dX8_classOf_30 ?_
        refine V_ldc2 (z := 57) C wk_X8_68 rfl dX8_classOf_33 ?_
        refine V_callS C lk_X8_58 (m_X8_in G (by omega) (by omega) (by omega)) dX8_classOf_36 rfl rfl (by decide) (Nat.le_of_ble_eq_true rfl) (kO ?_)
        refine V_if_eqB (tgt := 46) C dX8_classOf_39 (by decide) (fun c_39 => ?_) (fun c_39 => ?_)
        · skip
          refine V_iconst C dX8_classOf_46 ?_
          exact kf_0 (by omega)
        · skip
          refine V_iconst C dX8_classOf_42 ?_
          refine V_goto (tgt := 47) C dX8_classOf_43 (by decide) ?_
          exact kt_0 (by omega)

set_option maxRecDepth 100000 in
theorem m_X8_isMotion (G : zG) {cs : List va_E} {x : Int} (hx : rng x) : zMet G yX8_isMotion cX8_isMotion 1 (some .boolean) 1 25 [.int (iI x)] cs (zO (.int (iI (b2z (0 ≤ x ∧ x ≤ 6)))) cs) := by
  refine zMet.of (by decide) (Nat.le_of_ble_eq_true rfl) ?_
  intro E C R
  have C : zC G E RX8 cX8_isMotion 1 1 25 := C
  show V G E 0 [some (.int (iI x))] [] cs
  refine V_iload_n C dX8_isMotion_0 rfl ?_
  refine V_i2l C dX8_isMotion_1 (by omega) ?_
  refine V_lconst (z := 0) C dX8_isMotion_2 rfl ?_
  refine V_ldc2 (z := 6) C wk_X8_214 rfl dX8_isMotion_3 ?_
  refine V_callS C lk_X8_58 (m_X8_in G (by omega) (by omega) (by omega)) dX8_isMotion_6 rfl rfl (by decide) (Nat.le_of_ble_eq_true rfl) (kO ?_)
  exact V_zret C R dX8_isMotion_9 (by unfold b2z; split; exact Or.inr rfl; exact Or.inl rfl) ⟨rfl, rfl⟩

set_option maxRecDepth 100000 in
theorem m_X8_isSheet (G : zG) {cs : List va_E} {x : Int} (hx : rng x) : zMet G yX8_isSheet cX8_isSheet 1 (some .boolean) 1 25 [.int (iI x)] cs (zO (.int (iI (b2z (0 ≤ x ∧ x ≤ 3)))) cs) := by
  refine zMet.of (by decide) (Nat.le_of_ble_eq_true rfl) ?_
  intro E C R
  have C : zC G E RX8 cX8_isSheet 1 1 25 := C
  show V G E 0 [some (.int (iI x))] [] cs
  refine V_iload_n C dX8_isSheet_0 rfl ?_
  refine V_i2l C dX8_isSheet_1 (by omega) ?_
  refine V_lconst (z := 0) C dX8_isSheet_2 rfl ?_
  refine V_ldc2 (z := 3) C wk_X8_206 rfl dX8_isSheet_3 ?_
  refine V_callS C lk_X8_58 (m_X8_in G (by omega) (by omega) (by omega)) dX8_isSheet_6 rfl rfl (by decide) (Nat.le_of_ble_eq_true rfl) (kO ?_)
  exact V_zret C R dX8_isSheet_9 (by unfold b2z; split; exact Or.inr rfl; exact Or.inl rfl) ⟨rfl, rfl⟩

set_option maxRecDepth 100000 in
theorem m_X8_last (G : zG) {un td ku : Int} {g ah ag tp co wy th kp ka ln sn it mv : Int → Int} {rest : List va_E} (hg : ∀ j, rng (g j))  (hL : 0 ≤ g 0 ∧ g 0 ≤ 60) : zMet G yX8_last cX8_last 1 (some .int) 0 0 [.ref (G.ad 0)] (mdL G un td ku g ah ag tp co wy th kp ka ln sn it mv ++ rest) (zO (.int (iI (la (g 0)))) (mdL G un td ku g ah ag tp co wy th kp ka ln sn it mv ++ rest)) := by
  refine zMet.of (by decide) (Nat.le_of_ble_eq_true rfl) ?_
  intro E C R
  have C : zC G E RX8 cX8_last 1 0 0 := C
  show V G E 0 [some (.ref (G.ad 0))] [] (mdL G un td ku g ah ag tp co wy th kp ka ln sn it mv ++ rest)
  refine V_aload_n C dX8_last_0 rfl ?_
  refine vg_X8_7 C dX8_last_1 rfl rfl ?_
  refine V_iconst C dX8_last_4 ?_
  refine V_iald C dX8_last_5 rfl (by omega) (by omega) (by decide) (by first | with_reducible assumption | assumption) (fun r_5 => ?_)
  refine V_if_ne (tgt := 13) C dX8_last_6 (by decide) (by omega) (fun c_6 => ?_) (fun c_6 => ?_)
  · skip
    refine V_aload_n C dX8_last_13 rfl ?_
    refine vg_X8_7 C dX8_last_14 rfl rfl ?_
    refine V_iconst C dX8_last_17 ?_
    refine V_iald C dX8_last_18 rfl (by omega) (by omega) (by decide) (by first | with_reducible assumption | assumption) (fun r_18 => ?_)
    refine V_iconst C dX8_last_19 ?_
    refine V_isub C dX8_last_20 ?_
    exact V_iret C R dX8_last_21 (zO_i (by unfold la; split <;> omega))
  · skip
    refine V_iconst C dX8_last_9 ?_
    refine V_goto (tgt := 21) C dX8_last_10 (by decide) ?_
    exact V_iret C R dX8_last_21 (zO_i (by unfold la; split <;> omega))

set_option maxRecDepth 100000 in
theorem m_X8_classAt (G : zG) {un td ku : Int} {g ah ag tp co wy th kp ka ln sn it mv : Int → Int} {rest : List va_E} (hg : ∀ j, rng (g j))  (hL : 0 ≤ g 0 ∧ g 0 ≤ 60) {p : Int} (hp : rng p) : zMet G yX8_classAt cX8_classAt 2 (some .int) 2 46 [.ref (G.ad 0), .int (iI p)] (mdL G un td ku g ah ag tp co wy th kp ka ln sn it mv ++ rest) (zO (.int (iI (kd (lt g) (g 0) p))) (mdL G un td ku g ah ag tp co wy th kp ka ln sn it mv ++ rest)) := by
  refine zMet.of (by decide) (Nat.le_of_ble_eq_true rfl) ?_
  intro E C R
  have C : zC G E RX8 cX8_classAt 2 2 46 := C
  show V G E 0 [some (.ref (G.ad 0)), some (.int (iI p))] [] (mdL G un td ku g ah ag tp co wy th kp ka ln sn it mv ++ rest)
  refine V_iload_n C dX8_classAt_0 rfl ?_
  refine V_i2l C dX8_classAt_1 (by omega) ?_
  refine V_lconst (z := 0) C dX8_classAt_2 rfl ?_
  refine V_aload_n C dX8_classAt_3 rfl ?_
  refine vg_X8_7 C dX8_classAt_4 rfl rfl ?_
  refine V_iconst C dX8_classAt_7 ?_
  refine V_iald C dX8_classAt_8 rfl (by omega) (by omega) (by decide) (by first | with_reducible assumption | assumption) (fun r_8 => ?_)
  refine V_iconst C dX8_classAt_9 ?_
  refine V_isub C dX8_classAt_10 ?_
  refine V_i2l C dX8_classAt_11 (by omega) ?_
  refine V_callS C lk_X8_58 (m_X8_in G (by omega) (by omega) (by omega)) dX8_classAt_12 rfl rfl (by decide) (Nat.le_of_ble_eq_true rfl) (kO ?_)
  refine V_if_eqB (tgt := 32) C dX8_classAt_15 (by decide) (fun c_15 => ?_) (fun c_15 => ?_)
  · skip
    refine V_iconst C dX8_classAt_32 ?_
    exact V_iret C R dX8_classAt_33 (zO_i (by first | exact (kd_at (f := lt g) (L := g 0) (p := p) (by omega) (by omega)).symm | exact (kd_out (f := lt g) (L := g 0) (p := p) (by omega)).symm))
  · skip
    refine V_aload_n C dX8_classAt_18 rfl ?_
    refine vg_X8_7 C dX8_classAt_19 rfl rfl ?_
    refine V_iconst C dX8_classAt_22 ?_
    refine V_iload_n C dX8_classAt_23 rfl ?_
    refine V_iadd C dX8_classAt_24 ?_
    refine V_iald C dX8_classAt_25 rfl (by omega) (by omega) (by decide) (by first | with_reducible assumption | assumption) (fun r_25 => ?_)
    refine V_callS C lk_X8_70 (m_X8_classOf G (by omega)) dX8_classAt_26 rfl rfl (by decide) (Nat.le_of_ble_eq_true rfl) (kO ?_)
    refine V_goto (tgt := 33) C dX8_classAt_29 (by decide) ?_
    exact V_iret C R dX8_classAt_33 (zO_i (by first | exact (kd_at (f := lt g) (L := g 0) (p := p) (by omega) (by omega)).symm | exact (kd_out (f := lt g) (L := g 0) (p := p) (by omega)).symm))

theorem m_X8_wordOn_b (G : zG) {un td ku : Int} {g ah ag tp co wy th kp ka ln sn it mv : Int → Int} {rest : List va_E} (hg : ∀ j, rng (g j))  (hL : 0 ≤ g 0 ∧ g 0 ≤ 60) {E : zE} {Qr : Option Value → List va_E → Prop} {n : Nat} {p q0 k0 : Int} (C : zC G E RX8 cX8_wordOn 4 3 67) (R : zR G E (some .int) n Qr) (hq0 : 0 ≤ q0 ∧ q0 ≤ g 0) (he : ∀ z, z = bh (lt g) (g 0) 0 q0 → Qr (some (.int (iI z))) (mdL G un td ku g ah ag tp co wy th kp ka ln sn it mv ++ rest)) : V G E 27 [some (.ref (G.ad 0)), some (.int (iI p)), some (.int (iI q0)), some (.int (iI k0))] [] (mdL G un td ku g ah ag tp co wy th kp ka ln sn it mv ++ rest) := by
  refine V_loop (α := Int) (fun x => (200 - x).toNat) (fun x => 0 ≤ x ∧ x ≤ g 0 ∧ bh (lt g) (g 0) 0 x = bh (lt g) (g 0) 0 q0) (fun x => V G E 27 [some (.ref (G.ad 0)), some (.int (iI p)), some (.int (iI x)), some (.int (iI k0))] [] (mdL G un td ku g ah ag tp co wy th kp ka ln sn it mv ++ rest)) ?_ q0 ⟨by omega, by omega, rfl⟩
  rintro q ⟨g1, g2, g3⟩ ih_27
  have hq := kd_in (lt g) (g 0) q
  refine V_aload_n C dX8_wordOn_27 rfl ?_
  refine V_iload_n C dX8_wordOn_28 rfl ?_
  refine V_callV C lk_X8_74 (m_X8_classAt G hg hL (by omega)) dX8_wordOn_29 rfl rfl rfl rfl (by decide) (Nat.le_of_ble_eq_true rfl) (kO ?_)
  refine V_if_ne (tgt := 41) C dX8_wordOn_32 (by decide) (by omega) (fun c_32 => ?_) (fun c_32 => ?_)
  · skip
    refine V_iload_n C dX8_wordOn_41 rfl ?_
    exact V_iret C R dX8_wordOn_42 (he _ (by rw [← g3]; exact (bh_no (by omega)).symm))
  · skip
    refine V_iinc C dX8_wordOn_35 rfl (by decide) rfl ?_
    refine V_goto (tgt := 27) C dX8_wordOn_38 (by decide) ?_
    have hpos := kd_pos (f := lt g) (L := g 0) (p := q) (by omega)
    exact ih_27 (q + 1) ⟨by omega, by omega, by rw [← g3]; exact (bh_go (by omega) (by omega)).symm⟩ (by omega)

set_option maxRecDepth 100000 in
theorem m_X8_wordOn (G : zG) {un td ku : Int} {g ah ag tp co wy th kp ka ln sn it mv : Int → Int} {rest : List va_E} (hg : ∀ j, rng (g j))  (hL : 0 ≤ g 0 ∧ g 0 ≤ 60) {p : Int} (hp : 0 ≤ p ∧ p ≤ g 0) : zMet G yX8_wordOn cX8_wordOn 4 (some .int) 3 67 [.ref (G.ad 0), .int (iI p)] (mdL G un td ku g ah ag tp co wy th kp ka ln sn it mv ++ rest) (zO (.int (iI (wOn (lt g) (g 0) p))) (mdL G un td ku g ah ag tp co wy th kp ka ln sn it mv ++ rest)) := by
  refine zMet.of (by decide) (Nat.le_of_ble_eq_true rfl) ?_
  intro E C R
  have C : zC G E RX8 cX8_wordOn 4 3 67 := C
  show V G E 0 [some (.ref (G.ad 0)), some (.int (iI p)), none, none] [] (mdL G un td ku g ah ag tp co wy th kp ka ln sn it mv ++ rest)
  have hk := kd_in (lt g) (g 0) p
  have hb := bh_in (lt g) (g 0) (kd (lt g) (g 0) p) p
  have e0 : (if kd (lt g) (g 0) p = 0 then p else bh (lt g) (g 0) (kd (lt g) (g 0) p) p) = if kd (lt g) (g 0) p ≤ 0 then p else bh (lt g) (g 0) (kd (lt g) (g 0) p) p := by
    by_cases h : kd (lt g) (g 0) p = 0
    · rw [if_pos h, if_pos (by omega)]
    · rw [if_neg h]
      by_cases h2 : kd (lt g) (g 0) p ≤ 0
      · rw [if_pos h2, bh_no (fun q => by have := kd_at (f := lt g) hp.1 q.1; have := kc_in (lt g p); omega)]
      · rw [if_neg h2]
  refine V_iload_n C dX8_wordOn_0 rfl ?_
  refine V_istore_n C dX8_wordOn_1 (by decide) rfl ?_
  refine V_aload_n C dX8_wordOn_2 rfl ?_
  refine V_iload_n C dX8_wordOn_3 rfl ?_
  refine V_callV C lk_X8_74 (m_X8_classAt G hg hL (by omega)) dX8_wordOn_4 rfl rfl rfl rfl (by decide) (Nat.le_of_ble_eq_true rfl) (kO ?_)
  refine V_istore_n C dX8_wordOn_7 (by decide) rfl ?_
  refine V_loop (α := Int) (fun x => (200 - x).toNat) (fun x => p ≤ x ∧ x ≤ 60 ∧ x ≤ g 0 ∧ (0 < kd (lt g) (g 0) p → bh (lt g) (g 0) (kd (lt g) (g 0) p) x = bh (lt g) (g 0) (kd (lt g) (g 0) p) p) ∧ (kd (lt g) (g 0) p ≤ 0 → x = p)) (fun x => V G E 8 [some (.ref (G.ad 0)), some (.int (iI p)), some (.int (iI x)), some (.int (iI (kd (lt g) (g 0) p)))] [] (mdL G un td ku g ah ag tp co wy th kp ka ln sn it mv ++ rest)) ?_ p ⟨by omega, by omega, by omega, fun _ => rfl, fun _ => rfl⟩
  rintro q ⟨g1, g2, g3, g4, g5⟩ ih_8
  have hq := kd_in (lt g) (g 0) q
  refine V_iload_n C dX8_wordOn_8 rfl ?_
  refine V_if_le (tgt := 27) C dX8_wordOn_9 (by decide) (by omega) (fun c_9 => ?_) (fun c_9 => ?_)
  · skip
    have hq0 : q = if kd (lt g) (g 0) p = 0 then p else bh (lt g) (g 0) (kd (lt g) (g 0) p) p := by
      rw [e0]
      by_cases h : kd (lt g) (g 0) p ≤ 0
      · rw [if_pos h]; exact g5 h
      · rw [if_neg h, ← g4 (by omega)]; exact (bh_no (by omega)).symm
    clear ih_8
    exact m_X8_wordOn_b G hg hL C R (by omega) (fun z hz => zO_i (by rw [hz]; unfold wOn; rw [← hq0]))
  · skip
    refine V_aload_n C dX8_wordOn_12 rfl ?_
    refine V_iload_n C dX8_wordOn_13 rfl ?_
    refine V_callV C lk_X8_74 (m_X8_classAt G hg hL (by omega)) dX8_wordOn_14 rfl rfl rfl rfl (by decide) (Nat.le_of_ble_eq_true rfl) (kO ?_)
    refine V_iload_n C dX8_wordOn_17 rfl ?_
    refine V_icmp_ne (tgt := 27) C dX8_wordOn_18 (by decide) (by omega) (by omega) (fun c_18 => ?_) (fun c_18 => ?_)
    · skip
      have hq0 : q = if kd (lt g) (g 0) p = 0 then p else bh (lt g) (g 0) (kd (lt g) (g 0) p) p := by
        rw [e0]
        by_cases h : kd (lt g) (g 0) p ≤ 0
        · rw [if_pos h]; exact g5 h
        · rw [if_neg h, ← g4 (by omega)]; exact (bh_no (by omega)).symm
      clear ih_8
      exact m_X8_wordOn_b G hg hL C R (by omega) (fun z hz => zO_i (by rw [hz]; unfold wOn; rw [← hq0]))
    · skip
      refine V_iinc C dX8_wordOn_21 rfl (by decide) rfl ?_
      refine V_goto (tgt := 8) C dX8_wordOn_24 (by decide) ?_
      have hpos := kd_pos (f := lt g) (L := g 0) (p := q) (by omega)
      exact ih_8 (q + 1) ⟨by omega, by omega, by omega, fun h => by rw [← g4 h]; exact (bh_go (by omega) (by omega)).symm, fun h => by omega⟩ (by omega)

set_option maxRecDepth 100000 in
theorem m_X8_wordBack (G : zG) {un td ku : Int} {g ah ag tp co wy th kp ka ln sn it mv : Int → Int} {rest : List va_E} (hg : ∀ j, rng (g j))  (hL : 0 ≤ g 0 ∧ g 0 ≤ 60) {p : Int} (hp : 0 ≤ p ∧ p ≤ g 0) : zMet G yX8_wordBack cX8_wordBack 4 (some .int) 3 67 [.ref (G.ad 0), .int (iI p)] (mdL G un td ku g ah ag tp co wy th kp ka ln sn it mv ++ rest) (zO (.int (iI (wBack (lt g) (g 0) p))) (mdL G un td ku g ah ag tp co wy th kp ka ln sn it mv ++ rest)) := by
  refine zMet.of (by decide) (Nat.le_of_ble_eq_true rfl) ?_
  intro E C R
  have C : zC G E RX8 cX8_wordBack 4 3 67 := C
  show V G E 0 [some (.ref (G.ad 0)), some (.int (iI p)), none, none] [] (mdL G un td ku g ah ag tp co wy th kp ka ln sn it mv ++ rest)
  refine V_iload_n C dX8_wordBack_0 rfl ?_
  refine V_istore_n C dX8_wordBack_1 (by decide) rfl ?_
  refine V_loop (α := Int) (fun x => x.toNat) (fun x => 0 ≤ x ∧ x ≤ p ∧ bg (lt g) (g 0) 0 x = bg (lt g) (g 0) 0 p) (fun x => V G E 2 [some (.ref (G.ad 0)), some (.int (iI p)), some (.int (iI x)), none] [] (mdL G un td ku g ah ag tp co wy th kp ka ln sn it mv ++ rest)) ?_ p ⟨by omega, by omega, rfl⟩
  rintro q ⟨g1, g2, g3⟩ ih_2
  have hq := kd_in (lt g) (g 0) (q - 1)
  refine V_aload_n C dX8_wordBack_2 rfl ?_
  refine V_iload_n C dX8_wordBack_3 rfl ?_
  refine V_iconst C dX8_wordBack_4 ?_
  refine V_isub C dX8_wordBack_5 ?_
  refine V_callV C lk_X8_74 (m_X8_classAt G hg hL (by omega)) dX8_wordBack_6 rfl rfl rfl rfl (by decide) (Nat.le_of_ble_eq_true rfl) (kO ?_)
  refine V_if_ne (tgt := 18) C dX8_wordBack_9 (by decide) (by omega) (fun c_9 => ?_) (fun c_9 => ?_)
  · skip
    have hq0 : bg (lt g) (g 0) 0 p = q := by rw [← g3]; exact bg_no (by omega)
    refine V_aload_n C dX8_wordBack_18 rfl ?_
    refine V_iload_n C dX8_wordBack_19 rfl ?_
    refine V_iconst C dX8_wordBack_20 ?_
    refine V_isub C dX8_wordBack_21 ?_
    refine V_callV C lk_X8_74 (m_X8_classAt G hg hL (by omega)) dX8_wordBack_22 rfl rfl rfl rfl (by decide) (Nat.le_of_ble_eq_true rfl) (kO ?_)
    refine V_istore_n C dX8_wordBack_25 (by decide) rfl ?_
    refine V_loop (α := Int) (fun x => x.toNat) (fun x => 0 ≤ x ∧ x ≤ q ∧ bg (lt g) (g 0) (kd (lt g) (g 0) (q - 1)) x = bg (lt g) (g 0) (kd (lt g) (g 0) (q - 1)) q) (fun x => V G E 26 [some (.ref (G.ad 0)), some (.int (iI p)), some (.int (iI x)), some (.int (iI (kd (lt g) (g 0) (q - 1))))] [] (mdL G un td ku g ah ag tp co wy th kp ka ln sn it mv ++ rest)) ?_ q ⟨by omega, by omega, rfl⟩
    rintro r ⟨k1, k2, k3⟩ ih_26
    have hr := kd_in (lt g) (g 0) (r - 1)
    refine V_iload_n C dX8_wordBack_26 rfl ?_
    refine V_if_le (tgt := 47) C dX8_wordBack_27 (by decide) (by omega) (fun c_27 => ?_) (fun c_27 => ?_)
    · skip
      refine V_iload_n C dX8_wordBack_47 rfl ?_
      exact V_iret C R dX8_wordBack_48 (zO_i (by unfold wBack; rw [hq0, ← k3]; exact (bg_no (by omega)).symm))
    · skip
      refine V_aload_n C dX8_wordBack_30 rfl ?_
      refine V_iload_n C dX8_wordBack_31 rfl ?_
      refine V_iconst C dX8_wordBack_32 ?_
      refine V_isub C dX8_wordBack_33 ?_
      refine V_callV C lk_X8_74 (m_X8_classAt G hg hL (by omega)) dX8_wordBack_34 rfl rfl rfl rfl (by decide) (Nat.le_of_ble_eq_true rfl) (kO ?_)
      refine V_iload_n C dX8_wordBack_37 rfl ?_
      refine V_icmp_ne (tgt := 47) C dX8_wordBack_38 (by decide) (by omega) (by omega) (fun c_38 => ?_) (fun c_38 => ?_)
      · skip
        refine V_iload_n C dX8_wordBack_47 rfl ?_
        exact V_iret C R dX8_wordBack_48 (zO_i (by unfold wBack; rw [hq0, ← k3]; exact (bg_no (by omega)).symm))
      · skip
        refine V_iinc C dX8_wordBack_41 rfl (by decide) rfl ?_
        refine V_goto (tgt := 26) C dX8_wordBack_44 (by decide) ?_
        exact ih_26 (r + -1) ⟨by omega, by omega, by rw [← k3]; exact (bg_go (by omega) (by omega)).symm⟩ (by omega)
  · skip
    refine V_iinc C dX8_wordBack_12 rfl (by decide) rfl ?_
    refine V_goto (tgt := 2) C dX8_wordBack_15 (by decide) ?_
    have hpos := kd_pos (f := lt g) (L := g 0) (p := q - 1) (by omega)
    exact ih_2 (q + -1) ⟨by omega, by omega, by rw [← g3]; exact (bg_go (by omega) (by omega)).symm⟩ (by omega)

set_option maxRecDepth 100000 in
theorem m_X8_wordEnd (G : zG) {un td ku : Int} {g ah ag tp co wy th kp ka ln sn it mv : Int → Int} {rest : List va_E} (hg : ∀ j, rng (g j))  (hL : 0 ≤ g 0 ∧ g 0 ≤ 60) {p : Int} (hp : 0 ≤ p ∧ p ≤ g 0) : zMet G yX8_wordEnd cX8_wordEnd 4 (some .int) 3 67 [.ref (G.ad 0), .int (iI p)] (mdL G un td ku g ah ag tp co wy th kp ka ln sn it mv ++ rest) (zO (.int (iI (wEnd (lt g) (g 0) p))) (mdL G un td ku g ah ag tp co wy th kp ka ln sn it mv ++ rest)) := by
  refine zMet.of (by decide) (Nat.le_of_ble_eq_true rfl) ?_
  intro E C R
  have C : zC G E RX8 cX8_wordEnd 4 3 67 := C
  show V G E 0 [some (.ref (G.ad 0)), some (.int (iI p)), none, none] [] (mdL G un td ku g ah ag tp co wy th kp ka ln sn it mv ++ rest)
  refine V_iload_n C dX8_wordEnd_0 rfl ?_
  refine V_iconst C dX8_wordEnd_1 ?_
  refine V_iadd C dX8_wordEnd_2 ?_
  refine V_istore_n C dX8_wordEnd_3 (by decide) rfl ?_
  refine V_loop (α := Int) (fun x => (200 - x).toNat) (fun x => p + 1 ≤ x ∧ x ≤ 61 ∧ bh (lt g) (g 0) 0 x = bh (lt g) (g 0) 0 (p + 1)) (fun x => V G E 4 [some (.ref (G.ad 0)), some (.int (iI p)), some (.int (iI x)), none] [] (mdL G un td ku g ah ag tp co wy th kp ka ln sn it mv ++ rest)) ?_ (p + 1) ⟨by omega, by omega, rfl⟩
  rintro q ⟨g1, g2, g3⟩ ih_4
  have hq := kd_in (lt g) (g 0) q
  refine V_aload_n C dX8_wordEnd_4 rfl ?_
  refine V_iload_n C dX8_wordEnd_5 rfl ?_
  refine V_callV C lk_X8_74 (m_X8_classAt G hg hL (by omega)) dX8_wordEnd_6 rfl rfl rfl rfl (by decide) (Nat.le_of_ble_eq_true rfl) (kO ?_)
  refine V_if_ne (tgt := 18) C dX8_wordEnd_9 (by decide) (by omega) (fun c_9 => ?_) (fun c_9 => ?_)
  · skip
    have hq0 : bh (lt g) (g 0) 0 (p + 1) = q := by rw [← g3]; exact bh_no (by omega)
    refine V_iload_n C dX8_wordEnd_18 rfl ?_
    refine V_aload_n C dX8_wordEnd_19 rfl ?_
    refine vg_X8_7 C dX8_wordEnd_20 rfl rfl ?_
    refine V_iconst C dX8_wordEnd_23 ?_
    refine V_iald C dX8_wordEnd_24 rfl (by omega) (by omega) (by decide) (by first | with_reducible assumption | assumption) (fun r_24 => ?_)
    refine V_icmp_lt (tgt := 33) C dX8_wordEnd_25 (by decide) (by omega) (by omega) (fun c_25 => ?_) (fun c_25 => ?_)
    · skip
      refine V_aload_n C dX8_wordEnd_33 rfl ?_
      refine V_iload_n C dX8_wordEnd_34 rfl ?_
      refine V_callV C lk_X8_74 (m_X8_classAt G hg hL (by omega)) dX8_wordEnd_35 rfl rfl rfl rfl (by decide) (Nat.le_of_ble_eq_true rfl) (kO ?_)
      refine V_istore_n C dX8_wordEnd_38 (by decide) rfl ?_
      refine V_loop (α := Int) (fun x => (200 - x).toNat) (fun x => q ≤ x ∧ x < g 0 ∧ kd (lt g) (g 0) x = kd (lt g) (g 0) q ∧ bh (lt g) (g 0) (kd (lt g) (g 0) q) x = bh (lt g) (g 0) (kd (lt g) (g 0) q) q) (fun x => V G E 39 [some (.ref (G.ad 0)), some (.int (iI p)), some (.int (iI x)), some (.int (iI (kd (lt g) (g 0) q)))] [] (mdL G un td ku g ah ag tp co wy th kp ka ln sn it mv ++ rest)) ?_ q ⟨by omega, by omega, rfl, rfl⟩
      rintro r ⟨k1, k2, k3, k4⟩ ih_39
      have hr := kd_in (lt g) (g 0) (r + 1)
      have hqq := kd_at (f := lt g) (L := g 0) (p := q) (by omega) (by omega)
      have hkc := kc_in (lt g q)
      refine V_aload_n C dX8_wordEnd_39 rfl ?_
      refine V_iload_n C dX8_wordEnd_40 rfl ?_
      refine V_iconst C dX8_wordEnd_41 ?_
      refine V_iadd C dX8_wordEnd_42 ?_
      refine V_callV C lk_X8_74 (m_X8_classAt G hg hL (by omega)) dX8_wordEnd_43 rfl rfl rfl rfl (by decide) (Nat.le_of_ble_eq_true rfl) (kO ?_)
      refine V_iload_n C dX8_wordEnd_46 rfl ?_
      refine V_icmp_ne (tgt := 56) C dX8_wordEnd_47 (by decide) (by omega) (by omega) (fun c_47 => ?_) (fun c_47 => ?_)
      · skip
        refine V_iload_n C dX8_wordEnd_56 rfl ?_
        exact V_iret C R dX8_wordEnd_57 (zO_i (by unfold wEnd; rw [hq0, if_pos (by omega), ← k4, bh_go (by omega) (by omega), bh_no (by omega)]; omega))
      · skip
        refine V_iinc C dX8_wordEnd_50 rfl (by decide) rfl ?_
        refine V_goto (tgt := 39) C dX8_wordEnd_53 (by decide) ?_
        have hpos := kd_pos (f := lt g) (L := g 0) (p := r + 1) (by omega)
        exact ih_39 (r + 1) ⟨by omega, by omega, by omega, by rw [← k4]; exact (bh_go (by omega) (by omega)).symm⟩ (by omega)
    · skip
      refine V_aload_n C dX8_wordEnd_28 rfl ?_
      refine V_callV C lk_X8_77 (m_X8_last G hg hL) dX8_wordEnd_29 rfl rfl rfl rfl (by decide) (Nat.le_of_ble_eq_true rfl) (kO ?_)
      exact V_iret C R dX8_wordEnd_32 (zO_i (by unfold wEnd; rw [hq0, if_neg (by omega)]))
  · skip
    refine V_iinc C dX8_wordEnd_12 rfl (by decide) rfl ?_
    refine V_goto (tgt := 4) C dX8_wordEnd_15 (by decide) ?_
    have hpos := kd_pos (f := lt g) (L := g 0) (p := q) (by omega)
    exact ih_4 (q + 1) ⟨by omega, by omega, by rw [← g3]; exact (bh_go (by omega) (by omega)).symm⟩ (by omega)

set_option maxRecDepth 100000 in
theorem m_X8_leadsTo (G : zG) {un td ku : Int} {g ah ag tp co wy th kp ka ln sn it mv : Int → Int} {rest : List va_E} (hg : ∀ j, rng (g j))  (hL : 0 ≤ g 0 ∧ g 0 ≤ 60) {m p : Int} (hm : 0 ≤ m ∧ m ≤ 6) (hp : 0 ≤ p ∧ p ≤ g 0) : zMet G yX8_leadsTo cX8_leadsTo 3 (some .int) 4 90 [.ref (G.ad 0), .int (iI m), .int (iI p)] (mdL G un td ku g ah ag tp co wy th kp ka ln sn it mv ++ rest) (zO (.int (iI (ld (lt g) (g 0) m p))) (mdL G un td ku g ah ag tp co wy th kp ka ln sn it mv ++ rest)) := by
  refine zMet.of (by decide) (Nat.le_of_ble_eq_true rfl) ?_
  intro E C R
  have C : zC G E RX8 cX8_leadsTo 3 4 90 := C
  show V G E 0 [some (.ref (G.ad 0)), some (.int (iI m)), some (.int (iI p))] [] (mdL G un td ku g ah ag tp co wy th kp ka ln sn it mv ++ rest)
  refine V_iload_n C dX8_leadsTo_0 rfl ?_
  by_cases w_1_0 : m = 0
  · skip
    refine V_tableIn (tgt := 40) (off := 39) C dX8_leadsTo_1 (by omega) (by omega) (by omega) (by rw [w_1_0]; rfl) (by decide) ?_
    refine V_iload_n C dX8_leadsTo_40 rfl ?_
    refine V_if_ne (tgt := 48) C dX8_leadsTo_41 (by decide) (by omega) (fun c_41 => ?_) (fun c_41 => ?_)
    · skip
      refine V_iload_n C dX8_leadsTo_48 rfl ?_
      refine V_iconst C dX8_leadsTo_49 ?_
      refine V_isub C dX8_leadsTo_50 ?_
      exact V_iret C R dX8_leadsTo_51 (zO_i (by unfold ld; rw [if_pos (by omega)]; omega))
    · skip
      refine V_iconst C dX8_leadsTo_44 ?_
      refine V_goto (tgt := 51) C dX8_leadsTo_45 (by decide) ?_
      exact V_iret C R dX8_leadsTo_51 (zO_i (by unfold ld; rw [if_pos (by omega)]; omega))
  by_cases w_1_1 : m = 1
  · skip
    refine V_tableIn (tgt := 52) (off := 51) C dX8_leadsTo_1 (by omega) (by omega) (by omega) (by rw [w_1_1]; rfl) (by decide) ?_
    refine V_iload_n C dX8_leadsTo_52 rfl ?_
    refine V_aload_n C dX8_leadsTo_53 rfl ?_
    refine vg_X8_7 C dX8_leadsTo_54 rfl rfl ?_
    refine V_iconst C dX8_leadsTo_57 ?_
    refine V_iald C dX8_leadsTo_58 rfl (by omega) (by omega) (by decide) (by first | with_reducible assumption | assumption) (fun r_58 => ?_)
    refine V_icmp_ne (tgt := 66) C dX8_leadsTo_59 (by decide) (by omega) (by omega) (fun c_59 => ?_) (fun c_59 => ?_)
    · skip
      refine V_iload_n C dX8_leadsTo_66 rfl ?_
      refine V_iconst C dX8_leadsTo_67 ?_
      refine V_iadd C dX8_leadsTo_68 ?_
      exact V_iret C R dX8_leadsTo_69 (zO_i (by unfold ld; rw [if_neg (by omega), if_pos (by omega)]; omega))
    · skip
      refine V_iload_n C dX8_leadsTo_62 rfl ?_
      refine V_goto (tgt := 69) C dX8_leadsTo_63 (by decide) ?_
      exact V_iret C R dX8_leadsTo_69 (zO_i (by unfold ld; rw [if_neg (by omega), if_pos (by omega)]; omega))
  by_cases w_1_2 : m = 2
  · skip
    refine V_tableIn (tgt := 70) (off := 69) C dX8_leadsTo_1 (by omega) (by omega) (by omega) (by rw [w_1_2]; rfl) (by decide) ?_
    refine V_iconst C dX8_leadsTo_70 ?_
    exact V_iret C R dX8_leadsTo_71 (zO_i (by simp [ld, w_1_2]))
  by_cases w_1_3 : m = 3
  · skip
    refine V_tableIn (tgt := 72) (off := 71) C dX8_leadsTo_1 (by omega) (by omega) (by omega) (by rw [w_1_3]; rfl) (by decide) ?_
    refine V_aload_n C dX8_leadsTo_72 rfl ?_
    refine V_callV C lk_X8_77 (m_X8_last G hg hL) dX8_leadsTo_73 rfl rfl rfl rfl (by decide) (Nat.le_of_ble_eq_true rfl) (kO ?_)
    exact V_iret C R dX8_leadsTo_76 (zO_i (by simp [ld, w_1_3]))
  by_cases w_1_4 : m = 4
  · skip
    refine V_tableIn (tgt := 77) (off := 76) C dX8_leadsTo_1 (by omega) (by omega) (by omega) (by rw [w_1_4]; rfl) (by decide) ?_
    refine V_aload_n C dX8_leadsTo_77 rfl ?_
    refine V_iload_n C dX8_leadsTo_78 rfl ?_
    refine V_callV C lk_X8_81 (m_X8_wordOn G hg hL hp) dX8_leadsTo_79 rfl rfl rfl rfl (by decide) (Nat.le_of_ble_eq_true rfl) (kO ?_)
    exact V_iret C R dX8_leadsTo_82 (zO_i (by simp [ld, w_1_4]))
  by_cases w_1_5 : m = 5
  · skip
    refine V_tableIn (tgt := 83) (off := 82) C dX8_leadsTo_1 (by omega) (by omega) (by omega) (by rw [w_1_5]; rfl) (by decide) ?_
    refine V_aload_n C dX8_leadsTo_83 rfl ?_
    refine V_iload_n C dX8_leadsTo_84 rfl ?_
    refine V_callV C lk_X8_84 (m_X8_wordBack G hg hL hp) dX8_leadsTo_85 rfl rfl rfl rfl (by decide) (Nat.le_of_ble_eq_true rfl) (kO ?_)
    exact V_iret C R dX8_leadsTo_88 (zO_i (by simp [ld, w_1_5]))
  refine V_tableOut (tgt := 89) C dX8_leadsTo_1 (by omega) (by omega) (by decide) ?_
  refine V_aload_n C dX8_leadsTo_89 rfl ?_
  refine V_iload_n C dX8_leadsTo_90 rfl ?_
  refine V_callV C lk_X8_87 (m_X8_wordEnd G hg hL hp) dX8_leadsTo_91 rfl rfl rfl rfl (by decide) (Nat.le_of_ble_eq_true rfl) (kO ?_)
  exact V_iret C R dX8_leadsTo_94 (zO_i (by unfold ld; rw [if_neg (by omega), if_neg (by omega), if_neg (by omega), if_neg (by omega), if_neg (by omega), if_neg (by omega)]))
