def rfM (g : Int → Int) : Int → Int := fun m => g (256 + m)
theorem lnd_0 {g : Int → Int} {p : Int} (hL : 0 ≤ g 0 ∧ g 0 ≤ 60) (h : 1 ≤ p ∧ p ≤ la (g 0)) : lnd g 0 p = p - 1 := by
  have := la_59 hL
  unfold lnd ld; rw [if_pos rfl]; omega
theorem lnd_1 {g : Int → Int} {p : Int} (hL : 0 ≤ g 0 ∧ g 0 ≤ 60) (h : 0 ≤ p ∧ p < la (g 0)) : lnd g 1 p = p + 1 := by
  have := la_59 hL
  have := la_in hL.1
  unfold lnd ld; rw [if_neg (by omega), if_pos rfl]; omega
theorem isD_le {g c : Int → Int} {t : Int} (hD : isD g t c) (hL : 0 ≤ g 0 ∧ g 0 ≤ 60) (hpr : ∀ m, 0 ≤ m → m ≤ 6 → 1 ≤ g (256 + m) ∧ g (256 + m) ≤ 9) (ht : 0 ≤ t ∧ t ≤ la (g 0)) : ∀ (k : Nat) (p : Int), 0 ≤ p → p ≤ la (g 0) → (p - t).natAbs ≤ k → c p ≤ 9 * k
  | 0, p, h0, h1, h2 => by
    have e : p = t := by omega
    rw [e, hD.1.2.2.1]; omega
  | k + 1, p, h0, h1, h2 => by
    rcases (show p = t ∨ t < p ∨ p < t by omega) with e | e | e
    · rw [e, hD.1.2.2.1]; omega
    · have h := hD.2 p 0 h0 (by omega) (by omega) (Or.inl (by omega))
      rw [lnd_0 hL (by omega)] at h
      have h3 := isD_le hD hL hpr ht k (p - 1) (by omega) (by omega) (by omega)
      have h4 := hpr 0 (by omega) (by omega)
      omega
    · have h := hD.2 p 1 h0 (by omega) (by omega) (Or.inl (by omega))
      rw [lnd_1 hL (by omega)] at h
      have h3 := isD_le hD hL hpr ht k (p + 1) (by omega) (by omega) (by omega)
      have h4 := hpr 1 (by omega) (by omega)
      omega
theorem isD_b {g c : Int → Int} {t : Int} (hD : isD g t c) (hL : 0 ≤ g 0 ∧ g 0 ≤ 60) (hpr : ∀ m, 0 ≤ m → m ≤ 6 → 1 ≤ g (256 + m) ∧ g (256 + m) ≤ 9) (ht : 0 ≤ t ∧ t ≤ la (g 0)) {p : Int} (hp : 0 ≤ p ∧ p ≤ la (g 0)) : 0 ≤ c p ∧ c p ≤ 540 := by
  have := la_59 hL
  have h := isD_le hD hL hpr ht 60 p hp.1 hp.2 (by omega)
  have h2 := hD.1.2.1 p hp.1 (by omega)
  omega
theorem isD_m {g c : Int → Int} {t : Int} (hD : isD g t c) (hL : 0 ≤ g 0 ∧ g 0 ≤ 60) (hpr : ∀ m, 0 ≤ m → m ≤ 6 → 1 ≤ g (256 + m) ∧ g (256 + m) ≤ 9) (ht : 0 ≤ t ∧ t ≤ la (g 0)) {p : Int} (hp : 0 ≤ p ∧ p ≤ la (g 0)) (hne : p ≠ t) : ∃ m, 0 ≤ m ∧ m ≤ 6 ∧ c p = g (256 + m) + c (lnd g m p) := by
  have hb := isD_b hD hL hpr ht hp
  rcases hD.1.2.2.2 p hp.1 hp.2 hne with h | ⟨m, h1, h2, h3⟩
  · omega
  · exact ⟨m, h1, h2, by have := hD.2 p m hp.1 h1 h2 (Or.inl (by omega)); omega⟩

set_option maxRecDepth 100000 in
theorem m_X8_steps (G : zG) {un td ku : Int} {g ah ag tp co wy th kp ka ln sn it mv : Int → Int} {rest : List va_E} (hg : ∀ j, rng (g j))  (hL : 0 ≤ g 0 ∧ g 0 ≤ 60) (hpr : ∀ m, 0 ≤ m → m ≤ 6 → 1 ≤ g (256 + m) ∧ g (256 + m) ≤ 9) (hco : ∀ j, rng (co j)) (hc : 0 ≤ g 61 ∧ g 61 ≤ g 0) {t k : Int} (ht : rng t) (hk : rng k) : zMet G yX8_steps cX8_steps 6 (some .int) 7 159 [.ref (G.ad 0), .int (iI t), .int (iI k)] (mdL G un td ku g ah ag tp co wy th kp ka ln sn it mv ++ rest) (fun r cs2 => ∃ z, r = some (.int (iI z)) ∧ ((¬ ((0 ≤ t ∧ t ≤ la (g 0)) ∧ -2 ≤ k) → z = -1 ∧ cs2 = (mdL G un td ku g ah ag tp co wy th kp ka ln sn it mv ++ rest)) ∧ ((0 ≤ t ∧ t ≤ la (g 0)) ∧ -2 ≤ k → ∃ c, isD g t c ∧ cs2 = (mdL G un td ku g ah ag tp (c) wy th kp ka ln sn it mv ++ rest) ∧ z = if k = -2 then c (stt g) else stN (lnd g) c (rfM g) 1000 t k 1000 (stt g) 0))) := by
  refine zMet.of (by decide) (Nat.le_of_ble_eq_true rfl) ?_
  intro E C R
  have C : zC G E RX8 cX8_steps 6 7 159 := C
  show V G E 0 [some (.ref (G.ad 0)), some (.int (iI t)), some (.int (iI k)), none, none, none] [] (mdL G un td ku g ah ag tp co wy th kp ka ln sn it mv ++ rest)
  have hla := la_59 hL
  have hst := stt_in hL hc
  refine V_aload_n C dX8_steps_0 rfl ?_
  refine V_iload_n C dX8_steps_1 rfl ?_
  refine V_callV C lk_X8_226 (m_X8_isPlace G hg hL ht) dX8_steps_2 rfl rfl rfl rfl (by decide) (Nat.le_of_ble_eq_true rfl) (kO ?_)
  refine V_if_eqB (tgt := 14) C dX8_steps_5 (by decide) (fun c_5 => ?_) (fun c_5 => ?_)
  · skip
    refine V_iconst C dX8_steps_14 ?_
    exact V_iret C R dX8_steps_15 ⟨-1, rfl, fun _ => ⟨rfl, rfl⟩, fun h => absurd h (by omega)⟩
  · skip
    refine V_iload_n C dX8_steps_8 rfl ?_
    refine V_bipush C dX8_steps_9 (by decide) ?_
    refine V_icmp_ge (tgt := 16) C dX8_steps_11 (by decide) (by omega) (by omega) (fun c_11 => ?_) (fun c_11 => ?_)
    · skip
      refine V_aload_n C dX8_steps_16 rfl ?_
      refine V_iload_n C dX8_steps_17 rfl ?_
      refine V_callV C lk_X8_229 (m_X8_costsTo G hg hL hpr hco (by omega)) dX8_steps_18 rfl rfl rfl rfl (by decide) (Nat.le_of_ble_eq_true rfl) (kQ0 (fun cs3 h3 => ?_))
      obtain ⟨c, hD, h3⟩ := h3
      subst h3
      have hcr := hD.1.1
      have hT : (0 ≤ t ∧ t ≤ la (g 0)) := by omega
      have hcb : ∀ p, 0 ≤ p → p ≤ la (g 0) → 0 ≤ c p ∧ c p ≤ 540 := fun p h1 h2 => isD_b hD hL hpr hT ⟨h1, h2⟩
      have hcs := hcb (stt g) (by omega) (by omega)
      refine V_aload_n C dX8_steps_21 rfl ?_
      refine V_callV C lk_X8_232 (m_X8_start G hg hL) dX8_steps_22 rfl rfl rfl rfl (by decide) (Nat.le_of_ble_eq_true rfl) (kO ?_)
      refine V_istore_n C dX8_steps_25 (by decide) rfl ?_
      refine V_iload_n C dX8_steps_26 rfl ?_
      refine V_bipush C dX8_steps_27 (by decide) ?_
      refine V_icmp_ne (tgt := 39) C dX8_steps_29 (by decide) (by omega) (by omega) (fun c_29 => ?_) (fun c_29 => ?_)
      · skip
        refine V_iconst C dX8_steps_39 ?_
        refine V_istore C dX8_steps_40 (by decide) rfl ?_
        refine V_loop (α := Int × Int) (fun x => (1000 - x.2).toNat) (fun x => 0 ≤ x.1 ∧ x.1 ≤ la (g 0) ∧ 0 ≤ x.2 ∧ x.2 + c x.1 ≤ 540 ∧ stN (lnd g) c (rfM g) 1000 t k (1000 - x.2).toNat x.1 x.2 = stN (lnd g) c (rfM g) 1000 t k 1000 (stt g) 0) (fun x => V G E 42 [some (.ref (G.ad 0)), some (.int (iI t)), some (.int (iI k)), some (.int (iI x.1)), some (.int (iI x.2)), none] [] (mdL G un td ku g ah ag tp (c) wy th kp ka ln sn it mv ++ rest)) ?_ (stt g, 0) ⟨by dsimp only; omega, by dsimp only; omega, by dsimp only; omega, by dsimp only; omega, rfl⟩
        rintro ⟨s, a⟩ ⟨g1, g2, g3, g4, g5⟩ ih_42
        dsimp only at *
        have hcS := hcb s g1 g2
        refine V_iload_n C dX8_steps_42 rfl ?_
        refine V_iload_n C dX8_steps_43 rfl ?_
        refine V_icmp_eq (tgt := 112) C dX8_steps_44 (by decide) (by omega) (by omega) (fun c_44 => ?_) (fun c_44 => ?_)
        · skip
          refine V_iload_n C dX8_steps_112 rfl ?_
          refine V_iconst C dX8_steps_113 ?_
          refine V_icmp_ne (tgt := 122) C dX8_steps_114 (by decide) (by omega) (by omega) (fun c_114 => ?_) (fun c_114 => ?_)
          · skip
            refine V_bipush C dX8_steps_122 (by decide) ?_
            exact V_iret C R dX8_steps_124 ⟨_, rfl, fun h => absurd (by omega) h, fun _ => ⟨c, hD, rfl, by rw [if_neg (by omega), ← g5, stN_no (by omega)]; first | rw [if_pos (by omega)] | rw [if_neg (by omega)]⟩⟩
          · skip
            refine V_iload C dX8_steps_117 rfl ?_
            refine V_goto (tgt := 124) C dX8_steps_119 (by decide) ?_
            exact V_iret C R dX8_steps_124 ⟨_, rfl, fun h => absurd (by omega) h, fun _ => ⟨c, hD, rfl, by rw [if_neg (by omega), ← g5, stN_no (by omega)]; first | rw [if_pos (by omega)] | rw [if_neg (by omega)]⟩⟩
        · skip
          refine V_iconst C dX8_steps_47 ?_
          refine V_istore C dX8_steps_48 (by decide) rfl ?_
          obtain ⟨m0, e1, e2, e3⟩ := isD_m hD hL hpr hT ⟨g1, g2⟩ c_44
          refine V_loop (α := Int) (fun x => (7 - x).toNat) (fun x => 0 ≤ x ∧ x ≤ m0 ∧ foN (lnd g) c (rfM g) s (7 - x).toNat x = foN (lnd g) c (rfM g) s 7 0) (fun x => V G E 50 [some (.ref (G.ad 0)), some (.int (iI t)), some (.int (iI k)), some (.int (iI s)), some (.int (iI a)), some (.int (iI x))] [] (mdL G un td ku g ah ag tp (c) wy th kp ka ln sn it mv ++ rest)) ?_ 0 ⟨by omega, by omega, rfl⟩
          rintro m ⟨k1, k2, k3⟩ ih_50
          have hlm := lnd_in (g := g) (m := m) (p := s) hL (by omega)
          have hcl := hcb (lnd g m s) (by omega) (by omega)
          have hpm := hpr m (by omega) (by omega)
          refine V_aload_n C dX8_steps_50 rfl ?_
          refine vg_X8_7 C dX8_steps_51 rfl rfl ?_
          refine V_sipush C dX8_steps_54 (by decide) ?_
          refine V_iload C dX8_steps_57 rfl ?_
          refine V_iadd C dX8_steps_59 ?_
          refine V_iald C dX8_steps_60 rfl (by omega) (by omega) (by decide) (by repeat' (first | with_reducible assumption | refine zup_rng ?_ (by first | omega | exact hg _) | refine zcp_rng ?_ ?_ | refine ovr_rng ?_ (by omega) | refine zcp_rngL ?_ ?_ | refine zup_rngL ?_ (by omega))) (fun r_60 => ?_)
          refine V_aload_n C dX8_steps_61 rfl ?_
          refine vg_X8_22 C dX8_steps_62 rfl rfl ?_
          refine V_aload_n C dX8_steps_65 rfl ?_
          refine V_iload C dX8_steps_66 rfl ?_
          refine V_iload_n C dX8_steps_68 rfl ?_
          refine V_callV C lk_X8_223 (m_X8_lands G hg hL (by omega) (by omega)) dX8_steps_69 rfl rfl rfl rfl (by decide) (Nat.le_of_ble_eq_true rfl) (kO ?_)
          refine V_iald C dX8_steps_72 rfl (by omega) (by omega) (by decide) (by repeat' (first | with_reducible assumption | refine zup_rng ?_ (by first | omega | exact hg _) | refine zcp_rng ?_ ?_ | refine ovr_rng ?_ (by omega) | refine zcp_rngL ?_ ?_ | refine zup_rngL ?_ (by omega))) (fun r_72 => ?_)
          refine V_iadd C dX8_steps_73 ?_
          refine V_aload_n C dX8_steps_74 rfl ?_
          refine vg_X8_22 C dX8_steps_75 rfl rfl ?_
          refine V_iload_n C dX8_steps_78 rfl ?_
          refine V_iald C dX8_steps_79 rfl (by omega) (by omega) (by decide) (by repeat' (first | with_reducible assumption | refine zup_rng ?_ (by first | omega | exact hg _) | refine zcp_rng ?_ ?_ | refine ovr_rng ?_ (by omega) | refine zcp_rngL ?_ ?_ | refine zup_rngL ?_ (by omega))) (fun r_79 => ?_)
          refine V_icmp_eq (tgt := 89) C dX8_steps_80 (by decide) (by omega) (by omega) (fun c_80 => ?_) (fun c_80 => ?_)
          · skip
            have hF : foN (lnd g) c (rfM g) s 7 0 = m := by
              rw [← k3]; exact foN_no (fun h => h.2 (show c (lnd g m s) + g (256 + m) = c s by omega))
            clear ih_50
            refine V_iload C dX8_steps_89 rfl ?_
            refine V_iload_n C dX8_steps_91 rfl ?_
            refine V_icmp_ne (tgt := 98) C dX8_steps_92 (by decide) (by omega) (by omega) (fun c_92 => ?_) (fun c_92 => ?_)
            · skip
              refine V_aload_n C dX8_steps_98 rfl ?_
              refine V_iload C dX8_steps_99 rfl ?_
              refine V_iload_n C dX8_steps_101 rfl ?_
              refine V_callV C lk_X8_223 (m_X8_lands G hg hL (by omega) (by omega)) dX8_steps_102 rfl rfl rfl rfl (by decide) (Nat.le_of_ble_eq_true rfl) (kO ?_)
              refine V_istore_n C dX8_steps_105 (by decide) rfl ?_
              refine V_iinc C dX8_steps_106 rfl (by decide) rfl ?_
              refine V_goto (tgt := 42) C dX8_steps_109 (by decide) ?_
              refine V_drop 5 ?_
              refine ih_42 (lnd g m s, a + 1) ⟨by dsimp only; omega, by dsimp only; omega, by dsimp only; omega, by dsimp only; omega, ?_⟩ (by dsimp only; omega)
              dsimp only
              rw [← g5, show (1000 - a).toNat = (1000 - (a + 1)).toNat + 1 by omega, stN_go (by omega) (by omega) (by omega), hF]
            · skip
              refine V_iload C dX8_steps_95 rfl ?_
              exact V_iret C R dX8_steps_97 ⟨_, rfl, fun h => absurd (by omega) h, fun _ => ⟨c, hD, rfl, by rw [if_neg (by omega), ← g5, show (1000 - a).toNat = (1000 - (a + 1)).toNat + 1 by omega, stN_at (by omega) (by omega) (by omega), hF]⟩⟩
          · skip
            refine V_iinc C dX8_steps_83 rfl (by decide) rfl ?_
            refine V_goto (tgt := 50) C dX8_steps_86 (by decide) ?_
            have hne : m ≠ m0 := fun h => by rw [← h] at e3; omega
            exact ih_50 (m + 1) ⟨by omega, by omega, by rw [← k3, show (7 - m).toNat = (7 - (m + 1)).toNat + 1 by omega, foN_go (by omega) (show c (lnd g m s) + g (256 + m) ≠ c s by omega)]⟩ (by omega)
      · skip
        refine V_aload_n C dX8_steps_32 rfl ?_
        refine vg_X8_22 C dX8_steps_33 rfl rfl ?_
        refine V_iload_n C dX8_steps_36 rfl ?_
        refine V_iald C dX8_steps_37 rfl (by omega) (by omega) (by decide) (by repeat' (first | with_reducible assumption | refine zup_rng ?_ (by first | omega | exact hg _) | refine zcp_rng ?_ ?_ | refine ovr_rng ?_ (by omega) | refine zcp_rngL ?_ ?_ | refine zup_rngL ?_ (by omega))) (fun r_37 => ?_)
        exact V_iret C R dX8_steps_38 ⟨_, rfl, fun h => absurd (by omega) h, fun _ => ⟨c, hD, rfl, by rw [if_pos (by omega)]⟩⟩
    · skip
      refine V_iconst C dX8_steps_14 ?_
      exact V_iret C R dX8_steps_15 ⟨-1, rfl, fun _ => ⟨rfl, rfl⟩, fun h => absurd h (by omega)⟩
