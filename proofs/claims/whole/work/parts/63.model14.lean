/-- the dearest place among the first k, as the reference finds it: its cost, and the place -/
def fbM (D : Int → Int) : Nat → Int × Int
  | 0 => (-1, 0)
  | k + 1 => if D k > (fbM D k).1 then (D k, (k : Int)) else fbM D k
theorem fbM_cg {D D2 : Int → Int} : ∀ k : Nat, (∀ j : Nat, j < k → D j = D2 j) → fbM D k = fbM D2 k
  | 0, _ => rfl
  | k + 1, h => by rw [fbM, fbM, fbM_cg k (fun j hj => h j (by omega)), h k (by omega)]
theorem fbM_up {D : Int → Int} {r : Nat} {v : Int} : fbM (zup D r v) (r + 1) = if v > (fbM D r).1 then (v, (r : Int)) else fbM D r := by
  rw [fbM, zup_s, fbM_cg (D := zup D r v) (D2 := D) r (fun j hj => zup_n (by omega))]

set_option maxRecDepth 100000 in
theorem m_X8_farthest (G : zG) {un td ku : Int} {g ah ag tp co wy th kp ka ln sn it mv : Int → Int} {rest : List va_E} (hg : ∀ j, rng (g j))  (hL : 0 ≤ g 0 ∧ g 0 ≤ 60) (hpr : ∀ m, 0 ≤ m → m ≤ 6 → 1 ≤ g (256 + m) ∧ g (256 + m) ≤ 9) (hco : ∀ j, rng (co j)) (hc : 0 ≤ g 61 ∧ g 61 ≤ g 0) {w : Int} (hw : rng w) : zMet G yX8_farthest cX8_farthest 6 (some .int) 7 159 [.ref (G.ad 0), .int (iI w)] (mdL G un td ku g ah ag tp co wy th kp ka ln sn it mv ++ rest) (fun r cs2 => ∃ z, r = some (.int (iI z)) ∧ ((¬ (0 ≤ w ∧ w ≤ 1) → z = -1 ∧ cs2 = (mdL G un td ku g ah ag tp co wy th kp ka ln sn it mv ++ rest)) ∧ (0 ≤ w ∧ w ≤ 1 → ∃ D co2, (∀ p, 0 ≤ p → p ≤ la (g 0) → ∃ c, isD g p c ∧ D p = c (stt g)) ∧ (∀ j, rng (co2 j)) ∧ cs2 = (mdL G un td ku g ah ag tp (co2) wy th kp ka ln sn it mv ++ rest) ∧ z = if w = 0 then (fbM D (la (g 0) + 1).toNat).1 else (fbM D (la (g 0) + 1).toNat).2))) := by
  refine zMet.of (by decide) (Nat.le_of_ble_eq_true rfl) ?_
  intro E C R
  have C : zC G E RX8 cX8_farthest 6 7 159 := C
  show V G E 0 [some (.ref (G.ad 0)), some (.int (iI w)), none, none, none, none] [] (mdL G un td ku g ah ag tp co wy th kp ka ln sn it mv ++ rest)
  have hla := la_59 hL
  have hst := stt_in hL hc
  refine V_iload_n C dX8_farthest_0 rfl ?_
  refine V_i2l C dX8_farthest_1 (by omega) ?_
  refine V_lconst (z := 0) C dX8_farthest_2 rfl ?_
  refine V_lconst (z := 1) C dX8_farthest_3 rfl ?_
  refine V_callS C lk_X8_58 (m_X8_in G (by omega) (by omega) (by omega)) dX8_farthest_4 rfl rfl (by decide) (Nat.le_of_ble_eq_true rfl) (kO ?_)
  refine V_if_neB (tgt := 12) C dX8_farthest_7 (by decide) (fun c_7 => ?_) (fun c_7 => ?_)
  · skip
    refine V_iconst C dX8_farthest_12 ?_
    refine V_istore_n C dX8_farthest_13 (by decide) rfl ?_
    refine V_iconst C dX8_farthest_14 ?_
    refine V_istore_n C dX8_farthest_15 (by decide) rfl ?_
    refine V_aload_n C dX8_farthest_16 rfl ?_
    refine V_callV C lk_X8_232 (m_X8_start G hg hL) dX8_farthest_17 rfl rfl rfl rfl (by decide) (Nat.le_of_ble_eq_true rfl) (kO ?_)
    refine V_istore C dX8_farthest_20 (by decide) rfl ?_
    refine V_iconst C dX8_farthest_22 ?_
    refine V_istore C dX8_farthest_23 (by decide) rfl ?_
    refine V_loop (α := Nat × (Int → Int) × (Int → Int)) (fun x => 200 - x.1) (fun x => (x.1 : Int) ≤ la (g 0) + 1 ∧ (∀ j, rng (x.2.2 j)) ∧ (∀ p : Int, 0 ≤ p → p < x.1 → ∃ c, isD g p c ∧ x.2.1 p = c (stt g)) ∧ -1 ≤ (fbM x.2.1 x.1).1 ∧ (fbM x.2.1 x.1).1 ≤ 540 ∧ 0 ≤ (fbM x.2.1 x.1).2 ∧ (fbM x.2.1 x.1).2 ≤ 60) (fun x => V G E 25 [some (.ref (G.ad 0)), some (.int (iI w)), some (.int (iI (fbM x.2.1 x.1).1)), some (.int (iI (fbM x.2.1 x.1).2)), some (.int (iI (stt g))), some (.int (iI (x.1 : Int)))] [] (mdL G un td ku g ah ag tp (x.2.2) wy th kp ka ln sn it mv ++ rest)) ?_ (0, (fun _ => 0), co) ⟨by dsimp only; omega, hco, fun p h1 h2 => by dsimp only at h2; omega, by show (-1 : Int) ≤ -1; omega, by show (-1 : Int) ≤ 540; omega, by show (0 : Int) ≤ 0; omega, by show (0 : Int) ≤ 60; omega⟩
    rintro ⟨r, D, co2⟩ ⟨g1, hcr, g3, g4, g5, g6, g7⟩ ih_25
    dsimp only at *
    refine V_iload C dX8_farthest_25 rfl ?_
    refine V_aload_n C dX8_farthest_27 rfl ?_
    refine V_callV C lk_X8_77 (m_X8_last G hg hL) dX8_farthest_28 rfl rfl rfl rfl (by decide) (Nat.le_of_ble_eq_true rfl) (kO ?_)
    refine V_icmp_gt (tgt := 87) C dX8_farthest_31 (by decide) (by omega) (by omega) (fun c_31 => ?_) (fun c_31 => ?_)
    · skip
      refine V_iload_n C dX8_farthest_87 rfl ?_
      refine V_if_ne (tgt := 95) C dX8_farthest_88 (by decide) (by omega) (fun c_88 => ?_) (fun c_88 => ?_)
      · skip
        refine V_iload_n C dX8_farthest_95 rfl ?_
        exact V_iret C R dX8_farthest_96 ⟨_, rfl, fun h => absurd (by omega) h, fun _ => ⟨D, co2, fun p h1 h2 => g3 p h1 (by omega), hcr, rfl, by rw [show (la (g 0) + 1).toNat = r by omega]; first | rw [if_pos (by omega)] | rw [if_neg (by omega)]⟩⟩
      · skip
        refine V_iload_n C dX8_farthest_91 rfl ?_
        refine V_goto (tgt := 96) C dX8_farthest_92 (by decide) ?_
        exact V_iret C R dX8_farthest_96 ⟨_, rfl, fun h => absurd (by omega) h, fun _ => ⟨D, co2, fun p h1 h2 => g3 p h1 (by omega), hcr, rfl, by rw [show (la (g 0) + 1).toNat = r by omega]; first | rw [if_pos (by omega)] | rw [if_neg (by omega)]⟩⟩
    · skip
      refine V_aload_n C dX8_farthest_34 rfl ?_
      refine V_iload C dX8_farthest_35 rfl ?_
      refine V_callV C lk_X8_229 (m_X8_costsTo G hg hL hpr hcr (by omega)) dX8_farthest_37 rfl rfl rfl rfl (by decide) (Nat.le_of_ble_eq_true rfl) (kQ0 (fun cs3 h3 => ?_))
      obtain ⟨c, hD, h3⟩ := h3
      subst h3
      have hcc := hD.1.1
      have hcs := isD_b hD hL hpr (by omega) (p := stt g) (by omega)
      refine V_midz (pc2 := 57) (if c (stt g) > (fbM D r).1 then (r : Int) else (fbM D r).2) ?_ (fun kk_40 => ?_)
      · skip
        refine V_istore_n C dX8_farthest_57 (by decide) rfl ?_
        refine V_midz (pc2 := 80) (if c (stt g) > (fbM D r).1 then c (stt g) else (fbM D r).1) ?_ (fun kk_58 => ?_)
        · skip
          refine V_istore_n C dX8_farthest_80 (by decide) rfl ?_
          refine V_iinc C dX8_farthest_81 rfl (by decide) rfl ?_
          refine V_goto (tgt := 25) C dX8_farthest_84 (by decide) ?_
          have e := fbM_up (D := D) (r := r) (v := c (stt g))
          have e1 : (fbM (zup D r (c (stt g))) (r + 1)).1 = if c (stt g) > (fbM D r).1 then c (stt g) else (fbM D r).1 := by rw [e]; split <;> rfl
          have e2 : (fbM (zup D r (c (stt g))) (r + 1)).2 = if c (stt g) > (fbM D r).1 then (r : Int) else (fbM D r).2 := by rw [e]; split <;> rfl
          have H : V G E 25 [some (.ref (G.ad 0)), some (.int (iI w)), some (.int (iI (fbM (zup D r (c (stt g))) (r + 1)).1)), some (.int (iI (fbM (zup D r (c (stt g))) (r + 1)).2)), some (.int (iI (stt g))), some (.int (iI ((r + 1 : Nat) : Int)))] [] (mdL G un td ku g ah ag tp (c) wy th kp ka ln sn it mv ++ rest) := ih_25 (r + 1, zup D r (c (stt g)), c) ⟨by dsimp only; omega, hcc, fun p h1 h2 => by
            dsimp only at h2 ⊢
            by_cases z : p = r
            · rw [z, zup_s]; exact ⟨c, hD, rfl⟩
            · rw [zup_n z]; exact g3 p h1 (by omega), by dsimp only; rw [e1]; split <;> omega, by dsimp only; rw [e1]; split <;> omega, by dsimp only; rw [e2]; split <;> omega, by dsimp only; rw [e2]; split <;> omega⟩ (by dsimp only; omega)
          rw [e1, e2] at H
          exact H
        · skip
          refine V_aload_n C dX8_farthest_58 rfl ?_
          refine vg_X8_22 C dX8_farthest_59 rfl rfl ?_
          refine V_iload C dX8_farthest_62 rfl ?_
          refine V_iald C dX8_farthest_64 rfl (by omega) (by omega) (by decide) (by repeat' (first | with_reducible assumption | refine zup_rng ?_ (by first | omega | exact hg _) | refine zcp_rng ?_ ?_ | refine ovr_rng ?_ (by omega) | refine zcp_rngL ?_ ?_ | refine zup_rngL ?_ (by omega))) (fun r_64 => ?_)
          refine V_iload_n C dX8_farthest_65 rfl ?_
          refine V_icmp_le (tgt := 79) C dX8_farthest_66 (by decide) (by omega) (by omega) (fun c_66 => ?_) (fun c_66 => ?_)
          · skip
            refine V_iload_n C dX8_farthest_79 rfl ?_
            exact kk_58 _ (by first | rw [if_pos (by omega)] | rw [if_neg (by omega)])
          · skip
            refine V_aload_n C dX8_farthest_69 rfl ?_
            refine vg_X8_22 C dX8_farthest_70 rfl rfl ?_
            refine V_iload C dX8_farthest_73 rfl ?_
            refine V_iald C dX8_farthest_75 rfl (by omega) (by omega) (by decide) (by repeat' (first | with_reducible assumption | refine zup_rng ?_ (by first | omega | exact hg _) | refine zcp_rng ?_ ?_ | refine ovr_rng ?_ (by omega) | refine zcp_rngL ?_ ?_ | refine zup_rngL ?_ (by omega))) (fun r_75 => ?_)
            refine V_goto (tgt := 80) C dX8_farthest_76 (by decide) ?_
            exact kk_58 _ (by first | rw [if_pos (by omega)] | rw [if_neg (by omega)])
      · skip
        refine V_aload_n C dX8_farthest_40 rfl ?_
        refine vg_X8_22 C dX8_farthest_41 rfl rfl ?_
        refine V_iload C dX8_farthest_44 rfl ?_
        refine V_iald C dX8_farthest_46 rfl (by omega) (by omega) (by decide) (by repeat' (first | with_reducible assumption | refine zup_rng ?_ (by first | omega | exact hg _) | refine zcp_rng ?_ ?_ | refine ovr_rng ?_ (by omega) | refine zcp_rngL ?_ ?_ | refine zup_rngL ?_ (by omega))) (fun r_46 => ?_)
        refine V_iload_n C dX8_farthest_47 rfl ?_
        refine V_icmp_le (tgt := 56) C dX8_farthest_48 (by decide) (by omega) (by omega) (fun c_48 => ?_) (fun c_48 => ?_)
        · skip
          refine V_iload_n C dX8_farthest_56 rfl ?_
          exact kk_40 _ (by first | rw [if_pos (by omega)] | rw [if_neg (by omega)])
        · skip
          refine V_iload C dX8_farthest_51 rfl ?_
          refine V_goto (tgt := 57) C dX8_farthest_53 (by decide) ?_
          exact kk_40 _ (by first | rw [if_pos (by omega)] | rw [if_neg (by omega)])
  · skip
    refine V_iconst C dX8_farthest_10 ?_
    exact V_iret C R dX8_farthest_11 ⟨-1, rfl, fun _ => ⟨rfl, rfl⟩, fun h => absurd h (by omega)⟩
