def ofM (g : Int → Int) : Int := min (max (g 191) 1 * max (g 192) 1) 99
theorem ofM_in {g : Int → Int} (h1 : 0 ≤ g 191 ∧ g 191 ≤ 99) (h2 : 0 ≤ g 192 ∧ g 192 ≤ 99) : 1 ≤ ofM g ∧ ofM g ≤ 99 := by
  unfold ofM
  have := Int.mul_le_mul (show 1 ≤ max (g 191) 1 by omega) (show 1 ≤ max (g 192) 1 by omega) (by omega) (by omega)
  omega
def mvM (s : zM) (m : Int) : Int × zM := gtM s (ldN (lt (sG s)) (sG s 0) m (ofM (sG s)).toNat (sG s 61)) (b2z (m = 3 ∨ m = 6))
def wdM (s : zM) (ar : Int) : Int × zM := rgM s (bg (lt (sG s)) (sG s 0) (kd (lt (sG s)) (sG s 0) (sG s 61)) (sG s 61)) (if ar = 0 then bh (lt (sG s)) (sG s 0) (kd (lt (sG s)) (sG s 0) (sG s 61)) (sG s 61) else bh (lt (sG s)) (sG s 0) 0 (bh (lt (sG s)) (sG s 0) (kd (lt (sG s)) (sG s 0) (sG s 61)) (sG s 61)))
def brM (s : zM) (ar : Int) : Int × zM := if brC (lt (sG s)) (sG s 0) (sG s 61) = -1 then (-2, s) else if ar = 0 then rgM s (op (lt (sG s)) (sG s 0) (sG s 61) (sG s 61) 0 + 1) (brC (lt (sG s)) (sG s 0) (sG s 61)) else rgM s (op (lt (sG s)) (sG s 0) (sG s 61) (sG s 61) 0) (brC (lt (sG s)) (sG s 0) (sG s 61) + 1)
def obM (s : zM) (ar x : Int) : Int × zM := if x = 119 then if sG s 0 = 0 then (-2, s) else wdM s ar else if x = 98 then brM s ar else (-2, s)
theorem op_pL {f : Int → Int} {L p : Int} (hL : 0 ≤ L) : ∀ (k : Nat) (q d : Int), (q + 1).toNat ≤ k → q < L → (q < p ∨ atv f L p ≠ 41) → op f L p q d = op f L L q d
  | 0, q, d, h, h1, h2 => by rw [op_5 (by omega), op_5 (by omega)]
  | k + 1, q, d, h, h1, h2 => by
    by_cases c : 0 ≤ q
    · by_cases e : atv f L q = 40
      · by_cases z : d = 0
        · rw [op_1 c e z, op_1 c e z]
        · rw [op_2 c e z, op_2 c e z]; exact op_pL hL k (q + -1) _ (by omega) (by omega) (by omega)
      · by_cases e2 : atv f L q = 41
        · have hp : q ≠ p := by
            rintro rfl
            rcases h2 with h2 | h2
            · omega
            · exact h2 e2
          rw [op_3 c e e2 hp, op_3 c e e2 (by omega)]; exact op_pL hL k (q + -1) _ (by omega) (by omega) (by omega)
        · rw [op_4 c e (fun h => e2 h.1), op_4 c e (fun h => e2 h.1)]; exact op_pL hL k (q + -1) _ (by omega) (by omega) (by omega)
    · rw [op_5 (by omega), op_5 (by omega)]
theorem op_cc {f : Int → Int} {L c : Int} (hL : 0 ≤ L) (hc : 0 ≤ c ∧ c < L) : op f L c c 0 = if atv f L c = 41 then op f L L (c - 1) 0 else op f L L c 0 := by
  split
  · next h =>
    rw [op_4 hc.1 (by omega) (fun q => q.2 rfl)]
    exact op_pL hL _ (c + -1) 0 (Nat.le_refl _) (by omega) (Or.inl (by omega))
  · next h => exact op_pL hL _ c 0 (Nat.le_refl _) (by omega) (Or.inr h)

set_option maxRecDepth 100000 in
theorem m_X8_moves (G : zG) {un td ku : Int} {g ah ag tp co wy th kp ka ln sn it mv : Int → Int} {rest : List va_E} (hg : ∀ j, rng (g j))  (hL : 0 ≤ g 0 ∧ g 0 ≤ 60) (hah : ∀ j, rng (ah j)) (hun : 0 ≤ un ∧ un ≤ 8) (hc : 0 ≤ g 61 ∧ g 61 ≤ g 0) (h1 : 0 ≤ g 191 ∧ g 191 ≤ 99) (h2 : 0 ≤ g 192 ∧ g 192 ≤ 99) {m : Int} (hm : 0 ≤ m ∧ m ≤ 6) : zMet G yX8_moves cX8_moves 5 (some .int) 5 112 [.ref (G.ad 0), .int (iI m)] (mdL G un td ku g ah ag tp co wy th kp ka ln sn it mv ++ rest) (zO (.int (iI (mvM ((un, g, ah) : zM) m).1)) (mdL G (sU ((mvM ((un, g, ah) : zM) m).2)) td ku (sG ((mvM ((un, g, ah) : zM) m).2)) (sH ((mvM ((un, g, ah) : zM) m).2)) ag tp co wy th kp ka ln sn it mv ++ rest)) := by
  refine zMet.of (by decide) (Nat.le_of_ble_eq_true rfl) ?_
  intro E C R
  have C : zC G E RX8 cX8_moves 5 5 112 := C
  show V G E 0 [some (.ref (G.ad 0)), some (.int (iI m)), none, none, none] [] (mdL G un td ku g ah ag tp co wy th kp ka ln sn it mv ++ rest)
  have hT := ofM_in h1 h2
  have hN := ldN_in (f := lt g) (L := g 0) (m := m) (ofM g).toNat (g 61) hc.1 hc.2
  refine V_aload_n C dX8_moves_0 rfl ?_
  refine vg_X8_7 C dX8_moves_1 rfl rfl ?_
  refine V_bipush C dX8_moves_4 (by decide) ?_
  refine V_iald C dX8_moves_6 rfl (by omega) (by omega) (by decide) (by repeat' (first | with_reducible assumption | refine zup_rng ?_ (by first | omega | exact hg _) | refine zcp_rng ?_ ?_)) (fun r_6 => ?_)
  refine V_istore_n C dX8_moves_7 (by decide) rfl ?_
  refine V_aload_n C dX8_moves_8 rfl ?_
  refine V_callV C lk_X8_116 (m_X8_often G hg h1 h2) dX8_moves_9 rfl rfl rfl rfl (by decide) (Nat.le_of_ble_eq_true rfl) (kO ?_)
  refine V_istore_n C dX8_moves_12 (by decide) rfl ?_
  show V G E 13 [some (.ref (G.ad 0)), some (.int (iI m)), some (.int (iI (g 61))), some (.int (iI (ofM g))), none] [] (mdL G un td ku g ah ag tp co wy th kp ka ln sn it mv ++ rest)
  refine V_iconst C dX8_moves_13 ?_
  refine V_istore C dX8_moves_14 (by decide) rfl ?_
  refine V_loop (α := Int × Int) (fun x => (200 - x.1).toNat) (fun x => 0 ≤ x.1 ∧ x.1 ≤ ofM g ∧ 0 ≤ x.2 ∧ x.2 ≤ g 0 ∧ ldN (lt g) (g 0) m (ofM g - x.1).toNat x.2 = ldN (lt g) (g 0) m (ofM g).toNat (g 61)) (fun x => V G E 16 [some (.ref (G.ad 0)), some (.int (iI m)), some (.int (iI x.2)), some (.int (iI (ofM g))), some (.int (iI x.1))] [] (mdL G un td ku g ah ag tp co wy th kp ka ln sn it mv ++ rest)) ?_ (0, g 61) ⟨by dsimp only; omega, by dsimp only; omega, hc.1, hc.2, by dsimp only; rw [Int.sub_zero]⟩
  rintro ⟨i, q⟩ ⟨g1, g2, g3, g4, g5⟩ ih_16
  dsimp only at *
  refine V_iload C dX8_moves_16 rfl ?_
  refine V_iload_n C dX8_moves_18 rfl ?_
  refine V_icmp_ge (tgt := 35) C dX8_moves_19 (by decide) (by omega) (by omega) (fun c_19 => ?_) (fun c_19 => ?_)
  · skip
    rw [show (ofM g - i).toNat = 0 by omega] at g5
    have hq : q = ldN (lt g) (g 0) m (ofM g).toNat (g 61) := g5
    subst hq
    refine V_aload_n C dX8_moves_35 rfl ?_
    refine V_iload_n C dX8_moves_36 rfl ?_
    refine V_midb (pc2 := 53) (m = 3 ∨ m = 6) ?_ (fun kt_37 kf_37 => ?_)
    · skip
      refine V_callV C lk_X8_122 (m_X8_goesTo G hg hL hah hun (by omega) (by unfold b2z; split <;> omega) hc) dX8_moves_53 rfl rfl rfl rfl (by decide) (Nat.le_of_ble_eq_true rfl) (kO ?_)
      exact V_iret C R dX8_moves_56 ⟨rfl, rfl⟩
    · skip
      refine V_iload_n C dX8_moves_37 rfl ?_
      refine V_iconst C dX8_moves_38 ?_
      refine V_icmp_eq (tgt := 48) C dX8_moves_39 (by decide) (by omega) (by omega) (fun c_39 => ?_) (fun c_39 => ?_)
      · skip
        refine V_iconst C dX8_moves_48 ?_
        refine V_goto (tgt := 53) C dX8_moves_49 (by decide) ?_
        exact kt_37 (by omega)
      · skip
        refine V_iload_n C dX8_moves_42 rfl ?_
        refine V_bipush C dX8_moves_43 (by decide) ?_
        refine V_icmp_ne (tgt := 52) C dX8_moves_45 (by decide) (by omega) (by omega) (fun c_45 => ?_) (fun c_45 => ?_)
        · skip
          refine V_iconst C dX8_moves_52 ?_
          exact kf_37 (by omega)
        · skip
          refine V_iconst C dX8_moves_48 ?_
          refine V_goto (tgt := 53) C dX8_moves_49 (by decide) ?_
          exact kt_37 (by omega)
  · skip
    refine V_aload_n C dX8_moves_22 rfl ?_
    refine V_iload_n C dX8_moves_23 rfl ?_
    refine V_iload_n C dX8_moves_24 rfl ?_
    refine V_callV C lk_X8_119 (m_X8_leadsTo G hg hL hm (by omega)) dX8_moves_25 rfl rfl rfl rfl (by decide) (Nat.le_of_ble_eq_true rfl) (kO ?_)
    refine V_istore_n C dX8_moves_28 (by decide) rfl ?_
    refine V_iinc C dX8_moves_29 rfl (by decide) rfl ?_
    refine V_goto (tgt := 16) C dX8_moves_32 (by decide) ?_
    have hl := ld_in (f := lt g) (m := m) g3 g4
    exact ih_16 (i + 1, ld (lt g) (g 0) m q) ⟨by dsimp only; omega, by dsimp only; omega, hl.1, hl.2, by rw [← g5, show (ofM g - i).toNat = (ofM g - (i + 1)).toNat + 1 by omega]; rfl⟩ (by dsimp only; omega)

set_option maxRecDepth 100000 in
theorem m_X8_bracket_dn (G : zG) {un td ku : Int} {g ah ag tp co wy th kp ka ln sn it mv : Int → Int} {rest : List va_E} (hg : ∀ j, rng (g j)) (hL : 0 ≤ g 0 ∧ g 0 ≤ 60) {q : Int} (hq : (-1 ≤ q ∧ q < g 0) ∨ (q = 0 ∧ g 0 = 0)) : zMet G yX8_bracket cX8_bracket 8 (some .int) 1 25 [.ref (G.ad 0), .int (iI q), .int (iI (-1)), .int (iI 40), .int (iI 41)] (mdL G un td ku g ah ag tp co wy th kp ka ln sn it mv ++ rest) (zO (.int (iI (cv (op (lt g) (g 0) (g 0) (q) (0))))) (mdL G un td ku g ah ag tp co wy th kp ka ln sn it mv ++ rest)) := by
  refine zMet.of (by decide) (Nat.le_of_ble_eq_true rfl) ?_
  intro E C R
  have C : zC G E RX8 cX8_bracket 8 1 25 := C
  show V G E 0 [some (.ref (G.ad 0)), some (.int (iI q)), some (.int (iI (-1))), some (.int (iI 40)), some (.int (iI 41)), none, none, none] [] (mdL G un td ku g ah ag tp co wy th kp ka ln sn it mv ++ rest)
  refine V_iconst C dX8_bracket_0 ?_
  refine V_istore C dX8_bracket_1 (by decide) rfl ?_
  refine V_iload_n C dX8_bracket_3 rfl ?_
  refine V_istore C dX8_bracket_4 (by decide) rfl ?_
  refine V_loop (α := Int × Int) (fun x => (x.1 + 1).toNat) (fun x => -1 ≤ x.1 ∧ (x.1 < g 0 ∨ (x.1 = 0 ∧ g 0 = 0 ∧ x.2 = 0)) ∧ 0 ≤ x.2 ∧ x.2 ≤ g 0 - x.1 ∧ cv (op (lt g) (g 0) (g 0) (x.1) (x.2)) = cv (op (lt g) (g 0) (g 0) (q) (0))) (fun x => V G E 6 [some (.ref (G.ad 0)), some (.int (iI q)), some (.int (iI (-1))), some (.int (iI 40)), some (.int (iI 41)), some (.int (iI x.2)), some (.int (iI x.1)), none] [] (mdL G un td ku g ah ag tp co wy th kp ka ln sn it mv ++ rest)) ?_ (q, 0) ⟨by dsimp only; omega, by dsimp only; omega, by dsimp only; omega, by dsimp only; omega, rfl⟩
  rintro ⟨r, d⟩ ⟨g1, g2, g3, g4, g5⟩ ih_6
  dsimp only at *
  refine V_iload C dX8_bracket_6 rfl ?_
  refine V_i2l C dX8_bracket_8 (by omega) ?_
  refine V_lconst (z := 0) C dX8_bracket_9 rfl ?_
  refine V_aload_n C dX8_bracket_10 rfl ?_
  refine vg_X8_7 C dX8_bracket_11 rfl rfl ?_
  refine V_iconst C dX8_bracket_14 ?_
  refine V_iald C dX8_bracket_15 rfl (by omega) (by omega) (by decide) (by repeat' (first | with_reducible assumption | refine zup_rng ?_ (by first | omega | exact hg _) | refine zcp_rng ?_ ?_)) (fun r_15 => ?_)
  refine V_iconst C dX8_bracket_16 ?_
  refine V_isub C dX8_bracket_17 ?_
  refine V_i2l C dX8_bracket_18 (by omega) ?_
  refine V_callS C lk_X8_58 (m_X8_in G (by omega) (by omega) (by omega)) dX8_bracket_19 rfl rfl (by decide) (Nat.le_of_ble_eq_true rfl) (kO ?_)
  refine V_if_eqB (tgt := 86) C dX8_bracket_22 (by decide) (fun c_22 => ?_) (fun c_22 => ?_)
  · skip
    refine V_bipush C dX8_bracket_86 (by decide) ?_
    exact V_iret C R dX8_bracket_88 (zO_i (by rw [← g5, show op (lt g) (g 0) (g 0) r d = -1 from (by
        rcases (show r < 0 ∨ (r = 0 ∧ g 0 = 0) by omega) with e | e
        · exact op_5 e
        · rw [op_4 (f := lt g) (L := g 0) (p := g 0) (q := r) (by omega) (by rw [atv_out (by omega)]; omega) (by rw [atv_out (by omega)]; omega), op_5 (by omega)])]; rfl))
  · skip
    refine V_aload_n C dX8_bracket_25 rfl ?_
    refine vg_X8_7 C dX8_bracket_26 rfl rfl ?_
    refine V_iconst C dX8_bracket_29 ?_
    refine V_iload C dX8_bracket_30 rfl ?_
    refine V_iadd C dX8_bracket_32 ?_
    refine V_iald C dX8_bracket_33 rfl (by omega) (by omega) (by decide) (by repeat' (first | with_reducible assumption | refine zup_rng ?_ (by first | omega | exact hg _) | refine zcp_rng ?_ ?_)) (fun r_33 => ?_)
    refine V_istore C dX8_bracket_34 (by decide) rfl ?_
    have ha : atv (lt g) (g 0) r = g (1 + r) := atv_at (by omega) (by omega)
    refine V_iload C dX8_bracket_36 rfl ?_
    refine V_iload_n C dX8_bracket_38 rfl ?_
    refine V_icmp_ne (tgt := 50) C dX8_bracket_39 (by decide) (by omega) (by omega) (fun c_39 => ?_) (fun c_39 => ?_)
    · skip
      refine V_iload C dX8_bracket_50 rfl ?_
      refine V_iload C dX8_bracket_52 rfl ?_
      refine V_iload C dX8_bracket_54 rfl ?_
      refine V_icmp_ne (tgt := 63) C dX8_bracket_56 (by decide) (by omega) (by omega) (fun c_56 => ?_) (fun c_56 => ?_)
      · skip
        refine V_iload C dX8_bracket_63 rfl ?_
        refine V_iload_n C dX8_bracket_65 rfl ?_
        refine V_icmp_ne (tgt := 73) C dX8_bracket_66 (by decide) (by omega) (by omega) (fun c_66 => ?_) (fun c_66 => ?_)
        · skip
          refine V_iconst C dX8_bracket_73 ?_
          refine V_iadd C dX8_bracket_74 ?_
          refine V_istore C dX8_bracket_75 (by decide) rfl ?_
          refine V_iload C dX8_bracket_77 rfl ?_
          refine V_iload_n C dX8_bracket_79 rfl ?_
          refine V_iadd C dX8_bracket_80 ?_
          refine V_istore C dX8_bracket_81 (by decide) rfl ?_
          refine V_goto (tgt := 6) C dX8_bracket_83 (by decide) ?_
          refine V_drop 7 ?_
          first
          | exact ih_6 (r + -1, d + 1) ⟨by dsimp only; omega, by dsimp only; omega, by dsimp only; omega, by dsimp only; omega, by rw [← g5, op_3 (f := lt g) (L := g 0) (p := g 0) (q := r) (d := d) (by omega) (by omega) (by omega) (by omega)]⟩ (by dsimp only; omega)
          | exact ih_6 (r + -1, d + -1) ⟨by dsimp only; omega, by dsimp only; omega, by dsimp only; omega, by dsimp only; omega, by rw [← g5, op_2 (f := lt g) (L := g 0) (p := g 0) (q := r) (d := d) (by omega) (by omega) (by omega)]⟩ (by dsimp only; omega)
          | exact ih_6 (r + -1, d + 0) ⟨by dsimp only; omega, by dsimp only; omega, by dsimp only; omega, by dsimp only; omega, by rw [Int.add_zero, ← g5, op_4 (f := lt g) (L := g 0) (p := g 0) (q := r) (d := d) (by omega) (by omega) (by omega)]⟩ (by dsimp only; omega)
        · skip
          refine V_iconst C dX8_bracket_69 ?_
          refine V_goto (tgt := 74) C dX8_bracket_70 (by decide) ?_
          refine V_iadd C dX8_bracket_74 ?_
          refine V_istore C dX8_bracket_75 (by decide) rfl ?_
          refine V_iload C dX8_bracket_77 rfl ?_
          refine V_iload_n C dX8_bracket_79 rfl ?_
          refine V_iadd C dX8_bracket_80 ?_
          refine V_istore C dX8_bracket_81 (by decide) rfl ?_
          refine V_goto (tgt := 6) C dX8_bracket_83 (by decide) ?_
          refine V_drop 7 ?_
          first
          | exact ih_6 (r + -1, d + 1) ⟨by dsimp only; omega, by dsimp only; omega, by dsimp only; omega, by dsimp only; omega, by rw [← g5, op_3 (f := lt g) (L := g 0) (p := g 0) (q := r) (d := d) (by omega) (by omega) (by omega) (by omega)]⟩ (by dsimp only; omega)
          | exact ih_6 (r + -1, d + -1) ⟨by dsimp only; omega, by dsimp only; omega, by dsimp only; omega, by dsimp only; omega, by rw [← g5, op_2 (f := lt g) (L := g 0) (p := g 0) (q := r) (d := d) (by omega) (by omega) (by omega)]⟩ (by dsimp only; omega)
          | exact ih_6 (r + -1, d + 0) ⟨by dsimp only; omega, by dsimp only; omega, by dsimp only; omega, by dsimp only; omega, by rw [Int.add_zero, ← g5, op_4 (f := lt g) (L := g 0) (p := g 0) (q := r) (d := d) (by omega) (by omega) (by omega)]⟩ (by dsimp only; omega)
      · skip
        refine V_iconst C dX8_bracket_59 ?_
        refine V_goto (tgt := 74) C dX8_bracket_60 (by decide) ?_
        refine V_iadd C dX8_bracket_74 ?_
        refine V_istore C dX8_bracket_75 (by decide) rfl ?_
        refine V_iload C dX8_bracket_77 rfl ?_
        refine V_iload_n C dX8_bracket_79 rfl ?_
        refine V_iadd C dX8_bracket_80 ?_
        refine V_istore C dX8_bracket_81 (by decide) rfl ?_
        refine V_goto (tgt := 6) C dX8_bracket_83 (by decide) ?_
        refine V_drop 7 ?_
        first
        | exact ih_6 (r + -1, d + 1) ⟨by dsimp only; omega, by dsimp only; omega, by dsimp only; omega, by dsimp only; omega, by rw [← g5, op_3 (f := lt g) (L := g 0) (p := g 0) (q := r) (d := d) (by omega) (by omega) (by omega) (by omega)]⟩ (by dsimp only; omega)
        | exact ih_6 (r + -1, d + -1) ⟨by dsimp only; omega, by dsimp only; omega, by dsimp only; omega, by dsimp only; omega, by rw [← g5, op_2 (f := lt g) (L := g 0) (p := g 0) (q := r) (d := d) (by omega) (by omega) (by omega)]⟩ (by dsimp only; omega)
        | exact ih_6 (r + -1, d + 0) ⟨by dsimp only; omega, by dsimp only; omega, by dsimp only; omega, by dsimp only; omega, by rw [Int.add_zero, ← g5, op_4 (f := lt g) (L := g 0) (p := g 0) (q := r) (d := d) (by omega) (by omega) (by omega)]⟩ (by dsimp only; omega)
    · skip
      refine V_iload C dX8_bracket_42 rfl ?_
      refine V_if_ne (tgt := 50) C dX8_bracket_44 (by decide) (by omega) (fun c_44 => ?_) (fun c_44 => ?_)
      · skip
        refine V_iload C dX8_bracket_50 rfl ?_
        refine V_iload C dX8_bracket_52 rfl ?_
        refine V_iload C dX8_bracket_54 rfl ?_
        refine V_icmp_ne (tgt := 63) C dX8_bracket_56 (by decide) (by omega) (by omega) (fun c_56 => ?_) (fun c_56 => ?_)
        · skip
          refine V_iload C dX8_bracket_63 rfl ?_
          refine V_iload_n C dX8_bracket_65 rfl ?_
          refine V_icmp_ne (tgt := 73) C dX8_bracket_66 (by decide) (by omega) (by omega) (fun c_66 => ?_) (fun c_66 => ?_)
          · skip
            refine V_iconst C dX8_bracket_73 ?_
            refine V_iadd C dX8_bracket_74 ?_
            refine V_istore C dX8_bracket_75 (by decide) rfl ?_
            refine V_iload C dX8_bracket_77 rfl ?_
            refine V_iload_n C dX8_bracket_79 rfl ?_
            refine V_iadd C dX8_bracket_80 ?_
            refine V_istore C dX8_bracket_81 (by decide) rfl ?_
            refine V_goto (tgt := 6) C dX8_bracket_83 (by decide) ?_
            refine V_drop 7 ?_
            first
            | exact ih_6 (r + -1, d + 1) ⟨by dsimp only; omega, by dsimp only; omega, by dsimp only; omega, by dsimp only; omega, by rw [← g5, op_3 (f := lt g) (L := g 0) (p := g 0) (q := r) (d := d) (by omega) (by omega) (by omega) (by omega)]⟩ (by dsimp only; omega)
            | exact ih_6 (r + -1, d + -1) ⟨by dsimp only; omega, by dsimp only; omega, by dsimp only; omega, by dsimp only; omega, by rw [← g5, op_2 (f := lt g) (L := g 0) (p := g 0) (q := r) (d := d) (by omega) (by omega) (by omega)]⟩ (by dsimp only; omega)
            | exact ih_6 (r + -1, d + 0) ⟨by dsimp only; omega, by dsimp only; omega, by dsimp only; omega, by dsimp only; omega, by rw [Int.add_zero, ← g5, op_4 (f := lt g) (L := g 0) (p := g 0) (q := r) (d := d) (by omega) (by omega) (by omega)]⟩ (by dsimp only; omega)
          · skip
            refine V_iconst C dX8_bracket_69 ?_
            refine V_goto (tgt := 74) C dX8_bracket_70 (by decide) ?_
            refine V_iadd C dX8_bracket_74 ?_
            refine V_istore C dX8_bracket_75 (by decide) rfl ?_
            refine V_iload C dX8_bracket_77 rfl ?_
            refine V_iload_n C dX8_bracket_79 rfl ?_
            refine V_iadd C dX8_bracket_80 ?_
            refine V_istore C dX8_bracket_81 (by decide) rfl ?_
            refine V_goto (tgt := 6) C dX8_bracket_83 (by decide) ?_
            refine V_drop 7 ?_
            first
            | exact ih_6 (r + -1, d + 1) ⟨by dsimp only; omega, by dsimp only; omega, by dsimp only; omega, by dsimp only; omega, by rw [← g5, op_3 (f := lt g) (L := g 0) (p := g 0) (q := r) (d := d) (by omega) (by omega) (by omega) (by omega)]⟩ (by dsimp only; omega)
            | exact ih_6 (r + -1, d + -1) ⟨by dsimp only; omega, by dsimp only; omega, by dsimp only; omega, by dsimp only; omega, by rw [← g5, op_2 (f := lt g) (L := g 0) (p := g 0) (q := r) (d := d) (by omega) (by omega) (by omega)]⟩ (by dsimp only; omega)
            | exact ih_6 (r + -1, d + 0) ⟨by dsimp only; omega, by dsimp only; omega, by dsimp only; omega, by dsimp only; omega, by rw [Int.add_zero, ← g5, op_4 (f := lt g) (L := g 0) (p := g 0) (q := r) (d := d) (by omega) (by omega) (by omega)]⟩ (by dsimp only; omega)
        · skip
          refine V_iconst C dX8_bracket_59 ?_
          refine V_goto (tgt := 74) C dX8_bracket_60 (by decide) ?_
          refine V_iadd C dX8_bracket_74 ?_
          refine V_istore C dX8_bracket_75 (by decide) rfl ?_
          refine V_iload C dX8_bracket_77 rfl ?_
          refine V_iload_n C dX8_bracket_79 rfl ?_
          refine V_iadd C dX8_bracket_80 ?_
          refine V_istore C dX8_bracket_81 (by decide) rfl ?_
          refine V_goto (tgt := 6) C dX8_bracket_83 (by decide) ?_
          refine V_drop 7 ?_
          first
          | exact ih_6 (r + -1, d + 1) ⟨by dsimp only; omega, by dsimp only; omega, by dsimp only; omega, by dsimp only; omega, by rw [← g5, op_3 (f := lt g) (L := g 0) (p := g 0) (q := r) (d := d) (by omega) (by omega) (by omega) (by omega)]⟩ (by dsimp only; omega)
          | exact ih_6 (r + -1, d + -1) ⟨by dsimp only; omega, by dsimp only; omega, by dsimp only; omega, by dsimp only; omega, by rw [← g5, op_2 (f := lt g) (L := g 0) (p := g 0) (q := r) (d := d) (by omega) (by omega) (by omega)]⟩ (by dsimp only; omega)
          | exact ih_6 (r + -1, d + 0) ⟨by dsimp only; omega, by dsimp only; omega, by dsimp only; omega, by dsimp only; omega, by rw [Int.add_zero, ← g5, op_4 (f := lt g) (L := g 0) (p := g 0) (q := r) (d := d) (by omega) (by omega) (by omega)]⟩ (by dsimp only; omega)
      · skip
        refine V_iload C dX8_bracket_47 rfl ?_
        exact V_iret C R dX8_bracket_49 (zO_i (by rw [← g5, op_1 (f := lt g) (L := g 0) (q := r) (by omega) (by omega) (by omega), cv_n (by omega)]))

set_option maxRecDepth 100000 in
theorem m_X8_bracket_up (G : zG) {un td ku : Int} {g ah ag tp co wy th kp ka ln sn it mv : Int → Int} {rest : List va_E} (hg : ∀ j, rng (g j)) (hL : 0 ≤ g 0 ∧ g 0 ≤ 60) {q : Int} (hq : 0 ≤ q ∧ q ≤ g 0) : zMet G yX8_bracket cX8_bracket 8 (some .int) 1 25 [.ref (G.ad 0), .int (iI q), .int (iI (1)), .int (iI 41), .int (iI 40)] (mdL G un td ku g ah ag tp co wy th kp ka ln sn it mv ++ rest) (zO (.int (iI (cv (cl (lt g) (g 0) (q) (0))))) (mdL G un td ku g ah ag tp co wy th kp ka ln sn it mv ++ rest)) := by
  refine zMet.of (by decide) (Nat.le_of_ble_eq_true rfl) ?_
  intro E C R
  have C : zC G E RX8 cX8_bracket 8 1 25 := C
  show V G E 0 [some (.ref (G.ad 0)), some (.int (iI q)), some (.int (iI (1))), some (.int (iI 41)), some (.int (iI 40)), none, none, none] [] (mdL G un td ku g ah ag tp co wy th kp ka ln sn it mv ++ rest)
  refine V_iconst C dX8_bracket_0 ?_
  refine V_istore C dX8_bracket_1 (by decide) rfl ?_
  refine V_iload_n C dX8_bracket_3 rfl ?_
  refine V_istore C dX8_bracket_4 (by decide) rfl ?_
  refine V_loop (α := Int × Int) (fun x => (g 0 - x.1).toNat) (fun x => -1 ≤ x.1 ∧ x.1 ≤ g 0 ∧ 0 ≤ x.2 ∧ x.2 ≤ x.1 ∧ cv (cl (lt g) (g 0) (x.1) (x.2)) = cv (cl (lt g) (g 0) (q) (0))) (fun x => V G E 6 [some (.ref (G.ad 0)), some (.int (iI q)), some (.int (iI (1))), some (.int (iI 41)), some (.int (iI 40)), some (.int (iI x.2)), some (.int (iI x.1)), none] [] (mdL G un td ku g ah ag tp co wy th kp ka ln sn it mv ++ rest)) ?_ (q, 0) ⟨by dsimp only; omega, by dsimp only; omega, by dsimp only; omega, by dsimp only; omega, rfl⟩
  rintro ⟨r, d⟩ ⟨g1, g2, g3, g4, g5⟩ ih_6
  dsimp only at *
  refine V_iload C dX8_bracket_6 rfl ?_
  refine V_i2l C dX8_bracket_8 (by omega) ?_
  refine V_lconst (z := 0) C dX8_bracket_9 rfl ?_
  refine V_aload_n C dX8_bracket_10 rfl ?_
  refine vg_X8_7 C dX8_bracket_11 rfl rfl ?_
  refine V_iconst C dX8_bracket_14 ?_
  refine V_iald C dX8_bracket_15 rfl (by omega) (by omega) (by decide) (by repeat' (first | with_reducible assumption | refine zup_rng ?_ (by first | omega | exact hg _) | refine zcp_rng ?_ ?_)) (fun r_15 => ?_)
  refine V_iconst C dX8_bracket_16 ?_
  refine V_isub C dX8_bracket_17 ?_
  refine V_i2l C dX8_bracket_18 (by omega) ?_
  refine V_callS C lk_X8_58 (m_X8_in G (by omega) (by omega) (by omega)) dX8_bracket_19 rfl rfl (by decide) (Nat.le_of_ble_eq_true rfl) (kO ?_)
  refine V_if_eqB (tgt := 86) C dX8_bracket_22 (by decide) (fun c_22 => ?_) (fun c_22 => ?_)
  · skip
    refine V_bipush C dX8_bracket_86 (by decide) ?_
    exact V_iret C R dX8_bracket_88 (zO_i (by rw [← g5, cl_5 (q := r) (by omega)]; rfl))
  · skip
    refine V_aload_n C dX8_bracket_25 rfl ?_
    refine vg_X8_7 C dX8_bracket_26 rfl rfl ?_
    refine V_iconst C dX8_bracket_29 ?_
    refine V_iload C dX8_bracket_30 rfl ?_
    refine V_iadd C dX8_bracket_32 ?_
    refine V_iald C dX8_bracket_33 rfl (by omega) (by omega) (by decide) (by repeat' (first | with_reducible assumption | refine zup_rng ?_ (by first | omega | exact hg _) | refine zcp_rng ?_ ?_)) (fun r_33 => ?_)
    refine V_istore C dX8_bracket_34 (by decide) rfl ?_
    have ha : atv (lt g) (g 0) r = g (1 + r) := atv_at (by omega) (by omega)
    refine V_iload C dX8_bracket_36 rfl ?_
    refine V_iload_n C dX8_bracket_38 rfl ?_
    refine V_icmp_ne (tgt := 50) C dX8_bracket_39 (by decide) (by omega) (by omega) (fun c_39 => ?_) (fun c_39 => ?_)
    · skip
      refine V_iload C dX8_bracket_50 rfl ?_
      refine V_iload C dX8_bracket_52 rfl ?_
      refine V_iload C dX8_bracket_54 rfl ?_
      refine V_icmp_ne (tgt := 63) C dX8_bracket_56 (by decide) (by omega) (by omega) (fun c_56 => ?_) (fun c_56 => ?_)
      · skip
        refine V_iload C dX8_bracket_63 rfl ?_
        refine V_iload_n C dX8_bracket_65 rfl ?_
        refine V_icmp_ne (tgt := 73) C dX8_bracket_66 (by decide) (by omega) (by omega) (fun c_66 => ?_) (fun c_66 => ?_)
        · skip
          refine V_iconst C dX8_bracket_73 ?_
          refine V_iadd C dX8_bracket_74 ?_
          refine V_istore C dX8_bracket_75 (by decide) rfl ?_
          refine V_iload C dX8_bracket_77 rfl ?_
          refine V_iload_n C dX8_bracket_79 rfl ?_
          refine V_iadd C dX8_bracket_80 ?_
          refine V_istore C dX8_bracket_81 (by decide) rfl ?_
          refine V_goto (tgt := 6) C dX8_bracket_83 (by decide) ?_
          refine V_drop 7 ?_
          first
          | exact ih_6 (r + 1, d + 1) ⟨by dsimp only; omega, by dsimp only; omega, by dsimp only; omega, by dsimp only; omega, by rw [← g5, cl_3 (f := lt g) (L := g 0) (q := r) (d := d) (by omega) (by omega) (by omega)]⟩ (by dsimp only; omega)
          | exact ih_6 (r + 1, d + -1) ⟨by dsimp only; omega, by dsimp only; omega, by dsimp only; omega, by dsimp only; omega, by rw [← g5, cl_2 (f := lt g) (L := g 0) (q := r) (d := d) (by omega) (by omega) (by omega)]⟩ (by dsimp only; omega)
          | exact ih_6 (r + 1, d + 0) ⟨by dsimp only; omega, by dsimp only; omega, by dsimp only; omega, by dsimp only; omega, by rw [Int.add_zero, ← g5, cl_4 (f := lt g) (L := g 0) (q := r) (d := d) (by omega) (by omega) (by omega)]⟩ (by dsimp only; omega)
        · skip
          refine V_iconst C dX8_bracket_69 ?_
          refine V_goto (tgt := 74) C dX8_bracket_70 (by decide) ?_
          refine V_iadd C dX8_bracket_74 ?_
          refine V_istore C dX8_bracket_75 (by decide) rfl ?_
          refine V_iload C dX8_bracket_77 rfl ?_
          refine V_iload_n C dX8_bracket_79 rfl ?_
          refine V_iadd C dX8_bracket_80 ?_
          refine V_istore C dX8_bracket_81 (by decide) rfl ?_
          refine V_goto (tgt := 6) C dX8_bracket_83 (by decide) ?_
          refine V_drop 7 ?_
          first
          | exact ih_6 (r + 1, d + 1) ⟨by dsimp only; omega, by dsimp only; omega, by dsimp only; omega, by dsimp only; omega, by rw [← g5, cl_3 (f := lt g) (L := g 0) (q := r) (d := d) (by omega) (by omega) (by omega)]⟩ (by dsimp only; omega)
          | exact ih_6 (r + 1, d + -1) ⟨by dsimp only; omega, by dsimp only; omega, by dsimp only; omega, by dsimp only; omega, by rw [← g5, cl_2 (f := lt g) (L := g 0) (q := r) (d := d) (by omega) (by omega) (by omega)]⟩ (by dsimp only; omega)
          | exact ih_6 (r + 1, d + 0) ⟨by dsimp only; omega, by dsimp only; omega, by dsimp only; omega, by dsimp only; omega, by rw [Int.add_zero, ← g5, cl_4 (f := lt g) (L := g 0) (q := r) (d := d) (by omega) (by omega) (by omega)]⟩ (by dsimp only; omega)
      · skip
        refine V_iconst C dX8_bracket_59 ?_
        refine V_goto (tgt := 74) C dX8_bracket_60 (by decide) ?_
        refine V_iadd C dX8_bracket_74 ?_
        refine V_istore C dX8_bracket_75 (by decide) rfl ?_
        refine V_iload C dX8_bracket_77 rfl ?_
        refine V_iload_n C dX8_bracket_79 rfl ?_
        refine V_iadd C dX8_bracket_80 ?_
        refine V_istore C dX8_bracket_81 (by decide) rfl ?_
        refine V_goto (tgt := 6) C dX8_bracket_83 (by decide) ?_
        refine V_drop 7 ?_
        first
        | exact ih_6 (r + 1, d + 1) ⟨by dsimp only; omega, by dsimp only; omega, by dsimp only; omega, by dsimp only; omega, by rw [← g5, cl_3 (f := lt g) (L := g 0) (q := r) (d := d) (by omega) (by omega) (by omega)]⟩ (by dsimp only; omega)
        | exact ih_6 (r + 1, d + -1) ⟨by dsimp only; omega, by dsimp only; omega, by dsimp only; omega, by dsimp only; omega, by rw [← g5, cl_2 (f := lt g) (L := g 0) (q := r) (d := d) (by omega) (by omega) (by omega)]⟩ (by dsimp only; omega)
        | exact ih_6 (r + 1, d + 0) ⟨by dsimp only; omega, by dsimp only; omega, by dsimp only; omega, by dsimp only; omega, by rw [Int.add_zero, ← g5, cl_4 (f := lt g) (L := g 0) (q := r) (d := d) (by omega) (by omega) (by omega)]⟩ (by dsimp only; omega)
    · skip
      refine V_iload C dX8_bracket_42 rfl ?_
      refine V_if_ne (tgt := 50) C dX8_bracket_44 (by decide) (by omega) (fun c_44 => ?_) (fun c_44 => ?_)
      · skip
        refine V_iload C dX8_bracket_50 rfl ?_
        refine V_iload C dX8_bracket_52 rfl ?_
        refine V_iload C dX8_bracket_54 rfl ?_
        refine V_icmp_ne (tgt := 63) C dX8_bracket_56 (by decide) (by omega) (by omega) (fun c_56 => ?_) (fun c_56 => ?_)
        · skip
          refine V_iload C dX8_bracket_63 rfl ?_
          refine V_iload_n C dX8_bracket_65 rfl ?_
          refine V_icmp_ne (tgt := 73) C dX8_bracket_66 (by decide) (by omega) (by omega) (fun c_66 => ?_) (fun c_66 => ?_)
          · skip
            refine V_iconst C dX8_bracket_73 ?_
            refine V_iadd C dX8_bracket_74 ?_
            refine V_istore C dX8_bracket_75 (by decide) rfl ?_
            refine V_iload C dX8_bracket_77 rfl ?_
            refine V_iload_n C dX8_bracket_79 rfl ?_
            refine V_iadd C dX8_bracket_80 ?_
            refine V_istore C dX8_bracket_81 (by decide) rfl ?_
            refine V_goto (tgt := 6) C dX8_bracket_83 (by decide) ?_
            refine V_drop 7 ?_
            first
            | exact ih_6 (r + 1, d + 1) ⟨by dsimp only; omega, by dsimp only; omega, by dsimp only; omega, by dsimp only; omega, by rw [← g5, cl_3 (f := lt g) (L := g 0) (q := r) (d := d) (by omega) (by omega) (by omega)]⟩ (by dsimp only; omega)
            | exact ih_6 (r + 1, d + -1) ⟨by dsimp only; omega, by dsimp only; omega, by dsimp only; omega, by dsimp only; omega, by rw [← g5, cl_2 (f := lt g) (L := g 0) (q := r) (d := d) (by omega) (by omega) (by omega)]⟩ (by dsimp only; omega)
            | exact ih_6 (r + 1, d + 0) ⟨by dsimp only; omega, by dsimp only; omega, by dsimp only; omega, by dsimp only; omega, by rw [Int.add_zero, ← g5, cl_4 (f := lt g) (L := g 0) (q := r) (d := d) (by omega) (by omega) (by omega)]⟩ (by dsimp only; omega)
          · skip
            refine V_iconst C dX8_bracket_69 ?_
            refine V_goto (tgt := 74) C dX8_bracket_70 (by decide) ?_
            refine V_iadd C dX8_bracket_74 ?_
            refine V_istore C dX8_bracket_75 (by decide) rfl ?_
            refine V_iload C dX8_bracket_77 rfl ?_
            refine V_iload_n C dX8_bracket_79 rfl ?_
            refine V_iadd C dX8_bracket_80 ?_
            refine V_istore C dX8_bracket_81 (by decide) rfl ?_
            refine V_goto (tgt := 6) C dX8_bracket_83 (by decide) ?_
            refine V_drop 7 ?_
            first
            | exact ih_6 (r + 1, d + 1) ⟨by dsimp only; omega, by dsimp only; omega, by dsimp only; omega, by dsimp only; omega, by rw [← g5, cl_3 (f := lt g) (L := g 0) (q := r) (d := d) (by omega) (by omega) (by omega)]⟩ (by dsimp only; omega)
            | exact ih_6 (r + 1, d + -1) ⟨by dsimp only; omega, by dsimp only; omega, by dsimp only; omega, by dsimp only; omega, by rw [← g5, cl_2 (f := lt g) (L := g 0) (q := r) (d := d) (by omega) (by omega) (by omega)]⟩ (by dsimp only; omega)
            | exact ih_6 (r + 1, d + 0) ⟨by dsimp only; omega, by dsimp only; omega, by dsimp only; omega, by dsimp only; omega, by rw [Int.add_zero, ← g5, cl_4 (f := lt g) (L := g 0) (q := r) (d := d) (by omega) (by omega) (by omega)]⟩ (by dsimp only; omega)
        · skip
          refine V_iconst C dX8_bracket_59 ?_
          refine V_goto (tgt := 74) C dX8_bracket_60 (by decide) ?_
          refine V_iadd C dX8_bracket_74 ?_
          refine V_istore C dX8_bracket_75 (by decide) rfl ?_
          refine V_iload C dX8_bracket_77 rfl ?_
          refine V_iload_n C dX8_bracket_79 rfl ?_
          refine V_iadd C dX8_bracket_80 ?_
          refine V_istore C dX8_bracket_81 (by decide) rfl ?_
          refine V_goto (tgt := 6) C dX8_bracket_83 (by decide) ?_
          refine V_drop 7 ?_
          first
          | exact ih_6 (r + 1, d + 1) ⟨by dsimp only; omega, by dsimp only; omega, by dsimp only; omega, by dsimp only; omega, by rw [← g5, cl_3 (f := lt g) (L := g 0) (q := r) (d := d) (by omega) (by omega) (by omega)]⟩ (by dsimp only; omega)
          | exact ih_6 (r + 1, d + -1) ⟨by dsimp only; omega, by dsimp only; omega, by dsimp only; omega, by dsimp only; omega, by rw [← g5, cl_2 (f := lt g) (L := g 0) (q := r) (d := d) (by omega) (by omega) (by omega)]⟩ (by dsimp only; omega)
          | exact ih_6 (r + 1, d + 0) ⟨by dsimp only; omega, by dsimp only; omega, by dsimp only; omega, by dsimp only; omega, by rw [Int.add_zero, ← g5, cl_4 (f := lt g) (L := g 0) (q := r) (d := d) (by omega) (by omega) (by omega)]⟩ (by dsimp only; omega)
      · skip
        refine V_iload C dX8_bracket_47 rfl ?_
        exact V_iret C R dX8_bracket_49 (zO_i (by rw [← g5, cl_1 (f := lt g) (L := g 0) (q := r) (by omega) (by omega) (by omega), cv_n (by omega)]))

theorem op_c2 {f : Int → Int} {L c : Int} (hL : 0 ≤ L) (hc : 0 ≤ c ∧ (c < L ∨ (c = 0 ∧ L = 0))) : op f L L (if 0 < L ∧ f c = 41 then c - 1 else c) 0 = op f L c c 0 := by
  rcases hc with ⟨h0, h | ⟨h1, h2⟩⟩
  · rw [op_cc hL ⟨h0, h⟩, atv_at h0 h]
    by_cases e : f c = 41
    · rw [if_pos e, if_pos ⟨by omega, e⟩]
    · rw [if_neg e, if_neg (fun q => e q.2)]
  · subst h1; subst h2; rfl
