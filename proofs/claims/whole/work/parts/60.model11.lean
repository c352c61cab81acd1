/-- the keys of a row, struck one after another: how many were refused, and what is left -/
def plS (a : Int → Int) (t : Int × zM × (Int → Int)) : Nat → Int × zM × (Int → Int)
  | 0 => t
  | k + 1 => ((plS a t k).1 + (if (kyM (plS a t k).2.1 (a k)).1 < 0 then 1 else 0), (kyM (plS a t k).2.1 (a k)).2, kyR (plS a t k).2.1 (a k) (plS a t k).2.2)
theorem plS_r {a : Int → Int} {t : Int × zM × (Int → Int)} (h : t.1 = 0) : ∀ k : Nat, 0 ≤ (plS a t k).1 ∧ (plS a t k).1 ≤ k
  | 0 => by rw [plS, h]; exact ⟨by decide, by decide⟩
  | k + 1 => by
    have := plS_r (a := a) h k
    unfold plS; dsimp only
    split <;> omega
theorem kyM_r {s : zM} {x : Int} : -4 ≤ (kyM s x).1 ∧ (kyM s x).1 ≤ 9 := by
  unfold kyM; split
  · exact kyS_r stM_r _
  · exact stM_r
/-- what `keyed` asks of the state it meets -/
def okK (s : zM) (y : Int) : Prop := okM s ∧ ((stM s y).1 = 9 → 0 ≤ sG (stM s y).2 128 ∧ sG (stM s y).2 128 ≤ 30) ∧ (∀ j, rng (sG (stM s y).2 j)) ∧ ((stM s y).1 = 9 → ∀ k : Nat, (k : Int) < sG (stM s y).2 128 → (okM (kyS (fun j => sG (stM s y).2 (129 + j)) (stM s y) k).2 ∧ 0 ≤ sG (stM s y).2 (129 + k) ∧ sG (stM s y).2 (129 + k) ≤ 255))
theorem kyR_rng {s : zM} {x : Int} {ag : Int → Int} (h : ∀ j, rng (ag j)) (h2 : ∀ j, rng (sG (stM s x).2 j)) : ∀ j, rng (kyR s x ag j) := by
  unfold kyR; split
  · exact zcp_rng h2 h
  · exact h

set_option maxRecDepth 100000 in
theorem m_X8_play (G : zG) {un td ku : Int} {g ah ag tp co wy th kp ka ln sn it mv : Int → Int} {rest : List va_E}  (hsn : ∀ j, 0 ≤ sn j ∧ sn j ≤ 24) (hln : ∀ j, rng (ln j)) (hit : ∀ j, rngL (it j)) (hmv : ∀ j, rngL (mv j)) {s a i n : Int} (hs : rng s) (ha : rng a) (hi : rng i) (hn : rng n) (hag : ∀ j, rng (ag j)) (hall : (0 ≤ s ∧ s ≤ 3 ∧ 0 ≤ a ∧ a ≤ 3 ∧ 1 ≤ n ∧ n ≤ 24) ∧ 0 ≤ whM ln sn s a i n → (∀ k, 0 ≤ k → k < n → 32 ≤ it (24 * s + i + k) ∧ it (24 * s + i + k) ≤ 126) → ∀ k : Nat, (k : Int) < n → okK (plS (fun j => it (24 * s + i + j)) ((0, (un, g, ah), ag) : Int × zM × (Int → Int)) k).2.1 (it (24 * s + i + k))) : zMet G yX8_play cX8_play 9 (some .int) 9 205 [.ref (G.ad 0), .int (iI s), .int (iI a), .int (iI i), .int (iI n)] (mdL G un td ku g ah ag tp co wy th kp ka ln sn it mv ++ rest) (fun r cs' => (¬ (0 ≤ s ∧ s ≤ 3 ∧ 0 ≤ a ∧ a ≤ 3 ∧ 1 ≤ n ∧ n ≤ 24) → zO (.int (iI (-1))) (mdL G un td ku g ah ag tp co wy th kp ka ln sn it mv ++ rest) r cs') ∧ ((0 ≤ s ∧ s ≤ 3 ∧ 0 ≤ a ∧ a ≤ 3 ∧ 1 ≤ n ∧ n ≤ 24) → whM ln sn s a i n < 0 → zO (.int (iI (whM ln sn s a i n))) (mdL G un td ku g ah ag tp co wy th kp ka ln sn it mv ++ rest) r cs') ∧ ((0 ≤ s ∧ s ≤ 3 ∧ 0 ≤ a ∧ a ≤ 3 ∧ 1 ≤ n ∧ n ≤ 24) → 0 ≤ whM ln sn s a i n → ¬ (∀ k, 0 ≤ k → k < n → 32 ≤ it (24 * s + i + k) ∧ it (24 * s + i + k) ≤ 126) → zO (.int (iI (-2))) (mdL G un td ku g ah ag tp co wy th kp ka ln sn it mv ++ rest) r cs') ∧ ((0 ≤ s ∧ s ≤ 3 ∧ 0 ≤ a ∧ a ≤ 3 ∧ 1 ≤ n ∧ n ≤ 24) → 0 ≤ whM ln sn s a i n → (∀ k, 0 ≤ k → k < n → 32 ≤ it (24 * s + i + k) ∧ it (24 * s + i + k) ≤ 126) → zO (.int (iI (plS (fun j => it (24 * s + i + j)) ((0, (un, g, ah), ag) : Int × zM × (Int → Int)) n.toNat).1)) (mdL G (sU ((plS (fun j => it (24 * s + i + j)) ((0, (un, g, ah), ag) : Int × zM × (Int → Int)) n.toNat)).2.1) td ku (sG ((plS (fun j => it (24 * s + i + j)) ((0, (un, g, ah), ag) : Int × zM × (Int → Int)) n.toNat)).2.1) (sH ((plS (fun j => it (24 * s + i + j)) ((0, (un, g, ah), ag) : Int × zM × (Int → Int)) n.toNat)).2.1) (((plS (fun j => it (24 * s + i + j)) ((0, (un, g, ah), ag) : Int × zM × (Int → Int)) n.toNat)).2.2) tp co wy th kp ka ln sn it mv ++ rest) r cs')) := by
  refine zMet.of (by decide) (Nat.le_of_ble_eq_true rfl) ?_
  intro E C R
  have C : zC G E RX8 cX8_play 9 9 205 := C
  show V G E 0 [some (.ref (G.ad 0)), some (.int (iI s)), some (.int (iI a)), some (.int (iI i)), some (.int (iI n)), none, none, none, none] [] (mdL G un td ku g ah ag tp co wy th kp ka ln sn it mv ++ rest)
  have hw := whM_r (ln := ln) (sn := sn) (s := s) (a := a) (i := i) (n := n)
  have hwo := whM_ok (ln := ln) (sn := sn) (s := s) (a := a) (i := i) (n := n)
  have hss := hsn s
  refine V_iload_n C dX8_play_0 rfl ?_
  refine V_callS C lk_X8_239 (m_X8_isSheet G hs) dX8_play_1 rfl rfl (by decide) (Nat.le_of_ble_eq_true rfl) (kO ?_)
  refine V_if_eqB (tgt := 32) C dX8_play_4 (by decide) (fun c_4 => ?_) (fun c_4 => ?_)
  · skip
    refine V_iconst C dX8_play_32 ?_
    exact V_iret C R dX8_play_33 ⟨fun _ => ⟨rfl, rfl⟩, fun h => absurd h (by omega), fun h => absurd h (by omega), fun h => absurd h (by omega)⟩
  · skip
    refine V_iload_n C dX8_play_7 rfl ?_
    refine V_i2l C dX8_play_8 (by omega) ?_
    refine V_lconst (z := 0) C dX8_play_9 rfl ?_
    refine V_ldc2 (z := 3) C wk_X8_206 rfl dX8_play_10 ?_
    refine V_callS C lk_X8_58 (m_X8_in G (by first | omega | exact hit _) (by omega) (by omega)) dX8_play_13 rfl rfl (by decide) (Nat.le_of_ble_eq_true rfl) (kO ?_)
    refine V_if_eqB (tgt := 32) C dX8_play_16 (by decide) (fun c_16 => ?_) (fun c_16 => ?_)
    · skip
      refine V_iconst C dX8_play_32 ?_
      exact V_iret C R dX8_play_33 ⟨fun _ => ⟨rfl, rfl⟩, fun h => absurd h (by omega), fun h => absurd h (by omega), fun h => absurd h (by omega)⟩
    · skip
      refine V_iload C dX8_play_19 rfl ?_
      refine V_i2l C dX8_play_21 (by omega) ?_
      refine V_lconst (z := 1) C dX8_play_22 rfl ?_
      refine V_ldc2 (z := 24) C wk_X8_249 rfl dX8_play_23 ?_
      refine V_callS C lk_X8_58 (m_X8_in G (by first | omega | exact hit _) (by omega) (by omega)) dX8_play_26 rfl rfl (by decide) (Nat.le_of_ble_eq_true rfl) (kO ?_)
      refine V_if_neB (tgt := 34) C dX8_play_29 (by decide) (fun c_29 => ?_) (fun c_29 => ?_)
      · skip
        refine V_aload_n C dX8_play_34 rfl ?_
        refine V_iload_n C dX8_play_35 rfl ?_
        refine V_iload_n C dX8_play_36 rfl ?_
        refine V_iload_n C dX8_play_37 rfl ?_
        refine V_iload C dX8_play_38 rfl ?_
        refine V_callV C lk_X8_242 (m_X8_why G hsn hln hit hmv (by omega) (by omega) (by omega) (by omega)) dX8_play_40 rfl rfl rfl rfl (by decide) (Nat.le_of_ble_eq_true rfl) (kO ?_)
        refine V_istore C dX8_play_43 (by decide) rfl ?_
        refine V_iload C dX8_play_45 rfl ?_
        refine V_if_ge (tgt := 53) C dX8_play_47 (by decide) (by omega) (fun c_47 => ?_) (fun c_47 => ?_)
        · skip
          refine V_bipush C dX8_play_53 (by decide) ?_
          refine V_iload_n C dX8_play_55 rfl ?_
          refine V_imul C dX8_play_56 ?_
          refine V_iload_n C dX8_play_57 rfl ?_
          refine V_iadd C dX8_play_58 ?_
          refine V_istore C dX8_play_59 (by decide) rfl ?_
          refine V_iconst C dX8_play_61 ?_
          refine V_istore C dX8_play_62 (by decide) rfl ?_
          refine V_loop (α := Int) (fun x => (200 - x).toNat) (fun x => 0 ≤ x ∧ x ≤ n ∧ ∀ k, 0 ≤ k → k < x → 32 ≤ it (24 * s + i + k) ∧ it (24 * s + i + k) ≤ 126) (fun x => V G E 64 [some (.ref (G.ad 0)), some (.int (iI s)), some (.int (iI a)), some (.int (iI i)), some (.int (iI n)), some (.int (iI (whM ln sn s a i n))), some (.int (iI (24 * s + i))), some (.int (iI x)), none] [] (mdL G un td ku g ah ag tp co wy th kp ka ln sn it mv ++ rest)) ?_ 0 ⟨by omega, by omega, fun k h1 h2 => by omega⟩
          rintro q ⟨g1, g2, g3⟩ ih_64
          refine V_iload C dX8_play_64 rfl ?_
          refine V_iload C dX8_play_66 rfl ?_
          refine V_icmp_ge (tgt := 102) C dX8_play_68 (by decide) (by omega) (by omega) (fun c_68 => ?_) (fun c_68 => ?_)
          · skip
            clear ih_64
            have hal : (∀ k, 0 ≤ k → k < n → 32 ≤ it (24 * s + i + k) ∧ it (24 * s + i + k) ≤ 126) := fun k h1 h2 => g3 k h1 (by omega)
            refine V_iconst C dX8_play_102 ?_
            refine V_istore C dX8_play_103 (by decide) rfl ?_
            refine V_iconst C dX8_play_105 ?_
            refine V_istore C dX8_play_106 (by decide) rfl ?_
            show V G E 108 [some (.ref (G.ad 0)), some (.int (iI s)), some (.int (iI a)), some (.int (iI i)), some (.int (iI n)), some (.int (iI (whM ln sn s a i n))), some (.int (iI (24 * s + i))), some (.int (iI (plS (fun j => it (24 * s + i + j)) ((0, (un, g, ah), ag) : Int × zM × (Int → Int)) 0).1)), some (.int (iI ((0 : Nat) : Int)))] [] (mdL G (sU ((plS (fun j => it (24 * s + i + j)) ((0, (un, g, ah), ag) : Int × zM × (Int → Int)) 0)).2.1) td ku (sG ((plS (fun j => it (24 * s + i + j)) ((0, (un, g, ah), ag) : Int × zM × (Int → Int)) 0)).2.1) (sH ((plS (fun j => it (24 * s + i + j)) ((0, (un, g, ah), ag) : Int × zM × (Int → Int)) 0)).2.1) (((plS (fun j => it (24 * s + i + j)) ((0, (un, g, ah), ag) : Int × zM × (Int → Int)) 0)).2.2) tp co wy th kp ka ln sn it mv ++ rest)
            refine V_loop (α := Nat) (fun x => 200 - x) (fun x => (x : Int) ≤ n ∧ ∀ j, rng ((plS (fun j => it (24 * s + i + j)) ((0, (un, g, ah), ag) : Int × zM × (Int → Int)) x).2.2 j)) (fun x => V G E 108 [some (.ref (G.ad 0)), some (.int (iI s)), some (.int (iI a)), some (.int (iI i)), some (.int (iI n)), some (.int (iI (whM ln sn s a i n))), some (.int (iI (24 * s + i))), some (.int (iI (plS (fun j => it (24 * s + i + j)) ((0, (un, g, ah), ag) : Int × zM × (Int → Int)) x).1)), some (.int (iI (x : Int)))] [] (mdL G (sU ((plS (fun j => it (24 * s + i + j)) ((0, (un, g, ah), ag) : Int × zM × (Int → Int)) x)).2.1) td ku (sG ((plS (fun j => it (24 * s + i + j)) ((0, (un, g, ah), ag) : Int × zM × (Int → Int)) x)).2.1) (sH ((plS (fun j => it (24 * s + i + j)) ((0, (un, g, ah), ag) : Int × zM × (Int → Int)) x)).2.1) (((plS (fun j => it (24 * s + i + j)) ((0, (un, g, ah), ag) : Int × zM × (Int → Int)) x)).2.2) tp co wy th kp ka ln sn it mv ++ rest)) ?_ 0 ⟨by omega, hag⟩
            rintro r ⟨k1, hagr⟩ ih_108
            have hpr := plS_r (a := (fun j => it (24 * s + i + j))) (t := ((0, (un, g, ah), ag) : Int × zM × (Int → Int))) rfl r
            refine V_iload C dX8_play_108 rfl ?_
            refine V_iload C dX8_play_110 rfl ?_
            refine V_icmp_ge (tgt := 149) C dX8_play_112 (by decide) (by omega) (by omega) (fun c_112 => ?_) (fun c_112 => ?_)
            · skip
              refine V_iload C dX8_play_149 rfl ?_
              exact V_iret C R dX8_play_151 ⟨fun h => absurd (by omega) h, fun _ h => absurd h (by omega), fun _ _ h => absurd hal h, fun _ _ _ => by rw [show n.toNat = r by omega]; exact ⟨rfl, rfl⟩⟩
            · skip
              have hok := hall ⟨by omega, by omega⟩ hal r (by omega)
              have hkr := hal r (by omega) (by omega)
              have hyr := kyM_r (s := (plS (fun j => it (24 * s + i + j)) ((0, (un, g, ah), ag) : Int × zM × (Int → Int)) r).2.1) (x := it (24 * s + i + r))
              refine V_iload C dX8_play_115 rfl ?_
              refine V_aload_n C dX8_play_117 rfl ?_
              refine V_aload_n C dX8_play_118 rfl ?_
              refine vg_X8_47 C dX8_play_119 rfl rfl ?_
              refine V_iload C dX8_play_122 rfl ?_
              refine V_iload C dX8_play_124 rfl ?_
              refine V_iadd C dX8_play_126 ?_
              refine V_lald C dX8_play_127 rfl (by omega) (by omega) (by decide) (by repeat' (first | with_reducible assumption | refine zup_rng ?_ (by first | omega | exact hg _) | refine zcp_rng ?_ ?_ | refine ovr_rng ?_ (by omega) | refine zcp_rngL ?_ ?_ | refine zup_rngL ?_ (by omega))) (fun r_127 => ?_)
              refine V_l2i C dX8_play_128 ?_
              refine V_callV C lk_X8_200 (m_X8_keyed G hagr hok.1 (by omega) hok.2.1 hok.2.2.1 hok.2.2.2) dX8_play_129 rfl rfl rfl rfl (by decide) (Nat.le_of_ble_eq_true rfl) (kO ?_)
              show V G E 132 [some (.ref (G.ad 0)), some (.int (iI s)), some (.int (iI a)), some (.int (iI i)), some (.int (iI n)), some (.int (iI (whM ln sn s a i n))), some (.int (iI (24 * s + i))), some (.int (iI (plS (fun j => it (24 * s + i + j)) ((0, (un, g, ah), ag) : Int × zM × (Int → Int)) r).1)), some (.int (iI (r : Int)))] [.int (iI (kyM (plS (fun j => it (24 * s + i + j)) ((0, (un, g, ah), ag) : Int × zM × (Int → Int)) r).2.1 (it (24 * s + i + r))).1), .int (iI (plS (fun j => it (24 * s + i + j)) ((0, (un, g, ah), ag) : Int × zM × (Int → Int)) r).1)] (mdL G (sU (kyM (plS (fun j => it (24 * s + i + j)) ((0, (un, g, ah), ag) : Int × zM × (Int → Int)) r).2.1 (it (24 * s + i + r))).2) td ku (sG (kyM (plS (fun j => it (24 * s + i + j)) ((0, (un, g, ah), ag) : Int × zM × (Int → Int)) r).2.1 (it (24 * s + i + r))).2) (sH (kyM (plS (fun j => it (24 * s + i + j)) ((0, (un, g, ah), ag) : Int × zM × (Int → Int)) r).2.1 (it (24 * s + i + r))).2) (kyR (plS (fun j => it (24 * s + i + j)) ((0, (un, g, ah), ag) : Int × zM × (Int → Int)) r).2.1 (it (24 * s + i + r)) (plS (fun j => it (24 * s + i + j)) ((0, (un, g, ah), ag) : Int × zM × (Int → Int)) r).2.2) tp co wy th kp ka ln sn it mv ++ rest)
              refine V_if_ge (tgt := 139) C dX8_play_132 (by decide) (by omega) (fun c_132 => ?_) (fun c_132 => ?_)
              · skip
                refine V_iconst C dX8_play_139 ?_
                refine V_iadd C dX8_play_140 ?_
                refine V_istore C dX8_play_141 (by decide) rfl ?_
                refine V_iinc C dX8_play_143 rfl (by decide) rfl ?_
                refine V_goto (tgt := 108) C dX8_play_146 (by decide) ?_
                have H : V G E 108 [some (.ref (G.ad 0)), some (.int (iI s)), some (.int (iI a)), some (.int (iI i)), some (.int (iI n)), some (.int (iI (whM ln sn s a i n))), some (.int (iI (24 * s + i))), some (.int (iI (plS (fun j => it (24 * s + i + j)) ((0, (un, g, ah), ag) : Int × zM × (Int → Int)) (r + 1)).1)), some (.int (iI ((r + 1 : Nat) : Int)))] [] (mdL G (sU ((plS (fun j => it (24 * s + i + j)) ((0, (un, g, ah), ag) : Int × zM × (Int → Int)) (r + 1))).2.1) td ku (sG ((plS (fun j => it (24 * s + i + j)) ((0, (un, g, ah), ag) : Int × zM × (Int → Int)) (r + 1))).2.1) (sH ((plS (fun j => it (24 * s + i + j)) ((0, (un, g, ah), ag) : Int × zM × (Int → Int)) (r + 1))).2.1) (((plS (fun j => it (24 * s + i + j)) ((0, (un, g, ah), ag) : Int × zM × (Int → Int)) (r + 1))).2.2) tp co wy th kp ka ln sn it mv ++ rest) := ih_108 (r + 1) ⟨by omega, kyR_rng hagr hok.2.2.1⟩ (by omega)
                first
                | (rw [show (plS (fun j => it (24 * s + i + j)) ((0, (un, g, ah), ag) : Int × zM × (Int → Int)) (r + 1)).1 = (plS (fun j => it (24 * s + i + j)) ((0, (un, g, ah), ag) : Int × zM × (Int → Int)) r).1 + 1 from (by show (plS (fun j => it (24 * s + i + j)) ((0, (un, g, ah), ag) : Int × zM × (Int → Int)) r).1 + (if (kyM (plS (fun j => it (24 * s + i + j)) ((0, (un, g, ah), ag) : Int × zM × (Int → Int)) r).2.1 (it (24 * s + i + r))).1 < 0 then (1 : Int) else 0) = _; rw [if_pos (by omega)])] at H; exact H)
                | (rw [show (plS (fun j => it (24 * s + i + j)) ((0, (un, g, ah), ag) : Int × zM × (Int → Int)) (r + 1)).1 = (plS (fun j => it (24 * s + i + j)) ((0, (un, g, ah), ag) : Int × zM × (Int → Int)) r).1 + 0 from (by show (plS (fun j => it (24 * s + i + j)) ((0, (un, g, ah), ag) : Int × zM × (Int → Int)) r).1 + (if (kyM (plS (fun j => it (24 * s + i + j)) ((0, (un, g, ah), ag) : Int × zM × (Int → Int)) r).2.1 (it (24 * s + i + r))).1 < 0 then (1 : Int) else 0) = _; rw [if_neg (by omega)])] at H; exact H)
              · skip
                refine V_iconst C dX8_play_135 ?_
                refine V_goto (tgt := 140) C dX8_play_136 (by decide) ?_
                refine V_iadd C dX8_play_140 ?_
                refine V_istore C dX8_play_141 (by decide) rfl ?_
                refine V_iinc C dX8_play_143 rfl (by decide) rfl ?_
                refine V_goto (tgt := 108) C dX8_play_146 (by decide) ?_
                have H : V G E 108 [some (.ref (G.ad 0)), some (.int (iI s)), some (.int (iI a)), some (.int (iI i)), some (.int (iI n)), some (.int (iI (whM ln sn s a i n))), some (.int (iI (24 * s + i))), some (.int (iI (plS (fun j => it (24 * s + i + j)) ((0, (un, g, ah), ag) : Int × zM × (Int → Int)) (r + 1)).1)), some (.int (iI ((r + 1 : Nat) : Int)))] [] (mdL G (sU ((plS (fun j => it (24 * s + i + j)) ((0, (un, g, ah), ag) : Int × zM × (Int → Int)) (r + 1))).2.1) td ku (sG ((plS (fun j => it (24 * s + i + j)) ((0, (un, g, ah), ag) : Int × zM × (Int → Int)) (r + 1))).2.1) (sH ((plS (fun j => it (24 * s + i + j)) ((0, (un, g, ah), ag) : Int × zM × (Int → Int)) (r + 1))).2.1) (((plS (fun j => it (24 * s + i + j)) ((0, (un, g, ah), ag) : Int × zM × (Int → Int)) (r + 1))).2.2) tp co wy th kp ka ln sn it mv ++ rest) := ih_108 (r + 1) ⟨by omega, kyR_rng hagr hok.2.2.1⟩ (by omega)
                first
                | (rw [show (plS (fun j => it (24 * s + i + j)) ((0, (un, g, ah), ag) : Int × zM × (Int → Int)) (r + 1)).1 = (plS (fun j => it (24 * s + i + j)) ((0, (un, g, ah), ag) : Int × zM × (Int → Int)) r).1 + 1 from (by show (plS (fun j => it (24 * s + i + j)) ((0, (un, g, ah), ag) : Int × zM × (Int → Int)) r).1 + (if (kyM (plS (fun j => it (24 * s + i + j)) ((0, (un, g, ah), ag) : Int × zM × (Int → Int)) r).2.1 (it (24 * s + i + r))).1 < 0 then (1 : Int) else 0) = _; rw [if_pos (by omega)])] at H; exact H)
                | (rw [show (plS (fun j => it (24 * s + i + j)) ((0, (un, g, ah), ag) : Int × zM × (Int → Int)) (r + 1)).1 = (plS (fun j => it (24 * s + i + j)) ((0, (un, g, ah), ag) : Int × zM × (Int → Int)) r).1 + 0 from (by show (plS (fun j => it (24 * s + i + j)) ((0, (un, g, ah), ag) : Int × zM × (Int → Int)) r).1 + (if (kyM (plS (fun j => it (24 * s + i + j)) ((0, (un, g, ah), ag) : Int × zM × (Int → Int)) r).2.1 (it (24 * s + i + r))).1 < 0 then (1 : Int) else 0) = _; rw [if_neg (by omega)])] at H; exact H)
          · skip
            refine V_aload_n C dX8_play_71 rfl ?_
            refine vg_X8_47 C dX8_play_72 rfl rfl ?_
            refine V_iload C dX8_play_75 rfl ?_
            refine V_iload C dX8_play_77 rfl ?_
            refine V_iadd C dX8_play_79 ?_
            refine V_lald C dX8_play_80 rfl (by omega) (by omega) (by decide) (by repeat' (first | with_reducible assumption | refine zup_rng ?_ (by first | omega | exact hg _) | refine zcp_rng ?_ ?_ | refine ovr_rng ?_ (by omega) | refine zcp_rngL ?_ ?_ | refine zup_rngL ?_ (by omega))) (fun r_80 => ?_)
            refine V_ldc2 (z := 32) C wk_X8_196 rfl dX8_play_81 ?_
            refine V_ldc2 (z := 126) C wk_X8_198 rfl dX8_play_84 ?_
            refine V_callS C lk_X8_58 (m_X8_in G (by first | omega | exact hit _) (by omega) (by omega)) dX8_play_87 rfl rfl (by decide) (Nat.le_of_ble_eq_true rfl) (kO ?_)
            refine V_if_neB (tgt := 96) C dX8_play_90 (by decide) (fun c_90 => ?_) (fun c_90 => ?_)
            · skip
              refine V_iinc C dX8_play_96 rfl (by decide) rfl ?_
              refine V_goto (tgt := 64) C dX8_play_99 (by decide) ?_
              exact ih_64 (q + 1) ⟨by omega, by omega, fun k h1 h2 => by
                by_cases h : k = q
                · rw [h]; omega
                · exact g3 k h1 (by omega)⟩ (by omega)
            · skip
              refine V_bipush C dX8_play_93 (by decide) ?_
              exact V_iret C R dX8_play_95 ⟨fun h => absurd (by omega) h, fun _ h => absurd h (by omega), fun _ _ _ => ⟨rfl, rfl⟩, fun _ _ h => absurd (h q (by omega) (by omega)) (by omega)⟩
        · skip
          refine V_iload C dX8_play_50 rfl ?_
          exact V_iret C R dX8_play_52 ⟨fun h => absurd (by omega) h, fun _ _ => ⟨rfl, rfl⟩, fun _ h => absurd h (by omega), fun _ h => absurd h (by omega)⟩
      · skip
        refine V_iconst C dX8_play_32 ?_
        exact V_iret C R dX8_play_33 ⟨fun _ => ⟨rfl, rfl⟩, fun h => absurd h (by omega), fun h => absurd h (by omega), fun h => absurd h (by omega)⟩
