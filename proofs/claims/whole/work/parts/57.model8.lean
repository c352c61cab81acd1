set_option maxRecDepth 100000 in
theorem m_X8_keyed (G : zG) {un td ku : Int} {g ah ag tp co wy th kp ka ln sn it mv : Int → Int} {rest : List va_E}  (hag : ∀ j, rng (ag j)) (ho : okM ((un, g, ah) : zM)) {y : Int} (hy : 0 ≤ y ∧ y ≤ 255) (hn : (stM ((un, g, ah) : zM) y).1 = 9 → 0 ≤ (sG (stM ((un, g, ah) : zM) y).2 128) ∧ (sG (stM ((un, g, ah) : zM) y).2 128) ≤ 30) (hgT : ∀ j, rng (sG (stM ((un, g, ah) : zM) y).2 j)) (hk : (stM ((un, g, ah) : zM) y).1 = 9 → ∀ k : Nat, (k : Int) < (sG (stM ((un, g, ah) : zM) y).2 128) → (okM (kyS (fun j => sG (stM ((un, g, ah) : zM) y).2 (129 + j)) (stM ((un, g, ah) : zM) y) k).2 ∧ 0 ≤ sG (stM ((un, g, ah) : zM) y).2 (129 + k) ∧ sG (stM ((un, g, ah) : zM) y).2 (129 + k) ≤ 255)) : zMet G yX8_keyed cX8_keyed 5 (some .int) 8 181 [.ref (G.ad 0), .int (iI y)] (mdL G un td ku g ah ag tp co wy th kp ka ln sn it mv ++ rest) (zO (.int (iI (kyM ((un, g, ah) : zM) y).1)) (mdL G (sU ((kyM ((un, g, ah) : zM) y).2)) td ku (sG ((kyM ((un, g, ah) : zM) y).2)) (sH ((kyM ((un, g, ah) : zM) y).2)) (kyR ((un, g, ah) : zM) y ag) tp co wy th kp ka ln sn it mv ++ rest)) := by
  refine zMet.of (by decide) (Nat.le_of_ble_eq_true rfl) ?_
  intro E C R
  have C : zC G E RX8 cX8_keyed 5 8 181 := C
  show V G E 0 [some (.ref (G.ad 0)), some (.int (iI y)), none, none, none] [] (mdL G un td ku g ah ag tp co wy th kp ka ln sn it mv ++ rest)
  have hr := stM_r (s := ((un, g, ah) : zM)) (x := y)
  refine V_aload_n C dX8_keyed_0 rfl ?_
  refine V_iload_n C dX8_keyed_1 rfl ?_
  refine V_callV C lk_X8_193 (m_X8_strikes G ho hy) dX8_keyed_2 rfl rfl rfl rfl (by decide) (Nat.le_of_ble_eq_true rfl) (kO ?_)
  refine V_istore_n C dX8_keyed_5 (by decide) rfl ?_
  refine V_iload_n C dX8_keyed_6 rfl ?_
  refine V_bipush C dX8_keyed_7 (by decide) ?_
  refine V_icmp_eq (tgt := 14) C dX8_keyed_9 (by decide) (by omega) (by omega) (fun c_9 => ?_) (fun c_9 => ?_)
  · skip
    have hn9 := hn c_9
    refine V_aload_n C dX8_keyed_14 rfl ?_
    refine vg_X8_7 C dX8_keyed_15 rfl rfl ?_
    refine V_sipush C dX8_keyed_18 (by decide) ?_
    refine V_iald C dX8_keyed_21 rfl (by omega) (by omega) (by decide) (by repeat' (first | with_reducible assumption | refine zup_rng ?_ (by first | omega | exact hg _) | refine zcp_rng ?_ ?_)) (fun r_21 => ?_)
    refine V_istore_n C dX8_keyed_22 (by decide) rfl ?_
    refine V_iconst C dX8_keyed_23 ?_
    refine V_istore C dX8_keyed_24 (by decide) rfl ?_
    suffices H_26 : V G E 26 [some (.ref (G.ad 0)), some (.int (iI y)), some (.int (iI (stM ((un, g, ah) : zM) y).1)), some (.int (iI (sG (stM ((un, g, ah) : zM) y).2 128))), some (.int (iI (0)))] [] (mdL G (sU (stM ((un, g, ah) : zM) y).2) td ku (sG (stM ((un, g, ah) : zM) y).2) (sH (stM ((un, g, ah) : zM) y).2) (zcp (sG (stM ((un, g, ah) : zM) y).2) (ag) (129) (0) ((0) - (0))) tp co wy th kp ka ln sn it mv ++ rest) by
      rw [show zcp (sG (stM ((un, g, ah) : zM) y).2) (ag) (129) (0) (0 - (0)) = ag from by rw [Int.sub_self]; exact zcp_0] at H_26
      exact H_26
    refine V_loop (α := Int) (fun x => (100000 - x).toNat) (fun x => 0 ≤ x ∧ x ≤ (sG (stM ((un, g, ah) : zM) y).2 128)) (fun x => V G E 26 [some (.ref (G.ad 0)), some (.int (iI y)), some (.int (iI (stM ((un, g, ah) : zM) y).1)), some (.int (iI (sG (stM ((un, g, ah) : zM) y).2 128))), some (.int (iI x))] [] (mdL G (sU (stM ((un, g, ah) : zM) y).2) td ku (sG (stM ((un, g, ah) : zM) y).2) (sH (stM ((un, g, ah) : zM) y).2) (zcp (sG (stM ((un, g, ah) : zM) y).2) (ag) (129) (0) (x - (0))) tp co wy th kp ka ln sn it mv ++ rest)) ?_ (0) ⟨by omega, by omega⟩
    rintro q ⟨g1, g2⟩ ih_26
    refine V_iload C dX8_keyed_26 rfl ?_
    refine V_iload_n C dX8_keyed_28 rfl ?_
    refine V_icmp_ge (tgt := 56) C dX8_keyed_29 (by decide) (by omega) (by omega) (fun c_29 => ?_) (fun c_29 => ?_)
    · skip
      have hqn : q = (sG (stM ((un, g, ah) : zM) y).2 128) := by omega
      clear ih_26
      refine V_iconst C dX8_keyed_56 ?_
      refine V_istore C dX8_keyed_57 (by decide) rfl ?_
      suffices H_59 : V G E 59 [some (.ref (G.ad 0)), some (.int (iI y)), some (.int (iI (kyS (fun j => sG (stM ((un, g, ah) : zM) y).2 (129 + j)) (stM ((un, g, ah) : zM) y) 0).1)), some (.int (iI (sG (stM ((un, g, ah) : zM) y).2 128))), some (.int (iI ((0 : Nat) : Int)))] [] (mdL G (sU ((kyS (fun j => sG (stM ((un, g, ah) : zM) y).2 (129 + j)) (stM ((un, g, ah) : zM) y) 0).2)) td ku (sG ((kyS (fun j => sG (stM ((un, g, ah) : zM) y).2 (129 + j)) (stM ((un, g, ah) : zM) y) 0).2)) (sH ((kyS (fun j => sG (stM ((un, g, ah) : zM) y).2 (129 + j)) (stM ((un, g, ah) : zM) y) 0).2)) (zcp (sG (stM ((un, g, ah) : zM) y).2) ag 129 0 ((sG (stM ((un, g, ah) : zM) y).2 128))) tp co wy th kp ka ln sn it mv ++ rest) by
        rw [hqn, Int.sub_zero]
        exact H_59
      refine V_loop (α := Nat) (fun x => 1000 - x) (fun x => (x : Int) ≤ (sG (stM ((un, g, ah) : zM) y).2 128)) (fun x => V G E 59 [some (.ref (G.ad 0)), some (.int (iI y)), some (.int (iI (kyS (fun j => sG (stM ((un, g, ah) : zM) y).2 (129 + j)) (stM ((un, g, ah) : zM) y) x).1)), some (.int (iI (sG (stM ((un, g, ah) : zM) y).2 128))), some (.int (iI (x : Int)))] [] (mdL G (sU ((kyS (fun j => sG (stM ((un, g, ah) : zM) y).2 (129 + j)) (stM ((un, g, ah) : zM) y) x).2)) td ku (sG ((kyS (fun j => sG (stM ((un, g, ah) : zM) y).2 (129 + j)) (stM ((un, g, ah) : zM) y) x).2)) (sH ((kyS (fun j => sG (stM ((un, g, ah) : zM) y).2 (129 + j)) (stM ((un, g, ah) : zM) y) x).2)) (zcp (sG (stM ((un, g, ah) : zM) y).2) ag 129 0 ((sG (stM ((un, g, ah) : zM) y).2 128))) tp co wy th kp ka ln sn it mv ++ rest)) ?_ 0 (by omega)
      rintro r k1 ih_59
      have hkr := kyS_r (a := (fun j => sG (stM ((un, g, ah) : zM) y).2 (129 + j))) hr r
      have hz : (r : Int) < (sG (stM ((un, g, ah) : zM) y).2 128) → zcp (sG (stM ((un, g, ah) : zM) y).2) ag 129 0 ((sG (stM ((un, g, ah) : zM) y).2 128)) (r : Int) = sG (stM ((un, g, ah) : zM) y).2 (129 + r) := fun h => by rw [zcp_in (by omega) (by omega), Int.sub_zero]
      have hgA : ∀ j, rng (zcp (sG (stM ((un, g, ah) : zM) y).2) ag 129 0 ((sG (stM ((un, g, ah) : zM) y).2 128)) j) := zcp_rng hgT hag
      refine V_iload C dX8_keyed_59 rfl ?_
      refine V_iload_n C dX8_keyed_61 rfl ?_
      refine V_icmp_ge (tgt := 89) C dX8_keyed_62 (by decide) (by omega) (by omega) (fun c_62 => ?_) (fun c_62 => ?_)
      · skip
        refine V_iload_n C dX8_keyed_89 rfl ?_
        exact V_iret C R dX8_keyed_90 (by unfold kyM kyR; rw [if_pos (by assumption), if_pos (by assumption)]; rw [show (sG (stM ((un, g, ah) : zM) y).2 128).toNat = r + ((sG (stM ((un, g, ah) : zM) y).2 128).toNat - r) by omega]; first | (rw [kyS_st (by assumption)]; exact ⟨rfl, rfl⟩) | (rw [show r + ((sG (stM ((un, g, ah) : zM) y).2 128).toNat - r) = r by omega]; exact ⟨rfl, rfl⟩))
      · skip
        refine V_iload_n C dX8_keyed_65 rfl ?_
        refine V_bipush C dX8_keyed_66 (by decide) ?_
        refine V_icmp_eq (tgt := 89) C dX8_keyed_68 (by decide) (by omega) (by omega) (fun c_68 => ?_) (fun c_68 => ?_)
        · skip
          refine V_iload_n C dX8_keyed_89 rfl ?_
          exact V_iret C R dX8_keyed_90 (by unfold kyM kyR; rw [if_pos (by assumption), if_pos (by assumption)]; rw [show (sG (stM ((un, g, ah) : zM) y).2 128).toNat = r + ((sG (stM ((un, g, ah) : zM) y).2 128).toNat - r) by omega]; first | (rw [kyS_st (by assumption)]; exact ⟨rfl, rfl⟩) | (rw [show r + ((sG (stM ((un, g, ah) : zM) y).2 128).toNat - r) = r by omega]; exact ⟨rfl, rfl⟩))
        · skip
          have q4 : (r : Int) < (sG (stM ((un, g, ah) : zM) y).2 128) := by omega
          refine V_aload_n C dX8_keyed_71 rfl ?_
          refine V_aload_n C dX8_keyed_72 rfl ?_
          refine vg_X8_16 C dX8_keyed_73 rfl rfl ?_
          refine V_iload C dX8_keyed_76 rfl ?_
          refine V_iald C dX8_keyed_78 rfl (by omega) (by omega) (by decide) (by repeat' (first | with_reducible assumption | refine zup_rng ?_ (by first | omega | exact hg _) | refine zcp_rng ?_ ?_)) (fun r_78 => ?_)
          rw [hz q4]
          refine V_callV C lk_X8_193 (m_X8_strikes G (hk c_9 r q4).1 (by have := (hk c_9 r q4).2; exact this)) dX8_keyed_79 rfl rfl rfl rfl (by decide) (Nat.le_of_ble_eq_true rfl) (kO ?_)
          refine V_istore_n C dX8_keyed_82 (by decide) rfl ?_
          refine V_iinc C dX8_keyed_83 rfl (by decide) rfl ?_
          refine V_goto (tgt := 59) C dX8_keyed_86 (by decide) ?_
          have q4 : (r : Int) < (sG (stM ((un, g, ah) : zM) y).2 128) := by omega
          have H : V G E 59 [some (.ref (G.ad 0)), some (.int (iI y)), some (.int (iI (kyS (fun j => sG (stM ((un, g, ah) : zM) y).2 (129 + j)) (stM ((un, g, ah) : zM) y) (r + 1)).1)), some (.int (iI (sG (stM ((un, g, ah) : zM) y).2 128))), some (.int (iI ((r + 1 : Nat) : Int)))] [] (mdL G (sU ((kyS (fun j => sG (stM ((un, g, ah) : zM) y).2 (129 + j)) (stM ((un, g, ah) : zM) y) (r + 1)).2)) td ku (sG ((kyS (fun j => sG (stM ((un, g, ah) : zM) y).2 (129 + j)) (stM ((un, g, ah) : zM) y) (r + 1)).2)) (sH ((kyS (fun j => sG (stM ((un, g, ah) : zM) y).2 (129 + j)) (stM ((un, g, ah) : zM) y) (r + 1)).2)) (zcp (sG (stM ((un, g, ah) : zM) y).2) ag 129 0 ((sG (stM ((un, g, ah) : zM) y).2 128))) tp co wy th kp ka ln sn it mv ++ rest) := ih_59 (r + 1) (by omega) (by omega)
          rw [show (kyS (fun j => sG (stM ((un, g, ah) : zM) y).2 (129 + j)) (stM ((un, g, ah) : zM) y) (r + 1)) = stM (kyS (fun j => sG (stM ((un, g, ah) : zM) y).2 (129 + j)) (stM ((un, g, ah) : zM) y) r).2 ((fun j => sG (stM ((un, g, ah) : zM) y).2 (129 + j)) r) from (if_neg (by assumption))] at H
          rw [show ((r + 1 : Nat) : Int) = (r : Int) + 1 from rfl] at H
          exact H
    · skip
      refine V_aload_n C dX8_keyed_32 rfl ?_
      refine vg_X8_16 C dX8_keyed_33 rfl rfl ?_
      refine V_iload C dX8_keyed_36 rfl ?_
      refine V_aload_n C dX8_keyed_38 rfl ?_
      refine vg_X8_7 C dX8_keyed_39 rfl rfl ?_
      refine V_sipush C dX8_keyed_42 (by decide) ?_
      refine V_iload C dX8_keyed_45 rfl ?_
      refine V_iadd C dX8_keyed_47 ?_
      refine V_iald C dX8_keyed_48 rfl (by omega) (by omega) (by decide) (by repeat' (first | with_reducible assumption | refine zup_rng ?_ (by first | omega | exact hg _) | refine zcp_rng ?_ ?_)) (fun r_48 => ?_)
      refine V_iast C dX8_keyed_49 rfl (by omega) (by omega) (by decide) ?_
      refine V_iinc C dX8_keyed_50 rfl (by decide) rfl ?_
      refine V_goto (tgt := 26) C dX8_keyed_53 (by decide) ?_
      have e_26 : zup (zcp (sG (stM ((un, g, ah) : zM) y).2) (ag) (129) (0) (q - (0))) (q) (sG (stM ((un, g, ah) : zM) y).2 (129 + q)) = zcp (sG (stM ((un, g, ah) : zM) y).2) (ag) (129) (0) (q + 1 - (0)) := zcp_st (by rw [Int.sub_zero]) (by omega) (by omega) (by omega)
      have H : V G E 26 [some (.ref (G.ad 0)), some (.int (iI y)), some (.int (iI (stM ((un, g, ah) : zM) y).1)), some (.int (iI (sG (stM ((un, g, ah) : zM) y).2 128))), some (.int (iI (q + 1)))] [] (mdL G (sU (stM ((un, g, ah) : zM) y).2) td ku (sG (stM ((un, g, ah) : zM) y).2) (sH (stM ((un, g, ah) : zM) y).2) (zcp (sG (stM ((un, g, ah) : zM) y).2) (ag) (129) (0) ((q + 1) - (0))) tp co wy th kp ka ln sn it mv ++ rest) := ih_26 (q + 1) ⟨by omega, by omega⟩ (by omega)
      rw [← e_26] at H
      exact H
  · skip
    refine V_iload_n C dX8_keyed_12 rfl ?_
    exact V_iret C R dX8_keyed_13 (by unfold kyM kyR; rw [if_neg (by assumption), if_neg (by assumption)]; exact ⟨rfl, rfl⟩)

theorem bs_or0 (s : Int) : iI s ||| iI 0 = iI s := by
  show iI s ||| 0 = iI s
  simp
def keM (s : zM) (x : Int) : Int × zM := if 32 ≤ x ∧ x ≤ 126 then kyM s x else (-1, s)
def keR (s : zM) (x : Int) (ag : Int → Int) : Int → Int := if 32 ≤ x ∧ x ≤ 126 then kyR s x ag else ag

set_option maxRecDepth 100000 in
theorem m_X8_key (G : zG) {un td ku : Int} {g ah ag tp co wy th kp ka ln sn it mv : Int → Int} {rest : List va_E}  (hag : ∀ j, rng (ag j)) (ho : okM ((un, g, ah) : zM)) {y : Int} (hy : rng y) (hkk : 32 ≤ y ∧ y ≤ 126 → ((stM ((un, g, ah) : zM) y).1 = 9 → 0 ≤ (sG (stM ((un, g, ah) : zM) y).2 128) ∧ (sG (stM ((un, g, ah) : zM) y).2 128) ≤ 30) ∧ (∀ j, rng (sG (stM ((un, g, ah) : zM) y).2 j)) ∧ ((stM ((un, g, ah) : zM) y).1 = 9 → ∀ k : Nat, (k : Int) < (sG (stM ((un, g, ah) : zM) y).2 128) → (okM (kyS (fun j => sG (stM ((un, g, ah) : zM) y).2 (129 + j)) (stM ((un, g, ah) : zM) y) k).2 ∧ 0 ≤ sG (stM ((un, g, ah) : zM) y).2 (129 + k) ∧ sG (stM ((un, g, ah) : zM) y).2 (129 + k) ≤ 255))) : zMet G yX8_key cX8_key 2 (some .int) 9 205 [.ref (G.ad 0), .int (iI y)] (mdL G un td ku g ah ag tp co wy th kp ka ln sn it mv ++ rest) (zO (.int (iI (keM ((un, g, ah) : zM) y).1)) (mdL G (sU ((keM ((un, g, ah) : zM) y).2)) td ku (sG ((keM ((un, g, ah) : zM) y).2)) (sH ((keM ((un, g, ah) : zM) y).2)) (keR ((un, g, ah) : zM) y ag) tp co wy th kp ka ln sn it mv ++ rest)) := by
  refine zMet.of (by decide) (Nat.le_of_ble_eq_true rfl) ?_
  intro E C R
  have C : zC G E RX8 cX8_key 2 9 205 := C
  show V G E 0 [some (.ref (G.ad 0)), some (.int (iI y))] [] (mdL G un td ku g ah ag tp co wy th kp ka ln sn it mv ++ rest)
  refine V_iload_n C dX8_key_0 rfl ?_
  refine V_i2l C dX8_key_1 (by omega) ?_
  refine V_ldc2 (z := 32) C wk_X8_196 rfl dX8_key_2 ?_
  refine V_ldc2 (z := 126) C wk_X8_198 rfl dX8_key_5 ?_
  refine V_callS C lk_X8_58 (m_X8_in G (by omega) (by omega) (by omega)) dX8_key_8 rfl rfl (by decide) (Nat.le_of_ble_eq_true rfl) (kO ?_)
  refine V_if_eqB (tgt := 22) C dX8_key_11 (by decide) (fun c_11 => ?_) (fun c_11 => ?_)
  · skip
    refine V_iconst C dX8_key_22 ?_
    exact V_iret C R dX8_key_23 (by unfold keM keR; first | (rw [if_pos (by assumption), if_pos (by assumption)]; exact ⟨rfl, rfl⟩) | (rw [if_neg (by assumption), if_neg (by assumption)]; exact ⟨rfl, rfl⟩))
  · skip
    refine V_aload_n C dX8_key_14 rfl ?_
    refine V_iload_n C dX8_key_15 rfl ?_
    refine V_callV C lk_X8_200 (m_X8_keyed G hag ho (by omega) (hkk (by omega)).1 (hkk (by omega)).2.1 (hkk (by omega)).2.2) dX8_key_16 rfl rfl rfl rfl (by decide) (Nat.le_of_ble_eq_true rfl) (kO ?_)
    refine V_goto (tgt := 23) C dX8_key_19 (by decide) ?_
    exact V_iret C R dX8_key_23 (by unfold keM keR; first | (rw [if_pos (by assumption), if_pos (by assumption)]; exact ⟨rfl, rfl⟩) | (rw [if_neg (by assumption), if_neg (by assumption)]; exact ⟨rfl, rfl⟩))

set_option maxRecDepth 100000 in
theorem m_X8_type (G : zG) {un td ku : Int} {g ah ag tp co wy th kp ka ln sn it mv : Int → Int} {rest : List va_E}  (htd : 0 ≤ td ∧ td ≤ 60) {x : Int} (hx : rng x) : zMet G yX8_type cX8_type 2 (some .int) 1 25 [.ref (G.ad 0), .int (iI x)] (mdL G un td ku g ah ag tp co wy th kp ka ln sn it mv ++ rest) (zO (.int (iI (if (32 ≤ x ∧ x ≤ 126) then (if td = 60 then -3 else td + 1) else -1))) (mdL G un (if (32 ≤ x ∧ x ≤ 126) ∧ td ≠ 60 then td + 1 else td) ku g ah ag (if (32 ≤ x ∧ x ≤ 126) ∧ td ≠ 60 then zup tp td x else tp) co wy th kp ka ln sn it mv ++ rest)) := by
  refine zMet.of (by decide) (Nat.le_of_ble_eq_true rfl) ?_
  intro E C R
  have C : zC G E RX8 cX8_type 2 1 25 := C
  show V G E 0 [some (.ref (G.ad 0)), some (.int (iI x))] [] (mdL G un td ku g ah ag tp co wy th kp ka ln sn it mv ++ rest)
  refine V_iload_n C dX8_type_0 rfl ?_
  refine V_i2l C dX8_type_1 (by omega) ?_
  refine V_ldc2 (z := 32) C wk_X8_196 rfl dX8_type_2 ?_
  refine V_ldc2 (z := 126) C wk_X8_198 rfl dX8_type_5 ?_
  refine V_callS C lk_X8_58 (m_X8_in G (by omega) (by omega) (by omega)) dX8_type_8 rfl rfl (by decide) (Nat.le_of_ble_eq_true rfl) (kO ?_)
  refine V_if_neB (tgt := 16) C dX8_type_11 (by decide) (fun c_11 => ?_) (fun c_11 => ?_)
  · skip
    refine V_aload_n C dX8_type_16 rfl ?_
    refine vg_X8_203 C dX8_type_17 rfl rfl ?_
    refine V_bipush C dX8_type_20 (by decide) ?_
    refine V_icmp_ne (tgt := 28) C dX8_type_22 (by decide) (by omega) (by omega) (fun c_22 => ?_) (fun c_22 => ?_)
    · skip
      refine V_aload_n C dX8_type_28 rfl ?_
      refine vg_X8_19 C dX8_type_29 rfl rfl ?_
      refine V_aload_n C dX8_type_32 rfl ?_
      refine vg_X8_203 C dX8_type_33 rfl rfl ?_
      refine V_iload_n C dX8_type_36 rfl ?_
      refine V_iast C dX8_type_37 rfl (by omega) (by omega) (by decide) ?_
      refine V_aload_n C dX8_type_38 rfl ?_
      refine V_dup C dX8_type_39 rfl ?_
      refine vg_X8_203 C dX8_type_40 rfl rfl ?_
      refine V_iconst C dX8_type_43 ?_
      refine V_iadd C dX8_type_44 ?_
      refine vp_X8_203 C dX8_type_45 rfl (Nat.le_of_ble_eq_true rfl) ?_
      refine V_aload_n C dX8_type_48 rfl ?_
      refine vg_X8_203 C dX8_type_49 rfl rfl ?_
      exact V_iret C R dX8_type_52 ⟨by rw [if_pos (by assumption), if_neg (by assumption)], by rw [if_pos (by omega), if_pos (by omega)] <;> rfl⟩
    · skip
      refine V_bipush C dX8_type_25 (by decide) ?_
      exact V_iret C R dX8_type_27 ⟨by rw [if_pos (by assumption), if_pos (by assumption)], by rw [if_neg (by omega), if_neg (by omega)] <;> rfl⟩
  · skip
    refine V_iconst C dX8_type_14 ?_
    exact V_iret C R dX8_type_15 ⟨by rw [if_neg (by assumption)], by rw [if_neg (by omega), if_neg (by omega)] <;> rfl⟩

set_option maxRecDepth 100000 in
theorem m_X8_letter (G : zG) {un td ku : Int} {g ah ag tp co wy th kp ka ln sn it mv : Int → Int} {rest : List va_E} (hg : ∀ j, rng (g j))  (hL : 0 ≤ g 0 ∧ g 0 ≤ 60) {x : Int} (hx : rng x) : zMet G yX8_letter cX8_letter 2 (some .int) 1 25 [.ref (G.ad 0), .int (iI x)] (mdL G un td ku g ah ag tp co wy th kp ka ln sn it mv ++ rest) (zO (.int (iI (if 0 ≤ x ∧ x < g 0 then g (1 + x) else -1))) (mdL G un td ku g ah ag tp co wy th kp ka ln sn it mv ++ rest)) := by
  refine zMet.of (by decide) (Nat.le_of_ble_eq_true rfl) ?_
  intro E C R
  have C : zC G E RX8 cX8_letter 2 1 25 := C
  show V G E 0 [some (.ref (G.ad 0)), some (.int (iI x))] [] (mdL G un td ku g ah ag tp co wy th kp ka ln sn it mv ++ rest)
  refine V_iload_n C dX8_letter_0 rfl ?_
  refine V_i2l C dX8_letter_1 (by omega) ?_
  refine V_lconst (z := 0) C dX8_letter_2 rfl ?_
  refine V_aload_n C dX8_letter_3 rfl ?_
  refine vg_X8_7 C dX8_letter_4 rfl rfl ?_
  refine V_iconst C dX8_letter_7 ?_
  refine V_iald C dX8_letter_8 rfl (by omega) (by omega) (by decide) (by repeat' (first | with_reducible assumption | refine zup_rng ?_ (by first | omega | exact hg _) | refine zcp_rng ?_ ?_)) (fun r_8 => ?_)
  refine V_iconst C dX8_letter_9 ?_
  refine V_isub C dX8_letter_10 ?_
  refine V_i2l C dX8_letter_11 (by omega) ?_
  refine V_callS C lk_X8_58 (m_X8_in G (by omega) (by omega) (by omega)) dX8_letter_12 rfl rfl (by decide) (Nat.le_of_ble_eq_true rfl) (kO ?_)
  refine V_if_eqB (tgt := 29) C dX8_letter_15 (by decide) (fun c_15 => ?_) (fun c_15 => ?_)
  · skip
    refine V_iconst C dX8_letter_29 ?_
    exact V_iret C R dX8_letter_30 (zO_i (by first | rw [if_pos (by omega)] | rw [if_neg (by omega)]))
  · skip
    refine V_aload_n C dX8_letter_18 rfl ?_
    refine vg_X8_7 C dX8_letter_19 rfl rfl ?_
    refine V_iconst C dX8_letter_22 ?_
    refine V_iload_n C dX8_letter_23 rfl ?_
    refine V_iadd C dX8_letter_24 ?_
    refine V_iald C dX8_letter_25 rfl (by omega) (by omega) (by decide) (by repeat' (first | with_reducible assumption | refine zup_rng ?_ (by first | omega | exact hg _) | refine zcp_rng ?_ ?_)) (fun r_25 => ?_)
    refine V_goto (tgt := 30) C dX8_letter_26 (by decide) ?_
    exact V_iret C R dX8_letter_30 (zO_i (by first | rw [if_pos (by omega)] | rw [if_neg (by omega)]))

set_option maxRecDepth 100000 in
theorem m_X8_store (G : zG) {un td ku : Int} {g ah ag tp co wy th kp ka ln sn it mv : Int → Int} {rest : List va_E} (hg : ∀ j, rng (g j))  (hs : 0 ≤ g 63 ∧ g 63 ≤ 60) {x : Int} (hx : rng x) : zMet G yX8_store cX8_store 2 (some .int) 1 25 [.ref (G.ad 0), .int (iI x)] (mdL G un td ku g ah ag tp co wy th kp ka ln sn it mv ++ rest) (zO (.int (iI (if 0 ≤ x ∧ x < g 63 then g (64 + x) else -1))) (mdL G un td ku g ah ag tp co wy th kp ka ln sn it mv ++ rest)) := by
  refine zMet.of (by decide) (Nat.le_of_ble_eq_true rfl) ?_
  intro E C R
  have C : zC G E RX8 cX8_store 2 1 25 := C
  show V G E 0 [some (.ref (G.ad 0)), some (.int (iI x))] [] (mdL G un td ku g ah ag tp co wy th kp ka ln sn it mv ++ rest)
  refine V_iload_n C dX8_store_0 rfl ?_
  refine V_i2l C dX8_store_1 (by omega) ?_
  refine V_lconst (z := 0) C dX8_store_2 rfl ?_
  refine V_aload_n C dX8_store_3 rfl ?_
  refine vg_X8_7 C dX8_store_4 rfl rfl ?_
  refine V_bipush C dX8_store_7 (by decide) ?_
  refine V_iald C dX8_store_9 rfl (by omega) (by omega) (by decide) (by repeat' (first | with_reducible assumption | refine zup_rng ?_ (by first | omega | exact hg _) | refine zcp_rng ?_ ?_)) (fun r_9 => ?_)
  refine V_iconst C dX8_store_10 ?_
  refine V_isub C dX8_store_11 ?_
  refine V_i2l C dX8_store_12 (by omega) ?_
  refine V_callS C lk_X8_58 (m_X8_in G (by omega) (by omega) (by omega)) dX8_store_13 rfl rfl (by decide) (Nat.le_of_ble_eq_true rfl) (kO ?_)
  refine V_if_eqB (tgt := 31) C dX8_store_16 (by decide) (fun c_16 => ?_) (fun c_16 => ?_)
  · skip
    refine V_iconst C dX8_store_31 ?_
    exact V_iret C R dX8_store_32 (zO_i (by first | rw [if_pos (by omega)] | rw [if_neg (by omega)]))
  · skip
    refine V_aload_n C dX8_store_19 rfl ?_
    refine vg_X8_7 C dX8_store_20 rfl rfl ?_
    refine V_bipush C dX8_store_23 (by decide) ?_
    refine V_iload_n C dX8_store_25 rfl ?_
    refine V_iadd C dX8_store_26 ?_
    refine V_iald C dX8_store_27 rfl (by omega) (by omega) (by decide) (by repeat' (first | with_reducible assumption | refine zup_rng ?_ (by first | omega | exact hg _) | refine zcp_rng ?_ ?_)) (fun r_27 => ?_)
    refine V_goto (tgt := 32) C dX8_store_28 (by decide) ?_
    exact V_iret C R dX8_store_32 (zO_i (by first | rw [if_pos (by omega)] | rw [if_neg (by omega)]))

set_option maxRecDepth 100000 in
theorem m_X8_mark (G : zG) {un td ku : Int} {g ah ag tp co wy th kp ka ln sn it mv : Int → Int} {rest : List va_E} (hg : ∀ j, rng (g j))  {x : Int} (hx : rng x) : zMet G yX8_mark cX8_mark 2 (some .int) 1 25 [.ref (G.ad 0), .int (iI x)] (mdL G un td ku g ah ag tp co wy th kp ka ln sn it mv ++ rest) (zO (.int (iI (if 0 ≤ x ∧ x < 4 then g (124 + x) else -1))) (mdL G un td ku g ah ag tp co wy th kp ka ln sn it mv ++ rest)) := by
  refine zMet.of (by decide) (Nat.le_of_ble_eq_true rfl) ?_
  intro E C R
  have C : zC G E RX8 cX8_mark 2 1 25 := C
  show V G E 0 [some (.ref (G.ad 0)), some (.int (iI x))] [] (mdL G un td ku g ah ag tp co wy th kp ka ln sn it mv ++ rest)
  refine V_iload_n C dX8_mark_0 rfl ?_
  refine V_i2l C dX8_mark_1 (by omega) ?_
  refine V_lconst (z := 0) C dX8_mark_2 rfl ?_
  refine V_ldc2 (z := 3) C wk_X8_206 rfl dX8_mark_3 ?_
  refine V_callS C lk_X8_58 (m_X8_in G (by omega) (by omega) (by omega)) dX8_mark_6 rfl rfl (by decide) (Nat.le_of_ble_eq_true rfl) (kO ?_)
  refine V_if_eqB (tgt := 24) C dX8_mark_9 (by decide) (fun c_9 => ?_) (fun c_9 => ?_)
  · skip
    refine V_iconst C dX8_mark_24 ?_
    exact V_iret C R dX8_mark_25 (zO_i (by first | rw [if_pos (by omega)] | rw [if_neg (by omega)]))
  · skip
    refine V_aload_n C dX8_mark_12 rfl ?_
    refine vg_X8_7 C dX8_mark_13 rfl rfl ?_
    refine V_bipush C dX8_mark_16 (by decide) ?_
    refine V_iload_n C dX8_mark_18 rfl ?_
    refine V_iadd C dX8_mark_19 ?_
    refine V_iald C dX8_mark_20 rfl (by omega) (by omega) (by decide) (by repeat' (first | with_reducible assumption | refine zup_rng ?_ (by first | omega | exact hg _) | refine zcp_rng ?_ ?_)) (fun r_20 => ?_)
    refine V_goto (tgt := 25) C dX8_mark_21 (by decide) ?_
    exact V_iret C R dX8_mark_25 (zO_i (by first | rw [if_pos (by omega)] | rw [if_neg (by omega)]))

set_option maxRecDepth 100000 in
theorem m_X8_marks (G : zG) {un td ku : Int} {g ah ag tp co wy th kp ka ln sn it mv : Int → Int} {rest : List va_E} (hg : ∀ j, rng (g j))  : zMet G yX8_marks cX8_marks 3 (some .int) 0 0 [.ref (G.ad 0)] (mdL G un td ku g ah ag tp co wy th kp ka ln sn it mv ++ rest) (zO (.int (iI (bsN (fun j => decide (g (124 + j) ≠ -4)) 4))) (mdL G un td ku g ah ag tp co wy th kp ka ln sn it mv ++ rest)) := by
  refine zMet.of (by decide) (Nat.le_of_ble_eq_true rfl) ?_
  intro E C R
  have C : zC G E RX8 cX8_marks 3 0 0 := C
  show V G E 0 [some (.ref (G.ad 0)), none, none] [] (mdL G un td ku g ah ag tp co wy th kp ka ln sn it mv ++ rest)
  refine V_iconst C dX8_marks_0 ?_
  refine V_istore_n C dX8_marks_1 (by decide) rfl ?_
  refine V_iconst C dX8_marks_2 ?_
  refine V_istore_n C dX8_marks_3 (by decide) rfl ?_
  refine V_loop (α := Nat) (fun x => 10 - x) (fun x => x ≤ 4) (fun x => V G E 4 [some (.ref (G.ad 0)), some (.int (iI (bsN (fun j => decide (g (124 + j) ≠ -4)) x))), some (.int (iI (x : Int)))] [] (mdL G un td ku g ah ag tp co wy th kp ka ln sn it mv ++ rest)) ?_ 0 (by omega)
  rintro q g1 ih_4
  have hb := bsN_in (fun j => decide (g (124 + j) ≠ -4)) q
  refine V_iload_n C dX8_marks_4 rfl ?_
  refine V_iconst C dX8_marks_5 ?_
  refine V_icmp_ge (tgt := 39) C dX8_marks_6 (by decide) (by omega) (by omega) (fun c_6 => ?_) (fun c_6 => ?_)
  · skip
    refine V_iload_n C dX8_marks_39 rfl ?_
    exact V_iret C R dX8_marks_40 (zO_i (by rw [show q = 4 by omega]))
  · skip
    refine V_iload_n C dX8_marks_9 rfl ?_
    refine V_aload_n C dX8_marks_10 rfl ?_
    refine vg_X8_7 C dX8_marks_11 rfl rfl ?_
    refine V_bipush C dX8_marks_14 (by decide) ?_
    refine V_iload_n C dX8_marks_16 rfl ?_
    refine V_iadd C dX8_marks_17 ?_
    refine V_iald C dX8_marks_18 rfl (by omega) (by omega) (by decide) (by repeat' (first | with_reducible assumption | refine zup_rng ?_ (by first | omega | exact hg _) | refine zcp_rng ?_ ?_)) (fun r_18 => ?_)
    refine V_bipush C dX8_marks_19 (by decide) ?_
    refine V_icmp_ne (tgt := 28) C dX8_marks_21 (by decide) (by omega) (by omega) (fun c_21 => ?_) (fun c_21 => ?_)
    · skip
      refine V_iconst C dX8_marks_28 ?_
      refine V_iload_n C dX8_marks_29 rfl ?_
      refine V_ishl (z := _) C dX8_marks_30 (iI_of _).symm ?_
      refine V_ior (z := bsN (fun j => decide (g (124 + j) ≠ -4)) q + 2 ^ q) C dX8_marks_31 (by rw [iI_of]; exact bs_or2 (by omega) hb.1 hb.2 (bs_lt _ (by omega))) ?_
      refine V_istore_n C dX8_marks_32 (by decide) rfl ?_
      refine V_iinc C dX8_marks_33 rfl (by decide) rfl ?_
      refine V_goto (tgt := 4) C dX8_marks_36 (by decide) ?_
      have e1 : bsN (fun j => decide (g (124 + j) ≠ -4)) (q + 1) = _ := bsN.eq_2 _ _
      first
        | (rw [if_pos (by simpa using c_21)] at e1; rw [← e1]; exact ih_4 (q + 1) (by omega) (by omega))
        | (rw [if_neg (by simpa using c_21), Int.add_zero] at e1; rw [← e1]; exact ih_4 (q + 1) (by omega) (by omega))
    · skip
      refine V_iconst C dX8_marks_24 ?_
      refine V_goto (tgt := 31) C dX8_marks_25 (by decide) ?_
      refine V_ior (z := bsN (fun j => decide (g (124 + j) ≠ -4)) q) C dX8_marks_31 (by rw [bs_or0]) ?_
      refine V_istore_n C dX8_marks_32 (by decide) rfl ?_
      refine V_iinc C dX8_marks_33 rfl (by decide) rfl ?_
      refine V_goto (tgt := 4) C dX8_marks_36 (by decide) ?_
      have e1 : bsN (fun j => decide (g (124 + j) ≠ -4)) (q + 1) = _ := bsN.eq_2 _ _
      first
        | (rw [if_pos (by simpa using c_21)] at e1; rw [← e1]; exact ih_4 (q + 1) (by omega) (by omega))
        | (rw [if_neg (by simpa using c_21), Int.add_zero] at e1; rw [← e1]; exact ih_4 (q + 1) (by omega) (by omega))

set_option maxRecDepth 100000 in
theorem m_X8_wordsOf (G : zG) {un td ku : Int} {g ah ag tp co wy th kp ka ln sn it mv : Int → Int} {rest : List va_E} (hg : ∀ j, rng (g j))  (hL : 0 ≤ g 0 ∧ g 0 ≤ 60) : zMet G yX8_wordsOf cX8_wordsOf 3 (some .int) 3 67 [.ref (G.ad 0)] (mdL G un td ku g ah ag tp co wy th kp ka ln sn it mv ++ rest) (zO (.int (iI (wd (lt g) (g 0) 0 0))) (mdL G un td ku g ah ag tp co wy th kp ka ln sn it mv ++ rest)) := by
  refine zMet.of (by decide) (Nat.le_of_ble_eq_true rfl) ?_
  intro E C R
  have C : zC G E RX8 cX8_wordsOf 3 3 67 := C
  show V G E 0 [some (.ref (G.ad 0)), none, none] [] (mdL G un td ku g ah ag tp co wy th kp ka ln sn it mv ++ rest)
  refine V_iconst C dX8_wordsOf_0 ?_
  refine V_istore_n C dX8_wordsOf_1 (by decide) rfl ?_
  refine V_iconst C dX8_wordsOf_2 ?_
  refine V_istore_n C dX8_wordsOf_3 (by decide) rfl ?_
  refine V_loop (α := Int × Int) (fun x => (200 - x.2).toNat) (fun x => 0 ≤ x.2 ∧ x.2 ≤ g 0 ∧ 0 ≤ x.1 ∧ x.1 ≤ x.2 ∧ wd (lt g) (g 0) x.2 x.1 = wd (lt g) (g 0) 0 0) (fun x => V G E 4 [some (.ref (G.ad 0)), some (.int (iI x.1)), some (.int (iI x.2))] [] (mdL G un td ku g ah ag tp co wy th kp ka ln sn it mv ++ rest)) ?_ (0, 0) ⟨by dsimp only; omega, by dsimp only; omega, by dsimp only; omega, by dsimp only; omega, rfl⟩
  rintro ⟨c, q⟩ ⟨g1, g2, g3, g4, g5⟩ ih_4
  dsimp only at *
  have hk1 := kd_in (lt g) (g 0) q
  have hk2 := kd_in (lt g) (g 0) (q - 1)
  refine V_iload_n C dX8_wordsOf_4 rfl ?_
  refine V_aload_n C dX8_wordsOf_5 rfl ?_
  refine vg_X8_7 C dX8_wordsOf_6 rfl rfl ?_
  refine V_iconst C dX8_wordsOf_9 ?_
  refine V_iald C dX8_wordsOf_10 rfl (by omega) (by omega) (by decide) (by repeat' (first | with_reducible assumption | refine zup_rng ?_ (by first | omega | exact hg _) | refine zcp_rng ?_ ?_)) (fun r_10 => ?_)
  refine V_icmp_ge (tgt := 48) C dX8_wordsOf_11 (by decide) (by omega) (by omega) (fun c_11 => ?_) (fun c_11 => ?_)
  · skip
    refine V_iload_n C dX8_wordsOf_48 rfl ?_
    exact V_iret C R dX8_wordsOf_49 (zO_i (by rw [← g5]; exact (wd_3 (by omega)).symm))
  · skip
    refine V_iload_n C dX8_wordsOf_14 rfl ?_
    refine V_aload_n C dX8_wordsOf_15 rfl ?_
    refine V_iload_n C dX8_wordsOf_16 rfl ?_
    refine V_callV C lk_X8_74 (m_X8_classAt G hg hL (by omega)) dX8_wordsOf_17 rfl rfl rfl rfl (by decide) (Nat.le_of_ble_eq_true rfl) (kO ?_)
    refine V_iconst C dX8_wordsOf_20 ?_
    refine V_icmp_ne (tgt := 39) C dX8_wordsOf_21 (by decide) (by omega) (by omega) (fun c_21 => ?_) (fun c_21 => ?_)
    · skip
      refine V_iconst C dX8_wordsOf_39 ?_
      refine V_iadd C dX8_wordsOf_40 ?_
      refine V_istore_n C dX8_wordsOf_41 (by decide) rfl ?_
      refine V_iinc C dX8_wordsOf_42 rfl (by decide) rfl ?_
      refine V_goto (tgt := 4) C dX8_wordsOf_45 (by decide) ?_
      first
      | exact ih_4 (c + 1, q + 1) ⟨by dsimp only; omega, by dsimp only; omega, by dsimp only; omega, by dsimp only; omega, by rw [← g5]; exact (wd_1 (by omega) (by omega) (by omega)).symm⟩ (by dsimp only; omega)
      | exact ih_4 (c + 0, q + 1) ⟨by dsimp only; omega, by dsimp only; omega, by dsimp only; omega, by dsimp only; omega, by dsimp only; rw [← g5, Int.add_zero]; exact (wd_2 (by omega) (by omega)).symm⟩ (by dsimp only; omega)
    · skip
      refine V_aload_n C dX8_wordsOf_24 rfl ?_
      refine V_iload_n C dX8_wordsOf_25 rfl ?_
      refine V_iconst C dX8_wordsOf_26 ?_
      refine V_isub C dX8_wordsOf_27 ?_
      refine V_callV C lk_X8_74 (m_X8_classAt G hg hL (by omega)) dX8_wordsOf_28 rfl rfl rfl rfl (by decide) (Nat.le_of_ble_eq_true rfl) (kO ?_)
      refine V_iconst C dX8_wordsOf_31 ?_
      refine V_icmp_eq (tgt := 39) C dX8_wordsOf_32 (by decide) (by omega) (by omega) (fun c_32 => ?_) (fun c_32 => ?_)
      · skip
        refine V_iconst C dX8_wordsOf_39 ?_
        refine V_iadd C dX8_wordsOf_40 ?_
        refine V_istore_n C dX8_wordsOf_41 (by decide) rfl ?_
        refine V_iinc C dX8_wordsOf_42 rfl (by decide) rfl ?_
        refine V_goto (tgt := 4) C dX8_wordsOf_45 (by decide) ?_
        first
        | exact ih_4 (c + 1, q + 1) ⟨by dsimp only; omega, by dsimp only; omega, by dsimp only; omega, by dsimp only; omega, by rw [← g5]; exact (wd_1 (by omega) (by omega) (by omega)).symm⟩ (by dsimp only; omega)
        | exact ih_4 (c + 0, q + 1) ⟨by dsimp only; omega, by dsimp only; omega, by dsimp only; omega, by dsimp only; omega, by dsimp only; rw [← g5, Int.add_zero]; exact (wd_2 (by omega) (by omega)).symm⟩ (by dsimp only; omega)
      · skip
        refine V_iconst C dX8_wordsOf_35 ?_
        refine V_goto (tgt := 40) C dX8_wordsOf_36 (by decide) ?_
        refine V_iadd C dX8_wordsOf_40 ?_
        refine V_istore_n C dX8_wordsOf_41 (by decide) rfl ?_
        refine V_iinc C dX8_wordsOf_42 rfl (by decide) rfl ?_
        refine V_goto (tgt := 4) C dX8_wordsOf_45 (by decide) ?_
        first
        | exact ih_4 (c + 1, q + 1) ⟨by dsimp only; omega, by dsimp only; omega, by dsimp only; omega, by dsimp only; omega, by rw [← g5]; exact (wd_1 (by omega) (by omega) (by omega)).symm⟩ (by dsimp only; omega)
        | exact ih_4 (c + 0, q + 1) ⟨by dsimp only; omega, by dsimp only; omega, by dsimp only; omega, by dsimp only; omega, by dsimp only; rw [← g5, Int.add_zero]; exact (wd_2 (by omega) (by omega)).symm⟩ (by dsimp only; omega)
