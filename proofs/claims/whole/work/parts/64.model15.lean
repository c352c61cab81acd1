def i0M (wy : Int → Int) (s n : Int) : Int → Int := fun j => if 0 ≤ j ∧ j < n then (if j = s then 1 else 0) else wy j
theorem i0M_0 {wy : Int → Int} {s : Int} : i0M wy s 0 = wy := by funext j; unfold i0M; rw [if_neg (by omega)]
theorem i0M_s {wy : Int → Int} {s q : Int} (h : 0 ≤ q) : zup (i0M wy s q) q (if q = s then 1 else 0) = i0M wy s (q + 1) := by
  funext j
  unfold zup i0M
  by_cases e : j = q
  · rw [if_pos e, if_pos (show 0 ≤ j ∧ j < q + 1 by omega), e]
  · rw [if_neg e]
    by_cases e2 : 0 ≤ j ∧ j < q
    · rw [if_pos e2, if_pos (show 0 ≤ j ∧ j < q + 1 by omega)]
    · rw [if_neg e2, if_neg (show ¬ (0 ≤ j ∧ j < q + 1) by omega)]
theorem i0M_e {wy : Int → Int} {s : Int} (h : 0 ≤ s ∧ s < 60) : i0M wy s 60 = zup (ovr wy 0 60 0) s 1 := by
  funext j
  unfold i0M zup ovr
  by_cases e : j = s
  · rw [if_pos (show 0 ≤ j ∧ j < 60 by omega), if_pos e, if_pos e]
  · rw [if_neg e, if_neg e]
theorem gcd_st {a b : Nat} : Nat.gcd b (a % b) = Nat.gcd a b := by
  rw [Nat.gcd_comm b (a % b), Nat.gcd_comm a b]; exact (Nat.gcd_rec b a).symm

set_option maxRecDepth 100000 in
theorem m_X8_struck (G : zG) {un td ku : Int} {g ah ag tp co wy th kp ka ln sn it mv : Int → Int} {rest : List va_E} (hg : ∀ j, rng (g j))  (hL : 0 ≤ g 0 ∧ g 0 ≤ 60) (hc : 0 ≤ g 61 ∧ g 61 ≤ g 0) {t n u : Int} (ht : rng t) (hn : rng n) (hu : rng u) : zMet G yX8_struck cX8_struck 8 (some .int) 6 134 [.ref (G.ad 0), .int (iI t), .int (iI n), .int (iI u)] (mdL G un td ku g ah ag tp co wy th kp ka ln sn it mv ++ rest) (fun r cs2 => ∃ z, r = some (.int (iI z)) ∧ ((¬ (0 ≤ t ∧ t ≤ la (g 0) ∧ 0 ≤ n ∧ n ≤ 4 ∧ 0 ≤ u ∧ u ≤ 1) → z = -1 ∧ cs2 = (mdL G un td ku g ah ag tp co wy th kp ka ln sn it mv ++ rest)) ∧ ((0 ≤ t ∧ t ≤ la (g 0) ∧ 0 ≤ n ∧ n ≤ 4 ∧ 0 ≤ u ∧ u ≤ 1) → ∃ wy2 th2, cs2 = (mdL G un td ku g ah ag tp co (wy2) (th2) kp ka ln sn it mv ++ rest) ∧ z = (if u = 0 then (psR (lnd g) (la (g 0) + 1) n 4 0 (zup (ovr wy 0 60 0) (stt g) 1) th t) else ((7 : Int) ^ n.toNat)) / ((Nat.gcd (psR (lnd g) (la (g 0) + 1) n 4 0 (zup (ovr wy 0 60 0) (stt g) 1) th t).toNat (7 ^ n.toNat) : Nat) : Int)))) := by
  refine zMet.of (by decide) (Nat.le_of_ble_eq_true rfl) ?_
  intro E C R
  have C : zC G E RX8 cX8_struck 8 6 134 := C
  show V G E 0 [some (.ref (G.ad 0)), some (.int (iI t)), some (.int (iI n)), some (.int (iI u)), none, none, none, none] [] (mdL G un td ku g ah ag tp co wy th kp ka ln sn it mv ++ rest)
  have hla := la_59 hL
  have hst := stt_in hL hc
  have hwr : ∀ m p, 0 ≤ m → m < 7 → 0 ≤ p → p < (la (g 0) + 1) → 0 ≤ lnd g m p ∧ lnd g m p < (la (g 0) + 1) := fun m p h1 h2 h3 h4 => by
    have := lnd_in (g := g) (m := m) (p := p) hL (by omega)
    omega
  refine V_aload_n C dX8_struck_0 rfl ?_
  refine V_iload_n C dX8_struck_1 rfl ?_
  refine V_callV C lk_X8_226 (m_X8_isPlace G hg hL ht) dX8_struck_2 rfl rfl rfl rfl (by decide) (Nat.le_of_ble_eq_true rfl) (kO ?_)
  refine V_if_eqB (tgt := 30) C dX8_struck_5 (by decide) (fun c_5 => ?_) (fun c_5 => ?_)
  · skip
    refine V_iconst C dX8_struck_30 ?_
    exact V_iret C R dX8_struck_31 ⟨-1, rfl, fun _ => ⟨rfl, rfl⟩, fun h => absurd h (by omega)⟩
  · skip
    refine V_iload_n C dX8_struck_8 rfl ?_
    refine V_i2l C dX8_struck_9 (by omega) ?_
    refine V_lconst (z := 0) C dX8_struck_10 rfl ?_
    refine V_ldc2 (z := 4) C wk_X8_237 rfl dX8_struck_11 ?_
    refine V_callS C lk_X8_58 (m_X8_in G (by omega) (by omega) (by omega)) dX8_struck_14 rfl rfl (by decide) (Nat.le_of_ble_eq_true rfl) (kO ?_)
    refine V_if_eqB (tgt := 30) C dX8_struck_17 (by decide) (fun c_17 => ?_) (fun c_17 => ?_)
    · skip
      refine V_iconst C dX8_struck_30 ?_
      exact V_iret C R dX8_struck_31 ⟨-1, rfl, fun _ => ⟨rfl, rfl⟩, fun h => absurd h (by omega)⟩
    · skip
      refine V_iload_n C dX8_struck_20 rfl ?_
      refine V_i2l C dX8_struck_21 (by omega) ?_
      refine V_lconst (z := 0) C dX8_struck_22 rfl ?_
      refine V_lconst (z := 1) C dX8_struck_23 rfl ?_
      refine V_callS C lk_X8_58 (m_X8_in G (by omega) (by omega) (by omega)) dX8_struck_24 rfl rfl (by decide) (Nat.le_of_ble_eq_true rfl) (kO ?_)
      refine V_if_neB (tgt := 32) C dX8_struck_27 (by decide) (fun c_27 => ?_) (fun c_27 => ?_)
      · skip
        refine V_iconst C dX8_struck_32 ?_
        refine V_istore C dX8_struck_33 (by decide) rfl ?_
        suffices H_35 : V G E 35 [some (.ref (G.ad 0)), some (.int (iI t)), some (.int (iI n)), some (.int (iI u)), some (.int (iI 0)), none, none, none] [] (mdL G un td ku g ah ag tp co (i0M wy (stt g) 0) th kp ka ln sn it mv ++ rest) by
          rw [i0M_0] at H_35
          exact H_35
        refine V_loop (α := Int) (fun x => (200 - x).toNat) (fun x => 0 ≤ x ∧ x ≤ 60) (fun x => V G E 35 [some (.ref (G.ad 0)), some (.int (iI t)), some (.int (iI n)), some (.int (iI u)), some (.int (iI x)), none, none, none] [] (mdL G un td ku g ah ag tp co (i0M wy (stt g) x) th kp ka ln sn it mv ++ rest)) ?_ 0 ⟨by omega, by omega⟩
        rintro q ⟨g1, g2⟩ ih_35
        refine V_iload C dX8_struck_35 rfl ?_
        refine V_bipush C dX8_struck_37 (by decide) ?_
        refine V_icmp_ge (tgt := 69) C dX8_struck_39 (by decide) (by omega) (by omega) (fun c_39 => ?_) (fun c_39 => ?_)
        · skip
          have hq : q = 60 := by omega
          subst hq
          clear ih_35
          rw [i0M_e (by omega)]
          refine V_iconst C dX8_struck_69 ?_
          refine V_istore C dX8_struck_70 (by decide) rfl ?_
          refine V_iconst C dX8_struck_72 ?_
          refine V_istore C dX8_struck_73 (by decide) rfl ?_
          refine V_loop (α := Nat × (Int → Int) × (Int → Int)) (fun x => 20 - x.1) (fun x => (x.1 : Int) ≤ n ∧ psR (lnd g) (la (g 0) + 1) n (4 - x.1) x.1 x.2.1 x.2.2 = psR (lnd g) (la (g 0) + 1) n 4 0 (zup (ovr wy 0 60 0) (stt g) 1) th) (fun x => V G E 75 [some (.ref (G.ad 0)), some (.int (iI t)), some (.int (iI n)), some (.int (iI u)), some (.int (iI ((7 : Int) ^ x.1))), some (.int (iI (x.1 : Int))), none, none] [] (mdL G un td ku g ah ag tp co (x.2.1) (x.2.2) kp ka ln sn it mv ++ rest)) ?_ (0, (zup (ovr wy 0 60 0) (stt g) 1), th) ⟨by dsimp only; omega, rfl⟩
          rintro ⟨i, r, l⟩ ⟨g1, g2⟩ ih_75
          dsimp only at *
          refine V_iload C dX8_struck_75 rfl ?_
          refine V_iload_n C dX8_struck_77 rfl ?_
          refine V_icmp_ge (tgt := 205) C dX8_struck_78 (by decide) (by omega) (by omega) (fun c_78 => ?_) (fun c_78 => ?_)
          · skip
            have hrt : r = psR (lnd g) (la (g 0) + 1) n 4 0 (zup (ovr wy 0 60 0) (stt g) 1) th := by rw [← g2, psR_no (by omega)]
            have hin : nn60 r ∧ smN r 60 ≤ 1 * 7 ^ 4 := by
              have h1 := ps_start wy (s := stt g) (by omega) (by omega)
              rw [hrt]; exact psR_in hwr (by omega) (by omega) 4 0 _ th 1 h1.1 (by omega)
            have hW0 := hin.1 t (by omega) (by omega)
            have hW1 := smN_at (n := 60) hin.1 (i := t) (by omega) (by omega)
            have hW2 : r t ≤ 2401 := Int.le_trans hW1 hin.2
            have hi4 : i = n.toNat := by omega
            have hPN : ((7 : Int) ^ i) = ((7 ^ i : Nat) : Int) := by rw [Int.natCast_pow]; rfl
            have hP7 : 1 ≤ 7 ^ i ∧ 7 ^ i ≤ 2401 := ⟨Nat.one_le_pow _ _ (by decide), Nat.le_trans (Nat.pow_le_pow_right (by decide) (show i ≤ 4 by omega)) (by decide)⟩
            clear ih_75
            refine V_aload_n C dX8_struck_205 rfl ?_
            refine vg_X8_25 C dX8_struck_206 rfl rfl ?_
            refine V_iload_n C dX8_struck_209 rfl ?_
            refine V_iald0 C dX8_struck_210 rfl (by omega) (by omega) (by decide) ?_
            refine V_istore C dX8_struck_211 (by decide) rfl ?_
            refine V_iload C dX8_struck_213 rfl ?_
            refine V_istore C dX8_struck_215 (by decide) rfl ?_
            suffices H_217 : V G E 217 [some (.ref (G.ad 0)), some (.int (iI t)), some (.int (iI n)), some (.int (iI u)), some (.int (iI ((7 ^ i : Nat) : Int))), some (.int (iI (((r t).toNat : Nat) : Int))), some (.int (iI ((7 ^ i : Nat) : Int))), none] [] (mdL G un td ku g ah ag tp co (r) (l) kp ka ln sn it mv ++ rest) by
              rw [show (((r t).toNat : Nat) : Int) = r t by omega] at H_217
              exact H_217
            refine V_loop (α := Nat × Nat) (fun x => x.2) (fun x => Nat.gcd x.1 x.2 = Nat.gcd (r t).toNat (7 ^ i) ∧ x.1 ≤ 2401 ∧ x.2 ≤ 2401) (fun x => V G E 217 [some (.ref (G.ad 0)), some (.int (iI t)), some (.int (iI n)), some (.int (iI u)), some (.int (iI ((7 ^ i : Nat) : Int))), some (.int (iI (x.1 : Int))), some (.int (iI (x.2 : Int))), none] [] (mdL G un td ku g ah ag tp co (r) (l) kp ka ln sn it mv ++ rest)) ?_ ((r t).toNat, 7 ^ i) ⟨rfl, by dsimp only; omega, hP7.2⟩
            rintro ⟨a, b⟩ ⟨q1, q2, q3⟩ ih_217
            dsimp only at *
            refine V_iload C dX8_struck_217 rfl ?_
            refine V_if_eq (tgt := 240) C dX8_struck_219 (by decide) (by omega) (fun c_219 => ?_) (fun c_219 => ?_)
            · skip
              have hb0 : b = 0 := by omega
              subst hb0
              rw [Nat.gcd_zero_right] at q1
              have hap : 0 < a := by rw [q1]; exact Nat.gcd_pos_of_pos_right _ (by omega)
              clear ih_217
              refine V_midz (pc2 := 255) (if u = 0 then r t else ((7 ^ i : Nat) : Int)) ?_ (fun kk_240 => ?_)
              · skip
                have hnm : 0 ≤ (if u = 0 then r t else ((7 ^ i : Nat) : Int)) ∧ (if u = 0 then r t else ((7 ^ i : Nat) : Int)) ≤ 2401 := by split <;> omega
                refine V_iload C dX8_struck_255 rfl ?_
                refine V_idiv C dX8_struck_257 (by omega) (by omega) ?_
                exact V_iret C R dX8_struck_258 ⟨_, rfl, fun h => absurd (by omega) h, fun _ => ⟨r, l, rfl, by rw [← hrt, ← hi4, ← q1, hPN]⟩⟩
              · skip
                refine V_iload_n C dX8_struck_240 rfl ?_
                refine V_if_ne (tgt := 253) C dX8_struck_241 (by decide) (by omega) (fun c_241 => ?_) (fun c_241 => ?_)
                · skip
                  refine V_iload C dX8_struck_253 rfl ?_
                  exact kk_240 _ (by first | rw [if_pos (by assumption)] | rw [if_neg (by assumption)])
                · skip
                  refine V_aload_n C dX8_struck_244 rfl ?_
                  refine vg_X8_25 C dX8_struck_245 rfl rfl ?_
                  refine V_iload_n C dX8_struck_248 rfl ?_
                  refine V_iald0 C dX8_struck_249 rfl (by omega) (by omega) (by decide) ?_
                  refine V_goto (tgt := 255) C dX8_struck_250 (by decide) ?_
                  exact kk_240 _ (by first | rw [if_pos (by assumption)] | rw [if_neg (by assumption)])
            · skip
              refine V_iload C dX8_struck_222 rfl ?_
              refine V_iload C dX8_struck_224 rfl ?_
              refine V_irem C dX8_struck_226 (by omega) (by omega) ?_
              refine V_istore C dX8_struck_227 (by decide) rfl ?_
              refine V_iload C dX8_struck_229 rfl ?_
              refine V_istore C dX8_struck_231 (by decide) rfl ?_
              refine V_iload C dX8_struck_233 rfl ?_
              refine V_istore C dX8_struck_235 (by decide) rfl ?_
              refine V_goto (tgt := 217) C dX8_struck_237 (by decide) ?_
              refine V_drop 7 ?_
              have hlt := Nat.mod_lt a (show 0 < b by omega)
              exact ih_217 (b, a % b) ⟨by dsimp only; rw [gcd_st]; exact q1, q3, by dsimp only; omega⟩ hlt
          · skip
            refine V_iconst C dX8_struck_81 ?_
            refine V_istore C dX8_struck_82 (by decide) rfl ?_
            suffices H_84 : V G E 84 [some (.ref (G.ad 0)), some (.int (iI t)), some (.int (iI n)), some (.int (iI u)), some (.int (iI ((7 : Int) ^ i))), some (.int (iI (i : Int))), some (.int (iI 0)), none] [] (mdL G un td ku g ah ag tp co (r) (ovr l 0 0 0) kp ka ln sn it mv ++ rest) by
              rw [ovr_0] at H_84
              exact H_84
            refine V_loop (α := Int) (fun x => (200 - x).toNat) (fun x => 0 ≤ x ∧ x ≤ 60) (fun x => V G E 84 [some (.ref (G.ad 0)), some (.int (iI t)), some (.int (iI n)), some (.int (iI u)), some (.int (iI ((7 : Int) ^ i))), some (.int (iI (i : Int))), some (.int (iI x)), none] [] (mdL G un td ku g ah ag tp co (r) (ovr l 0 x 0) kp ka ln sn it mv ++ rest)) ?_ 0 ⟨by omega, by omega⟩
            rintro q ⟨k1, k2⟩ ih_84
            refine V_iload C dX8_struck_84 rfl ?_
            refine V_bipush C dX8_struck_86 (by decide) ?_
            refine V_icmp_ge (tgt := 105) C dX8_struck_88 (by decide) (by omega) (by omega) (fun c_88 => ?_) (fun c_88 => ?_)
            · skip
              have hq : q = 60 := by omega
              subst hq
              clear ih_84
              refine V_iconst C dX8_struck_105 ?_
              refine V_istore C dX8_struck_106 (by decide) rfl ?_
              refine V_loop (α := Int × (Int → Int)) (fun x => (200 - x.1).toNat) (fun x => 0 ≤ x.1 ∧ x.1 ≤ (la (g 0) + 1) ∧ psP (lnd g) r (la (g 0) + 1) ((la (g 0) + 1) - x.1).toNat x.1 x.2 = psP (lnd g) r (la (g 0) + 1) (la (g 0) + 1).toNat 0 (ovr l 0 60 0)) (fun x => V G E 108 [some (.ref (G.ad 0)), some (.int (iI t)), some (.int (iI n)), some (.int (iI u)), some (.int (iI ((7 : Int) ^ i))), some (.int (iI (i : Int))), some (.int (iI x.1)), none] [] (mdL G un td ku g ah ag tp co (r) (x.2) kp ka ln sn it mv ++ rest)) ?_ (0, ovr l 0 60 0) ⟨by dsimp only; omega, by dsimp only; omega, by dsimp only; rw [Int.sub_zero]⟩
              rintro ⟨p, l1⟩ ⟨k1, k2, k3⟩ ih_108
              dsimp only at *
              refine V_iload C dX8_struck_108 rfl ?_
              refine V_aload_n C dX8_struck_110 rfl ?_
              refine V_callV C lk_X8_77 (m_X8_last G hg hL) dX8_struck_111 rfl rfl rfl rfl (by decide) (Nat.le_of_ble_eq_true rfl) (kO ?_)
              refine V_icmp_gt (tgt := 162) C dX8_struck_114 (by decide) (by omega) (by omega) (fun c_114 => ?_) (fun c_114 => ?_)
              · skip
                refine V_iconst C dX8_struck_162 ?_
                refine V_istore C dX8_struck_163 (by decide) rfl ?_
                suffices H_165 : V G E 165 [some (.ref (G.ad 0)), some (.int (iI t)), some (.int (iI n)), some (.int (iI u)), some (.int (iI ((7 : Int) ^ i))), some (.int (iI (i : Int))), some (.int (iI (0))), none] [] (mdL G un td ku g ah ag tp co (zcp (l1) (r) (0) (0) ((0) - (0))) (l1) kp ka ln sn it mv ++ rest) by
                  rw [show zcp (l1) (r) (0) (0) (0 - (0)) = r from by rw [Int.sub_self]; exact zcp_0] at H_165
                  exact H_165
                refine V_loop (α := Int) (fun x => (100000 - x).toNat) (fun x => 0 ≤ x ∧ x ≤ 60) (fun x => V G E 165 [some (.ref (G.ad 0)), some (.int (iI t)), some (.int (iI n)), some (.int (iI u)), some (.int (iI ((7 : Int) ^ i))), some (.int (iI (i : Int))), some (.int (iI x)), none] [] (mdL G un td ku g ah ag tp co (zcp (l1) (r) (0) (0) (x - (0))) (l1) kp ka ln sn it mv ++ rest)) ?_ (0) ⟨by omega, by omega⟩
                rintro q ⟨f1, f2⟩ ih_165
                refine V_iload C dX8_struck_165 rfl ?_
                refine V_bipush C dX8_struck_167 (by decide) ?_
                refine V_icmp_ge (tgt := 192) C dX8_struck_169 (by decide) (by omega) (by omega) (fun c_169 => ?_) (fun c_169 => ?_)
                · skip
                  refine V_iload C dX8_struck_192 rfl ?_
                  refine V_bipush C dX8_struck_194 (by decide) ?_
                  refine V_imul C dX8_struck_196 ?_
                  refine V_istore C dX8_struck_197 (by decide) rfl ?_
                  refine V_iinc C dX8_struck_199 rfl (by decide) rfl ?_
                  refine V_goto (tgt := 75) C dX8_struck_202 (by decide) ?_
                  refine V_drop 6 ?_
                  have hq60 : q = 60 := by omega
                  subst hq60
                  have H : V G E 75 [some (.ref (G.ad 0)), some (.int (iI t)), some (.int (iI n)), some (.int (iI u)), some (.int (iI ((7 : Int) ^ (i + 1)))), some (.int (iI ((i + 1 : Nat) : Int))), none, none] [] (mdL G un td ku g ah ag tp co (zcp l1 r 0 0 60) (l1) kp ka ln sn it mv ++ rest) := ih_75 (i + 1, zcp l1 r 0 0 60, l1) ⟨by dsimp only; omega, by
                    dsimp only
                    rw [← g2, show 4 - i = (4 - (i + 1)) + 1 by omega, psR_go (by omega), ← k3, psP_no (by omega)]
                    rfl⟩ (by dsimp only; omega)
                  rw [Int.pow_succ] at H
                  exact H
                · skip
                  refine V_aload_n C dX8_struck_172 rfl ?_
                  refine vg_X8_25 C dX8_struck_173 rfl rfl ?_
                  refine V_iload C dX8_struck_176 rfl ?_
                  refine V_aload_n C dX8_struck_178 rfl ?_
                  refine vg_X8_28 C dX8_struck_179 rfl rfl ?_
                  refine V_iload C dX8_struck_182 rfl ?_
                  refine V_iald0 C dX8_struck_184 rfl (by omega) (by omega) (by decide) ?_
                  refine V_iast C dX8_struck_185 rfl (by omega) (by omega) (by decide) ?_
                  refine V_iinc C dX8_struck_186 rfl (by decide) rfl ?_
                  refine V_goto (tgt := 165) C dX8_struck_189 (by decide) ?_
                  have e_165 : zup (zcp (l1) (r) (0) (0) (q - (0))) (q) (l1 q) = zcp (l1) (r) (0) (0) (q + 1 - (0)) := zcp_st (by rw [Int.sub_zero, Int.zero_add]) (by omega) (by omega) (by omega)
                  have H : V G E 165 [some (.ref (G.ad 0)), some (.int (iI t)), some (.int (iI n)), some (.int (iI u)), some (.int (iI ((7 : Int) ^ i))), some (.int (iI (i : Int))), some (.int (iI (q + 1))), none] [] (mdL G un td ku g ah ag tp co (zcp (l1) (r) (0) (0) ((q + 1) - (0))) (l1) kp ka ln sn it mv ++ rest) := ih_165 (q + 1) ⟨by omega, by omega⟩ (by omega)
                  rw [← e_165] at H
                  exact H
              · skip
                refine V_iconst C dX8_struck_117 ?_
                refine V_istore C dX8_struck_118 (by decide) rfl ?_
                refine V_loop (α := Int × (Int → Int)) (fun x => (20 - x.1).toNat) (fun x => 0 ≤ x.1 ∧ x.1 ≤ 7 ∧ psM (lnd g) r p (7 - x.1).toNat x.1 x.2 = psM (lnd g) r p 7 0 l1) (fun x => V G E 120 [some (.ref (G.ad 0)), some (.int (iI t)), some (.int (iI n)), some (.int (iI u)), some (.int (iI ((7 : Int) ^ i))), some (.int (iI (i : Int))), some (.int (iI p)), some (.int (iI x.1))] [] (mdL G un td ku g ah ag tp co (r) (x.2) kp ka ln sn it mv ++ rest)) ?_ (0, l1) ⟨by dsimp only; omega, by dsimp only; omega, rfl⟩
                rintro ⟨m, l2⟩ ⟨j1, j2, j3⟩ ih_120
                dsimp only at *
                have hwm : m < 7 → 0 ≤ lnd g m p ∧ lnd g m p < (la (g 0) + 1) := fun h1 => if hp : p < (la (g 0) + 1) then hwr m p j1 h1 k1 hp else by omega
                refine V_iload C dX8_struck_120 rfl ?_
                refine V_bipush C dX8_struck_122 (by decide) ?_
                refine V_icmp_ge (tgt := 156) C dX8_struck_124 (by decide) (by omega) (by omega) (fun c_124 => ?_) (fun c_124 => ?_)
                · skip
                  refine V_iinc C dX8_struck_156 rfl (by decide) rfl ?_
                  refine V_goto (tgt := 108) C dX8_struck_159 (by decide) ?_
                  refine V_drop 7 ?_
                  exact ih_108 (p + 1, l2) ⟨by dsimp only; omega, by dsimp only; omega, by dsimp only; rw [← k3, show ((la (g 0) + 1) - p).toNat = ((la (g 0) + 1) - (p + 1)).toNat + 1 by omega, psP_go (by omega), ← j3, psM_no (by omega)]⟩ (by dsimp only; omega)
                · skip
                  have hw1 := hwr m p j1 (by omega) k1 (by omega)
                  refine V_aload_n C dX8_struck_127 rfl ?_
                  refine vg_X8_28 C dX8_struck_128 rfl rfl ?_
                  refine V_aload_n C dX8_struck_131 rfl ?_
                  refine V_iload C dX8_struck_132 rfl ?_
                  refine V_iload C dX8_struck_134 rfl ?_
                  refine V_callV C lk_X8_223 (m_X8_lands G hg hL (by omega) (by omega)) dX8_struck_136 rfl rfl rfl rfl (by decide) (Nat.le_of_ble_eq_true rfl) (kO ?_)
                  refine V_dup2 C dX8_struck_139 rfl rfl ?_
                  refine V_iald0 C dX8_struck_140 rfl (by omega) (by omega) (by decide) ?_
                  refine V_aload_n C dX8_struck_141 rfl ?_
                  refine vg_X8_25 C dX8_struck_142 rfl rfl ?_
                  refine V_iload C dX8_struck_145 rfl ?_
                  refine V_iald0 C dX8_struck_147 rfl (by omega) (by omega) (by decide) ?_
                  refine V_iadd C dX8_struck_148 ?_
                  refine V_iast C dX8_struck_149 rfl (by omega) (by omega) (by decide) ?_
                  refine V_iinc C dX8_struck_150 rfl (by decide) rfl ?_
                  refine V_goto (tgt := 120) C dX8_struck_153 (by decide) ?_
                  exact ih_120 (m + 1, zup l2 (lnd g m p) (l2 (lnd g m p) + r p)) ⟨by dsimp only; omega, by dsimp only; omega, by dsimp only; rw [← j3, show (7 - m).toNat = (7 - (m + 1)).toNat + 1 by omega, psM_go (by omega)]⟩ (by dsimp only; omega)
            · skip
              refine V_aload_n C dX8_struck_91 rfl ?_
              refine vg_X8_28 C dX8_struck_92 rfl rfl ?_
              refine V_iload C dX8_struck_95 rfl ?_
              refine V_iconst C dX8_struck_97 ?_
              refine V_iast C dX8_struck_98 rfl (by omega) (by omega) (by decide) ?_
              refine V_iinc C dX8_struck_99 rfl (by decide) rfl ?_
              refine V_goto (tgt := 84) C dX8_struck_102 (by decide) ?_
              have H : V G E 84 [some (.ref (G.ad 0)), some (.int (iI t)), some (.int (iI n)), some (.int (iI u)), some (.int (iI ((7 : Int) ^ i))), some (.int (iI (i : Int))), some (.int (iI (q + 1))), none] [] (mdL G un td ku g ah ag tp co (r) (ovr l 0 (q + 1) 0) kp ka ln sn it mv ++ rest) := ih_84 (q + 1) ⟨by omega, by omega⟩ (by omega)
              rw [← ovr_1 (e := q) (by omega) (by omega)] at H
              exact H
        · skip
          refine V_aload_n C dX8_struck_42 rfl ?_
          refine vg_X8_25 C dX8_struck_43 rfl rfl ?_
          refine V_iload C dX8_struck_46 rfl ?_
          refine V_midz (pc2 := 62) (if q = stt g then 1 else 0) ?_ (fun kk_48 => ?_)
          · skip
            refine V_iast C dX8_struck_62 rfl (by omega) (by omega) (by decide) ?_
            refine V_iinc C dX8_struck_63 rfl (by decide) rfl ?_
            refine V_goto (tgt := 35) C dX8_struck_66 (by decide) ?_
            have H : V G E 35 [some (.ref (G.ad 0)), some (.int (iI t)), some (.int (iI n)), some (.int (iI u)), some (.int (iI (q + 1))), none, none, none] [] (mdL G un td ku g ah ag tp co (i0M wy (stt g) (q + 1)) th kp ka ln sn it mv ++ rest) := ih_35 (q + 1) ⟨by omega, by omega⟩ (by omega)
            rw [← i0M_s (by omega)] at H
            exact H
          · skip
            refine V_iload C dX8_struck_48 rfl ?_
            refine V_aload_n C dX8_struck_50 rfl ?_
            refine V_callV C lk_X8_232 (m_X8_start G hg hL) dX8_struck_51 rfl rfl rfl rfl (by decide) (Nat.le_of_ble_eq_true rfl) (kO ?_)
            refine V_icmp_ne (tgt := 61) C dX8_struck_54 (by decide) (by omega) (by omega) (fun c_54 => ?_) (fun c_54 => ?_)
            · skip
              refine V_iconst C dX8_struck_61 ?_
              exact kk_48 _ (by first | rw [if_pos (by assumption)] | rw [if_neg (by assumption)])
            · skip
              refine V_iconst C dX8_struck_57 ?_
              refine V_goto (tgt := 62) C dX8_struck_58 (by decide) ?_
              exact kk_48 _ (by first | rw [if_pos (by assumption)] | rw [if_neg (by assumption)])
      · skip
        refine V_iconst C dX8_struck_30 ?_
        exact V_iret C R dX8_struck_31 ⟨-1, rfl, fun _ => ⟨rfl, rfl⟩, fun h => absurd h (by omega)⟩
