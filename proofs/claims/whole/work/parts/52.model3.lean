abbrev zM : Type := Int × (Int → Int) × (Int → Int)
abbrev sU (s : zM) : Int := s.1
abbrev sG (s : zM) : Int → Int := s.2.1
abbrev sH (s : zM) : Int → Int := s.2.2
theorem zcp_at {f h : Int → Int} {sp dp n j : Int} : zcp f h sp dp n j = if dp ≤ j ∧ j < dp + n then f (sp + (j - dp)) else h j := rfl
theorem ite_rng {P : Prop} [Decidable P] {a b : Int → Int} (h1 : ∀ j, rng (a j)) (h2 : ∀ j, rng (b j)) : ∀ j, rng ((if P then a else b) j) := by
  split
  · exact h1
  · exact h2
theorem kpG_o {g : Int → Int} {a b j : Int} (h : j < 63 ∨ 64 + (b - a) ≤ j) (h2 : a ≤ b) : kpG g a b j = g j := by
  unfold kpG
  rw [zcp_out (by omega)]
  by_cases e : j = 63
  · exfalso; omega
  · exact zup_n e
theorem kpG_rng {g : Int → Int} {a b : Int} (hg : ∀ j, rng (g j)) (h : rng (b - a)) : ∀ j, rng (kpG g a b j) := zcp_rng hg (zup_rng hg h)
theorem ctG_0 {g : Int → Int} {a b : Int} : ctG g a b 0 = g 0 - (b - a) := zup_s
theorem ctG_rng {g : Int → Int} {a b : Int} (hg : ∀ j, rng (g j)) (h : rng (g 0 - (b - a))) : ∀ j, rng (ctG g a b j) := zup_rng (zcp_rng hg hg) h
def chM (s : zM) : zM := ⟨chV (sU s) + 1, chG (sG s), chA (sU s) (sH s) (sG s)⟩
def rgA (g : Int → Int) (a b : Int) : Int → Int := if a < b then kpG g a b else g
def rgB (g : Int → Int) (a b : Int) : Int → Int := if g 190 ≠ 121 ∧ a < b then ctG (rgA g a b) a b else rgA g a b
def rgM (s : zM) (a b : Int) : Int × zM :=
  if sG s 190 = 99 then (2, ⟨sU s, zup (zup (rgB (sG s) a b) 61 a) 62 1, sH s⟩)
  else if sG s 190 = 100 ∧ a < b then (0, chM ⟨sU s, zup (rgB (sG s) a b) 61 (min a (la (rgB (sG s) a b 0))), sH s⟩)
  else (0, ⟨sU s, zup (rgB (sG s) a b) 61 (min a (la (rgB (sG s) a b 0))), sH s⟩)
theorem rgA_0 {g : Int → Int} {a b : Int} : rgA g a b 0 = g 0 := by
  unfold rgA; split
  · exact kpG_o (by omega) (by omega)
  · rfl
theorem rgA_rng {g : Int → Int} {a b : Int} (hg : ∀ j, rng (g j)) (h : rng (b - a)) : ∀ j, rng (rgA g a b j) := by
  unfold rgA; split
  · exact kpG_rng hg h
  · exact hg
theorem rgB_0 {g : Int → Int} {a b : Int} (h : 0 ≤ a ∧ a ≤ b ∧ b ≤ g 0) : 0 ≤ rgB g a b 0 ∧ rgB g a b 0 ≤ g 0 := by
  unfold rgB; split
  · rw [ctG_0, rgA_0]; omega
  · rw [rgA_0]; omega
theorem rgB_rng {g : Int → Int} {a b : Int} (hg : ∀ j, rng (g j)) (h : 0 ≤ a ∧ a ≤ b ∧ b ≤ g 0 ∧ g 0 ≤ 60) : ∀ j, rng (rgB g a b j) := by
  unfold rgB; split
  · exact ctG_rng (rgA_rng hg (by omega)) (by rw [rgA_0]; omega)
  · exact rgA_rng hg (by omega)
def gtM (s : zM) (p i : Int) : Int × zM :=
  if sG s 190 = 0 then (0, ⟨sU s, zup (sG s) 61 (min p (la (sG s 0))), sH s⟩)
  else rgM s (min (sG s 61) p) (min (max (sG s 61) p + i) (sG s 0))
theorem chV_in {un : Int} (h : 0 ≤ un ∧ un ≤ 8) : 0 ≤ chV un ∧ chV un ≤ 7 := by unfold chV; split <;> omega

set_option maxRecDepth 100000 in
theorem m_X8_changes_b (G : zG) {un td ku : Int} {g ah ag tp co wy th kp ka ln sn it mv : Int → Int} {rest : List va_E} (hg : ∀ j, rng (g j)) {E : zE} {Qr : Option Value → List va_E → Prop} {n : Nat} {l1 : Option Value} (C : zC G E RX8 cX8_changes 2 0 0) (R : zR G E none n Qr) (hah : ∀ j, rng (ah j)) (hun : 0 ≤ un ∧ un ≤ 7) (he : ∀ {z : Int → Int}, z = chG g → Qr none (mdL G (un + 1) td ku (z) (zcp g ah 194 (62 * un) 62) ag tp co wy th kp ka ln sn it mv ++ rest)) : V G E 46 [some (.ref (G.ad 0)), l1] [] (mdL G un td ku g ah ag tp co wy th kp ka ln sn it mv ++ rest) := by
  refine V_iconst C dX8_changes_46 ?_
  refine V_istore_n C dX8_changes_47 (by decide) rfl ?_
  suffices H_48 : V G E 48 [some (.ref (G.ad 0)), some (.int (iI (0)))] [] (mdL G un td ku g (zcp (g) (ah) (194) (62 * un) ((0) - (0))) ag tp co wy th kp ka ln sn it mv ++ rest) by
    rw [show zcp (g) (ah) (194) (62 * un) (0 - (0)) = ah from by rw [Int.sub_self]; exact zcp_0] at H_48
    exact H_48
  refine V_loop (α := Int) (fun x => (100000 - x).toNat) (fun x => 0 ≤ x ∧ x ≤ 62) (fun x => V G E 48 [some (.ref (G.ad 0)), some (.int (iI x))] [] (mdL G un td ku g (zcp (g) (ah) (194) (62 * un) (x - (0))) ag tp co wy th kp ka ln sn it mv ++ rest)) ?_ (0) ⟨by omega, by omega⟩
  rintro q ⟨g1, g2⟩ ih_48
  refine V_iload_n C dX8_changes_48 rfl ?_
  refine V_bipush C dX8_changes_49 (by decide) ?_
  refine V_icmp_ge (tgt := 84) C dX8_changes_51 (by decide) (by omega) (by omega) (fun c_51 => ?_) (fun c_51 => ?_)
  · skip
    have hq62 : q = 62 := by omega
    subst hq62
    clear ih_48
    refine V_aload_n C dX8_changes_84 rfl ?_
    refine V_dup C dX8_changes_85 rfl ?_
    refine vg_X8_97 C dX8_changes_86 rfl rfl ?_
    refine V_iconst C dX8_changes_89 ?_
    refine V_iadd C dX8_changes_90 ?_
    refine vp_X8_97 C dX8_changes_91 rfl (Nat.le_of_ble_eq_true rfl) ?_
    refine V_aload_n C dX8_changes_94 rfl ?_
    refine vg_X8_7 C dX8_changes_95 rfl rfl ?_
    refine V_sipush C dX8_changes_98 (by decide) ?_
    refine V_aload_n C dX8_changes_101 rfl ?_
    refine vg_X8_7 C dX8_changes_102 rfl rfl ?_
    refine V_sipush C dX8_changes_105 (by decide) ?_
    refine V_iald C dX8_changes_108 rfl (by omega) (by omega) (by decide) (by repeat' (first | with_reducible assumption | refine zup_rng ?_ (by first | omega | exact hg _) | refine zcp_rng ?_ ?_)) (fun r_108 => ?_)
    refine V_iast C dX8_changes_109 rfl (by omega) (by omega) (by decide) ?_
    refine V_iconst C dX8_changes_110 ?_
    refine V_istore_n C dX8_changes_111 (by decide) rfl ?_
    suffices H_112 : V G E 112 [some (.ref (G.ad 0)), some (.int (iI (0)))] [] (mdL G (un + 1) td ku (zcp (g) (zup g 128 (g 159)) (160) (129) ((0) - (0))) (zcp g ah 194 (62 * un) 62) ag tp co wy th kp ka ln sn it mv ++ rest) by
      rw [show zcp (g) (zup g 128 (g 159)) (160) (129) (0 - (0)) = zup g 128 (g 159) from by rw [Int.sub_self]; exact zcp_0] at H_112
      exact H_112
    refine V_loop (α := Int) (fun x => (100000 - x).toNat) (fun x => 0 ≤ x ∧ x ≤ 30) (fun x => V G E 112 [some (.ref (G.ad 0)), some (.int (iI x))] [] (mdL G (un + 1) td ku (zcp (g) (zup g 128 (g 159)) (160) (129) (x - (0))) (zcp g ah 194 (62 * un) 62) ag tp co wy th kp ka ln sn it mv ++ rest)) ?_ (0) ⟨by omega, by omega⟩
    rintro q ⟨g1, g2⟩ ih_112
    refine V_iload_n C dX8_changes_112 rfl ?_
    refine V_bipush C dX8_changes_113 (by decide) ?_
    refine V_icmp_ge (tgt := 144) C dX8_changes_115 (by decide) (by omega) (by omega) (fun c_115 => ?_) (fun c_115 => ?_)
    · skip
      exact V_vret C R dX8_changes_144 (he (by rw [show q - 0 = 30 by omega] <;> rfl))
    · skip
      refine V_aload_n C dX8_changes_118 rfl ?_
      refine vg_X8_7 C dX8_changes_119 rfl rfl ?_
      refine V_sipush C dX8_changes_122 (by decide) ?_
      refine V_iload_n C dX8_changes_125 rfl ?_
      refine V_iadd C dX8_changes_126 ?_
      refine V_aload_n C dX8_changes_127 rfl ?_
      refine vg_X8_7 C dX8_changes_128 rfl rfl ?_
      refine V_sipush C dX8_changes_131 (by decide) ?_
      refine V_iload_n C dX8_changes_134 rfl ?_
      refine V_iadd C dX8_changes_135 ?_
      refine V_iald C dX8_changes_136 rfl (by omega) (by omega) (by decide) (by repeat' (first | with_reducible assumption | refine zup_rng ?_ (by first | omega | exact hg _) | refine zcp_rng ?_ ?_)) (fun r_136 => ?_)
      refine V_iast C dX8_changes_137 rfl (by omega) (by omega) (by decide) ?_
      refine V_iinc C dX8_changes_138 rfl (by decide) rfl ?_
      refine V_goto (tgt := 112) C dX8_changes_141 (by decide) ?_
      have e_112 : zup (zcp (g) (zup g 128 (g 159)) (160) (129) (q - (0))) (129 + q) (zcp g (zup g 128 (g 159)) 160 129 (q - 0) (160 + q)) = zcp (g) (zup g 128 (g 159)) (160) (129) (q + 1 - (0)) := zcp_st (by rw [zcp_out (by omega), zup_n (by omega), Int.sub_zero]) (by omega) (by omega) (by omega)
      have H : V G E 112 [some (.ref (G.ad 0)), some (.int (iI (q + 1)))] [] (mdL G (un + 1) td ku (zcp (g) (zup g 128 (g 159)) (160) (129) ((q + 1) - (0))) (zcp g ah 194 (62 * un) 62) ag tp co wy th kp ka ln sn it mv ++ rest) := ih_112 (q + 1) ⟨by omega, by omega⟩ (by omega)
      rw [← e_112] at H
      exact H
  · skip
    refine V_aload_n C dX8_changes_54 rfl ?_
    refine vg_X8_13 C dX8_changes_55 rfl rfl ?_
    refine V_bipush C dX8_changes_58 (by decide) ?_
    refine V_aload_n C dX8_changes_60 rfl ?_
    refine vg_X8_97 C dX8_changes_61 rfl rfl ?_
    refine V_imul C dX8_changes_64 ?_
    refine V_iload_n C dX8_changes_65 rfl ?_
    refine V_iadd C dX8_changes_66 ?_
    refine V_aload_n C dX8_changes_67 rfl ?_
    refine vg_X8_7 C dX8_changes_68 rfl rfl ?_
    refine V_sipush C dX8_changes_71 (by decide) ?_
    refine V_iload_n C dX8_changes_74 rfl ?_
    refine V_iadd C dX8_changes_75 ?_
    refine V_iald C dX8_changes_76 rfl (by omega) (by omega) (by decide) (by repeat' (first | with_reducible assumption | refine zup_rng ?_ (by first | omega | exact hg _) | refine zcp_rng ?_ ?_)) (fun r_76 => ?_)
    refine V_iast C dX8_changes_77 rfl (by omega) (by omega) (by decide) ?_
    refine V_iinc C dX8_changes_78 rfl (by decide) rfl ?_
    refine V_goto (tgt := 48) C dX8_changes_81 (by decide) ?_
    have e_48 : zup (zcp (g) (ah) (194) (62 * un) (q - (0))) (62 * un + q) (g (194 + q)) = zcp (g) (ah) (194) (62 * un) (q + 1 - (0)) := zcp_st (by rw [Int.sub_zero]) (by omega) (by omega) (by omega)
    have H : V G E 48 [some (.ref (G.ad 0)), some (.int (iI (q + 1)))] [] (mdL G un td ku g (zcp (g) (ah) (194) (62 * un) ((q + 1) - (0))) ag tp co wy th kp ka ln sn it mv ++ rest) := ih_48 (q + 1) ⟨by omega, by omega⟩ (by omega)
    rw [← e_48] at H
    exact H

set_option maxRecDepth 100000 in
theorem m_X8_changes (G : zG) {un td ku : Int} {g ah ag tp co wy th kp ka ln sn it mv : Int → Int} {rest : List va_E} (hg : ∀ j, rng (g j))  (hah : ∀ j, rng (ah j)) (hun : 0 ≤ un ∧ un ≤ 8) : zMet G yX8_changes cX8_changes 2 none 0 0 [.ref (G.ad 0)] (mdL G un td ku g ah ag tp co wy th kp ka ln sn it mv ++ rest) (zO0 (mdL G (sU (chM ((un, g, ah) : zM))) td ku (sG (chM ((un, g, ah) : zM))) (sH (chM ((un, g, ah) : zM))) ag tp co wy th kp ka ln sn it mv ++ rest)) := by
  refine zMet.of (by decide) (Nat.le_of_ble_eq_true rfl) ?_
  intro E C R
  have C : zC G E RX8 cX8_changes 2 0 0 := C
  show V G E 0 [some (.ref (G.ad 0)), none] [] (mdL G un td ku g ah ag tp co wy th kp ka ln sn it mv ++ rest)
  refine V_aload_n C dX8_changes_0 rfl ?_
  refine vg_X8_97 C dX8_changes_1 rfl rfl ?_
  refine V_bipush C dX8_changes_4 (by decide) ?_
  refine V_icmp_ne (tgt := 46) C dX8_changes_6 (by decide) (by omega) (by omega) (fun c_6 => ?_) (fun c_6 => ?_)
  · skip
    first
    | exact H
    | (have H := m_X8_changes_b G (ku := ku) (td := td) (g := g) (ag := ag) (tp := tp) (co := co) (wy := wy) (th := th) (kp := kp) (ka := ka) (ln := ln) (sn := sn) (it := it) (mv := mv) (rest := rest) (l1 := none) hg C R (un := chV un) (ah := if un = 8 then zcp ah ah 62 0 434 else ah) (ite_rng (zcp_rng hah hah) hah) (chV_in hun) (fun h => by rw [h]; exact ⟨rfl, rfl⟩);  rw [if_neg (by omega), show chV un = un from if_neg (by omega)] at H; exact H)
  · skip
    refine V_bipush C dX8_changes_9 (by decide) ?_
    refine V_istore_n C dX8_changes_11 (by decide) rfl ?_
    suffices H_12 : V G E 12 [some (.ref (G.ad 0)), some (.int (iI (62)))] [] (mdL G un td ku g (zcp (ah) (ah) (62) (0) ((62) - (62))) ag tp co wy th kp ka ln sn it mv ++ rest) by
      rw [show zcp (ah) (ah) (62) (0) (62 - (62)) = ah from by rw [Int.sub_self]; exact zcp_0] at H_12
      exact H_12
    refine V_loop (α := Int) (fun x => (100000 - x).toNat) (fun x => 62 ≤ x ∧ x ≤ 496) (fun x => V G E 12 [some (.ref (G.ad 0)), some (.int (iI x))] [] (mdL G un td ku g (zcp (ah) (ah) (62) (0) (x - (62))) ag tp co wy th kp ka ln sn it mv ++ rest)) ?_ (62) ⟨by omega, by omega⟩
    rintro q ⟨g1, g2⟩ ih_12
    refine V_iload_n C dX8_changes_12 rfl ?_
    refine V_sipush C dX8_changes_13 (by decide) ?_
    refine V_icmp_ge (tgt := 40) C dX8_changes_16 (by decide) (by omega) (by omega) (fun c_16 => ?_) (fun c_16 => ?_)
    · skip
      clear ih_12
      have hq : q = 496 := by omega
      subst hq
      have H := m_X8_changes_b G (ku := ku) (td := td) (g := g) (ag := ag) (tp := tp) (co := co) (wy := wy) (th := th) (kp := kp) (ka := ka) (ln := ln) (sn := sn) (it := it) (mv := mv) (rest := rest) (l1 := some (.int (iI 496))) hg C R (un := chV un) (ah := if un = 8 then zcp ah ah 62 0 434 else ah) (ite_rng (zcp_rng hah hah) hah) (chV_in hun) (fun h => by rw [h]; exact ⟨rfl, rfl⟩)
      rw [if_pos (by omega), show chV un = 7 from if_pos (by omega)] at H
      refine V_aload_n C dX8_changes_40 rfl ?_
      refine V_bipush C dX8_changes_41 (by decide) ?_
      refine vp_X8_97 C dX8_changes_43 rfl (Nat.le_of_ble_eq_true rfl) ?_
      first
      | exact H
      | (have H := m_X8_changes_b G (ku := ku) (td := td) (g := g) (ag := ag) (tp := tp) (co := co) (wy := wy) (th := th) (kp := kp) (ka := ka) (ln := ln) (sn := sn) (it := it) (mv := mv) (rest := rest) (l1 := none) hg C R (un := chV un) (ah := if un = 8 then zcp ah ah 62 0 434 else ah) (ite_rng (zcp_rng hah hah) hah) (chV_in hun) (fun h => by rw [h]; exact ⟨rfl, rfl⟩);  rw [if_neg (by omega), show chV un = un from if_neg (by omega)] at H; exact H)
    · skip
      refine V_aload_n C dX8_changes_19 rfl ?_
      refine vg_X8_13 C dX8_changes_20 rfl rfl ?_
      refine V_iload_n C dX8_changes_23 rfl ?_
      refine V_bipush C dX8_changes_24 (by decide) ?_
      refine V_isub C dX8_changes_26 ?_
      refine V_aload_n C dX8_changes_27 rfl ?_
      refine vg_X8_13 C dX8_changes_28 rfl rfl ?_
      refine V_iload_n C dX8_changes_31 rfl ?_
      refine V_iald C dX8_changes_32 rfl (by omega) (by omega) (by decide) (by repeat' (first | with_reducible assumption | refine zup_rng ?_ (by first | omega | exact hg _) | refine zcp_rng ?_ ?_)) (fun r_32 => ?_)
      refine V_iast C dX8_changes_33 rfl (by omega) (by omega) (by decide) ?_
      refine V_iinc C dX8_changes_34 rfl (by decide) rfl ?_
      refine V_goto (tgt := 12) C dX8_changes_37 (by decide) ?_
      have e_12 : zup (zcp (ah) (ah) (62) (0) (q - (62))) (q - 62) (zcp ah ah 62 0 (q - 62) q) = zcp (ah) (ah) (62) (0) (q + 1 - (62)) := zcp_st (by rw [zcp_out (by omega), show 62 + (q - 62) = q by omega]) (by omega) (by omega) (by omega)
      have H : V G E 12 [some (.ref (G.ad 0)), some (.int (iI (q + 1)))] [] (mdL G un td ku g (zcp (ah) (ah) (62) (0) ((q + 1) - (62))) ag tp co wy th kp ka ln sn it mv ++ rest) := ih_12 (q + 1) ⟨by omega, by omega⟩ (by omega)
      rw [← e_12] at H
      exact H

set_option maxRecDepth 100000 in
theorem m_X8_undoes (G : zG) {un td ku : Int} {g ah ag tp co wy th kp ka ln sn it mv : Int → Int} {rest : List va_E} (hg : ∀ j, rng (g j))  (hah : ∀ j, rng (ah j)) (hun : 0 ≤ un ∧ un ≤ 8) {n : Int} (hn : 1 ≤ n ∧ n ≤ 99) : zMet G yX8_undoes cX8_undoes 4 (some .int) 0 0 [.ref (G.ad 0), .int (iI n)] (mdL G un td ku g ah ag tp co wy th kp ka ln sn it mv ++ rest) (zO (.int (iI (if un = 0 then -2 else 0))) (mdL G (un - min n un) td ku (if un = 0 then g else unG ah g (un - min n un)) ah ag tp co wy th kp ka ln sn it mv ++ rest)) := by
  refine zMet.of (by decide) (Nat.le_of_ble_eq_true rfl) ?_
  intro E C R
  have C : zC G E RX8 cX8_undoes 4 0 0 := C
  show V G E 0 [some (.ref (G.ad 0)), some (.int (iI n)), none, none] [] (mdL G un td ku g ah ag tp co wy th kp ka ln sn it mv ++ rest)
  refine V_aload_n C dX8_undoes_0 rfl ?_
  refine vg_X8_97 C dX8_undoes_1 rfl rfl ?_
  refine V_if_ne (tgt := 10) C dX8_undoes_4 (by decide) (by omega) (fun c_4 => ?_) (fun c_4 => ?_)
  · skip
    refine V_iconst C dX8_undoes_10 ?_
    refine V_istore_n C dX8_undoes_11 (by decide) rfl ?_
    suffices H_12 : V G E 12 [some (.ref (G.ad 0)), some (.int (iI n)), some (.int (iI 0)), none] [] (mdL G (un - 0) td ku (if (0 : Int) = 0 then g else unG ah g (un - 0)) ah ag tp co wy th kp ka ln sn it mv ++ rest) by
      rw [if_pos rfl, Int.sub_zero] at H_12
      exact H_12
    refine V_loop (α := Int) (fun x => (200 - x).toNat) (fun x => 0 ≤ x ∧ x ≤ n ∧ x ≤ un) (fun x => V G E 12 [some (.ref (G.ad 0)), some (.int (iI n)), some (.int (iI x)), none] [] (mdL G (un - x) td ku (if x = 0 then g else unG ah g (un - x)) ah ag tp co wy th kp ka ln sn it mv ++ rest)) ?_ 0 ⟨by omega, by omega, by omega⟩
    rintro i ⟨k1, k2, k3⟩ ih_12
    have hgi : ∀ j, rng ((if i = 0 then g else unG ah g (un - i)) j) := ite_rng hg (zcp_rng hah hg)
    refine V_iload_n C dX8_undoes_12 rfl ?_
    refine V_iload_n C dX8_undoes_13 rfl ?_
    refine V_icmp_ge (tgt := 74) C dX8_undoes_14 (by decide) (by omega) (by omega) (fun c_14 => ?_) (fun c_14 => ?_)
    · skip
      refine V_iconst C dX8_undoes_74 ?_
      exact V_iret C R dX8_undoes_75 ⟨by rw [if_neg (by omega)], by rw [if_neg (by omega), show min n un = i by omega, if_neg (by omega)] <;> rfl⟩
    · skip
      refine V_aload_n C dX8_undoes_17 rfl ?_
      refine vg_X8_97 C dX8_undoes_18 rfl rfl ?_
      refine V_if_le (tgt := 74) C dX8_undoes_21 (by decide) (by omega) (fun c_21 => ?_) (fun c_21 => ?_)
      · skip
        refine V_iconst C dX8_undoes_74 ?_
        exact V_iret C R dX8_undoes_75 ⟨by rw [if_neg (by omega)], by rw [if_neg (by omega), show min n un = i by omega, if_neg (by omega)] <;> rfl⟩
      · skip
        refine V_aload_n C dX8_undoes_24 rfl ?_
        refine V_dup C dX8_undoes_25 rfl ?_
        refine vg_X8_97 C dX8_undoes_26 rfl rfl ?_
        refine V_iconst C dX8_undoes_29 ?_
        refine V_isub C dX8_undoes_30 ?_
        refine vp_X8_97 C dX8_undoes_31 rfl (Nat.le_of_ble_eq_true rfl) ?_
        refine V_iconst C dX8_undoes_34 ?_
        refine V_istore_n C dX8_undoes_35 (by decide) rfl ?_
        suffices H_36 : V G E 36 [some (.ref (G.ad 0)), some (.int (iI n)), some (.int (iI i)), some (.int (iI (0)))] [] (mdL G (un - i - 1) td ku (zcp (ah) (if i = 0 then g else unG ah g (un - i)) (62 * (un - i - 1)) (0) ((0) - (0))) ah ag tp co wy th kp ka ln sn it mv ++ rest) by
          rw [show zcp (ah) (if i = 0 then g else unG ah g (un - i)) (62 * (un - i - 1)) (0) (0 - (0)) = if i = 0 then g else unG ah g (un - i) from by rw [Int.sub_self]; exact zcp_0] at H_36
          exact H_36
        refine V_loop (α := Int) (fun x => (100000 - x).toNat) (fun x => 0 ≤ x ∧ x ≤ 62) (fun x => V G E 36 [some (.ref (G.ad 0)), some (.int (iI n)), some (.int (iI i)), some (.int (iI x))] [] (mdL G (un - i - 1) td ku (zcp (ah) (if i = 0 then g else unG ah g (un - i)) (62 * (un - i - 1)) (0) (x - (0))) ah ag tp co wy th kp ka ln sn it mv ++ rest)) ?_ (0) ⟨by omega, by omega⟩
        rintro q ⟨g1, g2⟩ ih_36
        refine V_iload_n C dX8_undoes_36 rfl ?_
        refine V_bipush C dX8_undoes_37 (by decide) ?_
        refine V_icmp_ge (tgt := 68) C dX8_undoes_39 (by decide) (by omega) (by omega) (fun c_39 => ?_) (fun c_39 => ?_)
        · skip
          refine V_iinc C dX8_undoes_68 rfl (by decide) rfl ?_
          refine V_goto (tgt := 12) C dX8_undoes_71 (by decide) ?_
          have hq62 : q = 62 := by omega
          subst hq62
          refine V_drop 3 ?_
          have H : V G E 12 [some (.ref (G.ad 0)), some (.int (iI n)), some (.int (iI (i + 1))), none] [] (mdL G (un - (i + 1)) td ku (if i + 1 = 0 then g else unG ah g (un - (i + 1))) ah ag tp co wy th kp ka ln sn it mv ++ rest) := ih_12 (i + 1) ⟨by omega, by omega, by omega⟩ (by omega)
          rw [if_neg (show ¬ i + 1 = 0 by omega)] at H
          have e : zcp ah (if i = 0 then g else unG ah g (un - i)) (62 * (un - i - 1)) 0 (62 - 0) = unG ah g (un - (i + 1)) := by
            unfold unG
            funext j
            rw [zcp_at, zcp_at, show un - i - 1 = un - (i + 1) by omega]
            by_cases c : 0 ≤ j ∧ j < 0 + 62
            · rw [if_pos (by omega), if_pos c]
            · rw [if_neg (by omega), if_neg c]
              split
              · rfl
              · exact zcp_out (by omega)
          rw [← e, show un - (i + 1) = un - i - 1 by omega] at H
          exact H
        · skip
          refine V_aload_n C dX8_undoes_42 rfl ?_
          refine vg_X8_7 C dX8_undoes_43 rfl rfl ?_
          refine V_iload_n C dX8_undoes_46 rfl ?_
          refine V_aload_n C dX8_undoes_47 rfl ?_
          refine vg_X8_13 C dX8_undoes_48 rfl rfl ?_
          refine V_bipush C dX8_undoes_51 (by decide) ?_
          refine V_aload_n C dX8_undoes_53 rfl ?_
          refine vg_X8_97 C dX8_undoes_54 rfl rfl ?_
          refine V_imul C dX8_undoes_57 ?_
          refine V_iload_n C dX8_undoes_58 rfl ?_
          refine V_iadd C dX8_undoes_59 ?_
          refine V_iald C dX8_undoes_60 rfl (by omega) (by omega) (by decide) (by repeat' (first | with_reducible assumption | refine zup_rng ?_ (by first | omega | exact hg _) | refine zcp_rng ?_ ?_)) (fun r_60 => ?_)
          refine V_iast C dX8_undoes_61 rfl (by omega) (by omega) (by decide) ?_
          refine V_iinc C dX8_undoes_62 rfl (by decide) rfl ?_
          refine V_goto (tgt := 36) C dX8_undoes_65 (by decide) ?_
          have e_36 : zup (zcp (ah) (if i = 0 then g else unG ah g (un - i)) (62 * (un - i - 1)) (0) (q - (0))) (q) (ah (62 * (un - i - 1) + q)) = zcp (ah) (if i = 0 then g else unG ah g (un - i)) (62 * (un - i - 1)) (0) (q + 1 - (0)) := zcp_st (by rw [Int.sub_zero]) (by omega) (by omega) (by omega)
          have H : V G E 36 [some (.ref (G.ad 0)), some (.int (iI n)), some (.int (iI i)), some (.int (iI (q + 1)))] [] (mdL G (un - i - 1) td ku (zcp (ah) (if i = 0 then g else unG ah g (un - i)) (62 * (un - i - 1)) (0) ((q + 1) - (0))) ah ag tp co wy th kp ka ln sn it mv ++ rest) := ih_36 (q + 1) ⟨by omega, by omega⟩ (by omega)
          rw [← e_36] at H
          exact H
  · skip
    refine V_bipush C dX8_undoes_7 (by decide) ?_
    exact V_iret C R dX8_undoes_9 ⟨by rw [if_pos (by omega)], by rw [if_pos (by omega), show un - min n un = un by omega] <;> rfl⟩

set_option maxRecDepth 100000 in
theorem m_X8_inserts (G : zG) {un td ku : Int} {g ah ag tp co wy th kp ka ln sn it mv : Int → Int} {rest : List va_E} (hg : ∀ j, rng (g j))  {p : Int} (hp : rng p) : zMet G yX8_inserts cX8_inserts 2 (some .int) 0 0 [.ref (G.ad 0), .int (iI p)] (mdL G un td ku g ah ag tp co wy th kp ka ln sn it mv ++ rest) (zO (.int (iI 2)) (mdL G un td ku (zup (zup g 61 p) 62 1) ah ag tp co wy th kp ka ln sn it mv ++ rest)) := by
  refine zMet.of (by decide) (Nat.le_of_ble_eq_true rfl) ?_
  intro E C R
  have C : zC G E RX8 cX8_inserts 2 0 0 := C
  show V G E 0 [some (.ref (G.ad 0)), some (.int (iI p))] [] (mdL G un td ku g ah ag tp co wy th kp ka ln sn it mv ++ rest)
  refine V_aload_n C dX8_inserts_0 rfl ?_
  refine vg_X8_7 C dX8_inserts_1 rfl rfl ?_
  refine V_bipush C dX8_inserts_4 (by decide) ?_
  refine V_iload_n C dX8_inserts_6 rfl ?_
  refine V_iast C dX8_inserts_7 rfl (by omega) (by omega) (by decide) ?_
  refine V_aload_n C dX8_inserts_8 rfl ?_
  refine vg_X8_7 C dX8_inserts_9 rfl rfl ?_
  refine V_bipush C dX8_inserts_12 (by decide) ?_
  refine V_iconst C dX8_inserts_14 ?_
  refine V_iast C dX8_inserts_15 rfl (by omega) (by omega) (by decide) ?_
  refine V_iconst C dX8_inserts_16 ?_
  exact V_iret C R dX8_inserts_17 ⟨rfl, rfl⟩

set_option maxRecDepth 100000 in
theorem m_X8_ranged (G : zG) {un td ku : Int} {g ah ag tp co wy th kp ka ln sn it mv : Int → Int} {rest : List va_E} (hg : ∀ j, rng (g j))  (hL : 0 ≤ g 0 ∧ g 0 ≤ 60) (hah : ∀ j, rng (ah j)) (hun : 0 ≤ un ∧ un ≤ 8) {a b : Int} (ha : 0 ≤ a ∧ a ≤ b ∧ b ≤ g 0) : zMet G yX8_ranged cX8_ranged 4 (some .int) 1 23 [.ref (G.ad 0), .int (iI a), .int (iI b)] (mdL G un td ku g ah ag tp co wy th kp ka ln sn it mv ++ rest) (zO (.int (iI (rgM ((un, g, ah) : zM) a b).1)) (mdL G (sU ((rgM ((un, g, ah) : zM) a b).2)) td ku (sG ((rgM ((un, g, ah) : zM) a b).2)) (sH ((rgM ((un, g, ah) : zM) a b).2)) ag tp co wy th kp ka ln sn it mv ++ rest)) := by
  refine zMet.of (by decide) (Nat.le_of_ble_eq_true rfl) ?_
  intro E C R
  have C : zC G E RX8 cX8_ranged 4 1 23 := C
  show V G E 0 [some (.ref (G.ad 0)), some (.int (iI a)), some (.int (iI b)), none] [] (mdL G un td ku g ah ag tp co wy th kp ka ln sn it mv ++ rest)
  refine V_aload_n C dX8_ranged_0 rfl ?_
  refine vg_X8_7 C dX8_ranged_1 rfl rfl ?_
  refine V_sipush C dX8_ranged_4 (by decide) ?_
  refine V_iald C dX8_ranged_7 rfl (by omega) (by omega) (by decide) (by repeat' (first | with_reducible assumption | refine zup_rng ?_ (by first | omega | exact hg _) | refine zcp_rng ?_ ?_)) (fun r_7 => ?_)
  refine V_istore_n C dX8_ranged_8 (by decide) rfl ?_
  suffices J_20 : V G E 20 [some (.ref (G.ad 0)), some (.int (iI a)), some (.int (iI b)), some (.int (iI (g 190)))] [] (mdL G un td ku (rgA g a b) ah ag tp co wy th kp ka ln sn it mv ++ rest) by
    refine V_iload_n C dX8_ranged_9 rfl ?_
    refine V_iload_n C dX8_ranged_10 rfl ?_
    refine V_icmp_le (tgt := 20) C dX8_ranged_11 (by decide) (by omega) (by omega) (fun c_11 => ?_) (fun c_11 => ?_)
    · skip
      first
      | (rw [show rgA g a b = kpG g a b from if_pos (by omega)] at J_20; exact J_20)
      | (rw [show rgA g a b = g from if_neg (by omega)] at J_20; exact J_20)
    · skip
      refine V_aload_n C dX8_ranged_14 rfl ?_
      refine V_iload_n C dX8_ranged_15 rfl ?_
      refine V_iload_n C dX8_ranged_16 rfl ?_
      refine V_callV C lk_X8_100 (m_X8_keeps G hg hL ha) dX8_ranged_17 rfl rfl rfl rfl (by decide) (Nat.le_of_ble_eq_true rfl) (kO0 ?_)
      first
      | (rw [show rgA g a b = kpG g a b from if_pos (by omega)] at J_20; exact J_20)
      | (rw [show rgA g a b = g from if_neg (by omega)] at J_20; exact J_20)
  have hgA := rgA_rng (a := a) (b := b) hg (by omega)
  suffices J_37 : V G E 37 [some (.ref (G.ad 0)), some (.int (iI a)), some (.int (iI b)), some (.int (iI (g 190)))] [] (mdL G un td ku (rgB g a b) ah ag tp co wy th kp ka ln sn it mv ++ rest) by
    refine V_iload_n C dX8_ranged_20 rfl ?_
    refine V_bipush C dX8_ranged_21 (by decide) ?_
    refine V_icmp_eq (tgt := 37) C dX8_ranged_23 (by decide) (by omega) (by omega) (fun c_23 => ?_) (fun c_23 => ?_)
    · skip
      first
      | (rw [show rgB g a b = ctG (rgA g a b) a b from if_pos (by omega)] at J_37; exact J_37)
      | (rw [show rgB g a b = rgA g a b from if_neg (by omega)] at J_37; exact J_37)
    · skip
      refine V_iload_n C dX8_ranged_26 rfl ?_
      refine V_iload_n C dX8_ranged_27 rfl ?_
      refine V_icmp_le (tgt := 37) C dX8_ranged_28 (by decide) (by omega) (by omega) (fun c_28 => ?_) (fun c_28 => ?_)
      · skip
        first
        | (rw [show rgB g a b = ctG (rgA g a b) a b from if_pos (by omega)] at J_37; exact J_37)
        | (rw [show rgB g a b = rgA g a b from if_neg (by omega)] at J_37; exact J_37)
      · skip
        refine V_aload_n C dX8_ranged_31 rfl ?_
        refine V_iload_n C dX8_ranged_32 rfl ?_
        refine V_iload_n C dX8_ranged_33 rfl ?_
        refine V_callV C lk_X8_104 (m_X8_cuts G hgA (by rw [rgA_0]; exact hL) (by rw [rgA_0]; omega)) dX8_ranged_34 rfl rfl rfl rfl (by decide) (Nat.le_of_ble_eq_true rfl) (kO0 ?_)
        first
        | (rw [show rgB g a b = ctG (rgA g a b) a b from if_pos (by omega)] at J_37; exact J_37)
        | (rw [show rgB g a b = rgA g a b from if_neg (by omega)] at J_37; exact J_37)
  have hgB := rgB_rng (a := a) (b := b) hg (by omega)
  have hB0 := rgB_0 (g := g) ha
  have hlB := la_in hB0.1
  refine V_iload_n C dX8_ranged_37 rfl ?_
  refine V_bipush C dX8_ranged_38 (by decide) ?_
  refine V_icmp_ne (tgt := 49) C dX8_ranged_40 (by decide) (by omega) (by omega) (fun c_40 => ?_) (fun c_40 => ?_)
  · skip
    refine V_aload_n C dX8_ranged_49 rfl ?_
    refine vg_X8_7 C dX8_ranged_50 rfl rfl ?_
    refine V_bipush C dX8_ranged_53 (by decide) ?_
    refine V_iload_n C dX8_ranged_55 rfl ?_
    refine V_aload_n C dX8_ranged_56 rfl ?_
    refine V_callV C lk_X8_77 (m_X8_last G hgB (by omega)) dX8_ranged_57 rfl rfl rfl rfl (by decide) (Nat.le_of_ble_eq_true rfl) (kO ?_)
    refine V_callS C lk_X8_94 (m_X8_lesser G (by omega) (by omega)) dX8_ranged_60 rfl rfl (by decide) (Nat.le_of_ble_eq_true rfl) (kO ?_)
    refine V_iast C dX8_ranged_63 rfl (by omega) (by omega) (by decide) ?_
    refine V_iload_n C dX8_ranged_64 rfl ?_
    refine V_bipush C dX8_ranged_65 (by decide) ?_
    refine V_icmp_ne (tgt := 79) C dX8_ranged_67 (by decide) (by omega) (by omega) (fun c_67 => ?_) (fun c_67 => ?_)
    · skip
      refine V_iconst C dX8_ranged_79 ?_
      exact V_iret C R dX8_ranged_80 (by unfold rgM; dsimp only [sU, sG, sH]; rw [if_neg (by assumption)]; first | (rw [if_pos (by omega)]; exact ⟨rfl, rfl⟩) | (rw [if_neg (by omega)]; exact ⟨rfl, rfl⟩))
    · skip
      refine V_iload_n C dX8_ranged_70 rfl ?_
      refine V_iload_n C dX8_ranged_71 rfl ?_
      refine V_icmp_le (tgt := 79) C dX8_ranged_72 (by decide) (by omega) (by omega) (fun c_72 => ?_) (fun c_72 => ?_)
      · skip
        refine V_iconst C dX8_ranged_79 ?_
        exact V_iret C R dX8_ranged_80 (by unfold rgM; dsimp only [sU, sG, sH]; rw [if_neg (by assumption)]; first | (rw [if_pos (by omega)]; exact ⟨rfl, rfl⟩) | (rw [if_neg (by omega)]; exact ⟨rfl, rfl⟩))
      · skip
        refine V_aload_n C dX8_ranged_75 rfl ?_
        refine V_callV C lk_X8_110 (m_X8_changes G (zup_rng hgB (by omega)) hah hun) dX8_ranged_76 rfl rfl rfl rfl (by decide) (Nat.le_of_ble_eq_true rfl) (kO0 ?_)
        refine V_iconst C dX8_ranged_79 ?_
        exact V_iret C R dX8_ranged_80 (by unfold rgM; dsimp only [sU, sG, sH]; rw [if_neg (by assumption)]; first | (rw [if_pos (by omega)]; exact ⟨rfl, rfl⟩) | (rw [if_neg (by omega)]; exact ⟨rfl, rfl⟩))
  · skip
    refine V_aload_n C dX8_ranged_43 rfl ?_
    refine V_iload_n C dX8_ranged_44 rfl ?_
    refine V_callV C lk_X8_107 (m_X8_inserts G hgB (by omega)) dX8_ranged_45 rfl rfl rfl rfl (by decide) (Nat.le_of_ble_eq_true rfl) (kO ?_)
    exact V_iret C R dX8_ranged_48 (by unfold rgM; dsimp only [sU, sG, sH]; rw [if_pos (by assumption)]; exact ⟨rfl, rfl⟩)

set_option maxRecDepth 100000 in
theorem m_X8_goesTo (G : zG) {un td ku : Int} {g ah ag tp co wy th kp ka ln sn it mv : Int → Int} {rest : List va_E} (hg : ∀ j, rng (g j))  (hL : 0 ≤ g 0 ∧ g 0 ≤ 60) (hah : ∀ j, rng (ah j)) (hun : 0 ≤ un ∧ un ≤ 8) {p i : Int} (hp : 0 ≤ p ∧ p ≤ 60) (hi : 0 ≤ i ∧ i ≤ 1) (hc : 0 ≤ g 61 ∧ g 61 ≤ g 0) : zMet G yX8_goesTo cX8_goesTo 6 (some .int) 2 46 [.ref (G.ad 0), .int (iI p), .int (iI i)] (mdL G un td ku g ah ag tp co wy th kp ka ln sn it mv ++ rest) (zO (.int (iI (gtM ((un, g, ah) : zM) p i).1)) (mdL G (sU ((gtM ((un, g, ah) : zM) p i).2)) td ku (sG ((gtM ((un, g, ah) : zM) p i).2)) (sH ((gtM ((un, g, ah) : zM) p i).2)) ag tp co wy th kp ka ln sn it mv ++ rest)) := by
  refine zMet.of (by decide) (Nat.le_of_ble_eq_true rfl) ?_
  intro E C R
  have C : zC G E RX8 cX8_goesTo 6 2 46 := C
  show V G E 0 [some (.ref (G.ad 0)), some (.int (iI p)), some (.int (iI i)), none, none, none] [] (mdL G un td ku g ah ag tp co wy th kp ka ln sn it mv ++ rest)
  have hla := la_in hL.1
  refine V_aload_n C dX8_goesTo_0 rfl ?_
  refine vg_X8_7 C dX8_goesTo_1 rfl rfl ?_
  refine V_sipush C dX8_goesTo_4 (by decide) ?_
  refine V_iald C dX8_goesTo_7 rfl (by omega) (by omega) (by decide) (by repeat' (first | with_reducible assumption | refine zup_rng ?_ (by first | omega | exact hg _) | refine zcp_rng ?_ ?_)) (fun r_7 => ?_)
  refine V_if_ne (tgt := 28) C dX8_goesTo_8 (by decide) (by omega) (fun c_8 => ?_) (fun c_8 => ?_)
  · skip
    refine V_aload_n C dX8_goesTo_28 rfl ?_
    refine vg_X8_7 C dX8_goesTo_29 rfl rfl ?_
    refine V_bipush C dX8_goesTo_32 (by decide) ?_
    refine V_iald C dX8_goesTo_34 rfl (by omega) (by omega) (by decide) (by repeat' (first | with_reducible assumption | refine zup_rng ?_ (by first | omega | exact hg _) | refine zcp_rng ?_ ?_)) (fun r_34 => ?_)
    refine V_istore_n C dX8_goesTo_35 (by decide) rfl ?_
    refine V_iload_n C dX8_goesTo_36 rfl ?_
    refine V_iload_n C dX8_goesTo_37 rfl ?_
    refine V_callS C lk_X8_94 (m_X8_lesser G (by omega) (by omega)) dX8_goesTo_38 rfl rfl (by decide) (Nat.le_of_ble_eq_true rfl) (kO ?_)
    refine V_istore C dX8_goesTo_41 (by decide) rfl ?_
    refine V_midz (pc2 := 54) (max (g 61) p) ?_ (fun kk_43 => ?_)
    · skip
      refine V_istore C dX8_goesTo_54 (by decide) rfl ?_
      refine V_aload_n C dX8_goesTo_56 rfl ?_
      refine V_iload C dX8_goesTo_57 rfl ?_
      refine V_iload C dX8_goesTo_59 rfl ?_
      refine V_midz (pc2 := 70) (i) ?_ (fun kk_61 => ?_)
      · skip
        refine V_iadd C dX8_goesTo_70 ?_
        refine V_aload_n C dX8_goesTo_71 rfl ?_
        refine vg_X8_7 C dX8_goesTo_72 rfl rfl ?_
        refine V_iconst C dX8_goesTo_75 ?_
        refine V_iald C dX8_goesTo_76 rfl (by omega) (by omega) (by decide) (by repeat' (first | with_reducible assumption | refine zup_rng ?_ (by first | omega | exact hg _) | refine zcp_rng ?_ ?_)) (fun r_76 => ?_)
        refine V_callS C lk_X8_94 (m_X8_lesser G (by omega) (by omega)) dX8_goesTo_77 rfl rfl (by decide) (Nat.le_of_ble_eq_true rfl) (kO ?_)
        refine V_callV C lk_X8_113 (m_X8_ranged G hg hL hah hun (by omega)) dX8_goesTo_80 rfl rfl rfl rfl (by decide) (Nat.le_of_ble_eq_true rfl) (kO ?_)
        exact V_iret C R dX8_goesTo_83 (by unfold gtM; dsimp only [sU, sG, sH]; rw [if_neg (by assumption)]; exact ⟨rfl, rfl⟩)
      · skip
        refine V_iload_n C dX8_goesTo_61 rfl ?_
        refine V_if_eq (tgt := 69) C dX8_goesTo_62 (by decide) (by omega) (fun c_62 => ?_) (fun c_62 => ?_)
        · skip
          refine V_iconst C dX8_goesTo_69 ?_
          exact kk_61 _ (by omega)
        · skip
          refine V_iconst C dX8_goesTo_65 ?_
          refine V_goto (tgt := 70) C dX8_goesTo_66 (by decide) ?_
          exact kk_61 _ (by omega)
    · skip
      refine V_iload C dX8_goesTo_43 rfl ?_
      refine V_iload_n C dX8_goesTo_45 rfl ?_
      refine V_icmp_ne (tgt := 53) C dX8_goesTo_46 (by decide) (by omega) (by omega) (fun c_46 => ?_) (fun c_46 => ?_)
      · skip
        refine V_iload_n C dX8_goesTo_53 rfl ?_
        exact kk_43 _ (by omega)
      · skip
        refine V_iload_n C dX8_goesTo_49 rfl ?_
        refine V_goto (tgt := 54) C dX8_goesTo_50 (by decide) ?_
        exact kk_43 _ (by omega)
  · skip
    refine V_aload_n C dX8_goesTo_11 rfl ?_
    refine vg_X8_7 C dX8_goesTo_12 rfl rfl ?_
    refine V_bipush C dX8_goesTo_15 (by decide) ?_
    refine V_iload_n C dX8_goesTo_17 rfl ?_
    refine V_aload_n C dX8_goesTo_18 rfl ?_
    refine V_callV C lk_X8_77 (m_X8_last G hg hL) dX8_goesTo_19 rfl rfl rfl rfl (by decide) (Nat.le_of_ble_eq_true rfl) (kO ?_)
    refine V_callS C lk_X8_94 (m_X8_lesser G (by omega) (by omega)) dX8_goesTo_22 rfl rfl (by decide) (Nat.le_of_ble_eq_true rfl) (kO ?_)
    refine V_iast C dX8_goesTo_25 rfl (by omega) (by omega) (by decide) ?_
    refine V_iconst C dX8_goesTo_26 ?_
    exact V_iret C R dX8_goesTo_27 (by unfold gtM; dsimp only [sU, sG, sH]; rw [if_pos (by assumption)]; exact ⟨rfl, rfl⟩)
