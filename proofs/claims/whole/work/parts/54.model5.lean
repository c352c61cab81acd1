theorem pin_1 {g sf : Int → Int} {sl p e e' v : Int} (hv : v = sf ((e - p) % sl)) (h : p ≤ e) (he : e' = e + 1) : zup (pin g sf sl p e) e v = pin g sf sl p e' := by
  subst hv; subst he
  funext j
  unfold zup pin
  by_cases c : j = e
  · rw [if_pos c, if_pos (by omega), c]
  · rw [if_neg c]
    by_cases c2 : p ≤ j ∧ j < e
    · rw [if_pos c2, if_pos (by omega)]
    · rw [if_neg c2, if_neg (by omega)]
theorem pin_o {g sf : Int → Int} {sl p e j : Int} (h : j < p ∨ e ≤ j) : pin g sf sl p e j = g j := if_neg (by omega)
theorem ovr_1 {f : Int → Int} {a e e' v : Int} (h : a ≤ e) (he : e' = e + 1) : zup (ovr f a e v) e v = ovr f a e' v := by subst he; exact ovr_s h
theorem ovr_o {f : Int → Int} {a e v j : Int} (h : j < a ∨ e ≤ j) : ovr f a e v j = f j := if_neg (by omega)
theorem sws_o {f : Int → Int} {a e j : Int} (h : j < a ∨ e ≤ j) : sws f a e j = f j := if_neg (by omega)
theorem sws_1 {f : Int → Int} {a e e' v : Int} (h : a ≤ e) (he : e' = e + 1) (hv : v = swc (sws f a e e)) : zup (sws f a e) e v = sws f a e' := by subst he; subst hv; exact sws_s h
theorem zcp_dn {f h : Int → Int} {sp dp n i v sp' dp' n' : Int} (hv : v = f sp) (h0 : 0 ≤ n) (e1 : sp' = sp + 1) (e2 : dp' = dp + 1) (e3 : n' = n + 1) (e4 : i = dp) : zup (zcp f h sp' dp' n) i v = zcp f h sp dp n' := by
  subst hv; subst e1; subst e2; subst e3; subst e4; exact zcp_d h0
def crM (s : zM) (n : Int) : Int × zM := if sG s 0 = 0 then (-2, s) else (0, chM (sU s, zup (ctG (kpG (sG s) (sG s 61) (min (sG s 61 + n) (sG s 0))) (sG s 61) (min (sG s 61 + n) (sG s 0))) 61 (min (sG s 61) (la (ctG (kpG (sG s) (sG s 61) (min (sG s 61 + n) (sG s 0))) (sG s 61) (min (sG s 61 + n) (sG s 0)) 0))), sH s))
def rpM (s : zM) (x n : Int) : Int × zM := if sG s 61 + n > sG s 0 then (-2, s) else (0, chM (sU s, zup (ovr (sG s) (1 + sG s 61) (1 + (sG s 61 + n)) x) 61 (sG s 61 + n - 1), sH s))
def tnM (s : zM) (n : Int) : Int × zM := if sG s 0 = 0 then (-2, s) else (0, chM (sU s, zup (sws (sG s) (1 + sG s 61) (1 + min (sG s 61 + n) (sG s 0))) 61 (min (min (sG s 61 + n) (sG s 0)) (la (sG s 0))), sH s))
def ptP (g : Int → Int) (a : Int) : Int := if a ≠ 0 ∧ 0 < g 0 then g 61 + 1 else g 61
def ptM (s : zM) (a n : Int) : Int × zM := if n * sG s 63 = 0 ∨ 60 < sG s 0 + n * sG s 63 then (-2, s) else (0, chM (sU s, zup (zup (pin (zcp (sG s) (sG s) (1 + ptP (sG s) a) (1 + ptP (sG s) a + n * sG s 63) (sG s 0 - ptP (sG s) a)) (fun k => sG s (64 + k)) (sG s 63) (1 + ptP (sG s) a) (1 + ptP (sG s) a + n * sG s 63)) 0 (sG s 0 + n * sG s 63)) 61 (ptP (sG s) a + n * sG s 63 - 1), sH s))

set_option maxRecDepth 100000 in
theorem m_X8_words (G : zG) {un td ku : Int} {g ah ag tp co wy th kp ka ln sn it mv : Int → Int} {rest : List va_E} (hg : ∀ j, rng (g j))  (hL : 0 ≤ g 0 ∧ g 0 ≤ 60) (hah : ∀ j, rng (ah j)) (hun : 0 ≤ un ∧ un ≤ 8) (hc : 0 ≤ g 61 ∧ (g 61 < g 0 ∨ (g 61 = 0 ∧ g 0 = 0))) (h0 : g 0 ≠ 0) {ar : Int} (har : 0 ≤ ar ∧ ar ≤ 1) : zMet G yX8_words cX8_words 5 (some .int) 3 67 [.ref (G.ad 0), .int (iI ar)] (mdL G un td ku g ah ag tp co wy th kp ka ln sn it mv ++ rest) (zO (.int (iI (wdM ((un, g, ah) : zM) ar).1)) (mdL G (sU ((wdM ((un, g, ah) : zM) ar).2)) td ku (sG ((wdM ((un, g, ah) : zM) ar).2)) (sH ((wdM ((un, g, ah) : zM) ar).2)) ag tp co wy th kp ka ln sn it mv ++ rest)) := by
  refine zMet.of (by decide) (Nat.le_of_ble_eq_true rfl) ?_
  intro E C R
  have C : zC G E RX8 cX8_words 5 3 67 := C
  show V G E 0 [some (.ref (G.ad 0)), some (.int (iI ar)), none, none, none] [] (mdL G un td ku g ah ag tp co wy th kp ka ln sn it mv ++ rest)
  have hk0 := kd_at (f := lt g) (L := g 0) (p := g 61) hc.1 (by omega)
  have hkc := kc_in (lt g (g 61))
  have hk := kd_in (lt g) (g 0) (g 61)
  have hgo := bh_go (f := lt g) (L := g 0) (k := (kd (lt g) (g 0) (g 61))) (q := g 61) (by omega) rfl
  refine V_aload_n C dX8_words_0 rfl ?_
  refine vg_X8_7 C dX8_words_1 rfl rfl ?_
  refine V_bipush C dX8_words_4 (by decide) ?_
  refine V_iald C dX8_words_6 rfl (by omega) (by omega) (by decide) (by repeat' (first | with_reducible assumption | refine zup_rng ?_ (by first | omega | exact hg _) | refine zcp_rng ?_ ?_)) (fun r_6 => ?_)
  refine V_istore_n C dX8_words_7 (by decide) rfl ?_
  refine V_iload_n C dX8_words_8 rfl ?_
  refine V_iconst C dX8_words_9 ?_
  refine V_iadd C dX8_words_10 ?_
  refine V_istore_n C dX8_words_11 (by decide) rfl ?_
  refine V_aload_n C dX8_words_12 rfl ?_
  refine V_iload_n C dX8_words_13 rfl ?_
  refine V_callV C lk_X8_74 (m_X8_classAt G hg hL (by omega)) dX8_words_14 rfl rfl rfl rfl (by decide) (Nat.le_of_ble_eq_true rfl) (kO ?_)
  refine V_istore C dX8_words_17 (by decide) rfl ?_
  refine V_loop (α := Int) (fun x => x.toNat) (fun x => 0 ≤ x ∧ x ≤ g 61 ∧ bg (lt g) (g 0) (kd (lt g) (g 0) (g 61)) x = bg (lt g) (g 0) (kd (lt g) (g 0) (g 61)) (g 61)) (fun x => V G E 19 [some (.ref (G.ad 0)), some (.int (iI ar)), some (.int (iI x)), some (.int (iI (g 61 + 1))), some (.int (iI (kd (lt g) (g 0) (g 61))))] [] (mdL G un td ku g ah ag tp co wy th kp ka ln sn it mv ++ rest)) ?_ (g 61) ⟨by omega, by omega, rfl⟩
  rintro a ⟨g1, g2, g3⟩ ih_19
  have hq := kd_in (lt g) (g 0) (a - 1)
  refine V_aload_n C dX8_words_19 rfl ?_
  refine V_iload_n C dX8_words_20 rfl ?_
  refine V_iconst C dX8_words_21 ?_
  refine V_isub C dX8_words_22 ?_
  refine V_callV C lk_X8_74 (m_X8_classAt G hg hL (by omega)) dX8_words_23 rfl rfl rfl rfl (by decide) (Nat.le_of_ble_eq_true rfl) (kO ?_)
  refine V_iload C dX8_words_26 rfl ?_
  refine V_icmp_ne (tgt := 37) C dX8_words_28 (by decide) (by omega) (by omega) (fun c_28 => ?_) (fun c_28 => ?_)
  · skip
    have hA : bg (lt g) (g 0) (kd (lt g) (g 0) (g 61)) (g 61) = a := by rw [← g3]; exact bg_no (by omega)
    clear ih_19
    refine V_loop (α := Int) (fun x => (200 - x).toNat) (fun x => g 61 + 1 ≤ x ∧ x ≤ g 0 ∧ bh (lt g) (g 0) (kd (lt g) (g 0) (g 61)) x = bh (lt g) (g 0) (kd (lt g) (g 0) (g 61)) (g 61 + 1)) (fun x => V G E 37 [some (.ref (G.ad 0)), some (.int (iI ar)), some (.int (iI a)), some (.int (iI x)), some (.int (iI (kd (lt g) (g 0) (g 61))))] [] (mdL G un td ku g ah ag tp co wy th kp ka ln sn it mv ++ rest)) ?_ (g 61 + 1) ⟨by omega, by omega, rfl⟩
    rintro b ⟨k1, k2, k3⟩ ih_37
    have hq2 := kd_in (lt g) (g 0) b
    refine V_aload_n C dX8_words_37 rfl ?_
    refine V_iload_n C dX8_words_38 rfl ?_
    refine V_callV C lk_X8_74 (m_X8_classAt G hg hL (by omega)) dX8_words_39 rfl rfl rfl rfl (by decide) (Nat.le_of_ble_eq_true rfl) (kO ?_)
    refine V_iload C dX8_words_42 rfl ?_
    refine V_icmp_ne (tgt := 53) C dX8_words_44 (by decide) (by omega) (by omega) (fun c_44 => ?_) (fun c_44 => ?_)
    · skip
      have hB : bh (lt g) (g 0) (kd (lt g) (g 0) (g 61)) (g 61) = b := by rw [hgo, ← k3]; exact bh_no (by omega)
      clear ih_37
      refine V_loop (α := Int) (fun x => (200 - x).toNat) (fun x => b ≤ x ∧ x ≤ g 0 ∧ (ar = 0 → x = b) ∧ bh (lt g) (g 0) 0 x = bh (lt g) (g 0) 0 b) (fun x => V G E 53 [some (.ref (G.ad 0)), some (.int (iI ar)), some (.int (iI a)), some (.int (iI x)), some (.int (iI (kd (lt g) (g 0) (g 61))))] [] (mdL G un td ku g ah ag tp co wy th kp ka ln sn it mv ++ rest)) ?_ b ⟨by omega, by omega, fun _ => rfl, rfl⟩
      rintro c ⟨m1, m2, m3, m4⟩ ih_53
      have hq3 := kd_in (lt g) (g 0) c
      refine V_iload_n C dX8_words_53 rfl ?_
      refine V_if_eq (tgt := 71) C dX8_words_54 (by decide) (by omega) (fun c_54 => ?_) (fun c_54 => ?_)
      · skip
        refine V_aload_n C dX8_words_71 rfl ?_
        refine V_iload_n C dX8_words_72 rfl ?_
        refine V_iload_n C dX8_words_73 rfl ?_
        refine V_callV C lk_X8_113 (m_X8_ranged G hg hL hah hun (by omega)) dX8_words_74 rfl rfl rfl rfl (by decide) (Nat.le_of_ble_eq_true rfl) (kO ?_)
        exact V_iret C R dX8_words_77 (by unfold wdM; dsimp only [sU, sG, sH]; rw [hA, hB, show (if ar = 0 then b else bh (lt g) (g 0) 0 b) = c from (by
            by_cases h : ar = 0
            · rw [if_pos h]; exact (m3 h).symm
            · rw [if_neg h, ← m4]; exact bh_no (by omega))]; exact ⟨rfl, rfl⟩)
      · skip
        refine V_aload_n C dX8_words_57 rfl ?_
        refine V_iload_n C dX8_words_58 rfl ?_
        refine V_callV C lk_X8_74 (m_X8_classAt G hg hL (by omega)) dX8_words_59 rfl rfl rfl rfl (by decide) (Nat.le_of_ble_eq_true rfl) (kO ?_)
        refine V_if_ne (tgt := 71) C dX8_words_62 (by decide) (by omega) (fun c_62 => ?_) (fun c_62 => ?_)
        · skip
          refine V_aload_n C dX8_words_71 rfl ?_
          refine V_iload_n C dX8_words_72 rfl ?_
          refine V_iload_n C dX8_words_73 rfl ?_
          refine V_callV C lk_X8_113 (m_X8_ranged G hg hL hah hun (by omega)) dX8_words_74 rfl rfl rfl rfl (by decide) (Nat.le_of_ble_eq_true rfl) (kO ?_)
          exact V_iret C R dX8_words_77 (by unfold wdM; dsimp only [sU, sG, sH]; rw [hA, hB, show (if ar = 0 then b else bh (lt g) (g 0) 0 b) = c from (by
              by_cases h : ar = 0
              · rw [if_pos h]; exact (m3 h).symm
              · rw [if_neg h, ← m4]; exact bh_no (by omega))]; exact ⟨rfl, rfl⟩)
        · skip
          refine V_iinc C dX8_words_65 rfl (by decide) rfl ?_
          refine V_goto (tgt := 53) C dX8_words_68 (by decide) ?_
          have hpos := kd_pos (f := lt g) (L := g 0) (p := c) (by omega)
          exact ih_53 (c + 1) ⟨by omega, by omega, fun h => by omega, by rw [← m4]; exact (bh_go (by omega) (by omega)).symm⟩ (by omega)
    · skip
      refine V_iinc C dX8_words_47 rfl (by decide) rfl ?_
      refine V_goto (tgt := 37) C dX8_words_50 (by decide) ?_
      have hpos := kd_pos (f := lt g) (L := g 0) (p := b) (by omega)
      exact ih_37 (b + 1) ⟨by omega, by omega, by rw [← k3]; exact (bh_go (by omega) (by omega)).symm⟩ (by omega)
  · skip
    refine V_iinc C dX8_words_31 rfl (by decide) rfl ?_
    refine V_goto (tgt := 19) C dX8_words_34 (by decide) ?_
    have hpos := kd_pos (f := lt g) (L := g 0) (p := a - 1) (by omega)
    exact ih_19 (a + -1) ⟨by omega, by omega, by rw [← g3]; exact (bg_go (by omega) (by omega)).symm⟩ (by omega)

set_option maxRecDepth 100000 in
theorem m_X8_brackets (G : zG) {un td ku : Int} {g ah ag tp co wy th kp ka ln sn it mv : Int → Int} {rest : List va_E} (hg : ∀ j, rng (g j))  (hL : 0 ≤ g 0 ∧ g 0 ≤ 60) (hah : ∀ j, rng (ah j)) (hun : 0 ≤ un ∧ un ≤ 8) (hc : 0 ≤ g 61 ∧ (g 61 < g 0 ∨ (g 61 = 0 ∧ g 0 = 0))) {ar : Int} (har : 0 ≤ ar ∧ ar ≤ 1) : zMet G yX8_brackets cX8_brackets 6 (some .int) 2 52 [.ref (G.ad 0), .int (iI ar)] (mdL G un td ku g ah ag tp co wy th kp ka ln sn it mv ++ rest) (zO (.int (iI (brM ((un, g, ah) : zM) ar).1)) (mdL G (sU ((brM ((un, g, ah) : zM) ar).2)) td ku (sG ((brM ((un, g, ah) : zM) ar).2)) (sH ((brM ((un, g, ah) : zM) ar).2)) ag tp co wy th kp ka ln sn it mv ++ rest)) := by
  refine zMet.of (by decide) (Nat.le_of_ble_eq_true rfl) ?_
  intro E C R
  have C : zC G E RX8 cX8_brackets 6 2 52 := C
  show V G E 0 [some (.ref (G.ad 0)), some (.int (iI ar)), none, none, none, none] [] (mdL G un td ku g ah ag tp co wy th kp ka ln sn it mv ++ rest)
  have hO : op (lt g) (g 0) (g 0) (if 0 < g 0 ∧ g (1 + g 61) = 41 then g 61 - 1 else g 61) 0 = op (lt g) (g 0) (g 61) (g 61) 0 := op_c2 (f := lt g) hL.1 hc
  have hin := op_in (lt g) (g 0) (g 61) (g 61) 0
  have hci := cl_in (lt g) (g 0) (op (lt g) (g 0) (g 61) (g 61) 0 + 1) 0
  have hOL : g 0 = 0 → op (lt g) (g 0) (g 61) (g 61) 0 = -1 := fun h => by
    have e : g 61 = 0 := by omega
    rw [e, h]; rfl
  have hb0 : brC (lt g) (g 0) (g 61) = -1 ∨ (op (lt g) (g 0) (g 61) (g 61) 0 ≠ -1 ∧ op (lt g) (g 0) (g 61) (g 61) 0 + 1 ≤ brC (lt g) (g 0) (g 61) ∧ brC (lt g) (g 0) (g 61) < g 0) := by
    unfold brC; split
    · exact Or.inl rfl
    · omega
  have hz : -1 ≤ (if 0 < g 0 ∧ g (1 + g 61) = 41 then g 61 - 1 else g 61) ∧ (if 0 < g 0 ∧ g (1 + g 61) = 41 then g 61 - 1 else g 61) ≤ g 61 := by split <;> omega
  have hcvO : (cv (op (lt g) (g 0) (g 61) (g 61) 0) = -4 ∧ op (lt g) (g 0) (g 61) (g 61) 0 = -1) ∨ (cv (op (lt g) (g 0) (g 61) (g 61) 0) = op (lt g) (g 0) (g 61) (g 61) 0 ∧ op (lt g) (g 0) (g 61) (g 61) 0 ≠ -1) := by
    by_cases h : op (lt g) (g 0) (g 61) (g 61) 0 = -1
    · exact Or.inl ⟨cv_m h, h⟩
    · exact Or.inr ⟨cv_n h, h⟩
  have hcvB : (cv (brC (lt g) (g 0) (g 61)) = -4 ∧ brC (lt g) (g 0) (g 61) = -1) ∨ (cv (brC (lt g) (g 0) (g 61)) = brC (lt g) (g 0) (g 61) ∧ brC (lt g) (g 0) (g 61) ≠ -1) := by
    by_cases h : brC (lt g) (g 0) (g 61) = -1
    · exact Or.inl ⟨cv_m h, h⟩
    · exact Or.inr ⟨cv_n h, h⟩
  have hb1 : cv (op (lt g) (g 0) (g 61) (g 61) 0) = -4 → (-4 : Int) = cv (brC (lt g) (g 0) (g 61)) := fun h => by
    unfold brC; rw [if_pos (by omega)]; rfl
  have hb2 : cv (op (lt g) (g 0) (g 61) (g 61) 0) ≠ -4 → cv (cl (lt g) (g 0) (cv (op (lt g) (g 0) (g 61) (g 61) 0) + 1) 0) = cv (brC (lt g) (g 0) (g 61)) := fun h => by
    unfold brC; rw [if_neg (by omega), show cv (op (lt g) (g 0) (g 61) (g 61) 0) = op (lt g) (g 0) (g 61) (g 61) 0 by omega]
  refine V_aload_n C dX8_brackets_0 rfl ?_
  refine vg_X8_7 C dX8_brackets_1 rfl rfl ?_
  refine V_bipush C dX8_brackets_4 (by decide) ?_
  refine V_iald C dX8_brackets_6 rfl (by omega) (by omega) (by decide) (by repeat' (first | with_reducible assumption | refine zup_rng ?_ (by first | omega | exact hg _) | refine zcp_rng ?_ ?_)) (fun r_6 => ?_)
  refine V_istore_n C dX8_brackets_7 (by decide) rfl ?_
  refine V_midb (pc2 := 35) (0 < g 0 ∧ g (1 + g 61) = 41) ?_ (fun kt_8 kf_8 => ?_)
  · skip
    refine V_istore_n C dX8_brackets_35 (by decide) rfl ?_
    refine V_aload_n C dX8_brackets_36 rfl ?_
    refine V_midz (pc2 := 48) ((if 0 < g 0 ∧ g (1 + g 61) = 41 then g 61 - 1 else g 61)) ?_ (fun kk_37 => ?_)
    · skip
      refine V_iconst C dX8_brackets_48 ?_
      refine V_bipush C dX8_brackets_49 (by decide) ?_
      refine V_bipush C dX8_brackets_51 (by decide) ?_
      refine V_callV C lk_X8_133 (m_X8_bracket_dn G hg hL (by omega)) dX8_brackets_53 rfl rfl rfl rfl (by decide) (Nat.le_of_ble_eq_true rfl) (kO ?_)
      rw [hO]
      refine V_istore C dX8_brackets_56 (by decide) rfl ?_
      refine V_midz (pc2 := 83) (cv (brC (lt g) (g 0) (g 61))) ?_ (fun kk_58 => ?_)
      · skip
        refine V_istore C dX8_brackets_83 (by decide) rfl ?_
        refine V_iload C dX8_brackets_85 rfl ?_
        refine V_bipush C dX8_brackets_87 (by decide) ?_
        refine V_icmp_ne (tgt := 95) C dX8_brackets_89 (by decide) (by omega) (by omega) (fun c_89 => ?_) (fun c_89 => ?_)
        · skip
          rw [show cv (op (lt g) (g 0) (g 61) (g 61) 0) = op (lt g) (g 0) (g 61) (g 61) 0 by omega, show cv (brC (lt g) (g 0) (g 61)) = brC (lt g) (g 0) (g 61) by omega]
          refine V_iload_n C dX8_brackets_95 rfl ?_
          refine V_if_eq (tgt := 112) C dX8_brackets_96 (by decide) (by omega) (fun c_96 => ?_) (fun c_96 => ?_)
          · skip
            refine V_aload_n C dX8_brackets_112 rfl ?_
            refine V_iload C dX8_brackets_113 rfl ?_
            refine V_iconst C dX8_brackets_115 ?_
            refine V_iadd C dX8_brackets_116 ?_
            refine V_iload C dX8_brackets_117 rfl ?_
            refine V_callV C lk_X8_113 (m_X8_ranged G hg hL hah hun (by omega)) dX8_brackets_119 rfl rfl rfl rfl (by decide) (Nat.le_of_ble_eq_true rfl) (kO ?_)
            exact V_iret C R dX8_brackets_122 (by unfold brM; dsimp only [sU, sG, sH]; rw [if_neg (by omega)]; first | (rw [if_pos (by omega)]; exact ⟨rfl, rfl⟩) | (rw [if_neg (by omega)]; exact ⟨rfl, rfl⟩))
          · skip
            refine V_aload_n C dX8_brackets_99 rfl ?_
            refine V_iload C dX8_brackets_100 rfl ?_
            refine V_iload C dX8_brackets_102 rfl ?_
            refine V_iconst C dX8_brackets_104 ?_
            refine V_iadd C dX8_brackets_105 ?_
            refine V_callV C lk_X8_113 (m_X8_ranged G hg hL hah hun (by omega)) dX8_brackets_106 rfl rfl rfl rfl (by decide) (Nat.le_of_ble_eq_true rfl) (kO ?_)
            refine V_goto (tgt := 122) C dX8_brackets_109 (by decide) ?_
            exact V_iret C R dX8_brackets_122 (by unfold brM; dsimp only [sU, sG, sH]; rw [if_neg (by omega)]; first | (rw [if_pos (by omega)]; exact ⟨rfl, rfl⟩) | (rw [if_neg (by omega)]; exact ⟨rfl, rfl⟩))
        · skip
          refine V_bipush C dX8_brackets_92 (by decide) ?_
          exact V_iret C R dX8_brackets_94 (by unfold brM; dsimp only [sU, sG, sH]; rw [if_pos (by omega)]; exact ⟨rfl, rfl⟩)
      · skip
        refine V_iload C dX8_brackets_58 rfl ?_
        refine V_bipush C dX8_brackets_60 (by decide) ?_
        refine V_icmp_ne (tgt := 70) C dX8_brackets_62 (by decide) (by omega) (by omega) (fun c_62 => ?_) (fun c_62 => ?_)
        · skip
          refine V_aload_n C dX8_brackets_70 rfl ?_
          refine V_iload C dX8_brackets_71 rfl ?_
          refine V_iconst C dX8_brackets_73 ?_
          refine V_iadd C dX8_brackets_74 ?_
          refine V_iconst C dX8_brackets_75 ?_
          refine V_bipush C dX8_brackets_76 (by decide) ?_
          refine V_bipush C dX8_brackets_78 (by decide) ?_
          refine V_callV C lk_X8_133 (m_X8_bracket_up G hg hL (by omega)) dX8_brackets_80 rfl rfl rfl rfl (by decide) (Nat.le_of_ble_eq_true rfl) (kO ?_)
          exact kk_58 _ (by first | exact hb1 (by assumption) | exact hb2 (by assumption))
        · skip
          refine V_bipush C dX8_brackets_65 (by decide) ?_
          refine V_goto (tgt := 83) C dX8_brackets_67 (by decide) ?_
          exact kk_58 _ (by first | exact hb1 (by assumption) | exact hb2 (by assumption))
    · skip
      refine V_iload_n C dX8_brackets_37 rfl ?_
      refine V_if_eqB (tgt := 47) C dX8_brackets_38 (by decide) (fun c_38 => ?_) (fun c_38 => ?_)
      · skip
        refine V_iload_n C dX8_brackets_47 rfl ?_
        exact kk_37 _ (by first | rw [if_pos (by assumption)] | rw [if_neg (by assumption)])
      · skip
        refine V_iload_n C dX8_brackets_41 rfl ?_
        refine V_iconst C dX8_brackets_42 ?_
        refine V_isub C dX8_brackets_43 ?_
        refine V_goto (tgt := 48) C dX8_brackets_44 (by decide) ?_
        exact kk_37 _ (by first | rw [if_pos (by assumption)] | rw [if_neg (by assumption)])
  · skip
    refine V_aload_n C dX8_brackets_8 rfl ?_
    refine vg_X8_7 C dX8_brackets_9 rfl rfl ?_
    refine V_iconst C dX8_brackets_12 ?_
    refine V_iald C dX8_brackets_13 rfl (by omega) (by omega) (by decide) (by repeat' (first | with_reducible assumption | refine zup_rng ?_ (by first | omega | exact hg _) | refine zcp_rng ?_ ?_)) (fun r_13 => ?_)
    refine V_if_le (tgt := 34) C dX8_brackets_14 (by decide) (by omega) (fun c_14 => ?_) (fun c_14 => ?_)
    · skip
      refine V_iconst C dX8_brackets_34 ?_
      exact kf_8 (by omega)
    · skip
      refine V_aload_n C dX8_brackets_17 rfl ?_
      refine vg_X8_7 C dX8_brackets_18 rfl rfl ?_
      refine V_iconst C dX8_brackets_21 ?_
      refine V_iload_n C dX8_brackets_22 rfl ?_
      refine V_iadd C dX8_brackets_23 ?_
      refine V_iald C dX8_brackets_24 rfl (by omega) (by omega) (by decide) (by repeat' (first | with_reducible assumption | refine zup_rng ?_ (by first | omega | exact hg _) | refine zcp_rng ?_ ?_)) (fun r_24 => ?_)
      refine V_bipush C dX8_brackets_25 (by decide) ?_
      refine V_icmp_ne (tgt := 34) C dX8_brackets_27 (by decide) (by omega) (by omega) (fun c_27 => ?_) (fun c_27 => ?_)
      · skip
        refine V_iconst C dX8_brackets_34 ?_
        exact kf_8 (by omega)
      · skip
        refine V_iconst C dX8_brackets_30 ?_
        refine V_goto (tgt := 35) C dX8_brackets_31 (by decide) ?_
        exact kt_8 (by omega)

set_option maxRecDepth 100000 in
theorem m_X8_objects (G : zG) {un td ku : Int} {g ah ag tp co wy th kp ka ln sn it mv : Int → Int} {rest : List va_E} (hg : ∀ j, rng (g j))  (hL : 0 ≤ g 0 ∧ g 0 ≤ 60) (hah : ∀ j, rng (ah j)) (hun : 0 ≤ un ∧ un ≤ 8) (hc : 0 ≤ g 61 ∧ (g 61 < g 0 ∨ (g 61 = 0 ∧ g 0 = 0))) {ar x : Int} (har : 0 ≤ ar ∧ ar ≤ 1) (hx : rng x) : zMet G yX8_objects cX8_objects 3 (some .int) 4 91 [.ref (G.ad 0), .int (iI ar), .int (iI x)] (mdL G un td ku g ah ag tp co wy th kp ka ln sn it mv ++ rest) (zO (.int (iI (obM ((un, g, ah) : zM) ar x).1)) (mdL G (sU ((obM ((un, g, ah) : zM) ar x).2)) td ku (sG ((obM ((un, g, ah) : zM) ar x).2)) (sH ((obM ((un, g, ah) : zM) ar x).2)) ag tp co wy th kp ka ln sn it mv ++ rest)) := by
  refine zMet.of (by decide) (Nat.le_of_ble_eq_true rfl) ?_
  intro E C R
  have C : zC G E RX8 cX8_objects 3 4 91 := C
  show V G E 0 [some (.ref (G.ad 0)), some (.int (iI ar)), some (.int (iI x))] [] (mdL G un td ku g ah ag tp co wy th kp ka ln sn it mv ++ rest)
  refine V_iload_n C dX8_objects_0 rfl ?_
  refine V_bipush C dX8_objects_1 (by decide) ?_
  refine V_icmp_ne (tgt := 26) C dX8_objects_3 (by decide) (by omega) (by omega) (fun c_3 => ?_) (fun c_3 => ?_)
  · skip
    refine V_iload_n C dX8_objects_26 rfl ?_
    refine V_bipush C dX8_objects_27 (by decide) ?_
    refine V_icmp_ne (tgt := 40) C dX8_objects_29 (by decide) (by omega) (by omega) (fun c_29 => ?_) (fun c_29 => ?_)
    · skip
      refine V_bipush C dX8_objects_40 (by decide) ?_
      exact V_iret C R dX8_objects_42 (by unfold obM; dsimp only [sU, sG, sH]; first | (rw [if_pos (by assumption), if_pos (by assumption)]; exact ⟨rfl, rfl⟩) | (rw [if_pos (by assumption), if_neg (by assumption)]; exact ⟨rfl, rfl⟩) | (rw [if_neg (by assumption), if_pos (by assumption)]; exact ⟨rfl, rfl⟩) | (rw [if_neg (by assumption), if_neg (by assumption)]; exact ⟨rfl, rfl⟩))
    · skip
      refine V_aload_n C dX8_objects_32 rfl ?_
      refine V_iload_n C dX8_objects_33 rfl ?_
      refine V_callV C lk_X8_130 (m_X8_brackets G hg hL hah hun hc har) dX8_objects_34 rfl rfl rfl rfl (by decide) (Nat.le_of_ble_eq_true rfl) (kO ?_)
      refine V_goto (tgt := 42) C dX8_objects_37 (by decide) ?_
      exact V_iret C R dX8_objects_42 (by unfold obM; dsimp only [sU, sG, sH]; first | (rw [if_pos (by assumption), if_pos (by assumption)]; exact ⟨rfl, rfl⟩) | (rw [if_pos (by assumption), if_neg (by assumption)]; exact ⟨rfl, rfl⟩) | (rw [if_neg (by assumption), if_pos (by assumption)]; exact ⟨rfl, rfl⟩) | (rw [if_neg (by assumption), if_neg (by assumption)]; exact ⟨rfl, rfl⟩))
  · skip
    refine V_aload_n C dX8_objects_6 rfl ?_
    refine vg_X8_7 C dX8_objects_7 rfl rfl ?_
    refine V_iconst C dX8_objects_10 ?_
    refine V_iald C dX8_objects_11 rfl (by omega) (by omega) (by decide) (by repeat' (first | with_reducible assumption | refine zup_rng ?_ (by first | omega | exact hg _) | refine zcp_rng ?_ ?_)) (fun r_11 => ?_)
    refine V_if_ne (tgt := 20) C dX8_objects_12 (by decide) (by omega) (fun c_12 => ?_) (fun c_12 => ?_)
    · skip
      refine V_aload_n C dX8_objects_20 rfl ?_
      refine V_iload_n C dX8_objects_21 rfl ?_
      refine V_callV C lk_X8_126 (m_X8_words G hg hL hah hun hc (by omega) har) dX8_objects_22 rfl rfl rfl rfl (by decide) (Nat.le_of_ble_eq_true rfl) (kO ?_)
      exact V_iret C R dX8_objects_25 (by unfold obM; dsimp only [sU, sG, sH]; first | (rw [if_pos (by assumption), if_pos (by assumption)]; exact ⟨rfl, rfl⟩) | (rw [if_pos (by assumption), if_neg (by assumption)]; exact ⟨rfl, rfl⟩) | (rw [if_neg (by assumption), if_pos (by assumption)]; exact ⟨rfl, rfl⟩) | (rw [if_neg (by assumption), if_neg (by assumption)]; exact ⟨rfl, rfl⟩))
    · skip
      refine V_bipush C dX8_objects_15 (by decide) ?_
      refine V_goto (tgt := 25) C dX8_objects_17 (by decide) ?_
      exact V_iret C R dX8_objects_25 (by unfold obM; dsimp only [sU, sG, sH]; first | (rw [if_pos (by assumption), if_pos (by assumption)]; exact ⟨rfl, rfl⟩) | (rw [if_pos (by assumption), if_neg (by assumption)]; exact ⟨rfl, rfl⟩) | (rw [if_neg (by assumption), if_pos (by assumption)]; exact ⟨rfl, rfl⟩) | (rw [if_neg (by assumption), if_neg (by assumption)]; exact ⟨rfl, rfl⟩))

set_option maxRecDepth 100000 in
theorem m_X8_crosses (G : zG) {un td ku : Int} {g ah ag tp co wy th kp ka ln sn it mv : Int → Int} {rest : List va_E} (hg : ∀ j, rng (g j))  (hL : 0 ≤ g 0 ∧ g 0 ≤ 60) (hah : ∀ j, rng (ah j)) (hun : 0 ≤ un ∧ un ≤ 8) (hc : 0 ≤ g 61 ∧ (g 61 < g 0 ∨ (g 61 = 0 ∧ g 0 = 0))) {n : Int} (hn : 1 ≤ n ∧ n ≤ 99) : zMet G yX8_crosses cX8_crosses 4 (some .int) 1 23 [.ref (G.ad 0), .int (iI n)] (mdL G un td ku g ah ag tp co wy th kp ka ln sn it mv ++ rest) (zO (.int (iI (crM ((un, g, ah) : zM) n).1)) (mdL G (sU ((crM ((un, g, ah) : zM) n).2)) td ku (sG ((crM ((un, g, ah) : zM) n).2)) (sH ((crM ((un, g, ah) : zM) n).2)) ag tp co wy th kp ka ln sn it mv ++ rest)) := by
  refine zMet.of (by decide) (Nat.le_of_ble_eq_true rfl) ?_
  intro E C R
  have C : zC G E RX8 cX8_crosses 4 1 23 := C
  show V G E 0 [some (.ref (G.ad 0)), some (.int (iI n)), none, none] [] (mdL G un td ku g ah ag tp co wy th kp ka ln sn it mv ++ rest)
  refine V_aload_n C dX8_crosses_0 rfl ?_
  refine vg_X8_7 C dX8_crosses_1 rfl rfl ?_
  refine V_iconst C dX8_crosses_4 ?_
  refine V_iald C dX8_crosses_5 rfl (by omega) (by omega) (by decide) (by repeat' (first | with_reducible assumption | refine zup_rng ?_ (by first | omega | exact hg _) | refine zcp_rng ?_ ?_)) (fun r_5 => ?_)
  refine V_if_ne (tgt := 12) C dX8_crosses_6 (by decide) (by omega) (fun c_6 => ?_) (fun c_6 => ?_)
  · skip
    refine V_aload_n C dX8_crosses_12 rfl ?_
    refine vg_X8_7 C dX8_crosses_13 rfl rfl ?_
    refine V_bipush C dX8_crosses_16 (by decide) ?_
    refine V_iald C dX8_crosses_18 rfl (by omega) (by omega) (by decide) (by repeat' (first | with_reducible assumption | refine zup_rng ?_ (by first | omega | exact hg _) | refine zcp_rng ?_ ?_)) (fun r_18 => ?_)
    refine V_istore_n C dX8_crosses_19 (by decide) rfl ?_
    refine V_iload_n C dX8_crosses_20 rfl ?_
    refine V_iload_n C dX8_crosses_21 rfl ?_
    refine V_iadd C dX8_crosses_22 ?_
    refine V_aload_n C dX8_crosses_23 rfl ?_
    refine vg_X8_7 C dX8_crosses_24 rfl rfl ?_
    refine V_iconst C dX8_crosses_27 ?_
    refine V_iald C dX8_crosses_28 rfl (by omega) (by omega) (by decide) (by repeat' (first | with_reducible assumption | refine zup_rng ?_ (by first | omega | exact hg _) | refine zcp_rng ?_ ?_)) (fun r_28 => ?_)
    refine V_callS C lk_X8_94 (m_X8_lesser G (by omega) (by omega)) dX8_crosses_29 rfl rfl (by decide) (Nat.le_of_ble_eq_true rfl) (kO ?_)
    refine V_istore_n C dX8_crosses_32 (by decide) rfl ?_
    refine V_aload_n C dX8_crosses_33 rfl ?_
    refine V_iload_n C dX8_crosses_34 rfl ?_
    refine V_iload_n C dX8_crosses_35 rfl ?_
    refine V_callV C lk_X8_100 (m_X8_keeps G hg hL (by omega)) dX8_crosses_36 rfl rfl rfl rfl (by decide) (Nat.le_of_ble_eq_true rfl) (kO0 ?_)
    refine V_aload_n C dX8_crosses_39 rfl ?_
    refine V_iload_n C dX8_crosses_40 rfl ?_
    refine V_iload_n C dX8_crosses_41 rfl ?_
    refine V_callV C lk_X8_104 (m_X8_cuts G (kpG_rng hg (by omega)) (by rw [kpG_o (by omega) (by omega)]; omega) (by rw [kpG_o (by omega) (by omega)]; omega)) dX8_crosses_42 rfl rfl rfl rfl (by decide) (Nat.le_of_ble_eq_true rfl) (kO0 ?_)
    have hgc : ∀ j, rng (ctG (kpG g (g 61) (min (g 61 + n) (g 0))) (g 61) (min (g 61 + n) (g 0)) j) := ctG_rng (kpG_rng hg (by omega)) (by rw [kpG_o (by omega) (by omega)]; omega)
    have h00 : ctG (kpG g (g 61) (min (g 61 + n) (g 0))) (g 61) (min (g 61 + n) (g 0)) 0 = g 0 - ((min (g 61 + n) (g 0)) - g 61) := by rw [ctG_0, kpG_o (by omega) (by omega)]
    have hla := la_in (L := ctG (kpG g (g 61) (min (g 61 + n) (g 0))) (g 61) (min (g 61 + n) (g 0)) 0) (by omega)
    refine V_aload_n C dX8_crosses_45 rfl ?_
    refine vg_X8_7 C dX8_crosses_46 rfl rfl ?_
    refine V_bipush C dX8_crosses_49 (by decide) ?_
    refine V_iload_n C dX8_crosses_51 rfl ?_
    refine V_aload_n C dX8_crosses_52 rfl ?_
    refine V_callV C lk_X8_77 (m_X8_last G hgc (by omega)) dX8_crosses_53 rfl rfl rfl rfl (by decide) (Nat.le_of_ble_eq_true rfl) (kO ?_)
    refine V_callS C lk_X8_94 (m_X8_lesser G (by omega) (by omega)) dX8_crosses_56 rfl rfl (by decide) (Nat.le_of_ble_eq_true rfl) (kO ?_)
    refine V_iast C dX8_crosses_59 rfl (by omega) (by omega) (by decide) ?_
    refine V_aload_n C dX8_crosses_60 rfl ?_
    refine V_callV C lk_X8_110 (m_X8_changes G (zup_rng hgc (by omega)) hah hun) dX8_crosses_61 rfl rfl rfl rfl (by decide) (Nat.le_of_ble_eq_true rfl) (kO0 ?_)
    refine V_iconst C dX8_crosses_64 ?_
    exact V_iret C R dX8_crosses_65 (by unfold crM; dsimp only [sU, sG, sH]; rw [if_neg (by assumption)]; exact ⟨rfl, rfl⟩)
  · skip
    refine V_bipush C dX8_crosses_9 (by decide) ?_
    exact V_iret C R dX8_crosses_11 (by unfold crM; dsimp only [sU, sG, sH]; rw [if_pos (by assumption)]; exact ⟨rfl, rfl⟩)

set_option maxRecDepth 100000 in
theorem m_X8_replaces (G : zG) {un td ku : Int} {g ah ag tp co wy th kp ka ln sn it mv : Int → Int} {rest : List va_E} (hg : ∀ j, rng (g j))  (hL : 0 ≤ g 0 ∧ g 0 ≤ 60) (hah : ∀ j, rng (ah j)) (hun : 0 ≤ un ∧ un ≤ 8) (hc : 0 ≤ g 61 ∧ (g 61 < g 0 ∨ (g 61 = 0 ∧ g 0 = 0))) {y : Int} (hy : rng y) {n : Int} (hn : 1 ≤ n ∧ n ≤ 99) : zMet G yX8_replaces cX8_replaces 5 (some .int) 1 21 [.ref (G.ad 0), .int (iI y), .int (iI n)] (mdL G un td ku g ah ag tp co wy th kp ka ln sn it mv ++ rest) (zO (.int (iI (rpM ((un, g, ah) : zM) y n).1)) (mdL G (sU ((rpM ((un, g, ah) : zM) y n).2)) td ku (sG ((rpM ((un, g, ah) : zM) y n).2)) (sH ((rpM ((un, g, ah) : zM) y n).2)) ag tp co wy th kp ka ln sn it mv ++ rest)) := by
  refine zMet.of (by decide) (Nat.le_of_ble_eq_true rfl) ?_
  intro E C R
  have C : zC G E RX8 cX8_replaces 5 1 21 := C
  show V G E 0 [some (.ref (G.ad 0)), some (.int (iI y)), some (.int (iI n)), none, none] [] (mdL G un td ku g ah ag tp co wy th kp ka ln sn it mv ++ rest)
  refine V_aload_n C dX8_replaces_0 rfl ?_
  refine vg_X8_7 C dX8_replaces_1 rfl rfl ?_
  refine V_bipush C dX8_replaces_4 (by decide) ?_
  refine V_iald C dX8_replaces_6 rfl (by omega) (by omega) (by decide) (by repeat' (first | with_reducible assumption | refine zup_rng ?_ (by first | omega | exact hg _) | refine zcp_rng ?_ ?_)) (fun r_6 => ?_)
  refine V_istore_n C dX8_replaces_7 (by decide) rfl ?_
  refine V_iload_n C dX8_replaces_8 rfl ?_
  refine V_iload_n C dX8_replaces_9 rfl ?_
  refine V_iadd C dX8_replaces_10 ?_
  refine V_aload_n C dX8_replaces_11 rfl ?_
  refine vg_X8_7 C dX8_replaces_12 rfl rfl ?_
  refine V_iconst C dX8_replaces_15 ?_
  refine V_iald C dX8_replaces_16 rfl (by omega) (by omega) (by decide) (by repeat' (first | with_reducible assumption | refine zup_rng ?_ (by first | omega | exact hg _) | refine zcp_rng ?_ ?_)) (fun r_16 => ?_)
  refine V_icmp_le (tgt := 23) C dX8_replaces_17 (by decide) (by omega) (by omega) (fun c_17 => ?_) (fun c_17 => ?_)
  · skip
    refine V_iload_n C dX8_replaces_23 rfl ?_
    refine V_istore C dX8_replaces_24 (by decide) rfl ?_
    suffices H_26 : V G E 26 [some (.ref (G.ad 0)), some (.int (iI y)), some (.int (iI n)), some (.int (iI (g 61))), some (.int (iI (g 61)))] [] (mdL G un td ku (ovr g (1 + g 61) (1 + g 61) y) ah ag tp co wy th kp ka ln sn it mv ++ rest) by
      rw [ovr_0] at H_26
      exact H_26
    refine V_loop (α := Int) (fun x => (200 - x).toNat) (fun x => g 61 ≤ x ∧ x ≤ g 61 + n) (fun x => V G E 26 [some (.ref (G.ad 0)), some (.int (iI y)), some (.int (iI n)), some (.int (iI (g 61))), some (.int (iI x))] [] (mdL G un td ku (ovr g (1 + g 61) (1 + x) y) ah ag tp co wy th kp ka ln sn it mv ++ rest)) ?_ (g 61) ⟨by omega, by omega⟩
    rintro q ⟨g1, g2⟩ ih_26
    refine V_iload C dX8_replaces_26 rfl ?_
    refine V_iload_n C dX8_replaces_28 rfl ?_
    refine V_iload_n C dX8_replaces_29 rfl ?_
    refine V_iadd C dX8_replaces_30 ?_
    refine V_icmp_ge (tgt := 50) C dX8_replaces_31 (by decide) (by omega) (by omega) (fun c_31 => ?_) (fun c_31 => ?_)
    · skip
      have hq : q = g 61 + n := by omega
      subst hq
      clear ih_26
      refine V_aload_n C dX8_replaces_50 rfl ?_
      refine vg_X8_7 C dX8_replaces_51 rfl rfl ?_
      refine V_bipush C dX8_replaces_54 (by decide) ?_
      refine V_iload_n C dX8_replaces_56 rfl ?_
      refine V_iload_n C dX8_replaces_57 rfl ?_
      refine V_iadd C dX8_replaces_58 ?_
      refine V_iconst C dX8_replaces_59 ?_
      refine V_isub C dX8_replaces_60 ?_
      refine V_iast C dX8_replaces_61 rfl (by omega) (by omega) (by decide) ?_
      refine V_aload_n C dX8_replaces_62 rfl ?_
      refine V_callV C lk_X8_110 (m_X8_changes G (zup_rng (ovr_rng hg hy) (by omega)) hah hun) dX8_replaces_63 rfl rfl rfl rfl (by decide) (Nat.le_of_ble_eq_true rfl) (kO0 ?_)
      refine V_iconst C dX8_replaces_66 ?_
      exact V_iret C R dX8_replaces_67 (by unfold rpM; dsimp only [sU, sG, sH]; rw [if_neg (by omega)]; exact ⟨rfl, rfl⟩)
    · skip
      refine V_aload_n C dX8_replaces_34 rfl ?_
      refine vg_X8_7 C dX8_replaces_35 rfl rfl ?_
      refine V_iconst C dX8_replaces_38 ?_
      refine V_iload C dX8_replaces_39 rfl ?_
      refine V_iadd C dX8_replaces_41 ?_
      refine V_iload_n C dX8_replaces_42 rfl ?_
      refine V_iast C dX8_replaces_43 rfl (by omega) (by omega) (by decide) ?_
      refine V_iinc C dX8_replaces_44 rfl (by decide) rfl ?_
      refine V_goto (tgt := 26) C dX8_replaces_47 (by decide) ?_
      have H : V G E 26 [some (.ref (G.ad 0)), some (.int (iI y)), some (.int (iI n)), some (.int (iI (g 61))), some (.int (iI (q + 1)))] [] (mdL G un td ku (ovr g (1 + g 61) (1 + (q + 1)) y) ah ag tp co wy th kp ka ln sn it mv ++ rest) := ih_26 (q + 1) ⟨by omega, by omega⟩ (by omega)
      rw [← ovr_1 (e := 1 + q) (by omega) (by omega)] at H
      exact H
  · skip
    refine V_bipush C dX8_replaces_20 (by decide) ?_
    exact V_iret C R dX8_replaces_22 (by unfold rpM; dsimp only [sU, sG, sH]; rw [if_pos (by omega)]; exact ⟨rfl, rfl⟩)

set_option maxRecDepth 100000 in
theorem m_X8_turns (G : zG) {un td ku : Int} {g ah ag tp co wy th kp ka ln sn it mv : Int → Int} {rest : List va_E} (hg : ∀ j, rng (g j))  (hL : 0 ≤ g 0 ∧ g 0 ≤ 60) (hah : ∀ j, rng (ah j)) (hun : 0 ≤ un ∧ un ≤ 8) (hc : 0 ≤ g 61 ∧ (g 61 < g 0 ∨ (g 61 = 0 ∧ g 0 = 0))) {n : Int} (hn : 1 ≤ n ∧ n ≤ 99) : zMet G yX8_turns cX8_turns 6 (some .int) 1 25 [.ref (G.ad 0), .int (iI n)] (mdL G un td ku g ah ag tp co wy th kp ka ln sn it mv ++ rest) (zO (.int (iI (tnM ((un, g, ah) : zM) n).1)) (mdL G (sU ((tnM ((un, g, ah) : zM) n).2)) td ku (sG ((tnM ((un, g, ah) : zM) n).2)) (sH ((tnM ((un, g, ah) : zM) n).2)) ag tp co wy th kp ka ln sn it mv ++ rest)) := by
  refine zMet.of (by decide) (Nat.le_of_ble_eq_true rfl) ?_
  intro E C R
  have C : zC G E RX8 cX8_turns 6 1 25 := C
  show V G E 0 [some (.ref (G.ad 0)), some (.int (iI n)), none, none, none, none] [] (mdL G un td ku g ah ag tp co wy th kp ka ln sn it mv ++ rest)
  refine V_aload_n C dX8_turns_0 rfl ?_
  refine vg_X8_7 C dX8_turns_1 rfl rfl ?_
  refine V_iconst C dX8_turns_4 ?_
  refine V_iald C dX8_turns_5 rfl (by omega) (by omega) (by decide) (by repeat' (first | with_reducible assumption | refine zup_rng ?_ (by first | omega | exact hg _) | refine zcp_rng ?_ ?_)) (fun r_5 => ?_)
  refine V_if_ne (tgt := 12) C dX8_turns_6 (by decide) (by omega) (fun c_6 => ?_) (fun c_6 => ?_)
  · skip
    refine V_aload_n C dX8_turns_12 rfl ?_
    refine vg_X8_7 C dX8_turns_13 rfl rfl ?_
    refine V_bipush C dX8_turns_16 (by decide) ?_
    refine V_iald C dX8_turns_18 rfl (by omega) (by omega) (by decide) (by repeat' (first | with_reducible assumption | refine zup_rng ?_ (by first | omega | exact hg _) | refine zcp_rng ?_ ?_)) (fun r_18 => ?_)
    refine V_istore_n C dX8_turns_19 (by decide) rfl ?_
    refine V_iload_n C dX8_turns_20 rfl ?_
    refine V_iload_n C dX8_turns_21 rfl ?_
    refine V_iadd C dX8_turns_22 ?_
    refine V_aload_n C dX8_turns_23 rfl ?_
    refine vg_X8_7 C dX8_turns_24 rfl rfl ?_
    refine V_iconst C dX8_turns_27 ?_
    refine V_iald C dX8_turns_28 rfl (by omega) (by omega) (by decide) (by repeat' (first | with_reducible assumption | refine zup_rng ?_ (by first | omega | exact hg _) | refine zcp_rng ?_ ?_)) (fun r_28 => ?_)
    refine V_callS C lk_X8_94 (m_X8_lesser G (by omega) (by omega)) dX8_turns_29 rfl rfl (by decide) (Nat.le_of_ble_eq_true rfl) (kO ?_)
    refine V_istore_n C dX8_turns_32 (by decide) rfl ?_
    refine V_iload_n C dX8_turns_33 rfl ?_
    refine V_istore C dX8_turns_34 (by decide) rfl ?_
    suffices H_36 : V G E 36 [some (.ref (G.ad 0)), some (.int (iI n)), some (.int (iI (g 61))), some (.int (iI (min (g 61 + n) (g 0)))), some (.int (iI (g 61))), none] [] (mdL G un td ku (sws g (1 + g 61) (1 + g 61)) ah ag tp co wy th kp ka ln sn it mv ++ rest) by
      rw [sws_0] at H_36
      exact H_36
    refine V_loop (α := Int) (fun x => (200 - x).toNat) (fun x => g 61 ≤ x ∧ x ≤ (min (g 61 + n) (g 0))) (fun x => V G E 36 [some (.ref (G.ad 0)), some (.int (iI n)), some (.int (iI (g 61))), some (.int (iI (min (g 61 + n) (g 0)))), some (.int (iI x)), none] [] (mdL G un td ku (sws g (1 + g 61) (1 + x)) ah ag tp co wy th kp ka ln sn it mv ++ rest)) ?_ (g 61) ⟨by omega, by omega⟩
    rintro q ⟨g1, g2⟩ ih_36
    have hgs := sws_rng (a := 1 + g 61) (e := 1 + q) hg
    refine V_iload C dX8_turns_36 rfl ?_
    refine V_iload_n C dX8_turns_38 rfl ?_
    refine V_icmp_ge (tgt := 112) C dX8_turns_39 (by decide) (by omega) (by omega) (fun c_39 => ?_) (fun c_39 => ?_)
    · skip
      have hq : q = (min (g 61 + n) (g 0)) := by omega
      subst hq
      clear ih_36
      have e0 : sws g (1 + g 61) (1 + (min (g 61 + n) (g 0))) 0 = g 0 := sws_o (by omega)
      have hla := la_in hL.1
      rw [← e0] at hla
      refine V_aload_n C dX8_turns_112 rfl ?_
      refine vg_X8_7 C dX8_turns_113 rfl rfl ?_
      refine V_bipush C dX8_turns_116 (by decide) ?_
      refine V_iload_n C dX8_turns_118 rfl ?_
      refine V_aload_n C dX8_turns_119 rfl ?_
      refine V_callV C lk_X8_77 (m_X8_last G hgs (by omega)) dX8_turns_120 rfl rfl rfl rfl (by decide) (Nat.le_of_ble_eq_true rfl) (kO ?_)
      refine V_callS C lk_X8_94 (m_X8_lesser G (by omega) (by omega)) dX8_turns_123 rfl rfl (by decide) (Nat.le_of_ble_eq_true rfl) (kO ?_)
      refine V_iast C dX8_turns_126 rfl (by omega) (by omega) (by decide) ?_
      refine V_aload_n C dX8_turns_127 rfl ?_
      refine V_callV C lk_X8_110 (m_X8_changes G (zup_rng hgs (by omega)) hah hun) dX8_turns_128 rfl rfl rfl rfl (by decide) (Nat.le_of_ble_eq_true rfl) (kO0 ?_)
      refine V_iconst C dX8_turns_131 ?_
      exact V_iret C R dX8_turns_132 (by unfold tnM; dsimp only [sU, sG, sH]; rw [if_neg (by assumption)]; exact ⟨rfl, by rw [e0] <;> rfl⟩)
    · skip
      refine V_aload_n C dX8_turns_42 rfl ?_
      refine vg_X8_7 C dX8_turns_43 rfl rfl ?_
      refine V_iconst C dX8_turns_46 ?_
      refine V_iload C dX8_turns_47 rfl ?_
      refine V_iadd C dX8_turns_49 ?_
      refine V_iald C dX8_turns_50 rfl (by omega) (by omega) (by decide) (by repeat' (first | with_reducible assumption | refine zup_rng ?_ (by first | omega | exact hg _) | refine zcp_rng ?_ ?_)) (fun r_50 => ?_)
      refine V_istore C dX8_turns_51 (by decide) rfl ?_
      refine V_aload_n C dX8_turns_53 rfl ?_
      refine vg_X8_7 C dX8_turns_54 rfl rfl ?_
      refine V_iconst C dX8_turns_57 ?_
      refine V_iload C dX8_turns_58 rfl ?_
      refine V_iadd C dX8_turns_60 ?_
      refine V_dup2 C dX8_turns_61 rfl rfl ?_
      refine V_iald C dX8_turns_62 rfl (by omega) (by omega) (by decide) (by repeat' (first | with_reducible assumption | refine zup_rng ?_ (by first | omega | exact hg _) | refine zcp_rng ?_ ?_)) (fun r_62 => ?_)
      refine V_midz (pc2 := 104) (swc (sws g (1 + g 61) (1 + q) (1 + q)) - sws g (1 + g 61) (1 + q) (1 + q)) ?_ (fun kk_63 => ?_)
      · skip
        refine V_iadd C dX8_turns_104 ?_
        refine V_iast C dX8_turns_105 rfl (by omega) (by omega) (by decide) ?_
        refine V_iinc C dX8_turns_106 rfl (by decide) rfl ?_
        refine V_goto (tgt := 36) C dX8_turns_109 (by decide) ?_
        refine V_drop 5 ?_
        have H : V G E 36 [some (.ref (G.ad 0)), some (.int (iI n)), some (.int (iI (g 61))), some (.int (iI (min (g 61 + n) (g 0)))), some (.int (iI (q + 1))), none] [] (mdL G un td ku (sws g (1 + g 61) (1 + (q + 1))) ah ag tp co wy th kp ka ln sn it mv ++ rest) := ih_36 (q + 1) ⟨by omega, by omega⟩ (by omega)
        rw [← sws_1 (e := 1 + q) (v := sws g (1 + g 61) (1 + q) (1 + q) + (swc (sws g (1 + g 61) (1 + q) (1 + q)) - sws g (1 + g 61) (1 + q) (1 + q))) (by omega) (by omega) (by omega)] at H
        exact H
      · skip
        refine V_iload C dX8_turns_63 rfl ?_
        refine V_i2l C dX8_turns_65 (by omega) ?_
        refine V_ldc2 (z := 97) C wk_X8_54 rfl dX8_turns_66 ?_
        refine V_ldc2 (z := 122) C wk_X8_56 rfl dX8_turns_69 ?_
        refine V_callS C lk_X8_58 (m_X8_in G (by omega) (by omega) (by omega)) dX8_turns_72 rfl rfl (by decide) (Nat.le_of_ble_eq_true rfl) (kO ?_)
        refine V_if_eqB (tgt := 83) C dX8_turns_75 (by decide) (fun c_75 => ?_) (fun c_75 => ?_)
        · skip
          refine V_iload C dX8_turns_83 rfl ?_
          refine V_i2l C dX8_turns_85 (by omega) ?_
          refine V_ldc2 (z := 65) C wk_X8_62 rfl dX8_turns_86 ?_
          refine V_ldc2 (z := 90) C wk_X8_64 rfl dX8_turns_89 ?_
          refine V_callS C lk_X8_58 (m_X8_in G (by omega) (by omega) (by omega)) dX8_turns_92 rfl rfl (by decide) (Nat.le_of_ble_eq_true rfl) (kO ?_)
          refine V_if_eqB (tgt := 103) C dX8_turns_95 (by decide) (fun c_95 => ?_) (fun c_95 => ?_)
          · skip
            refine V_iconst C dX8_turns_103 ?_
            exact kk_63 _ (by unfold swc; first | (rw [if_pos (by omega)]; omega) | (rw [if_neg (by omega), if_pos (by omega)]; omega) | (rw [if_neg (by omega), if_neg (by omega)]; omega))
          · skip
            refine V_bipush C dX8_turns_98 (by decide) ?_
            refine V_goto (tgt := 104) C dX8_turns_100 (by decide) ?_
            exact kk_63 _ (by unfold swc; first | (rw [if_pos (by omega)]; omega) | (rw [if_neg (by omega), if_pos (by omega)]; omega) | (rw [if_neg (by omega), if_neg (by omega)]; omega))
        · skip
          refine V_bipush C dX8_turns_78 (by decide) ?_
          refine V_goto (tgt := 104) C dX8_turns_80 (by decide) ?_
          exact kk_63 _ (by unfold swc; first | (rw [if_pos (by omega)]; omega) | (rw [if_neg (by omega), if_pos (by omega)]; omega) | (rw [if_neg (by omega), if_neg (by omega)]; omega))
  · skip
    refine V_bipush C dX8_turns_9 (by decide) ?_
    exact V_iret C R dX8_turns_11 (by unfold tnM; dsimp only [sU, sG, sH]; rw [if_pos (by assumption)]; exact ⟨rfl, rfl⟩)

set_option maxRecDepth 100000 in
theorem m_X8_puts (G : zG) {un td ku : Int} {g ah ag tp co wy th kp ka ln sn it mv : Int → Int} {rest : List va_E} (hg : ∀ j, rng (g j))  (hL : 0 ≤ g 0 ∧ g 0 ≤ 60) (hah : ∀ j, rng (ah j)) (hun : 0 ≤ un ∧ un ≤ 8) (hc : 0 ≤ g 61 ∧ (g 61 < g 0 ∨ (g 61 = 0 ∧ g 0 = 0))) {a : Int} (ha : 0 ≤ a ∧ a ≤ 1) {n : Int} (hn : 1 ≤ n ∧ n ≤ 99) (hs : 0 ≤ g 63 ∧ g 63 ≤ 60) : zMet G yX8_puts cX8_puts 6 (some .int) 1 21 [.ref (G.ad 0), .int (iI a), .int (iI n)] (mdL G un td ku g ah ag tp co wy th kp ka ln sn it mv ++ rest) (zO (.int (iI (ptM ((un, g, ah) : zM) a n).1)) (mdL G (sU ((ptM ((un, g, ah) : zM) a n).2)) td ku (sG ((ptM ((un, g, ah) : zM) a n).2)) (sH ((ptM ((un, g, ah) : zM) a n).2)) ag tp co wy th kp ka ln sn it mv ++ rest)) := by
  refine zMet.of (by decide) (Nat.le_of_ble_eq_true rfl) ?_
  intro E C R
  have C : zC G E RX8 cX8_puts 6 1 21 := C
  show V G E 0 [some (.ref (G.ad 0)), some (.int (iI a)), some (.int (iI n)), none, none, none] [] (mdL G un td ku g ah ag tp co wy th kp ka ln sn it mv ++ rest)
  have hm1 : n * g 63 ≤ 99 * 60 := Int.mul_le_mul hn.2 hs.2 hs.1 (by omega)
  have hm0 : 0 ≤ n * g 63 := Int.mul_nonneg (by omega) hs.1
  have hz : g 61 ≤ ptP g a ∧ ptP g a ≤ g 0 := by unfold ptP; split <;> omega
  refine V_iload_n C dX8_puts_0 rfl ?_
  refine V_aload_n C dX8_puts_1 rfl ?_
  refine vg_X8_7 C dX8_puts_2 rfl rfl ?_
  refine V_bipush C dX8_puts_5 (by decide) ?_
  refine V_iald C dX8_puts_7 rfl (by omega) (by omega) (by decide) (by repeat' (first | with_reducible assumption | refine zup_rng ?_ (by first | omega | exact hg _) | refine zcp_rng ?_ ?_)) (fun r_7 => ?_)
  refine V_imul C dX8_puts_8 ?_
  refine V_istore_n C dX8_puts_9 (by decide) rfl ?_
  refine V_iload_n C dX8_puts_10 rfl ?_
  refine V_if_eq (tgt := 27) C dX8_puts_11 (by decide) (by omega) (fun c_11 => ?_) (fun c_11 => ?_)
  · skip
    refine V_bipush C dX8_puts_27 (by decide) ?_
    exact V_iret C R dX8_puts_29 (by unfold ptM; dsimp only [sU, sG, sH]; rw [if_pos (by omega)]; exact ⟨rfl, rfl⟩)
  · skip
    refine V_aload_n C dX8_puts_14 rfl ?_
    refine vg_X8_7 C dX8_puts_15 rfl rfl ?_
    refine V_iconst C dX8_puts_18 ?_
    refine V_iald C dX8_puts_19 rfl (by omega) (by omega) (by decide) (by repeat' (first | with_reducible assumption | refine zup_rng ?_ (by first | omega | exact hg _) | refine zcp_rng ?_ ?_)) (fun r_19 => ?_)
    refine V_iload_n C dX8_puts_20 rfl ?_
    refine V_iadd C dX8_puts_21 ?_
    refine V_bipush C dX8_puts_22 (by decide) ?_
    refine V_icmp_le (tgt := 30) C dX8_puts_24 (by decide) (by omega) (by omega) (fun c_24 => ?_) (fun c_24 => ?_)
    · skip
      refine V_midz (pc2 := 62) (ptP g a) ?_ (fun kk_30 => ?_)
      · skip
        refine V_istore C dX8_puts_62 (by decide) rfl ?_
        refine V_aload_n C dX8_puts_64 rfl ?_
        refine vg_X8_7 C dX8_puts_65 rfl rfl ?_
        refine V_iconst C dX8_puts_68 ?_
        refine V_iald C dX8_puts_69 rfl (by omega) (by omega) (by decide) (by repeat' (first | with_reducible assumption | refine zup_rng ?_ (by first | omega | exact hg _) | refine zcp_rng ?_ ?_)) (fun r_69 => ?_)
        refine V_iconst C dX8_puts_70 ?_
        refine V_isub C dX8_puts_71 ?_
        refine V_istore C dX8_puts_72 (by decide) rfl ?_
        have hs0 : g 63 ≠ 0 := fun h => by rw [h, Int.mul_zero] at c_11; omega
        suffices H_74 : V G E 74 [some (.ref (G.ad 0)), some (.int (iI a)), some (.int (iI n)), some (.int (iI (n * g 63))), some (.int (iI (ptP g a))), some (.int (iI (g 0 - 1)))] [] (mdL G un td ku (zcp g g (1 + ((g 0 - 1) + 1)) (1 + ((g 0 - 1) + 1) + n * g 63) (g 0 - ((g 0 - 1) + 1))) ah ag tp co wy th kp ka ln sn it mv ++ rest) by
          rw [show g 0 - (g 0 - 1 + 1) = 0 by omega, zcp_0] at H_74
          exact H_74
        refine V_loop (α := Int) (fun x => (x + 1).toNat) (fun x => ptP g a - 1 ≤ x ∧ x ≤ g 0 - 1) (fun x => V G E 74 [some (.ref (G.ad 0)), some (.int (iI a)), some (.int (iI n)), some (.int (iI (n * g 63))), some (.int (iI (ptP g a))), some (.int (iI x))] [] (mdL G un td ku (zcp g g (1 + (x + 1)) (1 + (x + 1) + n * g 63) (g 0 - (x + 1))) ah ag tp co wy th kp ka ln sn it mv ++ rest)) ?_ (g 0 - 1) ⟨by omega, by omega⟩
        rintro q ⟨g1, g2⟩ ih_74
        refine V_iload C dX8_puts_74 rfl ?_
        refine V_iload C dX8_puts_76 rfl ?_
        refine V_icmp_lt (tgt := 107) C dX8_puts_78 (by decide) (by omega) (by omega) (fun c_78 => ?_) (fun c_78 => ?_)
        · skip
          have hq : q + 1 = ptP g a := by omega
          suffices H_107 : V G E 107 [some (.ref (G.ad 0)), some (.int (iI a)), some (.int (iI n)), some (.int (iI (n * g 63))), some (.int (iI (ptP g a))), some (.int (iI q))] [] (mdL G un td ku ((zcp g g (1 + ptP g a) (1 + ptP g a + n * g 63) (g 0 - ptP g a))) ah ag tp co wy th kp ka ln sn it mv ++ rest) by
            rw [hq]
            exact H_107
          clear ih_74
          refine V_iconst C dX8_puts_107 ?_
          refine V_istore C dX8_puts_108 (by decide) rfl ?_
          suffices H_110 : V G E 110 [some (.ref (G.ad 0)), some (.int (iI a)), some (.int (iI n)), some (.int (iI (n * g 63))), some (.int (iI (ptP g a))), some (.int (iI 0))] [] (mdL G un td ku (pin (zcp g g (1 + ptP g a) (1 + ptP g a + n * g 63) (g 0 - ptP g a)) (fun k => g (64 + k)) (g 63) (1 + ptP g a) (1 + ptP g a + 0)) ah ag tp co wy th kp ka ln sn it mv ++ rest) by
            rw [Int.add_zero, pin_0] at H_110
            exact H_110
          refine V_loop (α := Int) (fun x => (100000 - x).toNat) (fun x => 0 ≤ x ∧ x ≤ n * g 63) (fun x => V G E 110 [some (.ref (G.ad 0)), some (.int (iI a)), some (.int (iI n)), some (.int (iI (n * g 63))), some (.int (iI (ptP g a))), some (.int (iI x))] [] (mdL G un td ku (pin (zcp g g (1 + ptP g a) (1 + ptP g a + n * g 63) (g 0 - ptP g a)) (fun k => g (64 + k)) (g 63) (1 + ptP g a) (1 + ptP g a + x)) ah ag tp co wy th kp ka ln sn it mv ++ rest)) ?_ 0 ⟨by omega, by omega⟩
          rintro r ⟨k1, k2⟩ ih_110
          have hgp : ∀ j, rng ((pin (zcp g g (1 + ptP g a) (1 + ptP g a + n * g 63) (g 0 - ptP g a)) (fun k => g (64 + k)) (g 63) (1 + ptP g a) (1 + ptP g a + r)) j) := pin_rng (zcp_rng hg hg) (fun k => hg _)
          have e63 : (pin (zcp g g (1 + ptP g a) (1 + ptP g a + n * g 63) (g 0 - ptP g a)) (fun k => g (64 + k)) (g 63) (1 + ptP g a) (1 + ptP g a + r)) 63 = g 63 := by rw [pin_o (by omega), zcp_out (by omega)]
          have e0 : (pin (zcp g g (1 + ptP g a) (1 + ptP g a + n * g 63) (g 0 - ptP g a)) (fun k => g (64 + k)) (g 63) (1 + ptP g a) (1 + ptP g a + r)) 0 = g 0 := by rw [pin_o (by omega), zcp_out (by omega)]
          have hmo := Int.emod_nonneg r hs0
          have hmo2 := Int.emod_lt_of_pos r (show 0 < g 63 by omega)
          refine V_iload C dX8_puts_110 rfl ?_
          refine V_iload_n C dX8_puts_112 rfl ?_
          refine V_icmp_ge (tgt := 152) C dX8_puts_113 (by decide) (by omega) (by omega) (fun c_113 => ?_) (fun c_113 => ?_)
          · skip
            have hr : r = n * g 63 := by omega
            subst hr
            clear ih_110
            refine V_aload_n C dX8_puts_152 rfl ?_
            refine vg_X8_7 C dX8_puts_153 rfl rfl ?_
            refine V_iconst C dX8_puts_156 ?_
            refine V_dup2 C dX8_puts_157 rfl rfl ?_
            refine V_iald C dX8_puts_158 rfl (by omega) (by omega) (by decide) (by repeat' (first | with_reducible assumption | refine zup_rng ?_ (by first | omega | exact hg _) | refine zcp_rng ?_ ?_)) (fun r_158 => ?_)
            refine V_iload_n C dX8_puts_159 rfl ?_
            refine V_iadd C dX8_puts_160 ?_
            refine V_iast C dX8_puts_161 rfl (by omega) (by omega) (by decide) ?_
            refine V_aload_n C dX8_puts_162 rfl ?_
            refine vg_X8_7 C dX8_puts_163 rfl rfl ?_
            refine V_bipush C dX8_puts_166 (by decide) ?_
            refine V_iload C dX8_puts_168 rfl ?_
            refine V_iload_n C dX8_puts_170 rfl ?_
            refine V_iadd C dX8_puts_171 ?_
            refine V_iconst C dX8_puts_172 ?_
            refine V_isub C dX8_puts_173 ?_
            refine V_iast C dX8_puts_174 rfl (by omega) (by omega) (by decide) ?_
            refine V_aload_n C dX8_puts_175 rfl ?_
            refine V_callV C lk_X8_110 (m_X8_changes G (zup_rng (zup_rng hgp (by omega)) (by omega)) hah hun) dX8_puts_176 rfl rfl rfl rfl (by decide) (Nat.le_of_ble_eq_true rfl) (kO0 ?_)
            refine V_iconst C dX8_puts_179 ?_
            exact V_iret C R dX8_puts_180 (by unfold ptM; dsimp only [sU, sG, sH]; rw [if_neg (by omega)]; exact ⟨rfl, by rw [e0] <;> rfl⟩)
          · skip
            refine V_aload_n C dX8_puts_116 rfl ?_
            refine vg_X8_7 C dX8_puts_117 rfl rfl ?_
            refine V_iconst C dX8_puts_120 ?_
            refine V_iload C dX8_puts_121 rfl ?_
            refine V_iadd C dX8_puts_123 ?_
            refine V_iload C dX8_puts_124 rfl ?_
            refine V_iadd C dX8_puts_126 ?_
            refine V_aload_n C dX8_puts_127 rfl ?_
            refine vg_X8_7 C dX8_puts_128 rfl rfl ?_
            refine V_bipush C dX8_puts_131 (by decide) ?_
            refine V_iload C dX8_puts_133 rfl ?_
            refine V_aload_n C dX8_puts_135 rfl ?_
            refine vg_X8_7 C dX8_puts_136 rfl rfl ?_
            refine V_bipush C dX8_puts_139 (by decide) ?_
            refine V_iald C dX8_puts_141 rfl (by omega) (by omega) (by decide) (by repeat' (first | with_reducible assumption | refine zup_rng ?_ (by first | omega | exact hg _) | refine zcp_rng ?_ ?_)) (fun r_141 => ?_)
            rw [e63]
            refine V_irem C dX8_puts_142 (by omega) (by omega) ?_
            refine V_iadd C dX8_puts_143 ?_
            refine V_iald C dX8_puts_144 rfl (by omega) (by omega) (by decide) (by repeat' (first | with_reducible assumption | refine zup_rng ?_ (by first | omega | exact hg _) | refine zcp_rng ?_ ?_)) (fun r_144 => ?_)
            refine V_iast C dX8_puts_145 rfl (by omega) (by omega) (by decide) ?_
            refine V_iinc C dX8_puts_146 rfl (by decide) rfl ?_
            refine V_goto (tgt := 110) C dX8_puts_149 (by decide) ?_
            have H : V G E 110 [some (.ref (G.ad 0)), some (.int (iI a)), some (.int (iI n)), some (.int (iI (n * g 63))), some (.int (iI (ptP g a))), some (.int (iI (r + 1)))] [] (mdL G un td ku (pin (zcp g g (1 + ptP g a) (1 + ptP g a + n * g 63) (g 0 - ptP g a)) (fun k => g (64 + k)) (g 63) (1 + ptP g a) (1 + ptP g a + (r + 1))) ah ag tp co wy th kp ka ln sn it mv ++ rest) := ih_110 (r + 1) ⟨by omega, by omega⟩ (by omega)
            have e : zup (pin (zcp g g (1 + ptP g a) (1 + ptP g a + n * g 63) (g 0 - ptP g a)) (fun k => g (64 + k)) (g 63) (1 + ptP g a) (1 + ptP g a + r)) (1 + ptP g a + r) ((pin (zcp g g (1 + ptP g a) (1 + ptP g a + n * g 63) (g 0 - ptP g a)) (fun k => g (64 + k)) (g 63) (1 + ptP g a) (1 + ptP g a + r)) (64 + r % g 63)) = pin (zcp g g (1 + ptP g a) (1 + ptP g a + n * g 63) (g 0 - ptP g a)) (fun k => g (64 + k)) (g 63) (1 + ptP g a) (1 + ptP g a + (r + 1)) := by
              rw [pin_o (by omega), zcp_out (by omega)]
              exact pin_1 (by rw [show 1 + ptP g a + r - (1 + ptP g a) = r by omega]) (by omega) (by omega)
            rw [← e] at H
            exact H
        · skip
          refine V_aload_n C dX8_puts_81 rfl ?_
          refine vg_X8_7 C dX8_puts_82 rfl rfl ?_
          refine V_iconst C dX8_puts_85 ?_
          refine V_iload C dX8_puts_86 rfl ?_
          refine V_iadd C dX8_puts_88 ?_
          refine V_iload_n C dX8_puts_89 rfl ?_
          refine V_iadd C dX8_puts_90 ?_
          refine V_aload_n C dX8_puts_91 rfl ?_
          refine vg_X8_7 C dX8_puts_92 rfl rfl ?_
          refine V_iconst C dX8_puts_95 ?_
          refine V_iload C dX8_puts_96 rfl ?_
          refine V_iadd C dX8_puts_98 ?_
          refine V_iald C dX8_puts_99 rfl (by omega) (by omega) (by decide) (by repeat' (first | with_reducible assumption | refine zup_rng ?_ (by first | omega | exact hg _) | refine zcp_rng ?_ ?_)) (fun r_99 => ?_)
          refine V_iast C dX8_puts_100 rfl (by omega) (by omega) (by decide) ?_
          refine V_iinc C dX8_puts_101 rfl (by decide) rfl ?_
          refine V_goto (tgt := 74) C dX8_puts_104 (by decide) ?_
          have H : V G E 74 [some (.ref (G.ad 0)), some (.int (iI a)), some (.int (iI n)), some (.int (iI (n * g 63))), some (.int (iI (ptP g a))), some (.int (iI (q + -1)))] [] (mdL G un td ku (zcp g g (1 + ((q + -1) + 1)) (1 + ((q + -1) + 1) + n * g 63) (g 0 - ((q + -1) + 1))) ah ag tp co wy th kp ka ln sn it mv ++ rest) := ih_74 (q + -1) ⟨by omega, by omega⟩ (by omega)
          have e : zup (zcp g g (1 + (q + 1)) (1 + (q + 1) + n * g 63) (g 0 - (q + 1))) (1 + q + n * g 63) ((zcp g g (1 + (q + 1)) (1 + (q + 1) + n * g 63) (g 0 - (q + 1))) (1 + q)) = zcp g g (1 + ((q + -1) + 1)) (1 + ((q + -1) + 1) + n * g 63) (g 0 - ((q + -1) + 1)) := by
            rw [zcp_out (by omega)]
            exact zcp_dn (by rw [show 1 + (q + -1 + 1) = 1 + q by omega]) (by omega) (by omega) (by omega) (by omega) (by omega)
          rw [← e] at H
          exact H
      · skip
        refine V_iload_n C dX8_puts_30 rfl ?_
        refine V_if_eq (tgt := 55) C dX8_puts_31 (by decide) (by omega) (fun c_31 => ?_) (fun c_31 => ?_)
        · skip
          refine V_aload_n C dX8_puts_55 rfl ?_
          refine vg_X8_7 C dX8_puts_56 rfl rfl ?_
          refine V_bipush C dX8_puts_59 (by decide) ?_
          refine V_iald C dX8_puts_61 rfl (by omega) (by omega) (by decide) (by repeat' (first | with_reducible assumption | refine zup_rng ?_ (by first | omega | exact hg _) | refine zcp_rng ?_ ?_)) (fun r_61 => ?_)
          exact kk_30 _ (by unfold ptP; first | rw [if_pos (by omega)] | rw [if_neg (by omega)])
        · skip
          refine V_aload_n C dX8_puts_34 rfl ?_
          refine vg_X8_7 C dX8_puts_35 rfl rfl ?_
          refine V_iconst C dX8_puts_38 ?_
          refine V_iald C dX8_puts_39 rfl (by omega) (by omega) (by decide) (by repeat' (first | with_reducible assumption | refine zup_rng ?_ (by first | omega | exact hg _) | refine zcp_rng ?_ ?_)) (fun r_39 => ?_)
          refine V_if_le (tgt := 55) C dX8_puts_40 (by decide) (by omega) (fun c_40 => ?_) (fun c_40 => ?_)
          · skip
            refine V_aload_n C dX8_puts_55 rfl ?_
            refine vg_X8_7 C dX8_puts_56 rfl rfl ?_
            refine V_bipush C dX8_puts_59 (by decide) ?_
            refine V_iald C dX8_puts_61 rfl (by omega) (by omega) (by decide) (by repeat' (first | with_reducible assumption | refine zup_rng ?_ (by first | omega | exact hg _) | refine zcp_rng ?_ ?_)) (fun r_61 => ?_)
            exact kk_30 _ (by unfold ptP; first | rw [if_pos (by omega)] | rw [if_neg (by omega)])
          · skip
            refine V_aload_n C dX8_puts_43 rfl ?_
            refine vg_X8_7 C dX8_puts_44 rfl rfl ?_
            refine V_bipush C dX8_puts_47 (by decide) ?_
            refine V_iald C dX8_puts_49 rfl (by omega) (by omega) (by decide) (by repeat' (first | with_reducible assumption | refine zup_rng ?_ (by first | omega | exact hg _) | refine zcp_rng ?_ ?_)) (fun r_49 => ?_)
            refine V_iconst C dX8_puts_50 ?_
            refine V_iadd C dX8_puts_51 ?_
            refine V_goto (tgt := 62) C dX8_puts_52 (by decide) ?_
            exact kk_30 _ (by unfold ptP; first | rw [if_pos (by omega)] | rw [if_neg (by omega)])
    · skip
      refine V_bipush C dX8_puts_27 (by decide) ?_
      exact V_iret C R dX8_puts_29 (by unfold ptM; dsimp only [sU, sG, sH]; rw [if_pos (by omega)]; exact ⟨rfl, rfl⟩)
