def moM (x : Int) : Int := if x = 104 then 0 else if x = 108 then 1 else if x = 48 then 2 else if x = 36 then 3 else if x = 119 then 4 else if x = 98 then 5 else if x = 101 then 6 else -4
theorem moM_in (x : Int) : moM x = -4 ∨ (0 ≤ moM x ∧ moM x ≤ 6) := by
  unfold moM
  by_cases h0 : x = 104
  · rw [if_pos h0]; omega
  rw [if_neg h0]
  by_cases h1 : x = 108
  · rw [if_pos h1]; omega
  rw [if_neg h1]
  by_cases h2 : x = 48
  · rw [if_pos h2]; omega
  rw [if_neg h2]
  by_cases h3 : x = 36
  · rw [if_pos h3]; omega
  rw [if_neg h3]
  by_cases h4 : x = 119
  · rw [if_pos h4]; omega
  rw [if_neg h4]
  by_cases h5 : x = 98
  · rw [if_pos h5]; omega
  rw [if_neg h5]
  by_cases h6 : x = 101
  · rw [if_pos h6]; omega
  rw [if_neg h6]
  exact Or.inl rfl

def cmI (g : Int → Int) : Int := if g 190 = 0 then 191 else 192
theorem cmI_in (g : Int → Int) : cmI g = 191 ∨ cmI g = 192 := by
  unfold cmI; split
  · exact Or.inl rfl
  · exact Or.inr rfl
abbrev fdM (g : Int → Int) (x : Int) : Int := fb (lt g) (g 0) x (ofM g) (g 61 + 1) 0
def waM (s : zM) (x : Int) : Int × zM :=
  if sG s 193 = 102 ∨ sG s 193 = 116 then (if fdM (sG s) x = -1 then (-2, s) else gtM s (if sG s 193 = 102 then fdM (sG s) x else fdM (sG s) x - 1) 1)
  else if sG s 193 = 39 then (if 97 ≤ x ∧ x ≤ 100 ∧ sG s (124 + x - 97) ≠ -4 then gtM s (min (sG s (124 + x - 97)) (sG s 0)) 0 else (-2, s))
  else if sG s 193 = 114 then rpM s x (ofM (sG s))
  else if sG s 193 = 109 then (if 97 ≤ x ∧ x ≤ 100 then (0, (sU s, zup (sG s) (124 + x - 97) (sG s 61), sH s)) else (-2, s))
  else obM s (b2z (sG s 193 = 97)) x
def deM (s : zM) (x : Int) : Int × zM :=
  if x = 100 ∨ x = 121 ∨ x = 99 then (1, (sU s, zup (sG s) 190 x, sH s))
  else if x = 120 then crM s (ofM (sG s))
  else if x = 126 then tnM s (ofM (sG s))
  else if x = 112 then ptM s 1 (ofM (sG s))
  else if x = 80 then ptM s 0 (ofM (sG s))
  else if x = 105 then (2, (sU s, zup (zup (sG s) 61 (sG s 61)) 62 1, sH s))
  else if x = 97 then (2, (sU s, zup (zup (sG s) 61 (if sG s 0 = 0 then 0 else sG s 61 + 1)) 62 1, sH s))
  else if x = 73 then (2, (sU s, zup (zup (sG s) 61 0) 62 1, sH s))
  else if x = 65 then (2, (sU s, zup (zup (sG s) 61 (sG s 0)) 62 1, sH s))
  else if x = 117 then (if sU s = 0 then -2 else 0, (sU s - min (ofM (sG s)) (sU s), if sU s = 0 then sG s else unG (sH s) (sG s) (sU s - min (ofM (sG s)) (sU s)), sH s))
  else if x = 46 then (if 1 ≤ sG s 128 ∧ sG s 128 ≤ 30 then 9 else -2, s)
  else if x = 109 ∨ x = 114 then (1, (sU s, zup (sG s) 193 x, sH s))
  else (-2, s)
def cmM (s : zM) (x : Int) : Int × zM :=
  if sG s 193 ≠ 0 then waM s x
  else if (49 ≤ x ∧ x ≤ 57) ∨ (x = 48 ∧ 0 < sG s (cmI (sG s))) then (1, (sU s, zup (sG s) (cmI (sG s)) (min (10 * sG s (cmI (sG s)) + x - 48) 99), sH s))
  else if moM x ≠ -4 then mvM s (moM x)
  else if x = 102 ∨ x = 116 ∨ x = 39 then (1, (sU s, zup (sG s) 193 x, sH s))
  else if sG s 190 = 0 then deM s x
  else if x = sG s 190 then rgM s 0 (sG s 0)
  else if x = 105 ∨ x = 97 then (1, (sU s, zup (sG s) 193 x, sH s))
  else (-2, s)

set_option maxRecDepth 100000 in
theorem m_X8_motionOf (G : zG) {un td ku : Int} {g ah ag tp co wy th kp ka ln sn it mv : Int → Int} {rest : List va_E} (hg : ∀ j, rng (g j))  {x : Int} (hx : rng x) : zMet G yX8_motionOf cX8_motionOf 2 (some .int) 0 0 [.ref (G.ad 0), .int (iI x)] (mdL G un td ku g ah ag tp co wy th kp ka ln sn it mv ++ rest) (zO (.int (iI (moM x))) (mdL G un td ku g ah ag tp co wy th kp ka ln sn it mv ++ rest)) := by
  refine zMet.of (by decide) (Nat.le_of_ble_eq_true rfl) ?_
  intro E C R
  have C : zC G E RX8 cX8_motionOf 2 0 0 := C
  show V G E 0 [some (.ref (G.ad 0)), some (.int (iI x))] [] (mdL G un td ku g ah ag tp co wy th kp ka ln sn it mv ++ rest)
  refine V_iload_n C dX8_motionOf_0 rfl ?_
  refine V_bipush C dX8_motionOf_1 (by decide) ?_
  refine V_icmp_ne (tgt := 10) C dX8_motionOf_3 (by decide) (by omega) (by omega) (fun c_3 => ?_) (fun c_3 => ?_)
  · skip
    refine V_iload_n C dX8_motionOf_10 rfl ?_
    refine V_bipush C dX8_motionOf_11 (by decide) ?_
    refine V_icmp_ne (tgt := 20) C dX8_motionOf_13 (by decide) (by omega) (by omega) (fun c_13 => ?_) (fun c_13 => ?_)
    · skip
      refine V_iload_n C dX8_motionOf_20 rfl ?_
      refine V_bipush C dX8_motionOf_21 (by decide) ?_
      refine V_icmp_ne (tgt := 30) C dX8_motionOf_23 (by decide) (by omega) (by omega) (fun c_23 => ?_) (fun c_23 => ?_)
      · skip
        refine V_iload_n C dX8_motionOf_30 rfl ?_
        refine V_bipush C dX8_motionOf_31 (by decide) ?_
        refine V_icmp_ne (tgt := 40) C dX8_motionOf_33 (by decide) (by omega) (by omega) (fun c_33 => ?_) (fun c_33 => ?_)
        · skip
          refine V_iload_n C dX8_motionOf_40 rfl ?_
          refine V_bipush C dX8_motionOf_41 (by decide) ?_
          refine V_icmp_ne (tgt := 50) C dX8_motionOf_43 (by decide) (by omega) (by omega) (fun c_43 => ?_) (fun c_43 => ?_)
          · skip
            refine V_iload_n C dX8_motionOf_50 rfl ?_
            refine V_bipush C dX8_motionOf_51 (by decide) ?_
            refine V_icmp_ne (tgt := 60) C dX8_motionOf_53 (by decide) (by omega) (by omega) (fun c_53 => ?_) (fun c_53 => ?_)
            · skip
              refine V_iload_n C dX8_motionOf_60 rfl ?_
              refine V_bipush C dX8_motionOf_61 (by decide) ?_
              refine V_icmp_ne (tgt := 71) C dX8_motionOf_63 (by decide) (by omega) (by omega) (fun c_63 => ?_) (fun c_63 => ?_)
              · skip
                refine V_bipush C dX8_motionOf_71 (by decide) ?_
                exact V_iret C R dX8_motionOf_73 (zO_i (by unfold moM; first | rw [if_pos (by assumption)] | rw [if_neg (by assumption), if_pos (by assumption)] | rw [if_neg (by assumption), if_neg (by assumption), if_pos (by assumption)] | rw [if_neg (by assumption), if_neg (by assumption), if_neg (by assumption), if_pos (by assumption)] | rw [if_neg (by assumption), if_neg (by assumption), if_neg (by assumption), if_neg (by assumption), if_pos (by assumption)] | rw [if_neg (by assumption), if_neg (by assumption), if_neg (by assumption), if_neg (by assumption), if_neg (by assumption), if_pos (by assumption)] | rw [if_neg (by assumption), if_neg (by assumption), if_neg (by assumption), if_neg (by assumption), if_neg (by assumption), if_neg (by assumption), if_pos (by assumption)] | rw [if_neg (by assumption), if_neg (by assumption), if_neg (by assumption), if_neg (by assumption), if_neg (by assumption), if_neg (by assumption), if_neg (by assumption)]))
              · skip
                refine V_bipush C dX8_motionOf_66 (by decide) ?_
                refine V_goto (tgt := 73) C dX8_motionOf_68 (by decide) ?_
                exact V_iret C R dX8_motionOf_73 (zO_i (by unfold moM; first | rw [if_pos (by assumption)] | rw [if_neg (by assumption), if_pos (by assumption)] | rw [if_neg (by assumption), if_neg (by assumption), if_pos (by assumption)] | rw [if_neg (by assumption), if_neg (by assumption), if_neg (by assumption), if_pos (by assumption)] | rw [if_neg (by assumption), if_neg (by assumption), if_neg (by assumption), if_neg (by assumption), if_pos (by assumption)] | rw [if_neg (by assumption), if_neg (by assumption), if_neg (by assumption), if_neg (by assumption), if_neg (by assumption), if_pos (by assumption)] | rw [if_neg (by assumption), if_neg (by assumption), if_neg (by assumption), if_neg (by assumption), if_neg (by assumption), if_neg (by assumption), if_pos (by assumption)] | rw [if_neg (by assumption), if_neg (by assumption), if_neg (by assumption), if_neg (by assumption), if_neg (by assumption), if_neg (by assumption), if_neg (by assumption)]))
            · skip
              refine V_iconst C dX8_motionOf_56 ?_
              refine V_goto (tgt := 73) C dX8_motionOf_57 (by decide) ?_
              exact V_iret C R dX8_motionOf_73 (zO_i (by unfold moM; first | rw [if_pos (by assumption)] | rw [if_neg (by assumption), if_pos (by assumption)] | rw [if_neg (by assumption), if_neg (by assumption), if_pos (by assumption)] | rw [if_neg (by assumption), if_neg (by assumption), if_neg (by assumption), if_pos (by assumption)] | rw [if_neg (by assumption), if_neg (by assumption), if_neg (by assumption), if_neg (by assumption), if_pos (by assumption)] | rw [if_neg (by assumption), if_neg (by assumption), if_neg (by assumption), if_neg (by assumption), if_neg (by assumption), if_pos (by assumption)] | rw [if_neg (by assumption), if_neg (by assumption), if_neg (by assumption), if_neg (by assumption), if_neg (by assumption), if_neg (by assumption), if_pos (by assumption)] | rw [if_neg (by assumption), if_neg (by assumption), if_neg (by assumption), if_neg (by assumption), if_neg (by assumption), if_neg (by assumption), if_neg (by assumption)]))
          · skip
            refine V_iconst C dX8_motionOf_46 ?_
            refine V_goto (tgt := 73) C dX8_motionOf_47 (by decide) ?_
            exact V_iret C R dX8_motionOf_73 (zO_i (by unfold moM; first | rw [if_pos (by assumption)] | rw [if_neg (by assumption), if_pos (by assumption)] | rw [if_neg (by assumption), if_neg (by assumption), if_pos (by assumption)] | rw [if_neg (by assumption), if_neg (by assumption), if_neg (by assumption), if_pos (by assumption)] | rw [if_neg (by assumption), if_neg (by assumption), if_neg (by assumption), if_neg (by assumption), if_pos (by assumption)] | rw [if_neg (by assumption), if_neg (by assumption), if_neg (by assumption), if_neg (by assumption), if_neg (by assumption), if_pos (by assumption)] | rw [if_neg (by assumption), if_neg (by assumption), if_neg (by assumption), if_neg (by assumption), if_neg (by assumption), if_neg (by assumption), if_pos (by assumption)] | rw [if_neg (by assumption), if_neg (by assumption), if_neg (by assumption), if_neg (by assumption), if_neg (by assumption), if_neg (by assumption), if_neg (by assumption)]))
        · skip
          refine V_iconst C dX8_motionOf_36 ?_
          refine V_goto (tgt := 73) C dX8_motionOf_37 (by decide) ?_
          exact V_iret C R dX8_motionOf_73 (zO_i (by unfold moM; first | rw [if_pos (by assumption)] | rw [if_neg (by assumption), if_pos (by assumption)] | rw [if_neg (by assumption), if_neg (by assumption), if_pos (by assumption)] | rw [if_neg (by assumption), if_neg (by assumption), if_neg (by assumption), if_pos (by assumption)] | rw [if_neg (by assumption), if_neg (by assumption), if_neg (by assumption), if_neg (by assumption), if_pos (by assumption)] | rw [if_neg (by assumption), if_neg (by assumption), if_neg (by assumption), if_neg (by assumption), if_neg (by assumption), if_pos (by assumption)] | rw [if_neg (by assumption), if_neg (by assumption), if_neg (by assumption), if_neg (by assumption), if_neg (by assumption), if_neg (by assumption), if_pos (by assumption)] | rw [if_neg (by assumption), if_neg (by assumption), if_neg (by assumption), if_neg (by assumption), if_neg (by assumption), if_neg (by assumption), if_neg (by assumption)]))
      · skip
        refine V_iconst C dX8_motionOf_26 ?_
        refine V_goto (tgt := 73) C dX8_motionOf_27 (by decide) ?_
        exact V_iret C R dX8_motionOf_73 (zO_i (by unfold moM; first | rw [if_pos (by assumption)] | rw [if_neg (by assumption), if_pos (by assumption)] | rw [if_neg (by assumption), if_neg (by assumption), if_pos (by assumption)] | rw [if_neg (by assumption), if_neg (by assumption), if_neg (by assumption), if_pos (by assumption)] | rw [if_neg (by assumption), if_neg (by assumption), if_neg (by assumption), if_neg (by assumption), if_pos (by assumption)] | rw [if_neg (by assumption), if_neg (by assumption), if_neg (by assumption), if_neg (by assumption), if_neg (by assumption), if_pos (by assumption)] | rw [if_neg (by assumption), if_neg (by assumption), if_neg (by assumption), if_neg (by assumption), if_neg (by assumption), if_neg (by assumption), if_pos (by assumption)] | rw [if_neg (by assumption), if_neg (by assumption), if_neg (by assumption), if_neg (by assumption), if_neg (by assumption), if_neg (by assumption), if_neg (by assumption)]))
    · skip
      refine V_iconst C dX8_motionOf_16 ?_
      refine V_goto (tgt := 73) C dX8_motionOf_17 (by decide) ?_
      exact V_iret C R dX8_motionOf_73 (zO_i (by unfold moM; first | rw [if_pos (by assumption)] | rw [if_neg (by assumption), if_pos (by assumption)] | rw [if_neg (by assumption), if_neg (by assumption), if_pos (by assumption)] | rw [if_neg (by assumption), if_neg (by assumption), if_neg (by assumption), if_pos (by assumption)] | rw [if_neg (by assumption), if_neg (by assumption), if_neg (by assumption), if_neg (by assumption), if_pos (by assumption)] | rw [if_neg (by assumption), if_neg (by assumption), if_neg (by assumption), if_neg (by assumption), if_neg (by assumption), if_pos (by assumption)] | rw [if_neg (by assumption), if_neg (by assumption), if_neg (by assumption), if_neg (by assumption), if_neg (by assumption), if_neg (by assumption), if_pos (by assumption)] | rw [if_neg (by assumption), if_neg (by assumption), if_neg (by assumption), if_neg (by assumption), if_neg (by assumption), if_neg (by assumption), if_neg (by assumption)]))
  · skip
    refine V_iconst C dX8_motionOf_6 ?_
    refine V_goto (tgt := 73) C dX8_motionOf_7 (by decide) ?_
    exact V_iret C R dX8_motionOf_73 (zO_i (by unfold moM; first | rw [if_pos (by assumption)] | rw [if_neg (by assumption), if_pos (by assumption)] | rw [if_neg (by assumption), if_neg (by assumption), if_pos (by assumption)] | rw [if_neg (by assumption), if_neg (by assumption), if_neg (by assumption), if_pos (by assumption)] | rw [if_neg (by assumption), if_neg (by assumption), if_neg (by assumption), if_neg (by assumption), if_pos (by assumption)] | rw [if_neg (by assumption), if_neg (by assumption), if_neg (by assumption), if_neg (by assumption), if_neg (by assumption), if_pos (by assumption)] | rw [if_neg (by assumption), if_neg (by assumption), if_neg (by assumption), if_neg (by assumption), if_neg (by assumption), if_neg (by assumption), if_pos (by assumption)] | rw [if_neg (by assumption), if_neg (by assumption), if_neg (by assumption), if_neg (by assumption), if_neg (by assumption), if_neg (by assumption), if_neg (by assumption)]))

set_option maxRecDepth 100000 in
theorem m_X8_waits (G : zG) {un td ku : Int} {g ah ag tp co wy th kp ka ln sn it mv : Int → Int} {rest : List va_E} (hg : ∀ j, rng (g j))  {x : Int} (hx : rng x) : zMet G yX8_waits cX8_waits 2 (some .int) 0 0 [.ref (G.ad 0), .int (iI x)] (mdL G un td ku g ah ag tp co wy th kp ka ln sn it mv ++ rest) (zO (.int (iI 1)) (mdL G un td ku (zup g 193 x) ah ag tp co wy th kp ka ln sn it mv ++ rest)) := by
  refine zMet.of (by decide) (Nat.le_of_ble_eq_true rfl) ?_
  intro E C R
  have C : zC G E RX8 cX8_waits 2 0 0 := C
  show V G E 0 [some (.ref (G.ad 0)), some (.int (iI x))] [] (mdL G un td ku g ah ag tp co wy th kp ka ln sn it mv ++ rest)
  refine V_aload_n C dX8_waits_0 rfl ?_
  refine vg_X8_7 C dX8_waits_1 rfl rfl ?_
  refine V_sipush C dX8_waits_4 (by decide) ?_
  refine V_iload_n C dX8_waits_7 rfl ?_
  refine V_iast C dX8_waits_8 rfl (by omega) (by omega) (by decide) ?_
  refine V_iconst C dX8_waits_9 ?_
  exact V_iret C R dX8_waits_10 ⟨rfl, rfl⟩

set_option maxRecDepth 100000 in
theorem m_X8_waited (G : zG) {un td ku : Int} {g ah ag tp co wy th kp ka ln sn it mv : Int → Int} {rest : List va_E} (hg : ∀ j, rng (g j))  (hL : 0 ≤ g 0 ∧ g 0 ≤ 60) (hah : ∀ j, rng (ah j)) (hun : 0 ≤ un ∧ un ≤ 8) (hc : 0 ≤ g 61 ∧ (g 61 < g 0 ∨ (g 61 = 0 ∧ g 0 = 0))) (h1 : 0 ≤ g 191 ∧ g 191 ≤ 99) (h2 : 0 ≤ g 192 ∧ g 192 ≤ 99) (hmk : ∀ j, 124 ≤ j → j < 128 → g j = -4 ∨ (0 ≤ g j ∧ g j ≤ 60)) {x : Int} (hx : 0 ≤ x ∧ x ≤ 255) : zMet G yX8_waited cX8_waited 4 (some .int) 5 113 [.ref (G.ad 0), .int (iI x)] (mdL G un td ku g ah ag tp co wy th kp ka ln sn it mv ++ rest) (zO (.int (iI (waM ((un, g, ah) : zM) x).1)) (mdL G (sU ((waM ((un, g, ah) : zM) x).2)) td ku (sG ((waM ((un, g, ah) : zM) x).2)) (sH ((waM ((un, g, ah) : zM) x).2)) ag tp co wy th kp ka ln sn it mv ++ rest)) := by
  refine zMet.of (by decide) (Nat.le_of_ble_eq_true rfl) ?_
  intro E C R
  have C : zC G E RX8 cX8_waited 4 5 113 := C
  show V G E 0 [some (.ref (G.ad 0)), some (.int (iI x)), none, none] [] (mdL G un td ku g ah ag tp co wy th kp ka ln sn it mv ++ rest)
  have hT := ofM_in h1 h2
  have hF : fdM g x = -1 ∨ (g 61 + 1 ≤ fdM g x ∧ fdM g x < g 0) := fb_in (lt g) (g 0) x (ofM g) (g 61 + 1) 0
  have hcF : (cv (fdM g x) = -4 ∧ fdM g x = -1) ∨ (cv (fdM g x) = fdM g x ∧ fdM g x ≠ -1) := by
    by_cases h : fdM g x = -1
    · exact Or.inl ⟨cv_m h, h⟩
    · exact Or.inr ⟨cv_n h, h⟩
  have hmx : 97 ≤ x ∧ x ≤ 100 → g (124 + x - 97) = -4 ∨ (0 ≤ g (124 + x - 97) ∧ g (124 + x - 97) ≤ 60) := fun h => hmk _ (by omega) (by omega)
  refine V_aload_n C dX8_waited_0 rfl ?_
  refine vg_X8_7 C dX8_waited_1 rfl rfl ?_
  refine V_sipush C dX8_waited_4 (by decide) ?_
  refine V_iald C dX8_waited_7 rfl (by omega) (by omega) (by decide) (by repeat' (first | with_reducible assumption | refine zup_rng ?_ (by first | omega | exact hg _) | refine zcp_rng ?_ ?_)) (fun r_7 => ?_)
  by_cases w_8_39 : g 193 = 39
  · skip
    refine V_lookup (tgt := 107) (off := 99) C dX8_waited_8 rfl (by omega) (by rw [w_8_39]; rfl) (by decide) ?_
    refine V_midb (pc2 := 143) (97 ≤ x ∧ x ≤ 100 ∧ g (124 + x - 97) ≠ -4) ?_ (fun kt_107 kf_107 => ?_)
    · skip
      refine V_istore_n C dX8_waited_143 (by decide) rfl ?_
      refine V_iload_n C dX8_waited_144 rfl ?_
      refine V_if_eqB (tgt := 177) C dX8_waited_145 (by decide) (fun c_145 => ?_) (fun c_145 => ?_)
      · skip
        refine V_bipush C dX8_waited_177 (by decide) ?_
        exact V_iret C R dX8_waited_179 (by unfold waM; dsimp only [sU, sG, sH]; rw [if_neg (by omega), if_pos (by assumption)]; first | (rw [if_pos (by assumption)]; exact ⟨rfl, rfl⟩) | (rw [if_neg (by assumption)]; exact ⟨rfl, rfl⟩))
      · skip
        refine V_aload_n C dX8_waited_148 rfl ?_
        refine V_aload_n C dX8_waited_149 rfl ?_
        refine vg_X8_7 C dX8_waited_150 rfl rfl ?_
        refine V_bipush C dX8_waited_153 (by decide) ?_
        refine V_iload_n C dX8_waited_155 rfl ?_
        refine V_iadd C dX8_waited_156 ?_
        refine V_bipush C dX8_waited_157 (by decide) ?_
        refine V_isub C dX8_waited_159 ?_
        refine V_iald C dX8_waited_160 rfl (by omega) (by omega) (by decide) (by repeat' (first | with_reducible assumption | refine zup_rng ?_ (by first | omega | exact hg _) | refine zcp_rng ?_ ?_)) (fun r_160 => ?_)
        refine V_aload_n C dX8_waited_161 rfl ?_
        refine vg_X8_7 C dX8_waited_162 rfl rfl ?_
        refine V_iconst C dX8_waited_165 ?_
        refine V_iald C dX8_waited_166 rfl (by omega) (by omega) (by decide) (by repeat' (first | with_reducible assumption | refine zup_rng ?_ (by first | omega | exact hg _) | refine zcp_rng ?_ ?_)) (fun r_166 => ?_)
        refine V_callS C lk_X8_94 (m_X8_lesser G (by omega) (by omega)) dX8_waited_167 rfl rfl (by decide) (Nat.le_of_ble_eq_true rfl) (kO ?_)
        refine V_iconst C dX8_waited_170 ?_
        refine V_callV C lk_X8_122 (m_X8_goesTo G hg hL hah hun (by omega) (by omega) (by omega)) dX8_waited_171 rfl rfl rfl rfl (by decide) (Nat.le_of_ble_eq_true rfl) (kO ?_)
        refine V_goto (tgt := 179) C dX8_waited_174 (by decide) ?_
        exact V_iret C R dX8_waited_179 (by unfold waM; dsimp only [sU, sG, sH]; rw [if_neg (by omega), if_pos (by assumption)]; first | (rw [if_pos (by assumption)]; exact ⟨rfl, rfl⟩) | (rw [if_neg (by assumption)]; exact ⟨rfl, rfl⟩))
    · skip
      refine V_iload_n C dX8_waited_107 rfl ?_
      refine V_i2l C dX8_waited_108 (by omega) ?_
      refine V_ldc2 (z := 97) C wk_X8_54 rfl dX8_waited_109 ?_
      refine V_ldc2 (z := 100) C wk_X8_140 rfl dX8_waited_112 ?_
      refine V_callS C lk_X8_58 (m_X8_in G (by omega) (by omega) (by omega)) dX8_waited_115 rfl rfl (by decide) (Nat.le_of_ble_eq_true rfl) (kO ?_)
      refine V_if_eqB (tgt := 142) C dX8_waited_118 (by decide) (fun c_118 => ?_) (fun c_118 => ?_)
      · skip
        refine V_iconst C dX8_waited_142 ?_
        exact kf_107 (by omega)
      · skip
        refine V_aload_n C dX8_waited_121 rfl ?_
        refine vg_X8_7 C dX8_waited_122 rfl rfl ?_
        refine V_bipush C dX8_waited_125 (by decide) ?_
        refine V_iload_n C dX8_waited_127 rfl ?_
        refine V_iadd C dX8_waited_128 ?_
        refine V_bipush C dX8_waited_129 (by decide) ?_
        refine V_isub C dX8_waited_131 ?_
        refine V_iald C dX8_waited_132 rfl (by omega) (by omega) (by decide) (by repeat' (first | with_reducible assumption | refine zup_rng ?_ (by first | omega | exact hg _) | refine zcp_rng ?_ ?_)) (fun r_132 => ?_)
        refine V_bipush C dX8_waited_133 (by decide) ?_
        refine V_icmp_eq (tgt := 142) C dX8_waited_135 (by decide) (by omega) (by omega) (fun c_135 => ?_) (fun c_135 => ?_)
        · skip
          refine V_iconst C dX8_waited_142 ?_
          exact kf_107 (by omega)
        · skip
          refine V_iconst C dX8_waited_138 ?_
          refine V_goto (tgt := 143) C dX8_waited_139 (by decide) ?_
          exact kt_107 (by omega)
  by_cases w_8_102 : g 193 = 102
  · skip
    refine V_lookup (tgt := 60) (off := 52) C dX8_waited_8 rfl (by omega) (by rw [w_8_102]; rfl) (by decide) ?_
    refine V_aload_n C dX8_waited_60 rfl ?_
    refine V_iload_n C dX8_waited_61 rfl ?_
    refine V_aload_n C dX8_waited_62 rfl ?_
    refine V_callV C lk_X8_116 (m_X8_often G hg h1 h2) dX8_waited_63 rfl rfl rfl rfl (by decide) (Nat.le_of_ble_eq_true rfl) (kO ?_)
    refine V_callV C lk_X8_137 (m_X8_findsTo G (n := ofM g) hg hL (by omega) (by omega) hT) dX8_waited_66 rfl rfl rfl rfl (by decide) (Nat.le_of_ble_eq_true rfl) (kO ?_)
    show V G E 69 [some (.ref (G.ad 0)), some (.int (iI x)), none, none] [.int (iI (cv (fdM g x)))] (mdL G un td ku g ah ag tp co wy th kp ka ln sn it mv ++ rest)
    refine V_istore_n C dX8_waited_69 (by decide) rfl ?_
    refine V_iload_n C dX8_waited_70 rfl ?_
    refine V_bipush C dX8_waited_71 (by decide) ?_
    refine V_icmp_ne (tgt := 81) C dX8_waited_73 (by decide) (by omega) (by omega) (fun c_73 => ?_) (fun c_73 => ?_)
    · skip
      rw [show cv (fdM g x) = fdM g x by omega]
      refine V_aload_n C dX8_waited_81 rfl ?_
      refine V_midz (pc2 := 102) (if g 193 = 102 then fdM g x else fdM g x - 1) ?_ (fun kk_82 => ?_)
      · skip
        have hpz : 0 ≤ (if g 193 = 102 then fdM g x else fdM g x - 1) ∧ (if g 193 = 102 then fdM g x else fdM g x - 1) ≤ 60 := by split <;> omega
        refine V_iconst C dX8_waited_102 ?_
        refine V_callV C lk_X8_122 (m_X8_goesTo G hg hL hah hun (by omega) (by omega) (by omega)) dX8_waited_103 rfl rfl rfl rfl (by decide) (Nat.le_of_ble_eq_true rfl) (kO ?_)
        exact V_iret C R dX8_waited_106 (by unfold waM; dsimp only [sU, sG, sH]; rw [if_pos (by omega)]; first | (rw [if_pos (by omega)]; exact ⟨rfl, rfl⟩) | (rw [if_neg (by omega)]; exact ⟨rfl, rfl⟩))
      · skip
        refine V_aload_n C dX8_waited_82 rfl ?_
        refine vg_X8_7 C dX8_waited_83 rfl rfl ?_
        refine V_sipush C dX8_waited_86 (by decide) ?_
        refine V_iald C dX8_waited_89 rfl (by omega) (by omega) (by decide) (by repeat' (first | with_reducible assumption | refine zup_rng ?_ (by first | omega | exact hg _) | refine zcp_rng ?_ ?_)) (fun r_89 => ?_)
        refine V_bipush C dX8_waited_90 (by decide) ?_
        refine V_icmp_ne (tgt := 99) C dX8_waited_92 (by decide) (by omega) (by omega) (fun c_92 => ?_) (fun c_92 => ?_)
        · skip
          refine V_iload_n C dX8_waited_99 rfl ?_
          refine V_iconst C dX8_waited_100 ?_
          refine V_isub C dX8_waited_101 ?_
          exact kk_82 _ (by first | (exfalso; omega) | rw [if_pos (by assumption)] | rw [if_neg (by assumption)])
        · skip
          refine V_iload_n C dX8_waited_95 rfl ?_
          refine V_goto (tgt := 102) C dX8_waited_96 (by decide) ?_
          exact kk_82 _ (by first | (exfalso; omega) | rw [if_pos (by assumption)] | rw [if_neg (by assumption)])
    · skip
      refine V_bipush C dX8_waited_76 (by decide) ?_
      refine V_goto (tgt := 106) C dX8_waited_78 (by decide) ?_
      exact V_iret C R dX8_waited_106 (by unfold waM; dsimp only [sU, sG, sH]; rw [if_pos (by omega)]; first | (rw [if_pos (by omega)]; exact ⟨rfl, rfl⟩) | (rw [if_neg (by omega)]; exact ⟨rfl, rfl⟩))
  by_cases w_8_109 : g 193 = 109
  · skip
    refine V_lookup (tgt := 190) (off := 182) C dX8_waited_8 rfl (by omega) (by rw [w_8_109]; rfl) (by decide) ?_
    refine V_iload_n C dX8_waited_190 rfl ?_
    refine V_i2l C dX8_waited_191 (by omega) ?_
    refine V_ldc2 (z := 97) C wk_X8_54 rfl dX8_waited_192 ?_
    refine V_ldc2 (z := 100) C wk_X8_140 rfl dX8_waited_195 ?_
    refine V_callS C lk_X8_58 (m_X8_in G (by omega) (by omega) (by omega)) dX8_waited_198 rfl rfl (by decide) (Nat.le_of_ble_eq_true rfl) (kO ?_)
    refine V_if_neB (tgt := 207) C dX8_waited_201 (by decide) (fun c_201 => ?_) (fun c_201 => ?_)
    · skip
      refine V_aload_n C dX8_waited_207 rfl ?_
      refine vg_X8_7 C dX8_waited_208 rfl rfl ?_
      refine V_bipush C dX8_waited_211 (by decide) ?_
      refine V_iload_n C dX8_waited_213 rfl ?_
      refine V_iadd C dX8_waited_214 ?_
      refine V_bipush C dX8_waited_215 (by decide) ?_
      refine V_isub C dX8_waited_217 ?_
      refine V_aload_n C dX8_waited_218 rfl ?_
      refine vg_X8_7 C dX8_waited_219 rfl rfl ?_
      refine V_bipush C dX8_waited_222 (by decide) ?_
      refine V_iald C dX8_waited_224 rfl (by omega) (by omega) (by decide) (by repeat' (first | with_reducible assumption | refine zup_rng ?_ (by first | omega | exact hg _) | refine zcp_rng ?_ ?_)) (fun r_224 => ?_)
      refine V_iast C dX8_waited_225 rfl (by omega) (by omega) (by decide) ?_
      refine V_iconst C dX8_waited_226 ?_
      exact V_iret C R dX8_waited_227 (by unfold waM; dsimp only [sU, sG, sH]; rw [if_neg (by omega), if_neg (by omega), if_neg (by omega), if_pos (by assumption), if_pos (by assumption)]; exact ⟨rfl, rfl⟩)
    · skip
      refine V_bipush C dX8_waited_204 (by decide) ?_
      exact V_iret C R dX8_waited_206 (by unfold waM; dsimp only [sU, sG, sH]; rw [if_neg (by omega), if_neg (by omega), if_neg (by omega), if_pos (by assumption), if_neg (by assumption)]; exact ⟨rfl, rfl⟩)
  by_cases w_8_114 : g 193 = 114
  · skip
    refine V_lookup (tgt := 180) (off := 172) C dX8_waited_8 rfl (by omega) (by rw [w_8_114]; rfl) (by decide) ?_
    refine V_aload_n C dX8_waited_180 rfl ?_
    refine V_iload_n C dX8_waited_181 rfl ?_
    refine V_aload_n C dX8_waited_182 rfl ?_
    refine V_callV C lk_X8_116 (m_X8_often G hg h1 h2) dX8_waited_183 rfl rfl rfl rfl (by decide) (Nat.le_of_ble_eq_true rfl) (kO ?_)
    refine V_callV C lk_X8_142 (m_X8_replaces G (n := ofM g) hg hL hah hun hc (by omega) hT) dX8_waited_186 rfl rfl rfl rfl (by decide) (Nat.le_of_ble_eq_true rfl) (kO ?_)
    exact V_iret C R dX8_waited_189 (by unfold waM; dsimp only [sU, sG, sH]; rw [if_neg (by omega), if_neg (by omega), if_pos (by assumption)]; exact ⟨rfl, rfl⟩)
  by_cases w_8_116 : g 193 = 116
  · skip
    refine V_lookup (tgt := 60) (off := 52) C dX8_waited_8 rfl (by omega) (by rw [w_8_116]; rfl) (by decide) ?_
    refine V_aload_n C dX8_waited_60 rfl ?_
    refine V_iload_n C dX8_waited_61 rfl ?_
    refine V_aload_n C dX8_waited_62 rfl ?_
    refine V_callV C lk_X8_116 (m_X8_often G hg h1 h2) dX8_waited_63 rfl rfl rfl rfl (by decide) (Nat.le_of_ble_eq_true rfl) (kO ?_)
    refine V_callV C lk_X8_137 (m_X8_findsTo G (n := ofM g) hg hL (by omega) (by omega) hT) dX8_waited_66 rfl rfl rfl rfl (by decide) (Nat.le_of_ble_eq_true rfl) (kO ?_)
    show V G E 69 [some (.ref (G.ad 0)), some (.int (iI x)), none, none] [.int (iI (cv (fdM g x)))] (mdL G un td ku g ah ag tp co wy th kp ka ln sn it mv ++ rest)
    refine V_istore_n C dX8_waited_69 (by decide) rfl ?_
    refine V_iload_n C dX8_waited_70 rfl ?_
    refine V_bipush C dX8_waited_71 (by decide) ?_
    refine V_icmp_ne (tgt := 81) C dX8_waited_73 (by decide) (by omega) (by omega) (fun c_73 => ?_) (fun c_73 => ?_)
    · skip
      rw [show cv (fdM g x) = fdM g x by omega]
      refine V_aload_n C dX8_waited_81 rfl ?_
      refine V_midz (pc2 := 102) (if g 193 = 102 then fdM g x else fdM g x - 1) ?_ (fun kk_82 => ?_)
      · skip
        have hpz : 0 ≤ (if g 193 = 102 then fdM g x else fdM g x - 1) ∧ (if g 193 = 102 then fdM g x else fdM g x - 1) ≤ 60 := by split <;> omega
        refine V_iconst C dX8_waited_102 ?_
        refine V_callV C lk_X8_122 (m_X8_goesTo G hg hL hah hun (by omega) (by omega) (by omega)) dX8_waited_103 rfl rfl rfl rfl (by decide) (Nat.le_of_ble_eq_true rfl) (kO ?_)
        exact V_iret C R dX8_waited_106 (by unfold waM; dsimp only [sU, sG, sH]; rw [if_pos (by omega)]; first | (rw [if_pos (by omega)]; exact ⟨rfl, rfl⟩) | (rw [if_neg (by omega)]; exact ⟨rfl, rfl⟩))
      · skip
        refine V_aload_n C dX8_waited_82 rfl ?_
        refine vg_X8_7 C dX8_waited_83 rfl rfl ?_
        refine V_sipush C dX8_waited_86 (by decide) ?_
        refine V_iald C dX8_waited_89 rfl (by omega) (by omega) (by decide) (by repeat' (first | with_reducible assumption | refine zup_rng ?_ (by first | omega | exact hg _) | refine zcp_rng ?_ ?_)) (fun r_89 => ?_)
        refine V_bipush C dX8_waited_90 (by decide) ?_
        refine V_icmp_ne (tgt := 99) C dX8_waited_92 (by decide) (by omega) (by omega) (fun c_92 => ?_) (fun c_92 => ?_)
        · skip
          refine V_iload_n C dX8_waited_99 rfl ?_
          refine V_iconst C dX8_waited_100 ?_
          refine V_isub C dX8_waited_101 ?_
          exact kk_82 _ (by first | (exfalso; omega) | rw [if_pos (by assumption)] | rw [if_neg (by assumption)])
        · skip
          refine V_iload_n C dX8_waited_95 rfl ?_
          refine V_goto (tgt := 102) C dX8_waited_96 (by decide) ?_
          exact kk_82 _ (by first | (exfalso; omega) | rw [if_pos (by assumption)] | rw [if_neg (by assumption)])
    · skip
      refine V_bipush C dX8_waited_76 (by decide) ?_
      refine V_goto (tgt := 106) C dX8_waited_78 (by decide) ?_
      exact V_iret C R dX8_waited_106 (by unfold waM; dsimp only [sU, sG, sH]; rw [if_pos (by omega)]; first | (rw [if_pos (by omega)]; exact ⟨rfl, rfl⟩) | (rw [if_neg (by omega)]; exact ⟨rfl, rfl⟩))
  refine V_lookup (tgt := 228) (off := 220) C dX8_waited_8 rfl (by omega) (by simp [Op.lookupswitch.offset]; repeat rw [if_neg (Ne.symm (by assumption))]) (by decide) ?_
  refine V_aload_n C dX8_waited_228 rfl ?_
  refine V_midb (pc2 := 247) (g 193 = 97) ?_ (fun kt_229 kf_229 => ?_)
  · skip
    refine V_iload_n C dX8_waited_247 rfl ?_
    refine V_callV C lk_X8_145 (m_X8_objects G hg hL hah hun hc (by unfold b2z; split <;> omega) (by omega)) dX8_waited_248 rfl rfl rfl rfl (by decide) (Nat.le_of_ble_eq_true rfl) (kO ?_)
    exact V_iret C R dX8_waited_251 (by unfold waM; dsimp only [sU, sG, sH]; rw [if_neg (by omega), if_neg (by omega), if_neg (by omega), if_neg (by omega)]; exact ⟨rfl, rfl⟩)
  · skip
    refine V_aload_n C dX8_waited_229 rfl ?_
    refine vg_X8_7 C dX8_waited_230 rfl rfl ?_
    refine V_sipush C dX8_waited_233 (by decide) ?_
    refine V_iald C dX8_waited_236 rfl (by omega) (by omega) (by decide) (by repeat' (first | with_reducible assumption | refine zup_rng ?_ (by first | omega | exact hg _) | refine zcp_rng ?_ ?_)) (fun r_236 => ?_)
    refine V_bipush C dX8_waited_237 (by decide) ?_
    refine V_icmp_ne (tgt := 246) C dX8_waited_239 (by decide) (by omega) (by omega) (fun c_239 => ?_) (fun c_239 => ?_)
    · skip
      refine V_iconst C dX8_waited_246 ?_
      exact kf_229 (by omega)
    · skip
      refine V_iconst C dX8_waited_242 ?_
      refine V_goto (tgt := 247) C dX8_waited_243 (by decide) ?_
      exact kt_229 (by omega)

set_option maxRecDepth 100000 in
theorem m_X8_deed (G : zG) {un td ku : Int} {g ah ag tp co wy th kp ka ln sn it mv : Int → Int} {rest : List va_E} (hg : ∀ j, rng (g j))  (hL : 0 ≤ g 0 ∧ g 0 ≤ 60) (hah : ∀ j, rng (ah j)) (hun : 0 ≤ un ∧ un ≤ 8) (hc : 0 ≤ g 61 ∧ (g 61 < g 0 ∨ (g 61 = 0 ∧ g 0 = 0))) (h1 : 0 ≤ g 191 ∧ g 191 ≤ 99) (h2 : 0 ≤ g 192 ∧ g 192 ≤ 99) (hs : 0 ≤ g 63 ∧ g 63 ≤ 60) {x : Int} (hx : 0 ≤ x ∧ x ≤ 255) : zMet G yX8_deed cX8_deed 3 (some .int) 2 50 [.ref (G.ad 0), .int (iI x)] (mdL G un td ku g ah ag tp co wy th kp ka ln sn it mv ++ rest) (zO (.int (iI (deM ((un, g, ah) : zM) x).1)) (mdL G (sU ((deM ((un, g, ah) : zM) x).2)) td ku (sG ((deM ((un, g, ah) : zM) x).2)) (sH ((deM ((un, g, ah) : zM) x).2)) ag tp co wy th kp ka ln sn it mv ++ rest)) := by
  refine zMet.of (by decide) (Nat.le_of_ble_eq_true rfl) ?_
  intro E C R
  have C : zC G E RX8 cX8_deed 3 2 50 := C
  show V G E 0 [some (.ref (G.ad 0)), some (.int (iI x)), none] [] (mdL G un td ku g ah ag tp co wy th kp ka ln sn it mv ++ rest)
  have hT := ofM_in h1 h2
  refine V_aload_n C dX8_deed_0 rfl ?_
  refine vg_X8_7 C dX8_deed_1 rfl rfl ?_
  refine V_bipush C dX8_deed_4 (by decide) ?_
  refine V_iald C dX8_deed_6 rfl (by omega) (by omega) (by decide) (by repeat' (first | with_reducible assumption | refine zup_rng ?_ (by first | omega | exact hg _) | refine zcp_rng ?_ ?_)) (fun r_6 => ?_)
  refine V_istore_n C dX8_deed_7 (by decide) rfl ?_
  refine V_iload_n C dX8_deed_8 rfl ?_
  by_cases w_9_46 : x = 46
  · skip
    refine V_lookup (tgt := 242) (off := 233) C dX8_deed_9 rfl (by omega) (by rw [w_9_46]; rfl) (by decide) ?_
    refine V_aload_n C dX8_deed_242 rfl ?_
    refine vg_X8_7 C dX8_deed_243 rfl rfl ?_
    refine V_sipush C dX8_deed_246 (by decide) ?_
    refine V_iald C dX8_deed_249 rfl (by omega) (by omega) (by decide) (by repeat' (first | with_reducible assumption | refine zup_rng ?_ (by first | omega | exact hg _) | refine zcp_rng ?_ ?_)) (fun r_249 => ?_)
    refine V_i2l C dX8_deed_250 (by omega) ?_
    refine V_lconst (z := 1) C dX8_deed_251 rfl ?_
    refine V_ldc2 (z := 30) C wk_X8_161 rfl dX8_deed_252 ?_
    refine V_callS C lk_X8_58 (m_X8_in G (by omega) (by omega) (by omega)) dX8_deed_255 rfl rfl (by decide) (Nat.le_of_ble_eq_true rfl) (kO ?_)
    refine V_if_eqB (tgt := 266) C dX8_deed_258 (by decide) (fun c_258 => ?_) (fun c_258 => ?_)
    · skip
      refine V_bipush C dX8_deed_266 (by decide) ?_
      exact V_iret C R dX8_deed_268 (by unfold deM; dsimp only [sU, sG, sH]; rw [if_neg (by omega), if_neg (by omega), if_neg (by omega), if_neg (by omega), if_neg (by omega), if_neg (by omega), if_neg (by omega), if_neg (by omega), if_neg (by omega), if_neg (by omega), if_pos (by omega)]; first | (rw [if_pos (by assumption)]; exact ⟨rfl, rfl⟩) | (rw [if_neg (by assumption)]; exact ⟨rfl, rfl⟩))
    · skip
      refine V_bipush C dX8_deed_261 (by decide) ?_
      refine V_goto (tgt := 268) C dX8_deed_263 (by decide) ?_
      exact V_iret C R dX8_deed_268 (by unfold deM; dsimp only [sU, sG, sH]; rw [if_neg (by omega), if_neg (by omega), if_neg (by omega), if_neg (by omega), if_neg (by omega), if_neg (by omega), if_neg (by omega), if_neg (by omega), if_neg (by omega), if_neg (by omega), if_pos (by omega)]; first | (rw [if_pos (by assumption)]; exact ⟨rfl, rfl⟩) | (rw [if_neg (by assumption)]; exact ⟨rfl, rfl⟩))
  by_cases w_9_65 : x = 65
  · skip
    refine V_lookup (tgt := 222) (off := 213) C dX8_deed_9 rfl (by omega) (by rw [w_9_65]; rfl) (by decide) ?_
    refine V_aload_n C dX8_deed_222 rfl ?_
    refine V_aload_n C dX8_deed_223 rfl ?_
    refine vg_X8_7 C dX8_deed_224 rfl rfl ?_
    refine V_iconst C dX8_deed_227 ?_
    refine V_iald C dX8_deed_228 rfl (by omega) (by omega) (by decide) (by repeat' (first | with_reducible assumption | refine zup_rng ?_ (by first | omega | exact hg _) | refine zcp_rng ?_ ?_)) (fun r_228 => ?_)
    refine V_callV C lk_X8_107 (m_X8_inserts G hg (by omega)) dX8_deed_229 rfl rfl rfl rfl (by decide) (Nat.le_of_ble_eq_true rfl) (kO ?_)
    exact V_iret C R dX8_deed_232 (by unfold deM; dsimp only [sU, sG, sH]; rw [if_neg (by omega), if_neg (by omega), if_neg (by omega), if_neg (by omega), if_neg (by omega), if_neg (by omega), if_neg (by omega), if_neg (by omega), if_pos (by omega)]; exact ⟨rfl, rfl⟩)
  by_cases w_9_73 : x = 73
  · skip
    refine V_lookup (tgt := 216) (off := 207) C dX8_deed_9 rfl (by omega) (by rw [w_9_73]; rfl) (by decide) ?_
    refine V_aload_n C dX8_deed_216 rfl ?_
    refine V_iconst C dX8_deed_217 ?_
    refine V_callV C lk_X8_107 (m_X8_inserts G hg (by omega)) dX8_deed_218 rfl rfl rfl rfl (by decide) (Nat.le_of_ble_eq_true rfl) (kO ?_)
    exact V_iret C R dX8_deed_221 (by unfold deM; dsimp only [sU, sG, sH]; rw [if_neg (by omega), if_neg (by omega), if_neg (by omega), if_neg (by omega), if_neg (by omega), if_neg (by omega), if_neg (by omega), if_pos (by omega)]; exact ⟨rfl, rfl⟩)
  by_cases w_9_80 : x = 80
  · skip
    refine V_lookup (tgt := 179) (off := 170) C dX8_deed_9 rfl (by omega) (by rw [w_9_80]; rfl) (by decide) ?_
    refine V_aload_n C dX8_deed_179 rfl ?_
    refine V_iconst C dX8_deed_180 ?_
    refine V_aload_n C dX8_deed_181 rfl ?_
    refine V_callV C lk_X8_116 (m_X8_often G hg h1 h2) dX8_deed_182 rfl rfl rfl rfl (by decide) (Nat.le_of_ble_eq_true rfl) (kO ?_)
    refine V_callV C lk_X8_155 (m_X8_puts G (n := ofM g) hg hL hah hun hc (by omega) hT hs) dX8_deed_185 rfl rfl rfl rfl (by decide) (Nat.le_of_ble_eq_true rfl) (kO ?_)
    exact V_iret C R dX8_deed_188 (by unfold deM; dsimp only [sU, sG, sH]; rw [if_neg (by omega), if_neg (by omega), if_neg (by omega), if_neg (by omega), if_pos (by omega)]; exact ⟨rfl, rfl⟩)
  by_cases w_9_97 : x = 97
  · skip
    refine V_lookup (tgt := 195) (off := 186) C dX8_deed_9 rfl (by omega) (by rw [w_9_97]; rfl) (by decide) ?_
    refine V_aload_n C dX8_deed_195 rfl ?_
    refine V_midz (pc2 := 212) (if g 0 = 0 then 0 else g 61 + 1) ?_ (fun kk_196 => ?_)
    · skip
      have hpz : rng (if g 0 = 0 then 0 else g 61 + 1) := by split <;> omega
      refine V_callV C lk_X8_107 (m_X8_inserts G hg (by omega)) dX8_deed_212 rfl rfl rfl rfl (by decide) (Nat.le_of_ble_eq_true rfl) (kO ?_)
      exact V_iret C R dX8_deed_215 (by unfold deM; dsimp only [sU, sG, sH]; rw [if_neg (by omega), if_neg (by omega), if_neg (by omega), if_neg (by omega), if_neg (by omega), if_neg (by omega), if_pos (by omega)]; exact ⟨rfl, rfl⟩)
    · skip
      refine V_aload_n C dX8_deed_196 rfl ?_
      refine vg_X8_7 C dX8_deed_197 rfl rfl ?_
      refine V_iconst C dX8_deed_200 ?_
      refine V_iald C dX8_deed_201 rfl (by omega) (by omega) (by decide) (by repeat' (first | with_reducible assumption | refine zup_rng ?_ (by first | omega | exact hg _) | refine zcp_rng ?_ ?_)) (fun r_201 => ?_)
      refine V_if_ne (tgt := 209) C dX8_deed_202 (by decide) (by omega) (fun c_202 => ?_) (fun c_202 => ?_)
      · skip
        refine V_iload_n C dX8_deed_209 rfl ?_
        refine V_iconst C dX8_deed_210 ?_
        refine V_iadd C dX8_deed_211 ?_
        exact kk_196 _ (by first | rw [if_pos (by assumption)] | rw [if_neg (by assumption)])
      · skip
        refine V_iconst C dX8_deed_205 ?_
        refine V_goto (tgt := 212) C dX8_deed_206 (by decide) ?_
        exact kk_196 _ (by first | rw [if_pos (by assumption)] | rw [if_neg (by assumption)])
  by_cases w_9_99 : x = 99
  · skip
    refine V_lookup (tgt := 140) (off := 131) C dX8_deed_9 rfl (by omega) (by rw [w_9_99]; rfl) (by decide) ?_
    refine V_aload_n C dX8_deed_140 rfl ?_
    refine vg_X8_7 C dX8_deed_141 rfl rfl ?_
    refine V_sipush C dX8_deed_144 (by decide) ?_
    refine V_iload_n C dX8_deed_147 rfl ?_
    refine V_iast C dX8_deed_148 rfl (by omega) (by omega) (by decide) ?_
    refine V_iconst C dX8_deed_149 ?_
    exact V_iret C R dX8_deed_150 (by unfold deM; dsimp only [sU, sG, sH]; rw [if_pos (by omega)]; exact ⟨rfl, rfl⟩)
  by_cases w_9_100 : x = 100
  · skip
    refine V_lookup (tgt := 140) (off := 131) C dX8_deed_9 rfl (by omega) (by rw [w_9_100]; rfl) (by decide) ?_
    refine V_aload_n C dX8_deed_140 rfl ?_
    refine vg_X8_7 C dX8_deed_141 rfl rfl ?_
    refine V_sipush C dX8_deed_144 (by decide) ?_
    refine V_iload_n C dX8_deed_147 rfl ?_
    refine V_iast C dX8_deed_148 rfl (by omega) (by omega) (by decide) ?_
    refine V_iconst C dX8_deed_149 ?_
    exact V_iret C R dX8_deed_150 (by unfold deM; dsimp only [sU, sG, sH]; rw [if_pos (by omega)]; exact ⟨rfl, rfl⟩)
  by_cases w_9_105 : x = 105
  · skip
    refine V_lookup (tgt := 189) (off := 180) C dX8_deed_9 rfl (by omega) (by rw [w_9_105]; rfl) (by decide) ?_
    refine V_aload_n C dX8_deed_189 rfl ?_
    refine V_iload_n C dX8_deed_190 rfl ?_
    refine V_callV C lk_X8_107 (m_X8_inserts G hg (by omega)) dX8_deed_191 rfl rfl rfl rfl (by decide) (Nat.le_of_ble_eq_true rfl) (kO ?_)
    exact V_iret C R dX8_deed_194 (by unfold deM; dsimp only [sU, sG, sH]; rw [if_neg (by omega), if_neg (by omega), if_neg (by omega), if_neg (by omega), if_neg (by omega), if_pos (by omega)]; exact ⟨rfl, rfl⟩)
  by_cases w_9_109 : x = 109
  · skip
    refine V_lookup (tgt := 269) (off := 260) C dX8_deed_9 rfl (by omega) (by rw [w_9_109]; rfl) (by decide) ?_
    refine V_aload_n C dX8_deed_269 rfl ?_
    refine V_iload_n C dX8_deed_270 rfl ?_
    refine V_callV C lk_X8_163 (m_X8_waits G hg (by omega)) dX8_deed_271 rfl rfl rfl rfl (by decide) (Nat.le_of_ble_eq_true rfl) (kO ?_)
    exact V_iret C R dX8_deed_274 (by unfold deM; dsimp only [sU, sG, sH]; rw [if_neg (by omega), if_neg (by omega), if_neg (by omega), if_neg (by omega), if_neg (by omega), if_neg (by omega), if_neg (by omega), if_neg (by omega), if_neg (by omega), if_neg (by omega), if_neg (by omega), if_pos (by omega)]; exact ⟨rfl, rfl⟩)
  by_cases w_9_112 : x = 112
  · skip
    refine V_lookup (tgt := 169) (off := 160) C dX8_deed_9 rfl (by omega) (by rw [w_9_112]; rfl) (by decide) ?_
    refine V_aload_n C dX8_deed_169 rfl ?_
    refine V_iconst C dX8_deed_170 ?_
    refine V_aload_n C dX8_deed_171 rfl ?_
    refine V_callV C lk_X8_116 (m_X8_often G hg h1 h2) dX8_deed_172 rfl rfl rfl rfl (by decide) (Nat.le_of_ble_eq_true rfl) (kO ?_)
    refine V_callV C lk_X8_155 (m_X8_puts G (n := ofM g) hg hL hah hun hc (by omega) hT hs) dX8_deed_175 rfl rfl rfl rfl (by decide) (Nat.le_of_ble_eq_true rfl) (kO ?_)
    exact V_iret C R dX8_deed_178 (by unfold deM; dsimp only [sU, sG, sH]; rw [if_neg (by omega), if_neg (by omega), if_neg (by omega), if_pos (by omega)]; exact ⟨rfl, rfl⟩)
  by_cases w_9_114 : x = 114
  · skip
    refine V_lookup (tgt := 269) (off := 260) C dX8_deed_9 rfl (by omega) (by rw [w_9_114]; rfl) (by decide) ?_
    refine V_aload_n C dX8_deed_269 rfl ?_
    refine V_iload_n C dX8_deed_270 rfl ?_
    refine V_callV C lk_X8_163 (m_X8_waits G hg (by omega)) dX8_deed_271 rfl rfl rfl rfl (by decide) (Nat.le_of_ble_eq_true rfl) (kO ?_)
    exact V_iret C R dX8_deed_274 (by unfold deM; dsimp only [sU, sG, sH]; rw [if_neg (by omega), if_neg (by omega), if_neg (by omega), if_neg (by omega), if_neg (by omega), if_neg (by omega), if_neg (by omega), if_neg (by omega), if_neg (by omega), if_neg (by omega), if_neg (by omega), if_pos (by omega)]; exact ⟨rfl, rfl⟩)
  by_cases w_9_117 : x = 117
  · skip
    refine V_lookup (tgt := 233) (off := 224) C dX8_deed_9 rfl (by omega) (by rw [w_9_117]; rfl) (by decide) ?_
    refine V_aload_n C dX8_deed_233 rfl ?_
    refine V_aload_n C dX8_deed_234 rfl ?_
    refine V_callV C lk_X8_116 (m_X8_often G hg h1 h2) dX8_deed_235 rfl rfl rfl rfl (by decide) (Nat.le_of_ble_eq_true rfl) (kO ?_)
    refine V_callV C lk_X8_158 (m_X8_undoes G (n := ofM g) hg hah hun hT) dX8_deed_238 rfl rfl rfl rfl (by decide) (Nat.le_of_ble_eq_true rfl) (kO ?_)
    exact V_iret C R dX8_deed_241 (by unfold deM; dsimp only [sU, sG, sH]; rw [if_neg (by omega), if_neg (by omega), if_neg (by omega), if_neg (by omega), if_neg (by omega), if_neg (by omega), if_neg (by omega), if_neg (by omega), if_neg (by omega), if_pos (by omega)]; exact ⟨rfl, rfl⟩)
  by_cases w_9_120 : x = 120
  · skip
    refine V_lookup (tgt := 151) (off := 142) C dX8_deed_9 rfl (by omega) (by rw [w_9_120]; rfl) (by decide) ?_
    refine V_aload_n C dX8_deed_151 rfl ?_
    refine V_aload_n C dX8_deed_152 rfl ?_
    refine V_callV C lk_X8_116 (m_X8_often G hg h1 h2) dX8_deed_153 rfl rfl rfl rfl (by decide) (Nat.le_of_ble_eq_true rfl) (kO ?_)
    refine V_callV C lk_X8_149 (m_X8_crosses G (n := ofM g) hg hL hah hun hc hT) dX8_deed_156 rfl rfl rfl rfl (by decide) (Nat.le_of_ble_eq_true rfl) (kO ?_)
    exact V_iret C R dX8_deed_159 (by unfold deM; dsimp only [sU, sG, sH]; rw [if_neg (by omega), if_pos (by omega)]; exact ⟨rfl, rfl⟩)
  by_cases w_9_121 : x = 121
  · skip
    refine V_lookup (tgt := 140) (off := 131) C dX8_deed_9 rfl (by omega) (by rw [w_9_121]; rfl) (by decide) ?_
    refine V_aload_n C dX8_deed_140 rfl ?_
    refine vg_X8_7 C dX8_deed_141 rfl rfl ?_
    refine V_sipush C dX8_deed_144 (by decide) ?_
    refine V_iload_n C dX8_deed_147 rfl ?_
    refine V_iast C dX8_deed_148 rfl (by omega) (by omega) (by decide) ?_
    refine V_iconst C dX8_deed_149 ?_
    exact V_iret C R dX8_deed_150 (by unfold deM; dsimp only [sU, sG, sH]; rw [if_pos (by omega)]; exact ⟨rfl, rfl⟩)
  by_cases w_9_126 : x = 126
  · skip
    refine V_lookup (tgt := 160) (off := 151) C dX8_deed_9 rfl (by omega) (by rw [w_9_126]; rfl) (by decide) ?_
    refine V_aload_n C dX8_deed_160 rfl ?_
    refine V_aload_n C dX8_deed_161 rfl ?_
    refine V_callV C lk_X8_116 (m_X8_often G hg h1 h2) dX8_deed_162 rfl rfl rfl rfl (by decide) (Nat.le_of_ble_eq_true rfl) (kO ?_)
    refine V_callV C lk_X8_152 (m_X8_turns G (n := ofM g) hg hL hah hun hc hT) dX8_deed_165 rfl rfl rfl rfl (by decide) (Nat.le_of_ble_eq_true rfl) (kO ?_)
    exact V_iret C R dX8_deed_168 (by unfold deM; dsimp only [sU, sG, sH]; rw [if_neg (by omega), if_neg (by omega), if_pos (by omega)]; exact ⟨rfl, rfl⟩)
  refine V_lookup (tgt := 275) (off := 266) C dX8_deed_9 rfl (by omega) (by simp [Op.lookupswitch.offset]; repeat rw [if_neg (Ne.symm (by assumption))]) (by decide) ?_
  refine V_bipush C dX8_deed_275 (by decide) ?_
  exact V_iret C R dX8_deed_277 (by unfold deM; dsimp only [sU, sG, sH]; rw [if_neg (by omega), if_neg (by omega), if_neg (by omega), if_neg (by omega), if_neg (by omega), if_neg (by omega), if_neg (by omega), if_neg (by omega), if_neg (by omega), if_neg (by omega), if_neg (by omega), if_neg (by omega)]; exact ⟨rfl, rfl⟩)

set_option maxRecDepth 100000 in
theorem m_X8_commands (G : zG) {un td ku : Int} {g ah ag tp co wy th kp ka ln sn it mv : Int → Int} {rest : List va_E} (hg : ∀ j, rng (g j))  (hL : 0 ≤ g 0 ∧ g 0 ≤ 60) (hah : ∀ j, rng (ah j)) (hun : 0 ≤ un ∧ un ≤ 8) (hc : 0 ≤ g 61 ∧ (g 61 < g 0 ∨ (g 61 = 0 ∧ g 0 = 0))) (h1 : 0 ≤ g 191 ∧ g 191 ≤ 99) (h2 : 0 ≤ g 192 ∧ g 192 ≤ 99) (hmk : ∀ j, 124 ≤ j → j < 128 → g j = -4 ∨ (0 ≤ g j ∧ g j ≤ 60)) (hs : 0 ≤ g 63 ∧ g 63 ≤ 60) {x : Int} (hx : 0 ≤ x ∧ x ≤ 255) : zMet G yX8_commands cX8_commands 4 (some .int) 6 136 [.ref (G.ad 0), .int (iI x)] (mdL G un td ku g ah ag tp co wy th kp ka ln sn it mv ++ rest) (zO (.int (iI (cmM ((un, g, ah) : zM) x).1)) (mdL G (sU ((cmM ((un, g, ah) : zM) x).2)) td ku (sG ((cmM ((un, g, ah) : zM) x).2)) (sH ((cmM ((un, g, ah) : zM) x).2)) ag tp co wy th kp ka ln sn it mv ++ rest)) := by
  refine zMet.of (by decide) (Nat.le_of_ble_eq_true rfl) ?_
  intro E C R
  have C : zC G E RX8 cX8_commands 4 6 136 := C
  show V G E 0 [some (.ref (G.ad 0)), some (.int (iI x)), none, none] [] (mdL G un td ku g ah ag tp co wy th kp ka ln sn it mv ++ rest)
  have hI := cmI_in g
  have hgI : 0 ≤ g (cmI g) ∧ g (cmI g) ≤ 99 := by rcases hI with e | e <;> rw [e] <;> assumption
  have hM := moM_in x
  refine V_aload_n C dX8_commands_0 rfl ?_
  refine vg_X8_7 C dX8_commands_1 rfl rfl ?_
  refine V_sipush C dX8_commands_4 (by decide) ?_
  refine V_iald C dX8_commands_7 rfl (by omega) (by omega) (by decide) (by repeat' (first | with_reducible assumption | refine zup_rng ?_ (by first | omega | exact hg _) | refine zcp_rng ?_ ?_)) (fun r_7 => ?_)
  refine V_if_eq (tgt := 17) C dX8_commands_8 (by decide) (by omega) (fun c_8 => ?_) (fun c_8 => ?_)
  · skip
    refine V_midz (pc2 := 37) (cmI g) ?_ (fun kk_17 => ?_)
    · skip
      refine V_istore_n C dX8_commands_37 (by decide) rfl ?_
      refine V_iload_n C dX8_commands_38 rfl ?_
      refine V_i2l C dX8_commands_39 (by omega) ?_
      refine V_ldc2 (z := 49) C wk_X8_169 rfl dX8_commands_40 ?_
      refine V_ldc2 (z := 57) C wk_X8_68 rfl dX8_commands_43 ?_
      refine V_callS C lk_X8_58 (m_X8_in G (by omega) (by omega) (by omega)) dX8_commands_46 rfl rfl (by decide) (Nat.le_of_ble_eq_true rfl) (kO ?_)
      refine V_if_neB (tgt := 67) C dX8_commands_49 (by decide) (fun c_49 => ?_) (fun c_49 => ?_)
      · skip
        refine V_aload_n C dX8_commands_67 rfl ?_
        refine vg_X8_7 C dX8_commands_68 rfl rfl ?_
        refine V_iload_n C dX8_commands_71 rfl ?_
        refine V_bipush C dX8_commands_72 (by decide) ?_
        refine V_aload_n C dX8_commands_74 rfl ?_
        refine vg_X8_7 C dX8_commands_75 rfl rfl ?_
        refine V_iload_n C dX8_commands_78 rfl ?_
        refine V_iald C dX8_commands_79 rfl (by omega) (by omega) (by decide) (by repeat' (first | with_reducible assumption | refine zup_rng ?_ (by first | omega | exact hg _) | refine zcp_rng ?_ ?_)) (fun r_79 => ?_)
        refine V_imul C dX8_commands_80 ?_
        refine V_iload_n C dX8_commands_81 rfl ?_
        refine V_iadd C dX8_commands_82 ?_
        refine V_bipush C dX8_commands_83 (by decide) ?_
        refine V_isub C dX8_commands_85 ?_
        refine V_bipush C dX8_commands_86 (by decide) ?_
        refine V_callS C lk_X8_94 (m_X8_lesser G (by omega) (by omega)) dX8_commands_88 rfl rfl (by decide) (Nat.le_of_ble_eq_true rfl) (kO ?_)
        refine V_iast C dX8_commands_91 rfl (by omega) (by omega) (by decide) ?_
        refine V_iconst C dX8_commands_92 ?_
        exact V_iret C R dX8_commands_93 (by unfold cmM; dsimp only [sU, sG, sH]; rw [if_neg (by omega), if_pos (by omega)]; exact ⟨rfl, rfl⟩)
      · skip
        refine V_iload_n C dX8_commands_52 rfl ?_
        refine V_bipush C dX8_commands_53 (by decide) ?_
        refine V_icmp_ne (tgt := 94) C dX8_commands_55 (by decide) (by omega) (by omega) (fun c_55 => ?_) (fun c_55 => ?_)
        · skip
          refine V_aload_n C dX8_commands_94 rfl ?_
          refine V_iload_n C dX8_commands_95 rfl ?_
          refine V_callV C lk_X8_171 (m_X8_motionOf G hg (by omega)) dX8_commands_96 rfl rfl rfl rfl (by decide) (Nat.le_of_ble_eq_true rfl) (kO ?_)
          refine V_istore_n C dX8_commands_99 (by decide) rfl ?_
          refine V_iload_n C dX8_commands_100 rfl ?_
          refine V_bipush C dX8_commands_101 (by decide) ?_
          refine V_icmp_eq (tgt := 112) C dX8_commands_103 (by decide) (by omega) (by omega) (fun c_103 => ?_) (fun c_103 => ?_)
          · skip
            refine V_iload_n C dX8_commands_112 rfl ?_
            refine V_bipush C dX8_commands_113 (by decide) ?_
            refine V_icmp_eq (tgt := 130) C dX8_commands_115 (by decide) (by omega) (by omega) (fun c_115 => ?_) (fun c_115 => ?_)
            · skip
              refine V_aload_n C dX8_commands_130 rfl ?_
              refine V_iload_n C dX8_commands_131 rfl ?_
              refine V_callV C lk_X8_163 (m_X8_waits G hg (by omega)) dX8_commands_132 rfl rfl rfl rfl (by decide) (Nat.le_of_ble_eq_true rfl) (kO ?_)
              exact V_iret C R dX8_commands_135 (by unfold cmM; dsimp only [sU, sG, sH]; rw [if_neg (by omega), if_neg (by omega), if_neg (by omega), if_pos (by omega)]; exact ⟨rfl, rfl⟩)
            · skip
              refine V_iload_n C dX8_commands_118 rfl ?_
              refine V_bipush C dX8_commands_119 (by decide) ?_
              refine V_icmp_eq (tgt := 130) C dX8_commands_121 (by decide) (by omega) (by omega) (fun c_121 => ?_) (fun c_121 => ?_)
              · skip
                refine V_aload_n C dX8_commands_130 rfl ?_
                refine V_iload_n C dX8_commands_131 rfl ?_
                refine V_callV C lk_X8_163 (m_X8_waits G hg (by omega)) dX8_commands_132 rfl rfl rfl rfl (by decide) (Nat.le_of_ble_eq_true rfl) (kO ?_)
                exact V_iret C R dX8_commands_135 (by unfold cmM; dsimp only [sU, sG, sH]; rw [if_neg (by omega), if_neg (by omega), if_neg (by omega), if_pos (by omega)]; exact ⟨rfl, rfl⟩)
              · skip
                refine V_iload_n C dX8_commands_124 rfl ?_
                refine V_bipush C dX8_commands_125 (by decide) ?_
                refine V_icmp_ne (tgt := 136) C dX8_commands_127 (by decide) (by omega) (by omega) (fun c_127 => ?_) (fun c_127 => ?_)
                · skip
                  refine V_aload_n C dX8_commands_136 rfl ?_
                  refine vg_X8_7 C dX8_commands_137 rfl rfl ?_
                  refine V_sipush C dX8_commands_140 (by decide) ?_
                  refine V_iald C dX8_commands_143 rfl (by omega) (by omega) (by decide) (by repeat' (first | with_reducible assumption | refine zup_rng ?_ (by first | omega | exact hg _) | refine zcp_rng ?_ ?_)) (fun r_143 => ?_)
                  refine V_if_ne (tgt := 153) C dX8_commands_144 (by decide) (by omega) (fun c_144 => ?_) (fun c_144 => ?_)
                  · skip
                    refine V_iload_n C dX8_commands_153 rfl ?_
                    refine V_aload_n C dX8_commands_154 rfl ?_
                    refine vg_X8_7 C dX8_commands_155 rfl rfl ?_
                    refine V_sipush C dX8_commands_158 (by decide) ?_
                    refine V_iald C dX8_commands_161 rfl (by omega) (by omega) (by decide) (by repeat' (first | with_reducible assumption | refine zup_rng ?_ (by first | omega | exact hg _) | refine zcp_rng ?_ ?_)) (fun r_161 => ?_)
                    refine V_icmp_ne (tgt := 177) C dX8_commands_162 (by decide) (by omega) (by omega) (fun c_162 => ?_) (fun c_162 => ?_)
                    · skip
                      refine V_iload_n C dX8_commands_177 rfl ?_
                      refine V_bipush C dX8_commands_178 (by decide) ?_
                      refine V_icmp_eq (tgt := 189) C dX8_commands_180 (by decide) (by omega) (by omega) (fun c_180 => ?_) (fun c_180 => ?_)
                      · skip
                        refine V_aload_n C dX8_commands_189 rfl ?_
                        refine V_iload_n C dX8_commands_190 rfl ?_
                        refine V_callV C lk_X8_163 (m_X8_waits G hg (by omega)) dX8_commands_191 rfl rfl rfl rfl (by decide) (Nat.le_of_ble_eq_true rfl) (kO ?_)
                        refine V_goto (tgt := 199) C dX8_commands_194 (by decide) ?_
                        exact V_iret C R dX8_commands_199 (by unfold cmM; dsimp only [sU, sG, sH]; rw [if_neg (by omega), if_neg (by omega), if_neg (by omega), if_neg (by omega), if_neg (by omega), if_neg (by omega)]; first | (rw [if_pos (by omega)]; exact ⟨rfl, rfl⟩) | (rw [if_neg (by omega)]; exact ⟨rfl, rfl⟩))
                      · skip
                        refine V_iload_n C dX8_commands_183 rfl ?_
                        refine V_bipush C dX8_commands_184 (by decide) ?_
                        refine V_icmp_ne (tgt := 197) C dX8_commands_186 (by decide) (by omega) (by omega) (fun c_186 => ?_) (fun c_186 => ?_)
                        · skip
                          refine V_bipush C dX8_commands_197 (by decide) ?_
                          exact V_iret C R dX8_commands_199 (by unfold cmM; dsimp only [sU, sG, sH]; rw [if_neg (by omega), if_neg (by omega), if_neg (by omega), if_neg (by omega), if_neg (by omega), if_neg (by omega)]; first | (rw [if_pos (by omega)]; exact ⟨rfl, rfl⟩) | (rw [if_neg (by omega)]; exact ⟨rfl, rfl⟩))
                        · skip
                          refine V_aload_n C dX8_commands_189 rfl ?_
                          refine V_iload_n C dX8_commands_190 rfl ?_
                          refine V_callV C lk_X8_163 (m_X8_waits G hg (by omega)) dX8_commands_191 rfl rfl rfl rfl (by decide) (Nat.le_of_ble_eq_true rfl) (kO ?_)
                          refine V_goto (tgt := 199) C dX8_commands_194 (by decide) ?_
                          exact V_iret C R dX8_commands_199 (by unfold cmM; dsimp only [sU, sG, sH]; rw [if_neg (by omega), if_neg (by omega), if_neg (by omega), if_neg (by omega), if_neg (by omega), if_neg (by omega)]; first | (rw [if_pos (by omega)]; exact ⟨rfl, rfl⟩) | (rw [if_neg (by omega)]; exact ⟨rfl, rfl⟩))
                    · skip
                      refine V_aload_n C dX8_commands_165 rfl ?_
                      refine V_iconst C dX8_commands_166 ?_
                      refine V_aload_n C dX8_commands_167 rfl ?_
                      refine vg_X8_7 C dX8_commands_168 rfl rfl ?_
                      refine V_iconst C dX8_commands_171 ?_
                      refine V_iald C dX8_commands_172 rfl (by omega) (by omega) (by decide) (by repeat' (first | with_reducible assumption | refine zup_rng ?_ (by first | omega | exact hg _) | refine zcp_rng ?_ ?_)) (fun r_172 => ?_)
                      refine V_callV C lk_X8_113 (m_X8_ranged G hg hL hah hun (by omega)) dX8_commands_173 rfl rfl rfl rfl (by decide) (Nat.le_of_ble_eq_true rfl) (kO ?_)
                      exact V_iret C R dX8_commands_176 (by unfold cmM; dsimp only [sU, sG, sH]; rw [if_neg (by omega), if_neg (by omega), if_neg (by omega), if_neg (by omega), if_neg (by omega), if_pos (by omega)]; exact ⟨rfl, rfl⟩)
                  · skip
                    refine V_aload_n C dX8_commands_147 rfl ?_
                    refine V_iload_n C dX8_commands_148 rfl ?_
                    refine V_callV C lk_X8_177 (m_X8_deed G hg hL hah hun hc h1 h2 hs hx) dX8_commands_149 rfl rfl rfl rfl (by decide) (Nat.le_of_ble_eq_true rfl) (kO ?_)
                    exact V_iret C R dX8_commands_152 (by unfold cmM; dsimp only [sU, sG, sH]; rw [if_neg (by omega), if_neg (by omega), if_neg (by omega), if_neg (by omega), if_pos (by omega)]; exact ⟨rfl, rfl⟩)
                · skip
                  refine V_aload_n C dX8_commands_130 rfl ?_
                  refine V_iload_n C dX8_commands_131 rfl ?_
                  refine V_callV C lk_X8_163 (m_X8_waits G hg (by omega)) dX8_commands_132 rfl rfl rfl rfl (by decide) (Nat.le_of_ble_eq_true rfl) (kO ?_)
                  exact V_iret C R dX8_commands_135 (by unfold cmM; dsimp only [sU, sG, sH]; rw [if_neg (by omega), if_neg (by omega), if_neg (by omega), if_pos (by omega)]; exact ⟨rfl, rfl⟩)
          · skip
            refine V_aload_n C dX8_commands_106 rfl ?_
            refine V_iload_n C dX8_commands_107 rfl ?_
            refine V_callV C lk_X8_174 (m_X8_moves G hg hL hah hun (by omega) h1 h2 (by omega)) dX8_commands_108 rfl rfl rfl rfl (by decide) (Nat.le_of_ble_eq_true rfl) (kO ?_)
            exact V_iret C R dX8_commands_111 (by unfold cmM; dsimp only [sU, sG, sH]; rw [if_neg (by omega), if_neg (by omega), if_pos (by omega)]; exact ⟨rfl, rfl⟩)
        · skip
          refine V_aload_n C dX8_commands_58 rfl ?_
          refine vg_X8_7 C dX8_commands_59 rfl rfl ?_
          refine V_iload_n C dX8_commands_62 rfl ?_
          refine V_iald C dX8_commands_63 rfl (by omega) (by omega) (by decide) (by repeat' (first | with_reducible assumption | refine zup_rng ?_ (by first | omega | exact hg _) | refine zcp_rng ?_ ?_)) (fun r_63 => ?_)
          refine V_if_le (tgt := 94) C dX8_commands_64 (by decide) (by omega) (fun c_64 => ?_) (fun c_64 => ?_)
          · skip
            refine V_aload_n C dX8_commands_94 rfl ?_
            refine V_iload_n C dX8_commands_95 rfl ?_
            refine V_callV C lk_X8_171 (m_X8_motionOf G hg (by omega)) dX8_commands_96 rfl rfl rfl rfl (by decide) (Nat.le_of_ble_eq_true rfl) (kO ?_)
            refine V_istore_n C dX8_commands_99 (by decide) rfl ?_
            refine V_iload_n C dX8_commands_100 rfl ?_
            refine V_bipush C dX8_commands_101 (by decide) ?_
            refine V_icmp_eq (tgt := 112) C dX8_commands_103 (by decide) (by omega) (by omega) (fun c_103 => ?_) (fun c_103 => ?_)
            · skip
              refine V_iload_n C dX8_commands_112 rfl ?_
              refine V_bipush C dX8_commands_113 (by decide) ?_
              refine V_icmp_eq (tgt := 130) C dX8_commands_115 (by decide) (by omega) (by omega) (fun c_115 => ?_) (fun c_115 => ?_)
              · skip
                refine V_aload_n C dX8_commands_130 rfl ?_
                refine V_iload_n C dX8_commands_131 rfl ?_
                refine V_callV C lk_X8_163 (m_X8_waits G hg (by omega)) dX8_commands_132 rfl rfl rfl rfl (by decide) (Nat.le_of_ble_eq_true rfl) (kO ?_)
                exact V_iret C R dX8_commands_135 (by unfold cmM; dsimp only [sU, sG, sH]; rw [if_neg (by omega), if_neg (by omega), if_neg (by omega), if_pos (by omega)]; exact ⟨rfl, rfl⟩)
              · skip
                refine V_iload_n C dX8_commands_118 rfl ?_
                refine V_bipush C dX8_commands_119 (by decide) ?_
                refine V_icmp_eq (tgt := 130) C dX8_commands_121 (by decide) (by omega) (by omega) (fun c_121 => ?_) (fun c_121 => ?_)
                · skip
                  refine V_aload_n C dX8_commands_130 rfl ?_
                  refine V_iload_n C dX8_commands_131 rfl ?_
                  refine V_callV C lk_X8_163 (m_X8_waits G hg (by omega)) dX8_commands_132 rfl rfl rfl rfl (by decide) (Nat.le_of_ble_eq_true rfl) (kO ?_)
                  exact V_iret C R dX8_commands_135 (by unfold cmM; dsimp only [sU, sG, sH]; rw [if_neg (by omega), if_neg (by omega), if_neg (by omega), if_pos (by omega)]; exact ⟨rfl, rfl⟩)
                · skip
                  refine V_iload_n C dX8_commands_124 rfl ?_
                  refine V_bipush C dX8_commands_125 (by decide) ?_
                  refine V_icmp_ne (tgt := 136) C dX8_commands_127 (by decide) (by omega) (by omega) (fun c_127 => ?_) (fun c_127 => ?_)
                  · skip
                    refine V_aload_n C dX8_commands_136 rfl ?_
                    refine vg_X8_7 C dX8_commands_137 rfl rfl ?_
                    refine V_sipush C dX8_commands_140 (by decide) ?_
                    refine V_iald C dX8_commands_143 rfl (by omega) (by omega) (by decide) (by repeat' (first | with_reducible assumption | refine zup_rng ?_ (by first | omega | exact hg _) | refine zcp_rng ?_ ?_)) (fun r_143 => ?_)
                    refine V_if_ne (tgt := 153) C dX8_commands_144 (by decide) (by omega) (fun c_144 => ?_) (fun c_144 => ?_)
                    · skip
                      refine V_iload_n C dX8_commands_153 rfl ?_
                      refine V_aload_n C dX8_commands_154 rfl ?_
                      refine vg_X8_7 C dX8_commands_155 rfl rfl ?_
                      refine V_sipush C dX8_commands_158 (by decide) ?_
                      refine V_iald C dX8_commands_161 rfl (by omega) (by omega) (by decide) (by repeat' (first | with_reducible assumption | refine zup_rng ?_ (by first | omega | exact hg _) | refine zcp_rng ?_ ?_)) (fun r_161 => ?_)
                      refine V_icmp_ne (tgt := 177) C dX8_commands_162 (by decide) (by omega) (by omega) (fun c_162 => ?_) (fun c_162 => ?_)
                      · skip
                        refine V_iload_n C dX8_commands_177 rfl ?_
                        refine V_bipush C dX8_commands_178 (by decide) ?_
                        refine V_icmp_eq (tgt := 189) C dX8_commands_180 (by decide) (by omega) (by omega) (fun c_180 => ?_) (fun c_180 => ?_)
                        · skip
                          refine V_aload_n C dX8_commands_189 rfl ?_
                          refine V_iload_n C dX8_commands_190 rfl ?_
                          refine V_callV C lk_X8_163 (m_X8_waits G hg (by omega)) dX8_commands_191 rfl rfl rfl rfl (by decide) (Nat.le_of_ble_eq_true rfl) (kO ?_)
                          refine V_goto (tgt := 199) C dX8_commands_194 (by decide) ?_
                          exact V_iret C R dX8_commands_199 (by unfold cmM; dsimp only [sU, sG, sH]; rw [if_neg (by omega), if_neg (by omega), if_neg (by omega), if_neg (by omega), if_neg (by omega), if_neg (by omega)]; first | (rw [if_pos (by omega)]; exact ⟨rfl, rfl⟩) | (rw [if_neg (by omega)]; exact ⟨rfl, rfl⟩))
                        · skip
                          refine V_iload_n C dX8_commands_183 rfl ?_
                          refine V_bipush C dX8_commands_184 (by decide) ?_
                          refine V_icmp_ne (tgt := 197) C dX8_commands_186 (by decide) (by omega) (by omega) (fun c_186 => ?_) (fun c_186 => ?_)
                          · skip
                            refine V_bipush C dX8_commands_197 (by decide) ?_
                            exact V_iret C R dX8_commands_199 (by unfold cmM; dsimp only [sU, sG, sH]; rw [if_neg (by omega), if_neg (by omega), if_neg (by omega), if_neg (by omega), if_neg (by omega), if_neg (by omega)]; first | (rw [if_pos (by omega)]; exact ⟨rfl, rfl⟩) | (rw [if_neg (by omega)]; exact ⟨rfl, rfl⟩))
                          · skip
                            refine V_aload_n C dX8_commands_189 rfl ?_
                            refine V_iload_n C dX8_commands_190 rfl ?_
                            refine V_callV C lk_X8_163 (m_X8_waits G hg (by omega)) dX8_commands_191 rfl rfl rfl rfl (by decide) (Nat.le_of_ble_eq_true rfl) (kO ?_)
                            refine V_goto (tgt := 199) C dX8_commands_194 (by decide) ?_
                            exact V_iret C R dX8_commands_199 (by unfold cmM; dsimp only [sU, sG, sH]; rw [if_neg (by omega), if_neg (by omega), if_neg (by omega), if_neg (by omega), if_neg (by omega), if_neg (by omega)]; first | (rw [if_pos (by omega)]; exact ⟨rfl, rfl⟩) | (rw [if_neg (by omega)]; exact ⟨rfl, rfl⟩))
                      · skip
                        refine V_aload_n C dX8_commands_165 rfl ?_
                        refine V_iconst C dX8_commands_166 ?_
                        refine V_aload_n C dX8_commands_167 rfl ?_
                        refine vg_X8_7 C dX8_commands_168 rfl rfl ?_
                        refine V_iconst C dX8_commands_171 ?_
                        refine V_iald C dX8_commands_172 rfl (by omega) (by omega) (by decide) (by repeat' (first | with_reducible assumption | refine zup_rng ?_ (by first | omega | exact hg _) | refine zcp_rng ?_ ?_)) (fun r_172 => ?_)
                        refine V_callV C lk_X8_113 (m_X8_ranged G hg hL hah hun (by omega)) dX8_commands_173 rfl rfl rfl rfl (by decide) (Nat.le_of_ble_eq_true rfl) (kO ?_)
                        exact V_iret C R dX8_commands_176 (by unfold cmM; dsimp only [sU, sG, sH]; rw [if_neg (by omega), if_neg (by omega), if_neg (by omega), if_neg (by omega), if_neg (by omega), if_pos (by omega)]; exact ⟨rfl, rfl⟩)
                    · skip
                      refine V_aload_n C dX8_commands_147 rfl ?_
                      refine V_iload_n C dX8_commands_148 rfl ?_
                      refine V_callV C lk_X8_177 (m_X8_deed G hg hL hah hun hc h1 h2 hs hx) dX8_commands_149 rfl rfl rfl rfl (by decide) (Nat.le_of_ble_eq_true rfl) (kO ?_)
                      exact V_iret C R dX8_commands_152 (by unfold cmM; dsimp only [sU, sG, sH]; rw [if_neg (by omega), if_neg (by omega), if_neg (by omega), if_neg (by omega), if_pos (by omega)]; exact ⟨rfl, rfl⟩)
                  · skip
                    refine V_aload_n C dX8_commands_130 rfl ?_
                    refine V_iload_n C dX8_commands_131 rfl ?_
                    refine V_callV C lk_X8_163 (m_X8_waits G hg (by omega)) dX8_commands_132 rfl rfl rfl rfl (by decide) (Nat.le_of_ble_eq_true rfl) (kO ?_)
                    exact V_iret C R dX8_commands_135 (by unfold cmM; dsimp only [sU, sG, sH]; rw [if_neg (by omega), if_neg (by omega), if_neg (by omega), if_pos (by omega)]; exact ⟨rfl, rfl⟩)
            · skip
              refine V_aload_n C dX8_commands_106 rfl ?_
              refine V_iload_n C dX8_commands_107 rfl ?_
              refine V_callV C lk_X8_174 (m_X8_moves G hg hL hah hun (by omega) h1 h2 (by omega)) dX8_commands_108 rfl rfl rfl rfl (by decide) (Nat.le_of_ble_eq_true rfl) (kO ?_)
              exact V_iret C R dX8_commands_111 (by unfold cmM; dsimp only [sU, sG, sH]; rw [if_neg (by omega), if_neg (by omega), if_pos (by omega)]; exact ⟨rfl, rfl⟩)
          · skip
            refine V_aload_n C dX8_commands_67 rfl ?_
            refine vg_X8_7 C dX8_commands_68 rfl rfl ?_
            refine V_iload_n C dX8_commands_71 rfl ?_
            refine V_bipush C dX8_commands_72 (by decide) ?_
            refine V_aload_n C dX8_commands_74 rfl ?_
            refine vg_X8_7 C dX8_commands_75 rfl rfl ?_
            refine V_iload_n C dX8_commands_78 rfl ?_
            refine V_iald C dX8_commands_79 rfl (by omega) (by omega) (by decide) (by repeat' (first | with_reducible assumption | refine zup_rng ?_ (by first | omega | exact hg _) | refine zcp_rng ?_ ?_)) (fun r_79 => ?_)
            refine V_imul C dX8_commands_80 ?_
            refine V_iload_n C dX8_commands_81 rfl ?_
            refine V_iadd C dX8_commands_82 ?_
            refine V_bipush C dX8_commands_83 (by decide) ?_
            refine V_isub C dX8_commands_85 ?_
            refine V_bipush C dX8_commands_86 (by decide) ?_
            refine V_callS C lk_X8_94 (m_X8_lesser G (by omega) (by omega)) dX8_commands_88 rfl rfl (by decide) (Nat.le_of_ble_eq_true rfl) (kO ?_)
            refine V_iast C dX8_commands_91 rfl (by omega) (by omega) (by decide) ?_
            refine V_iconst C dX8_commands_92 ?_
            exact V_iret C R dX8_commands_93 (by unfold cmM; dsimp only [sU, sG, sH]; rw [if_neg (by omega), if_pos (by omega)]; exact ⟨rfl, rfl⟩)
    · skip
      refine V_aload_n C dX8_commands_17 rfl ?_
      refine vg_X8_7 C dX8_commands_18 rfl rfl ?_
      refine V_sipush C dX8_commands_21 (by decide) ?_
      refine V_iald C dX8_commands_24 rfl (by omega) (by omega) (by decide) (by repeat' (first | with_reducible assumption | refine zup_rng ?_ (by first | omega | exact hg _) | refine zcp_rng ?_ ?_)) (fun r_24 => ?_)
      refine V_if_ne (tgt := 34) C dX8_commands_25 (by decide) (by omega) (fun c_25 => ?_) (fun c_25 => ?_)
      · skip
        refine V_sipush C dX8_commands_34 (by decide) ?_
        exact kk_17 _ (by unfold cmI; first | rw [if_pos (by assumption)] | rw [if_neg (by assumption)])
      · skip
        refine V_sipush C dX8_commands_28 (by decide) ?_
        refine V_goto (tgt := 37) C dX8_commands_31 (by decide) ?_
        exact kk_17 _ (by unfold cmI; first | rw [if_pos (by assumption)] | rw [if_neg (by assumption)])
  · skip
    refine V_aload_n C dX8_commands_11 rfl ?_
    refine V_iload_n C dX8_commands_12 rfl ?_
    refine V_callV C lk_X8_166 (m_X8_waited G hg hL hah hun hc h1 h2 hmk hx) dX8_commands_13 rfl rfl rfl rfl (by decide) (Nat.le_of_ble_eq_true rfl) (kO ?_)
    exact V_iret C R dX8_commands_16 (by unfold cmM; dsimp only [sU, sG, sH]; rw [if_pos (by omega)]; exact ⟨rfl, rfl⟩)
