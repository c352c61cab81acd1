theorem rcG_o {g : Int → Int} {x j : Int} (h0 : 0 ≤ g 159) (h : j < 159 ∨ 190 ≤ j) : rcG g x j = g j := by
  unfold rcG rcF
  rw [zup_n (by omega)]
  by_cases c : g 159 < 30
  · rw [if_pos c, zup_n (by omega)]
  · rw [if_neg c]
theorem rcG_rng {g : Int → Int} {x : Int} (hg : ∀ j, rng (g j)) (hx : rng x) (h9 : 0 ≤ g 159 ∧ g 159 ≤ 31) : ∀ j, rng (rcG g x j) := zup_rng (rcF_rng hg hx) (by omega)
theorem rcG_9 {g : Int → Int} {x : Int} : rcG g x 159 = min (g 159 + 1) 31 := zup_s
def edM (t : Int × zM) : Int × zM := (t.1, (sU t.2, edG (sG t.2), sH t.2))
def isG (g : Int → Int) (x : Int) : Int → Int := zup (zup (zup (zcp (rcG g x) (rcG g x) (1 + g 61) (2 + g 61) (g 0 - g 61)) (1 + g 61) x) 0 (g 0 + 1)) 61 (g 61 + 1)
def isM (s : zM) (x : Int) : Int × zM :=
  if x = 33 then edM (0, chM (sU s, zup (zup (rcG (sG s) x) 62 0) 61 (if sG s 61 = 0 then 0 else sG s 61 - 1), sH s))
  else if sG s 0 = 60 then (-3, (sU s, rcG (sG s) x, sH s))
  else (2, (sU s, isG (sG s) x, sH s))
def stG (g : Int → Int) (x : Int) : Int → Int := rcG (if g 159 = 0 then zcp g g 0 194 62 else g) x
def stM (s : zM) (x : Int) : Int × zM :=
  if sG s 62 = 1 then isM s x
  else if (cmM (sU s, stG (sG s) x, sH s) x).1 = 1 ∨ (cmM (sU s, stG (sG s) x, sH s) x).1 = 2 then cmM (sU s, stG (sG s) x, sH s) x
  else edM (cmM (sU s, stG (sG s) x, sH s) x)
theorem stF_o {g : Int → Int} {j : Int} (h : j < 194 ∨ 256 ≤ j) : (if g 159 = 0 then zcp g g 0 194 62 else g) j = g j := by
  split
  · exact zcp_out (by omega)
  · rfl
theorem stG_o {g : Int → Int} {x j : Int} (h0 : 0 ≤ g 159) (h : j < 159 ∨ (190 ≤ j ∧ j < 194) ∨ 256 ≤ j) : stG g x j = g j := by
  unfold stG
  rw [rcG_o (by rw [stF_o (by omega)]; exact h0) (by omega), stF_o (by omega)]
def okM (s : zM) : Prop := (∀ j, rng (sG s j)) ∧ (∀ j, rng (sH s j)) ∧ (0 ≤ sU s ∧ sU s ≤ 8) ∧ (0 ≤ sG s 0 ∧ sG s 0 ≤ 60) ∧ (0 ≤ sG s 61 ∧ sG s 61 ≤ sG s 0) ∧ (sG s 62 ≠ 1 → sG s 61 < sG s 0 ∨ (sG s 61 = 0 ∧ sG s 0 = 0)) ∧ (0 ≤ sG s 191 ∧ sG s 191 ≤ 99) ∧ (0 ≤ sG s 192 ∧ sG s 192 ≤ 99) ∧ (0 ≤ sG s 63 ∧ sG s 63 ≤ 60) ∧ (∀ j, 124 ≤ j → j < 128 → sG s j = -4 ∨ (0 ≤ sG s j ∧ sG s j ≤ 60)) ∧ (0 ≤ sG s 159 ∧ sG s 159 ≤ 31)

set_option maxRecDepth 100000 in
theorem m_X8_inserted (G : zG) {un td ku : Int} {g ah ag tp co wy th kp ka ln sn it mv : Int → Int} {rest : List va_E} (hg : ∀ j, rng (g j))  (hL : 0 ≤ g 0 ∧ g 0 ≤ 60) (hah : ∀ j, rng (ah j)) (hun : 0 ≤ un ∧ un ≤ 8) (hc : 0 ≤ g 61 ∧ g 61 ≤ g 0) (h9 : 0 ≤ g 159 ∧ g 159 ≤ 31) {y : Int} (hy : 0 ≤ y ∧ y ≤ 255) : zMet G yX8_inserted cX8_inserted 3 (some .int) 2 42 [.ref (G.ad 0), .int (iI y)] (mdL G un td ku g ah ag tp co wy th kp ka ln sn it mv ++ rest) (zO (.int (iI (isM ((un, g, ah) : zM) y).1)) (mdL G (sU ((isM ((un, g, ah) : zM) y).2)) td ku (sG ((isM ((un, g, ah) : zM) y).2)) (sH ((isM ((un, g, ah) : zM) y).2)) ag tp co wy th kp ka ln sn it mv ++ rest)) := by
  refine zMet.of (by decide) (Nat.le_of_ble_eq_true rfl) ?_
  intro E C R
  have C : zC G E RX8 cX8_inserted 3 2 42 := C
  show V G E 0 [some (.ref (G.ad 0)), some (.int (iI y)), none] [] (mdL G un td ku g ah ag tp co wy th kp ka ln sn it mv ++ rest)
  refine V_aload_n C dX8_inserted_0 rfl ?_
  refine V_iload_n C dX8_inserted_1 rfl ?_
  refine V_callV C lk_X8_180 (m_X8_records G hg (by omega) h9) dX8_inserted_2 rfl rfl rfl rfl (by decide) (Nat.le_of_ble_eq_true rfl) (kO0 ?_)
  have hgr := rcG_rng (x := y) hg (by omega) h9
  have e0 : rcG g y 0 = g 0 := rcG_o h9.1 (by omega)
  have e61 : rcG g y 61 = g 61 := rcG_o h9.1 (by omega)
  refine V_iload_n C dX8_inserted_5 rfl ?_
  refine V_bipush C dX8_inserted_6 (by decide) ?_
  refine V_icmp_ne (tgt := 59) C dX8_inserted_8 (by decide) (by omega) (by omega) (fun c_8 => ?_) (fun c_8 => ?_)
  · skip
    refine V_aload_n C dX8_inserted_59 rfl ?_
    refine vg_X8_7 C dX8_inserted_60 rfl rfl ?_
    refine V_iconst C dX8_inserted_63 ?_
    refine V_iald C dX8_inserted_64 rfl (by omega) (by omega) (by decide) (by repeat' (first | with_reducible assumption | refine zup_rng ?_ (by first | omega | exact hg _) | refine zcp_rng ?_ ?_)) (fun r_64 => ?_)
    refine V_bipush C dX8_inserted_65 (by decide) ?_
    refine V_icmp_ne (tgt := 73) C dX8_inserted_67 (by decide) (by omega) (by omega) (fun c_67 => ?_) (fun c_67 => ?_)
    · skip
      refine V_aload_n C dX8_inserted_73 rfl ?_
      refine vg_X8_7 C dX8_inserted_74 rfl rfl ?_
      refine V_iconst C dX8_inserted_77 ?_
      refine V_iald C dX8_inserted_78 rfl (by omega) (by omega) (by decide) (by repeat' (first | with_reducible assumption | refine zup_rng ?_ (by first | omega | exact hg _) | refine zcp_rng ?_ ?_)) (fun r_78 => ?_)
      refine V_istore_n C dX8_inserted_79 (by decide) rfl ?_
      suffices H_80 : V G E 80 [some (.ref (G.ad 0)), some (.int (iI y)), some (.int (iI (g 0)))] [] (mdL G un td ku (zcp (rcG g y) (rcG g y) (1 + g 0) (2 + g 0) (g 0 - g 0)) ah ag tp co wy th kp ka ln sn it mv ++ rest) by
        rw [Int.sub_self, zcp_0] at H_80
        rw [e0]
        exact H_80
      refine V_loop (α := Int) (fun x => (x + 1).toNat) (fun x => g 61 ≤ x ∧ x ≤ g 0) (fun x => V G E 80 [some (.ref (G.ad 0)), some (.int (iI y)), some (.int (iI x))] [] (mdL G un td ku (zcp (rcG g y) (rcG g y) (1 + x) (2 + x) (g 0 - x)) ah ag tp co wy th kp ka ln sn it mv ++ rest)) ?_ (g 0) ⟨by omega, by omega⟩
      rintro q ⟨g1, g2⟩ ih_80
      have hgz : ∀ j, rng (zcp (rcG g y) (rcG g y) (1 + q) (2 + q) (g 0 - q) j) := zcp_rng hgr hgr
      have e61c : zcp (rcG g y) (rcG g y) (1 + q) (2 + q) (g 0 - q) 61 = g 61 := by rw [zcp_out (by omega), e61]
      have e0c : zcp (rcG g y) (rcG g y) (1 + q) (2 + q) (g 0 - q) 0 = g 0 := by rw [zcp_out (by omega), e0]
      refine V_iload_n C dX8_inserted_80 rfl ?_
      refine V_aload_n C dX8_inserted_81 rfl ?_
      refine vg_X8_7 C dX8_inserted_82 rfl rfl ?_
      refine V_bipush C dX8_inserted_85 (by decide) ?_
      refine V_iald C dX8_inserted_87 rfl (by omega) (by omega) (by decide) (by repeat' (first | with_reducible assumption | refine zup_rng ?_ (by first | omega | exact hg _) | refine zcp_rng ?_ ?_)) (fun r_87 => ?_)
      refine V_icmp_le (tgt := 115) C dX8_inserted_88 (by decide) (by omega) (by omega) (fun c_88 => ?_) (fun c_88 => ?_)
      · skip
        have hq : q = g 61 := by omega
        clear ih_80
        have e0d : zup (zcp (rcG g y) (rcG g y) (1 + q) (2 + q) (g 0 - q)) (1 + (zcp (rcG g y) (rcG g y) (1 + q) (2 + q) (g 0 - q)) 61) y 0 = g 0 := by rw [zup_n (by omega), e0c]
        have e61d : zup (zup (zcp (rcG g y) (rcG g y) (1 + q) (2 + q) (g 0 - q)) (1 + (zcp (rcG g y) (rcG g y) (1 + q) (2 + q) (g 0 - q)) 61) y) 0 (zup (zcp (rcG g y) (rcG g y) (1 + q) (2 + q) (g 0 - q)) (1 + (zcp (rcG g y) (rcG g y) (1 + q) (2 + q) (g 0 - q)) 61) y 0 + 1) 61 = g 61 := by rw [zup_n (by omega), zup_n (by omega), e61c]
        refine V_aload_n C dX8_inserted_115 rfl ?_
        refine vg_X8_7 C dX8_inserted_116 rfl rfl ?_
        refine V_iconst C dX8_inserted_119 ?_
        refine V_aload_n C dX8_inserted_120 rfl ?_
        refine vg_X8_7 C dX8_inserted_121 rfl rfl ?_
        refine V_bipush C dX8_inserted_124 (by decide) ?_
        refine V_iald C dX8_inserted_126 rfl (by omega) (by omega) (by decide) (by repeat' (first | with_reducible assumption | refine zup_rng ?_ (by first | omega | exact hg _) | refine zcp_rng ?_ ?_)) (fun r_126 => ?_)
        refine V_iadd C dX8_inserted_127 ?_
        refine V_iload_n C dX8_inserted_128 rfl ?_
        refine V_iast C dX8_inserted_129 rfl (by omega) (by omega) (by decide) ?_
        refine V_aload_n C dX8_inserted_130 rfl ?_
        refine vg_X8_7 C dX8_inserted_131 rfl rfl ?_
        refine V_iconst C dX8_inserted_134 ?_
        refine V_dup2 C dX8_inserted_135 rfl rfl ?_
        refine V_iald C dX8_inserted_136 rfl (by omega) (by omega) (by decide) (by repeat' (first | with_reducible assumption | refine zup_rng ?_ (by first | omega | exact hg _) | refine zcp_rng ?_ ?_)) (fun r_136 => ?_)
        refine V_iconst C dX8_inserted_137 ?_
        refine V_iadd C dX8_inserted_138 ?_
        refine V_iast C dX8_inserted_139 rfl (by omega) (by omega) (by decide) ?_
        refine V_aload_n C dX8_inserted_140 rfl ?_
        refine vg_X8_7 C dX8_inserted_141 rfl rfl ?_
        refine V_bipush C dX8_inserted_144 (by decide) ?_
        refine V_dup2 C dX8_inserted_146 rfl rfl ?_
        refine V_iald C dX8_inserted_147 rfl (by omega) (by omega) (by decide) (by repeat' (first | with_reducible assumption | refine zup_rng ?_ (by first | omega | exact hg _) | refine zcp_rng ?_ ?_)) (fun r_147 => ?_)
        refine V_iconst C dX8_inserted_148 ?_
        refine V_iadd C dX8_inserted_149 ?_
        refine V_iast C dX8_inserted_150 rfl (by omega) (by omega) (by decide) ?_
        refine V_iconst C dX8_inserted_151 ?_
        exact V_iret C R dX8_inserted_152 (by unfold isM isG; dsimp only [sU, sG, sH]; rw [if_neg (by assumption), if_neg (by omega)]; exact ⟨rfl, by rw [e61d, e0d, e61c, hq] <;> rfl⟩)
      · skip
        refine V_aload_n C dX8_inserted_91 rfl ?_
        refine vg_X8_7 C dX8_inserted_92 rfl rfl ?_
        refine V_iconst C dX8_inserted_95 ?_
        refine V_iload_n C dX8_inserted_96 rfl ?_
        refine V_iadd C dX8_inserted_97 ?_
        refine V_aload_n C dX8_inserted_98 rfl ?_
        refine vg_X8_7 C dX8_inserted_99 rfl rfl ?_
        refine V_iconst C dX8_inserted_102 ?_
        refine V_iload_n C dX8_inserted_103 rfl ?_
        refine V_iadd C dX8_inserted_104 ?_
        refine V_iconst C dX8_inserted_105 ?_
        refine V_isub C dX8_inserted_106 ?_
        refine V_iald C dX8_inserted_107 rfl (by omega) (by omega) (by decide) (by repeat' (first | with_reducible assumption | refine zup_rng ?_ (by first | omega | exact hg _) | refine zcp_rng ?_ ?_)) (fun r_107 => ?_)
        refine V_iast C dX8_inserted_108 rfl (by omega) (by omega) (by decide) ?_
        refine V_iinc C dX8_inserted_109 rfl (by decide) rfl ?_
        refine V_goto (tgt := 80) C dX8_inserted_112 (by decide) ?_
        have H : V G E 80 [some (.ref (G.ad 0)), some (.int (iI y)), some (.int (iI (q + -1)))] [] (mdL G un td ku (zcp (rcG g y) (rcG g y) (1 + (q + -1)) (2 + (q + -1)) (g 0 - (q + -1))) ah ag tp co wy th kp ka ln sn it mv ++ rest) := ih_80 (q + -1) ⟨by omega, by omega⟩ (by omega)
        have e : zup (zcp (rcG g y) (rcG g y) (1 + q) (2 + q) (g 0 - q)) (1 + q) ((zcp (rcG g y) (rcG g y) (1 + q) (2 + q) (g 0 - q)) (1 + q - 1)) = zcp (rcG g y) (rcG g y) (1 + (q + -1)) (2 + (q + -1)) (g 0 - (q + -1)) := by
          rw [zcp_out (by omega)]
          exact zcp_dn (by rw [show 1 + (q + -1) = 1 + q - 1 by omega]) (by omega) (by omega) (by omega) (by omega) (by omega)
        rw [← e] at H
        exact H
    · skip
      refine V_bipush C dX8_inserted_70 (by decide) ?_
      exact V_iret C R dX8_inserted_72 (by unfold isM; dsimp only [sU, sG, sH]; rw [if_neg (by assumption), if_pos (by omega)]; exact ⟨rfl, rfl⟩)
  · skip
    refine V_aload_n C dX8_inserted_11 rfl ?_
    refine vg_X8_7 C dX8_inserted_12 rfl rfl ?_
    refine V_bipush C dX8_inserted_15 (by decide) ?_
    refine V_iconst C dX8_inserted_17 ?_
    refine V_iast C dX8_inserted_18 rfl (by omega) (by omega) (by decide) ?_
    have e61b : zup (rcG g y) 62 0 61 = g 61 := by rw [zup_n (by omega), e61]
    refine V_aload_n C dX8_inserted_19 rfl ?_
    refine vg_X8_7 C dX8_inserted_20 rfl rfl ?_
    refine V_bipush C dX8_inserted_23 (by decide) ?_
    refine V_midz (pc2 := 48) (if g 61 = 0 then 0 else g 61 - 1) ?_ (fun kk_25 => ?_)
    · skip
      have hpz : rng (if g 61 = 0 then 0 else g 61 - 1) := by split <;> omega
      refine V_iast C dX8_inserted_48 rfl (by omega) (by omega) (by decide) ?_
      refine V_aload_n C dX8_inserted_49 rfl ?_
      refine V_callV C lk_X8_110 (m_X8_changes G (zup_rng (zup_rng hgr (by omega)) (by omega)) hah hun) dX8_inserted_50 rfl rfl rfl rfl (by decide) (Nat.le_of_ble_eq_true rfl) (kO0 ?_)
      refine V_aload_n C dX8_inserted_53 rfl ?_
      refine V_callV C lk_X8_184 (m_X8_ends G) dX8_inserted_54 rfl rfl rfl rfl (by decide) (Nat.le_of_ble_eq_true rfl) (kO0 ?_)
      refine V_iconst C dX8_inserted_57 ?_
      exact V_iret C R dX8_inserted_58 (by unfold isM; dsimp only [sU, sG, sH]; rw [if_pos (by assumption)]; exact ⟨rfl, rfl⟩)
    · skip
      refine V_aload_n C dX8_inserted_25 rfl ?_
      refine vg_X8_7 C dX8_inserted_26 rfl rfl ?_
      refine V_bipush C dX8_inserted_29 (by decide) ?_
      refine V_iald C dX8_inserted_31 rfl (by omega) (by omega) (by decide) (by repeat' (first | with_reducible assumption | refine zup_rng ?_ (by first | omega | exact hg _) | refine zcp_rng ?_ ?_)) (fun r_31 => ?_)
      refine V_if_ne (tgt := 39) C dX8_inserted_32 (by decide) (by omega) (fun c_32 => ?_) (fun c_32 => ?_)
      · skip
        refine V_aload_n C dX8_inserted_39 rfl ?_
        refine vg_X8_7 C dX8_inserted_40 rfl rfl ?_
        refine V_bipush C dX8_inserted_43 (by decide) ?_
        refine V_iald C dX8_inserted_45 rfl (by omega) (by omega) (by decide) (by repeat' (first | with_reducible assumption | refine zup_rng ?_ (by first | omega | exact hg _) | refine zcp_rng ?_ ?_)) (fun r_45 => ?_)
        refine V_iconst C dX8_inserted_46 ?_
        refine V_isub C dX8_inserted_47 ?_
        exact kk_25 _ (by first | (exfalso; omega) | (rw [if_pos (by omega)]) | (rw [if_neg (by omega)]; omega))
      · skip
        refine V_iconst C dX8_inserted_35 ?_
        refine V_goto (tgt := 48) C dX8_inserted_36 (by decide) ?_
        exact kk_25 _ (by first | (exfalso; omega) | (rw [if_pos (by omega)]) | (rw [if_neg (by omega)]; omega))

theorem rgM_r {s : zM} {a b : Int} : -4 ≤ (rgM s a b).1 ∧ (rgM s a b).1 ≤ 9 := by
  unfold rgM; split
  · dsimp only; omega
  · split <;> dsimp only <;> omega
theorem gtM_r {s : zM} {a b : Int} : -4 ≤ (gtM s a b).1 ∧ (gtM s a b).1 ≤ 9 := by
  unfold gtM; split
  · dsimp only; omega
  · exact rgM_r
theorem obM_r {s : zM} {a b : Int} : -4 ≤ (obM s a b).1 ∧ (obM s a b).1 ≤ 9 := by
  unfold obM; split
  · split
    · dsimp only; omega
    · exact rgM_r
  · split
    · unfold brM; split
      · dsimp only; omega
      · split <;> exact rgM_r
    · dsimp only; omega
theorem rpM_r {s : zM} {a b : Int} : -4 ≤ (rpM s a b).1 ∧ (rpM s a b).1 ≤ 9 := by unfold rpM; split <;> dsimp only <;> omega
theorem ptM_r {s : zM} {a b : Int} : -4 ≤ (ptM s a b).1 ∧ (ptM s a b).1 ≤ 9 := by unfold ptM; split <;> dsimp only <;> omega
theorem crM_r {s : zM} {a : Int} : -4 ≤ (crM s a).1 ∧ (crM s a).1 ≤ 9 := by unfold crM; split <;> dsimp only <;> omega
theorem tnM_r {s : zM} {a : Int} : -4 ≤ (tnM s a).1 ∧ (tnM s a).1 ≤ 9 := by unfold tnM; split <;> dsimp only <;> omega
theorem isM_r {s : zM} {a : Int} : -4 ≤ (isM s a).1 ∧ (isM s a).1 ≤ 9 := by
  unfold isM; split
  · unfold edM; dsimp only; omega
  · split <;> dsimp only <;> omega
theorem waM_r {s : zM} {x : Int} : -4 ≤ (waM s x).1 ∧ (waM s x).1 ≤ 9 := by
  unfold waM
  repeat' split
  all_goals first | exact gtM_r | exact rpM_r | exact obM_r | (dsimp only; omega)
theorem b2_r {P : Prop} [Decidable P] : -4 ≤ (if P then (-2 : Int) else 0) ∧ (if P then (-2 : Int) else 0) ≤ 9 := by split <;> omega
theorem b9_r {P : Prop} [Decidable P] : -4 ≤ (if P then (9 : Int) else -2) ∧ (if P then (9 : Int) else -2) ≤ 9 := by split <;> omega
theorem deM_r {s : zM} {x : Int} : -4 ≤ (deM s x).1 ∧ (deM s x).1 ≤ 9 := by
  unfold deM
  by_cases h : x = 100 ∨ x = 121 ∨ x = 99
  · rw [if_pos h]; dsimp only; omega
  rw [if_neg h]; clear h
  by_cases h : x = 120
  · rw [if_pos h]; exact crM_r
  rw [if_neg h]; clear h
  by_cases h : x = 126
  · rw [if_pos h]; exact tnM_r
  rw [if_neg h]; clear h
  by_cases h : x = 112
  · rw [if_pos h]; exact ptM_r
  rw [if_neg h]; clear h
  by_cases h : x = 80
  · rw [if_pos h]; exact ptM_r
  rw [if_neg h]; clear h
  by_cases h : x = 105
  · rw [if_pos h]; dsimp only; omega
  rw [if_neg h]; clear h
  by_cases h : x = 97
  · rw [if_pos h]; dsimp only; omega
  rw [if_neg h]; clear h
  by_cases h : x = 73
  · rw [if_pos h]; dsimp only; omega
  rw [if_neg h]; clear h
  by_cases h : x = 65
  · rw [if_pos h]; dsimp only; omega
  rw [if_neg h]; clear h
  by_cases h : x = 117
  · rw [if_pos h]; show -4 ≤ (if sU s = 0 then (-2 : Int) else 0) ∧ (if sU s = 0 then (-2 : Int) else 0) ≤ 9; exact b2_r
  rw [if_neg h]; clear h
  by_cases h : x = 46
  · rw [if_pos h]; show -4 ≤ (if 1 ≤ sG s 128 ∧ sG s 128 ≤ 30 then (9 : Int) else -2) ∧ (if 1 ≤ sG s 128 ∧ sG s 128 ≤ 30 then (9 : Int) else -2) ≤ 9; exact b9_r
  rw [if_neg h]; clear h
  by_cases h : x = 109 ∨ x = 114
  · rw [if_pos h]; dsimp only; omega
  rw [if_neg h]; clear h
  dsimp only; omega
theorem cmM_r {s : zM} {x : Int} : -4 ≤ (cmM s x).1 ∧ (cmM s x).1 ≤ 9 := by
  unfold cmM
  repeat' split
  all_goals first | exact waM_r | exact gtM_r | exact deM_r | exact rgM_r | (dsimp only; omega)
theorem stM_r {s : zM} {x : Int} : -4 ≤ (stM s x).1 ∧ (stM s x).1 ≤ 9 := by
  unfold stM; split
  · exact isM_r
  · split
    · exact cmM_r
    · exact cmM_r
def kyS (a : Int → Int) (t : Int × zM) : Nat → Int × zM
  | 0 => t
  | k + 1 => if (kyS a t k).1 = -2 then kyS a t k else stM (kyS a t k).2 (a k)
theorem kyS_r {a : Int → Int} {t : Int × zM} (h : -4 ≤ t.1 ∧ t.1 ≤ 9) : ∀ k, -4 ≤ (kyS a t k).1 ∧ (kyS a t k).1 ≤ 9
  | 0 => h
  | k + 1 => by
    unfold kyS; split
    · exact kyS_r h k
    · exact stM_r
theorem kyS_st {a : Int → Int} {t : Int × zM} {i : Nat} (h : (kyS a t i).1 = -2) : ∀ k, kyS a t (i + k) = kyS a t i
  | 0 => rfl
  | k + 1 => by
    have e := kyS_st h k
    show (if (kyS a t (i + k)).1 = -2 then kyS a t (i + k) else stM (kyS a t (i + k)).2 (a ((i + k : Nat) : Int))) = kyS a t i
    rw [e, if_pos h]
def kyM (s : zM) (x : Int) : Int × zM := if (stM s x).1 = 9 then kyS (fun j => sG (stM s x).2 (129 + j)) (stM s x) (sG (stM s x).2 128).toNat else stM s x
def kyR (s : zM) (x : Int) (ag : Int → Int) : Int → Int := if (stM s x).1 = 9 then zcp (sG (stM s x).2) ag 129 0 (sG (stM s x).2 128) else ag

set_option maxRecDepth 100000 in
theorem m_X8_strikes (G : zG) {un td ku : Int} {g ah ag tp co wy th kp ka ln sn it mv : Int → Int} {rest : List va_E}  (ho : okM ((un, g, ah) : zM)) {y : Int} (hy : 0 ≤ y ∧ y ≤ 255) : zMet G yX8_strikes cX8_strikes 3 (some .int) 7 159 [.ref (G.ad 0), .int (iI y)] (mdL G un td ku g ah ag tp co wy th kp ka ln sn it mv ++ rest) (zO (.int (iI (stM ((un, g, ah) : zM) y).1)) (mdL G (sU ((stM ((un, g, ah) : zM) y).2)) td ku (sG ((stM ((un, g, ah) : zM) y).2)) (sH ((stM ((un, g, ah) : zM) y).2)) ag tp co wy th kp ka ln sn it mv ++ rest)) := by
  refine zMet.of (by decide) (Nat.le_of_ble_eq_true rfl) ?_
  intro E C R
  have C : zC G E RX8 cX8_strikes 3 7 159 := C
  show V G E 0 [some (.ref (G.ad 0)), some (.int (iI y)), none] [] (mdL G un td ku g ah ag tp co wy th kp ka ln sn it mv ++ rest)
  obtain ⟨hg, hah, hun, hL, hc, hc2, h1, h2, hs, hmk, h9⟩ : (∀ j, rng (g j)) ∧ (∀ j, rng (ah j)) ∧ (0 ≤ un ∧ un ≤ 8) ∧ (0 ≤ g 0 ∧ g 0 ≤ 60) ∧ (0 ≤ g 61 ∧ g 61 ≤ g 0) ∧ (g 62 ≠ 1 → g 61 < g 0 ∨ (g 61 = 0 ∧ g 0 = 0)) ∧ (0 ≤ g 191 ∧ g 191 ≤ 99) ∧ (0 ≤ g 192 ∧ g 192 ≤ 99) ∧ (0 ≤ g 63 ∧ g 63 ≤ 60) ∧ (∀ j, 124 ≤ j → j < 128 → g j = -4 ∨ (0 ≤ g j ∧ g j ≤ 60)) ∧ (0 ≤ g 159 ∧ g 159 ≤ 31) := ho
  refine V_aload_n C dX8_strikes_0 rfl ?_
  refine vg_X8_7 C dX8_strikes_1 rfl rfl ?_
  refine V_bipush C dX8_strikes_4 (by decide) ?_
  refine V_iald C dX8_strikes_6 rfl (by omega) (by omega) (by decide) (by repeat' (first | with_reducible assumption | refine zup_rng ?_ (by first | omega | exact hg _) | refine zcp_rng ?_ ?_)) (fun r_6 => ?_)
  refine V_iconst C dX8_strikes_7 ?_
  refine V_icmp_ne (tgt := 17) C dX8_strikes_8 (by decide) (by omega) (by omega) (fun c_8 => ?_) (fun c_8 => ?_)
  · skip
    suffices J_58 : V G E 58 [some (.ref (G.ad 0)), some (.int (iI y)), none] [] (mdL G un td ku ((if g 159 = 0 then zcp g g 0 194 62 else g)) ah ag tp co wy th kp ka ln sn it mv ++ rest) by
      refine V_aload_n C dX8_strikes_17 rfl ?_
      refine vg_X8_7 C dX8_strikes_18 rfl rfl ?_
      refine V_sipush C dX8_strikes_21 (by decide) ?_
      refine V_iald C dX8_strikes_24 rfl (by omega) (by omega) (by decide) (by repeat' (first | with_reducible assumption | refine zup_rng ?_ (by first | omega | exact hg _) | refine zcp_rng ?_ ?_)) (fun r_24 => ?_)
      refine V_if_ne (tgt := 58) C dX8_strikes_25 (by decide) (by omega) (fun c_25 => ?_) (fun c_25 => ?_)
      · skip
        first
        | (rw [show (if g 159 = 0 then zcp g g 0 194 62 else g) = g from if_neg (by omega)] at J_58; exact J_58)
        | (rw [show (if g 159 = 0 then zcp g g 0 194 62 else g) = zcp g g 0 194 62 from if_pos (by omega)] at J_58; have hq62 : q = 62 := by omega
           subst hq62; refine V_drop 2 ?_; exact J_58)
      · skip
        refine V_iconst C dX8_strikes_28 ?_
        refine V_istore_n C dX8_strikes_29 (by decide) rfl ?_
        suffices H_30 : V G E 30 [some (.ref (G.ad 0)), some (.int (iI y)), some (.int (iI (0)))] [] (mdL G un td ku (zcp (g) (g) (0) (194) ((0) - (0))) ah ag tp co wy th kp ka ln sn it mv ++ rest) by
          rw [show zcp (g) (g) (0) (194) (0 - (0)) = g from by rw [Int.sub_self]; exact zcp_0] at H_30
          exact H_30
        refine V_loop (α := Int) (fun x => (100000 - x).toNat) (fun x => 0 ≤ x ∧ x ≤ 62) (fun x => V G E 30 [some (.ref (G.ad 0)), some (.int (iI y)), some (.int (iI x))] [] (mdL G un td ku (zcp (g) (g) (0) (194) (x - (0))) ah ag tp co wy th kp ka ln sn it mv ++ rest)) ?_ (0) ⟨by omega, by omega⟩
        rintro q ⟨g1, g2⟩ ih_30
        refine V_iload_n C dX8_strikes_30 rfl ?_
        refine V_bipush C dX8_strikes_31 (by decide) ?_
        refine V_icmp_ge (tgt := 58) C dX8_strikes_33 (by decide) (by omega) (by omega) (fun c_33 => ?_) (fun c_33 => ?_)
        · skip
          first
          | (rw [show (if g 159 = 0 then zcp g g 0 194 62 else g) = g from if_neg (by omega)] at J_58; exact J_58)
          | (rw [show (if g 159 = 0 then zcp g g 0 194 62 else g) = zcp g g 0 194 62 from if_pos (by omega)] at J_58; have hq62 : q = 62 := by omega
             subst hq62; refine V_drop 2 ?_; exact J_58)
        · skip
          refine V_aload_n C dX8_strikes_36 rfl ?_
          refine vg_X8_7 C dX8_strikes_37 rfl rfl ?_
          refine V_sipush C dX8_strikes_40 (by decide) ?_
          refine V_iload_n C dX8_strikes_43 rfl ?_
          refine V_iadd C dX8_strikes_44 ?_
          refine V_aload_n C dX8_strikes_45 rfl ?_
          refine vg_X8_7 C dX8_strikes_46 rfl rfl ?_
          refine V_iload_n C dX8_strikes_49 rfl ?_
          refine V_iald C dX8_strikes_50 rfl (by omega) (by omega) (by decide) (by repeat' (first | with_reducible assumption | refine zup_rng ?_ (by first | omega | exact hg _) | refine zcp_rng ?_ ?_)) (fun r_50 => ?_)
          refine V_iast C dX8_strikes_51 rfl (by omega) (by omega) (by decide) ?_
          refine V_iinc C dX8_strikes_52 rfl (by decide) rfl ?_
          refine V_goto (tgt := 30) C dX8_strikes_55 (by decide) ?_
          have e_30 : zup (zcp (g) (g) (0) (194) (q - (0))) (194 + q) (zcp g g 0 194 (q - 0) q) = zcp (g) (g) (0) (194) (q + 1 - (0)) := zcp_st (by rw [zcp_out (by omega), Int.sub_zero, Int.zero_add]) (by omega) (by omega) (by omega)
          have H : V G E 30 [some (.ref (G.ad 0)), some (.int (iI y)), some (.int (iI (q + 1)))] [] (mdL G un td ku (zcp (g) (g) (0) (194) ((q + 1) - (0))) ah ag tp co wy th kp ka ln sn it mv ++ rest) := ih_30 (q + 1) ⟨by omega, by omega⟩ (by omega)
          rw [← e_30] at H
          exact H
    have hgF : ∀ j, rng ((if g 159 = 0 then zcp g g 0 194 62 else g) j) := ite_rng (zcp_rng hg hg) hg
    have eF9 : (if g 159 = 0 then zcp g g 0 194 62 else g) 159 = g 159 := stF_o (by omega)
    refine V_aload_n C dX8_strikes_58 rfl ?_
    refine V_iload_n C dX8_strikes_59 rfl ?_
    refine V_callV C lk_X8_180 (m_X8_records G hgF (by omega) (by omega)) dX8_strikes_60 rfl rfl rfl rfl (by decide) (Nat.le_of_ble_eq_true rfl) (kO0 ?_)
    show V G E 63 [some (.ref (G.ad 0)), some (.int (iI y)), none] [] (mdL G un td ku (stG g y) ah ag tp co wy th kp ka ln sn it mv ++ rest)
    have hgS : ∀ j, rng (stG g y j) := rcG_rng hgF (by omega) (by omega)
    have eS0 : stG g y 0 = g 0 := stG_o h9.1 (by omega)
    have eS61 : stG g y 61 = g 61 := stG_o h9.1 (by omega)
    have eS63 : stG g y 63 = g 63 := stG_o h9.1 (by omega)
    have eS191 : stG g y 191 = g 191 := stG_o h9.1 (by omega)
    have eS192 : stG g y 192 = g 192 := stG_o h9.1 (by omega)
    have hmkS : ∀ j, 124 ≤ j → j < 128 → stG g y j = -4 ∨ (0 ≤ stG g y j ∧ stG g y j ≤ 60) := fun j q1 q2 => by rw [stG_o h9.1 (by omega)]; exact hmk j q1 q2
    have hr := cmM_r (s := (un, stG g y, ah)) (x := y)
    refine V_aload_n C dX8_strikes_63 rfl ?_
    refine V_iload_n C dX8_strikes_64 rfl ?_
    refine V_callV C lk_X8_190 (m_X8_commands G hgS (by omega) hah hun (by omega) (by omega) (by omega) hmkS (by omega) hy) dX8_strikes_65 rfl rfl rfl rfl (by decide) (Nat.le_of_ble_eq_true rfl) (kO ?_)
    refine V_istore_n C dX8_strikes_68 (by decide) rfl ?_
    refine V_iload_n C dX8_strikes_69 rfl ?_
    refine V_iconst C dX8_strikes_70 ?_
    refine V_icmp_eq (tgt := 83) C dX8_strikes_71 (by decide) (by omega) (by omega) (fun c_71 => ?_) (fun c_71 => ?_)
    · skip
      refine V_iload_n C dX8_strikes_83 rfl ?_
      exact V_iret C R dX8_strikes_84 (by unfold stM; dsimp only [sU, sG, sH]; rw [if_neg (by assumption)]; first | (rw [if_pos (by omega)]; exact ⟨rfl, rfl⟩) | (rw [if_neg (by omega)]; exact ⟨rfl, rfl⟩))
    · skip
      refine V_iload_n C dX8_strikes_74 rfl ?_
      refine V_iconst C dX8_strikes_75 ?_
      refine V_icmp_eq (tgt := 83) C dX8_strikes_76 (by decide) (by omega) (by omega) (fun c_76 => ?_) (fun c_76 => ?_)
      · skip
        refine V_iload_n C dX8_strikes_83 rfl ?_
        exact V_iret C R dX8_strikes_84 (by unfold stM; dsimp only [sU, sG, sH]; rw [if_neg (by assumption)]; first | (rw [if_pos (by omega)]; exact ⟨rfl, rfl⟩) | (rw [if_neg (by omega)]; exact ⟨rfl, rfl⟩))
      · skip
        refine V_aload_n C dX8_strikes_79 rfl ?_
        refine V_callV C lk_X8_184 (m_X8_ends G) dX8_strikes_80 rfl rfl rfl rfl (by decide) (Nat.le_of_ble_eq_true rfl) (kO0 ?_)
        refine V_iload_n C dX8_strikes_83 rfl ?_
        exact V_iret C R dX8_strikes_84 (by unfold stM; dsimp only [sU, sG, sH]; rw [if_neg (by assumption)]; first | (rw [if_pos (by omega)]; exact ⟨rfl, rfl⟩) | (rw [if_neg (by omega)]; exact ⟨rfl, rfl⟩))
  · skip
    refine V_aload_n C dX8_strikes_11 rfl ?_
    refine V_iload_n C dX8_strikes_12 rfl ?_
    refine V_callV C lk_X8_187 (m_X8_inserted G hg hL hah hun hc h9 hy) dX8_strikes_13 rfl rfl rfl rfl (by decide) (Nat.le_of_ble_eq_true rfl) (kO ?_)
    exact V_iret C R dX8_strikes_16 (by unfold stM; dsimp only [sU, sG, sH]; rw [if_pos (by assumption)]; exact ⟨rfl, rfl⟩)
