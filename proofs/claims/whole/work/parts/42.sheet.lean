/-! ===== Sheet ===== -/
abbrev oS (G : zG) (j : Nat) (ln sz : Int) : va_E := .inr (4, [.ref (G.ad j), .int (iI ln), .int (iI sz)])
def isS (G : zG) (cs : List va_E) (i j : Nat) (g : Int → Int) (ln sz : Int) : Prop := cs[i]? = some (oS G j ln sz) ∧ cs[j]? = some (zJ G 24 g) ∧ (∀ k, rngL (g k)) ∧ -1 ≤ ln ∧ ln ≤ 3 ∧ 0 ≤ sz ∧ sz ≤ 24
def toS (G : zG) (cs : List va_E) (i j : Nat) (g : Int → Int) (ln sz : Int) : List va_E := (cs.set i (oS G j ln sz)).set j (zJ G 24 g)
/-- a value, cut to what a lane holds -/
def cutZ (ln v : Int) : Int := if ln = 0 then zby v else if ln = 1 then zsh v else if ln = 2 then z32 v else v
theorem zby_rng (v : Int) : rng (zby v) := iI_rng _
theorem zsh_rng (v : Int) : rng (zsh v) := iI_rng _
theorem z32_rng (v : Int) : rng (z32 v) := iI_rng _
theorem cutZ_rng {ln v : Int} (h : rngL v) : rngL (cutZ ln v) := by
  have a := zby_rng v
  have b := zsh_rng v
  have c := z32_rng v
  unfold cutZ
  split; omega
  split; omega
  split; omega
  exact h
abbrev rchS (sz i n : Int) : Prop := 0 ≤ i ∧ 0 ≤ n ∧ i ≤ sz - n
def fltS (ln sz a i n : Int) : Int := if ln = -1 then -11 else if ln ≠ a then -12 else if rchS sz i n then 0 else -13
theorem fltS_1 {ln sz a i n : Int}  (h1 : ln = -1) : fltS ln sz a i n = -11 := by unfold fltS; rw [if_pos h1]
theorem fltS_2 {ln sz a i n : Int} (h1 : ¬ (ln = -1)) (h2 : ln ≠ a) : fltS ln sz a i n = -12 := by unfold fltS; rw [if_neg h1, if_pos h2]
theorem fltS_3 {ln sz a i n : Int} (h1 : ¬ (ln = -1)) (h2 : ¬ (ln ≠ a)) (h3 : rchS sz i n) : fltS ln sz a i n = 0 := by unfold fltS; rw [if_neg h1, if_neg h2, if_pos h3]
theorem fltS_4 {ln sz a i n : Int} (h1 : ¬ (ln = -1)) (h2 : ¬ (ln ≠ a)) (h3 : ¬ (rchS sz i n)) : fltS ln sz a i n = -13 := by unfold fltS; rw [if_neg h1, if_neg h2, if_neg h3]
section ZS
variable {G : zG} {E : zE} {own : String} {cc : ByteArray} {nL fr lo pc : Nat} {lv : List (Option Value)} {st : List Value} {cs : List va_E}
theorem V_i2lz (C : zC G E own cc nL fr lo) {a : Int} (hd : decode cc pc = .ok (.i2l, 1)) (k : V G E (pc + 1) lv (.long (lI (z32 a)) :: st) cs) : V G E pc lv (.int (iI a) :: st) cs :=
  fun H locs ls hl hP hD hS => lv_i2l C.1 C.2.1 hd (show (iI a).toInt64 = lI (z32 a) by rw [← iI_of (iI a)]; exact iI_l (z32_rng a)) (k H locs ls hl hP hD hS)
end ZS

set_option maxRecDepth 100000 in
theorem m_X4_isNothing (G : zG) {cs : List va_E} {i j : Nat} {g : Int → Int} {ln sz : Int} (T : isS G cs i j g ln sz) : zMet G yX4_isNothing cX4_isNothing 1 (some .boolean) 0 0 [.ref (G.ad i)] cs (zO (.int (iI (b2z (ln = -1)))) cs) := by
  refine zMet.of (by decide) (Nat.le_of_ble_eq_true rfl) ?_
  intro E C R
  have C : zC G E RX4 cX4_isNothing 1 0 0 := C
  show V G E 0 [some (.ref (G.ad i))] [] cs
  obtain ⟨hi, hj, hg, h1, h2, h3, h4⟩ := id T
  have hij := zs_ao hi hj
  have hli := zs_lt hi
  have hlj := zs_lt hj
  refine V_aload_n C dX4_isNothing_0 rfl ?_
  refine vg_X4_15 C dX4_isNothing_1 (by repeat (first | with_reducible assumption | with_reducible exact zs_eq (by first | assumption | (simp only [List.length_set]; assumption)) | refine zs_ne (by first | with_reducible assumption | exact Ne.symm (by with_reducible assumption) | omega) ?_)) rfl ?_
  refine V_iconst C dX4_isNothing_4 ?_
  refine V_icmp_ne (tgt := 12) C dX4_isNothing_5 (by decide) (by omega) (by omega) (fun c_5 => ?_) (fun c_5 => ?_)
  · skip
    refine V_iconst C dX4_isNothing_12 ?_
    exact V_zret C R dX4_isNothing_13 (by first | decide | omega) (zO_i (by first | exact b2z_1 (by omega) | exact b2z_0 (by omega)))
  · skip
    refine V_iconst C dX4_isNothing_8 ?_
    refine V_goto (tgt := 13) C dX4_isNothing_9 (by decide) ?_
    exact V_zret C R dX4_isNothing_13 (by first | decide | omega) (zO_i (by first | exact b2z_1 (by omega) | exact b2z_0 (by omega)))

set_option maxRecDepth 100000 in
theorem m_X4_reaches (G : zG) {cs : List va_E} {i j : Nat} {g : Int → Int} {ln sz : Int} (T : isS G cs i j g ln sz) {p n : Int} (hp : rng p) (hn : rng n) : zMet G yX4_reaches cX4_reaches 3 (some .boolean) 0 0 [.ref (G.ad i), .int (iI p), .int (iI n)] cs (zO (.int (iI (b2z (rchS sz p n)))) cs) := by
  refine zMet.of (by decide) (Nat.le_of_ble_eq_true rfl) ?_
  intro E C R
  have C : zC G E RX4 cX4_reaches 3 0 0 := C
  show V G E 0 [some (.ref (G.ad i)), some (.int (iI p)), some (.int (iI n))] [] cs
  obtain ⟨hi, hj, hg, h1, h2, h3, h4⟩ := id T
  have hij := zs_ao hi hj
  have hli := zs_lt hi
  have hlj := zs_lt hj
  refine V_iload_n C dX4_reaches_0 rfl ?_
  refine V_if_lt (tgt := 22) C dX4_reaches_1 (by decide) (by omega) (fun c_1 => ?_) (fun c_1 => ?_)
  · skip
    refine V_iconst C dX4_reaches_22 ?_
    exact V_zret C R dX4_reaches_23 (by first | decide | omega) (zO_i (by first | exact b2z_1 (by omega) | exact b2z_0 (by omega)))
  · skip
    refine V_iload_n C dX4_reaches_4 rfl ?_
    refine V_if_lt (tgt := 22) C dX4_reaches_5 (by decide) (by omega) (fun c_5 => ?_) (fun c_5 => ?_)
    · skip
      refine V_iconst C dX4_reaches_22 ?_
      exact V_zret C R dX4_reaches_23 (by first | decide | omega) (zO_i (by first | exact b2z_1 (by omega) | exact b2z_0 (by omega)))
    · skip
      refine V_iload_n C dX4_reaches_8 rfl ?_
      refine V_aload_n C dX4_reaches_9 rfl ?_
      refine vg_X4_19 C dX4_reaches_10 (by repeat (first | with_reducible assumption | with_reducible exact zs_eq (by first | assumption | (simp only [List.length_set]; assumption)) | refine zs_ne (by first | with_reducible assumption | exact Ne.symm (by with_reducible assumption) | omega) ?_)) rfl ?_
      refine V_iload_n C dX4_reaches_13 rfl ?_
      refine V_isub C dX4_reaches_14 ?_
      refine V_icmp_gt (tgt := 22) C dX4_reaches_15 (by decide) (by omega) (by omega) (fun c_15 => ?_) (fun c_15 => ?_)
      · skip
        refine V_iconst C dX4_reaches_22 ?_
        exact V_zret C R dX4_reaches_23 (by first | decide | omega) (zO_i (by first | exact b2z_1 (by omega) | exact b2z_0 (by omega)))
      · skip
        refine V_iconst C dX4_reaches_18 ?_
        refine V_goto (tgt := 23) C dX4_reaches_19 (by decide) ?_
        exact V_zret C R dX4_reaches_23 (by first | decide | omega) (zO_i (by first | exact b2z_1 (by omega) | exact b2z_0 (by omega)))

set_option maxRecDepth 100000 in
theorem m_X4_faultAs (G : zG) {cs : List va_E} {i j : Nat} {g : Int → Int} {ln sz : Int} (T : isS G cs i j g ln sz) {a p n : Int} (ha : rng a) (hp : rng p) (hn : rng n) : zMet G yX4_faultAs cX4_faultAs 4 (some .int) 1 22 [.ref (G.ad i), .int (iI a), .int (iI p), .int (iI n)] cs (zO (.int (iI (fltS ln sz a p n))) cs) := by
  refine zMet.of (by decide) (Nat.le_of_ble_eq_true rfl) ?_
  intro E C R
  have C : zC G E RX4 cX4_faultAs 4 1 22 := C
  show V G E 0 [some (.ref (G.ad i)), some (.int (iI a)), some (.int (iI p)), some (.int (iI n))] [] cs
  obtain ⟨hi, hj, hg, h1, h2, h3, h4⟩ := id T
  have hij := zs_ao hi hj
  have hli := zs_lt hi
  have hlj := zs_lt hj
  refine V_aload_n C dX4_faultAs_0 rfl ?_
  refine V_callV C lk_X4_28 (m_X4_isNothing G T) dX4_faultAs_1 rfl rfl (by repeat (first | with_reducible assumption | with_reducible exact zs_eq (by first | assumption | (simp only [List.length_set]; assumption)) | refine zs_ne (by first | with_reducible assumption | exact Ne.symm (by with_reducible assumption) | omega) ?_)) rfl (by decide) (Nat.le_of_ble_eq_true rfl) (kO ?_)
  refine V_if_eqB (tgt := 10) C dX4_faultAs_4 (by decide) (fun c_4 => ?_) (fun c_4 => ?_)
  · skip
    refine V_aload_n C dX4_faultAs_10 rfl ?_
    refine vg_X4_15 C dX4_faultAs_11 (by repeat (first | with_reducible assumption | with_reducible exact zs_eq (by first | assumption | (simp only [List.length_set]; assumption)) | refine zs_ne (by first | with_reducible assumption | exact Ne.symm (by with_reducible assumption) | omega) ?_)) rfl ?_
    refine V_iload_n C dX4_faultAs_14 rfl ?_
    refine V_icmp_eq (tgt := 21) C dX4_faultAs_15 (by decide) (by omega) (by omega) (fun c_15 => ?_) (fun c_15 => ?_)
    · skip
      refine V_aload_n C dX4_faultAs_21 rfl ?_
      refine V_iload_n C dX4_faultAs_22 rfl ?_
      refine V_iload_n C dX4_faultAs_23 rfl ?_
      refine V_callV C lk_X4_32 (m_X4_reaches G T hp hn) dX4_faultAs_24 rfl rfl (by repeat (first | with_reducible assumption | with_reducible exact zs_eq (by first | assumption | (simp only [List.length_set]; assumption)) | refine zs_ne (by first | with_reducible assumption | exact Ne.symm (by with_reducible assumption) | omega) ?_)) rfl (by decide) (Nat.le_of_ble_eq_true rfl) (kO ?_)
      refine V_if_eqB (tgt := 34) C dX4_faultAs_27 (by decide) (fun c_27 => ?_) (fun c_27 => ?_)
      · skip
        refine V_bipush C dX4_faultAs_34 (by decide) ?_
        exact V_iret C R dX4_faultAs_36 (zO_i (by first | rw [fltS_3 (by omega) (by omega) (by omega)] | rw [fltS_4 (by omega) (by omega) (by omega)]))
      · skip
        refine V_iconst C dX4_faultAs_30 ?_
        refine V_goto (tgt := 36) C dX4_faultAs_31 (by decide) ?_
        exact V_iret C R dX4_faultAs_36 (zO_i (by first | rw [fltS_3 (by omega) (by omega) (by omega)] | rw [fltS_4 (by omega) (by omega) (by omega)]))
    · skip
      refine V_bipush C dX4_faultAs_18 (by decide) ?_
      exact V_iret C R dX4_faultAs_20 (zO_i (by rw [fltS_2 (by omega) (by omega)]))
  · skip
    refine V_bipush C dX4_faultAs_7 (by decide) ?_
    exact V_iret C R dX4_faultAs_9 (zO_i (by rw [fltS_1 (by omega)]))

set_option maxRecDepth 100000 in
theorem m_X4_hold (G : zG) {cs : List va_E} {i j : Nat} {g : Int → Int} {ln sz : Int} (T : isS G cs i j g ln sz) {a n : Int} : zMet G yX4_hold cX4_hold 3 none 1 24 [.ref (G.ad i), .int (iI a), .int (iI n)] cs (zO0 (toS G cs i j (ovr g 0 24 0) a n)) := by
  refine zMet.of (by decide) (Nat.le_of_ble_eq_true rfl) ?_
  intro E C R
  have C : zC G E RX4 cX4_hold 3 1 24 := C
  show V G E 0 [some (.ref (G.ad i)), some (.int (iI a)), some (.int (iI n))] [] cs
  obtain ⟨hi, hj, hg, h1, h2, h3, h4⟩ := id T
  have hij := zs_ao hi hj
  have hli := zs_lt hi
  have hlj := zs_lt hj
  refine V_aload_n C dX4_hold_0 rfl ?_
  refine V_iload_n C dX4_hold_1 rfl ?_
  refine vp_X4_15 C dX4_hold_2 (by repeat (first | with_reducible assumption | with_reducible exact zs_eq (by first | assumption | (simp only [List.length_set]; assumption)) | refine zs_ne (by first | with_reducible assumption | exact Ne.symm (by with_reducible assumption) | omega) ?_)) (Nat.le_of_ble_eq_true rfl) ?_
  refine V_aload_n C dX4_hold_5 rfl ?_
  refine V_iload_n C dX4_hold_6 rfl ?_
  refine vp_X4_19 C dX4_hold_7 (by repeat (first | with_reducible assumption | with_reducible exact zs_eq (by first | assumption | (simp only [List.length_set]; assumption)) | refine zs_ne (by first | with_reducible assumption | exact Ne.symm (by with_reducible assumption) | omega) ?_)) (Nat.le_of_ble_eq_true rfl) ?_
  refine V_aload_n C dX4_hold_10 rfl ?_
  refine vg_X4_9 C dX4_hold_11 (by repeat (first | with_reducible assumption | with_reducible exact zs_eq (by first | assumption | (simp only [List.length_set]; assumption)) | refine zs_ne (by first | with_reducible assumption | exact Ne.symm (by with_reducible assumption) | omega) ?_)) rfl ?_
  refine V_lconst (z := 0) C dX4_hold_14 rfl ?_
  refine V_callS C lk_X4_22 (m_fillJ G (i := j) (n := 24) (g := g) (v := 0) (by repeat (first | with_reducible assumption | with_reducible exact zs_eq (by first | assumption | (simp only [List.length_set]; assumption)) | refine zs_ne (by first | with_reducible assumption | exact Ne.symm (by with_reducible assumption) | omega) ?_)) (by decide)) dX4_hold_15 rfl rfl (by decide) (Nat.le_of_ble_eq_true rfl) (kO0 ?_)
  exact V_vret C R dX4_hold_18 ⟨rfl, by unfold toS; rw [List.set_set]; rfl⟩

set_option maxRecDepth 100000 in
theorem m_X4_put (G : zG) {cs : List va_E} {i j : Nat} {g : Int → Int} {ln sz : Int} (T : isS G cs i j g ln sz) {p v : Int} (hp : 0 ≤ p ∧ p < 24) : zMet G yX4_put cX4_put 4 none 0 0 [.ref (G.ad i), .int (iI p), .long (lI v)] cs (zO0 (cs.set j (zJ G 24 (zup g p (cutZ ln v))))) := by
  refine zMet.of (by decide) (Nat.le_of_ble_eq_true rfl) ?_
  intro E C R
  have C : zC G E RX4 cX4_put 4 0 0 := C
  show V G E 0 [some (.ref (G.ad i)), some (.int (iI p)), some (.long (lI v)), none] [] cs
  obtain ⟨hi, hj, hg, h1, h2, h3, h4⟩ := id T
  have hij := zs_ao hi hj
  have hli := zs_lt hi
  have hlj := zs_lt hj
  refine V_aload_n C dX4_put_0 rfl ?_
  refine vg_X4_15 C dX4_put_1 (by repeat (first | with_reducible assumption | with_reducible exact zs_eq (by first | assumption | (simp only [List.length_set]; assumption)) | refine zs_ne (by first | with_reducible assumption | exact Ne.symm (by with_reducible assumption) | omega) ?_)) rfl ?_
  by_cases w_4_0 : ln = 0
  · skip
    refine V_tableIn (tgt := 32) (off := 28) C dX4_put_4 (by omega) (by omega) (by omega) (by rw [w_4_0]; rfl) (by decide) ?_
    refine V_aload_n C dX4_put_32 rfl ?_
    refine vg_X4_9 C dX4_put_33 (by repeat (first | with_reducible assumption | with_reducible exact zs_eq (by first | assumption | (simp only [List.length_set]; assumption)) | refine zs_ne (by first | with_reducible assumption | exact Ne.symm (by with_reducible assumption) | omega) ?_)) rfl ?_
    refine V_iload_n C dX4_put_36 rfl ?_
    refine V_lload_n C dX4_put_37 rfl ?_
    refine V_l2i C dX4_put_38 ?_
    refine V_i2b C dX4_put_39 ?_
    refine V_i2l C dX4_put_40 (zby_rng v) ?_
    refine V_last C dX4_put_41 (by repeat (first | with_reducible assumption | with_reducible exact zs_eq (by first | assumption | (simp only [List.length_set]; assumption)) | refine zs_ne (by first | with_reducible assumption | exact Ne.symm (by with_reducible assumption) | omega) ?_)) (by omega) (by omega) (by decide) ?_
    refine V_goto (tgt := 77) C dX4_put_42 (by decide) ?_
    exact V_vret C R dX4_put_77 ⟨rfl, by unfold cutZ; first | (rw [if_pos (by omega)]; done) | (rw [if_neg (by omega), if_pos (by omega)]; done) | (rw [if_neg (by omega), if_neg (by omega), if_pos (by omega)]; done) | (rw [if_neg (by omega), if_neg (by omega), if_neg (by omega)]; done)⟩
  by_cases w_4_1 : ln = 1
  · skip
    refine V_tableIn (tgt := 45) (off := 41) C dX4_put_4 (by omega) (by omega) (by omega) (by rw [w_4_1]; rfl) (by decide) ?_
    refine V_aload_n C dX4_put_45 rfl ?_
    refine vg_X4_9 C dX4_put_46 (by repeat (first | with_reducible assumption | with_reducible exact zs_eq (by first | assumption | (simp only [List.length_set]; assumption)) | refine zs_ne (by first | with_reducible assumption | exact Ne.symm (by with_reducible assumption) | omega) ?_)) rfl ?_
    refine V_iload_n C dX4_put_49 rfl ?_
    refine V_lload_n C dX4_put_50 rfl ?_
    refine V_l2i C dX4_put_51 ?_
    refine V_i2s C dX4_put_52 ?_
    refine V_i2l C dX4_put_53 (zsh_rng v) ?_
    refine V_last C dX4_put_54 (by repeat (first | with_reducible assumption | with_reducible exact zs_eq (by first | assumption | (simp only [List.length_set]; assumption)) | refine zs_ne (by first | with_reducible assumption | exact Ne.symm (by with_reducible assumption) | omega) ?_)) (by omega) (by omega) (by decide) ?_
    refine V_goto (tgt := 77) C dX4_put_55 (by decide) ?_
    exact V_vret C R dX4_put_77 ⟨rfl, by unfold cutZ; first | (rw [if_pos (by omega)]; done) | (rw [if_neg (by omega), if_pos (by omega)]; done) | (rw [if_neg (by omega), if_neg (by omega), if_pos (by omega)]; done) | (rw [if_neg (by omega), if_neg (by omega), if_neg (by omega)]; done)⟩
  by_cases w_4_2 : ln = 2
  · skip
    refine V_tableIn (tgt := 58) (off := 54) C dX4_put_4 (by omega) (by omega) (by omega) (by rw [w_4_2]; rfl) (by decide) ?_
    refine V_aload_n C dX4_put_58 rfl ?_
    refine vg_X4_9 C dX4_put_59 (by repeat (first | with_reducible assumption | with_reducible exact zs_eq (by first | assumption | (simp only [List.length_set]; assumption)) | refine zs_ne (by first | with_reducible assumption | exact Ne.symm (by with_reducible assumption) | omega) ?_)) rfl ?_
    refine V_iload_n C dX4_put_62 rfl ?_
    refine V_lload_n C dX4_put_63 rfl ?_
    refine V_l2i C dX4_put_64 ?_
    refine V_i2lz C dX4_put_65 ?_
    refine V_last C dX4_put_66 (by repeat (first | with_reducible assumption | with_reducible exact zs_eq (by first | assumption | (simp only [List.length_set]; assumption)) | refine zs_ne (by first | with_reducible assumption | exact Ne.symm (by with_reducible assumption) | omega) ?_)) (by omega) (by omega) (by decide) ?_
    refine V_goto (tgt := 77) C dX4_put_67 (by decide) ?_
    exact V_vret C R dX4_put_77 ⟨rfl, by unfold cutZ; first | (rw [if_pos (by omega)]; done) | (rw [if_neg (by omega), if_pos (by omega)]; done) | (rw [if_neg (by omega), if_neg (by omega), if_pos (by omega)]; done) | (rw [if_neg (by omega), if_neg (by omega), if_neg (by omega)]; done)⟩
  refine V_tableOut (tgt := 70) C dX4_put_4 (by omega) (by omega) (by decide) ?_
  refine V_aload_n C dX4_put_70 rfl ?_
  refine vg_X4_9 C dX4_put_71 (by repeat (first | with_reducible assumption | with_reducible exact zs_eq (by first | assumption | (simp only [List.length_set]; assumption)) | refine zs_ne (by first | with_reducible assumption | exact Ne.symm (by with_reducible assumption) | omega) ?_)) rfl ?_
  refine V_iload_n C dX4_put_74 rfl ?_
  refine V_lload_n C dX4_put_75 rfl ?_
  refine V_last C dX4_put_76 (by repeat (first | with_reducible assumption | with_reducible exact zs_eq (by first | assumption | (simp only [List.length_set]; assumption)) | refine zs_ne (by first | with_reducible assumption | exact Ne.symm (by with_reducible assumption) | omega) ?_)) (by omega) (by omega) (by decide) ?_
  exact V_vret C R dX4_put_77 ⟨rfl, by unfold cutZ; first | (rw [if_pos (by omega)]; done) | (rw [if_neg (by omega), if_pos (by omega)]; done) | (rw [if_neg (by omega), if_neg (by omega), if_pos (by omega)]; done) | (rw [if_neg (by omega), if_neg (by omega), if_neg (by omega)]; done)⟩
