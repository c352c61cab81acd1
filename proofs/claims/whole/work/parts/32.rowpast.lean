/-! ===== KeyRow, Past, Command ===== -/
abbrev oK (G : zG) (j : Nat) (s : Int) : va_E := .inr (2, [.ref (G.ad j), .int (iI s)])
def isK (G : zG) (cs : List va_E) (i j : Nat) (f : Int → Int) (s : Int) : Prop := cs[i]? = some (oK G j s) ∧ cs[j]? = some (zI G 30 f) ∧ (∀ k, rng (f k)) ∧ 0 ≤ s ∧ s ≤ 31
def toK (G : zG) (cs : List va_E) (i j : Nat) (f : Int → Int) (s : Int) : List va_E := (cs.set j (zI G 30 f)).set i (oK G j s)
def addF (f : Int → Int) (s x : Int) : Int → Int := if s < 30 then zup f s x else f
theorem addF_rng {f : Int → Int} {s x : Int} (hf : ∀ k, rng (f k)) (hx : rng x) : ∀ k, rng (addF f s x k) := by unfold addF; split; exact zup_rng hf hx; exact hf
abbrev oP (G : zG) (j1 j2 j3 : Nat) (nx sz : Int) : va_E := .inr (3, [.ref (G.ad j1), .ref (G.ad j2), .ref (G.ad j3), .int (iI nx), .int (iI sz)])
def isP (G : zG) (cs : List va_E) (i j1 j2 j3 : Nat) (pf pl pc : Int → Int) (nx sz : Int) : Prop := cs[i]? = some (oP G j1 j2 j3 nx sz) ∧ cs[j1]? = some (zI G 480 pf) ∧ cs[j2]? = some (zI G 8 pl) ∧ cs[j3]? = some (zI G 8 pc) ∧ (∀ k, rng (pf k)) ∧ (∀ k, rng (pl k)) ∧ (∀ k, rng (pc k)) ∧ 0 ≤ nx ∧ nx < 8 ∧ 0 ≤ sz ∧ sz ≤ 8 ∧ j1 ≠ j2 ∧ j1 ≠ j3 ∧ j2 ≠ j3
def toP (G : zG) (cs : List va_E) (i j1 j2 j3 : Nat) (pf pl pc : Int → Int) (nx sz : Int) : List va_E := (((cs.set j1 (zI G 480 pf)).set j2 (zI G 8 pl)).set j3 (zI G 8 pc)).set i (oP G j1 j2 j3 nx sz)
abbrev oC (G : zG) (j : Nat) (k : Int → Int) : va_E := .inr (0, [.ref (G.ad j), .int (iI (k 1)), .int (iI (k 2)), .int (iI (k 3)), .int (iI (k 4)), .int (iI (k 5)), .int (iI (k 6)), .int (iI (k 7)), .int (iI (k 8))])
theorem iI_remT {a b : Int} (ha : rng a) (hb : 0 < b ∧ b ≤ 2147483647) : iI a - iI a / iI b * iI b = iI (a - a.tdiv b * b) := by
  have e : iI a / iI b = iI (a.tdiv b) := by
    apply Int32.toInt_inj.mp
    have h1 := Int.natAbs_tdiv_le_natAbs a b
    rw [Int32.toInt_div_of_ne_right _ _ (fun h => by have := congrArg Int32.toInt h; rw [iI_toInt (by omega)] at this; change b = -1 at this; omega), iI_toInt ha, iI_toInt (by omega)]
    have h2 : rng (a.tdiv b) := by
      have h3 := Int.tdiv_eq_ediv (a := a) (b := b)
      have h4 : -a.natAbs ≤ a.tdiv b := by omega
      have h5 : a.tdiv b ≤ a.natAbs := by omega
      by_cases hn : a = -2147483648
      · subst hn
        have h6 : (-2147483648 : Int).tdiv b = -((2147483648 : Int).tdiv b) := Int.neg_tdiv (2147483648 : Int) b
        have h7 : 0 ≤ (2147483648 : Int).tdiv b := Int.tdiv_nonneg (by omega) (by omega)
        omega
      · omega
    rw [iI_toInt h2]
  rw [e, iI_mul, iI_sub]
theorem fm_x : ∀ r : Int, -8 ≤ r → r < 8 → (0 ≤ iI r ^^^ iI 8 ↔ 0 ≤ r) := by
  intro r h1 h2
  have : r = -8 ∨ r = -7 ∨ r = -6 ∨ r = -5 ∨ r = -4 ∨ r = -3 ∨ r = -2 ∨ r = -1 ∨ r = 0 ∨ r = 1 ∨ r = 2 ∨ r = 3 ∨ r = 4 ∨ r = 5 ∨ r = 6 ∨ r = 7 := by omega
  rcases this with rfl | rfl | rfl | rfl | rfl | rfl | rfl | rfl | rfl | rfl | rfl | rfl | rfl | rfl | rfl | rfl <;> decide +kernel
theorem fm_r {a : Int} (h : -8 ≤ a) (h2 : a ≤ 7) : -8 < a - a.tdiv 8 * 8 ∧ a - a.tdiv 8 * 8 < 8 ∧ (0 ≤ a → a % 8 = a - a.tdiv 8 * 8) ∧ (a < 0 → a - a.tdiv 8 * 8 = 0 → a % 8 = 0) ∧ (a < 0 → a - a.tdiv 8 * 8 ≠ 0 → a % 8 = a - a.tdiv 8 * 8 + 8) := by
  have : a = -8 ∨ a = -7 ∨ a = -6 ∨ a = -5 ∨ a = -4 ∨ a = -3 ∨ a = -2 ∨ a = -1 ∨ a = 0 ∨ a = 1 ∨ a = 2 ∨ a = 3 ∨ a = 4 ∨ a = 5 ∨ a = 6 ∨ a = 7 := by omega
  rcases this with rfl | rfl | rfl | rfl | rfl | rfl | rfl | rfl | rfl | rfl | rfl | rfl | rfl | rfl | rfl | rfl <;> decide +kernel
section ZY
variable {G : zG} {E : zE} {own : String} {cc : ByteArray} {nL fr lo pc : Nat} {lv : List (Option Value)} {st : List Value} {cs : List va_E}
theorem V_iremT (C : zC G E own cc nL fr lo) {a b : Int} (hd : decode cc pc = .ok (.irem, 1)) (ha : rng a) (hb : 0 < b ∧ b ≤ 2147483647) (k : V G E (pc + 1) lv (.int (iI (a - a.tdiv b * b)) :: st) cs) : V G E pc lv (.int (iI b) :: .int (iI a) :: st) cs :=
  fun H locs ls hl hP hD hS => lv_irem C.1 C.2.1 hd (by rw [← iI_0, iI_eq (by omega) (by omega)]; omega) (by rw [iI_remT ha hb]; exact k H locs ls hl hP hD hS)
theorem V_ixor (C : zC G E own cc nL fr lo) {x y : Int32} (hd : decode cc pc = .ok (.ixor, 1)) (k : V G E (pc + 1) lv (.int (x ^^^ y) :: st) cs) : V G E pc lv (.int y :: .int x :: st) cs :=
  fun H locs ls hl hP hD hS => lv_ixor C.1 C.2.1 hd (k H locs ls hl hP hD hS)
theorem V_if_geX (C : zC G E own cc nL fr lo) {x : Int32} {off : Int} {tgt : Nat} (hd : decode cc pc = .ok (.ifCond .ge off, 3)) (ht : (pc : Int) + off = (tgt : Int)) (kt : 0 ≤ x → V G E tgt lv st cs) (kf : ¬ 0 ≤ x → V G E (pc + 3) lv st cs) : V G E pc lv (.int x :: st) cs :=
  fun H locs ls hl hP hD hS => lv_if_ge C.1 C.2.1 hd ht (fun h => kt h H locs ls hl hP hD hS) (fun h => kf h H locs ls hl hP hD hS)
theorem zMet.ofF {y : MethodName} {ret : Option FieldType} {av : List Value} {Qr : Option Value → List va_E → Prop} (hy : plainFor y = true) (ha : (lg_sl av).length ≤ nL) (h : ∀ E : zE, zC G E y.cls cc nL fr lo → zR G E ret cs.length Qr → V G E 0 (zent av nL) [] cs) : zMet G y cc nL ret fr lo av cs Qr := by
  refine va_MetF (cc := cc) (maxL := nL) (ret := ret) hy rfl ?_
  intro p e s m args below meth c s₁ B hml hv
  obtain ⟨rfl, hP, hK, hT, hD⟩ := hv
  have key := h (p, e, zrm fr lo, s, m, av.toArray, below, meth, c, 0, 0, MQ below (zQc G cs.length Qr) av.toArray s 0 0 (zA G.ad cs.length), zA G.ad cs.length) ⟨B.exec, B.bytes, hml, findClass_of_methodNamed B.named, Nat.le_refl _, Nat.le_refl _, Nat.zero_le _, Nat.zero_le _, hK, hT⟩ ⟨B.returns, B.notSynchronized, rfl, rfl, rfl, rfl⟩
  rw [lg_entry_eq]
  have hz := zent_has av ha
  have hz2 : zls ((lg_sl av ++ List.replicate (nL - (lg_sl av).length) Slot.unset).toArray) c.maxLocals (zent av nL) := by rw [hml]; exact hz
  exact key s.heap [] _ hz2 hP ⟨hD.1, fun k q hq => by
    rw [zw_get] at hq
    obtain ⟨e0, h1, h2⟩ := Option.map_eq_some_iff.mp hq
    subst h2
    exact ⟨k, (List.getElem?_eq_some_iff.mp h1).1, rfl⟩⟩ va_S.rf
end ZY

set_option maxRecDepth 100000 in
theorem m_X2_add (G : zG) {cs : List va_E} {i j : Nat} {f : Int → Int} {s : Int} (T : isK G cs i j f s) {x : Int} : zMet G yX2_add cX2_add 2 none 1 21 [.ref (G.ad i), .int (iI x)] cs (zO0 (toK G cs i j (addF f s x) (min (s + 1) 31))) := by
  refine zMet.of (by decide) (Nat.le_of_ble_eq_true rfl) ?_
  intro E C R
  have C : zC G E RX2 cX2_add 2 1 21 := C
  show V G E 0 [some (.ref (G.ad i)), some (.int (iI x))] [] cs
  obtain ⟨hi, hj, hf, hs0, hs1⟩ := id T
  have hij := zs_ao hi hj
  have hli := zs_lt hi
  have hlj := zs_lt hj
  refine V_aload_n C dX2_add_0 rfl ?_
  refine vg_X2_19 C dX2_add_1 (by repeat (first | with_reducible assumption | with_reducible exact zs_eq (by first | assumption | (simp only [List.length_set]; assumption)) | refine zs_ne (by first | with_reducible assumption | exact Ne.symm (by with_reducible assumption) | omega) ?_)) rfl ?_
  refine V_bipush C dX2_add_4 (by decide) ?_
  refine V_icmp_ge (tgt := 19) C dX2_add_6 (by decide) (by omega) (by omega) (fun c_6 => ?_) (fun c_6 => ?_)
  · skip
    refine V_aload_n C dX2_add_19 rfl ?_
    refine V_aload_n C dX2_add_20 rfl ?_
    refine vg_X2_19 C dX2_add_21 (by repeat (first | with_reducible assumption | with_reducible exact zs_eq (by first | assumption | (simp only [List.length_set]; assumption)) | refine zs_ne (by first | with_reducible assumption | exact Ne.symm (by with_reducible assumption) | omega) ?_)) rfl ?_
    refine V_iconst C dX2_add_24 ?_
    refine V_iadd C dX2_add_25 ?_
    refine V_bipush C dX2_add_26 (by decide) ?_
    refine V_min C wm_X2_23 dX2_add_28 (by omega) (by omega) (by decide) (Nat.le_of_ble_eq_true rfl) ?_
    refine vp_X2_19 C dX2_add_31 (by repeat (first | with_reducible assumption | with_reducible exact zs_eq (by first | assumption | (simp only [List.length_set]; assumption)) | refine zs_ne (by first | with_reducible assumption | exact Ne.symm (by with_reducible assumption) | omega) ?_)) (Nat.le_of_ble_eq_true rfl) ?_
    exact V_vret C R dX2_add_34 ⟨rfl, by unfold toK addF; first | (rw [if_pos (by omega)]; rfl) | (rw [if_neg (by omega), zs_self hj]; rfl)⟩
  · skip
    refine V_aload_n C dX2_add_9 rfl ?_
    refine vg_X2_9 C dX2_add_10 (by repeat (first | with_reducible assumption | with_reducible exact zs_eq (by first | assumption | (simp only [List.length_set]; assumption)) | refine zs_ne (by first | with_reducible assumption | exact Ne.symm (by with_reducible assumption) | omega) ?_)) rfl ?_
    refine V_aload_n C dX2_add_13 rfl ?_
    refine vg_X2_19 C dX2_add_14 (by repeat (first | with_reducible assumption | with_reducible exact zs_eq (by first | assumption | (simp only [List.length_set]; assumption)) | refine zs_ne (by first | with_reducible assumption | exact Ne.symm (by with_reducible assumption) | omega) ?_)) rfl ?_
    refine V_iload_n C dX2_add_17 rfl ?_
    refine V_iast C dX2_add_18 (by repeat (first | with_reducible assumption | with_reducible exact zs_eq (by first | assumption | (simp only [List.length_set]; assumption)) | refine zs_ne (by first | with_reducible assumption | exact Ne.symm (by with_reducible assumption) | omega) ?_)) (by omega) (by omega) (by decide) ?_
    refine V_aload_n C dX2_add_19 rfl ?_
    refine V_aload_n C dX2_add_20 rfl ?_
    refine vg_X2_19 C dX2_add_21 (by repeat (first | with_reducible assumption | with_reducible exact zs_eq (by first | assumption | (simp only [List.length_set]; assumption)) | refine zs_ne (by first | with_reducible assumption | exact Ne.symm (by with_reducible assumption) | omega) ?_)) rfl ?_
    refine V_iconst C dX2_add_24 ?_
    refine V_iadd C dX2_add_25 ?_
    refine V_bipush C dX2_add_26 (by decide) ?_
    refine V_min C wm_X2_23 dX2_add_28 (by omega) (by omega) (by decide) (Nat.le_of_ble_eq_true rfl) ?_
    refine vp_X2_19 C dX2_add_31 (by repeat (first | with_reducible assumption | with_reducible exact zs_eq (by first | assumption | (simp only [List.length_set]; assumption)) | refine zs_ne (by first | with_reducible assumption | exact Ne.symm (by with_reducible assumption) | omega) ?_)) (Nat.le_of_ble_eq_true rfl) ?_
    exact V_vret C R dX2_add_34 ⟨rfl, by unfold toK addF; first | (rw [if_pos (by omega)]; rfl) | (rw [if_neg (by omega), zs_self hj]; rfl)⟩

set_option maxRecDepth 100000 in
theorem m_X2_canBeRepeated (G : zG) {cs : List va_E} {i j : Nat} {f : Int → Int} {s : Int} (T : isK G cs i j f s) : zMet G yX2_canBeRepeated cX2_canBeRepeated 1 (some .boolean) 0 0 [.ref (G.ad i)] cs (zO (.int (iI (b2z (0 < s ∧ s ≤ 30)))) cs) := by
  refine zMet.of (by decide) (Nat.le_of_ble_eq_true rfl) ?_
  intro E C R
  have C : zC G E RX2 cX2_canBeRepeated 1 0 0 := C
  show V G E 0 [some (.ref (G.ad i))] [] cs
  obtain ⟨hi, hj, hf, hs0, hs1⟩ := id T
  have hij := zs_ao hi hj
  have hli := zs_lt hi
  have hlj := zs_lt hj
  refine V_aload_n C dX2_canBeRepeated_0 rfl ?_
  refine vg_X2_19 C dX2_canBeRepeated_1 (by assumption) rfl ?_
  refine V_if_le (tgt := 20) C dX2_canBeRepeated_4 (by decide) (by omega) (fun c_4 => ?_) (fun c_4 => ?_)
  · skip
    refine V_iconst C dX2_canBeRepeated_20 ?_
    exact V_zret C R dX2_canBeRepeated_21 (by first | decide | omega) (zO_i (by first | exact b2z_1 (by omega) | exact b2z_0 (by omega)))
  · skip
    refine V_aload_n C dX2_canBeRepeated_7 rfl ?_
    refine vg_X2_19 C dX2_canBeRepeated_8 (by assumption) rfl ?_
    refine V_bipush C dX2_canBeRepeated_11 (by decide) ?_
    refine V_icmp_gt (tgt := 20) C dX2_canBeRepeated_13 (by decide) (by omega) (by omega) (fun c_13 => ?_) (fun c_13 => ?_)
    · skip
      refine V_iconst C dX2_canBeRepeated_20 ?_
      exact V_zret C R dX2_canBeRepeated_21 (by first | decide | omega) (zO_i (by first | exact b2z_1 (by omega) | exact b2z_0 (by omega)))
    · skip
      refine V_iconst C dX2_canBeRepeated_16 ?_
      refine V_goto (tgt := 21) C dX2_canBeRepeated_17 (by decide) ?_
      exact V_zret C R dX2_canBeRepeated_21 (by first | decide | omega) (zO_i (by first | exact b2z_1 (by omega) | exact b2z_0 (by omega)))

set_option maxRecDepth 100000 in
theorem m_X2_become (G : zG) {cs : List va_E} {i j i2 j2 : Nat} {f f2 : Int → Int} {s s2 : Int} (T : isK G cs i j f s) (T2 : isK G cs i2 j2 f2 s2) (hne : i ≠ i2 ∧ j ≠ j2) : zMet G yX2_become cX2_become 2 none 1 26 [.ref (G.ad i), .ref (G.ad i2)] cs (zO0 (toK G cs i j (zcp f2 f 0 0 30) s2)) := by
  refine zMet.of (by decide) (Nat.le_of_ble_eq_true rfl) ?_
  intro E C R
  have C : zC G E RX2 cX2_become 2 1 26 := C
  show V G E 0 [some (.ref (G.ad i)), some (.ref (G.ad i2))] [] cs
  obtain ⟨hi, hj, hf, hs0, hs1⟩ := id T
  have hij := zs_ao hi hj
  have hli := zs_lt hi
  have hlj := zs_lt hj
  obtain ⟨hi2, hj2, hf2, ht0, ht1⟩ := id T2
  have h1 := zs_ao hi hj2
  have h2 := zs_ao hi2 hj
  refine V_aload_n C dX2_become_0 rfl ?_
  refine vg_X2_9 C dX2_become_1 (by repeat (first | with_reducible assumption | with_reducible exact zs_eq (by first | assumption | (simp only [List.length_set]; assumption)) | refine zs_ne (by first | with_reducible assumption | exact Ne.symm (by with_reducible assumption) | omega) ?_)) rfl ?_
  refine V_iconst C dX2_become_4 ?_
  refine V_aload_n C dX2_become_5 rfl ?_
  refine vg_X2_9 C dX2_become_6 (by repeat (first | with_reducible assumption | with_reducible exact zs_eq (by first | assumption | (simp only [List.length_set]; assumption)) | refine zs_ne (by first | with_reducible assumption | exact Ne.symm (by with_reducible assumption) | omega) ?_)) rfl ?_
  refine V_iconst C dX2_become_9 ?_
  refine V_bipush C dX2_become_10 (by decide) ?_
  refine V_copyI C wm_X2_13 dX2_become_12 (by repeat (first | with_reducible assumption | with_reducible exact zs_eq (by first | assumption | (simp only [List.length_set]; assumption)) | refine zs_ne (by first | with_reducible assumption | exact Ne.symm (by with_reducible assumption) | omega) ?_)) (by repeat (first | with_reducible assumption | with_reducible exact zs_eq (by first | assumption | (simp only [List.length_set]; assumption)) | refine zs_ne (by first | with_reducible assumption | exact Ne.symm (by with_reducible assumption) | omega) ?_)) (by omega) (by omega) (by omega) (by omega) (by omega) (by decide) (by decide) (by decide) (Nat.le_of_ble_eq_true rfl) ?_
  refine V_aload_n C dX2_become_15 rfl ?_
  refine V_aload_n C dX2_become_16 rfl ?_
  refine vg_X2_19 C dX2_become_17 (by repeat (first | with_reducible assumption | with_reducible exact zs_eq (by first | assumption | (simp only [List.length_set]; assumption)) | refine zs_ne (by first | with_reducible assumption | exact Ne.symm (by with_reducible assumption) | omega) ?_)) rfl ?_
  refine vp_X2_19 C dX2_become_20 (by repeat (first | with_reducible assumption | with_reducible exact zs_eq (by first | assumption | (simp only [List.length_set]; assumption)) | refine zs_ne (by first | with_reducible assumption | exact Ne.symm (by with_reducible assumption) | omega) ?_)) (Nat.le_of_ble_eq_true rfl) ?_
  exact V_vret C R dX2_become_23 ⟨rfl, rfl⟩

theorem m_floorMod (G : zG) {cs : List va_E} {a : Int} (ha : -8 ≤ a ∧ a ≤ 7) : zMet G yJ9_floorMod_7cf53 cJ9_floorMod_7cf53 3 (some .int) 0 0 [.int (iI a), .int (iI 8)] cs (zO (.int (iI (a % 8))) cs) := by
  refine zMet.ofF (by decide +kernel) (Nat.le_of_ble_eq_true rfl) ?_
  intro E C R
  have C : zC G E RJ9 cJ9_floorMod_7cf53 3 0 0 := C
  show V G E 0 [some (.int (iI a)), some (.int (iI 8)), none] [] cs
  obtain ⟨q1, q2, q3, q4, q5⟩ := fm_r ha.1 ha.2
  refine V_iload_n C dJ9_floorMod_7cf53_0 rfl ?_
  refine V_iload_n C dJ9_floorMod_7cf53_1 rfl ?_
  refine V_iremT C dJ9_floorMod_7cf53_2 (by omega) (by omega) ?_
  generalize hr : a - a.tdiv 8 * 8 = r at q1 q2 q3 q4 q5 ⊢
  refine V_istore_n C dJ9_floorMod_7cf53_3 (by decide) rfl ?_
  refine V_iload_n C dJ9_floorMod_7cf53_4 rfl ?_
  refine V_iload_n C dJ9_floorMod_7cf53_5 rfl ?_
  refine V_ixor C dJ9_floorMod_7cf53_6 ?_
  refine V_if_geX (tgt := 18) C dJ9_floorMod_7cf53_7 (by decide) (fun c_7 => ?_) (fun c_7 => ?_)
  · rw [fm_x a ha.1 (by omega)] at c_7
    refine V_iload_n C dJ9_floorMod_7cf53_18 rfl ?_
    exact V_iret C R dJ9_floorMod_7cf53_19 (zO_i (q3 c_7).symm)
  · rw [fm_x a ha.1 (by omega)] at c_7
    refine V_iload_n C dJ9_floorMod_7cf53_10 rfl ?_
    refine V_if_eq (tgt := 18) C dJ9_floorMod_7cf53_11 (by decide) (by omega) (fun c_11 => ?_) (fun c_11 => ?_)
    · refine V_iload_n C dJ9_floorMod_7cf53_18 rfl ?_
      exact V_iret C R dJ9_floorMod_7cf53_19 (zO_i (by rw [q4 (by omega) c_11]; exact c_11))
    · refine V_iload_n C dJ9_floorMod_7cf53_14 rfl ?_
      refine V_iload_n C dJ9_floorMod_7cf53_15 rfl ?_
      refine V_iadd C dJ9_floorMod_7cf53_16 ?_
      exact V_iret C R dJ9_floorMod_7cf53_17 (zO_i (by rw [q5 (by omega) c_11]))

set_option maxRecDepth 100000 in
theorem m_X3_keep (G : zG) {cs : List va_E} {i j1 j2 j3 : Nat} {pf pl pc : Int → Int} {nx sz : Int} (T : isP G cs i j1 j2 j3 pf pl pc nx sz) {a b : Nat} {f : Int → Int} {L c : Int} (X : isT G cs a b f L c) (hb : b ≠ j1 ∧ b ≠ j2 ∧ b ≠ j3) (hia : i ≠ a) : zMet G yX3_keep cX3_keep 2 none 1 26 [.ref (G.ad i), .ref (G.ad a)] cs (zO0 (toP G cs i j1 j2 j3 (zcp f pf 0 (nx * 60) 60) (zup pl nx L) (zup pc nx c) ((nx + 1) % 8) (min (sz + 1) 8))) := by
  refine zMet.of (by decide) (Nat.le_of_ble_eq_true rfl) ?_
  intro E C R
  have C : zC G E RX3 cX3_keep 2 1 26 := C
  show V G E 0 [some (.ref (G.ad i)), some (.ref (G.ad a))] [] cs
  obtain ⟨hi, hj1, hj2, hj3, hf1, hf2, hf3, hn0, hn1, hs0, hs1, e12, e13, e23⟩ := id T
  have ei1 := zs_ao hi hj1
  have ei2 := zs_ao hi hj2
  have ei3 := zs_ao hi hj3
  have hli := zs_lt hi
  have hl1 := zs_lt hj1
  have hl2 := zs_lt hj2
  have hl3 := zs_lt hj3
  obtain ⟨hX, hY, hf, hL0, hL1⟩ := id X
  have ea1 := zs_ao hX hj1
  have ea2 := zs_ao hX hj2
  have ea3 := zs_ao hX hj3
  have eab := zs_ao hX hY
  have eib := zs_ao hi hY
  have hla := zs_lt hX
  have hlb := zs_lt hY
  refine V_aload_n C dX3_keep_0 rfl ?_
  refine vg_X3_34 C dX3_keep_1 (by repeat (first | with_reducible assumption | with_reducible exact zs_eq (by first | assumption | (simp only [List.length_set]; assumption)) | refine zs_ne (by first | with_reducible assumption | exact Ne.symm (by with_reducible assumption) | omega) ?_)) rfl ?_
  refine V_iconst C dX3_keep_4 ?_
  refine V_aload_n C dX3_keep_5 rfl ?_
  refine vg_X3_11 C dX3_keep_6 (by repeat (first | with_reducible assumption | with_reducible exact zs_eq (by first | assumption | (simp only [List.length_set]; assumption)) | refine zs_ne (by first | with_reducible assumption | exact Ne.symm (by with_reducible assumption) | omega) ?_)) rfl ?_
  refine V_aload_n C dX3_keep_9 rfl ?_
  refine vg_X3_27 C dX3_keep_10 (by repeat (first | with_reducible assumption | with_reducible exact zs_eq (by first | assumption | (simp only [List.length_set]; assumption)) | refine zs_ne (by first | with_reducible assumption | exact Ne.symm (by with_reducible assumption) | omega) ?_)) rfl ?_
  refine V_bipush C dX3_keep_13 (by decide) ?_
  refine V_imul C dX3_keep_15 ?_
  refine V_bipush C dX3_keep_16 (by decide) ?_
  refine V_copyI C wm_X3_21 dX3_keep_18 (by repeat (first | with_reducible assumption | with_reducible exact zs_eq (by first | assumption | (simp only [List.length_set]; assumption)) | refine zs_ne (by first | with_reducible assumption | exact Ne.symm (by with_reducible assumption) | omega) ?_)) (by repeat (first | with_reducible assumption | with_reducible exact zs_eq (by first | assumption | (simp only [List.length_set]; assumption)) | refine zs_ne (by first | with_reducible assumption | exact Ne.symm (by with_reducible assumption) | omega) ?_)) (by omega) (by omega) (by omega) (by omega) (by omega) (by decide) (by decide) (by decide) (Nat.le_of_ble_eq_true rfl) ?_
  refine V_aload_n C dX3_keep_21 rfl ?_
  refine vg_X3_15 C dX3_keep_22 (by repeat (first | with_reducible assumption | with_reducible exact zs_eq (by first | assumption | (simp only [List.length_set]; assumption)) | refine zs_ne (by first | with_reducible assumption | exact Ne.symm (by with_reducible assumption) | omega) ?_)) rfl ?_
  refine V_aload_n C dX3_keep_25 rfl ?_
  refine vg_X3_27 C dX3_keep_26 (by repeat (first | with_reducible assumption | with_reducible exact zs_eq (by first | assumption | (simp only [List.length_set]; assumption)) | refine zs_ne (by first | with_reducible assumption | exact Ne.symm (by with_reducible assumption) | omega) ?_)) rfl ?_
  refine V_aload_n C dX3_keep_29 rfl ?_
  refine vg_X3_37 C dX3_keep_30 (by repeat (first | with_reducible assumption | with_reducible exact zs_eq (by first | assumption | (simp only [List.length_set]; assumption)) | refine zs_ne (by first | with_reducible assumption | exact Ne.symm (by with_reducible assumption) | omega) ?_)) rfl ?_
  refine V_iast C dX3_keep_33 (by repeat (first | with_reducible assumption | with_reducible exact zs_eq (by first | assumption | (simp only [List.length_set]; assumption)) | refine zs_ne (by first | with_reducible assumption | exact Ne.symm (by with_reducible assumption) | omega) ?_)) (by omega) (by omega) (by decide) ?_
  refine V_aload_n C dX3_keep_34 rfl ?_
  refine vg_X3_18 C dX3_keep_35 (by repeat (first | with_reducible assumption | with_reducible exact zs_eq (by first | assumption | (simp only [List.length_set]; assumption)) | refine zs_ne (by first | with_reducible assumption | exact Ne.symm (by with_reducible assumption) | omega) ?_)) rfl ?_
  refine V_aload_n C dX3_keep_38 rfl ?_
  refine vg_X3_27 C dX3_keep_39 (by repeat (first | with_reducible assumption | with_reducible exact zs_eq (by first | assumption | (simp only [List.length_set]; assumption)) | refine zs_ne (by first | with_reducible assumption | exact Ne.symm (by with_reducible assumption) | omega) ?_)) rfl ?_
  refine V_aload_n C dX3_keep_42 rfl ?_
  refine vg_X3_40 C dX3_keep_43 (by repeat (first | with_reducible assumption | with_reducible exact zs_eq (by first | assumption | (simp only [List.length_set]; assumption)) | refine zs_ne (by first | with_reducible assumption | exact Ne.symm (by with_reducible assumption) | omega) ?_)) rfl ?_
  refine V_iast C dX3_keep_46 (by repeat (first | with_reducible assumption | with_reducible exact zs_eq (by first | assumption | (simp only [List.length_set]; assumption)) | refine zs_ne (by first | with_reducible assumption | exact Ne.symm (by with_reducible assumption) | omega) ?_)) (by omega) (by omega) (by decide) ?_
  refine V_aload_n C dX3_keep_47 rfl ?_
  refine V_aload_n C dX3_keep_48 rfl ?_
  refine vg_X3_27 C dX3_keep_49 (by repeat (first | with_reducible assumption | with_reducible exact zs_eq (by first | assumption | (simp only [List.length_set]; assumption)) | refine zs_ne (by first | with_reducible assumption | exact Ne.symm (by with_reducible assumption) | omega) ?_)) rfl ?_
  refine V_iconst C dX3_keep_52 ?_
  refine V_iadd C dX3_keep_53 ?_
  refine V_bipush C dX3_keep_54 (by decide) ?_
  refine V_irem C dX3_keep_56 (by omega) (by omega) ?_
  refine vp_X3_27 C dX3_keep_57 (by repeat (first | with_reducible assumption | with_reducible exact zs_eq (by first | assumption | (simp only [List.length_set]; assumption)) | refine zs_ne (by first | with_reducible assumption | exact Ne.symm (by with_reducible assumption) | omega) ?_)) (Nat.le_of_ble_eq_true rfl) ?_
  refine V_aload_n C dX3_keep_60 rfl ?_
  refine V_aload_n C dX3_keep_61 rfl ?_
  refine vg_X3_31 C dX3_keep_62 (by repeat (first | with_reducible assumption | with_reducible exact zs_eq (by first | assumption | (simp only [List.length_set]; assumption)) | refine zs_ne (by first | with_reducible assumption | exact Ne.symm (by with_reducible assumption) | omega) ?_)) rfl ?_
  refine V_iconst C dX3_keep_65 ?_
  refine V_iadd C dX3_keep_66 ?_
  refine V_bipush C dX3_keep_67 (by decide) ?_
  refine V_min C wm_X3_43 dX3_keep_69 (by omega) (by omega) (by decide) (Nat.le_of_ble_eq_true rfl) ?_
  refine vp_X3_31 C dX3_keep_72 (by repeat (first | with_reducible assumption | with_reducible exact zs_eq (by first | assumption | (simp only [List.length_set]; assumption)) | refine zs_ne (by first | with_reducible assumption | exact Ne.symm (by with_reducible assumption) | omega) ?_)) (Nat.le_of_ble_eq_true rfl) ?_
  exact V_vret C R dX3_keep_75 ⟨rfl, by unfold toP; rw [List.set_set]; rfl⟩

set_option maxRecDepth 100000 in
theorem m_X3_bringBack (G : zG) {cs : List va_E} {i j1 j2 j3 : Nat} {pf pl pc : Int → Int} {nx sz : Int} (T : isP G cs i j1 j2 j3 pf pl pc nx sz) {a b : Nat} {f : Int → Int} {L c : Int} (X : isT G cs a b f L c) (hb : b ≠ j1 ∧ b ≠ j2 ∧ b ≠ j3) (hia : i ≠ a) {n : Int} (hn : 1 ≤ n ∧ n ≤ 99) : zMet G yX3_bringBack cX3_bringBack 4 (some .boolean) 1 26 [.ref (G.ad i), .ref (G.ad a), .int (iI n)] cs (fun r cs2 => (sz = 0 ∧ zO (.int (iI 0)) cs r cs2) ∨ (sz ≠ 0 ∧ zO (.int (iI 1)) (toT G (cs.set i (oP G j1 j2 j3 ((nx - min n sz) % 8) (sz - min n sz))) a b (zcp pf f ((nx - min n sz) % 8 * 60) 0 60) (pl ((nx - min n sz) % 8)) (pc ((nx - min n sz) % 8))) r cs2)) := by
  refine zMet.of (by decide) (Nat.le_of_ble_eq_true rfl) ?_
  intro E C R
  have C : zC G E RX3 cX3_bringBack 4 1 26 := C
  show V G E 0 [some (.ref (G.ad i)), some (.ref (G.ad a)), some (.int (iI n)), none] [] cs
  obtain ⟨hi, hj1, hj2, hj3, hf1, hf2, hf3, hn0, hn1, hs0, hs1, e12, e13, e23⟩ := id T
  have ei1 := zs_ao hi hj1
  have ei2 := zs_ao hi hj2
  have ei3 := zs_ao hi hj3
  have hli := zs_lt hi
  have hl1 := zs_lt hj1
  have hl2 := zs_lt hj2
  have hl3 := zs_lt hj3
  obtain ⟨hX, hY, hf, hL0, hL1⟩ := id X
  have ea1 := zs_ao hX hj1
  have ea2 := zs_ao hX hj2
  have ea3 := zs_ao hX hj3
  have eab := zs_ao hX hY
  have eib := zs_ao hi hY
  have hla := zs_lt hX
  have hlb := zs_lt hY
  have hm : 0 ≤ (nx - min n sz) % 8 ∧ (nx - min n sz) % 8 < 8 := by omega
  refine V_aload_n C dX3_bringBack_0 rfl ?_
  refine vg_X3_31 C dX3_bringBack_1 (by repeat (first | with_reducible assumption | with_reducible exact zs_eq (by first | assumption | (simp only [List.length_set]; assumption)) | refine zs_ne (by first | with_reducible assumption | exact Ne.symm (by with_reducible assumption) | omega) ?_)) rfl ?_
  refine V_if_ne (tgt := 9) C dX3_bringBack_4 (by decide) (by omega) (fun c_4 => ?_) (fun c_4 => ?_)
  · skip
    refine V_iload_n C dX3_bringBack_9 rfl ?_
    refine V_aload_n C dX3_bringBack_10 rfl ?_
    refine vg_X3_31 C dX3_bringBack_11 (by repeat (first | with_reducible assumption | with_reducible exact zs_eq (by first | assumption | (simp only [List.length_set]; assumption)) | refine zs_ne (by first | with_reducible assumption | exact Ne.symm (by with_reducible assumption) | omega) ?_)) rfl ?_
    refine V_min C wm_X3_43 dX3_bringBack_14 (by omega) (by omega) (by decide) (Nat.le_of_ble_eq_true rfl) ?_
    refine V_istore_n C dX3_bringBack_17 (by decide) rfl ?_
    refine V_aload_n C dX3_bringBack_18 rfl ?_
    refine V_aload_n C dX3_bringBack_19 rfl ?_
    refine vg_X3_27 C dX3_bringBack_20 (by repeat (first | with_reducible assumption | with_reducible exact zs_eq (by first | assumption | (simp only [List.length_set]; assumption)) | refine zs_ne (by first | with_reducible assumption | exact Ne.symm (by with_reducible assumption) | omega) ?_)) rfl ?_
    refine V_iload_n C dX3_bringBack_23 rfl ?_
    refine V_isub C dX3_bringBack_24 ?_
    refine V_bipush C dX3_bringBack_25 (by decide) ?_
    refine V_callS C lk_X3_49 (m_floorMod G (by omega)) dX3_bringBack_27 rfl rfl (by decide) (Nat.le_of_ble_eq_true rfl) (kO ?_)
    refine vp_X3_27 C dX3_bringBack_30 (by repeat (first | with_reducible assumption | with_reducible exact zs_eq (by first | assumption | (simp only [List.length_set]; assumption)) | refine zs_ne (by first | with_reducible assumption | exact Ne.symm (by with_reducible assumption) | omega) ?_)) (Nat.le_of_ble_eq_true rfl) ?_
    refine V_aload_n C dX3_bringBack_33 rfl ?_
    refine V_dup C dX3_bringBack_34 rfl ?_
    refine vg_X3_31 C dX3_bringBack_35 (by repeat (first | with_reducible assumption | with_reducible exact zs_eq (by first | assumption | (simp only [List.length_set]; assumption)) | refine zs_ne (by first | with_reducible assumption | exact Ne.symm (by with_reducible assumption) | omega) ?_)) rfl ?_
    refine V_iload_n C dX3_bringBack_38 rfl ?_
    refine V_isub C dX3_bringBack_39 ?_
    refine vp_X3_31 C dX3_bringBack_40 (by repeat (first | with_reducible assumption | with_reducible exact zs_eq (by first | assumption | (simp only [List.length_set]; assumption)) | refine zs_ne (by first | with_reducible assumption | exact Ne.symm (by with_reducible assumption) | omega) ?_)) (Nat.le_of_ble_eq_true rfl) ?_
    refine V_aload_n C dX3_bringBack_43 rfl ?_
    refine vg_X3_11 C dX3_bringBack_44 (by repeat (first | with_reducible assumption | with_reducible exact zs_eq (by first | assumption | (simp only [List.length_set]; assumption)) | refine zs_ne (by first | with_reducible assumption | exact Ne.symm (by with_reducible assumption) | omega) ?_)) rfl ?_
    refine V_aload_n C dX3_bringBack_47 rfl ?_
    refine vg_X3_27 C dX3_bringBack_48 (by repeat (first | with_reducible assumption | with_reducible exact zs_eq (by first | assumption | (simp only [List.length_set]; assumption)) | refine zs_ne (by first | with_reducible assumption | exact Ne.symm (by with_reducible assumption) | omega) ?_)) rfl ?_
    refine V_bipush C dX3_bringBack_51 (by decide) ?_
    refine V_imul C dX3_bringBack_53 ?_
    refine V_aload_n C dX3_bringBack_54 rfl ?_
    refine vg_X3_34 C dX3_bringBack_55 (by repeat (first | with_reducible assumption | with_reducible exact zs_eq (by first | assumption | (simp only [List.length_set]; assumption)) | refine zs_ne (by first | with_reducible assumption | exact Ne.symm (by with_reducible assumption) | omega) ?_)) rfl ?_
    refine V_iconst C dX3_bringBack_58 ?_
    refine V_bipush C dX3_bringBack_59 (by decide) ?_
    refine V_copyI C wm_X3_21 dX3_bringBack_61 (by repeat (first | with_reducible assumption | with_reducible exact zs_eq (by first | assumption | (simp only [List.length_set]; assumption)) | refine zs_ne (by first | with_reducible assumption | exact Ne.symm (by with_reducible assumption) | omega) ?_)) (by repeat (first | with_reducible assumption | with_reducible exact zs_eq (by first | assumption | (simp only [List.length_set]; assumption)) | refine zs_ne (by first | with_reducible assumption | exact Ne.symm (by with_reducible assumption) | omega) ?_)) (by omega) (by omega) (by omega) (by omega) (by omega) (by decide) (by decide) (by decide) (Nat.le_of_ble_eq_true rfl) ?_
    refine V_aload_n C dX3_bringBack_64 rfl ?_
    refine V_aload_n C dX3_bringBack_65 rfl ?_
    refine vg_X3_15 C dX3_bringBack_66 (by repeat (first | with_reducible assumption | with_reducible exact zs_eq (by first | assumption | (simp only [List.length_set]; assumption)) | refine zs_ne (by first | with_reducible assumption | exact Ne.symm (by with_reducible assumption) | omega) ?_)) rfl ?_
    refine V_aload_n C dX3_bringBack_69 rfl ?_
    refine vg_X3_27 C dX3_bringBack_70 (by repeat (first | with_reducible assumption | with_reducible exact zs_eq (by first | assumption | (simp only [List.length_set]; assumption)) | refine zs_ne (by first | with_reducible assumption | exact Ne.symm (by with_reducible assumption) | omega) ?_)) rfl ?_
    refine V_iald C dX3_bringBack_73 (by repeat (first | with_reducible assumption | with_reducible exact zs_eq (by first | assumption | (simp only [List.length_set]; assumption)) | refine zs_ne (by first | with_reducible assumption | exact Ne.symm (by with_reducible assumption) | omega) ?_)) (by omega) (by omega) (by decide) (by assumption) (fun r_73 => ?_)
    refine vp_X3_37 C dX3_bringBack_74 (by repeat (first | with_reducible assumption | with_reducible exact zs_eq (by first | assumption | (simp only [List.length_set]; assumption)) | refine zs_ne (by first | with_reducible assumption | exact Ne.symm (by with_reducible assumption) | omega) ?_)) (Nat.le_of_ble_eq_true rfl) ?_
    refine V_aload_n C dX3_bringBack_77 rfl ?_
    refine V_aload_n C dX3_bringBack_78 rfl ?_
    refine vg_X3_18 C dX3_bringBack_79 (by repeat (first | with_reducible assumption | with_reducible exact zs_eq (by first | assumption | (simp only [List.length_set]; assumption)) | refine zs_ne (by first | with_reducible assumption | exact Ne.symm (by with_reducible assumption) | omega) ?_)) rfl ?_
    refine V_aload_n C dX3_bringBack_82 rfl ?_
    refine vg_X3_27 C dX3_bringBack_83 (by repeat (first | with_reducible assumption | with_reducible exact zs_eq (by first | assumption | (simp only [List.length_set]; assumption)) | refine zs_ne (by first | with_reducible assumption | exact Ne.symm (by with_reducible assumption) | omega) ?_)) rfl ?_
    refine V_iald C dX3_bringBack_86 (by repeat (first | with_reducible assumption | with_reducible exact zs_eq (by first | assumption | (simp only [List.length_set]; assumption)) | refine zs_ne (by first | with_reducible assumption | exact Ne.symm (by with_reducible assumption) | omega) ?_)) (by omega) (by omega) (by decide) (by assumption) (fun r_86 => ?_)
    refine vp_X3_40 C dX3_bringBack_87 (by repeat (first | with_reducible assumption | with_reducible exact zs_eq (by first | assumption | (simp only [List.length_set]; assumption)) | refine zs_ne (by first | with_reducible assumption | exact Ne.symm (by with_reducible assumption) | omega) ?_)) (Nat.le_of_ble_eq_true rfl) ?_
    refine V_iconst C dX3_bringBack_90 ?_
    exact V_zret C R dX3_bringBack_91 (by first | decide | omega) (Or.inr ⟨by omega, rfl, by unfold toT; rw [List.set_set, List.set_set]; rfl⟩)
  · skip
    refine V_iconst C dX3_bringBack_7 ?_
    exact V_zret C R dX3_bringBack_8 (by first | decide | omega) (Or.inl ⟨by omega, rfl, rfl⟩)

set_option maxRecDepth 100000 in
theorem m_X3_become (G : zG) {cs : List va_E} {i j1 j2 j3 : Nat} {pf pl pc : Int → Int} {nx sz : Int} (T : isP G cs i j1 j2 j3 pf pl pc nx sz) {i2 k1 k2 k3 : Nat} {qf ql qc : Int → Int} {my mz : Int} (T2 : isP G cs i2 k1 k2 k3 qf ql qc my mz) (hne : i ≠ i2 ∧ j1 ≠ k1 ∧ j1 ≠ k2 ∧ j1 ≠ k3 ∧ j2 ≠ k1 ∧ j2 ≠ k2 ∧ j2 ≠ k3 ∧ j3 ≠ k1 ∧ j3 ≠ k2 ∧ j3 ≠ k3) : zMet G yX3_become cX3_become 2 none 1 26 [.ref (G.ad i), .ref (G.ad i2)] cs (zO0 (toP G cs i j1 j2 j3 (zcp qf pf 0 0 480) (zcp ql pl 0 0 8) (zcp qc pc 0 0 8) my mz)) := by
  refine zMet.of (by decide) (Nat.le_of_ble_eq_true rfl) ?_
  intro E C R
  have C : zC G E RX3 cX3_become 2 1 26 := C
  show V G E 0 [some (.ref (G.ad i)), some (.ref (G.ad i2))] [] cs
  obtain ⟨hi, hj1, hj2, hj3, hf1, hf2, hf3, hn0, hn1, hs0, hs1, e12, e13, e23⟩ := id T
  have ei1 := zs_ao hi hj1
  have ei2 := zs_ao hi hj2
  have ei3 := zs_ao hi hj3
  have hli := zs_lt hi
  have hl1 := zs_lt hj1
  have hl2 := zs_lt hj2
  have hl3 := zs_lt hj3
  obtain ⟨hi9, hk1, hk2, hk3, -, -, -, hm0, hm1, hz0, hz1, -, -, -⟩ := id T2
  have h1 := zs_ao hi hk1
  have h2 := zs_ao hi hk2
  have h3 := zs_ao hi hk3
  have h4 := zs_ao hi9 hj1
  have h5 := zs_ao hi9 hj2
  have h6 := zs_ao hi9 hj3
  obtain ⟨n1, n2, n3, n4, n5, n6, n7, n8, n9, n0⟩ := hne
  refine V_aload_n C dX3_become_0 rfl ?_
  refine vg_X3_11 C dX3_become_1 (by repeat (first | with_reducible assumption | with_reducible exact zs_eq (by first | assumption | (simp only [List.length_set]; assumption)) | refine zs_ne (by first | with_reducible assumption | exact Ne.symm (by with_reducible assumption) | omega) ?_)) rfl ?_
  refine V_iconst C dX3_become_4 ?_
  refine V_aload_n C dX3_become_5 rfl ?_
  refine vg_X3_11 C dX3_become_6 (by repeat (first | with_reducible assumption | with_reducible exact zs_eq (by first | assumption | (simp only [List.length_set]; assumption)) | refine zs_ne (by first | with_reducible assumption | exact Ne.symm (by with_reducible assumption) | omega) ?_)) rfl ?_
  refine V_iconst C dX3_become_9 ?_
  refine V_aload_n C dX3_become_10 rfl ?_
  refine vg_X3_11 C dX3_become_11 (by repeat (first | with_reducible assumption | with_reducible exact zs_eq (by first | assumption | (simp only [List.length_set]; assumption)) | refine zs_ne (by first | with_reducible assumption | exact Ne.symm (by with_reducible assumption) | omega) ?_)) rfl ?_
  refine V_alenI C dX3_become_14 (by repeat (first | with_reducible assumption | with_reducible exact zs_eq (by first | assumption | (simp only [List.length_set]; assumption)) | refine zs_ne (by first | with_reducible assumption | exact Ne.symm (by with_reducible assumption) | omega) ?_)) ?_
  refine V_copyI C wm_X3_21 dX3_become_15 (by repeat (first | with_reducible assumption | with_reducible exact zs_eq (by first | assumption | (simp only [List.length_set]; assumption)) | refine zs_ne (by first | with_reducible assumption | exact Ne.symm (by with_reducible assumption) | omega) ?_)) (by repeat (first | with_reducible assumption | with_reducible exact zs_eq (by first | assumption | (simp only [List.length_set]; assumption)) | refine zs_ne (by first | with_reducible assumption | exact Ne.symm (by with_reducible assumption) | omega) ?_)) (by decide) (by decide) (by decide) (by decide) (by decide) (by decide) (by decide) (by decide) (Nat.le_of_ble_eq_true rfl) ?_
  refine V_aload_n C dX3_become_18 rfl ?_
  refine vg_X3_15 C dX3_become_19 (by repeat (first | with_reducible assumption | with_reducible exact zs_eq (by first | assumption | (simp only [List.length_set]; assumption)) | refine zs_ne (by first | with_reducible assumption | exact Ne.symm (by with_reducible assumption) | omega) ?_)) rfl ?_
  refine V_iconst C dX3_become_22 ?_
  refine V_aload_n C dX3_become_23 rfl ?_
  refine vg_X3_15 C dX3_become_24 (by repeat (first | with_reducible assumption | with_reducible exact zs_eq (by first | assumption | (simp only [List.length_set]; assumption)) | refine zs_ne (by first | with_reducible assumption | exact Ne.symm (by with_reducible assumption) | omega) ?_)) rfl ?_
  refine V_iconst C dX3_become_27 ?_
  refine V_bipush C dX3_become_28 (by decide) ?_
  refine V_copyI C wm_X3_21 dX3_become_30 (by repeat (first | with_reducible assumption | with_reducible exact zs_eq (by first | assumption | (simp only [List.length_set]; assumption)) | refine zs_ne (by first | with_reducible assumption | exact Ne.symm (by with_reducible assumption) | omega) ?_)) (by repeat (first | with_reducible assumption | with_reducible exact zs_eq (by first | assumption | (simp only [List.length_set]; assumption)) | refine zs_ne (by first | with_reducible assumption | exact Ne.symm (by with_reducible assumption) | omega) ?_)) (by decide) (by decide) (by decide) (by decide) (by decide) (by decide) (by decide) (by decide) (Nat.le_of_ble_eq_true rfl) ?_
  refine V_aload_n C dX3_become_33 rfl ?_
  refine vg_X3_18 C dX3_become_34 (by repeat (first | with_reducible assumption | with_reducible exact zs_eq (by first | assumption | (simp only [List.length_set]; assumption)) | refine zs_ne (by first | with_reducible assumption | exact Ne.symm (by with_reducible assumption) | omega) ?_)) rfl ?_
  refine V_iconst C dX3_become_37 ?_
  refine V_aload_n C dX3_become_38 rfl ?_
  refine vg_X3_18 C dX3_become_39 (by repeat (first | with_reducible assumption | with_reducible exact zs_eq (by first | assumption | (simp only [List.length_set]; assumption)) | refine zs_ne (by first | with_reducible assumption | exact Ne.symm (by with_reducible assumption) | omega) ?_)) rfl ?_
  refine V_iconst C dX3_become_42 ?_
  refine V_bipush C dX3_become_43 (by decide) ?_
  refine V_copyI C wm_X3_21 dX3_become_45 (by repeat (first | with_reducible assumption | with_reducible exact zs_eq (by first | assumption | (simp only [List.length_set]; assumption)) | refine zs_ne (by first | with_reducible assumption | exact Ne.symm (by with_reducible assumption) | omega) ?_)) (by repeat (first | with_reducible assumption | with_reducible exact zs_eq (by first | assumption | (simp only [List.length_set]; assumption)) | refine zs_ne (by first | with_reducible assumption | exact Ne.symm (by with_reducible assumption) | omega) ?_)) (by decide) (by decide) (by decide) (by decide) (by decide) (by decide) (by decide) (by decide) (Nat.le_of_ble_eq_true rfl) ?_
  refine V_aload_n C dX3_become_48 rfl ?_
  refine V_aload_n C dX3_become_49 rfl ?_
  refine vg_X3_27 C dX3_become_50 (by repeat (first | with_reducible assumption | with_reducible exact zs_eq (by first | assumption | (simp only [List.length_set]; assumption)) | refine zs_ne (by first | with_reducible assumption | exact Ne.symm (by with_reducible assumption) | omega) ?_)) rfl ?_
  refine vp_X3_27 C dX3_become_53 (by repeat (first | with_reducible assumption | with_reducible exact zs_eq (by first | assumption | (simp only [List.length_set]; assumption)) | refine zs_ne (by first | with_reducible assumption | exact Ne.symm (by with_reducible assumption) | omega) ?_)) (Nat.le_of_ble_eq_true rfl) ?_
  refine V_aload_n C dX3_become_56 rfl ?_
  refine V_aload_n C dX3_become_57 rfl ?_
  refine vg_X3_31 C dX3_become_58 (by repeat (first | with_reducible assumption | with_reducible exact zs_eq (by first | assumption | (simp only [List.length_set]; assumption)) | refine zs_ne (by first | with_reducible assumption | exact Ne.symm (by with_reducible assumption) | omega) ?_)) rfl ?_
  refine vp_X3_31 C dX3_become_61 (by repeat (first | with_reducible assumption | with_reducible exact zs_eq (by first | assumption | (simp only [List.length_set]; assumption)) | refine zs_ne (by first | with_reducible assumption | exact Ne.symm (by with_reducible assumption) | omega) ?_)) (Nat.le_of_ble_eq_true rfl) ?_
  exact V_vret C R dX3_become_64 ⟨rfl, by unfold toP; rw [List.set_set]; rfl⟩
