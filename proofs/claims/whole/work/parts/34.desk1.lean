/-! ===== Desk: its cells ===== -/
def dkL (G : zG) (f : Int → Int) (L c : Int) (bf : Int → Int) (bL bc : Int) (pf pl pc : Int → Int) (nx sz : Int) (k kf : Int → Int) (ks : Int) (lf : Int → Int) (ls : Int) (sf : Int → Int) (sl : Int) (mf rf : Int → Int) (ty pla fro to : Int) : List va_E :=
  [.inr (1, [.ref (G.ad 1), .ref (G.ad 3), .ref (G.ad 5), .ref (G.ad 9), .ref (G.ad 12), .ref (G.ad 14), .int (iI sl), .ref (G.ad 15), .ref (G.ad 16), .int (iI ty), .int (iI pla), .int (iI fro), .int (iI to)]),
   .inr (5, [.ref (G.ad 2), .int (iI L), .int (iI c)]), zI G 60 f, .inr (5, [.ref (G.ad 4), .int (iI bL), .int (iI bc)]), zI G 60 bf,
   oP G 6 7 8 nx sz, zI G 480 pf, zI G 8 pl, zI G 8 pc, oC G 10 k, oK G 11 ks, zI G 30 kf, oK G 13 ls, zI G 30 lf, zI G 60 sf, zI G 4 mf, zI G 7 rf]

/-- bits, one by one -/
def bsN (P : Int → Bool) : Nat → Int
  | 0 => 0
  | n + 1 => bsN P n + (if P n then 2 ^ n else 0)
theorem bsN_in (P : Int → Bool) : ∀ n : Nat, 0 ≤ bsN P n ∧ bsN P n < 2 ^ n
  | 0 => ⟨Int.le_refl _, show (0 : Int) < 2 ^ 0 by decide⟩
  | n + 1 => by
    have h := bsN_in P n
    have e : (2 : Int) ^ (n + 1) = 2 ^ n + 2 ^ n := by rw [Int.pow_succ]; omega
    rw [bsN, e]
    split <;> omega
theorem bs_lt (P : Int → Bool) {q : Nat} (h : q < 8) : bsN P q < 128 := by
  have hb := bsN_in P q
  have h2 : (2 : Int) ^ q ≤ 128 := by
    have : q = 0 ∨ q = 1 ∨ q = 2 ∨ q = 3 ∨ q = 4 ∨ q = 5 ∨ q = 6 ∨ q = 7 := by omega
    rcases this with rfl | rfl | rfl | rfl | rfl | rfl | rfl | rfl <;> decide
  omega
theorem bs_or : ∀ (n : Fin 8) (s : Fin 128), s.val < 2 ^ n.val → iI (s.val : Int) ||| (iI 1 <<< (iI (n.val : Int) &&& 31)) = iI ((s.val : Int) + 2 ^ n.val) := by decide +kernel
theorem bs_or2 {n : Nat} {s : Int} (hn : n < 8) (h0 : 0 ≤ s) (h1 : s < 2 ^ n) (h2 : s < 128) : iI s ||| (iI 1 <<< (iI (n : Int) &&& 31)) = iI (s + 2 ^ n) := by
  have h3 : s.toNat < 2 ^ n := by
    have : ((2 ^ n : Nat) : Int) = (2 : Int) ^ n := Int.natCast_pow 2 n
    omega
  have h := bs_or ⟨n, hn⟩ ⟨s.toNat, by omega⟩ h3
  simp only [Int.toNat_of_nonneg h0] at h
  exact h
def ldN (f : Int → Int) (L m : Int) : Nat → Int → Int
  | 0, p => p
  | n + 1, p => ldN f L m n (ld f L m p)
theorem ldN_in {f : Int → Int} {L m : Int} : ∀ (n : Nat) (p : Int), 0 ≤ p → p ≤ L → 0 ≤ ldN f L m n p ∧ ldN f L m n p ≤ L
  | 0, p, h, h2 => ⟨h, h2⟩
  | n + 1, p, h, h2 => by
    have := ld_in (f := f) (m := m) h h2
    exact ldN_in n _ this.1 this.2
/-- where a mark is -/
def pmk (mf : Int → Int) (L a : Int) : Int := if 0 ≤ a ∧ a < 4 ∧ mf a ≠ -1 then min (mf a) L else -1
/-- where a motion leads from the cursor, n times; -1: it fails -/
def plc (f : Int → Int) (L c : Int) (mf : Int → Int) (m n a : Int) : Int := if m = 9 then pmk mf L a else if 7 ≤ m then fb f L a n (min c (la L) + 1) 0 else ldN f L m n.toNat (min c (la L))
theorem plc_1 {f : Int → Int} {L c : Int} {mf : Int → Int} {m n a : Int} (h : m = 9) : plc f L c mf m n a = pmk mf L a := if_pos h
theorem plc_2 {f : Int → Int} {L c : Int} {mf : Int → Int} {m n a : Int} (h : m ≠ 9) (h2 : 7 ≤ m) : plc f L c mf m n a = fb f L a n (min c (la L) + 1) 0 := by unfold plc; rw [if_neg h, if_pos h2]
theorem plc_3 {f : Int → Int} {L c : Int} {mf : Int → Int} {m n a : Int} (h2 : m < 7) : plc f L c mf m n a = ldN f L m n.toNat (min c (la L)) := by unfold plc; rw [if_neg (by omega), if_neg (by omega)]
abbrev tkP (m : Int) : Prop := m = 3 ∨ m = 6 ∨ m = 7 ∨ m = 8
/-- place, from, to behind aimByMotion -/
def aMp (p m : Int) : Int := if p = -1 then -1 else if m = 8 then p - 1 else p
def aMf (L c p m fro : Int) : Int := if p = -1 then fro else min (min c (la L)) (aMp p m)
def aMt (L c p m to : Int) : Int := if p = -1 then to else min L (max (min c (la L)) (aMp p m) + b2z (tkP m))

set_option maxRecDepth 100000 in
theorem m_X1_isPending (G : zG) {f bf pf pl pc k kf lf sf mf rf : Int → Int} {L c bL bc nx sz ks ls sl ty pla fro to : Int} {rest : List va_E} (ht : rng ty) (hk : rng ks) : zMet G yX1_isPending cX1_isPending 1 (some .boolean) 0 0 [.ref (G.ad 0)] (dkL G f L c bf bL bc pf pl pc nx sz k kf ks lf ls sf sl mf rf ty pla fro to ++ rest) (zO (.int (iI (b2z (ty = 0 ∧ 0 < ks)))) (dkL G f L c bf bL bc pf pl pc nx sz k kf ks lf ls sf sl mf rf ty pla fro to ++ rest)) := by
  refine zMet.of (by decide) (Nat.le_of_ble_eq_true rfl) ?_
  intro E C R
  have C : zC G E RX1 cX1_isPending 1 0 0 := C
  show V G E 0 [some (.ref (G.ad 0))] [] (dkL G f L c bf bL bc pf pl pc nx sz k kf ks lf ls sf sl mf rf ty pla fro to ++ rest)
  refine V_aload_n C dX1_isPending_0 rfl ?_
  refine vg_X1_75 C dX1_isPending_1 rfl rfl ?_
  refine V_if_ne (tgt := 24) C dX1_isPending_4 (by decide) (by omega) (fun c_4 => ?_) (fun c_4 => ?_)
  · skip
    refine V_iconst C dX1_isPending_24 ?_
    exact V_zret C R dX1_isPending_25 (by first | decide | omega) (zO_i (by first | exact b2z_1 (by omega) | exact b2z_0 (by omega)))
  · skip
    refine V_aload_n C dX1_isPending_7 rfl ?_
    refine vg_X1_31 C dX1_isPending_8 rfl rfl ?_
    refine vg_X1_101 C dX1_isPending_11 rfl rfl ?_
    refine vg_X1_97 C dX1_isPending_14 rfl rfl ?_
    refine V_if_le (tgt := 24) C dX1_isPending_17 (by decide) (by omega) (fun c_17 => ?_) (fun c_17 => ?_)
    · skip
      refine V_iconst C dX1_isPending_24 ?_
      exact V_zret C R dX1_isPending_25 (by first | decide | omega) (zO_i (by first | exact b2z_1 (by omega) | exact b2z_0 (by omega)))
    · skip
      refine V_iconst C dX1_isPending_20 ?_
      refine V_goto (tgt := 25) C dX1_isPending_21 (by decide) ?_
      exact V_zret C R dX1_isPending_25 (by first | decide | omega) (zO_i (by first | exact b2z_1 (by omega) | exact b2z_0 (by omega)))

set_option maxRecDepth 100000 in
theorem m_X1_markSet (G : zG) {f bf pf pl pc k kf lf sf mf rf : Int → Int} {L c bL bc nx sz ks ls sl ty pla fro to : Int} {rest : List va_E} (hm : ∀ k, rng (mf k)) : zMet G yX1_markSet cX1_markSet 3 (some .int) 0 0 [.ref (G.ad 0)] (dkL G f L c bf bL bc pf pl pc nx sz k kf ks lf ls sf sl mf rf ty pla fro to ++ rest) (zO (.int (iI (bsN (fun j => decide (mf j ≠ -1)) 4))) (dkL G f L c bf bL bc pf pl pc nx sz k kf ks lf ls sf sl mf rf ty pla fro to ++ rest)) := by
  refine zMet.of (by decide) (Nat.le_of_ble_eq_true rfl) ?_
  intro E C R
  have C : zC G E RX1 cX1_markSet 3 0 0 := C
  show V G E 0 [some (.ref (G.ad 0)), none, none] [] (dkL G f L c bf bL bc pf pl pc nx sz k kf ks lf ls sf sl mf rf ty pla fro to ++ rest)
  refine V_iconst C dX1_markSet_0 ?_
  refine V_istore_n C dX1_markSet_1 (by decide) rfl ?_
  refine V_iconst C dX1_markSet_2 ?_
  refine V_istore_n C dX1_markSet_3 (by decide) rfl ?_
  refine V_loop (α := Nat) (fun x => 10 - x) (fun x => x ≤ 4) (fun x => V G E 4 [some (.ref (G.ad 0)), some (.int (iI (bsN (fun j => decide (mf j ≠ -1)) x))), some (.int (iI (x : Int)))] [] (dkL G f L c bf bL bc pf pl pc nx sz k kf ks lf ls sf sl mf rf ty pla fro to ++ rest)) ?_ 0 (by omega)
  rintro q g1 ih_4
  have hb := bsN_in (fun j => decide (mf j ≠ -1)) q
  refine V_iload_n C dX1_markSet_4 rfl ?_
  refine V_iconst C dX1_markSet_5 ?_
  refine V_icmp_ge (tgt := 31) C dX1_markSet_6 (by decide) (by omega) (by omega) (fun c_6 => ?_) (fun c_6 => ?_)
  · skip
    refine V_iload_n C dX1_markSet_31 rfl ?_
    exact V_iret C R dX1_markSet_32 (zO_i (by rw [show q = 4 by omega]))
  · skip
    refine V_aload_n C dX1_markSet_9 rfl ?_
    refine vg_X1_46 C dX1_markSet_10 rfl rfl ?_
    refine V_iload_n C dX1_markSet_13 rfl ?_
    refine V_iald C dX1_markSet_14 rfl (by omega) (by omega) (by decide) hm (fun r_14 => ?_)
    refine V_iconst C dX1_markSet_15 ?_
    refine V_icmp_eq (tgt := 25) C dX1_markSet_16 (by decide) (by omega) (by omega) (fun c_16 => ?_) (fun c_16 => ?_)
    · skip
      refine V_iinc C dX1_markSet_25 rfl (by decide) rfl ?_
      refine V_goto (tgt := 4) C dX1_markSet_28 (by decide) ?_
      have e1 : bsN (fun j => decide (mf j ≠ -1)) (q + 1) = _ := bsN.eq_2 _ _
      first
        | (rw [if_pos (by simpa using c_16)] at e1; rw [← e1]; exact ih_4 (q + 1) (by omega) (by omega))
        | (rw [if_neg (by simpa using c_16), Int.add_zero] at e1; rw [← e1]; exact ih_4 (q + 1) (by omega) (by omega))
    · skip
      refine V_iload_n C dX1_markSet_19 rfl ?_
      refine V_iconst C dX1_markSet_20 ?_
      refine V_iload_n C dX1_markSet_21 rfl ?_
      refine V_ishl (z := _) C dX1_markSet_22 (iI_of _).symm ?_
      refine V_ior (z := bsN (fun j => decide (mf j ≠ -1)) q + 2 ^ q) C dX1_markSet_23 (by rw [iI_of]; exact bs_or2 (by omega) hb.1 hb.2 (bs_lt _ (by omega))) ?_
      refine V_istore_n C dX1_markSet_24 (by decide) rfl ?_
      refine V_iinc C dX1_markSet_25 rfl (by decide) rfl ?_
      refine V_goto (tgt := 4) C dX1_markSet_28 (by decide) ?_
      have e1 : bsN (fun j => decide (mf j ≠ -1)) (q + 1) = _ := bsN.eq_2 _ _
      first
        | (rw [if_pos (by simpa using c_16)] at e1; rw [← e1]; exact ih_4 (q + 1) (by omega) (by omega))
        | (rw [if_neg (by simpa using c_16), Int.add_zero] at e1; rw [← e1]; exact ih_4 (q + 1) (by omega) (by omega))

set_option maxRecDepth 100000 in
theorem m_X1_takesPlace (G : zG) {cs : List va_E} {m : Int} (hm : rng m) : zMet G yX1_takesPlace cX1_takesPlace 1 (some .boolean) 0 0 [.int (iI m)] cs (zO (.int (iI (b2z (tkP m)))) cs) := by
  refine zMet.of (by decide) (Nat.le_of_ble_eq_true rfl) ?_
  intro E C R
  have C : zC G E RX1 cX1_takesPlace 1 0 0 := C
  show V G E 0 [some (.int (iI m))] [] cs
  refine V_iload_n C dX1_takesPlace_0 rfl ?_
  refine V_iconst C dX1_takesPlace_1 ?_
  refine V_icmp_eq (tgt := 23) C dX1_takesPlace_2 (by decide) (by omega) (by omega) (fun c_2 => ?_) (fun c_2 => ?_)
  · skip
    refine V_iconst C dX1_takesPlace_23 ?_
    refine V_goto (tgt := 28) C dX1_takesPlace_24 (by decide) ?_
    exact V_zret C R dX1_takesPlace_28 (by first | decide | omega) (zO_i (by first | exact b2z_1 (by omega) | exact b2z_0 (by omega)))
  · skip
    refine V_iload_n C dX1_takesPlace_5 rfl ?_
    refine V_bipush C dX1_takesPlace_6 (by decide) ?_
    refine V_icmp_eq (tgt := 23) C dX1_takesPlace_8 (by decide) (by omega) (by omega) (fun c_8 => ?_) (fun c_8 => ?_)
    · skip
      refine V_iconst C dX1_takesPlace_23 ?_
      refine V_goto (tgt := 28) C dX1_takesPlace_24 (by decide) ?_
      exact V_zret C R dX1_takesPlace_28 (by first | decide | omega) (zO_i (by first | exact b2z_1 (by omega) | exact b2z_0 (by omega)))
    · skip
      refine V_iload_n C dX1_takesPlace_11 rfl ?_
      refine V_bipush C dX1_takesPlace_12 (by decide) ?_
      refine V_icmp_eq (tgt := 23) C dX1_takesPlace_14 (by decide) (by omega) (by omega) (fun c_14 => ?_) (fun c_14 => ?_)
      · skip
        refine V_iconst C dX1_takesPlace_23 ?_
        refine V_goto (tgt := 28) C dX1_takesPlace_24 (by decide) ?_
        exact V_zret C R dX1_takesPlace_28 (by first | decide | omega) (zO_i (by first | exact b2z_1 (by omega) | exact b2z_0 (by omega)))
      · skip
        refine V_iload_n C dX1_takesPlace_17 rfl ?_
        refine V_bipush C dX1_takesPlace_18 (by decide) ?_
        refine V_icmp_ne (tgt := 27) C dX1_takesPlace_20 (by decide) (by omega) (by omega) (fun c_20 => ?_) (fun c_20 => ?_)
        · skip
          refine V_iconst C dX1_takesPlace_27 ?_
          exact V_zret C R dX1_takesPlace_28 (by first | decide | omega) (zO_i (by first | exact b2z_1 (by omega) | exact b2z_0 (by omega)))
        · skip
          refine V_iconst C dX1_takesPlace_23 ?_
          refine V_goto (tgt := 28) C dX1_takesPlace_24 (by decide) ?_
          exact V_zret C R dX1_takesPlace_28 (by first | decide | omega) (zO_i (by first | exact b2z_1 (by omega) | exact b2z_0 (by omega)))

set_option maxRecDepth 100000 in
theorem m_X1_placeOfMark (G : zG) {f bf pf pl pc k kf lf sf mf rf : Int → Int} {L c bL bc nx sz ks ls sl ty pla fro to : Int} {rest : List va_E} {a : Int} (ha : rng a) (hm : ∀ k, rng (mf k)) (hL : 0 ≤ L ∧ L ≤ 60) : zMet G yX1_placeOfMark cX1_placeOfMark 3 (some .int) 1 21 [.ref (G.ad 0), .int (iI a)] (dkL G f L c bf bL bc pf pl pc nx sz k kf ks lf ls sf sl mf rf ty pla fro to ++ rest) (zO (.int (iI (pmk mf L a))) (dkL G f L c bf bL bc pf pl pc nx sz k kf ks lf ls sf sl mf rf ty pla fro to ++ rest)) := by
  refine zMet.of (by decide) (Nat.le_of_ble_eq_true rfl) ?_
  intro E C R
  have C : zC G E RX1 cX1_placeOfMark 3 1 21 := C
  show V G E 0 [some (.ref (G.ad 0)), some (.int (iI a)), none] [] (dkL G f L c bf bL bc pf pl pc nx sz k kf ks lf ls sf sl mf rf ty pla fro to ++ rest)
  refine V_midb (pc2 := 24) (0 ≤ a ∧ a < 4 ∧ mf a ≠ -1) ?_ (fun kt_0 kf_0 => ?_)
  · skip
    refine V_istore_n C dX1_placeOfMark_24 (by decide) rfl ?_
    refine V_iload_n C dX1_placeOfMark_25 rfl ?_
    refine V_if_eqB (tgt := 48) C dX1_placeOfMark_26 (by decide) (fun c_26 => ?_) (fun c_26 => ?_)
    · skip
      refine V_iconst C dX1_placeOfMark_48 ?_
      exact V_iret C R dX1_placeOfMark_49 (zO_i (by unfold pmk; first | rw [if_pos (by omega)] | rw [if_neg (by omega)]))
    · skip
      refine V_aload_n C dX1_placeOfMark_29 rfl ?_
      refine vg_X1_46 C dX1_placeOfMark_30 rfl rfl ?_
      refine V_iload_n C dX1_placeOfMark_33 rfl ?_
      refine V_iald C dX1_placeOfMark_34 rfl (by omega) (by omega) (by decide) hm (fun r_34 => ?_)
      refine V_aload_n C dX1_placeOfMark_35 rfl ?_
      refine vg_X1_12 C dX1_placeOfMark_36 rfl rfl ?_
      refine vg_X1_82 C dX1_placeOfMark_39 rfl rfl ?_
      refine V_min C wm_X1_200 dX1_placeOfMark_42 (by omega) (by omega) (by decide) (Nat.le_of_ble_eq_true rfl) ?_
      refine V_goto (tgt := 49) C dX1_placeOfMark_45 (by decide) ?_
      exact V_iret C R dX1_placeOfMark_49 (zO_i (by unfold pmk; first | rw [if_pos (by omega)] | rw [if_neg (by omega)]))
  · skip
    refine V_iload_n C dX1_placeOfMark_0 rfl ?_
    refine V_if_lt (tgt := 23) C dX1_placeOfMark_1 (by decide) (by omega) (fun c_1 => ?_) (fun c_1 => ?_)
    · skip
      refine V_iconst C dX1_placeOfMark_23 ?_
      exact kf_0 (by omega)
    · skip
      refine V_iload_n C dX1_placeOfMark_4 rfl ?_
      refine V_iconst C dX1_placeOfMark_5 ?_
      refine V_icmp_ge (tgt := 23) C dX1_placeOfMark_6 (by decide) (by omega) (by omega) (fun c_6 => ?_) (fun c_6 => ?_)
      · skip
        refine V_iconst C dX1_placeOfMark_23 ?_
        exact kf_0 (by omega)
      · skip
        refine V_aload_n C dX1_placeOfMark_9 rfl ?_
        refine vg_X1_46 C dX1_placeOfMark_10 rfl rfl ?_
        refine V_iload_n C dX1_placeOfMark_13 rfl ?_
        refine V_iald C dX1_placeOfMark_14 rfl (by omega) (by omega) (by decide) hm (fun r_14 => ?_)
        refine V_iconst C dX1_placeOfMark_15 ?_
        refine V_icmp_eq (tgt := 23) C dX1_placeOfMark_16 (by decide) (by omega) (by omega) (fun c_16 => ?_) (fun c_16 => ?_)
        · skip
          refine V_iconst C dX1_placeOfMark_23 ?_
          exact kf_0 (by omega)
        · skip
          refine V_iconst C dX1_placeOfMark_19 ?_
          refine V_goto (tgt := 24) C dX1_placeOfMark_20 (by decide) ?_
          exact kt_0 (by omega)

set_option maxRecDepth 100000 in
theorem m_X1_aimByMotion (G : zG) {f bf pf pl pc k kf lf sf mf rf : Int → Int} {L c bL bc nx sz ks ls sl ty pla fro to : Int} {rest : List va_E} {m n a : Int} (hf : ∀ k, rng (f k)) (hL : 0 ≤ L ∧ L ≤ 60) (hc : 0 ≤ c ∧ c ≤ 60) (hm : 0 ≤ m ∧ m ≤ 9) (hn : 0 ≤ n ∧ n ≤ 99) (ha : rng a) (hmf : ∀ k, rng (mf k)) (hmg : ∀ k, -1 ≤ mf k) : zMet G yX1_aimByMotion cX1_aimByMotion 6 (some .boolean) 3 71 [.ref (G.ad 0), .int (iI m), .int (iI n), .int (iI a)] (dkL G f L c bf bL bc pf pl pc nx sz k kf ks lf ls sf sl mf rf ty pla fro to ++ rest) (zO (.int (iI (b2z (plc f L c mf m n a ≠ -1)))) (dkL G f L c bf bL bc pf pl pc nx sz k kf ks lf ls sf sl mf rf ty (aMp (plc f L c mf m n a) m) (aMf L c (plc f L c mf m n a) m fro) (aMt L c (plc f L c mf m n a) m to) ++ rest)) := by
  refine zMet.of (by decide) (Nat.le_of_ble_eq_true rfl) ?_
  intro E C R
  have C : zC G E RX1 cX1_aimByMotion 6 3 71 := C
  show V G E 0 [some (.ref (G.ad 0)), some (.int (iI m)), some (.int (iI n)), some (.int (iI a)), none, none] [] (dkL G f L c bf bL bc pf pl pc nx sz k kf ks lf ls sf sl mf rf ty pla fro to ++ rest)
  have hla := la_in hL.1
  have hfb := fb_in f L a n (min c (la L) + 1) 0
  have hmk := hmg a
  refine V_aload_n C dX1_aimByMotion_0 rfl ?_
  refine vg_X1_12 C dX1_aimByMotion_1 rfl rfl ?_
  refine V_callN C lk_X1_184 (m_X5_standing G (i := 1) (j := 2) ⟨rfl, rfl, hf, by omega, by omega⟩ (by omega)) dX1_aimByMotion_4 rfl rfl rfl rfl (by decide) (Nat.le_of_ble_eq_true rfl) (kO ?_)
  refine V_istore C dX1_aimByMotion_7 (by decide) rfl ?_
  refine V_aload_n C dX1_aimByMotion_9 rfl ?_
  refine V_iload C dX1_aimByMotion_10 rfl ?_
  refine vp_X1_187 C dX1_aimByMotion_12 rfl (Nat.le_of_ble_eq_true rfl) ?_
  refine V_iload_n C dX1_aimByMotion_15 rfl ?_
  refine V_bipush C dX1_aimByMotion_16 (by decide) ?_
  refine V_icmp_ne (tgt := 33) C dX1_aimByMotion_18 (by decide) (by omega) (by omega) (fun c_18 => ?_) (fun c_18 => ?_)
  · skip
    refine V_iload_n C dX1_aimByMotion_33 rfl ?_
    refine V_bipush C dX1_aimByMotion_34 (by decide) ?_
    refine V_icmp_lt (tgt := 57) C dX1_aimByMotion_36 (by decide) (by omega) (by omega) (fun c_36 => ?_) (fun c_36 => ?_)
    · skip
      refine V_iconst C dX1_aimByMotion_57 ?_
      refine V_istore C dX1_aimByMotion_58 (by decide) rfl ?_
      refine V_loop (α := Int × Int) (fun x => (200 - x.1).toNat) (fun x => 0 ≤ x.1 ∧ x.1 ≤ n ∧ 0 ≤ x.2 ∧ x.2 ≤ L ∧ ldN f L m (n - x.1).toNat x.2 = ldN f L m n.toNat (min c (la L))) (fun x => V G E 60 [some (.ref (G.ad 0)), some (.int (iI m)), some (.int (iI n)), some (.int (iI a)), some (.int (iI (min c (la L)))), some (.int (iI x.1))] [] (dkL G f L c bf bL bc pf pl pc nx sz k kf ks lf ls sf sl mf rf ty (x.2) fro to ++ rest)) ?_ (0, min c (la L)) ⟨by omega, by omega, by omega, by omega, by simp⟩
      rintro ⟨q, p⟩ ⟨g1, g2, g3, g4, g5⟩ ih_60
      dsimp only at *
      have hp := ld_in (f := f) (m := m) g3 g4
      refine V_iload C dX1_aimByMotion_60 rfl ?_
      refine V_iload_n C dX1_aimByMotion_62 rfl ?_
      refine V_icmp_ge (tgt := 88) C dX1_aimByMotion_63 (by decide) (by omega) (by omega) (fun c_63 => ?_) (fun c_63 => ?_)
      · skip
        first
          | (have e0 : plc f L c mf m n a = pmk mf L a := plc_1 (by omega))
          | (have e0 : plc f L c mf m n a = fb f L a n (min c (la L) + 1) 0 := plc_2 (by omega) (by omega))
          | (have e0 : plc f L c mf m n a = p := by rw [plc_3 (by omega), ← g5, show (n - q).toNat = 0 by omega]; rfl)
        rw [← e0]
        have hpl : -1 ≤ plc f L c mf m n a ∧ plc f L c mf m n a ≤ 60 := by rw [e0]; first | omega | (unfold pmk; split <;> omega)
        generalize plc f L c mf m n a = pl0 at hpl R ⊢
        clear e0
        refine V_aload_n C dX1_aimByMotion_88 rfl ?_
        refine vg_X1_187 C dX1_aimByMotion_89 rfl rfl ?_
        refine V_iconst C dX1_aimByMotion_92 ?_
        refine V_icmp_ne (tgt := 98) C dX1_aimByMotion_93 (by decide) (by omega) (by omega) (fun c_93 => ?_) (fun c_93 => ?_)
        · skip
          skip
          refine V_iload_n C dX1_aimByMotion_98 rfl ?_
          refine V_bipush C dX1_aimByMotion_99 (by decide) ?_
          refine V_icmp_ne (tgt := 114) C dX1_aimByMotion_101 (by decide) (by omega) (by omega) (fun c_101 => ?_) (fun c_101 => ?_)
          · skip
            refine V_aload_n C dX1_aimByMotion_114 rfl ?_
            refine V_iload C dX1_aimByMotion_115 rfl ?_
            refine V_aload_n C dX1_aimByMotion_117 rfl ?_
            refine vg_X1_187 C dX1_aimByMotion_118 rfl rfl ?_
            refine V_min C wm_X1_200 dX1_aimByMotion_121 (by omega) (by omega) (by decide) (Nat.le_of_ble_eq_true rfl) ?_
            refine vp_X1_178 C dX1_aimByMotion_124 rfl (Nat.le_of_ble_eq_true rfl) ?_
            refine V_aload_n C dX1_aimByMotion_127 rfl ?_
            refine V_aload_n C dX1_aimByMotion_128 rfl ?_
            refine vg_X1_12 C dX1_aimByMotion_129 rfl rfl ?_
            refine vg_X1_82 C dX1_aimByMotion_132 rfl rfl ?_
            refine V_iload C dX1_aimByMotion_135 rfl ?_
            refine V_aload_n C dX1_aimByMotion_137 rfl ?_
            refine vg_X1_187 C dX1_aimByMotion_138 rfl rfl ?_
            refine V_max C wm_X1_142 dX1_aimByMotion_141 (by omega) (by omega) (by decide) (Nat.le_of_ble_eq_true rfl) ?_
            refine V_midz (pc2 := 156) (b2z (tkP m)) ?_ (fun kk_144 => ?_)
            · skip
              have hbz := b2z_rng (tkP m)
              have hbz2 : 0 ≤ b2z (tkP m) ∧ b2z (tkP m) ≤ 1 := by unfold b2z; split <;> omega
              refine V_iadd C dX1_aimByMotion_156 ?_
              refine V_min C wm_X1_200 dX1_aimByMotion_157 (by omega) (by omega) (by decide) (Nat.le_of_ble_eq_true rfl) ?_
              refine vp_X1_181 C dX1_aimByMotion_160 rfl (Nat.le_of_ble_eq_true rfl) ?_
              refine V_iconst C dX1_aimByMotion_163 ?_
              exact V_zret C R dX1_aimByMotion_164 (by first | decide | omega) ⟨by rw [b2z_t (by omega)], by first | (rw [show aMp pl0 m = pl0 - 1 by unfold aMp; rw [if_neg (by omega), if_pos (by omega)], show aMf L c pl0 m fro = min (min c (la L)) (pl0 - 1) by unfold aMf aMp; rw [if_neg (by omega), if_neg (by omega), if_pos (by omega)], show aMt L c pl0 m to = min L (max (min c (la L)) (pl0 - 1) + b2z (tkP m)) by unfold aMt aMp; rw [if_neg (by omega), if_neg (by omega), if_pos (by omega)]]; rfl) | (rw [show aMp pl0 m = pl0 by unfold aMp; rw [if_neg (by omega), if_neg (by omega)], show aMf L c pl0 m fro = min (min c (la L)) pl0 by unfold aMf aMp; rw [if_neg (by omega), if_neg (by omega), if_neg (by omega)], show aMt L c pl0 m to = min L (max (min c (la L)) pl0 + b2z (tkP m)) by unfold aMt aMp; rw [if_neg (by omega), if_neg (by omega), if_neg (by omega)]]; rfl)⟩
            · skip
              refine V_iload_n C dX1_aimByMotion_144 rfl ?_
              refine V_callS C lk_X1_203 (m_X1_takesPlace G (by omega)) dX1_aimByMotion_145 rfl rfl (by decide) (Nat.le_of_ble_eq_true rfl) (kO ?_)
              refine V_if_eqB (tgt := 155) C dX1_aimByMotion_148 (by decide) (fun c_148 => ?_) (fun c_148 => ?_)
              · skip
                refine V_iconst C dX1_aimByMotion_155 ?_
                exact kk_144 _ (by first | exact b2z_1 (by assumption) | exact b2z_0 (by assumption))
              · skip
                refine V_iconst C dX1_aimByMotion_151 ?_
                refine V_goto (tgt := 156) C dX1_aimByMotion_152 (by decide) ?_
                exact kk_144 _ (by first | exact b2z_1 (by assumption) | exact b2z_0 (by assumption))
          · skip
            refine V_aload_n C dX1_aimByMotion_104 rfl ?_
            refine V_dup C dX1_aimByMotion_105 rfl ?_
            refine vg_X1_187 C dX1_aimByMotion_106 rfl rfl ?_
            refine V_iconst C dX1_aimByMotion_109 ?_
            refine V_isub C dX1_aimByMotion_110 ?_
            refine vp_X1_187 C dX1_aimByMotion_111 rfl (Nat.le_of_ble_eq_true rfl) ?_
            refine V_aload_n C dX1_aimByMotion_114 rfl ?_
            refine V_iload C dX1_aimByMotion_115 rfl ?_
            refine V_aload_n C dX1_aimByMotion_117 rfl ?_
            refine vg_X1_187 C dX1_aimByMotion_118 rfl rfl ?_
            refine V_min C wm_X1_200 dX1_aimByMotion_121 (by omega) (by omega) (by decide) (Nat.le_of_ble_eq_true rfl) ?_
            refine vp_X1_178 C dX1_aimByMotion_124 rfl (Nat.le_of_ble_eq_true rfl) ?_
            refine V_aload_n C dX1_aimByMotion_127 rfl ?_
            refine V_aload_n C dX1_aimByMotion_128 rfl ?_
            refine vg_X1_12 C dX1_aimByMotion_129 rfl rfl ?_
            refine vg_X1_82 C dX1_aimByMotion_132 rfl rfl ?_
            refine V_iload C dX1_aimByMotion_135 rfl ?_
            refine V_aload_n C dX1_aimByMotion_137 rfl ?_
            refine vg_X1_187 C dX1_aimByMotion_138 rfl rfl ?_
            refine V_max C wm_X1_142 dX1_aimByMotion_141 (by omega) (by omega) (by decide) (Nat.le_of_ble_eq_true rfl) ?_
            refine V_midz (pc2 := 156) (b2z (tkP m)) ?_ (fun kk_144 => ?_)
            · skip
              have hbz := b2z_rng (tkP m)
              have hbz2 : 0 ≤ b2z (tkP m) ∧ b2z (tkP m) ≤ 1 := by unfold b2z; split <;> omega
              refine V_iadd C dX1_aimByMotion_156 ?_
              refine V_min C wm_X1_200 dX1_aimByMotion_157 (by omega) (by omega) (by decide) (Nat.le_of_ble_eq_true rfl) ?_
              refine vp_X1_181 C dX1_aimByMotion_160 rfl (Nat.le_of_ble_eq_true rfl) ?_
              refine V_iconst C dX1_aimByMotion_163 ?_
              exact V_zret C R dX1_aimByMotion_164 (by first | decide | omega) ⟨by rw [b2z_t (by omega)], by first | (rw [show aMp pl0 m = pl0 - 1 by unfold aMp; rw [if_neg (by omega), if_pos (by omega)], show aMf L c pl0 m fro = min (min c (la L)) (pl0 - 1) by unfold aMf aMp; rw [if_neg (by omega), if_neg (by omega), if_pos (by omega)], show aMt L c pl0 m to = min L (max (min c (la L)) (pl0 - 1) + b2z (tkP m)) by unfold aMt aMp; rw [if_neg (by omega), if_neg (by omega), if_pos (by omega)]]; rfl) | (rw [show aMp pl0 m = pl0 by unfold aMp; rw [if_neg (by omega), if_neg (by omega)], show aMf L c pl0 m fro = min (min c (la L)) pl0 by unfold aMf aMp; rw [if_neg (by omega), if_neg (by omega), if_neg (by omega)], show aMt L c pl0 m to = min L (max (min c (la L)) pl0 + b2z (tkP m)) by unfold aMt aMp; rw [if_neg (by omega), if_neg (by omega), if_neg (by omega)]]; rfl)⟩
            · skip
              refine V_iload_n C dX1_aimByMotion_144 rfl ?_
              refine V_callS C lk_X1_203 (m_X1_takesPlace G (by omega)) dX1_aimByMotion_145 rfl rfl (by decide) (Nat.le_of_ble_eq_true rfl) (kO ?_)
              refine V_if_eqB (tgt := 155) C dX1_aimByMotion_148 (by decide) (fun c_148 => ?_) (fun c_148 => ?_)
              · skip
                refine V_iconst C dX1_aimByMotion_155 ?_
                exact kk_144 _ (by first | exact b2z_1 (by assumption) | exact b2z_0 (by assumption))
              · skip
                refine V_iconst C dX1_aimByMotion_151 ?_
                refine V_goto (tgt := 156) C dX1_aimByMotion_152 (by decide) ?_
                exact kk_144 _ (by first | exact b2z_1 (by assumption) | exact b2z_0 (by assumption))
        · skip
          refine V_iconst C dX1_aimByMotion_96 ?_
          exact V_zret C R dX1_aimByMotion_97 (by first | decide | omega) ⟨by rw [b2z_f (by omega)], by rw [show pl0 = -1 by omega]; rfl⟩
      · skip
        refine V_aload_n C dX1_aimByMotion_66 rfl ?_
        refine V_aload_n C dX1_aimByMotion_67 rfl ?_
        refine vg_X1_12 C dX1_aimByMotion_68 rfl rfl ?_
        refine V_iload_n C dX1_aimByMotion_71 rfl ?_
        refine V_aload_n C dX1_aimByMotion_72 rfl ?_
        refine vg_X1_187 C dX1_aimByMotion_73 rfl rfl ?_
        refine V_callN C lk_X1_197 (m_X5_lead G (i := 1) (j := 2) ⟨rfl, rfl, hf, by omega, by omega⟩ (by omega) (by omega)) dX1_aimByMotion_76 rfl rfl rfl rfl (by decide) (Nat.le_of_ble_eq_true rfl) (kO ?_)
        refine vp_X1_187 C dX1_aimByMotion_79 rfl (Nat.le_of_ble_eq_true rfl) ?_
        refine V_iinc C dX1_aimByMotion_82 rfl (by decide) rfl ?_
        refine V_goto (tgt := 60) C dX1_aimByMotion_85 (by decide) ?_
        exact ih_60 (q + 1, ld f L m p) ⟨by omega, by omega, by omega, by omega, by rw [← g5, show (n - q).toNat = (n - (q + 1)).toNat + 1 by omega]; rfl⟩ (by dsimp only; omega)
    · skip
      refine V_aload_n C dX1_aimByMotion_39 rfl ?_
      refine V_aload_n C dX1_aimByMotion_40 rfl ?_
      refine vg_X1_12 C dX1_aimByMotion_41 rfl rfl ?_
      refine V_iload C dX1_aimByMotion_44 rfl ?_
      refine V_iload_n C dX1_aimByMotion_46 rfl ?_
      refine V_iload_n C dX1_aimByMotion_47 rfl ?_
      refine V_callN C lk_X1_193 (m_X5_findBehind G (i := 1) (j := 2) ⟨rfl, rfl, hf, by omega, by omega⟩ (by omega) (by omega) (by omega)) dX1_aimByMotion_48 rfl rfl rfl rfl (by decide) (Nat.le_of_ble_eq_true rfl) (kO ?_)
      refine vp_X1_187 C dX1_aimByMotion_51 rfl (Nat.le_of_ble_eq_true rfl) ?_
      refine V_goto (tgt := 88) C dX1_aimByMotion_54 (by decide) ?_
      first
        | (have e0 : plc f L c mf m n a = pmk mf L a := plc_1 (by omega))
        | (have e0 : plc f L c mf m n a = fb f L a n (min c (la L) + 1) 0 := plc_2 (by omega) (by omega))
        | (have e0 : plc f L c mf m n a = p := by rw [plc_3 (by omega), ← g5, show (n - q).toNat = 0 by omega]; rfl)
      rw [← e0]
      have hpl : -1 ≤ plc f L c mf m n a ∧ plc f L c mf m n a ≤ 60 := by rw [e0]; first | omega | (unfold pmk; split <;> omega)
      generalize plc f L c mf m n a = pl0 at hpl R ⊢
      clear e0
      refine V_aload_n C dX1_aimByMotion_88 rfl ?_
      refine vg_X1_187 C dX1_aimByMotion_89 rfl rfl ?_
      refine V_iconst C dX1_aimByMotion_92 ?_
      refine V_icmp_ne (tgt := 98) C dX1_aimByMotion_93 (by decide) (by omega) (by omega) (fun c_93 => ?_) (fun c_93 => ?_)
      · skip
        skip
        refine V_iload_n C dX1_aimByMotion_98 rfl ?_
        refine V_bipush C dX1_aimByMotion_99 (by decide) ?_
        refine V_icmp_ne (tgt := 114) C dX1_aimByMotion_101 (by decide) (by omega) (by omega) (fun c_101 => ?_) (fun c_101 => ?_)
        · skip
          refine V_aload_n C dX1_aimByMotion_114 rfl ?_
          refine V_iload C dX1_aimByMotion_115 rfl ?_
          refine V_aload_n C dX1_aimByMotion_117 rfl ?_
          refine vg_X1_187 C dX1_aimByMotion_118 rfl rfl ?_
          refine V_min C wm_X1_200 dX1_aimByMotion_121 (by omega) (by omega) (by decide) (Nat.le_of_ble_eq_true rfl) ?_
          refine vp_X1_178 C dX1_aimByMotion_124 rfl (Nat.le_of_ble_eq_true rfl) ?_
          refine V_aload_n C dX1_aimByMotion_127 rfl ?_
          refine V_aload_n C dX1_aimByMotion_128 rfl ?_
          refine vg_X1_12 C dX1_aimByMotion_129 rfl rfl ?_
          refine vg_X1_82 C dX1_aimByMotion_132 rfl rfl ?_
          refine V_iload C dX1_aimByMotion_135 rfl ?_
          refine V_aload_n C dX1_aimByMotion_137 rfl ?_
          refine vg_X1_187 C dX1_aimByMotion_138 rfl rfl ?_
          refine V_max C wm_X1_142 dX1_aimByMotion_141 (by omega) (by omega) (by decide) (Nat.le_of_ble_eq_true rfl) ?_
          refine V_midz (pc2 := 156) (b2z (tkP m)) ?_ (fun kk_144 => ?_)
          · skip
            have hbz := b2z_rng (tkP m)
            have hbz2 : 0 ≤ b2z (tkP m) ∧ b2z (tkP m) ≤ 1 := by unfold b2z; split <;> omega
            refine V_iadd C dX1_aimByMotion_156 ?_
            refine V_min C wm_X1_200 dX1_aimByMotion_157 (by omega) (by omega) (by decide) (Nat.le_of_ble_eq_true rfl) ?_
            refine vp_X1_181 C dX1_aimByMotion_160 rfl (Nat.le_of_ble_eq_true rfl) ?_
            refine V_iconst C dX1_aimByMotion_163 ?_
            exact V_zret C R dX1_aimByMotion_164 (by first | decide | omega) ⟨by rw [b2z_t (by omega)], by first | (rw [show aMp pl0 m = pl0 - 1 by unfold aMp; rw [if_neg (by omega), if_pos (by omega)], show aMf L c pl0 m fro = min (min c (la L)) (pl0 - 1) by unfold aMf aMp; rw [if_neg (by omega), if_neg (by omega), if_pos (by omega)], show aMt L c pl0 m to = min L (max (min c (la L)) (pl0 - 1) + b2z (tkP m)) by unfold aMt aMp; rw [if_neg (by omega), if_neg (by omega), if_pos (by omega)]]; rfl) | (rw [show aMp pl0 m = pl0 by unfold aMp; rw [if_neg (by omega), if_neg (by omega)], show aMf L c pl0 m fro = min (min c (la L)) pl0 by unfold aMf aMp; rw [if_neg (by omega), if_neg (by omega), if_neg (by omega)], show aMt L c pl0 m to = min L (max (min c (la L)) pl0 + b2z (tkP m)) by unfold aMt aMp; rw [if_neg (by omega), if_neg (by omega), if_neg (by omega)]]; rfl)⟩
          · skip
            refine V_iload_n C dX1_aimByMotion_144 rfl ?_
            refine V_callS C lk_X1_203 (m_X1_takesPlace G (by omega)) dX1_aimByMotion_145 rfl rfl (by decide) (Nat.le_of_ble_eq_true rfl) (kO ?_)
            refine V_if_eqB (tgt := 155) C dX1_aimByMotion_148 (by decide) (fun c_148 => ?_) (fun c_148 => ?_)
            · skip
              refine V_iconst C dX1_aimByMotion_155 ?_
              exact kk_144 _ (by first | exact b2z_1 (by assumption) | exact b2z_0 (by assumption))
            · skip
              refine V_iconst C dX1_aimByMotion_151 ?_
              refine V_goto (tgt := 156) C dX1_aimByMotion_152 (by decide) ?_
              exact kk_144 _ (by first | exact b2z_1 (by assumption) | exact b2z_0 (by assumption))
        · skip
          refine V_aload_n C dX1_aimByMotion_104 rfl ?_
          refine V_dup C dX1_aimByMotion_105 rfl ?_
          refine vg_X1_187 C dX1_aimByMotion_106 rfl rfl ?_
          refine V_iconst C dX1_aimByMotion_109 ?_
          refine V_isub C dX1_aimByMotion_110 ?_
          refine vp_X1_187 C dX1_aimByMotion_111 rfl (Nat.le_of_ble_eq_true rfl) ?_
          refine V_aload_n C dX1_aimByMotion_114 rfl ?_
          refine V_iload C dX1_aimByMotion_115 rfl ?_
          refine V_aload_n C dX1_aimByMotion_117 rfl ?_
          refine vg_X1_187 C dX1_aimByMotion_118 rfl rfl ?_
          refine V_min C wm_X1_200 dX1_aimByMotion_121 (by omega) (by omega) (by decide) (Nat.le_of_ble_eq_true rfl) ?_
          refine vp_X1_178 C dX1_aimByMotion_124 rfl (Nat.le_of_ble_eq_true rfl) ?_
          refine V_aload_n C dX1_aimByMotion_127 rfl ?_
          refine V_aload_n C dX1_aimByMotion_128 rfl ?_
          refine vg_X1_12 C dX1_aimByMotion_129 rfl rfl ?_
          refine vg_X1_82 C dX1_aimByMotion_132 rfl rfl ?_
          refine V_iload C dX1_aimByMotion_135 rfl ?_
          refine V_aload_n C dX1_aimByMotion_137 rfl ?_
          refine vg_X1_187 C dX1_aimByMotion_138 rfl rfl ?_
          refine V_max C wm_X1_142 dX1_aimByMotion_141 (by omega) (by omega) (by decide) (Nat.le_of_ble_eq_true rfl) ?_
          refine V_midz (pc2 := 156) (b2z (tkP m)) ?_ (fun kk_144 => ?_)
          · skip
            have hbz := b2z_rng (tkP m)
            have hbz2 : 0 ≤ b2z (tkP m) ∧ b2z (tkP m) ≤ 1 := by unfold b2z; split <;> omega
            refine V_iadd C dX1_aimByMotion_156 ?_
            refine V_min C wm_X1_200 dX1_aimByMotion_157 (by omega) (by omega) (by decide) (Nat.le_of_ble_eq_true rfl) ?_
            refine vp_X1_181 C dX1_aimByMotion_160 rfl (Nat.le_of_ble_eq_true rfl) ?_
            refine V_iconst C dX1_aimByMotion_163 ?_
            exact V_zret C R dX1_aimByMotion_164 (by first | decide | omega) ⟨by rw [b2z_t (by omega)], by first | (rw [show aMp pl0 m = pl0 - 1 by unfold aMp; rw [if_neg (by omega), if_pos (by omega)], show aMf L c pl0 m fro = min (min c (la L)) (pl0 - 1) by unfold aMf aMp; rw [if_neg (by omega), if_neg (by omega), if_pos (by omega)], show aMt L c pl0 m to = min L (max (min c (la L)) (pl0 - 1) + b2z (tkP m)) by unfold aMt aMp; rw [if_neg (by omega), if_neg (by omega), if_pos (by omega)]]; rfl) | (rw [show aMp pl0 m = pl0 by unfold aMp; rw [if_neg (by omega), if_neg (by omega)], show aMf L c pl0 m fro = min (min c (la L)) pl0 by unfold aMf aMp; rw [if_neg (by omega), if_neg (by omega), if_neg (by omega)], show aMt L c pl0 m to = min L (max (min c (la L)) pl0 + b2z (tkP m)) by unfold aMt aMp; rw [if_neg (by omega), if_neg (by omega), if_neg (by omega)]]; rfl)⟩
          · skip
            refine V_iload_n C dX1_aimByMotion_144 rfl ?_
            refine V_callS C lk_X1_203 (m_X1_takesPlace G (by omega)) dX1_aimByMotion_145 rfl rfl (by decide) (Nat.le_of_ble_eq_true rfl) (kO ?_)
            refine V_if_eqB (tgt := 155) C dX1_aimByMotion_148 (by decide) (fun c_148 => ?_) (fun c_148 => ?_)
            · skip
              refine V_iconst C dX1_aimByMotion_155 ?_
              exact kk_144 _ (by first | exact b2z_1 (by assumption) | exact b2z_0 (by assumption))
            · skip
              refine V_iconst C dX1_aimByMotion_151 ?_
              refine V_goto (tgt := 156) C dX1_aimByMotion_152 (by decide) ?_
              exact kk_144 _ (by first | exact b2z_1 (by assumption) | exact b2z_0 (by assumption))
      · skip
        refine V_iconst C dX1_aimByMotion_96 ?_
        exact V_zret C R dX1_aimByMotion_97 (by first | decide | omega) ⟨by rw [b2z_f (by omega)], by rw [show pl0 = -1 by omega]; rfl⟩
  · skip
    refine V_aload_n C dX1_aimByMotion_21 rfl ?_
    refine V_aload_n C dX1_aimByMotion_22 rfl ?_
    refine V_iload_n C dX1_aimByMotion_23 rfl ?_
    refine V_callV C lk_X1_190 (m_X1_placeOfMark G (by omega) hmf hL) dX1_aimByMotion_24 rfl rfl rfl rfl (by decide) (Nat.le_of_ble_eq_true rfl) (kO ?_)
    refine vp_X1_187 C dX1_aimByMotion_27 rfl (Nat.le_of_ble_eq_true rfl) ?_
    refine V_goto (tgt := 88) C dX1_aimByMotion_30 (by decide) ?_
    first
      | (have e0 : plc f L c mf m n a = pmk mf L a := plc_1 (by omega))
      | (have e0 : plc f L c mf m n a = fb f L a n (min c (la L) + 1) 0 := plc_2 (by omega) (by omega))
      | (have e0 : plc f L c mf m n a = p := by rw [plc_3 (by omega), ← g5, show (n - q).toNat = 0 by omega]; rfl)
    rw [← e0]
    have hpl : -1 ≤ plc f L c mf m n a ∧ plc f L c mf m n a ≤ 60 := by rw [e0]; first | omega | (unfold pmk; split <;> omega)
    generalize plc f L c mf m n a = pl0 at hpl R ⊢
    clear e0
    refine V_aload_n C dX1_aimByMotion_88 rfl ?_
    refine vg_X1_187 C dX1_aimByMotion_89 rfl rfl ?_
    refine V_iconst C dX1_aimByMotion_92 ?_
    refine V_icmp_ne (tgt := 98) C dX1_aimByMotion_93 (by decide) (by omega) (by omega) (fun c_93 => ?_) (fun c_93 => ?_)
    · skip
      skip
      refine V_iload_n C dX1_aimByMotion_98 rfl ?_
      refine V_bipush C dX1_aimByMotion_99 (by decide) ?_
      refine V_icmp_ne (tgt := 114) C dX1_aimByMotion_101 (by decide) (by omega) (by omega) (fun c_101 => ?_) (fun c_101 => ?_)
      · skip
        refine V_aload_n C dX1_aimByMotion_114 rfl ?_
        refine V_iload C dX1_aimByMotion_115 rfl ?_
        refine V_aload_n C dX1_aimByMotion_117 rfl ?_
        refine vg_X1_187 C dX1_aimByMotion_118 rfl rfl ?_
        refine V_min C wm_X1_200 dX1_aimByMotion_121 (by omega) (by omega) (by decide) (Nat.le_of_ble_eq_true rfl) ?_
        refine vp_X1_178 C dX1_aimByMotion_124 rfl (Nat.le_of_ble_eq_true rfl) ?_
        refine V_aload_n C dX1_aimByMotion_127 rfl ?_
        refine V_aload_n C dX1_aimByMotion_128 rfl ?_
        refine vg_X1_12 C dX1_aimByMotion_129 rfl rfl ?_
        refine vg_X1_82 C dX1_aimByMotion_132 rfl rfl ?_
        refine V_iload C dX1_aimByMotion_135 rfl ?_
        refine V_aload_n C dX1_aimByMotion_137 rfl ?_
        refine vg_X1_187 C dX1_aimByMotion_138 rfl rfl ?_
        refine V_max C wm_X1_142 dX1_aimByMotion_141 (by omega) (by omega) (by decide) (Nat.le_of_ble_eq_true rfl) ?_
        refine V_midz (pc2 := 156) (b2z (tkP m)) ?_ (fun kk_144 => ?_)
        · skip
          have hbz := b2z_rng (tkP m)
          have hbz2 : 0 ≤ b2z (tkP m) ∧ b2z (tkP m) ≤ 1 := by unfold b2z; split <;> omega
          refine V_iadd C dX1_aimByMotion_156 ?_
          refine V_min C wm_X1_200 dX1_aimByMotion_157 (by omega) (by omega) (by decide) (Nat.le_of_ble_eq_true rfl) ?_
          refine vp_X1_181 C dX1_aimByMotion_160 rfl (Nat.le_of_ble_eq_true rfl) ?_
          refine V_iconst C dX1_aimByMotion_163 ?_
          exact V_zret C R dX1_aimByMotion_164 (by first | decide | omega) ⟨by rw [b2z_t (by omega)], by first | (rw [show aMp pl0 m = pl0 - 1 by unfold aMp; rw [if_neg (by omega), if_pos (by omega)], show aMf L c pl0 m fro = min (min c (la L)) (pl0 - 1) by unfold aMf aMp; rw [if_neg (by omega), if_neg (by omega), if_pos (by omega)], show aMt L c pl0 m to = min L (max (min c (la L)) (pl0 - 1) + b2z (tkP m)) by unfold aMt aMp; rw [if_neg (by omega), if_neg (by omega), if_pos (by omega)]]; rfl) | (rw [show aMp pl0 m = pl0 by unfold aMp; rw [if_neg (by omega), if_neg (by omega)], show aMf L c pl0 m fro = min (min c (la L)) pl0 by unfold aMf aMp; rw [if_neg (by omega), if_neg (by omega), if_neg (by omega)], show aMt L c pl0 m to = min L (max (min c (la L)) pl0 + b2z (tkP m)) by unfold aMt aMp; rw [if_neg (by omega), if_neg (by omega), if_neg (by omega)]]; rfl)⟩
        · skip
          refine V_iload_n C dX1_aimByMotion_144 rfl ?_
          refine V_callS C lk_X1_203 (m_X1_takesPlace G (by omega)) dX1_aimByMotion_145 rfl rfl (by decide) (Nat.le_of_ble_eq_true rfl) (kO ?_)
          refine V_if_eqB (tgt := 155) C dX1_aimByMotion_148 (by decide) (fun c_148 => ?_) (fun c_148 => ?_)
          · skip
            refine V_iconst C dX1_aimByMotion_155 ?_
            exact kk_144 _ (by first | exact b2z_1 (by assumption) | exact b2z_0 (by assumption))
          · skip
            refine V_iconst C dX1_aimByMotion_151 ?_
            refine V_goto (tgt := 156) C dX1_aimByMotion_152 (by decide) ?_
            exact kk_144 _ (by first | exact b2z_1 (by assumption) | exact b2z_0 (by assumption))
      · skip
        refine V_aload_n C dX1_aimByMotion_104 rfl ?_
        refine V_dup C dX1_aimByMotion_105 rfl ?_
        refine vg_X1_187 C dX1_aimByMotion_106 rfl rfl ?_
        refine V_iconst C dX1_aimByMotion_109 ?_
        refine V_isub C dX1_aimByMotion_110 ?_
        refine vp_X1_187 C dX1_aimByMotion_111 rfl (Nat.le_of_ble_eq_true rfl) ?_
        refine V_aload_n C dX1_aimByMotion_114 rfl ?_
        refine V_iload C dX1_aimByMotion_115 rfl ?_
        refine V_aload_n C dX1_aimByMotion_117 rfl ?_
        refine vg_X1_187 C dX1_aimByMotion_118 rfl rfl ?_
        refine V_min C wm_X1_200 dX1_aimByMotion_121 (by omega) (by omega) (by decide) (Nat.le_of_ble_eq_true rfl) ?_
        refine vp_X1_178 C dX1_aimByMotion_124 rfl (Nat.le_of_ble_eq_true rfl) ?_
        refine V_aload_n C dX1_aimByMotion_127 rfl ?_
        refine V_aload_n C dX1_aimByMotion_128 rfl ?_
        refine vg_X1_12 C dX1_aimByMotion_129 rfl rfl ?_
        refine vg_X1_82 C dX1_aimByMotion_132 rfl rfl ?_
        refine V_iload C dX1_aimByMotion_135 rfl ?_
        refine V_aload_n C dX1_aimByMotion_137 rfl ?_
        refine vg_X1_187 C dX1_aimByMotion_138 rfl rfl ?_
        refine V_max C wm_X1_142 dX1_aimByMotion_141 (by omega) (by omega) (by decide) (Nat.le_of_ble_eq_true rfl) ?_
        refine V_midz (pc2 := 156) (b2z (tkP m)) ?_ (fun kk_144 => ?_)
        · skip
          have hbz := b2z_rng (tkP m)
          have hbz2 : 0 ≤ b2z (tkP m) ∧ b2z (tkP m) ≤ 1 := by unfold b2z; split <;> omega
          refine V_iadd C dX1_aimByMotion_156 ?_
          refine V_min C wm_X1_200 dX1_aimByMotion_157 (by omega) (by omega) (by decide) (Nat.le_of_ble_eq_true rfl) ?_
          refine vp_X1_181 C dX1_aimByMotion_160 rfl (Nat.le_of_ble_eq_true rfl) ?_
          refine V_iconst C dX1_aimByMotion_163 ?_
          exact V_zret C R dX1_aimByMotion_164 (by first | decide | omega) ⟨by rw [b2z_t (by omega)], by first | (rw [show aMp pl0 m = pl0 - 1 by unfold aMp; rw [if_neg (by omega), if_pos (by omega)], show aMf L c pl0 m fro = min (min c (la L)) (pl0 - 1) by unfold aMf aMp; rw [if_neg (by omega), if_neg (by omega), if_pos (by omega)], show aMt L c pl0 m to = min L (max (min c (la L)) (pl0 - 1) + b2z (tkP m)) by unfold aMt aMp; rw [if_neg (by omega), if_neg (by omega), if_pos (by omega)]]; rfl) | (rw [show aMp pl0 m = pl0 by unfold aMp; rw [if_neg (by omega), if_neg (by omega)], show aMf L c pl0 m fro = min (min c (la L)) pl0 by unfold aMf aMp; rw [if_neg (by omega), if_neg (by omega), if_neg (by omega)], show aMt L c pl0 m to = min L (max (min c (la L)) pl0 + b2z (tkP m)) by unfold aMt aMp; rw [if_neg (by omega), if_neg (by omega), if_neg (by omega)]]; rfl)⟩
        · skip
          refine V_iload_n C dX1_aimByMotion_144 rfl ?_
          refine V_callS C lk_X1_203 (m_X1_takesPlace G (by omega)) dX1_aimByMotion_145 rfl rfl (by decide) (Nat.le_of_ble_eq_true rfl) (kO ?_)
          refine V_if_eqB (tgt := 155) C dX1_aimByMotion_148 (by decide) (fun c_148 => ?_) (fun c_148 => ?_)
          · skip
            refine V_iconst C dX1_aimByMotion_155 ?_
            exact kk_144 _ (by first | exact b2z_1 (by assumption) | exact b2z_0 (by assumption))
          · skip
            refine V_iconst C dX1_aimByMotion_151 ?_
            refine V_goto (tgt := 156) C dX1_aimByMotion_152 (by decide) ?_
            exact kk_144 _ (by first | exact b2z_1 (by assumption) | exact b2z_0 (by assumption))
    · skip
      refine V_iconst C dX1_aimByMotion_96 ?_
      exact V_zret C R dX1_aimByMotion_97 (by first | decide | omega) ⟨by rw [b2z_f (by omega)], by rw [show pl0 = -1 by omega]; rfl⟩
