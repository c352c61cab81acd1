/-! ===== Command ===== -/
abbrev isFg (x n : Int) : Prop := (49 ≤ x ∧ x ≤ 57) ∨ (x = 48 ∧ 0 < n)
def wFg (n x : Int) : Int := min (n * 10 + x - 48) 99
def mOf (x : Int) : Int := if x = 104 then 0 else if x = 108 then 1 else if x = 48 then 2 else if x = 36 then 3 else if x = 119 then 4 else if x = 98 then 5 else if x = 101 then 6 else if x = 102 then 7 else if x = 116 then 8 else if x = 39 then 9 else -1
theorem mOf_in (x : Int) : -1 ≤ mOf x ∧ mOf x ≤ 9 := by unfold mOf; omega
abbrev zCm : Type := Int × (Int → Int)
def tkM (k : Int → Int) (x : Int) : zCm := if mOf x = -1 then (2, zup (zup k 5 1) 6 (mOf x)) else if mOf x < 7 then (1, zup (zup k 5 1) 6 (mOf x)) else (0, zup (zup (zup k 5 1) 6 (mOf x)) 1 (if mOf x = 9 then 4 else 3))
theorem tkM_1 {k : Int → Int} {x : Int}  (h1 : mOf x = -1) : tkM k x = (2, zup (zup k 5 1) 6 (mOf x)) := by unfold tkM; rw [if_pos h1]
theorem tkM_2 {k : Int → Int} {x : Int} (h1 : ¬ (mOf x = -1)) (h2 : mOf x < 7) : tkM k x = (1, zup (zup k 5 1) 6 (mOf x)) := by unfold tkM; rw [if_neg h1, if_pos h2]
theorem tkM_3 {k : Int → Int} {x : Int} (h1 : ¬ (mOf x = -1)) (h2 : ¬ (mOf x < 7)) : tkM k x = (0, zup (zup (zup k 5 1) 6 (mOf x)) 1 (if mOf x = 9 then 4 else 3)) := by unfold tkM; rw [if_neg h1, if_neg h2]
def tkO (k : Int → Int) (x : Int) : zCm := if x ≠ 119 ∧ x ≠ 98 then (2, k) else (1, zup k 5 (if x = 119 then 2 else 3))
theorem tkO_1 {k : Int → Int} {x : Int}  (h1 : x ≠ 119 ∧ x ≠ 98) : tkO k x = (2, k) := by unfold tkO; rw [if_pos h1]
theorem tkO_2 {k : Int → Int} {x : Int} (h1 : ¬ (x ≠ 119 ∧ x ≠ 98)) : tkO k x = (1, zup k 5 (if x = 119 then 2 else 3)) := by unfold tkO; rw [if_neg h1]
def tkR (k : Int → Int) (x : Int) : zCm := if isFg x (k 4) then (0, zup k 4 (wFg (k 4) x)) else if x = k 2 then (1, zup k 5 5) else if x = 105 ∨ x = 97 then (0, zup (zup k 7 (if x = 97 then 1 else 0)) 1 2) else tkM k x
theorem tkR_1 {k : Int → Int} {x : Int}  (h1 : isFg x (k 4)) : tkR k x = (0, zup k 4 (wFg (k 4) x)) := by unfold tkR; rw [if_pos h1]
theorem tkR_2 {k : Int → Int} {x : Int} (h1 : ¬ (isFg x (k 4))) (h2 : x = k 2) : tkR k x = (1, zup k 5 5) := by unfold tkR; rw [if_neg h1, if_pos h2]
theorem tkR_3 {k : Int → Int} {x : Int} (h1 : ¬ (isFg x (k 4))) (h2 : ¬ (x = k 2)) (h3 : x = 105 ∨ x = 97) : tkR k x = (0, zup (zup k 7 (if x = 97 then 1 else 0)) 1 2) := by unfold tkR; rw [if_neg h1, if_neg h2, if_pos h3]
theorem tkR_4 {k : Int → Int} {x : Int} (h1 : ¬ (isFg x (k 4))) (h2 : ¬ (x = k 2)) (h3 : ¬ (x = 105 ∨ x = 97)) : tkR k x = tkM k x := by unfold tkR; rw [if_neg h1, if_neg h2, if_neg h3]
def tkV (k : Int → Int) (x : Int) : zCm := if isFg x (k 3) then (0, zup k 3 (wFg (k 3) x)) else if x = 100 ∨ x = 121 ∨ x = 99 then (0, zup (zup k 2 x) 1 1) else if x = 114 then (0, zup (zup k 2 x) 1 3) else if x = 109 then (0, zup (zup k 2 x) 1 4) else if x = 120 then (1, zup (zup k 2 100) 5 4) else if x = 126 ∨ x = 112 ∨ x = 80 ∨ x = 105 ∨ x = 97 ∨ x = 73 ∨ x = 65 ∨ x = 117 then (1, zup k 2 x) else tkM k x
theorem tkV_1 {k : Int → Int} {x : Int}  (h1 : isFg x (k 3)) : tkV k x = (0, zup k 3 (wFg (k 3) x)) := by unfold tkV; rw [if_pos h1]
theorem tkV_2 {k : Int → Int} {x : Int} (h1 : ¬ (isFg x (k 3))) (h2 : x = 100 ∨ x = 121 ∨ x = 99) : tkV k x = (0, zup (zup k 2 x) 1 1) := by unfold tkV; rw [if_neg h1, if_pos h2]
theorem tkV_3 {k : Int → Int} {x : Int} (h1 : ¬ (isFg x (k 3))) (h2 : ¬ (x = 100 ∨ x = 121 ∨ x = 99)) (h3 : x = 114) : tkV k x = (0, zup (zup k 2 x) 1 3) := by unfold tkV; rw [if_neg h1, if_neg h2, if_pos h3]
theorem tkV_4 {k : Int → Int} {x : Int} (h1 : ¬ (isFg x (k 3))) (h2 : ¬ (x = 100 ∨ x = 121 ∨ x = 99)) (h3 : ¬ (x = 114)) (h4 : x = 109) : tkV k x = (0, zup (zup k 2 x) 1 4) := by unfold tkV; rw [if_neg h1, if_neg h2, if_neg h3, if_pos h4]
theorem tkV_5 {k : Int → Int} {x : Int} (h1 : ¬ (isFg x (k 3))) (h2 : ¬ (x = 100 ∨ x = 121 ∨ x = 99)) (h3 : ¬ (x = 114)) (h4 : ¬ (x = 109)) (h5 : x = 120) : tkV k x = (1, zup (zup k 2 100) 5 4) := by unfold tkV; rw [if_neg h1, if_neg h2, if_neg h3, if_neg h4, if_pos h5]
theorem tkV_6 {k : Int → Int} {x : Int} (h1 : ¬ (isFg x (k 3))) (h2 : ¬ (x = 100 ∨ x = 121 ∨ x = 99)) (h3 : ¬ (x = 114)) (h4 : ¬ (x = 109)) (h5 : ¬ (x = 120)) (h6 : x = 126 ∨ x = 112 ∨ x = 80 ∨ x = 105 ∨ x = 97 ∨ x = 73 ∨ x = 65 ∨ x = 117) : tkV k x = (1, zup k 2 x) := by unfold tkV; rw [if_neg h1, if_neg h2, if_neg h3, if_neg h4, if_neg h5, if_pos h6]
theorem tkV_7 {k : Int → Int} {x : Int} (h1 : ¬ (isFg x (k 3))) (h2 : ¬ (x = 100 ∨ x = 121 ∨ x = 99)) (h3 : ¬ (x = 114)) (h4 : ¬ (x = 109)) (h5 : ¬ (x = 120)) (h6 : ¬ (x = 126 ∨ x = 112 ∨ x = 80 ∨ x = 105 ∨ x = 97 ∨ x = 73 ∨ x = 65 ∨ x = 117)) : tkV k x = tkM k x := by unfold tkV; rw [if_neg h1, if_neg h2, if_neg h3, if_neg h4, if_neg h5, if_neg h6]
def tkA (k : Int → Int) (x : Int) : zCm := if k 1 = 0 then tkV k x else if k 1 = 1 then tkR k x else if k 1 = 2 then tkO k x else if k 1 = 3 then (1, zup k 8 x) else (if 0 ≤ x - 97 ∧ x - 97 < 4 then 1 else 2, zup k 8 (x - 97))
theorem tkA_1 {k : Int → Int} {x : Int}  (h1 : k 1 = 0) : tkA k x = tkV k x := by unfold tkA; rw [if_pos h1]
theorem tkA_2 {k : Int → Int} {x : Int} (h1 : ¬ (k 1 = 0)) (h2 : k 1 = 1) : tkA k x = tkR k x := by unfold tkA; rw [if_neg h1, if_pos h2]
theorem tkA_3 {k : Int → Int} {x : Int} (h1 : ¬ (k 1 = 0)) (h2 : ¬ (k 1 = 1)) (h3 : k 1 = 2) : tkA k x = tkO k x := by unfold tkA; rw [if_neg h1, if_neg h2, if_pos h3]
theorem tkA_4 {k : Int → Int} {x : Int} (h1 : ¬ (k 1 = 0)) (h2 : ¬ (k 1 = 1)) (h3 : ¬ (k 1 = 2)) (h4 : k 1 = 3) : tkA k x = (1, zup k 8 x) := by unfold tkA; rw [if_neg h1, if_neg h2, if_neg h3, if_pos h4]
theorem tkA_5 {k : Int → Int} {x : Int} (h1 : ¬ (k 1 = 0)) (h2 : ¬ (k 1 = 1)) (h3 : ¬ (k 1 = 2)) (h4 : ¬ (k 1 = 3)) : tkA k x = (if 0 ≤ x - 97 ∧ x - 97 < 4 then 1 else 2, zup k 8 (x - 97)) := by unfold tkA; rw [if_neg h1, if_neg h2, if_neg h3, if_neg h4]
def tmz (k : Int → Int) : Int := min (max (k 3) 1 * max (k 4) 1) 99
theorem tmz_in {k : Int → Int} (h3 : 0 ≤ k 3 ∧ k 3 ≤ 99) (h4 : 0 ≤ k 4 ∧ k 4 ≤ 99) : 1 ≤ tmz k ∧ tmz k ≤ 99 ∧ 1 ≤ max (k 3) 1 * max (k 4) 1 ∧ max (k 3) 1 * max (k 4) 1 ≤ 9801 := by
  have a1 : 1 ≤ max (k 3) 1 := by omega
  have a2 : max (k 3) 1 ≤ 99 := by omega
  have b1 : 1 ≤ max (k 4) 1 := by omega
  have b2 : max (k 4) 1 ≤ 99 := by omega
  have c1 := Int.mul_le_mul a1 b1 (by omega) (by omega)
  have c2 := Int.mul_le_mul a2 b2 (by omega) (by omega)
  unfold tmz
  omega

set_option maxRecDepth 100000 in
theorem m_X0_isFigure (G : zG) {cs : List va_E} {x n : Int} (hx : rng x) (hn : rng n) : zMet G yX0_isFigure cX0_isFigure 2 (some .boolean) 0 0 [.int (iI x), .int (iI n)] cs (zO (.int (iI (b2z (isFg x n)))) cs) := by
  refine zMet.of (by decide) (Nat.le_of_ble_eq_true rfl) ?_
  intro E C R
  have C : zC G E RX0 cX0_isFigure 2 0 0 := C
  show V G E 0 [some (.int (iI x)), some (.int (iI n))] [] cs
  refine V_iload_n C dX0_isFigure_0 rfl ?_
  refine V_bipush C dX0_isFigure_1 (by decide) ?_
  refine V_icmp_lt (tgt := 12) C dX0_isFigure_3 (by decide) (by omega) (by omega) (fun c_3 => ?_) (fun c_3 => ?_)
  · skip
    refine V_iload_n C dX0_isFigure_12 rfl ?_
    refine V_bipush C dX0_isFigure_13 (by decide) ?_
    refine V_icmp_ne (tgt := 26) C dX0_isFigure_15 (by decide) (by omega) (by omega) (fun c_15 => ?_) (fun c_15 => ?_)
    · skip
      refine V_iconst C dX0_isFigure_26 ?_
      exact V_zret C R dX0_isFigure_27 (by first | decide | omega) (zO_i (by first | exact b2z_1 (by omega) | exact b2z_0 (by omega)))
    · skip
      refine V_iload_n C dX0_isFigure_18 rfl ?_
      refine V_if_le (tgt := 26) C dX0_isFigure_19 (by decide) (by omega) (fun c_19 => ?_) (fun c_19 => ?_)
      · skip
        refine V_iconst C dX0_isFigure_26 ?_
        exact V_zret C R dX0_isFigure_27 (by first | decide | omega) (zO_i (by first | exact b2z_1 (by omega) | exact b2z_0 (by omega)))
      · skip
        refine V_iconst C dX0_isFigure_22 ?_
        refine V_goto (tgt := 27) C dX0_isFigure_23 (by decide) ?_
        exact V_zret C R dX0_isFigure_27 (by first | decide | omega) (zO_i (by first | exact b2z_1 (by omega) | exact b2z_0 (by omega)))
  · skip
    refine V_iload_n C dX0_isFigure_6 rfl ?_
    refine V_bipush C dX0_isFigure_7 (by decide) ?_
    refine V_icmp_le (tgt := 22) C dX0_isFigure_9 (by decide) (by omega) (by omega) (fun c_9 => ?_) (fun c_9 => ?_)
    · skip
      refine V_iconst C dX0_isFigure_22 ?_
      refine V_goto (tgt := 27) C dX0_isFigure_23 (by decide) ?_
      exact V_zret C R dX0_isFigure_27 (by first | decide | omega) (zO_i (by first | exact b2z_1 (by omega) | exact b2z_0 (by omega)))
    · skip
      refine V_iload_n C dX0_isFigure_12 rfl ?_
      refine V_bipush C dX0_isFigure_13 (by decide) ?_
      refine V_icmp_ne (tgt := 26) C dX0_isFigure_15 (by decide) (by omega) (by omega) (fun c_15 => ?_) (fun c_15 => ?_)
      · skip
        refine V_iconst C dX0_isFigure_26 ?_
        exact V_zret C R dX0_isFigure_27 (by first | decide | omega) (zO_i (by first | exact b2z_1 (by omega) | exact b2z_0 (by omega)))
      · skip
        refine V_iload_n C dX0_isFigure_18 rfl ?_
        refine V_if_le (tgt := 26) C dX0_isFigure_19 (by decide) (by omega) (fun c_19 => ?_) (fun c_19 => ?_)
        · skip
          refine V_iconst C dX0_isFigure_26 ?_
          exact V_zret C R dX0_isFigure_27 (by first | decide | omega) (zO_i (by first | exact b2z_1 (by omega) | exact b2z_0 (by omega)))
        · skip
          refine V_iconst C dX0_isFigure_22 ?_
          refine V_goto (tgt := 27) C dX0_isFigure_23 (by decide) ?_
          exact V_zret C R dX0_isFigure_27 (by first | decide | omega) (zO_i (by first | exact b2z_1 (by omega) | exact b2z_0 (by omega)))

set_option maxRecDepth 100000 in
theorem m_X0_withFigure (G : zG) {cs : List va_E} {n x : Int} (hx : 0 ≤ x ∧ x ≤ 1000) (hn : 0 ≤ n ∧ n ≤ 1000) : zMet G yX0_withFigure cX0_withFigure 2 (some .int) 1 21 [.int (iI n), .int (iI x)] cs (zO (.int (iI (wFg n x))) cs) := by
  refine zMet.of (by decide) (Nat.le_of_ble_eq_true rfl) ?_
  intro E C R
  have C : zC G E RX0 cX0_withFigure 2 1 21 := C
  show V G E 0 [some (.int (iI n)), some (.int (iI x))] [] cs
  refine V_iload_n C dX0_withFigure_0 rfl ?_
  refine V_bipush C dX0_withFigure_1 (by decide) ?_
  refine V_imul C dX0_withFigure_3 ?_
  refine V_iload_n C dX0_withFigure_4 rfl ?_
  refine V_iadd C dX0_withFigure_5 ?_
  refine V_bipush C dX0_withFigure_6 (by decide) ?_
  refine V_isub C dX0_withFigure_8 ?_
  refine V_bipush C dX0_withFigure_9 (by decide) ?_
  refine V_min C wm_X0_57 dX0_withFigure_11 (by omega) (by omega) (by decide) (Nat.le_of_ble_eq_true rfl) ?_
  exact V_iret C R dX0_withFigure_14 (zO_i rfl)

set_option maxRecDepth 100000 in
theorem m_X0_motionOf (G : zG) {cs : List va_E} {x : Int} (hx : rng x) : zMet G yX0_motionOf cX0_motionOf 1 (some .int) 0 0 [.int (iI x)] cs (zO (.int (iI (mOf x))) cs) := by
  refine zMet.of (by decide) (Nat.le_of_ble_eq_true rfl) ?_
  intro E C R
  have C : zC G E RX0 cX0_motionOf 1 0 0 := C
  show V G E 0 [some (.int (iI x))] [] cs
  refine V_iload_n C dX0_motionOf_0 rfl ?_
  by_cases w_1_36 : x = 36
  · skip
    refine V_lookup (tgt := 98) (off := 97) C dX0_motionOf_1 rfl (by omega) (by rw [w_1_36]; rfl) (by decide) ?_
    refine V_iconst C dX0_motionOf_98 ?_
    exact V_iret C R dX0_motionOf_99 (zO_i (by simp [mOf, *]))
  by_cases w_1_39 : x = 39
  · skip
    refine V_lookup (tgt := 113) (off := 112) C dX0_motionOf_1 rfl (by omega) (by rw [w_1_39]; rfl) (by decide) ?_
    refine V_bipush C dX0_motionOf_113 (by decide) ?_
    exact V_iret C R dX0_motionOf_115 (zO_i (by simp [mOf, *]))
  by_cases w_1_48 : x = 48
  · skip
    refine V_lookup (tgt := 96) (off := 95) C dX0_motionOf_1 rfl (by omega) (by rw [w_1_48]; rfl) (by decide) ?_
    refine V_iconst C dX0_motionOf_96 ?_
    exact V_iret C R dX0_motionOf_97 (zO_i (by simp [mOf, *]))
  by_cases w_1_98 : x = 98
  · skip
    refine V_lookup (tgt := 102) (off := 101) C dX0_motionOf_1 rfl (by omega) (by rw [w_1_98]; rfl) (by decide) ?_
    refine V_iconst C dX0_motionOf_102 ?_
    exact V_iret C R dX0_motionOf_103 (zO_i (by simp [mOf, *]))
  by_cases w_1_101 : x = 101
  · skip
    refine V_lookup (tgt := 104) (off := 103) C dX0_motionOf_1 rfl (by omega) (by rw [w_1_101]; rfl) (by decide) ?_
    refine V_bipush C dX0_motionOf_104 (by decide) ?_
    exact V_iret C R dX0_motionOf_106 (zO_i (by simp [mOf, *]))
  by_cases w_1_102 : x = 102
  · skip
    refine V_lookup (tgt := 107) (off := 106) C dX0_motionOf_1 rfl (by omega) (by rw [w_1_102]; rfl) (by decide) ?_
    refine V_bipush C dX0_motionOf_107 (by decide) ?_
    exact V_iret C R dX0_motionOf_109 (zO_i (by simp [mOf, *]))
  by_cases w_1_104 : x = 104
  · skip
    refine V_lookup (tgt := 92) (off := 91) C dX0_motionOf_1 rfl (by omega) (by rw [w_1_104]; rfl) (by decide) ?_
    refine V_iconst C dX0_motionOf_92 ?_
    exact V_iret C R dX0_motionOf_93 (zO_i (by simp [mOf, *]))
  by_cases w_1_108 : x = 108
  · skip
    refine V_lookup (tgt := 94) (off := 93) C dX0_motionOf_1 rfl (by omega) (by rw [w_1_108]; rfl) (by decide) ?_
    refine V_iconst C dX0_motionOf_94 ?_
    exact V_iret C R dX0_motionOf_95 (zO_i (by simp [mOf, *]))
  by_cases w_1_116 : x = 116
  · skip
    refine V_lookup (tgt := 110) (off := 109) C dX0_motionOf_1 rfl (by omega) (by rw [w_1_116]; rfl) (by decide) ?_
    refine V_bipush C dX0_motionOf_110 (by decide) ?_
    exact V_iret C R dX0_motionOf_112 (zO_i (by simp [mOf, *]))
  by_cases w_1_119 : x = 119
  · skip
    refine V_lookup (tgt := 100) (off := 99) C dX0_motionOf_1 rfl (by omega) (by rw [w_1_119]; rfl) (by decide) ?_
    refine V_iconst C dX0_motionOf_100 ?_
    exact V_iret C R dX0_motionOf_101 (zO_i (by simp [mOf, *]))
  refine V_lookup (tgt := 116) (off := 115) C dX0_motionOf_1 rfl (by omega) (by simp [Op.lookupswitch.offset]; repeat rw [if_neg (Ne.symm (by assumption))]) (by decide) ?_
  refine V_iconst C dX0_motionOf_116 ?_
  exact V_iret C R dX0_motionOf_117 (zO_i (by simp [mOf, *]))

set_option maxRecDepth 100000 in
theorem m_X0_waitWith (G : zG) {cs : List va_E} {i j : Nat} {k : Int → Int} (hi : cs[i]? = some (oC G j k)) {v w : Int} : zMet G yX0_waitWith cX0_waitWith 3 (some .int) 0 0 [.ref (G.ad i), .int (iI v), .int (iI w)] cs (zO (.int (iI 0)) (cs.set i (oC G j (zup (zup k 2 v) 1 w)))) := by
  refine zMet.of (by decide) (Nat.le_of_ble_eq_true rfl) ?_
  intro E C R
  have C : zC G E RX0 cX0_waitWith 3 0 0 := C
  show V G E 0 [some (.ref (G.ad i)), some (.int (iI v)), some (.int (iI w))] [] cs
  have hli := zs_lt hi
  refine V_aload_n C dX0_waitWith_0 rfl ?_
  refine V_iload_n C dX0_waitWith_1 rfl ?_
  refine vp_X0_25 C dX0_waitWith_2 (by repeat (first | with_reducible assumption | with_reducible exact zs_eq (by first | assumption | (simp only [List.length_set]; assumption)) | refine zs_ne (by first | with_reducible assumption | exact Ne.symm (by with_reducible assumption) | omega) ?_)) (Nat.le_of_ble_eq_true rfl) ?_
  refine V_aload_n C dX0_waitWith_5 rfl ?_
  refine V_iload_n C dX0_waitWith_6 rfl ?_
  refine vp_X0_22 C dX0_waitWith_7 (by repeat (first | with_reducible assumption | with_reducible exact zs_eq (by first | assumption | (simp only [List.length_set]; assumption)) | refine zs_ne (by first | with_reducible assumption | exact Ne.symm (by with_reducible assumption) | omega) ?_)) (Nat.le_of_ble_eq_true rfl) ?_
  refine V_iconst C dX0_waitWith_10 ?_
  exact V_iret C R dX0_waitWith_11 ⟨rfl, by simp only [List.set_set]; rfl⟩

set_option maxRecDepth 100000 in
theorem m_X0_takeMotion (G : zG) {cs : List va_E} {i j : Nat} {k : Int → Int} (hi : cs[i]? = some (oC G j k)) (hk : ∀ n, rng (k n)) {x : Int} (hx : rng x) : zMet G yX0_takeMotion cX0_takeMotion 2 (some .int) 1 20 [.ref (G.ad i), .int (iI x)] cs (zO (.int (iI (tkM k x).1)) (cs.set i (oC G j (tkM k x).2))) := by
  refine zMet.of (by decide) (Nat.le_of_ble_eq_true rfl) ?_
  intro E C R
  have C : zC G E RX0 cX0_takeMotion 2 1 20 := C
  show V G E 0 [some (.ref (G.ad i)), some (.int (iI x))] [] cs
  have hli := zs_lt hi
  have hmo := mOf_in x
  refine V_aload_n C dX0_takeMotion_0 rfl ?_
  refine V_iconst C dX0_takeMotion_1 ?_
  refine vp_X0_34 C dX0_takeMotion_2 (by repeat (first | with_reducible assumption | with_reducible exact zs_eq (by first | assumption | (simp only [List.length_set]; assumption)) | refine zs_ne (by first | with_reducible assumption | exact Ne.symm (by with_reducible assumption) | omega) ?_)) (Nat.le_of_ble_eq_true rfl) ?_
  refine V_aload_n C dX0_takeMotion_5 rfl ?_
  refine V_iload_n C dX0_takeMotion_6 rfl ?_
  refine V_callS C lk_X0_87 (m_X0_motionOf G (by omega)) dX0_takeMotion_7 rfl rfl (by decide) (Nat.le_of_ble_eq_true rfl) (kO ?_)
  refine vp_X0_37 C dX0_takeMotion_10 (by repeat (first | with_reducible assumption | with_reducible exact zs_eq (by first | assumption | (simp only [List.length_set]; assumption)) | refine zs_ne (by first | with_reducible assumption | exact Ne.symm (by with_reducible assumption) | omega) ?_)) (Nat.le_of_ble_eq_true rfl) ?_
  refine V_aload_n C dX0_takeMotion_13 rfl ?_
  refine vg_X0_37 C dX0_takeMotion_14 (by repeat (first | with_reducible assumption | with_reducible exact zs_eq (by first | assumption | (simp only [List.length_set]; assumption)) | refine zs_ne (by first | with_reducible assumption | exact Ne.symm (by with_reducible assumption) | omega) ?_)) rfl ?_
  refine V_iconst C dX0_takeMotion_17 ?_
  refine V_icmp_ne (tgt := 23) C dX0_takeMotion_18 (by decide) (by omega) (by omega) (fun c_18 => ?_) (fun c_18 => ?_)
  · skip
    refine V_aload_n C dX0_takeMotion_23 rfl ?_
    refine vg_X0_37 C dX0_takeMotion_24 (by repeat (first | with_reducible assumption | with_reducible exact zs_eq (by first | assumption | (simp only [List.length_set]; assumption)) | refine zs_ne (by first | with_reducible assumption | exact Ne.symm (by with_reducible assumption) | omega) ?_)) rfl ?_
    refine V_bipush C dX0_takeMotion_27 (by decide) ?_
    refine V_icmp_ge (tgt := 34) C dX0_takeMotion_29 (by decide) (by omega) (by omega) (fun c_29 => ?_) (fun c_29 => ?_)
    · skip
      refine V_aload_n C dX0_takeMotion_34 rfl ?_
      refine V_midz (pc2 := 49) (if mOf x = 9 then 4 else 3) ?_ (fun kk_35 => ?_)
      · skip
        refine vp_X0_22 C dX0_takeMotion_49 (by repeat (first | with_reducible assumption | with_reducible exact zs_eq (by first | assumption | (simp only [List.length_set]; assumption)) | refine zs_ne (by first | with_reducible assumption | exact Ne.symm (by with_reducible assumption) | omega) ?_)) (Nat.le_of_ble_eq_true rfl) ?_
        refine V_iconst C dX0_takeMotion_52 ?_
        exact V_iret C R dX0_takeMotion_53 ⟨by rw [tkM_3 (by omega) (by omega)], by rw [tkM_3 (by omega) (by omega)]; simp only [List.set_set]; rfl⟩
      · skip
        refine V_aload_n C dX0_takeMotion_35 rfl ?_
        refine vg_X0_37 C dX0_takeMotion_36 (by repeat (first | with_reducible assumption | with_reducible exact zs_eq (by first | assumption | (simp only [List.length_set]; assumption)) | refine zs_ne (by first | with_reducible assumption | exact Ne.symm (by with_reducible assumption) | omega) ?_)) rfl ?_
        refine V_bipush C dX0_takeMotion_39 (by decide) ?_
        refine V_icmp_ne (tgt := 48) C dX0_takeMotion_41 (by decide) (by omega) (by omega) (fun c_41 => ?_) (fun c_41 => ?_)
        · skip
          refine V_iconst C dX0_takeMotion_48 ?_
          exact kk_35 _ (by first | exact (if_pos (by omega)).symm | exact (if_neg (by omega)).symm)
        · skip
          refine V_iconst C dX0_takeMotion_44 ?_
          refine V_goto (tgt := 49) C dX0_takeMotion_45 (by decide) ?_
          exact kk_35 _ (by first | exact (if_pos (by omega)).symm | exact (if_neg (by omega)).symm)
    · skip
      refine V_iconst C dX0_takeMotion_32 ?_
      exact V_iret C R dX0_takeMotion_33 ⟨by rw [tkM_2 (by omega) (by omega)], by rw [tkM_2 (by omega) (by omega)]; simp only [List.set_set]; rfl⟩
  · skip
    refine V_iconst C dX0_takeMotion_21 ?_
    exact V_iret C R dX0_takeMotion_22 ⟨by rw [tkM_1 (by omega)], by rw [tkM_1 (by omega)]; simp only [List.set_set]; rfl⟩

set_option maxRecDepth 100000 in
theorem m_X0_takeObject (G : zG) {cs : List va_E} {i j : Nat} {k : Int → Int} (hi : cs[i]? = some (oC G j k)) (hk : ∀ n, rng (k n)) {x : Int} (hx : rng x) : zMet G yX0_takeObject cX0_takeObject 2 (some .int) 0 0 [.ref (G.ad i), .int (iI x)] cs (zO (.int (iI (tkO k x).1)) (cs.set i (oC G j (tkO k x).2))) := by
  refine zMet.of (by decide) (Nat.le_of_ble_eq_true rfl) ?_
  intro E C R
  have C : zC G E RX0 cX0_takeObject 2 0 0 := C
  show V G E 0 [some (.ref (G.ad i)), some (.int (iI x))] [] cs
  have hli := zs_lt hi
  refine V_iload_n C dX0_takeObject_0 rfl ?_
  refine V_bipush C dX0_takeObject_1 (by decide) ?_
  refine V_icmp_eq (tgt := 14) C dX0_takeObject_3 (by decide) (by omega) (by omega) (fun c_3 => ?_) (fun c_3 => ?_)
  · skip
    refine V_aload_n C dX0_takeObject_14 rfl ?_
    refine V_midz (pc2 := 26) (if x = 119 then 2 else 3) ?_ (fun kk_15 => ?_)
    · skip
      refine vp_X0_34 C dX0_takeObject_26 (by repeat (first | with_reducible assumption | with_reducible exact zs_eq (by first | assumption | (simp only [List.length_set]; assumption)) | refine zs_ne (by first | with_reducible assumption | exact Ne.symm (by with_reducible assumption) | omega) ?_)) (Nat.le_of_ble_eq_true rfl) ?_
      refine V_iconst C dX0_takeObject_29 ?_
      exact V_iret C R dX0_takeObject_30 ⟨by rw [tkO_2 (by omega)], by rw [tkO_2 (by omega)]; rfl⟩
    · skip
      refine V_iload_n C dX0_takeObject_15 rfl ?_
      refine V_bipush C dX0_takeObject_16 (by decide) ?_
      refine V_icmp_ne (tgt := 25) C dX0_takeObject_18 (by decide) (by omega) (by omega) (fun c_18 => ?_) (fun c_18 => ?_)
      · skip
        refine V_iconst C dX0_takeObject_25 ?_
        exact kk_15 _ (by first | exact (if_pos (by omega)).symm | exact (if_neg (by omega)).symm)
      · skip
        refine V_iconst C dX0_takeObject_21 ?_
        refine V_goto (tgt := 26) C dX0_takeObject_22 (by decide) ?_
        exact kk_15 _ (by first | exact (if_pos (by omega)).symm | exact (if_neg (by omega)).symm)
  · skip
    refine V_iload_n C dX0_takeObject_6 rfl ?_
    refine V_bipush C dX0_takeObject_7 (by decide) ?_
    refine V_icmp_eq (tgt := 14) C dX0_takeObject_9 (by decide) (by omega) (by omega) (fun c_9 => ?_) (fun c_9 => ?_)
    · skip
      refine V_aload_n C dX0_takeObject_14 rfl ?_
      refine V_midz (pc2 := 26) (if x = 119 then 2 else 3) ?_ (fun kk_15 => ?_)
      · skip
        refine vp_X0_34 C dX0_takeObject_26 (by repeat (first | with_reducible assumption | with_reducible exact zs_eq (by first | assumption | (simp only [List.length_set]; assumption)) | refine zs_ne (by first | with_reducible assumption | exact Ne.symm (by with_reducible assumption) | omega) ?_)) (Nat.le_of_ble_eq_true rfl) ?_
        refine V_iconst C dX0_takeObject_29 ?_
        exact V_iret C R dX0_takeObject_30 ⟨by rw [tkO_2 (by omega)], by rw [tkO_2 (by omega)]; rfl⟩
      · skip
        refine V_iload_n C dX0_takeObject_15 rfl ?_
        refine V_bipush C dX0_takeObject_16 (by decide) ?_
        refine V_icmp_ne (tgt := 25) C dX0_takeObject_18 (by decide) (by omega) (by omega) (fun c_18 => ?_) (fun c_18 => ?_)
        · skip
          refine V_iconst C dX0_takeObject_25 ?_
          exact kk_15 _ (by first | exact (if_pos (by omega)).symm | exact (if_neg (by omega)).symm)
        · skip
          refine V_iconst C dX0_takeObject_21 ?_
          refine V_goto (tgt := 26) C dX0_takeObject_22 (by decide) ?_
          exact kk_15 _ (by first | exact (if_pos (by omega)).symm | exact (if_neg (by omega)).symm)
    · skip
      refine V_iconst C dX0_takeObject_12 ?_
      exact V_iret C R dX0_takeObject_13 ⟨by rw [tkO_1 (by omega)], by rw [tkO_1 (by omega)]; exact (zs_self hi).symm⟩

set_option maxRecDepth 100000 in
theorem m_X0_takeReach (G : zG) {cs : List va_E} {i j : Nat} {k : Int → Int} (hi : cs[i]? = some (oC G j k)) (hk : ∀ n, rng (k n)) {x : Int} (hx : 0 ≤ x ∧ x ≤ 1000) (h4 : 0 ≤ k 4 ∧ k 4 ≤ 99) : zMet G yX0_takeReach cX0_takeReach 2 (some .int) 2 42 [.ref (G.ad i), .int (iI x)] cs (zO (.int (iI (tkR k x).1)) (cs.set i (oC G j (tkR k x).2))) := by
  refine zMet.of (by decide) (Nat.le_of_ble_eq_true rfl) ?_
  intro E C R
  have C : zC G E RX0 cX0_takeReach 2 2 42 := C
  show V G E 0 [some (.ref (G.ad i)), some (.int (iI x))] [] cs
  have hli := zs_lt hi
  have hk2 := hk 2
  have hx : rng x := by omega
  refine V_iload_n C dX0_takeReach_0 rfl ?_
  refine V_aload_n C dX0_takeReach_1 rfl ?_
  refine vg_X0_31 C dX0_takeReach_2 (by repeat (first | with_reducible assumption | with_reducible exact zs_eq (by first | assumption | (simp only [List.length_set]; assumption)) | refine zs_ne (by first | with_reducible assumption | exact Ne.symm (by with_reducible assumption) | omega) ?_)) rfl ?_
  refine V_callS C lk_X0_74 (m_X0_isFigure G (by omega) (by omega)) dX0_takeReach_5 rfl rfl (by decide) (Nat.le_of_ble_eq_true rfl) (kO ?_)
  refine V_if_eqB (tgt := 25) C dX0_takeReach_8 (by decide) (fun c_8 => ?_) (fun c_8 => ?_)
  · skip
    refine V_iload_n C dX0_takeReach_25 rfl ?_
    refine V_aload_n C dX0_takeReach_26 rfl ?_
    refine vg_X0_25 C dX0_takeReach_27 (by repeat (first | with_reducible assumption | with_reducible exact zs_eq (by first | assumption | (simp only [List.length_set]; assumption)) | refine zs_ne (by first | with_reducible assumption | exact Ne.symm (by with_reducible assumption) | omega) ?_)) rfl ?_
    refine V_icmp_ne (tgt := 40) C dX0_takeReach_30 (by decide) (by omega) (by omega) (fun c_30 => ?_) (fun c_30 => ?_)
    · skip
      refine V_iload_n C dX0_takeReach_40 rfl ?_
      refine V_bipush C dX0_takeReach_41 (by decide) ?_
      refine V_icmp_eq (tgt := 52) C dX0_takeReach_43 (by decide) (by omega) (by omega) (fun c_43 => ?_) (fun c_43 => ?_)
      · skip
        refine V_aload_n C dX0_takeReach_52 rfl ?_
        refine V_midz (pc2 := 64) (if x = 97 then 1 else 0) ?_ (fun kk_53 => ?_)
        · skip
          refine vp_X0_40 C dX0_takeReach_64 (by repeat (first | with_reducible assumption | with_reducible exact zs_eq (by first | assumption | (simp only [List.length_set]; assumption)) | refine zs_ne (by first | with_reducible assumption | exact Ne.symm (by with_reducible assumption) | omega) ?_)) (Nat.le_of_ble_eq_true rfl) (by omega) ?_
          refine V_aload_n C dX0_takeReach_67 rfl ?_
          refine V_iconst C dX0_takeReach_68 ?_
          refine vp_X0_22 C dX0_takeReach_69 (by repeat (first | with_reducible assumption | with_reducible exact zs_eq (by first | assumption | (simp only [List.length_set]; assumption)) | refine zs_ne (by first | with_reducible assumption | exact Ne.symm (by with_reducible assumption) | omega) ?_)) (Nat.le_of_ble_eq_true rfl) ?_
          refine V_iconst C dX0_takeReach_72 ?_
          exact V_iret C R dX0_takeReach_73 ⟨by rw [tkR_3 (by omega) (by omega) (by omega)], by rw [tkR_3 (by omega) (by omega) (by omega)]; simp only [List.set_set]; rfl⟩
        · skip
          refine V_iload_n C dX0_takeReach_53 rfl ?_
          refine V_bipush C dX0_takeReach_54 (by decide) ?_
          refine V_icmp_ne (tgt := 63) C dX0_takeReach_56 (by decide) (by omega) (by omega) (fun c_56 => ?_) (fun c_56 => ?_)
          · skip
            refine V_iconst C dX0_takeReach_63 ?_
            exact kk_53 _ (by first | exact (if_pos (by omega)).symm | exact (if_neg (by omega)).symm)
          · skip
            refine V_iconst C dX0_takeReach_59 ?_
            refine V_goto (tgt := 64) C dX0_takeReach_60 (by decide) ?_
            exact kk_53 _ (by first | exact (if_pos (by omega)).symm | exact (if_neg (by omega)).symm)
      · skip
        refine V_iload_n C dX0_takeReach_46 rfl ?_
        refine V_bipush C dX0_takeReach_47 (by decide) ?_
        refine V_icmp_ne (tgt := 74) C dX0_takeReach_49 (by decide) (by omega) (by omega) (fun c_49 => ?_) (fun c_49 => ?_)
        · skip
          refine V_aload_n C dX0_takeReach_74 rfl ?_
          refine V_iload_n C dX0_takeReach_75 rfl ?_
          refine V_callV C lk_X0_84 (m_X0_takeMotion G hi hk hx) dX0_takeReach_76 rfl rfl (by repeat (first | with_reducible assumption | with_reducible exact zs_eq (by first | assumption | (simp only [List.length_set]; assumption)) | refine zs_ne (by first | with_reducible assumption | exact Ne.symm (by with_reducible assumption) | omega) ?_)) rfl (by decide) (Nat.le_of_ble_eq_true rfl) (kO ?_)
          exact V_iret C R dX0_takeReach_79 ⟨by rw [tkR_4 (by omega) (by omega) (by omega)], by rw [tkR_4 (by omega) (by omega) (by omega)]⟩
        · skip
          refine V_aload_n C dX0_takeReach_52 rfl ?_
          refine V_midz (pc2 := 64) (if x = 97 then 1 else 0) ?_ (fun kk_53 => ?_)
          · skip
            refine vp_X0_40 C dX0_takeReach_64 (by repeat (first | with_reducible assumption | with_reducible exact zs_eq (by first | assumption | (simp only [List.length_set]; assumption)) | refine zs_ne (by first | with_reducible assumption | exact Ne.symm (by with_reducible assumption) | omega) ?_)) (Nat.le_of_ble_eq_true rfl) (by omega) ?_
            refine V_aload_n C dX0_takeReach_67 rfl ?_
            refine V_iconst C dX0_takeReach_68 ?_
            refine vp_X0_22 C dX0_takeReach_69 (by repeat (first | with_reducible assumption | with_reducible exact zs_eq (by first | assumption | (simp only [List.length_set]; assumption)) | refine zs_ne (by first | with_reducible assumption | exact Ne.symm (by with_reducible assumption) | omega) ?_)) (Nat.le_of_ble_eq_true rfl) ?_
            refine V_iconst C dX0_takeReach_72 ?_
            exact V_iret C R dX0_takeReach_73 ⟨by rw [tkR_3 (by omega) (by omega) (by omega)], by rw [tkR_3 (by omega) (by omega) (by omega)]; simp only [List.set_set]; rfl⟩
          · skip
            refine V_iload_n C dX0_takeReach_53 rfl ?_
            refine V_bipush C dX0_takeReach_54 (by decide) ?_
            refine V_icmp_ne (tgt := 63) C dX0_takeReach_56 (by decide) (by omega) (by omega) (fun c_56 => ?_) (fun c_56 => ?_)
            · skip
              refine V_iconst C dX0_takeReach_63 ?_
              exact kk_53 _ (by first | exact (if_pos (by omega)).symm | exact (if_neg (by omega)).symm)
            · skip
              refine V_iconst C dX0_takeReach_59 ?_
              refine V_goto (tgt := 64) C dX0_takeReach_60 (by decide) ?_
              exact kk_53 _ (by first | exact (if_pos (by omega)).symm | exact (if_neg (by omega)).symm)
    · skip
      refine V_aload_n C dX0_takeReach_33 rfl ?_
      refine V_iconst C dX0_takeReach_34 ?_
      refine vp_X0_34 C dX0_takeReach_35 (by repeat (first | with_reducible assumption | with_reducible exact zs_eq (by first | assumption | (simp only [List.length_set]; assumption)) | refine zs_ne (by first | with_reducible assumption | exact Ne.symm (by with_reducible assumption) | omega) ?_)) (Nat.le_of_ble_eq_true rfl) ?_
      refine V_iconst C dX0_takeReach_38 ?_
      exact V_iret C R dX0_takeReach_39 ⟨by rw [tkR_2 (by omega) (by omega)], by rw [tkR_2 (by omega) (by omega)]; rfl⟩
  · skip
    refine V_aload_n C dX0_takeReach_11 rfl ?_
    refine V_aload_n C dX0_takeReach_12 rfl ?_
    refine vg_X0_31 C dX0_takeReach_13 (by repeat (first | with_reducible assumption | with_reducible exact zs_eq (by first | assumption | (simp only [List.length_set]; assumption)) | refine zs_ne (by first | with_reducible assumption | exact Ne.symm (by with_reducible assumption) | omega) ?_)) rfl ?_
    refine V_iload_n C dX0_takeReach_16 rfl ?_
    refine V_callS C lk_X0_78 (m_X0_withFigure G (by omega) (by omega)) dX0_takeReach_17 rfl rfl (by decide) (Nat.le_of_ble_eq_true rfl) (kO ?_)
    refine vp_X0_31 C dX0_takeReach_20 (by repeat (first | with_reducible assumption | with_reducible exact zs_eq (by first | assumption | (simp only [List.length_set]; assumption)) | refine zs_ne (by first | with_reducible assumption | exact Ne.symm (by with_reducible assumption) | omega) ?_)) (Nat.le_of_ble_eq_true rfl) ?_
    refine V_iconst C dX0_takeReach_23 ?_
    exact V_iret C R dX0_takeReach_24 ⟨by rw [tkR_1 (by omega)], by rw [tkR_1 (by omega)]; rfl⟩

set_option maxRecDepth 100000 in
theorem m_X0_takeVerb (G : zG) {cs : List va_E} {i j : Nat} {k : Int → Int} (hi : cs[i]? = some (oC G j k)) (hk : ∀ n, rng (k n)) {x : Int} (hx : 0 ≤ x ∧ x ≤ 1000) (h3 : 0 ≤ k 3 ∧ k 3 ≤ 99) : zMet G yX0_takeVerb cX0_takeVerb 2 (some .int) 2 42 [.ref (G.ad i), .int (iI x)] cs (zO (.int (iI (tkV k x).1)) (cs.set i (oC G j (tkV k x).2))) := by
  refine zMet.of (by decide) (Nat.le_of_ble_eq_true rfl) ?_
  intro E C R
  have C : zC G E RX0 cX0_takeVerb 2 2 42 := C
  show V G E 0 [some (.ref (G.ad i)), some (.int (iI x))] [] cs
  have hli := zs_lt hi
  have hk2 := hk 2
  have hxx : rng x := by omega
  refine V_iload_n C dX0_takeVerb_0 rfl ?_
  refine V_aload_n C dX0_takeVerb_1 rfl ?_
  refine vg_X0_28 C dX0_takeVerb_2 (by repeat (first | with_reducible assumption | with_reducible exact zs_eq (by first | assumption | (simp only [List.length_set]; assumption)) | refine zs_ne (by first | with_reducible assumption | exact Ne.symm (by with_reducible assumption) | omega) ?_)) rfl ?_
  refine V_callS C lk_X0_74 (m_X0_isFigure G (by omega) (by omega)) dX0_takeVerb_5 rfl rfl (by decide) (Nat.le_of_ble_eq_true rfl) (kO ?_)
  refine V_if_eqB (tgt := 25) C dX0_takeVerb_8 (by decide) (fun c_8 => ?_) (fun c_8 => ?_)
  · skip
    refine V_iload_n C dX0_takeVerb_25 rfl ?_
    by_cases w_26_65 : x = 65
    · skip
      refine V_lookup (tgt := 182) (off := 156) C dX0_takeVerb_26 rfl (by omega) (by rw [w_26_65]; rfl) (by decide) ?_
      refine V_aload_n C dX0_takeVerb_182 rfl ?_
      refine V_iload_n C dX0_takeVerb_183 rfl ?_
      refine vp_X0_25 C dX0_takeVerb_184 (by repeat (first | with_reducible assumption | with_reducible exact zs_eq (by first | assumption | (simp only [List.length_set]; assumption)) | refine zs_ne (by first | with_reducible assumption | exact Ne.symm (by with_reducible assumption) | omega) ?_)) (Nat.le_of_ble_eq_true rfl) ?_
      refine V_iconst C dX0_takeVerb_187 ?_
      exact V_iret C R dX0_takeVerb_188 ⟨by rw [tkV_6 (by omega) (by omega) (by omega) (by omega) (by omega) (by omega)], by rw [tkV_6 (by omega) (by omega) (by omega) (by omega) (by omega) (by omega)]; rfl⟩
    by_cases w_26_73 : x = 73
    · skip
      refine V_lookup (tgt := 182) (off := 156) C dX0_takeVerb_26 rfl (by omega) (by rw [w_26_73]; rfl) (by decide) ?_
      refine V_aload_n C dX0_takeVerb_182 rfl ?_
      refine V_iload_n C dX0_takeVerb_183 rfl ?_
      refine vp_X0_25 C dX0_takeVerb_184 (by repeat (first | with_reducible assumption | with_reducible exact zs_eq (by first | assumption | (simp only [List.length_set]; assumption)) | refine zs_ne (by first | with_reducible assumption | exact Ne.symm (by with_reducible assumption) | omega) ?_)) (Nat.le_of_ble_eq_true rfl) ?_
      refine V_iconst C dX0_takeVerb_187 ?_
      exact V_iret C R dX0_takeVerb_188 ⟨by rw [tkV_6 (by omega) (by omega) (by omega) (by omega) (by omega) (by omega)], by rw [tkV_6 (by omega) (by omega) (by omega) (by omega) (by omega) (by omega)]; rfl⟩
    by_cases w_26_80 : x = 80
    · skip
      refine V_lookup (tgt := 182) (off := 156) C dX0_takeVerb_26 rfl (by omega) (by rw [w_26_80]; rfl) (by decide) ?_
      refine V_aload_n C dX0_takeVerb_182 rfl ?_
      refine V_iload_n C dX0_takeVerb_183 rfl ?_
      refine vp_X0_25 C dX0_takeVerb_184 (by repeat (first | with_reducible assumption | with_reducible exact zs_eq (by first | assumption | (simp only [List.length_set]; assumption)) | refine zs_ne (by first | with_reducible assumption | exact Ne.symm (by with_reducible assumption) | omega) ?_)) (Nat.le_of_ble_eq_true rfl) ?_
      refine V_iconst C dX0_takeVerb_187 ?_
      exact V_iret C R dX0_takeVerb_188 ⟨by rw [tkV_6 (by omega) (by omega) (by omega) (by omega) (by omega) (by omega)], by rw [tkV_6 (by omega) (by omega) (by omega) (by omega) (by omega) (by omega)]; rfl⟩
    by_cases w_26_97 : x = 97
    · skip
      refine V_lookup (tgt := 182) (off := 156) C dX0_takeVerb_26 rfl (by omega) (by rw [w_26_97]; rfl) (by decide) ?_
      refine V_aload_n C dX0_takeVerb_182 rfl ?_
      refine V_iload_n C dX0_takeVerb_183 rfl ?_
      refine vp_X0_25 C dX0_takeVerb_184 (by repeat (first | with_reducible assumption | with_reducible exact zs_eq (by first | assumption | (simp only [List.length_set]; assumption)) | refine zs_ne (by first | with_reducible assumption | exact Ne.symm (by with_reducible assumption) | omega) ?_)) (Nat.le_of_ble_eq_true rfl) ?_
      refine V_iconst C dX0_takeVerb_187 ?_
      exact V_iret C R dX0_takeVerb_188 ⟨by rw [tkV_6 (by omega) (by omega) (by omega) (by omega) (by omega) (by omega)], by rw [tkV_6 (by omega) (by omega) (by omega) (by omega) (by omega) (by omega)]; rfl⟩
    by_cases w_26_99 : x = 99
    · skip
      refine V_lookup (tgt := 148) (off := 122) C dX0_takeVerb_26 rfl (by omega) (by rw [w_26_99]; rfl) (by decide) ?_
      refine V_aload_n C dX0_takeVerb_148 rfl ?_
      refine V_iload_n C dX0_takeVerb_149 rfl ?_
      refine V_iconst C dX0_takeVerb_150 ?_
      refine V_callV C lk_X0_81 (m_X0_waitWith G hi) dX0_takeVerb_151 rfl rfl (by repeat (first | with_reducible assumption | with_reducible exact zs_eq (by first | assumption | (simp only [List.length_set]; assumption)) | refine zs_ne (by first | with_reducible assumption | exact Ne.symm (by with_reducible assumption) | omega) ?_)) rfl (by decide) (Nat.le_of_ble_eq_true rfl) (kO ?_)
      exact V_iret C R dX0_takeVerb_154 ⟨by rw [tkV_2 (by omega) (by omega)], by rw [tkV_2 (by omega) (by omega)]⟩
    by_cases w_26_100 : x = 100
    · skip
      refine V_lookup (tgt := 148) (off := 122) C dX0_takeVerb_26 rfl (by omega) (by rw [w_26_100]; rfl) (by decide) ?_
      refine V_aload_n C dX0_takeVerb_148 rfl ?_
      refine V_iload_n C dX0_takeVerb_149 rfl ?_
      refine V_iconst C dX0_takeVerb_150 ?_
      refine V_callV C lk_X0_81 (m_X0_waitWith G hi) dX0_takeVerb_151 rfl rfl (by repeat (first | with_reducible assumption | with_reducible exact zs_eq (by first | assumption | (simp only [List.length_set]; assumption)) | refine zs_ne (by first | with_reducible assumption | exact Ne.symm (by with_reducible assumption) | omega) ?_)) rfl (by decide) (Nat.le_of_ble_eq_true rfl) (kO ?_)
      exact V_iret C R dX0_takeVerb_154 ⟨by rw [tkV_2 (by omega) (by omega)], by rw [tkV_2 (by omega) (by omega)]⟩
    by_cases w_26_105 : x = 105
    · skip
      refine V_lookup (tgt := 182) (off := 156) C dX0_takeVerb_26 rfl (by omega) (by rw [w_26_105]; rfl) (by decide) ?_
      refine V_aload_n C dX0_takeVerb_182 rfl ?_
      refine V_iload_n C dX0_takeVerb_183 rfl ?_
      refine vp_X0_25 C dX0_takeVerb_184 (by repeat (first | with_reducible assumption | with_reducible exact zs_eq (by first | assumption | (simp only [List.length_set]; assumption)) | refine zs_ne (by first | with_reducible assumption | exact Ne.symm (by with_reducible assumption) | omega) ?_)) (Nat.le_of_ble_eq_true rfl) ?_
      refine V_iconst C dX0_takeVerb_187 ?_
      exact V_iret C R dX0_takeVerb_188 ⟨by rw [tkV_6 (by omega) (by omega) (by omega) (by omega) (by omega) (by omega)], by rw [tkV_6 (by omega) (by omega) (by omega) (by omega) (by omega) (by omega)]; rfl⟩
    by_cases w_26_109 : x = 109
    · skip
      refine V_lookup (tgt := 162) (off := 136) C dX0_takeVerb_26 rfl (by omega) (by rw [w_26_109]; rfl) (by decide) ?_
      refine V_aload_n C dX0_takeVerb_162 rfl ?_
      refine V_iload_n C dX0_takeVerb_163 rfl ?_
      refine V_iconst C dX0_takeVerb_164 ?_
      refine V_callV C lk_X0_81 (m_X0_waitWith G hi) dX0_takeVerb_165 rfl rfl (by repeat (first | with_reducible assumption | with_reducible exact zs_eq (by first | assumption | (simp only [List.length_set]; assumption)) | refine zs_ne (by first | with_reducible assumption | exact Ne.symm (by with_reducible assumption) | omega) ?_)) rfl (by decide) (Nat.le_of_ble_eq_true rfl) (kO ?_)
      exact V_iret C R dX0_takeVerb_168 ⟨by rw [tkV_4 (by omega) (by omega) (by omega) (by omega)], by rw [tkV_4 (by omega) (by omega) (by omega) (by omega)]⟩
    by_cases w_26_112 : x = 112
    · skip
      refine V_lookup (tgt := 182) (off := 156) C dX0_takeVerb_26 rfl (by omega) (by rw [w_26_112]; rfl) (by decide) ?_
      refine V_aload_n C dX0_takeVerb_182 rfl ?_
      refine V_iload_n C dX0_takeVerb_183 rfl ?_
      refine vp_X0_25 C dX0_takeVerb_184 (by repeat (first | with_reducible assumption | with_reducible exact zs_eq (by first | assumption | (simp only [List.length_set]; assumption)) | refine zs_ne (by first | with_reducible assumption | exact Ne.symm (by with_reducible assumption) | omega) ?_)) (Nat.le_of_ble_eq_true rfl) ?_
      refine V_iconst C dX0_takeVerb_187 ?_
      exact V_iret C R dX0_takeVerb_188 ⟨by rw [tkV_6 (by omega) (by omega) (by omega) (by omega) (by omega) (by omega)], by rw [tkV_6 (by omega) (by omega) (by omega) (by omega) (by omega) (by omega)]; rfl⟩
    by_cases w_26_114 : x = 114
    · skip
      refine V_lookup (tgt := 155) (off := 129) C dX0_takeVerb_26 rfl (by omega) (by rw [w_26_114]; rfl) (by decide) ?_
      refine V_aload_n C dX0_takeVerb_155 rfl ?_
      refine V_iload_n C dX0_takeVerb_156 rfl ?_
      refine V_iconst C dX0_takeVerb_157 ?_
      refine V_callV C lk_X0_81 (m_X0_waitWith G hi) dX0_takeVerb_158 rfl rfl (by repeat (first | with_reducible assumption | with_reducible exact zs_eq (by first | assumption | (simp only [List.length_set]; assumption)) | refine zs_ne (by first | with_reducible assumption | exact Ne.symm (by with_reducible assumption) | omega) ?_)) rfl (by decide) (Nat.le_of_ble_eq_true rfl) (kO ?_)
      exact V_iret C R dX0_takeVerb_161 ⟨by rw [tkV_3 (by omega) (by omega) (by omega)], by rw [tkV_3 (by omega) (by omega) (by omega)]⟩
    by_cases w_26_117 : x = 117
    · skip
      refine V_lookup (tgt := 182) (off := 156) C dX0_takeVerb_26 rfl (by omega) (by rw [w_26_117]; rfl) (by decide) ?_
      refine V_aload_n C dX0_takeVerb_182 rfl ?_
      refine V_iload_n C dX0_takeVerb_183 rfl ?_
      refine vp_X0_25 C dX0_takeVerb_184 (by repeat (first | with_reducible assumption | with_reducible exact zs_eq (by first | assumption | (simp only [List.length_set]; assumption)) | refine zs_ne (by first | with_reducible assumption | exact Ne.symm (by with_reducible assumption) | omega) ?_)) (Nat.le_of_ble_eq_true rfl) ?_
      refine V_iconst C dX0_takeVerb_187 ?_
      exact V_iret C R dX0_takeVerb_188 ⟨by rw [tkV_6 (by omega) (by omega) (by omega) (by omega) (by omega) (by omega)], by rw [tkV_6 (by omega) (by omega) (by omega) (by omega) (by omega) (by omega)]; rfl⟩
    by_cases w_26_120 : x = 120
    · skip
      refine V_lookup (tgt := 169) (off := 143) C dX0_takeVerb_26 rfl (by omega) (by rw [w_26_120]; rfl) (by decide) ?_
      refine V_aload_n C dX0_takeVerb_169 rfl ?_
      refine V_bipush C dX0_takeVerb_170 (by decide) ?_
      refine vp_X0_25 C dX0_takeVerb_172 (by repeat (first | with_reducible assumption | with_reducible exact zs_eq (by first | assumption | (simp only [List.length_set]; assumption)) | refine zs_ne (by first | with_reducible assumption | exact Ne.symm (by with_reducible assumption) | omega) ?_)) (Nat.le_of_ble_eq_true rfl) ?_
      refine V_aload_n C dX0_takeVerb_175 rfl ?_
      refine V_iconst C dX0_takeVerb_176 ?_
      refine vp_X0_34 C dX0_takeVerb_177 (by repeat (first | with_reducible assumption | with_reducible exact zs_eq (by first | assumption | (simp only [List.length_set]; assumption)) | refine zs_ne (by first | with_reducible assumption | exact Ne.symm (by with_reducible assumption) | omega) ?_)) (Nat.le_of_ble_eq_true rfl) ?_
      refine V_iconst C dX0_takeVerb_180 ?_
      exact V_iret C R dX0_takeVerb_181 ⟨by rw [tkV_5 (by omega) (by omega) (by omega) (by omega) (by omega)], by rw [tkV_5 (by omega) (by omega) (by omega) (by omega) (by omega)]; simp only [List.set_set]; rfl⟩
    by_cases w_26_121 : x = 121
    · skip
      refine V_lookup (tgt := 148) (off := 122) C dX0_takeVerb_26 rfl (by omega) (by rw [w_26_121]; rfl) (by decide) ?_
      refine V_aload_n C dX0_takeVerb_148 rfl ?_
      refine V_iload_n C dX0_takeVerb_149 rfl ?_
      refine V_iconst C dX0_takeVerb_150 ?_
      refine V_callV C lk_X0_81 (m_X0_waitWith G hi) dX0_takeVerb_151 rfl rfl (by repeat (first | with_reducible assumption | with_reducible exact zs_eq (by first | assumption | (simp only [List.length_set]; assumption)) | refine zs_ne (by first | with_reducible assumption | exact Ne.symm (by with_reducible assumption) | omega) ?_)) rfl (by decide) (Nat.le_of_ble_eq_true rfl) (kO ?_)
      exact V_iret C R dX0_takeVerb_154 ⟨by rw [tkV_2 (by omega) (by omega)], by rw [tkV_2 (by omega) (by omega)]⟩
    by_cases w_26_126 : x = 126
    · skip
      refine V_lookup (tgt := 182) (off := 156) C dX0_takeVerb_26 rfl (by omega) (by rw [w_26_126]; rfl) (by decide) ?_
      refine V_aload_n C dX0_takeVerb_182 rfl ?_
      refine V_iload_n C dX0_takeVerb_183 rfl ?_
      refine vp_X0_25 C dX0_takeVerb_184 (by repeat (first | with_reducible assumption | with_reducible exact zs_eq (by first | assumption | (simp only [List.length_set]; assumption)) | refine zs_ne (by first | with_reducible assumption | exact Ne.symm (by with_reducible assumption) | omega) ?_)) (Nat.le_of_ble_eq_true rfl) ?_
      refine V_iconst C dX0_takeVerb_187 ?_
      exact V_iret C R dX0_takeVerb_188 ⟨by rw [tkV_6 (by omega) (by omega) (by omega) (by omega) (by omega) (by omega)], by rw [tkV_6 (by omega) (by omega) (by omega) (by omega) (by omega) (by omega)]; rfl⟩
    refine V_lookup (tgt := 189) (off := 163) C dX0_takeVerb_26 rfl (by omega) (by simp [Op.lookupswitch.offset]; repeat rw [if_neg (Ne.symm (by assumption))]) (by decide) ?_
    refine V_aload_n C dX0_takeVerb_189 rfl ?_
    refine V_iload_n C dX0_takeVerb_190 rfl ?_
    refine V_callV C lk_X0_84 (m_X0_takeMotion G hi hk hxx) dX0_takeVerb_191 rfl rfl (by repeat (first | with_reducible assumption | with_reducible exact zs_eq (by first | assumption | (simp only [List.length_set]; assumption)) | refine zs_ne (by first | with_reducible assumption | exact Ne.symm (by with_reducible assumption) | omega) ?_)) rfl (by decide) (Nat.le_of_ble_eq_true rfl) (kO ?_)
    exact V_iret C R dX0_takeVerb_194 ⟨by rw [tkV_7 (by omega) (by omega) (by omega) (by omega) (by omega) (by omega)], by rw [tkV_7 (by omega) (by omega) (by omega) (by omega) (by omega) (by omega)]⟩
  · skip
    refine V_aload_n C dX0_takeVerb_11 rfl ?_
    refine V_aload_n C dX0_takeVerb_12 rfl ?_
    refine vg_X0_28 C dX0_takeVerb_13 (by repeat (first | with_reducible assumption | with_reducible exact zs_eq (by first | assumption | (simp only [List.length_set]; assumption)) | refine zs_ne (by first | with_reducible assumption | exact Ne.symm (by with_reducible assumption) | omega) ?_)) rfl ?_
    refine V_iload_n C dX0_takeVerb_16 rfl ?_
    refine V_callS C lk_X0_78 (m_X0_withFigure G (by omega) (by omega)) dX0_takeVerb_17 rfl rfl (by decide) (Nat.le_of_ble_eq_true rfl) (kO ?_)
    refine vp_X0_28 C dX0_takeVerb_20 (by repeat (first | with_reducible assumption | with_reducible exact zs_eq (by first | assumption | (simp only [List.length_set]; assumption)) | refine zs_ne (by first | with_reducible assumption | exact Ne.symm (by with_reducible assumption) | omega) ?_)) (Nat.le_of_ble_eq_true rfl) ?_
    refine V_iconst C dX0_takeVerb_23 ?_
    exact V_iret C R dX0_takeVerb_24 ⟨by rw [tkV_1 (by omega)], by rw [tkV_1 (by omega)]; rfl⟩

set_option maxRecDepth 100000 in
theorem m_X0_times (G : zG) {cs : List va_E} {i j : Nat} {k : Int → Int} (hi : cs[i]? = some (oC G j k)) (hk : ∀ n, rng (k n)) (h3 : 0 ≤ k 3 ∧ k 3 ≤ 99) (h4 : 0 ≤ k 4 ∧ k 4 ≤ 99) : zMet G yX0_times cX0_times 1 (some .int) 1 21 [.ref (G.ad i)] cs (zO (.int (iI (tmz k))) cs) := by
  refine zMet.of (by decide) (Nat.le_of_ble_eq_true rfl) ?_
  intro E C R
  have C : zC G E RX0 cX0_times 1 1 21 := C
  show V G E 0 [some (.ref (G.ad i))] [] cs
  have hli := zs_lt hi
  obtain ⟨t1, t2, t3, t4⟩ := tmz_in h3 h4
  refine V_aload_n C dX0_times_0 rfl ?_
  refine vg_X0_28 C dX0_times_1 (by assumption) rfl ?_
  refine V_iconst C dX0_times_4 ?_
  refine V_max C wm_X0_51 dX0_times_5 (by omega) (by omega) (by decide) (Nat.le_of_ble_eq_true rfl) ?_
  refine V_aload_n C dX0_times_8 rfl ?_
  refine vg_X0_31 C dX0_times_9 (by assumption) rfl ?_
  refine V_iconst C dX0_times_12 ?_
  refine V_max C wm_X0_51 dX0_times_13 (by omega) (by omega) (by decide) (Nat.le_of_ble_eq_true rfl) ?_
  refine V_imul C dX0_times_16 ?_
  refine V_bipush C dX0_times_17 (by decide) ?_
  refine V_min C wm_X0_57 dX0_times_19 (by omega) (by omega) (by decide) (Nat.le_of_ble_eq_true rfl) ?_
  exact V_iret C R dX0_times_22 (zO_i rfl)

/-- a Command (id i) with its keys (ids j, jj) -/
def isC (G : zG) (cs : List va_E) (i j jj : Nat) (k f : Int → Int) (s : Int) : Prop := cs[i]? = some (oC G j k) ∧ isK G cs j jj f s ∧ (∀ n, rng (k n)) ∧ i ≠ j ∧ 0 ≤ k 3 ∧ k 3 ≤ 99 ∧ 0 ≤ k 4 ∧ k 4 ≤ 99
def toC (G : zG) (cs : List va_E) (i j jj : Nat) (k f : Int → Int) (s : Int) : List va_E := (toK G cs j jj f s).set i (oC G j k)

set_option maxRecDepth 100000 in
theorem m_X0_clear (G : zG) {cs : List va_E} {i j jj : Nat} {k f : Int → Int} {s : Int} (X : isC G cs i j jj k f s) : zMet G yX0_clear cX0_clear 1 none 0 0 [.ref (G.ad i)] cs (zO0 (toC G cs i j jj (fun _ => 0) f 0)) := by
  refine zMet.of (by decide) (Nat.le_of_ble_eq_true rfl) ?_
  intro E C R
  have C : zC G E RX0 cX0_clear 1 0 0 := C
  show V G E 0 [some (.ref (G.ad i))] [] cs
  obtain ⟨hi, T, hk, hij, h30, h31, h40, h41⟩ := id X
  obtain ⟨hj, hjj, hf, hs0, hs1⟩ := id T
  have hijj := zs_ao hi hjj
  have hjj2 := zs_ao hj hjj
  have hli := zs_lt hi
  have hlj := zs_lt hj
  have hljj := zs_lt hjj
  refine V_aload_n C dX0_clear_0 rfl ?_
  refine vg_X0_12 C dX0_clear_1 (by repeat (first | with_reducible assumption | with_reducible exact zs_eq (by first | assumption | (simp only [List.length_set]; assumption)) | refine zs_ne (by first | with_reducible assumption | exact Ne.symm (by with_reducible assumption) | omega) ?_)) rfl ?_
  refine V_iconst C dX0_clear_4 ?_
  refine vp_X0_18 C dX0_clear_5 (by repeat (first | with_reducible assumption | with_reducible exact zs_eq (by first | assumption | (simp only [List.length_set]; assumption)) | refine zs_ne (by first | with_reducible assumption | exact Ne.symm (by with_reducible assumption) | omega) ?_)) (Nat.le_of_ble_eq_true rfl) ?_
  refine V_aload_n C dX0_clear_8 rfl ?_
  refine V_iconst C dX0_clear_9 ?_
  refine vp_X0_22 C dX0_clear_10 (by repeat (first | with_reducible assumption | with_reducible exact zs_eq (by first | assumption | (simp only [List.length_set]; assumption)) | refine zs_ne (by first | with_reducible assumption | exact Ne.symm (by with_reducible assumption) | omega) ?_)) (Nat.le_of_ble_eq_true rfl) ?_
  refine V_aload_n C dX0_clear_13 rfl ?_
  refine V_iconst C dX0_clear_14 ?_
  refine vp_X0_25 C dX0_clear_15 (by repeat (first | with_reducible assumption | with_reducible exact zs_eq (by first | assumption | (simp only [List.length_set]; assumption)) | refine zs_ne (by first | with_reducible assumption | exact Ne.symm (by with_reducible assumption) | omega) ?_)) (Nat.le_of_ble_eq_true rfl) ?_
  refine V_aload_n C dX0_clear_18 rfl ?_
  refine V_iconst C dX0_clear_19 ?_
  refine vp_X0_28 C dX0_clear_20 (by repeat (first | with_reducible assumption | with_reducible exact zs_eq (by first | assumption | (simp only [List.length_set]; assumption)) | refine zs_ne (by first | with_reducible assumption | exact Ne.symm (by with_reducible assumption) | omega) ?_)) (Nat.le_of_ble_eq_true rfl) ?_
  refine V_aload_n C dX0_clear_23 rfl ?_
  refine V_iconst C dX0_clear_24 ?_
  refine vp_X0_31 C dX0_clear_25 (by repeat (first | with_reducible assumption | with_reducible exact zs_eq (by first | assumption | (simp only [List.length_set]; assumption)) | refine zs_ne (by first | with_reducible assumption | exact Ne.symm (by with_reducible assumption) | omega) ?_)) (Nat.le_of_ble_eq_true rfl) ?_
  refine V_aload_n C dX0_clear_28 rfl ?_
  refine V_iconst C dX0_clear_29 ?_
  refine vp_X0_34 C dX0_clear_30 (by repeat (first | with_reducible assumption | with_reducible exact zs_eq (by first | assumption | (simp only [List.length_set]; assumption)) | refine zs_ne (by first | with_reducible assumption | exact Ne.symm (by with_reducible assumption) | omega) ?_)) (Nat.le_of_ble_eq_true rfl) ?_
  refine V_aload_n C dX0_clear_33 rfl ?_
  refine V_iconst C dX0_clear_34 ?_
  refine vp_X0_37 C dX0_clear_35 (by repeat (first | with_reducible assumption | with_reducible exact zs_eq (by first | assumption | (simp only [List.length_set]; assumption)) | refine zs_ne (by first | with_reducible assumption | exact Ne.symm (by with_reducible assumption) | omega) ?_)) (Nat.le_of_ble_eq_true rfl) ?_
  refine V_aload_n C dX0_clear_38 rfl ?_
  refine V_iconst C dX0_clear_39 ?_
  refine vp_X0_40 C dX0_clear_40 (by repeat (first | with_reducible assumption | with_reducible exact zs_eq (by first | assumption | (simp only [List.length_set]; assumption)) | refine zs_ne (by first | with_reducible assumption | exact Ne.symm (by with_reducible assumption) | omega) ?_)) (Nat.le_of_ble_eq_true rfl) (by decide) ?_
  refine V_aload_n C dX0_clear_43 rfl ?_
  refine V_iconst C dX0_clear_44 ?_
  refine vp_X0_44 C dX0_clear_45 (by repeat (first | with_reducible assumption | with_reducible exact zs_eq (by first | assumption | (simp only [List.length_set]; assumption)) | refine zs_ne (by first | with_reducible assumption | exact Ne.symm (by with_reducible assumption) | omega) ?_)) (Nat.le_of_ble_eq_true rfl) ?_
  exact V_vret C R dX0_clear_48 ⟨rfl, by unfold toC toK; simp only [List.set_set]; rw [zs_self hjj]; rfl⟩

set_option maxRecDepth 100000 in
theorem m_X0_take (G : zG) {cs : List va_E} {i j jj : Nat} {k f : Int → Int} {s : Int} (X : isC G cs i j jj k f s) {x : Int} (hx : 0 ≤ x ∧ x ≤ 1000) : zMet G yX0_take cX0_take 2 (some .int) 3 63 [.ref (G.ad i), .int (iI x)] cs (zO (.int (iI (tkA k x).1)) (toC G cs i j jj (tkA k x).2 (addF f s x) (min (s + 1) 31))) := by
  refine zMet.of (by decide) (Nat.le_of_ble_eq_true rfl) ?_
  intro E C R
  have C : zC G E RX0 cX0_take 2 3 63 := C
  show V G E 0 [some (.ref (G.ad i)), some (.int (iI x))] [] cs
  obtain ⟨hi, T, hk, hij, h30, h31, h40, h41⟩ := id X
  obtain ⟨hj, hjj, hf, hs0, hs1⟩ := id T
  have hijj := zs_ao hi hjj
  have hjj2 := zs_ao hj hjj
  have hli := zs_lt hi
  have hlj := zs_lt hj
  have hljj := zs_lt hjj
  have hk1 := hk 1
  have hi2 : (toK G cs j jj (addF f s x) (min (s + 1) 31))[i]? = some (oC G j k) := by unfold toK; exact zs_ne (fun e => hij e.symm) (zs_ne (fun e => hijj e.symm) hi)
  have hli2 := zs_lt hi2
  refine V_aload_n C dX0_take_0 rfl ?_
  refine vg_X0_12 C dX0_take_1 (by repeat (first | with_reducible assumption | with_reducible exact zs_eq (by first | assumption | (simp only [List.length_set]; assumption)) | refine zs_ne (by first | with_reducible assumption | exact Ne.symm (by with_reducible assumption) | omega) ?_)) rfl ?_
  refine V_iload_n C dX0_take_4 rfl ?_
  refine V_callN C lk_X0_60 (m_X2_add G T) dX0_take_5 rfl rfl (by repeat (first | with_reducible assumption | with_reducible exact zs_eq (by first | assumption | (simp only [List.length_set]; assumption)) | refine zs_ne (by first | with_reducible assumption | exact Ne.symm (by with_reducible assumption) | omega) ?_)) rfl (by decide) (Nat.le_of_ble_eq_true rfl) (kO0 ?_)
  refine V_aload_n C dX0_take_8 rfl ?_
  refine vg_X0_22 C dX0_take_9 (by repeat (first | with_reducible assumption | with_reducible exact zs_eq (by first | assumption | (simp only [List.length_set]; assumption)) | refine zs_ne (by first | with_reducible assumption | exact Ne.symm (by with_reducible assumption) | omega) ?_)) rfl ?_
  by_cases w_12_0 : k 1 = 0
  · skip
    refine V_tableIn (tgt := 44) (off := 32) C dX0_take_12 (by omega) (by omega) (by omega) (by rw [w_12_0]; rfl) (by decide) ?_
    refine V_aload_n C dX0_take_44 rfl ?_
    refine V_iload_n C dX0_take_45 rfl ?_
    refine V_callV C lk_X0_64 (m_X0_takeVerb G hi2 hk (by omega) (by omega)) dX0_take_46 rfl rfl (by repeat (first | with_reducible assumption | with_reducible exact zs_eq (by first | assumption | (simp only [List.length_set]; assumption)) | refine zs_ne (by first | with_reducible assumption | exact Ne.symm (by with_reducible assumption) | omega) ?_)) rfl (by decide) (Nat.le_of_ble_eq_true rfl) (kO ?_)
    exact V_iret C R dX0_take_49 ⟨by rw [tkA_1 (by omega)], by rw [tkA_1 (by omega)]; rfl⟩
  by_cases w_12_1 : k 1 = 1
  · skip
    refine V_tableIn (tgt := 50) (off := 38) C dX0_take_12 (by omega) (by omega) (by omega) (by rw [w_12_1]; rfl) (by decide) ?_
    refine V_aload_n C dX0_take_50 rfl ?_
    refine V_iload_n C dX0_take_51 rfl ?_
    refine V_callV C lk_X0_68 (m_X0_takeReach G hi2 hk (by omega) (by omega)) dX0_take_52 rfl rfl (by repeat (first | with_reducible assumption | with_reducible exact zs_eq (by first | assumption | (simp only [List.length_set]; assumption)) | refine zs_ne (by first | with_reducible assumption | exact Ne.symm (by with_reducible assumption) | omega) ?_)) rfl (by decide) (Nat.le_of_ble_eq_true rfl) (kO ?_)
    exact V_iret C R dX0_take_55 ⟨by rw [tkA_2 (by omega) (by omega)], by rw [tkA_2 (by omega) (by omega)]; rfl⟩
  by_cases w_12_2 : k 1 = 2
  · skip
    refine V_tableIn (tgt := 56) (off := 44) C dX0_take_12 (by omega) (by omega) (by omega) (by rw [w_12_2]; rfl) (by decide) ?_
    refine V_aload_n C dX0_take_56 rfl ?_
    refine V_iload_n C dX0_take_57 rfl ?_
    refine V_callV C lk_X0_71 (m_X0_takeObject G hi2 hk (by omega)) dX0_take_58 rfl rfl (by repeat (first | with_reducible assumption | with_reducible exact zs_eq (by first | assumption | (simp only [List.length_set]; assumption)) | refine zs_ne (by first | with_reducible assumption | exact Ne.symm (by with_reducible assumption) | omega) ?_)) rfl (by decide) (Nat.le_of_ble_eq_true rfl) (kO ?_)
    exact V_iret C R dX0_take_61 ⟨by rw [tkA_3 (by omega) (by omega) (by omega)], by rw [tkA_3 (by omega) (by omega) (by omega)]; rfl⟩
  by_cases w_12_3 : k 1 = 3
  · skip
    refine V_tableIn (tgt := 62) (off := 50) C dX0_take_12 (by omega) (by omega) (by omega) (by rw [w_12_3]; rfl) (by decide) ?_
    refine V_aload_n C dX0_take_62 rfl ?_
    refine V_iload_n C dX0_take_63 rfl ?_
    refine vp_X0_44 C dX0_take_64 (by repeat (first | with_reducible assumption | with_reducible exact zs_eq (by first | assumption | (simp only [List.length_set]; assumption)) | refine zs_ne (by first | with_reducible assumption | exact Ne.symm (by with_reducible assumption) | omega) ?_)) (Nat.le_of_ble_eq_true rfl) ?_
    refine V_iconst C dX0_take_67 ?_
    exact V_iret C R dX0_take_68 ⟨by rw [tkA_4 (by omega) (by omega) (by omega) (by omega)], by rw [tkA_4 (by omega) (by omega) (by omega) (by omega)]; rfl⟩
  refine V_tableOut (tgt := 69) C dX0_take_12 (by omega) (by omega) (by decide) ?_
  refine V_aload_n C dX0_take_69 rfl ?_
  refine V_iload_n C dX0_take_70 rfl ?_
  refine V_bipush C dX0_take_71 (by decide) ?_
  refine V_isub C dX0_take_73 ?_
  refine vp_X0_44 C dX0_take_74 (by repeat (first | with_reducible assumption | with_reducible exact zs_eq (by first | assumption | (simp only [List.length_set]; assumption)) | refine zs_ne (by first | with_reducible assumption | exact Ne.symm (by with_reducible assumption) | omega) ?_)) (Nat.le_of_ble_eq_true rfl) ?_
  refine V_aload_n C dX0_take_77 rfl ?_
  refine vg_X0_44 C dX0_take_78 (by repeat (first | with_reducible assumption | with_reducible exact zs_eq (by first | assumption | (simp only [List.length_set]; assumption)) | refine zs_ne (by first | with_reducible assumption | exact Ne.symm (by with_reducible assumption) | omega) ?_)) rfl ?_
  refine V_if_lt (tgt := 96) C dX0_take_81 (by decide) (by omega) (fun c_81 => ?_) (fun c_81 => ?_)
  · skip
    refine V_iconst C dX0_take_96 ?_
    exact V_iret C R dX0_take_97 ⟨by rw [tkA_5 (by omega) (by omega) (by omega) (by omega)]; first | rw [if_pos (by omega)] | rw [if_neg (by omega)], by rw [tkA_5 (by omega) (by omega) (by omega) (by omega)]; rfl⟩
  · skip
    refine V_aload_n C dX0_take_84 rfl ?_
    refine vg_X0_44 C dX0_take_85 (by repeat (first | with_reducible assumption | with_reducible exact zs_eq (by first | assumption | (simp only [List.length_set]; assumption)) | refine zs_ne (by first | with_reducible assumption | exact Ne.symm (by with_reducible assumption) | omega) ?_)) rfl ?_
    refine V_iconst C dX0_take_88 ?_
    refine V_icmp_ge (tgt := 96) C dX0_take_89 (by decide) (by omega) (by omega) (fun c_89 => ?_) (fun c_89 => ?_)
    · skip
      refine V_iconst C dX0_take_96 ?_
      exact V_iret C R dX0_take_97 ⟨by rw [tkA_5 (by omega) (by omega) (by omega) (by omega)]; first | rw [if_pos (by omega)] | rw [if_neg (by omega)], by rw [tkA_5 (by omega) (by omega) (by omega) (by omega)]; rfl⟩
    · skip
      refine V_iconst C dX0_take_92 ?_
      refine V_goto (tgt := 97) C dX0_take_93 (by decide) ?_
      exact V_iret C R dX0_take_97 ⟨by rw [tkA_5 (by omega) (by omega) (by omega) (by omega)]; first | rw [if_pos (by omega)] | rw [if_neg (by omega)], by rw [tkA_5 (by omega) (by omega) (by omega) (by omega)]; rfl⟩
