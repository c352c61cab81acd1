/-! ===== ModalKeys: its cells ===== -/
abbrev zSh (G : zG) : va_E := .inl (G.cy 2, 4, .inr (.inr (.inr (.inr (fun i => if i < 4 then some (G.ad (37 + 2 * i)) else none)))))
def mkL (G : zG) (tp : Int → Int) (td hi : Int) (g : Int → Int → Int) (ln sn : Int → Int) : List va_E :=
  [.inr (7, [.ref (G.ad 35), .int (iI td), .ref (G.ad 0), .ref (G.ad 17), .int (iI hi), .ref (G.ad 45), .ref (G.ad 36)]), zI G 60 tp, zSh G, oS G 38 (ln 0) (sn 0), zJ G 24 (g 0), oS G 40 (ln 1) (sn 1), zJ G 24 (g 1), oS G 42 (ln 2) (sn 2), zJ G 24 (g 2), oS G 44 (ln 3) (sn 3), zJ G 24 (g 3)]
def gup (g : Int → Int → Int) (n : Int) (h : Int → Int) : Int → Int → Int := fun i => if i = n then h else g i
def okS (g : Int → Int → Int) (ln sn : Int → Int) : Prop := ∀ n, (∀ k, rngL (g n k)) ∧ -1 ≤ ln n ∧ ln n ≤ 3 ∧ 0 ≤ sn n ∧ sn n ≤ 24
section ZV
variable {G : zG} {E : zE} {own : String} {cc : ByteArray} {nL fr lo pc : Nat} {lv : List (Option Value)} {st : List Value} {cs : List va_E}
theorem V_aaldS (C : zC G E own cc nL fr lo) (hd : decode cc pc = .ok (.aaload, 1)) {m : Int} (he : cs[36]? = some (zSh G)) (h0 : 0 ≤ m) (h1 : m < 4) (kk : V G E (pc + 1) lv (.ref (G.ad (37 + 2 * m.toNat)) :: st) cs) : V G E pc lv (.int (iI m) :: .ref (G.ad 36) :: st) cs := by
  intro H locs ls hl hP hD hS
  have hin : vp_in (iI m) 4 := iI_in h0 h1 (by decide)
  have hlt : (iI m).toNatClampNeg < 4 := Nat.not_le.mp fun q => hin (Or.inr q)
  have e1 : (iI m).toNatClampNeg = m.toNat := iI_clamp (by omega)
  refine va_aldq (D := G.D) (cl := vwCl) (tys := zty G.cy) C.1 C.2.1 C.k hP 36 2 (zw_at he) rfl hin hd ?_
  show W _ _ _ _ _ _ _ _ _ _ _ _ _ _ _ (F0 E.m (pc + 1) ls (va_rf (if (iI m).toNatClampNeg < 4 then some (G.ad (37 + 2 * (iI m).toNatClampNeg)) else none) :: st))
  rw [if_pos hlt, e1]
  exact kk H locs ls hl hP hD hS
end ZV

theorem mk_S (G : zG) {f bf pf pl pc k kf lf sf mf rf f2 bf2 pf2 pl2 pc2 k2 kf2 lf2 sf2 mf2 rf2 : Int → Int} {L c bL bc nx sz ks ls sl ty pla fro to L2 c2 bL2 bc2 nx2 sz2 ks2 ls2 sl2 ty2 pla2 fro2 to2 : Int} {rest : List va_E} {tp : Int → Int} {td hi : Int} {g : Int → Int → Int} {ln sn : Int → Int} (h : okS g ln sn) : ∀ n, 0 ≤ n → n < 4 → isS G (dkL G f L c bf bL bc pf pl pc nx sz k kf ks lf ls sf sl mf rf ty pla fro to ++ (kpL G f2 L2 c2 bf2 bL2 bc2 pf2 pl2 pc2 nx2 sz2 k2 kf2 ks2 lf2 ls2 sf2 sl2 mf2 rf2 ty2 pla2 fro2 to2 ++ (mkL G tp td hi g ln sn ++ rest))) (37 + 2 * n.toNat) (38 + 2 * n.toNat) (g n) (ln n) (sn n) := by
  intro n h0 h1
  have hn := h n
  have : n = 0 ∨ n = 1 ∨ n = 2 ∨ n = 3 := by omega
  rcases this with rfl | rfl | rfl | rfl <;> exact ⟨rfl, rfl, hn⟩

theorem mk_to (G : zG) {f bf pf pl pc k kf lf sf mf rf f2 bf2 pf2 pl2 pc2 k2 kf2 lf2 sf2 mf2 rf2 : Int → Int} {L c bL bc nx sz ks ls sl ty pla fro to L2 c2 bL2 bc2 nx2 sz2 ks2 ls2 sl2 ty2 pla2 fro2 to2 : Int} {rest : List va_E} {tp : Int → Int} {td hi : Int} {g : Int → Int → Int} {ln sn : Int → Int} {h : Int → Int} {a b n : Int} (h0 : 0 ≤ n) (h1 : n < 4) : toS G (dkL G f L c bf bL bc pf pl pc nx sz k kf ks lf ls sf sl mf rf ty pla fro to ++ (kpL G f2 L2 c2 bf2 bL2 bc2 pf2 pl2 pc2 nx2 sz2 k2 kf2 ks2 lf2 ls2 sf2 sl2 mf2 rf2 ty2 pla2 fro2 to2 ++ (mkL G tp td hi g ln sn ++ rest))) (37 + 2 * n.toNat) (38 + 2 * n.toNat) h a b = (dkL G f L c bf bL bc pf pl pc nx sz k kf ks lf ls sf sl mf rf ty pla fro to ++ (kpL G f2 L2 c2 bf2 bL2 bc2 pf2 pl2 pc2 nx2 sz2 k2 kf2 ks2 lf2 ls2 sf2 sl2 mf2 rf2 ty2 pla2 fro2 to2 ++ (mkL G tp td hi (gup g n h) (zup ln n a) (zup sn n b) ++ rest))) := by
  have : n = 0 ∨ n = 1 ∨ n = 2 ∨ n = 3 := by omega
  rcases this with rfl | rfl | rfl | rfl <;> rfl

theorem mk_it (G : zG) {f bf pf pl pc k kf lf sf mf rf f2 bf2 pf2 pl2 pc2 k2 kf2 lf2 sf2 mf2 rf2 : Int → Int} {L c bL bc nx sz ks ls sl ty pla fro to L2 c2 bL2 bc2 nx2 sz2 ks2 ls2 sl2 ty2 pla2 fro2 to2 : Int} {rest : List va_E} {tp : Int → Int} {td hi : Int} {g : Int → Int → Int} {ln sn : Int → Int} {h : Int → Int} {n : Int} (h0 : 0 ≤ n) (h1 : n < 4) : (dkL G f L c bf bL bc pf pl pc nx sz k kf ks lf ls sf sl mf rf ty pla fro to ++ (kpL G f2 L2 c2 bf2 bL2 bc2 pf2 pl2 pc2 nx2 sz2 k2 kf2 ks2 lf2 ls2 sf2 sl2 mf2 rf2 ty2 pla2 fro2 to2 ++ (mkL G tp td hi g ln sn ++ rest))).set (38 + 2 * n.toNat) (zJ G 24 h) = (dkL G f L c bf bL bc pf pl pc nx sz k kf ks lf ls sf sl mf rf ty pla fro to ++ (kpL G f2 L2 c2 bf2 bL2 bc2 pf2 pl2 pc2 nx2 sz2 k2 kf2 ks2 lf2 ls2 sf2 sl2 mf2 rf2 ty2 pla2 fro2 to2 ++ (mkL G tp td hi (gup g n h) ln sn ++ rest))) := by
  have : n = 0 ∨ n = 1 ∨ n = 2 ∨ n = 3 := by omega
  rcases this with rfl | rfl | rfl | rfl <;> rfl

set_option maxRecDepth 100000 in
theorem m_X7_isLetter (G : zG) {cs : List va_E} {x : Int} (hx : rng x) : zMet G yX7_isLetter cX7_isLetter 1 (some .boolean) 0 0 [.int (iI x)] cs (zO (.int (iI (b2z (32 ≤ x ∧ x ≤ 126)))) cs) := by
  refine zMet.of (by decide) (Nat.le_of_ble_eq_true rfl) ?_
  intro E C R
  have C : zC G E RX7 cX7_isLetter 1 0 0 := C
  show V G E 0 [some (.int (iI x))] [] cs
  refine V_iload_n C dX7_isLetter_0 rfl ?_
  refine V_bipush C dX7_isLetter_1 (by decide) ?_
  refine V_icmp_lt (tgt := 16) C dX7_isLetter_3 (by decide) (by omega) (by omega) (fun c_3 => ?_) (fun c_3 => ?_)
  · skip
    refine V_iconst C dX7_isLetter_16 ?_
    exact V_zret C R dX7_isLetter_17 (by first | decide | omega) (zO_i (by first | exact b2z_1 (by omega) | exact b2z_0 (by omega)))
  · skip
    refine V_iload_n C dX7_isLetter_6 rfl ?_
    refine V_bipush C dX7_isLetter_7 (by decide) ?_
    refine V_icmp_gt (tgt := 16) C dX7_isLetter_9 (by decide) (by omega) (by omega) (fun c_9 => ?_) (fun c_9 => ?_)
    · skip
      refine V_iconst C dX7_isLetter_16 ?_
      exact V_zret C R dX7_isLetter_17 (by first | decide | omega) (zO_i (by first | exact b2z_1 (by omega) | exact b2z_0 (by omega)))
    · skip
      refine V_iconst C dX7_isLetter_12 ?_
      refine V_goto (tgt := 17) C dX7_isLetter_13 (by decide) ?_
      exact V_zret C R dX7_isLetter_17 (by first | decide | omega) (zO_i (by first | exact b2z_1 (by omega) | exact b2z_0 (by omega)))

set_option maxRecDepth 100000 in
theorem m_X7_isMotion (G : zG) {cs : List va_E} {x : Int} (hx : rng x) : zMet G yX7_isMotion cX7_isMotion 1 (some .boolean) 0 0 [.int (iI x)] cs (zO (.int (iI (b2z (0 ≤ x ∧ x < 7)))) cs) := by
  refine zMet.of (by decide) (Nat.le_of_ble_eq_true rfl) ?_
  intro E C R
  have C : zC G E RX7 cX7_isMotion 1 0 0 := C
  show V G E 0 [some (.int (iI x))] [] cs
  refine V_iload_n C dX7_isMotion_0 rfl ?_
  refine V_if_lt (tgt := 14) C dX7_isMotion_1 (by decide) (by omega) (fun c_1 => ?_) (fun c_1 => ?_)
  · skip
    refine V_iconst C dX7_isMotion_14 ?_
    exact V_zret C R dX7_isMotion_15 (by first | decide | omega) (zO_i (by first | exact b2z_1 (by omega) | exact b2z_0 (by omega)))
  · skip
    refine V_iload_n C dX7_isMotion_4 rfl ?_
    refine V_bipush C dX7_isMotion_5 (by decide) ?_
    refine V_icmp_ge (tgt := 14) C dX7_isMotion_7 (by decide) (by omega) (by omega) (fun c_7 => ?_) (fun c_7 => ?_)
    · skip
      refine V_iconst C dX7_isMotion_14 ?_
      exact V_zret C R dX7_isMotion_15 (by first | decide | omega) (zO_i (by first | exact b2z_1 (by omega) | exact b2z_0 (by omega)))
    · skip
      refine V_iconst C dX7_isMotion_10 ?_
      refine V_goto (tgt := 15) C dX7_isMotion_11 (by decide) ?_
      exact V_zret C R dX7_isMotion_15 (by first | decide | omega) (zO_i (by first | exact b2z_1 (by omega) | exact b2z_0 (by omega)))

set_option maxRecDepth 100000 in
theorem m_X7_isLane (G : zG) {cs : List va_E} {x : Int} (hx : rng x) : zMet G yX7_isLane cX7_isLane 1 (some .boolean) 0 0 [.int (iI x)] cs (zO (.int (iI (b2z (0 ≤ x ∧ x < 4)))) cs) := by
  refine zMet.of (by decide) (Nat.le_of_ble_eq_true rfl) ?_
  intro E C R
  have C : zC G E RX7 cX7_isLane 1 0 0 := C
  show V G E 0 [some (.int (iI x))] [] cs
  refine V_iload_n C dX7_isLane_0 rfl ?_
  refine V_if_lt (tgt := 13) C dX7_isLane_1 (by decide) (by omega) (fun c_1 => ?_) (fun c_1 => ?_)
  · skip
    refine V_iconst C dX7_isLane_13 ?_
    exact V_zret C R dX7_isLane_14 (by first | decide | omega) (zO_i (by first | exact b2z_1 (by omega) | exact b2z_0 (by omega)))
  · skip
    refine V_iload_n C dX7_isLane_4 rfl ?_
    refine V_iconst C dX7_isLane_5 ?_
    refine V_icmp_ge (tgt := 13) C dX7_isLane_6 (by decide) (by omega) (by omega) (fun c_6 => ?_) (fun c_6 => ?_)
    · skip
      refine V_iconst C dX7_isLane_13 ?_
      exact V_zret C R dX7_isLane_14 (by first | decide | omega) (zO_i (by first | exact b2z_1 (by omega) | exact b2z_0 (by omega)))
    · skip
      refine V_iconst C dX7_isLane_9 ?_
      refine V_goto (tgt := 14) C dX7_isLane_10 (by decide) ?_
      exact V_zret C R dX7_isLane_14 (by first | decide | omega) (zO_i (by first | exact b2z_1 (by omega) | exact b2z_0 (by omega)))

set_option maxRecDepth 100000 in
theorem m_X7_isPortion (G : zG) {cs : List va_E} {x : Int} (hx : rng x) : zMet G yX7_isPortion cX7_isPortion 1 (some .boolean) 0 0 [.int (iI x)] cs (zO (.int (iI (b2z (1 ≤ x ∧ x ≤ 24)))) cs) := by
  refine zMet.of (by decide) (Nat.le_of_ble_eq_true rfl) ?_
  intro E C R
  have C : zC G E RX7 cX7_isPortion 1 0 0 := C
  show V G E 0 [some (.int (iI x))] [] cs
  refine V_iload_n C dX7_isPortion_0 rfl ?_
  refine V_iconst C dX7_isPortion_1 ?_
  refine V_icmp_lt (tgt := 15) C dX7_isPortion_2 (by decide) (by omega) (by omega) (fun c_2 => ?_) (fun c_2 => ?_)
  · skip
    refine V_iconst C dX7_isPortion_15 ?_
    exact V_zret C R dX7_isPortion_16 (by first | decide | omega) (zO_i (by first | exact b2z_1 (by omega) | exact b2z_0 (by omega)))
  · skip
    refine V_iload_n C dX7_isPortion_5 rfl ?_
    refine V_bipush C dX7_isPortion_6 (by decide) ?_
    refine V_icmp_gt (tgt := 15) C dX7_isPortion_8 (by decide) (by omega) (by omega) (fun c_8 => ?_) (fun c_8 => ?_)
    · skip
      refine V_iconst C dX7_isPortion_15 ?_
      exact V_zret C R dX7_isPortion_16 (by first | decide | omega) (zO_i (by first | exact b2z_1 (by omega) | exact b2z_0 (by omega)))
    · skip
      refine V_iconst C dX7_isPortion_11 ?_
      refine V_goto (tgt := 16) C dX7_isPortion_12 (by decide) ?_
      exact V_zret C R dX7_isPortion_16 (by first | decide | omega) (zO_i (by first | exact b2z_1 (by omega) | exact b2z_0 (by omega)))

set_option maxRecDepth 100000 in
theorem m_X7_sheetAt (G : zG) {cs : List va_E} {td hi : Int} (hM : cs[34]? = some (.inr (7, [.ref (G.ad 35), .int (iI td), .ref (G.ad 0), .ref (G.ad 17), .int (iI hi), .ref (G.ad 45), .ref (G.ad 36)]))) (hh : cs[36]? = some (zSh G)) {n : Int} (hn : rng n) : zMet G yX7_sheetAt cX7_sheetAt 2 (some (.object "ModalKeys$Sheet")) 0 0 [.ref (G.ad 34), .int (iI n)] cs (fun r cs2 => ((0 ≤ n ∧ n < 4) ∧ zO (.ref (G.ad (37 + 2 * n.toNat))) cs r cs2) ∨ (¬ (0 ≤ n ∧ n < 4) ∧ zO .null cs r cs2)) := by
  refine zMet.of (by decide) (Nat.le_of_ble_eq_true rfl) ?_
  intro E C R
  have C : zC G E RX7 cX7_sheetAt 2 0 0 := C
  show V G E 0 [some (.ref (G.ad 34)), some (.int (iI n))] [] cs
  refine V_iload_n C dX7_sheetAt_0 rfl ?_
  refine V_if_lt (tgt := 18) C dX7_sheetAt_1 (by decide) (by omega) (fun c_1 => ?_) (fun c_1 => ?_)
  · skip
    refine V_null C dX7_sheetAt_18 ?_
    exact V_aret C R dX7_sheetAt_19 (Or.inl rfl) (Or.inr ⟨by omega, rfl, rfl⟩)
  · skip
    refine V_iload_n C dX7_sheetAt_4 rfl ?_
    refine V_iconst C dX7_sheetAt_5 ?_
    refine V_icmp_ge (tgt := 18) C dX7_sheetAt_6 (by decide) (by omega) (by omega) (fun c_6 => ?_) (fun c_6 => ?_)
    · skip
      refine V_null C dX7_sheetAt_18 ?_
      exact V_aret C R dX7_sheetAt_19 (Or.inl rfl) (Or.inr ⟨by omega, rfl, rfl⟩)
    · skip
      refine V_aload_n C dX7_sheetAt_9 rfl ?_
      refine vg_X7_32 C dX7_sheetAt_10 (by assumption) rfl ?_
      refine V_iload_n C dX7_sheetAt_13 rfl ?_
      refine V_aaldS C dX7_sheetAt_14 hh (by omega) (by omega) ?_
      refine V_goto (tgt := 19) C dX7_sheetAt_15 (by decide) ?_
      exact V_aret C R dX7_sheetAt_19 (Or.inr ⟨_, rfl⟩) (Or.inl ⟨by omega, rfl, rfl⟩)

set_option maxRecDepth 100000 in
theorem m_X7_type (G : zG) {f bf pf pl pc k kf lf sf mf rf f2 bf2 pf2 pl2 pc2 k2 kf2 lf2 sf2 mf2 rf2 : Int → Int} {L c bL bc nx sz ks ls sl ty pla fro to L2 c2 bL2 bc2 nx2 sz2 ks2 ls2 sl2 ty2 pla2 fro2 to2 : Int} {rest : List va_E} {tp : Int → Int} {td hi : Int} {g : Int → Int → Int} {ln sn : Int → Int} {x : Int} (hx : rng x) (ht : 0 ≤ td ∧ td ≤ 60) : zMet G yX7_type cX7_type 2 (some .int) 1 20 [.ref (G.ad 34), .int (iI x)] (dkL G f L c bf bL bc pf pl pc nx sz k kf ks lf ls sf sl mf rf ty pla fro to ++ (kpL G f2 L2 c2 bf2 bL2 bc2 pf2 pl2 pc2 nx2 sz2 k2 kf2 ks2 lf2 ls2 sf2 sl2 mf2 rf2 ty2 pla2 fro2 to2 ++ (mkL G tp td hi g ln sn ++ rest))) (zO (.int (iI (if ¬ (32 ≤ x ∧ x ≤ 126) then -1 else if 60 ≤ td then -3 else td + 1))) (dkL G f L c bf bL bc pf pl pc nx sz k kf ks lf ls sf sl mf rf ty pla fro to ++ (kpL G f2 L2 c2 bf2 bL2 bc2 pf2 pl2 pc2 nx2 sz2 k2 kf2 ks2 lf2 ls2 sf2 sl2 mf2 rf2 ty2 pla2 fro2 to2 ++ (mkL G (if ¬ (32 ≤ x ∧ x ≤ 126) ∨ 60 ≤ td then tp else zup tp td x) (if ¬ (32 ≤ x ∧ x ≤ 126) ∨ 60 ≤ td then td else td + 1) hi g ln sn ++ rest)))) := by
  refine zMet.of (by decide) (Nat.le_of_ble_eq_true rfl) ?_
  intro E C R
  have C : zC G E RX7 cX7_type 2 1 20 := C
  show V G E 0 [some (.ref (G.ad 34)), some (.int (iI x))] [] (dkL G f L c bf bL bc pf pl pc nx sz k kf ks lf ls sf sl mf rf ty pla fro to ++ (kpL G f2 L2 c2 bf2 bL2 bc2 pf2 pl2 pc2 nx2 sz2 k2 kf2 ks2 lf2 ls2 sf2 sl2 mf2 rf2 ty2 pla2 fro2 to2 ++ (mkL G tp td hi g ln sn ++ rest)))
  refine V_iload_n C dX7_type_0 rfl ?_
  refine V_callS C lk_X7_37 (m_X7_isLetter G (by omega)) dX7_type_1 rfl rfl (by decide) (Nat.le_of_ble_eq_true rfl) (kO ?_)
  refine V_if_neB (tgt := 9) C dX7_type_4 (by decide) (fun c_4 => ?_) (fun c_4 => ?_)
  · skip
    refine V_aload_n C dX7_type_9 rfl ?_
    refine vg_X7_41 C dX7_type_10 rfl rfl ?_
    refine V_bipush C dX7_type_13 (by decide) ?_
    refine V_icmp_lt (tgt := 21) C dX7_type_15 (by decide) (by omega) (by omega) (fun c_15 => ?_) (fun c_15 => ?_)
    · skip
      refine V_aload_n C dX7_type_21 rfl ?_
      refine vg_X7_9 C dX7_type_22 rfl rfl ?_
      refine V_aload_n C dX7_type_25 rfl ?_
      refine vg_X7_41 C dX7_type_26 rfl rfl ?_
      refine V_iload_n C dX7_type_29 rfl ?_
      refine V_iast C dX7_type_30 rfl (by omega) (by omega) (by decide) ?_
      refine V_aload_n C dX7_type_31 rfl ?_
      refine V_dup C dX7_type_32 rfl ?_
      refine vg_X7_41 C dX7_type_33 rfl rfl ?_
      refine V_iconst C dX7_type_36 ?_
      refine V_iadd C dX7_type_37 ?_
      refine vp_X7_41 C dX7_type_38 rfl (Nat.le_of_ble_eq_true rfl) ?_
      refine V_aload_n C dX7_type_41 rfl ?_
      refine vg_X7_41 C dX7_type_42 rfl rfl ?_
      exact V_iret C R dX7_type_45 (zO_ic (by rw [if_neg (by omega), if_neg (by omega)]) (by rw [if_neg (by omega), if_neg (by omega)] <;> rfl))
    · skip
      refine V_bipush C dX7_type_18 (by decide) ?_
      exact V_iret C R dX7_type_20 (zO_ic (by rw [if_neg (by omega), if_pos (by omega)]) (by rw [if_pos (by omega), if_pos (by omega)]))
  · skip
    refine V_iconst C dX7_type_7 ?_
    exact V_iret C R dX7_type_8 (zO_ic (by rw [if_pos (by omega)]) (by rw [if_pos (by omega), if_pos (by omega)]))

set_option maxRecDepth 100000 in
theorem m_X7_line (G : zG) {f bf pf pl pc k kf lf sf mf rf f2 bf2 pf2 pl2 pc2 k2 kf2 lf2 sf2 mf2 rf2 : Int → Int} {L c bL bc nx sz ks ls sl ty pla fro to L2 c2 bL2 bc2 nx2 sz2 ks2 ls2 sl2 ty2 pla2 fro2 to2 : Int} {rest : List va_E} {tp : Int → Int} {td hi : Int} {g : Int → Int → Int} {ln sn : Int → Int} (O : okD f L c bf bL bc pf pl pc nx sz k kf ks lf ls sf sl mf rf ty pla fro to) (ht : 0 ≤ td ∧ td ≤ 60) : zMet G yX7_line cX7_line 1 (some .int) 2 48 [.ref (G.ad 34)] (dkL G f L c bf bL bc pf pl pc nx sz k kf ks lf ls sf sl mf rf ty pla fro to ++ (kpL G f2 L2 c2 bf2 bL2 bc2 pf2 pl2 pc2 nx2 sz2 k2 kf2 ks2 lf2 ls2 sf2 sl2 mf2 rf2 ty2 pla2 fro2 to2 ++ (mkL G tp td hi g ln sn ++ rest))) (zO (.int (iI td)) (dkL G (zcp tp f 0 0 td) (td) (0) bf bL bc pf pl pc nx (0) ((fun _ => 0)) kf (0) lf (0) sf (0) (ovr mf 0 4 (-1)) rf (0) pla fro to ++ (kpL G f2 L2 c2 bf2 bL2 bc2 pf2 pl2 pc2 nx2 sz2 k2 kf2 ks2 lf2 ls2 sf2 sl2 mf2 rf2 ty2 pla2 fro2 to2 ++ (mkL G tp (0) hi g ln sn ++ rest)))) := by
  refine zMet.of (by decide) (Nat.le_of_ble_eq_true rfl) ?_
  intro E C R
  have C : zC G E RX7 cX7_line 1 2 48 := C
  show V G E 0 [some (.ref (G.ad 34))] [] (dkL G f L c bf bL bc pf pl pc nx sz k kf ks lf ls sf sl mf rf ty pla fro to ++ (kpL G f2 L2 c2 bf2 bL2 bc2 pf2 pl2 pc2 nx2 sz2 k2 kf2 ks2 lf2 ls2 sf2 sl2 mf2 rf2 ty2 pla2 fro2 to2 ++ (mkL G tp td hi g ln sn ++ rest)))
  refine V_aload_n C dX7_line_0 rfl ?_
  refine vg_X7_16 C dX7_line_1 rfl rfl ?_
  refine V_aload_n C dX7_line_4 rfl ?_
  refine vg_X7_9 C dX7_line_5 rfl rfl ?_
  refine V_aload_n C dX7_line_8 rfl ?_
  refine vg_X7_41 C dX7_line_9 rfl rfl ?_
  refine V_callN C lk_X7_45 (m_X1_begin G (a := 18) (g := tp) O rfl ht) dX7_line_12 rfl rfl rfl rfl (by decide) (Nat.le_of_ble_eq_true rfl) (kO0 ?_)
  refine V_aload_n C dX7_line_15 rfl ?_
  refine V_iconst C dX7_line_16 ?_
  refine vp_X7_41 C dX7_line_17 rfl (Nat.le_of_ble_eq_true rfl) ?_
  refine V_aload_n C dX7_line_20 rfl ?_
  refine vg_X7_16 C dX7_line_21 rfl rfl ?_
  refine vg_X7_49 C dX7_line_24 rfl rfl ?_
  refine vg_X7_53 C dX7_line_27 rfl rfl ?_
  exact V_iret C R dX7_line_30 ⟨rfl, rfl⟩

set_option maxRecDepth 100000 in
theorem m_X7_letter (G : zG) {f bf pf pl pc k kf lf sf mf rf f2 bf2 pf2 pl2 pc2 k2 kf2 lf2 sf2 mf2 rf2 : Int → Int} {L c bL bc nx sz ks ls sl ty pla fro to L2 c2 bL2 bc2 nx2 sz2 ks2 ls2 sl2 ty2 pla2 fro2 to2 : Int} {rest : List va_E} {tp : Int → Int} {td hi : Int} {g : Int → Int → Int} {ln sn : Int → Int} {p : Int} (hp : rng p) (O : okD f L c bf bL bc pf pl pc nx sz k kf ks lf ls sf sl mf rf ty pla fro to) : zMet G yX7_letter cX7_letter 2 (some .int) 2 42 [.ref (G.ad 34), .int (iI p)] (dkL G f L c bf bL bc pf pl pc nx sz k kf ks lf ls sf sl mf rf ty pla fro to ++ (kpL G f2 L2 c2 bf2 bL2 bc2 pf2 pl2 pc2 nx2 sz2 k2 kf2 ks2 lf2 ls2 sf2 sl2 mf2 rf2 ty2 pla2 fro2 to2 ++ (mkL G tp td hi g ln sn ++ rest))) (zO (.int (iI (atv f L p))) (dkL G f L c bf bL bc pf pl pc nx sz k kf ks lf ls sf sl mf rf ty pla fro to ++ (kpL G f2 L2 c2 bf2 bL2 bc2 pf2 pl2 pc2 nx2 sz2 k2 kf2 ks2 lf2 ls2 sf2 sl2 mf2 rf2 ty2 pla2 fro2 to2 ++ (mkL G tp td hi g ln sn ++ rest)))) := by
  refine zMet.of (by decide) (Nat.le_of_ble_eq_true rfl) ?_
  intro E C R
  have C : zC G E RX7 cX7_letter 2 2 42 := C
  show V G E 0 [some (.ref (G.ad 34)), some (.int (iI p))] [] (dkL G f L c bf bL bc pf pl pc nx sz k kf ks lf ls sf sl mf rf ty pla fro to ++ (kpL G f2 L2 c2 bf2 bL2 bc2 pf2 pl2 pc2 nx2 sz2 k2 kf2 ks2 lf2 ls2 sf2 sl2 mf2 rf2 ty2 pla2 fro2 to2 ++ (mkL G tp td hi g ln sn ++ rest)))
  obtain ⟨hf, hL, hc, hbf, hbL, hbc, hpf, hplc, hnx, hsz, hk, hk3, hk4, hkf, hks, hlf, hls, hsf, hsl, hmf, hrf, hty, hpa, hfr, hto, hcm⟩ := id O
  have hla := la_in hL.1
  have hlb := la_in hbL.1
  have rpl : ∀ j, rng (pl j) := fun j => by have := hplc j; omega
  have rpc : ∀ j, rng (pc j) := fun j => by have := hplc j; have := la_in (hplc j).1.1; omega
  have rkf : ∀ j, rng (kf j) := fun j => by have := hkf j; omega
  have rlf : ∀ j, rng (lf j) := fun j => by have := hlf j; omega
  have rmf : ∀ j, rng (mf j) := fun j => by have := hmf j; omega
  have gmf : ∀ j, -1 ≤ mf j := fun j => (hmf j).1
  refine V_aload_n C dX7_letter_0 rfl ?_
  refine vg_X7_16 C dX7_letter_1 rfl rfl ?_
  refine vg_X7_49 C dX7_letter_4 rfl rfl ?_
  refine V_iload_n C dX7_letter_7 rfl ?_
  refine V_callN C lk_X7_58 (m_X5_has G (i := 1) (j := 2) ⟨rfl, rfl, hf, by omega, by omega⟩ hp) dX7_letter_8 rfl rfl rfl rfl (by decide) (Nat.le_of_ble_eq_true rfl) (kO ?_)
  refine V_if_eqB (tgt := 28) C dX7_letter_11 (by decide) (fun c_11 => ?_) (fun c_11 => ?_)
  · skip
    refine V_iconst C dX7_letter_28 ?_
    exact V_iret C R dX7_letter_29 (zO_i (by first | rfl | exact (atv_out (by omega)).symm))
  · skip
    refine V_aload_n C dX7_letter_14 rfl ?_
    refine vg_X7_16 C dX7_letter_15 rfl rfl ?_
    refine vg_X7_49 C dX7_letter_18 rfl rfl ?_
    refine V_iload_n C dX7_letter_21 rfl ?_
    refine V_callN C lk_X7_61 (m_X5_at G (i := 1) (j := 2) ⟨rfl, rfl, hf, by omega, by omega⟩ hp) dX7_letter_22 rfl rfl rfl rfl (by decide) (Nat.le_of_ble_eq_true rfl) (kO ?_)
    refine V_goto (tgt := 29) C dX7_letter_25 (by decide) ?_
    exact V_iret C R dX7_letter_29 (zO_i (by first | rfl | exact (atv_out (by omega)).symm))

set_option maxRecDepth 100000 in
theorem m_X7_store (G : zG) {f bf pf pl pc k kf lf sf mf rf f2 bf2 pf2 pl2 pc2 k2 kf2 lf2 sf2 mf2 rf2 : Int → Int} {L c bL bc nx sz ks ls sl ty pla fro to L2 c2 bL2 bc2 nx2 sz2 ks2 ls2 sl2 ty2 pla2 fro2 to2 : Int} {rest : List va_E} {tp : Int → Int} {td hi : Int} {g : Int → Int → Int} {ln sn : Int → Int} {p : Int} (hp : rng p) (O : okD f L c bf bL bc pf pl pc nx sz k kf ks lf ls sf sl mf rf ty pla fro to) : zMet G yX7_store cX7_store 2 (some .int) 0 0 [.ref (G.ad 34), .int (iI p)] (dkL G f L c bf bL bc pf pl pc nx sz k kf ks lf ls sf sl mf rf ty pla fro to ++ (kpL G f2 L2 c2 bf2 bL2 bc2 pf2 pl2 pc2 nx2 sz2 k2 kf2 ks2 lf2 ls2 sf2 sl2 mf2 rf2 ty2 pla2 fro2 to2 ++ (mkL G tp td hi g ln sn ++ rest))) (zO (.int (iI (atv sf sl p))) (dkL G f L c bf bL bc pf pl pc nx sz k kf ks lf ls sf sl mf rf ty pla fro to ++ (kpL G f2 L2 c2 bf2 bL2 bc2 pf2 pl2 pc2 nx2 sz2 k2 kf2 ks2 lf2 ls2 sf2 sl2 mf2 rf2 ty2 pla2 fro2 to2 ++ (mkL G tp td hi g ln sn ++ rest)))) := by
  refine zMet.of (by decide) (Nat.le_of_ble_eq_true rfl) ?_
  intro E C R
  have C : zC G E RX7 cX7_store 2 0 0 := C
  show V G E 0 [some (.ref (G.ad 34)), some (.int (iI p))] [] (dkL G f L c bf bL bc pf pl pc nx sz k kf ks lf ls sf sl mf rf ty pla fro to ++ (kpL G f2 L2 c2 bf2 bL2 bc2 pf2 pl2 pc2 nx2 sz2 k2 kf2 ks2 lf2 ls2 sf2 sl2 mf2 rf2 ty2 pla2 fro2 to2 ++ (mkL G tp td hi g ln sn ++ rest)))
  obtain ⟨hf, hL, hc, hbf, hbL, hbc, hpf, hplc, hnx, hsz, hk, hk3, hk4, hkf, hks, hlf, hls, hsf, hsl, hmf, hrf, hty, hpa, hfr, hto, hcm⟩ := id O
  have hla := la_in hL.1
  have hlb := la_in hbL.1
  have rpl : ∀ j, rng (pl j) := fun j => by have := hplc j; omega
  have rpc : ∀ j, rng (pc j) := fun j => by have := hplc j; have := la_in (hplc j).1.1; omega
  have rkf : ∀ j, rng (kf j) := fun j => by have := hkf j; omega
  have rlf : ∀ j, rng (lf j) := fun j => by have := hlf j; omega
  have rmf : ∀ j, rng (mf j) := fun j => by have := hmf j; omega
  have gmf : ∀ j, -1 ≤ mf j := fun j => (hmf j).1
  refine V_iload_n C dX7_store_0 rfl ?_
  refine V_if_lt (tgt := 27) C dX7_store_1 (by decide) (by omega) (fun c_1 => ?_) (fun c_1 => ?_)
  · skip
    refine V_iconst C dX7_store_27 ?_
    exact V_iret C R dX7_store_28 (zO_i (by first | exact (atv_at (by omega) (by omega)).symm | exact (atv_out (by omega)).symm))
  · skip
    refine V_iload_n C dX7_store_4 rfl ?_
    refine V_aload_n C dX7_store_5 rfl ?_
    refine vg_X7_16 C dX7_store_6 rfl rfl ?_
    refine vg_X7_65 C dX7_store_9 rfl rfl ?_
    refine V_icmp_ge (tgt := 27) C dX7_store_12 (by decide) (by omega) (by omega) (fun c_12 => ?_) (fun c_12 => ?_)
    · skip
      refine V_iconst C dX7_store_27 ?_
      exact V_iret C R dX7_store_28 (zO_i (by first | exact (atv_at (by omega) (by omega)).symm | exact (atv_out (by omega)).symm))
    · skip
      refine V_aload_n C dX7_store_15 rfl ?_
      refine vg_X7_16 C dX7_store_16 rfl rfl ?_
      refine vg_X7_68 C dX7_store_19 rfl rfl ?_
      refine V_iload_n C dX7_store_22 rfl ?_
      refine V_iald C dX7_store_23 rfl (by omega) (by omega) (by decide) hsf (fun r_23 => ?_)
      refine V_goto (tgt := 28) C dX7_store_24 (by decide) ?_
      exact V_iret C R dX7_store_28 (zO_i (by first | exact (atv_at (by omega) (by omega)).symm | exact (atv_out (by omega)).symm))

set_option maxRecDepth 100000 in
theorem m_X7_mark (G : zG) {f bf pf pl pc k kf lf sf mf rf f2 bf2 pf2 pl2 pc2 k2 kf2 lf2 sf2 mf2 rf2 : Int → Int} {L c bL bc nx sz ks ls sl ty pla fro to L2 c2 bL2 bc2 nx2 sz2 ks2 ls2 sl2 ty2 pla2 fro2 to2 : Int} {rest : List va_E} {tp : Int → Int} {td hi : Int} {g : Int → Int → Int} {ln sn : Int → Int} {p : Int} (hp : rng p) (O : okD f L c bf bL bc pf pl pc nx sz k kf ks lf ls sf sl mf rf ty pla fro to) : zMet G yX7_mark cX7_mark 2 (some .int) 0 0 [.ref (G.ad 34), .int (iI p)] (dkL G f L c bf bL bc pf pl pc nx sz k kf ks lf ls sf sl mf rf ty pla fro to ++ (kpL G f2 L2 c2 bf2 bL2 bc2 pf2 pl2 pc2 nx2 sz2 k2 kf2 ks2 lf2 ls2 sf2 sl2 mf2 rf2 ty2 pla2 fro2 to2 ++ (mkL G tp td hi g ln sn ++ rest))) (zO (.int (iI (if 0 ≤ p ∧ p < 4 then (if mf p = -1 then -4 else mf p) else -1))) (dkL G f L c bf bL bc pf pl pc nx sz k kf ks lf ls sf sl mf rf ty pla fro to ++ (kpL G f2 L2 c2 bf2 bL2 bc2 pf2 pl2 pc2 nx2 sz2 k2 kf2 ks2 lf2 ls2 sf2 sl2 mf2 rf2 ty2 pla2 fro2 to2 ++ (mkL G tp td hi g ln sn ++ rest)))) := by
  refine zMet.of (by decide) (Nat.le_of_ble_eq_true rfl) ?_
  intro E C R
  have C : zC G E RX7 cX7_mark 2 0 0 := C
  show V G E 0 [some (.ref (G.ad 34)), some (.int (iI p))] [] (dkL G f L c bf bL bc pf pl pc nx sz k kf ks lf ls sf sl mf rf ty pla fro to ++ (kpL G f2 L2 c2 bf2 bL2 bc2 pf2 pl2 pc2 nx2 sz2 k2 kf2 ks2 lf2 ls2 sf2 sl2 mf2 rf2 ty2 pla2 fro2 to2 ++ (mkL G tp td hi g ln sn ++ rest)))
  obtain ⟨hf, hL, hc, hbf, hbL, hbc, hpf, hplc, hnx, hsz, hk, hk3, hk4, hkf, hks, hlf, hls, hsf, hsl, hmf, hrf, hty, hpa, hfr, hto, hcm⟩ := id O
  have hla := la_in hL.1
  have hlb := la_in hbL.1
  have rpl : ∀ j, rng (pl j) := fun j => by have := hplc j; omega
  have rpc : ∀ j, rng (pc j) := fun j => by have := hplc j; have := la_in (hplc j).1.1; omega
  have rkf : ∀ j, rng (kf j) := fun j => by have := hkf j; omega
  have rlf : ∀ j, rng (lf j) := fun j => by have := hlf j; omega
  have rmf : ∀ j, rng (mf j) := fun j => by have := hmf j; omega
  have gmf : ∀ j, -1 ≤ mf j := fun j => (hmf j).1
  refine V_iload_n C dX7_mark_0 rfl ?_
  refine V_if_lt (tgt := 9) C dX7_mark_1 (by decide) (by omega) (fun c_1 => ?_) (fun c_1 => ?_)
  · skip
    refine V_iconst C dX7_mark_9 ?_
    exact V_iret C R dX7_mark_10 (zO_i (by rw [if_neg (by omega)]))
  · skip
    refine V_iload_n C dX7_mark_4 rfl ?_
    refine V_iconst C dX7_mark_5 ?_
    refine V_icmp_lt (tgt := 11) C dX7_mark_6 (by decide) (by omega) (by omega) (fun c_6 => ?_) (fun c_6 => ?_)
    · skip
      refine V_aload_n C dX7_mark_11 rfl ?_
      refine vg_X7_16 C dX7_mark_12 rfl rfl ?_
      refine vg_X7_71 C dX7_mark_15 rfl rfl ?_
      refine V_iload_n C dX7_mark_18 rfl ?_
      refine V_iald C dX7_mark_19 rfl (by omega) (by omega) (by decide) rmf (fun r_19 => ?_)
      refine V_iconst C dX7_mark_20 ?_
      refine V_icmp_ne (tgt := 29) C dX7_mark_21 (by decide) (by omega) (by omega) (fun c_21 => ?_) (fun c_21 => ?_)
      · skip
        refine V_aload_n C dX7_mark_29 rfl ?_
        refine vg_X7_16 C dX7_mark_30 rfl rfl ?_
        refine vg_X7_71 C dX7_mark_33 rfl rfl ?_
        refine V_iload_n C dX7_mark_36 rfl ?_
        refine V_iald C dX7_mark_37 rfl (by omega) (by omega) (by decide) rmf (fun r_37 => ?_)
        exact V_iret C R dX7_mark_38 (zO_i (by rw [if_pos (by omega)]; first | rw [if_pos (by omega)] | rw [if_neg (by omega)]))
      · skip
        refine V_bipush C dX7_mark_24 (by decide) ?_
        refine V_goto (tgt := 38) C dX7_mark_26 (by decide) ?_
        exact V_iret C R dX7_mark_38 (zO_i (by rw [if_pos (by omega)]; first | rw [if_pos (by omega)] | rw [if_neg (by omega)]))
    · skip
      refine V_iconst C dX7_mark_9 ?_
      exact V_iret C R dX7_mark_10 (zO_i (by rw [if_neg (by omega)]))

def cntV (f : Int → Int) (L c ty ks sl : Int) (mf : Int → Int) (sz ls w : Int) : Int := if w = 0 then L else if w = 1 then c else if w = 2 then ty else if w = 3 then b2z (ty = 0 ∧ 0 < ks) else if w = 4 then sl else if w = 5 then bsN (fun j => decide (mf j ≠ -1)) 4 else if w = 6 then sz else if w = 7 then wd f L 0 0 else if w = 8 then ls else -1
theorem cntV_1 {f : Int → Int} {L c ty ks sl : Int} {mf : Int → Int} {sz ls w : Int}  (h1 : w = 0) : cntV f L c ty ks sl mf sz ls w = L := by unfold cntV; rw [if_pos h1]
theorem cntV_2 {f : Int → Int} {L c ty ks sl : Int} {mf : Int → Int} {sz ls w : Int} (h1 : ¬ (w = 0)) (h2 : w = 1) : cntV f L c ty ks sl mf sz ls w = c := by unfold cntV; rw [if_neg h1, if_pos h2]
theorem cntV_3 {f : Int → Int} {L c ty ks sl : Int} {mf : Int → Int} {sz ls w : Int} (h1 : ¬ (w = 0)) (h2 : ¬ (w = 1)) (h3 : w = 2) : cntV f L c ty ks sl mf sz ls w = ty := by unfold cntV; rw [if_neg h1, if_neg h2, if_pos h3]
theorem cntV_4 {f : Int → Int} {L c ty ks sl : Int} {mf : Int → Int} {sz ls w : Int} (h1 : ¬ (w = 0)) (h2 : ¬ (w = 1)) (h3 : ¬ (w = 2)) (h4 : w = 3) : cntV f L c ty ks sl mf sz ls w = b2z (ty = 0 ∧ 0 < ks) := by unfold cntV; rw [if_neg h1, if_neg h2, if_neg h3, if_pos h4]
theorem cntV_5 {f : Int → Int} {L c ty ks sl : Int} {mf : Int → Int} {sz ls w : Int} (h1 : ¬ (w = 0)) (h2 : ¬ (w = 1)) (h3 : ¬ (w = 2)) (h4 : ¬ (w = 3)) (h5 : w = 4) : cntV f L c ty ks sl mf sz ls w = sl := by unfold cntV; rw [if_neg h1, if_neg h2, if_neg h3, if_neg h4, if_pos h5]
theorem cntV_6 {f : Int → Int} {L c ty ks sl : Int} {mf : Int → Int} {sz ls w : Int} (h1 : ¬ (w = 0)) (h2 : ¬ (w = 1)) (h3 : ¬ (w = 2)) (h4 : ¬ (w = 3)) (h5 : ¬ (w = 4)) (h6 : w = 5) : cntV f L c ty ks sl mf sz ls w = bsN (fun j => decide (mf j ≠ -1)) 4 := by unfold cntV; rw [if_neg h1, if_neg h2, if_neg h3, if_neg h4, if_neg h5, if_pos h6]
theorem cntV_7 {f : Int → Int} {L c ty ks sl : Int} {mf : Int → Int} {sz ls w : Int} (h1 : ¬ (w = 0)) (h2 : ¬ (w = 1)) (h3 : ¬ (w = 2)) (h4 : ¬ (w = 3)) (h5 : ¬ (w = 4)) (h6 : ¬ (w = 5)) (h7 : w = 6) : cntV f L c ty ks sl mf sz ls w = sz := by unfold cntV; rw [if_neg h1, if_neg h2, if_neg h3, if_neg h4, if_neg h5, if_neg h6, if_pos h7]
theorem cntV_8 {f : Int → Int} {L c ty ks sl : Int} {mf : Int → Int} {sz ls w : Int} (h1 : ¬ (w = 0)) (h2 : ¬ (w = 1)) (h3 : ¬ (w = 2)) (h4 : ¬ (w = 3)) (h5 : ¬ (w = 4)) (h6 : ¬ (w = 5)) (h7 : ¬ (w = 6)) (h8 : w = 7) : cntV f L c ty ks sl mf sz ls w = wd f L 0 0 := by unfold cntV; rw [if_neg h1, if_neg h2, if_neg h3, if_neg h4, if_neg h5, if_neg h6, if_neg h7, if_pos h8]
theorem cntV_9 {f : Int → Int} {L c ty ks sl : Int} {mf : Int → Int} {sz ls w : Int} (h1 : ¬ (w = 0)) (h2 : ¬ (w = 1)) (h3 : ¬ (w = 2)) (h4 : ¬ (w = 3)) (h5 : ¬ (w = 4)) (h6 : ¬ (w = 5)) (h7 : ¬ (w = 6)) (h8 : ¬ (w = 7)) (h9 : w = 8) : cntV f L c ty ks sl mf sz ls w = ls := by unfold cntV; rw [if_neg h1, if_neg h2, if_neg h3, if_neg h4, if_neg h5, if_neg h6, if_neg h7, if_neg h8, if_pos h9]
theorem cntV_10 {f : Int → Int} {L c ty ks sl : Int} {mf : Int → Int} {sz ls w : Int} (h1 : ¬ (w = 0)) (h2 : ¬ (w = 1)) (h3 : ¬ (w = 2)) (h4 : ¬ (w = 3)) (h5 : ¬ (w = 4)) (h6 : ¬ (w = 5)) (h7 : ¬ (w = 6)) (h8 : ¬ (w = 7)) (h9 : ¬ (w = 8)) : cntV f L c ty ks sl mf sz ls w = -1 := by unfold cntV; rw [if_neg h1, if_neg h2, if_neg h3, if_neg h4, if_neg h5, if_neg h6, if_neg h7, if_neg h8, if_neg h9]
set_option maxRecDepth 100000 in
theorem m_X7_count (G : zG) {f bf pf pl pc k kf lf sf mf rf f2 bf2 pf2 pl2 pc2 k2 kf2 lf2 sf2 mf2 rf2 : Int → Int} {L c bL bc nx sz ks ls sl ty pla fro to L2 c2 bL2 bc2 nx2 sz2 ks2 ls2 sl2 ty2 pla2 fro2 to2 : Int} {rest : List va_E} {tp : Int → Int} {td hi : Int} {g : Int → Int → Int} {ln sn : Int → Int} {w : Int} (hw : rng w) (O : okD f L c bf bL bc pf pl pc nx sz k kf ks lf ls sf sl mf rf ty pla fro to) : zMet G yX7_count cX7_count 2 (some .int) 2 47 [.ref (G.ad 34), .int (iI w)] (dkL G f L c bf bL bc pf pl pc nx sz k kf ks lf ls sf sl mf rf ty pla fro to ++ (kpL G f2 L2 c2 bf2 bL2 bc2 pf2 pl2 pc2 nx2 sz2 k2 kf2 ks2 lf2 ls2 sf2 sl2 mf2 rf2 ty2 pla2 fro2 to2 ++ (mkL G tp td hi g ln sn ++ rest))) (zO (.int (iI (cntV f L c ty ks sl mf sz ls w))) (dkL G f L c bf bL bc pf pl pc nx sz k kf ks lf ls sf sl mf rf ty pla fro to ++ (kpL G f2 L2 c2 bf2 bL2 bc2 pf2 pl2 pc2 nx2 sz2 k2 kf2 ks2 lf2 ls2 sf2 sl2 mf2 rf2 ty2 pla2 fro2 to2 ++ (mkL G tp td hi g ln sn ++ rest)))) := by
  refine zMet.of (by decide) (Nat.le_of_ble_eq_true rfl) ?_
  intro E C R
  have C : zC G E RX7 cX7_count 2 2 47 := C
  show V G E 0 [some (.ref (G.ad 34)), some (.int (iI w))] [] (dkL G f L c bf bL bc pf pl pc nx sz k kf ks lf ls sf sl mf rf ty pla fro to ++ (kpL G f2 L2 c2 bf2 bL2 bc2 pf2 pl2 pc2 nx2 sz2 k2 kf2 ks2 lf2 ls2 sf2 sl2 mf2 rf2 ty2 pla2 fro2 to2 ++ (mkL G tp td hi g ln sn ++ rest)))
  obtain ⟨hf, hL, hc, hbf, hbL, hbc, hpf, hplc, hnx, hsz, hk, hk3, hk4, hkf, hks, hlf, hls, hsf, hsl, hmf, hrf, hty, hpa, hfr, hto, hcm⟩ := id O
  have hla := la_in hL.1
  have hlb := la_in hbL.1
  have rpl : ∀ j, rng (pl j) := fun j => by have := hplc j; omega
  have rpc : ∀ j, rng (pc j) := fun j => by have := hplc j; have := la_in (hplc j).1.1; omega
  have rkf : ∀ j, rng (kf j) := fun j => by have := hkf j; omega
  have rlf : ∀ j, rng (lf j) := fun j => by have := hlf j; omega
  have rmf : ∀ j, rng (mf j) := fun j => by have := hmf j; omega
  have gmf : ∀ j, -1 ≤ mf j := fun j => (hmf j).1
  refine V_iload_n C dX7_count_0 rfl ?_
  by_cases w_1_0 : w = 0
  · skip
    refine V_tableIn (tgt := 52) (off := 51) C dX7_count_1 (by omega) (by omega) (by omega) (by rw [w_1_0]; rfl) (by decide) ?_
    refine V_aload_n C dX7_count_52 rfl ?_
    refine vg_X7_16 C dX7_count_53 rfl rfl ?_
    refine vg_X7_49 C dX7_count_56 rfl rfl ?_
    refine vg_X7_53 C dX7_count_59 rfl rfl ?_
    exact V_iret C R dX7_count_62 (zO_i (by rw [cntV_1 (by omega)]))
  by_cases w_1_1 : w = 1
  · skip
    refine V_tableIn (tgt := 63) (off := 62) C dX7_count_1 (by omega) (by omega) (by omega) (by rw [w_1_1]; rfl) (by decide) ?_
    refine V_aload_n C dX7_count_63 rfl ?_
    refine vg_X7_16 C dX7_count_64 rfl rfl ?_
    refine vg_X7_49 C dX7_count_67 rfl rfl ?_
    refine vg_X7_74 C dX7_count_70 rfl rfl ?_
    exact V_iret C R dX7_count_73 (zO_i (by rw [cntV_2 (by omega) (by omega)]))
  by_cases w_1_2 : w = 2
  · skip
    refine V_tableIn (tgt := 74) (off := 73) C dX7_count_1 (by omega) (by omega) (by omega) (by rw [w_1_2]; rfl) (by decide) ?_
    refine V_aload_n C dX7_count_74 rfl ?_
    refine vg_X7_16 C dX7_count_75 rfl rfl ?_
    refine vg_X7_77 C dX7_count_78 rfl rfl ?_
    refine V_if_eq (tgt := 88) C dX7_count_81 (by decide) (by omega) (fun c_81 => ?_) (fun c_81 => ?_)
    · skip
      refine V_iconst C dX7_count_88 ?_
      exact V_iret C R dX7_count_89 (zO_i (by rw [cntV_3 (by omega) (by omega) (by omega)]; omega))
    · skip
      refine V_iconst C dX7_count_84 ?_
      refine V_goto (tgt := 89) C dX7_count_85 (by decide) ?_
      exact V_iret C R dX7_count_89 (zO_i (by rw [cntV_3 (by omega) (by omega) (by omega)]; omega))
  by_cases w_1_3 : w = 3
  · skip
    refine V_tableIn (tgt := 90) (off := 89) C dX7_count_1 (by omega) (by omega) (by omega) (by rw [w_1_3]; rfl) (by decide) ?_
    refine V_aload_n C dX7_count_90 rfl ?_
    refine vg_X7_16 C dX7_count_91 rfl rfl ?_
    refine V_callN C lk_X7_81 (m_X1_isPending G (by omega) (by omega)) dX7_count_94 rfl rfl rfl rfl (by decide) (Nat.le_of_ble_eq_true rfl) (kO ?_)
    refine V_if_eqB (tgt := 104) C dX7_count_97 (by decide) (fun c_97 => ?_) (fun c_97 => ?_)
    · skip
      refine V_iconst C dX7_count_104 ?_
      exact V_iret C R dX7_count_105 (zO_i (by rw [cntV_4 (by omega) (by omega) (by omega) (by omega)]; first | exact b2z_1 (by assumption) | exact b2z_0 (by assumption)))
    · skip
      refine V_iconst C dX7_count_100 ?_
      refine V_goto (tgt := 105) C dX7_count_101 (by decide) ?_
      exact V_iret C R dX7_count_105 (zO_i (by rw [cntV_4 (by omega) (by omega) (by omega) (by omega)]; first | exact b2z_1 (by assumption) | exact b2z_0 (by assumption)))
  by_cases w_1_4 : w = 4
  · skip
    refine V_tableIn (tgt := 106) (off := 105) C dX7_count_1 (by omega) (by omega) (by omega) (by rw [w_1_4]; rfl) (by decide) ?_
    refine V_aload_n C dX7_count_106 rfl ?_
    refine vg_X7_16 C dX7_count_107 rfl rfl ?_
    refine vg_X7_65 C dX7_count_110 rfl rfl ?_
    exact V_iret C R dX7_count_113 (zO_i (by rw [cntV_5 (by omega) (by omega) (by omega) (by omega) (by omega)]))
  by_cases w_1_5 : w = 5
  · skip
    refine V_tableIn (tgt := 114) (off := 113) C dX7_count_1 (by omega) (by omega) (by omega) (by rw [w_1_5]; rfl) (by decide) ?_
    refine V_aload_n C dX7_count_114 rfl ?_
    refine vg_X7_16 C dX7_count_115 rfl rfl ?_
    refine V_callN C lk_X7_85 (m_X1_markSet G rmf) dX7_count_118 rfl rfl rfl rfl (by decide) (Nat.le_of_ble_eq_true rfl) (kO ?_)
    exact V_iret C R dX7_count_121 (zO_i (by rw [cntV_6 (by omega) (by omega) (by omega) (by omega) (by omega) (by omega)]))
  by_cases w_1_6 : w = 6
  · skip
    refine V_tableIn (tgt := 122) (off := 121) C dX7_count_1 (by omega) (by omega) (by omega) (by rw [w_1_6]; rfl) (by decide) ?_
    refine V_aload_n C dX7_count_122 rfl ?_
    refine vg_X7_16 C dX7_count_123 rfl rfl ?_
    refine vg_X7_89 C dX7_count_126 rfl rfl ?_
    refine vg_X7_93 C dX7_count_129 rfl rfl ?_
    exact V_iret C R dX7_count_132 (zO_i (by rw [cntV_7 (by omega) (by omega) (by omega) (by omega) (by omega) (by omega) (by omega)]))
  by_cases w_1_7 : w = 7
  · skip
    refine V_tableIn (tgt := 133) (off := 132) C dX7_count_1 (by omega) (by omega) (by omega) (by rw [w_1_7]; rfl) (by decide) ?_
    refine V_aload_n C dX7_count_133 rfl ?_
    refine vg_X7_16 C dX7_count_134 rfl rfl ?_
    refine vg_X7_49 C dX7_count_137 rfl rfl ?_
    refine V_callN C lk_X7_98 (m_X5_words G (i := 1) (j := 2) ⟨rfl, rfl, hf, by omega, by omega⟩) dX7_count_140 rfl rfl rfl rfl (by decide) (Nat.le_of_ble_eq_true rfl) (kO ?_)
    exact V_iret C R dX7_count_143 (zO_i (by rw [cntV_8 (by omega) (by omega) (by omega) (by omega) (by omega) (by omega) (by omega) (by omega)]))
  by_cases w_1_8 : w = 8
  · skip
    refine V_tableIn (tgt := 144) (off := 143) C dX7_count_1 (by omega) (by omega) (by omega) (by rw [w_1_8]; rfl) (by decide) ?_
    refine V_aload_n C dX7_count_144 rfl ?_
    refine vg_X7_16 C dX7_count_145 rfl rfl ?_
    refine vg_X7_101 C dX7_count_148 rfl rfl ?_
    refine vg_X7_105 C dX7_count_151 rfl rfl ?_
    exact V_iret C R dX7_count_154 (zO_i (by rw [cntV_9 (by omega) (by omega) (by omega) (by omega) (by omega) (by omega) (by omega) (by omega) (by omega)]))
  refine V_tableOut (tgt := 155) C dX7_count_1 (by omega) (by omega) (by decide) ?_
  refine V_iconst C dX7_count_155 ?_
  exact V_iret C R dX7_count_156 (zO_i (by rw [cntV_10 (by omega) (by omega) (by omega) (by omega) (by omega) (by omega) (by omega) (by omega) (by omega)]))

set_option maxRecDepth 100000 in
theorem m_X7_key (G : zG) {f bf pf pl pc k kf lf sf mf rf f2 bf2 pf2 pl2 pc2 k2 kf2 lf2 sf2 mf2 rf2 : Int → Int} {L c bL bc nx sz ks ls sl ty pla fro to L2 c2 bL2 bc2 nx2 sz2 ks2 ls2 sl2 ty2 pla2 fro2 to2 : Int} {rest : List va_E} {tp : Int → Int} {td hi : Int} {g : Int → Int → Int} {ln sn : Int → Int} {x : Int} (hx : rng x) (O : okD f L c bf bL bc pf pl pc nx sz k kf ks lf ls sf sl mf rf ty pla fro to) : zMet G yX7_key cX7_key 2 (some .int) 7 164 [.ref (G.ad 34), .int (iI x)] (dkL G f L c bf bL bc pf pl pc nx sz k kf ks lf ls sf sl mf rf ty pla fro to ++ (kpL G f2 L2 c2 bf2 bL2 bc2 pf2 pl2 pc2 nx2 sz2 k2 kf2 ks2 lf2 ls2 sf2 sl2 mf2 rf2 ty2 pla2 fro2 to2 ++ (mkL G tp td hi g ln sn ++ rest))) (fun r cs2 => (¬ (32 ≤ x ∧ x ≤ 126) ∧ zO (.int (iI (-1))) (dkL G f L c bf bL bc pf pl pc nx sz k kf ks lf ls sf sl mf rf ty pla fro to ++ (kpL G f2 L2 c2 bf2 bL2 bc2 pf2 pl2 pc2 nx2 sz2 k2 kf2 ks2 lf2 ls2 sf2 sl2 mf2 rf2 ty2 pla2 fro2 to2 ++ (mkL G tp td hi g ln sn ++ rest))) r cs2) ∨ ((32 ≤ x ∧ x ≤ 126) ∧ zO (.int (iI (prs f L c bf bL bc pf pl pc nx sz k kf ks lf ls sf sl mf rf ty pla fro to x).1)) (dkT G (prs f L c bf bL bc pf pl pc nx sz k kf ks lf ls sf sl mf rf ty pla fro to x).2 ++ (kpL G f2 L2 c2 bf2 bL2 bc2 pf2 pl2 pc2 nx2 sz2 k2 kf2 ks2 lf2 ls2 sf2 sl2 mf2 rf2 ty2 pla2 fro2 to2 ++ (mkL G tp td hi g ln sn ++ rest))) r cs2)) := by
  refine zMet.of (by decide) (Nat.le_of_ble_eq_true rfl) ?_
  intro E C R
  have C : zC G E RX7 cX7_key 2 7 164 := C
  show V G E 0 [some (.ref (G.ad 34)), some (.int (iI x))] [] (dkL G f L c bf bL bc pf pl pc nx sz k kf ks lf ls sf sl mf rf ty pla fro to ++ (kpL G f2 L2 c2 bf2 bL2 bc2 pf2 pl2 pc2 nx2 sz2 k2 kf2 ks2 lf2 ls2 sf2 sl2 mf2 rf2 ty2 pla2 fro2 to2 ++ (mkL G tp td hi g ln sn ++ rest)))
  refine V_iload_n C dX7_key_0 rfl ?_
  refine V_callS C lk_X7_37 (m_X7_isLetter G (by omega)) dX7_key_1 rfl rfl (by decide) (Nat.le_of_ble_eq_true rfl) (kO ?_)
  refine V_if_eqB (tgt := 18) C dX7_key_4 (by decide) (fun c_4 => ?_) (fun c_4 => ?_)
  · skip
    refine V_iconst C dX7_key_18 ?_
    exact V_iret C R dX7_key_19 (by first | exact Or.inl ⟨by assumption, rfl, rfl⟩ | exact Or.inr ⟨by assumption, rfl, rfl⟩)
  · skip
    refine V_aload_n C dX7_key_7 rfl ?_
    refine vg_X7_16 C dX7_key_8 rfl rfl ?_
    refine V_iload_n C dX7_key_11 rfl ?_
    refine V_callN C lk_X7_108 (m_X1_press G O (by omega)) dX7_key_12 rfl rfl rfl rfl (by decide) (Nat.le_of_ble_eq_true rfl) (kO ?_)
    refine V_goto (tgt := 19) C dX7_key_15 (by decide) ?_
    exact V_iret C R dX7_key_19 (by first | exact Or.inl ⟨by assumption, rfl, rfl⟩ | exact Or.inr ⟨by assumption, rfl, rfl⟩)

set_option maxRecDepth 100000 in
theorem m_X7_price (G : zG) {f bf pf pl pc k kf lf sf mf rf f2 bf2 pf2 pl2 pc2 k2 kf2 lf2 sf2 mf2 rf2 : Int → Int} {L c bL bc nx sz ks ls sl ty pla fro to L2 c2 bL2 bc2 nx2 sz2 ks2 ls2 sl2 ty2 pla2 fro2 to2 : Int} {rest : List va_E} {tp : Int → Int} {td hi : Int} {g : Int → Int → Int} {ln sn : Int → Int} {p v : Int} (hp : rng p) (hv : rng v) (O : okD f L c bf bL bc pf pl pc nx sz k kf ks lf ls sf sl mf rf ty pla fro to) : zMet G yX7_price cX7_price 4 (some .int) 1 20 [.ref (G.ad 34), .int (iI p), .int (iI v)] (dkL G f L c bf bL bc pf pl pc nx sz k kf ks lf ls sf sl mf rf ty pla fro to ++ (kpL G f2 L2 c2 bf2 bL2 bc2 pf2 pl2 pc2 nx2 sz2 k2 kf2 ks2 lf2 ls2 sf2 sl2 mf2 rf2 ty2 pla2 fro2 to2 ++ (mkL G tp td hi g ln sn ++ rest))) (zO (.int (iI (if ¬ ((0 ≤ p ∧ p < 7) ∧ 1 ≤ v ∧ v ≤ 9) then -1 else if rf p = v then -2 else rf p))) (dkL G f L c bf bL bc pf pl pc nx sz k kf ks lf ls sf sl mf (if ¬ ((0 ≤ p ∧ p < 7) ∧ 1 ≤ v ∧ v ≤ 9) ∨ rf p = v then rf else zup rf p v) ty pla fro to ++ (kpL G f2 L2 c2 bf2 bL2 bc2 pf2 pl2 pc2 nx2 sz2 k2 kf2 ks2 lf2 ls2 sf2 sl2 mf2 rf2 ty2 pla2 fro2 to2 ++ (mkL G tp td hi g ln sn ++ rest)))) := by
  refine zMet.of (by decide) (Nat.le_of_ble_eq_true rfl) ?_
  intro E C R
  have C : zC G E RX7 cX7_price 4 1 20 := C
  show V G E 0 [some (.ref (G.ad 34)), some (.int (iI p)), some (.int (iI v)), none] [] (dkL G f L c bf bL bc pf pl pc nx sz k kf ks lf ls sf sl mf rf ty pla fro to ++ (kpL G f2 L2 c2 bf2 bL2 bc2 pf2 pl2 pc2 nx2 sz2 k2 kf2 ks2 lf2 ls2 sf2 sl2 mf2 rf2 ty2 pla2 fro2 to2 ++ (mkL G tp td hi g ln sn ++ rest)))
  obtain ⟨hf, hL, hc, hbf, hbL, hbc, hpf, hplc, hnx, hsz, hk, hk3, hk4, hkf, hks, hlf, hls, hsf, hsl, hmf, hrf, hty, hpa, hfr, hto, hcm⟩ := id O
  have hla := la_in hL.1
  have hlb := la_in hbL.1
  have rpl : ∀ j, rng (pl j) := fun j => by have := hplc j; omega
  have rpc : ∀ j, rng (pc j) := fun j => by have := hplc j; have := la_in (hplc j).1.1; omega
  have rkf : ∀ j, rng (kf j) := fun j => by have := hkf j; omega
  have rlf : ∀ j, rng (lf j) := fun j => by have := hlf j; omega
  have rmf : ∀ j, rng (mf j) := fun j => by have := hmf j; omega
  have gmf : ∀ j, -1 ≤ mf j := fun j => (hmf j).1
  have rrf : ∀ j, rng (rf j) := fun j => by have := hrf j; omega
  refine V_iload_n C dX7_price_0 rfl ?_
  refine V_callS C lk_X7_111 (m_X7_isMotion G (by omega)) dX7_price_1 rfl rfl (by decide) (Nat.le_of_ble_eq_true rfl) (kO ?_)
  refine V_if_eqB (tgt := 18) C dX7_price_4 (by decide) (fun c_4 => ?_) (fun c_4 => ?_)
  · skip
    refine V_iconst C dX7_price_18 ?_
    exact V_iret C R dX7_price_19 (zO_ic (by rw [if_pos (by omega)]) (by rw [if_pos (by omega)]))
  · skip
    refine V_iload_n C dX7_price_7 rfl ?_
    refine V_iconst C dX7_price_8 ?_
    refine V_icmp_lt (tgt := 18) C dX7_price_9 (by decide) (by omega) (by omega) (fun c_9 => ?_) (fun c_9 => ?_)
    · skip
      refine V_iconst C dX7_price_18 ?_
      exact V_iret C R dX7_price_19 (zO_ic (by rw [if_pos (by omega)]) (by rw [if_pos (by omega)]))
    · skip
      refine V_iload_n C dX7_price_12 rfl ?_
      refine V_bipush C dX7_price_13 (by decide) ?_
      refine V_icmp_le (tgt := 20) C dX7_price_15 (by decide) (by omega) (by omega) (fun c_15 => ?_) (fun c_15 => ?_)
      · skip
        refine V_aload_n C dX7_price_20 rfl ?_
        refine vg_X7_16 C dX7_price_21 rfl rfl ?_
        refine vg_X7_114 C dX7_price_24 rfl rfl ?_
        refine V_iload_n C dX7_price_27 rfl ?_
        refine V_iald C dX7_price_28 rfl (by omega) (by omega) (by decide) rrf (fun r_28 => ?_)
        refine V_istore_n C dX7_price_29 (by decide) rfl ?_
        refine V_iload_n C dX7_price_30 rfl ?_
        refine V_iload_n C dX7_price_31 rfl ?_
        refine V_icmp_ne (tgt := 38) C dX7_price_32 (by decide) (by omega) (by omega) (fun c_32 => ?_) (fun c_32 => ?_)
        · skip
          refine V_aload_n C dX7_price_38 rfl ?_
          refine vg_X7_16 C dX7_price_39 rfl rfl ?_
          refine vg_X7_114 C dX7_price_42 rfl rfl ?_
          refine V_iload_n C dX7_price_45 rfl ?_
          refine V_iload_n C dX7_price_46 rfl ?_
          refine V_iast C dX7_price_47 rfl (by omega) (by omega) (by decide) ?_
          refine V_iload_n C dX7_price_48 rfl ?_
          exact V_iret C R dX7_price_49 (zO_ic (by rw [if_neg (by omega), if_neg (by omega)]) (by rw [if_neg (by omega)] <;> rfl))
        · skip
          refine V_bipush C dX7_price_35 (by decide) ?_
          exact V_iret C R dX7_price_37 (zO_ic (by rw [if_neg (by omega), if_pos (by omega)]) (by rw [if_pos (by omega)]))
      · skip
        refine V_iconst C dX7_price_18 ?_
        exact V_iret C R dX7_price_19 (zO_ic (by rw [if_pos (by omega)]) (by rw [if_pos (by omega)]))

set_option maxRecDepth 100000 in
theorem m_X7_leads (G : zG) {f bf pf pl pc k kf lf sf mf rf f2 bf2 pf2 pl2 pc2 k2 kf2 lf2 sf2 mf2 rf2 : Int → Int} {L c bL bc nx sz ks ls sl ty pla fro to L2 c2 bL2 bc2 nx2 sz2 ks2 ls2 sl2 ty2 pla2 fro2 to2 : Int} {rest : List va_E} {tp : Int → Int} {td hi : Int} {g : Int → Int → Int} {ln sn : Int → Int} {p v : Int} (hp : rng p) (hv : rng v) (O : okD f L c bf bL bc pf pl pc nx sz k kf ks lf ls sf sl mf rf ty pla fro to) : zMet G yX7_leads cX7_leads 3 (some .int) 3 71 [.ref (G.ad 34), .int (iI p), .int (iI v)] (dkL G f L c bf bL bc pf pl pc nx sz k kf ks lf ls sf sl mf rf ty pla fro to ++ (kpL G f2 L2 c2 bf2 bL2 bc2 pf2 pl2 pc2 nx2 sz2 k2 kf2 ks2 lf2 ls2 sf2 sl2 mf2 rf2 ty2 pla2 fro2 to2 ++ (mkL G tp td hi g ln sn ++ rest))) (zO (.int (iI (if (0 ≤ p ∧ p < 7) ∧ 0 ≤ v ∧ v ≤ L then ld f L p v else -1))) (dkL G f L c bf bL bc pf pl pc nx sz k kf ks lf ls sf sl mf rf ty pla fro to ++ (kpL G f2 L2 c2 bf2 bL2 bc2 pf2 pl2 pc2 nx2 sz2 k2 kf2 ks2 lf2 ls2 sf2 sl2 mf2 rf2 ty2 pla2 fro2 to2 ++ (mkL G tp td hi g ln sn ++ rest)))) := by
  refine zMet.of (by decide) (Nat.le_of_ble_eq_true rfl) ?_
  intro E C R
  have C : zC G E RX7 cX7_leads 3 3 71 := C
  show V G E 0 [some (.ref (G.ad 34)), some (.int (iI p)), some (.int (iI v))] [] (dkL G f L c bf bL bc pf pl pc nx sz k kf ks lf ls sf sl mf rf ty pla fro to ++ (kpL G f2 L2 c2 bf2 bL2 bc2 pf2 pl2 pc2 nx2 sz2 k2 kf2 ks2 lf2 ls2 sf2 sl2 mf2 rf2 ty2 pla2 fro2 to2 ++ (mkL G tp td hi g ln sn ++ rest)))
  obtain ⟨hf, hL, hc, hbf, hbL, hbc, hpf, hplc, hnx, hsz, hk, hk3, hk4, hkf, hks, hlf, hls, hsf, hsl, hmf, hrf, hty, hpa, hfr, hto, hcm⟩ := id O
  have hla := la_in hL.1
  have hlb := la_in hbL.1
  have rpl : ∀ j, rng (pl j) := fun j => by have := hplc j; omega
  have rpc : ∀ j, rng (pc j) := fun j => by have := hplc j; have := la_in (hplc j).1.1; omega
  have rkf : ∀ j, rng (kf j) := fun j => by have := hkf j; omega
  have rlf : ∀ j, rng (lf j) := fun j => by have := hlf j; omega
  have rmf : ∀ j, rng (mf j) := fun j => by have := hmf j; omega
  have gmf : ∀ j, -1 ≤ mf j := fun j => (hmf j).1
  refine V_iload_n C dX7_leads_0 rfl ?_
  refine V_callS C lk_X7_111 (m_X7_isMotion G (by omega)) dX7_leads_1 rfl rfl (by decide) (Nat.le_of_ble_eq_true rfl) (kO ?_)
  refine V_if_eqB (tgt := 25) C dX7_leads_4 (by decide) (fun c_4 => ?_) (fun c_4 => ?_)
  · skip
    refine V_iconst C dX7_leads_25 ?_
    exact V_iret C R dX7_leads_26 (zO_i (by first | rw [if_neg (by omega)] | rw [if_pos (by omega)]))
  · skip
    refine V_iload_n C dX7_leads_7 rfl ?_
    refine V_if_lt (tgt := 25) C dX7_leads_8 (by decide) (by omega) (fun c_8 => ?_) (fun c_8 => ?_)
    · skip
      refine V_iconst C dX7_leads_25 ?_
      exact V_iret C R dX7_leads_26 (zO_i (by first | rw [if_neg (by omega)] | rw [if_pos (by omega)]))
    · skip
      refine V_iload_n C dX7_leads_11 rfl ?_
      refine V_aload_n C dX7_leads_12 rfl ?_
      refine vg_X7_16 C dX7_leads_13 rfl rfl ?_
      refine vg_X7_49 C dX7_leads_16 rfl rfl ?_
      refine vg_X7_53 C dX7_leads_19 rfl rfl ?_
      refine V_icmp_le (tgt := 27) C dX7_leads_22 (by decide) (by omega) (by omega) (fun c_22 => ?_) (fun c_22 => ?_)
      · skip
        refine V_aload_n C dX7_leads_27 rfl ?_
        refine vg_X7_16 C dX7_leads_28 rfl rfl ?_
        refine vg_X7_49 C dX7_leads_31 rfl rfl ?_
        refine V_iload_n C dX7_leads_34 rfl ?_
        refine V_iload_n C dX7_leads_35 rfl ?_
        refine V_callN C lk_X7_117 (m_X5_lead G (i := 1) (j := 2) ⟨rfl, rfl, hf, by omega, by omega⟩ (by omega) (by omega)) dX7_leads_36 rfl rfl rfl rfl (by decide) (Nat.le_of_ble_eq_true rfl) (kO ?_)
        exact V_iret C R dX7_leads_39 (zO_i (by first | rw [if_neg (by omega)] | rw [if_pos (by omega)]))
      · skip
        refine V_iconst C dX7_leads_25 ?_
        exact V_iret C R dX7_leads_26 (zO_i (by first | rw [if_neg (by omega)] | rw [if_pos (by omega)]))

set_option maxRecDepth 100000 in
theorem m_X7_once (G : zG) {f bf pf pl pc k kf lf sf mf rf f2 bf2 pf2 pl2 pc2 k2 kf2 lf2 sf2 mf2 rf2 : Int → Int} {L c bL bc nx sz ks ls sl ty pla fro to L2 c2 bL2 bc2 nx2 sz2 ks2 ls2 sl2 ty2 pla2 fro2 to2 : Int} {rest : List va_E} {tp : Int → Int} {td hi : Int} {g : Int → Int → Int} {ln sn : Int → Int} {p : Int} (hp : rng p) (O : okD f L c bf bL bc pf pl pc nx sz k kf ks lf ls sf sl mf rf ty pla fro to) : zMet G yX7_once cX7_once 4 (some .int) 4 93 [.ref (G.ad 34), .int (iI p)] (dkL G f L c bf bL bc pf pl pc nx sz k kf ks lf ls sf sl mf rf ty pla fro to ++ (kpL G f2 L2 c2 bf2 bL2 bc2 pf2 pl2 pc2 nx2 sz2 k2 kf2 ks2 lf2 ls2 sf2 sl2 mf2 rf2 ty2 pla2 fro2 to2 ++ (mkL G tp td hi g ln sn ++ rest))) (zO (.int (iI (if 0 ≤ p ∧ p ≤ la L then bsN (fun j => decide (dd f L j (min c (la L)) = p)) 7 else -1))) (dkL G f L c bf bL bc pf pl pc nx sz k kf ks lf ls sf sl mf rf ty pla fro to ++ (kpL G f2 L2 c2 bf2 bL2 bc2 pf2 pl2 pc2 nx2 sz2 k2 kf2 ks2 lf2 ls2 sf2 sl2 mf2 rf2 ty2 pla2 fro2 to2 ++ (mkL G tp td hi g ln sn ++ rest)))) := by
  refine zMet.of (by decide) (Nat.le_of_ble_eq_true rfl) ?_
  intro E C R
  have C : zC G E RX7 cX7_once 4 4 93 := C
  show V G E 0 [some (.ref (G.ad 34)), some (.int (iI p)), none, none] [] (dkL G f L c bf bL bc pf pl pc nx sz k kf ks lf ls sf sl mf rf ty pla fro to ++ (kpL G f2 L2 c2 bf2 bL2 bc2 pf2 pl2 pc2 nx2 sz2 k2 kf2 ks2 lf2 ls2 sf2 sl2 mf2 rf2 ty2 pla2 fro2 to2 ++ (mkL G tp td hi g ln sn ++ rest)))
  obtain ⟨hf, hL, hc, hbf, hbL, hbc, hpf, hplc, hnx, hsz, hk, hk3, hk4, hkf, hks, hlf, hls, hsf, hsl, hmf, hrf, hty, hpa, hfr, hto, hcm⟩ := id O
  have hla := la_in hL.1
  have hlb := la_in hbL.1
  have rpl : ∀ j, rng (pl j) := fun j => by have := hplc j; omega
  have rpc : ∀ j, rng (pc j) := fun j => by have := hplc j; have := la_in (hplc j).1.1; omega
  have rkf : ∀ j, rng (kf j) := fun j => by have := hkf j; omega
  have rlf : ∀ j, rng (lf j) := fun j => by have := hlf j; omega
  have rmf : ∀ j, rng (mf j) := fun j => by have := hmf j; omega
  have gmf : ∀ j, -1 ≤ mf j := fun j => (hmf j).1
  refine V_aload_n C dX7_once_0 rfl ?_
  refine vg_X7_16 C dX7_once_1 rfl rfl ?_
  refine vg_X7_49 C dX7_once_4 rfl rfl ?_
  refine V_iload_n C dX7_once_7 rfl ?_
  refine V_callN C lk_X7_121 (m_X5_canStand G (i := 1) (j := 2) ⟨rfl, rfl, hf, by omega, by omega⟩ hp) dX7_once_8 rfl rfl rfl rfl (by decide) (Nat.le_of_ble_eq_true rfl) (kO ?_)
  refine V_if_neB (tgt := 16) C dX7_once_11 (by decide) (fun c_11 => ?_) (fun c_11 => ?_)
  · skip
    refine V_iconst C dX7_once_16 ?_
    refine V_istore_n C dX7_once_17 (by decide) rfl ?_
    refine V_iconst C dX7_once_18 ?_
    refine V_istore_n C dX7_once_19 (by decide) rfl ?_
    refine V_loop (α := Nat) (fun x => 10 - x) (fun x => x ≤ 7) (fun x => V G E 20 [some (.ref (G.ad 34)), some (.int (iI p)), some (.int (iI (bsN (fun j => decide (dd f L j (min c (la L)) = p)) x))), some (.int (iI (x : Int)))] [] (dkL G f L c bf bL bc pf pl pc nx sz k kf ks lf ls sf sl mf rf ty pla fro to ++ (kpL G f2 L2 c2 bf2 bL2 bc2 pf2 pl2 pc2 nx2 sz2 k2 kf2 ks2 lf2 ls2 sf2 sl2 mf2 rf2 ty2 pla2 fro2 to2 ++ (mkL G tp td hi g ln sn ++ rest)))) ?_ 0 (by omega)
    rintro q g1 ih_20
    have hb := bsN_in (fun j => decide (dd f L j (min c (la L)) = p)) q
    have hdd := dd_in (f := f) (L := L) (m := (q : Int)) (p := min c (la L)) (by omega) (by omega)
    refine V_iload_n C dX7_once_20 rfl ?_
    refine V_bipush C dX7_once_21 (by decide) ?_
    refine V_icmp_ge (tgt := 63) C dX7_once_23 (by decide) (by omega) (by omega) (fun c_23 => ?_) (fun c_23 => ?_)
    · skip
      refine V_iload_n C dX7_once_63 rfl ?_
      exact V_iret C R dX7_once_64 (zO_i (by rw [if_pos (by omega), show q = 7 by omega]))
    · skip
      refine V_aload_n C dX7_once_26 rfl ?_
      refine vg_X7_16 C dX7_once_27 rfl rfl ?_
      refine vg_X7_49 C dX7_once_30 rfl rfl ?_
      refine V_iload_n C dX7_once_33 rfl ?_
      refine V_aload_n C dX7_once_34 rfl ?_
      refine vg_X7_16 C dX7_once_35 rfl rfl ?_
      refine vg_X7_49 C dX7_once_38 rfl rfl ?_
      refine V_callN C lk_X7_135 (m_X5_standing G (i := 1) (j := 2) ⟨rfl, rfl, hf, by omega, by omega⟩ (by omega)) dX7_once_41 rfl rfl rfl rfl (by decide) (Nat.le_of_ble_eq_true rfl) (kO ?_)
      refine V_callN C lk_X7_145 (m_X5_deed G (i := 1) (j := 2) ⟨rfl, rfl, hf, by omega, by omega⟩ (by omega) (by omega)) dX7_once_44 rfl rfl rfl rfl (by decide) (Nat.le_of_ble_eq_true rfl) (kO ?_)
      refine V_iload_n C dX7_once_47 rfl ?_
      refine V_icmp_ne (tgt := 57) C dX7_once_48 (by decide) (by omega) (by omega) (fun c_48 => ?_) (fun c_48 => ?_)
      · skip
        refine V_iinc C dX7_once_57 rfl (by decide) rfl ?_
        refine V_goto (tgt := 20) C dX7_once_60 (by decide) ?_
        have e1 : bsN (fun j => decide (dd f L j (min c (la L)) = p)) (q + 1) = _ := bsN.eq_2 _ _
        first
          | (rw [if_pos (by simpa using c_48)] at e1; rw [← e1]; exact ih_20 (q + 1) (by omega) (by omega))
          | (rw [if_neg (by simpa using c_48), Int.add_zero] at e1; rw [← e1]; exact ih_20 (q + 1) (by omega) (by omega))
      · skip
        refine V_iload_n C dX7_once_51 rfl ?_
        refine V_iconst C dX7_once_52 ?_
        refine V_iload_n C dX7_once_53 rfl ?_
        refine V_ishl (z := _) C dX7_once_54 (iI_of _).symm ?_
        refine V_ior (z := bsN (fun j => decide (dd f L j (min c (la L)) = p)) q + 2 ^ q) C dX7_once_55 (by rw [iI_of]; exact bs_or2 (by omega) hb.1 hb.2 (bs_lt _ (by omega))) ?_
        refine V_istore_n C dX7_once_56 (by decide) rfl ?_
        refine V_iinc C dX7_once_57 rfl (by decide) rfl ?_
        refine V_goto (tgt := 20) C dX7_once_60 (by decide) ?_
        have e1 : bsN (fun j => decide (dd f L j (min c (la L)) = p)) (q + 1) = _ := bsN.eq_2 _ _
        first
          | (rw [if_pos (by simpa using c_48)] at e1; rw [← e1]; exact ih_20 (q + 1) (by omega) (by omega))
          | (rw [if_neg (by simpa using c_48), Int.add_zero] at e1; rw [← e1]; exact ih_20 (q + 1) (by omega) (by omega))
  · skip
    refine V_iconst C dX7_once_14 ?_
    exact V_iret C R dX7_once_15 (zO_i (by rw [if_neg (by omega)]))

set_option maxRecDepth 100000 in
theorem m_X7_goes (G : zG) {f bf pf pl pc k kf lf sf mf rf f2 bf2 pf2 pl2 pc2 k2 kf2 lf2 sf2 mf2 rf2 : Int → Int} {L c bL bc nx sz ks ls sl ty pla fro to L2 c2 bL2 bc2 nx2 sz2 ks2 ls2 sl2 ty2 pla2 fro2 to2 : Int} {rest : List va_E} {tp : Int → Int} {td hi : Int} {g : Int → Int → Int} {ln sn : Int → Int} {p n : Int} (hp : rng p) (hn : rng n) (O : okD f L c bf bL bc pf pl pc nx sz k kf ks lf ls sf sl mf rf ty pla fro to) : zMet G yX7_goes cX7_goes 3 (some .int) 4 96 [.ref (G.ad 34), .int (iI p), .int (iI n)] (dkL G f L c bf bL bc pf pl pc nx sz k kf ks lf ls sf sl mf rf ty pla fro to ++ (kpL G f2 L2 c2 bf2 bL2 bc2 pf2 pl2 pc2 nx2 sz2 k2 kf2 ks2 lf2 ls2 sf2 sl2 mf2 rf2 ty2 pla2 fro2 to2 ++ (mkL G tp td hi g ln sn ++ rest))) (fun r cs2 => (¬ ((0 ≤ p ∧ p < 7) ∧ 1 ≤ n ∧ n ≤ 99) ∧ zO (.int (iI (-1))) (dkL G f L c bf bL bc pf pl pc nx sz k kf ks lf ls sf sl mf rf ty pla fro to ++ (kpL G f2 L2 c2 bf2 bL2 bc2 pf2 pl2 pc2 nx2 sz2 k2 kf2 ks2 lf2 ls2 sf2 sl2 mf2 rf2 ty2 pla2 fro2 to2 ++ (mkL G tp td hi g ln sn ++ rest))) r cs2) ∨ (((0 ≤ p ∧ p < 7) ∧ 1 ≤ n ∧ n ≤ 99) ∧ zO (.int (iI (aMt L c (plc f L c mf p n 0) p to - aMf L c (plc f L c mf p n 0) p fro))) (dkL G f L c bf bL bc pf pl pc nx sz k kf ks lf ls sf sl mf rf ty (aMp (plc f L c mf p n 0) p) (aMf L c (plc f L c mf p n 0) p fro) (aMt L c (plc f L c mf p n 0) p to) ++ (kpL G f2 L2 c2 bf2 bL2 bc2 pf2 pl2 pc2 nx2 sz2 k2 kf2 ks2 lf2 ls2 sf2 sl2 mf2 rf2 ty2 pla2 fro2 to2 ++ (mkL G tp td hi g ln sn ++ rest))) r cs2)) := by
  refine zMet.of (by decide) (Nat.le_of_ble_eq_true rfl) ?_
  intro E C R
  have C : zC G E RX7 cX7_goes 3 4 96 := C
  show V G E 0 [some (.ref (G.ad 34)), some (.int (iI p)), some (.int (iI n))] [] (dkL G f L c bf bL bc pf pl pc nx sz k kf ks lf ls sf sl mf rf ty pla fro to ++ (kpL G f2 L2 c2 bf2 bL2 bc2 pf2 pl2 pc2 nx2 sz2 k2 kf2 ks2 lf2 ls2 sf2 sl2 mf2 rf2 ty2 pla2 fro2 to2 ++ (mkL G tp td hi g ln sn ++ rest)))
  obtain ⟨hf, hL, hc, hbf, hbL, hbc, hpf, hplc, hnx, hsz, hk, hk3, hk4, hkf, hks, hlf, hls, hsf, hsl, hmf, hrf, hty, hpa, hfr, hto, hcm⟩ := id O
  have hla := la_in hL.1
  have hlb := la_in hbL.1
  have rpl : ∀ j, rng (pl j) := fun j => by have := hplc j; omega
  have rpc : ∀ j, rng (pc j) := fun j => by have := hplc j; have := la_in (hplc j).1.1; omega
  have rkf : ∀ j, rng (kf j) := fun j => by have := hkf j; omega
  have rlf : ∀ j, rng (lf j) := fun j => by have := hlf j; omega
  have rmf : ∀ j, rng (mf j) := fun j => by have := hmf j; omega
  have gmf : ∀ j, -1 ≤ mf j := fun j => (hmf j).1
  refine V_iload_n C dX7_goes_0 rfl ?_
  refine V_callS C lk_X7_111 (m_X7_isMotion G (by omega)) dX7_goes_1 rfl rfl (by decide) (Nat.le_of_ble_eq_true rfl) (kO ?_)
  refine V_if_eqB (tgt := 18) C dX7_goes_4 (by decide) (fun c_4 => ?_) (fun c_4 => ?_)
  · skip
    refine V_iconst C dX7_goes_18 ?_
    exact V_iret C R dX7_goes_19 (Or.inl ⟨by omega, rfl, rfl⟩)
  · skip
    refine V_iload_n C dX7_goes_7 rfl ?_
    refine V_iconst C dX7_goes_8 ?_
    refine V_icmp_lt (tgt := 18) C dX7_goes_9 (by decide) (by omega) (by omega) (fun c_9 => ?_) (fun c_9 => ?_)
    · skip
      refine V_iconst C dX7_goes_18 ?_
      exact V_iret C R dX7_goes_19 (Or.inl ⟨by omega, rfl, rfl⟩)
    · skip
      refine V_iload_n C dX7_goes_12 rfl ?_
      refine V_bipush C dX7_goes_13 (by decide) ?_
      refine V_icmp_le (tgt := 20) C dX7_goes_15 (by decide) (by omega) (by omega) (fun c_15 => ?_) (fun c_15 => ?_)
      · skip
        refine V_aload_n C dX7_goes_20 rfl ?_
        refine vg_X7_16 C dX7_goes_21 rfl rfl ?_
        refine V_iload_n C dX7_goes_24 rfl ?_
        refine V_iload_n C dX7_goes_25 rfl ?_
        refine V_iconst C dX7_goes_26 ?_
        refine V_callN C lk_X7_148 (m_X1_aimByMotion G hf hL (by omega) (by omega) (by omega) (by decide) rmf gmf) dX7_goes_27 rfl rfl rfl rfl (by decide) (Nat.le_of_ble_eq_true rfl) (kO ?_)
        refine V_pop C dX7_goes_30 rfl ?_
        refine V_aload_n C dX7_goes_31 rfl ?_
        refine vg_X7_16 C dX7_goes_32 rfl rfl ?_
        refine vg_X7_152 C dX7_goes_35 rfl rfl ?_
        refine V_aload_n C dX7_goes_38 rfl ?_
        refine vg_X7_16 C dX7_goes_39 rfl rfl ?_
        refine vg_X7_155 C dX7_goes_42 rfl rfl ?_
        refine V_isub C dX7_goes_45 ?_
        exact V_iret C R dX7_goes_46 (Or.inr ⟨by omega, rfl, rfl⟩)
      · skip
        refine V_iconst C dX7_goes_18 ?_
        exact V_iret C R dX7_goes_19 (Or.inl ⟨by omega, rfl, rfl⟩)

set_option maxRecDepth 100000 in
theorem m_X7_image (G : zG) {f bf pf pl pc k kf lf sf mf rf f2 bf2 pf2 pl2 pc2 k2 kf2 lf2 sf2 mf2 rf2 : Int → Int} {L c bL bc nx sz ks ls sl ty pla fro to L2 c2 bL2 bc2 nx2 sz2 ks2 ls2 sl2 ty2 pla2 fro2 to2 : Int} {rest : List va_E} {tp : Int → Int} {td hi : Int} {g : Int → Int → Int} {ln sn : Int → Int} (O : okD f L c bf bL bc pf pl pc nx sz k kf ks lf ls sf sl mf rf ty pla fro to) (O2 : okD f2 L2 c2 bf2 bL2 bc2 pf2 pl2 pc2 nx2 sz2 k2 kf2 ks2 lf2 ls2 sf2 sl2 mf2 rf2 ty2 pla2 fro2 to2) (hk7 : k 7 = 0 ∨ k 7 = 1) : zMet G yX7_image cX7_image 1 (some .int) 4 89 [.ref (G.ad 34)] (dkL G f L c bf bL bc pf pl pc nx sz k kf ks lf ls sf sl mf rf ty pla fro to ++ (kpL G f2 L2 c2 bf2 bL2 bc2 pf2 pl2 pc2 nx2 sz2 k2 kf2 ks2 lf2 ls2 sf2 sl2 mf2 rf2 ty2 pla2 fro2 to2 ++ (mkL G tp td hi g ln sn ++ rest))) (zO (.int (iI 1)) (dkL G f L c bf bL bc pf pl pc nx sz k kf ks lf ls sf sl mf rf ty pla fro to ++ (kpL G (zcp f f2 0 0 60) (L) (c) (zcp bf bf2 0 0 60) (bL) (bc) (zcp pf pf2 0 0 480) (zcp pl pl2 0 0 8) (zcp pc pc2 0 0 8) (nx) (sz) (k) (zcp kf kf2 0 0 30) (ks) (zcp lf lf2 0 0 30) (ls) (zcp sf sf2 0 0 60) (sl) (zcp mf mf2 0 0 4) (zcp rf rf2 0 0 7) (ty) pla2 fro2 to2 ++ (mkL G tp td (1) g ln sn ++ rest)))) := by
  refine zMet.of (by decide) (Nat.le_of_ble_eq_true rfl) ?_
  intro E C R
  have C : zC G E RX7 cX7_image 1 4 89 := C
  show V G E 0 [some (.ref (G.ad 34))] [] (dkL G f L c bf bL bc pf pl pc nx sz k kf ks lf ls sf sl mf rf ty pla fro to ++ (kpL G f2 L2 c2 bf2 bL2 bc2 pf2 pl2 pc2 nx2 sz2 k2 kf2 ks2 lf2 ls2 sf2 sl2 mf2 rf2 ty2 pla2 fro2 to2 ++ (mkL G tp td hi g ln sn ++ rest)))
  refine V_aload_n C dX7_image_0 rfl ?_
  refine vg_X7_20 C dX7_image_1 rfl rfl ?_
  refine V_aload_n C dX7_image_4 rfl ?_
  refine vg_X7_16 C dX7_image_5 rfl rfl ?_
  refine V_callN C lk_X7_162 (m_X1_become_kept G O O2 hk7) dX7_image_8 rfl rfl rfl rfl (by decide) (Nat.le_of_ble_eq_true rfl) (kO0 ?_)
  refine V_aload_n C dX7_image_11 rfl ?_
  refine V_iconst C dX7_image_12 ?_
  refine vp_X7_166 C dX7_image_13 rfl (Nat.le_of_ble_eq_true rfl) (by decide) ?_
  refine V_iconst C dX7_image_16 ?_
  exact V_iret C R dX7_image_17 ⟨rfl, rfl⟩

set_option maxRecDepth 100000 in
theorem m_X7_restore (G : zG) {f bf pf pl pc k kf lf sf mf rf f2 bf2 pf2 pl2 pc2 k2 kf2 lf2 sf2 mf2 rf2 : Int → Int} {L c bL bc nx sz ks ls sl ty pla fro to L2 c2 bL2 bc2 nx2 sz2 ks2 ls2 sl2 ty2 pla2 fro2 to2 : Int} {rest : List va_E} {tp : Int → Int} {td hi : Int} {g : Int → Int → Int} {ln sn : Int → Int} (O : okD f L c bf bL bc pf pl pc nx sz k kf ks lf ls sf sl mf rf ty pla fro to) (O2 : okD f2 L2 c2 bf2 bL2 bc2 pf2 pl2 pc2 nx2 sz2 k2 kf2 ks2 lf2 ls2 sf2 sl2 mf2 rf2 ty2 pla2 fro2 to2) (hk7 : k2 7 = 0 ∨ k2 7 = 1) (hh : rng hi) : zMet G yX7_restore cX7_restore 1 (some .int) 4 89 [.ref (G.ad 34)] (dkL G f L c bf bL bc pf pl pc nx sz k kf ks lf ls sf sl mf rf ty pla fro to ++ (kpL G f2 L2 c2 bf2 bL2 bc2 pf2 pl2 pc2 nx2 sz2 k2 kf2 ks2 lf2 ls2 sf2 sl2 mf2 rf2 ty2 pla2 fro2 to2 ++ (mkL G tp td hi g ln sn ++ rest))) (fun r cs2 => (hi = 0 ∧ zO (.int (iI (-4))) (dkL G f L c bf bL bc pf pl pc nx sz k kf ks lf ls sf sl mf rf ty pla fro to ++ (kpL G f2 L2 c2 bf2 bL2 bc2 pf2 pl2 pc2 nx2 sz2 k2 kf2 ks2 lf2 ls2 sf2 sl2 mf2 rf2 ty2 pla2 fro2 to2 ++ (mkL G tp td hi g ln sn ++ rest))) r cs2) ∨ (hi ≠ 0 ∧ zO (.int (iI 1)) (dkL G (zcp f2 f 0 0 60) (L2) (c2) (zcp bf2 bf 0 0 60) (bL2) (bc2) (zcp pf2 pf 0 0 480) (zcp pl2 pl 0 0 8) (zcp pc2 pc 0 0 8) (nx2) (sz2) (k2) (zcp kf2 kf 0 0 30) (ks2) (zcp lf2 lf 0 0 30) (ls2) (zcp sf2 sf 0 0 60) (sl2) (zcp mf2 mf 0 0 4) (zcp rf2 rf 0 0 7) (ty2) pla fro to ++ (kpL G f2 L2 c2 bf2 bL2 bc2 pf2 pl2 pc2 nx2 sz2 k2 kf2 ks2 lf2 ls2 sf2 sl2 mf2 rf2 ty2 pla2 fro2 to2 ++ (mkL G tp td hi g ln sn ++ rest))) r cs2)) := by
  refine zMet.of (by decide) (Nat.le_of_ble_eq_true rfl) ?_
  intro E C R
  have C : zC G E RX7 cX7_restore 1 4 89 := C
  show V G E 0 [some (.ref (G.ad 34))] [] (dkL G f L c bf bL bc pf pl pc nx sz k kf ks lf ls sf sl mf rf ty pla fro to ++ (kpL G f2 L2 c2 bf2 bL2 bc2 pf2 pl2 pc2 nx2 sz2 k2 kf2 ks2 lf2 ls2 sf2 sl2 mf2 rf2 ty2 pla2 fro2 to2 ++ (mkL G tp td hi g ln sn ++ rest)))
  refine V_aload_n C dX7_restore_0 rfl ?_
  refine vg_X7_166 C dX7_restore_1 rfl rfl ?_
  refine V_if_ne (tgt := 10) C dX7_restore_4 (by decide) (by omega) (fun c_4 => ?_) (fun c_4 => ?_)
  · skip
    refine V_aload_n C dX7_restore_10 rfl ?_
    refine vg_X7_16 C dX7_restore_11 rfl rfl ?_
    refine V_aload_n C dX7_restore_14 rfl ?_
    refine vg_X7_20 C dX7_restore_15 rfl rfl ?_
    refine V_callN C lk_X7_162 (m_X1_become_get G O O2 hk7) dX7_restore_18 rfl rfl rfl rfl (by decide) (Nat.le_of_ble_eq_true rfl) (kO0 ?_)
    refine V_iconst C dX7_restore_21 ?_
    exact V_iret C R dX7_restore_22 (Or.inr ⟨by omega, rfl, rfl⟩)
  · skip
    refine V_bipush C dX7_restore_7 (by decide) ?_
    exact V_iret C R dX7_restore_9 (Or.inl ⟨by omega, rfl, rfl⟩)
