/-! ===== ModalKeys: sheets ===== -/
set_option maxRecDepth 100000 in
theorem m_X7_sheet (G : zG) {f bf pf pl pc k kf lf sf mf rf f2 bf2 pf2 pl2 pc2 k2 kf2 lf2 sf2 mf2 rf2 : Int → Int} {L c bL bc nx sz ks ls sl ty pla fro to L2 c2 bL2 bc2 nx2 sz2 ks2 ls2 sl2 ty2 pla2 fro2 to2 : Int} {rest : List va_E} {tp : Int → Int} {td hi : Int} {g : Int → Int → Int} {ln sn : Int → Int} {s a n : Int} (h1 : rng s) (h2 : rng a) (h3 : rng n) (hs : okS g ln sn) : zMet G yX7_sheet cX7_sheet 5 (some .int) 2 46 [.ref (G.ad 34), .int (iI s), .int (iI a), .int (iI n)] (dkL G f L c bf bL bc pf pl pc nx sz k kf ks lf ls sf sl mf rf ty pla fro to ++ (kpL G f2 L2 c2 bf2 bL2 bc2 pf2 pl2 pc2 nx2 sz2 k2 kf2 ks2 lf2 ls2 sf2 sl2 mf2 rf2 ty2 pla2 fro2 to2 ++ (mkL G tp td hi g ln sn ++ rest))) (zO (.int (iI (if ¬ ((0 ≤ s ∧ s < 4) ∧ (0 ≤ a ∧ a < 4) ∧ n ≤ 24) then -1 else if n < 0 then -14 else n))) (if ((0 ≤ s ∧ s < 4) ∧ (0 ≤ a ∧ a < 4) ∧ n ≤ 24) ∧ 0 ≤ n then (dkL G f L c bf bL bc pf pl pc nx sz k kf ks lf ls sf sl mf rf ty pla fro to ++ (kpL G f2 L2 c2 bf2 bL2 bc2 pf2 pl2 pc2 nx2 sz2 k2 kf2 ks2 lf2 ls2 sf2 sl2 mf2 rf2 ty2 pla2 fro2 to2 ++ (mkL G tp td hi (gup g s (ovr (g s) 0 24 0)) (zup ln s (a)) (zup sn s (n)) ++ rest))) else (dkL G f L c bf bL bc pf pl pc nx sz k kf ks lf ls sf sl mf rf ty pla fro to ++ (kpL G f2 L2 c2 bf2 bL2 bc2 pf2 pl2 pc2 nx2 sz2 k2 kf2 ks2 lf2 ls2 sf2 sl2 mf2 rf2 ty2 pla2 fro2 to2 ++ (mkL G tp td hi g ln sn ++ rest))))) := by
  refine zMet.of (by decide) (Nat.le_of_ble_eq_true rfl) ?_
  intro E C R
  have C : zC G E RX7 cX7_sheet 5 2 46 := C
  show V G E 0 [some (.ref (G.ad 34)), some (.int (iI s)), some (.int (iI a)), some (.int (iI n)), none] [] (dkL G f L c bf bL bc pf pl pc nx sz k kf ks lf ls sf sl mf rf ty pla fro to ++ (kpL G f2 L2 c2 bf2 bL2 bc2 pf2 pl2 pc2 nx2 sz2 k2 kf2 ks2 lf2 ls2 sf2 sl2 mf2 rf2 ty2 pla2 fro2 to2 ++ (mkL G tp td hi g ln sn ++ rest)))
  have hS := mk_S G (rest := rest) (f := f) (L := L) (c := c) (bf := bf) (bL := bL) (bc := bc) (pf := pf) (pl := pl) (pc := pc) (nx := nx) (sz := sz) (k := k) (kf := kf) (ks := ks) (lf := lf) (ls := ls) (sf := sf) (sl := sl) (mf := mf) (rf := rf) (ty := ty) (pla := pla) (fro := fro) (to := to) (f2 := f2) (L2 := L2) (c2 := c2) (bf2 := bf2) (bL2 := bL2) (bc2 := bc2) (pf2 := pf2) (pl2 := pl2) (pc2 := pc2) (nx2 := nx2) (sz2 := sz2) (k2 := k2) (kf2 := kf2) (ks2 := ks2) (lf2 := lf2) (ls2 := ls2) (sf2 := sf2) (sl2 := sl2) (mf2 := mf2) (rf2 := rf2) (ty2 := ty2) (pla2 := pla2) (fro2 := fro2) (to2 := to2) (tp := tp) (td := td) (hi := hi) (g := g) (ln := ln) (sn := sn) hs
  have hs9 := hs s
  refine V_aload_n C dX7_sheet_0 rfl ?_
  refine V_iload_n C dX7_sheet_1 rfl ?_
  refine V_callV C lk_X7_169 (m_X7_sheetAt G (td := td) (hi := hi) rfl rfl (by omega)) dX7_sheet_2 rfl rfl (by first | exact (hS _ (by omega) (by omega)).1 | exact (hS _ (by omega) (by omega)).2.1 | rfl) rfl (by decide) (Nat.le_of_ble_eq_true rfl) (kOr (fun hs1 => ?_) (fun hs1 => ?_))
  · skip
    refine V_astore C dX7_sheet_5 (by decide) rfl ?_
    refine V_aload C dX7_sheet_7 rfl ?_
    refine V_ifnull C dX7_sheet_9 ?_
    refine V_iload_n C dX7_sheet_12 rfl ?_
    refine V_callS C lk_X7_173 (m_X7_isLane G (by omega)) dX7_sheet_13 rfl rfl (by decide) (Nat.le_of_ble_eq_true rfl) (kO ?_)
    refine V_if_eqB (tgt := 25) C dX7_sheet_16 (by decide) (fun c_16 => ?_) (fun c_16 => ?_)
    · skip
      refine V_iconst C dX7_sheet_25 ?_
      exact V_iret C R dX7_sheet_26 (zO_ic (by rw [if_pos (by omega)]) (by rw [if_neg (by omega)]))
    · skip
      refine V_iload_n C dX7_sheet_19 rfl ?_
      refine V_bipush C dX7_sheet_20 (by decide) ?_
      refine V_icmp_le (tgt := 27) C dX7_sheet_22 (by decide) (by omega) (by omega) (fun c_22 => ?_) (fun c_22 => ?_)
      · skip
        refine V_iload_n C dX7_sheet_27 rfl ?_
        refine V_if_ge (tgt := 34) C dX7_sheet_28 (by decide) (by omega) (fun c_28 => ?_) (fun c_28 => ?_)
        · skip
          refine V_aload C dX7_sheet_34 rfl ?_
          refine V_iload_n C dX7_sheet_36 rfl ?_
          refine V_iload_n C dX7_sheet_37 rfl ?_
          refine V_callN C lk_X7_194 (m_X4_hold G (hS s (by omega) (by omega))) dX7_sheet_38 rfl rfl (by first | exact (hS _ (by omega) (by omega)).1 | exact (hS _ (by omega) (by omega)).2.1 | rfl) rfl (by decide) (Nat.le_of_ble_eq_true rfl) (kO0 ?_)
          refine V_iload_n C dX7_sheet_41 rfl ?_
          exact V_iret C R dX7_sheet_42 (zO_ic (by rw [if_neg (by omega), if_neg (by omega)]) (by rw [if_pos (by omega)]; exact mk_to G (by omega) (by omega)))
        · skip
          refine V_bipush C dX7_sheet_31 (by decide) ?_
          exact V_iret C R dX7_sheet_33 (zO_ic (by rw [if_neg (by omega), if_pos (by omega)]) (by rw [if_neg (by omega)]))
      · skip
        refine V_iconst C dX7_sheet_25 ?_
        exact V_iret C R dX7_sheet_26 (zO_ic (by rw [if_pos (by omega)]) (by rw [if_neg (by omega)]))
  · skip
    refine V_astoreN C dX7_sheet_5 (by decide) rfl ?_
    refine V_aloadN C dX7_sheet_7 rfl ?_
    refine V_ifnullN (tgt := 25) C dX7_sheet_9 (by decide) ?_
    refine V_iconst C dX7_sheet_25 ?_
    exact V_iret C R dX7_sheet_26 (zO_ic (by rw [if_pos (by omega)]) (by rw [if_neg (by omega)]))

set_option maxRecDepth 100000 in
theorem m_X7_drop (G : zG) {f bf pf pl pc k kf lf sf mf rf f2 bf2 pf2 pl2 pc2 k2 kf2 lf2 sf2 mf2 rf2 : Int → Int} {L c bL bc nx sz ks ls sl ty pla fro to L2 c2 bL2 bc2 nx2 sz2 ks2 ls2 sl2 ty2 pla2 fro2 to2 : Int} {rest : List va_E} {tp : Int → Int} {td hi : Int} {g : Int → Int → Int} {ln sn : Int → Int} {s : Int} (h1 : rng s) (hs : okS g ln sn) : zMet G yX7_drop cX7_drop 4 (some .int) 2 46 [.ref (G.ad 34), .int (iI s)] (dkL G f L c bf bL bc pf pl pc nx sz k kf ks lf ls sf sl mf rf ty pla fro to ++ (kpL G f2 L2 c2 bf2 bL2 bc2 pf2 pl2 pc2 nx2 sz2 k2 kf2 ks2 lf2 ls2 sf2 sl2 mf2 rf2 ty2 pla2 fro2 to2 ++ (mkL G tp td hi g ln sn ++ rest))) (zO (.int (iI (if ¬ (0 ≤ s ∧ s < 4) then -1 else if ln s = -1 then -11 else sn s))) (if (0 ≤ s ∧ s < 4) ∧ ln s ≠ -1 then (dkL G f L c bf bL bc pf pl pc nx sz k kf ks lf ls sf sl mf rf ty pla fro to ++ (kpL G f2 L2 c2 bf2 bL2 bc2 pf2 pl2 pc2 nx2 sz2 k2 kf2 ks2 lf2 ls2 sf2 sl2 mf2 rf2 ty2 pla2 fro2 to2 ++ (mkL G tp td hi (gup g s (ovr (g s) 0 24 0)) (zup ln s (-1)) (zup sn s (0)) ++ rest))) else (dkL G f L c bf bL bc pf pl pc nx sz k kf ks lf ls sf sl mf rf ty pla fro to ++ (kpL G f2 L2 c2 bf2 bL2 bc2 pf2 pl2 pc2 nx2 sz2 k2 kf2 ks2 lf2 ls2 sf2 sl2 mf2 rf2 ty2 pla2 fro2 to2 ++ (mkL G tp td hi g ln sn ++ rest))))) := by
  refine zMet.of (by decide) (Nat.le_of_ble_eq_true rfl) ?_
  intro E C R
  have C : zC G E RX7 cX7_drop 4 2 46 := C
  show V G E 0 [some (.ref (G.ad 34)), some (.int (iI s)), none, none] [] (dkL G f L c bf bL bc pf pl pc nx sz k kf ks lf ls sf sl mf rf ty pla fro to ++ (kpL G f2 L2 c2 bf2 bL2 bc2 pf2 pl2 pc2 nx2 sz2 k2 kf2 ks2 lf2 ls2 sf2 sl2 mf2 rf2 ty2 pla2 fro2 to2 ++ (mkL G tp td hi g ln sn ++ rest)))
  have hS := mk_S G (rest := rest) (f := f) (L := L) (c := c) (bf := bf) (bL := bL) (bc := bc) (pf := pf) (pl := pl) (pc := pc) (nx := nx) (sz := sz) (k := k) (kf := kf) (ks := ks) (lf := lf) (ls := ls) (sf := sf) (sl := sl) (mf := mf) (rf := rf) (ty := ty) (pla := pla) (fro := fro) (to := to) (f2 := f2) (L2 := L2) (c2 := c2) (bf2 := bf2) (bL2 := bL2) (bc2 := bc2) (pf2 := pf2) (pl2 := pl2) (pc2 := pc2) (nx2 := nx2) (sz2 := sz2) (k2 := k2) (kf2 := kf2) (ks2 := ks2) (lf2 := lf2) (ls2 := ls2) (sf2 := sf2) (sl2 := sl2) (mf2 := mf2) (rf2 := rf2) (ty2 := ty2) (pla2 := pla2) (fro2 := fro2) (to2 := to2) (tp := tp) (td := td) (hi := hi) (g := g) (ln := ln) (sn := sn) hs
  have hs9 := hs s
  refine V_aload_n C dX7_drop_0 rfl ?_
  refine V_iload_n C dX7_drop_1 rfl ?_
  refine V_callV C lk_X7_169 (m_X7_sheetAt G (td := td) (hi := hi) rfl rfl (by omega)) dX7_drop_2 rfl rfl (by first | exact (hS _ (by omega) (by omega)).1 | exact (hS _ (by omega) (by omega)).2.1 | rfl) rfl (by decide) (Nat.le_of_ble_eq_true rfl) (kOr (fun hs1 => ?_) (fun hs1 => ?_))
  · skip
    refine V_astore_n C dX7_drop_5 (by decide) rfl ?_
    refine V_aload_n C dX7_drop_6 rfl ?_
    refine V_ifnonnull (tgt := 12) C dX7_drop_7 (by decide) ?_
    refine V_aload_n C dX7_drop_12 rfl ?_
    refine V_callN C lk_X7_198 (m_X4_isNothing G (hS s (by omega) (by omega))) dX7_drop_13 rfl rfl (by first | exact (hS _ (by omega) (by omega)).1 | exact (hS _ (by omega) (by omega)).2.1 | rfl) rfl (by decide) (Nat.le_of_ble_eq_true rfl) (kO ?_)
    refine V_if_eqB (tgt := 22) C dX7_drop_16 (by decide) (fun c_16 => ?_) (fun c_16 => ?_)
    · skip
      refine V_aload_n C dX7_drop_22 rfl ?_
      refine vg_X7_201 C dX7_drop_23 (by first | exact (hS _ (by omega) (by omega)).1 | exact (hS _ (by omega) (by omega)).2.1 | rfl) rfl ?_
      refine V_istore_n C dX7_drop_26 (by decide) rfl ?_
      refine V_aload_n C dX7_drop_27 rfl ?_
      refine V_iconst C dX7_drop_28 ?_
      refine V_iconst C dX7_drop_29 ?_
      refine V_callN C lk_X7_194 (m_X4_hold G (hS s (by omega) (by omega))) dX7_drop_30 rfl rfl (by first | exact (hS _ (by omega) (by omega)).1 | exact (hS _ (by omega) (by omega)).2.1 | rfl) rfl (by decide) (Nat.le_of_ble_eq_true rfl) (kO0 ?_)
      refine V_iload_n C dX7_drop_33 rfl ?_
      exact V_iret C R dX7_drop_34 (zO_ic (by rw [if_neg (by omega), if_neg (by omega)]) (by rw [if_pos (by omega)]; exact mk_to G (by omega) (by omega)))
    · skip
      refine V_bipush C dX7_drop_19 (by decide) ?_
      exact V_iret C R dX7_drop_21 (zO_ic (by rw [if_neg (by omega), if_pos (by omega)]) (by rw [if_neg (by omega)]))
  · skip
    refine V_astore_nN C dX7_drop_5 (by decide) rfl ?_
    refine V_aload_nN C dX7_drop_6 rfl ?_
    refine V_ifnonnullN C dX7_drop_7 ?_
    refine V_iconst C dX7_drop_10 ?_
    exact V_iret C R dX7_drop_11 (zO_ic (by rw [if_pos (by omega)]) (by rw [if_neg (by omega)]))

set_option maxRecDepth 100000 in
theorem m_X7_item (G : zG) {f bf pf pl pc k kf lf sf mf rf f2 bf2 pf2 pl2 pc2 k2 kf2 lf2 sf2 mf2 rf2 : Int → Int} {L c bL bc nx sz ks ls sl ty pla fro to L2 c2 bL2 bc2 nx2 sz2 ks2 ls2 sl2 ty2 pla2 fro2 to2 : Int} {rest : List va_E} {tp : Int → Int} {td hi : Int} {g : Int → Int → Int} {ln sn : Int → Int} {s a i v : Int} (h1 : rng s) (h2 : rng a) (h3 : rng i) (hs : okS g ln sn) : zMet G yX7_item cX7_item 8 (some .int) 2 45 [.ref (G.ad 34), .int (iI s), .int (iI a), .int (iI i), .long (lI v)] (dkL G f L c bf bL bc pf pl pc nx sz k kf ks lf ls sf sl mf rf ty pla fro to ++ (kpL G f2 L2 c2 bf2 bL2 bc2 pf2 pl2 pc2 nx2 sz2 k2 kf2 ks2 lf2 ls2 sf2 sl2 mf2 rf2 ty2 pla2 fro2 to2 ++ (mkL G tp td hi g ln sn ++ rest))) (zO (.int (iI (if ¬ ((0 ≤ s ∧ s < 4) ∧ (0 ≤ a ∧ a < 4)) then -1 else if fltS (ln s) (sn s) a (i) (1) ≠ 0 then fltS (ln s) (sn s) a (i) (1) else 1))) (if ((0 ≤ s ∧ s < 4) ∧ (0 ≤ a ∧ a < 4)) ∧ fltS (ln s) (sn s) a (i) (1) = 0 then (dkL G f L c bf bL bc pf pl pc nx sz k kf ks lf ls sf sl mf rf ty pla fro to ++ (kpL G f2 L2 c2 bf2 bL2 bc2 pf2 pl2 pc2 nx2 sz2 k2 kf2 ks2 lf2 ls2 sf2 sl2 mf2 rf2 ty2 pla2 fro2 to2 ++ (mkL G tp td hi (gup g s (zup (g s) i (cutZ (ln s) v))) ln sn ++ rest))) else (dkL G f L c bf bL bc pf pl pc nx sz k kf ks lf ls sf sl mf rf ty pla fro to ++ (kpL G f2 L2 c2 bf2 bL2 bc2 pf2 pl2 pc2 nx2 sz2 k2 kf2 ks2 lf2 ls2 sf2 sl2 mf2 rf2 ty2 pla2 fro2 to2 ++ (mkL G tp td hi g ln sn ++ rest))))) := by
  refine zMet.of (by decide) (Nat.le_of_ble_eq_true rfl) ?_
  intro E C R
  have C : zC G E RX7 cX7_item 8 2 45 := C
  show V G E 0 [some (.ref (G.ad 34)), some (.int (iI s)), some (.int (iI a)), some (.int (iI i)), some (.long (lI v)), none, none, none] [] (dkL G f L c bf bL bc pf pl pc nx sz k kf ks lf ls sf sl mf rf ty pla fro to ++ (kpL G f2 L2 c2 bf2 bL2 bc2 pf2 pl2 pc2 nx2 sz2 k2 kf2 ks2 lf2 ls2 sf2 sl2 mf2 rf2 ty2 pla2 fro2 to2 ++ (mkL G tp td hi g ln sn ++ rest)))
  have hS := mk_S G (rest := rest) (f := f) (L := L) (c := c) (bf := bf) (bL := bL) (bc := bc) (pf := pf) (pl := pl) (pc := pc) (nx := nx) (sz := sz) (k := k) (kf := kf) (ks := ks) (lf := lf) (ls := ls) (sf := sf) (sl := sl) (mf := mf) (rf := rf) (ty := ty) (pla := pla) (fro := fro) (to := to) (f2 := f2) (L2 := L2) (c2 := c2) (bf2 := bf2) (bL2 := bL2) (bc2 := bc2) (pf2 := pf2) (pl2 := pl2) (pc2 := pc2) (nx2 := nx2) (sz2 := sz2) (k2 := k2) (kf2 := kf2) (ks2 := ks2) (lf2 := lf2) (ls2 := ls2) (sf2 := sf2) (sl2 := sl2) (mf2 := mf2) (rf2 := rf2) (ty2 := ty2) (pla2 := pla2) (fro2 := fro2) (to2 := to2) (tp := tp) (td := td) (hi := hi) (g := g) (ln := ln) (sn := sn) hs
  have hs9 := hs s
  have hfl : -13 ≤ fltS (ln s) (sn s) a (i) (1) ∧ fltS (ln s) (sn s) a (i) (1) ≤ 0 ∧ (fltS (ln s) (sn s) a (i) (1) = 0 → 0 ≤ i ∧ i < 24) := by unfold fltS; omega
  refine V_aload_n C dX7_item_0 rfl ?_
  refine V_iload_n C dX7_item_1 rfl ?_
  refine V_callV C lk_X7_169 (m_X7_sheetAt G (td := td) (hi := hi) rfl rfl (by omega)) dX7_item_2 rfl rfl (by first | exact (hS _ (by omega) (by omega)).1 | exact (hS _ (by omega) (by omega)).2.1 | rfl) rfl (by decide) (Nat.le_of_ble_eq_true rfl) (kOr (fun hs1 => ?_) (fun hs1 => ?_))
  · skip
    refine V_astore C dX7_item_5 (by decide) rfl ?_
    refine V_aload C dX7_item_7 rfl ?_
    refine V_ifnull C dX7_item_9 ?_
    refine V_iload_n C dX7_item_12 rfl ?_
    refine V_callS C lk_X7_173 (m_X7_isLane G (by omega)) dX7_item_13 rfl rfl (by decide) (Nat.le_of_ble_eq_true rfl) (kO ?_)
    refine V_if_neB (tgt := 21) C dX7_item_16 (by decide) (fun c_16 => ?_) (fun c_16 => ?_)
    · skip
      refine V_aload C dX7_item_21 rfl ?_
      refine V_iload_n C dX7_item_23 rfl ?_
      refine V_iload_n C dX7_item_24 rfl ?_
      refine V_iconst C dX7_item_25 ?_
      refine V_callN C lk_X7_179 (m_X4_faultAs G (hS s (by omega) (by omega)) h2 h3 (by decide)) dX7_item_26 rfl rfl (by first | exact (hS _ (by omega) (by omega)).1 | exact (hS _ (by omega) (by omega)).2.1 | rfl) rfl (by decide) (Nat.le_of_ble_eq_true rfl) (kO ?_)
      refine V_istore C dX7_item_29 (by decide) rfl ?_
      refine V_iload C dX7_item_31 rfl ?_
      refine V_if_eq (tgt := 39) C dX7_item_33 (by decide) (by omega) (fun c_33 => ?_) (fun c_33 => ?_)
      · skip
        refine V_aload C dX7_item_39 rfl ?_
        refine V_iload_n C dX7_item_41 rfl ?_
        refine V_lload C dX7_item_42 rfl ?_
        refine V_callN C lk_X7_190 (m_X4_put G (hS s (by omega) (by omega)) (by omega)) dX7_item_44 rfl rfl (by first | exact (hS _ (by omega) (by omega)).1 | exact (hS _ (by omega) (by omega)).2.1 | rfl) rfl (by decide) (Nat.le_of_ble_eq_true rfl) (kO0 ?_)
        refine V_iconst C dX7_item_47 ?_
        exact V_iret C R dX7_item_48 (zO_ic (by rw [if_neg (by omega), if_neg (by omega)]) (by rw [if_pos (by omega)]; exact mk_it G (by omega) (by omega)))
      · skip
        refine V_iload C dX7_item_36 rfl ?_
        exact V_iret C R dX7_item_38 (zO_ic (by rw [if_neg (by omega), if_pos (by omega)]) (by rw [if_neg (by omega)]))
    · skip
      refine V_iconst C dX7_item_19 ?_
      exact V_iret C R dX7_item_20 (zO_ic (by rw [if_pos (by omega)]) (by rw [if_neg (by omega)]))
  · skip
    refine V_astoreN C dX7_item_5 (by decide) rfl ?_
    refine V_aloadN C dX7_item_7 rfl ?_
    refine V_ifnullN (tgt := 19) C dX7_item_9 (by decide) ?_
    refine V_iconst C dX7_item_19 ?_
    exact V_iret C R dX7_item_20 (zO_ic (by rw [if_pos (by omega)]) (by rw [if_neg (by omega)]))

/-- k letters of f from a place on, laid as items from i on -/
def flm (h f : Int → Int) (ln p i k : Int) : Int → Int := fun j => if i ≤ j ∧ j < i + k then cutZ ln (f (p + (j - i))) else h j
theorem flm_0 (h f : Int → Int) (ln p i : Int) : flm h f ln p i 0 = h := by funext j; unfold flm; rw [if_neg (by omega)]
theorem flm_s {h f : Int → Int} {ln p i k : Int} (hk : 0 ≤ k) : zup (flm h f ln p i k) (i + k) (cutZ ln (f (p + k))) = flm h f ln p i (k + 1) := by
  funext j
  unfold zup flm
  by_cases e : j = i + k
  · rw [if_pos e, if_pos (by omega), e, show p + (i + k - i) = p + k by omega]
  · rw [if_neg e]
    by_cases e2 : i ≤ j ∧ j < i + k
    · rw [if_pos e2, if_pos (by omega)]
    · rw [if_neg e2, if_neg (by omega)]
theorem flm_rng {h f : Int → Int} {ln p i k : Int} (hh : ∀ j, rngL (h j)) (hf : ∀ j, rng (f j)) : ∀ j, rngL (flm h f ln p i k j) := fun j => by
  unfold flm
  split
  · exact cutZ_rng (by have := hf (p + (j - i)); omega)
  · exact hh j
theorem gup_s {g : Int → Int → Int} {n : Int} {h h2 : Int → Int} : gup (gup g n h) n h2 = gup g n h2 := by
  funext i
  unfold gup
  split <;> rfl
theorem gup_e {g : Int → Int → Int} {n : Int} : gup g n (g n) = g := by
  funext i
  unfold gup
  split
  · rename_i e; rw [e]
  · rfl
theorem gup_at {g : Int → Int → Int} {n : Int} {h : Int → Int} : gup g n h n = h := if_pos rfl
theorem okS_up {g : Int → Int → Int} {ln sn : Int → Int} {n : Int} {h : Int → Int} (hs : okS g ln sn) (hh : ∀ j, rngL (h j)) : okS (gup g n h) ln sn := by
  intro m
  refine ⟨?_, (hs m).2⟩
  unfold gup
  split
  · exact hh
  · exact (hs m).1

set_option maxRecDepth 100000 in
theorem m_X7_film (G : zG) {f bf pf pl pc k kf lf sf mf rf f2 bf2 pf2 pl2 pc2 k2 kf2 lf2 sf2 mf2 rf2 : Int → Int} {L c bL bc nx sz ks ls sl ty pla fro to L2 c2 bL2 bc2 nx2 sz2 ks2 ls2 sl2 ty2 pla2 fro2 to2 : Int} {rest : List va_E} {tp : Int → Int} {td hi : Int} {g : Int → Int → Int} {ln sn : Int → Int} {p n s a i : Int} (h1 : rng p) (h2 : rng n) (h3 : rng s) (h4 : rng a) (h5 : rng i) (hs : okS g ln sn) (O : okD f L c bf bL bc pf pl pc nx sz k kf ks lf ls sf sl mf rf ty pla fro to) : zMet G yX7_film cX7_film 9 (some .int) 2 45 [.ref (G.ad 34), .int (iI p), .int (iI n), .int (iI s), .int (iI a), .int (iI i)] (dkL G f L c bf bL bc pf pl pc nx sz k kf ks lf ls sf sl mf rf ty pla fro to ++ (kpL G f2 L2 c2 bf2 bL2 bc2 pf2 pl2 pc2 nx2 sz2 k2 kf2 ks2 lf2 ls2 sf2 sl2 mf2 rf2 ty2 pla2 fro2 to2 ++ (mkL G tp td hi g ln sn ++ rest))) (zO (.int (iI (if ¬ (((0 ≤ s ∧ s < 4) ∧ (0 ≤ a ∧ a < 4)) ∧ (1 ≤ n ∧ n ≤ 24) ∧ 0 ≤ p ∧ p ≤ L - n) then -1 else if fltS (ln s) (sn s) a (i) (n) ≠ 0 then fltS (ln s) (sn s) a (i) (n) else n))) (if (((0 ≤ s ∧ s < 4) ∧ (0 ≤ a ∧ a < 4)) ∧ (1 ≤ n ∧ n ≤ 24) ∧ 0 ≤ p ∧ p ≤ L - n) ∧ fltS (ln s) (sn s) a (i) (n) = 0 then (dkL G f L c bf bL bc pf pl pc nx sz k kf ks lf ls sf sl mf rf ty pla fro to ++ (kpL G f2 L2 c2 bf2 bL2 bc2 pf2 pl2 pc2 nx2 sz2 k2 kf2 ks2 lf2 ls2 sf2 sl2 mf2 rf2 ty2 pla2 fro2 to2 ++ (mkL G tp td hi (gup g s (flm (g s) f (ln s) p i n)) ln sn ++ rest))) else (dkL G f L c bf bL bc pf pl pc nx sz k kf ks lf ls sf sl mf rf ty pla fro to ++ (kpL G f2 L2 c2 bf2 bL2 bc2 pf2 pl2 pc2 nx2 sz2 k2 kf2 ks2 lf2 ls2 sf2 sl2 mf2 rf2 ty2 pla2 fro2 to2 ++ (mkL G tp td hi g ln sn ++ rest))))) := by
  refine zMet.of (by decide) (Nat.le_of_ble_eq_true rfl) ?_
  intro E C R
  have C : zC G E RX7 cX7_film 9 2 45 := C
  show V G E 0 [some (.ref (G.ad 34)), some (.int (iI p)), some (.int (iI n)), some (.int (iI s)), some (.int (iI a)), some (.int (iI i)), none, none, none] [] (dkL G f L c bf bL bc pf pl pc nx sz k kf ks lf ls sf sl mf rf ty pla fro to ++ (kpL G f2 L2 c2 bf2 bL2 bc2 pf2 pl2 pc2 nx2 sz2 k2 kf2 ks2 lf2 ls2 sf2 sl2 mf2 rf2 ty2 pla2 fro2 to2 ++ (mkL G tp td hi g ln sn ++ rest)))
  obtain ⟨hf, hL, hc, hbf, hbL, hbc, hpf, hplc, hnx, hsz, hk, hk3, hk4, hkf, hks, hlf, hls, hsf, hsl, hmf, hrf, hty, hpa, hfr, hto, hcm⟩ := id O
  have hla := la_in hL.1
  have hlb := la_in hbL.1
  have rpl : ∀ j, rng (pl j) := fun j => by have := hplc j; omega
  have rpc : ∀ j, rng (pc j) := fun j => by have := hplc j; have := la_in (hplc j).1.1; omega
  have rkf : ∀ j, rng (kf j) := fun j => by have := hkf j; omega
  have rlf : ∀ j, rng (lf j) := fun j => by have := hlf j; omega
  have rmf : ∀ j, rng (mf j) := fun j => by have := hmf j; omega
  have gmf : ∀ j, -1 ≤ mf j := fun j => (hmf j).1
  have hS := mk_S G (rest := rest) (f := f) (L := L) (c := c) (bf := bf) (bL := bL) (bc := bc) (pf := pf) (pl := pl) (pc := pc) (nx := nx) (sz := sz) (k := k) (kf := kf) (ks := ks) (lf := lf) (ls := ls) (sf := sf) (sl := sl) (mf := mf) (rf := rf) (ty := ty) (pla := pla) (fro := fro) (to := to) (f2 := f2) (L2 := L2) (c2 := c2) (bf2 := bf2) (bL2 := bL2) (bc2 := bc2) (pf2 := pf2) (pl2 := pl2) (pc2 := pc2) (nx2 := nx2) (sz2 := sz2) (k2 := k2) (kf2 := kf2) (ks2 := ks2) (lf2 := lf2) (ls2 := ls2) (sf2 := sf2) (sl2 := sl2) (mf2 := mf2) (rf2 := rf2) (ty2 := ty2) (pla2 := pla2) (fro2 := fro2) (to2 := to2) (tp := tp) (td := td) (hi := hi) (g := g) (ln := ln) (sn := sn) hs
  have hs9 := hs s
  have hfl : -13 ≤ fltS (ln s) (sn s) a (i) (n) ∧ fltS (ln s) (sn s) a (i) (n) ≤ 0 ∧ (fltS (ln s) (sn s) a (i) (n) = 0 → 0 ≤ i ∧ 0 ≤ n ∧ i ≤ sn s - n) := by unfold fltS; omega
  refine V_aload_n C dX7_film_0 rfl ?_
  refine V_iload_n C dX7_film_1 rfl ?_
  refine V_callV C lk_X7_169 (m_X7_sheetAt G (td := td) (hi := hi) rfl rfl (by omega)) dX7_film_2 rfl rfl (by first | exact (hS _ (by omega) (by omega)).1 | exact (hS1 _ (by omega) (by omega)).1 | rfl) rfl (by decide) (Nat.le_of_ble_eq_true rfl) (kOr (fun hs1 => ?_) (fun hs1 => ?_))
  · skip
    refine V_astore C dX7_film_5 (by decide) rfl ?_
    refine V_aload C dX7_film_7 rfl ?_
    refine V_ifnull C dX7_film_9 ?_
    refine V_iload C dX7_film_12 rfl ?_
    refine V_callS C lk_X7_173 (m_X7_isLane G (by omega)) dX7_film_14 rfl rfl (by decide) (Nat.le_of_ble_eq_true rfl) (kO ?_)
    refine V_if_eqB (tgt := 47) C dX7_film_17 (by decide) (fun c_17 => ?_) (fun c_17 => ?_)
    · skip
      refine V_iconst C dX7_film_47 ?_
      exact V_iret C R dX7_film_48 (zO_ic (by rw [if_pos (by omega)]) (by rw [if_neg (by omega)]))
    · skip
      refine V_iload_n C dX7_film_20 rfl ?_
      refine V_callS C lk_X7_176 (m_X7_isPortion G (by omega)) dX7_film_21 rfl rfl (by decide) (Nat.le_of_ble_eq_true rfl) (kO ?_)
      refine V_if_eqB (tgt := 47) C dX7_film_24 (by decide) (fun c_24 => ?_) (fun c_24 => ?_)
      · skip
        refine V_iconst C dX7_film_47 ?_
        exact V_iret C R dX7_film_48 (zO_ic (by rw [if_pos (by omega)]) (by rw [if_neg (by omega)]))
      · skip
        refine V_iload_n C dX7_film_27 rfl ?_
        refine V_if_lt (tgt := 47) C dX7_film_28 (by decide) (by omega) (fun c_28 => ?_) (fun c_28 => ?_)
        · skip
          refine V_iconst C dX7_film_47 ?_
          exact V_iret C R dX7_film_48 (zO_ic (by rw [if_pos (by omega)]) (by rw [if_neg (by omega)]))
        · skip
          refine V_iload_n C dX7_film_31 rfl ?_
          refine V_aload_n C dX7_film_32 rfl ?_
          refine vg_X7_16 C dX7_film_33 (by first | exact (hS _ (by omega) (by omega)).1 | exact (hS1 _ (by omega) (by omega)).1 | rfl) rfl ?_
          refine vg_X7_49 C dX7_film_36 (by first | exact (hS _ (by omega) (by omega)).1 | exact (hS1 _ (by omega) (by omega)).1 | rfl) rfl ?_
          refine vg_X7_53 C dX7_film_39 (by first | exact (hS _ (by omega) (by omega)).1 | exact (hS1 _ (by omega) (by omega)).1 | rfl) rfl ?_
          refine V_iload_n C dX7_film_42 rfl ?_
          refine V_isub C dX7_film_43 ?_
          refine V_icmp_le (tgt := 49) C dX7_film_44 (by decide) (by omega) (by omega) (fun c_44 => ?_) (fun c_44 => ?_)
          · skip
            refine V_aload C dX7_film_49 rfl ?_
            refine V_iload C dX7_film_51 rfl ?_
            refine V_iload C dX7_film_53 rfl ?_
            refine V_iload_n C dX7_film_55 rfl ?_
            refine V_callN C lk_X7_179 (m_X4_faultAs G (hS s (by omega) (by omega)) h4 h5 h2) dX7_film_56 rfl rfl (by first | exact (hS _ (by omega) (by omega)).1 | exact (hS1 _ (by omega) (by omega)).1 | rfl) rfl (by decide) (Nat.le_of_ble_eq_true rfl) (kO ?_)
            refine V_istore C dX7_film_59 (by decide) rfl ?_
            refine V_iload C dX7_film_61 rfl ?_
            refine V_if_eq (tgt := 69) C dX7_film_63 (by decide) (by omega) (fun c_63 => ?_) (fun c_63 => ?_)
            · skip
              generalize hgo : V G E = VV
              rw [← gup_e (g := g) (n := s), ← flm_0 (g s) f (ln s) p i]
              subst hgo
              refine V_iconst C dX7_film_69 ?_
              refine V_istore C dX7_film_70 (by decide) rfl ?_
              refine V_loop (α := Int) (fun x => (100 - x).toNat) (fun x => 0 ≤ x ∧ x ≤ n) (fun x => V G E 72 [some (.ref (G.ad 34)), some (.int (iI p)), some (.int (iI n)), some (.int (iI s)), some (.int (iI a)), some (.int (iI i)), some (.ref (G.ad (37 + 2 * s.toNat))), some (.int (iI (fltS (ln s) (sn s) a (i) (n)))), some (.int (iI x))] [] (dkL G f L c bf bL bc pf pl pc nx sz k kf ks lf ls sf sl mf rf ty pla fro to ++ (kpL G f2 L2 c2 bf2 bL2 bc2 pf2 pl2 pc2 nx2 sz2 k2 kf2 ks2 lf2 ls2 sf2 sl2 mf2 rf2 ty2 pla2 fro2 to2 ++ (mkL G tp td hi (gup g s (flm (g s) f (ln s) p i x)) ln sn ++ rest)))) ?_ 0 ⟨by omega, by omega⟩
              rintro q ⟨y1, y2⟩ ih_72
              have hS1 := mk_S G (rest := rest) (f := f) (L := L) (c := c) (bf := bf) (bL := bL) (bc := bc) (pf := pf) (pl := pl) (pc := pc) (nx := nx) (sz := sz) (k := k) (kf := kf) (ks := ks) (lf := lf) (ls := ls) (sf := sf) (sl := sl) (mf := mf) (rf := rf) (ty := ty) (pla := pla) (fro := fro) (to := to) (f2 := f2) (L2 := L2) (c2 := c2) (bf2 := bf2) (bL2 := bL2) (bc2 := bc2) (pf2 := pf2) (pl2 := pl2) (pc2 := pc2) (nx2 := nx2) (sz2 := sz2) (k2 := k2) (kf2 := kf2) (ks2 := ks2) (lf2 := lf2) (ls2 := ls2) (sf2 := sf2) (sl2 := sl2) (mf2 := mf2) (rf2 := rf2) (ty2 := ty2) (pla2 := pla2) (fro2 := fro2) (to2 := to2) (tp := tp) (td := td) (hi := hi) (ln := ln) (sn := sn) (okS_up (n := s) hs (flm_rng (ln := ln s) (p := p) (i := i) (k := q) (hs s).1 hf))
              have hat : q < n → atv f L (p + q) = f (p + q) := fun h => atv_at (by omega) (by omega)
              have hrt := atv_rng hf L (p + q)
              refine V_iload C dX7_film_72 rfl ?_
              refine V_iload_n C dX7_film_74 rfl ?_
              refine V_icmp_ge (tgt := 109) C dX7_film_75 (by decide) (by omega) (by omega) (fun c_75 => ?_) (fun c_75 => ?_)
              · skip
                refine V_iload_n C dX7_film_109 rfl ?_
                exact V_iret C R dX7_film_110 (zO_ic (by rw [if_neg (by omega), if_neg (by omega)]) (by rw [if_pos (by omega), show q = n by omega]))
              · skip
                refine V_aload C dX7_film_78 rfl ?_
                refine V_iload C dX7_film_80 rfl ?_
                refine V_iload C dX7_film_82 rfl ?_
                refine V_iadd C dX7_film_84 ?_
                refine V_aload_n C dX7_film_85 rfl ?_
                refine vg_X7_16 C dX7_film_86 (by first | exact (hS _ (by omega) (by omega)).1 | exact (hS1 _ (by omega) (by omega)).1 | rfl) rfl ?_
                refine vg_X7_49 C dX7_film_89 (by first | exact (hS _ (by omega) (by omega)).1 | exact (hS1 _ (by omega) (by omega)).1 | rfl) rfl ?_
                refine V_iload_n C dX7_film_92 rfl ?_
                refine V_iload C dX7_film_93 rfl ?_
                refine V_iadd C dX7_film_95 ?_
                refine V_callN C lk_X7_61 (m_X5_at G (i := 1) (j := 2) ⟨rfl, rfl, hf, by omega, by omega⟩ (by omega)) dX7_film_96 rfl rfl (by first | exact (hS _ (by omega) (by omega)).1 | exact (hS1 _ (by omega) (by omega)).1 | rfl) rfl (by decide) (Nat.le_of_ble_eq_true rfl) (kO ?_)
                refine V_i2l C dX7_film_99 (by omega) ?_
                refine V_callN C lk_X7_190 (m_X4_put G (hS1 s (by omega) (by omega)) (by omega)) dX7_film_100 rfl rfl (by first | exact (hS _ (by omega) (by omega)).1 | exact (hS1 _ (by omega) (by omega)).1 | rfl) rfl (by decide) (Nat.le_of_ble_eq_true rfl) (kO0 ?_)
                refine V_iinc C dX7_film_103 rfl (by decide) rfl ?_
                refine V_goto (tgt := 72) C dX7_film_106 (by decide) ?_
                rw [mk_it G (by omega) (by omega), gup_s, gup_at, hat (by omega), flm_s y1]
                exact ih_72 (q + 1) ⟨by omega, by omega⟩ (by omega)
            · skip
              refine V_iload C dX7_film_66 rfl ?_
              exact V_iret C R dX7_film_68 (zO_ic (by rw [if_neg (by omega), if_pos (by omega)]) (by rw [if_neg (by omega)]))
          · skip
            refine V_iconst C dX7_film_47 ?_
            exact V_iret C R dX7_film_48 (zO_ic (by rw [if_pos (by omega)]) (by rw [if_neg (by omega)]))
  · skip
    refine V_astoreN C dX7_film_5 (by decide) rfl ?_
    refine V_aloadN C dX7_film_7 rfl ?_
    refine V_ifnullN (tgt := 47) C dX7_film_9 (by decide) ?_
    refine V_iconst C dX7_film_47 ?_
    exact V_iret C R dX7_film_48 (zO_ic (by rw [if_pos (by omega)]) (by rw [if_neg (by omega)]))

def cpV (ls st ss sw i j n : Int) : Int := if ls = -1 ∨ st = -1 then -11 else if ls ≠ st then -12 else if ¬ (rchS ss i n ∧ rchS sw j n) then -13 else n
theorem cpV_1 {ls st ss sw i j n : Int}  (h1 : ls = -1 ∨ st = -1) : cpV ls st ss sw i j n = -11 := by unfold cpV; rw [if_pos h1]
theorem cpV_2 {ls st ss sw i j n : Int} (h1 : ¬ (ls = -1 ∨ st = -1)) (h2 : ls ≠ st) : cpV ls st ss sw i j n = -12 := by unfold cpV; rw [if_neg h1, if_pos h2]
theorem cpV_3 {ls st ss sw i j n : Int} (h1 : ¬ (ls = -1 ∨ st = -1)) (h2 : ¬ (ls ≠ st)) (h3 : ¬ (rchS ss i n ∧ rchS sw j n)) : cpV ls st ss sw i j n = -13 := by unfold cpV; rw [if_neg h1, if_neg h2, if_pos h3]
theorem cpV_4 {ls st ss sw i j n : Int} (h1 : ¬ (ls = -1 ∨ st = -1)) (h2 : ¬ (ls ≠ st)) (h3 : ¬ (¬ (rchS ss i n ∧ rchS sw j n))) : cpV ls st ss sw i j n = n := by unfold cpV; rw [if_neg h1, if_neg h2, if_neg h3]
set_option maxRecDepth 100000 in
theorem m_X7_copy (G : zG) {f bf pf pl pc k kf lf sf mf rf f2 bf2 pf2 pl2 pc2 k2 kf2 lf2 sf2 mf2 rf2 : Int → Int} {L c bL bc nx sz ks ls sl ty pla fro to L2 c2 bL2 bc2 nx2 sz2 ks2 ls2 sl2 ty2 pla2 fro2 to2 : Int} {rest : List va_E} {tp : Int → Int} {td hi : Int} {g : Int → Int → Int} {ln sn : Int → Int} {s i t j n : Int} (h1 : rng s) (h2 : rng i) (h3 : rng t) (h4 : rng j) (h5 : rng n) (hs : okS g ln sn) : zMet G yX7_copy cX7_copy 8 (some .int) 1 26 [.ref (G.ad 34), .int (iI s), .int (iI i), .int (iI t), .int (iI j), .int (iI n)] (dkL G f L c bf bL bc pf pl pc nx sz k kf ks lf ls sf sl mf rf ty pla fro to ++ (kpL G f2 L2 c2 bf2 bL2 bc2 pf2 pl2 pc2 nx2 sz2 k2 kf2 ks2 lf2 ls2 sf2 sl2 mf2 rf2 ty2 pla2 fro2 to2 ++ (mkL G tp td hi g ln sn ++ rest))) (zO (.int (iI (if ¬ ((0 ≤ s ∧ s < 4) ∧ 0 ≤ t ∧ t < 4) then -1 else cpV (ln s) (ln t) (sn s) (sn t) i j n))) (if ((0 ≤ s ∧ s < 4) ∧ 0 ≤ t ∧ t < 4) ∧ ¬ (ln s = -1 ∨ ln t = -1) ∧ ln s = ln t ∧ rchS (sn s) i n ∧ rchS (sn t) j n then (dkL G f L c bf bL bc pf pl pc nx sz k kf ks lf ls sf sl mf rf ty pla fro to ++ (kpL G f2 L2 c2 bf2 bL2 bc2 pf2 pl2 pc2 nx2 sz2 k2 kf2 ks2 lf2 ls2 sf2 sl2 mf2 rf2 ty2 pla2 fro2 to2 ++ (mkL G tp td hi (gup g t (zcp (g s) (g t) i j n)) ln sn ++ rest))) else (dkL G f L c bf bL bc pf pl pc nx sz k kf ks lf ls sf sl mf rf ty pla fro to ++ (kpL G f2 L2 c2 bf2 bL2 bc2 pf2 pl2 pc2 nx2 sz2 k2 kf2 ks2 lf2 ls2 sf2 sl2 mf2 rf2 ty2 pla2 fro2 to2 ++ (mkL G tp td hi g ln sn ++ rest))))) := by
  refine zMet.of (by decide) (Nat.le_of_ble_eq_true rfl) ?_
  intro E C R
  have C : zC G E RX7 cX7_copy 8 1 26 := C
  show V G E 0 [some (.ref (G.ad 34)), some (.int (iI s)), some (.int (iI i)), some (.int (iI t)), some (.int (iI j)), some (.int (iI n)), none, none] [] (dkL G f L c bf bL bc pf pl pc nx sz k kf ks lf ls sf sl mf rf ty pla fro to ++ (kpL G f2 L2 c2 bf2 bL2 bc2 pf2 pl2 pc2 nx2 sz2 k2 kf2 ks2 lf2 ls2 sf2 sl2 mf2 rf2 ty2 pla2 fro2 to2 ++ (mkL G tp td hi g ln sn ++ rest)))
  have hS := mk_S G (rest := rest) (f := f) (L := L) (c := c) (bf := bf) (bL := bL) (bc := bc) (pf := pf) (pl := pl) (pc := pc) (nx := nx) (sz := sz) (k := k) (kf := kf) (ks := ks) (lf := lf) (ls := ls) (sf := sf) (sl := sl) (mf := mf) (rf := rf) (ty := ty) (pla := pla) (fro := fro) (to := to) (f2 := f2) (L2 := L2) (c2 := c2) (bf2 := bf2) (bL2 := bL2) (bc2 := bc2) (pf2 := pf2) (pl2 := pl2) (pc2 := pc2) (nx2 := nx2) (sz2 := sz2) (k2 := k2) (kf2 := kf2) (ks2 := ks2) (lf2 := lf2) (ls2 := ls2) (sf2 := sf2) (sl2 := sl2) (mf2 := mf2) (rf2 := rf2) (ty2 := ty2) (pla2 := pla2) (fro2 := fro2) (to2 := to2) (tp := tp) (td := td) (hi := hi) (g := g) (ln := ln) (sn := sn) hs
  have hs9 := hs s
  have hs8 := hs t
  refine V_aload_n C dX7_copy_0 rfl ?_
  refine V_iload_n C dX7_copy_1 rfl ?_
  refine V_callV C lk_X7_169 (m_X7_sheetAt G (td := td) (hi := hi) rfl rfl (by omega)) dX7_copy_2 rfl rfl (by first | exact (hS _ (by omega) (by omega)).1 | exact (hS _ (by omega) (by omega)).2.1 | rfl) rfl (by decide) (Nat.le_of_ble_eq_true rfl) (kOr (fun hs1 => ?_) (fun hs1 => ?_))
  · skip
    refine V_astore C dX7_copy_5 (by decide) rfl ?_
    refine V_aload_n C dX7_copy_7 rfl ?_
    refine V_iload_n C dX7_copy_8 rfl ?_
    refine V_callV C lk_X7_169 (m_X7_sheetAt G (td := td) (hi := hi) rfl rfl (by omega)) dX7_copy_9 rfl rfl (by first | exact (hS _ (by omega) (by omega)).1 | exact (hS _ (by omega) (by omega)).2.1 | rfl) rfl (by decide) (Nat.le_of_ble_eq_true rfl) (kOr (fun hs1 => ?_) (fun hs1 => ?_))
    · skip
      refine V_astore C dX7_copy_12 (by decide) rfl ?_
      refine V_aload C dX7_copy_14 rfl ?_
      refine V_ifnull C dX7_copy_16 ?_
      refine V_aload C dX7_copy_19 rfl ?_
      refine V_ifnonnull (tgt := 26) C dX7_copy_21 (by decide) ?_
      refine V_aload C dX7_copy_26 rfl ?_
      refine V_callN C lk_X7_198 (m_X4_isNothing G (hS s (by omega) (by omega))) dX7_copy_28 rfl rfl (by first | exact (hS _ (by omega) (by omega)).1 | exact (hS _ (by omega) (by omega)).2.1 | rfl) rfl (by decide) (Nat.le_of_ble_eq_true rfl) (kO ?_)
      refine V_if_neB (tgt := 42) C dX7_copy_31 (by decide) (fun c_31 => ?_) (fun c_31 => ?_)
      · skip
        refine V_bipush C dX7_copy_42 (by decide) ?_
        exact V_iret C R dX7_copy_44 (zO_ic (by rw [if_neg (by omega), cpV_1 (by omega)]) (by rw [if_neg (by omega)]))
      · skip
        refine V_aload C dX7_copy_34 rfl ?_
        refine V_callN C lk_X7_198 (m_X4_isNothing G (hS t (by omega) (by omega))) dX7_copy_36 rfl rfl (by first | exact (hS _ (by omega) (by omega)).1 | exact (hS _ (by omega) (by omega)).2.1 | rfl) rfl (by decide) (Nat.le_of_ble_eq_true rfl) (kO ?_)
        refine V_if_eqB (tgt := 45) C dX7_copy_39 (by decide) (fun c_39 => ?_) (fun c_39 => ?_)
        · skip
          refine V_aload C dX7_copy_45 rfl ?_
          refine vg_X7_202 C dX7_copy_47 (by first | exact (hS _ (by omega) (by omega)).1 | exact (hS _ (by omega) (by omega)).2.1 | rfl) rfl ?_
          refine V_aload C dX7_copy_50 rfl ?_
          refine vg_X7_202 C dX7_copy_52 (by first | exact (hS _ (by omega) (by omega)).1 | exact (hS _ (by omega) (by omega)).2.1 | rfl) rfl ?_
          refine V_icmp_eq (tgt := 61) C dX7_copy_55 (by decide) (by omega) (by omega) (fun c_55 => ?_) (fun c_55 => ?_)
          · skip
            refine V_aload C dX7_copy_61 rfl ?_
            refine V_iload_n C dX7_copy_63 rfl ?_
            refine V_iload C dX7_copy_64 rfl ?_
            refine V_callN C lk_X7_205 (m_X4_reaches G (hS s (by omega) (by omega)) h2 h5) dX7_copy_66 rfl rfl (by first | exact (hS _ (by omega) (by omega)).1 | exact (hS _ (by omega) (by omega)).2.1 | rfl) rfl (by decide) (Nat.le_of_ble_eq_true rfl) (kO ?_)
            refine V_if_eqB (tgt := 84) C dX7_copy_69 (by decide) (fun c_69 => ?_) (fun c_69 => ?_)
            · skip
              refine V_bipush C dX7_copy_84 (by decide) ?_
              exact V_iret C R dX7_copy_86 (zO_ic (by rw [if_neg (by omega), cpV_3 (by omega) (by omega) (by omega)]) (by rw [if_neg (by omega)]))
            · skip
              refine V_aload C dX7_copy_72 rfl ?_
              refine V_iload C dX7_copy_74 rfl ?_
              refine V_iload C dX7_copy_76 rfl ?_
              refine V_callN C lk_X7_205 (m_X4_reaches G (hS t (by omega) (by omega)) h4 h5) dX7_copy_78 rfl rfl (by first | exact (hS _ (by omega) (by omega)).1 | exact (hS _ (by omega) (by omega)).2.1 | rfl) rfl (by decide) (Nat.le_of_ble_eq_true rfl) (kO ?_)
              refine V_if_neB (tgt := 87) C dX7_copy_81 (by decide) (fun c_81 => ?_) (fun c_81 => ?_)
              · skip
                refine V_aload C dX7_copy_87 rfl ?_
                refine vg_X7_182 C dX7_copy_89 (by first | exact (hS _ (by omega) (by omega)).1 | exact (hS _ (by omega) (by omega)).2.1 | rfl) rfl ?_
                refine V_iload_n C dX7_copy_92 rfl ?_
                refine V_aload C dX7_copy_93 rfl ?_
                refine vg_X7_182 C dX7_copy_95 (by first | exact (hS _ (by omega) (by omega)).1 | exact (hS _ (by omega) (by omega)).2.1 | rfl) rfl ?_
                refine V_iload C dX7_copy_98 rfl ?_
                refine V_iload C dX7_copy_100 rfl ?_
                refine V_copyJ C wm_X7_209 dX7_copy_102 (by first | exact (hS _ (by omega) (by omega)).1 | exact (hS _ (by omega) (by omega)).2.1 | rfl) (by first | exact (hS _ (by omega) (by omega)).1 | exact (hS _ (by omega) (by omega)).2.1 | rfl) (by omega) (by omega) (by omega) (by omega) (by omega) (by decide) (by decide) (by decide) (Nat.le_of_ble_eq_true rfl) ?_
                refine V_iload C dX7_copy_105 rfl ?_
                exact V_iret C R dX7_copy_107 (zO_ic (by rw [if_neg (by omega), cpV_4 (by omega) (by omega) (by omega)]) (by rw [if_pos (by omega)]; exact mk_it G (by omega) (by omega)))
              · skip
                refine V_bipush C dX7_copy_84 (by decide) ?_
                exact V_iret C R dX7_copy_86 (zO_ic (by rw [if_neg (by omega), cpV_3 (by omega) (by omega) (by omega)]) (by rw [if_neg (by omega)]))
          · skip
            refine V_bipush C dX7_copy_58 (by decide) ?_
            exact V_iret C R dX7_copy_60 (zO_ic (by rw [if_neg (by omega), cpV_2 (by omega) (by omega)]) (by rw [if_neg (by omega)]))
        · skip
          refine V_bipush C dX7_copy_42 (by decide) ?_
          exact V_iret C R dX7_copy_44 (zO_ic (by rw [if_neg (by omega), cpV_1 (by omega)]) (by rw [if_neg (by omega)]))
    · skip
      refine V_astoreN C dX7_copy_12 (by decide) rfl ?_
      refine V_aload C dX7_copy_14 rfl ?_
      refine V_ifnull C dX7_copy_16 ?_
      refine V_aloadN C dX7_copy_19 rfl ?_
      refine V_ifnonnullN C dX7_copy_21 ?_
      refine V_iconst C dX7_copy_24 ?_
      exact V_iret C R dX7_copy_25 (zO_ic (by rw [if_pos (by omega)]) (by rw [if_neg (by omega)]))
  · skip
    refine V_astoreN C dX7_copy_5 (by decide) rfl ?_
    refine V_aload_n C dX7_copy_7 rfl ?_
    refine V_iload_n C dX7_copy_8 rfl ?_
    refine V_callV C lk_X7_169 (m_X7_sheetAt G (td := td) (hi := hi) rfl rfl (by omega)) dX7_copy_9 rfl rfl (by first | exact (hS _ (by omega) (by omega)).1 | exact (hS _ (by omega) (by omega)).2.1 | rfl) rfl (by decide) (Nat.le_of_ble_eq_true rfl) (kOr (fun hs1 => ?_) (fun hs1 => ?_))
    · skip
      refine V_astore C dX7_copy_12 (by decide) rfl ?_
      refine V_aloadN C dX7_copy_14 rfl ?_
      refine V_ifnullN (tgt := 24) C dX7_copy_16 (by decide) ?_
      refine V_iconst C dX7_copy_24 ?_
      exact V_iret C R dX7_copy_25 (zO_ic (by rw [if_pos (by omega)]) (by rw [if_neg (by omega)]))
    · skip
      refine V_astoreN C dX7_copy_12 (by decide) rfl ?_
      refine V_aloadN C dX7_copy_14 rfl ?_
      refine V_ifnullN (tgt := 24) C dX7_copy_16 (by decide) ?_
      refine V_iconst C dX7_copy_24 ?_
      exact V_iret C R dX7_copy_25 (zO_ic (by rw [if_pos (by omega)]) (by rw [if_neg (by omega)]))
