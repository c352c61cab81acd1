/-! ===== ModalKeys: play ===== -/
def prsT (d : zDk) (x : Int) : Int × zDk := prs (d.1) (d.2.1) (d.2.2.1) (d.2.2.2.1) (d.2.2.2.2.1) (d.2.2.2.2.2.1) (d.2.2.2.2.2.2.1) (d.2.2.2.2.2.2.2.1) (d.2.2.2.2.2.2.2.2.1) (d.2.2.2.2.2.2.2.2.2.1) (d.2.2.2.2.2.2.2.2.2.2.1) (d.2.2.2.2.2.2.2.2.2.2.2.1) (d.2.2.2.2.2.2.2.2.2.2.2.2.1) (d.2.2.2.2.2.2.2.2.2.2.2.2.2.1) (d.2.2.2.2.2.2.2.2.2.2.2.2.2.2.1) (d.2.2.2.2.2.2.2.2.2.2.2.2.2.2.2.1) (d.2.2.2.2.2.2.2.2.2.2.2.2.2.2.2.2.1) (d.2.2.2.2.2.2.2.2.2.2.2.2.2.2.2.2.2.1) (d.2.2.2.2.2.2.2.2.2.2.2.2.2.2.2.2.2.2.1) (d.2.2.2.2.2.2.2.2.2.2.2.2.2.2.2.2.2.2.2.1) (d.2.2.2.2.2.2.2.2.2.2.2.2.2.2.2.2.2.2.2.2.1) (d.2.2.2.2.2.2.2.2.2.2.2.2.2.2.2.2.2.2.2.2.2.1) (d.2.2.2.2.2.2.2.2.2.2.2.2.2.2.2.2.2.2.2.2.2.2.1) (d.2.2.2.2.2.2.2.2.2.2.2.2.2.2.2.2.2.2.2.2.2.2.2) x
theorem rpN_ok : ∀ (n : Nat) (j a : Int) (d : zDk), okT d → okT (rpN n j a d).2
  | 0, _, _, _, h => h
  | n + 1, j, a, d, h => by
    rw [rpN]
    split
    · refine rpN_ok n _ _ _ (stk_ok h ?_)
      obtain ⟨-, -, -, -, -, -, -, -, -, -, -, -, -, -, -, hlf1, -⟩ := id h
      exact hlf1 j
    · exact h
theorem rpN_rng : ∀ (n : Nat) (j a : Int) (d : zDk), -3 ≤ a ∧ a ≤ 2 → -3 ≤ (rpN n j a d).1 ∧ (rpN n j a d).1 ≤ 2
  | 0, _, _, _, h => h
  | n + 1, j, a, d, h => by
    rw [rpN]
    split
    · exact rpN_rng n _ _ _ stk_rng
    · exact h
theorem prs_ok {f bf pf pl pc k kf lf sf mf rf : Int → Int} {L c bL bc nx sz ks ls sl ty pla fro to : Int} {x : Int} (O : okD f L c bf bL bc pf pl pc nx sz k kf ks lf ls sf sl mf rf ty pla fro to) (hx : 0 ≤ x ∧ x ≤ 126) : okT (prs f L c bf bL bc pf pl pc nx sz k kf ks lf ls sf sl mf rf ty pla fro to x).2 := by
  by_cases c1 : ¬ (x = 46 ∧ ty = 0 ∧ k 1 = 0)
  · rw [prs_1 c1]; exact stk_ok O hx
  by_cases c2 : 0 < ls ∧ ls ≤ 30
  · rw [prs_2 c1 c2]; exact rpN_ok _ _ _ _ (okD_clr O)
  · rw [prs_3 c1 c2]; exact okD_clr O
theorem prs_rng {f bf pf pl pc k kf lf sf mf rf : Int → Int} {L c bL bc nx sz ks ls sl ty pla fro to : Int} {x : Int} : -3 ≤ (prs f L c bf bL bc pf pl pc nx sz k kf ks lf ls sf sl mf rf ty pla fro to x).1 ∧ (prs f L c bf bL bc pf pl pc nx sz k kf ks lf ls sf sl mf rf ty pla fro to x).1 ≤ 2 := by
  by_cases c1 : ¬ (x = 46 ∧ ty = 0 ∧ k 1 = 0)
  · rw [prs_1 c1]; exact stk_rng
  by_cases c2 : 0 < ls ∧ ls ≤ 30
  · rw [prs_2 c1 c2]; exact rpN_rng _ _ _ _ (by decide)
  · rw [prs_3 c1 c2]; dsimp only; omega
def plN (h : Int → Int) (e : Int) : Nat → Int → Int → zDk → Int × zDk
  | 0, _, a, d => (a, d)
  | k + 1, j, a, d => if j < e then plN h e k (j + 1) (if (prsT d (h j)).1 < 0 then a + 1 else a) (prsT d (h j)).2 else (a, d)
theorem plN_go {h : Int → Int} {e j a : Int} {k : Nat} {d : zDk} (h1 : j < e) : plN h e (k + 1) j a d = plN h e k (j + 1) (if (prsT d (h j)).1 < 0 then a + 1 else a) (prsT d (h j)).2 := if_pos h1
theorem plN_no {h : Int → Int} {e j a : Int} {k : Nat} {d : zDk} (h1 : ¬ j < e) : plN h e k j a d = (a, d) := by cases k; rfl; exact if_neg h1

set_option maxRecDepth 100000 in
theorem m_X7_play (G : zG) {f bf pf pl pc k kf lf sf mf rf f2 bf2 pf2 pl2 pc2 k2 kf2 lf2 sf2 mf2 rf2 : Int → Int} {L c bL bc nx sz ks ls sl ty pla fro to L2 c2 bL2 bc2 nx2 sz2 ks2 ls2 sl2 ty2 pla2 fro2 to2 : Int} {rest : List va_E} {tp : Int → Int} {td hi : Int} {g : Int → Int → Int} {ln sn : Int → Int} {s a i n : Int} (h1 : rng s) (h2 : rng a) (h3 : rng i) (h4 : rng n) (hs : okS g ln sn) (O : okD f L c bf bL bc pf pl pc nx sz k kf ks lf ls sf sl mf rf ty pla fro to) : zMet G yX7_play cX7_play 9 (some .int) 7 164 [.ref (G.ad 34), .int (iI s), .int (iI a), .int (iI i), .int (iI n)] (dkL G f L c bf bL bc pf pl pc nx sz k kf ks lf ls sf sl mf rf ty pla fro to ++ (kpL G f2 L2 c2 bf2 bL2 bc2 pf2 pl2 pc2 nx2 sz2 k2 kf2 ks2 lf2 ls2 sf2 sl2 mf2 rf2 ty2 pla2 fro2 to2 ++ (mkL G tp td hi g ln sn ++ rest))) (fun r cs2 => (¬ (((0 ≤ s ∧ s < 4) ∧ (0 ≤ a ∧ a < 4)) ∧ 1 ≤ n ∧ n ≤ 24) ∧ zO (.int (iI (-1))) (dkL G f L c bf bL bc pf pl pc nx sz k kf ks lf ls sf sl mf rf ty pla fro to ++ (kpL G f2 L2 c2 bf2 bL2 bc2 pf2 pl2 pc2 nx2 sz2 k2 kf2 ks2 lf2 ls2 sf2 sl2 mf2 rf2 ty2 pla2 fro2 to2 ++ (mkL G tp td hi g ln sn ++ rest))) r cs2) ∨ (((((0 ≤ s ∧ s < 4) ∧ (0 ≤ a ∧ a < 4)) ∧ 1 ≤ n ∧ n ≤ 24) ∧ fltS (ln s) (sn s) a (i) (n) ≠ 0) ∧ zO (.int (iI (fltS (ln s) (sn s) a (i) (n)))) (dkL G f L c bf bL bc pf pl pc nx sz k kf ks lf ls sf sl mf rf ty pla fro to ++ (kpL G f2 L2 c2 bf2 bL2 bc2 pf2 pl2 pc2 nx2 sz2 k2 kf2 ks2 lf2 ls2 sf2 sl2 mf2 rf2 ty2 pla2 fro2 to2 ++ (mkL G tp td hi g ln sn ++ rest))) r cs2) ∨ (((((0 ≤ s ∧ s < 4) ∧ (0 ≤ a ∧ a < 4)) ∧ 1 ≤ n ∧ n ≤ 24) ∧ fltS (ln s) (sn s) a (i) (n) = 0 ∧ ∃ q, i ≤ q ∧ q < i + n ∧ ¬ (32 ≤ g s q ∧ g s q ≤ 126)) ∧ zO (.int (iI (-2))) (dkL G f L c bf bL bc pf pl pc nx sz k kf ks lf ls sf sl mf rf ty pla fro to ++ (kpL G f2 L2 c2 bf2 bL2 bc2 pf2 pl2 pc2 nx2 sz2 k2 kf2 ks2 lf2 ls2 sf2 sl2 mf2 rf2 ty2 pla2 fro2 to2 ++ (mkL G tp td hi g ln sn ++ rest))) r cs2) ∨ (((((0 ≤ s ∧ s < 4) ∧ (0 ≤ a ∧ a < 4)) ∧ 1 ≤ n ∧ n ≤ 24) ∧ fltS (ln s) (sn s) a (i) (n) = 0 ∧ ∀ q, i ≤ q → q < i + n → 32 ≤ g s q ∧ g s q ≤ 126) ∧ zO (.int (iI (plN (g s) (i + n) 24 i 0 (f, L, c, bf, bL, bc, pf, pl, pc, nx, sz, k, kf, ks, lf, ls, sf, sl, mf, rf, ty, pla, fro, to)).1)) (dkT G (plN (g s) (i + n) 24 i 0 (f, L, c, bf, bL, bc, pf, pl, pc, nx, sz, k, kf, ks, lf, ls, sf, sl, mf, rf, ty, pla, fro, to)).2 ++ (kpL G f2 L2 c2 bf2 bL2 bc2 pf2 pl2 pc2 nx2 sz2 k2 kf2 ks2 lf2 ls2 sf2 sl2 mf2 rf2 ty2 pla2 fro2 to2 ++ (mkL G tp td hi g ln sn ++ rest))) r cs2)) := by
  refine zMet.of (by decide) (Nat.le_of_ble_eq_true rfl) ?_
  intro E C R
  have C : zC G E RX7 cX7_play 9 7 164 := C
  show V G E 0 [some (.ref (G.ad 34)), some (.int (iI s)), some (.int (iI a)), some (.int (iI i)), some (.int (iI n)), none, none, none, none] [] (dkL G f L c bf bL bc pf pl pc nx sz k kf ks lf ls sf sl mf rf ty pla fro to ++ (kpL G f2 L2 c2 bf2 bL2 bc2 pf2 pl2 pc2 nx2 sz2 k2 kf2 ks2 lf2 ls2 sf2 sl2 mf2 rf2 ty2 pla2 fro2 to2 ++ (mkL G tp td hi g ln sn ++ rest)))
  have hS := mk_S G (rest := rest) (f := f) (L := L) (c := c) (bf := bf) (bL := bL) (bc := bc) (pf := pf) (pl := pl) (pc := pc) (nx := nx) (sz := sz) (k := k) (kf := kf) (ks := ks) (lf := lf) (ls := ls) (sf := sf) (sl := sl) (mf := mf) (rf := rf) (ty := ty) (pla := pla) (fro := fro) (to := to) (f2 := f2) (L2 := L2) (c2 := c2) (bf2 := bf2) (bL2 := bL2) (bc2 := bc2) (pf2 := pf2) (pl2 := pl2) (pc2 := pc2) (nx2 := nx2) (sz2 := sz2) (k2 := k2) (kf2 := kf2) (ks2 := ks2) (lf2 := lf2) (ls2 := ls2) (sf2 := sf2) (sl2 := sl2) (mf2 := mf2) (rf2 := rf2) (ty2 := ty2) (pla2 := pla2) (fro2 := fro2) (to2 := to2) (tp := tp) (td := td) (hi := hi) (g := g) (ln := ln) (sn := sn) hs
  have hs9 := hs s
  have hfl : -13 ≤ fltS (ln s) (sn s) a (i) (n) ∧ fltS (ln s) (sn s) a (i) (n) ≤ 0 ∧ (fltS (ln s) (sn s) a (i) (n) = 0 → 0 ≤ i ∧ 0 ≤ n ∧ i ≤ sn s - n) := by unfold fltS; omega
  refine V_aload_n C dX7_play_0 rfl ?_
  refine V_iload_n C dX7_play_1 rfl ?_
  refine V_callV C lk_X7_169 (m_X7_sheetAt G (td := td) (hi := hi) rfl rfl (by omega)) dX7_play_2 rfl rfl (by first | exact (hS _ (by omega) (by omega)).1 | exact (hS _ (by omega) (by omega)).2.1 | exact (hS1 _ (by omega) (by omega)).1 | exact (hS1 _ (by omega) (by omega)).2.1 | rfl) rfl (by decide) (Nat.le_of_ble_eq_true rfl) (kOr (fun hs1 => ?_) (fun hs1 => ?_))
  · skip
    refine V_astore C dX7_play_5 (by decide) rfl ?_
    refine V_aload C dX7_play_7 rfl ?_
    refine V_ifnull C dX7_play_9 ?_
    refine V_iload_n C dX7_play_12 rfl ?_
    refine V_callS C lk_X7_173 (m_X7_isLane G (by omega)) dX7_play_13 rfl rfl (by decide) (Nat.le_of_ble_eq_true rfl) (kO ?_)
    refine V_if_eqB (tgt := 27) C dX7_play_16 (by decide) (fun c_16 => ?_) (fun c_16 => ?_)
    · skip
      refine V_iconst C dX7_play_27 ?_
      exact V_iret C R dX7_play_28 (Or.inl ⟨by omega, rfl, rfl⟩)
    · skip
      refine V_iload C dX7_play_19 rfl ?_
      refine V_callS C lk_X7_176 (m_X7_isPortion G (by omega)) dX7_play_21 rfl rfl (by decide) (Nat.le_of_ble_eq_true rfl) (kO ?_)
      refine V_if_neB (tgt := 29) C dX7_play_24 (by decide) (fun c_24 => ?_) (fun c_24 => ?_)
      · skip
        refine V_aload C dX7_play_29 rfl ?_
        refine V_iload_n C dX7_play_31 rfl ?_
        refine V_iload_n C dX7_play_32 rfl ?_
        refine V_iload C dX7_play_33 rfl ?_
        refine V_callN C lk_X7_179 (m_X4_faultAs G (hS s (by omega) (by omega)) h2 h3 h4) dX7_play_35 rfl rfl (by first | exact (hS _ (by omega) (by omega)).1 | exact (hS _ (by omega) (by omega)).2.1 | exact (hS1 _ (by omega) (by omega)).1 | exact (hS1 _ (by omega) (by omega)).2.1 | rfl) rfl (by decide) (Nat.le_of_ble_eq_true rfl) (kO ?_)
        refine V_istore C dX7_play_38 (by decide) rfl ?_
        refine V_iload C dX7_play_40 rfl ?_
        refine V_if_eq (tgt := 48) C dX7_play_42 (by decide) (by omega) (fun c_42 => ?_) (fun c_42 => ?_)
        · skip
          refine V_iload_n C dX7_play_48 rfl ?_
          refine V_istore C dX7_play_49 (by decide) rfl ?_
          refine V_loop (α := Int) (fun x => (200 - x).toNat) (fun x => i ≤ x ∧ x ≤ i + n ∧ ∀ q, i ≤ q → q < x → 32 ≤ g s q ∧ g s q ≤ 126) (fun x => V G E 51 [some (.ref (G.ad 34)), some (.int (iI s)), some (.int (iI a)), some (.int (iI i)), some (.int (iI n)), some (.ref (G.ad (37 + 2 * s.toNat))), some (.int (iI (fltS (ln s) (sn s) a (i) (n)))), some (.int (iI x)), none] [] (dkL G f L c bf bL bc pf pl pc nx sz k kf ks lf ls sf sl mf rf ty pla fro to ++ (kpL G f2 L2 c2 bf2 bL2 bc2 pf2 pl2 pc2 nx2 sz2 k2 kf2 ks2 lf2 ls2 sf2 sl2 mf2 rf2 ty2 pla2 fro2 to2 ++ (mkL G tp td hi g ln sn ++ rest)))) ?_ i ⟨by omega, by omega, fun q q1 q2 => by omega⟩
          rintro q ⟨y1, y2, y3⟩ ih_51
          refine V_iload C dX7_play_51 rfl ?_
          refine V_iload_n C dX7_play_53 rfl ?_
          refine V_iload C dX7_play_54 rfl ?_
          refine V_iadd C dX7_play_56 ?_
          refine V_icmp_ge (tgt := 99) C dX7_play_57 (by decide) (by omega) (by omega) (fun c_57 => ?_) (fun c_57 => ?_)
          · skip
            have hall : ∀ q, i ≤ q → q < i + n → 0 ≤ g s q ∧ g s q ≤ 126 := fun j j1 j2 => by have := y3 j j1 (by omega); omega
            have hal2 : ∀ q, i ≤ q → q < i + n → 32 ≤ g s q ∧ g s q ≤ 126 := fun j j1 j2 => y3 j j1 (by omega)
            clear y3 y1 y2
            refine V_iconst C dX7_play_99 ?_
            refine V_istore C dX7_play_100 (by decide) rfl ?_
            refine V_iload_n C dX7_play_102 rfl ?_
            refine V_istore C dX7_play_103 (by decide) rfl ?_
            refine V_loop (α := Int × Int × zDk) (fun x => (200 - x.1).toNat) (fun x => i ≤ x.1 ∧ x.1 ≤ i + n ∧ (0 ≤ x.2.1 ∧ x.2.1 ≤ x.1 - i) ∧ okT x.2.2 ∧ plN (g s) (i + n) (24 - (x.1 - i)).toNat x.1 x.2.1 x.2.2 = (plN (g s) (i + n) 24 i 0 (f, L, c, bf, bL, bc, pf, pl, pc, nx, sz, k, kf, ks, lf, ls, sf, sl, mf, rf, ty, pla, fro, to))) (fun x => V G E 105 [some (.ref (G.ad 34)), some (.int (iI s)), some (.int (iI a)), some (.int (iI i)), some (.int (iI n)), some (.ref (G.ad (37 + 2 * s.toNat))), some (.int (iI (fltS (ln s) (sn s) a (i) (n)))), some (.int (iI x.2.1)), some (.int (iI x.1))] [] (dkT G x.2.2 ++ (kpL G f2 L2 c2 bf2 bL2 bc2 pf2 pl2 pc2 nx2 sz2 k2 kf2 ks2 lf2 ls2 sf2 sl2 mf2 rf2 ty2 pla2 fro2 to2 ++ (mkL G tp td hi g ln sn ++ rest)))) ?_ (i, 0, (f, L, c, bf, bL, bc, pf, pl, pc, nx, sz, k, kf, ks, lf, ls, sf, sl, mf, rf, ty, pla, fro, to)) ⟨Int.le_refl i, (show i ≤ i + n by omega), (show (0 : Int) ≤ 0 ∧ 0 ≤ i - i by omega), O, (show plN (g s) (i + n) (24 - (i - i)).toNat i 0 (f, L, c, bf, bL, bc, pf, pl, pc, nx, sz, k, kf, ks, lf, ls, sf, sl, mf, rf, ty, pla, fro, to) = _ by rw [show (24 - (i - i)).toNat = 24 by omega])⟩
            rintro ⟨q, fl, d⟩ ⟨o1, o2, o3, o4, o5⟩ ih_105
            obtain ⟨f1, L1, c1, bf1, bL1, bc1, pf1, pl1, pc1, nx1, sz1, k1, kf1, ks1, lf1, ls1, sf1, sl1, mf1, rf1, ty1, pla1, fro1, to1⟩ := d
            dsimp only at o1 o2 o3 o4 o5
            have ih := ih_105
            clear ih_105
            have hS1 := mk_S G (rest := rest) (f := f1) (L := L1) (c := c1) (bf := bf1) (bL := bL1) (bc := bc1) (pf := pf1) (pl := pl1) (pc := pc1) (nx := nx1) (sz := sz1) (k := k1) (kf := kf1) (ks := ks1) (lf := lf1) (ls := ls1) (sf := sf1) (sl := sl1) (mf := mf1) (rf := rf1) (ty := ty1) (pla := pla1) (fro := fro1) (to := to1) (f2 := f2) (L2 := L2) (c2 := c2) (bf2 := bf2) (bL2 := bL2) (bc2 := bc2) (pf2 := pf2) (pl2 := pl2) (pc2 := pc2) (nx2 := nx2) (sz2 := sz2) (k2 := k2) (kf2 := kf2) (ks2 := ks2) (lf2 := lf2) (ls2 := ls2) (sf2 := sf2) (sl2 := sl2) (mf2 := mf2) (rf2 := rf2) (ty2 := ty2) (pla2 := pla2) (fro2 := fro2) (to2 := to2) (tp := tp) (td := td) (hi := hi) (g := g) (ln := ln) (sn := sn) hs
            show V G E 105 [some (.ref (G.ad 34)), some (.int (iI s)), some (.int (iI a)), some (.int (iI i)), some (.int (iI n)), some (.ref (G.ad (37 + 2 * s.toNat))), some (.int (iI (fltS (ln s) (sn s) a (i) (n)))), some (.int (iI fl)), some (.int (iI q))] [] (dkL G f1 L1 c1 bf1 bL1 bc1 pf1 pl1 pc1 nx1 sz1 k1 kf1 ks1 lf1 ls1 sf1 sl1 mf1 rf1 ty1 pla1 fro1 to1 ++ (kpL G f2 L2 c2 bf2 bL2 bc2 pf2 pl2 pc2 nx2 sz2 k2 kf2 ks2 lf2 ls2 sf2 sl2 mf2 rf2 ty2 pla2 fro2 to2 ++ (mkL G tp td hi g ln sn ++ rest)))
            refine V_iload C dX7_play_105 rfl ?_
            refine V_iload_n C dX7_play_107 rfl ?_
            refine V_iload C dX7_play_108 rfl ?_
            refine V_iadd C dX7_play_110 ?_
            refine V_icmp_ge (tgt := 142) C dX7_play_111 (by decide) (by omega) (by omega) (fun c_111 => ?_) (fun c_111 => ?_)
            · skip
              refine V_iload C dX7_play_142 rfl ?_
              exact V_iret C R dX7_play_144 (Or.inr (Or.inr (Or.inr ⟨⟨by omega, by omega, hal2⟩, by rw [← o5, plN_no (by omega)], by rw [← o5, plN_no (by omega)]⟩)))
            · skip
              refine V_aload_n C dX7_play_114 rfl ?_
              refine vg_X7_16 C dX7_play_115 (by first | exact (hS _ (by omega) (by omega)).1 | exact (hS _ (by omega) (by omega)).2.1 | exact (hS1 _ (by omega) (by omega)).1 | exact (hS1 _ (by omega) (by omega)).2.1 | rfl) rfl ?_
              refine V_aload C dX7_play_118 rfl ?_
              refine vg_X7_182 C dX7_play_120 (by first | exact (hS _ (by omega) (by omega)).1 | exact (hS _ (by omega) (by omega)).2.1 | exact (hS1 _ (by omega) (by omega)).1 | exact (hS1 _ (by omega) (by omega)).2.1 | rfl) rfl ?_
              refine V_iload C dX7_play_123 rfl ?_
              refine V_lald C dX7_play_125 (by first | exact (hS _ (by omega) (by omega)).1 | exact (hS _ (by omega) (by omega)).2.1 | exact (hS1 _ (by omega) (by omega)).1 | exact (hS1 _ (by omega) (by omega)).2.1 | rfl) (by omega) (by omega) (by decide) hs9.1 (fun r_125 => ?_)
              refine V_l2i C dX7_play_126 ?_
              refine V_callN C lk_X7_108 (m_X1_press G (f := f1) (L := L1) (c := c1) (bf := bf1) (bL := bL1) (bc := bc1) (pf := pf1) (pl := pl1) (pc := pc1) (nx := nx1) (sz := sz1) (k := k1) (kf := kf1) (ks := ks1) (lf := lf1) (ls := ls1) (sf := sf1) (sl := sl1) (mf := mf1) (rf := rf1) (ty := ty1) (pla := pla1) (fro := fro1) (to := to1) (rest := (kpL G f2 L2 c2 bf2 bL2 bc2 pf2 pl2 pc2 nx2 sz2 k2 kf2 ks2 lf2 ls2 sf2 sl2 mf2 rf2 ty2 pla2 fro2 to2 ++ (mkL G tp td hi g ln sn ++ rest))) o4 (hall q (by omega) (by omega))) dX7_play_127 rfl rfl (by first | exact (hS _ (by omega) (by omega)).1 | exact (hS _ (by omega) (by omega)).2.1 | exact (hS1 _ (by omega) (by omega)).1 | exact (hS1 _ (by omega) (by omega)).2.1 | rfl) rfl (by decide) (Nat.le_of_ble_eq_true rfl) (kO ?_)
              have hpr := prs_rng (f := f1) (L := L1) (c := c1) (bf := bf1) (bL := bL1) (bc := bc1) (pf := pf1) (pl := pl1) (pc := pc1) (nx := nx1) (sz := sz1) (k := k1) (kf := kf1) (ks := ks1) (lf := lf1) (ls := ls1) (sf := sf1) (sl := sl1) (mf := mf1) (rf := rf1) (ty := ty1) (pla := pla1) (fro := fro1) (to := to1) (x := g s q)
              refine V_if_ge (tgt := 136) C dX7_play_130 (by decide) (by omega) (fun c_130 => ?_) (fun c_130 => ?_)
              · skip
                refine V_iinc C dX7_play_136 rfl (by decide) rfl ?_
                refine V_goto (tgt := 105) C dX7_play_139 (by decide) ?_
                exact ih (q + 1, _, (prs f1 L1 c1 bf1 bL1 bc1 pf1 pl1 pc1 nx1 sz1 k1 kf1 ks1 lf1 ls1 sf1 sl1 mf1 rf1 ty1 pla1 fro1 to1 (g s q)).2) ⟨(show i ≤ q + 1 by omega), (show q + 1 ≤ i + n by omega), by dsimp only; omega, prs_ok o4 (hall q (by omega) (by omega)), (by rw [← o5, show (24 - (q - i)).toNat = (24 - (q + 1 - i)).toNat + 1 by omega, plN_go (by omega)]; first | rw [if_pos (show (prsT (f1, L1, c1, bf1, bL1, bc1, pf1, pl1, pc1, nx1, sz1, k1, kf1, ks1, lf1, ls1, sf1, sl1, mf1, rf1, ty1, pla1, fro1, to1) (g s q)).1 < 0 from c_130)] <;> rfl | rw [if_neg (show ¬ (prsT (f1, L1, c1, bf1, bL1, bc1, pf1, pl1, pc1, nx1, sz1, k1, kf1, ks1, lf1, ls1, sf1, sl1, mf1, rf1, ty1, pla1, fro1, to1) (g s q)).1 < 0 from fun h => absurd c_130 (by change (prs f1 L1 c1 bf1 bL1 bc1 pf1 pl1 pc1 nx1 sz1 k1 kf1 ks1 lf1 ls1 sf1 sl1 mf1 rf1 ty1 pla1 fro1 to1 (g s q)).1 < 0 at h; omega))] <;> rfl)⟩ (show (200 - (q + 1)).toNat < (200 - q).toNat by omega)
              · skip
                refine V_iinc C dX7_play_133 rfl (by decide) rfl ?_
                refine V_iinc C dX7_play_136 rfl (by decide) rfl ?_
                refine V_goto (tgt := 105) C dX7_play_139 (by decide) ?_
                exact ih (q + 1, _, (prs f1 L1 c1 bf1 bL1 bc1 pf1 pl1 pc1 nx1 sz1 k1 kf1 ks1 lf1 ls1 sf1 sl1 mf1 rf1 ty1 pla1 fro1 to1 (g s q)).2) ⟨(show i ≤ q + 1 by omega), (show q + 1 ≤ i + n by omega), by dsimp only; omega, prs_ok o4 (hall q (by omega) (by omega)), (by rw [← o5, show (24 - (q - i)).toNat = (24 - (q + 1 - i)).toNat + 1 by omega, plN_go (by omega)]; first | rw [if_pos (show (prsT (f1, L1, c1, bf1, bL1, bc1, pf1, pl1, pc1, nx1, sz1, k1, kf1, ks1, lf1, ls1, sf1, sl1, mf1, rf1, ty1, pla1, fro1, to1) (g s q)).1 < 0 from c_130)] <;> rfl | rw [if_neg (show ¬ (prsT (f1, L1, c1, bf1, bL1, bc1, pf1, pl1, pc1, nx1, sz1, k1, kf1, ks1, lf1, ls1, sf1, sl1, mf1, rf1, ty1, pla1, fro1, to1) (g s q)).1 < 0 from fun h => absurd c_130 (by change (prs f1 L1 c1 bf1 bL1 bc1 pf1 pl1 pc1 nx1 sz1 k1 kf1 ks1 lf1 ls1 sf1 sl1 mf1 rf1 ty1 pla1 fro1 to1 (g s q)).1 < 0 at h; omega))] <;> rfl)⟩ (show (200 - (q + 1)).toNat < (200 - q).toNat by omega)
          · skip
            refine V_aload C dX7_play_60 rfl ?_
            refine vg_X7_182 C dX7_play_62 (by first | exact (hS _ (by omega) (by omega)).1 | exact (hS _ (by omega) (by omega)).2.1 | exact (hS1 _ (by omega) (by omega)).1 | exact (hS1 _ (by omega) (by omega)).2.1 | rfl) rfl ?_
            refine V_iload C dX7_play_65 rfl ?_
            refine V_lald C dX7_play_67 (by first | exact (hS _ (by omega) (by omega)).1 | exact (hS _ (by omega) (by omega)).2.1 | exact (hS1 _ (by omega) (by omega)).1 | exact (hS1 _ (by omega) (by omega)).2.1 | rfl) (by omega) (by omega) (by decide) hs9.1 (fun r_67 => ?_)
            refine V_ldc2 (z := 32) C wk_X7_186 rfl dX7_play_68 ?_
            refine V_lcmp_lt (tgt := 90) C dX7_play_71 dX7_play_72 (by decide) (by omega) (by omega) (fun c_72 => ?_) (fun c_72 => ?_)
            · skip
              refine V_bipush C dX7_play_90 (by decide) ?_
              exact V_iret C R dX7_play_92 (Or.inr (Or.inr (Or.inl ⟨⟨by omega, by omega, q, by omega, by omega, by omega⟩, rfl, rfl⟩)))
            · skip
              refine V_aload C dX7_play_75 rfl ?_
              refine vg_X7_182 C dX7_play_77 (by first | exact (hS _ (by omega) (by omega)).1 | exact (hS _ (by omega) (by omega)).2.1 | exact (hS1 _ (by omega) (by omega)).1 | exact (hS1 _ (by omega) (by omega)).2.1 | rfl) rfl ?_
              refine V_iload C dX7_play_80 rfl ?_
              refine V_lald C dX7_play_82 (by first | exact (hS _ (by omega) (by omega)).1 | exact (hS _ (by omega) (by omega)).2.1 | exact (hS1 _ (by omega) (by omega)).1 | exact (hS1 _ (by omega) (by omega)).2.1 | rfl) (by omega) (by omega) (by decide) hs9.1 (fun r_82 => ?_)
              refine V_ldc2 (z := 126) C wk_X7_188 rfl dX7_play_83 ?_
              refine V_lcmp_le (tgt := 93) C dX7_play_86 dX7_play_87 (by decide) (by omega) (by omega) (fun c_87 => ?_) (fun c_87 => ?_)
              · skip
                refine V_iinc C dX7_play_93 rfl (by decide) rfl ?_
                refine V_goto (tgt := 51) C dX7_play_96 (by decide) ?_
                exact ih_51 (q + 1) ⟨by omega, by omega, fun j j1 j2 => by
                    rcases (show j < q ∨ j = q by omega) with e | e
                    · exact y3 j j1 e
                    · rw [e]; exact ⟨c_72, c_87⟩⟩ (by omega)
              · skip
                refine V_bipush C dX7_play_90 (by decide) ?_
                exact V_iret C R dX7_play_92 (Or.inr (Or.inr (Or.inl ⟨⟨by omega, by omega, q, by omega, by omega, by omega⟩, rfl, rfl⟩)))
        · skip
          refine V_iload C dX7_play_45 rfl ?_
          exact V_iret C R dX7_play_47 (Or.inr (Or.inl ⟨by omega, rfl, rfl⟩))
      · skip
        refine V_iconst C dX7_play_27 ?_
        exact V_iret C R dX7_play_28 (Or.inl ⟨by omega, rfl, rfl⟩)
  · skip
    refine V_astoreN C dX7_play_5 (by decide) rfl ?_
    refine V_aloadN C dX7_play_7 rfl ?_
    refine V_ifnullN (tgt := 27) C dX7_play_9 (by decide) ?_
    refine V_iconst C dX7_play_27 ?_
    exact V_iret C R dX7_play_28 (Or.inl ⟨by omega, rfl, rfl⟩)
