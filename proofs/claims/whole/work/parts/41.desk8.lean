/-! ===== the kept Desk; become ===== -/
def kpL (G : zG) (f : Int → Int) (L c : Int) (bf : Int → Int) (bL bc : Int) (pf pl pc : Int → Int) (nx sz : Int) (k kf : Int → Int) (ks : Int) (lf : Int → Int) (ls : Int) (sf : Int → Int) (sl : Int) (mf rf : Int → Int) (ty pla fro to : Int) : List va_E :=
  [.inr (1, [.ref (G.ad 18), .ref (G.ad 20), .ref (G.ad 22), .ref (G.ad 26), .ref (G.ad 29), .ref (G.ad 31), .int (iI sl), .ref (G.ad 32), .ref (G.ad 33), .int (iI ty), .int (iI pla), .int (iI fro), .int (iI to)]),
   .inr (5, [.ref (G.ad 19), .int (iI L), .int (iI c)]), zI G 60 f, .inr (5, [.ref (G.ad 21), .int (iI bL), .int (iI bc)]), zI G 60 bf,
   oP G 23 24 25 nx sz, zI G 480 pf, zI G 8 pl, zI G 8 pc, oC G 27 k, oK G 28 ks, zI G 30 kf, oK G 30 ls, zI G 30 lf, zI G 60 sf, zI G 4 mf, zI G 7 rf]

set_option maxRecDepth 100000 in
theorem m_X0_become_get (G : zG) {f bf pf pl pc k kf lf sf mf rf f2 bf2 pf2 pl2 pc2 k2 kf2 lf2 sf2 mf2 rf2 : Int → Int} {L c bL bc nx sz ks ls sl ty pla fro to L2 c2 bL2 bc2 nx2 sz2 ks2 ls2 sl2 ty2 pla2 fro2 to2 : Int} {rest : List va_E} (hk : ∀ n, rng (k n)) (hk2 : ∀ n, rng (k2 n)) (rkf : ∀ j, rng (kf j)) (rkf2 : ∀ j, rng (kf2 j)) (hks : 0 ≤ ks ∧ ks ≤ 31) (hks2 : 0 ≤ ks2 ∧ ks2 ≤ 31) (hk7 : k2 7 = 0 ∨ k2 7 = 1) : zMet G yX0_become cX0_become 2 none 2 47 [.ref (G.ad 9), .ref (G.ad 26)] (dkL G (f) (L) (c) (bf) (bL) (bc) (pf) (pl) (pc) (nx) (sz) (k) (kf) (ks) (lf) (ls) (sf) (sl) (mf) (rf) (ty) (pla) (fro) (to) ++ (kpL G (f2) (L2) (c2) (bf2) (bL2) (bc2) (pf2) (pl2) (pc2) (nx2) (sz2) (k2) (kf2) (ks2) (lf2) (ls2) (sf2) (sl2) (mf2) (rf2) (ty2) (pla2) (fro2) (to2) ++ rest)) (zO0 (dkL G (f) (L) (c) (bf) (bL) (bc) (pf) (pl) (pc) (nx) (sz) (k2) (zcp kf2 kf 0 0 30) (ks2) (lf) (ls) (sf) (sl) (mf) (rf) (ty) (pla) (fro) (to) ++ (kpL G (f2) (L2) (c2) (bf2) (bL2) (bc2) (pf2) (pl2) (pc2) (nx2) (sz2) (k2) (kf2) (ks2) (lf2) (ls2) (sf2) (sl2) (mf2) (rf2) (ty2) (pla2) (fro2) (to2) ++ rest))) := by
  refine zMet.of (by decide) (Nat.le_of_ble_eq_true rfl) ?_
  intro E C R
  have C : zC G E RX0 cX0_become 2 2 47 := C
  show V G E 0 [some (.ref (G.ad 9)), some (.ref (G.ad 26))] [] (dkL G (f) (L) (c) (bf) (bL) (bc) (pf) (pl) (pc) (nx) (sz) (k) (kf) (ks) (lf) (ls) (sf) (sl) (mf) (rf) (ty) (pla) (fro) (to) ++ (kpL G (f2) (L2) (c2) (bf2) (bL2) (bc2) (pf2) (pl2) (pc2) (nx2) (sz2) (k2) (kf2) (ks2) (lf2) (ls2) (sf2) (sl2) (mf2) (rf2) (ty2) (pla2) (fro2) (to2) ++ rest))
  refine V_aload_n C dX0_become_0 rfl ?_
  refine vg_X0_12 C dX0_become_1 rfl rfl ?_
  refine V_aload_n C dX0_become_4 rfl ?_
  refine vg_X0_12 C dX0_become_5 rfl rfl ?_
  refine V_callN C lk_X0_47 (m_X2_become G (i := 10) (j := 11) (i2 := 27) (j2 := 28) ⟨rfl, rfl, rkf, by omega, by omega⟩ ⟨rfl, rfl, rkf2, by omega, by omega⟩ (by decide)) dX0_become_8 rfl rfl rfl rfl (by decide) (Nat.le_of_ble_eq_true rfl) (kO0 ?_)
  refine V_aload_n C dX0_become_11 rfl ?_
  refine V_aload_n C dX0_become_12 rfl ?_
  refine vg_X0_22 C dX0_become_13 rfl rfl ?_
  refine vp_X0_22 C dX0_become_16 rfl (Nat.le_of_ble_eq_true rfl) ?_
  refine V_aload_n C dX0_become_19 rfl ?_
  refine V_aload_n C dX0_become_20 rfl ?_
  refine vg_X0_25 C dX0_become_21 rfl rfl ?_
  refine vp_X0_25 C dX0_become_24 rfl (Nat.le_of_ble_eq_true rfl) ?_
  refine V_aload_n C dX0_become_27 rfl ?_
  refine V_aload_n C dX0_become_28 rfl ?_
  refine vg_X0_28 C dX0_become_29 rfl rfl ?_
  refine vp_X0_28 C dX0_become_32 rfl (Nat.le_of_ble_eq_true rfl) ?_
  refine V_aload_n C dX0_become_35 rfl ?_
  refine V_aload_n C dX0_become_36 rfl ?_
  refine vg_X0_31 C dX0_become_37 rfl rfl ?_
  refine vp_X0_31 C dX0_become_40 rfl (Nat.le_of_ble_eq_true rfl) ?_
  refine V_aload_n C dX0_become_43 rfl ?_
  refine V_aload_n C dX0_become_44 rfl ?_
  refine vg_X0_34 C dX0_become_45 rfl rfl ?_
  refine vp_X0_34 C dX0_become_48 rfl (Nat.le_of_ble_eq_true rfl) ?_
  refine V_aload_n C dX0_become_51 rfl ?_
  refine V_aload_n C dX0_become_52 rfl ?_
  refine vg_X0_37 C dX0_become_53 rfl rfl ?_
  refine vp_X0_37 C dX0_become_56 rfl (Nat.le_of_ble_eq_true rfl) ?_
  refine V_aload_n C dX0_become_59 rfl ?_
  refine V_aload_n C dX0_become_60 rfl ?_
  refine vg_X0_40 C dX0_become_61 rfl rfl ?_
  refine vp_X0_40 C dX0_become_64 rfl (Nat.le_of_ble_eq_true rfl) hk7 ?_
  refine V_aload_n C dX0_become_67 rfl ?_
  refine V_aload_n C dX0_become_68 rfl ?_
  refine vg_X0_44 C dX0_become_69 rfl rfl ?_
  refine vp_X0_44 C dX0_become_72 rfl (Nat.le_of_ble_eq_true rfl) ?_
  exact V_vret C R dX0_become_75 ⟨rfl, rfl⟩

set_option maxHeartbeats 4000000 in
set_option maxRecDepth 100000 in
theorem m_X1_become_get (G : zG) {f bf pf pl pc k kf lf sf mf rf f2 bf2 pf2 pl2 pc2 k2 kf2 lf2 sf2 mf2 rf2 : Int → Int} {L c bL bc nx sz ks ls sl ty pla fro to L2 c2 bL2 bc2 nx2 sz2 ks2 ls2 sl2 ty2 pla2 fro2 to2 : Int} {rest : List va_E} (O : okD f L c bf bL bc pf pl pc nx sz k kf ks lf ls sf sl mf rf ty pla fro to) (O2 : okD f2 L2 c2 bf2 bL2 bc2 pf2 pl2 pc2 nx2 sz2 k2 kf2 ks2 lf2 ls2 sf2 sl2 mf2 rf2 ty2 pla2 fro2 to2) (hk7 : k2 7 = 0 ∨ k2 7 = 1) : zMet G yX1_become cX1_become 2 none 3 68 [.ref (G.ad 0), .ref (G.ad 17)] (dkL G (f) (L) (c) (bf) (bL) (bc) (pf) (pl) (pc) (nx) (sz) (k) (kf) (ks) (lf) (ls) (sf) (sl) (mf) (rf) (ty) (pla) (fro) (to) ++ (kpL G (f2) (L2) (c2) (bf2) (bL2) (bc2) (pf2) (pl2) (pc2) (nx2) (sz2) (k2) (kf2) (ks2) (lf2) (ls2) (sf2) (sl2) (mf2) (rf2) (ty2) (pla2) (fro2) (to2) ++ rest)) (zO0 (dkL G (zcp f2 f 0 0 60) (L2) (c2) (zcp bf2 bf 0 0 60) (bL2) (bc2) (zcp pf2 pf 0 0 480) (zcp pl2 pl 0 0 8) (zcp pc2 pc 0 0 8) (nx2) (sz2) (k2) (zcp kf2 kf 0 0 30) (ks2) (zcp lf2 lf 0 0 30) (ls2) (zcp sf2 sf 0 0 60) (sl2) (zcp mf2 mf 0 0 4) (zcp rf2 rf 0 0 7) (ty2) (pla) (fro) (to) ++ (kpL G (f2) (L2) (c2) (bf2) (bL2) (bc2) (pf2) (pl2) (pc2) (nx2) (sz2) (k2) (kf2) (ks2) (lf2) (ls2) (sf2) (sl2) (mf2) (rf2) (ty2) (pla2) (fro2) (to2) ++ rest))) := by
  refine zMet.of (by decide) (Nat.le_of_ble_eq_true rfl) ?_
  intro E C R
  have C : zC G E RX1 cX1_become 2 3 68 := C
  show V G E 0 [some (.ref (G.ad 0)), some (.ref (G.ad 17))] [] (dkL G (f) (L) (c) (bf) (bL) (bc) (pf) (pl) (pc) (nx) (sz) (k) (kf) (ks) (lf) (ls) (sf) (sl) (mf) (rf) (ty) (pla) (fro) (to) ++ (kpL G (f2) (L2) (c2) (bf2) (bL2) (bc2) (pf2) (pl2) (pc2) (nx2) (sz2) (k2) (kf2) (ks2) (lf2) (ls2) (sf2) (sl2) (mf2) (rf2) (ty2) (pla2) (fro2) (to2) ++ rest))
  obtain ⟨hf, hL, hc, hbf, hbL, hbc, hpf, hplc, hnx, hsz, hk, hk3, hk4, hkf, hks, hlf, hls, hsf, hsl, hmf, hrf, hty, hpa, hfr, hto, hcm⟩ := id O
  have hla := la_in hL.1
  have hlb := la_in hbL.1
  have rpl : ∀ j, rng (pl j) := fun j => by have := hplc j; omega
  have rpc : ∀ j, rng (pc j) := fun j => by have := hplc j; have := la_in (hplc j).1.1; omega
  have rkf : ∀ j, rng (kf j) := fun j => by have := hkf j; omega
  have rlf : ∀ j, rng (lf j) := fun j => by have := hlf j; omega
  have rmf : ∀ j, rng (mf j) := fun j => by have := hmf j; omega
  have gmf : ∀ j, -1 ≤ mf j := fun j => (hmf j).1
  obtain ⟨hf2, hL2, hc2, hbf2, hbL2, hbc2, hpf2, hplc2, hnx2, hsz2, hk2, hk32, hk42, hkf2, hks2, hlf2, hls2, hsf2, hsl2, hmf2, hrf2, hty2, hpa2, hfr2, hto2, hcm2⟩ := id O2
  have hla2 := la_in hL2.1
  have hlb2 := la_in hbL2.1
  have rpl2 : ∀ j, rng (pl2 j) := fun j => by have := hplc2 j; omega
  have rpc2 : ∀ j, rng (pc2 j) := fun j => by have := hplc2 j; have := la_in (hplc2 j).1.1; omega
  have rkf2 : ∀ j, rng (kf2 j) := fun j => by have := hkf2 j; omega
  have rlf2 : ∀ j, rng (lf2 j) := fun j => by have := hlf2 j; omega
  have rmf2 : ∀ j, rng (mf2 j) := fun j => by have := hmf2 j; omega
  have gmf2 : ∀ j, -1 ≤ mf2 j := fun j => (hmf2 j).1
  refine V_aload_n C dX1_become_0 rfl ?_
  refine vg_X1_12 C dX1_become_1 rfl rfl ?_
  refine V_aload_n C dX1_become_4 rfl ?_
  refine vg_X1_12 C dX1_become_5 rfl rfl ?_
  refine V_callN C lk_X1_52 (m_X5_become G (i := 1) (j := 2) (i2 := 18) (j2 := 19) ⟨rfl, rfl, hf, by omega, by omega⟩ ⟨rfl, rfl, hf2, by omega, by omega⟩ (by decide)) dX1_become_8 rfl rfl rfl rfl (by decide) (Nat.le_of_ble_eq_true rfl) (kO0 ?_)
  refine V_aload_n C dX1_become_11 rfl ?_
  refine vg_X1_18 C dX1_become_12 rfl rfl ?_
  refine V_aload_n C dX1_become_15 rfl ?_
  refine vg_X1_18 C dX1_become_16 rfl rfl ?_
  refine V_callN C lk_X1_52 (m_X5_become G (i := 3) (j := 4) (i2 := 20) (j2 := 21) ⟨rfl, rfl, hbf, by omega, by omega⟩ ⟨rfl, rfl, hbf2, by omega, by omega⟩ (by decide)) dX1_become_19 rfl rfl rfl rfl (by decide) (Nat.le_of_ble_eq_true rfl) (kO0 ?_)
  refine V_aload_n C dX1_become_22 rfl ?_
  refine vg_X1_24 C dX1_become_23 rfl rfl ?_
  refine V_aload_n C dX1_become_26 rfl ?_
  refine vg_X1_24 C dX1_become_27 rfl rfl ?_
  refine V_callN C lk_X1_56 (m_X3_become G (i := 5) (j1 := 6) (j2 := 7) (j3 := 8) (i2 := 22) (k1 := 23) (k2 := 24) (k3 := 25) ⟨rfl, rfl, rfl, rfl, hpf, rpl, rpc, by omega, by omega, by omega, by omega, by decide, by decide, by decide⟩ ⟨rfl, rfl, rfl, rfl, hpf2, rpl2, rpc2, by omega, by omega, by omega, by omega, by decide, by decide, by decide⟩ (by decide)) dX1_become_30 rfl rfl rfl rfl (by decide) (Nat.le_of_ble_eq_true rfl) (kO0 ?_)
  refine V_aload_n C dX1_become_33 rfl ?_
  refine vg_X1_31 C dX1_become_34 rfl rfl ?_
  refine V_aload_n C dX1_become_37 rfl ?_
  refine vg_X1_31 C dX1_become_38 rfl rfl ?_
  refine V_callN C lk_X1_59 (m_X0_become_get G hk hk2 rkf rkf2 hks hks2 hk7) dX1_become_41 rfl rfl rfl rfl (by decide) (Nat.le_of_ble_eq_true rfl) (kO0 ?_)
  refine V_aload_n C dX1_become_44 rfl ?_
  refine vg_X1_38 C dX1_become_45 rfl rfl ?_
  refine V_aload_n C dX1_become_48 rfl ?_
  refine vg_X1_38 C dX1_become_49 rfl rfl ?_
  refine V_callN C lk_X1_62 (m_X2_become G (i := 12) (j := 13) (i2 := 29) (j2 := 30) ⟨rfl, rfl, rlf, by omega, by omega⟩ ⟨rfl, rfl, rlf2, by omega, by omega⟩ (by decide)) dX1_become_52 rfl rfl rfl rfl (by decide) (Nat.le_of_ble_eq_true rfl) (kO0 ?_)
  refine V_aload_n C dX1_become_55 rfl ?_
  refine vg_X1_42 C dX1_become_56 rfl rfl ?_
  refine V_iconst C dX1_become_59 ?_
  refine V_aload_n C dX1_become_60 rfl ?_
  refine vg_X1_42 C dX1_become_61 rfl rfl ?_
  refine V_iconst C dX1_become_64 ?_
  refine V_bipush C dX1_become_65 (by decide) ?_
  refine V_copyI C wm_X1_65 dX1_become_67 rfl rfl (by decide) (by decide) (by decide) (by decide) (by decide) (by decide) (by decide) (by decide) (Nat.le_of_ble_eq_true rfl) ?_
  refine V_aload_n C dX1_become_70 rfl ?_
  refine V_aload_n C dX1_become_71 rfl ?_
  refine vg_X1_71 C dX1_become_72 rfl rfl ?_
  refine vp_X1_71 C dX1_become_75 rfl (Nat.le_of_ble_eq_true rfl) ?_
  refine V_aload_n C dX1_become_78 rfl ?_
  refine vg_X1_46 C dX1_become_79 rfl rfl ?_
  refine V_iconst C dX1_become_82 ?_
  refine V_aload_n C dX1_become_83 rfl ?_
  refine vg_X1_46 C dX1_become_84 rfl rfl ?_
  refine V_iconst C dX1_become_87 ?_
  refine V_iconst C dX1_become_88 ?_
  refine V_copyI C wm_X1_65 dX1_become_89 rfl rfl (by decide) (by decide) (by decide) (by decide) (by decide) (by decide) (by decide) (by decide) (Nat.le_of_ble_eq_true rfl) ?_
  refine V_aload_n C dX1_become_92 rfl ?_
  refine vg_X1_49 C dX1_become_93 rfl rfl ?_
  refine V_iconst C dX1_become_96 ?_
  refine V_aload_n C dX1_become_97 rfl ?_
  refine vg_X1_49 C dX1_become_98 rfl rfl ?_
  refine V_iconst C dX1_become_101 ?_
  refine V_bipush C dX1_become_102 (by decide) ?_
  refine V_copyI C wm_X1_65 dX1_become_104 rfl rfl (by decide) (by decide) (by decide) (by decide) (by decide) (by decide) (by decide) (by decide) (Nat.le_of_ble_eq_true rfl) ?_
  refine V_aload_n C dX1_become_107 rfl ?_
  refine V_aload_n C dX1_become_108 rfl ?_
  refine vg_X1_75 C dX1_become_109 rfl rfl ?_
  refine vp_X1_75 C dX1_become_112 rfl (Nat.le_of_ble_eq_true rfl) (by omega) ?_
  exact V_vret C R dX1_become_115 ⟨rfl, rfl⟩

set_option maxRecDepth 100000 in
theorem m_X0_become_kept (G : zG) {f bf pf pl pc k kf lf sf mf rf f2 bf2 pf2 pl2 pc2 k2 kf2 lf2 sf2 mf2 rf2 : Int → Int} {L c bL bc nx sz ks ls sl ty pla fro to L2 c2 bL2 bc2 nx2 sz2 ks2 ls2 sl2 ty2 pla2 fro2 to2 : Int} {rest : List va_E} (hk : ∀ n, rng (k n)) (hk2 : ∀ n, rng (k2 n)) (rkf : ∀ j, rng (kf j)) (rkf2 : ∀ j, rng (kf2 j)) (hks : 0 ≤ ks ∧ ks ≤ 31) (hks2 : 0 ≤ ks2 ∧ ks2 ≤ 31) (hk7 : k 7 = 0 ∨ k 7 = 1) : zMet G yX0_become cX0_become 2 none 2 47 [.ref (G.ad 26), .ref (G.ad 9)] (dkL G (f) (L) (c) (bf) (bL) (bc) (pf) (pl) (pc) (nx) (sz) (k) (kf) (ks) (lf) (ls) (sf) (sl) (mf) (rf) (ty) (pla) (fro) (to) ++ (kpL G (f2) (L2) (c2) (bf2) (bL2) (bc2) (pf2) (pl2) (pc2) (nx2) (sz2) (k2) (kf2) (ks2) (lf2) (ls2) (sf2) (sl2) (mf2) (rf2) (ty2) (pla2) (fro2) (to2) ++ rest)) (zO0 (dkL G (f) (L) (c) (bf) (bL) (bc) (pf) (pl) (pc) (nx) (sz) (k) (kf) (ks) (lf) (ls) (sf) (sl) (mf) (rf) (ty) (pla) (fro) (to) ++ (kpL G (f2) (L2) (c2) (bf2) (bL2) (bc2) (pf2) (pl2) (pc2) (nx2) (sz2) (k) (zcp kf kf2 0 0 30) (ks) (lf2) (ls2) (sf2) (sl2) (mf2) (rf2) (ty2) (pla2) (fro2) (to2) ++ rest))) := by
  refine zMet.of (by decide) (Nat.le_of_ble_eq_true rfl) ?_
  intro E C R
  have C : zC G E RX0 cX0_become 2 2 47 := C
  show V G E 0 [some (.ref (G.ad 26)), some (.ref (G.ad 9))] [] (dkL G (f) (L) (c) (bf) (bL) (bc) (pf) (pl) (pc) (nx) (sz) (k) (kf) (ks) (lf) (ls) (sf) (sl) (mf) (rf) (ty) (pla) (fro) (to) ++ (kpL G (f2) (L2) (c2) (bf2) (bL2) (bc2) (pf2) (pl2) (pc2) (nx2) (sz2) (k2) (kf2) (ks2) (lf2) (ls2) (sf2) (sl2) (mf2) (rf2) (ty2) (pla2) (fro2) (to2) ++ rest))
  refine V_aload_n C dX0_become_0 rfl ?_
  refine vg_X0_12 C dX0_become_1 rfl rfl ?_
  refine V_aload_n C dX0_become_4 rfl ?_
  refine vg_X0_12 C dX0_become_5 rfl rfl ?_
  refine V_callN C lk_X0_47 (m_X2_become G (i := 27) (j := 28) (i2 := 10) (j2 := 11) ⟨rfl, rfl, rkf2, by omega, by omega⟩ ⟨rfl, rfl, rkf, by omega, by omega⟩ (by decide)) dX0_become_8 rfl rfl rfl rfl (by decide) (Nat.le_of_ble_eq_true rfl) (kO0 ?_)
  refine V_aload_n C dX0_become_11 rfl ?_
  refine V_aload_n C dX0_become_12 rfl ?_
  refine vg_X0_22 C dX0_become_13 rfl rfl ?_
  refine vp_X0_22 C dX0_become_16 rfl (Nat.le_of_ble_eq_true rfl) ?_
  refine V_aload_n C dX0_become_19 rfl ?_
  refine V_aload_n C dX0_become_20 rfl ?_
  refine vg_X0_25 C dX0_become_21 rfl rfl ?_
  refine vp_X0_25 C dX0_become_24 rfl (Nat.le_of_ble_eq_true rfl) ?_
  refine V_aload_n C dX0_become_27 rfl ?_
  refine V_aload_n C dX0_become_28 rfl ?_
  refine vg_X0_28 C dX0_become_29 rfl rfl ?_
  refine vp_X0_28 C dX0_become_32 rfl (Nat.le_of_ble_eq_true rfl) ?_
  refine V_aload_n C dX0_become_35 rfl ?_
  refine V_aload_n C dX0_become_36 rfl ?_
  refine vg_X0_31 C dX0_become_37 rfl rfl ?_
  refine vp_X0_31 C dX0_become_40 rfl (Nat.le_of_ble_eq_true rfl) ?_
  refine V_aload_n C dX0_become_43 rfl ?_
  refine V_aload_n C dX0_become_44 rfl ?_
  refine vg_X0_34 C dX0_become_45 rfl rfl ?_
  refine vp_X0_34 C dX0_become_48 rfl (Nat.le_of_ble_eq_true rfl) ?_
  refine V_aload_n C dX0_become_51 rfl ?_
  refine V_aload_n C dX0_become_52 rfl ?_
  refine vg_X0_37 C dX0_become_53 rfl rfl ?_
  refine vp_X0_37 C dX0_become_56 rfl (Nat.le_of_ble_eq_true rfl) ?_
  refine V_aload_n C dX0_become_59 rfl ?_
  refine V_aload_n C dX0_become_60 rfl ?_
  refine vg_X0_40 C dX0_become_61 rfl rfl ?_
  refine vp_X0_40 C dX0_become_64 rfl (Nat.le_of_ble_eq_true rfl) hk7 ?_
  refine V_aload_n C dX0_become_67 rfl ?_
  refine V_aload_n C dX0_become_68 rfl ?_
  refine vg_X0_44 C dX0_become_69 rfl rfl ?_
  refine vp_X0_44 C dX0_become_72 rfl (Nat.le_of_ble_eq_true rfl) ?_
  exact V_vret C R dX0_become_75 ⟨rfl, rfl⟩

set_option maxHeartbeats 4000000 in
set_option maxRecDepth 100000 in
theorem m_X1_become_kept (G : zG) {f bf pf pl pc k kf lf sf mf rf f2 bf2 pf2 pl2 pc2 k2 kf2 lf2 sf2 mf2 rf2 : Int → Int} {L c bL bc nx sz ks ls sl ty pla fro to L2 c2 bL2 bc2 nx2 sz2 ks2 ls2 sl2 ty2 pla2 fro2 to2 : Int} {rest : List va_E} (O : okD f L c bf bL bc pf pl pc nx sz k kf ks lf ls sf sl mf rf ty pla fro to) (O2 : okD f2 L2 c2 bf2 bL2 bc2 pf2 pl2 pc2 nx2 sz2 k2 kf2 ks2 lf2 ls2 sf2 sl2 mf2 rf2 ty2 pla2 fro2 to2) (hk7 : k 7 = 0 ∨ k 7 = 1) : zMet G yX1_become cX1_become 2 none 3 68 [.ref (G.ad 17), .ref (G.ad 0)] (dkL G (f) (L) (c) (bf) (bL) (bc) (pf) (pl) (pc) (nx) (sz) (k) (kf) (ks) (lf) (ls) (sf) (sl) (mf) (rf) (ty) (pla) (fro) (to) ++ (kpL G (f2) (L2) (c2) (bf2) (bL2) (bc2) (pf2) (pl2) (pc2) (nx2) (sz2) (k2) (kf2) (ks2) (lf2) (ls2) (sf2) (sl2) (mf2) (rf2) (ty2) (pla2) (fro2) (to2) ++ rest)) (zO0 (dkL G (f) (L) (c) (bf) (bL) (bc) (pf) (pl) (pc) (nx) (sz) (k) (kf) (ks) (lf) (ls) (sf) (sl) (mf) (rf) (ty) (pla) (fro) (to) ++ (kpL G (zcp f f2 0 0 60) (L) (c) (zcp bf bf2 0 0 60) (bL) (bc) (zcp pf pf2 0 0 480) (zcp pl pl2 0 0 8) (zcp pc pc2 0 0 8) (nx) (sz) (k) (zcp kf kf2 0 0 30) (ks) (zcp lf lf2 0 0 30) (ls) (zcp sf sf2 0 0 60) (sl) (zcp mf mf2 0 0 4) (zcp rf rf2 0 0 7) (ty) (pla2) (fro2) (to2) ++ rest))) := by
  refine zMet.of (by decide) (Nat.le_of_ble_eq_true rfl) ?_
  intro E C R
  have C : zC G E RX1 cX1_become 2 3 68 := C
  show V G E 0 [some (.ref (G.ad 17)), some (.ref (G.ad 0))] [] (dkL G (f) (L) (c) (bf) (bL) (bc) (pf) (pl) (pc) (nx) (sz) (k) (kf) (ks) (lf) (ls) (sf) (sl) (mf) (rf) (ty) (pla) (fro) (to) ++ (kpL G (f2) (L2) (c2) (bf2) (bL2) (bc2) (pf2) (pl2) (pc2) (nx2) (sz2) (k2) (kf2) (ks2) (lf2) (ls2) (sf2) (sl2) (mf2) (rf2) (ty2) (pla2) (fro2) (to2) ++ rest))
  obtain ⟨hf, hL, hc, hbf, hbL, hbc, hpf, hplc, hnx, hsz, hk, hk3, hk4, hkf, hks, hlf, hls, hsf, hsl, hmf, hrf, hty, hpa, hfr, hto, hcm⟩ := id O
  have hla := la_in hL.1
  have hlb := la_in hbL.1
  have rpl : ∀ j, rng (pl j) := fun j => by have := hplc j; omega
  have rpc : ∀ j, rng (pc j) := fun j => by have := hplc j; have := la_in (hplc j).1.1; omega
  have rkf : ∀ j, rng (kf j) := fun j => by have := hkf j; omega
  have rlf : ∀ j, rng (lf j) := fun j => by have := hlf j; omega
  have rmf : ∀ j, rng (mf j) := fun j => by have := hmf j; omega
  have gmf : ∀ j, -1 ≤ mf j := fun j => (hmf j).1
  obtain ⟨hf2, hL2, hc2, hbf2, hbL2, hbc2, hpf2, hplc2, hnx2, hsz2, hk2, hk32, hk42, hkf2, hks2, hlf2, hls2, hsf2, hsl2, hmf2, hrf2, hty2, hpa2, hfr2, hto2, hcm2⟩ := id O2
  have hla2 := la_in hL2.1
  have hlb2 := la_in hbL2.1
  have rpl2 : ∀ j, rng (pl2 j) := fun j => by have := hplc2 j; omega
  have rpc2 : ∀ j, rng (pc2 j) := fun j => by have := hplc2 j; have := la_in (hplc2 j).1.1; omega
  have rkf2 : ∀ j, rng (kf2 j) := fun j => by have := hkf2 j; omega
  have rlf2 : ∀ j, rng (lf2 j) := fun j => by have := hlf2 j; omega
  have rmf2 : ∀ j, rng (mf2 j) := fun j => by have := hmf2 j; omega
  have gmf2 : ∀ j, -1 ≤ mf2 j := fun j => (hmf2 j).1
  refine V_aload_n C dX1_become_0 rfl ?_
  refine vg_X1_12 C dX1_become_1 rfl rfl ?_
  refine V_aload_n C dX1_become_4 rfl ?_
  refine vg_X1_12 C dX1_become_5 rfl rfl ?_
  refine V_callN C lk_X1_52 (m_X5_become G (i := 18) (j := 19) (i2 := 1) (j2 := 2) ⟨rfl, rfl, hf2, by omega, by omega⟩ ⟨rfl, rfl, hf, by omega, by omega⟩ (by decide)) dX1_become_8 rfl rfl rfl rfl (by decide) (Nat.le_of_ble_eq_true rfl) (kO0 ?_)
  refine V_aload_n C dX1_become_11 rfl ?_
  refine vg_X1_18 C dX1_become_12 rfl rfl ?_
  refine V_aload_n C dX1_become_15 rfl ?_
  refine vg_X1_18 C dX1_become_16 rfl rfl ?_
  refine V_callN C lk_X1_52 (m_X5_become G (i := 20) (j := 21) (i2 := 3) (j2 := 4) ⟨rfl, rfl, hbf2, by omega, by omega⟩ ⟨rfl, rfl, hbf, by omega, by omega⟩ (by decide)) dX1_become_19 rfl rfl rfl rfl (by decide) (Nat.le_of_ble_eq_true rfl) (kO0 ?_)
  refine V_aload_n C dX1_become_22 rfl ?_
  refine vg_X1_24 C dX1_become_23 rfl rfl ?_
  refine V_aload_n C dX1_become_26 rfl ?_
  refine vg_X1_24 C dX1_become_27 rfl rfl ?_
  refine V_callN C lk_X1_56 (m_X3_become G (i := 22) (j1 := 23) (j2 := 24) (j3 := 25) (i2 := 5) (k1 := 6) (k2 := 7) (k3 := 8) ⟨rfl, rfl, rfl, rfl, hpf2, rpl2, rpc2, by omega, by omega, by omega, by omega, by decide, by decide, by decide⟩ ⟨rfl, rfl, rfl, rfl, hpf, rpl, rpc, by omega, by omega, by omega, by omega, by decide, by decide, by decide⟩ (by decide)) dX1_become_30 rfl rfl rfl rfl (by decide) (Nat.le_of_ble_eq_true rfl) (kO0 ?_)
  refine V_aload_n C dX1_become_33 rfl ?_
  refine vg_X1_31 C dX1_become_34 rfl rfl ?_
  refine V_aload_n C dX1_become_37 rfl ?_
  refine vg_X1_31 C dX1_become_38 rfl rfl ?_
  refine V_callN C lk_X1_59 (m_X0_become_kept G hk hk2 rkf rkf2 hks hks2 hk7) dX1_become_41 rfl rfl rfl rfl (by decide) (Nat.le_of_ble_eq_true rfl) (kO0 ?_)
  refine V_aload_n C dX1_become_44 rfl ?_
  refine vg_X1_38 C dX1_become_45 rfl rfl ?_
  refine V_aload_n C dX1_become_48 rfl ?_
  refine vg_X1_38 C dX1_become_49 rfl rfl ?_
  refine V_callN C lk_X1_62 (m_X2_become G (i := 29) (j := 30) (i2 := 12) (j2 := 13) ⟨rfl, rfl, rlf2, by omega, by omega⟩ ⟨rfl, rfl, rlf, by omega, by omega⟩ (by decide)) dX1_become_52 rfl rfl rfl rfl (by decide) (Nat.le_of_ble_eq_true rfl) (kO0 ?_)
  refine V_aload_n C dX1_become_55 rfl ?_
  refine vg_X1_42 C dX1_become_56 rfl rfl ?_
  refine V_iconst C dX1_become_59 ?_
  refine V_aload_n C dX1_become_60 rfl ?_
  refine vg_X1_42 C dX1_become_61 rfl rfl ?_
  refine V_iconst C dX1_become_64 ?_
  refine V_bipush C dX1_become_65 (by decide) ?_
  refine V_copyI C wm_X1_65 dX1_become_67 rfl rfl (by decide) (by decide) (by decide) (by decide) (by decide) (by decide) (by decide) (by decide) (Nat.le_of_ble_eq_true rfl) ?_
  refine V_aload_n C dX1_become_70 rfl ?_
  refine V_aload_n C dX1_become_71 rfl ?_
  refine vg_X1_71 C dX1_become_72 rfl rfl ?_
  refine vp_X1_71 C dX1_become_75 rfl (Nat.le_of_ble_eq_true rfl) ?_
  refine V_aload_n C dX1_become_78 rfl ?_
  refine vg_X1_46 C dX1_become_79 rfl rfl ?_
  refine V_iconst C dX1_become_82 ?_
  refine V_aload_n C dX1_become_83 rfl ?_
  refine vg_X1_46 C dX1_become_84 rfl rfl ?_
  refine V_iconst C dX1_become_87 ?_
  refine V_iconst C dX1_become_88 ?_
  refine V_copyI C wm_X1_65 dX1_become_89 rfl rfl (by decide) (by decide) (by decide) (by decide) (by decide) (by decide) (by decide) (by decide) (Nat.le_of_ble_eq_true rfl) ?_
  refine V_aload_n C dX1_become_92 rfl ?_
  refine vg_X1_49 C dX1_become_93 rfl rfl ?_
  refine V_iconst C dX1_become_96 ?_
  refine V_aload_n C dX1_become_97 rfl ?_
  refine vg_X1_49 C dX1_become_98 rfl rfl ?_
  refine V_iconst C dX1_become_101 ?_
  refine V_bipush C dX1_become_102 (by decide) ?_
  refine V_copyI C wm_X1_65 dX1_become_104 rfl rfl (by decide) (by decide) (by decide) (by decide) (by decide) (by decide) (by decide) (by decide) (Nat.le_of_ble_eq_true rfl) ?_
  refine V_aload_n C dX1_become_107 rfl ?_
  refine V_aload_n C dX1_become_108 rfl ?_
  refine vg_X1_75 C dX1_become_109 rfl rfl ?_
  refine vp_X1_75 C dX1_become_112 rfl (Nat.le_of_ble_eq_true rfl) (by omega) ?_
  exact V_vret C R dX1_become_115 ⟨rfl, rfl⟩
