/-! ===== ModalKeys: steps, farthest, struck ===== -/
def smN (f : Int → Int) : Nat → Int
  | 0 => 0
  | n + 1 => smN f n + f n
theorem smN_up {f : Int → Int} {i v : Int} (h0 : 0 ≤ i) : ∀ n : Nat, smN (zup f i v) n = smN f n + (if i < n then v - f i else 0)
  | 0 => by rw [if_neg (by omega)]; rfl
  | n + 1 => by
    rw [smN, smN, smN_up h0 n]
    unfold zup
    by_cases e : (n : Int) = i
    · rw [if_pos e, if_neg (by omega), if_pos (by omega), e]; omega
    · rw [if_neg e]
      by_cases e2 : i < n
      · rw [if_pos e2, if_pos (by omega)]; omega
      · rw [if_neg e2, if_neg (by omega)]; omega
theorem smN_0 {f : Int → Int} : ∀ n : Nat, (∀ j : Int, 0 ≤ j → j < n → 0 ≤ f j) → 0 ≤ smN f n
  | 0, _ => Int.le_refl _
  | n + 1, h => by
    have := smN_0 n (fun j h0 h1 => h j h0 (by omega))
    have := h n (by omega) (by omega)
    rw [smN]; omega
theorem smN_mono {f : Int → Int} : ∀ n : Nat, (∀ j : Int, 0 ≤ j → j < n → 0 ≤ f j) → ∀ m : Nat, m ≤ n → smN f m ≤ smN f n
  | 0, _, m, hm => by rw [show m = 0 by omega]; exact Int.le_refl _
  | n + 1, h, m, hm => by
    by_cases e : m = n + 1
    · rw [e]; exact Int.le_refl _
    · have a := smN_mono n (fun j h0 h1 => h j h0 (by omega)) m (by omega)
      have := h n (by omega) (by omega)
      rw [smN]; omega
theorem smN_at {f : Int → Int} {n : Nat} (h : ∀ j : Int, 0 ≤ j → j < n → 0 ≤ f j) {i : Int} (h0 : 0 ≤ i) (h1 : i < n) : f i ≤ smN f n := by
  have a := smN_mono n h (i.toNat + 1) (by omega)
  have b := smN_0 i.toNat (fun j h2 h3 => h j h2 (by omega))
  rw [smN, Int.toNat_of_nonneg h0] at a
  omega
theorem smN_cong {f g : Int → Int} : ∀ n : Nat, (∀ j : Int, 0 ≤ j → j < n → f j = g j) → smN f n = smN g n
  | 0, _ => rfl
  | n + 1, h => by rw [smN, smN, smN_cong n (fun j h0 h1 => h j h0 (by omega)), h n (by omega) (by omega)]
abbrev nn60 (f : Int → Int) : Prop := ∀ j : Int, 0 ≤ j → j < 60 → 0 ≤ f j
theorem psM_in {w : Int → Int → Int} {r : Int → Int} {p pl : Int} (hr : 0 ≤ r p) (hw : ∀ m, 0 ≤ m → m < 7 → 0 ≤ w m p ∧ w m p < pl) (hp : pl ≤ 60) : ∀ (k : Nat) (m : Int) (l : Int → Int), 0 ≤ m → nn60 l → nn60 (psM w r p k m l) ∧ smN (psM w r p k m l) 60 ≤ smN l 60 + k * r p
  | 0, m, l, _, h => ⟨h, by rw [psM]; omega⟩
  | k + 1, m, l, hm, h => by
    rw [psM]
    split
    · rename_i h7
      have hw1 := hw m hm h7
      have hl := h (w m p) hw1.1 (by omega)
      have h2 : nn60 (zup l (w m p) (l (w m p) + r p)) := fun j h0 h1 => by unfold zup; split; omega; exact h j h0 h1
      have ih := psM_in hr hw hp k (m + 1) _ (by omega) h2
      refine ⟨ih.1, ?_⟩
      have e := smN_up (f := l) (v := l (w m p) + r p) hw1.1 60
      rw [if_pos (show w m p < ((60 : Nat) : Int) by omega)] at e
      have e2 : ((k + 1 : Nat) : Int) * r p = k * r p + r p := by rw [Int.natCast_add, Int.add_mul]; omega
      rw [e2]
      omega
    · refine ⟨h, ?_⟩
      have : 0 ≤ ((k + 1 : Nat) : Int) * r p := Int.mul_nonneg (by omega) hr
      omega
theorem psP_in {w : Int → Int → Int} {r : Int → Int} {pl : Int} (hr : nn60 r) (hw : ∀ m p, 0 ≤ m → m < 7 → 0 ≤ p → p < pl → 0 ≤ w m p ∧ w m p < pl) (hp : pl ≤ 60) : ∀ (k : Nat) (p : Nat) (l : Int → Int), p + k ≤ 60 → nn60 l → nn60 (psP w r pl k p l) ∧ smN (psP w r pl k p l) 60 ≤ smN l 60 + 7 * (smN r (p + k) - smN r p)
  | 0, p, l, _, h => ⟨h, by rw [psP, Nat.add_zero]; omega⟩
  | k + 1, p, l, hk, h => by
    have hmono := smN_mono 60 hr (p + (k + 1)) (by omega)
    have hm2 := smN_mono (p + (k + 1)) (fun j h0 h1 => hr j h0 (by omega)) p (by omega)
    rw [psP]
    split
    · rename_i h7
      have hrp := hr p (by omega) (by omega)
      have a := psM_in (p := (p : Int)) hrp (fun m h0 h1 => hw m p h0 h1 (by omega) h7) hp 7 0 l (by omega) h
      have ih := psP_in hr hw hp k (p + 1) _ (by omega) a.1
      have e1 : ((p + 1 : Nat) : Int) = (p : Int) + 1 := by omega
      rw [e1] at ih
      refine ⟨ih.1, ?_⟩
      have e2 : smN r (p + 1) = smN r p + r p := rfl
      have e3 : p + 1 + k = p + (k + 1) := by omega
      rw [e3, e2] at ih
      have a2 := a.2
      have i2 := ih.2
      have e7 : ((7 : Nat) : Int) * r p = 7 * r p := rfl
      rw [e7] at a2
      omega
    · exact ⟨h, by omega⟩
theorem pw7 : ∀ k : Nat, (1 : Int) ≤ 7 ^ k
  | 0 => by decide
  | k + 1 => by rw [Int.pow_succ]; have := pw7 k; omega
theorem psR_in {w : Int → Int → Int} {pl n : Int} (hw : ∀ m p, 0 ≤ m → m < 7 → 0 ≤ p → p < pl → 0 ≤ w m p ∧ w m p < pl) (hp0 : 0 ≤ pl) (hp : pl ≤ 60) : ∀ (k : Nat) (i : Int) (r l : Int → Int) (B : Int), nn60 r → smN r 60 ≤ B → nn60 (psR w pl n k i r l) ∧ smN (psR w pl n k i r l) 60 ≤ B * 7 ^ k
  | 0, i, r, l, B, h, hB => ⟨h, by rw [psR, Int.pow_zero, Int.mul_one]; exact hB⟩
  | k + 1, i, r, l, B, h, hB => by
    have hB0 := smN_0 60 h
    rw [psR]
    split
    · have h0 : nn60 (ovr l 0 60 0) := fun j h0 h1 => by unfold ovr; rw [if_pos ⟨h0, h1⟩]; omega
      have z0 : smN (ovr l 0 60 0) 60 = 0 := by
        rw [smN_cong (g := fun _ => 0) 60 (fun j h0 h1 => by unfold ovr; rw [if_pos ⟨h0, by omega⟩])]
        rfl
      have a := psP_in h hw hp pl.toNat 0 (ovr l 0 60 0) (by omega) h0
      have hm := smN_mono 60 h (0 + pl.toNat) (by omega)
      have s0 : smN r 0 = 0 := rfl
      have a2 := a.2
      rw [z0, s0] at a2
      simp only [Int.natCast_zero] at a a2
      generalize psP w r pl pl.toNat 0 (ovr l 0 60 0) = q at a a2 ⊢
      have c1 : nn60 (zcp q r 0 0 60) := fun j h0 h1 => by unfold zcp; rw [if_pos ⟨h0, by omega⟩]; exact a.1 _ (by omega) (by omega)
      have c2 : smN (zcp q r 0 0 60) 60 = smN q 60 := smN_cong 60 (fun j h0 h1 => by unfold zcp; rw [if_pos ⟨h0, by omega⟩]; congr 1; omega)
      have ih := psR_in (n := n) hw hp0 hp k (i + 1) (zcp q r 0 0 60) q (B * 7) c1 (by rw [c2]; omega)
      refine ⟨ih.1, ?_⟩
      rw [Int.pow_succ, Int.mul_comm (7 ^ k) 7, ← Int.mul_assoc]
      exact ih.2
    · refine ⟨h, Int.le_trans hB ?_⟩
      have h1 : (1 : Int) ≤ 7 ^ (k + 1) := pw7 (k + 1)
      have h2 := Int.mul_le_mul_of_nonneg_left h1 (show 0 ≤ B by omega)
      rw [Int.mul_one] at h2
      exact h2
theorem ps_start (ro : Int → Int) {s : Int} (h0 : 0 ≤ s) (h1 : s < 60) : nn60 (zup (ovr ro 0 60 0) s 1) ∧ smN (zup (ovr ro 0 60 0) s 1) 60 = 1 := by
  constructor
  · intro j h2 h3
    unfold zup ovr
    split; omega
    rw [if_pos ⟨h2, h3⟩]; omega
  · rw [smN_up h0 60, if_pos (by omega)]
    rw [smN_cong (f := ovr ro 0 60 0) (g := fun _ => 0) 60 (fun j h0 h1 => by unfold ovr; rw [if_pos ⟨h0, by omega⟩])]
    unfold ovr
    rw [if_pos ⟨h0, h1⟩]
    rfl
/-- as long as it goes, 7 is taken out above; else it comes below -/
def skN (n : Int) : Nat → Int → Int → Int → Int × Int
  | 0, _, a, b => (a, b)
  | k + 1, i, a, b => if i < n then (if a % 7 = 0 then skN n k (i + 1) (a / 7) b else skN n k (i + 1) a (b * 7)) else (a, b)
theorem skN_1 {n i a b : Int} {k : Nat} (h : i < n) (h2 : a % 7 = 0) : skN n (k + 1) i a b = skN n k (i + 1) (a / 7) b := by rw [skN, if_pos h, if_pos h2]
theorem skN_2 {n i a b : Int} {k : Nat} (h : i < n) (h2 : a % 7 ≠ 0) : skN n (k + 1) i a b = skN n k (i + 1) a (b * 7) := by rw [skN, if_pos h, if_neg h2]
theorem skN_3 {n i a b : Int} {k : Nat} (h : ¬ i < n) : skN n k i a b = (a, b) := by cases k; rfl; exact if_neg h

set_option maxRecDepth 100000 in
theorem m_X7_steps (G : zG) {f bf pf pl pc k kf lf sf mf rf f2 bf2 pf2 pl2 pc2 k2 kf2 lf2 sf2 mf2 rf2 : Int → Int} {L c bL bc nx sz ks ls sl ty pla fro to L2 c2 bL2 bc2 nx2 sz2 ks2 ls2 sl2 ty2 pla2 fro2 to2 : Int} {rest : List va_E} {tp : Int → Int} {td hi : Int} {g : Int → Int → Int} {ln sn : Int → Int} {w : Int → Int → Int} {co ro lo : Int → Int} {pn : Int} (X : isW G (dkL G f L c bf bL bc pf pl pc nx sz k kf ks lf ls sf sl mf rf ty pla fro to ++ (kpL G f2 L2 c2 bf2 bL2 bc2 pf2 pl2 pc2 nx2 sz2 k2 kf2 ks2 lf2 ls2 sf2 sl2 mf2 rf2 ty2 pla2 fro2 to2 ++ (mkL G tp td hi g ln sn ++ rest))) w co ro lo pn) {p q : Int} (hp : rng p) (hq : rng q) (O : okD f L c bf bL bc pf pl pc nx sz k kf ks lf ls sf sl mf rf ty pla fro to) : zMet G yX7_steps cX7_steps 3 (some .int) 5 116 [.ref (G.ad 34), .int (iI p), .int (iI q)] (dkL G f L c bf bL bc pf pl pc nx sz k kf ks lf ls sf sl mf rf ty pla fro to ++ (kpL G f2 L2 c2 bf2 bL2 bc2 pf2 pl2 pc2 nx2 sz2 k2 kf2 ks2 lf2 ls2 sf2 sl2 mf2 rf2 ty2 pla2 fro2 to2 ++ (mkL G tp td hi g ln sn ++ rest))) (fun r cs2 => (¬ (-2 ≤ q ∧ 0 ≤ p ∧ p ≤ la L) ∧ zO (.int (iI (-1))) (dkL G f L c bf bL bc pf pl pc nx sz k kf ks lf ls sf sl mf rf ty pla fro to ++ (kpL G f2 L2 c2 bf2 bL2 bc2 pf2 pl2 pc2 nx2 sz2 k2 kf2 ks2 lf2 ls2 sf2 sl2 mf2 rf2 ty2 pla2 fro2 to2 ++ (mkL G tp td hi g ln sn ++ rest))) r cs2) ∨ ((-2 ≤ q ∧ 0 ≤ p ∧ p ≤ la L) ∧ ∃ z, r = some (.int (iI z)) ∧ ∃ w3 c4, (∀ m p, 0 ≤ m → m < 7 → 0 ≤ p → p ≤ la L → w3 m p = dd f L m p) ∧ c4 = (rR (knW 1 w3) (asW 1 w3) rf (la L + 1) 60 0 (zup (ovr co 0 60 1000000) (p) 0) 1).1 ∧ z = (if q = -2 then c4 (min c (la L)) else stN w3 c4 rf (la L + 1) p q 61 (min c (la L)) 0) ∧ smO (dkL G f L c bf bL bc pf pl pc nx sz k kf ks lf ls sf sl mf rf ty pla fro to ++ (kpL G f2 L2 c2 bf2 bL2 bc2 pf2 pl2 pc2 nx2 sz2 k2 kf2 ks2 lf2 ls2 sf2 sl2 mf2 rf2 ty2 pla2 fro2 to2 ++ (mkL G tp td hi g ln sn ++ rest))) cs2 ∧ ∃ co4 ro4 lo4 pl4, isW G cs2 w3 co4 ro4 lo4 pl4)) := by
  refine zMet.of (by decide) (Nat.le_of_ble_eq_true rfl) ?_
  intro E C R
  have C : zC G E RX7 cX7_steps 3 5 116 := C
  show V G E 0 [some (.ref (G.ad 34)), some (.int (iI p)), some (.int (iI q))] [] (dkL G f L c bf bL bc pf pl pc nx sz k kf ks lf ls sf sl mf rf ty pla fro to ++ (kpL G f2 L2 c2 bf2 bL2 bc2 pf2 pl2 pc2 nx2 sz2 k2 kf2 ks2 lf2 ls2 sf2 sl2 mf2 rf2 ty2 pla2 fro2 to2 ++ (mkL G tp td hi g ln sn ++ rest)))
  obtain ⟨hf, hL, hc, hbf, hbL, hbc, hpf, hplc, hnx, hsz, hk, hk3, hk4, hkf, hks, hlf, hls, hsf, hsl, hmf, hrf, hty, hpa, hfr, hto, hcm⟩ := id O
  have hla := la_in hL.1
  have hlb := la_in hbL.1
  have rpl : ∀ j, rng (pl j) := fun j => by have := hplc j; omega
  have rpc : ∀ j, rng (pc j) := fun j => by have := hplc j; have := la_in (hplc j).1.1; omega
  have rkf : ∀ j, rng (kf j) := fun j => by have := hkf j; omega
  have rlf : ∀ j, rng (lf j) := fun j => by have := hlf j; omega
  have rmf : ∀ j, rng (mf j) := fun j => by have := hmf j; omega
  have gmf : ∀ j, -1 ≤ mf j := fun j => (hmf j).1
  have hT : isT G (dkL G f L c bf bL bc pf pl pc nx sz k kf ks lf ls sf sl mf rf ty pla fro to ++ (kpL G f2 L2 c2 bf2 bL2 bc2 pf2 pl2 pc2 nx2 sz2 k2 kf2 ks2 lf2 ls2 sf2 sl2 mf2 rf2 ty2 pla2 fro2 to2 ++ (mkL G tp td hi g ln sn ++ rest))) 1 2 f L c := ⟨rfl, rfl, hf, by omega, by omega⟩
  have h16 : (dkL G f L c bf bL bc pf pl pc nx sz k kf ks lf ls sf sl mf rf ty pla fro to ++ (kpL G f2 L2 c2 bf2 bL2 bc2 pf2 pl2 pc2 nx2 sz2 k2 kf2 ks2 lf2 ls2 sf2 sl2 mf2 rf2 ty2 pla2 fro2 to2 ++ (mkL G tp td hi g ln sn ++ rest)))[16]? = some (zI G 7 rf) := rfl
  refine V_iload_n C dX7_steps_0 rfl ?_
  refine V_bipush C dX7_steps_1 (by decide) ?_
  refine V_icmp_lt (tgt := 20) C dX7_steps_3 (by decide) (by omega) (by omega) (fun c_3 => ?_) (fun c_3 => ?_)
  · skip
    refine V_iconst C dX7_steps_20 ?_
    exact V_iret C R dX7_steps_21 (Or.inl ⟨by omega, rfl, rfl⟩)
  · skip
    refine V_aload_n C dX7_steps_6 rfl ?_
    refine vg_X7_16 C dX7_steps_7 (by first | exact (sm.2 _ (by decide)).trans rfl | exact X3.1 | exact X3.2.2.2.1 | exact X.1 | rfl) rfl ?_
    refine vg_X7_49 C dX7_steps_10 (by first | exact (sm.2 _ (by decide)).trans rfl | exact X3.1 | exact X3.2.2.2.1 | exact X.1 | rfl) rfl ?_
    refine V_iload_n C dX7_steps_13 rfl ?_
    refine V_callN C lk_X7_121 (m_X5_canStand G (i := 1) (j := 2) hT hp) dX7_steps_14 rfl rfl (by first | exact (sm.2 _ (by decide)).trans rfl | exact X3.1 | exact X3.2.2.2.1 | exact X.1 | rfl) rfl (by decide) (Nat.le_of_ble_eq_true rfl) (kO ?_)
    refine V_if_neB (tgt := 22) C dX7_steps_17 (by decide) (fun c_17 => ?_) (fun c_17 => ?_)
    · skip
      refine V_aload_n C dX7_steps_22 rfl ?_
      refine vg_X7_26 C dX7_steps_23 (by first | exact (sm.2 _ (by decide)).trans rfl | exact X3.1 | exact X3.2.2.2.1 | exact X.1 | rfl) rfl ?_
      refine V_aload_n C dX7_steps_26 rfl ?_
      refine vg_X7_16 C dX7_steps_27 (by first | exact (sm.2 _ (by decide)).trans rfl | exact X3.1 | exact X3.2.2.2.1 | exact X.1 | rfl) rfl ?_
      refine vg_X7_49 C dX7_steps_30 (by first | exact (sm.2 _ (by decide)).trans rfl | exact X3.1 | exact X3.2.2.2.1 | exact X.1 | rfl) rfl ?_
      refine V_callN C lk_X7_124 (m_X6_survey G X hT) dX7_steps_33 rfl rfl (by first | exact (sm.2 _ (by decide)).trans rfl | exact X3.1 | exact X3.2.2.2.1 | exact X.1 | rfl) rfl (by decide) (Nat.le_of_ble_eq_true rfl) (kQ0 (fun cs3 h3 => ?_))
      obtain ⟨sm, w3, X3, hw3⟩ := h3
      have hwr : ∀ m p, 0 ≤ m → m < 7 → 0 ≤ p → p < la L + 1 → 0 ≤ w3 m p ∧ w3 m p < la L + 1 := fun m p a1 a2 a3 a4 => by rw [hw3 m p a1 a2 a3 (by omega)]; have := dd_in (f := f) (m := m) a3 (show p ≤ L by omega); omega
      have r16 : cs3[16]? = some (zI G 7 rf) := (sm.2 16 (by decide)).trans h16
      refine V_aload_n C dX7_steps_36 rfl ?_
      refine vg_X7_26 C dX7_steps_37 (by first | exact (sm.2 _ (by decide)).trans rfl | exact X3.1 | exact X3.2.2.2.1 | exact X.1 | rfl) rfl ?_
      refine V_iload_n C dX7_steps_40 rfl ?_
      refine V_iconst C dX7_steps_41 ?_
      refine V_aload_n C dX7_steps_42 rfl ?_
      refine vg_X7_16 C dX7_steps_43 (by first | exact (sm.2 _ (by decide)).trans rfl | exact X3.1 | exact X3.2.2.2.1 | exact X.1 | rfl) rfl ?_
      refine vg_X7_114 C dX7_steps_46 (by first | exact (sm.2 _ (by decide)).trans rfl | exact X3.1 | exact X3.2.2.2.1 | exact X.1 | rfl) rfl ?_
      refine V_callN C lk_X7_128 (m_X6_reckon G X3 r16 hrf hwr (by omega) (Or.inr rfl)) dX7_steps_49 rfl rfl (by first | exact (sm.2 _ (by decide)).trans rfl | exact X3.1 | exact X3.2.2.2.1 | exact X.1 | rfl) rfl (by decide) (Nat.le_of_ble_eq_true rfl) (kQ0 (fun cs4 h4 => ?_))
      obtain ⟨e4, rc4, ci4⟩ := h4
      subst e4
      have X4 := X3.co rc4
      have sm4 := sm.st (k := 54) (e := zI G 60 (rR (knW 1 w3) (asW 1 w3) rf (la L + 1) 60 0 (zup (ovr co 0 60 1000000) (p) 0) 1).1) (by decide) (by decide)
      have r164 : (cs3.set 54 (zI G 60 (rR (knW 1 w3) (asW 1 w3) rf (la L + 1) 60 0 (zup (ovr co 0 60 1000000) (p) 0) 1).1))[16]? = some (zI G 7 rf) := zs_ne (by decide) r16
      generalize hres : (rR (knW 1 w3) (asW 1 w3) rf (la L + 1) 60 0 (zup (ovr co 0 60 1000000) (p) 0) 1).1 = c4 at rc4 ci4 X4 sm4 r164 ⊢
      generalize cs3.set 54 (zI G 60 c4) = cs4 at X4 sm4 r164 ⊢
      have X3 := X4
      have sm := sm4
      refine V_iload_n C dX7_steps_52 rfl ?_
      refine V_bipush C dX7_steps_53 (by decide) ?_
      refine V_icmp_ne (tgt := 77) C dX7_steps_55 (by decide) (by omega) (by omega) (fun c_55 => ?_) (fun c_55 => ?_)
      · skip
        refine V_aload_n C dX7_steps_77 rfl ?_
        refine vg_X7_26 C dX7_steps_78 (by first | exact (sm.2 _ (by decide)).trans rfl | exact X3.1 | exact X3.2.2.2.1 | exact X.1 | rfl) rfl ?_
        refine V_aload_n C dX7_steps_81 rfl ?_
        refine vg_X7_16 C dX7_steps_82 (by first | exact (sm.2 _ (by decide)).trans rfl | exact X3.1 | exact X3.2.2.2.1 | exact X.1 | rfl) rfl ?_
        refine vg_X7_49 C dX7_steps_85 (by first | exact (sm.2 _ (by decide)).trans rfl | exact X3.1 | exact X3.2.2.2.1 | exact X.1 | rfl) rfl ?_
        refine V_callN C lk_X7_135 (m_X5_standing G (i := 1) (j := 2) (sm.T hT) (by omega)) dX7_steps_88 rfl rfl (by first | exact (sm.2 _ (by decide)).trans rfl | exact X3.1 | exact X3.2.2.2.1 | exact X.1 | rfl) rfl (by decide) (Nat.le_of_ble_eq_true rfl) (kO ?_)
        refine V_iload_n C dX7_steps_91 rfl ?_
        refine V_iload_n C dX7_steps_92 rfl ?_
        refine V_aload_n C dX7_steps_93 rfl ?_
        refine vg_X7_16 C dX7_steps_94 (by first | exact (sm.2 _ (by decide)).trans rfl | exact X3.1 | exact X3.2.2.2.1 | exact X.1 | rfl) rfl ?_
        refine vg_X7_114 C dX7_steps_97 (by first | exact (sm.2 _ (by decide)).trans rfl | exact X3.1 | exact X3.2.2.2.1 | exact X.1 | rfl) rfl ?_
        refine V_callN C lk_X7_138 (m_X6_stepOf G X4 r164 hrf hwr ci4 (by omega) (by omega) hq) dX7_steps_100 rfl rfl (by first | exact (sm.2 _ (by decide)).trans rfl | exact X3.1 | exact X3.2.2.2.1 | exact X.1 | rfl) rfl (by decide) (Nat.le_of_ble_eq_true rfl) (kO ?_)
        exact V_iret C R dX7_steps_103 (Or.inr ⟨by omega, _, rfl, w3, c4, hw3, hres.symm, by rw [if_neg (by omega)], sm, _, _, _, _, X3⟩)
      · skip
        refine V_aload_n C dX7_steps_58 rfl ?_
        refine vg_X7_26 C dX7_steps_59 (by first | exact (sm.2 _ (by decide)).trans rfl | exact X3.1 | exact X3.2.2.2.1 | exact X.1 | rfl) rfl ?_
        refine vg_X7_132 C dX7_steps_62 (by first | exact (sm.2 _ (by decide)).trans rfl | exact X3.1 | exact X3.2.2.2.1 | exact X.1 | rfl) rfl ?_
        refine V_aload_n C dX7_steps_65 rfl ?_
        refine vg_X7_16 C dX7_steps_66 (by first | exact (sm.2 _ (by decide)).trans rfl | exact X3.1 | exact X3.2.2.2.1 | exact X.1 | rfl) rfl ?_
        refine vg_X7_49 C dX7_steps_69 (by first | exact (sm.2 _ (by decide)).trans rfl | exact X3.1 | exact X3.2.2.2.1 | exact X.1 | rfl) rfl ?_
        refine V_callN C lk_X7_135 (m_X5_standing G (i := 1) (j := 2) (sm.T hT) (by omega)) dX7_steps_72 rfl rfl (by first | exact (sm.2 _ (by decide)).trans rfl | exact X3.1 | exact X3.2.2.2.1 | exact X.1 | rfl) rfl (by decide) (Nat.le_of_ble_eq_true rfl) (kO ?_)
        refine V_iald C dX7_steps_75 (by first | exact (sm.2 _ (by decide)).trans rfl | exact X3.1 | exact X3.2.2.2.1 | exact X.1 | rfl) (by omega) (by omega) (by decide) rc4 (fun r_75 => ?_)
        exact V_iret C R dX7_steps_76 (Or.inr ⟨by omega, _, rfl, w3, c4, hw3, hres.symm, by rw [if_pos (by omega)], sm, _, _, _, _, X3⟩)
    · skip
      refine V_iconst C dX7_steps_20 ?_
      exact V_iret C R dX7_steps_21 (Or.inl ⟨by omega, rfl, rfl⟩)

theorem drN_in {c : Int → Int} {n : Int} (hn : 0 ≤ n ∧ n ≤ 60) : ∀ (k : Nat) (p b : Int), 0 ≤ p → 0 ≤ b → b < 60 → 0 ≤ drN c n k p b ∧ drN c n k p b < 60
  | 0, p, b, _, h, h2 => ⟨h, h2⟩
  | k + 1, p, b, hp, h, h2 => by
    rw [drN]
    split
    · exact drN_in hn k (p + 1) _ (by omega) (by split <;> omega) (by split <;> omega)
    · exact ⟨h, h2⟩

set_option maxRecDepth 100000 in
theorem m_X7_farthest (G : zG) {f bf pf pl pc k kf lf sf mf rf f2 bf2 pf2 pl2 pc2 k2 kf2 lf2 sf2 mf2 rf2 : Int → Int} {L c bL bc nx sz ks ls sl ty pla fro to L2 c2 bL2 bc2 nx2 sz2 ks2 ls2 sl2 ty2 pla2 fro2 to2 : Int} {rest : List va_E} {tp : Int → Int} {td hi : Int} {g : Int → Int → Int} {ln sn : Int → Int} {w : Int → Int → Int} {co ro lo : Int → Int} {pn : Int} (X : isW G (dkL G f L c bf bL bc pf pl pc nx sz k kf ks lf ls sf sl mf rf ty pla fro to ++ (kpL G f2 L2 c2 bf2 bL2 bc2 pf2 pl2 pc2 nx2 sz2 k2 kf2 ks2 lf2 ls2 sf2 sl2 mf2 rf2 ty2 pla2 fro2 to2 ++ (mkL G tp td hi g ln sn ++ rest))) w co ro lo pn) {q : Int} (hq : rng q) (O : okD f L c bf bL bc pf pl pc nx sz k kf ks lf ls sf sl mf rf ty pla fro to) : zMet G yX7_farthest cX7_farthest 3 (some .int) 5 116 [.ref (G.ad 34), .int (iI q)] (dkL G f L c bf bL bc pf pl pc nx sz k kf ks lf ls sf sl mf rf ty pla fro to ++ (kpL G f2 L2 c2 bf2 bL2 bc2 pf2 pl2 pc2 nx2 sz2 k2 kf2 ks2 lf2 ls2 sf2 sl2 mf2 rf2 ty2 pla2 fro2 to2 ++ (mkL G tp td hi g ln sn ++ rest))) (fun r cs2 => (¬ (q = 0 ∨ q = 1) ∧ zO (.int (iI (-1))) (dkL G f L c bf bL bc pf pl pc nx sz k kf ks lf ls sf sl mf rf ty pla fro to ++ (kpL G f2 L2 c2 bf2 bL2 bc2 pf2 pl2 pc2 nx2 sz2 k2 kf2 ks2 lf2 ls2 sf2 sl2 mf2 rf2 ty2 pla2 fro2 to2 ++ (mkL G tp td hi g ln sn ++ rest))) r cs2) ∨ ((q = 0 ∨ q = 1) ∧ ∃ z, r = some (.int (iI z)) ∧ ∃ w3 c4, (∀ m p, 0 ≤ m → m < 7 → 0 ≤ p → p ≤ la L → w3 m p = dd f L m p) ∧ c4 = (rR (knW 0 w3) (asW 0 w3) rf (la L + 1) 60 0 (zup (ovr co 0 60 1000000) ((min c (la L))) 0) 1).1 ∧ z = (if q = 0 then c4 (drN c4 (la L + 1) 60 1 0) else drN c4 (la L + 1) 60 1 0) ∧ smO (dkL G f L c bf bL bc pf pl pc nx sz k kf ks lf ls sf sl mf rf ty pla fro to ++ (kpL G f2 L2 c2 bf2 bL2 bc2 pf2 pl2 pc2 nx2 sz2 k2 kf2 ks2 lf2 ls2 sf2 sl2 mf2 rf2 ty2 pla2 fro2 to2 ++ (mkL G tp td hi g ln sn ++ rest))) cs2 ∧ ∃ co4 ro4 lo4 pl4, isW G cs2 w3 co4 ro4 lo4 pl4)) := by
  refine zMet.of (by decide) (Nat.le_of_ble_eq_true rfl) ?_
  intro E C R
  have C : zC G E RX7 cX7_farthest 3 5 116 := C
  show V G E 0 [some (.ref (G.ad 34)), some (.int (iI q)), none] [] (dkL G f L c bf bL bc pf pl pc nx sz k kf ks lf ls sf sl mf rf ty pla fro to ++ (kpL G f2 L2 c2 bf2 bL2 bc2 pf2 pl2 pc2 nx2 sz2 k2 kf2 ks2 lf2 ls2 sf2 sl2 mf2 rf2 ty2 pla2 fro2 to2 ++ (mkL G tp td hi g ln sn ++ rest)))
  obtain ⟨hf, hL, hc, hbf, hbL, hbc, hpf, hplc, hnx, hsz, hk, hk3, hk4, hkf, hks, hlf, hls, hsf, hsl, hmf, hrf, hty, hpa, hfr, hto, hcm⟩ := id O
  have hla := la_in hL.1
  have hlb := la_in hbL.1
  have rpl : ∀ j, rng (pl j) := fun j => by have := hplc j; omega
  have rpc : ∀ j, rng (pc j) := fun j => by have := hplc j; have := la_in (hplc j).1.1; omega
  have rkf : ∀ j, rng (kf j) := fun j => by have := hkf j; omega
  have rlf : ∀ j, rng (lf j) := fun j => by have := hlf j; omega
  have rmf : ∀ j, rng (mf j) := fun j => by have := hmf j; omega
  have gmf : ∀ j, -1 ≤ mf j := fun j => (hmf j).1
  have hT : isT G (dkL G f L c bf bL bc pf pl pc nx sz k kf ks lf ls sf sl mf rf ty pla fro to ++ (kpL G f2 L2 c2 bf2 bL2 bc2 pf2 pl2 pc2 nx2 sz2 k2 kf2 ks2 lf2 ls2 sf2 sl2 mf2 rf2 ty2 pla2 fro2 to2 ++ (mkL G tp td hi g ln sn ++ rest))) 1 2 f L c := ⟨rfl, rfl, hf, by omega, by omega⟩
  have h16 : (dkL G f L c bf bL bc pf pl pc nx sz k kf ks lf ls sf sl mf rf ty pla fro to ++ (kpL G f2 L2 c2 bf2 bL2 bc2 pf2 pl2 pc2 nx2 sz2 k2 kf2 ks2 lf2 ls2 sf2 sl2 mf2 rf2 ty2 pla2 fro2 to2 ++ (mkL G tp td hi g ln sn ++ rest)))[16]? = some (zI G 7 rf) := rfl
  refine V_iload_n C dX7_farthest_0 rfl ?_
  refine V_if_eq (tgt := 11) C dX7_farthest_1 (by decide) (by omega) (fun c_1 => ?_) (fun c_1 => ?_)
  · skip
    refine V_aload_n C dX7_farthest_11 rfl ?_
    refine vg_X7_26 C dX7_farthest_12 (by first | exact (sm.2 _ (by decide)).trans rfl | exact X3.1 | exact X3.2.2.2.1 | exact X.1 | rfl) rfl ?_
    refine V_aload_n C dX7_farthest_15 rfl ?_
    refine vg_X7_16 C dX7_farthest_16 (by first | exact (sm.2 _ (by decide)).trans rfl | exact X3.1 | exact X3.2.2.2.1 | exact X.1 | rfl) rfl ?_
    refine vg_X7_49 C dX7_farthest_19 (by first | exact (sm.2 _ (by decide)).trans rfl | exact X3.1 | exact X3.2.2.2.1 | exact X.1 | rfl) rfl ?_
    refine V_callN C lk_X7_124 (m_X6_survey G X hT) dX7_farthest_22 rfl rfl (by first | exact (sm.2 _ (by decide)).trans rfl | exact X3.1 | exact X3.2.2.2.1 | exact X.1 | rfl) rfl (by decide) (Nat.le_of_ble_eq_true rfl) (kQ0 (fun cs3 h3 => ?_))
    obtain ⟨sm, w3, X3, hw3⟩ := h3
    have hwr : ∀ m p, 0 ≤ m → m < 7 → 0 ≤ p → p < la L + 1 → 0 ≤ w3 m p ∧ w3 m p < la L + 1 := fun m p a1 a2 a3 a4 => by rw [hw3 m p a1 a2 a3 (by omega)]; have := dd_in (f := f) (m := m) a3 (show p ≤ L by omega); omega
    have r16 : cs3[16]? = some (zI G 7 rf) := (sm.2 16 (by decide)).trans h16
    refine V_aload_n C dX7_farthest_25 rfl ?_
    refine vg_X7_26 C dX7_farthest_26 (by first | exact (sm.2 _ (by decide)).trans rfl | exact X3.1 | exact X3.2.2.2.1 | exact X.1 | rfl) rfl ?_
    refine V_aload_n C dX7_farthest_29 rfl ?_
    refine vg_X7_16 C dX7_farthest_30 (by first | exact (sm.2 _ (by decide)).trans rfl | exact X3.1 | exact X3.2.2.2.1 | exact X.1 | rfl) rfl ?_
    refine vg_X7_49 C dX7_farthest_33 (by first | exact (sm.2 _ (by decide)).trans rfl | exact X3.1 | exact X3.2.2.2.1 | exact X.1 | rfl) rfl ?_
    refine V_callN C lk_X7_135 (m_X5_standing G (i := 1) (j := 2) (sm.T hT) (by omega)) dX7_farthest_36 rfl rfl (by first | exact (sm.2 _ (by decide)).trans rfl | exact X3.1 | exact X3.2.2.2.1 | exact X.1 | rfl) rfl (by decide) (Nat.le_of_ble_eq_true rfl) (kO ?_)
    refine V_iconst C dX7_farthest_39 ?_
    refine V_aload_n C dX7_farthest_40 rfl ?_
    refine vg_X7_16 C dX7_farthest_41 (by first | exact (sm.2 _ (by decide)).trans rfl | exact X3.1 | exact X3.2.2.2.1 | exact X.1 | rfl) rfl ?_
    refine vg_X7_114 C dX7_farthest_44 (by first | exact (sm.2 _ (by decide)).trans rfl | exact X3.1 | exact X3.2.2.2.1 | exact X.1 | rfl) rfl ?_
    refine V_callN C lk_X7_128 (m_X6_reckon G X3 r16 hrf hwr (by omega) (Or.inl rfl)) dX7_farthest_47 rfl rfl (by first | exact (sm.2 _ (by decide)).trans rfl | exact X3.1 | exact X3.2.2.2.1 | exact X.1 | rfl) rfl (by decide) (Nat.le_of_ble_eq_true rfl) (kQ0 (fun cs4 h4 => ?_))
    obtain ⟨e4, rc4, ci4⟩ := h4
    subst e4
    have X4 := X3.co rc4
    have sm4 := sm.st (k := 54) (e := zI G 60 (rR (knW 0 w3) (asW 0 w3) rf (la L + 1) 60 0 (zup (ovr co 0 60 1000000) ((min c (la L))) 0) 1).1) (by decide) (by decide)
    have r164 : (cs3.set 54 (zI G 60 (rR (knW 0 w3) (asW 0 w3) rf (la L + 1) 60 0 (zup (ovr co 0 60 1000000) ((min c (la L))) 0) 1).1))[16]? = some (zI G 7 rf) := zs_ne (by decide) r16
    generalize hres : (rR (knW 0 w3) (asW 0 w3) rf (la L + 1) 60 0 (zup (ovr co 0 60 1000000) ((min c (la L))) 0) 1).1 = c4 at rc4 ci4 X4 sm4 r164 ⊢
    generalize cs3.set 54 (zI G 60 c4) = cs4 at X4 sm4 r164 ⊢
    have X3 := X4
    have sm := sm4
    have hdr := drN_in (c := c4) (show 0 ≤ la L + 1 ∧ la L + 1 ≤ 60 by omega) 60 1 0 (by decide) (by decide) (by decide)
    refine V_aload_n C dX7_farthest_50 rfl ?_
    refine vg_X7_26 C dX7_farthest_51 (by first | exact (sm.2 _ (by decide)).trans rfl | exact X3.1 | exact X3.2.2.2.1 | exact X.1 | rfl) rfl ?_
    refine V_callN C lk_X7_142 (m_X6_dearest G X4) dX7_farthest_54 rfl rfl (by first | exact (sm.2 _ (by decide)).trans rfl | exact X3.1 | exact X3.2.2.2.1 | exact X.1 | rfl) rfl (by decide) (Nat.le_of_ble_eq_true rfl) (kO ?_)
    refine V_istore_n C dX7_farthest_57 (by decide) rfl ?_
    refine V_iload_n C dX7_farthest_58 rfl ?_
    refine V_if_ne (tgt := 74) C dX7_farthest_59 (by decide) (by omega) (fun c_59 => ?_) (fun c_59 => ?_)
    · skip
      refine V_iload_n C dX7_farthest_74 rfl ?_
      exact V_iret C R dX7_farthest_75 (by first | (exfalso; omega) | exact (Or.inr ⟨by omega, _, rfl, w3, c4, hw3, hres.symm, by first | rw [if_pos (by omega)] | rw [if_neg (by omega)], sm, _, _, _, _, X3⟩))
    · skip
      refine V_aload_n C dX7_farthest_62 rfl ?_
      refine vg_X7_26 C dX7_farthest_63 (by first | exact (sm.2 _ (by decide)).trans rfl | exact X3.1 | exact X3.2.2.2.1 | exact X.1 | rfl) rfl ?_
      refine vg_X7_132 C dX7_farthest_66 (by first | exact (sm.2 _ (by decide)).trans rfl | exact X3.1 | exact X3.2.2.2.1 | exact X.1 | rfl) rfl ?_
      refine V_iload_n C dX7_farthest_69 rfl ?_
      refine V_iald C dX7_farthest_70 (by first | exact (sm.2 _ (by decide)).trans rfl | exact X3.1 | exact X3.2.2.2.1 | exact X.1 | rfl) (by omega) (by omega) (by decide) rc4 (fun r_70 => ?_)
      refine V_goto (tgt := 75) C dX7_farthest_71 (by decide) ?_
      exact V_iret C R dX7_farthest_75 (by first | (exfalso; omega) | exact (Or.inr ⟨by omega, _, rfl, w3, c4, hw3, hres.symm, by first | rw [if_pos (by omega)] | rw [if_neg (by omega)], sm, _, _, _, _, X3⟩))
  · skip
    refine V_iload_n C dX7_farthest_4 rfl ?_
    refine V_iconst C dX7_farthest_5 ?_
    refine V_icmp_eq (tgt := 11) C dX7_farthest_6 (by decide) (by omega) (by omega) (fun c_6 => ?_) (fun c_6 => ?_)
    · skip
      refine V_aload_n C dX7_farthest_11 rfl ?_
      refine vg_X7_26 C dX7_farthest_12 (by first | exact (sm.2 _ (by decide)).trans rfl | exact X3.1 | exact X3.2.2.2.1 | exact X.1 | rfl) rfl ?_
      refine V_aload_n C dX7_farthest_15 rfl ?_
      refine vg_X7_16 C dX7_farthest_16 (by first | exact (sm.2 _ (by decide)).trans rfl | exact X3.1 | exact X3.2.2.2.1 | exact X.1 | rfl) rfl ?_
      refine vg_X7_49 C dX7_farthest_19 (by first | exact (sm.2 _ (by decide)).trans rfl | exact X3.1 | exact X3.2.2.2.1 | exact X.1 | rfl) rfl ?_
      refine V_callN C lk_X7_124 (m_X6_survey G X hT) dX7_farthest_22 rfl rfl (by first | exact (sm.2 _ (by decide)).trans rfl | exact X3.1 | exact X3.2.2.2.1 | exact X.1 | rfl) rfl (by decide) (Nat.le_of_ble_eq_true rfl) (kQ0 (fun cs3 h3 => ?_))
      obtain ⟨sm, w3, X3, hw3⟩ := h3
      have hwr : ∀ m p, 0 ≤ m → m < 7 → 0 ≤ p → p < la L + 1 → 0 ≤ w3 m p ∧ w3 m p < la L + 1 := fun m p a1 a2 a3 a4 => by rw [hw3 m p a1 a2 a3 (by omega)]; have := dd_in (f := f) (m := m) a3 (show p ≤ L by omega); omega
      have r16 : cs3[16]? = some (zI G 7 rf) := (sm.2 16 (by decide)).trans h16
      refine V_aload_n C dX7_farthest_25 rfl ?_
      refine vg_X7_26 C dX7_farthest_26 (by first | exact (sm.2 _ (by decide)).trans rfl | exact X3.1 | exact X3.2.2.2.1 | exact X.1 | rfl) rfl ?_
      refine V_aload_n C dX7_farthest_29 rfl ?_
      refine vg_X7_16 C dX7_farthest_30 (by first | exact (sm.2 _ (by decide)).trans rfl | exact X3.1 | exact X3.2.2.2.1 | exact X.1 | rfl) rfl ?_
      refine vg_X7_49 C dX7_farthest_33 (by first | exact (sm.2 _ (by decide)).trans rfl | exact X3.1 | exact X3.2.2.2.1 | exact X.1 | rfl) rfl ?_
      refine V_callN C lk_X7_135 (m_X5_standing G (i := 1) (j := 2) (sm.T hT) (by omega)) dX7_farthest_36 rfl rfl (by first | exact (sm.2 _ (by decide)).trans rfl | exact X3.1 | exact X3.2.2.2.1 | exact X.1 | rfl) rfl (by decide) (Nat.le_of_ble_eq_true rfl) (kO ?_)
      refine V_iconst C dX7_farthest_39 ?_
      refine V_aload_n C dX7_farthest_40 rfl ?_
      refine vg_X7_16 C dX7_farthest_41 (by first | exact (sm.2 _ (by decide)).trans rfl | exact X3.1 | exact X3.2.2.2.1 | exact X.1 | rfl) rfl ?_
      refine vg_X7_114 C dX7_farthest_44 (by first | exact (sm.2 _ (by decide)).trans rfl | exact X3.1 | exact X3.2.2.2.1 | exact X.1 | rfl) rfl ?_
      refine V_callN C lk_X7_128 (m_X6_reckon G X3 r16 hrf hwr (by omega) (Or.inl rfl)) dX7_farthest_47 rfl rfl (by first | exact (sm.2 _ (by decide)).trans rfl | exact X3.1 | exact X3.2.2.2.1 | exact X.1 | rfl) rfl (by decide) (Nat.le_of_ble_eq_true rfl) (kQ0 (fun cs4 h4 => ?_))
      obtain ⟨e4, rc4, ci4⟩ := h4
      subst e4
      have X4 := X3.co rc4
      have sm4 := sm.st (k := 54) (e := zI G 60 (rR (knW 0 w3) (asW 0 w3) rf (la L + 1) 60 0 (zup (ovr co 0 60 1000000) ((min c (la L))) 0) 1).1) (by decide) (by decide)
      have r164 : (cs3.set 54 (zI G 60 (rR (knW 0 w3) (asW 0 w3) rf (la L + 1) 60 0 (zup (ovr co 0 60 1000000) ((min c (la L))) 0) 1).1))[16]? = some (zI G 7 rf) := zs_ne (by decide) r16
      generalize hres : (rR (knW 0 w3) (asW 0 w3) rf (la L + 1) 60 0 (zup (ovr co 0 60 1000000) ((min c (la L))) 0) 1).1 = c4 at rc4 ci4 X4 sm4 r164 ⊢
      generalize cs3.set 54 (zI G 60 c4) = cs4 at X4 sm4 r164 ⊢
      have X3 := X4
      have sm := sm4
      have hdr := drN_in (c := c4) (show 0 ≤ la L + 1 ∧ la L + 1 ≤ 60 by omega) 60 1 0 (by decide) (by decide) (by decide)
      refine V_aload_n C dX7_farthest_50 rfl ?_
      refine vg_X7_26 C dX7_farthest_51 (by first | exact (sm.2 _ (by decide)).trans rfl | exact X3.1 | exact X3.2.2.2.1 | exact X.1 | rfl) rfl ?_
      refine V_callN C lk_X7_142 (m_X6_dearest G X4) dX7_farthest_54 rfl rfl (by first | exact (sm.2 _ (by decide)).trans rfl | exact X3.1 | exact X3.2.2.2.1 | exact X.1 | rfl) rfl (by decide) (Nat.le_of_ble_eq_true rfl) (kO ?_)
      refine V_istore_n C dX7_farthest_57 (by decide) rfl ?_
      refine V_iload_n C dX7_farthest_58 rfl ?_
      refine V_if_ne (tgt := 74) C dX7_farthest_59 (by decide) (by omega) (fun c_59 => ?_) (fun c_59 => ?_)
      · skip
        refine V_iload_n C dX7_farthest_74 rfl ?_
        exact V_iret C R dX7_farthest_75 (by first | (exfalso; omega) | exact (Or.inr ⟨by omega, _, rfl, w3, c4, hw3, hres.symm, by first | rw [if_pos (by omega)] | rw [if_neg (by omega)], sm, _, _, _, _, X3⟩))
      · skip
        refine V_aload_n C dX7_farthest_62 rfl ?_
        refine vg_X7_26 C dX7_farthest_63 (by first | exact (sm.2 _ (by decide)).trans rfl | exact X3.1 | exact X3.2.2.2.1 | exact X.1 | rfl) rfl ?_
        refine vg_X7_132 C dX7_farthest_66 (by first | exact (sm.2 _ (by decide)).trans rfl | exact X3.1 | exact X3.2.2.2.1 | exact X.1 | rfl) rfl ?_
        refine V_iload_n C dX7_farthest_69 rfl ?_
        refine V_iald C dX7_farthest_70 (by first | exact (sm.2 _ (by decide)).trans rfl | exact X3.1 | exact X3.2.2.2.1 | exact X.1 | rfl) (by omega) (by omega) (by decide) rc4 (fun r_70 => ?_)
        refine V_goto (tgt := 75) C dX7_farthest_71 (by decide) ?_
        exact V_iret C R dX7_farthest_75 (by first | (exfalso; omega) | exact (Or.inr ⟨by omega, _, rfl, w3, c4, hw3, hres.symm, by first | rw [if_pos (by omega)] | rw [if_neg (by omega)], sm, _, _, _, _, X3⟩))
    · skip
      refine V_iconst C dX7_farthest_9 ?_
      exact V_iret C R dX7_farthest_10 (Or.inl ⟨by omega, rfl, rfl⟩)

set_option maxRecDepth 100000 in
theorem m_X7_struck (G : zG) {f bf pf pl pc k kf lf sf mf rf f2 bf2 pf2 pl2 pc2 k2 kf2 lf2 sf2 mf2 rf2 : Int → Int} {L c bL bc nx sz ks ls sl ty pla fro to L2 c2 bL2 bc2 nx2 sz2 ks2 ls2 sl2 ty2 pla2 fro2 to2 : Int} {rest : List va_E} {tp : Int → Int} {td hi : Int} {g : Int → Int → Int} {ln sn : Int → Int} {w : Int → Int → Int} {co ro lo : Int → Int} {pn : Int} (X : isW G (dkL G f L c bf bL bc pf pl pc nx sz k kf ks lf ls sf sl mf rf ty pla fro to ++ (kpL G f2 L2 c2 bf2 bL2 bc2 pf2 pl2 pc2 nx2 sz2 k2 kf2 ks2 lf2 ls2 sf2 sl2 mf2 rf2 ty2 pla2 fro2 to2 ++ (mkL G tp td hi g ln sn ++ rest))) w co ro lo pn) {p n q : Int} (hp : rng p) (hn : rng n) (hq : rng q) (O : okD f L c bf bL bc pf pl pc nx sz k kf ks lf ls sf sl mf rf ty pla fro to) : zMet G yX7_struck cX7_struck 8 (some .int) 5 116 [.ref (G.ad 34), .int (iI p), .int (iI n), .int (iI q)] (dkL G f L c bf bL bc pf pl pc nx sz k kf ks lf ls sf sl mf rf ty pla fro to ++ (kpL G f2 L2 c2 bf2 bL2 bc2 pf2 pl2 pc2 nx2 sz2 k2 kf2 ks2 lf2 ls2 sf2 sl2 mf2 rf2 ty2 pla2 fro2 to2 ++ (mkL G tp td hi g ln sn ++ rest))) (fun r cs2 => (¬ ((0 ≤ n ∧ n ≤ 4) ∧ (q = 0 ∨ q = 1) ∧ 0 ≤ p ∧ p ≤ la L) ∧ zO (.int (iI (-1))) (dkL G f L c bf bL bc pf pl pc nx sz k kf ks lf ls sf sl mf rf ty pla fro to ++ (kpL G f2 L2 c2 bf2 bL2 bc2 pf2 pl2 pc2 nx2 sz2 k2 kf2 ks2 lf2 ls2 sf2 sl2 mf2 rf2 ty2 pla2 fro2 to2 ++ (mkL G tp td hi g ln sn ++ rest))) r cs2) ∨ (((0 ≤ n ∧ n ≤ 4) ∧ (q = 0 ∨ q = 1) ∧ 0 ≤ p ∧ p ≤ la L) ∧ ∃ z, r = some (.int (iI z)) ∧ ∃ w3, (∀ m p, 0 ≤ m → m < 7 → 0 ≤ p → p ≤ la L → w3 m p = dd f L m p) ∧ z = (if q = 0 then (skN n 4 0 (psR w3 (la L + 1) n 4 0 (zup (ovr ro 0 60 0) (min c (la L)) 1) lo p) 1).1 else (skN n 4 0 (psR w3 (la L + 1) n 4 0 (zup (ovr ro 0 60 0) (min c (la L)) 1) lo p) 1).2) ∧ smO (dkL G f L c bf bL bc pf pl pc nx sz k kf ks lf ls sf sl mf rf ty pla fro to ++ (kpL G f2 L2 c2 bf2 bL2 bc2 pf2 pl2 pc2 nx2 sz2 k2 kf2 ks2 lf2 ls2 sf2 sl2 mf2 rf2 ty2 pla2 fro2 to2 ++ (mkL G tp td hi g ln sn ++ rest))) cs2 ∧ ∃ co4 ro4 lo4 pl4, isW G cs2 w3 co4 ro4 lo4 pl4)) := by
  refine zMet.of (by decide) (Nat.le_of_ble_eq_true rfl) ?_
  intro E C R
  have C : zC G E RX7 cX7_struck 8 5 116 := C
  show V G E 0 [some (.ref (G.ad 34)), some (.int (iI p)), some (.int (iI n)), some (.int (iI q)), none, none, none, none] [] (dkL G f L c bf bL bc pf pl pc nx sz k kf ks lf ls sf sl mf rf ty pla fro to ++ (kpL G f2 L2 c2 bf2 bL2 bc2 pf2 pl2 pc2 nx2 sz2 k2 kf2 ks2 lf2 ls2 sf2 sl2 mf2 rf2 ty2 pla2 fro2 to2 ++ (mkL G tp td hi g ln sn ++ rest)))
  obtain ⟨hf, hL, hc, hbf, hbL, hbc, hpf, hplc, hnx, hsz, hk, hk3, hk4, hkf, hks, hlf, hls, hsf, hsl, hmf, hrf, hty, hpa, hfr, hto, hcm⟩ := id O
  have hla := la_in hL.1
  have hlb := la_in hbL.1
  have rpl : ∀ j, rng (pl j) := fun j => by have := hplc j; omega
  have rpc : ∀ j, rng (pc j) := fun j => by have := hplc j; have := la_in (hplc j).1.1; omega
  have rkf : ∀ j, rng (kf j) := fun j => by have := hkf j; omega
  have rlf : ∀ j, rng (lf j) := fun j => by have := hlf j; omega
  have rmf : ∀ j, rng (mf j) := fun j => by have := hmf j; omega
  have gmf : ∀ j, -1 ≤ mf j := fun j => (hmf j).1
  have hT : isT G (dkL G f L c bf bL bc pf pl pc nx sz k kf ks lf ls sf sl mf rf ty pla fro to ++ (kpL G f2 L2 c2 bf2 bL2 bc2 pf2 pl2 pc2 nx2 sz2 k2 kf2 ks2 lf2 ls2 sf2 sl2 mf2 rf2 ty2 pla2 fro2 to2 ++ (mkL G tp td hi g ln sn ++ rest))) 1 2 f L c := ⟨rfl, rfl, hf, by omega, by omega⟩
  have h16 : (dkL G f L c bf bL bc pf pl pc nx sz k kf ks lf ls sf sl mf rf ty pla fro to ++ (kpL G f2 L2 c2 bf2 bL2 bc2 pf2 pl2 pc2 nx2 sz2 k2 kf2 ks2 lf2 ls2 sf2 sl2 mf2 rf2 ty2 pla2 fro2 to2 ++ (mkL G tp td hi g ln sn ++ rest)))[16]? = some (zI G 7 rf) := rfl
  refine V_midb (pc2 := 23) ((0 ≤ n ∧ n ≤ 4) ∧ (q = 0 ∨ q = 1)) ?_ (fun kt_0 kf_0 => ?_)
  · skip
    refine V_istore C dX7_struck_23 (by decide) rfl ?_
    refine V_iload C dX7_struck_25 rfl ?_
    refine V_if_eqB (tgt := 44) C dX7_struck_27 (by decide) (fun c_27 => ?_) (fun c_27 => ?_)
    · skip
      refine V_iconst C dX7_struck_44 ?_
      exact V_iret C R dX7_struck_45 (Or.inl ⟨by omega, rfl, rfl⟩)
    · skip
      refine V_aload_n C dX7_struck_30 rfl ?_
      refine vg_X7_16 C dX7_struck_31 (by first | exact (sm.2 _ (by decide)).trans rfl | exact X3.1 | exact X3.2.2.2.1 | exact X.1 | rfl) rfl ?_
      refine vg_X7_49 C dX7_struck_34 (by first | exact (sm.2 _ (by decide)).trans rfl | exact X3.1 | exact X3.2.2.2.1 | exact X.1 | rfl) rfl ?_
      refine V_iload_n C dX7_struck_37 rfl ?_
      refine V_callN C lk_X7_121 (m_X5_canStand G (i := 1) (j := 2) hT hp) dX7_struck_38 rfl rfl (by first | exact (sm.2 _ (by decide)).trans rfl | exact X3.1 | exact X3.2.2.2.1 | exact X.1 | rfl) rfl (by decide) (Nat.le_of_ble_eq_true rfl) (kO ?_)
      refine V_if_neB (tgt := 46) C dX7_struck_41 (by decide) (fun c_41 => ?_) (fun c_41 => ?_)
      · skip
        refine V_aload_n C dX7_struck_46 rfl ?_
        refine vg_X7_26 C dX7_struck_47 (by first | exact (sm.2 _ (by decide)).trans rfl | exact X3.1 | exact X3.2.2.2.1 | exact X.1 | rfl) rfl ?_
        refine V_aload_n C dX7_struck_50 rfl ?_
        refine vg_X7_16 C dX7_struck_51 (by first | exact (sm.2 _ (by decide)).trans rfl | exact X3.1 | exact X3.2.2.2.1 | exact X.1 | rfl) rfl ?_
        refine vg_X7_49 C dX7_struck_54 (by first | exact (sm.2 _ (by decide)).trans rfl | exact X3.1 | exact X3.2.2.2.1 | exact X.1 | rfl) rfl ?_
        refine V_callN C lk_X7_124 (m_X6_survey G X hT) dX7_struck_57 rfl rfl (by first | exact (sm.2 _ (by decide)).trans rfl | exact X3.1 | exact X3.2.2.2.1 | exact X.1 | rfl) rfl (by decide) (Nat.le_of_ble_eq_true rfl) (kQ0 (fun cs3 h3 => ?_))
        obtain ⟨sm, w3, X3, hw3⟩ := h3
        have hwr : ∀ m p, 0 ≤ m → m < 7 → 0 ≤ p → p < la L + 1 → 0 ≤ w3 m p ∧ w3 m p < la L + 1 := fun m p a1 a2 a3 a4 => by rw [hw3 m p a1 a2 a3 (by omega)]; have := dd_in (f := f) (m := m) a3 (show p ≤ L by omega); omega
        have r16 : cs3[16]? = some (zI G 7 rf) := (sm.2 16 (by decide)).trans h16
        refine V_aload_n C dX7_struck_60 rfl ?_
        refine vg_X7_26 C dX7_struck_61 (by first | exact (sm.2 _ (by decide)).trans rfl | exact X3.1 | exact X3.2.2.2.1 | exact X.1 | rfl) rfl ?_
        refine V_iload_n C dX7_struck_64 rfl ?_
        refine V_aload_n C dX7_struck_65 rfl ?_
        refine vg_X7_16 C dX7_struck_66 (by first | exact (sm.2 _ (by decide)).trans rfl | exact X3.1 | exact X3.2.2.2.1 | exact X.1 | rfl) rfl ?_
        refine vg_X7_49 C dX7_struck_69 (by first | exact (sm.2 _ (by decide)).trans rfl | exact X3.1 | exact X3.2.2.2.1 | exact X.1 | rfl) rfl ?_
        refine V_callN C lk_X7_135 (m_X5_standing G (i := 1) (j := 2) (sm.T hT) (by omega)) dX7_struck_72 rfl rfl (by first | exact (sm.2 _ (by decide)).trans rfl | exact X3.1 | exact X3.2.2.2.1 | exact X.1 | rfl) rfl (by decide) (Nat.le_of_ble_eq_true rfl) (kO ?_)
        refine V_iload_n C dX7_struck_75 rfl ?_
        refine V_callN C lk_X7_158 (m_X6_rowsTo G X3 hwr (by omega) (by omega) (by omega)) dX7_struck_76 rfl rfl (by first | exact (sm.2 _ (by decide)).trans rfl | exact X3.1 | exact X3.2.2.2.1 | exact X.1 | rfl) rfl (by decide) (Nat.le_of_ble_eq_true rfl) (kQi (fun z cs4 h4 => ?_))
        obtain ⟨ez, sm4, ro4, lo4, X4⟩ := h4
        have sm := sm.tr sm4
        have hps := ps_start ro (s := min c (la L)) (by omega) (by omega)
        have hpr := psR_in (n := n) hwr (by omega) (by omega) 4 0 (zup (ovr ro 0 60 0) (min c (la L)) 1) lo 1 hps.1 (by rw [hps.2]; decide)
        have hz := smN_at (n := 60) hpr.1 (show 0 ≤ p by omega) (show p < ((60 : Nat) : Int) by omega)
        have hz0 := hpr.1 p (by omega) (by omega)
        rw [← ez] at hz hz0
        have hz1 : z ≤ 2401 := Int.le_trans hz hpr.2
        refine V_istore C dX7_struck_79 (by decide) rfl ?_
        refine V_iconst C dX7_struck_81 ?_
        refine V_istore C dX7_struck_82 (by decide) rfl ?_
        refine V_iconst C dX7_struck_84 ?_
        refine V_istore C dX7_struck_85 (by decide) rfl ?_
        refine V_loop (α := Int × Int × Int) (fun x => (20 - x.1).toNat) (fun x => 0 ≤ x.1 ∧ x.1 ≤ n ∧ (0 ≤ x.2.1 ∧ x.2.1 ≤ 2401) ∧ skN n (4 - x.1).toNat x.1 x.2.1 x.2.2 = skN n 4 0 z 1) (fun x => V G E 87 [some (.ref (G.ad 34)), some (.int (iI p)), some (.int (iI n)), some (.int (iI q)), some (.int (iI (b2z ((0 ≤ n ∧ n ≤ 4) ∧ (q = 0 ∨ q = 1))))), some (.int (iI x.2.1)), some (.int (iI x.2.2)), some (.int (iI x.1))] [] cs4) ?_ (0, z, 1) ⟨Int.le_refl 0, (show 0 ≤ n by omega), ⟨hz0, hz1⟩, rfl⟩
        rintro ⟨i, aa, bb⟩ ⟨y1, y2, y3, y4⟩ ih_87
        dsimp only at *
        refine V_iload C dX7_struck_87 rfl ?_
        refine V_iload_n C dX7_struck_89 rfl ?_
        refine V_icmp_ge (tgt := 124) C dX7_struck_90 (by decide) (by omega) (by omega) (fun c_90 => ?_) (fun c_90 => ?_)
        · skip
          refine V_iload_n C dX7_struck_124 rfl ?_
          refine V_if_ne (tgt := 133) C dX7_struck_125 (by decide) (by omega) (fun c_125 => ?_) (fun c_125 => ?_)
          · skip
            refine V_iload C dX7_struck_133 rfl ?_
            exact V_iret C R dX7_struck_135 (Or.inr ⟨by omega, _, rfl, w3, hw3, by rw [← ez, ← y4, skN_3 (by omega)]; first | rw [if_pos (by omega)] | rw [if_neg (by omega)], sm, _, _, _, _, X4⟩)
          · skip
            refine V_iload C dX7_struck_128 rfl ?_
            refine V_goto (tgt := 135) C dX7_struck_130 (by decide) ?_
            exact V_iret C R dX7_struck_135 (Or.inr ⟨by omega, _, rfl, w3, hw3, by rw [← ez, ← y4, skN_3 (by omega)]; first | rw [if_pos (by omega)] | rw [if_neg (by omega)], sm, _, _, _, _, X4⟩)
        · skip
          refine V_iload C dX7_struck_93 rfl ?_
          refine V_bipush C dX7_struck_95 (by decide) ?_
          refine V_irem C dX7_struck_97 (by omega) (by omega) ?_
          refine V_if_ne (tgt := 111) C dX7_struck_98 (by decide) (by omega) (fun c_98 => ?_) (fun c_98 => ?_)
          · skip
            refine V_iload C dX7_struck_111 rfl ?_
            refine V_bipush C dX7_struck_113 (by decide) ?_
            refine V_imul C dX7_struck_115 ?_
            refine V_istore C dX7_struck_116 (by decide) rfl ?_
            refine V_iinc C dX7_struck_118 rfl (by decide) rfl ?_
            refine V_goto (tgt := 87) C dX7_struck_121 (by decide) ?_
            first
              | exact ih_87 (i + 1, aa / 7, bb) ⟨by omega, by omega, by dsimp only; omega, by rw [← y4, show (4 - i).toNat = (4 - (i + 1)).toNat + 1 by omega, skN_1 (by omega) (by omega)]⟩ (by dsimp only; omega)
              | exact ih_87 (i + 1, aa, bb * 7) ⟨by omega, by omega, by dsimp only; omega, by rw [← y4, show (4 - i).toNat = (4 - (i + 1)).toNat + 1 by omega, skN_2 (by omega) (by omega)]⟩ (by dsimp only; omega)
          · skip
            refine V_iload C dX7_struck_101 rfl ?_
            refine V_bipush C dX7_struck_103 (by decide) ?_
            refine V_idiv C dX7_struck_105 (by omega) (by omega) ?_
            refine V_istore C dX7_struck_106 (by decide) rfl ?_
            refine V_goto (tgt := 118) C dX7_struck_108 (by decide) ?_
            refine V_iinc C dX7_struck_118 rfl (by decide) rfl ?_
            refine V_goto (tgt := 87) C dX7_struck_121 (by decide) ?_
            first
              | exact ih_87 (i + 1, aa / 7, bb) ⟨by omega, by omega, by dsimp only; omega, by rw [← y4, show (4 - i).toNat = (4 - (i + 1)).toNat + 1 by omega, skN_1 (by omega) (by omega)]⟩ (by dsimp only; omega)
              | exact ih_87 (i + 1, aa, bb * 7) ⟨by omega, by omega, by dsimp only; omega, by rw [← y4, show (4 - i).toNat = (4 - (i + 1)).toNat + 1 by omega, skN_2 (by omega) (by omega)]⟩ (by dsimp only; omega)
      · skip
        refine V_iconst C dX7_struck_44 ?_
        exact V_iret C R dX7_struck_45 (Or.inl ⟨by omega, rfl, rfl⟩)
  · skip
    refine V_iload_n C dX7_struck_0 rfl ?_
    refine V_if_lt (tgt := 22) C dX7_struck_1 (by decide) (by omega) (fun c_1 => ?_) (fun c_1 => ?_)
    · skip
      refine V_iconst C dX7_struck_22 ?_
      exact kf_0 (by omega)
    · skip
      refine V_iload_n C dX7_struck_4 rfl ?_
      refine V_iconst C dX7_struck_5 ?_
      refine V_icmp_gt (tgt := 22) C dX7_struck_6 (by decide) (by omega) (by omega) (fun c_6 => ?_) (fun c_6 => ?_)
      · skip
        refine V_iconst C dX7_struck_22 ?_
        exact kf_0 (by omega)
      · skip
        refine V_iload_n C dX7_struck_9 rfl ?_
        refine V_if_eq (tgt := 18) C dX7_struck_10 (by decide) (by omega) (fun c_10 => ?_) (fun c_10 => ?_)
        · skip
          refine V_iconst C dX7_struck_18 ?_
          refine V_goto (tgt := 23) C dX7_struck_19 (by decide) ?_
          exact kt_0 (by omega)
        · skip
          refine V_iload_n C dX7_struck_13 rfl ?_
          refine V_iconst C dX7_struck_14 ?_
          refine V_icmp_ne (tgt := 22) C dX7_struck_15 (by decide) (by omega) (by omega) (fun c_15 => ?_) (fun c_15 => ?_)
          · skip
            refine V_iconst C dX7_struck_22 ?_
            exact kf_0 (by omega)
          · skip
            refine V_iconst C dX7_struck_18 ?_
            refine V_goto (tgt := 23) C dX7_struck_19 (by decide) ?_
            exact kt_0 (by omega)
