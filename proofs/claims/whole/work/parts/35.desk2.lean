/-! ===== Desk: ranges, deeds ===== -/
def brC (f : Int → Int) (L c : Int) : Int := if op f L c c 0 = -1 then -1 else cl f L (op f L c c 0 + 1) 0

def amO (f : Int → Int) (L c : Int) (mf k : Int → Int) : Int := if k 5 = 1 then b2z (plc f L c mf (k 6) (tmz k) (k 8) ≠ -1) else if k 5 = 2 then b2z (L ≠ 0) else if k 5 = 3 then b2z (brC f L c ≠ -1) else if k 5 = 4 then b2z (0 < L) else 1
theorem amO_1 {f : Int → Int} {L c : Int} {mf k : Int → Int}  (h1 : k 5 = 1) : amO f L c mf k = b2z (plc f L c mf (k 6) (tmz k) (k 8) ≠ -1) := by unfold amO; rw [if_pos h1]
theorem amO_2 {f : Int → Int} {L c : Int} {mf k : Int → Int} (h1 : ¬ (k 5 = 1)) (h2 : k 5 = 2) : amO f L c mf k = b2z (L ≠ 0) := by unfold amO; rw [if_neg h1, if_pos h2]
theorem amO_3 {f : Int → Int} {L c : Int} {mf k : Int → Int} (h1 : ¬ (k 5 = 1)) (h2 : ¬ (k 5 = 2)) (h3 : k 5 = 3) : amO f L c mf k = b2z (brC f L c ≠ -1) := by unfold amO; rw [if_neg h1, if_neg h2, if_pos h3]
theorem amO_4 {f : Int → Int} {L c : Int} {mf k : Int → Int} (h1 : ¬ (k 5 = 1)) (h2 : ¬ (k 5 = 2)) (h3 : ¬ (k 5 = 3)) (h4 : k 5 = 4) : amO f L c mf k = b2z (0 < L) := by unfold amO; rw [if_neg h1, if_neg h2, if_neg h3, if_pos h4]
theorem amO_5 {f : Int → Int} {L c : Int} {mf k : Int → Int} (h1 : ¬ (k 5 = 1)) (h2 : ¬ (k 5 = 2)) (h3 : ¬ (k 5 = 3)) (h4 : ¬ (k 5 = 4)) : amO f L c mf k = 1 := by unfold amO; rw [if_neg h1, if_neg h2, if_neg h3, if_neg h4]
def amP (f : Int → Int) (L c : Int) (mf k : Int → Int) (pla : Int) : Int := if k 5 = 1 then aMp (plc f L c mf (k 6) (tmz k) (k 8)) (k 6) else pla
theorem amP_1 {f : Int → Int} {L c : Int} {mf k : Int → Int} {pla : Int}  (h1 : k 5 = 1) : amP f L c mf k pla = aMp (plc f L c mf (k 6) (tmz k) (k 8)) (k 6) := by unfold amP; rw [if_pos h1]
theorem amP_2 {f : Int → Int} {L c : Int} {mf k : Int → Int} {pla : Int} (h1 : ¬ (k 5 = 1)) : amP f L c mf k pla = pla := by unfold amP; rw [if_neg h1]
def amF (f : Int → Int) (L c : Int) (mf k : Int → Int) (fro : Int) : Int := if k 5 = 1 then aMf L c (plc f L c mf (k 6) (tmz k) (k 8)) (k 6) fro else if k 5 = 2 then if L = 0 then fro else bg f L (kd f L c) c else if k 5 = 3 then if brC f L c = -1 then fro else if k 7 = 0 then op f L c c 0 + 1 else op f L c c 0 else if k 5 = 4 then c else if k 5 = 5 then 0 else fro
theorem amF_1 {f : Int → Int} {L c : Int} {mf k : Int → Int} {fro : Int}  (h1 : k 5 = 1) : amF f L c mf k fro = aMf L c (plc f L c mf (k 6) (tmz k) (k 8)) (k 6) fro := by unfold amF; rw [if_pos h1]
theorem amF_2 {f : Int → Int} {L c : Int} {mf k : Int → Int} {fro : Int} (h1 : ¬ (k 5 = 1)) (h2 : k 5 = 2) : amF f L c mf k fro = if L = 0 then fro else bg f L (kd f L c) c := by unfold amF; rw [if_neg h1, if_pos h2]
theorem amF_3 {f : Int → Int} {L c : Int} {mf k : Int → Int} {fro : Int} (h1 : ¬ (k 5 = 1)) (h2 : ¬ (k 5 = 2)) (h3 : k 5 = 3) : amF f L c mf k fro = if brC f L c = -1 then fro else if k 7 = 0 then op f L c c 0 + 1 else op f L c c 0 := by unfold amF; rw [if_neg h1, if_neg h2, if_pos h3]
theorem amF_4 {f : Int → Int} {L c : Int} {mf k : Int → Int} {fro : Int} (h1 : ¬ (k 5 = 1)) (h2 : ¬ (k 5 = 2)) (h3 : ¬ (k 5 = 3)) (h4 : k 5 = 4) : amF f L c mf k fro = c := by unfold amF; rw [if_neg h1, if_neg h2, if_neg h3, if_pos h4]
theorem amF_5 {f : Int → Int} {L c : Int} {mf k : Int → Int} {fro : Int} (h1 : ¬ (k 5 = 1)) (h2 : ¬ (k 5 = 2)) (h3 : ¬ (k 5 = 3)) (h4 : ¬ (k 5 = 4)) (h5 : k 5 = 5) : amF f L c mf k fro = 0 := by unfold amF; rw [if_neg h1, if_neg h2, if_neg h3, if_neg h4, if_pos h5]
theorem amF_6 {f : Int → Int} {L c : Int} {mf k : Int → Int} {fro : Int} (h1 : ¬ (k 5 = 1)) (h2 : ¬ (k 5 = 2)) (h3 : ¬ (k 5 = 3)) (h4 : ¬ (k 5 = 4)) (h5 : ¬ (k 5 = 5)) : amF f L c mf k fro = fro := by unfold amF; rw [if_neg h1, if_neg h2, if_neg h3, if_neg h4, if_neg h5]
def amT (f : Int → Int) (L c : Int) (mf k : Int → Int) (to : Int) : Int := if k 5 = 1 then aMt L c (plc f L c mf (k 6) (tmz k) (k 8)) (k 6) to else if k 5 = 2 then if L = 0 then to else if k 7 = 0 then bh f L (kd f L c) c else bh f L 0 (bh f L (kd f L c) c) else if k 5 = 3 then if brC f L c = -1 then to else if k 7 = 0 then brC f L c else brC f L c + 1 else if k 5 = 4 then min L (c + tmz k) else if k 5 = 5 then L else to
theorem amT_1 {f : Int → Int} {L c : Int} {mf k : Int → Int} {to : Int}  (h1 : k 5 = 1) : amT f L c mf k to = aMt L c (plc f L c mf (k 6) (tmz k) (k 8)) (k 6) to := by unfold amT; rw [if_pos h1]
theorem amT_2 {f : Int → Int} {L c : Int} {mf k : Int → Int} {to : Int} (h1 : ¬ (k 5 = 1)) (h2 : k 5 = 2) : amT f L c mf k to = if L = 0 then to else if k 7 = 0 then bh f L (kd f L c) c else bh f L 0 (bh f L (kd f L c) c) := by unfold amT; rw [if_neg h1, if_pos h2]
theorem amT_3 {f : Int → Int} {L c : Int} {mf k : Int → Int} {to : Int} (h1 : ¬ (k 5 = 1)) (h2 : ¬ (k 5 = 2)) (h3 : k 5 = 3) : amT f L c mf k to = if brC f L c = -1 then to else if k 7 = 0 then brC f L c else brC f L c + 1 := by unfold amT; rw [if_neg h1, if_neg h2, if_pos h3]
theorem amT_4 {f : Int → Int} {L c : Int} {mf k : Int → Int} {to : Int} (h1 : ¬ (k 5 = 1)) (h2 : ¬ (k 5 = 2)) (h3 : ¬ (k 5 = 3)) (h4 : k 5 = 4) : amT f L c mf k to = min L (c + tmz k) := by unfold amT; rw [if_neg h1, if_neg h2, if_neg h3, if_pos h4]
theorem amT_5 {f : Int → Int} {L c : Int} {mf k : Int → Int} {to : Int} (h1 : ¬ (k 5 = 1)) (h2 : ¬ (k 5 = 2)) (h3 : ¬ (k 5 = 3)) (h4 : ¬ (k 5 = 4)) (h5 : k 5 = 5) : amT f L c mf k to = L := by unfold amT; rw [if_neg h1, if_neg h2, if_neg h3, if_neg h4, if_pos h5]
theorem amT_6 {f : Int → Int} {L c : Int} {mf k : Int → Int} {to : Int} (h1 : ¬ (k 5 = 1)) (h2 : ¬ (k 5 = 2)) (h3 : ¬ (k 5 = 3)) (h4 : ¬ (k 5 = 4)) (h5 : ¬ (k 5 = 5)) : amT f L c mf k to = to := by unfold amT; rw [if_neg h1, if_neg h2, if_neg h3, if_neg h4, if_neg h5]
def ctT (f : Int → Int) (L fro to : Int) : (Int → Int) × Int := if fro < to then (zcp f f to fro (L - to), L - (to - fro)) else (f, L)
def stS (f sf : Int → Int) (sl fro to : Int) : (Int → Int) × Int := if fro < to then (zcp f sf fro 0 (to - fro), to - fro) else (sf, sl)
theorem ctT_1 {f : Int → Int} {L fro to : Int} (h : fro < to) : ctT f L fro to = (zcp f f to fro (L - to), L - (to - fro)) := if_pos h
theorem ctT_2 {f : Int → Int} {L fro to : Int} (h : to ≤ fro) : ctT f L fro to = (f, L) := if_neg (by omega)
theorem stS_1 {f sf : Int → Int} {sl fro to : Int} (h : fro < to) : stS f sf sl fro to = (zcp f sf fro 0 (to - fro), to - fro) := if_pos h
theorem stS_2 {f sf : Int → Int} {sl fro to : Int} (h : to ≤ fro) : stS f sf sl fro to = (sf, sl) := if_neg (by omega)
def ovr (f : Int → Int) (a e v : Int) : Int → Int := fun j => if a ≤ j ∧ j < e then v else f j
theorem ovr_0 (f : Int → Int) (a v : Int) : ovr f a a v = f := by funext j; unfold ovr; rw [if_neg (by omega)]
theorem ovr_s {f : Int → Int} {a e v : Int} (h : a ≤ e) : zup (ovr f a e v) e v = ovr f a (e + 1) v := by
  funext j
  unfold zup ovr
  by_cases h1 : j = e
  · rw [if_pos h1, if_pos (by omega)]
  · rw [if_neg h1]
    by_cases h2 : a ≤ j ∧ j < e
    · rw [if_pos h2, if_pos (by omega)]
    · rw [if_neg h2, if_neg (by omega)]
def sws (f : Int → Int) (a e : Int) : Int → Int := fun j => if a ≤ j ∧ j < e then swc (f j) else f j
theorem sws_0 (f : Int → Int) (a : Int) : sws f a a = f := by funext j; unfold sws; rw [if_neg (by omega)]
theorem sws_s {f : Int → Int} {a e : Int} (h : a ≤ e) : zup (sws f a e) e (swc (sws f a e e)) = sws f a (e + 1) := by
  funext j
  unfold zup sws
  by_cases h1 : j = e
  · rw [if_pos h1, if_neg (by omega), h1, if_pos (by omega)]
  · rw [if_neg h1]
    by_cases h2 : a ≤ j ∧ j < e
    · rw [if_pos h2, if_pos (by omega)]
    · rw [if_neg h2, if_neg (by omega)]
theorem sws_rng {f : Int → Int} {a e : Int} (h : ∀ k, rng (f k)) : ∀ k, rng (sws f a e k) := fun k => by unfold sws; split; exact swc_rng (h k); exact h k
/-- sf, again and again, from p to e -/
def pin (g sf : Int → Int) (sl p e : Int) : Int → Int := fun j => if p ≤ j ∧ j < e then sf ((j - p) % sl) else g j
theorem pin_0 (g sf : Int → Int) (sl p : Int) : pin g sf sl p p = g := by funext j; unfold pin; rw [if_neg (by omega)]
theorem pin_s {g sf : Int → Int} {sl p q : Int} (h : 0 < sl) (hq : 0 ≤ q * sl) : zcp sf (pin g sf sl p (p + q * sl)) 0 (p + q * sl) sl = pin g sf sl p (p + (q + 1) * sl) := by
  have e1 : (q + 1) * sl = q * sl + sl := by rw [Int.add_mul, Int.one_mul]
  funext j
  unfold zcp pin
  by_cases h1 : p + q * sl ≤ j ∧ j < p + q * sl + sl
  · rw [if_pos h1, if_pos (by omega)]
    congr 1
    have e2 : j - p = (j - (p + q * sl)) + q * sl := by omega
    rw [e2, Int.add_mul_emod_self_right, Int.emod_eq_of_lt (by omega) (by omega)]
    omega
  · rw [if_neg h1]
    by_cases h2 : p ≤ j ∧ j < p + q * sl
    · rw [if_pos h2, if_pos (by omega)]
    · rw [if_neg h2, if_neg (by omega)]
theorem pin_rng {g sf : Int → Int} {sl p e : Int} (h : ∀ k, rng (g k)) (h2 : ∀ k, rng (sf k)) : ∀ k, rng (pin g sf sl p e k) := fun k => by unfold pin; split; exact h2 _; exact h k

set_option maxRecDepth 100000 in
theorem m_X1_aimByLetters (G : zG) {f bf pf pl pc k kf lf sf mf rf : Int → Int} {L c bL bc nx sz ks ls sl ty pla fro to : Int} {rest : List va_E} {n : Int} (hf : ∀ k, rng (f k)) (hL : 0 ≤ L ∧ L ≤ 60) (hc : 0 ≤ c ∧ c ≤ la L) (hn : 0 ≤ n ∧ n ≤ 99) : zMet G yX1_aimByLetters cX1_aimByLetters 2 (some .boolean) 1 21 [.ref (G.ad 0), .int (iI n)] (dkL G f L c bf bL bc pf pl pc nx sz k kf ks lf ls sf sl mf rf ty pla fro to ++ rest) (zO (.int (iI (b2z (0 < L)))) (dkL G f L c bf bL bc pf pl pc nx sz k kf ks lf ls sf sl mf rf ty pla (c) (min L (c + n)) ++ rest)) := by
  refine zMet.of (by decide) (Nat.le_of_ble_eq_true rfl) ?_
  intro E C R
  have C : zC G E RX1 cX1_aimByLetters 2 1 21 := C
  show V G E 0 [some (.ref (G.ad 0)), some (.int (iI n))] [] (dkL G f L c bf bL bc pf pl pc nx sz k kf ks lf ls sf sl mf rf ty pla fro to ++ rest)
  have hla := la_in hL.1
  refine V_aload_n C dX1_aimByLetters_0 rfl ?_
  refine V_aload_n C dX1_aimByLetters_1 rfl ?_
  refine vg_X1_12 C dX1_aimByLetters_2 rfl rfl ?_
  refine vg_X1_85 C dX1_aimByLetters_5 rfl rfl ?_
  refine vp_X1_178 C dX1_aimByLetters_8 rfl (Nat.le_of_ble_eq_true rfl) ?_
  refine V_aload_n C dX1_aimByLetters_11 rfl ?_
  refine V_aload_n C dX1_aimByLetters_12 rfl ?_
  refine vg_X1_12 C dX1_aimByLetters_13 rfl rfl ?_
  refine vg_X1_82 C dX1_aimByLetters_16 rfl rfl ?_
  refine V_aload_n C dX1_aimByLetters_19 rfl ?_
  refine vg_X1_178 C dX1_aimByLetters_20 rfl rfl ?_
  refine V_iload_n C dX1_aimByLetters_23 rfl ?_
  refine V_iadd C dX1_aimByLetters_24 ?_
  refine V_min C wm_X1_200 dX1_aimByLetters_25 (by omega) (by omega) (by decide) (Nat.le_of_ble_eq_true rfl) ?_
  refine vp_X1_181 C dX1_aimByLetters_28 rfl (Nat.le_of_ble_eq_true rfl) ?_
  refine V_aload_n C dX1_aimByLetters_31 rfl ?_
  refine vg_X1_12 C dX1_aimByLetters_32 rfl rfl ?_
  refine vg_X1_82 C dX1_aimByLetters_35 rfl rfl ?_
  refine V_if_le (tgt := 45) C dX1_aimByLetters_38 (by decide) (by omega) (fun c_38 => ?_) (fun c_38 => ?_)
  · skip
    refine V_iconst C dX1_aimByLetters_45 ?_
    exact V_zret C R dX1_aimByLetters_46 (by first | decide | omega) (zO_ic (by first | exact b2z_1 (by omega) | exact b2z_0 (by omega)) rfl)
  · skip
    refine V_iconst C dX1_aimByLetters_41 ?_
    refine V_goto (tgt := 46) C dX1_aimByLetters_42 (by decide) ?_
    exact V_zret C R dX1_aimByLetters_46 (by first | decide | omega) (zO_ic (by first | exact b2z_1 (by omega) | exact b2z_0 (by omega)) rfl)

set_option maxRecDepth 100000 in
theorem m_X1_aimByWord (G : zG) {f bf pf pl pc k kf lf sf mf rf : Int → Int} {L c bL bc nx sz ks ls sl ty pla fro to : Int} {rest : List va_E} (hf : ∀ k, rng (f k)) (hL : 0 ≤ L ∧ L ≤ 60) (hc : 0 ≤ c ∧ c ≤ la L) (hk : ∀ n, rng (k n)) : zMet G yX1_aimByWord cX1_aimByWord 2 (some .boolean) 2 48 [.ref (G.ad 0)] (dkL G f L c bf bL bc pf pl pc nx sz k kf ks lf ls sf sl mf rf ty pla fro to ++ rest) (zO (.int (iI (b2z (L ≠ 0)))) (dkL G f L c bf bL bc pf pl pc nx sz k kf ks lf ls sf sl mf rf ty pla (if L = 0 then fro else bg f L (kd f L c) c) (if L = 0 then to else if k 7 = 0 then bh f L (kd f L c) c else bh f L 0 (bh f L (kd f L c) c)) ++ rest)) := by
  refine zMet.of (by decide) (Nat.le_of_ble_eq_true rfl) ?_
  intro E C R
  have C : zC G E RX1 cX1_aimByWord 2 2 48 := C
  show V G E 0 [some (.ref (G.ad 0)), none] [] (dkL G f L c bf bL bc pf pl pc nx sz k kf ks lf ls sf sl mf rf ty pla fro to ++ rest)
  have hla := la_in hL.1
  have hk7 := hk 7
  have hkd := kd_in f L c
  have hbg := bg_in f L (kd f L c) c
  have hbh := bh_in f L (kd f L c) c
  refine V_aload_n C dX1_aimByWord_0 rfl ?_
  refine vg_X1_12 C dX1_aimByWord_1 rfl rfl ?_
  refine vg_X1_82 C dX1_aimByWord_4 rfl rfl ?_
  refine V_if_ne (tgt := 12) C dX1_aimByWord_7 (by decide) (by omega) (fun c_7 => ?_) (fun c_7 => ?_)
  · skip
    refine V_aload_n C dX1_aimByWord_12 rfl ?_
    refine vg_X1_12 C dX1_aimByWord_13 rfl rfl ?_
    refine V_aload_n C dX1_aimByWord_16 rfl ?_
    refine vg_X1_12 C dX1_aimByWord_17 rfl rfl ?_
    refine vg_X1_85 C dX1_aimByWord_20 rfl rfl ?_
    refine V_callN C lk_X1_206 (m_X5_kindAt G (i := 1) (j := 2) ⟨rfl, rfl, hf, by omega, by omega⟩ (by omega)) dX1_aimByWord_23 rfl rfl rfl rfl (by decide) (Nat.le_of_ble_eq_true rfl) (kO ?_)
    refine V_istore_n C dX1_aimByWord_26 (by decide) rfl ?_
    refine V_aload_n C dX1_aimByWord_27 rfl ?_
    refine V_aload_n C dX1_aimByWord_28 rfl ?_
    refine vg_X1_12 C dX1_aimByWord_29 rfl rfl ?_
    refine V_aload_n C dX1_aimByWord_32 rfl ?_
    refine vg_X1_12 C dX1_aimByWord_33 rfl rfl ?_
    refine vg_X1_85 C dX1_aimByWord_36 rfl rfl ?_
    refine V_iload_n C dX1_aimByWord_39 rfl ?_
    refine V_callN C lk_X1_209 (m_X5_beginOfKind G (i := 1) (j := 2) ⟨rfl, rfl, hf, by omega, by omega⟩ (by omega) (by omega)) dX1_aimByWord_40 rfl rfl rfl rfl (by decide) (Nat.le_of_ble_eq_true rfl) (kO ?_)
    refine vp_X1_178 C dX1_aimByWord_43 rfl (Nat.le_of_ble_eq_true rfl) ?_
    refine V_aload_n C dX1_aimByWord_46 rfl ?_
    refine V_aload_n C dX1_aimByWord_47 rfl ?_
    refine vg_X1_12 C dX1_aimByWord_48 rfl rfl ?_
    refine V_aload_n C dX1_aimByWord_51 rfl ?_
    refine vg_X1_12 C dX1_aimByWord_52 rfl rfl ?_
    refine vg_X1_85 C dX1_aimByWord_55 rfl rfl ?_
    refine V_iload_n C dX1_aimByWord_58 rfl ?_
    refine V_callN C lk_X1_212 (m_X5_behindKind G (i := 1) (j := 2) ⟨rfl, rfl, hf, by omega, by omega⟩ (by omega) (by omega)) dX1_aimByWord_59 rfl rfl rfl rfl (by decide) (Nat.le_of_ble_eq_true rfl) (kO ?_)
    refine vp_X1_181 C dX1_aimByWord_62 rfl (Nat.le_of_ble_eq_true rfl) ?_
    refine V_aload_n C dX1_aimByWord_65 rfl ?_
    refine vg_X1_31 C dX1_aimByWord_66 rfl rfl ?_
    refine vg_X1_215 C dX1_aimByWord_69 rfl rfl ?_
    refine V_if_eq (tgt := 91) C dX1_aimByWord_72 (by decide) (by omega) (fun c_72 => ?_) (fun c_72 => ?_)
    · skip
      refine V_iconst C dX1_aimByWord_91 ?_
      exact V_zret C R dX1_aimByWord_92 (by first | decide | omega) (zO_ic (b2z_1 (by omega)) (by rw [if_neg (by omega), if_neg (by omega)]; first | (rw [if_pos (by omega)]; rfl) | (rw [if_neg (by omega)]; rfl)))
    · skip
      refine V_aload_n C dX1_aimByWord_75 rfl ?_
      refine V_aload_n C dX1_aimByWord_76 rfl ?_
      refine vg_X1_12 C dX1_aimByWord_77 rfl rfl ?_
      refine V_aload_n C dX1_aimByWord_80 rfl ?_
      refine vg_X1_181 C dX1_aimByWord_81 rfl rfl ?_
      refine V_iconst C dX1_aimByWord_84 ?_
      refine V_callN C lk_X1_212 (m_X5_behindKind G (i := 1) (j := 2) ⟨rfl, rfl, hf, by omega, by omega⟩ (by omega) (by omega)) dX1_aimByWord_85 rfl rfl rfl rfl (by decide) (Nat.le_of_ble_eq_true rfl) (kO ?_)
      refine vp_X1_181 C dX1_aimByWord_88 rfl (Nat.le_of_ble_eq_true rfl) ?_
      refine V_iconst C dX1_aimByWord_91 ?_
      exact V_zret C R dX1_aimByWord_92 (by first | decide | omega) (zO_ic (b2z_1 (by omega)) (by rw [if_neg (by omega), if_neg (by omega)]; first | (rw [if_pos (by omega)]; rfl) | (rw [if_neg (by omega)]; rfl)))
  · skip
    refine V_iconst C dX1_aimByWord_10 ?_
    exact V_zret C R dX1_aimByWord_11 (by first | decide | omega) (zO_ic (b2z_0 (by omega)) (by rw [if_pos (by omega), if_pos (by omega)]))

set_option maxRecDepth 100000 in
theorem m_X1_aimByBrackets (G : zG) {f bf pf pl pc k kf lf sf mf rf : Int → Int} {L c bL bc nx sz ks ls sl ty pla fro to : Int} {rest : List va_E} (hf : ∀ k, rng (f k)) (hL : 0 ≤ L ∧ L ≤ 60) (hc : 0 ≤ c ∧ c ≤ la L) (hk : ∀ n, rng (k n)) : zMet G yX1_aimByBrackets cX1_aimByBrackets 3 (some .boolean) 3 65 [.ref (G.ad 0)] (dkL G f L c bf bL bc pf pl pc nx sz k kf ks lf ls sf sl mf rf ty pla fro to ++ rest) (zO (.int (iI (b2z (brC f L c ≠ -1)))) (dkL G f L c bf bL bc pf pl pc nx sz k kf ks lf ls sf sl mf rf ty pla (if brC f L c = -1 then fro else if k 7 = 0 then op f L c c 0 + 1 else op f L c c 0) (if brC f L c = -1 then to else if k 7 = 0 then brC f L c else brC f L c + 1) ++ rest)) := by
  refine zMet.of (by decide) (Nat.le_of_ble_eq_true rfl) ?_
  intro E C R
  have C : zC G E RX1 cX1_aimByBrackets 3 3 65 := C
  show V G E 0 [some (.ref (G.ad 0)), none, none] [] (dkL G f L c bf bL bc pf pl pc nx sz k kf ks lf ls sf sl mf rf ty pla fro to ++ rest)
  have hla := la_in hL.1
  have hk7 := hk 7
  have hop := op_in f L c c 0
  have hcl := cl_in f L (op f L c c 0 + 1) 0
  have hbr : brC f L c = -1 ∨ (op f L c c 0 ≠ -1 ∧ brC f L c = cl f L (op f L c c 0 + 1) 0) := by unfold brC; split; exact Or.inl rfl; exact Or.inr ⟨by assumption, rfl⟩
  refine V_aload_n C dX1_aimByBrackets_0 rfl ?_
  refine vg_X1_12 C dX1_aimByBrackets_1 rfl rfl ?_
  refine V_aload_n C dX1_aimByBrackets_4 rfl ?_
  refine vg_X1_12 C dX1_aimByBrackets_5 rfl rfl ?_
  refine vg_X1_85 C dX1_aimByBrackets_8 rfl rfl ?_
  refine V_callN C lk_X1_218 (m_X5_openingRound G (i := 1) (j := 2) ⟨rfl, rfl, hf, by omega, by omega⟩ (by omega)) dX1_aimByBrackets_11 rfl rfl rfl rfl (by decide) (Nat.le_of_ble_eq_true rfl) (kO ?_)
  refine V_istore_n C dX1_aimByBrackets_14 (by decide) rfl ?_
  refine V_midz (pc2 := 32) (brC f L c) ?_ (fun kk_15 => ?_)
  · skip
    refine V_istore_n C dX1_aimByBrackets_32 (by decide) rfl ?_
    refine V_iload_n C dX1_aimByBrackets_33 rfl ?_
    refine V_iconst C dX1_aimByBrackets_34 ?_
    refine V_icmp_ne (tgt := 40) C dX1_aimByBrackets_35 (by decide) (by omega) (by omega) (fun c_35 => ?_) (fun c_35 => ?_)
    · skip
      refine V_aload_n C dX1_aimByBrackets_40 rfl ?_
      refine V_midz (pc2 := 58) (if k 7 = 0 then op f L c c 0 + 1 else op f L c c 0) ?_ (fun kk_41 => ?_)
      · skip
        refine vp_X1_178 C dX1_aimByBrackets_58 rfl (Nat.le_of_ble_eq_true rfl) ?_
        refine V_aload_n C dX1_aimByBrackets_61 rfl ?_
        refine V_midz (pc2 := 79) (if k 7 = 0 then brC f L c else brC f L c + 1) ?_ (fun kk_62 => ?_)
        · skip
          refine vp_X1_181 C dX1_aimByBrackets_79 rfl (Nat.le_of_ble_eq_true rfl) ?_
          refine V_iconst C dX1_aimByBrackets_82 ?_
          exact V_zret C R dX1_aimByBrackets_83 (by first | decide | omega) (zO_ic (b2z_1 (by omega)) (by rw [if_neg c_35, if_neg c_35] <;> rfl))
        · skip
          refine V_aload_n C dX1_aimByBrackets_62 rfl ?_
          refine vg_X1_31 C dX1_aimByBrackets_63 rfl rfl ?_
          refine vg_X1_215 C dX1_aimByBrackets_66 rfl rfl ?_
          refine V_if_eq (tgt := 78) C dX1_aimByBrackets_69 (by decide) (by omega) (fun c_69 => ?_) (fun c_69 => ?_)
          · skip
            refine V_iload_n C dX1_aimByBrackets_78 rfl ?_
            exact kk_62 _ (by first | rw [if_pos (by omega)] | rw [if_neg (by omega)])
          · skip
            refine V_iload_n C dX1_aimByBrackets_72 rfl ?_
            refine V_iconst C dX1_aimByBrackets_73 ?_
            refine V_iadd C dX1_aimByBrackets_74 ?_
            refine V_goto (tgt := 79) C dX1_aimByBrackets_75 (by decide) ?_
            exact kk_62 _ (by first | rw [if_pos (by omega)] | rw [if_neg (by omega)])
      · skip
        refine V_aload_n C dX1_aimByBrackets_41 rfl ?_
        refine vg_X1_31 C dX1_aimByBrackets_42 rfl rfl ?_
        refine vg_X1_215 C dX1_aimByBrackets_45 rfl rfl ?_
        refine V_if_eq (tgt := 55) C dX1_aimByBrackets_48 (by decide) (by omega) (fun c_48 => ?_) (fun c_48 => ?_)
        · skip
          refine V_iload_n C dX1_aimByBrackets_55 rfl ?_
          refine V_iconst C dX1_aimByBrackets_56 ?_
          refine V_iadd C dX1_aimByBrackets_57 ?_
          exact kk_41 _ (by first | rw [if_pos (by omega)] | rw [if_neg (by omega)])
        · skip
          refine V_iload_n C dX1_aimByBrackets_51 rfl ?_
          refine V_goto (tgt := 58) C dX1_aimByBrackets_52 (by decide) ?_
          exact kk_41 _ (by first | rw [if_pos (by omega)] | rw [if_neg (by omega)])
    · skip
      refine V_iconst C dX1_aimByBrackets_38 ?_
      exact V_zret C R dX1_aimByBrackets_39 (by first | decide | omega) (zO_ic (b2z_0 (by omega)) (by rw [if_pos (by omega), if_pos (by omega)]))
  · skip
    refine V_iload_n C dX1_aimByBrackets_15 rfl ?_
    refine V_iconst C dX1_aimByBrackets_16 ?_
    refine V_icmp_ne (tgt := 24) C dX1_aimByBrackets_17 (by decide) (by omega) (by omega) (fun c_17 => ?_) (fun c_17 => ?_)
    · skip
      refine V_aload_n C dX1_aimByBrackets_24 rfl ?_
      refine vg_X1_12 C dX1_aimByBrackets_25 rfl rfl ?_
      refine V_iload_n C dX1_aimByBrackets_28 rfl ?_
      refine V_callN C lk_X1_221 (m_X5_closingOf G (i := 1) (j := 2) ⟨rfl, rfl, hf, by omega, by omega⟩ (by omega)) dX1_aimByBrackets_29 rfl rfl rfl rfl (by decide) (Nat.le_of_ble_eq_true rfl) (kO ?_)
      exact kk_15 _ (by unfold brC; first | rw [if_pos (by omega)] | rw [if_neg (by omega)])
    · skip
      refine V_iconst C dX1_aimByBrackets_20 ?_
      refine V_goto (tgt := 32) C dX1_aimByBrackets_21 (by decide) ?_
      exact kk_15 _ (by unfold brC; first | rw [if_pos (by omega)] | rw [if_neg (by omega)])

set_option maxRecDepth 100000 in
theorem m_X1_aim (G : zG) {f bf pf pl pc k kf lf sf mf rf : Int → Int} {L c bL bc nx sz ks ls sl ty pla fro to : Int} {rest : List va_E} (hf : ∀ k, rng (f k)) (hL : 0 ≤ L ∧ L ≤ 60) (hc : 0 ≤ c ∧ c ≤ la L) (hk : ∀ n, rng (k n)) (hk3 : 0 ≤ k 3 ∧ k 3 ≤ 99) (hk4 : 0 ≤ k 4 ∧ k 4 ≤ 99) (hk6 : 0 ≤ k 6 ∧ k 6 ≤ 9) (hmf : ∀ k, rng (mf k)) (hmg : ∀ k, -1 ≤ mf k) : zMet G yX1_aim cX1_aim 1 (some .boolean) 4 96 [.ref (G.ad 0)] (dkL G f L c bf bL bc pf pl pc nx sz k kf ks lf ls sf sl mf rf ty pla fro to ++ rest) (zO (.int (iI (amO f L c mf k))) (dkL G f L c bf bL bc pf pl pc nx sz k kf ks lf ls sf sl mf rf ty (amP f L c mf k pla) (amF f L c mf k fro) (amT f L c mf k to) ++ rest)) := by
  refine zMet.of (by decide) (Nat.le_of_ble_eq_true rfl) ?_
  intro E C R
  have C : zC G E RX1 cX1_aim 1 4 96 := C
  show V G E 0 [some (.ref (G.ad 0))] [] (dkL G f L c bf bL bc pf pl pc nx sz k kf ks lf ls sf sl mf rf ty pla fro to ++ rest)
  have hla := la_in hL.1
  obtain ⟨t1, t2, t3, t4⟩ := tmz_in hk3 hk4
  have hk5 := hk 5
  have hk8 := hk 8
  refine V_aload_n C dX1_aim_0 rfl ?_
  refine vg_X1_31 C dX1_aim_1 rfl rfl ?_
  refine vg_X1_155 C dX1_aim_4 rfl rfl ?_
  by_cases w_7_1 : k 5 = 1
  · skip
    refine V_tableIn (tgt := 40) (off := 33) C dX1_aim_7 (by omega) (by omega) (by omega) (by rw [w_7_1]; rfl) (by decide) ?_
    refine V_aload_n C dX1_aim_40 rfl ?_
    refine V_aload_n C dX1_aim_41 rfl ?_
    refine vg_X1_31 C dX1_aim_42 rfl rfl ?_
    refine vg_X1_158 C dX1_aim_45 rfl rfl ?_
    refine V_aload_n C dX1_aim_48 rfl ?_
    refine vg_X1_31 C dX1_aim_49 rfl rfl ?_
    refine V_callN C lk_X1_127 (m_X0_times G (i := 9) (j := 10) rfl hk hk3 hk4) dX1_aim_52 rfl rfl rfl rfl (by decide) (Nat.le_of_ble_eq_true rfl) (kO ?_)
    refine V_aload_n C dX1_aim_55 rfl ?_
    refine vg_X1_31 C dX1_aim_56 rfl rfl ?_
    refine vg_X1_161 C dX1_aim_59 rfl rfl ?_
    refine V_callV C lk_X1_164 (m_X1_aimByMotion G hf hL (by omega) hk6 (by omega) hk8 hmf hmg) dX1_aim_62 rfl rfl rfl rfl (by decide) (Nat.le_of_ble_eq_true rfl) (kO ?_)
    exact V_zret C R dX1_aim_65 (by unfold b2z; split; exact Or.inr rfl; exact Or.inl rfl) ⟨by rw [amO_1 (by omega)], by rw [amP_1 (by omega), amF_1 (by omega), amT_1 (by omega)]; try rfl⟩
  by_cases w_7_2 : k 5 = 2
  · skip
    refine V_tableIn (tgt := 66) (off := 59) C dX1_aim_7 (by omega) (by omega) (by omega) (by rw [w_7_2]; rfl) (by decide) ?_
    refine V_aload_n C dX1_aim_66 rfl ?_
    refine V_callV C lk_X1_168 (m_X1_aimByWord G hf hL hc hk) dX1_aim_67 rfl rfl rfl rfl (by decide) (Nat.le_of_ble_eq_true rfl) (kO ?_)
    exact V_zret C R dX1_aim_70 (by unfold b2z; split; exact Or.inr rfl; exact Or.inl rfl) ⟨by rw [amO_2 (by omega) (by omega)], by rw [amP_2 (by omega), amF_2 (by omega) (by omega), amT_2 (by omega) (by omega)]; try rfl⟩
  by_cases w_7_3 : k 5 = 3
  · skip
    refine V_tableIn (tgt := 71) (off := 64) C dX1_aim_7 (by omega) (by omega) (by omega) (by rw [w_7_3]; rfl) (by decide) ?_
    refine V_aload_n C dX1_aim_71 rfl ?_
    refine V_callV C lk_X1_171 (m_X1_aimByBrackets G hf hL hc hk) dX1_aim_72 rfl rfl rfl rfl (by decide) (Nat.le_of_ble_eq_true rfl) (kO ?_)
    exact V_zret C R dX1_aim_75 (by unfold b2z; split; exact Or.inr rfl; exact Or.inl rfl) ⟨by rw [amO_3 (by omega) (by omega) (by omega)], by rw [amP_2 (by omega), amF_3 (by omega) (by omega) (by omega), amT_3 (by omega) (by omega) (by omega)]; try rfl⟩
  by_cases w_7_4 : k 5 = 4
  · skip
    refine V_tableIn (tgt := 76) (off := 69) C dX1_aim_7 (by omega) (by omega) (by omega) (by rw [w_7_4]; rfl) (by decide) ?_
    refine V_aload_n C dX1_aim_76 rfl ?_
    refine V_aload_n C dX1_aim_77 rfl ?_
    refine vg_X1_31 C dX1_aim_78 rfl rfl ?_
    refine V_callN C lk_X1_127 (m_X0_times G (i := 9) (j := 10) rfl hk hk3 hk4) dX1_aim_81 rfl rfl rfl rfl (by decide) (Nat.le_of_ble_eq_true rfl) (kO ?_)
    refine V_callV C lk_X1_174 (m_X1_aimByLetters G hf hL hc (by omega)) dX1_aim_84 rfl rfl rfl rfl (by decide) (Nat.le_of_ble_eq_true rfl) (kO ?_)
    exact V_zret C R dX1_aim_87 (by unfold b2z; split; exact Or.inr rfl; exact Or.inl rfl) ⟨by rw [amO_4 (by omega) (by omega) (by omega) (by omega)], by rw [amP_2 (by omega), amF_4 (by omega) (by omega) (by omega) (by omega), amT_4 (by omega) (by omega) (by omega) (by omega)]; try rfl⟩
  by_cases w_7_5 : k 5 = 5
  · skip
    refine V_tableIn (tgt := 88) (off := 81) C dX1_aim_7 (by omega) (by omega) (by omega) (by rw [w_7_5]; rfl) (by decide) ?_
    refine V_aload_n C dX1_aim_88 rfl ?_
    refine V_iconst C dX1_aim_89 ?_
    refine vp_X1_178 C dX1_aim_90 rfl (Nat.le_of_ble_eq_true rfl) ?_
    refine V_aload_n C dX1_aim_93 rfl ?_
    refine V_aload_n C dX1_aim_94 rfl ?_
    refine vg_X1_12 C dX1_aim_95 rfl rfl ?_
    refine vg_X1_82 C dX1_aim_98 rfl rfl ?_
    refine vp_X1_181 C dX1_aim_101 rfl (Nat.le_of_ble_eq_true rfl) ?_
    refine V_iconst C dX1_aim_104 ?_
    exact V_zret C R dX1_aim_105 (by first | decide | omega) ⟨by rw [amO_5 (by omega) (by omega) (by omega) (by omega)], by rw [amP_2 (by omega), amF_5 (by omega) (by omega) (by omega) (by omega) (by omega), amT_5 (by omega) (by omega) (by omega) (by omega) (by omega)]; try rfl⟩
  refine V_tableOut (tgt := 106) C dX1_aim_7 (by omega) (by omega) (by decide) ?_
  refine V_iconst C dX1_aim_106 ?_
  exact V_zret C R dX1_aim_107 (by first | decide | omega) ⟨by rw [amO_5 (by omega) (by omega) (by omega) (by omega)], by rw [amP_2 (by omega), amF_6 (by omega) (by omega) (by omega) (by omega) (by omega), amT_6 (by omega) (by omega) (by omega) (by omega) (by omega)]; try rfl⟩

set_option maxRecDepth 100000 in
theorem m_X1_storeRange (G : zG) {f bf pf pl pc k kf lf sf mf rf : Int → Int} {L c bL bc nx sz ks ls sl ty pla fro to : Int} {rest : List va_E} (hf : ∀ k, rng (f k)) (hL : 0 ≤ L ∧ L ≤ 60) (hr : 0 ≤ fro ∧ fro ≤ 60 ∧ rng to ∧ to ≤ L) : zMet G yX1_storeRange cX1_storeRange 1 none 1 26 [.ref (G.ad 0)] (dkL G f L c bf bL bc pf pl pc nx sz k kf ks lf ls sf sl mf rf ty pla fro to ++ rest) (zO0 (dkL G f L c bf bL bc pf pl pc nx sz k kf ks lf ls ((stS f sf sl fro to).1) ((stS f sf sl fro to).2) mf rf ty pla fro to ++ rest)) := by
  refine zMet.of (by decide) (Nat.le_of_ble_eq_true rfl) ?_
  intro E C R
  have C : zC G E RX1 cX1_storeRange 1 1 26 := C
  show V G E 0 [some (.ref (G.ad 0))] [] (dkL G f L c bf bL bc pf pl pc nx sz k kf ks lf ls sf sl mf rf ty pla fro to ++ rest)
  refine V_aload_n C dX1_storeRange_0 rfl ?_
  refine vg_X1_178 C dX1_storeRange_1 rfl rfl ?_
  refine V_aload_n C dX1_storeRange_4 rfl ?_
  refine vg_X1_181 C dX1_storeRange_5 rfl rfl ?_
  refine V_icmp_ge (tgt := 47) C dX1_storeRange_8 (by decide) (by omega) (by omega) (fun c_8 => ?_) (fun c_8 => ?_)
  · skip
    exact V_vret C R dX1_storeRange_47 ⟨rfl, by first | (rw [stS_1 (by omega)]; rfl) | (rw [stS_2 (by omega)])⟩
  · skip
    refine V_aload_n C dX1_storeRange_11 rfl ?_
    refine V_aload_n C dX1_storeRange_12 rfl ?_
    refine vg_X1_181 C dX1_storeRange_13 rfl rfl ?_
    refine V_aload_n C dX1_storeRange_16 rfl ?_
    refine vg_X1_178 C dX1_storeRange_17 rfl rfl ?_
    refine V_isub C dX1_storeRange_20 ?_
    refine vp_X1_71 C dX1_storeRange_21 rfl (Nat.le_of_ble_eq_true rfl) ?_
    refine V_aload_n C dX1_storeRange_24 rfl ?_
    refine vg_X1_12 C dX1_storeRange_25 rfl rfl ?_
    refine vg_X1_79 C dX1_storeRange_28 rfl rfl ?_
    refine V_aload_n C dX1_storeRange_31 rfl ?_
    refine vg_X1_178 C dX1_storeRange_32 rfl rfl ?_
    refine V_aload_n C dX1_storeRange_35 rfl ?_
    refine vg_X1_42 C dX1_storeRange_36 rfl rfl ?_
    refine V_iconst C dX1_storeRange_39 ?_
    refine V_aload_n C dX1_storeRange_40 rfl ?_
    refine vg_X1_71 C dX1_storeRange_41 rfl rfl ?_
    refine V_copyI C wm_X1_65 dX1_storeRange_44 rfl rfl (by omega) (by omega) (by omega) (by omega) (by omega) (by decide) (by decide) (by decide) (Nat.le_of_ble_eq_true rfl) ?_
    exact V_vret C R dX1_storeRange_47 ⟨rfl, by first | (rw [stS_1 (by omega)]; rfl) | (rw [stS_2 (by omega)])⟩

set_option maxRecDepth 100000 in
theorem m_X1_cutRange (G : zG) {f bf pf pl pc k kf lf sf mf rf : Int → Int} {L c bL bc nx sz ks ls sl ty pla fro to : Int} {rest : List va_E} (hf : ∀ k, rng (f k)) (hL : 0 ≤ L ∧ L ≤ 60) (hr : 0 ≤ fro ∧ fro ≤ 60 ∧ rng to ∧ to ≤ L) : zMet G yX1_cutRange cX1_cutRange 2 (some .int) 2 48 [.ref (G.ad 0)] (dkL G f L c bf bL bc pf pl pc nx sz k kf ks lf ls sf sl mf rf ty pla fro to ++ rest) (zO (.int (iI (if fro < to then 2 else 1))) (dkL G ((ctT f L fro to).1) ((ctT f L fro to).2) (min fro (la (ctT f L fro to).2)) bf bL bc pf pl pc nx sz k kf ks lf ls ((stS f sf sl fro to).1) ((stS f sf sl fro to).2) mf rf ty pla fro to ++ rest)) := by
  refine zMet.of (by decide) (Nat.le_of_ble_eq_true rfl) ?_
  intro E C R
  have C : zC G E RX1 cX1_cutRange 2 2 48 := C
  show V G E 0 [some (.ref (G.ad 0)), none] [] (dkL G f L c bf bL bc pf pl pc nx sz k kf ks lf ls sf sl mf rf ty pla fro to ++ rest)
  refine V_aload_n C dX1_cutRange_0 rfl ?_
  refine V_callV C lk_X1_233 (m_X1_storeRange G hf hL hr) dX1_cutRange_1 rfl rfl rfl rfl (by decide) (Nat.le_of_ble_eq_true rfl) (kO0 ?_)
  refine V_midb (pc2 := 20) (fro < to) ?_ (fun kt_4 kf_4 => ?_)
  · skip
    refine V_istore_n C dX1_cutRange_20 (by decide) rfl ?_
    refine V_iload_n C dX1_cutRange_21 rfl ?_
    refine V_if_eqB (tgt := 40) C dX1_cutRange_22 (by decide) (fun c_22 => ?_) (fun c_22 => ?_)
    · skip
      refine V_aload_n C dX1_cutRange_40 rfl ?_
      refine vg_X1_12 C dX1_cutRange_41 rfl rfl ?_
      refine V_aload_n C dX1_cutRange_44 rfl ?_
      refine vg_X1_178 C dX1_cutRange_45 rfl rfl ?_
      refine V_callN C lk_X1_227 (m_X5_goTo G (i := 1) (j := 2) ⟨rfl, rfl, by first | exact hf | exact zcp_rng hf hf, by omega, by omega⟩ (by omega)) dX1_cutRange_48 rfl rfl rfl rfl (by decide) (Nat.le_of_ble_eq_true rfl) (kO0 ?_)
      refine V_iload_n C dX1_cutRange_51 rfl ?_
      refine V_if_eqB (tgt := 59) C dX1_cutRange_52 (by decide) (fun c_52 => ?_) (fun c_52 => ?_)
      · skip
        refine V_iconst C dX1_cutRange_59 ?_
        exact V_iret C R dX1_cutRange_60 (zO_ic (by omega) (by first | omega | (rw [ctT_1 (by omega)]; rfl) | (rw [ctT_2 (by omega)]; rfl)))
      · skip
        refine V_iconst C dX1_cutRange_55 ?_
        refine V_goto (tgt := 60) C dX1_cutRange_56 (by decide) ?_
        exact V_iret C R dX1_cutRange_60 (zO_ic (by omega) (by first | omega | (rw [ctT_1 (by omega)]; rfl) | (rw [ctT_2 (by omega)]; rfl)))
    · skip
      refine V_aload_n C dX1_cutRange_25 rfl ?_
      refine vg_X1_12 C dX1_cutRange_26 rfl rfl ?_
      refine V_aload_n C dX1_cutRange_29 rfl ?_
      refine vg_X1_178 C dX1_cutRange_30 rfl rfl ?_
      refine V_aload_n C dX1_cutRange_33 rfl ?_
      refine vg_X1_181 C dX1_cutRange_34 rfl rfl ?_
      refine V_callN C lk_X1_255 (m_X5_takeOut G (i := 1) (j := 2) ⟨rfl, rfl, hf, by omega, by omega⟩ (by omega)) dX1_cutRange_37 rfl rfl rfl rfl (by decide) (Nat.le_of_ble_eq_true rfl) (kO0 ?_)
      refine V_aload_n C dX1_cutRange_40 rfl ?_
      refine vg_X1_12 C dX1_cutRange_41 rfl rfl ?_
      refine V_aload_n C dX1_cutRange_44 rfl ?_
      refine vg_X1_178 C dX1_cutRange_45 rfl rfl ?_
      refine V_callN C lk_X1_227 (m_X5_goTo G (i := 1) (j := 2) ⟨rfl, rfl, by first | exact hf | exact zcp_rng hf hf, by omega, by omega⟩ (by omega)) dX1_cutRange_48 rfl rfl rfl rfl (by decide) (Nat.le_of_ble_eq_true rfl) (kO0 ?_)
      refine V_iload_n C dX1_cutRange_51 rfl ?_
      refine V_if_eqB (tgt := 59) C dX1_cutRange_52 (by decide) (fun c_52 => ?_) (fun c_52 => ?_)
      · skip
        refine V_iconst C dX1_cutRange_59 ?_
        exact V_iret C R dX1_cutRange_60 (zO_ic (by omega) (by first | omega | (rw [ctT_1 (by omega)]; rfl) | (rw [ctT_2 (by omega)]; rfl)))
      · skip
        refine V_iconst C dX1_cutRange_55 ?_
        refine V_goto (tgt := 60) C dX1_cutRange_56 (by decide) ?_
        exact V_iret C R dX1_cutRange_60 (zO_ic (by omega) (by first | omega | (rw [ctT_1 (by omega)]; rfl) | (rw [ctT_2 (by omega)]; rfl)))
  · skip
    refine V_aload_n C dX1_cutRange_4 rfl ?_
    refine vg_X1_178 C dX1_cutRange_5 rfl rfl ?_
    refine V_aload_n C dX1_cutRange_8 rfl ?_
    refine vg_X1_181 C dX1_cutRange_9 rfl rfl ?_
    refine V_icmp_ge (tgt := 19) C dX1_cutRange_12 (by decide) (by omega) (by omega) (fun c_12 => ?_) (fun c_12 => ?_)
    · skip
      refine V_iconst C dX1_cutRange_19 ?_
      exact kf_4 (by omega)
    · skip
      refine V_iconst C dX1_cutRange_15 ?_
      refine V_goto (tgt := 20) C dX1_cutRange_16 (by decide) ?_
      exact kt_4 (by omega)

set_option maxRecDepth 100000 in
theorem m_X1_typeAt (G : zG) {f bf pf pl pc k kf lf sf mf rf : Int → Int} {L c bL bc nx sz ks ls sl ty pla fro to : Int} {rest : List va_E} {p : Int} : zMet G yX1_typeAt cX1_typeAt 2 (some .int) 0 0 [.ref (G.ad 0), .int (iI p)] (dkL G f L c bf bL bc pf pl pc nx sz k kf ks lf ls sf sl mf rf ty pla fro to ++ rest) (zO (.int (iI 3)) (dkL G f L (p) bf bL bc pf pl pc nx sz k kf ks lf ls sf sl mf rf ty pla fro to ++ rest)) := by
  refine zMet.of (by decide) (Nat.le_of_ble_eq_true rfl) ?_
  intro E C R
  have C : zC G E RX1 cX1_typeAt 2 0 0 := C
  show V G E 0 [some (.ref (G.ad 0)), some (.int (iI p))] [] (dkL G f L c bf bL bc pf pl pc nx sz k kf ks lf ls sf sl mf rf ty pla fro to ++ rest)
  refine V_aload_n C dX1_typeAt_0 rfl ?_
  refine vg_X1_12 C dX1_typeAt_1 rfl rfl ?_
  refine V_iload_n C dX1_typeAt_4 rfl ?_
  refine vp_X1_85 C dX1_typeAt_5 rfl (Nat.le_of_ble_eq_true rfl) ?_
  refine V_iconst C dX1_typeAt_8 ?_
  exact V_iret C R dX1_typeAt_9 ⟨rfl, rfl⟩

set_option maxRecDepth 100000 in
theorem m_X1_setMark (G : zG) {f bf pf pl pc k kf lf sf mf rf : Int → Int} {L c bL bc nx sz ks ls sl ty pla fro to : Int} {rest : List va_E} {a : Int} (ha : rng a) : zMet G yX1_setMark cX1_setMark 2 (some .int) 0 0 [.ref (G.ad 0), .int (iI a)] (dkL G f L c bf bL bc pf pl pc nx sz k kf ks lf ls sf sl mf rf ty pla fro to ++ rest) (zO (.int (iI (if 0 ≤ a ∧ a < 4 then 1 else 0))) (dkL G f L c bf bL bc pf pl pc nx sz k kf ks lf ls sf sl (if 0 ≤ a ∧ a < 4 then zup mf a c else mf) rf ty pla fro to ++ rest)) := by
  refine zMet.of (by decide) (Nat.le_of_ble_eq_true rfl) ?_
  intro E C R
  have C : zC G E RX1 cX1_setMark 2 0 0 := C
  show V G E 0 [some (.ref (G.ad 0)), some (.int (iI a))] [] (dkL G f L c bf bL bc pf pl pc nx sz k kf ks lf ls sf sl mf rf ty pla fro to ++ rest)
  refine V_iload_n C dX1_setMark_0 rfl ?_
  refine V_if_lt (tgt := 9) C dX1_setMark_1 (by decide) (by omega) (fun c_1 => ?_) (fun c_1 => ?_)
  · skip
    refine V_iconst C dX1_setMark_9 ?_
    exact V_iret C R dX1_setMark_10 (zO_ic (by first | rw [if_pos (by omega)] | rw [if_neg (by omega)]) (by first | (rw [if_pos (by omega)]; rfl) | (rw [if_neg (by omega)])))
  · skip
    refine V_iload_n C dX1_setMark_4 rfl ?_
    refine V_iconst C dX1_setMark_5 ?_
    refine V_icmp_lt (tgt := 11) C dX1_setMark_6 (by decide) (by omega) (by omega) (fun c_6 => ?_) (fun c_6 => ?_)
    · skip
      refine V_aload_n C dX1_setMark_11 rfl ?_
      refine vg_X1_46 C dX1_setMark_12 rfl rfl ?_
      refine V_iload_n C dX1_setMark_15 rfl ?_
      refine V_aload_n C dX1_setMark_16 rfl ?_
      refine vg_X1_12 C dX1_setMark_17 rfl rfl ?_
      refine vg_X1_85 C dX1_setMark_20 rfl rfl ?_
      refine V_iast C dX1_setMark_23 rfl (by omega) (by omega) (by decide) ?_
      refine V_iconst C dX1_setMark_24 ?_
      exact V_iret C R dX1_setMark_25 (zO_ic (by first | rw [if_pos (by omega)] | rw [if_neg (by omega)]) (by first | (rw [if_pos (by omega)]; rfl) | (rw [if_neg (by omega)])))
    · skip
      refine V_iconst C dX1_setMark_9 ?_
      exact V_iret C R dX1_setMark_10 (zO_ic (by first | rw [if_pos (by omega)] | rw [if_neg (by omega)]) (by first | (rw [if_pos (by omega)]; rfl) | (rw [if_neg (by omega)])))

set_option maxRecDepth 100000 in
theorem m_X1_overwrite (G : zG) {f bf pf pl pc k kf lf sf mf rf : Int → Int} {L c bL bc nx sz ks ls sl ty pla fro to : Int} {rest : List va_E} {n : Int} (hf : ∀ k, rng (f k)) (hL : 0 ≤ L ∧ L ≤ 60) (hc : 0 ≤ c ∧ c ≤ la L) (hn : 1 ≤ n ∧ n ≤ 99) : zMet G yX1_overwrite cX1_overwrite 4 (some .int) 0 0 [.ref (G.ad 0), .int (iI n)] (dkL G f L c bf bL bc pf pl pc nx sz k kf ks lf ls sf sl mf rf ty pla fro to ++ rest) (zO (.int (iI (if c + n > L then 0 else 2))) (dkL G (if c + n > L then f else ovr f c (c + n) (k 8)) L (if c + n > L then c else c + n - 1) bf bL bc pf pl pc nx sz k kf ks lf ls sf sl mf rf ty pla fro to ++ rest)) := by
  refine zMet.of (by decide) (Nat.le_of_ble_eq_true rfl) ?_
  intro E C R
  have C : zC G E RX1 cX1_overwrite 4 0 0 := C
  show V G E 0 [some (.ref (G.ad 0)), some (.int (iI n)), none, none] [] (dkL G f L c bf bL bc pf pl pc nx sz k kf ks lf ls sf sl mf rf ty pla fro to ++ rest)
  have hla := la_in hL.1
  refine V_aload_n C dX1_overwrite_0 rfl ?_
  refine vg_X1_12 C dX1_overwrite_1 rfl rfl ?_
  refine vg_X1_85 C dX1_overwrite_4 rfl rfl ?_
  refine V_iload_n C dX1_overwrite_7 rfl ?_
  refine V_iadd C dX1_overwrite_8 ?_
  refine V_istore_n C dX1_overwrite_9 (by decide) rfl ?_
  refine V_iload_n C dX1_overwrite_10 rfl ?_
  refine V_aload_n C dX1_overwrite_11 rfl ?_
  refine vg_X1_12 C dX1_overwrite_12 rfl rfl ?_
  refine vg_X1_82 C dX1_overwrite_15 rfl rfl ?_
  refine V_icmp_le (tgt := 23) C dX1_overwrite_18 (by decide) (by omega) (by omega) (fun c_18 => ?_) (fun c_18 => ?_)
  · skip
    have e0 := ovr_0 f c (k 8)
    generalize hgo : V G E = VV
    rw [← e0]
    subst hgo
    refine V_aload_n C dX1_overwrite_23 rfl ?_
    refine vg_X1_12 C dX1_overwrite_24 rfl rfl ?_
    refine vg_X1_85 C dX1_overwrite_27 rfl rfl ?_
    refine V_istore_n C dX1_overwrite_30 (by decide) rfl ?_
    refine V_loop (α := Int) (fun x => (200 - x).toNat) (fun x => c ≤ x ∧ x ≤ c + n) (fun x => V G E 31 [some (.ref (G.ad 0)), some (.int (iI n)), some (.int (iI (c + n))), some (.int (iI x))] [] (dkL G (ovr f c x (k 8)) L c bf bL bc pf pl pc nx sz k kf ks lf ls sf sl mf rf ty pla fro to ++ rest)) ?_ c ⟨by omega, by omega⟩
    rintro q ⟨g1, g2⟩ ih_31
    refine V_iload_n C dX1_overwrite_31 rfl ?_
    refine V_iload_n C dX1_overwrite_32 rfl ?_
    refine V_icmp_ge (tgt := 58) C dX1_overwrite_33 (by decide) (by omega) (by omega) (fun c_33 => ?_) (fun c_33 => ?_)
    · skip
      refine V_aload_n C dX1_overwrite_58 rfl ?_
      refine vg_X1_12 C dX1_overwrite_59 rfl rfl ?_
      refine V_iload_n C dX1_overwrite_62 rfl ?_
      refine V_iconst C dX1_overwrite_63 ?_
      refine V_isub C dX1_overwrite_64 ?_
      refine vp_X1_85 C dX1_overwrite_65 rfl (Nat.le_of_ble_eq_true rfl) ?_
      refine V_iconst C dX1_overwrite_68 ?_
      exact V_iret C R dX1_overwrite_69 (zO_ic (by rw [if_neg (by omega)]) (by rw [if_neg (by omega), if_neg (by omega), show q = c + n by omega]; rfl))
    · skip
      refine V_aload_n C dX1_overwrite_36 rfl ?_
      refine vg_X1_12 C dX1_overwrite_37 rfl rfl ?_
      refine vg_X1_79 C dX1_overwrite_40 rfl rfl ?_
      refine V_iload_n C dX1_overwrite_43 rfl ?_
      refine V_aload_n C dX1_overwrite_44 rfl ?_
      refine vg_X1_31 C dX1_overwrite_45 rfl rfl ?_
      refine vg_X1_161 C dX1_overwrite_48 rfl rfl ?_
      refine V_iast C dX1_overwrite_51 rfl (by omega) (by omega) (by decide) ?_
      refine V_iinc C dX1_overwrite_52 rfl (by decide) rfl ?_
      refine V_goto (tgt := 31) C dX1_overwrite_55 (by decide) ?_
      have e1 := ovr_s (f := f) (v := k 8) g1
      have h9 := ih_31 (q + 1) ⟨by omega, by omega⟩ (by omega)
      rw [← e1] at h9
      exact h9
  · skip
    refine V_iconst C dX1_overwrite_21 ?_
    exact V_iret C R dX1_overwrite_22 (zO_ic (by rw [if_pos (by omega)]) (by rw [if_pos (by omega), if_pos (by omega)]))

set_option maxRecDepth 100000 in
theorem m_X1_swapCases (G : zG) {f bf pf pl pc k kf lf sf mf rf : Int → Int} {L c bL bc nx sz ks ls sl ty pla fro to : Int} {rest : List va_E} {n : Int} (hf : ∀ k, rng (f k)) (hL : 0 ≤ L ∧ L ≤ 60) (hc : 0 ≤ c ∧ c ≤ la L) (hn : 1 ≤ n ∧ n ≤ 99) : zMet G yX1_swapCases cX1_swapCases 4 (some .int) 2 42 [.ref (G.ad 0), .int (iI n)] (dkL G f L c bf bL bc pf pl pc nx sz k kf ks lf ls sf sl mf rf ty pla fro to ++ rest) (zO (.int (iI (if L = 0 then 0 else 2))) (dkL G (if L = 0 then f else sws f c (min L (c + n))) L (if L = 0 then c else min (min L (c + n)) (la L)) bf bL bc pf pl pc nx sz k kf ks lf ls sf sl mf rf ty pla fro to ++ rest)) := by
  refine zMet.of (by decide) (Nat.le_of_ble_eq_true rfl) ?_
  intro E C R
  have C : zC G E RX1 cX1_swapCases 4 2 42 := C
  show V G E 0 [some (.ref (G.ad 0)), some (.int (iI n)), none, none] [] (dkL G f L c bf bL bc pf pl pc nx sz k kf ks lf ls sf sl mf rf ty pla fro to ++ rest)
  have hla := la_in hL.1
  refine V_aload_n C dX1_swapCases_0 rfl ?_
  refine vg_X1_12 C dX1_swapCases_1 rfl rfl ?_
  refine vg_X1_82 C dX1_swapCases_4 rfl rfl ?_
  refine V_if_ne (tgt := 12) C dX1_swapCases_7 (by decide) (by omega) (fun c_7 => ?_) (fun c_7 => ?_)
  · skip
    refine V_aload_n C dX1_swapCases_12 rfl ?_
    refine vg_X1_12 C dX1_swapCases_13 rfl rfl ?_
    refine vg_X1_82 C dX1_swapCases_16 rfl rfl ?_
    refine V_aload_n C dX1_swapCases_19 rfl ?_
    refine vg_X1_12 C dX1_swapCases_20 rfl rfl ?_
    refine vg_X1_85 C dX1_swapCases_23 rfl rfl ?_
    refine V_iload_n C dX1_swapCases_26 rfl ?_
    refine V_iadd C dX1_swapCases_27 ?_
    refine V_min C wm_X1_200 dX1_swapCases_28 (by omega) (by omega) (by decide) (Nat.le_of_ble_eq_true rfl) ?_
    refine V_istore_n C dX1_swapCases_31 (by decide) rfl ?_
    have e0 := sws_0 f c
    generalize hgo : V G E = VV
    rw [← e0]
    subst hgo
    refine V_aload_n C dX1_swapCases_32 rfl ?_
    refine vg_X1_12 C dX1_swapCases_33 rfl rfl ?_
    refine vg_X1_85 C dX1_swapCases_36 rfl rfl ?_
    refine V_istore_n C dX1_swapCases_39 (by decide) rfl ?_
    refine V_loop (α := Int) (fun x => (200 - x).toNat) (fun x => c ≤ x ∧ x ≤ min L (c + n)) (fun x => V G E 40 [some (.ref (G.ad 0)), some (.int (iI n)), some (.int (iI (min L (c + n)))), some (.int (iI x))] [] (dkL G (sws f c x) L c bf bL bc pf pl pc nx sz k kf ks lf ls sf sl mf rf ty pla fro to ++ rest)) ?_ c ⟨by omega, by omega⟩
    rintro q ⟨g1, g2⟩ ih_40
    refine V_iload_n C dX1_swapCases_40 rfl ?_
    refine V_iload_n C dX1_swapCases_41 rfl ?_
    refine V_icmp_ge (tgt := 59) C dX1_swapCases_42 (by decide) (by omega) (by omega) (fun c_42 => ?_) (fun c_42 => ?_)
    · skip
      refine V_aload_n C dX1_swapCases_59 rfl ?_
      refine vg_X1_12 C dX1_swapCases_60 rfl rfl ?_
      refine V_iload_n C dX1_swapCases_63 rfl ?_
      refine V_callN C lk_X1_227 (m_X5_goTo G (i := 1) (j := 2) ⟨rfl, rfl, sws_rng hf, by omega, by omega⟩ (by omega)) dX1_swapCases_64 rfl rfl rfl rfl (by decide) (Nat.le_of_ble_eq_true rfl) (kO0 ?_)
      refine V_iconst C dX1_swapCases_67 ?_
      exact V_iret C R dX1_swapCases_68 (zO_ic (by rw [if_neg (by omega)]) (by rw [if_neg (by omega), if_neg (by omega), show q = min L (c + n) by omega]; rfl))
    · skip
      refine V_aload_n C dX1_swapCases_45 rfl ?_
      refine vg_X1_12 C dX1_swapCases_46 rfl rfl ?_
      refine V_iload_n C dX1_swapCases_49 rfl ?_
      refine V_callN C lk_X1_258 (m_X5_swapCase G (i := 1) (j := 2) ⟨rfl, rfl, sws_rng hf, by omega, by omega⟩ (by omega)) dX1_swapCases_50 rfl rfl rfl rfl (by decide) (Nat.le_of_ble_eq_true rfl) (kO0 ?_)
      refine V_iinc C dX1_swapCases_53 rfl (by decide) rfl ?_
      refine V_goto (tgt := 40) C dX1_swapCases_56 (by decide) ?_
      have e1 := sws_s (f := f) g1
      have h9 := ih_40 (q + 1) ⟨by omega, by omega⟩ (by omega)
      rw [← e1] at h9
      exact h9
  · skip
    refine V_iconst C dX1_swapCases_10 ?_
    exact V_iret C R dX1_swapCases_11 (zO_ic (by rw [if_pos (by omega)]) (by rw [if_pos (by omega), if_pos (by omega)]))

set_option maxRecDepth 100000 in
theorem m_X1_putIn (G : zG) {f bf pf pl pc k kf lf sf mf rf : Int → Int} {L c bL bc nx sz ks ls sl ty pla fro to : Int} {rest : List va_E} {n p : Int} (hf : ∀ k, rng (f k)) (hL : 0 ≤ L ∧ L ≤ 60) (hn : 1 ≤ n ∧ n ≤ 99) (hp : 0 ≤ p ∧ p ≤ L) (hs : 0 ≤ sl ∧ sl ≤ 60) (hsf : ∀ k, rng (sf k)) : zMet G yX1_putIn cX1_putIn 5 (some .int) 2 48 [.ref (G.ad 0), .int (iI n), .int (iI p)] (dkL G f L c bf bL bc pf pl pc nx sz k kf ks lf ls sf sl mf rf ty pla fro to ++ rest) (zO (.int (iI (if n * sl = 0 ∨ n * sl > 60 - L then 0 else 2))) (dkL G (if n * sl = 0 ∨ n * sl > 60 - L then f else pin (zcp f f p (p + n * sl) (L - p)) sf sl p (p + n * sl)) (if n * sl = 0 ∨ n * sl > 60 - L then L else L + n * sl) (if n * sl = 0 ∨ n * sl > 60 - L then c else p + n * sl - 1) bf bL bc pf pl pc nx sz k kf ks lf ls sf sl mf rf ty pla fro to ++ rest)) := by
  refine zMet.of (by decide) (Nat.le_of_ble_eq_true rfl) ?_
  intro E C R
  have C : zC G E RX1 cX1_putIn 5 2 48 := C
  show V G E 0 [some (.ref (G.ad 0)), some (.int (iI n)), some (.int (iI p)), none, none] [] (dkL G f L c bf bL bc pf pl pc nx sz k kf ks lf ls sf sl mf rf ty pla fro to ++ rest)
  have hm1 := Int.mul_le_mul hn.2 hs.2 hs.1 (by omega)
  have hm0 := Int.mul_nonneg (show 0 ≤ n by omega) hs.1
  refine V_iload_n C dX1_putIn_0 rfl ?_
  refine V_aload_n C dX1_putIn_1 rfl ?_
  refine vg_X1_71 C dX1_putIn_2 rfl rfl ?_
  refine V_imul C dX1_putIn_5 ?_
  refine V_istore_n C dX1_putIn_6 (by decide) rfl ?_
  refine V_iload_n C dX1_putIn_7 rfl ?_
  refine V_if_eq (tgt := 25) C dX1_putIn_8 (by decide) (by omega) (fun c_8 => ?_) (fun c_8 => ?_)
  · skip
    refine V_iconst C dX1_putIn_25 ?_
    exact V_iret C R dX1_putIn_26 (zO_ic (by rw [if_pos (by omega)]) (by rw [if_pos (by omega), if_pos (by omega), if_pos (by omega)]))
  · skip
    refine V_iload_n C dX1_putIn_11 rfl ?_
    refine V_bipush C dX1_putIn_12 (by decide) ?_
    refine V_aload_n C dX1_putIn_14 rfl ?_
    refine vg_X1_12 C dX1_putIn_15 rfl rfl ?_
    refine vg_X1_82 C dX1_putIn_18 rfl rfl ?_
    refine V_isub C dX1_putIn_21 ?_
    refine V_icmp_le (tgt := 27) C dX1_putIn_22 (by decide) (by omega) (by omega) (fun c_22 => ?_) (fun c_22 => ?_)
    · skip
      refine V_aload_n C dX1_putIn_27 rfl ?_
      refine vg_X1_12 C dX1_putIn_28 rfl rfl ?_
      refine V_iload_n C dX1_putIn_31 rfl ?_
      refine V_iload_n C dX1_putIn_32 rfl ?_
      refine V_callN C lk_X1_148 (m_X5_makeRoom G (i := 1) (j := 2) ⟨rfl, rfl, hf, by omega, by omega⟩ (by omega) (by omega)) dX1_putIn_33 rfl rfl rfl rfl (by decide) (Nat.le_of_ble_eq_true rfl) (kO0 ?_)
      have e0 : pin (zcp f f p (p + n * sl) (L - p)) sf sl p (p + 0 * sl) = zcp f f p (p + n * sl) (L - p) := by rw [show p + 0 * sl = p by omega]; exact pin_0 _ _ _ _
      generalize hgo : V G E = VV
      rw [← e0]
      subst hgo
      refine V_iconst C dX1_putIn_36 ?_
      refine V_istore C dX1_putIn_37 (by decide) rfl ?_
      refine V_loop (α := Int) (fun x => (200 - x).toNat) (fun x => 0 ≤ x ∧ x ≤ n) (fun x => V G E 39 [some (.ref (G.ad 0)), some (.int (iI n)), some (.int (iI p)), some (.int (iI (n * sl))), some (.int (iI x))] [] (dkL G (pin (zcp f f p (p + n * sl) (L - p)) sf sl p (p + x * sl)) (L + n * sl) c bf bL bc pf pl pc nx sz k kf ks lf ls sf sl mf rf ty pla fro to ++ rest)) ?_ 0 ⟨by omega, by omega⟩
      rintro q ⟨g1, g2⟩ ih_39
      have hq0 := Int.mul_nonneg g1 hs.1
      have hq1 : (q + 1) * sl = q * sl + sl := by rw [Int.add_mul, Int.one_mul]
      have hq2 : q < n → (q + 1) * sl ≤ n * sl := fun h => Int.mul_le_mul_of_nonneg_right (by omega) hs.1
      have hsp : 0 < sl := by
        rcases Int.lt_or_le 0 sl with h | h
        · exact h
        · rw [show sl = 0 by omega, Int.mul_zero] at c_8; exact absurd rfl c_8
      refine V_iload C dX1_putIn_39 rfl ?_
      refine V_iload_n C dX1_putIn_41 rfl ?_
      refine V_icmp_ge (tgt := 79) C dX1_putIn_42 (by decide) (by omega) (by omega) (fun c_42 => ?_) (fun c_42 => ?_)
      · skip
        refine V_aload_n C dX1_putIn_79 rfl ?_
        refine vg_X1_12 C dX1_putIn_80 rfl rfl ?_
        refine V_iload_n C dX1_putIn_83 rfl ?_
        refine V_iload_n C dX1_putIn_84 rfl ?_
        refine V_iadd C dX1_putIn_85 ?_
        refine V_iconst C dX1_putIn_86 ?_
        refine V_isub C dX1_putIn_87 ?_
        refine vp_X1_85 C dX1_putIn_88 rfl (Nat.le_of_ble_eq_true rfl) ?_
        refine V_iconst C dX1_putIn_91 ?_
        exact V_iret C R dX1_putIn_92 (zO_ic (by rw [if_neg (by omega)]) (by rw [if_neg (by omega), if_neg (by omega), if_neg (by omega), show q = n by omega]; rfl))
      · skip
        refine V_aload_n C dX1_putIn_45 rfl ?_
        refine vg_X1_42 C dX1_putIn_46 rfl rfl ?_
        refine V_iconst C dX1_putIn_49 ?_
        refine V_aload_n C dX1_putIn_50 rfl ?_
        refine vg_X1_12 C dX1_putIn_51 rfl rfl ?_
        refine vg_X1_79 C dX1_putIn_54 rfl rfl ?_
        refine V_iload_n C dX1_putIn_57 rfl ?_
        refine V_iload C dX1_putIn_58 rfl ?_
        refine V_aload_n C dX1_putIn_60 rfl ?_
        refine vg_X1_71 C dX1_putIn_61 rfl rfl ?_
        refine V_imul C dX1_putIn_64 ?_
        refine V_iadd C dX1_putIn_65 ?_
        refine V_aload_n C dX1_putIn_66 rfl ?_
        refine vg_X1_71 C dX1_putIn_67 rfl rfl ?_
        refine V_copyI C wm_X1_65 dX1_putIn_70 rfl rfl (by omega) (by omega) (by omega) (by omega) (by omega) (by decide) (by decide) (by decide) (Nat.le_of_ble_eq_true rfl) ?_
        refine V_iinc C dX1_putIn_73 rfl (by decide) rfl ?_
        refine V_goto (tgt := 39) C dX1_putIn_76 (by decide) ?_
        have e1 := pin_s (g := zcp f f p (p + n * sl) (L - p)) (sf := sf) (p := p) hsp hq0
        have h9 := ih_39 (q + 1) ⟨by omega, by omega⟩ (by omega)
        rw [← e1] at h9
        exact h9
    · skip
      refine V_iconst C dX1_putIn_25 ?_
      exact V_iret C R dX1_putIn_26 (zO_ic (by rw [if_pos (by omega)]) (by rw [if_pos (by omega), if_pos (by omega), if_pos (by omega)]))
