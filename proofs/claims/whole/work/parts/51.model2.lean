theorem zcp_st {f h : Int → Int} {sp dp i q q' v : Int} (hv : v = f (sp + q)) (hi : i = dp + q) (hq : q' = q + 1) (h0 : 0 ≤ q) : zup (zcp f h sp dp q) i v = zcp f h sp dp q' := by
  rw [hv, hi, hq]; exact zcp_s h0
def cv (z : Int) : Int := if z = -1 then -4 else z
theorem cv_n {z : Int} (h : z ≠ -1) : cv z = z := if_neg h
theorem cv_m {z : Int} (h : z = -1) : cv z = -4 := if_pos h
theorem fb_sh (f : Int → Int) (L w n : Int) : ∀ (k : Nat) (q : Int), (L - q).toNat ≤ k → fb f L w (n + 1) q n = fb f L w 1 q 0
  | 0, q, h => by rw [fb_5 (by omega), fb_5 (by omega)]
  | k + 1, q, h => by
    by_cases c : q < L
    · by_cases e : f q = w
      · rw [fb_1 (n := n + 1) c e rfl, fb_1 (n := 1) c e rfl]
      · rw [fb_4 c e (by omega), fb_4 c e (by omega)]; exact fb_sh f L w n k (q + 1) (by omega)
    · rw [fb_5 (by omega), fb_5 (by omega)]
theorem fb_nx (f : Int → Int) (L w n : Int) : ∀ (k : Nat) (q c : Int), (L - q).toNat ≤ k → c < n → 0 ≤ q → fb f L w (n + 1) q c = if fb f L w n q c = -1 then -1 else fb f L w 1 (fb f L w n q c + 1) 0
  | 0, q, c, h, hc, h0 => by rw [fb_5 (by omega), fb_5 (by omega), if_pos rfl]
  | k + 1, q, c, h, hc, h0 => by
    by_cases c1 : q < L
    · by_cases e : f q = w
      · by_cases e2 : c + 1 = n
        · rw [fb_1 (n := n) c1 e e2, fb_3 (n := n + 1) c1 e (by omega), e2, if_neg (by omega)]; exact fb_sh f L w n _ (q + 1) (Nat.le_refl _)
        · rw [fb_3 (n := n) c1 e e2, fb_3 (n := n + 1) c1 e (by omega)]; exact fb_nx f L w n k (q + 1) (c + 1) (by omega) (by omega) (by omega)
      · rw [fb_4 (n := n) c1 e (by omega), fb_4 (n := n + 1) c1 e (by omega)]; exact fb_nx f L w n k (q + 1) c (by omega) (by omega) (by omega)
    · rw [fb_5 (by omega), fb_5 (by omega), if_pos rfl]
theorem fb_nx' {f : Int → Int} {L w n q : Int} (hn : 1 ≤ n) (hq : 0 ≤ q) : fb f L w (n + 1) q 0 = if fb f L w n q 0 = -1 then -1 else fb f L w 1 (fb f L w n q 0 + 1) 0 := fb_nx f L w n _ q 0 (Nat.le_refl _) (by omega) hq
theorem fb_up {f : Int → Int} {L w q : Int} (hq : 0 ≤ q) (i : Int) (hi : 1 ≤ i) (h : fb f L w i q 0 = -1) : ∀ (k : Nat), fb f L w (i + k) q 0 = -1
  | 0 => by simpa using h
  | k + 1 => by rw [show i + ((k + 1 : Nat) : Int) = (i + k) + 1 by omega, fb_nx' (by omega) hq, if_pos (fb_up hq i hi h k)]
/-! the rows that the reference's steps leave -/
def kpG (g : Int → Int) (a b : Int) : Int → Int := zcp g (zup g 63 (b - a)) (1 + a) 64 (b - a)
def ctG (g : Int → Int) (a b : Int) : Int → Int := zup (zcp g g (1 + b) (1 + a) (g 0 - b)) 0 (g 0 - (b - a))
def edG (g : Int → Int) : Int → Int := zup (zup (zup (zup (zup g 159 0) 190 0) 191 0) 192 0) 193 0
def rcF (g : Int → Int) (x : Int) : Int → Int := if g 159 < 30 then zup g (160 + g 159) x else g
theorem rcF_9 {g : Int → Int} {x : Int} (h : 0 ≤ g 159) : rcF g x 159 = g 159 := by
  unfold rcF; split
  · exact zup_n (by omega)
  · rfl
theorem rcF_rng {g : Int → Int} {x : Int} (hg : ∀ j, rng (g j)) (hx : rng x) : ∀ j, rng (rcF g x j) := by
  unfold rcF; split
  · exact zup_rng hg hx
  · exact hg
def rcG (g : Int → Int) (x : Int) : Int → Int := zup (rcF g x) 159 (min (g 159 + 1) 31)
def chG (g : Int → Int) : Int → Int := zcp g (zup g 128 (g 159)) 160 129 30
def chV (un : Int) : Int := if un = 8 then 7 else un
def chA (un : Int) (ah g : Int → Int) : Int → Int := zcp g (if un = 8 then zcp ah ah 62 0 434 else ah) 194 (62 * chV un) 62
def unG (ah g : Int → Int) (u : Int) : Int → Int := zcp ah g (62 * u) 0 62

set_option maxRecDepth 100000 in
theorem m_X8_nextOf (G : zG) {un td ku : Int} {g ah ag tp co wy th kp ka ln sn it mv : Int → Int} {rest : List va_E} (hg : ∀ j, rng (g j))  (hL : 0 ≤ g 0 ∧ g 0 ≤ 60) {p w : Int} (hp : 0 ≤ p ∧ p ≤ 60) (hw : rng w) : zMet G yX8_nextOf cX8_nextOf 5 (some .int) 0 0 [.ref (G.ad 0), .int (iI p), .int (iI w)] (mdL G un td ku g ah ag tp co wy th kp ka ln sn it mv ++ rest) (zO (.int (iI (cv (fb (lt g) (g 0) w 1 (p + 1) 0)))) (mdL G un td ku g ah ag tp co wy th kp ka ln sn it mv ++ rest)) := by
  refine zMet.of (by decide) (Nat.le_of_ble_eq_true rfl) ?_
  intro E C R
  have C : zC G E RX8 cX8_nextOf 5 0 0 := C
  show V G E 0 [some (.ref (G.ad 0)), some (.int (iI p)), some (.int (iI w)), none, none] [] (mdL G un td ku g ah ag tp co wy th kp ka ln sn it mv ++ rest)
  refine V_bipush C dX8_nextOf_0 (by decide) ?_
  refine V_istore_n C dX8_nextOf_2 (by decide) rfl ?_
  refine V_aload_n C dX8_nextOf_3 rfl ?_
  refine vg_X8_7 C dX8_nextOf_4 rfl rfl ?_
  refine V_iconst C dX8_nextOf_7 ?_
  refine V_iald C dX8_nextOf_8 rfl (by omega) (by omega) (by decide) (by repeat' (first | with_reducible assumption | refine zup_rng ?_ (by first | omega | exact hg _) | refine zcp_rng ?_ ?_)) (fun r_8 => ?_)
  refine V_iconst C dX8_nextOf_9 ?_
  refine V_isub C dX8_nextOf_10 ?_
  refine V_istore C dX8_nextOf_11 (by decide) rfl ?_
  refine V_loop (α := Int × Int) (fun x => (x.1 + 1).toNat) (fun x => x.1 ≤ g 0 - 1 ∧ -1 ≤ x.1 ∧ (p ≤ x.1 ∨ x.1 = g 0 - 1) ∧ x.2 = cv (fb (lt g) (g 0) w 1 (x.1 + 1) 0)) (fun x => V G E 13 [some (.ref (G.ad 0)), some (.int (iI p)), some (.int (iI w)), some (.int (iI x.2)), some (.int (iI x.1))] [] (mdL G un td ku g ah ag tp co wy th kp ka ln sn it mv ++ rest)) ?_ (g 0 - 1, -4) ⟨by dsimp only; omega, by dsimp only; omega, by dsimp only; omega, by dsimp only; rw [fb_5 (by omega)]; rfl⟩
  rintro ⟨q, r⟩ ⟨g1, g2, g3, g4⟩ ih_13
  dsimp only at *
  refine V_iload C dX8_nextOf_13 rfl ?_
  refine V_iload_n C dX8_nextOf_15 rfl ?_
  refine V_icmp_le (tgt := 45) C dX8_nextOf_16 (by decide) (by omega) (by omega) (fun c_16 => ?_) (fun c_16 => ?_)
  · skip
    refine V_iload_n C dX8_nextOf_45 rfl ?_
    exact V_iret C R dX8_nextOf_46 (zO_i (by rw [g4]; rcases (show q = p ∨ (q = g 0 - 1 ∧ g 0 ≤ p + 1) by omega) with e | e; rw [e]; rw [fb_5 (by omega), fb_5 (by omega)]))
  · skip
    refine V_aload_n C dX8_nextOf_19 rfl ?_
    refine vg_X8_7 C dX8_nextOf_20 rfl rfl ?_
    refine V_iconst C dX8_nextOf_23 ?_
    refine V_iload C dX8_nextOf_24 rfl ?_
    refine V_iadd C dX8_nextOf_26 ?_
    refine V_iald C dX8_nextOf_27 rfl (by omega) (by omega) (by decide) (by repeat' (first | with_reducible assumption | refine zup_rng ?_ (by first | omega | exact hg _) | refine zcp_rng ?_ ?_)) (fun r_27 => ?_)
    refine V_iload_n C dX8_nextOf_28 rfl ?_
    refine V_icmp_ne (tgt := 37) C dX8_nextOf_29 (by decide) (by omega) (by omega) (fun c_29 => ?_) (fun c_29 => ?_)
    · skip
      refine V_iload_n C dX8_nextOf_37 rfl ?_
      refine V_istore_n C dX8_nextOf_38 (by decide) rfl ?_
      refine V_iinc C dX8_nextOf_39 rfl (by decide) rfl ?_
      refine V_goto (tgt := 13) C dX8_nextOf_42 (by decide) ?_
      refine ih_13 (q + -1, _) ⟨by dsimp only; omega, by dsimp only; omega, by dsimp only; omega, ?_⟩ (by dsimp only; omega)
      dsimp only
      rw [show q + -1 + 1 = q by omega]
      first | (rw [fb_1 (by omega) (by assumption) (by omega), cv_n (by omega)]) | (rw [fb_4 (by omega) (by assumption) (by omega)]; exact g4)
    · skip
      refine V_iload C dX8_nextOf_32 rfl ?_
      refine V_goto (tgt := 38) C dX8_nextOf_34 (by decide) ?_
      refine V_istore_n C dX8_nextOf_38 (by decide) rfl ?_
      refine V_iinc C dX8_nextOf_39 rfl (by decide) rfl ?_
      refine V_goto (tgt := 13) C dX8_nextOf_42 (by decide) ?_
      refine ih_13 (q + -1, _) ⟨by dsimp only; omega, by dsimp only; omega, by dsimp only; omega, ?_⟩ (by dsimp only; omega)
      dsimp only
      rw [show q + -1 + 1 = q by omega]
      first | (rw [fb_1 (by omega) (by assumption) (by omega), cv_n (by omega)]) | (rw [fb_4 (by omega) (by assumption) (by omega)]; exact g4)

set_option maxRecDepth 100000 in
theorem m_X8_findsTo (G : zG) {un td ku : Int} {g ah ag tp co wy th kp ka ln sn it mv : Int → Int} {rest : List va_E} (hg : ∀ j, rng (g j))  (hL : 0 ≤ g 0 ∧ g 0 ≤ 60) {w n : Int} (hw : rng w) (hc : 0 ≤ g 61 ∧ g 61 ≤ 60) (hn : 1 ≤ n ∧ n ≤ 99) : zMet G yX8_findsTo cX8_findsTo 5 (some .int) 1 24 [.ref (G.ad 0), .int (iI w), .int (iI n)] (mdL G un td ku g ah ag tp co wy th kp ka ln sn it mv ++ rest) (zO (.int (iI (cv (fb (lt g) (g 0) w n (g 61 + 1) 0)))) (mdL G un td ku g ah ag tp co wy th kp ka ln sn it mv ++ rest)) := by
  refine zMet.of (by decide) (Nat.le_of_ble_eq_true rfl) ?_
  intro E C R
  have C : zC G E RX8 cX8_findsTo 5 1 24 := C
  show V G E 0 [some (.ref (G.ad 0)), some (.int (iI w)), some (.int (iI n)), none, none] [] (mdL G un td ku g ah ag tp co wy th kp ka ln sn it mv ++ rest)
  refine V_aload_n C dX8_findsTo_0 rfl ?_
  refine vg_X8_7 C dX8_findsTo_1 rfl rfl ?_
  refine V_bipush C dX8_findsTo_4 (by decide) ?_
  refine V_iald C dX8_findsTo_6 rfl (by omega) (by omega) (by decide) (by repeat' (first | with_reducible assumption | refine zup_rng ?_ (by first | omega | exact hg _) | refine zcp_rng ?_ ?_)) (fun r_6 => ?_)
  refine V_istore_n C dX8_findsTo_7 (by decide) rfl ?_
  refine V_iconst C dX8_findsTo_8 ?_
  refine V_istore C dX8_findsTo_9 (by decide) rfl ?_
  refine V_loop (α := Int × Int) (fun x => (n - x.2).toNat) (fun x => 0 ≤ x.2 ∧ x.2 ≤ n ∧ ((x.2 = 0 ∧ x.1 = g 61) ∨ (1 ≤ x.2 ∧ x.1 = cv (fb (lt g) (g 0) w x.2 (g 61 + 1) 0)))) (fun x => V G E 11 [some (.ref (G.ad 0)), some (.int (iI w)), some (.int (iI n)), some (.int (iI x.1)), some (.int (iI x.2))] [] (mdL G un td ku g ah ag tp co wy th kp ka ln sn it mv ++ rest)) ?_ (g 61, 0) ⟨by dsimp only; omega, by dsimp only; omega, Or.inl ⟨rfl, rfl⟩⟩
  rintro ⟨q, i⟩ ⟨g1, g2, g3⟩ ih_11
  dsimp only at *
  have hq : rng q ∧ (q ≠ -4 → 0 ≤ q ∧ q ≤ 60) := by
    rcases g3 with e | e
    · exact ⟨by omega, fun _ => by omega⟩
    · have h1 := fb_in (lt g) (g 0) w i (g 61 + 1) 0
      rw [e.2]; unfold cv; split
      · exact ⟨by omega, fun h => absurd rfl h⟩
      · exact ⟨by omega, fun _ => by omega⟩
  refine V_iload C dX8_findsTo_11 rfl ?_
  refine V_iload_n C dX8_findsTo_13 rfl ?_
  refine V_icmp_ge (tgt := 36) C dX8_findsTo_14 (by decide) (by omega) (by omega) (fun c_14 => ?_) (fun c_14 => ?_)
  · skip
    refine V_iload_n C dX8_findsTo_36 rfl ?_
    exact V_iret C R dX8_findsTo_37 (zO_i (by
        rcases g3 with e | e
        · omega
        · by_cases h : i = n
          · rw [e.2, h]
          · have hq4 : q = -4 := by omega
            have hi : fb (lt g) (g 0) w i (g 61 + 1) 0 = -1 := by
              by_cases z : fb (lt g) (g 0) w i (g 61 + 1) 0 = -1
              · exact z
              · exfalso; rw [cv_n z] at e; have h1 := fb_in (lt g) (g 0) w i (g 61 + 1) 0; omega
            have h2 := fb_up (f := lt g) (L := g 0) (w := w) (q := g 61 + 1) (by omega) i e.1 hi (n - i).toNat
            rw [show i + ((n - i).toNat : Int) = n by omega] at h2
            rw [hq4, cv_m h2]))
  · skip
    refine V_iload_n C dX8_findsTo_17 rfl ?_
    refine V_bipush C dX8_findsTo_18 (by decide) ?_
    refine V_icmp_eq (tgt := 36) C dX8_findsTo_20 (by decide) (by omega) (by omega) (fun c_20 => ?_) (fun c_20 => ?_)
    · skip
      refine V_iload_n C dX8_findsTo_36 rfl ?_
      exact V_iret C R dX8_findsTo_37 (zO_i (by
          rcases g3 with e | e
          · omega
          · by_cases h : i = n
            · rw [e.2, h]
            · have hq4 : q = -4 := by omega
              have hi : fb (lt g) (g 0) w i (g 61 + 1) 0 = -1 := by
                by_cases z : fb (lt g) (g 0) w i (g 61 + 1) 0 = -1
                · exact z
                · exfalso; rw [cv_n z] at e; have h1 := fb_in (lt g) (g 0) w i (g 61 + 1) 0; omega
              have h2 := fb_up (f := lt g) (L := g 0) (w := w) (q := g 61 + 1) (by omega) i e.1 hi (n - i).toNat
              rw [show i + ((n - i).toNat : Int) = n by omega] at h2
              rw [hq4, cv_m h2]))
    · skip
      refine V_aload_n C dX8_findsTo_23 rfl ?_
      refine V_iload_n C dX8_findsTo_24 rfl ?_
      refine V_iload_n C dX8_findsTo_25 rfl ?_
      refine V_callV C lk_X8_90 (m_X8_nextOf G hg hL (p := q) (by first | omega | (have := hq; omega)) hw) dX8_findsTo_26 rfl rfl rfl rfl (by decide) (Nat.le_of_ble_eq_true rfl) (kO ?_)
      refine V_istore_n C dX8_findsTo_29 (by decide) rfl ?_
      refine V_iinc C dX8_findsTo_30 rfl (by decide) rfl ?_
      refine V_goto (tgt := 11) C dX8_findsTo_33 (by decide) ?_
      refine ih_11 (cv (fb (lt g) (g 0) w 1 (q + 1) 0), i + 1) ⟨by dsimp only; omega, by dsimp only; omega, Or.inr ⟨by dsimp only; omega, ?_⟩⟩ (by dsimp only; omega)
      dsimp only
      rcases g3 with e | e
      · rw [e.1, e.2]; rfl
      · have hi : fb (lt g) (g 0) w i (g 61 + 1) 0 ≠ -1 := fun h => by rw [cv_m h] at e; omega
        rw [fb_nx' e.1 (by omega), if_neg hi, e.2, cv_n hi]

set_option maxRecDepth 100000 in
theorem m_X8_often (G : zG) {un td ku : Int} {g ah ag tp co wy th kp ka ln sn it mv : Int → Int} {rest : List va_E} (hg : ∀ j, rng (g j))  (h1 : 0 ≤ g 191 ∧ g 191 ≤ 99) (h2 : 0 ≤ g 192 ∧ g 192 ≤ 99) : zMet G yX8_often cX8_often 3 (some .int) 1 21 [.ref (G.ad 0)] (mdL G un td ku g ah ag tp co wy th kp ka ln sn it mv ++ rest) (zO (.int (iI (min (max (g 191) 1 * max (g 192) 1) 99))) (mdL G un td ku g ah ag tp co wy th kp ka ln sn it mv ++ rest)) := by
  refine zMet.of (by decide) (Nat.le_of_ble_eq_true rfl) ?_
  intro E C R
  have C : zC G E RX8 cX8_often 3 1 21 := C
  show V G E 0 [some (.ref (G.ad 0)), none, none] [] (mdL G un td ku g ah ag tp co wy th kp ka ln sn it mv ++ rest)
  have hm : max (g 191) 1 * max (g 192) 1 ≤ 9801 ∧ 0 ≤ max (g 191) 1 * max (g 192) 1 := ⟨Int.le_trans (Int.mul_le_mul (show max (g 191) 1 ≤ 99 by omega) (show max (g 192) 1 ≤ 99 by omega) (by omega) (by omega)) (by decide), Int.mul_nonneg (by omega) (by omega)⟩
  refine V_midz (pc2 := 23) (max (g 191) 1) ?_ (fun kk_0 => ?_)
  · skip
    refine V_istore_n C dX8_often_23 (by decide) rfl ?_
    refine V_midz (pc2 := 47) (max (g 192) 1) ?_ (fun kk_24 => ?_)
    · skip
      refine V_istore_n C dX8_often_47 (by decide) rfl ?_
      refine V_iload_n C dX8_often_48 rfl ?_
      refine V_iload_n C dX8_often_49 rfl ?_
      refine V_imul C dX8_often_50 ?_
      refine V_bipush C dX8_often_51 (by decide) ?_
      refine V_callS C lk_X8_94 (m_X8_lesser G (by omega) (by omega)) dX8_often_53 rfl rfl (by decide) (Nat.le_of_ble_eq_true rfl) (kO ?_)
      exact V_iret C R dX8_often_56 ⟨rfl, rfl⟩
    · skip
      refine V_aload_n C dX8_often_24 rfl ?_
      refine vg_X8_7 C dX8_often_25 rfl rfl ?_
      refine V_sipush C dX8_often_28 (by decide) ?_
      refine V_iald C dX8_often_31 rfl (by omega) (by omega) (by decide) (by repeat' (first | with_reducible assumption | refine zup_rng ?_ (by first | omega | exact hg _) | refine zcp_rng ?_ ?_)) (fun r_31 => ?_)
      refine V_if_ne (tgt := 39) C dX8_often_32 (by decide) (by omega) (fun c_32 => ?_) (fun c_32 => ?_)
      · skip
        refine V_aload_n C dX8_often_39 rfl ?_
        refine vg_X8_7 C dX8_often_40 rfl rfl ?_
        refine V_sipush C dX8_often_43 (by decide) ?_
        refine V_iald C dX8_often_46 rfl (by omega) (by omega) (by decide) (by repeat' (first | with_reducible assumption | refine zup_rng ?_ (by first | omega | exact hg _) | refine zcp_rng ?_ ?_)) (fun r_46 => ?_)
        exact kk_24 _ (by omega)
      · skip
        refine V_iconst C dX8_often_35 ?_
        refine V_goto (tgt := 47) C dX8_often_36 (by decide) ?_
        exact kk_24 _ (by omega)
  · skip
    refine V_aload_n C dX8_often_0 rfl ?_
    refine vg_X8_7 C dX8_often_1 rfl rfl ?_
    refine V_sipush C dX8_often_4 (by decide) ?_
    refine V_iald C dX8_often_7 rfl (by omega) (by omega) (by decide) (by repeat' (first | with_reducible assumption | refine zup_rng ?_ (by first | omega | exact hg _) | refine zcp_rng ?_ ?_)) (fun r_7 => ?_)
    refine V_if_ne (tgt := 15) C dX8_often_8 (by decide) (by omega) (fun c_8 => ?_) (fun c_8 => ?_)
    · skip
      refine V_aload_n C dX8_often_15 rfl ?_
      refine vg_X8_7 C dX8_often_16 rfl rfl ?_
      refine V_sipush C dX8_often_19 (by decide) ?_
      refine V_iald C dX8_often_22 rfl (by omega) (by omega) (by decide) (by repeat' (first | with_reducible assumption | refine zup_rng ?_ (by first | omega | exact hg _) | refine zcp_rng ?_ ?_)) (fun r_22 => ?_)
      exact kk_0 _ (by omega)
    · skip
      refine V_iconst C dX8_often_11 ?_
      refine V_goto (tgt := 23) C dX8_often_12 (by decide) ?_
      exact kk_0 _ (by omega)

set_option maxRecDepth 100000 in
theorem m_X8_ends (G : zG) {un td ku : Int} {g ah ag tp co wy th kp ka ln sn it mv : Int → Int} {rest : List va_E}  : zMet G yX8_ends cX8_ends 1 none 0 0 [.ref (G.ad 0)] (mdL G un td ku g ah ag tp co wy th kp ka ln sn it mv ++ rest) (zO0 (mdL G un td ku (edG g) ah ag tp co wy th kp ka ln sn it mv ++ rest)) := by
  refine zMet.of (by decide) (Nat.le_of_ble_eq_true rfl) ?_
  intro E C R
  have C : zC G E RX8 cX8_ends 1 0 0 := C
  show V G E 0 [some (.ref (G.ad 0))] [] (mdL G un td ku g ah ag tp co wy th kp ka ln sn it mv ++ rest)
  refine V_aload_n C dX8_ends_0 rfl ?_
  refine vg_X8_7 C dX8_ends_1 rfl rfl ?_
  refine V_sipush C dX8_ends_4 (by decide) ?_
  refine V_iconst C dX8_ends_7 ?_
  refine V_iast C dX8_ends_8 rfl (by omega) (by omega) (by decide) ?_
  refine V_aload_n C dX8_ends_9 rfl ?_
  refine vg_X8_7 C dX8_ends_10 rfl rfl ?_
  refine V_sipush C dX8_ends_13 (by decide) ?_
  refine V_iconst C dX8_ends_16 ?_
  refine V_iast C dX8_ends_17 rfl (by omega) (by omega) (by decide) ?_
  refine V_aload_n C dX8_ends_18 rfl ?_
  refine vg_X8_7 C dX8_ends_19 rfl rfl ?_
  refine V_sipush C dX8_ends_22 (by decide) ?_
  refine V_iconst C dX8_ends_25 ?_
  refine V_iast C dX8_ends_26 rfl (by omega) (by omega) (by decide) ?_
  refine V_aload_n C dX8_ends_27 rfl ?_
  refine vg_X8_7 C dX8_ends_28 rfl rfl ?_
  refine V_sipush C dX8_ends_31 (by decide) ?_
  refine V_iconst C dX8_ends_34 ?_
  refine V_iast C dX8_ends_35 rfl (by omega) (by omega) (by decide) ?_
  refine V_aload_n C dX8_ends_36 rfl ?_
  refine vg_X8_7 C dX8_ends_37 rfl rfl ?_
  refine V_sipush C dX8_ends_40 (by decide) ?_
  refine V_iconst C dX8_ends_43 ?_
  refine V_iast C dX8_ends_44 rfl (by omega) (by omega) (by decide) ?_
  exact V_vret C R dX8_ends_45 ⟨rfl, rfl⟩

set_option maxRecDepth 100000 in
theorem m_X8_records (G : zG) {un td ku : Int} {g ah ag tp co wy th kp ka ln sn it mv : Int → Int} {rest : List va_E} (hg : ∀ j, rng (g j))  {x : Int} (hx : rng x) (h9 : 0 ≤ g 159 ∧ g 159 ≤ 31) : zMet G yX8_records cX8_records 2 none 1 21 [.ref (G.ad 0), .int (iI x)] (mdL G un td ku g ah ag tp co wy th kp ka ln sn it mv ++ rest) (zO0 (mdL G un td ku (rcG g x) ah ag tp co wy th kp ka ln sn it mv ++ rest)) := by
  refine zMet.of (by decide) (Nat.le_of_ble_eq_true rfl) ?_
  intro E C R
  have C : zC G E RX8 cX8_records 2 1 21 := C
  show V G E 0 [some (.ref (G.ad 0)), some (.int (iI x))] [] (mdL G un td ku g ah ag tp co wy th kp ka ln sn it mv ++ rest)
  refine V_aload_n C dX8_records_0 rfl ?_
  refine vg_X8_7 C dX8_records_1 rfl rfl ?_
  refine V_sipush C dX8_records_4 (by decide) ?_
  refine V_iald C dX8_records_7 rfl (by omega) (by omega) (by decide) (by repeat' (first | with_reducible assumption | refine zup_rng ?_ (by first | omega | exact hg _) | refine zcp_rng ?_ ?_)) (fun r_7 => ?_)
  refine V_bipush C dX8_records_8 (by decide) ?_
  refine V_icmp_ge (tgt := 31) C dX8_records_10 (by decide) (by omega) (by omega) (fun c_10 => ?_) (fun c_10 => ?_)
  · skip
    suffices H : V G E 31 [some (.ref (G.ad 0)), some (.int (iI x))] [] (mdL G un td ku (rcF g x) ah ag tp co wy th kp ka ln sn it mv ++ rest) by
      first
      | (rw [show rcF g x = zup g (160 + g 159) x from if_pos (by omega)] at H; exact H)
      | (rw [show rcF g x = g from if_neg (by omega)] at H; exact H)
    have e9 : rcF g x 159 = g 159 := rcF_9 h9.1
    have hg9 := rcF_rng (x := x) hg hx
    refine V_aload_n C dX8_records_31 rfl ?_
    refine vg_X8_7 C dX8_records_32 rfl rfl ?_
    refine V_sipush C dX8_records_35 (by decide) ?_
    refine V_aload_n C dX8_records_38 rfl ?_
    refine vg_X8_7 C dX8_records_39 rfl rfl ?_
    refine V_sipush C dX8_records_42 (by decide) ?_
    refine V_iald C dX8_records_45 rfl (by omega) (by omega) (by decide) (by repeat' (first | with_reducible assumption | refine zup_rng ?_ (by first | omega | exact hg _) | refine zcp_rng ?_ ?_)) (fun r_45 => ?_)
    refine V_iconst C dX8_records_46 ?_
    refine V_iadd C dX8_records_47 ?_
    refine V_bipush C dX8_records_48 (by decide) ?_
    refine V_callS C lk_X8_94 (m_X8_lesser G (by omega) (by omega)) dX8_records_50 rfl rfl (by decide) (Nat.le_of_ble_eq_true rfl) (kO ?_)
    refine V_iast C dX8_records_53 rfl (by omega) (by omega) (by decide) ?_
    exact V_vret C R dX8_records_54 ⟨rfl, by unfold rcG; rw [e9] <;> rfl⟩
  · skip
    refine V_aload_n C dX8_records_13 rfl ?_
    refine vg_X8_7 C dX8_records_14 rfl rfl ?_
    refine V_sipush C dX8_records_17 (by decide) ?_
    refine V_aload_n C dX8_records_20 rfl ?_
    refine vg_X8_7 C dX8_records_21 rfl rfl ?_
    refine V_sipush C dX8_records_24 (by decide) ?_
    refine V_iald C dX8_records_27 rfl (by omega) (by omega) (by decide) (by repeat' (first | with_reducible assumption | refine zup_rng ?_ (by first | omega | exact hg _) | refine zcp_rng ?_ ?_)) (fun r_27 => ?_)
    refine V_iadd C dX8_records_28 ?_
    refine V_iload_n C dX8_records_29 rfl ?_
    refine V_iast C dX8_records_30 rfl (by omega) (by omega) (by decide) ?_
    suffices H : V G E 31 [some (.ref (G.ad 0)), some (.int (iI x))] [] (mdL G un td ku (rcF g x) ah ag tp co wy th kp ka ln sn it mv ++ rest) by
      first
      | (rw [show rcF g x = zup g (160 + g 159) x from if_pos (by omega)] at H; exact H)
      | (rw [show rcF g x = g from if_neg (by omega)] at H; exact H)
    have e9 : rcF g x 159 = g 159 := rcF_9 h9.1
    have hg9 := rcF_rng (x := x) hg hx
    refine V_aload_n C dX8_records_31 rfl ?_
    refine vg_X8_7 C dX8_records_32 rfl rfl ?_
    refine V_sipush C dX8_records_35 (by decide) ?_
    refine V_aload_n C dX8_records_38 rfl ?_
    refine vg_X8_7 C dX8_records_39 rfl rfl ?_
    refine V_sipush C dX8_records_42 (by decide) ?_
    refine V_iald C dX8_records_45 rfl (by omega) (by omega) (by decide) (by repeat' (first | with_reducible assumption | refine zup_rng ?_ (by first | omega | exact hg _) | refine zcp_rng ?_ ?_)) (fun r_45 => ?_)
    refine V_iconst C dX8_records_46 ?_
    refine V_iadd C dX8_records_47 ?_
    refine V_bipush C dX8_records_48 (by decide) ?_
    refine V_callS C lk_X8_94 (m_X8_lesser G (by omega) (by omega)) dX8_records_50 rfl rfl (by decide) (Nat.le_of_ble_eq_true rfl) (kO ?_)
    refine V_iast C dX8_records_53 rfl (by omega) (by omega) (by decide) ?_
    exact V_vret C R dX8_records_54 ⟨rfl, by unfold rcG; rw [e9] <;> rfl⟩

set_option maxRecDepth 100000 in
theorem m_X8_keeps (G : zG) {un td ku : Int} {g ah ag tp co wy th kp ka ln sn it mv : Int → Int} {rest : List va_E} (hg : ∀ j, rng (g j))  (hL : 0 ≤ g 0 ∧ g 0 ≤ 60) {a b : Int} (ha : 0 ≤ a ∧ a ≤ b ∧ b ≤ g 0) : zMet G yX8_keeps cX8_keeps 4 none 0 0 [.ref (G.ad 0), .int (iI a), .int (iI b)] (mdL G un td ku g ah ag tp co wy th kp ka ln sn it mv ++ rest) (zO0 (mdL G un td ku (kpG g a b) ah ag tp co wy th kp ka ln sn it mv ++ rest)) := by
  refine zMet.of (by decide) (Nat.le_of_ble_eq_true rfl) ?_
  intro E C R
  have C : zC G E RX8 cX8_keeps 4 0 0 := C
  show V G E 0 [some (.ref (G.ad 0)), some (.int (iI a)), some (.int (iI b)), none] [] (mdL G un td ku g ah ag tp co wy th kp ka ln sn it mv ++ rest)
  refine V_aload_n C dX8_keeps_0 rfl ?_
  refine vg_X8_7 C dX8_keeps_1 rfl rfl ?_
  refine V_bipush C dX8_keeps_4 (by decide) ?_
  refine V_iload_n C dX8_keeps_6 rfl ?_
  refine V_iload_n C dX8_keeps_7 rfl ?_
  refine V_isub C dX8_keeps_8 ?_
  refine V_iast C dX8_keeps_9 rfl (by omega) (by omega) (by decide) ?_
  refine V_iload_n C dX8_keeps_10 rfl ?_
  refine V_istore_n C dX8_keeps_11 (by decide) rfl ?_
  suffices H_12 : V G E 12 [some (.ref (G.ad 0)), some (.int (iI a)), some (.int (iI b)), some (.int (iI (a)))] [] (mdL G un td ku (zcp (g) (zup g 63 (b - a)) (1 + a) (64) ((a) - (a))) ah ag tp co wy th kp ka ln sn it mv ++ rest) by
    rw [show zcp (g) (zup g 63 (b - a)) (1 + a) (64) (a - (a)) = zup g 63 (b - a) from by rw [Int.sub_self]; exact zcp_0] at H_12
    exact H_12
  refine V_loop (α := Int) (fun x => (100000 - x).toNat) (fun x => a ≤ x ∧ x ≤ b) (fun x => V G E 12 [some (.ref (G.ad 0)), some (.int (iI a)), some (.int (iI b)), some (.int (iI x))] [] (mdL G un td ku (zcp (g) (zup g 63 (b - a)) (1 + a) (64) (x - (a))) ah ag tp co wy th kp ka ln sn it mv ++ rest)) ?_ (a) ⟨by omega, by omega⟩
  rintro q ⟨g1, g2⟩ ih_12
  refine V_iload_n C dX8_keeps_12 rfl ?_
  refine V_iload_n C dX8_keeps_13 rfl ?_
  refine V_icmp_ge (tgt := 42) C dX8_keeps_14 (by decide) (by omega) (by omega) (fun c_14 => ?_) (fun c_14 => ?_)
  · skip
    exact V_vret C R dX8_keeps_42 ⟨rfl, by unfold kpG; rw [show q = b by omega] <;> rfl⟩
  · skip
    refine V_aload_n C dX8_keeps_17 rfl ?_
    refine vg_X8_7 C dX8_keeps_18 rfl rfl ?_
    refine V_bipush C dX8_keeps_21 (by decide) ?_
    refine V_iload_n C dX8_keeps_23 rfl ?_
    refine V_iadd C dX8_keeps_24 ?_
    refine V_iload_n C dX8_keeps_25 rfl ?_
    refine V_isub C dX8_keeps_26 ?_
    refine V_aload_n C dX8_keeps_27 rfl ?_
    refine vg_X8_7 C dX8_keeps_28 rfl rfl ?_
    refine V_iconst C dX8_keeps_31 ?_
    refine V_iload_n C dX8_keeps_32 rfl ?_
    refine V_iadd C dX8_keeps_33 ?_
    refine V_iald C dX8_keeps_34 rfl (by omega) (by omega) (by decide) (by repeat' (first | with_reducible assumption | refine zup_rng ?_ (by first | omega | exact hg _) | refine zcp_rng ?_ ?_)) (fun r_34 => ?_)
    refine V_iast C dX8_keeps_35 rfl (by omega) (by omega) (by decide) ?_
    refine V_iinc C dX8_keeps_36 rfl (by decide) rfl ?_
    refine V_goto (tgt := 12) C dX8_keeps_39 (by decide) ?_
    have e_12 : zup (zcp (g) (zup g 63 (b - a)) (1 + a) (64) (q - (a))) (64 + q - a) (zcp g (zup g 63 (b - a)) (1 + a) 64 (q - a) (1 + q)) = zcp (g) (zup g 63 (b - a)) (1 + a) (64) (q + 1 - (a)) := zcp_st (by rw [zcp_out (by omega), zup_n (by omega), show 1 + a + (q - a) = 1 + q by omega]) (by omega) (by omega) (by omega)
    have H : V G E 12 [some (.ref (G.ad 0)), some (.int (iI a)), some (.int (iI b)), some (.int (iI (q + 1)))] [] (mdL G un td ku (zcp (g) (zup g 63 (b - a)) (1 + a) (64) ((q + 1) - (a))) ah ag tp co wy th kp ka ln sn it mv ++ rest) := ih_12 (q + 1) ⟨by omega, by omega⟩ (by omega)
    rw [← e_12] at H
    exact H

set_option maxRecDepth 100000 in
theorem m_X8_cuts (G : zG) {un td ku : Int} {g ah ag tp co wy th kp ka ln sn it mv : Int → Int} {rest : List va_E} (hg : ∀ j, rng (g j))  (hL : 0 ≤ g 0 ∧ g 0 ≤ 60) {a b : Int} (ha : 0 ≤ a ∧ a < b ∧ b ≤ g 0) : zMet G yX8_cuts cX8_cuts 4 none 0 0 [.ref (G.ad 0), .int (iI a), .int (iI b)] (mdL G un td ku g ah ag tp co wy th kp ka ln sn it mv ++ rest) (zO0 (mdL G un td ku (ctG g a b) ah ag tp co wy th kp ka ln sn it mv ++ rest)) := by
  refine zMet.of (by decide) (Nat.le_of_ble_eq_true rfl) ?_
  intro E C R
  have C : zC G E RX8 cX8_cuts 4 0 0 := C
  show V G E 0 [some (.ref (G.ad 0)), some (.int (iI a)), some (.int (iI b)), none] [] (mdL G un td ku g ah ag tp co wy th kp ka ln sn it mv ++ rest)
  refine V_iload_n C dX8_cuts_0 rfl ?_
  refine V_istore_n C dX8_cuts_1 (by decide) rfl ?_
  suffices H_2 : V G E 2 [some (.ref (G.ad 0)), some (.int (iI a)), some (.int (iI b)), some (.int (iI (b)))] [] (mdL G un td ku (zcp (g) (g) (1 + b) (1 + a) ((b) - (b))) ah ag tp co wy th kp ka ln sn it mv ++ rest) by
    rw [show zcp (g) (g) (1 + b) (1 + a) (b - (b)) = g from by rw [Int.sub_self]; exact zcp_0] at H_2
    exact H_2
  refine V_loop (α := Int) (fun x => (100000 - x).toNat) (fun x => b ≤ x ∧ x ≤ g 0) (fun x => V G E 2 [some (.ref (G.ad 0)), some (.int (iI a)), some (.int (iI b)), some (.int (iI x))] [] (mdL G un td ku (zcp (g) (g) (1 + b) (1 + a) (x - (b))) ah ag tp co wy th kp ka ln sn it mv ++ rest)) ?_ (b) ⟨by omega, by omega⟩
  rintro q ⟨g1, g2⟩ ih_2
  have e0 : zcp g g (1 + b) (1 + a) (q - b) 0 = g 0 := zcp_out (by omega)
  refine V_iload_n C dX8_cuts_2 rfl ?_
  refine V_aload_n C dX8_cuts_3 rfl ?_
  refine vg_X8_7 C dX8_cuts_4 rfl rfl ?_
  refine V_iconst C dX8_cuts_7 ?_
  refine V_iald C dX8_cuts_8 rfl (by omega) (by omega) (by decide) (by repeat' (first | with_reducible assumption | refine zup_rng ?_ (by first | omega | exact hg _) | refine zcp_rng ?_ ?_)) (fun r_8 => ?_)
  refine V_icmp_ge (tgt := 38) C dX8_cuts_9 (by decide) (by omega) (by omega) (fun c_9 => ?_) (fun c_9 => ?_)
  · skip
    refine V_aload_n C dX8_cuts_38 rfl ?_
    refine vg_X8_7 C dX8_cuts_39 rfl rfl ?_
    refine V_iconst C dX8_cuts_42 ?_
    refine V_dup2 C dX8_cuts_43 rfl rfl ?_
    refine V_iald C dX8_cuts_44 rfl (by omega) (by omega) (by decide) (by repeat' (first | with_reducible assumption | refine zup_rng ?_ (by first | omega | exact hg _) | refine zcp_rng ?_ ?_)) (fun r_44 => ?_)
    refine V_iload_n C dX8_cuts_45 rfl ?_
    refine V_iload_n C dX8_cuts_46 rfl ?_
    refine V_isub C dX8_cuts_47 ?_
    refine V_isub C dX8_cuts_48 ?_
    refine V_iast C dX8_cuts_49 rfl (by omega) (by omega) (by decide) ?_
    exact V_vret C R dX8_cuts_50 ⟨rfl, by unfold ctG; rw [e0, show q = g 0 by omega] <;> rfl⟩
  · skip
    refine V_aload_n C dX8_cuts_12 rfl ?_
    refine vg_X8_7 C dX8_cuts_13 rfl rfl ?_
    refine V_iconst C dX8_cuts_16 ?_
    refine V_iload_n C dX8_cuts_17 rfl ?_
    refine V_iadd C dX8_cuts_18 ?_
    refine V_iload_n C dX8_cuts_19 rfl ?_
    refine V_iadd C dX8_cuts_20 ?_
    refine V_iload_n C dX8_cuts_21 rfl ?_
    refine V_isub C dX8_cuts_22 ?_
    refine V_aload_n C dX8_cuts_23 rfl ?_
    refine vg_X8_7 C dX8_cuts_24 rfl rfl ?_
    refine V_iconst C dX8_cuts_27 ?_
    refine V_iload_n C dX8_cuts_28 rfl ?_
    refine V_iadd C dX8_cuts_29 ?_
    refine V_iald C dX8_cuts_30 rfl (by omega) (by omega) (by decide) (by repeat' (first | with_reducible assumption | refine zup_rng ?_ (by first | omega | exact hg _) | refine zcp_rng ?_ ?_)) (fun r_30 => ?_)
    refine V_iast C dX8_cuts_31 rfl (by omega) (by omega) (by decide) ?_
    refine V_iinc C dX8_cuts_32 rfl (by decide) rfl ?_
    refine V_goto (tgt := 2) C dX8_cuts_35 (by decide) ?_
    have e_2 : zup (zcp (g) (g) (1 + b) (1 + a) (q - (b))) (1 + a + q - b) (zcp g g (1 + b) (1 + a) (q - b) (1 + q)) = zcp (g) (g) (1 + b) (1 + a) (q + 1 - (b)) := zcp_st (by rw [zcp_out (by omega), show 1 + b + (q - b) = 1 + q by omega]) (by omega) (by omega) (by omega)
    have H : V G E 2 [some (.ref (G.ad 0)), some (.int (iI a)), some (.int (iI b)), some (.int (iI (q + 1)))] [] (mdL G un td ku (zcp (g) (g) (1 + b) (1 + a) ((q + 1) - (b))) ah ag tp co wy th kp ka ln sn it mv ++ rest) := ih_2 (q + 1) ⟨by omega, by omega⟩ (by omega)
    rw [← e_2] at H
    exact H
