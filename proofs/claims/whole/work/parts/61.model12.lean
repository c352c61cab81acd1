/-! ===== the costs ===== -/
def zS (c : Int → Int) : Nat → Nat
  | 0 => 0
  | n + 1 => zS c n + (c n).toNat
theorem zS_o {c : Int → Int} {p v : Int} : ∀ n : Nat, (n : Int) ≤ p → zS (zup c p v) n = zS c n
  | 0, _ => rfl
  | n + 1, h => by rw [zS, zS, zS_o n (by omega), zup_n (by omega)]
theorem zS_d {c : Int → Int} {p v : Int} (h0 : 0 ≤ p) (hv : 0 ≤ v) (hv2 : v < c p) : ∀ n : Nat, p < n → zS (zup c p v) n < zS c n
  | 0, h => by omega
  | n + 1, h => by
    rw [zS, zS]
    by_cases e : p = n
    · rw [zS_o n (by omega), ← e, zup_s]; omega
    · have := zS_d h0 hv hv2 n (by omega)
      rw [zup_n (show (n : Int) ≠ p by omega)]; omega
def isI (g : Int → Int) (t : Int) (c : Int → Int) : Prop := (∀ j, rng (c j)) ∧ (∀ j, 0 ≤ j → j < 60 → 0 ≤ c j ∧ c j ≤ 99999) ∧ c t = 0 ∧ (∀ p, 0 ≤ p → p ≤ la (g 0) → p ≠ t → c p = 99999 ∨ ∃ m, 0 ≤ m ∧ m ≤ 6 ∧ g (256 + m) + c (lnd g m p) ≤ c p)
def isF (g c : Int → Int) (P M : Int) : Prop := ∀ p m, 0 ≤ p → 0 ≤ m → m ≤ 6 → (p < P ∨ (p = P ∧ m < M)) → c p ≤ g (256 + m) + c (lnd g m p)
def isD (g : Int → Int) (t : Int) (c : Int → Int) : Prop := isI g t c ∧ isF g c (la (g 0) + 1) 0
theorem la_59 {L : Int} (hL : 0 ≤ L ∧ L ≤ 60) : 0 ≤ la L ∧ la L ≤ 59 ∧ la L ≤ L := by unfold la; split <;> omega
theorem rlx {g c : Int → Int} {t p m : Int} (hI : isI g t c) (hL : 0 ≤ g 0 ∧ g 0 ≤ 60) (hpr : ∀ m, 0 ≤ m → m ≤ 6 → 1 ≤ g (256 + m) ∧ g (256 + m) ≤ 9) (ht : 0 ≤ t ∧ t ≤ la (g 0)) (hp : 0 ≤ p ∧ p ≤ la (g 0)) (hm : 0 ≤ m ∧ m ≤ 6) :
    isI g t (zup c p (min (c p) (g (256 + m) + c (lnd g m p)))) := by
  have hla := la_59 hL
  have hq := lnd_in (g := g) (m := m) (p := p) hL (by omega)
  have hpm := hpr m hm.1 hm.2
  obtain ⟨i1, i2, i3, i4⟩ := id hI
  have hcp := i2 p (by omega) (by omega)
  have hcq := i2 (lnd g m p) (by omega) (by omega)
  by_cases h : g (256 + m) + c (lnd g m p) < c p
  · rw [show min (c p) (g (256 + m) + c (lnd g m p)) = g (256 + m) + c (lnd g m p) by omega]
    have hne : lnd g m p ≠ p := fun e => by rw [e] at h; omega
    refine ⟨zup_rng i1 (by omega), fun j h1 h2 => ?_, ?_, fun q h1 h2 h3 => ?_⟩
    · by_cases e : j = p
      · rw [e, zup_s]; omega
      · rw [zup_n e]; exact i2 j h1 h2
    · by_cases e : t = p
      · exfalso; have hz : c p = 0 := by rw [← e]; exact i3
        omega
      · rw [zup_n e]; exact i3
    · by_cases e : q = p
      · exact Or.inr ⟨m, hm.1, hm.2, by rw [e, zup_s, zup_n hne]; omega⟩
      · rw [zup_n e]
        rcases i4 q h1 h2 h3 with z | ⟨m', z1, z2, z3⟩
        · exact Or.inl z
        · refine Or.inr ⟨m', z1, z2, ?_⟩
          by_cases e2 : lnd g m' q = p
          · rw [e2, zup_s]; rw [e2] at z3; omega
          · rw [zup_n e2]; exact z3
  · rw [show min (c p) (g (256 + m) + c (lnd g m p)) = c p by omega, zup_self rfl]; exact hI
def c0M (co : Int → Int) (t n : Int) : Int → Int := fun j => if 0 ≤ j ∧ j < n then (if j = t then 0 else 99999) else co j
theorem c0M_0 {co : Int → Int} {t : Int} : c0M co t 0 = co := by funext j; unfold c0M; rw [if_neg (by omega)]
theorem c0M_s {co : Int → Int} {t q : Int} (h : 0 ≤ q) : zup (c0M co t q) q (if q = t then 0 else 99999) = c0M co t (q + 1) := by
  funext j
  unfold zup c0M
  by_cases e : j = q
  · rw [if_pos e, if_pos (show 0 ≤ j ∧ j < q + 1 by omega), e]
  · rw [if_neg e]
    by_cases e2 : 0 ≤ j ∧ j < q
    · rw [if_pos e2, if_pos (show 0 ≤ j ∧ j < q + 1 by omega)]
    · rw [if_neg e2, if_neg (show ¬ (0 ≤ j ∧ j < q + 1) by omega)]
theorem c0M_I {g co : Int → Int} {t : Int} (hL : 0 ≤ g 0 ∧ g 0 ≤ 60) (ht : 0 ≤ t ∧ t ≤ la (g 0)) (hco : ∀ j, rng (co j)) : isI g t (c0M co t 60) := by
  have hla := la_59 hL
  refine ⟨fun j => ?_, fun j h1 h2 => ?_, ?_, fun p h1 h2 h3 => Or.inl ?_⟩
  · unfold c0M; split
    · split <;> omega
    · exact hco j
  · unfold c0M; rw [if_pos ⟨h1, h2⟩]; split <;> omega
  · unfold c0M; rw [if_pos (by omega), if_pos rfl]
  · unfold c0M; rw [if_pos (by omega), if_neg h3]

theorem b2z_or (P : Prop) [Decidable P] : b2z P = 0 ∨ b2z P = 1 := by
  unfold b2z; split
  · exact Or.inr rfl
  · exact Or.inl rfl

set_option maxRecDepth 100000 in
theorem m_X8_costsTo (G : zG) {un td ku : Int} {g ah ag tp co wy th kp ka ln sn it mv : Int → Int} {rest : List va_E} (hg : ∀ j, rng (g j))  (hL : 0 ≤ g 0 ∧ g 0 ≤ 60) (hpr : ∀ m, 0 ≤ m → m ≤ 6 → 1 ≤ g (256 + m) ∧ g (256 + m) ≤ 9) (hco : ∀ j, rng (co j)) {t : Int} (ht : 0 ≤ t ∧ t ≤ la (g 0)) : zMet G yX8_costsTo cX8_costsTo 6 none 6 134 [.ref (G.ad 0), .int (iI t)] (mdL G un td ku g ah ag tp co wy th kp ka ln sn it mv ++ rest) (fun r cs2 => r = none ∧ ∃ c, isD g t c ∧ cs2 = (mdL G un td ku g ah ag tp (c) wy th kp ka ln sn it mv ++ rest)) := by
  refine zMet.of (by decide) (Nat.le_of_ble_eq_true rfl) ?_
  intro E C R
  have C : zC G E RX8 cX8_costsTo 6 6 134 := C
  show V G E 0 [some (.ref (G.ad 0)), some (.int (iI t)), none, none, none, none] [] (mdL G un td ku g ah ag tp co wy th kp ka ln sn it mv ++ rest)
  have hla := la_59 hL
  refine V_iconst C dX8_costsTo_0 ?_
  refine V_istore_n C dX8_costsTo_1 (by decide) rfl ?_
  suffices H_2 : V G E 2 [some (.ref (G.ad 0)), some (.int (iI t)), some (.int (iI 0)), none, none, none] [] (mdL G un td ku g ah ag tp (c0M co t 0) wy th kp ka ln sn it mv ++ rest) by
    rw [c0M_0] at H_2
    exact H_2
  refine V_loop (α := Int) (fun x => (200 - x).toNat) (fun x => 0 ≤ x ∧ x ≤ 60) (fun x => V G E 2 [some (.ref (G.ad 0)), some (.int (iI t)), some (.int (iI x)), none, none, none] [] (mdL G un td ku g ah ag tp (c0M co t x) wy th kp ka ln sn it mv ++ rest)) ?_ 0 ⟨by omega, by omega⟩
  rintro q ⟨g1, g2⟩ ih_2
  refine V_iload_n C dX8_costsTo_2 rfl ?_
  refine V_bipush C dX8_costsTo_3 (by decide) ?_
  refine V_icmp_ge (tgt := 31) C dX8_costsTo_5 (by decide) (by omega) (by omega) (fun c_5 => ?_) (fun c_5 => ?_)
  · skip
    have hq : q = 60 := by omega
    subst hq
    clear ih_2
    have hI0 := c0M_I hL ht hco
    generalize c0M co t 60 = d0 at hI0 ⊢
    refine V_iconst C dX8_costsTo_31 ?_
    refine V_istore_n C dX8_costsTo_32 (by decide) rfl ?_
    refine V_loop (α := Int × (Int → Int)) (fun x => 2 * zS x.2 60 + x.1.toNat) (fun x => (x.1 = 0 ∨ x.1 = 1) ∧ isI g t x.2 ∧ (x.1 = 0 → isF g x.2 (la (g 0) + 1) 0)) (fun x => V G E 33 [some (.ref (G.ad 0)), some (.int (iI t)), some (.int (iI x.1)), none, none, none] [] (mdL G un td ku g ah ag tp (x.2) wy th kp ka ln sn it mv ++ rest)) ?_ (1, d0) ⟨Or.inr rfl, hI0, fun h => absurd h (by dsimp only; omega)⟩
    rintro ⟨b0, c0⟩ ⟨g1, g2, g3⟩ ih_33
    dsimp only at *
    refine V_iload_n C dX8_costsTo_33 rfl ?_
    refine V_if_eq (tgt := 138) C dX8_costsTo_34 (by decide) (by omega) (fun c_34 => ?_) (fun c_34 => ?_)
    · skip
      exact V_vret C R dX8_costsTo_138 ⟨rfl, c0, ⟨g2, g3 (by omega)⟩, rfl⟩
    · skip
      refine V_iconst C dX8_costsTo_37 ?_
      refine V_istore_n C dX8_costsTo_38 (by decide) rfl ?_
      refine V_iconst C dX8_costsTo_39 ?_
      refine V_istore_n C dX8_costsTo_40 (by decide) rfl ?_
      refine V_loop (α := Int × Int × (Int → Int)) (fun x => (200 - x.1).toNat) (fun x => 0 ≤ x.1 ∧ x.1 ≤ la (g 0) + 1 ∧ (x.2.1 = 0 ∨ x.2.1 = 1) ∧ isI g t x.2.2 ∧ (x.2.1 = 1 → zS x.2.2 60 < zS c0 60) ∧ (x.2.1 = 0 → x.2.2 = c0 ∧ isF g x.2.2 x.1 0)) (fun x => V G E 41 [some (.ref (G.ad 0)), some (.int (iI t)), some (.int (iI x.2.1)), some (.int (iI x.1)), none, none] [] (mdL G un td ku g ah ag tp (x.2.2) wy th kp ka ln sn it mv ++ rest)) ?_ (0, 0, c0) ⟨by dsimp only; omega, by dsimp only; omega, Or.inl rfl, g2, fun h => absurd h (by dsimp only; omega), fun _ => ⟨rfl, fun p m h1 h2 h3 h4 => by dsimp only at h4; omega⟩⟩
      rintro ⟨p, b, c⟩ ⟨p1, p2, p3, p4, p5, p6⟩ ih_41
      dsimp only at *
      refine V_iload_n C dX8_costsTo_41 rfl ?_
      refine V_aload_n C dX8_costsTo_42 rfl ?_
      refine V_callV C lk_X8_77 (m_X8_last G hg hL) dX8_costsTo_43 rfl rfl rfl rfl (by decide) (Nat.le_of_ble_eq_true rfl) (kO ?_)
      refine V_icmp_gt (tgt := 135) C dX8_costsTo_46 (by decide) (by omega) (by omega) (fun c_46 => ?_) (fun c_46 => ?_)
      · skip
        refine V_goto (tgt := 33) C dX8_costsTo_135 (by decide) ?_
        refine V_drop 3 ?_
        exact ih_33 (b, c) ⟨p3, p4, fun h => by rw [show la (g 0) + 1 = p by omega]; exact (p6 h).2⟩ (by
          dsimp only
          rcases p3 with h | h
          · rw [(p6 h).1, h]; omega
          · have := p5 h; omega)
      · skip
        refine V_iconst C dX8_costsTo_49 ?_
        refine V_istore C dX8_costsTo_50 (by decide) rfl ?_
        refine V_loop (α := Int × Int × (Int → Int)) (fun x => (200 - x.1).toNat) (fun x => 0 ≤ x.1 ∧ x.1 ≤ 7 ∧ (x.2.1 = 0 ∨ x.2.1 = 1) ∧ isI g t x.2.2 ∧ (x.2.1 = 1 → zS x.2.2 60 < zS c0 60) ∧ (x.2.1 = 0 → x.2.2 = c0 ∧ isF g x.2.2 p x.1)) (fun x => V G E 52 [some (.ref (G.ad 0)), some (.int (iI t)), some (.int (iI x.2.1)), some (.int (iI p)), some (.int (iI x.1)), none] [] (mdL G un td ku g ah ag tp (x.2.2) wy th kp ka ln sn it mv ++ rest)) ?_ (0, b, c) ⟨by dsimp only; omega, by dsimp only; omega, p3, p4, p5, p6⟩
        rintro ⟨m, b, c⟩ ⟨q1, q2, q3, q4, q5, q6⟩ ih_52
        dsimp only at *
        have hq5 := q4.1
        have hqb := q4.2.1
        refine V_iload C dX8_costsTo_52 rfl ?_
        refine V_bipush C dX8_costsTo_54 (by decide) ?_
        refine V_icmp_ge (tgt := 129) C dX8_costsTo_56 (by decide) (by omega) (by omega) (fun c_56 => ?_) (fun c_56 => ?_)
        · skip
          refine V_iinc C dX8_costsTo_129 rfl (by decide) rfl ?_
          refine V_goto (tgt := 41) C dX8_costsTo_132 (by decide) ?_
          refine V_drop 4 ?_
          exact ih_41 (p + 1, b, c) ⟨by dsimp only; omega, by dsimp only; omega, q3, q4, q5, fun h => ⟨(q6 h).1, fun p' m' h1 h2 h3 h4 => (q6 h).2 p' m' h1 h2 h3 (by dsimp only at h4; omega)⟩⟩ (by dsimp only; omega)
        · skip
          have hlm := lnd_in (g := g) (m := m) (p := p) hL (by omega)
          have hcb1 := hqb (lnd g m p) (by omega) (by omega)
          have hcb2 := hqb p (by omega) (by omega)
          have hpm := hpr m (by omega) (by omega)
          refine V_aload_n C dX8_costsTo_59 rfl ?_
          refine vg_X8_7 C dX8_costsTo_60 rfl rfl ?_
          refine V_sipush C dX8_costsTo_63 (by decide) ?_
          refine V_iload C dX8_costsTo_66 rfl ?_
          refine V_iadd C dX8_costsTo_68 ?_
          refine V_iald C dX8_costsTo_69 rfl (by omega) (by omega) (by decide) (by repeat' (first | with_reducible assumption | refine zup_rng ?_ (by first | omega | exact hg _) | refine zcp_rng ?_ ?_ | refine ovr_rng ?_ (by omega) | refine zcp_rngL ?_ ?_ | refine zup_rngL ?_ (by omega))) (fun r_69 => ?_)
          refine V_aload_n C dX8_costsTo_70 rfl ?_
          refine vg_X8_22 C dX8_costsTo_71 rfl rfl ?_
          refine V_aload_n C dX8_costsTo_74 rfl ?_
          refine V_iload C dX8_costsTo_75 rfl ?_
          refine V_iload_n C dX8_costsTo_77 rfl ?_
          refine V_callV C lk_X8_223 (m_X8_lands G hg hL (by omega) (by omega)) dX8_costsTo_78 rfl rfl rfl rfl (by decide) (Nat.le_of_ble_eq_true rfl) (kO ?_)
          refine V_iald C dX8_costsTo_81 rfl (by omega) (by omega) (by decide) (by repeat' (first | with_reducible assumption | refine zup_rng ?_ (by first | omega | exact hg _) | refine zcp_rng ?_ ?_ | refine ovr_rng ?_ (by omega) | refine zcp_rngL ?_ ?_ | refine zup_rngL ?_ (by omega))) (fun r_81 => ?_)
          refine V_iadd C dX8_costsTo_82 ?_
          refine V_istore C dX8_costsTo_83 (by decide) rfl ?_
          refine V_midb (pc2 := 105) (b ≠ 0 ∨ g (256 + m) + c (lnd g m p) < c p) ?_ (fun kt_85 kf_85 => ?_)
          · skip
            refine V_istore_n C dX8_costsTo_105 (by decide) rfl ?_
            refine V_aload_n C dX8_costsTo_106 rfl ?_
            refine vg_X8_22 C dX8_costsTo_107 rfl rfl ?_
            refine V_iload_n C dX8_costsTo_110 rfl ?_
            refine V_aload_n C dX8_costsTo_111 rfl ?_
            refine vg_X8_22 C dX8_costsTo_112 rfl rfl ?_
            refine V_iload_n C dX8_costsTo_115 rfl ?_
            refine V_iald C dX8_costsTo_116 rfl (by omega) (by omega) (by decide) (by repeat' (first | with_reducible assumption | refine zup_rng ?_ (by first | omega | exact hg _) | refine zcp_rng ?_ ?_ | refine ovr_rng ?_ (by omega) | refine zcp_rngL ?_ ?_ | refine zup_rngL ?_ (by omega))) (fun r_116 => ?_)
            refine V_iload C dX8_costsTo_117 rfl ?_
            refine V_callS C lk_X8_94 (m_X8_lesser G (by omega) (by omega)) dX8_costsTo_119 rfl rfl (by decide) (Nat.le_of_ble_eq_true rfl) (kO ?_)
            refine V_iast C dX8_costsTo_122 rfl (by omega) (by omega) (by decide) ?_
            refine V_iinc C dX8_costsTo_123 rfl (by decide) rfl ?_
            refine V_goto (tgt := 52) C dX8_costsTo_126 (by decide) ?_
            refine V_drop 5 ?_
            have hdec : g (256 + m) + c (lnd g m p) < c p → zS (zup c p (min (c p) (g (256 + m) + c (lnd g m p)))) 60 < zS c 60 := fun h => zS_d (by omega) (by omega) (by omega) 60 (by omega)
            have hsame : ¬ (g (256 + m) + c (lnd g m p) < c p) → zup c p (min (c p) (g (256 + m) + c (lnd g m p))) = c := fun h => by rw [show min (c p) (g (256 + m) + c (lnd g m p)) = c p by omega, zup_self rfl]
            refine ih_52 (m + 1, b2z (b ≠ 0 ∨ g (256 + m) + c (lnd g m p) < c p), zup c p (min (c p) (g (256 + m) + c (lnd g m p)))) ⟨by dsimp only; omega, by dsimp only; omega, b2z_or _, rlx q4 hL hpr ht (by omega) (by omega), fun h => ?_, fun h => ?_⟩ (by dsimp only; omega)
            · dsimp only at h ⊢
              by_cases z : g (256 + m) + c (lnd g m p) < c p
              · have z1 := hdec z
                rcases q3 with e | e
                · rw [(q6 e).1] at z1 ⊢; exact z1
                · have := q5 e; omega
              · rw [hsame z]
                rcases q3 with e | e
                · exfalso; rw [b2z_f (by omega)] at h; omega
                · exact q5 e
            · dsimp only at h ⊢
              by_cases z : b ≠ 0 ∨ g (256 + m) + c (lnd g m p) < c p
              · exfalso; rw [b2z_t z] at h; omega
              · rw [hsame (by omega)]
                have e : b = 0 := by omega
                exact ⟨(q6 e).1, fun p' m' h1 h2 h3 h4 => by
                  rcases (show (p' < p ∨ (p' = p ∧ m' < m)) ∨ (p' = p ∧ m' = m) by omega) with k | ⟨k1, k2⟩
                  · exact (q6 e).2 p' m' h1 h2 h3 k
                  · rw [k1, k2]; omega⟩
          · skip
            refine V_iload_n C dX8_costsTo_85 rfl ?_
            refine V_if_ne (tgt := 100) C dX8_costsTo_86 (by decide) (by omega) (fun c_86 => ?_) (fun c_86 => ?_)
            · skip
              refine V_iconst C dX8_costsTo_100 ?_
              refine V_goto (tgt := 105) C dX8_costsTo_101 (by decide) ?_
              exact kt_85 (by omega)
            · skip
              refine V_iload C dX8_costsTo_89 rfl ?_
              refine V_aload_n C dX8_costsTo_91 rfl ?_
              refine vg_X8_22 C dX8_costsTo_92 rfl rfl ?_
              refine V_iload_n C dX8_costsTo_95 rfl ?_
              refine V_iald C dX8_costsTo_96 rfl (by omega) (by omega) (by decide) (by repeat' (first | with_reducible assumption | refine zup_rng ?_ (by first | omega | exact hg _) | refine zcp_rng ?_ ?_ | refine ovr_rng ?_ (by omega) | refine zcp_rngL ?_ ?_ | refine zup_rngL ?_ (by omega))) (fun r_96 => ?_)
              refine V_icmp_ge (tgt := 104) C dX8_costsTo_97 (by decide) (by omega) (by omega) (fun c_97 => ?_) (fun c_97 => ?_)
              · skip
                refine V_iconst C dX8_costsTo_104 ?_
                exact kf_85 (by omega)
              · skip
                refine V_iconst C dX8_costsTo_100 ?_
                refine V_goto (tgt := 105) C dX8_costsTo_101 (by decide) ?_
                exact kt_85 (by omega)
  · skip
    refine V_aload_n C dX8_costsTo_8 rfl ?_
    refine vg_X8_22 C dX8_costsTo_9 rfl rfl ?_
    refine V_iload_n C dX8_costsTo_12 rfl ?_
    refine V_midz (pc2 := 24) (if q = t then 0 else 99999) ?_ (fun kk_13 => ?_)
    · skip
      refine V_iast C dX8_costsTo_24 rfl (by omega) (by omega) (by decide) ?_
      refine V_iinc C dX8_costsTo_25 rfl (by decide) rfl ?_
      refine V_goto (tgt := 2) C dX8_costsTo_28 (by decide) ?_
      have H : V G E 2 [some (.ref (G.ad 0)), some (.int (iI t)), some (.int (iI (q + 1))), none, none, none] [] (mdL G un td ku g ah ag tp (c0M co t (q + 1)) wy th kp ka ln sn it mv ++ rest) := ih_2 (q + 1) ⟨by omega, by omega⟩ (by omega)
      rw [← c0M_s (by omega)] at H
      exact H
    · skip
      refine V_iload_n C dX8_costsTo_13 rfl ?_
      refine V_iload_n C dX8_costsTo_14 rfl ?_
      refine V_icmp_ne (tgt := 22) C dX8_costsTo_15 (by decide) (by omega) (by omega) (fun c_15 => ?_) (fun c_15 => ?_)
      · skip
        refine V_ldc C wk_X8_222 dX8_costsTo_22 ?_
        exact kk_13 _ (by first | rw [if_pos (by assumption)] | rw [if_neg (by assumption)])
      · skip
        refine V_iconst C dX8_costsTo_18 ?_
        refine V_goto (tgt := 24) C dX8_costsTo_19 (by decide) ?_
        exact kk_13 _ (by first | rw [if_pos (by assumption)] | rw [if_neg (by assumption)])
