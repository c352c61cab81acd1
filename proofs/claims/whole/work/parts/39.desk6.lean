/-! ===== Desk: what stays true; press ===== -/
abbrev okT (d : zDk) : Prop := okD (d.1) (d.2.1) (d.2.2.1) (d.2.2.2.1) (d.2.2.2.2.1) (d.2.2.2.2.2.1) (d.2.2.2.2.2.2.1) (d.2.2.2.2.2.2.2.1) (d.2.2.2.2.2.2.2.2.1) (d.2.2.2.2.2.2.2.2.2.1) (d.2.2.2.2.2.2.2.2.2.2.1) (d.2.2.2.2.2.2.2.2.2.2.2.1) (d.2.2.2.2.2.2.2.2.2.2.2.2.1) (d.2.2.2.2.2.2.2.2.2.2.2.2.2.1) (d.2.2.2.2.2.2.2.2.2.2.2.2.2.2.1) (d.2.2.2.2.2.2.2.2.2.2.2.2.2.2.2.1) (d.2.2.2.2.2.2.2.2.2.2.2.2.2.2.2.2.1) (d.2.2.2.2.2.2.2.2.2.2.2.2.2.2.2.2.2.1) (d.2.2.2.2.2.2.2.2.2.2.2.2.2.2.2.2.2.2.1) (d.2.2.2.2.2.2.2.2.2.2.2.2.2.2.2.2.2.2.2.1) (d.2.2.2.2.2.2.2.2.2.2.2.2.2.2.2.2.2.2.2.2.1) (d.2.2.2.2.2.2.2.2.2.2.2.2.2.2.2.2.2.2.2.2.2.1) (d.2.2.2.2.2.2.2.2.2.2.2.2.2.2.2.2.2.2.2.2.2.2.1) (d.2.2.2.2.2.2.2.2.2.2.2.2.2.2.2.2.2.2.2.2.2.2.2)
def stkT (d : zDk) (x rep : Int) : Int × zDk := stk (d.1) (d.2.1) (d.2.2.1) (d.2.2.2.1) (d.2.2.2.2.1) (d.2.2.2.2.2.1) (d.2.2.2.2.2.2.1) (d.2.2.2.2.2.2.2.1) (d.2.2.2.2.2.2.2.2.1) (d.2.2.2.2.2.2.2.2.2.1) (d.2.2.2.2.2.2.2.2.2.2.1) (d.2.2.2.2.2.2.2.2.2.2.2.1) (d.2.2.2.2.2.2.2.2.2.2.2.2.1) (d.2.2.2.2.2.2.2.2.2.2.2.2.2.1) (d.2.2.2.2.2.2.2.2.2.2.2.2.2.2.1) (d.2.2.2.2.2.2.2.2.2.2.2.2.2.2.2.1) (d.2.2.2.2.2.2.2.2.2.2.2.2.2.2.2.2.1) (d.2.2.2.2.2.2.2.2.2.2.2.2.2.2.2.2.2.1) (d.2.2.2.2.2.2.2.2.2.2.2.2.2.2.2.2.2.2.1) (d.2.2.2.2.2.2.2.2.2.2.2.2.2.2.2.2.2.2.2.1) (d.2.2.2.2.2.2.2.2.2.2.2.2.2.2.2.2.2.2.2.2.1) (d.2.2.2.2.2.2.2.2.2.2.2.2.2.2.2.2.2.2.2.2.2.1) (d.2.2.2.2.2.2.2.2.2.2.2.2.2.2.2.2.2.2.2.2.2.2.1) (d.2.2.2.2.2.2.2.2.2.2.2.2.2.2.2.2.2.2.2.2.2.2.2) x rep
theorem okC_0 : okC (fun _ => 0) := by unfold okC; decide
theorem addF_in {kf : Int → Int} {ks x : Int} (h : ∀ j, 0 ≤ kf j ∧ kf j ≤ 126) (hx : 0 ≤ x ∧ x ≤ 126) : ∀ j, 0 ≤ addF kf ks x j ∧ addF kf ks x j ≤ 126 := by
  intro j
  unfold addF
  split
  · unfold zup; split; exact hx; exact h j
  · exact h j
theorem zcp_all {P : Int → Prop} {f g : Int → Int} {a b n : Int} (hf : ∀ j, P (f j)) (hg : ∀ j, P (g j)) : ∀ j, P (zcp f g a b n j) := fun j => by unfold zcp; split; exact hf _; exact hg j
theorem zup_all {P : Int → Prop} {g : Int → Int} {i v : Int} (hg : ∀ j, P (g j)) (hv : P v) : ∀ j, P (zup g i v j) := fun j => by unfold zup; split; exact hv; exact hg j
theorem keep_ok {pl pc : Int → Int} {nx L c : Int} (h : ∀ j, (0 ≤ pl j ∧ pl j ≤ 60) ∧ 0 ≤ pc j ∧ pc j ≤ la (pl j)) (hL : 0 ≤ L ∧ L ≤ 60) (hc : 0 ≤ c ∧ c ≤ la L) : ∀ j, (0 ≤ zup pl nx L j ∧ zup pl nx L j ≤ 60) ∧ 0 ≤ zup pc nx c j ∧ zup pc nx c j ≤ la (zup pl nx L j) := by
  intro j
  unfold zup
  split
  · exact ⟨hL, hc⟩
  · exact h j
theorem tkA_w0 {k : Int → Int} {x : Int} (h : okC k) (h1 : (tkA k x).1 = 1) (h2 : (tkA k x).2 2 = 0) : (tkA k x).2 5 = 1 := by
  obtain ⟨a1, a2, a3, a4, a5, a6, a7, a8⟩ := h
  have hm := tkM_f k x
  by_cases e0 : k 1 = 0
  · rw [tkA_1 e0] at h1 h2 ⊢
    by_cases c1 : isFg x (k 3)
    · rw [tkV_1 c1] at h1; simp at h1
    by_cases c2 : x = 100 ∨ x = 121 ∨ x = 99
    · rw [tkV_2 c1 c2] at h1; simp at h1
    by_cases c3 : x = 114
    · rw [tkV_3 c1 c2 c3] at h1; simp at h1
    by_cases c4 : x = 109
    · rw [tkV_4 c1 c2 c3 c4] at h1; simp at h1
    by_cases c5 : x = 120
    · rw [tkV_5 c1 c2 c3 c4 c5] at h2; simp [zup_at] at h2
    by_cases c6 : x = 126 ∨ x = 112 ∨ x = 80 ∨ x = 105 ∨ x = 97 ∨ x = 73 ∨ x = 65 ∨ x = 117
    · rw [tkV_6 c1 c2 c3 c4 c5 c6] at h2; simp [zup_at] at h2; omega
    · rw [tkV_7 c1 c2 c3 c4 c5 c6] at h1 h2 ⊢; omega
  by_cases e1 : k 1 = 1
  · rw [tkA_2 e0 e1] at h1 h2 ⊢
    by_cases c1 : isFg x (k 4)
    · rw [tkR_1 c1] at h1; simp at h1
    by_cases c2 : x = k 2
    · rw [tkR_2 c1 c2] at h2; simp [zup_at] at h2; omega
    by_cases c3 : x = 105 ∨ x = 97
    · rw [tkR_3 c1 c2 c3] at h1; simp at h1
    · rw [tkR_4 c1 c2 c3] at h1 h2 ⊢; omega
  by_cases e2 : k 1 = 2
  · rw [tkA_3 e0 e1 e2] at h1 h2 ⊢
    by_cases c1 : x ≠ 119 ∧ x ≠ 98
    · rw [tkO_1 c1] at h1; simp at h1
    · rw [tkO_2 c1] at h2; simp [zup_at] at h2; omega
  by_cases e3 : k 1 = 3
  · rw [tkA_4 e0 e1 e2 e3] at h2 ⊢; simp [zup_at] at h2 ⊢; omega
  · rw [tkA_5 e0 e1 e2 e3] at h2 ⊢; simp [zup_at] at h2 ⊢; omega
theorem amR2 {f : Int → Int} {L c : Int} {mf k : Int → Int} {fro pla : Int} (hL : 0 ≤ L ∧ L ≤ 60) (hc : 0 ≤ c ∧ c ≤ la L) (hm : ∀ j, -1 ≤ mf j) (h5 : 1 ≤ k 5 ∧ k 5 ≤ 5) (ho : amO f L c mf k ≠ 0) : amF f L c mf k fro ≤ L ∧ (k 5 = 1 → 0 ≤ amP f L c mf k pla) := by
  have hla := la_in hL.1
  by_cases e1 : k 5 = 1
  · rw [amO_1 e1] at ho
    rw [amF_1 e1, amP_1 e1]
    have hp := plc_in (f := f) (L := L) (c := c) (mf := mf) (m := k 6) (n := tmz k) (a := k 8) hL (by omega) hm
    generalize plc f L c mf (k 6) (tmz k) (k 8) = p at ho hp ⊢
    have hne : p ≠ -1 := fun h => ho (b2z_f (fun q => q h))
    unfold aMf aMp
    rw [if_neg hne, if_neg hne]
    by_cases e8 : k 6 = 8
    · rw [if_pos e8]; omega
    · rw [if_neg e8]; omega
  refine ⟨?_, fun h => absurd h e1⟩
  by_cases e2 : k 5 = 2
  · rw [amO_2 e1 e2] at ho
    have hne : L ≠ 0 := fun h => ho (b2z_f (fun q => q h))
    rw [amF_2 e1 e2, if_neg hne]
    have a1 := bg_in f L (kd f L c) c
    omega
  by_cases e3 : k 5 = 3
  · rw [amO_3 e1 e2 e3] at ho
    have hne : brC f L c ≠ -1 := fun h => ho (b2z_f (fun q => q h))
    rw [amF_3 e1 e2 e3, if_neg hne]
    have a1 := op_in f L c c 0
    have a2 := cl_in f L (op f L c c 0 + 1) 0
    have a3 : op f L c c 0 ≠ -1 ∧ brC f L c = cl f L (op f L c c 0 + 1) 0 := by
      unfold brC at hne ⊢
      split at hne
      · exact absurd rfl hne
      · rename_i q; exact ⟨q, if_neg q⟩
    split <;> omega
  by_cases e4 : k 5 = 4
  · rw [amF_4 e1 e2 e3 e4]; omega
  · rw [amF_5 e1 e2 e3 e4 (by omega)]; omega
theorem amFT_in {f : Int → Int} {L c : Int} {mf k : Int → Int} {fro to : Int} (hL : 0 ≤ L ∧ L ≤ 60) (hc : 0 ≤ c ∧ c ≤ la L) (hm : ∀ j, -1 ≤ mf j) (h3 : 0 ≤ k 3 ∧ k 3 ≤ 99) (h4 : 0 ≤ k 4 ∧ k 4 ≤ 99) (hf : rng fro) (ht : rng to) : rng (amF f L c mf k fro) ∧ rng (amT f L c mf k to) := by
  have hla := la_in hL.1
  obtain ⟨t1, t2, -, -⟩ := tmz_in h3 h4
  by_cases e1 : k 5 = 1
  · rw [amF_1 e1, amT_1 e1]
    have hp := plc_in (f := f) (L := L) (c := c) (mf := mf) (m := k 6) (n := tmz k) (a := k 8) hL (by omega) hm
    generalize plc f L c mf (k 6) (tmz k) (k 8) = p at hp ⊢
    have hb : 0 ≤ b2z (tkP (k 6)) ∧ b2z (tkP (k 6)) ≤ 1 := by unfold b2z; split <;> omega
    unfold aMf aMt aMp
    omega
  by_cases e2 : k 5 = 2
  · rw [amF_2 e1 e2, amT_2 e1 e2]
    have a1 := bg_in f L (kd f L c) c
    have a2 := bh_in f L (kd f L c) c
    have a3 := bh_in f L 0 (bh f L (kd f L c) c)
    omega
  by_cases e3 : k 5 = 3
  · rw [amF_3 e1 e2 e3, amT_3 e1 e2 e3]
    have a1 := op_in f L c c 0
    have a2 := cl_in f L (op f L c c 0 + 1) 0
    have a3 : brC f L c = -1 ∨ brC f L c = cl f L (op f L c c 0 + 1) 0 := by unfold brC; split; exact Or.inl rfl; exact Or.inr rfl
    omega
  by_cases e4 : k 5 = 4
  · rw [amF_4 e1 e2 e3 e4, amT_4 e1 e2 e3 e4]; omega
  by_cases e5 : k 5 = 5
  · rw [amF_5 e1 e2 e3 e4 e5, amT_5 e1 e2 e3 e4 e5]; omega
  · rw [amF_6 e1 e2 e3 e4 e5, amT_6 e1 e2 e3 e4 e5]; exact ⟨hf, ht⟩
theorem ovr_rng {f : Int → Int} {a e v : Int} (h : ∀ k, rng (f k)) (hv : rng v) : ∀ k, rng (ovr f a e v k) := fun k => by unfold ovr; split; exact hv; exact h k

theorem pfm_ok {f : Int → Int} {L c : Int} {pf pl pc : Int → Int} {nx sz : Int} {k sf : Int → Int} {sl : Int} {mf : Int → Int} {pla fro to n : Int} (hf : ∀ j, rng (f j)) (hL : 0 ≤ L ∧ L ≤ 60) (hc : 0 ≤ c ∧ c ≤ la L) (hpf : ∀ j, rng (pf j)) (hplc : ∀ j, (0 ≤ pl j ∧ pl j ≤ 60) ∧ 0 ≤ pc j ∧ pc j ≤ la (pl j)) (hk : ∀ j, rng (k j)) (hsf : ∀ j, rng (sf j)) (hsl : 0 ≤ sl ∧ sl ≤ 60) (hmf : ∀ j, -1 ≤ mf j ∧ mf j ≤ 60) (hn : 1 ≤ n ∧ n ≤ 99) (hp0 : k 2 = 0 → 0 ≤ pla) (hv : k 2 = 100 ∨ k 2 = 121 ∨ k 2 = 99 → 0 ≤ fro ∧ fro ≤ L ∧ to ≤ L) : (∀ j, rng ((pfm f L c pf pl pc nx sz k sf sl mf pla fro to n).2.1 j)) ∧ (0 ≤ (pfm f L c pf pl pc nx sz k sf sl mf pla fro to n).2.2.1 ∧ (pfm f L c pf pl pc nx sz k sf sl mf pla fro to n).2.2.1 ≤ 60) ∧ (0 ≤ (pfm f L c pf pl pc nx sz k sf sl mf pla fro to n).2.2.2.1 ∧ (pfm f L c pf pl pc nx sz k sf sl mf pla fro to n).2.2.2.1 ≤ (pfm f L c pf pl pc nx sz k sf sl mf pla fro to n).2.2.1) ∧ ((pfm f L c pf pl pc nx sz k sf sl mf pla fro to n).1 ≠ 3 → (pfm f L c pf pl pc nx sz k sf sl mf pla fro to n).2.2.2.1 ≤ la (pfm f L c pf pl pc nx sz k sf sl mf pla fro to n).2.2.1) ∧ (∀ j, rng ((pfm f L c pf pl pc nx sz k sf sl mf pla fro to n).2.2.2.2.1 j)) ∧ (0 ≤ (pfm f L c pf pl pc nx sz k sf sl mf pla fro to n).2.2.2.2.2.1 ∧ (pfm f L c pf pl pc nx sz k sf sl mf pla fro to n).2.2.2.2.2.1 ≤ 60) ∧ (∀ j, -1 ≤ (pfm f L c pf pl pc nx sz k sf sl mf pla fro to n).2.2.2.2.2.2.1 j ∧ (pfm f L c pf pl pc nx sz k sf sl mf pla fro to n).2.2.2.2.2.2.1 j ≤ 60) := by
  have hla := la_in hL.1
  by_cases c1 : k 2 = 0
  · rw [pfm_1 c1]
    dsimp only
    have hp1 := hp0 c1
    exact ⟨hf, hL, by omega, fun _ => by omega, hsf, hsl, hmf⟩
  by_cases c2 : k 2 = 100
  · rw [pfm_2 c1 c2]
    dsimp only
    have hv1 := hv (by omega)
    have hf1 : ∀ j, rng ((ctT f L fro to).1 j) := by unfold ctT; split; exact zcp_rng hf hf; exact hf
    have hf2 : ∀ j, rng ((stS f sf sl fro to).1 j) := by unfold stS; split; exact zcp_rng hf hsf; exact hsf
    have hL1 : (0 ≤ (ctT f L fro to).2 ∧ (ctT f L fro to).2 ≤ 60) ∧ fro ≤ (ctT f L fro to).2 := by unfold ctT; split <;> dsimp only <;> omega
    have hs1 : 0 ≤ (stS f sf sl fro to).2 ∧ (stS f sf sl fro to).2 ≤ 60 := by unfold stS; split <;> dsimp only <;> omega
    have hla1 := la_in hL1.1.1
    exact ⟨hf1, hL1.1, by omega, fun h => by first | omega | exact absurd rfl h, hf2, hs1, hmf⟩
  by_cases c3 : k 2 = 121
  · rw [pfm_3 c1 c2 c3]
    dsimp only
    have hv1 := hv (by omega)
    have hf1 : ∀ j, rng ((ctT f L fro to).1 j) := by unfold ctT; split; exact zcp_rng hf hf; exact hf
    have hf2 : ∀ j, rng ((stS f sf sl fro to).1 j) := by unfold stS; split; exact zcp_rng hf hsf; exact hsf
    have hL1 : (0 ≤ (ctT f L fro to).2 ∧ (ctT f L fro to).2 ≤ 60) ∧ fro ≤ (ctT f L fro to).2 := by unfold ctT; split <;> dsimp only <;> omega
    have hs1 : 0 ≤ (stS f sf sl fro to).2 ∧ (stS f sf sl fro to).2 ≤ 60 := by unfold stS; split <;> dsimp only <;> omega
    have hla1 := la_in hL1.1.1
    exact ⟨hf, hL, by omega, fun _ => by omega, hf2, hs1, hmf⟩
  by_cases c4 : k 2 = 99
  · rw [pfm_4 c1 c2 c3 c4]
    dsimp only
    have hv1 := hv (by omega)
    have hf1 : ∀ j, rng ((ctT f L fro to).1 j) := by unfold ctT; split; exact zcp_rng hf hf; exact hf
    have hf2 : ∀ j, rng ((stS f sf sl fro to).1 j) := by unfold stS; split; exact zcp_rng hf hsf; exact hsf
    have hL1 : (0 ≤ (ctT f L fro to).2 ∧ (ctT f L fro to).2 ≤ 60) ∧ fro ≤ (ctT f L fro to).2 := by unfold ctT; split <;> dsimp only <;> omega
    have hs1 : 0 ≤ (stS f sf sl fro to).2 ∧ (stS f sf sl fro to).2 ≤ 60 := by unfold stS; split <;> dsimp only <;> omega
    have hla1 := la_in hL1.1.1
    exact ⟨hf1, hL1.1, by omega, fun h => by first | omega | exact absurd rfl h, hf2, hs1, hmf⟩
  by_cases c5 : k 2 = 114
  · rw [pfm_5 c1 c2 c3 c4 c5]
    dsimp only
    by_cases q : c + n > L
    · rw [if_pos q, if_pos q, if_pos q]; exact ⟨hf, hL, by omega, fun _ => by omega, hsf, hsl, hmf⟩
    · rw [if_neg q, if_neg q, if_neg q]; exact ⟨ovr_rng hf (hk 8), hL, by omega, fun _ => by omega, hsf, hsl, hmf⟩
  by_cases c6 : k 2 = 126
  · rw [pfm_6 c1 c2 c3 c4 c5 c6]
    dsimp only
    by_cases q : L = 0
    · rw [if_pos q, if_pos q, if_pos q]; exact ⟨hf, hL, by omega, fun _ => by omega, hsf, hsl, hmf⟩
    · rw [if_neg q, if_neg q, if_neg q]; exact ⟨sws_rng hf, hL, by omega, fun _ => by omega, hsf, hsl, hmf⟩
  by_cases c7 : k 2 = 112
  · rw [pfm_7 c1 c2 c3 c4 c5 c6 c7]
    dsimp only
    have hm0 := Int.mul_nonneg (show 0 ≤ n by omega) hsl.1
    by_cases q : n * sl = 0 ∨ n * sl > 60 - L
    · rw [if_pos q, if_pos q, if_pos q, if_pos q]; exact ⟨hf, hL, by omega, fun _ => by omega, hsf, hsl, hmf⟩
    · rw [if_neg q, if_neg q, if_neg q, if_neg q]; have hla1 := la_in (show 0 ≤ L + n * sl by omega); exact ⟨pin_rng (zcp_rng hf hf) hsf, by omega, by omega, fun _ => by omega, hsf, hsl, hmf⟩
  by_cases c8 : k 2 = 80
  · rw [pfm_8 c1 c2 c3 c4 c5 c6 c7 c8]
    dsimp only
    have hm0 := Int.mul_nonneg (show 0 ≤ n by omega) hsl.1
    by_cases q : n * sl = 0 ∨ n * sl > 60 - L
    · rw [if_pos q, if_pos q, if_pos q, if_pos q]; exact ⟨hf, hL, by omega, fun _ => by omega, hsf, hsl, hmf⟩
    · rw [if_neg q, if_neg q, if_neg q, if_neg q]; have hla1 := la_in (show 0 ≤ L + n * sl by omega); exact ⟨pin_rng (zcp_rng hf hf) hsf, by omega, by omega, fun _ => by omega, hsf, hsl, hmf⟩
  by_cases c9 : k 2 = 105
  · rw [pfm_9 c1 c2 c3 c4 c5 c6 c7 c8 c9]
    dsimp only
    exact ⟨hf, hL, by omega, fun h => absurd rfl h, hsf, hsl, hmf⟩
  by_cases c10 : k 2 = 97
  · rw [pfm_10 c1 c2 c3 c4 c5 c6 c7 c8 c9 c10]
    dsimp only
    exact ⟨hf, hL, by omega, fun h => absurd rfl h, hsf, hsl, hmf⟩
  by_cases c11 : k 2 = 73
  · rw [pfm_11 c1 c2 c3 c4 c5 c6 c7 c8 c9 c10 c11]
    dsimp only
    exact ⟨hf, hL, by omega, fun h => absurd rfl h, hsf, hsl, hmf⟩
  by_cases c12 : k 2 = 65
  · rw [pfm_12 c1 c2 c3 c4 c5 c6 c7 c8 c9 c10 c11 c12]
    dsimp only
    exact ⟨hf, hL, by omega, fun h => absurd rfl h, hsf, hsl, hmf⟩
  by_cases c13 : k 2 = 117 ∧ sz = 0
  · rw [pfm_13 c1 c2 c3 c4 c5 c6 c7 c8 c9 c10 c11 c12 c13]
    dsimp only
    exact ⟨hf, hL, by omega, fun _ => by omega, hsf, hsl, hmf⟩
  by_cases c14 : k 2 = 117
  · rw [pfm_14 c1 c2 c3 c4 c5 c6 c7 c8 c9 c10 c11 c12 c13 c14]
    dsimp only
    have hq := hplc ((nx - min n sz) % 8)
    have hlq := la_in hq.1.1
    exact ⟨zcp_rng hpf hf, hq.1, by omega, fun _ => by omega, hsf, hsl, hmf⟩
  by_cases c15 : k 2 = 109
  · rw [pfm_15 c1 c2 c3 c4 c5 c6 c7 c8 c9 c10 c11 c12 c13 c14 c15]
    dsimp only
    exact ⟨hf, hL, by omega, fun _ => by omega, hsf, hsl, by intro j; split; exact zup_all (P := fun z => -1 ≤ z ∧ z ≤ 60) hmf (by omega) j; exact hmf j⟩
  rw [pfm_16 c1 c2 c3 c4 c5 c6 c7 c8 c9 c10 c11 c12 c13 c14 c15]
  dsimp only
  exact ⟨hf, hL, by omega, fun _ => by omega, hsf, hsl, hmf⟩

theorem tin_ok {f bf pf pl pc k kf lf sf mf rf : Int → Int} {L c bL bc nx sz ks ls sl ty pla fro to : Int} {x rep : Int} (O : okD f L c bf bL bc pf pl pc nx sz k kf ks lf ls sf sl mf rf ty pla fro to) (hx : 0 ≤ x ∧ x ≤ 126) (ht : ty = 1) : okT (tin f L c bf bL bc pf pl pc nx sz k kf ks lf ls sf sl mf rf ty pla fro to x rep).2 := by
  obtain ⟨hf, hL, hc, hbf, hbL, hbc, hpf, hplc, hnx, hsz, hk, hk3, hk4, hkf, hks, hlf, hls, hsf, hsl, hmf, hrf, hty, hpa, hfr, hto, hcm⟩ := id O
  have hla := la_in hL.1
  have hlb := la_in hbL.1
  have rpl : ∀ j, rng (pl j) := fun j => by have := hplc j; omega
  have rpc : ∀ j, rng (pc j) := fun j => by have := hplc j; have := la_in (hplc j).1.1; omega
  have rkf : ∀ j, rng (kf j) := fun j => by have := hkf j; omega
  have rlf : ∀ j, rng (lf j) := fun j => by have := hlf j; omega
  have rmf : ∀ j, rng (mf j) := fun j => by have := hmf j; omega
  have gmf : ∀ j, -1 ≤ mf j := fun j => (hmf j).1
  by_cases c1 : x = 33
  · rw [tin_1 c1]
    dsimp only [okT]
    exact ⟨hf, hL, ⟨by omega, by omega, fun _ => by omega⟩, hbf, hbL, hbc, zcp_rng hbf hpf, keep_ok hplc hbL hbc, by omega, by omega, fun _ => (by decide : rng (0 : Int)), by decide, by decide, addF_in hkf hx, by decide, by intro j; split; exact zcp_all (P := fun z => 0 ≤ z ∧ z ≤ 126) (addF_in hkf hx) hlf j; exact hlf j, by split <;> omega, hsf, hsl, hmf, hrf, Or.inl rfl, hpa, hfr, hto, fun _ => okC_0⟩
  by_cases c2 : 60 ≤ L
  · rw [tin_2 c1 c2]
    dsimp only [okT]
    exact ⟨hf, hL, hc, hbf, hbL, hbc, hpf, hplc, hnx, hsz, hk, hk3, hk4, addF_in hkf hx, by omega, hlf, hls, hsf, hsl, hmf, hrf, hty, hpa, hfr, hto, hcm⟩
  · rw [tin_3 c1 c2]
    dsimp only [okT]
    exact ⟨zup_rng (zcp_rng hf hf) (by omega), by omega, ⟨by omega, by omega, fun h => absurd h (by omega)⟩, hbf, hbL, hbc, hpf, hplc, hnx, hsz, hk, hk3, hk4, addF_in hkf hx, by omega, hlf, hls, hsf, hsl, hmf, hrf, hty, hpa, hfr, hto, hcm⟩

set_option maxHeartbeats 4000000 in
theorem stk_ok {f bf pf pl pc k kf lf sf mf rf : Int → Int} {L c bL bc nx sz ks ls sl ty pla fro to : Int} {x rep : Int} (O : okD f L c bf bL bc pf pl pc nx sz k kf ks lf ls sf sl mf rf ty pla fro to) (hx : 0 ≤ x ∧ x ≤ 126) : okT (stk f L c bf bL bc pf pl pc nx sz k kf ks lf ls sf sl mf rf ty pla fro to x rep).2 := by
  obtain ⟨hf, hL, hc, hbf, hbL, hbc, hpf, hplc, hnx, hsz, hk, hk3, hk4, hkf, hks, hlf, hls, hsf, hsl, hmf, hrf, hty, hpa, hfr, hto, hcm⟩ := id O
  have hla := la_in hL.1
  have hlb := la_in hbL.1
  have rpl : ∀ j, rng (pl j) := fun j => by have := hplc j; omega
  have rpc : ∀ j, rng (pc j) := fun j => by have := hplc j; have := la_in (hplc j).1.1; omega
  have rkf : ∀ j, rng (kf j) := fun j => by have := hkf j; omega
  have rlf : ∀ j, rng (lf j) := fun j => by have := hlf j; omega
  have rmf : ∀ j, rng (mf j) := fun j => by have := hmf j; omega
  have gmf : ∀ j, -1 ≤ mf j := fun j => (hmf j).1
  obtain ⟨hr1, hr2, hr3, hr4⟩ := tkA_r (x := x) hk hk3 hk4 (by omega)
  obtain ⟨t1, t2, t3, t4⟩ := tmz_in hr2 hr3
  by_cases c1 : ty ≠ 0
  · rw [stk_1 c1]
    exact tin_ok O hx (by omega)
  have hc0 : 0 ≤ c ∧ c ≤ la L := by omega
  by_cases c2 : (tkA k x).1 = 0
  · rw [stk_2 c1 c2]
    dsimp only [okT]
    exact ⟨hf, hL, hc, hbf, hbL, hbc, hpf, hplc, hnx, hsz, hr1, hr2, hr3, addF_in hkf hx, by omega, hlf, hls, hsf, hsl, hmf, hrf, hty, hpa, hfr, hto, fun h => tkA_c (hcm h) c2⟩
  by_cases c3 : (tkA k x).1 ≠ 1
  · rw [stk_3 c1 c2 c3]
    dsimp only [okT]
    exact ⟨hf, hL, hc, zcp_rng hf hbf, hL, by omega, hpf, hplc, hnx, hsz, fun _ => (by decide : rng (0 : Int)), by decide, by decide, addF_in hkf hx, by decide, hlf, hls, hsf, hsl, hmf, hrf, hty, hpa, hfr, hto, fun _ => okC_0⟩
  have hap := amP_in (f := f) (c := c) (k := (tkA k x).2) hL (by omega) gmf hpa
  have haf := amFT_in (f := f) (c := c) (k := (tkA k x).2) hL hc0 gmf hr2 hr3 hfr hto
  by_cases c4 : amO f L c mf (tkA k x).2 = 0
  · rw [stk_4 c1 c2 c3 c4]
    dsimp only [okT]
    exact ⟨hf, hL, hc, zcp_rng hf hbf, hL, by omega, hpf, hplc, hnx, hsz, fun _ => (by decide : rng (0 : Int)), by decide, by decide, addF_in hkf hx, by decide, hlf, hls, hsf, hsl, hmf, hrf, hty, hap, haf.1, haf.2, fun _ => okC_0⟩
  have hcc := hcm (by omega)
  have hw := tkA_w (x := x) hcc (by omega)
  have hw0 := tkA_w0 hcc (x := x) (by omega)
  obtain ⟨q1, q2, q3, q4, q5, q6, q7⟩ := pfm_ok (pla := amP f L c mf (tkA k x).2 pla) (fro := amF f L c mf (tkA k x).2 fro) (to := amT f L c mf (tkA k x).2 to) (n := tmz (tkA k x).2) (nx := nx) (sz := sz) hf hL hc0 hpf hplc hr1 hsf hsl hmf ⟨t1, t2⟩ (fun h => (amR2 (fro := fro) hL hc0 gmf (by have := hw0 h; omega) c4).2 (hw0 h)) (fun h => by have w1 := amR (fro := fro) (to := to) hL hc0 gmf hr2 hr3 (hw.2.2 h) c4; have w2 := (amR2 (fro := fro) (pla := pla) hL hc0 gmf (hw.2.2 h) c4).1; exact ⟨w1.1, w2, w1.2.2.2⟩)
  obtain ⟨hpn, hps, hp0⟩ := pfm_n (f := f) (L := L) (c := c) (pf := pf) (pl := pl) (pc := pc) (k := (tkA k x).2) (sf := sf) (sl := sl) (mf := mf) (pla := amP f L c mf (tkA k x).2 pla) (fro := amF f L c mf (tkA k x).2 fro) (to := amT f L c mf (tkA k x).2 to) (n := tmz (tkA k x).2) hnx hsz ⟨t1, t2⟩
  by_cases c5 : (pfm f L c pf pl pc nx sz (tkA k x).2 sf sl mf (amP f L c mf (tkA k x).2 pla) (amF f L c mf (tkA k x).2 fro) (amT f L c mf (tkA k x).2 to) (tmz (tkA k x).2)).1 = 3
  · rw [stk_5 c1 c2 c3 c4 c5]
    dsimp only [okT]
    exact ⟨q1, q2, ⟨q3.1, q3.2, fun h => absurd h (by decide)⟩, zcp_rng hf hbf, hL, by omega, hpf, hplc, hpn, hps, hr1, hr2, hr3, addF_in hkf hx, by omega, hlf, hls, q5, q6, q7, hrf, Or.inr rfl, hap, haf.1, haf.2, fun h => absurd h (by decide)⟩
  by_cases c6 : (pfm f L c pf pl pc nx sz (tkA k x).2 sf sl mf (amP f L c mf (tkA k x).2 pla) (amF f L c mf (tkA k x).2 fro) (amT f L c mf (tkA k x).2 to) (tmz (tkA k x).2)).1 = 2
  · rw [stk_6 c1 c2 c3 c4 c5 c6]
    dsimp only [okT]
    exact ⟨q1, q2, ⟨q3.1, q3.2, fun h => q4 c5⟩, zcp_rng hf hbf, hL, by omega, zcp_rng (zcp_rng hf hbf) hpf, keep_ok hplc hL hc0, by omega, by omega, fun _ => (by decide : rng (0 : Int)), by decide, by decide, addF_in hkf hx, by decide, by intro j; split; exact zcp_all (P := fun z => 0 ≤ z ∧ z ≤ 126) (addF_in hkf hx) hlf j; exact hlf j, by split <;> omega, q5, q6, q7, hrf, hty, hap, haf.1, haf.2, fun _ => okC_0⟩
  by_cases c7 : (pfm f L c pf pl pc nx sz (tkA k x).2 sf sl mf (amP f L c mf (tkA k x).2 pla) (amF f L c mf (tkA k x).2 fro) (amT f L c mf (tkA k x).2 to) (tmz (tkA k x).2)).1 = 0
  · rw [stk_7 c1 c2 c3 c4 c5 c6 c7]
    dsimp only [okT]
    exact ⟨q1, q2, ⟨q3.1, q3.2, fun h => q4 c5⟩, zcp_rng hf hbf, hL, by omega, hpf, hplc, hpn, hps, fun _ => (by decide : rng (0 : Int)), by decide, by decide, addF_in hkf hx, by decide, hlf, hls, q5, q6, q7, hrf, hty, hap, haf.1, haf.2, fun _ => okC_0⟩
  · rw [stk_8 c1 c2 c3 c4 c5 c6 c7]
    dsimp only [okT]
    exact ⟨q1, q2, ⟨q3.1, q3.2, fun h => q4 c5⟩, zcp_rng hf hbf, hL, by omega, hpf, hplc, hpn, hps, fun _ => (by decide : rng (0 : Int)), by decide, by decide, addF_in hkf hx, by decide, hlf, hls, q5, q6, q7, hrf, hty, hap, haf.1, haf.2, fun _ => okC_0⟩

theorem tin_la {f bf pf pl pc k kf lf sf mf rf : Int → Int} {L c bL bc nx sz ks ls sl ty pla fro to : Int} {x : Int} : (tin f L c bf bL bc pf pl pc nx sz k kf ks lf ls sf sl mf rf ty pla fro to x 1).2.2.2.2.2.2.2.2.2.2.2.2.2.2.2.1 = lf ∧ (tin f L c bf bL bc pf pl pc nx sz k kf ks lf ls sf sl mf rf ty pla fro to x 1).2.2.2.2.2.2.2.2.2.2.2.2.2.2.2.2.1 = ls := by
  by_cases c1 : x = 33
  · rw [tin_1 c1]; exact ⟨rfl, rfl⟩
  by_cases c2 : 60 ≤ L
  · rw [tin_2 c1 c2]; exact ⟨rfl, rfl⟩
  · rw [tin_3 c1 c2]; exact ⟨rfl, rfl⟩

theorem stk_la {f bf pf pl pc k kf lf sf mf rf : Int → Int} {L c bL bc nx sz ks ls sl ty pla fro to : Int} {x : Int} : (stk f L c bf bL bc pf pl pc nx sz k kf ks lf ls sf sl mf rf ty pla fro to x 1).2.2.2.2.2.2.2.2.2.2.2.2.2.2.2.1 = lf ∧ (stk f L c bf bL bc pf pl pc nx sz k kf ks lf ls sf sl mf rf ty pla fro to x 1).2.2.2.2.2.2.2.2.2.2.2.2.2.2.2.2.1 = ls := by
  by_cases c1 : ty ≠ 0
  · rw [stk_1 c1]; exact tin_la
  by_cases c2 : (tkA k x).1 = 0
  · rw [stk_2 c1 c2]; exact ⟨rfl, rfl⟩
  by_cases c3 : (tkA k x).1 ≠ 1
  · rw [stk_3 c1 c2 c3]; exact ⟨rfl, rfl⟩
  by_cases c4 : amO f L c mf (tkA k x).2 = 0
  · rw [stk_4 c1 c2 c3 c4]; exact ⟨rfl, rfl⟩
  by_cases c5 : (pfm f L c pf pl pc nx sz (tkA k x).2 sf sl mf (amP f L c mf (tkA k x).2 pla) (amF f L c mf (tkA k x).2 fro) (amT f L c mf (tkA k x).2 to) (tmz (tkA k x).2)).1 = 3
  · rw [stk_5 c1 c2 c3 c4 c5]; exact ⟨rfl, rfl⟩
  by_cases c6 : (pfm f L c pf pl pc nx sz (tkA k x).2 sf sl mf (amP f L c mf (tkA k x).2 pla) (amF f L c mf (tkA k x).2 fro) (amT f L c mf (tkA k x).2 to) (tmz (tkA k x).2)).1 = 2
  · rw [stk_6 c1 c2 c3 c4 c5 c6]; exact ⟨rfl, rfl⟩
  by_cases c7 : (pfm f L c pf pl pc nx sz (tkA k x).2 sf sl mf (amP f L c mf (tkA k x).2 pla) (amF f L c mf (tkA k x).2 fro) (amT f L c mf (tkA k x).2 to) (tmz (tkA k x).2)).1 = 0
  · rw [stk_7 c1 c2 c3 c4 c5 c6 c7]; exact ⟨rfl, rfl⟩
  · rw [stk_8 c1 c2 c3 c4 c5 c6 c7]; exact ⟨rfl, rfl⟩
