/-! ===== letters stay letters ===== -/
abbrev lrA (f : Int → Int) : Prop := ∀ j, 0 ≤ f j ∧ f j ≤ 126
theorem ite_lr {Q : Prop} [Decidable Q] {a b : Int → Int} (h1 : lrA a) (h2 : lrA b) : lrA (if Q then a else b) := by split <;> assumption
theorem zcp_lr {f g : Int → Int} {a b n : Int} (hf : lrA f) (hg : lrA g) : lrA (zcp f g a b n) := fun j => by unfold zcp; split; exact hf _; exact hg j
theorem zup_lr {g : Int → Int} {i v : Int} (hg : lrA g) (hv : 0 ≤ v ∧ v ≤ 126) : lrA (zup g i v) := fun j => by unfold zup; split; exact hv; exact hg j
theorem ctT_lr {f : Int → Int} {L a b : Int} (h : lrA f) : lrA (ctT f L a b).1 := by unfold ctT; split; exact zcp_lr h h; exact h
theorem stS_lr {f sf : Int → Int} {sl a b : Int} (h : lrA f) (hs : lrA sf) : lrA (stS f sf sl a b).1 := by unfold stS; split; exact zcp_lr h hs; exact hs
theorem ovr_lr {f : Int → Int} {a b v : Int} (h : lrA f) (hv : 0 ≤ v ∧ v ≤ 126) : lrA (ovr f a b v) := fun j => by unfold ovr; split; exact hv; exact h j
theorem sws_lr {f : Int → Int} {a b : Int} (h : lrA f) : lrA (sws f a b) := fun j => by
  have := h j
  unfold sws swc
  split
  · split
    · omega
    · split <;> omega
  · exact this
theorem pin_lr {f sf : Int → Int} {sl a b : Int} (h : lrA f) (hs : lrA sf) : lrA (pin f sf sl a b) := fun j => by unfold pin; split; exact hs _; exact h j
theorem pfm_lr {f : Int → Int} {L c : Int} {pf pl pc : Int → Int} {nx sz : Int} {k sf : Int → Int} {sl : Int} {mf : Int → Int} {pla fro to n : Int} (hf : lrA f) (hs : lrA sf) (hp : lrA pf) (h8 : k 2 = 114 → 0 ≤ k 8 ∧ k 8 ≤ 126) : lrA (pfm f L c pf pl pc nx sz k sf sl mf pla fro to n).2.1 ∧ lrA (pfm f L c pf pl pc nx sz k sf sl mf pla fro to n).2.2.2.2.1 := by
  by_cases c1 : k 2 = 0
  · rw [pfm_1 c1]; exact ⟨hf, hs⟩
  by_cases c2 : k 2 = 100
  · rw [pfm_2 c1 c2]; exact ⟨ctT_lr hf, stS_lr hf hs⟩
  by_cases c3 : k 2 = 121
  · rw [pfm_3 c1 c2 c3]; exact ⟨hf, stS_lr hf hs⟩
  by_cases c4 : k 2 = 99
  · rw [pfm_4 c1 c2 c3 c4]; exact ⟨ctT_lr hf, stS_lr hf hs⟩
  by_cases c5 : k 2 = 114
  · rw [pfm_5 c1 c2 c3 c4 c5]; exact ⟨ite_lr hf (ovr_lr hf (h8 c5)), hs⟩
  by_cases c6 : k 2 = 126
  · rw [pfm_6 c1 c2 c3 c4 c5 c6]; exact ⟨ite_lr hf (sws_lr hf), hs⟩
  by_cases c7 : k 2 = 112
  · rw [pfm_7 c1 c2 c3 c4 c5 c6 c7]; exact ⟨ite_lr hf (pin_lr (zcp_lr hf hf) hs), hs⟩
  by_cases c8 : k 2 = 80
  · rw [pfm_8 c1 c2 c3 c4 c5 c6 c7 c8]; exact ⟨ite_lr hf (pin_lr (zcp_lr hf hf) hs), hs⟩
  by_cases c9 : k 2 = 105
  · rw [pfm_9 c1 c2 c3 c4 c5 c6 c7 c8 c9]; exact ⟨hf, hs⟩
  by_cases c10 : k 2 = 97
  · rw [pfm_10 c1 c2 c3 c4 c5 c6 c7 c8 c9 c10]; exact ⟨hf, hs⟩
  by_cases c11 : k 2 = 73
  · rw [pfm_11 c1 c2 c3 c4 c5 c6 c7 c8 c9 c10 c11]; exact ⟨hf, hs⟩
  by_cases c12 : k 2 = 65
  · rw [pfm_12 c1 c2 c3 c4 c5 c6 c7 c8 c9 c10 c11 c12]; exact ⟨hf, hs⟩
  by_cases c13 : k 2 = 117 ∧ sz = 0
  · rw [pfm_13 c1 c2 c3 c4 c5 c6 c7 c8 c9 c10 c11 c12 c13]; exact ⟨hf, hs⟩
  by_cases c14 : k 2 = 117
  · rw [pfm_14 c1 c2 c3 c4 c5 c6 c7 c8 c9 c10 c11 c12 c13 c14]; exact ⟨zcp_lr hp hf, hs⟩
  by_cases c15 : k 2 = 109
  · rw [pfm_15 c1 c2 c3 c4 c5 c6 c7 c8 c9 c10 c11 c12 c13 c14 c15]; exact ⟨hf, hs⟩
  rw [pfm_16 c1 c2 c3 c4 c5 c6 c7 c8 c9 c10 c11 c12 c13 c14 c15]; exact ⟨hf, hs⟩
theorem tkA_8 {k g : Int → Int} {x : Int} (hC : relC k g) (h1 : (tkA k x).1 = 1) (h2 : (tkA k x).2 2 = 114) : (tkA k x).2 8 = x := by
  obtain ⟨-, -, h⟩ := hC
  have hm := tkM_f k x
  by_cases e0 : k 1 = 0
  · rw [tkA_1 e0] at h1 h2 ⊢
    by_cases c1 : isFg x (k 3)
    · rw [tkV_1 c1] at h1; simp at h1
    by_cases c2 : x = 100 ∨ x = 121 ∨ x = 99
    · rw [tkV_2 c1 c2] at h1; simp at h1
    by_cases c3 : x = 114
    · rw [tkV_3 c1 c2 c3] at h1; simp at h1
    by_cases c4 : x = 109
    · rw [tkV_4 c1 c2 c3 c4] at h1; simp at h1
    by_cases c5 : x = 120
    · rw [tkV_5 c1 c2 c3 c4 c5] at h2; simp [zup_at] at h2
    by_cases c6 : x = 126 ∨ x = 112 ∨ x = 80 ∨ x = 105 ∨ x = 97 ∨ x = 73 ∨ x = 65 ∨ x = 117
    · rw [tkV_6 c1 c2 c3 c4 c5 c6] at h2; simp [zup_at] at h2; omega
    · rw [tkV_7 c1 c2 c3 c4 c5 c6] at h2; omega
  by_cases e1 : k 1 = 1
  · rw [tkA_2 e0 e1] at h1 h2 ⊢
    by_cases c1 : isFg x (k 4)
    · rw [tkR_1 c1] at h1; simp at h1
    by_cases c2 : x = k 2
    · rw [tkR_2 c1 c2] at h2; simp [zup_at] at h2; omega
    by_cases c3 : x = 105 ∨ x = 97
    · rw [tkR_3 c1 c2 c3] at h1; simp at h1
    · rw [tkR_4 c1 c2 c3] at h2; omega
  by_cases e2 : k 1 = 2
  · rw [tkA_3 e0 e1 e2] at h1 h2 ⊢
    by_cases c1 : x ≠ 119 ∧ x ≠ 98
    · rw [tkO_1 c1] at h1; simp at h1
    · rw [tkO_2 c1] at h2; simp [zup_at] at h2; omega
  by_cases e3 : k 1 = 3
  · rw [tkA_4 e0 e1 e2 e3]; show zup k 8 x 8 = x; exact zup_s
  · rw [tkA_5 e0 e1 e2 e3] at h2; simp [zup_at] at h2; omega
theorem tkA_7 {k : Int → Int} {x : Int} (h : k 7 = 0 ∨ k 7 = 1) : (tkA k x).2 7 = 0 ∨ (tkA k x).2 7 = 1 := by
  have hM : (tkM k x).2 7 = k 7 := by
    unfold tkM
    split
    · simp [zup_at]
    · split <;> simp [zup_at]
  unfold tkA tkV tkR tkO
  repeat' split
  all_goals first | (rw [hM]; exact h) | (simp [zup_at]; done) | (simp [zup_at]; exact h) | (simp [zup_at]; omega) | skip
abbrev ltD (d : zDk) : Prop := lrA (d.1) ∧ lrA (d.2.2.2.1) ∧ lrA (d.2.2.2.2.2.2.1) ∧ lrA (d.2.2.2.2.2.2.2.2.2.2.2.2.2.2.2.2.1) ∧ ((d.2.2.2.2.2.2.2.2.2.2.2.1) 7 = 0 ∨ (d.2.2.2.2.2.2.2.2.2.2.2.1) 7 = 1)
theorem stk_lt {f bf pf pl pc k kf lf sf mf rf : Int → Int} {L c bL bc nx sz ks ls sl ty pla fro to : Int} {s : zM} {x rep : Int} (h : rel f L c bf bL bc pf pl pc nx sz k kf ks lf ls sf sl mf rf ty s) (hx : 0 ≤ x ∧ x ≤ 126) (hf : lrA f) (hb : lrA bf) (hp : lrA pf) (hs : lrA sf) (h7 : k 7 = 0 ∨ k 7 = 1) : ltD (stk f L c bf bL bc pf pl pc nx sz k kf ks lf ls sf sl mf rf ty pla fro to x rep).2 := by
  by_cases c1 : ty ≠ 0
  · rw [stk_1 c1]
    by_cases d1 : x = 33
    · rw [tin_1 d1]; exact ⟨hf, hb, zcp_lr hb hp, hs, Or.inl rfl⟩
    by_cases d2 : 60 ≤ L
    · rw [tin_2 d1 d2]; exact ⟨hf, hb, hp, hs, h7⟩
    · rw [tin_3 d1 d2]; exact ⟨zup_lr (zcp_lr hf hf) hx, hb, hp, hs, h7⟩
  have hB : lrA (zcp f bf 0 0 60) := zcp_lr hf hb
  by_cases c2 : (tkA k x).1 = 0
  · rw [stk_2 c1 c2]; exact ⟨hf, hb, hp, hs, tkA_7 h7⟩
  by_cases c3 : (tkA k x).1 ≠ 1
  · rw [stk_3 c1 c2 c3]; exact ⟨hf, hB, hp, hs, Or.inl rfl⟩
  by_cases c4 : amO f L c mf (tkA k x).2 = 0
  · rw [stk_4 c1 c2 c3 c4]; exact ⟨hf, hB, hp, hs, Or.inl rfl⟩
  have q := pfm_lr (L := L) (c := c) (pl := pl) (pc := pc) (nx := nx) (sz := sz) (k := (tkA k x).2) (sl := sl) (mf := mf) (pla := amP f L c mf (tkA k x).2 pla) (fro := amF f L c mf (tkA k x).2 fro) (to := amT f L c mf (tkA k x).2 to) (n := tmz (tkA k x).2) hf hs hp (fun q => by rw [tkA_8 (h.2.2.2.2.2.1 (by omega)) (by omega) q]; exact hx)
  by_cases c5 : (pfm f L c pf pl pc nx sz (tkA k x).2 sf sl mf (amP f L c mf (tkA k x).2 pla) (amF f L c mf (tkA k x).2 fro) (amT f L c mf (tkA k x).2 to) (tmz (tkA k x).2)).1 = 3
  · rw [stk_5 c1 c2 c3 c4 c5]; exact ⟨q.1, hB, hp, q.2, tkA_7 h7⟩
  by_cases c6 : (pfm f L c pf pl pc nx sz (tkA k x).2 sf sl mf (amP f L c mf (tkA k x).2 pla) (amF f L c mf (tkA k x).2 fro) (amT f L c mf (tkA k x).2 to) (tmz (tkA k x).2)).1 = 2
  · rw [stk_6 c1 c2 c3 c4 c5 c6]; exact ⟨q.1, hB, zcp_lr hB hp, q.2, Or.inl rfl⟩
  by_cases c7 : (pfm f L c pf pl pc nx sz (tkA k x).2 sf sl mf (amP f L c mf (tkA k x).2 pla) (amF f L c mf (tkA k x).2 fro) (amT f L c mf (tkA k x).2 to) (tmz (tkA k x).2)).1 = 0
  · rw [stk_7 c1 c2 c3 c4 c5 c6 c7]; exact ⟨q.1, hB, hp, q.2, Or.inl rfl⟩
  · rw [stk_8 c1 c2 c3 c4 c5 c6 c7]; exact ⟨q.1, hB, hp, q.2, Or.inl rfl⟩
