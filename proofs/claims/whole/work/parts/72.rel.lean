/-! ===== the class's desk and the reference's rows tell the same ===== -/
abbrev vrb (d : Int) : Prop := d = 100 ∨ d = 121 ∨ d = 99
/-- the command under way -/
def relC (k g : Int → Int) : Prop := k 3 = g 191 ∧ k 4 = g 192 ∧ (
  (k 1 = 0 ∧ k 2 = 0 ∧ k 5 = 0 ∧ g 190 = 0 ∧ g 193 = 0) ∨
  (k 1 = 1 ∧ k 2 = g 190 ∧ k 5 = 0 ∧ vrb (g 190) ∧ g 193 = 0) ∨
  (k 1 = 2 ∧ k 2 = g 190 ∧ k 5 = 0 ∧ vrb (g 190) ∧ ((g 193 = 105 ∧ k 7 = 0) ∨ (g 193 = 97 ∧ k 7 = 1))) ∨
  (k 1 = 3 ∧ k 2 = g 190 ∧ k 5 = 1 ∧ (g 190 = 0 ∨ vrb (g 190)) ∧ ((g 193 = 102 ∧ k 6 = 7) ∨ (g 193 = 116 ∧ k 6 = 8))) ∨
  (k 1 = 4 ∧ k 2 = g 190 ∧ k 5 = 1 ∧ (g 190 = 0 ∨ vrb (g 190)) ∧ g 193 = 39 ∧ k 6 = 9) ∨
  (k 1 = 3 ∧ k 2 = 114 ∧ k 5 = 0 ∧ g 190 = 0 ∧ g 193 = 114) ∨
  (k 1 = 4 ∧ k 2 = 109 ∧ k 5 = 0 ∧ g 190 = 0 ∧ g 193 = 109))
/-- the texts kept for u -/
def relP (pf pl pc : Int → Int) (nx sz : Int) (un : Int) (ah : Int → Int) : Prop := un = sz ∧ ∀ t, 0 ≤ t → t < sz →
  ah (62 * (sz - 1 - t)) = pl ((nx - 1 - t) % 8) ∧ ah (62 * (sz - 1 - t) + 61) = pc ((nx - 1 - t) % 8) ∧ ∀ j, 0 ≤ j → j < pl ((nx - 1 - t) % 8) → ah (62 * (sz - 1 - t) + 1 + j) = pf ((nx - 1 - t) % 8 * 60 + j)
/-- the text ahead of the change under way -/
def relB (f : Int → Int) (L c : Int) (bf : Int → Int) (bL bc ks ty : Int) (g : Int → Int) : Prop :=
  (ty = 0 → 0 < ks → g 194 = L ∧ g 255 = c ∧ ∀ j, 0 ≤ j → j < L → g (195 + j) = f j) ∧ (ty ≠ 0 → g 194 = bL ∧ g 255 = bc ∧ ∀ j, 0 ≤ j → j < bL → g (195 + j) = bf j)
/-- text, cursor, store, marks -/
def relT (f : Int → Int) (L c : Int) (sf : Int → Int) (sl : Int) (mf : Int → Int) (g : Int → Int) : Prop :=
  g 0 = L ∧ eL f (lt g) L ∧ g 61 = c ∧ g 63 = sl ∧ (∀ j, 0 ≤ j → j < sl → sf j = g (64 + j)) ∧ (∀ j, 0 ≤ j → j < 4 → g (124 + j) = if mf j = -1 then -4 else mf j)
/-- keys of the command under way, of the last change; prices -/
def relK (kf : Int → Int) (ks : Int) (lf : Int → Int) (ls : Int) (rf g : Int → Int) : Prop :=
  g 159 = ks ∧ (∀ j, 0 ≤ j → j < ks → j < 30 → kf j = g (160 + j)) ∧ g 128 = ls ∧ (∀ j, 0 ≤ j → j < ls → j < 30 → lf j = g (129 + j)) ∧ (∀ j, 0 ≤ j → j < 7 → rf j = g (256 + j))
def rel (f : Int → Int) (L c : Int) (bf : Int → Int) (bL bc : Int) (pf pl pc : Int → Int) (nx sz : Int) (k kf : Int → Int) (ks : Int) (lf : Int → Int) (ls : Int) (sf : Int → Int) (sl : Int) (mf rf : Int → Int) (ty : Int) (s : zM) : Prop :=
  (∀ j, rng (sG s j)) ∧ (∀ j, rng (sH s j)) ∧ relT f L c sf sl mf (sG s) ∧ relK kf ks lf ls rf (sG s) ∧ sG s 62 = ty ∧ (ty = 0 → relC k (sG s)) ∧ (ty = 0 → k 1 ≠ 0 ∨ 0 < k 3 → 0 < ks) ∧ relB f L c bf bL bc ks ty (sG s) ∧ relP pf pl pc nx sz (sU s) (sH s) ∧ ((0 ≤ sG s 191 ∧ sG s 191 ≤ 99) ∧ (0 ≤ sG s 192 ∧ sG s 192 ≤ 99))
/-- what a change keeps: the texts for u -/
theorem relT_cut {f g sf mf : Int → Int} {L c sl a b : Int} (h : relT f L c sf sl mf g) (ha : 0 ≤ a ∧ a < b ∧ b ≤ L) (hL : L ≤ 60) : eL (zcp f f b a (L - b)) (lt (ctG g a b)) (L - (b - a)) := by
  obtain ⟨h0, h1, -⟩ := h
  intro p p1 p2
  show zcp f f b a (L - b) p = ctG g a b (1 + p)
  unfold ctG
  rw [zup_n (by omega), h0]
  by_cases c1 : a ≤ p
  · rw [zcp_in c1 (by omega), zcp_in (by omega) (by omega), h1 _ (by omega) (by omega)]
    show g (1 + (b + (p - a))) = g (1 + b + (1 + p - (1 + a)))
    congr 1; omega
  · rw [zcp_out (by omega), zcp_out (by omega)]; exact h1 p p1 (by omega)
