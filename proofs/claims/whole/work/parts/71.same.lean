/-! ===== what hangs on the letters 0 .. L - 1 only ===== -/
abbrev eL (f h : Int → Int) (L : Int) : Prop := ∀ p, 0 ≤ p → p < L → f p = h p
theorem kd_cg {f h : Int → Int} {L : Int} (e : eL f h L) (p : Int) : kd f L p = kd h L p := by
  unfold kd
  by_cases c : 0 ≤ p ∧ p < L
  · rw [if_pos c, if_pos c, e p c.1 c.2]
  · rw [if_neg c, if_neg c]
theorem atv_cg {f h : Int → Int} {L : Int} (e : eL f h L) (p : Int) : atv f L p = atv h L p := by
  unfold atv
  by_cases c : 0 ≤ p ∧ p < L
  · rw [if_pos c, if_pos c, e p c.1 c.2]
  · rw [if_neg c, if_neg c]
theorem bhN_cg {f h : Int → Int} {L k : Int} (e : eL f h L) : ∀ (n : Nat) (q : Int), bhN f L k n q = bhN h L k n q
  | 0, q => rfl
  | n + 1, q => by rw [bhN, bhN, kd_cg e, bhN_cg e n]
theorem bh_cg {f h : Int → Int} {L : Int} (e : eL f h L) (k q : Int) : bh f L k q = bh h L k q := bhN_cg e _ q
theorem bgN_cg {f h : Int → Int} {L k : Int} (e : eL f h L) : ∀ (n : Nat) (q : Int), bgN f L k n q = bgN h L k n q
  | 0, q => rfl
  | n + 1, q => by rw [bgN, bgN, kd_cg e, bgN_cg e n]
theorem bg_cg {f h : Int → Int} {L : Int} (e : eL f h L) (k q : Int) : bg f L k q = bg h L k q := bgN_cg e _ q
theorem ld_cg {f h : Int → Int} {L : Int} (e : eL f h L) (m p : Int) : ld f L m p = ld h L m p := by
  have h1 : wOn f L p = wOn h L p := by unfold wOn; rw [kd_cg e, bh_cg e, bh_cg e]
  have h2 : wBack f L p = wBack h L p := by unfold wBack; rw [bg_cg e 0, kd_cg e, bg_cg e]
  have h3 : wEnd f L p = wEnd h L p := by unfold wEnd; rw [bh_cg e 0, kd_cg e, bh_cg e]
  unfold ld; rw [h1, h2, h3]
theorem ldN_cg {f h : Int → Int} {L m : Int} (e : eL f h L) : ∀ (n : Nat) (p : Int), ldN f L m n p = ldN h L m n p
  | 0, p => rfl
  | n + 1, p => by rw [ldN, ldN, ld_cg e, ldN_cg e n]
theorem fbN_cg {f h : Int → Int} {L w n : Int} (e : eL f h L) : ∀ (k : Nat) (q c : Int), 0 ≤ q → fbN f L w n k q c = fbN h L w n k q c
  | 0, q, c, _ => rfl
  | k + 1, q, c, h0 => by
    rw [fbN, fbN]
    by_cases a : q < L
    · rw [if_pos a, if_pos a, e q h0 a, fbN_cg e k (q + 1) _ (by omega)]
    · rw [if_neg a, if_neg a]
theorem fb_cg {f h : Int → Int} {L : Int} (e : eL f h L) (w n q c : Int) (h0 : 0 ≤ q) : fb f L w n q c = fb h L w n q c := fbN_cg e _ q c h0
theorem opN_cg {f h : Int → Int} {L p : Int} (e : eL f h L) : ∀ (k : Nat) (q d : Int), opN f L p k q d = opN h L p k q d
  | 0, q, d => rfl
  | k + 1, q, d => by rw [opN, opN, atv_cg e, opN_cg e k, opN_cg e k]
theorem op_cg {f h : Int → Int} {L : Int} (e : eL f h L) (p q d : Int) : op f L p q d = op h L p q d := opN_cg e _ q d
theorem clN_cg {f h : Int → Int} {L : Int} (e : eL f h L) : ∀ (k : Nat) (q d : Int), clN f L k q d = clN h L k q d
  | 0, q, d => rfl
  | k + 1, q, d => by rw [clN, clN, atv_cg e, clN_cg e k, clN_cg e k]
theorem cl_cg {f h : Int → Int} {L : Int} (e : eL f h L) (q d : Int) : cl f L q d = cl h L q d := clN_cg e _ q d
theorem brC_cg {f h : Int → Int} {L : Int} (e : eL f h L) (c : Int) : brC f L c = brC h L c := by unfold brC; rw [op_cg e, cl_cg e]
theorem wdN_cg {f h : Int → Int} {L : Int} (e : eL f h L) : ∀ (k : Nat) (p c : Int), wdN f L k p c = wdN h L k p c
  | 0, p, c => rfl
  | k + 1, p, c => by rw [wdN, wdN, kd_cg e, kd_cg e, wdN_cg e k]
theorem wd_cg {f h : Int → Int} {L : Int} (e : eL f h L) (p c : Int) : wd f L p c = wd h L p c := wdN_cg e _ p c
