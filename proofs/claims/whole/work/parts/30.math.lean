/-! ===== the line: classes of letters, motions ===== -/
def kc (c : Int) : Int := if c = 32 then 0 else if (97 ≤ c ∧ c ≤ 122) ∨ (65 ≤ c ∧ c ≤ 90) ∨ (48 ≤ c ∧ c ≤ 57) then 1 else 2
def kd (f : Int → Int) (L p : Int) : Int := if 0 ≤ p ∧ p < L then kc (f p) else -1
theorem kc_in (c : Int) : 0 ≤ kc c ∧ kc c ≤ 2 := by unfold kc; split; omega; split <;> omega
theorem kd_in (f : Int → Int) (L p : Int) : -1 ≤ kd f L p ∧ kd f L p ≤ 2 := by
  unfold kd
  split
  · have := kc_in (f p); omega
  · omega
theorem kd_out {f : Int → Int} {L p : Int} (h : p < 0 ∨ L ≤ p) : kd f L p = -1 := if_neg (by omega)
theorem kd_at {f : Int → Int} {L p : Int} (h : 0 ≤ p) (h2 : p < L) : kd f L p = kc (f p) := if_pos ⟨h, h2⟩
theorem kd_pos {f : Int → Int} {L p : Int} (h : 0 ≤ kd f L p) : 0 ≤ p ∧ p < L := by
  apply Classical.byContradiction
  intro q
  have e : kd f L p = -1 := if_neg q
  omega
def la (L : Int) : Int := if 0 < L then L - 1 else 0
theorem la_in {L : Int} (h : 0 ≤ L) : 0 ≤ la L ∧ la L ≤ L ∧ (0 < L → la L = L - 1) ∧ (L = 0 → la L = 0) := by unfold la; split <;> omega
def bhN (f : Int → Int) (L k : Int) : Nat → Int → Int
  | 0, q => q
  | n + 1, q => if q < L ∧ kd f L q = k then bhN f L k n (q + 1) else q
/-- the first place from q on that is not of kind k -/
def bh (f : Int → Int) (L k q : Int) : Int := bhN f L k (L - q).toNat q
theorem bh_eq (f : Int → Int) (L k q : Int) : bh f L k q = if q < L ∧ kd f L q = k then bh f L k (q + 1) else q := by
  unfold bh
  by_cases h : q < L
  · rw [show (L - q).toNat = (L - (q + 1)).toNat + 1 by omega, bhN]
  · rw [show (L - q).toNat = 0 by omega, bhN, if_neg (fun h2 => h h2.1)]
theorem bh_go {f : Int → Int} {L k q : Int} (h : q < L) (h2 : kd f L q = k) : bh f L k q = bh f L k (q + 1) := by rw [bh_eq, if_pos ⟨h, h2⟩]
theorem bh_no {f : Int → Int} {L k q : Int} (h : ¬ (q < L ∧ kd f L q = k)) : bh f L k q = q := by rw [bh_eq, if_neg h]
theorem bhN_in (f : Int → Int) (L k : Int) : ∀ (n : Nat) (q : Int), q ≤ bhN f L k n q ∧ (q ≤ L → bhN f L k n q ≤ L)
  | 0, q => ⟨Int.le_refl _, fun h => h⟩
  | n + 1, q => by
    rw [bhN]
    split
    · have := bhN_in f L k n (q + 1); omega
    · omega
theorem bh_in (f : Int → Int) (L k q : Int) : q ≤ bh f L k q ∧ (q ≤ L → bh f L k q ≤ L) := bhN_in f L k _ q
def bgN (f : Int → Int) (L k : Int) : Nat → Int → Int
  | 0, q => q
  | n + 1, q => if 0 < q ∧ kd f L (q - 1) = k then bgN f L k n (q - 1) else q
/-- the first place of the row of kind k that ends ahead of q -/
def bg (f : Int → Int) (L k q : Int) : Int := bgN f L k q.toNat q
theorem bg_eq (f : Int → Int) (L k q : Int) : bg f L k q = if 0 < q ∧ kd f L (q - 1) = k then bg f L k (q - 1) else q := by
  unfold bg
  by_cases h : 0 < q
  · rw [show q.toNat = (q - 1).toNat + 1 by omega, bgN]
  · rw [show q.toNat = 0 by omega, bgN, if_neg (fun h2 => h h2.1)]
theorem bg_go {f : Int → Int} {L k q : Int} (h : 0 < q) (h2 : kd f L (q - 1) = k) : bg f L k q = bg f L k (q - 1) := by rw [bg_eq, if_pos ⟨h, h2⟩]
theorem bg_no {f : Int → Int} {L k q : Int} (h : ¬ (0 < q ∧ kd f L (q - 1) = k)) : bg f L k q = q := by rw [bg_eq, if_neg h]
theorem bgN_in (f : Int → Int) (L k : Int) : ∀ (n : Nat) (q : Int), bgN f L k n q ≤ q ∧ (0 ≤ q → 0 ≤ bgN f L k n q)
  | 0, q => ⟨Int.le_refl _, fun h => h⟩
  | n + 1, q => by
    rw [bgN]
    split
    · have := bgN_in f L k n (q - 1); omega
    · omega
theorem bg_in (f : Int → Int) (L k q : Int) : bg f L k q ≤ q ∧ (0 ≤ q → 0 ≤ bg f L k q) := bgN_in f L k _ q
def wOn (f : Int → Int) (L p : Int) : Int := bh f L 0 (if kd f L p = 0 then p else bh f L (kd f L p) p)
def wBack (f : Int → Int) (L p : Int) : Int := bg f L (kd f L (bg f L 0 p - 1)) (bg f L 0 p)
def wEnd (f : Int → Int) (L p : Int) : Int := if bh f L 0 (p + 1) < L then bh f L (kd f L (bh f L 0 (p + 1))) (bh f L 0 (p + 1)) - 1 else la L
/-- where a motion 0 .. 6 leads -/
def ld (f : Int → Int) (L m p : Int) : Int :=
  if m = 0 then max 0 (p - 1) else if m = 1 then min L (p + 1) else if m = 2 then 0 else if m = 3 then la L else if m = 4 then wOn f L p else if m = 5 then wBack f L p else wEnd f L p
theorem wOn_in {f : Int → Int} {L p : Int} (h : 0 ≤ p) (h2 : p ≤ L) : 0 ≤ wOn f L p ∧ wOn f L p ≤ L := by
  unfold wOn
  have a := bh_in f L (kd f L p) p
  split
  · have b := bh_in f L 0 p; omega
  · have b := bh_in f L 0 (bh f L (kd f L p) p); omega
theorem wBack_in {f : Int → Int} {L p : Int} (h : 0 ≤ p) (h2 : p ≤ L) : 0 ≤ wBack f L p ∧ wBack f L p ≤ L := by
  unfold wBack
  have a := bg_in f L 0 p
  have b := bg_in f L (kd f L (bg f L 0 p - 1)) (bg f L 0 p)
  omega
theorem wEnd_in {f : Int → Int} {L p : Int} (h : 0 ≤ p) (h2 : p ≤ L) : 0 ≤ wEnd f L p ∧ wEnd f L p ≤ L := by
  unfold wEnd
  have a := bh_in f L 0 (p + 1)
  have c := la_in (L := L) (by omega)
  split
  · have b := bh_in f L (kd f L (bh f L 0 (p + 1))) (bh f L 0 (p + 1)); omega
  · omega
theorem ld_in {f : Int → Int} {L m p : Int} (h : 0 ≤ p) (h2 : p ≤ L) : 0 ≤ ld f L m p ∧ ld f L m p ≤ L := by
  have a := wOn_in (f := f) h h2
  have b := wBack_in (f := f) h h2
  have c := wEnd_in (f := f) h h2
  have d := la_in (L := L) (by omega)
  unfold ld
  split; omega
  split; omega
  split; omega
  split; omega
  split; omega
  split; omega
  omega
/-- as a deed -/
def dd (f : Int → Int) (L m p : Int) : Int := min (ld f L m p) (la L)
theorem dd_in {f : Int → Int} {L m p : Int} (h : 0 ≤ p) (h2 : p ≤ L) : 0 ≤ dd f L m p ∧ dd f L m p ≤ la L := by
  have a := ld_in (f := f) (m := m) h h2
  have d := la_in (L := L) (by omega)
  unfold dd
  omega
-- the n-th place behind p that has a letter; -1: none
def fbN (f : Int → Int) (L w n : Int) : Nat → Int → Int → Int
  | 0, _, _ => -1
  | k + 1, q, c => if q < L then (if (if f q = w then c + 1 else c) = n then q else fbN f L w n k (q + 1) (if f q = w then c + 1 else c)) else -1
def fb (f : Int → Int) (L w n q c : Int) : Int := fbN f L w n (L - q).toNat q c
theorem fb_eq (f : Int → Int) (L w n q c : Int) : fb f L w n q c = if q < L then (if (if f q = w then c + 1 else c) = n then q else fb f L w n (q + 1) (if f q = w then c + 1 else c)) else -1 := by
  unfold fb
  by_cases h : q < L
  · rw [show (L - q).toNat = (L - (q + 1)).toNat + 1 by omega, fbN]
  · rw [show (L - q).toNat = 0 by omega, fbN, if_neg h]
-- brackets: left from p, right from an opening one
def atv (f : Int → Int) (L q : Int) : Int := if 0 ≤ q ∧ q < L then f q else -1
theorem atv_rng {f : Int → Int} (h : ∀ k, rng (f k)) (L q : Int) : rng (atv f L q) := by unfold atv; split; exact h q; omega
theorem atv_at {f : Int → Int} {L q : Int} (h : 0 ≤ q) (h2 : q < L) : atv f L q = f q := if_pos ⟨h, h2⟩
theorem atv_out {f : Int → Int} {L q : Int} (h : q < 0 ∨ L ≤ q) : atv f L q = -1 := if_neg (by omega)
def opN (f : Int → Int) (L p : Int) : Nat → Int → Int → Int
  | 0, _, _ => -1
  | k + 1, q, d => if 0 ≤ q then (if atv f L q = 40 then (if d = 0 then q else opN f L p k (q - 1) (d - 1)) else opN f L p k (q - 1) (if atv f L q = 41 ∧ q ≠ p then d + 1 else d)) else -1
def op (f : Int → Int) (L p q d : Int) : Int := opN f L p (q + 1).toNat q d
theorem op_eq (f : Int → Int) (L p q d : Int) : op f L p q d = if 0 ≤ q then (if atv f L q = 40 then (if d = 0 then q else op f L p (q - 1) (d - 1)) else op f L p (q - 1) (if atv f L q = 41 ∧ q ≠ p then d + 1 else d)) else -1 := by
  unfold op
  by_cases h : 0 ≤ q
  · rw [show (q + 1).toNat = (q - 1 + 1).toNat + 1 by omega, opN]
  · rw [show (q + 1).toNat = 0 by omega, opN, if_neg h]
def clN (f : Int → Int) (L : Int) : Nat → Int → Int → Int
  | 0, _, _ => -1
  | k + 1, q, d => if q < L then (if atv f L q = 41 then (if d = 0 then q else clN f L k (q + 1) (d - 1)) else clN f L k (q + 1) (if atv f L q = 40 then d + 1 else d)) else -1
def cl (f : Int → Int) (L q d : Int) : Int := clN f L (L - q).toNat q d
theorem cl_eq (f : Int → Int) (L q d : Int) : cl f L q d = if q < L then (if atv f L q = 41 then (if d = 0 then q else cl f L (q + 1) (d - 1)) else cl f L (q + 1) (if atv f L q = 40 then d + 1 else d)) else -1 := by
  unfold cl
  by_cases h : q < L
  · rw [show (L - q).toNat = (L - (q + 1)).toNat + 1 by omega, clN]
  · rw [show (L - q).toNat = 0 by omega, clN, if_neg h]
theorem op_go (f : Int → Int) (L p q : Int) : ∀ (k : Nat) (q d : Int), -1 ≤ opN f L p k q d ∧ opN f L p k q d ≤ max (-1) q
  | 0, q, d => by rw [opN]; omega
  | k + 1, q, d => by
    rw [opN]
    split
    · split
      · split
        · omega
        · have := op_go f L p q k (q - 1) (d - 1); omega
      · have := op_go f L p q k (q - 1) (if atv f L q = 41 ∧ q ≠ p then d + 1 else d); omega
    · omega
theorem op_in (f : Int → Int) (L p q d : Int) : -1 ≤ op f L p q d ∧ op f L p q d ≤ max (-1) q := op_go f L p q _ q d
theorem cl_go (f : Int → Int) (L : Int) : ∀ (k : Nat) (q d : Int), (clN f L k q d = -1) ∨ (q ≤ clN f L k q d ∧ clN f L k q d < L)
  | 0, q, d => Or.inl rfl
  | k + 1, q, d => by
    rw [clN]
    split
    · split
      · split
        · right; omega
        · have := cl_go f L k (q + 1) (d - 1); omega
      · have := cl_go f L k (q + 1) (if atv f L q = 40 then d + 1 else d); omega
    · left; rfl
theorem cl_in (f : Int → Int) (L q d : Int) : (cl f L q d = -1) ∨ (q ≤ cl f L q d ∧ cl f L q d < L) := cl_go f L _ q d
theorem fb_go (f : Int → Int) (L w n : Int) : ∀ (k : Nat) (q c : Int), (fbN f L w n k q c = -1) ∨ (q ≤ fbN f L w n k q c ∧ fbN f L w n k q c < L)
  | 0, q, d => Or.inl rfl
  | k + 1, q, d => by
    rw [fbN]
    generalize (if f q = w then d + 1 else d) = d2
    split
    · split
      · right; omega
      · have := fb_go f L w n k (q + 1) d2; omega
    · left; rfl
theorem fb_1 {f : Int → Int} {L w n q c : Int} (h : q < L) (h1 : f q = w) (h2 : c + 1 = n) : fb f L w n q c = q := by rw [fb_eq, if_pos h, if_pos h1, if_pos h2]
theorem fb_2 {f : Int → Int} {L w n q c : Int} (h : q < L) (h1 : f q ≠ w) (h2 : c = n) : fb f L w n q c = q := by rw [fb_eq, if_pos h, if_neg h1, if_pos h2]
theorem fb_3 {f : Int → Int} {L w n q c : Int} (h : q < L) (h1 : f q = w) (h2 : c + 1 ≠ n) : fb f L w n q c = fb f L w n (q + 1) (c + 1) := by rw [fb_eq, if_pos h, if_pos h1, if_neg h2]
theorem fb_4 {f : Int → Int} {L w n q c : Int} (h : q < L) (h1 : f q ≠ w) (h2 : c ≠ n) : fb f L w n q c = fb f L w n (q + 1) c := by rw [fb_eq, if_pos h, if_neg h1, if_neg h2]
theorem fb_5 {f : Int → Int} {L w n q c : Int} (h : L ≤ q) : fb f L w n q c = -1 := by rw [fb_eq, if_neg (by omega)]
theorem op_1 {f : Int → Int} {L p q d : Int} (h : 0 ≤ q) (h1 : atv f L q = 40) (h2 : d = 0) : op f L p q d = q := by rw [op_eq, if_pos h, if_pos h1, if_pos h2]
theorem op_2 {f : Int → Int} {L p q d : Int} (h : 0 ≤ q) (h1 : atv f L q = 40) (h2 : d ≠ 0) : op f L p q d = op f L p (q + -1) (d + -1) := by rw [op_eq, if_pos h, if_pos h1, if_neg h2]; rfl
theorem op_3 {f : Int → Int} {L p q d : Int} (h : 0 ≤ q) (h1 : atv f L q ≠ 40) (h2 : atv f L q = 41) (h3 : q ≠ p) : op f L p q d = op f L p (q + -1) (d + 1) := by rw [op_eq, if_pos h, if_neg h1, if_pos ⟨h2, h3⟩]; rfl
theorem op_4 {f : Int → Int} {L p q d : Int} (h : 0 ≤ q) (h1 : atv f L q ≠ 40) (h2 : ¬ (atv f L q = 41 ∧ q ≠ p)) : op f L p q d = op f L p (q + -1) d := by rw [op_eq, if_pos h, if_neg h1, if_neg h2]; rfl
theorem op_5 {f : Int → Int} {L p q d : Int} (h : q < 0) : op f L p q d = -1 := by rw [op_eq, if_neg (by omega)]
theorem cl_1 {f : Int → Int} {L q d : Int} (h : q < L) (h1 : atv f L q = 41) (h2 : d = 0) : cl f L q d = q := by rw [cl_eq, if_pos h, if_pos h1, if_pos h2]
theorem cl_2 {f : Int → Int} {L q d : Int} (h : q < L) (h1 : atv f L q = 41) (h2 : d ≠ 0) : cl f L q d = cl f L (q + 1) (d + -1) := by rw [cl_eq, if_pos h, if_pos h1, if_neg h2]; rfl
theorem cl_3 {f : Int → Int} {L q d : Int} (h : q < L) (h1 : atv f L q ≠ 41) (h2 : atv f L q = 40) : cl f L q d = cl f L (q + 1) (d + 1) := by rw [cl_eq, if_pos h, if_neg h1, if_pos h2]
theorem cl_4 {f : Int → Int} {L q d : Int} (h : q < L) (h1 : atv f L q ≠ 41) (h2 : atv f L q ≠ 40) : cl f L q d = cl f L (q + 1) d := by rw [cl_eq, if_pos h, if_neg h1, if_neg h2]
theorem cl_5 {f : Int → Int} {L q d : Int} (h : L ≤ q) : cl f L q d = -1 := by rw [cl_eq, if_neg (by omega)]
theorem fb_in (f : Int → Int) (L w n q c : Int) : (fb f L w n q c = -1) ∨ (q ≤ fb f L w n q c ∧ fb f L w n q c < L) := fb_go f L w n _ q c
/-- small ones become great ones, great ones small -/
def swc (c : Int) : Int := if 97 ≤ c ∧ c ≤ 122 then c - 97 + 65 else if 65 ≤ c ∧ c ≤ 90 then c - 65 + 97 else c
theorem swc_rng {c : Int} (h : rng c) : rng (swc c) := by unfold swc; split; omega; split <;> omega
-- words
def wdN (f : Int → Int) (L : Int) : Nat → Int → Int → Int
  | 0, _, c => c
  | k + 1, p, c => if p < L then wdN f L k (p + 1) (if kd f L p = 1 ∧ kd f L (p - 1) ≠ 1 then c + 1 else c) else c
def wd (f : Int → Int) (L p c : Int) : Int := wdN f L (L - p).toNat p c
theorem wd_eq (f : Int → Int) (L p c : Int) : wd f L p c = if p < L then wd f L (p + 1) (if kd f L p = 1 ∧ kd f L (p - 1) ≠ 1 then c + 1 else c) else c := by
  unfold wd
  by_cases h : p < L
  · rw [show (L - p).toNat = (L - (p + 1)).toNat + 1 by omega, wdN]
  · rw [show (L - p).toNat = 0 by omega, wdN, if_neg h]
theorem wd_1 {f : Int → Int} {L q d : Int} (h : q < L) (h1 : kd f L q = 1) (h2 : kd f L (q - 1) ≠ 1) : wd f L q d = wd f L (q + 1) (d + 1) := by rw [wd_eq, if_pos h, if_pos ⟨h1, h2⟩]
theorem wd_2 {f : Int → Int} {L q d : Int} (h : q < L) (h1 : ¬ (kd f L q = 1 ∧ kd f L (q - 1) ≠ 1)) : wd f L q d = wd f L (q + 1) d := by rw [wd_eq, if_pos h, if_neg h1]
theorem wd_3 {f : Int → Int} {L q d : Int} (h : L ≤ q) : wd f L q d = d := by rw [wd_eq, if_neg (by omega)]
theorem bh_mx (f : Int → Int) (L k q : Int) : bh f L k q ≤ max q L := by
  by_cases h : q ≤ L
  · have := (bh_in f L k q).2 h; omega
  · rw [bh_no (by omega)]; omega
-- ends of contracts
theorem zO_i {cs : List va_E} {a b : Int} (h : a = b) : zO (.int (iI b)) cs (some (.int (iI a))) cs := ⟨by rw [h], rfl⟩
theorem zO_ic {cs cs1 : List va_E} {a b : Int} (h : a = b) (hc : cs = cs1) : zO (.int (iI b)) cs1 (some (.int (iI a))) cs := ⟨by rw [h], hc⟩
theorem b2z_1 {P : Prop} [Decidable P] (h : P) : (1 : Int) = b2z P := (b2z_t h).symm
theorem b2z_0 {P : Prop} [Decidable P] (h : ¬ P) : (0 : Int) = b2z P := (b2z_f h).symm
section ZX
variable {G : zG} {E : zE} {pc : Nat} {lv : List (Option Value)} {st : List Value} {cs : List va_E}
theorem V_midz {pc2 : Nat} (z : Int) (k : V G E pc2 lv (.int (iI z) :: st) cs) (h : (∀ v, v = z → V G E pc2 lv (.int (iI v) :: st) cs) → V G E pc lv st cs) : V G E pc lv st cs := V_mid z k h
theorem V_midb {pc2 : Nat} (P : Prop) [Decidable P] (k : V G E pc2 lv (.int (iI (b2z P)) :: st) cs) (h : (P → V G E pc2 lv (.int (iI 1) :: st) cs) → (¬ P → V G E pc2 lv (.int (iI 0) :: st) cs) → V G E pc lv st cs) : V G E pc lv st cs := V_midB P k h
end ZX
theorem zs_ne {cs : List va_E} {i j : Nat} {x e : va_E} (h : j ≠ i) (h2 : cs[i]? = some e) : (cs.set j x)[i]? = some e := by rw [List.getElem?_set_ne h]; exact h2
theorem zs_eq {cs : List va_E} {i : Nat} {x : va_E} (h : i < cs.length) : (cs.set i x)[i]? = some x := by rw [List.getElem?_set_self h]
theorem zs_lt {cs : List va_E} {i : Nat} {e : va_E} (h : cs[i]? = some e) : i < cs.length := (List.getElem?_eq_some_iff.mp h).1
theorem zs_self {cs : List va_E} {i : Nat} {e : va_E} (h : cs[i]? = some e) : cs.set i e = cs := by
  apply List.ext_getElem?
  intro k
  by_cases hk : i = k
  · subst hk; rw [zs_eq (zs_lt h), h]
  · rw [List.getElem?_set_ne hk]
theorem zs_ao {cs : List va_E} {i j : Nat} {a : ClassId × vp_A} {b : Nat × List Value} (h : cs[i]? = some (.inr b)) (h2 : cs[j]? = some (.inl a)) : i ≠ j := fun e => by rw [e, h2] at h; cases h
theorem zup_self {g : Int → Int} {i v : Int} (h : g i = v) : zup g i v = g := by
  funext k
  unfold zup
  split
  · rename_i e; rw [e, h]
  · rfl
theorem zs_comm {cs : List va_E} {i j : Nat} {x y : va_E} (h : i ≠ j) : (cs.set i x).set j y = (cs.set j y).set i x := List.set_comm _ _ h
