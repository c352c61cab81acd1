/-! ===== Ways ===== -/
abbrev oW (G : zG) (pl : Int) : va_E := .inr (6, [.ref (G.ad 46), .ref (G.ad 54), .ref (G.ad 55), .ref (G.ad 56), .int (iI pl)])
abbrev zQ (G : zG) : va_E := .inl (G.cy 3, 7, .inr (.inr (.inr (.inr (fun i => if i < 7 then some (G.ad (47 + i)) else none)))))
/-- the Ways: where motions lead (w), costs, rows, longer rows, how many places -/
def isW (G : zG) (cs : List va_E) (w : Int → Int → Int) (co ro lo : Int → Int) (pl : Int) : Prop :=
  cs[45]? = some (oW G pl) ∧ cs[46]? = some (zQ G) ∧ (∀ m : Int, 0 ≤ m → m < 7 → cs[47 + m.toNat]? = some (zI G 60 (w m))) ∧ cs[54]? = some (zI G 60 co) ∧ cs[55]? = some (zI G 60 ro) ∧ cs[56]? = some (zI G 60 lo) ∧ (∀ i j, rng (w i j)) ∧ (∀ j, rng (co j)) ∧ 0 ≤ pl ∧ pl ≤ 60
/-- nothing but the Ways has changed -/
def smO (cs cs' : List va_E) : Prop := cs'.length = cs.length ∧ ∀ k, (k < 45 ∨ 57 ≤ k) → cs'[k]? = cs[k]?
theorem smO.rf {cs : List va_E} : smO cs cs := ⟨rfl, fun _ _ => rfl⟩
theorem smO.tr {a b c : List va_E} (h : smO a b) (h2 : smO b c) : smO a c := ⟨h2.1.trans h.1, fun k hk => (h2.2 k hk).trans (h.2 k hk)⟩
theorem smO.st {cs cs' : List va_E} {k : Nat} {e : va_E} (h : smO cs cs') (hk : 45 ≤ k) (hk2 : k < 57) : smO cs (cs'.set k e) := ⟨by rw [List.length_set]; exact h.1, fun j hj => by rw [List.getElem?_set_ne (by omega)]; exact h.2 j hj⟩
theorem smO.T {G : zG} {cs cs' : List va_E} {f : Int → Int} {L c : Int} (h : smO cs cs') (T : isT G cs 1 2 f L c) : isT G cs' 1 2 f L c := ⟨(h.2 1 (by decide)).trans T.1, (h.2 2 (by decide)).trans T.2.1, T.2.2⟩
theorem isW.co {G : zG} {cs : List va_E} {w : Int → Int → Int} {co ro lo co' : Int → Int} {pl : Int} (h : isW G cs w co ro lo pl) (hr : ∀ j, rng (co' j)) : isW G (cs.set 54 (zI G 60 co')) w co' ro lo pl := by
  obtain ⟨a1, a2, a3, a4, a5, a6, a7, a8, a9, a10⟩ := h
  exact ⟨zs_ne (by decide) a1, zs_ne (by decide) a2, fun m h1 h2 => zs_ne (by omega) (a3 m h1 h2), zs_eq (zs_lt a4), zs_ne (by decide) a5, zs_ne (by decide) a6, a7, hr, a9, a10⟩
theorem isW.ro {G : zG} {cs : List va_E} {w : Int → Int → Int} {co ro lo ro' : Int → Int} {pl : Int} (h : isW G cs w co ro lo pl) : isW G (cs.set 55 (zI G 60 ro')) w co ro' lo pl := by
  obtain ⟨a1, a2, a3, a4, a5, a6, a7, a8, a9, a10⟩ := h
  exact ⟨zs_ne (by decide) a1, zs_ne (by decide) a2, fun m h1 h2 => zs_ne (by omega) (a3 m h1 h2), zs_ne (by decide) a4, zs_eq (zs_lt a5), zs_ne (by decide) a6, a7, a8, a9, a10⟩
theorem isW.lo {G : zG} {cs : List va_E} {w : Int → Int → Int} {co ro lo lo' : Int → Int} {pl : Int} (h : isW G cs w co ro lo pl) : isW G (cs.set 56 (zI G 60 lo')) w co ro lo' pl := by
  obtain ⟨a1, a2, a3, a4, a5, a6, a7, a8, a9, a10⟩ := h
  exact ⟨zs_ne (by decide) a1, zs_ne (by decide) a2, fun m h1 h2 => zs_ne (by omega) (a3 m h1 h2), zs_ne (by decide) a4, zs_ne (by decide) a5, zs_eq (zs_lt a6), a7, a8, a9, a10⟩
theorem isW.pl {G : zG} {cs : List va_E} {w : Int → Int → Int} {co ro lo : Int → Int} {pl pl' : Int} (h : isW G cs w co ro lo pl) (hp : 0 ≤ pl' ∧ pl' ≤ 60) : isW G (cs.set 45 (oW G pl')) w co ro lo pl' := by
  obtain ⟨a1, a2, a3, a4, a5, a6, a7, a8, a9, a10⟩ := h
  exact ⟨zs_eq (zs_lt a1), zs_ne (by decide) a2, fun m h1 h2 => zs_ne (by omega) (a3 m h1 h2), zs_ne (by decide) a4, zs_ne (by decide) a5, zs_ne (by decide) a6, a7, a8, hp⟩
def wup (w : Int → Int → Int) (m p v : Int) : Int → Int → Int := fun i => if i = m then zup (w m) p v else w i
theorem wup_at (w : Int → Int → Int) (m p v i j : Int) : wup w m p v i j = if i = m ∧ j = p then v else w i j := by
  unfold wup
  by_cases h : i = m
  · subst h
    rw [if_pos rfl]
    unfold zup
    by_cases h2 : j = p
    · rw [if_pos h2, if_pos ⟨rfl, h2⟩]
    · rw [if_neg h2, if_neg (fun q => h2 q.2)]
  · rw [if_neg h, if_neg (fun q => h q.1)]
theorem isW.w {G : zG} {cs : List va_E} {w : Int → Int → Int} {co ro lo : Int → Int} {pl m p v : Int} (h : isW G cs w co ro lo pl) (h0 : 0 ≤ m) (h1 : m < 7) (hv : rng v) : isW G (cs.set (47 + m.toNat) (zI G 60 (zup (w m) p v))) (wup w m p v) co ro lo pl := by
  obtain ⟨a1, a2, a3, a4, a5, a6, a7, a8, a9, a10⟩ := h
  refine ⟨zs_ne (by omega) a1, zs_ne (by omega) a2, fun i h2 h3 => ?_, zs_ne (by omega) a4, zs_ne (by omega) a5, zs_ne (by omega) a6, fun i j => ?_, a8, a9, a10⟩
  · by_cases e : i = m
    · subst e
      rw [show wup w i p v i = zup (w i) p v from if_pos rfl]
      exact zs_eq (zs_lt (a3 i h2 h3))
    · rw [show wup w m p v i = w i from if_neg e]
      exact zs_ne (by omega) (a3 i h2 h3)
  · rw [wup_at]; split; exact hv; exact a7 i j
section ZW
variable {G : zG} {E : zE} {own : String} {cc : ByteArray} {nL fr lo pc : Nat} {lv : List (Option Value)} {st : List Value} {cs : List va_E}
theorem V_aaldW (C : zC G E own cc nL fr lo) (hd : decode cc pc = .ok (.aaload, 1)) {m : Int} (he : cs[46]? = some (zQ G)) (h0 : 0 ≤ m) (h1 : m < 7) (kk : V G E (pc + 1) lv (.ref (G.ad (47 + m.toNat)) :: st) cs) : V G E pc lv (.int (iI m) :: .ref (G.ad 46) :: st) cs := by
  intro H locs ls hl hP hD hS
  have hin : vp_in (iI m) 7 := iI_in h0 h1 (by decide)
  have hlt : (iI m).toNatClampNeg < 7 := Nat.not_le.mp fun q => hin (Or.inr q)
  have e1 : (iI m).toNatClampNeg = m.toNat := iI_clamp (by omega)
  refine W.aald (v := va_rf ((fun i => if i < 7 then some (G.ad (47 + i)) else none) (iI m).toNatClampNeg)) (ty := .array .int) C.1 C.2.1 (hP 46 _ (zw_at he)) ((C.k.2 3 _ rfl).1 7 (fun j => va_rf (if j < 7 then some (G.ad (47 + j)) else none))) rfl (fun q => by cases q) (by show ¬ (iI m < 0 ∨ (arrV _ _ _).slots.size ≤ _); rw [arrV_size]; exact hin) (by show (arrV _ _ _).slots[_]? = _; rw [arrV_read _ _ hlt]) rfl rfl hd ?_
  show W _ _ _ _ _ _ _ _ _ _ _ _ _ _ _ (F0 E.m (pc + 1) ls (va_rf (if (iI m).toNatClampNeg < 7 then some (G.ad (47 + (iI m).toNatClampNeg)) else none) :: st))
  rw [if_pos hlt, e1]
  exact kk H locs ls hl hP hD hS
theorem V_iald0 (C : zC G E own cc nL fr lo) (hd : decode cc pc = .ok (.iaload, 1)) {q n : Nat} {g : Int → Int} {i : Int} (he : cs[q]? = some (zI G n g)) (h0 : 0 ≤ i) (h1 : i < n) (hn : n < 2147483648) (kk : V G E (pc + 1) lv (.int (iI (g i)) :: st) cs) : V G E pc lv (.int (iI i) :: .ref (G.ad q) :: st) cs :=
  fun H locs ls hl hP hD hS => va_iald (D := G.D) (cl := vwCl) (tys := zty G.cy) C.1 C.2.1 C.k hP q 0 (zw_at he) rfl (iI_in h0 h1 hn) hd (by rw [iI_clamp (by omega), zf_at g h0]; exact kk H locs ls hl hP hD hS)
theorem kQ0 {P : List va_E → Prop} (k : ∀ cs', P cs' → V G E pc lv st cs') : ∀ r cs', (r = none ∧ P cs') → V G E pc lv (r.toList ++ st) cs' := fun r cs' h => by rw [h.1]; exact k cs' h.2
theorem kQi {P : Int → List va_E → Prop} (k : ∀ z cs', P z cs' → V G E pc lv (.int (iI z) :: st) cs') : ∀ r cs', (∃ z, r = some (.int (iI z)) ∧ P z cs') → V G E pc lv (r.toList ++ st) cs' := by
  rintro r cs' ⟨z, h1, h2⟩
  rw [h1]
  exact k z cs' h2
theorem V_drop (i : Nat) (k : V G E pc (lv.set i none) st cs) : V G E pc lv st cs := by
  intro H locs ls hl hP hD hS
  refine k H locs ls ⟨hl.1, hl.2.1, fun q hq => ?_⟩ hP hD hS
  obtain ⟨j, v⟩ := q
  have h1 := ((zpl_mem _ 0 j v).mp hq).2
  rw [Nat.sub_zero, List.getElem?_set] at h1
  refine hl.2.2 (j, v) ((zpl_mem _ 0 j v).mpr ⟨Nat.zero_le _, ?_⟩)
  rw [Nat.sub_zero]
  split at h1
  · split at h1 <;> cases h1
  · exact h1
end ZW
/-- one way tried: if it is cheaper, it is taken -/
def rxC (c : Int → Int) (kn as pr : Int) : Int → Int := if c kn + pr < c as then zup c as (c kn + pr) else c
def rxB (c : Int → Int) (kn as pr b : Int) : Int := if c kn + pr < c as then 1 else b
abbrev knW (tw : Int) (w : Int → Int → Int) (m p : Int) : Int := if tw = 0 then p else w m p
abbrev asW (tw : Int) (w : Int → Int → Int) (m p : Int) : Int := if tw = 0 then w m p else p
/-- all motions from a place on, all places from one on, rounds from one on -/
def rM (kn as : Int → Int → Int) (rf : Int → Int) (p : Int) : Nat → Int → (Int → Int) → Int → (Int → Int) × Int
  | 0, _, c, b => (c, b)
  | k + 1, m, c, b => if m < 7 then rM kn as rf p k (m + 1) (rxC c (kn m p) (as m p) (rf m)) (rxB c (kn m p) (as m p) (rf m) b) else (c, b)
def rP (kn as : Int → Int → Int) (rf : Int → Int) (n : Int) : Nat → Int → (Int → Int) → Int → (Int → Int) × Int
  | 0, _, c, b => (c, b)
  | k + 1, p, c, b => if p < n then rP kn as rf n k (p + 1) (rM kn as rf p 7 0 c b).1 (rM kn as rf p 7 0 c b).2 else (c, b)
def rR (kn as : Int → Int → Int) (rf : Int → Int) (n : Int) : Nat → Int → (Int → Int) → Int → (Int → Int) × Int
  | 0, _, c, b => (c, b)
  | k + 1, r, c, b => if r < n ∧ b ≠ 0 then rR kn as rf n k (r + 1) (rP kn as rf n n.toNat 0 c 0).1 (rP kn as rf n n.toNat 0 c 0).2 else (c, b)
theorem rM_go {kn as : Int → Int → Int} {rf c : Int → Int} {p m b : Int} {k : Nat} (h : m < 7) : rM kn as rf p (k + 1) m c b = rM kn as rf p k (m + 1) (rxC c (kn m p) (as m p) (rf m)) (rxB c (kn m p) (as m p) (rf m) b) := if_pos h
theorem rM_no {kn as : Int → Int → Int} {rf c : Int → Int} {p m b : Int} {k : Nat} (h : ¬ m < 7) : rM kn as rf p k m c b = (c, b) := by cases k; rfl; exact if_neg h
theorem rP_go {kn as : Int → Int → Int} {rf c : Int → Int} {n p b : Int} {k : Nat} (h : p < n) : rP kn as rf n (k + 1) p c b = rP kn as rf n k (p + 1) (rM kn as rf p 7 0 c b).1 (rM kn as rf p 7 0 c b).2 := if_pos h
theorem rP_no {kn as : Int → Int → Int} {rf c : Int → Int} {n p b : Int} {k : Nat} (h : ¬ p < n) : rP kn as rf n k p c b = (c, b) := by cases k; rfl; exact if_neg h
theorem rR_go {kn as : Int → Int → Int} {rf c : Int → Int} {n p b : Int} {k : Nat} (h : p < n) (h2 : b ≠ 0) : rR kn as rf n (k + 1) p c b = rR kn as rf n k (p + 1) (rP kn as rf n n.toNat 0 c 0).1 (rP kn as rf n n.toNat 0 c 0).2 := if_pos ⟨h, h2⟩
theorem rR_no {kn as : Int → Int → Int} {rf c : Int → Int} {n p b : Int} {k : Nat} (h : ¬ (p < n ∧ b ≠ 0)) : rR kn as rf n k p c b = (c, b) := by cases k; rfl; exact if_neg h
theorem rxC_1 {c : Int → Int} {kn as pr : Int} (h : c kn + pr < c as) : rxC c kn as pr = zup c as (c kn + pr) := if_pos h
theorem rxC_2 {c : Int → Int} {kn as pr : Int} (h : ¬ c kn + pr < c as) : rxC c kn as pr = c := if_neg h
theorem rxB_1 {c : Int → Int} {kn as pr b : Int} (h : c kn + pr < c as) : rxB c kn as pr b = 1 := if_pos h
theorem rxB_2 {c : Int → Int} {kn as pr b : Int} (h : ¬ c kn + pr < c as) : rxB c kn as pr b = b := if_neg h
abbrev cIn (c : Int → Int) : Prop := ∀ j, 0 ≤ j → j < 60 → 0 ≤ c j ∧ c j ≤ 1000000
theorem cIn_up {c : Int → Int} {i v : Int} (h : cIn c) (hv : 0 ≤ v ∧ v ≤ 1000000) : cIn (zup c i v) := fun j h0 h1 => by unfold zup; split; exact hv; exact h j h0 h1
theorem cIn_fl (c : Int → Int) : cIn (ovr c 0 60 1000000) := fun j h0 h1 => by unfold ovr; rw [if_pos ⟨h0, h1⟩]; omega

def drN (c : Int → Int) (n : Int) : Nat → Int → Int → Int
  | 0, _, b => b
  | k + 1, p, b => if p < n then drN c n k (p + 1) (if c p > c b then p else b) else b
theorem drN_go {c : Int → Int} {n p b : Int} {k : Nat} (h : p < n) : drN c n (k + 1) p b = drN c n k (p + 1) (if c p > c b then p else b) := if_pos h
theorem drN_no {c : Int → Int} {n p b : Int} {k : Nat} (h : ¬ p < n) : drN c n k p b = b := by cases k; rfl; exact if_neg h

set_option maxRecDepth 100000 in
theorem m_X6_dearest (G : zG) {cs : List va_E} {w : Int → Int → Int} {co ro lo : Int → Int} {pl : Int} (X : isW G cs w co ro lo pl) : zMet G yX6_dearest cX6_dearest 3 (some .int) 0 0 [.ref (G.ad 45)] cs (zO (.int (iI (drN co pl 60 1 0))) cs) := by
  refine zMet.of (by decide) (Nat.le_of_ble_eq_true rfl) ?_
  intro E C R
  have C : zC G E RX6 cX6_dearest 3 0 0 := C
  show V G E 0 [some (.ref (G.ad 45)), none, none] [] cs
  obtain ⟨hW, hQ, hrow, hco, hro, hlo, rw0, rco, hp0, hp1⟩ := id X
  refine V_iconst C dX6_dearest_0 ?_
  refine V_istore_n C dX6_dearest_1 (by decide) rfl ?_
  refine V_iconst C dX6_dearest_2 ?_
  refine V_istore_n C dX6_dearest_3 (by decide) rfl ?_
  refine V_loop (α := Int × Int) (fun x => (100 - x.1).toNat) (fun x => 1 ≤ x.1 ∧ x.1 ≤ 60 ∧ 0 ≤ x.2 ∧ x.2 < 60 ∧ drN co pl (61 - x.1).toNat x.1 x.2 = drN co pl 60 1 0) (fun x => V G E 4 [some (.ref (G.ad 45)), some (.int (iI x.2)), some (.int (iI x.1))] [] cs) ?_ (1, 0) ⟨by omega, by omega, by omega, by omega, rfl⟩
  rintro ⟨p, b⟩ ⟨g1, g2, g3, g4, g5⟩ ih_4
  dsimp only at *
  refine V_iload_n C dX6_dearest_4 rfl ?_
  refine V_aload_n C dX6_dearest_5 rfl ?_
  refine vg_X6_32 C dX6_dearest_6 (by first | with_reducible assumption | exact hrow _ (by omega) (by omega)) rfl ?_
  refine V_icmp_ge (tgt := 35) C dX6_dearest_9 (by decide) (by omega) (by omega) (fun c_9 => ?_) (fun c_9 => ?_)
  · skip
    refine V_iload_n C dX6_dearest_35 rfl ?_
    exact V_iret C R dX6_dearest_36 (zO_i (by rw [← g5, drN_no (by omega)]))
  · skip
    refine V_aload_n C dX6_dearest_12 rfl ?_
    refine vg_X6_16 C dX6_dearest_13 (by first | with_reducible assumption | exact hrow _ (by omega) (by omega)) rfl ?_
    refine V_iload_n C dX6_dearest_16 rfl ?_
    refine V_iald C dX6_dearest_17 (by first | with_reducible assumption | exact hrow _ (by omega) (by omega)) (by omega) (by omega) (by decide) (by assumption) (fun r_17 => ?_)
    refine V_aload_n C dX6_dearest_18 rfl ?_
    refine vg_X6_16 C dX6_dearest_19 (by first | with_reducible assumption | exact hrow _ (by omega) (by omega)) rfl ?_
    refine V_iload_n C dX6_dearest_22 rfl ?_
    refine V_iald C dX6_dearest_23 (by first | with_reducible assumption | exact hrow _ (by omega) (by omega)) (by omega) (by omega) (by decide) (by assumption) (fun r_23 => ?_)
    refine V_icmp_le (tgt := 29) C dX6_dearest_24 (by decide) (by omega) (by omega) (fun c_24 => ?_) (fun c_24 => ?_)
    · skip
      refine V_iinc C dX6_dearest_29 rfl (by decide) rfl ?_
      refine V_goto (tgt := 4) C dX6_dearest_32 (by decide) ?_
      exact ih_4 (p + 1, _) ⟨by omega, by omega, by dsimp only; omega, by dsimp only; omega, by rw [← g5, show (61 - p).toNat = (61 - (p + 1)).toNat + 1 by omega, drN_go (by omega)]; first | rw [if_pos (by omega)] | rw [if_neg (by omega)]⟩ (by dsimp only; omega)
    · skip
      refine V_iload_n C dX6_dearest_27 rfl ?_
      refine V_istore_n C dX6_dearest_28 (by decide) rfl ?_
      refine V_iinc C dX6_dearest_29 rfl (by decide) rfl ?_
      refine V_goto (tgt := 4) C dX6_dearest_32 (by decide) ?_
      exact ih_4 (p + 1, _) ⟨by omega, by omega, by dsimp only; omega, by dsimp only; omega, by rw [← g5, show (61 - p).toNat = (61 - (p + 1)).toNat + 1 by omega, drN_go (by omega)]; first | rw [if_pos (by omega)] | rw [if_neg (by omega)]⟩ (by dsimp only; omega)

def foN (w : Int → Int → Int) (c rf : Int → Int) (p : Int) : Nat → Int → Int
  | 0, m => m
  | k + 1, m => if m < 6 ∧ c (w m p) + rf m ≠ c p then foN w c rf p k (m + 1) else m
theorem foN_go {w : Int → Int → Int} {c rf : Int → Int} {p m : Int} {k : Nat} (h : m < 6) (h2 : c (w m p) + rf m ≠ c p) : foN w c rf p (k + 1) m = foN w c rf p k (m + 1) := if_pos ⟨h, h2⟩
theorem foN_no {w : Int → Int → Int} {c rf : Int → Int} {p m : Int} {k : Nat} (h : ¬ (m < 6 ∧ c (w m p) + rf m ≠ c p)) : foN w c rf p k m = m := by cases k; rfl; exact if_neg h
theorem foN_in (w : Int → Int → Int) (c rf : Int → Int) (p : Int) : ∀ (k : Nat) (m : Int), 0 ≤ m → m ≤ 6 → 0 ≤ foN w c rf p k m ∧ foN w c rf p k m ≤ 6
  | 0, m, h, h2 => ⟨h, h2⟩
  | k + 1, m, h, h2 => by
    rw [foN]
    split
    · exact foN_in w c rf p k (m + 1) (by omega) (by omega)
    · exact ⟨h, h2⟩

set_option maxRecDepth 100000 in
theorem m_X6_firstOnWay (G : zG) {cs : List va_E} {w : Int → Int → Int} {co ro lo : Int → Int} {pl : Int} (X : isW G cs w co ro lo pl) {rf : Int → Int} (hr : cs[16]? = some (zI G 7 rf)) (hrf : ∀ j, 1 ≤ rf j ∧ rf j ≤ 9) (hwr : ∀ m p, 0 ≤ m → m < 7 → 0 ≤ p → p < pl → 0 ≤ w m p ∧ w m p < pl) (hcb : cIn co) {p : Int} (hp : 0 ≤ p ∧ p < pl) : zMet G yX6_firstOnWay cX6_firstOnWay 4 (some .int) 0 0 [.ref (G.ad 45), .int (iI p), .ref (G.ad 16)] cs (zO (.int (iI (foN w co rf p 7 0))) cs) := by
  refine zMet.of (by decide) (Nat.le_of_ble_eq_true rfl) ?_
  intro E C R
  have C : zC G E RX6 cX6_firstOnWay 4 0 0 := C
  show V G E 0 [some (.ref (G.ad 45)), some (.int (iI p)), some (.ref (G.ad 16)), none] [] cs
  obtain ⟨hW, hQ, hrow, hco, hro, hlo, rw0, rco, hp0, hp1⟩ := id X
  have rrf : ∀ j, rng (rf j) := fun j => by have := hrf j; omega
  refine V_iconst C dX6_firstOnWay_0 ?_
  refine V_istore_n C dX6_firstOnWay_1 (by decide) rfl ?_
  refine V_loop (α := Int) (fun x => (20 - x).toNat) (fun x => 0 ≤ x ∧ x ≤ 6 ∧ foN w co rf p (7 - x).toNat x = foN w co rf p 7 0) (fun x => V G E 2 [some (.ref (G.ad 45)), some (.int (iI p)), some (.ref (G.ad 16)), some (.int (iI x))] [] cs) ?_ 0 ⟨by omega, by omega, rfl⟩
  rintro m ⟨g1, g2, g3⟩ ih_2
  have hwm := hwr m p g1 (by omega) hp.1 hp.2
  have hc1 := hcb (w m p) hwm.1 (by omega)
  have hc2 := hcb p hp.1 (by omega)
  have hc3 := hrf m
  refine V_iload_n C dX6_firstOnWay_2 rfl ?_
  refine V_bipush C dX6_firstOnWay_3 (by decide) ?_
  refine V_icmp_ge (tgt := 40) C dX6_firstOnWay_5 (by decide) (by omega) (by omega) (fun c_5 => ?_) (fun c_5 => ?_)
  · skip
    refine V_iload_n C dX6_firstOnWay_40 rfl ?_
    exact V_iret C R dX6_firstOnWay_41 (zO_i (by rw [← g3, foN_no (by omega)]))
  · skip
    refine V_aload_n C dX6_firstOnWay_8 rfl ?_
    refine vg_X6_16 C dX6_firstOnWay_9 (by first | with_reducible assumption | exact hrow _ (by omega) (by omega)) rfl ?_
    refine V_aload_n C dX6_firstOnWay_12 rfl ?_
    refine vg_X6_11 C dX6_firstOnWay_13 (by first | with_reducible assumption | exact hrow _ (by omega) (by omega)) rfl ?_
    refine V_iload_n C dX6_firstOnWay_16 rfl ?_
    refine V_aaldW C dX6_firstOnWay_17 hQ (by omega) (by omega) ?_
    refine V_iload_n C dX6_firstOnWay_18 rfl ?_
    refine V_iald C dX6_firstOnWay_19 (by first | with_reducible assumption | exact hrow _ (by omega) (by omega)) (by omega) (by omega) (by decide) (by first | assumption | exact rw0 _) (fun r_19 => ?_)
    refine V_iald C dX6_firstOnWay_20 (by first | with_reducible assumption | exact hrow _ (by omega) (by omega)) (by omega) (by omega) (by decide) (by first | assumption | exact rw0 _) (fun r_20 => ?_)
    refine V_aload_n C dX6_firstOnWay_21 rfl ?_
    refine V_iload_n C dX6_firstOnWay_22 rfl ?_
    refine V_iald C dX6_firstOnWay_23 (by first | with_reducible assumption | exact hrow _ (by omega) (by omega)) (by omega) (by omega) (by decide) (by first | assumption | exact rw0 _) (fun r_23 => ?_)
    refine V_iadd C dX6_firstOnWay_24 ?_
    refine V_aload_n C dX6_firstOnWay_25 rfl ?_
    refine vg_X6_16 C dX6_firstOnWay_26 (by first | with_reducible assumption | exact hrow _ (by omega) (by omega)) rfl ?_
    refine V_iload_n C dX6_firstOnWay_29 rfl ?_
    refine V_iald C dX6_firstOnWay_30 (by first | with_reducible assumption | exact hrow _ (by omega) (by omega)) (by omega) (by omega) (by decide) (by first | assumption | exact rw0 _) (fun r_30 => ?_)
    refine V_icmp_eq (tgt := 40) C dX6_firstOnWay_31 (by decide) (by omega) (by omega) (fun c_31 => ?_) (fun c_31 => ?_)
    · skip
      refine V_iload_n C dX6_firstOnWay_40 rfl ?_
      exact V_iret C R dX6_firstOnWay_41 (zO_i (by rw [← g3, foN_no (by omega)]))
    · skip
      refine V_iinc C dX6_firstOnWay_34 rfl (by decide) rfl ?_
      refine V_goto (tgt := 2) C dX6_firstOnWay_37 (by decide) ?_
      exact ih_2 (m + 1) ⟨by omega, by omega, by rw [← g3, show (7 - m).toNat = (7 - (m + 1)).toNat + 1 by omega, foN_go (by omega) (by omega)]⟩ (by omega)

/-- the k-th step; for -1 how many there are -/
def stN (w : Int → Int → Int) (c rf : Int → Int) (n t k : Int) : Nat → Int → Int → Int
  | 0, _, a => if k = -1 then a else -4
  | j + 1, p, a => if p ≠ t ∧ a < n then (if a = k then foN w c rf p 7 0 else stN w c rf n t k j (w (foN w c rf p 7 0) p) (a + 1)) else if k = -1 then a else -4
theorem stN_go {w : Int → Int → Int} {c rf : Int → Int} {n t k p a : Int} {j : Nat} (h : p ≠ t) (h2 : a < n) (h3 : a ≠ k) : stN w c rf n t k (j + 1) p a = stN w c rf n t k j (w (foN w c rf p 7 0) p) (a + 1) := by rw [stN, if_pos ⟨h, h2⟩, if_neg h3]
theorem stN_at {w : Int → Int → Int} {c rf : Int → Int} {n t k p a : Int} {j : Nat} (h : p ≠ t) (h2 : a < n) (h3 : a = k) : stN w c rf n t k (j + 1) p a = foN w c rf p 7 0 := by rw [stN, if_pos ⟨h, h2⟩, if_pos h3]
theorem stN_no {w : Int → Int → Int} {c rf : Int → Int} {n t k p a : Int} {j : Nat} (h : ¬ (p ≠ t ∧ a < n)) : stN w c rf n t k j p a = if k = -1 then a else -4 := by
  cases j with
  | zero => rfl
  | succ j => rw [stN, if_neg h]

set_option maxRecDepth 100000 in
theorem m_X6_stepOf (G : zG) {cs : List va_E} {w : Int → Int → Int} {co ro lo : Int → Int} {pl : Int} (X : isW G cs w co ro lo pl) {rf : Int → Int} (hr : cs[16]? = some (zI G 7 rf)) (hrf : ∀ j, 1 ≤ rf j ∧ rf j ≤ 9) (hwr : ∀ m p, 0 ≤ m → m < 7 → 0 ≤ p → p < pl → 0 ≤ w m p ∧ w m p < pl) (hcb : cIn co) {s t k : Int} (hs : 0 ≤ s ∧ s < pl) (ht : 0 ≤ t ∧ t < pl) (hk : rng k) : zMet G yX6_stepOf cX6_stepOf 8 (some .int) 1 23 [.ref (G.ad 45), .int (iI s), .int (iI t), .int (iI k), .ref (G.ad 16)] cs (zO (.int (iI (stN w co rf pl t k 61 s 0))) cs) := by
  refine zMet.of (by decide) (Nat.le_of_ble_eq_true rfl) ?_
  intro E C R
  have C : zC G E RX6 cX6_stepOf 8 1 23 := C
  show V G E 0 [some (.ref (G.ad 45)), some (.int (iI s)), some (.int (iI t)), some (.int (iI k)), some (.ref (G.ad 16)), none, none, none] [] cs
  obtain ⟨hW, hQ, hrow, hco, hro, hlo, rw0, rco, hp0, hp1⟩ := id X
  have rrf : ∀ j, rng (rf j) := fun j => by have := hrf j; omega
  refine V_iload_n C dX6_stepOf_0 rfl ?_
  refine V_istore C dX6_stepOf_1 (by decide) rfl ?_
  refine V_iconst C dX6_stepOf_3 ?_
  refine V_istore C dX6_stepOf_4 (by decide) rfl ?_
  refine V_loop (α := Int × Int) (fun x => (100 - x.2).toNat) (fun x => 0 ≤ x.1 ∧ x.1 < pl ∧ 0 ≤ x.2 ∧ x.2 ≤ 60 ∧ stN w co rf pl t k (61 - x.2).toNat x.1 x.2 = stN w co rf pl t k 61 s 0) (fun x => V G E 6 [some (.ref (G.ad 45)), some (.int (iI s)), some (.int (iI t)), some (.int (iI k)), some (.ref (G.ad 16)), some (.int (iI x.1)), some (.int (iI x.2)), none] [] cs) ?_ (s, 0) ⟨by omega, by omega, by omega, by omega, rfl⟩
  rintro ⟨p, a⟩ ⟨g1, g2, g3, g4, g5⟩ ih_6
  dsimp only at *
  have hfo := foN_in w co rf p 7 0 (by decide) (by decide)
  have hwm := hwr (foN w co rf p 7 0) p hfo.1 (by omega) g1 g2
  refine V_iload C dX6_stepOf_6 rfl ?_
  refine V_iload_n C dX6_stepOf_8 rfl ?_
  refine V_icmp_eq (tgt := 58) C dX6_stepOf_9 (by decide) (by omega) (by omega) (fun c_9 => ?_) (fun c_9 => ?_)
  · skip
    refine V_iload_n C dX6_stepOf_58 rfl ?_
    refine V_iconst C dX6_stepOf_59 ?_
    refine V_icmp_ne (tgt := 68) C dX6_stepOf_60 (by decide) (by omega) (by omega) (fun c_60 => ?_) (fun c_60 => ?_)
    · skip
      refine V_bipush C dX6_stepOf_68 (by decide) ?_
      exact V_iret C R dX6_stepOf_70 (zO_i (by rw [← g5, stN_no (by omega)]; first | rw [if_pos (by omega)] | rw [if_neg (by omega)]))
    · skip
      refine V_iload C dX6_stepOf_63 rfl ?_
      refine V_goto (tgt := 70) C dX6_stepOf_65 (by decide) ?_
      exact V_iret C R dX6_stepOf_70 (zO_i (by rw [← g5, stN_no (by omega)]; first | rw [if_pos (by omega)] | rw [if_neg (by omega)]))
  · skip
    refine V_iload C dX6_stepOf_12 rfl ?_
    refine V_aload_n C dX6_stepOf_14 rfl ?_
    refine vg_X6_32 C dX6_stepOf_15 (by first | with_reducible assumption | exact hrow _ (by omega) (by omega)) rfl ?_
    refine V_icmp_ge (tgt := 58) C dX6_stepOf_18 (by decide) (by omega) (by omega) (fun c_18 => ?_) (fun c_18 => ?_)
    · skip
      refine V_iload_n C dX6_stepOf_58 rfl ?_
      refine V_iconst C dX6_stepOf_59 ?_
      refine V_icmp_ne (tgt := 68) C dX6_stepOf_60 (by decide) (by omega) (by omega) (fun c_60 => ?_) (fun c_60 => ?_)
      · skip
        refine V_bipush C dX6_stepOf_68 (by decide) ?_
        exact V_iret C R dX6_stepOf_70 (zO_i (by rw [← g5, stN_no (by omega)]; first | rw [if_pos (by omega)] | rw [if_neg (by omega)]))
      · skip
        refine V_iload C dX6_stepOf_63 rfl ?_
        refine V_goto (tgt := 70) C dX6_stepOf_65 (by decide) ?_
        exact V_iret C R dX6_stepOf_70 (zO_i (by rw [← g5, stN_no (by omega)]; first | rw [if_pos (by omega)] | rw [if_neg (by omega)]))
    · skip
      refine V_aload_n C dX6_stepOf_21 rfl ?_
      refine V_iload C dX6_stepOf_22 rfl ?_
      refine V_aload C dX6_stepOf_24 rfl ?_
      refine V_callV C lk_X6_47 (m_X6_firstOnWay G X hr hrf hwr hcb (by omega)) dX6_stepOf_26 rfl rfl (by first | with_reducible assumption | exact hrow _ (by omega) (by omega)) rfl (by decide) (Nat.le_of_ble_eq_true rfl) (kO ?_)
      refine V_istore C dX6_stepOf_29 (by decide) rfl ?_
      refine V_iload C dX6_stepOf_31 rfl ?_
      refine V_iload_n C dX6_stepOf_33 rfl ?_
      refine V_icmp_ne (tgt := 40) C dX6_stepOf_34 (by decide) (by omega) (by omega) (fun c_34 => ?_) (fun c_34 => ?_)
      · skip
        refine V_aload_n C dX6_stepOf_40 rfl ?_
        refine vg_X6_11 C dX6_stepOf_41 (by first | with_reducible assumption | exact hrow _ (by omega) (by omega)) rfl ?_
        refine V_iload C dX6_stepOf_44 rfl ?_
        refine V_aaldW C dX6_stepOf_46 hQ (by omega) (by omega) ?_
        refine V_iload C dX6_stepOf_47 rfl ?_
        refine V_iald C dX6_stepOf_49 (by first | with_reducible assumption | exact hrow _ (by omega) (by omega)) (by omega) (by omega) (by decide) (rw0 _) (fun r_49 => ?_)
        refine V_istore C dX6_stepOf_50 (by decide) rfl ?_
        refine V_iinc C dX6_stepOf_52 rfl (by decide) rfl ?_
        refine V_goto (tgt := 6) C dX6_stepOf_55 (by decide) ?_
        refine V_drop 7 ?_
        exact ih_6 (_, a + 1) ⟨hwm.1, hwm.2, by dsimp only; omega, by dsimp only; omega, by rw [← g5, show (61 - a).toNat = (61 - (a + 1)).toNat + 1 by omega, stN_go (by omega) (by omega) (by omega)]⟩ (by dsimp only; omega)
      · skip
        refine V_iload C dX6_stepOf_37 rfl ?_
        exact V_iret C R dX6_stepOf_39 (zO_i (by rw [← g5, show (61 - a).toNat = (61 - (a + 1)).toNat + 1 by omega, stN_at (by omega) (by omega) (by omega)]))

set_option maxRecDepth 100000 in
theorem m_X6_survey (G : zG) {cs : List va_E} {w : Int → Int → Int} {co ro lo : Int → Int} {pl : Int} (X : isW G cs w co ro lo pl) {f : Int → Int} {L c : Int} (T : isT G cs 1 2 f L c) : zMet G yX6_survey cX6_survey 4 none 4 93 [.ref (G.ad 45), .ref (G.ad 1)] cs (fun r cs2 => r = none ∧ (smO cs cs2 ∧ ∃ w2, isW G cs2 w2 co ro lo (la L + 1) ∧ ∀ m p, 0 ≤ m → m < 7 → 0 ≤ p → p ≤ la L → w2 m p = dd f L m p)) := by
  refine zMet.of (by decide) (Nat.le_of_ble_eq_true rfl) ?_
  intro E C R
  have C : zC G E RX6 cX6_survey 4 4 93 := C
  show V G E 0 [some (.ref (G.ad 45)), some (.ref (G.ad 1)), none, none] [] cs
  obtain ⟨hW, hQ, hrow, hco, hro, hlo, rw0, rco, hp0, hp1⟩ := id X
  obtain ⟨ti, tj, hf, hL0, hL1⟩ := id T
  have hla := la_in hL0
  refine V_aload_n C dX6_survey_0 rfl ?_
  refine V_aload_n C dX6_survey_1 rfl ?_
  refine V_callN C lk_X6_26 (m_X5_last G T) dX6_survey_2 rfl rfl (by first | with_reducible assumption | exact zs_eq (by with_reducible assumption) | exact (h4.T T).1 | exact h3.2.2.1 _ (by omega) (by omega)) rfl (by decide) (Nat.le_of_ble_eq_true rfl) (kO ?_)
  refine V_iconst C dX6_survey_5 ?_
  refine V_iadd C dX6_survey_6 ?_
  refine vp_X6_32 C dX6_survey_7 (by first | with_reducible assumption | exact zs_eq (by with_reducible assumption) | exact (h4.T T).1 | exact h3.2.2.1 _ (by omega) (by omega)) (Nat.le_of_ble_eq_true rfl) ?_
  have h3 : isW G (cs.set 45 (oW G (la L + 1))) w co ro lo (la L + 1) := X.pl (by omega)
  have h4 : smO cs (cs.set 45 (oW G (la L + 1))) := smO.rf.st (by decide) (by decide)
  change V G E 10 [some (.ref (G.ad 45)), some (.ref (G.ad 1)), none, none] [] (cs.set 45 (oW G (la L + 1)))
  generalize cs.set 45 (oW G (la L + 1)) = cs1 at h3 h4 ⊢
  refine V_iconst C dX6_survey_10 ?_
  refine V_istore_n C dX6_survey_11 (by decide) rfl ?_
  refine V_loop (α := Int × List va_E × (Int → Int → Int)) (fun x => (20 - x.1).toNat) (fun x => 0 ≤ x.1 ∧ x.1 ≤ 7 ∧ isW G x.2.1 x.2.2 co ro lo (la L + 1) ∧ smO cs x.2.1 ∧ ∀ m p, 0 ≤ m → m < x.1 → 0 ≤ p → p ≤ la L → x.2.2 m p = dd f L m p) (fun x => V G E 12 [some (.ref (G.ad 45)), some (.ref (G.ad 1)), some (.int (iI x.1)), none] [] x.2.1) ?_ (0, cs1, w) ⟨Int.le_refl 0, (show (0 : Int) ≤ 7 by decide), h3, h4, fun m p h5 h6 => absurd h6 (by omega)⟩
  rintro ⟨m, cs3, w3⟩ ⟨g1, g2, h3, h4, g5⟩ ih_12
  dsimp only at g1 g2 h3 h4 g5 ⊢
  have h45 := h3.1
  refine V_iload_n C dX6_survey_12 rfl ?_
  refine V_bipush C dX6_survey_13 (by decide) ?_
  refine V_icmp_ge (tgt := 54) C dX6_survey_15 (by decide) (by omega) (by omega) (fun c_15 => ?_) (fun c_15 => ?_)
  · skip
    exact V_vret C R dX6_survey_54 ⟨rfl, h4, w3, h3, fun i p h5 h6 h7 h8 => g5 i p h5 (by omega) h7 h8⟩
  · skip
    refine V_iconst C dX6_survey_18 ?_
    refine V_istore_n C dX6_survey_19 (by decide) rfl ?_
    refine V_loop (α := Int × List va_E × (Int → Int → Int)) (fun x => (200 - x.1).toNat) (fun x => 0 ≤ x.1 ∧ x.1 ≤ la L + 1 ∧ isW G x.2.1 x.2.2 co ro lo (la L + 1) ∧ smO cs x.2.1 ∧ (∀ i p, 0 ≤ i → i < m → 0 ≤ p → p ≤ la L → x.2.2 i p = dd f L i p) ∧ ∀ p, 0 ≤ p → p < x.1 → x.2.2 m p = dd f L m p) (fun x => V G E 20 [some (.ref (G.ad 45)), some (.ref (G.ad 1)), some (.int (iI m)), some (.int (iI x.1))] [] x.2.1) ?_ (0, cs3, w3) ⟨Int.le_refl 0, (show 0 ≤ la L + 1 by omega), h3, h4, g5, fun p h5 h6 => absurd h6 (by omega)⟩
    rintro ⟨p, cs4, w4⟩ ⟨k0, k1, h3, h4, k2, k3⟩ ih_20
    dsimp only at k0 k1 h3 h4 k2 k3 ⊢
    have h45 := h3.1
    refine V_iload_n C dX6_survey_20 rfl ?_
    refine V_aload_n C dX6_survey_21 rfl ?_
    refine vg_X6_32 C dX6_survey_22 (by first | with_reducible assumption | exact zs_eq (by with_reducible assumption) | exact (h4.T T).1 | exact h3.2.2.1 _ (by omega) (by omega)) rfl ?_
    refine V_icmp_ge (tgt := 48) C dX6_survey_25 (by decide) (by omega) (by omega) (fun c_25 => ?_) (fun c_25 => ?_)
    · skip
      refine V_iinc C dX6_survey_48 rfl (by decide) rfl ?_
      refine V_goto (tgt := 12) C dX6_survey_51 (by decide) ?_
      refine V_drop 3 ?_
      exact ih_12 (m + 1, cs4, w4) ⟨(show 0 ≤ m + 1 by omega), (show m + 1 ≤ 7 by omega), h3, h4, fun i p h5 h6 h7 h8 => by
          rcases (show i < m ∨ i = m by omega) with q | q
          · exact k2 i p h5 q h7 h8
          · rw [q]; exact k3 p h7 (by omega)⟩ (show (20 - (m + 1)).toNat < (20 - m).toNat by omega)
    · skip
      refine V_aload_n C dX6_survey_28 rfl ?_
      refine vg_X6_11 C dX6_survey_29 (by first | with_reducible assumption | exact zs_eq (by with_reducible assumption) | exact (h4.T T).1 | exact h3.2.2.1 _ (by omega) (by omega)) rfl ?_
      refine V_iload_n C dX6_survey_32 rfl ?_
      refine V_aaldW C dX6_survey_33 h3.2.1 (by omega) (by omega) ?_
      refine V_iload_n C dX6_survey_34 rfl ?_
      refine V_aload_n C dX6_survey_35 rfl ?_
      refine V_iload_n C dX6_survey_36 rfl ?_
      refine V_iload_n C dX6_survey_37 rfl ?_
      refine V_callN C lk_X6_36 (m_X5_deed G (h4.T T) (by omega) (by omega)) dX6_survey_38 rfl rfl (by first | with_reducible assumption | exact zs_eq (by with_reducible assumption) | exact (h4.T T).1 | exact h3.2.2.1 _ (by omega) (by omega)) rfl (by decide) (Nat.le_of_ble_eq_true rfl) (kO ?_)
      refine V_iast C dX6_survey_41 (by first | with_reducible assumption | exact zs_eq (by with_reducible assumption) | exact (h4.T T).1 | exact h3.2.2.1 _ (by omega) (by omega)) (by omega) (by omega) (by decide) ?_
      refine V_iinc C dX6_survey_42 rfl (by decide) rfl ?_
      refine V_goto (tgt := 20) C dX6_survey_45 (by decide) ?_
      have hdd := dd_in (f := f) (m := m) k0 (show p ≤ L by omega)
      exact ih_20 (p + 1, cs4.set (47 + m.toNat) (zI G 60 (zup (w4 m) p (dd f L m p))), wup w4 m p (dd f L m p)) ⟨(show 0 ≤ p + 1 by omega), (show p + 1 ≤ la L + 1 by omega), h3.w g1 (by omega) (by omega), h4.st (by omega) (by omega), fun i j h5 h6 h7 h8 => by show wup w4 m p (dd f L m p) i j = _; rw [wup_at, if_neg (by omega)]; exact k2 i j h5 h6 h7 h8, fun j h5 h6 => by
          show wup w4 m p (dd f L m p) m j = _
          rw [wup_at]
          by_cases e : j = p
          · rw [if_pos ⟨rfl, e⟩, e]
          · rw [if_neg (fun q => e q.2)]; exact k3 j h5 (by change j < p + 1 at h6; omega)⟩ (show (200 - (p + 1)).toNat < (200 - p).toNat by omega)

set_option maxRecDepth 100000 in
theorem m_X6_reckon (G : zG) {cs : List va_E} {w : Int → Int → Int} {co ro lo : Int → Int} {pl : Int} (X : isW G cs w co ro lo pl) {rf : Int → Int} (hr : cs[16]? = some (zI G 7 rf)) (hrf : ∀ j, 1 ≤ rf j ∧ rf j ≤ 9) (hwr : ∀ m p, 0 ≤ m → m < 7 → 0 ≤ p → p < pl → 0 ≤ w m p ∧ w m p < pl) {t tw : Int} (ht : 0 ≤ t ∧ t < pl) (htw : tw = 0 ∨ tw = 1) : zMet G yX6_reckon cX6_reckon 11 none 1 23 [.ref (G.ad 45), .int (iI t), .int (iI tw), .ref (G.ad 16)] cs (fun r cs2 => r = none ∧ (cs2 = cs.set 54 (zI G 60 (rR (knW tw w) (asW tw w) rf pl 60 0 (zup (ovr co 0 60 1000000) t 0) 1).1) ∧ (∀ j, rng ((rR (knW tw w) (asW tw w) rf pl 60 0 (zup (ovr co 0 60 1000000) t 0) 1).1 j)) ∧ cIn (rR (knW tw w) (asW tw w) rf pl 60 0 (zup (ovr co 0 60 1000000) t 0) 1).1)) := by
  refine zMet.of (by decide) (Nat.le_of_ble_eq_true rfl) ?_
  intro E C R
  have C : zC G E RX6 cX6_reckon 11 1 23 := C
  show V G E 0 [some (.ref (G.ad 45)), some (.int (iI t)), some (.int (iI tw)), some (.ref (G.ad 16)), none, none, none, none, none, none, none] [] cs
  obtain ⟨hW, hQ, hrow, hco, hro, hlo, rw0, rco, hp0, hp1⟩ := id X
  have rrf : ∀ j, rng (rf j) := fun j => by have := hrf j; omega
  refine V_aload_n C dX6_reckon_0 rfl ?_
  refine vg_X6_16 C dX6_reckon_1 (by first | with_reducible assumption | exact zs_eq (by first | exact zs_lt hco | (rw [List.length_set]; exact zs_lt hco)) | exact zs_ne (by decide) (by assumption) | exact q3 _ (by omega) (by omega)) rfl ?_
  refine V_ldc C wk_X6_40 dX6_reckon_4 ?_
  refine V_callS C lk_X6_41 (m_fillI G (i := 54) (n := 60) (g := co) (v := 1000000) hco (by decide)) dX6_reckon_6 rfl rfl (by decide) (Nat.le_of_ble_eq_true rfl) (kO0 ?_)
  refine V_aload_n C dX6_reckon_9 rfl ?_
  refine vg_X6_16 C dX6_reckon_10 (by first | with_reducible assumption | exact zs_eq (by first | exact zs_lt hco | (rw [List.length_set]; exact zs_lt hco)) | exact zs_ne (by decide) (by assumption) | exact q3 _ (by omega) (by omega)) rfl ?_
  refine V_iload_n C dX6_reckon_13 rfl ?_
  refine V_iconst C dX6_reckon_14 ?_
  refine V_iast C dX6_reckon_15 (by first | with_reducible assumption | exact zs_eq (by first | exact zs_lt hco | (rw [List.length_set]; exact zs_lt hco)) | exact zs_ne (by decide) (by assumption) | exact q3 _ (by omega) (by omega)) (by omega) (by omega) (by decide) ?_
  rw [List.set_set]
  refine V_iconst C dX6_reckon_16 ?_
  refine V_istore C dX6_reckon_17 (by decide) rfl ?_
  refine V_iconst C dX6_reckon_19 ?_
  refine V_istore C dX6_reckon_20 (by decide) rfl ?_
  refine V_loop (α := Int × Int × (Int → Int)) (fun x => (200 - x.1).toNat) (fun x => 0 ≤ x.1 ∧ x.1 ≤ pl ∧ rng x.2.1 ∧ cIn x.2.2 ∧ (∀ j, rng (x.2.2 j)) ∧ rR (knW tw w) (asW tw w) rf pl (60 - x.1).toNat x.1 x.2.2 x.2.1 = rR (knW tw w) (asW tw w) rf pl 60 0 (zup (ovr co 0 60 1000000) t 0) 1) (fun x => V G E 22 [some (.ref (G.ad 45)), some (.int (iI t)), some (.int (iI tw)), some (.ref (G.ad 16)), some (.int (iI x.2.1)), some (.int (iI x.1)), none, none, none, none, none] [] (cs.set 54 (zI G 60 x.2.2))) ?_ (0, 1, (zup (ovr co 0 60 1000000) t 0)) ⟨Int.le_refl 0, (show 0 ≤ pl by omega), (show rng 1 by decide), cIn_up (cIn_fl co) (by decide), zup_rng (ovr_rng rco (by decide)) (by decide), rfl⟩
  rintro ⟨r, b, c⟩ ⟨g1, g2, g3, g4, rc, g6⟩ ih_22
  dsimp only at g1 g2 g3 g4 rc g6 ⊢
  have h3 : isW G (cs.set 54 (zI G 60 c)) w c ro lo pl := X.co rc
  have h16 : (cs.set 54 (zI G 60 c))[16]? = some (zI G 7 rf) := zs_ne (by decide) hr
  obtain ⟨q1, q2, q3, q4, -, -, -, -, -, -⟩ := id h3
  refine V_iload C dX6_reckon_22 rfl ?_
  refine V_aload_n C dX6_reckon_24 rfl ?_
  refine vg_X6_32 C dX6_reckon_25 (by first | with_reducible assumption | exact zs_eq (by first | exact zs_lt hco | (rw [List.length_set]; exact zs_lt hco)) | exact zs_ne (by decide) (by assumption) | exact q3 _ (by omega) (by omega)) rfl ?_
  refine V_icmp_ge (tgt := 161) C dX6_reckon_28 (by decide) (by omega) (by omega) (fun c_28 => ?_) (fun c_28 => ?_)
  · skip
    exact V_vret C R dX6_reckon_161 (by rw [← g6, rR_no (by omega)]; exact ⟨rfl, rfl, rc, g4⟩)
  · skip
    refine V_iload C dX6_reckon_31 rfl ?_
    refine V_if_eq (tgt := 161) C dX6_reckon_33 (by decide) (by omega) (fun c_33 => ?_) (fun c_33 => ?_)
    · skip
      exact V_vret C R dX6_reckon_161 (by rw [← g6, rR_no (by omega)]; exact ⟨rfl, rfl, rc, g4⟩)
    · skip
      refine V_iconst C dX6_reckon_36 ?_
      refine V_istore C dX6_reckon_37 (by decide) rfl ?_
      refine V_iconst C dX6_reckon_39 ?_
      refine V_istore C dX6_reckon_40 (by decide) rfl ?_
      refine V_loop (α := Int × Int × (Int → Int)) (fun x => (200 - x.1).toNat) (fun x => 0 ≤ x.1 ∧ x.1 ≤ pl ∧ rng x.2.1 ∧ cIn x.2.2 ∧ (∀ j, rng (x.2.2 j)) ∧ rP (knW tw w) (asW tw w) rf pl (pl - x.1).toNat x.1 x.2.2 x.2.1 = rP (knW tw w) (asW tw w) rf pl pl.toNat 0 c 0) (fun x => V G E 42 [some (.ref (G.ad 45)), some (.int (iI t)), some (.int (iI tw)), some (.ref (G.ad 16)), some (.int (iI x.2.1)), some (.int (iI r)), some (.int (iI x.1)), none, none, none, none] [] (cs.set 54 (zI G 60 x.2.2))) ?_ (0, 0, c) ⟨Int.le_refl 0, (show 0 ≤ pl by omega), (show rng 0 by decide), g4, rc, by simp⟩
      rintro ⟨p, b1, c1⟩ ⟨k1, k2, k3, k4, rc, k6⟩ ih_42
      dsimp only at k1 k2 k3 k4 rc k6 ⊢
      have h3 : isW G (cs.set 54 (zI G 60 c1)) w c1 ro lo pl := X.co rc
      have h16 : (cs.set 54 (zI G 60 c1))[16]? = some (zI G 7 rf) := zs_ne (by decide) hr
      obtain ⟨q1, q2, q3, q4, -, -, -, -, -, -⟩ := id h3
      refine V_iload C dX6_reckon_42 rfl ?_
      refine V_aload_n C dX6_reckon_44 rfl ?_
      refine vg_X6_32 C dX6_reckon_45 (by first | with_reducible assumption | exact zs_eq (by first | exact zs_lt hco | (rw [List.length_set]; exact zs_lt hco)) | exact zs_ne (by decide) (by assumption) | exact q3 _ (by omega) (by omega)) rfl ?_
      refine V_icmp_ge (tgt := 155) C dX6_reckon_48 (by decide) (by omega) (by omega) (fun c_48 => ?_) (fun c_48 => ?_)
      · skip
        refine V_iinc C dX6_reckon_155 rfl (by decide) rfl ?_
        refine V_goto (tgt := 22) C dX6_reckon_158 (by decide) ?_
        refine V_drop 6 ?_
        exact ih_22 (r + 1, b1, c1) ⟨(show 0 ≤ r + 1 by omega), (show r + 1 ≤ pl by omega), k3, k4, rc, (show rR (knW tw w) (asW tw w) rf pl (60 - (r + 1)).toNat (r + 1) c1 b1 = _ by rw [← g6, show (60 - r).toNat = (60 - (r + 1)).toNat + 1 by omega, rR_go (by omega) (by omega), ← k6, rP_no (by omega)])⟩ (show (200 - (r + 1)).toNat < (200 - r).toNat by omega)
      · skip
        refine V_iconst C dX6_reckon_51 ?_
        refine V_istore C dX6_reckon_52 (by decide) rfl ?_
        refine V_loop (α := Int × Int × (Int → Int)) (fun x => (20 - x.1).toNat) (fun x => 0 ≤ x.1 ∧ x.1 ≤ 7 ∧ rng x.2.1 ∧ cIn x.2.2 ∧ (∀ j, rng (x.2.2 j)) ∧ rM (knW tw w) (asW tw w) rf p (7 - x.1).toNat x.1 x.2.2 x.2.1 = rM (knW tw w) (asW tw w) rf p 7 0 c1 b1) (fun x => V G E 54 [some (.ref (G.ad 45)), some (.int (iI t)), some (.int (iI tw)), some (.ref (G.ad 16)), some (.int (iI x.2.1)), some (.int (iI r)), some (.int (iI p)), some (.int (iI x.1)), none, none, none] [] (cs.set 54 (zI G 60 x.2.2))) ?_ (0, b1, c1) ⟨Int.le_refl 0, (show (0 : Int) ≤ 7 by decide), k3, k4, rc, rfl⟩
        rintro ⟨m, b2, c2⟩ ⟨j1, j2, j3, j4, rc, j6⟩ ih_54
        dsimp only at j1 j2 j3 j4 rc j6 ⊢
        have h3 : isW G (cs.set 54 (zI G 60 c2)) w c2 ro lo pl := X.co rc
        have h16 : (cs.set 54 (zI G 60 c2))[16]? = some (zI G 7 rf) := zs_ne (by decide) hr
        obtain ⟨q1, q2, q3, q4, -, -, -, -, -, -⟩ := id h3
        have hwm : m < 7 → p < pl → 0 ≤ w m p ∧ w m p < pl := fun h1 h2 => hwr m p j1 h1 k1 h2
        have hkn : m < 7 → p < pl → 0 ≤ knW tw w m p ∧ knW tw w m p < pl := fun h1 h2 => by have := hwm h1 h2; unfold knW; split <;> omega
        have has : m < 7 → p < pl → 0 ≤ asW tw w m p ∧ asW tw w m p < pl := fun h1 h2 => by have := hwm h1 h2; unfold asW; split <;> omega
        have hrm := hrf m
        refine V_iload C dX6_reckon_54 rfl ?_
        refine V_bipush C dX6_reckon_56 (by decide) ?_
        refine V_icmp_ge (tgt := 149) C dX6_reckon_58 (by decide) (by omega) (by omega) (fun c_58 => ?_) (fun c_58 => ?_)
        · skip
          refine V_iinc C dX6_reckon_149 rfl (by decide) rfl ?_
          refine V_goto (tgt := 42) C dX6_reckon_152 (by decide) ?_
          refine V_drop 7 ?_
          exact ih_42 (p + 1, b2, c2) ⟨(show 0 ≤ p + 1 by omega), (show p + 1 ≤ pl by omega), j3, j4, rc, (show rP (knW tw w) (asW tw w) rf pl (pl - (p + 1)).toNat (p + 1) c2 b2 = _ by rw [← k6, show (pl - p).toNat = (pl - (p + 1)).toNat + 1 by omega, rP_go (by omega), ← j6, rM_no (by omega)])⟩ (show (200 - (p + 1)).toNat < (200 - p).toNat by omega)
        · skip
          have hw1 := hwm (by omega) (by omega)
          have hk1 := hkn (by omega) (by omega)
          have ha1 := has (by omega) (by omega)
          have hck := j4 _ hk1.1 (by omega)
          have hca := j4 _ ha1.1 (by omega)
          refine V_aload_n C dX6_reckon_61 rfl ?_
          refine vg_X6_11 C dX6_reckon_62 (by first | with_reducible assumption | exact zs_eq (by first | exact zs_lt hco | (rw [List.length_set]; exact zs_lt hco)) | exact zs_ne (by decide) (by assumption) | exact q3 _ (by omega) (by omega)) rfl ?_
          refine V_iload C dX6_reckon_65 rfl ?_
          refine V_aaldW C dX6_reckon_67 q2 (by omega) (by omega) ?_
          refine V_iload C dX6_reckon_68 rfl ?_
          refine V_iald C dX6_reckon_70 (by first | with_reducible assumption | exact zs_eq (by first | exact zs_lt hco | (rw [List.length_set]; exact zs_lt hco)) | exact zs_ne (by decide) (by assumption) | exact q3 _ (by omega) (by omega)) (by omega) (by omega) (by decide) (by first | with_reducible assumption | exact rw0 _) (fun r_70 => ?_)
          refine V_istore C dX6_reckon_71 (by decide) rfl ?_
          refine V_midz (pc2 := 84) (knW tw w m p) ?_ (fun kk_73 => ?_)
          · skip
            refine V_istore C dX6_reckon_84 (by decide) rfl ?_
            refine V_midz (pc2 := 97) (asW tw w m p) ?_ (fun kk_86 => ?_)
            · skip
              refine V_istore C dX6_reckon_97 (by decide) rfl ?_
              refine V_aload_n C dX6_reckon_99 rfl ?_
              refine vg_X6_16 C dX6_reckon_100 (by first | with_reducible assumption | exact zs_eq (by first | exact zs_lt hco | (rw [List.length_set]; exact zs_lt hco)) | exact zs_ne (by decide) (by assumption) | exact q3 _ (by omega) (by omega)) rfl ?_
              refine V_iload C dX6_reckon_103 rfl ?_
              refine V_iald C dX6_reckon_105 (by first | with_reducible assumption | exact zs_eq (by first | exact zs_lt hco | (rw [List.length_set]; exact zs_lt hco)) | exact zs_ne (by decide) (by assumption) | exact q3 _ (by omega) (by omega)) (by omega) (by omega) (by decide) (by first | with_reducible assumption | exact rw0 _) (fun r_105 => ?_)
              refine V_aload_n C dX6_reckon_106 rfl ?_
              refine V_iload C dX6_reckon_107 rfl ?_
              refine V_iald C dX6_reckon_109 (by first | with_reducible assumption | exact zs_eq (by first | exact zs_lt hco | (rw [List.length_set]; exact zs_lt hco)) | exact zs_ne (by decide) (by assumption) | exact q3 _ (by omega) (by omega)) (by omega) (by omega) (by decide) (by first | with_reducible assumption | exact rw0 _) (fun r_109 => ?_)
              refine V_iadd C dX6_reckon_110 ?_
              refine V_aload_n C dX6_reckon_111 rfl ?_
              refine vg_X6_16 C dX6_reckon_112 (by first | with_reducible assumption | exact zs_eq (by first | exact zs_lt hco | (rw [List.length_set]; exact zs_lt hco)) | exact zs_ne (by decide) (by assumption) | exact q3 _ (by omega) (by omega)) rfl ?_
              refine V_iload C dX6_reckon_115 rfl ?_
              refine V_iald C dX6_reckon_117 (by first | with_reducible assumption | exact zs_eq (by first | exact zs_lt hco | (rw [List.length_set]; exact zs_lt hco)) | exact zs_ne (by decide) (by assumption) | exact q3 _ (by omega) (by omega)) (by omega) (by omega) (by decide) (by first | with_reducible assumption | exact rw0 _) (fun r_117 => ?_)
              refine V_icmp_ge (tgt := 143) C dX6_reckon_118 (by decide) (by omega) (by omega) (fun c_118 => ?_) (fun c_118 => ?_)
              · skip
                refine V_iinc C dX6_reckon_143 rfl (by decide) rfl ?_
                refine V_goto (tgt := 54) C dX6_reckon_146 (by decide) ?_
                refine V_drop 8 ?_
                refine V_drop 9 ?_
                refine V_drop 10 ?_
                first
                  | (have e9 : ¬ c2 (knW tw w m p) + rf m < c2 (asW tw w m p) := by omega
                     exact ih_54 (m + 1, b2, c2) ⟨(show 0 ≤ m + 1 by omega), (show m + 1 ≤ 7 by omega), j3, j4, rc, (show rM (knW tw w) (asW tw w) rf p (7 - (m + 1)).toNat (m + 1) c2 b2 = _ by rw [← j6, show (7 - m).toNat = (7 - (m + 1)).toNat + 1 by omega, rM_go (by omega), rxC_2 e9, rxB_2 e9])⟩ (show (20 - (m + 1)).toNat < (20 - m).toNat by omega))
                  | (have e9 : c2 (knW tw w m p) + rf m < c2 (asW tw w m p) := by omega
                     rw [List.set_set]
                     exact ih_54 (m + 1, 1, zup c2 (asW tw w m p) (c2 (knW tw w m p) + rf m)) ⟨(show 0 ≤ m + 1 by omega), (show m + 1 ≤ 7 by omega), (show rng 1 by decide), cIn_up j4 (by omega), zup_rng rc (by omega), (show rM (knW tw w) (asW tw w) rf p (7 - (m + 1)).toNat (m + 1) (zup c2 (asW tw w m p) (c2 (knW tw w m p) + rf m)) 1 = _ by rw [← j6, show (7 - m).toNat = (7 - (m + 1)).toNat + 1 by omega, rM_go (by omega), rxC_1 e9, rxB_1 e9])⟩ (show (20 - (m + 1)).toNat < (20 - m).toNat by omega))
              · skip
                refine V_aload_n C dX6_reckon_121 rfl ?_
                refine vg_X6_16 C dX6_reckon_122 (by first | with_reducible assumption | exact zs_eq (by first | exact zs_lt hco | (rw [List.length_set]; exact zs_lt hco)) | exact zs_ne (by decide) (by assumption) | exact q3 _ (by omega) (by omega)) rfl ?_
                refine V_iload C dX6_reckon_125 rfl ?_
                refine V_aload_n C dX6_reckon_127 rfl ?_
                refine vg_X6_16 C dX6_reckon_128 (by first | with_reducible assumption | exact zs_eq (by first | exact zs_lt hco | (rw [List.length_set]; exact zs_lt hco)) | exact zs_ne (by decide) (by assumption) | exact q3 _ (by omega) (by omega)) rfl ?_
                refine V_iload C dX6_reckon_131 rfl ?_
                refine V_iald C dX6_reckon_133 (by first | with_reducible assumption | exact zs_eq (by first | exact zs_lt hco | (rw [List.length_set]; exact zs_lt hco)) | exact zs_ne (by decide) (by assumption) | exact q3 _ (by omega) (by omega)) (by omega) (by omega) (by decide) (by first | with_reducible assumption | exact rw0 _) (fun r_133 => ?_)
                refine V_aload_n C dX6_reckon_134 rfl ?_
                refine V_iload C dX6_reckon_135 rfl ?_
                refine V_iald C dX6_reckon_137 (by first | with_reducible assumption | exact zs_eq (by first | exact zs_lt hco | (rw [List.length_set]; exact zs_lt hco)) | exact zs_ne (by decide) (by assumption) | exact q3 _ (by omega) (by omega)) (by omega) (by omega) (by decide) (by first | with_reducible assumption | exact rw0 _) (fun r_137 => ?_)
                refine V_iadd C dX6_reckon_138 ?_
                refine V_iast C dX6_reckon_139 (by first | with_reducible assumption | exact zs_eq (by first | exact zs_lt hco | (rw [List.length_set]; exact zs_lt hco)) | exact zs_ne (by decide) (by assumption) | exact q3 _ (by omega) (by omega)) (by omega) (by omega) (by decide) ?_
                refine V_iconst C dX6_reckon_140 ?_
                refine V_istore C dX6_reckon_141 (by decide) rfl ?_
                refine V_iinc C dX6_reckon_143 rfl (by decide) rfl ?_
                refine V_goto (tgt := 54) C dX6_reckon_146 (by decide) ?_
                refine V_drop 8 ?_
                refine V_drop 9 ?_
                refine V_drop 10 ?_
                first
                  | (have e9 : ¬ c2 (knW tw w m p) + rf m < c2 (asW tw w m p) := by omega
                     exact ih_54 (m + 1, b2, c2) ⟨(show 0 ≤ m + 1 by omega), (show m + 1 ≤ 7 by omega), j3, j4, rc, (show rM (knW tw w) (asW tw w) rf p (7 - (m + 1)).toNat (m + 1) c2 b2 = _ by rw [← j6, show (7 - m).toNat = (7 - (m + 1)).toNat + 1 by omega, rM_go (by omega), rxC_2 e9, rxB_2 e9])⟩ (show (20 - (m + 1)).toNat < (20 - m).toNat by omega))
                  | (have e9 : c2 (knW tw w m p) + rf m < c2 (asW tw w m p) := by omega
                     rw [List.set_set]
                     exact ih_54 (m + 1, 1, zup c2 (asW tw w m p) (c2 (knW tw w m p) + rf m)) ⟨(show 0 ≤ m + 1 by omega), (show m + 1 ≤ 7 by omega), (show rng 1 by decide), cIn_up j4 (by omega), zup_rng rc (by omega), (show rM (knW tw w) (asW tw w) rf p (7 - (m + 1)).toNat (m + 1) (zup c2 (asW tw w m p) (c2 (knW tw w m p) + rf m)) 1 = _ by rw [← j6, show (7 - m).toNat = (7 - (m + 1)).toNat + 1 by omega, rM_go (by omega), rxC_1 e9, rxB_1 e9])⟩ (show (20 - (m + 1)).toNat < (20 - m).toNat by omega))
            · skip
              refine V_iload_n C dX6_reckon_86 rfl ?_
              refine V_if_eq (tgt := 95) C dX6_reckon_87 (by decide) (by omega) (fun c_87 => ?_) (fun c_87 => ?_)
              · skip
                refine V_iload C dX6_reckon_95 rfl ?_
                exact kk_86 _ (by first | exact (if_pos (by omega)).symm | exact (if_neg (by omega)).symm)
              · skip
                refine V_iload C dX6_reckon_90 rfl ?_
                refine V_goto (tgt := 97) C dX6_reckon_92 (by decide) ?_
                exact kk_86 _ (by first | exact (if_pos (by omega)).symm | exact (if_neg (by omega)).symm)
          · skip
            refine V_iload_n C dX6_reckon_73 rfl ?_
            refine V_if_eq (tgt := 82) C dX6_reckon_74 (by decide) (by omega) (fun c_74 => ?_) (fun c_74 => ?_)
            · skip
              refine V_iload C dX6_reckon_82 rfl ?_
              exact kk_73 _ (by first | exact (if_pos (by omega)).symm | exact (if_neg (by omega)).symm)
            · skip
              refine V_iload C dX6_reckon_77 rfl ?_
              refine V_goto (tgt := 84) C dX6_reckon_79 (by decide) ?_
              exact kk_73 _ (by first | exact (if_pos (by omega)).symm | exact (if_neg (by omega)).symm)

/-- rows of motions, one motion longer: all motions from a place on, all places from one on; n times -/
def psM (w : Int → Int → Int) (r : Int → Int) (p : Int) : Nat → Int → (Int → Int) → (Int → Int)
  | 0, _, l => l
  | k + 1, m, l => if m < 7 then psM w r p k (m + 1) (zup l (w m p) (l (w m p) + r p)) else l
def psP (w : Int → Int → Int) (r : Int → Int) (n : Int) : Nat → Int → (Int → Int) → (Int → Int)
  | 0, _, l => l
  | k + 1, p, l => if p < n then psP w r n k (p + 1) (psM w r p 7 0 l) else l
def psR (w : Int → Int → Int) (pl n : Int) : Nat → Int → (Int → Int) → (Int → Int) → (Int → Int)
  | 0, _, r, _ => r
  | k + 1, i, r, l => if i < n then psR w pl n k (i + 1) (zcp (psP w r pl pl.toNat 0 (ovr l 0 60 0)) r 0 0 60) (psP w r pl pl.toNat 0 (ovr l 0 60 0)) else r
theorem psM_go {w : Int → Int → Int} {r l : Int → Int} {p m : Int} {k : Nat} (h : m < 7) : psM w r p (k + 1) m l = psM w r p k (m + 1) (zup l (w m p) (l (w m p) + r p)) := if_pos h
theorem psM_no {w : Int → Int → Int} {r l : Int → Int} {p m : Int} {k : Nat} (h : ¬ m < 7) : psM w r p k m l = l := by cases k; rfl; exact if_neg h
theorem psP_go {w : Int → Int → Int} {r l : Int → Int} {n p : Int} {k : Nat} (h : p < n) : psP w r n (k + 1) p l = psP w r n k (p + 1) (psM w r p 7 0 l) := if_pos h
theorem psP_no {w : Int → Int → Int} {r l : Int → Int} {n p : Int} {k : Nat} (h : ¬ p < n) : psP w r n k p l = l := by cases k; rfl; exact if_neg h
theorem psR_go {w : Int → Int → Int} {r l : Int → Int} {pl n i : Int} {k : Nat} (h : i < n) : psR w pl n (k + 1) i r l = psR w pl n k (i + 1) (zcp (psP w r pl pl.toNat 0 (ovr l 0 60 0)) r 0 0 60) (psP w r pl pl.toNat 0 (ovr l 0 60 0)) := if_pos h
theorem psR_no {w : Int → Int → Int} {r l : Int → Int} {pl n i : Int} {k : Nat} (h : ¬ i < n) : psR w pl n k i r l = r := by cases k; rfl; exact if_neg h

set_option maxRecDepth 100000 in
theorem m_X6_rowsTo (G : zG) {cs : List va_E} {w : Int → Int → Int} {co ro lo : Int → Int} {pl : Int} (X : isW G cs w co ro lo pl) (hwr : ∀ m p, 0 ≤ m → m < 7 → 0 ≤ p → p < pl → 0 ≤ w m p ∧ w m p < pl) {t s n : Int} (ht : 0 ≤ t ∧ t < pl) (hs : 0 ≤ s ∧ s < pl) (hn : 0 ≤ n ∧ n ≤ 4) : zMet G yX6_rowsTo cX6_rowsTo 7 (some .int) 1 26 [.ref (G.ad 45), .int (iI t), .int (iI s), .int (iI n)] cs (fun r cs2 => ∃ z, r = some (.int (iI z)) ∧ (z = psR w pl n 4 0 (zup (ovr ro 0 60 0) s 1) lo t ∧ smO cs cs2 ∧ ∃ ro2 lo2, isW G cs2 w co ro2 lo2 pl)) := by
  refine zMet.of (by decide) (Nat.le_of_ble_eq_true rfl) ?_
  intro E C R
  have C : zC G E RX6 cX6_rowsTo 7 1 26 := C
  show V G E 0 [some (.ref (G.ad 45)), some (.int (iI t)), some (.int (iI s)), some (.int (iI n)), none, none, none] [] cs
  obtain ⟨hW, hQ, hrow, hco, hro, hlo, rw0, rco, hp0, hp1⟩ := id X
  refine V_aload_n C dX6_rowsTo_0 rfl ?_
  refine vg_X6_20 C dX6_rowsTo_1 (by first | with_reducible assumption | exact zs_eq (by first | exact zs_lt hro | exact zs_lt hlo | (simp only [List.length_set]; first | exact zs_lt hro | exact zs_lt hlo)) | exact zs_ne (by decide) (by first | assumption | exact zs_eq (by first | exact zs_lt hro | exact zs_lt hlo | (simp only [List.length_set]; first | exact zs_lt hro | exact zs_lt hlo))) | exact q3 _ (by omega) (by omega)) rfl ?_
  refine V_iconst C dX6_rowsTo_4 ?_
  refine V_callS C lk_X6_41 (m_fillI G (i := 55) (n := 60) (g := ro) (v := 0) hro (by decide)) dX6_rowsTo_5 rfl rfl (by decide) (Nat.le_of_ble_eq_true rfl) (kO0 ?_)
  refine V_aload_n C dX6_rowsTo_8 rfl ?_
  refine vg_X6_20 C dX6_rowsTo_9 (by first | with_reducible assumption | exact zs_eq (by first | exact zs_lt hro | exact zs_lt hlo | (simp only [List.length_set]; first | exact zs_lt hro | exact zs_lt hlo)) | exact zs_ne (by decide) (by first | assumption | exact zs_eq (by first | exact zs_lt hro | exact zs_lt hlo | (simp only [List.length_set]; first | exact zs_lt hro | exact zs_lt hlo))) | exact q3 _ (by omega) (by omega)) rfl ?_
  refine V_iload_n C dX6_rowsTo_12 rfl ?_
  refine V_iconst C dX6_rowsTo_13 ?_
  refine V_iast C dX6_rowsTo_14 (by first | with_reducible assumption | exact zs_eq (by first | exact zs_lt hro | exact zs_lt hlo | (simp only [List.length_set]; first | exact zs_lt hro | exact zs_lt hlo)) | exact zs_ne (by decide) (by first | assumption | exact zs_eq (by first | exact zs_lt hro | exact zs_lt hlo | (simp only [List.length_set]; first | exact zs_lt hro | exact zs_lt hlo))) | exact q3 _ (by omega) (by omega)) (by omega) (by omega) (by decide) ?_
  rw [List.set_set]
  have e56 : ((cs.set 55 (zI G 60 (zup (ovr ro 0 60 0) s 1))).set 56 (zI G 60 lo)) = cs.set 55 (zI G 60 (zup (ovr ro 0 60 0) s 1)) := zs_self (zs_ne (by decide) hlo)
  change V G E 15 [some (.ref (G.ad 45)), some (.int (iI t)), some (.int (iI s)), some (.int (iI n)), none, none, none] [] (cs.set 55 (zI G 60 (zup (ovr ro 0 60 0) s 1)))
  rw [← e56]
  refine V_iconst C dX6_rowsTo_15 ?_
  refine V_istore C dX6_rowsTo_16 (by decide) rfl ?_
  refine V_loop (α := Int × (Int → Int) × (Int → Int)) (fun x => (20 - x.1).toNat) (fun x => 0 ≤ x.1 ∧ x.1 ≤ n ∧ psR w pl n (4 - x.1).toNat x.1 x.2.1 x.2.2 = psR w pl n 4 0 (zup (ovr ro 0 60 0) s 1) lo) (fun x => V G E 18 [some (.ref (G.ad 45)), some (.int (iI t)), some (.int (iI s)), some (.int (iI n)), some (.int (iI x.1)), none, none] [] ((cs.set 55 (zI G 60 x.2.1)).set 56 (zI G 60 x.2.2))) ?_ (0, (zup (ovr ro 0 60 0) s 1), lo) ⟨Int.le_refl 0, (show 0 ≤ n by omega), rfl⟩
  rintro ⟨i, r, l⟩ ⟨g1, g2, g3⟩ ih_18
  dsimp only at g1 g2 g3 ⊢
  have h3 : isW G ((cs.set 55 (zI G 60 r)).set 56 (zI G 60 l)) w co r l pl := (X.ro).lo
  obtain ⟨q1, q2, q3, q4, q5, q6, -, -, -, -⟩ := id h3
  refine V_iload C dX6_rowsTo_18 rfl ?_
  refine V_iload_n C dX6_rowsTo_20 rfl ?_
  refine V_icmp_ge (tgt := 112) C dX6_rowsTo_21 (by decide) (by omega) (by omega) (fun c_21 => ?_) (fun c_21 => ?_)
  · skip
    refine V_aload_n C dX6_rowsTo_112 rfl ?_
    refine vg_X6_20 C dX6_rowsTo_113 (by first | with_reducible assumption | exact zs_eq (by first | exact zs_lt hro | exact zs_lt hlo | (simp only [List.length_set]; first | exact zs_lt hro | exact zs_lt hlo)) | exact zs_ne (by decide) (by first | assumption | exact zs_eq (by first | exact zs_lt hro | exact zs_lt hlo | (simp only [List.length_set]; first | exact zs_lt hro | exact zs_lt hlo))) | exact q3 _ (by omega) (by omega)) rfl ?_
    refine V_iload_n C dX6_rowsTo_116 rfl ?_
    refine V_iald0 C dX6_rowsTo_117 (by first | with_reducible assumption | exact zs_eq (by first | exact zs_lt hro | exact zs_lt hlo | (simp only [List.length_set]; first | exact zs_lt hro | exact zs_lt hlo)) | exact zs_ne (by decide) (by first | assumption | exact zs_eq (by first | exact zs_lt hro | exact zs_lt hlo | (simp only [List.length_set]; first | exact zs_lt hro | exact zs_lt hlo))) | exact q3 _ (by omega) (by omega)) (by omega) (by omega) (by decide) ?_
    exact V_iret C R dX6_rowsTo_118 ⟨_, rfl, by rw [← g3, psR_no (by omega)], (smO.rf.st (by decide) (by decide)).st (by decide) (by decide), r, l, h3⟩
  · skip
    refine V_aload_n C dX6_rowsTo_24 rfl ?_
    refine vg_X6_23 C dX6_rowsTo_25 (by first | with_reducible assumption | exact zs_eq (by first | exact zs_lt hro | exact zs_lt hlo | (simp only [List.length_set]; first | exact zs_lt hro | exact zs_lt hlo)) | exact zs_ne (by decide) (by first | assumption | exact zs_eq (by first | exact zs_lt hro | exact zs_lt hlo | (simp only [List.length_set]; first | exact zs_lt hro | exact zs_lt hlo))) | exact q3 _ (by omega) (by omega)) rfl ?_
    refine V_iconst C dX6_rowsTo_28 ?_
    refine V_callS C lk_X6_41 (m_fillI G (i := 56) (n := 60) (g := l) (v := 0) q6 (by decide)) dX6_rowsTo_29 rfl rfl (by decide) (Nat.le_of_ble_eq_true rfl) (kO0 ?_)
    rw [List.set_set]
    refine V_iconst C dX6_rowsTo_32 ?_
    refine V_istore C dX6_rowsTo_33 (by decide) rfl ?_
    refine V_loop (α := Int × (Int → Int)) (fun x => (200 - x.1).toNat) (fun x => 0 ≤ x.1 ∧ x.1 ≤ pl ∧ psP w r pl (pl - x.1).toNat x.1 x.2 = psP w r pl pl.toNat 0 (ovr l 0 60 0)) (fun x => V G E 35 [some (.ref (G.ad 45)), some (.int (iI t)), some (.int (iI s)), some (.int (iI n)), some (.int (iI i)), some (.int (iI x.1)), none] [] ((cs.set 55 (zI G 60 r)).set 56 (zI G 60 x.2))) ?_ (0, ovr l 0 60 0) ⟨Int.le_refl 0, (show 0 ≤ pl by omega), by simp⟩
    rintro ⟨p, l1⟩ ⟨k1, k2, k3⟩ ih_35
    dsimp only at k1 k2 k3 ⊢
    have h3 : isW G ((cs.set 55 (zI G 60 r)).set 56 (zI G 60 l1)) w co r l1 pl := (X.ro).lo
    obtain ⟨q1, q2, q3, q4, q5, q6, -, -, -, -⟩ := id h3
    refine V_iload C dX6_rowsTo_35 rfl ?_
    refine V_aload_n C dX6_rowsTo_37 rfl ?_
    refine vg_X6_32 C dX6_rowsTo_38 (by first | with_reducible assumption | exact zs_eq (by first | exact zs_lt hro | exact zs_lt hlo | (simp only [List.length_set]; first | exact zs_lt hro | exact zs_lt hlo)) | exact zs_ne (by decide) (by first | assumption | exact zs_eq (by first | exact zs_lt hro | exact zs_lt hlo | (simp only [List.length_set]; first | exact zs_lt hro | exact zs_lt hlo))) | exact q3 _ (by omega) (by omega)) rfl ?_
    refine V_icmp_ge (tgt := 91) C dX6_rowsTo_41 (by decide) (by omega) (by omega) (fun c_41 => ?_) (fun c_41 => ?_)
    · skip
      refine V_aload_n C dX6_rowsTo_91 rfl ?_
      refine vg_X6_23 C dX6_rowsTo_92 (by first | with_reducible assumption | exact zs_eq (by first | exact zs_lt hro | exact zs_lt hlo | (simp only [List.length_set]; first | exact zs_lt hro | exact zs_lt hlo)) | exact zs_ne (by decide) (by first | assumption | exact zs_eq (by first | exact zs_lt hro | exact zs_lt hlo | (simp only [List.length_set]; first | exact zs_lt hro | exact zs_lt hlo))) | exact q3 _ (by omega) (by omega)) rfl ?_
      refine V_iconst C dX6_rowsTo_95 ?_
      refine V_aload_n C dX6_rowsTo_96 rfl ?_
      refine vg_X6_20 C dX6_rowsTo_97 (by first | with_reducible assumption | exact zs_eq (by first | exact zs_lt hro | exact zs_lt hlo | (simp only [List.length_set]; first | exact zs_lt hro | exact zs_lt hlo)) | exact zs_ne (by decide) (by first | assumption | exact zs_eq (by first | exact zs_lt hro | exact zs_lt hlo | (simp only [List.length_set]; first | exact zs_lt hro | exact zs_lt hlo))) | exact q3 _ (by omega) (by omega)) rfl ?_
      refine V_iconst C dX6_rowsTo_100 ?_
      refine V_bipush C dX6_rowsTo_101 (by decide) ?_
      refine V_copyI C wm_X6_51 dX6_rowsTo_103 (by first | with_reducible assumption | exact zs_eq (by first | exact zs_lt hro | exact zs_lt hlo | (simp only [List.length_set]; first | exact zs_lt hro | exact zs_lt hlo)) | exact zs_ne (by decide) (by first | assumption | exact zs_eq (by first | exact zs_lt hro | exact zs_lt hlo | (simp only [List.length_set]; first | exact zs_lt hro | exact zs_lt hlo))) | exact q3 _ (by omega) (by omega)) (by first | with_reducible assumption | exact zs_eq (by first | exact zs_lt hro | exact zs_lt hlo | (simp only [List.length_set]; first | exact zs_lt hro | exact zs_lt hlo)) | exact zs_ne (by decide) (by first | assumption | exact zs_eq (by first | exact zs_lt hro | exact zs_lt hlo | (simp only [List.length_set]; first | exact zs_lt hro | exact zs_lt hlo))) | exact q3 _ (by omega) (by omega)) (by omega) (by omega) (by omega) (by omega) (by omega) (by decide) (by decide) (by decide) (Nat.le_of_ble_eq_true rfl) ?_
      refine V_iinc C dX6_rowsTo_106 rfl (by decide) rfl ?_
      refine V_goto (tgt := 18) C dX6_rowsTo_109 (by decide) ?_
      refine V_drop 5 ?_
      rw [zs_comm (by decide), List.set_set]
      exact ih_18 (i + 1, zcp l1 r 0 0 60, l1) ⟨(show 0 ≤ i + 1 by omega), (show i + 1 ≤ n by omega), (show psR w pl n (4 - (i + 1)).toNat (i + 1) (zcp l1 r 0 0 60) l1 = _ by rw [← g3, show (4 - i).toNat = (4 - (i + 1)).toNat + 1 by omega, psR_go (by omega), ← k3, psP_no (by omega)])⟩ (show (20 - (i + 1)).toNat < (20 - i).toNat by omega)
    · skip
      refine V_iconst C dX6_rowsTo_44 ?_
      refine V_istore C dX6_rowsTo_45 (by decide) rfl ?_
      refine V_loop (α := Int × (Int → Int)) (fun x => (20 - x.1).toNat) (fun x => 0 ≤ x.1 ∧ x.1 ≤ 7 ∧ psM w r p (7 - x.1).toNat x.1 x.2 = psM w r p 7 0 l1) (fun x => V G E 47 [some (.ref (G.ad 45)), some (.int (iI t)), some (.int (iI s)), some (.int (iI n)), some (.int (iI i)), some (.int (iI p)), some (.int (iI x.1))] [] ((cs.set 55 (zI G 60 r)).set 56 (zI G 60 x.2))) ?_ (0, l1) ⟨Int.le_refl 0, (show (0 : Int) ≤ 7 by decide), rfl⟩
      rintro ⟨m, l2⟩ ⟨j1, j2, j3⟩ ih_47
      dsimp only at j1 j2 j3 ⊢
      have h3 : isW G ((cs.set 55 (zI G 60 r)).set 56 (zI G 60 l2)) w co r l2 pl := (X.ro).lo
      obtain ⟨q1, q2, q3, q4, q5, q6, -, -, -, -⟩ := id h3
      have hwm : m < 7 → 0 ≤ w m p ∧ w m p < pl := fun h1 => hwr m p j1 h1 k1 (by omega)
      refine V_iload C dX6_rowsTo_47 rfl ?_
      refine V_bipush C dX6_rowsTo_49 (by decide) ?_
      refine V_icmp_ge (tgt := 85) C dX6_rowsTo_51 (by decide) (by omega) (by omega) (fun c_51 => ?_) (fun c_51 => ?_)
      · skip
        refine V_iinc C dX6_rowsTo_85 rfl (by decide) rfl ?_
        refine V_goto (tgt := 35) C dX6_rowsTo_88 (by decide) ?_
        refine V_drop 6 ?_
        exact ih_35 (p + 1, l2) ⟨(show 0 ≤ p + 1 by omega), (show p + 1 ≤ pl by omega), (show psP w r pl (pl - (p + 1)).toNat (p + 1) l2 = _ by rw [← k3, show (pl - p).toNat = (pl - (p + 1)).toNat + 1 by omega, psP_go (by omega), ← j3, psM_no (by omega)])⟩ (show (200 - (p + 1)).toNat < (200 - p).toNat by omega)
      · skip
        have hw1 := hwm (by omega)
        refine V_aload_n C dX6_rowsTo_54 rfl ?_
        refine vg_X6_23 C dX6_rowsTo_55 (by first | with_reducible assumption | exact zs_eq (by first | exact zs_lt hro | exact zs_lt hlo | (simp only [List.length_set]; first | exact zs_lt hro | exact zs_lt hlo)) | exact zs_ne (by decide) (by first | assumption | exact zs_eq (by first | exact zs_lt hro | exact zs_lt hlo | (simp only [List.length_set]; first | exact zs_lt hro | exact zs_lt hlo))) | exact q3 _ (by omega) (by omega)) rfl ?_
        refine V_aload_n C dX6_rowsTo_58 rfl ?_
        refine vg_X6_11 C dX6_rowsTo_59 (by first | with_reducible assumption | exact zs_eq (by first | exact zs_lt hro | exact zs_lt hlo | (simp only [List.length_set]; first | exact zs_lt hro | exact zs_lt hlo)) | exact zs_ne (by decide) (by first | assumption | exact zs_eq (by first | exact zs_lt hro | exact zs_lt hlo | (simp only [List.length_set]; first | exact zs_lt hro | exact zs_lt hlo))) | exact q3 _ (by omega) (by omega)) rfl ?_
        refine V_iload C dX6_rowsTo_62 rfl ?_
        refine V_aaldW C dX6_rowsTo_64 q2 (by omega) (by omega) ?_
        refine V_iload C dX6_rowsTo_65 rfl ?_
        refine V_iald C dX6_rowsTo_67 (by first | with_reducible assumption | exact zs_eq (by first | exact zs_lt hro | exact zs_lt hlo | (simp only [List.length_set]; first | exact zs_lt hro | exact zs_lt hlo)) | exact zs_ne (by decide) (by first | assumption | exact zs_eq (by first | exact zs_lt hro | exact zs_lt hlo | (simp only [List.length_set]; first | exact zs_lt hro | exact zs_lt hlo))) | exact q3 _ (by omega) (by omega)) (by omega) (by omega) (by decide) (rw0 _) (fun r_67 => ?_)
        refine V_dup2 C dX6_rowsTo_68 rfl rfl ?_
        refine V_iald0 C dX6_rowsTo_69 (by first | with_reducible assumption | exact zs_eq (by first | exact zs_lt hro | exact zs_lt hlo | (simp only [List.length_set]; first | exact zs_lt hro | exact zs_lt hlo)) | exact zs_ne (by decide) (by first | assumption | exact zs_eq (by first | exact zs_lt hro | exact zs_lt hlo | (simp only [List.length_set]; first | exact zs_lt hro | exact zs_lt hlo))) | exact q3 _ (by omega) (by omega)) (by omega) (by omega) (by decide) ?_
        refine V_aload_n C dX6_rowsTo_70 rfl ?_
        refine vg_X6_20 C dX6_rowsTo_71 (by first | with_reducible assumption | exact zs_eq (by first | exact zs_lt hro | exact zs_lt hlo | (simp only [List.length_set]; first | exact zs_lt hro | exact zs_lt hlo)) | exact zs_ne (by decide) (by first | assumption | exact zs_eq (by first | exact zs_lt hro | exact zs_lt hlo | (simp only [List.length_set]; first | exact zs_lt hro | exact zs_lt hlo))) | exact q3 _ (by omega) (by omega)) rfl ?_
        refine V_iload C dX6_rowsTo_74 rfl ?_
        refine V_iald0 C dX6_rowsTo_76 (by first | with_reducible assumption | exact zs_eq (by first | exact zs_lt hro | exact zs_lt hlo | (simp only [List.length_set]; first | exact zs_lt hro | exact zs_lt hlo)) | exact zs_ne (by decide) (by first | assumption | exact zs_eq (by first | exact zs_lt hro | exact zs_lt hlo | (simp only [List.length_set]; first | exact zs_lt hro | exact zs_lt hlo))) | exact q3 _ (by omega) (by omega)) (by omega) (by omega) (by decide) ?_
        refine V_iadd C dX6_rowsTo_77 ?_
        refine V_iast C dX6_rowsTo_78 (by first | with_reducible assumption | exact zs_eq (by first | exact zs_lt hro | exact zs_lt hlo | (simp only [List.length_set]; first | exact zs_lt hro | exact zs_lt hlo)) | exact zs_ne (by decide) (by first | assumption | exact zs_eq (by first | exact zs_lt hro | exact zs_lt hlo | (simp only [List.length_set]; first | exact zs_lt hro | exact zs_lt hlo))) | exact q3 _ (by omega) (by omega)) (by omega) (by omega) (by decide) ?_
        refine V_iinc C dX6_rowsTo_79 rfl (by decide) rfl ?_
        refine V_goto (tgt := 47) C dX6_rowsTo_82 (by decide) ?_
        rw [List.set_set]
        exact ih_47 (m + 1, zup l2 (w m p) (l2 (w m p) + r p)) ⟨(show 0 ≤ m + 1 by omega), (show m + 1 ≤ 7 by omega), (show psM w r p (7 - (m + 1)).toNat (m + 1) (zup l2 (w m p) (l2 (w m p) + r p)) = _ by rw [← j3, show (7 - m).toNat = (7 - (m + 1)).toNat + 1 by omega, psM_go (by omega)])⟩ (show (20 - (m + 1)).toNat < (20 - m).toNat by omega)
