/-! ===== V: a walk over a pure picture (locals, stack, cells by their ids); ints are iI z ===== -/
def iI (z : Int) : Int32 := Int32.ofInt z
def lI (z : Int) : Int64 := Int64.ofInt z
abbrev rng (z : Int) : Prop := -2147483648 ≤ z ∧ z ≤ 2147483647
abbrev rngL (z : Int) : Prop := -9223372036854775808 ≤ z ∧ z ≤ 9223372036854775807
theorem iI_add (a b : Int) : iI a + iI b = iI (a + b) := (Int32.ofInt_add a b).symm
theorem iI_sub (a b : Int) : iI a - iI b = iI (a - b) := (Int32.ofInt_sub a b).symm
theorem iI_mul (a b : Int) : iI a * iI b = iI (a * b) := (Int32.ofInt_mul a b).symm
theorem iI_toInt {a : Int} (h : rng a) : (iI a).toInt = a := Int32.toInt_ofInt_of_le (by omega) (by omega)
theorem iI_of (x : Int32) : iI x.toInt = x := Int32.ofInt_toInt x
theorem iI_rng (x : Int32) : rng x.toInt := ⟨by have := Int32.le_toInt x; omega, by have := Int32.toInt_lt x; omega⟩
theorem iI_lt {a b : Int} (ha : rng a) (hb : rng b) : iI a < iI b ↔ a < b := by rw [Int32.lt_iff_toInt_lt, iI_toInt ha, iI_toInt hb]
theorem iI_le {a b : Int} (ha : rng a) (hb : rng b) : iI a ≤ iI b ↔ a ≤ b := by rw [Int32.le_iff_toInt_le, iI_toInt ha, iI_toInt hb]
theorem iI_eq {a b : Int} (ha : rng a) (hb : rng b) : iI a = iI b ↔ a = b := by rw [← Int32.toInt_inj, iI_toInt ha, iI_toInt hb]
theorem iI_clamp {a : Int} (h : rng a) : (iI a).toNatClampNeg = a.toNat := by rw [← Int32.toNat_toInt, iI_toInt h]
theorem iI_0 : iI 0 = 0 := rfl
theorem lI_of (x : Int64) : lI x.toInt = x := Int64.ofInt_toInt x
theorem lI_toInt {a : Int} (h : rngL a) : (lI a).toInt = a := Int64.toInt_ofInt_of_le (by omega) (by omega)
theorem lI_rng (x : Int64) : rngL x.toInt := ⟨by have := Int64.le_toInt x; omega, by have := Int64.toInt_lt x; omega⟩
theorem lI_add (a b : Int) : lI a + lI b = lI (a + b) := (Int64.ofInt_add a b).symm
theorem lI_lt {a b : Int} (ha : rngL a) (hb : rngL b) : lI a < lI b ↔ a < b := by rw [Int64.lt_iff_toInt_lt, lI_toInt ha, lI_toInt hb]
theorem lI_eq {a b : Int} (ha : rngL a) (hb : rngL b) : lI a = lI b ↔ a = b := by rw [← Int64.toInt_inj, lI_toInt ha, lI_toInt hb]
theorem iI_l {a : Int} (h : rng a) : (iI a).toInt64 = lI a := Int32.toInt64_ofInt (show (-2147483648 : Int) ≤ a from h.1) (show a ≤ (2147483647 : Int) from h.2)
theorem lI_i (a : Int) : (lI a).toInt32 = iI a := Int64.toInt32_ofInt
def b2z (P : Prop) [Decidable P] : Int := if P then 1 else 0
theorem b2z_t {P : Prop} [Decidable P] (h : P) : b2z P = 1 := if_pos h
theorem b2z_f {P : Prop} [Decidable P] (h : ¬ P) : b2z P = 0 := if_neg h
theorem b2z_rng (P : Prop) [Decidable P] : rng (b2z P) := by unfold b2z; split <;> omega
def zf (g : Int → Int) : Nat → Int32 := fun k => iI (g (k : Int))
def zg (g : Int → Int) : Nat → Int64 := fun k => lI (g (k : Int))
def zup (g : Int → Int) (i v : Int) : Int → Int := fun k => if k = i then v else g k
theorem zup_rng {g : Int → Int} {i v : Int} (hg : ∀ k, rng (g k)) (hv : rng v) : ∀ k, rng (zup g i v k) := fun k => by unfold zup; split; exact hv; exact hg k
theorem zup_rngL {g : Int → Int} {i v : Int} (hg : ∀ k, rngL (g k)) (hv : rngL v) : ∀ k, rngL (zup g i v k) := fun k => by unfold zup; split; exact hv; exact hg k
theorem zup_s {g : Int → Int} {i v : Int} : zup g i v i = v := if_pos rfl
theorem zup_n {g : Int → Int} {i v k : Int} (h : k ≠ i) : zup g i v k = g k := if_neg h
/-- n of f from sp on, laid over g from dp on -/
def zcp (f g : Int → Int) (sp dp n : Int) : Int → Int := fun k => if dp ≤ k ∧ k < dp + n then f (sp + (k - dp)) else g k
theorem zcp_rng {f g : Int → Int} {sp dp n : Int} (hf : ∀ k, rng (f k)) (hg : ∀ k, rng (g k)) : ∀ k, rng (zcp f g sp dp n k) := fun k => by unfold zcp; split; exact hf _; exact hg k
theorem zcp_rngL {f g : Int → Int} {sp dp n : Int} (hf : ∀ k, rngL (f k)) (hg : ∀ k, rngL (g k)) : ∀ k, rngL (zcp f g sp dp n k) := fun k => by unfold zcp; split; exact hf _; exact hg k
theorem zf_upd (g : Int → Int) {i : Int} (v : Int) (h : 0 ≤ i) : upd (zf g) i.toNat (iI v) = zf (zup g i v) := by
  funext k
  unfold upd zf zup
  by_cases e : k = i.toNat
  · rw [if_pos e, if_pos (by omega)]
  · rw [if_neg e, if_neg (by omega)]
theorem zg_upd (g : Int → Int) {i : Int} (v : Int) (h : 0 ≤ i) : vp_updL (zg g) i.toNat (lI v) = zg (zup g i v) := by
  funext k
  unfold vp_updL zg zup
  by_cases e : k = i.toNat
  · rw [if_pos e, if_pos (by omega)]
  · rw [if_neg e, if_neg (by omega)]
theorem zf_cpy (f g : Int → Int) {sp dp n : Int} (h1 : 0 ≤ sp) (h2 : 0 ≤ dp) (h3 : 0 ≤ n) : va_cpy (zf f) (zf g) sp.toNat dp.toNat n.toNat = zf (zcp f g sp dp n) := by
  funext k
  unfold va_cpy zf zcp
  by_cases e : dp.toNat ≤ k ∧ k < dp.toNat + n.toNat
  · rw [if_pos e, if_pos (by omega)]
    congr 2
    omega
  · rw [if_neg e, if_neg (by omega)]
theorem zg_cpy (f g : Int → Int) {sp dp n : Int} (h1 : 0 ≤ sp) (h2 : 0 ≤ dp) (h3 : 0 ≤ n) : va_cpy (zg f) (zg g) sp.toNat dp.toNat n.toNat = zg (zcp f g sp dp n) := by
  funext k
  unfold va_cpy zg zcp
  by_cases e : dp.toNat ≤ k ∧ k < dp.toNat + n.toNat
  · rw [if_pos e, if_pos (by omega)]
    congr 2
    omega
  · rw [if_neg e, if_neg (by omega)]
theorem zf_at (g : Int → Int) {i : Int} (h : 0 ≤ i) : zf g i.toNat = iI (g i) := by
  show iI (g (i.toNat : Int)) = iI (g i)
  rw [Int.toNat_of_nonneg h]
theorem zg_at (g : Int → Int) {i : Int} (h : 0 ≤ i) : zg g i.toNat = lI (g i) := by
  show lI (g (i.toNat : Int)) = lI (g i)
  rw [Int.toNat_of_nonneg h]
theorem iI_in {i : Int} {n : Nat} (h0 : 0 ≤ i) (h1 : i < n) (hn : n < 2147483648) : vp_in (iI i) n := by
  rw [vp_in_iff, iI_toInt (by omega)]
  exact ⟨h0, h1⟩
-- the fixed things of a walk
/-- the launch, the classes' numbers, the array classes, the address of each id -/
abbrev zG : Type := Launch × va_G × (Nat → ClassId) × (Nat → Nat)
abbrev zG.l (G : zG) : Launch := G.1
abbrev zG.D (G : zG) : va_G := G.2.1
abbrev zG.cy (G : zG) : Nat → ClassId := G.2.2.1
abbrev zG.ad (G : zG) : Nat → Nat := G.2.2.2
abbrev zE : Type := Program × Env × Room × State × MethodId × Array Value × List Frame × Method × Code × Nat × Nat × (State → Prop) × (Nat → Prop)
abbrev zE.p (E : zE) : Program := E.1
abbrev zE.e (E : zE) : Env := E.2.1
abbrev zE.R (E : zE) : Room := E.2.2.1
abbrev zE.s (E : zE) : State := E.2.2.2.1
abbrev zE.m (E : zE) : MethodId := E.2.2.2.2.1
abbrev zE.args (E : zE) : Array Value := E.2.2.2.2.2.1
abbrev zE.below (E : zE) : List Frame := E.2.2.2.2.2.2.1
abbrev zE.meth (E : zE) : Method := E.2.2.2.2.2.2.2.1
abbrev zE.c (E : zE) : Code := E.2.2.2.2.2.2.2.2.1
abbrev zE.cells (E : zE) : Nat := E.2.2.2.2.2.2.2.2.2.1
abbrev zE.slots (E : zE) : Nat := E.2.2.2.2.2.2.2.2.2.2.1
abbrev zE.Q (E : zE) : State → Prop := E.2.2.2.2.2.2.2.2.2.2.2.1
abbrev zE.A (E : zE) : Nat → Prop := E.2.2.2.2.2.2.2.2.2.2.2.2
/-- cells with their addresses -/
def zw (ad : Nat → Nat) (cs : List va_E) : va_W := cs.mapIdx (fun k e => (ad k, e))
theorem zw_get (ad : Nat → Nat) (cs : List va_E) (k : Nat) : (zw ad cs)[k]? = (cs[k]?).map (fun e => (ad k, e)) := by unfold zw; rw [List.getElem?_mapIdx]
theorem zw_at {ad : Nat → Nat} {cs : List va_E} {k : Nat} {e : va_E} (h : cs[k]? = some e) : (zw ad cs)[k]? = some (ad k, e) := by rw [zw_get, h]; rfl
theorem zw_set (ad : Nat → Nat) (cs : List va_E) (k : Nat) (e : va_E) : (zw ad cs).set k (ad k, e) = zw ad (cs.set k e) := by
  apply List.ext_getElem?
  intro j
  rw [zw_get, List.getElem?_set, List.getElem?_set, zw_get]
  have hl : (zw ad cs).length = cs.length := by unfold zw; rw [List.length_mapIdx]
  by_cases e1 : k = j
  · subst e1
    rw [if_pos rfl, if_pos rfl, hl]
    split <;> rfl
  · rw [if_neg e1, if_neg e1]
def zA (ad : Nat → Nat) (n : Nat) : Nat → Prop := fun q => ∃ k, k < n ∧ q = ad k
-- locals
def zpl : Nat → List (Option Value) → List (Nat × Value)
  | _, [] => []
  | k, none :: t => zpl (k + 1) t
  | k, some v :: t => (k, v) :: zpl (k + 1) t
theorem zpl_mem : ∀ (lv : List (Option Value)) (k j : Nat) (v : Value), (j, v) ∈ zpl k lv ↔ k ≤ j ∧ lv[j - k]? = some (some v)
  | [], k, j, v => by simp [zpl]
  | none :: t, k, j, v => by
    rw [zpl, zpl_mem t (k + 1) j v]
    by_cases h : k < j
    · rw [show j - k = (j - (k + 1)) + 1 by omega]; simp; omega
    · by_cases h2 : j = k
      · subst h2; simp; omega
      · constructor
        · intro q; omega
        · intro q; omega
  | some w :: t, k, j, v => by
    rw [zpl, List.mem_cons, zpl_mem t (k + 1) j v]
    by_cases h : k < j
    · rw [show j - k = (j - (k + 1)) + 1 by omega]
      simp only [List.getElem?_cons_succ, Prod.mk.injEq]
      constructor
      · rintro (⟨q, -⟩ | q)
        · omega
        · exact ⟨by omega, q.2⟩
      · intro q; exact Or.inr ⟨by omega, q.2⟩
    · by_cases h2 : j = k
      · subst h2
        simp only [Nat.sub_self, List.getElem?_cons_zero, Prod.mk.injEq, Option.some.injEq]
        constructor
        · rintro (⟨-, q⟩ | q)
          · exact ⟨Nat.le_refl _, q.symm⟩
          · omega
        · intro q; exact Or.inl ⟨trivial, q.2.symm⟩
      · constructor
        · rintro (q | q)
          · simp at q; omega
          · omega
        · intro q; omega
def zls (ls : Array Slot) (n : Nat) (lv : List (Option Value)) : Prop := lv_has ls n (zpl 0 lv)
theorem zls_at {ls : Array Slot} {n : Nat} {lv : List (Option Value)} (h : zls ls n lv) {i : Nat} {v : Value} (hv : lv[i]? = some (some v)) : ls[i]? = some (.val v) := h.2.2 (i, v) ((zpl_mem lv 0 i v).mpr ⟨Nat.zero_le _, hv⟩)
def zok (lv : List (Option Value)) : Nat → Bool
  | 0 => true
  | i + 1 => match lv[i]? with
    | some (some w) => !(w.category == 2)
    | _ => true
theorem zls_set {ls : Array Slot} {n i : Nat} {lv : List (Option Value)} {v : Value} (ho : zok lv i = true) (h : lv_has ls n ((i, v) :: (zpl 0 lv).filter (fun q => !(q.1 == i) && !(q.1 + 1 == i && q.2.category == 2)))) : zls ls n (lv.set i (some v)) := by
  refine ⟨h.1, h.2.1, fun q hq => ?_⟩
  obtain ⟨j, w⟩ := q
  have h1 := ((zpl_mem _ 0 j w).mp hq).2
  rw [Nat.sub_zero, List.getElem?_set] at h1
  by_cases e : i = j
  · subst e
    rw [if_pos rfl] at h1
    split at h1
    · have := Option.some.inj (Option.some.inj h1)
      subst this
      exact h.2.2 _ List.mem_cons_self
    · cases h1
  · rw [if_neg e] at h1
    refine h.2.2 _ (List.mem_cons_of_mem _ (List.mem_filter.mpr ⟨(zpl_mem _ 0 j w).mpr ⟨Nat.zero_le _, h1⟩, ?_⟩))
    have e2 : (j == i) = false := by simp; omega
    simp only [e2, Bool.not_false, Bool.true_and]
    by_cases e3 : j + 1 = i
    · subst e3
      rw [zok, h1] at ho
      simp only [beq_self_eq_true, Bool.true_and]
      exact ho
    · have e4 : (j + 1 == i) = false := by simp; omega
      rw [e4]; rfl
def zent (av : List Value) (n : Nat) : List (Option Value) :=
  let l := av.flatMap (fun v => if v.category = 2 then [some v, none] else [some v])
  l ++ List.replicate (n - l.length) none
-- words
def zgood (w : Cond) : Bool := goodWord w || (match w with
  | .fieldLinkNest _ _ _ _ _ _ => true
  | .methodLinkNest _ _ _ _ => true
  | _ => false)
def zW (w : Cond) : Prop := w ∈ lw_tbl ∧ zgood w = true
def zT (s : State) : Prop := ∀ w, zW w → ∀ args : Array Value, w.before args s = true
theorem zT_warm {s U : State} (hW : s.WarmedH U.vm) (h : zT s) : zT U := by
  intro w hw args
  have h1 := h w hw
  have h2 := hw.2
  unfold zgood at h2
  rcases Bool.or_eq_true_iff.mp h2 with q | q
  · exact word_at hW (good_of_word q) (h1 args)
  · cases w <;> first | cases q | skip
    · exact va_Nw.use rfl (va_Nw.warmM hW (h1 #[]))
    · exact va_Nw.use rfl (va_Nw.warmF hW (h1 #[]))
abbrev zty (cy : Nat → ClassId) : List (ClassId × FieldType) := [(cy 0, .int), (cy 1, .long), (cy 2, .object "ModalKeys$Sheet"), (cy 3, .array .int)]
def zC (G : zG) (E : zE) (own : String) (cc : ByteArray) (nL fr lo : Nat) : Prop :=
  E.p.tables.exec = Jvm.exec ∧ E.c.code = cc ∧ E.c.maxLocals = nL ∧ E.s.vm.findClass own = some E.m.cls ∧ fr ≤ E.R.frames ∧ lo ≤ E.R.locals ∧ E.cells ≤ E.R.cells ∧ E.slots ≤ E.R.slots ∧ va_K G.D vwCl (zty G.cy) E.s ∧ zT E.s
def V (G : zG) (E : zE) (pc : Nat) (lv : List (Option Value)) (st : List Value) (cs : List va_E) : Prop :=
  ∀ (H : Heap) (locs : List Loc) (ls : Array Slot), zls ls E.c.maxLocals lv → va_P G.D vwCl (zw G.ad cs) H → va_D E.A (zw G.ad cs) → va_S E.A E.s.heap H locs → W E.p G.l E.e E.R E.s E.m E.args E.below E.meth E.c H locs E.cells E.slots E.Q (F0 E.m pc ls st)
