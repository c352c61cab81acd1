/-! ===== cells that are made: addresses that come ===== -/
def zG.ext (G : zG) (n : Nat) (f : Nat → Nat) : zG := (G.l, G.D, G.cy, fun k => if k < n then G.ad k else f (k - n))
def zE.up (E : zE) (k n : Nat) : zE := (E.p, E.e, E.R, E.s, E.m, E.args, E.below, E.meth, E.c, E.cells + k, E.slots + n, E.Q, E.A)
theorem zw_ext {G : zG} {n : Nat} {f : Nat → Nat} {cs es : List va_E} (h : cs.length = n) : zw (G.ext n f).ad (cs ++ es) = zw G.ad cs ++ zw f es := by
  apply List.ext_getElem?
  intro k
  rw [zw_get]
  have hl : (zw G.ad cs).length = n := by unfold zw; rw [List.length_mapIdx, h]
  by_cases e : k < n
  · rw [List.getElem?_append_left (by omega), List.getElem?_append_left (by omega), zw_get]
    congr 1
    funext x
    show ((if k < n then G.ad k else f (k - n)), x) = (G.ad k, x)
    rw [if_pos e]
  · rw [List.getElem?_append_right (by omega), List.getElem?_append_right (by omega), hl, h, zw_get]
    congr 1
    funext x
    show ((if k < n then G.ad k else f (k - n)), x) = (f (k - n), x)
    rw [if_neg e]
/-- arrays of arrays may be made -/
def zAO (U : State) : Prop := va_AO RX4 U ∧ (Cond.arrayOver (.array .int)).before #[] U = true
theorem zAO.moved {u U : State} (hvm : u.vm.Alike U.vm) (h : zAO u) : zAO U := ⟨va_AO.moved hvm h.1, Jvm.Stand.arrayOver_alikeB hvm h.2⟩
/-- the walk of a constructor: what it may still make -/
def zI2 (G : zG) (E : zE) (own : String) (cc : ByteArray) (nL fr lo mc ms : Nat) : Prop := zC G E own cc nL fr lo ∧ (own ≠ RL → E.meth.name = "<init>") ∧ zAO E.s ∧ (∀ q, E.s.heap.size ≤ q → E.A q) ∧ E.cells + mc ≤ E.R.cells ∧ E.slots + ms ≤ E.R.slots
section CT
variable {G : zG} {E : zE} {own : String} {cc : ByteArray} {nL fr lo pc mc ms : Nat} {lv : List (Option Value)} {st : List Value} {cs : List va_E}
theorem zI2.up (I : zI2 G E own cc nL fr lo mc ms) {n k m : Nat} {f : Nat → Nat} (hk : k ≤ mc) (hm : m ≤ ms) : zI2 (G.ext n f) (E.up k m) own cc nL fr lo (mc - k) (ms - m) := by
  obtain ⟨⟨c1, c2, c3, c4, c5, c6, c7, c8, c9, c10⟩, i2, i3, i4, i5, i6⟩ := I
  exact ⟨⟨c1, c2, c3, c4, c5, c6, (show E.cells + k ≤ E.R.cells by omega), (show E.slots + m ≤ E.R.slots by omega), c9, c10⟩, i2, i3, i4, (show E.cells + k + (mc - k) ≤ E.R.cells by omega), (show E.slots + m + (ms - m) ≤ E.R.slots by omega)⟩
theorem V_new (I : zI2 G E own cc nL fr lo mc ms) {Cn : String} {T : u_T} {N ci index n : Nat} {ty : Nat → FieldType} {fs : List Value} (hcl : zW (.classLink own index Cn)) (hinst : zW (.instantiable Cn N)) (hini : zW (.initialized Cn)) (hc : vwCl[ci]? = some (Cn, T, N)) (hty : ∀ k, k < N → parseFieldDescriptor (T k).2.2.1 = some (ty k)) (hfs : ∀ j, j < N → defaultValue (ty j) = vp_V fs j) (hm : 1 ≤ mc ∧ N ≤ ms) (hn : cs.length = n) (hd : decode cc pc = .ok (.new index, 3)) (kk : ∀ f : Nat → Nat, zI2 (G.ext n f) (E.up 1 N) own cc nL fr lo (mc - 1) (ms - N) → V (G.ext n f) (E.up 1 N) (pc + 3) lv (.ref (f 0) :: st) (cs ++ [.inr (ci, fs)])) : V G E pc lv st cs := by
  intro H locs ls hl hP hD hS
  obtain ⟨C, i2, i3, i4, i5, i6⟩ := id I
  refine va_new (D := G.D) (cl := vwCl) (Ts := u_ws Cn T N) C.1 C.2.1 (fun w h => C.w (zu hc w h)) (fun _ h => h) ty hty C.2.2.2.1 (C.w hcl) (C.w hinst) (C.w hini) C.k hP hD hS i4 hc hfs (by omega) (by omega) hd (fun q H1 hP1 hD1 hS1 => ?_)
  have e := zw_ext (G := G) (f := fun _ => q) (es := [.inr (ci, fs)]) hn
  exact kk (fun _ => q) (I.up hm.1 hm.2) H1 locs ls hl (by rw [e]; exact hP1) (by rw [e]; exact hD1) hS1
theorem V_newI (I : zI2 G E own cc nL fr lo mc ms) {z : Int} {N n : Nat} (hz : z = (N : Int)) (hN : N ≤ 1000) (hm : 1 ≤ mc ∧ N ≤ ms) (hn : cs.length = n) (hw : zW (.arrayClass .int)) (hd : decode cc pc = .ok (.newarray .int, 2)) (kk : ∀ f : Nat → Nat, zI2 (G.ext n f) (E.up 1 N) own cc nL fr lo (mc - 1) (ms - N) → V (G.ext n f) (E.up 1 N) (pc + 2) lv (.ref (f 0) :: st) (cs ++ [zI G N (fun _ => 0)])) : V G E pc lv (.int (iI z) :: st) cs := by
  intro H locs ls hl hP hD hS
  obtain ⟨C, i2, i3, i4, i5, i6⟩ := id I
  refine va_newa (D := G.D) (cl := vwCl) (tys := zty G.cy) (atype := .int) (ty := .int) (N' := N) (a0 := (N, .inl (zf (fun _ => 0)))) C.1 C.2.1 (C.w hw) rfl C.k hP hD hS i4 (fun cA => rfl) (by rw [← iI_0, iI_lt (by omega) (by omega)]; omega) (by rw [iI_clamp (by omega)]; omega) (by show N * 4 ≤ 536870912; omega) (by omega) (by omega) hd (fun q cA H1 hK1 hP1 hD1 hS1 => ?_)
  have e1 : E.s.vm.findClass ("[" ++ FieldType.int.toString) = some (G.cy 0) := (C.k.2 0 (G.cy 0, .int) rfl).2
  have e2 : E.s.vm.findClass ("[" ++ FieldType.int.toString) = some cA := (hK1.2 4 (cA, .int) rfl).2
  have e3 : cA = G.cy 0 := by rw [e1] at e2; exact (Option.some.inj e2).symm
  subst e3
  have e := zw_ext (G := G) (f := fun _ => q) (es := [zI G N (fun _ => 0)]) hn
  exact kk (fun _ => q) (I.up hm.1 hm.2) H1 locs ls hl (by rw [e]; exact hP1) (by rw [e]; exact hD1) hS1
theorem V_newJ (I : zI2 G E own cc nL fr lo mc ms) {z : Int} {N n : Nat} (hz : z = (N : Int)) (hN : N ≤ 1000) (hm : 1 ≤ mc ∧ N ≤ ms) (hn : cs.length = n) (hw : zW (.arrayClass .long)) (hd : decode cc pc = .ok (.newarray .long, 2)) (kk : ∀ f : Nat → Nat, zI2 (G.ext n f) (E.up 1 N) own cc nL fr lo (mc - 1) (ms - N) → V (G.ext n f) (E.up 1 N) (pc + 2) lv (.ref (f 0) :: st) (cs ++ [zJ G N (fun _ => 0)])) : V G E pc lv (.int (iI z) :: st) cs := by
  intro H locs ls hl hP hD hS
  obtain ⟨C, i2, i3, i4, i5, i6⟩ := id I
  refine va_newa (D := G.D) (cl := vwCl) (tys := zty G.cy) (atype := .long) (ty := .long) (N' := N) (a0 := (N, .inr (.inl (zg (fun _ => 0))))) C.1 C.2.1 (C.w hw) rfl C.k hP hD hS i4 (fun cA => rfl) (by rw [← iI_0, iI_lt (by omega) (by omega)]; omega) (by rw [iI_clamp (by omega)]; omega) (by show N * 8 ≤ 536870912; omega) (by omega) (by omega) hd (fun q cA H1 hK1 hP1 hD1 hS1 => ?_)
  have e1 : E.s.vm.findClass ("[" ++ FieldType.long.toString) = some (G.cy 1) := (C.k.2 1 (G.cy 1, .long) rfl).2
  have e2 : E.s.vm.findClass ("[" ++ FieldType.long.toString) = some cA := (hK1.2 4 (cA, .long) rfl).2
  have e3 : cA = G.cy 1 := by rw [e1] at e2; exact (Option.some.inj e2).symm
  subst e3
  have e := zw_ext (G := G) (f := fun _ => q) (es := [zJ G N (fun _ => 0)]) hn
  exact kk (fun _ => q) (I.up hm.1 hm.2) H1 locs ls hl (by rw [e]; exact hP1) (by rw [e]; exact hD1) hS1
theorem V_newS (I : zI2 G E own cc nL fr lo mc ms) {z : Int} {N n index : Nat} (hz : z = (N : Int)) (hN : N ≤ 1000) (hm : 1 ≤ mc ∧ N ≤ ms) (hn : cs.length = n) (hw : zW (.classLink own index RX4)) (hd : decode cc pc = .ok (.anewarray index, 3)) (kk : ∀ f : Nat → Nat, zI2 (G.ext n f) (E.up 1 N) own cc nL fr lo (mc - 1) (ms - N) → V (G.ext n f) (E.up 1 N) (pc + 3) lv (.ref (f 0) :: st) (cs ++ [.inl (G.cy 2, N, .inr (.inr (.inr (.inr (fun _ => none)))))])) : V G E pc lv (.int (iI z) :: st) cs := by
  intro H locs ls hl hP hD hS
  obtain ⟨C, i2, i3, i4, i5, i6⟩ := id I
  refine va_newq (D := G.D) (cl := vwCl) (tys := zty G.cy) (C := RX4) (N' := N) C.1 C.2.1 C.2.2.2.1 (C.w hw) i3.1 C.k hP hD hS i4 (by rw [← iI_0, iI_lt (by omega) (by omega)]; omega) (by rw [iI_clamp (by omega)]; omega) (by omega) (by omega) (by omega) hd (fun q cA H1 hK1 hP1 hD1 hS1 => ?_)
  obtain ⟨kA, comp, -, -, -, e1⟩ := (C.k.2 2 (G.cy 2, .object "ModalKeys$Sheet") rfl).2
  obtain ⟨kA2, comp2, -, -, -, e2⟩ := (hK1.2 4 (cA, .object RX4) rfl).2
  have e2' : E.s.vm.findClass ("[" ++ (FieldType.object "ModalKeys$Sheet").toString) = some cA := e2
  have e3 : cA = G.cy 2 := by rw [e1] at e2'; exact (Option.some.inj e2').symm
  subst e3
  have e := zw_ext (G := G) (f := fun _ => q) (es := [.inl (G.cy 2, N, .inr (.inr (.inr (.inr (fun _ => none)))))]) hn
  exact kk (fun _ => q) (I.up hm.1 hm.2) H1 locs ls hl (by rw [e]; exact hP1) (by rw [e]; exact hD1) hS1
/-- a final field, in a constructor of its class -/
theorem V_putF (I : zI2 G E own cc nL fr lo mc ms) (hne : own ≠ RL) {T : u_T} {k ci N index : Nat} {Cn : String} {ty0 : Nat → FieldType} (hw : zW (.fieldLink own index (T k).1 (T k).2.1 (T k).2.2.1)) (hc : vwCl[ci]? = some (Cn, T, N)) (hty : ∀ k, k < N → parseFieldDescriptor (T k).2.2.1 = some (ty0 k)) (hnm : ∀ a, a < N → ∀ b, b < N → a ≠ b → (T a).2.1 ≠ (T b).2.1) (hk : k < N) (hfin : (T k).2.2.2 = true) (hdecl : (T k).1 = own) {v : Value} (hn : narrow (ty0 k) v = v) (hfit : fits (ty0 k) v = true) (hd : decode cc pc = .ok (.putfield index, 3)) {q a : Nat} {fs : List Value} (ha : a = G.ad q) (he : cs[q]? = some (.inr (ci, fs))) (hl9 : k < fs.length) (kk : V G E (pc + 3) lv st (cs.set q (.inr (ci, fs.set k v)))) : V G E pc lv (v :: .ref a :: st) cs := by
  intro H locs ls hl hP hD hS
  have C := I.1
  subst ha
  exact va_putF (D := G.D) (cl := vwCl) (Ts := u_ws Cn T N) C.1 C.2.1 (fun w h => C.w (zu hc w h)) (fun _ h => h) ty0 hty hnm C.2.2.2.1 C.k hP hD hS q (zw_at he) hc k hk (C.w hw) (fun _ h => h) hfin (I.2.1 hne) hdecl (hty k hk) hn hfit hl9 hd (fun H1 locs1 hP1 hD1 hS1 => kk H1 locs1 ls hl (by rw [zw_set] at hP1; exact hP1) (by rw [zw_set] at hD1; exact hD1) hS1)
theorem V_objInit (C : zC G E own cc nL fr lo) {idx a : Nat} (h1 : zW (.methodLink own idx objectInit)) (h2 : zW (.instanceMethod objectInit)) (h3 : zW (.code objectInit ⟨#[0xb1]⟩ 1 none)) (hd : decode cc pc = .ok (.invokespecial idx, 3)) (hf : 1 ≤ fr ∧ 12 ≤ lo) (k : V G E (pc + 3) lv [] cs) : V G E pc lv [.ref a] cs := by
  intro H locs ls hl hP hD hS
  refine W.objInit C.1 C.2.1 C.2.2.2.1 (C.w h1) (C.w h2) (C.w h3) rfl hl.1 rfl hd (Nat.le_trans hf.1 C.2.2.2.2.1) (Nat.le_trans hf.2 C.2.2.2.2.2.1) ?_
  exact k H locs ls hl hP hD hS
end CT
