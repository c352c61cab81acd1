/-! ===== contracts of constructors ===== -/
abbrev zG0 (l : Launch) (D : va_G) (cy : Nat → ClassId) (h0 : Nat) : zG := (l, D, cy, fun _ => h0)
abbrev zAi (h0 sz : Nat) : Nat → Prop := fun q => q = h0 ∨ sz ≤ q
def zQi (l : Launch) (D : va_G) (cy : Nat → ClassId) (h0 sz : Nat) (F : zG → List va_E) : Array Value → State → Outcome → State → Prop := fun _ st oc t =>
  (∃ f : Nat → Nat, oc = .returned none ∧ va_P D vwCl (zw ((zG0 l D cy h0).ext 1 f).ad (F ((zG0 l D cy h0).ext 1 f))) t.heap ∧ va_D (zAi h0 sz) (zw ((zG0 l D cy h0).ext 1 f).ad (F ((zG0 l D cy h0).ext 1 f)))) ∧ va_F (zAi h0 sz) st t
def zBi (D : va_G) (cy : Nat → ClassId) (h0 sz : Nat) (e0 : va_E) (U : State) : Prop := U.heap.size = sz ∧ va_P D vwCl [(h0, e0)] U.heap ∧ va_K D vwCl (zty cy) U ∧ zT U ∧ zAO U
def zIni (l : Launch) (D : va_G) (cy : Nat → ClassId) (y : MethodName) (cc : ByteArray) (nL fr lo mc ms : Nat) (e0 : va_E) (F : zG → List va_E) : Prop := ∀ h0 sz : Nat,
  Met l y [.code y cc nL none] { frames := fr, cells := mc, slots := ms, locals := lo } (va_Pc [.ref h0] (zBi D cy h0 sz e0)) (zQi l D cy h0 sz F) mc ms (zAi h0 sz)
def zRI (E : zE) (l : Launch) (D : va_G) (cy : Nat → ClassId) (h0 sz mc ms : Nat) (F : zG → List va_E) : Prop := E.meth.sig.returnType = none ∧ E.meth.locks = false ∧ E.A = zAi h0 sz ∧ E.Q = MQ E.below (zQi l D cy h0 sz F) E.args E.s mc ms (zAi h0 sz)
section CU
variable {G : zG} {E : zE} {own : String} {cc : ByteArray} {nL fr lo pc mc ms : Nat} {lv : List (Option Value)} {st : List Value} {cs : List va_E} {l : Launch} {D : va_G} {cy : Nat → ClassId} {y : MethodName} {e0 : va_E} {F : zG → List va_E}
theorem zIni.of (hy : plainName y.cls = true) (hyn : y.name = "<init>") (hnL : 1 ≤ nL) (h : ∀ (h0 sz : Nat) (E : zE), zI2 (zG0 l D cy h0) E y.cls cc nL fr lo mc ms → zRI E l D cy h0 sz mc ms F → E.cells = 0 → E.slots = 0 → V (zG0 l D cy h0) E 0 (zent [.ref h0] nL) [] [e0]) : zIni l D cy y cc nL fr lo mc ms e0 F := by
  intro h0 sz
  refine Met.ofW (cc := cc) (maxL := nL) (ret := none) hy rfl ?_
  intro p e s m args below meth c s₁ B hml hv
  obtain ⟨rfl, hsz, hP, hK, hT, hAO⟩ := hv
  have key := h h0 sz (p, e, { frames := fr, cells := mc, slots := ms, locals := lo }, s, m, [Value.ref h0].toArray, below, meth, c, 0, 0, MQ below (zQi l D cy h0 sz F) [Value.ref h0].toArray s mc ms (zAi h0 sz), zAi h0 sz) ⟨⟨B.exec, B.bytes, hml, findClass_of_methodNamed B.named, Nat.le_refl _, Nat.le_refl _, Nat.zero_le _, Nat.zero_le _, hK, hT⟩, fun _ => (name_of_methodNamed B.named B.method).1.trans hyn, hAO, fun q hq => Or.inr (by rw [← hsz]; exact hq), (show 0 + mc ≤ mc by omega), (show 0 + ms ≤ ms by omega)⟩ ⟨B.returns, B.notSynchronized, rfl, rfl⟩ rfl rfl
  rw [lg_entry_eq]
  have hz := zent_has [Value.ref h0] (n := nL) hnL
  have hz2 : zls ((lg_sl [Value.ref h0] ++ List.replicate (nL - (lg_sl [Value.ref h0]).length) Slot.unset).toArray) c.maxLocals (zent [Value.ref h0] nL) := by rw [hml]; exact hz
  refine key s.heap [] _ hz2 hP ⟨fun i j a b hi hj _ => ?_, fun k q hq => ?_⟩ va_S.rf
  · have h1 : i < 1 := (List.getElem?_eq_some_iff.mp hi).1
    have h2 : j < 1 := (List.getElem?_eq_some_iff.mp hj).1
    omega
  · have h1 : k < 1 := (List.getElem?_eq_some_iff.mp hq).1
    rw [show k = 0 by omega] at hq
    cases hq
    exact Or.inl rfl
theorem V_iniret {h0 sz : Nat} (C : zC G E own cc nL fr lo) (R : zRI E G.l G.D G.cy h0 sz mc ms F) (hcell : E.cells = mc) (hslot : E.slots = ms) (h1 : G.ad 0 = h0) (hF : cs = F G) (hd : decode cc pc = .ok (.return_, 1)) : V G E pc lv [] cs := by
  intro H locs ls hl hP hD hS
  have eG : (zG0 G.l G.D G.cy h0).ext 1 (fun k => G.ad (k + 1)) = G := by
    have e : (fun k => if k < 1 then h0 else G.ad (k - 1 + 1)) = G.ad := funext fun k => by
      by_cases e : k < 1
      · rw [if_pos e, show k = 0 by omega]; exact h1.symm
      · rw [if_neg e, show k - 1 + 1 = k by omega]
    show (G.l, G.D, G.cy, (fun k => if k < 1 then h0 else G.ad (k - 1 + 1))) = G
    rw [e]
  rw [R.2.2.1] at hD hS
  rw [hcell, hslot, R.2.2.2]
  exact W.vret C.1 C.2.1 R.1 (fun t ht _ => ⟨⟨fun k => G.ad (k + 1), rfl, by rw [eG, ht, ← hF]; exact hP, by rw [eG, ← hF]; exact hD⟩, hS.F ht⟩) (fun q h => hS.2.2 q h) hd R.2.1
theorem zBi_blind {h0 sz : Nat} : FrameBlind (va_Pc [.ref h0] (zBi D cy h0 sz e0)) := fun _ U _ _ h => ⟨h.1, h.2.1, h.2.2.1, va_K.moved (u := U) (Vm.Alike.refl U.vm) h.2.2.2.1, zT_warm (s := U) (State.WarmedH.refl U) h.2.2.2.2.1, zAO.moved (u := U) (Vm.Alike.refl U.vm) h.2.2.2.2.2⟩
/-- behind the call of a constructor: the caller's other cells stay, the new ones come behind -/
theorem V_made {mc' ms' n j : Nat} {es : (Nat → Nat) → List va_E} {H : Heap} {locs : List Loc} {ls : Array Slot} {stk : List Value} {av : Array Value} (I : zI2 G E own cc nL fr lo mc ms) (hm : mc' ≤ mc ∧ ms' ≤ ms) (hn : cs.length = n) (he : cs[j]? = some e0) (oF : (Nat → Nat) → va_E) (hFe : ∀ f, F ((zG0 G.l G.D G.cy (G.ad j)).ext 1 f) = oF f :: es f)
    (hr : va_Run E.p G.l E.e E.R E.s E.m E.args E.below E.meth E.c H locs E.cells E.slots mc' ms' (F0 E.m pc ls stk) st (zQi G.l G.D G.cy (G.ad j) H.size F av) (zAi (G.ad j) H.size)) (hl : zls ls E.c.maxLocals lv) (hP : va_P G.D vwCl (zw G.ad cs) H) (hD : va_D E.A (zw G.ad cs)) (hS : va_S E.A E.s.heap H locs) (kk : ∀ f : Nat → Nat, zI2 (G.ext n f) (E.up mc' ms') own cc nL fr lo (mc - mc') (ms - ms') → V (G.ext n f) (E.up mc' ms') (pc + 3) lv st (cs.set j (oF f) ++ es f)) : W E.p G.l E.e E.R E.s E.m E.args E.below E.meth E.c H locs E.cells E.slots E.Q (F0 E.m pc ls stk) := by
  intro T hT X
  obtain ⟨v, st₀, t, T', L, h0, X', hL, e1, e2, ⟨⟨f, hv, hP', hD'⟩, hz, hk⟩, stp⟩ := hr T hT X
  cases hv
  rw [h0] at hz hk
  rw [hFe f] at hP' hD'
  have i4 := I.2.2.2.1
  have hjl : j < cs.length := (List.getElem?_eq_some_iff.mp he).1
  have hA : ∀ q, zAi (G.ad j) H.size q → E.A q := fun q hq => by
    rcases hq with rfl | hq
    · exact va_D_in hD hjl
    · exact i4 q (Nat.le_trans hS.1 hq)
  have hS' : va_S E.A E.s.heap T'.heap (locs ++ L) := ⟨Nat.le_trans hS.1 (by rw [e1]; exact hz), fun q h1 h2 => by rw [e1, hk q (Nat.lt_of_lt_of_le h1 hS.1) (fun z => h2 (hA q z))]; exact hS.2.1 q h1 h2, fun q hq => by
      rcases List.mem_append.mp hq with h | h
      · exact hS.2.2 q h
      · exact hA _ (hL q h)⟩
  -- the callee's cells, by their places
  have a0 : ((zG0 G.l G.D G.cy (G.ad j)).ext 1 f).ad 0 = G.ad j := rfl
  have aS : ∀ k, ((zG0 G.l G.D G.cy (G.ad j)).ext 1 f).ad (k + 1) = f k := fun k => by
    show (if k + 1 < 1 then G.ad j else f (k + 1 - 1)) = f k
    rw [if_neg (by omega), show k + 1 - 1 = k by omega]
  have c0 : (zw ((zG0 G.l G.D G.cy (G.ad j)).ext 1 f).ad (oF f :: es f))[0]? = some (G.ad j, oF f) := by rw [zw_get]; rfl
  have cS : ∀ (k : Nat) (e : va_E), (es f)[k]? = some e → (zw ((zG0 G.l G.D G.cy (G.ad j)).ext 1 f).ad (oF f :: es f))[k + 1]? = some (f k, e) := fun k e h => by
    rw [zw_get, List.getElem?_cons_succ, h, aS k]; rfl
  have hew := zw_ext (G := G) (f := f) (cs := cs.set j (oF f)) (es := es f) (n := n) (by rw [List.length_set]; exact hn)
  have hset : (zw G.ad (cs.set j (oF f))) = (zw G.ad cs).set j (G.ad j, oF f) := (zw_set G.ad cs j (oF f)).symm
  have hlz : (zw G.ad cs).length = n := by unfold zw; rw [List.length_mapIdx, hn]
  have hold : ∀ (k : Nat) (q : Nat × va_E), (zw G.ad cs)[k]? = some q → q.1 < H.size := fun k q hq => (hP k q hq).lt
  have hnew : ∀ (k : Nat) (e : va_E), (es f)[k]? = some e → H.size ≤ f k := fun k e h => by
    have q1 := hD'.2 _ _ (cS k e h)
    rcases q1 with q1 | q1
    · have := hD'.1 _ _ _ _ (cS k e h) c0 q1
      omega
    · exact q1
  have split : ∀ (k : Nat) (q : Nat × va_E), (zw (G.ext n f).ad (cs.set j (oF f) ++ es f))[k]? = some q → (k < n ∧ k ≠ j ∧ (zw G.ad cs)[k]? = some q) ∨ (k = j ∧ q = (G.ad j, oF f)) ∨ (n ≤ k ∧ ∃ e, (es f)[k - n]? = some e ∧ q = (f (k - n), e)) := fun k q hq => by
    rw [hew] at hq
    by_cases hkn : k < n
    · rw [List.getElem?_append_left (by rw [hset, List.length_set]; omega), hset] at hq
      by_cases hkj : k = j
      · subst hkj
        rw [List.getElem?_set_self (by omega)] at hq
        exact Or.inr (Or.inl ⟨rfl, (Option.some.inj hq).symm⟩)
      · rw [List.getElem?_set_ne (fun z => hkj z.symm)] at hq
        exact Or.inl ⟨hkn, hkj, hq⟩
    · rw [List.getElem?_append_right (by rw [hset, List.length_set]; omega), hset, List.length_set, hlz, zw_get] at hq
      obtain ⟨e, h1, h2⟩ := Option.map_eq_some_iff.mp hq
      exact Or.inr (Or.inr ⟨by omega, e, h1, h2.symm⟩)
  have hjat : (zw G.ad cs)[j]? = some (G.ad j, e0) := zw_at he
  have hPn : va_P G.D vwCl (zw (G.ext n f).ad (cs.set j (oF f) ++ es f)) T'.heap := fun k q hq => by
    rcases split k q hq with ⟨h1, h2, h3⟩ | ⟨h1, h2⟩ | ⟨h1, e, h2, h3⟩
    · have hlt := hold k q h3
      have hne : ¬ zAi (G.ad j) H.size q.1 := fun z => by
        rcases z with z | z
        · exact h2 (hD.1 k j q (G.ad j, e0) h3 hjat z)
        · omega
      exact (va_P.kept (ws := [q]) (fun k2 q2 hq2 => by
        have h9 : k2 < 1 := (List.getElem?_eq_some_iff.mp hq2).1
        rw [show k2 = 0 by omega] at hq2
        cases hq2
        exact hP k q h3) (fun k2 q2 hq2 => by
        have h9 : k2 < 1 := (List.getElem?_eq_some_iff.mp hq2).1
        rw [show k2 = 0 by omega] at hq2
        cases hq2
        rw [e1]; exact hk q.1 hlt hne)) 0 q rfl
    · rw [h2, e1]; exact hP' 0 _ c0
    · rw [h3, e1]; exact hP' _ _ (cS _ e h2)
  have hDn : va_D E.A (zw (G.ext n f).ad (cs.set j (oF f) ++ es f)) := by
    refine ⟨fun k1 k2 q1 q2 hq1 hq2 hee => ?_, fun k q hq => ?_⟩
    · rcases split k1 q1 hq1 with ⟨a1, a2, a3⟩ | ⟨a1, a2⟩ | ⟨a1, ea, a2, a3⟩ <;> rcases split k2 q2 hq2 with ⟨b1, b2, b3⟩ | ⟨b1, b2⟩ | ⟨b1, eb, b2, b3⟩
      · exact hD.1 k1 k2 q1 q2 a3 b3 hee
      · exact absurd (hD.1 k1 j q1 (G.ad j, e0) a3 hjat (by rw [hee, b2])) a2
      · have := hold k1 q1 a3
        have := hnew _ eb b2
        rw [hee, b3] at *
        omega
      · exact absurd (hD.1 k2 j q2 (G.ad j, e0) b3 hjat (by rw [← hee, a2])) b2
      · omega
      · have := hold j _ hjat
        have := hnew _ eb b2
        rw [a2, b3] at hee
        dsimp only at *
        omega
      · have := hold k2 q2 b3
        have := hnew _ ea a2
        rw [← hee, a3] at *
        omega
      · have := hold j _ hjat
        have := hnew _ ea a2
        rw [a3, b2] at hee
        dsimp only at *
        omega
      · rw [a3, b3] at hee
        have := hD'.1 _ _ _ _ (cS _ ea a2) (cS _ eb b2) hee
        omega
    · rcases split k q hq with ⟨a1, a2, a3⟩ | ⟨a1, a2⟩ | ⟨a1, ea, a2, a3⟩
      · exact hD.2 k q a3
      · rw [a2]; exact va_D_in hD hjl
      · rw [a3]; exact i4 _ (Nat.le_trans hS.1 (hnew _ ea a2))
  obtain ⟨t2, x1, x2⟩ := kk f (I.up hm.1 hm.2) T'.heap (locs ++ L) ls hl hPn hDn hS' T' rfl X'
  exact ⟨t2, stp t2 x1, x2⟩
theorem V_iniN {fr' lo' mc' ms' n j a index maxL : Nat} {bytes : ByteArray} {host : String} {es : (Nat → Nat) → List va_E} (I : zI2 G E own cc nL fr lo mc ms) (hlink : zW (.methodLinkNest own index y host)) (hinst : zW (.instanceMethod y)) (hini : zW (.initialized y.cls)) (hcode : zW (.code y bytes maxL none)) (hpl : zPl y 0) (hyn : y.name = "<init>") (Z : zIni G.l G.D G.cy y bytes maxL fr' lo' mc' ms' e0 F) (hm : mc' ≤ mc ∧ ms' ≤ ms) (hn : cs.length = n) (ha : a = G.ad j) (he : cs[j]? = some e0) (oF : (Nat → Nat) → va_E) (hFe : ∀ f, F ((zG0 G.l G.D G.cy (G.ad j)).ext 1 f) = oF f :: es f) (hd : decode cc pc = .ok (.invokespecial index, 3)) (hroom : fr' + 1 ≤ fr ∧ 8 + (maxL + 11) + lo' ≤ lo) (hcat : (st.map fun v => v.category).sum ≤ 8) (kk : ∀ f : Nat → Nat, zI2 (G.ext n f) (E.up mc' ms') own cc nL fr lo (mc - mc') (ms - ms') → V (G.ext n f) (E.up mc' ms') (pc + 3) lv st (cs.set j (oF f) ++ es f)) : V G E pc lv (.ref a :: st) cs := by
  intro H locs ls hl hP hD hS
  obtain ⟨C, i2, i3, i4, i5, i6⟩ := id I
  subst ha
  refine V_made I hm hn he oF hFe (va_runIN (Ts := []) (host := host) (As := []) ⟨C.1, C.2.1, C.2.2.1, C.2.2.2.1, fun w h => absurd h List.not_mem_nil⟩ (Z (G.ad j) H.size) (bytes := bytes) (maxL := maxL) (n := 0) ⟨⟨⟨rfl, rfl, Nat.le_trans hroom.1 C.2.2.2.2.1, Nat.le_trans hroom.2 C.2.2.2.2.2.1, ?_, List.mem_cons_self⟩, C.w hcode, C.w hini, ⟨hpl.1, hpl.2.1⟩, ?_, C.w hlink⟩, hyn, C.w hinst⟩ ⟨zBi_blind, fun U hU hW => ⟨rfl, by rw [hU], fun k q hq => ?_, va_K.moved hW.alike C.k, zT_warm hW C.t, zAO.moved hW.alike i3⟩⟩ rfl rfl (by rw [← C.2.2.1]; exact hl.1) rfl (lv_room hcat) hd ⟨by omega, by omega⟩) hl hP hD hS kk
  · intro w hw a' U hW
    rw [List.mem_singleton] at hw
    subst hw
    exact C.t.all hcode a' U hW
  · intro sig h
    have h2 := hpl.2.2
    rw [h] at h2
    exact (Option.some.inj h2).symm
  · have h1 : k < 1 := (List.getElem?_eq_some_iff.mp hq).1
    rw [show k = 0 by omega] at hq
    cases hq
    rw [hU]; exact hP j _ (zw_at he)
theorem V_iniL {fr' lo' mc' ms' n j a index maxL : Nat} {bytes : ByteArray} {es : (Nat → Nat) → List va_E} (I : zI2 G E own cc nL fr lo mc ms) (hlink : zW (.methodLink own index y)) (hinst : zW (.instanceMethod y)) (hini : zW (.initialized y.cls)) (hcode : zW (.code y bytes maxL none)) (hpl : zPl y 0) (hyn : y.name = "<init>") (Z : zIni G.l G.D G.cy y bytes maxL fr' lo' mc' ms' e0 F) (hm : mc' ≤ mc ∧ ms' ≤ ms) (hn : cs.length = n) (ha : a = G.ad j) (he : cs[j]? = some e0) (oF : (Nat → Nat) → va_E) (hFe : ∀ f, F ((zG0 G.l G.D G.cy (G.ad j)).ext 1 f) = oF f :: es f) (hd : decode cc pc = .ok (.invokespecial index, 3)) (hroom : fr' + 1 ≤ fr ∧ 8 + (maxL + 11) + lo' ≤ lo) (hcat : (st.map fun v => v.category).sum ≤ 8) (kk : ∀ f : Nat → Nat, zI2 (G.ext n f) (E.up mc' ms') own cc nL fr lo (mc - mc') (ms - ms') → V (G.ext n f) (E.up mc' ms') (pc + 3) lv st (cs.set j (oF f) ++ es f)) : V G E pc lv (.ref a :: st) cs := by
  intro H locs ls hl hP hD hS
  obtain ⟨C, i2, i3, i4, i5, i6⟩ := id I
  subst ha
  refine V_made I hm hn he oF hFe (va_runI (Ts := []) (As := []) ⟨C.1, C.2.1, C.2.2.1, C.2.2.2.1, fun w h => absurd h List.not_mem_nil⟩ (Z (G.ad j) H.size) (bytes := bytes) (maxL := maxL) (n := 0) ⟨⟨rfl, rfl, Nat.le_trans hroom.1 C.2.2.2.2.1, Nat.le_trans hroom.2 C.2.2.2.2.2.1, ?_, List.mem_cons_self, C.w hcode, C.w hini, ⟨hpl.1, hpl.2.1⟩, ?_, C.w hlink⟩, hyn, C.w hinst⟩ ⟨zBi_blind, fun U hU hW => ⟨rfl, by rw [hU], fun k q hq => ?_, va_K.moved hW.alike C.k, zT_warm hW C.t, zAO.moved hW.alike i3⟩⟩ rfl rfl (by rw [← C.2.2.1]; exact hl.1) rfl (lv_room hcat) hd ⟨by omega, by omega⟩) hl hP hD hS kk
  · intro w hw a' U hW
    rw [List.mem_singleton] at hw
    subst hw
    exact C.t.all hcode a' U hW
  · intro sig h
    have h2 := hpl.2.2
    rw [h] at h2
    exact (Option.some.inj h2).symm
  · have h1 : k < 1 := (List.getElem?_eq_some_iff.mp hq).1
    rw [show k = 0 by omega] at hq
    cases hq
    rw [hU]; exact hP j _ (zw_at he)
end CU
