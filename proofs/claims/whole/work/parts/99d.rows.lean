def va_AOA (ty : FieldType) (U : State) : Prop := (Cond.arrayOver (.array ty)).before #[] U = true
theorem va_AOA.use {ty : FieldType} {A : Array Value} {U : State} (h : va_AOA ty U) : (Cond.arrayOver (.array ty)).before A U = true := h
/-! ===== BEGIN new T[n][m]: the outer array a place, the inner ones among the pooled ===== -/
/-- f, but v at every address of l -/
def vr_up {α : Type} (f : Nat → α) (l : List Nat) (v : α) : Nat → α := fun a => if a ∈ l then v else f a
theorem vr_up_in {α : Type} {f : Nat → α} {l : List Nat} {v : α} {a : Nat} (h : a ∈ l) : vr_up f l v a = v := if_pos h
theorem vr_up_ne {α : Type} {f : Nat → α} {l : List Nat} {v : α} {a : Nat} (h : a ∉ l) : vr_up f l v a = f a := if_neg h
theorem vr_rows {L l : List Nat} {f : Nat → va_E} {e : va_E} (h : ∀ a, a ∈ l → a ∉ L) : va_pl L f ++ l.map (fun a => (a, e)) = va_pl (L ++ l) (vr_up f l e) := by
  unfold va_pl
  rw [List.map_append]
  congr 1
  · apply List.map_congr_left
    intro a ha
    rw [vr_up_ne (fun q => h a q ha)]
  · apply List.map_congr_left
    intro a ha
    rw [vr_up_in ha]
theorem vr_lay {X rows : va_W} {x : Nat × va_E} {pl : va_W} {D : va_G} {cl : List vw_C} {H : Heap} (hP : va_P D cl (((X ++ pl) ++ [x]) ++ rows) H) : va_P D cl ((X ++ [x]) ++ (pl ++ rows)) H := by
  rw [List.append_assoc (X ++ pl)] at hP
  have h := va_P.swap hP
  rw [← List.append_assoc X] at h
  have h2 := va_P.swap h
  rw [List.append_assoc (X ++ [x])] at h2
  exact h2
theorem vr_layD {X rows : va_W} {x : Nat × va_E} {pl : va_W} {A : Nat → Prop} (hD : va_D A (((X ++ pl) ++ [x]) ++ rows)) : va_D A ((X ++ [x]) ++ (pl ++ rows)) := by
  rw [List.append_assoc (X ++ pl)] at hD
  have h := va_D.swap hD
  rw [← List.append_assoc X] at h
  have h2 := va_D.swap h
  rw [List.append_assoc (X ++ [x])] at h2
  exact h2
theorem vr_outer (c : ClassId) (N h0 : Nat) : ∀ i : Nat, Jvm.Free.Multi.outerC c N h0 i = arrV c N (fun j => va_rf (if j < i then some (h0 + 1 + j) else none))
  | 0 => by
    show ({ cls := c, slots := Array.replicate N .null, vm := .none } : Cell) = _
    rw [arrV_new]
    refine congrArg (arrV c N) (funext fun j => ?_)
    simp [va_rf]
  | i + 1 => by
    show (Jvm.Free.Multi.outerC c N h0 i).setSlot i (.ref (h0 + 1 + i)) = _
    rw [vr_outer c N h0 i, arrV_store]
    refine congrArg (arrV c N) (funext fun j => ?_)
    by_cases e : j = i
    · subst e
      simp [updV, va_rf]
    · by_cases h : j < i
      · simp [updV, e, h, Nat.lt_succ_of_lt h]
      · simp [updV, e, h, show ¬ j < i + 1 by omega]
section VGM
variable {p : Program} {l : Launch} {e : Env} {R : Room} {s : State} {m : MethodId} {args : Array Value} {below : List Frame} {meth : Method} {c : Code} {H : Heap} {locs : List Loc} {cells slots : Nat} {Q : State → Prop}
variable {cc : ByteArray} {pc : Nat} {ls : Array Slot} {rest : List Value} {D : va_G} {cl : List vw_C} {A : Nat → Prop} {a : Nat} {tys : List (ClassId × FieldType)} {ws : va_W} {H0 : Heap}
theorem va_mna {X : va_W} {L : List Nat} {f : Nat → va_E} {cc : ByteArray} (hexec : p.tables.exec = Jvm.exec) (hb : c.code = cc) {own : String} {index : Nat} {ty : FieldType} {cy : ClassId} (hown : s.vm.findClass own = some m.cls) (hclink : (Cond.classLink own index ("[" ++ (FieldType.array ty).toString)).before args s = true) (hover : va_AOA ty s) (harr : (Cond.arrayClass ty).before args s = true) (hcy : s.vm.findClass (FieldType.array ty).toString = some cy)
    (hK : va_K D cl tys s) (hP : va_P D cl (X ++ va_pl L f) H) (hD : va_D A (X ++ va_pl L f)) (hS : va_S A H0 H locs) (hA : ∀ q, H0.size ≤ q → A q) {n k : Int32} {N' K' : Nat} {z : vp_A} (hn : ¬ n < 0) (hk : ¬ k < 0) (hN : n.toNatClampNeg = N') (hM : k.toNatClampNeg = K')
    (hb1 : N' * 4 ≤ 536870912) (hb2 : K' * componentBytes ty ≤ 536870912) (hb3 : K' ≤ 536870912) (hdf : fits ty (defaultValue ty) = true) (hdd : (defaultValue ty).isDefault = true) (hcells : cells + (1 + N') ≤ R.cells) (hslots : slots + (N' + N' * K') ≤ R.slots) (hz : ∀ c : ClassId, Jvm.Free.Multi.innerC c K' (defaultValue ty) = vp_cell c z) (hdg : decode cc pc = .ok (.multianewarray index 2, 4))
    (kk : ∀ (q : Nat) (r : Nat → Nat) (cA : ClassId) (H1 : Heap), (∀ i j : Nat, i < N' → j < N' → r i = r j → i = j) → (∀ i : Nat, i < N' → r i ∉ L) → va_K D cl (tys ++ [(cA, .array ty)]) s →
      va_P D cl ((X ++ [(q, .inl (cA, N', .inr (.inr (.inr (.inr (fun i => if i < N' then some (r i) else none))))))]) ++ va_pl (L ++ (List.range N').map r) (vr_up f ((List.range N').map r) (.inl (cy, z)))) H1 → va_D A ((X ++ [(q, .inl (cA, N', .inr (.inr (.inr (.inr (fun i => if i < N' then some (r i) else none))))))]) ++ va_pl (L ++ (List.range N').map r) (vr_up f ((List.range N').map r) (.inl (cy, z)))) → va_S A H0 H1 locs →
      W p l e R s m args below meth c H1 locs (cells + 1 + N') (slots + N' + N' * K') Q (F0 m (pc + 4) ls (.ref q :: rest))) : W p l e R s m args below meth c H locs cells slots Q (F0 m pc ls (.int k :: .int n :: rest)) := by
  subst hN
  subst hM
  intro T hT Xs
  obtain ⟨vm₁, cA, comp, -, fA, fC, hO, -, X', step⟩ := Xs.multianewarray2F hexec hown hclink (va_AOA.use hover) harr (g := F0 m pc ls (.int k :: .int n :: rest)) rfl (by rw [hb]; exact hdg) rfl hn hk hb1 hb2 hb3 hdf hdd hcells hslots
  have ec : some cy = some comp := hcy.symm.trans fC
  cases ec
  generalize hF : Jvm.Free.Multi.fill (T.setVm vm₁) cA cy n.toNatClampNeg k.toNatClampNeg (defaultValue ty) n.toNatClampNeg = F at X' step
  have hTh : (T.setVm vm₁).heap = H := hT
  obtain ⟨f1, f2, -, -⟩ := Jvm.Free.Multi.fill_facts (T.setVm vm₁) cA cy n.toNatClampNeg k.toNatClampNeg (defaultValue ty) n.toNatClampNeg
  rw [hF, hTh] at f1 f2
  have hold : ∀ x : Nat, x < H.size → F.heap[x]? = H[x]? := fun x hx => by
    have := Jvm.Free.Multi.fill_old (T.setVm vm₁) cA cy n.toNatClampNeg k.toNatClampNeg (defaultValue ty) (a := x) (by rw [hTh]; exact hx) n.toNatClampNeg
    rw [hF, hTh] at this
    exact this
  have hrow : ∀ j : Nat, j < n.toNatClampNeg → F.heap[H.size + 1 + j]? = some (vp_cell cy z) := fun j hj => by
    have := Jvm.Free.Multi.fill_inner (T.setVm vm₁) cA cy n.toNatClampNeg k.toNatClampNeg (defaultValue ty) n.toNatClampNeg j hj
    rw [hF, hTh, hz] at this
    exact this
  have hout : Jvm.Free.Multi.outerC cA n.toNatClampNeg H.size n.toNatClampNeg = vp_cell cA (n.toNatClampNeg, .inr (.inr (.inr (.inr (fun i => if i < n.toNatClampNeg then some (H.size + 1 + i) else none))))) := by
    rw [vp_cell_q]
    exact vr_outer cA n.toNatClampNeg H.size n.toNatClampNeg
  rw [hout] at f2
  have hlt : ∀ a, a ∈ L → a < H.size := fun a ha => by
    obtain ⟨k9, hk9⟩ := va_pl_get (X := X) (f := f) ha
    exact (hP k9 _ hk9).lt
  have hnl : ∀ i : Nat, i < n.toNatClampNeg → H.size + 1 + i ∉ L := fun i _ h => by
    have := hlt _ h
    omega
  have hnm : ∀ a, a ∈ (List.range n.toNatClampNeg).map (fun i => H.size + 1 + i) → a ∉ L := fun a ha h => by
    obtain ⟨i, -, rfl⟩ := List.mem_map.mp ha
    have := hlt _ h
    omega
  have hP0 : va_P D cl (X ++ va_pl L f) F.heap := hP.kept (fun k9 x hx => hold x.1 ((hP k9 x hx).lt))
  have hP1 : va_P D cl ((X ++ va_pl L f) ++ [(H.size, .inl (cA, n.toNatClampNeg, .inr (.inr (.inr (.inr (fun i => if i < n.toNatClampNeg then some (H.size + 1 + i) else none))))))]) F.heap := hP0.app (fun k9 x hx => by
    have h0 : k9 < 1 := (List.getElem?_eq_some_iff.mp hx).1
    rw [show k9 = 0 by omega] at hx
    cases hx
    exact f2)
  have hP2 : va_P D cl (((X ++ va_pl L f) ++ [(H.size, .inl (cA, n.toNatClampNeg, .inr (.inr (.inr (.inr (fun i => if i < n.toNatClampNeg then some (H.size + 1 + i) else none))))))]) ++ ((List.range n.toNatClampNeg).map (fun i => H.size + 1 + i)).map (fun a => (a, .inl (cy, z)))) F.heap := hP1.app (fun k9 x hx => by
    obtain ⟨a, ha, rfl⟩ := List.mem_map.mp (List.mem_of_getElem? hx)
    obtain ⟨i, hi, rfl⟩ := List.mem_map.mp ha
    exact hrow i (List.mem_range.mp hi))
  have hD2 : va_D A (((X ++ va_pl L f) ++ [(H.size, .inl (cA, n.toNatClampNeg, .inr (.inr (.inr (.inr (fun i => if i < n.toNatClampNeg then some (H.size + 1 + i) else none))))))]) ++ ((List.range n.toNatClampNeg).map (fun i => H.size + 1 + i)).map (fun a => (a, .inl (cy, z)))) := by
    have hD1 := hD.push (e := .inl (cA, n.toNatClampNeg, .inr (.inr (.inr (.inr (fun i => if i < n.toNatClampNeg then some (H.size + 1 + i) else none)))))) hP rfl (hA _ hS.1)
    generalize hW1 : (X ++ va_pl L f) ++ [(H.size, .inl (cA, n.toNatClampNeg, .inr (.inr (.inr (.inr (fun i => if i < n.toNatClampNeg then some (H.size + 1 + i) else none))))))] = W1 at hD1 hP1 ⊢
    have hle : ∀ (k9 : Nat) (x : Nat × va_E), W1[k9]? = some x → x.1 ≤ H.size := fun k9 x hx => by
      rw [← hW1] at hx
      by_cases hl : k9 < (X ++ va_pl L f).length
      · rw [List.getElem?_append_left hl] at hx
        exact Nat.le_of_lt ((hP k9 x hx).lt)
      · rw [List.getElem?_append_right (by omega)] at hx
        have h0 : k9 - (X ++ va_pl L f).length < 1 := (List.getElem?_eq_some_iff.mp hx).1
        rw [show k9 - (X ++ va_pl L f).length = 0 by omega] at hx
        cases hx
        exact Nat.le_refl _
    have hr : ∀ (k9 : Nat) (x : Nat × va_E), (((List.range n.toNatClampNeg).map (fun i => H.size + 1 + i)).map (fun a => ((a, .inl (cy, z)) : Nat × va_E)))[k9]? = some x → x.1 = H.size + 1 + k9 := fun k9 x hx => by
      rw [List.getElem?_map, List.getElem?_map] at hx
      by_cases h9 : k9 < n.toNatClampNeg
      · rw [List.getElem?_range h9] at hx
        cases hx
        rfl
      · have hn0 : (List.range n.toNatClampNeg)[k9]? = none := List.getElem?_eq_none (by rw [List.length_range]; omega)
        rw [hn0] at hx
        cases hx
    refine ⟨fun i j x y hi hj hxy => ?_, fun k9 x hx => ?_⟩
    · by_cases h1 : i < W1.length <;> by_cases h2 : j < W1.length
      · rw [List.getElem?_append_left h1] at hi
        rw [List.getElem?_append_left h2] at hj
        exact hD1.1 i j x y hi hj hxy
      · rw [List.getElem?_append_left h1] at hi
        rw [List.getElem?_append_right (by omega)] at hj
        have := hle _ _ hi
        have := hr _ _ hj
        omega
      · rw [List.getElem?_append_right (by omega)] at hi
        rw [List.getElem?_append_left h2] at hj
        have := hle _ _ hj
        have := hr _ _ hi
        omega
      · rw [List.getElem?_append_right (by omega)] at hi hj
        have := hr _ _ hi
        have := hr _ _ hj
        omega
    · by_cases h1 : k9 < W1.length
      · rw [List.getElem?_append_left h1] at hx
        exact hD1.2 k9 x hx
      · rw [List.getElem?_append_right (by omega)] at hx
        have := hr _ _ hx
        exact hA _ (by have := hS.1; omega)
  have hAr : ArrOfT s cA (.array ty) := fun N9 z9 => by
    obtain ⟨-, k9, hk9, cm9, hkk9⟩ := (hO 0 0 0).1
    exact ⟨(fun q hq => by cases hq), k9, hk9, cm9, hkk9⟩
  have hK2 : va_K D cl (tys ++ [(cA, .array ty)]) s := ⟨hK.1, fun k9 x hx => by
    by_cases hl : k9 < tys.length
    · rw [List.getElem?_append_left hl] at hx
      exact hK.2 k9 x hx
    · rw [List.getElem?_append_right (by omega)] at hx
      have h0 : k9 - tys.length < 1 := (List.getElem?_eq_some_iff.mp hx).1
      rw [show k9 - tys.length = 0 by omega] at hx
      cases hx
      exact ⟨hAr, fA⟩⟩
  obtain ⟨t, a1, b1⟩ := kk H.size (fun i => H.size + 1 + i) cA F.heap (fun i j _ _ h => by have h9 : H.size + 1 + i = H.size + 1 + j := h; omega) hnl hK2 (by rw [← vr_rows hnm]; exact vr_lay hP2) (by rw [← vr_rows hnm]; exact vr_layD hD2) ⟨by rw [f1]; have := hS.1; omega, fun x h1 h2 => (hold x (Nat.lt_of_lt_of_le h1 hS.1)).trans (hS.2.1 x h1 h2), hS.2.2⟩ F rfl X'
  refine ⟨t, step t ?_, b1⟩
  have e : T.heap.size = H.size := by rw [hT]
  rw [e]
  exact a1
end VGM
/-! ===== END ===== -/
/-! ===== the last rows over V ===== -/
section CV
variable {G : zG} {E : zE} {own : String} {cc : ByteArray} {nL fr lo pc mc ms : Nat} {lv : List (Option Value)} {st : List Value} {cs : List va_E}
abbrev zRow (G : zG) (N : Nat) (r : Nat → Nat) : va_E := .inl (G.cy 3, N, .inr (.inr (.inr (.inr (fun i => if i < N then some (r i) else none)))))
theorem V_mna (I : zI2 G E own cc nL fr lo mc ms) {z k : Int} {N K n index : Nat} (hz : z = (N : Int)) (hk : k = (K : Int)) (hN : N ≤ 1000) (hK : K ≤ 1000) (hm : 1 + N ≤ mc ∧ N + N * K ≤ ms) (hn : cs.length = n) (hcl : zW (.classLink own index "[[I")) (hw : zW (.arrayClass .int)) (hd : decode cc pc = .ok (.multianewarray index 2, 4)) (kk : ∀ f : Nat → Nat, zI2 (G.ext n f) (E.up (1 + N) (N + N * K)) own cc nL fr lo (mc - (1 + N)) (ms - (N + N * K)) → V (G.ext n f) (E.up (1 + N) (N + N * K)) (pc + 4) lv (.ref (f 0) :: st) (cs ++ (zRow G N (fun i => f (i + 1)) :: List.replicate N (zI G K (fun _ => 0))))) : V G E pc lv (.int (iI k) :: .int (iI z) :: st) cs := by
  intro H locs ls hl hP hD hS
  obtain ⟨C, i2, i3, i4, i5, i6⟩ := id I
  have e1 : E.s.vm.findClass ("[" ++ FieldType.int.toString) = some (G.cy 0) := (C.k.2 0 (G.cy 0, .int) rfl).2
  refine va_mna (D := G.D) (cl := vwCl) (tys := zty G.cy) (X := zw G.ad cs) (L := []) (f := fun _ => .inr (0, [])) (ty := .int) (cy := G.cy 0) (N' := N) (K' := K) (z := (K, .inl (zf (fun _ => 0)))) C.1 C.2.1 C.2.2.2.1 (C.w hcl) i3.2 (C.w hw) e1 C.k (by rw [show va_pl [] (fun _ => (.inr (0, []) : va_E)) = [] from rfl, List.append_nil]; exact hP) (by rw [show va_pl [] (fun _ => (.inr (0, []) : va_E)) = [] from rfl, List.append_nil]; exact hD) hS i4 (by rw [← iI_0, iI_lt (by omega) (by omega)]; omega) (by rw [← iI_0, iI_lt (by omega) (by omega)]; omega) (by rw [iI_clamp (by omega)]; omega) (by rw [iI_clamp (by omega)]; omega) (by omega) (by show K * 4 ≤ 536870912; omega) (by omega) rfl rfl (by omega) (by omega) (fun c => ?_) hd (fun q r cA H1 hr _ hK1 hP1 hD1 hS1 => ?_)
  · rw [vp_cell_i]
    show ({ cls := c, slots := Array.replicate K (defaultValue .int), vm := .none } : Cell) = _
    rw [arrV_new]; rfl
  · have e2 : E.s.vm.findClass ("[" ++ (FieldType.array .int).toString) = some cA := (hK1.2 4 (cA, .array .int) rfl).2
    have e3 : E.s.vm.findClass ("[" ++ (FieldType.array .int).toString) = some (G.cy 3) := (C.k.2 3 (G.cy 3, .array .int) rfl).2
    have e4 : cA = G.cy 3 := by rw [e3] at e2; exact (Option.some.inj e2).symm
    subst e4
    have ew : (zw G.ad cs ++ [(q, zRow G N r)]) ++ va_pl ([] ++ (List.range N).map r) (vr_up (fun _ => .inr (0, [])) ((List.range N).map r) (.inl (G.cy 0, K, .inl (zf (fun _ => 0))))) = zw (G.ext n (fun k => if k = 0 then q else r (k - 1))).ad (cs ++ (zRow G N (fun i => (fun k => if k = 0 then q else r (k - 1)) (i + 1)) :: List.replicate N (zI G K (fun _ => 0)))) := by
      rw [zw_ext hn, List.append_assoc]
      congr 1
      apply List.ext_getElem?
      intro k
      rw [zw_get]
      cases k with
      | zero => rfl
      | succ k =>
        show (va_pl ([] ++ (List.range N).map r) _)[k]? = Option.map _ ((List.replicate N (zI G K (fun _ => 0)))[k]?)
        unfold va_pl
        rw [List.nil_append, List.getElem?_map, List.getElem?_map]
        by_cases hk9 : k < N
        · rw [List.getElem?_range hk9, List.getElem?_replicate, if_pos hk9]
          show some (r k, vr_up _ _ _ (r k)) = some ((if k + 1 = 0 then q else r (k + 1 - 1)), _)
          rw [if_neg (by omega), show k + 1 - 1 = k by omega, vr_up_in (List.mem_map.mpr ⟨k, List.mem_range.mpr hk9, rfl⟩)]
        · rw [List.getElem?_eq_none (by rw [List.length_range]; omega), List.getElem?_replicate, if_neg hk9]; rfl
    have hgo := kk (fun k => if k = 0 then q else r (k - 1)) (I.up hm.1 hm.2) H1 locs ls hl (by rw [← ew]; exact hP1) (by rw [← ew]; exact hD1) hS1
    rw [show E.cells + 1 + N = E.cells + (1 + N) by omega, show E.slots + N + N * K = E.slots + (N + N * K) by omega]
    exact hgo
/-- a cell told in another way -/
theorem V_recell {q : Nat} {e e' : va_E} (he : cs[q]? = some e) (h : ∀ (a : Nat) (H : Heap), va_at G.D vwCl (a, e) H → va_at G.D vwCl (a, e') H) (kk : V G E pc lv st (cs.set q e')) : V G E pc lv st cs := by
  intro H locs ls hl hP hD hS
  have hq : q < cs.length := (List.getElem?_eq_some_iff.mp he).1
  have hlz : (zw G.ad cs).length = cs.length := by unfold zw; rw [List.length_mapIdx]
  have es : zw G.ad (cs.set q e') = (zw G.ad cs).set q (G.ad q, e') := (zw_set G.ad cs q e').symm
  have hat : (zw G.ad cs)[q]? = some (G.ad q, e) := zw_at he
  have hadr : ∀ (k : Nat) (x : Nat × va_E), ((zw G.ad cs).set q (G.ad q, e'))[k]? = some x → ∃ y : Nat × va_E, (zw G.ad cs)[k]? = some y ∧ y.1 = x.1 := fun k x hx => by
    by_cases hk : q = k
    · subst hk
      rw [List.getElem?_set_self (by omega)] at hx
      cases hx
      exact ⟨_, hat, rfl⟩
    · rw [List.getElem?_set_ne hk] at hx
      exact ⟨x, hx, rfl⟩
  refine kk H locs ls hl ?_ ?_ hS
  · rw [es]
    intro k x hx
    by_cases hk : q = k
    · subst hk
      rw [List.getElem?_set_self (by omega)] at hx
      cases hx
      exact h _ _ (hP q _ hat)
    · rw [List.getElem?_set_ne hk] at hx
      exact hP k x hx
  · rw [es]
    refine ⟨fun i j x y hx hy hxy => ?_, fun k x hx => ?_⟩
    · obtain ⟨x', x1, x2⟩ := hadr i x hx
      obtain ⟨y', y1, y2⟩ := hadr j y hy
      exact hD.1 i j x' y' x1 y1 (by rw [x2, y2]; exact hxy)
    · obtain ⟨x', x1, x2⟩ := hadr k x hx
      rw [← x2]; exact hD.2 k x' x1
theorem arrV_cg {c : ClassId} {n : Nat} {f g : Nat → Value} (h : ∀ j, j < n → f j = g j) : arrV c n f = arrV c n g := by
  unfold arrV
  congr 1
  apply Array.ext
  · simp
  · intro i h1 h2
    simp at h1 ⊢
    exact h i h1
theorem V_reI {q n : Nat} {g g' : Int → Int} (he : cs[q]? = some (zI G n g)) (h : ∀ j : Int, 0 ≤ j → j < n → g j = g' j) (kk : V G E pc lv st (cs.set q (zI G n g'))) : V G E pc lv st cs :=
  V_recell he (fun a H hx => by
    show H[a]? = some (vp_cell _ _)
    rw [show H[a]? = some (vp_cell (G.cy 0) (n, .inl (zf g))) from hx, vp_cell_i, vp_cell_i]
    congr 1
    exact arrV_cg (fun j hj => by show Value.int (iI (g (j : Int))) = Value.int (iI (g' (j : Int))); rw [h j (by omega) (by omega)])) kk
theorem V_reQ {q n : Nat} {c : ClassId} {f f' : Nat → Option Nat} (he : cs[q]? = some (.inl (c, n, .inr (.inr (.inr (.inr f)))))) (h : ∀ j : Nat, j < n → f j = f' j) (kk : V G E pc lv st (cs.set q (.inl (c, n, .inr (.inr (.inr (.inr f'))))))) : V G E pc lv st cs :=
  V_recell he (fun a H hx => by
    show H[a]? = some (vp_cell _ _)
    rw [show H[a]? = some (vp_cell c (n, .inr (.inr (.inr (.inr f))))) from hx, vp_cell_q, vp_cell_q]
    congr 1
    exact arrV_cg (fun j hj => by rw [h j hj])) kk
/-- a sheet laid into the row of sheets -/
theorem V_aastS (C : zC G E own cc nL fr lo) {i : Int} {q k a b n : Nat} {f : Nat → Option Nat} {vs : List Value} (ha : a = G.ad q) (hb : b = G.ad k) (he : cs[q]? = some (.inl (G.cy 2, n, .inr (.inr (.inr (.inr f)))))) (hv : cs[k]? = some (.inr (4, vs))) (h0 : 0 ≤ i ∧ i < n) (hn : n < 2147483648) (hd : decode cc pc = .ok (.aastore, 1)) (kk : V G E (pc + 1) lv st (cs.set q (.inl (G.cy 2, n, .inr (.inr (.inr (.inr (va_up f i.toNat (some b))))))))) : V G E pc lv (.ref b :: .int (iI i) :: .ref a :: st) cs := by
  intro H locs ls hl hP hD hS
  subst ha
  subst hb
  refine va_astq (D := G.D) (cl := vwCl) (tys := zty G.cy) (r := (RX4, TX4, 3)) C.1 C.2.1 C.k hP hD hS q 2 k 4 (zw_at he) rfl (zw_at hv) rfl (iI_in h0.1 h0.2 hn) hd (fun H1 locs1 hP1 hD1 hS1 => ?_)
  rw [iI_clamp (by omega), zw_set] at hP1 hD1
  exact kk H1 locs1 ls hl hP1 hD1 hS1
/-- the cells in another order -/
theorem V_perm {G' : zG} {cs' : List va_E} (pl : List Nat) (hG : G' = (G.l, G.D, G.cy, fun k => G.ad (pl.getD k 0))) (hnd : pl.Nodup) (h : pl.map (fun i => cs[i]?) = cs'.map some) (kk : V G' E pc lv st cs') : V G E pc lv st cs := by
  intro H locs ls hl hP hD hS
  have hlen : pl.length = cs'.length := by have := congrArg List.length h; rw [List.length_map, List.length_map] at this; exact this
  have key : ∀ (k : Nat) (x : Nat × va_E), (zw G'.ad cs')[k]? = some x → ∃ i, pl[k]? = some i ∧ (zw G.ad cs)[i]? = some x := fun k x hx => by
    rw [zw_get] at hx
    obtain ⟨e, h1, h2⟩ := Option.map_eq_some_iff.mp hx
    have hk : k < pl.length := by rw [hlen]; exact (List.getElem?_eq_some_iff.mp h1).1
    have h3 : (pl.map (fun i => cs[i]?))[k]? = some (some e) := by rw [h, List.getElem?_map, h1]; rfl
    rw [List.getElem?_map, List.getElem?_eq_getElem hk] at h3
    refine ⟨pl[k], List.getElem?_eq_getElem hk, ?_⟩
    have h4 : cs[pl[k]]? = some e := Option.some.inj h3
    rw [zw_get, h4, ← h2, hG]
    show some (G.ad pl[k], e) = some (G.ad (pl.getD k 0), e)
    rw [List.getD_eq_getElem?_getD, List.getElem?_eq_getElem hk]; rfl
  have hGD : G'.D = G.D := by rw [hG]
  have hGl : G'.l = G.l := by rw [hG]
  have w := kk H locs ls hl (by rw [hGD]; intro k x hx; obtain ⟨i, -, h2⟩ := key k x hx; exact hP i x h2) ⟨fun i j x y hx hy hxy => by
    obtain ⟨i', a1, a2⟩ := key i x hx
    obtain ⟨j', b1, b2⟩ := key j y hy
    have e := hD.1 i' j' x y a2 b2 hxy
    rw [e] at a1
    exact (List.getElem?_inj (List.getElem?_eq_some_iff.mp a1).1 hnd).mp (a1.trans b1.symm), fun k x hx => by obtain ⟨i, -, h2⟩ := key k x hx; exact hD.2 i x h2⟩ hS
  rw [hGl] at w
  exact w
end CV
