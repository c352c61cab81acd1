/-! THE CLAIM OUT OF ONE WALK OF THE LAW'S BODY. Your part is whole_start (and what it stands on); all else here is the same for every law, but numbers. -/
def R_law : String := "ModalKeysLaw"
def lw_P (b : Addr) (xs : List Int32) (args : Array Value) (s : State) : Prop := args = #[.ref b] ∧ s.IntsAt b xs ∧ xs.length ≤ 3072 ∧ (Jvm.Cond.and given_1 narrow_1).before args s = true
def lw_Q (_ : Array Value) (s : State) (o : Outcome) (t : State) : Prop := o = .returned (some (.int 1)) ∧ Framed s o t [] 600000 7302250
def lw_Z (below : List Frame) (a : Array Value) (s : State) : State → Prop := fun t => ∃ o, t.status = .running ∧ Ended t below o ∧ lw_Q a s o t
/-- the law's own end, with 1 on the stack, nothing written that was there before, its room as the claim has it -/
theorem lw_ret {p : Program} {l : Launch} {e : Env} {s : State} {m : MethodId} {below : List Frame} {meth : Method} {c : Code} {b : Nat} (hx : p.tables.exec = Jvm.exec) (hb : c.code = code) (hr : meth.sig.returnType = ret) (hlocks : meth.locks = false) {pc : Nat} {H : Heap} {ls : Array Slot} (hdg : decode code pc = .ok (.ireturn, 1)) : W p l e room_1 s m #[Value.ref b] below meth c H [] 600000 7302250 (lw_Z below #[Value.ref b] s) (F0 m pc ls [.int 1]) := by
  intro T hT X
  obtain ⟨fs, hret, hrun, hended, hW, hframe⟩ := X.leave (v := some (.int 1)) (hlocks := hlocks) (fun h => by rw [hr] at h; cases h)
  have hmeth' : T.vm.method? m = some meth := X.method'
  refine ⟨T.setFrames fs, ?_, .returned (some (.int 1)), hrun, hended, rfl, ⟨_, rfl⟩, hW, hframe⟩
  jvm_step X.here [X.here.top, hx, hb, hdg, hmeth', hr, ret, narrow_b1]
  (try refine ⟨rfl, ?_⟩); (try refine ⟨rfl, ?_⟩)
  first | (intro acts; rw [hret _ acts rfl rfl rfl]) | rw [hret _ _ rfl rfl rfl]
  exact Steps.refl _
/-- what holds at the law's entry: the machine, the code, the tables' words (any of lw_tbl by 'hts w (by decide +kernel)'), the script of L ints xs at the cell b, what the Statement gives of the start (any of its parts by flat_of_before) -/
def lw_At (p : Program) (s : State) (m : MethodId) (meth : Method) (c : Code) (b L : Nat) (xs : Nat → Int32) : Prop :=
  p.tables.exec = Jvm.exec ∧ c.code = code ∧ meth.sig.returnType = ret ∧ c.maxLocals = 4 ∧ s.vm.findClass R_law = some m.cls ∧ (∀ w ∈ lw_tbl, w.before #[Value.ref b] s = true) ∧ va_X b L xs s s.heap ∧ b < s.heap.size ∧ meth.locks = false ∧ (Jvm.Cond.and given_1 narrow_1).before #[Value.ref b] s = true
def pl0 : List Nat := [2, 3, 4, 5, 6, 7, 8, 9, 10, 11, 12, 13, 14, 15, 16, 17, 18, 19, 20, 21, 22, 23, 24, 25, 26, 27, 28, 29, 30, 31, 32, 33, 34, 35, 0, 1, 48, 49, 50, 51, 52, 53, 54, 55, 56, 36, 37, 38, 39, 40, 41, 42, 43, 44, 45, 46, 47, 57, 58, 59, 60, 61, 62, 63, 64, 65, 66, 67, 68, 69, 70]
theorem zW_all {s : State} {a : Array Value} (hts : ∀ w ∈ lw_tbl, w.before a s = true) : zT s := fun w hw args => by
  have h1 := hts w hw.1
  have h2 := hw.2
  unfold zgood at h2
  rcases Bool.or_eq_true_iff.mp h2 with q | q
  · exact word_at (State.WarmedH.refl s) (good_of_word q) h1
  · cases w <;> first | cases q | skip
    · exact va_tabs rfl rfl h1
    · exact va_tabs rfl rfl h1
theorem zAO_of {s : State} {a : Array Value} (hts : ∀ w ∈ lw_tbl, w.before a s = true) : zAO s :=
  ⟨hts (.arrayOver (.object RX4)) (List.mem_of_getElem? (i := 322) (by decide +kernel)), hts (.arrayOver (.array .int)) (List.mem_of_getElem? (i := 303) (by decide +kernel))⟩
theorem zty_of {s : State} {a : Array Value} {D : va_G} (hts : ∀ w ∈ lw_tbl, w.before a s = true) (hK : ∀ (k : Nat) (q : vw_C), vwCl[k]? = some q → u_Kn s q.1 q.2.1 q.2.2 (D.1 k) (D.2 k)) : ∃ cy : Nat → ClassId, va_K D vwCl (zty cy) s := by
  obtain ⟨a0, k0, p0, x1, x2, x3⟩ := Cond.arrayClass_spec (hts (.arrayClass .int) wA_I.1)
  obtain ⟨a1, k1, p1, y1, y2, y3⟩ := Cond.arrayClass_spec (hts (.arrayClass .long) wA_J.1)
  obtain ⟨p2, a2, k2, z1, z2, z3, z4, z5⟩ := Cond.arrayOver_spec (zAO_of hts).1
  obtain ⟨p3, a3, k3, w1, w2, w3, w4, w5⟩ := Jvm.Stand.arrayOver_specB (zAO_of hts).2
  refine ⟨fun k => if k = 0 then a0 else if k = 1 then a1 else if k = 2 then a2 else a3, hK, fun k q hq => ?_⟩
  match k, hq with
  | 0, hq => cases hq; exact ⟨fun n z => ⟨fun k h => (by cases h), k0, x2, p0, x3⟩, x1⟩
  | 1, hq => cases hq; exact ⟨fun n z => ⟨fun k h => (by cases h), k1, y2, p1, y3⟩, y1⟩
  | 2, hq => cases hq; exact ⟨fun n z => ⟨fun k h => (by cases h), k2, z3, p2, z4⟩, k2, p2, z3, z4, z1, z5⟩
  | 3, hq => cases hq; exact ⟨fun n z => ⟨fun k h => (by cases h), k3, w3, p3, w4⟩, w5⟩
  | k + 4, hq => simp at hq
set_option maxRecDepth 100000 in
set_option maxHeartbeats 4000000 in
theorem whole_start {p : Program} {e : Env} {s : State} {m : MethodId} {below : List Frame} {meth : Method} {c : Code} (l : Launch) {b L : Nat} {xs : Nat → Int32} (hL : L ≤ 3072) (C0 : lw_At p s m meth c b L xs) : W p l e room_1 s m #[Value.ref b] below meth c s.heap [] 0 0 (lw_Z below #[Value.ref b] s) (entryFrame m ([Value.ref b] : List Value).toArray 4) := by
  obtain ⟨hx, hb, hr, hml, hown, hts, hX, hbl, hlocks, hgv⟩ := id C0
  obtain ⟨c0, s0, hKn0⟩ := u_known (C := RX0) (T := TX0) (N := 9) (n := 9) hts (fun w h => (zu_0 w h).1) (hts _ wx_X0.1)
  obtain ⟨c1, s1, hKn1⟩ := u_known (C := RX1) (T := TX1) (N := 13) (n := 13) hts (fun w h => (zu_1 w h).1) (hts _ wx_X1.1)
  obtain ⟨c2, s2, hKn2⟩ := u_known (C := RX2) (T := TX2) (N := 2) (n := 2) hts (fun w h => (zu_2 w h).1) (hts _ wx_X2.1)
  obtain ⟨c3, s3, hKn3⟩ := u_known (C := RX3) (T := TX3) (N := 5) (n := 5) hts (fun w h => (zu_3 w h).1) (hts _ wx_X3.1)
  obtain ⟨c4, s4, hKn4⟩ := u_known (C := RX4) (T := TX4) (N := 3) (n := 3) hts (fun w h => (zu_4 w h).1) (hts _ wx_X4.1)
  obtain ⟨c5, s5, hKn5⟩ := u_known (C := RX5) (T := TX5) (N := 3) (n := 3) hts (fun w h => (zu_5 w h).1) (hts _ wx_X5.1)
  obtain ⟨c6, s6, hKn6⟩ := u_known (C := RX6) (T := TX6) (N := 5) (n := 5) hts (fun w h => (zu_6 w h).1) (hts _ wx_X6.1)
  obtain ⟨c7, s7, hKn7⟩ := u_known (C := RX7) (T := TX7) (N := 7) (n := 7) hts (fun w h => (zu_7 w h).1) (hts _ wx_X7.1)
  obtain ⟨c8, s8, hKn8⟩ := u_known (C := RX8) (T := TX8) (N := 16) (n := 16) hts (fun w h => (zu_8 w h).1) (hts _ wx_X8.1)
  obtain ⟨dC, dI, hKc⟩ : ∃ (dC : Nat → ClassId) (dI : Nat → Nat → Nat), ∀ (k : Nat) (q : vw_C), vwCl[k]? = some q → u_Kn s q.1 q.2.1 q.2.2 (dC k) (dI k) := by
    refine ⟨fun k => if k = 0 then c0 else if k = 1 then c1 else if k = 2 then c2 else if k = 3 then c3 else if k = 4 then c4 else if k = 5 then c5 else if k = 6 then c6 else if k = 7 then c7 else c8, fun k => if k = 0 then s0 else if k = 1 then s1 else if k = 2 then s2 else if k = 3 then s3 else if k = 4 then s4 else if k = 5 then s5 else if k = 6 then s6 else if k = 7 then s7 else s8, ?_⟩
    intro k q hq
    match k, hq with
    | 0, hq => cases hq; exact hKn0
    | 1, hq => cases hq; exact hKn1
    | 2, hq => cases hq; exact hKn2
    | 3, hq => cases hq; exact hKn3
    | 4, hq => cases hq; exact hKn4
    | 5, hq => cases hq; exact hKn5
    | 6, hq => cases hq; exact hKn6
    | 7, hq => cases hq; exact hKn7
    | 8, hq => cases hq; exact hKn8
    | k + 9, hq => simp [vwCl] at hq
  obtain ⟨cy, hK⟩ := zty_of (D := (dC, dI)) hts hKc
  have hz := zent_has [Value.ref b] (n := 4) (Nat.le_of_ble_eq_true rfl)
  rw [lg_entry_eq]
  have key : V (l, (dC, dI), cy, fun _ => 0) (p, e, room_1, s, m, #[Value.ref b], below, meth, c, 0, 0, lw_Z below #[Value.ref b] s, fun q => s.heap.size ≤ q) 0 [some (.ref b), none, none, none] [] [] := by
    have I : zI2 (l, (dC, dI), cy, fun _ => 0) (p, e, room_1, s, m, #[Value.ref b], below, meth, c, 0, 0, lw_Z below #[Value.ref b] s, fun q => s.heap.size ≤ q) RL cL_law 4 11 300 71 4291 := ⟨⟨hx, hb, hml, hown, (by decide : 11 ≤ 12), (by decide : 300 ≤ 472), Nat.zero_le _, Nat.zero_le _, hK, zW_all hts⟩, fun q => absurd rfl q, zAO_of hts, fun q h => h, (by decide : 0 + 71 ≤ 600000), (by decide : 0 + 4291 ≤ 7302250)⟩
    refine V_new (ci := 7) (n := 0) (ty := tyX7) (fs := [.null, .int (iI 0), .null, .null, .int (iI 0), .null, .null]) I wl_L_7 wx_X7 wn_X7 rfl tyX7_ok (fun j hj => by rcases (show j = 0 ∨ j = 1 ∨ j = 2 ∨ j = 3 ∨ j = 4 ∨ j = 5 ∨ j = 6 by omega) with rfl | rfl | rfl | rfl | rfl | rfl | rfl <;> rfl) (by decide) rfl dL_law_0 (fun f1 I => ?_)
    refine V_dup I.1 dL_law_3 rfl ?_
    refine V_iniL (j := 0) (n := 1) I wm_L_9 wi_X7_init wn_X7 wc_X7_init (by decide) rfl (i_X7 _ _ _) (by decide) rfl rfl rfl (fun f => hd_X7 ((zG0 _ _ _ _).ext 1 f)) (fun f => rfl) dL_law_4 (by decide) (Nat.le_of_ble_eq_true rfl) (fun f2 I => ?_)
    refine V_astore_n I.1 dL_law_7 (by decide) rfl ?_
    show V _ _ 8 [some (.ref b), some (.ref (f1 0)), none, none] [] (hd_X7 ((zG0 l (dC, dI) cy (f1 0)).ext 1 f2) :: tl_X7 ((zG0 l (dC, dI) cy (f1 0)).ext 1 f2))
    refine V_new (ci := 8) (n := 57) (ty := tyX8) (fs := [.null, .null, .int (iI 0), .null, .null, .int (iI 0), .null, .null, .null, .null, .null, .int (iI 0), .null, .null, .null, .null]) I wl_L_10 wx_X8 wn_X8 rfl tyX8_ok (fun j hj => by rcases (show j = 0 ∨ j = 1 ∨ j = 2 ∨ j = 3 ∨ j = 4 ∨ j = 5 ∨ j = 6 ∨ j = 7 ∨ j = 8 ∨ j = 9 ∨ j = 10 ∨ j = 11 ∨ j = 12 ∨ j = 13 ∨ j = 14 ∨ j = 15 by omega) with rfl | rfl | rfl | rfl | rfl | rfl | rfl | rfl | rfl | rfl | rfl | rfl | rfl | rfl | rfl | rfl <;> rfl) (by decide) rfl dL_law_8 (fun f3 I => ?_)
    refine V_dup I.1 dL_law_11 rfl ?_
    refine V_iniL (j := 57) (n := 58) I wm_L_12 wi_X8_init wn_X8 wc_X8_init (by decide) rfl (i_X8 _ _ _) (by decide) rfl rfl rfl (fun f => hd_X8 ((zG0 _ _ _ _).ext 1 f)) (fun f => rfl) dL_law_12 (by decide) (Nat.le_of_ble_eq_true rfl) (fun f4 I => ?_)
    refine V_astore_n I.1 dL_law_15 (by decide) rfl ?_
    refine V_iconst I.1 dL_law_16 ?_
    refine V_istore_n I.1 dL_law_17 (by decide) rfl ?_
    show V (zG.ext (zG.ext (zG.ext (zG.ext (l, (dC, dI), cy, fun _ => 0) 0 f1) 1 f2) 57 f3) 58 f4) _ 18 [some (.ref b), some (.ref (f1 0)), some (.ref (f3 0)), some (.int (iI 0))] [] ((hd_X7 ((zG0 l (dC, dI) cy (f1 0)).ext 1 f2) :: tl_X7 ((zG0 l (dC, dI) cy (f1 0)).ext 1 f2)) ++ (hd_X8 ((zG0 l (dC, dI) cy (f3 0)).ext 1 f4) :: tl_X8 ((zG0 l (dC, dI) cy (f3 0)).ext 1 f4)))
    refine V_reQ (q := 37) (f' := fun i => if i < 7 then some (zG.ad ((l, (dC, dI), cy, fun k => (zG.ext (zG.ext (zG.ext (zG.ext (l, (dC, dI), cy, fun _ => 0) 0 f1) 1 f2) 57 f3) 58 f4).ad (pl0.getD k 0)) : zG) (47 + i)) else none) rfl (fun j hj => by rcases (show j = 0 ∨ j = 1 ∨ j = 2 ∨ j = 3 ∨ j = 4 ∨ j = 5 ∨ j = 6 by omega) with rfl | rfl | rfl | rfl | rfl | rfl | rfl <;> rfl) ?_
    refine V_reQ (q := 48) (f' := fun i => if i < 4 then some (zG.ad ((l, (dC, dI), cy, fun k => (zG.ext (zG.ext (zG.ext (zG.ext (l, (dC, dI), cy, fun _ => 0) 0 f1) 1 f2) 57 f3) 58 f4).ad (pl0.getD k 0)) : zG) (37 + 2 * i)) else none) rfl (fun j hj => by rcases (show j = 0 ∨ j = 1 ∨ j = 2 ∨ j = 3 by omega) with rfl | rfl | rfl | rfl <;> rfl) ?_
    refine V_perm (G' := ((l, (dC, dI), cy, fun k => (zG.ext (zG.ext (zG.ext (zG.ext (l, (dC, dI), cy, fun _ => 0) 0 f1) 1 f2) 57 f3) 58 f4).ad (pl0.getD k 0)) : zG)) (cs' := cs0 ((l, (dC, dI), cy, fun k => (zG.ext (zG.ext (zG.ext (zG.ext (l, (dC, dI), cy, fun _ => 0) 0 f1) 1 f2) 57 f3) 58 f4).ad (pl0.getD k 0)) : zG)) pl0 rfl (by decide) rfl ?_
    have C : zC ((l, (dC, dI), cy, fun k => (zG.ext (zG.ext (zG.ext (zG.ext (l, (dC, dI), cy, fun _ => 0) 0 f1) 1 f2) 57 f3) 58 f4).ad (pl0.getD k 0)) : zG) _ RL cL_law 4 11 300 := I.1
    refine law_loop (G := ((l, (dC, dI), cy, fun k => (zG.ext (zG.ext (zG.ext (zG.ext (l, (dC, dI), cy, fun _ => 0) 0 f1) 1 f2) 57 f3) 58 f4).ad (pl0.getD k 0)) : zG)) (b := b) (L := L) (xs := xs) C ⟨hX, hbl, Nat.not_le.mpr hbl, hL⟩ (fun i cs' _ => ?_) 3078 0 (cs0 ((l, (dC, dI), cy, fun k => (zG.ext (zG.ext (zG.ext (zG.ext (l, (dC, dI), cy, fun _ => 0) 0 f1) 1 f2) 57 f3) 58 f4).ad (pl0.getD k 0)) : zG)) (by omega) (by omega) (by omega) (inv0 ((l, (dC, dI), cy, fun k => (zG.ext (zG.ext (zG.ext (zG.ext (l, (dC, dI), cy, fun _ => 0) 0 f1) 1 f2) 57 f3) 58 f4).ad (pl0.getD k 0)) : zG))
    refine V_iconst C dL_law_868 ?_
    intro H locs ls hl hP hD hS
    refine va_forget (fun q hq => hS.2.2 q hq) ?_
    refine W.widen (k := 600000) (n := 7302250) (show 0 + 1 + 56 + 1 + 13 ≤ 600000 by decide) (show 0 + 7 + 2352 + 16 + 1916 ≤ 7302250 by decide) ?_
    exact lw_ret hx hb hr hlocks dL_law_869
  have hz2 : zls ((lg_sl [Value.ref b] ++ List.replicate (4 - (lg_sl [Value.ref b]).length) Slot.unset).toArray) c.maxLocals [some (.ref b), none, none, none] := by rw [hml]; exact hz
  exact key s.heap [] _ hz2 (fun k q h => by simp [zw] at h) ⟨fun i j p q h => by simp [zw] at h, fun k q h => by simp [zw] at h⟩ va_S.rf

