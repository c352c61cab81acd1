/-! ===== constructors ===== -/
theorem wO_i : zW (.instanceMethod objectInit) := ⟨List.mem_of_getElem? (i := 129) (by decide +kernel), by decide +kernel⟩
theorem wO_c : zW (.code objectInit ⟨#[0xb1]⟩ 1 none) := ⟨List.mem_of_getElem? (i := 130) (by decide +kernel), by decide +kernel⟩
theorem wA_I : zW (.arrayClass .int) := ⟨List.mem_of_getElem? (i := 161) (by decide +kernel), by decide +kernel⟩
theorem wA_J : zW (.arrayClass .long) := ⟨List.mem_of_getElem? (i := 341) (by decide +kernel), by decide +kernel⟩
theorem wO_X7 : zW (.methodLink RX7 1 objectInit) := ⟨List.mem_of_getElem? (i := 128) (by decide +kernel), by decide +kernel⟩
theorem wO_X1 : zW (.methodLink RX1 3 objectInit) := ⟨List.mem_of_getElem? (i := 136) (by decide +kernel), by decide +kernel⟩
theorem wO_X5 : zW (.methodLink RX5 3 objectInit) := ⟨List.mem_of_getElem? (i := 142) (by decide +kernel), by decide +kernel⟩
theorem wO_X3 : zW (.methodLink RX3 3 objectInit) := ⟨List.mem_of_getElem? (i := 167) (by decide +kernel), by decide +kernel⟩
theorem wO_X0 : zW (.methodLink RX0 3 objectInit) := ⟨List.mem_of_getElem? (i := 191) (by decide +kernel), by decide +kernel⟩
theorem wO_X2 : zW (.methodLink RX2 1 objectInit) := ⟨List.mem_of_getElem? (i := 197) (by decide +kernel), by decide +kernel⟩
theorem wO_X6 : zW (.methodLink RX6 3 objectInit) := ⟨List.mem_of_getElem? (i := 301) (by decide +kernel), by decide +kernel⟩
theorem wO_X4 : zW (.methodLink RX4 3 objectInit) := ⟨List.mem_of_getElem? (i := 327) (by decide +kernel), by decide +kernel⟩
theorem wO_X8 : zW (.methodLink RX8 1 objectInit) := ⟨List.mem_of_getElem? (i := 801) (by decide +kernel), by decide +kernel⟩
theorem zRI.up {E : zE} {l : Launch} {D : va_G} {cy : Nat → ClassId} {h0 sz mc ms k n : Nat} {F : zG → List va_E} (R : zRI E l D cy h0 sz mc ms F) : zRI (E.up k n) l D cy h0 sz mc ms F := R
def hd_X5 (G : zG) : va_E := .inr (5, [.ref (G.ad 1), .int (iI 0), .int (iI 0)])
def tl_X5 (G : zG) : List va_E := [zI G 60 (fun _ => 0)]
def F_X5 (G : zG) : List va_E := hd_X5 G :: tl_X5 G
set_option maxRecDepth 100000 in
set_option maxHeartbeats 4000000 in
theorem i_X5 (l : Launch) (D : va_G) (cy : Nat → ClassId) : zIni l D cy yX5_init cX5_init 1 1 12 1 60 (.inr (5, [.null, .int (iI 0), .int (iI 0)])) F_X5 := by
  refine zIni.of (by decide) rfl (by decide) (fun h0 sz E I R hc0 hs0 => ?_)
  have I : zI2 (zG0 l D cy h0) E RX5 cX5_init 1 1 12 1 60 := I
  show V _ _ 0 [some (.ref h0)] [] [.inr (5, [.null, .int (iI 0), .int (iI 0)])]
  refine V_aload_n I.1 dX5_init_0 rfl ?_
  refine V_objInit I.1 wO_X5 wO_i wO_c dX5_init_1 (by decide) ?_
  refine V_aload_n I.1 dX5_init_4 rfl ?_
  refine V_bipush I.1 dX5_init_5 (by decide) ?_
  refine V_newI (N := 60) (n := 1) I (by decide) (by decide) (by decide) rfl wA_I dX5_init_7 (fun f1 I => ?_)
  show V _ _ 9 [some (.ref h0)] [.ref (f1 0), .ref h0] [.inr (5, [.null, .int (iI 0), .int (iI 0)]), zI (zG0 l D cy h0) 60 (fun _ => 0)]
  refine V_putF (q := 0) (k := 0) I (by decide) wf_X5_9 rfl tyX5_ok nmX5 (by decide) rfl rfl rfl rfl dX5_init_9 rfl rfl (Nat.le_of_ble_eq_true rfl) ?_
  show V _ _ 12 [some (.ref h0)] [] [.inr (5, [.ref (f1 0), .int (iI 0), .int (iI 0)]), zI (zG0 l D cy h0) 60 (fun _ => 0)]
  exact V_iniret (F := F_X5) I.1 R.up (show E.cells + 1 = 1 by omega) (show E.slots + 60 = 60 by omega) rfl rfl dX5_init_12
def hd_X2 (G : zG) : va_E := .inr (2, [.ref (G.ad 1), .int (iI 0)])
def tl_X2 (G : zG) : List va_E := [zI G 30 (fun _ => 0)]
def F_X2 (G : zG) : List va_E := hd_X2 G :: tl_X2 G
set_option maxRecDepth 100000 in
set_option maxHeartbeats 4000000 in
theorem i_X2 (l : Launch) (D : va_G) (cy : Nat → ClassId) : zIni l D cy yX2_init cX2_init 1 1 12 1 30 (.inr (2, [.null, .int (iI 0)])) F_X2 := by
  refine zIni.of (by decide) rfl (by decide) (fun h0 sz E I R hc0 hs0 => ?_)
  have I : zI2 (zG0 l D cy h0) E RX2 cX2_init 1 1 12 1 30 := I
  show V _ _ 0 [some (.ref h0)] [] [.inr (2, [.null, .int (iI 0)])]
  refine V_aload_n I.1 dX2_init_0 rfl ?_
  refine V_objInit I.1 wO_X2 wO_i wO_c dX2_init_1 (by decide) ?_
  refine V_aload_n I.1 dX2_init_4 rfl ?_
  refine V_bipush I.1 dX2_init_5 (by decide) ?_
  refine V_newI (N := 30) (n := 1) I (by decide) (by decide) (by decide) rfl wA_I dX2_init_7 (fun f1 I => ?_)
  show V _ _ 9 [some (.ref h0)] [.ref (f1 0), .ref h0] [.inr (2, [.null, .int (iI 0)]), zI (zG0 l D cy h0) 30 (fun _ => 0)]
  refine V_putF (q := 0) (k := 0) I (by decide) wf_X2_9 rfl tyX2_ok nmX2 (by decide) rfl rfl rfl rfl dX2_init_9 rfl rfl (Nat.le_of_ble_eq_true rfl) ?_
  show V _ _ 12 [some (.ref h0)] [] [.inr (2, [.ref (f1 0), .int (iI 0)]), zI (zG0 l D cy h0) 30 (fun _ => 0)]
  exact V_iniret (F := F_X2) I.1 R.up (show E.cells + 1 = 1 by omega) (show E.slots + 30 = 30 by omega) rfl rfl dX2_init_12
def hd_X3 (G : zG) : va_E := .inr (3, [.ref (G.ad 1), .ref (G.ad 2), .ref (G.ad 3), .int (iI 0), .int (iI 0)])
def tl_X3 (G : zG) : List va_E := [zI G 480 (fun _ => 0), zI G 8 (fun _ => 0), zI G 8 (fun _ => 0)]
def F_X3 (G : zG) : List va_E := hd_X3 G :: tl_X3 G
set_option maxRecDepth 100000 in
set_option maxHeartbeats 4000000 in
theorem i_X3 (l : Launch) (D : va_G) (cy : Nat → ClassId) : zIni l D cy yX3_init cX3_init 1 1 12 3 496 (.inr (3, [.null, .null, .null, .int (iI 0), .int (iI 0)])) F_X3 := by
  refine zIni.of (by decide) rfl (by decide) (fun h0 sz E I R hc0 hs0 => ?_)
  have I : zI2 (zG0 l D cy h0) E RX3 cX3_init 1 1 12 3 496 := I
  show V _ _ 0 [some (.ref h0)] [] [.inr (3, [.null, .null, .null, .int (iI 0), .int (iI 0)])]
  refine V_aload_n I.1 dX3_init_0 rfl ?_
  refine V_objInit I.1 wO_X3 wO_i wO_c dX3_init_1 (by decide) ?_
  refine V_aload_n I.1 dX3_init_4 rfl ?_
  refine V_sipush I.1 dX3_init_5 (by decide) ?_
  refine V_newI (N := 480) (n := 1) I (by decide) (by decide) (by decide) rfl wA_I dX3_init_8 (fun f1 I => ?_)
  show V _ _ 10 [some (.ref h0)] [.ref (f1 0), .ref h0] [.inr (3, [.null, .null, .null, .int (iI 0), .int (iI 0)]), zI (zG0 l D cy h0) 480 (fun _ => 0)]
  refine V_putF (q := 0) (k := 0) I (by decide) wf_X3_11 rfl tyX3_ok nmX3 (by decide) rfl rfl rfl rfl dX3_init_10 rfl rfl (Nat.le_of_ble_eq_true rfl) ?_
  show V _ _ 13 [some (.ref h0)] [] [.inr (3, [.ref (f1 0), .null, .null, .int (iI 0), .int (iI 0)]), zI (zG0 l D cy h0) 480 (fun _ => 0)]
  refine V_aload_n I.1 dX3_init_13 rfl ?_
  refine V_bipush I.1 dX3_init_14 (by decide) ?_
  refine V_newI (N := 8) (n := 2) I (by decide) (by decide) (by decide) rfl wA_I dX3_init_16 (fun f2 I => ?_)
  show V _ _ 18 [some (.ref h0)] [.ref (f2 0), .ref h0] [.inr (3, [.ref (f1 0), .null, .null, .int (iI 0), .int (iI 0)]), zI (zG0 l D cy h0) 480 (fun _ => 0), zI (zG0 l D cy h0) 8 (fun _ => 0)]
  refine V_putF (q := 0) (k := 1) I (by decide) wf_X3_15 rfl tyX3_ok nmX3 (by decide) rfl rfl rfl rfl dX3_init_18 rfl rfl (Nat.le_of_ble_eq_true rfl) ?_
  show V _ _ 21 [some (.ref h0)] [] [.inr (3, [.ref (f1 0), .ref (f2 0), .null, .int (iI 0), .int (iI 0)]), zI (zG0 l D cy h0) 480 (fun _ => 0), zI (zG0 l D cy h0) 8 (fun _ => 0)]
  refine V_aload_n I.1 dX3_init_21 rfl ?_
  refine V_bipush I.1 dX3_init_22 (by decide) ?_
  refine V_newI (N := 8) (n := 3) I (by decide) (by decide) (by decide) rfl wA_I dX3_init_24 (fun f3 I => ?_)
  show V _ _ 26 [some (.ref h0)] [.ref (f3 0), .ref h0] [.inr (3, [.ref (f1 0), .ref (f2 0), .null, .int (iI 0), .int (iI 0)]), zI (zG0 l D cy h0) 480 (fun _ => 0), zI (zG0 l D cy h0) 8 (fun _ => 0), zI (zG0 l D cy h0) 8 (fun _ => 0)]
  refine V_putF (q := 0) (k := 2) I (by decide) wf_X3_18 rfl tyX3_ok nmX3 (by decide) rfl rfl rfl rfl dX3_init_26 rfl rfl (Nat.le_of_ble_eq_true rfl) ?_
  show V _ _ 29 [some (.ref h0)] [] [.inr (3, [.ref (f1 0), .ref (f2 0), .ref (f3 0), .int (iI 0), .int (iI 0)]), zI (zG0 l D cy h0) 480 (fun _ => 0), zI (zG0 l D cy h0) 8 (fun _ => 0), zI (zG0 l D cy h0) 8 (fun _ => 0)]
  exact V_iniret (F := F_X3) I.1 R.up.up.up (show E.cells + 1 + 1 + 1 = 3 by omega) (show E.slots + 480 + 8 + 8 = 496 by omega) rfl rfl dX3_init_29
def hd_X0 (G : zG) : va_E := .inr (0, [.ref (G.ad 1), .int (iI 0), .int (iI 0), .int (iI 0), .int (iI 0), .int (iI 0), .int (iI 0), .int (iI 0), .int (iI 0)])
def tl_X0 (G : zG) : List va_E := [.inr (2, [.ref (G.ad 2), .int (iI 0)]), zI G 30 (fun _ => 0)]
def F_X0 (G : zG) : List va_E := hd_X0 G :: tl_X0 G
set_option maxRecDepth 100000 in
set_option maxHeartbeats 4000000 in
theorem i_X0 (l : Launch) (D : va_G) (cy : Nat → ClassId) : zIni l D cy yX0_init cX0_init 1 2 32 2 32 (.inr (0, [.null, .int (iI 0), .int (iI 0), .int (iI 0), .int (iI 0), .int (iI 0), .int (iI 0), .int (iI 0), .int (iI 0)])) F_X0 := by
  refine zIni.of (by decide) rfl (by decide) (fun h0 sz E I R hc0 hs0 => ?_)
  have I : zI2 (zG0 l D cy h0) E RX0 cX0_init 1 2 32 2 32 := I
  show V _ _ 0 [some (.ref h0)] [] [.inr (0, [.null, .int (iI 0), .int (iI 0), .int (iI 0), .int (iI 0), .int (iI 0), .int (iI 0), .int (iI 0), .int (iI 0)])]
  refine V_aload_n I.1 dX0_init_0 rfl ?_
  refine V_objInit I.1 wO_X0 wO_i wO_c dX0_init_1 (by decide) ?_
  refine V_aload_n I.1 dX0_init_4 rfl ?_
  refine V_new (ci := 2) (n := 1) (ty := tyX2) (fs := [.null, .int (iI 0)]) I wl_X0_9 wx_X2 wn_X2 rfl tyX2_ok (fun j hj => by rcases (show j = 0 ∨ j = 1 by omega) with rfl | rfl <;> rfl) (by decide) rfl dX0_init_5 (fun f1 I => ?_)
  show V _ _ 8 [some (.ref h0)] [.ref (f1 0), .ref h0] [.inr (0, [.null, .int (iI 0), .int (iI 0), .int (iI 0), .int (iI 0), .int (iI 0), .int (iI 0), .int (iI 0), .int (iI 0)]), .inr (2, [.null, .int (iI 0)])]
  refine V_dup I.1 dX0_init_8 rfl ?_
  refine V_iniN (j := 1) (n := 2) I wm_X0_11 wi_X2_init wn_X2 wc_X2_init (by decide) rfl (i_X2 _ _ _) (by decide) rfl rfl rfl (fun f => hd_X2 ((zG0 _ _ _ _).ext 1 f)) (fun f => rfl) dX0_init_9 (by decide) (Nat.le_of_ble_eq_true rfl) (fun f2 I => ?_)
  show V _ _ 12 [some (.ref h0)] [.ref (f1 0), .ref h0] [.inr (0, [.null, .int (iI 0), .int (iI 0), .int (iI 0), .int (iI 0), .int (iI 0), .int (iI 0), .int (iI 0), .int (iI 0)]), .inr (2, [.ref (f2 0), .int (iI 0)]), zI (zG0 l D cy h0) 30 (fun _ => 0)]
  refine V_putF (q := 0) (k := 0) I (by decide) wf_X0_12 rfl tyX0_ok nmX0 (by decide) rfl rfl rfl rfl dX0_init_12 rfl rfl (Nat.le_of_ble_eq_true rfl) ?_
  show V _ _ 15 [some (.ref h0)] [] [.inr (0, [.ref (f1 0), .int (iI 0), .int (iI 0), .int (iI 0), .int (iI 0), .int (iI 0), .int (iI 0), .int (iI 0), .int (iI 0)]), .inr (2, [.ref (f2 0), .int (iI 0)]), zI (zG0 l D cy h0) 30 (fun _ => 0)]
  exact V_iniret (F := F_X0) I.1 R.up.up (show E.cells + 1 + 1 = 2 by omega) (show E.slots + 2 + 30 = 32 by omega) rfl rfl dX0_init_15
def hd_X4 (G : zG) : va_E := .inr (4, [.ref (G.ad 1), .int (iI (-1)), .int (iI 0)])
def tl_X4 (G : zG) : List va_E := [zJ G 24 (fun _ => 0)]
def F_X4 (G : zG) : List va_E := hd_X4 G :: tl_X4 G
set_option maxRecDepth 100000 in
set_option maxHeartbeats 4000000 in
theorem i_X4 (l : Launch) (D : va_G) (cy : Nat → ClassId) : zIni l D cy yX4_init cX4_init 1 1 12 1 24 (.inr (4, [.null, .int (iI 0), .int (iI 0)])) F_X4 := by
  refine zIni.of (by decide) rfl (by decide) (fun h0 sz E I R hc0 hs0 => ?_)
  have I : zI2 (zG0 l D cy h0) E RX4 cX4_init 1 1 12 1 24 := I
  show V _ _ 0 [some (.ref h0)] [] [.inr (4, [.null, .int (iI 0), .int (iI 0)])]
  refine V_aload_n I.1 dX4_init_0 rfl ?_
  refine V_objInit I.1 wO_X4 wO_i wO_c dX4_init_1 (by decide) ?_
  refine V_aload_n I.1 dX4_init_4 rfl ?_
  refine V_bipush I.1 dX4_init_5 (by decide) ?_
  refine V_newJ (N := 24) (n := 1) I (by decide) (by decide) (by decide) rfl wA_J dX4_init_7 (fun f1 I => ?_)
  show V _ _ 9 [some (.ref h0)] [.ref (f1 0), .ref h0] [.inr (4, [.null, .int (iI 0), .int (iI 0)]), zJ (zG0 l D cy h0) 24 (fun _ => 0)]
  refine V_putF (q := 0) (k := 0) I (by decide) wf_X4_9 rfl tyX4_ok nmX4 (by decide) rfl rfl rfl rfl dX4_init_9 rfl rfl (Nat.le_of_ble_eq_true rfl) ?_
  show V _ _ 12 [some (.ref h0)] [] [.inr (4, [.ref (f1 0), .int (iI 0), .int (iI 0)]), zJ (zG0 l D cy h0) 24 (fun _ => 0)]
  refine V_aload_n I.1 dX4_init_12 rfl ?_
  refine V_iconst I.1 dX4_init_13 ?_
  refine vp_X4_15 (q := 0) I.1 dX4_init_14 rfl (Nat.le_of_ble_eq_true rfl) ?_
  show V _ _ 17 [some (.ref h0)] [] [.inr (4, [.ref (f1 0), .int (iI (-1)), .int (iI 0)]), zJ (zG0 l D cy h0) 24 (fun _ => 0)]
  exact V_iniret (F := F_X4) I.1 R.up (show E.cells + 1 = 1 by omega) (show E.slots + 24 = 24 by omega) rfl rfl dX4_init_17
def hd_X6 (G : zG) : va_E := .inr (6, [.ref (G.ad 1), .ref (G.ad 9), .ref (G.ad 10), .ref (G.ad 11), .int (iI 0)])
def tl_X6 (G : zG) : List va_E := [.inl (G.cy 3, 7, .inr (.inr (.inr (.inr (fun i => if i < 7 then some (G.ad (2 + i)) else none))))), zI G 60 (fun _ => 0), zI G 60 (fun _ => 0), zI G 60 (fun _ => 0), zI G 60 (fun _ => 0), zI G 60 (fun _ => 0), zI G 60 (fun _ => 0), zI G 60 (fun _ => 0), zI G 60 (fun _ => 0), zI G 60 (fun _ => 0), zI G 60 (fun _ => 0)]
def F_X6 (G : zG) : List va_E := hd_X6 G :: tl_X6 G
set_option maxRecDepth 100000 in
set_option maxHeartbeats 4000000 in
theorem i_X6 (l : Launch) (D : va_G) (cy : Nat → ClassId) : zIni l D cy yX6_init cX6_init 1 1 12 11 607 (.inr (6, [.null, .null, .null, .null, .int (iI 0)])) F_X6 := by
  refine zIni.of (by decide) rfl (by decide) (fun h0 sz E I R hc0 hs0 => ?_)
  have I : zI2 (zG0 l D cy h0) E RX6 cX6_init 1 1 12 11 607 := I
  show V _ _ 0 [some (.ref h0)] [] [.inr (6, [.null, .null, .null, .null, .int (iI 0)])]
  refine V_aload_n I.1 dX6_init_0 rfl ?_
  refine V_objInit I.1 wO_X6 wO_i wO_c dX6_init_1 (by decide) ?_
  refine V_aload_n I.1 dX6_init_4 rfl ?_
  refine V_bipush I.1 dX6_init_5 (by decide) ?_
  refine V_bipush I.1 dX6_init_7 (by decide) ?_
  refine V_mna (N := 7) (K := 60) (n := 1) I (by decide) (by decide) (by decide) (by decide) (by decide) rfl wl_X6_9 wA_I dX6_init_9 (fun f1 I => ?_)
  show V _ _ 13 [some (.ref h0)] [.ref (f1 0), .ref h0] [.inr (6, [.null, .null, .null, .null, .int (iI 0)]), zRow (zG0 l D cy h0) 7 (fun i => f1 (i + 1)), zI (zG0 l D cy h0) 60 (fun _ => 0), zI (zG0 l D cy h0) 60 (fun _ => 0), zI (zG0 l D cy h0) 60 (fun _ => 0), zI (zG0 l D cy h0) 60 (fun _ => 0), zI (zG0 l D cy h0) 60 (fun _ => 0), zI (zG0 l D cy h0) 60 (fun _ => 0), zI (zG0 l D cy h0) 60 (fun _ => 0)]
  refine V_putF (q := 0) (k := 0) I (by decide) wf_X6_11 rfl tyX6_ok nmX6 (by decide) rfl rfl rfl rfl dX6_init_13 rfl rfl (Nat.le_of_ble_eq_true rfl) ?_
  show V _ _ 16 [some (.ref h0)] [] [.inr (6, [.ref (f1 0), .null, .null, .null, .int (iI 0)]), zRow (zG0 l D cy h0) 7 (fun i => f1 (i + 1)), zI (zG0 l D cy h0) 60 (fun _ => 0), zI (zG0 l D cy h0) 60 (fun _ => 0), zI (zG0 l D cy h0) 60 (fun _ => 0), zI (zG0 l D cy h0) 60 (fun _ => 0), zI (zG0 l D cy h0) 60 (fun _ => 0), zI (zG0 l D cy h0) 60 (fun _ => 0), zI (zG0 l D cy h0) 60 (fun _ => 0)]
  refine V_aload_n I.1 dX6_init_16 rfl ?_
  refine V_bipush I.1 dX6_init_17 (by decide) ?_
  refine V_newI (N := 60) (n := 9) I (by decide) (by decide) (by decide) rfl wA_I dX6_init_19 (fun f2 I => ?_)
  show V _ _ 21 [some (.ref h0)] [.ref (f2 0), .ref h0] [.inr (6, [.ref (f1 0), .null, .null, .null, .int (iI 0)]), zRow (zG0 l D cy h0) 7 (fun i => f1 (i + 1)), zI (zG0 l D cy h0) 60 (fun _ => 0), zI (zG0 l D cy h0) 60 (fun _ => 0), zI (zG0 l D cy h0) 60 (fun _ => 0), zI (zG0 l D cy h0) 60 (fun _ => 0), zI (zG0 l D cy h0) 60 (fun _ => 0), zI (zG0 l D cy h0) 60 (fun _ => 0), zI (zG0 l D cy h0) 60 (fun _ => 0), zI (zG0 l D cy h0) 60 (fun _ => 0)]
  refine V_putF (q := 0) (k := 1) I (by decide) wf_X6_16 rfl tyX6_ok nmX6 (by decide) rfl rfl rfl rfl dX6_init_21 rfl rfl (Nat.le_of_ble_eq_true rfl) ?_
  show V _ _ 24 [some (.ref h0)] [] [.inr (6, [.ref (f1 0), .ref (f2 0), .null, .null, .int (iI 0)]), zRow (zG0 l D cy h0) 7 (fun i => f1 (i + 1)), zI (zG0 l D cy h0) 60 (fun _ => 0), zI (zG0 l D cy h0) 60 (fun _ => 0), zI (zG0 l D cy h0) 60 (fun _ => 0), zI (zG0 l D cy h0) 60 (fun _ => 0), zI (zG0 l D cy h0) 60 (fun _ => 0), zI (zG0 l D cy h0) 60 (fun _ => 0), zI (zG0 l D cy h0) 60 (fun _ => 0), zI (zG0 l D cy h0) 60 (fun _ => 0)]
  refine V_aload_n I.1 dX6_init_24 rfl ?_
  refine V_bipush I.1 dX6_init_25 (by decide) ?_
  refine V_newI (N := 60) (n := 10) I (by decide) (by decide) (by decide) rfl wA_I dX6_init_27 (fun f3 I => ?_)
  show V _ _ 29 [some (.ref h0)] [.ref (f3 0), .ref h0] [.inr (6, [.ref (f1 0), .ref (f2 0), .null, .null, .int (iI 0)]), zRow (zG0 l D cy h0) 7 (fun i => f1 (i + 1)), zI (zG0 l D cy h0) 60 (fun _ => 0), zI (zG0 l D cy h0) 60 (fun _ => 0), zI (zG0 l D cy h0) 60 (fun _ => 0), zI (zG0 l D cy h0) 60 (fun _ => 0), zI (zG0 l D cy h0) 60 (fun _ => 0), zI (zG0 l D cy h0) 60 (fun _ => 0), zI (zG0 l D cy h0) 60 (fun _ => 0), zI (zG0 l D cy h0) 60 (fun _ => 0), zI (zG0 l D cy h0) 60 (fun _ => 0)]
  refine V_putF (q := 0) (k := 2) I (by decide) wf_X6_20 rfl tyX6_ok nmX6 (by decide) rfl rfl rfl rfl dX6_init_29 rfl rfl (Nat.le_of_ble_eq_true rfl) ?_
  show V _ _ 32 [some (.ref h0)] [] [.inr (6, [.ref (f1 0), .ref (f2 0), .ref (f3 0), .null, .int (iI 0)]), zRow (zG0 l D cy h0) 7 (fun i => f1 (i + 1)), zI (zG0 l D cy h0) 60 (fun _ => 0), zI (zG0 l D cy h0) 60 (fun _ => 0), zI (zG0 l D cy h0) 60 (fun _ => 0), zI (zG0 l D cy h0) 60 (fun _ => 0), zI (zG0 l D cy h0) 60 (fun _ => 0), zI (zG0 l D cy h0) 60 (fun _ => 0), zI (zG0 l D cy h0) 60 (fun _ => 0), zI (zG0 l D cy h0) 60 (fun _ => 0), zI (zG0 l D cy h0) 60 (fun _ => 0)]
  refine V_aload_n I.1 dX6_init_32 rfl ?_
  refine V_bipush I.1 dX6_init_33 (by decide) ?_
  refine V_newI (N := 60) (n := 11) I (by decide) (by decide) (by decide) rfl wA_I dX6_init_35 (fun f4 I => ?_)
  show V _ _ 37 [some (.ref h0)] [.ref (f4 0), .ref h0] [.inr (6, [.ref (f1 0), .ref (f2 0), .ref (f3 0), .null, .int (iI 0)]), zRow (zG0 l D cy h0) 7 (fun i => f1 (i + 1)), zI (zG0 l D cy h0) 60 (fun _ => 0), zI (zG0 l D cy h0) 60 (fun _ => 0), zI (zG0 l D cy h0) 60 (fun _ => 0), zI (zG0 l D cy h0) 60 (fun _ => 0), zI (zG0 l D cy h0) 60 (fun _ => 0), zI (zG0 l D cy h0) 60 (fun _ => 0), zI (zG0 l D cy h0) 60 (fun _ => 0), zI (zG0 l D cy h0) 60 (fun _ => 0), zI (zG0 l D cy h0) 60 (fun _ => 0), zI (zG0 l D cy h0) 60 (fun _ => 0)]
  refine V_putF (q := 0) (k := 3) I (by decide) wf_X6_23 rfl tyX6_ok nmX6 (by decide) rfl rfl rfl rfl dX6_init_37 rfl rfl (Nat.le_of_ble_eq_true rfl) ?_
  show V _ _ 40 [some (.ref h0)] [] [.inr (6, [.ref (f1 0), .ref (f2 0), .ref (f3 0), .ref (f4 0), .int (iI 0)]), zRow (zG0 l D cy h0) 7 (fun i => f1 (i + 1)), zI (zG0 l D cy h0) 60 (fun _ => 0), zI (zG0 l D cy h0) 60 (fun _ => 0), zI (zG0 l D cy h0) 60 (fun _ => 0), zI (zG0 l D cy h0) 60 (fun _ => 0), zI (zG0 l D cy h0) 60 (fun _ => 0), zI (zG0 l D cy h0) 60 (fun _ => 0), zI (zG0 l D cy h0) 60 (fun _ => 0), zI (zG0 l D cy h0) 60 (fun _ => 0), zI (zG0 l D cy h0) 60 (fun _ => 0), zI (zG0 l D cy h0) 60 (fun _ => 0)]
  refine V_reQ (q := 1) (f' := fun i => if i < 7 then some ((((((zG0 l D cy h0).ext 1 f1).ext 9 f2).ext 10 f3).ext 11 f4).ad (2 + i)) else none) rfl (fun j hj => by rcases (show j = 0 ∨ j = 1 ∨ j = 2 ∨ j = 3 ∨ j = 4 ∨ j = 5 ∨ j = 6 by omega) with rfl | rfl | rfl | rfl | rfl | rfl | rfl <;> rfl) ?_
  exact V_iniret (F := F_X6) I.1 R.up.up.up.up (show E.cells + 8 + 1 + 1 + 1 = 11 by omega) (show E.slots + 427 + 60 + 60 + 60 = 607 by omega) rfl rfl dX6_init_40
def hd_X1 (G : zG) : va_E := .inr (1, [.ref (G.ad 1), .ref (G.ad 3), .ref (G.ad 5), .ref (G.ad 9), .ref (G.ad 12), .ref (G.ad 14), .int (iI 0), .ref (G.ad 15), .ref (G.ad 16), .int (iI 0), .int (iI 0), .int (iI 0), .int (iI 0)])
def tl_X1 (G : zG) : List va_E := [.inr (5, [.ref (G.ad 2), .int (iI 0), .int (iI 0)]), zI G 60 (fun _ => 0), .inr (5, [.ref (G.ad 4), .int (iI 0), .int (iI 0)]), zI G 60 (fun _ => 0), .inr (3, [.ref (G.ad 6), .ref (G.ad 7), .ref (G.ad 8), .int (iI 0), .int (iI 0)]), zI G 480 (fun _ => 0), zI G 8 (fun _ => 0), zI G 8 (fun _ => 0), .inr (0, [.ref (G.ad 10), .int (iI 0), .int (iI 0), .int (iI 0), .int (iI 0), .int (iI 0), .int (iI 0), .int (iI 0), .int (iI 0)]), .inr (2, [.ref (G.ad 11), .int (iI 0)]), zI G 30 (fun _ => 0), .inr (2, [.ref (G.ad 13), .int (iI 0)]), zI G 30 (fun _ => 0), zI G 60 (fun _ => 0), zI G 4 (zup (zup (zup (zup (fun _ => 0) 0 (-1)) 1 (-1)) 2 (-1)) 3 (-1)), zI G 7 (fun _ => 1)]
def F_X1 (G : zG) : List va_E := hd_X1 G :: tl_X1 G
set_option maxRecDepth 100000 in
set_option maxHeartbeats 4000000 in
theorem i_X1 (l : Launch) (D : va_G) (cy : Nat → ClassId) : zIni l D cy yX1_init cX1_init 1 3 52 16 771 (.inr (1, [.null, .null, .null, .null, .null, .null, .int (iI 0), .null, .null, .int (iI 0), .int (iI 0), .int (iI 0), .int (iI 0)])) F_X1 := by
  refine zIni.of (by decide) rfl (by decide) (fun h0 sz E I R hc0 hs0 => ?_)
  have I : zI2 (zG0 l D cy h0) E RX1 cX1_init 1 3 52 16 771 := I
  show V _ _ 0 [some (.ref h0)] [] [.inr (1, [.null, .null, .null, .null, .null, .null, .int (iI 0), .null, .null, .int (iI 0), .int (iI 0), .int (iI 0), .int (iI 0)])]
  refine V_aload_n I.1 dX1_init_0 rfl ?_
  refine V_objInit I.1 wO_X1 wO_i wO_c dX1_init_1 (by decide) ?_
  refine V_aload_n I.1 dX1_init_4 rfl ?_
  refine V_new (ci := 5) (n := 1) (ty := tyX5) (fs := [.null, .int (iI 0), .int (iI 0)]) I wl_X1_9 wx_X5 wn_X5 rfl tyX5_ok (fun j hj => by rcases (show j = 0 ∨ j = 1 ∨ j = 2 by omega) with rfl | rfl | rfl <;> rfl) (by decide) rfl dX1_init_5 (fun f1 I => ?_)
  show V _ _ 8 [some (.ref h0)] [.ref (f1 0), .ref h0] [.inr (1, [.null, .null, .null, .null, .null, .null, .int (iI 0), .null, .null, .int (iI 0), .int (iI 0), .int (iI 0), .int (iI 0)]), .inr (5, [.null, .int (iI 0), .int (iI 0)])]
  refine V_dup I.1 dX1_init_8 rfl ?_
  refine V_iniN (j := 1) (n := 2) I wm_X1_11 wi_X5_init wn_X5 wc_X5_init (by decide) rfl (i_X5 _ _ _) (by decide) rfl rfl rfl (fun f => hd_X5 ((zG0 _ _ _ _).ext 1 f)) (fun f => rfl) dX1_init_9 (by decide) (Nat.le_of_ble_eq_true rfl) (fun f2 I => ?_)
  show V _ _ 12 [some (.ref h0)] [.ref (f1 0), .ref h0] [.inr (1, [.null, .null, .null, .null, .null, .null, .int (iI 0), .null, .null, .int (iI 0), .int (iI 0), .int (iI 0), .int (iI 0)]), .inr (5, [.ref (f2 0), .int (iI 0), .int (iI 0)]), zI (zG0 l D cy h0) 60 (fun _ => 0)]
  refine V_putF (q := 0) (k := 0) I (by decide) wf_X1_12 rfl tyX1_ok nmX1 (by decide) rfl rfl rfl rfl dX1_init_12 rfl rfl (Nat.le_of_ble_eq_true rfl) ?_
  show V _ _ 15 [some (.ref h0)] [] [.inr (1, [.ref (f1 0), .null, .null, .null, .null, .null, .int (iI 0), .null, .null, .int (iI 0), .int (iI 0), .int (iI 0), .int (iI 0)]), .inr (5, [.ref (f2 0), .int (iI 0), .int (iI 0)]), zI (zG0 l D cy h0) 60 (fun _ => 0)]
  refine V_aload_n I.1 dX1_init_15 rfl ?_
  refine V_new (ci := 5) (n := 3) (ty := tyX5) (fs := [.null, .int (iI 0), .int (iI 0)]) I wl_X1_9 wx_X5 wn_X5 rfl tyX5_ok (fun j hj => by rcases (show j = 0 ∨ j = 1 ∨ j = 2 by omega) with rfl | rfl | rfl <;> rfl) (by decide) rfl dX1_init_16 (fun f3 I => ?_)
  show V _ _ 19 [some (.ref h0)] [.ref (f3 0), .ref h0] [.inr (1, [.ref (f1 0), .null, .null, .null, .null, .null, .int (iI 0), .null, .null, .int (iI 0), .int (iI 0), .int (iI 0), .int (iI 0)]), .inr (5, [.ref (f2 0), .int (iI 0), .int (iI 0)]), zI (zG0 l D cy h0) 60 (fun _ => 0), .inr (5, [.null, .int (iI 0), .int (iI 0)])]
  refine V_dup I.1 dX1_init_19 rfl ?_
  refine V_iniN (j := 3) (n := 4) I wm_X1_11 wi_X5_init wn_X5 wc_X5_init (by decide) rfl (i_X5 _ _ _) (by decide) rfl rfl rfl (fun f => hd_X5 ((zG0 _ _ _ _).ext 1 f)) (fun f => rfl) dX1_init_20 (by decide) (Nat.le_of_ble_eq_true rfl) (fun f4 I => ?_)
  show V _ _ 23 [some (.ref h0)] [.ref (f3 0), .ref h0] [.inr (1, [.ref (f1 0), .null, .null, .null, .null, .null, .int (iI 0), .null, .null, .int (iI 0), .int (iI 0), .int (iI 0), .int (iI 0)]), .inr (5, [.ref (f2 0), .int (iI 0), .int (iI 0)]), zI (zG0 l D cy h0) 60 (fun _ => 0), .inr (5, [.ref (f4 0), .int (iI 0), .int (iI 0)]), zI (zG0 l D cy h0) 60 (fun _ => 0)]
  refine V_putF (q := 0) (k := 1) I (by decide) wf_X1_18 rfl tyX1_ok nmX1 (by decide) rfl rfl rfl rfl dX1_init_23 rfl rfl (Nat.le_of_ble_eq_true rfl) ?_
  show V _ _ 26 [some (.ref h0)] [] [.inr (1, [.ref (f1 0), .ref (f3 0), .null, .null, .null, .null, .int (iI 0), .null, .null, .int (iI 0), .int (iI 0), .int (iI 0), .int (iI 0)]), .inr (5, [.ref (f2 0), .int (iI 0), .int (iI 0)]), zI (zG0 l D cy h0) 60 (fun _ => 0), .inr (5, [.ref (f4 0), .int (iI 0), .int (iI 0)]), zI (zG0 l D cy h0) 60 (fun _ => 0)]
  refine V_aload_n I.1 dX1_init_26 rfl ?_
  refine V_new (ci := 3) (n := 5) (ty := tyX3) (fs := [.null, .null, .null, .int (iI 0), .int (iI 0)]) I wl_X1_21 wx_X3 wn_X3 rfl tyX3_ok (fun j hj => by rcases (show j = 0 ∨ j = 1 ∨ j = 2 ∨ j = 3 ∨ j = 4 by omega) with rfl | rfl | rfl | rfl | rfl <;> rfl) (by decide) rfl dX1_init_27 (fun f5 I => ?_)
  show V _ _ 30 [some (.ref h0)] [.ref (f5 0), .ref h0] [.inr (1, [.ref (f1 0), .ref (f3 0), .null, .null, .null, .null, .int (iI 0), .null, .null, .int (iI 0), .int (iI 0), .int (iI 0), .int (iI 0)]), .inr (5, [.ref (f2 0), .int (iI 0), .int (iI 0)]), zI (zG0 l D cy h0) 60 (fun _ => 0), .inr (5, [.ref (f4 0), .int (iI 0), .int (iI 0)]), zI (zG0 l D cy h0) 60 (fun _ => 0), .inr (3, [.null, .null, .null, .int (iI 0), .int (iI 0)])]
  refine V_dup I.1 dX1_init_30 rfl ?_
  refine V_iniN (j := 5) (n := 6) I wm_X1_23 wi_X3_init wn_X3 wc_X3_init (by decide) rfl (i_X3 _ _ _) (by decide) rfl rfl rfl (fun f => hd_X3 ((zG0 _ _ _ _).ext 1 f)) (fun f => rfl) dX1_init_31 (by decide) (Nat.le_of_ble_eq_true rfl) (fun f6 I => ?_)
  show V _ _ 34 [some (.ref h0)] [.ref (f5 0), .ref h0] [.inr (1, [.ref (f1 0), .ref (f3 0), .null, .null, .null, .null, .int (iI 0), .null, .null, .int (iI 0), .int (iI 0), .int (iI 0), .int (iI 0)]), .inr (5, [.ref (f2 0), .int (iI 0), .int (iI 0)]), zI (zG0 l D cy h0) 60 (fun _ => 0), .inr (5, [.ref (f4 0), .int (iI 0), .int (iI 0)]), zI (zG0 l D cy h0) 60 (fun _ => 0), .inr (3, [.ref (f6 0), .ref (f6 1), .ref (f6 2), .int (iI 0), .int (iI 0)]), zI (zG0 l D cy h0) 480 (fun _ => 0), zI (zG0 l D cy h0) 8 (fun _ => 0), zI (zG0 l D cy h0) 8 (fun _ => 0)]
  refine V_putF (q := 0) (k := 2) I (by decide) wf_X1_24 rfl tyX1_ok nmX1 (by decide) rfl rfl rfl rfl dX1_init_34 rfl rfl (Nat.le_of_ble_eq_true rfl) ?_
  show V _ _ 37 [some (.ref h0)] [] [.inr (1, [.ref (f1 0), .ref (f3 0), .ref (f5 0), .null, .null, .null, .int (iI 0), .null, .null, .int (iI 0), .int (iI 0), .int (iI 0), .int (iI 0)]), .inr (5, [.ref (f2 0), .int (iI 0), .int (iI 0)]), zI (zG0 l D cy h0) 60 (fun _ => 0), .inr (5, [.ref (f4 0), .int (iI 0), .int (iI 0)]), zI (zG0 l D cy h0) 60 (fun _ => 0), .inr (3, [.ref (f6 0), .ref (f6 1), .ref (f6 2), .int (iI 0), .int (iI 0)]), zI (zG0 l D cy h0) 480 (fun _ => 0), zI (zG0 l D cy h0) 8 (fun _ => 0), zI (zG0 l D cy h0) 8 (fun _ => 0)]
  refine V_aload_n I.1 dX1_init_37 rfl ?_
  refine V_new (ci := 0) (n := 9) (ty := tyX0) (fs := [.null, .int (iI 0), .int (iI 0), .int (iI 0), .int (iI 0), .int (iI 0), .int (iI 0), .int (iI 0), .int (iI 0)]) I wl_X1_28 wx_X0 wn_X0 rfl tyX0_ok (fun j hj => by rcases (show j = 0 ∨ j = 1 ∨ j = 2 ∨ j = 3 ∨ j = 4 ∨ j = 5 ∨ j = 6 ∨ j = 7 ∨ j = 8 by omega) with rfl | rfl | rfl | rfl | rfl | rfl | rfl | rfl | rfl <;> rfl) (by decide) rfl dX1_init_38 (fun f7 I => ?_)
  show V _ _ 41 [some (.ref h0)] [.ref (f7 0), .ref h0] [.inr (1, [.ref (f1 0), .ref (f3 0), .ref (f5 0), .null, .null, .null, .int (iI 0), .null, .null, .int (iI 0), .int (iI 0), .int (iI 0), .int (iI 0)]), .inr (5, [.ref (f2 0), .int (iI 0), .int (iI 0)]), zI (zG0 l D cy h0) 60 (fun _ => 0), .inr (5, [.ref (f4 0), .int (iI 0), .int (iI 0)]), zI (zG0 l D cy h0) 60 (fun _ => 0), .inr (3, [.ref (f6 0), .ref (f6 1), .ref (f6 2), .int (iI 0), .int (iI 0)]), zI (zG0 l D cy h0) 480 (fun _ => 0), zI (zG0 l D cy h0) 8 (fun _ => 0), zI (zG0 l D cy h0) 8 (fun _ => 0), .inr (0, [.null, .int (iI 0), .int (iI 0), .int (iI 0), .int (iI 0), .int (iI 0), .int (iI 0), .int (iI 0), .int (iI 0)])]
  refine V_dup I.1 dX1_init_41 rfl ?_
  refine V_iniN (j := 9) (n := 10) I wm_X1_30 wi_X0_init wn_X0 wc_X0_init (by decide) rfl (i_X0 _ _ _) (by decide) rfl rfl rfl (fun f => hd_X0 ((zG0 _ _ _ _).ext 1 f)) (fun f => rfl) dX1_init_42 (by decide) (Nat.le_of_ble_eq_true rfl) (fun f8 I => ?_)
  show V _ _ 45 [some (.ref h0)] [.ref (f7 0), .ref h0] [.inr (1, [.ref (f1 0), .ref (f3 0), .ref (f5 0), .null, .null, .null, .int (iI 0), .null, .null, .int (iI 0), .int (iI 0), .int (iI 0), .int (iI 0)]), .inr (5, [.ref (f2 0), .int (iI 0), .int (iI 0)]), zI (zG0 l D cy h0) 60 (fun _ => 0), .inr (5, [.ref (f4 0), .int (iI 0), .int (iI 0)]), zI (zG0 l D cy h0) 60 (fun _ => 0), .inr (3, [.ref (f6 0), .ref (f6 1), .ref (f6 2), .int (iI 0), .int (iI 0)]), zI (zG0 l D cy h0) 480 (fun _ => 0), zI (zG0 l D cy h0) 8 (fun _ => 0), zI (zG0 l D cy h0) 8 (fun _ => 0), .inr (0, [.ref (f8 0), .int (iI 0), .int (iI 0), .int (iI 0), .int (iI 0), .int (iI 0), .int (iI 0), .int (iI 0), .int (iI 0)]), .inr (2, [.ref (f8 1), .int (iI 0)]), zI (zG0 l D cy h0) 30 (fun _ => 0)]
  refine V_putF (q := 0) (k := 3) I (by decide) wf_X1_31 rfl tyX1_ok nmX1 (by decide) rfl rfl rfl rfl dX1_init_45 rfl rfl (Nat.le_of_ble_eq_true rfl) ?_
  show V _ _ 48 [some (.ref h0)] [] [.inr (1, [.ref (f1 0), .ref (f3 0), .ref (f5 0), .ref (f7 0), .null, .null, .int (iI 0), .null, .null, .int (iI 0), .int (iI 0), .int (iI 0), .int (iI 0)]), .inr (5, [.ref (f2 0), .int (iI 0), .int (iI 0)]), zI (zG0 l D cy h0) 60 (fun _ => 0), .inr (5, [.ref (f4 0), .int (iI 0), .int (iI 0)]), zI (zG0 l D cy h0) 60 (fun _ => 0), .inr (3, [.ref (f6 0), .ref (f6 1), .ref (f6 2), .int (iI 0), .int (iI 0)]), zI (zG0 l D cy h0) 480 (fun _ => 0), zI (zG0 l D cy h0) 8 (fun _ => 0), zI (zG0 l D cy h0) 8 (fun _ => 0), .inr (0, [.ref (f8 0), .int (iI 0), .int (iI 0), .int (iI 0), .int (iI 0), .int (iI 0), .int (iI 0), .int (iI 0), .int (iI 0)]), .inr (2, [.ref (f8 1), .int (iI 0)]), zI (zG0 l D cy h0) 30 (fun _ => 0)]
  refine V_aload_n I.1 dX1_init_48 rfl ?_
  refine V_new (ci := 2) (n := 12) (ty := tyX2) (fs := [.null, .int (iI 0)]) I wl_X1_35 wx_X2 wn_X2 rfl tyX2_ok (fun j hj => by rcases (show j = 0 ∨ j = 1 by omega) with rfl | rfl <;> rfl) (by decide) rfl dX1_init_49 (fun f9 I => ?_)
  show V _ _ 52 [some (.ref h0)] [.ref (f9 0), .ref h0] [.inr (1, [.ref (f1 0), .ref (f3 0), .ref (f5 0), .ref (f7 0), .null, .null, .int (iI 0), .null, .null, .int (iI 0), .int (iI 0), .int (iI 0), .int (iI 0)]), .inr (5, [.ref (f2 0), .int (iI 0), .int (iI 0)]), zI (zG0 l D cy h0) 60 (fun _ => 0), .inr (5, [.ref (f4 0), .int (iI 0), .int (iI 0)]), zI (zG0 l D cy h0) 60 (fun _ => 0), .inr (3, [.ref (f6 0), .ref (f6 1), .ref (f6 2), .int (iI 0), .int (iI 0)]), zI (zG0 l D cy h0) 480 (fun _ => 0), zI (zG0 l D cy h0) 8 (fun _ => 0), zI (zG0 l D cy h0) 8 (fun _ => 0), .inr (0, [.ref (f8 0), .int (iI 0), .int (iI 0), .int (iI 0), .int (iI 0), .int (iI 0), .int (iI 0), .int (iI 0), .int (iI 0)]), .inr (2, [.ref (f8 1), .int (iI 0)]), zI (zG0 l D cy h0) 30 (fun _ => 0), .inr (2, [.null, .int (iI 0)])]
  refine V_dup I.1 dX1_init_52 rfl ?_
  refine V_iniN (j := 12) (n := 13) I wm_X1_37 wi_X2_init wn_X2 wc_X2_init (by decide) rfl (i_X2 _ _ _) (by decide) rfl rfl rfl (fun f => hd_X2 ((zG0 _ _ _ _).ext 1 f)) (fun f => rfl) dX1_init_53 (by decide) (Nat.le_of_ble_eq_true rfl) (fun f10 I => ?_)
  show V _ _ 56 [some (.ref h0)] [.ref (f9 0), .ref h0] [.inr (1, [.ref (f1 0), .ref (f3 0), .ref (f5 0), .ref (f7 0), .null, .null, .int (iI 0), .null, .null, .int (iI 0), .int (iI 0), .int (iI 0), .int (iI 0)]), .inr (5, [.ref (f2 0), .int (iI 0), .int (iI 0)]), zI (zG0 l D cy h0) 60 (fun _ => 0), .inr (5, [.ref (f4 0), .int (iI 0), .int (iI 0)]), zI (zG0 l D cy h0) 60 (fun _ => 0), .inr (3, [.ref (f6 0), .ref (f6 1), .ref (f6 2), .int (iI 0), .int (iI 0)]), zI (zG0 l D cy h0) 480 (fun _ => 0), zI (zG0 l D cy h0) 8 (fun _ => 0), zI (zG0 l D cy h0) 8 (fun _ => 0), .inr (0, [.ref (f8 0), .int (iI 0), .int (iI 0), .int (iI 0), .int (iI 0), .int (iI 0), .int (iI 0), .int (iI 0), .int (iI 0)]), .inr (2, [.ref (f8 1), .int (iI 0)]), zI (zG0 l D cy h0) 30 (fun _ => 0), .inr (2, [.ref (f10 0), .int (iI 0)]), zI (zG0 l D cy h0) 30 (fun _ => 0)]
  refine V_putF (q := 0) (k := 4) I (by decide) wf_X1_38 rfl tyX1_ok nmX1 (by decide) rfl rfl rfl rfl dX1_init_56 rfl rfl (Nat.le_of_ble_eq_true rfl) ?_
  show V _ _ 59 [some (.ref h0)] [] [.inr (1, [.ref (f1 0), .ref (f3 0), .ref (f5 0), .ref (f7 0), .ref (f9 0), .null, .int (iI 0), .null, .null, .int (iI 0), .int (iI 0), .int (iI 0), .int (iI 0)]), .inr (5, [.ref (f2 0), .int (iI 0), .int (iI 0)]), zI (zG0 l D cy h0) 60 (fun _ => 0), .inr (5, [.ref (f4 0), .int (iI 0), .int (iI 0)]), zI (zG0 l D cy h0) 60 (fun _ => 0), .inr (3, [.ref (f6 0), .ref (f6 1), .ref (f6 2), .int (iI 0), .int (iI 0)]), zI (zG0 l D cy h0) 480 (fun _ => 0), zI (zG0 l D cy h0) 8 (fun _ => 0), zI (zG0 l D cy h0) 8 (fun _ => 0), .inr (0, [.ref (f8 0), .int (iI 0), .int (iI 0), .int (iI 0), .int (iI 0), .int (iI 0), .int (iI 0), .int (iI 0), .int (iI 0)]), .inr (2, [.ref (f8 1), .int (iI 0)]), zI (zG0 l D cy h0) 30 (fun _ => 0), .inr (2, [.ref (f10 0), .int (iI 0)]), zI (zG0 l D cy h0) 30 (fun _ => 0)]
  refine V_aload_n I.1 dX1_init_59 rfl ?_
  refine V_bipush I.1 dX1_init_60 (by decide) ?_
  refine V_newI (N := 60) (n := 14) I (by decide) (by decide) (by decide) rfl wA_I dX1_init_62 (fun f11 I => ?_)
  show V _ _ 64 [some (.ref h0)] [.ref (f11 0), .ref h0] [.inr (1, [.ref (f1 0), .ref (f3 0), .ref (f5 0), .ref (f7 0), .ref (f9 0), .null, .int (iI 0), .null, .null, .int (iI 0), .int (iI 0), .int (iI 0), .int (iI 0)]), .inr (5, [.ref (f2 0), .int (iI 0), .int (iI 0)]), zI (zG0 l D cy h0) 60 (fun _ => 0), .inr (5, [.ref (f4 0), .int (iI 0), .int (iI 0)]), zI (zG0 l D cy h0) 60 (fun _ => 0), .inr (3, [.ref (f6 0), .ref (f6 1), .ref (f6 2), .int (iI 0), .int (iI 0)]), zI (zG0 l D cy h0) 480 (fun _ => 0), zI (zG0 l D cy h0) 8 (fun _ => 0), zI (zG0 l D cy h0) 8 (fun _ => 0), .inr (0, [.ref (f8 0), .int (iI 0), .int (iI 0), .int (iI 0), .int (iI 0), .int (iI 0), .int (iI 0), .int (iI 0), .int (iI 0)]), .inr (2, [.ref (f8 1), .int (iI 0)]), zI (zG0 l D cy h0) 30 (fun _ => 0), .inr (2, [.ref (f10 0), .int (iI 0)]), zI (zG0 l D cy h0) 30 (fun _ => 0), zI (zG0 l D cy h0) 60 (fun _ => 0)]
  refine V_putF (q := 0) (k := 5) I (by decide) wf_X1_42 rfl tyX1_ok nmX1 (by decide) rfl rfl rfl rfl dX1_init_64 rfl rfl (Nat.le_of_ble_eq_true rfl) ?_
  show V _ _ 67 [some (.ref h0)] [] [.inr (1, [.ref (f1 0), .ref (f3 0), .ref (f5 0), .ref (f7 0), .ref (f9 0), .ref (f11 0), .int (iI 0), .null, .null, .int (iI 0), .int (iI 0), .int (iI 0), .int (iI 0)]), .inr (5, [.ref (f2 0), .int (iI 0), .int (iI 0)]), zI (zG0 l D cy h0) 60 (fun _ => 0), .inr (5, [.ref (f4 0), .int (iI 0), .int (iI 0)]), zI (zG0 l D cy h0) 60 (fun _ => 0), .inr (3, [.ref (f6 0), .ref (f6 1), .ref (f6 2), .int (iI 0), .int (iI 0)]), zI (zG0 l D cy h0) 480 (fun _ => 0), zI (zG0 l D cy h0) 8 (fun _ => 0), zI (zG0 l D cy h0) 8 (fun _ => 0), .inr (0, [.ref (f8 0), .int (iI 0), .int (iI 0), .int (iI 0), .int (iI 0), .int (iI 0), .int (iI 0), .int (iI 0), .int (iI 0)]), .inr (2, [.ref (f8 1), .int (iI 0)]), zI (zG0 l D cy h0) 30 (fun _ => 0), .inr (2, [.ref (f10 0), .int (iI 0)]), zI (zG0 l D cy h0) 30 (fun _ => 0), zI (zG0 l D cy h0) 60 (fun _ => 0)]
  refine V_aload_n I.1 dX1_init_67 rfl ?_
  refine V_iconst I.1 dX1_init_68 ?_
  refine V_newI (N := 4) (n := 15) I (by decide) (by decide) (by decide) rfl wA_I dX1_init_69 (fun f12 I => ?_)
  show V _ _ 71 [some (.ref h0)] [.ref (f12 0), .ref h0] [.inr (1, [.ref (f1 0), .ref (f3 0), .ref (f5 0), .ref (f7 0), .ref (f9 0), .ref (f11 0), .int (iI 0), .null, .null, .int (iI 0), .int (iI 0), .int (iI 0), .int (iI 0)]), .inr (5, [.ref (f2 0), .int (iI 0), .int (iI 0)]), zI (zG0 l D cy h0) 60 (fun _ => 0), .inr (5, [.ref (f4 0), .int (iI 0), .int (iI 0)]), zI (zG0 l D cy h0) 60 (fun _ => 0), .inr (3, [.ref (f6 0), .ref (f6 1), .ref (f6 2), .int (iI 0), .int (iI 0)]), zI (zG0 l D cy h0) 480 (fun _ => 0), zI (zG0 l D cy h0) 8 (fun _ => 0), zI (zG0 l D cy h0) 8 (fun _ => 0), .inr (0, [.ref (f8 0), .int (iI 0), .int (iI 0), .int (iI 0), .int (iI 0), .int (iI 0), .int (iI 0), .int (iI 0), .int (iI 0)]), .inr (2, [.ref (f8 1), .int (iI 0)]), zI (zG0 l D cy h0) 30 (fun _ => 0), .inr (2, [.ref (f10 0), .int (iI 0)]), zI (zG0 l D cy h0) 30 (fun _ => 0), zI (zG0 l D cy h0) 60 (fun _ => 0), zI (zG0 l D cy h0) 4 (fun _ => 0)]
  refine V_dup I.1 dX1_init_71 rfl ?_
  refine V_iconst I.1 dX1_init_72 ?_
  refine V_iconst I.1 dX1_init_73 ?_
  refine V_iast (q := 15) I.1 dX1_init_74 rfl (by decide) (by decide) (by decide) ?_
  show V _ _ 75 [some (.ref h0)] [.ref (f12 0), .ref h0] [.inr (1, [.ref (f1 0), .ref (f3 0), .ref (f5 0), .ref (f7 0), .ref (f9 0), .ref (f11 0), .int (iI 0), .null, .null, .int (iI 0), .int (iI 0), .int (iI 0), .int (iI 0)]), .inr (5, [.ref (f2 0), .int (iI 0), .int (iI 0)]), zI (zG0 l D cy h0) 60 (fun _ => 0), .inr (5, [.ref (f4 0), .int (iI 0), .int (iI 0)]), zI (zG0 l D cy h0) 60 (fun _ => 0), .inr (3, [.ref (f6 0), .ref (f6 1), .ref (f6 2), .int (iI 0), .int (iI 0)]), zI (zG0 l D cy h0) 480 (fun _ => 0), zI (zG0 l D cy h0) 8 (fun _ => 0), zI (zG0 l D cy h0) 8 (fun _ => 0), .inr (0, [.ref (f8 0), .int (iI 0), .int (iI 0), .int (iI 0), .int (iI 0), .int (iI 0), .int (iI 0), .int (iI 0), .int (iI 0)]), .inr (2, [.ref (f8 1), .int (iI 0)]), zI (zG0 l D cy h0) 30 (fun _ => 0), .inr (2, [.ref (f10 0), .int (iI 0)]), zI (zG0 l D cy h0) 30 (fun _ => 0), zI (zG0 l D cy h0) 60 (fun _ => 0), zI (zG0 l D cy h0) 4 (zup (fun _ => 0) 0 (-1))]
  refine V_dup I.1 dX1_init_75 rfl ?_
  refine V_iconst I.1 dX1_init_76 ?_
  refine V_iconst I.1 dX1_init_77 ?_
  refine V_iast (q := 15) I.1 dX1_init_78 rfl (by decide) (by decide) (by decide) ?_
  show V _ _ 79 [some (.ref h0)] [.ref (f12 0), .ref h0] [.inr (1, [.ref (f1 0), .ref (f3 0), .ref (f5 0), .ref (f7 0), .ref (f9 0), .ref (f11 0), .int (iI 0), .null, .null, .int (iI 0), .int (iI 0), .int (iI 0), .int (iI 0)]), .inr (5, [.ref (f2 0), .int (iI 0), .int (iI 0)]), zI (zG0 l D cy h0) 60 (fun _ => 0), .inr (5, [.ref (f4 0), .int (iI 0), .int (iI 0)]), zI (zG0 l D cy h0) 60 (fun _ => 0), .inr (3, [.ref (f6 0), .ref (f6 1), .ref (f6 2), .int (iI 0), .int (iI 0)]), zI (zG0 l D cy h0) 480 (fun _ => 0), zI (zG0 l D cy h0) 8 (fun _ => 0), zI (zG0 l D cy h0) 8 (fun _ => 0), .inr (0, [.ref (f8 0), .int (iI 0), .int (iI 0), .int (iI 0), .int (iI 0), .int (iI 0), .int (iI 0), .int (iI 0), .int (iI 0)]), .inr (2, [.ref (f8 1), .int (iI 0)]), zI (zG0 l D cy h0) 30 (fun _ => 0), .inr (2, [.ref (f10 0), .int (iI 0)]), zI (zG0 l D cy h0) 30 (fun _ => 0), zI (zG0 l D cy h0) 60 (fun _ => 0), zI (zG0 l D cy h0) 4 (zup (zup (fun _ => 0) 0 (-1)) 1 (-1))]
  refine V_dup I.1 dX1_init_79 rfl ?_
  refine V_iconst I.1 dX1_init_80 ?_
  refine V_iconst I.1 dX1_init_81 ?_
  refine V_iast (q := 15) I.1 dX1_init_82 rfl (by decide) (by decide) (by decide) ?_
  show V _ _ 83 [some (.ref h0)] [.ref (f12 0), .ref h0] [.inr (1, [.ref (f1 0), .ref (f3 0), .ref (f5 0), .ref (f7 0), .ref (f9 0), .ref (f11 0), .int (iI 0), .null, .null, .int (iI 0), .int (iI 0), .int (iI 0), .int (iI 0)]), .inr (5, [.ref (f2 0), .int (iI 0), .int (iI 0)]), zI (zG0 l D cy h0) 60 (fun _ => 0), .inr (5, [.ref (f4 0), .int (iI 0), .int (iI 0)]), zI (zG0 l D cy h0) 60 (fun _ => 0), .inr (3, [.ref (f6 0), .ref (f6 1), .ref (f6 2), .int (iI 0), .int (iI 0)]), zI (zG0 l D cy h0) 480 (fun _ => 0), zI (zG0 l D cy h0) 8 (fun _ => 0), zI (zG0 l D cy h0) 8 (fun _ => 0), .inr (0, [.ref (f8 0), .int (iI 0), .int (iI 0), .int (iI 0), .int (iI 0), .int (iI 0), .int (iI 0), .int (iI 0), .int (iI 0)]), .inr (2, [.ref (f8 1), .int (iI 0)]), zI (zG0 l D cy h0) 30 (fun _ => 0), .inr (2, [.ref (f10 0), .int (iI 0)]), zI (zG0 l D cy h0) 30 (fun _ => 0), zI (zG0 l D cy h0) 60 (fun _ => 0), zI (zG0 l D cy h0) 4 (zup (zup (zup (fun _ => 0) 0 (-1)) 1 (-1)) 2 (-1))]
  refine V_dup I.1 dX1_init_83 rfl ?_
  refine V_iconst I.1 dX1_init_84 ?_
  refine V_iconst I.1 dX1_init_85 ?_
  refine V_iast (q := 15) I.1 dX1_init_86 rfl (by decide) (by decide) (by decide) ?_
  show V _ _ 87 [some (.ref h0)] [.ref (f12 0), .ref h0] [.inr (1, [.ref (f1 0), .ref (f3 0), .ref (f5 0), .ref (f7 0), .ref (f9 0), .ref (f11 0), .int (iI 0), .null, .null, .int (iI 0), .int (iI 0), .int (iI 0), .int (iI 0)]), .inr (5, [.ref (f2 0), .int (iI 0), .int (iI 0)]), zI (zG0 l D cy h0) 60 (fun _ => 0), .inr (5, [.ref (f4 0), .int (iI 0), .int (iI 0)]), zI (zG0 l D cy h0) 60 (fun _ => 0), .inr (3, [.ref (f6 0), .ref (f6 1), .ref (f6 2), .int (iI 0), .int (iI 0)]), zI (zG0 l D cy h0) 480 (fun _ => 0), zI (zG0 l D cy h0) 8 (fun _ => 0), zI (zG0 l D cy h0) 8 (fun _ => 0), .inr (0, [.ref (f8 0), .int (iI 0), .int (iI 0), .int (iI 0), .int (iI 0), .int (iI 0), .int (iI 0), .int (iI 0), .int (iI 0)]), .inr (2, [.ref (f8 1), .int (iI 0)]), zI (zG0 l D cy h0) 30 (fun _ => 0), .inr (2, [.ref (f10 0), .int (iI 0)]), zI (zG0 l D cy h0) 30 (fun _ => 0), zI (zG0 l D cy h0) 60 (fun _ => 0), zI (zG0 l D cy h0) 4 (zup (zup (zup (zup (fun _ => 0) 0 (-1)) 1 (-1)) 2 (-1)) 3 (-1))]
  refine V_putF (q := 0) (k := 7) I (by decide) wf_X1_46 rfl tyX1_ok nmX1 (by decide) rfl rfl rfl rfl dX1_init_87 rfl rfl (Nat.le_of_ble_eq_true rfl) ?_
  show V _ _ 90 [some (.ref h0)] [] [.inr (1, [.ref (f1 0), .ref (f3 0), .ref (f5 0), .ref (f7 0), .ref (f9 0), .ref (f11 0), .int (iI 0), .ref (f12 0), .null, .int (iI 0), .int (iI 0), .int (iI 0), .int (iI 0)]), .inr (5, [.ref (f2 0), .int (iI 0), .int (iI 0)]), zI (zG0 l D cy h0) 60 (fun _ => 0), .inr (5, [.ref (f4 0), .int (iI 0), .int (iI 0)]), zI (zG0 l D cy h0) 60 (fun _ => 0), .inr (3, [.ref (f6 0), .ref (f6 1), .ref (f6 2), .int (iI 0), .int (iI 0)]), zI (zG0 l D cy h0) 480 (fun _ => 0), zI (zG0 l D cy h0) 8 (fun _ => 0), zI (zG0 l D cy h0) 8 (fun _ => 0), .inr (0, [.ref (f8 0), .int (iI 0), .int (iI 0), .int (iI 0), .int (iI 0), .int (iI 0), .int (iI 0), .int (iI 0), .int (iI 0)]), .inr (2, [.ref (f8 1), .int (iI 0)]), zI (zG0 l D cy h0) 30 (fun _ => 0), .inr (2, [.ref (f10 0), .int (iI 0)]), zI (zG0 l D cy h0) 30 (fun _ => 0), zI (zG0 l D cy h0) 60 (fun _ => 0), zI (zG0 l D cy h0) 4 (zup (zup (zup (zup (fun _ => 0) 0 (-1)) 1 (-1)) 2 (-1)) 3 (-1))]
  refine V_aload_n I.1 dX1_init_90 rfl ?_
  refine V_bipush I.1 dX1_init_91 (by decide) ?_
  refine V_newI (N := 7) (n := 16) I (by decide) (by decide) (by decide) rfl wA_I dX1_init_93 (fun f13 I => ?_)
  show V _ _ 95 [some (.ref h0)] [.ref (f13 0), .ref h0] [.inr (1, [.ref (f1 0), .ref (f3 0), .ref (f5 0), .ref (f7 0), .ref (f9 0), .ref (f11 0), .int (iI 0), .ref (f12 0), .null, .int (iI 0), .int (iI 0), .int (iI 0), .int (iI 0)]), .inr (5, [.ref (f2 0), .int (iI 0), .int (iI 0)]), zI (zG0 l D cy h0) 60 (fun _ => 0), .inr (5, [.ref (f4 0), .int (iI 0), .int (iI 0)]), zI (zG0 l D cy h0) 60 (fun _ => 0), .inr (3, [.ref (f6 0), .ref (f6 1), .ref (f6 2), .int (iI 0), .int (iI 0)]), zI (zG0 l D cy h0) 480 (fun _ => 0), zI (zG0 l D cy h0) 8 (fun _ => 0), zI (zG0 l D cy h0) 8 (fun _ => 0), .inr (0, [.ref (f8 0), .int (iI 0), .int (iI 0), .int (iI 0), .int (iI 0), .int (iI 0), .int (iI 0), .int (iI 0), .int (iI 0)]), .inr (2, [.ref (f8 1), .int (iI 0)]), zI (zG0 l D cy h0) 30 (fun _ => 0), .inr (2, [.ref (f10 0), .int (iI 0)]), zI (zG0 l D cy h0) 30 (fun _ => 0), zI (zG0 l D cy h0) 60 (fun _ => 0), zI (zG0 l D cy h0) 4 (zup (zup (zup (zup (fun _ => 0) 0 (-1)) 1 (-1)) 2 (-1)) 3 (-1)), zI (zG0 l D cy h0) 7 (fun _ => 0)]
  refine V_dup I.1 dX1_init_95 rfl ?_
  refine V_iconst I.1 dX1_init_96 ?_
  refine V_iconst I.1 dX1_init_97 ?_
  refine V_iast (q := 16) I.1 dX1_init_98 rfl (by decide) (by decide) (by decide) ?_
  show V _ _ 99 [some (.ref h0)] [.ref (f13 0), .ref h0] [.inr (1, [.ref (f1 0), .ref (f3 0), .ref (f5 0), .ref (f7 0), .ref (f9 0), .ref (f11 0), .int (iI 0), .ref (f12 0), .null, .int (iI 0), .int (iI 0), .int (iI 0), .int (iI 0)]), .inr (5, [.ref (f2 0), .int (iI 0), .int (iI 0)]), zI (zG0 l D cy h0) 60 (fun _ => 0), .inr (5, [.ref (f4 0), .int (iI 0), .int (iI 0)]), zI (zG0 l D cy h0) 60 (fun _ => 0), .inr (3, [.ref (f6 0), .ref (f6 1), .ref (f6 2), .int (iI 0), .int (iI 0)]), zI (zG0 l D cy h0) 480 (fun _ => 0), zI (zG0 l D cy h0) 8 (fun _ => 0), zI (zG0 l D cy h0) 8 (fun _ => 0), .inr (0, [.ref (f8 0), .int (iI 0), .int (iI 0), .int (iI 0), .int (iI 0), .int (iI 0), .int (iI 0), .int (iI 0), .int (iI 0)]), .inr (2, [.ref (f8 1), .int (iI 0)]), zI (zG0 l D cy h0) 30 (fun _ => 0), .inr (2, [.ref (f10 0), .int (iI 0)]), zI (zG0 l D cy h0) 30 (fun _ => 0), zI (zG0 l D cy h0) 60 (fun _ => 0), zI (zG0 l D cy h0) 4 (zup (zup (zup (zup (fun _ => 0) 0 (-1)) 1 (-1)) 2 (-1)) 3 (-1)), zI (zG0 l D cy h0) 7 (zup (fun _ => 0) 0 1)]
  refine V_dup I.1 dX1_init_99 rfl ?_
  refine V_iconst I.1 dX1_init_100 ?_
  refine V_iconst I.1 dX1_init_101 ?_
  refine V_iast (q := 16) I.1 dX1_init_102 rfl (by decide) (by decide) (by decide) ?_
  show V _ _ 103 [some (.ref h0)] [.ref (f13 0), .ref h0] [.inr (1, [.ref (f1 0), .ref (f3 0), .ref (f5 0), .ref (f7 0), .ref (f9 0), .ref (f11 0), .int (iI 0), .ref (f12 0), .null, .int (iI 0), .int (iI 0), .int (iI 0), .int (iI 0)]), .inr (5, [.ref (f2 0), .int (iI 0), .int (iI 0)]), zI (zG0 l D cy h0) 60 (fun _ => 0), .inr (5, [.ref (f4 0), .int (iI 0), .int (iI 0)]), zI (zG0 l D cy h0) 60 (fun _ => 0), .inr (3, [.ref (f6 0), .ref (f6 1), .ref (f6 2), .int (iI 0), .int (iI 0)]), zI (zG0 l D cy h0) 480 (fun _ => 0), zI (zG0 l D cy h0) 8 (fun _ => 0), zI (zG0 l D cy h0) 8 (fun _ => 0), .inr (0, [.ref (f8 0), .int (iI 0), .int (iI 0), .int (iI 0), .int (iI 0), .int (iI 0), .int (iI 0), .int (iI 0), .int (iI 0)]), .inr (2, [.ref (f8 1), .int (iI 0)]), zI (zG0 l D cy h0) 30 (fun _ => 0), .inr (2, [.ref (f10 0), .int (iI 0)]), zI (zG0 l D cy h0) 30 (fun _ => 0), zI (zG0 l D cy h0) 60 (fun _ => 0), zI (zG0 l D cy h0) 4 (zup (zup (zup (zup (fun _ => 0) 0 (-1)) 1 (-1)) 2 (-1)) 3 (-1)), zI (zG0 l D cy h0) 7 (zup (zup (fun _ => 0) 0 1) 1 1)]
  refine V_dup I.1 dX1_init_103 rfl ?_
  refine V_iconst I.1 dX1_init_104 ?_
  refine V_iconst I.1 dX1_init_105 ?_
  refine V_iast (q := 16) I.1 dX1_init_106 rfl (by decide) (by decide) (by decide) ?_
  show V _ _ 107 [some (.ref h0)] [.ref (f13 0), .ref h0] [.inr (1, [.ref (f1 0), .ref (f3 0), .ref (f5 0), .ref (f7 0), .ref (f9 0), .ref (f11 0), .int (iI 0), .ref (f12 0), .null, .int (iI 0), .int (iI 0), .int (iI 0), .int (iI 0)]), .inr (5, [.ref (f2 0), .int (iI 0), .int (iI 0)]), zI (zG0 l D cy h0) 60 (fun _ => 0), .inr (5, [.ref (f4 0), .int (iI 0), .int (iI 0)]), zI (zG0 l D cy h0) 60 (fun _ => 0), .inr (3, [.ref (f6 0), .ref (f6 1), .ref (f6 2), .int (iI 0), .int (iI 0)]), zI (zG0 l D cy h0) 480 (fun _ => 0), zI (zG0 l D cy h0) 8 (fun _ => 0), zI (zG0 l D cy h0) 8 (fun _ => 0), .inr (0, [.ref (f8 0), .int (iI 0), .int (iI 0), .int (iI 0), .int (iI 0), .int (iI 0), .int (iI 0), .int (iI 0), .int (iI 0)]), .inr (2, [.ref (f8 1), .int (iI 0)]), zI (zG0 l D cy h0) 30 (fun _ => 0), .inr (2, [.ref (f10 0), .int (iI 0)]), zI (zG0 l D cy h0) 30 (fun _ => 0), zI (zG0 l D cy h0) 60 (fun _ => 0), zI (zG0 l D cy h0) 4 (zup (zup (zup (zup (fun _ => 0) 0 (-1)) 1 (-1)) 2 (-1)) 3 (-1)), zI (zG0 l D cy h0) 7 (zup (zup (zup (fun _ => 0) 0 1) 1 1) 2 1)]
  refine V_dup I.1 dX1_init_107 rfl ?_
  refine V_iconst I.1 dX1_init_108 ?_
  refine V_iconst I.1 dX1_init_109 ?_
  refine V_iast (q := 16) I.1 dX1_init_110 rfl (by decide) (by decide) (by decide) ?_
  show V _ _ 111 [some (.ref h0)] [.ref (f13 0), .ref h0] [.inr (1, [.ref (f1 0), .ref (f3 0), .ref (f5 0), .ref (f7 0), .ref (f9 0), .ref (f11 0), .int (iI 0), .ref (f12 0), .null, .int (iI 0), .int (iI 0), .int (iI 0), .int (iI 0)]), .inr (5, [.ref (f2 0), .int (iI 0), .int (iI 0)]), zI (zG0 l D cy h0) 60 (fun _ => 0), .inr (5, [.ref (f4 0), .int (iI 0), .int (iI 0)]), zI (zG0 l D cy h0) 60 (fun _ => 0), .inr (3, [.ref (f6 0), .ref (f6 1), .ref (f6 2), .int (iI 0), .int (iI 0)]), zI (zG0 l D cy h0) 480 (fun _ => 0), zI (zG0 l D cy h0) 8 (fun _ => 0), zI (zG0 l D cy h0) 8 (fun _ => 0), .inr (0, [.ref (f8 0), .int (iI 0), .int (iI 0), .int (iI 0), .int (iI 0), .int (iI 0), .int (iI 0), .int (iI 0), .int (iI 0)]), .inr (2, [.ref (f8 1), .int (iI 0)]), zI (zG0 l D cy h0) 30 (fun _ => 0), .inr (2, [.ref (f10 0), .int (iI 0)]), zI (zG0 l D cy h0) 30 (fun _ => 0), zI (zG0 l D cy h0) 60 (fun _ => 0), zI (zG0 l D cy h0) 4 (zup (zup (zup (zup (fun _ => 0) 0 (-1)) 1 (-1)) 2 (-1)) 3 (-1)), zI (zG0 l D cy h0) 7 (zup (zup (zup (zup (fun _ => 0) 0 1) 1 1) 2 1) 3 1)]
  refine V_dup I.1 dX1_init_111 rfl ?_
  refine V_iconst I.1 dX1_init_112 ?_
  refine V_iconst I.1 dX1_init_113 ?_
  refine V_iast (q := 16) I.1 dX1_init_114 rfl (by decide) (by decide) (by decide) ?_
  show V _ _ 115 [some (.ref h0)] [.ref (f13 0), .ref h0] [.inr (1, [.ref (f1 0), .ref (f3 0), .ref (f5 0), .ref (f7 0), .ref (f9 0), .ref (f11 0), .int (iI 0), .ref (f12 0), .null, .int (iI 0), .int (iI 0), .int (iI 0), .int (iI 0)]), .inr (5, [.ref (f2 0), .int (iI 0), .int (iI 0)]), zI (zG0 l D cy h0) 60 (fun _ => 0), .inr (5, [.ref (f4 0), .int (iI 0), .int (iI 0)]), zI (zG0 l D cy h0) 60 (fun _ => 0), .inr (3, [.ref (f6 0), .ref (f6 1), .ref (f6 2), .int (iI 0), .int (iI 0)]), zI (zG0 l D cy h0) 480 (fun _ => 0), zI (zG0 l D cy h0) 8 (fun _ => 0), zI (zG0 l D cy h0) 8 (fun _ => 0), .inr (0, [.ref (f8 0), .int (iI 0), .int (iI 0), .int (iI 0), .int (iI 0), .int (iI 0), .int (iI 0), .int (iI 0), .int (iI 0)]), .inr (2, [.ref (f8 1), .int (iI 0)]), zI (zG0 l D cy h0) 30 (fun _ => 0), .inr (2, [.ref (f10 0), .int (iI 0)]), zI (zG0 l D cy h0) 30 (fun _ => 0), zI (zG0 l D cy h0) 60 (fun _ => 0), zI (zG0 l D cy h0) 4 (zup (zup (zup (zup (fun _ => 0) 0 (-1)) 1 (-1)) 2 (-1)) 3 (-1)), zI (zG0 l D cy h0) 7 (zup (zup (zup (zup (zup (fun _ => 0) 0 1) 1 1) 2 1) 3 1) 4 1)]
  refine V_dup I.1 dX1_init_115 rfl ?_
  refine V_iconst I.1 dX1_init_116 ?_
  refine V_iconst I.1 dX1_init_117 ?_
  refine V_iast (q := 16) I.1 dX1_init_118 rfl (by decide) (by decide) (by decide) ?_
  show V _ _ 119 [some (.ref h0)] [.ref (f13 0), .ref h0] [.inr (1, [.ref (f1 0), .ref (f3 0), .ref (f5 0), .ref (f7 0), .ref (f9 0), .ref (f11 0), .int (iI 0), .ref (f12 0), .null, .int (iI 0), .int (iI 0), .int (iI 0), .int (iI 0)]), .inr (5, [.ref (f2 0), .int (iI 0), .int (iI 0)]), zI (zG0 l D cy h0) 60 (fun _ => 0), .inr (5, [.ref (f4 0), .int (iI 0), .int (iI 0)]), zI (zG0 l D cy h0) 60 (fun _ => 0), .inr (3, [.ref (f6 0), .ref (f6 1), .ref (f6 2), .int (iI 0), .int (iI 0)]), zI (zG0 l D cy h0) 480 (fun _ => 0), zI (zG0 l D cy h0) 8 (fun _ => 0), zI (zG0 l D cy h0) 8 (fun _ => 0), .inr (0, [.ref (f8 0), .int (iI 0), .int (iI 0), .int (iI 0), .int (iI 0), .int (iI 0), .int (iI 0), .int (iI 0), .int (iI 0)]), .inr (2, [.ref (f8 1), .int (iI 0)]), zI (zG0 l D cy h0) 30 (fun _ => 0), .inr (2, [.ref (f10 0), .int (iI 0)]), zI (zG0 l D cy h0) 30 (fun _ => 0), zI (zG0 l D cy h0) 60 (fun _ => 0), zI (zG0 l D cy h0) 4 (zup (zup (zup (zup (fun _ => 0) 0 (-1)) 1 (-1)) 2 (-1)) 3 (-1)), zI (zG0 l D cy h0) 7 (zup (zup (zup (zup (zup (zup (fun _ => 0) 0 1) 1 1) 2 1) 3 1) 4 1) 5 1)]
  refine V_dup I.1 dX1_init_119 rfl ?_
  refine V_bipush I.1 dX1_init_120 (by decide) ?_
  refine V_iconst I.1 dX1_init_122 ?_
  refine V_iast (q := 16) I.1 dX1_init_123 rfl (by decide) (by decide) (by decide) ?_
  show V _ _ 124 [some (.ref h0)] [.ref (f13 0), .ref h0] [.inr (1, [.ref (f1 0), .ref (f3 0), .ref (f5 0), .ref (f7 0), .ref (f9 0), .ref (f11 0), .int (iI 0), .ref (f12 0), .null, .int (iI 0), .int (iI 0), .int (iI 0), .int (iI 0)]), .inr (5, [.ref (f2 0), .int (iI 0), .int (iI 0)]), zI (zG0 l D cy h0) 60 (fun _ => 0), .inr (5, [.ref (f4 0), .int (iI 0), .int (iI 0)]), zI (zG0 l D cy h0) 60 (fun _ => 0), .inr (3, [.ref (f6 0), .ref (f6 1), .ref (f6 2), .int (iI 0), .int (iI 0)]), zI (zG0 l D cy h0) 480 (fun _ => 0), zI (zG0 l D cy h0) 8 (fun _ => 0), zI (zG0 l D cy h0) 8 (fun _ => 0), .inr (0, [.ref (f8 0), .int (iI 0), .int (iI 0), .int (iI 0), .int (iI 0), .int (iI 0), .int (iI 0), .int (iI 0), .int (iI 0)]), .inr (2, [.ref (f8 1), .int (iI 0)]), zI (zG0 l D cy h0) 30 (fun _ => 0), .inr (2, [.ref (f10 0), .int (iI 0)]), zI (zG0 l D cy h0) 30 (fun _ => 0), zI (zG0 l D cy h0) 60 (fun _ => 0), zI (zG0 l D cy h0) 4 (zup (zup (zup (zup (fun _ => 0) 0 (-1)) 1 (-1)) 2 (-1)) 3 (-1)), zI (zG0 l D cy h0) 7 (zup (zup (zup (zup (zup (zup (zup (fun _ => 0) 0 1) 1 1) 2 1) 3 1) 4 1) 5 1) 6 1)]
  refine V_putF (q := 0) (k := 8) I (by decide) wf_X1_49 rfl tyX1_ok nmX1 (by decide) rfl rfl rfl rfl dX1_init_124 rfl rfl (Nat.le_of_ble_eq_true rfl) ?_
  show V _ _ 127 [some (.ref h0)] [] [.inr (1, [.ref (f1 0), .ref (f3 0), .ref (f5 0), .ref (f7 0), .ref (f9 0), .ref (f11 0), .int (iI 0), .ref (f12 0), .ref (f13 0), .int (iI 0), .int (iI 0), .int (iI 0), .int (iI 0)]), .inr (5, [.ref (f2 0), .int (iI 0), .int (iI 0)]), zI (zG0 l D cy h0) 60 (fun _ => 0), .inr (5, [.ref (f4 0), .int (iI 0), .int (iI 0)]), zI (zG0 l D cy h0) 60 (fun _ => 0), .inr (3, [.ref (f6 0), .ref (f6 1), .ref (f6 2), .int (iI 0), .int (iI 0)]), zI (zG0 l D cy h0) 480 (fun _ => 0), zI (zG0 l D cy h0) 8 (fun _ => 0), zI (zG0 l D cy h0) 8 (fun _ => 0), .inr (0, [.ref (f8 0), .int (iI 0), .int (iI 0), .int (iI 0), .int (iI 0), .int (iI 0), .int (iI 0), .int (iI 0), .int (iI 0)]), .inr (2, [.ref (f8 1), .int (iI 0)]), zI (zG0 l D cy h0) 30 (fun _ => 0), .inr (2, [.ref (f10 0), .int (iI 0)]), zI (zG0 l D cy h0) 30 (fun _ => 0), zI (zG0 l D cy h0) 60 (fun _ => 0), zI (zG0 l D cy h0) 4 (zup (zup (zup (zup (fun _ => 0) 0 (-1)) 1 (-1)) 2 (-1)) 3 (-1)), zI (zG0 l D cy h0) 7 (zup (zup (zup (zup (zup (zup (zup (fun _ => 0) 0 1) 1 1) 2 1) 3 1) 4 1) 5 1) 6 1)]
  refine V_reI (q := 16) (g' := fun _ => 1) rfl (fun j h1 h2 => by rcases (show j = 0 ∨ j = 1 ∨ j = 2 ∨ j = 3 ∨ j = 4 ∨ j = 5 ∨ j = 6 by omega) with rfl | rfl | rfl | rfl | rfl | rfl | rfl <;> rfl) ?_
  exact V_iniret (F := F_X1) I.1 R.up.up.up.up.up.up.up.up.up.up.up.up.up (show E.cells + 1 + 1 + 1 + 1 + 1 + 3 + 1 + 2 + 1 + 1 + 1 + 1 + 1 = 16 by omega) (show E.slots + 3 + 60 + 3 + 60 + 5 + 496 + 9 + 32 + 2 + 30 + 60 + 4 + 7 = 771 by omega) rfl rfl dX1_init_127
