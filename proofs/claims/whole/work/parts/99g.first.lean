/-! ===== at first all holds ===== -/
def dk0 : zDk := ((fun _ => 0), 0, 0, (fun _ => 0), 0, 0, (fun _ => 0), (fun _ => 0), (fun _ => 0), 0, 0, (fun _ => 0), (fun _ => 0), 0, (fun _ => 0), 0, (fun _ => 0), 0, (zup (zup (zup (zup (fun _ => 0) 0 (-1)) 1 (-1)) 2 (-1)) 3 (-1)), (fun _ => 1), 0, 0, 0, 0)
def nw0 : Int → Int := (fun j => if 124 ≤ j ∧ j < 128 then -4 else if 256 ≤ j ∧ j < 263 then 1 else 0)
def md0 : zM := (0, nw0, (fun _ => 0))
def ws0 (G : zG) : List va_E := [oW G 0, zQ G, zI G 60 (fun _ => 0), zI G 60 (fun _ => 0), zI G 60 (fun _ => 0), zI G 60 (fun _ => 0), zI G 60 (fun _ => 0), zI G 60 (fun _ => 0), zI G 60 (fun _ => 0), zI G 60 (fun _ => 0), zI G 60 (fun _ => 0), zI G 60 (fun _ => 0)]
def cs0 (G : zG) : List va_E := wl G dk0 dk0 (fun _ => 0) 0 0 (fun _ _ => 0) (fun _ => -1) (fun _ => 0) (ws0 G) (mdT (rG G) md0 0 (-1) (fun _ => 0) (fun _ => 0) (fun _ => 0) (fun _ => 0) (fun _ => 0) (fun _ => 0) (fun _ => 0) (fun _ => -1) (fun _ => 0) (fun _ => 0) (fun _ => 0))
theorem nw0_z {j : Int} (h : ¬ (124 ≤ j ∧ j < 128) ∧ ¬ (256 ≤ j ∧ j < 263)) : nw0 j = 0 := by unfold nw0; rw [if_neg h.1, if_neg h.2]
theorem mf0 (j : Int) : (zup (zup (zup (zup (fun _ => 0) 0 (-1)) 1 (-1)) 2 (-1)) 3 (-1)) j = -1 ∨ (zup (zup (zup (zup (fun _ => 0) 0 (-1)) 1 (-1)) 2 (-1)) 3 (-1)) j = 0 := by simp only [zup]; omega
theorem mf0_in {j : Int} (h : 0 ≤ j ∧ j < 4) : (zup (zup (zup (zup (fun _ => 0) 0 (-1)) 1 (-1)) 2 (-1)) 3 (-1)) j = -1 := by simp only [zup]; omega
theorem ok0 : okT dk0 := by
  have h0 : ∀ j : Int, rng ((fun _ => 0) j) := fun _ => (by decide : rng (0 : Int))
  refine ⟨h0, by decide, ⟨by decide, by decide, fun _ => by decide⟩, h0, by decide, by decide, h0, fun _ => (by decide : ((0 : Int) ≤ 0 ∧ (0 : Int) ≤ 60) ∧ (0 : Int) ≤ 0 ∧ (0 : Int) ≤ la 0), by decide, by decide, h0, by decide, by decide, fun _ => (by decide : (0 : Int) ≤ 0 ∧ (0 : Int) ≤ 126), by decide, fun _ => (by decide : (0 : Int) ≤ 0 ∧ (0 : Int) ≤ 126), by decide, h0, by decide, fun j => ?_, fun _ => (by decide : (1 : Int) ≤ 1 ∧ (1 : Int) ≤ 9), Or.inl rfl, by decide, by decide, by decide, fun _ => okC_0⟩
  have := mf0 j
  show -1 ≤ (zup (zup (zup (zup (fun _ => 0) 0 (-1)) 1 (-1)) 2 (-1)) 3 (-1)) j ∧ (zup (zup (zup (zup (fun _ => 0) 0 (-1)) 1 (-1)) 2 (-1)) 3 (-1)) j ≤ 60
  omega
theorem gd0 : gd dk0 md0 := by
  have hz := fun (j : Int) h => nw0_z (j := j) h
  refine ⟨ok0, ⟨fun j => ?_, fun _ => (by decide : rng (0 : Int)), ⟨hz 0 (by omega), fun p p1 p2 => absurd p2 (by show ¬ p < 0; omega), hz 61 (by omega), hz 63 (by omega), fun j j1 j2 => absurd j2 (by show ¬ j < 0; omega), fun j j1 j2 => ?_⟩, ⟨hz 159 (by omega), fun j j1 j2 => absurd j2 (by show ¬ j < 0; omega), hz 128 (by omega), fun j j1 j2 => absurd j2 (by show ¬ j < 0; omega), fun j j1 j2 => ?_⟩, hz 62 (by omega), fun _ => ⟨(hz 191 (by omega)).symm, (hz 192 (by omega)).symm, Or.inl ⟨rfl, rfl, rfl, hz 190 (by omega), hz 193 (by omega)⟩⟩, fun _ q => ?_, ⟨fun _ q => absurd q (by show ¬ (0 : Int) < 0; omega), fun q => absurd rfl q⟩, ⟨rfl, fun t t1 t2 => absurd t2 (by show ¬ t < 0; omega)⟩, ?_⟩, ⟨wfK_0 _, fun q => absurd q (by show ¬ (0 : Int) < 0; omega)⟩, fun _ => (by decide : (0 : Int) ≤ 0 ∧ (0 : Int) ≤ 126), fun _ => (by decide : (0 : Int) ≤ 0 ∧ (0 : Int) ≤ 126), fun _ => (by decide : (0 : Int) ≤ 0 ∧ (0 : Int) ≤ 126), fun _ => (by decide : (0 : Int) ≤ 0 ∧ (0 : Int) ≤ 126), Or.inl rfl⟩
  · show rng (nw0 j)
    unfold nw0; split; decide; split <;> decide
  · show nw0 (124 + j) = if (zup (zup (zup (zup (fun _ => 0) 0 (-1)) 1 (-1)) 2 (-1)) 3 (-1)) j = -1 then -4 else (zup (zup (zup (zup (fun _ => 0) 0 (-1)) 1 (-1)) 2 (-1)) 3 (-1)) j
    rw [if_pos (mf0_in ⟨j1, j2⟩)]
    unfold nw0; rw [if_pos (by omega)]
  · show (1 : Int) = nw0 (256 + j)
    unfold nw0; rw [if_neg (by omega), if_pos (by omega)]
  · exact absurd q (fun q => q.elim (fun z => z rfl) (fun z => absurd z (Int.lt_irrefl 0)))
  · show (0 ≤ nw0 191 ∧ nw0 191 ≤ 99) ∧ (0 ≤ nw0 192 ∧ nw0 192 ≤ 99)
    rw [hz 191 (by omega), hz 192 (by omega)]; omega
theorem isU0 (G : zG) : isU G (ws0 G) := by
  refine isU_of (A := List.replicate 45 (zI G 0 (fun _ => 0))) (b := []) (w := fun _ _ => 0) (co := (fun _ => 0)) (ro := (fun _ => 0)) (lo := (fun _ => 0)) (pn := 0) rfl rfl ⟨rfl, rfl, fun m m1 m2 => ?_, rfl, rfl, rfl, fun _ _ => (by decide : rng (0 : Int)), fun _ => (by decide : rng (0 : Int)), by decide, by decide⟩
  rcases (show m = 0 ∨ m = 1 ∨ m = 2 ∨ m = 3 ∨ m = 4 ∨ m = 5 ∨ m = 6 by omega) with rfl | rfl | rfl | rfl | rfl | rfl | rfl <;> rfl
theorem inv0 (G : zG) : Inv G (cs0 G) := by
  have h0 : ∀ j : Int, rng ((fun _ => 0) j) := fun _ => (by decide : rng (0 : Int))
  have hL : ∀ j : Int, rngL ((fun _ => 0) j) := fun _ => (by decide : rngL (0 : Int))
  refine ⟨dk0, dk0, (fun _ => 0), 0, 0, fun _ _ => 0, fun _ => -1, (fun _ => 0), ws0 G, md0, -1, (fun _ => 0), (fun _ => 0), (fun _ => 0), (fun _ => 0), (fun _ => 0), (fun _ => 0), (fun _ => 0), fun _ => -1, (fun _ => 0), (fun _ => 0), (fun _ => 0), rfl, rfl, isU0 G, gd0, ⟨ok0, gd0.2.2.2, Or.inl ⟨rfl, rfl⟩⟩, ⟨h0, h0⟩, ⟨by decide, fun j j1 j2 => rfl, fun _ => (by decide : (0 : Int) ≤ 0 ∧ (0 : Int) ≤ 126), h0⟩, ⟨fun _ => ⟨hL, (by decide : (-1 : Int) ≤ -1), (by decide : (-1 : Int) ≤ 3), (by decide : (0 : Int) ≤ 0), (by decide : (0 : Int) ≤ 24)⟩, fun _ => (by decide : rng (-1 : Int)), fun _ => (by decide : (0 : Int) ≤ 0 ∧ (0 : Int) ≤ 24), hL, fun q q1 q2 => ⟨rfl, fun q3 => absurd rfl q3⟩⟩, h0, h0, hL⟩
