/-! ===== a row an instruction, over V ===== -/
section ZR
variable {G : zG} {E : zE} {own : String} {cc : ByteArray} {nL fr lo pc : Nat} {lv : List (Option Value)} {st : List Value} {cs : List va_E}
theorem V_iconst (C : zC G E own cc nL fr lo) {n : Int} (hd : decode cc pc = .ok (.iconst n, 1)) (k : V G E (pc + 1) lv (.int (iI n) :: st) cs) : V G E pc lv st cs :=
  fun H locs ls hl hP hD hS => lv_iconst C.1 C.2.1 hd rfl (k H locs ls hl hP hD hS)
theorem V_bipush (C : zC G E own cc nL fr lo) {n : Int} (hd : decode cc pc = .ok (.bipush n, 2)) (hn : (Int8.ofInt n).toInt32 = iI n) (k : V G E (pc + 2) lv (.int (iI n) :: st) cs) : V G E pc lv st cs :=
  fun H locs ls hl hP hD hS => lv_bipush C.1 C.2.1 hd hn (k H locs ls hl hP hD hS)
theorem V_sipush (C : zC G E own cc nL fr lo) {n : Int} (hd : decode cc pc = .ok (.sipush n, 3)) (hn : (Int16.ofInt n).toInt32 = iI n) (k : V G E (pc + 3) lv (.int (iI n) :: st) cs) : V G E pc lv st cs :=
  fun H locs ls hl hP hD hS => lv_sipush C.1 C.2.1 hd hn (k H locs ls hl hP hD hS)
theorem V_ldc (C : zC G E own cc nL fr lo) {i : Nat} {n : Int} (hw : zW (.constant own i (iI n))) (hd : decode cc pc = .ok (.ldc i, 2)) (k : V G E (pc + 2) lv (.int (iI n) :: st) cs) : V G E pc lv st cs :=
  fun H locs ls hl hP hD hS => lv_ldc C.1 C.2.1 C.2.2.2.1 (C.2.2.2.2.2.2.2.2.2 _ hw _) hd (k H locs ls hl hP hD hS)
theorem V_lconst (C : zC G E own cc nL fr lo) {n : Fin 2} {z : Int} (hd : decode cc pc = .ok (.lconst n, 1)) (hz : Int64.ofNat (n : Nat) = lI z) (k : V G E (pc + 1) lv (.long (lI z) :: st) cs) : V G E pc lv st cs :=
  fun H locs ls hl hP hD hS => lv_lconst C.1 C.2.1 hd hz (k H locs ls hl hP hD hS)
theorem V_ldc2 (C : zC G E own cc nL fr lo) {i : Nat} {v : Int64} {z : Int} (hw : zW (.constantLong own i v)) (hz : v = lI z) (hd : decode cc pc = .ok (.ldc2_w i, 3)) (k : V G E (pc + 3) lv (.long (lI z) :: st) cs) : V G E pc lv st cs :=
  fun H locs ls hl hP hD hS => lv_ldc2 C.1 C.2.1 C.2.2.2.1 (C.2.2.2.2.2.2.2.2.2 _ hw _) hd (by rw [hz]; exact k H locs ls hl hP hD hS)
theorem V_null (C : zC G E own cc nL fr lo) (hd : decode cc pc = .ok (.aconst_null, 1)) (k : V G E (pc + 1) lv (.null :: st) cs) : V G E pc lv st cs :=
  fun H locs ls hl hP hD hS => lv_null C.1 C.2.1 hd (k H locs ls hl hP hD hS)
theorem V_iload_n (C : zC G E own cc nL fr lo) {i : Fin 4} {x : Int32} (hd : decode cc pc = .ok (.iload_n i, 1)) (hv : lv[(i : Nat)]? = some (some (.int x))) (k : V G E (pc + 1) lv (.int x :: st) cs) : V G E pc lv st cs :=
  fun H locs ls hl hP hD hS => lv_iload_n C.1 C.2.1 hd rfl (zls_at hl hv) (k H locs ls hl hP hD hS)
theorem V_iload (C : zC G E own cc nL fr lo) {i : Nat} {x : Int32} (hd : decode cc pc = .ok (.iload i, 2)) (hv : lv[i]? = some (some (.int x))) (k : V G E (pc + 2) lv (.int x :: st) cs) : V G E pc lv st cs :=
  fun H locs ls hl hP hD hS => lv_iload C.1 C.2.1 hd (zls_at hl hv) (k H locs ls hl hP hD hS)
theorem V_lload_n (C : zC G E own cc nL fr lo) {i : Fin 4} {x : Int64} (hd : decode cc pc = .ok (.lload_n i, 1)) (hv : lv[(i : Nat)]? = some (some (.long x))) (k : V G E (pc + 1) lv (.long x :: st) cs) : V G E pc lv st cs :=
  fun H locs ls hl hP hD hS => lv_lload_n C.1 C.2.1 hd rfl (zls_at hl hv) (k H locs ls hl hP hD hS)
theorem V_lload (C : zC G E own cc nL fr lo) {i : Nat} {x : Int64} (hd : decode cc pc = .ok (.lload i, 2)) (hv : lv[i]? = some (some (.long x))) (k : V G E (pc + 2) lv (.long x :: st) cs) : V G E pc lv st cs :=
  fun H locs ls hl hP hD hS => lv_lload C.1 C.2.1 hd (zls_at hl hv) (k H locs ls hl hP hD hS)
theorem V_aload_n (C : zC G E own cc nL fr lo) {i : Fin 4} {x : Nat} (hd : decode cc pc = .ok (.aload_n i, 1)) (hv : lv[(i : Nat)]? = some (some (.ref x))) (k : V G E (pc + 1) lv (.ref x :: st) cs) : V G E pc lv st cs :=
  fun H locs ls hl hP hD hS => lv_aload_n C.1 C.2.1 hd rfl (zls_at hl hv) (k H locs ls hl hP hD hS)
theorem V_aload (C : zC G E own cc nL fr lo) {i : Nat} {x : Nat} (hd : decode cc pc = .ok (.aload i, 2)) (hv : lv[i]? = some (some (.ref x))) (k : V G E (pc + 2) lv (.ref x :: st) cs) : V G E pc lv st cs :=
  fun H locs ls hl hP hD hS => lv_aload C.1 C.2.1 hd (zls_at hl hv) (k H locs ls hl hP hD hS)
theorem V_aload_nN (C : zC G E own cc nL fr lo) {i : Fin 4} (hd : decode cc pc = .ok (.aload_n i, 1)) (hv : lv[(i : Nat)]? = some (some .null)) (k : V G E (pc + 1) lv (.null :: st) cs) : V G E pc lv st cs :=
  fun H locs ls hl hP hD hS => lv_aload_nN C.1 C.2.1 hd rfl (zls_at hl hv) (k H locs ls hl hP hD hS)
theorem V_aloadN (C : zC G E own cc nL fr lo) {i : Nat} (hd : decode cc pc = .ok (.aload i, 2)) (hv : lv[i]? = some (some .null)) (k : V G E (pc + 2) lv (.null :: st) cs) : V G E pc lv st cs :=
  fun H locs ls hl hP hD hS => lv_aloadN C.1 C.2.1 hd (zls_at hl hv) (k H locs ls hl hP hD hS)
theorem V_istore_n (C : zC G E own cc nL fr lo) {i : Fin 4} {x : Int32} (hd : decode cc pc = .ok (.istore_n i, 1)) (hn : (i : Nat) < nL) (ho : zok lv (i : Nat) = true) (k : V G E (pc + 1) (lv.set (i : Nat) (some (.int x))) st cs) : V G E pc lv (.int x :: st) cs :=
  fun H locs ls hl hP hD hS => lv_istore_n C.1 C.2.1 hd rfl hl (by rw [C.2.2.1]; exact hn) rfl (fun ls' hl' => k H locs ls' (zls_set ho hl') hP hD hS)
theorem V_istore (C : zC G E own cc nL fr lo) {i : Nat} {x : Int32} (hd : decode cc pc = .ok (.istore i, 2)) (hn : i < nL) (ho : zok lv i = true) (k : V G E (pc + 2) (lv.set i (some (.int x))) st cs) : V G E pc lv (.int x :: st) cs :=
  fun H locs ls hl hP hD hS => lv_istore C.1 C.2.1 hd hl (by rw [C.2.2.1]; exact hn) rfl (fun ls' hl' => k H locs ls' (zls_set ho hl') hP hD hS)
theorem V_astore_n (C : zC G E own cc nL fr lo) {i : Fin 4} {x : Nat} (hd : decode cc pc = .ok (.astore_n i, 1)) (hn : (i : Nat) < nL) (ho : zok lv (i : Nat) = true) (k : V G E (pc + 1) (lv.set (i : Nat) (some (.ref x))) st cs) : V G E pc lv (.ref x :: st) cs :=
  fun H locs ls hl hP hD hS => lv_astore_n C.1 C.2.1 hd rfl hl (by rw [C.2.2.1]; exact hn) rfl (fun ls' hl' => k H locs ls' (zls_set ho hl') hP hD hS)
theorem V_astore (C : zC G E own cc nL fr lo) {i : Nat} {x : Nat} (hd : decode cc pc = .ok (.astore i, 2)) (hn : i < nL) (ho : zok lv i = true) (k : V G E (pc + 2) (lv.set i (some (.ref x))) st cs) : V G E pc lv (.ref x :: st) cs :=
  fun H locs ls hl hP hD hS => lv_astore C.1 C.2.1 hd hl (by rw [C.2.2.1]; exact hn) rfl (fun ls' hl' => k H locs ls' (zls_set ho hl') hP hD hS)
theorem V_astore_nN (C : zC G E own cc nL fr lo) {i : Fin 4} (hd : decode cc pc = .ok (.astore_n i, 1)) (hn : (i : Nat) < nL) (ho : zok lv (i : Nat) = true) (k : V G E (pc + 1) (lv.set (i : Nat) (some .null)) st cs) : V G E pc lv (.null :: st) cs :=
  fun H locs ls hl hP hD hS => lv_astore_nN C.1 C.2.1 hd rfl hl (by rw [C.2.2.1]; exact hn) rfl (fun ls' hl' => k H locs ls' (zls_set ho hl') hP hD hS)
theorem V_astoreN (C : zC G E own cc nL fr lo) {i : Nat} (hd : decode cc pc = .ok (.astore i, 2)) (hn : i < nL) (ho : zok lv i = true) (k : V G E (pc + 2) (lv.set i (some .null)) st cs) : V G E pc lv (.null :: st) cs :=
  fun H locs ls hl hP hD hS => lv_astoreN C.1 C.2.1 hd hl (by rw [C.2.2.1]; exact hn) rfl (fun ls' hl' => k H locs ls' (zls_set ho hl') hP hD hS)
theorem zpl_at {lv : List (Option Value)} {i : Nat} {v : Value} (h : lv[i]? = some (some v)) : ∃ k : Nat, (zpl 0 lv)[k]? = some (i, v) := List.getElem?_of_mem ((zpl_mem lv 0 i v).mpr ⟨Nat.zero_le _, h⟩)
theorem V_iinc (C : zC G E own cc nL fr lo) {i : Nat} {n a : Int} (hd : decode cc pc = .ok (.iinc i n, 3)) (hv : lv[i]? = some (some (.int (iI a)))) (hn : i < nL) (ho : zok lv i = true) (k : V G E (pc + 3) (lv.set i (some (.int (iI (a + n))))) st cs) : V G E pc lv st cs := by
  intro H locs ls hl hP hD hS
  obtain ⟨j, hj⟩ := zpl_at hv
  exact lv_iinc C.1 C.2.1 hd hl hj (iI_add a n) (by rw [C.2.2.1]; exact hn) rfl (fun ls' hl' => k H locs ls' (zls_set ho hl') hP hD hS)
theorem V_iadd (C : zC G E own cc nL fr lo) {a b : Int} (hd : decode cc pc = .ok (.iadd, 1)) (k : V G E (pc + 1) lv (.int (iI (a + b)) :: st) cs) : V G E pc lv (.int (iI b) :: .int (iI a) :: st) cs :=
  fun H locs ls hl hP hD hS => lv_iadd C.1 C.2.1 hd (by rw [iI_add]; exact k H locs ls hl hP hD hS)
theorem V_isub (C : zC G E own cc nL fr lo) {a b : Int} (hd : decode cc pc = .ok (.isub, 1)) (k : V G E (pc + 1) lv (.int (iI (a - b)) :: st) cs) : V G E pc lv (.int (iI b) :: .int (iI a) :: st) cs :=
  fun H locs ls hl hP hD hS => lv_isub C.1 C.2.1 hd (by rw [iI_sub]; exact k H locs ls hl hP hD hS)
theorem V_imul (C : zC G E own cc nL fr lo) {a b : Int} (hd : decode cc pc = .ok (.imul, 1)) (k : V G E (pc + 1) lv (.int (iI (a * b)) :: st) cs) : V G E pc lv (.int (iI b) :: .int (iI a) :: st) cs :=
  fun H locs ls hl hP hD hS => lv_imul C.1 C.2.1 hd (by rw [iI_mul]; exact k H locs ls hl hP hD hS)
theorem iI_div {a b : Int} (ha : 0 ≤ a ∧ a ≤ 2147483647) (hb : 0 < b ∧ b ≤ 2147483647) : iI a / iI b = iI (a / b) := by
  apply Int32.toInt_inj.mp
  have hq : a / b ≤ a := Int.ediv_le_self b ha.1
  have hq0 : 0 ≤ a / b := Int.ediv_nonneg ha.1 (by omega)
  rw [Int32.toInt_div_of_ne_right _ _ (fun h => by have := congrArg Int32.toInt h; rw [iI_toInt (by omega)] at this; change b = -1 at this; omega), iI_toInt (by omega), iI_toInt (by omega), iI_toInt (by omega)]
  exact Int.tdiv_eq_ediv_of_nonneg ha.1
theorem V_idiv (C : zC G E own cc nL fr lo) {a b : Int} (hd : decode cc pc = .ok (.idiv, 1)) (ha : 0 ≤ a ∧ a ≤ 2147483647) (hb : 0 < b ∧ b ≤ 2147483647) (k : V G E (pc + 1) lv (.int (iI (a / b)) :: st) cs) : V G E pc lv (.int (iI b) :: .int (iI a) :: st) cs :=
  fun H locs ls hl hP hD hS => lv_idiv C.1 C.2.1 hd (by rw [← iI_0, iI_eq (by omega) (by omega)]; omega) (by rw [iI_div ha hb]; exact k H locs ls hl hP hD hS)
theorem V_irem (C : zC G E own cc nL fr lo) {a b : Int} (hd : decode cc pc = .ok (.irem, 1)) (ha : 0 ≤ a ∧ a ≤ 2147483647) (hb : 0 < b ∧ b ≤ 2147483647) (k : V G E (pc + 1) lv (.int (iI (a % b)) :: st) cs) : V G E pc lv (.int (iI b) :: .int (iI a) :: st) cs :=
  fun H locs ls hl hP hD hS => lv_irem C.1 C.2.1 hd (by rw [← iI_0, iI_eq (by omega) (by omega)]; omega) (by rw [iI_div ha hb, iI_mul, iI_sub, show a - a / b * b = a % b by rw [Int.mul_comm]; have := Int.emod_add_mul_ediv a b; omega]; exact k H locs ls hl hP hD hS)
/-- any int on the stack, as it is -/
theorem V_ior (C : zC G E own cc nL fr lo) {x y : Int32} {z : Int} (hd : decode cc pc = .ok (.ior, 1)) (hz : x ||| y = iI z) (k : V G E (pc + 1) lv (.int (iI z) :: st) cs) : V G E pc lv (.int y :: .int x :: st) cs :=
  fun H locs ls hl hP hD hS => lv_ior C.1 C.2.1 hd (by rw [hz]; exact k H locs ls hl hP hD hS)
theorem V_iand (C : zC G E own cc nL fr lo) {x y : Int32} {z : Int} (hd : decode cc pc = .ok (.iand, 1)) (hz : x &&& y = iI z) (k : V G E (pc + 1) lv (.int (iI z) :: st) cs) : V G E pc lv (.int y :: .int x :: st) cs :=
  fun H locs ls hl hP hD hS => lv_iand C.1 C.2.1 hd (by rw [hz]; exact k H locs ls hl hP hD hS)
theorem V_ishl (C : zC G E own cc nL fr lo) {x y : Int32} {z : Int} (hd : decode cc pc = .ok (.ishl, 1)) (hz : x <<< (y &&& 31) = iI z) (k : V G E (pc + 1) lv (.int (iI z) :: st) cs) : V G E pc lv (.int y :: .int x :: st) cs :=
  fun H locs ls hl hP hD hS => lv_ishl C.1 C.2.1 hd (by rw [hz]; exact k H locs ls hl hP hD hS)
theorem V_lshl (C : zC G E own cc nL fr lo) {x : Int64} {y : Int32} (hd : decode cc pc = .ok (.lshl, 1)) (k : V G E (pc + 1) lv (.long (x <<< (y.toInt64 &&& 63)) :: st) cs) : V G E pc lv (.int y :: .long x :: st) cs :=
  fun H locs ls hl hP hD hS => lv_lshl C.1 C.2.1 hd rfl (k H locs ls hl hP hD hS)
theorem V_lor (C : zC G E own cc nL fr lo) {x y : Int64} (hd : decode cc pc = .ok (.lor, 1)) (k : V G E (pc + 1) lv (.long (x ||| y) :: st) cs) : V G E pc lv (.long y :: .long x :: st) cs :=
  fun H locs ls hl hP hD hS => lv_lor C.1 C.2.1 hd (k H locs ls hl hP hD hS)
theorem V_land (C : zC G E own cc nL fr lo) {x y : Int64} (hd : decode cc pc = .ok (.land, 1)) (k : V G E (pc + 1) lv (.long (x &&& y) :: st) cs) : V G E pc lv (.long y :: .long x :: st) cs :=
  fun H locs ls hl hP hD hS => lv_land C.1 C.2.1 hd (k H locs ls hl hP hD hS)
theorem V_ladd (C : zC G E own cc nL fr lo) {a b : Int} (hd : decode cc pc = .ok (.ladd, 1)) (k : V G E (pc + 1) lv (.long (lI (a + b)) :: st) cs) : V G E pc lv (.long (lI b) :: .long (lI a) :: st) cs :=
  fun H locs ls hl hP hD hS => lv_ladd C.1 C.2.1 hd (by rw [lI_add]; exact k H locs ls hl hP hD hS)
theorem V_i2l (C : zC G E own cc nL fr lo) {a : Int} (hd : decode cc pc = .ok (.i2l, 1)) (ha : rng a) (k : V G E (pc + 1) lv (.long (lI a) :: st) cs) : V G E pc lv (.int (iI a) :: st) cs :=
  fun H locs ls hl hP hD hS => lv_i2l C.1 C.2.1 hd (iI_l ha) (k H locs ls hl hP hD hS)
theorem V_i2lx (C : zC G E own cc nL fr lo) {x : Int32} (hd : decode cc pc = .ok (.i2l, 1)) (k : V G E (pc + 1) lv (.long x.toInt64 :: st) cs) : V G E pc lv (.int x :: st) cs :=
  fun H locs ls hl hP hD hS => lv_i2l C.1 C.2.1 hd rfl (k H locs ls hl hP hD hS)
theorem V_l2i (C : zC G E own cc nL fr lo) {a : Int} (hd : decode cc pc = .ok (.l2i, 1)) (k : V G E (pc + 1) lv (.int (iI a) :: st) cs) : V G E pc lv (.long (lI a) :: st) cs :=
  fun H locs ls hl hP hD hS => lv_l2i C.1 C.2.1 hd (lI_i a) (k H locs ls hl hP hD hS)
def zby (a : Int) : Int := (iI a).toInt8.toInt32.toInt
def zsh (a : Int) : Int := (iI a).toInt16.toInt32.toInt
def z32 (a : Int) : Int := (iI a).toInt
theorem V_i2b (C : zC G E own cc nL fr lo) {a : Int} (hd : decode cc pc = .ok (.i2b, 1)) (k : V G E (pc + 1) lv (.int (iI (zby a)) :: st) cs) : V G E pc lv (.int (iI a) :: st) cs :=
  fun H locs ls hl hP hD hS => lv_i2b C.1 C.2.1 hd (iI_of _).symm (k H locs ls hl hP hD hS)
theorem V_i2s (C : zC G E own cc nL fr lo) {a : Int} (hd : decode cc pc = .ok (.i2s, 1)) (k : V G E (pc + 1) lv (.int (iI (zsh a)) :: st) cs) : V G E pc lv (.int (iI a) :: st) cs :=
  fun H locs ls hl hP hD hS => lv_i2s C.1 C.2.1 hd (iI_of _).symm (k H locs ls hl hP hD hS)
theorem V_dup (C : zC G E own cc nL fr lo) {v : Value} (hd : decode cc pc = .ok (.dup, 1)) (hv : v.category = 1) (k : V G E (pc + 1) lv (v :: v :: st) cs) : V G E pc lv (v :: st) cs :=
  fun H locs ls hl hP hD hS => lv_dup C.1 C.2.1 hd hv (k H locs ls hl hP hD hS)
theorem V_dup2 (C : zC G E own cc nL fr lo) {v w : Value} (hd : decode cc pc = .ok (.dup2, 1)) (hv : v.category = 1) (hw : w.category = 1) (k : V G E (pc + 1) lv (v :: w :: v :: w :: st) cs) : V G E pc lv (v :: w :: st) cs :=
  fun H locs ls hl hP hD hS => lv_dup2_11 C.1 C.2.1 hd hv hw (k H locs ls hl hP hD hS)
theorem V_pop (C : zC G E own cc nL fr lo) {v : Value} (hd : decode cc pc = .ok (.pop, 1)) (hv : v.category = 1) (k : V G E (pc + 1) lv st cs) : V G E pc lv (v :: st) cs :=
  fun H locs ls hl hP hD hS => lv_pop C.1 C.2.1 hd hv (k H locs ls hl hP hD hS)
theorem V_goto (C : zC G E own cc nL fr lo) {off : Int} {tgt : Nat} (hd : decode cc pc = .ok (.goto off, 3)) (ht : (pc : Int) + off = (tgt : Int)) (k : V G E tgt lv st cs) : V G E pc lv st cs :=
  fun H locs ls hl hP hD hS => lv_goto C.1 C.2.1 hd ht (k H locs ls hl hP hD hS)
-- compares
theorem V_icmp_lt (C : zC G E own cc nL fr lo) {a b off : Int} {tgt : Nat} (hd : decode cc pc = .ok (.if_icmp .lt off, 3)) (ht : (pc : Int) + off = (tgt : Int)) (ha : rng a) (hb : rng b) (kt : a < b → V G E tgt lv st cs) (kf : b ≤ a → V G E (pc + 3) lv st cs) : V G E pc lv (.int (iI b) :: .int (iI a) :: st) cs :=
  fun H locs ls hl hP hD hS => lv_icmp_lt C.1 C.2.1 hd ht (fun h => kt ((iI_lt ha hb).mp h) H locs ls hl hP hD hS) (fun h => kf (by rw [iI_lt ha hb] at h; omega) H locs ls hl hP hD hS)
theorem V_icmp_ge (C : zC G E own cc nL fr lo) {a b off : Int} {tgt : Nat} (hd : decode cc pc = .ok (.if_icmp .ge off, 3)) (ht : (pc : Int) + off = (tgt : Int)) (ha : rng a) (hb : rng b) (kt : b ≤ a → V G E tgt lv st cs) (kf : a < b → V G E (pc + 3) lv st cs) : V G E pc lv (.int (iI b) :: .int (iI a) :: st) cs :=
  fun H locs ls hl hP hD hS => lv_icmp_ge C.1 C.2.1 hd ht (fun h => kt ((iI_le hb ha).mp h) H locs ls hl hP hD hS) (fun h => kf (by rw [iI_le hb ha] at h; omega) H locs ls hl hP hD hS)
theorem V_icmp_gt (C : zC G E own cc nL fr lo) {a b off : Int} {tgt : Nat} (hd : decode cc pc = .ok (.if_icmp .gt off, 3)) (ht : (pc : Int) + off = (tgt : Int)) (ha : rng a) (hb : rng b) (kt : b < a → V G E tgt lv st cs) (kf : a ≤ b → V G E (pc + 3) lv st cs) : V G E pc lv (.int (iI b) :: .int (iI a) :: st) cs :=
  fun H locs ls hl hP hD hS => lv_icmp_gt C.1 C.2.1 hd ht (fun h => kt ((iI_lt hb ha).mp h) H locs ls hl hP hD hS) (fun h => kf (by rw [iI_lt hb ha] at h; omega) H locs ls hl hP hD hS)
theorem V_icmp_le (C : zC G E own cc nL fr lo) {a b off : Int} {tgt : Nat} (hd : decode cc pc = .ok (.if_icmp .le off, 3)) (ht : (pc : Int) + off = (tgt : Int)) (ha : rng a) (hb : rng b) (kt : a ≤ b → V G E tgt lv st cs) (kf : b < a → V G E (pc + 3) lv st cs) : V G E pc lv (.int (iI b) :: .int (iI a) :: st) cs :=
  fun H locs ls hl hP hD hS => lv_icmp_le C.1 C.2.1 hd ht (fun h => kt ((iI_le ha hb).mp h) H locs ls hl hP hD hS) (fun h => kf (by rw [iI_le ha hb] at h; omega) H locs ls hl hP hD hS)
theorem V_icmp_eq (C : zC G E own cc nL fr lo) {a b off : Int} {tgt : Nat} (hd : decode cc pc = .ok (.if_icmp .eq off, 3)) (ht : (pc : Int) + off = (tgt : Int)) (ha : rng a) (hb : rng b) (kt : a = b → V G E tgt lv st cs) (kf : a ≠ b → V G E (pc + 3) lv st cs) : V G E pc lv (.int (iI b) :: .int (iI a) :: st) cs :=
  fun H locs ls hl hP hD hS => lv_icmp_eq C.1 C.2.1 hd ht (fun h => kt ((iI_eq ha hb).mp h) H locs ls hl hP hD hS) (fun h => kf (by rw [iI_eq ha hb] at h; exact h) H locs ls hl hP hD hS)
theorem V_icmp_ne (C : zC G E own cc nL fr lo) {a b off : Int} {tgt : Nat} (hd : decode cc pc = .ok (.if_icmp .ne off, 3)) (ht : (pc : Int) + off = (tgt : Int)) (ha : rng a) (hb : rng b) (kt : a ≠ b → V G E tgt lv st cs) (kf : a = b → V G E (pc + 3) lv st cs) : V G E pc lv (.int (iI b) :: .int (iI a) :: st) cs :=
  fun H locs ls hl hP hD hS => lv_icmp_ne C.1 C.2.1 hd ht (fun h => kt (fun q => h ((iI_eq ha hb).mpr q)) H locs ls hl hP hD hS) (fun h => kf ((iI_eq ha hb).mp h) H locs ls hl hP hD hS)
theorem V_if_lt (C : zC G E own cc nL fr lo) {a off : Int} {tgt : Nat} (hd : decode cc pc = .ok (.ifCond .lt off, 3)) (ht : (pc : Int) + off = (tgt : Int)) (ha : rng a) (kt : a < 0 → V G E tgt lv st cs) (kf : 0 ≤ a → V G E (pc + 3) lv st cs) : V G E pc lv (.int (iI a) :: st) cs :=
  fun H locs ls hl hP hD hS => lv_if_lt C.1 C.2.1 hd ht (fun h => kt ((iI_lt (b := 0) ha (by omega)).mp h) H locs ls hl hP hD hS) (fun h => kf (by have q : ¬ iI a < iI 0 := h; rw [iI_lt ha (by omega)] at q; omega) H locs ls hl hP hD hS)
theorem V_if_ge (C : zC G E own cc nL fr lo) {a off : Int} {tgt : Nat} (hd : decode cc pc = .ok (.ifCond .ge off, 3)) (ht : (pc : Int) + off = (tgt : Int)) (ha : rng a) (kt : 0 ≤ a → V G E tgt lv st cs) (kf : a < 0 → V G E (pc + 3) lv st cs) : V G E pc lv (.int (iI a) :: st) cs :=
  fun H locs ls hl hP hD hS => lv_if_ge C.1 C.2.1 hd ht (fun h => kt ((iI_le (a := 0) (by omega) ha).mp h) H locs ls hl hP hD hS) (fun h => kf (by have q : ¬ iI 0 ≤ iI a := h; rw [iI_le (by omega) ha] at q; omega) H locs ls hl hP hD hS)
theorem V_if_gt (C : zC G E own cc nL fr lo) {a off : Int} {tgt : Nat} (hd : decode cc pc = .ok (.ifCond .gt off, 3)) (ht : (pc : Int) + off = (tgt : Int)) (ha : rng a) (kt : 0 < a → V G E tgt lv st cs) (kf : a ≤ 0 → V G E (pc + 3) lv st cs) : V G E pc lv (.int (iI a) :: st) cs :=
  fun H locs ls hl hP hD hS => lv_if_gt C.1 C.2.1 hd ht (fun h => kt ((iI_lt (a := 0) (by omega) ha).mp h) H locs ls hl hP hD hS) (fun h => kf (by have q : ¬ iI 0 < iI a := h; rw [iI_lt (by omega) ha] at q; omega) H locs ls hl hP hD hS)
theorem V_if_le (C : zC G E own cc nL fr lo) {a off : Int} {tgt : Nat} (hd : decode cc pc = .ok (.ifCond .le off, 3)) (ht : (pc : Int) + off = (tgt : Int)) (ha : rng a) (kt : a ≤ 0 → V G E tgt lv st cs) (kf : 0 < a → V G E (pc + 3) lv st cs) : V G E pc lv (.int (iI a) :: st) cs :=
  fun H locs ls hl hP hD hS => lv_if_le C.1 C.2.1 hd ht (fun h => kt ((iI_le (b := 0) ha (by omega)).mp h) H locs ls hl hP hD hS) (fun h => kf (by have q : ¬ iI a ≤ iI 0 := h; rw [iI_le ha (by omega)] at q; omega) H locs ls hl hP hD hS)
theorem V_if_eq (C : zC G E own cc nL fr lo) {a off : Int} {tgt : Nat} (hd : decode cc pc = .ok (.ifCond .eq off, 3)) (ht : (pc : Int) + off = (tgt : Int)) (ha : rng a) (kt : a = 0 → V G E tgt lv st cs) (kf : a ≠ 0 → V G E (pc + 3) lv st cs) : V G E pc lv (.int (iI a) :: st) cs :=
  fun H locs ls hl hP hD hS => lv_if_eq C.1 C.2.1 hd ht (fun h => kt ((iI_eq (b := 0) ha (by omega)).mp h) H locs ls hl hP hD hS) (fun h => kf (fun q => h ((iI_eq (b := 0) ha (by omega)).mpr q)) H locs ls hl hP hD hS)
theorem V_if_ne (C : zC G E own cc nL fr lo) {a off : Int} {tgt : Nat} (hd : decode cc pc = .ok (.ifCond .ne off, 3)) (ht : (pc : Int) + off = (tgt : Int)) (ha : rng a) (kt : a ≠ 0 → V G E tgt lv st cs) (kf : a = 0 → V G E (pc + 3) lv st cs) : V G E pc lv (.int (iI a) :: st) cs :=
  fun H locs ls hl hP hD hS => lv_if_ne C.1 C.2.1 hd ht (fun h => kt (fun q => h ((iI_eq (b := 0) ha (by omega)).mpr q)) H locs ls hl hP hD hS) (fun h => kf ((iI_eq (b := 0) ha (by omega)).mp h) H locs ls hl hP hD hS)
theorem V_if_eqB (C : zC G E own cc nL fr lo) {P : Prop} [Decidable P] {off : Int} {tgt : Nat} (hd : decode cc pc = .ok (.ifCond .eq off, 3)) (ht : (pc : Int) + off = (tgt : Int)) (kt : ¬ P → V G E tgt lv st cs) (kf : P → V G E (pc + 3) lv st cs) : V G E pc lv (.int (iI (b2z P)) :: st) cs :=
  V_if_eq C hd ht (b2z_rng P) (fun h => kt (fun q => by rw [b2z_t q] at h; omega)) (fun h => kf (Classical.not_not.mp fun q => h (b2z_f q)))
theorem V_if_neB (C : zC G E own cc nL fr lo) {P : Prop} [Decidable P] {off : Int} {tgt : Nat} (hd : decode cc pc = .ok (.ifCond .ne off, 3)) (ht : (pc : Int) + off = (tgt : Int)) (kt : P → V G E tgt lv st cs) (kf : ¬ P → V G E (pc + 3) lv st cs) : V G E pc lv (.int (iI (b2z P)) :: st) cs :=
  V_if_ne C hd ht (b2z_rng P) (fun h => kt (Classical.not_not.mp fun q => h (b2z_f q))) (fun h => kf (fun q => by rw [b2z_t q] at h; omega))
theorem V_ifnull (C : zC G E own cc nL fr lo) {x : Nat} {off : Int} (hd : decode cc pc = .ok (.ifnull off, 3)) (k : V G E (pc + 3) lv st cs) : V G E pc lv (.ref x :: st) cs :=
  fun H locs ls hl hP hD hS => lv_ifnull C.1 C.2.1 hd (k H locs ls hl hP hD hS)
theorem V_ifnonnull (C : zC G E own cc nL fr lo) {x : Nat} {off : Int} {tgt : Nat} (hd : decode cc pc = .ok (.ifnonnull off, 3)) (ht : (pc : Int) + off = (tgt : Int)) (k : V G E tgt lv st cs) : V G E pc lv (.ref x :: st) cs :=
  fun H locs ls hl hP hD hS => lv_ifnonnull C.1 C.2.1 hd ht (k H locs ls hl hP hD hS)
theorem V_ifnullN (C : zC G E own cc nL fr lo) {off : Int} {tgt : Nat} (hd : decode cc pc = .ok (.ifnull off, 3)) (ht : (pc : Int) + off = (tgt : Int)) (k : V G E tgt lv st cs) : V G E pc lv (.null :: st) cs :=
  fun H locs ls hl hP hD hS => lv_ifnullN C.1 C.2.1 hd ht (k H locs ls hl hP hD hS)
theorem V_ifnonnullN (C : zC G E own cc nL fr lo) {off : Int} (hd : decode cc pc = .ok (.ifnonnull off, 3)) (k : V G E (pc + 3) lv st cs) : V G E pc lv (.null :: st) cs :=
  fun H locs ls hl hP hD hS => lv_ifnonnullN C.1 C.2.1 hd (k H locs ls hl hP hD hS)
/-- lcmp and the branch behind it -/
theorem V_lcmp_lt (C : zC G E own cc nL fr lo) {a b off : Int} {tgt : Nat} (hd : decode cc pc = .ok (.lcmp, 1)) (hd2 : decode cc (pc + 1) = .ok (.ifCond .lt off, 3)) (ht : ((pc + 1 : Nat) : Int) + off = (tgt : Int)) (ha : rngL a) (hb : rngL b) (kt : a < b → V G E tgt lv st cs) (kf : b ≤ a → V G E (pc + 4) lv st cs) : V G E pc lv (.long (lI b) :: .long (lI a) :: st) cs := by
  intro H locs ls hl hP hD hS
  refine W.lcmp C.1 C.2.1 hd ?_
  refine lv_if_lt C.1 C.2.1 hd2 ht (fun h => kt ?_ H locs ls hl hP hD hS) (fun h => kf ?_ H locs ls hl hP hD hS)
  · unfold lg_cmp at h
    split at h
    · exact absurd h (by decide)
    · split at h
      · exact absurd h (by decide)
      · rename_i q1 q2
        rw [lI_eq ha hb] at q2
        have q3 : ¬ lI b < lI a := q1
        rw [lI_lt hb ha] at q3
        omega
  · unfold lg_cmp at h
    split at h
    · rename_i q1
      have q3 : lI b < lI a := q1
      rw [lI_lt hb ha] at q3
      omega
    · split at h
      · rename_i q2
        rw [lI_eq ha hb] at q2
        omega
      · exact absurd (by decide) h
theorem V_lcmp_gt (C : zC G E own cc nL fr lo) {a b off : Int} {tgt : Nat} (hd : decode cc pc = .ok (.lcmp, 1)) (hd2 : decode cc (pc + 1) = .ok (.ifCond .gt off, 3)) (ht : ((pc + 1 : Nat) : Int) + off = (tgt : Int)) (ha : rngL a) (hb : rngL b) (kt : b < a → V G E tgt lv st cs) (kf : a ≤ b → V G E (pc + 4) lv st cs) : V G E pc lv (.long (lI b) :: .long (lI a) :: st) cs := by
  intro H locs ls hl hP hD hS
  refine W.lcmp C.1 C.2.1 hd ?_
  refine lv_if_gt C.1 C.2.1 hd2 ht (fun h => kt ?_ H locs ls hl hP hD hS) (fun h => kf ?_ H locs ls hl hP hD hS)
  · unfold lg_cmp at h
    split at h
    · rename_i q1
      exact (lI_lt hb ha).mp q1
    · split at h
      · exact absurd h (by decide)
      · exact absurd h (by decide)
  · unfold lg_cmp at h
    split at h
    · exact absurd (by decide) h
    · rename_i q1
      have q3 : ¬ lI b < lI a := q1
      rw [lI_lt hb ha] at q3
      omega
theorem V_lcmp_ge (C : zC G E own cc nL fr lo) {a b off : Int} {tgt : Nat} (hd : decode cc pc = .ok (.lcmp, 1)) (hd2 : decode cc (pc + 1) = .ok (.ifCond .ge off, 3)) (ht : ((pc + 1 : Nat) : Int) + off = (tgt : Int)) (ha : rngL a) (hb : rngL b) (kt : b ≤ a → V G E tgt lv st cs) (kf : a < b → V G E (pc + 4) lv st cs) : V G E pc lv (.long (lI b) :: .long (lI a) :: st) cs := by
  intro H locs ls hl hP hD hS
  refine W.lcmp C.1 C.2.1 hd ?_
  refine lv_if_ge C.1 C.2.1 hd2 ht (fun h => kt ?_ H locs ls hl hP hD hS) (fun h => kf ?_ H locs ls hl hP hD hS)
  · unfold lg_cmp at h
    split at h
    · rename_i q1
      have q3 : lI b < lI a := q1
      rw [lI_lt hb ha] at q3
      omega
    · split at h
      · rename_i q2
        rw [lI_eq ha hb] at q2
        omega
      · exact absurd h (by decide)
  · unfold lg_cmp at h
    split at h
    · exact absurd (by decide) h
    · split at h
      · exact absurd (by decide) h
      · rename_i q1 q2
        rw [lI_eq ha hb] at q2
        have q3 : ¬ lI b < lI a := q1
        rw [lI_lt hb ha] at q3
        omega
theorem V_lcmp_le (C : zC G E own cc nL fr lo) {a b off : Int} {tgt : Nat} (hd : decode cc pc = .ok (.lcmp, 1)) (hd2 : decode cc (pc + 1) = .ok (.ifCond .le off, 3)) (ht : ((pc + 1 : Nat) : Int) + off = (tgt : Int)) (ha : rngL a) (hb : rngL b) (kt : a ≤ b → V G E tgt lv st cs) (kf : b < a → V G E (pc + 4) lv st cs) : V G E pc lv (.long (lI b) :: .long (lI a) :: st) cs := by
  intro H locs ls hl hP hD hS
  refine W.lcmp C.1 C.2.1 hd ?_
  refine lv_if_le C.1 C.2.1 hd2 ht (fun h => kt ?_ H locs ls hl hP hD hS) (fun h => kf ?_ H locs ls hl hP hD hS)
  · unfold lg_cmp at h
    split at h
    · exact absurd h (by decide)
    · rename_i q1
      have q3 : ¬ lI b < lI a := q1
      rw [lI_lt hb ha] at q3
      omega
  · unfold lg_cmp at h
    split at h
    · rename_i q1
      exact (lI_lt hb ha).mp q1
    · split at h
      · exact absurd (by decide) h
      · exact absurd (by decide) h
-- switches
theorem V_tableIn (C : zC G E own cc nL fr lo) {dflt lo' hi : Int} {offs : Array Int} {len : Nat} {a off : Int} {tgt : Nat} (hd : decode cc pc = .ok (.tableswitch dflt lo' hi offs, len)) (ha : rng a) (h1 : lo' ≤ a) (h2 : a ≤ hi) (ho : offs[(a - lo').toNat]? = some off) (ht : (pc : Int) + off = (tgt : Int)) (k : V G E tgt lv st cs) : V G E pc lv (.int (iI a) :: st) cs :=
  fun H locs ls hl hP hD hS => lv_tableIn C.1 C.2.1 hd (by rw [iI_toInt ha]; omega) (by rw [iI_toInt ha]; omega) (by rw [iI_toInt ha]; exact ho) ht (k H locs ls hl hP hD hS)
theorem V_tableOut (C : zC G E own cc nL fr lo) {dflt lo' hi : Int} {offs : Array Int} {len : Nat} {a : Int} {tgt : Nat} (hd : decode cc pc = .ok (.tableswitch dflt lo' hi offs, len)) (ha : rng a) (h : a < lo' ∨ hi < a) (ht : (pc : Int) + dflt = (tgt : Int)) (k : V G E tgt lv st cs) : V G E pc lv (.int (iI a) :: st) cs :=
  fun H locs ls hl hP hD hS => lv_tableOut C.1 C.2.1 hd (by rw [iI_toInt ha]; exact h) ht (k H locs ls hl hP hD hS)
theorem V_lookup (C : zC G E own cc nL fr lo) {dflt : Int} {ps : Array (Int × Int)} {len : Nat} {a off : Int} {tgt : Nat} (hd : decode cc pc = .ok (.lookupswitch dflt ps, len)) (hp : (ps.toList.zip (ps.toList.drop 1)).all (fun (a, next) => a.1 < next.1) = true) (ha : rng a) (ho : Op.lookupswitch.offset ps.toList dflt a = off) (ht : (pc : Int) + off = (tgt : Int)) (k : V G E tgt lv st cs) : V G E pc lv (.int (iI a) :: st) cs :=
  fun H locs ls hl hP hD hS => lv_lookup C.1 C.2.1 hd hp (by rw [iI_toInt ha]; exact ho) ht (k H locs ls hl hP hD hS)
-- a value that two ways lead to
theorem V_mid {pc2 : Nat} {st2 : List Value} (z : Int) (k : V G E pc2 lv (.int (iI z) :: st) cs) (h : (∀ v, v = z → V G E pc2 lv (.int (iI v) :: st) cs) → V G E pc lv st2 cs) : V G E pc lv st2 cs := h (fun v e => by rw [e]; exact k)
theorem V_midB {pc2 : Nat} {st2 : List Value} (P : Prop) [Decidable P] (k : V G E pc2 lv (.int (iI (b2z P)) :: st) cs) (h : (P → V G E pc2 lv (.int (iI 1) :: st) cs) → (¬ P → V G E pc2 lv (.int (iI 0) :: st) cs) → V G E pc lv st2 cs) : V G E pc lv st2 cs := h (fun q => by rw [← b2z_t q]; exact k) (fun q => by rw [← b2z_f q]; exact k)
theorem V_loop {α : Type} (μ : α → Nat) (I : α → Prop) (F : α → Prop) (h : ∀ x, I x → (∀ y, I y → μ y < μ x → F y) → F x) (x : α) (hx : I x) : F x := by
  have key : ∀ n x, μ x < n → I x → F x := by
    intro n
    induction n with
    | zero => intro x h1; omega
    | succ n ih => intro x h1 h2; exact h x h2 (fun y hy hm => ih y (by omega) hy)
  exact key (μ x + 1) x (by omega) hx
end ZR
