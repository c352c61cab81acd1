/-! ===== cells, contracts, calls, returns over V ===== -/
theorem zu_0 : ∀ w ∈ u_ws RX0 TX0 9, zW w := fun w h => ⟨(by decide +kernel : ∀ w ∈ u_ws RX0 TX0 9, w ∈ lw_tbl) w h, (by decide +kernel : ∀ w ∈ u_ws RX0 TX0 9, zgood w = true) w h⟩
theorem zu_1 : ∀ w ∈ u_ws RX1 TX1 13, zW w := fun w h => ⟨(by decide +kernel : ∀ w ∈ u_ws RX1 TX1 13, w ∈ lw_tbl) w h, (by decide +kernel : ∀ w ∈ u_ws RX1 TX1 13, zgood w = true) w h⟩
theorem zu_2 : ∀ w ∈ u_ws RX2 TX2 2, zW w := fun w h => ⟨(by decide +kernel : ∀ w ∈ u_ws RX2 TX2 2, w ∈ lw_tbl) w h, (by decide +kernel : ∀ w ∈ u_ws RX2 TX2 2, zgood w = true) w h⟩
theorem zu_3 : ∀ w ∈ u_ws RX3 TX3 5, zW w := fun w h => ⟨(by decide +kernel : ∀ w ∈ u_ws RX3 TX3 5, w ∈ lw_tbl) w h, (by decide +kernel : ∀ w ∈ u_ws RX3 TX3 5, zgood w = true) w h⟩
theorem zu_4 : ∀ w ∈ u_ws RX4 TX4 3, zW w := fun w h => ⟨(by decide +kernel : ∀ w ∈ u_ws RX4 TX4 3, w ∈ lw_tbl) w h, (by decide +kernel : ∀ w ∈ u_ws RX4 TX4 3, zgood w = true) w h⟩
theorem zu_5 : ∀ w ∈ u_ws RX5 TX5 3, zW w := fun w h => ⟨(by decide +kernel : ∀ w ∈ u_ws RX5 TX5 3, w ∈ lw_tbl) w h, (by decide +kernel : ∀ w ∈ u_ws RX5 TX5 3, zgood w = true) w h⟩
theorem zu_6 : ∀ w ∈ u_ws RX6 TX6 5, zW w := fun w h => ⟨(by decide +kernel : ∀ w ∈ u_ws RX6 TX6 5, w ∈ lw_tbl) w h, (by decide +kernel : ∀ w ∈ u_ws RX6 TX6 5, zgood w = true) w h⟩
theorem zu_7 : ∀ w ∈ u_ws RX7 TX7 7, zW w := fun w h => ⟨(by decide +kernel : ∀ w ∈ u_ws RX7 TX7 7, w ∈ lw_tbl) w h, (by decide +kernel : ∀ w ∈ u_ws RX7 TX7 7, zgood w = true) w h⟩
theorem zu_8 : ∀ w ∈ u_ws RX8 TX8 16, zW w := fun w h => ⟨(by decide +kernel : ∀ w ∈ u_ws RX8 TX8 16, w ∈ lw_tbl) w h, (by decide +kernel : ∀ w ∈ u_ws RX8 TX8 16, zgood w = true) w h⟩
theorem zu {ci : Nat} {r : vw_C} (h : vwCl[ci]? = some r) : ∀ w ∈ u_ws r.1 r.2.1 r.2.2, zW w := by
  match ci, h with
  | 0, h => cases h; exact zu_0
  | 1, h => cases h; exact zu_1
  | 2, h => cases h; exact zu_2
  | 3, h => cases h; exact zu_3
  | 4, h => cases h; exact zu_4
  | 5, h => cases h; exact zu_5
  | 6, h => cases h; exact zu_6
  | 7, h => cases h; exact zu_7
  | 8, h => cases h; exact zu_8
  | n + 9, h => simp [vwCl] at h
section ZM
variable {G : zG} {E : zE} {own : String} {cc : ByteArray} {nL fr lo pc : Nat} {lv : List (Option Value)} {st : List Value} {cs : List va_E}
theorem zC.t (C : zC G E own cc nL fr lo) : zT E.s := C.2.2.2.2.2.2.2.2.2
theorem zC.k (C : zC G E own cc nL fr lo) : va_K G.D vwCl (zty G.cy) E.s := C.2.2.2.2.2.2.2.2.1
theorem zC.w (C : zC G E own cc nL fr lo) {w : Cond} (h : zW w) : w.before E.args E.s = true := C.t w h _
theorem V_get (C : zC G E own cc nL fr lo) {T : u_T} {k ci N index : Nat} {Cn : String} (hw : zW (.fieldLink own index (T k).1 (T k).2.1 (T k).2.2.1)) (hc : vwCl[ci]? = some (Cn, T, N)) (hk : k < N) (hd : decode cc pc = .ok (.getfield index, 3)) {q : Nat} {fs : List Value} {v : Value} (he : cs[q]? = some (.inr (ci, fs))) (hv : fs[k]? = some v) (kk : V G E (pc + 3) lv (v :: st) cs) : V G E pc lv (.ref (G.ad q) :: st) cs :=
  fun H locs ls hl hP hD hS => va_get (D := G.D) (cl := vwCl) (Ts := u_ws Cn T N) C.1 C.2.1 (fun w h => C.w (zu hc w h)) (fun _ h => h) C.2.2.2.1 C.k hP q (zw_at he) hc k hk (C.w hw) (fun _ h => h) hv hd (kk H locs ls hl hP hD hS)
theorem V_getN (C : zC G E own cc nL fr lo) {T : u_T} {k ci N index : Nat} {Cn host : String} (hw : zW (.fieldLinkNest own index (T k).1 (T k).2.1 (T k).2.2.1 host)) (hc : vwCl[ci]? = some (Cn, T, N)) (hk : k < N) (hd : decode cc pc = .ok (.getfield index, 3)) {q : Nat} {fs : List Value} {v : Value} (he : cs[q]? = some (.inr (ci, fs))) (hv : fs[k]? = some v) (kk : V G E (pc + 3) lv (v :: st) cs) : V G E pc lv (.ref (G.ad q) :: st) cs :=
  fun H locs ls hl hP hD hS => va_getN (D := G.D) (cl := vwCl) (Ts := u_ws Cn T N) C.1 C.2.1 (fun w h => C.w (zu hc w h)) (fun _ h => h) C.2.2.2.1 C.k hP q (zw_at he) hc k hk (C.w hw) (fun _ h => h) hv hd (kk H locs ls hl hP hD hS)
theorem V_put (C : zC G E own cc nL fr lo) {T : u_T} {k ci N index : Nat} {Cn : String} {ty0 : Nat → FieldType} (hw : zW (.fieldLink own index (T k).1 (T k).2.1 (T k).2.2.1)) (hc : vwCl[ci]? = some (Cn, T, N)) (hty : ∀ k, k < N → parseFieldDescriptor (T k).2.2.1 = some (ty0 k)) (hnm : ∀ a, a < N → ∀ b, b < N → a ≠ b → (T a).2.1 ≠ (T b).2.1) (hk : k < N) (hfin : (T k).2.2.2 = false) {v : Value} (hn : narrow (ty0 k) v = v) (hfit : fits (ty0 k) v = true) (hd : decode cc pc = .ok (.putfield index, 3)) {q : Nat} {fs : List Value} (he : cs[q]? = some (.inr (ci, fs))) (hl9 : k < fs.length) (kk : V G E (pc + 3) lv st (cs.set q (.inr (ci, fs.set k v)))) : V G E pc lv (v :: .ref (G.ad q) :: st) cs :=
  fun H locs ls hl hP hD hS => va_put (D := G.D) (cl := vwCl) (Ts := u_ws Cn T N) C.1 C.2.1 (fun w h => C.w (zu hc w h)) (fun _ h => h) ty0 hty hnm C.2.2.2.1 C.k hP hD hS q (zw_at he) hc k hk (C.w hw) (fun _ h => h) hfin (hty k hk) hn hfit hl9 hd (fun H1 locs1 hP1 hD1 hS1 => kk H1 locs1 ls hl (by rw [zw_set] at hP1; exact hP1) (by rw [zw_set] at hD1; exact hD1) hS1)
theorem V_putN (C : zC G E own cc nL fr lo) {T : u_T} {k ci N index : Nat} {Cn host : String} {ty0 : Nat → FieldType} (hw : zW (.fieldLinkNest own index (T k).1 (T k).2.1 (T k).2.2.1 host)) (hc : vwCl[ci]? = some (Cn, T, N)) (hty : ∀ k, k < N → parseFieldDescriptor (T k).2.2.1 = some (ty0 k)) (hnm : ∀ a, a < N → ∀ b, b < N → a ≠ b → (T a).2.1 ≠ (T b).2.1) (hk : k < N) (hfin : (T k).2.2.2 = false) {v : Value} (hn : narrow (ty0 k) v = v) (hfit : fits (ty0 k) v = true) (hd : decode cc pc = .ok (.putfield index, 3)) {q : Nat} {fs : List Value} (he : cs[q]? = some (.inr (ci, fs))) (hl9 : k < fs.length) (kk : V G E (pc + 3) lv st (cs.set q (.inr (ci, fs.set k v)))) : V G E pc lv (v :: .ref (G.ad q) :: st) cs :=
  fun H locs ls hl hP hD hS => va_putN (D := G.D) (cl := vwCl) (Ts := u_ws Cn T N) C.1 C.2.1 (fun w h => C.w (zu hc w h)) (fun _ h => h) ty0 hty hnm C.2.2.2.1 C.k hP hD hS q (zw_at he) hc k hk (C.w hw) (fun _ h => h) hfin (hty k hk) hn hfit hl9 hd (fun H1 locs1 hP1 hD1 hS1 => kk H1 locs1 ls hl (by rw [zw_set] at hP1; exact hP1) (by rw [zw_set] at hD1; exact hD1) hS1)
/-- int, long and reference arrays -/
abbrev zI (G : zG) (n : Nat) (g : Int → Int) : va_E := .inl (G.cy 0, n, .inl (zf g))
abbrev zJ (G : zG) (n : Nat) (g : Int → Int) : va_E := .inl (G.cy 1, n, .inr (.inl (zg g)))
theorem V_iald (C : zC G E own cc nL fr lo) (hd : decode cc pc = .ok (.iaload, 1)) {q n : Nat} {g : Int → Int} {i : Int} (he : cs[q]? = some (zI G n g)) (h0 : 0 ≤ i) (h1 : i < n) (hn : n < 2147483648) (hg : ∀ k, rng (g k)) (kk : rng (g i) → V G E (pc + 1) lv (.int (iI (g i)) :: st) cs) : V G E pc lv (.int (iI i) :: .ref (G.ad q) :: st) cs :=
  fun H locs ls hl hP hD hS => va_iald (D := G.D) (cl := vwCl) (tys := zty G.cy) C.1 C.2.1 C.k hP q 0 (zw_at he) rfl (iI_in h0 h1 hn) hd (by rw [iI_clamp (by omega), zf_at g h0]; exact kk (hg i) H locs ls hl hP hD hS)
theorem V_lald (C : zC G E own cc nL fr lo) (hd : decode cc pc = .ok (.laload, 1)) {q n : Nat} {g : Int → Int} {i : Int} (he : cs[q]? = some (zJ G n g)) (h0 : 0 ≤ i) (h1 : i < n) (hn : n < 2147483648) (hg : ∀ k, rngL (g k)) (kk : rngL (g i) → V G E (pc + 1) lv (.long (lI (g i)) :: st) cs) : V G E pc lv (.int (iI i) :: .ref (G.ad q) :: st) cs :=
  fun H locs ls hl hP hD hS => va_lald (D := G.D) (cl := vwCl) (tys := zty G.cy) C.1 C.2.1 C.k hP q 1 (zw_at he) rfl (iI_in h0 h1 hn) hd (by rw [iI_clamp (by omega), zg_at g h0]; exact kk (hg i) H locs ls hl hP hD hS)
theorem V_iast (C : zC G E own cc nL fr lo) (hd : decode cc pc = .ok (.iastore, 1)) {q n : Nat} {g : Int → Int} {i v : Int} (he : cs[q]? = some (zI G n g)) (h0 : 0 ≤ i) (h1 : i < n) (hn : n < 2147483648) (kk : V G E (pc + 1) lv st (cs.set q (zI G n (zup g i v)))) : V G E pc lv (.int (iI v) :: .int (iI i) :: .ref (G.ad q) :: st) cs :=
  fun H locs ls hl hP hD hS => va_iast (D := G.D) (cl := vwCl) (tys := zty G.cy) C.1 C.2.1 C.k hP hD hS q 0 (zw_at he) rfl (iI_in h0 h1 hn) hd (fun H1 locs1 hP1 hD1 hS1 => by
    rw [iI_clamp (by omega), zf_upd g v h0, zw_set] at hP1 hD1
    exact kk H1 locs1 ls hl hP1 hD1 hS1)
theorem V_last (C : zC G E own cc nL fr lo) (hd : decode cc pc = .ok (.lastore, 1)) {q n : Nat} {g : Int → Int} {i v : Int} (he : cs[q]? = some (zJ G n g)) (h0 : 0 ≤ i) (h1 : i < n) (hn : n < 2147483648) (kk : V G E (pc + 1) lv st (cs.set q (zJ G n (zup g i v)))) : V G E pc lv (.long (lI v) :: .int (iI i) :: .ref (G.ad q) :: st) cs :=
  fun H locs ls hl hP hD hS => va_last (D := G.D) (cl := vwCl) (tys := zty G.cy) C.1 C.2.1 C.k hP hD hS q 1 (zw_at he) rfl (iI_in h0 h1 hn) hd (fun H1 locs1 hP1 hD1 hS1 => by
    rw [iI_clamp (by omega), zg_upd g v h0, zw_set] at hP1 hD1
    exact kk H1 locs1 ls hl hP1 hD1 hS1)
theorem iI_nat (n : Nat) : Int32.ofNat n = iI n := Int32.ofInt_eq_ofNat.symm
theorem V_alenI (C : zC G E own cc nL fr lo) (hd : decode cc pc = .ok (.arraylength, 1)) {q n : Nat} {g : Int → Int} (he : cs[q]? = some (zI G n g)) (kk : V G E (pc + 1) lv (.int (iI n) :: st) cs) : V G E pc lv (.ref (G.ad q) :: st) cs :=
  fun H locs ls hl hP hD hS => va_alen (D := G.D) (cl := vwCl) (tys := zty G.cy) C.1 C.2.1 C.k hP q 0 (zw_at he) rfl (iI_nat n) hd (kk H locs ls hl hP hD hS)
theorem V_alenJ (C : zC G E own cc nL fr lo) (hd : decode cc pc = .ok (.arraylength, 1)) {q n : Nat} {g : Int → Int} (he : cs[q]? = some (zJ G n g)) (kk : V G E (pc + 1) lv (.int (iI n) :: st) cs) : V G E pc lv (.ref (G.ad q) :: st) cs :=
  fun H locs ls hl hP hD hS => va_alen (D := G.D) (cl := vwCl) (tys := zty G.cy) C.1 C.2.1 C.k hP q 1 (zw_at he) rfl (iI_nat n) hd (kk H locs ls hl hP hD hS)
/-- System.arraycopy over ints, over longs -/
theorem V_copyI (C : zC G E own cc nL fr lo) {index : Nat} (hw : zW (.methodLink own index arraycopyName)) (hd : decode cc pc = .ok (.invokestatic index, 3)) {q0 q1 n0 n1 : Nat} {f g : Int → Int} {sp dp n : Int} (he0 : cs[q0]? = some (zI G n0 f)) (he1 : cs[q1]? = some (zI G n1 g)) (h1 : 0 ≤ sp) (h2 : 0 ≤ dp) (h3 : 0 ≤ n) (h4 : sp + n ≤ n0) (h5 : dp + n ≤ n1) (hn0 : n0 < 2147483648) (hn1 : n1 < 2147483648) (hfr : 1 ≤ fr) (hlo : (st.map fun v => v.category).sum + (nativeFrameWords "java/lang/System" "arraycopy" 5 + 11) ≤ lo) (kk : V G E (pc + 3) lv st (cs.set q1 (zI G n1 (zcp f g sp dp n)))) : V G E pc lv (.int (iI n) :: .int (iI dp) :: .ref (G.ad q1) :: .int (iI sp) :: .ref (G.ad q0) :: st) cs := by
  intro H locs ls hl hP hD hS
  have r1 : rng sp := by omega
  have r2 : rng dp := by omega
  have r3 : rng n := by omega
  refine va_copyi (D := G.D) (cl := vwCl) (tys := zty G.cy) C.1 C.2.1 hl.1.symm C.2.2.2.1 (C.w hw) (C.w wv_System_arraycopy) (C.w wt_System_arraycopy) (C.w wn_Sys) C.k hP hD hS q0 q1 0 0 (zw_at he0) (zw_at he1) rfl rfl rfl (fun h => ?_) (fun h => ?_) (fun h => ?_) ?_ ?_ (fun _ _ => rfl) (Nat.le_trans hfr C.2.2.2.2.1) (Nat.le_trans hlo C.2.2.2.2.2.1) hd (fun H1 locs1 hP1 hD1 hS1 => ?_)
  · exact absurd ((iI_lt (b := 0) r1 (by omega)).mp h) (by omega)
  · exact absurd ((iI_lt (b := 0) r2 (by omega)).mp h) (by omega)
  · exact absurd ((iI_lt (b := 0) r3 (by omega)).mp h) (by omega)
  · rw [iI_clamp r1, iI_clamp r3]; omega
  · rw [iI_clamp r2, iI_clamp r3]; omega
  · rw [iI_clamp r1, iI_clamp r2, iI_clamp r3, zf_cpy f g h1 h2 h3, zw_set] at hP1 hD1
    exact kk H1 locs1 ls hl hP1 hD1 hS1
theorem V_copyJ (C : zC G E own cc nL fr lo) {index : Nat} (hw : zW (.methodLink own index arraycopyName)) (hd : decode cc pc = .ok (.invokestatic index, 3)) {q0 q1 n0 n1 : Nat} {f g : Int → Int} {sp dp n : Int} (he0 : cs[q0]? = some (zJ G n0 f)) (he1 : cs[q1]? = some (zJ G n1 g)) (h1 : 0 ≤ sp) (h2 : 0 ≤ dp) (h3 : 0 ≤ n) (h4 : sp + n ≤ n0) (h5 : dp + n ≤ n1) (hn0 : n0 < 2147483648) (hn1 : n1 < 2147483648) (hfr : 1 ≤ fr) (hlo : (st.map fun v => v.category).sum + (nativeFrameWords "java/lang/System" "arraycopy" 5 + 11) ≤ lo) (kk : V G E (pc + 3) lv st (cs.set q1 (zJ G n1 (zcp f g sp dp n)))) : V G E pc lv (.int (iI n) :: .int (iI dp) :: .ref (G.ad q1) :: .int (iI sp) :: .ref (G.ad q0) :: st) cs := by
  intro H locs ls hl hP hD hS
  have r1 : rng sp := by omega
  have r2 : rng dp := by omega
  have r3 : rng n := by omega
  refine va_copyl (D := G.D) (cl := vwCl) (tys := zty G.cy) C.1 C.2.1 hl.1.symm C.2.2.2.1 (C.w hw) (C.w wv_System_arraycopy) (C.w wt_System_arraycopy) (C.w wn_Sys) C.k hP hD hS q0 q1 1 1 (zw_at he0) (zw_at he1) rfl rfl rfl (fun h => ?_) (fun h => ?_) (fun h => ?_) ?_ ?_ (fun _ _ => rfl) (Nat.le_trans hfr C.2.2.2.2.1) (Nat.le_trans hlo C.2.2.2.2.2.1) hd (fun H1 locs1 hP1 hD1 hS1 => ?_)
  · exact absurd ((iI_lt (b := 0) r1 (by omega)).mp h) (by omega)
  · exact absurd ((iI_lt (b := 0) r2 (by omega)).mp h) (by omega)
  · exact absurd ((iI_lt (b := 0) r3 (by omega)).mp h) (by omega)
  · rw [iI_clamp r1, iI_clamp r3]; omega
  · rw [iI_clamp r2, iI_clamp r3]; omega
  · rw [iI_clamp r1, iI_clamp r2, iI_clamp r3, zg_cpy f g h1 h2 h3, zw_set] at hP1 hD1
    exact kk H1 locs1 ls hl hP1 hD1 hS1
/-- Math.max, Math.min -/
theorem V_max (C : zC G E own cc nL fr lo) {index : Nat} (hw : zW (.methodLink own index Lib.Math.max.name)) (hd : decode cc pc = .ok (.invokestatic index, 3)) {a b : Int} (ha : rng a) (hb : rng b) (hfr : 1 ≤ fr) (hlo : (st.map fun v => v.category).sum + 13 ≤ lo) (kk : V G E (pc + 3) lv (.int (iI (max a b)) :: st) cs) : V G E pc lv (.int (iI b) :: .int (iI a) :: st) cs :=
  fun H locs ls hl hP hD hS => va_mmax C.1 C.2.1 hl.1.symm C.2.2.2.1 (C.w hw) (C.w wt_Math_max) (C.w wn_Math) (C.w wc_Math_max) (Nat.le_trans hfr C.2.2.2.2.1) (Nat.le_trans hlo C.2.2.2.2.2.1) C.2.2.2.2.2.2.1 C.2.2.2.2.2.2.2.1 hd (by
    have e : (if iI a < iI b then iI b else iI a) = iI (max a b) := by
      by_cases h : a < b
      · rw [if_pos ((iI_lt ha hb).mpr h), Int.max_eq_right (by omega)]
      · rw [if_neg (fun q => h ((iI_lt ha hb).mp q)), Int.max_eq_left (by omega)]
    rw [e]; exact kk H locs ls hl hP hD hS)
theorem V_min (C : zC G E own cc nL fr lo) {index : Nat} (hw : zW (.methodLink own index Lib.Math.min.name)) (hd : decode cc pc = .ok (.invokestatic index, 3)) {a b : Int} (ha : rng a) (hb : rng b) (hfr : 1 ≤ fr) (hlo : (st.map fun v => v.category).sum + 13 ≤ lo) (kk : V G E (pc + 3) lv (.int (iI (min a b)) :: st) cs) : V G E pc lv (.int (iI b) :: .int (iI a) :: st) cs :=
  fun H locs ls hl hP hD hS => va_mmin C.1 C.2.1 hl.1.symm C.2.2.2.1 (C.w hw) (C.w wt_Math_min) (C.w wn_Math) (C.w wc_Math_min) (Nat.le_trans hfr C.2.2.2.2.1) (Nat.le_trans hlo C.2.2.2.2.2.1) C.2.2.2.2.2.2.1 C.2.2.2.2.2.2.2.1 hd (by
    have e : (if iI b < iI a then iI b else iI a) = iI (min a b) := by
      by_cases h : b < a
      · rw [if_pos ((iI_lt hb ha).mpr h), Int.min_eq_right (by omega)]
      · rw [if_neg (fun q => h ((iI_lt hb ha).mp q)), Int.min_eq_left (by omega)]
    rw [e]; exact kk H locs ls hl hP hD hS)
-- contracts
def zQc (G : zG) (n : Nat) (Qr : Option Value → List va_E → Prop) : Array Value → State → Outcome → State → Prop := fun _ st oc t =>
  (∃ (r : Option Value) (cs' : List va_E), oc = .returned r ∧ Qr r cs' ∧ va_P G.D vwCl (zw G.ad cs') t.heap ∧ va_D (zA G.ad n) (zw G.ad cs')) ∧ va_F (zA G.ad n) st t
def zB (G : zG) (cs : List va_E) (U : State) : Prop := va_P G.D vwCl (zw G.ad cs) U.heap ∧ va_K G.D vwCl (zty G.cy) U ∧ zT U ∧ va_D (fun _ => True) (zw G.ad cs)
abbrev zrm (fr lo : Nat) : Room := { frames := fr, cells := 0, slots := 0, locals := lo }
def zMet (G : zG) (y : MethodName) (cc : ByteArray) (nL : Nat) (ret : Option FieldType) (fr lo : Nat) (av : List Value) (cs : List va_E) (Qr : Option Value → List va_E → Prop) : Prop :=
  Met G.l y [.code y cc nL ret] (zrm fr lo) (va_Pc av (zB G cs)) (zQc G cs.length Qr) 0 0 (zA G.ad cs.length)
def zR (G : zG) (E : zE) (ret : Option FieldType) (n : Nat) (Qr : Option Value → List va_E → Prop) : Prop :=
  E.meth.sig.returnType = ret ∧ E.meth.locks = false ∧ E.cells = 0 ∧ E.slots = 0 ∧ E.A = zA G.ad n ∧ E.Q = MQ E.below (zQc G n Qr) E.args E.s 0 0 (zA G.ad n)
theorem zpl_args : ∀ (av : List Value) (k : Nat) (r : List (Option Value)), (∀ q ∈ r, q = none) → zpl k (av.flatMap (fun v => if v.category = 2 then [some v, none] else [some v]) ++ r) = lv_args k av
  | [], k, r, h => by
    simp only [List.flatMap_nil, List.nil_append, lv_args]
    induction r generalizing k with
    | nil => rfl
    | cons a l ih =>
      have := h a List.mem_cons_self
      subst this
      exact ih (k + 1) (fun q hq => h q (List.mem_cons_of_mem _ hq))
  | v :: t, k, r, h => by
    rw [List.flatMap_cons, List.append_assoc, lv_args]
    by_cases hc : v.category = 2
    · rw [if_pos hc, if_pos hc]
      exact congrArg (List.cons (k, v)) (zpl_args t (k + 2) r h)
    · rw [if_neg hc, if_neg hc]
      exact congrArg (List.cons (k, v)) (zpl_args t (k + 1) r h)
theorem zent_has (av : List Value) {n : Nat} (h : (lg_sl av).length ≤ n) : zls ((lg_sl av ++ List.replicate (n - (lg_sl av).length) Slot.unset).toArray) n (zent av n) := by
  have e : zpl 0 (zent av n) = lv_args 0 av := zpl_args av 0 _ (fun q hq => (List.mem_replicate.mp hq).2)
  unfold zls
  rw [e]
  exact lv_entry av h
theorem va_D_in {A : Nat → Prop} {ad : Nat → Nat} {cs : List va_E} (h : va_D A (zw ad cs)) {k : Nat} (hk : k < cs.length) : A (ad k) := h.2 k (ad k, cs[k]) (zw_at (List.getElem?_eq_getElem hk))
theorem zMet.of {y : MethodName} {ret : Option FieldType} {av : List Value} {Qr : Option Value → List va_E → Prop} (hy : plainName y.cls = true) (ha : (lg_sl av).length ≤ nL) (h : ∀ E : zE, zC G E y.cls cc nL fr lo → zR G E ret cs.length Qr → V G E 0 (zent av nL) [] cs) : zMet G y cc nL ret fr lo av cs Qr := by
  refine Met.ofW (cc := cc) (maxL := nL) (ret := ret) hy rfl ?_
  intro p e s m args below meth c s₁ B hml hv
  obtain ⟨rfl, hP, hK, hT, hD⟩ := hv
  have key := h (p, e, zrm fr lo, s, m, av.toArray, below, meth, c, 0, 0, MQ below (zQc G cs.length Qr) av.toArray s 0 0 (zA G.ad cs.length), zA G.ad cs.length) ⟨B.exec, B.bytes, hml, findClass_of_methodNamed B.named, Nat.le_refl _, Nat.le_refl _, Nat.zero_le _, Nat.zero_le _, hK, hT⟩ ⟨B.returns, B.notSynchronized, rfl, rfl, rfl, rfl⟩
  rw [lg_entry_eq]
  have hz := zent_has av ha
  rw [← hml] at hz
  have hz2 : zls ((lg_sl av ++ List.replicate (nL - (lg_sl av).length) Slot.unset).toArray) c.maxLocals (zent av nL) := by rw [hml] at hz ⊢; exact hz
  exact key s.heap [] _ hz2 hP ⟨hD.1, fun k q hq => by
    rw [zw_get] at hq
    obtain ⟨e0, h1, h2⟩ := Option.map_eq_some_iff.mp hq
    subst h2
    exact ⟨k, (List.getElem?_eq_some_iff.mp h1).1, rfl⟩⟩ va_S.rf
-- returns
theorem zQc.mk {n : Nat} {Qr : Option Value → List va_E → Prop} {H : Heap} {locs : List Loc} {r : Option Value} {ret : Option FieldType} (R : zR G E ret n Qr) (hq : Qr r cs) (hP : va_P G.D vwCl (zw G.ad cs) H) (hD : va_D E.A (zw G.ad cs)) (hS : va_S E.A E.s.heap H locs) : ∀ t : State, t.heap = H → zQc G n Qr E.args E.s (.returned r) t := by
  intro t ht
  rw [R.2.2.2.2.1] at hD hS
  exact ⟨⟨r, cs, rfl, hq, by rw [ht]; exact hP, hD⟩, hS.F ht⟩
theorem V_iret (C : zC G E own cc nL fr lo) {n : Nat} {Qr : Option Value → List va_E → Prop} (R : zR G E (some .int) n Qr) (hd : decode cc pc = .ok (.ireturn, 1)) {v : Int32} (hq : Qr (some (.int v)) cs) : V G E pc lv [.int v] cs := by
  intro H locs ls hl hP hD hS
  have hb := C.2.1
  rw [R.2.2.1, R.2.2.2.1, R.2.2.2.2.2]
  exact W.iret C.1 hb R.1 (fun t ht _ => zQc.mk R hq hP hD hS t ht) (fun q h => by have := hS.2.2 q h; rw [R.2.2.2.2.1] at this; exact this) hd R.2.1
theorem V_zret (C : zC G E own cc nL fr lo) {n : Nat} {Qr : Option Value → List va_E → Prop} (R : zR G E (some .boolean) n Qr) (hd : decode cc pc = .ok (.ireturn, 1)) {z : Int} (hz : z = 0 ∨ z = 1) (hq : Qr (some (.int (iI z))) cs) : V G E pc lv [.int (iI z)] cs := by
  intro H locs ls hl hP hD hS
  rw [R.2.2.1, R.2.2.2.1, R.2.2.2.2.2]
  exact W.zret (ty := .boolean) C.1 C.2.1 R.1 (by rcases hz with rfl | rfl <;> rfl) (fun t ht _ => zQc.mk R hq hP hD hS t ht) (fun q h => by have := hS.2.2 q h; rw [R.2.2.2.2.1] at this; exact this) hd R.2.1
theorem V_vret (C : zC G E own cc nL fr lo) {n : Nat} {Qr : Option Value → List va_E → Prop} (R : zR G E none n Qr) (hd : decode cc pc = .ok (.return_, 1)) (hq : Qr none cs) : V G E pc lv [] cs := by
  intro H locs ls hl hP hD hS
  rw [R.2.2.1, R.2.2.2.1, R.2.2.2.2.2]
  exact W.vret C.1 C.2.1 R.1 (fun t ht _ => zQc.mk R hq hP hD hS t ht) (fun q h => by have := hS.2.2 q h; rw [R.2.2.2.2.1] at this; exact this) hd R.2.1
theorem V_lret (C : zC G E own cc nL fr lo) {n : Nat} {Qr : Option Value → List va_E → Prop} (R : zR G E (some .long) n Qr) (hd : decode cc pc = .ok (.lreturn, 1)) {v : Int64} (hq : Qr (some (.long v)) cs) : V G E pc lv [.long v] cs := by
  intro H locs ls hl hP hD hS
  rw [R.2.2.1, R.2.2.2.1, R.2.2.2.2.2]
  exact W.lret C.1 C.2.1 R.1 (fun t ht _ => zQc.mk R hq hP hD hS t ht) (fun q h => by have := hS.2.2 q h; rw [R.2.2.2.2.1] at this; exact this) hd R.2.1
theorem V_aret (C : zC G E own cc nL fr lo) {n : Nat} {Qr : Option Value → List va_E → Prop} {cn : String} (R : zR G E (some (.object cn)) n Qr) (hd : decode cc pc = .ok (.areturn, 1)) {v : Value} (hv : v = .null ∨ ∃ a, v = .ref a) (hq : Qr (some v) cs) : V G E pc lv [v] cs := by
  intro H locs ls hl hP hD hS
  rw [R.2.2.1, R.2.2.2.1, R.2.2.2.2.2]
  exact W.aret C.1 C.2.1 R.1 (Or.inl ⟨_, rfl⟩) hv (fun t ht _ => zQc.mk R hq hP hD hS t ht) (fun q h => by have := hS.2.2 q h; rw [R.2.2.2.2.1] at this; exact this) hd R.2.1
-- calls
theorem zB_blind (av : List Value) : FrameBlind (va_Pc av (zB G cs)) := fun _ U _ _ h => ⟨h.1, h.2.1, va_K.moved (u := U) (Vm.Alike.refl U.vm) h.2.2.1, zT_warm (s := U) (State.WarmedH.refl U) h.2.2.2.1, h.2.2.2.2⟩
theorem zB_at (C : zC G E own cc nL fr lo) {H : Heap} (hP : va_P G.D vwCl (zw G.ad cs) H) (hD : va_D E.A (zw G.ad cs)) {av : List Value} (U : State) (hU : U.heap = H) (hW : E.s.WarmedH U.vm) : va_Pc av (zB G cs) av.toArray U := ⟨rfl, by rw [hU]; exact hP, va_K.moved hW.alike C.k, zT_warm hW C.t, hD.weaken (fun _ _ _ _ => trivial)⟩
theorem V_ran {Qr : Option Value → List va_E → Prop} {av : Array Value} {H : Heap} {locs : List Loc} {ls : Array Slot} {stk : List Value} (hr : va_Run E.p G.l E.e E.R E.s E.m E.args E.below E.meth E.c H locs E.cells E.slots 0 0 (F0 E.m pc ls stk) st (zQc G cs.length Qr av) (zA G.ad cs.length)) (hl : zls ls E.c.maxLocals lv) (hD : va_D E.A (zw G.ad cs)) (hS : va_S E.A E.s.heap H locs) (k : ∀ r cs', Qr r cs' → V G E (pc + 3) lv (r.toList ++ st) cs') : W E.p G.l E.e E.R E.s E.m E.args E.below E.meth E.c H locs E.cells E.slots E.Q (F0 E.m pc ls stk) := by
  intro T hT X
  obtain ⟨v, st₀, t, T', L, h0, X', hL, e1, e2, ⟨⟨r, cs', hv, hq, hP', hD'⟩, hz, hk⟩, stp⟩ := hr T hT X
  cases hv
  rw [h0] at hz hk
  have hA : ∀ q, zA G.ad cs.length q → E.A q := fun q ⟨j, hj, e⟩ => by rw [e]; exact va_D_in hD hj
  have hS' : va_S E.A E.s.heap T'.heap (locs ++ L) := ⟨Nat.le_trans hS.1 (by rw [e1]; exact hz), fun q h1 h2 => by rw [e1, hk q (Nat.lt_of_lt_of_le h1 hS.1) (fun z => h2 (hA q z))]; exact hS.2.1 q h1 h2, fun q hq => by
      rcases List.mem_append.mp hq with h | h
      · exact hS.2.2 q h
      · exact hA _ (hL q h)⟩
  obtain ⟨t2, a1, b1⟩ := k v cs' hq T'.heap (locs ++ L) ls hl (by rw [e1]; exact hP') (hD'.weaken (fun _ _ _ h => hA _ h)) hS' T' rfl X'
  exact ⟨t2, stp t2 a1, b1⟩
abbrev zPl (y : MethodName) (n : Nat) : Prop := y.cls ≠ "java/lang/invoke/MethodHandle" ∧ y.cls ≠ "java/lang/invoke/VarHandle" ∧ (parseMethodDescriptor y.desc).map (fun d => d.parameters.length) = some n
/-- a link of a call: virtual, virtual to a nest mate, static, static of a nest mate -/
abbrev zLV (own : String) (index : Nat) (y : MethodName) (bytes : ByteArray) (maxL : Nat) (ret : Option FieldType) (n : Nat) : Prop := zW (.methodLink own index y) ∧ zW (.instanceMethod y) ∧ zW (.selects y.cls y y) ∧ zW (.initialized y.cls) ∧ zW (.code y bytes maxL ret) ∧ zPl y n
abbrev zLN (own : String) (index : Nat) (y : MethodName) (bytes : ByteArray) (maxL : Nat) (ret : Option FieldType) (n : Nat) (host : String) : Prop := zW (.methodLinkNest own index y host) ∧ zW (.instanceMethod y) ∧ zW (.selects y.cls y y) ∧ zW (.initialized y.cls) ∧ zW (.code y bytes maxL ret) ∧ zPl y n
abbrev zLS (own : String) (index : Nat) (y : MethodName) (bytes : ByteArray) (maxL : Nat) (ret : Option FieldType) (n : Nat) : Prop := zW (.methodLink own index y) ∧ zW (.static y) ∧ zW (.initialized y.cls) ∧ zW (.code y bytes maxL ret) ∧ zPl y n
theorem zT.all {s : State} (h : zT s) {w : Cond} (hw : zW w) : ∀ (a' : Array Value) (U : State), s.WarmedH U.vm → w.before a' U = true := fun a' _ hW => zT_warm hW h w hw a'
variable {y : MethodName} {bytes : ByteArray} {maxL : Nat} {ret : Option FieldType} {fr' lo' : Nat} {As stk : List Value} {Qr : Option Value → List va_E → Prop} {index n q ci : Nat} {fs : List Value} {T : u_T} {N : Nat}
theorem V_callV (C : zC G E own cc nL fr lo) (L : zLV own index y bytes maxL ret n) (M : zMet G y bytes maxL ret fr' lo' (.ref (G.ad q) :: As) cs Qr) (hd : decode cc pc = .ok (.invokevirtual index, 3)) (hst : stk = As.reverse ++ .ref (G.ad q) :: st) (hn : As.length = n) (he : cs[q]? = some (.inr (ci, fs))) (hc : vwCl[ci]? = some (y.cls, T, N)) (hroom : fr' + 1 ≤ fr ∧ 8 + (maxL + 11) + lo' ≤ lo) (hcat : (st.map fun v => v.category).sum ≤ 8) (k : ∀ r cs', Qr r cs' → V G E (pc + 3) lv (r.toList ++ st) cs') : V G E pc lv stk cs := by
  intro H locs ls hl hP hD hS
  refine V_ran (va_runV (Ts := []) (C := y.cls) ⟨C.1, C.2.1, C.2.2.1, C.2.2.2.1, fun w h => absurd h List.not_mem_nil⟩ M (bytes := bytes) (maxL := maxL) (ret := ret) (n := n) ⟨⟨rfl, rfl, Nat.le_trans hroom.1 C.2.2.2.2.1, Nat.le_trans hroom.2 C.2.2.2.2.2.1, ?_, List.mem_cons_self, C.w L.2.2.2.2.1, C.w L.2.2.2.1, ⟨L.2.2.2.2.2.1, L.2.2.2.2.2.2.1⟩, ?_, C.w L.1⟩, C.w L.2.1, C.w L.2.2.1⟩ ⟨zB_blind _, va_recv C.k hP hc (zw_at he), fun U hU hW => zB_at C hP hD U hU hW⟩ rfl hn (by rw [← C.2.2.1]; exact hl.1) hst (lv_room hcat) hd ⟨C.2.2.2.2.2.2.1, C.2.2.2.2.2.2.2.1⟩) hl hD hS k
  · intro w hw a' U hW
    rw [List.mem_singleton] at hw
    subst hw
    exact C.t.all L.2.2.2.2.1 a' U hW
  · intro sig h
    have h2 := L.2.2.2.2.2.2.2
    rw [h] at h2
    exact (Option.some.inj h2).symm
theorem V_callN (C : zC G E own cc nL fr lo) {host : String} (L : zLN own index y bytes maxL ret n host) (M : zMet G y bytes maxL ret fr' lo' (.ref (G.ad q) :: As) cs Qr) (hd : decode cc pc = .ok (.invokevirtual index, 3)) (hst : stk = As.reverse ++ .ref (G.ad q) :: st) (hn : As.length = n) (he : cs[q]? = some (.inr (ci, fs))) (hc : vwCl[ci]? = some (y.cls, T, N)) (hroom : fr' + 1 ≤ fr ∧ 8 + (maxL + 11) + lo' ≤ lo) (hcat : (st.map fun v => v.category).sum ≤ 8) (k : ∀ r cs', Qr r cs' → V G E (pc + 3) lv (r.toList ++ st) cs') : V G E pc lv stk cs := by
  intro H locs ls hl hP hD hS
  refine V_ran (va_runVN (Ts := []) (C := y.cls) (host := host) ⟨C.1, C.2.1, C.2.2.1, C.2.2.2.1, fun w h => absurd h List.not_mem_nil⟩ M (bytes := bytes) (maxL := maxL) (ret := ret) (n := n) ⟨⟨⟨rfl, rfl, Nat.le_trans hroom.1 C.2.2.2.2.1, Nat.le_trans hroom.2 C.2.2.2.2.2.1, ?_, List.mem_cons_self⟩, C.w L.2.2.2.2.1, C.w L.2.2.2.1, ⟨L.2.2.2.2.2.1, L.2.2.2.2.2.2.1⟩, ?_, C.w L.1⟩, C.w L.2.1, C.w L.2.2.1⟩ ⟨zB_blind _, va_recv C.k hP hc (zw_at he), fun U hU hW => zB_at C hP hD U hU hW⟩ rfl hn (by rw [← C.2.2.1]; exact hl.1) hst (lv_room hcat) hd ⟨C.2.2.2.2.2.2.1, C.2.2.2.2.2.2.2.1⟩) hl hD hS k
  · intro w hw a' U hW
    rw [List.mem_singleton] at hw
    subst hw
    exact C.t.all L.2.2.2.2.1 a' U hW
  · intro sig h
    have h2 := L.2.2.2.2.2.2.2
    rw [h] at h2
    exact (Option.some.inj h2).symm
theorem V_callS (C : zC G E own cc nL fr lo) (L : zLS own index y bytes maxL ret n) (M : zMet G y bytes maxL ret fr' lo' As cs Qr) (hd : decode cc pc = .ok (.invokestatic index, 3)) (hst : stk = As.reverse ++ st) (hn : As.length = n) (hroom : fr' + 1 ≤ fr ∧ 8 + (maxL + 11) + lo' ≤ lo) (hcat : (st.map fun v => v.category).sum ≤ 8) (k : ∀ r cs', Qr r cs' → V G E (pc + 3) lv (r.toList ++ st) cs') : V G E pc lv stk cs := by
  intro H locs ls hl hP hD hS
  refine V_ran (va_runS (Ts := []) ⟨C.1, C.2.1, C.2.2.1, C.2.2.2.1, fun w h => absurd h List.not_mem_nil⟩ M (bytes := bytes) (maxL := maxL) (ret := ret) (n := n) ⟨⟨rfl, rfl, Nat.le_trans hroom.1 C.2.2.2.2.1, Nat.le_trans hroom.2 C.2.2.2.2.2.1, ?_, List.mem_cons_self, C.w L.2.2.2.1, C.w L.2.2.1, ⟨L.2.2.2.2.1, L.2.2.2.2.2.1⟩, ?_, C.w L.1⟩, C.w L.2.1⟩ ⟨zB_blind _, fun U hU hW => zB_at C hP hD U hU hW⟩ rfl hn (by rw [← C.2.2.1]; exact hl.1) hst (lv_room hcat) hd ⟨C.2.2.2.2.2.2.1, C.2.2.2.2.2.2.2.1⟩) hl hD hS k
  · intro w hw a' U hW
    rw [List.mem_singleton] at hw
    subst hw
    exact C.t.all L.2.2.2.1 a' U hW
  · intro sig h
    have h2 := L.2.2.2.2.2.2
    rw [h] at h2
    exact (Option.some.inj h2).symm
/-- what a contract's end says, with one answer and one world -/
abbrev zO (v : Value) (cs1 : List va_E) : Option Value → List va_E → Prop := fun r cs' => r = some v ∧ cs' = cs1
abbrev zO0 (cs1 : List va_E) : Option Value → List va_E → Prop := fun r cs' => r = none ∧ cs' = cs1
theorem kO {v : Value} {cs1 : List va_E} (k : V G E pc lv (v :: st) cs1) : ∀ r cs', zO v cs1 r cs' → V G E pc lv (r.toList ++ st) cs' := fun r cs' h => by rw [h.1, h.2]; exact k
theorem kO0 {cs1 : List va_E} (k : V G E pc lv st cs1) : ∀ r cs', zO0 cs1 r cs' → V G E pc lv (r.toList ++ st) cs' := fun r cs' h => by rw [h.1, h.2]; exact k
end ZM
