/-! ===== the law's loop ===== -/
def sx (xs : Nat → Int32) (j : Int) : Int := (xs j.toNat).toInt
theorem sx_rng (xs : Nat → Int32) (j : Int) : rng (sx xs j) := iI_rng _
abbrev lwE (E : zE) (b L : Nat) (xs : Nat → Int32) : Prop := va_X b L xs E.s E.s.heap ∧ b < E.s.heap.size ∧ ¬ E.A b ∧ L ≤ 3072
section LW
variable {G : zG} {E : zE} {own : String} {cc : ByteArray} {nL fr lo pc : Nat} {lv : List (Option Value)} {st : List Value} {cs : List va_E} {b L : Nat} {xs : Nat → Int32} {i : Int}
theorem V_sld (C : zC G E own cc nL fr lo) (X : lwE E b L xs) {j : Int} (hj : 0 ≤ j ∧ j < L) (hd : decode cc pc = .ok (.iaload, 1)) (k : V G E (pc + 1) lv (.int (iI (sx xs j)) :: st) cs) : V G E pc lv (.int (iI j) :: .ref b :: st) cs := by
  intro H locs ls hl hP hD hS
  have hL := X.2.2.2
  refine va_sld C.1 C.2.1 X.1 X.2.1 X.2.2.1 hS (iI_in hj.1 hj.2 (by omega)) hd ?_
  have q := k H locs ls hl hP hD hS
  rw [iI_clamp (by omega), ← iI_of (xs j.toNat)]
  exact q
theorem V_slen (C : zC G E own cc nL fr lo) (X : lwE E b L xs) (hd : decode cc pc = .ok (.arraylength, 1)) (k : V G E (pc + 1) lv (.int (iI (L : Int)) :: st) cs) : V G E pc lv (.ref b :: st) cs := by
  intro H locs ls hl hP hD hS
  refine va_slen C.1 C.2.1 X.1 X.2.1 X.2.2.1 hS hd ?_
  exact k H locs ls hl hP hD hS
theorem V_icmp_same (C : zC G E own cc nL fr lo) {v : Int32} {off : Int} {tgt : Nat} (hd : decode cc pc = .ok (.if_icmp .eq off, 3)) (ht : (pc : Int) + off = (tgt : Int)) (k : V G E tgt lv st cs) : V G E pc lv (.int v :: .int v :: st) cs :=
  fun H locs ls hl hP hD hS => lv_icmp_eq C.1 C.2.1 hd ht (fun _ => k H locs ls hl hP hD hS) (fun h => absurd rfl h)
set_option maxRecDepth 100000 in
theorem lc_type (C : zC G E RL cL_law 4 11 300) (X : lwE E b L xs) (hi : 0 ≤ i ∧ i + 6 ≤ L) (h : Inv G cs) (K : ∀ cs', Inv G cs' → V G E 862 [some (.ref b), some (.ref (G.ad 34)), some (.ref (G.ad 57)), some (.int (iI i))] [] cs') : V G E 136 [some (.ref b), some (.ref (G.ad 34)), some (.ref (G.ad 57)), some (.int (iI i))] [] cs := by
  have hL := X.2.2.2
  obtain ⟨Q1, M1, k1⟩ := pr_type h (sx_rng xs (i + 1))
  obtain ⟨fs, he⟩ := Inv_34 h
  refine V_aload_n C dL_law_136 rfl ?_
  refine V_aload_n C dL_law_137 rfl ?_
  refine V_iload_n C dL_law_138 rfl ?_
  refine V_iconst C dL_law_139 ?_
  refine V_iadd C dL_law_140 ?_
  refine V_sld C X (by omega) dL_law_141 ?_
  refine V_callV C lk_L_13 M1 dL_law_142 rfl rfl he rfl (by decide) (Nat.le_of_ble_eq_true rfl) (fun r cs1 q1 => ?_)
  obtain ⟨z, rfl, ⟨fs1, he1⟩, Q2, M2, k2⟩ := k1 r cs1 q1
  show V G E 145 [some (.ref b), some (.ref (G.ad 34)), some (.ref (G.ad 57)), some (.int (iI i))] [.int (iI z)] cs1
  refine V_aload_n C dL_law_145 rfl ?_
  refine V_aload_n C dL_law_146 rfl ?_
  refine V_iload_n C dL_law_147 rfl ?_
  refine V_iconst C dL_law_148 ?_
  refine V_iadd C dL_law_149 ?_
  refine V_sld C X (by omega) dL_law_150 ?_
  refine V_callV C lk_L_17 M2 dL_law_151 rfl rfl he1 rfl (by decide) (Nat.le_of_ble_eq_true rfl) (fun r2 cs2 q2 => ?_)
  obtain ⟨rfl, hI2⟩ := k2 r2 cs2 q2
  show V G E 154 [some (.ref b), some (.ref (G.ad 34)), some (.ref (G.ad 57)), some (.int (iI i))] [.int (iI z), .int (iI z)] cs2
  exact V_icmp_same (tgt := 862) C dL_law_154 (by decide) (K cs2 hI2)
set_option maxRecDepth 100000 in
theorem lc_line (C : zC G E RL cL_law 4 11 300) (X : lwE E b L xs) (hi : 0 ≤ i ∧ i + 6 ≤ L) (h : Inv G cs) (K : ∀ cs', Inv G cs' → V G E 862 [some (.ref b), some (.ref (G.ad 34)), some (.ref (G.ad 57)), some (.int (iI i))] [] cs') : V G E 159 [some (.ref b), some (.ref (G.ad 34)), some (.ref (G.ad 57)), some (.int (iI i))] [] cs := by
  have hL := X.2.2.2
  obtain ⟨Q1, M1, k1⟩ := pr_line h 
  obtain ⟨fs, he⟩ := Inv_34 h
  refine V_aload_n C dL_law_159 rfl ?_
  refine V_callV C lk_L_18 M1 dL_law_160 rfl rfl he rfl (by decide) (Nat.le_of_ble_eq_true rfl) (fun r cs1 q1 => ?_)
  obtain ⟨z, rfl, ⟨fs1, he1⟩, Q2, M2, k2⟩ := k1 r cs1 q1
  show V G E 163 [some (.ref b), some (.ref (G.ad 34)), some (.ref (G.ad 57)), some (.int (iI i))] [.int (iI z)] cs1
  refine V_aload_n C dL_law_163 rfl ?_
  refine V_callV C lk_L_22 M2 dL_law_164 rfl rfl he1 rfl (by decide) (Nat.le_of_ble_eq_true rfl) (fun r2 cs2 q2 => ?_)
  obtain ⟨rfl, hI2⟩ := k2 r2 cs2 q2
  show V G E 167 [some (.ref b), some (.ref (G.ad 34)), some (.ref (G.ad 57)), some (.int (iI i))] [.int (iI z), .int (iI z)] cs2
  exact V_icmp_same (tgt := 862) C dL_law_167 (by decide) (K cs2 hI2)
set_option maxRecDepth 100000 in
theorem lc_letter (C : zC G E RL cL_law 4 11 300) (X : lwE E b L xs) (hi : 0 ≤ i ∧ i + 6 ≤ L) (h : Inv G cs) (K : ∀ cs', Inv G cs' → V G E 862 [some (.ref b), some (.ref (G.ad 34)), some (.ref (G.ad 57)), some (.int (iI i))] [] cs') : V G E 172 [some (.ref b), some (.ref (G.ad 34)), some (.ref (G.ad 57)), some (.int (iI i))] [] cs := by
  have hL := X.2.2.2
  obtain ⟨Q1, M1, k1⟩ := pr_letter h (sx_rng xs (i + 1))
  obtain ⟨fs, he⟩ := Inv_34 h
  refine V_aload_n C dL_law_172 rfl ?_
  refine V_aload_n C dL_law_173 rfl ?_
  refine V_iload_n C dL_law_174 rfl ?_
  refine V_iconst C dL_law_175 ?_
  refine V_iadd C dL_law_176 ?_
  refine V_sld C X (by omega) dL_law_177 ?_
  refine V_callV C lk_L_23 M1 dL_law_178 rfl rfl he rfl (by decide) (Nat.le_of_ble_eq_true rfl) (fun r cs1 q1 => ?_)
  obtain ⟨z, rfl, ⟨fs1, he1⟩, Q2, M2, k2⟩ := k1 r cs1 q1
  show V G E 181 [some (.ref b), some (.ref (G.ad 34)), some (.ref (G.ad 57)), some (.int (iI i))] [.int (iI z)] cs1
  refine V_aload_n C dL_law_181 rfl ?_
  refine V_aload_n C dL_law_182 rfl ?_
  refine V_iload_n C dL_law_183 rfl ?_
  refine V_iconst C dL_law_184 ?_
  refine V_iadd C dL_law_185 ?_
  refine V_sld C X (by omega) dL_law_186 ?_
  refine V_callV C lk_L_26 M2 dL_law_187 rfl rfl he1 rfl (by decide) (Nat.le_of_ble_eq_true rfl) (fun r2 cs2 q2 => ?_)
  obtain ⟨rfl, hI2⟩ := k2 r2 cs2 q2
  show V G E 190 [some (.ref b), some (.ref (G.ad 34)), some (.ref (G.ad 57)), some (.int (iI i))] [.int (iI z), .int (iI z)] cs2
  exact V_icmp_same (tgt := 862) C dL_law_190 (by decide) (K cs2 hI2)
set_option maxRecDepth 100000 in
theorem lc_store (C : zC G E RL cL_law 4 11 300) (X : lwE E b L xs) (hi : 0 ≤ i ∧ i + 6 ≤ L) (h : Inv G cs) (K : ∀ cs', Inv G cs' → V G E 862 [some (.ref b), some (.ref (G.ad 34)), some (.ref (G.ad 57)), some (.int (iI i))] [] cs') : V G E 195 [some (.ref b), some (.ref (G.ad 34)), some (.ref (G.ad 57)), some (.int (iI i))] [] cs := by
  have hL := X.2.2.2
  obtain ⟨Q1, M1, k1⟩ := pr_store h (sx_rng xs (i + 1))
  obtain ⟨fs, he⟩ := Inv_34 h
  refine V_aload_n C dL_law_195 rfl ?_
  refine V_aload_n C dL_law_196 rfl ?_
  refine V_iload_n C dL_law_197 rfl ?_
  refine V_iconst C dL_law_198 ?_
  refine V_iadd C dL_law_199 ?_
  refine V_sld C X (by omega) dL_law_200 ?_
  refine V_callV C lk_L_27 M1 dL_law_201 rfl rfl he rfl (by decide) (Nat.le_of_ble_eq_true rfl) (fun r cs1 q1 => ?_)
  obtain ⟨z, rfl, ⟨fs1, he1⟩, Q2, M2, k2⟩ := k1 r cs1 q1
  show V G E 204 [some (.ref b), some (.ref (G.ad 34)), some (.ref (G.ad 57)), some (.int (iI i))] [.int (iI z)] cs1
  refine V_aload_n C dL_law_204 rfl ?_
  refine V_aload_n C dL_law_205 rfl ?_
  refine V_iload_n C dL_law_206 rfl ?_
  refine V_iconst C dL_law_207 ?_
  refine V_iadd C dL_law_208 ?_
  refine V_sld C X (by omega) dL_law_209 ?_
  refine V_callV C lk_L_30 M2 dL_law_210 rfl rfl he1 rfl (by decide) (Nat.le_of_ble_eq_true rfl) (fun r2 cs2 q2 => ?_)
  obtain ⟨rfl, hI2⟩ := k2 r2 cs2 q2
  show V G E 213 [some (.ref b), some (.ref (G.ad 34)), some (.ref (G.ad 57)), some (.int (iI i))] [.int (iI z), .int (iI z)] cs2
  exact V_icmp_same (tgt := 862) C dL_law_213 (by decide) (K cs2 hI2)
set_option maxRecDepth 100000 in
theorem lc_mark (C : zC G E RL cL_law 4 11 300) (X : lwE E b L xs) (hi : 0 ≤ i ∧ i + 6 ≤ L) (h : Inv G cs) (K : ∀ cs', Inv G cs' → V G E 862 [some (.ref b), some (.ref (G.ad 34)), some (.ref (G.ad 57)), some (.int (iI i))] [] cs') : V G E 218 [some (.ref b), some (.ref (G.ad 34)), some (.ref (G.ad 57)), some (.int (iI i))] [] cs := by
  have hL := X.2.2.2
  obtain ⟨Q1, M1, k1⟩ := pr_mark h (sx_rng xs (i + 1))
  obtain ⟨fs, he⟩ := Inv_34 h
  refine V_aload_n C dL_law_218 rfl ?_
  refine V_aload_n C dL_law_219 rfl ?_
  refine V_iload_n C dL_law_220 rfl ?_
  refine V_iconst C dL_law_221 ?_
  refine V_iadd C dL_law_222 ?_
  refine V_sld C X (by omega) dL_law_223 ?_
  refine V_callV C lk_L_31 M1 dL_law_224 rfl rfl he rfl (by decide) (Nat.le_of_ble_eq_true rfl) (fun r cs1 q1 => ?_)
  obtain ⟨z, rfl, ⟨fs1, he1⟩, Q2, M2, k2⟩ := k1 r cs1 q1
  show V G E 227 [some (.ref b), some (.ref (G.ad 34)), some (.ref (G.ad 57)), some (.int (iI i))] [.int (iI z)] cs1
  refine V_aload_n C dL_law_227 rfl ?_
  refine V_aload_n C dL_law_228 rfl ?_
  refine V_iload_n C dL_law_229 rfl ?_
  refine V_iconst C dL_law_230 ?_
  refine V_iadd C dL_law_231 ?_
  refine V_sld C X (by omega) dL_law_232 ?_
  refine V_callV C lk_L_34 M2 dL_law_233 rfl rfl he1 rfl (by decide) (Nat.le_of_ble_eq_true rfl) (fun r2 cs2 q2 => ?_)
  obtain ⟨rfl, hI2⟩ := k2 r2 cs2 q2
  show V G E 236 [some (.ref b), some (.ref (G.ad 34)), some (.ref (G.ad 57)), some (.int (iI i))] [.int (iI z), .int (iI z)] cs2
  exact V_icmp_same (tgt := 862) C dL_law_236 (by decide) (K cs2 hI2)
set_option maxRecDepth 100000 in
theorem lc_count (C : zC G E RL cL_law 4 11 300) (X : lwE E b L xs) (hi : 0 ≤ i ∧ i + 6 ≤ L) (h : Inv G cs) (K : ∀ cs', Inv G cs' → V G E 862 [some (.ref b), some (.ref (G.ad 34)), some (.ref (G.ad 57)), some (.int (iI i))] [] cs') : V G E 241 [some (.ref b), some (.ref (G.ad 34)), some (.ref (G.ad 57)), some (.int (iI i))] [] cs := by
  have hL := X.2.2.2
  obtain ⟨Q1, M1, k1⟩ := pr_count h (sx_rng xs (i + 1))
  obtain ⟨fs, he⟩ := Inv_34 h
  refine V_aload_n C dL_law_241 rfl ?_
  refine V_aload_n C dL_law_242 rfl ?_
  refine V_iload_n C dL_law_243 rfl ?_
  refine V_iconst C dL_law_244 ?_
  refine V_iadd C dL_law_245 ?_
  refine V_sld C X (by omega) dL_law_246 ?_
  refine V_callV C lk_L_35 M1 dL_law_247 rfl rfl he rfl (by decide) (Nat.le_of_ble_eq_true rfl) (fun r cs1 q1 => ?_)
  obtain ⟨z, rfl, ⟨fs1, he1⟩, Q2, M2, k2⟩ := k1 r cs1 q1
  show V G E 250 [some (.ref b), some (.ref (G.ad 34)), some (.ref (G.ad 57)), some (.int (iI i))] [.int (iI z)] cs1
  refine V_aload_n C dL_law_250 rfl ?_
  refine V_aload_n C dL_law_251 rfl ?_
  refine V_iload_n C dL_law_252 rfl ?_
  refine V_iconst C dL_law_253 ?_
  refine V_iadd C dL_law_254 ?_
  refine V_sld C X (by omega) dL_law_255 ?_
  refine V_callV C lk_L_38 M2 dL_law_256 rfl rfl he1 rfl (by decide) (Nat.le_of_ble_eq_true rfl) (fun r2 cs2 q2 => ?_)
  obtain ⟨rfl, hI2⟩ := k2 r2 cs2 q2
  show V G E 259 [some (.ref b), some (.ref (G.ad 34)), some (.ref (G.ad 57)), some (.int (iI i))] [.int (iI z), .int (iI z)] cs2
  exact V_icmp_same (tgt := 862) C dL_law_259 (by decide) (K cs2 hI2)
set_option maxRecDepth 100000 in
theorem lc_key (C : zC G E RL cL_law 4 11 300) (X : lwE E b L xs) (hi : 0 ≤ i ∧ i + 6 ≤ L) (h : Inv G cs) (K : ∀ cs', Inv G cs' → V G E 862 [some (.ref b), some (.ref (G.ad 34)), some (.ref (G.ad 57)), some (.int (iI i))] [] cs') : V G E 264 [some (.ref b), some (.ref (G.ad 34)), some (.ref (G.ad 57)), some (.int (iI i))] [] cs := by
  have hL := X.2.2.2
  obtain ⟨Q1, M1, k1⟩ := pr_key h (sx_rng xs (i + 1))
  obtain ⟨fs, he⟩ := Inv_34 h
  refine V_aload_n C dL_law_264 rfl ?_
  refine V_aload_n C dL_law_265 rfl ?_
  refine V_iload_n C dL_law_266 rfl ?_
  refine V_iconst C dL_law_267 ?_
  refine V_iadd C dL_law_268 ?_
  refine V_sld C X (by omega) dL_law_269 ?_
  refine V_callV C lk_L_39 M1 dL_law_270 rfl rfl he rfl (by decide) (Nat.le_of_ble_eq_true rfl) (fun r cs1 q1 => ?_)
  obtain ⟨z, rfl, ⟨fs1, he1⟩, Q2, M2, k2⟩ := k1 r cs1 q1
  show V G E 273 [some (.ref b), some (.ref (G.ad 34)), some (.ref (G.ad 57)), some (.int (iI i))] [.int (iI z)] cs1
  refine V_aload_n C dL_law_273 rfl ?_
  refine V_aload_n C dL_law_274 rfl ?_
  refine V_iload_n C dL_law_275 rfl ?_
  refine V_iconst C dL_law_276 ?_
  refine V_iadd C dL_law_277 ?_
  refine V_sld C X (by omega) dL_law_278 ?_
  refine V_callV C lk_L_42 M2 dL_law_279 rfl rfl he1 rfl (by decide) (Nat.le_of_ble_eq_true rfl) (fun r2 cs2 q2 => ?_)
  obtain ⟨rfl, hI2⟩ := k2 r2 cs2 q2
  show V G E 282 [some (.ref b), some (.ref (G.ad 34)), some (.ref (G.ad 57)), some (.int (iI i))] [.int (iI z), .int (iI z)] cs2
  exact V_icmp_same (tgt := 862) C dL_law_282 (by decide) (K cs2 hI2)
set_option maxRecDepth 100000 in
theorem lc_price (C : zC G E RL cL_law 4 11 300) (X : lwE E b L xs) (hi : 0 ≤ i ∧ i + 6 ≤ L) (h : Inv G cs) (K : ∀ cs', Inv G cs' → V G E 862 [some (.ref b), some (.ref (G.ad 34)), some (.ref (G.ad 57)), some (.int (iI i))] [] cs') : V G E 287 [some (.ref b), some (.ref (G.ad 34)), some (.ref (G.ad 57)), some (.int (iI i))] [] cs := by
  have hL := X.2.2.2
  obtain ⟨Q1, M1, k1⟩ := pr_price h (sx_rng xs (i + 1)) (sx_rng xs (i + 2))
  obtain ⟨fs, he⟩ := Inv_34 h
  refine V_aload_n C dL_law_287 rfl ?_
  refine V_aload_n C dL_law_288 rfl ?_
  refine V_iload_n C dL_law_289 rfl ?_
  refine V_iconst C dL_law_290 ?_
  refine V_iadd C dL_law_291 ?_
  refine V_sld C X (by omega) dL_law_292 ?_
  refine V_aload_n C dL_law_293 rfl ?_
  refine V_iload_n C dL_law_294 rfl ?_
  refine V_iconst C dL_law_295 ?_
  refine V_iadd C dL_law_296 ?_
  refine V_sld C X (by omega) dL_law_297 ?_
  refine V_callV C lk_L_43 M1 dL_law_298 rfl rfl he rfl (by decide) (Nat.le_of_ble_eq_true rfl) (fun r cs1 q1 => ?_)
  obtain ⟨z, rfl, ⟨fs1, he1⟩, Q2, M2, k2⟩ := k1 r cs1 q1
  show V G E 301 [some (.ref b), some (.ref (G.ad 34)), some (.ref (G.ad 57)), some (.int (iI i))] [.int (iI z)] cs1
  refine V_aload_n C dL_law_301 rfl ?_
  refine V_aload_n C dL_law_302 rfl ?_
  refine V_iload_n C dL_law_303 rfl ?_
  refine V_iconst C dL_law_304 ?_
  refine V_iadd C dL_law_305 ?_
  refine V_sld C X (by omega) dL_law_306 ?_
  refine V_aload_n C dL_law_307 rfl ?_
  refine V_iload_n C dL_law_308 rfl ?_
  refine V_iconst C dL_law_309 ?_
  refine V_iadd C dL_law_310 ?_
  refine V_sld C X (by omega) dL_law_311 ?_
  refine V_callV C lk_L_47 M2 dL_law_312 rfl rfl he1 rfl (by decide) (Nat.le_of_ble_eq_true rfl) (fun r2 cs2 q2 => ?_)
  obtain ⟨rfl, hI2⟩ := k2 r2 cs2 q2
  show V G E 315 [some (.ref b), some (.ref (G.ad 34)), some (.ref (G.ad 57)), some (.int (iI i))] [.int (iI z), .int (iI z)] cs2
  exact V_icmp_same (tgt := 862) C dL_law_315 (by decide) (K cs2 hI2)
set_option maxRecDepth 100000 in
theorem lc_leads (C : zC G E RL cL_law 4 11 300) (X : lwE E b L xs) (hi : 0 ≤ i ∧ i + 6 ≤ L) (h : Inv G cs) (K : ∀ cs', Inv G cs' → V G E 862 [some (.ref b), some (.ref (G.ad 34)), some (.ref (G.ad 57)), some (.int (iI i))] [] cs') : V G E 320 [some (.ref b), some (.ref (G.ad 34)), some (.ref (G.ad 57)), some (.int (iI i))] [] cs := by
  have hL := X.2.2.2
  obtain ⟨Q1, M1, k1⟩ := pr_leads h (sx_rng xs (i + 1)) (sx_rng xs (i + 2))
  obtain ⟨fs, he⟩ := Inv_34 h
  refine V_aload_n C dL_law_320 rfl ?_
  refine V_aload_n C dL_law_321 rfl ?_
  refine V_iload_n C dL_law_322 rfl ?_
  refine V_iconst C dL_law_323 ?_
  refine V_iadd C dL_law_324 ?_
  refine V_sld C X (by omega) dL_law_325 ?_
  refine V_aload_n C dL_law_326 rfl ?_
  refine V_iload_n C dL_law_327 rfl ?_
  refine V_iconst C dL_law_328 ?_
  refine V_iadd C dL_law_329 ?_
  refine V_sld C X (by omega) dL_law_330 ?_
  refine V_callV C lk_L_48 M1 dL_law_331 rfl rfl he rfl (by decide) (Nat.le_of_ble_eq_true rfl) (fun r cs1 q1 => ?_)
  obtain ⟨z, rfl, ⟨fs1, he1⟩, Q2, M2, k2⟩ := k1 r cs1 q1
  show V G E 334 [some (.ref b), some (.ref (G.ad 34)), some (.ref (G.ad 57)), some (.int (iI i))] [.int (iI z)] cs1
  refine V_aload_n C dL_law_334 rfl ?_
  refine V_aload_n C dL_law_335 rfl ?_
  refine V_iload_n C dL_law_336 rfl ?_
  refine V_iconst C dL_law_337 ?_
  refine V_iadd C dL_law_338 ?_
  refine V_sld C X (by omega) dL_law_339 ?_
  refine V_aload_n C dL_law_340 rfl ?_
  refine V_iload_n C dL_law_341 rfl ?_
  refine V_iconst C dL_law_342 ?_
  refine V_iadd C dL_law_343 ?_
  refine V_sld C X (by omega) dL_law_344 ?_
  refine V_callV C lk_L_51 M2 dL_law_345 rfl rfl he1 rfl (by decide) (Nat.le_of_ble_eq_true rfl) (fun r2 cs2 q2 => ?_)
  obtain ⟨rfl, hI2⟩ := k2 r2 cs2 q2
  show V G E 348 [some (.ref b), some (.ref (G.ad 34)), some (.ref (G.ad 57)), some (.int (iI i))] [.int (iI z), .int (iI z)] cs2
  exact V_icmp_same (tgt := 862) C dL_law_348 (by decide) (K cs2 hI2)
set_option maxRecDepth 100000 in
theorem lc_steps (C : zC G E RL cL_law 4 11 300) (X : lwE E b L xs) (hi : 0 ≤ i ∧ i + 6 ≤ L) (h : Inv G cs) (K : ∀ cs', Inv G cs' → V G E 862 [some (.ref b), some (.ref (G.ad 34)), some (.ref (G.ad 57)), some (.int (iI i))] [] cs') : V G E 353 [some (.ref b), some (.ref (G.ad 34)), some (.ref (G.ad 57)), some (.int (iI i))] [] cs := by
  have hL := X.2.2.2
  obtain ⟨Q1, M1, k1⟩ := pr_steps h (sx_rng xs (i + 1)) (sx_rng xs (i + 2))
  obtain ⟨fs, he⟩ := Inv_34 h
  refine V_aload_n C dL_law_353 rfl ?_
  refine V_aload_n C dL_law_354 rfl ?_
  refine V_iload_n C dL_law_355 rfl ?_
  refine V_iconst C dL_law_356 ?_
  refine V_iadd C dL_law_357 ?_
  refine V_sld C X (by omega) dL_law_358 ?_
  refine V_aload_n C dL_law_359 rfl ?_
  refine V_iload_n C dL_law_360 rfl ?_
  refine V_iconst C dL_law_361 ?_
  refine V_iadd C dL_law_362 ?_
  refine V_sld C X (by omega) dL_law_363 ?_
  refine V_callV C lk_L_52 M1 dL_law_364 rfl rfl he rfl (by decide) (Nat.le_of_ble_eq_true rfl) (fun r cs1 q1 => ?_)
  obtain ⟨z, rfl, ⟨fs1, he1⟩, Q2, M2, k2⟩ := k1 r cs1 q1
  show V G E 367 [some (.ref b), some (.ref (G.ad 34)), some (.ref (G.ad 57)), some (.int (iI i))] [.int (iI z)] cs1
  refine V_aload_n C dL_law_367 rfl ?_
  refine V_aload_n C dL_law_368 rfl ?_
  refine V_iload_n C dL_law_369 rfl ?_
  refine V_iconst C dL_law_370 ?_
  refine V_iadd C dL_law_371 ?_
  refine V_sld C X (by omega) dL_law_372 ?_
  refine V_aload_n C dL_law_373 rfl ?_
  refine V_iload_n C dL_law_374 rfl ?_
  refine V_iconst C dL_law_375 ?_
  refine V_iadd C dL_law_376 ?_
  refine V_sld C X (by omega) dL_law_377 ?_
  refine V_callV C lk_L_55 M2 dL_law_378 rfl rfl he1 rfl (by decide) (Nat.le_of_ble_eq_true rfl) (fun r2 cs2 q2 => ?_)
  obtain ⟨rfl, hI2⟩ := k2 r2 cs2 q2
  show V G E 381 [some (.ref b), some (.ref (G.ad 34)), some (.ref (G.ad 57)), some (.int (iI i))] [.int (iI z), .int (iI z)] cs2
  exact V_icmp_same (tgt := 862) C dL_law_381 (by decide) (K cs2 hI2)
set_option maxRecDepth 100000 in
theorem lc_farthest (C : zC G E RL cL_law 4 11 300) (X : lwE E b L xs) (hi : 0 ≤ i ∧ i + 6 ≤ L) (h : Inv G cs) (K : ∀ cs', Inv G cs' → V G E 862 [some (.ref b), some (.ref (G.ad 34)), some (.ref (G.ad 57)), some (.int (iI i))] [] cs') : V G E 386 [some (.ref b), some (.ref (G.ad 34)), some (.ref (G.ad 57)), some (.int (iI i))] [] cs := by
  have hL := X.2.2.2
  obtain ⟨Q1, M1, k1⟩ := pr_farthest h (sx_rng xs (i + 1))
  obtain ⟨fs, he⟩ := Inv_34 h
  refine V_aload_n C dL_law_386 rfl ?_
  refine V_aload_n C dL_law_387 rfl ?_
  refine V_iload_n C dL_law_388 rfl ?_
  refine V_iconst C dL_law_389 ?_
  refine V_iadd C dL_law_390 ?_
  refine V_sld C X (by omega) dL_law_391 ?_
  refine V_callV C lk_L_56 M1 dL_law_392 rfl rfl he rfl (by decide) (Nat.le_of_ble_eq_true rfl) (fun r cs1 q1 => ?_)
  obtain ⟨z, rfl, ⟨fs1, he1⟩, Q2, M2, k2⟩ := k1 r cs1 q1
  show V G E 395 [some (.ref b), some (.ref (G.ad 34)), some (.ref (G.ad 57)), some (.int (iI i))] [.int (iI z)] cs1
  refine V_aload_n C dL_law_395 rfl ?_
  refine V_aload_n C dL_law_396 rfl ?_
  refine V_iload_n C dL_law_397 rfl ?_
  refine V_iconst C dL_law_398 ?_
  refine V_iadd C dL_law_399 ?_
  refine V_sld C X (by omega) dL_law_400 ?_
  refine V_callV C lk_L_59 M2 dL_law_401 rfl rfl he1 rfl (by decide) (Nat.le_of_ble_eq_true rfl) (fun r2 cs2 q2 => ?_)
  obtain ⟨rfl, hI2⟩ := k2 r2 cs2 q2
  show V G E 404 [some (.ref b), some (.ref (G.ad 34)), some (.ref (G.ad 57)), some (.int (iI i))] [.int (iI z), .int (iI z)] cs2
  exact V_icmp_same (tgt := 862) C dL_law_404 (by decide) (K cs2 hI2)
set_option maxRecDepth 100000 in
theorem lc_once (C : zC G E RL cL_law 4 11 300) (X : lwE E b L xs) (hi : 0 ≤ i ∧ i + 6 ≤ L) (h : Inv G cs) (K : ∀ cs', Inv G cs' → V G E 862 [some (.ref b), some (.ref (G.ad 34)), some (.ref (G.ad 57)), some (.int (iI i))] [] cs') : V G E 409 [some (.ref b), some (.ref (G.ad 34)), some (.ref (G.ad 57)), some (.int (iI i))] [] cs := by
  have hL := X.2.2.2
  obtain ⟨Q1, M1, k1⟩ := pr_once h (sx_rng xs (i + 1))
  obtain ⟨fs, he⟩ := Inv_34 h
  refine V_aload_n C dL_law_409 rfl ?_
  refine V_aload_n C dL_law_410 rfl ?_
  refine V_iload_n C dL_law_411 rfl ?_
  refine V_iconst C dL_law_412 ?_
  refine V_iadd C dL_law_413 ?_
  refine V_sld C X (by omega) dL_law_414 ?_
  refine V_callV C lk_L_60 M1 dL_law_415 rfl rfl he rfl (by decide) (Nat.le_of_ble_eq_true rfl) (fun r cs1 q1 => ?_)
  obtain ⟨z, rfl, ⟨fs1, he1⟩, Q2, M2, k2⟩ := k1 r cs1 q1
  show V G E 418 [some (.ref b), some (.ref (G.ad 34)), some (.ref (G.ad 57)), some (.int (iI i))] [.int (iI z)] cs1
  refine V_aload_n C dL_law_418 rfl ?_
  refine V_aload_n C dL_law_419 rfl ?_
  refine V_iload_n C dL_law_420 rfl ?_
  refine V_iconst C dL_law_421 ?_
  refine V_iadd C dL_law_422 ?_
  refine V_sld C X (by omega) dL_law_423 ?_
  refine V_callV C lk_L_63 M2 dL_law_424 rfl rfl he1 rfl (by decide) (Nat.le_of_ble_eq_true rfl) (fun r2 cs2 q2 => ?_)
  obtain ⟨rfl, hI2⟩ := k2 r2 cs2 q2
  show V G E 427 [some (.ref b), some (.ref (G.ad 34)), some (.ref (G.ad 57)), some (.int (iI i))] [.int (iI z), .int (iI z)] cs2
  exact V_icmp_same (tgt := 862) C dL_law_427 (by decide) (K cs2 hI2)
set_option maxRecDepth 100000 in
theorem lc_goes (C : zC G E RL cL_law 4 11 300) (X : lwE E b L xs) (hi : 0 ≤ i ∧ i + 6 ≤ L) (h : Inv G cs) (K : ∀ cs', Inv G cs' → V G E 862 [some (.ref b), some (.ref (G.ad 34)), some (.ref (G.ad 57)), some (.int (iI i))] [] cs') : V G E 432 [some (.ref b), some (.ref (G.ad 34)), some (.ref (G.ad 57)), some (.int (iI i))] [] cs := by
  have hL := X.2.2.2
  obtain ⟨Q1, M1, k1⟩ := pr_goes h (sx_rng xs (i + 1)) (sx_rng xs (i + 2))
  obtain ⟨fs, he⟩ := Inv_34 h
  refine V_aload_n C dL_law_432 rfl ?_
  refine V_aload_n C dL_law_433 rfl ?_
  refine V_iload_n C dL_law_434 rfl ?_
  refine V_iconst C dL_law_435 ?_
  refine V_iadd C dL_law_436 ?_
  refine V_sld C X (by omega) dL_law_437 ?_
  refine V_aload_n C dL_law_438 rfl ?_
  refine V_iload_n C dL_law_439 rfl ?_
  refine V_iconst C dL_law_440 ?_
  refine V_iadd C dL_law_441 ?_
  refine V_sld C X (by omega) dL_law_442 ?_
  refine V_callV C lk_L_64 M1 dL_law_443 rfl rfl he rfl (by decide) (Nat.le_of_ble_eq_true rfl) (fun r cs1 q1 => ?_)
  obtain ⟨z, rfl, ⟨fs1, he1⟩, Q2, M2, k2⟩ := k1 r cs1 q1
  show V G E 446 [some (.ref b), some (.ref (G.ad 34)), some (.ref (G.ad 57)), some (.int (iI i))] [.int (iI z)] cs1
  refine V_aload_n C dL_law_446 rfl ?_
  refine V_aload_n C dL_law_447 rfl ?_
  refine V_iload_n C dL_law_448 rfl ?_
  refine V_iconst C dL_law_449 ?_
  refine V_iadd C dL_law_450 ?_
  refine V_sld C X (by omega) dL_law_451 ?_
  refine V_aload_n C dL_law_452 rfl ?_
  refine V_iload_n C dL_law_453 rfl ?_
  refine V_iconst C dL_law_454 ?_
  refine V_iadd C dL_law_455 ?_
  refine V_sld C X (by omega) dL_law_456 ?_
  refine V_callV C lk_L_67 M2 dL_law_457 rfl rfl he1 rfl (by decide) (Nat.le_of_ble_eq_true rfl) (fun r2 cs2 q2 => ?_)
  obtain ⟨rfl, hI2⟩ := k2 r2 cs2 q2
  show V G E 460 [some (.ref b), some (.ref (G.ad 34)), some (.ref (G.ad 57)), some (.int (iI i))] [.int (iI z), .int (iI z)] cs2
  exact V_icmp_same (tgt := 862) C dL_law_460 (by decide) (K cs2 hI2)
set_option maxRecDepth 100000 in
theorem lc_struck (C : zC G E RL cL_law 4 11 300) (X : lwE E b L xs) (hi : 0 ≤ i ∧ i + 6 ≤ L) (h : Inv G cs) (K : ∀ cs', Inv G cs' → V G E 862 [some (.ref b), some (.ref (G.ad 34)), some (.ref (G.ad 57)), some (.int (iI i))] [] cs') : V G E 465 [some (.ref b), some (.ref (G.ad 34)), some (.ref (G.ad 57)), some (.int (iI i))] [] cs := by
  have hL := X.2.2.2
  obtain ⟨Q1, M1, k1⟩ := pr_struck h (sx_rng xs (i + 1)) (sx_rng xs (i + 2)) (sx_rng xs (i + 3))
  obtain ⟨fs, he⟩ := Inv_34 h
  refine V_aload_n C dL_law_465 rfl ?_
  refine V_aload_n C dL_law_466 rfl ?_
  refine V_iload_n C dL_law_467 rfl ?_
  refine V_iconst C dL_law_468 ?_
  refine V_iadd C dL_law_469 ?_
  refine V_sld C X (by omega) dL_law_470 ?_
  refine V_aload_n C dL_law_471 rfl ?_
  refine V_iload_n C dL_law_472 rfl ?_
  refine V_iconst C dL_law_473 ?_
  refine V_iadd C dL_law_474 ?_
  refine V_sld C X (by omega) dL_law_475 ?_
  refine V_aload_n C dL_law_476 rfl ?_
  refine V_iload_n C dL_law_477 rfl ?_
  refine V_iconst C dL_law_478 ?_
  refine V_iadd C dL_law_479 ?_
  refine V_sld C X (by omega) dL_law_480 ?_
  refine V_callV C lk_L_68 M1 dL_law_481 rfl rfl he rfl (by decide) (Nat.le_of_ble_eq_true rfl) (fun r cs1 q1 => ?_)
  obtain ⟨z, rfl, ⟨fs1, he1⟩, Q2, M2, k2⟩ := k1 r cs1 q1
  show V G E 484 [some (.ref b), some (.ref (G.ad 34)), some (.ref (G.ad 57)), some (.int (iI i))] [.int (iI z)] cs1
  refine V_aload_n C dL_law_484 rfl ?_
  refine V_aload_n C dL_law_485 rfl ?_
  refine V_iload_n C dL_law_486 rfl ?_
  refine V_iconst C dL_law_487 ?_
  refine V_iadd C dL_law_488 ?_
  refine V_sld C X (by omega) dL_law_489 ?_
  refine V_aload_n C dL_law_490 rfl ?_
  refine V_iload_n C dL_law_491 rfl ?_
  refine V_iconst C dL_law_492 ?_
  refine V_iadd C dL_law_493 ?_
  refine V_sld C X (by omega) dL_law_494 ?_
  refine V_aload_n C dL_law_495 rfl ?_
  refine V_iload_n C dL_law_496 rfl ?_
  refine V_iconst C dL_law_497 ?_
  refine V_iadd C dL_law_498 ?_
  refine V_sld C X (by omega) dL_law_499 ?_
  refine V_callV C lk_L_72 M2 dL_law_500 rfl rfl he1 rfl (by decide) (Nat.le_of_ble_eq_true rfl) (fun r2 cs2 q2 => ?_)
  obtain ⟨rfl, hI2⟩ := k2 r2 cs2 q2
  show V G E 503 [some (.ref b), some (.ref (G.ad 34)), some (.ref (G.ad 57)), some (.int (iI i))] [.int (iI z), .int (iI z)] cs2
  exact V_icmp_same (tgt := 862) C dL_law_503 (by decide) (K cs2 hI2)
set_option maxRecDepth 100000 in
theorem lc_image (C : zC G E RL cL_law 4 11 300) (X : lwE E b L xs) (hi : 0 ≤ i ∧ i + 6 ≤ L) (h : Inv G cs) (K : ∀ cs', Inv G cs' → V G E 862 [some (.ref b), some (.ref (G.ad 34)), some (.ref (G.ad 57)), some (.int (iI i))] [] cs') : V G E 508 [some (.ref b), some (.ref (G.ad 34)), some (.ref (G.ad 57)), some (.int (iI i))] [] cs := by
  have hL := X.2.2.2
  obtain ⟨Q1, M1, k1⟩ := pr_image h 
  obtain ⟨fs, he⟩ := Inv_34 h
  refine V_aload_n C dL_law_508 rfl ?_
  refine V_callV C lk_L_73 M1 dL_law_509 rfl rfl he rfl (by decide) (Nat.le_of_ble_eq_true rfl) (fun r cs1 q1 => ?_)
  obtain ⟨z, rfl, ⟨fs1, he1⟩, Q2, M2, k2⟩ := k1 r cs1 q1
  show V G E 512 [some (.ref b), some (.ref (G.ad 34)), some (.ref (G.ad 57)), some (.int (iI i))] [.int (iI z)] cs1
  refine V_aload_n C dL_law_512 rfl ?_
  refine V_callV C lk_L_76 M2 dL_law_513 rfl rfl he1 rfl (by decide) (Nat.le_of_ble_eq_true rfl) (fun r2 cs2 q2 => ?_)
  obtain ⟨rfl, hI2⟩ := k2 r2 cs2 q2
  show V G E 516 [some (.ref b), some (.ref (G.ad 34)), some (.ref (G.ad 57)), some (.int (iI i))] [.int (iI z), .int (iI z)] cs2
  exact V_icmp_same (tgt := 862) C dL_law_516 (by decide) (K cs2 hI2)
set_option maxRecDepth 100000 in
theorem lc_restore (C : zC G E RL cL_law 4 11 300) (X : lwE E b L xs) (hi : 0 ≤ i ∧ i + 6 ≤ L) (h : Inv G cs) (K : ∀ cs', Inv G cs' → V G E 862 [some (.ref b), some (.ref (G.ad 34)), some (.ref (G.ad 57)), some (.int (iI i))] [] cs') : V G E 521 [some (.ref b), some (.ref (G.ad 34)), some (.ref (G.ad 57)), some (.int (iI i))] [] cs := by
  have hL := X.2.2.2
  obtain ⟨Q1, M1, k1⟩ := pr_restore h 
  obtain ⟨fs, he⟩ := Inv_34 h
  refine V_aload_n C dL_law_521 rfl ?_
  refine V_callV C lk_L_77 M1 dL_law_522 rfl rfl he rfl (by decide) (Nat.le_of_ble_eq_true rfl) (fun r cs1 q1 => ?_)
  obtain ⟨z, rfl, ⟨fs1, he1⟩, Q2, M2, k2⟩ := k1 r cs1 q1
  show V G E 525 [some (.ref b), some (.ref (G.ad 34)), some (.ref (G.ad 57)), some (.int (iI i))] [.int (iI z)] cs1
  refine V_aload_n C dL_law_525 rfl ?_
  refine V_callV C lk_L_80 M2 dL_law_526 rfl rfl he1 rfl (by decide) (Nat.le_of_ble_eq_true rfl) (fun r2 cs2 q2 => ?_)
  obtain ⟨rfl, hI2⟩ := k2 r2 cs2 q2
  show V G E 529 [some (.ref b), some (.ref (G.ad 34)), some (.ref (G.ad 57)), some (.int (iI i))] [.int (iI z), .int (iI z)] cs2
  exact V_icmp_same (tgt := 862) C dL_law_529 (by decide) (K cs2 hI2)
set_option maxRecDepth 100000 in
theorem lc_play (C : zC G E RL cL_law 4 11 300) (X : lwE E b L xs) (hi : 0 ≤ i ∧ i + 6 ≤ L) (h : Inv G cs) (K : ∀ cs', Inv G cs' → V G E 862 [some (.ref b), some (.ref (G.ad 34)), some (.ref (G.ad 57)), some (.int (iI i))] [] cs') : V G E 534 [some (.ref b), some (.ref (G.ad 34)), some (.ref (G.ad 57)), some (.int (iI i))] [] cs := by
  have hL := X.2.2.2
  obtain ⟨Q1, M1, k1⟩ := pr_play h (sx_rng xs (i + 1)) (sx_rng xs (i + 2)) (sx_rng xs (i + 3)) (sx_rng xs (i + 4))
  obtain ⟨fs, he⟩ := Inv_34 h
  refine V_aload_n C dL_law_534 rfl ?_
  refine V_aload_n C dL_law_535 rfl ?_
  refine V_iload_n C dL_law_536 rfl ?_
  refine V_iconst C dL_law_537 ?_
  refine V_iadd C dL_law_538 ?_
  refine V_sld C X (by omega) dL_law_539 ?_
  refine V_aload_n C dL_law_540 rfl ?_
  refine V_iload_n C dL_law_541 rfl ?_
  refine V_iconst C dL_law_542 ?_
  refine V_iadd C dL_law_543 ?_
  refine V_sld C X (by omega) dL_law_544 ?_
  refine V_aload_n C dL_law_545 rfl ?_
  refine V_iload_n C dL_law_546 rfl ?_
  refine V_iconst C dL_law_547 ?_
  refine V_iadd C dL_law_548 ?_
  refine V_sld C X (by omega) dL_law_549 ?_
  refine V_aload_n C dL_law_550 rfl ?_
  refine V_iload_n C dL_law_551 rfl ?_
  refine V_iconst C dL_law_552 ?_
  refine V_iadd C dL_law_553 ?_
  refine V_sld C X (by omega) dL_law_554 ?_
  refine V_callV C lk_L_81 M1 dL_law_555 rfl rfl he rfl (by decide) (Nat.le_of_ble_eq_true rfl) (fun r cs1 q1 => ?_)
  obtain ⟨z, rfl, ⟨fs1, he1⟩, Q2, M2, k2⟩ := k1 r cs1 q1
  show V G E 558 [some (.ref b), some (.ref (G.ad 34)), some (.ref (G.ad 57)), some (.int (iI i))] [.int (iI z)] cs1
  refine V_aload_n C dL_law_558 rfl ?_
  refine V_aload_n C dL_law_559 rfl ?_
  refine V_iload_n C dL_law_560 rfl ?_
  refine V_iconst C dL_law_561 ?_
  refine V_iadd C dL_law_562 ?_
  refine V_sld C X (by omega) dL_law_563 ?_
  refine V_aload_n C dL_law_564 rfl ?_
  refine V_iload_n C dL_law_565 rfl ?_
  refine V_iconst C dL_law_566 ?_
  refine V_iadd C dL_law_567 ?_
  refine V_sld C X (by omega) dL_law_568 ?_
  refine V_aload_n C dL_law_569 rfl ?_
  refine V_iload_n C dL_law_570 rfl ?_
  refine V_iconst C dL_law_571 ?_
  refine V_iadd C dL_law_572 ?_
  refine V_sld C X (by omega) dL_law_573 ?_
  refine V_aload_n C dL_law_574 rfl ?_
  refine V_iload_n C dL_law_575 rfl ?_
  refine V_iconst C dL_law_576 ?_
  refine V_iadd C dL_law_577 ?_
  refine V_sld C X (by omega) dL_law_578 ?_
  refine V_callV C lk_L_85 M2 dL_law_579 rfl rfl he1 rfl (by decide) (Nat.le_of_ble_eq_true rfl) (fun r2 cs2 q2 => ?_)
  obtain ⟨rfl, hI2⟩ := k2 r2 cs2 q2
  show V G E 582 [some (.ref b), some (.ref (G.ad 34)), some (.ref (G.ad 57)), some (.int (iI i))] [.int (iI z), .int (iI z)] cs2
  exact V_icmp_same (tgt := 862) C dL_law_582 (by decide) (K cs2 hI2)
set_option maxRecDepth 100000 in
theorem lc_film (C : zC G E RL cL_law 4 11 300) (X : lwE E b L xs) (hi : 0 ≤ i ∧ i + 6 ≤ L) (h : Inv G cs) (K : ∀ cs', Inv G cs' → V G E 862 [some (.ref b), some (.ref (G.ad 34)), some (.ref (G.ad 57)), some (.int (iI i))] [] cs') : V G E 587 [some (.ref b), some (.ref (G.ad 34)), some (.ref (G.ad 57)), some (.int (iI i))] [] cs := by
  have hL := X.2.2.2
  obtain ⟨Q1, M1, k1⟩ := pr_film h (sx_rng xs (i + 1)) (sx_rng xs (i + 2)) (sx_rng xs (i + 3)) (sx_rng xs (i + 4)) (sx_rng xs (i + 5))
  obtain ⟨fs, he⟩ := Inv_34 h
  refine V_aload_n C dL_law_587 rfl ?_
  refine V_aload_n C dL_law_588 rfl ?_
  refine V_iload_n C dL_law_589 rfl ?_
  refine V_iconst C dL_law_590 ?_
  refine V_iadd C dL_law_591 ?_
  refine V_sld C X (by omega) dL_law_592 ?_
  refine V_aload_n C dL_law_593 rfl ?_
  refine V_iload_n C dL_law_594 rfl ?_
  refine V_iconst C dL_law_595 ?_
  refine V_iadd C dL_law_596 ?_
  refine V_sld C X (by omega) dL_law_597 ?_
  refine V_aload_n C dL_law_598 rfl ?_
  refine V_iload_n C dL_law_599 rfl ?_
  refine V_iconst C dL_law_600 ?_
  refine V_iadd C dL_law_601 ?_
  refine V_sld C X (by omega) dL_law_602 ?_
  refine V_aload_n C dL_law_603 rfl ?_
  refine V_iload_n C dL_law_604 rfl ?_
  refine V_iconst C dL_law_605 ?_
  refine V_iadd C dL_law_606 ?_
  refine V_sld C X (by omega) dL_law_607 ?_
  refine V_aload_n C dL_law_608 rfl ?_
  refine V_iload_n C dL_law_609 rfl ?_
  refine V_iconst C dL_law_610 ?_
  refine V_iadd C dL_law_611 ?_
  refine V_sld C X (by omega) dL_law_612 ?_
  refine V_callV C lk_L_86 M1 dL_law_613 rfl rfl he rfl (by decide) (Nat.le_of_ble_eq_true rfl) (fun r cs1 q1 => ?_)
  obtain ⟨z, rfl, ⟨fs1, he1⟩, Q2, M2, k2⟩ := k1 r cs1 q1
  show V G E 616 [some (.ref b), some (.ref (G.ad 34)), some (.ref (G.ad 57)), some (.int (iI i))] [.int (iI z)] cs1
  refine V_aload_n C dL_law_616 rfl ?_
  refine V_aload_n C dL_law_617 rfl ?_
  refine V_iload_n C dL_law_618 rfl ?_
  refine V_iconst C dL_law_619 ?_
  refine V_iadd C dL_law_620 ?_
  refine V_sld C X (by omega) dL_law_621 ?_
  refine V_aload_n C dL_law_622 rfl ?_
  refine V_iload_n C dL_law_623 rfl ?_
  refine V_iconst C dL_law_624 ?_
  refine V_iadd C dL_law_625 ?_
  refine V_sld C X (by omega) dL_law_626 ?_
  refine V_aload_n C dL_law_627 rfl ?_
  refine V_iload_n C dL_law_628 rfl ?_
  refine V_iconst C dL_law_629 ?_
  refine V_iadd C dL_law_630 ?_
  refine V_sld C X (by omega) dL_law_631 ?_
  refine V_aload_n C dL_law_632 rfl ?_
  refine V_iload_n C dL_law_633 rfl ?_
  refine V_iconst C dL_law_634 ?_
  refine V_iadd C dL_law_635 ?_
  refine V_sld C X (by omega) dL_law_636 ?_
  refine V_aload_n C dL_law_637 rfl ?_
  refine V_iload_n C dL_law_638 rfl ?_
  refine V_iconst C dL_law_639 ?_
  refine V_iadd C dL_law_640 ?_
  refine V_sld C X (by omega) dL_law_641 ?_
  refine V_callV C lk_L_90 M2 dL_law_642 rfl rfl he1 rfl (by decide) (Nat.le_of_ble_eq_true rfl) (fun r2 cs2 q2 => ?_)
  obtain ⟨rfl, hI2⟩ := k2 r2 cs2 q2
  show V G E 645 [some (.ref b), some (.ref (G.ad 34)), some (.ref (G.ad 57)), some (.int (iI i))] [.int (iI z), .int (iI z)] cs2
  exact V_icmp_same (tgt := 862) C dL_law_645 (by decide) (K cs2 hI2)
set_option maxRecDepth 100000 in
theorem lc_sheet (C : zC G E RL cL_law 4 11 300) (X : lwE E b L xs) (hi : 0 ≤ i ∧ i + 6 ≤ L) (h : Inv G cs) (K : ∀ cs', Inv G cs' → V G E 862 [some (.ref b), some (.ref (G.ad 34)), some (.ref (G.ad 57)), some (.int (iI i))] [] cs') : V G E 650 [some (.ref b), some (.ref (G.ad 34)), some (.ref (G.ad 57)), some (.int (iI i))] [] cs := by
  have hL := X.2.2.2
  obtain ⟨Q1, M1, k1⟩ := pr_sheet h (sx_rng xs (i + 1)) (sx_rng xs (i + 2)) (sx_rng xs (i + 3))
  obtain ⟨fs, he⟩ := Inv_34 h
  refine V_aload_n C dL_law_650 rfl ?_
  refine V_aload_n C dL_law_651 rfl ?_
  refine V_iload_n C dL_law_652 rfl ?_
  refine V_iconst C dL_law_653 ?_
  refine V_iadd C dL_law_654 ?_
  refine V_sld C X (by omega) dL_law_655 ?_
  refine V_aload_n C dL_law_656 rfl ?_
  refine V_iload_n C dL_law_657 rfl ?_
  refine V_iconst C dL_law_658 ?_
  refine V_iadd C dL_law_659 ?_
  refine V_sld C X (by omega) dL_law_660 ?_
  refine V_aload_n C dL_law_661 rfl ?_
  refine V_iload_n C dL_law_662 rfl ?_
  refine V_iconst C dL_law_663 ?_
  refine V_iadd C dL_law_664 ?_
  refine V_sld C X (by omega) dL_law_665 ?_
  refine V_callV C lk_L_91 M1 dL_law_666 rfl rfl he rfl (by decide) (Nat.le_of_ble_eq_true rfl) (fun r cs1 q1 => ?_)
  obtain ⟨z, rfl, ⟨fs1, he1⟩, Q2, M2, k2⟩ := k1 r cs1 q1
  show V G E 669 [some (.ref b), some (.ref (G.ad 34)), some (.ref (G.ad 57)), some (.int (iI i))] [.int (iI z)] cs1
  refine V_aload_n C dL_law_669 rfl ?_
  refine V_aload_n C dL_law_670 rfl ?_
  refine V_iload_n C dL_law_671 rfl ?_
  refine V_iconst C dL_law_672 ?_
  refine V_iadd C dL_law_673 ?_
  refine V_sld C X (by omega) dL_law_674 ?_
  refine V_aload_n C dL_law_675 rfl ?_
  refine V_iload_n C dL_law_676 rfl ?_
  refine V_iconst C dL_law_677 ?_
  refine V_iadd C dL_law_678 ?_
  refine V_sld C X (by omega) dL_law_679 ?_
  refine V_aload_n C dL_law_680 rfl ?_
  refine V_iload_n C dL_law_681 rfl ?_
  refine V_iconst C dL_law_682 ?_
  refine V_iadd C dL_law_683 ?_
  refine V_sld C X (by omega) dL_law_684 ?_
  refine V_callV C lk_L_94 M2 dL_law_685 rfl rfl he1 rfl (by decide) (Nat.le_of_ble_eq_true rfl) (fun r2 cs2 q2 => ?_)
  obtain ⟨rfl, hI2⟩ := k2 r2 cs2 q2
  show V G E 688 [some (.ref b), some (.ref (G.ad 34)), some (.ref (G.ad 57)), some (.int (iI i))] [.int (iI z), .int (iI z)] cs2
  exact V_icmp_same (tgt := 862) C dL_law_688 (by decide) (K cs2 hI2)
set_option maxRecDepth 100000 in
theorem lc_drop (C : zC G E RL cL_law 4 11 300) (X : lwE E b L xs) (hi : 0 ≤ i ∧ i + 6 ≤ L) (h : Inv G cs) (K : ∀ cs', Inv G cs' → V G E 862 [some (.ref b), some (.ref (G.ad 34)), some (.ref (G.ad 57)), some (.int (iI i))] [] cs') : V G E 693 [some (.ref b), some (.ref (G.ad 34)), some (.ref (G.ad 57)), some (.int (iI i))] [] cs := by
  have hL := X.2.2.2
  obtain ⟨Q1, M1, k1⟩ := pr_drop h (sx_rng xs (i + 1))
  obtain ⟨fs, he⟩ := Inv_34 h
  refine V_aload_n C dL_law_693 rfl ?_
  refine V_aload_n C dL_law_694 rfl ?_
  refine V_iload_n C dL_law_695 rfl ?_
  refine V_iconst C dL_law_696 ?_
  refine V_iadd C dL_law_697 ?_
  refine V_sld C X (by omega) dL_law_698 ?_
  refine V_callV C lk_L_95 M1 dL_law_699 rfl rfl he rfl (by decide) (Nat.le_of_ble_eq_true rfl) (fun r cs1 q1 => ?_)
  obtain ⟨z, rfl, ⟨fs1, he1⟩, Q2, M2, k2⟩ := k1 r cs1 q1
  show V G E 702 [some (.ref b), some (.ref (G.ad 34)), some (.ref (G.ad 57)), some (.int (iI i))] [.int (iI z)] cs1
  refine V_aload_n C dL_law_702 rfl ?_
  refine V_aload_n C dL_law_703 rfl ?_
  refine V_iload_n C dL_law_704 rfl ?_
  refine V_iconst C dL_law_705 ?_
  refine V_iadd C dL_law_706 ?_
  refine V_sld C X (by omega) dL_law_707 ?_
  refine V_callV C lk_L_98 M2 dL_law_708 rfl rfl he1 rfl (by decide) (Nat.le_of_ble_eq_true rfl) (fun r2 cs2 q2 => ?_)
  obtain ⟨rfl, hI2⟩ := k2 r2 cs2 q2
  show V G E 711 [some (.ref b), some (.ref (G.ad 34)), some (.ref (G.ad 57)), some (.int (iI i))] [.int (iI z), .int (iI z)] cs2
  exact V_icmp_same (tgt := 862) C dL_law_711 (by decide) (K cs2 hI2)
set_option maxRecDepth 100000 in
theorem lc_item (C : zC G E RL cL_law 4 11 300) (X : lwE E b L xs) (hi : 0 ≤ i ∧ i + 6 ≤ L) (h : Inv G cs) (K : ∀ cs', Inv G cs' → V G E 862 [some (.ref b), some (.ref (G.ad 34)), some (.ref (G.ad 57)), some (.int (iI i))] [] cs') : V G E 716 [some (.ref b), some (.ref (G.ad 34)), some (.ref (G.ad 57)), some (.int (iI i))] [] cs := by
  have hL := X.2.2.2
  obtain ⟨Q1, M1, k1⟩ := pr_item h (sx_rng xs (i + 1)) (sx_rng xs (i + 2)) (sx_rng xs (i + 3)) (lI_rng (((iI (sx xs (i + 4))).toInt64 <<< ((iI 32).toInt64 &&& 63)) ||| ((iI (sx xs (i + 5))).toInt64 &&& lI 4294967295)))
  obtain ⟨fs, he⟩ := Inv_34 h
  refine V_aload_n C dL_law_716 rfl ?_
  refine V_aload_n C dL_law_717 rfl ?_
  refine V_iload_n C dL_law_718 rfl ?_
  refine V_iconst C dL_law_719 ?_
  refine V_iadd C dL_law_720 ?_
  refine V_sld C X (by omega) dL_law_721 ?_
  refine V_aload_n C dL_law_722 rfl ?_
  refine V_iload_n C dL_law_723 rfl ?_
  refine V_iconst C dL_law_724 ?_
  refine V_iadd C dL_law_725 ?_
  refine V_sld C X (by omega) dL_law_726 ?_
  refine V_aload_n C dL_law_727 rfl ?_
  refine V_iload_n C dL_law_728 rfl ?_
  refine V_iconst C dL_law_729 ?_
  refine V_iadd C dL_law_730 ?_
  refine V_sld C X (by omega) dL_law_731 ?_
  refine V_aload_n C dL_law_732 rfl ?_
  refine V_iload_n C dL_law_733 rfl ?_
  refine V_iconst C dL_law_734 ?_
  refine V_iadd C dL_law_735 ?_
  refine V_sld C X (by omega) dL_law_736 ?_
  refine V_i2lx C dL_law_737 ?_
  refine V_bipush C dL_law_738 (by decide) ?_
  refine V_lshl C dL_law_740 ?_
  refine V_aload_n C dL_law_741 rfl ?_
  refine V_iload_n C dL_law_742 rfl ?_
  refine V_iconst C dL_law_743 ?_
  refine V_iadd C dL_law_744 ?_
  refine V_sld C X (by omega) dL_law_745 ?_
  refine V_i2lx C dL_law_746 ?_
  refine V_ldc2 (z := 4294967295) C wk_L_99 (by decide) dL_law_747 ?_
  refine V_land C dL_law_750 ?_
  refine V_lor C dL_law_751 ?_
  rw [← lI_of (((iI (sx xs (i + 4))).toInt64 <<< ((iI 32).toInt64 &&& 63)) ||| ((iI (sx xs (i + 5))).toInt64 &&& lI 4294967295))]
  refine V_callV C lk_L_101 M1 dL_law_752 rfl rfl he rfl (by decide) (Nat.le_of_ble_eq_true rfl) (fun r cs1 q1 => ?_)
  obtain ⟨z, rfl, ⟨fs1, he1⟩, Q2, M2, k2⟩ := k1 r cs1 q1
  show V G E 755 [some (.ref b), some (.ref (G.ad 34)), some (.ref (G.ad 57)), some (.int (iI i))] [.int (iI z)] cs1
  refine V_aload_n C dL_law_755 rfl ?_
  refine V_aload_n C dL_law_756 rfl ?_
  refine V_iload_n C dL_law_757 rfl ?_
  refine V_iconst C dL_law_758 ?_
  refine V_iadd C dL_law_759 ?_
  refine V_sld C X (by omega) dL_law_760 ?_
  refine V_aload_n C dL_law_761 rfl ?_
  refine V_iload_n C dL_law_762 rfl ?_
  refine V_iconst C dL_law_763 ?_
  refine V_iadd C dL_law_764 ?_
  refine V_sld C X (by omega) dL_law_765 ?_
  refine V_aload_n C dL_law_766 rfl ?_
  refine V_iload_n C dL_law_767 rfl ?_
  refine V_iconst C dL_law_768 ?_
  refine V_iadd C dL_law_769 ?_
  refine V_sld C X (by omega) dL_law_770 ?_
  refine V_aload_n C dL_law_771 rfl ?_
  refine V_iload_n C dL_law_772 rfl ?_
  refine V_iconst C dL_law_773 ?_
  refine V_iadd C dL_law_774 ?_
  refine V_sld C X (by omega) dL_law_775 ?_
  refine V_i2lx C dL_law_776 ?_
  refine V_bipush C dL_law_777 (by decide) ?_
  refine V_lshl C dL_law_779 ?_
  refine V_aload_n C dL_law_780 rfl ?_
  refine V_iload_n C dL_law_781 rfl ?_
  refine V_iconst C dL_law_782 ?_
  refine V_iadd C dL_law_783 ?_
  refine V_sld C X (by omega) dL_law_784 ?_
  refine V_i2lx C dL_law_785 ?_
  refine V_ldc2 (z := 4294967295) C wk_L_99 (by decide) dL_law_786 ?_
  refine V_land C dL_law_789 ?_
  refine V_lor C dL_law_790 ?_
  rw [← lI_of (((iI (sx xs (i + 4))).toInt64 <<< ((iI 32).toInt64 &&& 63)) ||| ((iI (sx xs (i + 5))).toInt64 &&& lI 4294967295))]
  refine V_callV C lk_L_105 M2 dL_law_791 rfl rfl he1 rfl (by decide) (Nat.le_of_ble_eq_true rfl) (fun r2 cs2 q2 => ?_)
  obtain ⟨rfl, hI2⟩ := k2 r2 cs2 q2
  show V G E 794 [some (.ref b), some (.ref (G.ad 34)), some (.ref (G.ad 57)), some (.int (iI i))] [.int (iI z), .int (iI z)] cs2
  exact V_icmp_same (tgt := 862) C dL_law_794 (by decide) (K cs2 hI2)
set_option maxRecDepth 100000 in
theorem lc_copy (C : zC G E RL cL_law 4 11 300) (X : lwE E b L xs) (hi : 0 ≤ i ∧ i + 6 ≤ L) (h : Inv G cs) (K : ∀ cs', Inv G cs' → V G E 862 [some (.ref b), some (.ref (G.ad 34)), some (.ref (G.ad 57)), some (.int (iI i))] [] cs') : V G E 799 [some (.ref b), some (.ref (G.ad 34)), some (.ref (G.ad 57)), some (.int (iI i))] [] cs := by
  have hL := X.2.2.2
  obtain ⟨Q1, M1, k1⟩ := pr_copy h (sx_rng xs (i + 1)) (sx_rng xs (i + 2)) (sx_rng xs (i + 3)) (sx_rng xs (i + 4)) (sx_rng xs (i + 5))
  obtain ⟨fs, he⟩ := Inv_34 h
  refine V_aload_n C dL_law_799 rfl ?_
  refine V_aload_n C dL_law_800 rfl ?_
  refine V_iload_n C dL_law_801 rfl ?_
  refine V_iconst C dL_law_802 ?_
  refine V_iadd C dL_law_803 ?_
  refine V_sld C X (by omega) dL_law_804 ?_
  refine V_aload_n C dL_law_805 rfl ?_
  refine V_iload_n C dL_law_806 rfl ?_
  refine V_iconst C dL_law_807 ?_
  refine V_iadd C dL_law_808 ?_
  refine V_sld C X (by omega) dL_law_809 ?_
  refine V_aload_n C dL_law_810 rfl ?_
  refine V_iload_n C dL_law_811 rfl ?_
  refine V_iconst C dL_law_812 ?_
  refine V_iadd C dL_law_813 ?_
  refine V_sld C X (by omega) dL_law_814 ?_
  refine V_aload_n C dL_law_815 rfl ?_
  refine V_iload_n C dL_law_816 rfl ?_
  refine V_iconst C dL_law_817 ?_
  refine V_iadd C dL_law_818 ?_
  refine V_sld C X (by omega) dL_law_819 ?_
  refine V_aload_n C dL_law_820 rfl ?_
  refine V_iload_n C dL_law_821 rfl ?_
  refine V_iconst C dL_law_822 ?_
  refine V_iadd C dL_law_823 ?_
  refine V_sld C X (by omega) dL_law_824 ?_
  refine V_callV C lk_L_106 M1 dL_law_825 rfl rfl he rfl (by decide) (Nat.le_of_ble_eq_true rfl) (fun r cs1 q1 => ?_)
  obtain ⟨z, rfl, ⟨fs1, he1⟩, Q2, M2, k2⟩ := k1 r cs1 q1
  show V G E 828 [some (.ref b), some (.ref (G.ad 34)), some (.ref (G.ad 57)), some (.int (iI i))] [.int (iI z)] cs1
  refine V_aload_n C dL_law_828 rfl ?_
  refine V_aload_n C dL_law_829 rfl ?_
  refine V_iload_n C dL_law_830 rfl ?_
  refine V_iconst C dL_law_831 ?_
  refine V_iadd C dL_law_832 ?_
  refine V_sld C X (by omega) dL_law_833 ?_
  refine V_aload_n C dL_law_834 rfl ?_
  refine V_iload_n C dL_law_835 rfl ?_
  refine V_iconst C dL_law_836 ?_
  refine V_iadd C dL_law_837 ?_
  refine V_sld C X (by omega) dL_law_838 ?_
  refine V_aload_n C dL_law_839 rfl ?_
  refine V_iload_n C dL_law_840 rfl ?_
  refine V_iconst C dL_law_841 ?_
  refine V_iadd C dL_law_842 ?_
  refine V_sld C X (by omega) dL_law_843 ?_
  refine V_aload_n C dL_law_844 rfl ?_
  refine V_iload_n C dL_law_845 rfl ?_
  refine V_iconst C dL_law_846 ?_
  refine V_iadd C dL_law_847 ?_
  refine V_sld C X (by omega) dL_law_848 ?_
  refine V_aload_n C dL_law_849 rfl ?_
  refine V_iload_n C dL_law_850 rfl ?_
  refine V_iconst C dL_law_851 ?_
  refine V_iadd C dL_law_852 ?_
  refine V_sld C X (by omega) dL_law_853 ?_
  refine V_callV C lk_L_109 M2 dL_law_854 rfl rfl he1 rfl (by decide) (Nat.le_of_ble_eq_true rfl) (fun r2 cs2 q2 => ?_)
  obtain ⟨rfl, hI2⟩ := k2 r2 cs2 q2
  show V G E 857 [some (.ref b), some (.ref (G.ad 34)), some (.ref (G.ad 57)), some (.int (iI i))] [.int (iI z), .int (iI z)] cs2
  exact V_icmp_same (tgt := 862) C dL_law_857 (by decide) (K cs2 hI2)
set_option maxRecDepth 100000 in
theorem law_loop (C : zC G E RL cL_law 4 11 300) (X : lwE E b L xs) (KE : ∀ (i : Int) (cs' : List va_E), Inv G cs' → V G E 868 [some (.ref b), some (.ref (G.ad 34)), some (.ref (G.ad 57)), some (.int (iI i))] [] cs') : ∀ (n : Nat) (i : Int) (cs : List va_E), 0 ≤ i → i ≤ 3078 → ((L : Int) - i).toNat ≤ n → Inv G cs → V G E 18 [some (.ref b), some (.ref (G.ad 34)), some (.ref (G.ad 57)), some (.int (iI i))] [] cs := by
  intro n
  induction n with
  | zero =>
    intro i cs h0 h1 hn hI
    have hL := X.2.2.2
    refine V_iload_n C dL_law_18 rfl ?_
    refine V_aload_n C dL_law_19 rfl ?_
    refine V_slen C X dL_law_20 ?_
    refine V_bipush C dL_law_21 (by decide) ?_
    refine V_isub C dL_law_23 ?_
    refine V_icmp_gt (tgt := 868) C dL_law_24 (by decide) (by omega) (by omega) (fun _ => KE i cs hI) (fun q => ?_)
    omega
  | succ n ih =>
    intro i cs h0 h1 hn hI
    have hL := X.2.2.2
    refine V_iload_n C dL_law_18 rfl ?_
    refine V_aload_n C dL_law_19 rfl ?_
    refine V_slen C X dL_law_20 ?_
    refine V_bipush C dL_law_21 (by decide) ?_
    refine V_isub C dL_law_23 ?_
    refine V_icmp_gt (tgt := 868) C dL_law_24 (by decide) (by omega) (by omega) (fun _ => KE i cs hI) (fun q => ?_)
    have K : ∀ cs', Inv G cs' → V G E 862 [some (.ref b), some (.ref (G.ad 34)), some (.ref (G.ad 57)), some (.int (iI i))] [] cs' := fun cs' hI' => by
      refine V_iinc C dL_law_862 rfl (by decide) rfl ?_
      refine V_goto (tgt := 18) C dL_law_865 (by decide) ?_
      exact ih (i + 6) cs' (by omega) (by omega) (by omega) hI'
    refine V_aload_n C dL_law_27 rfl ?_
    refine V_iload_n C dL_law_28 rfl ?_
    refine V_sld C X (by omega) dL_law_29 ?_
    refine V_bipush C dL_law_30 (by decide) ?_
    refine V_iand (z := (iI (sx xs i) &&& iI 31).toInt) C dL_law_32 (iI_of _).symm ?_
    have hz := iI_rng (iI (sx xs i) &&& iI 31)
    generalize (iI (sx xs i) &&& iI 31).toInt = z at hz ⊢
    by_cases hc : 0 ≤ z ∧ z ≤ 21
    · have hz2 : z = 0 ∨ z = 1 ∨ z = 2 ∨ z = 3 ∨ z = 4 ∨ z = 5 ∨ z = 6 ∨ z = 7 ∨ z = 8 ∨ z = 9 ∨ z = 10 ∨ z = 11 ∨ z = 12 ∨ z = 13 ∨ z = 14 ∨ z = 15 ∨ z = 16 ∨ z = 17 ∨ z = 18 ∨ z = 19 ∨ z = 20 ∨ z = 21 := by omega
      rcases hz2 with rfl | rfl | rfl | rfl | rfl | rfl | rfl | rfl | rfl | rfl | rfl | rfl | rfl | rfl | rfl | rfl | rfl | rfl | rfl | rfl | rfl | rfl
      · exact V_tableIn (tgt := 136) C dL_law_33 (by omega) (by omega) (by omega) rfl (by decide) (lc_type C X (by omega) hI K)
      · exact V_tableIn (tgt := 159) C dL_law_33 (by omega) (by omega) (by omega) rfl (by decide) (lc_line C X (by omega) hI K)
      · exact V_tableIn (tgt := 172) C dL_law_33 (by omega) (by omega) (by omega) rfl (by decide) (lc_letter C X (by omega) hI K)
      · exact V_tableIn (tgt := 195) C dL_law_33 (by omega) (by omega) (by omega) rfl (by decide) (lc_store C X (by omega) hI K)
      · exact V_tableIn (tgt := 218) C dL_law_33 (by omega) (by omega) (by omega) rfl (by decide) (lc_mark C X (by omega) hI K)
      · exact V_tableIn (tgt := 241) C dL_law_33 (by omega) (by omega) (by omega) rfl (by decide) (lc_count C X (by omega) hI K)
      · exact V_tableIn (tgt := 264) C dL_law_33 (by omega) (by omega) (by omega) rfl (by decide) (lc_key C X (by omega) hI K)
      · exact V_tableIn (tgt := 287) C dL_law_33 (by omega) (by omega) (by omega) rfl (by decide) (lc_price C X (by omega) hI K)
      · exact V_tableIn (tgt := 320) C dL_law_33 (by omega) (by omega) (by omega) rfl (by decide) (lc_leads C X (by omega) hI K)
      · exact V_tableIn (tgt := 353) C dL_law_33 (by omega) (by omega) (by omega) rfl (by decide) (lc_steps C X (by omega) hI K)
      · exact V_tableIn (tgt := 386) C dL_law_33 (by omega) (by omega) (by omega) rfl (by decide) (lc_farthest C X (by omega) hI K)
      · exact V_tableIn (tgt := 409) C dL_law_33 (by omega) (by omega) (by omega) rfl (by decide) (lc_once C X (by omega) hI K)
      · exact V_tableIn (tgt := 432) C dL_law_33 (by omega) (by omega) (by omega) rfl (by decide) (lc_goes C X (by omega) hI K)
      · exact V_tableIn (tgt := 465) C dL_law_33 (by omega) (by omega) (by omega) rfl (by decide) (lc_struck C X (by omega) hI K)
      · exact V_tableIn (tgt := 508) C dL_law_33 (by omega) (by omega) (by omega) rfl (by decide) (lc_image C X (by omega) hI K)
      · exact V_tableIn (tgt := 521) C dL_law_33 (by omega) (by omega) (by omega) rfl (by decide) (lc_restore C X (by omega) hI K)
      · exact V_tableIn (tgt := 534) C dL_law_33 (by omega) (by omega) (by omega) rfl (by decide) (lc_play C X (by omega) hI K)
      · exact V_tableIn (tgt := 587) C dL_law_33 (by omega) (by omega) (by omega) rfl (by decide) (lc_film C X (by omega) hI K)
      · exact V_tableIn (tgt := 650) C dL_law_33 (by omega) (by omega) (by omega) rfl (by decide) (lc_sheet C X (by omega) hI K)
      · exact V_tableIn (tgt := 693) C dL_law_33 (by omega) (by omega) (by omega) rfl (by decide) (lc_drop C X (by omega) hI K)
      · exact V_tableIn (tgt := 716) C dL_law_33 (by omega) (by omega) (by omega) rfl (by decide) (lc_item C X (by omega) hI K)
      · exact V_tableIn (tgt := 799) C dL_law_33 (by omega) (by omega) (by omega) rfl (by decide) (lc_copy C X (by omega) hI K)
    · exact V_tableOut (tgt := 862) C dL_law_33 hz (by omega) (by decide) (K cs hI)
end LW
