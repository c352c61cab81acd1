/-! ===== rows that agree where they are read ===== -/
abbrev ag2 (a b : Int → Int) (n : Int) : Prop := ∀ j, 0 ≤ j → j < n → a j = b j
theorem rel_cg {f f' bf bf' pf pf' pl pl' pc pc' k kf kf' lf lf' sf sf' mf mf' rf rf' g g' ah ah' : Int → Int} {L c bL bc nx sz ks ls sl ty un : Int} (h : rel f L c bf bL bc pf pl pc nx sz k kf ks lf ls sf sl mf rf ty (un, g, ah)) (hL : 0 ≤ L ∧ L ≤ 60) (hb : 0 ≤ bL ∧ bL ≤ 60) (hnx : 0 ≤ nx ∧ nx < 8) (hsz : 0 ≤ sz ∧ sz ≤ 8) (hpl : ∀ j, pl j ≤ 60) (hks : 0 ≤ ks ∧ ks ≤ 31) (hls : 0 ≤ ls ∧ ls ≤ 31) (hsl : 0 ≤ sl ∧ sl ≤ 60) (ef : ag2 f' f 60) (eb : ag2 bf' bf 60) (ep : ag2 pf' pf 480) (el : ag2 pl' pl 8) (ec : ag2 pc' pc 8) (ek : ag2 kf' kf 30) (elf : ag2 lf' lf 30) (es : ag2 sf' sf 60) (em : ag2 mf' mf 4) (er : ag2 rf' rf 7) (eg : ag2 g' g 263) (eh : ag2 ah' ah 496) (rg : ∀ j, rng (g' j)) (rh : ∀ j, rng (ah' j)) : rel f' L c bf' bL bc pf' pl' pc' nx sz k kf' ks lf' ls sf' sl mf' rf' ty (un, g', ah') := by
  obtain ⟨a1, a2, ⟨t0, t1, t2, t3, t4, t5⟩, ⟨k0, k1, k2, k3, k4⟩, a5, a6, a7, a8, ⟨p0, p1⟩, a10⟩ := h
  refine ⟨rg, rh, ⟨?_, fun p p1 p2 => ?_, ?_, ?_, fun j j1 j2 => ?_, fun j j1 j2 => ?_⟩, ⟨?_, fun j j1 j2 j3 => ?_, ?_, fun j j1 j2 j3 => ?_, fun j j1 j2 => ?_⟩, ?_, fun z => ?_, a7, ⟨fun z1 z2 => ?_, fun z1 => ?_⟩, ⟨p0, fun t u1 u2 => ?_⟩, ?_⟩
  · exact (eg 0 (by omega) (by omega)).trans t0
  · rw [ef p p1 (by omega)]; exact (t1 p p1 p2).trans (eg (1 + p) (by omega) (by omega)).symm
  · exact (eg 61 (by omega) (by omega)).trans t2
  · exact (eg 63 (by omega) (by omega)).trans t3
  · rw [es j j1 (by omega)]; exact (t4 j j1 j2).trans (eg (64 + j) (by omega) (by omega)).symm
  · rw [em j j1 j2]; exact (eg (124 + j) (by omega) (by omega)).trans (t5 j j1 j2)
  · exact (eg 159 (by omega) (by omega)).trans k0
  · rw [ek j j1 (by omega)]; exact (k1 j j1 j2 j3).trans (eg (160 + j) (by omega) (by omega)).symm
  · exact (eg 128 (by omega) (by omega)).trans k2
  · rw [elf j j1 (by omega)]; exact (k3 j j1 j2 j3).trans (eg (129 + j) (by omega) (by omega)).symm
  · rw [er j j1 j2]; exact (k4 j j1 j2).trans (eg (256 + j) (by omega) (by omega)).symm
  · exact (eg 62 (by omega) (by omega)).trans a5
  · have q := a6 z
    unfold relC at q ⊢
    show k 3 = g' 191 ∧ k 4 = g' 192 ∧ _
    dsimp only [sG] at q ⊢
    rw [eg 190 (by omega) (by omega), eg 191 (by omega) (by omega), eg 192 (by omega) (by omega), eg 193 (by omega) (by omega)]
    exact q
  · obtain ⟨b1, b2, b3⟩ := a8.1 z1 z2
    exact ⟨(eg 194 (by omega) (by omega)).trans b1, (eg 255 (by omega) (by omega)).trans b2, fun j j1 j2 => by rw [ef j j1 (by omega)]; exact (eg (195 + j) (by omega) (by omega)).trans (b3 j j1 j2)⟩
  · obtain ⟨b1, b2, b3⟩ := a8.2 z1
    exact ⟨(eg 194 (by omega) (by omega)).trans b1, (eg 255 (by omega) (by omega)).trans b2, fun j j1 j2 => by rw [eb j j1 (by omega)]; exact (eg (195 + j) (by omega) (by omega)).trans (b3 j j1 j2)⟩
  · obtain ⟨b1, b2, b3⟩ := p1 t u1 u2
    have hs : 0 ≤ (nx - 1 - t) % 8 ∧ (nx - 1 - t) % 8 < 8 := by omega
    generalize (nx - 1 - t) % 8 = w at b1 b2 b3 hs ⊢
    have hw := hpl w
    rw [el w hs.1 hs.2, ec w hs.1 hs.2]
    refine ⟨(eh _ (by omega) (by omega)).trans b1, (eh _ (by omega) (by omega)).trans b2, fun j j1 j2 => ?_⟩
    rw [ep (w * 60 + j) (by omega) (by omega)]; exact (eh _ (by omega) (by omega)).trans (b3 j j1 j2)
  · show (0 ≤ g' 191 ∧ g' 191 ≤ 99) ∧ (0 ≤ g' 192 ∧ g' 192 ≤ 99)
    rw [eg 191 (by omega) (by omega), eg 192 (by omega) (by omega)]; exact a10
theorem ag2_z {a b : Int → Int} {n : Int} : ag2 (zcp a b 0 0 n) a n := fun j j1 j2 => by rw [zcp_in j1 (by omega)]; congr 1; omega
theorem wfK_cg {k kf kf' : Int → Int} {ks ty : Int} (w : wfK k kf ks ty) (e : ag2 kf' kf 30) : wfK k kf' ks ty := by
  intro h30
  obtain ⟨a, b⟩ := w h30
  have e2 : ∀ n : Nat, n ≤ 30 → ∀ j : Nat, j < n → kf j = kf' j := fun n hn j hj => (e j (by omega) (by omega)).symm
  refine ⟨fun z => ?_, fun z => ?_⟩
  · obtain ⟨a1, a2⟩ := a z
    exact ⟨pkw_cg (e2 _ (by omega)) a1, a2.trans (pk_cg _ (e2 _ (by omega)))⟩
  · obtain ⟨m, b1, b2, b3, b4, b5⟩ := b z
    have e3 : kf' m = kf m := e m (by omega) (by omega)
    refine ⟨m, b1, pkw_cg (e2 _ (by omega)) b2, ?_, ?_, fun i i1 i2 => ?_⟩
    · rw [← pk_cg m (e2 m (by omega)), e3]; exact b3
    · rw [← pk_cg m (e2 m (by omega)), e3]; exact b4
    · rw [e i (by omega) (by omega)]; exact b5 i i1 i2
theorem wfL_cg {lf lf' : Int → Int} {ls : Int} (w : wfL lf ls) (e : ag2 lf' lf 30) : wfL lf' ls := fun h1 h2 => by
  obtain ⟨m, q⟩ := w h1 h2
  exact ⟨m, wfM_cg (fun j hj => (e j (by omega) (by omega)).symm) q⟩
/-- a desk, the reference's rows: all that holds of both -/
abbrev gd (d : zDk) (s : zM) : Prop := okT d ∧ relD d s ∧ wfD d ∧ ltD d
/-- a desk taken over from another one, all its rows copied -/
abbrev cpD (d e : zDk) : zDk := (zcp d.1 e.1 0 0 60, d.2.1, d.2.2.1, zcp d.2.2.2.1 e.2.2.2.1 0 0 60, d.2.2.2.2.1, d.2.2.2.2.2.1, zcp (d.2.2.2.2.2.2.1) (e.2.2.2.2.2.2.1) 0 0 480, zcp (d.2.2.2.2.2.2.2.1) (e.2.2.2.2.2.2.2.1) 0 0 8, zcp (d.2.2.2.2.2.2.2.2.1) (e.2.2.2.2.2.2.2.2.1) 0 0 8, d.2.2.2.2.2.2.2.2.2.1, d.2.2.2.2.2.2.2.2.2.2.1, d.2.2.2.2.2.2.2.2.2.2.2.1, zcp (d.2.2.2.2.2.2.2.2.2.2.2.2.1) (e.2.2.2.2.2.2.2.2.2.2.2.2.1) 0 0 30, d.2.2.2.2.2.2.2.2.2.2.2.2.2.1, zcp (d.2.2.2.2.2.2.2.2.2.2.2.2.2.2.1) (e.2.2.2.2.2.2.2.2.2.2.2.2.2.2.1) 0 0 30, d.2.2.2.2.2.2.2.2.2.2.2.2.2.2.2.1, zcp (d.2.2.2.2.2.2.2.2.2.2.2.2.2.2.2.2.1) (e.2.2.2.2.2.2.2.2.2.2.2.2.2.2.2.2.1) 0 0 60, d.2.2.2.2.2.2.2.2.2.2.2.2.2.2.2.2.2.1, zcp (d.2.2.2.2.2.2.2.2.2.2.2.2.2.2.2.2.2.2.1) (e.2.2.2.2.2.2.2.2.2.2.2.2.2.2.2.2.2.2.1) 0 0 4, zcp (d.2.2.2.2.2.2.2.2.2.2.2.2.2.2.2.2.2.2.2.1) (e.2.2.2.2.2.2.2.2.2.2.2.2.2.2.2.2.2.2.2.1) 0 0 7, d.2.2.2.2.2.2.2.2.2.2.2.2.2.2.2.2.2.2.2.2.1, e.2.2.2.2.2.2.2.2.2.2.2.2.2.2.2.2.2.2.2.2.2.1, e.2.2.2.2.2.2.2.2.2.2.2.2.2.2.2.2.2.2.2.2.2.2.1, e.2.2.2.2.2.2.2.2.2.2.2.2.2.2.2.2.2.2.2.2.2.2.2)
theorem cpD_ok {d e : zDk} (h : okT d) (h2 : okT e) (hl : ltD d) (hl2 : ltD e) : okT (cpD d e) ∧ ltD (cpD d e) := by
  obtain ⟨hf, hL, hc, hbf, hbL, hbc, hpf, hplc, hnx, hsz, hk, hk3, hk4, hkf, hks, hlf, hls, hsf, hsl, hmf, hrf, hty, hpa, hfr, hto, hcm⟩ := h
  obtain ⟨gf, gL, gc, gbf, gbL, gbc, gpf, gplc, gnx, gsz, gk, gk3, gk4, gkf, gks, glf, gls, gsf, gsl, gmf, grf, gty, gpa, gfr, gto, gcm⟩ := h2
  refine ⟨⟨zcp_rng hf gf, hL, hc, zcp_rng hbf gbf, hbL, hbc, zcp_rng hpf gpf, fun j => ?_, hnx, hsz, hk, hk3, hk4, fun j => ?_, hks, fun j => ?_, hls, zcp_rng hsf gsf, hsl, fun j => ?_, fun j => ?_, hty, gpa, gfr, gto, hcm⟩, zcp_lr hl.1 hl2.1, zcp_lr hl.2.1 hl2.2.1, zcp_lr hl.2.2.1 hl2.2.2.1, zcp_lr hl.2.2.2.1 hl2.2.2.2.1, hl.2.2.2.2⟩
  · by_cases e : 0 ≤ j ∧ j < 0 + 8
    · dsimp only; rw [zcp_in e.1 e.2, zcp_in e.1 e.2]; exact hplc _
    · dsimp only; rw [zcp_out (by omega), zcp_out (by omega)]; exact gplc _
  · exact zcp_all (P := fun z => 0 ≤ z ∧ z ≤ 126) hkf gkf j
  · exact zcp_all (P := fun z => 0 ≤ z ∧ z ≤ 126) hlf glf j
  · exact zcp_all (P := fun z => -1 ≤ z ∧ z ≤ 60) hmf gmf j
  · exact zcp_all (P := fun z => 1 ≤ z ∧ z ≤ 9) hrf grf j
theorem cpD_gd {d e : zDk} {un : Int} {g ah kg kh : Int → Int} (h : gd d (un, g, ah)) (h2 : okT e) (hl2 : ltD e) (r1 : ∀ j, rng (kg j)) (r2 : ∀ j, rng (kh j)) : gd (cpD d e) (un, zcp g kg 0 0 263, zcp ah kh 0 0 496) := by
  obtain ⟨q1, q2, q3, q4⟩ := h
  obtain ⟨o1, o2⟩ := cpD_ok q1 h2 q4 hl2
  obtain ⟨hf, hL, hc, hbf, hbL, hbc, hpf, hplc, hnx, hsz, hk, hk3, hk4, hkf, hks, hlf, hls, hsf, hsl, hmf, hrf, hty, hpa, hfr, hto, hcm⟩ := q1
  exact ⟨o1, rel_cg q2 hL hbL hnx hsz (fun j => (hplc j).1.2) hks hls hsl ag2_z ag2_z ag2_z ag2_z ag2_z ag2_z ag2_z ag2_z ag2_z ag2_z ag2_z ag2_z (zcp_rng q2.1 r1) (zcp_rng q2.2.1 r2), ⟨wfK_cg q3.1 ag2_z, wfL_cg q3.2 ag2_z⟩, o2⟩
