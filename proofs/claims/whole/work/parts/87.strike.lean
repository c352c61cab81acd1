/-! ===== a key struck: class and reference ===== -/
abbrev relD (d : zDk) (s : zM) : Prop := rel (d.1) (d.2.1) (d.2.2.1) (d.2.2.2.1) (d.2.2.2.2.1) (d.2.2.2.2.2.1) (d.2.2.2.2.2.2.1) (d.2.2.2.2.2.2.2.1) (d.2.2.2.2.2.2.2.2.1) (d.2.2.2.2.2.2.2.2.2.1) (d.2.2.2.2.2.2.2.2.2.2.1) (d.2.2.2.2.2.2.2.2.2.2.2.1) (d.2.2.2.2.2.2.2.2.2.2.2.2.1) (d.2.2.2.2.2.2.2.2.2.2.2.2.2.1) (d.2.2.2.2.2.2.2.2.2.2.2.2.2.2.1) (d.2.2.2.2.2.2.2.2.2.2.2.2.2.2.2.1) (d.2.2.2.2.2.2.2.2.2.2.2.2.2.2.2.2.1) (d.2.2.2.2.2.2.2.2.2.2.2.2.2.2.2.2.2.1) (d.2.2.2.2.2.2.2.2.2.2.2.2.2.2.2.2.2.2.1) (d.2.2.2.2.2.2.2.2.2.2.2.2.2.2.2.2.2.2.2.1) (d.2.2.2.2.2.2.2.2.2.2.2.2.2.2.2.2.2.2.2.2.1) s
theorem edG_rng {g : Int → Int} (h : ∀ j, rng (g j)) : ∀ j, rng (edG g j) := zup_rng (zup_rng (zup_rng (zup_rng (zup_rng h (by omega)) (by omega)) (by omega)) (by omega)) (by omega)
theorem chG_rng {g : Int → Int} (h : ∀ j, rng (g j)) : ∀ j, rng (chG g j) := zcp_rng h (zup_rng h (h 159))
theorem chA_rng {un : Int} {ah g : Int → Int} (h : ∀ j, rng (ah j)) (h2 : ∀ j, rng (g j)) : ∀ j, rng (chA un ah g j) := zcp_rng h2 (ite_rng (zcp_rng h h) h)
section FI
variable {f f2 pf pl pc k kf lf sf2 mf2 rf g2 H : Int → Int} {L c L2 c2 nx sz ks ls sl2 un : Int}
theorem fin_d {bf : Int → Int} {bL bc : Int} (hT : relT f2 L2 c2 sf2 sl2 mf2 g2) (hL : 0 ≤ L2 ∧ L2 ≤ 60) (hs : 0 ≤ sl2 ∧ sl2 ≤ 60) (hr : ∀ j, rng (g2 j)) (hH : ∀ j, rng (H j)) (h62 : g2 62 = 0) (hK : relK kf ks lf ls rf g2) (hP : relP pf pl pc nx sz un H) : rel f2 L2 c2 bf bL bc pf pl pc nx sz (fun _ => 0) kf 0 lf ls sf2 sl2 mf2 rf 0 (un, edG g2, H) :=
  ⟨edG_rng hr, hH, relT_ed hT hL hs, relK_ed hK, by show edG g2 62 = 0; rw [edG_o (by omega)]; exact h62, fun _ => relC_ed, fun _ h => absurd h (fun q => q.elim (fun z => z rfl) (fun z => absurd z (Int.lt_irrefl 0))), ⟨fun _ h => absurd h (by omega), fun h => absurd rfl h⟩, hP, by
    show (0 ≤ edG g2 191 ∧ edG g2 191 ≤ 99) ∧ (0 ≤ edG g2 192 ∧ edG g2 192 ≤ 99)
    rw [edG_0 (by omega), edG_0 (by omega)]; omega⟩
theorem fin_c {bf : Int → Int} {bL bc : Int} (hT : relT f2 L2 c2 sf2 sl2 mf2 g2) (hL : 0 ≤ L2 ∧ L2 ≤ 60) (hs : 0 ≤ sl2 ∧ sl2 ≤ 60) (hr : ∀ j, rng (g2 j)) (hH : ∀ j, rng (H j)) (h62 : g2 62 = 0) (hK : relK kf ks lf ls rf (chG g2)) (hP : relP pf pl pc nx sz un H) (hn : 0 ≤ nx ∧ nx < 8) (hsz : 0 ≤ sz ∧ sz ≤ 8) (hb : 0 ≤ bL ∧ bL ≤ 60) (h1 : g2 194 = bL) (h2 : g2 255 = bc) (h3 : ∀ j, 0 ≤ j → j < bL → g2 (195 + j) = bf j) (hpl : ∀ j, 0 ≤ j → j < 8 → pl j ≤ 60) : rel f2 L2 c2 bf bL bc (zcp bf pf 0 (nx * 60) 60) (zup pl nx bL) (zup pc nx bc) ((nx + 1) % 8) (min (sz + 1) 8) (fun _ => 0) kf 0 lf ls sf2 sl2 mf2 rf 0 (edM (0, chM (un, g2, H))).2 :=
  fin_d (un := chV un + 1) (H := chA un H g2) (relT_ch hT hL hs) hL hs (chG_rng hr) (chA_rng hH hr) (by show chG g2 62 = 0; rw [chG_o (by omega)]; exact h62) hK (relP_ch hP hn hsz hb h1 h2 h3 hpl)
theorem fin_t {bf : Int → Int} {bL bc : Int} (hT : relT f2 L2 c2 sf2 sl2 mf2 g2) (hr : ∀ j, rng (g2 j)) (hH : ∀ j, rng (H j)) (h62 : g2 62 = 1) (hK : relK kf ks lf ls rf g2) (hP : relP pf pl pc nx sz un H) (h1 : g2 194 = bL) (h2 : g2 255 = bc) (h3 : ∀ j, 0 ≤ j → j < bL → g2 (195 + j) = bf j) (h9 : (0 ≤ g2 191 ∧ g2 191 ≤ 99) ∧ (0 ≤ g2 192 ∧ g2 192 ≤ 99)) : rel f2 L2 c2 bf bL bc pf pl pc nx sz k kf ks lf ls sf2 sl2 mf2 rf 1 (un, g2, H) :=
  ⟨hr, hH, hT, hK, h62, fun h => absurd h (by omega), fun h => absurd h (by omega), ⟨fun h => absurd h (by omega), fun _ => ⟨h1, h2, h3⟩⟩, hP, h9⟩
end FI
/-- where the class doesn't keep the keys of a change: they are those that it has -/
abbrev agr (kf : Int → Int) (ks : Int) (lf : Int → Int) (ls x : Int) : Prop := ks + 1 ≤ 30 ∧ ls = ks + 1 ∧ ∀ j, 0 ≤ j → j < ls → addF kf ks x j = lf j
theorem relK_cr {kf lf rf g : Int → Int} {ks ls x rep : Int} (h : relK (addF kf ks x) (min (ks + 1) 31) lf ls rf g) (hrep : rep = 0 ∨ agr kf ks lf ls x) : relK (addF kf ks x) (min (ks + 1) 31) (if rep = 0 then zcp (addF kf ks x) lf 0 0 30 else lf) (if rep = 0 then min (ks + 1) 31 else ls) rf (chG g) := by
  have q := relK_ch h
  obtain ⟨k0, k1, k2, k3, k4⟩ := q
  by_cases e : rep = 0
  · rw [if_pos e, if_pos e]
    refine ⟨k0, k1, k2, fun j j1 j2 j3 => ?_, k4⟩
    rw [zcp_in (by omega) (by omega), show 0 + (j - 0) = j by omega]; exact k3 j j1 j2 j3
  · rw [if_neg e, if_neg e]
    rcases hrep with z | ⟨z1, z2, z3⟩
    · exact absurd z e
    · refine ⟨k0, k1, by rw [k2]; omega, fun j j1 j2 j3 => ?_, k4⟩
      rw [← z3 j j1 j2]; exact k3 j j1 (by omega) j3
/-- while one inserts -/
theorem tin_rel {f bf pf pl pc k kf lf sf mf rf : Int → Int} {L c bL bc nx sz ks ls sl ty pla fro to : Int} {s : zM} {x rep : Int} (h : rel f L c bf bL bc pf pl pc nx sz k kf ks lf ls sf sl mf rf ty s) (ho : okD f L c bf bL bc pf pl pc nx sz k kf ks lf ls sf sl mf rf ty pla fro to) (ht : ty = 1) (hx : 0 ≤ x ∧ x ≤ 126) (hrep : rep = 0 ∨ agr kf ks lf ls x ∨ x ≠ 33) : (tin f L c bf bL bc pf pl pc nx sz k kf ks lf ls sf sl mf rf ty pla fro to x rep).1 = (stM s x).1 ∧ relD (tin f L c bf bL bc pf pl pc nx sz k kf ks lf ls sf sl mf rf ty pla fro to x rep).2 (stM s x).2 := by
  obtain ⟨r1, r2, hT, hK, r3, r4, r5, r6, r7, r8⟩ := h
  obtain ⟨hf, hL, hc, hbf, hbL, hbc, hpf, hplc, hnx, hsz, hk, hk3, hk4, hkf, hks, hlf, hls, hsf, hsl, hmf, hrf, hty, hpa, hfr, hto, hcm⟩ := ho
  subst ht
  have e0 : sG s 0 = L := hT.1
  have e61 : sG s 61 = c := hT.2.2.1
  have h9 : 0 ≤ sG s 159 ∧ sG s 159 ≤ 31 := by rw [hK.1]; exact hks
  have hK1 := relK_rc (x := x) hK hks hls
  have hrc := rcG_rng (x := x) r1 (by omega) h9
  obtain ⟨b1, b2, b3⟩ := r6.2 (by omega)
  have eS : stM s x = isM s x := by unfold stM; rw [if_pos r3]
  rw [eS]
  unfold isM
  by_cases c1 : x = 33
  · rw [if_pos c1, tin_1 c1]
    refine ⟨rfl, ?_⟩
    have hT1 : relT f L (max 0 (c - 1)) sf sl mf (zup (zup (rcG (sG s) x) 62 0) 61 (if sG s 61 = 0 then 0 else sG s 61 - 1)) := relT_mv hT (fun j hj => by rw [zup_n (by omega), zup_n (by omega), rcG_o h9.1 (by omega)]) hL hsl (by rw [zup_s, e61]; omega)
    have hK2 : relK (addF kf ks x) (min (ks + 1) 31) lf ls rf (zup (zup (rcG (sG s) x) 62 0) 61 (if sG s 61 = 0 then 0 else sG s 61 - 1)) := relK_eq hK1 hls (fun j hj => by rw [zup_n (by omega), zup_n (by omega)])
    refine fin_c hT1 hL hsl (zup_rng (zup_rng hrc (by omega)) (by rw [e61]; omega)) r2 (by rw [zup_n (by omega), zup_s]) (relK_cr hK2 (hrep.elim Or.inl (fun q => q.elim Or.inr (fun z => absurd c1 z)))) r7 hnx hsz hbL ?_ ?_ (fun j j1 j2 => ?_) (fun j _ _ => (hplc j).1.2)
    · rw [zup_n (by omega), zup_n (by omega), rcG_o h9.1 (by omega)]; exact b1
    · rw [zup_n (by omega), zup_n (by omega), rcG_o h9.1 (by omega)]; exact b2
    · rw [zup_n (by omega), zup_n (by omega), rcG_o h9.1 (by omega)]; exact b3 j j1 j2
  rw [if_neg c1]
  by_cases c2 : 60 ≤ L
  · rw [if_pos (by omega), tin_2 c1 c2]
    refine ⟨rfl, fin_t ?_ hrc r2 ?_ hK1 r7 ?_ ?_ (fun j j1 j2 => ?_) ?_⟩
    · exact relT_mv hT (fun j hj => rcG_o h9.1 (by omega)) hL hsl (by rw [rcG_o h9.1 (by omega)]; exact e61)
    · rw [rcG_o h9.1 (by omega)]; exact r3
    · rw [rcG_o h9.1 (by omega)]; exact b1
    · rw [rcG_o h9.1 (by omega)]; exact b2
    · rw [rcG_o h9.1 (by omega)]; exact b3 j j1 j2
    · rw [rcG_o h9.1 (by omega), rcG_o h9.1 (by omega)]; exact r8
  · rw [if_neg (by omega), tin_3 c1 c2]
    have ho : ∀ j, 62 ≤ j → isG (sG s) x j = rcG (sG s) x j := fun j hj => by
      unfold isG; rw [e0, e61, zup_n (by omega), zup_n (by omega), zup_n (by omega), zcp_out (by omega)]
    refine ⟨rfl, fin_t (relT_is hT hsl (by omega) (by omega) h9.1) ?_ r2 ?_ (relK_eq hK1 hls (fun j hj => ho j (by omega))) r7 ?_ ?_ (fun j j1 j2 => ?_) ?_⟩
    · unfold isG; rw [e0, e61]; exact zup_rng (zup_rng (zup_rng (zcp_rng hrc hrc) (by omega)) (by omega)) (by omega)
    · rw [ho 62 (by omega), rcG_o h9.1 (by omega)]; exact r3
    · rw [ho 194 (by omega), rcG_o h9.1 (by omega)]; exact b1
    · rw [ho 255 (by omega), rcG_o h9.1 (by omega)]; exact b2
    · rw [ho (195 + j) (by omega), rcG_o h9.1 (by omega)]; exact b3 j j1 j2
    · rw [ho 191 (by omega), ho 192 (by omega), rcG_o h9.1 (by omega), rcG_o h9.1 (by omega)]; exact r8
