/-! PURE: a sample on both sides: the states stay alike -/
theorem sig_bd {x : Int32} {B : Int} (h : -B ≤ x.toInt ∧ x.toInt ≤ B) : bd B x.toInt64 := by
  unfold bd
  rw [t64]
  exact h
/-- the component's pieces after a sample, beside the reference's array -/
theorem B_take {N : Int} {A : ST} {f sF sG sK : Nat → Int64} {sS : Int64} (hA : RS N A f) (hN_ : N < 2147483646) {y u z : Int32} (hy : -2000 ≤ y.toInt ∧ y.toInt ≤ 2000) (hu : -2000 ≤ u.toInt ∧ u.toInt ≤ 2000) (hz : -4000 ≤ z.toInt ∧ z.toInt ≤ 4000) :
    ∃ (e s1 : Int64) (f1 F1 G1 K1 : Nat → Int64) (Pa_ : Nat → Int32) (Ma : Nat → Int64) (Co : Nat → Int32) (Di Ga : Nat → Int64) (Hd : Int32) (Wo Wi : Nat → Int32),
      F_X6_takes sS f sF sG sK y.toInt64 u.toInt64 z.toInt64 = some (e, s1, f1, F1, G1, K1) ∧
      F_X0_take A.2.1 A.2.2.1 A.2.2.2.1 A.2.2.2.2.1 A.2.2.2.2.2.1 A.2.2.2.2.2.2.1 A.2.2.2.2.2.2.2.1 A.2.2.2.2.2.2.2.2.1 A.2.2.2.2.2.2.2.2.2.1 A.2.2.2.2.2.2.2.2.2.2.1 A.1 y u z = some (e, Pa_, Ma, Co, Di, Ga, Hd, Wo, Wi) ∧
      bd 5506334720 e ∧ (∀ j, j < 36 → ¬ (13 ≤ j ∧ j < 30) → f1 j = f j) ∧
      RS (N + 1) (A.1, A.2.1, A.2.2.1, Pa_, Ma, Co, Di, Ga, Hd, Wo, Wi, A.2.2.2.2.2.2.2.2.2.2.2.1, A.2.2.2.2.2.2.2.2.2.2.2.2.1, A.2.2.2.2.2.2.2.2.2.2.2.2.2.1, A.2.2.2.2.2.2.2.2.2.2.2.2.2.2) f1 := by
  obtain ⟨h0, h1, h2, h3, hW, h5, hG⟩ := hA
  obtain ⟨⟨g0, g1, g2, g3_, g4, g5, g6⟩, gb, gp, gc_, gr⟩ := id hG
  have c0 := gc_ 0 (by omega)
  have c1 := gc_ 1 (by omega)
  have c2 := gc_ 2 (by omega)
  have c3 := gc_ 3 (by omega)
  have c4 := gc_ 4 (by omega)
  simp only [Nat.reduceAdd] at c0 c1 c2 c3 c4
  have hYb := sig_bd hy
  have hUb := sig_bd hu
  have hZb := sig_bd hz
  obtain ⟨g, Hd1, Wo1, Wi1, k1, k2, k3, k4⟩ := B_keeps hW (by omega) y u
  obtain ⟨e, he⟩ : ∃ e, e = 65536 * z.toInt64 - (f 13 * y.toInt64 + f 14 * u.toInt64 + f 15) := ⟨_, rfl⟩
  have t13 := (gb 0 (by omega)).2.2.2.1
  have t14 := (gb 1 (by omega)).2.2.2.1
  have t15 := (gb 2 (by omega)).2.2.2.1
  simp only [Nat.reduceAdd] at t13 t14 t15
  have eb : bd 5506334720 e := by
    rw [he]
    exact e_bd (w_bd t13 t14 t15 hYb hUb) hZb
  have q13_ := (h1 0 (by omega)).2.2.1
  have q14_ := (h1 1 (by omega)).2.2.1
  have q15_ := (h1 2 (by omega)).2.2.1
  simp only [Nat.reduceAdd] at q13_ q14_ q15_
  have co0 := h3 0 (by omega)
  have co1 := h3 1 (by omega)
  have co2 := h3 2 (by omega)
  have co3 := h3 3 (by omega)
  have co4 := h3 4 (by omega)
  simp only [Nat.reduceAdd] at co0 co1 co2 co3 co4
  have i0_ : (f 25 + 1).toInt = (f 25).toInt + 1 := inc64 (by omega) (by omega)
  by_cases hc_ : -65536 * f 1 ≤ e ∧ e ≤ 65536 * f 1
  · obtain ⟨F1, hR⟩ := R_take_ign (sS := sS) (sF := sF) (sG := sG) (sK := sK) k1 k3 he hc_
    have hC := C_take_ign (Lo := A.2.1) (Hi := A.2.2.1) (Co := A.2.2.2.2.2.1) (Se := A.1) (Ma := A.2.2.2.2.1) (Di := A.2.2.2.2.2.2.1) (Ga := A.2.2.2.2.2.2.2.1) q13_ q14_ q15_ (h0 1 (by omega)) rfl rfl rfl k2 he (fun q => (absin eb g1).mp q hc_)
    refine ⟨e, _, _, _, _, _, _, _, _, _, _, _, _, _, hR, hC, eb, fun j h1 h2 => ?_, ?_⟩
    · rw [uL, uL, if_neg (by omega), if_neg (by omega)]
      exact k3 j h1
    have i1_ : (f 26 + 1).toInt = (f 26).toInt + 1 := inc64 (by omega) (by omega)
    have v : ∀ j, j < 36 → j ≠ 25 → j ≠ 26 → vp_updL (vp_updL g 25 (g 25 + 1)) 26 (g 26 + 1) j = f j := fun j a b c => by
      rw [uL, uL, if_neg c, if_neg b]
      exact k3 j a
    have v25 : vp_updL (vp_updL g 25 (g 25 + 1)) 26 (g 26 + 1) 25 = f 25 + 1 := by rw [← k3 25 (by omega)]; rfl
    have v26 : vp_updL (vp_updL g 25 (g 25 + 1)) 26 (g 26 + 1) 26 = f 26 + 1 := by rw [← k3 26 (by omega)]; rfl
    refine ⟨fun i hi => ?_, fun i hi => ?_, fun i hi => ?_, ?_, k4 _ (fun j a b => by rw [uL, uL, if_neg (by omega), if_neg (by omega)]) v25, ?_, ?_⟩
    · rw [v i (by omega) (by omega) (by omega)]
      exact h0 i hi
    · rw [v (7 + 2 * i) (by omega) (by omega) (by omega), v (8 + 2 * i) (by omega) (by omega) (by omega), v (13 + i) (by omega) (by omega) (by omega), v (30 + i) (by omega) (by omega) (by omega)]
      exact h1 i hi
    · rw [v (16 + i) (by omega) (by omega) (by omega)]
      exact h2 i hi
    · refine lt5 ?_ ?_ ?_ ?_ ?_
      · show (A.2.2.2.2.2.1 0 + 1).toInt64 = _
        rw [v25]
        exact inc3264 co0 (by omega) (by omega)
      · show (A.2.2.2.2.2.1 1 + 1).toInt64 = _
        rw [v26]
        exact inc3264 co1 (by omega) (by omega)
      · rw [v 27 (by omega) (by omega) (by omega)]
        exact co2
      · rw [v 28 (by omega) (by omega) (by omega)]
        exact co3
      · rw [v 29 (by omega) (by omega) (by omega)]
        exact co4
    · rw [v 33 (by omega) (by omega) (by omega), v 34 (by omega) (by omega) (by omega), v 35 (by omega) (by omega) (by omega)]
      exact h5
    · refine hG.step (fun j a b => v j a (by omega) (by omega)) (fun i hi => ?_) (fun i hi => ?_) (lt5 ?_ ?_ ?_ ?_ ?_)
      · rw [v (13 + i) (by omega) (by omega) (by omega)]
        exact (gb i hi).2.2.2.1
      · rw [v (16 + i) (by omega) (by omega) (by omega)]
        exact gp i hi
      · rw [v25]; omega
      · rw [v26]; omega
      · rw [v 27 (by omega) (by omega) (by omega)]; omega
      · rw [v 28 (by omega) (by omega) (by omega)]; omega
      · rw [v 29 (by omega) (by omega) (by omega)]; omega
  · have m : ∀ i, i < 9 → A.2.2.2.2.1 i = f (16 + i) := h2
    obtain ⟨G0, e0_⟩ : ∃ G0, G0 = f 16 * y.toInt64 + f 17 * u.toInt64 + f 18 := ⟨_, rfl⟩
    obtain ⟨G1, e1_⟩ : ∃ G1, G1 = f 19 * y.toInt64 + f 20 * u.toInt64 + f 21 := ⟨_, rfl⟩
    obtain ⟨G2, e2_⟩ : ∃ G2, G2 = f 22 * y.toInt64 + f 23 * u.toInt64 + f 24 := ⟨_, rfl⟩
    have b0 : bd 262209536000 G0 := by rw [e0_]; exact g_bd (gp 0 (by omega)) (gp 1 (by omega)) (gp 2 (by omega)) hYb hUb
    have b1 : bd 262209536000 G1 := by rw [e1_]; exact g_bd (gp 3 (by omega)) (gp 4 (by omega)) (gp 5 (by omega)) hYb hUb
    have b2 : bd 262209536000 G2 := by rw [e2_]; exact g_bd (gp 6 (by omega)) (gp 7 (by omega)) (gp 8 (by omega)) hYb hUb
    obtain ⟨S, eS⟩ : ∃ S, S = ps (G0 * y.toInt64 + G1 * u.toInt64 + G2) := ⟨_, rfl⟩
    have hS_ : 0 ≤ S.toInt ∧ S.toInt ≤ 1049100353536000 := by rw [eS]; exact ps_bd (by omega) (s_bd b0 b1 b2 hYb hUb)
    obtain ⟨fg, ef⟩ : ∃ fg, fg = if S < f 2 * 65536 then 65536 else f 0 := ⟨_, rfl⟩
    have hf : 50000 ≤ fg.toInt ∧ fg.toInt ≤ 65536 := by
      rw [ef]
      split
      · exact ⟨by decide, by decide⟩
      · exact g0
    obtain ⟨n0, x0⟩ : ∃ k, k = kk G0 S fg := ⟨_, rfl⟩
    obtain ⟨n1, x1⟩ : ∃ k, k = kk G1 S fg := ⟨_, rfl⟩
    obtain ⟨n2, x2_⟩ : ∃ k, k = kk G2 S fg := ⟨_, rfl⟩
    have y0 : bd 6553600 n0 := by rw [x0]; exact kk_bd _ _ _
    have y1 : bd 6553600 n1 := by rw [x1]; exact kk_bd _ _ _
    have y2 : bd 6553600 n2 := by rw [x2_]; exact kk_bd _ _ _
    obtain ⟨r0, z0⟩ : ∃ r, r = fl (n0 * e) 65536 := ⟨_, rfl⟩
    obtain ⟨r1, z1⟩ : ∃ r, r = fl (n1 * e) 65536 := ⟨_, rfl⟩
    obtain ⟨r2, z2⟩ : ∃ r, r = fl (n2 * e) 65536 := ⟨_, rfl⟩
    have R0 := r_two y0 eb
    have R1 := r_two y1 eb
    have R2 := r_two y2 eb
    rw [← z0] at R0
    rw [← z1] at R1
    rw [← z2] at R2
    obtain ⟨T0_, u0⟩ : ∃ T, T = wi (f 13 + r0) (f 7) (f 8) := ⟨_, rfl⟩
    obtain ⟨T1, u1⟩ : ∃ T, T = wi (f 14 + r1) (f 9) (f 10) := ⟨_, rfl⟩
    obtain ⟨T2, u2⟩ : ∃ T, T = wi (f 15 + r2) (f 11) (f 12) := ⟨_, rfl⟩
    have l0 := gb 0 (by omega)
    have l1 := gb 1 (by omega)
    have l2 := gb 2 (by omega)
    simp only [Nat.reduceAdd, Nat.reduceMul] at l0 l1 l2
    have bT0 : bd 1310720 T0_ := by rw [u0]; exact wi_bd l0.2.1 l0.1 l0.2.2.1
    have bT1 : bd 1310720 T1 := by rw [u1]; exact wi_bd l1.2.1 l1.1 l1.2.2.1
    have bT2 : bd 1310720 T2 := by rw [u2]; exact wi_bd l2.2.1 l2.1 l2.2.2.1
    have Q00 := q_two y0 b0
    have Q01 := q_two y0 b1
    have Q02 := q_two y0 b2
    have Q11 := q_two y1 b1
    have Q12 := q_two y1 b2
    have Q22 := q_two y2 b2
    have P00 := p_two (gp 0 (by omega)) Q00.2 hf
    have P01 := p_two (gp 1 (by omega)) Q01.2 hf
    have P02 := p_two (gp 2 (by omega)) Q02.2 hf
    have P11 := p_two (gp 4 (by omega)) Q11.2 hf
    have P12 := p_two (gp 5 (by omega)) Q12.2 hf
    have P22 := p_two (gp 8 (by omega)) Q22.2 hf
    simp only [Nat.reduceAdd] at P00 P01 P02 P11 P12 P22
    obtain ⟨F1, G', K', hR⟩ := R_take_upd (sS := sS) (sF := sF) (sG := sG) (sK := sK) k1 k3 he hc_ e0_ e1_ e2_ eS ef x0 x1 x2_ (k_two b0 hS_ hf).1 (k_two b1 hS_ hf).1 (k_two b2 hS_ hf).1 R0.1 R1.1 R2.1 u0 u1 u2 rfl rfl rfl Q00.1.1 Q01.1.1 Q02.1.1 Q11.1.1 Q12.1.1 Q22.1.1 P00.1 P01.1 P02.1 P11.1 P12.1 P22.1
    have m0 := m 0 (by omega)
    have m1 := m 1 (by omega)
    have m2 := m 2 (by omega)
    have m3 := m 3 (by omega)
    have m4 := m 4 (by omega)
    have m5 := m 5 (by omega)
    have m6 := m 6 (by omega)
    have m7 := m 7 (by omega)
    have m8 := m 8 (by omega)
    simp only [Nat.reduceAdd] at m0 m1 m2 m3 m4 m5 m6 m7 m8
    have L0_ := h1 0 (by omega)
    have L1 := h1 1 (by omega)
    have L2 := h1 2 (by omega)
    simp only [Nat.reduceAdd, Nat.reduceMul] at L0_ L1 L2
    obtain ⟨Di1, Ga1, hC⟩ := C_take_upd (T0_ := T0_) (T1 := T1) (T2 := T2) (Lo := A.2.1) (Hi := A.2.2.1) (Co := A.2.2.2.2.2.1) (Se := A.1) (Ma := A.2.2.2.2.1) (Di := A.2.2.2.2.2.2.1) (Ga := A.2.2.2.2.2.2.2.1) q13_ q14_ q15_ (h0 1 (by omega)) (h0 2 (by omega)) (h0 0 (by omega)) rfl rfl rfl k2 he ((absin eb g1).mpr hc_) (by rw [m0, m1, m2]; exact e0_) (by rw [m3, m4, m5]; exact e1_) (by rw [m6, m7, m8]; exact e2_) eS ef x0 x1 x2_ (k_two b0 hS_ hf).2 (k_two b1 hS_ hf).2 (k_two b2 hS_ hf).2 R0.2 R1.2 R2.2 (by rw [L0_.1, L0_.2.1]; exact u0) (by rw [L1.1, L1.2.1]; exact u1) (by rw [L2.1, L2.2.1]; exact u2) rfl rfl rfl Q00.1.2 Q01.1.2 Q02.1.2 Q11.1.2 Q12.1.2 Q22.1.2 (by rw [m0]; exact P00.2) (by rw [m1]; exact P01.2) (by rw [m2]; exact P02.2) (by rw [m4]; exact P11.2) (by rw [m5]; exact P12.2) (by rw [m8]; exact P22.2)
    generalize fl ((f 16 - fl (n0 * G0) 65536) * 65536) fg = p00 at hR hC
    generalize fl ((f 17 - fl (n0 * G1) 65536) * 65536) fg = p01 at hR hC
    generalize fl ((f 18 - fl (n0 * G2) 65536) * 65536) fg = p02 at hR hC
    generalize fl ((f 20 - fl (n1 * G1) 65536) * 65536) fg = p11 at hR hC
    generalize fl ((f 21 - fl (n1 * G2) 65536) * 65536) fg = p12 at hR hC
    generalize fl ((f 24 - fl (n2 * G2) 65536) * 65536) fg = p22 at hR hC
    generalize orr (if T2 = f 15 + r2 then 0 else 1) (orr (if T1 = f 14 + r1 then 0 else 1) (orr (if T0_ = f 13 + r0 then 0 else 1) 0)) = bb at hR hC
    obtain ⟨w1, w2⟩ := B_upd (A := A) h0 h1 h3 h5 hG hN_ k3 k4 bT0 bT1 bT2 (S < f 2 * 65536) bb p00 p01 p02 p11 p12 p22 Di1 Ga1
    exact ⟨e, _, _, _, _, _, _, _, _, _, _, _, _, _, hR, hC, eb, w1, w2⟩
