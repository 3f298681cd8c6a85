/-! PURE: the plant's step and the control law -/
theorem F_floorMod {a b : Int64} (hb : 0 < b.toInt) (ha : 0 ≤ a.toInt) : F_J9_floorMod_f86c9 a b = some (a - a / b * b) := by
  unfold F_J9_floorMod_f86c9
  rw [ck_i (i64_ne0 hb), ltl_s, if_neg (fun q => by have := (lt0 a).mp ((xor_neg hb).mp q); omega)]
theorem fl_div {a b : Int64} (hb : 0 < b.toInt) (ha : 0 ≤ a.toInt) : a / b = fl a b := by
  apply i64_eq
  have a2 := i64_hi a
  have hq := (ediv_in (a := a.toInt) hb).1 ha
  rw [fl_int hb, Int64.toInt_div, Int.tdiv_eq_ediv_of_nonneg ha]
  exact bmod64 (by omega) (by omega)
theorem mod_int {a b : Int64} (hb : 0 < b.toInt) (ha : 0 ≤ a.toInt) : (a - a / b * b).toInt = a.toInt % b.toInt := by
  have a2 := i64_hi a
  have hq := (ediv_in (a := a.toInt) hb).1 ha
  have hd := Int.mul_ediv_add_emod a.toInt b.toInt
  have hp : 0 ≤ b.toInt * (a.toInt / b.toInt) := Int.mul_nonneg (by omega) hq.1
  have h1 := Int.emod_nonneg a.toInt (by omega : b.toInt ≠ 0)
  have h2 := Int.emod_lt_of_pos a.toInt hb
  have e1_ : (a / b).toInt = a.toInt / b.toInt := by rw [fl_div hb ha, fl_int hb]
  have e2_ : (a / b * b).toInt = b.toInt * (a.toInt / b.toInt) := by
    rw [Int64.toInt_mul, e1_, Int.mul_comm]
    exact bmod64 (by omega) (by omega)
  rw [Int64.toInt_sub, e2_]
  rw [show a.toInt - b.toInt * (a.toInt / b.toInt) = a.toInt % b.toInt by omega]
  exact bmod64 (by omega) (by omega)
def rndq (x : Int64) : Int64 := 1103515245 * x + 12345 - (1103515245 * x + 12345) / 2147483648 * 2147483648
theorem rndq_p {x : Int64} (h : 0 ≤ x.toInt ∧ x.toInt ≤ 2147483647) : F_J9_floorMod_f86c9 (1103515245 * x + 12345) 2147483648 = some (rndq x) ∧ 0 ≤ (rndq x).toInt ∧ (rndq x).toInt ≤ 2147483647 := by
  have e1_ : (1103515245 : Int64).toInt = 1103515245 := rfl
  have e2_ : (12345 : Int64).toInt = 12345 := rfl
  have e3_ : (2147483648 : Int64).toInt = 2147483648 := rfl
  have m : (1103515245 * x).toInt = 1103515245 * x.toInt := by
    rw [Int64.toInt_mul, e1_]
    exact bmod64 (by omega) (by omega)
  have a : (1103515245 * x + 12345).toInt = 1103515245 * x.toInt + 12345 := by
    rw [Int64.toInt_add, m, e2_]
    exact bmod64 (by omega) (by omega)
  have p := mod_int (a := 1103515245 * x + 12345) (b := 2147483648) (by decide) (by omega)
  refine ⟨F_floorMod (by decide) (by omega), ?_⟩
  unfold rndq
  rw [p, e3_]
  omega
def dst (n x : Int64) : Int64 := x / 65536 - x / 65536 / (2 * n + 1) * (2 * n + 1) - n
theorem two_n {n : Int64} (h : 0 ≤ n.toInt ∧ n.toInt ≤ 200) : (2 * n + 1).toInt = 2 * n.toInt + 1 := by
  have e1_ : (2 : Int64).toInt = 2 := rfl
  have m : (2 * n).toInt = 2 * n.toInt := by
    rw [Int64.toInt_mul, e1_]
    exact bmod64 (by omega) (by omega)
  rw [Int64.toInt_add, m, one_int]
  exact bmod64 (by omega) (by omega)
theorem dst_p {Ns : Int32} {x : Int64} (h : 0 ≤ x.toInt ∧ x.toInt ≤ 2147483647) (hn : 0 ≤ Ns.toInt64.toInt ∧ Ns.toInt64.toInt ≤ 200) : F_X1_disturbance Ns x = some (dst Ns.toInt64 x) ∧ bd 400 (dst Ns.toInt64 x) := by
  have t := two_n hn
  have q1 := fl_div (a := x) (b := 65536) (by decide) h.1
  have q0 := (fl_int (a := x) (b := 65536) (by decide))
  have e3_ : (65536 : Int64).toInt = 65536 := rfl
  rw [e3_] at q0
  have hx : 0 ≤ (x / 65536).toInt := by rw [q1, q0]; omega
  have q2 := fl_div (a := x / 65536) (b := 2 * Ns.toInt64 + 1) (by omega) hx
  refine ⟨?_, ?_⟩
  · unfold F_X1_disturbance
    rw [F_divideDown (by decide), ob_s, ltl_s, F_divideDown (by omega), ob_s, ← q1, ← q2, Int64.mul_comm (2 * Ns.toInt64 + 1)]
    rfl
  · have p := mod_int (a := x / 65536) (b := 2 * Ns.toInt64 + 1) (by omega) hx
    have h1 := Int.emod_nonneg (x / 65536).toInt (by omega : (2 * Ns.toInt64 + 1).toInt ≠ 0)
    have h2 := Int.emod_lt_of_pos (x / 65536).toInt (show 0 < (2 * Ns.toInt64 + 1).toInt by omega)
    unfold dst bd
    rw [Int64.toInt_sub, p, bmod64 (by omega) (by omega)]
    omega
theorem nx_bd {p q c y u : Int64} (h0 : bd 3000 p) (h1 : bd 3000 q) (h2 : bd 3000 c) (hy : bd 2000 y) (hu : bd 2000 u) : bd 12003000 (p * y + q * u + c) := by
  have a := (i64_mul h0 hy (by omega)).2
  have b := (i64_mul h1 hu (by omega)).2
  have d := (i64_add a b (by omega)).2
  exact (i64_add d h2 (by omega)).2.le (by omega)
theorem B_step {N : Int} {A : ST} {f sF sG sK : Nat → Int64} {sS : Int64} (hA : RS N A f) (hN_ : N < 2147483646) {u : Int32} (hu : -2000 ≤ u.toInt ∧ u.toInt ≤ 2000) :
    ∃ (s1 : Int64) (f1 F1 G1 K1 : Nat → Int64) (A1 : ST), F_X6_steps sS f sF sG sK u.toInt64 = some (s1, f1, F1, G1, K1) ∧ F_X3_step A u = some A1 ∧ RS (N + 1) A1 f1 ∧ (∀ j, j < 13 → f1 j = f j) := by
  obtain ⟨h0, h1, h2, h3, hW, h5, hG⟩ := id hA
  obtain ⟨g0, gb, gp, gc_, g33, g34, g35⟩ := id hG
  obtain ⟨r1, r2⟩ := rndq_p g34
  obtain ⟨R, hR0, hrn⟩ : ∃ R, R = rndq (f 34) ∧ 1103515245 * f 34 + 12345 - (1103515245 * f 34 + 12345) / 2147483648 * 2147483648 = R := ⟨_, rfl, rfl⟩
  rw [← hR0] at r1 r2
  have hn : 0 ≤ A.2.2.2.2.2.2.2.2.2.2.2.1.toInt64.toInt ∧ A.2.2.2.2.2.2.2.2.2.2.2.1.toInt64.toInt ≤ 200 := by rw [h5.1]; exact g33
  obtain ⟨d1, d2⟩ := dst_p (Ns := A.2.2.2.2.2.2.2.2.2.2.2.1) r2 hn
  rw [h5.1] at d1 d2
  obtain ⟨D, hD0, hdd⟩ : ∃ D, D = dst (f 33) R ∧ R / 65536 - R / 65536 / (2 * f 33 + 1) * (2 * f 33 + 1) - f 33 = D := ⟨_, rfl, rfl⟩
  rw [← hD0] at d1 d2
  clear hD0 hR0
  have hub := sig_bd hu
  have nb := nx_bd (gb 0 (by omega)).2.2.2.2 (gb 1 (by omega)).2.2.2.2 (gb 2 (by omega)).2.2.2.2 g35 hub
  simp only [Nat.reduceAdd] at nb
  obtain ⟨fl1, fl2⟩ := two (b := 1000) (by decide) (by decide) nb (by omega)
  obtain ⟨o, ho⟩ : ∃ o, o = wi (fl (f 30 * f 35 + f 31 * u.toInt64 + f 32) 1000 + D) (-2000) 2000 := ⟨_, rfl⟩
  have hob : bd 2000 o := by rw [ho]; exact wi_bd (by decide) (by decide) (by decide)
  have ho32 : o.toInt32.toInt64 = o := by
    unfold bd at hob
    exact t3264 (by omega) (by omega)
  have hz : -4000 ≤ o.toInt32.toInt ∧ o.toInt32.toInt ≤ 4000 := by
    unfold bd at hob
    rw [t32 (by omega) (by omega)]
    omega
  have hy : -2000 ≤ A.2.2.2.2.2.2.2.2.2.2.2.2.2.1.toInt ∧ A.2.2.2.2.2.2.2.2.2.2.2.2.2.1.toInt ≤ 2000 := by
    have e := congrArg Int64.toInt h5.2.2
    rw [t64] at e
    unfold bd at g35
    omega
  -- the state between: the plant has moved
  have hB_ : RS N (A.1, A.2.1, A.2.2.1, A.2.2.2.1, A.2.2.2.2.1, A.2.2.2.2.2.1, A.2.2.2.2.2.2.1, A.2.2.2.2.2.2.2.1, A.2.2.2.2.2.2.2.2.1, A.2.2.2.2.2.2.2.2.2.1, A.2.2.2.2.2.2.2.2.2.2.1, A.2.2.2.2.2.2.2.2.2.2.2.1, R, o.toInt32, A.2.2.2.2.2.2.2.2.2.2.2.2.2.2) (vp_updL (vp_updL f 34 R) 35 o) := by
    have v : ∀ j, j ≠ 34 → j ≠ 35 → vp_updL (vp_updL f 34 R) 35 o j = f j := fun j a b => by rw [uL, uL, if_neg b, if_neg a]
    refine ⟨fun i hi => ?_, fun i hi => ?_, fun i hi => ?_, fun i hi => ?_, ?_, ⟨?_, by rw [uL, if_neg (by decide), uL, if_pos rfl], ho32⟩, ?_⟩
    · rw [v i (by omega) (by omega)]; exact h0 i hi
    · rw [v (7 + 2 * i) (by omega) (by omega), v (8 + 2 * i) (by omega) (by omega), v (13 + i) (by omega) (by omega), v (30 + i) (by omega) (by omega)]; exact h1 i hi
    · rw [v (16 + i) (by omega) (by omega)]; exact h2 i hi
    · rw [v (25 + i) (by omega) (by omega)]; exact h3 i hi
    · obtain ⟨n, w1, w2, w3, w4⟩ := hW
      refine ⟨n, w1, w2, by rw [v 25 (by omega) (by omega)]; exact w3, fun k hk => ?_⟩
      rw [v (36 + 2 * k) (by omega) (by omega), v (37 + 2 * k) (by omega) (by omega)]
      exact w4 k hk
    · rw [v 33 (by omega) (by omega)]; exact h5.1
    · obtain ⟨a0, a1, a2, a3, a4, a5, a6⟩ := g0
      refine ⟨⟨a0, a1, a2, a3, a4, a5, a6⟩, fun i hi => ?_, fun i hi => ?_, fun i hi => ?_, g33, r2, hob⟩
      · rw [v (7 + 2 * i) (by omega) (by omega), v (8 + 2 * i) (by omega) (by omega), v (13 + i) (by omega) (by omega), v (30 + i) (by omega) (by omega)]; exact gb i hi
      · rw [v (16 + i) (by omega) (by omega)]; exact gp i hi
      · rw [v (25 + i) (by omega) (by omega)]; exact gc_ i hi
  obtain ⟨e, s1, f1, F1, G1, K1, Pa_, Ma, Co, Di, Ga, Hd, Wo, Wi, b1, b2, -, b4, b5⟩ := B_take (sS := sS) (sF := sF) (sG := sG) (sK := sK) hB_ hN_ hy hu hz
  refine ⟨s1, f1, F1, G1, K1, _, ?_, ?_, b5, fun j hj => ?_⟩
  · unfold F_X6_steps
    have hck : ¬ (2 * f 33 + 1 : Int64) = 0 := i64_ne0 (by rw [two_n g33]; omega)
    have v30 : vp_updL f 34 R 30 = f 30 := by rw [uL, if_neg (by decide)]
    have v31 : vp_updL f 34 R 31 = f 31 := by rw [uL, if_neg (by decide)]
    have v32 : vp_updL f 34 R 32 = f 32 := by rw [uL, if_neg (by decide)]
    have v33 : vp_updL f 34 R 33 = f 33 := by rw [uL, if_neg (by decide)]
    have v34 : vp_updL f 34 R 34 = R := by rw [uL, if_pos rfl]
    rw [h5.2.2, ho32] at b1
    rw [ltl_s, ltl_s, hrn, v33, ck_i hck, ltl_s, v34, hdd, v30, v31, v32, fl1, ob_s, F_within, ob_s, ← ho, ltl_s]
    refine Eq.trans (congrArg (fun z => ob z _) b1) ?_
    rfl
  · unfold F_X3_step F_X1_move
    rw [h5.2.1, r1, ob_s, ltl_s]
    have p0 := (h1 0 (by omega)).2.2.2
    have p1 := (h1 1 (by omega)).2.2.2
    have p2 := (h1 2 (by omega)).2.2.2
    simp only [Nat.reduceAdd] at p0 p1 p2
    rw [p0, p1, p2, h5.2.2, fl2, ob_s, d1, ob_s, F_bring, ob_s, ← ho, ob_s]
    show ob (F_X0_take A.2.1 A.2.2.1 A.2.2.2.1 A.2.2.2.2.1 A.2.2.2.2.2.1 A.2.2.2.2.2.2.1 A.2.2.2.2.2.2.2.1 A.2.2.2.2.2.2.2.2.1 A.2.2.2.2.2.2.2.2.2.1 A.2.2.2.2.2.2.2.2.2.2.1 A.1 A.2.2.2.2.2.2.2.2.2.2.2.2.2.1 u o.toInt32) _ = _
    rw [b2]
    rfl
  · rw [b4 j (by omega) (by omega), uL, uL, if_neg (by omega), if_neg (by omega)]
