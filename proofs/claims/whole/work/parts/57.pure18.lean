/-! PURE: the writers that take samples, restart and undo -/
theorem B_sample {N : Int} {xN sN : Int32} {A C0_ C1 C2 C3_ : ST} {f sv : Nat → Int64} (hK_ : RKq N xN A C0_ C1 C2 C3_ sN f sv) (hN_ : N < 2147483646) (sS : Int64) (sF sG sK : Nat → Int64) (w1 w2 w3 : Int32) :
    (F_X5_sample xN A C0_ C1 C2 C3_ w1 w2 w3 = some (.inr xIAE) ∧ F_X6_sample sN sS f sv sF sG sK w1 w2 w3 = some (0, sN, 1, sS, f, sv, sF, sG, sK)) ∨
    ∃ (v : Int64) (xN1 : Int32) (A1 D0 D1 D2 D3 : ST) (sN1 : Int32) (s1 : Int64) (f1 sv1 F1 G1 K1 : Nat → Int64), F_X5_sample xN A C0_ C1 C2 C3_ w1 w2 w3 = some (.inl (v, xN1, A1, D0, D1, D2, D3)) ∧ F_X6_sample sN sS f sv sF sG sK w1 w2 w3 = some (v, sN1, 0, s1, f1, sv1, F1, G1, K1) ∧ RKq (N + 1) xN1 A1 D0 D1 D2 D3 sN1 f1 sv1 := by
  obtain ⟨n, rfl, rfl, hA, hV⟩ := hK_
  unfold F_X5_sample F_X6_sample
  by_cases r1 : -2000 ≤ w1.toInt ∧ w1.toInt ≤ 2000
  · rw [X5_sig1 r1, obx_v, X6_sig1 r1, ob_s, rg_s, iif1]
    by_cases r2 : -2000 ≤ w2.toInt ∧ w2.toInt ≤ 2000
    · rw [X5_sig1 r2, obx_v, X6_sig1 r2, ob_s, iif1]
      by_cases r3 : -4000 ≤ w3.toInt ∧ w3.toInt ≤ 4000
      · right
        obtain ⟨n1', D0, D1, D2, D3, sv1, s1, s2, s3⟩ := B_save hA hV
        obtain ⟨e, s1', f1, F1, G1, K1, Pa_, Ma, Co, Di, Ga, Hd, Wo, Wi, t1, t2, t3, -, t5⟩ := B_take (sS := sS) (sF := sF) (sG := sG) (sK := sK) hA hN_ r1 r2 r3
        have d := two (a := e) (b := 65536) (by decide) (by decide) t3 (by omega)
        rw [X5_rg1 (l := -4000) (h := 4000) rfl rfl r3, obx_v, X6_in1 (l := -4000) (h := 4000) rfl rfl r3, ob_s, iif1, s2, obx_v]
        try dsimp only
        rw [X6_g1, ob_s]
        try dsimp only
        rw [iif1, s1, ob_s, t1, t2, ob_s, ob_s]
        try dsimp only
        rw [d.1, d.2, ob_s, ob_s]
        exact ⟨_, _, _, _, _, _, _, _, _, _, _, _, _, _, rfl, rfl, n1', rfl, rfl, t5, s3.mono (by omega)⟩
      · left
        rw [X5_rg0 (l := -4000) (h := 4000) rfl rfl r3, obx_r, X6_in0 (l := -4000) (h := 4000) rfl rfl r3, ob_s, iif0]
        try dsimp only
        rw [X6_g0, ob_s]
        exact ⟨rfl, rfl⟩
    · left
      rw [X5_sig0 r2, obx_r, X6_sig0 r2, ob_s, iif0]
      try dsimp only
      rw [X6_g0, ob_s]
      exact ⟨rfl, rfl⟩
  · left
    rw [X5_sig0 r1, obx_r, X6_sig0 r1, ob_s, rg_s, iif0]
    try dsimp only
    rw [X6_g0, ob_s]
    exact ⟨rfl, rfl⟩
/-- the estimation begun anew, on both sides -/
theorem RS.begin {N : Int} {A : ST} {f : Nat → Int64} (hA : RS N A f) : ∃ (f1 : Nat → Int64) (Pa_ : Nat → Int32) (Ma : Nat → Int64) (Co : Nat → Int32), F_X6_begins f = some f1 ∧ F_X0_begin A.2.1 A.2.2.1 A.2.2.2.1 A.2.2.2.2.1 A.2.2.2.2.2.1 = some (Pa_, Ma, Co, 0) ∧
    ∀ (Di Ga : Nat → Int64) (Wo Wi : Nat → Int32), RS N (A.1, A.2.1, A.2.2.1, Pa_, Ma, Co, Di, Ga, 0, Wo, Wi, A.2.2.2.2.2.2.2.2.2.2.2.1, A.2.2.2.2.2.2.2.2.2.2.2.2.1, A.2.2.2.2.2.2.2.2.2.2.2.2.2.1, A.2.2.2.2.2.2.2.2.2.2.2.2.2.2) f1 := by
  obtain ⟨h0, h1, h2, h3, hW, h5, hG⟩ := hA
  obtain ⟨-, gb, -, gc_, -⟩ := id hG
  have l0 := gb 0 (by omega)
  have l1 := gb 1 (by omega)
  have l2 := gb 2 (by omega)
  have c0 := gc_ 0 (by omega)
  simp only [Nat.reduceAdd, Nat.reduceMul] at l0 l1 l2 c0
  have L0_ := h1 0 (by omega)
  have L1 := h1 1 (by omega)
  have L2 := h1 2 (by omega)
  simp only [Nat.reduceAdd, Nat.reduceMul] at L0_ L1 L2
  obtain ⟨T0_, u0⟩ : ∃ T, T = wi 0 (f 7) (f 8) := ⟨_, rfl⟩
  obtain ⟨T1, u1⟩ : ∃ T, T = wi 65536 (f 9) (f 10) := ⟨_, rfl⟩
  obtain ⟨T2, u2⟩ : ∃ T, T = wi 0 (f 11) (f 12) := ⟨_, rfl⟩
  have bT0 : bd 1310720 T0_ := by rw [u0]; exact wi_bd l0.2.1 l0.1 l0.2.2.1
  have bT1 : bd 1310720 T1 := by rw [u1]; exact wi_bd l1.2.1 l1.1 l1.2.2.1
  have bT2 : bd 1310720 T2 := by rw [u2]; exact wi_bd l2.2.1 l2.1 l2.2.2.1
  have tT : ∀ T : Int64, bd 1310720 T → T.toInt32.toInt64 = T := fun T h => by
    unfold bd at h
    exact t3264 (by omega) (by omega)
  have hR := R_begins f
  rw [← u0, ← u1, ← u2] at hR
  have hC := C_begin A.2.1 A.2.2.1 A.2.2.2.1 A.2.2.2.2.2.1 A.2.2.2.2.1
  rw [L0_.1, L0_.2.1, L1.1, L1.2.1, L2.1, L2.2.1, ← u0, ← u1, ← u2] at hC
  obtain ⟨g, hg⟩ : ∃ g, g = vp_updL (vp_updL (vp_updL (vp_updL (vp_updL (lay9 (vp_updL (vp_updL (vp_updL f 13 T0_) 14 T1) 15 T2)) 25 0) 26 0) 27 0) 28 0) 29 0 := ⟨_, rfl⟩
  rw [← hg] at hR
  have go : ∀ j, ¬ (13 ≤ j ∧ j < 30) → g j = f j := fun j hj => by
    rw [hg, updo (by omega), updo (by omega), updo (by omega), updo (by omega), updo (by omega), lay9_o (by omega), updo (by omega), updo (by omega), updo (by omega)]
  have g13 : g 13 = T0_ := by rw [hg]; rfl
  have g14 : g 14 = T1 := by rw [hg]; rfl
  have g15 : g 15 = T2 := by rw [hg]; rfl
  have gP : ∀ i, i < 9 → lay9C A.2.2.2.2.1 i = g (16 + i) := by
    rw [hg]
    exact lt9 rfl rfl rfl rfl rfl rfl rfl rfl rfl
  have gPb : ∀ i, i < 9 → bd 65536000 (g (16 + i)) := by
    rw [hg]
    exact lt9 c_bd z_bd z_bd z_bd c_bd z_bd z_bd z_bd c_bd
  have gC : ∀ i, i < 5 → g (25 + i) = 0 := by
    rw [hg]
    exact lt5 rfl rfl rfl rfl rfl
  have z0 : (0 : Int64).toInt = 0 := rfl
  refine ⟨g, _, _, _, hR, hC, fun Di Ga Wo Wi => ⟨fun i hi => ?_, fun i hi => ⟨?_, ?_, ?_, ?_⟩, fun i hi => gP i hi, fun i hi => ?_, ⟨0, by omega, rfl, ?_, fun k hk => absurd hk (by omega)⟩, ?_, hG.step (fun j a b => go j b) ?_ gPb ?_⟩⟩
  · rw [go i (by omega)]
    exact h0 i hi
  · rw [go (7 + 2 * i) (by omega)]
    exact (h1 i hi).1
  · rw [go (8 + 2 * i) (by omega)]
    exact (h1 i hi).2.1
  · revert i hi
    refine lt3 ?_ ?_ ?_
    · rw [g13]
      exact tT _ bT0
    · rw [g14]
      exact tT _ bT1
    · rw [g15]
      exact tT _ bT2
  · rw [go (30 + i) (by omega)]
    exact (h1 i hi).2.2.2
  · rw [gC i hi]
    revert i hi
    exact lt5 rfl rfl rfl rfl rfl
  · have e := gC 0 (by omega)
    rw [Nat.add_zero] at e
    rw [e, z0]
    rfl
  · rw [go 33 (by omega), go 34 (by omega), go 35 (by omega)]
    exact h5
  · refine lt3 ?_ ?_ ?_
    · rw [g13]; exact bT0
    · rw [g14]; exact bT1
    · rw [g15]; exact bT2
  · intro i hi
    rw [gC i hi, z0]
    omega
theorem B_restart {N : Int} {xN sN : Int32} {A C0_ C1 C2 C3_ : ST} {f sv : Nat → Int64} (hK_ : RKq N xN A C0_ C1 C2 C3_ sN f sv) :
    ∃ (v xN1 : Int32) (A1 D0 D1 D2 D3 : ST) (sN1 : Int32) (f1 sv1 : Nat → Int64), F_X5_restart xN A C0_ C1 C2 C3_ = some (.inl (v, xN1, A1, D0, D1, D2, D3)) ∧ F_X6_restart sN f sv = some (v, sN1, 0, f1, sv1) ∧ RKq N xN1 A1 D0 D1 D2 D3 sN1 f1 sv1 := by
  obtain ⟨n, rfl, rfl, hA, hV⟩ := hK_
  obtain ⟨n1', D0, D1, D2, D3, sv1, s1, s2, s3⟩ := B_save hA hV
  obtain ⟨f1, Pa_, Ma, Co, r1, r2, r3⟩ := hA.begin
  have h25 := hA.2.2.2.1 0 (by omega)
  rw [Nat.add_zero] at h25
  unfold F_X5_restart F_X6_restart
  rw [s2, obx_v, ltl_s, r2, ob_s, s1, ob_s, ltl_s, r1, ob_s, ← h25, t6432]
  exact ⟨_, _, _, _, _, _, _, _, _, _, rfl, rfl, n1', rfl, rfl, r3 _ _ _ _, s3⟩
theorem B_runM {N : Int} {xN sN : Int32} {A C0_ C1 C2 C3_ : ST} {f sv : Nat → Int64} (hK_ : RKq N xN A C0_ C1 C2 C3_ sN f sv) (hN_ : N + 500 < 2147483646) (sS : Int64) (sF sG sK : Nat → Int64) (w1 w2 : Int32) :
    (F_X5_run xN A C0_ C1 C2 C3_ w1 w2 = some (.inr xIAE) ∧ F_X6_run sN sS f sv sF sG sK w1 w2 = some (0, sN, 1, sS, f, sv, sF, sG, sK)) ∨
    ∃ (v : Int32) (xN1 : Int32) (A1 D0 D1 D2 D3 : ST) (sN1 : Int32) (s1 : Int64) (f1 sv1 F1 G1 K1 : Nat → Int64), F_X5_run xN A C0_ C1 C2 C3_ w1 w2 = some (.inl (v, xN1, A1, D0, D1, D2, D3)) ∧ F_X6_run sN sS f sv sF sG sK w1 w2 = some (v, sN1, 0, s1, f1, sv1, F1, G1, K1) ∧ RKq (N + 500) xN1 A1 D0 D1 D2 D3 sN1 f1 sv1 := by
  obtain ⟨n, rfl, rfl, hA, hV⟩ := hK_
  unfold F_X5_run F_X6_run
  by_cases r1 : -2000 ≤ w1.toInt ∧ w1.toInt ≤ 2000
  · rw [X5_sig1 r1, obx_v, X6_sig1 r1, ob_s, rg_s, iif1]
    by_cases r2 : 0 ≤ w2.toInt ∧ w2.toInt ≤ 500
    · right
      rw [X5_rg1 (l := 0) (h := 500) rfl rfl r2, obx_v, X6_in1 (l := 0) (h := 500) rfl rfl r2, ob_s, iif1]
      obtain ⟨T, hT_, rfl⟩ := i32_nat (m := 500) r2.1 r2.2 (by decide)
      obtain ⟨n1', D0, D1, D2, D3, sv1, s1, s2, s3⟩ := B_save hA hV
      obtain ⟨s1', f1, F1, G1, K1, A1, c1, c2, c3⟩ := B_run r1 hT_ T 0 1000 1000 N A f sF sG sK sS (by omega) (by omega) (by omega) hA (by omega)
      have c1' : ∀ K, F_X6_run_41 (Int32.ofNat T) w1 1000 K 0 sS f sF sG sK = K (s1', f1, F1, G1, K1) := c1
      have c2' : ∀ K, F_X5_run_18 (Int32.ofNat T) w1 1000 K 0 A = K A1 := c2
      rw [s2, obx_v]
      try dsimp only
      rw [X6_g1, ob_s]
      try dsimp only
      rw [iif1, s1, ob_s, c1', c2']
      try dsimp only
      rw [(out_rng c3).2.2]
      exact ⟨_, _, _, _, _, _, _, _, _, _, _, _, _, _, rfl, rfl, n1', rfl, rfl, c3.mono (by omega), s3.mono (by omega)⟩
    · left
      rw [X5_rg0 (l := 0) (h := 500) rfl rfl r2, obx_r, X6_in0 (l := 0) (h := 500) rfl rfl r2, ob_s, iif0]
      try dsimp only
      rw [X6_g0, ob_s]
      exact ⟨rfl, rfl⟩
  · left
    rw [X5_sig0 r1, obx_r, X6_sig0 r1, ob_s, rg_s, iif0]
    try dsimp only
    rw [X6_g0, ob_s]
    exact ⟨rfl, rfl⟩
theorem B_driveM {N : Int} {xN sN : Int32} {A C0_ C1 C2 C3_ : ST} {f sv : Nat → Int64} (hK_ : RKq N xN A C0_ C1 C2 C3_ sN f sv) (hN_ : N + 500 < 2147483646) (sS : Int64) (sF sG sK : Nat → Int64) (w1 w2 : Int32) :
    (F_X5_drive xN A C0_ C1 C2 C3_ w1 w2 = some (.inr xIAE) ∧ F_X6_drive sN sS f sv sF sG sK w1 w2 = some (0, sN, 1, sS, f, sv, sF, sG, sK)) ∨
    ∃ (v : Int32) (xN1 : Int32) (A1 D0 D1 D2 D3 : ST) (sN1 : Int32) (s1 : Int64) (f1 sv1 F1 G1 K1 : Nat → Int64), F_X5_drive xN A C0_ C1 C2 C3_ w1 w2 = some (.inl (v, xN1, A1, D0, D1, D2, D3)) ∧ F_X6_drive sN sS f sv sF sG sK w1 w2 = some (v, sN1, 0, s1, f1, sv1, F1, G1, K1) ∧ RKq (N + 500) xN1 A1 D0 D1 D2 D3 sN1 f1 sv1 := by
  obtain ⟨n, rfl, rfl, hA, hV⟩ := hK_
  unfold F_X5_drive F_X6_drive
  by_cases r1 : -2000 ≤ w1.toInt ∧ w1.toInt ≤ 2000
  · rw [X5_sig1 r1, obx_v, X6_sig1 r1, ob_s, rg_s, iif1]
    by_cases r2 : 0 ≤ w2.toInt ∧ w2.toInt ≤ 500
    · right
      rw [X5_rg1 (l := 0) (h := 500) rfl rfl r2, obx_v, X6_in1 (l := 0) (h := 500) rfl rfl r2, ob_s, iif1]
      obtain ⟨T, hT_, rfl⟩ := i32_nat (m := 500) r2.1 r2.2 (by decide)
      obtain ⟨n1', D0, D1, D2, D3, sv1, s1, s2, s3⟩ := B_save hA hV
      obtain ⟨s1', f1, F1, G1, K1, A1, c1, c2, c3⟩ := B_drive r1 hT_ T 0 1000 1000 N A f sF sG sK sS (by omega) (by omega) (by omega) hA (by omega)
      have c1' : ∀ K, F_X6_drive_41 (Int32.ofNat T) w1 1000 K 0 sS f sF sG sK = K (s1', f1, F1, G1, K1) := c1
      have c2' : ∀ K, F_X5_drive_18 (Int32.ofNat T) w1 1000 K 0 A = K A1 := c2
      rw [s2, obx_v]
      try dsimp only
      rw [X6_g1, ob_s]
      try dsimp only
      rw [iif1, s1, ob_s, c1', c2']
      try dsimp only
      rw [(out_rng c3).2.2]
      exact ⟨_, _, _, _, _, _, _, _, _, _, _, _, _, _, rfl, rfl, n1', rfl, rfl, c3.mono (by omega), s3.mono (by omega)⟩
    · left
      rw [X5_rg0 (l := 0) (h := 500) rfl rfl r2, obx_r, X6_in0 (l := 0) (h := 500) rfl rfl r2, ob_s, iif0]
      try dsimp only
      rw [X6_g0, ob_s]
      exact ⟨rfl, rfl⟩
  · left
    rw [X5_sig0 r1, obx_r, X6_sig0 r1, ob_s, rg_s, iif0]
    try dsimp only
    rw [X6_g0, ob_s]
    exact ⟨rfl, rfl⟩
theorem C_un1 (A C0_ C1 C2 C3_ : ST) : F_X5_undo 1 A C0_ C1 C2 C3_ = some (.inl (0, 0, cpS A C0_)) := by
  unfold F_X5_undo
  rw [if_pos (by decide), ltl_s, ck_i (by decide), if_pos (by decide), C_copy, ob_s] <;> rfl
theorem C_un2 (A C0_ C1 C2 C3_ : ST) : F_X5_undo 2 A C0_ C1 C2 C3_ = some (.inl (1, 1, cpS A C1)) := by
  unfold F_X5_undo
  rw [if_pos (by decide), ltl_s, ck_i (by decide), if_neg (by decide), if_pos (by decide), C_copy, ob_s] <;> rfl
theorem C_un3 (A C0_ C1 C2 C3_ : ST) : F_X5_undo 3 A C0_ C1 C2 C3_ = some (.inl (2, 2, cpS A C2)) := by
  unfold F_X5_undo
  rw [if_pos (by decide), ltl_s, ck_i (by decide), if_neg (by decide), if_neg (by decide), if_pos (by decide), C_copy, ob_s] <;> rfl
theorem C_un4 (A C0_ C1 C2 C3_ : ST) : F_X5_undo 4 A C0_ C1 C2 C3_ = some (.inl (3, 3, cpS A C3_)) := by
  unfold F_X5_undo
  rw [if_pos (by decide), ltl_s, ck_i (by decide), if_neg (by decide), if_neg (by decide), if_neg (by decide), C_copy, ob_s] <;> rfl
theorem R_unN {n : Nat} (hn : n < 4) (f sv : Nat → Int64) : F_X6_undo (Int32.ofNat (n + 1)) f sv = some (Int32.ofNat n, Int32.ofNat n, 0, fun j => if 0 ≤ j ∧ j < 76 then sv (76 * n + j) else f j) := by
  have e : Int32.ofNat (n + 1) - 1 = Int32.ofNat n := by
    rw [show (1 : Int32) = Int32.ofNat 1 from rfl, nS (by omega), Nat.add_sub_cancel]
  have c1 : ∀ K, F_X6_undo_34 (Int32.ofNat n) sv 1000 K 0 f = K (fun j => if 0 ≤ j ∧ j < 76 then sv (76 * n + j) else f j) := fun K => L_undo n hn sv K 76 0 1000 f (by omega) (by omega)
  unfold F_X6_undo
  rw [rg_s, if_neg (fun z => by have := (nLe (a := n + 1) (b := 0) (by omega) (by omega)).mp z; omega)]
  try dsimp only
  rw [X6_g1, ob_s]
  try dsimp only
  rw [iif1, ltl_s, e, c1]
theorem B_undo {N : Int} {xN sN : Int32} {A C0_ C1 C2 C3_ : ST} {f sv : Nat → Int64} (hK_ : RKq N xN A C0_ C1 C2 C3_ sN f sv) :
    (F_X5_undo xN A C0_ C1 C2 C3_ = some (.inr xISE) ∧ F_X6_undo sN f sv = some (0, sN, 1, f)) ∨
    ∃ (v xN1 : Int32) (A1 : ST) (sN1 : Int32) (f1 : Nat → Int64), F_X5_undo xN A C0_ C1 C2 C3_ = some (.inl (v, xN1, A1)) ∧ F_X6_undo sN f sv = some (v, sN1, 0, f1) ∧ RKq N xN1 A1 C0_ C1 C2 C3_ sN1 f1 sv := by
  obtain ⟨n, rfl, rfl, hA, h4, v0, v1, v2, v3⟩ := hK_
  rcases (show n = 0 ∨ n = 1 ∨ n = 2 ∨ n = 3 ∨ n = 4 by omega) with rfl | rfl | rfl | rfl | rfl
  · left
    refine ⟨?_, ?_⟩
    · unfold F_X5_undo
      rw [if_neg (by decide)]
    · unfold F_X6_undo
      rw [rg_s, if_pos (by decide)]
      try dsimp only
      rw [X6_g0, ob_s]
      try dsimp only
      rw [iif0]
  · right
    refine ⟨0, 0, cpS A C0_, 0, _, C_un1 A C0_ C1 C2 C3_, R_unN (n := 0) (by decide) f sv, 0, rfl, rfl, ((v0 (by decide)).copy).congr (fun j hj => ?_), by decide, fun q => absurd q (by decide), fun q => absurd q (by decide), fun q => absurd q (by decide), fun q => absurd q (by decide)⟩
    rw [if_pos ⟨Nat.zero_le _, hj⟩, Nat.mul_zero, Nat.zero_add]
  · right
    refine ⟨1, 1, cpS A C1, 1, _, C_un2 A C0_ C1 C2 C3_, R_unN (n := 1) (by decide) f sv, 1, rfl, rfl, ((v1 (by decide)).copy).congr (fun j hj => ?_), by decide, fun q => v0 (by decide), fun q => absurd q (by decide), fun q => absurd q (by decide), fun q => absurd q (by decide)⟩
    rw [if_pos ⟨Nat.zero_le _, hj⟩]
  · right
    refine ⟨2, 2, cpS A C2, 2, _, C_un3 A C0_ C1 C2 C3_, R_unN (n := 2) (by decide) f sv, 2, rfl, rfl, ((v2 (by decide)).copy).congr (fun j hj => ?_), by decide, fun q => v0 (by decide), fun q => v1 (by decide), fun q => absurd q (by decide), fun q => absurd q (by decide)⟩
    rw [if_pos ⟨Nat.zero_le _, hj⟩]
  · right
    refine ⟨3, 3, cpS A C3_, 3, _, C_un4 A C0_ C1 C2 C3_, R_unN (n := 3) (by decide) f sv, 3, rfl, rfl, ((v3 (by decide)).copy).congr (fun j hj => ?_), by decide, fun q => v0 (by decide), fun q => v1 (by decide), fun q => v2 (by decide), fun q => absurd q (by decide)⟩
    rw [if_pos ⟨Nat.zero_le _, hj⟩]
