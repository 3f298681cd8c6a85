/-! PURE: the demands of both sides, and the readers -/
theorem i32_nat {w : Int32} {m : Nat} (h0 : 0 ≤ w.toInt) (h1 : w.toInt ≤ m) (hm_ : m < 2147483648) : ∃ k : Nat, k ≤ m ∧ w = Int32.ofNat k :=
  ⟨w.toInt.toNat, by omega, i32_ofNat (by omega) (by omega)⟩
theorem t6432 (x : Int32) : x.toInt64.toInt32 = x := by
  rw [← Int32.toInt_inj, t32 (by rw [t64]; exact i32_lo x) (by rw [t64]; exact i32_hi x), t64]
theorem iif1 {α : Type} (a b : α) : (if (1 : Int32) = 0 then a else b) = b := if_neg (by decide)
theorem iif0 {α : Type} (a b : α) : (if (0 : Int32) = 0 then a else b) = a := if_pos rfl
theorem upd0 (f : Nat → Int64) (k : Nat) (x : Int64) : vp_updL f k x k = x := by rw [uL, if_pos rfl]
theorem ckS {α : Type} (E : String) (x : Option α) : ck (E = E) x = x := if_pos rfl
theorem ob_thr {β : Type} (t : Int32) (f : Int32 → Option β) : ob (F_X6_thrown t) f = f t := rfl
theorem X6_in1 {w : Int32} {lo hi : Int64} {l h : Int} (el : lo.toInt = l) (eh : hi.toInt = h) (q : l ≤ w.toInt ∧ w.toInt ≤ h) : F_X6_in w.toInt64 lo hi = some 1 := by
  rw [F_in, if_pos ⟨Int64.le_iff_toInt_le.mpr (by rw [t64]; omega), Int64.le_iff_toInt_le.mpr (by rw [t64]; omega)⟩]
theorem X6_in0 {w : Int32} {lo hi : Int64} {l h : Int} (el : lo.toInt = l) (eh : hi.toInt = h) (q : ¬ (l ≤ w.toInt ∧ w.toInt ≤ h)) : F_X6_in w.toInt64 lo hi = some 0 := by
  rw [F_in, if_neg (fun z => q ⟨by have := Int64.le_iff_toInt_le.mp z.1; rw [t64] at this; omega, by have := Int64.le_iff_toInt_le.mp z.2; rw [t64] at this; omega⟩)]
theorem X6_sig1 {w : Int32} (q : -2000 ≤ w.toInt ∧ w.toInt ≤ 2000) : F_X6_isSignal w.toInt64 = some 1 := by
  unfold F_X6_isSignal
  rw [X6_in1 (l := -2000) (h := 2000) rfl rfl q, ob_s, ck_i (Or.inr rfl)]
theorem X6_sig0 {w : Int32} (q : ¬ (-2000 ≤ w.toInt ∧ w.toInt ≤ 2000)) : F_X6_isSignal w.toInt64 = some 0 := by
  unfold F_X6_isSignal
  rw [X6_in0 (l := -2000) (h := 2000) rfl rfl q, ob_s, ck_i (Or.inl rfl)]
theorem X6_g1 : F_X6_goes 1 1 = some (1, 0) := by
  unfold F_X6_goes
  rw [rg_s, if_neg (by decide), if_neg (by decide)]
  dsimp only
  rw [if_pos rfl]
theorem X6_g0 (b : Int32) : F_X6_goes 0 b = some (0, 1) := by
  unfold F_X6_goes
  rw [rg_s, if_pos rfl]
  dsimp only
  rw [if_neg (by decide)]
theorem X6_g2 : F_X6_goes 1 0 = some (0, 2) := by
  unfold F_X6_goes
  rw [rg_s, if_neg (by decide), if_pos rfl]
  dsimp only
  rw [if_neg (by decide)]
theorem X5_rg1 {w lo hi : Int32} {l h : Int} (el : lo.toInt = l) (eh : hi.toInt = h) (q : l ≤ w.toInt ∧ w.toInt ≤ h) : F_X5_demandRange w lo hi = some (.inl ()) := by
  unfold F_X5_demandRange
  rw [F_isWithin, if_pos ⟨Int32.le_iff_toInt_le.mpr (by omega), Int32.le_iff_toInt_le.mpr (by omega)⟩, ob_s, if_neg (by decide)]
theorem X5_rg0 {w lo hi : Int32} {l h : Int} (el : lo.toInt = l) (eh : hi.toInt = h) (q : ¬ (l ≤ w.toInt ∧ w.toInt ≤ h)) : F_X5_demandRange w lo hi = some (.inr xIAE) := by
  unfold F_X5_demandRange
  rw [F_isWithin, if_neg (fun z => q ⟨by have := Int32.le_iff_toInt_le.mp z.1; omega, by have := Int32.le_iff_toInt_le.mp z.2; omega⟩), ob_s, if_pos rfl]
theorem X5_sig1 {w : Int32} (q : -2000 ≤ w.toInt ∧ w.toInt ≤ 2000) : F_X5_demandSignal w = some (.inl ()) := by
  unfold F_X5_demandSignal
  rw [X5_rg1 (l := -2000) (h := 2000) rfl rfl q, obx_v]
theorem X5_sig0 {w : Int32} (q : ¬ (-2000 ≤ w.toInt ∧ w.toInt ≤ 2000)) : F_X5_demandSignal w = some (.inr xIAE) := by
  unfold F_X5_demandSignal
  rw [X5_rg0 (l := -2000) (h := 2000) rfl rfl q, obx_r]
theorem X5_par1 {w : Int32} (q : 0 ≤ w.toInt ∧ w.toInt ≤ 2) : F_X5_demandParameter w = some (.inl ()) := by
  have z0 : (0 : Int32).toInt = 0 := rfl
  have z3 : (3 : Int32).toInt = 3 := rfl
  unfold F_X5_demandParameter
  rw [if_neg (fun z => by have := Int32.lt_iff_toInt_lt.mp z; omega), if_pos (Int32.lt_iff_toInt_lt.mpr (by omega))]
theorem X5_par0 {w : Int32} (q : ¬ (0 ≤ w.toInt ∧ w.toInt ≤ 2)) : F_X5_demandParameter w = some (.inr xIOB) := by
  have z0 : (0 : Int32).toInt = 0 := rfl
  have z3 : (3 : Int32).toInt = 3 := rfl
  unfold F_X5_demandParameter
  by_cases h : w < 0
  · rw [if_pos h]
  · have h' := (not_congr Int32.lt_iff_toInt_lt).mp h
    rw [if_neg h, if_neg (fun z => by have := Int32.lt_iff_toInt_lt.mp z; omega)]
theorem B_value {N : Int} {A : ST} {f : Nat → Int64} (hA : RS N A f) (w : Int32) : (F_X5_value A w = some (.inr xIAE) ∧ F_X6_value f w = some (0, 1)) ∨ ∃ v : Int32, F_X5_value A w = some (.inl v) ∧ F_X6_value f w = some (v, 0) := by
  unfold F_X5_value F_X6_value
  by_cases q : 0 ≤ w.toInt ∧ w.toInt ≤ 6
  · right
    obtain ⟨k, hk, rfl⟩ := i32_nat (m := 6) q.1 q.2 (by decide)
    refine ⟨A.1 k, ?_, ?_⟩
    · rw [X5_rg1 (l := 0) (h := 6) rfl rfl q, obx_v, ck_i (nIn (by omega) (by omega)), nN (by omega)]
    · rw [X6_in1 (l := 0) (h := 6) rfl rfl q, ob_s]
      try dsimp only
      rw [X6_g1, ob_s]
      try dsimp only
      rw [iif1, Int32.zero_add, ck_i (nIn (by omega) (by omega)), nN (by omega), ← hA.1 k (by omega), t6432]
  · left
    rw [X5_rg0 (l := 0) (h := 6) rfl rfl q, obx_r, X6_in0 (l := 0) (h := 6) rfl rfl q, ob_s]
    try dsimp only
    rw [X6_g0, ob_s]
    exact ⟨rfl, rfl⟩
theorem nA7 (k : Nat) : (7 : Int32) + 2 * Int32.ofNat k = Int32.ofNat (7 + 2 * k) := by
  rw [show (7 : Int32) = Int32.ofNat 7 from rfl, show (2 : Int32) = Int32.ofNat 2 from rfl, nM, nA]
theorem nA13 (k : Nat) : (13 : Int32) + Int32.ofNat k = Int32.ofNat (13 + k) := nA 13 k
theorem nA25 (k : Nat) : (25 : Int32) + Int32.ofNat k = Int32.ofNat (25 + k) := nA 25 k
theorem nA30 (k : Nat) : (30 : Int32) + Int32.ofNat k = Int32.ofNat (30 + k) := nA 30 k
theorem nA16 (i j : Nat) : (16 : Int32) + 3 * Int32.ofNat i + Int32.ofNat j = Int32.ofNat (16 + (3 * i + j)) := by
  rw [show (16 : Int32) = Int32.ofNat 16 from rfl, show (3 : Int32) = Int32.ofNat 3 from rfl, nM, nA, nA, Nat.add_assoc]
theorem nA3 (i j : Nat) : (3 : Int32) * Int32.ofNat i + Int32.ofNat j = Int32.ofNat (3 * i + j) := by
  rw [show (3 : Int32) = Int32.ofNat 3 from rfl, nM, nA]
theorem B_box {N : Int} {A : ST} {f : Nat → Int64} (hA : RS N A f) (w b : Int32) : (F_X5_box A w b = some (.inr xIOB) ∧ F_X6_box f w b = some (0, 1)) ∨ ∃ v : Int32, F_X5_box A w b = some (.inl v) ∧ F_X6_box f w b = some (v, 0) := by
  unfold F_X5_box F_X6_box
  by_cases q : 0 ≤ w.toInt ∧ w.toInt ≤ 2
  · right
    obtain ⟨k, hk, rfl⟩ := i32_nat (m := 2) q.1 q.2 (by decide)
    have h1 := hA.2.1 k (by omega)
    rw [X5_par1 q, obx_v, X6_in1 (l := 0) (h := 2) rfl rfl q, ob_s]
    try dsimp only
    rw [X6_g1, ob_s]
    try dsimp only
    rw [iif1, rg_ite]
    by_cases hb : b = 0
    · rw [if_pos hb, if_pos hb, Int32.add_zero, nA7, ck_i (nIn (by omega) (by omega)), ck_i (nIn (by omega) (by omega)), nN (by omega), nN (by omega), ← h1.1, t6432]
      exact ⟨_, rfl, rfl⟩
    · rw [if_neg hb, if_neg hb, nA7, n1, ck_i (nIn (by omega) (by omega)), ck_i (nIn (by omega) (by omega)), nN (by omega), nN (by omega), show 7 + 2 * k + 1 = 8 + 2 * k by omega, ← h1.2.1, t6432]
      exact ⟨_, rfl, rfl⟩
  · left
    rw [X5_par0 q, obx_r, X6_in0 (l := 0) (h := 2) rfl rfl q, ob_s]
    try dsimp only
    rw [X6_g0, ob_s]
    exact ⟨rfl, rfl⟩
theorem B_parameter {N : Int} {A : ST} {f : Nat → Int64} (hA : RS N A f) (w : Int32) : (F_X5_parameter A w = some (.inr xIOB) ∧ F_X6_parameter f w = some (0, 1)) ∨ ∃ v : Int32, F_X5_parameter A w = some (.inl v) ∧ F_X6_parameter f w = some (v, 0) := by
  unfold F_X5_parameter F_X6_parameter
  by_cases q : 0 ≤ w.toInt ∧ w.toInt ≤ 2
  · right
    obtain ⟨k, hk, rfl⟩ := i32_nat (m := 2) q.1 q.2 (by decide)
    have h1 := hA.2.1 k (by omega)
    rw [X5_par1 q, obx_v, X6_in1 (l := 0) (h := 2) rfl rfl q, ob_s]
    try dsimp only
    rw [X6_g1, ob_s]
    try dsimp only
    rw [iif1, nA13, ck_i (nIn (by omega) (by omega)), ck_i (nIn (by omega) (by omega)), nN (by omega), nN (by omega), ← h1.2.2.1, t6432]
    exact ⟨_, rfl, rfl⟩
  · left
    rw [X5_par0 q, obx_r, X6_in0 (l := 0) (h := 2) rfl rfl q, ob_s]
    try dsimp only
    rw [X6_g0, ob_s]
    exact ⟨rfl, rfl⟩
theorem B_count {N : Int} {A : ST} {f : Nat → Int64} (hA : RS N A f) (w : Int32) : (F_X5_count A w = some (.inr xIAE) ∧ F_X6_count f w = some (0, 1)) ∨ ∃ v : Int32, F_X5_count A w = some (.inl v) ∧ F_X6_count f w = some (v, 0) := by
  unfold F_X5_count F_X6_count
  by_cases q : 0 ≤ w.toInt ∧ w.toInt ≤ 4
  · right
    obtain ⟨k, hk, rfl⟩ := i32_nat (m := 4) q.1 q.2 (by decide)
    rw [X5_rg1 (l := 0) (h := 4) rfl rfl q, obx_v, X6_in1 (l := 0) (h := 4) rfl rfl q, ob_s]
    try dsimp only
    rw [X6_g1, ob_s]
    try dsimp only
    rw [iif1, nA25, ck_i (nIn (by omega) (by omega)), ck_i (nIn (by omega) (by omega)), nN (by omega), nN (by omega), ← hA.2.2.2.1 k (by omega), t6432]
    exact ⟨_, rfl, rfl⟩
  · left
    rw [X5_rg0 (l := 0) (h := 4) rfl rfl q, obx_r, X6_in0 (l := 0) (h := 4) rfl rfl q, ob_s]
    try dsimp only
    rw [X6_g0, ob_s]
    exact ⟨rfl, rfl⟩
theorem B_covariance {N : Int} {A : ST} {f : Nat → Int64} (hA : RS N A f) (w1 w2 : Int32) : (F_X5_covariance A w1 w2 = some (.inr xIOB) ∧ F_X6_covariance f w1 w2 = some (0, 1)) ∨ ∃ v : Int64, F_X5_covariance A w1 w2 = some (.inl v) ∧ F_X6_covariance f w1 w2 = some (v, 0) := by
  unfold F_X5_covariance F_X6_covariance
  by_cases q : 0 ≤ w1.toInt ∧ w1.toInt ≤ 2
  · by_cases r : 0 ≤ w2.toInt ∧ w2.toInt ≤ 2
    · right
      obtain ⟨i, hi, rfl⟩ := i32_nat (m := 2) q.1 q.2 (by decide)
      obtain ⟨j, hj, rfl⟩ := i32_nat (m := 2) r.1 r.2 (by decide)
      rw [X5_par1 q, obx_v, X5_par1 r, obx_v, X6_in1 (l := 0) (h := 2) rfl rfl q, ob_s, rg_s, iif1, X6_in1 (l := 0) (h := 2) rfl rfl r, ob_s, iif1]
      try dsimp only
      rw [X6_g1, ob_s]
      try dsimp only
      rw [iif1, nA16, nA3, ck_i (nIn (by omega) (by omega)), ck_i (nIn (by omega) (by omega)), nN (by omega), nN (by omega), ← hA.2.2.1 (3 * i + j) (by omega)]
      exact ⟨_, rfl, rfl⟩
    · left
      rw [X5_par1 q, obx_v, X5_par0 r, obx_r, X6_in1 (l := 0) (h := 2) rfl rfl q, ob_s, rg_s, iif1, X6_in0 (l := 0) (h := 2) rfl rfl r, ob_s, iif0]
      try dsimp only
      rw [X6_g0, ob_s]
      exact ⟨rfl, rfl⟩
  · left
    rw [X5_par0 q, obx_r, X6_in0 (l := 0) (h := 2) rfl rfl q, ob_s, rg_s, iif0]
    try dsimp only
    rw [X6_g0, ob_s]
    exact ⟨rfl, rfl⟩
theorem B_sum {N : Int} {A : ST} {f : Nat → Int64} (hA : RS N A f) : (A.2.2.2.1 0).toInt64 = f 13 ∧ (A.2.2.2.1 1).toInt64 = f 14 ∧ (A.2.2.2.1 2).toInt64 = f 15 ∧ bd 1310720 (f 13) ∧ bd 1310720 (f 14) ∧ bd 1310720 (f 15) := by
  obtain ⟨h0, h1, h2, h3, hW, h5, hG⟩ := hA
  obtain ⟨-, gb, -⟩ := hG
  exact ⟨(h1 0 (by omega)).2.2.1, (h1 1 (by omega)).2.2.1, (h1 2 (by omega)).2.2.1, (gb 0 (by omega)).2.2.2.1, (gb 1 (by omega)).2.2.2.1, (gb 2 (by omega)).2.2.2.1⟩
theorem B_predict {N : Int} {A : ST} {f : Nat → Int64} (hA : RS N A f) (sF : Nat → Int64) (w1 w2 : Int32) : (F_X5_predict A w1 w2 = some (.inr xIAE) ∧ F_X6_predict f sF w1 w2 = some (0, 1, sF)) ∨ ∃ (v : Int64) (F1 : Nat → Int64), F_X5_predict A w1 w2 = some (.inl v) ∧ F_X6_predict f sF w1 w2 = some (v, 0, F1) := by
  unfold F_X5_predict F_X6_predict
  by_cases q : -2000 ≤ w1.toInt ∧ w1.toInt ≤ 2000
  · by_cases r : -2000 ≤ w2.toInt ∧ w2.toInt ≤ 2000
    · right
      obtain ⟨e0_, e1_, e2_, b0, b1, b2⟩ := B_sum hA
      have wb := w_bd b0 b1 b2 (sig_bd q) (sig_bd r)
      have t := two (a := f 13 * w1.toInt64 + f 14 * w2.toInt64 + f 15) (b := 65536) (by decide) (by decide) wb (by omega)
      have c1 : F_X6_takesRegressor sF w1.toInt64 w2.toInt64 = some (vp_updL (vp_updL (vp_updL sF 0 w1.toInt64) 1 w2.toInt64) 2 1) := rfl
      have c2 : F_X6_sum f (vp_updL (vp_updL (vp_updL sF 0 w1.toInt64) 1 w2.toInt64) 2 1) = some (f 13 * w1.toInt64 + f 14 * w2.toInt64 + f 15 * 1) := rfl
      have c3 : F_X0_weightedSum A.2.2.2.1 w1 w2 = some (f 13 * w1.toInt64 + f 14 * w2.toInt64 + f 15) := by
        unfold F_X0_weightedSum
        rw [e0_, e1_, e2_]
      rw [X5_sig1 q, obx_v, X5_sig1 r, obx_v, c3, ob_s, t.2, ob_s, X6_sig1 q, ob_s, rg_s, iif1, X6_sig1 r, ob_s, iif1]
      try dsimp only
      rw [X6_g1, ob_s]
      try dsimp only
      rw [iif1, c1, ob_s, c2, ob_s, Int64.mul_one, t.1, ob_s]
      exact ⟨_, _, rfl, rfl⟩
    · left
      rw [X5_sig1 q, obx_v, X5_sig0 r, obx_r, X6_sig1 q, ob_s, rg_s, iif1, X6_sig0 r, ob_s, iif0]
      try dsimp only
      rw [X6_g0, ob_s]
      exact ⟨rfl, rfl⟩
  · left
    rw [X5_sig0 q, obx_r, X6_sig0 q, ob_s, rg_s, iif0]
    try dsimp only
    rw [X6_g0, ob_s]
    exact ⟨rfl, rfl⟩
theorem B_uncertainty {N : Int} {A : ST} {f : Nat → Int64} (hA : RS N A f) (sS : Int64) (sF sG : Nat → Int64) (w1 w2 : Int32) : (F_X5_uncertainty A w1 w2 = some (.inr xIAE) ∧ F_X6_uncertainty sS f sF sG w1 w2 = some (FP.dconst0, 1, sS, sF, sG)) ∨ ∃ (v : UInt64) (s1 : Int64) (F1 G1 : Nat → Int64) (A1 : ST), F_X5_uncertainty A w1 w2 = some (.inl (v, A1)) ∧ F_X6_uncertainty sS f sF sG w1 w2 = some (v, 0, s1, F1, G1) ∧ RS N A1 f := by
  unfold F_X5_uncertainty F_X6_uncertainty
  by_cases q : -2000 ≤ w1.toInt ∧ w1.toInt ≤ 2000
  · by_cases r : -2000 ≤ w2.toInt ∧ w2.toInt ≤ 2000
    · right
      have m := hA.2.2.1
      have m0 := m 0 (by omega)
      have m1 := m 1 (by omega)
      have m2 := m 2 (by omega)
      have m3 := m 3 (by omega)
      have m4 := m 4 (by omega)
      have m5 := m 5 (by omega)
      have m6 := m 6 (by omega)
      have m7 := m 7 (by omega)
      have m8 := m 8 (by omega)
      simp only [Nat.reduceAdd] at m0 m1 m2 m3 m4 m5 m6 m7 m8
      have c1 : F_X6_takesRegressor sF w1.toInt64 w2.toInt64 = some (vp_updL (vp_updL (vp_updL sF 0 w1.toInt64) 1 w2.toInt64) 2 1) := rfl
      rw [X5_sig1 q, obx_v, X5_sig1 r, obx_v, C_spread', ob_s, X6_sig1 q, ob_s, rg_s, iif1, X6_sig1 r, ob_s, iif1]
      try dsimp only
      rw [X6_g1, ob_s]
      try dsimp only
      rw [iif1, c1, ob_s, R_spread (y := w1.toInt64) (u := w2.toInt64) rfl rfl rfl, ob_s]
      try dsimp only
      rw [ck_i (fq_nn _), ck_i (fq_nn _), m0, m1, m2, m3, m4, m5, m6, m7, m8]
      exact ⟨_, _, _, _, _, rfl, rfl, hA⟩
    · left
      rw [X5_sig1 q, obx_v, X5_sig0 r, obx_r, X6_sig1 q, ob_s, rg_s, iif1, X6_sig0 r, ob_s, iif0]
      try dsimp only
      rw [X6_g0, ob_s]
      exact ⟨rfl, rfl⟩
  · left
    rw [X5_sig0 q, obx_r, X6_sig0 q, ob_s, rg_s, iif0]
    try dsimp only
    rw [X6_g0, ob_s]
    exact ⟨rfl, rfl⟩
/-- the window's length -/
theorem B_win {N : Int} {A : ST} {f : Nat → Int64} (hA : RS N A f) : ∃ n m : Nat, m ≤ n ∧ n ≤ 20 ∧ F_X4_size A.2.2.2.2.2.2.2.2.1 (A.1 3) = some (Int32.ofNat m) ∧ F_X6_windowLong f = some (Int32.ofNat m) ∧ F_X6_kept f = some (Int32.ofNat n) ∧ ∀ k, k < n → (A.2.2.2.2.2.2.2.2.2.1 (n - 1 - k)).toInt64 = f (36 + 2 * k) ∧ (A.2.2.2.2.2.2.2.2.2.2.1 (n - 1 - k)).toInt64 = f (37 + 2 * k) := by
  obtain ⟨h0, h1, h2, h3, ⟨n, w1, w2, w3, w4⟩, h5, hG⟩ := hA
  obtain ⟨⟨-, -, -, g3_, -⟩, -, -, gc_, -⟩ := hG
  have c0 := gc_ 0 (by omega)
  simp only [Nat.add_zero] at c0
  have s3 := h0 3 (by omega)
  have s3' : (A.1 3).toInt = (f 3).toInt := by rw [← s3, t64]
  obtain ⟨L, hL, eL⟩ := i32_nat (w := A.1 3) (m := 20) (by omega) (by omega) (by decide)
  have hL' : (f 3).toInt = L := by rw [← s3', eL, Int32.toInt_ofNat_of_lt (by omega)]
  refine ⟨n, min n L, by omega, w1, ?_, ?_, R_kept w1 w3, w4⟩
  · unfold F_X4_size
    rw [w2, eL]
    by_cases h : L < n
    · rw [if_pos ((nLt (by omega) (by omega)).mpr h), show min n L = L by omega]
    · rw [if_neg (fun z => h ((nLt (by omega) (by omega)).mp z)), show min n L = n by omega]
  · unfold F_X6_windowLong
    by_cases h : f 25 < f 3
    · have h' := Int64.lt_iff_toInt_lt.mp h
      rw [if_pos h]
      congr 1
      apply i32_ofNat (by omega)
      rw [t32 (by omega) (by omega)]
      omega
    · have h' := (not_congr Int64.lt_iff_toInt_lt).mp h
      rw [if_neg h]
      congr 1
      apply i32_ofNat (by omega)
      rw [t32 (by omega) (by omega)]
      omega
def sumUp (g : Nat → Int64) : Nat → Nat → Int64
  | _, 0 => 0
  | i, d + 1 => g i + sumUp g (i + 1) d
theorem sum_last (g : Nat → Int64) : ∀ d i, sumUp g i (d + 1) = sumUp g i d + g (i + d) := by
  intro d
  induction d with
  | zero =>
    intro i
    show g i + 0 = 0 + g (i + 0)
    rw [Int64.add_zero, Int64.zero_add, Nat.add_zero]
  | succ d ih_ =>
    intro i
    show g i + sumUp g (i + 1) (d + 1) = g i + sumUp g (i + 1) d + g (i + (d + 1))
    rw [ih_ (i + 1), Int64.add_assoc, show i + 1 + d = i + (d + 1) by omega]
theorem sum_rev (g h : Nat → Int64) : ∀ d i k, (∀ j, j < d → g (i + j) = h (k + (d - 1 - j))) → sumUp g i d = sumUp h k d := by
  intro d
  induction d with
  | zero => intro i k _; rfl
  | succ d ih_ =>
    intro i k hh
    rw [sum_last h d k]
    show g i + sumUp g (i + 1) d = _
    have e0_ := hh 0 (by omega)
    rw [Nat.add_zero, show d + 1 - 1 - 0 = d by omega] at e0_
    rw [ih_ (i + 1) k (fun j hj => by
      have := hh (j + 1) (by omega)
      rw [show i + 1 + j = i + (j + 1) by omega, this, show d + 1 - 1 - (j + 1) = d - 1 - j by omega]), e0_, Int64.add_comm]
theorem C_exc {Wo Wi : Nat → Int32} {m : Nat} (hm_ : m ≤ 20) (K : (Int64 × Int64 × Int64) → Option Int64) : ∀ (d i n : Nat) (a b c : Int64), i + d = m → d < n → F_X4_excitation_18 (Int32.ofNat m) Wo Wi n K a b c (Int32.ofNat i) = K (a + sumUp (fun j => (Wo j).toInt64 * (Wo j).toInt64) i d, b + sumUp (fun j => (Wi j).toInt64 * (Wi j).toInt64) i d, c + sumUp (fun j => (Wo j).toInt64 * (Wi j).toInt64) i d) := by
  intro d
  induction d with
  | zero =>
    intro i n a b c hi hn
    obtain ⟨n', rfl⟩ := fuel_s hn
    rw [F_X4_excitation_18, if_pos ((nLe (by omega) (by omega)).mpr (by omega))]
    show K (a, b, c) = K (a + 0, b + 0, c + 0)
    rw [Int64.add_zero, Int64.add_zero, Int64.add_zero]
  | succ d ih_ =>
    intro i n a b c hi hn
    obtain ⟨n', rfl⟩ := fuel_s hn
    rw [F_X4_excitation_18, if_neg (fun z => by have := (nLe (a := m) (b := i) (by omega) (by omega)).mp z; omega), ck_i (nIn (by omega) (by omega)), ltl_s, ck_i (nIn (by omega) (by omega)), ltl_s, ltl_s, ltl_s, ltl_s, ltl_s, n1, nN (by omega), ih_ (i + 1) n' _ _ _ (by omega) (by omega)]
    show K (_, _, _) = K (a + (_ + _), b + (_ + _), c + (_ + _))
    rw [Int64.add_assoc, Int64.add_assoc, Int64.add_assoc]
theorem nA36 (k : Nat) : (36 : Int32) + 2 * Int32.ofNat k = Int32.ofNat (36 + 2 * k) := by
  rw [show (36 : Int32) = Int32.ofNat 36 from rfl, show (2 : Int32) = Int32.ofNat 2 from rfl, nM, nA]
theorem R_exc {f : Nat → Int64} {m : Nat} (hm_ : m ≤ 20) (hk : F_X6_kept f = some (Int32.ofNat m)) (K : (Int64 × Int64 × Int64) → Option Int64) : ∀ (d i n : Nat) (a b c : Int64), i + d = m → d < n → F_X6_determinantNow_18 f n K a b c (Int32.ofNat i) = K (a + sumUp (fun j => f (36 + 2 * j) * f (36 + 2 * j)) i d, b + sumUp (fun j => f (37 + 2 * j) * f (37 + 2 * j)) i d, c + sumUp (fun j => f (36 + 2 * j) * f (37 + 2 * j)) i d) := by
  intro d
  induction d with
  | zero =>
    intro i n a b c hi hn
    obtain ⟨n', rfl⟩ := fuel_s hn
    rw [F_X6_determinantNow_18, hk, ob_s, if_pos ((nLe (by omega) (by omega)).mpr (by omega))]
    show K (a, b, c) = K (a + 0, b + 0, c + 0)
    rw [Int64.add_zero, Int64.add_zero, Int64.add_zero]
  | succ d ih_ =>
    intro i n a b c hi hn
    obtain ⟨n', rfl⟩ := fuel_s hn
    rw [F_X6_determinantNow_18, hk, ob_s, if_neg (fun z => by have := (nLe (a := m) (b := i) (by omega) (by omega)).mp z; omega), nA36, ck_i (nIn (by omega) (by omega)), ltl_s, n1, ck_i (nIn (by omega) (by omega)), ltl_s, ltl_s, ltl_s, ltl_s, ltl_s, n1, nN (by omega), nN (by omega), show 36 + 2 * i + 1 = 37 + 2 * i by omega, ih_ (i + 1) n' _ _ _ (by omega) (by omega)]
    show K (_, _, _) = K (a + (_ + _), b + (_ + _), c + (_ + _))
    rw [Int64.add_assoc, Int64.add_assoc, Int64.add_assoc]
theorem nS {a b : Nat} (h : b ≤ a) : Int32.ofNat a - Int32.ofNat b = Int32.ofNat (a - b) := (Int32.ofNat_sub a b h).symm
theorem B_det {N : Int} {A : ST} {f : Nat → Int64} (hA : RS N A f) : ∃ v : Int64, F_X5_determinant A = some v ∧ F_X6_determinantNow f = some v := by
  obtain ⟨n, m, hmn, hn, s1, s2, s3, s4⟩ := B_win hA
  unfold F_X5_determinant F_X4_excitation F_X6_determinantNow
  rw [s1, ob_s, s2, s3, ob_s, ob_s, ltl_s, nS hmn, show (0 : Int32) = Int32.ofNat 0 from rfl]
  rw [C_exc (by omega) _ m 0 1000 0 0 0 (by omega) (by omega), ob_s, R_exc hn s3 _ m (n - m) 1000 0 0 0 (by omega) (by omega)]
  have e1_ : sumUp (fun j => (A.2.2.2.2.2.2.2.2.2.1 j).toInt64 * (A.2.2.2.2.2.2.2.2.2.1 j).toInt64) 0 m = sumUp (fun j => f (36 + 2 * j) * f (36 + 2 * j)) (n - m) m := sum_rev _ _ m 0 (n - m) (fun j hj => by
    have := s4 (n - 1 - j) (by omega)
    rw [show n - 1 - (n - 1 - j) = j by omega] at this
    try dsimp only
    rw [Nat.zero_add, this.1, show n - m + (m - 1 - j) = n - 1 - j by omega])
  have e2_ : sumUp (fun j => (A.2.2.2.2.2.2.2.2.2.2.1 j).toInt64 * (A.2.2.2.2.2.2.2.2.2.2.1 j).toInt64) 0 m = sumUp (fun j => f (37 + 2 * j) * f (37 + 2 * j)) (n - m) m := sum_rev _ _ m 0 (n - m) (fun j hj => by
    have := s4 (n - 1 - j) (by omega)
    rw [show n - 1 - (n - 1 - j) = j by omega] at this
    try dsimp only
    rw [Nat.zero_add, this.2, show n - m + (m - 1 - j) = n - 1 - j by omega])
  have e3_ : sumUp (fun j => (A.2.2.2.2.2.2.2.2.2.1 j).toInt64 * (A.2.2.2.2.2.2.2.2.2.2.1 j).toInt64) 0 m = sumUp (fun j => f (36 + 2 * j) * f (37 + 2 * j)) (n - m) m := sum_rev _ _ m 0 (n - m) (fun j hj => by
    have := s4 (n - 1 - j) (by omega)
    rw [show n - 1 - (n - 1 - j) = j by omega] at this
    try dsimp only
    rw [Nat.zero_add, this.1, this.2, show n - m + (m - 1 - j) = n - 1 - j by omega])
  rw [e1_, e2_, e3_]
  exact ⟨_, rfl, rfl⟩
theorem B_exc {N : Int} {A : ST} {f : Nat → Int64} (hA : RS N A f) : ∃ v : Int32, F_X5_exciting A = some v ∧ F_X6_exciting f = some (v, 0) := by
  obtain ⟨n, m, hmn, hn, s1, s2, s3, s4⟩ := B_win hA
  obtain ⟨d, d1, d2⟩ := B_det hA
  unfold F_X5_exciting F_X5_inWindow F_X6_exciting
  rw [s1, ob_s, ob_s, s2, ob_s, d1, d2, ob_s, ob_s, hA.1 3 (by omega)]
  by_cases h : (Int32.ofNat m).toInt64 = f 3
  · rw [if_pos h, if_pos h]
    by_cases h2 : d < 1000 * (Int32.ofNat m).toInt64 * (Int32.ofNat m).toInt64
    · rw [if_pos h2, if_pos h2]
      exact ⟨_, rfl, rfl⟩
    · rw [if_neg h2, if_neg h2]
      exact ⟨_, rfl, rfl⟩
  · rw [if_neg h, if_neg h]
    exact ⟨_, rfl, rfl⟩
theorem B_controlC {N : Int} {A : ST} {f : Nat → Int64} (hA : RS N A f) (w1 w2 : Int32) : (F_X5_control A w1 w2 = some (.inr xIAE) ∧ F_X6_control f w1 w2 = some (0, 1)) ∨ ∃ v : Int32, F_X5_control A w1 w2 = some (.inl v) ∧ F_X6_control f w1 w2 = some (v, 0) := by
  unfold F_X5_control F_X6_control
  by_cases q : -2000 ≤ w1.toInt ∧ w1.toInt ≤ 2000
  · by_cases r : -2000 ≤ w2.toInt ∧ w2.toInt ≤ 2000
    · right
      obtain ⟨w, c1, c2, -⟩ := B_control hA q r
      rw [X5_sig1 q, obx_v, X5_sig1 r, obx_v, c2, ob_s, X6_sig1 q, ob_s, rg_s, iif1, X6_sig1 r, ob_s, iif1]
      try dsimp only
      rw [X6_g1, ob_s]
      try dsimp only
      rw [iif1, c1, ob_s, t6432]
      exact ⟨_, rfl, rfl⟩
    · left
      rw [X5_sig1 q, obx_v, X5_sig0 r, obx_r, X6_sig1 q, ob_s, rg_s, iif1, X6_sig0 r, ob_s, iif0]
      try dsimp only
      rw [X6_g0, ob_s]
      exact ⟨rfl, rfl⟩
  · left
    rw [X5_sig0 q, obx_r, X6_sig0 q, ob_s, rg_s, iif0]
    try dsimp only
    rw [X6_g0, ob_s]
    exact ⟨rfl, rfl⟩
theorem B_bias {N : Int} {A : ST} {f : Nat → Int64} (hA : RS N A f) (w : Int32) : (F_X5_bias A w = some (.inr xIOB) ∧ F_X6_bias f w = some (0, 1)) ∨ ∃ v : Int32, F_X5_bias A w = some (.inl v) ∧ F_X6_bias f w = some (v, 0) := by
  unfold F_X5_bias F_X6_bias
  by_cases q : 0 ≤ w.toInt ∧ w.toInt ≤ 2
  · right
    obtain ⟨k, hk, rfl⟩ := i32_nat (m := 2) q.1 q.2 (by decide)
    have h1 := hA.2.1 k (by omega)
    have g1 := (hA.2.2.2.2.2.2.2.1 k (by omega)).2.2.2.2
    have t := two (a := 65536 * f (30 + k)) (b := 1000) (by decide) (by decide) (i64_mul (lit64q (x := 65536) (n := 65536) rfl 65536 (by omega) (by omega)) g1 (by omega)).2 (by omega)
    rw [X5_par1 q, obx_v, X6_in1 (l := 0) (h := 2) rfl rfl q, ob_s]
    try dsimp only
    rw [X6_g1, ob_s]
    try dsimp only
    have en : (Int32.ofNat k).toNatClampNeg = k := nN (by omega)
    have t2 : F_X5_divideDown (65536 * (A.2.2.2.2.2.2.2.2.2.2.2.2.2.2 (Int32.ofNat k).toNatClampNeg).toInt64) 1000 = some (fl (65536 * f (30 + k)) 1000) := by
      rw [en, h1.2.2.2]
      exact t.2
    rw [iif1, nA13, nA30, ck_i (nIn (by omega) (by omega)), ck_i (nIn (by omega) (by omega)), ck_i (nIn (by omega) (by omega)), t2, ob_s, ck_i (nIn (by omega) (by omega)), en, nN (by omega), nN (by omega), t.1, ob_s, h1.2.2.1]
    exact ⟨_, rfl, rfl⟩
  · left
    rw [X5_par0 q, obx_r, X6_in0 (l := 0) (h := 2) rfl rfl q, ob_s]
    try dsimp only
    rw [X6_g0, ob_s]
    exact ⟨rfl, rfl⟩
