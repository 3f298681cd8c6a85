/-! PURE: runs of steps -/
theorem B_closed {N : Int} {A : ST} {f sF sG sK : Nat → Int64} {sS : Int64} (hA : RS N A f) (hN_ : N < 2147483646) {r : Int32} (hr : -2000 ≤ r.toInt ∧ r.toInt ≤ 2000) :
    ∃ (s1 : Int64) (f1 F1 G1 K1 : Nat → Int64) (w : Int32) (A1 : ST), F_X6_stepsClosed sS f sF sG sK r.toInt64 = some (s1, f1, F1, G1, K1) ∧ F_X3_inputFor A r A.2.2.2.2.2.2.2.2.2.2.2.2.2.1 = some w ∧ F_X3_step A w = some A1 ∧ RS (N + 1) A1 f1 ∧ (∀ j, j < 13 → f1 j = f j) := by
  have hy : -2000 ≤ A.2.2.2.2.2.2.2.2.2.2.2.2.2.1.toInt ∧ A.2.2.2.2.2.2.2.2.2.2.2.2.2.1.toInt ≤ 2000 := by
    obtain ⟨-, -, -, -, -, h5, hG⟩ := hA
    obtain ⟨-, -, -, -, -, -, g35⟩ := hG
    have e := congrArg Int64.toInt h5.2.2
    rw [t64] at e
    unfold bd at g35
    omega
  obtain ⟨w, w1, w2, w3⟩ := B_control hA hr hy
  obtain ⟨s1, f1, F1, G1, K1, A1, b1, b2, b3, b4⟩ := B_step (sS := sS) (sF := sF) (sG := sG) (sK := sK) hA hN_ w3
  refine ⟨s1, f1, F1, G1, K1, w, A1, ?_, w2, b2, b3, b4⟩
  unfold F_X6_stepsClosed
  rw [hA.2.2.2.2.2.1.2.2] at w1
  rw [w1, ob_s, b1, ob_s]
theorem B_run {r : Int32} (hr : -2000 ≤ r.toInt ∧ r.toInt ≤ 2000) {T : Nat} (hT_ : T ≤ 500) : ∀ (d k n m : Nat) (N : Int) (A : ST) (f sF sG sK : Nat → Int64) (sS : Int64), k + d = T → d < n → d < m → RS N A f → N + d < 2147483646 →
    ∃ (s1 : Int64) (f1 F1 G1 K1 : Nat → Int64) (A1 : ST), (∀ K, F_X6_run_41 (Int32.ofNat T) r n K (Int32.ofNat k) sS f sF sG sK = K (s1, f1, F1, G1, K1)) ∧ (∀ K, F_X5_run_18 (Int32.ofNat T) r m K (Int32.ofNat k) A = K A1) ∧ RS (N + d) A1 f1 := by
  intro d
  induction d with
  | zero =>
    intro k n m N A f sF sG sK sS hk hn hm_ hA hN_
    obtain ⟨n', rfl⟩ := fuel_s hn
    obtain ⟨m', rfl⟩ := fuel_s hm_
    have e : k = T := by omega
    subst e
    refine ⟨sS, f, sF, sG, sK, A, fun K => ?_, fun K => ?_, hA.mono (by omega)⟩
    · rw [F_X6_run_41, if_pos ((nLe (by omega) (by omega)).mpr (Nat.le_refl _))]
    · rw [F_X5_run_18, if_pos ((nLe (by omega) (by omega)).mpr (Nat.le_refl _))]
  | succ d ih_ =>
    intro k n m N A f sF sG sK sS hk hn hm_ hA hN_
    obtain ⟨n', rfl⟩ := fuel_s hn
    obtain ⟨m', rfl⟩ := fuel_s hm_
    obtain ⟨s1, f1, F1, G1, K1, w, A1, b1, b2, b3, b4, -⟩ := B_closed (sS := sS) (sF := sF) (sG := sG) (sK := sK) hA (by omega) hr
    obtain ⟨s2, f2, F2, G2, K2, A2, c1, c2, c3⟩ := ih_ (k + 1) n' m' (N + 1) A1 f1 F1 G1 K1 s1 (by omega) (by omega) (by omega) b4 (by omega)
    refine ⟨s2, f2, F2, G2, K2, A2, fun K => ?_, fun K => ?_, c3.mono (by omega)⟩
    · rw [F_X6_run_41, if_neg (fun q => by have := (nLe (a := T) (b := k) (by omega) (by omega)).mp q; omega), b1, ob_s, ltl_s, n1]
      exact c1 K
    · rw [F_X5_run_18, if_neg (fun q => by have := (nLe (a := T) (b := k) (by omega) (by omega)).mp q; omega), b2, ob_s, b3, ob_s, ltl_s, n1]
      exact c2 K
theorem B_drive {u : Int32} (hu : -2000 ≤ u.toInt ∧ u.toInt ≤ 2000) {T : Nat} (hT_ : T ≤ 500) : ∀ (d k n m : Nat) (N : Int) (A : ST) (f sF sG sK : Nat → Int64) (sS : Int64), k + d = T → d < n → d < m → RS N A f → N + d < 2147483646 →
    ∃ (s1 : Int64) (f1 F1 G1 K1 : Nat → Int64) (A1 : ST), (∀ K, F_X6_drive_41 (Int32.ofNat T) u n K (Int32.ofNat k) sS f sF sG sK = K (s1, f1, F1, G1, K1)) ∧ (∀ K, F_X5_drive_18 (Int32.ofNat T) u m K (Int32.ofNat k) A = K A1) ∧ RS (N + d) A1 f1 := by
  intro d
  induction d with
  | zero =>
    intro k n m N A f sF sG sK sS hk hn hm_ hA hN_
    obtain ⟨n', rfl⟩ := fuel_s hn
    obtain ⟨m', rfl⟩ := fuel_s hm_
    have e : k = T := by omega
    subst e
    refine ⟨sS, f, sF, sG, sK, A, fun K => ?_, fun K => ?_, hA.mono (by omega)⟩
    · rw [F_X6_drive_41, if_pos ((nLe (by omega) (by omega)).mpr (Nat.le_refl _))]
    · rw [F_X5_drive_18, if_pos ((nLe (by omega) (by omega)).mpr (Nat.le_refl _))]
  | succ d ih_ =>
    intro k n m N A f sF sG sK sS hk hn hm_ hA hN_
    obtain ⟨n', rfl⟩ := fuel_s hn
    obtain ⟨m', rfl⟩ := fuel_s hm_
    obtain ⟨s1, f1, F1, G1, K1, A1, b1, b3, b4, -⟩ := B_step (sS := sS) (sF := sF) (sG := sG) (sK := sK) hA (by omega) hu
    obtain ⟨s2, f2, F2, G2, K2, A2, c1, c2, c3⟩ := ih_ (k + 1) n' m' (N + 1) A1 f1 F1 G1 K1 s1 (by omega) (by omega) (by omega) b4 (by omega)
    refine ⟨s2, f2, F2, G2, K2, A2, fun K => ?_, fun K => ?_, c3.mono (by omega)⟩
    · rw [F_X6_drive_41, if_neg (fun q => by have := (nLe (a := T) (b := k) (by omega) (by omega)).mp q; omega), b1, ob_s, ltl_s, n1]
      exact c1 K
    · rw [F_X5_drive_18, if_neg (fun q => by have := (nLe (a := T) (b := k) (by omega) (by omega)).mp q; omega), b3, ob_s, ltl_s, n1]
      exact c2 K
/-- the output, on both sides, is within its range -/
theorem out_rng {N : Int} {A : ST} {f : Nat → Int64} (hA : RS N A f) : (-2000 ≤ A.2.2.2.2.2.2.2.2.2.2.2.2.2.1.toInt ∧ A.2.2.2.2.2.2.2.2.2.2.2.2.2.1.toInt ≤ 2000) ∧ (f 35).toInt = A.2.2.2.2.2.2.2.2.2.2.2.2.2.1.toInt ∧ (f 35).toInt32 = A.2.2.2.2.2.2.2.2.2.2.2.2.2.1 := by
  obtain ⟨-, -, -, -, -, h5, hG⟩ := hA
  obtain ⟨-, -, -, -, -, -, g35⟩ := hG
  have e := congrArg Int64.toInt h5.2.2
  rw [t64] at e
  unfold bd at g35
  refine ⟨by omega, e.symm, ?_⟩
  rw [← Int32.toInt_inj, t32 (by omega) (by omega), e]
/-- the cost of one step -/
theorem off_eq {r o : Int32} {v : Int64} (hv : v.toInt = o.toInt) (hr : -2000 ≤ r.toInt ∧ r.toInt ≤ 2000) (ho : -2000 ≤ o.toInt ∧ o.toInt ≤ 2000) : (if r.toInt64 - v < 0 then -(r.toInt64 - v) else r.toInt64 - v) = (if (0 : Int32) ≤ r - o then r - o else 0 - (r - o)).toInt64 ∧ 0 ≤ (if r.toInt64 - v < 0 then -(r.toInt64 - v) else r.toInt64 - v).toInt ∧ (if r.toInt64 - v < 0 then -(r.toInt64 - v) else r.toInt64 - v).toInt ≤ 4000 := by
  have e1_ : (r.toInt64 - v).toInt = r.toInt - o.toInt := by
    rw [Int64.toInt_sub, t64, hv]
    exact bmod64 (by omega) (by omega)
  have e2_ : (r - o).toInt = r.toInt - o.toInt := by
    rw [Int32.toInt_sub]
    exact bmod32 (by omega) (by omega)
  have z : (0 : Int32).toInt = 0 := rfl
  have e3_ : (0 - (r - o)).toInt = o.toInt - r.toInt := by
    rw [Int32.toInt_sub, e2_, z, bmod32 (by omega) (by omega)]
    omega
  have e4_ : (-(r.toInt64 - v)).toInt = o.toInt - r.toInt := by
    rw [Int64.toInt_neg, e1_, bmod64 (by omega) (by omega)]
    omega
  by_cases h : r.toInt64 - v < 0
  · have h' := (lt0 _).mp h
    rw [if_pos h, if_neg (fun q => by rw [Int32.le_iff_toInt_le] at q; omega)]
    refine ⟨?_, by omega, by omega⟩
    apply i64_eq
    rw [t64, e3_, e4_]
  · have h' := (not_congr (lt0 _)).mp h
    rw [if_neg h, if_pos (by rw [Int32.le_iff_toInt_le]; omega)]
    refine ⟨?_, by omega, by omega⟩
    apply i64_eq
    rw [t64, e2_, e1_]
