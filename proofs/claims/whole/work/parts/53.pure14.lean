/-! PURE: the what-if runs -/
theorem B_cost {r : Int32} (hr : -2000 ≤ r.toInt ∧ r.toInt ≤ 2000) {T : Nat} (hT_ : T ≤ 500) : ∀ (d k n m : Nat) (N : Int) (A : ST) (f sF sG sK : Nat → Int64) (sS sum : Int64), k + d = T → d < n → d < m → RS N A f → N + d < 2147483646 → (0 ≤ sum.toInt ∧ sum.toInt ≤ 4000 * k) →
    ∃ (tot s1 : Int64) (f1 F1 G1 K1 : Nat → Int64) (A1 : ST), (∀ K, F_X6_costs_18 (Int32.ofNat T) r.toInt64 n K sum (Int32.ofNat k) sS f sF sG sK = K (tot, s1, f1, F1, G1, K1)) ∧ (∀ K, F_X3_costOfSteps_5 (Int32.ofNat T) r m K sum (Int32.ofNat k) A = K (tot, A1)) ∧ (0 ≤ tot.toInt ∧ tot.toInt ≤ 4000 * T) := by
  intro d
  induction d with
  | zero =>
    intro k n m N A f sF sG sK sS sum hk hn hm_ hA hN_ hs
    obtain ⟨n', rfl⟩ := fuel_s hn
    obtain ⟨m', rfl⟩ := fuel_s hm_
    have e : k = T := by omega
    subst e
    refine ⟨sum, sS, f, sF, sG, sK, A, fun K => ?_, fun K => ?_, hs⟩
    · rw [F_X6_costs_18, if_pos ((nLe (by omega) (by omega)).mpr (Nat.le_refl _))]
    · rw [F_X3_costOfSteps_5, if_pos ((nLe (by omega) (by omega)).mpr (Nat.le_refl _))]
  | succ d ih_ =>
    intro k n m N A f sF sG sK sS sum hk hn hm_ hA hN_ hs
    obtain ⟨n', rfl⟩ := fuel_s hn
    obtain ⟨m', rfl⟩ := fuel_s hm_
    obtain ⟨s1, f1, F1, G1, K1, w, A1, b1, b2, b3, b4, -⟩ := B_closed (sS := sS) (sF := sF) (sG := sG) (sK := sK) hA (by omega) hr
    obtain ⟨o1, o2, o3⟩ := out_rng b4
    obtain ⟨p1, p2, p3⟩ := off_eq o2 hr o1
    obtain ⟨x, hx⟩ : ∃ x, x = (if r.toInt64 - f1 35 < 0 then -(r.toInt64 - f1 35) else r.toInt64 - f1 35) := ⟨_, rfl⟩
    rw [← hx] at p1 p2 p3
    have hsum : (sum + x).toInt = sum.toInt + x.toInt := by
      rw [Int64.toInt_add]
      exact bmod64 (by omega) (by omega)
    obtain ⟨tot, s2, f2, F2, G2, K2, A2, c1, c2, c3⟩ := ih_ (k + 1) n' m' (N + 1) A1 f1 F1 G1 K1 s1 (sum + x) (by omega) (by omega) (by omega) b4 (by omega) (by omega)
    refine ⟨tot, s2, f2, F2, G2, K2, A2, fun K => ?_, fun K => ?_, c3⟩
    · rw [F_X6_costs_18, if_neg (fun q => by have := (nLe (a := T) (b := k) (by omega) (by omega)).mp q; omega), b1, ob_s, ltl_s, rg_ite]
      show lt_ (sum + (if r.toInt64 - f1 35 < 0 then -(r.toInt64 - f1 35) else r.toInt64 - f1 35)) _ = _
      rw [← hx, ltl_s, ltl_s, n1]
      exact c1 K
    · rw [F_X3_costOfSteps_5, if_neg (fun q => by have := (nLe (a := T) (b := k) (by omega) (by omega)).mp q; omega), b2, ob_s, b3, ob_s, ← p1, ltl_s, ltl_s, n1]
      exact c2 K
/-- the reference's what-if, beside the component's on its trial state -/
theorem B_costs {r : Int32} (hr : -2000 ≤ r.toInt ∧ r.toInt ≤ 2000) {T : Nat} (hT_ : T ≤ 500) {N : Int} {A : ST} {f : Nat → Int64} (hN_ : N + T < 2147483646) {w : Int64} (hA : RS N A (vp_updL f 5 w)) (sS : Int64) (sAs sF sG sK : Nat → Int64) :
    ∃ (tot s1 : Int64) (f1 as1 F1 G1 K1 : Nat → Int64) (A1 : ST), F_X6_costs sS f sAs sF sG sK r.toInt64 (Int32.ofNat T) w = some (tot, s1, f1, as1, F1, G1, K1) ∧ F_X3_costOfSteps A r (Int32.ofNat T) = some (tot, A1) ∧ (0 ≤ tot.toInt ∧ tot.toInt ≤ 2000000) ∧ ∀ j, j < 76 → f1 j = f j := by
  obtain ⟨tot, s1, f1, F1, G1, K1, A1, c1, c2, c3⟩ := B_cost hr hT_ T 0 1000 1000 N A (vp_updL f 5 w) sF sG sK sS 0 (by omega) (by omega) (by omega) hA hN_ ⟨by decide, by decide⟩
  refine ⟨tot, s1, fun j => if j < 76 then (if j < 76 then f j else sAs j) else f1 j, fun j => if j < 76 then f j else sAs j, F1, G1, K1, A1, ?_, ?_, by omega, ?_⟩
  · unfold F_X6_costs
    rw [R_lays, ob_s, ltl_s]
    refine (c1 _).trans ?_
    try dsimp only
    rw [R_takesBack, ob_s]
  · unfold F_X3_costOfSteps
    exact (c2 _).trans rfl
  · intro j hj
    try dsimp only
    rw [if_pos hj, if_pos hj]
