/-! PURE: the what-if calls -/
theorem RS.self5 {N : Int} {A : ST} {f : Nat → Int64} (hA : RS N A f) : RS N A (vp_updL f 5 (f 5)) := hA.congr (fun j _ => by
  rw [uL]
  by_cases h : j = 5
  · rw [if_pos h, h]
  · rw [if_neg h])
theorem B_costOfC {N : Int} {A : ST} {f : Nat → Int64} (hA : RS N A f) (hN_ : N + 500 < 2147483646) (B : ST) (sS : Int64) (sAs sF sG sK : Nat → Int64) (w1 w2 : Int32) :
    (F_X5_costOf A B w1 w2 = some (.inr xIAE) ∧ F_X6_costOf sS f sAs sF sG sK w1 w2 = some (0, 1, sS, f, sAs, sF, sG, sK)) ∨
    ∃ (v s1 : Int64) (B1 : ST) (f1 as1 F1 G1 K1 : Nat → Int64), F_X5_costOf A B w1 w2 = some (.inl (v, B1)) ∧ F_X6_costOf sS f sAs sF sG sK w1 w2 = some (v, 0, s1, f1, as1, F1, G1, K1) ∧ ∀ j, j < 76 → f1 j = f j := by
  unfold F_X5_costOf F_X6_costOf
  by_cases r1 : -2000 ≤ w1.toInt ∧ w1.toInt ≤ 2000
  · rw [X5_sig1 r1, obx_v, X6_sig1 r1, ob_s, rg_s, iif1]
    by_cases r2 : 0 ≤ w2.toInt ∧ w2.toInt ≤ 500
    · right
      rw [X5_rg1 (l := 0) (h := 500) rfl rfl r2, obx_v, X6_in1 (l := 0) (h := 500) rfl rfl r2, ob_s, iif1]
      obtain ⟨T, hT_, rfl⟩ := i32_nat (m := 500) r2.1 r2.2 (by decide)
      obtain ⟨tot, s1, f1, as1, F1, G1, K1, A1, c1, c2, -, c4⟩ := B_costs r1 hT_ (by omega) ((hA.copy (y := B)).self5) sS sAs sF sG sK
      rw [C_copy, ob_s, c2, ob_s]
      try dsimp only
      rw [X6_g1, ob_s]
      try dsimp only
      rw [iif1, c1, ob_s]
      exact ⟨_, _, _, _, _, _, _, _, rfl, rfl, c4⟩
    · left
      rw [X5_rg0 (l := 0) (h := 500) rfl rfl r2, obx_r, X6_in0 (l := 0) (h := 500) rfl rfl r2, ob_s, iif0]
      try dsimp only
      rw [X6_g0, ob_s]
      exact ⟨rfl, rfl⟩
  · left
    rw [X5_sig0 r1, obx_r, X6_sig0 r1, ob_s, rg_s, iif0]
    try dsimp only
    rw [X6_g0, ob_s]
    exact ⟨rfl, rfl⟩
/-- is the output within the tolerance: both ways of asking -/
theorem tol_eq {r w o : Int32} {v : Int64} (hv : v = o.toInt64) (hr : -2000 ≤ r.toInt ∧ r.toInt ≤ 2000) (hw : 0 ≤ w.toInt ∧ w.toInt ≤ 500) (ho : -2000 ≤ o.toInt ∧ o.toInt ≤ 2000) :
    F_X6_in v (r - w).toInt64 (r + w).toInt64 = some (if w < (if (0 : Int32) ≤ r - o then r - o else 0 - (r - o)) then 0 else 1) := by
  have e1_ : (r - w).toInt = r.toInt - w.toInt := by
    rw [Int32.toInt_sub]
    exact bmod32 (by omega) (by omega)
  have e2_ : (r + w).toInt = r.toInt + w.toInt := by
    rw [Int32.toInt_add]
    exact bmod32 (by omega) (by omega)
  have e3_ : (r - o).toInt = r.toInt - o.toInt := by
    rw [Int32.toInt_sub]
    exact bmod32 (by omega) (by omega)
  have z : (0 : Int32).toInt = 0 := rfl
  have e4_ : (0 - (r - o)).toInt = o.toInt - r.toInt := by
    rw [Int32.toInt_sub, e3_, z, bmod32 (by omega) (by omega)]
    omega
  have key : w < (if (0 : Int32) ≤ r - o then r - o else 0 - (r - o)) ↔ ¬ (r.toInt - w.toInt ≤ o.toInt ∧ o.toInt ≤ r.toInt + w.toInt) := by
    by_cases h : (0 : Int32) ≤ r - o
    · have h' := Int32.le_iff_toInt_le.mp h
      rw [if_pos h, Int32.lt_iff_toInt_lt]
      omega
    · have h' := (not_congr Int32.le_iff_toInt_le).mp h
      rw [if_neg h, Int32.lt_iff_toInt_lt]
      omega
  subst hv
  by_cases h : r.toInt - w.toInt ≤ o.toInt ∧ o.toInt ≤ r.toInt + w.toInt
  · rw [X6_in1 (by rw [t64]; exact e1_) (by rw [t64]; exact e2_) h, if_neg (fun q => key.mp q h)]
  · rw [X6_in0 (by rw [t64]; exact e1_) (by rw [t64]; exact e2_) h, if_pos (key.mpr h)]
theorem out_i {N : Int} {A : ST} {f : Nat → Int64} (hA : RS N A f) : f 35 = A.2.2.2.2.2.2.2.2.2.2.2.2.2.1.toInt64 := hA.2.2.2.2.2.1.2.2.symm
theorem rg_tol {β : Type} (c : Prop) [Decidable c] (v : Int32) (F : Int32 → Option β) : rg (α := Int32) (fun K => if (if c then (0 : Int32) else 1) = 0 then K 0 else K (v + 1)) F = F (if c then 0 else v + 1) := by
  by_cases h : c
  · rw [rg_s, if_pos h, if_pos rfl, if_pos h]
  · rw [rg_s, if_neg h, if_neg (by decide), if_neg h]
theorem B_settle {r w : Int32} (hr : -2000 ≤ r.toInt ∧ r.toInt ≤ 2000) (hw : 0 ≤ w.toInt ∧ w.toInt ≤ 500) : ∀ (d k v n m : Nat) (N : Int) (A : ST) (f sF sG sK : Nat → Int64) (sS : Int64), k + d = 500 → v < 5 → d + 1 < n → d < m → RS N A f → N + d < 2147483646 →
    (∃ (c : Nat) (s1 : Int64) (f1 F1 G1 K1 : Nat → Int64) (A1 : ST), (∀ K, F_X6_settling_44 r w n K (Int32.ofNat v) (Int32.ofNat k) sS f sF sG sK = K (5, Int32.ofNat c, s1, f1, F1, G1, K1)) ∧ ∀ K, F_X5_settling_28 r w m K (Int32.ofNat v) (Int32.ofNat (k + 1)) A = some (.inl (Int32.ofNat c, A1))) ∨
    (∃ (v1 c : Nat) (s1 : Int64) (f1 F1 G1 K1 : Nat → Int64) (A1 : ST), v1 < 5 ∧ (∀ K, F_X6_settling_44 r w n K (Int32.ofNat v) (Int32.ofNat k) sS f sF sG sK = K (Int32.ofNat v1, Int32.ofNat c, s1, f1, F1, G1, K1)) ∧ ∀ K, F_X5_settling_28 r w m K (Int32.ofNat v) (Int32.ofNat (k + 1)) A = K A1) := by
  intro d
  induction d with
  | zero =>
    intro k v n m N A f sF sG sK sS hk hv hn hm_ hA hN_
    obtain ⟨n', rfl⟩ := fuel_s hn
    obtain ⟨m', rfl⟩ := fuel_s hm_
    have e : k = 500 := by omega
    subst e
    refine Or.inr ⟨v, 500, sS, f, sF, sG, sK, A, hv, fun K => ?_, fun K => ?_⟩
    · rw [F_X6_settling_44, if_neg (show ¬ (5 : Int32) ≤ Int32.ofNat v from fun q => by have := (nLe (a := 5) (b := v) (by omega) (by omega)).mp q; omega), if_pos (by decide)]
    · rw [F_X5_settling_28, if_pos (by decide)]
  | succ d ih_ =>
    intro k v n m N A f sF sG sK sS hk hv hn hm_ hA hN_
    obtain ⟨n', rfl⟩ := fuel_s hn
    obtain ⟨m', rfl⟩ := fuel_s hm_
    obtain ⟨s1, f1, F1, G1, K1, u, A1, b1, b2, b3, b4, -⟩ := B_closed (sS := sS) (sF := sF) (sG := sG) (sK := sK) hA (by omega) hr
    have t := tol_eq (out_i b4) hr hw (out_rng b4).1
    have hR : ∀ K, F_X6_settling_44 r w (n' + 1) K (Int32.ofNat v) (Int32.ofNat k) sS f sF sG sK = F_X6_settling_44 r w n' K (if w < (if (0 : Int32) ≤ r - A1.2.2.2.2.2.2.2.2.2.2.2.2.2.1 then r - A1.2.2.2.2.2.2.2.2.2.2.2.2.2.1 else 0 - (r - A1.2.2.2.2.2.2.2.2.2.2.2.2.2.1)) then 0 else Int32.ofNat v + 1) (Int32.ofNat (k + 1)) s1 f1 F1 G1 K1 := fun K => by
      rw [F_X6_settling_44, if_neg (show ¬ (5 : Int32) ≤ Int32.ofNat v from fun q => by have := (nLe (a := 5) (b := v) (by omega) (by omega)).mp q; omega), if_neg (show ¬ (500 : Int32) ≤ Int32.ofNat k from fun q => by have := (nLe (a := 500) (b := k) (by omega) (by omega)).mp q; omega), b1, ob_s, ltl_s]
      try dsimp only
      rw [t, ob_s, rg_tol, n1 k]
    have hC : ∀ K, F_X5_settling_28 r w (m' + 1) K (Int32.ofNat v) (Int32.ofNat (k + 1)) A = if (if w < (if (0 : Int32) ≤ r - A1.2.2.2.2.2.2.2.2.2.2.2.2.2.1 then r - A1.2.2.2.2.2.2.2.2.2.2.2.2.2.1 else 0 - (r - A1.2.2.2.2.2.2.2.2.2.2.2.2.2.1)) then 0 else Int32.ofNat v + 1) = 5 then some (.inl (Int32.ofNat (k + 1), A1)) else F_X5_settling_28 r w m' K (if w < (if (0 : Int32) ≤ r - A1.2.2.2.2.2.2.2.2.2.2.2.2.2.1 then r - A1.2.2.2.2.2.2.2.2.2.2.2.2.2.1 else 0 - (r - A1.2.2.2.2.2.2.2.2.2.2.2.2.2.1)) then 0 else Int32.ofNat v + 1) (Int32.ofNat (k + 2)) A1 := fun K => by
      rw [F_X5_settling_28, if_neg (show ¬ (500 : Int32) < Int32.ofNat (k + 1) from fun q => by have := (nLt (a := 500) (b := k + 1) (by omega) (by omega)).mp q; omega), b2, ob_s, b3, ob_s, rg_ite, ltl_s, n1 (k + 1)]
    by_cases hc_ : w < (if (0 : Int32) ≤ r - A1.2.2.2.2.2.2.2.2.2.2.2.2.2.1 then r - A1.2.2.2.2.2.2.2.2.2.2.2.2.2.1 else 0 - (r - A1.2.2.2.2.2.2.2.2.2.2.2.2.2.1))
    · rw [if_pos hc_] at hR hC
      have z5 : ¬ (0 : Int32) = 5 := by decide
      rcases ih_ (k + 1) 0 n' m' (N + 1) A1 f1 F1 G1 K1 s1 (by omega) (by omega) (by omega) (by omega) b4 (by omega) with ⟨c, s2, f2, F2, G2, K2, A2, e1_, e2_⟩ | ⟨v1, c, s2, f2, F2, G2, K2, A2, e0_, e1_, e2_⟩
      · exact Or.inl ⟨c, s2, f2, F2, G2, K2, A2, fun K => (hR K).trans (e1_ K), fun K => (hC K).trans ((if_neg z5).trans (e2_ K))⟩
      · exact Or.inr ⟨v1, c, s2, f2, F2, G2, K2, A2, e0_, fun K => (hR K).trans (e1_ K), fun K => (hC K).trans ((if_neg z5).trans (e2_ K))⟩
    · rw [if_neg hc_, n1 v] at hR hC
      by_cases h5 : v + 1 = 5
      · have e5_ : Int32.ofNat (v + 1) = 5 := by rw [h5]; rfl
        rw [e5_] at hR hC
        refine Or.inl ⟨k + 1, s1, f1, F1, G1, K1, A1, fun K => (hR K).trans ?_, fun K => (hC K).trans (if_pos rfl)⟩
        obtain ⟨n'', rfl⟩ := fuel_s (show 0 < n' by omega)
        rw [F_X6_settling_44, if_pos (by decide)]
      · have z5 : ¬ Int32.ofNat (v + 1) = 5 := fun q => by have := (nEq (a := v + 1) (b := 5) (by omega) (by omega)).mp q; omega
        rcases ih_ (k + 1) (v + 1) n' m' (N + 1) A1 f1 F1 G1 K1 s1 (by omega) (by omega) (by omega) (by omega) b4 (by omega) with ⟨c, s2, f2, F2, G2, K2, A2, e1_, e2_⟩ | ⟨v1, c, s2, f2, F2, G2, K2, A2, e0_, e1_, e2_⟩
        · exact Or.inl ⟨c, s2, f2, F2, G2, K2, A2, fun K => (hR K).trans (e1_ K), fun K => (hC K).trans ((if_neg z5).trans (e2_ K))⟩
        · exact Or.inr ⟨v1, c, s2, f2, F2, G2, K2, A2, e0_, fun K => (hR K).trans (e1_ K), fun K => (hC K).trans ((if_neg z5).trans (e2_ K))⟩
theorem B_settlingC {N : Int} {A : ST} {f : Nat → Int64} (hA : RS N A f) (hN_ : N + 500 < 2147483646) (B : ST) (sS : Int64) (sAs sF sG sK : Nat → Int64) (w1 w2 : Int32) :
    (F_X5_settling A B w1 w2 = some (.inr xIAE) ∧ F_X6_settling sS f sAs sF sG sK w1 w2 = some (0, 1, sS, f, sAs, sF, sG, sK)) ∨
    ∃ (v : Int32) (s1 : Int64) (B1 : ST) (f1 as1 F1 G1 K1 : Nat → Int64), F_X5_settling A B w1 w2 = some (.inl (v, B1)) ∧ F_X6_settling sS f sAs sF sG sK w1 w2 = some (v, 0, s1, f1, as1, F1, G1, K1) ∧ ∀ j, j < 76 → f1 j = f j := by
  unfold F_X5_settling F_X6_settling
  by_cases r1 : -2000 ≤ w1.toInt ∧ w1.toInt ≤ 2000
  · rw [X5_sig1 r1, obx_v, X6_sig1 r1, ob_s, rg_s, iif1]
    by_cases r2 : 0 ≤ w2.toInt ∧ w2.toInt ≤ 500
    · right
      rw [X5_rg1 (l := 0) (h := 500) rfl rfl r2, obx_v, X6_in1 (l := 0) (h := 500) rfl rfl r2, ob_s, iif1, C_copy, ob_s]
      try dsimp only
      rw [X6_g1, ob_s]
      try dsimp only
      rw [iif1, R_lays, ob_s]
      rcases B_settle r1 r2 500 0 0 1000 1000 N (cpS B A) f sF sG sK sS (by omega) (by omega) (by omega) (by omega) hA.copy (by omega) with ⟨c, s2, f2, F2, G2, K2, A2, e1_, e2_⟩ | ⟨v1, c, s2, f2, F2, G2, K2, A2, e0_, e1_, e2_⟩
      · have e1' : ∀ K, F_X6_settling_44 w1 w2 1000 K 0 0 sS f sF sG sK = K (5, Int32.ofNat c, s2, f2, F2, G2, K2) := e1_
        have e2' : ∀ K, F_X5_settling_28 w1 w2 1000 K 0 1 (cpS B A) = some (.inl (Int32.ofNat c, A2)) := e2_
        rw [e1', e2']
        try dsimp only
        rw [R_takesBack, ob_s, if_pos rfl]
        refine ⟨_, _, _, _, _, _, _, _, rfl, rfl, fun j hj => ?_⟩
        try dsimp only
        rw [if_pos hj, if_pos hj]
      · have e1' : ∀ K, F_X6_settling_44 w1 w2 1000 K 0 0 sS f sF sG sK = K (Int32.ofNat v1, Int32.ofNat c, s2, f2, F2, G2, K2) := e1_
        have e2' : ∀ K, F_X5_settling_28 w1 w2 1000 K 0 1 (cpS B A) = K A2 := e2_
        rw [e1', e2']
        try dsimp only
        rw [R_takesBack, ob_s, if_neg (fun q => by have := (nEq (a := v1) (b := 5) (by omega) (by omega)).mp q; omega)]
        refine ⟨_, _, _, _, _, _, _, _, rfl, rfl, fun j hj => ?_⟩
        try dsimp only
        rw [if_pos hj, if_pos hj]
    · left
      rw [X5_rg0 (l := 0) (h := 500) rfl rfl r2, obx_r, X6_in0 (l := 0) (h := 500) rfl rfl r2, ob_s, iif0]
      try dsimp only
      rw [X6_g0, ob_s]
      exact ⟨rfl, rfl⟩
  · left
    rw [X5_sig0 r1, obx_r, X6_sig0 r1, ob_s, rg_s, iif0]
    try dsimp only
    rw [X6_g0, ob_s]
    exact ⟨rfl, rfl⟩
/-- one dither tried, on both sides -/
theorem B_dith {r : Int32} (hr : -2000 ≤ r.toInt ∧ r.toInt ≤ 2000) {T : Nat} (hT_ : T ≤ 500) {N : Int} {A : ST} {f : Nat → Int64} (hA : RS N A f) (hN_ : N + 500 < 2147483646) {k : Nat} (hk : k ≤ 100) (B : ST) (sS : Int64) (sAs sF sG sK : Nat → Int64) :
    ∃ (tot s1 : Int64) (f1 as1 F1 G1 K1 : Nat → Int64) (B1 : ST), F_X6_costs sS f sAs sF sG sK r.toInt64 (Int32.ofNat T) (Int32.ofNat k).toInt64 = some (tot, s1, f1, as1, F1, G1, K1) ∧ F_X3_costOfSteps (upd (cpS B A).1 5 (Int32.ofNat k), (cpS B A).2) r (Int32.ofNat T) = some (tot, B1) ∧ (0 ≤ tot.toInt ∧ tot.toInt ≤ 2000000) ∧ ∀ j, j < 76 → f1 j = f j := by
  have e : (Int32.ofNat k).toInt = k := Int32.toInt_ofNat_of_lt (by omega)
  exact B_costs hr hT_ (by omega) ((hA.copy (y := B)).set (k := 5) (w := Int32.ofNat k) (by decide) (by
    rw [e]
    have l : (vLeS 5).toInt = 0 := rfl
    have h : (vMoS 5).toInt = 100 := rfl
    rw [l, h]
    omega)) sS sAs sF sG sK
theorem rg_o0 {α β : Type} {q p : Prop} [Decidable q] [Decidable p] (hq : ¬ q) (a b : α) (F : α → Option β) : rg (fun K => if q then K a else (if p then K a else K b)) F = F (if p then a else b) := by
  show (if q then F a else (if p then F a else F b)) = _
  rw [if_neg hq]
  by_cases h : p
  · rw [if_pos h, if_pos h]
  · rw [if_neg h, if_neg h]
theorem rg_o1 {α β : Type} {q p : Prop} [Decidable q] [Decidable p] (hq : q) (a b : α) (F : α → Option β) : rg (fun K => if q then K a else (if p then K a else K b)) F = F a := by
  show (if q then F a else (if p then F a else F b)) = _
  rw [if_pos hq]
theorem n_neg {k : Nat} (hk : k < 2147483648) : ¬ Int32.ofNat k = -1 := fun q => by
  have h := congrArg Int32.toInt q
  rw [Int32.toInt_ofNat_of_lt (by omega), show (-1 : Int32).toInt = -1 from rfl] at h
  omega
theorem B_best {r : Int32} (hr : -2000 ≤ r.toInt ∧ r.toInt ≤ 2000) {T : Nat} (hT_ : T ≤ 500) {N : Int} {A : ST} (hN_ : N + 500 < 2147483646) {M : Nat} (hM_ : M ≤ 100) : ∀ (d k n m : Nat) (best : Int32) (least : Int64) (B : ST) (f sAs sF sG sK : Nat → Int64) (sS : Int64), k + d = M + 1 → d < n → d < m → RS N A f → ¬ best = -1 →
    ∃ (b1 : Int32) (s1 : Int64) (f1 as1 F1 G1 K1 : Nat → Int64) (B1 : ST), (∀ K, F_X6_bestDither_63 (Int32.ofNat M) r (Int32.ofNat T) n K best least (Int32.ofNat k) sS f sAs sF sG sK = K (b1, s1, f1, as1, F1, G1, K1)) ∧ (∀ K, F_X5_bestDither_27 (Int32.ofNat M) A r (Int32.ofNat T) m K best least (Int32.ofNat k) B = K (b1, B1)) ∧ ∀ j, j < 76 → f1 j = f j := by
  intro d
  induction d with
  | zero =>
    intro k n m best least B f sAs sF sG sK sS hk hn hm_ hA hb_
    obtain ⟨n', rfl⟩ := fuel_s hn
    obtain ⟨m', rfl⟩ := fuel_s hm_
    refine ⟨best, sS, f, sAs, sF, sG, sK, B, fun K => ?_, fun K => ?_, fun j _ => rfl⟩
    · rw [F_X6_bestDither_63, if_pos ((nLt (by omega) (by omega)).mpr (by omega))]
    · rw [F_X5_bestDither_27, if_pos ((nLt (by omega) (by omega)).mpr (by omega))]
  | succ d ih_ =>
    intro k n m best least B f sAs sF sG sK sS hk hn hm_ hA hb_
    obtain ⟨n', rfl⟩ := fuel_s hn
    obtain ⟨m', rfl⟩ := fuel_s hm_
    obtain ⟨tot, s1, f1, as1, F1, G1, K1, B1, c1, c2, -, c4⟩ := B_dith hr hT_ hA hN_ (show k ≤ 100 by omega) B sS sAs sF sG sK
    obtain ⟨b2, s2, f2, as2, F2, G2, K2, B2, i1_, i2, i3⟩ := ih_ (k + 1) n' m' (if tot < least then Int32.ofNat k else best) (if tot < least then tot else least) B1 f1 as1 F1 G1 K1 s1 (by omega) (by omega) (by omega) (hA.congr (fun j hj => (c4 j hj).symm)) (by
      by_cases h : tot < least
      · rw [if_pos h]
        exact n_neg (by omega)
      · rw [if_neg h]
        exact hb_)
    refine ⟨b2, s2, f2, as2, F2, G2, K2, B2, fun K => ?_, fun K => ?_, fun j hj => (i3 j hj).trans (c4 j hj)⟩
    · rw [F_X6_bestDither_63, if_neg (fun q => by have := (nLt (a := M) (b := k) (by omega) (by omega)).mp q; omega), c1, ob_s]
      try dsimp only
      rw [rg_ite, rg_ite, ltl_s, n1]
      exact i1_ K
    · rw [F_X5_bestDither_27, if_neg (fun q => by have := (nLt (a := M) (b := k) (by omega) (by omega)).mp q; omega), C_copy, ob_s, ltl_s]
      refine (ob_iq c2).trans ?_
      try dsimp only
      by_cases h : tot < least
      · rw [rg_o0 hb_, if_pos h, ltl_s, n1]
        rw [if_pos h, if_pos h] at i2
        exact i2 K
      · rw [rg_o0 hb_, if_neg h, ltl_s, n1]
        rw [if_neg h, if_neg h] at i2
        exact i2 K
theorem B_bestC {N : Int} {A : ST} {f : Nat → Int64} (hA : RS N A f) (hN_ : N + 500 < 2147483646) (B : ST) (sS : Int64) (sAs sF sG sK : Nat → Int64) (w1 w2 w3 : Int32) :
    (F_X5_bestDither A B w1 w2 w3 = some (.inr xIAE) ∧ F_X6_bestDither sS f sAs sF sG sK w1 w2 w3 = some (0, 1, sS, f, sAs, sF, sG, sK)) ∨
    ∃ (v : Int32) (s1 : Int64) (B1 : ST) (f1 as1 F1 G1 K1 : Nat → Int64), F_X5_bestDither A B w1 w2 w3 = some (.inl (v, B1)) ∧ F_X6_bestDither sS f sAs sF sG sK w1 w2 w3 = some (v, 0, s1, f1, as1, F1, G1, K1) ∧ ∀ j, j < 76 → f1 j = f j := by
  unfold F_X5_bestDither F_X6_bestDither
  by_cases r1 : -2000 ≤ w1.toInt ∧ w1.toInt ≤ 2000
  · rw [X5_sig1 r1, obx_v, X6_sig1 r1, ob_s, rg_s, iif1]
    by_cases r2 : 1 ≤ w2.toInt ∧ w2.toInt ≤ 50
    · rw [X5_rg1 (l := 1) (h := 50) rfl rfl r2, obx_v, X6_in1 (l := 1) (h := 50) rfl rfl r2, ob_s, iif1]
      by_cases r3 : 0 ≤ w3.toInt ∧ w3.toInt ≤ 100
      · right
        rw [X5_rg1 (l := 0) (h := 100) rfl rfl r3, obx_v, X6_in1 (l := 0) (h := 100) rfl rfl r3, ob_s, iif1]
        try dsimp only
        rw [X6_g1, ob_s]
        obtain ⟨T, hT_, rfl⟩ := i32_nat (w := w2) (m := 50) (by omega) r2.2 (by decide)
        obtain ⟨M, hM_, rfl⟩ := i32_nat (m := 100) r3.1 r3.2 (by decide)
        obtain ⟨tot, s1, f1, as1, F1, G1, K1, B1, c1, c2, c3, c4⟩ := B_dith r1 (show T ≤ 500 by omega) hA hN_ (show 0 ≤ 100 by omega) B sS sAs sF sG sK
        obtain ⟨b2, s2, f2, as2, F2, G2, K2, B2, i1_, i2, i3⟩ := B_best (A := A) r1 (show T ≤ 500 by omega) hN_ hM_ M 1 1000 999 0 tot B1 f1 as1 F1 G1 K1 s1 (by omega) (by omega) (by omega) (hA.congr (fun j hj => (c4 j hj).symm)) (by decide)
        have c1' : F_X6_costs sS f sAs sF sG sK w1.toInt64 (Int32.ofNat T) 0 = some (tot, s1, f1, as1, F1, G1, K1) := c1
        have i1' : ∀ K, F_X6_bestDither_63 (Int32.ofNat M) w1 (Int32.ofNat T) 1000 K 0 tot 1 s1 f1 as1 F1 G1 K1 = K (b2, s2, f2, as2, F2, G2, K2) := i1_
        have i2' : ∀ K, F_X5_bestDither_27 (Int32.ofNat M) A w1 (Int32.ofNat T) 1000 K (-1) 0 0 B = K (b2, B2) := fun K => by
          show F_X5_bestDither_27 (Int32.ofNat M) A w1 (Int32.ofNat T) (999 + 1) K (-1) 0 (Int32.ofNat 0) B = _
          rw [F_X5_bestDither_27, if_neg (fun q => by have := (nLt (a := M) (b := 0) (by omega) (by omega)).mp q; omega), C_copy, ob_s, ltl_s]
          refine (ob_iq c2).trans ?_
          try dsimp only
          rw [rg_o1 (show (-1 : Int32) = -1 from rfl), ltl_s, n1]
          exact i2 K
        try dsimp only
        rw [iif1, c1', ob_s]
        try dsimp only
        rw [i1', i2']
        exact ⟨_, _, _, _, _, _, _, _, rfl, rfl, fun j hj => (i3 j hj).trans (c4 j hj)⟩
      · left
        rw [X5_rg0 (l := 0) (h := 100) rfl rfl r3, obx_r, X6_in0 (l := 0) (h := 100) rfl rfl r3, ob_s, iif0]
        try dsimp only
        rw [X6_g0, ob_s]
        exact ⟨rfl, rfl⟩
    · left
      rw [X5_rg0 (l := 1) (h := 50) rfl rfl r2, obx_r, X6_in0 (l := 1) (h := 50) rfl rfl r2, ob_s, iif0]
      try dsimp only
      rw [X6_g0, ob_s]
      exact ⟨rfl, rfl⟩
  · left
    rw [X5_sig0 r1, obx_r, X6_sig0 r1, ob_s, rg_s, iif0]
    try dsimp only
    rw [X6_g0, ob_s]
    exact ⟨rfl, rfl⟩
