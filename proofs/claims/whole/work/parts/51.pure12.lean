/-! PURE: the control law -/
theorem neg3264 {x : Int32} {v : Int64} (h : x.toInt64 = v) (hb : bd 1000000 v) : (-x).toInt64 = -v := by
  have e : x.toInt = v.toInt := by rw [← h, t64]
  unfold bd at hb
  have n1 : (-x).toInt = -x.toInt := by
    rw [Int32.toInt_neg]
    exact bmod32 (by omega) (by omega)
  have n2 : (-v).toInt = -v.toInt := by
    rw [Int64.toInt_neg]
    exact bmod64 (by omega) (by omega)
  apply i64_eq
  rw [t64, n1, n2, e]
theorem even_3264 {x : Int32} {v : Int64} (h : x.toInt64 = v) (h0 : 0 ≤ v.toInt) : (x - x / 2 * 2 = 0) ↔ (v - v / 2 * 2 = 0) := by
  have e : x.toInt = v.toInt := by rw [← h, t64]
  have a1 := i32_hi x
  have p := mod_int (a := v) (b := 2) (by decide) h0
  have e2_ : (2 : Int64).toInt = 2 := rfl
  have f2 : (2 : Int32).toInt = 2 := rfl
  rw [e2_] at p
  have q : (x - x / 2 * 2).toInt = x.toInt % 2 := by
    have d : (x / 2).toInt = x.toInt / 2 := by
      rw [Int32.toInt_div, f2, Int.tdiv_eq_ediv_of_nonneg (by omega)]
      exact bmod32 (by omega) (by omega)
    have m : (x / 2 * 2).toInt = x.toInt / 2 * 2 := by
      rw [Int32.toInt_mul, d, f2]
      exact bmod32 (by omega) (by omega)
    rw [Int32.toInt_sub, m]
    rw [show x.toInt - x.toInt / 2 * 2 = x.toInt % 2 by omega]
    exact bmod32 (by omega) (by omega)
  constructor
  · intro z
    rw [z] at q
    have : (0 : Int32).toInt = 0 := rfl
    apply i64_eq
    rw [p]
    have : (0 : Int64).toInt = 0 := rfl
    omega
  · intro z
    rw [z] at p
    have : (0 : Int64).toInt = 0 := rfl
    have z2 : (x - x / 2 * 2).toInt = (0 : Int32).toInt := by
      rw [q]
      have : (0 : Int32).toInt = 0 := rfl
      omega
    exact Int32.toInt_inj.mp z2
theorem num_bd {a b r y : Int64} (ha : bd 1310720 a) (hb : bd 1310720 b) (hr : bd 2000 r) (hy : bd 2000 y) : bd 2753822720 (65536 * r - a * y - b) := by
  have p := (i64_mul (lit64q (x := 65536) (n := 65536) rfl 65536 (by omega) (by omega)) hr (by omega)).2
  have q := (i64_mul ha hy (by omega)).2
  have s := (i64_sub p q (by omega)).2
  exact (i64_sub s hb (by omega)).2.le (by omega)
/-- the input before the dither -/
theorem R_quot {b L a : Int64} (hb : bd 1310720 b) (hL : 1 ≤ L.toInt ∧ L.toInt ≤ 65536) (ha : bd 2753822720 a) :
    ∃ (d x u : Int64), 0 < d.toInt ∧ d.toInt ≤ 1310720 ∧ d = (if L < (if 0 < b then b else -b) then (if 0 < b then b else -b) else L) ∧ x = (if b < 0 then -a else a) ∧ u = fl x d ∧ bd 2753822720 u ∧ F_X5_divideDown x d = some u ∧
      ∀ {α : Type} (K : Int64 → Option α), ob (F_X6_in b (1 - L) (L - 1)) (fun o2 => rg (α := Int64) (fun K8 => if (o2 : Int32) = 0 then (K8 b) else (rg (α := Int64) (fun K6 => if (b : Int64) < 0 then (K6 (-L)) else (K6 L)) (fun x5_ => K8 x5_))) (fun x7 => rg (α := Int64) (fun K14 => if (x7 : Int64) < 0 then (ob (F_X6_floor (-a) (-x7)) (fun o11 => K14 o11)) else (ob (F_X6_floor a x7) (fun o12 => K14 o12))) K)) = K u := by
  have nb := i64_neg hb (by omega)
  have na := i64_neg ha (by omega)
  have nL : (-L).toInt = -L.toInt := by
    rw [Int64.toInt_neg]
    exact bmod64 (by omega) (by omega)
  have m1 : (1 - L).toInt = 1 - L.toInt := by
    rw [Int64.toInt_sub, one_int]
    exact bmod64 (by omega) (by omega)
  have m2 : (L - 1).toInt = L.toInt - 1 := by
    rw [Int64.toInt_sub, one_int]
    exact bmod64 (by omega) (by omega)
  unfold bd at hb nb
  -- the divisor
  have key : ∀ (x d : Int64), 0 < d.toInt → d.toInt ≤ 1310720 → bd 2753822720 x → F_X6_floor x d = some (fl x d) ∧ F_X5_divideDown x d = some (fl x d) ∧ bd 2753822720 (fl x d) := fun x d p q r => ⟨(two p (by omega) r (by omega)).1, (two p (by omega) r (by omega)).2, fl_bd p r⟩
  have nnL : (- -L) = L := by
    apply i64_eq
    rw [Int64.toInt_neg, nL, Int.neg_neg]
    exact bmod64 (by omega) (by omega)
  by_cases hn : b < 0
  · have hn' := (lt0 b).mp hn
    have h0 : ¬ 0 < b := fun q => by rw [gt0] at q; omega
    by_cases hs : L < -b
    · have hs' := Int64.lt_iff_toInt_lt.mp hs
      obtain ⟨k1, k2, k3⟩ := key (-a) (-b) (by omega) (by omega) na.2
      refine ⟨-b, -a, fl (-a) (-b), by omega, by omega, by rw [if_neg h0, if_pos hs], by rw [if_pos hn], rfl, k3, k2, fun K => ?_⟩
      have hin : ¬ (1 - L ≤ b ∧ b ≤ L - 1) := fun q => by
        have := Int64.le_iff_toInt_le.mp q.1
        omega
      rw [F_in, ob_s, rg_s, if_neg hin, if_pos rfl]
      try dsimp only
      rw [rg_s, if_pos hn, k1, ob_s]
    · have hs' := (not_congr Int64.lt_iff_toInt_lt).mp hs
      obtain ⟨k1, k2, k3⟩ := key (-a) L (by omega) (by omega) na.2
      refine ⟨L, -a, fl (-a) L, by omega, by omega, by rw [if_neg h0, if_neg hs], by rw [if_pos hn], rfl, k3, k2, fun K => ?_⟩
      by_cases hin : 1 - L ≤ b ∧ b ≤ L - 1
      · have hL0 : -L < 0 := by rw [lt0]; omega
        rw [F_in, ob_s, rg_s, if_pos hin, if_neg (by decide)]
        try dsimp only
        rw [rg_s, if_pos hn]
        try dsimp only
        rw [rg_s, if_pos hL0, nnL, k1, ob_s]
      · have hbL : -b = L := by
          apply i64_eq
          have : ¬ (1 - L.toInt ≤ b.toInt ∧ b.toInt ≤ L.toInt - 1) := fun q => hin ⟨Int64.le_iff_toInt_le.mpr (by omega), Int64.le_iff_toInt_le.mpr (by omega)⟩
          omega
        rw [F_in, ob_s, rg_s, if_neg hin, if_pos rfl]
        try dsimp only
        rw [rg_s, if_pos hn, hbL, k1, ob_s]
  · have hn' := (not_congr (lt0 b)).mp hn
    by_cases h0 : 0 < b
    · have h0' := (gt0 b).mp h0
      by_cases hs : L < b
      · have hs' := Int64.lt_iff_toInt_lt.mp hs
        obtain ⟨k1, k2, k3⟩ := key a b (by omega) (by omega) ha
        refine ⟨b, a, fl a b, by omega, by omega, by rw [if_pos h0, if_pos hs], by rw [if_neg hn], rfl, k3, k2, fun K => ?_⟩
        have hin : ¬ (1 - L ≤ b ∧ b ≤ L - 1) := fun q => by
          have := Int64.le_iff_toInt_le.mp q.2
          omega
        rw [F_in, ob_s, rg_s, if_neg hin, if_pos rfl]
        try dsimp only
        rw [rg_s, if_neg hn, k1, ob_s]
      · have hs' := (not_congr Int64.lt_iff_toInt_lt).mp hs
        obtain ⟨k1, k2, k3⟩ := key a L (by omega) (by omega) ha
        refine ⟨L, a, fl a L, by omega, by omega, by rw [if_pos h0, if_neg hs], by rw [if_neg hn], rfl, k3, k2, fun K => ?_⟩
        have hL0 : ¬ L < 0 := fun q => by rw [lt0] at q; omega
        by_cases hin : 1 - L ≤ b ∧ b ≤ L - 1
        · rw [F_in, ob_s, rg_s, if_pos hin, if_neg (by decide)]
          try dsimp only
          rw [rg_s, if_neg hn]
          try dsimp only
          rw [rg_s, if_neg hL0, k1, ob_s]
        · have hbL : b = L := by
            apply i64_eq
            have : ¬ (1 - L.toInt ≤ b.toInt ∧ b.toInt ≤ L.toInt - 1) := fun q => hin ⟨Int64.le_iff_toInt_le.mpr (by omega), Int64.le_iff_toInt_le.mpr (by omega)⟩
            omega
          rw [F_in, ob_s, rg_s, if_neg hin, if_pos rfl]
          try dsimp only
          rw [rg_s, hbL, if_neg hL0, k1, ob_s]
    · have h0' := (not_congr (gt0 b)).mp h0
      have hs : ¬ L < -b := fun q => by
        have := Int64.lt_iff_toInt_lt.mp q
        omega
      obtain ⟨k1, k2, k3⟩ := key a L (by omega) (by omega) ha
      refine ⟨L, a, fl a L, by omega, by omega, by rw [if_neg h0, if_neg hs], by rw [if_neg hn], rfl, k3, k2, fun K => ?_⟩
      have hL0 : ¬ L < 0 := fun q => by rw [lt0] at q; omega
      have hin : 1 - L ≤ b ∧ b ≤ L - 1 := ⟨Int64.le_iff_toInt_le.mpr (by omega), Int64.le_iff_toInt_le.mpr (by omega)⟩
      rw [F_in, ob_s, rg_s, if_pos hin, if_neg (by decide)]
      try dsimp only
      rw [rg_s, if_neg hn]
      try dsimp only
      rw [rg_s, if_neg hL0, k1, ob_s]
theorem i01 (c : Prop) [Decidable c] {α : Type} (a b : α) : (if (if c then (1 : Int32) else 0) = 0 then a else b) = (if c then b else a) := by
  by_cases h : c
  · rw [if_pos h, if_pos h, if_neg (by decide)]
  · rw [if_neg h, if_neg h, if_pos rfl]
theorem B_control {N : Int} {A : ST} {f : Nat → Int64} (hA : RS N A f) {r y : Int32} (hr : -2000 ≤ r.toInt ∧ r.toInt ≤ 2000) (hy : -2000 ≤ y.toInt ∧ y.toInt ≤ 2000) :
    ∃ w : Int32, F_X6_controls f r.toInt64 y.toInt64 = some w.toInt64 ∧ F_X3_inputFor A r y = some w ∧ -2000 ≤ w.toInt ∧ w.toInt ≤ 2000 := by
  obtain ⟨h0, h1, h2, h3, hW, h5, hG⟩ := hA
  obtain ⟨⟨g0, g1, g2, g3_, g4, g5, g6⟩, gb, gp, gc_, gr⟩ := hG
  have t13 := (gb 0 (by omega)).2.2.2.1
  have t14 := (gb 1 (by omega)).2.2.2.1
  have t15 := (gb 2 (by omega)).2.2.2.1
  simp only [Nat.reduceAdd] at t13 t14 t15
  have q13_ := (h1 0 (by omega)).2.2.1
  have q14_ := (h1 1 (by omega)).2.2.1
  have q15_ := (h1 2 (by omega)).2.2.1
  simp only [Nat.reduceAdd] at q13_ q14_ q15_
  have co0 := h3 0 (by omega)
  have c0 := gc_ 0 (by omega)
  simp only [Nat.reduceAdd] at co0 c0
  have s4 := h0 4 (by omega)
  have s5 := h0 5 (by omega)
  have s6_ := h0 6 (by omega)
  have nb := num_bd t13 t15 (sig_bd hr) (sig_bd hy)
  obtain ⟨d, x, u, d1, d2, ed, ex, eu, ub_, hC, hR⟩ := R_quot t14 g6 nb
  have n5 := neg3264 s5 (by unfold bd; omega)
  have n4 := neg3264 s4 (by unfold bd; omega)
  have m4 : (-f 4).toInt = -(f 4).toInt := by
    rw [Int64.toInt_neg]
    exact bmod64 (by omega) (by omega)
  have wb := wi_bd (x := u + (if f 25 - f 25 / 2 * 2 = 0 then f 5 else -f 5)) (lo := -f 4) (hi := f 4) (A := 2000) (by omega) (by omega) (by omega)
  have w32 : (wi (u + (if f 25 - f 25 / 2 * 2 = 0 then f 5 else -f 5)) (-f 4) (f 4)).toInt32.toInt64 = wi (u + (if f 25 - f 25 / 2 * 2 = 0 then f 5 else -f 5)) (-f 4) (f 4) := by
    unfold bd at wb
    exact t3264 (by omega) (by omega)
  refine ⟨(wi (u + (if f 25 - f 25 / 2 * 2 = 0 then f 5 else -f 5)) (-f 4) (f 4)).toInt32, ?_, ?_, ?_⟩
  · unfold F_X6_controls
    refine (hR _).trans ?_
    rw [rg_ite, ltl_s, F_within, ob_s, w32]
  · unfold F_X3_inputFor
    rw [q13_, q14_, q15_, s4, s5, s6_, n4, n5, ltl_s, ltl_s, rg_ite, ltl_s, ← ed, rg_ite, i01, ← ex, hC, ob_s, rg_ite, rg_ite, i01, ltl_s, F_bring, ob_s]
    congr 3
    by_cases hv : f 25 - f 25 / 2 * 2 = 0
    · rw [if_pos hv, if_pos ((even_3264 co0 (by omega)).mpr hv)]
    · rw [if_neg hv, if_neg (fun q => hv ((even_3264 co0 (by omega)).mp q))]
  · unfold bd at wb
    rw [t32 (by omega) (by omega)]
    exact wb
