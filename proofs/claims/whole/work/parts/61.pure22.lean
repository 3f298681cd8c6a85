/-! PURE: digest -/
def hsq (g : Nat → Int64) : Int64 → Nat → Nat → Int64
  | h, _, 0 => h
  | h, i, d + 1 => hsq g (31 * h + g i) (i + 1) d
theorem hsq_add (g : Nat → Int64) (b : Nat) : ∀ (a : Nat) (h : Int64) (i : Nat), hsq g h i (a + b) = hsq g (hsq g h i a) (i + a) b := by
  intro a
  induction a with
  | zero =>
    intro h i
    rw [Nat.zero_add, Nat.add_zero]
    rfl
  | succ a ih_ =>
    intro h i
    rw [show a + 1 + b = (a + b) + 1 by omega]
    show hsq g (31 * h + g i) (i + 1) (a + b) = hsq g (hsq g (31 * h + g i) (i + 1) a) (i + (a + 1)) b
    rw [ih_, show i + 1 + a = i + (a + 1) by omega]
theorem hsq_congr (g g' : Nat → Int64) : ∀ (d : Nat) (h : Int64) (i i' : Nat), (∀ j, j < d → g (i + j) = g' (i' + j)) → hsq g h i d = hsq g' h i' d := by
  intro d
  induction d with
  | zero =>
    intro h i i' _
    rfl
  | succ d ih_ =>
    intro h i i' hh
    show hsq g (31 * h + g i) (i + 1) d = hsq g' (31 * h + g' i') (i' + 1) d
    have e0_ := hh 0 (by omega)
    rw [Nat.add_zero, Nat.add_zero] at e0_
    rw [e0_]
    exact ih_ _ _ _ (fun j hj => by
      have := hh (j + 1) (by omega)
      rw [show i + 1 + j = i + (j + 1) by omega, show i' + 1 + j = i' + (j + 1) by omega]
      exact this)
theorem R_sums6 {f : Nat → Int64} {a m : Nat} (ham : a + m ≤ 76) (K : Int64 → Option Int64) : ∀ (d i n : Nat) (h : Int64), i + d = m → d < n → F_X6_sums_6 (Int32.ofNat m) (Int32.ofNat a) f n K h (Int32.ofNat i) = K (hsq f h (a + i) d) := by
  intro d
  induction d with
  | zero =>
    intro i n h hi hn
    obtain ⟨n', rfl⟩ := fuel_s hn
    rw [F_X6_sums_6, if_pos ((nLe (by omega) (by omega)).mpr (by omega))]
    rfl
  | succ d ih_ =>
    intro i n h hi hn
    obtain ⟨n', rfl⟩ := fuel_s hn
    rw [F_X6_sums_6, if_neg (fun z => by have := (nLe (a := m) (b := i) (by omega) (by omega)).mp z; omega), nA, ck_i (nIn (by omega) (by omega)), ltl_s, ltl_s, nN (by omega), n1, ih_ (i + 1) n' _ (by omega) (by omega)]
    rfl
theorem R_sums {f : Nat → Int64} {a m : Nat} (ham : a + m ≤ 76) (h : Int64) : F_X6_sums f h (Int32.ofNat a) (Int32.ofNat m) = some (hsq f h a m) := by
  unfold F_X6_sums
  exact R_sums6 ham _ m 0 1000 h (by omega) (by omega)
theorem C_mset {A : ST} (K : Int64 → Option Int64) : ∀ (d i n : Nat) (h : Int64), i + d = 7 → d < n → F_X3_mixedSettings_5 A n K h (Int32.ofNat i) = K (hsq (fun j => (A.1 j).toInt64) h i d) := by
  intro d
  induction d with
  | zero =>
    intro i n h hi hn
    obtain ⟨n', rfl⟩ := fuel_s hn
    rw [F_X3_mixedSettings_5, if_pos (show (7 : Int32) ≤ Int32.ofNat i from (nLe (a := 7) (b := i) (by omega) (by omega)).mpr (by omega))]
    rfl
  | succ d ih_ =>
    intro i n h hi hn
    obtain ⟨n', rfl⟩ := fuel_s hn
    rw [F_X3_mixedSettings_5, if_neg (show ¬ (7 : Int32) ≤ Int32.ofNat i from fun z => by have := (nLe (a := 7) (b := i) (by omega) (by omega)).mp z; omega), ck_i (nIn (by omega) (by omega)), nN (by omega)]
    show lt_ (Int32.ofNat i + 1) (fun v8 => F_X3_mixedSettings_5 A n' K (31 * h + (A.1 i).toInt64) v8) = _
    rw [ltl_s, n1, ih_ (i + 1) n' _ (by omega) (by omega)]
    rfl
theorem C_m55 {Ma : Nat → Int64} (K : Int64 → Option Int64) : ∀ (d i n : Nat) (h : Int64), i + d = 9 → d < n → F_X0_mixedInto_55 Ma n K h (Int32.ofNat i) = K (hsq Ma h i d) := by
  intro d
  induction d with
  | zero =>
    intro i n h hi hn
    obtain ⟨n', rfl⟩ := fuel_s hn
    rw [F_X0_mixedInto_55, if_pos (show (9 : Int32) ≤ Int32.ofNat i from (nLe (a := 9) (b := i) (by omega) (by omega)).mpr (by omega))]
    rfl
  | succ d ih_ =>
    intro i n h hi hn
    obtain ⟨n', rfl⟩ := fuel_s hn
    rw [F_X0_mixedInto_55, if_neg (show ¬ (9 : Int32) ≤ Int32.ofNat i from fun z => by have := (nLe (a := 9) (b := i) (by omega) (by omega)).mp z; omega), ck_i (nIn (by omega) (by omega)), nN (by omega)]
    show lt_ (Int32.ofNat i + 1) (fun v8 => F_X0_mixedInto_55 Ma n' K (31 * h + Ma i) v8) = _
    rw [ltl_s, n1, ih_ (i + 1) n' _ (by omega) (by omega)]
    rfl
theorem C_m83 {Co : Nat → Int32} (K : Int64 → Option Int64) : ∀ (d i n : Nat) (h : Int64), i + d = 5 → d < n → F_X0_mixedInto_83 Co n K h (Int32.ofNat i) = K (hsq (fun j => (Co j).toInt64) h i d) := by
  intro d
  induction d with
  | zero =>
    intro i n h hi hn
    obtain ⟨n', rfl⟩ := fuel_s hn
    rw [F_X0_mixedInto_83, if_pos (show (5 : Int32) ≤ Int32.ofNat i from (nLe (a := 5) (b := i) (by omega) (by omega)).mpr (by omega))]
    rfl
  | succ d ih_ =>
    intro i n h hi hn
    obtain ⟨n', rfl⟩ := fuel_s hn
    rw [F_X0_mixedInto_83, if_neg (show ¬ (5 : Int32) ≤ Int32.ofNat i from fun z => by have := (nLe (a := 5) (b := i) (by omega) (by omega)).mp z; omega), ck_i (nIn (by omega) (by omega)), nN (by omega)]
    show lt_ (Int32.ofNat i + 1) (fun v8 => F_X0_mixedInto_83 Co n' K (31 * h + (Co i).toInt64) v8) = _
    rw [ltl_s, n1, ih_ (i + 1) n' _ (by omega) (by omega)]
    rfl
theorem C_mnu {Nu : Nat → Int32} (K : Int64 → Option Int64) : ∀ (d i n : Nat) (h : Int64), i + d = 3 → d < n → F_X1_mixedInto_5 Nu n K h (Int32.ofNat i) = K (hsq (fun j => (Nu j).toInt64) h i d) := by
  intro d
  induction d with
  | zero =>
    intro i n h hi hn
    obtain ⟨n', rfl⟩ := fuel_s hn
    rw [F_X1_mixedInto_5, if_pos (show (3 : Int32) ≤ Int32.ofNat i from (nLe (a := 3) (b := i) (by omega) (by omega)).mpr (by omega))]
    rfl
  | succ d ih_ =>
    intro i n h hi hn
    obtain ⟨n', rfl⟩ := fuel_s hn
    rw [F_X1_mixedInto_5, if_neg (show ¬ (3 : Int32) ≤ Int32.ofNat i from fun z => by have := (nLe (a := 3) (b := i) (by omega) (by omega)).mp z; omega), ck_i (nIn (by omega) (by omega)), nN (by omega)]
    show lt_ (Int32.ofNat i + 1) (fun v8 => F_X1_mixedInto_5 Nu n' K (31 * h + (Nu i).toInt64) v8) = _
    rw [ltl_s, n1, ih_ (i + 1) n' _ (by omega) (by omega)]
    rfl
def h3q (lo hi pa : Nat → Int64) (h : Int64) (i : Nat) : Int64 := 31 * (31 * (31 * h + lo i) + hi i) + pa i
theorem C_m5 {Lo Hi Pa_ : Nat → Int32} {lo hi pa : Nat → Int64} (hh : ∀ i, i < 3 → (Lo i).toInt64 = lo i ∧ (Hi i).toInt64 = hi i ∧ (Pa_ i).toInt64 = pa i) (K : Int64 → Option Int64) (h : Int64) : F_X0_mixedInto_5 Lo Hi Pa_ 1000 K h 0 = K (h3q lo hi pa (h3q lo hi pa (h3q lo hi pa h 0) 1) 2) := by
  have st : ∀ (i n : Nat) (h : Int64), i < 3 → F_X0_mixedInto_5 Lo Hi Pa_ (n + 1) K h (Int32.ofNat i) = F_X0_mixedInto_5 Lo Hi Pa_ n K (h3q lo hi pa h i) (Int32.ofNat (i + 1)) := by
    intro i n h hi
    obtain ⟨e1_, e2_, e3_⟩ := hh i hi
    have mx : ∀ a b : Int64, F_X5_mixed a b = some (31 * a + b) := fun _ _ => rfl
    rw [F_X0_mixedInto_5, if_neg (show ¬ (3 : Int32) ≤ Int32.ofNat i from fun z => by have := (nLe (a := 3) (b := i) (by omega) (by omega)).mp z; omega), ck_i (nIn (by omega) (by omega)), mx, ob_s, ck_i (nIn (by omega) (by omega)), mx, ob_s, ck_i (nIn (by omega) (by omega)), mx, ob_s, ltl_s, nN (by omega), n1, e1_, e2_, e3_]
    rfl
  refine (st 0 999 h (by omega)).trans ((st 1 998 _ (by omega)).trans ((st 2 997 _ (by omega)).trans ?_))
  rw [F_X0_mixedInto_5, if_pos (by decide)]
theorem R_d24 {f : Nat → Int64} (K : Int64 → Option (Int64 × Int32)) (h : Int64) : F_X6_digest_24 f 1000 K h 0 = K (h3q (fun i => f (7 + 2 * i)) (fun i => f (8 + 2 * i)) (fun i => f (13 + i)) (h3q (fun i => f (7 + 2 * i)) (fun i => f (8 + 2 * i)) (fun i => f (13 + i)) (h3q (fun i => f (7 + 2 * i)) (fun i => f (8 + 2 * i)) (fun i => f (13 + i)) h 0) 1) 2) := by
  have st : ∀ (i n : Nat) (h : Int64), i < 3 → F_X6_digest_24 f (n + 1) K h (Int32.ofNat i) = F_X6_digest_24 f n K (h3q (fun i => f (7 + 2 * i)) (fun i => f (8 + 2 * i)) (fun i => f (13 + i)) h i) (Int32.ofNat (i + 1)) := by
    intro i n h hi
    have s1 := R_sums (f := f) (a := 7 + 2 * i) (m := 2) (by omega) h
    have s2 := R_sums (f := f) (a := 13 + i) (m := 1) (by omega) (hsq f h (7 + 2 * i) 2)
    have s1' : F_X6_sums f h (Int32.ofNat (7 + 2 * i)) 2 = some (hsq f h (7 + 2 * i) 2) := s1
    have s2' : F_X6_sums f (hsq f h (7 + 2 * i) 2) (Int32.ofNat (13 + i)) 1 = some (hsq f (hsq f h (7 + 2 * i) 2) (13 + i) 1) := s2
    rw [F_X6_digest_24, if_neg (show ¬ (3 : Int32) ≤ Int32.ofNat i from fun z => by have := (nLe (a := 3) (b := i) (by omega) (by omega)).mp z; omega), nA7, s1', ob_s, nA13, s2', ob_s, ltl_s, n1]
    have e : hsq f (hsq f h (7 + 2 * i) 2) (13 + i) 1 = h3q (fun i => f (7 + 2 * i)) (fun i => f (8 + 2 * i)) (fun i => f (13 + i)) h i := by
      show 31 * (31 * (31 * h + f (7 + 2 * i)) + f (7 + 2 * i + 1)) + f (13 + i) = 31 * (31 * (31 * h + f (7 + 2 * i)) + f (8 + 2 * i)) + f (13 + i)
      rw [show 7 + 2 * i + 1 = 8 + 2 * i by omega]
    rw [e]
  refine (st 0 999 h (by omega)).trans ((st 1 998 _ (by omega)).trans ((st 2 997 _ (by omega)).trans ?_))
  rw [F_X6_digest_24, if_pos (by decide)]
theorem B_digest {N : Int} {xN sN : Int32} {A C0_ C1 C2 C3_ : ST} {f sv : Nat → Int64} (hK_ : RKq N xN A C0_ C1 C2 C3_ sN f sv) {yTl sTl : Int32} {Tb_ sTx : Nat → Int32} (hT_ : RTq yTl Tb_ sTl sTx) : ∃ v : Int64, F_X5_digest xN A yTl = some v ∧ F_X6_digest sN sTl f = some (v, 0) := by
  obtain ⟨n, rfl, rfl, hA, -⟩ := hK_
  obtain ⟨t, -, rfl, rfl, -⟩ := hT_
  obtain ⟨k, m, hmn, hn, w1, w2, w3, w4⟩ := B_win hA
  obtain ⟨d, d1, d2⟩ := B_det hA
  obtain ⟨h0, h1, h2, h3, -, h5, -⟩ := hA
  -- the component
  obtain ⟨a, ha⟩ : ∃ a, a = 92101 + (Int32.ofNat t).toInt64 := ⟨_, rfl⟩
  have c0 : F_X5_mixed 2971 (Int32.ofNat t).toInt64 = some a := by rw [ha]; rfl
  have c1 : F_X3_mixedSettings A a = some (hsq f a 0 7) := by
    unfold F_X3_mixedSettings
    refine (C_mset (A := A) _ 7 0 1000 a (by omega) (by omega)).trans ?_
    rw [hsq_congr (fun j => (A.1 j).toInt64) f 7 a 0 0 (fun j hj => by
      try dsimp only
      rw [Nat.zero_add]
      exact h0 j hj)]
  obtain ⟨b, hb⟩ : ∃ b, b = hsq f a 0 7 := ⟨_, rfl⟩
  rw [← hb] at c1
  obtain ⟨c, hc_⟩ : ∃ c, c = h3q (fun i => f (7 + 2 * i)) (fun i => f (8 + 2 * i)) (fun i => f (13 + i)) (h3q (fun i => f (7 + 2 * i)) (fun i => f (8 + 2 * i)) (fun i => f (13 + i)) (h3q (fun i => f (7 + 2 * i)) (fun i => f (8 + 2 * i)) (fun i => f (13 + i)) b 0) 1) 2 := ⟨_, rfl⟩
  have c2 : F_X0_mixedInto A.2.1 A.2.2.1 A.2.2.2.1 A.2.2.2.2.1 A.2.2.2.2.2.1 b = some (hsq f c 16 14) := by
    unfold F_X0_mixedInto
    rw [C_m5 (lo := fun i => f (7 + 2 * i)) (hi := fun i => f (8 + 2 * i)) (pa := fun i => f (13 + i)) (fun i hi => ⟨(h1 i hi).1, (h1 i hi).2.1, (h1 i hi).2.2.1⟩), ← hc_]
    refine (C_m55 _ 9 0 1000 c (by omega) (by omega)).trans ?_
    refine (C_m83 _ 5 0 1000 _ (by omega) (by omega)).trans ?_
    rw [hsq_add f 5 9 c 16, hsq_congr A.2.2.2.2.1 f 9 c 0 16 (fun j hj => by
      rw [Nat.zero_add]
      exact h2 j hj), hsq_congr (fun j => (A.2.2.2.2.2.1 j).toInt64) f 5 _ 0 (16 + 9) (fun j hj => by
      try dsimp only
      rw [Nat.zero_add]
      exact h3 j hj)]
  have c3 : F_X1_mixedInto A.2.2.2.2.2.2.2.2.2.2.2.1 A.2.2.2.2.2.2.2.2.2.2.2.2.1 A.2.2.2.2.2.2.2.2.2.2.2.2.2.1 A.2.2.2.2.2.2.2.2.2.2.2.2.2.2 (hsq f c 16 14) = some (hsq f c 16 20) := by
    unfold F_X1_mixedInto
    refine (C_mnu _ 3 0 1000 _ (by omega) (by omega)).trans ?_
    rw [hsq_add f 6 14 c 16, hsq_add f 3 3 _ (16 + 14), hsq_congr (fun j => (A.2.2.2.2.2.2.2.2.2.2.2.2.2.2 j).toInt64) f 3 _ 0 (16 + 14) (fun j hj => by
      try dsimp only
      rw [Nat.zero_add]
      exact (h1 j hj).2.2.2), h5.1, h5.2.1, h5.2.2]
    rfl
  have c4 : F_X5_inWindow A = some (Int32.ofNat m) := by
    unfold F_X5_inWindow
    rw [w1, ob_s]
  have q1 : F_X6_sums f (92101 + (Int32.ofNat t).toInt64) 0 7 = some b := by
    rw [← ha, hb]
    exact R_sums (f := f) (a := 0) (m := 7) (by omega) a
  have q2 : F_X6_sums f c 16 20 = some (hsq f c 16 20) := R_sums (f := f) (a := 16) (m := 20) (by omega) c
  unfold F_X5_digest F_X6_digest
  rw [c0, ob_s, c1, ob_s, c2, ob_s, c3, ob_s, c4, ob_s, d1, q1, ob_s, R_d24, ← hc_, q2, ob_s, w2, ob_s, ltl_s, d2, ob_s, ltl_s]
  exact ⟨_, rfl, rfl⟩
