/-! PURE: P, and the estimator's beginning -/
def dg (x : Int64) : Int64 := if wi x (-65536000) 65536000 < 1 then 1 else wi x (-65536000) 65536000
theorem dg_d (x : Int64) : (if wi x (-65536000) 65536000 < 1 then 1 else wi x (-65536000) 65536000) = dg x := rfl
theorem wi_i {x lo hi : Int64} (h : lo.toInt ≤ hi.toInt) : (wi x lo hi).toInt = if x.toInt < lo.toInt then lo.toInt else if hi.toInt < x.toInt then hi.toInt else x.toInt := by
  unfold wi
  by_cases h1 : x < lo
  · rw [if_pos h1, if_pos (Int64.lt_iff_toInt_lt.mp h1)]
  · rw [if_neg h1, if_neg (fun q => h1 (Int64.lt_iff_toInt_lt.mpr q))]
    by_cases h2 : hi < x
    · rw [if_pos h2, if_pos (Int64.lt_iff_toInt_lt.mp h2)]
    · rw [if_neg h2, if_neg (fun q => h2 (Int64.lt_iff_toInt_lt.mpr q))]
theorem dg_eq (x : Int64) : dg x = wi x 1 65536000 := by
  have e1 : (1 : Int64).toInt = 1 := rfl
  have e2 : (65536000 : Int64).toInt = 65536000 := rfl
  have e3 : (-65536000 : Int64).toInt = -65536000 := rfl
  have w1 := wi_i (x := x) (lo := -65536000) (hi := 65536000) (by decide)
  have w2 := wi_i (x := x) (lo := 1) (hi := 65536000) (by decide)
  rw [e2, e3] at w1
  rw [e1, e2] at w2
  rw [← Int64.toInt_inj]
  unfold dg
  by_cases h : wi x (-65536000) 65536000 < 1
  · rw [if_pos h, w2, e1]
    rw [Int64.lt_iff_toInt_lt, w1, e1] at h
    split
    · rfl
    · split at h <;> split <;> omega
  · rw [if_neg h, w1, w2]
    rw [Int64.lt_iff_toInt_lt, w1, e1] at h
    split at h <;> split <;> (try split) <;> (try split) <;> omega
def chR (al : Nat → Int64) (a b c d e f : Int64) : Nat → Int64 := vp_updL (vp_updL (vp_updL (vp_updL (vp_updL (vp_updL (vp_updL (vp_updL (vp_updL al 16 a) 17 b) 19 b) 18 c) 22 c) 20 d) 21 e) 23 e) 24 f
def chC (al : Nat → Int64) (a b c d e f : Int64) : Nat → Int64 := vp_updL (vp_updL (vp_updL (vp_updL (vp_updL (vp_updL (vp_updL (vp_updL (vp_updL al 0 a) 1 b) 3 b) 2 c) 6 c) 4 d) 5 e) 7 e) 8 f
abbrev wM (x : Int64) : Int64 := wi x (-65536000) 65536000
set_option maxRecDepth 100000 in
set_option maxHeartbeats 2000000 in
theorem R_update {al g k : Nat → Int64} {fg q00 q01 q02 q11 q12 q22 p00 p01 p02 p11 p12 p22 : Int64} (a00 : F_X6_floor (k 0 * g 0) 65536 = some q00) (a01 : F_X6_floor (k 0 * g 1) 65536 = some q01) (a02 : F_X6_floor (k 0 * g 2) 65536 = some q02) (a11 : F_X6_floor (k 1 * g 1) 65536 = some q11) (a12 : F_X6_floor (k 1 * g 2) 65536 = some q12) (a22 : F_X6_floor (k 2 * g 2) 65536 = some q22)
    (b00 : F_X6_floor ((al 16 - q00) * 65536) fg = some p00) (b01 : F_X6_floor ((al 17 - q01) * 65536) fg = some p01) (b02 : F_X6_floor ((al 18 - q02) * 65536) fg = some p02) (b11 : F_X6_floor ((al 20 - q11) * 65536) fg = some p11) (b12 : F_X6_floor ((al 21 - q12) * 65536) fg = some p12) (b22 : F_X6_floor ((al 24 - q22) * 65536) fg = some p22) :
    F_X6_updatesP al g k fg = some (if 163840000 < dg p00 + dg p11 + dg p22 then vp_updL (lay9 (chR al (dg p00) (wM p01) (wM p02) (dg p11) (wM p12) (dg p22))) 27 (al 27 + 1) else chR al (dg p00) (wM p01) (wM p02) (dg p11) (wM p12) (dg p22)) := by
  have in0 : ∀ (KK : (Nat → Int64) → Option (Nat → Int64)) (n : Nat), F_X6_updatesP_10 0 k g fg (n + 4) KK 0 al = KK (vp_updL (vp_updL (vp_updL (vp_updL (vp_updL al 16 (dg p00)) 17 (wM p01)) 19 (wM p01)) 18 (wM p02)) 22 (wM p02)) := by
    intro KK n
    simp [F_X6_updatesP_10, F_within, ob_s, ltl_s, rg_ite, rg_c, ck, uL, uu, dg_d, a00, a01, a02, b00, b01, b02]
  have in1 : ∀ (al1 : Nat → Int64) (KK : (Nat → Int64) → Option (Nat → Int64)) (n : Nat), al1 20 = al 20 → al1 21 = al 21 → F_X6_updatesP_10 1 k g fg (n + 4) KK 1 al1 = KK (vp_updL (vp_updL (vp_updL al1 20 (dg p11)) 21 (wM p12)) 23 (wM p12)) := by
    intro al1 KK n z1 z2
    simp [F_X6_updatesP_10, F_within, ob_s, ltl_s, rg_ite, rg_c, ck, uL, uu, dg_d, a11, a12, b11, b12, z1, z2]
  have in2 : ∀ (al1 : Nat → Int64) (KK : (Nat → Int64) → Option (Nat → Int64)) (n : Nat), al1 24 = al 24 → F_X6_updatesP_10 2 k g fg (n + 4) KK 2 al1 = KK (vp_updL al1 24 (dg p22)) := by
    intro al1 KK n z1
    simp [F_X6_updatesP_10, F_within, ob_s, ltl_s, rg_ite, rg_c, ck, uL, uu, dg_d, a22, b22, z1]
  have hch : ∀ KK : (Nat → Int64) → Option (Nat → Int64), F_X6_updatesP_2 k g fg 1000 KK 0 al = KK (chR al (dg p00) (wM p01) (wM p02) (dg p11) (wM p12) (dg p22)) := by
    intro KK
    show F_X6_updatesP_2 k g fg (996 + 1 + 1 + 1 + 1) KK 0 al = _
    rw [F_X6_updatesP_2, if_neg (by decide)]
    refine (in0 _ 996).trans ?_
    rw [ltl_s, show (0 : Int32) + 1 = 1 from rfl, F_X6_updatesP_2, if_neg (by decide)]
    refine (in1 _ _ 996 rfl rfl).trans ?_
    rw [ltl_s, show (1 : Int32) + 1 = 2 from rfl, F_X6_updatesP_2, if_neg (by decide)]
    refine (in2 _ _ 996 rfl).trans ?_
    rw [ltl_s, show (2 : Int32) + 1 = 3 from rfl, F_X6_updatesP_2, if_pos (by decide)]
    rfl
  unfold F_X6_updatesP
  rw [hch]
  have e1 : chR al (dg p00) (wM p01) (wM p02) (dg p11) (wM p12) (dg p22) 16 + chR al (dg p00) (wM p01) (wM p02) (dg p11) (wM p12) (dg p22) 20 + chR al (dg p00) (wM p01) (wM p02) (dg p11) (wM p12) (dg p22) 24 = dg p00 + dg p11 + dg p22 := rfl
  rw [e1]
  by_cases h : 163840000 < dg p00 + dg p11 + dg p22
  · rw [if_pos h, if_pos h, R_laysP]
    rfl
  · rw [if_neg h, if_neg h]
set_option maxRecDepth 100000 in
set_option maxHeartbeats 2000000 in
theorem C_update {ma di ga : Nat → Int64} {fg q00 q01 q02 q11 q12 q22 p00 p01 p02 p11 p12 p22 : Int64} (a00 : F_X5_divideDown (ga 0 * di 0) 65536 = some q00) (a01 : F_X5_divideDown (ga 0 * di 1) 65536 = some q01) (a02 : F_X5_divideDown (ga 0 * di 2) 65536 = some q02) (a11 : F_X5_divideDown (ga 1 * di 1) 65536 = some q11) (a12 : F_X5_divideDown (ga 1 * di 2) 65536 = some q12) (a22 : F_X5_divideDown (ga 2 * di 2) 65536 = some q22)
    (b00 : F_X5_divideDown ((ma 0 - q00) * 65536) fg = some p00) (b01 : F_X5_divideDown ((ma 1 - q01) * 65536) fg = some p01) (b02 : F_X5_divideDown ((ma 2 - q02) * 65536) fg = some p02) (b11 : F_X5_divideDown ((ma 4 - q11) * 65536) fg = some p11) (b12 : F_X5_divideDown ((ma 5 - q12) * 65536) fg = some p12) (b22 : F_X5_divideDown ((ma 8 - q22) * 65536) fg = some p22) :
    F_X0_updateMatrix ma di ga fg = some (chC ma (wi p00 1 65536000) (wM p01) (wM p02) (wi p11 1 65536000) (wM p12) (wi p22 1 65536000)) := by
  have in0 : ∀ (KK : (Nat → Int64) → Option (Nat → Int64)) (n : Nat), F_X0_updateMatrix_10 0 ga di fg (n + 4) KK 0 ma = KK (vp_updL (vp_updL (vp_updL (vp_updL (vp_updL ma 0 (wi p00 1 65536000)) 1 (wM p01)) 3 (wM p01)) 2 (wM p02)) 6 (wM p02)) := by
    intro KK n
    simp [F_X0_updateMatrix_10, F_bring, ob_s, ltl_s, rg_ite, rg_c, ck, uL, uu, a00, a01, a02, b00, b01, b02]
  have in1 : ∀ (al1 : Nat → Int64) (KK : (Nat → Int64) → Option (Nat → Int64)) (n : Nat), al1 4 = ma 4 → al1 5 = ma 5 → F_X0_updateMatrix_10 1 ga di fg (n + 4) KK 1 al1 = KK (vp_updL (vp_updL (vp_updL al1 4 (wi p11 1 65536000)) 5 (wM p12)) 7 (wM p12)) := by
    intro al1 KK n z1 z2
    simp [F_X0_updateMatrix_10, F_bring, ob_s, ltl_s, rg_ite, rg_c, ck, uL, uu, a11, a12, b11, b12, z1, z2]
  have in2 : ∀ (al1 : Nat → Int64) (KK : (Nat → Int64) → Option (Nat → Int64)) (n : Nat), al1 8 = ma 8 → F_X0_updateMatrix_10 2 ga di fg (n + 4) KK 2 al1 = KK (vp_updL al1 8 (wi p22 1 65536000)) := by
    intro al1 KK n z1
    simp [F_X0_updateMatrix_10, F_bring, ob_s, ltl_s, rg_ite, rg_c, ck, uL, uu, a22, b22, z1]
  show F_X0_updateMatrix_2 ga di fg (996 + 1 + 1 + 1 + 1) _ 0 ma = _
  rw [F_X0_updateMatrix_2, if_neg (by decide)]
  refine (in0 _ 996).trans ?_
  rw [ltl_s, show (0 : Int32) + 1 = 1 from rfl, F_X0_updateMatrix_2, if_neg (by decide)]
  refine (in1 _ _ 996 rfl rfl).trans ?_
  rw [ltl_s, show (1 : Int32) + 1 = 2 from rfl, F_X0_updateMatrix_2, if_neg (by decide)]
  refine (in2 _ _ 996 rfl).trans ?_
  rw [ltl_s, show (2 : Int32) + 1 = 3 from rfl, F_X0_updateMatrix_2, if_pos (by decide)]
  rfl
def lay9C (al : Nat → Int64) : Nat → Int64 := vp_updL (vp_updL (vp_updL (vp_updL (vp_updL (vp_updL (vp_updL (vp_updL (vp_updL al 0 6553600) 1 0) 2 0) 3 0) 4 6553600) 5 0) 6 0) 7 0) 8 6553600
set_option maxRecDepth 100000 in
set_option maxHeartbeats 2000000 in
theorem L_reset9 (n : Nat) (i : Int32) (hi : i = 0 ∨ i = 1 ∨ i = 2) (ma : Nat → Int64) (K : (Nat → Int64) → Option (Nat → Int64)) : F_X0_resetMatrix_9 i (n + 4) K 0 ma = K (vp_updL (vp_updL (vp_updL ma (3 * i.toNatClampNeg) (if i = 0 then 6553600 else 0)) (3 * i.toNatClampNeg + 1) (if i = 1 then 6553600 else 0)) (3 * i.toNatClampNeg + 2) (if i = 2 then 6553600 else 0)) := by
  rcases hi with rfl | rfl | rfl
  · simp [F_X0_resetMatrix_9, ltl_s, rg_c, rg_ite, ck]
  · simp [F_X0_resetMatrix_9, ltl_s, rg_c, rg_ite, ck]
  · simp [F_X0_resetMatrix_9, ltl_s, rg_c, rg_ite, ck]
set_option maxRecDepth 100000 in
set_option maxHeartbeats 2000000 in
theorem C_reset (ma : Nat → Int64) : F_X0_resetMatrix ma = some (lay9C ma) := by
  show F_X0_resetMatrix_2 (996 + 1 + 1 + 1 + 1) _ 0 ma = _
  rw [F_X0_resetMatrix_2, if_neg (by decide)]
  refine (L_reset9 996 0 (Or.inl rfl) ma _).trans ?_
  rw [ltl_s, show (0 : Int32) + 1 = 1 from rfl, F_X0_resetMatrix_2, if_neg (by decide)]
  refine (L_reset9 996 1 (Or.inr (Or.inl rfl)) _ _).trans ?_
  rw [ltl_s, show (1 : Int32) + 1 = 2 from rfl, F_X0_resetMatrix_2, if_neg (by decide)]
  refine (L_reset9 996 2 (Or.inr (Or.inr rfl)) _ _).trans ?_
  rw [ltl_s, show (2 : Int32) + 1 = 3 from rfl, F_X0_resetMatrix_2, if_pos (by decide)]
  rfl
theorem L_spread2 (ma di : Nat → Int64) (y u : Int32) (n : Nat) (K : (Nat → Int64) → Option (Int64 × (Nat → Int64))) : F_X0_spread_2 ma y u (n + 4) K 0 di = K (vp_updL (vp_updL (vp_updL di 0 (ma 0 * y.toInt64 + ma 1 * u.toInt64 + ma 2)) 1 (ma 3 * y.toInt64 + ma 4 * u.toInt64 + ma 5)) 2 (ma 6 * y.toInt64 + ma 7 * u.toInt64 + ma 8)) := by
  simp [F_X0_spread_2, ltl_s, ck]
theorem C_spread (ma di : Nat → Int64) (y u : Int32) : F_X0_spread ma di y u = some ((if (ma 0 * y.toInt64 + ma 1 * u.toInt64 + ma 2) * y.toInt64 + (ma 3 * y.toInt64 + ma 4 * u.toInt64 + ma 5) * u.toInt64 + (ma 6 * y.toInt64 + ma 7 * u.toInt64 + ma 8) < 0 then 0 else (ma 0 * y.toInt64 + ma 1 * u.toInt64 + ma 2) * y.toInt64 + (ma 3 * y.toInt64 + ma 4 * u.toInt64 + ma 5) * u.toInt64 + (ma 6 * y.toInt64 + ma 7 * u.toInt64 + ma 8)), vp_updL (vp_updL (vp_updL di 0 (ma 0 * y.toInt64 + ma 1 * u.toInt64 + ma 2)) 1 (ma 3 * y.toInt64 + ma 4 * u.toInt64 + ma 5)) 2 (ma 6 * y.toInt64 + ma 7 * u.toInt64 + ma 8)) := by
  unfold F_X0_spread
  exact (L_spread2 ma di y u 996 _).trans rfl
set_option maxRecDepth 100000 in
set_option maxHeartbeats 2000000 in
theorem R_begins (al : Nat → Int64) : F_X6_begins al = some (vp_updL (vp_updL (vp_updL (vp_updL (vp_updL (lay9 (vp_updL (vp_updL (vp_updL al 13 (wi 0 (al 7) (al 8))) 14 (wi 65536 (al 9) (al 10))) 15 (wi 0 (al 11) (al 12)))) 25 0) 26 0) 27 0) 28 0) 29 0) := by
  have q1 : ∀ (n : Nat) (K : (Nat → Int64) → Option (Nat → Int64)), F_X6_begins_28 (n + 4) K 0 (vp_updL (vp_updL (vp_updL al 13 0) 14 65536) 15 0) = K (vp_updL (vp_updL (vp_updL (vp_updL (vp_updL (vp_updL al 13 0) 14 65536) 15 0) 13 (wi 0 (al 7) (al 8))) 14 (wi 65536 (al 9) (al 10))) 15 (wi 0 (al 11) (al 12))) := by
    intro n K
    simp [F_X6_begins_28, R_boxes, ob_s, ltl_s, uL]
  have q2 : ∀ (n : Nat) (al : Nat → Int64) (K : (Nat → Int64) → Option (Nat → Int64)), F_X6_begins_52 (n + 6) K 25 al = K (vp_updL (vp_updL (vp_updL (vp_updL (vp_updL al 25 0) 26 0) 27 0) 28 0) 29 0) := by
    intro n al K
    simp [F_X6_begins_52, ltl_s, ck]
  have q3 : vp_updL (vp_updL (vp_updL (vp_updL (vp_updL (vp_updL al 13 0) 14 65536) 15 0) 13 (wi 0 (al 7) (al 8))) 14 (wi 65536 (al 9) (al 10))) 15 (wi 0 (al 11) (al 12)) = vp_updL (vp_updL (vp_updL al 13 (wi 0 (al 7) (al 8))) 14 (wi 65536 (al 9) (al 10))) 15 (wi 0 (al 11) (al 12)) := by
    funext j
    simp only [uL]
    by_cases h1 : j = 15
    · rw [if_pos h1, if_pos h1]
    · rw [if_neg h1, if_neg h1]
      by_cases h2 : j = 14
      · rw [if_pos h2, if_pos h2]
      · rw [if_neg h2, if_neg h2]
        by_cases h3 : j = 13
        · rw [if_pos h3, if_pos h3]
        · rw [if_neg h3, if_neg h3, if_neg h1, if_neg h2, if_neg h3]
  unfold F_X6_begins
  rw [ltl_s, ltl_s, ltl_s]
  refine (q1 996 _).trans ?_
  rw [q3, R_laysP, ob_s]
  exact q2 994 _ _
set_option maxRecDepth 100000 in
set_option maxHeartbeats 2000000 in
theorem C_begin (lo hi pa co : Nat → Int32) (ma : Nat → Int64) : F_X0_begin lo hi pa ma co = some (upd (upd (upd pa 0 (wi 0 (lo 0).toInt64 (hi 0).toInt64).toInt32) 1 (wi 65536 (lo 1).toInt64 (hi 1).toInt64).toInt32) 2 (wi 0 (lo 2).toInt64 (hi 2).toInt64).toInt32, lay9C ma, upd (upd (upd (upd (upd co 0 0) 1 0) 2 0) 3 0) 4 0, 0) := by
  have q2 : ∀ (n : Nat) (K : (Nat → Int32) → Option ((Nat → Int32) × (Nat → Int64) × (Nat → Int32) × Int32)), F_X0_begin_29 (n + 6) K 0 co = K (upd (upd (upd (upd (upd co 0 0) 1 0) 2 0) 3 0) 4 0) := by
    intro n K
    simp [F_X0_begin_29, ltl_s, ck]
  unfold F_X0_begin
  rw [C_bring _ _ _ 0 _ (Or.inl rfl), ob_s, C_bring _ _ _ 1 _ (Or.inr (Or.inl rfl)), ob_s, C_bring _ _ _ 2 _ (Or.inr (Or.inr rfl)), ob_s, C_reset, ob_s]
  exact q2 994 _
