/-! PURE: P, and the estimator's beginning -/
def dg (x : Int64) : Int64 := if wi x (-65536000) 65536000 < 1 then 1 else wi x (-65536000) 65536000
theorem dg_d (x : Int64) : (if wi x (-65536000) 65536000 < 1 then 1 else wi x (-65536000) 65536000) = dg x := rfl
theorem dg_eq (x : Int64) : dg x = wi x 1 65536000 := by
  unfold dg wi
  by_cases h1 : x < 1
  · rw [if_pos h1]
    by_cases h2 : x < -65536000
    · rw [if_pos h2, if_pos (by decide)]
    · rw [if_neg h2, if_neg (fun q => by rw [Int64.lt_iff_toInt_lt] at h1 q; have e1 : (1 : Int64).toInt = 1 := rfl; have e2 : (65536000 : Int64).toInt = 65536000 := rfl; omega), if_pos h1]
  · have h2 : ¬ x < -65536000 := fun q => by
      rw [Int64.lt_iff_toInt_lt] at h1 q
      have e1 : (1 : Int64).toInt = 1 := rfl
      have e2 : (-65536000 : Int64).toInt = -65536000 := rfl
      omega
    rw [if_neg h1, if_neg h2]
    by_cases h3 : 65536000 < x
    · rw [if_pos h3, if_neg (by decide)]
    · rw [if_neg h3, if_neg h1]
def chR (al : Nat → Int64) (a b c d e f : Int64) : Nat → Int64 := vp_updL (vp_updL (vp_updL (vp_updL (vp_updL (vp_updL (vp_updL (vp_updL (vp_updL al 16 a) 17 b) 19 b) 18 c) 22 c) 20 d) 21 e) 23 e) 24 f
def chC (al : Nat → Int64) (a b c d e f : Int64) : Nat → Int64 := vp_updL (vp_updL (vp_updL (vp_updL (vp_updL (vp_updL (vp_updL (vp_updL (vp_updL al 0 a) 1 b) 3 b) 2 c) 6 c) 4 d) 5 e) 7 e) 8 f
abbrev wM (x : Int64) : Int64 := wi x (-65536000) 65536000
theorem R_update {al g k : Nat → Int64} {fg q00 q01 q02 q11 q12 q22 p00 p01 p02 p11 p12 p22 : Int64} (a00 : F_X6_floor (k 0 * g 0) 65536 = some q00) (a01 : F_X6_floor (k 0 * g 1) 65536 = some q01) (a02 : F_X6_floor (k 0 * g 2) 65536 = some q02) (a11 : F_X6_floor (k 1 * g 1) 65536 = some q11) (a12 : F_X6_floor (k 1 * g 2) 65536 = some q12) (a22 : F_X6_floor (k 2 * g 2) 65536 = some q22)
    (b00 : F_X6_floor ((al 16 - q00) * 65536) fg = some p00) (b01 : F_X6_floor ((al 17 - q01) * 65536) fg = some p01) (b02 : F_X6_floor ((al 18 - q02) * 65536) fg = some p02) (b11 : F_X6_floor ((al 20 - q11) * 65536) fg = some p11) (b12 : F_X6_floor ((al 21 - q12) * 65536) fg = some p12) (b22 : F_X6_floor ((al 24 - q22) * 65536) fg = some p22) :
    F_X6_updatesP al g k fg = some (if 163840000 < dg p00 + dg p11 + dg p22 then vp_updL (lay9 (chR al (dg p00) (wM p01) (wM p02) (dg p11) (wM p12) (dg p22))) 27 (al 27 + 1) else chR al (dg p00) (wM p01) (wM p02) (dg p11) (wM p12) (dg p22)) := by
  have hch : ∀ KK : (Nat → Int64) → Option (Nat → Int64), F_X6_updatesP_2 k g fg 1000 KK 0 al = KK (chR al (dg p00) (wM p01) (wM p02) (dg p11) (wM p12) (dg p22)) := by
    intro KK
    simp [F_X6_updatesP_2, F_X6_updatesP_10, F_within, ob_s, lt_s, rg_ite, rg_c, ck, uL, uu, dg_d, a00, a01, a02, a11, a12, a22, b00, b01, b02, b11, b12, b22, chR]
  unfold F_X6_updatesP
  rw [hch]
  have e1 : chR al (dg p00) (wM p01) (wM p02) (dg p11) (wM p12) (dg p22) 16 + chR al (dg p00) (wM p01) (wM p02) (dg p11) (wM p12) (dg p22) 20 + chR al (dg p00) (wM p01) (wM p02) (dg p11) (wM p12) (dg p22) 24 = dg p00 + dg p11 + dg p22 := rfl
  rw [e1]
  by_cases h : 163840000 < dg p00 + dg p11 + dg p22
  · rw [if_pos h, if_pos h, R_laysP]
    rfl
  · rw [if_neg h, if_neg h]
theorem C_update {ma di ga : Nat → Int64} {fg q00 q01 q02 q11 q12 q22 p00 p01 p02 p11 p12 p22 : Int64} (a00 : F_X5_divideDown (ga 0 * di 0) 65536 = some q00) (a01 : F_X5_divideDown (ga 0 * di 1) 65536 = some q01) (a02 : F_X5_divideDown (ga 0 * di 2) 65536 = some q02) (a11 : F_X5_divideDown (ga 1 * di 1) 65536 = some q11) (a12 : F_X5_divideDown (ga 1 * di 2) 65536 = some q12) (a22 : F_X5_divideDown (ga 2 * di 2) 65536 = some q22)
    (b00 : F_X5_divideDown ((ma 0 - q00) * 65536) fg = some p00) (b01 : F_X5_divideDown ((ma 1 - q01) * 65536) fg = some p01) (b02 : F_X5_divideDown ((ma 2 - q02) * 65536) fg = some p02) (b11 : F_X5_divideDown ((ma 4 - q11) * 65536) fg = some p11) (b12 : F_X5_divideDown ((ma 5 - q12) * 65536) fg = some p12) (b22 : F_X5_divideDown ((ma 8 - q22) * 65536) fg = some p22) :
    F_X0_updateMatrix ma di ga fg = some (chC ma (wi p00 1 65536000) (wM p01) (wM p02) (wi p11 1 65536000) (wM p12) (wi p22 1 65536000)) := by
  simp [F_X0_updateMatrix, F_X0_updateMatrix_2, F_X0_updateMatrix_10, F_bring, ob_s, lt_s, rg_c, rg_ite, ck, uL, uu, a00, a01, a02, a11, a12, a22, b00, b01, b02, b11, b12, b22, chC]
def lay9C (al : Nat → Int64) : Nat → Int64 := vp_updL (vp_updL (vp_updL (vp_updL (vp_updL (vp_updL (vp_updL (vp_updL (vp_updL al 0 6553600) 1 0) 2 0) 3 0) 4 6553600) 5 0) 6 0) 7 0) 8 6553600
theorem C_reset (ma : Nat → Int64) : F_X0_resetMatrix ma = some (lay9C ma) := by
  simp [F_X0_resetMatrix, F_X0_resetMatrix_2, F_X0_resetMatrix_9, ob_s, lt_s, rg_c, rg_ite, ck, lay9C]
theorem C_spread (ma di : Nat → Int64) (y u : Int32) : F_X0_spread ma di y u = some ((if (ma 0 * y.toInt64 + ma 1 * u.toInt64 + ma 2) * y.toInt64 + (ma 3 * y.toInt64 + ma 4 * u.toInt64 + ma 5) * u.toInt64 + (ma 6 * y.toInt64 + ma 7 * u.toInt64 + ma 8) < 0 then 0 else (ma 0 * y.toInt64 + ma 1 * u.toInt64 + ma 2) * y.toInt64 + (ma 3 * y.toInt64 + ma 4 * u.toInt64 + ma 5) * u.toInt64 + (ma 6 * y.toInt64 + ma 7 * u.toInt64 + ma 8)), vp_updL (vp_updL (vp_updL di 0 (ma 0 * y.toInt64 + ma 1 * u.toInt64 + ma 2)) 1 (ma 3 * y.toInt64 + ma 4 * u.toInt64 + ma 5)) 2 (ma 6 * y.toInt64 + ma 7 * u.toInt64 + ma 8)) := by
  simp [F_X0_spread, F_X0_spread_2, ob_s, lt_s, ck, uL]
theorem R_begins (al : Nat → Int64) : F_X6_begins al = some (vp_updL (vp_updL (vp_updL (vp_updL (vp_updL (lay9 (vp_updL (vp_updL (vp_updL al 13 (wi 0 (al 7) (al 8))) 14 (wi 65536 (al 9) (al 10))) 15 (wi 0 (al 11) (al 12)))) 25 0) 26 0) 27 0) 28 0) 29 0) := by
  simp [F_X6_begins, F_X6_begins_28, F_X6_begins_52, R_laysP, R_boxes, ob_s, lt_s, ck, uL, uu]
theorem C_bring (lo hi pa : Nat → Int32) (i : Int32) (v : Int64) (h : i = 0 ∨ i = 1 ∨ i = 2) : F_X0_bringIntoBox lo hi pa i v = some (if wi v (lo i.toNatClampNeg).toInt64 (hi i.toNatClampNeg).toInt64 = v then 0 else 1, upd pa i.toNatClampNeg (wi v (lo i.toNatClampNeg).toInt64 (hi i.toNatClampNeg).toInt64).toInt32) := by
  rcases h with rfl | rfl | rfl
  · simp [F_X0_bringIntoBox, F_bring, ob_s, lt_s, ck]
    split <;> rfl
  · simp [F_X0_bringIntoBox, F_bring, ob_s, lt_s, ck]
    split <;> rfl
  · simp [F_X0_bringIntoBox, F_bring, ob_s, lt_s, ck]
    split <;> rfl
theorem C_begin (lo hi pa co : Nat → Int32) (ma : Nat → Int64) : F_X0_begin lo hi pa ma co = some (upd (upd (upd pa 0 (wi 0 (lo 0).toInt64 (hi 0).toInt64).toInt32) 1 (wi 65536 (lo 1).toInt64 (hi 1).toInt64).toInt32) 2 (wi 0 (lo 2).toInt64 (hi 2).toInt64).toInt32, lay9C ma, upd (upd (upd (upd (upd co 0 0) 1 0) 2 0) 3 0) 4 0, 0) := by
  simp [F_X0_begin, F_X0_begin_29, C_bring, C_reset, ob_s, lt_s, ck]
