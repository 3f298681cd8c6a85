/-! PURE: P, and the estimator's beginning -/
def dg (x : Int64) : Int64 := if wi x (-65536000) 65536000 < 1 then 1 else wi x (-65536000) 65536000
theorem dg_d (x : Int64) : (if wi x (-65536000) 65536000 < 1 then 1 else wi x (-65536000) 65536000) = dg x := rfl
theorem wi_i {x lo hi : Int64} (h : lo.toInt ≤ hi.toInt) : (wi x lo hi).toInt = if x.toInt < lo.toInt then lo.toInt else if hi.toInt < x.toInt then hi.toInt else x.toInt := by
  unfold wi
  by_cases h1 : x < lo
  · rw [if_pos h1, if_pos (Int64.lt_iff_toInt_lt.mp h1)]
  · rw [if_neg h1, if_neg (fun q => h1 (Int64.lt_iff_toInt_lt.mpr q))]
    by_cases h2 : hi < x
    · rw [if_pos h2, if_pos (Int64.lt_iff_toInt_lt.mp h2)]
    · rw [if_neg h2, if_neg (fun q => h2 (Int64.lt_iff_toInt_lt.mpr q))]
theorem dg_eq (x : Int64) : dg x = wi x 1 65536000 := by
  have e1 : (1 : Int64).toInt = 1 := rfl
  have e2 : (65536000 : Int64).toInt = 65536000 := rfl
  have e3 : (-65536000 : Int64).toInt = -65536000 := rfl
  have w1 := wi_i (x := x) (lo := -65536000) (hi := 65536000) (by decide)
  have w2 := wi_i (x := x) (lo := 1) (hi := 65536000) (by decide)
  rw [e2, e3] at w1
  rw [e1, e2] at w2
  rw [← Int64.toInt_inj]
  unfold dg
  by_cases h : wi x (-65536000) 65536000 < 1
  · rw [if_pos h, w2, e1]
    rw [Int64.lt_iff_toInt_lt, w1, e1] at h
    split
    · rfl
    · split at h <;> split <;> omega
  · rw [if_neg h, w1, w2]
    rw [Int64.lt_iff_toInt_lt, w1, e1] at h
    split at h <;> split <;> (try split) <;> (try split) <;> omega
def chR (al : Nat → Int64) (a b c d e f : Int64) : Nat → Int64 := vp_updL (vp_updL (vp_updL (vp_updL (vp_updL (vp_updL (vp_updL (vp_updL (vp_updL al 16 a) 17 b) 19 b) 18 c) 22 c) 20 d) 21 e) 23 e) 24 f
def chC (al : Nat → Int64) (a b c d e f : Int64) : Nat → Int64 := vp_updL (vp_updL (vp_updL (vp_updL (vp_updL (vp_updL (vp_updL (vp_updL (vp_updL al 0 a) 1 b) 3 b) 2 c) 6 c) 4 d) 5 e) 7 e) 8 f
abbrev wM (x : Int64) : Int64 := wi x (-65536000) 65536000
theorem chR_o {v : Nat → Int64} {a b c d e f : Int64} {j : Nat} (h : ¬ (16 ≤ j ∧ j < 25)) : chR v a b c d e f j = v j := by
  unfold chR
  rw [uL, uL, uL, uL, uL, uL, uL, uL, uL, if_neg (by omega), if_neg (by omega), if_neg (by omega), if_neg (by omega), if_neg (by omega), if_neg (by omega), if_neg (by omega), if_neg (by omega), if_neg (by omega)]
theorem lay9_o {v : Nat → Int64} {j : Nat} (h : ¬ (16 ≤ j ∧ j < 25)) : lay9 v j = v j := by
  unfold lay9
  rw [uL, uL, uL, uL, uL, uL, uL, uL, uL, if_neg (by omega), if_neg (by omega), if_neg (by omega), if_neg (by omega), if_neg (by omega), if_neg (by omega), if_neg (by omega), if_neg (by omega), if_neg (by omega)]
theorem chR_at (v : Nat → Int64) (a b c d e f : Int64) : chR v a b c d e f 16 = a ∧ chR v a b c d e f 20 = d ∧ chR v a b c d e f 24 = f := ⟨rfl, rfl, rfl⟩
theorem rg_el {δ : Type} {i j : Int32} {v : Int64} (F : Int64 → Option δ) : rg (α := Int64) (fun K => if i = j then (if v < 1 then K 1 else K v) else K v) F = F (if i = j then (if v < 1 then 1 else v) else v) := by
  unfold rg
  split
  · split <;> rfl
  · rfl
theorem R_up1 {i j j1 : Int32} {ni nj m1 m2 : Nat} {k g al : Nat → Int64} {fg q p x : Int64} (n : Nat) (KK : (Nat → Int64) → Option (Nat → Int64)) (hj : ¬ (3 : Int32) ≤ j) (c1 : inb ((16 + (3 * i)) + j) 76) (c2 : inb i 3) (c3 : inb j 3) (c4 : inb ((16 + (3 * j)) + i) 76)
    (ei : i.toNatClampNeg = ni) (ej : j.toNatClampNeg = nj) (e1 : ((16 + (3 * i)) + j).toNatClampNeg = m1) (e2 : ((16 + (3 * j)) + i).toNatClampNeg = m2) (ej1 : j + 1 = j1) (a : F_X6_floor (k ni * g nj) 65536 = some q) (b : F_X6_floor ((al (((16 + (3 * i)) + j).toNatClampNeg) - q) * 65536) fg = some p)
    (hx : (if i = j then (if wi p (-65536000) 65536000 < 1 then 1 else wi p (-65536000) 65536000) else wi p (-65536000) 65536000) = x) :
    F_X6_updatesP_10 i k g fg (n + 1) KK j al = F_X6_updatesP_10 i k g fg n KK j1 (vp_updL (vp_updL al m1 x) m2 x) := by
  rw [F_X6_updatesP_10, if_neg hj, ck_i c1, ck_i c2, ck_i c3, ei, ej, a, ob_s, b, ob_s, F_within, ob_s, rg_el, hx, ck_i c1, ltl_s, ck_i c4, ltl_s, ltl_s, e1, e2, ej1]
theorem R_up0 {i : Int32} {k g al : Nat → Int64} {fg : Int64} (n : Nat) (KK : (Nat → Int64) → Option (Nat → Int64)) : F_X6_updatesP_10 i k g fg (n + 1) KK 3 al = KK al := by
  rw [F_X6_updatesP_10, if_pos (by decide)]
theorem R_update {al g k : Nat → Int64} {fg q00 q01 q02 q11 q12 q22 p00 p01 p02 p11 p12 p22 : Int64} (a00 : F_X6_floor (k 0 * g 0) 65536 = some q00) (a01 : F_X6_floor (k 0 * g 1) 65536 = some q01) (a02 : F_X6_floor (k 0 * g 2) 65536 = some q02) (a11 : F_X6_floor (k 1 * g 1) 65536 = some q11) (a12 : F_X6_floor (k 1 * g 2) 65536 = some q12) (a22 : F_X6_floor (k 2 * g 2) 65536 = some q22)
    (b00 : F_X6_floor ((al 16 - q00) * 65536) fg = some p00) (b01 : F_X6_floor ((al 17 - q01) * 65536) fg = some p01) (b02 : F_X6_floor ((al 18 - q02) * 65536) fg = some p02) (b11 : F_X6_floor ((al 20 - q11) * 65536) fg = some p11) (b12 : F_X6_floor ((al 21 - q12) * 65536) fg = some p12) (b22 : F_X6_floor ((al 24 - q22) * 65536) fg = some p22) :
    F_X6_updatesP al g k fg = some (if 163840000 < dg p00 + dg p11 + dg p22 then vp_updL (lay9 (chR al (dg p00) (wM p01) (wM p02) (dg p11) (wM p12) (dg p22))) 27 (al 27 + 1) else chR al (dg p00) (wM p01) (wM p02) (dg p11) (wM p12) (dg p22)) := by
  have in0 : ∀ (n : Nat) (KK : (Nat → Int64) → Option (Nat → Int64)), F_X6_updatesP_10 0 k g fg (n + 4) KK 0 al = KK (vp_updL (vp_updL (vp_updL (vp_updL (vp_updL al 16 (dg p00)) 17 (wM p01)) 19 (wM p01)) 18 (wM p02)) 22 (wM p02)) := by
    intro n KK
    refine (R_up1 (al := al) (i := 0) (j := 0) (j1 := 1) (ni := 0) (nj := 0) (m1 := 16) (m2 := 16) (x := dg p00) (n + 3) KK (by decide) (by decide) (by decide) (by decide) (by decide) rfl rfl rfl rfl rfl a00 b00 (if_pos rfl)).trans ?_
    rw [uu]
    refine (R_up1 (al := vp_updL al 16 (dg p00)) (i := 0) (j := 1) (j1 := 2) (ni := 0) (nj := 1) (m1 := 17) (m2 := 19) (x := wM p01) (n + 2) KK (by decide) (by decide) (by decide) (by decide) (by decide) rfl rfl rfl rfl rfl a01 b01 (if_neg (by decide))).trans ?_
    refine (R_up1 (al := vp_updL (vp_updL (vp_updL al 16 (dg p00)) 17 (wM p01)) 19 (wM p01)) (i := 0) (j := 2) (j1 := 3) (ni := 0) (nj := 2) (m1 := 18) (m2 := 22) (x := wM p02) (n + 1) KK (by decide) (by decide) (by decide) (by decide) (by decide) rfl rfl rfl rfl rfl a02 b02 (if_neg (by decide))).trans ?_
    exact R_up0 n KK
  have in1 : ∀ (al1 : Nat → Int64) (n : Nat) (KK : (Nat → Int64) → Option (Nat → Int64)), al1 20 = al 20 → al1 21 = al 21 → F_X6_updatesP_10 1 k g fg (n + 3) KK 1 al1 = KK (vp_updL (vp_updL (vp_updL al1 20 (dg p11)) 21 (wM p12)) 23 (wM p12)) := by
    intro al1 n KK z1 z2
    refine (R_up1 (al := al1) (i := 1) (j := 1) (j1 := 2) (ni := 1) (nj := 1) (m1 := 20) (m2 := 20) (x := dg p11) (n + 2) KK (by decide) (by decide) (by decide) (by decide) (by decide) rfl rfl rfl rfl rfl a11 (show F_X6_floor ((al1 20 - q11) * 65536) fg = some p11 by rw [z1]; exact b11) (if_pos rfl)).trans ?_
    rw [uu]
    refine (R_up1 (al := vp_updL al1 20 (dg p11)) (i := 1) (j := 2) (j1 := 3) (ni := 1) (nj := 2) (m1 := 21) (m2 := 23) (x := wM p12) (n + 1) KK (by decide) (by decide) (by decide) (by decide) (by decide) rfl rfl rfl rfl rfl a12 (show F_X6_floor ((al1 21 - q12) * 65536) fg = some p12 by rw [z2]; exact b12) (if_neg (by decide))).trans ?_
    exact R_up0 n KK
  have in2 : ∀ (al1 : Nat → Int64) (n : Nat) (KK : (Nat → Int64) → Option (Nat → Int64)), al1 24 = al 24 → F_X6_updatesP_10 2 k g fg (n + 2) KK 2 al1 = KK (vp_updL al1 24 (dg p22)) := by
    intro al1 n KK z1
    refine (R_up1 (al := al1) (i := 2) (j := 2) (j1 := 3) (ni := 2) (nj := 2) (m1 := 24) (m2 := 24) (x := dg p22) (n + 1) KK (by decide) (by decide) (by decide) (by decide) (by decide) rfl rfl rfl rfl rfl a22 (show F_X6_floor ((al1 24 - q22) * 65536) fg = some p22 by rw [z1]; exact b22) (if_pos rfl)).trans ?_
    rw [uu]
    exact R_up0 n KK
  have hch : ∀ (m : Nat) (KK : (Nat → Int64) → Option (Nat → Int64)), F_X6_updatesP_2 k g fg (m + 4) KK 0 al = KK (chR al (dg p00) (wM p01) (wM p02) (dg p11) (wM p12) (dg p22)) := by
    intro m KK
    rw [F_X6_updatesP_2, if_neg (by decide)]
    refine (in0 996 _).trans ?_
    rw [ltl_s, show (0 : Int32) + 1 = 1 from rfl, F_X6_updatesP_2, if_neg (by decide)]
    refine (in1 (vp_updL (vp_updL (vp_updL (vp_updL (vp_updL al 16 (dg p00)) 17 (wM p01)) 19 (wM p01)) 18 (wM p02)) 22 (wM p02)) 997 _ rfl rfl).trans ?_
    rw [ltl_s, show (1 : Int32) + 1 = 2 from rfl, F_X6_updatesP_2, if_neg (by decide)]
    refine (in2 (vp_updL (vp_updL (vp_updL (vp_updL (vp_updL (vp_updL (vp_updL (vp_updL al 16 (dg p00)) 17 (wM p01)) 19 (wM p01)) 18 (wM p02)) 22 (wM p02)) 20 (dg p11)) 21 (wM p12)) 23 (wM p12)) 998 _ rfl).trans ?_
    rw [ltl_s, show (2 : Int32) + 1 = 3 from rfl, F_X6_updatesP_2, if_pos (by decide)]
    rfl
  unfold F_X6_updatesP
  refine (hch 996 _).trans ?_
  obtain ⟨e1, e2, e3⟩ := chR_at al (dg p00) (wM p01) (wM p02) (dg p11) (wM p12) (dg p22)
  rw [e1, e2, e3]
  by_cases h : 163840000 < dg p00 + dg p11 + dg p22
  · rw [if_pos h, if_pos h, R_laysP, ob_s, ltl_s, lay9_o (by omega), chR_o (by omega)]
  · rw [if_neg h, if_neg h]
theorem C_up1 {i j j1 : Int32} {ni nj m1 m2 : Nat} {ga di ma : Nat → Int64} {fg q p l x : Int64} (n : Nat) (KK : (Nat → Int64) → Option (Nat → Int64)) (hj : ¬ (3 : Int32) ≤ j) (c1 : inb ((3 * i) + j) 9) (c2 : inb i 3) (c3 : inb j 3) (c4 : inb ((3 * j) + i) 9)
    (ei : i.toNatClampNeg = ni) (ej : j.toNatClampNeg = nj) (e1 : ((3 * i) + j).toNatClampNeg = m1) (e2 : ((3 * j) + i).toNatClampNeg = m2) (ej1 : j + 1 = j1) (a : F_X5_divideDown (ga ni * di nj) 65536 = some q) (b : F_X5_divideDown ((ma (((3 * i) + j).toNatClampNeg) - q) * 65536) fg = some p)
    (hl : (if i = j then 1 else -65536000) = l) (hx : wi p l 65536000 = x) :
    F_X0_updateMatrix_10 i ga di fg (n + 1) KK j ma = F_X0_updateMatrix_10 i ga di fg n KK j1 (vp_updL (vp_updL ma m1 x) m2 x) := by
  rw [F_X0_updateMatrix_10, if_neg hj, ck_i c1, ck_i c2, ck_i c3, ei, ej, a, ob_s, ltl_s, rg_ite, b, ob_s, F_bring, ob_s, hl, hx, ck_i c1, ltl_s, ck_i c4, ltl_s, ltl_s, e1, e2, ej1]
theorem C_up0 {i : Int32} {ga di ma : Nat → Int64} {fg : Int64} (n : Nat) (KK : (Nat → Int64) → Option (Nat → Int64)) : F_X0_updateMatrix_10 i ga di fg (n + 1) KK 3 ma = KK ma := by
  rw [F_X0_updateMatrix_10, if_pos (by decide)]
theorem C_update {ma di ga : Nat → Int64} {fg q00 q01 q02 q11 q12 q22 p00 p01 p02 p11 p12 p22 : Int64} (a00 : F_X5_divideDown (ga 0 * di 0) 65536 = some q00) (a01 : F_X5_divideDown (ga 0 * di 1) 65536 = some q01) (a02 : F_X5_divideDown (ga 0 * di 2) 65536 = some q02) (a11 : F_X5_divideDown (ga 1 * di 1) 65536 = some q11) (a12 : F_X5_divideDown (ga 1 * di 2) 65536 = some q12) (a22 : F_X5_divideDown (ga 2 * di 2) 65536 = some q22)
    (b00 : F_X5_divideDown ((ma 0 - q00) * 65536) fg = some p00) (b01 : F_X5_divideDown ((ma 1 - q01) * 65536) fg = some p01) (b02 : F_X5_divideDown ((ma 2 - q02) * 65536) fg = some p02) (b11 : F_X5_divideDown ((ma 4 - q11) * 65536) fg = some p11) (b12 : F_X5_divideDown ((ma 5 - q12) * 65536) fg = some p12) (b22 : F_X5_divideDown ((ma 8 - q22) * 65536) fg = some p22) :
    F_X0_updateMatrix ma di ga fg = some (chC ma (wi p00 1 65536000) (wM p01) (wM p02) (wi p11 1 65536000) (wM p12) (wi p22 1 65536000)) := by
  have in0 : ∀ (n : Nat) (KK : (Nat → Int64) → Option (Nat → Int64)), F_X0_updateMatrix_10 0 ga di fg (n + 4) KK 0 ma = KK (vp_updL (vp_updL (vp_updL (vp_updL (vp_updL ma 0 (wi p00 1 65536000)) 1 (wM p01)) 3 (wM p01)) 2 (wM p02)) 6 (wM p02)) := by
    intro n KK
    refine (C_up1 (ma := ma) (i := 0) (j := 0) (j1 := 1) (ni := 0) (nj := 0) (m1 := 0) (m2 := 0) (l := 1) (x := wi p00 1 65536000) (n + 3) KK (by decide) (by decide) (by decide) (by decide) (by decide) rfl rfl rfl rfl rfl a00 b00 (if_pos rfl) rfl).trans ?_
    rw [uu]
    refine (C_up1 (ma := vp_updL ma 0 (wi p00 1 65536000)) (i := 0) (j := 1) (j1 := 2) (ni := 0) (nj := 1) (m1 := 1) (m2 := 3) (l := -65536000) (x := wM p01) (n + 2) KK (by decide) (by decide) (by decide) (by decide) (by decide) rfl rfl rfl rfl rfl a01 b01 (if_neg (by decide)) rfl).trans ?_
    refine (C_up1 (ma := vp_updL (vp_updL (vp_updL ma 0 (wi p00 1 65536000)) 1 (wM p01)) 3 (wM p01)) (i := 0) (j := 2) (j1 := 3) (ni := 0) (nj := 2) (m1 := 2) (m2 := 6) (l := -65536000) (x := wM p02) (n + 1) KK (by decide) (by decide) (by decide) (by decide) (by decide) rfl rfl rfl rfl rfl a02 b02 (if_neg (by decide)) rfl).trans ?_
    exact C_up0 n KK
  have in1 : ∀ (al1 : Nat → Int64) (n : Nat) (KK : (Nat → Int64) → Option (Nat → Int64)), al1 4 = ma 4 → al1 5 = ma 5 → F_X0_updateMatrix_10 1 ga di fg (n + 3) KK 1 al1 = KK (vp_updL (vp_updL (vp_updL al1 4 (wi p11 1 65536000)) 5 (wM p12)) 7 (wM p12)) := by
    intro al1 n KK z1 z2
    refine (C_up1 (ma := al1) (i := 1) (j := 1) (j1 := 2) (ni := 1) (nj := 1) (m1 := 4) (m2 := 4) (l := 1) (x := wi p11 1 65536000) (n + 2) KK (by decide) (by decide) (by decide) (by decide) (by decide) rfl rfl rfl rfl rfl a11 (show F_X5_divideDown ((al1 4 - q11) * 65536) fg = some p11 by rw [z1]; exact b11) (if_pos rfl) rfl).trans ?_
    rw [uu]
    refine (C_up1 (ma := vp_updL al1 4 (wi p11 1 65536000)) (i := 1) (j := 2) (j1 := 3) (ni := 1) (nj := 2) (m1 := 5) (m2 := 7) (l := -65536000) (x := wM p12) (n + 1) KK (by decide) (by decide) (by decide) (by decide) (by decide) rfl rfl rfl rfl rfl a12 (show F_X5_divideDown ((al1 5 - q12) * 65536) fg = some p12 by rw [z2]; exact b12) (if_neg (by decide)) rfl).trans ?_
    exact C_up0 n KK
  have in2 : ∀ (al1 : Nat → Int64) (n : Nat) (KK : (Nat → Int64) → Option (Nat → Int64)), al1 8 = ma 8 → F_X0_updateMatrix_10 2 ga di fg (n + 2) KK 2 al1 = KK (vp_updL al1 8 (wi p22 1 65536000)) := by
    intro al1 n KK z1
    refine (C_up1 (ma := al1) (i := 2) (j := 2) (j1 := 3) (ni := 2) (nj := 2) (m1 := 8) (m2 := 8) (l := 1) (x := wi p22 1 65536000) (n + 1) KK (by decide) (by decide) (by decide) (by decide) (by decide) rfl rfl rfl rfl rfl a22 (show F_X5_divideDown ((al1 8 - q22) * 65536) fg = some p22 by rw [z1]; exact b22) (if_pos rfl) rfl).trans ?_
    rw [uu]
    exact C_up0 n KK
  have hch : ∀ (m : Nat) (KK : (Nat → Int64) → Option (Nat → Int64)), F_X0_updateMatrix_2 ga di fg (m + 4) KK 0 ma = KK (chC ma (wi p00 1 65536000) (wM p01) (wM p02) (wi p11 1 65536000) (wM p12) (wi p22 1 65536000)) := by
    intro m KK
    rw [F_X0_updateMatrix_2, if_neg (by decide)]
    refine (in0 996 _).trans ?_
    rw [ltl_s, show (0 : Int32) + 1 = 1 from rfl, F_X0_updateMatrix_2, if_neg (by decide)]
    refine (in1 (vp_updL (vp_updL (vp_updL (vp_updL (vp_updL ma 0 (wi p00 1 65536000)) 1 (wM p01)) 3 (wM p01)) 2 (wM p02)) 6 (wM p02)) 997 _ rfl rfl).trans ?_
    rw [ltl_s, show (1 : Int32) + 1 = 2 from rfl, F_X0_updateMatrix_2, if_neg (by decide)]
    refine (in2 (vp_updL (vp_updL (vp_updL (vp_updL (vp_updL (vp_updL (vp_updL (vp_updL ma 0 (wi p00 1 65536000)) 1 (wM p01)) 3 (wM p01)) 2 (wM p02)) 6 (wM p02)) 4 (wi p11 1 65536000)) 5 (wM p12)) 7 (wM p12)) 998 _ rfl).trans ?_
    rw [ltl_s, show (2 : Int32) + 1 = 3 from rfl, F_X0_updateMatrix_2, if_pos (by decide)]
    rfl
  exact hch 996 _
def lay9C (al : Nat → Int64) : Nat → Int64 := vp_updL (vp_updL (vp_updL (vp_updL (vp_updL (vp_updL (vp_updL (vp_updL (vp_updL al 0 6553600) 1 0) 2 0) 3 0) 4 6553600) 5 0) 6 0) 7 0) 8 6553600
theorem C_rs1 {i j j1 : Int32} {m : Nat} {ma : Nat → Int64} {x : Int64} (n : Nat) (KK : (Nat → Int64) → Option (Nat → Int64)) (hj : ¬ (3 : Int32) ≤ j) (c : inb ((3 * i) + j) 9) (e : ((3 * i) + j).toNatClampNeg = m) (ej1 : j + 1 = j1) (hx : (if i = j then 6553600 else 0) = x) :
    F_X0_resetMatrix_9 i (n + 1) KK j ma = F_X0_resetMatrix_9 i n KK j1 (vp_updL ma m x) := by
  rw [F_X0_resetMatrix_9, if_neg hj, rg_ite, ck_i c, ltl_s, ltl_s, hx, e, ej1]
theorem C_rs0 {i : Int32} {ma : Nat → Int64} (n : Nat) (KK : (Nat → Int64) → Option (Nat → Int64)) : F_X0_resetMatrix_9 i (n + 1) KK 3 ma = KK ma := by
  rw [F_X0_resetMatrix_9, if_pos (by decide)]
theorem C_reset (ma : Nat → Int64) : F_X0_resetMatrix ma = some (lay9C ma) := by
  have in0 : ∀ (ma : Nat → Int64) (n : Nat) (KK : (Nat → Int64) → Option (Nat → Int64)), F_X0_resetMatrix_9 0 (n + 4) KK 0 ma = KK (vp_updL (vp_updL (vp_updL ma 0 6553600) 1 0) 2 0) := by
    intro ma n KK
    refine (C_rs1 (i := 0) (j := 0) (j1 := 1) (m := 0) (x := 6553600) (n + 3) KK (by decide) (by decide) rfl rfl (if_pos rfl)).trans ?_
    refine (C_rs1 (i := 0) (j := 1) (j1 := 2) (m := 1) (x := 0) (n + 2) KK (by decide) (by decide) rfl rfl (if_neg (by decide))).trans ?_
    refine (C_rs1 (i := 0) (j := 2) (j1 := 3) (m := 2) (x := 0) (n + 1) KK (by decide) (by decide) rfl rfl (if_neg (by decide))).trans ?_
    exact C_rs0 n KK
  have in1 : ∀ (ma : Nat → Int64) (n : Nat) (KK : (Nat → Int64) → Option (Nat → Int64)), F_X0_resetMatrix_9 1 (n + 4) KK 0 ma = KK (vp_updL (vp_updL (vp_updL ma 3 0) 4 6553600) 5 0) := by
    intro ma n KK
    refine (C_rs1 (i := 1) (j := 0) (j1 := 1) (m := 3) (x := 0) (n + 3) KK (by decide) (by decide) rfl rfl (if_neg (by decide))).trans ?_
    refine (C_rs1 (i := 1) (j := 1) (j1 := 2) (m := 4) (x := 6553600) (n + 2) KK (by decide) (by decide) rfl rfl (if_pos rfl)).trans ?_
    refine (C_rs1 (i := 1) (j := 2) (j1 := 3) (m := 5) (x := 0) (n + 1) KK (by decide) (by decide) rfl rfl (if_neg (by decide))).trans ?_
    exact C_rs0 n KK
  have in2 : ∀ (ma : Nat → Int64) (n : Nat) (KK : (Nat → Int64) → Option (Nat → Int64)), F_X0_resetMatrix_9 2 (n + 4) KK 0 ma = KK (vp_updL (vp_updL (vp_updL ma 6 0) 7 0) 8 6553600) := by
    intro ma n KK
    refine (C_rs1 (i := 2) (j := 0) (j1 := 1) (m := 6) (x := 0) (n + 3) KK (by decide) (by decide) rfl rfl (if_neg (by decide))).trans ?_
    refine (C_rs1 (i := 2) (j := 1) (j1 := 2) (m := 7) (x := 0) (n + 2) KK (by decide) (by decide) rfl rfl (if_neg (by decide))).trans ?_
    refine (C_rs1 (i := 2) (j := 2) (j1 := 3) (m := 8) (x := 6553600) (n + 1) KK (by decide) (by decide) rfl rfl (if_pos rfl)).trans ?_
    exact C_rs0 n KK
  have hch : ∀ (m : Nat) (KK : (Nat → Int64) → Option (Nat → Int64)), F_X0_resetMatrix_2 (m + 4) KK 0 ma = KK (lay9C ma) := by
    intro m KK
    rw [F_X0_resetMatrix_2, if_neg (by decide)]
    refine (in0 _ 996 _).trans ?_
    rw [ltl_s, show (0 : Int32) + 1 = 1 from rfl, F_X0_resetMatrix_2, if_neg (by decide)]
    refine (in1 _ 996 _).trans ?_
    rw [ltl_s, show (1 : Int32) + 1 = 2 from rfl, F_X0_resetMatrix_2, if_neg (by decide)]
    refine (in2 _ 996 _).trans ?_
    rw [ltl_s, show (2 : Int32) + 1 = 3 from rfl, F_X0_resetMatrix_2, if_pos (by decide)]
    rfl
  exact hch 996 _
theorem C_sp1 {ma di : Nat → Int64} {y u : Int32} {i i1 : Int32} {m k : Nat} {x : Int64} (n : Nat) (K : (Nat → Int64) → Option (Int64 × (Nat → Int64))) (hj : ¬ (3 : Int32) ≤ i) (c0 : inb (3 * i) 9) (c1 : inb (3 * i + 1) 9) (c2 : inb (3 * i + 2) 9) (c3 : inb i 3) (e0 : (3 * i).toNatClampNeg = m) (e1 : (3 * i + 1).toNatClampNeg = m + 1) (e2 : (3 * i + 2).toNatClampNeg = m + 2) (e3 : i.toNatClampNeg = k) (ei : i + 1 = i1) (hx : ma m * y.toInt64 + ma (m + 1) * u.toInt64 + ma (m + 2) = x) :
    F_X0_spread_2 ma y u (n + 1) K i di = F_X0_spread_2 ma y u n K i1 (vp_updL di k x) := by
  rw [F_X0_spread_2, if_neg hj, ltl_s, ck_i c0, ck_i c1, ck_i c2, ck_i c3, ltl_s, ltl_s, e0, e1, e2, e3, hx, ei]
theorem L_spread2 (ma di : Nat → Int64) (y u : Int32) (n : Nat) (K : (Nat → Int64) → Option (Int64 × (Nat → Int64))) : F_X0_spread_2 ma y u (n + 4) K 0 di = K (vp_updL (vp_updL (vp_updL di 0 (ma 0 * y.toInt64 + ma 1 * u.toInt64 + ma 2)) 1 (ma 3 * y.toInt64 + ma 4 * u.toInt64 + ma 5)) 2 (ma 6 * y.toInt64 + ma 7 * u.toInt64 + ma 8)) := by
  refine (C_sp1 (i := 0) (i1 := 1) (m := 0) (k := 0) (n + 3) K (by decide) (by decide) (by decide) (by decide) (by decide) rfl rfl rfl rfl rfl rfl).trans ?_
  refine (C_sp1 (i := 1) (i1 := 2) (m := 3) (k := 1) (n + 2) K (by decide) (by decide) (by decide) (by decide) (by decide) rfl rfl rfl rfl rfl rfl).trans ?_
  refine (C_sp1 (i := 2) (i1 := 3) (m := 6) (k := 2) (n + 1) K (by decide) (by decide) (by decide) (by decide) (by decide) rfl rfl rfl rfl rfl rfl).trans ?_
  rw [F_X0_spread_2, if_pos (by decide)]
theorem C_spread (ma di : Nat → Int64) (y u : Int32) : F_X0_spread ma di y u = some ((if (ma 0 * y.toInt64 + ma 1 * u.toInt64 + ma 2) * y.toInt64 + (ma 3 * y.toInt64 + ma 4 * u.toInt64 + ma 5) * u.toInt64 + (ma 6 * y.toInt64 + ma 7 * u.toInt64 + ma 8) < 0 then 0 else (ma 0 * y.toInt64 + ma 1 * u.toInt64 + ma 2) * y.toInt64 + (ma 3 * y.toInt64 + ma 4 * u.toInt64 + ma 5) * u.toInt64 + (ma 6 * y.toInt64 + ma 7 * u.toInt64 + ma 8)), vp_updL (vp_updL (vp_updL di 0 (ma 0 * y.toInt64 + ma 1 * u.toInt64 + ma 2)) 1 (ma 3 * y.toInt64 + ma 4 * u.toInt64 + ma 5)) 2 (ma 6 * y.toInt64 + ma 7 * u.toInt64 + ma 8)) := by
  unfold F_X0_spread
  exact (L_spread2 ma di y u 996 _).trans rfl
theorem R_box0 (al : Nat → Int64) : F_X6_boxes al 0 = some (if wi (al 13) (al 7) (al 8) = al 13 then 0 else 1, vp_updL al 13 (wi (al 13) (al 7) (al 8))) := R_boxes al 0 (Or.inl rfl)
theorem R_box1 (al : Nat → Int64) : F_X6_boxes al 1 = some (if wi (al 14) (al 9) (al 10) = al 14 then 0 else 1, vp_updL al 14 (wi (al 14) (al 9) (al 10))) := R_boxes al 1 (Or.inr (Or.inl rfl))
theorem R_box2 (al : Nat → Int64) : F_X6_boxes al 2 = some (if wi (al 15) (al 11) (al 12) = al 15 then 0 else 1, vp_updL al 15 (wi (al 15) (al 11) (al 12))) := R_boxes al 2 (Or.inr (Or.inr rfl))
theorem R_b52 {j j1 : Int32} {m : Nat} {al : Nat → Int64} (n : Nat) (KK : (Nat → Int64) → Option (Nat → Int64)) (hj : ¬ (30 : Int32) ≤ j) (c : inb j 76) (e : j.toNatClampNeg = m) (ej1 : j + 1 = j1) : F_X6_begins_52 (n + 1) KK j al = F_X6_begins_52 n KK j1 (vp_updL al m 0) := by
  rw [F_X6_begins_52, if_neg hj, ck_i c, ltl_s, ltl_s, e, ej1]
theorem R_begins (al : Nat → Int64) : F_X6_begins al = some (vp_updL (vp_updL (vp_updL (vp_updL (vp_updL (lay9 (vp_updL (vp_updL (vp_updL al 13 (wi 0 (al 7) (al 8))) 14 (wi 65536 (al 9) (al 10))) 15 (wi 0 (al 11) (al 12)))) 25 0) 26 0) 27 0) 28 0) 29 0) := by
  have q1 : ∀ (n : Nat) (K : (Nat → Int64) → Option (Nat → Int64)), F_X6_begins_28 (n + 4) K 0 (vp_updL (vp_updL (vp_updL al 13 0) 14 65536) 15 0) = K (vp_updL (vp_updL (vp_updL (vp_updL (vp_updL (vp_updL al 13 0) 14 65536) 15 0) 13 (wi 0 (al 7) (al 8))) 14 (wi 65536 (al 9) (al 10))) 15 (wi 0 (al 11) (al 12))) := by
    intro n K
    rw [F_X6_begins_28, if_neg (by decide), R_box0, ob_s, ltl_s, show (0 : Int32) + 1 = 1 from rfl]
    rw [F_X6_begins_28, if_neg (by decide), R_box1, ob_s, ltl_s, show (1 : Int32) + 1 = 2 from rfl]
    rw [F_X6_begins_28, if_neg (by decide), R_box2, ob_s, ltl_s, show (2 : Int32) + 1 = 3 from rfl]
    rw [F_X6_begins_28, if_pos (by decide)]
    rfl
  have q2 : ∀ (al : Nat → Int64) (n : Nat) (K : (Nat → Int64) → Option (Nat → Int64)), F_X6_begins_52 (n + 6) K 25 al = K (vp_updL (vp_updL (vp_updL (vp_updL (vp_updL al 25 0) 26 0) 27 0) 28 0) 29 0) := by
    intro al n K
    refine (R_b52 (j := 25) (j1 := 26) (m := 25) (n + 5) K (by decide) (by decide) rfl rfl).trans ?_
    refine (R_b52 (j := 26) (j1 := 27) (m := 26) (n + 4) K (by decide) (by decide) rfl rfl).trans ?_
    refine (R_b52 (j := 27) (j1 := 28) (m := 27) (n + 3) K (by decide) (by decide) rfl rfl).trans ?_
    refine (R_b52 (j := 28) (j1 := 29) (m := 28) (n + 2) K (by decide) (by decide) rfl rfl).trans ?_
    refine (R_b52 (j := 29) (j1 := 30) (m := 29) (n + 1) K (by decide) (by decide) rfl rfl).trans ?_
    rw [F_X6_begins_52, if_pos (by decide)]
  have q3 : vp_updL (vp_updL (vp_updL (vp_updL (vp_updL (vp_updL al 13 0) 14 65536) 15 0) 13 (wi 0 (al 7) (al 8))) 14 (wi 65536 (al 9) (al 10))) 15 (wi 0 (al 11) (al 12)) = vp_updL (vp_updL (vp_updL al 13 (wi 0 (al 7) (al 8))) 14 (wi 65536 (al 9) (al 10))) 15 (wi 0 (al 11) (al 12)) := by
    funext j
    simp only [uL]
    by_cases h1 : j = 15
    · simp only [if_pos h1]
    · simp only [if_neg h1]
      by_cases h2 : j = 14
      · simp only [if_pos h2]
      · simp only [if_neg h2]
        by_cases h3 : j = 13
        · simp only [if_pos h3]
        · simp only [if_neg h3]
  unfold F_X6_begins
  rw [ltl_s, ltl_s, ltl_s]
  refine (q1 996 _).trans ?_
  rw [q3, R_laysP, ob_s]
  exact q2 _ 994 _
theorem C_br0 (lo hi pa : Nat → Int32) (v : Int64) : F_X0_bringIntoBox lo hi pa 0 v = some (if wi v (lo 0).toInt64 (hi 0).toInt64 = v then 0 else 1, upd pa 0 (wi v (lo 0).toInt64 (hi 0).toInt64).toInt32) := C_bring lo hi pa 0 v (Or.inl rfl)
theorem C_br1 (lo hi pa : Nat → Int32) (v : Int64) : F_X0_bringIntoBox lo hi pa 1 v = some (if wi v (lo 1).toInt64 (hi 1).toInt64 = v then 0 else 1, upd pa 1 (wi v (lo 1).toInt64 (hi 1).toInt64).toInt32) := C_bring lo hi pa 1 v (Or.inr (Or.inl rfl))
theorem C_br2 (lo hi pa : Nat → Int32) (v : Int64) : F_X0_bringIntoBox lo hi pa 2 v = some (if wi v (lo 2).toInt64 (hi 2).toInt64 = v then 0 else 1, upd pa 2 (wi v (lo 2).toInt64 (hi 2).toInt64).toInt32) := C_bring lo hi pa 2 v (Or.inr (Or.inr rfl))
theorem C_b29 {j j1 : Int32} {m : Nat} {co : Nat → Int32} (n : Nat) (KK : (Nat → Int32) → Option ((Nat → Int32) × (Nat → Int64) × (Nat → Int32) × Int32)) (hj : ¬ (5 : Int32) ≤ j) (c : inb j 5) (e : j.toNatClampNeg = m) (ej1 : j + 1 = j1) : F_X0_begin_29 (n + 1) KK j co = F_X0_begin_29 n KK j1 (upd co m 0) := by
  rw [F_X0_begin_29, if_neg hj, ck_i c, ltl_s, ltl_s, e, ej1]
theorem C_begin (lo hi pa co : Nat → Int32) (ma : Nat → Int64) : F_X0_begin lo hi pa ma co = some (upd (upd (upd pa 0 (wi 0 (lo 0).toInt64 (hi 0).toInt64).toInt32) 1 (wi 65536 (lo 1).toInt64 (hi 1).toInt64).toInt32) 2 (wi 0 (lo 2).toInt64 (hi 2).toInt64).toInt32, lay9C ma, upd (upd (upd (upd (upd co 0 0) 1 0) 2 0) 3 0) 4 0, 0) := by
  have q2 : ∀ (n : Nat) (K : (Nat → Int32) → Option ((Nat → Int32) × (Nat → Int64) × (Nat → Int32) × Int32)), F_X0_begin_29 (n + 6) K 0 co = K (upd (upd (upd (upd (upd co 0 0) 1 0) 2 0) 3 0) 4 0) := by
    intro n K
    refine (C_b29 (j := 0) (j1 := 1) (m := 0) (n + 5) K (by decide) (by decide) rfl rfl).trans ?_
    refine (C_b29 (j := 1) (j1 := 2) (m := 1) (n + 4) K (by decide) (by decide) rfl rfl).trans ?_
    refine (C_b29 (j := 2) (j1 := 3) (m := 2) (n + 3) K (by decide) (by decide) rfl rfl).trans ?_
    refine (C_b29 (j := 3) (j1 := 4) (m := 3) (n + 2) K (by decide) (by decide) rfl rfl).trans ?_
    refine (C_b29 (j := 4) (j1 := 5) (m := 4) (n + 1) K (by decide) (by decide) rfl rfl).trans ?_
    rw [F_X0_begin_29, if_pos (by decide)]
  unfold F_X0_begin
  rw [C_br0, ob_s, C_br1, ob_s, C_br2, ob_s, C_reset, ob_s]
  exact q2 994 _
