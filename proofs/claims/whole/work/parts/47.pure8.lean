/-! PURE: a sample on both sides -/
theorem absin {e w : Int64} (he : bd 5506334720 e) (hw : 0 ≤ w.toInt ∧ w.toInt ≤ 500) : (65536 * w < (if 0 < e then e else -e)) ↔ ¬ (-65536 * w ≤ e ∧ e ≤ 65536 * w) := by
  have p := i64_mul (x := 65536) (y := w) (B := 500) (lit64q (x := 65536) (n := 65536) rfl 65536 (by omega) (by omega)) (by unfold bd; omega) (by omega)
  have q := i64_mul (x := -65536) (y := w) (B := 500) (lit64q (x := -65536) (n := -65536) rfl 65536 (by omega) (by omega)) (by unfold bd; omega) (by omega)
  have e1_ : (65536 : Int64).toInt = 65536 := rfl
  have e2_ : (-65536 : Int64).toInt = -65536 := rfl
  have n := i64_neg he (by omega)
  rw [e1_] at p
  rw [e2_] at q
  unfold bd at *
  by_cases h : 0 < e
  · rw [if_pos h]
    rw [gt0] at h
    rw [Int64.lt_iff_toInt_lt, Int64.le_iff_toInt_le, Int64.le_iff_toInt_le]
    omega
  · rw [if_neg h]
    rw [gt0] at h
    rw [Int64.lt_iff_toInt_lt, Int64.le_iff_toInt_le, Int64.le_iff_toInt_le]
    omega
/-- what a sample makes of the reference's array g (the window is in it already): the numbers -/
def tkA (g : Nat → Int64) (d : Int64) (T0_ T1 T2 b : Int64) : Nat → Int64 := vp_updL (vp_updL (vp_updL (vp_updL (vp_updL (vp_updL g 25 (g 25 + 1)) 29 (g 29 + d)) 13 T0_) 14 T1) 15 T2) 28 (g 28 + b)
def tkF (v : Nat → Int64) (a b c d e f : Int64) : Nat → Int64 := if 163840000 < a + d + f then vp_updL (lay9 (chR v a b c d e f)) 27 (v 27 + 1) else chR v a b c d e f
theorem R_take_upd {sS : Int64} {f sF sG sK g : Nat → Int64} {y u z e : Int64} (hk : F_X6_keeps f y u = some g) (hg : ∀ j, j < 36 → g j = f j) (he : e = 65536 * z - (f 13 * y + f 14 * u + f 15)) (hc_ : ¬ (-65536 * f 1 ≤ e ∧ e ≤ 65536 * f 1))
    {G0 G1 G2 S fg k0 k1 k2 T0_ T1 T2 : Int64} {b0 b1 b2 : Int32} {r0 r1 r2 q00 q01 q02 q11_ q12_ q22 p00 p01 p02 p11 p12 p22 : Int64}
    (e0_ : G0 = f 16 * y + f 17 * u + f 18) (e1_ : G1 = f 19 * y + f 20 * u + f 21) (e2_ : G2 = f 22 * y + f 23 * u + f 24) (eS : S = ps (G0 * y + G1 * u + G2)) (ef : fg = if S < f 2 * 65536 then 65536 else f 0)
    (ek0 : k0 = kk G0 S fg) (ek1 : k1 = kk G1 S fg) (ek2 : k2 = kk G2 S fg)
    (hk0 : F_X6_floor (65536 * G0) (fg + S) = some (fl (65536 * G0) (fg + S))) (hk1 : F_X6_floor (65536 * G1) (fg + S) = some (fl (65536 * G1) (fg + S))) (hk2 : F_X6_floor (65536 * G2) (fg + S) = some (fl (65536 * G2) (fg + S)))
    (hr0 : F_X6_floor (k0 * e) 65536 = some r0) (hr1 : F_X6_floor (k1 * e) 65536 = some r1) (hr2 : F_X6_floor (k2 * e) 65536 = some r2)
    (eT0 : T0_ = wi (f 13 + r0) (f 7) (f 8)) (eT1 : T1 = wi (f 14 + r1) (f 9) (f 10)) (eT2 : T2 = wi (f 15 + r2) (f 11) (f 12))
    (eb0 : b0 = if T0_ = f 13 + r0 then 0 else 1) (eb1 : b1 = if T1 = f 14 + r1 then 0 else 1) (eb2 : b2 = if T2 = f 15 + r2 then 0 else 1)
    (a00 : F_X6_floor (k0 * G0) 65536 = some q00) (a01 : F_X6_floor (k0 * G1) 65536 = some q01) (a02 : F_X6_floor (k0 * G2) 65536 = some q02) (a11 : F_X6_floor (k1 * G1) 65536 = some q11_) (a12 : F_X6_floor (k1 * G2) 65536 = some q12_) (a22 : F_X6_floor (k2 * G2) 65536 = some q22)
    (b00 : F_X6_floor ((f 16 - q00) * 65536) fg = some p00) (b01 : F_X6_floor ((f 17 - q01) * 65536) fg = some p01) (b02 : F_X6_floor ((f 18 - q02) * 65536) fg = some p02) (b11 : F_X6_floor ((f 20 - q11_) * 65536) fg = some p11) (b12 : F_X6_floor ((f 21 - q12_) * 65536) fg = some p12) (b22 : F_X6_floor ((f 24 - q22) * 65536) fg = some p22) :
    ∃ (F1 G' K' : Nat → Int64), F_X6_takes sS f sF sG sK y u z = some (e, S, tkF (tkA g (if S < f 2 * 65536 then 1 else 0) T0_ T1 T2 (if orr b2 (orr b1 (orr b0 0)) = 0 then 0 else 1)) (dg p00) (wM p01) (wM p02) (dg p11) (wM p12) (dg p22), F1, G', K') := by
  refine ⟨vp_updL (vp_updL (vp_updL sF 0 y) 1 u) 2 1, vp_updL (vp_updL (vp_updL sG 0 G0) 1 G1) 2 G2, vp_updL (vp_updL (vp_updL sK 0 k0) 1 k1) 2 k2, ?_⟩
  unfold F_X6_takes
  have c1 : F_X6_takesRegressor sF y u = some (vp_updL (vp_updL (vp_updL sF 0 y) 1 u) 2 1) := rfl
  have c2 : F_X6_sum f (vp_updL (vp_updL (vp_updL sF 0 y) 1 u) 2 1) = some (f 13 * y + f 14 * u + f 15 * 1) := rfl
  have c3 : F_X6_laysGains (vp_updL g 25 (g 25 + 1)) (vp_updL (vp_updL (vp_updL sF 0 y) 1 u) 2 1) sG = some (S, vp_updL (vp_updL (vp_updL sG 0 G0) 1 G1) 2 G2) := by
    rw [R_spread (y := y) (u := u) rfl rfl rfl]
    have h16_ : vp_updL g 25 (g 25 + 1) 16 = f 16 := hg 16 (by omega)
    have h17 : vp_updL g 25 (g 25 + 1) 17 = f 17 := hg 17 (by omega)
    have h18 : vp_updL g 25 (g 25 + 1) 18 = f 18 := hg 18 (by omega)
    have h19 : vp_updL g 25 (g 25 + 1) 19 = f 19 := hg 19 (by omega)
    have h20 : vp_updL g 25 (g 25 + 1) 20 = f 20 := hg 20 (by omega)
    have h21 : vp_updL g 25 (g 25 + 1) 21 = f 21 := hg 21 (by omega)
    have h22 : vp_updL g 25 (g 25 + 1) 22 = f 22 := hg 22 (by omega)
    have h23 : vp_updL g 25 (g 25 + 1) 23 = f 23 := hg 23 (by omega)
    have h24 : vp_updL g 25 (g 25 + 1) 24 = f 24 := hg 24 (by omega)
    rw [h16_, h17, h18, h19, h20, h21, h22, h23, h24, ← e0_, ← e1_, ← e2_, ← eS]
  rw [c1, ob_s, c2, ob_s, ltl_s, Int64.mul_one, ← he, hk, ob_s, ltl_s, F_in, ob_s]
  rw [show vp_updL g 25 (g 25 + 1) 1 = f 1 from hg 1 (by omega), if_neg hc_, if_pos rfl, c3, ob_s, rg_dir]
  rw [show vp_updL g 25 (g 25 + 1) 2 = f 2 from hg 2 (by omega), show vp_updL g 25 (g 25 + 1) 0 = f 0 from hg 0 (by omega), ← ef, ltl_s]
  rw [show vp_updL g 25 (g 25 + 1) 29 = g 29 from rfl]
  rw [R_gains (g := vp_updL (vp_updL (vp_updL sG 0 G0) 1 G1) 2 G2) hk0 hk1 hk2 (show F_X6_floor (kk G0 S fg * e) 65536 = some r0 by rw [← ek0]; exact hr0) (show F_X6_floor (kk G1 S fg * e) 65536 = some r1 by rw [← ek1]; exact hr1) (show F_X6_floor (kk G2 S fg * e) 65536 = some r2 by rw [← ek2]; exact hr2)]
  have w13 : ∀ d : Int64, vp_updL (vp_updL g 25 (g 25 + 1)) 29 d 13 = f 13 := fun d => hg 13 (by omega)
  have w14_ : ∀ d : Int64, vp_updL (vp_updL g 25 (g 25 + 1)) 29 d 14 = f 14 := fun d => hg 14 (by omega)
  have w15 : ∀ d : Int64, vp_updL (vp_updL g 25 (g 25 + 1)) 29 d 15 = f 15 := fun d => hg 15 (by omega)
  have w7_ : ∀ d : Int64, vp_updL (vp_updL g 25 (g 25 + 1)) 29 d 7 = f 7 := fun d => hg 7 (by omega)
  have w8 : ∀ d : Int64, vp_updL (vp_updL g 25 (g 25 + 1)) 29 d 8 = f 8 := fun d => hg 8 (by omega)
  have w9 : ∀ d : Int64, vp_updL (vp_updL g 25 (g 25 + 1)) 29 d 9 = f 9 := fun d => hg 9 (by omega)
  have w10_ : ∀ d : Int64, vp_updL (vp_updL g 25 (g 25 + 1)) 29 d 10 = f 10 := fun d => hg 10 (by omega)
  have w11_ : ∀ d : Int64, vp_updL (vp_updL g 25 (g 25 + 1)) 29 d 11 = f 11 := fun d => hg 11 (by omega)
  have w12 : ∀ d : Int64, vp_updL (vp_updL g 25 (g 25 + 1)) 29 d 12 = f 12 := fun d => hg 12 (by omega)
  rw [w13, w14_, w15, w7_, w8, w9, w10_, w11_, w12, ← eT0, ← eT1, ← eT2, ← eb0, ← eb1, ← eb2]
  rw [show wi (fl (65536 * G0) (fg + S)) (-6553600) 6553600 = k0 from ek0.symm, show wi (fl (65536 * G1) (fg + S)) (-6553600) 6553600 = k1 from ek1.symm, show wi (fl (65536 * G2) (fg + S)) (-6553600) 6553600 = k2 from ek2.symm]
  rw [rg_ite, ltl_s]
  have hv : ∀ d : Int64, vp_updL (vp_updL (vp_updL (vp_updL (vp_updL g 25 (g 25 + 1)) 29 d) 13 T0_) 14 T1) 15 T2 28 = g 28 := fun d => rfl
  try dsimp only
  rw [hv]
  show ob (F_X6_updatesP (tkA g (if S < f 2 * 65536 then 1 else 0) T0_ T1 T2 (if orr b2 (orr b1 (orr b0 0)) = 0 then 0 else 1)) _ _ fg) _ = _
  have al : ∀ (j : Nat) (d b : Int64), 16 ≤ j → j < 25 → tkA g d T0_ T1 T2 b j = f j := fun j d b h1 h2 => by
    unfold tkA
    rw [uL, uL, uL, uL, uL, uL, if_neg (by omega), if_neg (by omega), if_neg (by omega), if_neg (by omega), if_neg (by omega), if_neg (by omega)]
    exact hg j (by omega)
  have hU := R_update (al := tkA g (if S < f 2 * 65536 then 1 else 0) T0_ T1 T2 (if orr b2 (orr b1 (orr b0 0)) = 0 then 0 else 1)) (g := vp_updL (vp_updL (vp_updL sG 0 G0) 1 G1) 2 G2) (k := vp_updL (vp_updL (vp_updL sK 0 k0) 1 k1) 2 k2) (fg := fg) (q00 := q00) (q01 := q01) (q02 := q02) (q11 := q11_) (q12 := q12_) (q22 := q22) (p00 := p00) (p01 := p01) (p02 := p02) (p11 := p11) (p12 := p12) (p22 := p22) a00 a01 a02 a11 a12 a22 (by rw [al 16 _ _ (by omega) (by omega)]; exact b00) (by rw [al 17 _ _ (by omega) (by omega)]; exact b01) (by rw [al 18 _ _ (by omega) (by omega)]; exact b02) (by rw [al 20 _ _ (by omega) (by omega)]; exact b11) (by rw [al 21 _ _ (by omega) (by omega)]; exact b12) (by rw [al 24 _ _ (by omega) (by omega)]; exact b22)
  rw [hU, ob_s]
  rfl
