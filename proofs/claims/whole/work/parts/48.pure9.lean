/-! PURE: the component takes a sample -/
def tkC (Co : Nat → Int32) (d : Int32) (b : Int32) : Nat → Int32 := if b = 0 then upd (upd Co 0 (Co 0 + 1)) 4 (Co 4 + d) else upd (upd (upd Co 0 (Co 0 + 1)) 4 (Co 4 + d)) 3 (Co 3 + 1)
theorem C_mv2 {lo hi pa Co : Nat → Int32} {ga : Nat → Int64} {e r0 r1 r2 T0_ T1 T2 t0 t1 t2 : Int64} {b0 b1 b2 d : Int32} (hp0 : (pa 0).toInt64 = t0) (hp1 : (pa 1).toInt64 = t1) (hp2 : (pa 2).toInt64 = t2) (eT0 : T0_ = wi (t0 + r0) (lo 0).toInt64 (hi 0).toInt64) (eT1 : T1 = wi (t1 + r1) (lo 1).toInt64 (hi 1).toInt64) (eT2 : T2 = wi (t2 + r2) (lo 2).toInt64 (hi 2).toInt64)
    (eb0 : b0 = if T0_ = t0 + r0 then 0 else 1) (eb1 : b1 = if T1 = t1 + r1 then 0 else 1) (eb2 : b2 = if T2 = t2 + r2 then 0 else 1) (hr0 : F_X5_divideDown (ga 0 * e) 65536 = some r0) (hr1 : F_X5_divideDown (ga 1 * e) 65536 = some r1) (hr2 : F_X5_divideDown (ga 2 * e) 65536 = some r2) :
    F_X0_moveParameters lo hi pa (upd (upd Co 0 (Co 0 + 1)) 4 (Co 4 + d)) ga e = some (upd (upd (upd pa 0 T0_.toInt32) 1 T1.toInt32) 2 T2.toInt32, tkC Co d (orr b2 (orr b1 (orr b0 0)))) := by
  subst hp0 hp1 hp2 eT0 eT1 eT2 eb0 eb1 eb2
  exact C_move hr0 hr1 hr2
theorem C_take_upd {Lo Hi Pa_ Co Se Wo Wi Wo1 Wi1 : Nat → Int32} {Ma Di Ga : Nat → Int64} {Hd Hd1 y u z : Int32} {t0 t1 t2 w1 w2 s0 Y U Z e : Int64} (hp0 : (Pa_ 0).toInt64 = t0) (hp1 : (Pa_ 1).toInt64 = t1) (hp2 : (Pa_ 2).toInt64 = t2) (hs1 : (Se 1).toInt64 = w1) (hs2 : (Se 2).toInt64 = w2) (hs0 : (Se 0).toInt64 = s0) (hY : y.toInt64 = Y) (hU : u.toInt64 = U) (hZ : z.toInt64 = Z)
    (hadd : F_X4_add Hd Wo Wi y u = some (Hd1, Wo1, Wi1)) (he : e = 65536 * Z - (t0 * Y + t1 * U + t2)) (hc_ : 65536 * w1 < (if 0 < e then e else -e))
    {G0 G1 G2 S fg k0 k1 k2 T0_ T1 T2 : Int64} {b0 b1 b2 : Int32} {r0 r1 r2 q00 q01 q02 q11_ q12_ q22 p00 p01 p02 p11 p12 p22 : Int64}
    (e0_ : G0 = Ma 0 * Y + Ma 1 * U + Ma 2) (e1_ : G1 = Ma 3 * Y + Ma 4 * U + Ma 5) (e2_ : G2 = Ma 6 * Y + Ma 7 * U + Ma 8) (eS : S = ps (G0 * Y + G1 * U + G2)) (ef : fg = if S < w2 * 65536 then 65536 else s0)
    (ek0 : k0 = kk G0 S fg) (ek1 : k1 = kk G1 S fg) (ek2 : k2 = kk G2 S fg)
    (hk0 : F_X5_divideDown (65536 * G0) (fg + S) = some (fl (65536 * G0) (fg + S))) (hk1 : F_X5_divideDown (65536 * G1) (fg + S) = some (fl (65536 * G1) (fg + S))) (hk2 : F_X5_divideDown (65536 * G2) (fg + S) = some (fl (65536 * G2) (fg + S)))
    (hr0 : F_X5_divideDown (k0 * e) 65536 = some r0) (hr1 : F_X5_divideDown (k1 * e) 65536 = some r1) (hr2 : F_X5_divideDown (k2 * e) 65536 = some r2)
    (eT0 : T0_ = wi (t0 + r0) (Lo 0).toInt64 (Hi 0).toInt64) (eT1 : T1 = wi (t1 + r1) (Lo 1).toInt64 (Hi 1).toInt64) (eT2 : T2 = wi (t2 + r2) (Lo 2).toInt64 (Hi 2).toInt64)
    (eb0 : b0 = if T0_ = t0 + r0 then 0 else 1) (eb1 : b1 = if T1 = t1 + r1 then 0 else 1) (eb2 : b2 = if T2 = t2 + r2 then 0 else 1)
    (a00 : F_X5_divideDown (k0 * G0) 65536 = some q00) (a01 : F_X5_divideDown (k0 * G1) 65536 = some q01) (a02 : F_X5_divideDown (k0 * G2) 65536 = some q02) (a11 : F_X5_divideDown (k1 * G1) 65536 = some q11_) (a12 : F_X5_divideDown (k1 * G2) 65536 = some q12_) (a22 : F_X5_divideDown (k2 * G2) 65536 = some q22)
    (b00 : F_X5_divideDown ((Ma 0 - q00) * 65536) fg = some p00) (b01 : F_X5_divideDown ((Ma 1 - q01) * 65536) fg = some p01) (b02 : F_X5_divideDown ((Ma 2 - q02) * 65536) fg = some p02) (b11 : F_X5_divideDown ((Ma 4 - q11_) * 65536) fg = some p11) (b12 : F_X5_divideDown ((Ma 5 - q12_) * 65536) fg = some p12) (b22 : F_X5_divideDown ((Ma 8 - q22) * 65536) fg = some p22) :
    ∃ (Di1 Ga1 : Nat → Int64), F_X0_take Lo Hi Pa_ Ma Co Di Ga Hd Wo Wi Se y u z = some (e, upd (upd (upd Pa_ 0 T0_.toInt32) 1 T1.toInt32) 2 T2.toInt32,
      (if 163840000 < dg p00 + dg p11 + dg p22 then lay9C (chC Ma (dg p00) (wM p01) (wM p02) (dg p11) (wM p12) (dg p22)) else chC Ma (dg p00) (wM p01) (wM p02) (dg p11) (wM p12) (dg p22)),
      (if 163840000 < dg p00 + dg p11 + dg p22 then upd (tkC Co (if S < w2 * 65536 then 1 else 0) (orr b2 (orr b1 (orr b0 0)))) 2 (tkC Co (if S < w2 * 65536 then 1 else 0) (orr b2 (orr b1 (orr b0 0))) 2 + 1) else tkC Co (if S < w2 * 65536 then 1 else 0) (orr b2 (orr b1 (orr b0 0)))), Di1, Ga1, Hd1, Wo1, Wi1) := by
  refine ⟨vp_updL (vp_updL (vp_updL Di 0 G0) 1 G1) 2 G2, vp_updL (vp_updL (vp_updL Ga 0 k0) 1 k1) 2 k2, ?_⟩
  unfold F_X0_take
  have c2 : F_X0_weightedSum Pa_ y u = some (t0 * Y + t1 * U + t2) := by
    unfold F_X0_weightedSum
    rw [hp0, hp1, hp2, hY, hU]
  have c3 : F_X0_spread Ma Di y u = some (S, vp_updL (vp_updL (vp_updL Di 0 G0) 1 G1) 2 G2) := by
    rw [C_spread', hY, hU, ← e0_, ← e1_, ← e2_, ← eS]
  have hGn : F_X0_findGains (vp_updL (vp_updL (vp_updL Di 0 G0) 1 G1) 2 G2) Ga (fg + S) = some (vp_updL (vp_updL (vp_updL Ga 0 k0) 1 k1) 2 k2) := by
    have h := C_findGains (g := vp_updL (vp_updL (vp_updL Di 0 G0) 1 G1) 2 G2) (ga := Ga) (d := fg + S) hk0 hk1 hk2
    rw [h, show wi (fl (65536 * G0) (fg + S)) (-6553600) 6553600 = k0 from ek0.symm, show wi (fl (65536 * G1) (fg + S)) (-6553600) 6553600 = k1 from ek1.symm, show wi (fl (65536 * G2) (fg + S)) (-6553600) 6553600 = k2 from ek2.symm]
  have hMv : F_X0_moveParameters Lo Hi Pa_ (upd (upd Co 0 (Co 0 + 1)) 4 (Co 4 + (if S < w2 * 65536 then 1 else 0))) (vp_updL (vp_updL (vp_updL Ga 0 k0) 1 k1) 2 k2) e = some (upd (upd (upd Pa_ 0 T0_.toInt32) 1 T1.toInt32) 2 T2.toInt32, tkC Co (if S < w2 * 65536 then 1 else 0) (orr b2 (orr b1 (orr b0 0)))) := by
    exact C_mv2 (ga := vp_updL (vp_updL (vp_updL Ga 0 k0) 1 k1) 2 k2) hp0 hp1 hp2 eT0 eT1 eT2 eb0 eb1 eb2 hr0 hr1 hr2
  have hUp : F_X0_updateMatrix Ma (vp_updL (vp_updL (vp_updL Di 0 G0) 1 G1) 2 G2) (vp_updL (vp_updL (vp_updL Ga 0 k0) 1 k1) 2 k2) fg = some (chC Ma (dg p00) (wM p01) (wM p02) (dg p11) (wM p12) (dg p22)) := by
    have h := C_update (ma := Ma) (fg := fg) (di := vp_updL (vp_updL (vp_updL Di 0 G0) 1 G1) 2 G2) (ga := vp_updL (vp_updL (vp_updL Ga 0 k0) 1 k1) 2 k2) a00 a01 a02 a11 a12 a22 b00 b01 b02 b11 b12 b22
    rw [h, dg_eq, dg_eq, dg_eq]
  rw [c2, ob_s, hZ, ltl_s, ← he, ltl_s, hadd, ob_s, hs1, if_pos hc_, c3, ob_s, rg_dir, hs2, Int64.mul_comm 65536 w2, hs0, ← ef, ltl_s]
  rw [show upd Co 0 (Co 0 + 1) 4 = Co 4 from rfl]
  try dsimp only
  rw [hGn, ob_s, hMv, ob_s]
  try dsimp only
  rw [hUp, ob_s]
  have hd : ∀ (a b c d e f : Int64), chC Ma a b c d e f 0 = a ∧ chC Ma a b c d e f 4 = d ∧ chC Ma a b c d e f 8 = f := fun _ _ _ _ _ _ => ⟨rfl, rfl, rfl⟩
  obtain ⟨d0, d4, d8⟩ := hd (dg p00) (wM p01) (wM p02) (dg p11) (wM p12) (dg p22)
  rw [d0, d4, d8]
  by_cases h : 163840000 < dg p00 + dg p11 + dg p22
  · rw [rg_s, if_pos h, C_reset, ob_s, ltl_s, if_pos h, if_pos h]
  · rw [rg_s, if_neg h, if_neg h, if_neg h]
theorem C_take_ign {Lo Hi Pa_ Co Se Wo Wi Wo1 Wi1 : Nat → Int32} {Ma Di Ga : Nat → Int64} {Hd Hd1 y u z : Int32} {t0 t1 t2 w1 Y U Z e : Int64} (hp0 : (Pa_ 0).toInt64 = t0) (hp1 : (Pa_ 1).toInt64 = t1) (hp2 : (Pa_ 2).toInt64 = t2) (hs1 : (Se 1).toInt64 = w1) (hY : y.toInt64 = Y) (hU : u.toInt64 = U) (hZ : z.toInt64 = Z)
    (hadd : F_X4_add Hd Wo Wi y u = some (Hd1, Wo1, Wi1)) (he : e = 65536 * Z - (t0 * Y + t1 * U + t2)) (hc_ : ¬ 65536 * w1 < (if 0 < e then e else -e)) :
    F_X0_take Lo Hi Pa_ Ma Co Di Ga Hd Wo Wi Se y u z = some (e, Pa_, Ma, upd (upd Co 0 (Co 0 + 1)) 1 (Co 1 + 1), Di, Ga, Hd1, Wo1, Wi1) := by
  unfold F_X0_take
  have c2 : F_X0_weightedSum Pa_ y u = some (t0 * Y + t1 * U + t2) := by
    unfold F_X0_weightedSum
    rw [hp0, hp1, hp2, hY, hU]
  rw [c2, ob_s, hZ, ltl_s, ← he, ltl_s, hadd, ob_s, hs1, if_neg hc_, ltl_s]
  rfl
theorem R_take_ign {sS : Int64} {f sF sG sK g : Nat → Int64} {y u z e : Int64} (hk : F_X6_keeps f y u = some g) (hg : ∀ j, j < 36 → g j = f j) (he : e = 65536 * z - (f 13 * y + f 14 * u + f 15)) (hc_ : -65536 * f 1 ≤ e ∧ e ≤ 65536 * f 1) :
    ∃ F1 : Nat → Int64, F_X6_takes sS f sF sG sK y u z = some (e, sS, vp_updL (vp_updL g 25 (g 25 + 1)) 26 (g 26 + 1), F1, sG, sK) := by
  refine ⟨vp_updL (vp_updL (vp_updL sF 0 y) 1 u) 2 1, ?_⟩
  unfold F_X6_takes
  have c1 : F_X6_takesRegressor sF y u = some (vp_updL (vp_updL (vp_updL sF 0 y) 1 u) 2 1) := rfl
  have c2 : F_X6_sum f (vp_updL (vp_updL (vp_updL sF 0 y) 1 u) 2 1) = some (f 13 * y + f 14 * u + f 15 * 1) := rfl
  rw [c1, ob_s, c2, ob_s, ltl_s, Int64.mul_one, ← he, hk, ob_s, ltl_s, F_in, ob_s]
  rw [show vp_updL g 25 (g 25 + 1) 1 = f 1 from hg 1 (by omega), if_pos hc_, if_neg (by decide), ltl_s]
  rfl
