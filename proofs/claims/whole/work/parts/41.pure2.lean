/-! PURE: straight stretches and loops of fixed length -/
theorem uL (f : Nat → Int64) (k : Nat) (x : Int64) (j : Nat) : vp_updL f k x j = if j = k then x else f j := rfl
theorem uI (f : Nat → Int32) (k : Nat) (x : Int32) (j : Nat) : upd f k x j = if j = k then x else f j := rfl
theorem uu (f : Nat → Int64) (k : Nat) (x y : Int64) : vp_updL (vp_updL f k x) k y = vp_updL f k y := by
  funext j
  simp only [uL]
  split <;> rfl
theorem uuI (f : Nat → Int32) (k : Nat) (x y : Int32) : upd (upd f k x) k y = upd f k y := by
  funext j
  simp only [uI]
  split <;> rfl
theorem rg_c {α β : Type} (a : α) (F : α → Option β) : rg (fun K => K a) F = F a := rfl
theorem rg_ite {α β : Type} {p : Prop} [Decidable p] (a b : α) (F : α → Option β) : rg (fun K => if p then K a else K b) F = F (if p then a else b) := by
  unfold rg
  split <;> rfl
theorem rg_ite2 {α β : Type} {p q : Prop} [Decidable p] [Decidable q] (a b c : α) (F : α → Option β) : rg (fun K => if p then (if q then K a else K b) else K c) F = F (if p then (if q then a else b) else c) := by
  unfold rg
  split
  · split <;> rfl
  · rfl
def orr (a b : Int32) : Int32 := if a = 0 then (if b = 0 then 0 else 1) else 1
theorem orr_d (a b : Int32) : (if a = 0 then (if b = 0 then 0 else 1) else 1 : Int32) = orr a b := rfl
theorem L_gains7 (al f g : Nat → Int64) (n : Nat) (K : (Int64 × (Nat → Int64)) → Option (Int64 × (Nat → Int64))) : F_X6_laysGains_7 al f (n + 4) K 0 0 g = K (0 + f 0 * (al 16 * f 0 + al 17 * f 1 + al 18 * f 2) + f 1 * (al 19 * f 0 + al 20 * f 1 + al 21 * f 2) + f 2 * (al 22 * f 0 + al 23 * f 1 + al 24 * f 2), vp_updL (vp_updL (vp_updL g 0 (al 16 * f 0 + al 17 * f 1 + al 18 * f 2)) 1 (al 19 * f 0 + al 20 * f 1 + al 21 * f 2)) 2 (al 22 * f 0 + al 23 * f 1 + al 24 * f 2)) := by
  simp [F_X6_laysGains_7, ltl_s, ck, uL]
theorem R_laysGains (al f g : Nat → Int64) : F_X6_laysGains al f g = some ((if 0 + f 0 * (al 16 * f 0 + al 17 * f 1 + al 18 * f 2) + f 1 * (al 19 * f 0 + al 20 * f 1 + al 21 * f 2) + f 2 * (al 22 * f 0 + al 23 * f 1 + al 24 * f 2) < 0 then 0 else 0 + f 0 * (al 16 * f 0 + al 17 * f 1 + al 18 * f 2) + f 1 * (al 19 * f 0 + al 20 * f 1 + al 21 * f 2) + f 2 * (al 22 * f 0 + al 23 * f 1 + al 24 * f 2)), vp_updL (vp_updL (vp_updL g 0 (al 16 * f 0 + al 17 * f 1 + al 18 * f 2)) 1 (al 19 * f 0 + al 20 * f 1 + al 21 * f 2)) 2 (al 22 * f 0 + al 23 * f 1 + al 24 * f 2)) := by
  unfold F_X6_laysGains
  refine (L_gains7 al f g 996 _).trans ?_
  rw [rg_ite]
theorem R_boxes (al : Nat → Int64) (i : Int32) (hi : i = 0 ∨ i = 1 ∨ i = 2) : F_X6_boxes al i = some (if wi (al (13 + i.toNatClampNeg)) (al (7 + 2 * i.toNatClampNeg)) (al (8 + 2 * i.toNatClampNeg)) = al (13 + i.toNatClampNeg) then 0 else 1, vp_updL al (13 + i.toNatClampNeg) (wi (al (13 + i.toNatClampNeg)) (al (7 + 2 * i.toNatClampNeg)) (al (8 + 2 * i.toNatClampNeg)))) := by
  rcases hi with rfl | rfl | rfl
  · simp [F_X6_boxes, F_within, ob_s, ltl_s, ck, uL]
    split <;> rfl
  · simp [F_X6_boxes, F_within, ob_s, ltl_s, ck, uL]
    split <;> rfl
  · simp [F_X6_boxes, F_within, ob_s, ltl_s, ck, uL]
    split <;> rfl
def lay9 (al : Nat → Int64) : Nat → Int64 := vp_updL (vp_updL (vp_updL (vp_updL (vp_updL (vp_updL (vp_updL (vp_updL (vp_updL al 16 6553600) 17 0) 18 0) 19 0) 20 6553600) 21 0) 22 0) 23 0) 24 6553600
theorem L_laysP2 (al : Nat → Int64) (n : Nat) (K : (Nat → Int64) → Option (Nat → Int64)) : F_X6_laysP_2 (n + 10) K 0 al = K (lay9 al) := by
  simp [F_X6_laysP_2, ltl_s, rg_c, rg_ite, ck, lay9]
theorem orr_0 (p : Prop) [Decidable p] : orr (if p then 0 else 1) 0 = if p then 0 else 1 := by
  unfold orr
  by_cases h : p
  · rw [if_pos h]
    rfl
  · rw [if_neg h]
    rfl
theorem R_laysP (al : Nat → Int64) : F_X6_laysP al = some (lay9 al) := L_laysP2 al 990 _
theorem R_gains_n (n : Nat) {s d0 e : Int64} {g al k : Nat → Int64} {K : (Int32 × (Nat → Int64) × (Nat → Int64)) → Option (Int64 × Int64 × (Nat → Int64) × (Nat → Int64) × (Nat → Int64) × (Nat → Int64))} {q0 q1 q2 r0 r1 r2 : Int64} (h0 : F_X6_floor (65536 * g 0) (d0 + s) = some q0) (h1 : F_X6_floor (65536 * g 1) (d0 + s) = some q1) (h2 : F_X6_floor (65536 * g 2) (d0 + s) = some q2)
    (e0 : F_X6_floor (wi q0 (-6553600) 6553600 * e) 65536 = some r0) (e1 : F_X6_floor (wi q1 (-6553600) 6553600 * e) 65536 = some r1) (e2 : F_X6_floor (wi q2 (-6553600) 6553600 * e) 65536 = some r2) :
    F_X6_takes_152 (s, g) d0 e (n + 4) K 0 0 al k = K (orr (if wi (al 15 + r2) (al 11) (al 12) = al 15 + r2 then 0 else 1) (orr (if wi (al 14 + r1) (al 9) (al 10) = al 14 + r1 then 0 else 1) (orr (if wi (al 13 + r0) (al 7) (al 8) = al 13 + r0 then 0 else 1) 0)), vp_updL (vp_updL (vp_updL al 13 (wi (al 13 + r0) (al 7) (al 8))) 14 (wi (al 14 + r1) (al 9) (al 10))) 15 (wi (al 15 + r2) (al 11) (al 12)), vp_updL (vp_updL (vp_updL k 0 (wi q0 (-6553600) 6553600)) 1 (wi q1 (-6553600) 6553600)) 2 (wi q2 (-6553600) 6553600)) := by
  simp [F_X6_takes_152, R_boxes, F_within, ob_s, ltl_s, rg_ite2, orr_d, ck, uL, uu, h0, h1, h2, e0, e1, e2]
  rw [rg_ite, orr_0]
theorem R_gains {s d0 e : Int64} {g al k : Nat → Int64} {K : (Int32 × (Nat → Int64) × (Nat → Int64)) → Option (Int64 × Int64 × (Nat → Int64) × (Nat → Int64) × (Nat → Int64) × (Nat → Int64))} {q0 q1 q2 r0 r1 r2 : Int64} (h0 : F_X6_floor (65536 * g 0) (d0 + s) = some q0) (h1 : F_X6_floor (65536 * g 1) (d0 + s) = some q1) (h2 : F_X6_floor (65536 * g 2) (d0 + s) = some q2)
    (e0 : F_X6_floor (wi q0 (-6553600) 6553600 * e) 65536 = some r0) (e1 : F_X6_floor (wi q1 (-6553600) 6553600 * e) 65536 = some r1) (e2 : F_X6_floor (wi q2 (-6553600) 6553600 * e) 65536 = some r2) :
    F_X6_takes_152 (s, g) d0 e 1000 K 0 0 al k = K (orr (if wi (al 15 + r2) (al 11) (al 12) = al 15 + r2 then 0 else 1) (orr (if wi (al 14 + r1) (al 9) (al 10) = al 14 + r1 then 0 else 1) (orr (if wi (al 13 + r0) (al 7) (al 8) = al 13 + r0 then 0 else 1) 0)), vp_updL (vp_updL (vp_updL al 13 (wi (al 13 + r0) (al 7) (al 8))) 14 (wi (al 14 + r1) (al 9) (al 10))) 15 (wi (al 15 + r2) (al 11) (al 12)), vp_updL (vp_updL (vp_updL k 0 (wi q0 (-6553600) 6553600)) 1 (wi q1 (-6553600) 6553600)) 2 (wi q2 (-6553600) 6553600)) := R_gains_n 996 h0 h1 h2 e0 e1 e2
theorem L_find (n : Nat) {g ga : Nat → Int64} {d q0 q1 q2 : Int64} (h0 : F_X5_divideDown (65536 * g 0) d = some q0) (h1 : F_X5_divideDown (65536 * g 1) d = some q1) (h2 : F_X5_divideDown (65536 * g 2) d = some q2) (K : (Nat → Int64) → Option (Nat → Int64)) : F_X0_findGains_2 g d (n + 4) K 0 ga = K (vp_updL (vp_updL (vp_updL ga 0 (wi q0 (-6553600) 6553600)) 1 (wi q1 (-6553600) 6553600)) 2 (wi q2 (-6553600) 6553600)) := by
  simp [F_X0_findGains_2, F_bring, ob_s, ltl_s, ck, h0, h1, h2]
theorem C_findGains {g ga : Nat → Int64} {d q0 q1 q2 : Int64} (h0 : F_X5_divideDown (65536 * g 0) d = some q0) (h1 : F_X5_divideDown (65536 * g 1) d = some q1) (h2 : F_X5_divideDown (65536 * g 2) d = some q2) : F_X0_findGains g ga d = some (vp_updL (vp_updL (vp_updL ga 0 (wi q0 (-6553600) 6553600)) 1 (wi q1 (-6553600) 6553600)) 2 (wi q2 (-6553600) 6553600)) := L_find 996 h0 h1 h2 _
theorem C_bring (lo hi pa : Nat → Int32) (i : Int32) (v : Int64) (h : i = 0 ∨ i = 1 ∨ i = 2) : F_X0_bringIntoBox lo hi pa i v = some (if wi v (lo i.toNatClampNeg).toInt64 (hi i.toNatClampNeg).toInt64 = v then 0 else 1, upd pa i.toNatClampNeg (wi v (lo i.toNatClampNeg).toInt64 (hi i.toNatClampNeg).toInt64).toInt32) := by
  rcases h with rfl | rfl | rfl
  · simp [F_X0_bringIntoBox, F_bring, ob_s, ltl_s, ck]
    split <;> rfl
  · simp [F_X0_bringIntoBox, F_bring, ob_s, ltl_s, ck]
    split <;> rfl
  · simp [F_X0_bringIntoBox, F_bring, ob_s, ltl_s, ck]
    split <;> rfl
abbrev mvT (pa lo hi : Nat → Int32) (r : Int64) (i : Nat) : Int64 := wi ((pa i).toInt64 + r) (lo i).toInt64 (hi i).toInt64
abbrev mvB (pa lo hi : Nat → Int32) (r : Int64) (i : Nat) : Int32 := if wi ((pa i).toInt64 + r) (lo i).toInt64 (hi i).toInt64 = (pa i).toInt64 + r then 0 else 1
theorem L_move (n : Nat) {lo hi pa : Nat → Int32} {ga : Nat → Int64} {e r0 r1 r2 : Int64} (e0 : F_X5_divideDown (ga 0 * e) 65536 = some r0) (e1 : F_X5_divideDown (ga 1 * e) 65536 = some r1) (e2 : F_X5_divideDown (ga 2 * e) 65536 = some r2) (K : (Int32 × (Nat → Int32)) → Option ((Nat → Int32) × (Nat → Int32))) :
    F_X0_moveParameters_5 ga e lo hi (n + 4) K 0 0 pa = K (orr (mvB pa lo hi r2 2) (orr (mvB pa lo hi r1 1) (orr (mvB pa lo hi r0 0) 0)), upd (upd (upd pa 0 (mvT pa lo hi r0 0).toInt32) 1 (mvT pa lo hi r1 1).toInt32) 2 (mvT pa lo hi r2 2).toInt32) := by
  simp [F_X0_moveParameters_5, C_bring, ob_s, ltl_s, rg_ite2, orr_d, ck, uI, e0, e1, e2]
  rw [rg_ite, orr_0]
theorem C_move {lo hi pa co : Nat → Int32} {ga : Nat → Int64} {e r0 r1 r2 : Int64} (e0 : F_X5_divideDown (ga 0 * e) 65536 = some r0) (e1 : F_X5_divideDown (ga 1 * e) 65536 = some r1) (e2 : F_X5_divideDown (ga 2 * e) 65536 = some r2) :
    F_X0_moveParameters lo hi pa co ga e = some (upd (upd (upd pa 0 (mvT pa lo hi r0 0).toInt32) 1 (mvT pa lo hi r1 1).toInt32) 2 (mvT pa lo hi r2 2).toInt32, if orr (mvB pa lo hi r2 2) (orr (mvB pa lo hi r1 1) (orr (mvB pa lo hi r0 0) 0)) = 0 then co else upd co 3 (co 3 + 1)) := by
  unfold F_X0_moveParameters
  refine (L_move 996 e0 e1 e2 _).trans ?_
  by_cases h : orr (mvB pa lo hi r2 2) (orr (mvB pa lo hi r1 1) (orr (mvB pa lo hi r0 0) 0)) = 0
  · rw [if_pos h, if_pos h]
  · rw [if_neg h, if_neg h, ltl_s]
