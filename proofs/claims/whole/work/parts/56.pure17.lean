/-! PURE: the writers -/
def RKq (N : Int) (xN : Int32) (A C0_ C1 C2 C3_ : ST) (sN : Int32) (f sv : Nat → Int64) : Prop := ∃ n : Nat, xN = Int32.ofNat n ∧ sN = Int32.ofNat n ∧ RS N A f ∧ RV N n C0_ C1 C2 C3_ sv
theorem RV.mono {N M : Int} {n : Nat} {C0_ C1 C2 C3_ : ST} {sv : Nat → Int64} (h : N ≤ M) (hV : RV N n C0_ C1 C2 C3_ sv) : RV M n C0_ C1 C2 C3_ sv := by
  obtain ⟨h4, v0, v1, v2, v3⟩ := hV
  exact ⟨h4, fun q => (v0 q).mono h, fun q => (v1 q).mono h, fun q => (v2 q).mono h, fun q => (v3 q).mono h⟩
theorem RKq.mono {N M : Int} {xN : Int32} {A C0_ C1 C2 C3_ : ST} {sN : Int32} {f sv : Nat → Int64} (h : N ≤ M) (hK_ : RKq N xN A C0_ C1 C2 C3_ sN f sv) : RKq M xN A C0_ C1 C2 C3_ sN f sv := by
  obtain ⟨n, h1, h2, h3, h4⟩ := hK_
  exact ⟨n, h1, h2, h3.mono h, h4.mono h⟩
theorem ob_iq {α β : Type} {x : Option α} {o : α} {f : α → Option β} (h : x = some o) : ob x f = f o := by rw [h]; rfl
theorem updo {f : Nat → Int64} {k j : Nat} {x : Int64} (h : j ≠ k) : vp_updL f k x j = f j := by rw [uL, if_neg h]
theorem RW.cg {Hd : Int32} {Wo Wi : Nat → Int32} {f g : Nat → Int64} (h25 : f 25 = g 25) (h : ∀ j, 36 ≤ j → j < 76 → f j = g j) (hf : RW Hd Wo Wi f) : RW Hd Wo Wi g := by
  obtain ⟨n, h1, h2, h3, h4⟩ := hf
  rw [h25] at h3
  refine ⟨n, h1, h2, h3, fun k hk => ?_⟩
  have := h4 k hk
  rw [h (36 + 2 * k) (by omega) (by omega), h (37 + 2 * k) (by omega) (by omega)] at this
  exact this
theorem RG.set {N : Int} {f : Nat → Int64} (hG : RG N f) {k : Nat} (hk : k ≤ 6) {w : Int32} (hw : (vLeS k).toInt ≤ w.toInt ∧ w.toInt ≤ (vMoS k).toInt) : RG N (vp_updL f k w.toInt64) := by
  obtain ⟨⟨a0, a1, a2, a3, a4, a5, a6⟩, h1, h2, h3, h4, h5, h6⟩ := hG
  have e : ∀ j, 7 ≤ j → vp_updL f k w.toInt64 j = f j := fun j hj => updo (by omega)
  refine ⟨?_, fun i hi => ?_, fun i hi => ?_, fun i hi => ?_, ?_, ?_, ?_⟩
  · clear h1 h2 h3 h4 h5 h6 e
    rcases (show k = 0 ∨ k = 1 ∨ k = 2 ∨ k = 3 ∨ k = 4 ∨ k = 5 ∨ k = 6 by omega) with rfl | rfl | rfl | rfl | rfl | rfl | rfl
    · rw [upd0, updo (by decide), updo (by decide), updo (by decide), updo (by decide), updo (by decide), updo (by decide), t64]
      exact ⟨hw, a1, a2, a3, a4, a5, a6⟩
    · rw [upd0, updo (by decide), updo (by decide), updo (by decide), updo (by decide), updo (by decide), updo (by decide), t64]
      exact ⟨a0, hw, a2, a3, a4, a5, a6⟩
    · rw [upd0, updo (by decide), updo (by decide), updo (by decide), updo (by decide), updo (by decide), updo (by decide), t64]
      exact ⟨a0, a1, hw, a3, a4, a5, a6⟩
    · rw [upd0, updo (by decide), updo (by decide), updo (by decide), updo (by decide), updo (by decide), updo (by decide), t64]
      exact ⟨a0, a1, a2, hw, a4, a5, a6⟩
    · rw [upd0, updo (by decide), updo (by decide), updo (by decide), updo (by decide), updo (by decide), updo (by decide), t64]
      exact ⟨a0, a1, a2, a3, hw, a5, a6⟩
    · rw [upd0, updo (by decide), updo (by decide), updo (by decide), updo (by decide), updo (by decide), updo (by decide), t64]
      exact ⟨a0, a1, a2, a3, a4, hw, a6⟩
    · rw [upd0, updo (by decide), updo (by decide), updo (by decide), updo (by decide), updo (by decide), updo (by decide), t64]
      exact ⟨a0, a1, a2, a3, a4, a5, hw⟩
  · rw [e _ (by omega), e _ (by omega), e _ (by omega), e _ (by omega)]
    exact h1 i hi
  · rw [e _ (by omega)]
    exact h2 i hi
  · rw [e _ (by omega)]
    exact h3 i hi
  · rw [e _ (by omega)]
    exact h4
  · rw [e _ (by omega)]
    exact h5
  · rw [e _ (by omega)]
    exact h6
theorem RS.set {N : Int} {A : ST} {f : Nat → Int64} (hA : RS N A f) {k : Nat} (hk : k ≤ 6) {w : Int32} (hw : (vLeS k).toInt ≤ w.toInt ∧ w.toInt ≤ (vMoS k).toInt) : RS N (upd A.1 k w, A.2) (vp_updL f k w.toInt64) := by
  obtain ⟨h0, h1, h2, h3, hW, h5, hG⟩ := hA
  have e : ∀ j, 7 ≤ j → vp_updL f k w.toInt64 j = f j := fun j hj => updo (by omega)
  refine ⟨fun i hi => ?_, fun i hi => ?_, fun i hi => ?_, fun i hi => ?_, hW.cg (e 25 (by omega)).symm (fun j a b => (e j (by omega)).symm), ?_, hG.set hk hw⟩
  · show (upd A.1 k w i).toInt64 = _
    rw [uI, uL]
    by_cases h : i = k
    · rw [if_pos h, if_pos h]
    · rw [if_neg h, if_neg h]
      exact h0 i hi
  · rw [e _ (by omega), e _ (by omega), e _ (by omega), e _ (by omega)]
    exact h1 i hi
  · rw [e _ (by omega)]
    exact h2 i hi
  · rw [e _ (by omega)]
    exact h3 i hi
  · rw [e _ (by omega), e _ (by omega), e _ (by omega)]
    exact h5
theorem X6_v {k : Nat} (hk : k ≤ 6) (w : Int32) : ((vLeS k).toInt ≤ w.toInt ∧ w.toInt ≤ (vMoS k).toInt → F_X6_isValue (Int32.ofNat k) w = some 1) ∧ (¬ ((vLeS k).toInt ≤ w.toInt ∧ w.toInt ≤ (vMoS k).toInt) → F_X6_isValue (Int32.ofNat k) w = some 0) := by
  unfold F_X6_isValue
  rcases (show k = 0 ∨ k = 1 ∨ k = 2 ∨ k = 3 ∨ k = 4 ∨ k = 5 ∨ k = 6 by omega) with rfl | rfl | rfl | rfl | rfl | rfl | rfl
  · rw [if_pos (by decide)]
    exact ⟨fun q => by rw [X6_in1 (l := 50000) (h := 65536) rfl rfl q, ob_s, ck_i (Or.inr rfl)], fun q => by rw [X6_in0 (l := 50000) (h := 65536) rfl rfl q, ob_s, ck_i (Or.inl rfl)]⟩
  · rw [if_neg (by decide), if_pos (by decide)]
    exact ⟨fun q => by rw [X6_in1 (l := 0) (h := 500) rfl rfl q, ob_s, ck_i (Or.inr rfl)], fun q => by rw [X6_in0 (l := 0) (h := 500) rfl rfl q, ob_s, ck_i (Or.inl rfl)]⟩
  · rw [if_neg (by decide), if_neg (by decide), if_pos (by decide)]
    exact ⟨fun q => by rw [X6_in1 (l := 0) (h := 100) rfl rfl q, ob_s, ck_i (Or.inr rfl)], fun q => by rw [X6_in0 (l := 0) (h := 100) rfl rfl q, ob_s, ck_i (Or.inl rfl)]⟩
  · rw [if_neg (by decide), if_neg (by decide), if_neg (by decide), if_pos (by decide)]
    exact ⟨fun q => by rw [X6_in1 (l := 2) (h := 20) rfl rfl q, ob_s, ck_i (Or.inr rfl)], fun q => by rw [X6_in0 (l := 2) (h := 20) rfl rfl q, ob_s, ck_i (Or.inl rfl)]⟩
  · rw [if_neg (by decide), if_neg (by decide), if_neg (by decide), if_neg (by decide), if_pos (by decide)]
    exact ⟨fun q => by rw [X6_in1 (l := 1) (h := 2000) rfl rfl q, ob_s, ck_i (Or.inr rfl)], fun q => by rw [X6_in0 (l := 1) (h := 2000) rfl rfl q, ob_s, ck_i (Or.inl rfl)]⟩
  · rw [if_neg (by decide), if_neg (by decide), if_neg (by decide), if_neg (by decide), if_neg (by decide), if_pos (by decide)]
    exact ⟨fun q => by rw [X6_in1 (l := 0) (h := 100) rfl rfl q, ob_s, ck_i (Or.inr rfl)], fun q => by rw [X6_in0 (l := 0) (h := 100) rfl rfl q, ob_s, ck_i (Or.inl rfl)]⟩
  · rw [if_neg (by decide), if_neg (by decide), if_neg (by decide), if_neg (by decide), if_neg (by decide), if_neg (by decide)]
    exact ⟨fun q => by rw [X6_in1 (l := 1) (h := 65536) rfl rfl q, ob_s, ck_i (Or.inr rfl)], fun q => by rw [X6_in0 (l := 1) (h := 65536) rfl rfl q, ob_s, ck_i (Or.inl rfl)]⟩
theorem B_set {N : Int} {xN sN : Int32} {A C0_ C1 C2 C3_ : ST} {f sv : Nat → Int64} (hK_ : RKq N xN A C0_ C1 C2 C3_ sN f sv) (w1 w2 : Int32) :
    (F_X5_set xN A C0_ C1 C2 C3_ w1 w2 vLeS vMoS = some (.inr xIAE) ∧ F_X6_set sN f sv w1 w2 = some (0, sN, 1, f, sv)) ∨
    ∃ (v xN1 : Int32) (A1 D0 D1 D2 D3 : ST) (sN1 : Int32) (f1 sv1 : Nat → Int64), F_X5_set xN A C0_ C1 C2 C3_ w1 w2 vLeS vMoS = some (.inl (v, xN1, A1, D0, D1, D2, D3)) ∧ F_X6_set sN f sv w1 w2 = some (v, sN1, 0, f1, sv1) ∧ RKq N xN1 A1 D0 D1 D2 D3 sN1 f1 sv1 := by
  obtain ⟨n, rfl, rfl, hA, hV⟩ := hK_
  by_cases q : 0 ≤ w1.toInt ∧ w1.toInt ≤ 6
  · obtain ⟨k, hk, rfl⟩ := i32_nat (m := 6) q.1 q.2 (by decide)
    obtain ⟨v1, v0⟩ := X6_v hk w2
    have en : (Int32.ofNat k).toNatClampNeg = k := nN (by omega)
    by_cases r : (vLeS k).toInt ≤ w2.toInt ∧ w2.toInt ≤ (vMoS k).toInt
    · right
      obtain ⟨n1', D0, D1, D2, D3, sv1, s1, s2, s3⟩ := B_save hA hV
      refine ⟨A.1 k, Int32.ofNat n1', (upd A.1 k w2, A.2), D0, D1, D2, D3, Int32.ofNat n1', vp_updL f k w2.toInt64, sv1, ?_, ?_, n1', rfl, rfl, hA.set hk r, s3⟩
      · unfold F_X5_set
        rw [X5_rg1 (l := 0) (h := 6) rfl rfl q, obx_v, ck_i (nIn (by omega) (by omega)), ck_i (nIn (by omega) (by omega)), X5_rg1 rfl rfl (show (vLeS (Int32.ofNat k).toNatClampNeg).toInt ≤ w2.toInt ∧ w2.toInt ≤ (vMoS (Int32.ofNat k).toNatClampNeg).toInt by rw [en]; exact r), obx_v, s2, obx_v, ck_i (nIn (by omega) (by omega)), ltl_s, ck_i (nIn (by omega) (by omega)), ltl_s, en] <;> rfl
      · unfold F_X6_set
        rw [X6_in1 (l := 0) (h := 6) rfl rfl q, ob_s, rg_s, iif1, v1 r, ob_s, iif1]
        try dsimp only
        rw [X6_g1, ob_s]
        try dsimp only
        rw [iif1, s1, ob_s, Int32.zero_add, ck_i (nIn (by omega) (by omega)), ltl_s, ck_i (nIn (by omega) (by omega)), ltl_s, nN (by omega), ← hA.1 k (by omega), t6432] <;> rfl
    · left
      unfold F_X5_set F_X6_set
      rw [X5_rg1 (l := 0) (h := 6) rfl rfl q, obx_v, ck_i (nIn (by omega) (by omega)), ck_i (nIn (by omega) (by omega)), X5_rg0 rfl rfl (show ¬ ((vLeS (Int32.ofNat k).toNatClampNeg).toInt ≤ w2.toInt ∧ w2.toInt ≤ (vMoS (Int32.ofNat k).toNatClampNeg).toInt) by rw [en]; exact r), obx_r, X6_in1 (l := 0) (h := 6) rfl rfl q, ob_s, rg_s, iif1, v0 r, ob_s, iif0]
      try dsimp only
      rw [X6_g0, ob_s]
      exact ⟨rfl, rfl⟩
  · left
    unfold F_X5_set F_X6_set
    rw [X5_rg0 (l := 0) (h := 6) rfl rfl q, obx_r, X6_in0 (l := 0) (h := 6) rfl rfl q, ob_s, rg_s, iif0]
    try dsimp only
    rw [X6_g0, ob_s]
    exact ⟨rfl, rfl⟩
theorem R_boxN (al : Nat → Int64) {k : Nat} (hk : k ≤ 2) : F_X6_boxes al (Int32.ofNat k) = some (if wi (al (13 + k)) (al (7 + 2 * k)) (al (8 + 2 * k)) = al (13 + k) then 0 else 1, vp_updL al (13 + k) (wi (al (13 + k)) (al (7 + 2 * k)) (al (8 + 2 * k)))) := by
  rcases (show k = 0 ∨ k = 1 ∨ k = 2 by omega) with rfl | rfl | rfl
  · exact R_box0 al
  · exact R_box1 al
  · exact R_box2 al
theorem C_brN (lo hi pa : Nat → Int32) {k : Nat} (hk : k ≤ 2) (v : Int64) : F_X0_bringIntoBox lo hi pa (Int32.ofNat k) v = some (if wi v (lo k).toInt64 (hi k).toInt64 = v then 0 else 1, upd pa k (wi v (lo k).toInt64 (hi k).toInt64).toInt32) := by
  rcases (show k = 0 ∨ k = 1 ∨ k = 2 by omega) with rfl | rfl | rfl
  · exact C_br0 lo hi pa v
  · exact C_br1 lo hi pa v
  · exact C_br2 lo hi pa v
theorem updI0 (f : Nat → Int32) (k : Nat) (x : Int32) : upd f k x k = x := by rw [uI, if_pos rfl]
theorem updIo {f : Nat → Int32} {k j : Nat} {x : Int32} (h : j ≠ k) : upd f k x j = f j := by rw [uI, if_neg h]
/-- the reference's array with a box set and the parameter brought into it -/
theorem RS.box {N : Int} {A : ST} {f : Nat → Int64} (hA : RS N A f) {k : Nat} (hk : k ≤ 2) {w2 w3 : Int32} (r2 : -1310720 ≤ w2.toInt) (r3 : w2.toInt ≤ w3.toInt ∧ w3.toInt ≤ 1310720) : RS N (A.1, upd A.2.1 k w2, upd A.2.2.1 k w3, upd A.2.2.2.1 k (wi (A.2.2.2.1 k).toInt64 w2.toInt64 w3.toInt64).toInt32, A.2.2.2.2) (vp_updL (vp_updL (vp_updL f (7 + 2 * k) w2.toInt64) (8 + 2 * k) w3.toInt64) (13 + k) (wi (f (13 + k)) w2.toInt64 w3.toInt64)) := by
  obtain ⟨h0, h1, h2, h3, hW, h5, hG⟩ := hA
  obtain ⟨a, g1, g2, g3_, g4, g5, g6⟩ := hG
  have wb : bd 1310720 (wi (f (13 + k)) w2.toInt64 w3.toInt64) := wi_bd (by rw [t64, t64]; omega) (by rw [t64]; omega) (by rw [t64]; omega)
  have wt : (wi (f (13 + k)) w2.toInt64 w3.toInt64).toInt32.toInt64 = wi (f (13 + k)) w2.toInt64 w3.toInt64 := by
    unfold bd at wb
    exact t3264 (by omega) (by omega)
  have e : ∀ j, j < 7 ∨ 16 ≤ j → vp_updL (vp_updL (vp_updL f (7 + 2 * k) w2.toInt64) (8 + 2 * k) w3.toInt64) (13 + k) (wi (f (13 + k)) w2.toInt64 w3.toInt64) j = f j := fun j hj => by
    rw [updo (by omega), updo (by omega), updo (by omega)]
  have e7_ : ∀ i, i < 3 → vp_updL (vp_updL (vp_updL f (7 + 2 * k) w2.toInt64) (8 + 2 * k) w3.toInt64) (13 + k) (wi (f (13 + k)) w2.toInt64 w3.toInt64) (7 + 2 * i) = if i = k then w2.toInt64 else f (7 + 2 * i) := fun i hi => by
    rw [updo (by omega), updo (by omega), uL]
    by_cases h : i = k
    · rw [if_pos (by omega), if_pos h]
    · rw [if_neg (by omega), if_neg h]
  have e8 : ∀ i, i < 3 → vp_updL (vp_updL (vp_updL f (7 + 2 * k) w2.toInt64) (8 + 2 * k) w3.toInt64) (13 + k) (wi (f (13 + k)) w2.toInt64 w3.toInt64) (8 + 2 * i) = if i = k then w3.toInt64 else f (8 + 2 * i) := fun i hi => by
    rw [updo (by omega), uL]
    by_cases h : i = k
    · rw [if_pos (by omega), if_pos h]
    · rw [if_neg (by omega), if_neg h, updo (by omega)]
  have e13_ : ∀ i, i < 3 → vp_updL (vp_updL (vp_updL f (7 + 2 * k) w2.toInt64) (8 + 2 * k) w3.toInt64) (13 + k) (wi (f (13 + k)) w2.toInt64 w3.toInt64) (13 + i) = if i = k then wi (f (13 + k)) w2.toInt64 w3.toInt64 else f (13 + i) := fun i hi => by
    rw [uL]
    by_cases h : i = k
    · rw [if_pos (by omega), if_pos h]
    · rw [if_neg (by omega), if_neg h, updo (by omega), updo (by omega)]
  refine ⟨fun i hi => ?_, fun i hi => ?_, fun i hi => ?_, fun i hi => ?_, hW.cg (e 25 (by omega)).symm (fun j a b => (e j (by omega)).symm), ?_, ?_, fun i hi => ?_, fun i hi => ?_, fun i hi => ?_, ?_, ?_, ?_⟩
  · rw [e i (by omega)]
    exact h0 i hi
  · rw [e7_ i hi, e8 i hi, e13_ i hi, e (30 + i) (by omega)]
    show (upd A.2.1 k w2 i).toInt64 = _ ∧ (upd A.2.2.1 k w3 i).toInt64 = _ ∧ (upd A.2.2.2.1 k _ i).toInt64 = _ ∧ (A.2.2.2.2.2.2.2.2.2.2.2.2.2.2 i).toInt64 = _
    have h := h1 i hi
    by_cases hc_ : i = k
    · subst hc_
      rw [updI0, updI0, updI0, if_pos rfl, if_pos rfl, if_pos rfl, h.2.2.1, wt]
      exact ⟨rfl, rfl, rfl, h.2.2.2⟩
    · rw [updIo hc_, updIo hc_, updIo hc_, if_neg hc_, if_neg hc_, if_neg hc_]
      exact h
  · rw [e _ (by omega)]
    exact h2 i hi
  · rw [e _ (by omega)]
    exact h3 i hi
  · rw [e _ (by omega), e _ (by omega), e _ (by omega)]
    exact h5
  · rw [e _ (by omega), e _ (by omega), e _ (by omega), e _ (by omega), e _ (by omega), e _ (by omega), e _ (by omega)]
    exact a
  · rw [e7_ i hi, e8 i hi, e13_ i hi, e (30 + i) (by omega)]
    have h := g1 i hi
    by_cases hc_ : i = k
    · rw [if_pos hc_, if_pos hc_, if_pos hc_, t64, t64]
      exact ⟨r2, r3.1, r3.2, wb, h.2.2.2.2⟩
    · rw [if_neg hc_, if_neg hc_, if_neg hc_]
      exact h
  · rw [e _ (by omega)]
    exact g2 i hi
  · rw [e _ (by omega)]
    exact g3_ i hi
  · rw [e _ (by omega)]
    exact g4
  · rw [e _ (by omega)]
    exact g5
  · rw [e _ (by omega)]
    exact g6
theorem B_setBox {N : Int} {xN sN : Int32} {A C0_ C1 C2 C3_ : ST} {f sv : Nat → Int64} (hK_ : RKq N xN A C0_ C1 C2 C3_ sN f sv) (w1 w2 w3 : Int32) :
    (F_X5_setBox xN A C0_ C1 C2 C3_ w1 w2 w3 = some (.inr xIOB) ∧ F_X6_setBox sN f sv w1 w2 w3 = some (0, sN, 1, f, sv)) ∨
    (F_X5_setBox xN A C0_ C1 C2 C3_ w1 w2 w3 = some (.inr xIAE) ∧ F_X6_setBox sN f sv w1 w2 w3 = some (0, sN, 2, f, sv)) ∨
    ∃ (v xN1 : Int32) (A1 D0 D1 D2 D3 : ST) (sN1 : Int32) (f1 sv1 : Nat → Int64), F_X5_setBox xN A C0_ C1 C2 C3_ w1 w2 w3 = some (.inl (v, xN1, A1, D0, D1, D2, D3)) ∧ F_X6_setBox sN f sv w1 w2 w3 = some (v, sN1, 0, f1, sv1) ∧ RKq N xN1 A1 D0 D1 D2 D3 sN1 f1 sv1 := by
  obtain ⟨n, rfl, rfl, hA, hV⟩ := hK_
  have hw : (w3 < w2) ↔ w3.toInt < w2.toInt := Int32.lt_iff_toInt_lt
  by_cases q : 0 ≤ w1.toInt ∧ w1.toInt ≤ 2
  · obtain ⟨k, hk, rfl⟩ := i32_nat (m := 2) q.1 q.2 (by decide)
    right
    by_cases r2 : -1310720 ≤ w2.toInt ∧ w2.toInt ≤ 1310720
    · by_cases r3 : w2.toInt ≤ w3.toInt ∧ w3.toInt ≤ 1310720
      · right
        obtain ⟨n1', D0, D1, D2, D3, sv1, s1, s2, s3⟩ := B_save hA hV
        have hB_ := hA.box hk r2.1 r3
        have h13 := (hA.2.1 k (by omega)).2.2.1
        refine ⟨if wi (f (13 + k)) w2.toInt64 w3.toInt64 = f (13 + k) then 0 else 1, Int32.ofNat n1', _, D0, D1, D2, D3, Int32.ofNat n1', _, sv1, ?_, ?_, n1', rfl, rfl, hB_, s3⟩
        · unfold F_X5_setBox
          rw [X5_par1 q, obx_v, X5_rg1 (l := -1310720) (h := 1310720) rfl rfl r2, obx_v, X5_rg1 (l := w2.toInt) (h := 1310720) rfl rfl r3, obx_v, s2, obx_v, ck_i (nIn (by omega) (by omega)), ltl_s, ck_i (nIn (by omega) (by omega)), ltl_s, ck_i (nIn (by omega) (by omega)), nN (by omega), C_brN _ _ _ hk, updI0, updI0, ob_s, h13]
          try dsimp only
          by_cases hc_ : wi (f (13 + k)) w2.toInt64 w3.toInt64 = f (13 + k)
          · rw [if_pos hc_, iif0]
          · rw [if_neg hc_, iif1]
        · unfold F_X6_setBox
          have e1_ : vp_updL (vp_updL f (7 + 2 * k) w2.toInt64) (8 + 2 * k) w3.toInt64 (13 + k) = f (13 + k) := by rw [updo (by omega), updo (by omega)]
          have e2_ : vp_updL (vp_updL f (7 + 2 * k) w2.toInt64) (8 + 2 * k) w3.toInt64 (7 + 2 * k) = w2.toInt64 := by rw [updo (by omega), upd0]
          have e3_ : vp_updL (vp_updL f (7 + 2 * k) w2.toInt64) (8 + 2 * k) w3.toInt64 (8 + 2 * k) = w3.toInt64 := upd0 _ _ _
          rw [X6_in1 (l := 0) (h := 2) rfl rfl q, ob_s, X6_in1 (l := -1310720) (h := 1310720) rfl rfl r2, ob_s, rg_s, iif1, X6_in1 (l := -1310720) (h := 1310720) rfl rfl (by omega), ob_s, iif1, if_neg (fun z => by have := hw.mp z; omega)]
          try dsimp only
          rw [X6_g1, ob_s]
          try dsimp only
          rw [iif1, s1, ob_s, nA7, n1, ck_i (nIn (by omega) (by omega)), ltl_s, ck_i (nIn (by omega) (by omega)), ltl_s, nN (by omega), nN (by omega), show 7 + 2 * k + 1 = 8 + 2 * k by omega, R_boxN _ hk, ob_s, e1_, e2_, e3_]
          try dsimp only
          by_cases hc_ : wi (f (13 + k)) w2.toInt64 w3.toInt64 = f (13 + k)
          · rw [if_pos hc_, iif0]
          · rw [if_neg hc_, iif1]
      · left
        unfold F_X5_setBox F_X6_setBox
        rw [X5_par1 q, obx_v, X5_rg1 (l := -1310720) (h := 1310720) rfl rfl r2, obx_v, X5_rg0 (l := w2.toInt) (h := 1310720) rfl rfl r3, obx_r]
        refine ⟨rfl, ?_⟩
        rw [X6_in1 (l := 0) (h := 2) rfl rfl q, ob_s, X6_in1 (l := -1310720) (h := 1310720) rfl rfl r2, ob_s, rg_s, iif1]
        by_cases r4 : -1310720 ≤ w3.toInt ∧ w3.toInt ≤ 1310720
        · rw [X6_in1 (l := -1310720) (h := 1310720) rfl rfl r4, ob_s, iif1, if_pos (hw.mpr (by omega))]
          try dsimp only
          rw [X6_g2, ob_s] <;> rfl
        · rw [X6_in0 (l := -1310720) (h := 1310720) rfl rfl r4, ob_s, iif0]
          try dsimp only
          rw [X6_g2, ob_s] <;> rfl
    · left
      unfold F_X5_setBox F_X6_setBox
      rw [X5_par1 q, obx_v, X5_rg0 (l := -1310720) (h := 1310720) rfl rfl r2, obx_r, X6_in1 (l := 0) (h := 2) rfl rfl q, ob_s, X6_in0 (l := -1310720) (h := 1310720) rfl rfl r2, ob_s, rg_s, iif0]
      try dsimp only
      rw [X6_g2, ob_s]
      exact ⟨rfl, rfl⟩
  · left
    unfold F_X5_setBox F_X6_setBox
    rw [X5_par0 q, obx_r, X6_in0 (l := 0) (h := 2) rfl rfl q, ob_s]
    refine ⟨rfl, ?_⟩
    by_cases r2 : -1310720 ≤ w2.toInt ∧ w2.toInt ≤ 1310720
    · rw [X6_in1 (l := -1310720) (h := 1310720) rfl rfl r2, ob_s, rg_s, iif1]
      by_cases r4 : -1310720 ≤ w3.toInt ∧ w3.toInt ≤ 1310720
      · rw [X6_in1 (l := -1310720) (h := 1310720) rfl rfl r4, ob_s, iif1]
        by_cases h : w3 < w2
        · rw [if_pos h]
          try dsimp only
          rw [X6_g0, ob_s] <;> rfl
        · rw [if_neg h]
          try dsimp only
          rw [X6_g0, ob_s] <;> rfl
      · rw [X6_in0 (l := -1310720) (h := 1310720) rfl rfl r4, ob_s, iif0]
        try dsimp only
        rw [X6_g0, ob_s] <;> rfl
    · rw [X6_in0 (l := -1310720) (h := 1310720) rfl rfl r2, ob_s, rg_s, iif0]
      try dsimp only
      rw [X6_g0, ob_s] <;> rfl
theorem RS.plant {N : Int} {A : ST} {f : Nat → Int64} (hA : RS N A f) {w1 w2 w3 w4 : Int32} (r1 : -3000 ≤ w1.toInt ∧ w1.toInt ≤ 3000) (r2 : -3000 ≤ w2.toInt ∧ w2.toInt ≤ 3000) (r3 : -3000 ≤ w3.toInt ∧ w3.toInt ≤ 3000) (r4 : 0 ≤ w4.toInt ∧ w4.toInt ≤ 200) :
    RS N (A.1, A.2.1, A.2.2.1, A.2.2.2.1, A.2.2.2.2.1, A.2.2.2.2.2.1, A.2.2.2.2.2.2.1, A.2.2.2.2.2.2.2.1, A.2.2.2.2.2.2.2.2.1, A.2.2.2.2.2.2.2.2.2.1, A.2.2.2.2.2.2.2.2.2.2.1, w4, A.2.2.2.2.2.2.2.2.2.2.2.2.1, A.2.2.2.2.2.2.2.2.2.2.2.2.2.1, upd (upd (upd A.2.2.2.2.2.2.2.2.2.2.2.2.2.2 0 w1) 1 w2) 2 w3) (vp_updL (vp_updL (vp_updL (vp_updL f 30 w1.toInt64) 31 w2.toInt64) 32 w3.toInt64) 33 w4.toInt64) := by
  obtain ⟨h0, h1, h2, h3, hW, h5, hG⟩ := hA
  obtain ⟨a, g1, g2, g3_, g4, g5, g6⟩ := hG
  have e : ∀ j, j < 30 ∨ 34 ≤ j → vp_updL (vp_updL (vp_updL (vp_updL f 30 w1.toInt64) 31 w2.toInt64) 32 w3.toInt64) 33 w4.toInt64 j = f j := fun j hj => by
    rw [updo (by omega), updo (by omega), updo (by omega), updo (by omega)]
  have z30 : vp_updL (vp_updL (vp_updL (vp_updL f 30 w1.toInt64) 31 w2.toInt64) 32 w3.toInt64) 33 w4.toInt64 30 = w1.toInt64 := rfl
  have z31_ : vp_updL (vp_updL (vp_updL (vp_updL f 30 w1.toInt64) 31 w2.toInt64) 32 w3.toInt64) 33 w4.toInt64 31 = w2.toInt64 := rfl
  have z32 : vp_updL (vp_updL (vp_updL (vp_updL f 30 w1.toInt64) 31 w2.toInt64) 32 w3.toInt64) 33 w4.toInt64 32 = w3.toInt64 := rfl
  have z33 : vp_updL (vp_updL (vp_updL (vp_updL f 30 w1.toInt64) 31 w2.toInt64) 32 w3.toInt64) 33 w4.toInt64 33 = w4.toInt64 := rfl
  refine ⟨fun i hi => ?_, fun i hi => ?_, fun i hi => ?_, fun i hi => ?_, hW.cg (e 25 (by omega)).symm (fun j a b => (e j (by omega)).symm), ?_, ?_, fun i hi => ?_, fun i hi => ?_, fun i hi => ?_, ?_, ?_, ?_⟩
  · rw [e i (by omega)]
    exact h0 i hi
  · rw [e (7 + 2 * i) (by omega), e (8 + 2 * i) (by omega), e (13 + i) (by omega)]
    refine ⟨(h1 i hi).1, (h1 i hi).2.1, (h1 i hi).2.2.1, ?_⟩
    show (upd (upd (upd A.2.2.2.2.2.2.2.2.2.2.2.2.2.2 0 w1) 1 w2) 2 w3 i).toInt64 = _
    revert i hi
    exact lt3 rfl rfl rfl
  · rw [e _ (by omega)]
    exact h2 i hi
  · rw [e _ (by omega)]
    exact h3 i hi
  · rw [z33, e 34 (by omega), e 35 (by omega)]
    exact ⟨rfl, h5.2⟩
  · rw [e _ (by omega), e _ (by omega), e _ (by omega), e _ (by omega), e _ (by omega), e _ (by omega), e _ (by omega)]
    exact a
  · rw [e (7 + 2 * i) (by omega), e (8 + 2 * i) (by omega), e (13 + i) (by omega)]
    refine ⟨(g1 i hi).1, (g1 i hi).2.1, (g1 i hi).2.2.1, (g1 i hi).2.2.2.1, ?_⟩
    revert i hi
    refine lt3 ?_ ?_ ?_
    · exact sig_bd r1
    · exact sig_bd r2
    · exact sig_bd r3
  · rw [e _ (by omega)]
    exact g2 i hi
  · rw [e _ (by omega)]
    exact g3_ i hi
  · rw [z33, t64]
    exact r4
  · rw [e _ (by omega)]
    exact g5
  · rw [e _ (by omega)]
    exact g6
theorem B_setPlant {N : Int} {xN sN : Int32} {A C0_ C1 C2 C3_ : ST} {f sv : Nat → Int64} (hK_ : RKq N xN A C0_ C1 C2 C3_ sN f sv) (w1 w2 w3 w4 : Int32) :
    (F_X5_setPlant xN A C0_ C1 C2 C3_ w1 w2 w3 w4 = some (.inr xIAE) ∧ F_X6_setPlant sN f sv w1 w2 w3 w4 = some (0, sN, 1, f, sv)) ∨
    ∃ (v xN1 : Int32) (A1 D0 D1 D2 D3 : ST) (sN1 : Int32) (f1 sv1 : Nat → Int64), F_X5_setPlant xN A C0_ C1 C2 C3_ w1 w2 w3 w4 = some (.inl (v, xN1, A1, D0, D1, D2, D3)) ∧ F_X6_setPlant sN f sv w1 w2 w3 w4 = some (v, sN1, 0, f1, sv1) ∧ RKq N xN1 A1 D0 D1 D2 D3 sN1 f1 sv1 := by
  obtain ⟨n, rfl, rfl, hA, hV⟩ := hK_
  unfold F_X5_setPlant F_X6_setPlant
  by_cases r1 : -3000 ≤ w1.toInt ∧ w1.toInt ≤ 3000
  · rw [X5_rg1 (l := -3000) (h := 3000) rfl rfl r1, obx_v, X6_in1 (l := -3000) (h := 3000) rfl rfl r1, ob_s, rg_s, iif1]
    by_cases r2 : -3000 ≤ w2.toInt ∧ w2.toInt ≤ 3000
    · rw [X5_rg1 (l := -3000) (h := 3000) rfl rfl r2, obx_v, X6_in1 (l := -3000) (h := 3000) rfl rfl r2, ob_s, iif1]
      by_cases r3 : -3000 ≤ w3.toInt ∧ w3.toInt ≤ 3000
      · rw [X5_rg1 (l := -3000) (h := 3000) rfl rfl r3, obx_v, X6_in1 (l := -3000) (h := 3000) rfl rfl r3, ob_s, iif1]
        by_cases r4 : 0 ≤ w4.toInt ∧ w4.toInt ≤ 200
        · right
          obtain ⟨n1', D0, D1, D2, D3, sv1, s1, s2, s3⟩ := B_save hA hV
          have hB_ := hA.plant r1 r2 r3 r4
          have h35 : (vp_updL (vp_updL (vp_updL (vp_updL f 30 w1.toInt64) 31 w2.toInt64) 32 w3.toInt64) 33 w4.toInt64 35).toInt32 = A.2.2.2.2.2.2.2.2.2.2.2.2.2.1 := (out_rng hA).2.2
          rw [X5_rg1 (l := 0) (h := 200) rfl rfl r4, obx_v, X6_in1 (l := 0) (h := 200) rfl rfl r4, ob_s, iif1, s2, obx_v, ltl_s, ltl_s, ltl_s]
          try dsimp only
          rw [X6_g1, ob_s]
          try dsimp only
          rw [iif1, s1, ob_s, ltl_s, ltl_s, ltl_s, ltl_s, h35]
          exact ⟨_, _, _, _, _, _, _, _, _, _, rfl, rfl, n1', rfl, rfl, hB_, s3⟩
        · left
          rw [X5_rg0 (l := 0) (h := 200) rfl rfl r4, obx_r, X6_in0 (l := 0) (h := 200) rfl rfl r4, ob_s, iif0]
          try dsimp only
          rw [X6_g0, ob_s]
          exact ⟨rfl, rfl⟩
      · left
        rw [X5_rg0 (l := -3000) (h := 3000) rfl rfl r3, obx_r, X6_in0 (l := -3000) (h := 3000) rfl rfl r3, ob_s, iif0]
        try dsimp only
        rw [X6_g0, ob_s]
        exact ⟨rfl, rfl⟩
    · left
      rw [X5_rg0 (l := -3000) (h := 3000) rfl rfl r2, obx_r, X6_in0 (l := -3000) (h := 3000) rfl rfl r2, ob_s, iif0]
      try dsimp only
      rw [X6_g0, ob_s]
      exact ⟨rfl, rfl⟩
  · left
    rw [X5_rg0 (l := -3000) (h := 3000) rfl rfl r1, obx_r, X6_in0 (l := -3000) (h := 3000) rfl rfl r1, ob_s, rg_s, iif0]
    try dsimp only
    rw [X6_g0, ob_s]
    exact ⟨rfl, rfl⟩
theorem RS.seed {N : Int} {A : ST} {f : Nat → Int64} (hA : RS N A f) {w1 w2 : Int32} (r1 : 0 ≤ w1.toInt ∧ w1.toInt ≤ 999999) (r2 : -2000 ≤ w2.toInt ∧ w2.toInt ≤ 2000) :
    RS N (A.1, A.2.1, A.2.2.1, A.2.2.2.1, A.2.2.2.2.1, A.2.2.2.2.2.1, A.2.2.2.2.2.2.1, A.2.2.2.2.2.2.2.1, A.2.2.2.2.2.2.2.2.1, A.2.2.2.2.2.2.2.2.2.1, A.2.2.2.2.2.2.2.2.2.2.1, A.2.2.2.2.2.2.2.2.2.2.2.1, w1.toInt64, w2, A.2.2.2.2.2.2.2.2.2.2.2.2.2.2) (vp_updL (vp_updL f 34 w1.toInt64) 35 w2.toInt64) := by
  obtain ⟨h0, h1, h2, h3, hW, h5, hG⟩ := hA
  obtain ⟨a, g1, g2, g3_, g4, g5, g6⟩ := hG
  have e : ∀ j, j < 34 ∨ 36 ≤ j → vp_updL (vp_updL f 34 w1.toInt64) 35 w2.toInt64 j = f j := fun j hj => by
    rw [updo (by omega), updo (by omega)]
  have z34 : vp_updL (vp_updL f 34 w1.toInt64) 35 w2.toInt64 34 = w1.toInt64 := rfl
  have z35 : vp_updL (vp_updL f 34 w1.toInt64) 35 w2.toInt64 35 = w2.toInt64 := rfl
  refine ⟨fun i hi => ?_, fun i hi => ?_, fun i hi => ?_, fun i hi => ?_, hW.cg (e 25 (by omega)).symm (fun j a b => (e j (by omega)).symm), ?_, ?_, fun i hi => ?_, fun i hi => ?_, fun i hi => ?_, ?_, ?_, ?_⟩
  · rw [e i (by omega)]
    exact h0 i hi
  · rw [e (7 + 2 * i) (by omega), e (8 + 2 * i) (by omega), e (13 + i) (by omega), e (30 + i) (by omega)]
    exact h1 i hi
  · rw [e _ (by omega)]
    exact h2 i hi
  · rw [e _ (by omega)]
    exact h3 i hi
  · rw [z34, z35, e 33 (by omega)]
    exact ⟨h5.1, rfl, rfl⟩
  · rw [e _ (by omega), e _ (by omega), e _ (by omega), e _ (by omega), e _ (by omega), e _ (by omega), e _ (by omega)]
    exact a
  · rw [e (7 + 2 * i) (by omega), e (8 + 2 * i) (by omega), e (13 + i) (by omega), e (30 + i) (by omega)]
    exact g1 i hi
  · rw [e _ (by omega)]
    exact g2 i hi
  · rw [e _ (by omega)]
    exact g3_ i hi
  · rw [e _ (by omega)]
    exact g4
  · rw [z34, t64]
    omega
  · rw [z35]
    exact sig_bd r2
theorem B_seed {N : Int} {xN sN : Int32} {A C0_ C1 C2 C3_ : ST} {f sv : Nat → Int64} (hK_ : RKq N xN A C0_ C1 C2 C3_ sN f sv) (w1 w2 : Int32) :
    (F_X5_seed xN A C0_ C1 C2 C3_ w1 w2 = some (.inr xIAE) ∧ F_X6_seed sN f sv w1 w2 = some (0, sN, 1, f, sv)) ∨
    ∃ (v xN1 : Int32) (A1 D0 D1 D2 D3 : ST) (sN1 : Int32) (f1 sv1 : Nat → Int64), F_X5_seed xN A C0_ C1 C2 C3_ w1 w2 = some (.inl (v, xN1, A1, D0, D1, D2, D3)) ∧ F_X6_seed sN f sv w1 w2 = some (v, sN1, 0, f1, sv1) ∧ RKq N xN1 A1 D0 D1 D2 D3 sN1 f1 sv1 := by
  obtain ⟨n, rfl, rfl, hA, hV⟩ := hK_
  unfold F_X5_seed F_X6_seed
  by_cases r1 : 0 ≤ w1.toInt ∧ w1.toInt ≤ 999999
  · rw [X5_rg1 (l := 0) (h := 999999) rfl rfl r1, obx_v, X6_in1 (l := 0) (h := 999999) rfl rfl r1, ob_s, rg_s, iif1]
    by_cases r2 : -2000 ≤ w2.toInt ∧ w2.toInt ≤ 2000
    · right
      obtain ⟨n1', D0, D1, D2, D3, sv1, s1, s2, s3⟩ := B_save hA hV
      have hB_ := hA.seed r1 r2
      rw [X5_rg1 (l := -2000) (h := 2000) rfl rfl r2, obx_v, X6_sig1 r2, ob_s, iif1, s2, obx_v]
      try dsimp only
      rw [X6_g1, ob_s]
      try dsimp only
      rw [iif1, s1, ob_s, ltl_s, ltl_s, ltl_s, (out_rng hA).2.2]
      exact ⟨_, _, _, _, _, _, _, _, _, _, rfl, rfl, n1', rfl, rfl, hB_, s3⟩
    · left
      rw [X5_rg0 (l := -2000) (h := 2000) rfl rfl r2, obx_r, X6_sig0 r2, ob_s, iif0]
      try dsimp only
      rw [X6_g0, ob_s]
      exact ⟨rfl, rfl⟩
  · left
    rw [X5_rg0 (l := 0) (h := 999999) rfl rfl r1, obx_r, X6_in0 (l := 0) (h := 999999) rfl rfl r1, ob_s, rg_s, iif0]
    try dsimp only
    rw [X6_g0, ob_s]
    exact ⟨rfl, rfl⟩
