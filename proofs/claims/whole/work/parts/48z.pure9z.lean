/-! PURE: the arrays behind a sample -/
theorem tkA_o {g : Nat → Int64} {d T0_ T1 T2 b : Int64} {j : Nat} (h : j ≠ 25 ∧ j ≠ 28 ∧ j ≠ 29 ∧ ¬ (13 ≤ j ∧ j < 16)) : tkA g d T0_ T1 T2 b j = g j := by
  unfold tkA
  rw [uL, uL, uL, uL, uL, uL, if_neg (by omega), if_neg (by omega), if_neg (by omega), if_neg (by omega), if_neg (by omega), if_neg (by omega)]
theorem tkF_o {v : Nat → Int64} {a b c d e f : Int64} {j : Nat} (h : ¬ (16 ≤ j ∧ j < 25)) (h2 : j ≠ 27) : tkF v a b c d e f j = v j := by
  unfold tkF
  split
  · rw [uL, if_neg h2, lay9_o h, chR_o h]
  · rw [chR_o h]
theorem tkF_27 (v : Nat → Int64) (a b c d e f : Int64) : tkF v a b c d e f 27 = if 163840000 < a + d + f then v 27 + 1 else v 27 := by
  unfold tkF
  split
  · rw [uL, if_pos rfl]
  · rw [chR_o (by omega)]
theorem tkC_0 (Co : Nat → Int32) (d b : Int32) : tkC Co d b 0 = Co 0 + 1 := by unfold tkC; split <;> rfl
theorem tkC_1 (Co : Nat → Int32) (d b : Int32) : tkC Co d b 1 = Co 1 := by unfold tkC; split <;> rfl
theorem tkC_2 (Co : Nat → Int32) (d b : Int32) : tkC Co d b 2 = Co 2 := by unfold tkC; split <;> rfl
theorem tkC_3 (Co : Nat → Int32) (d b : Int32) : tkC Co d b 3 = if b = 0 then Co 3 else Co 3 + 1 := by unfold tkC; split <;> rfl
theorem tkC_4 (Co : Nat → Int32) (d b : Int32) : tkC Co d b 4 = Co 4 + d := by unfold tkC; split <;> rfl
theorem inc3264 {x : Int32} {v : Int64} (h : x.toInt64 = v) (h0 : 0 ≤ v.toInt) (h1 : v.toInt < 2147483647) : (x + 1).toInt64 = v + 1 := by
  have e : x.toInt = v.toInt := by rw [← h, t64]
  apply i64_eq
  rw [t64, inc32 (by omega) (by omega), inc64 (by omega) (by omega), e]
theorem incd {x : Int32} {v : Int64} (c : Prop) [Decidable c] (h : x.toInt64 = v) (h0 : 0 ≤ v.toInt) (h1 : v.toInt < 2147483647) : (x + (if c then 1 else 0)).toInt64 = v + (if c then 1 else 0) := by
  by_cases hc_ : c
  · rw [if_pos hc_, if_pos hc_]
    exact inc3264 h h0 h1
  · rw [if_neg hc_, if_neg hc_, Int32.add_zero, Int64.add_zero]
    exact h
theorem RG.step {N : Int} {f f1 : Nat → Int64} (hG : RG N f) (h : ∀ j, j < 36 → ¬ (13 ≤ j ∧ j < 30) → f1 j = f j) (hT_ : ∀ i, i < 3 → bd 1310720 (f1 (13 + i))) (hP : ∀ i, i < 9 → bd 65536000 (f1 (16 + i))) {M : Int} (hC : ∀ i, i < 5 → 0 ≤ (f1 (25 + i)).toInt ∧ (f1 (25 + i)).toInt ≤ M) : RG M f1 := by
  obtain ⟨⟨a0, a1, a2, a3, a4, a5, a6⟩, h1, h2, h3, h4, h5, h6⟩ := hG
  rw [← h 0 (by omega) (by omega)] at a0; rw [← h 1 (by omega) (by omega)] at a1; rw [← h 2 (by omega) (by omega)] at a2; rw [← h 3 (by omega) (by omega)] at a3; rw [← h 4 (by omega) (by omega)] at a4; rw [← h 5 (by omega) (by omega)] at a5; rw [← h 6 (by omega) (by omega)] at a6
  rw [← h 33 (by omega) (by omega)] at h4; rw [← h 34 (by omega) (by omega)] at h5; rw [← h 35 (by omega) (by omega)] at h6
  refine ⟨⟨a0, a1, a2, a3, a4, a5, a6⟩, fun i hi => ?_, hP, hC, h4, h5, h6⟩
  obtain ⟨b1, b2, b3, -, b5⟩ := h1 i hi
  rw [← h (7 + 2 * i) (by omega) (by omega)] at b1 b2
  rw [← h (8 + 2 * i) (by omega) (by omega)] at b2 b3
  rw [← h (30 + i) (by omega) (by omega)] at b5
  exact ⟨b1, b2, b3, hT_ i hi, b5⟩
theorem lt3 {P : Nat → Prop} (h0 : P 0) (h1 : P 1) (h2 : P 2) : ∀ i, i < 3 → P i := fun i hi => by
  rcases (show i = 0 ∨ i = 1 ∨ i = 2 by omega) with rfl | rfl | rfl
  · exact h0
  · exact h1
  · exact h2
theorem lt5 {P : Nat → Prop} (h0 : P 0) (h1 : P 1) (h2 : P 2) (h3 : P 3) (h4 : P 4) : ∀ i, i < 5 → P i := fun i hi => by
  rcases (show i = 0 ∨ i = 1 ∨ i = 2 ∨ i = 3 ∨ i = 4 by omega) with rfl | rfl | rfl | rfl | rfl
  · exact h0
  · exact h1
  · exact h2
  · exact h3
  · exact h4
theorem lt9 {P : Nat → Prop} (h0 : P 0) (h1 : P 1) (h2 : P 2) (h3 : P 3) (h4 : P 4) (h5 : P 5) (h6 : P 6) (h7 : P 7) (h8 : P 8) : ∀ i, i < 9 → P i := fun i hi => by
  rcases (show i = 0 ∨ i = 1 ∨ i = 2 ∨ i = 3 ∨ i = 4 ∨ i = 5 ∨ i = 6 ∨ i = 7 ∨ i = 8 by omega) with rfl | rfl | rfl | rfl | rfl | rfl | rfl | rfl | rfl
  · exact h0
  · exact h1
  · exact h2
  · exact h3
  · exact h4
  · exact h5
  · exact h6
  · exact h7
  · exact h8
theorem dg_bd (x : Int64) : bd 65536000 (dg x) := by
  rw [dg_eq]
  exact wi_bd (by decide) (by decide) (by decide)
theorem wM_bd (x : Int64) : bd 65536000 (wM x) := wi_bd (by decide) (by decide) (by decide)
theorem c_bd : bd 65536000 (6553600 : Int64) := ⟨by decide, by decide⟩
theorem z_bd : bd 65536000 (0 : Int64) := ⟨by decide, by decide⟩
theorem tk_P (v ma : Nat → Int64) (a b c d e f : Int64) : ∀ i, i < 9 → (if 163840000 < a + d + f then lay9C (chC ma a b c d e f) else chC ma a b c d e f) i = tkF v a b c d e f (16 + i) := by
  unfold tkF
  by_cases h : 163840000 < a + d + f
  · rw [if_pos h, if_pos h]
    exact lt9 rfl rfl rfl rfl rfl rfl rfl rfl rfl
  · rw [if_neg h, if_neg h]
    exact lt9 rfl rfl rfl rfl rfl rfl rfl rfl rfl
theorem tk_Pb (v : Nat → Int64) {a b c d e f : Int64} (ha : bd 65536000 a) (hb : bd 65536000 b) (hc_ : bd 65536000 c) (hd : bd 65536000 d) (he : bd 65536000 e) (hf : bd 65536000 f) : ∀ i, i < 9 → bd 65536000 (tkF v a b c d e f (16 + i)) := by
  unfold tkF
  by_cases h : 163840000 < a + d + f
  · rw [if_pos h]
    exact lt9 c_bd z_bd z_bd z_bd c_bd z_bd z_bd z_bd c_bd
  · rw [if_neg h]
    exact lt9 ha hb hc_ hb hd he hc_ he hf
theorem B_upd {N : Int} {A : ST} {f g : Nat → Int64} (h0 : ∀ i, i < 7 → (A.1 i).toInt64 = f i) (h1 : ∀ i, i < 3 → (A.2.1 i).toInt64 = f (7 + 2 * i) ∧ (A.2.2.1 i).toInt64 = f (8 + 2 * i) ∧ (A.2.2.2.1 i).toInt64 = f (13 + i) ∧ (A.2.2.2.2.2.2.2.2.2.2.2.2.2.2 i).toInt64 = f (30 + i))
    (h3 : ∀ i, i < 5 → (A.2.2.2.2.2.1 i).toInt64 = f (25 + i)) (h5 : A.2.2.2.2.2.2.2.2.2.2.2.1.toInt64 = f 33 ∧ A.2.2.2.2.2.2.2.2.2.2.2.2.1 = f 34 ∧ A.2.2.2.2.2.2.2.2.2.2.2.2.2.1.toInt64 = f 35) (hG : RG N f) (hN_ : N < 2147483646)
    {Hd : Int32} {Wo Wi : Nat → Int32} (k3 : ∀ j, j < 36 → g j = f j) (k4 : ∀ g1 : Nat → Int64, (∀ j, 36 ≤ j → j < 76 → g1 j = g j) → g1 25 = f 25 + 1 → RW Hd Wo Wi g1) {T0_ T1 T2 : Int64} (bT0 : bd 1310720 T0_) (bT1 : bd 1310720 T1) (bT2 : bd 1310720 T2) (c : Prop) [Decidable c] (bb : Int32) (p00 p01 p02 p11 p12 p22 : Int64) (Di Ga : Nat → Int64) :
    (∀ j, j < 36 → ¬ (13 ≤ j ∧ j < 30) → tkF (tkA g (if c then 1 else 0) T0_ T1 T2 (if bb = 0 then 0 else 1)) (dg p00) (wM p01) (wM p02) (dg p11) (wM p12) (dg p22) j = f j) ∧
    RS (N + 1) (A.1, A.2.1, A.2.2.1, upd (upd (upd A.2.2.2.1 0 T0_.toInt32) 1 T1.toInt32) 2 T2.toInt32,
      (if 163840000 < dg p00 + dg p11 + dg p22 then lay9C (chC A.2.2.2.2.1 (dg p00) (wM p01) (wM p02) (dg p11) (wM p12) (dg p22)) else chC A.2.2.2.2.1 (dg p00) (wM p01) (wM p02) (dg p11) (wM p12) (dg p22)),
      (if 163840000 < dg p00 + dg p11 + dg p22 then upd (tkC A.2.2.2.2.2.1 (if c then 1 else 0) bb) 2 (tkC A.2.2.2.2.2.1 (if c then 1 else 0) bb 2 + 1) else tkC A.2.2.2.2.2.1 (if c then 1 else 0) bb), Di, Ga, Hd, Wo, Wi, A.2.2.2.2.2.2.2.2.2.2.2.1, A.2.2.2.2.2.2.2.2.2.2.2.2.1, A.2.2.2.2.2.2.2.2.2.2.2.2.2.1, A.2.2.2.2.2.2.2.2.2.2.2.2.2.2)
      (tkF (tkA g (if c then 1 else 0) T0_ T1 T2 (if bb = 0 then 0 else 1)) (dg p00) (wM p01) (wM p02) (dg p11) (wM p12) (dg p22)) := by
  obtain ⟨-, gb, gp, gc_, -⟩ := id hG
  have c0 := gc_ 0 (by omega)
  have c1 := gc_ 1 (by omega)
  have c2 := gc_ 2 (by omega)
  have c3 := gc_ 3 (by omega)
  have c4 := gc_ 4 (by omega)
  simp only [Nat.reduceAdd] at c0 c1 c2 c3 c4
  have co0 := h3 0 (by omega)
  have co1 := h3 1 (by omega)
  have co2 := h3 2 (by omega)
  have co3 := h3 3 (by omega)
  have co4 := h3 4 (by omega)
  simp only [Nat.reduceAdd] at co0 co1 co2 co3 co4
  have z1 : ∀ d : Prop, ∀ [Decidable d], ∀ v : Int64, 0 ≤ v.toInt → v.toInt < 2147483647 → v.toInt ≤ (v + (if d then 1 else 0)).toInt ∧ (v + (if d then 1 else 0)).toInt ≤ v.toInt + 1 := by
    intro d _ v a b
    by_cases hd : d
    · rw [if_pos hd, inc64 a (by omega)]
      omega
    · rw [if_neg hd, Int64.add_zero]
      omega
  have fr : ∀ j, j < 36 → ¬ (13 ≤ j ∧ j < 30) → tkF (tkA g (if c then 1 else 0) T0_ T1 T2 (if bb = 0 then 0 else 1)) (dg p00) (wM p01) (wM p02) (dg p11) (wM p12) (dg p22) j = f j := fun j a b => by
    rw [tkF_o (by omega) (by omega), tkA_o (by omega)]
    exact k3 j a
  have f13 : tkF (tkA g (if c then 1 else 0) T0_ T1 T2 (if bb = 0 then 0 else 1)) (dg p00) (wM p01) (wM p02) (dg p11) (wM p12) (dg p22) 13 = T0_ := by rw [tkF_o (by omega) (by omega)]; rfl
  have f14_ : tkF (tkA g (if c then 1 else 0) T0_ T1 T2 (if bb = 0 then 0 else 1)) (dg p00) (wM p01) (wM p02) (dg p11) (wM p12) (dg p22) 14 = T1 := by rw [tkF_o (by omega) (by omega)]; rfl
  have f15 : tkF (tkA g (if c then 1 else 0) T0_ T1 T2 (if bb = 0 then 0 else 1)) (dg p00) (wM p01) (wM p02) (dg p11) (wM p12) (dg p22) 15 = T2 := by rw [tkF_o (by omega) (by omega)]; rfl
  have f25 : tkF (tkA g (if c then 1 else 0) T0_ T1 T2 (if bb = 0 then 0 else 1)) (dg p00) (wM p01) (wM p02) (dg p11) (wM p12) (dg p22) 25 = f 25 + 1 := by rw [tkF_o (by omega) (by omega), ← k3 25 (by omega)]; rfl
  have f26 : tkF (tkA g (if c then 1 else 0) T0_ T1 T2 (if bb = 0 then 0 else 1)) (dg p00) (wM p01) (wM p02) (dg p11) (wM p12) (dg p22) 26 = f 26 := by rw [tkF_o (by omega) (by omega), ← k3 26 (by omega)]; rfl
  have f27 : tkF (tkA g (if c then 1 else 0) T0_ T1 T2 (if bb = 0 then 0 else 1)) (dg p00) (wM p01) (wM p02) (dg p11) (wM p12) (dg p22) 27 = if 163840000 < dg p00 + dg p11 + dg p22 then f 27 + 1 else f 27 := by rw [tkF_27, ← k3 27 (by omega)]; rfl
  have f28 : tkF (tkA g (if c then 1 else 0) T0_ T1 T2 (if bb = 0 then 0 else 1)) (dg p00) (wM p01) (wM p02) (dg p11) (wM p12) (dg p22) 28 = f 28 + (if bb = 0 then 0 else 1) := by rw [tkF_o (by omega) (by omega), ← k3 28 (by omega)]; rfl
  have f29 : tkF (tkA g (if c then 1 else 0) T0_ T1 T2 (if bb = 0 then 0 else 1)) (dg p00) (wM p01) (wM p02) (dg p11) (wM p12) (dg p22) 29 = f 29 + (if c then 1 else 0) := by rw [tkF_o (by omega) (by omega), ← k3 29 (by omega)]; rfl
  have tT : ∀ T : Int64, bd 1310720 T → T.toInt32.toInt64 = T := fun T h => by
    unfold bd at h
    exact t3264 (by omega) (by omega)
  have f28' : f 28 + (if bb = 0 then 0 else 1) = f 28 + (if ¬ bb = 0 then 1 else 0) := by
    by_cases hb : bb = 0
    · rw [if_pos hb, if_neg (fun q => q hb)]
    · rw [if_neg hb, if_pos hb]
  refine ⟨fr, fun i hi => ?_, fun i hi => ⟨?_, ?_, ?_, ?_⟩, fun i hi => ?_, ?_, k4 _ (fun j a b => ?_) f25, ?_, ?_⟩
  · rw [fr i (by omega) (by omega)]
    exact h0 i hi
  · rw [fr (7 + 2 * i) (by omega) (by omega)]
    exact (h1 i hi).1
  · rw [fr (8 + 2 * i) (by omega) (by omega)]
    exact (h1 i hi).2.1
  · revert i hi
    refine lt3 ?_ ?_ ?_
    · rw [f13]
      exact tT _ bT0
    · rw [f14_]
      exact tT _ bT1
    · rw [f15]
      exact tT _ bT2
  · rw [fr (30 + i) (by omega) (by omega)]
    exact (h1 i hi).2.2.2
  · exact tk_P _ _ _ _ _ _ _ _ i hi
  · by_cases hb : 163840000 < dg p00 + dg p11 + dg p22
    · rw [if_pos hb] at f27
      rw [show (_, _, _, _, _, (if 163840000 < dg p00 + dg p11 + dg p22 then upd (tkC A.2.2.2.2.2.1 (if c then 1 else 0) bb) 2 (tkC A.2.2.2.2.2.1 (if c then 1 else 0) bb 2 + 1) else tkC A.2.2.2.2.2.1 (if c then 1 else 0) bb), _, _, _, _, _, _, _, _, _).2.2.2.2.2.1 = upd (tkC A.2.2.2.2.2.1 (if c then 1 else 0) bb) 2 (tkC A.2.2.2.2.2.1 (if c then 1 else 0) bb 2 + 1) from if_pos hb]
      refine lt5 ?_ ?_ ?_ ?_ ?_
      · rw [uI, if_neg (by decide), tkC_0, f25]
        exact inc3264 co0 (by omega) (by omega)
      · rw [uI, if_neg (by decide), tkC_1, f26]
        exact co1
      · rw [uI, if_pos rfl, tkC_2, f27]
        exact inc3264 co2 (by omega) (by omega)
      · rw [uI, if_neg (by decide), tkC_3, f28]
        by_cases hb : bb = 0
        · rw [if_pos hb, if_pos hb, Int64.add_zero]
          exact co3
        · rw [if_neg hb, if_neg hb]
          exact inc3264 co3 (by omega) (by omega)
      · rw [uI, if_neg (by decide), tkC_4, f29]
        exact incd c co4 (by omega) (by omega)
    · rw [if_neg hb] at f27
      rw [show (_, _, _, _, _, (if 163840000 < dg p00 + dg p11 + dg p22 then upd (tkC A.2.2.2.2.2.1 (if c then 1 else 0) bb) 2 (tkC A.2.2.2.2.2.1 (if c then 1 else 0) bb 2 + 1) else tkC A.2.2.2.2.2.1 (if c then 1 else 0) bb), _, _, _, _, _, _, _, _, _).2.2.2.2.2.1 = tkC A.2.2.2.2.2.1 (if c then 1 else 0) bb from if_neg hb]
      refine lt5 ?_ ?_ ?_ ?_ ?_
      · rw [tkC_0, f25]
        exact inc3264 co0 (by omega) (by omega)
      · rw [tkC_1, f26]
        exact co1
      · rw [tkC_2, f27]
        exact co2
      · rw [tkC_3, f28]
        by_cases hb : bb = 0
        · rw [if_pos hb, if_pos hb, Int64.add_zero]
          exact co3
        · rw [if_neg hb, if_neg hb]
          exact inc3264 co3 (by omega) (by omega)
      · rw [tkC_4, f29]
        exact incd c co4 (by omega) (by omega)
  · rw [tkF_o (by omega) (by omega), tkA_o (by omega)]
  · rw [fr 33 (by omega) (by omega), fr 34 (by omega) (by omega), fr 35 (by omega) (by omega)]
    exact h5
  · refine hG.step fr ?_ (tk_Pb _ (dg_bd _) (wM_bd _) (wM_bd _) (dg_bd _) (wM_bd _) (dg_bd _)) (lt5 ?_ ?_ ?_ ?_ ?_)
    · refine lt3 ?_ ?_ ?_
      · rw [f13]; exact bT0
      · rw [f14_]; exact bT1
      · rw [f15]; exact bT2
    · rw [f25, inc64 (by omega) (by omega)]
      omega
    · rw [f26]
      omega
    · rw [f27]
      split
      · rw [inc64 (by omega) (by omega)]
        omega
      · omega
    · rw [f28, f28']
      have := z1 (¬ bb = 0) (f 28) (by omega) (by omega)
      omega
    · rw [f29]
      have := z1 c (f 29) (by omega) (by omega)
      omega
