/-! PURE: the two states -/
def RW (Hd : Int32) (Wo Wi : Nat → Int32) (f : Nat → Int64) : Prop := ∃ n : Nat, n ≤ 20 ∧ Hd = Int32.ofNat n ∧ (n : Int) = min (f 25).toInt 20 ∧ ∀ k, k < n → (Wo (n - 1 - k)).toInt64 = f (36 + 2 * k) ∧ (Wi (n - 1 - k)).toInt64 = f (37 + 2 * k)
def RG (N : Int) (f : Nat → Int64) : Prop :=
  ((50000 ≤ (f 0).toInt ∧ (f 0).toInt ≤ 65536) ∧ (0 ≤ (f 1).toInt ∧ (f 1).toInt ≤ 500) ∧ (0 ≤ (f 2).toInt ∧ (f 2).toInt ≤ 100) ∧ (2 ≤ (f 3).toInt ∧ (f 3).toInt ≤ 20) ∧ (1 ≤ (f 4).toInt ∧ (f 4).toInt ≤ 2000) ∧ (0 ≤ (f 5).toInt ∧ (f 5).toInt ≤ 100) ∧ (1 ≤ (f 6).toInt ∧ (f 6).toInt ≤ 65536)) ∧
  (∀ i, i < 3 → -1310720 ≤ (f (7 + 2 * i)).toInt ∧ (f (7 + 2 * i)).toInt ≤ (f (8 + 2 * i)).toInt ∧ (f (8 + 2 * i)).toInt ≤ 1310720 ∧ bd 1310720 (f (13 + i)) ∧ bd 3000 (f (30 + i))) ∧
  (∀ i, i < 9 → bd 65536000 (f (16 + i))) ∧ (∀ i, i < 5 → 0 ≤ (f (25 + i)).toInt ∧ (f (25 + i)).toInt ≤ N) ∧
  (0 ≤ (f 33).toInt ∧ (f 33).toInt ≤ 200) ∧ (0 ≤ (f 34).toInt ∧ (f 34).toInt ≤ 2147483647) ∧ bd 2000 (f 35)
def RS (N : Int) (A : ST) (f : Nat → Int64) : Prop :=
  (∀ i, i < 7 → (A.1 i).toInt64 = f i) ∧
  (∀ i, i < 3 → (A.2.1 i).toInt64 = f (7 + 2 * i) ∧ (A.2.2.1 i).toInt64 = f (8 + 2 * i) ∧ (A.2.2.2.1 i).toInt64 = f (13 + i) ∧ (A.2.2.2.2.2.2.2.2.2.2.2.2.2.2 i).toInt64 = f (30 + i)) ∧
  (∀ i, i < 9 → A.2.2.2.2.1 i = f (16 + i)) ∧ (∀ i, i < 5 → (A.2.2.2.2.2.1 i).toInt64 = f (25 + i)) ∧
  RW A.2.2.2.2.2.2.2.2.1 A.2.2.2.2.2.2.2.2.2.1 A.2.2.2.2.2.2.2.2.2.2.1 f ∧
  (A.2.2.2.2.2.2.2.2.2.2.2.1.toInt64 = f 33 ∧ A.2.2.2.2.2.2.2.2.2.2.2.2.1 = f 34 ∧ A.2.2.2.2.2.2.2.2.2.2.2.2.2.1.toInt64 = f 35) ∧ RG N f
theorem RG.congr {N : Int} {f g : Nat → Int64} (h : ∀ j, j < 76 → f j = g j) (hf : RG N f) : RG N g := by
  obtain ⟨⟨a0, a1, a2, a3, a4, a5, a6⟩, h1, h2, h3, h4, h5, h6⟩ := hf
  rw [h 0 (by omega)] at a0; rw [h 1 (by omega)] at a1; rw [h 2 (by omega)] at a2; rw [h 3 (by omega)] at a3; rw [h 4 (by omega)] at a4; rw [h 5 (by omega)] at a5; rw [h 6 (by omega)] at a6
  rw [h 33 (by omega)] at h4; rw [h 34 (by omega)] at h5; rw [h 35 (by omega)] at h6
  refine ⟨⟨a0, a1, a2, a3, a4, a5, a6⟩, fun i hi => ?_, fun i hi => ?_, fun i hi => ?_, h4, h5, h6⟩
  · have := h1 i hi
    rw [h (7 + 2 * i) (by omega), h (8 + 2 * i) (by omega), h (13 + i) (by omega), h (30 + i) (by omega)] at this
    exact this
  · have := h2 i hi
    rw [h (16 + i) (by omega)] at this
    exact this
  · have := h3 i hi
    rw [h (25 + i) (by omega)] at this
    exact this
theorem RG.mono {N M : Int} {f : Nat → Int64} (h : N ≤ M) (hf : RG N f) : RG M f := by
  obtain ⟨h0, h1, h2, h3, h4⟩ := hf
  exact ⟨h0, h1, h2, fun i hi => ⟨(h3 i hi).1, Int.le_trans (h3 i hi).2 h⟩, h4⟩
theorem RW.congr {Hd : Int32} {Wo Wi : Nat → Int32} {f g : Nat → Int64} (h : ∀ j, j < 76 → f j = g j) (hf : RW Hd Wo Wi f) : RW Hd Wo Wi g := by
  obtain ⟨n, h1, h2, h3, h4⟩ := hf
  rw [h 25 (by omega)] at h3
  refine ⟨n, h1, h2, h3, fun k hk => ?_⟩
  have := h4 k hk
  rw [h (36 + 2 * k) (by omega), h (37 + 2 * k) (by omega)] at this
  exact this
theorem RS.congr {N : Int} {A : ST} {f g : Nat → Int64} (h : ∀ j, j < 76 → f j = g j) (hf : RS N A f) : RS N A g := by
  obtain ⟨h0, h1, h2, h3, h4, h5, h6⟩ := hf
  refine ⟨fun i hi => ?_, fun i hi => ?_, fun i hi => ?_, fun i hi => ?_, h4.congr h, ?_, h6.congr h⟩
  · rw [h0 i hi, h i (by omega)]
  · have := h1 i hi
    rw [h (7 + 2 * i) (by omega), h (8 + 2 * i) (by omega), h (13 + i) (by omega), h (30 + i) (by omega)] at this
    exact this
  · rw [h2 i hi, h (16 + i) (by omega)]
  · rw [h3 i hi, h (25 + i) (by omega)]
  · rw [h 33 (by omega), h 34 (by omega), h 35 (by omega)] at h5
    exact h5
theorem RS.mono {N M : Int} {A : ST} {f : Nat → Int64} (h : N ≤ M) (hf : RS N A f) : RS M A f := by
  obtain ⟨h0, h1, h2, h3, h4, h5, h6⟩ := hf
  exact ⟨h0, h1, h2, h3, h4, h5, h6.mono h⟩
/-- a State copied into another -/
def cpS (y z : ST) : ST := (va_cpy z.1 y.1 0 0 7, va_cpy z.2.1 y.2.1 0 0 3, va_cpy z.2.2.1 y.2.2.1 0 0 3, va_cpy z.2.2.2.1 y.2.2.2.1 0 0 3, va_cpy z.2.2.2.2.1 y.2.2.2.2.1 0 0 9, va_cpy z.2.2.2.2.2.1 y.2.2.2.2.2.1 0 0 5, y.2.2.2.2.2.2.1, y.2.2.2.2.2.2.2.1, z.2.2.2.2.2.2.2.2.1, va_cpy z.2.2.2.2.2.2.2.2.2.1 y.2.2.2.2.2.2.2.2.2.1 0 0 20, va_cpy z.2.2.2.2.2.2.2.2.2.2.1 y.2.2.2.2.2.2.2.2.2.2.1 0 0 20, z.2.2.2.2.2.2.2.2.2.2.2.1, z.2.2.2.2.2.2.2.2.2.2.2.2.1, z.2.2.2.2.2.2.2.2.2.2.2.2.2.1, va_cpy z.2.2.2.2.2.2.2.2.2.2.2.2.2.2 y.2.2.2.2.2.2.2.2.2.2.2.2.2.2 0 0 3)
theorem C_copy (y z : ST) : F_X3_copyFrom y z = some (cpS y z) := rfl
theorem cp0 {α : Type} (a b : Nat → α) {n k : Nat} (h : k < n) : va_cpy a b 0 0 n k = a k := by
  unfold va_cpy
  rw [if_pos ⟨Nat.zero_le _, by omega⟩, Nat.zero_add, Nat.sub_zero]
theorem RS.copy {N : Int} {y z : ST} {f : Nat → Int64} (hf : RS N z f) : RS N (cpS y z) f := by
  obtain ⟨h0, h1, h2, h3, ⟨n, w1, w2, w3, w4⟩, h5, h6⟩ := hf
  refine ⟨fun i hi => ?_, fun i hi => ?_, fun i hi => ?_, fun i hi => ?_, ⟨n, w1, w2, w3, fun k hk => ?_⟩, h5, h6⟩
  · show (va_cpy z.1 y.1 0 0 7 i).toInt64 = _
    rw [cp0 _ _ hi]
    exact h0 i hi
  · show Int32.toInt64 (va_cpy _ _ 0 0 3 i) = _ ∧ Int32.toInt64 (va_cpy _ _ 0 0 3 i) = _ ∧ Int32.toInt64 (va_cpy _ _ 0 0 3 i) = _ ∧ Int32.toInt64 (va_cpy _ _ 0 0 3 i) = _
    rw [cp0 _ _ hi, cp0 _ _ hi, cp0 _ _ hi, cp0 _ _ hi]
    exact h1 i hi
  · show va_cpy _ _ 0 0 9 i = _
    rw [cp0 _ _ hi]
    exact h2 i hi
  · show Int32.toInt64 (va_cpy _ _ 0 0 5 i) = _
    rw [cp0 _ _ hi]
    exact h3 i hi
  · show Int32.toInt64 (va_cpy _ _ 0 0 20 (n - 1 - k)) = _ ∧ Int32.toInt64 (va_cpy _ _ 0 0 20 (n - 1 - k)) = _
    rw [cp0 _ _ (by omega), cp0 _ _ (by omega)]
    exact w4 k hk
/-- the saved states -/
def RV (N : Int) (n : Nat) (C0_ C1 C2 C3_ : ST) (sv : Nat → Int64) : Prop := n ≤ 4 ∧ (0 < n → RS N C0_ sv) ∧ (1 < n → RS N C1 (fun j => sv (76 + j))) ∧ (2 < n → RS N C2 (fun j => sv (152 + j))) ∧ (3 < n → RS N C3_ (fun j => sv (228 + j)))
theorem R_save {n : Nat} (hn : n < 4) (al sv : Nat → Int64) : F_X6_save (Int32.ofNat n) al sv = some (Int32.ofNat (n + 1), fun j => if 76 * n ≤ j ∧ j < 76 * n + 76 then al (j - 76 * n) else sv j) := by
  unfold F_X6_save
  rw [rg_s, if_neg (fun q => by have := (nEq (a := n) (b := 4) (by omega) (by decide)).mp q; omega), show (0 : Int32) = Int32.ofNat 0 from rfl]
  try dsimp only
  rw [L_save50 (Int32.ofNat n, sv) n rfl hn al _ 76 0 1000 sv (by decide) (by decide), ltl_s, n1]
  rfl
theorem R_save4 (al sv : Nat → Int64) : F_X6_save 4 al sv = some (4, fun j => if 228 ≤ j ∧ j < 304 then al (j - 228) else if j < 228 then sv (j + 76) else sv j) := by
  unfold F_X6_save
  rw [rg_s, if_pos rfl, show (0 : Int32) = Int32.ofNat 0 from rfl, L_save10 _ 228 0 1000 sv (by decide) (by decide), ltl_s]
  try dsimp only
  rw [L_save50 _ 3 rfl (by decide) al _ 76 0 1000 _ (by decide) (by decide), ltl_s]
  congr 1
  congr 1
  funext j
  by_cases h : 228 ≤ j ∧ j < 304
  · rw [if_pos h, if_pos (show 76 * 3 + 0 ≤ j ∧ j < 76 * 3 + 76 by omega)]
  · rw [if_neg h, if_neg (show ¬ (76 * 3 + 0 ≤ j ∧ j < 76 * 3 + 76) by omega)]
    by_cases h2 : j < 228
    · rw [if_pos h2, if_pos (show 0 ≤ j ∧ j < 228 by omega)]
    · rw [if_neg h2, if_neg (show ¬ (0 ≤ j ∧ j < 228) by omega)]
theorem obx_v {α β : Type} (v : α) (f : α → Option (β ⊕ String)) : obx (some (.inl v)) f = f v := rfl
theorem obx_r {α β : Type} (E : String) (f : α → Option (β ⊕ String)) : obx (some (.inr E)) f = some (.inr E) := rfl
theorem obl_v {α β : Type} (v : α) (f : α → Option β) (g : String → Option β) : obl (some (.inl v)) f g = f v := rfl
theorem obl_x {α β : Type} (E : String) (f : α → Option β) (g : String → Option β) : obl (some (.inr E)) f g = g E := rfl
theorem C_sv0 (A C0_ C1 C2 C3_ : ST) : F_X5_saveState 0 A C0_ C1 C2 C3_ = some (.inl (1, cpS C0_ A, C1, C2, C3_)) := by
  unfold F_X5_saveState
  rw [if_pos (by decide), ck_i (by decide), if_pos rfl, C_copy, ob_s, ltl_s]
  rfl
theorem C_sv1 (A C0_ C1 C2 C3_ : ST) : F_X5_saveState 1 A C0_ C1 C2 C3_ = some (.inl (2, C0_, cpS C1 A, C2, C3_)) := by
  unfold F_X5_saveState
  rw [if_pos (by decide), ck_i (by decide), if_neg (by decide), if_pos rfl, C_copy, ob_s, ltl_s]
  rfl
theorem C_sv2 (A C0_ C1 C2 C3_ : ST) : F_X5_saveState 2 A C0_ C1 C2 C3_ = some (.inl (3, C0_, C1, cpS C2 A, C3_)) := by
  unfold F_X5_saveState
  rw [if_pos (by decide), ck_i (by decide), if_neg (by decide), if_neg (by decide), if_pos rfl, C_copy, ob_s, ltl_s]
  rfl
theorem C_sv3 (A C0_ C1 C2 C3_ : ST) : F_X5_saveState 3 A C0_ C1 C2 C3_ = some (.inl (4, C0_, C1, C2, cpS C3_ A)) := by
  unfold F_X5_saveState
  rw [if_pos (by decide), ck_i (by decide), if_neg (by decide), if_neg (by decide), if_neg (by decide), C_copy, ob_s, ltl_s]
  rfl
theorem C_sv4 (A C0_ C1 C2 C3_ : ST) : F_X5_saveState 4 A C0_ C1 C2 C3_ = some (.inl (4, C1, C2, C3_, cpS C0_ A)) := by
  unfold F_X5_saveState F_X5_dropOldestState
  rw [if_neg (by decide), obx_v]
  try dsimp only
  rw [ck_i (by decide), if_neg (by decide), if_neg (by decide), if_neg (by decide), C_copy, ob_s, ltl_s]
  rfl
theorem sv_at {g al sv : Nat → Int64} {n : Nat} (h : g = fun j => if 76 * n ≤ j ∧ j < 76 * n + 76 then al (j - 76 * n) else sv j) : (∀ j, j < 76 → al j = g (76 * n + j)) ∧ ∀ j, j < 76 * n → g j = sv j := by
  subst h
  refine ⟨fun j hj => ?_, fun j hj => ?_⟩
  · try dsimp only
    rw [if_pos (by omega), Nat.add_sub_cancel_left]
  · try dsimp only
    rw [if_neg (by omega)]
theorem sv_4 {g al sv : Nat → Int64} (h : g = fun j => if 228 ≤ j ∧ j < 304 then al (j - 228) else if j < 228 then sv (j + 76) else sv j) : (∀ j, j < 76 → al j = g (228 + j)) ∧ ∀ j, j < 228 → g j = sv (j + 76) := by
  subst h
  refine ⟨fun j hj => ?_, fun j hj => ?_⟩
  · try dsimp only
    rw [if_pos (by omega), Nat.add_sub_cancel_left]
  · try dsimp only
    rw [if_neg (by omega), if_pos (by omega)]
/-- both save: what is saved is alike -/
theorem B_save {N : Int} {n : Nat} {A C0_ C1 C2 C3_ : ST} {al sv : Nat → Int64} (hA : RS N A al) (hV : RV N n C0_ C1 C2 C3_ sv) : ∃ (n1 : Nat) (D0 D1 D2 D3 : ST) (sv1 : Nat → Int64), F_X6_save (Int32.ofNat n) al sv = some (Int32.ofNat n1, sv1) ∧ F_X5_saveState (Int32.ofNat n) A C0_ C1 C2 C3_ = some (.inl (Int32.ofNat n1, D0, D1, D2, D3)) ∧ RV N n1 D0 D1 D2 D3 sv1 := by
  obtain ⟨h4, v0, v1, v2, v3⟩ := hV
  rcases (show n = 0 ∨ n = 1 ∨ n = 2 ∨ n = 3 ∨ n = 4 by omega) with rfl | rfl | rfl | rfl | rfl
  · obtain ⟨g, hg⟩ : ∃ g : Nat → Int64, g = fun j => if 76 * 0 ≤ j ∧ j < 76 * 0 + 76 then al (j - 76 * 0) else sv j := ⟨_, rfl⟩
    have hR := R_save (n := 0) (by decide) al sv
    rw [← hg] at hR
    have s := sv_at hg
    refine ⟨1, cpS C0_ A, C1, C2, C3_, g, hR, C_sv0 A C0_ C1 C2 C3_, by decide, fun _ => (hA.copy).congr (fun j hj => ?_), fun q => absurd q (by decide), fun q => absurd q (by decide), fun q => absurd q (by decide)⟩
    rw [s.1 j hj, Nat.mul_zero, Nat.zero_add]
  · obtain ⟨g, hg⟩ : ∃ g : Nat → Int64, g = fun j => if 76 * 1 ≤ j ∧ j < 76 * 1 + 76 then al (j - 76 * 1) else sv j := ⟨_, rfl⟩
    have hR := R_save (n := 1) (by decide) al sv
    rw [← hg] at hR
    have s := sv_at hg
    exact ⟨2, C0_, cpS C1 A, C2, C3_, g, hR, C_sv1 A C0_ C1 C2 C3_, by decide, fun _ => (v0 (by decide)).congr (fun j hj => (s.2 j (by omega)).symm), fun _ => (hA.copy).congr (fun j hj => s.1 j hj), fun q => absurd q (by decide), fun q => absurd q (by decide)⟩
  · obtain ⟨g, hg⟩ : ∃ g : Nat → Int64, g = fun j => if 76 * 2 ≤ j ∧ j < 76 * 2 + 76 then al (j - 76 * 2) else sv j := ⟨_, rfl⟩
    have hR := R_save (n := 2) (by decide) al sv
    rw [← hg] at hR
    have s := sv_at hg
    exact ⟨3, C0_, C1, cpS C2 A, C3_, g, hR, C_sv2 A C0_ C1 C2 C3_, by decide, fun _ => (v0 (by decide)).congr (fun j hj => (s.2 j (by omega)).symm), fun _ => (v1 (by decide)).congr (fun j hj => (s.2 (76 + j) (by omega)).symm), fun _ => (hA.copy).congr (fun j hj => s.1 j hj), fun q => absurd q (by decide)⟩
  · obtain ⟨g, hg⟩ : ∃ g : Nat → Int64, g = fun j => if 76 * 3 ≤ j ∧ j < 76 * 3 + 76 then al (j - 76 * 3) else sv j := ⟨_, rfl⟩
    have hR := R_save (n := 3) (by decide) al sv
    rw [← hg] at hR
    have s := sv_at hg
    exact ⟨4, C0_, C1, C2, cpS C3_ A, g, hR, C_sv3 A C0_ C1 C2 C3_, by decide, fun _ => (v0 (by decide)).congr (fun j hj => (s.2 j (by omega)).symm), fun _ => (v1 (by decide)).congr (fun j hj => (s.2 (76 + j) (by omega)).symm), fun _ => (v2 (by decide)).congr (fun j hj => (s.2 (152 + j) (by omega)).symm), fun _ => (hA.copy).congr (fun j hj => s.1 j hj)⟩
  · obtain ⟨g, hg⟩ : ∃ g : Nat → Int64, g = fun j => if 228 ≤ j ∧ j < 304 then al (j - 228) else if j < 228 then sv (j + 76) else sv j := ⟨_, rfl⟩
    have hR := R_save4 al sv
    rw [← hg] at hR
    have s := sv_4 hg
    refine ⟨4, C1, C2, C3_, cpS C0_ A, g, hR, C_sv4 A C0_ C1 C2 C3_, by decide, fun _ => (v1 (by decide)).congr (fun j hj => ?_), fun _ => (v2 (by decide)).congr (fun j hj => ?_), fun _ => (v3 (by decide)).congr (fun j hj => ?_), fun _ => (hA.copy).congr (fun j hj => s.1 j hj)⟩
    · rw [s.2 j (by omega)]
      exact congrArg sv (by omega)
    · try dsimp only
      rw [s.2 (76 + j) (by omega)]
      exact congrArg sv (by omega)
    · try dsimp only
      rw [s.2 (152 + j) (by omega)]
      exact congrArg sv (by omega)
