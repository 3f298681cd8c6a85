/-! PURE: counters and loops of copies -/
theorem nN {k : Nat} (h : k < 2147483648) : (Int32.ofNat k).toNatClampNeg = k := Int32.toNatClampNeg_ofNat_of_lt h
theorem n1 (k : Nat) : Int32.ofNat k + 1 = Int32.ofNat (k + 1) := (Int32.ofNat_add k 1).symm
theorem nA (k j : Nat) : Int32.ofNat k + Int32.ofNat j = Int32.ofNat (k + j) := (Int32.ofNat_add k j).symm
theorem nM (k j : Nat) : Int32.ofNat k * Int32.ofNat j = Int32.ofNat (k * j) := (Int32.ofNat_mul k j).symm
theorem nLe {a b : Nat} (ha : a < 2147483648) (hb : b < 2147483648) : (Int32.ofNat a ≤ Int32.ofNat b) ↔ a ≤ b := Int32.ofNat_le_ofNat ha hb
theorem nLt {a b : Nat} (ha : a < 2147483648) (hb : b < 2147483648) : (Int32.ofNat a < Int32.ofNat b) ↔ a < b := Int32.ofNat_lt_ofNat ha hb
theorem nEq {a b : Nat} (ha : a < 2147483648) (hb : b < 2147483648) : (Int32.ofNat a = Int32.ofNat b) ↔ a = b := by
  refine ⟨fun h => ?_, fun h => by rw [h]⟩
  have h2 := congrArg Int32.toNatClampNeg h
  rw [nN ha, nN hb] at h2
  exact h2
theorem nIn {k n : Nat} (h : k < n) (hk : k < 2147483648) : inb (Int32.ofNat k) n := by
  rintro (q | q)
  · rw [Int32.lt_iff_toInt_lt, Int32.toInt_ofNat_of_lt hk] at q
    have : (0 : Int32).toInt = 0 := rfl
    omega
  · rw [nN hk] at q
    omega
theorem fuel_s {n d : Nat} (h : d < n) : ∃ k, n = k + 1 := ⟨n - 1, by omega⟩
theorem L_lays (al : Nat → Int64) (K : (Nat → Int64) → Option (Nat → Int64)) : ∀ (d k n : Nat) (g : Nat → Int64), k + d = 76 → d < n → F_X6_lays_2 al n K (Int32.ofNat k) g = K (fun j => if k ≤ j ∧ j < 76 then al j else g j) := by
  intro d
  induction d with
  | zero =>
    intro k n g hk hn
    obtain ⟨m, rfl⟩ := fuel_s hn
    rw [F_X6_lays_2, if_pos (show (76 : Int32) ≤ Int32.ofNat k from (nLe (a := 76) (b := k) (by decide) (by omega)).mpr (by omega))]
    congr 1
    funext j
    rw [if_neg (by omega)]
  | succ d ih =>
    intro k n g hk hn
    obtain ⟨m, rfl⟩ := fuel_s hn
    rw [F_X6_lays_2, if_neg (show ¬ (76 : Int32) ≤ Int32.ofNat k from fun q => by have := (nLe (a := 76) (b := k) (by decide) (by omega)).mp q; omega), ck_i (nIn (by omega) (by omega)), ck_i (nIn (by omega) (by omega)), ltl_s, ltl_s, n1, nN (by omega), ih (k + 1) m _ (by omega) (by omega)]
    congr 1
    funext j
    simp only [uL]
    by_cases h1 : j = k
    · subst h1
      rw [if_neg (by omega), if_pos rfl, if_pos (by omega)]
    · rw [if_neg h1]
      by_cases h2 : k ≤ j ∧ j < 76
      · rw [if_pos (by omega), if_pos h2]
      · rw [if_neg (by omega), if_neg h2]
theorem L_takesBack (al : Nat → Int64) (K : (Nat → Int64) → Option (Nat → Int64)) : ∀ (d k n : Nat) (g : Nat → Int64), k + d = 76 → d < n → F_X6_takesBack_2 al n K (Int32.ofNat k) g = K (fun j => if k ≤ j ∧ j < 76 then al j else g j) := by
  intro d
  induction d with
  | zero =>
    intro k n g hk hn
    obtain ⟨m, rfl⟩ := fuel_s hn
    rw [F_X6_takesBack_2, if_pos (show (76 : Int32) ≤ Int32.ofNat k from (nLe (a := 76) (b := k) (by decide) (by omega)).mpr (by omega))]
    congr 1
    funext j
    rw [if_neg (by omega)]
  | succ d ih =>
    intro k n g hk hn
    obtain ⟨m, rfl⟩ := fuel_s hn
    rw [F_X6_takesBack_2, if_neg (show ¬ (76 : Int32) ≤ Int32.ofNat k from fun q => by have := (nLe (a := 76) (b := k) (by decide) (by omega)).mp q; omega), ck_i (nIn (by omega) (by omega)), ck_i (nIn (by omega) (by omega)), ltl_s, ltl_s, n1, nN (by omega), ih (k + 1) m _ (by omega) (by omega)]
    congr 1
    funext j
    simp only [uL]
    by_cases h1 : j = k
    · subst h1
      rw [if_neg (by omega), if_pos rfl, if_pos (by omega)]
    · rw [if_neg h1]
      by_cases h2 : k ≤ j ∧ j < 76
      · rw [if_pos (by omega), if_pos h2]
      · rw [if_neg (by omega), if_neg h2]
theorem R_lays (al g : Nat → Int64) : F_X6_lays al g = some (fun j => if j < 76 then al j else g j) := by
  unfold F_X6_lays
  rw [show (0 : Int32) = Int32.ofNat 0 from rfl, L_lays al _ 76 0 1000 g (by decide) (by decide)]
  congr 1
  funext j
  by_cases h : j < 76
  · rw [if_pos ⟨Nat.zero_le _, h⟩, if_pos h]
  · rw [if_neg (fun q => h q.2), if_neg h]
theorem R_takesBack (al g : Nat → Int64) : F_X6_takesBack g al = some (fun j => if j < 76 then al j else g j) := by
  unfold F_X6_takesBack
  rw [show (0 : Int32) = Int32.ofNat 0 from rfl, L_takesBack al _ 76 0 1000 g (by decide) (by decide)]
  congr 1
  funext j
  by_cases h : j < 76
  · rw [if_pos ⟨Nat.zero_le _, h⟩, if_pos h]
  · rw [if_neg (fun q => h q.2), if_neg h]
theorem L_undo (i : Nat) (hi : i < 4) (sv : Nat → Int64) (K : (Nat → Int64) → Option (Int32 × Int32 × Int32 × (Nat → Int64))) : ∀ (d k n : Nat) (g : Nat → Int64), k + d = 76 → d < n → F_X6_undo_34 (Int32.ofNat i) sv n K (Int32.ofNat k) g = K (fun j => if k ≤ j ∧ j < 76 then sv (76 * i + j) else g j) := by
  intro d
  induction d with
  | zero =>
    intro k n g hk hn
    obtain ⟨m, rfl⟩ := fuel_s hn
    rw [F_X6_undo_34, if_pos (show (76 : Int32) ≤ Int32.ofNat k from (nLe (a := 76) (b := k) (by decide) (by omega)).mpr (by omega))]
    congr 1
    funext j
    rw [if_neg (by omega)]
  | succ d ih =>
    intro k n g hk hn
    obtain ⟨m, rfl⟩ := fuel_s hn
    have e : (76 : Int32) * Int32.ofNat i + Int32.ofNat k = Int32.ofNat (76 * i + k) := by
      rw [show (76 : Int32) = Int32.ofNat 76 from rfl, nM, nA]
    rw [F_X6_undo_34, if_neg (show ¬ (76 : Int32) ≤ Int32.ofNat k from fun q => by have := (nLe (a := 76) (b := k) (by decide) (by omega)).mp q; omega), e, ck_i (nIn (by omega) (by omega)), ck_i (nIn (by omega) (by omega)), ltl_s, ltl_s, n1, nN (by omega), nN (by omega), ih (k + 1) m _ (by omega) (by omega)]
    congr 1
    funext j
    simp only [uL]
    by_cases h1 : j = k
    · subst h1
      rw [if_neg (by omega), if_pos rfl, if_pos (by omega)]
    · rw [if_neg h1]
      by_cases h2 : k ≤ j ∧ j < 76
      · rw [if_pos (by omega), if_pos h2]
      · rw [if_neg (by omega), if_neg h2]
theorem L_save50 (x : Int32 × (Nat → Int64)) (i : Nat) (hx : x.1 = Int32.ofNat i) (hi : i < 4) (al : Nat → Int64) (K : (Nat → Int64) → Option (Int32 × (Nat → Int64))) : ∀ (d k n : Nat) (g : Nat → Int64), k + d = 76 → d < n → F_X6_save_50 x al n K (Int32.ofNat k) g = K (fun j => if 76 * i + k ≤ j ∧ j < 76 * i + 76 then al (j - 76 * i) else g j) := by
  intro d
  induction d with
  | zero =>
    intro k n g hk hn
    obtain ⟨m, rfl⟩ := fuel_s hn
    rw [F_X6_save_50, if_pos (show (76 : Int32) ≤ Int32.ofNat k from (nLe (a := 76) (b := k) (by decide) (by omega)).mpr (by omega))]
    congr 1
    funext j
    rw [if_neg (by omega)]
  | succ d ih =>
    intro k n g hk hn
    obtain ⟨m, rfl⟩ := fuel_s hn
    have e : (76 : Int32) * x.1 + Int32.ofNat k = Int32.ofNat (76 * i + k) := by
      rw [hx, show (76 : Int32) = Int32.ofNat 76 from rfl, nM, nA]
    rw [F_X6_save_50, if_neg (show ¬ (76 : Int32) ≤ Int32.ofNat k from fun q => by have := (nLe (a := 76) (b := k) (by decide) (by omega)).mp q; omega), e, ck_i (nIn (by omega) (by omega)), ck_i (nIn (by omega) (by omega)), ltl_s, ltl_s, n1, nN (by omega), nN (by omega), ih (k + 1) m _ (by omega) (by omega)]
    congr 1
    funext j
    simp only [uL]
    by_cases h1 : j = 76 * i + k
    · subst h1
      rw [if_neg (by omega), if_pos rfl, if_pos (by omega), Nat.add_sub_cancel_left]
    · rw [if_neg h1]
      by_cases h2 : 76 * i + k ≤ j ∧ j < 76 * i + 76
      · rw [if_pos (by omega), if_pos h2]
      · rw [if_neg (by omega), if_neg h2]
theorem L_save10 (K : (Nat → Int64) → Option (Int32 × (Nat → Int64))) : ∀ (d k n : Nat) (g : Nat → Int64), k + d = 228 → d < n → F_X6_save_10 n K (Int32.ofNat k) g = K (fun j => if k ≤ j ∧ j < 228 then g (j + 76) else g j) := by
  intro d
  induction d with
  | zero =>
    intro k n g hk hn
    obtain ⟨m, rfl⟩ := fuel_s hn
    rw [F_X6_save_10, if_pos (show (228 : Int32) ≤ Int32.ofNat k from (nLe (a := 228) (b := k) (by decide) (by omega)).mpr (by omega))]
    congr 1
    funext j
    rw [if_neg (by omega)]
  | succ d ih =>
    intro k n g hk hn
    obtain ⟨m, rfl⟩ := fuel_s hn
    have e : Int32.ofNat k + (76 : Int32) = Int32.ofNat (k + 76) := nA k 76
    rw [F_X6_save_10, if_neg (show ¬ (228 : Int32) ≤ Int32.ofNat k from fun q => by have := (nLe (a := 228) (b := k) (by decide) (by omega)).mp q; omega), e, ck_i (nIn (by omega) (by omega)), ck_i (nIn (by omega) (by omega)), ltl_s, ltl_s, n1, nN (by omega), nN (by omega), ih (k + 1) m _ (by omega) (by omega)]
    congr 1
    funext j
    simp only [uL]
    by_cases h1 : j = k
    · subst h1
      rw [if_neg (by omega), if_pos rfl, if_pos (by omega)]
    · by_cases h2 : k ≤ j ∧ j < 228
      · rw [if_pos (by omega), if_pos h2, if_neg (by omega)]
      · rw [if_neg (by omega), if_neg h1, if_neg h2]
theorem L_keeps (K : (Nat → Int64) → Option (Nat → Int64)) : ∀ (d k n : Nat) (g : Nat → Int64), k + d = 74 → d < n → F_X6_keeps_17 n K (Int32.ofNat k) g = K (fun j => if k ≤ j ∧ j < 74 then g (j + 2) else g j) := by
  intro d
  induction d with
  | zero =>
    intro k n g hk hn
    obtain ⟨m, rfl⟩ := fuel_s hn
    rw [F_X6_keeps_17, if_pos (show (74 : Int32) ≤ Int32.ofNat k from (nLe (a := 74) (b := k) (by decide) (by omega)).mpr (by omega))]
    congr 1
    funext j
    rw [if_neg (by omega)]
  | succ d ih =>
    intro k n g hk hn
    obtain ⟨m, rfl⟩ := fuel_s hn
    have e : Int32.ofNat k + (2 : Int32) = Int32.ofNat (k + 2) := nA k 2
    rw [F_X6_keeps_17, if_neg (show ¬ (74 : Int32) ≤ Int32.ofNat k from fun q => by have := (nLe (a := 74) (b := k) (by decide) (by omega)).mp q; omega), e, ck_i (nIn (by omega) (by omega)), ck_i (nIn (by omega) (by omega)), ltl_s, ltl_s, n1, nN (by omega), nN (by omega), ih (k + 1) m _ (by omega) (by omega)]
    congr 1
    funext j
    simp only [uL]
    by_cases h1 : j = k
    · subst h1
      rw [if_neg (by omega), if_pos rfl, if_pos (by omega)]
    · by_cases h2 : k ≤ j ∧ j < 74
      · rw [if_pos (by omega), if_pos h2, if_neg (by omega)]
      · rw [if_neg (by omega), if_neg h1, if_neg h2]
