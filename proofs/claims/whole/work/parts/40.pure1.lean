/-! PURE: arithmetic of both sides -/
theorem ob_s {α β : Type} (o : α) (f : α → Option β) : ob (some o) f = f o := rfl
theorem ltl_s {α β : Type} (x : α) (f : α → Option β) : lt_ x f = f x := rfl
theorem rg_s {α β : Type} (b : (α → Option β) → Option β) (K : α → Option β) : rg b K = b K := rfl
def bd (A : Int) (x : Int64) : Prop := -A ≤ x.toInt ∧ x.toInt ≤ A
theorem bd.le {A B : Int} {x : Int64} (h : bd A x) (hAB : A ≤ B) : bd B x := by unfold bd at *; omega
theorem bmod64 {n : Int} (h1 : -9223372036854775808 ≤ n) (h2 : n < 9223372036854775808) : n.bmod (2 ^ 64) = n := by
  have e : ((2 ^ 64 : Nat) : Int) = 18446744073709551616 := rfl
  exact Int.bmod_eq_of_le_mul_two (by omega) (by omega)
theorem bmod32 {n : Int} (h1 : -2147483648 ≤ n) (h2 : n < 2147483648) : n.bmod (2 ^ 32) = n := by
  have e : ((2 ^ 32 : Nat) : Int) = 4294967296 := rfl
  exact Int.bmod_eq_of_le_mul_two (by omega) (by omega)
theorem i64_lo (x : Int64) : -9223372036854775808 ≤ x.toInt := x.le_toInt
theorem i64_hi (x : Int64) : x.toInt < 9223372036854775808 := x.toInt_lt
theorem i32_lo (x : Int32) : -2147483648 ≤ x.toInt := x.le_toInt
theorem i32_hi (x : Int32) : x.toInt < 2147483648 := x.toInt_lt
theorem i64_add {x y : Int64} {A B : Int} (hx : bd A x) (hy : bd B y) (h : A + B < 9223372036854775808) : (x + y).toInt = x.toInt + y.toInt ∧ bd (A + B) (x + y) := by
  unfold bd at *
  have e : (x + y).toInt = x.toInt + y.toInt := by
    rw [Int64.toInt_add]
    exact bmod64 (by omega) (by omega)
  omega
theorem i64_sub {x y : Int64} {A B : Int} (hx : bd A x) (hy : bd B y) (h : A + B < 9223372036854775808) : (x - y).toInt = x.toInt - y.toInt ∧ bd (A + B) (x - y) := by
  unfold bd at *
  have e : (x - y).toInt = x.toInt - y.toInt := by
    rw [Int64.toInt_sub]
    exact bmod64 (by omega) (by omega)
  omega
theorem i64_neg {x : Int64} {A : Int} (hx : bd A x) (h : A < 9223372036854775808) : (-x).toInt = -x.toInt ∧ bd A (-x) := by
  unfold bd at *
  have e : (-x).toInt = -x.toInt := by
    rw [Int64.toInt_neg]
    exact bmod64 (by omega) (by omega)
  omega
theorem mulbd {a b A B : Int} (ha : -A ≤ a ∧ a ≤ A) (hb : -B ≤ b ∧ b ≤ B) : -(A * B) ≤ a * b ∧ a * b ≤ A * B := by
  have hA : 0 ≤ A := by omega
  have hB : 0 ≤ B := by omega
  obtain ⟨n, rfl⟩ := Int.eq_ofNat_of_zero_le hA
  obtain ⟨k, rfl⟩ := Int.eq_ofNat_of_zero_le hB
  have h1 : a.natAbs ≤ n := by omega
  have h2 : b.natAbs ≤ k := by omega
  have h3 : (a * b).natAbs ≤ n * k := by
    rw [Int.natAbs_mul]
    exact Nat.mul_le_mul h1 h2
  have h4 : ((n * k : Nat) : Int) = (n : Int) * (k : Int) := Int.natCast_mul n k
  rw [← h4]
  omega
theorem i64_mul {x y : Int64} {A B : Int} (hx : bd A x) (hy : bd B y) (h : A * B < 9223372036854775808) : (x * y).toInt = x.toInt * y.toInt ∧ bd (A * B) (x * y) := by
  unfold bd at *
  have hm := mulbd hx hy
  have e : (x * y).toInt = x.toInt * y.toInt := by
    rw [Int64.toInt_mul]
    exact bmod64 (by omega) (by omega)
  rw [e]
  exact ⟨rfl, hm⟩
/-- the quotient rounded down -/
def fl (a b : Int64) : Int64 := Int64.ofInt (a.toInt / b.toInt)
theorem ediv_in {a b : Int} (hb : 0 < b) : (0 ≤ a → 0 ≤ a / b ∧ a / b ≤ a) ∧ (a < 0 → a ≤ a / b ∧ a / b < 0) := by
  refine ⟨fun h => ⟨Int.ediv_nonneg h (by omega), Int.ediv_le_self b h⟩, fun h => ⟨?_, ?_⟩⟩
  · rw [Int.le_ediv_iff_mul_le hb]
    have h1 : a * b ≤ a * 1 := Int.mul_le_mul_of_nonpos_left (by omega) (by omega)
    omega
  · rw [Int.ediv_lt_iff_lt_mul hb]
    omega
theorem fl_int {a b : Int64} (hb : 0 < b.toInt) : (fl a b).toInt = a.toInt / b.toInt := by
  have h := ediv_in (a := a.toInt) hb
  have h1 := i64_lo a
  have h2 := i64_hi a
  refine Int64.toInt_ofInt_of_le ?_ ?_
  · show -9223372036854775808 ≤ _
    rcases Int.lt_or_le a.toInt 0 with q | q
    · have := h.2 q; omega
    · have := h.1 q; omega
  · show _ < 9223372036854775808
    rcases Int.lt_or_le a.toInt 0 with q | q
    · have := h.2 q; omega
    · have := h.1 q; omega
theorem fl_bd {a b : Int64} {A : Int} (hb : 0 < b.toInt) (ha : bd A a) : bd A (fl a b) := by
  unfold bd at *
  rw [fl_int hb]
  have h := ediv_in (a := a.toInt) hb
  rcases Int.lt_or_le a.toInt 0 with q | q
  · have := h.2 q; omega
  · have := h.1 q; omega
theorem floor_int {a b : Int} (hb : 0 < b) : -((-a + b - 1) / b) = a / b := by
  have h := Int.mul_ediv_add_emod a b
  have h1 := Int.emod_nonneg a (by omega : b ≠ 0)
  have h2 := Int.emod_lt_of_pos a hb
  have e : -a + b - 1 = (b - 1 - a % b) + b * (-(a / b)) := by
    rw [Int.mul_neg]
    omega
  rw [e, Int.add_mul_ediv_left _ _ (by omega : b ≠ 0), Int.ediv_eq_zero_of_lt (by omega) (by omega)]
  omega
theorem lt0 (a : Int64) : a < 0 ↔ a.toInt < 0 := Int64.lt_iff_toInt_lt
theorem i64_ne0 {b : Int64} (hb : 0 < b.toInt) : ¬ b = 0 := fun h => by
  rw [h] at hb
  exact absurd hb (by decide)
theorem one_int : (1 : Int64).toInt = 1 := rfl
theorem F_floor {a b : Int64} (hb : 0 < b.toInt) (h : b.toInt - a.toInt ≤ 9223372036854775807) : F_X6_floor a b = some (fl a b) := by
  have hb0 := i64_ne0 hb
  have a1 := i64_lo a
  have a2 := i64_hi a
  have b2 := i64_hi b
  unfold F_X6_floor
  by_cases hn : a < 0
  · rw [if_pos hn, ck_i hb0]
    have hn' := (lt0 a).mp hn
    congr 1
    rw [← Int64.toInt_inj, fl_int hb, ← floor_int hb]
    have e1 : (-a).toInt = -a.toInt := by
      rw [Int64.toInt_neg]
      exact bmod64 (by omega) (by omega)
    have e2 : (-a + b).toInt = -a.toInt + b.toInt := by
      rw [Int64.toInt_add, e1]
      exact bmod64 (by omega) (by omega)
    have e3 : (-a + b - 1).toInt = -a.toInt + b.toInt - 1 := by
      rw [Int64.toInt_sub, e2, one_int]
      exact bmod64 (by omega) (by omega)
    have hq := (ediv_in (a := -a.toInt + b.toInt - 1) hb).1 (by omega)
    have e4 : ((-a + b - 1) / b).toInt = (-a.toInt + b.toInt - 1) / b.toInt := by
      rw [Int64.toInt_div, e3, Int.tdiv_eq_ediv_of_nonneg (by omega)]
      exact bmod64 (by omega) (by omega)
    rw [Int64.toInt_neg, e4]
    exact bmod64 (by omega) (by omega)
  · rw [if_neg hn, ck_i hb0]
    have hn' : 0 ≤ a.toInt := by
      have := (not_congr (lt0 a)).mp hn
      omega
    congr 1
    rw [← Int64.toInt_inj, fl_int hb, Int64.toInt_div, Int.tdiv_eq_ediv_of_nonneg hn']
    have hq := (ediv_in (a := a.toInt) hb).1 hn'
    exact bmod64 (by omega) (by omega)
theorem xor_neg {a b : Int64} (hb : 0 < b.toInt) : (a ^^^ b) < 0 ↔ a < 0 := by
  have key : ∀ x : Int64, x < 0 ↔ x.toBitVec.msb = true := fun x => by
    rw [lt0, Int64.toInt]
    rw [BitVec.msb_eq_toInt, decide_eq_true_iff]
  have hb0 : b.toBitVec.msb = false := by
    cases hm : b.toBitVec.msb with
    | false => rfl
    | true =>
      have := (lt0 b).mp ((key b).mpr hm)
      omega
  rw [key, key, Int64.toBitVec_xor, BitVec.msb_xor, hb0, Bool.xor_false]
theorem F_floorDiv {a b : Int64} (hb : 0 < b.toInt) : F_J9_floorDiv_f86c9 a b = some (fl a b) := by
  have hb0 := i64_ne0 hb
  have a1 := i64_lo a
  have a2 := i64_hi a
  have b2 := i64_hi b
  unfold F_J9_floorDiv_f86c9
  rw [ck_i hb0, ltl_s]
  have hd := Int.mul_ediv_add_emod a.toInt b.toInt
  have h1 := Int.emod_nonneg a.toInt (by omega : b.toInt ≠ 0)
  have h2 := Int.emod_lt_of_pos a.toInt hb
  by_cases hn : a < 0
  · rw [if_pos ((xor_neg hb).mpr hn)]
    have hn' := (lt0 a).mp hn
    have hq := (ediv_in (a := a.toInt) hb).2 hn'
    by_cases hdv : b.toInt ∣ a.toInt
    · have e0 : a.toInt % b.toInt = 0 := Int.emod_eq_zero_of_dvd hdv
      have e1 : a.toInt.tdiv b.toInt = a.toInt / b.toInt := by
        rw [Int.tdiv_eq_ediv, if_pos (Or.inr hdv)]
        omega
      have e2 : (a / b).toInt = a.toInt / b.toInt := by
        rw [Int64.toInt_div, e1]
        exact bmod64 (by omega) (by omega)
      have e3 : a / b * b = a := by
        rw [← Int64.toInt_inj, Int64.toInt_mul, e2, Int.mul_comm]
        rw [show b.toInt * (a.toInt / b.toInt) = a.toInt by omega]
        exact bmod64 (by omega) (by omega)
      rw [if_pos e3]
      congr 1
      rw [← Int64.toInt_inj, fl_int hb, e2]
    · have e0 : 0 < a.toInt % b.toInt := by
        rcases Int.lt_or_le 0 (a.toInt % b.toInt) with q | q
        · exact q
        · exact absurd (Int.dvd_of_emod_eq_zero (by omega)) hdv
      have e1 : a.toInt.tdiv b.toInt = a.toInt / b.toInt + 1 := by
        rw [Int.tdiv_eq_ediv, if_neg (fun q => q.elim (fun q => by omega) (fun q => hdv q)), Int.sign_eq_one_of_pos hb]
      have e2 : (a / b).toInt = a.toInt / b.toInt + 1 := by
        rw [Int64.toInt_div, e1]
        exact bmod64 (by omega) (by omega)
      have e3 : ¬ a / b * b = a := by
        intro q
        rw [← Int64.toInt_inj, Int64.toInt_mul, e2, Int.mul_comm, Int.mul_add, Int.mul_one] at q
        rw [bmod64 (by omega) (by omega)] at q
        omega
      rw [if_neg e3]
      congr 1
      rw [← Int64.toInt_inj, fl_int hb, Int64.toInt_sub, e2, one_int]
      rw [show a.toInt / b.toInt + 1 - 1 = a.toInt / b.toInt by omega]
      exact bmod64 (by omega) (by omega)
  · rw [if_neg (fun q => hn ((xor_neg hb).mp q))]
    have hn' : 0 ≤ a.toInt := by
      have := (not_congr (lt0 a)).mp hn
      omega
    congr 1
    rw [← Int64.toInt_inj, fl_int hb, Int64.toInt_div, Int.tdiv_eq_ediv_of_nonneg hn']
    have hq := (ediv_in (a := a.toInt) hb).1 hn'
    exact bmod64 (by omega) (by omega)
theorem gt0 (b : Int64) : 0 < b ↔ 0 < b.toInt := Int64.lt_iff_toInt_lt
theorem F_divideDown {a b : Int64} (hb : 0 < b.toInt) : F_X5_divideDown a b = some (fl a b) := by
  unfold F_X5_divideDown
  rw [if_pos ((gt0 b).mpr hb), F_floorDiv hb, ob_s]
def wi (x lo hi : Int64) : Int64 := if x < lo then lo else if hi < x then hi else x
theorem F_within (x lo hi : Int64) : F_X6_within x lo hi = some (wi x lo hi) := by
  unfold F_X6_within wi
  split
  · rfl
  · split <;> rfl
theorem F_bring (x lo hi : Int64) : F_X5_bring x lo hi = some (wi x lo hi) := by
  unfold F_X5_bring wi
  split
  · rfl
  · split <;> rfl
theorem wi_in {x lo hi : Int64} (h : lo.toInt ≤ hi.toInt) : lo.toInt ≤ (wi x lo hi).toInt ∧ (wi x lo hi).toInt ≤ hi.toInt := by
  unfold wi
  split
  · omega
  · rename_i h1
    rw [Int64.lt_iff_toInt_lt] at h1
    split
    · omega
    · rename_i h2
      rw [Int64.lt_iff_toInt_lt] at h2
      omega
theorem F_in (v lo hi : Int64) : F_X6_in v lo hi = some (if lo ≤ v ∧ v ≤ hi then 1 else 0) := by
  unfold F_X6_in
  by_cases h1 : v < lo
  · rw [if_pos h1, if_neg (fun q => by rw [Int64.lt_iff_toInt_lt] at h1; have := Int64.le_iff_toInt_le.mp q.1; omega)]
  · rw [if_neg h1]
    by_cases h2 : hi < v
    · rw [if_pos h2, if_neg (fun q => by rw [Int64.lt_iff_toInt_lt] at h2; have := Int64.le_iff_toInt_le.mp q.2; omega)]
    · rw [if_neg h2, if_pos ⟨Int64.le_iff_toInt_le.mpr (by rw [Int64.lt_iff_toInt_lt] at h1; omega), Int64.le_iff_toInt_le.mpr (by rw [Int64.lt_iff_toInt_lt] at h2; omega)⟩]
theorem F_isWithin (v lo hi : Int32) : F_X5_isWithin v lo hi = some (if lo ≤ v ∧ v ≤ hi then 1 else 0) := by
  unfold F_X5_isWithin
  by_cases h1 : v < lo
  · rw [if_pos h1, if_neg (fun q => by rw [Int32.lt_iff_toInt_lt] at h1; have := Int32.le_iff_toInt_le.mp q.1; omega)]
  · rw [if_neg h1]
    by_cases h2 : hi < v
    · rw [if_pos h2, if_neg (fun q => by rw [Int32.lt_iff_toInt_lt] at h2; have := Int32.le_iff_toInt_le.mp q.2; omega)]
    · rw [if_neg h2, if_pos ⟨Int32.le_iff_toInt_le.mpr (by rw [Int32.lt_iff_toInt_lt] at h1; omega), Int32.le_iff_toInt_le.mpr (by rw [Int32.lt_iff_toInt_lt] at h2; omega)⟩]
