/-! PURE: a sample on both sides: the window -/
theorem t64 (x : Int32) : x.toInt64.toInt = x.toInt := Int32.toInt_toInt64 x
theorem t32 {x : Int64} (h1 : -2147483648 ≤ x.toInt) (h2 : x.toInt < 2147483648) : x.toInt32.toInt = x.toInt := by
  rw [Int64.toInt_toInt32]
  exact bmod32 h1 h2
theorem t3264 {x : Int64} (h1 : -2147483648 ≤ x.toInt) (h2 : x.toInt < 2147483648) : x.toInt32.toInt64 = x := by
  rw [← Int64.toInt_inj, t64, t32 h1 h2]
theorem i32_ofNat {x : Int32} {n : Nat} (hn : n < 2147483648) (h : x.toInt = n) : x = Int32.ofNat n := by
  rw [← Int32.toInt_inj, Int32.toInt_ofNat_of_lt hn, h]
theorem i64_eq {x y : Int64} (h : x.toInt = y.toInt) : x = y := Int64.toInt_inj.mp h
theorem inc64 {x : Int64} (h1 : 0 ≤ x.toInt) (h2 : x.toInt < 2147483648) : (x + 1).toInt = x.toInt + 1 := by
  rw [Int64.toInt_add, one_int]
  exact bmod64 (by omega) (by omega)
theorem inc32 {x : Int32} (h1 : 0 ≤ x.toInt) (h2 : x.toInt < 2147483647) : (x + 1).toInt = x.toInt + 1 := by
  rw [Int32.toInt_add, show (1 : Int32).toInt = 1 from rfl]
  exact bmod32 (by omega) (by omega)
theorem R_kept {f : Nat → Int64} {n : Nat} (hn : n ≤ 20) (h : (n : Int) = min (f 25).toInt 20) : F_X6_kept f = some (Int32.ofNat n) := by
  have e20 : (20 : Int64).toInt = 20 := rfl
  unfold F_X6_kept
  by_cases h1 : f 25 < 20
  · rw [if_pos h1]
    rw [Int64.lt_iff_toInt_lt, e20] at h1
    congr 1
    apply i32_ofNat (by omega)
    rw [t32 (by omega) (by omega)]
    omega
  · rw [if_neg h1]
    rw [Int64.lt_iff_toInt_lt, e20] at h1
    have : n = 20 := by omega
    subst this
    rfl
theorem C_add (Hd : Int32) (Wo Wi : Nat → Int32) (y u : Int32) : F_X4_add Hd Wo Wi y u = some (if (20 : Int32) < Hd + 1 then 20 else Hd + 1, upd (va_cpy Wo Wo 0 1 19) 0 y, upd (va_cpy Wi Wi 0 1 19) 0 u) := rfl
theorem cpsq {α : Type} (f g : Nat → α) (sp dp n k : Nat) : va_cpy f g sp dp n k = if dp ≤ k ∧ k < dp + n then f (sp + (k - dp)) else g k := rfl
theorem B_keeps {Hd : Int32} {Wo Wi : Nat → Int32} {f : Nat → Int64} (h : RW Hd Wo Wi f) (h25 : (f 25).toInt < 2147483647) (y u : Int32) : ∃ (g : Nat → Int64) (Hd1 : Int32) (Wo1 Wi1 : Nat → Int32), F_X6_keeps f y.toInt64 u.toInt64 = some g ∧ F_X4_add Hd Wo Wi y u = some (Hd1, Wo1, Wi1) ∧ (∀ j, j < 36 → g j = f j) ∧ ∀ g1 : Nat → Int64, (∀ j, 36 ≤ j → j < 76 → g1 j = g j) → g1 25 = f 25 + 1 → RW Hd1 Wo1 Wi1 g1 := by
  obtain ⟨n, hn, hH, hm_, hw⟩ := h
  have hcnt : (f 25 + 1).toInt = (f 25).toInt + 1 := inc64 (by omega) (by omega)
  rcases Nat.lt_or_ge n 20 with h20 | h20
  · refine ⟨vp_updL (vp_updL f (36 + 2 * n) y.toInt64) (37 + 2 * n) u.toInt64, _, _, _, ?_, C_add Hd Wo Wi y u, fun j hj => ?_, fun g1 hg h1 => ?_⟩
    · unfold F_X6_keeps
      have e1_ : (36 : Int32) + 2 * Int32.ofNat n = Int32.ofNat (36 + 2 * n) := by
        rw [show (36 : Int32) = Int32.ofNat 36 from rfl, show (2 : Int32) = Int32.ofNat 2 from rfl, nM, nA]
      rw [R_kept hn hm_, ob_s, rg_s, if_neg (fun q => by have := (nEq (a := n) (b := 20) (by omega) (by decide)).mp q; omega)]
      show ck (inb ((36 : Int32) + 2 * Int32.ofNat n) 76) _ = _
      rw [e1_, ck_i (nIn (by omega) (by omega)), ltl_s, n1, ck_i (nIn (by omega) (by omega)), ltl_s, nN (by omega), nN (by omega)]
      rw [show 36 + 2 * n + 1 = 37 + 2 * n by omega]
    · rw [uL, uL, if_neg (by omega), if_neg (by omega)]
    · refine ⟨n + 1, by omega, ?_, by rw [h1]; omega, fun k hk => ?_⟩
      · rw [hH, n1, if_neg (fun q => by have := (nLt (a := 20) (b := n + 1) (by decide) (by omega)).mp q; omega)]
      · rw [hg _ (by omega) (by omega), hg _ (by omega) (by omega), uL, uL, uL, uL]
        by_cases hk2 : k = n
        · subst hk2
          rw [if_neg (by omega), if_pos rfl, if_pos rfl, show k + 1 - 1 - k = 0 by omega]
          exact ⟨rfl, rfl⟩
        · have hk3 : k < n := by omega
          rw [if_neg (by omega), if_neg (by omega), if_neg (by omega), if_neg (by omega), uI, uI, if_neg (by omega), if_neg (by omega), cpsq, cpsq, if_pos (by omega), if_pos (by omega), show 0 + (n + 1 - 1 - k - 1) = n - 1 - k by omega]
          exact hw k hk3
  · have : n = 20 := by omega
    subst this
    refine ⟨vp_updL (vp_updL (fun j => if 36 ≤ j ∧ j < 74 then f (j + 2) else f j) 74 y.toInt64) 75 u.toInt64, _, _, _, ?_, C_add Hd Wo Wi y u, fun j hj => ?_, fun g1 hg h1 => ?_⟩
    · unfold F_X6_keeps
      rw [R_kept hn hm_, ob_s, rg_s, if_pos (show Int32.ofNat 20 = 20 from rfl)]
      refine (L_keeps _ 38 36 1000 f (by decide) (by decide)).trans ?_
      rw [ltl_s]
      try dsimp only
      rw [ck_i (by decide), ltl_s, ck_i (by decide), ltl_s]
      rfl
    · rw [uL, uL, if_neg (by omega), if_neg (by omega), if_neg (by omega)]
    · have v : ∀ j, 36 ≤ j → j < 74 → vp_updL (vp_updL (fun j => if 36 ≤ j ∧ j < 74 then f (j + 2) else f j) 74 y.toInt64) 75 u.toInt64 j = f (j + 2) := fun j a b => by
        rw [uL, uL, if_neg (by omega), if_neg (by omega)]
        exact if_pos ⟨a, b⟩
      refine ⟨20, by omega, ?_, by rw [h1]; omega, fun k hk => ?_⟩
      · rw [hH]
        rfl
      · rw [hg _ (by omega) (by omega), hg _ (by omega) (by omega)]
        by_cases hk2 : k = 19
        · subst hk2
          exact ⟨rfl, rfl⟩
        · rw [v _ (by omega) (by omega), v _ (by omega) (by omega), uI, uI, if_neg (by omega), if_neg (by omega), cpsq, cpsq, if_pos (by omega), if_pos (by omega), show 0 + (20 - 1 - k - 1) = 20 - 1 - (k + 1) by omega, show 36 + 2 * k + 2 = 36 + 2 * (k + 1) by omega, show 37 + 2 * k + 2 = 37 + 2 * (k + 1) by omega]
          exact hw (k + 1) (by omega)
