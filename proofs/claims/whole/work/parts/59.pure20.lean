/-! PURE: the text -/
def RTq (yTl : Int32) (Tb_ : Nat → Int32) (sTl : Int32) (sTx : Nat → Int32) : Prop := ∃ t : Nat, t ≤ 120 ∧ yTl = Int32.ofNat t ∧ sTl = Int32.ofNat t ∧ ∀ j, j < t → Tb_ j = sTx j
theorem nar_byte : ∀ n : Fin 128, vp_nar .byte (Int32.ofNat n.val).toInt8.toInt32 = Int32.ofNat n.val := by decide +kernel
theorem B_append {yTl sTl : Int32} {Tb_ sTx : Nat → Int32} (hT_ : RTq yTl Tb_ sTl sTx) (w : Int32) :
    (F_X5_append yTl Tb_ w = some (.inr xIAE) ∧ F_X6_append sTl sTx w = some (0, 1, sTl, sTx)) ∨
    (F_X5_append yTl Tb_ w = some (.inr xISE) ∧ F_X6_append sTl sTx w = some (0, 2, sTl, sTx)) ∨
    ∃ (v yTl1 sTl1 : Int32) (Tb1 sTx1 : Nat → Int32), F_X5_append yTl Tb_ w = some (.inl (v, yTl1, Tb1)) ∧ F_X6_append sTl sTx w = some (v, 0, sTl1, sTx1) ∧ RTq yTl1 Tb1 sTl1 sTx1 := by
  obtain ⟨t, ht, rfl, rfl, hj⟩ := hT_
  unfold F_X5_append F_X2_addIfRoom F_X6_append
  by_cases r : 0 ≤ w.toInt ∧ w.toInt ≤ 127
  · right
    obtain ⟨k, hk, rfl⟩ := i32_nat (m := 127) r.1 r.2 (by decide)
    rw [X5_rg1 (l := 0) (h := 127) rfl rfl r, obx_v, X6_in1 (l := 0) (h := 127) rfl rfl r, ob_s, rg_ite]
    by_cases h : t < 120
    · right
      rw [if_pos (show Int32.ofNat t < (120 : Int32) from (nLt (a := t) (b := 120) (by omega) (by omega)).mpr h), if_neg (show ¬ (120 : Int32) ≤ Int32.ofNat t from fun z => by have := (nLe (a := 120) (b := t) (by omega) (by omega)).mp z; omega), X6_g1, ob_s, ck_i (nIn (by omega) (by omega)), ltl_s, ltl_s, ob_s]
      try dsimp only
      rw [iif1, iif1, ck_i (nIn (by omega) (by omega)), ltl_s, ltl_s, nN (by omega), n1, nar_byte ⟨k, by omega⟩]
      refine ⟨_, _, _, _, _, rfl, rfl, t + 1, by omega, rfl, rfl, fun j hj1 => ?_⟩
      rw [uI, uI]
      by_cases hj2 : j = t
      · rw [if_pos hj2, if_pos hj2]
      · rw [if_neg hj2, if_neg hj2]
        exact hj j (by omega)
    · left
      rw [if_neg (show ¬ Int32.ofNat t < (120 : Int32) from fun z => by have := (nLt (a := t) (b := 120) (by omega) (by omega)).mp z; omega), if_pos (show (120 : Int32) ≤ Int32.ofNat t from (nLe (a := 120) (b := t) (by omega) (by omega)).mpr (by omega)), X6_g2, ob_s, ob_s]
      try dsimp only
      rw [iif0, iif0, ckc_i ⟨rfl, rfl⟩]
      exact ⟨rfl, rfl⟩
  · left
    rw [X5_rg0 (l := 0) (h := 127) rfl rfl r, obx_r, X6_in0 (l := 0) (h := 127) rfl rfl r, ob_s, rg_ite, X6_g0, ob_s]
    exact ⟨rfl, rfl⟩
section TX
variable {t : Nat} {Tb_ sTx : Nat → Int32}
/-- a sign read, on both sides -/
theorem B_sign (ht : t ≤ 120) (hj : ∀ j, j < t → Tb_ j = sTx j) {c : Int32} (hc_ : ¬ (-1 : Int32) = c) {p : Nat} (hp : p ≤ t) : (p < t ∧ sTx p = c ∧ F_X2_readSign (Int32.ofNat t) (Int32.ofNat p) Tb_ c = some (1, Int32.ofNat (p + 1)) ∧ F_X6_passes (Int32.ofNat t) (Int32.ofNat p) sTx c = some (1, Int32.ofNat (p + 1))) ∨ (F_X2_readSign (Int32.ofNat t) (Int32.ofNat p) Tb_ c = some (0, Int32.ofNat p) ∧ F_X6_passes (Int32.ofNat t) (Int32.ofNat p) sTx c = some (0, Int32.ofNat p)) := by
  by_cases h : p < t
  · have h1 : ¬ Int32.ofNat t ≤ Int32.ofNat p := fun z => by have := (nLe (a := t) (b := p) (by omega) (by omega)).mp z; omega
    by_cases h2 : sTx p = c
    · left
      refine ⟨h, h2, ?_, ?_⟩
      · unfold F_X2_readSign F_X2_next
        rw [if_neg h1, ck_i (nIn (by omega) (by omega)), ob_s, nN (by omega), hj p h, if_pos h2, ltl_s, n1]
      · unfold F_X6_passes
        rw [rg_s, if_neg h1, ck_i (nIn (by omega) (by omega)), nN (by omega), if_pos h2]
        try dsimp only
        rw [rg_s, iif1]
        try dsimp only
        rw [ltl_s, ck_i (Or.inr rfl), n1]
    · right
      refine ⟨?_, ?_⟩
      · unfold F_X2_readSign F_X2_next
        rw [if_neg h1, ck_i (nIn (by omega) (by omega)), ob_s, nN (by omega), hj p h, if_neg h2]
      · unfold F_X6_passes
        rw [rg_s, if_neg h1, ck_i (nIn (by omega) (by omega)), nN (by omega), if_neg h2]
        try dsimp only
        rw [rg_s, iif0]
        try dsimp only
        rw [ltl_s, ck_i (Or.inl rfl), Int32.add_zero]
  · right
    have h1 : Int32.ofNat t ≤ Int32.ofNat p := (nLe (by omega) (by omega)).mpr (by omega)
    refine ⟨?_, ?_⟩
    · unfold F_X2_readSign F_X2_next
      rw [if_pos h1, ob_s, if_neg hc_]
    · unfold F_X6_passes
      rw [rg_s, if_pos h1]
      try dsimp only
      rw [rg_s, iif0]
      try dsimp only
      rw [ltl_s, ck_i (Or.inl rfl), Int32.add_zero]
theorem F_isW (v lo hi : Int32) {l h : Int} (el : lo.toInt = l) (eh : hi.toInt = h) : F_X5_isWithin v lo hi = some (if l ≤ v.toInt ∧ v.toInt ≤ h then 1 else 0) := by
  rw [F_isWithin]
  by_cases q : l ≤ v.toInt ∧ v.toInt ≤ h
  · rw [if_pos q, if_pos ⟨Int32.le_iff_toInt_le.mpr (by omega), Int32.le_iff_toInt_le.mpr (by omega)⟩]
  · rw [if_neg q, if_neg (fun z => q ⟨by have := Int32.le_iff_toInt_le.mp z.1; omega, by have := Int32.le_iff_toInt_le.mp z.2; omega⟩)]
theorem R_fig (ht : t ≤ 120) {p : Nat} (hp : p ≤ t) : F_X6_isFigure (Int32.ofNat t) (Int32.ofNat p) sTx = some (if p < t ∧ (48 ≤ (sTx p).toInt ∧ (sTx p).toInt ≤ 57) then 1 else 0) := by
  unfold F_X6_isFigure
  by_cases h : p < t
  · have h1 : ¬ Int32.ofNat t ≤ Int32.ofNat p := fun z => by have := (nLe (a := t) (b := p) (by omega) (by omega)).mp z; omega
    rw [if_neg h1, ck_i (nIn (by omega) (by omega)), nN (by omega)]
    by_cases q : 48 ≤ (sTx p).toInt ∧ (sTx p).toInt ≤ 57
    · rw [X6_in1 (l := 48) (h := 57) rfl rfl q, ob_s, iif1, if_pos ⟨h, q⟩]
    · rw [X6_in0 (l := 48) (h := 57) rfl rfl q, ob_s, iif0, if_neg (fun z => q z.2)]
  · have h1 : Int32.ofNat t ≤ Int32.ofNat p := (nLe (by omega) (by omega)).mpr (by omega)
    rw [if_pos h1, if_neg (fun z => h z.1)]
theorem C_fig (ht : t ≤ 120) (hj : ∀ j, j < t → Tb_ j = sTx j) {p : Nat} (hp : p ≤ t) : ∃ v : Int32, F_X2_next (Int32.ofNat t) (Int32.ofNat p) Tb_ = some v ∧ (p < t → v = sTx p) ∧ F_X5_isWithin v 48 57 = some (if p < t ∧ (48 ≤ (sTx p).toInt ∧ (sTx p).toInt ≤ 57) then 1 else 0) := by
  unfold F_X2_next
  by_cases h : p < t
  · have h1 : ¬ Int32.ofNat t ≤ Int32.ofNat p := fun z => by have := (nLe (a := t) (b := p) (by omega) (by omega)).mp z; omega
    refine ⟨sTx p, ?_, fun _ => rfl, ?_⟩
    · rw [if_neg h1, ck_i (nIn (by omega) (by omega)), nN (by omega), hj p h]
    · rw [F_isW (l := 48) (h := 57) _ _ _ rfl rfl]
      by_cases q : 48 ≤ (sTx p).toInt ∧ (sTx p).toInt ≤ 57
      · rw [if_pos q, if_pos ⟨h, q⟩]
      · rw [if_neg q, if_neg (fun z => q z.2)]
  · have h1 : Int32.ofNat t ≤ Int32.ofNat p := (nLe (by omega) (by omega)).mpr (by omega)
    refine ⟨-1, ?_, fun z => absurd z h, ?_⟩
    · rw [if_pos h1]
    · rw [F_isW (l := 48) (h := 57) _ _ _ rfl rfl, if_neg (by decide), if_neg (fun z => h z.1)]
/-- the digits, on both sides -/
theorem B_digits (ht : t ≤ 120) (hj : ∀ j, j < t → Tb_ j = sTx j) (b : Nat) (o : Int32) : ∀ (d k n m : Nat) (v : Int32), k + d = 4 → b + k ≤ t → d < n → d < m →
    ∃ (k1 : Nat) (v1 : Int32), k ≤ k1 ∧ b + k1 ≤ t ∧ (∀ K, F_X2_readNumber_12 (Int32.ofNat t) Tb_ m K (Int32.ofNat k) v (Int32.ofNat (b + k)) = K (Int32.ofNat k1, v1, Int32.ofNat (b + k1))) ∧ ∀ K, F_X6_readsNumber_15 (Int32.ofNat t) sTx (o, Int32.ofNat b) n K v (Int32.ofNat (b + k)) = K (v1, Int32.ofNat (b + k1)) := by
  intro d
  induction d with
  | zero =>
    intro k n m v hk hb hn hm_
    obtain ⟨n', rfl⟩ := fuel_s hn
    obtain ⟨m', rfl⟩ := fuel_s hm_
    have e : k = 4 := by omega
    subst e
    refine ⟨4, v, by omega, hb, fun K => ?_, fun K => ?_⟩
    · rw [F_X2_readNumber_12, if_pos (by decide)]
    · rw [F_X6_readsNumber_15, R_fig ht hb, ob_s]
      by_cases q : b + 4 < t ∧ (48 ≤ (sTx (b + 4)).toInt ∧ (sTx (b + 4)).toInt ≤ 57)
      · rw [if_pos q, iif1, if_pos (show Int32.ofNat b + 4 ≤ Int32.ofNat (b + 4) by rw [show (4 : Int32) = Int32.ofNat 4 from rfl, nA]; exact (nLe (by omega) (by omega)).mpr (Nat.le_refl _))]
      · rw [if_neg q, iif0]
  | succ d ih_ =>
    intro k n m v hk hb hn hm_
    obtain ⟨n', rfl⟩ := fuel_s hn
    obtain ⟨m', rfl⟩ := fuel_s hm_
    obtain ⟨w, w1, w2, w3⟩ := C_fig ht hj hb
    have k4 : ¬ (4 : Int32) ≤ Int32.ofNat k := fun z => by have := (nLe (a := 4) (b := k) (by omega) (by omega)).mp z; omega
    by_cases q : b + k < t ∧ (48 ≤ (sTx (b + k)).toInt ∧ (sTx (b + k)).toInt ≤ 57)
    · obtain ⟨k1, v1, i0_, i1_, i2, i3⟩ := ih_ (k + 1) n' m' (10 * v + sTx (b + k) - 48) (by omega) (by omega) (by omega) (by omega)
      rw [if_pos q] at w3
      refine ⟨k1, v1, by omega, i1_, fun K => ?_, fun K => ?_⟩
      · rw [F_X2_readNumber_12, if_neg k4, w1, ob_s, w3, ob_s, iif1, ob_s, ltl_s, ltl_s, ltl_s, w2 q.1, n1, n1]
        exact i2 K
      · rw [F_X6_readsNumber_15, R_fig ht hb, ob_s, if_pos q, iif1]
        try dsimp only
        rw [if_neg (show ¬ Int32.ofNat b + 4 ≤ Int32.ofNat (b + k) by rw [show (4 : Int32) = Int32.ofNat 4 from rfl, nA]; exact fun z => by have := (nLe (a := b + 4) (b := b + k) (by omega) (by omega)).mp z; omega), ck_i (nIn (by omega) (by omega)), ltl_s, ltl_s, nN (by omega), n1]
        exact i3 K
    · rw [if_neg q] at w3
      refine ⟨k, v, by omega, hb, fun K => ?_, fun K => ?_⟩
      · rw [F_X2_readNumber_12, if_neg k4, w1, ob_s, w3, ob_s, iif0]
      · rw [F_X6_readsNumber_15, R_fig ht hb, ob_s, if_neg q, iif0]
/-- a number and what ends it, on both sides -/
theorem B_num (ht : t ≤ 120) (hj : ∀ j, j < t → Tb_ j = sTx j) {p q : Nat} (hp : p ≤ t) (hq : q < 60) {c : Int32} (hc_ : c = if Int32.ofNat q - Int32.ofNat q / 3 * 3 = 2 then 59 else 44) (Tn sRd : Nat → Int32) :
    ∃ (val : Int32) (p1 : Nat), p ≤ p1 ∧ p1 ≤ t ∧
      ((F_X2_readNumber (Int32.ofNat t) (Int32.ofNat p) Tb_ Tn (Int32.ofNat q) = some (0, Int32.ofNat p1, upd Tn q val) ∧ F_X6_readsNumber (Int32.ofNat t) (Int32.ofNat p) sTx sRd (Int32.ofNat q) = some (0, Int32.ofNat p1, upd sRd q val)) ∨
      (F_X2_readNumber (Int32.ofNat t) (Int32.ofNat p) Tb_ Tn (Int32.ofNat q) = some (1, Int32.ofNat p1, upd Tn q val) ∧
        ((F_X2_readSign (Int32.ofNat t) (Int32.ofNat p1) Tb_ c = some (0, Int32.ofNat p1) ∧ F_X6_readsNumber (Int32.ofNat t) (Int32.ofNat p) sTx sRd (Int32.ofNat q) = some (0, Int32.ofNat p1, upd sRd q val)) ∨
        (p + 1 ≤ p1 ∧ p1 + 1 ≤ t ∧ F_X2_readSign (Int32.ofNat t) (Int32.ofNat p1) Tb_ c = some (1, Int32.ofNat (p1 + 1)) ∧ F_X6_readsNumber (Int32.ofNat t) (Int32.ofNat p) sTx sRd (Int32.ofNat q) = some (1, Int32.ofNat (p1 + 1), upd sRd q val))))) := by
  have hc1 : ¬ (-1 : Int32) = c := by
    rw [hc_]
    split <;> decide
  have hc2 : ¬ (48 ≤ c.toInt ∧ c.toInt ≤ 57) := by
    rw [hc_]
    split <;> decide
  -- the sign, the digits
  obtain ⟨sg, b, hb, hbt, g1, g2⟩ : ∃ (sg : Int32) (b : Nat), p ≤ b ∧ b ≤ t ∧ F_X2_readSign (Int32.ofNat t) (Int32.ofNat p) Tb_ 45 = some (sg, Int32.ofNat b) ∧ F_X6_passes (Int32.ofNat t) (Int32.ofNat p) sTx 45 = some (sg, Int32.ofNat b) := by
    rcases B_sign ht hj (c := 45) (by decide) hp with ⟨h1, -, h2, h3⟩ | ⟨h2, h3⟩
    · exact ⟨1, p + 1, by omega, by omega, h2, h3⟩
    · exact ⟨0, p, by omega, hp, h2, h3⟩
  obtain ⟨k, v, -, hk, e1_, e2_⟩ := B_digits ht hj b sg 4 0 1000 1000 0 (by omega) (by omega) (by omega) (by omega)
  have e1' : ∀ K, F_X2_readNumber_12 (Int32.ofNat t) Tb_ 1000 K 0 0 (Int32.ofNat b) = K (Int32.ofNat k, v, Int32.ofNat (b + k)) := e1_
  have e2' : ∀ K, F_X6_readsNumber_15 (Int32.ofNat t) sTx (sg, Int32.ofNat b) 1000 K 0 (Int32.ofNat b) = K (v, Int32.ofNat (b + k)) := e2_
  have hC : F_X2_readNumber (Int32.ofNat t) (Int32.ofNat p) Tb_ Tn (Int32.ofNat q) = some (if Int32.ofNat k ≤ 0 then 0 else 1, Int32.ofNat (b + k), upd Tn q (if sg = 0 then v else -v)) := by
    unfold F_X2_readNumber
    rw [g1, ob_s]
    try dsimp only
    rw [e1']
    try dsimp only
    rw [rg_ite, ck_i (nIn (by omega) (by omega)), ltl_s, nN (by omega)]
    by_cases h : Int32.ofNat k ≤ 0
    · rw [if_pos h, if_pos h]
    · rw [if_neg h, if_neg h]
  have hR : F_X6_readsNumber (Int32.ofNat t) (Int32.ofNat p) sTx sRd (Int32.ofNat q) = if Int32.ofNat (b + k) ≤ Int32.ofNat b then some ((0 : Int32), Int32.ofNat (b + k), upd sRd q (if sg = 0 then v else -v)) else ob (F_X6_isFigure (Int32.ofNat t) (Int32.ofNat (b + k)) sTx) (fun o19 => if o19 = 0 then ob (F_X6_passes (Int32.ofNat t) (Int32.ofNat (b + k)) sTx c) (fun o24 => if o24.1 = 0 then some ((0 : Int32), o24.2, upd sRd q (if sg = 0 then v else -v)) else some ((1 : Int32), o24.2, upd sRd q (if sg = 0 then v else -v))) else some ((0 : Int32), Int32.ofNat (b + k), upd sRd q (if sg = 0 then v else -v))) := by
    unfold F_X6_readsNumber
    rw [g2, ob_s, e2']
    try dsimp only
    rw [rg_ite, ck_i (nIn (by omega) (by omega)), ltl_s, nN (by omega), hc_]
    by_cases h : Int32.ofNat (b + k) ≤ Int32.ofNat b
    · rw [if_pos h, if_pos h]
    · rw [if_neg h, if_neg h]
      refine congrArg (ob _) (funext fun o19 => ?_)
      by_cases h0 : o19 = 0
      · rw [if_pos h0, if_pos h0, rg_ite]
      · rw [if_neg h0, if_neg h0]
  refine ⟨if sg = 0 then v else -v, b + k, by omega, hk, ?_⟩
  by_cases h0 : k = 0
  · left
    subst h0
    rw [hC, hR, if_pos (by decide), if_pos ((nLe (by omega) (by omega)).mpr (by omega))]
    exact ⟨rfl, rfl⟩
  · right
    have z1 : ¬ Int32.ofNat k ≤ 0 := fun z => by have := (nLe (a := k) (b := 0) (by omega) (by omega)).mp z; omega
    have z2 : ¬ Int32.ofNat (b + k) ≤ Int32.ofNat b := fun z => by have := (nLe (a := b + k) (b := b) (by omega) (by omega)).mp z; omega
    rw [hC, hR, if_neg z1, if_neg z2, R_fig ht hk, ob_s]
    refine ⟨rfl, ?_⟩
    rcases B_sign ht hj hc1 hk with ⟨h1, h2, h3, h4⟩ | ⟨h3, h4⟩
    · right
      rw [if_neg (show ¬ (b + k < t ∧ (48 ≤ (sTx (b + k)).toInt ∧ (sTx (b + k)).toInt ≤ 57)) from fun z => hc2 (by rw [← h2]; exact z.2)), iif0, h4, ob_s]
      try dsimp only
      rw [iif1]
      exact ⟨by omega, by omega, h3, rfl⟩
    · left
      refine ⟨h3, ?_⟩
      by_cases hf : b + k < t ∧ (48 ≤ (sTx (b + k)).toInt ∧ (sTx (b + k)).toInt ≤ 57)
      · rw [if_pos hf, iif1]
      · rw [if_neg hf, iif0, h4, ob_s]
        try dsimp only
        rw [iif0]
end TX
