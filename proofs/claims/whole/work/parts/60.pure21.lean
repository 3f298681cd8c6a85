/-! PURE: replay -/
abbrev RPq : Type := Int32 × Int32 × Int32 × Int64 × Int32 × (Nat → Int64) × (Nat → Int64) × (Nat → Int64) × (Nat → Int64) × (Nat → Int64) × (Nat → Int32)
abbrev RDq : Type := Int32 × Int32 × Int32 × (Nat → Int32)
def cnq (t : Int32) (Tb_ : Nat → Int32) (c : Int32) (err Kc : Int32 → (Nat → Int32) → Option RDq) (p q : Int32) (T : Nat → Int32) : Option RDq := ob (F_X2_readNumber t p Tb_ T q) (fun o => if o.1 = 0 then err o.2.1 o.2.2 else ob (F_X2_readSign t o.2.1 Tb_ c) (fun o2 => if o2.1 = 0 then err o2.2 o.2.2 else Kc o2.2 o.2.2))
theorem m3q : ∀ i : Fin 21, (Int32.ofNat (3 * i.val) - Int32.ofNat (3 * i.val) / 3 * 3 = 0 ∧ Int32.ofNat (3 * i.val + 1) - Int32.ofNat (3 * i.val + 1) / 3 * 3 = 1 ∧ Int32.ofNat (3 * i.val + 2) - Int32.ofNat (3 * i.val + 2) / 3 * 3 = 2) ∧ (Int32.ofNat (3 * i.val) / 3 = Int32.ofNat i.val ∧ Int32.ofNat (3 * i.val + 1) / 3 = Int32.ofNat i.val ∧ Int32.ofNat (3 * i.val + 2) / 3 = Int32.ofNat i.val) := by decide +kernel
theorem m3 {i : Nat} (hi : i ≤ 20) : (Int32.ofNat (3 * i) - Int32.ofNat (3 * i) / 3 * 3 = 0 ∧ Int32.ofNat (3 * i + 1) - Int32.ofNat (3 * i + 1) / 3 * 3 = 1 ∧ Int32.ofNat (3 * i + 2) - Int32.ofNat (3 * i + 2) / 3 * 3 = 2) ∧ (Int32.ofNat (3 * i) / 3 = Int32.ofNat i ∧ Int32.ofNat (3 * i + 1) / 3 = Int32.ofNat i ∧ Int32.ofNat (3 * i + 2) / 3 = Int32.ofNat i) := m3q ⟨i, by omega⟩
section TY
variable {t : Nat} {Tb_ sTx : Nat → Int32}
theorem B_numC (ht : t ≤ 120) (hj : ∀ j, j < t → Tb_ j = sTx j) {p q : Nat} (hp : p ≤ t) (hq : q < 60) {c : Int32} (hc_ : c = if Int32.ofNat q - Int32.ofNat q / 3 * 3 = 2 then 59 else 44) (Tn sRd : Nat → Int32) :
    (∃ (val : Int32) (e : Nat), e ≤ t ∧ F_X6_readsNumber (Int32.ofNat t) (Int32.ofNat p) sTx sRd (Int32.ofNat q) = some (0, Int32.ofNat e, upd sRd q val) ∧ ∀ err Kc, cnq (Int32.ofNat t) Tb_ c err Kc (Int32.ofNat p) (Int32.ofNat q) Tn = err (Int32.ofNat e) (upd Tn q val)) ∨
    (∃ (val : Int32) (p2 : Nat), p + 2 ≤ p2 ∧ p2 ≤ t ∧ F_X6_readsNumber (Int32.ofNat t) (Int32.ofNat p) sTx sRd (Int32.ofNat q) = some (1, Int32.ofNat p2, upd sRd q val) ∧ ∀ err Kc, cnq (Int32.ofNat t) Tb_ c err Kc (Int32.ofNat p) (Int32.ofNat q) Tn = Kc (Int32.ofNat p2) (upd Tn q val)) := by
  obtain ⟨val, p1, h1, h2, ⟨a1, a2⟩ | ⟨a1, ⟨b1, b2⟩ | ⟨b1, b2, b3, b4⟩⟩⟩ := B_num ht hj hp hq hc_ Tn sRd
  · refine Or.inl ⟨val, p1, h2, a2, fun err Kc => ?_⟩
    unfold cnq
    rw [a1, ob_s, if_pos rfl]
  · refine Or.inl ⟨val, p1, h2, b2, fun err Kc => ?_⟩
    unfold cnq
    rw [a1, ob_s, if_neg (show ¬ ((1 : Int32), Int32.ofNat p1, upd Tn q val).1 = 0 by dsimp only; decide)]
    try dsimp only
    rw [b1, ob_s, if_pos rfl]
  · refine Or.inr ⟨val, p1 + 1, by omega, b2, b4, fun err Kc => ?_⟩
    unfold cnq
    rw [a1, ob_s, if_neg (show ¬ ((1 : Int32), Int32.ofNat p1, upd Tn q val).1 = 0 by dsimp only; decide)]
    try dsimp only
    rw [b3, ob_s, if_neg (show ¬ ((1 : Int32), Int32.ofNat (p1 + 1)).1 = 0 by dsimp only; decide)]
theorem C_read1 {K : Int32 × Int32 × (Nat → Int32) → Option RDq} {i p n : Nat} (ht : t ≤ 120) (hi : i < 20) (hp : p < t) (v4 : Int32) (T : Nat → Int32) :
    F_X2_read_12 (Int32.ofNat t) Tb_ (n + 1) K (Int32.ofNat i) v4 (Int32.ofNat p) T = cnq (Int32.ofNat t) Tb_ 44 (fun e T1 => some (e, v4, e, T1)) (fun p1 T1 => cnq (Int32.ofNat t) Tb_ 44 (fun e T2 => some (e, v4, e, T2)) (fun p2 T2 => cnq (Int32.ofNat t) Tb_ 59 (fun e T3 => some (e, v4, e, T3)) (fun p3 T3 => F_X2_read_12 (Int32.ofNat t) Tb_ n K (Int32.ofNat (i + 1)) (v4 + 1) p3 T3) p2 (Int32.ofNat (3 * i + 2)) T2) p1 (Int32.ofNat (3 * i + 1)) T1) (Int32.ofNat p) (Int32.ofNat (3 * i)) T := by
  have e3_ : (3 : Int32) * Int32.ofNat i = Int32.ofNat (3 * i) := nM 3 i
  have e1_ : Int32.ofNat (3 * i) + 1 = Int32.ofNat (3 * i + 1) := n1 _
  have e2_ : Int32.ofNat (3 * i) + 2 = Int32.ofNat (3 * i + 2) := nA _ 2
  rw [F_X2_read_12, if_neg (show ¬ (20 : Int32) ≤ Int32.ofNat i from fun z => by have := (nLe (a := 20) (b := i) (by omega) (by omega)).mp z; omega), if_neg (show ¬ Int32.ofNat t ≤ Int32.ofNat p from fun z => by have := (nLe (a := t) (b := p) (by omega) (by omega)).mp z; omega), ltl_s, e3_, e1_, e2_, n1]
  rfl
theorem C_read0 {K : Int32 × Int32 × (Nat → Int32) → Option RDq} {i p n : Nat} (ht : t ≤ 120) (hi : i ≤ 20) (hp : p = t) (v4 : Int32) (T : Nat → Int32) : F_X2_read_12 (Int32.ofNat t) Tb_ (n + 1) K (Int32.ofNat i) v4 (Int32.ofNat p) T = K (v4, Int32.ofNat p, T) := by
  subst hp
  rw [F_X2_read_12]
  by_cases h : (20 : Int32) ≤ Int32.ofNat i
  · rw [if_pos h]
  · rw [if_neg h, if_pos ((nLe (by omega) (by omega)).mpr (Nat.le_refl _))]
theorem R_rep1 {sN : Int32} {sS : Int64} {f sv sF sG sK : Nat → Int64} {K : Int32 × Int32 × (Nat → Int32) → Option RPq} {q p n : Nat} (ht : t ≤ 120) (hp : p ≤ t) (h : p < t ∨ ¬ Int32.ofNat q - Int32.ofNat q / 3 * 3 = 0) (rd : Nat → Int32) :
    F_X6_replay_12 (Int32.ofNat t) sTx sN sS f sv sF sG sK (n + 1) K (Int32.ofNat q) (Int32.ofNat p) rd = ob (F_X6_readsNumber (Int32.ofNat t) (Int32.ofNat p) sTx rd (Int32.ofNat q)) (fun o7 => if o7.1 = 0 then some ((-10) - o7.2.1, sN, 0, sS, o7.2.1, f, sv, sF, sG, sK, o7.2.2) else F_X6_replay_12 (Int32.ofNat t) sTx sN sS f sv sF sG sK n K (Int32.ofNat (q + 1)) o7.2.1 o7.2.2) := by
  rw [F_X6_replay_12]
  by_cases h1 : p < t
  · rw [if_pos ((nLt (by omega) (by omega)).mpr h1), n1]
    rfl
  · rw [if_neg (fun z => h1 ((nLt (a := p) (b := t) (by omega) (by omega)).mp z)), if_neg (h.resolve_left h1), n1]
    rfl
theorem R_rep0 {sN : Int32} {sS : Int64} {f sv sF sG sK : Nat → Int64} {K : Int32 × Int32 × (Nat → Int32) → Option RPq} {q p n : Nat} (ht : t ≤ 120) (hp : p = t) (h : Int32.ofNat q - Int32.ofNat q / 3 * 3 = 0) (rd : Nat → Int32) :
    F_X6_replay_12 (Int32.ofNat t) sTx sN sS f sv sF sG sK (n + 1) K (Int32.ofNat q) (Int32.ofNat p) rd = K (Int32.ofNat q, Int32.ofNat p, rd) := by
  subst hp
  rw [F_X6_replay_12, if_neg (fun z => by have := (nLt (a := p) (b := p) (by omega) (by omega)).mp z; omega), if_pos h]
theorem up_same {T rd : Nat → Int32} {q : Nat} (h : ∀ j, j < q → T j = rd j) (v : Int32) : ∀ j, j < q + 1 → upd T q v j = upd rd q v j := fun j hj => by
  rw [uI, uI]
  by_cases h1 : j = q
  · rw [if_pos h1, if_pos h1]
  · rw [if_neg h1, if_neg h1]
    exact h j (by omega)
/-- the samples read, on both sides -/
theorem B_read (ht : t ≤ 120) (hj : ∀ j, j < t → Tb_ j = sTx j) (sN : Int32) (sS : Int64) (f sv sF sG sK : Nat → Int64) : ∀ (d i p n m : Nat) (T rd : Nat → Int32), i + d = 20 → 6 * i ≤ p → p ≤ t → (∀ j, j < 3 * i → T j = rd j) → 3 * d < n → d < m →
    (∃ (e : Nat) (T1 rd1 : Nat → Int32) (c : Int32), e ≤ t ∧ (∀ K, F_X2_read_12 (Int32.ofNat t) Tb_ m K (Int32.ofNat i) (Int32.ofNat i) (Int32.ofNat p) T = some (Int32.ofNat e, c, Int32.ofNat e, T1)) ∧ ∀ K, F_X6_replay_12 (Int32.ofNat t) sTx sN sS f sv sF sG sK n K (Int32.ofNat (3 * i)) (Int32.ofNat p) rd = some ((-10) - Int32.ofNat e, sN, 0, sS, Int32.ofNat e, f, sv, sF, sG, sK, rd1)) ∨
    (∃ (M p1 : Nat) (T1 rd1 : Nat → Int32), M ≤ 20 ∧ (∀ j, j < 3 * M → T1 j = rd1 j) ∧ (∀ K, F_X2_read_12 (Int32.ofNat t) Tb_ m K (Int32.ofNat i) (Int32.ofNat i) (Int32.ofNat p) T = K (Int32.ofNat M, Int32.ofNat p1, T1)) ∧ ∀ K, F_X6_replay_12 (Int32.ofNat t) sTx sN sS f sv sF sG sK n K (Int32.ofNat (3 * i)) (Int32.ofNat p) rd = K (Int32.ofNat (3 * M), Int32.ofNat p1, rd1)) := by
  intro d
  induction d with
  | zero =>
    intro i p n m T rd hi h6 hp hs hn hm_
    obtain ⟨n', rfl⟩ := fuel_s hn
    obtain ⟨m', rfl⟩ := fuel_s hm_
    have e : i = 20 := by omega
    subst e
    have hpt : p = t := by omega
    exact Or.inr ⟨20, p, T, rd, by omega, hs, fun K => C_read0 ht (by omega) hpt _ T, fun K => R_rep0 ht hpt (m3 (i := 20) (by omega)).1.1 rd⟩
  | succ d ih_ =>
    intro i p n m T rd hi h6 hp hs hn hm_
    obtain ⟨m', rfl⟩ := fuel_s hm_
    by_cases hpt : p < t
    · obtain ⟨n', rfl⟩ : ∃ n', n = n' + 1 + 1 + 1 := ⟨n - 3, by omega⟩
      obtain ⟨⟨z0, z1, z2⟩, -⟩ := m3 (i := i) (by omega)
      have hC := fun (K : Int32 × Int32 × (Nat → Int32) → Option RDq) => C_read1 (Tb_ := Tb_) (K := K) (n := m') ht (show i < 20 by omega) hpt (Int32.ofNat i) T
      have hR := fun (K : Int32 × Int32 × (Nat → Int32) → Option RPq) => R_rep1 (sTx := sTx) (sN := sN) (sS := sS) (f := f) (sv := sv) (sF := sF) (sG := sG) (sK := sK) (K := K) (q := 3 * i) (n := n' + 1 + 1) ht hp (Or.inl hpt) rd
      rcases B_numC ht hj hp (show 3 * i < 60 by omega) (c := 44) (by rw [z0]; rfl) T rd with ⟨v, e, e1_, e2_, e3_⟩ | ⟨v, p1, q1, q2, q3_, q4_⟩
      · refine Or.inl ⟨e, upd T (3 * i) v, upd rd (3 * i) v, Int32.ofNat i, e1_, fun K => (hC K).trans (e3_ _ _), fun K => (hR K).trans ?_⟩
        rw [e2_, ob_s, if_pos rfl]
      · have hR1 : ∀ K, F_X6_replay_12 (Int32.ofNat t) sTx sN sS f sv sF sG sK (n' + 1 + 1 + 1) K (Int32.ofNat (3 * i)) (Int32.ofNat p) rd = F_X6_replay_12 (Int32.ofNat t) sTx sN sS f sv sF sG sK (n' + 1 + 1) K (Int32.ofNat (3 * i + 1)) (Int32.ofNat p1) (upd rd (3 * i) v) := fun K => (hR K).trans (by
          rw [q3_, ob_s]
          try dsimp only
          rw [iif1])
        have hR2 := fun (K : Int32 × Int32 × (Nat → Int32) → Option RPq) => R_rep1 (sTx := sTx) (sN := sN) (sS := sS) (f := f) (sv := sv) (sF := sF) (sG := sG) (sK := sK) (K := K) (q := 3 * i + 1) (p := p1) (n := n' + 1) ht q2 (Or.inr (by rw [z1]; decide)) (upd rd (3 * i) v)
        rcases B_numC ht hj q2 (show 3 * i + 1 < 60 by omega) (c := 44) (by rw [z1]; rfl) (upd T (3 * i) v) (upd rd (3 * i) v) with ⟨v', e, e1_, e2_, e3_⟩ | ⟨v', p2, r1, r2, r3, r4⟩
        · refine Or.inl ⟨e, upd (upd T (3 * i) v) (3 * i + 1) v', upd (upd rd (3 * i) v) (3 * i + 1) v', Int32.ofNat i, e1_, fun K => (hC K).trans ((q4_ _ _).trans (e3_ _ _)), fun K => (hR1 K).trans ((hR2 K).trans ?_)⟩
          rw [e2_, ob_s, if_pos rfl]
        · have hR3 : ∀ K, F_X6_replay_12 (Int32.ofNat t) sTx sN sS f sv sF sG sK (n' + 1 + 1) K (Int32.ofNat (3 * i + 1)) (Int32.ofNat p1) (upd rd (3 * i) v) = F_X6_replay_12 (Int32.ofNat t) sTx sN sS f sv sF sG sK (n' + 1) K (Int32.ofNat (3 * i + 2)) (Int32.ofNat p2) (upd (upd rd (3 * i) v) (3 * i + 1) v') := fun K => (hR2 K).trans (by
            rw [r3, ob_s]
            try dsimp only
            rw [iif1])
          have hR4 := fun (K : Int32 × Int32 × (Nat → Int32) → Option RPq) => R_rep1 (sTx := sTx) (sN := sN) (sS := sS) (f := f) (sv := sv) (sF := sF) (sG := sG) (sK := sK) (K := K) (q := 3 * i + 2) (p := p2) (n := n') ht r2 (Or.inr (by rw [z2]; decide)) (upd (upd rd (3 * i) v) (3 * i + 1) v')
          rcases B_numC ht hj r2 (show 3 * i + 2 < 60 by omega) (c := 59) (by rw [z2]; rfl) (upd (upd T (3 * i) v) (3 * i + 1) v') (upd (upd rd (3 * i) v) (3 * i + 1) v') with ⟨v'', e, e1_, e2_, e3_⟩ | ⟨v'', p3, s1, s2, s3, s4⟩
          · refine Or.inl ⟨e, upd (upd (upd T (3 * i) v) (3 * i + 1) v') (3 * i + 2) v'', upd (upd (upd rd (3 * i) v) (3 * i + 1) v') (3 * i + 2) v'', Int32.ofNat i, e1_, fun K => (hC K).trans ((q4_ _ _).trans ((r4 _ _).trans (e3_ _ _))), fun K => (hR1 K).trans ((hR3 K).trans ((hR4 K).trans ?_))⟩
            rw [e2_, ob_s, if_pos rfl]
          · have hR5 : ∀ K, F_X6_replay_12 (Int32.ofNat t) sTx sN sS f sv sF sG sK (n' + 1) K (Int32.ofNat (3 * i + 2)) (Int32.ofNat p2) (upd (upd rd (3 * i) v) (3 * i + 1) v') = F_X6_replay_12 (Int32.ofNat t) sTx sN sS f sv sF sG sK n' K (Int32.ofNat (3 * (i + 1))) (Int32.ofNat p3) (upd (upd (upd rd (3 * i) v) (3 * i + 1) v') (3 * i + 2) v'') := fun K => (hR4 K).trans (by
              rw [s3, ob_s]
              try dsimp only
              rw [iif1, show 3 * i + 2 + 1 = 3 * (i + 1) by omega])
            have hC1 : ∀ K, F_X2_read_12 (Int32.ofNat t) Tb_ (m' + 1) K (Int32.ofNat i) (Int32.ofNat i) (Int32.ofNat p) T = F_X2_read_12 (Int32.ofNat t) Tb_ m' K (Int32.ofNat (i + 1)) (Int32.ofNat (i + 1)) (Int32.ofNat p3) (upd (upd (upd T (3 * i) v) (3 * i + 1) v') (3 * i + 2) v'') := fun K => by
              refine (hC K).trans ((q4_ _ _).trans ((r4 _ _).trans ((s4 _ _).trans ?_)))
              rw [n1]
            have hsame : ∀ j, j < 3 * (i + 1) → upd (upd (upd T (3 * i) v) (3 * i + 1) v') (3 * i + 2) v'' j = upd (upd (upd rd (3 * i) v) (3 * i + 1) v') (3 * i + 2) v'' j := fun j hj1 => up_same (up_same (up_same hs v) v') v'' j (by omega)
            rcases ih_ (i + 1) p3 n' m' _ _ (by omega) (by omega) s2 hsame (by omega) (by omega) with ⟨e, T1, rd1, c, e1_, e2_, e3_⟩ | ⟨M, p4, T1, rd1, e0_, e1_, e2_, e3_⟩
            · exact Or.inl ⟨e, T1, rd1, c, e1_, fun K => (hC1 K).trans (e2_ K), fun K => (hR1 K).trans ((hR3 K).trans ((hR5 K).trans (e3_ K)))⟩
            · exact Or.inr ⟨M, p4, T1, rd1, e0_, e1_, fun K => (hC1 K).trans (e2_ K), fun K => (hR1 K).trans ((hR3 K).trans ((hR5 K).trans (e3_ K)))⟩
    · have hpt' : p = t := by omega
      obtain ⟨n', rfl⟩ := fuel_s (show 0 < n by omega)
      exact Or.inr ⟨i, p, T, rd, by omega, hs, fun K => C_read0 ht (by omega) hpt' _ T, fun K => R_rep0 ht hpt' (m3 (i := i) (by omega)).1.1 rd⟩
end TY
/-- the ranges of a sample's numbers -/
def RNq (rd : Nat → Int32) (j : Nat) : Prop := (-2000 ≤ (rd (3 * j)).toInt ∧ (rd (3 * j)).toInt ≤ 2000) ∧ (-2000 ≤ (rd (3 * j + 1)).toInt ∧ (rd (3 * j + 1)).toInt ≤ 2000) ∧ (-4000 ≤ (rd (3 * j + 2)).toInt ∧ (rd (3 * j + 2)).toInt ≤ 4000)
theorem C_num0 {T : Nat → Int32} {i : Nat} (hi : i < 20) : F_X2_number T (Int32.ofNat i) 0 = some (T (3 * i)) ∧ F_X2_number T (Int32.ofNat i) 1 = some (T (3 * i + 1)) ∧ F_X2_number T (Int32.ofNat i) 2 = some (T (3 * i + 2)) := by
  have e3_ : (3 : Int32) * Int32.ofNat i = Int32.ofNat (3 * i) := nM 3 i
  have e1_ : Int32.ofNat (3 * i) + 1 = Int32.ofNat (3 * i + 1) := n1 _
  have e2_ : Int32.ofNat (3 * i) + 2 = Int32.ofNat (3 * i + 2) := nA _ 2
  unfold F_X2_number
  rw [e3_, e1_, e2_, Int32.add_zero, ck_i (nIn (by omega) (by omega)), ck_i (nIn (by omega) (by omega)), ck_i (nIn (by omega) (by omega)), nN (by omega), nN (by omega), nN (by omega)]
  exact ⟨rfl, rfl, rfl⟩
theorem R_53 {M q n : Nat} {p : Int32} {rd : Nat → Int32} {sN : Int32} {sS : Int64} {f sv sF sG sK : Nat → Int64} {K : Unit → Option RPq} (hM_ : M ≤ 20) (hq : q < 3 * M) {l h : Int} {lo hi : Int64} (el : lo.toInt = l) (eh : hi.toInt = h) (e1_ : (if Int32.ofNat q - Int32.ofNat q / 3 * 3 = 2 then -4000 else -2000) = lo) (e2_ : (if Int32.ofNat q - Int32.ofNat q / 3 * 3 = 2 then 4000 else 2000) = hi) :
    F_X6_replay_53 (Int32.ofNat (3 * M), p, rd) sN sS f sv sF sG sK (n + 1) K (Int32.ofNat q) = if l ≤ (rd q).toInt ∧ (rd q).toInt ≤ h then F_X6_replay_53 (Int32.ofNat (3 * M), p, rd) sN sS f sv sF sG sK n K (Int32.ofNat (q + 1)) else some ((-1000) - Int32.ofNat q / 3, sN, 0, sS, p, f, sv, sF, sG, sK, rd) := by
  rw [F_X6_replay_53, if_neg (fun z => by have := (nLe (a := 3 * M) (b := q) (by omega) (by omega)).mp z; omega), ck_i (nIn (by omega) (by omega)), rg_ite, rg_ite, e1_, e2_]
  try dsimp only
  rw [nN (by omega)]
  by_cases r : l ≤ (rd q).toInt ∧ (rd q).toInt ≤ h
  · rw [X6_in1 el eh r, ob_s, iif1, ltl_s, n1, if_pos r]
  · rw [X6_in0 el eh r, ob_s, iif0, if_neg r]
theorem B_range {M : Nat} (hM_ : M ≤ 20) {p : Int32} {T rd : Nat → Int32} (hs : ∀ j, j < 3 * M → T j = rd j) (sN : Int32) (sS : Int64) (f sv sF sG sK : Nat → Int64) : ∀ (d i n m : Nat), i + d = M → 3 * d < n → d < m →
    (∃ c : Nat, c < 20 ∧ (∀ K, F_X2_firstOutOfRange_2 (Int32.ofNat M) T m K (Int32.ofNat i) = some (Int32.ofNat c)) ∧ ∀ K, F_X6_replay_53 (Int32.ofNat (3 * M), p, rd) sN sS f sv sF sG sK n K (Int32.ofNat (3 * i)) = some ((-1000) - Int32.ofNat c, sN, 0, sS, p, f, sv, sF, sG, sK, rd)) ∨
    ((∀ K, F_X2_firstOutOfRange_2 (Int32.ofNat M) T m K (Int32.ofNat i) = K ()) ∧ (∀ K, F_X6_replay_53 (Int32.ofNat (3 * M), p, rd) sN sS f sv sF sG sK n K (Int32.ofNat (3 * i)) = K ()) ∧ ∀ j, i ≤ j → j < M → RNq rd j) := by
  intro d
  induction d with
  | zero =>
    intro i n m hi hn hm_
    obtain ⟨n', rfl⟩ := fuel_s hn
    obtain ⟨m', rfl⟩ := fuel_s hm_
    have e : i = M := by omega
    subst e
    refine Or.inr ⟨fun K => ?_, fun K => ?_, fun j a b => absurd a (by omega)⟩
    · rw [F_X2_firstOutOfRange_2, if_pos ((nLe (by omega) (by omega)).mpr (Nat.le_refl _))]
    · rw [F_X6_replay_53, if_pos ((nLe (by omega) (by omega)).mpr (Nat.le_refl _))]
  | succ d ih_ =>
    intro i n m hi hn hm_
    obtain ⟨m', rfl⟩ := fuel_s hm_
    obtain ⟨n', rfl⟩ : ∃ n', n = n' + 1 + 1 + 1 := ⟨n - 3, by omega⟩
    obtain ⟨⟨z0, z1, z2⟩, y0, y1, y2⟩ := m3 (i := i) (by omega)
    obtain ⟨x0, x1, x2_⟩ := C_num0 (T := T) (show i < 20 by omega)
    rw [hs _ (by omega)] at x0 x1 x2_
    have f0 := fun (n : Nat) (K : Unit → Option RPq) => R_53 (q := 3 * i) (p := p) (rd := rd) (sN := sN) (sS := sS) (f := f) (sv := sv) (sF := sF) (sG := sG) (sK := sK) (n := n) (K := K) (l := -2000) (h := 2000) (lo := -2000) (hi := 2000) hM_ (by omega) rfl rfl (by rw [z0]; rfl) (by rw [z0]; rfl)
    have f1 := fun (n : Nat) (K : Unit → Option RPq) => R_53 (q := 3 * i + 1) (p := p) (rd := rd) (sN := sN) (sS := sS) (f := f) (sv := sv) (sF := sF) (sG := sG) (sK := sK) (n := n) (K := K) (l := -2000) (h := 2000) (lo := -2000) (hi := 2000) hM_ (by omega) rfl rfl (by rw [z1]; rfl) (by rw [z1]; rfl)
    have f2 := fun (n : Nat) (K : Unit → Option RPq) => R_53 (q := 3 * i + 2) (p := p) (rd := rd) (sN := sN) (sS := sS) (f := f) (sv := sv) (sF := sF) (sG := sG) (sK := sK) (n := n) (K := K) (l := -4000) (h := 4000) (lo := -4000) (hi := 4000) hM_ (by omega) rfl rfl (by rw [z2]; rfl) (by rw [z2]; rfl)
    have hh : ∀ K, F_X2_firstOutOfRange_2 (Int32.ofNat M) T (m' + 1) K (Int32.ofNat i) = ob (some (rd (3 * i))) (fun o5 => ob (F_X5_isWithin o5 (-2000) 2000) (fun o6 => if o6 = 0 then some (Int32.ofNat i) else ob (some (rd (3 * i + 1))) (fun o8 => ob (F_X5_isWithin o8 (-2000) 2000) (fun o9 => if o9 = 0 then some (Int32.ofNat i) else ob (some (rd (3 * i + 2))) (fun o11 => ob (F_X5_isWithin o11 (-4000) 4000) (fun o12 => if o12 = 0 then some (Int32.ofNat i) else F_X2_firstOutOfRange_2 (Int32.ofNat M) T m' K (Int32.ofNat (i + 1)))))))) := fun K => by
      rw [F_X2_firstOutOfRange_2, if_neg (fun z => by have := (nLe (a := M) (b := i) (by omega) (by omega)).mp z; omega), x0, x1, x2_, n1]
      rfl
    by_cases r0 : -2000 ≤ (rd (3 * i)).toInt ∧ (rd (3 * i)).toInt ≤ 2000
    · by_cases r1 : -2000 ≤ (rd (3 * i + 1)).toInt ∧ (rd (3 * i + 1)).toInt ≤ 2000
      · by_cases r2 : -4000 ≤ (rd (3 * i + 2)).toInt ∧ (rd (3 * i + 2)).toInt ≤ 4000
        · have hC : ∀ K, F_X2_firstOutOfRange_2 (Int32.ofNat M) T (m' + 1) K (Int32.ofNat i) = F_X2_firstOutOfRange_2 (Int32.ofNat M) T m' K (Int32.ofNat (i + 1)) := fun K => by
            rw [hh K, ob_s, F_isW _ _ _ (l := -2000) (h := 2000) rfl rfl, if_pos r0, ob_s, iif1, ob_s, F_isW _ _ _ (l := -2000) (h := 2000) rfl rfl, if_pos r1, ob_s, iif1, ob_s, F_isW _ _ _ (l := -4000) (h := 4000) rfl rfl, if_pos r2, ob_s, iif1]
          have hR : ∀ K, F_X6_replay_53 (Int32.ofNat (3 * M), p, rd) sN sS f sv sF sG sK (n' + 1 + 1 + 1) K (Int32.ofNat (3 * i)) = F_X6_replay_53 (Int32.ofNat (3 * M), p, rd) sN sS f sv sF sG sK n' K (Int32.ofNat (3 * (i + 1))) := fun K => by
            rw [f0, if_pos r0, f1, if_pos r1, f2, if_pos r2, show 3 * i + 2 + 1 = 3 * (i + 1) by omega]
          rcases ih_ (i + 1) n' m' (by omega) (by omega) (by omega) with ⟨c, c0, c1, c2⟩ | ⟨c0, c1, c2⟩
          · exact Or.inl ⟨c, c0, fun K => (hC K).trans (c1 K), fun K => (hR K).trans (c2 K)⟩
          · refine Or.inr ⟨fun K => (hC K).trans (c0 K), fun K => (hR K).trans (c1 K), fun j a b => ?_⟩
            by_cases hj : j = i
            · subst hj
              exact ⟨r0, r1, r2⟩
            · exact c2 j (by omega) b
        · refine Or.inl ⟨i, by omega, fun K => ?_, fun K => ?_⟩
          · rw [hh K, ob_s, F_isW _ _ _ (l := -2000) (h := 2000) rfl rfl, if_pos r0, ob_s, iif1, ob_s, F_isW _ _ _ (l := -2000) (h := 2000) rfl rfl, if_pos r1, ob_s, iif1, ob_s, F_isW _ _ _ (l := -4000) (h := 4000) rfl rfl, if_neg r2, ob_s, iif0]
          · rw [f0, if_pos r0, f1, if_pos r1, f2, if_neg r2, y2]
      · refine Or.inl ⟨i, by omega, fun K => ?_, fun K => ?_⟩
        · rw [hh K, ob_s, F_isW _ _ _ (l := -2000) (h := 2000) rfl rfl, if_pos r0, ob_s, iif1, ob_s, F_isW _ _ _ (l := -2000) (h := 2000) rfl rfl, if_neg r1, ob_s, iif0]
        · rw [f0, if_pos r0, f1, if_neg r1, y1]
    · refine Or.inl ⟨i, by omega, fun K => ?_, fun K => ?_⟩
      · rw [hh K, ob_s, F_isW _ _ _ (l := -2000) (h := 2000) rfl rfl, if_neg r0, ob_s, iif0]
      · rw [f0, if_neg r0, y0]
/-- the samples taken, on both sides -/
theorem B_takes {M : Nat} (hM_ : M ≤ 20) {p a b : Int32} {T rd : Nat → Int32} (hs : ∀ j, j < 3 * M → T j = rd j) (hr : ∀ j, j < M → RNq rd j) : ∀ (d i n m : Nat) (N : Int) (A : ST) (f sF sG sK : Nat → Int64) (sS : Int64), i + d = M → d < n → d < m → RS N A f → N + d < 2147483646 →
    ∃ (s1 : Int64) (f1 F1 G1 K1 : Nat → Int64) (A1 : ST), (∀ K, F_X6_replay_123 (Int32.ofNat (3 * M), p, rd) n K (Int32.ofNat (3 * i)) sS f sF sG sK = K (s1, f1, F1, G1, K1)) ∧ (∀ K, F_X5_replay_43 (a, Int32.ofNat M, b, T) m K (Int32.ofNat i) A = K A1) ∧ RS (N + d) A1 f1 := by
  intro d
  induction d with
  | zero =>
    intro i n m N A f sF sG sK sS hi hn hm_ hA hN_
    obtain ⟨n', rfl⟩ := fuel_s hn
    obtain ⟨m', rfl⟩ := fuel_s hm_
    have e : i = M := by omega
    subst e
    refine ⟨sS, f, sF, sG, sK, A, fun K => ?_, fun K => ?_, hA.mono (by omega)⟩
    · rw [F_X6_replay_123, if_pos ((nLe (by omega) (by omega)).mpr (Nat.le_refl _))]
    · rw [F_X5_replay_43, if_pos ((nLe (by omega) (by omega)).mpr (Nat.le_refl _))]
  | succ d ih_ =>
    intro i n m N A f sF sG sK sS hi hn hm_ hA hN_
    obtain ⟨n', rfl⟩ := fuel_s hn
    obtain ⟨m', rfl⟩ := fuel_s hm_
    obtain ⟨r0, r1, r2⟩ := hr i (by omega)
    obtain ⟨x0, x1, x2_⟩ := C_num0 (T := T) (show i < 20 by omega)
    rw [hs _ (by omega)] at x0 x1 x2_
    obtain ⟨e, s1, f1, F1, G1, K1, Pa_, Ma, Co, Di, Ga, Hd, Wo, Wi, t1, t2, -, -, t5⟩ := B_take (sS := sS) (sF := sF) (sG := sG) (sK := sK) hA (by omega) r0 r1 r2
    obtain ⟨s2, f2, F2, G2, K2, A2, c1, c2, c3⟩ := ih_ (i + 1) n' m' (N + 1) _ f1 F1 G1 K1 s1 (by omega) (by omega) (by omega) t5 (by omega)
    refine ⟨s2, f2, F2, G2, K2, A2, fun K => ?_, fun K => ?_, c3.mono (by omega)⟩
    · have e1_ : Int32.ofNat (3 * i) + 1 = Int32.ofNat (3 * i + 1) := n1 _
      have e2_ : Int32.ofNat (3 * i) + 2 = Int32.ofNat (3 * i + 2) := nA _ 2
      have e3_ : Int32.ofNat (3 * i) + 3 = Int32.ofNat (3 * (i + 1)) := nA _ 3
      rw [F_X6_replay_123, if_neg (fun z => by have := (nLe (a := 3 * M) (b := 3 * i) (by omega) (by omega)).mp z; omega), e1_, e2_, ck_i (nIn (by omega) (by omega)), ck_i (nIn (by omega) (by omega)), ck_i (nIn (by omega) (by omega)), nN (by omega), nN (by omega), nN (by omega)]
      refine (ob_iq t1).trans ?_
      try dsimp only
      rw [ltl_s, e3_]
      exact c1 K
    · rw [F_X5_replay_43, if_neg (fun z => by have := (nLe (a := M) (b := i) (by omega) (by omega)).mp z; omega)]
      refine (ob_iq x0).trans ((ob_iq x1).trans ((ob_iq x2_).trans ((ob_iq t2).trans ?_)))
      try dsimp only
      rw [ltl_s, n1]
      exact c2 K
theorem nNeg (e : Nat) (he : e < 2147483648) : ¬ Int32.ofNat e = -1 := fun q => by
  have h := congrArg Int32.toInt q
  rw [Int32.toInt_ofNat_of_lt he] at h
  have z : (-1 : Int32).toInt = -1 := rfl
  omega
theorem B_replay {N : Int} {xN sN : Int32} {A C0_ C1 C2 C3_ : ST} {f sv : Nat → Int64} (hK_ : RKq N xN A C0_ C1 C2 C3_ sN f sv) (hN_ : N + 500 < 2147483646) {yTl sTl : Int32} {Tb_ sTx : Nat → Int32} (hT_ : RTq yTl Tb_ sTl sTx) (Tn sRd : Nat → Int32) (sS : Int64) (sF sG sK : Nat → Int64) :
    ∃ (v xN1 : Int32) (A1 D0 D1 D2 D3 : ST) (a b : Int32) (T1 : Nat → Int32) (sN1 : Int32) (s1 : Int64) (pl : Int32) (f1 sv1 F1 G1 K1 : Nat → Int64) (rd1 : Nat → Int32), F_X5_replay xN A C0_ C1 C2 C3_ yTl Tb_ Tn = some (.inl (v, xN1, A1, D0, D1, D2, D3, a, b, T1)) ∧ F_X6_replay sN sS sTl f sv sF sG sK sTx sRd = some (v, sN1, 0, s1, pl, f1, sv1, F1, G1, K1, rd1) ∧ RKq (N + 500) xN1 A1 D0 D1 D2 D3 sN1 f1 sv1 := by
  have hK' := hK_
  obtain ⟨n, rfl, rfl, hA, hV⟩ := hK_
  obtain ⟨t, ht, rfl, rfl, hj⟩ := hT_
  unfold F_X5_replay F_X2_read F_X2_firstOutOfRange F_X6_replay
  rcases B_read ht hj (Int32.ofNat n) sS f sv sF sG sK 20 0 0 1000 1000 Tn sRd (by omega) (by omega) (by omega) (fun j h => absurd h (by omega)) (by omega) (by omega) with ⟨e, T1, rd1, c, e1_, e2_, e3_⟩ | ⟨M, p1, T1, rd1, h0, h1, h2, h3⟩
  · have e2' : ∀ K, F_X2_read_12 (Int32.ofNat t) Tb_ 1000 K 0 0 0 Tn = some (Int32.ofNat e, c, Int32.ofNat e, T1) := e2_
    have e3' : ∀ K, F_X6_replay_12 (Int32.ofNat t) sTx (Int32.ofNat n) sS f sv sF sG sK 1000 K 0 0 sRd = some ((-10) - Int32.ofNat e, Int32.ofNat n, 0, sS, Int32.ofNat e, f, sv, sF, sG, sK, rd1) := e3_
    rw [e2', e3', ob_s]
    try dsimp only
    rw [if_neg (nNeg e (by omega))]
    exact ⟨_, _, _, _, _, _, _, _, _, _, _, _, _, _, _, _, _, _, _, rfl, rfl, hK'.mono (by omega)⟩
  · have h2' : ∀ K, F_X2_read_12 (Int32.ofNat t) Tb_ 1000 K 0 0 0 Tn = K (Int32.ofNat M, Int32.ofNat p1, T1) := h2
    have h3' : ∀ K, F_X6_replay_12 (Int32.ofNat t) sTx (Int32.ofNat n) sS f sv sF sG sK 1000 K 0 0 sRd = K (Int32.ofNat (3 * M), Int32.ofNat p1, rd1) := h3
    rw [h2', h3', ob_s]
    try dsimp only
    rw [if_pos rfl]
    rcases B_range h0 (p := Int32.ofNat p1) h1 (Int32.ofNat n) sS f sv sF sG sK M 0 1000 1000 (by omega) (by omega) (by omega) with ⟨c, c0, c1, c2⟩ | ⟨c0, c1, c2⟩
    · have c1' : ∀ K, F_X2_firstOutOfRange_2 (Int32.ofNat M) T1 1000 K 0 = some (Int32.ofNat c) := c1
      have c2' : ∀ K, F_X6_replay_53 (Int32.ofNat (3 * M), Int32.ofNat p1, rd1) (Int32.ofNat n) sS f sv sF sG sK 1000 K 0 = some ((-1000) - Int32.ofNat c, Int32.ofNat n, 0, sS, Int32.ofNat p1, f, sv, sF, sG, sK, rd1) := c2
      rw [c1', c2', ob_s, if_neg (nNeg c (by omega))]
      exact ⟨_, _, _, _, _, _, _, _, _, _, _, _, _, _, _, _, _, _, _, rfl, rfl, hK'.mono (by omega)⟩
    · have c0' : ∀ K, F_X2_firstOutOfRange_2 (Int32.ofNat M) T1 1000 K 0 = K () := c0
      have c1' : ∀ K, F_X6_replay_53 (Int32.ofNat (3 * M), Int32.ofNat p1, rd1) (Int32.ofNat n) sS f sv sF sG sK 1000 K 0 = K () := c1
      obtain ⟨n1', D0, D1, D2, D3, sv1, s1, s2, s3⟩ := B_save hA hV
      obtain ⟨s1', f1, F1, G1, K1, A1, t1, t2, t3⟩ := B_takes h0 (p := Int32.ofNat p1) (a := -1) (b := Int32.ofNat p1) h1 (fun j hj => c2 j (by omega) hj) M 0 1000 1000 N A f sF sG sK sS (by omega) (by omega) (by omega) hA (by omega)
      have t1' : ∀ K, F_X6_replay_123 (Int32.ofNat (3 * M), Int32.ofNat p1, rd1) 1000 K 0 sS f sF sG sK = K (s1', f1, F1, G1, K1) := t1
      have t2' : ∀ K, F_X5_replay_43 (-1, Int32.ofNat M, Int32.ofNat p1, T1) 1000 K 0 A = K A1 := t2
      rw [c0', c1', ob_s, if_pos rfl, s2, obl_v, s1, ob_s]
      try dsimp only
      rw [t1', t2']
      try dsimp only
      rw [(m3 h0).2.1]
      exact ⟨_, _, _, _, _, _, _, _, _, _, _, _, _, _, _, _, _, _, _, rfl, rfl, n1', rfl, rfl, t3.mono (by omega), s3.mono (by omega)⟩
