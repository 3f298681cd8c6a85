/-! PURE: a quotient by 65536.0 is a number -/
def fq_ok (d : FP.Core.Datum) : Prop := (∃ s, d = .inf s) ∨ ∃ s c q, d = .fin s c q ∧ c < 9007199254740992 ∧ q ≤ 971
theorem fq_tails : FP.Core.b64.tails = 4503599627370496 := by decide +kernel
theorem fq_exps : FP.Core.b64.exps = 2048 := by decide +kernel
theorem fq_qmax : FP.Core.b64.qmax = 971 := by decide +kernel
theorem fq_qmin : FP.Core.b64.qmin = -1074 := by decide +kernel
theorem fq_p : 2 ^ FP.Core.b64.p = 9007199254740992 := by decide +kernel
theorem fq_enc {d : FP.Core.Datum} (h : fq_ok d) : FP.Core.encode FP.Core.b64 d % 9223372036854775808 ≤ 9218868437227405312 := by
  rcases h with ⟨s, rfl⟩ | ⟨s, c, q, rfl, hc_, hq⟩
  · cases s <;> decide +kernel
  · show (if c < FP.Core.b64.tails then FP.Core.assemble FP.Core.b64 s 0 c else FP.Core.assemble FP.Core.b64 s ((q - FP.Core.b64.qmin).toNat + 1) (c - FP.Core.b64.tails)) % 9223372036854775808 ≤ _
    unfold FP.Core.assemble
    rw [fq_tails, fq_exps, fq_qmin]
    have hs : s.toNat = 0 ∨ s.toNat = 1 := by cases s <;> simp
    split
    · rcases hs with e | e <;> rw [e] <;> omega
    · rcases hs with e | e <;> rw [e] <;> omega
theorem fq_settle (s : Bool) (c : Nat) (q : Int) : fq_ok (FP.Core.settle FP.Core.b64 s c q) := by
  unfold FP.Core.settle FP.Core.bound
  rw [fq_p, fq_qmax, fq_tails]
  split
  · rename_i h
    split
    · rename_i h2
      exact .inr ⟨s, c, q, rfl, h, h2⟩
    · exact .inl ⟨s, rfl⟩
  · split
    · rename_i h2
      exact .inr ⟨s, _, _, rfl, by decide, h2⟩
    · exact .inl ⟨s, rfl⟩
theorem fq_rr (s : Bool) (a b : Nat) (e : Int) : fq_ok (FP.Core.roundRatio FP.Core.b64 s a b e) := by
  unfold FP.Core.roundRatio
  split
  · exact .inr ⟨s, 0, _, rfl, by decide, by rw [fq_qmin]; decide⟩
  · exact fq_settle _ _ _
theorem fq_dec {n : Nat} (h : n % 9223372036854775808 ≤ 9218868437227405312) : FP.Core.decode FP.Core.b64 n ≠ .nan := by
  unfold FP.Core.decode FP.Core.fieldE FP.Core.fieldT
  rw [fq_exps, fq_tails]
  split
  · split
    · intro q
      cases q
    · exfalso
      omega
  · split
    · intro q
      cases q
    · intro q
      cases q
theorem fq_quot {d : FP.Core.Datum} (h : d ≠ .nan) : fq_ok (FP.Core.quotient FP.Core.b64 d (FP.Core.decode FP.Core.b64 4679240012837945344)) := by
  have e : FP.Core.decode FP.Core.b64 4679240012837945344 = .fin false 4503599627370496 (-36) := by decide +kernel
  rw [e]
  cases d with
  | nan => exact absurd rfl h
  | inf s => exact .inl ⟨_, rfl⟩
  | fin s c q =>
    have eqq : FP.Core.quotient FP.Core.b64 (.fin s c q) (.fin false 4503599627370496 (-36)) = FP.Core.roundRatio FP.Core.b64 (s != false) c 4503599627370496 (q - (-36)) := by
      simp only [FP.Core.quotient]
      exact if_neg (by decide)
    rw [eqq]
    exact fq_rr _ _ _ _
theorem fq_nn (x : Int64) : nn64 (FP.ddiv (FP.l2d x) 4679240012837945344) := by
  have h1 : (FP.l2d x).toNat % 9223372036854775808 ≤ 9218868437227405312 := by
    show (UInt64.ofNat (FP.Core.fromInt FP.Core.b64 x.toInt)).toNat % _ ≤ _
    have e := fq_enc (fq_rr (decide (x.toInt < 0)) x.toInt.natAbs 1 0)
    have e2_ : FP.Core.fromInt FP.Core.b64 x.toInt = FP.Core.encode FP.Core.b64 (FP.Core.roundRatio FP.Core.b64 (decide (x.toInt < 0)) x.toInt.natAbs 1 0) := rfl
    rw [e2_, UInt64.toNat_ofNat']
    omega
  have h2 := fq_enc (fq_quot (fq_dec h1))
  have h3 : (FP.ddiv (FP.l2d x) 4679240012837945344).toNat % 9223372036854775808 ≤ 9218868437227405312 := by
    show (UInt64.ofNat (FP.Core.encode FP.Core.b64 (FP.Core.quotient FP.Core.b64 (FP.Core.decode FP.Core.b64 (FP.l2d x).toNat) (FP.Core.decode FP.Core.b64 4679240012837945344)))).toNat % _ ≤ _
    rw [UInt64.toNat_ofNat']
    omega
  show _ ≤ _
  rw [UInt64.le_iff_toNat_le, UInt64.toNat_and]
  have e3_ : (0x7fffffffffffffff : UInt64).toNat = 2 ^ 63 - 1 := rfl
  have e4_ : (0x7ff0000000000000 : UInt64).toNat = 9218868437227405312 := rfl
  rw [e3_, e4_, Nat.and_two_pow_sub_one_eq_mod]
  exact h3
