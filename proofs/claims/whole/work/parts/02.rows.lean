/-! OWN ROWS: a method as a function with guards (F .. = some out), and the machine's rows over that function. -/
theorem ite_t {α : Type} {c : Prop} [Decidable c] {a b r : α} (h : (if c then a else b) = r) (hc : c) : a = r := by rw [if_pos hc] at h; exact h
theorem ite_f {α : Type} {c : Prop} [Decidable c] {a b r : α} (h : (if c then a else b) = r) (hc : ¬ c) : b = r := by rw [if_neg hc] at h; exact h
/-- a guard -/
def ck {α : Type} (c : Prop) [Decidable c] (x : Option α) : Option α := if c then x else none
theorem ck_e {α : Type} {c : Prop} [Decidable c] {x : Option α} {r : α} (h : ck c x = some r) : c ∧ x = some r := by
  unfold ck at h
  by_cases hc : c
  · rw [if_pos hc] at h; exact ⟨hc, h⟩
  · rw [if_neg hc] at h; cases h
theorem ck_i {α : Type} {c : Prop} [Decidable c] {x : Option α} (hc : c) : ck c x = x := if_pos hc
/-- a name for a value -/
def lt_ {α β : Type} (x : α) (f : α → Option β) : Option β := f x
theorem lt_e {α β : Type} {x : α} {f : α → Option β} {r : β} (h : lt_ x f = some r) : ∃ v, v = x ∧ f v = some r := ⟨x, rfl, h⟩
/-- a call -/
def ob {α β : Type} (x : Option α) (f : α → Option β) : Option β := x.bind f
theorem ob_e {α β : Type} {x : Option α} {f : α → Option β} {r : β} (h : ob x f = some r) : ∃ o, x = some o ∧ f o = some r := by
  cases x with
  | none => cases h
  | some o => exact ⟨o, rfl, h⟩
theorem ob_i {α β : Type} {x : Option α} {f : α → Option β} {o : α} (h : x = some o) : ob x f = f o := by rw [h]; rfl
/-- a stretch whose arms meet again: they go on with K -/
def rg {α β : Type} (b : (α → Option β) → Option β) (K : α → Option β) : Option β := b K
theorem rg_e {α β : Type} {b : (α → Option β) → Option β} {K : α → Option β} {r : β} (h : rg b K = some r) : ∃ K', K' = K ∧ b K' = some r := ⟨K, rfl, h⟩
theorem some_e {α : Type} {a b : α} (h : some a = some b) : a = b := Option.some.inj h
theorem no_e {α : Type} {P : Prop} {b : α} (h : (none : Option α) = some b) : P := by cases h
abbrev inb (i : Int32) (n : Nat) : Prop := ¬ (i < 0 ∨ n ≤ i.toNatClampNeg)
theorem inbK {i : Int32} {k n : Nat} (h : i.toNatClampNeg = k ∧ ¬ i < 0) (hk : Nat.ble n k = false) : vp_in i n := by
  intro q
  rcases q with q | q
  · exact h.2 q
  · rw [h.1] at q
    rw [Nat.ble_eq_true_of_le q] at hk
    cases hk
/-! the nest mates' links, by the tables -/
def NF : List (String × Nat × String × String × String × String) := [(RX0, 65, "SelfTuner$Window", "held", "I", "SelfTuner"), (RX5, 61, "SelfTuner$Estimator", "low", "[I", "SelfTuner"), (RX5, 66, "SelfTuner$Estimator", "high", "[I", "SelfTuner"), (RX3, 45, "SelfTuner$Estimator", "parameters", "[I", "SelfTuner"), (RX5, 69, "SelfTuner$Estimator", "parameters", "[I", "SelfTuner"), (RX5, 115, "SelfTuner$Estimator", "matrix", "[J", "SelfTuner"), (RX3, 61, "SelfTuner$Estimator", "counts", "[I", "SelfTuner"), (RX5, 109, "SelfTuner$Estimator", "counts", "[I", "SelfTuner"), (RX5, 128, "SelfTuner$Estimator", "window", "LSelfTuner$Window;", "SelfTuner"), (RX5, 80, "SelfTuner$Plant", "numbers", "[I", "SelfTuner"), (RX5, 85, "SelfTuner$Plant", "noise", "I", "SelfTuner"), (RX5, 92, "SelfTuner$Plant", "random", "J", "SelfTuner"), (RX3, 68, "SelfTuner$Plant", "output", "I", "SelfTuner"), (RX5, 88, "SelfTuner$Plant", "output", "I", "SelfTuner"), (RX5, 48, "SelfTuner$State", "settings", "[I", "SelfTuner"), (RX5, 57, "SelfTuner$State", "estimator", "LSelfTuner$Estimator;", "SelfTuner"), (RX5, 76, "SelfTuner$State", "plant", "LSelfTuner$Plant;", "SelfTuner"), (RX5, 182, "SelfTuner$SampleText", "length", "I", "SelfTuner"), (RX5, 191, "SelfTuner$SampleText", "samples", "I", "SelfTuner")]
def NM : List (String × Nat × MethodName × String) := [(RX5, 11, yX3_init, "SelfTuner"), (RX3, 18, yX0_init, "SelfTuner"), (RX0, 32, yX4_init, "SelfTuner"), (RX0, 71, yX5_bring, "SelfTuner"), (RX3, 25, yX1_init, "SelfTuner"), (RX5, 29, yX2_init, "SelfTuner"), (RX5, 159, yX3_copyFrom, "SelfTuner"), (RX3, 36, yX0_copyFrom, "SelfTuner"), (RX0, 52, yX4_copyFrom, "SelfTuner"), (RX3, 40, yX1_copyFrom, "SelfTuner"), (RX5, 112, yX0_begin, "SelfTuner"), (RX5, 132, yX4_size, "SelfTuner"), (RX5, 138, yX4_excitation, "SelfTuner"), (RX5, 185, yX2_read, "SelfTuner"), (RX2, 40, yX5_isWithin, "SelfTuner"), (RX5, 188, yX2_firstOutOfRange, "SelfTuner"), (RX5, 194, yX2_number, "SelfTuner"), (RX5, 99, yX0_take, "SelfTuner"), (RX0, 79, yX4_add, "SelfTuner"), (RX0, 104, yX5_divideDown, "SelfTuner"), (RX5, 204, yX3_mixedSettings, "SelfTuner"), (RX3, 90, yX5_mixed, "SelfTuner"), (RX5, 208, yX0_mixedInto, "SelfTuner"), (RX0, 117, yX5_mixed, "SelfTuner"), (RX5, 211, yX1_mixedInto, "SelfTuner"), (RX1, 65, yX5_mixed, "SelfTuner"), (RX5, 72, yX0_bringIntoBox, "SelfTuner"), (RX5, 119, yX0_weightedSum, "SelfTuner"), (RX5, 123, yX0_spread, "SelfTuner"), (RX5, 152, yX3_inputFor, "SelfTuner"), (RX3, 58, yX5_divideDown, "SelfTuner"), (RX3, 64, yX5_bring, "SelfTuner"), (RX5, 156, yX3_step, "SelfTuner"), (RX3, 72, yX1_move, "SelfTuner"), (RX1, 46, yX5_divideDown, "SelfTuner"), (RX1, 57, yX5_bring, "SelfTuner"), (RX3, 76, yX0_take, "SelfTuner"), (RX5, 163, yX3_costOfSteps, "SelfTuner"), (RX5, 171, yX2_addIfRoom, "SelfTuner")]
def NK (U : State) : Prop := (∀ q ∈ NF, va_Nw (.fieldLinkNest q.1 q.2.1 q.2.2.1 q.2.2.2.1 q.2.2.2.2.1 q.2.2.2.2.2) U) ∧ ∀ q ∈ NM, va_Nw (.methodLinkNest q.1 q.2.1 q.2.2.1 q.2.2.2) U
theorem NK.warm {s U : State} (hW : s.WarmedH U.vm) (h : NK s) : NK U := ⟨fun q hq => va_Nw.warmF hW (h.1 q hq), fun q hq => va_Nw.warmM hW (h.2 q hq)⟩
theorem NK.same {u U : State} (hvm : u.vm = U.vm) (h : NK u) : NK U := ⟨fun q hq => va_Nw.same rfl hvm (h.1 q hq), fun q hq => va_Nw.same rfl hvm (h.2 q hq)⟩
theorem nf_X0_65 {U : State} (h : NK U) : va_Nw (.fieldLinkNest RX0 65 "SelfTuner$Window" "held" "I" "SelfTuner") U := h.1 (RX0, 65, "SelfTuner$Window", "held", "I", "SelfTuner") (List.mem_of_getElem? (i := 0) rfl)
theorem nf_X5_61 {U : State} (h : NK U) : va_Nw (.fieldLinkNest RX5 61 "SelfTuner$Estimator" "low" "[I" "SelfTuner") U := h.1 (RX5, 61, "SelfTuner$Estimator", "low", "[I", "SelfTuner") (List.mem_of_getElem? (i := 1) rfl)
theorem nf_X5_66 {U : State} (h : NK U) : va_Nw (.fieldLinkNest RX5 66 "SelfTuner$Estimator" "high" "[I" "SelfTuner") U := h.1 (RX5, 66, "SelfTuner$Estimator", "high", "[I", "SelfTuner") (List.mem_of_getElem? (i := 2) rfl)
theorem nf_X3_45 {U : State} (h : NK U) : va_Nw (.fieldLinkNest RX3 45 "SelfTuner$Estimator" "parameters" "[I" "SelfTuner") U := h.1 (RX3, 45, "SelfTuner$Estimator", "parameters", "[I", "SelfTuner") (List.mem_of_getElem? (i := 3) rfl)
theorem nf_X5_69 {U : State} (h : NK U) : va_Nw (.fieldLinkNest RX5 69 "SelfTuner$Estimator" "parameters" "[I" "SelfTuner") U := h.1 (RX5, 69, "SelfTuner$Estimator", "parameters", "[I", "SelfTuner") (List.mem_of_getElem? (i := 4) rfl)
theorem nf_X5_115 {U : State} (h : NK U) : va_Nw (.fieldLinkNest RX5 115 "SelfTuner$Estimator" "matrix" "[J" "SelfTuner") U := h.1 (RX5, 115, "SelfTuner$Estimator", "matrix", "[J", "SelfTuner") (List.mem_of_getElem? (i := 5) rfl)
theorem nf_X3_61 {U : State} (h : NK U) : va_Nw (.fieldLinkNest RX3 61 "SelfTuner$Estimator" "counts" "[I" "SelfTuner") U := h.1 (RX3, 61, "SelfTuner$Estimator", "counts", "[I", "SelfTuner") (List.mem_of_getElem? (i := 6) rfl)
theorem nf_X5_109 {U : State} (h : NK U) : va_Nw (.fieldLinkNest RX5 109 "SelfTuner$Estimator" "counts" "[I" "SelfTuner") U := h.1 (RX5, 109, "SelfTuner$Estimator", "counts", "[I", "SelfTuner") (List.mem_of_getElem? (i := 7) rfl)
theorem nf_X5_128 {U : State} (h : NK U) : va_Nw (.fieldLinkNest RX5 128 "SelfTuner$Estimator" "window" "LSelfTuner$Window;" "SelfTuner") U := h.1 (RX5, 128, "SelfTuner$Estimator", "window", "LSelfTuner$Window;", "SelfTuner") (List.mem_of_getElem? (i := 8) rfl)
theorem nf_X5_80 {U : State} (h : NK U) : va_Nw (.fieldLinkNest RX5 80 "SelfTuner$Plant" "numbers" "[I" "SelfTuner") U := h.1 (RX5, 80, "SelfTuner$Plant", "numbers", "[I", "SelfTuner") (List.mem_of_getElem? (i := 9) rfl)
theorem nf_X5_85 {U : State} (h : NK U) : va_Nw (.fieldLinkNest RX5 85 "SelfTuner$Plant" "noise" "I" "SelfTuner") U := h.1 (RX5, 85, "SelfTuner$Plant", "noise", "I", "SelfTuner") (List.mem_of_getElem? (i := 10) rfl)
theorem nf_X5_92 {U : State} (h : NK U) : va_Nw (.fieldLinkNest RX5 92 "SelfTuner$Plant" "random" "J" "SelfTuner") U := h.1 (RX5, 92, "SelfTuner$Plant", "random", "J", "SelfTuner") (List.mem_of_getElem? (i := 11) rfl)
theorem nf_X3_68 {U : State} (h : NK U) : va_Nw (.fieldLinkNest RX3 68 "SelfTuner$Plant" "output" "I" "SelfTuner") U := h.1 (RX3, 68, "SelfTuner$Plant", "output", "I", "SelfTuner") (List.mem_of_getElem? (i := 12) rfl)
theorem nf_X5_88 {U : State} (h : NK U) : va_Nw (.fieldLinkNest RX5 88 "SelfTuner$Plant" "output" "I" "SelfTuner") U := h.1 (RX5, 88, "SelfTuner$Plant", "output", "I", "SelfTuner") (List.mem_of_getElem? (i := 13) rfl)
theorem nf_X5_48 {U : State} (h : NK U) : va_Nw (.fieldLinkNest RX5 48 "SelfTuner$State" "settings" "[I" "SelfTuner") U := h.1 (RX5, 48, "SelfTuner$State", "settings", "[I", "SelfTuner") (List.mem_of_getElem? (i := 14) rfl)
theorem nf_X5_57 {U : State} (h : NK U) : va_Nw (.fieldLinkNest RX5 57 "SelfTuner$State" "estimator" "LSelfTuner$Estimator;" "SelfTuner") U := h.1 (RX5, 57, "SelfTuner$State", "estimator", "LSelfTuner$Estimator;", "SelfTuner") (List.mem_of_getElem? (i := 15) rfl)
theorem nf_X5_76 {U : State} (h : NK U) : va_Nw (.fieldLinkNest RX5 76 "SelfTuner$State" "plant" "LSelfTuner$Plant;" "SelfTuner") U := h.1 (RX5, 76, "SelfTuner$State", "plant", "LSelfTuner$Plant;", "SelfTuner") (List.mem_of_getElem? (i := 16) rfl)
theorem nf_X5_182 {U : State} (h : NK U) : va_Nw (.fieldLinkNest RX5 182 "SelfTuner$SampleText" "length" "I" "SelfTuner") U := h.1 (RX5, 182, "SelfTuner$SampleText", "length", "I", "SelfTuner") (List.mem_of_getElem? (i := 17) rfl)
theorem nf_X5_191 {U : State} (h : NK U) : va_Nw (.fieldLinkNest RX5 191 "SelfTuner$SampleText" "samples" "I" "SelfTuner") U := h.1 (RX5, 191, "SelfTuner$SampleText", "samples", "I", "SelfTuner") (List.mem_of_getElem? (i := 18) rfl)
theorem nm_X5_11 {U : State} (h : NK U) : va_Nw (.methodLinkNest RX5 11 yX3_init "SelfTuner") U := h.2 (RX5, 11, yX3_init, "SelfTuner") (List.mem_of_getElem? (i := 0) rfl)
theorem nm_X3_18 {U : State} (h : NK U) : va_Nw (.methodLinkNest RX3 18 yX0_init "SelfTuner") U := h.2 (RX3, 18, yX0_init, "SelfTuner") (List.mem_of_getElem? (i := 1) rfl)
theorem nm_X0_32 {U : State} (h : NK U) : va_Nw (.methodLinkNest RX0 32 yX4_init "SelfTuner") U := h.2 (RX0, 32, yX4_init, "SelfTuner") (List.mem_of_getElem? (i := 2) rfl)
theorem nm_X0_71 {U : State} (h : NK U) : va_Nw (.methodLinkNest RX0 71 yX5_bring "SelfTuner") U := h.2 (RX0, 71, yX5_bring, "SelfTuner") (List.mem_of_getElem? (i := 3) rfl)
theorem nm_X3_25 {U : State} (h : NK U) : va_Nw (.methodLinkNest RX3 25 yX1_init "SelfTuner") U := h.2 (RX3, 25, yX1_init, "SelfTuner") (List.mem_of_getElem? (i := 4) rfl)
theorem nm_X5_29 {U : State} (h : NK U) : va_Nw (.methodLinkNest RX5 29 yX2_init "SelfTuner") U := h.2 (RX5, 29, yX2_init, "SelfTuner") (List.mem_of_getElem? (i := 5) rfl)
theorem nm_X5_159 {U : State} (h : NK U) : va_Nw (.methodLinkNest RX5 159 yX3_copyFrom "SelfTuner") U := h.2 (RX5, 159, yX3_copyFrom, "SelfTuner") (List.mem_of_getElem? (i := 6) rfl)
theorem nm_X3_36 {U : State} (h : NK U) : va_Nw (.methodLinkNest RX3 36 yX0_copyFrom "SelfTuner") U := h.2 (RX3, 36, yX0_copyFrom, "SelfTuner") (List.mem_of_getElem? (i := 7) rfl)
theorem nm_X0_52 {U : State} (h : NK U) : va_Nw (.methodLinkNest RX0 52 yX4_copyFrom "SelfTuner") U := h.2 (RX0, 52, yX4_copyFrom, "SelfTuner") (List.mem_of_getElem? (i := 8) rfl)
theorem nm_X3_40 {U : State} (h : NK U) : va_Nw (.methodLinkNest RX3 40 yX1_copyFrom "SelfTuner") U := h.2 (RX3, 40, yX1_copyFrom, "SelfTuner") (List.mem_of_getElem? (i := 9) rfl)
theorem nm_X5_112 {U : State} (h : NK U) : va_Nw (.methodLinkNest RX5 112 yX0_begin "SelfTuner") U := h.2 (RX5, 112, yX0_begin, "SelfTuner") (List.mem_of_getElem? (i := 10) rfl)
theorem nm_X5_132 {U : State} (h : NK U) : va_Nw (.methodLinkNest RX5 132 yX4_size "SelfTuner") U := h.2 (RX5, 132, yX4_size, "SelfTuner") (List.mem_of_getElem? (i := 11) rfl)
theorem nm_X5_138 {U : State} (h : NK U) : va_Nw (.methodLinkNest RX5 138 yX4_excitation "SelfTuner") U := h.2 (RX5, 138, yX4_excitation, "SelfTuner") (List.mem_of_getElem? (i := 12) rfl)
theorem nm_X5_185 {U : State} (h : NK U) : va_Nw (.methodLinkNest RX5 185 yX2_read "SelfTuner") U := h.2 (RX5, 185, yX2_read, "SelfTuner") (List.mem_of_getElem? (i := 13) rfl)
theorem nm_X2_40 {U : State} (h : NK U) : va_Nw (.methodLinkNest RX2 40 yX5_isWithin "SelfTuner") U := h.2 (RX2, 40, yX5_isWithin, "SelfTuner") (List.mem_of_getElem? (i := 14) rfl)
theorem nm_X5_188 {U : State} (h : NK U) : va_Nw (.methodLinkNest RX5 188 yX2_firstOutOfRange "SelfTuner") U := h.2 (RX5, 188, yX2_firstOutOfRange, "SelfTuner") (List.mem_of_getElem? (i := 15) rfl)
theorem nm_X5_194 {U : State} (h : NK U) : va_Nw (.methodLinkNest RX5 194 yX2_number "SelfTuner") U := h.2 (RX5, 194, yX2_number, "SelfTuner") (List.mem_of_getElem? (i := 16) rfl)
theorem nm_X5_99 {U : State} (h : NK U) : va_Nw (.methodLinkNest RX5 99 yX0_take "SelfTuner") U := h.2 (RX5, 99, yX0_take, "SelfTuner") (List.mem_of_getElem? (i := 17) rfl)
theorem nm_X0_79 {U : State} (h : NK U) : va_Nw (.methodLinkNest RX0 79 yX4_add "SelfTuner") U := h.2 (RX0, 79, yX4_add, "SelfTuner") (List.mem_of_getElem? (i := 18) rfl)
theorem nm_X0_104 {U : State} (h : NK U) : va_Nw (.methodLinkNest RX0 104 yX5_divideDown "SelfTuner") U := h.2 (RX0, 104, yX5_divideDown, "SelfTuner") (List.mem_of_getElem? (i := 19) rfl)
theorem nm_X5_204 {U : State} (h : NK U) : va_Nw (.methodLinkNest RX5 204 yX3_mixedSettings "SelfTuner") U := h.2 (RX5, 204, yX3_mixedSettings, "SelfTuner") (List.mem_of_getElem? (i := 20) rfl)
theorem nm_X3_90 {U : State} (h : NK U) : va_Nw (.methodLinkNest RX3 90 yX5_mixed "SelfTuner") U := h.2 (RX3, 90, yX5_mixed, "SelfTuner") (List.mem_of_getElem? (i := 21) rfl)
theorem nm_X5_208 {U : State} (h : NK U) : va_Nw (.methodLinkNest RX5 208 yX0_mixedInto "SelfTuner") U := h.2 (RX5, 208, yX0_mixedInto, "SelfTuner") (List.mem_of_getElem? (i := 22) rfl)
theorem nm_X0_117 {U : State} (h : NK U) : va_Nw (.methodLinkNest RX0 117 yX5_mixed "SelfTuner") U := h.2 (RX0, 117, yX5_mixed, "SelfTuner") (List.mem_of_getElem? (i := 23) rfl)
theorem nm_X5_211 {U : State} (h : NK U) : va_Nw (.methodLinkNest RX5 211 yX1_mixedInto "SelfTuner") U := h.2 (RX5, 211, yX1_mixedInto, "SelfTuner") (List.mem_of_getElem? (i := 24) rfl)
theorem nm_X1_65 {U : State} (h : NK U) : va_Nw (.methodLinkNest RX1 65 yX5_mixed "SelfTuner") U := h.2 (RX1, 65, yX5_mixed, "SelfTuner") (List.mem_of_getElem? (i := 25) rfl)
theorem nm_X5_72 {U : State} (h : NK U) : va_Nw (.methodLinkNest RX5 72 yX0_bringIntoBox "SelfTuner") U := h.2 (RX5, 72, yX0_bringIntoBox, "SelfTuner") (List.mem_of_getElem? (i := 26) rfl)
theorem nm_X5_119 {U : State} (h : NK U) : va_Nw (.methodLinkNest RX5 119 yX0_weightedSum "SelfTuner") U := h.2 (RX5, 119, yX0_weightedSum, "SelfTuner") (List.mem_of_getElem? (i := 27) rfl)
theorem nm_X5_123 {U : State} (h : NK U) : va_Nw (.methodLinkNest RX5 123 yX0_spread "SelfTuner") U := h.2 (RX5, 123, yX0_spread, "SelfTuner") (List.mem_of_getElem? (i := 28) rfl)
theorem nm_X5_152 {U : State} (h : NK U) : va_Nw (.methodLinkNest RX5 152 yX3_inputFor "SelfTuner") U := h.2 (RX5, 152, yX3_inputFor, "SelfTuner") (List.mem_of_getElem? (i := 29) rfl)
theorem nm_X3_58 {U : State} (h : NK U) : va_Nw (.methodLinkNest RX3 58 yX5_divideDown "SelfTuner") U := h.2 (RX3, 58, yX5_divideDown, "SelfTuner") (List.mem_of_getElem? (i := 30) rfl)
theorem nm_X3_64 {U : State} (h : NK U) : va_Nw (.methodLinkNest RX3 64 yX5_bring "SelfTuner") U := h.2 (RX3, 64, yX5_bring, "SelfTuner") (List.mem_of_getElem? (i := 31) rfl)
theorem nm_X5_156 {U : State} (h : NK U) : va_Nw (.methodLinkNest RX5 156 yX3_step "SelfTuner") U := h.2 (RX5, 156, yX3_step, "SelfTuner") (List.mem_of_getElem? (i := 32) rfl)
theorem nm_X3_72 {U : State} (h : NK U) : va_Nw (.methodLinkNest RX3 72 yX1_move "SelfTuner") U := h.2 (RX3, 72, yX1_move, "SelfTuner") (List.mem_of_getElem? (i := 33) rfl)
theorem nm_X1_46 {U : State} (h : NK U) : va_Nw (.methodLinkNest RX1 46 yX5_divideDown "SelfTuner") U := h.2 (RX1, 46, yX5_divideDown, "SelfTuner") (List.mem_of_getElem? (i := 34) rfl)
theorem nm_X1_57 {U : State} (h : NK U) : va_Nw (.methodLinkNest RX1 57 yX5_bring "SelfTuner") U := h.2 (RX1, 57, yX5_bring, "SelfTuner") (List.mem_of_getElem? (i := 35) rfl)
theorem nm_X3_76 {U : State} (h : NK U) : va_Nw (.methodLinkNest RX3 76 yX0_take "SelfTuner") U := h.2 (RX3, 76, yX0_take, "SelfTuner") (List.mem_of_getElem? (i := 36) rfl)
theorem nm_X5_163 {U : State} (h : NK U) : va_Nw (.methodLinkNest RX5 163 yX3_costOfSteps "SelfTuner") U := h.2 (RX5, 163, yX3_costOfSteps, "SelfTuner") (List.mem_of_getElem? (i := 37) rfl)
theorem nm_X5_171 {U : State} (h : NK U) : va_Nw (.methodLinkNest RX5 171 yX2_addIfRoom "SelfTuner") U := h.2 (RX5, 171, yX2_addIfRoom, "SelfTuner") (List.mem_of_getElem? (i := 38) rfl)
/-- the contract's start and end over a world -/
def cPre (D : va_G) (tys : List (ClassId × FieldType)) (sz : Nat) (ws : va_W) : State → Prop := fun U => NK U ∧ U.heap.size = sz ∧ va_P D vwCl ws U.heap ∧ va_K D vwCl tys U ∧ va_D (fun _ => True) ws
def cPost (D : va_G) (tys : List (ClassId × FieldType)) (ws : va_W) (A : Nat → Prop) : Unit → State → Prop := fun _ t => va_P D vwCl ws t.heap ∧ va_K D vwCl tys t ∧ va_D A ws
theorem cPre_blind {av : List Value} {D : va_G} {tys : List (ClassId × FieldType)} {sz : Nat} {ws : va_W} : FrameBlind (va_Pc av (cPre D tys sz ws)) := fun a U g mk q => by
  obtain ⟨q0, qN, q1, qP, qK, qD⟩ := q
  exact ⟨q0, NK.same (u := U) (U := U.calling g mk a) rfl qN, q1, qP, va_K.moved (u := U) (U := U.calling g mk a) (Vm.Alike.refl U.vm) qK, qD⟩
theorem true_blind {av : List Value} : FrameBlind (va_Pc av (fun _ => True)) := fun _ _ _ _ q => q
abbrev Mi (l : Launch) (y : MethodName) (w : List Cond) (rm : Room) (D : va_G) (tys : List (ClassId × FieldType)) (sz : Nat) (av : List Value) (ws : va_W) (r : Int32) (ws' : va_W) : Prop := Met l y w rm (va_Pc av (cPre D tys sz ws)) (va_Qi (fun (r' : Int32) (_ : Unit) => r' = r) (cPost D tys ws' (va_A ws sz)) (va_A ws sz)) 0 0 (va_A ws sz)
abbrev Ml (l : Launch) (y : MethodName) (w : List Cond) (rm : Room) (D : va_G) (tys : List (ClassId × FieldType)) (sz : Nat) (av : List Value) (ws : va_W) (r : Int64) (ws' : va_W) : Prop := Met l y w rm (va_Pc av (cPre D tys sz ws)) (va_Ql (fun (r' : Int64) (_ : Unit) => r' = r) (cPost D tys ws' (va_A ws sz)) (va_A ws sz)) 0 0 (va_A ws sz)
abbrev Mv (l : Launch) (y : MethodName) (w : List Cond) (rm : Room) (D : va_G) (tys : List (ClassId × FieldType)) (sz : Nat) (av : List Value) (ws : va_W) (ws' : va_W) : Prop := Met l y w rm (va_Pc av (cPre D tys sz ws)) (va_Qv (fun (_ : Unit) => True) (cPost D tys ws' (va_A ws sz)) (va_A ws sz)) 0 0 (va_A ws sz)
/-- of a method that touches no heap -/
def zQi (r : Int32) : Array Value → State → Outcome → State → Prop := fun _ st oc t => oc = .returned (some (.int r)) ∧ t.heap = st.heap
def zQl (r : Int64) : Array Value → State → Outcome → State → Prop := fun _ st oc t => oc = .returned (some (.long r)) ∧ t.heap = st.heap
abbrev Zi (l : Launch) (y : MethodName) (w : List Cond) (rm : Room) (av : List Value) (r : Int32) : Prop := Met l y w rm (va_Pc av (fun _ => True)) (zQi r) 0 0 (fun _ => False)
abbrev Zl (l : Launch) (y : MethodName) (w : List Cond) (rm : Room) (av : List Value) (r : Int64) : Prop := Met l y w rm (va_Pc av (fun _ => True)) (zQl r) 0 0 (fun _ => False)
section XR
variable {p : Program} {l : Launch} {e : Env} {R : Room} {s : State} {m : MethodId} {args : Array Value} {below : List Frame} {meth : Method} {c : Code} {H : Heap} {locs : List Loc} {cells slots : Nat} {Q : State → Prop}
variable {cc : ByteArray} {pc : Nat} {ls : Array Slot} {rest : List Value} {D : va_G} {cl : List vw_C} {A : Nat → Prop} {a : Nat} {tys : List (ClassId × FieldType)} {ws ws' wc wr wc' : va_W} {H0 : Heap}
theorem x_topi {x v : Int32} (hv : v = x) (k : W p l e R s m args below meth c H locs cells slots Q (F0 m pc ls (.int v :: rest))) : W p l e R s m args below meth c H locs cells slots Q (F0 m pc ls (.int x :: rest)) := hv ▸ k
theorem x_topl {x v : Int64} (hv : v = x) (k : W p l e R s m args below meth c H locs cells slots Q (F0 m pc ls (.long v :: rest))) : W p l e R s m args below meth c H locs cells slots Q (F0 m pc ls (.long x :: rest)) := hv ▸ k
theorem x_iald (hexec : p.tables.exec = Jvm.exec) (hb : c.code = cc) (hK : va_K D cl tys s) (hP : va_P D cl ws H) (q0 t0 : Nat) {cA : ClassId} {n k : Nat} {f : Nat → Int32} (ha : ws[q0]? = some (a, .inl (cA, n, .inl f))) (ht : tys[t0]? = some (cA, .int)) {i : Int32} (hik : i.toNatClampNeg = k) (hin : vp_in i n) (hdg : decode cc pc = .ok (.iaload, 1))
    (kk : W p l e R s m args below meth c H locs cells slots Q (F0 m (pc + 1) ls (.int (f k) :: rest))) : W p l e R s m args below meth c H locs cells slots Q (F0 m pc ls (.int i :: .ref a :: rest)) := va_iald hexec hb hK hP q0 t0 ha ht hin hdg (hik.symm ▸ kk)
theorem x_bald (hexec : p.tables.exec = Jvm.exec) (hb : c.code = cc) (hK : va_K D cl tys s) (hP : va_P D cl ws H) (q0 t0 : Nat) {cA : ClassId} {n k : Nat} {f : Nat → Int32} (ha : ws[q0]? = some (a, .inl (cA, n, .inl f))) (ht : tys[t0]? = some (cA, .byte)) {i : Int32} (hik : i.toNatClampNeg = k) (hin : vp_in i n) (hdg : decode cc pc = .ok (.baload, 1))
    (kk : W p l e R s m args below meth c H locs cells slots Q (F0 m (pc + 1) ls (.int (f k) :: rest))) : W p l e R s m args below meth c H locs cells slots Q (F0 m pc ls (.int i :: .ref a :: rest)) := va_bald hexec hb hK hP q0 t0 ha ht hin hdg (hik.symm ▸ kk)
theorem x_lald (hexec : p.tables.exec = Jvm.exec) (hb : c.code = cc) (hK : va_K D cl tys s) (hP : va_P D cl ws H) (q0 t0 : Nat) {cA : ClassId} {n k : Nat} {f : Nat → Int64} (ha : ws[q0]? = some (a, .inl (cA, n, .inr (.inl f)))) (ht : tys[t0]? = some (cA, .long)) {i : Int32} (hik : i.toNatClampNeg = k) (hin : vp_in i n) (hdg : decode cc pc = .ok (.laload, 1))
    (kk : W p l e R s m args below meth c H locs cells slots Q (F0 m (pc + 1) ls (.long (f k) :: rest))) : W p l e R s m args below meth c H locs cells slots Q (F0 m pc ls (.int i :: .ref a :: rest)) := va_lald hexec hb hK hP q0 t0 ha ht hin hdg (hik.symm ▸ kk)
theorem x_iast (hexec : p.tables.exec = Jvm.exec) (hb : c.code = cc) (hK : va_K D cl tys s) (hP : va_P D cl ws H) (hD : va_D A ws) (hS : va_S A H0 H locs) (q0 t0 : Nat) {cA : ClassId} {n k : Nat} {f g : Nat → Int32} (ha : ws[q0]? = some (a, .inl (cA, n, .inl f))) (ht : tys[t0]? = some (cA, .int)) {i : Int32} {x : Int32} (hik : i.toNatClampNeg = k) (hin : vp_in i n) (hg : g = upd f k x) (hw : ws.set q0 (a, .inl (cA, n, .inl g)) = ws') (hdg : decode cc pc = .ok (.iastore, 1))
    (kk : ∀ (H1 : Heap) (locs1 : List Loc), va_P D cl ws' H1 → va_D A ws' → va_S A H0 H1 locs1 → W p l e R s m args below meth c H1 locs1 cells slots Q (F0 m (pc + 1) ls rest)) : W p l e R s m args below meth c H locs cells slots Q (F0 m pc ls (.int x :: .int i :: .ref a :: rest)) := by
  subst hw hg hik
  exact va_iast hexec hb hK hP hD hS q0 t0 ha ht hin hdg kk
theorem x_bast (hexec : p.tables.exec = Jvm.exec) (hb : c.code = cc) (hK : va_K D cl tys s) (hP : va_P D cl ws H) (hD : va_D A ws) (hS : va_S A H0 H locs) (q0 t0 : Nat) {cA : ClassId} {n k : Nat} {f g : Nat → Int32} (ha : ws[q0]? = some (a, .inl (cA, n, .inl f))) (ht : tys[t0]? = some (cA, .byte)) {i : Int32} {x : Int32} (hik : i.toNatClampNeg = k) (hin : vp_in i n) (hg : g = upd f k (vp_nar .byte x)) (hw : ws.set q0 (a, .inl (cA, n, .inl g)) = ws') (hdg : decode cc pc = .ok (.bastore, 1))
    (kk : ∀ (H1 : Heap) (locs1 : List Loc), va_P D cl ws' H1 → va_D A ws' → va_S A H0 H1 locs1 → W p l e R s m args below meth c H1 locs1 cells slots Q (F0 m (pc + 1) ls rest)) : W p l e R s m args below meth c H locs cells slots Q (F0 m pc ls (.int x :: .int i :: .ref a :: rest)) := by
  subst hw hg hik
  exact va_bast hexec hb hK hP hD hS q0 t0 ha ht hin hdg kk
theorem x_last (hexec : p.tables.exec = Jvm.exec) (hb : c.code = cc) (hK : va_K D cl tys s) (hP : va_P D cl ws H) (hD : va_D A ws) (hS : va_S A H0 H locs) (q0 t0 : Nat) {cA : ClassId} {n k : Nat} {f g : Nat → Int64} (ha : ws[q0]? = some (a, .inl (cA, n, .inr (.inl f)))) (ht : tys[t0]? = some (cA, .long)) {i : Int32} {x : Int64} (hik : i.toNatClampNeg = k) (hin : vp_in i n) (hg : g = vp_updL f k x) (hw : ws.set q0 (a, .inl (cA, n, .inr (.inl g))) = ws') (hdg : decode cc pc = .ok (.lastore, 1))
    (kk : ∀ (H1 : Heap) (locs1 : List Loc), va_P D cl ws' H1 → va_D A ws' → va_S A H0 H1 locs1 → W p l e R s m args below meth c H1 locs1 cells slots Q (F0 m (pc + 1) ls rest)) : W p l e R s m args below meth c H locs cells slots Q (F0 m pc ls (.long x :: .int i :: .ref a :: rest)) := by
  subst hw hg hik
  exact va_last hexec hb hK hP hD hS q0 t0 ha ht hin hdg kk
theorem x_put (hexec : p.tables.exec = Jvm.exec) (hb : c.code = cc) {own ref C : String} {T : u_T} {N ci index : Nat} {Ts : List Cond} (hts : ∀ w ∈ Ts, w.before args s = true) (hin : ∀ w ∈ u_ws C T N, w ∈ Ts) (ty0 : Nat → FieldType) (hty : ∀ k, k < N → parseFieldDescriptor (T k).2.2.1 = some (ty0 k)) (hnm : ∀ a, a < N → ∀ b, b < N → a ≠ b → (T a).2.1 ≠ (T b).2.1) (hown : s.vm.findClass own = some m.cls) (hK : va_K D cl tys s) (hP : va_P D cl ws H) (hD : va_D A ws) (hS0 : va_S A H0 H locs) (q0 : Nat) {fs : List Value} (he : ws[q0]? = some (a, .inr (ci, fs))) (hc : cl[ci]? = some (C, T, N)) (k : Nat) (hk : k < N) (hlink : (Cond.fieldLink own index ref (T k).2.1 (T k).2.2.1).before args s = true) (hsame : ∀ x, s.fieldFound? (T k).1 (T k).2.1 (T k).2.2.1 = some x → s.fieldFound? ref (T k).2.1 (T k).2.2.1 = some x) (hfin : (T k).2.2.2 = false) {ty : FieldType} {v : Value} (hd : parseFieldDescriptor (T k).2.2.1 = some ty) (hn : narrow ty v = v) (hfit : fits ty v = true) (hl : k < fs.length) (hw : ws.set q0 (a, .inr (ci, fs.set k v)) = ws')
    (hdg : decode cc pc = .ok (.putfield index, 3)) (kk : ∀ (H1 : Heap) (locs1 : List Loc), va_P D cl ws' H1 → va_D A ws' → va_S A H0 H1 locs1 → W p l e R s m args below meth c H1 locs1 cells slots Q (F0 m (pc + 3) ls rest)) : W p l e R s m args below meth c H locs cells slots Q (F0 m pc ls (v :: .ref a :: rest)) := by
  subst hw
  exact va_put hexec hb hts hin ty0 hty hnm hown hK hP hD hS0 q0 he hc k hk hlink hsame hfin hd hn hfit hl hdg kk
theorem x_putN (hexec : p.tables.exec = Jvm.exec) (hb : c.code = cc) {own ref C host : String} {T : u_T} {N ci index : Nat} {Ts : List Cond} (hts : ∀ w ∈ Ts, w.before args s = true) (hin : ∀ w ∈ u_ws C T N, w ∈ Ts) (ty0 : Nat → FieldType) (hty : ∀ k, k < N → parseFieldDescriptor (T k).2.2.1 = some (ty0 k)) (hnm : ∀ a, a < N → ∀ b, b < N → a ≠ b → (T a).2.1 ≠ (T b).2.1) (hown : s.vm.findClass own = some m.cls) (hK : va_K D cl tys s) (hP : va_P D cl ws H) (hD : va_D A ws) (hS0 : va_S A H0 H locs) (q0 : Nat) {fs : List Value} (he : ws[q0]? = some (a, .inr (ci, fs))) (hc : cl[ci]? = some (C, T, N)) (k : Nat) (hk : k < N) (hlink : (Cond.fieldLinkNest own index ref (T k).2.1 (T k).2.2.1 host).before args s = true) (hsame : ∀ x, s.fieldFound? (T k).1 (T k).2.1 (T k).2.2.1 = some x → s.fieldFound? ref (T k).2.1 (T k).2.2.1 = some x) (hfin : (T k).2.2.2 = false) {ty : FieldType} {v : Value} (hd : parseFieldDescriptor (T k).2.2.1 = some ty) (hn : narrow ty v = v) (hfit : fits ty v = true) (hl : k < fs.length) (hw : ws.set q0 (a, .inr (ci, fs.set k v)) = ws')
    (hdg : decode cc pc = .ok (.putfield index, 3)) (kk : ∀ (H1 : Heap) (locs1 : List Loc), va_P D cl ws' H1 → va_D A ws' → va_S A H0 H1 locs1 → W p l e R s m args below meth c H1 locs1 cells slots Q (F0 m (pc + 3) ls rest)) : W p l e R s m args below meth c H locs cells slots Q (F0 m pc ls (v :: .ref a :: rest)) := by
  subst hw
  exact va_putN hexec hb hts hin ty0 hty hnm hown hK hP hD hS0 q0 he hc k hk hlink hsame hfin hd hn hfit hl hdg kk
theorem x_copyi (hexec : p.tables.exec = Jvm.exec) (hb : c.code = cc) (hml : c.maxLocals = ls.size) {own : String} {index : Nat} (hown : s.vm.findClass own = some m.cls) (hlink : (Cond.methodLink own index arraycopyName).before args s = true) (hnat : (Cond.native arraycopyName).before args s = true) (hstat : (Cond.static arraycopyName).before args s = true) (hini : (Cond.initialized "java/lang/System").before args s = true)
    (hK : va_K D cl tys s) (hP : va_P D cl ws H) (hD : va_D A ws) (hS : va_S A H0 H locs) (q0 q1 t0 : Nat) {a0 : Nat} {c0 : ClassId} {n0 n1 k1 k2 k3 : Nat} {f g g' : Nat → Int32} {ty : FieldType} (ha0 : ws[q0]? = some (a0, .inl (c0, n0, .inl f))) (ha1 : ws[q1]? = some (a, .inl (c0, n1, .inl g))) (ht0 : tys[t0]? = some (c0, ty)) (hprim : refKind ty = false)
    {sp dp n : Int32} (h1 : sp.toNatClampNeg = k1 ∧ ¬ sp < 0) (h2 : dp.toNatClampNeg = k2 ∧ ¬ dp < 0) (h3 : n.toNatClampNeg = k3 ∧ ¬ n < 0) (h4 : k1 + k3 ≤ n0) (h5 : k2 + k3 ≤ n1) (hfit : ∀ v : Int32, fits ty (.int v) = true)
    (hframes : 1 ≤ R.frames) (hlocals : (rest.map fun v => v.category).sum + (nativeFrameWords "java/lang/System" "arraycopy" 5 + 11) ≤ R.locals) (hg : g' = va_cpy f g k1 k2 k3) (hw : ws.set q1 (a, .inl (c0, n1, .inl g')) = ws') (hdg : decode cc pc = .ok (.invokestatic index, 3))
    (kk : ∀ (H1 : Heap) (locs1 : List Loc), va_P D cl ws' H1 → va_D A ws' → va_S A H0 H1 locs1 → W p l e R s m args below meth c H1 locs1 cells slots Q (F0 m (pc + 3) ls rest)) : W p l e R s m args below meth c H locs cells slots Q (F0 m pc ls (.int n :: .int dp :: .ref a :: .int sp :: .ref a0 :: rest)) := by
  obtain ⟨e1, h1⟩ := h1
  obtain ⟨e2, h2⟩ := h2
  obtain ⟨e3, h3⟩ := h3
  subst e1 e2 e3 hg hw
  exact va_copyi hexec hb hml hown hlink hnat hstat hini hK hP hD hS q0 q1 t0 t0 ha0 ha1 ht0 ht0 hprim h1 h2 h3 h4 h5 (fun i _ => hfit _) hframes hlocals hdg kk
theorem x_copyl (hexec : p.tables.exec = Jvm.exec) (hb : c.code = cc) (hml : c.maxLocals = ls.size) {own : String} {index : Nat} (hown : s.vm.findClass own = some m.cls) (hlink : (Cond.methodLink own index arraycopyName).before args s = true) (hnat : (Cond.native arraycopyName).before args s = true) (hstat : (Cond.static arraycopyName).before args s = true) (hini : (Cond.initialized "java/lang/System").before args s = true)
    (hK : va_K D cl tys s) (hP : va_P D cl ws H) (hD : va_D A ws) (hS : va_S A H0 H locs) (q0 q1 t0 : Nat) {a0 : Nat} {c0 : ClassId} {n0 n1 k1 k2 k3 : Nat} {f g g' : Nat → Int64} {ty : FieldType} (ha0 : ws[q0]? = some (a0, .inl (c0, n0, .inr (.inl f)))) (ha1 : ws[q1]? = some (a, .inl (c0, n1, .inr (.inl g)))) (ht0 : tys[t0]? = some (c0, ty)) (hprim : refKind ty = false)
    {sp dp n : Int32} (h1 : sp.toNatClampNeg = k1 ∧ ¬ sp < 0) (h2 : dp.toNatClampNeg = k2 ∧ ¬ dp < 0) (h3 : n.toNatClampNeg = k3 ∧ ¬ n < 0) (h4 : k1 + k3 ≤ n0) (h5 : k2 + k3 ≤ n1) (hfit : ∀ v : Int64, fits ty (.long v) = true)
    (hframes : 1 ≤ R.frames) (hlocals : (rest.map fun v => v.category).sum + (nativeFrameWords "java/lang/System" "arraycopy" 5 + 11) ≤ R.locals) (hg : g' = va_cpy f g k1 k2 k3) (hw : ws.set q1 (a, .inl (c0, n1, .inr (.inl g'))) = ws') (hdg : decode cc pc = .ok (.invokestatic index, 3))
    (kk : ∀ (H1 : Heap) (locs1 : List Loc), va_P D cl ws' H1 → va_D A ws' → va_S A H0 H1 locs1 → W p l e R s m args below meth c H1 locs1 cells slots Q (F0 m (pc + 3) ls rest)) : W p l e R s m args below meth c H locs cells slots Q (F0 m pc ls (.int n :: .int dp :: .ref a :: .int sp :: .ref a0 :: rest)) := by
  obtain ⟨e1, h1⟩ := h1
  obtain ⟨e2, h2⟩ := h2
  obtain ⟨e3, h3⟩ := h3
  subst e1 e2 e3 hg hw
  exact va_copyl hexec hb hml hown hlink hnat hstat hini hK hP hD hS q0 q1 t0 t0 ha0 ha1 ht0 ht0 hprim h1 h2 h3 h4 h5 (fun i _ => hfit _) hframes hlocals hdg kk
/-- a long comparison and the branch on it -/
theorem x_cmp_ge (x y : Int64) : (0 ≤ lg_cmp x y) ↔ ¬ x < y := by
  rw [← lg_cmp_lt, Int32.not_lt]
theorem x_cmp_le (x y : Int64) : (lg_cmp x y ≤ 0) ↔ ¬ y < x := by
  rw [← lg_cmp_gt, Int32.not_lt]
/-- calls: va_Run from a contract, then on -/
theorem x_pre {av : List Value} {D : va_G} {tys : List (ClassId × FieldType)} {ws wc : va_W} {A0 : Nat → Prop} {H : Heap} {s : State} (hN : NK s) (hP : va_P D vwCl ws H) (hD : va_D A0 ws) (hK : va_K D vwCl tys s) (isC : List Nat) (hC : isC.map (fun i => ws[i]?) = wc.map some) (hn : va_nd isC = true) : ∀ U : State, U.heap = H → s.WarmedH U.vm → va_Pc av (cPre D tys H.size wc) av.toArray U := by
  intro U hU hW
  refine ⟨rfl, NK.warm hW hN, by rw [hU], ?_, va_K.moved hW.alike hK, (hD.sub isC hn hC).weaken (fun _ _ _ _ => trivial)⟩
  rw [hU]
  intro k q hq
  have h1 : (isC.map (fun i => ws[i]?))[k]? = some (some q) := by rw [hC, List.getElem?_map, hq]; rfl
  rw [List.getElem?_map] at h1
  cases hi : isC[k]? with
  | none => rw [hi] at h1; cases h1
  | some i => rw [hi] at h1; exact hP i q (Option.some.inj h1)
theorem x_back {A0 : Nat → Prop} {t : State} {H1 : Heap} (hP : va_P D vwCl ws H) (hD : va_D A0 ws) (isC isR isB : List Nat) (hC : isC.map (fun i => ws[i]?) = wc.map some) (hR : isR.map (fun i => ws[i]?) = wr.map some) (hn : va_nd isR = true) (hdis : ∀ i ∈ isR, i ∉ isC) (hB : isB.map (fun i => (wr ++ wc')[i]?) = ws'.map some) (hBn : va_nd isB = true)
    (hk : ∀ q : Nat, q < H.size → ¬ va_A wc H.size q → H1[q]? = H[q]?) (hF : ∀ q, va_A wc H.size q → A0 q) (ht : t.heap = H1) (hb : cPost D tys wc' (va_A wc H.size) () t) : va_P D vwCl ws' H1 ∧ va_D A0 ws' := by
  obtain ⟨hP1, -, hD1⟩ := hb
  rw [ht] at hP1
  obtain ⟨hP2, hD2⟩ := va_join (wr := wr) (w1 := wc') hP hD isC isR hC hR hn hdis hk hF hP1 hD1
  refine ⟨fun k q hq => ?_, hD2.sub isB hBn hB⟩
  have h1 : (isB.map (fun i => (wr ++ wc')[i]?))[k]? = some (some q) := by rw [hB, List.getElem?_map, hq]; rfl
  rw [List.getElem?_map] at h1
  cases hi : isB[k]? with
  | none => rw [hi] at h1; cases h1
  | some i => rw [hi] at h1; exact hP2 i q (Option.some.inj h1)
theorem x_calli {A0 : Nat → Prop} {r : Int32} {st0 : List Value} {a : Array Value} (hr : va_Run p l e R s m args below meth c H locs cells slots 0 0 (F0 m pc ls st0) rest (va_Qi (fun (r' : Int32) (_ : Unit) => r' = r) (cPost D tys wc' (va_A wc H.size)) (va_A wc H.size) a) (va_A wc H.size)) (hP : va_P D vwCl ws H) (hD : va_D A0 ws) (hS : va_S A0 H0 H locs) (hA : ∀ q, H0.size ≤ q → A0 q)
    (isC isR isB : List Nat) (hC : isC.map (fun i => ws[i]?) = wc.map some) (hR : isR.map (fun i => ws[i]?) = wr.map some) (hn : va_nd isR = true) (hdis : ∀ i ∈ isR, i ∉ isC) (hB : isB.map (fun i => (wr ++ wc')[i]?) = ws'.map some) (hBn : va_nd isB = true)
    (kk : ∀ (H1 : Heap) (locs1 : List Loc), va_P D vwCl ws' H1 → va_D A0 ws' → va_S A0 H0 H1 locs1 → W p l e R s m args below meth c H1 locs1 cells slots Q (F0 m (pc + 3) ls (.int r :: rest))) : W p l e R s m args below meth c H locs cells slots Q (F0 m pc ls st0) := by
  have hF := va_free (wc := wc) hD hS hA isC hC
  refine va_calli hr hS (fun q _ h => hF q h) hF (fun r' u t H1 locs1 ht hvm hw hB1 hz1 hk1 hS1 => ?_)
  subst hw
  obtain ⟨h1, h2⟩ := x_back hP hD isC isR isB hC hR hn hdis hB hBn hk1 hF ht hB1
  exact kk H1 locs1 h1 h2 hS1
theorem x_calll {A0 : Nat → Prop} {r : Int64} {st0 : List Value} {a : Array Value} (hr : va_Run p l e R s m args below meth c H locs cells slots 0 0 (F0 m pc ls st0) rest (va_Ql (fun (r' : Int64) (_ : Unit) => r' = r) (cPost D tys wc' (va_A wc H.size)) (va_A wc H.size) a) (va_A wc H.size)) (hP : va_P D vwCl ws H) (hD : va_D A0 ws) (hS : va_S A0 H0 H locs) (hA : ∀ q, H0.size ≤ q → A0 q)
    (isC isR isB : List Nat) (hC : isC.map (fun i => ws[i]?) = wc.map some) (hR : isR.map (fun i => ws[i]?) = wr.map some) (hn : va_nd isR = true) (hdis : ∀ i ∈ isR, i ∉ isC) (hB : isB.map (fun i => (wr ++ wc')[i]?) = ws'.map some) (hBn : va_nd isB = true)
    (kk : ∀ (H1 : Heap) (locs1 : List Loc), va_P D vwCl ws' H1 → va_D A0 ws' → va_S A0 H0 H1 locs1 → W p l e R s m args below meth c H1 locs1 cells slots Q (F0 m (pc + 3) ls (.long r :: rest))) : W p l e R s m args below meth c H locs cells slots Q (F0 m pc ls st0) := by
  have hF := va_free (wc := wc) hD hS hA isC hC
  refine va_calll hr hS (fun q _ h => hF q h) hF (fun r' u t H1 locs1 ht hvm hw hB1 hz1 hk1 hS1 => ?_)
  subst hw
  obtain ⟨h1, h2⟩ := x_back hP hD isC isR isB hC hR hn hdis hB hBn hk1 hF ht hB1
  exact kk H1 locs1 h1 h2 hS1
theorem x_callv {A0 : Nat → Prop} {st0 : List Value} {a : Array Value} (hr : va_Run p l e R s m args below meth c H locs cells slots 0 0 (F0 m pc ls st0) rest (va_Qv (fun (_ : Unit) => True) (cPost D tys wc' (va_A wc H.size)) (va_A wc H.size) a) (va_A wc H.size)) (hP : va_P D vwCl ws H) (hD : va_D A0 ws) (hS : va_S A0 H0 H locs) (hA : ∀ q, H0.size ≤ q → A0 q)
    (isC isR isB : List Nat) (hC : isC.map (fun i => ws[i]?) = wc.map some) (hR : isR.map (fun i => ws[i]?) = wr.map some) (hn : va_nd isR = true) (hdis : ∀ i ∈ isR, i ∉ isC) (hB : isB.map (fun i => (wr ++ wc')[i]?) = ws'.map some) (hBn : va_nd isB = true)
    (kk : ∀ (H1 : Heap) (locs1 : List Loc), va_P D vwCl ws' H1 → va_D A0 ws' → va_S A0 H0 H1 locs1 → W p l e R s m args below meth c H1 locs1 cells slots Q (F0 m (pc + 3) ls rest)) : W p l e R s m args below meth c H locs cells slots Q (F0 m pc ls st0) := by
  have hF := va_free (wc := wc) hD hS hA isC hC
  refine va_callv hr hS (fun q _ h => hF q h) hF (fun u t H1 locs1 ht hvm hw hB1 hz1 hk1 hS1 => ?_)
  obtain ⟨h1, h2⟩ := x_back hP hD isC isR isB hC hR hn hdis hB hBn hk1 hF ht hB1
  exact kk H1 locs1 h1 h2 hS1
theorem x_callzi {r : Int32} {st0 : List Value} {a : Array Value} (hr : va_Run p l e R s m args below meth c H locs cells slots 0 0 (F0 m pc ls st0) rest (zQi r a) (fun _ => False))
    (kk : W p l e R s m args below meth c H locs cells slots Q (F0 m (pc + 3) ls (.int r :: rest))) : W p l e R s m args below meth c H locs cells slots Q (F0 m pc ls st0) := by
  intro T hT X
  obtain ⟨v, st₀, t, T', L, h0, X', hL, e1, -, ⟨hv, hh⟩, st⟩ := hr T hT X
  cases hv
  obtain ⟨t2, a1, b1⟩ := kk T' (by rw [e1, hh, h0]) (Stand.forget X' (fun q h => (hL q h).elim))
  exact ⟨t2, st t2 a1, b1⟩
theorem x_callzl {r : Int64} {st0 : List Value} {a : Array Value} (hr : va_Run p l e R s m args below meth c H locs cells slots 0 0 (F0 m pc ls st0) rest (zQl r a) (fun _ => False))
    (kk : W p l e R s m args below meth c H locs cells slots Q (F0 m (pc + 3) ls (.long r :: rest))) : W p l e R s m args below meth c H locs cells slots Q (F0 m pc ls st0) := by
  intro T hT X
  obtain ⟨v, st₀, t, T', L, h0, X', hL, e1, -, ⟨hv, hh⟩, st⟩ := hr T hT X
  cases hv
  obtain ⟨t2, a1, b1⟩ := kk T' (by rw [e1, hh, h0]) (Stand.forget X' (fun q h => (hL q h).elim))
  exact ⟨t2, st t2 a1, b1⟩
end XR
theorem x_bool {v : Int32} (h : v = 0 ∨ v = 1) : narrow .boolean (.int v) = .int v := by rcases h with rfl | rfl <;> rfl
section XI
variable {p : Program} {l : Launch} {e : Env} {R : Room} {s : State} {m : MethodId} {args : Array Value} {below : List Frame} {meth : Method} {c : Code} {H : Heap} {locs : List Loc} {cells slots : Nat} {Q : State → Prop}
variable {cc : ByteArray} {pc tgt : Nat} {ls : Array Slot} {rest : List Value} {off : Int} {x y : Int64}
theorem x_il_lt (hexec : p.tables.exec = Jvm.exec) (hb : c.code = cc) (hdg : decode cc pc = .ok (.ifCond .lt off, 3)) (ht : (pc : Int) + off = (tgt : Int)) (kt : x < y → W p l e R s m args below meth c H locs cells slots Q (F0 m tgt ls rest)) (kf : ¬ x < y → W p l e R s m args below meth c H locs cells slots Q (F0 m (pc + 3) ls rest)) : W p l e R s m args below meth c H locs cells slots Q (F0 m pc ls (.int (lg_cmp x y) :: rest)) := lv_if_lt hexec hb hdg ht (fun q => kt ((lg_cmp_lt x y).mp q)) (fun q => kf (fun h => q ((lg_cmp_lt x y).mpr h)))
theorem x_il_ge (hexec : p.tables.exec = Jvm.exec) (hb : c.code = cc) (hdg : decode cc pc = .ok (.ifCond .ge off, 3)) (ht : (pc : Int) + off = (tgt : Int)) (kt : ¬ x < y → W p l e R s m args below meth c H locs cells slots Q (F0 m tgt ls rest)) (kf : x < y → W p l e R s m args below meth c H locs cells slots Q (F0 m (pc + 3) ls rest)) : W p l e R s m args below meth c H locs cells slots Q (F0 m pc ls (.int (lg_cmp x y) :: rest)) := lv_if_ge hexec hb hdg ht (fun q => kt ((x_cmp_ge x y).mp q)) (fun q => kf (Decidable.byContradiction fun h => q ((x_cmp_ge x y).mpr h)))
theorem x_il_gt (hexec : p.tables.exec = Jvm.exec) (hb : c.code = cc) (hdg : decode cc pc = .ok (.ifCond .gt off, 3)) (ht : (pc : Int) + off = (tgt : Int)) (kt : y < x → W p l e R s m args below meth c H locs cells slots Q (F0 m tgt ls rest)) (kf : ¬ y < x → W p l e R s m args below meth c H locs cells slots Q (F0 m (pc + 3) ls rest)) : W p l e R s m args below meth c H locs cells slots Q (F0 m pc ls (.int (lg_cmp x y) :: rest)) := lv_if_gt hexec hb hdg ht (fun q => kt ((lg_cmp_gt x y).mp q)) (fun q => kf (fun h => q ((lg_cmp_gt x y).mpr h)))
theorem x_il_le (hexec : p.tables.exec = Jvm.exec) (hb : c.code = cc) (hdg : decode cc pc = .ok (.ifCond .le off, 3)) (ht : (pc : Int) + off = (tgt : Int)) (kt : ¬ y < x → W p l e R s m args below meth c H locs cells slots Q (F0 m tgt ls rest)) (kf : y < x → W p l e R s m args below meth c H locs cells slots Q (F0 m (pc + 3) ls rest)) : W p l e R s m args below meth c H locs cells slots Q (F0 m pc ls (.int (lg_cmp x y) :: rest)) := lv_if_le hexec hb hdg ht (fun q => kt ((x_cmp_le x y).mp q)) (fun q => kf (Decidable.byContradiction fun h => q ((x_cmp_le x y).mpr h)))
theorem x_il_eq (hexec : p.tables.exec = Jvm.exec) (hb : c.code = cc) (hdg : decode cc pc = .ok (.ifCond .eq off, 3)) (ht : (pc : Int) + off = (tgt : Int)) (kt : x = y → W p l e R s m args below meth c H locs cells slots Q (F0 m tgt ls rest)) (kf : ¬ x = y → W p l e R s m args below meth c H locs cells slots Q (F0 m (pc + 3) ls rest)) : W p l e R s m args below meth c H locs cells slots Q (F0 m pc ls (.int (lg_cmp x y) :: rest)) := lv_if_eq hexec hb hdg ht (fun q => kt ((lg_cmp_eq x y).mp q)) (fun q => kf (fun h => q ((lg_cmp_eq x y).mpr h)))
theorem x_il_ne (hexec : p.tables.exec = Jvm.exec) (hb : c.code = cc) (hdg : decode cc pc = .ok (.ifCond .ne off, 3)) (ht : (pc : Int) + off = (tgt : Int)) (kt : ¬ x = y → W p l e R s m args below meth c H locs cells slots Q (F0 m tgt ls rest)) (kf : x = y → W p l e R s m args below meth c H locs cells slots Q (F0 m (pc + 3) ls rest)) : W p l e R s m args below meth c H locs cells slots Q (F0 m pc ls (.int (lg_cmp x y) :: rest)) := lv_if_ne hexec hb hdg ht (fun q => kt (fun h => q ((lg_cmp_eq x y).mpr h))) (fun q => kf ((lg_cmp_eq x y).mp q))
end XI
