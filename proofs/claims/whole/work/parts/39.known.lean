/-! OWN ROWS: what the law's start gives -/
def vLeS : Nat → Int32 := fun k => ([50000, 0, 0, 2, 1, 0, 1] : List Int32).getD k 0
def vMoS : Nat → Int32 := fun k => ([65536, 500, 100, 20, 2000, 100, 65536] : List Int32).getD k 0
theorem len_at {args : Array Value} {s : State} {t : Term} {n : Nat} (hn : n < 2147483648) (h : (Cond.eq (.length t) (.int (Int32.ofNat n))).before args s = true) : ∃ a cell, t.eval args s none [] s = some (.ref a) ∧ s.heap[a]? = some cell ∧ cell.slots.size = n := by
  obtain ⟨y, h1, h2⟩ := Cond.eq_one (show (Cond.eq (.length t) (.int (Int32.ofNat n))).holds args s none s [] = true from h)
  have hy : y = .int (Int32.ofNat n) := (Option.some.inj (show some (Value.int (Int32.ofNat n)) = some y from h2)).symm
  subst hy
  simp only [Term.eval, Option.bind_eq_bind] at h1
  cases ht : t.eval args s none [] s with
  | none => simp [ht] at h1
  | some x =>
    cases x <;> simp [ht] at h1
    case ref a =>
      obtain ⟨cell, hcell, h3⟩ := Option.bind_eq_some_iff.mp h1
      by_cases hz : cell.slots.size < 2147483648
      · rw [if_pos hz] at h3
        refine ⟨a, cell, rfl, (State.arrayAt?_spec hcell).1, ?_⟩
        have e : Int32.ofNat cell.slots.size = Int32.ofNat n := by
          injection (Option.some.inj h3)
        have e2 := congrArg Int32.toInt e
        rw [Int32.toInt_ofNat_of_lt (by omega), Int32.toInt_ofNat_of_lt (by omega)] at e2
        omega
      · rw [if_neg hz] at h3; cases h3
theorem X_static {args : Array Value} {s : State} {t : Term} {n : Nat} {vs : Nat → Int32} (hn : n < 2147483648) (h1 : (Cond.arrayOf t .int).before args s = true) (h2 : (Cond.eq (.length t) (.int (Int32.ofNat n))).before args s = true) (h3 : ∀ j, j < n → (Cond.eq (.elem t (.int (Int32.ofNat j))) (.int (vs j))).before args s = true) : ∃ a, t.eval args s none [] s = some (.ref a) ∧ va_X a n vs s s.heap ∧ a < s.heap.size := by
  obtain ⟨a, cell, ht, hc, hz⟩ := len_at hn h2
  obtain ⟨hof, hkn⟩ := Cond.arrayOf_spec (show (Cond.arrayOf t .int).holds args s none s [] = true from h1) ht hc
  refine ⟨a, ht, ⟨cell, hc, hof, hkn, hz, fun j hj => ?_⟩, (Array.getElem?_eq_some_iff.mp hc).1⟩
  obtain ⟨y, e1, e2⟩ := Cond.eq_one (show (Cond.eq (.elem t (.int (Int32.ofNat j))) (.int (vs j))).holds args s none s [] = true from h3 j hj)
  have hy : y = .int (vs j) := (Option.some.inj (show some (Value.int (vs j)) = some y from e2)).symm
  subst hy
  obtain ⟨cell2, hc2, -, hv⟩ := elem_at e1 ht (show (Term.int (Int32.ofNat j)).eval args s none [] s = some (.int (Int32.ofNat j)) from rfl)
  rw [hc] at hc2
  cases hc2
  rw [Int32.toNatClampNeg_ofNat_of_lt (by omega)] at hv
  exact hv
theorem str_of {own tx : String} {k : Nat} {A : Array Value} {s : State} (h1 : (Cond.stringRef own k tx).before A s = true) (h2 : (Cond.eq (.field (.string own k) "java/lang/String" "coder" "B") (.int 0)).before A s = true) : ∃ sa, vk_R own k tx sa s := by
  obtain ⟨y, e1, -⟩ := Cond.eq_one (show (Cond.eq (.field (.string own k) "java/lang/String" "coder" "B") (.int 0)).holds A s none s [] = true from h2)
  obtain ⟨a, ha⟩ := Term.field_ref e1
  exact ⟨a, vk_R.of h1 ha⟩
theorem k_arr {args : Array Value} {s : State} {ty : FieldType} (h : (Cond.arrayClass ty).before args s = true) (hra : ∀ cA : ClassId, s.vm.findClass ("[" ++ ty.toString) = some cA → va_RA s cA ty) : ∃ cA : ClassId, ArrOfT s cA ty ∧ va_RA s cA ty := by
  obtain ⟨cA, k, comp, h1, h2, h3⟩ := Cond.arrayClass_spec (show (Cond.arrayClass ty).holds args s none s [] = true from h)
  exact ⟨cA, fun n z => ⟨(fun k h => by cases h), k, h2, comp, h3⟩, hra cA h1⟩
theorem k_arrO {C : String} {args : Array Value} {s : State} (h : (Cond.arrayOver (.object C)).before args s = true) : ∃ cA : ClassId, ArrOfT s cA (.object C) ∧ va_RA s cA (.object C) := by
  obtain ⟨comp, cA, k, h1, -, h3, h4, h5⟩ := Cond.arrayOver_spec (show (Cond.arrayOver (.object C)).holds args s none s [] = true from h)
  exact ⟨cA, fun n z => ⟨(fun k h => by cases h), k, h3, comp, h4⟩, ⟨k, comp, h3, h4, h1, h5⟩⟩
set_option maxRecDepth 20000 in
theorem nf_in : ∀ w ∈ NF.map (fun q => Cond.fieldLinkNest q.1 q.2.1 q.2.2.1 q.2.2.2.1 q.2.2.2.2.1 q.2.2.2.2.2), w ∈ lw_tbl := mem_ps [106, 134, 136, 138, 139, 141, 143, 144, 146, 173, 175, 177, 179, 180, 191, 193, 195, 212, 215] (by decide +kernel)
set_option maxRecDepth 20000 in
theorem nm_in : ∀ w ∈ NM.map (fun q => Cond.methodLinkNest q.1 q.2.1 q.2.2.1 q.2.2.2), w ∈ lw_tbl := mem_ps [84, 91, 99, 124, 168, 206, 257, 264, 269, 274, 279, 284, 295, 319, 335, 338, 346, 347, 355, 373, 400, 404, 405, 409, 410, 414, 534, 597, 605, 614, 621, 622, 630, 634, 645, 654, 655, 677, 709] (by decide +kernel)
theorem start_NK {s : State} {b : Nat} (hgv : (Jvm.Cond.and given_1 narrow_1).before #[Value.ref b] s = true) (hts : ∀ w ∈ lw_tbl, w.before #[Value.ref b] s = true) : NK s := ⟨fun q hq => va_Nw.of rfl (hts _ (nf_in _ (List.mem_map_of_mem hq))), fun q hq => va_Nw.of rfl (hts _ (nm_in _ (List.mem_map_of_mem hq)))⟩
set_option maxRecDepth 20000 in
theorem start_TK {s : State} {b : Nat} (hgv : (Jvm.Cond.and given_1 narrow_1).before #[Value.ref b] s = true) (hts : ∀ w ∈ lw_tbl, w.before #[Value.ref b] s = true) : TK s := by
  have hs := flat_of_before _ hgv
  refine ⟨List.forall_mem_cons.mpr ⟨?_, List.forall_mem_cons.mpr ⟨?_, List.forall_mem_cons.mpr ⟨?_, List.forall_mem_cons.mpr ⟨?_, fun _ h => absurd h List.not_mem_nil⟩⟩⟩⟩, List.forall_mem_cons.mpr ⟨?_, List.forall_mem_cons.mpr ⟨?_, List.forall_mem_cons.mpr ⟨?_, fun _ h => absurd h List.not_mem_nil⟩⟩⟩, List.forall_mem_cons.mpr ⟨?_, List.forall_mem_cons.mpr ⟨?_, List.forall_mem_cons.mpr ⟨?_, fun _ h => absurd h List.not_mem_nil⟩⟩⟩, List.forall_mem_cons.mpr ⟨?_, List.forall_mem_cons.mpr ⟨?_, fun _ h => absurd h List.not_mem_nil⟩⟩⟩
  · exact str_of (own := RX5) (k := 226) (tx := "an argument is out of range") (hts _ (List.mem_of_getElem? (i := 468) (by decide +kernel))) (hs _ (List.mem_of_getElem? (i := 54) (by decide +kernel)))
  · exact str_of (own := RX5) (k := 217) (tx := "there is no such parameter") (hts _ (List.mem_of_getElem? (i := 525) (by decide +kernel))) (hs _ (List.mem_of_getElem? (i := 85) (by decide +kernel)))
  · exact str_of (own := RX5) (k := 177) (tx := "the sample text is full") (hts _ (List.mem_of_getElem? (i := 722) (by decide +kernel))) (hs _ (List.mem_of_getElem? (i := 116) (by decide +kernel)))
  · exact str_of (own := RX5) (k := 197) (tx := "there is no saved state") (hts _ (List.mem_of_getElem? (i := 736) (by decide +kernel))) (hs _ (List.mem_of_getElem? (i := 145) (by decide +kernel)))
  · exact va_Nw.of (w := .castable "java/lang/IllegalArgumentException" "java/lang/IllegalArgumentException") rfl (hts _ (List.mem_of_getElem? (i := 429) (by decide +kernel)))
  · exact va_Nw.of (w := .castable "java/lang/IndexOutOfBoundsException" "java/lang/IndexOutOfBoundsException") rfl (hts _ (List.mem_of_getElem? (i := 518) (by decide +kernel)))
  · exact va_Nw.of (w := .castable "java/lang/IllegalStateException" "java/lang/IllegalStateException") rfl (hts _ (List.mem_of_getElem? (i := 715) (by decide +kernel)))
  · exact va_Nw.of (w := .declares (Bundle.initS "java/lang/RuntimeException")) rfl (hts _ (List.mem_of_getElem? (i := 431) (by decide +kernel)))
  · exact va_Nw.of (w := .declares (Bundle.initS "java/lang/Exception")) rfl (hts _ (List.mem_of_getElem? (i := 433) (by decide +kernel)))
  · exact va_Nw.of (w := .declares (Bundle.initS "java/lang/Throwable")) rfl (hts _ (List.mem_of_getElem? (i := 435) (by decide +kernel)))
  · exact va_Nc.of (hs _ (List.mem_of_getElem? (i := 42) (by decide +kernel)))
  · exact va_Nc.of (hs _ (List.mem_of_getElem? (i := 34) (by decide +kernel)))
set_option maxRecDepth 20000 in
theorem start_TZ {s : State} {b : Nat} (hgv : (Jvm.Cond.and given_1 narrow_1).before #[Value.ref b] s = true) (hts : ∀ w ∈ lw_tbl, w.before #[Value.ref b] s = true) {A : Nat → Prop} (hA : ∀ a : Nat, a < s.heap.size → ¬ A a) : TZ A s s.heap := by
  have hs := flat_of_before _ hgv
  exact ⟨vx_Zqof (hts _ (List.mem_of_getElem? (i := 454) (by decide +kernel))) (hts _ (List.mem_of_getElem? (i := 66) (by decide +kernel))) (hs _ (List.mem_of_getElem? (i := 4) (by decide +kernel))) hA, vx_Zqof (hts _ (List.mem_of_getElem? (i := 456) (by decide +kernel))) (hts _ (List.mem_of_getElem? (i := 66) (by decide +kernel))) (hs _ (List.mem_of_getElem? (i := 5) (by decide +kernel))) hA⟩
set_option maxRecDepth 20000 in
theorem start_SG {s : State} {b : Nat} (hgv : (Jvm.Cond.and given_1 narrow_1).before #[Value.ref b] s = true) (hts : ∀ w ∈ lw_tbl, w.before #[Value.ref b] s = true) {A : Nat → Prop} (hA : ∀ a : Nat, a < s.heap.size → ¬ A a) : ∃ aLe aMo : Nat, SG aLe aMo vLeS vMoS A s s.heap := by
  have hs := flat_of_before _ hgv
  obtain ⟨aL, htL, hxL, hzL⟩ := X_static (t := .static RX5 "LEAST_SETTINGS" "[I") (n := 7) (vs := vLeS) (by decide) (hs _ (List.mem_of_getElem? (i := 7) (by decide +kernel))) (hs _ (List.mem_of_getElem? (i := 8) (by decide +kernel))) (fun j hj => by
    rcases (show j = 0 ∨ j = 1 ∨ j = 2 ∨ j = 3 ∨ j = 4 ∨ j = 5 ∨ j = 6 by omega) with rfl | rfl | rfl | rfl | rfl | rfl | rfl
    · exact (hs _ (List.mem_of_getElem? (i := 9) (by decide +kernel)))
    · exact (hs _ (List.mem_of_getElem? (i := 10) (by decide +kernel)))
    · exact (hs _ (List.mem_of_getElem? (i := 11) (by decide +kernel)))
    · exact (hs _ (List.mem_of_getElem? (i := 12) (by decide +kernel)))
    · exact (hs _ (List.mem_of_getElem? (i := 13) (by decide +kernel)))
    · exact (hs _ (List.mem_of_getElem? (i := 14) (by decide +kernel)))
    · exact (hs _ (List.mem_of_getElem? (i := 15) (by decide +kernel))))
  obtain ⟨aM, htM, hxM, hzM⟩ := X_static (t := .static RX5 "MOST_SETTINGS" "[I") (n := 7) (vs := vMoS) (by decide) (hs _ (List.mem_of_getElem? (i := 17) (by decide +kernel))) (hs _ (List.mem_of_getElem? (i := 18) (by decide +kernel))) (fun j hj => by
    rcases (show j = 0 ∨ j = 1 ∨ j = 2 ∨ j = 3 ∨ j = 4 ∨ j = 5 ∨ j = 6 by omega) with rfl | rfl | rfl | rfl | rfl | rfl | rfl
    · exact (hs _ (List.mem_of_getElem? (i := 19) (by decide +kernel)))
    · exact (hs _ (List.mem_of_getElem? (i := 20) (by decide +kernel)))
    · exact (hs _ (List.mem_of_getElem? (i := 21) (by decide +kernel)))
    · exact (hs _ (List.mem_of_getElem? (i := 22) (by decide +kernel)))
    · exact (hs _ (List.mem_of_getElem? (i := 23) (by decide +kernel)))
    · exact (hs _ (List.mem_of_getElem? (i := 24) (by decide +kernel)))
    · exact (hs _ (List.mem_of_getElem? (i := 25) (by decide +kernel))))
  exact ⟨aL, aM, ⟨va_Zref (hts _ (List.mem_of_getElem? (i := 495) (by decide +kernel))) (hts _ (List.mem_of_getElem? (i := 59) (by decide +kernel))) htL hA, hxL, hzL, hA _ hzL⟩, va_Zref (hts _ (List.mem_of_getElem? (i := 497) (by decide +kernel))) (hts _ (List.mem_of_getElem? (i := 59) (by decide +kernel))) htM hA, hxM, hzM, hA _ hzM⟩
set_option maxRecDepth 20000 in
theorem start_K {s : State} {b : Nat} (hgv : (Jvm.Cond.and given_1 narrow_1).before #[Value.ref b] s = true) (hts : ∀ w ∈ lw_tbl, w.before #[Value.ref b] s = true) : ∃ (dC : Nat → ClassId) (dI : Nat → Nat → Nat) (cyI cyJ cyB cyS cyD : ClassId), va_K (dC, dI) vwCl [(cyI, .int), (cyJ, .long), (cyB, .byte), (cyS, .object "SelfTuner$State"), (cyD, .double)] s := by
  obtain ⟨c0, iS0, hKn0⟩ := u_known (C := RX0) (T := TX0) (N := 8) (n := 8) hts lwx_0 (hts _ (List.mem_of_getElem? (i := 90) (by decide +kernel)))
  obtain ⟨c1, iS1, hKn1⟩ := u_known (C := RX1) (T := TX1) (N := 4) (n := 4) hts lwx_1 (hts _ (List.mem_of_getElem? (i := 167) (by decide +kernel)))
  obtain ⟨c2, iS2, hKn2⟩ := u_known (C := RX2) (T := TX2) (N := 5) (n := 5) hts lwx_2 (hts _ (List.mem_of_getElem? (i := 205) (by decide +kernel)))
  obtain ⟨c3, iS3, hKn3⟩ := u_known (C := RX3) (T := TX3) (N := 3) (n := 3) hts lwx_3 (hts _ (List.mem_of_getElem? (i := 83) (by decide +kernel)))
  obtain ⟨c4, iS4, hKn4⟩ := u_known (C := RX4) (T := TX4) (N := 3) (n := 3) hts lwx_4 (hts _ (List.mem_of_getElem? (i := 98) (by decide +kernel)))
  obtain ⟨c5, iS5, hKn5⟩ := u_known (C := RX5) (T := TX5) (N := 5) (n := 5) hts lwx_5 (hts _ (List.mem_of_getElem? (i := 75) (by decide +kernel)))
  obtain ⟨c6, iS6, hKn6⟩ := u_known (C := RX6) (T := TX6) (N := 13) (n := 13) hts lwx_6 (hts _ (List.mem_of_getElem? (i := 738) (by decide +kernel)))
  obtain ⟨cyI, hyI⟩ := k_arr (ty := .int) (hts _ (List.mem_of_getElem? (i := 114) (by decide +kernel))) (fun cA h => h)
  obtain ⟨cyJ, hyJ⟩ := k_arr (ty := .long) (hts _ (List.mem_of_getElem? (i := 115) (by decide +kernel))) (fun cA h => h)
  obtain ⟨cyB, hyB⟩ := k_arr (ty := .byte) (hts _ (List.mem_of_getElem? (i := 228) (by decide +kernel))) (fun cA h => h)
  obtain ⟨cyD, hyD⟩ := k_arr (ty := .double) (hts _ (List.mem_of_getElem? (i := 1053) (by decide +kernel))) (fun cA h => h)
  obtain ⟨cyS, hyS⟩ := k_arrO (C := "SelfTuner$State") (hts _ (List.mem_of_getElem? (i := 203) (by decide +kernel)))
  refine ⟨fun k => if k = 0 then c0 else if k = 1 then c1 else if k = 2 then c2 else if k = 3 then c3 else if k = 4 then c4 else if k = 5 then c5 else c6, fun k => if k = 0 then iS0 else if k = 1 then iS1 else if k = 2 then iS2 else if k = 3 then iS3 else if k = 4 then iS4 else if k = 5 then iS5 else iS6, cyI, cyJ, cyB, cyS, cyD, ?_, ?_⟩
  · intro k q hq
    match k, hq with
    | 0, hq => cases hq; exact hKn0
    | 1, hq => cases hq; exact hKn1
    | 2, hq => cases hq; exact hKn2
    | 3, hq => cases hq; exact hKn3
    | 4, hq => cases hq; exact hKn4
    | 5, hq => cases hq; exact hKn5
    | 6, hq => cases hq; exact hKn6
    | k + 7, hq => simp [vwCl] at hq
  · intro k q hq
    match k, hq with
    | 0, hq => cases hq; exact hyI
    | 1, hq => cases hq; exact hyJ
    | 2, hq => cases hq; exact hyB
    | 3, hq => cases hq; exact hyS
    | 4, hq => cases hq; exact hyD
    | k + 5, hq => simp at hq
theorem start_AO {s : State} {b : Nat} (hgv : (Jvm.Cond.and given_1 narrow_1).before #[Value.ref b] s = true) (hts : ∀ w ∈ lw_tbl, w.before #[Value.ref b] s = true) : va_AO RX3 s := va_AO.of (hts _ (List.mem_of_getElem? (i := 203) (by decide +kernel)))
