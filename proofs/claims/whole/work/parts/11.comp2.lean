def F_X0_copyFrom (yLo : Nat → Int32) (yHi : Nat → Int32) (yPa : Nat → Int32) (yMa : Nat → Int64) (yCo : Nat → Int32) (yWo : Nat → Int32) (yWi : Nat → Int32) (zLo : Nat → Int32) (zHi : Nat → Int32) (zPa : Nat → Int32) (zMa : Nat → Int64) (zCo : Nat → Int32) (zHd : Int32) (zWo : Nat → Int32) (zWi : Nat → Int32) : Option ((Nat → Int32) × (Nat → Int32) × (Nat → Int32) × (Nat → Int64) × (Nat → Int32) × Int32 × (Nat → Int32) × (Nat → Int32)) := lt_ (α := Nat → Int32) (va_cpy zLo yLo 0 0 3) (fun v1 => lt_ (α := Nat → Int32) (va_cpy zHi yHi 0 0 3) (fun v2 => lt_ (α := Nat → Int32) (va_cpy zPa yPa 0 0 3) (fun v3 => lt_ (α := Nat → Int64) (va_cpy zMa yMa 0 0 9) (fun v4 => lt_ (α := Nat → Int32) (va_cpy zCo yCo 0 0 5) (fun v5 => ob (F_X4_copyFrom yWo yWi zHd zWo zWi) (fun o6 => some (v1, v2, v3, v4, v5, o6.1, o6.2.1, o6.2.2)))))))
theorem kX0_copyFrom_1 : (Cond.fieldLink RX0 10 "SelfTuner$Estimator" "low" "[I") ∈ wsX0_copyFrom := List.mem_of_getElem? (i := 1) rfl
theorem kX0_copyFrom_2 : (Cond.methodLink RX0 46 arraycopyName) ∈ wsX0_copyFrom := List.mem_of_getElem? (i := 2) rfl
theorem kX0_copyFrom_3 : (Cond.native arraycopyName) ∈ wsX0_copyFrom := List.mem_of_getElem? (i := 3) rfl
theorem kX0_copyFrom_4 : (Cond.static arraycopyName) ∈ wsX0_copyFrom := List.mem_of_getElem? (i := 4) rfl
theorem kX0_copyFrom_5 : (Cond.initialized "java/lang/System") ∈ wsX0_copyFrom := List.mem_of_getElem? (i := 5) rfl
theorem kX0_copyFrom_6 : (Cond.fieldLink RX0 17 "SelfTuner$Estimator" "high" "[I") ∈ wsX0_copyFrom := List.mem_of_getElem? (i := 6) rfl
theorem kX0_copyFrom_7 : (Cond.fieldLink RX0 20 "SelfTuner$Estimator" "parameters" "[I") ∈ wsX0_copyFrom := List.mem_of_getElem? (i := 7) rfl
theorem kX0_copyFrom_8 : (Cond.fieldLink RX0 23 "SelfTuner$Estimator" "matrix" "[J") ∈ wsX0_copyFrom := List.mem_of_getElem? (i := 8) rfl
theorem kX0_copyFrom_9 : (Cond.fieldLink RX0 27 "SelfTuner$Estimator" "counts" "[I") ∈ wsX0_copyFrom := List.mem_of_getElem? (i := 9) rfl
theorem kX0_copyFrom_10 : (Cond.fieldLink RX0 33 "SelfTuner$Estimator" "window" "LSelfTuner$Window;") ∈ wsX0_copyFrom := List.mem_of_getElem? (i := 10) rfl
theorem kX0_copyFrom_11 : (Cond.instanceMethod yX4_copyFrom) ∈ wsX0_copyFrom := List.mem_of_getElem? (i := 11) rfl
theorem kX0_copyFrom_12 : (Cond.initialized RX4) ∈ wsX0_copyFrom := List.mem_of_getElem? (i := 12) rfl
theorem kX0_copyFrom_13 : (Cond.selects RX4 yX4_copyFrom yX4_copyFrom) ∈ wsX0_copyFrom := List.mem_of_getElem? (i := 13) rfl
theorem iX0_copyFrom_X0 : ∀ w ∈ wsX00, w ∈ wsX0_copyFrom := fun w h => List.mem_cons_of_mem _ (List.mem_append_left _ (List.mem_append_right _ h))
set_option maxHeartbeats 4000000 in
set_option maxRecDepth 100000 in
theorem c_X0_copyFrom (l : Launch) (dC : Nat → ClassId) (dI : Nat → Nat → Nat) (cyI cyJ cyB cyS cyD : ClassId) (ye : Nat) (yel : Nat) (yeh : Nat) (yep : Nat) (yem : Nat) (yec : Nat) (yw : Nat) (yed : Nat) (yeg : Nat) (ywo : Nat) (ywi : Nat) (ze : Nat) (zel : Nat) (zeh : Nat) (zep : Nat) (zem : Nat) (zec : Nat) (zw : Nat) (zed : Nat) (zeg : Nat) (zwo : Nat) (zwi : Nat) (sz : Nat) (yLo : Nat → Int32) (yHi : Nat → Int32) (yPa : Nat → Int32) (yMa : Nat → Int64) (yCo : Nat → Int32) (yDi : Nat → Int64) (yGa : Nat → Int64) (yHd : Int32) (yWo : Nat → Int32) (yWi : Nat → Int32) (zLo : Nat → Int32) (zHi : Nat → Int32) (zPa : Nat → Int32) (zMa : Nat → Int64) (zCo : Nat → Int32) (zDi : Nat → Int64) (zGa : Nat → Int64) (zHd : Int32) (zWo : Nat → Int32) (zWi : Nat → Int32) {out : (Nat → Int32) × (Nat → Int32) × (Nat → Int32) × (Nat → Int64) × (Nat → Int32) × Int32 × (Nat → Int32) × (Nat → Int32)} (hF : F_X0_copyFrom yLo yHi yPa yMa yCo yWo yWi zLo zHi zPa zMa zCo zHd zWo zWi = some out) : Mv l yX0_copyFrom wsX0_copyFrom ({ frames := 2, cells := 0, slots := 0, locals := 101 } : Room) (dC, dI) [(cyI, .int), (cyJ, .long), (cyB, .byte), (cyS, .object "SelfTuner$State"), (cyD, .double)] sz [.ref ye, .ref ze] [(ye, .inr (0, [.ref yel, .ref yeh, .ref yep, .ref yem, .ref yec, .ref yw, .ref yed, .ref yeg])), (yel, .inl (cyI, 3, .inl yLo)), (yeh, .inl (cyI, 3, .inl yHi)), (yep, .inl (cyI, 3, .inl yPa)), (yem, .inl (cyJ, 9, .inr (.inl yMa))), (yec, .inl (cyI, 5, .inl yCo)), (yed, .inl (cyJ, 3, .inr (.inl yDi))), (yeg, .inl (cyJ, 3, .inr (.inl yGa))), (yw, .inr (4, [.ref ywo, .ref ywi, .int yHd])), (ywo, .inl (cyI, 20, .inl yWo)), (ywi, .inl (cyI, 20, .inl yWi)), (ze, .inr (0, [.ref zel, .ref zeh, .ref zep, .ref zem, .ref zec, .ref zw, .ref zed, .ref zeg])), (zel, .inl (cyI, 3, .inl zLo)), (zeh, .inl (cyI, 3, .inl zHi)), (zep, .inl (cyI, 3, .inl zPa)), (zem, .inl (cyJ, 9, .inr (.inl zMa))), (zec, .inl (cyI, 5, .inl zCo)), (zed, .inl (cyJ, 3, .inr (.inl zDi))), (zeg, .inl (cyJ, 3, .inr (.inl zGa))), (zw, .inr (4, [.ref zwo, .ref zwi, .int zHd])), (zwo, .inl (cyI, 20, .inl zWo)), (zwi, .inl (cyI, 20, .inl zWi))] [(ye, .inr (0, [.ref yel, .ref yeh, .ref yep, .ref yem, .ref yec, .ref yw, .ref yed, .ref yeg])), (yel, .inl (cyI, 3, .inl out.1)), (yeh, .inl (cyI, 3, .inl out.2.1)), (yep, .inl (cyI, 3, .inl out.2.2.1)), (yem, .inl (cyJ, 9, .inr (.inl out.2.2.2.1))), (yec, .inl (cyI, 5, .inl out.2.2.2.2.1)), (yed, .inl (cyJ, 3, .inr (.inl yDi))), (yeg, .inl (cyJ, 3, .inr (.inl yGa))), (yw, .inr (4, [.ref ywo, .ref ywi, .int out.2.2.2.2.2.1])), (ywo, .inl (cyI, 20, .inl out.2.2.2.2.2.2.1)), (ywi, .inl (cyI, 20, .inl out.2.2.2.2.2.2.2)), (ze, .inr (0, [.ref zel, .ref zeh, .ref zep, .ref zem, .ref zec, .ref zw, .ref zed, .ref zeg])), (zel, .inl (cyI, 3, .inl zLo)), (zeh, .inl (cyI, 3, .inl zHi)), (zep, .inl (cyI, 3, .inl zPa)), (zem, .inl (cyJ, 9, .inr (.inl zMa))), (zec, .inl (cyI, 5, .inl zCo)), (zed, .inl (cyJ, 3, .inr (.inl zDi))), (zeg, .inl (cyJ, 3, .inr (.inl zGa))), (zw, .inr (4, [.ref zwo, .ref zwi, .int zHd])), (zwo, .inl (cyI, 20, .inl zWo)), (zwi, .inl (cyI, 20, .inl zWi))] := by
  refine Met.ofW (cc := cX0_copyFrom) (maxL := 2) (ret := none) (by decide) rfl ?_
  intro p e s m args below meth c s₁ B hml hv
  obtain ⟨rfl, hN, hsz, hP, hK, hD0⟩ := hv
  have hx := B.exec
  have hb := B.bytes
  have hr := B.returns
  have hts := atoms_spec (ws := wsX0_copyFrom) B.pre
  have hown : s.vm.findClass RX0 = some m.cls := findClass_of_methodNamed B.named
  have hlocks := B.notSynchronized
  subst hsz
  have hD := hD0.self (sz := s.heap.size)
  generalize hAe : va_A [(ye, .inr (0, [.ref yel, .ref yeh, .ref yep, .ref yem, .ref yec, .ref yw, .ref yed, .ref yeg])), (yel, .inl (cyI, 3, .inl yLo)), (yeh, .inl (cyI, 3, .inl yHi)), (yep, .inl (cyI, 3, .inl yPa)), (yem, .inl (cyJ, 9, .inr (.inl yMa))), (yec, .inl (cyI, 5, .inl yCo)), (yed, .inl (cyJ, 3, .inr (.inl yDi))), (yeg, .inl (cyJ, 3, .inr (.inl yGa))), (yw, .inr (4, [.ref ywo, .ref ywi, .int yHd])), (ywo, .inl (cyI, 20, .inl yWo)), (ywi, .inl (cyI, 20, .inl yWi)), (ze, .inr (0, [.ref zel, .ref zeh, .ref zep, .ref zem, .ref zec, .ref zw, .ref zed, .ref zeg])), (zel, .inl (cyI, 3, .inl zLo)), (zeh, .inl (cyI, 3, .inl zHi)), (zep, .inl (cyI, 3, .inl zPa)), (zem, .inl (cyJ, 9, .inr (.inl zMa))), (zec, .inl (cyI, 5, .inl zCo)), (zed, .inl (cyJ, 3, .inr (.inl zDi))), (zeg, .inl (cyJ, 3, .inr (.inl zGa))), (zw, .inr (4, [.ref zwo, .ref zwi, .int zHd])), (zwo, .inl (cyI, 20, .inl zWo)), (zwi, .inl (cyI, 20, .inl zWi))] s.heap.size = A at hD ⊢
  have hA : ∀ q : Nat, s.heap.size ≤ q → A q := fun q h => by rw [← hAe]; exact Or.inr h
  have hS : va_S A s.heap s.heap [] := va_S.rf
  have hP : va_P (dC, dI) vwCl [(ye, .inr (0, [.ref yel, .ref yeh, .ref yep, .ref yem, .ref yec, .ref yw, .ref yed, .ref yeg])), (yel, .inl (cyI, 3, .inl yLo)), (yeh, .inl (cyI, 3, .inl yHi)), (yep, .inl (cyI, 3, .inl yPa)), (yem, .inl (cyJ, 9, .inr (.inl yMa))), (yec, .inl (cyI, 5, .inl yCo)), (yed, .inl (cyJ, 3, .inr (.inl yDi))), (yeg, .inl (cyJ, 3, .inr (.inl yGa))), (yw, .inr (4, [.ref ywo, .ref ywi, .int yHd])), (ywo, .inl (cyI, 20, .inl yWo)), (ywi, .inl (cyI, 20, .inl yWi)), (ze, .inr (0, [.ref zel, .ref zeh, .ref zep, .ref zem, .ref zec, .ref zw, .ref zed, .ref zeg])), (zel, .inl (cyI, 3, .inl zLo)), (zeh, .inl (cyI, 3, .inl zHi)), (zep, .inl (cyI, 3, .inl zPa)), (zem, .inl (cyJ, 9, .inr (.inl zMa))), (zec, .inl (cyI, 5, .inl zCo)), (zed, .inl (cyJ, 3, .inr (.inl zDi))), (zeg, .inl (cyJ, 3, .inr (.inl zGa))), (zw, .inr (4, [.ref zwo, .ref zwi, .int zHd])), (zwo, .inl (cyI, 20, .inl zWo)), (zwi, .inl (cyI, 20, .inl zWi))] s.heap := hP
  have hl := lv_entry ([.ref ye, .ref ze]) (n := 2) (Nat.le_of_ble_eq_true rfl)
  rw [lg_entry_eq]
  generalize (lg_sl ([.ref ye, .ref ze]) ++ List.replicate (2 - (lg_sl ([.ref ye, .ref ze])).length) Slot.unset).toArray = ls at hl ⊢
  have hl : lv_has ls 2 [(0, .ref ye), (1, .ref ze)] := hl
  unfold F_X0_copyFrom at hF
  refine lv_aload_n hx hb dX0_copyFrom_0 rfl (lv_at hl 1 rfl) ?_
  refine va_get (D := (dC, dI)) (ci := 0) (v := .ref zel) (C := RX0) (T := TX0) (N := 8) hx hb hts iX0_copyFrom_X0 hown hK hP 11 rfl rfl 0 (by decide) (hts _ kX0_copyFrom_1) (fun _ h9 => h9) rfl dX0_copyFrom_1 ?_
  refine lv_iconst (v := 0) hx hb dX0_copyFrom_4 (by decide) ?_
  refine lv_aload_n hx hb dX0_copyFrom_5 rfl (lv_at hl 0 rfl) ?_
  refine va_get (D := (dC, dI)) (ci := 0) (v := .ref yel) (C := RX0) (T := TX0) (N := 8) hx hb hts iX0_copyFrom_X0 hown hK hP 0 rfl rfl 0 (by decide) (hts _ kX0_copyFrom_1) (fun _ h9 => h9) rfl dX0_copyFrom_6 ?_
  refine lv_iconst (v := 0) hx hb dX0_copyFrom_9 (by decide) ?_
  refine lv_iconst (v := 3) hx hb dX0_copyFrom_10 (by decide) ?_
  obtain ⟨v1, hv1, hF⟩ := lt_e hF
  refine x_copyi (ws' := [(ye, .inr (0, [.ref yel, .ref yeh, .ref yep, .ref yem, .ref yec, .ref yw, .ref yed, .ref yeg])), (yel, .inl (cyI, 3, .inl v1)), (yeh, .inl (cyI, 3, .inl yHi)), (yep, .inl (cyI, 3, .inl yPa)), (yem, .inl (cyJ, 9, .inr (.inl yMa))), (yec, .inl (cyI, 5, .inl yCo)), (yed, .inl (cyJ, 3, .inr (.inl yDi))), (yeg, .inl (cyJ, 3, .inr (.inl yGa))), (yw, .inr (4, [.ref ywo, .ref ywi, .int yHd])), (ywo, .inl (cyI, 20, .inl yWo)), (ywi, .inl (cyI, 20, .inl yWi)), (ze, .inr (0, [.ref zel, .ref zeh, .ref zep, .ref zem, .ref zec, .ref zw, .ref zed, .ref zeg])), (zel, .inl (cyI, 3, .inl zLo)), (zeh, .inl (cyI, 3, .inl zHi)), (zep, .inl (cyI, 3, .inl zPa)), (zem, .inl (cyJ, 9, .inr (.inl zMa))), (zec, .inl (cyI, 5, .inl zCo)), (zed, .inl (cyJ, 3, .inr (.inl zDi))), (zeg, .inl (cyJ, 3, .inr (.inl zGa))), (zw, .inr (4, [.ref zwo, .ref zwi, .int zHd])), (zwo, .inl (cyI, 20, .inl zWo)), (zwi, .inl (cyI, 20, .inl zWi))]) hx hb (hml.trans hl.1.symm) hown (hts _ kX0_copyFrom_2) (hts _ kX0_copyFrom_3) (hts _ kX0_copyFrom_4) (hts _ kX0_copyFrom_5) hK hP hD hS 12 1 0 rfl rfl rfl rfl (by decide : (0 : Int32).toNatClampNeg = 0 ∧ ¬ (0 : Int32) < 0) (by decide : (0 : Int32).toNatClampNeg = 0 ∧ ¬ (0 : Int32) < 0) (by decide : (3 : Int32).toNatClampNeg = 3 ∧ ¬ (3 : Int32) < 0) (Nat.le_of_ble_eq_true rfl) (Nat.le_of_ble_eq_true rfl) (fun _ => rfl) (Nat.le_of_ble_eq_true rfl) (Nat.le_of_ble_eq_true rfl) hv1 rfl dX0_copyFrom_11 (fun H locs hP hD hS => ?_)
  refine lv_aload_n hx hb dX0_copyFrom_14 rfl (lv_at hl 1 rfl) ?_
  refine va_get (D := (dC, dI)) (ci := 0) (v := .ref zeh) (C := RX0) (T := TX0) (N := 8) hx hb hts iX0_copyFrom_X0 hown hK hP 11 rfl rfl 1 (by decide) (hts _ kX0_copyFrom_6) (fun _ h9 => h9) rfl dX0_copyFrom_15 ?_
  refine lv_iconst (v := 0) hx hb dX0_copyFrom_18 (by decide) ?_
  refine lv_aload_n hx hb dX0_copyFrom_19 rfl (lv_at hl 0 rfl) ?_
  refine va_get (D := (dC, dI)) (ci := 0) (v := .ref yeh) (C := RX0) (T := TX0) (N := 8) hx hb hts iX0_copyFrom_X0 hown hK hP 0 rfl rfl 1 (by decide) (hts _ kX0_copyFrom_6) (fun _ h9 => h9) rfl dX0_copyFrom_20 ?_
  refine lv_iconst (v := 0) hx hb dX0_copyFrom_23 (by decide) ?_
  refine lv_iconst (v := 3) hx hb dX0_copyFrom_24 (by decide) ?_
  obtain ⟨v2, hv2, hF⟩ := lt_e hF
  refine x_copyi (ws' := [(ye, .inr (0, [.ref yel, .ref yeh, .ref yep, .ref yem, .ref yec, .ref yw, .ref yed, .ref yeg])), (yel, .inl (cyI, 3, .inl v1)), (yeh, .inl (cyI, 3, .inl v2)), (yep, .inl (cyI, 3, .inl yPa)), (yem, .inl (cyJ, 9, .inr (.inl yMa))), (yec, .inl (cyI, 5, .inl yCo)), (yed, .inl (cyJ, 3, .inr (.inl yDi))), (yeg, .inl (cyJ, 3, .inr (.inl yGa))), (yw, .inr (4, [.ref ywo, .ref ywi, .int yHd])), (ywo, .inl (cyI, 20, .inl yWo)), (ywi, .inl (cyI, 20, .inl yWi)), (ze, .inr (0, [.ref zel, .ref zeh, .ref zep, .ref zem, .ref zec, .ref zw, .ref zed, .ref zeg])), (zel, .inl (cyI, 3, .inl zLo)), (zeh, .inl (cyI, 3, .inl zHi)), (zep, .inl (cyI, 3, .inl zPa)), (zem, .inl (cyJ, 9, .inr (.inl zMa))), (zec, .inl (cyI, 5, .inl zCo)), (zed, .inl (cyJ, 3, .inr (.inl zDi))), (zeg, .inl (cyJ, 3, .inr (.inl zGa))), (zw, .inr (4, [.ref zwo, .ref zwi, .int zHd])), (zwo, .inl (cyI, 20, .inl zWo)), (zwi, .inl (cyI, 20, .inl zWi))]) hx hb (hml.trans hl.1.symm) hown (hts _ kX0_copyFrom_2) (hts _ kX0_copyFrom_3) (hts _ kX0_copyFrom_4) (hts _ kX0_copyFrom_5) hK hP hD hS 13 2 0 rfl rfl rfl rfl (by decide : (0 : Int32).toNatClampNeg = 0 ∧ ¬ (0 : Int32) < 0) (by decide : (0 : Int32).toNatClampNeg = 0 ∧ ¬ (0 : Int32) < 0) (by decide : (3 : Int32).toNatClampNeg = 3 ∧ ¬ (3 : Int32) < 0) (Nat.le_of_ble_eq_true rfl) (Nat.le_of_ble_eq_true rfl) (fun _ => rfl) (Nat.le_of_ble_eq_true rfl) (Nat.le_of_ble_eq_true rfl) hv2 rfl dX0_copyFrom_25 (fun H locs hP hD hS => ?_)
  refine lv_aload_n hx hb dX0_copyFrom_28 rfl (lv_at hl 1 rfl) ?_
  refine va_get (D := (dC, dI)) (ci := 0) (v := .ref zep) (C := RX0) (T := TX0) (N := 8) hx hb hts iX0_copyFrom_X0 hown hK hP 11 rfl rfl 2 (by decide) (hts _ kX0_copyFrom_7) (fun _ h9 => h9) rfl dX0_copyFrom_29 ?_
  refine lv_iconst (v := 0) hx hb dX0_copyFrom_32 (by decide) ?_
  refine lv_aload_n hx hb dX0_copyFrom_33 rfl (lv_at hl 0 rfl) ?_
  refine va_get (D := (dC, dI)) (ci := 0) (v := .ref yep) (C := RX0) (T := TX0) (N := 8) hx hb hts iX0_copyFrom_X0 hown hK hP 0 rfl rfl 2 (by decide) (hts _ kX0_copyFrom_7) (fun _ h9 => h9) rfl dX0_copyFrom_34 ?_
  refine lv_iconst (v := 0) hx hb dX0_copyFrom_37 (by decide) ?_
  refine lv_iconst (v := 3) hx hb dX0_copyFrom_38 (by decide) ?_
  obtain ⟨v3, hv3, hF⟩ := lt_e hF
  refine x_copyi (ws' := [(ye, .inr (0, [.ref yel, .ref yeh, .ref yep, .ref yem, .ref yec, .ref yw, .ref yed, .ref yeg])), (yel, .inl (cyI, 3, .inl v1)), (yeh, .inl (cyI, 3, .inl v2)), (yep, .inl (cyI, 3, .inl v3)), (yem, .inl (cyJ, 9, .inr (.inl yMa))), (yec, .inl (cyI, 5, .inl yCo)), (yed, .inl (cyJ, 3, .inr (.inl yDi))), (yeg, .inl (cyJ, 3, .inr (.inl yGa))), (yw, .inr (4, [.ref ywo, .ref ywi, .int yHd])), (ywo, .inl (cyI, 20, .inl yWo)), (ywi, .inl (cyI, 20, .inl yWi)), (ze, .inr (0, [.ref zel, .ref zeh, .ref zep, .ref zem, .ref zec, .ref zw, .ref zed, .ref zeg])), (zel, .inl (cyI, 3, .inl zLo)), (zeh, .inl (cyI, 3, .inl zHi)), (zep, .inl (cyI, 3, .inl zPa)), (zem, .inl (cyJ, 9, .inr (.inl zMa))), (zec, .inl (cyI, 5, .inl zCo)), (zed, .inl (cyJ, 3, .inr (.inl zDi))), (zeg, .inl (cyJ, 3, .inr (.inl zGa))), (zw, .inr (4, [.ref zwo, .ref zwi, .int zHd])), (zwo, .inl (cyI, 20, .inl zWo)), (zwi, .inl (cyI, 20, .inl zWi))]) hx hb (hml.trans hl.1.symm) hown (hts _ kX0_copyFrom_2) (hts _ kX0_copyFrom_3) (hts _ kX0_copyFrom_4) (hts _ kX0_copyFrom_5) hK hP hD hS 14 3 0 rfl rfl rfl rfl (by decide : (0 : Int32).toNatClampNeg = 0 ∧ ¬ (0 : Int32) < 0) (by decide : (0 : Int32).toNatClampNeg = 0 ∧ ¬ (0 : Int32) < 0) (by decide : (3 : Int32).toNatClampNeg = 3 ∧ ¬ (3 : Int32) < 0) (Nat.le_of_ble_eq_true rfl) (Nat.le_of_ble_eq_true rfl) (fun _ => rfl) (Nat.le_of_ble_eq_true rfl) (Nat.le_of_ble_eq_true rfl) hv3 rfl dX0_copyFrom_39 (fun H locs hP hD hS => ?_)
  refine lv_aload_n hx hb dX0_copyFrom_42 rfl (lv_at hl 1 rfl) ?_
  refine va_get (D := (dC, dI)) (ci := 0) (v := .ref zem) (C := RX0) (T := TX0) (N := 8) hx hb hts iX0_copyFrom_X0 hown hK hP 11 rfl rfl 3 (by decide) (hts _ kX0_copyFrom_8) (fun _ h9 => h9) rfl dX0_copyFrom_43 ?_
  refine lv_iconst (v := 0) hx hb dX0_copyFrom_46 (by decide) ?_
  refine lv_aload_n hx hb dX0_copyFrom_47 rfl (lv_at hl 0 rfl) ?_
  refine va_get (D := (dC, dI)) (ci := 0) (v := .ref yem) (C := RX0) (T := TX0) (N := 8) hx hb hts iX0_copyFrom_X0 hown hK hP 0 rfl rfl 3 (by decide) (hts _ kX0_copyFrom_8) (fun _ h9 => h9) rfl dX0_copyFrom_48 ?_
  refine lv_iconst (v := 0) hx hb dX0_copyFrom_51 (by decide) ?_
  refine lv_bipush (v := 9) hx hb dX0_copyFrom_52 (by decide) ?_
  obtain ⟨v4, hv4, hF⟩ := lt_e hF
  refine x_copyl (ws' := [(ye, .inr (0, [.ref yel, .ref yeh, .ref yep, .ref yem, .ref yec, .ref yw, .ref yed, .ref yeg])), (yel, .inl (cyI, 3, .inl v1)), (yeh, .inl (cyI, 3, .inl v2)), (yep, .inl (cyI, 3, .inl v3)), (yem, .inl (cyJ, 9, .inr (.inl v4))), (yec, .inl (cyI, 5, .inl yCo)), (yed, .inl (cyJ, 3, .inr (.inl yDi))), (yeg, .inl (cyJ, 3, .inr (.inl yGa))), (yw, .inr (4, [.ref ywo, .ref ywi, .int yHd])), (ywo, .inl (cyI, 20, .inl yWo)), (ywi, .inl (cyI, 20, .inl yWi)), (ze, .inr (0, [.ref zel, .ref zeh, .ref zep, .ref zem, .ref zec, .ref zw, .ref zed, .ref zeg])), (zel, .inl (cyI, 3, .inl zLo)), (zeh, .inl (cyI, 3, .inl zHi)), (zep, .inl (cyI, 3, .inl zPa)), (zem, .inl (cyJ, 9, .inr (.inl zMa))), (zec, .inl (cyI, 5, .inl zCo)), (zed, .inl (cyJ, 3, .inr (.inl zDi))), (zeg, .inl (cyJ, 3, .inr (.inl zGa))), (zw, .inr (4, [.ref zwo, .ref zwi, .int zHd])), (zwo, .inl (cyI, 20, .inl zWo)), (zwi, .inl (cyI, 20, .inl zWi))]) hx hb (hml.trans hl.1.symm) hown (hts _ kX0_copyFrom_2) (hts _ kX0_copyFrom_3) (hts _ kX0_copyFrom_4) (hts _ kX0_copyFrom_5) hK hP hD hS 15 4 1 rfl rfl rfl rfl (by decide : (0 : Int32).toNatClampNeg = 0 ∧ ¬ (0 : Int32) < 0) (by decide : (0 : Int32).toNatClampNeg = 0 ∧ ¬ (0 : Int32) < 0) (by decide : (9 : Int32).toNatClampNeg = 9 ∧ ¬ (9 : Int32) < 0) (Nat.le_of_ble_eq_true rfl) (Nat.le_of_ble_eq_true rfl) (fun _ => rfl) (Nat.le_of_ble_eq_true rfl) (Nat.le_of_ble_eq_true rfl) hv4 rfl dX0_copyFrom_54 (fun H locs hP hD hS => ?_)
  refine lv_aload_n hx hb dX0_copyFrom_57 rfl (lv_at hl 1 rfl) ?_
  refine va_get (D := (dC, dI)) (ci := 0) (v := .ref zec) (C := RX0) (T := TX0) (N := 8) hx hb hts iX0_copyFrom_X0 hown hK hP 11 rfl rfl 4 (by decide) (hts _ kX0_copyFrom_9) (fun _ h9 => h9) rfl dX0_copyFrom_58 ?_
  refine lv_iconst (v := 0) hx hb dX0_copyFrom_61 (by decide) ?_
  refine lv_aload_n hx hb dX0_copyFrom_62 rfl (lv_at hl 0 rfl) ?_
  refine va_get (D := (dC, dI)) (ci := 0) (v := .ref yec) (C := RX0) (T := TX0) (N := 8) hx hb hts iX0_copyFrom_X0 hown hK hP 0 rfl rfl 4 (by decide) (hts _ kX0_copyFrom_9) (fun _ h9 => h9) rfl dX0_copyFrom_63 ?_
  refine lv_iconst (v := 0) hx hb dX0_copyFrom_66 (by decide) ?_
  refine lv_iconst (v := 5) hx hb dX0_copyFrom_67 (by decide) ?_
  obtain ⟨v5, hv5, hF⟩ := lt_e hF
  refine x_copyi (ws' := [(ye, .inr (0, [.ref yel, .ref yeh, .ref yep, .ref yem, .ref yec, .ref yw, .ref yed, .ref yeg])), (yel, .inl (cyI, 3, .inl v1)), (yeh, .inl (cyI, 3, .inl v2)), (yep, .inl (cyI, 3, .inl v3)), (yem, .inl (cyJ, 9, .inr (.inl v4))), (yec, .inl (cyI, 5, .inl v5)), (yed, .inl (cyJ, 3, .inr (.inl yDi))), (yeg, .inl (cyJ, 3, .inr (.inl yGa))), (yw, .inr (4, [.ref ywo, .ref ywi, .int yHd])), (ywo, .inl (cyI, 20, .inl yWo)), (ywi, .inl (cyI, 20, .inl yWi)), (ze, .inr (0, [.ref zel, .ref zeh, .ref zep, .ref zem, .ref zec, .ref zw, .ref zed, .ref zeg])), (zel, .inl (cyI, 3, .inl zLo)), (zeh, .inl (cyI, 3, .inl zHi)), (zep, .inl (cyI, 3, .inl zPa)), (zem, .inl (cyJ, 9, .inr (.inl zMa))), (zec, .inl (cyI, 5, .inl zCo)), (zed, .inl (cyJ, 3, .inr (.inl zDi))), (zeg, .inl (cyJ, 3, .inr (.inl zGa))), (zw, .inr (4, [.ref zwo, .ref zwi, .int zHd])), (zwo, .inl (cyI, 20, .inl zWo)), (zwi, .inl (cyI, 20, .inl zWi))]) hx hb (hml.trans hl.1.symm) hown (hts _ kX0_copyFrom_2) (hts _ kX0_copyFrom_3) (hts _ kX0_copyFrom_4) (hts _ kX0_copyFrom_5) hK hP hD hS 16 5 0 rfl rfl rfl rfl (by decide : (0 : Int32).toNatClampNeg = 0 ∧ ¬ (0 : Int32) < 0) (by decide : (0 : Int32).toNatClampNeg = 0 ∧ ¬ (0 : Int32) < 0) (by decide : (5 : Int32).toNatClampNeg = 5 ∧ ¬ (5 : Int32) < 0) (Nat.le_of_ble_eq_true rfl) (Nat.le_of_ble_eq_true rfl) (fun _ => rfl) (Nat.le_of_ble_eq_true rfl) (Nat.le_of_ble_eq_true rfl) hv5 rfl dX0_copyFrom_68 (fun H locs hP hD hS => ?_)
  refine lv_aload_n hx hb dX0_copyFrom_71 rfl (lv_at hl 0 rfl) ?_
  refine va_get (D := (dC, dI)) (ci := 0) (v := .ref yw) (C := RX0) (T := TX0) (N := 8) hx hb hts iX0_copyFrom_X0 hown hK hP 0 rfl rfl 5 (by decide) (hts _ kX0_copyFrom_10) (fun _ h9 => h9) rfl dX0_copyFrom_72 ?_
  refine lv_aload_n hx hb dX0_copyFrom_75 rfl (lv_at hl 1 rfl) ?_
  refine va_get (D := (dC, dI)) (ci := 0) (v := .ref zw) (C := RX0) (T := TX0) (N := 8) hx hb hts iX0_copyFrom_X0 hown hK hP 11 rfl rfl 5 (by decide) (hts _ kX0_copyFrom_10) (fun _ h9 => h9) rfl dX0_copyFrom_76 ?_
  obtain ⟨o6, ho6, hF⟩ := ob_e hF
  refine x_callv (wr := [(ye, .inr (0, [.ref yel, .ref yeh, .ref yep, .ref yem, .ref yec, .ref yw, .ref yed, .ref yeg])), (yel, .inl (cyI, 3, .inl v1)), (yeh, .inl (cyI, 3, .inl v2)), (yep, .inl (cyI, 3, .inl v3)), (yem, .inl (cyJ, 9, .inr (.inl v4))), (yec, .inl (cyI, 5, .inl v5)), (yed, .inl (cyJ, 3, .inr (.inl yDi))), (yeg, .inl (cyJ, 3, .inr (.inl yGa))), (ze, .inr (0, [.ref zel, .ref zeh, .ref zep, .ref zem, .ref zec, .ref zw, .ref zed, .ref zeg])), (zel, .inl (cyI, 3, .inl zLo)), (zeh, .inl (cyI, 3, .inl zHi)), (zep, .inl (cyI, 3, .inl zPa)), (zem, .inl (cyJ, 9, .inr (.inl zMa))), (zec, .inl (cyI, 5, .inl zCo)), (zed, .inl (cyJ, 3, .inr (.inl zDi))), (zeg, .inl (cyJ, 3, .inr (.inl zGa)))]) (ws' := [(ye, .inr (0, [.ref yel, .ref yeh, .ref yep, .ref yem, .ref yec, .ref yw, .ref yed, .ref yeg])), (yel, .inl (cyI, 3, .inl v1)), (yeh, .inl (cyI, 3, .inl v2)), (yep, .inl (cyI, 3, .inl v3)), (yem, .inl (cyJ, 9, .inr (.inl v4))), (yec, .inl (cyI, 5, .inl v5)), (yed, .inl (cyJ, 3, .inr (.inl yDi))), (yeg, .inl (cyJ, 3, .inr (.inl yGa))), (yw, .inr (4, [.ref ywo, .ref ywi, .int o6.1])), (ywo, .inl (cyI, 20, .inl o6.2.1)), (ywi, .inl (cyI, 20, .inl o6.2.2)), (ze, .inr (0, [.ref zel, .ref zeh, .ref zep, .ref zem, .ref zec, .ref zw, .ref zed, .ref zeg])), (zel, .inl (cyI, 3, .inl zLo)), (zeh, .inl (cyI, 3, .inl zHi)), (zep, .inl (cyI, 3, .inl zPa)), (zem, .inl (cyJ, 9, .inr (.inl zMa))), (zec, .inl (cyI, 5, .inl zCo)), (zed, .inl (cyJ, 3, .inr (.inl zDi))), (zeg, .inl (cyJ, 3, .inr (.inl zGa))), (zw, .inr (4, [.ref zwo, .ref zwi, .int zHd])), (zwo, .inl (cyI, 20, .inl zWo)), (zwi, .inl (cyI, 20, .inl zWi))]) (va_runVN (As := [.ref zw]) (rest := []) ⟨hx, hb, hml, hown, hts⟩ (c_X4_copyFrom l dC dI cyI cyJ cyB cyS cyD yw ywo ywi zw zwo zwi H.size yHd yWo yWi zHd zWo zWi ho6) ⟨va_cnB 1 hts gX0_copyFrom_X4_copyFrom_n52 rfl rfl rfl (nm_X0_52 hN) (hts _ kX0_copyFrom_12) (by decide +kernel) ⟨Nat.le_of_ble_eq_true rfl, Nat.le_of_ble_eq_true rfl⟩, hts _ kX0_copyFrom_11, hts _ kX0_copyFrom_13⟩ ⟨cPre_blind, va_recv hK hP (ci := 4) (q0 := 8) rfl rfl, x_pre hN hP hD hK [8, 9, 10, 19, 20, 21] rfl rfl⟩ rfl rfl hl.1 rfl (lv_room (Nat.le_of_ble_eq_true rfl)) dX0_copyFrom_79 ⟨Nat.le_of_ble_eq_true rfl, Nat.le_of_ble_eq_true rfl⟩) hP hD hS hA [8, 9, 10, 19, 20, 21] [0, 1, 2, 3, 4, 5, 6, 7, 11, 12, 13, 14, 15, 16, 17, 18] [0, 1, 2, 3, 4, 5, 6, 7, 16, 17, 18, 8, 9, 10, 11, 12, 13, 14, 15, 19, 20, 21] rfl rfl rfl (by decide) rfl rfl (fun H locs hP hD hS => ?_)
  obtain rfl := some_e hF
  exact W.vret hx hb hr (fun t ht hW => ⟨⟨(), rfl, trivial, ⟨by rw [ht]; exact hP, va_K.moved hW.alike hK, hD⟩⟩, hS.F ht⟩) hS.2.2 dX0_copyFrom_82
def F_X0_bringIntoBox (yLo : Nat → Int32) (yHi : Nat → Int32) (yPa : Nat → Int32) (w1 : Int32) (w2 : Int64) : Option (Int32 × (Nat → Int32)) := ck (inb w1 3) (ck (inb w1 3) (ob (F_X5_bring w2 ((yLo w1.toNatClampNeg).toInt64) ((yHi w1.toNatClampNeg).toInt64)) (fun o3 => ck (inb w1 3) (lt_ (α := Nat → Int32) (upd yPa w1.toNatClampNeg o3.toInt32) (fun v5 => if (o3 : Int64) = w2 then (some (0, v5)) else (some (1, v5)))))))
theorem kX0_bringIntoBox_1 : (Cond.fieldLink RX0 10 "SelfTuner$Estimator" "low" "[I") ∈ wsX0_bringIntoBox := List.mem_of_getElem? (i := 1) rfl
theorem kX0_bringIntoBox_2 : (Cond.fieldLink RX0 17 "SelfTuner$Estimator" "high" "[I") ∈ wsX0_bringIntoBox := List.mem_of_getElem? (i := 2) rfl
theorem kX0_bringIntoBox_3 : (Cond.fieldLink RX0 20 "SelfTuner$Estimator" "parameters" "[I") ∈ wsX0_bringIntoBox := List.mem_of_getElem? (i := 3) rfl
theorem kX0_bringIntoBox_4 : (Cond.static yX5_bring) ∈ wsX0_bringIntoBox := List.mem_of_getElem? (i := 4) rfl
theorem kX0_bringIntoBox_5 : (Cond.initialized RX5) ∈ wsX0_bringIntoBox := List.mem_of_getElem? (i := 5) rfl
theorem iX0_bringIntoBox_X0 : ∀ w ∈ wsX00, w ∈ wsX0_bringIntoBox := fun w h => List.mem_cons_of_mem _ (List.mem_append_right _ h)
set_option maxHeartbeats 4000000 in
set_option maxRecDepth 100000 in
theorem c_X0_bringIntoBox (l : Launch) (dC : Nat → ClassId) (dI : Nat → Nat → Nat) (cyI cyJ cyB cyS cyD : ClassId) (ye : Nat) (yel : Nat) (yeh : Nat) (yep : Nat) (yem : Nat) (yec : Nat) (yw : Nat) (yed : Nat) (yeg : Nat) (ywo : Nat) (ywi : Nat) (sz : Nat) (yLo : Nat → Int32) (yHi : Nat → Int32) (yPa : Nat → Int32) (yMa : Nat → Int64) (yCo : Nat → Int32) (yDi : Nat → Int64) (yGa : Nat → Int64) (yHd : Int32) (yWo : Nat → Int32) (yWi : Nat → Int32) (w1 : Int32) (w2 : Int64) {out : Int32 × (Nat → Int32)} (hF : F_X0_bringIntoBox yLo yHi yPa w1 w2 = some out) : Mi l yX0_bringIntoBox wsX0_bringIntoBox ({ frames := 1, cells := 0, slots := 0, locals := 25 } : Room) (dC, dI) [(cyI, .int), (cyJ, .long), (cyB, .byte), (cyS, .object "SelfTuner$State"), (cyD, .double)] sz [.ref ye, .int w1, .long w2] [(ye, .inr (0, [.ref yel, .ref yeh, .ref yep, .ref yem, .ref yec, .ref yw, .ref yed, .ref yeg])), (yel, .inl (cyI, 3, .inl yLo)), (yeh, .inl (cyI, 3, .inl yHi)), (yep, .inl (cyI, 3, .inl yPa)), (yem, .inl (cyJ, 9, .inr (.inl yMa))), (yec, .inl (cyI, 5, .inl yCo)), (yed, .inl (cyJ, 3, .inr (.inl yDi))), (yeg, .inl (cyJ, 3, .inr (.inl yGa))), (yw, .inr (4, [.ref ywo, .ref ywi, .int yHd])), (ywo, .inl (cyI, 20, .inl yWo)), (ywi, .inl (cyI, 20, .inl yWi))] out.1 [(ye, .inr (0, [.ref yel, .ref yeh, .ref yep, .ref yem, .ref yec, .ref yw, .ref yed, .ref yeg])), (yel, .inl (cyI, 3, .inl yLo)), (yeh, .inl (cyI, 3, .inl yHi)), (yep, .inl (cyI, 3, .inl out.2)), (yem, .inl (cyJ, 9, .inr (.inl yMa))), (yec, .inl (cyI, 5, .inl yCo)), (yed, .inl (cyJ, 3, .inr (.inl yDi))), (yeg, .inl (cyJ, 3, .inr (.inl yGa))), (yw, .inr (4, [.ref ywo, .ref ywi, .int yHd])), (ywo, .inl (cyI, 20, .inl yWo)), (ywi, .inl (cyI, 20, .inl yWi))] := by
  refine Met.ofW (cc := cX0_bringIntoBox) (maxL := 6) (ret := (some .boolean)) (by decide) rfl ?_
  intro p e s m args below meth c s₁ B hml hv
  obtain ⟨rfl, hN, hsz, hP, hK, hD0⟩ := hv
  have hx := B.exec
  have hb := B.bytes
  have hr := B.returns
  have hts := atoms_spec (ws := wsX0_bringIntoBox) B.pre
  have hown : s.vm.findClass RX0 = some m.cls := findClass_of_methodNamed B.named
  have hlocks := B.notSynchronized
  subst hsz
  have hD := hD0.self (sz := s.heap.size)
  generalize hAe : va_A [(ye, .inr (0, [.ref yel, .ref yeh, .ref yep, .ref yem, .ref yec, .ref yw, .ref yed, .ref yeg])), (yel, .inl (cyI, 3, .inl yLo)), (yeh, .inl (cyI, 3, .inl yHi)), (yep, .inl (cyI, 3, .inl yPa)), (yem, .inl (cyJ, 9, .inr (.inl yMa))), (yec, .inl (cyI, 5, .inl yCo)), (yed, .inl (cyJ, 3, .inr (.inl yDi))), (yeg, .inl (cyJ, 3, .inr (.inl yGa))), (yw, .inr (4, [.ref ywo, .ref ywi, .int yHd])), (ywo, .inl (cyI, 20, .inl yWo)), (ywi, .inl (cyI, 20, .inl yWi))] s.heap.size = A at hD ⊢
  have hA : ∀ q : Nat, s.heap.size ≤ q → A q := fun q h => by rw [← hAe]; exact Or.inr h
  have hS : va_S A s.heap s.heap [] := va_S.rf
  have hP : va_P (dC, dI) vwCl [(ye, .inr (0, [.ref yel, .ref yeh, .ref yep, .ref yem, .ref yec, .ref yw, .ref yed, .ref yeg])), (yel, .inl (cyI, 3, .inl yLo)), (yeh, .inl (cyI, 3, .inl yHi)), (yep, .inl (cyI, 3, .inl yPa)), (yem, .inl (cyJ, 9, .inr (.inl yMa))), (yec, .inl (cyI, 5, .inl yCo)), (yed, .inl (cyJ, 3, .inr (.inl yDi))), (yeg, .inl (cyJ, 3, .inr (.inl yGa))), (yw, .inr (4, [.ref ywo, .ref ywi, .int yHd])), (ywo, .inl (cyI, 20, .inl yWo)), (ywi, .inl (cyI, 20, .inl yWi))] s.heap := hP
  have hl := lv_entry ([.ref ye, .int w1, .long w2]) (n := 6) (Nat.le_of_ble_eq_true rfl)
  rw [lg_entry_eq]
  generalize (lg_sl ([.ref ye, .int w1, .long w2]) ++ List.replicate (6 - (lg_sl ([.ref ye, .int w1, .long w2])).length) Slot.unset).toArray = ls at hl ⊢
  have hl : lv_has ls 6 [(0, .ref ye), (1, .int w1), (2, .long w2)] := hl
  unfold F_X0_bringIntoBox at hF
  refine lv_lload_n hx hb dX0_bringIntoBox_0 rfl (lv_at hl 2 rfl) ?_
  refine lv_aload_n hx hb dX0_bringIntoBox_1 rfl (lv_at hl 0 rfl) ?_
  refine va_get (D := (dC, dI)) (ci := 0) (v := .ref yel) (C := RX0) (T := TX0) (N := 8) hx hb hts iX0_bringIntoBox_X0 hown hK hP 0 rfl rfl 0 (by decide) (hts _ kX0_bringIntoBox_1) (fun _ h9 => h9) rfl dX0_bringIntoBox_2 ?_
  refine lv_iload_n hx hb dX0_bringIntoBox_5 rfl (lv_at hl 1 rfl) ?_
  obtain ⟨g1, hF⟩ := ck_e hF
  refine x_iald hx hb hK hP 1 0 rfl rfl rfl g1 dX0_bringIntoBox_6 ?_
  refine lv_i2l (v := (yLo w1.toNatClampNeg).toInt64) hx hb dX0_bringIntoBox_7 rfl ?_
  refine lv_aload_n hx hb dX0_bringIntoBox_8 rfl (lv_at hl 0 rfl) ?_
  refine va_get (D := (dC, dI)) (ci := 0) (v := .ref yeh) (C := RX0) (T := TX0) (N := 8) hx hb hts iX0_bringIntoBox_X0 hown hK hP 0 rfl rfl 1 (by decide) (hts _ kX0_bringIntoBox_2) (fun _ h9 => h9) rfl dX0_bringIntoBox_9 ?_
  refine lv_iload_n hx hb dX0_bringIntoBox_12 rfl (lv_at hl 1 rfl) ?_
  obtain ⟨g2, hF⟩ := ck_e hF
  refine x_iald hx hb hK hP 2 0 rfl rfl rfl g2 dX0_bringIntoBox_13 ?_
  refine lv_i2l (v := (yHi w1.toNatClampNeg).toInt64) hx hb dX0_bringIntoBox_14 rfl ?_
  obtain ⟨o3, ho3, hF⟩ := ob_e hF
  refine x_callzl (va_runSN (As := [.long w2, .long ((yLo w1.toNatClampNeg).toInt64), .long ((yHi w1.toNatClampNeg).toInt64)]) (rest := []) ⟨hx, hb, hml, hown, hts⟩ (c_X5_bring l w2 ((yLo w1.toNatClampNeg).toInt64) ((yHi w1.toNatClampNeg).toInt64) ho3) ⟨va_cnB 3 hts gX0_bringIntoBox_X5_bring_n71 rfl rfl rfl (nm_X0_71 hN) (hts _ kX0_bringIntoBox_5) (by decide +kernel) ⟨Nat.le_of_ble_eq_true rfl, Nat.le_of_ble_eq_true rfl⟩, hts _ kX0_bringIntoBox_4, trivial⟩ ⟨true_blind, fun _ _ _ => ⟨rfl, trivial⟩⟩ rfl rfl hl.1 rfl (lv_room (Nat.le_of_ble_eq_true rfl)) dX0_bringIntoBox_15 ⟨Nat.le_of_ble_eq_true rfl, Nat.le_of_ble_eq_true rfl⟩) ?_
  refine lv_lstore (lv' := [(4, .long o3), (0, .ref ye), (1, .int w1), (2, .long w2)]) hx hb dX0_bringIntoBox_18 hl (by decide) rfl (fun ls hl => ?_)
  refine lv_aload_n hx hb dX0_bringIntoBox_20 rfl (lv_at hl 1 rfl) ?_
  refine va_get (D := (dC, dI)) (ci := 0) (v := .ref yep) (C := RX0) (T := TX0) (N := 8) hx hb hts iX0_bringIntoBox_X0 hown hK hP 0 rfl rfl 2 (by decide) (hts _ kX0_bringIntoBox_3) (fun _ h9 => h9) rfl dX0_bringIntoBox_21 ?_
  refine lv_iload_n hx hb dX0_bringIntoBox_24 rfl (lv_at hl 2 rfl) ?_
  refine lv_lload hx hb dX0_bringIntoBox_25 (lv_at hl 0 rfl) ?_
  refine lv_l2i (v := o3.toInt32) hx hb dX0_bringIntoBox_27 rfl ?_
  obtain ⟨g4, hF⟩ := ck_e hF
  obtain ⟨v5, hv5, hF⟩ := lt_e hF
  refine x_iast (ws' := [(ye, .inr (0, [.ref yel, .ref yeh, .ref yep, .ref yem, .ref yec, .ref yw, .ref yed, .ref yeg])), (yel, .inl (cyI, 3, .inl yLo)), (yeh, .inl (cyI, 3, .inl yHi)), (yep, .inl (cyI, 3, .inl v5)), (yem, .inl (cyJ, 9, .inr (.inl yMa))), (yec, .inl (cyI, 5, .inl yCo)), (yed, .inl (cyJ, 3, .inr (.inl yDi))), (yeg, .inl (cyJ, 3, .inr (.inl yGa))), (yw, .inr (4, [.ref ywo, .ref ywi, .int yHd])), (ywo, .inl (cyI, 20, .inl yWo)), (ywi, .inl (cyI, 20, .inl yWi))]) hx hb hK hP hD hS 3 0 rfl rfl rfl g4 hv5 rfl dX0_bringIntoBox_28 (fun H locs hP hD hS => ?_)
  refine lv_lload hx hb dX0_bringIntoBox_29 (lv_at hl 0 rfl) ?_
  refine lv_lload_n hx hb dX0_bringIntoBox_31 rfl (lv_at hl 3 rfl) ?_
  refine W.lcmp hx hb dX0_bringIntoBox_32 ?_
  refine x_il_eq (tgt := 40) hx hb dX0_bringIntoBox_33 (by decide) (fun c6 => ?_) (fun c6 => ?_)
  · have hF := ite_t hF c6
    refine lv_iconst (v := 0) hx hb dX0_bringIntoBox_40 (by decide) ?_
    obtain rfl := some_e hF
    exact W.zret (v := 0) hx hb hr rfl (fun t ht hW => ⟨⟨0, (), rfl, rfl, ⟨by rw [ht]; exact hP, va_K.moved hW.alike hK, hD⟩⟩, hS.F ht⟩) hS.2.2 dX0_bringIntoBox_41
  · have hF := ite_f hF c6
    refine lv_iconst (v := 1) hx hb dX0_bringIntoBox_36 (by decide) ?_
    refine lv_goto (tgt := 41) hx hb dX0_bringIntoBox_37 (by decide) ?_
    obtain rfl := some_e hF
    exact W.zret (v := 1) hx hb hr rfl (fun t ht hW => ⟨⟨1, (), rfl, rfl, ⟨by rw [ht]; exact hP, va_K.moved hW.alike hK, hD⟩⟩, hS.F ht⟩) hS.2.2 dX0_bringIntoBox_41
def F_X0_resetMatrix_9 (v3 : Int32) : Nat → (((Nat → Int64)) → Option ((Nat → Int64))) → Int32 → (Nat → Int64) → Option ((Nat → Int64))
  | 0, _, _, _ => none
  | n6 + 1, K7, v8, v9 => if (3 : Int32) ≤ v8 then (K7 v9) else (rg (α := Int64) (fun K13 => if (v3 : Int32) = v8 then (K13 6553600) else (K13 0)) (fun x12 => ck (inb ((3 * v3) + v8) 9) (lt_ (α := Nat → Int64) (vp_updL v9 (((3 * v3) + v8).toNatClampNeg) x12) (fun v15 => lt_ (α := Int32) (v8 + 1) (fun v16 => F_X0_resetMatrix_9 v3 n6 K7 v16 v15)))))
def F_X0_resetMatrix_2 : Nat → (((Nat → Int64)) → Option ((Nat → Int64))) → Int32 → (Nat → Int64) → Option ((Nat → Int64))
  | 0, _, _, _ => none
  | n1 + 1, K2, v3, v4 => if (3 : Int32) ≤ v3 then (K2 v4) else (F_X0_resetMatrix_9 v3 1000 (fun x17 => lt_ (α := Int32) (v3 + 1) (fun v18 => F_X0_resetMatrix_2 n1 K2 v18 x17)) 0 v4)
def F_X0_resetMatrix (yMa : Nat → Int64) : Option ((Nat → Int64)) := F_X0_resetMatrix_2 1000 (fun x19 => some x19) 0 yMa
theorem kX0_resetMatrix_1 : (Cond.fieldLink RX0 23 "SelfTuner$Estimator" "matrix" "[J") ∈ wsX0_resetMatrix := List.mem_of_getElem? (i := 1) rfl
theorem kX0_resetMatrix_2 : (Cond.constantLong RX0 69 (6553600)) ∈ wsX0_resetMatrix := List.mem_of_getElem? (i := 2) rfl
theorem iX0_resetMatrix_X0 : ∀ w ∈ wsX00, w ∈ wsX0_resetMatrix := fun w h => List.mem_cons_of_mem _ (List.mem_append_right _ h)
set_option maxHeartbeats 4000000 in
set_option maxRecDepth 100000 in
theorem c_X0_resetMatrix (l : Launch) (dC : Nat → ClassId) (dI : Nat → Nat → Nat) (cyI cyJ cyB cyS cyD : ClassId) (ye : Nat) (yel : Nat) (yeh : Nat) (yep : Nat) (yem : Nat) (yec : Nat) (yw : Nat) (yed : Nat) (yeg : Nat) (ywo : Nat) (ywi : Nat) (sz : Nat) (yLo : Nat → Int32) (yHi : Nat → Int32) (yPa : Nat → Int32) (yMa : Nat → Int64) (yCo : Nat → Int32) (yDi : Nat → Int64) (yGa : Nat → Int64) (yHd : Int32) (yWo : Nat → Int32) (yWi : Nat → Int32) {out : (Nat → Int64)} (hF : F_X0_resetMatrix yMa = some out) : Mv l yX0_resetMatrix wsX0_resetMatrix ({ frames := 0, cells := 0, slots := 0, locals := 0 } : Room) (dC, dI) [(cyI, .int), (cyJ, .long), (cyB, .byte), (cyS, .object "SelfTuner$State"), (cyD, .double)] sz [.ref ye] [(ye, .inr (0, [.ref yel, .ref yeh, .ref yep, .ref yem, .ref yec, .ref yw, .ref yed, .ref yeg])), (yel, .inl (cyI, 3, .inl yLo)), (yeh, .inl (cyI, 3, .inl yHi)), (yep, .inl (cyI, 3, .inl yPa)), (yem, .inl (cyJ, 9, .inr (.inl yMa))), (yec, .inl (cyI, 5, .inl yCo)), (yed, .inl (cyJ, 3, .inr (.inl yDi))), (yeg, .inl (cyJ, 3, .inr (.inl yGa))), (yw, .inr (4, [.ref ywo, .ref ywi, .int yHd])), (ywo, .inl (cyI, 20, .inl yWo)), (ywi, .inl (cyI, 20, .inl yWi))] [(ye, .inr (0, [.ref yel, .ref yeh, .ref yep, .ref yem, .ref yec, .ref yw, .ref yed, .ref yeg])), (yel, .inl (cyI, 3, .inl yLo)), (yeh, .inl (cyI, 3, .inl yHi)), (yep, .inl (cyI, 3, .inl yPa)), (yem, .inl (cyJ, 9, .inr (.inl out))), (yec, .inl (cyI, 5, .inl yCo)), (yed, .inl (cyJ, 3, .inr (.inl yDi))), (yeg, .inl (cyJ, 3, .inr (.inl yGa))), (yw, .inr (4, [.ref ywo, .ref ywi, .int yHd])), (ywo, .inl (cyI, 20, .inl yWo)), (ywi, .inl (cyI, 20, .inl yWi))] := by
  refine Met.ofW (cc := cX0_resetMatrix) (maxL := 3) (ret := none) (by decide) rfl ?_
  intro p e s m args below meth c s₁ B hml hv
  obtain ⟨rfl, hN, hsz, hP, hK, hD0⟩ := hv
  have hx := B.exec
  have hb := B.bytes
  have hr := B.returns
  have hts := atoms_spec (ws := wsX0_resetMatrix) B.pre
  have hown : s.vm.findClass RX0 = some m.cls := findClass_of_methodNamed B.named
  have hlocks := B.notSynchronized
  subst hsz
  have hD := hD0.self (sz := s.heap.size)
  generalize hAe : va_A [(ye, .inr (0, [.ref yel, .ref yeh, .ref yep, .ref yem, .ref yec, .ref yw, .ref yed, .ref yeg])), (yel, .inl (cyI, 3, .inl yLo)), (yeh, .inl (cyI, 3, .inl yHi)), (yep, .inl (cyI, 3, .inl yPa)), (yem, .inl (cyJ, 9, .inr (.inl yMa))), (yec, .inl (cyI, 5, .inl yCo)), (yed, .inl (cyJ, 3, .inr (.inl yDi))), (yeg, .inl (cyJ, 3, .inr (.inl yGa))), (yw, .inr (4, [.ref ywo, .ref ywi, .int yHd])), (ywo, .inl (cyI, 20, .inl yWo)), (ywi, .inl (cyI, 20, .inl yWi))] s.heap.size = A at hD ⊢
  have hA : ∀ q : Nat, s.heap.size ≤ q → A q := fun q h => by rw [← hAe]; exact Or.inr h
  have hS : va_S A s.heap s.heap [] := va_S.rf
  have hP : va_P (dC, dI) vwCl [(ye, .inr (0, [.ref yel, .ref yeh, .ref yep, .ref yem, .ref yec, .ref yw, .ref yed, .ref yeg])), (yel, .inl (cyI, 3, .inl yLo)), (yeh, .inl (cyI, 3, .inl yHi)), (yep, .inl (cyI, 3, .inl yPa)), (yem, .inl (cyJ, 9, .inr (.inl yMa))), (yec, .inl (cyI, 5, .inl yCo)), (yed, .inl (cyJ, 3, .inr (.inl yDi))), (yeg, .inl (cyJ, 3, .inr (.inl yGa))), (yw, .inr (4, [.ref ywo, .ref ywi, .int yHd])), (ywo, .inl (cyI, 20, .inl yWo)), (ywi, .inl (cyI, 20, .inl yWi))] s.heap := hP
  have hl := lv_entry ([.ref ye]) (n := 3) (Nat.le_of_ble_eq_true rfl)
  rw [lg_entry_eq]
  generalize (lg_sl ([.ref ye]) ++ List.replicate (3 - (lg_sl ([.ref ye])).length) Slot.unset).toArray = ls at hl ⊢
  have hl : lv_has ls 3 [(0, .ref ye)] := hl
  unfold F_X0_resetMatrix at hF
  refine lv_iconst (v := 0) hx hb dX0_resetMatrix_0 (by decide) ?_
  refine lv_istore_n (lv' := [(1, .int 0), (0, .ref ye)]) hx hb dX0_resetMatrix_1 rfl hl (by decide) rfl (fun ls hl => ?_)
  have Ln1 : ∀ (n1 : Nat) (K2 : ((Nat → Int64)) → Option ((Nat → Int64))) (v3 : Int32) (v4 : Nat → Int64) (H : Heap) (locs : List Loc) (ls : Array Slot), F_X0_resetMatrix_2 n1 K2 v3 v4 = some out → va_P (dC, dI) vwCl [(ye, .inr (0, [.ref yel, .ref yeh, .ref yep, .ref yem, .ref yec, .ref yw, .ref yed, .ref yeg])), (yel, .inl (cyI, 3, .inl yLo)), (yeh, .inl (cyI, 3, .inl yHi)), (yep, .inl (cyI, 3, .inl yPa)), (yem, .inl (cyJ, 9, .inr (.inl v4))), (yec, .inl (cyI, 5, .inl yCo)), (yed, .inl (cyJ, 3, .inr (.inl yDi))), (yeg, .inl (cyJ, 3, .inr (.inl yGa))), (yw, .inr (4, [.ref ywo, .ref ywi, .int yHd])), (ywo, .inl (cyI, 20, .inl yWo)), (ywi, .inl (cyI, 20, .inl yWi))] H → va_D A [(ye, .inr (0, [.ref yel, .ref yeh, .ref yep, .ref yem, .ref yec, .ref yw, .ref yed, .ref yeg])), (yel, .inl (cyI, 3, .inl yLo)), (yeh, .inl (cyI, 3, .inl yHi)), (yep, .inl (cyI, 3, .inl yPa)), (yem, .inl (cyJ, 9, .inr (.inl v4))), (yec, .inl (cyI, 5, .inl yCo)), (yed, .inl (cyJ, 3, .inr (.inl yDi))), (yeg, .inl (cyJ, 3, .inr (.inl yGa))), (yw, .inr (4, [.ref ywo, .ref ywi, .int yHd])), (ywo, .inl (cyI, 20, .inl yWo)), (ywi, .inl (cyI, 20, .inl yWi))] → va_S A s.heap H locs → lv_has ls 3 [(0, .ref ye), (1, .int v3)] → (∀ (x19 : (Nat → Int64)) (H : Heap) (locs : List Loc) (ls : Array Slot), K2 x19 = some out → va_P (dC, dI) vwCl [(ye, .inr (0, [.ref yel, .ref yeh, .ref yep, .ref yem, .ref yec, .ref yw, .ref yed, .ref yeg])), (yel, .inl (cyI, 3, .inl yLo)), (yeh, .inl (cyI, 3, .inl yHi)), (yep, .inl (cyI, 3, .inl yPa)), (yem, .inl (cyJ, 9, .inr (.inl x19))), (yec, .inl (cyI, 5, .inl yCo)), (yed, .inl (cyJ, 3, .inr (.inl yDi))), (yeg, .inl (cyJ, 3, .inr (.inl yGa))), (yw, .inr (4, [.ref ywo, .ref ywi, .int yHd])), (ywo, .inl (cyI, 20, .inl yWo)), (ywi, .inl (cyI, 20, .inl yWi))] H → va_D A [(ye, .inr (0, [.ref yel, .ref yeh, .ref yep, .ref yem, .ref yec, .ref yw, .ref yed, .ref yeg])), (yel, .inl (cyI, 3, .inl yLo)), (yeh, .inl (cyI, 3, .inl yHi)), (yep, .inl (cyI, 3, .inl yPa)), (yem, .inl (cyJ, 9, .inr (.inl x19))), (yec, .inl (cyI, 5, .inl yCo)), (yed, .inl (cyJ, 3, .inr (.inl yDi))), (yeg, .inl (cyJ, 3, .inr (.inl yGa))), (yw, .inr (4, [.ref ywo, .ref ywi, .int yHd])), (ywo, .inl (cyI, 20, .inl yWo)), (ywi, .inl (cyI, 20, .inl yWi))] → va_S A s.heap H locs → lv_has ls 3 [] → W p l e (headSpec wsX0_resetMatrix ({ frames := 0, cells := 0, slots := 0, locals := 0 } : Room)).room s m ([.ref ye] : List Value).toArray below meth c H locs 0 0 (MQ below (va_Qv (fun (_ : Unit) => True) (cPost (dC, dI) [(cyI, .int), (cyJ, .long), (cyB, .byte), (cyS, .object "SelfTuner$State"), (cyD, .double)] [(ye, .inr (0, [.ref yel, .ref yeh, .ref yep, .ref yem, .ref yec, .ref yw, .ref yed, .ref yeg])), (yel, .inl (cyI, 3, .inl yLo)), (yeh, .inl (cyI, 3, .inl yHi)), (yep, .inl (cyI, 3, .inl yPa)), (yem, .inl (cyJ, 9, .inr (.inl out))), (yec, .inl (cyI, 5, .inl yCo)), (yed, .inl (cyJ, 3, .inr (.inl yDi))), (yeg, .inl (cyJ, 3, .inr (.inl yGa))), (yw, .inr (4, [.ref ywo, .ref ywi, .int yHd])), (ywo, .inl (cyI, 20, .inl yWo)), (ywi, .inl (cyI, 20, .inl yWi))] A) A) ([.ref ye] : List Value).toArray s 0 0 A) (F0 m 48 ls [])) → W p l e (headSpec wsX0_resetMatrix ({ frames := 0, cells := 0, slots := 0, locals := 0 } : Room)).room s m ([.ref ye] : List Value).toArray below meth c H locs 0 0 (MQ below (va_Qv (fun (_ : Unit) => True) (cPost (dC, dI) [(cyI, .int), (cyJ, .long), (cyB, .byte), (cyS, .object "SelfTuner$State"), (cyD, .double)] [(ye, .inr (0, [.ref yel, .ref yeh, .ref yep, .ref yem, .ref yec, .ref yw, .ref yed, .ref yeg])), (yel, .inl (cyI, 3, .inl yLo)), (yeh, .inl (cyI, 3, .inl yHi)), (yep, .inl (cyI, 3, .inl yPa)), (yem, .inl (cyJ, 9, .inr (.inl out))), (yec, .inl (cyI, 5, .inl yCo)), (yed, .inl (cyJ, 3, .inr (.inl yDi))), (yeg, .inl (cyJ, 3, .inr (.inl yGa))), (yw, .inr (4, [.ref ywo, .ref ywi, .int yHd])), (ywo, .inl (cyI, 20, .inl yWo)), (ywi, .inl (cyI, 20, .inl yWi))] A) A) ([.ref ye] : List Value).toArray s 0 0 A) (F0 m 2 ls []) := by
    intro n1
    induction n1 with
    | zero => intro K2 v3 v4 H locs ls hF; exact no_e (show none = some out from hF)
    | succ n1 ihn1 =>
      intro K2 v3 v4 H locs ls hF hP hD hS hl kxn1
      rw [F_X0_resetMatrix_2] at hF
      refine lv_iload_n hx hb dX0_resetMatrix_2 rfl (lv_at hl 1 rfl) ?_
      refine lv_iconst (v := 3) hx hb dX0_resetMatrix_3 (by decide) ?_
      refine lv_icmp_ge (tgt := 48) hx hb dX0_resetMatrix_4 (by decide) (fun c5 => ?_) (fun c5 => ?_)
      · have hF := ite_t hF c5
        exact kxn1 _ _ _ _ hF hP hD hS (lv_sub hl [] rfl)
      · have hF := ite_f hF c5
        refine lv_iconst (v := 0) hx hb dX0_resetMatrix_7 (by decide) ?_
        refine lv_istore_n (lv' := [(2, .int 0), (0, .ref ye), (1, .int v3)]) hx hb dX0_resetMatrix_8 rfl hl (by decide) rfl (fun ls hl => ?_)
        have Ln6 : ∀ (n6 : Nat) (K7 : ((Nat → Int64)) → Option ((Nat → Int64))) (v8 : Int32) (v9 : Nat → Int64) (H : Heap) (locs : List Loc) (ls : Array Slot), F_X0_resetMatrix_9 v3 n6 K7 v8 v9 = some out → va_P (dC, dI) vwCl [(ye, .inr (0, [.ref yel, .ref yeh, .ref yep, .ref yem, .ref yec, .ref yw, .ref yed, .ref yeg])), (yel, .inl (cyI, 3, .inl yLo)), (yeh, .inl (cyI, 3, .inl yHi)), (yep, .inl (cyI, 3, .inl yPa)), (yem, .inl (cyJ, 9, .inr (.inl v9))), (yec, .inl (cyI, 5, .inl yCo)), (yed, .inl (cyJ, 3, .inr (.inl yDi))), (yeg, .inl (cyJ, 3, .inr (.inl yGa))), (yw, .inr (4, [.ref ywo, .ref ywi, .int yHd])), (ywo, .inl (cyI, 20, .inl yWo)), (ywi, .inl (cyI, 20, .inl yWi))] H → va_D A [(ye, .inr (0, [.ref yel, .ref yeh, .ref yep, .ref yem, .ref yec, .ref yw, .ref yed, .ref yeg])), (yel, .inl (cyI, 3, .inl yLo)), (yeh, .inl (cyI, 3, .inl yHi)), (yep, .inl (cyI, 3, .inl yPa)), (yem, .inl (cyJ, 9, .inr (.inl v9))), (yec, .inl (cyI, 5, .inl yCo)), (yed, .inl (cyJ, 3, .inr (.inl yDi))), (yeg, .inl (cyJ, 3, .inr (.inl yGa))), (yw, .inr (4, [.ref ywo, .ref ywi, .int yHd])), (ywo, .inl (cyI, 20, .inl yWo)), (ywi, .inl (cyI, 20, .inl yWi))] → va_S A s.heap H locs → lv_has ls 3 [(0, .ref ye), (1, .int v3), (2, .int v8)] → (∀ (x17 : (Nat → Int64)) (H : Heap) (locs : List Loc) (ls : Array Slot), K7 x17 = some out → va_P (dC, dI) vwCl [(ye, .inr (0, [.ref yel, .ref yeh, .ref yep, .ref yem, .ref yec, .ref yw, .ref yed, .ref yeg])), (yel, .inl (cyI, 3, .inl yLo)), (yeh, .inl (cyI, 3, .inl yHi)), (yep, .inl (cyI, 3, .inl yPa)), (yem, .inl (cyJ, 9, .inr (.inl x17))), (yec, .inl (cyI, 5, .inl yCo)), (yed, .inl (cyJ, 3, .inr (.inl yDi))), (yeg, .inl (cyJ, 3, .inr (.inl yGa))), (yw, .inr (4, [.ref ywo, .ref ywi, .int yHd])), (ywo, .inl (cyI, 20, .inl yWo)), (ywi, .inl (cyI, 20, .inl yWi))] H → va_D A [(ye, .inr (0, [.ref yel, .ref yeh, .ref yep, .ref yem, .ref yec, .ref yw, .ref yed, .ref yeg])), (yel, .inl (cyI, 3, .inl yLo)), (yeh, .inl (cyI, 3, .inl yHi)), (yep, .inl (cyI, 3, .inl yPa)), (yem, .inl (cyJ, 9, .inr (.inl x17))), (yec, .inl (cyI, 5, .inl yCo)), (yed, .inl (cyJ, 3, .inr (.inl yDi))), (yeg, .inl (cyJ, 3, .inr (.inl yGa))), (yw, .inr (4, [.ref ywo, .ref ywi, .int yHd])), (ywo, .inl (cyI, 20, .inl yWo)), (ywi, .inl (cyI, 20, .inl yWi))] → va_S A s.heap H locs → lv_has ls 3 [(0, .ref ye), (1, .int v3)] → W p l e (headSpec wsX0_resetMatrix ({ frames := 0, cells := 0, slots := 0, locals := 0 } : Room)).room s m ([.ref ye] : List Value).toArray below meth c H locs 0 0 (MQ below (va_Qv (fun (_ : Unit) => True) (cPost (dC, dI) [(cyI, .int), (cyJ, .long), (cyB, .byte), (cyS, .object "SelfTuner$State"), (cyD, .double)] [(ye, .inr (0, [.ref yel, .ref yeh, .ref yep, .ref yem, .ref yec, .ref yw, .ref yed, .ref yeg])), (yel, .inl (cyI, 3, .inl yLo)), (yeh, .inl (cyI, 3, .inl yHi)), (yep, .inl (cyI, 3, .inl yPa)), (yem, .inl (cyJ, 9, .inr (.inl out))), (yec, .inl (cyI, 5, .inl yCo)), (yed, .inl (cyJ, 3, .inr (.inl yDi))), (yeg, .inl (cyJ, 3, .inr (.inl yGa))), (yw, .inr (4, [.ref ywo, .ref ywi, .int yHd])), (ywo, .inl (cyI, 20, .inl yWo)), (ywi, .inl (cyI, 20, .inl yWi))] A) A) ([.ref ye] : List Value).toArray s 0 0 A) (F0 m 42 ls [])) → W p l e (headSpec wsX0_resetMatrix ({ frames := 0, cells := 0, slots := 0, locals := 0 } : Room)).room s m ([.ref ye] : List Value).toArray below meth c H locs 0 0 (MQ below (va_Qv (fun (_ : Unit) => True) (cPost (dC, dI) [(cyI, .int), (cyJ, .long), (cyB, .byte), (cyS, .object "SelfTuner$State"), (cyD, .double)] [(ye, .inr (0, [.ref yel, .ref yeh, .ref yep, .ref yem, .ref yec, .ref yw, .ref yed, .ref yeg])), (yel, .inl (cyI, 3, .inl yLo)), (yeh, .inl (cyI, 3, .inl yHi)), (yep, .inl (cyI, 3, .inl yPa)), (yem, .inl (cyJ, 9, .inr (.inl out))), (yec, .inl (cyI, 5, .inl yCo)), (yed, .inl (cyJ, 3, .inr (.inl yDi))), (yeg, .inl (cyJ, 3, .inr (.inl yGa))), (yw, .inr (4, [.ref ywo, .ref ywi, .int yHd])), (ywo, .inl (cyI, 20, .inl yWo)), (ywi, .inl (cyI, 20, .inl yWi))] A) A) ([.ref ye] : List Value).toArray s 0 0 A) (F0 m 9 ls []) := by
          intro n6
          induction n6 with
          | zero => intro K7 v8 v9 H locs ls hF; exact no_e (show none = some out from hF)
          | succ n6 ihn6 =>
            intro K7 v8 v9 H locs ls hF hP hD hS hl kxn6
            rw [F_X0_resetMatrix_9] at hF
            refine lv_iload_n hx hb dX0_resetMatrix_9 rfl (lv_at hl 2 rfl) ?_
            refine lv_iconst (v := 3) hx hb dX0_resetMatrix_10 (by decide) ?_
            refine lv_icmp_ge (tgt := 42) hx hb dX0_resetMatrix_11 (by decide) (fun c10 => ?_) (fun c10 => ?_)
            · have hF := ite_t hF c10
              exact kxn6 _ _ _ _ hF hP hD hS (lv_sub hl [0, 1] rfl)
            · have hF := ite_f hF c10
              refine lv_aload_n hx hb dX0_resetMatrix_14 rfl (lv_at hl 0 rfl) ?_
              refine va_get (D := (dC, dI)) (ci := 0) (v := .ref yem) (C := RX0) (T := TX0) (N := 8) hx hb hts iX0_resetMatrix_X0 hown hK hP 0 rfl rfl 3 (by decide) (hts _ kX0_resetMatrix_1) (fun _ h9 => h9) rfl dX0_resetMatrix_15 ?_
              refine lv_iconst (v := 3) hx hb dX0_resetMatrix_18 (by decide) ?_
              refine lv_iload_n hx hb dX0_resetMatrix_19 rfl (lv_at hl 1 rfl) ?_
              refine lv_imul hx hb dX0_resetMatrix_20 ?_
              refine lv_iload_n hx hb dX0_resetMatrix_21 rfl (lv_at hl 2 rfl) ?_
              refine lv_iadd hx hb dX0_resetMatrix_22 ?_
              refine lv_iload_n hx hb dX0_resetMatrix_23 rfl (lv_at hl 1 rfl) ?_
              refine lv_iload_n hx hb dX0_resetMatrix_24 rfl (lv_at hl 2 rfl) ?_
              obtain ⟨K13, hK13, hF⟩ := rg_e hF
              have Jx12 : ∀ (x12 : Int64) (H : Heap) (locs : List Loc) (ls : Array Slot), K13 x12 = some out → va_P (dC, dI) vwCl [(ye, .inr (0, [.ref yel, .ref yeh, .ref yep, .ref yem, .ref yec, .ref yw, .ref yed, .ref yeg])), (yel, .inl (cyI, 3, .inl yLo)), (yeh, .inl (cyI, 3, .inl yHi)), (yep, .inl (cyI, 3, .inl yPa)), (yem, .inl (cyJ, 9, .inr (.inl v9))), (yec, .inl (cyI, 5, .inl yCo)), (yed, .inl (cyJ, 3, .inr (.inl yDi))), (yeg, .inl (cyJ, 3, .inr (.inl yGa))), (yw, .inr (4, [.ref ywo, .ref ywi, .int yHd])), (ywo, .inl (cyI, 20, .inl yWo)), (ywi, .inl (cyI, 20, .inl yWi))] H → va_D A [(ye, .inr (0, [.ref yel, .ref yeh, .ref yep, .ref yem, .ref yec, .ref yw, .ref yed, .ref yeg])), (yel, .inl (cyI, 3, .inl yLo)), (yeh, .inl (cyI, 3, .inl yHi)), (yep, .inl (cyI, 3, .inl yPa)), (yem, .inl (cyJ, 9, .inr (.inl v9))), (yec, .inl (cyI, 5, .inl yCo)), (yed, .inl (cyJ, 3, .inr (.inl yDi))), (yeg, .inl (cyJ, 3, .inr (.inl yGa))), (yw, .inr (4, [.ref ywo, .ref ywi, .int yHd])), (ywo, .inl (cyI, 20, .inl yWo)), (ywi, .inl (cyI, 20, .inl yWi))] → va_S A s.heap H locs → lv_has ls 3 [(0, .ref ye), (1, .int v3), (2, .int v8)] → W p l e (headSpec wsX0_resetMatrix ({ frames := 0, cells := 0, slots := 0, locals := 0 } : Room)).room s m ([.ref ye] : List Value).toArray below meth c H locs 0 0 (MQ below (va_Qv (fun (_ : Unit) => True) (cPost (dC, dI) [(cyI, .int), (cyJ, .long), (cyB, .byte), (cyS, .object "SelfTuner$State"), (cyD, .double)] [(ye, .inr (0, [.ref yel, .ref yeh, .ref yep, .ref yem, .ref yec, .ref yw, .ref yed, .ref yeg])), (yel, .inl (cyI, 3, .inl yLo)), (yeh, .inl (cyI, 3, .inl yHi)), (yep, .inl (cyI, 3, .inl yPa)), (yem, .inl (cyJ, 9, .inr (.inl out))), (yec, .inl (cyI, 5, .inl yCo)), (yed, .inl (cyJ, 3, .inr (.inl yDi))), (yeg, .inl (cyJ, 3, .inr (.inl yGa))), (yw, .inr (4, [.ref ywo, .ref ywi, .int yHd])), (ywo, .inl (cyI, 20, .inl yWo)), (ywi, .inl (cyI, 20, .inl yWi))] A) A) ([.ref ye] : List Value).toArray s 0 0 A) (F0 m 35 ls [.long x12, .int ((3 * v3) + v8), .ref yem]) := by
                intro x12 H locs ls hF hP hD hS hl
                rw [hK13] at hF
                obtain ⟨g14, hF⟩ := ck_e hF
                obtain ⟨v15, hv15, hF⟩ := lt_e hF
                refine x_last (ws' := [(ye, .inr (0, [.ref yel, .ref yeh, .ref yep, .ref yem, .ref yec, .ref yw, .ref yed, .ref yeg])), (yel, .inl (cyI, 3, .inl yLo)), (yeh, .inl (cyI, 3, .inl yHi)), (yep, .inl (cyI, 3, .inl yPa)), (yem, .inl (cyJ, 9, .inr (.inl v15))), (yec, .inl (cyI, 5, .inl yCo)), (yed, .inl (cyJ, 3, .inr (.inl yDi))), (yeg, .inl (cyJ, 3, .inr (.inl yGa))), (yw, .inr (4, [.ref ywo, .ref ywi, .int yHd])), (ywo, .inl (cyI, 20, .inl yWo)), (ywi, .inl (cyI, 20, .inl yWi))]) hx hb hK hP hD hS 4 1 rfl rfl rfl g14 hv15 rfl dX0_resetMatrix_35 (fun H locs hP hD hS => ?_)
                obtain ⟨v16, hv16, hF⟩ := lt_e hF
                refine lv_iinc (v := v16) (lv' := [(2, .int v16), (0, .ref ye), (1, .int v3)]) hx hb dX0_resetMatrix_36 hl (k := 2) rfl (by rw [hv16]; rfl) (by decide) rfl (fun ls hl => ?_)
                refine lv_goto (tgt := 9) hx hb dX0_resetMatrix_39 (by decide) ?_
                exact ihn6 _ _ _ _ _ _ hF hP hD hS (lv_sub hl [1, 2, 0] rfl) kxn6
              refine lv_icmp_ne (tgt := 34) hx hb dX0_resetMatrix_25 (by decide) (fun c11 => ?_) (fun c11 => ?_)
              · have hF := ite_f hF c11
                refine lv_lconst (v := 0) hx hb dX0_resetMatrix_34 (by decide) ?_
                exact Jx12 _ _ _ _ hF hP hD hS (lv_sub hl [0, 1, 2] rfl)
              · have hF := ite_t hF c11
                refine lv_ldc2 (v := 6553600) hx hb hown (hts _ kX0_resetMatrix_2) dX0_resetMatrix_28 ?_
                refine lv_goto (tgt := 35) hx hb dX0_resetMatrix_31 (by decide) ?_
                exact Jx12 _ _ _ _ hF hP hD hS (lv_sub hl [0, 1, 2] rfl)
        refine Ln6 _ _ _ _ _ _ _ hF hP hD hS (lv_sub hl [1, 2, 0] rfl) (fun x17 H locs ls hF hP hD hS hl => ?_)
        obtain ⟨v18, hv18, hF⟩ := lt_e hF
        refine lv_iinc (v := v18) (lv' := [(1, .int v18), (0, .ref ye)]) hx hb dX0_resetMatrix_42 hl (k := 1) rfl (by rw [hv18]; rfl) (by decide) rfl (fun ls hl => ?_)
        refine lv_goto (tgt := 2) hx hb dX0_resetMatrix_45 (by decide) ?_
        exact ihn1 _ _ _ _ _ _ hF hP hD hS (lv_sub hl [1, 0] rfl) kxn1
  refine Ln1 _ _ _ _ _ _ _ hF hP hD hS (lv_sub hl [1, 0] rfl) (fun x19 H locs ls hF hP hD hS hl => ?_)
  obtain rfl := some_e hF
  exact W.vret hx hb hr (fun t ht hW => ⟨⟨(), rfl, trivial, ⟨by rw [ht]; exact hP, va_K.moved hW.alike hK, hD⟩⟩, hS.F ht⟩) hS.2.2 dX0_resetMatrix_48
def F_X0_begin_29 : Nat → (((Nat → Int32)) → Option ((Nat → Int32) × (Nat → Int64) × (Nat → Int32) × Int32)) → Int32 → (Nat → Int32) → Option ((Nat → Int32) × (Nat → Int64) × (Nat → Int32) × Int32)
  | 0, _, _, _ => none
  | n5 + 1, K6, v7, v8 => if (5 : Int32) ≤ v7 then (K6 v8) else (ck (inb v7 5) (lt_ (α := Nat → Int32) (upd v8 v7.toNatClampNeg 0) (fun v11 => lt_ (α := Int32) (v7 + 1) (fun v12 => F_X0_begin_29 n5 K6 v12 v11))))
def F_X0_begin (yLo : Nat → Int32) (yHi : Nat → Int32) (yPa : Nat → Int32) (yMa : Nat → Int64) (yCo : Nat → Int32) : Option ((Nat → Int32) × (Nat → Int64) × (Nat → Int32) × Int32) := ob (F_X0_bringIntoBox yLo yHi yPa 0 0) (fun o1 => ob (F_X0_bringIntoBox yLo yHi o1.2 1 65536) (fun o2 => ob (F_X0_bringIntoBox yLo yHi o2.2 2 0) (fun o3 => ob (F_X0_resetMatrix yMa) (fun o4 => F_X0_begin_29 1000 (fun x13 => some (o3.2, o4, x13, 0)) 0 yCo))))
theorem kX0_begin_1 : (Cond.constantLong RX0 60 (65536)) ∈ wsX0_begin := List.mem_of_getElem? (i := 1) rfl
theorem kX0_begin_2 : (Cond.fieldLink RX0 27 "SelfTuner$Estimator" "counts" "[I") ∈ wsX0_begin := List.mem_of_getElem? (i := 2) rfl
theorem kX0_begin_3 : (Cond.fieldLink RX0 33 "SelfTuner$Estimator" "window" "LSelfTuner$Window;") ∈ wsX0_begin := List.mem_of_getElem? (i := 3) rfl
theorem iX0_begin_X0 : ∀ w ∈ wsX00, w ∈ wsX0_begin := fun w h => List.mem_cons_of_mem _ (List.mem_append_left _ (List.mem_append_right _ h))
theorem iX0_begin_X4 : ∀ w ∈ wsX40, w ∈ wsX0_begin := fun w h => List.mem_cons_of_mem _ (List.mem_append_right _ h)
set_option maxHeartbeats 4000000 in
set_option maxRecDepth 100000 in
theorem c_X0_begin (l : Launch) (dC : Nat → ClassId) (dI : Nat → Nat → Nat) (cyI cyJ cyB cyS cyD : ClassId) (ye : Nat) (yel : Nat) (yeh : Nat) (yep : Nat) (yem : Nat) (yec : Nat) (yw : Nat) (yed : Nat) (yeg : Nat) (ywo : Nat) (ywi : Nat) (sz : Nat) (yLo : Nat → Int32) (yHi : Nat → Int32) (yPa : Nat → Int32) (yMa : Nat → Int64) (yCo : Nat → Int32) (yDi : Nat → Int64) (yGa : Nat → Int64) (yHd : Int32) (yWo : Nat → Int32) (yWi : Nat → Int32) {out : (Nat → Int32) × (Nat → Int64) × (Nat → Int32) × Int32} (hF : F_X0_begin yLo yHi yPa yMa yCo = some out) : Mv l yX0_begin wsX0_begin ({ frames := 2, cells := 0, slots := 0, locals := 50 } : Room) (dC, dI) [(cyI, .int), (cyJ, .long), (cyB, .byte), (cyS, .object "SelfTuner$State"), (cyD, .double)] sz [.ref ye] [(ye, .inr (0, [.ref yel, .ref yeh, .ref yep, .ref yem, .ref yec, .ref yw, .ref yed, .ref yeg])), (yel, .inl (cyI, 3, .inl yLo)), (yeh, .inl (cyI, 3, .inl yHi)), (yep, .inl (cyI, 3, .inl yPa)), (yem, .inl (cyJ, 9, .inr (.inl yMa))), (yec, .inl (cyI, 5, .inl yCo)), (yed, .inl (cyJ, 3, .inr (.inl yDi))), (yeg, .inl (cyJ, 3, .inr (.inl yGa))), (yw, .inr (4, [.ref ywo, .ref ywi, .int yHd])), (ywo, .inl (cyI, 20, .inl yWo)), (ywi, .inl (cyI, 20, .inl yWi))] [(ye, .inr (0, [.ref yel, .ref yeh, .ref yep, .ref yem, .ref yec, .ref yw, .ref yed, .ref yeg])), (yel, .inl (cyI, 3, .inl yLo)), (yeh, .inl (cyI, 3, .inl yHi)), (yep, .inl (cyI, 3, .inl out.1)), (yem, .inl (cyJ, 9, .inr (.inl out.2.1))), (yec, .inl (cyI, 5, .inl out.2.2.1)), (yed, .inl (cyJ, 3, .inr (.inl yDi))), (yeg, .inl (cyJ, 3, .inr (.inl yGa))), (yw, .inr (4, [.ref ywo, .ref ywi, .int out.2.2.2])), (ywo, .inl (cyI, 20, .inl yWo)), (ywi, .inl (cyI, 20, .inl yWi))] := by
  refine Met.ofW (cc := cX0_begin) (maxL := 2) (ret := none) (by decide) rfl ?_
  intro p e s m args below meth c s₁ B hml hv
  obtain ⟨rfl, hN, hsz, hP, hK, hD0⟩ := hv
  have hx := B.exec
  have hb := B.bytes
  have hr := B.returns
  have hts := atoms_spec (ws := wsX0_begin) B.pre
  have hown : s.vm.findClass RX0 = some m.cls := findClass_of_methodNamed B.named
  have hlocks := B.notSynchronized
  subst hsz
  have hD := hD0.self (sz := s.heap.size)
  generalize hAe : va_A [(ye, .inr (0, [.ref yel, .ref yeh, .ref yep, .ref yem, .ref yec, .ref yw, .ref yed, .ref yeg])), (yel, .inl (cyI, 3, .inl yLo)), (yeh, .inl (cyI, 3, .inl yHi)), (yep, .inl (cyI, 3, .inl yPa)), (yem, .inl (cyJ, 9, .inr (.inl yMa))), (yec, .inl (cyI, 5, .inl yCo)), (yed, .inl (cyJ, 3, .inr (.inl yDi))), (yeg, .inl (cyJ, 3, .inr (.inl yGa))), (yw, .inr (4, [.ref ywo, .ref ywi, .int yHd])), (ywo, .inl (cyI, 20, .inl yWo)), (ywi, .inl (cyI, 20, .inl yWi))] s.heap.size = A at hD ⊢
  have hA : ∀ q : Nat, s.heap.size ≤ q → A q := fun q h => by rw [← hAe]; exact Or.inr h
  have hS : va_S A s.heap s.heap [] := va_S.rf
  have hP : va_P (dC, dI) vwCl [(ye, .inr (0, [.ref yel, .ref yeh, .ref yep, .ref yem, .ref yec, .ref yw, .ref yed, .ref yeg])), (yel, .inl (cyI, 3, .inl yLo)), (yeh, .inl (cyI, 3, .inl yHi)), (yep, .inl (cyI, 3, .inl yPa)), (yem, .inl (cyJ, 9, .inr (.inl yMa))), (yec, .inl (cyI, 5, .inl yCo)), (yed, .inl (cyJ, 3, .inr (.inl yDi))), (yeg, .inl (cyJ, 3, .inr (.inl yGa))), (yw, .inr (4, [.ref ywo, .ref ywi, .int yHd])), (ywo, .inl (cyI, 20, .inl yWo)), (ywi, .inl (cyI, 20, .inl yWi))] s.heap := hP
  have hl := lv_entry ([.ref ye]) (n := 2) (Nat.le_of_ble_eq_true rfl)
  rw [lg_entry_eq]
  generalize (lg_sl ([.ref ye]) ++ List.replicate (2 - (lg_sl ([.ref ye])).length) Slot.unset).toArray = ls at hl ⊢
  have hl : lv_has ls 2 [(0, .ref ye)] := hl
  unfold F_X0_begin at hF
  refine lv_aload_n hx hb dX0_begin_0 rfl (lv_at hl 0 rfl) ?_
  refine lv_iconst (v := 0) hx hb dX0_begin_1 (by decide) ?_
  refine lv_lconst (v := 0) hx hb dX0_begin_2 (by decide) ?_
  obtain ⟨o1, ho1, hF⟩ := ob_e hF
  refine x_calli (wr := []) (ws' := [(ye, .inr (0, [.ref yel, .ref yeh, .ref yep, .ref yem, .ref yec, .ref yw, .ref yed, .ref yeg])), (yel, .inl (cyI, 3, .inl yLo)), (yeh, .inl (cyI, 3, .inl yHi)), (yep, .inl (cyI, 3, .inl o1.2)), (yem, .inl (cyJ, 9, .inr (.inl yMa))), (yec, .inl (cyI, 5, .inl yCo)), (yed, .inl (cyJ, 3, .inr (.inl yDi))), (yeg, .inl (cyJ, 3, .inr (.inl yGa))), (yw, .inr (4, [.ref ywo, .ref ywi, .int yHd])), (ywo, .inl (cyI, 20, .inl yWo)), (ywi, .inl (cyI, 20, .inl yWi))]) (va_runV (As := [.int 0, .long 0]) (rest := []) ⟨hx, hb, hml, hown, hts⟩ (c_X0_bringIntoBox l dC dI cyI cyJ cyB cyS cyD ye yel yeh yep yem yec yw yed yeg ywo ywi s.heap.size yLo yHi yPa yMa yCo yDi yGa yHd yWo yWi 0 0 ho1) (cwV 2 hts gX0_begin_X0_bringIntoBox rfl rfl rfl (by decide +kernel) ⟨Nat.le_of_ble_eq_true rfl, Nat.le_of_ble_eq_true rfl⟩) ⟨cPre_blind, va_recv hK hP (ci := 0) (q0 := 0) rfl rfl, x_pre hN hP hD hK [0, 1, 2, 3, 4, 5, 6, 7, 8, 9, 10] rfl rfl⟩ rfl rfl hl.1 rfl (lv_room (Nat.le_of_ble_eq_true rfl)) dX0_begin_3 ⟨Nat.le_of_ble_eq_true rfl, Nat.le_of_ble_eq_true rfl⟩) hP hD hS hA [0, 1, 2, 3, 4, 5, 6, 7, 8, 9, 10] [] [0, 1, 2, 3, 4, 5, 6, 7, 8, 9, 10] rfl rfl rfl (by decide) rfl rfl (fun H locs hP hD hS => ?_)
  refine lv_pop hx hb dX0_begin_6 rfl ?_
  refine lv_aload_n hx hb dX0_begin_7 rfl (lv_at hl 0 rfl) ?_
  refine lv_iconst (v := 1) hx hb dX0_begin_8 (by decide) ?_
  refine lv_ldc2 (v := 65536) hx hb hown (hts _ kX0_begin_1) dX0_begin_9 ?_
  obtain ⟨o2, ho2, hF⟩ := ob_e hF
  refine x_calli (wr := []) (ws' := [(ye, .inr (0, [.ref yel, .ref yeh, .ref yep, .ref yem, .ref yec, .ref yw, .ref yed, .ref yeg])), (yel, .inl (cyI, 3, .inl yLo)), (yeh, .inl (cyI, 3, .inl yHi)), (yep, .inl (cyI, 3, .inl o2.2)), (yem, .inl (cyJ, 9, .inr (.inl yMa))), (yec, .inl (cyI, 5, .inl yCo)), (yed, .inl (cyJ, 3, .inr (.inl yDi))), (yeg, .inl (cyJ, 3, .inr (.inl yGa))), (yw, .inr (4, [.ref ywo, .ref ywi, .int yHd])), (ywo, .inl (cyI, 20, .inl yWo)), (ywi, .inl (cyI, 20, .inl yWi))]) (va_runV (As := [.int 1, .long 65536]) (rest := []) ⟨hx, hb, hml, hown, hts⟩ (c_X0_bringIntoBox l dC dI cyI cyJ cyB cyS cyD ye yel yeh yep yem yec yw yed yeg ywo ywi H.size yLo yHi o1.2 yMa yCo yDi yGa yHd yWo yWi 1 65536 ho2) (cwV 2 hts gX0_begin_X0_bringIntoBox rfl rfl rfl (by decide +kernel) ⟨Nat.le_of_ble_eq_true rfl, Nat.le_of_ble_eq_true rfl⟩) ⟨cPre_blind, va_recv hK hP (ci := 0) (q0 := 0) rfl rfl, x_pre hN hP hD hK [0, 1, 2, 3, 4, 5, 6, 7, 8, 9, 10] rfl rfl⟩ rfl rfl hl.1 rfl (lv_room (Nat.le_of_ble_eq_true rfl)) dX0_begin_12 ⟨Nat.le_of_ble_eq_true rfl, Nat.le_of_ble_eq_true rfl⟩) hP hD hS hA [0, 1, 2, 3, 4, 5, 6, 7, 8, 9, 10] [] [0, 1, 2, 3, 4, 5, 6, 7, 8, 9, 10] rfl rfl rfl (by decide) rfl rfl (fun H locs hP hD hS => ?_)
  refine lv_pop hx hb dX0_begin_15 rfl ?_
  refine lv_aload_n hx hb dX0_begin_16 rfl (lv_at hl 0 rfl) ?_
  refine lv_iconst (v := 2) hx hb dX0_begin_17 (by decide) ?_
  refine lv_lconst (v := 0) hx hb dX0_begin_18 (by decide) ?_
  obtain ⟨o3, ho3, hF⟩ := ob_e hF
  refine x_calli (wr := []) (ws' := [(ye, .inr (0, [.ref yel, .ref yeh, .ref yep, .ref yem, .ref yec, .ref yw, .ref yed, .ref yeg])), (yel, .inl (cyI, 3, .inl yLo)), (yeh, .inl (cyI, 3, .inl yHi)), (yep, .inl (cyI, 3, .inl o3.2)), (yem, .inl (cyJ, 9, .inr (.inl yMa))), (yec, .inl (cyI, 5, .inl yCo)), (yed, .inl (cyJ, 3, .inr (.inl yDi))), (yeg, .inl (cyJ, 3, .inr (.inl yGa))), (yw, .inr (4, [.ref ywo, .ref ywi, .int yHd])), (ywo, .inl (cyI, 20, .inl yWo)), (ywi, .inl (cyI, 20, .inl yWi))]) (va_runV (As := [.int 2, .long 0]) (rest := []) ⟨hx, hb, hml, hown, hts⟩ (c_X0_bringIntoBox l dC dI cyI cyJ cyB cyS cyD ye yel yeh yep yem yec yw yed yeg ywo ywi H.size yLo yHi o2.2 yMa yCo yDi yGa yHd yWo yWi 2 0 ho3) (cwV 2 hts gX0_begin_X0_bringIntoBox rfl rfl rfl (by decide +kernel) ⟨Nat.le_of_ble_eq_true rfl, Nat.le_of_ble_eq_true rfl⟩) ⟨cPre_blind, va_recv hK hP (ci := 0) (q0 := 0) rfl rfl, x_pre hN hP hD hK [0, 1, 2, 3, 4, 5, 6, 7, 8, 9, 10] rfl rfl⟩ rfl rfl hl.1 rfl (lv_room (Nat.le_of_ble_eq_true rfl)) dX0_begin_19 ⟨Nat.le_of_ble_eq_true rfl, Nat.le_of_ble_eq_true rfl⟩) hP hD hS hA [0, 1, 2, 3, 4, 5, 6, 7, 8, 9, 10] [] [0, 1, 2, 3, 4, 5, 6, 7, 8, 9, 10] rfl rfl rfl (by decide) rfl rfl (fun H locs hP hD hS => ?_)
  refine lv_pop hx hb dX0_begin_22 rfl ?_
  refine lv_aload_n hx hb dX0_begin_23 rfl (lv_at hl 0 rfl) ?_
  obtain ⟨o4, ho4, hF⟩ := ob_e hF
  refine x_callv (wr := []) (ws' := [(ye, .inr (0, [.ref yel, .ref yeh, .ref yep, .ref yem, .ref yec, .ref yw, .ref yed, .ref yeg])), (yel, .inl (cyI, 3, .inl yLo)), (yeh, .inl (cyI, 3, .inl yHi)), (yep, .inl (cyI, 3, .inl o3.2)), (yem, .inl (cyJ, 9, .inr (.inl o4))), (yec, .inl (cyI, 5, .inl yCo)), (yed, .inl (cyJ, 3, .inr (.inl yDi))), (yeg, .inl (cyJ, 3, .inr (.inl yGa))), (yw, .inr (4, [.ref ywo, .ref ywi, .int yHd])), (ywo, .inl (cyI, 20, .inl yWo)), (ywi, .inl (cyI, 20, .inl yWi))]) (va_runV (As := []) (rest := []) ⟨hx, hb, hml, hown, hts⟩ (c_X0_resetMatrix l dC dI cyI cyJ cyB cyS cyD ye yel yeh yep yem yec yw yed yeg ywo ywi H.size yLo yHi o3.2 yMa yCo yDi yGa yHd yWo yWi ho4) (cwV 0 hts gX0_begin_X0_resetMatrix rfl rfl rfl (by decide +kernel) ⟨Nat.le_of_ble_eq_true rfl, Nat.le_of_ble_eq_true rfl⟩) ⟨cPre_blind, va_recv hK hP (ci := 0) (q0 := 0) rfl rfl, x_pre hN hP hD hK [0, 1, 2, 3, 4, 5, 6, 7, 8, 9, 10] rfl rfl⟩ rfl rfl hl.1 rfl (lv_room (Nat.le_of_ble_eq_true rfl)) dX0_begin_24 ⟨Nat.le_of_ble_eq_true rfl, Nat.le_of_ble_eq_true rfl⟩) hP hD hS hA [0, 1, 2, 3, 4, 5, 6, 7, 8, 9, 10] [] [0, 1, 2, 3, 4, 5, 6, 7, 8, 9, 10] rfl rfl rfl (by decide) rfl rfl (fun H locs hP hD hS => ?_)
  refine lv_iconst (v := 0) hx hb dX0_begin_27 (by decide) ?_
  refine lv_istore_n (lv' := [(1, .int 0), (0, .ref ye)]) hx hb dX0_begin_28 rfl hl (by decide) rfl (fun ls hl => ?_)
  have Ln5 : ∀ (n5 : Nat) (K6 : ((Nat → Int32)) → Option ((Nat → Int32) × (Nat → Int64) × (Nat → Int32) × Int32)) (v7 : Int32) (v8 : Nat → Int32) (H : Heap) (locs : List Loc) (ls : Array Slot), F_X0_begin_29 n5 K6 v7 v8 = some out → va_P (dC, dI) vwCl [(ye, .inr (0, [.ref yel, .ref yeh, .ref yep, .ref yem, .ref yec, .ref yw, .ref yed, .ref yeg])), (yel, .inl (cyI, 3, .inl yLo)), (yeh, .inl (cyI, 3, .inl yHi)), (yep, .inl (cyI, 3, .inl o3.2)), (yem, .inl (cyJ, 9, .inr (.inl o4))), (yec, .inl (cyI, 5, .inl v8)), (yed, .inl (cyJ, 3, .inr (.inl yDi))), (yeg, .inl (cyJ, 3, .inr (.inl yGa))), (yw, .inr (4, [.ref ywo, .ref ywi, .int yHd])), (ywo, .inl (cyI, 20, .inl yWo)), (ywi, .inl (cyI, 20, .inl yWi))] H → va_D A [(ye, .inr (0, [.ref yel, .ref yeh, .ref yep, .ref yem, .ref yec, .ref yw, .ref yed, .ref yeg])), (yel, .inl (cyI, 3, .inl yLo)), (yeh, .inl (cyI, 3, .inl yHi)), (yep, .inl (cyI, 3, .inl o3.2)), (yem, .inl (cyJ, 9, .inr (.inl o4))), (yec, .inl (cyI, 5, .inl v8)), (yed, .inl (cyJ, 3, .inr (.inl yDi))), (yeg, .inl (cyJ, 3, .inr (.inl yGa))), (yw, .inr (4, [.ref ywo, .ref ywi, .int yHd])), (ywo, .inl (cyI, 20, .inl yWo)), (ywi, .inl (cyI, 20, .inl yWi))] → va_S A s.heap H locs → lv_has ls 2 [(0, .ref ye), (1, .int v7)] → (∀ (x13 : (Nat → Int32)) (H : Heap) (locs : List Loc) (ls : Array Slot), K6 x13 = some out → va_P (dC, dI) vwCl [(ye, .inr (0, [.ref yel, .ref yeh, .ref yep, .ref yem, .ref yec, .ref yw, .ref yed, .ref yeg])), (yel, .inl (cyI, 3, .inl yLo)), (yeh, .inl (cyI, 3, .inl yHi)), (yep, .inl (cyI, 3, .inl o3.2)), (yem, .inl (cyJ, 9, .inr (.inl o4))), (yec, .inl (cyI, 5, .inl x13)), (yed, .inl (cyJ, 3, .inr (.inl yDi))), (yeg, .inl (cyJ, 3, .inr (.inl yGa))), (yw, .inr (4, [.ref ywo, .ref ywi, .int yHd])), (ywo, .inl (cyI, 20, .inl yWo)), (ywi, .inl (cyI, 20, .inl yWi))] H → va_D A [(ye, .inr (0, [.ref yel, .ref yeh, .ref yep, .ref yem, .ref yec, .ref yw, .ref yed, .ref yeg])), (yel, .inl (cyI, 3, .inl yLo)), (yeh, .inl (cyI, 3, .inl yHi)), (yep, .inl (cyI, 3, .inl o3.2)), (yem, .inl (cyJ, 9, .inr (.inl o4))), (yec, .inl (cyI, 5, .inl x13)), (yed, .inl (cyJ, 3, .inr (.inl yDi))), (yeg, .inl (cyJ, 3, .inr (.inl yGa))), (yw, .inr (4, [.ref ywo, .ref ywi, .int yHd])), (ywo, .inl (cyI, 20, .inl yWo)), (ywi, .inl (cyI, 20, .inl yWi))] → va_S A s.heap H locs → lv_has ls 2 [(0, .ref ye)] → W p l e (headSpec wsX0_begin ({ frames := 2, cells := 0, slots := 0, locals := 50 } : Room)).room s m ([.ref ye] : List Value).toArray below meth c H locs 0 0 (MQ below (va_Qv (fun (_ : Unit) => True) (cPost (dC, dI) [(cyI, .int), (cyJ, .long), (cyB, .byte), (cyS, .object "SelfTuner$State"), (cyD, .double)] [(ye, .inr (0, [.ref yel, .ref yeh, .ref yep, .ref yem, .ref yec, .ref yw, .ref yed, .ref yeg])), (yel, .inl (cyI, 3, .inl yLo)), (yeh, .inl (cyI, 3, .inl yHi)), (yep, .inl (cyI, 3, .inl out.1)), (yem, .inl (cyJ, 9, .inr (.inl out.2.1))), (yec, .inl (cyI, 5, .inl out.2.2.1)), (yed, .inl (cyJ, 3, .inr (.inl yDi))), (yeg, .inl (cyJ, 3, .inr (.inl yGa))), (yw, .inr (4, [.ref ywo, .ref ywi, .int out.2.2.2])), (ywo, .inl (cyI, 20, .inl yWo)), (ywi, .inl (cyI, 20, .inl yWi))] A) A) ([.ref ye] : List Value).toArray s 0 0 A) (F0 m 47 ls [])) → W p l e (headSpec wsX0_begin ({ frames := 2, cells := 0, slots := 0, locals := 50 } : Room)).room s m ([.ref ye] : List Value).toArray below meth c H locs 0 0 (MQ below (va_Qv (fun (_ : Unit) => True) (cPost (dC, dI) [(cyI, .int), (cyJ, .long), (cyB, .byte), (cyS, .object "SelfTuner$State"), (cyD, .double)] [(ye, .inr (0, [.ref yel, .ref yeh, .ref yep, .ref yem, .ref yec, .ref yw, .ref yed, .ref yeg])), (yel, .inl (cyI, 3, .inl yLo)), (yeh, .inl (cyI, 3, .inl yHi)), (yep, .inl (cyI, 3, .inl out.1)), (yem, .inl (cyJ, 9, .inr (.inl out.2.1))), (yec, .inl (cyI, 5, .inl out.2.2.1)), (yed, .inl (cyJ, 3, .inr (.inl yDi))), (yeg, .inl (cyJ, 3, .inr (.inl yGa))), (yw, .inr (4, [.ref ywo, .ref ywi, .int out.2.2.2])), (ywo, .inl (cyI, 20, .inl yWo)), (ywi, .inl (cyI, 20, .inl yWi))] A) A) ([.ref ye] : List Value).toArray s 0 0 A) (F0 m 29 ls []) := by
    intro n5
    induction n5 with
    | zero => intro K6 v7 v8 H locs ls hF; exact no_e (show none = some out from hF)
    | succ n5 ihn5 =>
      intro K6 v7 v8 H locs ls hF hP hD hS hl kxn5
      rw [F_X0_begin_29] at hF
      refine lv_iload_n hx hb dX0_begin_29 rfl (lv_at hl 1 rfl) ?_
      refine lv_iconst (v := 5) hx hb dX0_begin_30 (by decide) ?_
      refine lv_icmp_ge (tgt := 47) hx hb dX0_begin_31 (by decide) (fun c9 => ?_) (fun c9 => ?_)
      · have hF := ite_t hF c9
        exact kxn5 _ _ _ _ hF hP hD hS (lv_sub hl [0] rfl)
      · have hF := ite_f hF c9
        refine lv_aload_n hx hb dX0_begin_34 rfl (lv_at hl 0 rfl) ?_
        refine va_get (D := (dC, dI)) (ci := 0) (v := .ref yec) (C := RX0) (T := TX0) (N := 8) hx hb hts iX0_begin_X0 hown hK hP 0 rfl rfl 4 (by decide) (hts _ kX0_begin_2) (fun _ h9 => h9) rfl dX0_begin_35 ?_
        refine lv_iload_n hx hb dX0_begin_38 rfl (lv_at hl 1 rfl) ?_
        refine lv_iconst (v := 0) hx hb dX0_begin_39 (by decide) ?_
        obtain ⟨g10, hF⟩ := ck_e hF
        obtain ⟨v11, hv11, hF⟩ := lt_e hF
        refine x_iast (ws' := [(ye, .inr (0, [.ref yel, .ref yeh, .ref yep, .ref yem, .ref yec, .ref yw, .ref yed, .ref yeg])), (yel, .inl (cyI, 3, .inl yLo)), (yeh, .inl (cyI, 3, .inl yHi)), (yep, .inl (cyI, 3, .inl o3.2)), (yem, .inl (cyJ, 9, .inr (.inl o4))), (yec, .inl (cyI, 5, .inl v11)), (yed, .inl (cyJ, 3, .inr (.inl yDi))), (yeg, .inl (cyJ, 3, .inr (.inl yGa))), (yw, .inr (4, [.ref ywo, .ref ywi, .int yHd])), (ywo, .inl (cyI, 20, .inl yWo)), (ywi, .inl (cyI, 20, .inl yWi))]) hx hb hK hP hD hS 5 0 rfl rfl rfl g10 hv11 rfl dX0_begin_40 (fun H locs hP hD hS => ?_)
        obtain ⟨v12, hv12, hF⟩ := lt_e hF
        refine lv_iinc (v := v12) (lv' := [(1, .int v12), (0, .ref ye)]) hx hb dX0_begin_41 hl (k := 1) rfl (by rw [hv12]; rfl) (by decide) rfl (fun ls hl => ?_)
        refine lv_goto (tgt := 29) hx hb dX0_begin_44 (by decide) ?_
        exact ihn5 _ _ _ _ _ _ hF hP hD hS (lv_sub hl [1, 0] rfl) kxn5
  refine Ln5 _ _ _ _ _ _ _ hF hP hD hS (lv_sub hl [1, 0] rfl) (fun x13 H locs ls hF hP hD hS hl => ?_)
  refine lv_aload_n hx hb dX0_begin_47 rfl (lv_at hl 0 rfl) ?_
  refine va_get (D := (dC, dI)) (ci := 0) (v := .ref yw) (C := RX0) (T := TX0) (N := 8) hx hb hts iX0_begin_X0 hown hK hP 0 rfl rfl 5 (by decide) (hts _ kX0_begin_3) (fun _ h9 => h9) rfl dX0_begin_48 ?_
  refine lv_iconst (v := 0) hx hb dX0_begin_51 (by decide) ?_
  refine x_putN (D := (dC, dI)) (ci := 4) (v := .int 0) (ty := .int) (C := RX4) (T := TX4) (N := 3) (ws' := [(ye, .inr (0, [.ref yel, .ref yeh, .ref yep, .ref yem, .ref yec, .ref yw, .ref yed, .ref yeg])), (yel, .inl (cyI, 3, .inl yLo)), (yeh, .inl (cyI, 3, .inl yHi)), (yep, .inl (cyI, 3, .inl o3.2)), (yem, .inl (cyJ, 9, .inr (.inl o4))), (yec, .inl (cyI, 5, .inl x13)), (yed, .inl (cyJ, 3, .inr (.inl yDi))), (yeg, .inl (cyJ, 3, .inr (.inl yGa))), (yw, .inr (4, [.ref ywo, .ref ywi, .int 0])), (ywo, .inl (cyI, 20, .inl yWo)), (ywi, .inl (cyI, 20, .inl yWi))]) hx hb hts iX0_begin_X4 tyX4 tyX4_ok nmX4 hown hK hP hD hS 8 rfl rfl 2 (by decide) (va_Nw.use rfl (nf_X0_65 hN)) (fun _ h9 => h9) rfl (by decide +kernel) rfl rfl (Nat.le_of_ble_eq_true rfl) rfl dX0_begin_52 (fun H locs hP hD hS => ?_)
  obtain rfl := some_e hF
  exact W.vret hx hb hr (fun t ht hW => ⟨⟨(), rfl, trivial, ⟨by rw [ht]; exact hP, va_K.moved hW.alike hK, hD⟩⟩, hS.F ht⟩) hS.2.2 dX0_begin_55
def F_X0_weightedSum (yPa : Nat → Int32) (w1 : Int32) (w2 : Int32) : Option (Int64) := some (((((yPa 0).toInt64) * w1.toInt64) + (((yPa 1).toInt64) * w2.toInt64)) + ((yPa 2).toInt64))
theorem kX0_weightedSum_1 : (Cond.fieldLink RX0 20 "SelfTuner$Estimator" "parameters" "[I") ∈ wsX0_weightedSum := List.mem_of_getElem? (i := 1) rfl
theorem iX0_weightedSum_X0 : ∀ w ∈ wsX00, w ∈ wsX0_weightedSum := fun w h => List.mem_cons_of_mem _ (List.mem_append_right _ h)
set_option maxHeartbeats 4000000 in
set_option maxRecDepth 100000 in
theorem c_X0_weightedSum (l : Launch) (dC : Nat → ClassId) (dI : Nat → Nat → Nat) (cyI cyJ cyB cyS cyD : ClassId) (ye : Nat) (yel : Nat) (yeh : Nat) (yep : Nat) (yem : Nat) (yec : Nat) (yw : Nat) (yed : Nat) (yeg : Nat) (ywo : Nat) (ywi : Nat) (sz : Nat) (yLo : Nat → Int32) (yHi : Nat → Int32) (yPa : Nat → Int32) (yMa : Nat → Int64) (yCo : Nat → Int32) (yDi : Nat → Int64) (yGa : Nat → Int64) (yHd : Int32) (yWo : Nat → Int32) (yWi : Nat → Int32) (w1 : Int32) (w2 : Int32) {out : Int64} (hF : F_X0_weightedSum yPa w1 w2 = some out) : Ml l yX0_weightedSum wsX0_weightedSum ({ frames := 0, cells := 0, slots := 0, locals := 0 } : Room) (dC, dI) [(cyI, .int), (cyJ, .long), (cyB, .byte), (cyS, .object "SelfTuner$State"), (cyD, .double)] sz [.ref ye, .int w1, .int w2] [(ye, .inr (0, [.ref yel, .ref yeh, .ref yep, .ref yem, .ref yec, .ref yw, .ref yed, .ref yeg])), (yel, .inl (cyI, 3, .inl yLo)), (yeh, .inl (cyI, 3, .inl yHi)), (yep, .inl (cyI, 3, .inl yPa)), (yem, .inl (cyJ, 9, .inr (.inl yMa))), (yec, .inl (cyI, 5, .inl yCo)), (yed, .inl (cyJ, 3, .inr (.inl yDi))), (yeg, .inl (cyJ, 3, .inr (.inl yGa))), (yw, .inr (4, [.ref ywo, .ref ywi, .int yHd])), (ywo, .inl (cyI, 20, .inl yWo)), (ywi, .inl (cyI, 20, .inl yWi))] out [(ye, .inr (0, [.ref yel, .ref yeh, .ref yep, .ref yem, .ref yec, .ref yw, .ref yed, .ref yeg])), (yel, .inl (cyI, 3, .inl yLo)), (yeh, .inl (cyI, 3, .inl yHi)), (yep, .inl (cyI, 3, .inl yPa)), (yem, .inl (cyJ, 9, .inr (.inl yMa))), (yec, .inl (cyI, 5, .inl yCo)), (yed, .inl (cyJ, 3, .inr (.inl yDi))), (yeg, .inl (cyJ, 3, .inr (.inl yGa))), (yw, .inr (4, [.ref ywo, .ref ywi, .int yHd])), (ywo, .inl (cyI, 20, .inl yWo)), (ywi, .inl (cyI, 20, .inl yWi))] := by
  refine Met.ofW (cc := cX0_weightedSum) (maxL := 3) (ret := (some .long)) (by decide) rfl ?_
  intro p e s m args below meth c s₁ B hml hv
  obtain ⟨rfl, hN, hsz, hP, hK, hD0⟩ := hv
  have hx := B.exec
  have hb := B.bytes
  have hr := B.returns
  have hts := atoms_spec (ws := wsX0_weightedSum) B.pre
  have hown : s.vm.findClass RX0 = some m.cls := findClass_of_methodNamed B.named
  have hlocks := B.notSynchronized
  subst hsz
  have hD := hD0.self (sz := s.heap.size)
  generalize hAe : va_A [(ye, .inr (0, [.ref yel, .ref yeh, .ref yep, .ref yem, .ref yec, .ref yw, .ref yed, .ref yeg])), (yel, .inl (cyI, 3, .inl yLo)), (yeh, .inl (cyI, 3, .inl yHi)), (yep, .inl (cyI, 3, .inl yPa)), (yem, .inl (cyJ, 9, .inr (.inl yMa))), (yec, .inl (cyI, 5, .inl yCo)), (yed, .inl (cyJ, 3, .inr (.inl yDi))), (yeg, .inl (cyJ, 3, .inr (.inl yGa))), (yw, .inr (4, [.ref ywo, .ref ywi, .int yHd])), (ywo, .inl (cyI, 20, .inl yWo)), (ywi, .inl (cyI, 20, .inl yWi))] s.heap.size = A at hD ⊢
  have hA : ∀ q : Nat, s.heap.size ≤ q → A q := fun q h => by rw [← hAe]; exact Or.inr h
  have hS : va_S A s.heap s.heap [] := va_S.rf
  have hP : va_P (dC, dI) vwCl [(ye, .inr (0, [.ref yel, .ref yeh, .ref yep, .ref yem, .ref yec, .ref yw, .ref yed, .ref yeg])), (yel, .inl (cyI, 3, .inl yLo)), (yeh, .inl (cyI, 3, .inl yHi)), (yep, .inl (cyI, 3, .inl yPa)), (yem, .inl (cyJ, 9, .inr (.inl yMa))), (yec, .inl (cyI, 5, .inl yCo)), (yed, .inl (cyJ, 3, .inr (.inl yDi))), (yeg, .inl (cyJ, 3, .inr (.inl yGa))), (yw, .inr (4, [.ref ywo, .ref ywi, .int yHd])), (ywo, .inl (cyI, 20, .inl yWo)), (ywi, .inl (cyI, 20, .inl yWi))] s.heap := hP
  have hl := lv_entry ([.ref ye, .int w1, .int w2]) (n := 3) (Nat.le_of_ble_eq_true rfl)
  rw [lg_entry_eq]
  generalize (lg_sl ([.ref ye, .int w1, .int w2]) ++ List.replicate (3 - (lg_sl ([.ref ye, .int w1, .int w2])).length) Slot.unset).toArray = ls at hl ⊢
  have hl : lv_has ls 3 [(0, .ref ye), (1, .int w1), (2, .int w2)] := hl
  unfold F_X0_weightedSum at hF
  refine lv_aload_n hx hb dX0_weightedSum_0 rfl (lv_at hl 0 rfl) ?_
  refine va_get (D := (dC, dI)) (ci := 0) (v := .ref yep) (C := RX0) (T := TX0) (N := 8) hx hb hts iX0_weightedSum_X0 hown hK hP 0 rfl rfl 2 (by decide) (hts _ kX0_weightedSum_1) (fun _ h9 => h9) rfl dX0_weightedSum_1 ?_
  refine lv_iconst (v := 0) hx hb dX0_weightedSum_4 (by decide) ?_
  refine x_iald hx hb hK hP 3 0 rfl rfl (show (0 : Int32).toNatClampNeg = 0 by decide) (inbK (k := 0) (by decide) rfl) dX0_weightedSum_5 ?_
  refine lv_i2l (v := (yPa 0).toInt64) hx hb dX0_weightedSum_6 rfl ?_
  refine lv_iload_n hx hb dX0_weightedSum_7 rfl (lv_at hl 1 rfl) ?_
  refine lv_i2l (v := w1.toInt64) hx hb dX0_weightedSum_8 rfl ?_
  refine lv_lmul hx hb dX0_weightedSum_9 ?_
  refine lv_aload_n hx hb dX0_weightedSum_10 rfl (lv_at hl 0 rfl) ?_
  refine va_get (D := (dC, dI)) (ci := 0) (v := .ref yep) (C := RX0) (T := TX0) (N := 8) hx hb hts iX0_weightedSum_X0 hown hK hP 0 rfl rfl 2 (by decide) (hts _ kX0_weightedSum_1) (fun _ h9 => h9) rfl dX0_weightedSum_11 ?_
  refine lv_iconst (v := 1) hx hb dX0_weightedSum_14 (by decide) ?_
  refine x_iald hx hb hK hP 3 0 rfl rfl (show (1 : Int32).toNatClampNeg = 1 by decide) (inbK (k := 1) (by decide) rfl) dX0_weightedSum_15 ?_
  refine lv_i2l (v := (yPa 1).toInt64) hx hb dX0_weightedSum_16 rfl ?_
  refine lv_iload_n hx hb dX0_weightedSum_17 rfl (lv_at hl 2 rfl) ?_
  refine lv_i2l (v := w2.toInt64) hx hb dX0_weightedSum_18 rfl ?_
  refine lv_lmul hx hb dX0_weightedSum_19 ?_
  refine lv_ladd hx hb dX0_weightedSum_20 ?_
  refine lv_aload_n hx hb dX0_weightedSum_21 rfl (lv_at hl 0 rfl) ?_
  refine va_get (D := (dC, dI)) (ci := 0) (v := .ref yep) (C := RX0) (T := TX0) (N := 8) hx hb hts iX0_weightedSum_X0 hown hK hP 0 rfl rfl 2 (by decide) (hts _ kX0_weightedSum_1) (fun _ h9 => h9) rfl dX0_weightedSum_22 ?_
  refine lv_iconst (v := 2) hx hb dX0_weightedSum_25 (by decide) ?_
  refine x_iald hx hb hK hP 3 0 rfl rfl (show (2 : Int32).toNatClampNeg = 2 by decide) (inbK (k := 2) (by decide) rfl) dX0_weightedSum_26 ?_
  refine lv_i2l (v := (yPa 2).toInt64) hx hb dX0_weightedSum_27 rfl ?_
  refine lv_ladd hx hb dX0_weightedSum_28 ?_
  obtain rfl := some_e hF
  exact W.lret (v := ((((yPa 0).toInt64) * w1.toInt64) + (((yPa 1).toInt64) * w2.toInt64)) + ((yPa 2).toInt64)) hx hb hr (fun t ht hW => ⟨⟨((((yPa 0).toInt64) * w1.toInt64) + (((yPa 1).toInt64) * w2.toInt64)) + ((yPa 2).toInt64), (), rfl, rfl, ⟨by rw [ht]; exact hP, va_K.moved hW.alike hK, hD⟩⟩, hS.F ht⟩) hS.2.2 dX0_weightedSum_29
def F_X0_spread_2 (yMa : Nat → Int64) (w1 : Int32) (w2 : Int32) : Nat → (((Nat → Int64)) → Option (Int64 × (Nat → Int64))) → Int32 → (Nat → Int64) → Option (Int64 × (Nat → Int64))
  | 0, _, _, _ => none
  | n1 + 1, K2, v3, v4 => if (3 : Int32) ≤ v3 then (K2 v4) else (lt_ (α := Int32) (3 * v3) (fun v6 => ck (inb v6 9) (ck (inb (v6 + 1) 9) (ck (inb (v6 + 2) 9) (ck (inb v3 3) (lt_ (α := Nat → Int64) (vp_updL v4 v3.toNatClampNeg ((((yMa v6.toNatClampNeg) * w1.toInt64) + ((yMa ((v6 + 1).toNatClampNeg)) * w2.toInt64)) + (yMa ((v6 + 2).toNatClampNeg)))) (fun v11 => lt_ (α := Int32) (v3 + 1) (fun v12 => F_X0_spread_2 yMa w1 w2 n1 K2 v12 v11))))))))
def F_X0_spread (yMa : Nat → Int64) (yDi : Nat → Int64) (w1 : Int32) (w2 : Int32) : Option (Int64 × (Nat → Int64)) := F_X0_spread_2 yMa w1 w2 1000 (fun x13 => some ((if (((((x13 0) * w1.toInt64) + ((x13 1) * w2.toInt64)) + (x13 2)) : Int64) < 0 then 0 else ((((x13 0) * w1.toInt64) + ((x13 1) * w2.toInt64)) + (x13 2))), x13)) 0 yDi
theorem kX0_spread_1 : (Cond.fieldLink RX0 37 "SelfTuner$Estimator" "directions" "[J") ∈ wsX0_spread := List.mem_of_getElem? (i := 1) rfl
theorem kX0_spread_2 : (Cond.fieldLink RX0 23 "SelfTuner$Estimator" "matrix" "[J") ∈ wsX0_spread := List.mem_of_getElem? (i := 2) rfl
theorem kX0_spread_3 : (Cond.methodLink RX0 114 Lib.MathLoose.max_long.x) ∈ wsX0_spread := List.mem_of_getElem? (i := 3) rfl
theorem kX0_spread_4 : (Cond.static Lib.MathLoose.max_long.x) ∈ wsX0_spread := List.mem_of_getElem? (i := 4) rfl
theorem kX0_spread_5 : (Cond.initialized "java/lang/Math") ∈ wsX0_spread := List.mem_of_getElem? (i := 5) rfl
theorem kX0_spread_6 : (Cond.code Lib.MathLoose.max_long.x Lib.MathLoose.max_long.code 4 (some .long)) ∈ wsX0_spread := List.mem_of_getElem? (i := 6) rfl
theorem iX0_spread_X0 : ∀ w ∈ wsX00, w ∈ wsX0_spread := fun w h => List.mem_cons_of_mem _ (List.mem_append_right _ h)
set_option maxHeartbeats 4000000 in
set_option maxRecDepth 100000 in
theorem c_X0_spread (l : Launch) (dC : Nat → ClassId) (dI : Nat → Nat → Nat) (cyI cyJ cyB cyS cyD : ClassId) (ye : Nat) (yel : Nat) (yeh : Nat) (yep : Nat) (yem : Nat) (yec : Nat) (yw : Nat) (yed : Nat) (yeg : Nat) (ywo : Nat) (ywi : Nat) (sz : Nat) (yLo : Nat → Int32) (yHi : Nat → Int32) (yPa : Nat → Int32) (yMa : Nat → Int64) (yCo : Nat → Int32) (yDi : Nat → Int64) (yGa : Nat → Int64) (yHd : Int32) (yWo : Nat → Int32) (yWi : Nat → Int32) (w1 : Int32) (w2 : Int32) {out : Int64 × (Nat → Int64)} (hF : F_X0_spread yMa yDi w1 w2 = some out) : Ml l yX0_spread wsX0_spread ({ frames := 1, cells := 0, slots := 0, locals := 40 } : Room) (dC, dI) [(cyI, .int), (cyJ, .long), (cyB, .byte), (cyS, .object "SelfTuner$State"), (cyD, .double)] sz [.ref ye, .int w1, .int w2] [(ye, .inr (0, [.ref yel, .ref yeh, .ref yep, .ref yem, .ref yec, .ref yw, .ref yed, .ref yeg])), (yel, .inl (cyI, 3, .inl yLo)), (yeh, .inl (cyI, 3, .inl yHi)), (yep, .inl (cyI, 3, .inl yPa)), (yem, .inl (cyJ, 9, .inr (.inl yMa))), (yec, .inl (cyI, 5, .inl yCo)), (yed, .inl (cyJ, 3, .inr (.inl yDi))), (yeg, .inl (cyJ, 3, .inr (.inl yGa))), (yw, .inr (4, [.ref ywo, .ref ywi, .int yHd])), (ywo, .inl (cyI, 20, .inl yWo)), (ywi, .inl (cyI, 20, .inl yWi))] out.1 [(ye, .inr (0, [.ref yel, .ref yeh, .ref yep, .ref yem, .ref yec, .ref yw, .ref yed, .ref yeg])), (yel, .inl (cyI, 3, .inl yLo)), (yeh, .inl (cyI, 3, .inl yHi)), (yep, .inl (cyI, 3, .inl yPa)), (yem, .inl (cyJ, 9, .inr (.inl yMa))), (yec, .inl (cyI, 5, .inl yCo)), (yed, .inl (cyJ, 3, .inr (.inl out.2))), (yeg, .inl (cyJ, 3, .inr (.inl yGa))), (yw, .inr (4, [.ref ywo, .ref ywi, .int yHd])), (ywo, .inl (cyI, 20, .inl yWo)), (ywi, .inl (cyI, 20, .inl yWi))] := by
  refine Met.ofW (cc := cX0_spread) (maxL := 5) (ret := (some .long)) (by decide) rfl ?_
  intro p e s m args below meth c s₁ B hml hv
  obtain ⟨rfl, hN, hsz, hP, hK, hD0⟩ := hv
  have hx := B.exec
  have hb := B.bytes
  have hr := B.returns
  have hts := atoms_spec (ws := wsX0_spread) B.pre
  have hown : s.vm.findClass RX0 = some m.cls := findClass_of_methodNamed B.named
  have hlocks := B.notSynchronized
  subst hsz
  have hD := hD0.self (sz := s.heap.size)
  generalize hAe : va_A [(ye, .inr (0, [.ref yel, .ref yeh, .ref yep, .ref yem, .ref yec, .ref yw, .ref yed, .ref yeg])), (yel, .inl (cyI, 3, .inl yLo)), (yeh, .inl (cyI, 3, .inl yHi)), (yep, .inl (cyI, 3, .inl yPa)), (yem, .inl (cyJ, 9, .inr (.inl yMa))), (yec, .inl (cyI, 5, .inl yCo)), (yed, .inl (cyJ, 3, .inr (.inl yDi))), (yeg, .inl (cyJ, 3, .inr (.inl yGa))), (yw, .inr (4, [.ref ywo, .ref ywi, .int yHd])), (ywo, .inl (cyI, 20, .inl yWo)), (ywi, .inl (cyI, 20, .inl yWi))] s.heap.size = A at hD ⊢
  have hA : ∀ q : Nat, s.heap.size ≤ q → A q := fun q h => by rw [← hAe]; exact Or.inr h
  have hS : va_S A s.heap s.heap [] := va_S.rf
  have hP : va_P (dC, dI) vwCl [(ye, .inr (0, [.ref yel, .ref yeh, .ref yep, .ref yem, .ref yec, .ref yw, .ref yed, .ref yeg])), (yel, .inl (cyI, 3, .inl yLo)), (yeh, .inl (cyI, 3, .inl yHi)), (yep, .inl (cyI, 3, .inl yPa)), (yem, .inl (cyJ, 9, .inr (.inl yMa))), (yec, .inl (cyI, 5, .inl yCo)), (yed, .inl (cyJ, 3, .inr (.inl yDi))), (yeg, .inl (cyJ, 3, .inr (.inl yGa))), (yw, .inr (4, [.ref ywo, .ref ywi, .int yHd])), (ywo, .inl (cyI, 20, .inl yWo)), (ywi, .inl (cyI, 20, .inl yWi))] s.heap := hP
  have hl := lv_entry ([.ref ye, .int w1, .int w2]) (n := 5) (Nat.le_of_ble_eq_true rfl)
  rw [lg_entry_eq]
  generalize (lg_sl ([.ref ye, .int w1, .int w2]) ++ List.replicate (5 - (lg_sl ([.ref ye, .int w1, .int w2])).length) Slot.unset).toArray = ls at hl ⊢
  have hl : lv_has ls 5 [(0, .ref ye), (1, .int w1), (2, .int w2)] := hl
  unfold F_X0_spread at hF
  refine lv_iconst (v := 0) hx hb dX0_spread_0 (by decide) ?_
  refine lv_istore_n (lv' := [(3, .int 0), (0, .ref ye), (1, .int w1), (2, .int w2)]) hx hb dX0_spread_1 rfl hl (by decide) rfl (fun ls hl => ?_)
  have Ln1 : ∀ (n1 : Nat) (K2 : ((Nat → Int64)) → Option (Int64 × (Nat → Int64))) (v3 : Int32) (v4 : Nat → Int64) (H : Heap) (locs : List Loc) (ls : Array Slot), F_X0_spread_2 yMa w1 w2 n1 K2 v3 v4 = some out → va_P (dC, dI) vwCl [(ye, .inr (0, [.ref yel, .ref yeh, .ref yep, .ref yem, .ref yec, .ref yw, .ref yed, .ref yeg])), (yel, .inl (cyI, 3, .inl yLo)), (yeh, .inl (cyI, 3, .inl yHi)), (yep, .inl (cyI, 3, .inl yPa)), (yem, .inl (cyJ, 9, .inr (.inl yMa))), (yec, .inl (cyI, 5, .inl yCo)), (yed, .inl (cyJ, 3, .inr (.inl v4))), (yeg, .inl (cyJ, 3, .inr (.inl yGa))), (yw, .inr (4, [.ref ywo, .ref ywi, .int yHd])), (ywo, .inl (cyI, 20, .inl yWo)), (ywi, .inl (cyI, 20, .inl yWi))] H → va_D A [(ye, .inr (0, [.ref yel, .ref yeh, .ref yep, .ref yem, .ref yec, .ref yw, .ref yed, .ref yeg])), (yel, .inl (cyI, 3, .inl yLo)), (yeh, .inl (cyI, 3, .inl yHi)), (yep, .inl (cyI, 3, .inl yPa)), (yem, .inl (cyJ, 9, .inr (.inl yMa))), (yec, .inl (cyI, 5, .inl yCo)), (yed, .inl (cyJ, 3, .inr (.inl v4))), (yeg, .inl (cyJ, 3, .inr (.inl yGa))), (yw, .inr (4, [.ref ywo, .ref ywi, .int yHd])), (ywo, .inl (cyI, 20, .inl yWo)), (ywi, .inl (cyI, 20, .inl yWi))] → va_S A s.heap H locs → lv_has ls 5 [(0, .ref ye), (1, .int w1), (2, .int w2), (3, .int v3)] → (∀ (x13 : (Nat → Int64)) (H : Heap) (locs : List Loc) (ls : Array Slot), K2 x13 = some out → va_P (dC, dI) vwCl [(ye, .inr (0, [.ref yel, .ref yeh, .ref yep, .ref yem, .ref yec, .ref yw, .ref yed, .ref yeg])), (yel, .inl (cyI, 3, .inl yLo)), (yeh, .inl (cyI, 3, .inl yHi)), (yep, .inl (cyI, 3, .inl yPa)), (yem, .inl (cyJ, 9, .inr (.inl yMa))), (yec, .inl (cyI, 5, .inl yCo)), (yed, .inl (cyJ, 3, .inr (.inl x13))), (yeg, .inl (cyJ, 3, .inr (.inl yGa))), (yw, .inr (4, [.ref ywo, .ref ywi, .int yHd])), (ywo, .inl (cyI, 20, .inl yWo)), (ywi, .inl (cyI, 20, .inl yWi))] H → va_D A [(ye, .inr (0, [.ref yel, .ref yeh, .ref yep, .ref yem, .ref yec, .ref yw, .ref yed, .ref yeg])), (yel, .inl (cyI, 3, .inl yLo)), (yeh, .inl (cyI, 3, .inl yHi)), (yep, .inl (cyI, 3, .inl yPa)), (yem, .inl (cyJ, 9, .inr (.inl yMa))), (yec, .inl (cyI, 5, .inl yCo)), (yed, .inl (cyJ, 3, .inr (.inl x13))), (yeg, .inl (cyJ, 3, .inr (.inl yGa))), (yw, .inr (4, [.ref ywo, .ref ywi, .int yHd])), (ywo, .inl (cyI, 20, .inl yWo)), (ywi, .inl (cyI, 20, .inl yWi))] → va_S A s.heap H locs → lv_has ls 5 [(0, .ref ye), (1, .int w1), (2, .int w2)] → W p l e (headSpec wsX0_spread ({ frames := 1, cells := 0, slots := 0, locals := 40 } : Room)).room s m ([.ref ye, .int w1, .int w2] : List Value).toArray below meth c H locs 0 0 (MQ below (va_Ql (fun (r' : Int64) (_ : Unit) => r' = out.1) (cPost (dC, dI) [(cyI, .int), (cyJ, .long), (cyB, .byte), (cyS, .object "SelfTuner$State"), (cyD, .double)] [(ye, .inr (0, [.ref yel, .ref yeh, .ref yep, .ref yem, .ref yec, .ref yw, .ref yed, .ref yeg])), (yel, .inl (cyI, 3, .inl yLo)), (yeh, .inl (cyI, 3, .inl yHi)), (yep, .inl (cyI, 3, .inl yPa)), (yem, .inl (cyJ, 9, .inr (.inl yMa))), (yec, .inl (cyI, 5, .inl yCo)), (yed, .inl (cyJ, 3, .inr (.inl out.2))), (yeg, .inl (cyJ, 3, .inr (.inl yGa))), (yw, .inr (4, [.ref ywo, .ref ywi, .int yHd])), (ywo, .inl (cyI, 20, .inl yWo)), (ywi, .inl (cyI, 20, .inl yWi))] A) A) ([.ref ye, .int w1, .int w2] : List Value).toArray s 0 0 A) (F0 m 57 ls [])) → W p l e (headSpec wsX0_spread ({ frames := 1, cells := 0, slots := 0, locals := 40 } : Room)).room s m ([.ref ye, .int w1, .int w2] : List Value).toArray below meth c H locs 0 0 (MQ below (va_Ql (fun (r' : Int64) (_ : Unit) => r' = out.1) (cPost (dC, dI) [(cyI, .int), (cyJ, .long), (cyB, .byte), (cyS, .object "SelfTuner$State"), (cyD, .double)] [(ye, .inr (0, [.ref yel, .ref yeh, .ref yep, .ref yem, .ref yec, .ref yw, .ref yed, .ref yeg])), (yel, .inl (cyI, 3, .inl yLo)), (yeh, .inl (cyI, 3, .inl yHi)), (yep, .inl (cyI, 3, .inl yPa)), (yem, .inl (cyJ, 9, .inr (.inl yMa))), (yec, .inl (cyI, 5, .inl yCo)), (yed, .inl (cyJ, 3, .inr (.inl out.2))), (yeg, .inl (cyJ, 3, .inr (.inl yGa))), (yw, .inr (4, [.ref ywo, .ref ywi, .int yHd])), (ywo, .inl (cyI, 20, .inl yWo)), (ywi, .inl (cyI, 20, .inl yWi))] A) A) ([.ref ye, .int w1, .int w2] : List Value).toArray s 0 0 A) (F0 m 2 ls []) := by
    intro n1
    induction n1 with
    | zero => intro K2 v3 v4 H locs ls hF; exact no_e (show none = some out from hF)
    | succ n1 ihn1 =>
      intro K2 v3 v4 H locs ls hF hP hD hS hl kxn1
      rw [F_X0_spread_2] at hF
      refine lv_iload_n hx hb dX0_spread_2 rfl (lv_at hl 3 rfl) ?_
      refine lv_iconst (v := 3) hx hb dX0_spread_3 (by decide) ?_
      refine lv_icmp_ge (tgt := 57) hx hb dX0_spread_4 (by decide) (fun c5 => ?_) (fun c5 => ?_)
      · have hF := ite_t hF c5
        exact kxn1 _ _ _ _ hF hP hD hS (lv_sub hl [0, 1, 2] rfl)
      · have hF := ite_f hF c5
        refine lv_iconst (v := 3) hx hb dX0_spread_7 (by decide) ?_
        refine lv_iload_n hx hb dX0_spread_8 rfl (lv_at hl 3 rfl) ?_
        refine lv_imul hx hb dX0_spread_9 ?_
        obtain ⟨v6, hv6, hF⟩ := lt_e hF
        refine x_topi hv6 ?_
        refine lv_istore (lv' := [(4, .int v6), (0, .ref ye), (1, .int w1), (2, .int w2), (3, .int v3)]) hx hb dX0_spread_10 hl (by decide) rfl (fun ls hl => ?_)
        refine lv_aload_n hx hb dX0_spread_12 rfl (lv_at hl 1 rfl) ?_
        refine va_get (D := (dC, dI)) (ci := 0) (v := .ref yed) (C := RX0) (T := TX0) (N := 8) hx hb hts iX0_spread_X0 hown hK hP 0 rfl rfl 6 (by decide) (hts _ kX0_spread_1) (fun _ h9 => h9) rfl dX0_spread_13 ?_
        refine lv_iload_n hx hb dX0_spread_16 rfl (lv_at hl 4 rfl) ?_
        refine lv_aload_n hx hb dX0_spread_17 rfl (lv_at hl 1 rfl) ?_
        refine va_get (D := (dC, dI)) (ci := 0) (v := .ref yem) (C := RX0) (T := TX0) (N := 8) hx hb hts iX0_spread_X0 hown hK hP 0 rfl rfl 3 (by decide) (hts _ kX0_spread_2) (fun _ h9 => h9) rfl dX0_spread_18 ?_
        refine lv_iload hx hb dX0_spread_21 (lv_at hl 0 rfl) ?_
        obtain ⟨g7, hF⟩ := ck_e hF
        refine x_lald hx hb hK hP 4 1 rfl rfl rfl g7 dX0_spread_23 ?_
        refine lv_iload_n hx hb dX0_spread_24 rfl (lv_at hl 2 rfl) ?_
        refine lv_i2l (v := w1.toInt64) hx hb dX0_spread_25 rfl ?_
        refine lv_lmul hx hb dX0_spread_26 ?_
        refine lv_aload_n hx hb dX0_spread_27 rfl (lv_at hl 1 rfl) ?_
        refine va_get (D := (dC, dI)) (ci := 0) (v := .ref yem) (C := RX0) (T := TX0) (N := 8) hx hb hts iX0_spread_X0 hown hK hP 0 rfl rfl 3 (by decide) (hts _ kX0_spread_2) (fun _ h9 => h9) rfl dX0_spread_28 ?_
        refine lv_iload hx hb dX0_spread_31 (lv_at hl 0 rfl) ?_
        refine lv_iconst (v := 1) hx hb dX0_spread_33 (by decide) ?_
        refine lv_iadd hx hb dX0_spread_34 ?_
        obtain ⟨g8, hF⟩ := ck_e hF
        refine x_lald hx hb hK hP 4 1 rfl rfl rfl g8 dX0_spread_35 ?_
        refine lv_iload_n hx hb dX0_spread_36 rfl (lv_at hl 3 rfl) ?_
        refine lv_i2l (v := w2.toInt64) hx hb dX0_spread_37 rfl ?_
        refine lv_lmul hx hb dX0_spread_38 ?_
        refine lv_ladd hx hb dX0_spread_39 ?_
        refine lv_aload_n hx hb dX0_spread_40 rfl (lv_at hl 1 rfl) ?_
        refine va_get (D := (dC, dI)) (ci := 0) (v := .ref yem) (C := RX0) (T := TX0) (N := 8) hx hb hts iX0_spread_X0 hown hK hP 0 rfl rfl 3 (by decide) (hts _ kX0_spread_2) (fun _ h9 => h9) rfl dX0_spread_41 ?_
        refine lv_iload hx hb dX0_spread_44 (lv_at hl 0 rfl) ?_
        refine lv_iconst (v := 2) hx hb dX0_spread_46 (by decide) ?_
        refine lv_iadd hx hb dX0_spread_47 ?_
        obtain ⟨g9, hF⟩ := ck_e hF
        refine x_lald hx hb hK hP 4 1 rfl rfl rfl g9 dX0_spread_48 ?_
        refine lv_ladd hx hb dX0_spread_49 ?_
        obtain ⟨g10, hF⟩ := ck_e hF
        obtain ⟨v11, hv11, hF⟩ := lt_e hF
        refine x_last (ws' := [(ye, .inr (0, [.ref yel, .ref yeh, .ref yep, .ref yem, .ref yec, .ref yw, .ref yed, .ref yeg])), (yel, .inl (cyI, 3, .inl yLo)), (yeh, .inl (cyI, 3, .inl yHi)), (yep, .inl (cyI, 3, .inl yPa)), (yem, .inl (cyJ, 9, .inr (.inl yMa))), (yec, .inl (cyI, 5, .inl yCo)), (yed, .inl (cyJ, 3, .inr (.inl v11))), (yeg, .inl (cyJ, 3, .inr (.inl yGa))), (yw, .inr (4, [.ref ywo, .ref ywi, .int yHd])), (ywo, .inl (cyI, 20, .inl yWo)), (ywi, .inl (cyI, 20, .inl yWi))]) hx hb hK hP hD hS 6 1 rfl rfl rfl g10 hv11 rfl dX0_spread_50 (fun H locs hP hD hS => ?_)
        obtain ⟨v12, hv12, hF⟩ := lt_e hF
        refine lv_iinc (v := v12) (lv' := [(3, .int v12), (4, .int v6), (0, .ref ye), (1, .int w1), (2, .int w2)]) hx hb dX0_spread_51 hl (k := 4) rfl (by rw [hv12]; rfl) (by decide) rfl (fun ls hl => ?_)
        refine lv_goto (tgt := 2) hx hb dX0_spread_54 (by decide) ?_
        exact ihn1 _ _ _ _ _ _ hF hP hD hS (lv_sub hl [2, 3, 4, 0] rfl) kxn1
  refine Ln1 _ _ _ _ _ _ _ hF hP hD hS (lv_sub hl [1, 2, 3, 0] rfl) (fun x13 H locs ls hF hP hD hS hl => ?_)
  refine lv_lconst (v := 0) hx hb dX0_spread_57 (by decide) ?_
  refine lv_aload_n hx hb dX0_spread_58 rfl (lv_at hl 0 rfl) ?_
  refine va_get (D := (dC, dI)) (ci := 0) (v := .ref yed) (C := RX0) (T := TX0) (N := 8) hx hb hts iX0_spread_X0 hown hK hP 0 rfl rfl 6 (by decide) (hts _ kX0_spread_1) (fun _ h9 => h9) rfl dX0_spread_59 ?_
  refine lv_iconst (v := 0) hx hb dX0_spread_62 (by decide) ?_
  refine x_lald hx hb hK hP 6 1 rfl rfl (show (0 : Int32).toNatClampNeg = 0 by decide) (inbK (k := 0) (by decide) rfl) dX0_spread_63 ?_
  refine lv_iload_n hx hb dX0_spread_64 rfl (lv_at hl 1 rfl) ?_
  refine lv_i2l (v := w1.toInt64) hx hb dX0_spread_65 rfl ?_
  refine lv_lmul hx hb dX0_spread_66 ?_
  refine lv_aload_n hx hb dX0_spread_67 rfl (lv_at hl 0 rfl) ?_
  refine va_get (D := (dC, dI)) (ci := 0) (v := .ref yed) (C := RX0) (T := TX0) (N := 8) hx hb hts iX0_spread_X0 hown hK hP 0 rfl rfl 6 (by decide) (hts _ kX0_spread_1) (fun _ h9 => h9) rfl dX0_spread_68 ?_
  refine lv_iconst (v := 1) hx hb dX0_spread_71 (by decide) ?_
  refine x_lald hx hb hK hP 6 1 rfl rfl (show (1 : Int32).toNatClampNeg = 1 by decide) (inbK (k := 1) (by decide) rfl) dX0_spread_72 ?_
  refine lv_iload_n hx hb dX0_spread_73 rfl (lv_at hl 2 rfl) ?_
  refine lv_i2l (v := w2.toInt64) hx hb dX0_spread_74 rfl ?_
  refine lv_lmul hx hb dX0_spread_75 ?_
  refine lv_ladd hx hb dX0_spread_76 ?_
  refine lv_aload_n hx hb dX0_spread_77 rfl (lv_at hl 0 rfl) ?_
  refine va_get (D := (dC, dI)) (ci := 0) (v := .ref yed) (C := RX0) (T := TX0) (N := 8) hx hb hts iX0_spread_X0 hown hK hP 0 rfl rfl 6 (by decide) (hts _ kX0_spread_1) (fun _ h9 => h9) rfl dX0_spread_78 ?_
  refine lv_iconst (v := 2) hx hb dX0_spread_81 (by decide) ?_
  refine x_lald hx hb hK hP 6 1 rfl rfl (show (2 : Int32).toNatClampNeg = 2 by decide) (inbK (k := 2) (by decide) rfl) dX0_spread_82 ?_
  refine lv_ladd hx hb dX0_spread_83 ?_
  refine va_mmax_long hx hb (hml.trans hl.1.symm) hown (hts _ kX0_spread_3) (hts _ kX0_spread_4) (hts _ kX0_spread_5) (hts _ kX0_spread_6) (Nat.le_of_ble_eq_true rfl) (Nat.le_of_ble_eq_true rfl) (Nat.le_of_ble_eq_true rfl) (Nat.le_of_ble_eq_true rfl) dX0_spread_84 ?_
  obtain rfl := some_e hF
  exact W.lret (v := (if (((((x13 0) * w1.toInt64) + ((x13 1) * w2.toInt64)) + (x13 2)) : Int64) < 0 then 0 else ((((x13 0) * w1.toInt64) + ((x13 1) * w2.toInt64)) + (x13 2)))) hx hb hr (fun t ht hW => ⟨⟨(if (((((x13 0) * w1.toInt64) + ((x13 1) * w2.toInt64)) + (x13 2)) : Int64) < 0 then 0 else ((((x13 0) * w1.toInt64) + ((x13 1) * w2.toInt64)) + (x13 2))), (), rfl, rfl, ⟨by rw [ht]; exact hP, va_K.moved hW.alike hK, hD⟩⟩, hS.F ht⟩) hS.2.2 dX0_spread_87
def F_X0_findGains_2 (yDi : Nat → Int64) (w1 : Int64) : Nat → (((Nat → Int64)) → Option ((Nat → Int64))) → Int32 → (Nat → Int64) → Option ((Nat → Int64))
  | 0, _, _, _ => none
  | n1 + 1, K2, v3, v4 => if (3 : Int32) ≤ v3 then (K2 v4) else (ck (inb v3 3) (ob (F_X5_divideDown (65536 * (yDi v3.toNatClampNeg)) w1) (fun o7 => ob (F_X5_bring o7 (-6553600) 6553600) (fun o8 => ck (inb v3 3) (lt_ (α := Nat → Int64) (vp_updL v4 v3.toNatClampNeg o8) (fun v10 => lt_ (α := Int32) (v3 + 1) (fun v11 => F_X0_findGains_2 yDi w1 n1 K2 v11 v10)))))))
def F_X0_findGains (yDi : Nat → Int64) (yGa : Nat → Int64) (w1 : Int64) : Option ((Nat → Int64)) := F_X0_findGains_2 yDi w1 1000 (fun x12 => some x12) 0 yGa
theorem kX0_findGains_1 : (Cond.fieldLink RX0 40 "SelfTuner$Estimator" "gains" "[J") ∈ wsX0_findGains := List.mem_of_getElem? (i := 1) rfl
theorem kX0_findGains_2 : (Cond.constantLong RX0 60 (65536)) ∈ wsX0_findGains := List.mem_of_getElem? (i := 2) rfl
theorem kX0_findGains_3 : (Cond.fieldLink RX0 37 "SelfTuner$Estimator" "directions" "[J") ∈ wsX0_findGains := List.mem_of_getElem? (i := 3) rfl
theorem kX0_findGains_4 : (Cond.constantLong RX0 108 (-6553600)) ∈ wsX0_findGains := List.mem_of_getElem? (i := 4) rfl
theorem kX0_findGains_5 : (Cond.constantLong RX0 69 (6553600)) ∈ wsX0_findGains := List.mem_of_getElem? (i := 5) rfl
theorem kX0_findGains_6 : (Cond.static yX5_divideDown) ∈ wsX0_findGains := List.mem_of_getElem? (i := 6) rfl
theorem kX0_findGains_7 : (Cond.initialized RX5) ∈ wsX0_findGains := List.mem_of_getElem? (i := 7) rfl
theorem kX0_findGains_13 : (Cond.static yX5_bring) ∈ wsX0_findGains := List.mem_of_getElem? (i := 13) rfl
theorem iX0_findGains_X0 : ∀ w ∈ wsX00, w ∈ wsX0_findGains := fun w h => List.mem_cons_of_mem _ (List.mem_append_right _ h)
set_option maxHeartbeats 4000000 in
set_option maxRecDepth 100000 in
theorem c_X0_findGains (l : Launch) (dC : Nat → ClassId) (dI : Nat → Nat → Nat) (cyI cyJ cyB cyS cyD : ClassId) (ye : Nat) (yel : Nat) (yeh : Nat) (yep : Nat) (yem : Nat) (yec : Nat) (yw : Nat) (yed : Nat) (yeg : Nat) (ywo : Nat) (ywi : Nat) (sz : Nat) (yLo : Nat → Int32) (yHi : Nat → Int32) (yPa : Nat → Int32) (yMa : Nat → Int64) (yCo : Nat → Int32) (yDi : Nat → Int64) (yGa : Nat → Int64) (yHd : Int32) (yWo : Nat → Int32) (yWi : Nat → Int32) (w1 : Int64) {out : (Nat → Int64)} (hF : F_X0_findGains yDi yGa w1 = some out) : Mv l yX0_findGains wsX0_findGains ({ frames := 2, cells := 0, slots := 0, locals := 48 } : Room) (dC, dI) [(cyI, .int), (cyJ, .long), (cyB, .byte), (cyS, .object "SelfTuner$State"), (cyD, .double)] sz [.ref ye, .long w1] [(ye, .inr (0, [.ref yel, .ref yeh, .ref yep, .ref yem, .ref yec, .ref yw, .ref yed, .ref yeg])), (yel, .inl (cyI, 3, .inl yLo)), (yeh, .inl (cyI, 3, .inl yHi)), (yep, .inl (cyI, 3, .inl yPa)), (yem, .inl (cyJ, 9, .inr (.inl yMa))), (yec, .inl (cyI, 5, .inl yCo)), (yed, .inl (cyJ, 3, .inr (.inl yDi))), (yeg, .inl (cyJ, 3, .inr (.inl yGa))), (yw, .inr (4, [.ref ywo, .ref ywi, .int yHd])), (ywo, .inl (cyI, 20, .inl yWo)), (ywi, .inl (cyI, 20, .inl yWi))] [(ye, .inr (0, [.ref yel, .ref yeh, .ref yep, .ref yem, .ref yec, .ref yw, .ref yed, .ref yeg])), (yel, .inl (cyI, 3, .inl yLo)), (yeh, .inl (cyI, 3, .inl yHi)), (yep, .inl (cyI, 3, .inl yPa)), (yem, .inl (cyJ, 9, .inr (.inl yMa))), (yec, .inl (cyI, 5, .inl yCo)), (yed, .inl (cyJ, 3, .inr (.inl yDi))), (yeg, .inl (cyJ, 3, .inr (.inl out))), (yw, .inr (4, [.ref ywo, .ref ywi, .int yHd])), (ywo, .inl (cyI, 20, .inl yWo)), (ywi, .inl (cyI, 20, .inl yWi))] := by
  refine Met.ofW (cc := cX0_findGains) (maxL := 4) (ret := none) (by decide) rfl ?_
  intro p e s m args below meth c s₁ B hml hv
  obtain ⟨rfl, hN, hsz, hP, hK, hD0⟩ := hv
  have hx := B.exec
  have hb := B.bytes
  have hr := B.returns
  have hts := atoms_spec (ws := wsX0_findGains) B.pre
  have hown : s.vm.findClass RX0 = some m.cls := findClass_of_methodNamed B.named
  have hlocks := B.notSynchronized
  subst hsz
  have hD := hD0.self (sz := s.heap.size)
  generalize hAe : va_A [(ye, .inr (0, [.ref yel, .ref yeh, .ref yep, .ref yem, .ref yec, .ref yw, .ref yed, .ref yeg])), (yel, .inl (cyI, 3, .inl yLo)), (yeh, .inl (cyI, 3, .inl yHi)), (yep, .inl (cyI, 3, .inl yPa)), (yem, .inl (cyJ, 9, .inr (.inl yMa))), (yec, .inl (cyI, 5, .inl yCo)), (yed, .inl (cyJ, 3, .inr (.inl yDi))), (yeg, .inl (cyJ, 3, .inr (.inl yGa))), (yw, .inr (4, [.ref ywo, .ref ywi, .int yHd])), (ywo, .inl (cyI, 20, .inl yWo)), (ywi, .inl (cyI, 20, .inl yWi))] s.heap.size = A at hD ⊢
  have hA : ∀ q : Nat, s.heap.size ≤ q → A q := fun q h => by rw [← hAe]; exact Or.inr h
  have hS : va_S A s.heap s.heap [] := va_S.rf
  have hP : va_P (dC, dI) vwCl [(ye, .inr (0, [.ref yel, .ref yeh, .ref yep, .ref yem, .ref yec, .ref yw, .ref yed, .ref yeg])), (yel, .inl (cyI, 3, .inl yLo)), (yeh, .inl (cyI, 3, .inl yHi)), (yep, .inl (cyI, 3, .inl yPa)), (yem, .inl (cyJ, 9, .inr (.inl yMa))), (yec, .inl (cyI, 5, .inl yCo)), (yed, .inl (cyJ, 3, .inr (.inl yDi))), (yeg, .inl (cyJ, 3, .inr (.inl yGa))), (yw, .inr (4, [.ref ywo, .ref ywi, .int yHd])), (ywo, .inl (cyI, 20, .inl yWo)), (ywi, .inl (cyI, 20, .inl yWi))] s.heap := hP
  have hl := lv_entry ([.ref ye, .long w1]) (n := 4) (Nat.le_of_ble_eq_true rfl)
  rw [lg_entry_eq]
  generalize (lg_sl ([.ref ye, .long w1]) ++ List.replicate (4 - (lg_sl ([.ref ye, .long w1])).length) Slot.unset).toArray = ls at hl ⊢
  have hl : lv_has ls 4 [(0, .ref ye), (1, .long w1)] := hl
  unfold F_X0_findGains at hF
  refine lv_iconst (v := 0) hx hb dX0_findGains_0 (by decide) ?_
  refine lv_istore_n (lv' := [(3, .int 0), (0, .ref ye), (1, .long w1)]) hx hb dX0_findGains_1 rfl hl (by decide) rfl (fun ls hl => ?_)
  have Ln1 : ∀ (n1 : Nat) (K2 : ((Nat → Int64)) → Option ((Nat → Int64))) (v3 : Int32) (v4 : Nat → Int64) (H : Heap) (locs : List Loc) (ls : Array Slot), F_X0_findGains_2 yDi w1 n1 K2 v3 v4 = some out → va_P (dC, dI) vwCl [(ye, .inr (0, [.ref yel, .ref yeh, .ref yep, .ref yem, .ref yec, .ref yw, .ref yed, .ref yeg])), (yel, .inl (cyI, 3, .inl yLo)), (yeh, .inl (cyI, 3, .inl yHi)), (yep, .inl (cyI, 3, .inl yPa)), (yem, .inl (cyJ, 9, .inr (.inl yMa))), (yec, .inl (cyI, 5, .inl yCo)), (yed, .inl (cyJ, 3, .inr (.inl yDi))), (yeg, .inl (cyJ, 3, .inr (.inl v4))), (yw, .inr (4, [.ref ywo, .ref ywi, .int yHd])), (ywo, .inl (cyI, 20, .inl yWo)), (ywi, .inl (cyI, 20, .inl yWi))] H → va_D A [(ye, .inr (0, [.ref yel, .ref yeh, .ref yep, .ref yem, .ref yec, .ref yw, .ref yed, .ref yeg])), (yel, .inl (cyI, 3, .inl yLo)), (yeh, .inl (cyI, 3, .inl yHi)), (yep, .inl (cyI, 3, .inl yPa)), (yem, .inl (cyJ, 9, .inr (.inl yMa))), (yec, .inl (cyI, 5, .inl yCo)), (yed, .inl (cyJ, 3, .inr (.inl yDi))), (yeg, .inl (cyJ, 3, .inr (.inl v4))), (yw, .inr (4, [.ref ywo, .ref ywi, .int yHd])), (ywo, .inl (cyI, 20, .inl yWo)), (ywi, .inl (cyI, 20, .inl yWi))] → va_S A s.heap H locs → lv_has ls 4 [(0, .ref ye), (1, .long w1), (3, .int v3)] → (∀ (x12 : (Nat → Int64)) (H : Heap) (locs : List Loc) (ls : Array Slot), K2 x12 = some out → va_P (dC, dI) vwCl [(ye, .inr (0, [.ref yel, .ref yeh, .ref yep, .ref yem, .ref yec, .ref yw, .ref yed, .ref yeg])), (yel, .inl (cyI, 3, .inl yLo)), (yeh, .inl (cyI, 3, .inl yHi)), (yep, .inl (cyI, 3, .inl yPa)), (yem, .inl (cyJ, 9, .inr (.inl yMa))), (yec, .inl (cyI, 5, .inl yCo)), (yed, .inl (cyJ, 3, .inr (.inl yDi))), (yeg, .inl (cyJ, 3, .inr (.inl x12))), (yw, .inr (4, [.ref ywo, .ref ywi, .int yHd])), (ywo, .inl (cyI, 20, .inl yWo)), (ywi, .inl (cyI, 20, .inl yWi))] H → va_D A [(ye, .inr (0, [.ref yel, .ref yeh, .ref yep, .ref yem, .ref yec, .ref yw, .ref yed, .ref yeg])), (yel, .inl (cyI, 3, .inl yLo)), (yeh, .inl (cyI, 3, .inl yHi)), (yep, .inl (cyI, 3, .inl yPa)), (yem, .inl (cyJ, 9, .inr (.inl yMa))), (yec, .inl (cyI, 5, .inl yCo)), (yed, .inl (cyJ, 3, .inr (.inl yDi))), (yeg, .inl (cyJ, 3, .inr (.inl x12))), (yw, .inr (4, [.ref ywo, .ref ywi, .int yHd])), (ywo, .inl (cyI, 20, .inl yWo)), (ywi, .inl (cyI, 20, .inl yWi))] → va_S A s.heap H locs → lv_has ls 4 [] → W p l e (headSpec wsX0_findGains ({ frames := 2, cells := 0, slots := 0, locals := 48 } : Room)).room s m ([.ref ye, .long w1] : List Value).toArray below meth c H locs 0 0 (MQ below (va_Qv (fun (_ : Unit) => True) (cPost (dC, dI) [(cyI, .int), (cyJ, .long), (cyB, .byte), (cyS, .object "SelfTuner$State"), (cyD, .double)] [(ye, .inr (0, [.ref yel, .ref yeh, .ref yep, .ref yem, .ref yec, .ref yw, .ref yed, .ref yeg])), (yel, .inl (cyI, 3, .inl yLo)), (yeh, .inl (cyI, 3, .inl yHi)), (yep, .inl (cyI, 3, .inl yPa)), (yem, .inl (cyJ, 9, .inr (.inl yMa))), (yec, .inl (cyI, 5, .inl yCo)), (yed, .inl (cyJ, 3, .inr (.inl yDi))), (yeg, .inl (cyJ, 3, .inr (.inl out))), (yw, .inr (4, [.ref ywo, .ref ywi, .int yHd])), (ywo, .inl (cyI, 20, .inl yWo)), (ywi, .inl (cyI, 20, .inl yWi))] A) A) ([.ref ye, .long w1] : List Value).toArray s 0 0 A) (F0 m 42 ls [])) → W p l e (headSpec wsX0_findGains ({ frames := 2, cells := 0, slots := 0, locals := 48 } : Room)).room s m ([.ref ye, .long w1] : List Value).toArray below meth c H locs 0 0 (MQ below (va_Qv (fun (_ : Unit) => True) (cPost (dC, dI) [(cyI, .int), (cyJ, .long), (cyB, .byte), (cyS, .object "SelfTuner$State"), (cyD, .double)] [(ye, .inr (0, [.ref yel, .ref yeh, .ref yep, .ref yem, .ref yec, .ref yw, .ref yed, .ref yeg])), (yel, .inl (cyI, 3, .inl yLo)), (yeh, .inl (cyI, 3, .inl yHi)), (yep, .inl (cyI, 3, .inl yPa)), (yem, .inl (cyJ, 9, .inr (.inl yMa))), (yec, .inl (cyI, 5, .inl yCo)), (yed, .inl (cyJ, 3, .inr (.inl yDi))), (yeg, .inl (cyJ, 3, .inr (.inl out))), (yw, .inr (4, [.ref ywo, .ref ywi, .int yHd])), (ywo, .inl (cyI, 20, .inl yWo)), (ywi, .inl (cyI, 20, .inl yWi))] A) A) ([.ref ye, .long w1] : List Value).toArray s 0 0 A) (F0 m 2 ls []) := by
    intro n1
    induction n1 with
    | zero => intro K2 v3 v4 H locs ls hF; exact no_e (show none = some out from hF)
    | succ n1 ihn1 =>
      intro K2 v3 v4 H locs ls hF hP hD hS hl kxn1
      rw [F_X0_findGains_2] at hF
      refine lv_iload_n hx hb dX0_findGains_2 rfl (lv_at hl 2 rfl) ?_
      refine lv_iconst (v := 3) hx hb dX0_findGains_3 (by decide) ?_
      refine lv_icmp_ge (tgt := 42) hx hb dX0_findGains_4 (by decide) (fun c5 => ?_) (fun c5 => ?_)
      · have hF := ite_t hF c5
        exact kxn1 _ _ _ _ hF hP hD hS (lv_sub hl [] rfl)
      · have hF := ite_f hF c5
        refine lv_aload_n hx hb dX0_findGains_7 rfl (lv_at hl 0 rfl) ?_
        refine va_get (D := (dC, dI)) (ci := 0) (v := .ref yeg) (C := RX0) (T := TX0) (N := 8) hx hb hts iX0_findGains_X0 hown hK hP 0 rfl rfl 7 (by decide) (hts _ kX0_findGains_1) (fun _ h9 => h9) rfl dX0_findGains_8 ?_
        refine lv_iload_n hx hb dX0_findGains_11 rfl (lv_at hl 2 rfl) ?_
        refine lv_ldc2 (v := 65536) hx hb hown (hts _ kX0_findGains_2) dX0_findGains_12 ?_
        refine lv_aload_n hx hb dX0_findGains_15 rfl (lv_at hl 0 rfl) ?_
        refine va_get (D := (dC, dI)) (ci := 0) (v := .ref yed) (C := RX0) (T := TX0) (N := 8) hx hb hts iX0_findGains_X0 hown hK hP 0 rfl rfl 6 (by decide) (hts _ kX0_findGains_3) (fun _ h9 => h9) rfl dX0_findGains_16 ?_
        refine lv_iload_n hx hb dX0_findGains_19 rfl (lv_at hl 2 rfl) ?_
        obtain ⟨g6, hF⟩ := ck_e hF
        refine x_lald hx hb hK hP 6 1 rfl rfl rfl g6 dX0_findGains_20 ?_
        refine lv_lmul hx hb dX0_findGains_21 ?_
        refine lv_lload_n hx hb dX0_findGains_22 rfl (lv_at hl 1 rfl) ?_
        obtain ⟨o7, ho7, hF⟩ := ob_e hF
        refine x_callzl (va_runSN (As := [.long (65536 * (yDi v3.toNatClampNeg)), .long w1]) (rest := [.int v3, .ref yeg]) ⟨hx, hb, hml, hown, hts⟩ (c_X5_divideDown l (65536 * (yDi v3.toNatClampNeg)) w1 ho7) ⟨va_cnB 2 hts gX0_findGains_X5_divideDown_n104 rfl rfl rfl (nm_X0_104 hN) (hts _ kX0_findGains_7) (by decide +kernel) ⟨Nat.le_of_ble_eq_true rfl, Nat.le_of_ble_eq_true rfl⟩, hts _ kX0_findGains_6, trivial⟩ ⟨true_blind, fun _ _ _ => ⟨rfl, trivial⟩⟩ rfl rfl hl.1 rfl (lv_room (Nat.le_of_ble_eq_true rfl)) dX0_findGains_23 ⟨Nat.le_of_ble_eq_true rfl, Nat.le_of_ble_eq_true rfl⟩) ?_
        refine lv_ldc2 (v := (-6553600)) hx hb hown (hts _ kX0_findGains_4) dX0_findGains_26 ?_
        refine lv_ldc2 (v := 6553600) hx hb hown (hts _ kX0_findGains_5) dX0_findGains_29 ?_
        obtain ⟨o8, ho8, hF⟩ := ob_e hF
        refine x_callzl (va_runSN (As := [.long o7, .long (-6553600), .long 6553600]) (rest := [.int v3, .ref yeg]) ⟨hx, hb, hml, hown, hts⟩ (c_X5_bring l o7 (-6553600) 6553600 ho8) ⟨va_cnB 3 hts gX0_findGains_X5_bring_n71 rfl rfl rfl (nm_X0_71 hN) (hts _ kX0_findGains_7) (by decide +kernel) ⟨Nat.le_of_ble_eq_true rfl, Nat.le_of_ble_eq_true rfl⟩, hts _ kX0_findGains_13, trivial⟩ ⟨true_blind, fun _ _ _ => ⟨rfl, trivial⟩⟩ rfl rfl hl.1 rfl (lv_room (Nat.le_of_ble_eq_true rfl)) dX0_findGains_32 ⟨Nat.le_of_ble_eq_true rfl, Nat.le_of_ble_eq_true rfl⟩) ?_
        obtain ⟨g9, hF⟩ := ck_e hF
        obtain ⟨v10, hv10, hF⟩ := lt_e hF
        refine x_last (ws' := [(ye, .inr (0, [.ref yel, .ref yeh, .ref yep, .ref yem, .ref yec, .ref yw, .ref yed, .ref yeg])), (yel, .inl (cyI, 3, .inl yLo)), (yeh, .inl (cyI, 3, .inl yHi)), (yep, .inl (cyI, 3, .inl yPa)), (yem, .inl (cyJ, 9, .inr (.inl yMa))), (yec, .inl (cyI, 5, .inl yCo)), (yed, .inl (cyJ, 3, .inr (.inl yDi))), (yeg, .inl (cyJ, 3, .inr (.inl v10))), (yw, .inr (4, [.ref ywo, .ref ywi, .int yHd])), (ywo, .inl (cyI, 20, .inl yWo)), (ywi, .inl (cyI, 20, .inl yWi))]) hx hb hK hP hD hS 7 1 rfl rfl rfl g9 hv10 rfl dX0_findGains_35 (fun H locs hP hD hS => ?_)
        obtain ⟨v11, hv11, hF⟩ := lt_e hF
        refine lv_iinc (v := v11) (lv' := [(3, .int v11), (0, .ref ye), (1, .long w1)]) hx hb dX0_findGains_36 hl (k := 2) rfl (by rw [hv11]; rfl) (by decide) rfl (fun ls hl => ?_)
        refine lv_goto (tgt := 2) hx hb dX0_findGains_39 (by decide) ?_
        exact ihn1 _ _ _ _ _ _ hF hP hD hS (lv_sub hl [1, 2, 0] rfl) kxn1
  refine Ln1 _ _ _ _ _ _ _ hF hP hD hS (lv_sub hl [1, 2, 0] rfl) (fun x12 H locs ls hF hP hD hS hl => ?_)
  obtain rfl := some_e hF
  exact W.vret hx hb hr (fun t ht hW => ⟨⟨(), rfl, trivial, ⟨by rw [ht]; exact hP, va_K.moved hW.alike hK, hD⟩⟩, hS.F ht⟩) hS.2.2 dX0_findGains_42
def F_X0_moveParameters_5 (yGa : Nat → Int64) (w1 : Int64) (yLo : Nat → Int32) (yHi : Nat → Int32) : Nat → ((Int32 × (Nat → Int32)) → Option ((Nat → Int32) × (Nat → Int32))) → Int32 → Int32 → (Nat → Int32) → Option ((Nat → Int32) × (Nat → Int32))
  | 0, _, _, _, _ => none
  | n1 + 1, K2, v3, v4, v5 => if (3 : Int32) ≤ v4 then (K2 (v3, v5)) else (ck (inb v4 3) (ck (inb v4 3) (ob (F_X5_divideDown ((yGa v4.toNatClampNeg) * w1) 65536) (fun o9 => lt_ (α := Int64) (((v5 v4.toNatClampNeg).toInt64) + o9) (fun v10 => ob (F_X0_bringIntoBox yLo yHi v5 v4 v10) (fun o11 => rg (α := Int32) (fun K15 => if (o11.1 : Int32) = 0 then (if (v3 : Int32) = 0 then (K15 0) else (K15 1)) else (K15 1)) (fun x14 => lt_ (α := Int32) (v4 + 1) (fun v16 => F_X0_moveParameters_5 yGa w1 yLo yHi n1 K2 x14 v16 o11.2))))))))
def F_X0_moveParameters (yLo : Nat → Int32) (yHi : Nat → Int32) (yPa : Nat → Int32) (yCo : Nat → Int32) (yGa : Nat → Int64) (w1 : Int64) : Option ((Nat → Int32) × (Nat → Int32)) := F_X0_moveParameters_5 yGa w1 yLo yHi 1000 (fun x17 => if (x17.1 : Int32) = 0 then (some (x17.2, yCo)) else (lt_ (α := Nat → Int32) (upd yCo 3 ((yCo 3) + 1)) (fun v19 => some (x17.2, v19)))) 0 0 yPa
theorem kX0_moveParameters_1 : (Cond.fieldLink RX0 20 "SelfTuner$Estimator" "parameters" "[I") ∈ wsX0_moveParameters := List.mem_of_getElem? (i := 1) rfl
theorem kX0_moveParameters_2 : (Cond.fieldLink RX0 40 "SelfTuner$Estimator" "gains" "[J") ∈ wsX0_moveParameters := List.mem_of_getElem? (i := 2) rfl
theorem kX0_moveParameters_3 : (Cond.constantLong RX0 60 (65536)) ∈ wsX0_moveParameters := List.mem_of_getElem? (i := 3) rfl
theorem kX0_moveParameters_4 : (Cond.fieldLink RX0 27 "SelfTuner$Estimator" "counts" "[I") ∈ wsX0_moveParameters := List.mem_of_getElem? (i := 4) rfl
theorem kX0_moveParameters_5 : (Cond.static yX5_divideDown) ∈ wsX0_moveParameters := List.mem_of_getElem? (i := 5) rfl
theorem kX0_moveParameters_6 : (Cond.initialized RX5) ∈ wsX0_moveParameters := List.mem_of_getElem? (i := 6) rfl
theorem iX0_moveParameters_X0 : ∀ w ∈ wsX00, w ∈ wsX0_moveParameters := fun w h => List.mem_cons_of_mem _ (List.mem_append_right _ h)
set_option maxHeartbeats 4000000 in
set_option maxRecDepth 100000 in
theorem c_X0_moveParameters (l : Launch) (dC : Nat → ClassId) (dI : Nat → Nat → Nat) (cyI cyJ cyB cyS cyD : ClassId) (ye : Nat) (yel : Nat) (yeh : Nat) (yep : Nat) (yem : Nat) (yec : Nat) (yw : Nat) (yed : Nat) (yeg : Nat) (ywo : Nat) (ywi : Nat) (sz : Nat) (yLo : Nat → Int32) (yHi : Nat → Int32) (yPa : Nat → Int32) (yMa : Nat → Int64) (yCo : Nat → Int32) (yDi : Nat → Int64) (yGa : Nat → Int64) (yHd : Int32) (yWo : Nat → Int32) (yWi : Nat → Int32) (w1 : Int64) {out : (Nat → Int32) × (Nat → Int32)} (hF : F_X0_moveParameters yLo yHi yPa yCo yGa w1 = some out) : Mv l yX0_moveParameters wsX0_moveParameters ({ frames := 2, cells := 0, slots := 0, locals := 50 } : Room) (dC, dI) [(cyI, .int), (cyJ, .long), (cyB, .byte), (cyS, .object "SelfTuner$State"), (cyD, .double)] sz [.ref ye, .long w1] [(ye, .inr (0, [.ref yel, .ref yeh, .ref yep, .ref yem, .ref yec, .ref yw, .ref yed, .ref yeg])), (yel, .inl (cyI, 3, .inl yLo)), (yeh, .inl (cyI, 3, .inl yHi)), (yep, .inl (cyI, 3, .inl yPa)), (yem, .inl (cyJ, 9, .inr (.inl yMa))), (yec, .inl (cyI, 5, .inl yCo)), (yed, .inl (cyJ, 3, .inr (.inl yDi))), (yeg, .inl (cyJ, 3, .inr (.inl yGa))), (yw, .inr (4, [.ref ywo, .ref ywi, .int yHd])), (ywo, .inl (cyI, 20, .inl yWo)), (ywi, .inl (cyI, 20, .inl yWi))] [(ye, .inr (0, [.ref yel, .ref yeh, .ref yep, .ref yem, .ref yec, .ref yw, .ref yed, .ref yeg])), (yel, .inl (cyI, 3, .inl yLo)), (yeh, .inl (cyI, 3, .inl yHi)), (yep, .inl (cyI, 3, .inl out.1)), (yem, .inl (cyJ, 9, .inr (.inl yMa))), (yec, .inl (cyI, 5, .inl out.2)), (yed, .inl (cyJ, 3, .inr (.inl yDi))), (yeg, .inl (cyJ, 3, .inr (.inl yGa))), (yw, .inr (4, [.ref ywo, .ref ywi, .int yHd])), (ywo, .inl (cyI, 20, .inl yWo)), (ywi, .inl (cyI, 20, .inl yWi))] := by
  refine Met.ofW (cc := cX0_moveParameters) (maxL := 7) (ret := none) (by decide) rfl ?_
  intro p e s m args below meth c s₁ B hml hv
  obtain ⟨rfl, hN, hsz, hP, hK, hD0⟩ := hv
  have hx := B.exec
  have hb := B.bytes
  have hr := B.returns
  have hts := atoms_spec (ws := wsX0_moveParameters) B.pre
  have hown : s.vm.findClass RX0 = some m.cls := findClass_of_methodNamed B.named
  have hlocks := B.notSynchronized
  subst hsz
  have hD := hD0.self (sz := s.heap.size)
  generalize hAe : va_A [(ye, .inr (0, [.ref yel, .ref yeh, .ref yep, .ref yem, .ref yec, .ref yw, .ref yed, .ref yeg])), (yel, .inl (cyI, 3, .inl yLo)), (yeh, .inl (cyI, 3, .inl yHi)), (yep, .inl (cyI, 3, .inl yPa)), (yem, .inl (cyJ, 9, .inr (.inl yMa))), (yec, .inl (cyI, 5, .inl yCo)), (yed, .inl (cyJ, 3, .inr (.inl yDi))), (yeg, .inl (cyJ, 3, .inr (.inl yGa))), (yw, .inr (4, [.ref ywo, .ref ywi, .int yHd])), (ywo, .inl (cyI, 20, .inl yWo)), (ywi, .inl (cyI, 20, .inl yWi))] s.heap.size = A at hD ⊢
  have hA : ∀ q : Nat, s.heap.size ≤ q → A q := fun q h => by rw [← hAe]; exact Or.inr h
  have hS : va_S A s.heap s.heap [] := va_S.rf
  have hP : va_P (dC, dI) vwCl [(ye, .inr (0, [.ref yel, .ref yeh, .ref yep, .ref yem, .ref yec, .ref yw, .ref yed, .ref yeg])), (yel, .inl (cyI, 3, .inl yLo)), (yeh, .inl (cyI, 3, .inl yHi)), (yep, .inl (cyI, 3, .inl yPa)), (yem, .inl (cyJ, 9, .inr (.inl yMa))), (yec, .inl (cyI, 5, .inl yCo)), (yed, .inl (cyJ, 3, .inr (.inl yDi))), (yeg, .inl (cyJ, 3, .inr (.inl yGa))), (yw, .inr (4, [.ref ywo, .ref ywi, .int yHd])), (ywo, .inl (cyI, 20, .inl yWo)), (ywi, .inl (cyI, 20, .inl yWi))] s.heap := hP
  have hl := lv_entry ([.ref ye, .long w1]) (n := 7) (Nat.le_of_ble_eq_true rfl)
  rw [lg_entry_eq]
  generalize (lg_sl ([.ref ye, .long w1]) ++ List.replicate (7 - (lg_sl ([.ref ye, .long w1])).length) Slot.unset).toArray = ls at hl ⊢
  have hl : lv_has ls 7 [(0, .ref ye), (1, .long w1)] := hl
  unfold F_X0_moveParameters at hF
  refine lv_iconst (v := 0) hx hb dX0_moveParameters_0 (by decide) ?_
  refine lv_istore_n (lv' := [(3, .int 0), (0, .ref ye), (1, .long w1)]) hx hb dX0_moveParameters_1 rfl hl (by decide) rfl (fun ls hl => ?_)
  refine lv_iconst (v := 0) hx hb dX0_moveParameters_2 (by decide) ?_
  refine lv_istore (lv' := [(4, .int 0), (3, .int 0), (0, .ref ye), (1, .long w1)]) hx hb dX0_moveParameters_3 hl (by decide) rfl (fun ls hl => ?_)
  have Ln1 : ∀ (n1 : Nat) (K2 : (Int32 × (Nat → Int32)) → Option ((Nat → Int32) × (Nat → Int32))) (v3 : Int32) (v4 : Int32) (v5 : Nat → Int32) (H : Heap) (locs : List Loc) (ls : Array Slot), F_X0_moveParameters_5 yGa w1 yLo yHi n1 K2 v3 v4 v5 = some out → va_P (dC, dI) vwCl [(ye, .inr (0, [.ref yel, .ref yeh, .ref yep, .ref yem, .ref yec, .ref yw, .ref yed, .ref yeg])), (yel, .inl (cyI, 3, .inl yLo)), (yeh, .inl (cyI, 3, .inl yHi)), (yep, .inl (cyI, 3, .inl v5)), (yem, .inl (cyJ, 9, .inr (.inl yMa))), (yec, .inl (cyI, 5, .inl yCo)), (yed, .inl (cyJ, 3, .inr (.inl yDi))), (yeg, .inl (cyJ, 3, .inr (.inl yGa))), (yw, .inr (4, [.ref ywo, .ref ywi, .int yHd])), (ywo, .inl (cyI, 20, .inl yWo)), (ywi, .inl (cyI, 20, .inl yWi))] H → va_D A [(ye, .inr (0, [.ref yel, .ref yeh, .ref yep, .ref yem, .ref yec, .ref yw, .ref yed, .ref yeg])), (yel, .inl (cyI, 3, .inl yLo)), (yeh, .inl (cyI, 3, .inl yHi)), (yep, .inl (cyI, 3, .inl v5)), (yem, .inl (cyJ, 9, .inr (.inl yMa))), (yec, .inl (cyI, 5, .inl yCo)), (yed, .inl (cyJ, 3, .inr (.inl yDi))), (yeg, .inl (cyJ, 3, .inr (.inl yGa))), (yw, .inr (4, [.ref ywo, .ref ywi, .int yHd])), (ywo, .inl (cyI, 20, .inl yWo)), (ywi, .inl (cyI, 20, .inl yWi))] → va_S A s.heap H locs → lv_has ls 7 [(0, .ref ye), (1, .long w1), (3, .int v3), (4, .int v4)] → (∀ (x17 : Int32 × (Nat → Int32)) (H : Heap) (locs : List Loc) (ls : Array Slot), K2 x17 = some out → va_P (dC, dI) vwCl [(ye, .inr (0, [.ref yel, .ref yeh, .ref yep, .ref yem, .ref yec, .ref yw, .ref yed, .ref yeg])), (yel, .inl (cyI, 3, .inl yLo)), (yeh, .inl (cyI, 3, .inl yHi)), (yep, .inl (cyI, 3, .inl x17.2)), (yem, .inl (cyJ, 9, .inr (.inl yMa))), (yec, .inl (cyI, 5, .inl yCo)), (yed, .inl (cyJ, 3, .inr (.inl yDi))), (yeg, .inl (cyJ, 3, .inr (.inl yGa))), (yw, .inr (4, [.ref ywo, .ref ywi, .int yHd])), (ywo, .inl (cyI, 20, .inl yWo)), (ywi, .inl (cyI, 20, .inl yWi))] H → va_D A [(ye, .inr (0, [.ref yel, .ref yeh, .ref yep, .ref yem, .ref yec, .ref yw, .ref yed, .ref yeg])), (yel, .inl (cyI, 3, .inl yLo)), (yeh, .inl (cyI, 3, .inl yHi)), (yep, .inl (cyI, 3, .inl x17.2)), (yem, .inl (cyJ, 9, .inr (.inl yMa))), (yec, .inl (cyI, 5, .inl yCo)), (yed, .inl (cyJ, 3, .inr (.inl yDi))), (yeg, .inl (cyJ, 3, .inr (.inl yGa))), (yw, .inr (4, [.ref ywo, .ref ywi, .int yHd])), (ywo, .inl (cyI, 20, .inl yWo)), (ywi, .inl (cyI, 20, .inl yWi))] → va_S A s.heap H locs → lv_has ls 7 [(0, .ref ye), (3, .int x17.1)] → W p l e (headSpec wsX0_moveParameters ({ frames := 2, cells := 0, slots := 0, locals := 50 } : Room)).room s m ([.ref ye, .long w1] : List Value).toArray below meth c H locs 0 0 (MQ below (va_Qv (fun (_ : Unit) => True) (cPost (dC, dI) [(cyI, .int), (cyJ, .long), (cyB, .byte), (cyS, .object "SelfTuner$State"), (cyD, .double)] [(ye, .inr (0, [.ref yel, .ref yeh, .ref yep, .ref yem, .ref yec, .ref yw, .ref yed, .ref yeg])), (yel, .inl (cyI, 3, .inl yLo)), (yeh, .inl (cyI, 3, .inl yHi)), (yep, .inl (cyI, 3, .inl out.1)), (yem, .inl (cyJ, 9, .inr (.inl yMa))), (yec, .inl (cyI, 5, .inl out.2)), (yed, .inl (cyJ, 3, .inr (.inl yDi))), (yeg, .inl (cyJ, 3, .inr (.inl yGa))), (yw, .inr (4, [.ref ywo, .ref ywi, .int yHd])), (ywo, .inl (cyI, 20, .inl yWo)), (ywi, .inl (cyI, 20, .inl yWi))] A) A) ([.ref ye, .long w1] : List Value).toArray s 0 0 A) (F0 m 64 ls [])) → W p l e (headSpec wsX0_moveParameters ({ frames := 2, cells := 0, slots := 0, locals := 50 } : Room)).room s m ([.ref ye, .long w1] : List Value).toArray below meth c H locs 0 0 (MQ below (va_Qv (fun (_ : Unit) => True) (cPost (dC, dI) [(cyI, .int), (cyJ, .long), (cyB, .byte), (cyS, .object "SelfTuner$State"), (cyD, .double)] [(ye, .inr (0, [.ref yel, .ref yeh, .ref yep, .ref yem, .ref yec, .ref yw, .ref yed, .ref yeg])), (yel, .inl (cyI, 3, .inl yLo)), (yeh, .inl (cyI, 3, .inl yHi)), (yep, .inl (cyI, 3, .inl out.1)), (yem, .inl (cyJ, 9, .inr (.inl yMa))), (yec, .inl (cyI, 5, .inl out.2)), (yed, .inl (cyJ, 3, .inr (.inl yDi))), (yeg, .inl (cyJ, 3, .inr (.inl yGa))), (yw, .inr (4, [.ref ywo, .ref ywi, .int yHd])), (ywo, .inl (cyI, 20, .inl yWo)), (ywi, .inl (cyI, 20, .inl yWi))] A) A) ([.ref ye, .long w1] : List Value).toArray s 0 0 A) (F0 m 5 ls []) := by
    intro n1
    induction n1 with
    | zero => intro K2 v3 v4 v5 H locs ls hF; exact no_e (show none = some out from hF)
    | succ n1 ihn1 =>
      intro K2 v3 v4 v5 H locs ls hF hP hD hS hl kxn1
      rw [F_X0_moveParameters_5] at hF
      refine lv_iload hx hb dX0_moveParameters_5 (lv_at hl 3 rfl) ?_
      refine lv_iconst (v := 3) hx hb dX0_moveParameters_7 (by decide) ?_
      refine lv_icmp_ge (tgt := 64) hx hb dX0_moveParameters_8 (by decide) (fun c6 => ?_) (fun c6 => ?_)
      · have hF := ite_t hF c6
        exact kxn1 _ _ _ _ hF hP hD hS (lv_sub hl [0, 2] rfl)
      · have hF := ite_f hF c6
        refine lv_aload_n hx hb dX0_moveParameters_11 rfl (lv_at hl 0 rfl) ?_
        refine va_get (D := (dC, dI)) (ci := 0) (v := .ref yep) (C := RX0) (T := TX0) (N := 8) hx hb hts iX0_moveParameters_X0 hown hK hP 0 rfl rfl 2 (by decide) (hts _ kX0_moveParameters_1) (fun _ h9 => h9) rfl dX0_moveParameters_12 ?_
        refine lv_iload hx hb dX0_moveParameters_15 (lv_at hl 3 rfl) ?_
        obtain ⟨g7, hF⟩ := ck_e hF
        refine x_iald hx hb hK hP 3 0 rfl rfl rfl g7 dX0_moveParameters_17 ?_
        refine lv_i2l (v := (v5 v4.toNatClampNeg).toInt64) hx hb dX0_moveParameters_18 rfl ?_
        refine lv_aload_n hx hb dX0_moveParameters_19 rfl (lv_at hl 0 rfl) ?_
        refine va_get (D := (dC, dI)) (ci := 0) (v := .ref yeg) (C := RX0) (T := TX0) (N := 8) hx hb hts iX0_moveParameters_X0 hown hK hP 0 rfl rfl 7 (by decide) (hts _ kX0_moveParameters_2) (fun _ h9 => h9) rfl dX0_moveParameters_20 ?_
        refine lv_iload hx hb dX0_moveParameters_23 (lv_at hl 3 rfl) ?_
        obtain ⟨g8, hF⟩ := ck_e hF
        refine x_lald hx hb hK hP 7 1 rfl rfl rfl g8 dX0_moveParameters_25 ?_
        refine lv_lload_n hx hb dX0_moveParameters_26 rfl (lv_at hl 1 rfl) ?_
        refine lv_lmul hx hb dX0_moveParameters_27 ?_
        refine lv_ldc2 (v := 65536) hx hb hown (hts _ kX0_moveParameters_3) dX0_moveParameters_28 ?_
        obtain ⟨o9, ho9, hF⟩ := ob_e hF
        refine x_callzl (va_runSN (As := [.long ((yGa v4.toNatClampNeg) * w1), .long 65536]) (rest := [.long ((v5 v4.toNatClampNeg).toInt64)]) ⟨hx, hb, hml, hown, hts⟩ (c_X5_divideDown l ((yGa v4.toNatClampNeg) * w1) 65536 ho9) ⟨va_cnB 2 hts gX0_moveParameters_X5_divideDown_n104 rfl rfl rfl (nm_X0_104 hN) (hts _ kX0_moveParameters_6) (by decide +kernel) ⟨Nat.le_of_ble_eq_true rfl, Nat.le_of_ble_eq_true rfl⟩, hts _ kX0_moveParameters_5, trivial⟩ ⟨true_blind, fun _ _ _ => ⟨rfl, trivial⟩⟩ rfl rfl hl.1 rfl (lv_room (Nat.le_of_ble_eq_true rfl)) dX0_moveParameters_31 ⟨Nat.le_of_ble_eq_true rfl, Nat.le_of_ble_eq_true rfl⟩) ?_
        refine lv_ladd hx hb dX0_moveParameters_34 ?_
        obtain ⟨v10, hv10, hF⟩ := lt_e hF
        refine x_topl hv10 ?_
        refine lv_lstore (lv' := [(5, .long v10), (0, .ref ye), (1, .long w1), (3, .int v3), (4, .int v4)]) hx hb dX0_moveParameters_35 hl (by decide) rfl (fun ls hl => ?_)
        refine lv_aload_n hx hb dX0_moveParameters_37 rfl (lv_at hl 1 rfl) ?_
        refine lv_iload hx hb dX0_moveParameters_38 (lv_at hl 4 rfl) ?_
        refine lv_lload hx hb dX0_moveParameters_40 (lv_at hl 0 rfl) ?_
        obtain ⟨o11, ho11, hF⟩ := ob_e hF
        refine x_calli (wr := []) (ws' := [(ye, .inr (0, [.ref yel, .ref yeh, .ref yep, .ref yem, .ref yec, .ref yw, .ref yed, .ref yeg])), (yel, .inl (cyI, 3, .inl yLo)), (yeh, .inl (cyI, 3, .inl yHi)), (yep, .inl (cyI, 3, .inl o11.2)), (yem, .inl (cyJ, 9, .inr (.inl yMa))), (yec, .inl (cyI, 5, .inl yCo)), (yed, .inl (cyJ, 3, .inr (.inl yDi))), (yeg, .inl (cyJ, 3, .inr (.inl yGa))), (yw, .inr (4, [.ref ywo, .ref ywi, .int yHd])), (ywo, .inl (cyI, 20, .inl yWo)), (ywi, .inl (cyI, 20, .inl yWi))]) (va_runV (As := [.int v4, .long v10]) (rest := []) ⟨hx, hb, hml, hown, hts⟩ (c_X0_bringIntoBox l dC dI cyI cyJ cyB cyS cyD ye yel yeh yep yem yec yw yed yeg ywo ywi H.size yLo yHi v5 yMa yCo yDi yGa yHd yWo yWi v4 v10 ho11) (cwV 2 hts gX0_moveParameters_X0_bringIntoBox rfl rfl rfl (by decide +kernel) ⟨Nat.le_of_ble_eq_true rfl, Nat.le_of_ble_eq_true rfl⟩) ⟨cPre_blind, va_recv hK hP (ci := 0) (q0 := 0) rfl rfl, x_pre hN hP hD hK [0, 1, 2, 3, 4, 5, 6, 7, 8, 9, 10] rfl rfl⟩ rfl rfl hl.1 rfl (lv_room (Nat.le_of_ble_eq_true rfl)) dX0_moveParameters_42 ⟨Nat.le_of_ble_eq_true rfl, Nat.le_of_ble_eq_true rfl⟩) hP hD hS hA [0, 1, 2, 3, 4, 5, 6, 7, 8, 9, 10] [] [0, 1, 2, 3, 4, 5, 6, 7, 8, 9, 10] rfl rfl rfl (by decide) rfl rfl (fun H locs hP hD hS => ?_)
        obtain ⟨K15, hK15, hF⟩ := rg_e hF
        have Jx14 : ∀ (x14 : Int32) (H : Heap) (locs : List Loc) (ls : Array Slot), K15 x14 = some out → va_P (dC, dI) vwCl [(ye, .inr (0, [.ref yel, .ref yeh, .ref yep, .ref yem, .ref yec, .ref yw, .ref yed, .ref yeg])), (yel, .inl (cyI, 3, .inl yLo)), (yeh, .inl (cyI, 3, .inl yHi)), (yep, .inl (cyI, 3, .inl o11.2)), (yem, .inl (cyJ, 9, .inr (.inl yMa))), (yec, .inl (cyI, 5, .inl yCo)), (yed, .inl (cyJ, 3, .inr (.inl yDi))), (yeg, .inl (cyJ, 3, .inr (.inl yGa))), (yw, .inr (4, [.ref ywo, .ref ywi, .int yHd])), (ywo, .inl (cyI, 20, .inl yWo)), (ywi, .inl (cyI, 20, .inl yWi))] H → va_D A [(ye, .inr (0, [.ref yel, .ref yeh, .ref yep, .ref yem, .ref yec, .ref yw, .ref yed, .ref yeg])), (yel, .inl (cyI, 3, .inl yLo)), (yeh, .inl (cyI, 3, .inl yHi)), (yep, .inl (cyI, 3, .inl o11.2)), (yem, .inl (cyJ, 9, .inr (.inl yMa))), (yec, .inl (cyI, 5, .inl yCo)), (yed, .inl (cyJ, 3, .inr (.inl yDi))), (yeg, .inl (cyJ, 3, .inr (.inl yGa))), (yw, .inr (4, [.ref ywo, .ref ywi, .int yHd])), (ywo, .inl (cyI, 20, .inl yWo)), (ywi, .inl (cyI, 20, .inl yWi))] → va_S A s.heap H locs → lv_has ls 7 [(0, .ref ye), (1, .long w1), (4, .int v4)] → W p l e (headSpec wsX0_moveParameters ({ frames := 2, cells := 0, slots := 0, locals := 50 } : Room)).room s m ([.ref ye, .long w1] : List Value).toArray below meth c H locs 0 0 (MQ below (va_Qv (fun (_ : Unit) => True) (cPost (dC, dI) [(cyI, .int), (cyJ, .long), (cyB, .byte), (cyS, .object "SelfTuner$State"), (cyD, .double)] [(ye, .inr (0, [.ref yel, .ref yeh, .ref yep, .ref yem, .ref yec, .ref yw, .ref yed, .ref yeg])), (yel, .inl (cyI, 3, .inl yLo)), (yeh, .inl (cyI, 3, .inl yHi)), (yep, .inl (cyI, 3, .inl out.1)), (yem, .inl (cyJ, 9, .inr (.inl yMa))), (yec, .inl (cyI, 5, .inl out.2)), (yed, .inl (cyJ, 3, .inr (.inl yDi))), (yeg, .inl (cyJ, 3, .inr (.inl yGa))), (yw, .inr (4, [.ref ywo, .ref ywi, .int yHd])), (ywo, .inl (cyI, 20, .inl yWo)), (ywi, .inl (cyI, 20, .inl yWi))] A) A) ([.ref ye, .long w1] : List Value).toArray s 0 0 A) (F0 m 57 ls [.int x14]) := by
          intro x14 H locs ls hF hP hD hS hl
          rw [hK15] at hF
          refine lv_istore_n (lv' := [(3, .int x14), (0, .ref ye), (1, .long w1), (4, .int v4)]) hx hb dX0_moveParameters_57 rfl hl (by decide) rfl (fun ls hl => ?_)
          obtain ⟨v16, hv16, hF⟩ := lt_e hF
          refine lv_iinc (v := v16) (lv' := [(4, .int v16), (3, .int x14), (0, .ref ye), (1, .long w1)]) hx hb dX0_moveParameters_58 hl (k := 3) rfl (by rw [hv16]; rfl) (by decide) rfl (fun ls hl => ?_)
          refine lv_goto (tgt := 5) hx hb dX0_moveParameters_61 (by decide) ?_
          exact ihn1 _ _ _ _ _ _ _ hF hP hD hS (lv_sub hl [2, 3, 1, 0] rfl) kxn1
        refine lv_if_ne (tgt := 52) hx hb dX0_moveParameters_45 (by decide) (fun c12 => ?_) (fun c12 => ?_)
        · have hF := ite_f hF c12
          refine lv_iconst (v := 1) hx hb dX0_moveParameters_52 (by decide) ?_
          refine lv_goto (tgt := 57) hx hb dX0_moveParameters_53 (by decide) ?_
          exact Jx14 _ _ _ _ hF hP hD hS (lv_sub hl [1, 2, 4] rfl)
        · have hF := ite_t hF c12
          refine lv_iload_n hx hb dX0_moveParameters_48 rfl (lv_at hl 3 rfl) ?_
          refine lv_if_eq (tgt := 56) hx hb dX0_moveParameters_49 (by decide) (fun c13 => ?_) (fun c13 => ?_)
          · have hF := ite_t hF c13
            refine lv_iconst (v := 0) hx hb dX0_moveParameters_56 (by decide) ?_
            exact Jx14 _ _ _ _ hF hP hD hS (lv_sub hl [1, 2, 4] rfl)
          · have hF := ite_f hF c13
            refine lv_iconst (v := 1) hx hb dX0_moveParameters_52 (by decide) ?_
            refine lv_goto (tgt := 57) hx hb dX0_moveParameters_53 (by decide) ?_
            exact Jx14 _ _ _ _ hF hP hD hS (lv_sub hl [1, 2, 4] rfl)
  refine Ln1 _ _ _ _ _ _ _ _ hF hP hD hS (lv_sub hl [2, 3, 1, 0] rfl) (fun x17 H locs ls hF hP hD hS hl => ?_)
  refine lv_iload_n hx hb dX0_moveParameters_64 rfl (lv_at hl 1 rfl) ?_
  refine lv_if_eq (tgt := 78) hx hb dX0_moveParameters_65 (by decide) (fun c18 => ?_) (fun c18 => ?_)
  · have hF := ite_t hF c18
    obtain rfl := some_e hF
    exact W.vret hx hb hr (fun t ht hW => ⟨⟨(), rfl, trivial, ⟨by rw [ht]; exact hP, va_K.moved hW.alike hK, hD⟩⟩, hS.F ht⟩) hS.2.2 dX0_moveParameters_78
  · have hF := ite_f hF c18
    refine lv_aload_n hx hb dX0_moveParameters_68 rfl (lv_at hl 0 rfl) ?_
    refine va_get (D := (dC, dI)) (ci := 0) (v := .ref yec) (C := RX0) (T := TX0) (N := 8) hx hb hts iX0_moveParameters_X0 hown hK hP 0 rfl rfl 4 (by decide) (hts _ kX0_moveParameters_4) (fun _ h9 => h9) rfl dX0_moveParameters_69 ?_
    refine lv_iconst (v := 3) hx hb dX0_moveParameters_72 (by decide) ?_
    refine lv_dup2_11 hx hb dX0_moveParameters_73 rfl rfl ?_
    refine x_iald hx hb hK hP 5 0 rfl rfl (show (3 : Int32).toNatClampNeg = 3 by decide) (inbK (k := 3) (by decide) rfl) dX0_moveParameters_74 ?_
    refine lv_iconst (v := 1) hx hb dX0_moveParameters_75 (by decide) ?_
    refine lv_iadd hx hb dX0_moveParameters_76 ?_
    obtain ⟨v19, hv19, hF⟩ := lt_e hF
    refine x_iast (ws' := [(ye, .inr (0, [.ref yel, .ref yeh, .ref yep, .ref yem, .ref yec, .ref yw, .ref yed, .ref yeg])), (yel, .inl (cyI, 3, .inl yLo)), (yeh, .inl (cyI, 3, .inl yHi)), (yep, .inl (cyI, 3, .inl x17.2)), (yem, .inl (cyJ, 9, .inr (.inl yMa))), (yec, .inl (cyI, 5, .inl v19)), (yed, .inl (cyJ, 3, .inr (.inl yDi))), (yeg, .inl (cyJ, 3, .inr (.inl yGa))), (yw, .inr (4, [.ref ywo, .ref ywi, .int yHd])), (ywo, .inl (cyI, 20, .inl yWo)), (ywi, .inl (cyI, 20, .inl yWi))]) hx hb hK hP hD hS 5 0 rfl rfl (show (3 : Int32).toNatClampNeg = 3 by decide) (inbK (k := 3) (by decide) rfl) hv19 rfl dX0_moveParameters_77 (fun H locs hP hD hS => ?_)
    obtain rfl := some_e hF
    exact W.vret hx hb hr (fun t ht hW => ⟨⟨(), rfl, trivial, ⟨by rw [ht]; exact hP, va_K.moved hW.alike hK, hD⟩⟩, hS.F ht⟩) hS.2.2 dX0_moveParameters_78
def F_X0_updateMatrix_10 (v3 : Int32) (yGa : Nat → Int64) (yDi : Nat → Int64) (w1 : Int64) : Nat → (((Nat → Int64)) → Option ((Nat → Int64))) → Int32 → (Nat → Int64) → Option ((Nat → Int64))
  | 0, _, _, _ => none
  | n6 + 1, K7, v8, v9 => if (3 : Int32) ≤ v8 then (K7 v9) else (ck (inb ((3 * v3) + v8) 9) (ck (inb v3 3) (ck (inb v8 3) (ob (F_X5_divideDown ((yGa v3.toNatClampNeg) * (yDi v8.toNatClampNeg)) 65536) (fun o14 => lt_ (α := Int64) ((v9 (((3 * v3) + v8).toNatClampNeg)) - o14) (fun v15 => rg (α := Int64) (fun K18 => if (v3 : Int32) = v8 then (K18 1) else (K18 (-65536000))) (fun x17 => ob (F_X5_divideDown (v15 * 65536) w1) (fun o19 => ob (F_X5_bring o19 x17 65536000) (fun o20 => ck (inb ((3 * v3) + v8) 9) (lt_ (α := Nat → Int64) (vp_updL v9 (((3 * v3) + v8).toNatClampNeg) o20) (fun v22 => ck (inb ((3 * v8) + v3) 9) (lt_ (α := Nat → Int64) (vp_updL v22 (((3 * v8) + v3).toNatClampNeg) o20) (fun v24 => lt_ (α := Int32) (v8 + 1) (fun v25 => F_X0_updateMatrix_10 v3 yGa yDi w1 n6 K7 v25 v24))))))))))))))
def F_X0_updateMatrix_2 (yGa : Nat → Int64) (yDi : Nat → Int64) (w1 : Int64) : Nat → (((Nat → Int64)) → Option ((Nat → Int64))) → Int32 → (Nat → Int64) → Option ((Nat → Int64))
  | 0, _, _, _ => none
  | n1 + 1, K2, v3, v4 => if (3 : Int32) ≤ v3 then (K2 v4) else (F_X0_updateMatrix_10 v3 yGa yDi w1 1000 (fun x26 => lt_ (α := Int32) (v3 + 1) (fun v27 => F_X0_updateMatrix_2 yGa yDi w1 n1 K2 v27 x26)) v3 v4)
def F_X0_updateMatrix (yMa : Nat → Int64) (yDi : Nat → Int64) (yGa : Nat → Int64) (w1 : Int64) : Option ((Nat → Int64)) := F_X0_updateMatrix_2 yGa yDi w1 1000 (fun x28 => some x28) 0 yMa
theorem kX0_updateMatrix_1 : (Cond.fieldLink RX0 23 "SelfTuner$Estimator" "matrix" "[J") ∈ wsX0_updateMatrix := List.mem_of_getElem? (i := 1) rfl
theorem kX0_updateMatrix_2 : (Cond.fieldLink RX0 40 "SelfTuner$Estimator" "gains" "[J") ∈ wsX0_updateMatrix := List.mem_of_getElem? (i := 2) rfl
theorem kX0_updateMatrix_3 : (Cond.fieldLink RX0 37 "SelfTuner$Estimator" "directions" "[J") ∈ wsX0_updateMatrix := List.mem_of_getElem? (i := 3) rfl
theorem kX0_updateMatrix_4 : (Cond.constantLong RX0 60 (65536)) ∈ wsX0_updateMatrix := List.mem_of_getElem? (i := 4) rfl
theorem kX0_updateMatrix_5 : (Cond.constantLong RX0 110 (-65536000)) ∈ wsX0_updateMatrix := List.mem_of_getElem? (i := 5) rfl
theorem kX0_updateMatrix_6 : (Cond.constantLong RX0 112 (65536000)) ∈ wsX0_updateMatrix := List.mem_of_getElem? (i := 6) rfl
theorem kX0_updateMatrix_7 : (Cond.static yX5_divideDown) ∈ wsX0_updateMatrix := List.mem_of_getElem? (i := 7) rfl
theorem kX0_updateMatrix_8 : (Cond.initialized RX5) ∈ wsX0_updateMatrix := List.mem_of_getElem? (i := 8) rfl
theorem kX0_updateMatrix_14 : (Cond.static yX5_bring) ∈ wsX0_updateMatrix := List.mem_of_getElem? (i := 14) rfl
theorem iX0_updateMatrix_X0 : ∀ w ∈ wsX00, w ∈ wsX0_updateMatrix := fun w h => List.mem_cons_of_mem _ (List.mem_append_right _ h)
set_option maxHeartbeats 4000000 in
set_option maxRecDepth 100000 in
theorem c_X0_updateMatrix (l : Launch) (dC : Nat → ClassId) (dI : Nat → Nat → Nat) (cyI cyJ cyB cyS cyD : ClassId) (ye : Nat) (yel : Nat) (yeh : Nat) (yep : Nat) (yem : Nat) (yec : Nat) (yw : Nat) (yed : Nat) (yeg : Nat) (ywo : Nat) (ywi : Nat) (sz : Nat) (yLo : Nat → Int32) (yHi : Nat → Int32) (yPa : Nat → Int32) (yMa : Nat → Int64) (yCo : Nat → Int32) (yDi : Nat → Int64) (yGa : Nat → Int64) (yHd : Int32) (yWo : Nat → Int32) (yWi : Nat → Int32) (w1 : Int64) {out : (Nat → Int64)} (hF : F_X0_updateMatrix yMa yDi yGa w1 = some out) : Mv l yX0_updateMatrix wsX0_updateMatrix ({ frames := 2, cells := 0, slots := 0, locals := 48 } : Room) (dC, dI) [(cyI, .int), (cyJ, .long), (cyB, .byte), (cyS, .object "SelfTuner$State"), (cyD, .double)] sz [.ref ye, .long w1] [(ye, .inr (0, [.ref yel, .ref yeh, .ref yep, .ref yem, .ref yec, .ref yw, .ref yed, .ref yeg])), (yel, .inl (cyI, 3, .inl yLo)), (yeh, .inl (cyI, 3, .inl yHi)), (yep, .inl (cyI, 3, .inl yPa)), (yem, .inl (cyJ, 9, .inr (.inl yMa))), (yec, .inl (cyI, 5, .inl yCo)), (yed, .inl (cyJ, 3, .inr (.inl yDi))), (yeg, .inl (cyJ, 3, .inr (.inl yGa))), (yw, .inr (4, [.ref ywo, .ref ywi, .int yHd])), (ywo, .inl (cyI, 20, .inl yWo)), (ywi, .inl (cyI, 20, .inl yWi))] [(ye, .inr (0, [.ref yel, .ref yeh, .ref yep, .ref yem, .ref yec, .ref yw, .ref yed, .ref yeg])), (yel, .inl (cyI, 3, .inl yLo)), (yeh, .inl (cyI, 3, .inl yHi)), (yep, .inl (cyI, 3, .inl yPa)), (yem, .inl (cyJ, 9, .inr (.inl out))), (yec, .inl (cyI, 5, .inl yCo)), (yed, .inl (cyJ, 3, .inr (.inl yDi))), (yeg, .inl (cyJ, 3, .inr (.inl yGa))), (yw, .inr (4, [.ref ywo, .ref ywi, .int yHd])), (ywo, .inl (cyI, 20, .inl yWo)), (ywi, .inl (cyI, 20, .inl yWi))] := by
  refine Met.ofW (cc := cX0_updateMatrix) (maxL := 11) (ret := none) (by decide) rfl ?_
  intro p e s m args below meth c s₁ B hml hv
  obtain ⟨rfl, hN, hsz, hP, hK, hD0⟩ := hv
  have hx := B.exec
  have hb := B.bytes
  have hr := B.returns
  have hts := atoms_spec (ws := wsX0_updateMatrix) B.pre
  have hown : s.vm.findClass RX0 = some m.cls := findClass_of_methodNamed B.named
  have hlocks := B.notSynchronized
  subst hsz
  have hD := hD0.self (sz := s.heap.size)
  generalize hAe : va_A [(ye, .inr (0, [.ref yel, .ref yeh, .ref yep, .ref yem, .ref yec, .ref yw, .ref yed, .ref yeg])), (yel, .inl (cyI, 3, .inl yLo)), (yeh, .inl (cyI, 3, .inl yHi)), (yep, .inl (cyI, 3, .inl yPa)), (yem, .inl (cyJ, 9, .inr (.inl yMa))), (yec, .inl (cyI, 5, .inl yCo)), (yed, .inl (cyJ, 3, .inr (.inl yDi))), (yeg, .inl (cyJ, 3, .inr (.inl yGa))), (yw, .inr (4, [.ref ywo, .ref ywi, .int yHd])), (ywo, .inl (cyI, 20, .inl yWo)), (ywi, .inl (cyI, 20, .inl yWi))] s.heap.size = A at hD ⊢
  have hA : ∀ q : Nat, s.heap.size ≤ q → A q := fun q h => by rw [← hAe]; exact Or.inr h
  have hS : va_S A s.heap s.heap [] := va_S.rf
  have hP : va_P (dC, dI) vwCl [(ye, .inr (0, [.ref yel, .ref yeh, .ref yep, .ref yem, .ref yec, .ref yw, .ref yed, .ref yeg])), (yel, .inl (cyI, 3, .inl yLo)), (yeh, .inl (cyI, 3, .inl yHi)), (yep, .inl (cyI, 3, .inl yPa)), (yem, .inl (cyJ, 9, .inr (.inl yMa))), (yec, .inl (cyI, 5, .inl yCo)), (yed, .inl (cyJ, 3, .inr (.inl yDi))), (yeg, .inl (cyJ, 3, .inr (.inl yGa))), (yw, .inr (4, [.ref ywo, .ref ywi, .int yHd])), (ywo, .inl (cyI, 20, .inl yWo)), (ywi, .inl (cyI, 20, .inl yWi))] s.heap := hP
  have hl := lv_entry ([.ref ye, .long w1]) (n := 11) (Nat.le_of_ble_eq_true rfl)
  rw [lg_entry_eq]
  generalize (lg_sl ([.ref ye, .long w1]) ++ List.replicate (11 - (lg_sl ([.ref ye, .long w1])).length) Slot.unset).toArray = ls at hl ⊢
  have hl : lv_has ls 11 [(0, .ref ye), (1, .long w1)] := hl
  unfold F_X0_updateMatrix at hF
  refine lv_iconst (v := 0) hx hb dX0_updateMatrix_0 (by decide) ?_
  refine lv_istore_n (lv' := [(3, .int 0), (0, .ref ye), (1, .long w1)]) hx hb dX0_updateMatrix_1 rfl hl (by decide) rfl (fun ls hl => ?_)
  have Ln1 : ∀ (n1 : Nat) (K2 : ((Nat → Int64)) → Option ((Nat → Int64))) (v3 : Int32) (v4 : Nat → Int64) (H : Heap) (locs : List Loc) (ls : Array Slot), F_X0_updateMatrix_2 yGa yDi w1 n1 K2 v3 v4 = some out → va_P (dC, dI) vwCl [(ye, .inr (0, [.ref yel, .ref yeh, .ref yep, .ref yem, .ref yec, .ref yw, .ref yed, .ref yeg])), (yel, .inl (cyI, 3, .inl yLo)), (yeh, .inl (cyI, 3, .inl yHi)), (yep, .inl (cyI, 3, .inl yPa)), (yem, .inl (cyJ, 9, .inr (.inl v4))), (yec, .inl (cyI, 5, .inl yCo)), (yed, .inl (cyJ, 3, .inr (.inl yDi))), (yeg, .inl (cyJ, 3, .inr (.inl yGa))), (yw, .inr (4, [.ref ywo, .ref ywi, .int yHd])), (ywo, .inl (cyI, 20, .inl yWo)), (ywi, .inl (cyI, 20, .inl yWi))] H → va_D A [(ye, .inr (0, [.ref yel, .ref yeh, .ref yep, .ref yem, .ref yec, .ref yw, .ref yed, .ref yeg])), (yel, .inl (cyI, 3, .inl yLo)), (yeh, .inl (cyI, 3, .inl yHi)), (yep, .inl (cyI, 3, .inl yPa)), (yem, .inl (cyJ, 9, .inr (.inl v4))), (yec, .inl (cyI, 5, .inl yCo)), (yed, .inl (cyJ, 3, .inr (.inl yDi))), (yeg, .inl (cyJ, 3, .inr (.inl yGa))), (yw, .inr (4, [.ref ywo, .ref ywi, .int yHd])), (ywo, .inl (cyI, 20, .inl yWo)), (ywi, .inl (cyI, 20, .inl yWi))] → va_S A s.heap H locs → lv_has ls 11 [(0, .ref ye), (1, .long w1), (3, .int v3)] → (∀ (x28 : (Nat → Int64)) (H : Heap) (locs : List Loc) (ls : Array Slot), K2 x28 = some out → va_P (dC, dI) vwCl [(ye, .inr (0, [.ref yel, .ref yeh, .ref yep, .ref yem, .ref yec, .ref yw, .ref yed, .ref yeg])), (yel, .inl (cyI, 3, .inl yLo)), (yeh, .inl (cyI, 3, .inl yHi)), (yep, .inl (cyI, 3, .inl yPa)), (yem, .inl (cyJ, 9, .inr (.inl x28))), (yec, .inl (cyI, 5, .inl yCo)), (yed, .inl (cyJ, 3, .inr (.inl yDi))), (yeg, .inl (cyJ, 3, .inr (.inl yGa))), (yw, .inr (4, [.ref ywo, .ref ywi, .int yHd])), (ywo, .inl (cyI, 20, .inl yWo)), (ywi, .inl (cyI, 20, .inl yWi))] H → va_D A [(ye, .inr (0, [.ref yel, .ref yeh, .ref yep, .ref yem, .ref yec, .ref yw, .ref yed, .ref yeg])), (yel, .inl (cyI, 3, .inl yLo)), (yeh, .inl (cyI, 3, .inl yHi)), (yep, .inl (cyI, 3, .inl yPa)), (yem, .inl (cyJ, 9, .inr (.inl x28))), (yec, .inl (cyI, 5, .inl yCo)), (yed, .inl (cyJ, 3, .inr (.inl yDi))), (yeg, .inl (cyJ, 3, .inr (.inl yGa))), (yw, .inr (4, [.ref ywo, .ref ywi, .int yHd])), (ywo, .inl (cyI, 20, .inl yWo)), (ywi, .inl (cyI, 20, .inl yWi))] → va_S A s.heap H locs → lv_has ls 11 [] → W p l e (headSpec wsX0_updateMatrix ({ frames := 2, cells := 0, slots := 0, locals := 48 } : Room)).room s m ([.ref ye, .long w1] : List Value).toArray below meth c H locs 0 0 (MQ below (va_Qv (fun (_ : Unit) => True) (cPost (dC, dI) [(cyI, .int), (cyJ, .long), (cyB, .byte), (cyS, .object "SelfTuner$State"), (cyD, .double)] [(ye, .inr (0, [.ref yel, .ref yeh, .ref yep, .ref yem, .ref yec, .ref yw, .ref yed, .ref yeg])), (yel, .inl (cyI, 3, .inl yLo)), (yeh, .inl (cyI, 3, .inl yHi)), (yep, .inl (cyI, 3, .inl yPa)), (yem, .inl (cyJ, 9, .inr (.inl out))), (yec, .inl (cyI, 5, .inl yCo)), (yed, .inl (cyJ, 3, .inr (.inl yDi))), (yeg, .inl (cyJ, 3, .inr (.inl yGa))), (yw, .inr (4, [.ref ywo, .ref ywi, .int yHd])), (ywo, .inl (cyI, 20, .inl yWo)), (ywi, .inl (cyI, 20, .inl yWi))] A) A) ([.ref ye, .long w1] : List Value).toArray s 0 0 A) (F0 m 123 ls [])) → W p l e (headSpec wsX0_updateMatrix ({ frames := 2, cells := 0, slots := 0, locals := 48 } : Room)).room s m ([.ref ye, .long w1] : List Value).toArray below meth c H locs 0 0 (MQ below (va_Qv (fun (_ : Unit) => True) (cPost (dC, dI) [(cyI, .int), (cyJ, .long), (cyB, .byte), (cyS, .object "SelfTuner$State"), (cyD, .double)] [(ye, .inr (0, [.ref yel, .ref yeh, .ref yep, .ref yem, .ref yec, .ref yw, .ref yed, .ref yeg])), (yel, .inl (cyI, 3, .inl yLo)), (yeh, .inl (cyI, 3, .inl yHi)), (yep, .inl (cyI, 3, .inl yPa)), (yem, .inl (cyJ, 9, .inr (.inl out))), (yec, .inl (cyI, 5, .inl yCo)), (yed, .inl (cyJ, 3, .inr (.inl yDi))), (yeg, .inl (cyJ, 3, .inr (.inl yGa))), (yw, .inr (4, [.ref ywo, .ref ywi, .int yHd])), (ywo, .inl (cyI, 20, .inl yWo)), (ywi, .inl (cyI, 20, .inl yWi))] A) A) ([.ref ye, .long w1] : List Value).toArray s 0 0 A) (F0 m 2 ls []) := by
    intro n1
    induction n1 with
    | zero => intro K2 v3 v4 H locs ls hF; exact no_e (show none = some out from hF)
    | succ n1 ihn1 =>
      intro K2 v3 v4 H locs ls hF hP hD hS hl kxn1
      rw [F_X0_updateMatrix_2] at hF
      refine lv_iload_n hx hb dX0_updateMatrix_2 rfl (lv_at hl 2 rfl) ?_
      refine lv_iconst (v := 3) hx hb dX0_updateMatrix_3 (by decide) ?_
      refine lv_icmp_ge (tgt := 123) hx hb dX0_updateMatrix_4 (by decide) (fun c5 => ?_) (fun c5 => ?_)
      · have hF := ite_t hF c5
        exact kxn1 _ _ _ _ hF hP hD hS (lv_sub hl [] rfl)
      · have hF := ite_f hF c5
        refine lv_iload_n hx hb dX0_updateMatrix_7 rfl (lv_at hl 2 rfl) ?_
        refine lv_istore (lv' := [(4, .int v3), (0, .ref ye), (1, .long w1), (3, .int v3)]) hx hb dX0_updateMatrix_8 hl (by decide) rfl (fun ls hl => ?_)
        have Ln6 : ∀ (n6 : Nat) (K7 : ((Nat → Int64)) → Option ((Nat → Int64))) (v8 : Int32) (v9 : Nat → Int64) (H : Heap) (locs : List Loc) (ls : Array Slot), F_X0_updateMatrix_10 v3 yGa yDi w1 n6 K7 v8 v9 = some out → va_P (dC, dI) vwCl [(ye, .inr (0, [.ref yel, .ref yeh, .ref yep, .ref yem, .ref yec, .ref yw, .ref yed, .ref yeg])), (yel, .inl (cyI, 3, .inl yLo)), (yeh, .inl (cyI, 3, .inl yHi)), (yep, .inl (cyI, 3, .inl yPa)), (yem, .inl (cyJ, 9, .inr (.inl v9))), (yec, .inl (cyI, 5, .inl yCo)), (yed, .inl (cyJ, 3, .inr (.inl yDi))), (yeg, .inl (cyJ, 3, .inr (.inl yGa))), (yw, .inr (4, [.ref ywo, .ref ywi, .int yHd])), (ywo, .inl (cyI, 20, .inl yWo)), (ywi, .inl (cyI, 20, .inl yWi))] H → va_D A [(ye, .inr (0, [.ref yel, .ref yeh, .ref yep, .ref yem, .ref yec, .ref yw, .ref yed, .ref yeg])), (yel, .inl (cyI, 3, .inl yLo)), (yeh, .inl (cyI, 3, .inl yHi)), (yep, .inl (cyI, 3, .inl yPa)), (yem, .inl (cyJ, 9, .inr (.inl v9))), (yec, .inl (cyI, 5, .inl yCo)), (yed, .inl (cyJ, 3, .inr (.inl yDi))), (yeg, .inl (cyJ, 3, .inr (.inl yGa))), (yw, .inr (4, [.ref ywo, .ref ywi, .int yHd])), (ywo, .inl (cyI, 20, .inl yWo)), (ywi, .inl (cyI, 20, .inl yWi))] → va_S A s.heap H locs → lv_has ls 11 [(0, .ref ye), (1, .long w1), (3, .int v3), (4, .int v8)] → (∀ (x26 : (Nat → Int64)) (H : Heap) (locs : List Loc) (ls : Array Slot), K7 x26 = some out → va_P (dC, dI) vwCl [(ye, .inr (0, [.ref yel, .ref yeh, .ref yep, .ref yem, .ref yec, .ref yw, .ref yed, .ref yeg])), (yel, .inl (cyI, 3, .inl yLo)), (yeh, .inl (cyI, 3, .inl yHi)), (yep, .inl (cyI, 3, .inl yPa)), (yem, .inl (cyJ, 9, .inr (.inl x26))), (yec, .inl (cyI, 5, .inl yCo)), (yed, .inl (cyJ, 3, .inr (.inl yDi))), (yeg, .inl (cyJ, 3, .inr (.inl yGa))), (yw, .inr (4, [.ref ywo, .ref ywi, .int yHd])), (ywo, .inl (cyI, 20, .inl yWo)), (ywi, .inl (cyI, 20, .inl yWi))] H → va_D A [(ye, .inr (0, [.ref yel, .ref yeh, .ref yep, .ref yem, .ref yec, .ref yw, .ref yed, .ref yeg])), (yel, .inl (cyI, 3, .inl yLo)), (yeh, .inl (cyI, 3, .inl yHi)), (yep, .inl (cyI, 3, .inl yPa)), (yem, .inl (cyJ, 9, .inr (.inl x26))), (yec, .inl (cyI, 5, .inl yCo)), (yed, .inl (cyJ, 3, .inr (.inl yDi))), (yeg, .inl (cyJ, 3, .inr (.inl yGa))), (yw, .inr (4, [.ref ywo, .ref ywi, .int yHd])), (ywo, .inl (cyI, 20, .inl yWo)), (ywi, .inl (cyI, 20, .inl yWi))] → va_S A s.heap H locs → lv_has ls 11 [(0, .ref ye), (1, .long w1), (3, .int v3)] → W p l e (headSpec wsX0_updateMatrix ({ frames := 2, cells := 0, slots := 0, locals := 48 } : Room)).room s m ([.ref ye, .long w1] : List Value).toArray below meth c H locs 0 0 (MQ below (va_Qv (fun (_ : Unit) => True) (cPost (dC, dI) [(cyI, .int), (cyJ, .long), (cyB, .byte), (cyS, .object "SelfTuner$State"), (cyD, .double)] [(ye, .inr (0, [.ref yel, .ref yeh, .ref yep, .ref yem, .ref yec, .ref yw, .ref yed, .ref yeg])), (yel, .inl (cyI, 3, .inl yLo)), (yeh, .inl (cyI, 3, .inl yHi)), (yep, .inl (cyI, 3, .inl yPa)), (yem, .inl (cyJ, 9, .inr (.inl out))), (yec, .inl (cyI, 5, .inl yCo)), (yed, .inl (cyJ, 3, .inr (.inl yDi))), (yeg, .inl (cyJ, 3, .inr (.inl yGa))), (yw, .inr (4, [.ref ywo, .ref ywi, .int yHd])), (ywo, .inl (cyI, 20, .inl yWo)), (ywi, .inl (cyI, 20, .inl yWi))] A) A) ([.ref ye, .long w1] : List Value).toArray s 0 0 A) (F0 m 117 ls [])) → W p l e (headSpec wsX0_updateMatrix ({ frames := 2, cells := 0, slots := 0, locals := 48 } : Room)).room s m ([.ref ye, .long w1] : List Value).toArray below meth c H locs 0 0 (MQ below (va_Qv (fun (_ : Unit) => True) (cPost (dC, dI) [(cyI, .int), (cyJ, .long), (cyB, .byte), (cyS, .object "SelfTuner$State"), (cyD, .double)] [(ye, .inr (0, [.ref yel, .ref yeh, .ref yep, .ref yem, .ref yec, .ref yw, .ref yed, .ref yeg])), (yel, .inl (cyI, 3, .inl yLo)), (yeh, .inl (cyI, 3, .inl yHi)), (yep, .inl (cyI, 3, .inl yPa)), (yem, .inl (cyJ, 9, .inr (.inl out))), (yec, .inl (cyI, 5, .inl yCo)), (yed, .inl (cyJ, 3, .inr (.inl yDi))), (yeg, .inl (cyJ, 3, .inr (.inl yGa))), (yw, .inr (4, [.ref ywo, .ref ywi, .int yHd])), (ywo, .inl (cyI, 20, .inl yWo)), (ywi, .inl (cyI, 20, .inl yWi))] A) A) ([.ref ye, .long w1] : List Value).toArray s 0 0 A) (F0 m 10 ls []) := by
          intro n6
          induction n6 with
          | zero => intro K7 v8 v9 H locs ls hF; exact no_e (show none = some out from hF)
          | succ n6 ihn6 =>
            intro K7 v8 v9 H locs ls hF hP hD hS hl kxn6
            rw [F_X0_updateMatrix_10] at hF
            refine lv_iload hx hb dX0_updateMatrix_10 (lv_at hl 3 rfl) ?_
            refine lv_iconst (v := 3) hx hb dX0_updateMatrix_12 (by decide) ?_
            refine lv_icmp_ge (tgt := 117) hx hb dX0_updateMatrix_13 (by decide) (fun c10 => ?_) (fun c10 => ?_)
            · have hF := ite_t hF c10
              exact kxn6 _ _ _ _ hF hP hD hS (lv_sub hl [0, 1, 2] rfl)
            · have hF := ite_f hF c10
              refine lv_aload_n hx hb dX0_updateMatrix_16 rfl (lv_at hl 0 rfl) ?_
              refine va_get (D := (dC, dI)) (ci := 0) (v := .ref yem) (C := RX0) (T := TX0) (N := 8) hx hb hts iX0_updateMatrix_X0 hown hK hP 0 rfl rfl 3 (by decide) (hts _ kX0_updateMatrix_1) (fun _ h9 => h9) rfl dX0_updateMatrix_17 ?_
              refine lv_iconst (v := 3) hx hb dX0_updateMatrix_20 (by decide) ?_
              refine lv_iload_n hx hb dX0_updateMatrix_21 rfl (lv_at hl 2 rfl) ?_
              refine lv_imul hx hb dX0_updateMatrix_22 ?_
              refine lv_iload hx hb dX0_updateMatrix_23 (lv_at hl 3 rfl) ?_
              refine lv_iadd hx hb dX0_updateMatrix_25 ?_
              obtain ⟨g11, hF⟩ := ck_e hF
              refine x_lald hx hb hK hP 4 1 rfl rfl rfl g11 dX0_updateMatrix_26 ?_
              refine lv_aload_n hx hb dX0_updateMatrix_27 rfl (lv_at hl 0 rfl) ?_
              refine va_get (D := (dC, dI)) (ci := 0) (v := .ref yeg) (C := RX0) (T := TX0) (N := 8) hx hb hts iX0_updateMatrix_X0 hown hK hP 0 rfl rfl 7 (by decide) (hts _ kX0_updateMatrix_2) (fun _ h9 => h9) rfl dX0_updateMatrix_28 ?_
              refine lv_iload_n hx hb dX0_updateMatrix_31 rfl (lv_at hl 2 rfl) ?_
              obtain ⟨g12, hF⟩ := ck_e hF
              refine x_lald hx hb hK hP 7 1 rfl rfl rfl g12 dX0_updateMatrix_32 ?_
              refine lv_aload_n hx hb dX0_updateMatrix_33 rfl (lv_at hl 0 rfl) ?_
              refine va_get (D := (dC, dI)) (ci := 0) (v := .ref yed) (C := RX0) (T := TX0) (N := 8) hx hb hts iX0_updateMatrix_X0 hown hK hP 0 rfl rfl 6 (by decide) (hts _ kX0_updateMatrix_3) (fun _ h9 => h9) rfl dX0_updateMatrix_34 ?_
              refine lv_iload hx hb dX0_updateMatrix_37 (lv_at hl 3 rfl) ?_
              obtain ⟨g13, hF⟩ := ck_e hF
              refine x_lald hx hb hK hP 6 1 rfl rfl rfl g13 dX0_updateMatrix_39 ?_
              refine lv_lmul hx hb dX0_updateMatrix_40 ?_
              refine lv_ldc2 (v := 65536) hx hb hown (hts _ kX0_updateMatrix_4) dX0_updateMatrix_41 ?_
              obtain ⟨o14, ho14, hF⟩ := ob_e hF
              refine x_callzl (va_runSN (As := [.long ((yGa v3.toNatClampNeg) * (yDi v8.toNatClampNeg)), .long 65536]) (rest := [.long (v9 (((3 * v3) + v8).toNatClampNeg))]) ⟨hx, hb, hml, hown, hts⟩ (c_X5_divideDown l ((yGa v3.toNatClampNeg) * (yDi v8.toNatClampNeg)) 65536 ho14) ⟨va_cnB 2 hts gX0_updateMatrix_X5_divideDown_n104 rfl rfl rfl (nm_X0_104 hN) (hts _ kX0_updateMatrix_8) (by decide +kernel) ⟨Nat.le_of_ble_eq_true rfl, Nat.le_of_ble_eq_true rfl⟩, hts _ kX0_updateMatrix_7, trivial⟩ ⟨true_blind, fun _ _ _ => ⟨rfl, trivial⟩⟩ rfl rfl hl.1 rfl (lv_room (Nat.le_of_ble_eq_true rfl)) dX0_updateMatrix_44 ⟨Nat.le_of_ble_eq_true rfl, Nat.le_of_ble_eq_true rfl⟩) ?_
              refine lv_lsub hx hb dX0_updateMatrix_47 ?_
              obtain ⟨v15, hv15, hF⟩ := lt_e hF
              refine x_topl hv15 ?_
              refine lv_lstore (lv' := [(5, .long v15), (0, .ref ye), (1, .long w1), (3, .int v3), (4, .int v8)]) hx hb dX0_updateMatrix_48 hl (by decide) rfl (fun ls hl => ?_)
              refine lv_iload_n hx hb dX0_updateMatrix_50 rfl (lv_at hl 3 rfl) ?_
              refine lv_iload hx hb dX0_updateMatrix_51 (lv_at hl 4 rfl) ?_
              obtain ⟨K18, hK18, hF⟩ := rg_e hF
              have Jx17 : ∀ (x17 : Int64) (H : Heap) (locs : List Loc) (ls : Array Slot), K18 x17 = some out → va_P (dC, dI) vwCl [(ye, .inr (0, [.ref yel, .ref yeh, .ref yep, .ref yem, .ref yec, .ref yw, .ref yed, .ref yeg])), (yel, .inl (cyI, 3, .inl yLo)), (yeh, .inl (cyI, 3, .inl yHi)), (yep, .inl (cyI, 3, .inl yPa)), (yem, .inl (cyJ, 9, .inr (.inl v9))), (yec, .inl (cyI, 5, .inl yCo)), (yed, .inl (cyJ, 3, .inr (.inl yDi))), (yeg, .inl (cyJ, 3, .inr (.inl yGa))), (yw, .inr (4, [.ref ywo, .ref ywi, .int yHd])), (ywo, .inl (cyI, 20, .inl yWo)), (ywi, .inl (cyI, 20, .inl yWi))] H → va_D A [(ye, .inr (0, [.ref yel, .ref yeh, .ref yep, .ref yem, .ref yec, .ref yw, .ref yed, .ref yeg])), (yel, .inl (cyI, 3, .inl yLo)), (yeh, .inl (cyI, 3, .inl yHi)), (yep, .inl (cyI, 3, .inl yPa)), (yem, .inl (cyJ, 9, .inr (.inl v9))), (yec, .inl (cyI, 5, .inl yCo)), (yed, .inl (cyJ, 3, .inr (.inl yDi))), (yeg, .inl (cyJ, 3, .inr (.inl yGa))), (yw, .inr (4, [.ref ywo, .ref ywi, .int yHd])), (ywo, .inl (cyI, 20, .inl yWo)), (ywi, .inl (cyI, 20, .inl yWi))] → va_S A s.heap H locs → lv_has ls 11 [(0, .ref ye), (1, .long w1), (3, .int v3), (4, .int v8), (5, .long v15)] → W p l e (headSpec wsX0_updateMatrix ({ frames := 2, cells := 0, slots := 0, locals := 48 } : Room)).room s m ([.ref ye, .long w1] : List Value).toArray below meth c H locs 0 0 (MQ below (va_Qv (fun (_ : Unit) => True) (cPost (dC, dI) [(cyI, .int), (cyJ, .long), (cyB, .byte), (cyS, .object "SelfTuner$State"), (cyD, .double)] [(ye, .inr (0, [.ref yel, .ref yeh, .ref yep, .ref yem, .ref yec, .ref yw, .ref yed, .ref yeg])), (yel, .inl (cyI, 3, .inl yLo)), (yeh, .inl (cyI, 3, .inl yHi)), (yep, .inl (cyI, 3, .inl yPa)), (yem, .inl (cyJ, 9, .inr (.inl out))), (yec, .inl (cyI, 5, .inl yCo)), (yed, .inl (cyJ, 3, .inr (.inl yDi))), (yeg, .inl (cyJ, 3, .inr (.inl yGa))), (yw, .inr (4, [.ref ywo, .ref ywi, .int yHd])), (ywo, .inl (cyI, 20, .inl yWo)), (ywi, .inl (cyI, 20, .inl yWi))] A) A) ([.ref ye, .long w1] : List Value).toArray s 0 0 A) (F0 m 63 ls [.long x17]) := by
                intro x17 H locs ls hF hP hD hS hl
                rw [hK18] at hF
                refine lv_lstore (lv' := [(7, .long x17), (0, .ref ye), (1, .long w1), (3, .int v3), (4, .int v8), (5, .long v15)]) hx hb dX0_updateMatrix_63 hl (by decide) rfl (fun ls hl => ?_)
                refine lv_lload hx hb dX0_updateMatrix_65 (lv_at hl 5 rfl) ?_
                refine lv_ldc2 (v := 65536) hx hb hown (hts _ kX0_updateMatrix_4) dX0_updateMatrix_67 ?_
                refine lv_lmul hx hb dX0_updateMatrix_70 ?_
                refine lv_lload_n hx hb dX0_updateMatrix_71 rfl (lv_at hl 2 rfl) ?_
                obtain ⟨o19, ho19, hF⟩ := ob_e hF
                refine x_callzl (va_runSN (As := [.long (v15 * 65536), .long w1]) (rest := []) ⟨hx, hb, hml, hown, hts⟩ (c_X5_divideDown l (v15 * 65536) w1 ho19) ⟨va_cnB 2 hts gX0_updateMatrix_X5_divideDown_n104 rfl rfl rfl (nm_X0_104 hN) (hts _ kX0_updateMatrix_8) (by decide +kernel) ⟨Nat.le_of_ble_eq_true rfl, Nat.le_of_ble_eq_true rfl⟩, hts _ kX0_updateMatrix_7, trivial⟩ ⟨true_blind, fun _ _ _ => ⟨rfl, trivial⟩⟩ rfl rfl hl.1 rfl (lv_room (Nat.le_of_ble_eq_true rfl)) dX0_updateMatrix_72 ⟨Nat.le_of_ble_eq_true rfl, Nat.le_of_ble_eq_true rfl⟩) ?_
                refine lv_lload hx hb dX0_updateMatrix_75 (lv_at hl 0 rfl) ?_
                refine lv_ldc2 (v := 65536000) hx hb hown (hts _ kX0_updateMatrix_6) dX0_updateMatrix_77 ?_
                obtain ⟨o20, ho20, hF⟩ := ob_e hF
                refine x_callzl (va_runSN (As := [.long o19, .long x17, .long 65536000]) (rest := []) ⟨hx, hb, hml, hown, hts⟩ (c_X5_bring l o19 x17 65536000 ho20) ⟨va_cnB 3 hts gX0_updateMatrix_X5_bring_n71 rfl rfl rfl (nm_X0_71 hN) (hts _ kX0_updateMatrix_8) (by decide +kernel) ⟨Nat.le_of_ble_eq_true rfl, Nat.le_of_ble_eq_true rfl⟩, hts _ kX0_updateMatrix_14, trivial⟩ ⟨true_blind, fun _ _ _ => ⟨rfl, trivial⟩⟩ rfl rfl hl.1 rfl (lv_room (Nat.le_of_ble_eq_true rfl)) dX0_updateMatrix_80 ⟨Nat.le_of_ble_eq_true rfl, Nat.le_of_ble_eq_true rfl⟩) ?_
                refine lv_lstore (lv' := [(9, .long o20), (7, .long x17), (0, .ref ye), (1, .long w1), (3, .int v3), (4, .int v8), (5, .long v15)]) hx hb dX0_updateMatrix_83 hl (by decide) rfl (fun ls hl => ?_)
                refine lv_aload_n hx hb dX0_updateMatrix_85 rfl (lv_at hl 2 rfl) ?_
                refine va_get (D := (dC, dI)) (ci := 0) (v := .ref yem) (C := RX0) (T := TX0) (N := 8) hx hb hts iX0_updateMatrix_X0 hown hK hP 0 rfl rfl 3 (by decide) (hts _ kX0_updateMatrix_1) (fun _ h9 => h9) rfl dX0_updateMatrix_86 ?_
                refine lv_iconst (v := 3) hx hb dX0_updateMatrix_89 (by decide) ?_
                refine lv_iload_n hx hb dX0_updateMatrix_90 rfl (lv_at hl 4 rfl) ?_
                refine lv_imul hx hb dX0_updateMatrix_91 ?_
                refine lv_iload hx hb dX0_updateMatrix_92 (lv_at hl 5 rfl) ?_
                refine lv_iadd hx hb dX0_updateMatrix_94 ?_
                refine lv_lload hx hb dX0_updateMatrix_95 (lv_at hl 0 rfl) ?_
                obtain ⟨g21, hF⟩ := ck_e hF
                obtain ⟨v22, hv22, hF⟩ := lt_e hF
                refine x_last (ws' := [(ye, .inr (0, [.ref yel, .ref yeh, .ref yep, .ref yem, .ref yec, .ref yw, .ref yed, .ref yeg])), (yel, .inl (cyI, 3, .inl yLo)), (yeh, .inl (cyI, 3, .inl yHi)), (yep, .inl (cyI, 3, .inl yPa)), (yem, .inl (cyJ, 9, .inr (.inl v22))), (yec, .inl (cyI, 5, .inl yCo)), (yed, .inl (cyJ, 3, .inr (.inl yDi))), (yeg, .inl (cyJ, 3, .inr (.inl yGa))), (yw, .inr (4, [.ref ywo, .ref ywi, .int yHd])), (ywo, .inl (cyI, 20, .inl yWo)), (ywi, .inl (cyI, 20, .inl yWi))]) hx hb hK hP hD hS 4 1 rfl rfl rfl g21 hv22 rfl dX0_updateMatrix_97 (fun H locs hP hD hS => ?_)
                refine lv_aload_n hx hb dX0_updateMatrix_98 rfl (lv_at hl 2 rfl) ?_
                refine va_get (D := (dC, dI)) (ci := 0) (v := .ref yem) (C := RX0) (T := TX0) (N := 8) hx hb hts iX0_updateMatrix_X0 hown hK hP 0 rfl rfl 3 (by decide) (hts _ kX0_updateMatrix_1) (fun _ h9 => h9) rfl dX0_updateMatrix_99 ?_
                refine lv_iconst (v := 3) hx hb dX0_updateMatrix_102 (by decide) ?_
                refine lv_iload hx hb dX0_updateMatrix_103 (lv_at hl 5 rfl) ?_
                refine lv_imul hx hb dX0_updateMatrix_105 ?_
                refine lv_iload_n hx hb dX0_updateMatrix_106 rfl (lv_at hl 4 rfl) ?_
                refine lv_iadd hx hb dX0_updateMatrix_107 ?_
                refine lv_lload hx hb dX0_updateMatrix_108 (lv_at hl 0 rfl) ?_
                obtain ⟨g23, hF⟩ := ck_e hF
                obtain ⟨v24, hv24, hF⟩ := lt_e hF
                refine x_last (ws' := [(ye, .inr (0, [.ref yel, .ref yeh, .ref yep, .ref yem, .ref yec, .ref yw, .ref yed, .ref yeg])), (yel, .inl (cyI, 3, .inl yLo)), (yeh, .inl (cyI, 3, .inl yHi)), (yep, .inl (cyI, 3, .inl yPa)), (yem, .inl (cyJ, 9, .inr (.inl v24))), (yec, .inl (cyI, 5, .inl yCo)), (yed, .inl (cyJ, 3, .inr (.inl yDi))), (yeg, .inl (cyJ, 3, .inr (.inl yGa))), (yw, .inr (4, [.ref ywo, .ref ywi, .int yHd])), (ywo, .inl (cyI, 20, .inl yWo)), (ywi, .inl (cyI, 20, .inl yWi))]) hx hb hK hP hD hS 4 1 rfl rfl rfl g23 hv24 rfl dX0_updateMatrix_110 (fun H locs hP hD hS => ?_)
                obtain ⟨v25, hv25, hF⟩ := lt_e hF
                refine lv_iinc (v := v25) (lv' := [(4, .int v25), (9, .long o20), (7, .long x17), (0, .ref ye), (1, .long w1), (3, .int v3), (5, .long v15)]) hx hb dX0_updateMatrix_111 hl (k := 5) rfl (by rw [hv25]; rfl) (by decide) rfl (fun ls hl => ?_)
                refine lv_goto (tgt := 10) hx hb dX0_updateMatrix_114 (by decide) ?_
                exact ihn6 _ _ _ _ _ _ hF hP hD hS (lv_sub hl [3, 4, 5, 0] rfl) kxn6
              refine lv_icmp_ne (tgt := 60) hx hb dX0_updateMatrix_53 (by decide) (fun c16 => ?_) (fun c16 => ?_)
              · have hF := ite_f hF c16
                refine lv_ldc2 (v := (-65536000)) hx hb hown (hts _ kX0_updateMatrix_5) dX0_updateMatrix_60 ?_
                exact Jx17 _ _ _ _ hF hP hD hS (lv_sub hl [1, 2, 3, 4, 0] rfl)
              · have hF := ite_t hF c16
                refine lv_lconst (v := 1) hx hb dX0_updateMatrix_56 (by decide) ?_
                refine lv_goto (tgt := 63) hx hb dX0_updateMatrix_57 (by decide) ?_
                exact Jx17 _ _ _ _ hF hP hD hS (lv_sub hl [1, 2, 3, 4, 0] rfl)
        refine Ln6 _ _ _ _ _ _ _ hF hP hD hS (lv_sub hl [1, 2, 3, 0] rfl) (fun x26 H locs ls hF hP hD hS hl => ?_)
        obtain ⟨v27, hv27, hF⟩ := lt_e hF
        refine lv_iinc (v := v27) (lv' := [(3, .int v27), (0, .ref ye), (1, .long w1)]) hx hb dX0_updateMatrix_117 hl (k := 2) rfl (by rw [hv27]; rfl) (by decide) rfl (fun ls hl => ?_)
        refine lv_goto (tgt := 2) hx hb dX0_updateMatrix_120 (by decide) ?_
        exact ihn1 _ _ _ _ _ _ hF hP hD hS (lv_sub hl [1, 2, 0] rfl) kxn1
  refine Ln1 _ _ _ _ _ _ _ hF hP hD hS (lv_sub hl [1, 2, 0] rfl) (fun x28 H locs ls hF hP hD hS hl => ?_)
  obtain rfl := some_e hF
  exact W.vret hx hb hr (fun t ht hW => ⟨⟨(), rfl, trivial, ⟨by rw [ht]; exact hP, va_K.moved hW.alike hK, hD⟩⟩, hS.F ht⟩) hS.2.2 dX0_updateMatrix_123
