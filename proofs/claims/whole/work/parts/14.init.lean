def F_X4_init : Option (Int32 × (Nat → Int32) × (Nat → Int32)) := some (0, (fun _ => 0), (fun _ => 0))
theorem kX4_init_1 : (Cond.methodLink RX4 3 objectInit) ∈ wsX4_init := List.mem_of_getElem? (i := 1) rfl
theorem kX4_init_2 : (Cond.instanceMethod objectInit) ∈ wsX4_init := List.mem_of_getElem? (i := 2) rfl
theorem kX4_init_3 : (Cond.code objectInit ⟨#[0xb1]⟩ 1 none) ∈ wsX4_init := List.mem_of_getElem? (i := 3) rfl
theorem kX4_init_4 : (Cond.arrayClass .int) ∈ wsX4_init := List.mem_of_getElem? (i := 4) rfl
theorem kX4_init_5 : (Cond.fieldLink RX4 9 "SelfTuner$Window" "outputs" "[I") ∈ wsX4_init := List.mem_of_getElem? (i := 5) rfl
theorem kX4_init_6 : (Cond.fieldLink RX4 15 "SelfTuner$Window" "inputs" "[I") ∈ wsX4_init := List.mem_of_getElem? (i := 6) rfl
theorem kX4_init_7 : (Cond.fieldLink RX4 18 "SelfTuner$Window" "held" "I") ∈ wsX4_init := List.mem_of_getElem? (i := 7) rfl
theorem iX4_init_X4 : ∀ w ∈ wsX40, w ∈ wsX4_init := fun w h => List.mem_cons_of_mem _ (List.mem_append_right _ h)
set_option maxHeartbeats 4000000 in
set_option maxRecDepth 100000 in
theorem c_X4_init (l : Launch) (dC : Nat → ClassId) (dI : Nat → Nat → Nat) (cyI cyJ cyB cyS cyD : ClassId) (yw : Nat) (sz : Nat) {out : Int32 × (Nat → Int32) × (Nat → Int32)} (hF : F_X4_init = some out) : Mn l yX4_init wsX4_init ({ frames := 1, cells := 2, slots := 40, locals := 40 } : Room) (dC, dI) [(cyI, .int), (cyJ, .long), (cyB, .byte), (cyS, .object "SelfTuner$State"), (cyD, .double)] sz [.ref yw] [(yw, .inr (4, [.null, .null, .int 0]))] (fun (u : Nat → Nat) => [(yw, .inr (4, [.ref (u 0), .ref (u 1), .int out.1])), ((u 0), .inl (cyI, 20, .inl out.2.1)), ((u 1), .inl (cyI, 20, .inl out.2.2))]) 2 40 := by
  refine Met.ofW (cc := cX4_init) (maxL := 1) (ret := none) (by decide) rfl ?_
  intro p e s m args below meth c s₁ B hml hv
  obtain ⟨rfl, hN, hsz, hP, hK, hD0⟩ := hv
  have hx := B.exec
  have hb := B.bytes
  have hr := B.returns
  have hts := atoms_spec (ws := wsX4_init) B.pre
  have hown : s.vm.findClass RX4 = some m.cls := findClass_of_methodNamed B.named
  have hlocks := B.notSynchronized
  have hin : meth.name = "<init>" := (name_of_methodNamed B.named B.method).1
  subst hsz
  have hD := hD0.self (sz := s.heap.size)
  generalize hAe : va_A [(yw, .inr (4, [.null, .null, .int 0]))] s.heap.size = A at hD ⊢
  have hA : ∀ q : Nat, s.heap.size ≤ q → A q := fun q h => by rw [← hAe]; exact Or.inr h
  have hS : va_S A s.heap s.heap [] := va_S.rf
  have hP : va_P (dC, dI) vwCl [(yw, .inr (4, [.null, .null, .int 0]))] s.heap := hP
  have hl := lv_entry ([.ref yw]) (n := 1) (Nat.le_of_ble_eq_true rfl)
  rw [lg_entry_eq]
  generalize (lg_sl ([.ref yw]) ++ List.replicate (1 - (lg_sl ([.ref yw])).length) Slot.unset).toArray = ls at hl ⊢
  have hl : lv_has ls 1 [(0, .ref yw)] := hl
  unfold F_X4_init at hF
  refine lv_aload_n hx hb dX4_init_0 rfl (lv_at hl 0 rfl) ?_
  refine W.objInit hx hb hown (hts _ kX4_init_1) (hts _ kX4_init_2) (hts _ kX4_init_3) rfl (by rw [hml]; exact hl.1) rfl dX4_init_1 (Nat.le_of_ble_eq_true rfl) (Nat.le_of_ble_eq_true rfl) ?_
  refine W.eq (g2 := F0 m 4 ls []) rfl ?_
  refine lv_aload_n hx hb dX4_init_4 rfl (lv_at hl 0 rfl) ?_
  refine lv_bipush (v := 20) hx hb dX4_init_5 (by decide) ?_
  refine x_newi hx hb (hts _ kX4_init_4) hK hP hD hS hA 0 rfl 20 (by decide : (20 : Int32).toNatClampNeg = 20 ∧ ¬ (20 : Int32) < 0) (by decide) (Nat.le_of_ble_eq_true rfl) (Nat.le_of_ble_eq_true rfl) dX4_init_7 (fun q1 H hP hD hS => ?_)
  have hP : va_P (dC, dI) vwCl [(yw, .inr (4, [.null, .null, .int 0])), (q1, .inl (cyI, 20, .inl (fun _ => 0)))] H := hP
  have hD : va_D A [(yw, .inr (4, [.null, .null, .int 0])), (q1, .inl (cyI, 20, .inl (fun _ => 0)))] := hD
  refine x_putF (D := (dC, dI)) (ci := 4) (v := .ref q1) (ty := tyX4 0) (C := RX4) (T := TX4) (N := 3) (ws' := [(yw, .inr (4, [.ref q1, .null, .int 0])), (q1, .inl (cyI, 20, .inl (fun _ => 0)))]) hx hb hts iX4_init_X4 tyX4 tyX4_ok nmX4 hown hK hP hD hS 0 rfl rfl 0 (by decide) (hts _ kX4_init_5) (fun _ h9 => h9) rfl hin rfl (by decide +kernel) rfl rfl (Nat.le_of_ble_eq_true rfl) rfl dX4_init_9 (fun H locs hP hD hS => ?_)
  refine lv_aload_n hx hb dX4_init_12 rfl (lv_at hl 0 rfl) ?_
  refine lv_bipush (v := 20) hx hb dX4_init_13 (by decide) ?_
  refine x_newi hx hb (hts _ kX4_init_4) hK hP hD hS hA 0 rfl 20 (by decide : (20 : Int32).toNatClampNeg = 20 ∧ ¬ (20 : Int32) < 0) (by decide) (Nat.le_of_ble_eq_true rfl) (Nat.le_of_ble_eq_true rfl) dX4_init_15 (fun q2 H hP hD hS => ?_)
  have hP : va_P (dC, dI) vwCl [(yw, .inr (4, [.ref q1, .null, .int 0])), (q1, .inl (cyI, 20, .inl (fun _ => 0))), (q2, .inl (cyI, 20, .inl (fun _ => 0)))] H := hP
  have hD : va_D A [(yw, .inr (4, [.ref q1, .null, .int 0])), (q1, .inl (cyI, 20, .inl (fun _ => 0))), (q2, .inl (cyI, 20, .inl (fun _ => 0)))] := hD
  refine x_putF (D := (dC, dI)) (ci := 4) (v := .ref q2) (ty := tyX4 1) (C := RX4) (T := TX4) (N := 3) (ws' := [(yw, .inr (4, [.ref q1, .ref q2, .int 0])), (q1, .inl (cyI, 20, .inl (fun _ => 0))), (q2, .inl (cyI, 20, .inl (fun _ => 0)))]) hx hb hts iX4_init_X4 tyX4 tyX4_ok nmX4 hown hK hP hD hS 0 rfl rfl 1 (by decide) (hts _ kX4_init_6) (fun _ h9 => h9) rfl hin rfl (by decide +kernel) rfl rfl (Nat.le_of_ble_eq_true rfl) rfl dX4_init_17 (fun H locs hP hD hS => ?_)
  refine lv_aload_n hx hb dX4_init_20 rfl (lv_at hl 0 rfl) ?_
  refine lv_iconst (v := 0) hx hb dX4_init_21 (by decide) ?_
  refine x_put (D := (dC, dI)) (ci := 4) (v := .int 0) (ty := .int) (C := RX4) (T := TX4) (N := 3) (ws' := [(yw, .inr (4, [.ref q1, .ref q2, .int 0])), (q1, .inl (cyI, 20, .inl (fun _ => 0))), (q2, .inl (cyI, 20, .inl (fun _ => 0)))]) hx hb hts iX4_init_X4 tyX4 tyX4_ok nmX4 hown hK hP hD hS 0 rfl rfl 2 (by decide) (hts _ kX4_init_7) (fun _ h9 => h9) rfl (by decide +kernel) rfl rfl (Nat.le_of_ble_eq_true rfl) rfl dX4_init_22 (fun H locs hP hD hS => ?_)
  obtain rfl := some_e hF
  have hP9 := hP.sub (ws' := [(yw, .inr (4, [.ref q1, .ref q2, .int 0])), (q1, .inl (cyI, 20, .inl (fun _ => 0))), (q2, .inl (cyI, 20, .inl (fun _ => 0)))]) [0, 1, 2] rfl
  have hD9 := hD.sub (ws' := [(yw, .inr (4, [.ref q1, .ref q2, .int 0])), (q1, .inl (cyI, 20, .inl (fun _ => 0))), (q2, .inl (cyI, 20, .inl (fun _ => 0)))]) [0, 1, 2] (by decide) rfl
  refine W.widen (k := 2) (n := 40) (Nat.le_of_ble_eq_true rfl) (Nat.le_of_ble_eq_true rfl) ?_
  exact W.vret hx hb hr (fun t ht hW => ⟨⟨fun k => (([q1, q2] : List Nat).getD k 0), rfl, trivial, by rw [ht]; exact hP9, va_K.moved hW.alike hK, hD9⟩, hS.F ht⟩) hS.2.2 dX4_init_25
def F_X0_init : Option ((Nat → Int32) × (Nat → Int32) × (Nat → Int32) × (Nat → Int64) × (Nat → Int32) × (Nat → Int64) × (Nat → Int64) × Int32 × (Nat → Int32) × (Nat → Int32)) := lt_ (α := Nat → Int32) (upd (fun _ => 0) 0 (-1310720)) (fun v2 => lt_ (α := Nat → Int32) (upd v2 1 (-1310720)) (fun v3 => lt_ (α := Nat → Int32) (upd v3 2 (-1310720)) (fun v4 => lt_ (α := Nat → Int32) (upd (fun _ => 0) 0 1310720) (fun v6 => lt_ (α := Nat → Int32) (upd v6 1 1310720) (fun v7 => lt_ (α := Nat → Int32) (upd v7 2 1310720) (fun v8 => ob (F_X4_init) (fun o14 => ob (F_X0_begin v4 v8 (fun _ => 0) (fun _ => 0) (fun _ => 0)) (fun o17 => some (v4, v8, o17.1, o17.2.1, o17.2.2.1, (fun _ => 0), (fun _ => 0), o17.2.2.2, o14.2.1, o14.2.2)))))))))
theorem kX0_init_1 : (Cond.methodLink RX0 3 objectInit) ∈ wsX0_init := List.mem_of_getElem? (i := 1) rfl
theorem kX0_init_2 : (Cond.instanceMethod objectInit) ∈ wsX0_init := List.mem_of_getElem? (i := 2) rfl
theorem kX0_init_3 : (Cond.code objectInit ⟨#[0xb1]⟩ 1 none) ∈ wsX0_init := List.mem_of_getElem? (i := 3) rfl
theorem kX0_init_4 : (Cond.arrayClass .int) ∈ wsX0_init := List.mem_of_getElem? (i := 4) rfl
theorem kX0_init_5 : (Cond.constant RX0 9 (-1310720)) ∈ wsX0_init := List.mem_of_getElem? (i := 5) rfl
theorem kX0_init_6 : (Cond.fieldLink RX0 10 "SelfTuner$Estimator" "low" "[I") ∈ wsX0_init := List.mem_of_getElem? (i := 6) rfl
theorem kX0_init_7 : (Cond.constant RX0 16 (1310720)) ∈ wsX0_init := List.mem_of_getElem? (i := 7) rfl
theorem kX0_init_8 : (Cond.fieldLink RX0 17 "SelfTuner$Estimator" "high" "[I") ∈ wsX0_init := List.mem_of_getElem? (i := 8) rfl
theorem kX0_init_9 : (Cond.fieldLink RX0 20 "SelfTuner$Estimator" "parameters" "[I") ∈ wsX0_init := List.mem_of_getElem? (i := 9) rfl
theorem kX0_init_10 : (Cond.arrayClass .long) ∈ wsX0_init := List.mem_of_getElem? (i := 10) rfl
theorem kX0_init_11 : (Cond.fieldLink RX0 23 "SelfTuner$Estimator" "matrix" "[J") ∈ wsX0_init := List.mem_of_getElem? (i := 11) rfl
theorem kX0_init_12 : (Cond.fieldLink RX0 27 "SelfTuner$Estimator" "counts" "[I") ∈ wsX0_init := List.mem_of_getElem? (i := 12) rfl
theorem kX0_init_13 : (Cond.classLink RX0 30 RX4) ∈ wsX0_init := List.mem_of_getElem? (i := 13) rfl
theorem kX0_init_14 : (Cond.instantiable RX4 3) ∈ wsX0_init := List.mem_of_getElem? (i := 14) rfl
theorem kX0_init_15 : (Cond.initialized RX4) ∈ wsX0_init := List.mem_of_getElem? (i := 15) rfl
theorem kX0_init_16 : (Cond.fieldLink RX0 33 "SelfTuner$Estimator" "window" "LSelfTuner$Window;") ∈ wsX0_init := List.mem_of_getElem? (i := 16) rfl
theorem kX0_init_17 : (Cond.fieldLink RX0 37 "SelfTuner$Estimator" "directions" "[J") ∈ wsX0_init := List.mem_of_getElem? (i := 17) rfl
theorem kX0_init_18 : (Cond.fieldLink RX0 40 "SelfTuner$Estimator" "gains" "[J") ∈ wsX0_init := List.mem_of_getElem? (i := 18) rfl
theorem kX0_init_19 : (Cond.instanceMethod yX4_init) ∈ wsX0_init := List.mem_of_getElem? (i := 19) rfl
theorem iX0_init_X0 : ∀ w ∈ wsX00, w ∈ wsX0_init := fun w h => List.mem_cons_of_mem _ (List.mem_append_left _ (List.mem_append_right _ h))
theorem iX0_init_X4 : ∀ w ∈ wsX40, w ∈ wsX0_init := fun w h => List.mem_cons_of_mem _ (List.mem_append_right _ h)
set_option maxHeartbeats 4000000 in
set_option maxRecDepth 100000 in
theorem c_X0_init (l : Launch) (dC : Nat → ClassId) (dI : Nat → Nat → Nat) (cyI cyJ cyB cyS cyD : ClassId) (ye : Nat) (sz : Nat) {out : (Nat → Int32) × (Nat → Int32) × (Nat → Int32) × (Nat → Int64) × (Nat → Int32) × (Nat → Int64) × (Nat → Int64) × Int32 × (Nat → Int32) × (Nat → Int32)} (hF : F_X0_init = some out) : Mn l yX0_init wsX0_init ({ frames := 3, cells := 10, slots := 72, locals := 71 } : Room) (dC, dI) [(cyI, .int), (cyJ, .long), (cyB, .byte), (cyS, .object "SelfTuner$State"), (cyD, .double)] sz [.ref ye] [(ye, .inr (0, [.null, .null, .null, .null, .null, .null, .null, .null]))] (fun (u : Nat → Nat) => [(ye, .inr (0, [.ref (u 0), .ref (u 1), .ref (u 2), .ref (u 3), .ref (u 4), .ref (u 7), .ref (u 5), .ref (u 6)])), ((u 0), .inl (cyI, 3, .inl out.1)), ((u 1), .inl (cyI, 3, .inl out.2.1)), ((u 2), .inl (cyI, 3, .inl out.2.2.1)), ((u 3), .inl (cyJ, 9, .inr (.inl out.2.2.2.1))), ((u 4), .inl (cyI, 5, .inl out.2.2.2.2.1)), ((u 5), .inl (cyJ, 3, .inr (.inl out.2.2.2.2.2.1))), ((u 6), .inl (cyJ, 3, .inr (.inl out.2.2.2.2.2.2.1))), ((u 7), .inr (4, [.ref (u 8), .ref (u 9), .int out.2.2.2.2.2.2.2.1])), ((u 8), .inl (cyI, 20, .inl out.2.2.2.2.2.2.2.2.1)), ((u 9), .inl (cyI, 20, .inl out.2.2.2.2.2.2.2.2.2))]) 10 72 := by
  refine Met.ofW (cc := cX0_init) (maxL := 1) (ret := none) (by decide) rfl ?_
  intro p e s m args below meth c s₁ B hml hv
  obtain ⟨rfl, hN, hsz, hP, hK, hD0⟩ := hv
  have hx := B.exec
  have hb := B.bytes
  have hr := B.returns
  have hts := atoms_spec (ws := wsX0_init) B.pre
  have hown : s.vm.findClass RX0 = some m.cls := findClass_of_methodNamed B.named
  have hlocks := B.notSynchronized
  have hin : meth.name = "<init>" := (name_of_methodNamed B.named B.method).1
  subst hsz
  have hD := hD0.self (sz := s.heap.size)
  generalize hAe : va_A [(ye, .inr (0, [.null, .null, .null, .null, .null, .null, .null, .null]))] s.heap.size = A at hD ⊢
  have hA : ∀ q : Nat, s.heap.size ≤ q → A q := fun q h => by rw [← hAe]; exact Or.inr h
  have hS : va_S A s.heap s.heap [] := va_S.rf
  have hP : va_P (dC, dI) vwCl [(ye, .inr (0, [.null, .null, .null, .null, .null, .null, .null, .null]))] s.heap := hP
  have hl := lv_entry ([.ref ye]) (n := 1) (Nat.le_of_ble_eq_true rfl)
  rw [lg_entry_eq]
  generalize (lg_sl ([.ref ye]) ++ List.replicate (1 - (lg_sl ([.ref ye])).length) Slot.unset).toArray = ls at hl ⊢
  have hl : lv_has ls 1 [(0, .ref ye)] := hl
  unfold F_X0_init at hF
  refine lv_aload_n hx hb dX0_init_0 rfl (lv_at hl 0 rfl) ?_
  refine W.objInit hx hb hown (hts _ kX0_init_1) (hts _ kX0_init_2) (hts _ kX0_init_3) rfl (by rw [hml]; exact hl.1) rfl dX0_init_1 (Nat.le_of_ble_eq_true rfl) (Nat.le_of_ble_eq_true rfl) ?_
  refine W.eq (g2 := F0 m 4 ls []) rfl ?_
  refine lv_aload_n hx hb dX0_init_4 rfl (lv_at hl 0 rfl) ?_
  refine lv_iconst (v := 3) hx hb dX0_init_5 (by decide) ?_
  refine x_newi hx hb (hts _ kX0_init_4) hK hP hD hS hA 0 rfl 3 (by decide : (3 : Int32).toNatClampNeg = 3 ∧ ¬ (3 : Int32) < 0) (by decide) (Nat.le_of_ble_eq_true rfl) (Nat.le_of_ble_eq_true rfl) dX0_init_6 (fun q1 H hP hD hS => ?_)
  have hP : va_P (dC, dI) vwCl [(ye, .inr (0, [.null, .null, .null, .null, .null, .null, .null, .null])), (q1, .inl (cyI, 3, .inl (fun _ => 0)))] H := hP
  have hD : va_D A [(ye, .inr (0, [.null, .null, .null, .null, .null, .null, .null, .null])), (q1, .inl (cyI, 3, .inl (fun _ => 0)))] := hD
  refine lv_dup hx hb dX0_init_8 rfl ?_
  refine lv_iconst (v := 0) hx hb dX0_init_9 (by decide) ?_
  refine lv_ldc (v := (-1310720)) hx hb hown (hts _ kX0_init_5) dX0_init_10 ?_
  obtain ⟨v2, hv2, hF⟩ := lt_e hF
  refine x_iast (ws' := [(ye, .inr (0, [.null, .null, .null, .null, .null, .null, .null, .null])), (q1, .inl (cyI, 3, .inl v2))]) hx hb hK hP hD hS 1 0 rfl rfl (show (0 : Int32).toNatClampNeg = 0 by decide) (inbK (k := 0) (by decide) rfl) hv2 rfl dX0_init_12 (fun H locs hP hD hS => ?_)
  refine lv_dup hx hb dX0_init_13 rfl ?_
  refine lv_iconst (v := 1) hx hb dX0_init_14 (by decide) ?_
  refine lv_ldc (v := (-1310720)) hx hb hown (hts _ kX0_init_5) dX0_init_15 ?_
  obtain ⟨v3, hv3, hF⟩ := lt_e hF
  refine x_iast (ws' := [(ye, .inr (0, [.null, .null, .null, .null, .null, .null, .null, .null])), (q1, .inl (cyI, 3, .inl v3))]) hx hb hK hP hD hS 1 0 rfl rfl (show (1 : Int32).toNatClampNeg = 1 by decide) (inbK (k := 1) (by decide) rfl) hv3 rfl dX0_init_17 (fun H locs hP hD hS => ?_)
  refine lv_dup hx hb dX0_init_18 rfl ?_
  refine lv_iconst (v := 2) hx hb dX0_init_19 (by decide) ?_
  refine lv_ldc (v := (-1310720)) hx hb hown (hts _ kX0_init_5) dX0_init_20 ?_
  obtain ⟨v4, hv4, hF⟩ := lt_e hF
  refine x_iast (ws' := [(ye, .inr (0, [.null, .null, .null, .null, .null, .null, .null, .null])), (q1, .inl (cyI, 3, .inl v4))]) hx hb hK hP hD hS 1 0 rfl rfl (show (2 : Int32).toNatClampNeg = 2 by decide) (inbK (k := 2) (by decide) rfl) hv4 rfl dX0_init_22 (fun H locs hP hD hS => ?_)
  refine x_putF (D := (dC, dI)) (ci := 0) (v := .ref q1) (ty := tyX0 0) (C := RX0) (T := TX0) (N := 8) (ws' := [(ye, .inr (0, [.ref q1, .null, .null, .null, .null, .null, .null, .null])), (q1, .inl (cyI, 3, .inl v4))]) hx hb hts iX0_init_X0 tyX0 tyX0_ok nmX0 hown hK hP hD hS 0 rfl rfl 0 (by decide) (hts _ kX0_init_6) (fun _ h9 => h9) rfl hin rfl (by decide +kernel) rfl rfl (Nat.le_of_ble_eq_true rfl) rfl dX0_init_23 (fun H locs hP hD hS => ?_)
  refine lv_aload_n hx hb dX0_init_26 rfl (lv_at hl 0 rfl) ?_
  refine lv_iconst (v := 3) hx hb dX0_init_27 (by decide) ?_
  refine x_newi hx hb (hts _ kX0_init_4) hK hP hD hS hA 0 rfl 3 (by decide : (3 : Int32).toNatClampNeg = 3 ∧ ¬ (3 : Int32) < 0) (by decide) (Nat.le_of_ble_eq_true rfl) (Nat.le_of_ble_eq_true rfl) dX0_init_28 (fun q5 H hP hD hS => ?_)
  have hP : va_P (dC, dI) vwCl [(ye, .inr (0, [.ref q1, .null, .null, .null, .null, .null, .null, .null])), (q1, .inl (cyI, 3, .inl v4)), (q5, .inl (cyI, 3, .inl (fun _ => 0)))] H := hP
  have hD : va_D A [(ye, .inr (0, [.ref q1, .null, .null, .null, .null, .null, .null, .null])), (q1, .inl (cyI, 3, .inl v4)), (q5, .inl (cyI, 3, .inl (fun _ => 0)))] := hD
  refine lv_dup hx hb dX0_init_30 rfl ?_
  refine lv_iconst (v := 0) hx hb dX0_init_31 (by decide) ?_
  refine lv_ldc (v := 1310720) hx hb hown (hts _ kX0_init_7) dX0_init_32 ?_
  obtain ⟨v6, hv6, hF⟩ := lt_e hF
  refine x_iast (ws' := [(ye, .inr (0, [.ref q1, .null, .null, .null, .null, .null, .null, .null])), (q1, .inl (cyI, 3, .inl v4)), (q5, .inl (cyI, 3, .inl v6))]) hx hb hK hP hD hS 2 0 rfl rfl (show (0 : Int32).toNatClampNeg = 0 by decide) (inbK (k := 0) (by decide) rfl) hv6 rfl dX0_init_34 (fun H locs hP hD hS => ?_)
  refine lv_dup hx hb dX0_init_35 rfl ?_
  refine lv_iconst (v := 1) hx hb dX0_init_36 (by decide) ?_
  refine lv_ldc (v := 1310720) hx hb hown (hts _ kX0_init_7) dX0_init_37 ?_
  obtain ⟨v7, hv7, hF⟩ := lt_e hF
  refine x_iast (ws' := [(ye, .inr (0, [.ref q1, .null, .null, .null, .null, .null, .null, .null])), (q1, .inl (cyI, 3, .inl v4)), (q5, .inl (cyI, 3, .inl v7))]) hx hb hK hP hD hS 2 0 rfl rfl (show (1 : Int32).toNatClampNeg = 1 by decide) (inbK (k := 1) (by decide) rfl) hv7 rfl dX0_init_39 (fun H locs hP hD hS => ?_)
  refine lv_dup hx hb dX0_init_40 rfl ?_
  refine lv_iconst (v := 2) hx hb dX0_init_41 (by decide) ?_
  refine lv_ldc (v := 1310720) hx hb hown (hts _ kX0_init_7) dX0_init_42 ?_
  obtain ⟨v8, hv8, hF⟩ := lt_e hF
  refine x_iast (ws' := [(ye, .inr (0, [.ref q1, .null, .null, .null, .null, .null, .null, .null])), (q1, .inl (cyI, 3, .inl v4)), (q5, .inl (cyI, 3, .inl v8))]) hx hb hK hP hD hS 2 0 rfl rfl (show (2 : Int32).toNatClampNeg = 2 by decide) (inbK (k := 2) (by decide) rfl) hv8 rfl dX0_init_44 (fun H locs hP hD hS => ?_)
  refine x_putF (D := (dC, dI)) (ci := 0) (v := .ref q5) (ty := tyX0 1) (C := RX0) (T := TX0) (N := 8) (ws' := [(ye, .inr (0, [.ref q1, .ref q5, .null, .null, .null, .null, .null, .null])), (q1, .inl (cyI, 3, .inl v4)), (q5, .inl (cyI, 3, .inl v8))]) hx hb hts iX0_init_X0 tyX0 tyX0_ok nmX0 hown hK hP hD hS 0 rfl rfl 1 (by decide) (hts _ kX0_init_8) (fun _ h9 => h9) rfl hin rfl (by decide +kernel) rfl rfl (Nat.le_of_ble_eq_true rfl) rfl dX0_init_45 (fun H locs hP hD hS => ?_)
  refine lv_aload_n hx hb dX0_init_48 rfl (lv_at hl 0 rfl) ?_
  refine lv_iconst (v := 3) hx hb dX0_init_49 (by decide) ?_
  refine x_newi hx hb (hts _ kX0_init_4) hK hP hD hS hA 0 rfl 3 (by decide : (3 : Int32).toNatClampNeg = 3 ∧ ¬ (3 : Int32) < 0) (by decide) (Nat.le_of_ble_eq_true rfl) (Nat.le_of_ble_eq_true rfl) dX0_init_50 (fun q9 H hP hD hS => ?_)
  have hP : va_P (dC, dI) vwCl [(ye, .inr (0, [.ref q1, .ref q5, .null, .null, .null, .null, .null, .null])), (q1, .inl (cyI, 3, .inl v4)), (q5, .inl (cyI, 3, .inl v8)), (q9, .inl (cyI, 3, .inl (fun _ => 0)))] H := hP
  have hD : va_D A [(ye, .inr (0, [.ref q1, .ref q5, .null, .null, .null, .null, .null, .null])), (q1, .inl (cyI, 3, .inl v4)), (q5, .inl (cyI, 3, .inl v8)), (q9, .inl (cyI, 3, .inl (fun _ => 0)))] := hD
  refine x_putF (D := (dC, dI)) (ci := 0) (v := .ref q9) (ty := tyX0 2) (C := RX0) (T := TX0) (N := 8) (ws' := [(ye, .inr (0, [.ref q1, .ref q5, .ref q9, .null, .null, .null, .null, .null])), (q1, .inl (cyI, 3, .inl v4)), (q5, .inl (cyI, 3, .inl v8)), (q9, .inl (cyI, 3, .inl (fun _ => 0)))]) hx hb hts iX0_init_X0 tyX0 tyX0_ok nmX0 hown hK hP hD hS 0 rfl rfl 2 (by decide) (hts _ kX0_init_9) (fun _ h9 => h9) rfl hin rfl (by decide +kernel) rfl rfl (Nat.le_of_ble_eq_true rfl) rfl dX0_init_52 (fun H locs hP hD hS => ?_)
  refine lv_aload_n hx hb dX0_init_55 rfl (lv_at hl 0 rfl) ?_
  refine lv_bipush (v := 9) hx hb dX0_init_56 (by decide) ?_
  refine x_newl hx hb (hts _ kX0_init_10) hK hP hD hS hA 1 rfl 9 (by decide : (9 : Int32).toNatClampNeg = 9 ∧ ¬ (9 : Int32) < 0) (by decide) (Nat.le_of_ble_eq_true rfl) (Nat.le_of_ble_eq_true rfl) dX0_init_58 (fun q10 H hP hD hS => ?_)
  have hP : va_P (dC, dI) vwCl [(ye, .inr (0, [.ref q1, .ref q5, .ref q9, .null, .null, .null, .null, .null])), (q1, .inl (cyI, 3, .inl v4)), (q5, .inl (cyI, 3, .inl v8)), (q9, .inl (cyI, 3, .inl (fun _ => 0))), (q10, .inl (cyJ, 9, .inr (.inl (fun _ => 0))))] H := hP
  have hD : va_D A [(ye, .inr (0, [.ref q1, .ref q5, .ref q9, .null, .null, .null, .null, .null])), (q1, .inl (cyI, 3, .inl v4)), (q5, .inl (cyI, 3, .inl v8)), (q9, .inl (cyI, 3, .inl (fun _ => 0))), (q10, .inl (cyJ, 9, .inr (.inl (fun _ => 0))))] := hD
  refine x_putF (D := (dC, dI)) (ci := 0) (v := .ref q10) (ty := tyX0 3) (C := RX0) (T := TX0) (N := 8) (ws' := [(ye, .inr (0, [.ref q1, .ref q5, .ref q9, .ref q10, .null, .null, .null, .null])), (q1, .inl (cyI, 3, .inl v4)), (q5, .inl (cyI, 3, .inl v8)), (q9, .inl (cyI, 3, .inl (fun _ => 0))), (q10, .inl (cyJ, 9, .inr (.inl (fun _ => 0))))]) hx hb hts iX0_init_X0 tyX0 tyX0_ok nmX0 hown hK hP hD hS 0 rfl rfl 3 (by decide) (hts _ kX0_init_11) (fun _ h9 => h9) rfl hin rfl (by decide +kernel) rfl rfl (Nat.le_of_ble_eq_true rfl) rfl dX0_init_60 (fun H locs hP hD hS => ?_)
  refine lv_aload_n hx hb dX0_init_63 rfl (lv_at hl 0 rfl) ?_
  refine lv_iconst (v := 5) hx hb dX0_init_64 (by decide) ?_
  refine x_newi hx hb (hts _ kX0_init_4) hK hP hD hS hA 0 rfl 5 (by decide : (5 : Int32).toNatClampNeg = 5 ∧ ¬ (5 : Int32) < 0) (by decide) (Nat.le_of_ble_eq_true rfl) (Nat.le_of_ble_eq_true rfl) dX0_init_65 (fun q11 H hP hD hS => ?_)
  have hP : va_P (dC, dI) vwCl [(ye, .inr (0, [.ref q1, .ref q5, .ref q9, .ref q10, .null, .null, .null, .null])), (q1, .inl (cyI, 3, .inl v4)), (q5, .inl (cyI, 3, .inl v8)), (q9, .inl (cyI, 3, .inl (fun _ => 0))), (q10, .inl (cyJ, 9, .inr (.inl (fun _ => 0)))), (q11, .inl (cyI, 5, .inl (fun _ => 0)))] H := hP
  have hD : va_D A [(ye, .inr (0, [.ref q1, .ref q5, .ref q9, .ref q10, .null, .null, .null, .null])), (q1, .inl (cyI, 3, .inl v4)), (q5, .inl (cyI, 3, .inl v8)), (q9, .inl (cyI, 3, .inl (fun _ => 0))), (q10, .inl (cyJ, 9, .inr (.inl (fun _ => 0)))), (q11, .inl (cyI, 5, .inl (fun _ => 0)))] := hD
  refine x_putF (D := (dC, dI)) (ci := 0) (v := .ref q11) (ty := tyX0 4) (C := RX0) (T := TX0) (N := 8) (ws' := [(ye, .inr (0, [.ref q1, .ref q5, .ref q9, .ref q10, .ref q11, .null, .null, .null])), (q1, .inl (cyI, 3, .inl v4)), (q5, .inl (cyI, 3, .inl v8)), (q9, .inl (cyI, 3, .inl (fun _ => 0))), (q10, .inl (cyJ, 9, .inr (.inl (fun _ => 0)))), (q11, .inl (cyI, 5, .inl (fun _ => 0)))]) hx hb hts iX0_init_X0 tyX0 tyX0_ok nmX0 hown hK hP hD hS 0 rfl rfl 4 (by decide) (hts _ kX0_init_12) (fun _ h9 => h9) rfl hin rfl (by decide +kernel) rfl rfl (Nat.le_of_ble_eq_true rfl) rfl dX0_init_67 (fun H locs hP hD hS => ?_)
  refine lv_aload_n hx hb dX0_init_70 rfl (lv_at hl 0 rfl) ?_
  refine va_new (ci := 4) (fs := [.null, .null, .int 0]) (C := RX4) (T := TX4) (N := 3) hx hb hts iX0_init_X4 tyX4 tyX4_ok hown (hts _ kX0_init_13) (hts _ kX0_init_14) (hts _ kX0_init_15) hK hP hD hS hA rfl (fun j hj => by rcases (show j = 0 ∨ j = 1 ∨ j = 2 by omega) with rfl | rfl | rfl <;> rfl) (Nat.le_of_ble_eq_true rfl) (Nat.le_of_ble_eq_true rfl) dX0_init_71 (fun q12 H hP hD hS => ?_)
  have hP : va_P (dC, dI) vwCl [(ye, .inr (0, [.ref q1, .ref q5, .ref q9, .ref q10, .ref q11, .null, .null, .null])), (q1, .inl (cyI, 3, .inl v4)), (q5, .inl (cyI, 3, .inl v8)), (q9, .inl (cyI, 3, .inl (fun _ => 0))), (q10, .inl (cyJ, 9, .inr (.inl (fun _ => 0)))), (q11, .inl (cyI, 5, .inl (fun _ => 0))), (q12, .inr (4, [.null, .null, .int 0]))] H := hP
  have hD : va_D A [(ye, .inr (0, [.ref q1, .ref q5, .ref q9, .ref q10, .ref q11, .null, .null, .null])), (q1, .inl (cyI, 3, .inl v4)), (q5, .inl (cyI, 3, .inl v8)), (q9, .inl (cyI, 3, .inl (fun _ => 0))), (q10, .inl (cyJ, 9, .inr (.inl (fun _ => 0)))), (q11, .inl (cyI, 5, .inl (fun _ => 0))), (q12, .inr (4, [.null, .null, .int 0]))] := hD
  refine lv_dup hx hb dX0_init_74 rfl ?_
  obtain ⟨o14, ho14, hF⟩ := ob_e hF
  refine x_calln (wr := [(ye, .inr (0, [.ref q1, .ref q5, .ref q9, .ref q10, .ref q11, .null, .null, .null])), (q1, .inl (cyI, 3, .inl v4)), (q5, .inl (cyI, 3, .inl v8)), (q9, .inl (cyI, 3, .inl (fun _ => 0))), (q10, .inl (cyJ, 9, .inr (.inl (fun _ => 0)))), (q11, .inl (cyI, 5, .inl (fun _ => 0)))]) (va_runIN (As := []) (rest := [.ref q12, .ref ye]) ⟨hx, hb, hml, hown, hts⟩ (c_X4_init l dC dI cyI cyJ cyB cyS cyD q12 H.size ho14) ⟨va_cnB 0 hts gX0_init_X4_init_n32 rfl rfl rfl (nm_X0_32 hN) (hts _ kX0_init_15) (by decide +kernel) ⟨(Nat.le_of_ble_eq_true rfl), (Nat.le_of_ble_eq_true rfl)⟩, rfl, hts _ kX0_init_19⟩ ⟨cPre_blind, x_pre hN hP hD hK [6] rfl rfl⟩ rfl rfl hl.1 rfl (lv_room (Nat.le_of_ble_eq_true rfl)) dX0_init_75 ⟨(Nat.le_of_ble_eq_true rfl), (Nat.le_of_ble_eq_true rfl)⟩) hP hD hS hA [6] [0, 1, 2, 3, 4, 5] rfl rfl rfl (by decide) (fun u13 H locs hP hD hS => ?_)
  have hP : va_P (dC, dI) vwCl [(ye, .inr (0, [.ref q1, .ref q5, .ref q9, .ref q10, .ref q11, .null, .null, .null])), (q1, .inl (cyI, 3, .inl v4)), (q5, .inl (cyI, 3, .inl v8)), (q9, .inl (cyI, 3, .inl (fun _ => 0))), (q10, .inl (cyJ, 9, .inr (.inl (fun _ => 0)))), (q11, .inl (cyI, 5, .inl (fun _ => 0))), (q12, .inr (4, [.ref (u13 0), .ref (u13 1), .int o14.1])), ((u13 0), .inl (cyI, 20, .inl o14.2.1)), ((u13 1), .inl (cyI, 20, .inl o14.2.2))] H := hP
  have hD : va_D A [(ye, .inr (0, [.ref q1, .ref q5, .ref q9, .ref q10, .ref q11, .null, .null, .null])), (q1, .inl (cyI, 3, .inl v4)), (q5, .inl (cyI, 3, .inl v8)), (q9, .inl (cyI, 3, .inl (fun _ => 0))), (q10, .inl (cyJ, 9, .inr (.inl (fun _ => 0)))), (q11, .inl (cyI, 5, .inl (fun _ => 0))), (q12, .inr (4, [.ref (u13 0), .ref (u13 1), .int o14.1])), ((u13 0), .inl (cyI, 20, .inl o14.2.1)), ((u13 1), .inl (cyI, 20, .inl o14.2.2))] := hD
  refine x_putF (D := (dC, dI)) (ci := 0) (v := .ref q12) (ty := tyX0 5) (C := RX0) (T := TX0) (N := 8) (ws' := [(ye, .inr (0, [.ref q1, .ref q5, .ref q9, .ref q10, .ref q11, .ref q12, .null, .null])), (q1, .inl (cyI, 3, .inl v4)), (q5, .inl (cyI, 3, .inl v8)), (q9, .inl (cyI, 3, .inl (fun _ => 0))), (q10, .inl (cyJ, 9, .inr (.inl (fun _ => 0)))), (q11, .inl (cyI, 5, .inl (fun _ => 0))), (q12, .inr (4, [.ref (u13 0), .ref (u13 1), .int o14.1])), ((u13 0), .inl (cyI, 20, .inl o14.2.1)), ((u13 1), .inl (cyI, 20, .inl o14.2.2))]) hx hb hts iX0_init_X0 tyX0 tyX0_ok nmX0 hown hK hP hD hS 0 rfl rfl 5 (by decide) (hts _ kX0_init_16) (fun _ h9 => h9) rfl hin rfl (by decide +kernel) rfl rfl (Nat.le_of_ble_eq_true rfl) rfl dX0_init_78 (fun H locs hP hD hS => ?_)
  refine lv_aload_n hx hb dX0_init_81 rfl (lv_at hl 0 rfl) ?_
  refine lv_iconst (v := 3) hx hb dX0_init_82 (by decide) ?_
  refine x_newl hx hb (hts _ kX0_init_10) hK hP hD hS hA 1 rfl 3 (by decide : (3 : Int32).toNatClampNeg = 3 ∧ ¬ (3 : Int32) < 0) (by decide) (Nat.le_of_ble_eq_true rfl) (Nat.le_of_ble_eq_true rfl) dX0_init_83 (fun q15 H hP hD hS => ?_)
  have hP : va_P (dC, dI) vwCl [(ye, .inr (0, [.ref q1, .ref q5, .ref q9, .ref q10, .ref q11, .ref q12, .null, .null])), (q1, .inl (cyI, 3, .inl v4)), (q5, .inl (cyI, 3, .inl v8)), (q9, .inl (cyI, 3, .inl (fun _ => 0))), (q10, .inl (cyJ, 9, .inr (.inl (fun _ => 0)))), (q11, .inl (cyI, 5, .inl (fun _ => 0))), (q12, .inr (4, [.ref (u13 0), .ref (u13 1), .int o14.1])), ((u13 0), .inl (cyI, 20, .inl o14.2.1)), ((u13 1), .inl (cyI, 20, .inl o14.2.2)), (q15, .inl (cyJ, 3, .inr (.inl (fun _ => 0))))] H := hP
  have hD : va_D A [(ye, .inr (0, [.ref q1, .ref q5, .ref q9, .ref q10, .ref q11, .ref q12, .null, .null])), (q1, .inl (cyI, 3, .inl v4)), (q5, .inl (cyI, 3, .inl v8)), (q9, .inl (cyI, 3, .inl (fun _ => 0))), (q10, .inl (cyJ, 9, .inr (.inl (fun _ => 0)))), (q11, .inl (cyI, 5, .inl (fun _ => 0))), (q12, .inr (4, [.ref (u13 0), .ref (u13 1), .int o14.1])), ((u13 0), .inl (cyI, 20, .inl o14.2.1)), ((u13 1), .inl (cyI, 20, .inl o14.2.2)), (q15, .inl (cyJ, 3, .inr (.inl (fun _ => 0))))] := hD
  refine x_putF (D := (dC, dI)) (ci := 0) (v := .ref q15) (ty := tyX0 6) (C := RX0) (T := TX0) (N := 8) (ws' := [(ye, .inr (0, [.ref q1, .ref q5, .ref q9, .ref q10, .ref q11, .ref q12, .ref q15, .null])), (q1, .inl (cyI, 3, .inl v4)), (q5, .inl (cyI, 3, .inl v8)), (q9, .inl (cyI, 3, .inl (fun _ => 0))), (q10, .inl (cyJ, 9, .inr (.inl (fun _ => 0)))), (q11, .inl (cyI, 5, .inl (fun _ => 0))), (q12, .inr (4, [.ref (u13 0), .ref (u13 1), .int o14.1])), ((u13 0), .inl (cyI, 20, .inl o14.2.1)), ((u13 1), .inl (cyI, 20, .inl o14.2.2)), (q15, .inl (cyJ, 3, .inr (.inl (fun _ => 0))))]) hx hb hts iX0_init_X0 tyX0 tyX0_ok nmX0 hown hK hP hD hS 0 rfl rfl 6 (by decide) (hts _ kX0_init_17) (fun _ h9 => h9) rfl hin rfl (by decide +kernel) rfl rfl (Nat.le_of_ble_eq_true rfl) rfl dX0_init_85 (fun H locs hP hD hS => ?_)
  refine lv_aload_n hx hb dX0_init_88 rfl (lv_at hl 0 rfl) ?_
  refine lv_iconst (v := 3) hx hb dX0_init_89 (by decide) ?_
  refine x_newl hx hb (hts _ kX0_init_10) hK hP hD hS hA 1 rfl 3 (by decide : (3 : Int32).toNatClampNeg = 3 ∧ ¬ (3 : Int32) < 0) (by decide) (Nat.le_of_ble_eq_true rfl) (Nat.le_of_ble_eq_true rfl) dX0_init_90 (fun q16 H hP hD hS => ?_)
  have hP : va_P (dC, dI) vwCl [(ye, .inr (0, [.ref q1, .ref q5, .ref q9, .ref q10, .ref q11, .ref q12, .ref q15, .null])), (q1, .inl (cyI, 3, .inl v4)), (q5, .inl (cyI, 3, .inl v8)), (q9, .inl (cyI, 3, .inl (fun _ => 0))), (q10, .inl (cyJ, 9, .inr (.inl (fun _ => 0)))), (q11, .inl (cyI, 5, .inl (fun _ => 0))), (q12, .inr (4, [.ref (u13 0), .ref (u13 1), .int o14.1])), ((u13 0), .inl (cyI, 20, .inl o14.2.1)), ((u13 1), .inl (cyI, 20, .inl o14.2.2)), (q15, .inl (cyJ, 3, .inr (.inl (fun _ => 0)))), (q16, .inl (cyJ, 3, .inr (.inl (fun _ => 0))))] H := hP
  have hD : va_D A [(ye, .inr (0, [.ref q1, .ref q5, .ref q9, .ref q10, .ref q11, .ref q12, .ref q15, .null])), (q1, .inl (cyI, 3, .inl v4)), (q5, .inl (cyI, 3, .inl v8)), (q9, .inl (cyI, 3, .inl (fun _ => 0))), (q10, .inl (cyJ, 9, .inr (.inl (fun _ => 0)))), (q11, .inl (cyI, 5, .inl (fun _ => 0))), (q12, .inr (4, [.ref (u13 0), .ref (u13 1), .int o14.1])), ((u13 0), .inl (cyI, 20, .inl o14.2.1)), ((u13 1), .inl (cyI, 20, .inl o14.2.2)), (q15, .inl (cyJ, 3, .inr (.inl (fun _ => 0)))), (q16, .inl (cyJ, 3, .inr (.inl (fun _ => 0))))] := hD
  refine x_putF (D := (dC, dI)) (ci := 0) (v := .ref q16) (ty := tyX0 7) (C := RX0) (T := TX0) (N := 8) (ws' := [(ye, .inr (0, [.ref q1, .ref q5, .ref q9, .ref q10, .ref q11, .ref q12, .ref q15, .ref q16])), (q1, .inl (cyI, 3, .inl v4)), (q5, .inl (cyI, 3, .inl v8)), (q9, .inl (cyI, 3, .inl (fun _ => 0))), (q10, .inl (cyJ, 9, .inr (.inl (fun _ => 0)))), (q11, .inl (cyI, 5, .inl (fun _ => 0))), (q12, .inr (4, [.ref (u13 0), .ref (u13 1), .int o14.1])), ((u13 0), .inl (cyI, 20, .inl o14.2.1)), ((u13 1), .inl (cyI, 20, .inl o14.2.2)), (q15, .inl (cyJ, 3, .inr (.inl (fun _ => 0)))), (q16, .inl (cyJ, 3, .inr (.inl (fun _ => 0))))]) hx hb hts iX0_init_X0 tyX0 tyX0_ok nmX0 hown hK hP hD hS 0 rfl rfl 7 (by decide) (hts _ kX0_init_18) (fun _ h9 => h9) rfl hin rfl (by decide +kernel) rfl rfl (Nat.le_of_ble_eq_true rfl) rfl dX0_init_92 (fun H locs hP hD hS => ?_)
  refine lv_aload_n hx hb dX0_init_95 rfl (lv_at hl 0 rfl) ?_
  obtain ⟨o17, ho17, hF⟩ := ob_e hF
  refine x_callv (wr := []) (ws' := [(ye, .inr (0, [.ref q1, .ref q5, .ref q9, .ref q10, .ref q11, .ref q12, .ref q15, .ref q16])), (q1, .inl (cyI, 3, .inl v4)), (q5, .inl (cyI, 3, .inl v8)), (q9, .inl (cyI, 3, .inl o17.1)), (q10, .inl (cyJ, 9, .inr (.inl o17.2.1))), (q11, .inl (cyI, 5, .inl o17.2.2.1)), (q12, .inr (4, [.ref (u13 0), .ref (u13 1), .int o17.2.2.2])), ((u13 0), .inl (cyI, 20, .inl o14.2.1)), ((u13 1), .inl (cyI, 20, .inl o14.2.2)), (q15, .inl (cyJ, 3, .inr (.inl (fun _ => 0)))), (q16, .inl (cyJ, 3, .inr (.inl (fun _ => 0))))]) (va_runV (As := []) (rest := []) ⟨hx, hb, hml, hown, hts⟩ (c_X0_begin l dC dI cyI cyJ cyB cyS cyD ye q1 q5 q9 q10 q11 q12 q15 q16 (u13 0) (u13 1) H.size v4 v8 (fun _ => 0) (fun _ => 0) (fun _ => 0) (fun _ => 0) (fun _ => 0) o14.1 o14.2.1 o14.2.2 ho17) (cwV 0 hts gX0_init_X0_begin rfl rfl rfl (by decide +kernel) ⟨Nat.le_of_ble_eq_true rfl, Nat.le_of_ble_eq_true rfl⟩) ⟨cPre_blind, va_recv hK hP (ci := 0) (q0 := 0) rfl rfl, x_pre hN hP hD hK [0, 1, 2, 3, 4, 5, 9, 10, 6, 7, 8] rfl rfl⟩ rfl rfl hl.1 rfl (lv_room (Nat.le_of_ble_eq_true rfl)) dX0_init_96 ⟨Nat.le_of_ble_eq_true rfl, Nat.le_of_ble_eq_true rfl⟩) hP hD hS hA [0, 1, 2, 3, 4, 5, 9, 10, 6, 7, 8] [] [0, 1, 2, 3, 4, 5, 8, 9, 10, 6, 7] rfl rfl rfl (by decide) rfl rfl (fun H locs hP hD hS => ?_)
  obtain rfl := some_e hF
  have hP9 := hP.sub (ws' := [(ye, .inr (0, [.ref q1, .ref q5, .ref q9, .ref q10, .ref q11, .ref q12, .ref q15, .ref q16])), (q1, .inl (cyI, 3, .inl v4)), (q5, .inl (cyI, 3, .inl v8)), (q9, .inl (cyI, 3, .inl o17.1)), (q10, .inl (cyJ, 9, .inr (.inl o17.2.1))), (q11, .inl (cyI, 5, .inl o17.2.2.1)), (q15, .inl (cyJ, 3, .inr (.inl (fun _ => 0)))), (q16, .inl (cyJ, 3, .inr (.inl (fun _ => 0)))), (q12, .inr (4, [.ref (u13 0), .ref (u13 1), .int o17.2.2.2])), ((u13 0), .inl (cyI, 20, .inl o14.2.1)), ((u13 1), .inl (cyI, 20, .inl o14.2.2))]) [0, 1, 2, 3, 4, 5, 9, 10, 6, 7, 8] rfl
  have hD9 := hD.sub (ws' := [(ye, .inr (0, [.ref q1, .ref q5, .ref q9, .ref q10, .ref q11, .ref q12, .ref q15, .ref q16])), (q1, .inl (cyI, 3, .inl v4)), (q5, .inl (cyI, 3, .inl v8)), (q9, .inl (cyI, 3, .inl o17.1)), (q10, .inl (cyJ, 9, .inr (.inl o17.2.1))), (q11, .inl (cyI, 5, .inl o17.2.2.1)), (q15, .inl (cyJ, 3, .inr (.inl (fun _ => 0)))), (q16, .inl (cyJ, 3, .inr (.inl (fun _ => 0)))), (q12, .inr (4, [.ref (u13 0), .ref (u13 1), .int o17.2.2.2])), ((u13 0), .inl (cyI, 20, .inl o14.2.1)), ((u13 1), .inl (cyI, 20, .inl o14.2.2))]) [0, 1, 2, 3, 4, 5, 9, 10, 6, 7, 8] (by decide) rfl
  refine W.widen (k := 10) (n := 72) (Nat.le_of_ble_eq_true rfl) (Nat.le_of_ble_eq_true rfl) ?_
  exact W.vret hx hb hr (fun t ht hW => ⟨⟨fun k => (([q1, q5, q9, q10, q11, q15, q16, q12, (u13 0), (u13 1)] : List Nat).getD k 0), rfl, trivial, by rw [ht]; exact hP9, va_K.moved hW.alike hK, hD9⟩, hS.F ht⟩) hS.2.2 dX0_init_99
def F_X1_init : Option (Int32 × Int64 × Int32 × (Nat → Int32)) := lt_ (α := Nat → Int32) (upd (fun _ => 0) 0 800) (fun v2 => lt_ (α := Nat → Int32) (upd v2 1 500) (fun v3 => lt_ (α := Nat → Int32) (upd v3 2 0) (fun v4 => some (0, 1, 0, v4))))
theorem kX1_init_1 : (Cond.methodLink RX1 3 objectInit) ∈ wsX1_init := List.mem_of_getElem? (i := 1) rfl
theorem kX1_init_2 : (Cond.instanceMethod objectInit) ∈ wsX1_init := List.mem_of_getElem? (i := 2) rfl
theorem kX1_init_3 : (Cond.code objectInit ⟨#[0xb1]⟩ 1 none) ∈ wsX1_init := List.mem_of_getElem? (i := 3) rfl
theorem kX1_init_4 : (Cond.arrayClass .int) ∈ wsX1_init := List.mem_of_getElem? (i := 4) rfl
theorem kX1_init_5 : (Cond.fieldLink RX1 9 "SelfTuner$Plant" "numbers" "[I") ∈ wsX1_init := List.mem_of_getElem? (i := 5) rfl
theorem kX1_init_6 : (Cond.fieldLink RX1 15 "SelfTuner$Plant" "noise" "I") ∈ wsX1_init := List.mem_of_getElem? (i := 6) rfl
theorem kX1_init_7 : (Cond.fieldLink RX1 19 "SelfTuner$Plant" "random" "J") ∈ wsX1_init := List.mem_of_getElem? (i := 7) rfl
theorem kX1_init_8 : (Cond.fieldLink RX1 23 "SelfTuner$Plant" "output" "I") ∈ wsX1_init := List.mem_of_getElem? (i := 8) rfl
theorem iX1_init_X1 : ∀ w ∈ wsX10, w ∈ wsX1_init := fun w h => List.mem_cons_of_mem _ (List.mem_append_right _ h)
set_option maxHeartbeats 4000000 in
set_option maxRecDepth 100000 in
theorem c_X1_init (l : Launch) (dC : Nat → ClassId) (dI : Nat → Nat → Nat) (cyI cyJ cyB cyS cyD : ClassId) (yp : Nat) (sz : Nat) {out : Int32 × Int64 × Int32 × (Nat → Int32)} (hF : F_X1_init = some out) : Mn l yX1_init wsX1_init ({ frames := 1, cells := 1, slots := 3, locals := 40 } : Room) (dC, dI) [(cyI, .int), (cyJ, .long), (cyB, .byte), (cyS, .object "SelfTuner$State"), (cyD, .double)] sz [.ref yp] [(yp, .inr (1, [.null, .int 0, .long 0, .int 0]))] (fun (u : Nat → Nat) => [(yp, .inr (1, [.ref (u 0), .int out.1, .long out.2.1, .int out.2.2.1])), ((u 0), .inl (cyI, 3, .inl out.2.2.2))]) 1 3 := by
  refine Met.ofW (cc := cX1_init) (maxL := 1) (ret := none) (by decide) rfl ?_
  intro p e s m args below meth c s₁ B hml hv
  obtain ⟨rfl, hN, hsz, hP, hK, hD0⟩ := hv
  have hx := B.exec
  have hb := B.bytes
  have hr := B.returns
  have hts := atoms_spec (ws := wsX1_init) B.pre
  have hown : s.vm.findClass RX1 = some m.cls := findClass_of_methodNamed B.named
  have hlocks := B.notSynchronized
  have hin : meth.name = "<init>" := (name_of_methodNamed B.named B.method).1
  subst hsz
  have hD := hD0.self (sz := s.heap.size)
  generalize hAe : va_A [(yp, .inr (1, [.null, .int 0, .long 0, .int 0]))] s.heap.size = A at hD ⊢
  have hA : ∀ q : Nat, s.heap.size ≤ q → A q := fun q h => by rw [← hAe]; exact Or.inr h
  have hS : va_S A s.heap s.heap [] := va_S.rf
  have hP : va_P (dC, dI) vwCl [(yp, .inr (1, [.null, .int 0, .long 0, .int 0]))] s.heap := hP
  have hl := lv_entry ([.ref yp]) (n := 1) (Nat.le_of_ble_eq_true rfl)
  rw [lg_entry_eq]
  generalize (lg_sl ([.ref yp]) ++ List.replicate (1 - (lg_sl ([.ref yp])).length) Slot.unset).toArray = ls at hl ⊢
  have hl : lv_has ls 1 [(0, .ref yp)] := hl
  unfold F_X1_init at hF
  refine lv_aload_n hx hb dX1_init_0 rfl (lv_at hl 0 rfl) ?_
  refine W.objInit hx hb hown (hts _ kX1_init_1) (hts _ kX1_init_2) (hts _ kX1_init_3) rfl (by rw [hml]; exact hl.1) rfl dX1_init_1 (Nat.le_of_ble_eq_true rfl) (Nat.le_of_ble_eq_true rfl) ?_
  refine W.eq (g2 := F0 m 4 ls []) rfl ?_
  refine lv_aload_n hx hb dX1_init_4 rfl (lv_at hl 0 rfl) ?_
  refine lv_iconst (v := 3) hx hb dX1_init_5 (by decide) ?_
  refine x_newi hx hb (hts _ kX1_init_4) hK hP hD hS hA 0 rfl 3 (by decide : (3 : Int32).toNatClampNeg = 3 ∧ ¬ (3 : Int32) < 0) (by decide) (Nat.le_of_ble_eq_true rfl) (Nat.le_of_ble_eq_true rfl) dX1_init_6 (fun q1 H hP hD hS => ?_)
  have hP : va_P (dC, dI) vwCl [(yp, .inr (1, [.null, .int 0, .long 0, .int 0])), (q1, .inl (cyI, 3, .inl (fun _ => 0)))] H := hP
  have hD : va_D A [(yp, .inr (1, [.null, .int 0, .long 0, .int 0])), (q1, .inl (cyI, 3, .inl (fun _ => 0)))] := hD
  refine lv_dup hx hb dX1_init_8 rfl ?_
  refine lv_iconst (v := 0) hx hb dX1_init_9 (by decide) ?_
  refine lv_sipush (v := 800) hx hb dX1_init_10 (by decide) ?_
  obtain ⟨v2, hv2, hF⟩ := lt_e hF
  refine x_iast (ws' := [(yp, .inr (1, [.null, .int 0, .long 0, .int 0])), (q1, .inl (cyI, 3, .inl v2))]) hx hb hK hP hD hS 1 0 rfl rfl (show (0 : Int32).toNatClampNeg = 0 by decide) (inbK (k := 0) (by decide) rfl) hv2 rfl dX1_init_13 (fun H locs hP hD hS => ?_)
  refine lv_dup hx hb dX1_init_14 rfl ?_
  refine lv_iconst (v := 1) hx hb dX1_init_15 (by decide) ?_
  refine lv_sipush (v := 500) hx hb dX1_init_16 (by decide) ?_
  obtain ⟨v3, hv3, hF⟩ := lt_e hF
  refine x_iast (ws' := [(yp, .inr (1, [.null, .int 0, .long 0, .int 0])), (q1, .inl (cyI, 3, .inl v3))]) hx hb hK hP hD hS 1 0 rfl rfl (show (1 : Int32).toNatClampNeg = 1 by decide) (inbK (k := 1) (by decide) rfl) hv3 rfl dX1_init_19 (fun H locs hP hD hS => ?_)
  refine lv_dup hx hb dX1_init_20 rfl ?_
  refine lv_iconst (v := 2) hx hb dX1_init_21 (by decide) ?_
  refine lv_iconst (v := 0) hx hb dX1_init_22 (by decide) ?_
  obtain ⟨v4, hv4, hF⟩ := lt_e hF
  refine x_iast (ws' := [(yp, .inr (1, [.null, .int 0, .long 0, .int 0])), (q1, .inl (cyI, 3, .inl v4))]) hx hb hK hP hD hS 1 0 rfl rfl (show (2 : Int32).toNatClampNeg = 2 by decide) (inbK (k := 2) (by decide) rfl) hv4 rfl dX1_init_23 (fun H locs hP hD hS => ?_)
  refine x_putF (D := (dC, dI)) (ci := 1) (v := .ref q1) (ty := tyX1 0) (C := RX1) (T := TX1) (N := 4) (ws' := [(yp, .inr (1, [.ref q1, .int 0, .long 0, .int 0])), (q1, .inl (cyI, 3, .inl v4))]) hx hb hts iX1_init_X1 tyX1 tyX1_ok nmX1 hown hK hP hD hS 0 rfl rfl 0 (by decide) (hts _ kX1_init_5) (fun _ h9 => h9) rfl hin rfl (by decide +kernel) rfl rfl (Nat.le_of_ble_eq_true rfl) rfl dX1_init_24 (fun H locs hP hD hS => ?_)
  refine lv_aload_n hx hb dX1_init_27 rfl (lv_at hl 0 rfl) ?_
  refine lv_iconst (v := 0) hx hb dX1_init_28 (by decide) ?_
  refine x_put (D := (dC, dI)) (ci := 1) (v := .int 0) (ty := .int) (C := RX1) (T := TX1) (N := 4) (ws' := [(yp, .inr (1, [.ref q1, .int 0, .long 0, .int 0])), (q1, .inl (cyI, 3, .inl v4))]) hx hb hts iX1_init_X1 tyX1 tyX1_ok nmX1 hown hK hP hD hS 0 rfl rfl 1 (by decide) (hts _ kX1_init_6) (fun _ h9 => h9) rfl (by decide +kernel) rfl rfl (Nat.le_of_ble_eq_true rfl) rfl dX1_init_29 (fun H locs hP hD hS => ?_)
  refine lv_aload_n hx hb dX1_init_32 rfl (lv_at hl 0 rfl) ?_
  refine lv_lconst (v := 1) hx hb dX1_init_33 (by decide) ?_
  refine x_put (D := (dC, dI)) (ci := 1) (v := .long 1) (ty := .long) (C := RX1) (T := TX1) (N := 4) (ws' := [(yp, .inr (1, [.ref q1, .int 0, .long 1, .int 0])), (q1, .inl (cyI, 3, .inl v4))]) hx hb hts iX1_init_X1 tyX1 tyX1_ok nmX1 hown hK hP hD hS 0 rfl rfl 2 (by decide) (hts _ kX1_init_7) (fun _ h9 => h9) rfl (by decide +kernel) rfl rfl (Nat.le_of_ble_eq_true rfl) rfl dX1_init_34 (fun H locs hP hD hS => ?_)
  refine lv_aload_n hx hb dX1_init_37 rfl (lv_at hl 0 rfl) ?_
  refine lv_iconst (v := 0) hx hb dX1_init_38 (by decide) ?_
  refine x_put (D := (dC, dI)) (ci := 1) (v := .int 0) (ty := .int) (C := RX1) (T := TX1) (N := 4) (ws' := [(yp, .inr (1, [.ref q1, .int 0, .long 1, .int 0])), (q1, .inl (cyI, 3, .inl v4))]) hx hb hts iX1_init_X1 tyX1 tyX1_ok nmX1 hown hK hP hD hS 0 rfl rfl 3 (by decide) (hts _ kX1_init_8) (fun _ h9 => h9) rfl (by decide +kernel) rfl rfl (Nat.le_of_ble_eq_true rfl) rfl dX1_init_39 (fun H locs hP hD hS => ?_)
  obtain rfl := some_e hF
  have hP9 := hP.sub (ws' := [(yp, .inr (1, [.ref q1, .int 0, .long 1, .int 0])), (q1, .inl (cyI, 3, .inl v4))]) [0, 1] rfl
  have hD9 := hD.sub (ws' := [(yp, .inr (1, [.ref q1, .int 0, .long 1, .int 0])), (q1, .inl (cyI, 3, .inl v4))]) [0, 1] (by decide) rfl
  refine W.widen (k := 1) (n := 3) (Nat.le_of_ble_eq_true rfl) (Nat.le_of_ble_eq_true rfl) ?_
  exact W.vret hx hb hr (fun t ht hW => ⟨⟨fun k => (([q1] : List Nat).getD k 0), rfl, trivial, by rw [ht]; exact hP9, va_K.moved hW.alike hK, hD9⟩, hS.F ht⟩) hS.2.2 dX1_init_42
def F_X3_init : Option (ST) := lt_ (α := Nat → Int32) (upd (fun _ => 0) 0 64880) (fun v2 => lt_ (α := Nat → Int32) (upd v2 1 2) (fun v3 => lt_ (α := Nat → Int32) (upd v3 2 1) (fun v4 => lt_ (α := Nat → Int32) (upd v4 3 8) (fun v5 => lt_ (α := Nat → Int32) (upd v5 4 500) (fun v6 => lt_ (α := Nat → Int32) (upd v6 5 0) (fun v7 => lt_ (α := Nat → Int32) (upd v7 6 3277) (fun v8 => ob (F_X0_init) (fun o11 => ob (F_X1_init) (fun o14 => some (v8, o11.1, o11.2.1, o11.2.2.1, o11.2.2.2.1, o11.2.2.2.2.1, o11.2.2.2.2.2.1, o11.2.2.2.2.2.2.1, o11.2.2.2.2.2.2.2.1, o11.2.2.2.2.2.2.2.2.1, o11.2.2.2.2.2.2.2.2.2, o14.1, o14.2.1, o14.2.2.1, o14.2.2.2))))))))))
theorem kX3_init_1 : (Cond.methodLink RX3 3 objectInit) ∈ wsX3_init := List.mem_of_getElem? (i := 1) rfl
theorem kX3_init_2 : (Cond.instanceMethod objectInit) ∈ wsX3_init := List.mem_of_getElem? (i := 2) rfl
theorem kX3_init_3 : (Cond.code objectInit ⟨#[0xb1]⟩ 1 none) ∈ wsX3_init := List.mem_of_getElem? (i := 3) rfl
theorem kX3_init_4 : (Cond.arrayClass .int) ∈ wsX3_init := List.mem_of_getElem? (i := 4) rfl
theorem kX3_init_5 : (Cond.constant RX3 9 (64880)) ∈ wsX3_init := List.mem_of_getElem? (i := 5) rfl
theorem kX3_init_6 : (Cond.fieldLink RX3 10 "SelfTuner$State" "settings" "[I") ∈ wsX3_init := List.mem_of_getElem? (i := 6) rfl
theorem kX3_init_7 : (Cond.classLink RX3 16 RX0) ∈ wsX3_init := List.mem_of_getElem? (i := 7) rfl
theorem kX3_init_8 : (Cond.instantiable RX0 8) ∈ wsX3_init := List.mem_of_getElem? (i := 8) rfl
theorem kX3_init_9 : (Cond.initialized RX0) ∈ wsX3_init := List.mem_of_getElem? (i := 9) rfl
theorem kX3_init_10 : (Cond.fieldLink RX3 19 "SelfTuner$State" "estimator" "LSelfTuner$Estimator;") ∈ wsX3_init := List.mem_of_getElem? (i := 10) rfl
theorem kX3_init_11 : (Cond.classLink RX3 23 RX1) ∈ wsX3_init := List.mem_of_getElem? (i := 11) rfl
theorem kX3_init_12 : (Cond.instantiable RX1 4) ∈ wsX3_init := List.mem_of_getElem? (i := 12) rfl
theorem kX3_init_13 : (Cond.initialized RX1) ∈ wsX3_init := List.mem_of_getElem? (i := 13) rfl
theorem kX3_init_14 : (Cond.fieldLink RX3 26 "SelfTuner$State" "plant" "LSelfTuner$Plant;") ∈ wsX3_init := List.mem_of_getElem? (i := 14) rfl
theorem kX3_init_15 : (Cond.instanceMethod yX0_init) ∈ wsX3_init := List.mem_of_getElem? (i := 15) rfl
theorem kX3_init_55 : (Cond.instanceMethod yX1_init) ∈ wsX3_init := List.mem_of_getElem? (i := 55) rfl
theorem iX3_init_X0 : ∀ w ∈ wsX00, w ∈ wsX3_init := fun w h => List.mem_cons_of_mem _ (List.mem_append_left _ (List.mem_append_left _ (List.mem_append_right _ h)))
theorem iX3_init_X1 : ∀ w ∈ wsX10, w ∈ wsX3_init := fun w h => List.mem_cons_of_mem _ (List.mem_append_left _ (List.mem_append_right _ h))
theorem iX3_init_X3 : ∀ w ∈ wsX30, w ∈ wsX3_init := fun w h => List.mem_cons_of_mem _ (List.mem_append_left _ (List.mem_append_left _ (List.mem_append_left _ (List.mem_append_right _ h))))
set_option maxHeartbeats 4000000 in
set_option maxRecDepth 100000 in
theorem c_X3_init (l : Launch) (dC : Nat → ClassId) (dI : Nat → Nat → Nat) (cyI cyJ cyB cyS cyD : ClassId) (ys : Nat) (sz : Nat) {out : ST} (hF : F_X3_init = some out) : Mn l yX3_init wsX3_init ({ frames := 4, cells := 14, slots := 94, locals := 91 } : Room) (dC, dI) [(cyI, .int), (cyJ, .long), (cyB, .byte), (cyS, .object "SelfTuner$State"), (cyD, .double)] sz [.ref ys] [(ys, .inr (3, [.null, .null, .null]))] (fun (u : Nat → Nat) => [(ys, .inr (3, [.ref (u 0), .ref (u 1), .ref (u 12)])), ((u 0), .inl (cyI, 7, .inl out.1)), ((u 1), .inr (0, [.ref (u 2), .ref (u 3), .ref (u 4), .ref (u 5), .ref (u 6), .ref (u 9), .ref (u 7), .ref (u 8)])), ((u 2), .inl (cyI, 3, .inl out.2.1)), ((u 3), .inl (cyI, 3, .inl out.2.2.1)), ((u 4), .inl (cyI, 3, .inl out.2.2.2.1)), ((u 5), .inl (cyJ, 9, .inr (.inl out.2.2.2.2.1))), ((u 6), .inl (cyI, 5, .inl out.2.2.2.2.2.1)), ((u 7), .inl (cyJ, 3, .inr (.inl out.2.2.2.2.2.2.1))), ((u 8), .inl (cyJ, 3, .inr (.inl out.2.2.2.2.2.2.2.1))), ((u 9), .inr (4, [.ref (u 10), .ref (u 11), .int out.2.2.2.2.2.2.2.2.1])), ((u 10), .inl (cyI, 20, .inl out.2.2.2.2.2.2.2.2.2.1)), ((u 11), .inl (cyI, 20, .inl out.2.2.2.2.2.2.2.2.2.2.1)), ((u 12), .inr (1, [.ref (u 13), .int out.2.2.2.2.2.2.2.2.2.2.2.1, .long out.2.2.2.2.2.2.2.2.2.2.2.2.1, .int out.2.2.2.2.2.2.2.2.2.2.2.2.2.1])), ((u 13), .inl (cyI, 3, .inl out.2.2.2.2.2.2.2.2.2.2.2.2.2.2))]) 14 94 := by
  refine Met.ofW (cc := cX3_init) (maxL := 1) (ret := none) (by decide) rfl ?_
  intro p e s m args below meth c s₁ B hml hv
  obtain ⟨rfl, hN, hsz, hP, hK, hD0⟩ := hv
  have hx := B.exec
  have hb := B.bytes
  have hr := B.returns
  have hts := atoms_spec (ws := wsX3_init) B.pre
  have hown : s.vm.findClass RX3 = some m.cls := findClass_of_methodNamed B.named
  have hlocks := B.notSynchronized
  have hin : meth.name = "<init>" := (name_of_methodNamed B.named B.method).1
  subst hsz
  have hD := hD0.self (sz := s.heap.size)
  generalize hAe : va_A [(ys, .inr (3, [.null, .null, .null]))] s.heap.size = A at hD ⊢
  have hA : ∀ q : Nat, s.heap.size ≤ q → A q := fun q h => by rw [← hAe]; exact Or.inr h
  have hS : va_S A s.heap s.heap [] := va_S.rf
  have hP : va_P (dC, dI) vwCl [(ys, .inr (3, [.null, .null, .null]))] s.heap := hP
  have hl := lv_entry ([.ref ys]) (n := 1) (Nat.le_of_ble_eq_true rfl)
  rw [lg_entry_eq]
  generalize (lg_sl ([.ref ys]) ++ List.replicate (1 - (lg_sl ([.ref ys])).length) Slot.unset).toArray = ls at hl ⊢
  have hl : lv_has ls 1 [(0, .ref ys)] := hl
  unfold F_X3_init at hF
  refine lv_aload_n hx hb dX3_init_0 rfl (lv_at hl 0 rfl) ?_
  refine W.objInit hx hb hown (hts _ kX3_init_1) (hts _ kX3_init_2) (hts _ kX3_init_3) rfl (by rw [hml]; exact hl.1) rfl dX3_init_1 (Nat.le_of_ble_eq_true rfl) (Nat.le_of_ble_eq_true rfl) ?_
  refine W.eq (g2 := F0 m 4 ls []) rfl ?_
  refine lv_aload_n hx hb dX3_init_4 rfl (lv_at hl 0 rfl) ?_
  refine lv_bipush (v := 7) hx hb dX3_init_5 (by decide) ?_
  refine x_newi hx hb (hts _ kX3_init_4) hK hP hD hS hA 0 rfl 7 (by decide : (7 : Int32).toNatClampNeg = 7 ∧ ¬ (7 : Int32) < 0) (by decide) (Nat.le_of_ble_eq_true rfl) (Nat.le_of_ble_eq_true rfl) dX3_init_7 (fun q1 H hP hD hS => ?_)
  have hP : va_P (dC, dI) vwCl [(ys, .inr (3, [.null, .null, .null])), (q1, .inl (cyI, 7, .inl (fun _ => 0)))] H := hP
  have hD : va_D A [(ys, .inr (3, [.null, .null, .null])), (q1, .inl (cyI, 7, .inl (fun _ => 0)))] := hD
  refine lv_dup hx hb dX3_init_9 rfl ?_
  refine lv_iconst (v := 0) hx hb dX3_init_10 (by decide) ?_
  refine lv_ldc (v := 64880) hx hb hown (hts _ kX3_init_5) dX3_init_11 ?_
  obtain ⟨v2, hv2, hF⟩ := lt_e hF
  refine x_iast (ws' := [(ys, .inr (3, [.null, .null, .null])), (q1, .inl (cyI, 7, .inl v2))]) hx hb hK hP hD hS 1 0 rfl rfl (show (0 : Int32).toNatClampNeg = 0 by decide) (inbK (k := 0) (by decide) rfl) hv2 rfl dX3_init_13 (fun H locs hP hD hS => ?_)
  refine lv_dup hx hb dX3_init_14 rfl ?_
  refine lv_iconst (v := 1) hx hb dX3_init_15 (by decide) ?_
  refine lv_iconst (v := 2) hx hb dX3_init_16 (by decide) ?_
  obtain ⟨v3, hv3, hF⟩ := lt_e hF
  refine x_iast (ws' := [(ys, .inr (3, [.null, .null, .null])), (q1, .inl (cyI, 7, .inl v3))]) hx hb hK hP hD hS 1 0 rfl rfl (show (1 : Int32).toNatClampNeg = 1 by decide) (inbK (k := 1) (by decide) rfl) hv3 rfl dX3_init_17 (fun H locs hP hD hS => ?_)
  refine lv_dup hx hb dX3_init_18 rfl ?_
  refine lv_iconst (v := 2) hx hb dX3_init_19 (by decide) ?_
  refine lv_iconst (v := 1) hx hb dX3_init_20 (by decide) ?_
  obtain ⟨v4, hv4, hF⟩ := lt_e hF
  refine x_iast (ws' := [(ys, .inr (3, [.null, .null, .null])), (q1, .inl (cyI, 7, .inl v4))]) hx hb hK hP hD hS 1 0 rfl rfl (show (2 : Int32).toNatClampNeg = 2 by decide) (inbK (k := 2) (by decide) rfl) hv4 rfl dX3_init_21 (fun H locs hP hD hS => ?_)
  refine lv_dup hx hb dX3_init_22 rfl ?_
  refine lv_iconst (v := 3) hx hb dX3_init_23 (by decide) ?_
  refine lv_bipush (v := 8) hx hb dX3_init_24 (by decide) ?_
  obtain ⟨v5, hv5, hF⟩ := lt_e hF
  refine x_iast (ws' := [(ys, .inr (3, [.null, .null, .null])), (q1, .inl (cyI, 7, .inl v5))]) hx hb hK hP hD hS 1 0 rfl rfl (show (3 : Int32).toNatClampNeg = 3 by decide) (inbK (k := 3) (by decide) rfl) hv5 rfl dX3_init_26 (fun H locs hP hD hS => ?_)
  refine lv_dup hx hb dX3_init_27 rfl ?_
  refine lv_iconst (v := 4) hx hb dX3_init_28 (by decide) ?_
  refine lv_sipush (v := 500) hx hb dX3_init_29 (by decide) ?_
  obtain ⟨v6, hv6, hF⟩ := lt_e hF
  refine x_iast (ws' := [(ys, .inr (3, [.null, .null, .null])), (q1, .inl (cyI, 7, .inl v6))]) hx hb hK hP hD hS 1 0 rfl rfl (show (4 : Int32).toNatClampNeg = 4 by decide) (inbK (k := 4) (by decide) rfl) hv6 rfl dX3_init_32 (fun H locs hP hD hS => ?_)
  refine lv_dup hx hb dX3_init_33 rfl ?_
  refine lv_iconst (v := 5) hx hb dX3_init_34 (by decide) ?_
  refine lv_iconst (v := 0) hx hb dX3_init_35 (by decide) ?_
  obtain ⟨v7, hv7, hF⟩ := lt_e hF
  refine x_iast (ws' := [(ys, .inr (3, [.null, .null, .null])), (q1, .inl (cyI, 7, .inl v7))]) hx hb hK hP hD hS 1 0 rfl rfl (show (5 : Int32).toNatClampNeg = 5 by decide) (inbK (k := 5) (by decide) rfl) hv7 rfl dX3_init_36 (fun H locs hP hD hS => ?_)
  refine lv_dup hx hb dX3_init_37 rfl ?_
  refine lv_bipush (v := 6) hx hb dX3_init_38 (by decide) ?_
  refine lv_sipush (v := 3277) hx hb dX3_init_40 (by decide) ?_
  obtain ⟨v8, hv8, hF⟩ := lt_e hF
  refine x_iast (ws' := [(ys, .inr (3, [.null, .null, .null])), (q1, .inl (cyI, 7, .inl v8))]) hx hb hK hP hD hS 1 0 rfl rfl (show (6 : Int32).toNatClampNeg = 6 by decide) (inbK (k := 6) (by decide) rfl) hv8 rfl dX3_init_43 (fun H locs hP hD hS => ?_)
  refine x_putF (D := (dC, dI)) (ci := 3) (v := .ref q1) (ty := tyX3 0) (C := RX3) (T := TX3) (N := 3) (ws' := [(ys, .inr (3, [.ref q1, .null, .null])), (q1, .inl (cyI, 7, .inl v8))]) hx hb hts iX3_init_X3 tyX3 tyX3_ok nmX3 hown hK hP hD hS 0 rfl rfl 0 (by decide) (hts _ kX3_init_6) (fun _ h9 => h9) rfl hin rfl (by decide +kernel) rfl rfl (Nat.le_of_ble_eq_true rfl) rfl dX3_init_44 (fun H locs hP hD hS => ?_)
  refine lv_aload_n hx hb dX3_init_47 rfl (lv_at hl 0 rfl) ?_
  refine va_new (ci := 0) (fs := [.null, .null, .null, .null, .null, .null, .null, .null]) (C := RX0) (T := TX0) (N := 8) hx hb hts iX3_init_X0 tyX0 tyX0_ok hown (hts _ kX3_init_7) (hts _ kX3_init_8) (hts _ kX3_init_9) hK hP hD hS hA rfl (fun j hj => by rcases (show j = 0 ∨ j = 1 ∨ j = 2 ∨ j = 3 ∨ j = 4 ∨ j = 5 ∨ j = 6 ∨ j = 7 by omega) with rfl | rfl | rfl | rfl | rfl | rfl | rfl | rfl <;> rfl) (Nat.le_of_ble_eq_true rfl) (Nat.le_of_ble_eq_true rfl) dX3_init_48 (fun q9 H hP hD hS => ?_)
  have hP : va_P (dC, dI) vwCl [(ys, .inr (3, [.ref q1, .null, .null])), (q1, .inl (cyI, 7, .inl v8)), (q9, .inr (0, [.null, .null, .null, .null, .null, .null, .null, .null]))] H := hP
  have hD : va_D A [(ys, .inr (3, [.ref q1, .null, .null])), (q1, .inl (cyI, 7, .inl v8)), (q9, .inr (0, [.null, .null, .null, .null, .null, .null, .null, .null]))] := hD
  refine lv_dup hx hb dX3_init_51 rfl ?_
  obtain ⟨o11, ho11, hF⟩ := ob_e hF
  refine x_calln (wr := [(ys, .inr (3, [.ref q1, .null, .null])), (q1, .inl (cyI, 7, .inl v8))]) (va_runIN (As := []) (rest := [.ref q9, .ref ys]) ⟨hx, hb, hml, hown, hts⟩ (c_X0_init l dC dI cyI cyJ cyB cyS cyD q9 H.size ho11) ⟨va_cnB 0 hts gX3_init_X0_init_n18 rfl rfl rfl (nm_X3_18 hN) (hts _ kX3_init_9) (by decide +kernel) ⟨(Nat.le_of_ble_eq_true rfl), (Nat.le_of_ble_eq_true rfl)⟩, rfl, hts _ kX3_init_15⟩ ⟨cPre_blind, x_pre hN hP hD hK [2] rfl rfl⟩ rfl rfl hl.1 rfl (lv_room (Nat.le_of_ble_eq_true rfl)) dX3_init_52 ⟨(Nat.le_of_ble_eq_true rfl), (Nat.le_of_ble_eq_true rfl)⟩) hP hD hS hA [2] [0, 1] rfl rfl rfl (by decide) (fun u10 H locs hP hD hS => ?_)
  have hP : va_P (dC, dI) vwCl [(ys, .inr (3, [.ref q1, .null, .null])), (q1, .inl (cyI, 7, .inl v8)), (q9, .inr (0, [.ref (u10 0), .ref (u10 1), .ref (u10 2), .ref (u10 3), .ref (u10 4), .ref (u10 7), .ref (u10 5), .ref (u10 6)])), ((u10 0), .inl (cyI, 3, .inl o11.1)), ((u10 1), .inl (cyI, 3, .inl o11.2.1)), ((u10 2), .inl (cyI, 3, .inl o11.2.2.1)), ((u10 3), .inl (cyJ, 9, .inr (.inl o11.2.2.2.1))), ((u10 4), .inl (cyI, 5, .inl o11.2.2.2.2.1)), ((u10 5), .inl (cyJ, 3, .inr (.inl o11.2.2.2.2.2.1))), ((u10 6), .inl (cyJ, 3, .inr (.inl o11.2.2.2.2.2.2.1))), ((u10 7), .inr (4, [.ref (u10 8), .ref (u10 9), .int o11.2.2.2.2.2.2.2.1])), ((u10 8), .inl (cyI, 20, .inl o11.2.2.2.2.2.2.2.2.1)), ((u10 9), .inl (cyI, 20, .inl o11.2.2.2.2.2.2.2.2.2))] H := hP
  have hD : va_D A [(ys, .inr (3, [.ref q1, .null, .null])), (q1, .inl (cyI, 7, .inl v8)), (q9, .inr (0, [.ref (u10 0), .ref (u10 1), .ref (u10 2), .ref (u10 3), .ref (u10 4), .ref (u10 7), .ref (u10 5), .ref (u10 6)])), ((u10 0), .inl (cyI, 3, .inl o11.1)), ((u10 1), .inl (cyI, 3, .inl o11.2.1)), ((u10 2), .inl (cyI, 3, .inl o11.2.2.1)), ((u10 3), .inl (cyJ, 9, .inr (.inl o11.2.2.2.1))), ((u10 4), .inl (cyI, 5, .inl o11.2.2.2.2.1)), ((u10 5), .inl (cyJ, 3, .inr (.inl o11.2.2.2.2.2.1))), ((u10 6), .inl (cyJ, 3, .inr (.inl o11.2.2.2.2.2.2.1))), ((u10 7), .inr (4, [.ref (u10 8), .ref (u10 9), .int o11.2.2.2.2.2.2.2.1])), ((u10 8), .inl (cyI, 20, .inl o11.2.2.2.2.2.2.2.2.1)), ((u10 9), .inl (cyI, 20, .inl o11.2.2.2.2.2.2.2.2.2))] := hD
  refine x_putF (D := (dC, dI)) (ci := 3) (v := .ref q9) (ty := tyX3 1) (C := RX3) (T := TX3) (N := 3) (ws' := [(ys, .inr (3, [.ref q1, .ref q9, .null])), (q1, .inl (cyI, 7, .inl v8)), (q9, .inr (0, [.ref (u10 0), .ref (u10 1), .ref (u10 2), .ref (u10 3), .ref (u10 4), .ref (u10 7), .ref (u10 5), .ref (u10 6)])), ((u10 0), .inl (cyI, 3, .inl o11.1)), ((u10 1), .inl (cyI, 3, .inl o11.2.1)), ((u10 2), .inl (cyI, 3, .inl o11.2.2.1)), ((u10 3), .inl (cyJ, 9, .inr (.inl o11.2.2.2.1))), ((u10 4), .inl (cyI, 5, .inl o11.2.2.2.2.1)), ((u10 5), .inl (cyJ, 3, .inr (.inl o11.2.2.2.2.2.1))), ((u10 6), .inl (cyJ, 3, .inr (.inl o11.2.2.2.2.2.2.1))), ((u10 7), .inr (4, [.ref (u10 8), .ref (u10 9), .int o11.2.2.2.2.2.2.2.1])), ((u10 8), .inl (cyI, 20, .inl o11.2.2.2.2.2.2.2.2.1)), ((u10 9), .inl (cyI, 20, .inl o11.2.2.2.2.2.2.2.2.2))]) hx hb hts iX3_init_X3 tyX3 tyX3_ok nmX3 hown hK hP hD hS 0 rfl rfl 1 (by decide) (hts _ kX3_init_10) (fun _ h9 => h9) rfl hin rfl (by decide +kernel) rfl rfl (Nat.le_of_ble_eq_true rfl) rfl dX3_init_55 (fun H locs hP hD hS => ?_)
  refine lv_aload_n hx hb dX3_init_58 rfl (lv_at hl 0 rfl) ?_
  refine va_new (ci := 1) (fs := [.null, .int 0, .long 0, .int 0]) (C := RX1) (T := TX1) (N := 4) hx hb hts iX3_init_X1 tyX1 tyX1_ok hown (hts _ kX3_init_11) (hts _ kX3_init_12) (hts _ kX3_init_13) hK hP hD hS hA rfl (fun j hj => by rcases (show j = 0 ∨ j = 1 ∨ j = 2 ∨ j = 3 by omega) with rfl | rfl | rfl | rfl <;> rfl) (Nat.le_of_ble_eq_true rfl) (Nat.le_of_ble_eq_true rfl) dX3_init_59 (fun q12 H hP hD hS => ?_)
  have hP : va_P (dC, dI) vwCl [(ys, .inr (3, [.ref q1, .ref q9, .null])), (q1, .inl (cyI, 7, .inl v8)), (q9, .inr (0, [.ref (u10 0), .ref (u10 1), .ref (u10 2), .ref (u10 3), .ref (u10 4), .ref (u10 7), .ref (u10 5), .ref (u10 6)])), ((u10 0), .inl (cyI, 3, .inl o11.1)), ((u10 1), .inl (cyI, 3, .inl o11.2.1)), ((u10 2), .inl (cyI, 3, .inl o11.2.2.1)), ((u10 3), .inl (cyJ, 9, .inr (.inl o11.2.2.2.1))), ((u10 4), .inl (cyI, 5, .inl o11.2.2.2.2.1)), ((u10 5), .inl (cyJ, 3, .inr (.inl o11.2.2.2.2.2.1))), ((u10 6), .inl (cyJ, 3, .inr (.inl o11.2.2.2.2.2.2.1))), ((u10 7), .inr (4, [.ref (u10 8), .ref (u10 9), .int o11.2.2.2.2.2.2.2.1])), ((u10 8), .inl (cyI, 20, .inl o11.2.2.2.2.2.2.2.2.1)), ((u10 9), .inl (cyI, 20, .inl o11.2.2.2.2.2.2.2.2.2)), (q12, .inr (1, [.null, .int 0, .long 0, .int 0]))] H := hP
  have hD : va_D A [(ys, .inr (3, [.ref q1, .ref q9, .null])), (q1, .inl (cyI, 7, .inl v8)), (q9, .inr (0, [.ref (u10 0), .ref (u10 1), .ref (u10 2), .ref (u10 3), .ref (u10 4), .ref (u10 7), .ref (u10 5), .ref (u10 6)])), ((u10 0), .inl (cyI, 3, .inl o11.1)), ((u10 1), .inl (cyI, 3, .inl o11.2.1)), ((u10 2), .inl (cyI, 3, .inl o11.2.2.1)), ((u10 3), .inl (cyJ, 9, .inr (.inl o11.2.2.2.1))), ((u10 4), .inl (cyI, 5, .inl o11.2.2.2.2.1)), ((u10 5), .inl (cyJ, 3, .inr (.inl o11.2.2.2.2.2.1))), ((u10 6), .inl (cyJ, 3, .inr (.inl o11.2.2.2.2.2.2.1))), ((u10 7), .inr (4, [.ref (u10 8), .ref (u10 9), .int o11.2.2.2.2.2.2.2.1])), ((u10 8), .inl (cyI, 20, .inl o11.2.2.2.2.2.2.2.2.1)), ((u10 9), .inl (cyI, 20, .inl o11.2.2.2.2.2.2.2.2.2)), (q12, .inr (1, [.null, .int 0, .long 0, .int 0]))] := hD
  refine lv_dup hx hb dX3_init_62 rfl ?_
  obtain ⟨o14, ho14, hF⟩ := ob_e hF
  refine x_calln (wr := [(ys, .inr (3, [.ref q1, .ref q9, .null])), (q1, .inl (cyI, 7, .inl v8)), (q9, .inr (0, [.ref (u10 0), .ref (u10 1), .ref (u10 2), .ref (u10 3), .ref (u10 4), .ref (u10 7), .ref (u10 5), .ref (u10 6)])), ((u10 0), .inl (cyI, 3, .inl o11.1)), ((u10 1), .inl (cyI, 3, .inl o11.2.1)), ((u10 2), .inl (cyI, 3, .inl o11.2.2.1)), ((u10 3), .inl (cyJ, 9, .inr (.inl o11.2.2.2.1))), ((u10 4), .inl (cyI, 5, .inl o11.2.2.2.2.1)), ((u10 5), .inl (cyJ, 3, .inr (.inl o11.2.2.2.2.2.1))), ((u10 6), .inl (cyJ, 3, .inr (.inl o11.2.2.2.2.2.2.1))), ((u10 7), .inr (4, [.ref (u10 8), .ref (u10 9), .int o11.2.2.2.2.2.2.2.1])), ((u10 8), .inl (cyI, 20, .inl o11.2.2.2.2.2.2.2.2.1)), ((u10 9), .inl (cyI, 20, .inl o11.2.2.2.2.2.2.2.2.2))]) (va_runIN (As := []) (rest := [.ref q12, .ref ys]) ⟨hx, hb, hml, hown, hts⟩ (c_X1_init l dC dI cyI cyJ cyB cyS cyD q12 H.size ho14) ⟨va_cnB 0 hts gX3_init_X1_init_n25 rfl rfl rfl (nm_X3_25 hN) (hts _ kX3_init_13) (by decide +kernel) ⟨(Nat.le_of_ble_eq_true rfl), (Nat.le_of_ble_eq_true rfl)⟩, rfl, hts _ kX3_init_55⟩ ⟨cPre_blind, x_pre hN hP hD hK [13] rfl rfl⟩ rfl rfl hl.1 rfl (lv_room (Nat.le_of_ble_eq_true rfl)) dX3_init_63 ⟨(Nat.le_of_ble_eq_true rfl), (Nat.le_of_ble_eq_true rfl)⟩) hP hD hS hA [13] [0, 1, 2, 3, 4, 5, 6, 7, 8, 9, 10, 11, 12] rfl rfl rfl (by decide) (fun u13 H locs hP hD hS => ?_)
  have hP : va_P (dC, dI) vwCl [(ys, .inr (3, [.ref q1, .ref q9, .null])), (q1, .inl (cyI, 7, .inl v8)), (q9, .inr (0, [.ref (u10 0), .ref (u10 1), .ref (u10 2), .ref (u10 3), .ref (u10 4), .ref (u10 7), .ref (u10 5), .ref (u10 6)])), ((u10 0), .inl (cyI, 3, .inl o11.1)), ((u10 1), .inl (cyI, 3, .inl o11.2.1)), ((u10 2), .inl (cyI, 3, .inl o11.2.2.1)), ((u10 3), .inl (cyJ, 9, .inr (.inl o11.2.2.2.1))), ((u10 4), .inl (cyI, 5, .inl o11.2.2.2.2.1)), ((u10 5), .inl (cyJ, 3, .inr (.inl o11.2.2.2.2.2.1))), ((u10 6), .inl (cyJ, 3, .inr (.inl o11.2.2.2.2.2.2.1))), ((u10 7), .inr (4, [.ref (u10 8), .ref (u10 9), .int o11.2.2.2.2.2.2.2.1])), ((u10 8), .inl (cyI, 20, .inl o11.2.2.2.2.2.2.2.2.1)), ((u10 9), .inl (cyI, 20, .inl o11.2.2.2.2.2.2.2.2.2)), (q12, .inr (1, [.ref (u13 0), .int o14.1, .long o14.2.1, .int o14.2.2.1])), ((u13 0), .inl (cyI, 3, .inl o14.2.2.2))] H := hP
  have hD : va_D A [(ys, .inr (3, [.ref q1, .ref q9, .null])), (q1, .inl (cyI, 7, .inl v8)), (q9, .inr (0, [.ref (u10 0), .ref (u10 1), .ref (u10 2), .ref (u10 3), .ref (u10 4), .ref (u10 7), .ref (u10 5), .ref (u10 6)])), ((u10 0), .inl (cyI, 3, .inl o11.1)), ((u10 1), .inl (cyI, 3, .inl o11.2.1)), ((u10 2), .inl (cyI, 3, .inl o11.2.2.1)), ((u10 3), .inl (cyJ, 9, .inr (.inl o11.2.2.2.1))), ((u10 4), .inl (cyI, 5, .inl o11.2.2.2.2.1)), ((u10 5), .inl (cyJ, 3, .inr (.inl o11.2.2.2.2.2.1))), ((u10 6), .inl (cyJ, 3, .inr (.inl o11.2.2.2.2.2.2.1))), ((u10 7), .inr (4, [.ref (u10 8), .ref (u10 9), .int o11.2.2.2.2.2.2.2.1])), ((u10 8), .inl (cyI, 20, .inl o11.2.2.2.2.2.2.2.2.1)), ((u10 9), .inl (cyI, 20, .inl o11.2.2.2.2.2.2.2.2.2)), (q12, .inr (1, [.ref (u13 0), .int o14.1, .long o14.2.1, .int o14.2.2.1])), ((u13 0), .inl (cyI, 3, .inl o14.2.2.2))] := hD
  refine x_putF (D := (dC, dI)) (ci := 3) (v := .ref q12) (ty := tyX3 2) (C := RX3) (T := TX3) (N := 3) (ws' := [(ys, .inr (3, [.ref q1, .ref q9, .ref q12])), (q1, .inl (cyI, 7, .inl v8)), (q9, .inr (0, [.ref (u10 0), .ref (u10 1), .ref (u10 2), .ref (u10 3), .ref (u10 4), .ref (u10 7), .ref (u10 5), .ref (u10 6)])), ((u10 0), .inl (cyI, 3, .inl o11.1)), ((u10 1), .inl (cyI, 3, .inl o11.2.1)), ((u10 2), .inl (cyI, 3, .inl o11.2.2.1)), ((u10 3), .inl (cyJ, 9, .inr (.inl o11.2.2.2.1))), ((u10 4), .inl (cyI, 5, .inl o11.2.2.2.2.1)), ((u10 5), .inl (cyJ, 3, .inr (.inl o11.2.2.2.2.2.1))), ((u10 6), .inl (cyJ, 3, .inr (.inl o11.2.2.2.2.2.2.1))), ((u10 7), .inr (4, [.ref (u10 8), .ref (u10 9), .int o11.2.2.2.2.2.2.2.1])), ((u10 8), .inl (cyI, 20, .inl o11.2.2.2.2.2.2.2.2.1)), ((u10 9), .inl (cyI, 20, .inl o11.2.2.2.2.2.2.2.2.2)), (q12, .inr (1, [.ref (u13 0), .int o14.1, .long o14.2.1, .int o14.2.2.1])), ((u13 0), .inl (cyI, 3, .inl o14.2.2.2))]) hx hb hts iX3_init_X3 tyX3 tyX3_ok nmX3 hown hK hP hD hS 0 rfl rfl 2 (by decide) (hts _ kX3_init_14) (fun _ h9 => h9) rfl hin rfl (by decide +kernel) rfl rfl (Nat.le_of_ble_eq_true rfl) rfl dX3_init_66 (fun H locs hP hD hS => ?_)
  obtain rfl := some_e hF
  have hP9 := hP.sub (ws' := [(ys, .inr (3, [.ref q1, .ref q9, .ref q12])), (q1, .inl (cyI, 7, .inl v8)), (q9, .inr (0, [.ref (u10 0), .ref (u10 1), .ref (u10 2), .ref (u10 3), .ref (u10 4), .ref (u10 7), .ref (u10 5), .ref (u10 6)])), ((u10 0), .inl (cyI, 3, .inl o11.1)), ((u10 1), .inl (cyI, 3, .inl o11.2.1)), ((u10 2), .inl (cyI, 3, .inl o11.2.2.1)), ((u10 3), .inl (cyJ, 9, .inr (.inl o11.2.2.2.1))), ((u10 4), .inl (cyI, 5, .inl o11.2.2.2.2.1)), ((u10 5), .inl (cyJ, 3, .inr (.inl o11.2.2.2.2.2.1))), ((u10 6), .inl (cyJ, 3, .inr (.inl o11.2.2.2.2.2.2.1))), ((u10 7), .inr (4, [.ref (u10 8), .ref (u10 9), .int o11.2.2.2.2.2.2.2.1])), ((u10 8), .inl (cyI, 20, .inl o11.2.2.2.2.2.2.2.2.1)), ((u10 9), .inl (cyI, 20, .inl o11.2.2.2.2.2.2.2.2.2)), (q12, .inr (1, [.ref (u13 0), .int o14.1, .long o14.2.1, .int o14.2.2.1])), ((u13 0), .inl (cyI, 3, .inl o14.2.2.2))]) [0, 1, 2, 3, 4, 5, 6, 7, 8, 9, 10, 11, 12, 13, 14] rfl
  have hD9 := hD.sub (ws' := [(ys, .inr (3, [.ref q1, .ref q9, .ref q12])), (q1, .inl (cyI, 7, .inl v8)), (q9, .inr (0, [.ref (u10 0), .ref (u10 1), .ref (u10 2), .ref (u10 3), .ref (u10 4), .ref (u10 7), .ref (u10 5), .ref (u10 6)])), ((u10 0), .inl (cyI, 3, .inl o11.1)), ((u10 1), .inl (cyI, 3, .inl o11.2.1)), ((u10 2), .inl (cyI, 3, .inl o11.2.2.1)), ((u10 3), .inl (cyJ, 9, .inr (.inl o11.2.2.2.1))), ((u10 4), .inl (cyI, 5, .inl o11.2.2.2.2.1)), ((u10 5), .inl (cyJ, 3, .inr (.inl o11.2.2.2.2.2.1))), ((u10 6), .inl (cyJ, 3, .inr (.inl o11.2.2.2.2.2.2.1))), ((u10 7), .inr (4, [.ref (u10 8), .ref (u10 9), .int o11.2.2.2.2.2.2.2.1])), ((u10 8), .inl (cyI, 20, .inl o11.2.2.2.2.2.2.2.2.1)), ((u10 9), .inl (cyI, 20, .inl o11.2.2.2.2.2.2.2.2.2)), (q12, .inr (1, [.ref (u13 0), .int o14.1, .long o14.2.1, .int o14.2.2.1])), ((u13 0), .inl (cyI, 3, .inl o14.2.2.2))]) [0, 1, 2, 3, 4, 5, 6, 7, 8, 9, 10, 11, 12, 13, 14] (by decide) rfl
  refine W.widen (k := 14) (n := 94) (Nat.le_of_ble_eq_true rfl) (Nat.le_of_ble_eq_true rfl) ?_
  exact W.vret hx hb hr (fun t ht hW => ⟨⟨fun k => (([q1, q9, (u10 0), (u10 1), (u10 2), (u10 3), (u10 4), (u10 5), (u10 6), (u10 7), (u10 8), (u10 9), q12, (u13 0)] : List Nat).getD k 0), rfl, trivial, by rw [ht]; exact hP9, va_K.moved hW.alike hK, hD9⟩, hS.F ht⟩) hS.2.2 dX3_init_69
def F_X2_init : Option (Int32 × Int32 × Int32 × (Nat → Int32) × (Nat → Int32)) := some (0, 0, 0, (fun _ => 0), (fun _ => 0))
theorem kX2_init_1 : (Cond.methodLink RX2 3 objectInit) ∈ wsX2_init := List.mem_of_getElem? (i := 1) rfl
theorem kX2_init_2 : (Cond.instanceMethod objectInit) ∈ wsX2_init := List.mem_of_getElem? (i := 2) rfl
theorem kX2_init_3 : (Cond.code objectInit ⟨#[0xb1]⟩ 1 none) ∈ wsX2_init := List.mem_of_getElem? (i := 3) rfl
theorem kX2_init_4 : (Cond.arrayClass .byte) ∈ wsX2_init := List.mem_of_getElem? (i := 4) rfl
theorem kX2_init_5 : (Cond.fieldLink RX2 9 "SelfTuner$SampleText" "bytes" "[B") ∈ wsX2_init := List.mem_of_getElem? (i := 5) rfl
theorem kX2_init_6 : (Cond.fieldLink RX2 15 "SelfTuner$SampleText" "length" "I") ∈ wsX2_init := List.mem_of_getElem? (i := 6) rfl
theorem kX2_init_7 : (Cond.arrayClass .int) ∈ wsX2_init := List.mem_of_getElem? (i := 7) rfl
theorem kX2_init_8 : (Cond.fieldLink RX2 19 "SelfTuner$SampleText" "numbers" "[I") ∈ wsX2_init := List.mem_of_getElem? (i := 8) rfl
theorem kX2_init_9 : (Cond.fieldLink RX2 23 "SelfTuner$SampleText" "samples" "I") ∈ wsX2_init := List.mem_of_getElem? (i := 9) rfl
theorem kX2_init_10 : (Cond.fieldLink RX2 26 "SelfTuner$SampleText" "position" "I") ∈ wsX2_init := List.mem_of_getElem? (i := 10) rfl
theorem iX2_init_X2 : ∀ w ∈ wsX20, w ∈ wsX2_init := fun w h => List.mem_cons_of_mem _ (List.mem_append_right _ h)
set_option maxHeartbeats 4000000 in
set_option maxRecDepth 100000 in
theorem c_X2_init (l : Launch) (dC : Nat → ClassId) (dI : Nat → Nat → Nat) (cyI cyJ cyB cyS cyD : ClassId) (yt : Nat) (sz : Nat) {out : Int32 × Int32 × Int32 × (Nat → Int32) × (Nat → Int32)} (hF : F_X2_init = some out) : Mn l yX2_init wsX2_init ({ frames := 1, cells := 2, slots := 180, locals := 40 } : Room) (dC, dI) [(cyI, .int), (cyJ, .long), (cyB, .byte), (cyS, .object "SelfTuner$State"), (cyD, .double)] sz [.ref yt] [(yt, .inr (2, [.null, .int 0, .null, .int 0, .int 0]))] (fun (u : Nat → Nat) => [(yt, .inr (2, [.ref (u 0), .int out.1, .ref (u 1), .int out.2.1, .int out.2.2.1])), ((u 0), .inl (cyB, 120, .inl out.2.2.2.1)), ((u 1), .inl (cyI, 60, .inl out.2.2.2.2))]) 2 180 := by
  refine Met.ofW (cc := cX2_init) (maxL := 1) (ret := none) (by decide) rfl ?_
  intro p e s m args below meth c s₁ B hml hv
  obtain ⟨rfl, hN, hsz, hP, hK, hD0⟩ := hv
  have hx := B.exec
  have hb := B.bytes
  have hr := B.returns
  have hts := atoms_spec (ws := wsX2_init) B.pre
  have hown : s.vm.findClass RX2 = some m.cls := findClass_of_methodNamed B.named
  have hlocks := B.notSynchronized
  have hin : meth.name = "<init>" := (name_of_methodNamed B.named B.method).1
  subst hsz
  have hD := hD0.self (sz := s.heap.size)
  generalize hAe : va_A [(yt, .inr (2, [.null, .int 0, .null, .int 0, .int 0]))] s.heap.size = A at hD ⊢
  have hA : ∀ q : Nat, s.heap.size ≤ q → A q := fun q h => by rw [← hAe]; exact Or.inr h
  have hS : va_S A s.heap s.heap [] := va_S.rf
  have hP : va_P (dC, dI) vwCl [(yt, .inr (2, [.null, .int 0, .null, .int 0, .int 0]))] s.heap := hP
  have hl := lv_entry ([.ref yt]) (n := 1) (Nat.le_of_ble_eq_true rfl)
  rw [lg_entry_eq]
  generalize (lg_sl ([.ref yt]) ++ List.replicate (1 - (lg_sl ([.ref yt])).length) Slot.unset).toArray = ls at hl ⊢
  have hl : lv_has ls 1 [(0, .ref yt)] := hl
  unfold F_X2_init at hF
  refine lv_aload_n hx hb dX2_init_0 rfl (lv_at hl 0 rfl) ?_
  refine W.objInit hx hb hown (hts _ kX2_init_1) (hts _ kX2_init_2) (hts _ kX2_init_3) rfl (by rw [hml]; exact hl.1) rfl dX2_init_1 (Nat.le_of_ble_eq_true rfl) (Nat.le_of_ble_eq_true rfl) ?_
  refine W.eq (g2 := F0 m 4 ls []) rfl ?_
  refine lv_aload_n hx hb dX2_init_4 rfl (lv_at hl 0 rfl) ?_
  refine lv_bipush (v := 120) hx hb dX2_init_5 (by decide) ?_
  refine x_newb hx hb (hts _ kX2_init_4) hK hP hD hS hA 2 rfl 120 (by decide : (120 : Int32).toNatClampNeg = 120 ∧ ¬ (120 : Int32) < 0) (by decide) (Nat.le_of_ble_eq_true rfl) (Nat.le_of_ble_eq_true rfl) dX2_init_7 (fun q1 H hP hD hS => ?_)
  have hP : va_P (dC, dI) vwCl [(yt, .inr (2, [.null, .int 0, .null, .int 0, .int 0])), (q1, .inl (cyB, 120, .inl (fun _ => 0)))] H := hP
  have hD : va_D A [(yt, .inr (2, [.null, .int 0, .null, .int 0, .int 0])), (q1, .inl (cyB, 120, .inl (fun _ => 0)))] := hD
  refine x_putF (D := (dC, dI)) (ci := 2) (v := .ref q1) (ty := tyX2 0) (C := RX2) (T := TX2) (N := 5) (ws' := [(yt, .inr (2, [.ref q1, .int 0, .null, .int 0, .int 0])), (q1, .inl (cyB, 120, .inl (fun _ => 0)))]) hx hb hts iX2_init_X2 tyX2 tyX2_ok nmX2 hown hK hP hD hS 0 rfl rfl 0 (by decide) (hts _ kX2_init_5) (fun _ h9 => h9) rfl hin rfl (by decide +kernel) rfl rfl (Nat.le_of_ble_eq_true rfl) rfl dX2_init_9 (fun H locs hP hD hS => ?_)
  refine lv_aload_n hx hb dX2_init_12 rfl (lv_at hl 0 rfl) ?_
  refine lv_iconst (v := 0) hx hb dX2_init_13 (by decide) ?_
  refine x_put (D := (dC, dI)) (ci := 2) (v := .int 0) (ty := .int) (C := RX2) (T := TX2) (N := 5) (ws' := [(yt, .inr (2, [.ref q1, .int 0, .null, .int 0, .int 0])), (q1, .inl (cyB, 120, .inl (fun _ => 0)))]) hx hb hts iX2_init_X2 tyX2 tyX2_ok nmX2 hown hK hP hD hS 0 rfl rfl 1 (by decide) (hts _ kX2_init_6) (fun _ h9 => h9) rfl (by decide +kernel) rfl rfl (Nat.le_of_ble_eq_true rfl) rfl dX2_init_14 (fun H locs hP hD hS => ?_)
  refine lv_aload_n hx hb dX2_init_17 rfl (lv_at hl 0 rfl) ?_
  refine lv_bipush (v := 60) hx hb dX2_init_18 (by decide) ?_
  refine x_newi hx hb (hts _ kX2_init_7) hK hP hD hS hA 0 rfl 60 (by decide : (60 : Int32).toNatClampNeg = 60 ∧ ¬ (60 : Int32) < 0) (by decide) (Nat.le_of_ble_eq_true rfl) (Nat.le_of_ble_eq_true rfl) dX2_init_20 (fun q2 H hP hD hS => ?_)
  have hP : va_P (dC, dI) vwCl [(yt, .inr (2, [.ref q1, .int 0, .null, .int 0, .int 0])), (q1, .inl (cyB, 120, .inl (fun _ => 0))), (q2, .inl (cyI, 60, .inl (fun _ => 0)))] H := hP
  have hD : va_D A [(yt, .inr (2, [.ref q1, .int 0, .null, .int 0, .int 0])), (q1, .inl (cyB, 120, .inl (fun _ => 0))), (q2, .inl (cyI, 60, .inl (fun _ => 0)))] := hD
  refine x_putF (D := (dC, dI)) (ci := 2) (v := .ref q2) (ty := tyX2 2) (C := RX2) (T := TX2) (N := 5) (ws' := [(yt, .inr (2, [.ref q1, .int 0, .ref q2, .int 0, .int 0])), (q1, .inl (cyB, 120, .inl (fun _ => 0))), (q2, .inl (cyI, 60, .inl (fun _ => 0)))]) hx hb hts iX2_init_X2 tyX2 tyX2_ok nmX2 hown hK hP hD hS 0 rfl rfl 2 (by decide) (hts _ kX2_init_8) (fun _ h9 => h9) rfl hin rfl (by decide +kernel) rfl rfl (Nat.le_of_ble_eq_true rfl) rfl dX2_init_22 (fun H locs hP hD hS => ?_)
  refine lv_aload_n hx hb dX2_init_25 rfl (lv_at hl 0 rfl) ?_
  refine lv_iconst (v := 0) hx hb dX2_init_26 (by decide) ?_
  refine x_put (D := (dC, dI)) (ci := 2) (v := .int 0) (ty := .int) (C := RX2) (T := TX2) (N := 5) (ws' := [(yt, .inr (2, [.ref q1, .int 0, .ref q2, .int 0, .int 0])), (q1, .inl (cyB, 120, .inl (fun _ => 0))), (q2, .inl (cyI, 60, .inl (fun _ => 0)))]) hx hb hts iX2_init_X2 tyX2 tyX2_ok nmX2 hown hK hP hD hS 0 rfl rfl 3 (by decide) (hts _ kX2_init_9) (fun _ h9 => h9) rfl (by decide +kernel) rfl rfl (Nat.le_of_ble_eq_true rfl) rfl dX2_init_27 (fun H locs hP hD hS => ?_)
  refine lv_aload_n hx hb dX2_init_30 rfl (lv_at hl 0 rfl) ?_
  refine lv_iconst (v := 0) hx hb dX2_init_31 (by decide) ?_
  refine x_put (D := (dC, dI)) (ci := 2) (v := .int 0) (ty := .int) (C := RX2) (T := TX2) (N := 5) (ws' := [(yt, .inr (2, [.ref q1, .int 0, .ref q2, .int 0, .int 0])), (q1, .inl (cyB, 120, .inl (fun _ => 0))), (q2, .inl (cyI, 60, .inl (fun _ => 0)))]) hx hb hts iX2_init_X2 tyX2 tyX2_ok nmX2 hown hK hP hD hS 0 rfl rfl 4 (by decide) (hts _ kX2_init_10) (fun _ h9 => h9) rfl (by decide +kernel) rfl rfl (Nat.le_of_ble_eq_true rfl) rfl dX2_init_32 (fun H locs hP hD hS => ?_)
  obtain rfl := some_e hF
  have hP9 := hP.sub (ws' := [(yt, .inr (2, [.ref q1, .int 0, .ref q2, .int 0, .int 0])), (q1, .inl (cyB, 120, .inl (fun _ => 0))), (q2, .inl (cyI, 60, .inl (fun _ => 0)))]) [0, 1, 2] rfl
  have hD9 := hD.sub (ws' := [(yt, .inr (2, [.ref q1, .int 0, .ref q2, .int 0, .int 0])), (q1, .inl (cyB, 120, .inl (fun _ => 0))), (q2, .inl (cyI, 60, .inl (fun _ => 0)))]) [0, 1, 2] (by decide) rfl
  refine W.widen (k := 2) (n := 180) (Nat.le_of_ble_eq_true rfl) (Nat.le_of_ble_eq_true rfl) ?_
  exact W.vret hx hb hr (fun t ht hW => ⟨⟨fun k => (([q1, q2] : List Nat).getD k 0), rfl, trivial, by rw [ht]; exact hP9, va_K.moved hW.alike hK, hD9⟩, hS.F ht⟩) hS.2.2 dX2_init_35
