def F_X5_demandParameter (w1 : Int32) : Option ((Unit) ⊕ String) := if (w1 : Int32) < 0 then (some (.inr xIOB)) else (if (w1 : Int32) < 3 then (some (.inl ())) else (some (.inr xIOB)))
theorem kX5_demandParameter_1 : (Cond.classLink RX5 215 "java/lang/IndexOutOfBoundsException") ∈ wsX5_demandParameter := List.mem_of_getElem? (i := 1) rfl
theorem kX5_demandParameter_2 : (Cond.initialized "java/lang/IndexOutOfBoundsException") ∈ wsX5_demandParameter := List.mem_of_getElem? (i := 2) rfl
set_option maxHeartbeats 4000000 in
set_option maxRecDepth 100000 in
theorem c_X5_demandParameter (l : Launch) (hfl : l.stackTraces = false) (dC : Nat → ClassId) (dI : Nat → Nat → Nat) (cyI cyJ cyB cyS cyD : ClassId)  (sz : Nat) (w1 : Int32) {out : (Unit) ⊕ String} (hF : F_X5_demandParameter w1 = some out) : Xv (T := Nat → Nat → Nat) l yX5_demandParameter wsX5_demandParameter ({ frames := 6, cells := 1, slots := 6, locals := 100 } : Room) (dC, dI) [(cyI, .int), (cyJ, .long), (cyB, .byte), (cyS, .object "SelfTuner$State"), (cyD, .double)] sz [.int w1] [] out  (fun (v : Unit) (bV : Nat → Nat → Nat) => []) 1 6 := by
  refine vx_ofW (cc := cX5_demandParameter) (maxL := 1) (ret := none) (by decide) rfl ?_
  intro p e s m args below meth c s₁ B hml htab hv
  obtain ⟨rfl, ⟨hN, hsz, hP, hK, hD0⟩, hZ, hT⟩ := hv
  have hx := B.exec
  have hb := B.bytes
  have hr := B.returns
  have hts := atoms_spec (ws := wsX5_demandParameter) B.pre
  have hown : s.vm.findClass RX5 = some m.cls := findClass_of_methodNamed B.named
  have hlocks := B.notSynchronized
  subst hsz
  have hD := hD0.self (sz := s.heap.size)
  generalize hAe : va_A [] s.heap.size = A at hD hZ ⊢
  have hA : ∀ q : Nat, s.heap.size ≤ q → A q := fun q h => by rw [← hAe]; exact Or.inr h
  have hS : va_S A s.heap s.heap [] := va_S.rf
  have hP : va_P (dC, dI) vwCl [] s.heap := hP
  have hl := lv_entry ([.int w1]) (n := 1) (Nat.le_of_ble_eq_true rfl)
  rw [lg_entry_eq]
  generalize (lg_sl ([.int w1]) ++ List.replicate (1 - (lg_sl ([.int w1])).length) Slot.unset).toArray = ls at hl ⊢
  have hl : lv_has ls 1 [(0, .int w1)] := hl
  unfold F_X5_demandParameter at hF
  refine lv_iload_n hx hb dX5_demandParameter_0 rfl (lv_at hl 0 rfl) ?_
  refine lv_if_lt (tgt := 9) hx hb dX5_demandParameter_1 (by decide) (fun c1 => ?_) (fun c1 => ?_)
  · have hF := ite_t hF c1
    obtain rfl := some_e hF
    exact x_throw (cls := xIOB) (names := ["java/lang/RuntimeException", "java/lang/Exception"]) hx hb hfl hown (by decide +kernel) (by decide +kernel) (hts _ kX5_demandParameter_1) (hts _ kX5_demandParameter_2) (hT.1 _ (List.mem_of_getElem? (i := 1) rfl)) (vx_hat (B := [.castable xIOB xIOB, .declares (Bundle.initS "java/lang/RuntimeException"), .declares (Bundle.initS "java/lang/Exception"), .declares (Bundle.initS "java/lang/Throwable")]) (fun w h => hts w (List.mem_cons_of_mem _ (List.mem_append_right _ h))) (by decide +kernel) (vx_c (va_Nw.use rfl (hT.2.1 _ (List.mem_of_getElem? (i := 1) rfl))) (vx_c (va_Nw.use rfl (hT.2.2.1 _ (List.mem_of_getElem? (i := 0) rfl))) (vx_c (va_Nw.use rfl (hT.2.2.1 _ (List.mem_of_getElem? (i := 1) rfl))) (vx_c (va_Nw.use rfl (hT.2.2.1 _ (List.mem_of_getElem? (i := 2) rfl))) vx_n))))) (by decide +kernel) hZ hK hP hD hS (hl.1.trans hml.symm) dX5_demandParameter_9 dX5_demandParameter_12 dX5_demandParameter_13 dX5_demandParameter_15 dX5_demandParameter_18 htab (Nat.le_of_ble_eq_true rfl) (Nat.le_of_ble_eq_true rfl) (Nat.le_of_ble_eq_true rfl) (Nat.le_of_ble_eq_true rfl) hlocks rfl (Nat.le_of_ble_eq_true rfl) (Nat.le_of_ble_eq_true rfl)
  · have hF := ite_f hF c1
    refine lv_iload_n hx hb dX5_demandParameter_4 rfl (lv_at hl 0 rfl) ?_
    refine lv_iconst (v := 3) hx hb dX5_demandParameter_5 (by decide) ?_
    refine lv_icmp_lt (tgt := 19) hx hb dX5_demandParameter_6 (by decide) (fun c2 => ?_) (fun c2 => ?_)
    · have hF := ite_t hF c2
      obtain rfl := some_e hF
      refine W.widen (k := 1) (n := 6) (Nat.le_of_ble_eq_true rfl) (Nat.le_of_ble_eq_true rfl) ?_
      exact vx_ret (W.vret hx hb hr (fun t ht hW => ⟨⟨((), (fun _ _ => 0)), rfl, rfl, ⟨by rw [ht]; exact hP, va_K.moved hW.alike hK, hD⟩⟩, hS.F ht⟩) hS.2.2 dX5_demandParameter_19)
    · have hF := ite_f hF c2
      obtain rfl := some_e hF
      exact x_throw (cls := xIOB) (names := ["java/lang/RuntimeException", "java/lang/Exception"]) hx hb hfl hown (by decide +kernel) (by decide +kernel) (hts _ kX5_demandParameter_1) (hts _ kX5_demandParameter_2) (hT.1 _ (List.mem_of_getElem? (i := 1) rfl)) (vx_hat (B := [.castable xIOB xIOB, .declares (Bundle.initS "java/lang/RuntimeException"), .declares (Bundle.initS "java/lang/Exception"), .declares (Bundle.initS "java/lang/Throwable")]) (fun w h => hts w (List.mem_cons_of_mem _ (List.mem_append_right _ h))) (by decide +kernel) (vx_c (va_Nw.use rfl (hT.2.1 _ (List.mem_of_getElem? (i := 1) rfl))) (vx_c (va_Nw.use rfl (hT.2.2.1 _ (List.mem_of_getElem? (i := 0) rfl))) (vx_c (va_Nw.use rfl (hT.2.2.1 _ (List.mem_of_getElem? (i := 1) rfl))) (vx_c (va_Nw.use rfl (hT.2.2.1 _ (List.mem_of_getElem? (i := 2) rfl))) vx_n))))) (by decide +kernel) hZ hK hP hD hS (hl.1.trans hml.symm) dX5_demandParameter_9 dX5_demandParameter_12 dX5_demandParameter_13 dX5_demandParameter_15 dX5_demandParameter_18 htab (Nat.le_of_ble_eq_true rfl) (Nat.le_of_ble_eq_true rfl) (Nat.le_of_ble_eq_true rfl) (Nat.le_of_ble_eq_true rfl) hlocks rfl (Nat.le_of_ble_eq_true rfl) (Nat.le_of_ble_eq_true rfl)
def F_X5_demandRange (w1 : Int32) (w2 : Int32) (w3 : Int32) : Option ((Unit) ⊕ String) := ob (F_X5_isWithin w1 w2 w3) (fun o1 => if (o1 : Int32) = 0 then (some (.inr xIAE)) else (some (.inl ())))
theorem kX5_demandRange_1 : (Cond.classLink RX5 224 "java/lang/IllegalArgumentException") ∈ wsX5_demandRange := List.mem_of_getElem? (i := 1) rfl
theorem kX5_demandRange_2 : (Cond.initialized "java/lang/IllegalArgumentException") ∈ wsX5_demandRange := List.mem_of_getElem? (i := 2) rfl
set_option maxHeartbeats 4000000 in
set_option maxRecDepth 100000 in
theorem c_X5_demandRange (l : Launch) (hfl : l.stackTraces = false) (dC : Nat → ClassId) (dI : Nat → Nat → Nat) (cyI cyJ cyB cyS cyD : ClassId)  (sz : Nat) (w1 : Int32) (w2 : Int32) (w3 : Int32) {out : (Unit) ⊕ String} (hF : F_X5_demandRange w1 w2 w3 = some out) : Xv (T := Nat → Nat → Nat) l yX5_demandRange wsX5_demandRange ({ frames := 6, cells := 1, slots := 6, locals := 100 } : Room) (dC, dI) [(cyI, .int), (cyJ, .long), (cyB, .byte), (cyS, .object "SelfTuner$State"), (cyD, .double)] sz [.int w1, .int w2, .int w3] [] out  (fun (v : Unit) (bV : Nat → Nat → Nat) => []) 1 6 := by
  refine vx_ofW (cc := cX5_demandRange) (maxL := 3) (ret := none) (by decide) rfl ?_
  intro p e s m args below meth c s₁ B hml htab hv
  obtain ⟨rfl, ⟨hN, hsz, hP, hK, hD0⟩, hZ, hT⟩ := hv
  have hx := B.exec
  have hb := B.bytes
  have hr := B.returns
  have hts := atoms_spec (ws := wsX5_demandRange) B.pre
  have hown : s.vm.findClass RX5 = some m.cls := findClass_of_methodNamed B.named
  have hlocks := B.notSynchronized
  subst hsz
  have hD := hD0.self (sz := s.heap.size)
  generalize hAe : va_A [] s.heap.size = A at hD hZ ⊢
  have hA : ∀ q : Nat, s.heap.size ≤ q → A q := fun q h => by rw [← hAe]; exact Or.inr h
  have hS : va_S A s.heap s.heap [] := va_S.rf
  have hP : va_P (dC, dI) vwCl [] s.heap := hP
  have hl := lv_entry ([.int w1, .int w2, .int w3]) (n := 3) (Nat.le_of_ble_eq_true rfl)
  rw [lg_entry_eq]
  generalize (lg_sl ([.int w1, .int w2, .int w3]) ++ List.replicate (3 - (lg_sl ([.int w1, .int w2, .int w3])).length) Slot.unset).toArray = ls at hl ⊢
  have hl : lv_has ls 3 [(0, .int w1), (1, .int w2), (2, .int w3)] := hl
  unfold F_X5_demandRange at hF
  refine lv_iload_n hx hb dX5_demandRange_0 rfl (lv_at hl 0 rfl) ?_
  refine lv_iload_n hx hb dX5_demandRange_1 rfl (lv_at hl 1 rfl) ?_
  refine lv_iload_n hx hb dX5_demandRange_2 rfl (lv_at hl 2 rfl) ?_
  obtain ⟨o1, ho1, hF⟩ := ob_e hF
  refine x_callzi (va_runS (As := [.int w1, .int w2, .int w3]) (rest := []) ⟨hx, hb, hml, hown, hts⟩ (c_X5_isWithin l w1 w2 w3 ho1) (va_cwS 3 hts gX5_demandRange_X5_isWithin rfl rfl rfl (by decide +kernel) ⟨Nat.le_of_ble_eq_true rfl, Nat.le_of_ble_eq_true rfl⟩) ⟨true_blind, fun _ _ _ => ⟨rfl, trivial⟩⟩ rfl rfl hl.1 rfl (lv_room (Nat.le_of_ble_eq_true rfl)) dX5_demandRange_3 ⟨Nat.le_of_ble_eq_true rfl, Nat.le_of_ble_eq_true rfl⟩) ?_
  refine lv_if_ne (tgt := 19) hx hb dX5_demandRange_6 (by decide) (fun c2 => ?_) (fun c2 => ?_)
  · have hF := ite_f hF c2
    obtain rfl := some_e hF
    refine W.widen (k := 1) (n := 6) (Nat.le_of_ble_eq_true rfl) (Nat.le_of_ble_eq_true rfl) ?_
    exact vx_ret (W.vret hx hb hr (fun t ht hW => ⟨⟨((), (fun _ _ => 0)), rfl, rfl, ⟨by rw [ht]; exact hP, va_K.moved hW.alike hK, hD⟩⟩, hS.F ht⟩) hS.2.2 dX5_demandRange_19)
  · have hF := ite_t hF c2
    obtain rfl := some_e hF
    exact x_throw (cls := xIAE) (names := ["java/lang/RuntimeException", "java/lang/Exception"]) hx hb hfl hown (by decide +kernel) (by decide +kernel) (hts _ kX5_demandRange_1) (hts _ kX5_demandRange_2) (hT.1 _ (List.mem_of_getElem? (i := 0) rfl)) (vx_hat (B := [.castable xIAE xIAE, .declares (Bundle.initS "java/lang/RuntimeException"), .declares (Bundle.initS "java/lang/Exception"), .declares (Bundle.initS "java/lang/Throwable")]) (fun w h => hts w (List.mem_cons_of_mem _ (List.mem_append_right _ h))) (by decide +kernel) (vx_c (va_Nw.use rfl (hT.2.1 _ (List.mem_of_getElem? (i := 0) rfl))) (vx_c (va_Nw.use rfl (hT.2.2.1 _ (List.mem_of_getElem? (i := 0) rfl))) (vx_c (va_Nw.use rfl (hT.2.2.1 _ (List.mem_of_getElem? (i := 1) rfl))) (vx_c (va_Nw.use rfl (hT.2.2.1 _ (List.mem_of_getElem? (i := 2) rfl))) vx_n))))) (by decide +kernel) hZ hK hP hD hS (hl.1.trans hml.symm) dX5_demandRange_9 dX5_demandRange_12 dX5_demandRange_13 dX5_demandRange_15 dX5_demandRange_18 htab (Nat.le_of_ble_eq_true rfl) (Nat.le_of_ble_eq_true rfl) (Nat.le_of_ble_eq_true rfl) (Nat.le_of_ble_eq_true rfl) hlocks rfl (Nat.le_of_ble_eq_true rfl) (Nat.le_of_ble_eq_true rfl)
def F_X5_demandSignal (w1 : Int32) : Option ((Unit) ⊕ String) := obx (F_X5_demandRange w1 (-2000) 2000) (fun o1 => some (.inl ()))
set_option maxHeartbeats 4000000 in
set_option maxRecDepth 100000 in
theorem c_X5_demandSignal (l : Launch) (hfl : l.stackTraces = false) (dC : Nat → ClassId) (dI : Nat → Nat → Nat) (cyI cyJ cyB cyS cyD : ClassId)  (sz : Nat) (w1 : Int32) {out : (Unit) ⊕ String} (hF : F_X5_demandSignal w1 = some out) : Xv (T := Nat → Nat → Nat) l yX5_demandSignal wsX5_demandSignal ({ frames := 7, cells := 1, slots := 6, locals := 122 } : Room) (dC, dI) [(cyI, .int), (cyJ, .long), (cyB, .byte), (cyS, .object "SelfTuner$State"), (cyD, .double)] sz [.int w1] [] out  (fun (v : Unit) (bV : Nat → Nat → Nat) => []) 1 6 := by
  refine vx_ofW (cc := cX5_demandSignal) (maxL := 1) (ret := none) (by decide) rfl ?_
  intro p e s m args below meth c s₁ B hml htab hv
  obtain ⟨rfl, ⟨hN, hsz, hP, hK, hD0⟩, hZ, hT⟩ := hv
  have hx := B.exec
  have hb := B.bytes
  have hr := B.returns
  have hts := atoms_spec (ws := wsX5_demandSignal) B.pre
  have hown : s.vm.findClass RX5 = some m.cls := findClass_of_methodNamed B.named
  have hlocks := B.notSynchronized
  subst hsz
  have hD := hD0.self (sz := s.heap.size)
  generalize hAe : va_A [] s.heap.size = A at hD hZ ⊢
  have hA : ∀ q : Nat, s.heap.size ≤ q → A q := fun q h => by rw [← hAe]; exact Or.inr h
  have hS : va_S A s.heap s.heap [] := va_S.rf
  have hP : va_P (dC, dI) vwCl [] s.heap := hP
  have hl := lv_entry ([.int w1]) (n := 1) (Nat.le_of_ble_eq_true rfl)
  rw [lg_entry_eq]
  generalize (lg_sl ([.int w1]) ++ List.replicate (1 - (lg_sl ([.int w1])).length) Slot.unset).toArray = ls at hl ⊢
  have hl : lv_has ls 1 [(0, .int w1)] := hl
  unfold F_X5_demandSignal at hF
  refine lv_iload_n hx hb dX5_demandSignal_0 rfl (lv_at hl 0 rfl) ?_
  refine lv_sipush (v := (-2000)) hx hb dX5_demandSignal_1 (by decide) ?_
  refine lv_sipush (v := 2000) hx hb dX5_demandSignal_4 (by decide) ?_
  obtain ⟨oo1, hoo1, hoo1k⟩ := obx_e hF
  refine x_xcallv (wr := []) (ws' := fun o1 t2 => []) hoo1k hlocks htab hK (vx_runS (As := [.int w1, .int (-2000), .int 2000]) (rest := []) ⟨hx, hb, hml, hown, hts⟩ (c_X5_demandRange l hfl dC dI cyI cyJ cyB cyS cyD s.heap.size w1 (-2000) 2000 hoo1) (va_cwS 3 hts gX5_demandSignal_X5_demandRange rfl rfl rfl (by decide +kernel) ⟨Nat.le_of_ble_eq_true rfl, Nat.le_of_ble_eq_true rfl⟩) ⟨cPreX_blind, x_preX hN hZ hT hP hD hS hA hK [] rfl rfl⟩ rfl rfl hl.1 rfl (lv_room (Nat.le_of_ble_eq_true rfl)) dX5_demandSignal_7 ⟨Nat.le_of_ble_eq_true rfl, Nat.le_of_ble_eq_true rfl⟩) hP hD hS hA [] [] [] rfl rfl rfl (by decide) rfl (fun _ _ => rfl) rfl (Nat.le_of_ble_eq_true rfl) (Nat.le_of_ble_eq_true rfl) (fun o1 t2 H locs hF hP hD hS => ?_)
  obtain rfl := some_e hF
  refine W.widen (k := 1) (n := 6) (Nat.le_of_ble_eq_true rfl) (Nat.le_of_ble_eq_true rfl) ?_
  exact vx_ret (W.vret hx hb hr (fun t ht hW => ⟨⟨((), (fun _ _ => 0)), rfl, rfl, ⟨by rw [ht]; exact hP, va_K.moved hW.alike hK, hD⟩⟩, hS.F ht⟩) hS.2.2 dX5_demandSignal_10)
def F_X5_inWindow (AZ : ST) : Option (Int32) := ob (F_X4_size AZ.2.2.2.2.2.2.2.2.1 (AZ.1 3)) (fun o1 => some o1)
theorem kX5_inWindow_1 : (Cond.fieldLink RX5 12 "SelfTuner" "state" "LSelfTuner$State;") ∈ wsX5_inWindow := List.mem_of_getElem? (i := 1) rfl
theorem kX5_inWindow_2 : (Cond.instanceMethod yX4_size) ∈ wsX5_inWindow := List.mem_of_getElem? (i := 2) rfl
theorem kX5_inWindow_3 : (Cond.initialized RX4) ∈ wsX5_inWindow := List.mem_of_getElem? (i := 3) rfl
theorem kX5_inWindow_4 : (Cond.selects RX4 yX4_size yX4_size) ∈ wsX5_inWindow := List.mem_of_getElem? (i := 4) rfl
theorem iX5_inWindow_X0 : ∀ w ∈ wsX00, w ∈ wsX5_inWindow := fun w h => List.mem_cons_of_mem _ (List.mem_append_left _ (List.mem_append_right _ h))
theorem iX5_inWindow_X3 : ∀ w ∈ wsX30, w ∈ wsX5_inWindow := fun w h => List.mem_cons_of_mem _ (List.mem_append_left _ (List.mem_append_left _ (List.mem_append_right _ h)))
theorem iX5_inWindow_X5 : ∀ w ∈ wsX50, w ∈ wsX5_inWindow := fun w h => List.mem_cons_of_mem _ (List.mem_append_left _ (List.mem_append_left _ (List.mem_append_left _ (List.mem_append_right _ h))))
set_option maxHeartbeats 4000000 in
set_option maxRecDepth 100000 in
theorem c_X5_inWindow (l : Launch) (dC : Nat → ClassId) (dI : Nat → Nat → Nat) (cyI cyJ cyB cyS cyD : ClassId) (h : Nat) (bA : Nat → Nat) (bB : Nat → Nat) (aV : Nat) (yt : Nat) (sz : Nat) (xN : Int32) (AZ : ST) {out : Int32} (hF : F_X5_inWindow AZ = some out) : Mi l yX5_inWindow wsX5_inWindow ({ frames := 2, cells := 0, slots := 0, locals := 61 } : Room) (dC, dI) [(cyI, .int), (cyJ, .long), (cyB, .byte), (cyS, .object "SelfTuner$State"), (cyD, .double)] sz [.ref h] ((h, .inr (5, [.ref (bA 0), .ref (bB 0), .ref aV, .int xN, .ref yt])) :: (wB cyI cyJ bA AZ ++ [])) out ((h, .inr (5, [.ref (bA 0), .ref (bB 0), .ref aV, .int xN, .ref yt])) :: (wB cyI cyJ bA AZ ++ [])) := by
  refine Met.ofW (cc := cX5_inWindow) (maxL := 1) (ret := (some .int)) (by decide) rfl ?_
  intro p e s m args below meth c s₁ B hml hv
  obtain ⟨rfl, hN, hsz, hP, hK, hD0⟩ := hv
  have hx := B.exec
  have hb := B.bytes
  have hr := B.returns
  have hts := atoms_spec (ws := wsX5_inWindow) B.pre
  have hown : s.vm.findClass RX5 = some m.cls := findClass_of_methodNamed B.named
  have hlocks := B.notSynchronized
  subst hsz
  have hD := hD0.self (sz := s.heap.size)
  generalize hAe : va_A ((h, .inr (5, [.ref (bA 0), .ref (bB 0), .ref aV, .int xN, .ref yt])) :: (wB cyI cyJ bA AZ ++ [])) s.heap.size = A at hD ⊢
  have hA : ∀ q : Nat, s.heap.size ≤ q → A q := fun q h => by rw [← hAe]; exact Or.inr h
  have hS : va_S A s.heap s.heap [] := va_S.rf
  have hP : va_P (dC, dI) vwCl ((h, .inr (5, [.ref (bA 0), .ref (bB 0), .ref aV, .int xN, .ref yt])) :: (wB cyI cyJ bA AZ ++ [])) s.heap := hP
  have hl := lv_entry ([.ref h]) (n := 1) (Nat.le_of_ble_eq_true rfl)
  rw [lg_entry_eq]
  generalize (lg_sl ([.ref h]) ++ List.replicate (1 - (lg_sl ([.ref h])).length) Slot.unset).toArray = ls at hl ⊢
  have hl : lv_has ls 1 [(0, .ref h)] := hl
  unfold F_X5_inWindow at hF
  refine lv_aload_n hx hb dX5_inWindow_0 rfl (lv_at hl 0 rfl) ?_
  refine va_get (D := (dC, dI)) (ci := 5) (v := .ref (bA 0)) (C := RX5) (T := TX5) (N := 5) hx hb hts iX5_inWindow_X5 hown hK hP 0 rfl rfl 0 (by decide) (hts _ kX5_inWindow_1) (fun _ h9 => h9) rfl dX5_inWindow_1 ?_
  refine va_getN (D := (dC, dI)) (ci := 3) (v := .ref (bA 2)) (C := RX3) (T := TX3) (N := 3) hx hb hts iX5_inWindow_X3 hown hK hP 1 rfl rfl 1 (by decide) (va_Nw.use rfl (nf_X5_57 hN)) (fun _ h9 => h9) rfl dX5_inWindow_4 ?_
  refine va_getN (D := (dC, dI)) (ci := 0) (v := .ref (bA 10)) (C := RX0) (T := TX0) (N := 8) hx hb hts iX5_inWindow_X0 hown hK hP 3 rfl rfl 5 (by decide) (va_Nw.use rfl (nf_X5_128 hN)) (fun _ h9 => h9) rfl dX5_inWindow_7 ?_
  refine lv_aload_n hx hb dX5_inWindow_10 rfl (lv_at hl 0 rfl) ?_
  refine va_get (D := (dC, dI)) (ci := 5) (v := .ref (bA 0)) (C := RX5) (T := TX5) (N := 5) hx hb hts iX5_inWindow_X5 hown hK hP 0 rfl rfl 0 (by decide) (hts _ kX5_inWindow_1) (fun _ h9 => h9) rfl dX5_inWindow_11 ?_
  refine va_getN (D := (dC, dI)) (ci := 3) (v := .ref (bA 1)) (C := RX3) (T := TX3) (N := 3) hx hb hts iX5_inWindow_X3 hown hK hP 1 rfl rfl 0 (by decide) (va_Nw.use rfl (nf_X5_48 hN)) (fun _ h9 => h9) rfl dX5_inWindow_14 ?_
  refine lv_iconst (v := 3) hx hb dX5_inWindow_17 (by decide) ?_
  refine x_iald hx hb hK hP 2 0 rfl rfl (show (3 : Int32).toNatClampNeg = 3 by decide) (inbK (k := 3) (by decide) rfl) dX5_inWindow_18 ?_
  obtain ⟨o1, ho1, hF⟩ := ob_e hF
  refine x_calli (wr := [(h, .inr (5, [.ref (bA 0), .ref (bB 0), .ref aV, .int xN, .ref yt])), ((bA 0), .inr (3, [.ref (bA 1), .ref (bA 2), .ref (bA 13)])), ((bA 1), .inl (cyI, 7, .inl AZ.1)), ((bA 2), .inr (0, [.ref (bA 3), .ref (bA 4), .ref (bA 5), .ref (bA 6), .ref (bA 7), .ref (bA 10), .ref (bA 8), .ref (bA 9)])), ((bA 3), .inl (cyI, 3, .inl AZ.2.1)), ((bA 4), .inl (cyI, 3, .inl AZ.2.2.1)), ((bA 5), .inl (cyI, 3, .inl AZ.2.2.2.1)), ((bA 6), .inl (cyJ, 9, .inr (.inl AZ.2.2.2.2.1))), ((bA 7), .inl (cyI, 5, .inl AZ.2.2.2.2.2.1)), ((bA 8), .inl (cyJ, 3, .inr (.inl AZ.2.2.2.2.2.2.1))), ((bA 9), .inl (cyJ, 3, .inr (.inl AZ.2.2.2.2.2.2.2.1))), ((bA 13), .inr (1, [.ref (bA 14), .int AZ.2.2.2.2.2.2.2.2.2.2.2.1, .long AZ.2.2.2.2.2.2.2.2.2.2.2.2.1, .int AZ.2.2.2.2.2.2.2.2.2.2.2.2.2.1])), ((bA 14), .inl (cyI, 3, .inl AZ.2.2.2.2.2.2.2.2.2.2.2.2.2.2))]) (ws' := ((h, .inr (5, [.ref (bA 0), .ref (bB 0), .ref aV, .int xN, .ref yt])) :: (wB cyI cyJ bA AZ ++ []))) (va_runVN (As := [.int (AZ.1 3)]) (rest := []) ⟨hx, hb, hml, hown, hts⟩ (c_X4_size l dC dI cyI cyJ cyB cyS cyD (bA 10) (bA 11) (bA 12) s.heap.size AZ.2.2.2.2.2.2.2.2.1 AZ.2.2.2.2.2.2.2.2.2.1 AZ.2.2.2.2.2.2.2.2.2.2.1 (AZ.1 3) ho1) ⟨va_cnB 1 hts gX5_inWindow_X4_size_n132 rfl rfl rfl (nm_X5_132 hN) (hts _ kX5_inWindow_3) (by decide +kernel) ⟨Nat.le_of_ble_eq_true rfl, Nat.le_of_ble_eq_true rfl⟩, hts _ kX5_inWindow_2, hts _ kX5_inWindow_4⟩ ⟨cPre_blind, va_recv hK hP (ci := 4) (q0 := 11) rfl rfl, x_pre hN hP hD hK [11, 12, 13] rfl rfl⟩ rfl rfl hl.1 rfl (lv_room (Nat.le_of_ble_eq_true rfl)) dX5_inWindow_19 ⟨Nat.le_of_ble_eq_true rfl, Nat.le_of_ble_eq_true rfl⟩) hP hD hS hA [11, 12, 13] [0, 1, 2, 3, 4, 5, 6, 7, 8, 9, 10, 14, 15] [0, 1, 2, 3, 4, 5, 6, 7, 8, 9, 10, 13, 14, 15, 11, 12] rfl rfl rfl (by decide) rfl rfl (fun H locs hP hD hS => ?_)
  obtain rfl := some_e hF
  exact W.iret (v := o1) hx hb hr (fun t ht hW => ⟨⟨o1, (), rfl, rfl, ⟨by rw [ht]; exact hP, va_K.moved hW.alike hK, hD⟩⟩, hS.F ht⟩) hS.2.2 dX5_inWindow_22
def F_X5_determinant (AZ : ST) : Option (Int64) := ob (F_X4_excitation AZ.2.2.2.2.2.2.2.2.1 AZ.2.2.2.2.2.2.2.2.2.1 AZ.2.2.2.2.2.2.2.2.2.2.1 (AZ.1 3)) (fun o1 => some o1)
theorem kX5_determinant_1 : (Cond.fieldLink RX5 12 "SelfTuner" "state" "LSelfTuner$State;") ∈ wsX5_determinant := List.mem_of_getElem? (i := 1) rfl
theorem kX5_determinant_2 : (Cond.instanceMethod yX4_excitation) ∈ wsX5_determinant := List.mem_of_getElem? (i := 2) rfl
theorem kX5_determinant_3 : (Cond.initialized RX4) ∈ wsX5_determinant := List.mem_of_getElem? (i := 3) rfl
theorem kX5_determinant_4 : (Cond.selects RX4 yX4_excitation yX4_excitation) ∈ wsX5_determinant := List.mem_of_getElem? (i := 4) rfl
theorem iX5_determinant_X0 : ∀ w ∈ wsX00, w ∈ wsX5_determinant := fun w h => List.mem_cons_of_mem _ (List.mem_append_left _ (List.mem_append_right _ h))
theorem iX5_determinant_X3 : ∀ w ∈ wsX30, w ∈ wsX5_determinant := fun w h => List.mem_cons_of_mem _ (List.mem_append_left _ (List.mem_append_left _ (List.mem_append_right _ h)))
theorem iX5_determinant_X5 : ∀ w ∈ wsX50, w ∈ wsX5_determinant := fun w h => List.mem_cons_of_mem _ (List.mem_append_left _ (List.mem_append_left _ (List.mem_append_left _ (List.mem_append_right _ h))))
set_option maxHeartbeats 4000000 in
set_option maxRecDepth 100000 in
theorem c_X5_determinant (l : Launch) (dC : Nat → ClassId) (dI : Nat → Nat → Nat) (cyI cyJ cyB cyS cyD : ClassId) (h : Nat) (bA : Nat → Nat) (bB : Nat → Nat) (aV : Nat) (yt : Nat) (sz : Nat) (xN : Int32) (AZ : ST) {out : Int64} (hF : F_X5_determinant AZ = some out) : Ml l yX5_determinant wsX5_determinant ({ frames := 3, cells := 0, slots := 0, locals := 94 } : Room) (dC, dI) [(cyI, .int), (cyJ, .long), (cyB, .byte), (cyS, .object "SelfTuner$State"), (cyD, .double)] sz [.ref h] ((h, .inr (5, [.ref (bA 0), .ref (bB 0), .ref aV, .int xN, .ref yt])) :: (wB cyI cyJ bA AZ ++ [])) out ((h, .inr (5, [.ref (bA 0), .ref (bB 0), .ref aV, .int xN, .ref yt])) :: (wB cyI cyJ bA AZ ++ [])) := by
  refine Met.ofW (cc := cX5_determinant) (maxL := 1) (ret := (some .long)) (by decide) rfl ?_
  intro p e s m args below meth c s₁ B hml hv
  obtain ⟨rfl, hN, hsz, hP, hK, hD0⟩ := hv
  have hx := B.exec
  have hb := B.bytes
  have hr := B.returns
  have hts := atoms_spec (ws := wsX5_determinant) B.pre
  have hown : s.vm.findClass RX5 = some m.cls := findClass_of_methodNamed B.named
  have hlocks := B.notSynchronized
  subst hsz
  have hD := hD0.self (sz := s.heap.size)
  generalize hAe : va_A ((h, .inr (5, [.ref (bA 0), .ref (bB 0), .ref aV, .int xN, .ref yt])) :: (wB cyI cyJ bA AZ ++ [])) s.heap.size = A at hD ⊢
  have hA : ∀ q : Nat, s.heap.size ≤ q → A q := fun q h => by rw [← hAe]; exact Or.inr h
  have hS : va_S A s.heap s.heap [] := va_S.rf
  have hP : va_P (dC, dI) vwCl ((h, .inr (5, [.ref (bA 0), .ref (bB 0), .ref aV, .int xN, .ref yt])) :: (wB cyI cyJ bA AZ ++ [])) s.heap := hP
  have hl := lv_entry ([.ref h]) (n := 1) (Nat.le_of_ble_eq_true rfl)
  rw [lg_entry_eq]
  generalize (lg_sl ([.ref h]) ++ List.replicate (1 - (lg_sl ([.ref h])).length) Slot.unset).toArray = ls at hl ⊢
  have hl : lv_has ls 1 [(0, .ref h)] := hl
  unfold F_X5_determinant at hF
  refine lv_aload_n hx hb dX5_determinant_0 rfl (lv_at hl 0 rfl) ?_
  refine va_get (D := (dC, dI)) (ci := 5) (v := .ref (bA 0)) (C := RX5) (T := TX5) (N := 5) hx hb hts iX5_determinant_X5 hown hK hP 0 rfl rfl 0 (by decide) (hts _ kX5_determinant_1) (fun _ h9 => h9) rfl dX5_determinant_1 ?_
  refine va_getN (D := (dC, dI)) (ci := 3) (v := .ref (bA 2)) (C := RX3) (T := TX3) (N := 3) hx hb hts iX5_determinant_X3 hown hK hP 1 rfl rfl 1 (by decide) (va_Nw.use rfl (nf_X5_57 hN)) (fun _ h9 => h9) rfl dX5_determinant_4 ?_
  refine va_getN (D := (dC, dI)) (ci := 0) (v := .ref (bA 10)) (C := RX0) (T := TX0) (N := 8) hx hb hts iX5_determinant_X0 hown hK hP 3 rfl rfl 5 (by decide) (va_Nw.use rfl (nf_X5_128 hN)) (fun _ h9 => h9) rfl dX5_determinant_7 ?_
  refine lv_aload_n hx hb dX5_determinant_10 rfl (lv_at hl 0 rfl) ?_
  refine va_get (D := (dC, dI)) (ci := 5) (v := .ref (bA 0)) (C := RX5) (T := TX5) (N := 5) hx hb hts iX5_determinant_X5 hown hK hP 0 rfl rfl 0 (by decide) (hts _ kX5_determinant_1) (fun _ h9 => h9) rfl dX5_determinant_11 ?_
  refine va_getN (D := (dC, dI)) (ci := 3) (v := .ref (bA 1)) (C := RX3) (T := TX3) (N := 3) hx hb hts iX5_determinant_X3 hown hK hP 1 rfl rfl 0 (by decide) (va_Nw.use rfl (nf_X5_48 hN)) (fun _ h9 => h9) rfl dX5_determinant_14 ?_
  refine lv_iconst (v := 3) hx hb dX5_determinant_17 (by decide) ?_
  refine x_iald hx hb hK hP 2 0 rfl rfl (show (3 : Int32).toNatClampNeg = 3 by decide) (inbK (k := 3) (by decide) rfl) dX5_determinant_18 ?_
  obtain ⟨o1, ho1, hF⟩ := ob_e hF
  refine x_calll (wr := [(h, .inr (5, [.ref (bA 0), .ref (bB 0), .ref aV, .int xN, .ref yt])), ((bA 0), .inr (3, [.ref (bA 1), .ref (bA 2), .ref (bA 13)])), ((bA 1), .inl (cyI, 7, .inl AZ.1)), ((bA 2), .inr (0, [.ref (bA 3), .ref (bA 4), .ref (bA 5), .ref (bA 6), .ref (bA 7), .ref (bA 10), .ref (bA 8), .ref (bA 9)])), ((bA 3), .inl (cyI, 3, .inl AZ.2.1)), ((bA 4), .inl (cyI, 3, .inl AZ.2.2.1)), ((bA 5), .inl (cyI, 3, .inl AZ.2.2.2.1)), ((bA 6), .inl (cyJ, 9, .inr (.inl AZ.2.2.2.2.1))), ((bA 7), .inl (cyI, 5, .inl AZ.2.2.2.2.2.1)), ((bA 8), .inl (cyJ, 3, .inr (.inl AZ.2.2.2.2.2.2.1))), ((bA 9), .inl (cyJ, 3, .inr (.inl AZ.2.2.2.2.2.2.2.1))), ((bA 13), .inr (1, [.ref (bA 14), .int AZ.2.2.2.2.2.2.2.2.2.2.2.1, .long AZ.2.2.2.2.2.2.2.2.2.2.2.2.1, .int AZ.2.2.2.2.2.2.2.2.2.2.2.2.2.1])), ((bA 14), .inl (cyI, 3, .inl AZ.2.2.2.2.2.2.2.2.2.2.2.2.2.2))]) (ws' := ((h, .inr (5, [.ref (bA 0), .ref (bB 0), .ref aV, .int xN, .ref yt])) :: (wB cyI cyJ bA AZ ++ []))) (va_runVN (As := [.int (AZ.1 3)]) (rest := []) ⟨hx, hb, hml, hown, hts⟩ (c_X4_excitation l dC dI cyI cyJ cyB cyS cyD (bA 10) (bA 11) (bA 12) s.heap.size AZ.2.2.2.2.2.2.2.2.1 AZ.2.2.2.2.2.2.2.2.2.1 AZ.2.2.2.2.2.2.2.2.2.2.1 (AZ.1 3) ho1) ⟨va_cnB 1 hts gX5_determinant_X4_excitation_n138 rfl rfl rfl (nm_X5_138 hN) (hts _ kX5_determinant_3) (by decide +kernel) ⟨Nat.le_of_ble_eq_true rfl, Nat.le_of_ble_eq_true rfl⟩, hts _ kX5_determinant_2, hts _ kX5_determinant_4⟩ ⟨cPre_blind, va_recv hK hP (ci := 4) (q0 := 11) rfl rfl, x_pre hN hP hD hK [11, 12, 13] rfl rfl⟩ rfl rfl hl.1 rfl (lv_room (Nat.le_of_ble_eq_true rfl)) dX5_determinant_19 ⟨Nat.le_of_ble_eq_true rfl, Nat.le_of_ble_eq_true rfl⟩) hP hD hS hA [11, 12, 13] [0, 1, 2, 3, 4, 5, 6, 7, 8, 9, 10, 14, 15] [0, 1, 2, 3, 4, 5, 6, 7, 8, 9, 10, 13, 14, 15, 11, 12] rfl rfl rfl (by decide) rfl rfl (fun H locs hP hD hS => ?_)
  obtain rfl := some_e hF
  exact W.lret (v := o1) hx hb hr (fun t ht hW => ⟨⟨o1, (), rfl, rfl, ⟨by rw [ht]; exact hP, va_K.moved hW.alike hK, hD⟩⟩, hS.F ht⟩) hS.2.2 dX5_determinant_22
def F_X5_exciting (AZ : ST) : Option (Int32) := ob (F_X5_inWindow AZ) (fun o1 => if (o1.toInt64 : Int64) = ((AZ.1 3).toInt64) then (ob (F_X5_determinant AZ) (fun o3 => if (o3 : Int64) < ((1000 * o1.toInt64) * o1.toInt64) then (some 0) else (some 1))) else (some 0))
theorem kX5_exciting_1 : (Cond.fieldLink RX5 12 "SelfTuner" "state" "LSelfTuner$State;") ∈ wsX5_exciting := List.mem_of_getElem? (i := 1) rfl
theorem kX5_exciting_2 : (Cond.constantLong RX5 150 (1000)) ∈ wsX5_exciting := List.mem_of_getElem? (i := 2) rfl
theorem iX5_exciting_X3 : ∀ w ∈ wsX30, w ∈ wsX5_exciting := fun w h => List.mem_cons_of_mem _ (List.mem_append_left _ (List.mem_append_left _ (List.mem_append_right _ h)))
theorem iX5_exciting_X5 : ∀ w ∈ wsX50, w ∈ wsX5_exciting := fun w h => List.mem_cons_of_mem _ (List.mem_append_left _ (List.mem_append_left _ (List.mem_append_left _ (List.mem_append_right _ h))))
set_option maxHeartbeats 4000000 in
set_option maxRecDepth 100000 in
theorem c_X5_exciting (l : Launch) (dC : Nat → ClassId) (dI : Nat → Nat → Nat) (cyI cyJ cyB cyS cyD : ClassId) (h : Nat) (bA : Nat → Nat) (bB : Nat → Nat) (aV : Nat) (yt : Nat) (sz : Nat) (xN : Int32) (AZ : ST) {out : Int32} (hF : F_X5_exciting AZ = some out) : Mi l yX5_exciting wsX5_exciting ({ frames := 4, cells := 0, slots := 0, locals := 114 } : Room) (dC, dI) [(cyI, .int), (cyJ, .long), (cyB, .byte), (cyS, .object "SelfTuner$State"), (cyD, .double)] sz [.ref h] ((h, .inr (5, [.ref (bA 0), .ref (bB 0), .ref aV, .int xN, .ref yt])) :: (wB cyI cyJ bA AZ ++ [])) out ((h, .inr (5, [.ref (bA 0), .ref (bB 0), .ref aV, .int xN, .ref yt])) :: (wB cyI cyJ bA AZ ++ [])) := by
  refine Met.ofW (cc := cX5_exciting) (maxL := 3) (ret := (some .boolean)) (by decide) rfl ?_
  intro p e s m args below meth c s₁ B hml hv
  obtain ⟨rfl, hN, hsz, hP, hK, hD0⟩ := hv
  have hx := B.exec
  have hb := B.bytes
  have hr := B.returns
  have hts := atoms_spec (ws := wsX5_exciting) B.pre
  have hown : s.vm.findClass RX5 = some m.cls := findClass_of_methodNamed B.named
  have hlocks := B.notSynchronized
  subst hsz
  have hD := hD0.self (sz := s.heap.size)
  generalize hAe : va_A ((h, .inr (5, [.ref (bA 0), .ref (bB 0), .ref aV, .int xN, .ref yt])) :: (wB cyI cyJ bA AZ ++ [])) s.heap.size = A at hD ⊢
  have hA : ∀ q : Nat, s.heap.size ≤ q → A q := fun q h => by rw [← hAe]; exact Or.inr h
  have hS : va_S A s.heap s.heap [] := va_S.rf
  have hP : va_P (dC, dI) vwCl ((h, .inr (5, [.ref (bA 0), .ref (bB 0), .ref aV, .int xN, .ref yt])) :: (wB cyI cyJ bA AZ ++ [])) s.heap := hP
  have hl := lv_entry ([.ref h]) (n := 3) (Nat.le_of_ble_eq_true rfl)
  rw [lg_entry_eq]
  generalize (lg_sl ([.ref h]) ++ List.replicate (3 - (lg_sl ([.ref h])).length) Slot.unset).toArray = ls at hl ⊢
  have hl : lv_has ls 3 [(0, .ref h)] := hl
  unfold F_X5_exciting at hF
  refine lv_aload_n hx hb dX5_exciting_0 rfl (lv_at hl 0 rfl) ?_
  obtain ⟨o1, ho1, hF⟩ := ob_e hF
  refine x_calli (wr := []) (ws' := ((h, .inr (5, [.ref (bA 0), .ref (bB 0), .ref aV, .int xN, .ref yt])) :: (wB cyI cyJ bA AZ ++ []))) (va_runV (As := []) (rest := []) ⟨hx, hb, hml, hown, hts⟩ (c_X5_inWindow l dC dI cyI cyJ cyB cyS cyD h bA bB aV yt s.heap.size xN AZ ho1) (cwV 0 hts gX5_exciting_X5_inWindow rfl rfl rfl (by decide +kernel) ⟨Nat.le_of_ble_eq_true rfl, Nat.le_of_ble_eq_true rfl⟩) ⟨cPre_blind, va_recv hK hP (ci := 5) (q0 := 0) rfl rfl, x_pre hN hP hD hK [0, 1, 2, 3, 4, 5, 6, 7, 8, 9, 10, 11, 12, 13, 14, 15] rfl rfl⟩ rfl rfl hl.1 rfl (lv_room (Nat.le_of_ble_eq_true rfl)) dX5_exciting_1 ⟨Nat.le_of_ble_eq_true rfl, Nat.le_of_ble_eq_true rfl⟩) hP hD hS hA [0, 1, 2, 3, 4, 5, 6, 7, 8, 9, 10, 11, 12, 13, 14, 15] [] [0, 1, 2, 3, 4, 5, 6, 7, 8, 9, 10, 11, 12, 13, 14, 15] rfl rfl rfl (by decide) rfl rfl (fun H locs hP hD hS => ?_)
  refine lv_i2l (v := o1.toInt64) hx hb dX5_exciting_4 rfl ?_
  refine lv_lstore_n (lv' := [(1, .long o1.toInt64), (0, .ref h)]) hx hb dX5_exciting_5 rfl hl (by decide) rfl (fun ls hl => ?_)
  refine lv_lload_n hx hb dX5_exciting_6 rfl (lv_at hl 0 rfl) ?_
  refine lv_aload_n hx hb dX5_exciting_7 rfl (lv_at hl 1 rfl) ?_
  refine va_get (D := (dC, dI)) (ci := 5) (v := .ref (bA 0)) (C := RX5) (T := TX5) (N := 5) hx hb hts iX5_exciting_X5 hown hK hP 0 rfl rfl 0 (by decide) (hts _ kX5_exciting_1) (fun _ h9 => h9) rfl dX5_exciting_8 ?_
  refine va_getN (D := (dC, dI)) (ci := 3) (v := .ref (bA 1)) (C := RX3) (T := TX3) (N := 3) hx hb hts iX5_exciting_X3 hown hK hP 1 rfl rfl 0 (by decide) (va_Nw.use rfl (nf_X5_48 hN)) (fun _ h9 => h9) rfl dX5_exciting_11 ?_
  refine lv_iconst (v := 3) hx hb dX5_exciting_14 (by decide) ?_
  refine x_iald hx hb hK hP 2 0 rfl rfl (show (3 : Int32).toNatClampNeg = 3 by decide) (inbK (k := 3) (by decide) rfl) dX5_exciting_15 ?_
  refine lv_i2l (v := (AZ.1 3).toInt64) hx hb dX5_exciting_16 rfl ?_
  refine W.lcmp hx hb dX5_exciting_17 ?_
  refine x_il_ne (tgt := 40) hx hb dX5_exciting_18 (by decide) (fun c2 => ?_) (fun c2 => ?_)
  · have hF := ite_f hF c2
    refine lv_iconst (v := 0) hx hb dX5_exciting_40 (by decide) ?_
    obtain rfl := some_e hF
    exact W.zret (v := 0) hx hb hr rfl (fun t ht hW => ⟨⟨0, (), rfl, rfl, ⟨by rw [ht]; exact hP, va_K.moved hW.alike hK, hD⟩⟩, hS.F ht⟩) hS.2.2 dX5_exciting_41
  · have hF := ite_t hF c2
    refine lv_aload_n hx hb dX5_exciting_21 rfl (lv_at hl 1 rfl) ?_
    obtain ⟨o3, ho3, hF⟩ := ob_e hF
    refine x_calll (wr := []) (ws' := ((h, .inr (5, [.ref (bA 0), .ref (bB 0), .ref aV, .int xN, .ref yt])) :: (wB cyI cyJ bA AZ ++ []))) (va_runV (As := []) (rest := []) ⟨hx, hb, hml, hown, hts⟩ (c_X5_determinant l dC dI cyI cyJ cyB cyS cyD h bA bB aV yt H.size xN AZ ho3) (cwV 0 hts gX5_exciting_X5_determinant rfl rfl rfl (by decide +kernel) ⟨Nat.le_of_ble_eq_true rfl, Nat.le_of_ble_eq_true rfl⟩) ⟨cPre_blind, va_recv hK hP (ci := 5) (q0 := 0) rfl rfl, x_pre hN hP hD hK [0, 1, 2, 3, 4, 5, 6, 7, 8, 9, 10, 11, 12, 13, 14, 15] rfl rfl⟩ rfl rfl hl.1 rfl (lv_room (Nat.le_of_ble_eq_true rfl)) dX5_exciting_22 ⟨Nat.le_of_ble_eq_true rfl, Nat.le_of_ble_eq_true rfl⟩) hP hD hS hA [0, 1, 2, 3, 4, 5, 6, 7, 8, 9, 10, 11, 12, 13, 14, 15] [] [0, 1, 2, 3, 4, 5, 6, 7, 8, 9, 10, 11, 12, 13, 14, 15] rfl rfl rfl (by decide) rfl rfl (fun H locs hP hD hS => ?_)
    refine lv_ldc2 (v := 1000) hx hb hown (hts _ kX5_exciting_2) dX5_exciting_25 ?_
    refine lv_lload_n hx hb dX5_exciting_28 rfl (lv_at hl 0 rfl) ?_
    refine lv_lmul hx hb dX5_exciting_29 ?_
    refine lv_lload_n hx hb dX5_exciting_30 rfl (lv_at hl 0 rfl) ?_
    refine lv_lmul hx hb dX5_exciting_31 ?_
    refine W.lcmp hx hb dX5_exciting_32 ?_
    refine x_il_lt (tgt := 40) hx hb dX5_exciting_33 (by decide) (fun c4 => ?_) (fun c4 => ?_)
    · have hF := ite_t hF c4
      refine lv_iconst (v := 0) hx hb dX5_exciting_40 (by decide) ?_
      obtain rfl := some_e hF
      exact W.zret (v := 0) hx hb hr rfl (fun t ht hW => ⟨⟨0, (), rfl, rfl, ⟨by rw [ht]; exact hP, va_K.moved hW.alike hK, hD⟩⟩, hS.F ht⟩) hS.2.2 dX5_exciting_41
    · have hF := ite_f hF c4
      refine lv_iconst (v := 1) hx hb dX5_exciting_36 (by decide) ?_
      refine lv_goto (tgt := 41) hx hb dX5_exciting_37 (by decide) ?_
      obtain rfl := some_e hF
      exact W.zret (v := 1) hx hb hr rfl (fun t ht hW => ⟨⟨1, (), rfl, rfl, ⟨by rw [ht]; exact hP, va_K.moved hW.alike hK, hD⟩⟩, hS.F ht⟩) hS.2.2 dX5_exciting_41
def F_X5_output (AZ : ST) : Option (Int32) := some AZ.2.2.2.2.2.2.2.2.2.2.2.2.2.1
theorem kX5_output_1 : (Cond.fieldLink RX5 12 "SelfTuner" "state" "LSelfTuner$State;") ∈ wsX5_output := List.mem_of_getElem? (i := 1) rfl
theorem iX5_output_X1 : ∀ w ∈ wsX10, w ∈ wsX5_output := fun w h => List.mem_cons_of_mem _ (List.mem_append_right _ h)
theorem iX5_output_X3 : ∀ w ∈ wsX30, w ∈ wsX5_output := fun w h => List.mem_cons_of_mem _ (List.mem_append_left _ (List.mem_append_right _ h))
theorem iX5_output_X5 : ∀ w ∈ wsX50, w ∈ wsX5_output := fun w h => List.mem_cons_of_mem _ (List.mem_append_left _ (List.mem_append_left _ (List.mem_append_right _ h)))
set_option maxHeartbeats 4000000 in
set_option maxRecDepth 100000 in
theorem c_X5_output (l : Launch) (dC : Nat → ClassId) (dI : Nat → Nat → Nat) (cyI cyJ cyB cyS cyD : ClassId) (h : Nat) (bA : Nat → Nat) (bB : Nat → Nat) (aV : Nat) (yt : Nat) (sz : Nat) (xN : Int32) (AZ : ST) {out : Int32} (hF : F_X5_output AZ = some out) : Mi l yX5_output wsX5_output ({ frames := 0, cells := 0, slots := 0, locals := 0 } : Room) (dC, dI) [(cyI, .int), (cyJ, .long), (cyB, .byte), (cyS, .object "SelfTuner$State"), (cyD, .double)] sz [.ref h] ((h, .inr (5, [.ref (bA 0), .ref (bB 0), .ref aV, .int xN, .ref yt])) :: (wB cyI cyJ bA AZ ++ [])) out ((h, .inr (5, [.ref (bA 0), .ref (bB 0), .ref aV, .int xN, .ref yt])) :: (wB cyI cyJ bA AZ ++ [])) := by
  refine Met.ofW (cc := cX5_output) (maxL := 1) (ret := (some .int)) (by decide) rfl ?_
  intro p e s m args below meth c s₁ B hml hv
  obtain ⟨rfl, hN, hsz, hP, hK, hD0⟩ := hv
  have hx := B.exec
  have hb := B.bytes
  have hr := B.returns
  have hts := atoms_spec (ws := wsX5_output) B.pre
  have hown : s.vm.findClass RX5 = some m.cls := findClass_of_methodNamed B.named
  have hlocks := B.notSynchronized
  subst hsz
  have hD := hD0.self (sz := s.heap.size)
  generalize hAe : va_A ((h, .inr (5, [.ref (bA 0), .ref (bB 0), .ref aV, .int xN, .ref yt])) :: (wB cyI cyJ bA AZ ++ [])) s.heap.size = A at hD ⊢
  have hA : ∀ q : Nat, s.heap.size ≤ q → A q := fun q h => by rw [← hAe]; exact Or.inr h
  have hS : va_S A s.heap s.heap [] := va_S.rf
  have hP : va_P (dC, dI) vwCl ((h, .inr (5, [.ref (bA 0), .ref (bB 0), .ref aV, .int xN, .ref yt])) :: (wB cyI cyJ bA AZ ++ [])) s.heap := hP
  have hl := lv_entry ([.ref h]) (n := 1) (Nat.le_of_ble_eq_true rfl)
  rw [lg_entry_eq]
  generalize (lg_sl ([.ref h]) ++ List.replicate (1 - (lg_sl ([.ref h])).length) Slot.unset).toArray = ls at hl ⊢
  have hl : lv_has ls 1 [(0, .ref h)] := hl
  unfold F_X5_output at hF
  refine lv_aload_n hx hb dX5_output_0 rfl (lv_at hl 0 rfl) ?_
  refine va_get (D := (dC, dI)) (ci := 5) (v := .ref (bA 0)) (C := RX5) (T := TX5) (N := 5) hx hb hts iX5_output_X5 hown hK hP 0 rfl rfl 0 (by decide) (hts _ kX5_output_1) (fun _ h9 => h9) rfl dX5_output_1 ?_
  refine va_getN (D := (dC, dI)) (ci := 3) (v := .ref (bA 13)) (C := RX3) (T := TX3) (N := 3) hx hb hts iX5_output_X3 hown hK hP 1 rfl rfl 2 (by decide) (va_Nw.use rfl (nf_X5_76 hN)) (fun _ h9 => h9) rfl dX5_output_4 ?_
  refine va_getN (D := (dC, dI)) (ci := 1) (v := .int AZ.2.2.2.2.2.2.2.2.2.2.2.2.2.1) (C := RX1) (T := TX1) (N := 4) hx hb hts iX5_output_X1 hown hK hP 14 rfl rfl 3 (by decide) (va_Nw.use rfl (nf_X5_88 hN)) (fun _ h9 => h9) rfl dX5_output_7 ?_
  obtain rfl := some_e hF
  exact W.iret (v := AZ.2.2.2.2.2.2.2.2.2.2.2.2.2.1) hx hb hr (fun t ht hW => ⟨⟨AZ.2.2.2.2.2.2.2.2.2.2.2.2.2.1, (), rfl, rfl, ⟨by rw [ht]; exact hP, va_K.moved hW.alike hK, hD⟩⟩, hS.F ht⟩) hS.2.2 dX5_output_10
def F_X5_value (AZ : ST) (w1 : Int32) : Option ((Int32) ⊕ String) := obx (F_X5_demandRange w1 0 6) (fun o1 => ck (inb w1 7) (some (.inl (AZ.1 w1.toNatClampNeg))))
theorem kX5_value_1 : (Cond.fieldLink RX5 12 "SelfTuner" "state" "LSelfTuner$State;") ∈ wsX5_value := List.mem_of_getElem? (i := 1) rfl
theorem iX5_value_X3 : ∀ w ∈ wsX30, w ∈ wsX5_value := fun w h => List.mem_cons_of_mem _ (List.mem_append_left _ (List.mem_append_right _ h))
theorem iX5_value_X5 : ∀ w ∈ wsX50, w ∈ wsX5_value := fun w h => List.mem_cons_of_mem _ (List.mem_append_left _ (List.mem_append_left _ (List.mem_append_right _ h)))
set_option maxHeartbeats 4000000 in
set_option maxRecDepth 100000 in
theorem c_X5_value (l : Launch) (hfl : l.stackTraces = false) (dC : Nat → ClassId) (dI : Nat → Nat → Nat) (cyI cyJ cyB cyS cyD : ClassId) (h : Nat) (bA : Nat → Nat) (bB : Nat → Nat) (aV : Nat) (yt : Nat) (sz : Nat) (xN : Int32) (AZ : ST) (w1 : Int32) {out : (Int32) ⊕ String} (hF : F_X5_value AZ w1 = some out) : Xi (T := Nat → Nat → Nat) l yX5_value wsX5_value ({ frames := 7, cells := 1, slots := 6, locals := 122 } : Room) (dC, dI) [(cyI, .int), (cyJ, .long), (cyB, .byte), (cyS, .object "SelfTuner$State"), (cyD, .double)] sz [.ref h, .int w1] ((h, .inr (5, [.ref (bA 0), .ref (bB 0), .ref aV, .int xN, .ref yt])) :: (wB cyI cyJ bA AZ ++ [])) out (fun (v : Int32) => v) (fun (v : Int32) (bV : Nat → Nat → Nat) => ((h, .inr (5, [.ref (bA 0), .ref (bB 0), .ref aV, .int xN, .ref yt])) :: (wB cyI cyJ bA AZ ++ []))) 1 6 := by
  refine vx_ofW (cc := cX5_value) (maxL := 2) (ret := (some .int)) (by decide) rfl ?_
  intro p e s m args below meth c s₁ B hml htab hv
  obtain ⟨rfl, ⟨hN, hsz, hP, hK, hD0⟩, hZ, hT⟩ := hv
  have hx := B.exec
  have hb := B.bytes
  have hr := B.returns
  have hts := atoms_spec (ws := wsX5_value) B.pre
  have hown : s.vm.findClass RX5 = some m.cls := findClass_of_methodNamed B.named
  have hlocks := B.notSynchronized
  subst hsz
  have hD := hD0.self (sz := s.heap.size)
  generalize hAe : va_A ((h, .inr (5, [.ref (bA 0), .ref (bB 0), .ref aV, .int xN, .ref yt])) :: (wB cyI cyJ bA AZ ++ [])) s.heap.size = A at hD hZ ⊢
  have hA : ∀ q : Nat, s.heap.size ≤ q → A q := fun q h => by rw [← hAe]; exact Or.inr h
  have hS : va_S A s.heap s.heap [] := va_S.rf
  have hP : va_P (dC, dI) vwCl ((h, .inr (5, [.ref (bA 0), .ref (bB 0), .ref aV, .int xN, .ref yt])) :: (wB cyI cyJ bA AZ ++ [])) s.heap := hP
  have hl := lv_entry ([.ref h, .int w1]) (n := 2) (Nat.le_of_ble_eq_true rfl)
  rw [lg_entry_eq]
  generalize (lg_sl ([.ref h, .int w1]) ++ List.replicate (2 - (lg_sl ([.ref h, .int w1])).length) Slot.unset).toArray = ls at hl ⊢
  have hl : lv_has ls 2 [(0, .ref h), (1, .int w1)] := hl
  unfold F_X5_value at hF
  refine lv_iload_n hx hb dX5_value_0 rfl (lv_at hl 1 rfl) ?_
  refine lv_iconst (v := 0) hx hb dX5_value_1 (by decide) ?_
  refine lv_bipush (v := 6) hx hb dX5_value_2 (by decide) ?_
  obtain ⟨oo1, hoo1, hoo1k⟩ := obx_e hF
  refine x_xcallv (wr := ((h, .inr (5, [.ref (bA 0), .ref (bB 0), .ref aV, .int xN, .ref yt])) :: (wB cyI cyJ bA AZ ++ []))) (ws' := fun o1 t2 => ((h, .inr (5, [.ref (bA 0), .ref (bB 0), .ref aV, .int xN, .ref yt])) :: (wB cyI cyJ bA AZ ++ []))) hoo1k hlocks htab hK (vx_runS (As := [.int w1, .int 0, .int 6]) (rest := []) ⟨hx, hb, hml, hown, hts⟩ (c_X5_demandRange l hfl dC dI cyI cyJ cyB cyS cyD s.heap.size w1 0 6 hoo1) (va_cwS 3 hts gX5_value_X5_demandRange rfl rfl rfl (by decide +kernel) ⟨Nat.le_of_ble_eq_true rfl, Nat.le_of_ble_eq_true rfl⟩) ⟨cPreX_blind, x_preX hN hZ hT hP hD hS hA hK [] rfl rfl⟩ rfl rfl hl.1 rfl (lv_room (Nat.le_of_ble_eq_true rfl)) dX5_value_4 ⟨Nat.le_of_ble_eq_true rfl, Nat.le_of_ble_eq_true rfl⟩) hP hD hS hA [] [0, 1, 2, 3, 4, 5, 6, 7, 8, 9, 10, 11, 12, 13, 14, 15] [0, 1, 2, 3, 4, 5, 6, 7, 8, 9, 10, 11, 12, 13, 14, 15] rfl rfl rfl (by decide) rfl (fun _ _ => rfl) rfl (Nat.le_of_ble_eq_true rfl) (Nat.le_of_ble_eq_true rfl) (fun o1 t2 H locs hF hP hD hS => ?_)
  refine lv_aload_n hx hb dX5_value_7 rfl (lv_at hl 0 rfl) ?_
  refine va_get (D := (dC, dI)) (ci := 5) (v := .ref (bA 0)) (C := RX5) (T := TX5) (N := 5) hx hb hts iX5_value_X5 hown hK hP 0 rfl rfl 0 (by decide) (hts _ kX5_value_1) (fun _ h9 => h9) rfl dX5_value_8 ?_
  refine va_getN (D := (dC, dI)) (ci := 3) (v := .ref (bA 1)) (C := RX3) (T := TX3) (N := 3) hx hb hts iX5_value_X3 hown hK hP 1 rfl rfl 0 (by decide) (va_Nw.use rfl (nf_X5_48 hN)) (fun _ h9 => h9) rfl dX5_value_11 ?_
  refine lv_iload_n hx hb dX5_value_14 rfl (lv_at hl 1 rfl) ?_
  obtain ⟨g3, hF⟩ := ck_e hF
  refine x_iald hx hb hK hP 2 0 rfl rfl rfl g3 dX5_value_15 ?_
  obtain rfl := some_e hF
  refine W.widen (k := 1) (n := 6) (Nat.le_of_ble_eq_true rfl) (Nat.le_of_ble_eq_true rfl) ?_
  exact vx_ret (W.iret (v := AZ.1 w1.toNatClampNeg) hx hb hr (fun t ht hW => ⟨⟨AZ.1 w1.toNatClampNeg, (AZ.1 w1.toNatClampNeg, (fun _ _ => 0)), rfl, ⟨rfl, rfl⟩, ⟨by rw [ht]; exact hP, va_K.moved hW.alike hK, hD⟩⟩, hS.F ht⟩) hS.2.2 dX5_value_16)
def F_X5_box (AZ : ST) (w1 : Int32) (w2 : Int32) : Option ((Int32) ⊕ String) := obx (F_X5_demandParameter w1) (fun o1 => if (w2 : Int32) = 0 then (ck (inb w1 3) (some (.inl (AZ.2.1 w1.toNatClampNeg)))) else (ck (inb w1 3) (some (.inl (AZ.2.2.1 w1.toNatClampNeg)))))
theorem kX5_box_1 : (Cond.fieldLink RX5 12 "SelfTuner" "state" "LSelfTuner$State;") ∈ wsX5_box := List.mem_of_getElem? (i := 1) rfl
theorem iX5_box_X0 : ∀ w ∈ wsX00, w ∈ wsX5_box := fun w h => List.mem_cons_of_mem _ (List.mem_append_left _ (List.mem_append_right _ h))
theorem iX5_box_X3 : ∀ w ∈ wsX30, w ∈ wsX5_box := fun w h => List.mem_cons_of_mem _ (List.mem_append_left _ (List.mem_append_left _ (List.mem_append_right _ h)))
theorem iX5_box_X5 : ∀ w ∈ wsX50, w ∈ wsX5_box := fun w h => List.mem_cons_of_mem _ (List.mem_append_left _ (List.mem_append_left _ (List.mem_append_left _ (List.mem_append_right _ h))))
set_option maxHeartbeats 4000000 in
set_option maxRecDepth 100000 in
theorem c_X5_box (l : Launch) (hfl : l.stackTraces = false) (dC : Nat → ClassId) (dI : Nat → Nat → Nat) (cyI cyJ cyB cyS cyD : ClassId) (h : Nat) (bA : Nat → Nat) (bB : Nat → Nat) (aV : Nat) (yt : Nat) (sz : Nat) (xN : Int32) (AZ : ST) (w1 : Int32) (w2 : Int32) {out : (Int32) ⊕ String} (hF : F_X5_box AZ w1 w2 = some out) : Xi (T := Nat → Nat → Nat) l yX5_box wsX5_box ({ frames := 7, cells := 1, slots := 6, locals := 120 } : Room) (dC, dI) [(cyI, .int), (cyJ, .long), (cyB, .byte), (cyS, .object "SelfTuner$State"), (cyD, .double)] sz [.ref h, .int w1, .int w2] ((h, .inr (5, [.ref (bA 0), .ref (bB 0), .ref aV, .int xN, .ref yt])) :: (wB cyI cyJ bA AZ ++ [])) out (fun (v : Int32) => v) (fun (v : Int32) (bV : Nat → Nat → Nat) => ((h, .inr (5, [.ref (bA 0), .ref (bB 0), .ref aV, .int xN, .ref yt])) :: (wB cyI cyJ bA AZ ++ []))) 1 6 := by
  refine vx_ofW (cc := cX5_box) (maxL := 3) (ret := (some .int)) (by decide) rfl ?_
  intro p e s m args below meth c s₁ B hml htab hv
  obtain ⟨rfl, ⟨hN, hsz, hP, hK, hD0⟩, hZ, hT⟩ := hv
  have hx := B.exec
  have hb := B.bytes
  have hr := B.returns
  have hts := atoms_spec (ws := wsX5_box) B.pre
  have hown : s.vm.findClass RX5 = some m.cls := findClass_of_methodNamed B.named
  have hlocks := B.notSynchronized
  subst hsz
  have hD := hD0.self (sz := s.heap.size)
  generalize hAe : va_A ((h, .inr (5, [.ref (bA 0), .ref (bB 0), .ref aV, .int xN, .ref yt])) :: (wB cyI cyJ bA AZ ++ [])) s.heap.size = A at hD hZ ⊢
  have hA : ∀ q : Nat, s.heap.size ≤ q → A q := fun q h => by rw [← hAe]; exact Or.inr h
  have hS : va_S A s.heap s.heap [] := va_S.rf
  have hP : va_P (dC, dI) vwCl ((h, .inr (5, [.ref (bA 0), .ref (bB 0), .ref aV, .int xN, .ref yt])) :: (wB cyI cyJ bA AZ ++ [])) s.heap := hP
  have hl := lv_entry ([.ref h, .int w1, .int w2]) (n := 3) (Nat.le_of_ble_eq_true rfl)
  rw [lg_entry_eq]
  generalize (lg_sl ([.ref h, .int w1, .int w2]) ++ List.replicate (3 - (lg_sl ([.ref h, .int w1, .int w2])).length) Slot.unset).toArray = ls at hl ⊢
  have hl : lv_has ls 3 [(0, .ref h), (1, .int w1), (2, .int w2)] := hl
  unfold F_X5_box at hF
  refine lv_iload_n hx hb dX5_box_0 rfl (lv_at hl 1 rfl) ?_
  obtain ⟨oo1, hoo1, hoo1k⟩ := obx_e hF
  refine x_xcallv (wr := ((h, .inr (5, [.ref (bA 0), .ref (bB 0), .ref aV, .int xN, .ref yt])) :: (wB cyI cyJ bA AZ ++ []))) (ws' := fun o1 t2 => ((h, .inr (5, [.ref (bA 0), .ref (bB 0), .ref aV, .int xN, .ref yt])) :: (wB cyI cyJ bA AZ ++ []))) hoo1k hlocks htab hK (vx_runS (As := [.int w1]) (rest := []) ⟨hx, hb, hml, hown, hts⟩ (c_X5_demandParameter l hfl dC dI cyI cyJ cyB cyS cyD s.heap.size w1 hoo1) (va_cwS 1 hts gX5_box_X5_demandParameter rfl rfl rfl (by decide +kernel) ⟨Nat.le_of_ble_eq_true rfl, Nat.le_of_ble_eq_true rfl⟩) ⟨cPreX_blind, x_preX hN hZ hT hP hD hS hA hK [] rfl rfl⟩ rfl rfl hl.1 rfl (lv_room (Nat.le_of_ble_eq_true rfl)) dX5_box_1 ⟨Nat.le_of_ble_eq_true rfl, Nat.le_of_ble_eq_true rfl⟩) hP hD hS hA [] [0, 1, 2, 3, 4, 5, 6, 7, 8, 9, 10, 11, 12, 13, 14, 15] [0, 1, 2, 3, 4, 5, 6, 7, 8, 9, 10, 11, 12, 13, 14, 15] rfl rfl rfl (by decide) rfl (fun _ _ => rfl) rfl (Nat.le_of_ble_eq_true rfl) (Nat.le_of_ble_eq_true rfl) (fun o1 t2 H locs hF hP hD hS => ?_)
  refine lv_iload_n hx hb dX5_box_4 rfl (lv_at hl 2 rfl) ?_
  refine lv_if_eq (tgt := 23) hx hb dX5_box_5 (by decide) (fun c3 => ?_) (fun c3 => ?_)
  · have hF := ite_t hF c3
    refine lv_aload_n hx hb dX5_box_23 rfl (lv_at hl 0 rfl) ?_
    refine va_get (D := (dC, dI)) (ci := 5) (v := .ref (bA 0)) (C := RX5) (T := TX5) (N := 5) hx hb hts iX5_box_X5 hown hK hP 0 rfl rfl 0 (by decide) (hts _ kX5_box_1) (fun _ h9 => h9) rfl dX5_box_24 ?_
    refine va_getN (D := (dC, dI)) (ci := 3) (v := .ref (bA 2)) (C := RX3) (T := TX3) (N := 3) hx hb hts iX5_box_X3 hown hK hP 1 rfl rfl 1 (by decide) (va_Nw.use rfl (nf_X5_57 hN)) (fun _ h9 => h9) rfl dX5_box_27 ?_
    refine va_getN (D := (dC, dI)) (ci := 0) (v := .ref (bA 3)) (C := RX0) (T := TX0) (N := 8) hx hb hts iX5_box_X0 hown hK hP 3 rfl rfl 0 (by decide) (va_Nw.use rfl (nf_X5_61 hN)) (fun _ h9 => h9) rfl dX5_box_30 ?_
    refine lv_iload_n hx hb dX5_box_33 rfl (lv_at hl 1 rfl) ?_
    obtain ⟨g4, hF⟩ := ck_e hF
    refine x_iald hx hb hK hP 4 0 rfl rfl rfl g4 dX5_box_34 ?_
    obtain rfl := some_e hF
    refine W.widen (k := 1) (n := 6) (Nat.le_of_ble_eq_true rfl) (Nat.le_of_ble_eq_true rfl) ?_
    exact vx_ret (W.iret (v := AZ.2.1 w1.toNatClampNeg) hx hb hr (fun t ht hW => ⟨⟨AZ.2.1 w1.toNatClampNeg, (AZ.2.1 w1.toNatClampNeg, (fun _ _ => 0)), rfl, ⟨rfl, rfl⟩, ⟨by rw [ht]; exact hP, va_K.moved hW.alike hK, hD⟩⟩, hS.F ht⟩) hS.2.2 dX5_box_35)
  · have hF := ite_f hF c3
    refine lv_aload_n hx hb dX5_box_8 rfl (lv_at hl 0 rfl) ?_
    refine va_get (D := (dC, dI)) (ci := 5) (v := .ref (bA 0)) (C := RX5) (T := TX5) (N := 5) hx hb hts iX5_box_X5 hown hK hP 0 rfl rfl 0 (by decide) (hts _ kX5_box_1) (fun _ h9 => h9) rfl dX5_box_9 ?_
    refine va_getN (D := (dC, dI)) (ci := 3) (v := .ref (bA 2)) (C := RX3) (T := TX3) (N := 3) hx hb hts iX5_box_X3 hown hK hP 1 rfl rfl 1 (by decide) (va_Nw.use rfl (nf_X5_57 hN)) (fun _ h9 => h9) rfl dX5_box_12 ?_
    refine va_getN (D := (dC, dI)) (ci := 0) (v := .ref (bA 4)) (C := RX0) (T := TX0) (N := 8) hx hb hts iX5_box_X0 hown hK hP 3 rfl rfl 1 (by decide) (va_Nw.use rfl (nf_X5_66 hN)) (fun _ h9 => h9) rfl dX5_box_15 ?_
    refine lv_iload_n hx hb dX5_box_18 rfl (lv_at hl 1 rfl) ?_
    obtain ⟨g5, hF⟩ := ck_e hF
    refine x_iald hx hb hK hP 5 0 rfl rfl rfl g5 dX5_box_19 ?_
    refine lv_goto (tgt := 35) hx hb dX5_box_20 (by decide) ?_
    obtain rfl := some_e hF
    refine W.widen (k := 1) (n := 6) (Nat.le_of_ble_eq_true rfl) (Nat.le_of_ble_eq_true rfl) ?_
    exact vx_ret (W.iret (v := AZ.2.2.1 w1.toNatClampNeg) hx hb hr (fun t ht hW => ⟨⟨AZ.2.2.1 w1.toNatClampNeg, (AZ.2.2.1 w1.toNatClampNeg, (fun _ _ => 0)), rfl, ⟨rfl, rfl⟩, ⟨by rw [ht]; exact hP, va_K.moved hW.alike hK, hD⟩⟩, hS.F ht⟩) hS.2.2 dX5_box_35)
def F_X5_parameter (AZ : ST) (w1 : Int32) : Option ((Int32) ⊕ String) := obx (F_X5_demandParameter w1) (fun o1 => ck (inb w1 3) (some (.inl (AZ.2.2.2.1 w1.toNatClampNeg))))
theorem kX5_parameter_1 : (Cond.fieldLink RX5 12 "SelfTuner" "state" "LSelfTuner$State;") ∈ wsX5_parameter := List.mem_of_getElem? (i := 1) rfl
theorem iX5_parameter_X0 : ∀ w ∈ wsX00, w ∈ wsX5_parameter := fun w h => List.mem_cons_of_mem _ (List.mem_append_left _ (List.mem_append_right _ h))
theorem iX5_parameter_X3 : ∀ w ∈ wsX30, w ∈ wsX5_parameter := fun w h => List.mem_cons_of_mem _ (List.mem_append_left _ (List.mem_append_left _ (List.mem_append_right _ h)))
theorem iX5_parameter_X5 : ∀ w ∈ wsX50, w ∈ wsX5_parameter := fun w h => List.mem_cons_of_mem _ (List.mem_append_left _ (List.mem_append_left _ (List.mem_append_left _ (List.mem_append_right _ h))))
set_option maxHeartbeats 4000000 in
set_option maxRecDepth 100000 in
theorem c_X5_parameter (l : Launch) (hfl : l.stackTraces = false) (dC : Nat → ClassId) (dI : Nat → Nat → Nat) (cyI cyJ cyB cyS cyD : ClassId) (h : Nat) (bA : Nat → Nat) (bB : Nat → Nat) (aV : Nat) (yt : Nat) (sz : Nat) (xN : Int32) (AZ : ST) (w1 : Int32) {out : (Int32) ⊕ String} (hF : F_X5_parameter AZ w1 = some out) : Xi (T := Nat → Nat → Nat) l yX5_parameter wsX5_parameter ({ frames := 7, cells := 1, slots := 6, locals := 120 } : Room) (dC, dI) [(cyI, .int), (cyJ, .long), (cyB, .byte), (cyS, .object "SelfTuner$State"), (cyD, .double)] sz [.ref h, .int w1] ((h, .inr (5, [.ref (bA 0), .ref (bB 0), .ref aV, .int xN, .ref yt])) :: (wB cyI cyJ bA AZ ++ [])) out (fun (v : Int32) => v) (fun (v : Int32) (bV : Nat → Nat → Nat) => ((h, .inr (5, [.ref (bA 0), .ref (bB 0), .ref aV, .int xN, .ref yt])) :: (wB cyI cyJ bA AZ ++ []))) 1 6 := by
  refine vx_ofW (cc := cX5_parameter) (maxL := 2) (ret := (some .int)) (by decide) rfl ?_
  intro p e s m args below meth c s₁ B hml htab hv
  obtain ⟨rfl, ⟨hN, hsz, hP, hK, hD0⟩, hZ, hT⟩ := hv
  have hx := B.exec
  have hb := B.bytes
  have hr := B.returns
  have hts := atoms_spec (ws := wsX5_parameter) B.pre
  have hown : s.vm.findClass RX5 = some m.cls := findClass_of_methodNamed B.named
  have hlocks := B.notSynchronized
  subst hsz
  have hD := hD0.self (sz := s.heap.size)
  generalize hAe : va_A ((h, .inr (5, [.ref (bA 0), .ref (bB 0), .ref aV, .int xN, .ref yt])) :: (wB cyI cyJ bA AZ ++ [])) s.heap.size = A at hD hZ ⊢
  have hA : ∀ q : Nat, s.heap.size ≤ q → A q := fun q h => by rw [← hAe]; exact Or.inr h
  have hS : va_S A s.heap s.heap [] := va_S.rf
  have hP : va_P (dC, dI) vwCl ((h, .inr (5, [.ref (bA 0), .ref (bB 0), .ref aV, .int xN, .ref yt])) :: (wB cyI cyJ bA AZ ++ [])) s.heap := hP
  have hl := lv_entry ([.ref h, .int w1]) (n := 2) (Nat.le_of_ble_eq_true rfl)
  rw [lg_entry_eq]
  generalize (lg_sl ([.ref h, .int w1]) ++ List.replicate (2 - (lg_sl ([.ref h, .int w1])).length) Slot.unset).toArray = ls at hl ⊢
  have hl : lv_has ls 2 [(0, .ref h), (1, .int w1)] := hl
  unfold F_X5_parameter at hF
  refine lv_iload_n hx hb dX5_parameter_0 rfl (lv_at hl 1 rfl) ?_
  obtain ⟨oo1, hoo1, hoo1k⟩ := obx_e hF
  refine x_xcallv (wr := ((h, .inr (5, [.ref (bA 0), .ref (bB 0), .ref aV, .int xN, .ref yt])) :: (wB cyI cyJ bA AZ ++ []))) (ws' := fun o1 t2 => ((h, .inr (5, [.ref (bA 0), .ref (bB 0), .ref aV, .int xN, .ref yt])) :: (wB cyI cyJ bA AZ ++ []))) hoo1k hlocks htab hK (vx_runS (As := [.int w1]) (rest := []) ⟨hx, hb, hml, hown, hts⟩ (c_X5_demandParameter l hfl dC dI cyI cyJ cyB cyS cyD s.heap.size w1 hoo1) (va_cwS 1 hts gX5_parameter_X5_demandParameter rfl rfl rfl (by decide +kernel) ⟨Nat.le_of_ble_eq_true rfl, Nat.le_of_ble_eq_true rfl⟩) ⟨cPreX_blind, x_preX hN hZ hT hP hD hS hA hK [] rfl rfl⟩ rfl rfl hl.1 rfl (lv_room (Nat.le_of_ble_eq_true rfl)) dX5_parameter_1 ⟨Nat.le_of_ble_eq_true rfl, Nat.le_of_ble_eq_true rfl⟩) hP hD hS hA [] [0, 1, 2, 3, 4, 5, 6, 7, 8, 9, 10, 11, 12, 13, 14, 15] [0, 1, 2, 3, 4, 5, 6, 7, 8, 9, 10, 11, 12, 13, 14, 15] rfl rfl rfl (by decide) rfl (fun _ _ => rfl) rfl (Nat.le_of_ble_eq_true rfl) (Nat.le_of_ble_eq_true rfl) (fun o1 t2 H locs hF hP hD hS => ?_)
  refine lv_aload_n hx hb dX5_parameter_4 rfl (lv_at hl 0 rfl) ?_
  refine va_get (D := (dC, dI)) (ci := 5) (v := .ref (bA 0)) (C := RX5) (T := TX5) (N := 5) hx hb hts iX5_parameter_X5 hown hK hP 0 rfl rfl 0 (by decide) (hts _ kX5_parameter_1) (fun _ h9 => h9) rfl dX5_parameter_5 ?_
  refine va_getN (D := (dC, dI)) (ci := 3) (v := .ref (bA 2)) (C := RX3) (T := TX3) (N := 3) hx hb hts iX5_parameter_X3 hown hK hP 1 rfl rfl 1 (by decide) (va_Nw.use rfl (nf_X5_57 hN)) (fun _ h9 => h9) rfl dX5_parameter_8 ?_
  refine va_getN (D := (dC, dI)) (ci := 0) (v := .ref (bA 5)) (C := RX0) (T := TX0) (N := 8) hx hb hts iX5_parameter_X0 hown hK hP 3 rfl rfl 2 (by decide) (va_Nw.use rfl (nf_X5_69 hN)) (fun _ h9 => h9) rfl dX5_parameter_11 ?_
  refine lv_iload_n hx hb dX5_parameter_14 rfl (lv_at hl 1 rfl) ?_
  obtain ⟨g3, hF⟩ := ck_e hF
  refine x_iald hx hb hK hP 6 0 rfl rfl rfl g3 dX5_parameter_15 ?_
  obtain rfl := some_e hF
  refine W.widen (k := 1) (n := 6) (Nat.le_of_ble_eq_true rfl) (Nat.le_of_ble_eq_true rfl) ?_
  exact vx_ret (W.iret (v := AZ.2.2.2.1 w1.toNatClampNeg) hx hb hr (fun t ht hW => ⟨⟨AZ.2.2.2.1 w1.toNatClampNeg, (AZ.2.2.2.1 w1.toNatClampNeg, (fun _ _ => 0)), rfl, ⟨rfl, rfl⟩, ⟨by rw [ht]; exact hP, va_K.moved hW.alike hK, hD⟩⟩, hS.F ht⟩) hS.2.2 dX5_parameter_16)
def F_X5_covariance (AZ : ST) (w1 : Int32) (w2 : Int32) : Option ((Int64) ⊕ String) := obx (F_X5_demandParameter w1) (fun o1 => obx (F_X5_demandParameter w2) (fun o3 => ck (inb ((3 * w1) + w2) 9) (some (.inl (AZ.2.2.2.2.1 (((3 * w1) + w2).toNatClampNeg))))))
theorem kX5_covariance_1 : (Cond.fieldLink RX5 12 "SelfTuner" "state" "LSelfTuner$State;") ∈ wsX5_covariance := List.mem_of_getElem? (i := 1) rfl
theorem iX5_covariance_X0 : ∀ w ∈ wsX00, w ∈ wsX5_covariance := fun w h => List.mem_cons_of_mem _ (List.mem_append_left _ (List.mem_append_right _ h))
theorem iX5_covariance_X3 : ∀ w ∈ wsX30, w ∈ wsX5_covariance := fun w h => List.mem_cons_of_mem _ (List.mem_append_left _ (List.mem_append_left _ (List.mem_append_right _ h)))
theorem iX5_covariance_X5 : ∀ w ∈ wsX50, w ∈ wsX5_covariance := fun w h => List.mem_cons_of_mem _ (List.mem_append_left _ (List.mem_append_left _ (List.mem_append_left _ (List.mem_append_right _ h))))
set_option maxHeartbeats 4000000 in
set_option maxRecDepth 100000 in
theorem c_X5_covariance (l : Launch) (hfl : l.stackTraces = false) (dC : Nat → ClassId) (dI : Nat → Nat → Nat) (cyI cyJ cyB cyS cyD : ClassId) (h : Nat) (bA : Nat → Nat) (bB : Nat → Nat) (aV : Nat) (yt : Nat) (sz : Nat) (xN : Int32) (AZ : ST) (w1 : Int32) (w2 : Int32) {out : (Int64) ⊕ String} (hF : F_X5_covariance AZ w1 w2 = some out) : Xl (T := Nat → Nat → Nat) l yX5_covariance wsX5_covariance ({ frames := 7, cells := 2, slots := 12, locals := 120 } : Room) (dC, dI) [(cyI, .int), (cyJ, .long), (cyB, .byte), (cyS, .object "SelfTuner$State"), (cyD, .double)] sz [.ref h, .int w1, .int w2] ((h, .inr (5, [.ref (bA 0), .ref (bB 0), .ref aV, .int xN, .ref yt])) :: (wB cyI cyJ bA AZ ++ [])) out (fun (v : Int64) => v) (fun (v : Int64) (bV : Nat → Nat → Nat) => ((h, .inr (5, [.ref (bA 0), .ref (bB 0), .ref aV, .int xN, .ref yt])) :: (wB cyI cyJ bA AZ ++ []))) 2 12 := by
  refine vx_ofW (cc := cX5_covariance) (maxL := 3) (ret := (some .long)) (by decide) rfl ?_
  intro p e s m args below meth c s₁ B hml htab hv
  obtain ⟨rfl, ⟨hN, hsz, hP, hK, hD0⟩, hZ, hT⟩ := hv
  have hx := B.exec
  have hb := B.bytes
  have hr := B.returns
  have hts := atoms_spec (ws := wsX5_covariance) B.pre
  have hown : s.vm.findClass RX5 = some m.cls := findClass_of_methodNamed B.named
  have hlocks := B.notSynchronized
  subst hsz
  have hD := hD0.self (sz := s.heap.size)
  generalize hAe : va_A ((h, .inr (5, [.ref (bA 0), .ref (bB 0), .ref aV, .int xN, .ref yt])) :: (wB cyI cyJ bA AZ ++ [])) s.heap.size = A at hD hZ ⊢
  have hA : ∀ q : Nat, s.heap.size ≤ q → A q := fun q h => by rw [← hAe]; exact Or.inr h
  have hS : va_S A s.heap s.heap [] := va_S.rf
  have hP : va_P (dC, dI) vwCl ((h, .inr (5, [.ref (bA 0), .ref (bB 0), .ref aV, .int xN, .ref yt])) :: (wB cyI cyJ bA AZ ++ [])) s.heap := hP
  have hl := lv_entry ([.ref h, .int w1, .int w2]) (n := 3) (Nat.le_of_ble_eq_true rfl)
  rw [lg_entry_eq]
  generalize (lg_sl ([.ref h, .int w1, .int w2]) ++ List.replicate (3 - (lg_sl ([.ref h, .int w1, .int w2])).length) Slot.unset).toArray = ls at hl ⊢
  have hl : lv_has ls 3 [(0, .ref h), (1, .int w1), (2, .int w2)] := hl
  unfold F_X5_covariance at hF
  refine lv_iload_n hx hb dX5_covariance_0 rfl (lv_at hl 1 rfl) ?_
  obtain ⟨oo1, hoo1, hoo1k⟩ := obx_e hF
  refine x_xcallv (wr := ((h, .inr (5, [.ref (bA 0), .ref (bB 0), .ref aV, .int xN, .ref yt])) :: (wB cyI cyJ bA AZ ++ []))) (ws' := fun o1 t2 => ((h, .inr (5, [.ref (bA 0), .ref (bB 0), .ref aV, .int xN, .ref yt])) :: (wB cyI cyJ bA AZ ++ []))) hoo1k hlocks htab hK (vx_runS (As := [.int w1]) (rest := []) ⟨hx, hb, hml, hown, hts⟩ (c_X5_demandParameter l hfl dC dI cyI cyJ cyB cyS cyD s.heap.size w1 hoo1) (va_cwS 1 hts gX5_covariance_X5_demandParameter rfl rfl rfl (by decide +kernel) ⟨Nat.le_of_ble_eq_true rfl, Nat.le_of_ble_eq_true rfl⟩) ⟨cPreX_blind, x_preX hN hZ hT hP hD hS hA hK [] rfl rfl⟩ rfl rfl hl.1 rfl (lv_room (Nat.le_of_ble_eq_true rfl)) dX5_covariance_1 ⟨Nat.le_of_ble_eq_true rfl, Nat.le_of_ble_eq_true rfl⟩) hP hD hS hA [] [0, 1, 2, 3, 4, 5, 6, 7, 8, 9, 10, 11, 12, 13, 14, 15] [0, 1, 2, 3, 4, 5, 6, 7, 8, 9, 10, 11, 12, 13, 14, 15] rfl rfl rfl (by decide) rfl (fun _ _ => rfl) rfl (Nat.le_of_ble_eq_true rfl) (Nat.le_of_ble_eq_true rfl) (fun o1 t2 H locs hF hP hD hS => ?_)
  refine lv_iload_n hx hb dX5_covariance_4 rfl (lv_at hl 2 rfl) ?_
  obtain ⟨oo3, hoo3, hoo3k⟩ := obx_e hF
  refine x_xcallv (wr := ((h, .inr (5, [.ref (bA 0), .ref (bB 0), .ref aV, .int xN, .ref yt])) :: (wB cyI cyJ bA AZ ++ []))) (ws' := fun o3 t4 => ((h, .inr (5, [.ref (bA 0), .ref (bB 0), .ref aV, .int xN, .ref yt])) :: (wB cyI cyJ bA AZ ++ []))) hoo3k hlocks htab hK (vx_runS (As := [.int w2]) (rest := []) ⟨hx, hb, hml, hown, hts⟩ (c_X5_demandParameter l hfl dC dI cyI cyJ cyB cyS cyD H.size w2 hoo3) (va_cwS 1 hts gX5_covariance_X5_demandParameter rfl rfl rfl (by decide +kernel) ⟨Nat.le_of_ble_eq_true rfl, Nat.le_of_ble_eq_true rfl⟩) ⟨cPreX_blind, x_preX hN hZ hT hP hD hS hA hK [] rfl rfl⟩ rfl rfl hl.1 rfl (lv_room (Nat.le_of_ble_eq_true rfl)) dX5_covariance_5 ⟨Nat.le_of_ble_eq_true rfl, Nat.le_of_ble_eq_true rfl⟩) hP hD hS hA [] [0, 1, 2, 3, 4, 5, 6, 7, 8, 9, 10, 11, 12, 13, 14, 15] [0, 1, 2, 3, 4, 5, 6, 7, 8, 9, 10, 11, 12, 13, 14, 15] rfl rfl rfl (by decide) rfl (fun _ _ => rfl) rfl (Nat.le_of_ble_eq_true rfl) (Nat.le_of_ble_eq_true rfl) (fun o3 t4 H locs hF hP hD hS => ?_)
  refine lv_aload_n hx hb dX5_covariance_8 rfl (lv_at hl 0 rfl) ?_
  refine va_get (D := (dC, dI)) (ci := 5) (v := .ref (bA 0)) (C := RX5) (T := TX5) (N := 5) hx hb hts iX5_covariance_X5 hown hK hP 0 rfl rfl 0 (by decide) (hts _ kX5_covariance_1) (fun _ h9 => h9) rfl dX5_covariance_9 ?_
  refine va_getN (D := (dC, dI)) (ci := 3) (v := .ref (bA 2)) (C := RX3) (T := TX3) (N := 3) hx hb hts iX5_covariance_X3 hown hK hP 1 rfl rfl 1 (by decide) (va_Nw.use rfl (nf_X5_57 hN)) (fun _ h9 => h9) rfl dX5_covariance_12 ?_
  refine va_getN (D := (dC, dI)) (ci := 0) (v := .ref (bA 6)) (C := RX0) (T := TX0) (N := 8) hx hb hts iX5_covariance_X0 hown hK hP 3 rfl rfl 3 (by decide) (va_Nw.use rfl (nf_X5_115 hN)) (fun _ h9 => h9) rfl dX5_covariance_15 ?_
  refine lv_iconst (v := 3) hx hb dX5_covariance_18 (by decide) ?_
  refine lv_iload_n hx hb dX5_covariance_19 rfl (lv_at hl 1 rfl) ?_
  refine lv_imul hx hb dX5_covariance_20 ?_
  refine lv_iload_n hx hb dX5_covariance_21 rfl (lv_at hl 2 rfl) ?_
  refine lv_iadd hx hb dX5_covariance_22 ?_
  obtain ⟨g5, hF⟩ := ck_e hF
  refine x_lald hx hb hK hP 7 1 rfl rfl rfl g5 dX5_covariance_23 ?_
  obtain rfl := some_e hF
  refine W.widen (k := 2) (n := 12) (Nat.le_of_ble_eq_true rfl) (Nat.le_of_ble_eq_true rfl) ?_
  exact vx_ret (W.lret (v := AZ.2.2.2.2.1 (((3 * w1) + w2).toNatClampNeg)) hx hb hr (fun t ht hW => ⟨⟨AZ.2.2.2.2.1 (((3 * w1) + w2).toNatClampNeg), (AZ.2.2.2.2.1 (((3 * w1) + w2).toNatClampNeg), (fun _ _ => 0)), rfl, ⟨rfl, rfl⟩, ⟨by rw [ht]; exact hP, va_K.moved hW.alike hK, hD⟩⟩, hS.F ht⟩) hS.2.2 dX5_covariance_24)
def F_X5_count (AZ : ST) (w1 : Int32) : Option ((Int32) ⊕ String) := obx (F_X5_demandRange w1 0 4) (fun o1 => ck (inb w1 5) (some (.inl (AZ.2.2.2.2.2.1 w1.toNatClampNeg))))
theorem kX5_count_1 : (Cond.fieldLink RX5 12 "SelfTuner" "state" "LSelfTuner$State;") ∈ wsX5_count := List.mem_of_getElem? (i := 1) rfl
theorem iX5_count_X0 : ∀ w ∈ wsX00, w ∈ wsX5_count := fun w h => List.mem_cons_of_mem _ (List.mem_append_left _ (List.mem_append_right _ h))
theorem iX5_count_X3 : ∀ w ∈ wsX30, w ∈ wsX5_count := fun w h => List.mem_cons_of_mem _ (List.mem_append_left _ (List.mem_append_left _ (List.mem_append_right _ h)))
theorem iX5_count_X5 : ∀ w ∈ wsX50, w ∈ wsX5_count := fun w h => List.mem_cons_of_mem _ (List.mem_append_left _ (List.mem_append_left _ (List.mem_append_left _ (List.mem_append_right _ h))))
set_option maxHeartbeats 4000000 in
set_option maxRecDepth 100000 in
theorem c_X5_count (l : Launch) (hfl : l.stackTraces = false) (dC : Nat → ClassId) (dI : Nat → Nat → Nat) (cyI cyJ cyB cyS cyD : ClassId) (h : Nat) (bA : Nat → Nat) (bB : Nat → Nat) (aV : Nat) (yt : Nat) (sz : Nat) (xN : Int32) (AZ : ST) (w1 : Int32) {out : (Int32) ⊕ String} (hF : F_X5_count AZ w1 = some out) : Xi (T := Nat → Nat → Nat) l yX5_count wsX5_count ({ frames := 7, cells := 1, slots := 6, locals := 122 } : Room) (dC, dI) [(cyI, .int), (cyJ, .long), (cyB, .byte), (cyS, .object "SelfTuner$State"), (cyD, .double)] sz [.ref h, .int w1] ((h, .inr (5, [.ref (bA 0), .ref (bB 0), .ref aV, .int xN, .ref yt])) :: (wB cyI cyJ bA AZ ++ [])) out (fun (v : Int32) => v) (fun (v : Int32) (bV : Nat → Nat → Nat) => ((h, .inr (5, [.ref (bA 0), .ref (bB 0), .ref aV, .int xN, .ref yt])) :: (wB cyI cyJ bA AZ ++ []))) 1 6 := by
  refine vx_ofW (cc := cX5_count) (maxL := 2) (ret := (some .int)) (by decide) rfl ?_
  intro p e s m args below meth c s₁ B hml htab hv
  obtain ⟨rfl, ⟨hN, hsz, hP, hK, hD0⟩, hZ, hT⟩ := hv
  have hx := B.exec
  have hb := B.bytes
  have hr := B.returns
  have hts := atoms_spec (ws := wsX5_count) B.pre
  have hown : s.vm.findClass RX5 = some m.cls := findClass_of_methodNamed B.named
  have hlocks := B.notSynchronized
  subst hsz
  have hD := hD0.self (sz := s.heap.size)
  generalize hAe : va_A ((h, .inr (5, [.ref (bA 0), .ref (bB 0), .ref aV, .int xN, .ref yt])) :: (wB cyI cyJ bA AZ ++ [])) s.heap.size = A at hD hZ ⊢
  have hA : ∀ q : Nat, s.heap.size ≤ q → A q := fun q h => by rw [← hAe]; exact Or.inr h
  have hS : va_S A s.heap s.heap [] := va_S.rf
  have hP : va_P (dC, dI) vwCl ((h, .inr (5, [.ref (bA 0), .ref (bB 0), .ref aV, .int xN, .ref yt])) :: (wB cyI cyJ bA AZ ++ [])) s.heap := hP
  have hl := lv_entry ([.ref h, .int w1]) (n := 2) (Nat.le_of_ble_eq_true rfl)
  rw [lg_entry_eq]
  generalize (lg_sl ([.ref h, .int w1]) ++ List.replicate (2 - (lg_sl ([.ref h, .int w1])).length) Slot.unset).toArray = ls at hl ⊢
  have hl : lv_has ls 2 [(0, .ref h), (1, .int w1)] := hl
  unfold F_X5_count at hF
  refine lv_iload_n hx hb dX5_count_0 rfl (lv_at hl 1 rfl) ?_
  refine lv_iconst (v := 0) hx hb dX5_count_1 (by decide) ?_
  refine lv_iconst (v := 4) hx hb dX5_count_2 (by decide) ?_
  obtain ⟨oo1, hoo1, hoo1k⟩ := obx_e hF
  refine x_xcallv (wr := ((h, .inr (5, [.ref (bA 0), .ref (bB 0), .ref aV, .int xN, .ref yt])) :: (wB cyI cyJ bA AZ ++ []))) (ws' := fun o1 t2 => ((h, .inr (5, [.ref (bA 0), .ref (bB 0), .ref aV, .int xN, .ref yt])) :: (wB cyI cyJ bA AZ ++ []))) hoo1k hlocks htab hK (vx_runS (As := [.int w1, .int 0, .int 4]) (rest := []) ⟨hx, hb, hml, hown, hts⟩ (c_X5_demandRange l hfl dC dI cyI cyJ cyB cyS cyD s.heap.size w1 0 4 hoo1) (va_cwS 3 hts gX5_count_X5_demandRange rfl rfl rfl (by decide +kernel) ⟨Nat.le_of_ble_eq_true rfl, Nat.le_of_ble_eq_true rfl⟩) ⟨cPreX_blind, x_preX hN hZ hT hP hD hS hA hK [] rfl rfl⟩ rfl rfl hl.1 rfl (lv_room (Nat.le_of_ble_eq_true rfl)) dX5_count_3 ⟨Nat.le_of_ble_eq_true rfl, Nat.le_of_ble_eq_true rfl⟩) hP hD hS hA [] [0, 1, 2, 3, 4, 5, 6, 7, 8, 9, 10, 11, 12, 13, 14, 15] [0, 1, 2, 3, 4, 5, 6, 7, 8, 9, 10, 11, 12, 13, 14, 15] rfl rfl rfl (by decide) rfl (fun _ _ => rfl) rfl (Nat.le_of_ble_eq_true rfl) (Nat.le_of_ble_eq_true rfl) (fun o1 t2 H locs hF hP hD hS => ?_)
  refine lv_aload_n hx hb dX5_count_6 rfl (lv_at hl 0 rfl) ?_
  refine va_get (D := (dC, dI)) (ci := 5) (v := .ref (bA 0)) (C := RX5) (T := TX5) (N := 5) hx hb hts iX5_count_X5 hown hK hP 0 rfl rfl 0 (by decide) (hts _ kX5_count_1) (fun _ h9 => h9) rfl dX5_count_7 ?_
  refine va_getN (D := (dC, dI)) (ci := 3) (v := .ref (bA 2)) (C := RX3) (T := TX3) (N := 3) hx hb hts iX5_count_X3 hown hK hP 1 rfl rfl 1 (by decide) (va_Nw.use rfl (nf_X5_57 hN)) (fun _ h9 => h9) rfl dX5_count_10 ?_
  refine va_getN (D := (dC, dI)) (ci := 0) (v := .ref (bA 7)) (C := RX0) (T := TX0) (N := 8) hx hb hts iX5_count_X0 hown hK hP 3 rfl rfl 4 (by decide) (va_Nw.use rfl (nf_X5_109 hN)) (fun _ h9 => h9) rfl dX5_count_13 ?_
  refine lv_iload_n hx hb dX5_count_16 rfl (lv_at hl 1 rfl) ?_
  obtain ⟨g3, hF⟩ := ck_e hF
  refine x_iald hx hb hK hP 8 0 rfl rfl rfl g3 dX5_count_17 ?_
  obtain rfl := some_e hF
  refine W.widen (k := 1) (n := 6) (Nat.le_of_ble_eq_true rfl) (Nat.le_of_ble_eq_true rfl) ?_
  exact vx_ret (W.iret (v := AZ.2.2.2.2.2.1 w1.toNatClampNeg) hx hb hr (fun t ht hW => ⟨⟨AZ.2.2.2.2.2.1 w1.toNatClampNeg, (AZ.2.2.2.2.2.1 w1.toNatClampNeg, (fun _ _ => 0)), rfl, ⟨rfl, rfl⟩, ⟨by rw [ht]; exact hP, va_K.moved hW.alike hK, hD⟩⟩, hS.F ht⟩) hS.2.2 dX5_count_18)
def F_X5_predict (AZ : ST) (w1 : Int32) (w2 : Int32) : Option ((Int64) ⊕ String) := obx (F_X5_demandSignal w1) (fun o1 => obx (F_X5_demandSignal w2) (fun o3 => ob (F_X0_weightedSum AZ.2.2.2.1 w1 w2) (fun o5 => ob (F_X5_divideDown o5 65536) (fun o6 => some (.inl o6)))))
theorem kX5_predict_1 : (Cond.fieldLink RX5 12 "SelfTuner" "state" "LSelfTuner$State;") ∈ wsX5_predict := List.mem_of_getElem? (i := 1) rfl
theorem kX5_predict_2 : (Cond.constantLong RX5 103 (65536)) ∈ wsX5_predict := List.mem_of_getElem? (i := 2) rfl
theorem kX5_predict_15 : (Cond.instanceMethod yX0_weightedSum) ∈ wsX5_predict := List.mem_of_getElem? (i := 15) rfl
theorem kX5_predict_16 : (Cond.initialized RX0) ∈ wsX5_predict := List.mem_of_getElem? (i := 16) rfl
theorem kX5_predict_17 : (Cond.selects RX0 yX0_weightedSum yX0_weightedSum) ∈ wsX5_predict := List.mem_of_getElem? (i := 17) rfl
theorem iX5_predict_X3 : ∀ w ∈ wsX30, w ∈ wsX5_predict := fun w h => List.mem_cons_of_mem _ (List.mem_append_left _ (List.mem_append_left _ (List.mem_append_right _ h)))
theorem iX5_predict_X5 : ∀ w ∈ wsX50, w ∈ wsX5_predict := fun w h => List.mem_cons_of_mem _ (List.mem_append_left _ (List.mem_append_left _ (List.mem_append_left _ (List.mem_append_right _ h))))
set_option maxHeartbeats 4000000 in
set_option maxRecDepth 100000 in
theorem c_X5_predict (l : Launch) (hfl : l.stackTraces = false) (dC : Nat → ClassId) (dI : Nat → Nat → Nat) (cyI cyJ cyB cyS cyD : ClassId) (h : Nat) (bA : Nat → Nat) (bB : Nat → Nat) (aV : Nat) (yt : Nat) (sz : Nat) (xN : Int32) (AZ : ST) (w1 : Int32) (w2 : Int32) {out : (Int64) ⊕ String} (hF : F_X5_predict AZ w1 w2 = some out) : Xl (T := Nat → Nat → Nat) l yX5_predict wsX5_predict ({ frames := 8, cells := 2, slots := 12, locals := 142 } : Room) (dC, dI) [(cyI, .int), (cyJ, .long), (cyB, .byte), (cyS, .object "SelfTuner$State"), (cyD, .double)] sz [.ref h, .int w1, .int w2] ((h, .inr (5, [.ref (bA 0), .ref (bB 0), .ref aV, .int xN, .ref yt])) :: (wB cyI cyJ bA AZ ++ [])) out (fun (v : Int64) => v) (fun (v : Int64) (bV : Nat → Nat → Nat) => ((h, .inr (5, [.ref (bA 0), .ref (bB 0), .ref aV, .int xN, .ref yt])) :: (wB cyI cyJ bA AZ ++ []))) 2 12 := by
  refine vx_ofW (cc := cX5_predict) (maxL := 3) (ret := (some .long)) (by decide) rfl ?_
  intro p e s m args below meth c s₁ B hml htab hv
  obtain ⟨rfl, ⟨hN, hsz, hP, hK, hD0⟩, hZ, hT⟩ := hv
  have hx := B.exec
  have hb := B.bytes
  have hr := B.returns
  have hts := atoms_spec (ws := wsX5_predict) B.pre
  have hown : s.vm.findClass RX5 = some m.cls := findClass_of_methodNamed B.named
  have hlocks := B.notSynchronized
  subst hsz
  have hD := hD0.self (sz := s.heap.size)
  generalize hAe : va_A ((h, .inr (5, [.ref (bA 0), .ref (bB 0), .ref aV, .int xN, .ref yt])) :: (wB cyI cyJ bA AZ ++ [])) s.heap.size = A at hD hZ ⊢
  have hA : ∀ q : Nat, s.heap.size ≤ q → A q := fun q h => by rw [← hAe]; exact Or.inr h
  have hS : va_S A s.heap s.heap [] := va_S.rf
  have hP : va_P (dC, dI) vwCl ((h, .inr (5, [.ref (bA 0), .ref (bB 0), .ref aV, .int xN, .ref yt])) :: (wB cyI cyJ bA AZ ++ [])) s.heap := hP
  have hl := lv_entry ([.ref h, .int w1, .int w2]) (n := 3) (Nat.le_of_ble_eq_true rfl)
  rw [lg_entry_eq]
  generalize (lg_sl ([.ref h, .int w1, .int w2]) ++ List.replicate (3 - (lg_sl ([.ref h, .int w1, .int w2])).length) Slot.unset).toArray = ls at hl ⊢
  have hl : lv_has ls 3 [(0, .ref h), (1, .int w1), (2, .int w2)] := hl
  unfold F_X5_predict at hF
  refine lv_iload_n hx hb dX5_predict_0 rfl (lv_at hl 1 rfl) ?_
  obtain ⟨oo1, hoo1, hoo1k⟩ := obx_e hF
  refine x_xcallv (wr := ((h, .inr (5, [.ref (bA 0), .ref (bB 0), .ref aV, .int xN, .ref yt])) :: (wB cyI cyJ bA AZ ++ []))) (ws' := fun o1 t2 => ((h, .inr (5, [.ref (bA 0), .ref (bB 0), .ref aV, .int xN, .ref yt])) :: (wB cyI cyJ bA AZ ++ []))) hoo1k hlocks htab hK (vx_runS (As := [.int w1]) (rest := []) ⟨hx, hb, hml, hown, hts⟩ (c_X5_demandSignal l hfl dC dI cyI cyJ cyB cyS cyD s.heap.size w1 hoo1) (va_cwS 1 hts gX5_predict_X5_demandSignal rfl rfl rfl (by decide +kernel) ⟨Nat.le_of_ble_eq_true rfl, Nat.le_of_ble_eq_true rfl⟩) ⟨cPreX_blind, x_preX hN hZ hT hP hD hS hA hK [] rfl rfl⟩ rfl rfl hl.1 rfl (lv_room (Nat.le_of_ble_eq_true rfl)) dX5_predict_1 ⟨Nat.le_of_ble_eq_true rfl, Nat.le_of_ble_eq_true rfl⟩) hP hD hS hA [] [0, 1, 2, 3, 4, 5, 6, 7, 8, 9, 10, 11, 12, 13, 14, 15] [0, 1, 2, 3, 4, 5, 6, 7, 8, 9, 10, 11, 12, 13, 14, 15] rfl rfl rfl (by decide) rfl (fun _ _ => rfl) rfl (Nat.le_of_ble_eq_true rfl) (Nat.le_of_ble_eq_true rfl) (fun o1 t2 H locs hF hP hD hS => ?_)
  refine lv_iload_n hx hb dX5_predict_4 rfl (lv_at hl 2 rfl) ?_
  obtain ⟨oo3, hoo3, hoo3k⟩ := obx_e hF
  refine x_xcallv (wr := ((h, .inr (5, [.ref (bA 0), .ref (bB 0), .ref aV, .int xN, .ref yt])) :: (wB cyI cyJ bA AZ ++ []))) (ws' := fun o3 t4 => ((h, .inr (5, [.ref (bA 0), .ref (bB 0), .ref aV, .int xN, .ref yt])) :: (wB cyI cyJ bA AZ ++ []))) hoo3k hlocks htab hK (vx_runS (As := [.int w2]) (rest := []) ⟨hx, hb, hml, hown, hts⟩ (c_X5_demandSignal l hfl dC dI cyI cyJ cyB cyS cyD H.size w2 hoo3) (va_cwS 1 hts gX5_predict_X5_demandSignal rfl rfl rfl (by decide +kernel) ⟨Nat.le_of_ble_eq_true rfl, Nat.le_of_ble_eq_true rfl⟩) ⟨cPreX_blind, x_preX hN hZ hT hP hD hS hA hK [] rfl rfl⟩ rfl rfl hl.1 rfl (lv_room (Nat.le_of_ble_eq_true rfl)) dX5_predict_5 ⟨Nat.le_of_ble_eq_true rfl, Nat.le_of_ble_eq_true rfl⟩) hP hD hS hA [] [0, 1, 2, 3, 4, 5, 6, 7, 8, 9, 10, 11, 12, 13, 14, 15] [0, 1, 2, 3, 4, 5, 6, 7, 8, 9, 10, 11, 12, 13, 14, 15] rfl rfl rfl (by decide) rfl (fun _ _ => rfl) rfl (Nat.le_of_ble_eq_true rfl) (Nat.le_of_ble_eq_true rfl) (fun o3 t4 H locs hF hP hD hS => ?_)
  refine lv_aload_n hx hb dX5_predict_8 rfl (lv_at hl 0 rfl) ?_
  refine va_get (D := (dC, dI)) (ci := 5) (v := .ref (bA 0)) (C := RX5) (T := TX5) (N := 5) hx hb hts iX5_predict_X5 hown hK hP 0 rfl rfl 0 (by decide) (hts _ kX5_predict_1) (fun _ h9 => h9) rfl dX5_predict_9 ?_
  refine va_getN (D := (dC, dI)) (ci := 3) (v := .ref (bA 2)) (C := RX3) (T := TX3) (N := 3) hx hb hts iX5_predict_X3 hown hK hP 1 rfl rfl 1 (by decide) (va_Nw.use rfl (nf_X5_57 hN)) (fun _ h9 => h9) rfl dX5_predict_12 ?_
  refine lv_iload_n hx hb dX5_predict_15 rfl (lv_at hl 1 rfl) ?_
  refine lv_iload_n hx hb dX5_predict_16 rfl (lv_at hl 2 rfl) ?_
  obtain ⟨o5, ho5, hF⟩ := ob_e hF
  refine x_calll (wr := [(h, .inr (5, [.ref (bA 0), .ref (bB 0), .ref aV, .int xN, .ref yt])), ((bA 0), .inr (3, [.ref (bA 1), .ref (bA 2), .ref (bA 13)])), ((bA 1), .inl (cyI, 7, .inl AZ.1)), ((bA 13), .inr (1, [.ref (bA 14), .int AZ.2.2.2.2.2.2.2.2.2.2.2.1, .long AZ.2.2.2.2.2.2.2.2.2.2.2.2.1, .int AZ.2.2.2.2.2.2.2.2.2.2.2.2.2.1])), ((bA 14), .inl (cyI, 3, .inl AZ.2.2.2.2.2.2.2.2.2.2.2.2.2.2))]) (ws' := ((h, .inr (5, [.ref (bA 0), .ref (bB 0), .ref aV, .int xN, .ref yt])) :: (wB cyI cyJ bA AZ ++ []))) (va_runVN (As := [.int w1, .int w2]) (rest := []) ⟨hx, hb, hml, hown, hts⟩ (c_X0_weightedSum l dC dI cyI cyJ cyB cyS cyD (bA 2) (bA 3) (bA 4) (bA 5) (bA 6) (bA 7) (bA 10) (bA 8) (bA 9) (bA 11) (bA 12) H.size AZ.2.1 AZ.2.2.1 AZ.2.2.2.1 AZ.2.2.2.2.1 AZ.2.2.2.2.2.1 AZ.2.2.2.2.2.2.1 AZ.2.2.2.2.2.2.2.1 AZ.2.2.2.2.2.2.2.2.1 AZ.2.2.2.2.2.2.2.2.2.1 AZ.2.2.2.2.2.2.2.2.2.2.1 w1 w2 ho5) ⟨va_cnB 2 hts gX5_predict_X0_weightedSum_n119 rfl rfl rfl (nm_X5_119 hN) (hts _ kX5_predict_16) (by decide +kernel) ⟨Nat.le_of_ble_eq_true rfl, Nat.le_of_ble_eq_true rfl⟩, hts _ kX5_predict_15, hts _ kX5_predict_17⟩ ⟨cPre_blind, va_recv hK hP (ci := 0) (q0 := 3) rfl rfl, x_pre hN hP hD hK [3, 4, 5, 6, 7, 8, 9, 10, 11, 12, 13] rfl rfl⟩ rfl rfl hl.1 rfl (lv_room (Nat.le_of_ble_eq_true rfl)) dX5_predict_17 ⟨Nat.le_of_ble_eq_true rfl, Nat.le_of_ble_eq_true rfl⟩) hP hD hS hA [3, 4, 5, 6, 7, 8, 9, 10, 11, 12, 13] [0, 1, 2, 14, 15] [0, 1, 2, 5, 6, 7, 8, 9, 10, 11, 12, 13, 14, 15, 3, 4] rfl rfl rfl (by decide) rfl rfl (fun H locs hP hD hS => ?_)
  refine lv_ldc2 (v := 65536) hx hb hown (hts _ kX5_predict_2) dX5_predict_20 ?_
  obtain ⟨o6, ho6, hF⟩ := ob_e hF
  refine x_callzl (va_runS (As := [.long o5, .long 65536]) (rest := []) ⟨hx, hb, hml, hown, hts⟩ (c_X5_divideDown l o5 65536 ho6) (va_cwS 2 hts gX5_predict_X5_divideDown rfl rfl rfl (by decide +kernel) ⟨Nat.le_of_ble_eq_true rfl, Nat.le_of_ble_eq_true rfl⟩) ⟨true_blind, fun _ _ _ => ⟨rfl, trivial⟩⟩ rfl rfl hl.1 rfl (lv_room (Nat.le_of_ble_eq_true rfl)) dX5_predict_23 ⟨Nat.le_of_ble_eq_true rfl, Nat.le_of_ble_eq_true rfl⟩) ?_
  obtain rfl := some_e hF
  refine W.widen (k := 2) (n := 12) (Nat.le_of_ble_eq_true rfl) (Nat.le_of_ble_eq_true rfl) ?_
  exact vx_ret (W.lret (v := o6) hx hb hr (fun t ht hW => ⟨⟨o6, (o6, (fun _ _ => 0)), rfl, ⟨rfl, rfl⟩, ⟨by rw [ht]; exact hP, va_K.moved hW.alike hK, hD⟩⟩, hS.F ht⟩) hS.2.2 dX5_predict_26)
def F_X5_control (AZ : ST) (w1 : Int32) (w2 : Int32) : Option ((Int32) ⊕ String) := obx (F_X5_demandSignal w1) (fun o1 => obx (F_X5_demandSignal w2) (fun o3 => ob (F_X3_inputFor AZ w1 w2) (fun o5 => some (.inl o5))))
theorem kX5_control_1 : (Cond.fieldLink RX5 12 "SelfTuner" "state" "LSelfTuner$State;") ∈ wsX5_control := List.mem_of_getElem? (i := 1) rfl
theorem kX5_control_14 : (Cond.instanceMethod yX3_inputFor) ∈ wsX5_control := List.mem_of_getElem? (i := 14) rfl
theorem kX5_control_15 : (Cond.initialized RX3) ∈ wsX5_control := List.mem_of_getElem? (i := 15) rfl
theorem kX5_control_16 : (Cond.selects RX3 yX3_inputFor yX3_inputFor) ∈ wsX5_control := List.mem_of_getElem? (i := 16) rfl
theorem iX5_control_X5 : ∀ w ∈ wsX50, w ∈ wsX5_control := fun w h => List.mem_cons_of_mem _ (List.mem_append_left _ (List.mem_append_left _ (List.mem_append_left _ (List.mem_append_right _ h))))
set_option maxHeartbeats 4000000 in
set_option maxRecDepth 100000 in
theorem c_X5_control (l : Launch) (hfl : l.stackTraces = false) (dC : Nat → ClassId) (dI : Nat → Nat → Nat) (cyI cyJ cyB cyS cyD : ClassId) (h : Nat) (bA : Nat → Nat) (bB : Nat → Nat) (aV : Nat) (yt : Nat) (sz : Nat) (xN : Int32) (AZ : ST) (w1 : Int32) (w2 : Int32) {out : (Int32) ⊕ String} (hF : F_X5_control AZ w1 w2 = some out) : Xi (T := Nat → Nat → Nat) l yX5_control wsX5_control ({ frames := 8, cells := 2, slots := 12, locals := 142 } : Room) (dC, dI) [(cyI, .int), (cyJ, .long), (cyB, .byte), (cyS, .object "SelfTuner$State"), (cyD, .double)] sz [.ref h, .int w1, .int w2] ((h, .inr (5, [.ref (bA 0), .ref (bB 0), .ref aV, .int xN, .ref yt])) :: (wB cyI cyJ bA AZ ++ [])) out (fun (v : Int32) => v) (fun (v : Int32) (bV : Nat → Nat → Nat) => ((h, .inr (5, [.ref (bA 0), .ref (bB 0), .ref aV, .int xN, .ref yt])) :: (wB cyI cyJ bA AZ ++ []))) 2 12 := by
  refine vx_ofW (cc := cX5_control) (maxL := 3) (ret := (some .int)) (by decide) rfl ?_
  intro p e s m args below meth c s₁ B hml htab hv
  obtain ⟨rfl, ⟨hN, hsz, hP, hK, hD0⟩, hZ, hT⟩ := hv
  have hx := B.exec
  have hb := B.bytes
  have hr := B.returns
  have hts := atoms_spec (ws := wsX5_control) B.pre
  have hown : s.vm.findClass RX5 = some m.cls := findClass_of_methodNamed B.named
  have hlocks := B.notSynchronized
  subst hsz
  have hD := hD0.self (sz := s.heap.size)
  generalize hAe : va_A ((h, .inr (5, [.ref (bA 0), .ref (bB 0), .ref aV, .int xN, .ref yt])) :: (wB cyI cyJ bA AZ ++ [])) s.heap.size = A at hD hZ ⊢
  have hA : ∀ q : Nat, s.heap.size ≤ q → A q := fun q h => by rw [← hAe]; exact Or.inr h
  have hS : va_S A s.heap s.heap [] := va_S.rf
  have hP : va_P (dC, dI) vwCl ((h, .inr (5, [.ref (bA 0), .ref (bB 0), .ref aV, .int xN, .ref yt])) :: (wB cyI cyJ bA AZ ++ [])) s.heap := hP
  have hl := lv_entry ([.ref h, .int w1, .int w2]) (n := 3) (Nat.le_of_ble_eq_true rfl)
  rw [lg_entry_eq]
  generalize (lg_sl ([.ref h, .int w1, .int w2]) ++ List.replicate (3 - (lg_sl ([.ref h, .int w1, .int w2])).length) Slot.unset).toArray = ls at hl ⊢
  have hl : lv_has ls 3 [(0, .ref h), (1, .int w1), (2, .int w2)] := hl
  unfold F_X5_control at hF
  refine lv_iload_n hx hb dX5_control_0 rfl (lv_at hl 1 rfl) ?_
  obtain ⟨oo1, hoo1, hoo1k⟩ := obx_e hF
  refine x_xcallv (wr := ((h, .inr (5, [.ref (bA 0), .ref (bB 0), .ref aV, .int xN, .ref yt])) :: (wB cyI cyJ bA AZ ++ []))) (ws' := fun o1 t2 => ((h, .inr (5, [.ref (bA 0), .ref (bB 0), .ref aV, .int xN, .ref yt])) :: (wB cyI cyJ bA AZ ++ []))) hoo1k hlocks htab hK (vx_runS (As := [.int w1]) (rest := []) ⟨hx, hb, hml, hown, hts⟩ (c_X5_demandSignal l hfl dC dI cyI cyJ cyB cyS cyD s.heap.size w1 hoo1) (va_cwS 1 hts gX5_control_X5_demandSignal rfl rfl rfl (by decide +kernel) ⟨Nat.le_of_ble_eq_true rfl, Nat.le_of_ble_eq_true rfl⟩) ⟨cPreX_blind, x_preX hN hZ hT hP hD hS hA hK [] rfl rfl⟩ rfl rfl hl.1 rfl (lv_room (Nat.le_of_ble_eq_true rfl)) dX5_control_1 ⟨Nat.le_of_ble_eq_true rfl, Nat.le_of_ble_eq_true rfl⟩) hP hD hS hA [] [0, 1, 2, 3, 4, 5, 6, 7, 8, 9, 10, 11, 12, 13, 14, 15] [0, 1, 2, 3, 4, 5, 6, 7, 8, 9, 10, 11, 12, 13, 14, 15] rfl rfl rfl (by decide) rfl (fun _ _ => rfl) rfl (Nat.le_of_ble_eq_true rfl) (Nat.le_of_ble_eq_true rfl) (fun o1 t2 H locs hF hP hD hS => ?_)
  refine lv_iload_n hx hb dX5_control_4 rfl (lv_at hl 2 rfl) ?_
  obtain ⟨oo3, hoo3, hoo3k⟩ := obx_e hF
  refine x_xcallv (wr := ((h, .inr (5, [.ref (bA 0), .ref (bB 0), .ref aV, .int xN, .ref yt])) :: (wB cyI cyJ bA AZ ++ []))) (ws' := fun o3 t4 => ((h, .inr (5, [.ref (bA 0), .ref (bB 0), .ref aV, .int xN, .ref yt])) :: (wB cyI cyJ bA AZ ++ []))) hoo3k hlocks htab hK (vx_runS (As := [.int w2]) (rest := []) ⟨hx, hb, hml, hown, hts⟩ (c_X5_demandSignal l hfl dC dI cyI cyJ cyB cyS cyD H.size w2 hoo3) (va_cwS 1 hts gX5_control_X5_demandSignal rfl rfl rfl (by decide +kernel) ⟨Nat.le_of_ble_eq_true rfl, Nat.le_of_ble_eq_true rfl⟩) ⟨cPreX_blind, x_preX hN hZ hT hP hD hS hA hK [] rfl rfl⟩ rfl rfl hl.1 rfl (lv_room (Nat.le_of_ble_eq_true rfl)) dX5_control_5 ⟨Nat.le_of_ble_eq_true rfl, Nat.le_of_ble_eq_true rfl⟩) hP hD hS hA [] [0, 1, 2, 3, 4, 5, 6, 7, 8, 9, 10, 11, 12, 13, 14, 15] [0, 1, 2, 3, 4, 5, 6, 7, 8, 9, 10, 11, 12, 13, 14, 15] rfl rfl rfl (by decide) rfl (fun _ _ => rfl) rfl (Nat.le_of_ble_eq_true rfl) (Nat.le_of_ble_eq_true rfl) (fun o3 t4 H locs hF hP hD hS => ?_)
  refine lv_aload_n hx hb dX5_control_8 rfl (lv_at hl 0 rfl) ?_
  refine va_get (D := (dC, dI)) (ci := 5) (v := .ref (bA 0)) (C := RX5) (T := TX5) (N := 5) hx hb hts iX5_control_X5 hown hK hP 0 rfl rfl 0 (by decide) (hts _ kX5_control_1) (fun _ h9 => h9) rfl dX5_control_9 ?_
  refine lv_iload_n hx hb dX5_control_12 rfl (lv_at hl 1 rfl) ?_
  refine lv_iload_n hx hb dX5_control_13 rfl (lv_at hl 2 rfl) ?_
  obtain ⟨o5, ho5, hF⟩ := ob_e hF
  refine x_calli (wr := [(h, .inr (5, [.ref (bA 0), .ref (bB 0), .ref aV, .int xN, .ref yt]))]) (ws' := ((h, .inr (5, [.ref (bA 0), .ref (bB 0), .ref aV, .int xN, .ref yt])) :: (wB cyI cyJ bA AZ ++ []))) (va_runVN (As := [.int w1, .int w2]) (rest := []) ⟨hx, hb, hml, hown, hts⟩ (c_X3_inputFor l dC dI cyI cyJ cyB cyS cyD (bA 0) (bA 1) (bA 2) (bA 13) (bA 3) (bA 4) (bA 5) (bA 6) (bA 7) (bA 10) (bA 8) (bA 9) (bA 11) (bA 12) (bA 14) H.size AZ w1 w2 ho5) ⟨va_cnB 2 hts gX5_control_X3_inputFor_n152 rfl rfl rfl (nm_X5_152 hN) (hts _ kX5_control_15) (by decide +kernel) ⟨Nat.le_of_ble_eq_true rfl, Nat.le_of_ble_eq_true rfl⟩, hts _ kX5_control_14, hts _ kX5_control_16⟩ ⟨cPre_blind, va_recv hK hP (ci := 3) (q0 := 1) rfl rfl, x_pre hN hP hD hK [1, 2, 3, 4, 5, 6, 7, 8, 9, 10, 11, 12, 13, 14, 15] rfl rfl⟩ rfl rfl hl.1 rfl (lv_room (Nat.le_of_ble_eq_true rfl)) dX5_control_14 ⟨Nat.le_of_ble_eq_true rfl, Nat.le_of_ble_eq_true rfl⟩) hP hD hS hA [1, 2, 3, 4, 5, 6, 7, 8, 9, 10, 11, 12, 13, 14, 15] [0] [0, 1, 2, 3, 4, 5, 6, 7, 8, 9, 10, 11, 12, 13, 14, 15] rfl rfl rfl (by decide) rfl rfl (fun H locs hP hD hS => ?_)
  obtain rfl := some_e hF
  refine W.widen (k := 2) (n := 12) (Nat.le_of_ble_eq_true rfl) (Nat.le_of_ble_eq_true rfl) ?_
  exact vx_ret (W.iret (v := o5) hx hb hr (fun t ht hW => ⟨⟨o5, (o5, (fun _ _ => 0)), rfl, ⟨rfl, rfl⟩, ⟨by rw [ht]; exact hP, va_K.moved hW.alike hK, hD⟩⟩, hS.F ht⟩) hS.2.2 dX5_control_17)
def F_X5_bias (AZ : ST) (w1 : Int32) : Option ((Int32) ⊕ String) := obx (F_X5_demandParameter w1) (fun o1 => ck (inb w1 3) (ob (F_X5_divideDown (65536 * ((AZ.2.2.2.2.2.2.2.2.2.2.2.2.2.2 w1.toNatClampNeg).toInt64)) 1000) (fun o4 => ck (inb w1 3) (some (.inl ((((AZ.2.2.2.1 w1.toNatClampNeg).toInt64) - o4).toInt32))))))
theorem kX5_bias_1 : (Cond.constantLong RX5 103 (65536)) ∈ wsX5_bias := List.mem_of_getElem? (i := 1) rfl
theorem kX5_bias_2 : (Cond.fieldLink RX5 12 "SelfTuner" "state" "LSelfTuner$State;") ∈ wsX5_bias := List.mem_of_getElem? (i := 2) rfl
theorem kX5_bias_3 : (Cond.constantLong RX5 150 (1000)) ∈ wsX5_bias := List.mem_of_getElem? (i := 3) rfl
theorem iX5_bias_X0 : ∀ w ∈ wsX00, w ∈ wsX5_bias := fun w h => List.mem_cons_of_mem _ (List.mem_append_left _ (List.mem_append_right _ h))
theorem iX5_bias_X1 : ∀ w ∈ wsX10, w ∈ wsX5_bias := fun w h => List.mem_cons_of_mem _ (List.mem_append_left _ (List.mem_append_left _ (List.mem_append_right _ h)))
theorem iX5_bias_X3 : ∀ w ∈ wsX30, w ∈ wsX5_bias := fun w h => List.mem_cons_of_mem _ (List.mem_append_left _ (List.mem_append_left _ (List.mem_append_left _ (List.mem_append_right _ h))))
theorem iX5_bias_X5 : ∀ w ∈ wsX50, w ∈ wsX5_bias := fun w h => List.mem_cons_of_mem _ (List.mem_append_left _ (List.mem_append_left _ (List.mem_append_left _ (List.mem_append_left _ (List.mem_append_right _ h)))))
set_option maxHeartbeats 4000000 in
set_option maxRecDepth 100000 in
theorem c_X5_bias (l : Launch) (hfl : l.stackTraces = false) (dC : Nat → ClassId) (dI : Nat → Nat → Nat) (cyI cyJ cyB cyS cyD : ClassId) (h : Nat) (bA : Nat → Nat) (bB : Nat → Nat) (aV : Nat) (yt : Nat) (sz : Nat) (xN : Int32) (AZ : ST) (w1 : Int32) {out : (Int32) ⊕ String} (hF : F_X5_bias AZ w1 = some out) : Xi (T := Nat → Nat → Nat) l yX5_bias wsX5_bias ({ frames := 7, cells := 1, slots := 6, locals := 120 } : Room) (dC, dI) [(cyI, .int), (cyJ, .long), (cyB, .byte), (cyS, .object "SelfTuner$State"), (cyD, .double)] sz [.ref h, .int w1] ((h, .inr (5, [.ref (bA 0), .ref (bB 0), .ref aV, .int xN, .ref yt])) :: (wB cyI cyJ bA AZ ++ [])) out (fun (v : Int32) => v) (fun (v : Int32) (bV : Nat → Nat → Nat) => ((h, .inr (5, [.ref (bA 0), .ref (bB 0), .ref aV, .int xN, .ref yt])) :: (wB cyI cyJ bA AZ ++ []))) 1 6 := by
  refine vx_ofW (cc := cX5_bias) (maxL := 4) (ret := (some .int)) (by decide) rfl ?_
  intro p e s m args below meth c s₁ B hml htab hv
  obtain ⟨rfl, ⟨hN, hsz, hP, hK, hD0⟩, hZ, hT⟩ := hv
  have hx := B.exec
  have hb := B.bytes
  have hr := B.returns
  have hts := atoms_spec (ws := wsX5_bias) B.pre
  have hown : s.vm.findClass RX5 = some m.cls := findClass_of_methodNamed B.named
  have hlocks := B.notSynchronized
  subst hsz
  have hD := hD0.self (sz := s.heap.size)
  generalize hAe : va_A ((h, .inr (5, [.ref (bA 0), .ref (bB 0), .ref aV, .int xN, .ref yt])) :: (wB cyI cyJ bA AZ ++ [])) s.heap.size = A at hD hZ ⊢
  have hA : ∀ q : Nat, s.heap.size ≤ q → A q := fun q h => by rw [← hAe]; exact Or.inr h
  have hS : va_S A s.heap s.heap [] := va_S.rf
  have hP : va_P (dC, dI) vwCl ((h, .inr (5, [.ref (bA 0), .ref (bB 0), .ref aV, .int xN, .ref yt])) :: (wB cyI cyJ bA AZ ++ [])) s.heap := hP
  have hl := lv_entry ([.ref h, .int w1]) (n := 4) (Nat.le_of_ble_eq_true rfl)
  rw [lg_entry_eq]
  generalize (lg_sl ([.ref h, .int w1]) ++ List.replicate (4 - (lg_sl ([.ref h, .int w1])).length) Slot.unset).toArray = ls at hl ⊢
  have hl : lv_has ls 4 [(0, .ref h), (1, .int w1)] := hl
  unfold F_X5_bias at hF
  refine lv_iload_n hx hb dX5_bias_0 rfl (lv_at hl 1 rfl) ?_
  obtain ⟨oo1, hoo1, hoo1k⟩ := obx_e hF
  refine x_xcallv (wr := ((h, .inr (5, [.ref (bA 0), .ref (bB 0), .ref aV, .int xN, .ref yt])) :: (wB cyI cyJ bA AZ ++ []))) (ws' := fun o1 t2 => ((h, .inr (5, [.ref (bA 0), .ref (bB 0), .ref aV, .int xN, .ref yt])) :: (wB cyI cyJ bA AZ ++ []))) hoo1k hlocks htab hK (vx_runS (As := [.int w1]) (rest := []) ⟨hx, hb, hml, hown, hts⟩ (c_X5_demandParameter l hfl dC dI cyI cyJ cyB cyS cyD s.heap.size w1 hoo1) (va_cwS 1 hts gX5_bias_X5_demandParameter rfl rfl rfl (by decide +kernel) ⟨Nat.le_of_ble_eq_true rfl, Nat.le_of_ble_eq_true rfl⟩) ⟨cPreX_blind, x_preX hN hZ hT hP hD hS hA hK [] rfl rfl⟩ rfl rfl hl.1 rfl (lv_room (Nat.le_of_ble_eq_true rfl)) dX5_bias_1 ⟨Nat.le_of_ble_eq_true rfl, Nat.le_of_ble_eq_true rfl⟩) hP hD hS hA [] [0, 1, 2, 3, 4, 5, 6, 7, 8, 9, 10, 11, 12, 13, 14, 15] [0, 1, 2, 3, 4, 5, 6, 7, 8, 9, 10, 11, 12, 13, 14, 15] rfl rfl rfl (by decide) rfl (fun _ _ => rfl) rfl (Nat.le_of_ble_eq_true rfl) (Nat.le_of_ble_eq_true rfl) (fun o1 t2 H locs hF hP hD hS => ?_)
  refine lv_ldc2 (v := 65536) hx hb hown (hts _ kX5_bias_1) dX5_bias_4 ?_
  refine lv_aload_n hx hb dX5_bias_7 rfl (lv_at hl 0 rfl) ?_
  refine va_get (D := (dC, dI)) (ci := 5) (v := .ref (bA 0)) (C := RX5) (T := TX5) (N := 5) hx hb hts iX5_bias_X5 hown hK hP 0 rfl rfl 0 (by decide) (hts _ kX5_bias_2) (fun _ h9 => h9) rfl dX5_bias_8 ?_
  refine va_getN (D := (dC, dI)) (ci := 3) (v := .ref (bA 13)) (C := RX3) (T := TX3) (N := 3) hx hb hts iX5_bias_X3 hown hK hP 1 rfl rfl 2 (by decide) (va_Nw.use rfl (nf_X5_76 hN)) (fun _ h9 => h9) rfl dX5_bias_11 ?_
  refine va_getN (D := (dC, dI)) (ci := 1) (v := .ref (bA 14)) (C := RX1) (T := TX1) (N := 4) hx hb hts iX5_bias_X1 hown hK hP 14 rfl rfl 0 (by decide) (va_Nw.use rfl (nf_X5_80 hN)) (fun _ h9 => h9) rfl dX5_bias_14 ?_
  refine lv_iload_n hx hb dX5_bias_17 rfl (lv_at hl 1 rfl) ?_
  obtain ⟨g3, hF⟩ := ck_e hF
  refine x_iald hx hb hK hP 15 0 rfl rfl rfl g3 dX5_bias_18 ?_
  refine lv_i2l (v := (AZ.2.2.2.2.2.2.2.2.2.2.2.2.2.2 w1.toNatClampNeg).toInt64) hx hb dX5_bias_19 rfl ?_
  refine lv_lmul hx hb dX5_bias_20 ?_
  refine lv_ldc2 (v := 1000) hx hb hown (hts _ kX5_bias_3) dX5_bias_21 ?_
  obtain ⟨o4, ho4, hF⟩ := ob_e hF
  refine x_callzl (va_runS (As := [.long (65536 * ((AZ.2.2.2.2.2.2.2.2.2.2.2.2.2.2 w1.toNatClampNeg).toInt64)), .long 1000]) (rest := []) ⟨hx, hb, hml, hown, hts⟩ (c_X5_divideDown l (65536 * ((AZ.2.2.2.2.2.2.2.2.2.2.2.2.2.2 w1.toNatClampNeg).toInt64)) 1000 ho4) (va_cwS 2 hts gX5_bias_X5_divideDown rfl rfl rfl (by decide +kernel) ⟨Nat.le_of_ble_eq_true rfl, Nat.le_of_ble_eq_true rfl⟩) ⟨true_blind, fun _ _ _ => ⟨rfl, trivial⟩⟩ rfl rfl hl.1 rfl (lv_room (Nat.le_of_ble_eq_true rfl)) dX5_bias_24 ⟨Nat.le_of_ble_eq_true rfl, Nat.le_of_ble_eq_true rfl⟩) ?_
  refine lv_lstore_n (lv' := [(2, .long o4), (0, .ref h), (1, .int w1)]) hx hb dX5_bias_27 rfl hl (by decide) rfl (fun ls hl => ?_)
  refine lv_aload_n hx hb dX5_bias_28 rfl (lv_at hl 1 rfl) ?_
  refine va_get (D := (dC, dI)) (ci := 5) (v := .ref (bA 0)) (C := RX5) (T := TX5) (N := 5) hx hb hts iX5_bias_X5 hown hK hP 0 rfl rfl 0 (by decide) (hts _ kX5_bias_2) (fun _ h9 => h9) rfl dX5_bias_29 ?_
  refine va_getN (D := (dC, dI)) (ci := 3) (v := .ref (bA 2)) (C := RX3) (T := TX3) (N := 3) hx hb hts iX5_bias_X3 hown hK hP 1 rfl rfl 1 (by decide) (va_Nw.use rfl (nf_X5_57 hN)) (fun _ h9 => h9) rfl dX5_bias_32 ?_
  refine va_getN (D := (dC, dI)) (ci := 0) (v := .ref (bA 5)) (C := RX0) (T := TX0) (N := 8) hx hb hts iX5_bias_X0 hown hK hP 3 rfl rfl 2 (by decide) (va_Nw.use rfl (nf_X5_69 hN)) (fun _ h9 => h9) rfl dX5_bias_35 ?_
  refine lv_iload_n hx hb dX5_bias_38 rfl (lv_at hl 2 rfl) ?_
  obtain ⟨g5, hF⟩ := ck_e hF
  refine x_iald hx hb hK hP 6 0 rfl rfl rfl g5 dX5_bias_39 ?_
  refine lv_i2l (v := (AZ.2.2.2.1 w1.toNatClampNeg).toInt64) hx hb dX5_bias_40 rfl ?_
  refine lv_lload_n hx hb dX5_bias_41 rfl (lv_at hl 0 rfl) ?_
  refine lv_lsub hx hb dX5_bias_42 ?_
  refine lv_l2i (v := (((AZ.2.2.2.1 w1.toNatClampNeg).toInt64) - o4).toInt32) hx hb dX5_bias_43 rfl ?_
  obtain rfl := some_e hF
  refine W.widen (k := 1) (n := 6) (Nat.le_of_ble_eq_true rfl) (Nat.le_of_ble_eq_true rfl) ?_
  exact vx_ret (W.iret (v := (((AZ.2.2.2.1 w1.toNatClampNeg).toInt64) - o4).toInt32) hx hb hr (fun t ht hW => ⟨⟨(((AZ.2.2.2.1 w1.toNatClampNeg).toInt64) - o4).toInt32, ((((AZ.2.2.2.1 w1.toNatClampNeg).toInt64) - o4).toInt32, (fun _ _ => 0)), rfl, ⟨rfl, rfl⟩, ⟨by rw [ht]; exact hP, va_K.moved hW.alike hK, hD⟩⟩, hS.F ht⟩) hS.2.2 dX5_bias_44)
