def F_X5_costOf (AZ : ST) (BZ : ST) (w1 : Int32) (w2 : Int32) : Option ((Int64 × ST) ⊕ String) := obx (F_X5_demandSignal w1) (fun o1 => obx (F_X5_demandRange w2 0 500) (fun o3 => ob (F_X3_copyFrom BZ AZ) (fun o5 => ob (F_X3_costOfSteps o5 w1 w2) (fun o6 => some (.inl (o6.1, o6.2))))))
theorem kX5_costOf_1 : (Cond.fieldLink RX5 16 "SelfTuner" "trial" "LSelfTuner$State;") ∈ wsX5_costOf := List.mem_of_getElem? (i := 1) rfl
theorem kX5_costOf_2 : (Cond.fieldLink RX5 12 "SelfTuner" "state" "LSelfTuner$State;") ∈ wsX5_costOf := List.mem_of_getElem? (i := 2) rfl
theorem kX5_costOf_15 : (Cond.instanceMethod yX3_copyFrom) ∈ wsX5_costOf := List.mem_of_getElem? (i := 15) rfl
theorem kX5_costOf_16 : (Cond.initialized RX3) ∈ wsX5_costOf := List.mem_of_getElem? (i := 16) rfl
theorem kX5_costOf_17 : (Cond.selects RX3 yX3_copyFrom yX3_copyFrom) ∈ wsX5_costOf := List.mem_of_getElem? (i := 17) rfl
theorem kX5_costOf_54 : (Cond.instanceMethod yX3_costOfSteps) ∈ wsX5_costOf := List.mem_of_getElem? (i := 54) rfl
theorem kX5_costOf_55 : (Cond.selects RX3 yX3_costOfSteps yX3_costOfSteps) ∈ wsX5_costOf := List.mem_of_getElem? (i := 55) rfl
theorem iX5_costOf_X5 : ∀ w ∈ wsX50, w ∈ wsX5_costOf := fun w h => List.mem_cons_of_mem _ (List.mem_append_left _ (List.mem_append_left _ (List.mem_append_left _ (List.mem_append_left _ (List.mem_append_left _ (List.mem_append_right _ h))))))
set_option maxHeartbeats 4000000 in
set_option maxRecDepth 100000 in
theorem c_X5_costOf (l : Launch) (hfl : l.stackTraces = false) (dC : Nat → ClassId) (dI : Nat → Nat → Nat) (cyI cyJ cyB cyS cyD : ClassId) (h : Nat) (bA : Nat → Nat) (bB : Nat → Nat) (aV : Nat) (yt : Nat) (sz : Nat) (xN : Int32) (AZ : ST) (BZ : ST) (w1 : Int32) (w2 : Int32) {out : (Int64 × ST) ⊕ String} (hF : F_X5_costOf AZ BZ w1 w2 = some out) : Xl (T := Nat → Nat → Nat) l yX5_costOf wsX5_costOf ({ frames := 8, cells := 2, slots := 12, locals := 180 } : Room) (dC, dI) [(cyI, .int), (cyJ, .long), (cyB, .byte), (cyS, .object "SelfTuner$State"), (cyD, .double)] sz [.ref h, .int w1, .int w2] ((h, .inr (5, [.ref (bA 0), .ref (bB 0), .ref aV, .int xN, .ref yt])) :: (wB cyI cyJ bA AZ ++ (wB cyI cyJ bB BZ ++ []))) out (fun (v : Int64 × ST) => v.1) (fun (v : Int64 × ST) (bV : Nat → Nat → Nat) => ((h, .inr (5, [.ref (bA 0), .ref (bB 0), .ref aV, .int xN, .ref yt])) :: (wB cyI cyJ bA AZ ++ (wB cyI cyJ bB v.2 ++ [])))) 2 12 := by
  refine vx_ofW (cc := cX5_costOf) (maxL := 3) (ret := (some .long)) (by decide) rfl ?_
  intro p e s m args below meth c s₁ B hml htab hv
  obtain ⟨rfl, ⟨hN, hsz, hP, hK, hD0⟩, hZ, hT⟩ := hv
  have hx := B.exec
  have hb := B.bytes
  have hr := B.returns
  have hts := atoms_spec (ws := wsX5_costOf) B.pre
  have hown : s.vm.findClass RX5 = some m.cls := findClass_of_methodNamed B.named
  have hlocks := B.notSynchronized
  subst hsz
  have hD := hD0.self (sz := s.heap.size)
  generalize hAe : va_A ((h, .inr (5, [.ref (bA 0), .ref (bB 0), .ref aV, .int xN, .ref yt])) :: (wB cyI cyJ bA AZ ++ (wB cyI cyJ bB BZ ++ []))) s.heap.size = A at hD hZ ⊢
  have hA : ∀ q : Nat, s.heap.size ≤ q → A q := fun q h => by rw [← hAe]; exact Or.inr h
  have hS : va_S A s.heap s.heap [] := va_S.rf
  have hP : va_P (dC, dI) vwCl ((h, .inr (5, [.ref (bA 0), .ref (bB 0), .ref aV, .int xN, .ref yt])) :: (wB cyI cyJ bA AZ ++ (wB cyI cyJ bB BZ ++ []))) s.heap := hP
  have hl := lv_entry ([.ref h, .int w1, .int w2]) (n := 3) (Nat.le_of_ble_eq_true rfl)
  rw [lg_entry_eq]
  generalize (lg_sl ([.ref h, .int w1, .int w2]) ++ List.replicate (3 - (lg_sl ([.ref h, .int w1, .int w2])).length) Slot.unset).toArray = ls at hl ⊢
  have hl : lv_has ls 3 [(0, .ref h), (1, .int w1), (2, .int w2)] := hl
  unfold F_X5_costOf at hF
  refine lv_iload_n hx hb dX5_costOf_0 rfl (lv_at hl 1 rfl) ?_
  obtain ⟨oo1, hoo1, hoo1k⟩ := obx_e hF
  refine x_xcallv (wr := ((h, .inr (5, [.ref (bA 0), .ref (bB 0), .ref aV, .int xN, .ref yt])) :: (wB cyI cyJ bA AZ ++ (wB cyI cyJ bB BZ ++ [])))) (ws' := fun o1 t2 => ((h, .inr (5, [.ref (bA 0), .ref (bB 0), .ref aV, .int xN, .ref yt])) :: (wB cyI cyJ bA AZ ++ (wB cyI cyJ bB BZ ++ [])))) hoo1k hlocks htab hK (vx_runS (As := [.int w1]) (rest := []) ⟨hx, hb, hml, hown, hts⟩ (c_X5_demandSignal l hfl dC dI cyI cyJ cyB cyS cyD s.heap.size w1 hoo1) (va_cwS 1 hts gX5_costOf_X5_demandSignal rfl rfl rfl (by decide +kernel) ⟨Nat.le_of_ble_eq_true rfl, Nat.le_of_ble_eq_true rfl⟩) ⟨cPreX_blind, x_preX hN hZ hT hP hD hS hA hK [] rfl rfl⟩ rfl rfl hl.1 rfl (lv_room (Nat.le_of_ble_eq_true rfl)) dX5_costOf_1 ⟨Nat.le_of_ble_eq_true rfl, Nat.le_of_ble_eq_true rfl⟩) hP hD hS hA [] [0, 1, 2, 3, 4, 5, 6, 7, 8, 9, 10, 11, 12, 13, 14, 15, 16, 17, 18, 19, 20, 21, 22, 23, 24, 25, 26, 27, 28, 29, 30] [0, 1, 2, 3, 4, 5, 6, 7, 8, 9, 10, 11, 12, 13, 14, 15, 16, 17, 18, 19, 20, 21, 22, 23, 24, 25, 26, 27, 28, 29, 30] rfl rfl rfl (by decide) rfl (fun _ _ => rfl) rfl (Nat.le_of_ble_eq_true rfl) (Nat.le_of_ble_eq_true rfl) (fun o1 t2 H locs hF hP hD hS => ?_)
  refine lv_iload_n hx hb dX5_costOf_4 rfl (lv_at hl 2 rfl) ?_
  refine lv_iconst (v := 0) hx hb dX5_costOf_5 (by decide) ?_
  refine lv_sipush (v := 500) hx hb dX5_costOf_6 (by decide) ?_
  obtain ⟨oo3, hoo3, hoo3k⟩ := obx_e hF
  refine x_xcallv (wr := ((h, .inr (5, [.ref (bA 0), .ref (bB 0), .ref aV, .int xN, .ref yt])) :: (wB cyI cyJ bA AZ ++ (wB cyI cyJ bB BZ ++ [])))) (ws' := fun o3 t4 => ((h, .inr (5, [.ref (bA 0), .ref (bB 0), .ref aV, .int xN, .ref yt])) :: (wB cyI cyJ bA AZ ++ (wB cyI cyJ bB BZ ++ [])))) hoo3k hlocks htab hK (vx_runS (As := [.int w2, .int 0, .int 500]) (rest := []) ⟨hx, hb, hml, hown, hts⟩ (c_X5_demandRange l hfl dC dI cyI cyJ cyB cyS cyD H.size w2 0 500 hoo3) (va_cwS 3 hts gX5_costOf_X5_demandRange rfl rfl rfl (by decide +kernel) ⟨Nat.le_of_ble_eq_true rfl, Nat.le_of_ble_eq_true rfl⟩) ⟨cPreX_blind, x_preX hN hZ hT hP hD hS hA hK [] rfl rfl⟩ rfl rfl hl.1 rfl (lv_room (Nat.le_of_ble_eq_true rfl)) dX5_costOf_9 ⟨Nat.le_of_ble_eq_true rfl, Nat.le_of_ble_eq_true rfl⟩) hP hD hS hA [] [0, 1, 2, 3, 4, 5, 6, 7, 8, 9, 10, 11, 12, 13, 14, 15, 16, 17, 18, 19, 20, 21, 22, 23, 24, 25, 26, 27, 28, 29, 30] [0, 1, 2, 3, 4, 5, 6, 7, 8, 9, 10, 11, 12, 13, 14, 15, 16, 17, 18, 19, 20, 21, 22, 23, 24, 25, 26, 27, 28, 29, 30] rfl rfl rfl (by decide) rfl (fun _ _ => rfl) rfl (Nat.le_of_ble_eq_true rfl) (Nat.le_of_ble_eq_true rfl) (fun o3 t4 H locs hF hP hD hS => ?_)
  refine lv_aload_n hx hb dX5_costOf_12 rfl (lv_at hl 0 rfl) ?_
  refine va_get (D := (dC, dI)) (ci := 5) (v := .ref (bB 0)) (C := RX5) (T := TX5) (N := 5) hx hb hts iX5_costOf_X5 hown hK hP 0 rfl rfl 1 (by decide) (hts _ kX5_costOf_1) (fun _ h9 => h9) rfl dX5_costOf_13 ?_
  refine lv_aload_n hx hb dX5_costOf_16 rfl (lv_at hl 0 rfl) ?_
  refine va_get (D := (dC, dI)) (ci := 5) (v := .ref (bA 0)) (C := RX5) (T := TX5) (N := 5) hx hb hts iX5_costOf_X5 hown hK hP 0 rfl rfl 0 (by decide) (hts _ kX5_costOf_2) (fun _ h9 => h9) rfl dX5_costOf_17 ?_
  obtain ⟨o5, ho5, hF⟩ := ob_e hF
  refine x_callv (wr := [(h, .inr (5, [.ref (bA 0), .ref (bB 0), .ref aV, .int xN, .ref yt]))]) (ws' := ((h, .inr (5, [.ref (bA 0), .ref (bB 0), .ref aV, .int xN, .ref yt])) :: (wB cyI cyJ bA AZ ++ (wB cyI cyJ bB o5 ++ [])))) (va_runVN (As := [.ref (bA 0)]) (rest := []) ⟨hx, hb, hml, hown, hts⟩ (c_X3_copyFrom l dC dI cyI cyJ cyB cyS cyD (bB 0) (bB 1) (bB 2) (bB 13) (bB 3) (bB 4) (bB 5) (bB 6) (bB 7) (bB 10) (bB 8) (bB 9) (bB 11) (bB 12) (bB 14) (bA 0) (bA 1) (bA 2) (bA 13) (bA 3) (bA 4) (bA 5) (bA 6) (bA 7) (bA 10) (bA 8) (bA 9) (bA 11) (bA 12) (bA 14) H.size BZ AZ ho5) ⟨va_cnB 1 hts gX5_costOf_X3_copyFrom_n159 rfl rfl rfl (nm_X5_159 hN) (hts _ kX5_costOf_16) (by decide +kernel) ⟨Nat.le_of_ble_eq_true rfl, Nat.le_of_ble_eq_true rfl⟩, hts _ kX5_costOf_15, hts _ kX5_costOf_17⟩ ⟨cPre_blind, va_recv hK hP (ci := 3) (q0 := 16) rfl rfl, x_pre hN hP hD hK [16, 17, 18, 19, 20, 21, 22, 23, 24, 25, 26, 27, 28, 29, 30, 1, 2, 3, 4, 5, 6, 7, 8, 9, 10, 11, 12, 13, 14, 15] rfl rfl⟩ rfl rfl hl.1 rfl (lv_room (Nat.le_of_ble_eq_true rfl)) dX5_costOf_20 ⟨Nat.le_of_ble_eq_true rfl, Nat.le_of_ble_eq_true rfl⟩) hP hD hS hA [16, 17, 18, 19, 20, 21, 22, 23, 24, 25, 26, 27, 28, 29, 30, 1, 2, 3, 4, 5, 6, 7, 8, 9, 10, 11, 12, 13, 14, 15] [0] [0, 16, 17, 18, 19, 20, 21, 22, 23, 24, 25, 26, 27, 28, 29, 30, 1, 2, 3, 4, 5, 6, 7, 8, 9, 10, 11, 12, 13, 14, 15] rfl rfl rfl (by decide) rfl rfl (fun H locs hP hD hS => ?_)
  refine lv_aload_n hx hb dX5_costOf_23 rfl (lv_at hl 0 rfl) ?_
  refine va_get (D := (dC, dI)) (ci := 5) (v := .ref (bB 0)) (C := RX5) (T := TX5) (N := 5) hx hb hts iX5_costOf_X5 hown hK hP 0 rfl rfl 1 (by decide) (hts _ kX5_costOf_1) (fun _ h9 => h9) rfl dX5_costOf_24 ?_
  refine lv_iload_n hx hb dX5_costOf_27 rfl (lv_at hl 1 rfl) ?_
  refine lv_iload_n hx hb dX5_costOf_28 rfl (lv_at hl 2 rfl) ?_
  obtain ⟨o6, ho6, hF⟩ := ob_e hF
  refine x_calll (wr := ((h, .inr (5, [.ref (bA 0), .ref (bB 0), .ref aV, .int xN, .ref yt])) :: (wB cyI cyJ bA AZ ++ []))) (ws' := ((h, .inr (5, [.ref (bA 0), .ref (bB 0), .ref aV, .int xN, .ref yt])) :: (wB cyI cyJ bA AZ ++ (wB cyI cyJ bB o6.2 ++ [])))) (va_runVN (As := [.int w1, .int w2]) (rest := []) ⟨hx, hb, hml, hown, hts⟩ (c_X3_costOfSteps l dC dI cyI cyJ cyB cyS cyD (bB 0) (bB 1) (bB 2) (bB 13) (bB 3) (bB 4) (bB 5) (bB 6) (bB 7) (bB 10) (bB 8) (bB 9) (bB 11) (bB 12) (bB 14) H.size o5 w1 w2 ho6) ⟨va_cnB 2 hts gX5_costOf_X3_costOfSteps_n163 rfl rfl rfl (nm_X5_163 hN) (hts _ kX5_costOf_16) (by decide +kernel) ⟨Nat.le_of_ble_eq_true rfl, Nat.le_of_ble_eq_true rfl⟩, hts _ kX5_costOf_54, hts _ kX5_costOf_55⟩ ⟨cPre_blind, va_recv hK hP (ci := 3) (q0 := 16) rfl rfl, x_pre hN hP hD hK [16, 17, 18, 19, 20, 21, 22, 23, 24, 25, 26, 27, 28, 29, 30] rfl rfl⟩ rfl rfl hl.1 rfl (lv_room (Nat.le_of_ble_eq_true rfl)) dX5_costOf_29 ⟨Nat.le_of_ble_eq_true rfl, Nat.le_of_ble_eq_true rfl⟩) hP hD hS hA [16, 17, 18, 19, 20, 21, 22, 23, 24, 25, 26, 27, 28, 29, 30] [0, 1, 2, 3, 4, 5, 6, 7, 8, 9, 10, 11, 12, 13, 14, 15] [0, 1, 2, 3, 4, 5, 6, 7, 8, 9, 10, 11, 12, 13, 14, 15, 16, 17, 18, 19, 20, 21, 22, 23, 24, 25, 26, 27, 28, 29, 30] rfl rfl rfl (by decide) rfl rfl (fun H locs hP hD hS => ?_)
  obtain rfl := some_e hF
  refine W.widen (k := 2) (n := 12) (Nat.le_of_ble_eq_true rfl) (Nat.le_of_ble_eq_true rfl) ?_
  exact vx_ret (W.lret (v := o6.1) hx hb hr (fun t ht hW => ⟨⟨o6.1, ((o6.1, o6.2), (fun _ _ => 0)), rfl, ⟨rfl, rfl⟩, ⟨by rw [ht]; exact hP, va_K.moved hW.alike hK, hD⟩⟩, hS.F ht⟩) hS.2.2 dX5_costOf_32)
def F_X5_settling_28 (w1 : Int32) (w2 : Int32) : Nat → ((ST) → Option ((Int32 × ST) ⊕ String)) → Int32 → Int32 → ST → Option ((Int32 × ST) ⊕ String)
  | 0, _, _, _, _ => none
  | n6 + 1, K7, v8, v9, v10 => if (500 : Int32) < v9 then (K7 v10) else (ob (F_X3_inputFor v10 w1 v10.2.2.2.2.2.2.2.2.2.2.2.2.2.1) (fun o12 => ob (F_X3_step v10 o12) (fun o13 => rg (α := Int32) (fun K16 => if (w2 : Int32) < (if (0 : Int32) ≤ (w1 - o13.2.2.2.2.2.2.2.2.2.2.2.2.2.1) then (w1 - o13.2.2.2.2.2.2.2.2.2.2.2.2.2.1) else 0 - (w1 - o13.2.2.2.2.2.2.2.2.2.2.2.2.2.1)) then (K16 0) else (K16 (v8 + 1))) (fun x15 => if (x15 : Int32) = 5 then (some (.inl (v9, o13))) else (lt_ (α := Int32) (v9 + 1) (fun v18 => F_X5_settling_28 w1 w2 n6 K7 x15 v18 o13))))))
def F_X5_settling (AZ : ST) (BZ : ST) (w1 : Int32) (w2 : Int32) : Option ((Int32 × ST) ⊕ String) := obx (F_X5_demandSignal w1) (fun o1 => obx (F_X5_demandRange w2 0 500) (fun o3 => ob (F_X3_copyFrom BZ AZ) (fun o5 => F_X5_settling_28 w1 w2 1000 (fun x19 => some (.inl ((-1), x19))) 0 1 o5)))
theorem kX5_settling_1 : (Cond.fieldLink RX5 16 "SelfTuner" "trial" "LSelfTuner$State;") ∈ wsX5_settling := List.mem_of_getElem? (i := 1) rfl
theorem kX5_settling_2 : (Cond.fieldLink RX5 12 "SelfTuner" "state" "LSelfTuner$State;") ∈ wsX5_settling := List.mem_of_getElem? (i := 2) rfl
theorem kX5_settling_3 : (Cond.methodLink RX5 166 Lib.Math.abs.name) ∈ wsX5_settling := List.mem_of_getElem? (i := 3) rfl
theorem kX5_settling_4 : (Cond.static Lib.Math.abs.name) ∈ wsX5_settling := List.mem_of_getElem? (i := 4) rfl
theorem kX5_settling_5 : (Cond.initialized "java/lang/Math") ∈ wsX5_settling := List.mem_of_getElem? (i := 5) rfl
theorem kX5_settling_6 : (Cond.code Lib.Math.abs.name Lib.Math.abs.code 1 (some .int)) ∈ wsX5_settling := List.mem_of_getElem? (i := 6) rfl
theorem kX5_settling_19 : (Cond.instanceMethod yX3_copyFrom) ∈ wsX5_settling := List.mem_of_getElem? (i := 19) rfl
theorem kX5_settling_20 : (Cond.initialized RX3) ∈ wsX5_settling := List.mem_of_getElem? (i := 20) rfl
theorem kX5_settling_21 : (Cond.selects RX3 yX3_copyFrom yX3_copyFrom) ∈ wsX5_settling := List.mem_of_getElem? (i := 21) rfl
theorem kX5_settling_58 : (Cond.instanceMethod yX3_inputFor) ∈ wsX5_settling := List.mem_of_getElem? (i := 58) rfl
theorem kX5_settling_59 : (Cond.selects RX3 yX3_inputFor yX3_inputFor) ∈ wsX5_settling := List.mem_of_getElem? (i := 59) rfl
theorem kX5_settling_76 : (Cond.instanceMethod yX3_step) ∈ wsX5_settling := List.mem_of_getElem? (i := 76) rfl
theorem kX5_settling_77 : (Cond.selects RX3 yX3_step yX3_step) ∈ wsX5_settling := List.mem_of_getElem? (i := 77) rfl
theorem iX5_settling_X1 : ∀ w ∈ wsX10, w ∈ wsX5_settling := fun w h => List.mem_cons_of_mem _ (List.mem_append_left _ (List.mem_append_left _ (List.mem_append_left _ (List.mem_append_right _ h))))
theorem iX5_settling_X3 : ∀ w ∈ wsX30, w ∈ wsX5_settling := fun w h => List.mem_cons_of_mem _ (List.mem_append_left _ (List.mem_append_left _ (List.mem_append_left _ (List.mem_append_left _ (List.mem_append_right _ h)))))
theorem iX5_settling_X5 : ∀ w ∈ wsX50, w ∈ wsX5_settling := fun w h => List.mem_cons_of_mem _ (List.mem_append_left _ (List.mem_append_left _ (List.mem_append_left _ (List.mem_append_left _ (List.mem_append_left _ (List.mem_append_right _ h))))))
set_option maxHeartbeats 4000000 in
set_option maxRecDepth 100000 in
theorem c_X5_settling (l : Launch) (hfl : l.stackTraces = false) (dC : Nat → ClassId) (dI : Nat → Nat → Nat) (cyI cyJ cyB cyS cyD : ClassId) (h : Nat) (bA : Nat → Nat) (bB : Nat → Nat) (aV : Nat) (yt : Nat) (sz : Nat) (xN : Int32) (AZ : ST) (BZ : ST) (w1 : Int32) (w2 : Int32) {out : (Int32 × ST) ⊕ String} (hF : F_X5_settling AZ BZ w1 w2 = some out) : Xi (T := Nat → Nat → Nat) l yX5_settling wsX5_settling ({ frames := 8, cells := 2, slots := 12, locals := 155 } : Room) (dC, dI) [(cyI, .int), (cyJ, .long), (cyB, .byte), (cyS, .object "SelfTuner$State"), (cyD, .double)] sz [.ref h, .int w1, .int w2] ((h, .inr (5, [.ref (bA 0), .ref (bB 0), .ref aV, .int xN, .ref yt])) :: (wB cyI cyJ bA AZ ++ (wB cyI cyJ bB BZ ++ []))) out (fun (v : Int32 × ST) => v.1) (fun (v : Int32 × ST) (bV : Nat → Nat → Nat) => ((h, .inr (5, [.ref (bA 0), .ref (bB 0), .ref aV, .int xN, .ref yt])) :: (wB cyI cyJ bA AZ ++ (wB cyI cyJ bB v.2 ++ [])))) 2 12 := by
  refine vx_ofW (cc := cX5_settling) (maxL := 5) (ret := (some .int)) (by decide) rfl ?_
  intro p e s m args below meth c s₁ B hml htab hv
  obtain ⟨rfl, ⟨hN, hsz, hP, hK, hD0⟩, hZ, hT⟩ := hv
  have hx := B.exec
  have hb := B.bytes
  have hr := B.returns
  have hts := atoms_spec (ws := wsX5_settling) B.pre
  have hown : s.vm.findClass RX5 = some m.cls := findClass_of_methodNamed B.named
  have hlocks := B.notSynchronized
  subst hsz
  have hD := hD0.self (sz := s.heap.size)
  generalize hAe : va_A ((h, .inr (5, [.ref (bA 0), .ref (bB 0), .ref aV, .int xN, .ref yt])) :: (wB cyI cyJ bA AZ ++ (wB cyI cyJ bB BZ ++ []))) s.heap.size = A at hD hZ ⊢
  have hA : ∀ q : Nat, s.heap.size ≤ q → A q := fun q h => by rw [← hAe]; exact Or.inr h
  have hS : va_S A s.heap s.heap [] := va_S.rf
  have hP : va_P (dC, dI) vwCl ((h, .inr (5, [.ref (bA 0), .ref (bB 0), .ref aV, .int xN, .ref yt])) :: (wB cyI cyJ bA AZ ++ (wB cyI cyJ bB BZ ++ []))) s.heap := hP
  have hl := lv_entry ([.ref h, .int w1, .int w2]) (n := 5) (Nat.le_of_ble_eq_true rfl)
  rw [lg_entry_eq]
  generalize (lg_sl ([.ref h, .int w1, .int w2]) ++ List.replicate (5 - (lg_sl ([.ref h, .int w1, .int w2])).length) Slot.unset).toArray = ls at hl ⊢
  have hl : lv_has ls 5 [(0, .ref h), (1, .int w1), (2, .int w2)] := hl
  unfold F_X5_settling at hF
  refine lv_iload_n hx hb dX5_settling_0 rfl (lv_at hl 1 rfl) ?_
  obtain ⟨oo1, hoo1, hoo1k⟩ := obx_e hF
  refine x_xcallv (wr := ((h, .inr (5, [.ref (bA 0), .ref (bB 0), .ref aV, .int xN, .ref yt])) :: (wB cyI cyJ bA AZ ++ (wB cyI cyJ bB BZ ++ [])))) (ws' := fun o1 t2 => ((h, .inr (5, [.ref (bA 0), .ref (bB 0), .ref aV, .int xN, .ref yt])) :: (wB cyI cyJ bA AZ ++ (wB cyI cyJ bB BZ ++ [])))) hoo1k hlocks htab hK (vx_runS (As := [.int w1]) (rest := []) ⟨hx, hb, hml, hown, hts⟩ (c_X5_demandSignal l hfl dC dI cyI cyJ cyB cyS cyD s.heap.size w1 hoo1) (va_cwS 1 hts gX5_settling_X5_demandSignal rfl rfl rfl (by decide +kernel) ⟨Nat.le_of_ble_eq_true rfl, Nat.le_of_ble_eq_true rfl⟩) ⟨cPreX_blind, x_preX hN hZ hT hP hD hS hA hK [] rfl rfl⟩ rfl rfl hl.1 rfl (lv_room (Nat.le_of_ble_eq_true rfl)) dX5_settling_1 ⟨Nat.le_of_ble_eq_true rfl, Nat.le_of_ble_eq_true rfl⟩) hP hD hS hA [] [0, 1, 2, 3, 4, 5, 6, 7, 8, 9, 10, 11, 12, 13, 14, 15, 16, 17, 18, 19, 20, 21, 22, 23, 24, 25, 26, 27, 28, 29, 30] [0, 1, 2, 3, 4, 5, 6, 7, 8, 9, 10, 11, 12, 13, 14, 15, 16, 17, 18, 19, 20, 21, 22, 23, 24, 25, 26, 27, 28, 29, 30] rfl rfl rfl (by decide) rfl (fun _ _ => rfl) rfl (Nat.le_of_ble_eq_true rfl) (Nat.le_of_ble_eq_true rfl) (fun o1 t2 H locs hF hP hD hS => ?_)
  refine lv_iload_n hx hb dX5_settling_4 rfl (lv_at hl 2 rfl) ?_
  refine lv_iconst (v := 0) hx hb dX5_settling_5 (by decide) ?_
  refine lv_sipush (v := 500) hx hb dX5_settling_6 (by decide) ?_
  obtain ⟨oo3, hoo3, hoo3k⟩ := obx_e hF
  refine x_xcallv (wr := ((h, .inr (5, [.ref (bA 0), .ref (bB 0), .ref aV, .int xN, .ref yt])) :: (wB cyI cyJ bA AZ ++ (wB cyI cyJ bB BZ ++ [])))) (ws' := fun o3 t4 => ((h, .inr (5, [.ref (bA 0), .ref (bB 0), .ref aV, .int xN, .ref yt])) :: (wB cyI cyJ bA AZ ++ (wB cyI cyJ bB BZ ++ [])))) hoo3k hlocks htab hK (vx_runS (As := [.int w2, .int 0, .int 500]) (rest := []) ⟨hx, hb, hml, hown, hts⟩ (c_X5_demandRange l hfl dC dI cyI cyJ cyB cyS cyD H.size w2 0 500 hoo3) (va_cwS 3 hts gX5_settling_X5_demandRange rfl rfl rfl (by decide +kernel) ⟨Nat.le_of_ble_eq_true rfl, Nat.le_of_ble_eq_true rfl⟩) ⟨cPreX_blind, x_preX hN hZ hT hP hD hS hA hK [] rfl rfl⟩ rfl rfl hl.1 rfl (lv_room (Nat.le_of_ble_eq_true rfl)) dX5_settling_9 ⟨Nat.le_of_ble_eq_true rfl, Nat.le_of_ble_eq_true rfl⟩) hP hD hS hA [] [0, 1, 2, 3, 4, 5, 6, 7, 8, 9, 10, 11, 12, 13, 14, 15, 16, 17, 18, 19, 20, 21, 22, 23, 24, 25, 26, 27, 28, 29, 30] [0, 1, 2, 3, 4, 5, 6, 7, 8, 9, 10, 11, 12, 13, 14, 15, 16, 17, 18, 19, 20, 21, 22, 23, 24, 25, 26, 27, 28, 29, 30] rfl rfl rfl (by decide) rfl (fun _ _ => rfl) rfl (Nat.le_of_ble_eq_true rfl) (Nat.le_of_ble_eq_true rfl) (fun o3 t4 H locs hF hP hD hS => ?_)
  refine lv_aload_n hx hb dX5_settling_12 rfl (lv_at hl 0 rfl) ?_
  refine va_get (D := (dC, dI)) (ci := 5) (v := .ref (bB 0)) (C := RX5) (T := TX5) (N := 5) hx hb hts iX5_settling_X5 hown hK hP 0 rfl rfl 1 (by decide) (hts _ kX5_settling_1) (fun _ h9 => h9) rfl dX5_settling_13 ?_
  refine lv_aload_n hx hb dX5_settling_16 rfl (lv_at hl 0 rfl) ?_
  refine va_get (D := (dC, dI)) (ci := 5) (v := .ref (bA 0)) (C := RX5) (T := TX5) (N := 5) hx hb hts iX5_settling_X5 hown hK hP 0 rfl rfl 0 (by decide) (hts _ kX5_settling_2) (fun _ h9 => h9) rfl dX5_settling_17 ?_
  obtain ⟨o5, ho5, hF⟩ := ob_e hF
  refine x_callv (wr := [(h, .inr (5, [.ref (bA 0), .ref (bB 0), .ref aV, .int xN, .ref yt]))]) (ws' := ((h, .inr (5, [.ref (bA 0), .ref (bB 0), .ref aV, .int xN, .ref yt])) :: (wB cyI cyJ bA AZ ++ (wB cyI cyJ bB o5 ++ [])))) (va_runVN (As := [.ref (bA 0)]) (rest := []) ⟨hx, hb, hml, hown, hts⟩ (c_X3_copyFrom l dC dI cyI cyJ cyB cyS cyD (bB 0) (bB 1) (bB 2) (bB 13) (bB 3) (bB 4) (bB 5) (bB 6) (bB 7) (bB 10) (bB 8) (bB 9) (bB 11) (bB 12) (bB 14) (bA 0) (bA 1) (bA 2) (bA 13) (bA 3) (bA 4) (bA 5) (bA 6) (bA 7) (bA 10) (bA 8) (bA 9) (bA 11) (bA 12) (bA 14) H.size BZ AZ ho5) ⟨va_cnB 1 hts gX5_settling_X3_copyFrom_n159 rfl rfl rfl (nm_X5_159 hN) (hts _ kX5_settling_20) (by decide +kernel) ⟨Nat.le_of_ble_eq_true rfl, Nat.le_of_ble_eq_true rfl⟩, hts _ kX5_settling_19, hts _ kX5_settling_21⟩ ⟨cPre_blind, va_recv hK hP (ci := 3) (q0 := 16) rfl rfl, x_pre hN hP hD hK [16, 17, 18, 19, 20, 21, 22, 23, 24, 25, 26, 27, 28, 29, 30, 1, 2, 3, 4, 5, 6, 7, 8, 9, 10, 11, 12, 13, 14, 15] rfl rfl⟩ rfl rfl hl.1 rfl (lv_room (Nat.le_of_ble_eq_true rfl)) dX5_settling_20 ⟨Nat.le_of_ble_eq_true rfl, Nat.le_of_ble_eq_true rfl⟩) hP hD hS hA [16, 17, 18, 19, 20, 21, 22, 23, 24, 25, 26, 27, 28, 29, 30, 1, 2, 3, 4, 5, 6, 7, 8, 9, 10, 11, 12, 13, 14, 15] [0] [0, 16, 17, 18, 19, 20, 21, 22, 23, 24, 25, 26, 27, 28, 29, 30, 1, 2, 3, 4, 5, 6, 7, 8, 9, 10, 11, 12, 13, 14, 15] rfl rfl rfl (by decide) rfl rfl (fun H locs hP hD hS => ?_)
  refine lv_iconst (v := 0) hx hb dX5_settling_23 (by decide) ?_
  refine lv_istore_n (lv' := [(3, .int 0), (0, .ref h), (1, .int w1), (2, .int w2)]) hx hb dX5_settling_24 rfl hl (by decide) rfl (fun ls hl => ?_)
  refine lv_iconst (v := 1) hx hb dX5_settling_25 (by decide) ?_
  refine lv_istore (lv' := [(4, .int 1), (3, .int 0), (0, .ref h), (1, .int w1), (2, .int w2)]) hx hb dX5_settling_26 hl (by decide) rfl (fun ls hl => ?_)
  have Ln6 : ∀ (n6 : Nat) (K7 : (ST) → Option ((Int32 × ST) ⊕ String)) (v8 : Int32) (v9 : Int32) (v10 : ST) (H : Heap) (locs : List Loc) (ls : Array Slot), F_X5_settling_28 w1 w2 n6 K7 v8 v9 v10 = some out → va_P (dC, dI) vwCl ((h, .inr (5, [.ref (bA 0), .ref (bB 0), .ref aV, .int xN, .ref yt])) :: (wB cyI cyJ bA AZ ++ (wB cyI cyJ bB v10 ++ []))) H → va_D A ((h, .inr (5, [.ref (bA 0), .ref (bB 0), .ref aV, .int xN, .ref yt])) :: (wB cyI cyJ bA AZ ++ (wB cyI cyJ bB v10 ++ []))) → va_S A s.heap H locs → lv_has ls 5 [(0, .ref h), (1, .int w1), (2, .int w2), (3, .int v8), (4, .int v9)] → (∀ (x19 : ST) (H : Heap) (locs : List Loc) (ls : Array Slot), K7 x19 = some out → va_P (dC, dI) vwCl ((h, .inr (5, [.ref (bA 0), .ref (bB 0), .ref aV, .int xN, .ref yt])) :: (wB cyI cyJ bA AZ ++ (wB cyI cyJ bB x19 ++ []))) H → va_D A ((h, .inr (5, [.ref (bA 0), .ref (bB 0), .ref aV, .int xN, .ref yt])) :: (wB cyI cyJ bA AZ ++ (wB cyI cyJ bB x19 ++ []))) → va_S A s.heap H locs → lv_has ls 5 [] → W p l e (headSpec wsX5_settling ({ frames := 8, cells := 2, slots := 12, locals := 155 } : Room)).room s m ([.ref h, .int w1, .int w2] : List Value).toArray below meth c H locs 2 12 (vx_MQ below (va_Qi (fun (r' : Int32) (v : (Int32 × ST) × (Nat → Nat → Nat)) => out = .inl v.1 ∧ r' = (fun (v : Int32 × ST) => v.1) v.1) (cN (dC, dI) [(cyI, .int), (cyJ, .long), (cyB, .byte), (cyS, .object "SelfTuner$State"), (cyD, .double)] (fun (v : Int32 × ST) (bV : Nat → Nat → Nat) => ((h, .inr (5, [.ref (bA 0), .ref (bB 0), .ref aV, .int xN, .ref yt])) :: (wB cyI cyJ bA AZ ++ (wB cyI cyJ bB v.2 ++ [])))) A) A) (cX (dC, dI) [(cyI, .int), (cyJ, .long), (cyB, .byte), (cyS, .object "SelfTuner$State"), (cyD, .double)] ((h, .inr (5, [.ref (bA 0), .ref (bB 0), .ref aV, .int xN, .ref yt])) :: (wB cyI cyJ bA AZ ++ (wB cyI cyJ bB BZ ++ []))) A out) ([.ref h, .int w1, .int w2] : List Value).toArray s 2 12 A) (F0 m 102 ls [])) → W p l e (headSpec wsX5_settling ({ frames := 8, cells := 2, slots := 12, locals := 155 } : Room)).room s m ([.ref h, .int w1, .int w2] : List Value).toArray below meth c H locs 2 12 (vx_MQ below (va_Qi (fun (r' : Int32) (v : (Int32 × ST) × (Nat → Nat → Nat)) => out = .inl v.1 ∧ r' = (fun (v : Int32 × ST) => v.1) v.1) (cN (dC, dI) [(cyI, .int), (cyJ, .long), (cyB, .byte), (cyS, .object "SelfTuner$State"), (cyD, .double)] (fun (v : Int32 × ST) (bV : Nat → Nat → Nat) => ((h, .inr (5, [.ref (bA 0), .ref (bB 0), .ref aV, .int xN, .ref yt])) :: (wB cyI cyJ bA AZ ++ (wB cyI cyJ bB v.2 ++ [])))) A) A) (cX (dC, dI) [(cyI, .int), (cyJ, .long), (cyB, .byte), (cyS, .object "SelfTuner$State"), (cyD, .double)] ((h, .inr (5, [.ref (bA 0), .ref (bB 0), .ref aV, .int xN, .ref yt])) :: (wB cyI cyJ bA AZ ++ (wB cyI cyJ bB BZ ++ []))) A out) ([.ref h, .int w1, .int w2] : List Value).toArray s 2 12 A) (F0 m 28 ls []) := by
    intro n6
    induction n6 with
    | zero => intro K7 v8 v9 v10 H locs ls hF; exact no_e (show none = some out from hF)
    | succ n6 ihn6 =>
      intro K7 v8 v9 v10 H locs ls hF hP hD hS hl kxn6
      rw [F_X5_settling_28] at hF
      refine lv_iload hx hb dX5_settling_28 (lv_at hl 4 rfl) ?_
      refine lv_sipush (v := 500) hx hb dX5_settling_30 (by decide) ?_
      refine lv_icmp_gt (tgt := 102) hx hb dX5_settling_33 (by decide) (fun c11 => ?_) (fun c11 => ?_)
      · have hF := ite_t hF c11
        exact kxn6 _ _ _ _ hF hP hD hS (lv_sub hl [] rfl)
      · have hF := ite_f hF c11
        refine lv_aload_n hx hb dX5_settling_36 rfl (lv_at hl 0 rfl) ?_
        refine va_get (D := (dC, dI)) (ci := 5) (v := .ref (bB 0)) (C := RX5) (T := TX5) (N := 5) hx hb hts iX5_settling_X5 hown hK hP 0 rfl rfl 1 (by decide) (hts _ kX5_settling_1) (fun _ h9 => h9) rfl dX5_settling_37 ?_
        refine lv_aload_n hx hb dX5_settling_40 rfl (lv_at hl 0 rfl) ?_
        refine va_get (D := (dC, dI)) (ci := 5) (v := .ref (bB 0)) (C := RX5) (T := TX5) (N := 5) hx hb hts iX5_settling_X5 hown hK hP 0 rfl rfl 1 (by decide) (hts _ kX5_settling_1) (fun _ h9 => h9) rfl dX5_settling_41 ?_
        refine lv_iload_n hx hb dX5_settling_44 rfl (lv_at hl 1 rfl) ?_
        refine lv_aload_n hx hb dX5_settling_45 rfl (lv_at hl 0 rfl) ?_
        refine va_get (D := (dC, dI)) (ci := 5) (v := .ref (bB 0)) (C := RX5) (T := TX5) (N := 5) hx hb hts iX5_settling_X5 hown hK hP 0 rfl rfl 1 (by decide) (hts _ kX5_settling_1) (fun _ h9 => h9) rfl dX5_settling_46 ?_
        refine va_getN (D := (dC, dI)) (ci := 3) (v := .ref (bB 13)) (C := RX3) (T := TX3) (N := 3) hx hb hts iX5_settling_X3 hown hK hP 16 rfl rfl 2 (by decide) (va_Nw.use rfl (nf_X5_76 hN)) (fun _ h9 => h9) rfl dX5_settling_49 ?_
        refine va_getN (D := (dC, dI)) (ci := 1) (v := .int v10.2.2.2.2.2.2.2.2.2.2.2.2.2.1) (C := RX1) (T := TX1) (N := 4) hx hb hts iX5_settling_X1 hown hK hP 29 rfl rfl 3 (by decide) (va_Nw.use rfl (nf_X5_88 hN)) (fun _ h9 => h9) rfl dX5_settling_52 ?_
        obtain ⟨o12, ho12, hF⟩ := ob_e hF
        refine x_calli (wr := ((h, .inr (5, [.ref (bA 0), .ref (bB 0), .ref aV, .int xN, .ref yt])) :: (wB cyI cyJ bA AZ ++ []))) (ws' := ((h, .inr (5, [.ref (bA 0), .ref (bB 0), .ref aV, .int xN, .ref yt])) :: (wB cyI cyJ bA AZ ++ (wB cyI cyJ bB v10 ++ [])))) (va_runVN (As := [.int w1, .int v10.2.2.2.2.2.2.2.2.2.2.2.2.2.1]) (rest := [.ref (bB 0)]) ⟨hx, hb, hml, hown, hts⟩ (c_X3_inputFor l dC dI cyI cyJ cyB cyS cyD (bB 0) (bB 1) (bB 2) (bB 13) (bB 3) (bB 4) (bB 5) (bB 6) (bB 7) (bB 10) (bB 8) (bB 9) (bB 11) (bB 12) (bB 14) H.size v10 w1 v10.2.2.2.2.2.2.2.2.2.2.2.2.2.1 ho12) ⟨va_cnB 2 hts gX5_settling_X3_inputFor_n152 rfl rfl rfl (nm_X5_152 hN) (hts _ kX5_settling_20) (by decide +kernel) ⟨Nat.le_of_ble_eq_true rfl, Nat.le_of_ble_eq_true rfl⟩, hts _ kX5_settling_58, hts _ kX5_settling_59⟩ ⟨cPre_blind, va_recv hK hP (ci := 3) (q0 := 16) rfl rfl, x_pre hN hP hD hK [16, 17, 18, 19, 20, 21, 22, 23, 24, 25, 26, 27, 28, 29, 30] rfl rfl⟩ rfl rfl hl.1 rfl (lv_room (Nat.le_of_ble_eq_true rfl)) dX5_settling_55 ⟨Nat.le_of_ble_eq_true rfl, Nat.le_of_ble_eq_true rfl⟩) hP hD hS hA [16, 17, 18, 19, 20, 21, 22, 23, 24, 25, 26, 27, 28, 29, 30] [0, 1, 2, 3, 4, 5, 6, 7, 8, 9, 10, 11, 12, 13, 14, 15] [0, 1, 2, 3, 4, 5, 6, 7, 8, 9, 10, 11, 12, 13, 14, 15, 16, 17, 18, 19, 20, 21, 22, 23, 24, 25, 26, 27, 28, 29, 30] rfl rfl rfl (by decide) rfl rfl (fun H locs hP hD hS => ?_)
        obtain ⟨o13, ho13, hF⟩ := ob_e hF
        refine x_callv (wr := ((h, .inr (5, [.ref (bA 0), .ref (bB 0), .ref aV, .int xN, .ref yt])) :: (wB cyI cyJ bA AZ ++ []))) (ws' := ((h, .inr (5, [.ref (bA 0), .ref (bB 0), .ref aV, .int xN, .ref yt])) :: (wB cyI cyJ bA AZ ++ (wB cyI cyJ bB o13 ++ [])))) (va_runVN (As := [.int o12]) (rest := []) ⟨hx, hb, hml, hown, hts⟩ (c_X3_step l dC dI cyI cyJ cyB cyS cyD (bB 0) (bB 1) (bB 2) (bB 13) (bB 3) (bB 4) (bB 5) (bB 6) (bB 7) (bB 10) (bB 8) (bB 9) (bB 11) (bB 12) (bB 14) H.size v10 o12 ho13) ⟨va_cnB 1 hts gX5_settling_X3_step_n156 rfl rfl rfl (nm_X5_156 hN) (hts _ kX5_settling_20) (by decide +kernel) ⟨Nat.le_of_ble_eq_true rfl, Nat.le_of_ble_eq_true rfl⟩, hts _ kX5_settling_76, hts _ kX5_settling_77⟩ ⟨cPre_blind, va_recv hK hP (ci := 3) (q0 := 16) rfl rfl, x_pre hN hP hD hK [16, 17, 18, 19, 20, 21, 22, 23, 24, 25, 26, 27, 28, 29, 30] rfl rfl⟩ rfl rfl hl.1 rfl (lv_room (Nat.le_of_ble_eq_true rfl)) dX5_settling_58 ⟨Nat.le_of_ble_eq_true rfl, Nat.le_of_ble_eq_true rfl⟩) hP hD hS hA [16, 17, 18, 19, 20, 21, 22, 23, 24, 25, 26, 27, 28, 29, 30] [0, 1, 2, 3, 4, 5, 6, 7, 8, 9, 10, 11, 12, 13, 14, 15] [0, 1, 2, 3, 4, 5, 6, 7, 8, 9, 10, 11, 12, 13, 14, 15, 16, 17, 18, 19, 20, 21, 22, 23, 24, 25, 26, 27, 28, 29, 30] rfl rfl rfl (by decide) rfl rfl (fun H locs hP hD hS => ?_)
        refine lv_iload_n hx hb dX5_settling_61 rfl (lv_at hl 1 rfl) ?_
        refine lv_aload_n hx hb dX5_settling_62 rfl (lv_at hl 0 rfl) ?_
        refine va_get (D := (dC, dI)) (ci := 5) (v := .ref (bB 0)) (C := RX5) (T := TX5) (N := 5) hx hb hts iX5_settling_X5 hown hK hP 0 rfl rfl 1 (by decide) (hts _ kX5_settling_1) (fun _ h9 => h9) rfl dX5_settling_63 ?_
        refine va_getN (D := (dC, dI)) (ci := 3) (v := .ref (bB 13)) (C := RX3) (T := TX3) (N := 3) hx hb hts iX5_settling_X3 hown hK hP 16 rfl rfl 2 (by decide) (va_Nw.use rfl (nf_X5_76 hN)) (fun _ h9 => h9) rfl dX5_settling_66 ?_
        refine va_getN (D := (dC, dI)) (ci := 1) (v := .int o13.2.2.2.2.2.2.2.2.2.2.2.2.2.1) (C := RX1) (T := TX1) (N := 4) hx hb hts iX5_settling_X1 hown hK hP 29 rfl rfl 3 (by decide) (va_Nw.use rfl (nf_X5_88 hN)) (fun _ h9 => h9) rfl dX5_settling_69 ?_
        refine lv_isub hx hb dX5_settling_72 ?_
        refine va_mabs hx hb (hml.trans hl.1.symm) hown (hts _ kX5_settling_3) (hts _ kX5_settling_4) (hts _ kX5_settling_5) (hts _ kX5_settling_6) (Nat.le_of_ble_eq_true rfl) (Nat.le_of_ble_eq_true rfl) (Nat.le_of_ble_eq_true rfl) (Nat.le_of_ble_eq_true rfl) dX5_settling_73 ?_
        refine lv_iload_n hx hb dX5_settling_76 rfl (lv_at hl 2 rfl) ?_
        obtain ⟨K16, hK16, hF⟩ := rg_e hF
        have Jx15 : ∀ (x15 : Int32) (H : Heap) (locs : List Loc) (ls : Array Slot), K16 x15 = some out → va_P (dC, dI) vwCl ((h, .inr (5, [.ref (bA 0), .ref (bB 0), .ref aV, .int xN, .ref yt])) :: (wB cyI cyJ bA AZ ++ (wB cyI cyJ bB o13 ++ []))) H → va_D A ((h, .inr (5, [.ref (bA 0), .ref (bB 0), .ref aV, .int xN, .ref yt])) :: (wB cyI cyJ bA AZ ++ (wB cyI cyJ bB o13 ++ []))) → va_S A s.heap H locs → lv_has ls 5 [(0, .ref h), (1, .int w1), (2, .int w2), (4, .int v9)] → W p l e (headSpec wsX5_settling ({ frames := 8, cells := 2, slots := 12, locals := 155 } : Room)).room s m ([.ref h, .int w1, .int w2] : List Value).toArray below meth c H locs 2 12 (vx_MQ below (va_Qi (fun (r' : Int32) (v : (Int32 × ST) × (Nat → Nat → Nat)) => out = .inl v.1 ∧ r' = (fun (v : Int32 × ST) => v.1) v.1) (cN (dC, dI) [(cyI, .int), (cyJ, .long), (cyB, .byte), (cyS, .object "SelfTuner$State"), (cyD, .double)] (fun (v : Int32 × ST) (bV : Nat → Nat → Nat) => ((h, .inr (5, [.ref (bA 0), .ref (bB 0), .ref aV, .int xN, .ref yt])) :: (wB cyI cyJ bA AZ ++ (wB cyI cyJ bB v.2 ++ [])))) A) A) (cX (dC, dI) [(cyI, .int), (cyJ, .long), (cyB, .byte), (cyS, .object "SelfTuner$State"), (cyD, .double)] ((h, .inr (5, [.ref (bA 0), .ref (bB 0), .ref aV, .int xN, .ref yt])) :: (wB cyI cyJ bA AZ ++ (wB cyI cyJ bB BZ ++ []))) A out) ([.ref h, .int w1, .int w2] : List Value).toArray s 2 12 A) (F0 m 87 ls [.int x15]) := by
          intro x15 H locs ls hF hP hD hS hl
          rw [hK16] at hF
          refine lv_istore_n (lv' := [(3, .int x15), (0, .ref h), (1, .int w1), (2, .int w2), (4, .int v9)]) hx hb dX5_settling_87 rfl hl (by decide) rfl (fun ls hl => ?_)
          refine lv_iload_n hx hb dX5_settling_88 rfl (lv_at hl 0 rfl) ?_
          refine lv_iconst (v := 5) hx hb dX5_settling_89 (by decide) ?_
          refine lv_icmp_ne (tgt := 96) hx hb dX5_settling_90 (by decide) (fun c17 => ?_) (fun c17 => ?_)
          · have hF := ite_f hF c17
            obtain ⟨v18, hv18, hF⟩ := lt_e hF
            refine lv_iinc (v := v18) (lv' := [(4, .int v18), (3, .int x15), (0, .ref h), (1, .int w1), (2, .int w2)]) hx hb dX5_settling_96 hl (k := 4) rfl (by rw [hv18]; rfl) (by decide) rfl (fun ls hl => ?_)
            refine lv_goto (tgt := 28) hx hb dX5_settling_99 (by decide) ?_
            exact ihn6 _ _ _ _ _ _ _ hF hP hD hS (lv_sub hl [2, 3, 4, 1, 0] rfl) kxn6
          · have hF := ite_t hF c17
            refine lv_iload hx hb dX5_settling_93 (lv_at hl 4 rfl) ?_
            obtain rfl := some_e hF
            refine W.widen (k := 2) (n := 12) (Nat.le_of_ble_eq_true rfl) (Nat.le_of_ble_eq_true rfl) ?_
            exact vx_ret (W.iret (v := v9) hx hb hr (fun t ht hW => ⟨⟨v9, ((v9, o13), (fun _ _ => 0)), rfl, ⟨rfl, rfl⟩, ⟨by rw [ht]; exact hP, va_K.moved hW.alike hK, hD⟩⟩, hS.F ht⟩) hS.2.2 dX5_settling_95)
        refine lv_icmp_gt (tgt := 86) hx hb dX5_settling_77 (by decide) (fun c14 => ?_) (fun c14 => ?_)
        · have hF := ite_t hF c14
          refine lv_iconst (v := 0) hx hb dX5_settling_86 (by decide) ?_
          exact Jx15 _ _ _ _ hF hP hD hS (lv_sub hl [0, 1, 2, 4] rfl)
        · have hF := ite_f hF c14
          refine lv_iload_n hx hb dX5_settling_80 rfl (lv_at hl 3 rfl) ?_
          refine lv_iconst (v := 1) hx hb dX5_settling_81 (by decide) ?_
          refine lv_iadd hx hb dX5_settling_82 ?_
          refine lv_goto (tgt := 87) hx hb dX5_settling_83 (by decide) ?_
          exact Jx15 _ _ _ _ hF hP hD hS (lv_sub hl [0, 1, 2, 4] rfl)
  refine Ln6 _ _ _ _ _ _ _ _ hF hP hD hS (lv_sub hl [2, 3, 4, 1, 0] rfl) (fun x19 H locs ls hF hP hD hS hl => ?_)
  refine lv_iconst (v := (-1)) hx hb dX5_settling_102 (by decide) ?_
  obtain rfl := some_e hF
  refine W.widen (k := 2) (n := 12) (Nat.le_of_ble_eq_true rfl) (Nat.le_of_ble_eq_true rfl) ?_
  exact vx_ret (W.iret (v := (-1)) hx hb hr (fun t ht hW => ⟨⟨(-1), (((-1), x19), (fun _ _ => 0)), rfl, ⟨rfl, rfl⟩, ⟨by rw [ht]; exact hP, va_K.moved hW.alike hK, hD⟩⟩, hS.F ht⟩) hS.2.2 dX5_settling_103)
def F_X5_bestDither_27 (w3 : Int32) (AZ : ST) (w1 : Int32) (w2 : Int32) : Nat → ((Int32 × ST) → Option ((Int32 × ST) ⊕ String)) → Int32 → Int64 → Int32 → ST → Option ((Int32 × ST) ⊕ String)
  | 0, _, _, _, _, _ => none
  | n7 + 1, K8, v9, v10, v11, v12 => if (w3 : Int32) < v11 then (K8 (v9, v12)) else (ob (F_X3_copyFrom v12 AZ) (fun o14 => lt_ (α := Nat → Int32) (upd o14.1 5 v11) (fun v15 => ob (F_X3_costOfSteps (v15, o14.2.1, o14.2.2.1, o14.2.2.2.1, o14.2.2.2.2.1, o14.2.2.2.2.2.1, o14.2.2.2.2.2.2.1, o14.2.2.2.2.2.2.2.1, o14.2.2.2.2.2.2.2.2.1, o14.2.2.2.2.2.2.2.2.2.1, o14.2.2.2.2.2.2.2.2.2.2.1, o14.2.2.2.2.2.2.2.2.2.2.2.1, o14.2.2.2.2.2.2.2.2.2.2.2.2.1, o14.2.2.2.2.2.2.2.2.2.2.2.2.2.1, o14.2.2.2.2.2.2.2.2.2.2.2.2.2.2) w1 w2) (fun o16 => rg (α := Int32 × Int64) (fun K20 => if (v9 : Int32) = (-1) then (K20 (v11, o16.1)) else (if (o16.1 : Int64) < v10 then (K20 (v11, o16.1)) else (K20 (v9, v10)))) (fun x19 => lt_ (α := Int32) (v11 + 1) (fun v21 => F_X5_bestDither_27 w3 AZ w1 w2 n7 K8 x19.1 x19.2 v21 o16.2))))))
def F_X5_bestDither (AZ : ST) (BZ : ST) (w1 : Int32) (w2 : Int32) (w3 : Int32) : Option ((Int32 × ST) ⊕ String) := obx (F_X5_demandSignal w1) (fun o1 => obx (F_X5_demandRange w2 1 50) (fun o3 => obx (F_X5_demandRange w3 0 100) (fun o5 => F_X5_bestDither_27 w3 AZ w1 w2 1000 (fun x22 => some (.inl (x22.1, x22.2))) (-1) 0 0 BZ)))
theorem kX5_bestDither_1 : (Cond.fieldLink RX5 16 "SelfTuner" "trial" "LSelfTuner$State;") ∈ wsX5_bestDither := List.mem_of_getElem? (i := 1) rfl
theorem kX5_bestDither_2 : (Cond.fieldLink RX5 12 "SelfTuner" "state" "LSelfTuner$State;") ∈ wsX5_bestDither := List.mem_of_getElem? (i := 2) rfl
theorem kX5_bestDither_15 : (Cond.instanceMethod yX3_copyFrom) ∈ wsX5_bestDither := List.mem_of_getElem? (i := 15) rfl
theorem kX5_bestDither_16 : (Cond.initialized RX3) ∈ wsX5_bestDither := List.mem_of_getElem? (i := 16) rfl
theorem kX5_bestDither_17 : (Cond.selects RX3 yX3_copyFrom yX3_copyFrom) ∈ wsX5_bestDither := List.mem_of_getElem? (i := 17) rfl
theorem kX5_bestDither_54 : (Cond.instanceMethod yX3_costOfSteps) ∈ wsX5_bestDither := List.mem_of_getElem? (i := 54) rfl
theorem kX5_bestDither_55 : (Cond.selects RX3 yX3_costOfSteps yX3_costOfSteps) ∈ wsX5_bestDither := List.mem_of_getElem? (i := 55) rfl
theorem iX5_bestDither_X3 : ∀ w ∈ wsX30, w ∈ wsX5_bestDither := fun w h => List.mem_cons_of_mem _ (List.mem_append_left _ (List.mem_append_left _ (List.mem_append_left _ (List.mem_append_left _ (List.mem_append_right _ h)))))
theorem iX5_bestDither_X5 : ∀ w ∈ wsX50, w ∈ wsX5_bestDither := fun w h => List.mem_cons_of_mem _ (List.mem_append_left _ (List.mem_append_left _ (List.mem_append_left _ (List.mem_append_left _ (List.mem_append_left _ (List.mem_append_right _ h))))))
set_option maxHeartbeats 4000000 in
set_option maxRecDepth 100000 in
theorem c_X5_bestDither (l : Launch) (hfl : l.stackTraces = false) (dC : Nat → ClassId) (dI : Nat → Nat → Nat) (cyI cyJ cyB cyS cyD : ClassId) (h : Nat) (bA : Nat → Nat) (bB : Nat → Nat) (aV : Nat) (yt : Nat) (sz : Nat) (xN : Int32) (AZ : ST) (BZ : ST) (w1 : Int32) (w2 : Int32) (w3 : Int32) {out : (Int32 × ST) ⊕ String} (hF : F_X5_bestDither AZ BZ w1 w2 w3 = some out) : Xi (T := Nat → Nat → Nat) l yX5_bestDither wsX5_bestDither ({ frames := 8, cells := 3, slots := 18, locals := 180 } : Room) (dC, dI) [(cyI, .int), (cyJ, .long), (cyB, .byte), (cyS, .object "SelfTuner$State"), (cyD, .double)] sz [.ref h, .int w1, .int w2, .int w3] ((h, .inr (5, [.ref (bA 0), .ref (bB 0), .ref aV, .int xN, .ref yt])) :: (wB cyI cyJ bA AZ ++ (wB cyI cyJ bB BZ ++ []))) out (fun (v : Int32 × ST) => v.1) (fun (v : Int32 × ST) (bV : Nat → Nat → Nat) => ((h, .inr (5, [.ref (bA 0), .ref (bB 0), .ref aV, .int xN, .ref yt])) :: (wB cyI cyJ bA AZ ++ (wB cyI cyJ bB v.2 ++ [])))) 3 18 := by
  refine vx_ofW (cc := cX5_bestDither) (maxL := 10) (ret := (some .int)) (by decide) rfl ?_
  intro p e s m args below meth c s₁ B hml htab hv
  obtain ⟨rfl, ⟨hN, hsz, hP, hK, hD0⟩, hZ, hT⟩ := hv
  have hx := B.exec
  have hb := B.bytes
  have hr := B.returns
  have hts := atoms_spec (ws := wsX5_bestDither) B.pre
  have hown : s.vm.findClass RX5 = some m.cls := findClass_of_methodNamed B.named
  have hlocks := B.notSynchronized
  subst hsz
  have hD := hD0.self (sz := s.heap.size)
  generalize hAe : va_A ((h, .inr (5, [.ref (bA 0), .ref (bB 0), .ref aV, .int xN, .ref yt])) :: (wB cyI cyJ bA AZ ++ (wB cyI cyJ bB BZ ++ []))) s.heap.size = A at hD hZ ⊢
  have hA : ∀ q : Nat, s.heap.size ≤ q → A q := fun q h => by rw [← hAe]; exact Or.inr h
  have hS : va_S A s.heap s.heap [] := va_S.rf
  have hP : va_P (dC, dI) vwCl ((h, .inr (5, [.ref (bA 0), .ref (bB 0), .ref aV, .int xN, .ref yt])) :: (wB cyI cyJ bA AZ ++ (wB cyI cyJ bB BZ ++ []))) s.heap := hP
  have hl := lv_entry ([.ref h, .int w1, .int w2, .int w3]) (n := 10) (Nat.le_of_ble_eq_true rfl)
  rw [lg_entry_eq]
  generalize (lg_sl ([.ref h, .int w1, .int w2, .int w3]) ++ List.replicate (10 - (lg_sl ([.ref h, .int w1, .int w2, .int w3])).length) Slot.unset).toArray = ls at hl ⊢
  have hl : lv_has ls 10 [(0, .ref h), (1, .int w1), (2, .int w2), (3, .int w3)] := hl
  unfold F_X5_bestDither at hF
  refine lv_iload_n hx hb dX5_bestDither_0 rfl (lv_at hl 1 rfl) ?_
  obtain ⟨oo1, hoo1, hoo1k⟩ := obx_e hF
  refine x_xcallv (wr := ((h, .inr (5, [.ref (bA 0), .ref (bB 0), .ref aV, .int xN, .ref yt])) :: (wB cyI cyJ bA AZ ++ (wB cyI cyJ bB BZ ++ [])))) (ws' := fun o1 t2 => ((h, .inr (5, [.ref (bA 0), .ref (bB 0), .ref aV, .int xN, .ref yt])) :: (wB cyI cyJ bA AZ ++ (wB cyI cyJ bB BZ ++ [])))) hoo1k hlocks htab hK (vx_runS (As := [.int w1]) (rest := []) ⟨hx, hb, hml, hown, hts⟩ (c_X5_demandSignal l hfl dC dI cyI cyJ cyB cyS cyD s.heap.size w1 hoo1) (va_cwS 1 hts gX5_bestDither_X5_demandSignal rfl rfl rfl (by decide +kernel) ⟨Nat.le_of_ble_eq_true rfl, Nat.le_of_ble_eq_true rfl⟩) ⟨cPreX_blind, x_preX hN hZ hT hP hD hS hA hK [] rfl rfl⟩ rfl rfl hl.1 rfl (lv_room (Nat.le_of_ble_eq_true rfl)) dX5_bestDither_1 ⟨Nat.le_of_ble_eq_true rfl, Nat.le_of_ble_eq_true rfl⟩) hP hD hS hA [] [0, 1, 2, 3, 4, 5, 6, 7, 8, 9, 10, 11, 12, 13, 14, 15, 16, 17, 18, 19, 20, 21, 22, 23, 24, 25, 26, 27, 28, 29, 30] [0, 1, 2, 3, 4, 5, 6, 7, 8, 9, 10, 11, 12, 13, 14, 15, 16, 17, 18, 19, 20, 21, 22, 23, 24, 25, 26, 27, 28, 29, 30] rfl rfl rfl (by decide) rfl (fun _ _ => rfl) rfl (Nat.le_of_ble_eq_true rfl) (Nat.le_of_ble_eq_true rfl) (fun o1 t2 H locs hF hP hD hS => ?_)
  refine lv_iload_n hx hb dX5_bestDither_4 rfl (lv_at hl 2 rfl) ?_
  refine lv_iconst (v := 1) hx hb dX5_bestDither_5 (by decide) ?_
  refine lv_bipush (v := 50) hx hb dX5_bestDither_6 (by decide) ?_
  obtain ⟨oo3, hoo3, hoo3k⟩ := obx_e hF
  refine x_xcallv (wr := ((h, .inr (5, [.ref (bA 0), .ref (bB 0), .ref aV, .int xN, .ref yt])) :: (wB cyI cyJ bA AZ ++ (wB cyI cyJ bB BZ ++ [])))) (ws' := fun o3 t4 => ((h, .inr (5, [.ref (bA 0), .ref (bB 0), .ref aV, .int xN, .ref yt])) :: (wB cyI cyJ bA AZ ++ (wB cyI cyJ bB BZ ++ [])))) hoo3k hlocks htab hK (vx_runS (As := [.int w2, .int 1, .int 50]) (rest := []) ⟨hx, hb, hml, hown, hts⟩ (c_X5_demandRange l hfl dC dI cyI cyJ cyB cyS cyD H.size w2 1 50 hoo3) (va_cwS 3 hts gX5_bestDither_X5_demandRange rfl rfl rfl (by decide +kernel) ⟨Nat.le_of_ble_eq_true rfl, Nat.le_of_ble_eq_true rfl⟩) ⟨cPreX_blind, x_preX hN hZ hT hP hD hS hA hK [] rfl rfl⟩ rfl rfl hl.1 rfl (lv_room (Nat.le_of_ble_eq_true rfl)) dX5_bestDither_8 ⟨Nat.le_of_ble_eq_true rfl, Nat.le_of_ble_eq_true rfl⟩) hP hD hS hA [] [0, 1, 2, 3, 4, 5, 6, 7, 8, 9, 10, 11, 12, 13, 14, 15, 16, 17, 18, 19, 20, 21, 22, 23, 24, 25, 26, 27, 28, 29, 30] [0, 1, 2, 3, 4, 5, 6, 7, 8, 9, 10, 11, 12, 13, 14, 15, 16, 17, 18, 19, 20, 21, 22, 23, 24, 25, 26, 27, 28, 29, 30] rfl rfl rfl (by decide) rfl (fun _ _ => rfl) rfl (Nat.le_of_ble_eq_true rfl) (Nat.le_of_ble_eq_true rfl) (fun o3 t4 H locs hF hP hD hS => ?_)
  refine lv_iload_n hx hb dX5_bestDither_11 rfl (lv_at hl 3 rfl) ?_
  refine lv_iconst (v := 0) hx hb dX5_bestDither_12 (by decide) ?_
  refine lv_bipush (v := 100) hx hb dX5_bestDither_13 (by decide) ?_
  obtain ⟨oo5, hoo5, hoo5k⟩ := obx_e hF
  refine x_xcallv (wr := ((h, .inr (5, [.ref (bA 0), .ref (bB 0), .ref aV, .int xN, .ref yt])) :: (wB cyI cyJ bA AZ ++ (wB cyI cyJ bB BZ ++ [])))) (ws' := fun o5 t6 => ((h, .inr (5, [.ref (bA 0), .ref (bB 0), .ref aV, .int xN, .ref yt])) :: (wB cyI cyJ bA AZ ++ (wB cyI cyJ bB BZ ++ [])))) hoo5k hlocks htab hK (vx_runS (As := [.int w3, .int 0, .int 100]) (rest := []) ⟨hx, hb, hml, hown, hts⟩ (c_X5_demandRange l hfl dC dI cyI cyJ cyB cyS cyD H.size w3 0 100 hoo5) (va_cwS 3 hts gX5_bestDither_X5_demandRange rfl rfl rfl (by decide +kernel) ⟨Nat.le_of_ble_eq_true rfl, Nat.le_of_ble_eq_true rfl⟩) ⟨cPreX_blind, x_preX hN hZ hT hP hD hS hA hK [] rfl rfl⟩ rfl rfl hl.1 rfl (lv_room (Nat.le_of_ble_eq_true rfl)) dX5_bestDither_15 ⟨Nat.le_of_ble_eq_true rfl, Nat.le_of_ble_eq_true rfl⟩) hP hD hS hA [] [0, 1, 2, 3, 4, 5, 6, 7, 8, 9, 10, 11, 12, 13, 14, 15, 16, 17, 18, 19, 20, 21, 22, 23, 24, 25, 26, 27, 28, 29, 30] [0, 1, 2, 3, 4, 5, 6, 7, 8, 9, 10, 11, 12, 13, 14, 15, 16, 17, 18, 19, 20, 21, 22, 23, 24, 25, 26, 27, 28, 29, 30] rfl rfl rfl (by decide) rfl (fun _ _ => rfl) rfl (Nat.le_of_ble_eq_true rfl) (Nat.le_of_ble_eq_true rfl) (fun o5 t6 H locs hF hP hD hS => ?_)
  refine lv_iconst (v := (-1)) hx hb dX5_bestDither_18 (by decide) ?_
  refine lv_istore (lv' := [(4, .int (-1)), (0, .ref h), (1, .int w1), (2, .int w2), (3, .int w3)]) hx hb dX5_bestDither_19 hl (by decide) rfl (fun ls hl => ?_)
  refine lv_lconst (v := 0) hx hb dX5_bestDither_21 (by decide) ?_
  refine lv_lstore (lv' := [(5, .long 0), (4, .int (-1)), (0, .ref h), (1, .int w1), (2, .int w2), (3, .int w3)]) hx hb dX5_bestDither_22 hl (by decide) rfl (fun ls hl => ?_)
  refine lv_iconst (v := 0) hx hb dX5_bestDither_24 (by decide) ?_
  refine lv_istore (lv' := [(7, .int 0), (5, .long 0), (4, .int (-1)), (0, .ref h), (1, .int w1), (2, .int w2), (3, .int w3)]) hx hb dX5_bestDither_25 hl (by decide) rfl (fun ls hl => ?_)
  have Ln7 : ∀ (n7 : Nat) (K8 : (Int32 × ST) → Option ((Int32 × ST) ⊕ String)) (v9 : Int32) (v10 : Int64) (v11 : Int32) (v12 : ST) (H : Heap) (locs : List Loc) (ls : Array Slot), F_X5_bestDither_27 w3 AZ w1 w2 n7 K8 v9 v10 v11 v12 = some out → va_P (dC, dI) vwCl ((h, .inr (5, [.ref (bA 0), .ref (bB 0), .ref aV, .int xN, .ref yt])) :: (wB cyI cyJ bA AZ ++ (wB cyI cyJ bB v12 ++ []))) H → va_D A ((h, .inr (5, [.ref (bA 0), .ref (bB 0), .ref aV, .int xN, .ref yt])) :: (wB cyI cyJ bA AZ ++ (wB cyI cyJ bB v12 ++ []))) → va_S A s.heap H locs → lv_has ls 10 [(0, .ref h), (1, .int w1), (2, .int w2), (3, .int w3), (4, .int v9), (5, .long v10), (7, .int v11)] → (∀ (x22 : Int32 × ST) (H : Heap) (locs : List Loc) (ls : Array Slot), K8 x22 = some out → va_P (dC, dI) vwCl ((h, .inr (5, [.ref (bA 0), .ref (bB 0), .ref aV, .int xN, .ref yt])) :: (wB cyI cyJ bA AZ ++ (wB cyI cyJ bB x22.2 ++ []))) H → va_D A ((h, .inr (5, [.ref (bA 0), .ref (bB 0), .ref aV, .int xN, .ref yt])) :: (wB cyI cyJ bA AZ ++ (wB cyI cyJ bB x22.2 ++ []))) → va_S A s.heap H locs → lv_has ls 10 [(4, .int x22.1)] → W p l e (headSpec wsX5_bestDither ({ frames := 8, cells := 3, slots := 18, locals := 180 } : Room)).room s m ([.ref h, .int w1, .int w2, .int w3] : List Value).toArray below meth c H locs 3 18 (vx_MQ below (va_Qi (fun (r' : Int32) (v : (Int32 × ST) × (Nat → Nat → Nat)) => out = .inl v.1 ∧ r' = (fun (v : Int32 × ST) => v.1) v.1) (cN (dC, dI) [(cyI, .int), (cyJ, .long), (cyB, .byte), (cyS, .object "SelfTuner$State"), (cyD, .double)] (fun (v : Int32 × ST) (bV : Nat → Nat → Nat) => ((h, .inr (5, [.ref (bA 0), .ref (bB 0), .ref aV, .int xN, .ref yt])) :: (wB cyI cyJ bA AZ ++ (wB cyI cyJ bB v.2 ++ [])))) A) A) (cX (dC, dI) [(cyI, .int), (cyJ, .long), (cyB, .byte), (cyS, .object "SelfTuner$State"), (cyD, .double)] ((h, .inr (5, [.ref (bA 0), .ref (bB 0), .ref aV, .int xN, .ref yt])) :: (wB cyI cyJ bA AZ ++ (wB cyI cyJ bB BZ ++ []))) A out) ([.ref h, .int w1, .int w2, .int w3] : List Value).toArray s 3 18 A) (F0 m 94 ls [])) → W p l e (headSpec wsX5_bestDither ({ frames := 8, cells := 3, slots := 18, locals := 180 } : Room)).room s m ([.ref h, .int w1, .int w2, .int w3] : List Value).toArray below meth c H locs 3 18 (vx_MQ below (va_Qi (fun (r' : Int32) (v : (Int32 × ST) × (Nat → Nat → Nat)) => out = .inl v.1 ∧ r' = (fun (v : Int32 × ST) => v.1) v.1) (cN (dC, dI) [(cyI, .int), (cyJ, .long), (cyB, .byte), (cyS, .object "SelfTuner$State"), (cyD, .double)] (fun (v : Int32 × ST) (bV : Nat → Nat → Nat) => ((h, .inr (5, [.ref (bA 0), .ref (bB 0), .ref aV, .int xN, .ref yt])) :: (wB cyI cyJ bA AZ ++ (wB cyI cyJ bB v.2 ++ [])))) A) A) (cX (dC, dI) [(cyI, .int), (cyJ, .long), (cyB, .byte), (cyS, .object "SelfTuner$State"), (cyD, .double)] ((h, .inr (5, [.ref (bA 0), .ref (bB 0), .ref aV, .int xN, .ref yt])) :: (wB cyI cyJ bA AZ ++ (wB cyI cyJ bB BZ ++ []))) A out) ([.ref h, .int w1, .int w2, .int w3] : List Value).toArray s 3 18 A) (F0 m 27 ls []) := by
    intro n7
    induction n7 with
    | zero => intro K8 v9 v10 v11 v12 H locs ls hF; exact no_e (show none = some out from hF)
    | succ n7 ihn7 =>
      intro K8 v9 v10 v11 v12 H locs ls hF hP hD hS hl kxn7
      rw [F_X5_bestDither_27] at hF
      refine lv_iload hx hb dX5_bestDither_27 (lv_at hl 6 rfl) ?_
      refine lv_iload_n hx hb dX5_bestDither_29 rfl (lv_at hl 3 rfl) ?_
      refine lv_icmp_gt (tgt := 94) hx hb dX5_bestDither_30 (by decide) (fun c13 => ?_) (fun c13 => ?_)
      · have hF := ite_t hF c13
        exact kxn7 _ _ _ _ hF hP hD hS (lv_sub hl [4] rfl)
      · have hF := ite_f hF c13
        refine lv_aload_n hx hb dX5_bestDither_33 rfl (lv_at hl 0 rfl) ?_
        refine va_get (D := (dC, dI)) (ci := 5) (v := .ref (bB 0)) (C := RX5) (T := TX5) (N := 5) hx hb hts iX5_bestDither_X5 hown hK hP 0 rfl rfl 1 (by decide) (hts _ kX5_bestDither_1) (fun _ h9 => h9) rfl dX5_bestDither_34 ?_
        refine lv_aload_n hx hb dX5_bestDither_37 rfl (lv_at hl 0 rfl) ?_
        refine va_get (D := (dC, dI)) (ci := 5) (v := .ref (bA 0)) (C := RX5) (T := TX5) (N := 5) hx hb hts iX5_bestDither_X5 hown hK hP 0 rfl rfl 0 (by decide) (hts _ kX5_bestDither_2) (fun _ h9 => h9) rfl dX5_bestDither_38 ?_
        obtain ⟨o14, ho14, hF⟩ := ob_e hF
        refine x_callv (wr := [(h, .inr (5, [.ref (bA 0), .ref (bB 0), .ref aV, .int xN, .ref yt]))]) (ws' := ((h, .inr (5, [.ref (bA 0), .ref (bB 0), .ref aV, .int xN, .ref yt])) :: (wB cyI cyJ bA AZ ++ (wB cyI cyJ bB o14 ++ [])))) (va_runVN (As := [.ref (bA 0)]) (rest := []) ⟨hx, hb, hml, hown, hts⟩ (c_X3_copyFrom l dC dI cyI cyJ cyB cyS cyD (bB 0) (bB 1) (bB 2) (bB 13) (bB 3) (bB 4) (bB 5) (bB 6) (bB 7) (bB 10) (bB 8) (bB 9) (bB 11) (bB 12) (bB 14) (bA 0) (bA 1) (bA 2) (bA 13) (bA 3) (bA 4) (bA 5) (bA 6) (bA 7) (bA 10) (bA 8) (bA 9) (bA 11) (bA 12) (bA 14) H.size v12 AZ ho14) ⟨va_cnB 1 hts gX5_bestDither_X3_copyFrom_n159 rfl rfl rfl (nm_X5_159 hN) (hts _ kX5_bestDither_16) (by decide +kernel) ⟨Nat.le_of_ble_eq_true rfl, Nat.le_of_ble_eq_true rfl⟩, hts _ kX5_bestDither_15, hts _ kX5_bestDither_17⟩ ⟨cPre_blind, va_recv hK hP (ci := 3) (q0 := 16) rfl rfl, x_pre hN hP hD hK [16, 17, 18, 19, 20, 21, 22, 23, 24, 25, 26, 27, 28, 29, 30, 1, 2, 3, 4, 5, 6, 7, 8, 9, 10, 11, 12, 13, 14, 15] rfl rfl⟩ rfl rfl hl.1 rfl (lv_room (Nat.le_of_ble_eq_true rfl)) dX5_bestDither_41 ⟨Nat.le_of_ble_eq_true rfl, Nat.le_of_ble_eq_true rfl⟩) hP hD hS hA [16, 17, 18, 19, 20, 21, 22, 23, 24, 25, 26, 27, 28, 29, 30, 1, 2, 3, 4, 5, 6, 7, 8, 9, 10, 11, 12, 13, 14, 15] [0] [0, 16, 17, 18, 19, 20, 21, 22, 23, 24, 25, 26, 27, 28, 29, 30, 1, 2, 3, 4, 5, 6, 7, 8, 9, 10, 11, 12, 13, 14, 15] rfl rfl rfl (by decide) rfl rfl (fun H locs hP hD hS => ?_)
        refine lv_aload_n hx hb dX5_bestDither_44 rfl (lv_at hl 0 rfl) ?_
        refine va_get (D := (dC, dI)) (ci := 5) (v := .ref (bB 0)) (C := RX5) (T := TX5) (N := 5) hx hb hts iX5_bestDither_X5 hown hK hP 0 rfl rfl 1 (by decide) (hts _ kX5_bestDither_1) (fun _ h9 => h9) rfl dX5_bestDither_45 ?_
        refine va_getN (D := (dC, dI)) (ci := 3) (v := .ref (bB 1)) (C := RX3) (T := TX3) (N := 3) hx hb hts iX5_bestDither_X3 hown hK hP 16 rfl rfl 0 (by decide) (va_Nw.use rfl (nf_X5_48 hN)) (fun _ h9 => h9) rfl dX5_bestDither_48 ?_
        refine lv_iconst (v := 5) hx hb dX5_bestDither_51 (by decide) ?_
        refine lv_iload hx hb dX5_bestDither_52 (lv_at hl 6 rfl) ?_
        obtain ⟨v15, hv15, hF⟩ := lt_e hF
        refine x_iast (ws' := ((h, .inr (5, [.ref (bA 0), .ref (bB 0), .ref aV, .int xN, .ref yt])) :: (wB cyI cyJ bA AZ ++ (wB cyI cyJ bB (v15, o14.2.1, o14.2.2.1, o14.2.2.2.1, o14.2.2.2.2.1, o14.2.2.2.2.2.1, o14.2.2.2.2.2.2.1, o14.2.2.2.2.2.2.2.1, o14.2.2.2.2.2.2.2.2.1, o14.2.2.2.2.2.2.2.2.2.1, o14.2.2.2.2.2.2.2.2.2.2.1, o14.2.2.2.2.2.2.2.2.2.2.2.1, o14.2.2.2.2.2.2.2.2.2.2.2.2.1, o14.2.2.2.2.2.2.2.2.2.2.2.2.2.1, o14.2.2.2.2.2.2.2.2.2.2.2.2.2.2) ++ [])))) hx hb hK hP hD hS 17 0 rfl rfl (show (5 : Int32).toNatClampNeg = 5 by decide) (inbK (k := 5) (by decide) rfl) hv15 rfl dX5_bestDither_54 (fun H locs hP hD hS => ?_)
        refine lv_aload_n hx hb dX5_bestDither_55 rfl (lv_at hl 0 rfl) ?_
        refine va_get (D := (dC, dI)) (ci := 5) (v := .ref (bB 0)) (C := RX5) (T := TX5) (N := 5) hx hb hts iX5_bestDither_X5 hown hK hP 0 rfl rfl 1 (by decide) (hts _ kX5_bestDither_1) (fun _ h9 => h9) rfl dX5_bestDither_56 ?_
        refine lv_iload_n hx hb dX5_bestDither_59 rfl (lv_at hl 1 rfl) ?_
        refine lv_iload_n hx hb dX5_bestDither_60 rfl (lv_at hl 2 rfl) ?_
        obtain ⟨o16, ho16, hF⟩ := ob_e hF
        refine x_calll (wr := ((h, .inr (5, [.ref (bA 0), .ref (bB 0), .ref aV, .int xN, .ref yt])) :: (wB cyI cyJ bA AZ ++ []))) (ws' := ((h, .inr (5, [.ref (bA 0), .ref (bB 0), .ref aV, .int xN, .ref yt])) :: (wB cyI cyJ bA AZ ++ (wB cyI cyJ bB o16.2 ++ [])))) (va_runVN (As := [.int w1, .int w2]) (rest := []) ⟨hx, hb, hml, hown, hts⟩ (c_X3_costOfSteps l dC dI cyI cyJ cyB cyS cyD (bB 0) (bB 1) (bB 2) (bB 13) (bB 3) (bB 4) (bB 5) (bB 6) (bB 7) (bB 10) (bB 8) (bB 9) (bB 11) (bB 12) (bB 14) H.size (v15, o14.2.1, o14.2.2.1, o14.2.2.2.1, o14.2.2.2.2.1, o14.2.2.2.2.2.1, o14.2.2.2.2.2.2.1, o14.2.2.2.2.2.2.2.1, o14.2.2.2.2.2.2.2.2.1, o14.2.2.2.2.2.2.2.2.2.1, o14.2.2.2.2.2.2.2.2.2.2.1, o14.2.2.2.2.2.2.2.2.2.2.2.1, o14.2.2.2.2.2.2.2.2.2.2.2.2.1, o14.2.2.2.2.2.2.2.2.2.2.2.2.2.1, o14.2.2.2.2.2.2.2.2.2.2.2.2.2.2) w1 w2 ho16) ⟨va_cnB 2 hts gX5_bestDither_X3_costOfSteps_n163 rfl rfl rfl (nm_X5_163 hN) (hts _ kX5_bestDither_16) (by decide +kernel) ⟨Nat.le_of_ble_eq_true rfl, Nat.le_of_ble_eq_true rfl⟩, hts _ kX5_bestDither_54, hts _ kX5_bestDither_55⟩ ⟨cPre_blind, va_recv hK hP (ci := 3) (q0 := 16) rfl rfl, x_pre hN hP hD hK [16, 17, 18, 19, 20, 21, 22, 23, 24, 25, 26, 27, 28, 29, 30] rfl rfl⟩ rfl rfl hl.1 rfl (lv_room (Nat.le_of_ble_eq_true rfl)) dX5_bestDither_61 ⟨Nat.le_of_ble_eq_true rfl, Nat.le_of_ble_eq_true rfl⟩) hP hD hS hA [16, 17, 18, 19, 20, 21, 22, 23, 24, 25, 26, 27, 28, 29, 30] [0, 1, 2, 3, 4, 5, 6, 7, 8, 9, 10, 11, 12, 13, 14, 15] [0, 1, 2, 3, 4, 5, 6, 7, 8, 9, 10, 11, 12, 13, 14, 15, 16, 17, 18, 19, 20, 21, 22, 23, 24, 25, 26, 27, 28, 29, 30] rfl rfl rfl (by decide) rfl rfl (fun H locs hP hD hS => ?_)
        refine lv_lstore (lv' := [(8, .long o16.1), (0, .ref h), (1, .int w1), (2, .int w2), (3, .int w3), (4, .int v9), (5, .long v10), (7, .int v11)]) hx hb dX5_bestDither_64 hl (by decide) rfl (fun ls hl => ?_)
        refine lv_iload hx hb dX5_bestDither_66 (lv_at hl 5 rfl) ?_
        refine lv_iconst (v := (-1)) hx hb dX5_bestDither_68 (by decide) ?_
        obtain ⟨K20, hK20, hF⟩ := rg_e hF
        have Jx19 : ∀ (x19 : Int32 × Int64) (H : Heap) (locs : List Loc) (ls : Array Slot), K20 x19 = some out → va_P (dC, dI) vwCl ((h, .inr (5, [.ref (bA 0), .ref (bB 0), .ref aV, .int xN, .ref yt])) :: (wB cyI cyJ bA AZ ++ (wB cyI cyJ bB o16.2 ++ []))) H → va_D A ((h, .inr (5, [.ref (bA 0), .ref (bB 0), .ref aV, .int xN, .ref yt])) :: (wB cyI cyJ bA AZ ++ (wB cyI cyJ bB o16.2 ++ []))) → va_S A s.heap H locs → lv_has ls 10 [(0, .ref h), (1, .int w1), (2, .int w2), (3, .int w3), (4, .int x19.1), (5, .long x19.2), (7, .int v11)] → W p l e (headSpec wsX5_bestDither ({ frames := 8, cells := 3, slots := 18, locals := 180 } : Room)).room s m ([.ref h, .int w1, .int w2, .int w3] : List Value).toArray below meth c H locs 3 18 (vx_MQ below (va_Qi (fun (r' : Int32) (v : (Int32 × ST) × (Nat → Nat → Nat)) => out = .inl v.1 ∧ r' = (fun (v : Int32 × ST) => v.1) v.1) (cN (dC, dI) [(cyI, .int), (cyJ, .long), (cyB, .byte), (cyS, .object "SelfTuner$State"), (cyD, .double)] (fun (v : Int32 × ST) (bV : Nat → Nat → Nat) => ((h, .inr (5, [.ref (bA 0), .ref (bB 0), .ref aV, .int xN, .ref yt])) :: (wB cyI cyJ bA AZ ++ (wB cyI cyJ bB v.2 ++ [])))) A) A) (cX (dC, dI) [(cyI, .int), (cyJ, .long), (cyB, .byte), (cyS, .object "SelfTuner$State"), (cyD, .double)] ((h, .inr (5, [.ref (bA 0), .ref (bB 0), .ref aV, .int xN, .ref yt])) :: (wB cyI cyJ bA AZ ++ (wB cyI cyJ bB BZ ++ []))) A out) ([.ref h, .int w1, .int w2, .int w3] : List Value).toArray s 3 18 A) (F0 m 88 ls []) := by
          intro x19 H locs ls hF hP hD hS hl
          rw [hK20] at hF
          obtain ⟨v21, hv21, hF⟩ := lt_e hF
          refine lv_iinc (v := v21) (lv' := [(7, .int v21), (0, .ref h), (1, .int w1), (2, .int w2), (3, .int w3), (4, .int x19.1), (5, .long x19.2)]) hx hb dX5_bestDither_88 hl (k := 6) rfl (by rw [hv21]; rfl) (by decide) rfl (fun ls hl => ?_)
          refine lv_goto (tgt := 27) hx hb dX5_bestDither_91 (by decide) ?_
          exact ihn7 _ _ _ _ _ _ _ _ hF hP hD hS (lv_sub hl [1, 2, 3, 4, 5, 6, 0] rfl) kxn7
        refine lv_icmp_eq (tgt := 80) hx hb dX5_bestDither_69 (by decide) (fun c17 => ?_) (fun c17 => ?_)
        · have hF := ite_t hF c17
          refine lv_lload hx hb dX5_bestDither_80 (lv_at hl 0 rfl) ?_
          refine lv_lstore (lv' := [(5, .long o16.1), (8, .long o16.1), (0, .ref h), (1, .int w1), (2, .int w2), (3, .int w3), (4, .int v9), (7, .int v11)]) hx hb dX5_bestDither_82 hl (by decide) rfl (fun ls hl => ?_)
          refine lv_iload hx hb dX5_bestDither_84 (lv_at hl 7 rfl) ?_
          refine lv_istore (lv' := [(4, .int v11), (5, .long o16.1), (8, .long o16.1), (0, .ref h), (1, .int w1), (2, .int w2), (3, .int w3), (7, .int v11)]) hx hb dX5_bestDither_86 hl (by decide) rfl (fun ls hl => ?_)
          exact Jx19 _ _ _ _ hF hP hD hS (lv_sub hl [3, 4, 5, 6, 0, 1, 7] rfl)
        · have hF := ite_f hF c17
          refine lv_lload hx hb dX5_bestDither_72 (lv_at hl 0 rfl) ?_
          refine lv_lload hx hb dX5_bestDither_74 (lv_at hl 6 rfl) ?_
          refine W.lcmp hx hb dX5_bestDither_76 ?_
          refine x_il_ge (tgt := 88) hx hb dX5_bestDither_77 (by decide) (fun c18 => ?_) (fun c18 => ?_)
          · have hF := ite_f hF c18
            exact Jx19 _ _ _ _ hF hP hD hS (lv_sub hl [1, 2, 3, 4, 5, 6, 7] rfl)
          · have hF := ite_t hF c18
            refine lv_lload hx hb dX5_bestDither_80 (lv_at hl 0 rfl) ?_
            refine lv_lstore (lv' := [(5, .long o16.1), (8, .long o16.1), (0, .ref h), (1, .int w1), (2, .int w2), (3, .int w3), (4, .int v9), (7, .int v11)]) hx hb dX5_bestDither_82 hl (by decide) rfl (fun ls hl => ?_)
            refine lv_iload hx hb dX5_bestDither_84 (lv_at hl 7 rfl) ?_
            refine lv_istore (lv' := [(4, .int v11), (5, .long o16.1), (8, .long o16.1), (0, .ref h), (1, .int w1), (2, .int w2), (3, .int w3), (7, .int v11)]) hx hb dX5_bestDither_86 hl (by decide) rfl (fun ls hl => ?_)
            exact Jx19 _ _ _ _ hF hP hD hS (lv_sub hl [3, 4, 5, 6, 0, 1, 7] rfl)
  refine Ln7 _ _ _ _ _ _ _ _ _ hF hP hD hS (lv_sub hl [3, 4, 5, 6, 2, 1, 0] rfl) (fun x22 H locs ls hF hP hD hS hl => ?_)
  refine lv_iload hx hb dX5_bestDither_94 (lv_at hl 0 rfl) ?_
  obtain rfl := some_e hF
  refine W.widen (k := 3) (n := 18) (Nat.le_of_ble_eq_true rfl) (Nat.le_of_ble_eq_true rfl) ?_
  exact vx_ret (W.iret (v := x22.1) hx hb hr (fun t ht hW => ⟨⟨x22.1, ((x22.1, x22.2), (fun _ _ => 0)), rfl, ⟨rfl, rfl⟩, ⟨by rw [ht]; exact hP, va_K.moved hW.alike hK, hD⟩⟩, hS.F ht⟩) hS.2.2 dX5_bestDither_96)
noncomputable def F_X5_append (yTl : Int32) (yTb : Nat → Int32) (w1 : Int32) : Option ((Int32 × Int32 × (Nat → Int32)) ⊕ String) := obx (F_X5_demandRange w1 0 127) (fun o1 => ob (F_X2_addIfRoom yTl yTb w1) (fun o3 => if (o3.1 : Int32) = 0 then (ckc (o3.2.1 = yTl ∧ o3.2.2 = yTb) (some (.inr xISE))) else (some (.inl (o3.2.1, o3.2.1, o3.2.2)))))
theorem kX5_append_1 : (Cond.classLink RX5 175 "java/lang/IllegalStateException") ∈ wsX5_append := List.mem_of_getElem? (i := 1) rfl
theorem kX5_append_2 : (Cond.initialized "java/lang/IllegalStateException") ∈ wsX5_append := List.mem_of_getElem? (i := 2) rfl
theorem kX5_append_3 : (Cond.fieldLink RX5 30 "SelfTuner" "text" "LSelfTuner$SampleText;") ∈ wsX5_append := List.mem_of_getElem? (i := 3) rfl
theorem kX5_append_13 : (Cond.instanceMethod yX2_addIfRoom) ∈ wsX5_append := List.mem_of_getElem? (i := 13) rfl
theorem kX5_append_14 : (Cond.initialized RX2) ∈ wsX5_append := List.mem_of_getElem? (i := 14) rfl
theorem kX5_append_15 : (Cond.selects RX2 yX2_addIfRoom yX2_addIfRoom) ∈ wsX5_append := List.mem_of_getElem? (i := 15) rfl
theorem iX5_append_X2 : ∀ w ∈ wsX20, w ∈ wsX5_append := fun w h => List.mem_cons_of_mem _ (List.mem_append_left _ (List.mem_append_left _ (List.mem_append_right _ h)))
theorem iX5_append_X5 : ∀ w ∈ wsX50, w ∈ wsX5_append := fun w h => List.mem_cons_of_mem _ (List.mem_append_left _ (List.mem_append_left _ (List.mem_append_left _ (List.mem_append_right _ h))))
set_option maxHeartbeats 4000000 in
set_option maxRecDepth 100000 in
theorem c_X5_append (l : Launch) (hfl : l.stackTraces = false) (dC : Nat → ClassId) (dI : Nat → Nat → Nat) (cyI cyJ cyB cyS cyD : ClassId) (h : Nat) (bA : Nat → Nat) (bB : Nat → Nat) (aV : Nat) (yt : Nat) (ytb : Nat) (ytn : Nat) (sz : Nat) (xN : Int32) (yTl : Int32) (yTs : Int32) (yTp : Int32) (yTb : Nat → Int32) (yTn : Nat → Int32) (w1 : Int32) {out : (Int32 × Int32 × (Nat → Int32)) ⊕ String} (hF : F_X5_append yTl yTb w1 = some out) : Xi (T := Nat → Nat → Nat) l yX5_append wsX5_append ({ frames := 7, cells := 2, slots := 12, locals := 122 } : Room) (dC, dI) [(cyI, .int), (cyJ, .long), (cyB, .byte), (cyS, .object "SelfTuner$State"), (cyD, .double)] sz [.ref h, .int w1] [(h, .inr (5, [.ref (bA 0), .ref (bB 0), .ref aV, .int xN, .ref yt])), (yt, .inr (2, [.ref ytb, .int yTl, .ref ytn, .int yTs, .int yTp])), (ytb, .inl (cyB, 120, .inl yTb)), (ytn, .inl (cyI, 60, .inl yTn))] out (fun (v : Int32 × Int32 × (Nat → Int32)) => v.1) (fun (v : Int32 × Int32 × (Nat → Int32)) (bV : Nat → Nat → Nat) => [(h, .inr (5, [.ref (bA 0), .ref (bB 0), .ref aV, .int xN, .ref yt])), (yt, .inr (2, [.ref ytb, .int v.2.1, .ref ytn, .int yTs, .int yTp])), (ytb, .inl (cyB, 120, .inl v.2.2)), (ytn, .inl (cyI, 60, .inl yTn))]) 2 12 := by
  refine vx_ofW (cc := cX5_append) (maxL := 2) (ret := (some .int)) (by decide) rfl ?_
  intro p e s m args below meth c s₁ B hml htab hv
  obtain ⟨rfl, ⟨hN, hsz, hP, hK, hD0⟩, hZ, hT⟩ := hv
  have hx := B.exec
  have hb := B.bytes
  have hr := B.returns
  have hts := atoms_spec (ws := wsX5_append) B.pre
  have hown : s.vm.findClass RX5 = some m.cls := findClass_of_methodNamed B.named
  have hlocks := B.notSynchronized
  subst hsz
  have hD := hD0.self (sz := s.heap.size)
  generalize hAe : va_A [(h, .inr (5, [.ref (bA 0), .ref (bB 0), .ref aV, .int xN, .ref yt])), (yt, .inr (2, [.ref ytb, .int yTl, .ref ytn, .int yTs, .int yTp])), (ytb, .inl (cyB, 120, .inl yTb)), (ytn, .inl (cyI, 60, .inl yTn))] s.heap.size = A at hD hZ ⊢
  have hA : ∀ q : Nat, s.heap.size ≤ q → A q := fun q h => by rw [← hAe]; exact Or.inr h
  have hS : va_S A s.heap s.heap [] := va_S.rf
  have hP : va_P (dC, dI) vwCl [(h, .inr (5, [.ref (bA 0), .ref (bB 0), .ref aV, .int xN, .ref yt])), (yt, .inr (2, [.ref ytb, .int yTl, .ref ytn, .int yTs, .int yTp])), (ytb, .inl (cyB, 120, .inl yTb)), (ytn, .inl (cyI, 60, .inl yTn))] s.heap := hP
  have hl := lv_entry ([.ref h, .int w1]) (n := 2) (Nat.le_of_ble_eq_true rfl)
  rw [lg_entry_eq]
  generalize (lg_sl ([.ref h, .int w1]) ++ List.replicate (2 - (lg_sl ([.ref h, .int w1])).length) Slot.unset).toArray = ls at hl ⊢
  have hl : lv_has ls 2 [(0, .ref h), (1, .int w1)] := hl
  unfold F_X5_append at hF
  refine lv_iload_n hx hb dX5_append_0 rfl (lv_at hl 1 rfl) ?_
  refine lv_iconst (v := 0) hx hb dX5_append_1 (by decide) ?_
  refine lv_bipush (v := 127) hx hb dX5_append_2 (by decide) ?_
  obtain ⟨oo1, hoo1, hoo1k⟩ := obx_e hF
  refine x_xcallv (wr := [(h, .inr (5, [.ref (bA 0), .ref (bB 0), .ref aV, .int xN, .ref yt])), (yt, .inr (2, [.ref ytb, .int yTl, .ref ytn, .int yTs, .int yTp])), (ytb, .inl (cyB, 120, .inl yTb)), (ytn, .inl (cyI, 60, .inl yTn))]) (ws' := fun o1 t2 => [(h, .inr (5, [.ref (bA 0), .ref (bB 0), .ref aV, .int xN, .ref yt])), (yt, .inr (2, [.ref ytb, .int yTl, .ref ytn, .int yTs, .int yTp])), (ytb, .inl (cyB, 120, .inl yTb)), (ytn, .inl (cyI, 60, .inl yTn))]) hoo1k hlocks htab hK (vx_runS (As := [.int w1, .int 0, .int 127]) (rest := []) ⟨hx, hb, hml, hown, hts⟩ (c_X5_demandRange l hfl dC dI cyI cyJ cyB cyS cyD s.heap.size w1 0 127 hoo1) (va_cwS 3 hts gX5_append_X5_demandRange rfl rfl rfl (by decide +kernel) ⟨Nat.le_of_ble_eq_true rfl, Nat.le_of_ble_eq_true rfl⟩) ⟨cPreX_blind, x_preX hN hZ hT hP hD hS hA hK [] rfl rfl⟩ rfl rfl hl.1 rfl (lv_room (Nat.le_of_ble_eq_true rfl)) dX5_append_4 ⟨Nat.le_of_ble_eq_true rfl, Nat.le_of_ble_eq_true rfl⟩) hP hD hS hA [] [0, 1, 2, 3] [0, 1, 2, 3] rfl rfl rfl (by decide) rfl (fun _ _ => rfl) rfl (Nat.le_of_ble_eq_true rfl) (Nat.le_of_ble_eq_true rfl) (fun o1 t2 H locs hF hP hD hS => ?_)
  refine lv_aload_n hx hb dX5_append_7 rfl (lv_at hl 0 rfl) ?_
  refine va_get (D := (dC, dI)) (ci := 5) (v := .ref yt) (C := RX5) (T := TX5) (N := 5) hx hb hts iX5_append_X5 hown hK hP 0 rfl rfl 4 (by decide) (hts _ kX5_append_3) (fun _ h9 => h9) rfl dX5_append_8 ?_
  refine lv_iload_n hx hb dX5_append_11 rfl (lv_at hl 1 rfl) ?_
  obtain ⟨o3, ho3, hF⟩ := ob_e hF
  refine x_calli (wr := [(h, .inr (5, [.ref (bA 0), .ref (bB 0), .ref aV, .int xN, .ref yt]))]) (ws' := [(h, .inr (5, [.ref (bA 0), .ref (bB 0), .ref aV, .int xN, .ref yt])), (yt, .inr (2, [.ref ytb, .int o3.2.1, .ref ytn, .int yTs, .int yTp])), (ytb, .inl (cyB, 120, .inl o3.2.2)), (ytn, .inl (cyI, 60, .inl yTn))]) (va_runVN (As := [.int w1]) (rest := []) ⟨hx, hb, hml, hown, hts⟩ (c_X2_addIfRoom l dC dI cyI cyJ cyB cyS cyD yt ytb ytn H.size yTl yTs yTp yTb yTn w1 ho3) ⟨va_cnB 1 hts gX5_append_X2_addIfRoom_n171 rfl rfl rfl (nm_X5_171 hN) (hts _ kX5_append_14) (by decide +kernel) ⟨Nat.le_of_ble_eq_true rfl, Nat.le_of_ble_eq_true rfl⟩, hts _ kX5_append_13, hts _ kX5_append_15⟩ ⟨cPre_blind, va_recv hK hP (ci := 2) (q0 := 1) rfl rfl, x_pre hN hP hD hK [1, 2, 3] rfl rfl⟩ rfl rfl hl.1 rfl (lv_room (Nat.le_of_ble_eq_true rfl)) dX5_append_12 ⟨Nat.le_of_ble_eq_true rfl, Nat.le_of_ble_eq_true rfl⟩) hP hD hS hA [1, 2, 3] [0] [0, 1, 2, 3] rfl rfl rfl (by decide) rfl rfl (fun H locs hP hD hS => ?_)
  refine lv_if_ne (tgt := 28) hx hb dX5_append_15 (by decide) (fun c4 => ?_) (fun c4 => ?_)
  · have hF := ite_f hF c4
    refine lv_aload_n hx hb dX5_append_28 rfl (lv_at hl 0 rfl) ?_
    refine va_get (D := (dC, dI)) (ci := 5) (v := .ref yt) (C := RX5) (T := TX5) (N := 5) hx hb hts iX5_append_X5 hown hK hP 0 rfl rfl 4 (by decide) (hts _ kX5_append_3) (fun _ h9 => h9) rfl dX5_append_29 ?_
    refine va_getN (D := (dC, dI)) (ci := 2) (v := .int o3.2.1) (C := RX2) (T := TX2) (N := 5) hx hb hts iX5_append_X2 hown hK hP 1 rfl rfl 1 (by decide) (va_Nw.use rfl (nf_X5_182 hN)) (fun _ h9 => h9) rfl dX5_append_32 ?_
    obtain rfl := some_e hF
    refine W.widen (k := 2) (n := 12) (Nat.le_of_ble_eq_true rfl) (Nat.le_of_ble_eq_true rfl) ?_
    exact vx_ret (W.iret (v := o3.2.1) hx hb hr (fun t ht hW => ⟨⟨o3.2.1, ((o3.2.1, o3.2.1, o3.2.2), (fun _ _ => 0)), rfl, ⟨rfl, rfl⟩, ⟨by rw [ht]; exact hP, va_K.moved hW.alike hK, hD⟩⟩, hS.F ht⟩) hS.2.2 dX5_append_35)
  · have hF := ite_t hF c4
    obtain ⟨g5, hF⟩ := ckc_e hF
    rw [g5.1] at hP hD
    rw [g5.2] at hP hD
    obtain rfl := some_e hF
    exact x_throw (cls := xISE) (names := ["java/lang/RuntimeException", "java/lang/Exception"]) hx hb hfl hown (by decide +kernel) (by decide +kernel) (hts _ kX5_append_1) (hts _ kX5_append_2) (hT.1 _ (List.mem_of_getElem? (i := 2) rfl)) (vx_hat (B := [.castable xISE xISE, .declares (Bundle.initS "java/lang/RuntimeException"), .declares (Bundle.initS "java/lang/Exception"), .declares (Bundle.initS "java/lang/Throwable")]) (fun w h => hts w (List.mem_cons_of_mem _ (List.mem_append_left _ (List.mem_append_right _ h)))) (by decide +kernel) (vx_c (va_Nw.use rfl (hT.2.1 _ (List.mem_of_getElem? (i := 2) rfl))) (vx_c (va_Nw.use rfl (hT.2.2.1 _ (List.mem_of_getElem? (i := 0) rfl))) (vx_c (va_Nw.use rfl (hT.2.2.1 _ (List.mem_of_getElem? (i := 1) rfl))) (vx_c (va_Nw.use rfl (hT.2.2.1 _ (List.mem_of_getElem? (i := 2) rfl))) vx_n))))) (by decide +kernel) hZ hK hP hD hS (hl.1.trans hml.symm) dX5_append_18 dX5_append_21 dX5_append_22 dX5_append_24 dX5_append_27 htab (Nat.le_of_ble_eq_true rfl) (Nat.le_of_ble_eq_true rfl) (Nat.le_of_ble_eq_true rfl) (Nat.le_of_ble_eq_true rfl) hlocks rfl (Nat.le_of_ble_eq_true rfl) (Nat.le_of_ble_eq_true rfl)
def F_X5_clearText (yTl : Int32) : Option (Int32 × Int32) := some (yTl, 0)
theorem kX5_clearText_1 : (Cond.fieldLink RX5 30 "SelfTuner" "text" "LSelfTuner$SampleText;") ∈ wsX5_clearText := List.mem_of_getElem? (i := 1) rfl
theorem iX5_clearText_X2 : ∀ w ∈ wsX20, w ∈ wsX5_clearText := fun w h => List.mem_cons_of_mem _ (List.mem_append_right _ h)
theorem iX5_clearText_X5 : ∀ w ∈ wsX50, w ∈ wsX5_clearText := fun w h => List.mem_cons_of_mem _ (List.mem_append_left _ (List.mem_append_right _ h))
set_option maxHeartbeats 4000000 in
set_option maxRecDepth 100000 in
theorem c_X5_clearText (l : Launch) (dC : Nat → ClassId) (dI : Nat → Nat → Nat) (cyI cyJ cyB cyS cyD : ClassId) (h : Nat) (bA : Nat → Nat) (bB : Nat → Nat) (aV : Nat) (yt : Nat) (ytb : Nat) (ytn : Nat) (sz : Nat) (xN : Int32) (yTl : Int32) (yTs : Int32) (yTp : Int32) (yTb : Nat → Int32) (yTn : Nat → Int32) {out : Int32 × Int32} (hF : F_X5_clearText yTl = some out) : Mi l yX5_clearText wsX5_clearText ({ frames := 0, cells := 0, slots := 0, locals := 0 } : Room) (dC, dI) [(cyI, .int), (cyJ, .long), (cyB, .byte), (cyS, .object "SelfTuner$State"), (cyD, .double)] sz [.ref h] [(h, .inr (5, [.ref (bA 0), .ref (bB 0), .ref aV, .int xN, .ref yt])), (yt, .inr (2, [.ref ytb, .int yTl, .ref ytn, .int yTs, .int yTp])), (ytb, .inl (cyB, 120, .inl yTb)), (ytn, .inl (cyI, 60, .inl yTn))] out.1 [(h, .inr (5, [.ref (bA 0), .ref (bB 0), .ref aV, .int xN, .ref yt])), (yt, .inr (2, [.ref ytb, .int out.2, .ref ytn, .int yTs, .int yTp])), (ytb, .inl (cyB, 120, .inl yTb)), (ytn, .inl (cyI, 60, .inl yTn))] := by
  refine Met.ofW (cc := cX5_clearText) (maxL := 2) (ret := (some .int)) (by decide) rfl ?_
  intro p e s m args below meth c s₁ B hml hv
  obtain ⟨rfl, hN, hsz, hP, hK, hD0⟩ := hv
  have hx := B.exec
  have hb := B.bytes
  have hr := B.returns
  have hts := atoms_spec (ws := wsX5_clearText) B.pre
  have hown : s.vm.findClass RX5 = some m.cls := findClass_of_methodNamed B.named
  have hlocks := B.notSynchronized
  subst hsz
  have hD := hD0.self (sz := s.heap.size)
  generalize hAe : va_A [(h, .inr (5, [.ref (bA 0), .ref (bB 0), .ref aV, .int xN, .ref yt])), (yt, .inr (2, [.ref ytb, .int yTl, .ref ytn, .int yTs, .int yTp])), (ytb, .inl (cyB, 120, .inl yTb)), (ytn, .inl (cyI, 60, .inl yTn))] s.heap.size = A at hD ⊢
  have hA : ∀ q : Nat, s.heap.size ≤ q → A q := fun q h => by rw [← hAe]; exact Or.inr h
  have hS : va_S A s.heap s.heap [] := va_S.rf
  have hP : va_P (dC, dI) vwCl [(h, .inr (5, [.ref (bA 0), .ref (bB 0), .ref aV, .int xN, .ref yt])), (yt, .inr (2, [.ref ytb, .int yTl, .ref ytn, .int yTs, .int yTp])), (ytb, .inl (cyB, 120, .inl yTb)), (ytn, .inl (cyI, 60, .inl yTn))] s.heap := hP
  have hl := lv_entry ([.ref h]) (n := 2) (Nat.le_of_ble_eq_true rfl)
  rw [lg_entry_eq]
  generalize (lg_sl ([.ref h]) ++ List.replicate (2 - (lg_sl ([.ref h])).length) Slot.unset).toArray = ls at hl ⊢
  have hl : lv_has ls 2 [(0, .ref h)] := hl
  unfold F_X5_clearText at hF
  refine lv_aload_n hx hb dX5_clearText_0 rfl (lv_at hl 0 rfl) ?_
  refine va_get (D := (dC, dI)) (ci := 5) (v := .ref yt) (C := RX5) (T := TX5) (N := 5) hx hb hts iX5_clearText_X5 hown hK hP 0 rfl rfl 4 (by decide) (hts _ kX5_clearText_1) (fun _ h9 => h9) rfl dX5_clearText_1 ?_
  refine va_getN (D := (dC, dI)) (ci := 2) (v := .int yTl) (C := RX2) (T := TX2) (N := 5) hx hb hts iX5_clearText_X2 hown hK hP 1 rfl rfl 1 (by decide) (va_Nw.use rfl (nf_X5_182 hN)) (fun _ h9 => h9) rfl dX5_clearText_4 ?_
  refine lv_istore_n (lv' := [(1, .int yTl), (0, .ref h)]) hx hb dX5_clearText_7 rfl hl (by decide) rfl (fun ls hl => ?_)
  refine lv_aload_n hx hb dX5_clearText_8 rfl (lv_at hl 1 rfl) ?_
  refine va_get (D := (dC, dI)) (ci := 5) (v := .ref yt) (C := RX5) (T := TX5) (N := 5) hx hb hts iX5_clearText_X5 hown hK hP 0 rfl rfl 4 (by decide) (hts _ kX5_clearText_1) (fun _ h9 => h9) rfl dX5_clearText_9 ?_
  refine lv_iconst (v := 0) hx hb dX5_clearText_12 (by decide) ?_
  refine x_putN (D := (dC, dI)) (ci := 2) (v := .int 0) (ty := .int) (C := RX2) (T := TX2) (N := 5) (ws' := [(h, .inr (5, [.ref (bA 0), .ref (bB 0), .ref aV, .int xN, .ref yt])), (yt, .inr (2, [.ref ytb, .int 0, .ref ytn, .int yTs, .int yTp])), (ytb, .inl (cyB, 120, .inl yTb)), (ytn, .inl (cyI, 60, .inl yTn))]) hx hb hts iX5_clearText_X2 tyX2 tyX2_ok nmX2 hown hK hP hD hS 1 rfl rfl 1 (by decide) (va_Nw.use rfl (nf_X5_182 hN)) (fun _ h9 => h9) rfl (by decide +kernel) rfl rfl (Nat.le_of_ble_eq_true rfl) rfl dX5_clearText_13 (fun H locs hP hD hS => ?_)
  refine lv_iload_n hx hb dX5_clearText_16 rfl (lv_at hl 0 rfl) ?_
  obtain rfl := some_e hF
  exact W.iret (v := yTl) hx hb hr (fun t ht hW => ⟨⟨yTl, (), rfl, rfl, ⟨by rw [ht]; exact hP, va_K.moved hW.alike hK, hD⟩⟩, hS.F ht⟩) hS.2.2 dX5_clearText_17
def F_X5_digest (xN : Int32) (AZ : ST) (yTl : Int32) : Option (Int64) := ob (F_X5_mixed 2971 yTl.toInt64) (fun o1 => ob (F_X3_mixedSettings AZ o1) (fun o2 => ob (F_X0_mixedInto AZ.2.1 AZ.2.2.1 AZ.2.2.2.1 AZ.2.2.2.2.1 AZ.2.2.2.2.2.1 o2) (fun o3 => ob (F_X1_mixedInto AZ.2.2.2.2.2.2.2.2.2.2.2.1 AZ.2.2.2.2.2.2.2.2.2.2.2.2.1 AZ.2.2.2.2.2.2.2.2.2.2.2.2.2.1 AZ.2.2.2.2.2.2.2.2.2.2.2.2.2.2 o3) (fun o4 => ob (F_X5_inWindow AZ) (fun o5 => ob (F_X5_mixed o4 o5.toInt64) (fun o6 => ob (F_X5_determinant AZ) (fun o7 => ob (F_X5_mixed o6 o7) (fun o8 => ob (F_X5_mixed o8 xN.toInt64) (fun o9 => some o9)))))))))
theorem kX5_digest_1 : (Cond.constantLong RX5 199 (2971)) ∈ wsX5_digest := List.mem_of_getElem? (i := 1) rfl
theorem kX5_digest_2 : (Cond.fieldLink RX5 30 "SelfTuner" "text" "LSelfTuner$SampleText;") ∈ wsX5_digest := List.mem_of_getElem? (i := 2) rfl
theorem kX5_digest_3 : (Cond.fieldLink RX5 12 "SelfTuner" "state" "LSelfTuner$State;") ∈ wsX5_digest := List.mem_of_getElem? (i := 3) rfl
theorem kX5_digest_4 : (Cond.fieldLink RX5 23 "SelfTuner" "savedStates" "I") ∈ wsX5_digest := List.mem_of_getElem? (i := 4) rfl
theorem kX5_digest_10 : (Cond.instanceMethod yX3_mixedSettings) ∈ wsX5_digest := List.mem_of_getElem? (i := 10) rfl
theorem kX5_digest_11 : (Cond.initialized RX3) ∈ wsX5_digest := List.mem_of_getElem? (i := 11) rfl
theorem kX5_digest_12 : (Cond.selects RX3 yX3_mixedSettings yX3_mixedSettings) ∈ wsX5_digest := List.mem_of_getElem? (i := 12) rfl
theorem kX5_digest_15 : (Cond.instanceMethod yX0_mixedInto) ∈ wsX5_digest := List.mem_of_getElem? (i := 15) rfl
theorem kX5_digest_16 : (Cond.initialized RX0) ∈ wsX5_digest := List.mem_of_getElem? (i := 16) rfl
theorem kX5_digest_17 : (Cond.selects RX0 yX0_mixedInto yX0_mixedInto) ∈ wsX5_digest := List.mem_of_getElem? (i := 17) rfl
theorem kX5_digest_24 : (Cond.instanceMethod yX1_mixedInto) ∈ wsX5_digest := List.mem_of_getElem? (i := 24) rfl
theorem kX5_digest_25 : (Cond.initialized RX1) ∈ wsX5_digest := List.mem_of_getElem? (i := 25) rfl
theorem kX5_digest_26 : (Cond.selects RX1 yX1_mixedInto yX1_mixedInto) ∈ wsX5_digest := List.mem_of_getElem? (i := 26) rfl
theorem iX5_digest_X2 : ∀ w ∈ wsX20, w ∈ wsX5_digest := fun w h => List.mem_cons_of_mem _ (List.mem_append_left _ (List.mem_append_left _ (List.mem_append_left _ (List.mem_append_left _ (List.mem_append_right _ h)))))
theorem iX5_digest_X3 : ∀ w ∈ wsX30, w ∈ wsX5_digest := fun w h => List.mem_cons_of_mem _ (List.mem_append_left _ (List.mem_append_left _ (List.mem_append_left _ (List.mem_append_right _ h))))
theorem iX5_digest_X5 : ∀ w ∈ wsX50, w ∈ wsX5_digest := fun w h => List.mem_cons_of_mem _ (List.mem_append_left _ (List.mem_append_left _ (List.mem_append_left _ (List.mem_append_left _ (List.mem_append_left _ (List.mem_append_right _ h))))))
set_option maxHeartbeats 4000000 in
set_option maxRecDepth 100000 in
theorem c_X5_digest (l : Launch) (dC : Nat → ClassId) (dI : Nat → Nat → Nat) (cyI cyJ cyB cyS cyD : ClassId) (h : Nat) (bA : Nat → Nat) (bB : Nat → Nat) (aV : Nat) (yt : Nat) (ytb : Nat) (ytn : Nat) (sz : Nat) (xN : Int32) (AZ : ST) (yTl : Int32) (yTs : Int32) (yTp : Int32) (yTb : Nat → Int32) (yTn : Nat → Int32) {out : Int64} (hF : F_X5_digest xN AZ yTl = some out) : Ml l yX5_digest wsX5_digest ({ frames := 4, cells := 0, slots := 0, locals := 114 } : Room) (dC, dI) [(cyI, .int), (cyJ, .long), (cyB, .byte), (cyS, .object "SelfTuner$State"), (cyD, .double)] sz [.ref h] ((h, .inr (5, [.ref (bA 0), .ref (bB 0), .ref aV, .int xN, .ref yt])) :: (wB cyI cyJ bA AZ ++ [(yt, .inr (2, [.ref ytb, .int yTl, .ref ytn, .int yTs, .int yTp])), (ytb, .inl (cyB, 120, .inl yTb)), (ytn, .inl (cyI, 60, .inl yTn))])) out ((h, .inr (5, [.ref (bA 0), .ref (bB 0), .ref aV, .int xN, .ref yt])) :: (wB cyI cyJ bA AZ ++ [(yt, .inr (2, [.ref ytb, .int yTl, .ref ytn, .int yTs, .int yTp])), (ytb, .inl (cyB, 120, .inl yTb)), (ytn, .inl (cyI, 60, .inl yTn))])) := by
  refine Met.ofW (cc := cX5_digest) (maxL := 3) (ret := (some .long)) (by decide) rfl ?_
  intro p e s m args below meth c s₁ B hml hv
  obtain ⟨rfl, hN, hsz, hP, hK, hD0⟩ := hv
  have hx := B.exec
  have hb := B.bytes
  have hr := B.returns
  have hts := atoms_spec (ws := wsX5_digest) B.pre
  have hown : s.vm.findClass RX5 = some m.cls := findClass_of_methodNamed B.named
  have hlocks := B.notSynchronized
  subst hsz
  have hD := hD0.self (sz := s.heap.size)
  generalize hAe : va_A ((h, .inr (5, [.ref (bA 0), .ref (bB 0), .ref aV, .int xN, .ref yt])) :: (wB cyI cyJ bA AZ ++ [(yt, .inr (2, [.ref ytb, .int yTl, .ref ytn, .int yTs, .int yTp])), (ytb, .inl (cyB, 120, .inl yTb)), (ytn, .inl (cyI, 60, .inl yTn))])) s.heap.size = A at hD ⊢
  have hA : ∀ q : Nat, s.heap.size ≤ q → A q := fun q h => by rw [← hAe]; exact Or.inr h
  have hS : va_S A s.heap s.heap [] := va_S.rf
  have hP : va_P (dC, dI) vwCl ((h, .inr (5, [.ref (bA 0), .ref (bB 0), .ref aV, .int xN, .ref yt])) :: (wB cyI cyJ bA AZ ++ [(yt, .inr (2, [.ref ytb, .int yTl, .ref ytn, .int yTs, .int yTp])), (ytb, .inl (cyB, 120, .inl yTb)), (ytn, .inl (cyI, 60, .inl yTn))])) s.heap := hP
  have hl := lv_entry ([.ref h]) (n := 3) (Nat.le_of_ble_eq_true rfl)
  rw [lg_entry_eq]
  generalize (lg_sl ([.ref h]) ++ List.replicate (3 - (lg_sl ([.ref h])).length) Slot.unset).toArray = ls at hl ⊢
  have hl : lv_has ls 3 [(0, .ref h)] := hl
  unfold F_X5_digest at hF
  refine lv_ldc2 (v := 2971) hx hb hown (hts _ kX5_digest_1) dX5_digest_0 ?_
  refine lv_aload_n hx hb dX5_digest_3 rfl (lv_at hl 0 rfl) ?_
  refine va_get (D := (dC, dI)) (ci := 5) (v := .ref yt) (C := RX5) (T := TX5) (N := 5) hx hb hts iX5_digest_X5 hown hK hP 0 rfl rfl 4 (by decide) (hts _ kX5_digest_2) (fun _ h9 => h9) rfl dX5_digest_4 ?_
  refine va_getN (D := (dC, dI)) (ci := 2) (v := .int yTl) (C := RX2) (T := TX2) (N := 5) hx hb hts iX5_digest_X2 hown hK hP 16 rfl rfl 1 (by decide) (va_Nw.use rfl (nf_X5_182 hN)) (fun _ h9 => h9) rfl dX5_digest_7 ?_
  refine lv_i2l (v := yTl.toInt64) hx hb dX5_digest_10 rfl ?_
  obtain ⟨o1, ho1, hF⟩ := ob_e hF
  refine x_callzl (va_runS (As := [.long 2971, .long yTl.toInt64]) (rest := []) ⟨hx, hb, hml, hown, hts⟩ (c_X5_mixed l 2971 yTl.toInt64 ho1) (va_cwS 2 hts gX5_digest_X5_mixed rfl rfl rfl (by decide +kernel) ⟨Nat.le_of_ble_eq_true rfl, Nat.le_of_ble_eq_true rfl⟩) ⟨true_blind, fun _ _ _ => ⟨rfl, trivial⟩⟩ rfl rfl hl.1 rfl (lv_room (Nat.le_of_ble_eq_true rfl)) dX5_digest_11 ⟨Nat.le_of_ble_eq_true rfl, Nat.le_of_ble_eq_true rfl⟩) ?_
  refine lv_lstore_n (lv' := [(1, .long o1), (0, .ref h)]) hx hb dX5_digest_14 rfl hl (by decide) rfl (fun ls hl => ?_)
  refine lv_aload_n hx hb dX5_digest_15 rfl (lv_at hl 1 rfl) ?_
  refine va_get (D := (dC, dI)) (ci := 5) (v := .ref (bA 0)) (C := RX5) (T := TX5) (N := 5) hx hb hts iX5_digest_X5 hown hK hP 0 rfl rfl 0 (by decide) (hts _ kX5_digest_3) (fun _ h9 => h9) rfl dX5_digest_16 ?_
  refine lv_lload_n hx hb dX5_digest_19 rfl (lv_at hl 0 rfl) ?_
  obtain ⟨o2, ho2, hF⟩ := ob_e hF
  refine x_calll (wr := [(h, .inr (5, [.ref (bA 0), .ref (bB 0), .ref aV, .int xN, .ref yt])), (yt, .inr (2, [.ref ytb, .int yTl, .ref ytn, .int yTs, .int yTp])), (ytb, .inl (cyB, 120, .inl yTb)), (ytn, .inl (cyI, 60, .inl yTn))]) (ws' := ((h, .inr (5, [.ref (bA 0), .ref (bB 0), .ref aV, .int xN, .ref yt])) :: (wB cyI cyJ bA AZ ++ [(yt, .inr (2, [.ref ytb, .int yTl, .ref ytn, .int yTs, .int yTp])), (ytb, .inl (cyB, 120, .inl yTb)), (ytn, .inl (cyI, 60, .inl yTn))]))) (va_runVN (As := [.long o1]) (rest := []) ⟨hx, hb, hml, hown, hts⟩ (c_X3_mixedSettings l dC dI cyI cyJ cyB cyS cyD (bA 0) (bA 1) (bA 2) (bA 13) (bA 3) (bA 4) (bA 5) (bA 6) (bA 7) (bA 10) (bA 8) (bA 9) (bA 11) (bA 12) (bA 14) s.heap.size AZ o1 ho2) ⟨va_cnB 1 hts gX5_digest_X3_mixedSettings_n204 rfl rfl rfl (nm_X5_204 hN) (hts _ kX5_digest_11) (by decide +kernel) ⟨Nat.le_of_ble_eq_true rfl, Nat.le_of_ble_eq_true rfl⟩, hts _ kX5_digest_10, hts _ kX5_digest_12⟩ ⟨cPre_blind, va_recv hK hP (ci := 3) (q0 := 1) rfl rfl, x_pre hN hP hD hK [1, 2, 3, 4, 5, 6, 7, 8, 9, 10, 11, 12, 13, 14, 15] rfl rfl⟩ rfl rfl hl.1 rfl (lv_room (Nat.le_of_ble_eq_true rfl)) dX5_digest_20 ⟨Nat.le_of_ble_eq_true rfl, Nat.le_of_ble_eq_true rfl⟩) hP hD hS hA [1, 2, 3, 4, 5, 6, 7, 8, 9, 10, 11, 12, 13, 14, 15] [0, 16, 17, 18] [0, 4, 5, 6, 7, 8, 9, 10, 11, 12, 13, 14, 15, 16, 17, 18, 1, 2, 3] rfl rfl rfl (by decide) rfl rfl (fun H locs hP hD hS => ?_)
  refine lv_lstore_n (lv' := [(1, .long o2), (0, .ref h)]) hx hb dX5_digest_23 rfl hl (by decide) rfl (fun ls hl => ?_)
  refine lv_aload_n hx hb dX5_digest_24 rfl (lv_at hl 1 rfl) ?_
  refine va_get (D := (dC, dI)) (ci := 5) (v := .ref (bA 0)) (C := RX5) (T := TX5) (N := 5) hx hb hts iX5_digest_X5 hown hK hP 0 rfl rfl 0 (by decide) (hts _ kX5_digest_3) (fun _ h9 => h9) rfl dX5_digest_25 ?_
  refine va_getN (D := (dC, dI)) (ci := 3) (v := .ref (bA 2)) (C := RX3) (T := TX3) (N := 3) hx hb hts iX5_digest_X3 hown hK hP 1 rfl rfl 1 (by decide) (va_Nw.use rfl (nf_X5_57 hN)) (fun _ h9 => h9) rfl dX5_digest_28 ?_
  refine lv_lload_n hx hb dX5_digest_31 rfl (lv_at hl 0 rfl) ?_
  obtain ⟨o3, ho3, hF⟩ := ob_e hF
  refine x_calll (wr := [(h, .inr (5, [.ref (bA 0), .ref (bB 0), .ref aV, .int xN, .ref yt])), ((bA 0), .inr (3, [.ref (bA 1), .ref (bA 2), .ref (bA 13)])), ((bA 1), .inl (cyI, 7, .inl AZ.1)), ((bA 13), .inr (1, [.ref (bA 14), .int AZ.2.2.2.2.2.2.2.2.2.2.2.1, .long AZ.2.2.2.2.2.2.2.2.2.2.2.2.1, .int AZ.2.2.2.2.2.2.2.2.2.2.2.2.2.1])), ((bA 14), .inl (cyI, 3, .inl AZ.2.2.2.2.2.2.2.2.2.2.2.2.2.2)), (yt, .inr (2, [.ref ytb, .int yTl, .ref ytn, .int yTs, .int yTp])), (ytb, .inl (cyB, 120, .inl yTb)), (ytn, .inl (cyI, 60, .inl yTn))]) (ws' := ((h, .inr (5, [.ref (bA 0), .ref (bB 0), .ref aV, .int xN, .ref yt])) :: (wB cyI cyJ bA AZ ++ [(yt, .inr (2, [.ref ytb, .int yTl, .ref ytn, .int yTs, .int yTp])), (ytb, .inl (cyB, 120, .inl yTb)), (ytn, .inl (cyI, 60, .inl yTn))]))) (va_runVN (As := [.long o2]) (rest := []) ⟨hx, hb, hml, hown, hts⟩ (c_X0_mixedInto l dC dI cyI cyJ cyB cyS cyD (bA 2) (bA 3) (bA 4) (bA 5) (bA 6) (bA 7) (bA 10) (bA 8) (bA 9) (bA 11) (bA 12) H.size AZ.2.1 AZ.2.2.1 AZ.2.2.2.1 AZ.2.2.2.2.1 AZ.2.2.2.2.2.1 AZ.2.2.2.2.2.2.1 AZ.2.2.2.2.2.2.2.1 AZ.2.2.2.2.2.2.2.2.1 AZ.2.2.2.2.2.2.2.2.2.1 AZ.2.2.2.2.2.2.2.2.2.2.1 o2 ho3) ⟨va_cnB 1 hts gX5_digest_X0_mixedInto_n208 rfl rfl rfl (nm_X5_208 hN) (hts _ kX5_digest_16) (by decide +kernel) ⟨Nat.le_of_ble_eq_true rfl, Nat.le_of_ble_eq_true rfl⟩, hts _ kX5_digest_15, hts _ kX5_digest_17⟩ ⟨cPre_blind, va_recv hK hP (ci := 0) (q0 := 3) rfl rfl, x_pre hN hP hD hK [3, 4, 5, 6, 7, 8, 9, 10, 11, 12, 13] rfl rfl⟩ rfl rfl hl.1 rfl (lv_room (Nat.le_of_ble_eq_true rfl)) dX5_digest_32 ⟨Nat.le_of_ble_eq_true rfl, Nat.le_of_ble_eq_true rfl⟩) hP hD hS hA [3, 4, 5, 6, 7, 8, 9, 10, 11, 12, 13] [0, 1, 2, 14, 15, 16, 17, 18] [0, 1, 2, 8, 9, 10, 11, 12, 13, 14, 15, 16, 17, 18, 3, 4, 5, 6, 7] rfl rfl rfl (by decide) rfl rfl (fun H locs hP hD hS => ?_)
  refine lv_lstore_n (lv' := [(1, .long o3), (0, .ref h)]) hx hb dX5_digest_35 rfl hl (by decide) rfl (fun ls hl => ?_)
  refine lv_aload_n hx hb dX5_digest_36 rfl (lv_at hl 1 rfl) ?_
  refine va_get (D := (dC, dI)) (ci := 5) (v := .ref (bA 0)) (C := RX5) (T := TX5) (N := 5) hx hb hts iX5_digest_X5 hown hK hP 0 rfl rfl 0 (by decide) (hts _ kX5_digest_3) (fun _ h9 => h9) rfl dX5_digest_37 ?_
  refine va_getN (D := (dC, dI)) (ci := 3) (v := .ref (bA 13)) (C := RX3) (T := TX3) (N := 3) hx hb hts iX5_digest_X3 hown hK hP 1 rfl rfl 2 (by decide) (va_Nw.use rfl (nf_X5_76 hN)) (fun _ h9 => h9) rfl dX5_digest_40 ?_
  refine lv_lload_n hx hb dX5_digest_43 rfl (lv_at hl 0 rfl) ?_
  obtain ⟨o4, ho4, hF⟩ := ob_e hF
  refine x_calll (wr := [(h, .inr (5, [.ref (bA 0), .ref (bB 0), .ref aV, .int xN, .ref yt])), ((bA 0), .inr (3, [.ref (bA 1), .ref (bA 2), .ref (bA 13)])), ((bA 1), .inl (cyI, 7, .inl AZ.1)), ((bA 2), .inr (0, [.ref (bA 3), .ref (bA 4), .ref (bA 5), .ref (bA 6), .ref (bA 7), .ref (bA 10), .ref (bA 8), .ref (bA 9)])), ((bA 3), .inl (cyI, 3, .inl AZ.2.1)), ((bA 4), .inl (cyI, 3, .inl AZ.2.2.1)), ((bA 5), .inl (cyI, 3, .inl AZ.2.2.2.1)), ((bA 6), .inl (cyJ, 9, .inr (.inl AZ.2.2.2.2.1))), ((bA 7), .inl (cyI, 5, .inl AZ.2.2.2.2.2.1)), ((bA 8), .inl (cyJ, 3, .inr (.inl AZ.2.2.2.2.2.2.1))), ((bA 9), .inl (cyJ, 3, .inr (.inl AZ.2.2.2.2.2.2.2.1))), ((bA 10), .inr (4, [.ref (bA 11), .ref (bA 12), .int AZ.2.2.2.2.2.2.2.2.1])), ((bA 11), .inl (cyI, 20, .inl AZ.2.2.2.2.2.2.2.2.2.1)), ((bA 12), .inl (cyI, 20, .inl AZ.2.2.2.2.2.2.2.2.2.2.1)), (yt, .inr (2, [.ref ytb, .int yTl, .ref ytn, .int yTs, .int yTp])), (ytb, .inl (cyB, 120, .inl yTb)), (ytn, .inl (cyI, 60, .inl yTn))]) (ws' := ((h, .inr (5, [.ref (bA 0), .ref (bB 0), .ref aV, .int xN, .ref yt])) :: (wB cyI cyJ bA AZ ++ [(yt, .inr (2, [.ref ytb, .int yTl, .ref ytn, .int yTs, .int yTp])), (ytb, .inl (cyB, 120, .inl yTb)), (ytn, .inl (cyI, 60, .inl yTn))]))) (va_runVN (As := [.long o3]) (rest := []) ⟨hx, hb, hml, hown, hts⟩ (c_X1_mixedInto l dC dI cyI cyJ cyB cyS cyD (bA 13) (bA 14) H.size AZ.2.2.2.2.2.2.2.2.2.2.2.1 AZ.2.2.2.2.2.2.2.2.2.2.2.2.1 AZ.2.2.2.2.2.2.2.2.2.2.2.2.2.1 AZ.2.2.2.2.2.2.2.2.2.2.2.2.2.2 o3 ho4) ⟨va_cnB 1 hts gX5_digest_X1_mixedInto_n211 rfl rfl rfl (nm_X5_211 hN) (hts _ kX5_digest_25) (by decide +kernel) ⟨Nat.le_of_ble_eq_true rfl, Nat.le_of_ble_eq_true rfl⟩, hts _ kX5_digest_24, hts _ kX5_digest_26⟩ ⟨cPre_blind, va_recv hK hP (ci := 1) (q0 := 14) rfl rfl, x_pre hN hP hD hK [14, 15] rfl rfl⟩ rfl rfl hl.1 rfl (lv_room (Nat.le_of_ble_eq_true rfl)) dX5_digest_44 ⟨Nat.le_of_ble_eq_true rfl, Nat.le_of_ble_eq_true rfl⟩) hP hD hS hA [14, 15] [0, 1, 2, 3, 4, 5, 6, 7, 8, 9, 10, 11, 12, 13, 16, 17, 18] [0, 1, 2, 3, 4, 5, 6, 7, 8, 9, 10, 11, 12, 13, 17, 18, 14, 15, 16] rfl rfl rfl (by decide) rfl rfl (fun H locs hP hD hS => ?_)
  refine lv_lstore_n (lv' := [(1, .long o4), (0, .ref h)]) hx hb dX5_digest_47 rfl hl (by decide) rfl (fun ls hl => ?_)
  refine lv_lload_n hx hb dX5_digest_48 rfl (lv_at hl 0 rfl) ?_
  refine lv_aload_n hx hb dX5_digest_49 rfl (lv_at hl 1 rfl) ?_
  obtain ⟨o5, ho5, hF⟩ := ob_e hF
  refine x_calli (wr := [(yt, .inr (2, [.ref ytb, .int yTl, .ref ytn, .int yTs, .int yTp])), (ytb, .inl (cyB, 120, .inl yTb)), (ytn, .inl (cyI, 60, .inl yTn))]) (ws' := ((h, .inr (5, [.ref (bA 0), .ref (bB 0), .ref aV, .int xN, .ref yt])) :: (wB cyI cyJ bA AZ ++ [(yt, .inr (2, [.ref ytb, .int yTl, .ref ytn, .int yTs, .int yTp])), (ytb, .inl (cyB, 120, .inl yTb)), (ytn, .inl (cyI, 60, .inl yTn))]))) (va_runV (As := []) (rest := [.long o4]) ⟨hx, hb, hml, hown, hts⟩ (c_X5_inWindow l dC dI cyI cyJ cyB cyS cyD h bA bB aV yt H.size xN AZ ho5) (cwV 0 hts gX5_digest_X5_inWindow rfl rfl rfl (by decide +kernel) ⟨Nat.le_of_ble_eq_true rfl, Nat.le_of_ble_eq_true rfl⟩) ⟨cPre_blind, va_recv hK hP (ci := 5) (q0 := 0) rfl rfl, x_pre hN hP hD hK [0, 1, 2, 3, 4, 5, 6, 7, 8, 9, 10, 11, 12, 13, 14, 15] rfl rfl⟩ rfl rfl hl.1 rfl (lv_room (Nat.le_of_ble_eq_true rfl)) dX5_digest_50 ⟨Nat.le_of_ble_eq_true rfl, Nat.le_of_ble_eq_true rfl⟩) hP hD hS hA [0, 1, 2, 3, 4, 5, 6, 7, 8, 9, 10, 11, 12, 13, 14, 15] [16, 17, 18] [3, 4, 5, 6, 7, 8, 9, 10, 11, 12, 13, 14, 15, 16, 17, 18, 0, 1, 2] rfl rfl rfl (by decide) rfl rfl (fun H locs hP hD hS => ?_)
  refine lv_i2l (v := o5.toInt64) hx hb dX5_digest_53 rfl ?_
  obtain ⟨o6, ho6, hF⟩ := ob_e hF
  refine x_callzl (va_runS (As := [.long o4, .long o5.toInt64]) (rest := []) ⟨hx, hb, hml, hown, hts⟩ (c_X5_mixed l o4 o5.toInt64 ho6) (va_cwS 2 hts gX5_digest_X5_mixed rfl rfl rfl (by decide +kernel) ⟨Nat.le_of_ble_eq_true rfl, Nat.le_of_ble_eq_true rfl⟩) ⟨true_blind, fun _ _ _ => ⟨rfl, trivial⟩⟩ rfl rfl hl.1 rfl (lv_room (Nat.le_of_ble_eq_true rfl)) dX5_digest_54 ⟨Nat.le_of_ble_eq_true rfl, Nat.le_of_ble_eq_true rfl⟩) ?_
  refine lv_lstore_n (lv' := [(1, .long o6), (0, .ref h)]) hx hb dX5_digest_57 rfl hl (by decide) rfl (fun ls hl => ?_)
  refine lv_lload_n hx hb dX5_digest_58 rfl (lv_at hl 0 rfl) ?_
  refine lv_aload_n hx hb dX5_digest_59 rfl (lv_at hl 1 rfl) ?_
  obtain ⟨o7, ho7, hF⟩ := ob_e hF
  refine x_calll (wr := [(yt, .inr (2, [.ref ytb, .int yTl, .ref ytn, .int yTs, .int yTp])), (ytb, .inl (cyB, 120, .inl yTb)), (ytn, .inl (cyI, 60, .inl yTn))]) (ws' := ((h, .inr (5, [.ref (bA 0), .ref (bB 0), .ref aV, .int xN, .ref yt])) :: (wB cyI cyJ bA AZ ++ [(yt, .inr (2, [.ref ytb, .int yTl, .ref ytn, .int yTs, .int yTp])), (ytb, .inl (cyB, 120, .inl yTb)), (ytn, .inl (cyI, 60, .inl yTn))]))) (va_runV (As := []) (rest := [.long o6]) ⟨hx, hb, hml, hown, hts⟩ (c_X5_determinant l dC dI cyI cyJ cyB cyS cyD h bA bB aV yt H.size xN AZ ho7) (cwV 0 hts gX5_digest_X5_determinant rfl rfl rfl (by decide +kernel) ⟨Nat.le_of_ble_eq_true rfl, Nat.le_of_ble_eq_true rfl⟩) ⟨cPre_blind, va_recv hK hP (ci := 5) (q0 := 0) rfl rfl, x_pre hN hP hD hK [0, 1, 2, 3, 4, 5, 6, 7, 8, 9, 10, 11, 12, 13, 14, 15] rfl rfl⟩ rfl rfl hl.1 rfl (lv_room (Nat.le_of_ble_eq_true rfl)) dX5_digest_60 ⟨Nat.le_of_ble_eq_true rfl, Nat.le_of_ble_eq_true rfl⟩) hP hD hS hA [0, 1, 2, 3, 4, 5, 6, 7, 8, 9, 10, 11, 12, 13, 14, 15] [16, 17, 18] [3, 4, 5, 6, 7, 8, 9, 10, 11, 12, 13, 14, 15, 16, 17, 18, 0, 1, 2] rfl rfl rfl (by decide) rfl rfl (fun H locs hP hD hS => ?_)
  obtain ⟨o8, ho8, hF⟩ := ob_e hF
  refine x_callzl (va_runS (As := [.long o6, .long o7]) (rest := []) ⟨hx, hb, hml, hown, hts⟩ (c_X5_mixed l o6 o7 ho8) (va_cwS 2 hts gX5_digest_X5_mixed rfl rfl rfl (by decide +kernel) ⟨Nat.le_of_ble_eq_true rfl, Nat.le_of_ble_eq_true rfl⟩) ⟨true_blind, fun _ _ _ => ⟨rfl, trivial⟩⟩ rfl rfl hl.1 rfl (lv_room (Nat.le_of_ble_eq_true rfl)) dX5_digest_63 ⟨Nat.le_of_ble_eq_true rfl, Nat.le_of_ble_eq_true rfl⟩) ?_
  refine lv_lstore_n (lv' := [(1, .long o8), (0, .ref h)]) hx hb dX5_digest_66 rfl hl (by decide) rfl (fun ls hl => ?_)
  refine lv_lload_n hx hb dX5_digest_67 rfl (lv_at hl 0 rfl) ?_
  refine lv_aload_n hx hb dX5_digest_68 rfl (lv_at hl 1 rfl) ?_
  refine va_get (D := (dC, dI)) (ci := 5) (v := .int xN) (C := RX5) (T := TX5) (N := 5) hx hb hts iX5_digest_X5 hown hK hP 0 rfl rfl 3 (by decide) (hts _ kX5_digest_4) (fun _ h9 => h9) rfl dX5_digest_69 ?_
  refine lv_i2l (v := xN.toInt64) hx hb dX5_digest_72 rfl ?_
  obtain ⟨o9, ho9, hF⟩ := ob_e hF
  refine x_callzl (va_runS (As := [.long o8, .long xN.toInt64]) (rest := []) ⟨hx, hb, hml, hown, hts⟩ (c_X5_mixed l o8 xN.toInt64 ho9) (va_cwS 2 hts gX5_digest_X5_mixed rfl rfl rfl (by decide +kernel) ⟨Nat.le_of_ble_eq_true rfl, Nat.le_of_ble_eq_true rfl⟩) ⟨true_blind, fun _ _ _ => ⟨rfl, trivial⟩⟩ rfl rfl hl.1 rfl (lv_room (Nat.le_of_ble_eq_true rfl)) dX5_digest_73 ⟨Nat.le_of_ble_eq_true rfl, Nat.le_of_ble_eq_true rfl⟩) ?_
  obtain rfl := some_e hF
  exact W.lret (v := o9) hx hb hr (fun t ht hW => ⟨⟨o9, (), rfl, rfl, ⟨by rw [ht]; exact hP, va_K.moved hW.alike hK, hD⟩⟩, hS.F ht⟩) hS.2.2 dX5_digest_76
