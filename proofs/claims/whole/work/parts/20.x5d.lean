def F_X5_undo (xN : Int32) (AZ : ST) (C0Z : ST) (C1Z : ST) (C2Z : ST) (C3Z : ST) : Option ((Int32 × Int32 × ST) ⊕ String) := if (0 : Int32) < xN then (lt_ (α := Int32) (xN - 1) (fun v2 => ck (inb v2 4) (if (v2 : Int32) = 0 then (ob (F_X3_copyFrom AZ C0Z) (fun o4 => some (.inl (v2, v2, o4)))) else if (v2 : Int32) = 1 then (ob (F_X3_copyFrom AZ C1Z) (fun o5 => some (.inl (v2, v2, o5)))) else if (v2 : Int32) = 2 then (ob (F_X3_copyFrom AZ C2Z) (fun o6 => some (.inl (v2, v2, o6)))) else (ob (F_X3_copyFrom AZ C3Z) (fun o7 => some (.inl (v2, v2, o7))))))) else (some (.inr xISE))
theorem kX5_undo_1 : (Cond.classLink RX5 175 "java/lang/IllegalStateException") ∈ wsX5_undo := List.mem_of_getElem? (i := 1) rfl
theorem kX5_undo_2 : (Cond.initialized "java/lang/IllegalStateException") ∈ wsX5_undo := List.mem_of_getElem? (i := 2) rfl
theorem kX5_undo_3 : (Cond.fieldLink RX5 23 "SelfTuner" "savedStates" "I") ∈ wsX5_undo := List.mem_of_getElem? (i := 3) rfl
theorem kX5_undo_4 : (Cond.fieldLink RX5 12 "SelfTuner" "state" "LSelfTuner$State;") ∈ wsX5_undo := List.mem_of_getElem? (i := 4) rfl
theorem kX5_undo_5 : (Cond.fieldLink RX5 19 "SelfTuner" "saved" "[LSelfTuner$State;") ∈ wsX5_undo := List.mem_of_getElem? (i := 5) rfl
theorem kX5_undo_6 : (Cond.instanceMethod yX3_copyFrom) ∈ wsX5_undo := List.mem_of_getElem? (i := 6) rfl
theorem kX5_undo_7 : (Cond.initialized RX3) ∈ wsX5_undo := List.mem_of_getElem? (i := 7) rfl
theorem kX5_undo_8 : (Cond.selects RX3 yX3_copyFrom yX3_copyFrom) ∈ wsX5_undo := List.mem_of_getElem? (i := 8) rfl
theorem iX5_undo_X5 : ∀ w ∈ wsX50, w ∈ wsX5_undo := fun w h => List.mem_cons_of_mem _ (List.mem_append_left _ (List.mem_append_left _ (List.mem_append_left _ (List.mem_append_left _ (List.mem_append_left _ (List.mem_append_right _ h))))))
set_option maxHeartbeats 4000000 in
set_option maxRecDepth 100000 in
theorem c_X5_undo (l : Launch) (hfl : l.stackTraces = false) (dC : Nat → ClassId) (dI : Nat → Nat → Nat) (cyI cyJ cyB cyS cyD : ClassId) (h : Nat) (bA : Nat → Nat) (bB : Nat → Nat) (aV : Nat) (yt : Nat) (bV : Nat → Nat → Nat) (sz : Nat) (xN : Int32) (AZ : ST) (C0Z : ST) (C1Z : ST) (C2Z : ST) (C3Z : ST) {out : (Int32 × Int32 × ST) ⊕ String} (hF : F_X5_undo xN AZ C0Z C1Z C2Z C3Z = some out) : Xi (T := Nat → Nat → Nat) l yX5_undo wsX5_undo ({ frames := 6, cells := 1, slots := 6, locals := 143 } : Room) (dC, dI) [(cyI, .int), (cyJ, .long), (cyB, .byte), (cyS, .object "SelfTuner$State"), (cyD, .double)] sz [.ref h] ((h, .inr (5, [.ref (bA 0), .ref (bB 0), .ref aV, .int xN, .ref yt])) :: (wB cyI cyJ bA AZ ++ ((aV, .inl (cyS, 4, .inr (.inr (.inr (.inr (fun i => some (bV i 0))))))) :: (wB cyI cyJ (bV 0) C0Z ++ (wB cyI cyJ (bV 1) C1Z ++ (wB cyI cyJ (bV 2) C2Z ++ (wB cyI cyJ (bV 3) C3Z ++ []))))))) out (fun (v : Int32 × Int32 × ST) => v.1) (fun (v : Int32 × Int32 × ST) (bV : Nat → Nat → Nat) => ((h, .inr (5, [.ref (bA 0), .ref (bB 0), .ref aV, .int v.2.1, .ref yt])) :: (wB cyI cyJ bA v.2.2 ++ ((aV, .inl (cyS, 4, .inr (.inr (.inr (.inr (fun i => some (bV i 0))))))) :: (wB cyI cyJ (bV 0) C0Z ++ (wB cyI cyJ (bV 1) C1Z ++ (wB cyI cyJ (bV 2) C2Z ++ (wB cyI cyJ (bV 3) C3Z ++ [])))))))) 1 6 := by
  refine vx_ofW (cc := cX5_undo) (maxL := 1) (ret := (some .int)) (by decide) rfl ?_
  intro p e s m args below meth c s₁ B hml htab hv
  obtain ⟨rfl, ⟨hN, hsz, hP, hK, hD0⟩, hZ, hT⟩ := hv
  have hx := B.exec
  have hb := B.bytes
  have hr := B.returns
  have hts := atoms_spec (ws := wsX5_undo) B.pre
  have hown : s.vm.findClass RX5 = some m.cls := findClass_of_methodNamed B.named
  have hlocks := B.notSynchronized
  subst hsz
  have hD := hD0.self (sz := s.heap.size)
  generalize hAe : va_A ((h, .inr (5, [.ref (bA 0), .ref (bB 0), .ref aV, .int xN, .ref yt])) :: (wB cyI cyJ bA AZ ++ ((aV, .inl (cyS, 4, .inr (.inr (.inr (.inr (fun i => some (bV i 0))))))) :: (wB cyI cyJ (bV 0) C0Z ++ (wB cyI cyJ (bV 1) C1Z ++ (wB cyI cyJ (bV 2) C2Z ++ (wB cyI cyJ (bV 3) C3Z ++ []))))))) s.heap.size = A at hD hZ ⊢
  have hA : ∀ q : Nat, s.heap.size ≤ q → A q := fun q h => by rw [← hAe]; exact Or.inr h
  have hS : va_S A s.heap s.heap [] := va_S.rf
  have hP : va_P (dC, dI) vwCl ((h, .inr (5, [.ref (bA 0), .ref (bB 0), .ref aV, .int xN, .ref yt])) :: (wB cyI cyJ bA AZ ++ ((aV, .inl (cyS, 4, .inr (.inr (.inr (.inr (fun i => some (bV i 0))))))) :: (wB cyI cyJ (bV 0) C0Z ++ (wB cyI cyJ (bV 1) C1Z ++ (wB cyI cyJ (bV 2) C2Z ++ (wB cyI cyJ (bV 3) C3Z ++ []))))))) s.heap := hP
  have hl := lv_entry ([.ref h]) (n := 1) (Nat.le_of_ble_eq_true rfl)
  rw [lg_entry_eq]
  generalize (lg_sl ([.ref h]) ++ List.replicate (1 - (lg_sl ([.ref h])).length) Slot.unset).toArray = ls at hl ⊢
  have hl : lv_has ls 1 [(0, .ref h)] := hl
  unfold F_X5_undo at hF
  refine lv_aload_n hx hb dX5_undo_0 rfl (lv_at hl 0 rfl) ?_
  refine va_get (D := (dC, dI)) (ci := 5) (v := .int xN) (C := RX5) (T := TX5) (N := 5) hx hb hts iX5_undo_X5 hown hK hP 0 rfl rfl 3 (by decide) (hts _ kX5_undo_3) (fun _ h9 => h9) rfl dX5_undo_1 ?_
  refine lv_if_gt (tgt := 17) hx hb dX5_undo_4 (by decide) (fun c1 => ?_) (fun c1 => ?_)
  · have hF := ite_t hF c1
    refine lv_aload_n hx hb dX5_undo_17 rfl (lv_at hl 0 rfl) ?_
    refine lv_dup hx hb dX5_undo_18 rfl ?_
    refine va_get (D := (dC, dI)) (ci := 5) (v := .int xN) (C := RX5) (T := TX5) (N := 5) hx hb hts iX5_undo_X5 hown hK hP 0 rfl rfl 3 (by decide) (hts _ kX5_undo_3) (fun _ h9 => h9) rfl dX5_undo_19 ?_
    refine lv_iconst (v := 1) hx hb dX5_undo_22 (by decide) ?_
    refine lv_isub hx hb dX5_undo_23 ?_
    obtain ⟨v2, hv2, hF⟩ := lt_e hF
    refine x_topi hv2 ?_
    refine x_put (D := (dC, dI)) (ci := 5) (v := .int v2) (ty := .int) (C := RX5) (T := TX5) (N := 5) (ws' := ((h, .inr (5, [.ref (bA 0), .ref (bB 0), .ref aV, .int v2, .ref yt])) :: (wB cyI cyJ bA AZ ++ ((aV, .inl (cyS, 4, .inr (.inr (.inr (.inr (fun i => some (bV i 0))))))) :: (wB cyI cyJ (bV 0) C0Z ++ (wB cyI cyJ (bV 1) C1Z ++ (wB cyI cyJ (bV 2) C2Z ++ (wB cyI cyJ (bV 3) C3Z ++ [])))))))) hx hb hts iX5_undo_X5 tyX5 tyX5_ok nmX5 hown hK hP hD hS 0 rfl rfl 3 (by decide) (hts _ kX5_undo_3) (fun _ h9 => h9) rfl (by decide +kernel) rfl rfl (Nat.le_of_ble_eq_true rfl) rfl dX5_undo_24 (fun H locs hP hD hS => ?_)
    refine lv_aload_n hx hb dX5_undo_27 rfl (lv_at hl 0 rfl) ?_
    refine va_get (D := (dC, dI)) (ci := 5) (v := .ref (bA 0)) (C := RX5) (T := TX5) (N := 5) hx hb hts iX5_undo_X5 hown hK hP 0 rfl rfl 0 (by decide) (hts _ kX5_undo_4) (fun _ h9 => h9) rfl dX5_undo_28 ?_
    refine lv_aload_n hx hb dX5_undo_31 rfl (lv_at hl 0 rfl) ?_
    refine va_get (D := (dC, dI)) (ci := 5) (v := .ref aV) (C := RX5) (T := TX5) (N := 5) hx hb hts iX5_undo_X5 hown hK hP 0 rfl rfl 2 (by decide) (hts _ kX5_undo_5) (fun _ h9 => h9) rfl dX5_undo_32 ?_
    refine lv_aload_n hx hb dX5_undo_35 rfl (lv_at hl 0 rfl) ?_
    refine va_get (D := (dC, dI)) (ci := 5) (v := .int v2) (C := RX5) (T := TX5) (N := 5) hx hb hts iX5_undo_X5 hown hK hP 0 rfl rfl 3 (by decide) (hts _ kX5_undo_3) (fun _ h9 => h9) rfl dX5_undo_36 ?_
    obtain ⟨g3, hF⟩ := ck_e hF
    by_cases c8 : (v2 : Int32) = 0
    · have hF := ite_t hF c8
      refine x_aldq (k := 0) (v := (bV 0 0)) hx hb hK hP 16 3 rfl rfl (by rw [c8]; decide) g3 rfl dX5_undo_39 ?_
      obtain ⟨o4, ho4, hF⟩ := ob_e hF
      refine x_callv (wr := ((h, .inr (5, [.ref (bA 0), .ref (bB 0), .ref aV, .int v2, .ref yt])) :: (aV, .inl (cyS, 4, .inr (.inr (.inr (.inr (fun i => some (bV i 0))))))) :: (wB cyI cyJ (bV 1) C1Z ++ (wB cyI cyJ (bV 2) C2Z ++ (wB cyI cyJ (bV 3) C3Z ++ []))))) (ws' := ((h, .inr (5, [.ref (bA 0), .ref (bB 0), .ref aV, .int v2, .ref yt])) :: (wB cyI cyJ bA o4 ++ ((aV, .inl (cyS, 4, .inr (.inr (.inr (.inr (fun i => some (bV i 0))))))) :: (wB cyI cyJ (bV 0) C0Z ++ (wB cyI cyJ (bV 1) C1Z ++ (wB cyI cyJ (bV 2) C2Z ++ (wB cyI cyJ (bV 3) C3Z ++ [])))))))) (va_runVN (As := [.ref (bV 0 0)]) (rest := []) ⟨hx, hb, hml, hown, hts⟩ (c_X3_copyFrom l dC dI cyI cyJ cyB cyS cyD (bA 0) (bA 1) (bA 2) (bA 13) (bA 3) (bA 4) (bA 5) (bA 6) (bA 7) (bA 10) (bA 8) (bA 9) (bA 11) (bA 12) (bA 14) (bV 0 0) (bV 0 1) (bV 0 2) (bV 0 13) (bV 0 3) (bV 0 4) (bV 0 5) (bV 0 6) (bV 0 7) (bV 0 10) (bV 0 8) (bV 0 9) (bV 0 11) (bV 0 12) (bV 0 14) H.size AZ C0Z ho4) ⟨va_cnB 1 hts gX5_undo_X3_copyFrom_n159 rfl rfl rfl (nm_X5_159 hN) (hts _ kX5_undo_7) (by decide +kernel) ⟨Nat.le_of_ble_eq_true rfl, Nat.le_of_ble_eq_true rfl⟩, hts _ kX5_undo_6, hts _ kX5_undo_8⟩ ⟨cPre_blind, va_recv hK hP (ci := 3) (q0 := 1) rfl rfl, x_pre hN hP hD hK [1, 2, 3, 4, 5, 6, 7, 8, 9, 10, 11, 12, 13, 14, 15, 17, 18, 19, 20, 21, 22, 23, 24, 25, 26, 27, 28, 29, 30, 31] rfl rfl⟩ rfl rfl hl.1 rfl (lv_room (Nat.le_of_ble_eq_true rfl)) dX5_undo_40 ⟨Nat.le_of_ble_eq_true rfl, Nat.le_of_ble_eq_true rfl⟩) hP hD hS hA [1, 2, 3, 4, 5, 6, 7, 8, 9, 10, 11, 12, 13, 14, 15, 17, 18, 19, 20, 21, 22, 23, 24, 25, 26, 27, 28, 29, 30, 31] [0, 16, 32, 33, 34, 35, 36, 37, 38, 39, 40, 41, 42, 43, 44, 45, 46, 47, 48, 49, 50, 51, 52, 53, 54, 55, 56, 57, 58, 59, 60, 61, 62, 63, 64, 65, 66, 67, 68, 69, 70, 71, 72, 73, 74, 75, 76] [0, 47, 48, 49, 50, 51, 52, 53, 54, 55, 56, 57, 58, 59, 60, 61, 1, 62, 63, 64, 65, 66, 67, 68, 69, 70, 71, 72, 73, 74, 75, 76, 2, 3, 4, 5, 6, 7, 8, 9, 10, 11, 12, 13, 14, 15, 16, 17, 18, 19, 20, 21, 22, 23, 24, 25, 26, 27, 28, 29, 30, 31, 32, 33, 34, 35, 36, 37, 38, 39, 40, 41, 42, 43, 44, 45, 46] rfl rfl rfl (by decide) rfl rfl (fun H locs hP hD hS => ?_)
      refine lv_aload_n hx hb dX5_undo_43 rfl (lv_at hl 0 rfl) ?_
      refine va_get (D := (dC, dI)) (ci := 5) (v := .int v2) (C := RX5) (T := TX5) (N := 5) hx hb hts iX5_undo_X5 hown hK hP 0 rfl rfl 3 (by decide) (hts _ kX5_undo_3) (fun _ h9 => h9) rfl dX5_undo_44 ?_
      obtain rfl := some_e hF
      refine W.widen (k := 1) (n := 6) (Nat.le_of_ble_eq_true rfl) (Nat.le_of_ble_eq_true rfl) ?_
      exact vx_ret (W.iret (v := v2) hx hb hr (fun t ht hW => ⟨⟨v2, ((v2, v2, o4), bV), rfl, ⟨rfl, rfl⟩, ⟨by rw [ht]; exact hP, va_K.moved hW.alike hK, hD⟩⟩, hS.F ht⟩) hS.2.2 dX5_undo_47)
    have hF := ite_f hF c8
    have nc8_0 := c8
    by_cases c8 : (v2 : Int32) = 1
    · have hF := ite_t hF c8
      refine x_aldq (k := 1) (v := (bV 1 0)) hx hb hK hP 16 3 rfl rfl (by rw [c8]; decide) g3 rfl dX5_undo_39 ?_
      obtain ⟨o5, ho5, hF⟩ := ob_e hF
      refine x_callv (wr := ((h, .inr (5, [.ref (bA 0), .ref (bB 0), .ref aV, .int v2, .ref yt])) :: (aV, .inl (cyS, 4, .inr (.inr (.inr (.inr (fun i => some (bV i 0))))))) :: (wB cyI cyJ (bV 0) C0Z ++ (wB cyI cyJ (bV 2) C2Z ++ (wB cyI cyJ (bV 3) C3Z ++ []))))) (ws' := ((h, .inr (5, [.ref (bA 0), .ref (bB 0), .ref aV, .int v2, .ref yt])) :: (wB cyI cyJ bA o5 ++ ((aV, .inl (cyS, 4, .inr (.inr (.inr (.inr (fun i => some (bV i 0))))))) :: (wB cyI cyJ (bV 0) C0Z ++ (wB cyI cyJ (bV 1) C1Z ++ (wB cyI cyJ (bV 2) C2Z ++ (wB cyI cyJ (bV 3) C3Z ++ [])))))))) (va_runVN (As := [.ref (bV 1 0)]) (rest := []) ⟨hx, hb, hml, hown, hts⟩ (c_X3_copyFrom l dC dI cyI cyJ cyB cyS cyD (bA 0) (bA 1) (bA 2) (bA 13) (bA 3) (bA 4) (bA 5) (bA 6) (bA 7) (bA 10) (bA 8) (bA 9) (bA 11) (bA 12) (bA 14) (bV 1 0) (bV 1 1) (bV 1 2) (bV 1 13) (bV 1 3) (bV 1 4) (bV 1 5) (bV 1 6) (bV 1 7) (bV 1 10) (bV 1 8) (bV 1 9) (bV 1 11) (bV 1 12) (bV 1 14) H.size AZ C1Z ho5) ⟨va_cnB 1 hts gX5_undo_X3_copyFrom_n159 rfl rfl rfl (nm_X5_159 hN) (hts _ kX5_undo_7) (by decide +kernel) ⟨Nat.le_of_ble_eq_true rfl, Nat.le_of_ble_eq_true rfl⟩, hts _ kX5_undo_6, hts _ kX5_undo_8⟩ ⟨cPre_blind, va_recv hK hP (ci := 3) (q0 := 1) rfl rfl, x_pre hN hP hD hK [1, 2, 3, 4, 5, 6, 7, 8, 9, 10, 11, 12, 13, 14, 15, 32, 33, 34, 35, 36, 37, 38, 39, 40, 41, 42, 43, 44, 45, 46] rfl rfl⟩ rfl rfl hl.1 rfl (lv_room (Nat.le_of_ble_eq_true rfl)) dX5_undo_40 ⟨Nat.le_of_ble_eq_true rfl, Nat.le_of_ble_eq_true rfl⟩) hP hD hS hA [1, 2, 3, 4, 5, 6, 7, 8, 9, 10, 11, 12, 13, 14, 15, 32, 33, 34, 35, 36, 37, 38, 39, 40, 41, 42, 43, 44, 45, 46] [0, 16, 17, 18, 19, 20, 21, 22, 23, 24, 25, 26, 27, 28, 29, 30, 31, 47, 48, 49, 50, 51, 52, 53, 54, 55, 56, 57, 58, 59, 60, 61, 62, 63, 64, 65, 66, 67, 68, 69, 70, 71, 72, 73, 74, 75, 76] [0, 47, 48, 49, 50, 51, 52, 53, 54, 55, 56, 57, 58, 59, 60, 61, 1, 2, 3, 4, 5, 6, 7, 8, 9, 10, 11, 12, 13, 14, 15, 16, 62, 63, 64, 65, 66, 67, 68, 69, 70, 71, 72, 73, 74, 75, 76, 17, 18, 19, 20, 21, 22, 23, 24, 25, 26, 27, 28, 29, 30, 31, 32, 33, 34, 35, 36, 37, 38, 39, 40, 41, 42, 43, 44, 45, 46] rfl rfl rfl (by decide) rfl rfl (fun H locs hP hD hS => ?_)
      refine lv_aload_n hx hb dX5_undo_43 rfl (lv_at hl 0 rfl) ?_
      refine va_get (D := (dC, dI)) (ci := 5) (v := .int v2) (C := RX5) (T := TX5) (N := 5) hx hb hts iX5_undo_X5 hown hK hP 0 rfl rfl 3 (by decide) (hts _ kX5_undo_3) (fun _ h9 => h9) rfl dX5_undo_44 ?_
      obtain rfl := some_e hF
      refine W.widen (k := 1) (n := 6) (Nat.le_of_ble_eq_true rfl) (Nat.le_of_ble_eq_true rfl) ?_
      exact vx_ret (W.iret (v := v2) hx hb hr (fun t ht hW => ⟨⟨v2, ((v2, v2, o5), bV), rfl, ⟨rfl, rfl⟩, ⟨by rw [ht]; exact hP, va_K.moved hW.alike hK, hD⟩⟩, hS.F ht⟩) hS.2.2 dX5_undo_47)
    have hF := ite_f hF c8
    have nc8_1 := c8
    by_cases c8 : (v2 : Int32) = 2
    · have hF := ite_t hF c8
      refine x_aldq (k := 2) (v := (bV 2 0)) hx hb hK hP 16 3 rfl rfl (by rw [c8]; decide) g3 rfl dX5_undo_39 ?_
      obtain ⟨o6, ho6, hF⟩ := ob_e hF
      refine x_callv (wr := ((h, .inr (5, [.ref (bA 0), .ref (bB 0), .ref aV, .int v2, .ref yt])) :: (aV, .inl (cyS, 4, .inr (.inr (.inr (.inr (fun i => some (bV i 0))))))) :: (wB cyI cyJ (bV 0) C0Z ++ (wB cyI cyJ (bV 1) C1Z ++ (wB cyI cyJ (bV 3) C3Z ++ []))))) (ws' := ((h, .inr (5, [.ref (bA 0), .ref (bB 0), .ref aV, .int v2, .ref yt])) :: (wB cyI cyJ bA o6 ++ ((aV, .inl (cyS, 4, .inr (.inr (.inr (.inr (fun i => some (bV i 0))))))) :: (wB cyI cyJ (bV 0) C0Z ++ (wB cyI cyJ (bV 1) C1Z ++ (wB cyI cyJ (bV 2) C2Z ++ (wB cyI cyJ (bV 3) C3Z ++ [])))))))) (va_runVN (As := [.ref (bV 2 0)]) (rest := []) ⟨hx, hb, hml, hown, hts⟩ (c_X3_copyFrom l dC dI cyI cyJ cyB cyS cyD (bA 0) (bA 1) (bA 2) (bA 13) (bA 3) (bA 4) (bA 5) (bA 6) (bA 7) (bA 10) (bA 8) (bA 9) (bA 11) (bA 12) (bA 14) (bV 2 0) (bV 2 1) (bV 2 2) (bV 2 13) (bV 2 3) (bV 2 4) (bV 2 5) (bV 2 6) (bV 2 7) (bV 2 10) (bV 2 8) (bV 2 9) (bV 2 11) (bV 2 12) (bV 2 14) H.size AZ C2Z ho6) ⟨va_cnB 1 hts gX5_undo_X3_copyFrom_n159 rfl rfl rfl (nm_X5_159 hN) (hts _ kX5_undo_7) (by decide +kernel) ⟨Nat.le_of_ble_eq_true rfl, Nat.le_of_ble_eq_true rfl⟩, hts _ kX5_undo_6, hts _ kX5_undo_8⟩ ⟨cPre_blind, va_recv hK hP (ci := 3) (q0 := 1) rfl rfl, x_pre hN hP hD hK [1, 2, 3, 4, 5, 6, 7, 8, 9, 10, 11, 12, 13, 14, 15, 47, 48, 49, 50, 51, 52, 53, 54, 55, 56, 57, 58, 59, 60, 61] rfl rfl⟩ rfl rfl hl.1 rfl (lv_room (Nat.le_of_ble_eq_true rfl)) dX5_undo_40 ⟨Nat.le_of_ble_eq_true rfl, Nat.le_of_ble_eq_true rfl⟩) hP hD hS hA [1, 2, 3, 4, 5, 6, 7, 8, 9, 10, 11, 12, 13, 14, 15, 47, 48, 49, 50, 51, 52, 53, 54, 55, 56, 57, 58, 59, 60, 61] [0, 16, 17, 18, 19, 20, 21, 22, 23, 24, 25, 26, 27, 28, 29, 30, 31, 32, 33, 34, 35, 36, 37, 38, 39, 40, 41, 42, 43, 44, 45, 46, 62, 63, 64, 65, 66, 67, 68, 69, 70, 71, 72, 73, 74, 75, 76] [0, 47, 48, 49, 50, 51, 52, 53, 54, 55, 56, 57, 58, 59, 60, 61, 1, 2, 3, 4, 5, 6, 7, 8, 9, 10, 11, 12, 13, 14, 15, 16, 17, 18, 19, 20, 21, 22, 23, 24, 25, 26, 27, 28, 29, 30, 31, 62, 63, 64, 65, 66, 67, 68, 69, 70, 71, 72, 73, 74, 75, 76, 32, 33, 34, 35, 36, 37, 38, 39, 40, 41, 42, 43, 44, 45, 46] rfl rfl rfl (by decide) rfl rfl (fun H locs hP hD hS => ?_)
      refine lv_aload_n hx hb dX5_undo_43 rfl (lv_at hl 0 rfl) ?_
      refine va_get (D := (dC, dI)) (ci := 5) (v := .int v2) (C := RX5) (T := TX5) (N := 5) hx hb hts iX5_undo_X5 hown hK hP 0 rfl rfl 3 (by decide) (hts _ kX5_undo_3) (fun _ h9 => h9) rfl dX5_undo_44 ?_
      obtain rfl := some_e hF
      refine W.widen (k := 1) (n := 6) (Nat.le_of_ble_eq_true rfl) (Nat.le_of_ble_eq_true rfl) ?_
      exact vx_ret (W.iret (v := v2) hx hb hr (fun t ht hW => ⟨⟨v2, ((v2, v2, o6), bV), rfl, ⟨rfl, rfl⟩, ⟨by rw [ht]; exact hP, va_K.moved hW.alike hK, hD⟩⟩, hS.F ht⟩) hS.2.2 dX5_undo_47)
    have hF := ite_f hF c8
    have nc8_2 := c8
    have c8 := inb4 g3 nc8_0 nc8_1 nc8_2
    refine x_aldq (k := 3) (v := (bV 3 0)) hx hb hK hP 16 3 rfl rfl (by rw [c8]; decide) g3 rfl dX5_undo_39 ?_
    obtain ⟨o7, ho7, hF⟩ := ob_e hF
    refine x_callv (wr := ((h, .inr (5, [.ref (bA 0), .ref (bB 0), .ref aV, .int v2, .ref yt])) :: (aV, .inl (cyS, 4, .inr (.inr (.inr (.inr (fun i => some (bV i 0))))))) :: (wB cyI cyJ (bV 0) C0Z ++ (wB cyI cyJ (bV 1) C1Z ++ (wB cyI cyJ (bV 2) C2Z ++ []))))) (ws' := ((h, .inr (5, [.ref (bA 0), .ref (bB 0), .ref aV, .int v2, .ref yt])) :: (wB cyI cyJ bA o7 ++ ((aV, .inl (cyS, 4, .inr (.inr (.inr (.inr (fun i => some (bV i 0))))))) :: (wB cyI cyJ (bV 0) C0Z ++ (wB cyI cyJ (bV 1) C1Z ++ (wB cyI cyJ (bV 2) C2Z ++ (wB cyI cyJ (bV 3) C3Z ++ [])))))))) (va_runVN (As := [.ref (bV 3 0)]) (rest := []) ⟨hx, hb, hml, hown, hts⟩ (c_X3_copyFrom l dC dI cyI cyJ cyB cyS cyD (bA 0) (bA 1) (bA 2) (bA 13) (bA 3) (bA 4) (bA 5) (bA 6) (bA 7) (bA 10) (bA 8) (bA 9) (bA 11) (bA 12) (bA 14) (bV 3 0) (bV 3 1) (bV 3 2) (bV 3 13) (bV 3 3) (bV 3 4) (bV 3 5) (bV 3 6) (bV 3 7) (bV 3 10) (bV 3 8) (bV 3 9) (bV 3 11) (bV 3 12) (bV 3 14) H.size AZ C3Z ho7) ⟨va_cnB 1 hts gX5_undo_X3_copyFrom_n159 rfl rfl rfl (nm_X5_159 hN) (hts _ kX5_undo_7) (by decide +kernel) ⟨Nat.le_of_ble_eq_true rfl, Nat.le_of_ble_eq_true rfl⟩, hts _ kX5_undo_6, hts _ kX5_undo_8⟩ ⟨cPre_blind, va_recv hK hP (ci := 3) (q0 := 1) rfl rfl, x_pre hN hP hD hK [1, 2, 3, 4, 5, 6, 7, 8, 9, 10, 11, 12, 13, 14, 15, 62, 63, 64, 65, 66, 67, 68, 69, 70, 71, 72, 73, 74, 75, 76] rfl rfl⟩ rfl rfl hl.1 rfl (lv_room (Nat.le_of_ble_eq_true rfl)) dX5_undo_40 ⟨Nat.le_of_ble_eq_true rfl, Nat.le_of_ble_eq_true rfl⟩) hP hD hS hA [1, 2, 3, 4, 5, 6, 7, 8, 9, 10, 11, 12, 13, 14, 15, 62, 63, 64, 65, 66, 67, 68, 69, 70, 71, 72, 73, 74, 75, 76] [0, 16, 17, 18, 19, 20, 21, 22, 23, 24, 25, 26, 27, 28, 29, 30, 31, 32, 33, 34, 35, 36, 37, 38, 39, 40, 41, 42, 43, 44, 45, 46, 47, 48, 49, 50, 51, 52, 53, 54, 55, 56, 57, 58, 59, 60, 61] [0, 47, 48, 49, 50, 51, 52, 53, 54, 55, 56, 57, 58, 59, 60, 61, 1, 2, 3, 4, 5, 6, 7, 8, 9, 10, 11, 12, 13, 14, 15, 16, 17, 18, 19, 20, 21, 22, 23, 24, 25, 26, 27, 28, 29, 30, 31, 32, 33, 34, 35, 36, 37, 38, 39, 40, 41, 42, 43, 44, 45, 46, 62, 63, 64, 65, 66, 67, 68, 69, 70, 71, 72, 73, 74, 75, 76] rfl rfl rfl (by decide) rfl rfl (fun H locs hP hD hS => ?_)
    refine lv_aload_n hx hb dX5_undo_43 rfl (lv_at hl 0 rfl) ?_
    refine va_get (D := (dC, dI)) (ci := 5) (v := .int v2) (C := RX5) (T := TX5) (N := 5) hx hb hts iX5_undo_X5 hown hK hP 0 rfl rfl 3 (by decide) (hts _ kX5_undo_3) (fun _ h9 => h9) rfl dX5_undo_44 ?_
    obtain rfl := some_e hF
    refine W.widen (k := 1) (n := 6) (Nat.le_of_ble_eq_true rfl) (Nat.le_of_ble_eq_true rfl) ?_
    exact vx_ret (W.iret (v := v2) hx hb hr (fun t ht hW => ⟨⟨v2, ((v2, v2, o7), bV), rfl, ⟨rfl, rfl⟩, ⟨by rw [ht]; exact hP, va_K.moved hW.alike hK, hD⟩⟩, hS.F ht⟩) hS.2.2 dX5_undo_47)
  · have hF := ite_f hF c1
    obtain rfl := some_e hF
    exact x_throw (cls := xISE) (names := ["java/lang/RuntimeException", "java/lang/Exception"]) hx hb hfl hown (by decide +kernel) (by decide +kernel) (hts _ kX5_undo_1) (hts _ kX5_undo_2) (hT.1 _ (List.mem_of_getElem? (i := 3) rfl)) (vx_hat (B := [.castable xISE xISE, .declares (Bundle.initS "java/lang/RuntimeException"), .declares (Bundle.initS "java/lang/Exception"), .declares (Bundle.initS "java/lang/Throwable")]) (fun w h => hts w (List.mem_cons_of_mem _ (List.mem_append_right _ h))) (by decide +kernel) (vx_c (va_Nw.use rfl (hT.2.1 _ (List.mem_of_getElem? (i := 2) rfl))) (vx_c (va_Nw.use rfl (hT.2.2.1 _ (List.mem_of_getElem? (i := 0) rfl))) (vx_c (va_Nw.use rfl (hT.2.2.1 _ (List.mem_of_getElem? (i := 1) rfl))) (vx_c (va_Nw.use rfl (hT.2.2.1 _ (List.mem_of_getElem? (i := 2) rfl))) vx_n))))) (by decide +kernel) hZ hK hP hD hS (hl.1.trans hml.symm) dX5_undo_7 dX5_undo_10 dX5_undo_11 dX5_undo_13 dX5_undo_16 htab (Nat.le_of_ble_eq_true rfl) (Nat.le_of_ble_eq_true rfl) (Nat.le_of_ble_eq_true rfl) (Nat.le_of_ble_eq_true rfl) hlocks rfl (Nat.le_of_ble_eq_true rfl) (Nat.le_of_ble_eq_true rfl)
