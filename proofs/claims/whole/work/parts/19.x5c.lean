def F_X5_dropOldestState (C0Z : ST) (C1Z : ST) (C2Z : ST) (C3Z : ST) : Option ((Int32 × ST × ST × ST × ST) ⊕ String) := some (.inl (3, C1Z, C2Z, C3Z, C0Z))
theorem kX5_dropOldestState_1 : (Cond.fieldLink RX5 19 "SelfTuner" "saved" "[LSelfTuner$State;") ∈ wsX5_dropOldestState := List.mem_of_getElem? (i := 1) rfl
theorem kX5_dropOldestState_2 : (Cond.fieldLink RX5 23 "SelfTuner" "savedStates" "I") ∈ wsX5_dropOldestState := List.mem_of_getElem? (i := 2) rfl
theorem iX5_dropOldestState_X5 : ∀ w ∈ wsX50, w ∈ wsX5_dropOldestState := fun w h => List.mem_cons_of_mem _ (List.mem_append_right _ h)
set_option maxHeartbeats 4000000 in
set_option maxRecDepth 100000 in
theorem c_X5_dropOldestState (l : Launch) (hfl : l.stackTraces = false) (dC : Nat → ClassId) (dI : Nat → Nat → Nat) (cyI cyJ cyB cyS cyD : ClassId) (h : Nat) (bA : Nat → Nat) (bB : Nat → Nat) (aV : Nat) (yt : Nat) (bV : Nat → Nat → Nat) (sz : Nat) (xN : Int32) (C0Z : ST) (C1Z : ST) (C2Z : ST) (C3Z : ST) {out : (Int32 × ST × ST × ST × ST) ⊕ String} (hF : F_X5_dropOldestState C0Z C1Z C2Z C3Z = some out) : Xv (T := Nat → Nat → Nat) l yX5_dropOldestState wsX5_dropOldestState ({ frames := 0, cells := 0, slots := 0, locals := 0 } : Room) (dC, dI) [(cyI, .int), (cyJ, .long), (cyB, .byte), (cyS, .object "SelfTuner$State"), (cyD, .double)] sz [.ref h] ((h, .inr (5, [.ref (bA 0), .ref (bB 0), .ref aV, .int xN, .ref yt])) :: (aV, .inl (cyS, 4, .inr (.inr (.inr (.inr (fun i => some (bV i 0))))))) :: (wB cyI cyJ (bV 0) C0Z ++ (wB cyI cyJ (bV 1) C1Z ++ (wB cyI cyJ (bV 2) C2Z ++ (wB cyI cyJ (bV 3) C3Z ++ []))))) out  (fun (v : Int32 × ST × ST × ST × ST) (bV : Nat → Nat → Nat) => ((h, .inr (5, [.ref (bA 0), .ref (bB 0), .ref aV, .int v.1, .ref yt])) :: (aV, .inl (cyS, 4, .inr (.inr (.inr (.inr (fun i => some (bV i 0))))))) :: (wB cyI cyJ (bV 0) v.2.1 ++ (wB cyI cyJ (bV 1) v.2.2.1 ++ (wB cyI cyJ (bV 2) v.2.2.2.1 ++ (wB cyI cyJ (bV 3) v.2.2.2.2 ++ [])))))) 0 0 := by
  refine vx_ofW (cc := cX5_dropOldestState) (maxL := 3) (ret := none) (by decide) rfl ?_
  intro p e s m args below meth c s₁ B hml htab hv
  obtain ⟨rfl, ⟨hN, hsz, hP, hK, hD0⟩, hZ, hT⟩ := hv
  have hx := B.exec
  have hb := B.bytes
  have hr := B.returns
  have hts := atoms_spec (ws := wsX5_dropOldestState) B.pre
  have hown : s.vm.findClass RX5 = some m.cls := findClass_of_methodNamed B.named
  have hlocks := B.notSynchronized
  subst hsz
  have hD := hD0.self (sz := s.heap.size)
  generalize hAe : va_A ((h, .inr (5, [.ref (bA 0), .ref (bB 0), .ref aV, .int xN, .ref yt])) :: (aV, .inl (cyS, 4, .inr (.inr (.inr (.inr (fun i => some (bV i 0))))))) :: (wB cyI cyJ (bV 0) C0Z ++ (wB cyI cyJ (bV 1) C1Z ++ (wB cyI cyJ (bV 2) C2Z ++ (wB cyI cyJ (bV 3) C3Z ++ []))))) s.heap.size = A at hD hZ ⊢
  have hA : ∀ q : Nat, s.heap.size ≤ q → A q := fun q h => by rw [← hAe]; exact Or.inr h
  have hS : va_S A s.heap s.heap [] := va_S.rf
  have hP : va_P (dC, dI) vwCl ((h, .inr (5, [.ref (bA 0), .ref (bB 0), .ref aV, .int xN, .ref yt])) :: (aV, .inl (cyS, 4, .inr (.inr (.inr (.inr (fun i => some (bV i 0))))))) :: (wB cyI cyJ (bV 0) C0Z ++ (wB cyI cyJ (bV 1) C1Z ++ (wB cyI cyJ (bV 2) C2Z ++ (wB cyI cyJ (bV 3) C3Z ++ []))))) s.heap := hP
  have hl := lv_entry ([.ref h]) (n := 3) (Nat.le_of_ble_eq_true rfl)
  rw [lg_entry_eq]
  generalize (lg_sl ([.ref h]) ++ List.replicate (3 - (lg_sl ([.ref h])).length) Slot.unset).toArray = ls at hl ⊢
  have hl : lv_has ls 3 [(0, .ref h)] := hl
  unfold F_X5_dropOldestState at hF
  refine lv_aload_n hx hb dX5_dropOldestState_0 rfl (lv_at hl 0 rfl) ?_
  refine va_get (D := (dC, dI)) (ci := 5) (v := .ref aV) (C := RX5) (T := TX5) (N := 5) hx hb hts iX5_dropOldestState_X5 hown hK hP 0 rfl rfl 2 (by decide) (hts _ kX5_dropOldestState_1) (fun _ h9 => h9) rfl dX5_dropOldestState_1 ?_
  refine lv_iconst (v := 0) hx hb dX5_dropOldestState_4 (by decide) ?_
  refine x_aldq (k := 0) (v := (bV 0 0)) hx hb hK hP 1 3 rfl rfl (by decide) (inbK (k := 0) (by decide) rfl) rfl dX5_dropOldestState_5 ?_
  refine lv_astore_n (lv' := [(1, .ref (bV 0 0)), (0, .ref h)]) hx hb dX5_dropOldestState_6 rfl hl (by decide) rfl (fun ls hl => ?_)
  refine lv_iconst (v := 1) hx hb dX5_dropOldestState_7 (by decide) ?_
  refine lv_istore_n (lv' := [(2, .int 1), (1, .ref (bV 0 0)), (0, .ref h)]) hx hb dX5_dropOldestState_8 rfl hl (by decide) rfl (fun ls hl => ?_)
  refine lv_iload_n hx hb dX5_dropOldestState_9 rfl (lv_at hl 0 rfl) ?_
  refine lv_iconst (v := 4) hx hb dX5_dropOldestState_10 (by decide) ?_
  refine lv_icmp_ge (tgt := 34) hx hb dX5_dropOldestState_11 (by decide) (fun h9 => absurd h9 (by decide)) (fun _ => ?_)
  refine lv_aload_n hx hb dX5_dropOldestState_14 rfl (lv_at hl 2 rfl) ?_
  refine va_get (D := (dC, dI)) (ci := 5) (v := .ref aV) (C := RX5) (T := TX5) (N := 5) hx hb hts iX5_dropOldestState_X5 hown hK hP 0 rfl rfl 2 (by decide) (hts _ kX5_dropOldestState_1) (fun _ h9 => h9) rfl dX5_dropOldestState_15 ?_
  refine lv_iload_n hx hb dX5_dropOldestState_18 rfl (lv_at hl 0 rfl) ?_
  refine lv_iconst (v := 1) hx hb dX5_dropOldestState_19 (by decide) ?_
  refine lv_isub hx hb dX5_dropOldestState_20 ?_
  refine x_topi (v := 0) (by decide) ?_
  refine lv_aload_n hx hb dX5_dropOldestState_21 rfl (lv_at hl 2 rfl) ?_
  refine va_get (D := (dC, dI)) (ci := 5) (v := .ref aV) (C := RX5) (T := TX5) (N := 5) hx hb hts iX5_dropOldestState_X5 hown hK hP 0 rfl rfl 2 (by decide) (hts _ kX5_dropOldestState_1) (fun _ h9 => h9) rfl dX5_dropOldestState_22 ?_
  refine lv_iload_n hx hb dX5_dropOldestState_25 rfl (lv_at hl 0 rfl) ?_
  refine x_aldq (k := 1) (v := (bV 1 0)) hx hb hK hP 1 3 rfl rfl (by decide) (inbK (k := 1) (by decide) rfl) rfl dX5_dropOldestState_26 ?_
  refine x_astq (ws' := ((h, .inr (5, [.ref (bA 0), .ref (bB 0), .ref aV, .int xN, .ref yt])) :: (aV, .inl (cyS, 4, .inr (.inr (.inr (.inr (fun i => some ((va_up bV 0 (bV 1)) i 0))))))) :: (wB cyI cyJ (bV 0) C0Z ++ (wB cyI cyJ (bV 1) C1Z ++ (wB cyI cyJ (bV 2) C2Z ++ (wB cyI cyJ (bV 3) C3Z ++ [])))))) (k := 0) hx hb hK hP hD hS 1 3 17 3 rfl rfl rfl rfl (by decide) (inbK (k := 0) (by decide) rfl) (x_arrup _ _ _) rfl dX5_dropOldestState_27 (fun H locs hP hD hS => ?_)
  refine lv_iinc (v := 2) (lv' := [(2, .int 2), (1, .ref (bV 0 0)), (0, .ref h)]) hx hb dX5_dropOldestState_28 hl (k := 0) rfl (by decide) (by decide) rfl (fun ls hl => ?_)
  refine lv_goto (tgt := 9) hx hb dX5_dropOldestState_31 (by decide) ?_
  refine lv_iload_n hx hb dX5_dropOldestState_9 rfl (lv_at hl 0 rfl) ?_
  refine lv_iconst (v := 4) hx hb dX5_dropOldestState_10 (by decide) ?_
  refine lv_icmp_ge (tgt := 34) hx hb dX5_dropOldestState_11 (by decide) (fun h9 => absurd h9 (by decide)) (fun _ => ?_)
  refine lv_aload_n hx hb dX5_dropOldestState_14 rfl (lv_at hl 2 rfl) ?_
  refine va_get (D := (dC, dI)) (ci := 5) (v := .ref aV) (C := RX5) (T := TX5) (N := 5) hx hb hts iX5_dropOldestState_X5 hown hK hP 0 rfl rfl 2 (by decide) (hts _ kX5_dropOldestState_1) (fun _ h9 => h9) rfl dX5_dropOldestState_15 ?_
  refine lv_iload_n hx hb dX5_dropOldestState_18 rfl (lv_at hl 0 rfl) ?_
  refine lv_iconst (v := 1) hx hb dX5_dropOldestState_19 (by decide) ?_
  refine lv_isub hx hb dX5_dropOldestState_20 ?_
  refine x_topi (v := 1) (by decide) ?_
  refine lv_aload_n hx hb dX5_dropOldestState_21 rfl (lv_at hl 2 rfl) ?_
  refine va_get (D := (dC, dI)) (ci := 5) (v := .ref aV) (C := RX5) (T := TX5) (N := 5) hx hb hts iX5_dropOldestState_X5 hown hK hP 0 rfl rfl 2 (by decide) (hts _ kX5_dropOldestState_1) (fun _ h9 => h9) rfl dX5_dropOldestState_22 ?_
  refine lv_iload_n hx hb dX5_dropOldestState_25 rfl (lv_at hl 0 rfl) ?_
  refine x_aldq (k := 2) (v := (bV 2 0)) hx hb hK hP 1 3 rfl rfl (by decide) (inbK (k := 2) (by decide) rfl) rfl dX5_dropOldestState_26 ?_
  refine x_astq (ws' := ((h, .inr (5, [.ref (bA 0), .ref (bB 0), .ref aV, .int xN, .ref yt])) :: (aV, .inl (cyS, 4, .inr (.inr (.inr (.inr (fun i => some ((va_up (va_up bV 0 (bV 1)) 1 (bV 2)) i 0))))))) :: (wB cyI cyJ (bV 0) C0Z ++ (wB cyI cyJ (bV 1) C1Z ++ (wB cyI cyJ (bV 2) C2Z ++ (wB cyI cyJ (bV 3) C3Z ++ [])))))) (k := 1) hx hb hK hP hD hS 1 3 32 3 rfl rfl rfl rfl (by decide) (inbK (k := 1) (by decide) rfl) (x_arrup _ _ _) rfl dX5_dropOldestState_27 (fun H locs hP hD hS => ?_)
  refine lv_iinc (v := 3) (lv' := [(2, .int 3), (1, .ref (bV 0 0)), (0, .ref h)]) hx hb dX5_dropOldestState_28 hl (k := 0) rfl (by decide) (by decide) rfl (fun ls hl => ?_)
  refine lv_goto (tgt := 9) hx hb dX5_dropOldestState_31 (by decide) ?_
  refine lv_iload_n hx hb dX5_dropOldestState_9 rfl (lv_at hl 0 rfl) ?_
  refine lv_iconst (v := 4) hx hb dX5_dropOldestState_10 (by decide) ?_
  refine lv_icmp_ge (tgt := 34) hx hb dX5_dropOldestState_11 (by decide) (fun h9 => absurd h9 (by decide)) (fun _ => ?_)
  refine lv_aload_n hx hb dX5_dropOldestState_14 rfl (lv_at hl 2 rfl) ?_
  refine va_get (D := (dC, dI)) (ci := 5) (v := .ref aV) (C := RX5) (T := TX5) (N := 5) hx hb hts iX5_dropOldestState_X5 hown hK hP 0 rfl rfl 2 (by decide) (hts _ kX5_dropOldestState_1) (fun _ h9 => h9) rfl dX5_dropOldestState_15 ?_
  refine lv_iload_n hx hb dX5_dropOldestState_18 rfl (lv_at hl 0 rfl) ?_
  refine lv_iconst (v := 1) hx hb dX5_dropOldestState_19 (by decide) ?_
  refine lv_isub hx hb dX5_dropOldestState_20 ?_
  refine x_topi (v := 2) (by decide) ?_
  refine lv_aload_n hx hb dX5_dropOldestState_21 rfl (lv_at hl 2 rfl) ?_
  refine va_get (D := (dC, dI)) (ci := 5) (v := .ref aV) (C := RX5) (T := TX5) (N := 5) hx hb hts iX5_dropOldestState_X5 hown hK hP 0 rfl rfl 2 (by decide) (hts _ kX5_dropOldestState_1) (fun _ h9 => h9) rfl dX5_dropOldestState_22 ?_
  refine lv_iload_n hx hb dX5_dropOldestState_25 rfl (lv_at hl 0 rfl) ?_
  refine x_aldq (k := 3) (v := (bV 3 0)) hx hb hK hP 1 3 rfl rfl (by decide) (inbK (k := 3) (by decide) rfl) rfl dX5_dropOldestState_26 ?_
  refine x_astq (ws' := ((h, .inr (5, [.ref (bA 0), .ref (bB 0), .ref aV, .int xN, .ref yt])) :: (aV, .inl (cyS, 4, .inr (.inr (.inr (.inr (fun i => some ((va_up (va_up (va_up bV 0 (bV 1)) 1 (bV 2)) 2 (bV 3)) i 0))))))) :: (wB cyI cyJ (bV 0) C0Z ++ (wB cyI cyJ (bV 1) C1Z ++ (wB cyI cyJ (bV 2) C2Z ++ (wB cyI cyJ (bV 3) C3Z ++ [])))))) (k := 2) hx hb hK hP hD hS 1 3 47 3 rfl rfl rfl rfl (by decide) (inbK (k := 2) (by decide) rfl) (x_arrup _ _ _) rfl dX5_dropOldestState_27 (fun H locs hP hD hS => ?_)
  refine lv_iinc (v := 4) (lv' := [(2, .int 4), (1, .ref (bV 0 0)), (0, .ref h)]) hx hb dX5_dropOldestState_28 hl (k := 0) rfl (by decide) (by decide) rfl (fun ls hl => ?_)
  refine lv_goto (tgt := 9) hx hb dX5_dropOldestState_31 (by decide) ?_
  refine lv_iload_n hx hb dX5_dropOldestState_9 rfl (lv_at hl 0 rfl) ?_
  refine lv_iconst (v := 4) hx hb dX5_dropOldestState_10 (by decide) ?_
  refine lv_icmp_ge (tgt := 34) hx hb dX5_dropOldestState_11 (by decide) (fun _ => ?_) (fun h9 => absurd (by decide) h9)
  refine lv_aload_n hx hb dX5_dropOldestState_34 rfl (lv_at hl 2 rfl) ?_
  refine va_get (D := (dC, dI)) (ci := 5) (v := .ref aV) (C := RX5) (T := TX5) (N := 5) hx hb hts iX5_dropOldestState_X5 hown hK hP 0 rfl rfl 2 (by decide) (hts _ kX5_dropOldestState_1) (fun _ h9 => h9) rfl dX5_dropOldestState_35 ?_
  refine lv_iconst (v := 3) hx hb dX5_dropOldestState_38 (by decide) ?_
  refine lv_aload_n hx hb dX5_dropOldestState_39 rfl (lv_at hl 1 rfl) ?_
  refine x_astq (ws' := ((h, .inr (5, [.ref (bA 0), .ref (bB 0), .ref aV, .int xN, .ref yt])) :: (aV, .inl (cyS, 4, .inr (.inr (.inr (.inr (fun i => some ((va_up (va_up (va_up (va_up bV 0 (bV 1)) 1 (bV 2)) 2 (bV 3)) 3 (bV 0)) i 0))))))) :: (wB cyI cyJ (bV 0) C0Z ++ (wB cyI cyJ (bV 1) C1Z ++ (wB cyI cyJ (bV 2) C2Z ++ (wB cyI cyJ (bV 3) C3Z ++ [])))))) (k := 3) hx hb hK hP hD hS 1 3 2 3 rfl rfl rfl rfl (by decide) (inbK (k := 3) (by decide) rfl) (x_arrup _ _ _) rfl dX5_dropOldestState_40 (fun H locs hP hD hS => ?_)
  refine lv_aload_n hx hb dX5_dropOldestState_41 rfl (lv_at hl 2 rfl) ?_
  refine lv_iconst (v := 3) hx hb dX5_dropOldestState_42 (by decide) ?_
  refine x_put (D := (dC, dI)) (ci := 5) (v := .int 3) (ty := .int) (C := RX5) (T := TX5) (N := 5) (ws' := ((h, .inr (5, [.ref (bA 0), .ref (bB 0), .ref aV, .int 3, .ref yt])) :: (aV, .inl (cyS, 4, .inr (.inr (.inr (.inr (fun i => some ((va_up (va_up (va_up (va_up bV 0 (bV 1)) 1 (bV 2)) 2 (bV 3)) 3 (bV 0)) i 0))))))) :: (wB cyI cyJ (bV 0) C0Z ++ (wB cyI cyJ (bV 1) C1Z ++ (wB cyI cyJ (bV 2) C2Z ++ (wB cyI cyJ (bV 3) C3Z ++ [])))))) hx hb hts iX5_dropOldestState_X5 tyX5 tyX5_ok nmX5 hown hK hP hD hS 0 rfl rfl 3 (by decide) (hts _ kX5_dropOldestState_2) (fun _ h9 => h9) rfl (by decide +kernel) rfl rfl (Nat.le_of_ble_eq_true rfl) rfl dX5_dropOldestState_43 (fun H locs hP hD hS => ?_)
  obtain rfl := some_e hF
  refine W.widen (k := 0) (n := 0) (Nat.le_of_ble_eq_true rfl) (Nat.le_of_ble_eq_true rfl) ?_
  have hP := hP.sub (ws' := ((h, .inr (5, [.ref (bA 0), .ref (bB 0), .ref aV, .int 3, .ref yt])) :: (aV, .inl (cyS, 4, .inr (.inr (.inr (.inr (fun i => some ((va_up (va_up (va_up (va_up bV 0 (bV 1)) 1 (bV 2)) 2 (bV 3)) 3 (bV 0)) i 0))))))) :: (wB cyI cyJ ((va_up (va_up (va_up (va_up bV 0 (bV 1)) 1 (bV 2)) 2 (bV 3)) 3 (bV 0)) 0) C1Z ++ (wB cyI cyJ ((va_up (va_up (va_up (va_up bV 0 (bV 1)) 1 (bV 2)) 2 (bV 3)) 3 (bV 0)) 1) C2Z ++ (wB cyI cyJ ((va_up (va_up (va_up (va_up bV 0 (bV 1)) 1 (bV 2)) 2 (bV 3)) 3 (bV 0)) 2) C3Z ++ (wB cyI cyJ ((va_up (va_up (va_up (va_up bV 0 (bV 1)) 1 (bV 2)) 2 (bV 3)) 3 (bV 0)) 3) C0Z ++ [])))))) [0, 1, 17, 18, 19, 20, 21, 22, 23, 24, 25, 26, 27, 28, 29, 30, 31, 32, 33, 34, 35, 36, 37, 38, 39, 40, 41, 42, 43, 44, 45, 46, 47, 48, 49, 50, 51, 52, 53, 54, 55, 56, 57, 58, 59, 60, 61, 2, 3, 4, 5, 6, 7, 8, 9, 10, 11, 12, 13, 14, 15, 16] rfl
  have hD := hD.sub (ws' := ((h, .inr (5, [.ref (bA 0), .ref (bB 0), .ref aV, .int 3, .ref yt])) :: (aV, .inl (cyS, 4, .inr (.inr (.inr (.inr (fun i => some ((va_up (va_up (va_up (va_up bV 0 (bV 1)) 1 (bV 2)) 2 (bV 3)) 3 (bV 0)) i 0))))))) :: (wB cyI cyJ ((va_up (va_up (va_up (va_up bV 0 (bV 1)) 1 (bV 2)) 2 (bV 3)) 3 (bV 0)) 0) C1Z ++ (wB cyI cyJ ((va_up (va_up (va_up (va_up bV 0 (bV 1)) 1 (bV 2)) 2 (bV 3)) 3 (bV 0)) 1) C2Z ++ (wB cyI cyJ ((va_up (va_up (va_up (va_up bV 0 (bV 1)) 1 (bV 2)) 2 (bV 3)) 3 (bV 0)) 2) C3Z ++ (wB cyI cyJ ((va_up (va_up (va_up (va_up bV 0 (bV 1)) 1 (bV 2)) 2 (bV 3)) 3 (bV 0)) 3) C0Z ++ [])))))) [0, 1, 17, 18, 19, 20, 21, 22, 23, 24, 25, 26, 27, 28, 29, 30, 31, 32, 33, 34, 35, 36, 37, 38, 39, 40, 41, 42, 43, 44, 45, 46, 47, 48, 49, 50, 51, 52, 53, 54, 55, 56, 57, 58, 59, 60, 61, 2, 3, 4, 5, 6, 7, 8, 9, 10, 11, 12, 13, 14, 15, 16] (by decide) rfl
  exact vx_ret (W.vret hx hb hr (fun t ht hW => ⟨⟨((3, C1Z, C2Z, C3Z, C0Z), (va_up (va_up (va_up (va_up bV 0 (bV 1)) 1 (bV 2)) 2 (bV 3)) 3 (bV 0))), rfl, rfl, ⟨by rw [ht]; exact hP, va_K.moved hW.alike hK, hD⟩⟩, hS.F ht⟩) hS.2.2 dX5_dropOldestState_46)
def F_X5_saveState (xN : Int32) (AZ : ST) (C0Z : ST) (C1Z : ST) (C2Z : ST) (C3Z : ST) : Option ((Int32 × ST × ST × ST × ST) ⊕ String) := if (xN : Int32) < 4 then (ck (inb xN 4) (if (xN : Int32) = 0 then (ob (F_X3_copyFrom C0Z AZ) (fun o3 => lt_ (α := Int32) (xN + 1) (fun v4 => some (.inl (v4, o3, C1Z, C2Z, C3Z))))) else if (xN : Int32) = 1 then (ob (F_X3_copyFrom C1Z AZ) (fun o5 => lt_ (α := Int32) (xN + 1) (fun v6 => some (.inl (v6, C0Z, o5, C2Z, C3Z))))) else if (xN : Int32) = 2 then (ob (F_X3_copyFrom C2Z AZ) (fun o7 => lt_ (α := Int32) (xN + 1) (fun v8 => some (.inl (v8, C0Z, C1Z, o7, C3Z))))) else (ob (F_X3_copyFrom C3Z AZ) (fun o9 => lt_ (α := Int32) (xN + 1) (fun v10 => some (.inl (v10, C0Z, C1Z, C2Z, o9))))))) else (obx (F_X5_dropOldestState C0Z C1Z C2Z C3Z) (fun o12 => ck (inb o12.1 4) (if (o12.1 : Int32) = 0 then (ob (F_X3_copyFrom o12.2.1 AZ) (fun o15 => lt_ (α := Int32) (o12.1 + 1) (fun v16 => some (.inl (v16, o15, o12.2.2.1, o12.2.2.2.1, o12.2.2.2.2))))) else if (o12.1 : Int32) = 1 then (ob (F_X3_copyFrom o12.2.2.1 AZ) (fun o17 => lt_ (α := Int32) (o12.1 + 1) (fun v18 => some (.inl (v18, o12.2.1, o17, o12.2.2.2.1, o12.2.2.2.2))))) else if (o12.1 : Int32) = 2 then (ob (F_X3_copyFrom o12.2.2.2.1 AZ) (fun o19 => lt_ (α := Int32) (o12.1 + 1) (fun v20 => some (.inl (v20, o12.2.1, o12.2.2.1, o19, o12.2.2.2.2))))) else (ob (F_X3_copyFrom o12.2.2.2.2 AZ) (fun o21 => lt_ (α := Int32) (o12.1 + 1) (fun v22 => some (.inl (v22, o12.2.1, o12.2.2.1, o12.2.2.2.1, o21))))))))
theorem kX5_saveState_1 : (Cond.fieldLink RX5 23 "SelfTuner" "savedStates" "I") ∈ wsX5_saveState := List.mem_of_getElem? (i := 1) rfl
theorem kX5_saveState_2 : (Cond.fieldLink RX5 19 "SelfTuner" "saved" "[LSelfTuner$State;") ∈ wsX5_saveState := List.mem_of_getElem? (i := 2) rfl
theorem kX5_saveState_3 : (Cond.fieldLink RX5 12 "SelfTuner" "state" "LSelfTuner$State;") ∈ wsX5_saveState := List.mem_of_getElem? (i := 3) rfl
theorem kX5_saveState_9 : (Cond.instanceMethod yX3_copyFrom) ∈ wsX5_saveState := List.mem_of_getElem? (i := 9) rfl
theorem kX5_saveState_10 : (Cond.initialized RX3) ∈ wsX5_saveState := List.mem_of_getElem? (i := 10) rfl
theorem kX5_saveState_11 : (Cond.selects RX3 yX3_copyFrom yX3_copyFrom) ∈ wsX5_saveState := List.mem_of_getElem? (i := 11) rfl
theorem iX5_saveState_X5 : ∀ w ∈ wsX50, w ∈ wsX5_saveState := fun w h => List.mem_cons_of_mem _ (List.mem_append_left _ (List.mem_append_left _ (List.mem_append_left _ (List.mem_append_left _ (List.mem_append_right _ h)))))
set_option maxHeartbeats 4000000 in
set_option maxRecDepth 100000 in
theorem c_X5_saveState (l : Launch) (hfl : l.stackTraces = false) (dC : Nat → ClassId) (dI : Nat → Nat → Nat) (cyI cyJ cyB cyS cyD : ClassId) (h : Nat) (bA : Nat → Nat) (bB : Nat → Nat) (aV : Nat) (yt : Nat) (bV : Nat → Nat → Nat) (sz : Nat) (xN : Int32) (AZ : ST) (C0Z : ST) (C1Z : ST) (C2Z : ST) (C3Z : ST) {out : (Int32 × ST × ST × ST × ST) ⊕ String} (hF : F_X5_saveState xN AZ C0Z C1Z C2Z C3Z = some out) : Xv (T := Nat → Nat → Nat) l yX5_saveState wsX5_saveState ({ frames := 4, cells := 0, slots := 0, locals := 143 } : Room) (dC, dI) [(cyI, .int), (cyJ, .long), (cyB, .byte), (cyS, .object "SelfTuner$State"), (cyD, .double)] sz [.ref h] ((h, .inr (5, [.ref (bA 0), .ref (bB 0), .ref aV, .int xN, .ref yt])) :: (wB cyI cyJ bA AZ ++ ((aV, .inl (cyS, 4, .inr (.inr (.inr (.inr (fun i => some (bV i 0))))))) :: (wB cyI cyJ (bV 0) C0Z ++ (wB cyI cyJ (bV 1) C1Z ++ (wB cyI cyJ (bV 2) C2Z ++ (wB cyI cyJ (bV 3) C3Z ++ []))))))) out  (fun (v : Int32 × ST × ST × ST × ST) (bV : Nat → Nat → Nat) => ((h, .inr (5, [.ref (bA 0), .ref (bB 0), .ref aV, .int v.1, .ref yt])) :: (wB cyI cyJ bA AZ ++ ((aV, .inl (cyS, 4, .inr (.inr (.inr (.inr (fun i => some (bV i 0))))))) :: (wB cyI cyJ (bV 0) v.2.1 ++ (wB cyI cyJ (bV 1) v.2.2.1 ++ (wB cyI cyJ (bV 2) v.2.2.2.1 ++ (wB cyI cyJ (bV 3) v.2.2.2.2 ++ [])))))))) 0 0 := by
  refine vx_ofW (cc := cX5_saveState) (maxL := 1) (ret := none) (by decide) rfl ?_
  intro p e s m args below meth c s₁ B hml htab hv
  obtain ⟨rfl, ⟨hN, hsz, hP, hK, hD0⟩, hZ, hT⟩ := hv
  have hx := B.exec
  have hb := B.bytes
  have hr := B.returns
  have hts := atoms_spec (ws := wsX5_saveState) B.pre
  have hown : s.vm.findClass RX5 = some m.cls := findClass_of_methodNamed B.named
  have hlocks := B.notSynchronized
  subst hsz
  have hD := hD0.self (sz := s.heap.size)
  generalize hAe : va_A ((h, .inr (5, [.ref (bA 0), .ref (bB 0), .ref aV, .int xN, .ref yt])) :: (wB cyI cyJ bA AZ ++ ((aV, .inl (cyS, 4, .inr (.inr (.inr (.inr (fun i => some (bV i 0))))))) :: (wB cyI cyJ (bV 0) C0Z ++ (wB cyI cyJ (bV 1) C1Z ++ (wB cyI cyJ (bV 2) C2Z ++ (wB cyI cyJ (bV 3) C3Z ++ []))))))) s.heap.size = A at hD hZ ⊢
  have hA : ∀ q : Nat, s.heap.size ≤ q → A q := fun q h => by rw [← hAe]; exact Or.inr h
  have hS : va_S A s.heap s.heap [] := va_S.rf
  have hP : va_P (dC, dI) vwCl ((h, .inr (5, [.ref (bA 0), .ref (bB 0), .ref aV, .int xN, .ref yt])) :: (wB cyI cyJ bA AZ ++ ((aV, .inl (cyS, 4, .inr (.inr (.inr (.inr (fun i => some (bV i 0))))))) :: (wB cyI cyJ (bV 0) C0Z ++ (wB cyI cyJ (bV 1) C1Z ++ (wB cyI cyJ (bV 2) C2Z ++ (wB cyI cyJ (bV 3) C3Z ++ []))))))) s.heap := hP
  have hl := lv_entry ([.ref h]) (n := 1) (Nat.le_of_ble_eq_true rfl)
  rw [lg_entry_eq]
  generalize (lg_sl ([.ref h]) ++ List.replicate (1 - (lg_sl ([.ref h])).length) Slot.unset).toArray = ls at hl ⊢
  have hl : lv_has ls 1 [(0, .ref h)] := hl
  unfold F_X5_saveState at hF
  refine lv_aload_n hx hb dX5_saveState_0 rfl (lv_at hl 0 rfl) ?_
  refine va_get (D := (dC, dI)) (ci := 5) (v := .int xN) (C := RX5) (T := TX5) (N := 5) hx hb hts iX5_saveState_X5 hown hK hP 0 rfl rfl 3 (by decide) (hts _ kX5_saveState_1) (fun _ h9 => h9) rfl dX5_saveState_1 ?_
  refine lv_iconst (v := 4) hx hb dX5_saveState_4 (by decide) ?_
  refine lv_icmp_lt (tgt := 12) hx hb dX5_saveState_5 (by decide) (fun c1 => ?_) (fun c1 => ?_)
  · have hF := ite_t hF c1
    refine lv_aload_n hx hb dX5_saveState_12 rfl (lv_at hl 0 rfl) ?_
    refine va_get (D := (dC, dI)) (ci := 5) (v := .ref aV) (C := RX5) (T := TX5) (N := 5) hx hb hts iX5_saveState_X5 hown hK hP 0 rfl rfl 2 (by decide) (hts _ kX5_saveState_2) (fun _ h9 => h9) rfl dX5_saveState_13 ?_
    refine lv_aload_n hx hb dX5_saveState_16 rfl (lv_at hl 0 rfl) ?_
    refine va_get (D := (dC, dI)) (ci := 5) (v := .int xN) (C := RX5) (T := TX5) (N := 5) hx hb hts iX5_saveState_X5 hown hK hP 0 rfl rfl 3 (by decide) (hts _ kX5_saveState_1) (fun _ h9 => h9) rfl dX5_saveState_17 ?_
    obtain ⟨g2, hF⟩ := ck_e hF
    by_cases c11 : (xN : Int32) = 0
    · have hF := ite_t hF c11
      refine x_aldq (k := 0) (v := (bV 0 0)) hx hb hK hP 16 3 rfl rfl (by rw [c11]; decide) g2 rfl dX5_saveState_20 ?_
      refine lv_aload_n hx hb dX5_saveState_21 rfl (lv_at hl 0 rfl) ?_
      refine va_get (D := (dC, dI)) (ci := 5) (v := .ref (bA 0)) (C := RX5) (T := TX5) (N := 5) hx hb hts iX5_saveState_X5 hown hK hP 0 rfl rfl 0 (by decide) (hts _ kX5_saveState_3) (fun _ h9 => h9) rfl dX5_saveState_22 ?_
      obtain ⟨o3, ho3, hF⟩ := ob_e hF
      refine x_callv (wr := ((h, .inr (5, [.ref (bA 0), .ref (bB 0), .ref aV, .int xN, .ref yt])) :: (aV, .inl (cyS, 4, .inr (.inr (.inr (.inr (fun i => some (bV i 0))))))) :: (wB cyI cyJ (bV 1) C1Z ++ (wB cyI cyJ (bV 2) C2Z ++ (wB cyI cyJ (bV 3) C3Z ++ []))))) (ws' := ((h, .inr (5, [.ref (bA 0), .ref (bB 0), .ref aV, .int xN, .ref yt])) :: (wB cyI cyJ bA AZ ++ ((aV, .inl (cyS, 4, .inr (.inr (.inr (.inr (fun i => some (bV i 0))))))) :: (wB cyI cyJ (bV 0) o3 ++ (wB cyI cyJ (bV 1) C1Z ++ (wB cyI cyJ (bV 2) C2Z ++ (wB cyI cyJ (bV 3) C3Z ++ [])))))))) (va_runVN (As := [.ref (bA 0)]) (rest := []) ⟨hx, hb, hml, hown, hts⟩ (c_X3_copyFrom l dC dI cyI cyJ cyB cyS cyD (bV 0 0) (bV 0 1) (bV 0 2) (bV 0 13) (bV 0 3) (bV 0 4) (bV 0 5) (bV 0 6) (bV 0 7) (bV 0 10) (bV 0 8) (bV 0 9) (bV 0 11) (bV 0 12) (bV 0 14) (bA 0) (bA 1) (bA 2) (bA 13) (bA 3) (bA 4) (bA 5) (bA 6) (bA 7) (bA 10) (bA 8) (bA 9) (bA 11) (bA 12) (bA 14) s.heap.size C0Z AZ ho3) ⟨va_cnB 1 hts gX5_saveState_X3_copyFrom_n159 rfl rfl rfl (nm_X5_159 hN) (hts _ kX5_saveState_10) (by decide +kernel) ⟨Nat.le_of_ble_eq_true rfl, Nat.le_of_ble_eq_true rfl⟩, hts _ kX5_saveState_9, hts _ kX5_saveState_11⟩ ⟨cPre_blind, va_recv hK hP (ci := 3) (q0 := 17) rfl rfl, x_pre hN hP hD hK [17, 18, 19, 20, 21, 22, 23, 24, 25, 26, 27, 28, 29, 30, 31, 1, 2, 3, 4, 5, 6, 7, 8, 9, 10, 11, 12, 13, 14, 15] rfl rfl⟩ rfl rfl hl.1 rfl (lv_room (Nat.le_of_ble_eq_true rfl)) dX5_saveState_25 ⟨Nat.le_of_ble_eq_true rfl, Nat.le_of_ble_eq_true rfl⟩) hP hD hS hA [17, 18, 19, 20, 21, 22, 23, 24, 25, 26, 27, 28, 29, 30, 31, 1, 2, 3, 4, 5, 6, 7, 8, 9, 10, 11, 12, 13, 14, 15] [0, 16, 32, 33, 34, 35, 36, 37, 38, 39, 40, 41, 42, 43, 44, 45, 46, 47, 48, 49, 50, 51, 52, 53, 54, 55, 56, 57, 58, 59, 60, 61, 62, 63, 64, 65, 66, 67, 68, 69, 70, 71, 72, 73, 74, 75, 76] [0, 62, 63, 64, 65, 66, 67, 68, 69, 70, 71, 72, 73, 74, 75, 76, 1, 47, 48, 49, 50, 51, 52, 53, 54, 55, 56, 57, 58, 59, 60, 61, 2, 3, 4, 5, 6, 7, 8, 9, 10, 11, 12, 13, 14, 15, 16, 17, 18, 19, 20, 21, 22, 23, 24, 25, 26, 27, 28, 29, 30, 31, 32, 33, 34, 35, 36, 37, 38, 39, 40, 41, 42, 43, 44, 45, 46] rfl rfl rfl (by decide) rfl rfl (fun H locs hP hD hS => ?_)
      refine lv_aload_n hx hb dX5_saveState_28 rfl (lv_at hl 0 rfl) ?_
      refine lv_dup hx hb dX5_saveState_29 rfl ?_
      refine va_get (D := (dC, dI)) (ci := 5) (v := .int xN) (C := RX5) (T := TX5) (N := 5) hx hb hts iX5_saveState_X5 hown hK hP 0 rfl rfl 3 (by decide) (hts _ kX5_saveState_1) (fun _ h9 => h9) rfl dX5_saveState_30 ?_
      refine lv_iconst (v := 1) hx hb dX5_saveState_33 (by decide) ?_
      refine lv_iadd hx hb dX5_saveState_34 ?_
      obtain ⟨v4, hv4, hF⟩ := lt_e hF
      refine x_topi hv4 ?_
      refine x_put (D := (dC, dI)) (ci := 5) (v := .int v4) (ty := .int) (C := RX5) (T := TX5) (N := 5) (ws' := ((h, .inr (5, [.ref (bA 0), .ref (bB 0), .ref aV, .int v4, .ref yt])) :: (wB cyI cyJ bA AZ ++ ((aV, .inl (cyS, 4, .inr (.inr (.inr (.inr (fun i => some (bV i 0))))))) :: (wB cyI cyJ (bV 0) o3 ++ (wB cyI cyJ (bV 1) C1Z ++ (wB cyI cyJ (bV 2) C2Z ++ (wB cyI cyJ (bV 3) C3Z ++ [])))))))) hx hb hts iX5_saveState_X5 tyX5 tyX5_ok nmX5 hown hK hP hD hS 0 rfl rfl 3 (by decide) (hts _ kX5_saveState_1) (fun _ h9 => h9) rfl (by decide +kernel) rfl rfl (Nat.le_of_ble_eq_true rfl) rfl dX5_saveState_35 (fun H locs hP hD hS => ?_)
      obtain rfl := some_e hF
      refine W.widen (k := 0) (n := 0) (Nat.le_of_ble_eq_true rfl) (Nat.le_of_ble_eq_true rfl) ?_
      exact vx_ret (W.vret hx hb hr (fun t ht hW => ⟨⟨((v4, o3, C1Z, C2Z, C3Z), bV), rfl, rfl, ⟨by rw [ht]; exact hP, va_K.moved hW.alike hK, hD⟩⟩, hS.F ht⟩) hS.2.2 dX5_saveState_38)
    have hF := ite_f hF c11
    have nc11_0 := c11
    by_cases c11 : (xN : Int32) = 1
    · have hF := ite_t hF c11
      refine x_aldq (k := 1) (v := (bV 1 0)) hx hb hK hP 16 3 rfl rfl (by rw [c11]; decide) g2 rfl dX5_saveState_20 ?_
      refine lv_aload_n hx hb dX5_saveState_21 rfl (lv_at hl 0 rfl) ?_
      refine va_get (D := (dC, dI)) (ci := 5) (v := .ref (bA 0)) (C := RX5) (T := TX5) (N := 5) hx hb hts iX5_saveState_X5 hown hK hP 0 rfl rfl 0 (by decide) (hts _ kX5_saveState_3) (fun _ h9 => h9) rfl dX5_saveState_22 ?_
      obtain ⟨o5, ho5, hF⟩ := ob_e hF
      refine x_callv (wr := ((h, .inr (5, [.ref (bA 0), .ref (bB 0), .ref aV, .int xN, .ref yt])) :: (aV, .inl (cyS, 4, .inr (.inr (.inr (.inr (fun i => some (bV i 0))))))) :: (wB cyI cyJ (bV 0) C0Z ++ (wB cyI cyJ (bV 2) C2Z ++ (wB cyI cyJ (bV 3) C3Z ++ []))))) (ws' := ((h, .inr (5, [.ref (bA 0), .ref (bB 0), .ref aV, .int xN, .ref yt])) :: (wB cyI cyJ bA AZ ++ ((aV, .inl (cyS, 4, .inr (.inr (.inr (.inr (fun i => some (bV i 0))))))) :: (wB cyI cyJ (bV 0) C0Z ++ (wB cyI cyJ (bV 1) o5 ++ (wB cyI cyJ (bV 2) C2Z ++ (wB cyI cyJ (bV 3) C3Z ++ [])))))))) (va_runVN (As := [.ref (bA 0)]) (rest := []) ⟨hx, hb, hml, hown, hts⟩ (c_X3_copyFrom l dC dI cyI cyJ cyB cyS cyD (bV 1 0) (bV 1 1) (bV 1 2) (bV 1 13) (bV 1 3) (bV 1 4) (bV 1 5) (bV 1 6) (bV 1 7) (bV 1 10) (bV 1 8) (bV 1 9) (bV 1 11) (bV 1 12) (bV 1 14) (bA 0) (bA 1) (bA 2) (bA 13) (bA 3) (bA 4) (bA 5) (bA 6) (bA 7) (bA 10) (bA 8) (bA 9) (bA 11) (bA 12) (bA 14) s.heap.size C1Z AZ ho5) ⟨va_cnB 1 hts gX5_saveState_X3_copyFrom_n159 rfl rfl rfl (nm_X5_159 hN) (hts _ kX5_saveState_10) (by decide +kernel) ⟨Nat.le_of_ble_eq_true rfl, Nat.le_of_ble_eq_true rfl⟩, hts _ kX5_saveState_9, hts _ kX5_saveState_11⟩ ⟨cPre_blind, va_recv hK hP (ci := 3) (q0 := 32) rfl rfl, x_pre hN hP hD hK [32, 33, 34, 35, 36, 37, 38, 39, 40, 41, 42, 43, 44, 45, 46, 1, 2, 3, 4, 5, 6, 7, 8, 9, 10, 11, 12, 13, 14, 15] rfl rfl⟩ rfl rfl hl.1 rfl (lv_room (Nat.le_of_ble_eq_true rfl)) dX5_saveState_25 ⟨Nat.le_of_ble_eq_true rfl, Nat.le_of_ble_eq_true rfl⟩) hP hD hS hA [32, 33, 34, 35, 36, 37, 38, 39, 40, 41, 42, 43, 44, 45, 46, 1, 2, 3, 4, 5, 6, 7, 8, 9, 10, 11, 12, 13, 14, 15] [0, 16, 17, 18, 19, 20, 21, 22, 23, 24, 25, 26, 27, 28, 29, 30, 31, 47, 48, 49, 50, 51, 52, 53, 54, 55, 56, 57, 58, 59, 60, 61, 62, 63, 64, 65, 66, 67, 68, 69, 70, 71, 72, 73, 74, 75, 76] [0, 62, 63, 64, 65, 66, 67, 68, 69, 70, 71, 72, 73, 74, 75, 76, 1, 2, 3, 4, 5, 6, 7, 8, 9, 10, 11, 12, 13, 14, 15, 16, 47, 48, 49, 50, 51, 52, 53, 54, 55, 56, 57, 58, 59, 60, 61, 17, 18, 19, 20, 21, 22, 23, 24, 25, 26, 27, 28, 29, 30, 31, 32, 33, 34, 35, 36, 37, 38, 39, 40, 41, 42, 43, 44, 45, 46] rfl rfl rfl (by decide) rfl rfl (fun H locs hP hD hS => ?_)
      refine lv_aload_n hx hb dX5_saveState_28 rfl (lv_at hl 0 rfl) ?_
      refine lv_dup hx hb dX5_saveState_29 rfl ?_
      refine va_get (D := (dC, dI)) (ci := 5) (v := .int xN) (C := RX5) (T := TX5) (N := 5) hx hb hts iX5_saveState_X5 hown hK hP 0 rfl rfl 3 (by decide) (hts _ kX5_saveState_1) (fun _ h9 => h9) rfl dX5_saveState_30 ?_
      refine lv_iconst (v := 1) hx hb dX5_saveState_33 (by decide) ?_
      refine lv_iadd hx hb dX5_saveState_34 ?_
      obtain ⟨v6, hv6, hF⟩ := lt_e hF
      refine x_topi hv6 ?_
      refine x_put (D := (dC, dI)) (ci := 5) (v := .int v6) (ty := .int) (C := RX5) (T := TX5) (N := 5) (ws' := ((h, .inr (5, [.ref (bA 0), .ref (bB 0), .ref aV, .int v6, .ref yt])) :: (wB cyI cyJ bA AZ ++ ((aV, .inl (cyS, 4, .inr (.inr (.inr (.inr (fun i => some (bV i 0))))))) :: (wB cyI cyJ (bV 0) C0Z ++ (wB cyI cyJ (bV 1) o5 ++ (wB cyI cyJ (bV 2) C2Z ++ (wB cyI cyJ (bV 3) C3Z ++ [])))))))) hx hb hts iX5_saveState_X5 tyX5 tyX5_ok nmX5 hown hK hP hD hS 0 rfl rfl 3 (by decide) (hts _ kX5_saveState_1) (fun _ h9 => h9) rfl (by decide +kernel) rfl rfl (Nat.le_of_ble_eq_true rfl) rfl dX5_saveState_35 (fun H locs hP hD hS => ?_)
      obtain rfl := some_e hF
      refine W.widen (k := 0) (n := 0) (Nat.le_of_ble_eq_true rfl) (Nat.le_of_ble_eq_true rfl) ?_
      exact vx_ret (W.vret hx hb hr (fun t ht hW => ⟨⟨((v6, C0Z, o5, C2Z, C3Z), bV), rfl, rfl, ⟨by rw [ht]; exact hP, va_K.moved hW.alike hK, hD⟩⟩, hS.F ht⟩) hS.2.2 dX5_saveState_38)
    have hF := ite_f hF c11
    have nc11_1 := c11
    by_cases c11 : (xN : Int32) = 2
    · have hF := ite_t hF c11
      refine x_aldq (k := 2) (v := (bV 2 0)) hx hb hK hP 16 3 rfl rfl (by rw [c11]; decide) g2 rfl dX5_saveState_20 ?_
      refine lv_aload_n hx hb dX5_saveState_21 rfl (lv_at hl 0 rfl) ?_
      refine va_get (D := (dC, dI)) (ci := 5) (v := .ref (bA 0)) (C := RX5) (T := TX5) (N := 5) hx hb hts iX5_saveState_X5 hown hK hP 0 rfl rfl 0 (by decide) (hts _ kX5_saveState_3) (fun _ h9 => h9) rfl dX5_saveState_22 ?_
      obtain ⟨o7, ho7, hF⟩ := ob_e hF
      refine x_callv (wr := ((h, .inr (5, [.ref (bA 0), .ref (bB 0), .ref aV, .int xN, .ref yt])) :: (aV, .inl (cyS, 4, .inr (.inr (.inr (.inr (fun i => some (bV i 0))))))) :: (wB cyI cyJ (bV 0) C0Z ++ (wB cyI cyJ (bV 1) C1Z ++ (wB cyI cyJ (bV 3) C3Z ++ []))))) (ws' := ((h, .inr (5, [.ref (bA 0), .ref (bB 0), .ref aV, .int xN, .ref yt])) :: (wB cyI cyJ bA AZ ++ ((aV, .inl (cyS, 4, .inr (.inr (.inr (.inr (fun i => some (bV i 0))))))) :: (wB cyI cyJ (bV 0) C0Z ++ (wB cyI cyJ (bV 1) C1Z ++ (wB cyI cyJ (bV 2) o7 ++ (wB cyI cyJ (bV 3) C3Z ++ [])))))))) (va_runVN (As := [.ref (bA 0)]) (rest := []) ⟨hx, hb, hml, hown, hts⟩ (c_X3_copyFrom l dC dI cyI cyJ cyB cyS cyD (bV 2 0) (bV 2 1) (bV 2 2) (bV 2 13) (bV 2 3) (bV 2 4) (bV 2 5) (bV 2 6) (bV 2 7) (bV 2 10) (bV 2 8) (bV 2 9) (bV 2 11) (bV 2 12) (bV 2 14) (bA 0) (bA 1) (bA 2) (bA 13) (bA 3) (bA 4) (bA 5) (bA 6) (bA 7) (bA 10) (bA 8) (bA 9) (bA 11) (bA 12) (bA 14) s.heap.size C2Z AZ ho7) ⟨va_cnB 1 hts gX5_saveState_X3_copyFrom_n159 rfl rfl rfl (nm_X5_159 hN) (hts _ kX5_saveState_10) (by decide +kernel) ⟨Nat.le_of_ble_eq_true rfl, Nat.le_of_ble_eq_true rfl⟩, hts _ kX5_saveState_9, hts _ kX5_saveState_11⟩ ⟨cPre_blind, va_recv hK hP (ci := 3) (q0 := 47) rfl rfl, x_pre hN hP hD hK [47, 48, 49, 50, 51, 52, 53, 54, 55, 56, 57, 58, 59, 60, 61, 1, 2, 3, 4, 5, 6, 7, 8, 9, 10, 11, 12, 13, 14, 15] rfl rfl⟩ rfl rfl hl.1 rfl (lv_room (Nat.le_of_ble_eq_true rfl)) dX5_saveState_25 ⟨Nat.le_of_ble_eq_true rfl, Nat.le_of_ble_eq_true rfl⟩) hP hD hS hA [47, 48, 49, 50, 51, 52, 53, 54, 55, 56, 57, 58, 59, 60, 61, 1, 2, 3, 4, 5, 6, 7, 8, 9, 10, 11, 12, 13, 14, 15] [0, 16, 17, 18, 19, 20, 21, 22, 23, 24, 25, 26, 27, 28, 29, 30, 31, 32, 33, 34, 35, 36, 37, 38, 39, 40, 41, 42, 43, 44, 45, 46, 62, 63, 64, 65, 66, 67, 68, 69, 70, 71, 72, 73, 74, 75, 76] [0, 62, 63, 64, 65, 66, 67, 68, 69, 70, 71, 72, 73, 74, 75, 76, 1, 2, 3, 4, 5, 6, 7, 8, 9, 10, 11, 12, 13, 14, 15, 16, 17, 18, 19, 20, 21, 22, 23, 24, 25, 26, 27, 28, 29, 30, 31, 47, 48, 49, 50, 51, 52, 53, 54, 55, 56, 57, 58, 59, 60, 61, 32, 33, 34, 35, 36, 37, 38, 39, 40, 41, 42, 43, 44, 45, 46] rfl rfl rfl (by decide) rfl rfl (fun H locs hP hD hS => ?_)
      refine lv_aload_n hx hb dX5_saveState_28 rfl (lv_at hl 0 rfl) ?_
      refine lv_dup hx hb dX5_saveState_29 rfl ?_
      refine va_get (D := (dC, dI)) (ci := 5) (v := .int xN) (C := RX5) (T := TX5) (N := 5) hx hb hts iX5_saveState_X5 hown hK hP 0 rfl rfl 3 (by decide) (hts _ kX5_saveState_1) (fun _ h9 => h9) rfl dX5_saveState_30 ?_
      refine lv_iconst (v := 1) hx hb dX5_saveState_33 (by decide) ?_
      refine lv_iadd hx hb dX5_saveState_34 ?_
      obtain ⟨v8, hv8, hF⟩ := lt_e hF
      refine x_topi hv8 ?_
      refine x_put (D := (dC, dI)) (ci := 5) (v := .int v8) (ty := .int) (C := RX5) (T := TX5) (N := 5) (ws' := ((h, .inr (5, [.ref (bA 0), .ref (bB 0), .ref aV, .int v8, .ref yt])) :: (wB cyI cyJ bA AZ ++ ((aV, .inl (cyS, 4, .inr (.inr (.inr (.inr (fun i => some (bV i 0))))))) :: (wB cyI cyJ (bV 0) C0Z ++ (wB cyI cyJ (bV 1) C1Z ++ (wB cyI cyJ (bV 2) o7 ++ (wB cyI cyJ (bV 3) C3Z ++ [])))))))) hx hb hts iX5_saveState_X5 tyX5 tyX5_ok nmX5 hown hK hP hD hS 0 rfl rfl 3 (by decide) (hts _ kX5_saveState_1) (fun _ h9 => h9) rfl (by decide +kernel) rfl rfl (Nat.le_of_ble_eq_true rfl) rfl dX5_saveState_35 (fun H locs hP hD hS => ?_)
      obtain rfl := some_e hF
      refine W.widen (k := 0) (n := 0) (Nat.le_of_ble_eq_true rfl) (Nat.le_of_ble_eq_true rfl) ?_
      exact vx_ret (W.vret hx hb hr (fun t ht hW => ⟨⟨((v8, C0Z, C1Z, o7, C3Z), bV), rfl, rfl, ⟨by rw [ht]; exact hP, va_K.moved hW.alike hK, hD⟩⟩, hS.F ht⟩) hS.2.2 dX5_saveState_38)
    have hF := ite_f hF c11
    have nc11_2 := c11
    have c11 := inb4 g2 nc11_0 nc11_1 nc11_2
    refine x_aldq (k := 3) (v := (bV 3 0)) hx hb hK hP 16 3 rfl rfl (by rw [c11]; decide) g2 rfl dX5_saveState_20 ?_
    refine lv_aload_n hx hb dX5_saveState_21 rfl (lv_at hl 0 rfl) ?_
    refine va_get (D := (dC, dI)) (ci := 5) (v := .ref (bA 0)) (C := RX5) (T := TX5) (N := 5) hx hb hts iX5_saveState_X5 hown hK hP 0 rfl rfl 0 (by decide) (hts _ kX5_saveState_3) (fun _ h9 => h9) rfl dX5_saveState_22 ?_
    obtain ⟨o9, ho9, hF⟩ := ob_e hF
    refine x_callv (wr := ((h, .inr (5, [.ref (bA 0), .ref (bB 0), .ref aV, .int xN, .ref yt])) :: (aV, .inl (cyS, 4, .inr (.inr (.inr (.inr (fun i => some (bV i 0))))))) :: (wB cyI cyJ (bV 0) C0Z ++ (wB cyI cyJ (bV 1) C1Z ++ (wB cyI cyJ (bV 2) C2Z ++ []))))) (ws' := ((h, .inr (5, [.ref (bA 0), .ref (bB 0), .ref aV, .int xN, .ref yt])) :: (wB cyI cyJ bA AZ ++ ((aV, .inl (cyS, 4, .inr (.inr (.inr (.inr (fun i => some (bV i 0))))))) :: (wB cyI cyJ (bV 0) C0Z ++ (wB cyI cyJ (bV 1) C1Z ++ (wB cyI cyJ (bV 2) C2Z ++ (wB cyI cyJ (bV 3) o9 ++ [])))))))) (va_runVN (As := [.ref (bA 0)]) (rest := []) ⟨hx, hb, hml, hown, hts⟩ (c_X3_copyFrom l dC dI cyI cyJ cyB cyS cyD (bV 3 0) (bV 3 1) (bV 3 2) (bV 3 13) (bV 3 3) (bV 3 4) (bV 3 5) (bV 3 6) (bV 3 7) (bV 3 10) (bV 3 8) (bV 3 9) (bV 3 11) (bV 3 12) (bV 3 14) (bA 0) (bA 1) (bA 2) (bA 13) (bA 3) (bA 4) (bA 5) (bA 6) (bA 7) (bA 10) (bA 8) (bA 9) (bA 11) (bA 12) (bA 14) s.heap.size C3Z AZ ho9) ⟨va_cnB 1 hts gX5_saveState_X3_copyFrom_n159 rfl rfl rfl (nm_X5_159 hN) (hts _ kX5_saveState_10) (by decide +kernel) ⟨Nat.le_of_ble_eq_true rfl, Nat.le_of_ble_eq_true rfl⟩, hts _ kX5_saveState_9, hts _ kX5_saveState_11⟩ ⟨cPre_blind, va_recv hK hP (ci := 3) (q0 := 62) rfl rfl, x_pre hN hP hD hK [62, 63, 64, 65, 66, 67, 68, 69, 70, 71, 72, 73, 74, 75, 76, 1, 2, 3, 4, 5, 6, 7, 8, 9, 10, 11, 12, 13, 14, 15] rfl rfl⟩ rfl rfl hl.1 rfl (lv_room (Nat.le_of_ble_eq_true rfl)) dX5_saveState_25 ⟨Nat.le_of_ble_eq_true rfl, Nat.le_of_ble_eq_true rfl⟩) hP hD hS hA [62, 63, 64, 65, 66, 67, 68, 69, 70, 71, 72, 73, 74, 75, 76, 1, 2, 3, 4, 5, 6, 7, 8, 9, 10, 11, 12, 13, 14, 15] [0, 16, 17, 18, 19, 20, 21, 22, 23, 24, 25, 26, 27, 28, 29, 30, 31, 32, 33, 34, 35, 36, 37, 38, 39, 40, 41, 42, 43, 44, 45, 46, 47, 48, 49, 50, 51, 52, 53, 54, 55, 56, 57, 58, 59, 60, 61] [0, 62, 63, 64, 65, 66, 67, 68, 69, 70, 71, 72, 73, 74, 75, 76, 1, 2, 3, 4, 5, 6, 7, 8, 9, 10, 11, 12, 13, 14, 15, 16, 17, 18, 19, 20, 21, 22, 23, 24, 25, 26, 27, 28, 29, 30, 31, 32, 33, 34, 35, 36, 37, 38, 39, 40, 41, 42, 43, 44, 45, 46, 47, 48, 49, 50, 51, 52, 53, 54, 55, 56, 57, 58, 59, 60, 61] rfl rfl rfl (by decide) rfl rfl (fun H locs hP hD hS => ?_)
    refine lv_aload_n hx hb dX5_saveState_28 rfl (lv_at hl 0 rfl) ?_
    refine lv_dup hx hb dX5_saveState_29 rfl ?_
    refine va_get (D := (dC, dI)) (ci := 5) (v := .int xN) (C := RX5) (T := TX5) (N := 5) hx hb hts iX5_saveState_X5 hown hK hP 0 rfl rfl 3 (by decide) (hts _ kX5_saveState_1) (fun _ h9 => h9) rfl dX5_saveState_30 ?_
    refine lv_iconst (v := 1) hx hb dX5_saveState_33 (by decide) ?_
    refine lv_iadd hx hb dX5_saveState_34 ?_
    obtain ⟨v10, hv10, hF⟩ := lt_e hF
    refine x_topi hv10 ?_
    refine x_put (D := (dC, dI)) (ci := 5) (v := .int v10) (ty := .int) (C := RX5) (T := TX5) (N := 5) (ws' := ((h, .inr (5, [.ref (bA 0), .ref (bB 0), .ref aV, .int v10, .ref yt])) :: (wB cyI cyJ bA AZ ++ ((aV, .inl (cyS, 4, .inr (.inr (.inr (.inr (fun i => some (bV i 0))))))) :: (wB cyI cyJ (bV 0) C0Z ++ (wB cyI cyJ (bV 1) C1Z ++ (wB cyI cyJ (bV 2) C2Z ++ (wB cyI cyJ (bV 3) o9 ++ [])))))))) hx hb hts iX5_saveState_X5 tyX5 tyX5_ok nmX5 hown hK hP hD hS 0 rfl rfl 3 (by decide) (hts _ kX5_saveState_1) (fun _ h9 => h9) rfl (by decide +kernel) rfl rfl (Nat.le_of_ble_eq_true rfl) rfl dX5_saveState_35 (fun H locs hP hD hS => ?_)
    obtain rfl := some_e hF
    refine W.widen (k := 0) (n := 0) (Nat.le_of_ble_eq_true rfl) (Nat.le_of_ble_eq_true rfl) ?_
    exact vx_ret (W.vret hx hb hr (fun t ht hW => ⟨⟨((v10, C0Z, C1Z, C2Z, o9), bV), rfl, rfl, ⟨by rw [ht]; exact hP, va_K.moved hW.alike hK, hD⟩⟩, hS.F ht⟩) hS.2.2 dX5_saveState_38)
  · have hF := ite_f hF c1
    refine lv_aload_n hx hb dX5_saveState_8 rfl (lv_at hl 0 rfl) ?_
    obtain ⟨oo12, hoo12, hoo12k⟩ := obx_e hF
    refine x_xcallv (wr := (wB cyI cyJ bA AZ ++ [])) (ws' := fun o12 t13 => ((h, .inr (5, [.ref (bA 0), .ref (bB 0), .ref aV, .int o12.1, .ref yt])) :: (wB cyI cyJ bA AZ ++ ((aV, .inl (cyS, 4, .inr (.inr (.inr (.inr (fun i => some (t13 i 0))))))) :: (wB cyI cyJ (t13 0) o12.2.1 ++ (wB cyI cyJ (t13 1) o12.2.2.1 ++ (wB cyI cyJ (t13 2) o12.2.2.2.1 ++ (wB cyI cyJ (t13 3) o12.2.2.2.2 ++ [])))))))) hoo12k hlocks htab hK (vx_runV (As := []) (rest := []) ⟨hx, hb, hml, hown, hts⟩ (c_X5_dropOldestState l hfl dC dI cyI cyJ cyB cyS cyD h bA bB aV yt bV s.heap.size xN C0Z C1Z C2Z C3Z hoo12) (cwV 0 hts gX5_saveState_X5_dropOldestState rfl rfl rfl (by decide +kernel) ⟨Nat.le_of_ble_eq_true rfl, Nat.le_of_ble_eq_true rfl⟩) ⟨cPreX_blind, va_recv hK hP (ci := 5) (q0 := 0) rfl rfl, x_preX hN hZ hT hP hD hS hA hK [0, 16, 17, 18, 19, 20, 21, 22, 23, 24, 25, 26, 27, 28, 29, 30, 31, 32, 33, 34, 35, 36, 37, 38, 39, 40, 41, 42, 43, 44, 45, 46, 47, 48, 49, 50, 51, 52, 53, 54, 55, 56, 57, 58, 59, 60, 61, 62, 63, 64, 65, 66, 67, 68, 69, 70, 71, 72, 73, 74, 75, 76] rfl rfl⟩ rfl rfl hl.1 rfl (lv_room (Nat.le_of_ble_eq_true rfl)) dX5_saveState_9 ⟨Nat.le_of_ble_eq_true rfl, Nat.le_of_ble_eq_true rfl⟩) hP hD hS hA [0, 16, 17, 18, 19, 20, 21, 22, 23, 24, 25, 26, 27, 28, 29, 30, 31, 32, 33, 34, 35, 36, 37, 38, 39, 40, 41, 42, 43, 44, 45, 46, 47, 48, 49, 50, 51, 52, 53, 54, 55, 56, 57, 58, 59, 60, 61, 62, 63, 64, 65, 66, 67, 68, 69, 70, 71, 72, 73, 74, 75, 76] [1, 2, 3, 4, 5, 6, 7, 8, 9, 10, 11, 12, 13, 14, 15] [15, 0, 1, 2, 3, 4, 5, 6, 7, 8, 9, 10, 11, 12, 13, 14, 16, 17, 18, 19, 20, 21, 22, 23, 24, 25, 26, 27, 28, 29, 30, 31, 32, 33, 34, 35, 36, 37, 38, 39, 40, 41, 42, 43, 44, 45, 46, 47, 48, 49, 50, 51, 52, 53, 54, 55, 56, 57, 58, 59, 60, 61, 62, 63, 64, 65, 66, 67, 68, 69, 70, 71, 72, 73, 74, 75, 76] rfl rfl rfl (by decide) rfl (fun _ _ => rfl) rfl (Nat.le_of_ble_eq_true rfl) (Nat.le_of_ble_eq_true rfl) (fun o12 t13 H locs hF hP hD hS => ?_)
    refine lv_aload_n hx hb dX5_saveState_12 rfl (lv_at hl 0 rfl) ?_
    refine va_get (D := (dC, dI)) (ci := 5) (v := .ref aV) (C := RX5) (T := TX5) (N := 5) hx hb hts iX5_saveState_X5 hown hK hP 0 rfl rfl 2 (by decide) (hts _ kX5_saveState_2) (fun _ h9 => h9) rfl dX5_saveState_13 ?_
    refine lv_aload_n hx hb dX5_saveState_16 rfl (lv_at hl 0 rfl) ?_
    refine va_get (D := (dC, dI)) (ci := 5) (v := .int o12.1) (C := RX5) (T := TX5) (N := 5) hx hb hts iX5_saveState_X5 hown hK hP 0 rfl rfl 3 (by decide) (hts _ kX5_saveState_1) (fun _ h9 => h9) rfl dX5_saveState_17 ?_
    obtain ⟨g14, hF⟩ := ck_e hF
    by_cases c23 : (o12.1 : Int32) = 0
    · have hF := ite_t hF c23
      refine x_aldq (k := 0) (v := (t13 0 0)) hx hb hK hP 16 3 rfl rfl (by rw [c23]; decide) g14 rfl dX5_saveState_20 ?_
      refine lv_aload_n hx hb dX5_saveState_21 rfl (lv_at hl 0 rfl) ?_
      refine va_get (D := (dC, dI)) (ci := 5) (v := .ref (bA 0)) (C := RX5) (T := TX5) (N := 5) hx hb hts iX5_saveState_X5 hown hK hP 0 rfl rfl 0 (by decide) (hts _ kX5_saveState_3) (fun _ h9 => h9) rfl dX5_saveState_22 ?_
      obtain ⟨o15, ho15, hF⟩ := ob_e hF
      refine x_callv (wr := ((h, .inr (5, [.ref (bA 0), .ref (bB 0), .ref aV, .int o12.1, .ref yt])) :: (aV, .inl (cyS, 4, .inr (.inr (.inr (.inr (fun i => some (t13 i 0))))))) :: (wB cyI cyJ (t13 1) o12.2.2.1 ++ (wB cyI cyJ (t13 2) o12.2.2.2.1 ++ (wB cyI cyJ (t13 3) o12.2.2.2.2 ++ []))))) (ws' := ((h, .inr (5, [.ref (bA 0), .ref (bB 0), .ref aV, .int o12.1, .ref yt])) :: (wB cyI cyJ bA AZ ++ ((aV, .inl (cyS, 4, .inr (.inr (.inr (.inr (fun i => some (t13 i 0))))))) :: (wB cyI cyJ (t13 0) o15 ++ (wB cyI cyJ (t13 1) o12.2.2.1 ++ (wB cyI cyJ (t13 2) o12.2.2.2.1 ++ (wB cyI cyJ (t13 3) o12.2.2.2.2 ++ [])))))))) (va_runVN (As := [.ref (bA 0)]) (rest := []) ⟨hx, hb, hml, hown, hts⟩ (c_X3_copyFrom l dC dI cyI cyJ cyB cyS cyD (t13 0 0) (t13 0 1) (t13 0 2) (t13 0 13) (t13 0 3) (t13 0 4) (t13 0 5) (t13 0 6) (t13 0 7) (t13 0 10) (t13 0 8) (t13 0 9) (t13 0 11) (t13 0 12) (t13 0 14) (bA 0) (bA 1) (bA 2) (bA 13) (bA 3) (bA 4) (bA 5) (bA 6) (bA 7) (bA 10) (bA 8) (bA 9) (bA 11) (bA 12) (bA 14) H.size o12.2.1 AZ ho15) ⟨va_cnB 1 hts gX5_saveState_X3_copyFrom_n159 rfl rfl rfl (nm_X5_159 hN) (hts _ kX5_saveState_10) (by decide +kernel) ⟨Nat.le_of_ble_eq_true rfl, Nat.le_of_ble_eq_true rfl⟩, hts _ kX5_saveState_9, hts _ kX5_saveState_11⟩ ⟨cPre_blind, va_recv hK hP (ci := 3) (q0 := 17) rfl rfl, x_pre hN hP hD hK [17, 18, 19, 20, 21, 22, 23, 24, 25, 26, 27, 28, 29, 30, 31, 1, 2, 3, 4, 5, 6, 7, 8, 9, 10, 11, 12, 13, 14, 15] rfl rfl⟩ rfl rfl hl.1 rfl (lv_room (Nat.le_of_ble_eq_true rfl)) dX5_saveState_25 ⟨Nat.le_of_ble_eq_true rfl, Nat.le_of_ble_eq_true rfl⟩) hP hD hS hA [17, 18, 19, 20, 21, 22, 23, 24, 25, 26, 27, 28, 29, 30, 31, 1, 2, 3, 4, 5, 6, 7, 8, 9, 10, 11, 12, 13, 14, 15] [0, 16, 32, 33, 34, 35, 36, 37, 38, 39, 40, 41, 42, 43, 44, 45, 46, 47, 48, 49, 50, 51, 52, 53, 54, 55, 56, 57, 58, 59, 60, 61, 62, 63, 64, 65, 66, 67, 68, 69, 70, 71, 72, 73, 74, 75, 76] [0, 62, 63, 64, 65, 66, 67, 68, 69, 70, 71, 72, 73, 74, 75, 76, 1, 47, 48, 49, 50, 51, 52, 53, 54, 55, 56, 57, 58, 59, 60, 61, 2, 3, 4, 5, 6, 7, 8, 9, 10, 11, 12, 13, 14, 15, 16, 17, 18, 19, 20, 21, 22, 23, 24, 25, 26, 27, 28, 29, 30, 31, 32, 33, 34, 35, 36, 37, 38, 39, 40, 41, 42, 43, 44, 45, 46] rfl rfl rfl (by decide) rfl rfl (fun H locs hP hD hS => ?_)
      refine lv_aload_n hx hb dX5_saveState_28 rfl (lv_at hl 0 rfl) ?_
      refine lv_dup hx hb dX5_saveState_29 rfl ?_
      refine va_get (D := (dC, dI)) (ci := 5) (v := .int o12.1) (C := RX5) (T := TX5) (N := 5) hx hb hts iX5_saveState_X5 hown hK hP 0 rfl rfl 3 (by decide) (hts _ kX5_saveState_1) (fun _ h9 => h9) rfl dX5_saveState_30 ?_
      refine lv_iconst (v := 1) hx hb dX5_saveState_33 (by decide) ?_
      refine lv_iadd hx hb dX5_saveState_34 ?_
      obtain ⟨v16, hv16, hF⟩ := lt_e hF
      refine x_topi hv16 ?_
      refine x_put (D := (dC, dI)) (ci := 5) (v := .int v16) (ty := .int) (C := RX5) (T := TX5) (N := 5) (ws' := ((h, .inr (5, [.ref (bA 0), .ref (bB 0), .ref aV, .int v16, .ref yt])) :: (wB cyI cyJ bA AZ ++ ((aV, .inl (cyS, 4, .inr (.inr (.inr (.inr (fun i => some (t13 i 0))))))) :: (wB cyI cyJ (t13 0) o15 ++ (wB cyI cyJ (t13 1) o12.2.2.1 ++ (wB cyI cyJ (t13 2) o12.2.2.2.1 ++ (wB cyI cyJ (t13 3) o12.2.2.2.2 ++ [])))))))) hx hb hts iX5_saveState_X5 tyX5 tyX5_ok nmX5 hown hK hP hD hS 0 rfl rfl 3 (by decide) (hts _ kX5_saveState_1) (fun _ h9 => h9) rfl (by decide +kernel) rfl rfl (Nat.le_of_ble_eq_true rfl) rfl dX5_saveState_35 (fun H locs hP hD hS => ?_)
      obtain rfl := some_e hF
      refine W.widen (k := 0) (n := 0) (Nat.le_of_ble_eq_true rfl) (Nat.le_of_ble_eq_true rfl) ?_
      exact vx_ret (W.vret hx hb hr (fun t ht hW => ⟨⟨((v16, o15, o12.2.2.1, o12.2.2.2.1, o12.2.2.2.2), t13), rfl, rfl, ⟨by rw [ht]; exact hP, va_K.moved hW.alike hK, hD⟩⟩, hS.F ht⟩) hS.2.2 dX5_saveState_38)
    have hF := ite_f hF c23
    have nc23_0 := c23
    by_cases c23 : (o12.1 : Int32) = 1
    · have hF := ite_t hF c23
      refine x_aldq (k := 1) (v := (t13 1 0)) hx hb hK hP 16 3 rfl rfl (by rw [c23]; decide) g14 rfl dX5_saveState_20 ?_
      refine lv_aload_n hx hb dX5_saveState_21 rfl (lv_at hl 0 rfl) ?_
      refine va_get (D := (dC, dI)) (ci := 5) (v := .ref (bA 0)) (C := RX5) (T := TX5) (N := 5) hx hb hts iX5_saveState_X5 hown hK hP 0 rfl rfl 0 (by decide) (hts _ kX5_saveState_3) (fun _ h9 => h9) rfl dX5_saveState_22 ?_
      obtain ⟨o17, ho17, hF⟩ := ob_e hF
      refine x_callv (wr := ((h, .inr (5, [.ref (bA 0), .ref (bB 0), .ref aV, .int o12.1, .ref yt])) :: (aV, .inl (cyS, 4, .inr (.inr (.inr (.inr (fun i => some (t13 i 0))))))) :: (wB cyI cyJ (t13 0) o12.2.1 ++ (wB cyI cyJ (t13 2) o12.2.2.2.1 ++ (wB cyI cyJ (t13 3) o12.2.2.2.2 ++ []))))) (ws' := ((h, .inr (5, [.ref (bA 0), .ref (bB 0), .ref aV, .int o12.1, .ref yt])) :: (wB cyI cyJ bA AZ ++ ((aV, .inl (cyS, 4, .inr (.inr (.inr (.inr (fun i => some (t13 i 0))))))) :: (wB cyI cyJ (t13 0) o12.2.1 ++ (wB cyI cyJ (t13 1) o17 ++ (wB cyI cyJ (t13 2) o12.2.2.2.1 ++ (wB cyI cyJ (t13 3) o12.2.2.2.2 ++ [])))))))) (va_runVN (As := [.ref (bA 0)]) (rest := []) ⟨hx, hb, hml, hown, hts⟩ (c_X3_copyFrom l dC dI cyI cyJ cyB cyS cyD (t13 1 0) (t13 1 1) (t13 1 2) (t13 1 13) (t13 1 3) (t13 1 4) (t13 1 5) (t13 1 6) (t13 1 7) (t13 1 10) (t13 1 8) (t13 1 9) (t13 1 11) (t13 1 12) (t13 1 14) (bA 0) (bA 1) (bA 2) (bA 13) (bA 3) (bA 4) (bA 5) (bA 6) (bA 7) (bA 10) (bA 8) (bA 9) (bA 11) (bA 12) (bA 14) H.size o12.2.2.1 AZ ho17) ⟨va_cnB 1 hts gX5_saveState_X3_copyFrom_n159 rfl rfl rfl (nm_X5_159 hN) (hts _ kX5_saveState_10) (by decide +kernel) ⟨Nat.le_of_ble_eq_true rfl, Nat.le_of_ble_eq_true rfl⟩, hts _ kX5_saveState_9, hts _ kX5_saveState_11⟩ ⟨cPre_blind, va_recv hK hP (ci := 3) (q0 := 32) rfl rfl, x_pre hN hP hD hK [32, 33, 34, 35, 36, 37, 38, 39, 40, 41, 42, 43, 44, 45, 46, 1, 2, 3, 4, 5, 6, 7, 8, 9, 10, 11, 12, 13, 14, 15] rfl rfl⟩ rfl rfl hl.1 rfl (lv_room (Nat.le_of_ble_eq_true rfl)) dX5_saveState_25 ⟨Nat.le_of_ble_eq_true rfl, Nat.le_of_ble_eq_true rfl⟩) hP hD hS hA [32, 33, 34, 35, 36, 37, 38, 39, 40, 41, 42, 43, 44, 45, 46, 1, 2, 3, 4, 5, 6, 7, 8, 9, 10, 11, 12, 13, 14, 15] [0, 16, 17, 18, 19, 20, 21, 22, 23, 24, 25, 26, 27, 28, 29, 30, 31, 47, 48, 49, 50, 51, 52, 53, 54, 55, 56, 57, 58, 59, 60, 61, 62, 63, 64, 65, 66, 67, 68, 69, 70, 71, 72, 73, 74, 75, 76] [0, 62, 63, 64, 65, 66, 67, 68, 69, 70, 71, 72, 73, 74, 75, 76, 1, 2, 3, 4, 5, 6, 7, 8, 9, 10, 11, 12, 13, 14, 15, 16, 47, 48, 49, 50, 51, 52, 53, 54, 55, 56, 57, 58, 59, 60, 61, 17, 18, 19, 20, 21, 22, 23, 24, 25, 26, 27, 28, 29, 30, 31, 32, 33, 34, 35, 36, 37, 38, 39, 40, 41, 42, 43, 44, 45, 46] rfl rfl rfl (by decide) rfl rfl (fun H locs hP hD hS => ?_)
      refine lv_aload_n hx hb dX5_saveState_28 rfl (lv_at hl 0 rfl) ?_
      refine lv_dup hx hb dX5_saveState_29 rfl ?_
      refine va_get (D := (dC, dI)) (ci := 5) (v := .int o12.1) (C := RX5) (T := TX5) (N := 5) hx hb hts iX5_saveState_X5 hown hK hP 0 rfl rfl 3 (by decide) (hts _ kX5_saveState_1) (fun _ h9 => h9) rfl dX5_saveState_30 ?_
      refine lv_iconst (v := 1) hx hb dX5_saveState_33 (by decide) ?_
      refine lv_iadd hx hb dX5_saveState_34 ?_
      obtain ⟨v18, hv18, hF⟩ := lt_e hF
      refine x_topi hv18 ?_
      refine x_put (D := (dC, dI)) (ci := 5) (v := .int v18) (ty := .int) (C := RX5) (T := TX5) (N := 5) (ws' := ((h, .inr (5, [.ref (bA 0), .ref (bB 0), .ref aV, .int v18, .ref yt])) :: (wB cyI cyJ bA AZ ++ ((aV, .inl (cyS, 4, .inr (.inr (.inr (.inr (fun i => some (t13 i 0))))))) :: (wB cyI cyJ (t13 0) o12.2.1 ++ (wB cyI cyJ (t13 1) o17 ++ (wB cyI cyJ (t13 2) o12.2.2.2.1 ++ (wB cyI cyJ (t13 3) o12.2.2.2.2 ++ [])))))))) hx hb hts iX5_saveState_X5 tyX5 tyX5_ok nmX5 hown hK hP hD hS 0 rfl rfl 3 (by decide) (hts _ kX5_saveState_1) (fun _ h9 => h9) rfl (by decide +kernel) rfl rfl (Nat.le_of_ble_eq_true rfl) rfl dX5_saveState_35 (fun H locs hP hD hS => ?_)
      obtain rfl := some_e hF
      refine W.widen (k := 0) (n := 0) (Nat.le_of_ble_eq_true rfl) (Nat.le_of_ble_eq_true rfl) ?_
      exact vx_ret (W.vret hx hb hr (fun t ht hW => ⟨⟨((v18, o12.2.1, o17, o12.2.2.2.1, o12.2.2.2.2), t13), rfl, rfl, ⟨by rw [ht]; exact hP, va_K.moved hW.alike hK, hD⟩⟩, hS.F ht⟩) hS.2.2 dX5_saveState_38)
    have hF := ite_f hF c23
    have nc23_1 := c23
    by_cases c23 : (o12.1 : Int32) = 2
    · have hF := ite_t hF c23
      refine x_aldq (k := 2) (v := (t13 2 0)) hx hb hK hP 16 3 rfl rfl (by rw [c23]; decide) g14 rfl dX5_saveState_20 ?_
      refine lv_aload_n hx hb dX5_saveState_21 rfl (lv_at hl 0 rfl) ?_
      refine va_get (D := (dC, dI)) (ci := 5) (v := .ref (bA 0)) (C := RX5) (T := TX5) (N := 5) hx hb hts iX5_saveState_X5 hown hK hP 0 rfl rfl 0 (by decide) (hts _ kX5_saveState_3) (fun _ h9 => h9) rfl dX5_saveState_22 ?_
      obtain ⟨o19, ho19, hF⟩ := ob_e hF
      refine x_callv (wr := ((h, .inr (5, [.ref (bA 0), .ref (bB 0), .ref aV, .int o12.1, .ref yt])) :: (aV, .inl (cyS, 4, .inr (.inr (.inr (.inr (fun i => some (t13 i 0))))))) :: (wB cyI cyJ (t13 0) o12.2.1 ++ (wB cyI cyJ (t13 1) o12.2.2.1 ++ (wB cyI cyJ (t13 3) o12.2.2.2.2 ++ []))))) (ws' := ((h, .inr (5, [.ref (bA 0), .ref (bB 0), .ref aV, .int o12.1, .ref yt])) :: (wB cyI cyJ bA AZ ++ ((aV, .inl (cyS, 4, .inr (.inr (.inr (.inr (fun i => some (t13 i 0))))))) :: (wB cyI cyJ (t13 0) o12.2.1 ++ (wB cyI cyJ (t13 1) o12.2.2.1 ++ (wB cyI cyJ (t13 2) o19 ++ (wB cyI cyJ (t13 3) o12.2.2.2.2 ++ [])))))))) (va_runVN (As := [.ref (bA 0)]) (rest := []) ⟨hx, hb, hml, hown, hts⟩ (c_X3_copyFrom l dC dI cyI cyJ cyB cyS cyD (t13 2 0) (t13 2 1) (t13 2 2) (t13 2 13) (t13 2 3) (t13 2 4) (t13 2 5) (t13 2 6) (t13 2 7) (t13 2 10) (t13 2 8) (t13 2 9) (t13 2 11) (t13 2 12) (t13 2 14) (bA 0) (bA 1) (bA 2) (bA 13) (bA 3) (bA 4) (bA 5) (bA 6) (bA 7) (bA 10) (bA 8) (bA 9) (bA 11) (bA 12) (bA 14) H.size o12.2.2.2.1 AZ ho19) ⟨va_cnB 1 hts gX5_saveState_X3_copyFrom_n159 rfl rfl rfl (nm_X5_159 hN) (hts _ kX5_saveState_10) (by decide +kernel) ⟨Nat.le_of_ble_eq_true rfl, Nat.le_of_ble_eq_true rfl⟩, hts _ kX5_saveState_9, hts _ kX5_saveState_11⟩ ⟨cPre_blind, va_recv hK hP (ci := 3) (q0 := 47) rfl rfl, x_pre hN hP hD hK [47, 48, 49, 50, 51, 52, 53, 54, 55, 56, 57, 58, 59, 60, 61, 1, 2, 3, 4, 5, 6, 7, 8, 9, 10, 11, 12, 13, 14, 15] rfl rfl⟩ rfl rfl hl.1 rfl (lv_room (Nat.le_of_ble_eq_true rfl)) dX5_saveState_25 ⟨Nat.le_of_ble_eq_true rfl, Nat.le_of_ble_eq_true rfl⟩) hP hD hS hA [47, 48, 49, 50, 51, 52, 53, 54, 55, 56, 57, 58, 59, 60, 61, 1, 2, 3, 4, 5, 6, 7, 8, 9, 10, 11, 12, 13, 14, 15] [0, 16, 17, 18, 19, 20, 21, 22, 23, 24, 25, 26, 27, 28, 29, 30, 31, 32, 33, 34, 35, 36, 37, 38, 39, 40, 41, 42, 43, 44, 45, 46, 62, 63, 64, 65, 66, 67, 68, 69, 70, 71, 72, 73, 74, 75, 76] [0, 62, 63, 64, 65, 66, 67, 68, 69, 70, 71, 72, 73, 74, 75, 76, 1, 2, 3, 4, 5, 6, 7, 8, 9, 10, 11, 12, 13, 14, 15, 16, 17, 18, 19, 20, 21, 22, 23, 24, 25, 26, 27, 28, 29, 30, 31, 47, 48, 49, 50, 51, 52, 53, 54, 55, 56, 57, 58, 59, 60, 61, 32, 33, 34, 35, 36, 37, 38, 39, 40, 41, 42, 43, 44, 45, 46] rfl rfl rfl (by decide) rfl rfl (fun H locs hP hD hS => ?_)
      refine lv_aload_n hx hb dX5_saveState_28 rfl (lv_at hl 0 rfl) ?_
      refine lv_dup hx hb dX5_saveState_29 rfl ?_
      refine va_get (D := (dC, dI)) (ci := 5) (v := .int o12.1) (C := RX5) (T := TX5) (N := 5) hx hb hts iX5_saveState_X5 hown hK hP 0 rfl rfl 3 (by decide) (hts _ kX5_saveState_1) (fun _ h9 => h9) rfl dX5_saveState_30 ?_
      refine lv_iconst (v := 1) hx hb dX5_saveState_33 (by decide) ?_
      refine lv_iadd hx hb dX5_saveState_34 ?_
      obtain ⟨v20, hv20, hF⟩ := lt_e hF
      refine x_topi hv20 ?_
      refine x_put (D := (dC, dI)) (ci := 5) (v := .int v20) (ty := .int) (C := RX5) (T := TX5) (N := 5) (ws' := ((h, .inr (5, [.ref (bA 0), .ref (bB 0), .ref aV, .int v20, .ref yt])) :: (wB cyI cyJ bA AZ ++ ((aV, .inl (cyS, 4, .inr (.inr (.inr (.inr (fun i => some (t13 i 0))))))) :: (wB cyI cyJ (t13 0) o12.2.1 ++ (wB cyI cyJ (t13 1) o12.2.2.1 ++ (wB cyI cyJ (t13 2) o19 ++ (wB cyI cyJ (t13 3) o12.2.2.2.2 ++ [])))))))) hx hb hts iX5_saveState_X5 tyX5 tyX5_ok nmX5 hown hK hP hD hS 0 rfl rfl 3 (by decide) (hts _ kX5_saveState_1) (fun _ h9 => h9) rfl (by decide +kernel) rfl rfl (Nat.le_of_ble_eq_true rfl) rfl dX5_saveState_35 (fun H locs hP hD hS => ?_)
      obtain rfl := some_e hF
      refine W.widen (k := 0) (n := 0) (Nat.le_of_ble_eq_true rfl) (Nat.le_of_ble_eq_true rfl) ?_
      exact vx_ret (W.vret hx hb hr (fun t ht hW => ⟨⟨((v20, o12.2.1, o12.2.2.1, o19, o12.2.2.2.2), t13), rfl, rfl, ⟨by rw [ht]; exact hP, va_K.moved hW.alike hK, hD⟩⟩, hS.F ht⟩) hS.2.2 dX5_saveState_38)
    have hF := ite_f hF c23
    have nc23_2 := c23
    have c23 := inb4 g14 nc23_0 nc23_1 nc23_2
    refine x_aldq (k := 3) (v := (t13 3 0)) hx hb hK hP 16 3 rfl rfl (by rw [c23]; decide) g14 rfl dX5_saveState_20 ?_
    refine lv_aload_n hx hb dX5_saveState_21 rfl (lv_at hl 0 rfl) ?_
    refine va_get (D := (dC, dI)) (ci := 5) (v := .ref (bA 0)) (C := RX5) (T := TX5) (N := 5) hx hb hts iX5_saveState_X5 hown hK hP 0 rfl rfl 0 (by decide) (hts _ kX5_saveState_3) (fun _ h9 => h9) rfl dX5_saveState_22 ?_
    obtain ⟨o21, ho21, hF⟩ := ob_e hF
    refine x_callv (wr := ((h, .inr (5, [.ref (bA 0), .ref (bB 0), .ref aV, .int o12.1, .ref yt])) :: (aV, .inl (cyS, 4, .inr (.inr (.inr (.inr (fun i => some (t13 i 0))))))) :: (wB cyI cyJ (t13 0) o12.2.1 ++ (wB cyI cyJ (t13 1) o12.2.2.1 ++ (wB cyI cyJ (t13 2) o12.2.2.2.1 ++ []))))) (ws' := ((h, .inr (5, [.ref (bA 0), .ref (bB 0), .ref aV, .int o12.1, .ref yt])) :: (wB cyI cyJ bA AZ ++ ((aV, .inl (cyS, 4, .inr (.inr (.inr (.inr (fun i => some (t13 i 0))))))) :: (wB cyI cyJ (t13 0) o12.2.1 ++ (wB cyI cyJ (t13 1) o12.2.2.1 ++ (wB cyI cyJ (t13 2) o12.2.2.2.1 ++ (wB cyI cyJ (t13 3) o21 ++ [])))))))) (va_runVN (As := [.ref (bA 0)]) (rest := []) ⟨hx, hb, hml, hown, hts⟩ (c_X3_copyFrom l dC dI cyI cyJ cyB cyS cyD (t13 3 0) (t13 3 1) (t13 3 2) (t13 3 13) (t13 3 3) (t13 3 4) (t13 3 5) (t13 3 6) (t13 3 7) (t13 3 10) (t13 3 8) (t13 3 9) (t13 3 11) (t13 3 12) (t13 3 14) (bA 0) (bA 1) (bA 2) (bA 13) (bA 3) (bA 4) (bA 5) (bA 6) (bA 7) (bA 10) (bA 8) (bA 9) (bA 11) (bA 12) (bA 14) H.size o12.2.2.2.2 AZ ho21) ⟨va_cnB 1 hts gX5_saveState_X3_copyFrom_n159 rfl rfl rfl (nm_X5_159 hN) (hts _ kX5_saveState_10) (by decide +kernel) ⟨Nat.le_of_ble_eq_true rfl, Nat.le_of_ble_eq_true rfl⟩, hts _ kX5_saveState_9, hts _ kX5_saveState_11⟩ ⟨cPre_blind, va_recv hK hP (ci := 3) (q0 := 62) rfl rfl, x_pre hN hP hD hK [62, 63, 64, 65, 66, 67, 68, 69, 70, 71, 72, 73, 74, 75, 76, 1, 2, 3, 4, 5, 6, 7, 8, 9, 10, 11, 12, 13, 14, 15] rfl rfl⟩ rfl rfl hl.1 rfl (lv_room (Nat.le_of_ble_eq_true rfl)) dX5_saveState_25 ⟨Nat.le_of_ble_eq_true rfl, Nat.le_of_ble_eq_true rfl⟩) hP hD hS hA [62, 63, 64, 65, 66, 67, 68, 69, 70, 71, 72, 73, 74, 75, 76, 1, 2, 3, 4, 5, 6, 7, 8, 9, 10, 11, 12, 13, 14, 15] [0, 16, 17, 18, 19, 20, 21, 22, 23, 24, 25, 26, 27, 28, 29, 30, 31, 32, 33, 34, 35, 36, 37, 38, 39, 40, 41, 42, 43, 44, 45, 46, 47, 48, 49, 50, 51, 52, 53, 54, 55, 56, 57, 58, 59, 60, 61] [0, 62, 63, 64, 65, 66, 67, 68, 69, 70, 71, 72, 73, 74, 75, 76, 1, 2, 3, 4, 5, 6, 7, 8, 9, 10, 11, 12, 13, 14, 15, 16, 17, 18, 19, 20, 21, 22, 23, 24, 25, 26, 27, 28, 29, 30, 31, 32, 33, 34, 35, 36, 37, 38, 39, 40, 41, 42, 43, 44, 45, 46, 47, 48, 49, 50, 51, 52, 53, 54, 55, 56, 57, 58, 59, 60, 61] rfl rfl rfl (by decide) rfl rfl (fun H locs hP hD hS => ?_)
    refine lv_aload_n hx hb dX5_saveState_28 rfl (lv_at hl 0 rfl) ?_
    refine lv_dup hx hb dX5_saveState_29 rfl ?_
    refine va_get (D := (dC, dI)) (ci := 5) (v := .int o12.1) (C := RX5) (T := TX5) (N := 5) hx hb hts iX5_saveState_X5 hown hK hP 0 rfl rfl 3 (by decide) (hts _ kX5_saveState_1) (fun _ h9 => h9) rfl dX5_saveState_30 ?_
    refine lv_iconst (v := 1) hx hb dX5_saveState_33 (by decide) ?_
    refine lv_iadd hx hb dX5_saveState_34 ?_
    obtain ⟨v22, hv22, hF⟩ := lt_e hF
    refine x_topi hv22 ?_
    refine x_put (D := (dC, dI)) (ci := 5) (v := .int v22) (ty := .int) (C := RX5) (T := TX5) (N := 5) (ws' := ((h, .inr (5, [.ref (bA 0), .ref (bB 0), .ref aV, .int v22, .ref yt])) :: (wB cyI cyJ bA AZ ++ ((aV, .inl (cyS, 4, .inr (.inr (.inr (.inr (fun i => some (t13 i 0))))))) :: (wB cyI cyJ (t13 0) o12.2.1 ++ (wB cyI cyJ (t13 1) o12.2.2.1 ++ (wB cyI cyJ (t13 2) o12.2.2.2.1 ++ (wB cyI cyJ (t13 3) o21 ++ [])))))))) hx hb hts iX5_saveState_X5 tyX5 tyX5_ok nmX5 hown hK hP hD hS 0 rfl rfl 3 (by decide) (hts _ kX5_saveState_1) (fun _ h9 => h9) rfl (by decide +kernel) rfl rfl (Nat.le_of_ble_eq_true rfl) rfl dX5_saveState_35 (fun H locs hP hD hS => ?_)
    obtain rfl := some_e hF
    refine W.widen (k := 0) (n := 0) (Nat.le_of_ble_eq_true rfl) (Nat.le_of_ble_eq_true rfl) ?_
    exact vx_ret (W.vret hx hb hr (fun t ht hW => ⟨⟨((v22, o12.2.1, o12.2.2.1, o12.2.2.2.1, o21), t13), rfl, rfl, ⟨by rw [ht]; exact hP, va_K.moved hW.alike hK, hD⟩⟩, hS.F ht⟩) hS.2.2 dX5_saveState_38)
