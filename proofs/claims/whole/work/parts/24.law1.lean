def F_L_set (xN : Int32) (AZ : ST) (C0Z : ST) (C1Z : ST) (C2Z : ST) (C3Z : ST) (vO : Nat → Int64) (w2 : Int32) (w3 : Int32) (vLe : Nat → Int32) (vMo : Nat → Int32) : Option (Int32 × Int32 × ST × ST × ST × ST × ST × (Nat → Int64)) := obl (F_X5_set xN AZ C0Z C1Z C2Z C3Z w2 w3 vLe vMo) (fun o1 => lt_ (α := Nat → Int64) (vp_updL vO 0 o1.1.toInt64) (fun v3 => some (0, o1.2.1, o1.2.2.1, o1.2.2.2.1, o1.2.2.2.2.1, o1.2.2.2.2.2.1, o1.2.2.2.2.2.2, v3))) (fun E9 => ck (E9 = xIAE) (some (1, xN, AZ, C0Z, C1Z, C2Z, C3Z, vO)))
theorem kL_set_1 : (Cond.classLink RL 13 "java/lang/IllegalArgumentException") ∈ wsL_set := List.mem_of_getElem? (i := 1) rfl
set_option maxHeartbeats 4000000 in
set_option maxRecDepth 100000 in
theorem c_L_set (l : Launch) (hfl : l.stackTraces = false) (dC : Nat → ClassId) (dI : Nat → Nat → Nat) (cyI cyJ cyB cyS cyD : ClassId) (aLe aMo : Nat) (vLe vMo : Nat → Int32) (h : Nat) (bA : Nat → Nat) (bB : Nat → Nat) (aV : Nat) (yt : Nat) (bV : Nat → Nat → Nat) (aO : Nat) (sz : Nat) (xN : Int32) (AZ : ST) (C0Z : ST) (C1Z : ST) (C2Z : ST) (C3Z : ST) (vO : Nat → Int64) (w2 : Int32) (w3 : Int32) {out : Int32 × Int32 × ST × ST × ST × ST × ST × (Nat → Int64)} (hF : F_L_set xN AZ C0Z C1Z C2Z C3Z vO w2 w3 vLe vMo = some out) : LiG aLe aMo vLe vMo l yL_set wsL_set ({ frames := 8, cells := 2, slots := 12, locals := 186 } : Room) (dC, dI) [(cyI, .int), (cyJ, .long), (cyB, .byte), (cyS, .object "SelfTuner$State"), (cyD, .double)] sz [.ref h, .int w2, .int w3, .ref aO] ((h, .inr (5, [.ref (bA 0), .ref (bB 0), .ref aV, .int xN, .ref yt])) :: (wB cyI cyJ bA AZ ++ ((aV, .inl (cyS, 4, .inr (.inr (.inr (.inr (fun i => some (bV i 0))))))) :: (wB cyI cyJ (bV 0) C0Z ++ (wB cyI cyJ (bV 1) C1Z ++ (wB cyI cyJ (bV 2) C2Z ++ (wB cyI cyJ (bV 3) C3Z ++ [(aO, .inl (cyJ, 1, .inr (.inl vO)))]))))))) out.1 (fun (bV : Nat → Nat → Nat) => ((h, .inr (5, [.ref (bA 0), .ref (bB 0), .ref aV, .int out.2.1, .ref yt])) :: (wB cyI cyJ bA out.2.2.1 ++ ((aV, .inl (cyS, 4, .inr (.inr (.inr (.inr (fun i => some (bV i 0))))))) :: (wB cyI cyJ (bV 0) out.2.2.2.1 ++ (wB cyI cyJ (bV 1) out.2.2.2.2.1 ++ (wB cyI cyJ (bV 2) out.2.2.2.2.2.1 ++ (wB cyI cyJ (bV 3) out.2.2.2.2.2.2.1 ++ [(aO, .inl (cyJ, 1, .inr (.inl out.2.2.2.2.2.2.2)))])))))))) 2 12 := by
  refine va_MetW (cc := cL_set) (maxL := 5) (ret := (some .int)) (hh := [(0, 10, 13, 13)]) (by decide) rfl ?_
  intro p e s m args below meth c s₁ B hml hv
  obtain ⟨rfl, ⟨⟨hN, hsz, hP, hK, hD0⟩, hZ, hT⟩, hG⟩ := hv
  have hx := B.exec
  have hb := B.bytes
  have hr := B.returns
  have hts := atoms_spec (ws := wsL_set) B.pre
  have hown : s.vm.findClass RL = some m.cls := findClass_of_methodNamed B.named
  have hlocks := B.notSynchronized
  subst hsz
  have hD := hD0.self (sz := s.heap.size)
  generalize hAe : va_A ((h, .inr (5, [.ref (bA 0), .ref (bB 0), .ref aV, .int xN, .ref yt])) :: (wB cyI cyJ bA AZ ++ ((aV, .inl (cyS, 4, .inr (.inr (.inr (.inr (fun i => some (bV i 0))))))) :: (wB cyI cyJ (bV 0) C0Z ++ (wB cyI cyJ (bV 1) C1Z ++ (wB cyI cyJ (bV 2) C2Z ++ (wB cyI cyJ (bV 3) C3Z ++ [(aO, .inl (cyJ, 1, .inr (.inl vO)))]))))))) s.heap.size = A at hD hZ hG ⊢
  have hA : ∀ q : Nat, s.heap.size ≤ q → A q := fun q h => by rw [← hAe]; exact Or.inr h
  have hS : va_S A s.heap s.heap [] := va_S.rf
  have hP : va_P (dC, dI) vwCl ((h, .inr (5, [.ref (bA 0), .ref (bB 0), .ref aV, .int xN, .ref yt])) :: (wB cyI cyJ bA AZ ++ ((aV, .inl (cyS, 4, .inr (.inr (.inr (.inr (fun i => some (bV i 0))))))) :: (wB cyI cyJ (bV 0) C0Z ++ (wB cyI cyJ (bV 1) C1Z ++ (wB cyI cyJ (bV 2) C2Z ++ (wB cyI cyJ (bV 3) C3Z ++ [(aO, .inl (cyJ, 1, .inr (.inl vO)))]))))))) s.heap := hP
  have hl := lv_entry ([.ref h, .int w2, .int w3, .ref aO]) (n := 5) (Nat.le_of_ble_eq_true rfl)
  rw [lg_entry_eq]
  generalize (lg_sl ([.ref h, .int w2, .int w3, .ref aO]) ++ List.replicate (5 - (lg_sl ([.ref h, .int w2, .int w3, .ref aO])).length) Slot.unset).toArray = ls at hl ⊢
  have hl : lv_has ls 5 [(0, .ref h), (1, .int w2), (2, .int w3), (3, .ref aO)] := hl
  have htb := vx_table (x := yL_set) B (hts _ List.mem_cons_self)
  unfold F_L_set at hF
  refine lv_aload_n hx hb dL_set_0 rfl (lv_at hl 3 rfl) ?_
  refine lv_iconst (v := 0) hx hb dL_set_1 (by decide) ?_
  refine lv_aload_n hx hb dL_set_2 rfl (lv_at hl 0 rfl) ?_
  refine lv_iload_n hx hb dL_set_3 rfl (lv_at hl 1 rfl) ?_
  refine lv_iload_n hx hb dL_set_4 rfl (lv_at hl 2 rfl) ?_
  obtain ⟨oo1, hoo1, hoo1k⟩ := obl_e hF
  refine x_tryi (wr := [(aO, .inl (cyJ, 1, .inr (.inl vO)))]) (ws' := fun o1 t2 => ((h, .inr (5, [.ref (bA 0), .ref (bB 0), .ref aV, .int o1.2.1, .ref yt])) :: (wB cyI cyJ bA o1.2.2.1 ++ ((aV, .inl (cyS, 4, .inr (.inr (.inr (.inr (fun i => some (t2 i 0))))))) :: (wB cyI cyJ (t2 0) o1.2.2.2.1 ++ (wB cyI cyJ (t2 1) o1.2.2.2.2.1 ++ (wB cyI cyJ (t2 2) o1.2.2.2.2.2.1 ++ (wB cyI cyJ (t2 3) o1.2.2.2.2.2.2 ++ [(aO, .inl (cyJ, 1, .inr (.inl vO)))])))))))) (vx_runV (As := [.int w2, .int w3]) (rest := [.int 0, .ref aO]) ⟨hx, hb, hml, hown, hts⟩ (c_X5_set l hfl dC dI cyI cyJ cyB cyS cyD aLe aMo vLe vMo h bA bB aV yt bV s.heap.size xN AZ C0Z C1Z C2Z C3Z w2 w3 hoo1) (cwV 2 hts gL_set_X5_set rfl rfl rfl (by decide +kernel) ⟨Nat.le_of_ble_eq_true rfl, Nat.le_of_ble_eq_true rfl⟩) ⟨cPreG_blind, va_recv hK hP (ci := 5) (q0 := 0) rfl rfl, x_preG hN hZ hT hG hP hD hS hA hK [0, 1, 2, 3, 4, 5, 6, 7, 8, 9, 10, 11, 12, 13, 14, 15, 16, 17, 18, 19, 20, 21, 22, 23, 24, 25, 26, 27, 28, 29, 30, 31, 32, 33, 34, 35, 36, 37, 38, 39, 40, 41, 42, 43, 44, 45, 46, 47, 48, 49, 50, 51, 52, 53, 54, 55, 56, 57, 58, 59, 60, 61, 62, 63, 64, 65, 66, 67, 68, 69, 70, 71, 72, 73, 74, 75, 76] rfl rfl⟩ rfl rfl hl.1 rfl (lv_room (Nat.le_of_ble_eq_true rfl)) dL_set_5 ⟨Nat.le_of_ble_eq_true rfl, Nat.le_of_ble_eq_true rfl⟩) hP hD hS hA [0, 1, 2, 3, 4, 5, 6, 7, 8, 9, 10, 11, 12, 13, 14, 15, 16, 17, 18, 19, 20, 21, 22, 23, 24, 25, 26, 27, 28, 29, 30, 31, 32, 33, 34, 35, 36, 37, 38, 39, 40, 41, 42, 43, 44, 45, 46, 47, 48, 49, 50, 51, 52, 53, 54, 55, 56, 57, 58, 59, 60, 61, 62, 63, 64, 65, 66, 67, 68, 69, 70, 71, 72, 73, 74, 75, 76] [77] [1, 2, 3, 4, 5, 6, 7, 8, 9, 10, 11, 12, 13, 14, 15, 16, 17, 18, 19, 20, 21, 22, 23, 24, 25, 26, 27, 28, 29, 30, 31, 32, 33, 34, 35, 36, 37, 38, 39, 40, 41, 42, 43, 44, 45, 46, 47, 48, 49, 50, 51, 52, 53, 54, 55, 56, 57, 58, 59, 60, 61, 62, 63, 64, 65, 66, 67, 68, 69, 70, 71, 72, 73, 74, 75, 76, 77, 0] rfl rfl rfl (by decide) rfl (fun _ _ => rfl) rfl (fun E9 ce9 q9 H locs hE hP hD hS hce hcv hcl => ?_) (fun o1 t2 H locs hE hP hD hS => ?_)
  · subst hE
    have hF := obl2_r hoo1k
    obtain ⟨hE9, hF⟩ := ck_e hF
    subst hE9
    refine vx_catch hown [] ⟨0, 10, 13, 13⟩ [] htb (fun _ h => nomatch h) (by decide) (by decide) (hts _ kL_set_1) (va_Nw.use rfl (hT.2.1 xIAE (List.mem_of_getElem? (i := 0) rfl))) hce hcv hcl ?_
    refine lv_astore (lv' := [(4, .ref q9), (0, .ref h), (1, .int w2), (2, .int w3), (3, .ref aO)]) hx hb dL_set_13 hl (by decide) rfl (fun ls hl => ?_)
    refine lv_iconst (v := 1) hx hb dL_set_15 (by decide) ?_
    obtain rfl := some_e hF
    refine W.widen (k := 2) (n := 12) (Nat.le_of_ble_eq_true rfl) (Nat.le_of_ble_eq_true rfl) ?_
    exact W.iret (v := 1) hx hb hr (fun t ht hW => ⟨⟨1, bV, rfl, rfl, ⟨by rw [ht]; exact hP, va_K.moved hW.alike hK, hD⟩⟩, hS.F ht⟩) hS.2.2 dL_set_16
  · subst hE
    have hF := obl2_l hoo1k
    refine lv_i2l (v := o1.1.toInt64) hx hb dL_set_8 rfl ?_
    obtain ⟨v3, hv3, hF⟩ := lt_e hF
    refine x_last (ws' := ((h, .inr (5, [.ref (bA 0), .ref (bB 0), .ref aV, .int o1.2.1, .ref yt])) :: (wB cyI cyJ bA o1.2.2.1 ++ ((aV, .inl (cyS, 4, .inr (.inr (.inr (.inr (fun i => some (t2 i 0))))))) :: (wB cyI cyJ (t2 0) o1.2.2.2.1 ++ (wB cyI cyJ (t2 1) o1.2.2.2.2.1 ++ (wB cyI cyJ (t2 2) o1.2.2.2.2.2.1 ++ (wB cyI cyJ (t2 3) o1.2.2.2.2.2.2 ++ [(aO, .inl (cyJ, 1, .inr (.inl v3)))])))))))) hx hb hK hP hD hS 77 1 rfl rfl (show (0 : Int32).toNatClampNeg = 0 by decide) (inbK (k := 0) (by decide) rfl) hv3 rfl dL_set_9 (fun H locs hP hD hS => ?_)
    refine lv_goto (tgt := 17) hx hb dL_set_10 (by decide) ?_
    refine lv_iconst (v := 0) hx hb dL_set_17 (by decide) ?_
    obtain rfl := some_e hF
    refine W.widen (k := 2) (n := 12) (Nat.le_of_ble_eq_true rfl) (Nat.le_of_ble_eq_true rfl) ?_
    exact W.iret (v := 0) hx hb hr (fun t ht hW => ⟨⟨0, t2, rfl, rfl, ⟨by rw [ht]; exact hP, va_K.moved hW.alike hK, hD⟩⟩, hS.F ht⟩) hS.2.2 dL_set_18
def F_L_value (AZ : ST) (vO : Nat → Int64) (w2 : Int32) : Option (Int32 × (Nat → Int64)) := obl (F_X5_value AZ w2) (fun o1 => lt_ (α := Nat → Int64) (vp_updL vO 0 o1.toInt64) (fun v3 => some (0, v3))) (fun E9 => ck (E9 = xIAE) (some (1, vO)))
theorem kL_value_1 : (Cond.classLink RL 13 "java/lang/IllegalArgumentException") ∈ wsL_value := List.mem_of_getElem? (i := 1) rfl
set_option maxHeartbeats 4000000 in
set_option maxRecDepth 100000 in
theorem c_L_value (l : Launch) (hfl : l.stackTraces = false) (dC : Nat → ClassId) (dI : Nat → Nat → Nat) (cyI cyJ cyB cyS cyD : ClassId) (h : Nat) (bA : Nat → Nat) (bB : Nat → Nat) (aV : Nat) (yt : Nat) (aO : Nat) (sz : Nat) (xN : Int32) (AZ : ST) (vO : Nat → Int64) (w2 : Int32) {out : Int32 × (Nat → Int64)} (hF : F_L_value AZ vO w2 = some out) : Li l yL_value wsL_value ({ frames := 8, cells := 1, slots := 6, locals := 143 } : Room) (dC, dI) [(cyI, .int), (cyJ, .long), (cyB, .byte), (cyS, .object "SelfTuner$State"), (cyD, .double)] sz [.ref h, .int w2, .ref aO] ((h, .inr (5, [.ref (bA 0), .ref (bB 0), .ref aV, .int xN, .ref yt])) :: (wB cyI cyJ bA AZ ++ [(aO, .inl (cyJ, 1, .inr (.inl vO)))])) out.1 (fun (bV : Nat → Nat → Nat) => ((h, .inr (5, [.ref (bA 0), .ref (bB 0), .ref aV, .int xN, .ref yt])) :: (wB cyI cyJ bA AZ ++ [(aO, .inl (cyJ, 1, .inr (.inl out.2)))]))) 1 6 := by
  refine va_MetW (cc := cL_value) (maxL := 4) (ret := (some .int)) (hh := [(0, 9, 12, 13)]) (by decide) rfl ?_
  intro p e s m args below meth c s₁ B hml hv
  obtain ⟨rfl, ⟨hN, hsz, hP, hK, hD0⟩, hZ, hT⟩ := hv
  have hx := B.exec
  have hb := B.bytes
  have hr := B.returns
  have hts := atoms_spec (ws := wsL_value) B.pre
  have hown : s.vm.findClass RL = some m.cls := findClass_of_methodNamed B.named
  have hlocks := B.notSynchronized
  subst hsz
  have hD := hD0.self (sz := s.heap.size)
  generalize hAe : va_A ((h, .inr (5, [.ref (bA 0), .ref (bB 0), .ref aV, .int xN, .ref yt])) :: (wB cyI cyJ bA AZ ++ [(aO, .inl (cyJ, 1, .inr (.inl vO)))])) s.heap.size = A at hD hZ ⊢
  have hA : ∀ q : Nat, s.heap.size ≤ q → A q := fun q h => by rw [← hAe]; exact Or.inr h
  have hS : va_S A s.heap s.heap [] := va_S.rf
  have hP : va_P (dC, dI) vwCl ((h, .inr (5, [.ref (bA 0), .ref (bB 0), .ref aV, .int xN, .ref yt])) :: (wB cyI cyJ bA AZ ++ [(aO, .inl (cyJ, 1, .inr (.inl vO)))])) s.heap := hP
  have hl := lv_entry ([.ref h, .int w2, .ref aO]) (n := 4) (Nat.le_of_ble_eq_true rfl)
  rw [lg_entry_eq]
  generalize (lg_sl ([.ref h, .int w2, .ref aO]) ++ List.replicate (4 - (lg_sl ([.ref h, .int w2, .ref aO])).length) Slot.unset).toArray = ls at hl ⊢
  have hl : lv_has ls 4 [(0, .ref h), (1, .int w2), (2, .ref aO)] := hl
  have htb := vx_table (x := yL_value) B (hts _ List.mem_cons_self)
  unfold F_L_value at hF
  refine lv_aload_n hx hb dL_value_0 rfl (lv_at hl 2 rfl) ?_
  refine lv_iconst (v := 0) hx hb dL_value_1 (by decide) ?_
  refine lv_aload_n hx hb dL_value_2 rfl (lv_at hl 0 rfl) ?_
  refine lv_iload_n hx hb dL_value_3 rfl (lv_at hl 1 rfl) ?_
  obtain ⟨oo1, hoo1, hoo1k⟩ := obl_e hF
  refine x_tryi (wr := [(aO, .inl (cyJ, 1, .inr (.inl vO)))]) (rv := fun o1 => o1) (ws' := fun o1 t2 => ((h, .inr (5, [.ref (bA 0), .ref (bB 0), .ref aV, .int xN, .ref yt])) :: (wB cyI cyJ bA AZ ++ [(aO, .inl (cyJ, 1, .inr (.inl vO)))]))) (vx_runV (As := [.int w2]) (rest := [.int 0, .ref aO]) ⟨hx, hb, hml, hown, hts⟩ (c_X5_value l hfl dC dI cyI cyJ cyB cyS cyD h bA bB aV yt s.heap.size xN AZ w2 hoo1) (cwV 1 hts gL_value_X5_value rfl rfl rfl (by decide +kernel) ⟨Nat.le_of_ble_eq_true rfl, Nat.le_of_ble_eq_true rfl⟩) ⟨cPreX_blind, va_recv hK hP (ci := 5) (q0 := 0) rfl rfl, x_preX hN hZ hT hP hD hS hA hK [0, 1, 2, 3, 4, 5, 6, 7, 8, 9, 10, 11, 12, 13, 14, 15] rfl rfl⟩ rfl rfl hl.1 rfl (lv_room (Nat.le_of_ble_eq_true rfl)) dL_value_4 ⟨Nat.le_of_ble_eq_true rfl, Nat.le_of_ble_eq_true rfl⟩) hP hD hS hA [0, 1, 2, 3, 4, 5, 6, 7, 8, 9, 10, 11, 12, 13, 14, 15] [16] [1, 2, 3, 4, 5, 6, 7, 8, 9, 10, 11, 12, 13, 14, 15, 16, 0] rfl rfl rfl (by decide) rfl (fun _ _ => rfl) rfl (fun E9 ce9 q9 H locs hE hP hD hS hce hcv hcl => ?_) (fun o1 t2 H locs hE hP hD hS => ?_)
  · subst hE
    have hF := obl2_r hoo1k
    obtain ⟨hE9, hF⟩ := ck_e hF
    subst hE9
    refine vx_catch hown [] ⟨0, 9, 12, 13⟩ [] htb (fun _ h => nomatch h) (by decide) (by decide) (hts _ kL_value_1) (va_Nw.use rfl (hT.2.1 xIAE (List.mem_of_getElem? (i := 0) rfl))) hce hcv hcl ?_
    refine lv_astore_n (lv' := [(3, .ref q9), (0, .ref h), (1, .int w2), (2, .ref aO)]) hx hb dL_value_12 rfl hl (by decide) rfl (fun ls hl => ?_)
    refine lv_iconst (v := 1) hx hb dL_value_13 (by decide) ?_
    obtain rfl := some_e hF
    refine W.widen (k := 1) (n := 6) (Nat.le_of_ble_eq_true rfl) (Nat.le_of_ble_eq_true rfl) ?_
    exact W.iret (v := 1) hx hb hr (fun t ht hW => ⟨⟨1, (fun _ _ => 0), rfl, rfl, ⟨by rw [ht]; exact hP, va_K.moved hW.alike hK, hD⟩⟩, hS.F ht⟩) hS.2.2 dL_value_14
  · subst hE
    have hF := obl2_l hoo1k
    refine lv_i2l (v := o1.toInt64) hx hb dL_value_7 rfl ?_
    obtain ⟨v3, hv3, hF⟩ := lt_e hF
    refine x_last (ws' := ((h, .inr (5, [.ref (bA 0), .ref (bB 0), .ref aV, .int xN, .ref yt])) :: (wB cyI cyJ bA AZ ++ [(aO, .inl (cyJ, 1, .inr (.inl v3)))]))) hx hb hK hP hD hS 16 1 rfl rfl (show (0 : Int32).toNatClampNeg = 0 by decide) (inbK (k := 0) (by decide) rfl) hv3 rfl dL_value_8 (fun H locs hP hD hS => ?_)
    refine lv_goto (tgt := 15) hx hb dL_value_9 (by decide) ?_
    refine lv_iconst (v := 0) hx hb dL_value_15 (by decide) ?_
    obtain rfl := some_e hF
    refine W.widen (k := 1) (n := 6) (Nat.le_of_ble_eq_true rfl) (Nat.le_of_ble_eq_true rfl) ?_
    exact W.iret (v := 0) hx hb hr (fun t ht hW => ⟨⟨0, (fun _ _ => 0), rfl, rfl, ⟨by rw [ht]; exact hP, va_K.moved hW.alike hK, hD⟩⟩, hS.F ht⟩) hS.2.2 dL_value_16
def F_L_setBox (xN : Int32) (AZ : ST) (C0Z : ST) (C1Z : ST) (C2Z : ST) (C3Z : ST) (vO : Nat → Int64) (w2 : Int32) (w3 : Int32) (w4 : Int32) : Option (Int32 × Int32 × ST × ST × ST × ST × ST × (Nat → Int64)) := obl (F_X5_setBox xN AZ C0Z C1Z C2Z C3Z w2 w3 w4) (fun o1 => lt_ (α := Nat → Int64) (vp_updL vO 0 o1.1.toInt64) (fun v3 => some (0, o1.2.1, o1.2.2.1, o1.2.2.2.1, o1.2.2.2.2.1, o1.2.2.2.2.2.1, o1.2.2.2.2.2.2, v3))) (fun E9 => if E9 = xIOB then (some (1, xN, AZ, C0Z, C1Z, C2Z, C3Z, vO)) else (ck (E9 = xIAE) (some (2, xN, AZ, C0Z, C1Z, C2Z, C3Z, vO))))
theorem kL_setBox_1 : (Cond.classLink RL 23 "java/lang/IndexOutOfBoundsException") ∈ wsL_setBox := List.mem_of_getElem? (i := 1) rfl
theorem kL_setBox_2 : (Cond.classLink RL 13 "java/lang/IllegalArgumentException") ∈ wsL_setBox := List.mem_of_getElem? (i := 2) rfl
set_option maxHeartbeats 4000000 in
set_option maxRecDepth 100000 in
theorem c_L_setBox (l : Launch) (hfl : l.stackTraces = false) (dC : Nat → ClassId) (dI : Nat → Nat → Nat) (cyI cyJ cyB cyS cyD : ClassId) (h : Nat) (bA : Nat → Nat) (bB : Nat → Nat) (aV : Nat) (yt : Nat) (bV : Nat → Nat → Nat) (aO : Nat) (sz : Nat) (xN : Int32) (AZ : ST) (C0Z : ST) (C1Z : ST) (C2Z : ST) (C3Z : ST) (vO : Nat → Int64) (w2 : Int32) (w3 : Int32) (w4 : Int32) {out : Int32 × Int32 × ST × ST × ST × ST × ST × (Nat → Int64)} (hF : F_L_setBox xN AZ C0Z C1Z C2Z C3Z vO w2 w3 w4 = some out) : Li l yL_setBox wsL_setBox ({ frames := 8, cells := 3, slots := 18, locals := 186 } : Room) (dC, dI) [(cyI, .int), (cyJ, .long), (cyB, .byte), (cyS, .object "SelfTuner$State"), (cyD, .double)] sz [.ref h, .int w2, .int w3, .int w4, .ref aO] ((h, .inr (5, [.ref (bA 0), .ref (bB 0), .ref aV, .int xN, .ref yt])) :: (wB cyI cyJ bA AZ ++ ((aV, .inl (cyS, 4, .inr (.inr (.inr (.inr (fun i => some (bV i 0))))))) :: (wB cyI cyJ (bV 0) C0Z ++ (wB cyI cyJ (bV 1) C1Z ++ (wB cyI cyJ (bV 2) C2Z ++ (wB cyI cyJ (bV 3) C3Z ++ [(aO, .inl (cyJ, 1, .inr (.inl vO)))]))))))) out.1 (fun (bV : Nat → Nat → Nat) => ((h, .inr (5, [.ref (bA 0), .ref (bB 0), .ref aV, .int out.2.1, .ref yt])) :: (wB cyI cyJ bA out.2.2.1 ++ ((aV, .inl (cyS, 4, .inr (.inr (.inr (.inr (fun i => some (bV i 0))))))) :: (wB cyI cyJ (bV 0) out.2.2.2.1 ++ (wB cyI cyJ (bV 1) out.2.2.2.2.1 ++ (wB cyI cyJ (bV 2) out.2.2.2.2.2.1 ++ (wB cyI cyJ (bV 3) out.2.2.2.2.2.2.1 ++ [(aO, .inl (cyJ, 1, .inr (.inl out.2.2.2.2.2.2.2)))])))))))) 3 18 := by
  refine va_MetW (cc := cL_setBox) (maxL := 6) (ret := (some .int)) (hh := [(0, 12, 15, 23), (0, 12, 19, 13)]) (by decide) rfl ?_
  intro p e s m args below meth c s₁ B hml hv
  obtain ⟨rfl, ⟨hN, hsz, hP, hK, hD0⟩, hZ, hT⟩ := hv
  have hx := B.exec
  have hb := B.bytes
  have hr := B.returns
  have hts := atoms_spec (ws := wsL_setBox) B.pre
  have hown : s.vm.findClass RL = some m.cls := findClass_of_methodNamed B.named
  have hlocks := B.notSynchronized
  subst hsz
  have hD := hD0.self (sz := s.heap.size)
  generalize hAe : va_A ((h, .inr (5, [.ref (bA 0), .ref (bB 0), .ref aV, .int xN, .ref yt])) :: (wB cyI cyJ bA AZ ++ ((aV, .inl (cyS, 4, .inr (.inr (.inr (.inr (fun i => some (bV i 0))))))) :: (wB cyI cyJ (bV 0) C0Z ++ (wB cyI cyJ (bV 1) C1Z ++ (wB cyI cyJ (bV 2) C2Z ++ (wB cyI cyJ (bV 3) C3Z ++ [(aO, .inl (cyJ, 1, .inr (.inl vO)))]))))))) s.heap.size = A at hD hZ ⊢
  have hA : ∀ q : Nat, s.heap.size ≤ q → A q := fun q h => by rw [← hAe]; exact Or.inr h
  have hS : va_S A s.heap s.heap [] := va_S.rf
  have hP : va_P (dC, dI) vwCl ((h, .inr (5, [.ref (bA 0), .ref (bB 0), .ref aV, .int xN, .ref yt])) :: (wB cyI cyJ bA AZ ++ ((aV, .inl (cyS, 4, .inr (.inr (.inr (.inr (fun i => some (bV i 0))))))) :: (wB cyI cyJ (bV 0) C0Z ++ (wB cyI cyJ (bV 1) C1Z ++ (wB cyI cyJ (bV 2) C2Z ++ (wB cyI cyJ (bV 3) C3Z ++ [(aO, .inl (cyJ, 1, .inr (.inl vO)))]))))))) s.heap := hP
  have hl := lv_entry ([.ref h, .int w2, .int w3, .int w4, .ref aO]) (n := 6) (Nat.le_of_ble_eq_true rfl)
  rw [lg_entry_eq]
  generalize (lg_sl ([.ref h, .int w2, .int w3, .int w4, .ref aO]) ++ List.replicate (6 - (lg_sl ([.ref h, .int w2, .int w3, .int w4, .ref aO])).length) Slot.unset).toArray = ls at hl ⊢
  have hl : lv_has ls 6 [(0, .ref h), (1, .int w2), (2, .int w3), (3, .int w4), (4, .ref aO)] := hl
  have htb := vx_table (x := yL_setBox) B (hts _ List.mem_cons_self)
  unfold F_L_setBox at hF
  refine lv_aload hx hb dL_setBox_0 (lv_at hl 4 rfl) ?_
  refine lv_iconst (v := 0) hx hb dL_setBox_2 (by decide) ?_
  refine lv_aload_n hx hb dL_setBox_3 rfl (lv_at hl 0 rfl) ?_
  refine lv_iload_n hx hb dL_setBox_4 rfl (lv_at hl 1 rfl) ?_
  refine lv_iload_n hx hb dL_setBox_5 rfl (lv_at hl 2 rfl) ?_
  refine lv_iload_n hx hb dL_setBox_6 rfl (lv_at hl 3 rfl) ?_
  obtain ⟨oo1, hoo1, hoo1k⟩ := obl_e hF
  refine x_tryi (wr := [(aO, .inl (cyJ, 1, .inr (.inl vO)))]) (ws' := fun o1 t2 => ((h, .inr (5, [.ref (bA 0), .ref (bB 0), .ref aV, .int o1.2.1, .ref yt])) :: (wB cyI cyJ bA o1.2.2.1 ++ ((aV, .inl (cyS, 4, .inr (.inr (.inr (.inr (fun i => some (t2 i 0))))))) :: (wB cyI cyJ (t2 0) o1.2.2.2.1 ++ (wB cyI cyJ (t2 1) o1.2.2.2.2.1 ++ (wB cyI cyJ (t2 2) o1.2.2.2.2.2.1 ++ (wB cyI cyJ (t2 3) o1.2.2.2.2.2.2 ++ [(aO, .inl (cyJ, 1, .inr (.inl vO)))])))))))) (vx_runV (As := [.int w2, .int w3, .int w4]) (rest := [.int 0, .ref aO]) ⟨hx, hb, hml, hown, hts⟩ (c_X5_setBox l hfl dC dI cyI cyJ cyB cyS cyD h bA bB aV yt bV s.heap.size xN AZ C0Z C1Z C2Z C3Z w2 w3 w4 hoo1) (cwV 3 hts gL_setBox_X5_setBox rfl rfl rfl (by decide +kernel) ⟨Nat.le_of_ble_eq_true rfl, Nat.le_of_ble_eq_true rfl⟩) ⟨cPreX_blind, va_recv hK hP (ci := 5) (q0 := 0) rfl rfl, x_preX hN hZ hT hP hD hS hA hK [0, 1, 2, 3, 4, 5, 6, 7, 8, 9, 10, 11, 12, 13, 14, 15, 16, 17, 18, 19, 20, 21, 22, 23, 24, 25, 26, 27, 28, 29, 30, 31, 32, 33, 34, 35, 36, 37, 38, 39, 40, 41, 42, 43, 44, 45, 46, 47, 48, 49, 50, 51, 52, 53, 54, 55, 56, 57, 58, 59, 60, 61, 62, 63, 64, 65, 66, 67, 68, 69, 70, 71, 72, 73, 74, 75, 76] rfl rfl⟩ rfl rfl hl.1 rfl (lv_room (Nat.le_of_ble_eq_true rfl)) dL_setBox_7 ⟨Nat.le_of_ble_eq_true rfl, Nat.le_of_ble_eq_true rfl⟩) hP hD hS hA [0, 1, 2, 3, 4, 5, 6, 7, 8, 9, 10, 11, 12, 13, 14, 15, 16, 17, 18, 19, 20, 21, 22, 23, 24, 25, 26, 27, 28, 29, 30, 31, 32, 33, 34, 35, 36, 37, 38, 39, 40, 41, 42, 43, 44, 45, 46, 47, 48, 49, 50, 51, 52, 53, 54, 55, 56, 57, 58, 59, 60, 61, 62, 63, 64, 65, 66, 67, 68, 69, 70, 71, 72, 73, 74, 75, 76] [77] [1, 2, 3, 4, 5, 6, 7, 8, 9, 10, 11, 12, 13, 14, 15, 16, 17, 18, 19, 20, 21, 22, 23, 24, 25, 26, 27, 28, 29, 30, 31, 32, 33, 34, 35, 36, 37, 38, 39, 40, 41, 42, 43, 44, 45, 46, 47, 48, 49, 50, 51, 52, 53, 54, 55, 56, 57, 58, 59, 60, 61, 62, 63, 64, 65, 66, 67, 68, 69, 70, 71, 72, 73, 74, 75, 76, 77, 0] rfl rfl rfl (by decide) rfl (fun _ _ => rfl) rfl (fun E9 ce9 q9 H locs hE hP hD hS hce hcv hcl => ?_) (fun o1 t2 H locs hE hP hD hS => ?_)
  · subst hE
    have hF := obl2_r hoo1k
    by_cases hE9 : E9 = xIOB
    · have hF := ite_t hF hE9
      subst hE9
      refine vx_catch hown [] ⟨0, 12, 15, 23⟩ [⟨0, 12, 19, 13⟩] htb (fun _ h => nomatch h) (by decide) (by decide) (hts _ kL_setBox_1) (va_Nw.use rfl (hT.2.1 xIOB (List.mem_of_getElem? (i := 1) rfl))) hce hcv hcl ?_
      refine lv_astore (lv' := [(5, .ref q9), (0, .ref h), (1, .int w2), (2, .int w3), (3, .int w4), (4, .ref aO)]) hx hb dL_setBox_15 hl (by decide) rfl (fun ls hl => ?_)
      refine lv_iconst (v := 1) hx hb dL_setBox_17 (by decide) ?_
      obtain rfl := some_e hF
      refine W.widen (k := 3) (n := 18) (Nat.le_of_ble_eq_true rfl) (Nat.le_of_ble_eq_true rfl) ?_
      exact W.iret (v := 1) hx hb hr (fun t ht hW => ⟨⟨1, bV, rfl, rfl, ⟨by rw [ht]; exact hP, va_K.moved hW.alike hK, hD⟩⟩, hS.F ht⟩) hS.2.2 dL_setBox_18
    · have hF := ite_f hF hE9
      clear hE9
      obtain ⟨hE9, hF⟩ := ck_e hF
      subst hE9
      refine vx_catch hown [⟨0, 12, 15, 23⟩] ⟨0, 12, 19, 13⟩ [] htb (fun z hz => by rw [List.mem_singleton.mp hz]; exact Or.inr ⟨by decide, xIOB, hts _ kL_setBox_1, hT.2.2.2 (xIAE, xIOB) (List.mem_of_getElem? (i := 0) rfl)⟩) (by decide) (by decide) (hts _ kL_setBox_2) (va_Nw.use rfl (hT.2.1 xIAE (List.mem_of_getElem? (i := 0) rfl))) hce hcv hcl ?_
      refine lv_astore (lv' := [(5, .ref q9), (0, .ref h), (1, .int w2), (2, .int w3), (3, .int w4), (4, .ref aO)]) hx hb dL_setBox_19 hl (by decide) rfl (fun ls hl => ?_)
      refine lv_iconst (v := 2) hx hb dL_setBox_21 (by decide) ?_
      obtain rfl := some_e hF
      refine W.widen (k := 3) (n := 18) (Nat.le_of_ble_eq_true rfl) (Nat.le_of_ble_eq_true rfl) ?_
      exact W.iret (v := 2) hx hb hr (fun t ht hW => ⟨⟨2, bV, rfl, rfl, ⟨by rw [ht]; exact hP, va_K.moved hW.alike hK, hD⟩⟩, hS.F ht⟩) hS.2.2 dL_setBox_22
  · subst hE
    have hF := obl2_l hoo1k
    refine lv_i2l (v := o1.1.toInt64) hx hb dL_setBox_10 rfl ?_
    obtain ⟨v3, hv3, hF⟩ := lt_e hF
    refine x_last (ws' := ((h, .inr (5, [.ref (bA 0), .ref (bB 0), .ref aV, .int o1.2.1, .ref yt])) :: (wB cyI cyJ bA o1.2.2.1 ++ ((aV, .inl (cyS, 4, .inr (.inr (.inr (.inr (fun i => some (t2 i 0))))))) :: (wB cyI cyJ (t2 0) o1.2.2.2.1 ++ (wB cyI cyJ (t2 1) o1.2.2.2.2.1 ++ (wB cyI cyJ (t2 2) o1.2.2.2.2.2.1 ++ (wB cyI cyJ (t2 3) o1.2.2.2.2.2.2 ++ [(aO, .inl (cyJ, 1, .inr (.inl v3)))])))))))) hx hb hK hP hD hS 77 1 rfl rfl (show (0 : Int32).toNatClampNeg = 0 by decide) (inbK (k := 0) (by decide) rfl) hv3 rfl dL_setBox_11 (fun H locs hP hD hS => ?_)
    refine lv_goto (tgt := 23) hx hb dL_setBox_12 (by decide) ?_
    refine lv_iconst (v := 0) hx hb dL_setBox_23 (by decide) ?_
    obtain rfl := some_e hF
    refine W.widen (k := 3) (n := 18) (Nat.le_of_ble_eq_true rfl) (Nat.le_of_ble_eq_true rfl) ?_
    exact W.iret (v := 0) hx hb hr (fun t ht hW => ⟨⟨0, t2, rfl, rfl, ⟨by rw [ht]; exact hP, va_K.moved hW.alike hK, hD⟩⟩, hS.F ht⟩) hS.2.2 dL_setBox_24
def F_L_box (AZ : ST) (vO : Nat → Int64) (w2 : Int32) (w3 : Int32) : Option (Int32 × (Nat → Int64)) := obl (F_X5_box AZ w2 w3) (fun o1 => lt_ (α := Nat → Int64) (vp_updL vO 0 o1.toInt64) (fun v3 => some (0, v3))) (fun E9 => ck (E9 = xIOB) (some (1, vO)))
theorem kL_box_1 : (Cond.classLink RL 23 "java/lang/IndexOutOfBoundsException") ∈ wsL_box := List.mem_of_getElem? (i := 1) rfl
set_option maxHeartbeats 4000000 in
set_option maxRecDepth 100000 in
theorem c_L_box (l : Launch) (hfl : l.stackTraces = false) (dC : Nat → ClassId) (dI : Nat → Nat → Nat) (cyI cyJ cyB cyS cyD : ClassId) (h : Nat) (bA : Nat → Nat) (bB : Nat → Nat) (aV : Nat) (yt : Nat) (aO : Nat) (sz : Nat) (xN : Int32) (AZ : ST) (vO : Nat → Int64) (w2 : Int32) (w3 : Int32) {out : Int32 × (Nat → Int64)} (hF : F_L_box AZ vO w2 w3 = some out) : Li l yL_box wsL_box ({ frames := 8, cells := 1, slots := 6, locals := 142 } : Room) (dC, dI) [(cyI, .int), (cyJ, .long), (cyB, .byte), (cyS, .object "SelfTuner$State"), (cyD, .double)] sz [.ref h, .int w2, .int w3, .ref aO] ((h, .inr (5, [.ref (bA 0), .ref (bB 0), .ref aV, .int xN, .ref yt])) :: (wB cyI cyJ bA AZ ++ [(aO, .inl (cyJ, 1, .inr (.inl vO)))])) out.1 (fun (bV : Nat → Nat → Nat) => ((h, .inr (5, [.ref (bA 0), .ref (bB 0), .ref aV, .int xN, .ref yt])) :: (wB cyI cyJ bA AZ ++ [(aO, .inl (cyJ, 1, .inr (.inl out.2)))]))) 1 6 := by
  refine va_MetW (cc := cL_box) (maxL := 5) (ret := (some .int)) (hh := [(0, 10, 13, 23)]) (by decide) rfl ?_
  intro p e s m args below meth c s₁ B hml hv
  obtain ⟨rfl, ⟨hN, hsz, hP, hK, hD0⟩, hZ, hT⟩ := hv
  have hx := B.exec
  have hb := B.bytes
  have hr := B.returns
  have hts := atoms_spec (ws := wsL_box) B.pre
  have hown : s.vm.findClass RL = some m.cls := findClass_of_methodNamed B.named
  have hlocks := B.notSynchronized
  subst hsz
  have hD := hD0.self (sz := s.heap.size)
  generalize hAe : va_A ((h, .inr (5, [.ref (bA 0), .ref (bB 0), .ref aV, .int xN, .ref yt])) :: (wB cyI cyJ bA AZ ++ [(aO, .inl (cyJ, 1, .inr (.inl vO)))])) s.heap.size = A at hD hZ ⊢
  have hA : ∀ q : Nat, s.heap.size ≤ q → A q := fun q h => by rw [← hAe]; exact Or.inr h
  have hS : va_S A s.heap s.heap [] := va_S.rf
  have hP : va_P (dC, dI) vwCl ((h, .inr (5, [.ref (bA 0), .ref (bB 0), .ref aV, .int xN, .ref yt])) :: (wB cyI cyJ bA AZ ++ [(aO, .inl (cyJ, 1, .inr (.inl vO)))])) s.heap := hP
  have hl := lv_entry ([.ref h, .int w2, .int w3, .ref aO]) (n := 5) (Nat.le_of_ble_eq_true rfl)
  rw [lg_entry_eq]
  generalize (lg_sl ([.ref h, .int w2, .int w3, .ref aO]) ++ List.replicate (5 - (lg_sl ([.ref h, .int w2, .int w3, .ref aO])).length) Slot.unset).toArray = ls at hl ⊢
  have hl : lv_has ls 5 [(0, .ref h), (1, .int w2), (2, .int w3), (3, .ref aO)] := hl
  have htb := vx_table (x := yL_box) B (hts _ List.mem_cons_self)
  unfold F_L_box at hF
  refine lv_aload_n hx hb dL_box_0 rfl (lv_at hl 3 rfl) ?_
  refine lv_iconst (v := 0) hx hb dL_box_1 (by decide) ?_
  refine lv_aload_n hx hb dL_box_2 rfl (lv_at hl 0 rfl) ?_
  refine lv_iload_n hx hb dL_box_3 rfl (lv_at hl 1 rfl) ?_
  refine lv_iload_n hx hb dL_box_4 rfl (lv_at hl 2 rfl) ?_
  obtain ⟨oo1, hoo1, hoo1k⟩ := obl_e hF
  refine x_tryi (wr := [(aO, .inl (cyJ, 1, .inr (.inl vO)))]) (rv := fun o1 => o1) (ws' := fun o1 t2 => ((h, .inr (5, [.ref (bA 0), .ref (bB 0), .ref aV, .int xN, .ref yt])) :: (wB cyI cyJ bA AZ ++ [(aO, .inl (cyJ, 1, .inr (.inl vO)))]))) (vx_runV (As := [.int w2, .int w3]) (rest := [.int 0, .ref aO]) ⟨hx, hb, hml, hown, hts⟩ (c_X5_box l hfl dC dI cyI cyJ cyB cyS cyD h bA bB aV yt s.heap.size xN AZ w2 w3 hoo1) (cwV 2 hts gL_box_X5_box rfl rfl rfl (by decide +kernel) ⟨Nat.le_of_ble_eq_true rfl, Nat.le_of_ble_eq_true rfl⟩) ⟨cPreX_blind, va_recv hK hP (ci := 5) (q0 := 0) rfl rfl, x_preX hN hZ hT hP hD hS hA hK [0, 1, 2, 3, 4, 5, 6, 7, 8, 9, 10, 11, 12, 13, 14, 15] rfl rfl⟩ rfl rfl hl.1 rfl (lv_room (Nat.le_of_ble_eq_true rfl)) dL_box_5 ⟨Nat.le_of_ble_eq_true rfl, Nat.le_of_ble_eq_true rfl⟩) hP hD hS hA [0, 1, 2, 3, 4, 5, 6, 7, 8, 9, 10, 11, 12, 13, 14, 15] [16] [1, 2, 3, 4, 5, 6, 7, 8, 9, 10, 11, 12, 13, 14, 15, 16, 0] rfl rfl rfl (by decide) rfl (fun _ _ => rfl) rfl (fun E9 ce9 q9 H locs hE hP hD hS hce hcv hcl => ?_) (fun o1 t2 H locs hE hP hD hS => ?_)
  · subst hE
    have hF := obl2_r hoo1k
    obtain ⟨hE9, hF⟩ := ck_e hF
    subst hE9
    refine vx_catch hown [] ⟨0, 10, 13, 23⟩ [] htb (fun _ h => nomatch h) (by decide) (by decide) (hts _ kL_box_1) (va_Nw.use rfl (hT.2.1 xIOB (List.mem_of_getElem? (i := 1) rfl))) hce hcv hcl ?_
    refine lv_astore (lv' := [(4, .ref q9), (0, .ref h), (1, .int w2), (2, .int w3), (3, .ref aO)]) hx hb dL_box_13 hl (by decide) rfl (fun ls hl => ?_)
    refine lv_iconst (v := 1) hx hb dL_box_15 (by decide) ?_
    obtain rfl := some_e hF
    refine W.widen (k := 1) (n := 6) (Nat.le_of_ble_eq_true rfl) (Nat.le_of_ble_eq_true rfl) ?_
    exact W.iret (v := 1) hx hb hr (fun t ht hW => ⟨⟨1, (fun _ _ => 0), rfl, rfl, ⟨by rw [ht]; exact hP, va_K.moved hW.alike hK, hD⟩⟩, hS.F ht⟩) hS.2.2 dL_box_16
  · subst hE
    have hF := obl2_l hoo1k
    refine lv_i2l (v := o1.toInt64) hx hb dL_box_8 rfl ?_
    obtain ⟨v3, hv3, hF⟩ := lt_e hF
    refine x_last (ws' := ((h, .inr (5, [.ref (bA 0), .ref (bB 0), .ref aV, .int xN, .ref yt])) :: (wB cyI cyJ bA AZ ++ [(aO, .inl (cyJ, 1, .inr (.inl v3)))]))) hx hb hK hP hD hS 16 1 rfl rfl (show (0 : Int32).toNatClampNeg = 0 by decide) (inbK (k := 0) (by decide) rfl) hv3 rfl dL_box_9 (fun H locs hP hD hS => ?_)
    refine lv_goto (tgt := 17) hx hb dL_box_10 (by decide) ?_
    refine lv_iconst (v := 0) hx hb dL_box_17 (by decide) ?_
    obtain rfl := some_e hF
    refine W.widen (k := 1) (n := 6) (Nat.le_of_ble_eq_true rfl) (Nat.le_of_ble_eq_true rfl) ?_
    exact W.iret (v := 0) hx hb hr (fun t ht hW => ⟨⟨0, (fun _ _ => 0), rfl, rfl, ⟨by rw [ht]; exact hP, va_K.moved hW.alike hK, hD⟩⟩, hS.F ht⟩) hS.2.2 dL_box_18
def F_L_setPlant (xN : Int32) (AZ : ST) (C0Z : ST) (C1Z : ST) (C2Z : ST) (C3Z : ST) (vO : Nat → Int64) (w2 : Int32) (w3 : Int32) (w4 : Int32) (w5 : Int32) : Option (Int32 × Int32 × ST × ST × ST × ST × ST × (Nat → Int64)) := obl (F_X5_setPlant xN AZ C0Z C1Z C2Z C3Z w2 w3 w4 w5) (fun o1 => lt_ (α := Nat → Int64) (vp_updL vO 0 o1.1.toInt64) (fun v3 => some (0, o1.2.1, o1.2.2.1, o1.2.2.2.1, o1.2.2.2.2.1, o1.2.2.2.2.2.1, o1.2.2.2.2.2.2, v3))) (fun E9 => ck (E9 = xIAE) (some (1, xN, AZ, C0Z, C1Z, C2Z, C3Z, vO)))
theorem kL_setPlant_1 : (Cond.classLink RL 13 "java/lang/IllegalArgumentException") ∈ wsL_setPlant := List.mem_of_getElem? (i := 1) rfl
set_option maxHeartbeats 4000000 in
set_option maxRecDepth 100000 in
theorem c_L_setPlant (l : Launch) (hfl : l.stackTraces = false) (dC : Nat → ClassId) (dI : Nat → Nat → Nat) (cyI cyJ cyB cyS cyD : ClassId) (h : Nat) (bA : Nat → Nat) (bB : Nat → Nat) (aV : Nat) (yt : Nat) (bV : Nat → Nat → Nat) (aO : Nat) (sz : Nat) (xN : Int32) (AZ : ST) (C0Z : ST) (C1Z : ST) (C2Z : ST) (C3Z : ST) (vO : Nat → Int64) (w2 : Int32) (w3 : Int32) (w4 : Int32) (w5 : Int32) {out : Int32 × Int32 × ST × ST × ST × ST × ST × (Nat → Int64)} (hF : F_L_setPlant xN AZ C0Z C1Z C2Z C3Z vO w2 w3 w4 w5 = some out) : Li l yL_setPlant wsL_setPlant ({ frames := 8, cells := 4, slots := 24, locals := 188 } : Room) (dC, dI) [(cyI, .int), (cyJ, .long), (cyB, .byte), (cyS, .object "SelfTuner$State"), (cyD, .double)] sz [.ref h, .int w2, .int w3, .int w4, .int w5, .ref aO] ((h, .inr (5, [.ref (bA 0), .ref (bB 0), .ref aV, .int xN, .ref yt])) :: (wB cyI cyJ bA AZ ++ ((aV, .inl (cyS, 4, .inr (.inr (.inr (.inr (fun i => some (bV i 0))))))) :: (wB cyI cyJ (bV 0) C0Z ++ (wB cyI cyJ (bV 1) C1Z ++ (wB cyI cyJ (bV 2) C2Z ++ (wB cyI cyJ (bV 3) C3Z ++ [(aO, .inl (cyJ, 1, .inr (.inl vO)))]))))))) out.1 (fun (bV : Nat → Nat → Nat) => ((h, .inr (5, [.ref (bA 0), .ref (bB 0), .ref aV, .int out.2.1, .ref yt])) :: (wB cyI cyJ bA out.2.2.1 ++ ((aV, .inl (cyS, 4, .inr (.inr (.inr (.inr (fun i => some (bV i 0))))))) :: (wB cyI cyJ (bV 0) out.2.2.2.1 ++ (wB cyI cyJ (bV 1) out.2.2.2.2.1 ++ (wB cyI cyJ (bV 2) out.2.2.2.2.2.1 ++ (wB cyI cyJ (bV 3) out.2.2.2.2.2.2.1 ++ [(aO, .inl (cyJ, 1, .inr (.inl out.2.2.2.2.2.2.2)))])))))))) 4 24 := by
  refine va_MetW (cc := cL_setPlant) (maxL := 7) (ret := (some .int)) (hh := [(0, 14, 17, 13)]) (by decide) rfl ?_
  intro p e s m args below meth c s₁ B hml hv
  obtain ⟨rfl, ⟨hN, hsz, hP, hK, hD0⟩, hZ, hT⟩ := hv
  have hx := B.exec
  have hb := B.bytes
  have hr := B.returns
  have hts := atoms_spec (ws := wsL_setPlant) B.pre
  have hown : s.vm.findClass RL = some m.cls := findClass_of_methodNamed B.named
  have hlocks := B.notSynchronized
  subst hsz
  have hD := hD0.self (sz := s.heap.size)
  generalize hAe : va_A ((h, .inr (5, [.ref (bA 0), .ref (bB 0), .ref aV, .int xN, .ref yt])) :: (wB cyI cyJ bA AZ ++ ((aV, .inl (cyS, 4, .inr (.inr (.inr (.inr (fun i => some (bV i 0))))))) :: (wB cyI cyJ (bV 0) C0Z ++ (wB cyI cyJ (bV 1) C1Z ++ (wB cyI cyJ (bV 2) C2Z ++ (wB cyI cyJ (bV 3) C3Z ++ [(aO, .inl (cyJ, 1, .inr (.inl vO)))]))))))) s.heap.size = A at hD hZ ⊢
  have hA : ∀ q : Nat, s.heap.size ≤ q → A q := fun q h => by rw [← hAe]; exact Or.inr h
  have hS : va_S A s.heap s.heap [] := va_S.rf
  have hP : va_P (dC, dI) vwCl ((h, .inr (5, [.ref (bA 0), .ref (bB 0), .ref aV, .int xN, .ref yt])) :: (wB cyI cyJ bA AZ ++ ((aV, .inl (cyS, 4, .inr (.inr (.inr (.inr (fun i => some (bV i 0))))))) :: (wB cyI cyJ (bV 0) C0Z ++ (wB cyI cyJ (bV 1) C1Z ++ (wB cyI cyJ (bV 2) C2Z ++ (wB cyI cyJ (bV 3) C3Z ++ [(aO, .inl (cyJ, 1, .inr (.inl vO)))]))))))) s.heap := hP
  have hl := lv_entry ([.ref h, .int w2, .int w3, .int w4, .int w5, .ref aO]) (n := 7) (Nat.le_of_ble_eq_true rfl)
  rw [lg_entry_eq]
  generalize (lg_sl ([.ref h, .int w2, .int w3, .int w4, .int w5, .ref aO]) ++ List.replicate (7 - (lg_sl ([.ref h, .int w2, .int w3, .int w4, .int w5, .ref aO])).length) Slot.unset).toArray = ls at hl ⊢
  have hl : lv_has ls 7 [(0, .ref h), (1, .int w2), (2, .int w3), (3, .int w4), (4, .int w5), (5, .ref aO)] := hl
  have htb := vx_table (x := yL_setPlant) B (hts _ List.mem_cons_self)
  unfold F_L_setPlant at hF
  refine lv_aload hx hb dL_setPlant_0 (lv_at hl 5 rfl) ?_
  refine lv_iconst (v := 0) hx hb dL_setPlant_2 (by decide) ?_
  refine lv_aload_n hx hb dL_setPlant_3 rfl (lv_at hl 0 rfl) ?_
  refine lv_iload_n hx hb dL_setPlant_4 rfl (lv_at hl 1 rfl) ?_
  refine lv_iload_n hx hb dL_setPlant_5 rfl (lv_at hl 2 rfl) ?_
  refine lv_iload_n hx hb dL_setPlant_6 rfl (lv_at hl 3 rfl) ?_
  refine lv_iload hx hb dL_setPlant_7 (lv_at hl 4 rfl) ?_
  obtain ⟨oo1, hoo1, hoo1k⟩ := obl_e hF
  refine x_tryi (wr := [(aO, .inl (cyJ, 1, .inr (.inl vO)))]) (ws' := fun o1 t2 => ((h, .inr (5, [.ref (bA 0), .ref (bB 0), .ref aV, .int o1.2.1, .ref yt])) :: (wB cyI cyJ bA o1.2.2.1 ++ ((aV, .inl (cyS, 4, .inr (.inr (.inr (.inr (fun i => some (t2 i 0))))))) :: (wB cyI cyJ (t2 0) o1.2.2.2.1 ++ (wB cyI cyJ (t2 1) o1.2.2.2.2.1 ++ (wB cyI cyJ (t2 2) o1.2.2.2.2.2.1 ++ (wB cyI cyJ (t2 3) o1.2.2.2.2.2.2 ++ [(aO, .inl (cyJ, 1, .inr (.inl vO)))])))))))) (vx_runV (As := [.int w2, .int w3, .int w4, .int w5]) (rest := [.int 0, .ref aO]) ⟨hx, hb, hml, hown, hts⟩ (c_X5_setPlant l hfl dC dI cyI cyJ cyB cyS cyD h bA bB aV yt bV s.heap.size xN AZ C0Z C1Z C2Z C3Z w2 w3 w4 w5 hoo1) (cwV 4 hts gL_setPlant_X5_setPlant rfl rfl rfl (by decide +kernel) ⟨Nat.le_of_ble_eq_true rfl, Nat.le_of_ble_eq_true rfl⟩) ⟨cPreX_blind, va_recv hK hP (ci := 5) (q0 := 0) rfl rfl, x_preX hN hZ hT hP hD hS hA hK [0, 1, 2, 3, 4, 5, 6, 7, 8, 9, 10, 11, 12, 13, 14, 15, 16, 17, 18, 19, 20, 21, 22, 23, 24, 25, 26, 27, 28, 29, 30, 31, 32, 33, 34, 35, 36, 37, 38, 39, 40, 41, 42, 43, 44, 45, 46, 47, 48, 49, 50, 51, 52, 53, 54, 55, 56, 57, 58, 59, 60, 61, 62, 63, 64, 65, 66, 67, 68, 69, 70, 71, 72, 73, 74, 75, 76] rfl rfl⟩ rfl rfl hl.1 rfl (lv_room (Nat.le_of_ble_eq_true rfl)) dL_setPlant_9 ⟨Nat.le_of_ble_eq_true rfl, Nat.le_of_ble_eq_true rfl⟩) hP hD hS hA [0, 1, 2, 3, 4, 5, 6, 7, 8, 9, 10, 11, 12, 13, 14, 15, 16, 17, 18, 19, 20, 21, 22, 23, 24, 25, 26, 27, 28, 29, 30, 31, 32, 33, 34, 35, 36, 37, 38, 39, 40, 41, 42, 43, 44, 45, 46, 47, 48, 49, 50, 51, 52, 53, 54, 55, 56, 57, 58, 59, 60, 61, 62, 63, 64, 65, 66, 67, 68, 69, 70, 71, 72, 73, 74, 75, 76] [77] [1, 2, 3, 4, 5, 6, 7, 8, 9, 10, 11, 12, 13, 14, 15, 16, 17, 18, 19, 20, 21, 22, 23, 24, 25, 26, 27, 28, 29, 30, 31, 32, 33, 34, 35, 36, 37, 38, 39, 40, 41, 42, 43, 44, 45, 46, 47, 48, 49, 50, 51, 52, 53, 54, 55, 56, 57, 58, 59, 60, 61, 62, 63, 64, 65, 66, 67, 68, 69, 70, 71, 72, 73, 74, 75, 76, 77, 0] rfl rfl rfl (by decide) rfl (fun _ _ => rfl) rfl (fun E9 ce9 q9 H locs hE hP hD hS hce hcv hcl => ?_) (fun o1 t2 H locs hE hP hD hS => ?_)
  · subst hE
    have hF := obl2_r hoo1k
    obtain ⟨hE9, hF⟩ := ck_e hF
    subst hE9
    refine vx_catch hown [] ⟨0, 14, 17, 13⟩ [] htb (fun _ h => nomatch h) (by decide) (by decide) (hts _ kL_setPlant_1) (va_Nw.use rfl (hT.2.1 xIAE (List.mem_of_getElem? (i := 0) rfl))) hce hcv hcl ?_
    refine lv_astore (lv' := [(6, .ref q9), (0, .ref h), (1, .int w2), (2, .int w3), (3, .int w4), (4, .int w5), (5, .ref aO)]) hx hb dL_setPlant_17 hl (by decide) rfl (fun ls hl => ?_)
    refine lv_iconst (v := 1) hx hb dL_setPlant_19 (by decide) ?_
    obtain rfl := some_e hF
    refine W.widen (k := 4) (n := 24) (Nat.le_of_ble_eq_true rfl) (Nat.le_of_ble_eq_true rfl) ?_
    exact W.iret (v := 1) hx hb hr (fun t ht hW => ⟨⟨1, bV, rfl, rfl, ⟨by rw [ht]; exact hP, va_K.moved hW.alike hK, hD⟩⟩, hS.F ht⟩) hS.2.2 dL_setPlant_20
  · subst hE
    have hF := obl2_l hoo1k
    refine lv_i2l (v := o1.1.toInt64) hx hb dL_setPlant_12 rfl ?_
    obtain ⟨v3, hv3, hF⟩ := lt_e hF
    refine x_last (ws' := ((h, .inr (5, [.ref (bA 0), .ref (bB 0), .ref aV, .int o1.2.1, .ref yt])) :: (wB cyI cyJ bA o1.2.2.1 ++ ((aV, .inl (cyS, 4, .inr (.inr (.inr (.inr (fun i => some (t2 i 0))))))) :: (wB cyI cyJ (t2 0) o1.2.2.2.1 ++ (wB cyI cyJ (t2 1) o1.2.2.2.2.1 ++ (wB cyI cyJ (t2 2) o1.2.2.2.2.2.1 ++ (wB cyI cyJ (t2 3) o1.2.2.2.2.2.2 ++ [(aO, .inl (cyJ, 1, .inr (.inl v3)))])))))))) hx hb hK hP hD hS 77 1 rfl rfl (show (0 : Int32).toNatClampNeg = 0 by decide) (inbK (k := 0) (by decide) rfl) hv3 rfl dL_setPlant_13 (fun H locs hP hD hS => ?_)
    refine lv_goto (tgt := 21) hx hb dL_setPlant_14 (by decide) ?_
    refine lv_iconst (v := 0) hx hb dL_setPlant_21 (by decide) ?_
    obtain rfl := some_e hF
    refine W.widen (k := 4) (n := 24) (Nat.le_of_ble_eq_true rfl) (Nat.le_of_ble_eq_true rfl) ?_
    exact W.iret (v := 0) hx hb hr (fun t ht hW => ⟨⟨0, t2, rfl, rfl, ⟨by rw [ht]; exact hP, va_K.moved hW.alike hK, hD⟩⟩, hS.F ht⟩) hS.2.2 dL_setPlant_22
def F_L_seed (xN : Int32) (AZ : ST) (C0Z : ST) (C1Z : ST) (C2Z : ST) (C3Z : ST) (vO : Nat → Int64) (w2 : Int32) (w3 : Int32) : Option (Int32 × Int32 × ST × ST × ST × ST × ST × (Nat → Int64)) := obl (F_X5_seed xN AZ C0Z C1Z C2Z C3Z w2 w3) (fun o1 => lt_ (α := Nat → Int64) (vp_updL vO 0 o1.1.toInt64) (fun v3 => some (0, o1.2.1, o1.2.2.1, o1.2.2.2.1, o1.2.2.2.2.1, o1.2.2.2.2.2.1, o1.2.2.2.2.2.2, v3))) (fun E9 => ck (E9 = xIAE) (some (1, xN, AZ, C0Z, C1Z, C2Z, C3Z, vO)))
theorem kL_seed_1 : (Cond.classLink RL 13 "java/lang/IllegalArgumentException") ∈ wsL_seed := List.mem_of_getElem? (i := 1) rfl
set_option maxHeartbeats 4000000 in
set_option maxRecDepth 100000 in
theorem c_L_seed (l : Launch) (hfl : l.stackTraces = false) (dC : Nat → ClassId) (dI : Nat → Nat → Nat) (cyI cyJ cyB cyS cyD : ClassId) (h : Nat) (bA : Nat → Nat) (bB : Nat → Nat) (aV : Nat) (yt : Nat) (bV : Nat → Nat → Nat) (aO : Nat) (sz : Nat) (xN : Int32) (AZ : ST) (C0Z : ST) (C1Z : ST) (C2Z : ST) (C3Z : ST) (vO : Nat → Int64) (w2 : Int32) (w3 : Int32) {out : Int32 × Int32 × ST × ST × ST × ST × ST × (Nat → Int64)} (hF : F_L_seed xN AZ C0Z C1Z C2Z C3Z vO w2 w3 = some out) : Li l yL_seed wsL_seed ({ frames := 8, cells := 2, slots := 12, locals := 186 } : Room) (dC, dI) [(cyI, .int), (cyJ, .long), (cyB, .byte), (cyS, .object "SelfTuner$State"), (cyD, .double)] sz [.ref h, .int w2, .int w3, .ref aO] ((h, .inr (5, [.ref (bA 0), .ref (bB 0), .ref aV, .int xN, .ref yt])) :: (wB cyI cyJ bA AZ ++ ((aV, .inl (cyS, 4, .inr (.inr (.inr (.inr (fun i => some (bV i 0))))))) :: (wB cyI cyJ (bV 0) C0Z ++ (wB cyI cyJ (bV 1) C1Z ++ (wB cyI cyJ (bV 2) C2Z ++ (wB cyI cyJ (bV 3) C3Z ++ [(aO, .inl (cyJ, 1, .inr (.inl vO)))]))))))) out.1 (fun (bV : Nat → Nat → Nat) => ((h, .inr (5, [.ref (bA 0), .ref (bB 0), .ref aV, .int out.2.1, .ref yt])) :: (wB cyI cyJ bA out.2.2.1 ++ ((aV, .inl (cyS, 4, .inr (.inr (.inr (.inr (fun i => some (bV i 0))))))) :: (wB cyI cyJ (bV 0) out.2.2.2.1 ++ (wB cyI cyJ (bV 1) out.2.2.2.2.1 ++ (wB cyI cyJ (bV 2) out.2.2.2.2.2.1 ++ (wB cyI cyJ (bV 3) out.2.2.2.2.2.2.1 ++ [(aO, .inl (cyJ, 1, .inr (.inl out.2.2.2.2.2.2.2)))])))))))) 2 12 := by
  refine va_MetW (cc := cL_seed) (maxL := 5) (ret := (some .int)) (hh := [(0, 10, 13, 13)]) (by decide) rfl ?_
  intro p e s m args below meth c s₁ B hml hv
  obtain ⟨rfl, ⟨hN, hsz, hP, hK, hD0⟩, hZ, hT⟩ := hv
  have hx := B.exec
  have hb := B.bytes
  have hr := B.returns
  have hts := atoms_spec (ws := wsL_seed) B.pre
  have hown : s.vm.findClass RL = some m.cls := findClass_of_methodNamed B.named
  have hlocks := B.notSynchronized
  subst hsz
  have hD := hD0.self (sz := s.heap.size)
  generalize hAe : va_A ((h, .inr (5, [.ref (bA 0), .ref (bB 0), .ref aV, .int xN, .ref yt])) :: (wB cyI cyJ bA AZ ++ ((aV, .inl (cyS, 4, .inr (.inr (.inr (.inr (fun i => some (bV i 0))))))) :: (wB cyI cyJ (bV 0) C0Z ++ (wB cyI cyJ (bV 1) C1Z ++ (wB cyI cyJ (bV 2) C2Z ++ (wB cyI cyJ (bV 3) C3Z ++ [(aO, .inl (cyJ, 1, .inr (.inl vO)))]))))))) s.heap.size = A at hD hZ ⊢
  have hA : ∀ q : Nat, s.heap.size ≤ q → A q := fun q h => by rw [← hAe]; exact Or.inr h
  have hS : va_S A s.heap s.heap [] := va_S.rf
  have hP : va_P (dC, dI) vwCl ((h, .inr (5, [.ref (bA 0), .ref (bB 0), .ref aV, .int xN, .ref yt])) :: (wB cyI cyJ bA AZ ++ ((aV, .inl (cyS, 4, .inr (.inr (.inr (.inr (fun i => some (bV i 0))))))) :: (wB cyI cyJ (bV 0) C0Z ++ (wB cyI cyJ (bV 1) C1Z ++ (wB cyI cyJ (bV 2) C2Z ++ (wB cyI cyJ (bV 3) C3Z ++ [(aO, .inl (cyJ, 1, .inr (.inl vO)))]))))))) s.heap := hP
  have hl := lv_entry ([.ref h, .int w2, .int w3, .ref aO]) (n := 5) (Nat.le_of_ble_eq_true rfl)
  rw [lg_entry_eq]
  generalize (lg_sl ([.ref h, .int w2, .int w3, .ref aO]) ++ List.replicate (5 - (lg_sl ([.ref h, .int w2, .int w3, .ref aO])).length) Slot.unset).toArray = ls at hl ⊢
  have hl : lv_has ls 5 [(0, .ref h), (1, .int w2), (2, .int w3), (3, .ref aO)] := hl
  have htb := vx_table (x := yL_seed) B (hts _ List.mem_cons_self)
  unfold F_L_seed at hF
  refine lv_aload_n hx hb dL_seed_0 rfl (lv_at hl 3 rfl) ?_
  refine lv_iconst (v := 0) hx hb dL_seed_1 (by decide) ?_
  refine lv_aload_n hx hb dL_seed_2 rfl (lv_at hl 0 rfl) ?_
  refine lv_iload_n hx hb dL_seed_3 rfl (lv_at hl 1 rfl) ?_
  refine lv_iload_n hx hb dL_seed_4 rfl (lv_at hl 2 rfl) ?_
  obtain ⟨oo1, hoo1, hoo1k⟩ := obl_e hF
  refine x_tryi (wr := [(aO, .inl (cyJ, 1, .inr (.inl vO)))]) (ws' := fun o1 t2 => ((h, .inr (5, [.ref (bA 0), .ref (bB 0), .ref aV, .int o1.2.1, .ref yt])) :: (wB cyI cyJ bA o1.2.2.1 ++ ((aV, .inl (cyS, 4, .inr (.inr (.inr (.inr (fun i => some (t2 i 0))))))) :: (wB cyI cyJ (t2 0) o1.2.2.2.1 ++ (wB cyI cyJ (t2 1) o1.2.2.2.2.1 ++ (wB cyI cyJ (t2 2) o1.2.2.2.2.2.1 ++ (wB cyI cyJ (t2 3) o1.2.2.2.2.2.2 ++ [(aO, .inl (cyJ, 1, .inr (.inl vO)))])))))))) (vx_runV (As := [.int w2, .int w3]) (rest := [.int 0, .ref aO]) ⟨hx, hb, hml, hown, hts⟩ (c_X5_seed l hfl dC dI cyI cyJ cyB cyS cyD h bA bB aV yt bV s.heap.size xN AZ C0Z C1Z C2Z C3Z w2 w3 hoo1) (cwV 2 hts gL_seed_X5_seed rfl rfl rfl (by decide +kernel) ⟨Nat.le_of_ble_eq_true rfl, Nat.le_of_ble_eq_true rfl⟩) ⟨cPreX_blind, va_recv hK hP (ci := 5) (q0 := 0) rfl rfl, x_preX hN hZ hT hP hD hS hA hK [0, 1, 2, 3, 4, 5, 6, 7, 8, 9, 10, 11, 12, 13, 14, 15, 16, 17, 18, 19, 20, 21, 22, 23, 24, 25, 26, 27, 28, 29, 30, 31, 32, 33, 34, 35, 36, 37, 38, 39, 40, 41, 42, 43, 44, 45, 46, 47, 48, 49, 50, 51, 52, 53, 54, 55, 56, 57, 58, 59, 60, 61, 62, 63, 64, 65, 66, 67, 68, 69, 70, 71, 72, 73, 74, 75, 76] rfl rfl⟩ rfl rfl hl.1 rfl (lv_room (Nat.le_of_ble_eq_true rfl)) dL_seed_5 ⟨Nat.le_of_ble_eq_true rfl, Nat.le_of_ble_eq_true rfl⟩) hP hD hS hA [0, 1, 2, 3, 4, 5, 6, 7, 8, 9, 10, 11, 12, 13, 14, 15, 16, 17, 18, 19, 20, 21, 22, 23, 24, 25, 26, 27, 28, 29, 30, 31, 32, 33, 34, 35, 36, 37, 38, 39, 40, 41, 42, 43, 44, 45, 46, 47, 48, 49, 50, 51, 52, 53, 54, 55, 56, 57, 58, 59, 60, 61, 62, 63, 64, 65, 66, 67, 68, 69, 70, 71, 72, 73, 74, 75, 76] [77] [1, 2, 3, 4, 5, 6, 7, 8, 9, 10, 11, 12, 13, 14, 15, 16, 17, 18, 19, 20, 21, 22, 23, 24, 25, 26, 27, 28, 29, 30, 31, 32, 33, 34, 35, 36, 37, 38, 39, 40, 41, 42, 43, 44, 45, 46, 47, 48, 49, 50, 51, 52, 53, 54, 55, 56, 57, 58, 59, 60, 61, 62, 63, 64, 65, 66, 67, 68, 69, 70, 71, 72, 73, 74, 75, 76, 77, 0] rfl rfl rfl (by decide) rfl (fun _ _ => rfl) rfl (fun E9 ce9 q9 H locs hE hP hD hS hce hcv hcl => ?_) (fun o1 t2 H locs hE hP hD hS => ?_)
  · subst hE
    have hF := obl2_r hoo1k
    obtain ⟨hE9, hF⟩ := ck_e hF
    subst hE9
    refine vx_catch hown [] ⟨0, 10, 13, 13⟩ [] htb (fun _ h => nomatch h) (by decide) (by decide) (hts _ kL_seed_1) (va_Nw.use rfl (hT.2.1 xIAE (List.mem_of_getElem? (i := 0) rfl))) hce hcv hcl ?_
    refine lv_astore (lv' := [(4, .ref q9), (0, .ref h), (1, .int w2), (2, .int w3), (3, .ref aO)]) hx hb dL_seed_13 hl (by decide) rfl (fun ls hl => ?_)
    refine lv_iconst (v := 1) hx hb dL_seed_15 (by decide) ?_
    obtain rfl := some_e hF
    refine W.widen (k := 2) (n := 12) (Nat.le_of_ble_eq_true rfl) (Nat.le_of_ble_eq_true rfl) ?_
    exact W.iret (v := 1) hx hb hr (fun t ht hW => ⟨⟨1, bV, rfl, rfl, ⟨by rw [ht]; exact hP, va_K.moved hW.alike hK, hD⟩⟩, hS.F ht⟩) hS.2.2 dL_seed_16
  · subst hE
    have hF := obl2_l hoo1k
    refine lv_i2l (v := o1.1.toInt64) hx hb dL_seed_8 rfl ?_
    obtain ⟨v3, hv3, hF⟩ := lt_e hF
    refine x_last (ws' := ((h, .inr (5, [.ref (bA 0), .ref (bB 0), .ref aV, .int o1.2.1, .ref yt])) :: (wB cyI cyJ bA o1.2.2.1 ++ ((aV, .inl (cyS, 4, .inr (.inr (.inr (.inr (fun i => some (t2 i 0))))))) :: (wB cyI cyJ (t2 0) o1.2.2.2.1 ++ (wB cyI cyJ (t2 1) o1.2.2.2.2.1 ++ (wB cyI cyJ (t2 2) o1.2.2.2.2.2.1 ++ (wB cyI cyJ (t2 3) o1.2.2.2.2.2.2 ++ [(aO, .inl (cyJ, 1, .inr (.inl v3)))])))))))) hx hb hK hP hD hS 77 1 rfl rfl (show (0 : Int32).toNatClampNeg = 0 by decide) (inbK (k := 0) (by decide) rfl) hv3 rfl dL_seed_9 (fun H locs hP hD hS => ?_)
    refine lv_goto (tgt := 17) hx hb dL_seed_10 (by decide) ?_
    refine lv_iconst (v := 0) hx hb dL_seed_17 (by decide) ?_
    obtain rfl := some_e hF
    refine W.widen (k := 2) (n := 12) (Nat.le_of_ble_eq_true rfl) (Nat.le_of_ble_eq_true rfl) ?_
    exact W.iret (v := 0) hx hb hr (fun t ht hW => ⟨⟨0, t2, rfl, rfl, ⟨by rw [ht]; exact hP, va_K.moved hW.alike hK, hD⟩⟩, hS.F ht⟩) hS.2.2 dL_seed_18
def F_L_sample (xN : Int32) (AZ : ST) (C0Z : ST) (C1Z : ST) (C2Z : ST) (C3Z : ST) (vO : Nat → Int64) (w2 : Int32) (w3 : Int32) (w4 : Int32) : Option (Int32 × Int32 × ST × ST × ST × ST × ST × (Nat → Int64)) := obl (F_X5_sample xN AZ C0Z C1Z C2Z C3Z w2 w3 w4) (fun o1 => lt_ (α := Nat → Int64) (vp_updL vO 0 o1.1) (fun v3 => some (0, o1.2.1, o1.2.2.1, o1.2.2.2.1, o1.2.2.2.2.1, o1.2.2.2.2.2.1, o1.2.2.2.2.2.2, v3))) (fun E9 => ck (E9 = xIAE) (some (1, xN, AZ, C0Z, C1Z, C2Z, C3Z, vO)))
theorem kL_sample_1 : (Cond.classLink RL 13 "java/lang/IllegalArgumentException") ∈ wsL_sample := List.mem_of_getElem? (i := 1) rfl
set_option maxHeartbeats 4000000 in
set_option maxRecDepth 100000 in
theorem c_L_sample (l : Launch) (hfl : l.stackTraces = false) (dC : Nat → ClassId) (dI : Nat → Nat → Nat) (cyI cyJ cyB cyS cyD : ClassId) (h : Nat) (bA : Nat → Nat) (bB : Nat → Nat) (aV : Nat) (yt : Nat) (bV : Nat → Nat → Nat) (aO : Nat) (sz : Nat) (xN : Int32) (AZ : ST) (C0Z : ST) (C1Z : ST) (C2Z : ST) (C3Z : ST) (vO : Nat → Int64) (w2 : Int32) (w3 : Int32) (w4 : Int32) {out : Int32 × Int32 × ST × ST × ST × ST × ST × (Nat → Int64)} (hF : F_L_sample xN AZ C0Z C1Z C2Z C3Z vO w2 w3 w4 = some out) : Li l yL_sample wsL_sample ({ frames := 9, cells := 3, slots := 18, locals := 186 } : Room) (dC, dI) [(cyI, .int), (cyJ, .long), (cyB, .byte), (cyS, .object "SelfTuner$State"), (cyD, .double)] sz [.ref h, .int w2, .int w3, .int w4, .ref aO] ((h, .inr (5, [.ref (bA 0), .ref (bB 0), .ref aV, .int xN, .ref yt])) :: (wB cyI cyJ bA AZ ++ ((aV, .inl (cyS, 4, .inr (.inr (.inr (.inr (fun i => some (bV i 0))))))) :: (wB cyI cyJ (bV 0) C0Z ++ (wB cyI cyJ (bV 1) C1Z ++ (wB cyI cyJ (bV 2) C2Z ++ (wB cyI cyJ (bV 3) C3Z ++ [(aO, .inl (cyJ, 1, .inr (.inl vO)))]))))))) out.1 (fun (bV : Nat → Nat → Nat) => ((h, .inr (5, [.ref (bA 0), .ref (bB 0), .ref aV, .int out.2.1, .ref yt])) :: (wB cyI cyJ bA out.2.2.1 ++ ((aV, .inl (cyS, 4, .inr (.inr (.inr (.inr (fun i => some (bV i 0))))))) :: (wB cyI cyJ (bV 0) out.2.2.2.1 ++ (wB cyI cyJ (bV 1) out.2.2.2.2.1 ++ (wB cyI cyJ (bV 2) out.2.2.2.2.2.1 ++ (wB cyI cyJ (bV 3) out.2.2.2.2.2.2.1 ++ [(aO, .inl (cyJ, 1, .inr (.inl out.2.2.2.2.2.2.2)))])))))))) 3 18 := by
  refine va_MetW (cc := cL_sample) (maxL := 6) (ret := (some .int)) (hh := [(0, 11, 14, 13)]) (by decide) rfl ?_
  intro p e s m args below meth c s₁ B hml hv
  obtain ⟨rfl, ⟨hN, hsz, hP, hK, hD0⟩, hZ, hT⟩ := hv
  have hx := B.exec
  have hb := B.bytes
  have hr := B.returns
  have hts := atoms_spec (ws := wsL_sample) B.pre
  have hown : s.vm.findClass RL = some m.cls := findClass_of_methodNamed B.named
  have hlocks := B.notSynchronized
  subst hsz
  have hD := hD0.self (sz := s.heap.size)
  generalize hAe : va_A ((h, .inr (5, [.ref (bA 0), .ref (bB 0), .ref aV, .int xN, .ref yt])) :: (wB cyI cyJ bA AZ ++ ((aV, .inl (cyS, 4, .inr (.inr (.inr (.inr (fun i => some (bV i 0))))))) :: (wB cyI cyJ (bV 0) C0Z ++ (wB cyI cyJ (bV 1) C1Z ++ (wB cyI cyJ (bV 2) C2Z ++ (wB cyI cyJ (bV 3) C3Z ++ [(aO, .inl (cyJ, 1, .inr (.inl vO)))]))))))) s.heap.size = A at hD hZ ⊢
  have hA : ∀ q : Nat, s.heap.size ≤ q → A q := fun q h => by rw [← hAe]; exact Or.inr h
  have hS : va_S A s.heap s.heap [] := va_S.rf
  have hP : va_P (dC, dI) vwCl ((h, .inr (5, [.ref (bA 0), .ref (bB 0), .ref aV, .int xN, .ref yt])) :: (wB cyI cyJ bA AZ ++ ((aV, .inl (cyS, 4, .inr (.inr (.inr (.inr (fun i => some (bV i 0))))))) :: (wB cyI cyJ (bV 0) C0Z ++ (wB cyI cyJ (bV 1) C1Z ++ (wB cyI cyJ (bV 2) C2Z ++ (wB cyI cyJ (bV 3) C3Z ++ [(aO, .inl (cyJ, 1, .inr (.inl vO)))]))))))) s.heap := hP
  have hl := lv_entry ([.ref h, .int w2, .int w3, .int w4, .ref aO]) (n := 6) (Nat.le_of_ble_eq_true rfl)
  rw [lg_entry_eq]
  generalize (lg_sl ([.ref h, .int w2, .int w3, .int w4, .ref aO]) ++ List.replicate (6 - (lg_sl ([.ref h, .int w2, .int w3, .int w4, .ref aO])).length) Slot.unset).toArray = ls at hl ⊢
  have hl : lv_has ls 6 [(0, .ref h), (1, .int w2), (2, .int w3), (3, .int w4), (4, .ref aO)] := hl
  have htb := vx_table (x := yL_sample) B (hts _ List.mem_cons_self)
  unfold F_L_sample at hF
  refine lv_aload hx hb dL_sample_0 (lv_at hl 4 rfl) ?_
  refine lv_iconst (v := 0) hx hb dL_sample_2 (by decide) ?_
  refine lv_aload_n hx hb dL_sample_3 rfl (lv_at hl 0 rfl) ?_
  refine lv_iload_n hx hb dL_sample_4 rfl (lv_at hl 1 rfl) ?_
  refine lv_iload_n hx hb dL_sample_5 rfl (lv_at hl 2 rfl) ?_
  refine lv_iload_n hx hb dL_sample_6 rfl (lv_at hl 3 rfl) ?_
  obtain ⟨oo1, hoo1, hoo1k⟩ := obl_e hF
  refine x_tryl (wr := [(aO, .inl (cyJ, 1, .inr (.inl vO)))]) (ws' := fun o1 t2 => ((h, .inr (5, [.ref (bA 0), .ref (bB 0), .ref aV, .int o1.2.1, .ref yt])) :: (wB cyI cyJ bA o1.2.2.1 ++ ((aV, .inl (cyS, 4, .inr (.inr (.inr (.inr (fun i => some (t2 i 0))))))) :: (wB cyI cyJ (t2 0) o1.2.2.2.1 ++ (wB cyI cyJ (t2 1) o1.2.2.2.2.1 ++ (wB cyI cyJ (t2 2) o1.2.2.2.2.2.1 ++ (wB cyI cyJ (t2 3) o1.2.2.2.2.2.2 ++ [(aO, .inl (cyJ, 1, .inr (.inl vO)))])))))))) (vx_runV (As := [.int w2, .int w3, .int w4]) (rest := [.int 0, .ref aO]) ⟨hx, hb, hml, hown, hts⟩ (c_X5_sample l hfl dC dI cyI cyJ cyB cyS cyD h bA bB aV yt bV s.heap.size xN AZ C0Z C1Z C2Z C3Z w2 w3 w4 hoo1) (cwV 3 hts gL_sample_X5_sample rfl rfl rfl (by decide +kernel) ⟨Nat.le_of_ble_eq_true rfl, Nat.le_of_ble_eq_true rfl⟩) ⟨cPreX_blind, va_recv hK hP (ci := 5) (q0 := 0) rfl rfl, x_preX hN hZ hT hP hD hS hA hK [0, 1, 2, 3, 4, 5, 6, 7, 8, 9, 10, 11, 12, 13, 14, 15, 16, 17, 18, 19, 20, 21, 22, 23, 24, 25, 26, 27, 28, 29, 30, 31, 32, 33, 34, 35, 36, 37, 38, 39, 40, 41, 42, 43, 44, 45, 46, 47, 48, 49, 50, 51, 52, 53, 54, 55, 56, 57, 58, 59, 60, 61, 62, 63, 64, 65, 66, 67, 68, 69, 70, 71, 72, 73, 74, 75, 76] rfl rfl⟩ rfl rfl hl.1 rfl (lv_room (Nat.le_of_ble_eq_true rfl)) dL_sample_7 ⟨Nat.le_of_ble_eq_true rfl, Nat.le_of_ble_eq_true rfl⟩) hP hD hS hA [0, 1, 2, 3, 4, 5, 6, 7, 8, 9, 10, 11, 12, 13, 14, 15, 16, 17, 18, 19, 20, 21, 22, 23, 24, 25, 26, 27, 28, 29, 30, 31, 32, 33, 34, 35, 36, 37, 38, 39, 40, 41, 42, 43, 44, 45, 46, 47, 48, 49, 50, 51, 52, 53, 54, 55, 56, 57, 58, 59, 60, 61, 62, 63, 64, 65, 66, 67, 68, 69, 70, 71, 72, 73, 74, 75, 76] [77] [1, 2, 3, 4, 5, 6, 7, 8, 9, 10, 11, 12, 13, 14, 15, 16, 17, 18, 19, 20, 21, 22, 23, 24, 25, 26, 27, 28, 29, 30, 31, 32, 33, 34, 35, 36, 37, 38, 39, 40, 41, 42, 43, 44, 45, 46, 47, 48, 49, 50, 51, 52, 53, 54, 55, 56, 57, 58, 59, 60, 61, 62, 63, 64, 65, 66, 67, 68, 69, 70, 71, 72, 73, 74, 75, 76, 77, 0] rfl rfl rfl (by decide) rfl (fun _ _ => rfl) rfl (fun E9 ce9 q9 H locs hE hP hD hS hce hcv hcl => ?_) (fun o1 t2 H locs hE hP hD hS => ?_)
  · subst hE
    have hF := obl2_r hoo1k
    obtain ⟨hE9, hF⟩ := ck_e hF
    subst hE9
    refine vx_catch hown [] ⟨0, 11, 14, 13⟩ [] htb (fun _ h => nomatch h) (by decide) (by decide) (hts _ kL_sample_1) (va_Nw.use rfl (hT.2.1 xIAE (List.mem_of_getElem? (i := 0) rfl))) hce hcv hcl ?_
    refine lv_astore (lv' := [(5, .ref q9), (0, .ref h), (1, .int w2), (2, .int w3), (3, .int w4), (4, .ref aO)]) hx hb dL_sample_14 hl (by decide) rfl (fun ls hl => ?_)
    refine lv_iconst (v := 1) hx hb dL_sample_16 (by decide) ?_
    obtain rfl := some_e hF
    refine W.widen (k := 3) (n := 18) (Nat.le_of_ble_eq_true rfl) (Nat.le_of_ble_eq_true rfl) ?_
    exact W.iret (v := 1) hx hb hr (fun t ht hW => ⟨⟨1, bV, rfl, rfl, ⟨by rw [ht]; exact hP, va_K.moved hW.alike hK, hD⟩⟩, hS.F ht⟩) hS.2.2 dL_sample_17
  · subst hE
    have hF := obl2_l hoo1k
    obtain ⟨v3, hv3, hF⟩ := lt_e hF
    refine x_last (ws' := ((h, .inr (5, [.ref (bA 0), .ref (bB 0), .ref aV, .int o1.2.1, .ref yt])) :: (wB cyI cyJ bA o1.2.2.1 ++ ((aV, .inl (cyS, 4, .inr (.inr (.inr (.inr (fun i => some (t2 i 0))))))) :: (wB cyI cyJ (t2 0) o1.2.2.2.1 ++ (wB cyI cyJ (t2 1) o1.2.2.2.2.1 ++ (wB cyI cyJ (t2 2) o1.2.2.2.2.2.1 ++ (wB cyI cyJ (t2 3) o1.2.2.2.2.2.2 ++ [(aO, .inl (cyJ, 1, .inr (.inl v3)))])))))))) hx hb hK hP hD hS 77 1 rfl rfl (show (0 : Int32).toNatClampNeg = 0 by decide) (inbK (k := 0) (by decide) rfl) hv3 rfl dL_sample_10 (fun H locs hP hD hS => ?_)
    refine lv_goto (tgt := 18) hx hb dL_sample_11 (by decide) ?_
    refine lv_iconst (v := 0) hx hb dL_sample_18 (by decide) ?_
    obtain rfl := some_e hF
    refine W.widen (k := 3) (n := 18) (Nat.le_of_ble_eq_true rfl) (Nat.le_of_ble_eq_true rfl) ?_
    exact W.iret (v := 0) hx hb hr (fun t ht hW => ⟨⟨0, t2, rfl, rfl, ⟨by rw [ht]; exact hP, va_K.moved hW.alike hK, hD⟩⟩, hS.F ht⟩) hS.2.2 dL_sample_19
def F_L_parameter (AZ : ST) (vO : Nat → Int64) (w2 : Int32) : Option (Int32 × (Nat → Int64)) := obl (F_X5_parameter AZ w2) (fun o1 => lt_ (α := Nat → Int64) (vp_updL vO 0 o1.toInt64) (fun v3 => some (0, v3))) (fun E9 => ck (E9 = xIOB) (some (1, vO)))
theorem kL_parameter_1 : (Cond.classLink RL 23 "java/lang/IndexOutOfBoundsException") ∈ wsL_parameter := List.mem_of_getElem? (i := 1) rfl
set_option maxHeartbeats 4000000 in
set_option maxRecDepth 100000 in
theorem c_L_parameter (l : Launch) (hfl : l.stackTraces = false) (dC : Nat → ClassId) (dI : Nat → Nat → Nat) (cyI cyJ cyB cyS cyD : ClassId) (h : Nat) (bA : Nat → Nat) (bB : Nat → Nat) (aV : Nat) (yt : Nat) (aO : Nat) (sz : Nat) (xN : Int32) (AZ : ST) (vO : Nat → Int64) (w2 : Int32) {out : Int32 × (Nat → Int64)} (hF : F_L_parameter AZ vO w2 = some out) : Li l yL_parameter wsL_parameter ({ frames := 8, cells := 1, slots := 6, locals := 141 } : Room) (dC, dI) [(cyI, .int), (cyJ, .long), (cyB, .byte), (cyS, .object "SelfTuner$State"), (cyD, .double)] sz [.ref h, .int w2, .ref aO] ((h, .inr (5, [.ref (bA 0), .ref (bB 0), .ref aV, .int xN, .ref yt])) :: (wB cyI cyJ bA AZ ++ [(aO, .inl (cyJ, 1, .inr (.inl vO)))])) out.1 (fun (bV : Nat → Nat → Nat) => ((h, .inr (5, [.ref (bA 0), .ref (bB 0), .ref aV, .int xN, .ref yt])) :: (wB cyI cyJ bA AZ ++ [(aO, .inl (cyJ, 1, .inr (.inl out.2)))]))) 1 6 := by
  refine va_MetW (cc := cL_parameter) (maxL := 4) (ret := (some .int)) (hh := [(0, 9, 12, 23)]) (by decide) rfl ?_
  intro p e s m args below meth c s₁ B hml hv
  obtain ⟨rfl, ⟨hN, hsz, hP, hK, hD0⟩, hZ, hT⟩ := hv
  have hx := B.exec
  have hb := B.bytes
  have hr := B.returns
  have hts := atoms_spec (ws := wsL_parameter) B.pre
  have hown : s.vm.findClass RL = some m.cls := findClass_of_methodNamed B.named
  have hlocks := B.notSynchronized
  subst hsz
  have hD := hD0.self (sz := s.heap.size)
  generalize hAe : va_A ((h, .inr (5, [.ref (bA 0), .ref (bB 0), .ref aV, .int xN, .ref yt])) :: (wB cyI cyJ bA AZ ++ [(aO, .inl (cyJ, 1, .inr (.inl vO)))])) s.heap.size = A at hD hZ ⊢
  have hA : ∀ q : Nat, s.heap.size ≤ q → A q := fun q h => by rw [← hAe]; exact Or.inr h
  have hS : va_S A s.heap s.heap [] := va_S.rf
  have hP : va_P (dC, dI) vwCl ((h, .inr (5, [.ref (bA 0), .ref (bB 0), .ref aV, .int xN, .ref yt])) :: (wB cyI cyJ bA AZ ++ [(aO, .inl (cyJ, 1, .inr (.inl vO)))])) s.heap := hP
  have hl := lv_entry ([.ref h, .int w2, .ref aO]) (n := 4) (Nat.le_of_ble_eq_true rfl)
  rw [lg_entry_eq]
  generalize (lg_sl ([.ref h, .int w2, .ref aO]) ++ List.replicate (4 - (lg_sl ([.ref h, .int w2, .ref aO])).length) Slot.unset).toArray = ls at hl ⊢
  have hl : lv_has ls 4 [(0, .ref h), (1, .int w2), (2, .ref aO)] := hl
  have htb := vx_table (x := yL_parameter) B (hts _ List.mem_cons_self)
  unfold F_L_parameter at hF
  refine lv_aload_n hx hb dL_parameter_0 rfl (lv_at hl 2 rfl) ?_
  refine lv_iconst (v := 0) hx hb dL_parameter_1 (by decide) ?_
  refine lv_aload_n hx hb dL_parameter_2 rfl (lv_at hl 0 rfl) ?_
  refine lv_iload_n hx hb dL_parameter_3 rfl (lv_at hl 1 rfl) ?_
  obtain ⟨oo1, hoo1, hoo1k⟩ := obl_e hF
  refine x_tryi (wr := [(aO, .inl (cyJ, 1, .inr (.inl vO)))]) (rv := fun o1 => o1) (ws' := fun o1 t2 => ((h, .inr (5, [.ref (bA 0), .ref (bB 0), .ref aV, .int xN, .ref yt])) :: (wB cyI cyJ bA AZ ++ [(aO, .inl (cyJ, 1, .inr (.inl vO)))]))) (vx_runV (As := [.int w2]) (rest := [.int 0, .ref aO]) ⟨hx, hb, hml, hown, hts⟩ (c_X5_parameter l hfl dC dI cyI cyJ cyB cyS cyD h bA bB aV yt s.heap.size xN AZ w2 hoo1) (cwV 1 hts gL_parameter_X5_parameter rfl rfl rfl (by decide +kernel) ⟨Nat.le_of_ble_eq_true rfl, Nat.le_of_ble_eq_true rfl⟩) ⟨cPreX_blind, va_recv hK hP (ci := 5) (q0 := 0) rfl rfl, x_preX hN hZ hT hP hD hS hA hK [0, 1, 2, 3, 4, 5, 6, 7, 8, 9, 10, 11, 12, 13, 14, 15] rfl rfl⟩ rfl rfl hl.1 rfl (lv_room (Nat.le_of_ble_eq_true rfl)) dL_parameter_4 ⟨Nat.le_of_ble_eq_true rfl, Nat.le_of_ble_eq_true rfl⟩) hP hD hS hA [0, 1, 2, 3, 4, 5, 6, 7, 8, 9, 10, 11, 12, 13, 14, 15] [16] [1, 2, 3, 4, 5, 6, 7, 8, 9, 10, 11, 12, 13, 14, 15, 16, 0] rfl rfl rfl (by decide) rfl (fun _ _ => rfl) rfl (fun E9 ce9 q9 H locs hE hP hD hS hce hcv hcl => ?_) (fun o1 t2 H locs hE hP hD hS => ?_)
  · subst hE
    have hF := obl2_r hoo1k
    obtain ⟨hE9, hF⟩ := ck_e hF
    subst hE9
    refine vx_catch hown [] ⟨0, 9, 12, 23⟩ [] htb (fun _ h => nomatch h) (by decide) (by decide) (hts _ kL_parameter_1) (va_Nw.use rfl (hT.2.1 xIOB (List.mem_of_getElem? (i := 1) rfl))) hce hcv hcl ?_
    refine lv_astore_n (lv' := [(3, .ref q9), (0, .ref h), (1, .int w2), (2, .ref aO)]) hx hb dL_parameter_12 rfl hl (by decide) rfl (fun ls hl => ?_)
    refine lv_iconst (v := 1) hx hb dL_parameter_13 (by decide) ?_
    obtain rfl := some_e hF
    refine W.widen (k := 1) (n := 6) (Nat.le_of_ble_eq_true rfl) (Nat.le_of_ble_eq_true rfl) ?_
    exact W.iret (v := 1) hx hb hr (fun t ht hW => ⟨⟨1, (fun _ _ => 0), rfl, rfl, ⟨by rw [ht]; exact hP, va_K.moved hW.alike hK, hD⟩⟩, hS.F ht⟩) hS.2.2 dL_parameter_14
  · subst hE
    have hF := obl2_l hoo1k
    refine lv_i2l (v := o1.toInt64) hx hb dL_parameter_7 rfl ?_
    obtain ⟨v3, hv3, hF⟩ := lt_e hF
    refine x_last (ws' := ((h, .inr (5, [.ref (bA 0), .ref (bB 0), .ref aV, .int xN, .ref yt])) :: (wB cyI cyJ bA AZ ++ [(aO, .inl (cyJ, 1, .inr (.inl v3)))]))) hx hb hK hP hD hS 16 1 rfl rfl (show (0 : Int32).toNatClampNeg = 0 by decide) (inbK (k := 0) (by decide) rfl) hv3 rfl dL_parameter_8 (fun H locs hP hD hS => ?_)
    refine lv_goto (tgt := 15) hx hb dL_parameter_9 (by decide) ?_
    refine lv_iconst (v := 0) hx hb dL_parameter_15 (by decide) ?_
    obtain rfl := some_e hF
    refine W.widen (k := 1) (n := 6) (Nat.le_of_ble_eq_true rfl) (Nat.le_of_ble_eq_true rfl) ?_
    exact W.iret (v := 0) hx hb hr (fun t ht hW => ⟨⟨0, (fun _ _ => 0), rfl, rfl, ⟨by rw [ht]; exact hP, va_K.moved hW.alike hK, hD⟩⟩, hS.F ht⟩) hS.2.2 dL_parameter_16
def F_L_covariance (AZ : ST) (vO : Nat → Int64) (w2 : Int32) (w3 : Int32) : Option (Int32 × (Nat → Int64)) := obl (F_X5_covariance AZ w2 w3) (fun o1 => lt_ (α := Nat → Int64) (vp_updL vO 0 o1) (fun v3 => some (0, v3))) (fun E9 => ck (E9 = xIOB) (some (1, vO)))
theorem kL_covariance_1 : (Cond.classLink RL 23 "java/lang/IndexOutOfBoundsException") ∈ wsL_covariance := List.mem_of_getElem? (i := 1) rfl
set_option maxHeartbeats 4000000 in
set_option maxRecDepth 100000 in
theorem c_L_covariance (l : Launch) (hfl : l.stackTraces = false) (dC : Nat → ClassId) (dI : Nat → Nat → Nat) (cyI cyJ cyB cyS cyD : ClassId) (h : Nat) (bA : Nat → Nat) (bB : Nat → Nat) (aV : Nat) (yt : Nat) (aO : Nat) (sz : Nat) (xN : Int32) (AZ : ST) (vO : Nat → Int64) (w2 : Int32) (w3 : Int32) {out : Int32 × (Nat → Int64)} (hF : F_L_covariance AZ vO w2 w3 = some out) : Li l yL_covariance wsL_covariance ({ frames := 8, cells := 2, slots := 12, locals := 142 } : Room) (dC, dI) [(cyI, .int), (cyJ, .long), (cyB, .byte), (cyS, .object "SelfTuner$State"), (cyD, .double)] sz [.ref h, .int w2, .int w3, .ref aO] ((h, .inr (5, [.ref (bA 0), .ref (bB 0), .ref aV, .int xN, .ref yt])) :: (wB cyI cyJ bA AZ ++ [(aO, .inl (cyJ, 1, .inr (.inl vO)))])) out.1 (fun (bV : Nat → Nat → Nat) => ((h, .inr (5, [.ref (bA 0), .ref (bB 0), .ref aV, .int xN, .ref yt])) :: (wB cyI cyJ bA AZ ++ [(aO, .inl (cyJ, 1, .inr (.inl out.2)))]))) 2 12 := by
  refine va_MetW (cc := cL_covariance) (maxL := 5) (ret := (some .int)) (hh := [(0, 9, 12, 23)]) (by decide) rfl ?_
  intro p e s m args below meth c s₁ B hml hv
  obtain ⟨rfl, ⟨hN, hsz, hP, hK, hD0⟩, hZ, hT⟩ := hv
  have hx := B.exec
  have hb := B.bytes
  have hr := B.returns
  have hts := atoms_spec (ws := wsL_covariance) B.pre
  have hown : s.vm.findClass RL = some m.cls := findClass_of_methodNamed B.named
  have hlocks := B.notSynchronized
  subst hsz
  have hD := hD0.self (sz := s.heap.size)
  generalize hAe : va_A ((h, .inr (5, [.ref (bA 0), .ref (bB 0), .ref aV, .int xN, .ref yt])) :: (wB cyI cyJ bA AZ ++ [(aO, .inl (cyJ, 1, .inr (.inl vO)))])) s.heap.size = A at hD hZ ⊢
  have hA : ∀ q : Nat, s.heap.size ≤ q → A q := fun q h => by rw [← hAe]; exact Or.inr h
  have hS : va_S A s.heap s.heap [] := va_S.rf
  have hP : va_P (dC, dI) vwCl ((h, .inr (5, [.ref (bA 0), .ref (bB 0), .ref aV, .int xN, .ref yt])) :: (wB cyI cyJ bA AZ ++ [(aO, .inl (cyJ, 1, .inr (.inl vO)))])) s.heap := hP
  have hl := lv_entry ([.ref h, .int w2, .int w3, .ref aO]) (n := 5) (Nat.le_of_ble_eq_true rfl)
  rw [lg_entry_eq]
  generalize (lg_sl ([.ref h, .int w2, .int w3, .ref aO]) ++ List.replicate (5 - (lg_sl ([.ref h, .int w2, .int w3, .ref aO])).length) Slot.unset).toArray = ls at hl ⊢
  have hl : lv_has ls 5 [(0, .ref h), (1, .int w2), (2, .int w3), (3, .ref aO)] := hl
  have htb := vx_table (x := yL_covariance) B (hts _ List.mem_cons_self)
  unfold F_L_covariance at hF
  refine lv_aload_n hx hb dL_covariance_0 rfl (lv_at hl 3 rfl) ?_
  refine lv_iconst (v := 0) hx hb dL_covariance_1 (by decide) ?_
  refine lv_aload_n hx hb dL_covariance_2 rfl (lv_at hl 0 rfl) ?_
  refine lv_iload_n hx hb dL_covariance_3 rfl (lv_at hl 1 rfl) ?_
  refine lv_iload_n hx hb dL_covariance_4 rfl (lv_at hl 2 rfl) ?_
  obtain ⟨oo1, hoo1, hoo1k⟩ := obl_e hF
  refine x_tryl (wr := [(aO, .inl (cyJ, 1, .inr (.inl vO)))]) (rv := fun o1 => o1) (ws' := fun o1 t2 => ((h, .inr (5, [.ref (bA 0), .ref (bB 0), .ref aV, .int xN, .ref yt])) :: (wB cyI cyJ bA AZ ++ [(aO, .inl (cyJ, 1, .inr (.inl vO)))]))) (vx_runV (As := [.int w2, .int w3]) (rest := [.int 0, .ref aO]) ⟨hx, hb, hml, hown, hts⟩ (c_X5_covariance l hfl dC dI cyI cyJ cyB cyS cyD h bA bB aV yt s.heap.size xN AZ w2 w3 hoo1) (cwV 2 hts gL_covariance_X5_covariance rfl rfl rfl (by decide +kernel) ⟨Nat.le_of_ble_eq_true rfl, Nat.le_of_ble_eq_true rfl⟩) ⟨cPreX_blind, va_recv hK hP (ci := 5) (q0 := 0) rfl rfl, x_preX hN hZ hT hP hD hS hA hK [0, 1, 2, 3, 4, 5, 6, 7, 8, 9, 10, 11, 12, 13, 14, 15] rfl rfl⟩ rfl rfl hl.1 rfl (lv_room (Nat.le_of_ble_eq_true rfl)) dL_covariance_5 ⟨Nat.le_of_ble_eq_true rfl, Nat.le_of_ble_eq_true rfl⟩) hP hD hS hA [0, 1, 2, 3, 4, 5, 6, 7, 8, 9, 10, 11, 12, 13, 14, 15] [16] [1, 2, 3, 4, 5, 6, 7, 8, 9, 10, 11, 12, 13, 14, 15, 16, 0] rfl rfl rfl (by decide) rfl (fun _ _ => rfl) rfl (fun E9 ce9 q9 H locs hE hP hD hS hce hcv hcl => ?_) (fun o1 t2 H locs hE hP hD hS => ?_)
  · subst hE
    have hF := obl2_r hoo1k
    obtain ⟨hE9, hF⟩ := ck_e hF
    subst hE9
    refine vx_catch hown [] ⟨0, 9, 12, 23⟩ [] htb (fun _ h => nomatch h) (by decide) (by decide) (hts _ kL_covariance_1) (va_Nw.use rfl (hT.2.1 xIOB (List.mem_of_getElem? (i := 1) rfl))) hce hcv hcl ?_
    refine lv_astore (lv' := [(4, .ref q9), (0, .ref h), (1, .int w2), (2, .int w3), (3, .ref aO)]) hx hb dL_covariance_12 hl (by decide) rfl (fun ls hl => ?_)
    refine lv_iconst (v := 1) hx hb dL_covariance_14 (by decide) ?_
    obtain rfl := some_e hF
    refine W.widen (k := 2) (n := 12) (Nat.le_of_ble_eq_true rfl) (Nat.le_of_ble_eq_true rfl) ?_
    exact W.iret (v := 1) hx hb hr (fun t ht hW => ⟨⟨1, (fun _ _ => 0), rfl, rfl, ⟨by rw [ht]; exact hP, va_K.moved hW.alike hK, hD⟩⟩, hS.F ht⟩) hS.2.2 dL_covariance_15
  · subst hE
    have hF := obl2_l hoo1k
    obtain ⟨v3, hv3, hF⟩ := lt_e hF
    refine x_last (ws' := ((h, .inr (5, [.ref (bA 0), .ref (bB 0), .ref aV, .int xN, .ref yt])) :: (wB cyI cyJ bA AZ ++ [(aO, .inl (cyJ, 1, .inr (.inl v3)))]))) hx hb hK hP hD hS 16 1 rfl rfl (show (0 : Int32).toNatClampNeg = 0 by decide) (inbK (k := 0) (by decide) rfl) hv3 rfl dL_covariance_8 (fun H locs hP hD hS => ?_)
    refine lv_goto (tgt := 16) hx hb dL_covariance_9 (by decide) ?_
    refine lv_iconst (v := 0) hx hb dL_covariance_16 (by decide) ?_
    obtain rfl := some_e hF
    refine W.widen (k := 2) (n := 12) (Nat.le_of_ble_eq_true rfl) (Nat.le_of_ble_eq_true rfl) ?_
    exact W.iret (v := 0) hx hb hr (fun t ht hW => ⟨⟨0, (fun _ _ => 0), rfl, rfl, ⟨by rw [ht]; exact hP, va_K.moved hW.alike hK, hD⟩⟩, hS.F ht⟩) hS.2.2 dL_covariance_17
def F_L_count (AZ : ST) (vO : Nat → Int64) (w2 : Int32) : Option (Int32 × (Nat → Int64)) := obl (F_X5_count AZ w2) (fun o1 => lt_ (α := Nat → Int64) (vp_updL vO 0 o1.toInt64) (fun v3 => some (0, v3))) (fun E9 => ck (E9 = xIAE) (some (1, vO)))
theorem kL_count_1 : (Cond.classLink RL 13 "java/lang/IllegalArgumentException") ∈ wsL_count := List.mem_of_getElem? (i := 1) rfl
set_option maxHeartbeats 4000000 in
set_option maxRecDepth 100000 in
theorem c_L_count (l : Launch) (hfl : l.stackTraces = false) (dC : Nat → ClassId) (dI : Nat → Nat → Nat) (cyI cyJ cyB cyS cyD : ClassId) (h : Nat) (bA : Nat → Nat) (bB : Nat → Nat) (aV : Nat) (yt : Nat) (aO : Nat) (sz : Nat) (xN : Int32) (AZ : ST) (vO : Nat → Int64) (w2 : Int32) {out : Int32 × (Nat → Int64)} (hF : F_L_count AZ vO w2 = some out) : Li l yL_count wsL_count ({ frames := 8, cells := 1, slots := 6, locals := 143 } : Room) (dC, dI) [(cyI, .int), (cyJ, .long), (cyB, .byte), (cyS, .object "SelfTuner$State"), (cyD, .double)] sz [.ref h, .int w2, .ref aO] ((h, .inr (5, [.ref (bA 0), .ref (bB 0), .ref aV, .int xN, .ref yt])) :: (wB cyI cyJ bA AZ ++ [(aO, .inl (cyJ, 1, .inr (.inl vO)))])) out.1 (fun (bV : Nat → Nat → Nat) => ((h, .inr (5, [.ref (bA 0), .ref (bB 0), .ref aV, .int xN, .ref yt])) :: (wB cyI cyJ bA AZ ++ [(aO, .inl (cyJ, 1, .inr (.inl out.2)))]))) 1 6 := by
  refine va_MetW (cc := cL_count) (maxL := 4) (ret := (some .int)) (hh := [(0, 9, 12, 13)]) (by decide) rfl ?_
  intro p e s m args below meth c s₁ B hml hv
  obtain ⟨rfl, ⟨hN, hsz, hP, hK, hD0⟩, hZ, hT⟩ := hv
  have hx := B.exec
  have hb := B.bytes
  have hr := B.returns
  have hts := atoms_spec (ws := wsL_count) B.pre
  have hown : s.vm.findClass RL = some m.cls := findClass_of_methodNamed B.named
  have hlocks := B.notSynchronized
  subst hsz
  have hD := hD0.self (sz := s.heap.size)
  generalize hAe : va_A ((h, .inr (5, [.ref (bA 0), .ref (bB 0), .ref aV, .int xN, .ref yt])) :: (wB cyI cyJ bA AZ ++ [(aO, .inl (cyJ, 1, .inr (.inl vO)))])) s.heap.size = A at hD hZ ⊢
  have hA : ∀ q : Nat, s.heap.size ≤ q → A q := fun q h => by rw [← hAe]; exact Or.inr h
  have hS : va_S A s.heap s.heap [] := va_S.rf
  have hP : va_P (dC, dI) vwCl ((h, .inr (5, [.ref (bA 0), .ref (bB 0), .ref aV, .int xN, .ref yt])) :: (wB cyI cyJ bA AZ ++ [(aO, .inl (cyJ, 1, .inr (.inl vO)))])) s.heap := hP
  have hl := lv_entry ([.ref h, .int w2, .ref aO]) (n := 4) (Nat.le_of_ble_eq_true rfl)
  rw [lg_entry_eq]
  generalize (lg_sl ([.ref h, .int w2, .ref aO]) ++ List.replicate (4 - (lg_sl ([.ref h, .int w2, .ref aO])).length) Slot.unset).toArray = ls at hl ⊢
  have hl : lv_has ls 4 [(0, .ref h), (1, .int w2), (2, .ref aO)] := hl
  have htb := vx_table (x := yL_count) B (hts _ List.mem_cons_self)
  unfold F_L_count at hF
  refine lv_aload_n hx hb dL_count_0 rfl (lv_at hl 2 rfl) ?_
  refine lv_iconst (v := 0) hx hb dL_count_1 (by decide) ?_
  refine lv_aload_n hx hb dL_count_2 rfl (lv_at hl 0 rfl) ?_
  refine lv_iload_n hx hb dL_count_3 rfl (lv_at hl 1 rfl) ?_
  obtain ⟨oo1, hoo1, hoo1k⟩ := obl_e hF
  refine x_tryi (wr := [(aO, .inl (cyJ, 1, .inr (.inl vO)))]) (rv := fun o1 => o1) (ws' := fun o1 t2 => ((h, .inr (5, [.ref (bA 0), .ref (bB 0), .ref aV, .int xN, .ref yt])) :: (wB cyI cyJ bA AZ ++ [(aO, .inl (cyJ, 1, .inr (.inl vO)))]))) (vx_runV (As := [.int w2]) (rest := [.int 0, .ref aO]) ⟨hx, hb, hml, hown, hts⟩ (c_X5_count l hfl dC dI cyI cyJ cyB cyS cyD h bA bB aV yt s.heap.size xN AZ w2 hoo1) (cwV 1 hts gL_count_X5_count rfl rfl rfl (by decide +kernel) ⟨Nat.le_of_ble_eq_true rfl, Nat.le_of_ble_eq_true rfl⟩) ⟨cPreX_blind, va_recv hK hP (ci := 5) (q0 := 0) rfl rfl, x_preX hN hZ hT hP hD hS hA hK [0, 1, 2, 3, 4, 5, 6, 7, 8, 9, 10, 11, 12, 13, 14, 15] rfl rfl⟩ rfl rfl hl.1 rfl (lv_room (Nat.le_of_ble_eq_true rfl)) dL_count_4 ⟨Nat.le_of_ble_eq_true rfl, Nat.le_of_ble_eq_true rfl⟩) hP hD hS hA [0, 1, 2, 3, 4, 5, 6, 7, 8, 9, 10, 11, 12, 13, 14, 15] [16] [1, 2, 3, 4, 5, 6, 7, 8, 9, 10, 11, 12, 13, 14, 15, 16, 0] rfl rfl rfl (by decide) rfl (fun _ _ => rfl) rfl (fun E9 ce9 q9 H locs hE hP hD hS hce hcv hcl => ?_) (fun o1 t2 H locs hE hP hD hS => ?_)
  · subst hE
    have hF := obl2_r hoo1k
    obtain ⟨hE9, hF⟩ := ck_e hF
    subst hE9
    refine vx_catch hown [] ⟨0, 9, 12, 13⟩ [] htb (fun _ h => nomatch h) (by decide) (by decide) (hts _ kL_count_1) (va_Nw.use rfl (hT.2.1 xIAE (List.mem_of_getElem? (i := 0) rfl))) hce hcv hcl ?_
    refine lv_astore_n (lv' := [(3, .ref q9), (0, .ref h), (1, .int w2), (2, .ref aO)]) hx hb dL_count_12 rfl hl (by decide) rfl (fun ls hl => ?_)
    refine lv_iconst (v := 1) hx hb dL_count_13 (by decide) ?_
    obtain rfl := some_e hF
    refine W.widen (k := 1) (n := 6) (Nat.le_of_ble_eq_true rfl) (Nat.le_of_ble_eq_true rfl) ?_
    exact W.iret (v := 1) hx hb hr (fun t ht hW => ⟨⟨1, (fun _ _ => 0), rfl, rfl, ⟨by rw [ht]; exact hP, va_K.moved hW.alike hK, hD⟩⟩, hS.F ht⟩) hS.2.2 dL_count_14
  · subst hE
    have hF := obl2_l hoo1k
    refine lv_i2l (v := o1.toInt64) hx hb dL_count_7 rfl ?_
    obtain ⟨v3, hv3, hF⟩ := lt_e hF
    refine x_last (ws' := ((h, .inr (5, [.ref (bA 0), .ref (bB 0), .ref aV, .int xN, .ref yt])) :: (wB cyI cyJ bA AZ ++ [(aO, .inl (cyJ, 1, .inr (.inl v3)))]))) hx hb hK hP hD hS 16 1 rfl rfl (show (0 : Int32).toNatClampNeg = 0 by decide) (inbK (k := 0) (by decide) rfl) hv3 rfl dL_count_8 (fun H locs hP hD hS => ?_)
    refine lv_goto (tgt := 15) hx hb dL_count_9 (by decide) ?_
    refine lv_iconst (v := 0) hx hb dL_count_15 (by decide) ?_
    obtain rfl := some_e hF
    refine W.widen (k := 1) (n := 6) (Nat.le_of_ble_eq_true rfl) (Nat.le_of_ble_eq_true rfl) ?_
    exact W.iret (v := 0) hx hb hr (fun t ht hW => ⟨⟨0, (fun _ _ => 0), rfl, rfl, ⟨by rw [ht]; exact hP, va_K.moved hW.alike hK, hD⟩⟩, hS.F ht⟩) hS.2.2 dL_count_16
