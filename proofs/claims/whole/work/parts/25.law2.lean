def F_L_predict (AZ : ST) (vO : Nat → Int64) (w2 : Int32) (w3 : Int32) : Option (Int32 × (Nat → Int64)) := obl (F_X5_predict AZ w2 w3) (fun o1 => lt_ (α := Nat → Int64) (vp_updL vO 0 o1) (fun v3 => some (0, v3))) (fun E9 => ck (E9 = xIAE) (some (1, vO)))
theorem kL_predict_1 : (Cond.classLink RL 13 "java/lang/IllegalArgumentException") ∈ wsL_predict := List.mem_of_getElem? (i := 1) rfl
set_option maxHeartbeats 4000000 in
set_option maxRecDepth 100000 in
theorem c_L_predict (l : Launch) (hfl : l.stackTraces = false) (dC : Nat → ClassId) (dI : Nat → Nat → Nat) (cyI cyJ cyB cyS cyD : ClassId) (h : Nat) (bA : Nat → Nat) (bB : Nat → Nat) (aV : Nat) (yt : Nat) (aO : Nat) (sz : Nat) (xN : Int32) (AZ : ST) (vO : Nat → Int64) (w2 : Int32) (w3 : Int32) {out : Int32 × (Nat → Int64)} (hF : F_L_predict AZ vO w2 w3 = some out) : Li l yL_predict wsL_predict ({ frames := 9, cells := 2, slots := 12, locals := 164 } : Room) (dC, dI) [(cyI, .int), (cyJ, .long), (cyB, .byte), (cyS, .object "SelfTuner$State"), (cyD, .double)] sz [.ref h, .int w2, .int w3, .ref aO] ((h, .inr (5, [.ref (bA 0), .ref (bB 0), .ref aV, .int xN, .ref yt])) :: (wB cyI cyJ bA AZ ++ [(aO, .inl (cyJ, 1, .inr (.inl vO)))])) out.1 (fun (bV : Nat → Nat → Nat) => ((h, .inr (5, [.ref (bA 0), .ref (bB 0), .ref aV, .int xN, .ref yt])) :: (wB cyI cyJ bA AZ ++ [(aO, .inl (cyJ, 1, .inr (.inl out.2)))]))) 2 12 := by
  refine va_MetW (cc := cL_predict) (maxL := 5) (ret := (some .int)) (hh := [(0, 9, 12, 13)]) (by decide) rfl ?_
  intro p e s m args below meth c s₁ B hml hv
  obtain ⟨rfl, ⟨hN, hsz, hP, hK, hD0⟩, hZ, hT⟩ := hv
  have hx := B.exec
  have hb := B.bytes
  have hr := B.returns
  have hts := atoms_spec (ws := wsL_predict) B.pre
  have hown : s.vm.findClass RL = some m.cls := findClass_of_methodNamed B.named
  have hlocks := B.notSynchronized
  subst hsz
  have hD := hD0.self (sz := s.heap.size)
  generalize hAe : va_A ((h, .inr (5, [.ref (bA 0), .ref (bB 0), .ref aV, .int xN, .ref yt])) :: (wB cyI cyJ bA AZ ++ [(aO, .inl (cyJ, 1, .inr (.inl vO)))])) s.heap.size = A at hD hZ ⊢
  have hA : ∀ q : Nat, s.heap.size ≤ q → A q := fun q h => by rw [← hAe]; exact Or.inr h
  have hS : va_S A s.heap s.heap [] := va_S.rf
  have hP : va_P (dC, dI) vwCl ((h, .inr (5, [.ref (bA 0), .ref (bB 0), .ref aV, .int xN, .ref yt])) :: (wB cyI cyJ bA AZ ++ [(aO, .inl (cyJ, 1, .inr (.inl vO)))])) s.heap := hP
  have hl := lv_entry ([.ref h, .int w2, .int w3, .ref aO]) (n := 5) (Nat.le_of_ble_eq_true rfl)
  rw [lg_entry_eq]
  generalize (lg_sl ([.ref h, .int w2, .int w3, .ref aO]) ++ List.replicate (5 - (lg_sl ([.ref h, .int w2, .int w3, .ref aO])).length) Slot.unset).toArray = ls at hl ⊢
  have hl : lv_has ls 5 [(0, .ref h), (1, .int w2), (2, .int w3), (3, .ref aO)] := hl
  have htb := vx_table (x := yL_predict) B (hts _ List.mem_cons_self)
  unfold F_L_predict at hF
  refine lv_aload_n hx hb dL_predict_0 rfl (lv_at hl 3 rfl) ?_
  refine lv_iconst (v := 0) hx hb dL_predict_1 (by decide) ?_
  refine lv_aload_n hx hb dL_predict_2 rfl (lv_at hl 0 rfl) ?_
  refine lv_iload_n hx hb dL_predict_3 rfl (lv_at hl 1 rfl) ?_
  refine lv_iload_n hx hb dL_predict_4 rfl (lv_at hl 2 rfl) ?_
  obtain ⟨oo1, hoo1, hoo1k⟩ := obl_e hF
  refine x_tryl (wr := [(aO, .inl (cyJ, 1, .inr (.inl vO)))]) (rv := fun o1 => o1) (ws' := fun o1 t2 => ((h, .inr (5, [.ref (bA 0), .ref (bB 0), .ref aV, .int xN, .ref yt])) :: (wB cyI cyJ bA AZ ++ [(aO, .inl (cyJ, 1, .inr (.inl vO)))]))) (vx_runV (As := [.int w2, .int w3]) (rest := [.int 0, .ref aO]) ⟨hx, hb, hml, hown, hts⟩ (c_X5_predict l hfl dC dI cyI cyJ cyB cyS cyD h bA bB aV yt s.heap.size xN AZ w2 w3 hoo1) (cwV 2 hts gL_predict_X5_predict rfl rfl rfl (by decide +kernel) ⟨Nat.le_of_ble_eq_true rfl, Nat.le_of_ble_eq_true rfl⟩) ⟨cPreX_blind, va_recv hK hP (ci := 5) (q0 := 0) rfl rfl, x_preX hN hZ hT hP hD hS hA hK [0, 1, 2, 3, 4, 5, 6, 7, 8, 9, 10, 11, 12, 13, 14, 15] rfl rfl⟩ rfl rfl hl.1 rfl (lv_room (Nat.le_of_ble_eq_true rfl)) dL_predict_5 ⟨Nat.le_of_ble_eq_true rfl, Nat.le_of_ble_eq_true rfl⟩) hP hD hS hA [0, 1, 2, 3, 4, 5, 6, 7, 8, 9, 10, 11, 12, 13, 14, 15] [16] [1, 2, 3, 4, 5, 6, 7, 8, 9, 10, 11, 12, 13, 14, 15, 16, 0] rfl rfl rfl (by decide) rfl (fun _ _ => rfl) rfl (fun E9 ce9 q9 H locs hE hP hD hS hce hcv hcl => ?_) (fun o1 t2 H locs hE hP hD hS => ?_)
  · subst hE
    have hF := obl2_r hoo1k
    obtain ⟨hE9, hF⟩ := ck_e hF
    subst hE9
    refine vx_catch hown [] ⟨0, 9, 12, 13⟩ [] htb (fun _ h => nomatch h) (by decide) (by decide) (hts _ kL_predict_1) (va_Nw.use rfl (hT.2.1 xIAE (List.mem_of_getElem? (i := 0) rfl))) hce hcv hcl ?_
    refine lv_astore (lv' := [(4, .ref q9), (0, .ref h), (1, .int w2), (2, .int w3), (3, .ref aO)]) hx hb dL_predict_12 hl (by decide) rfl (fun ls hl => ?_)
    refine lv_iconst (v := 1) hx hb dL_predict_14 (by decide) ?_
    obtain rfl := some_e hF
    refine W.widen (k := 2) (n := 12) (Nat.le_of_ble_eq_true rfl) (Nat.le_of_ble_eq_true rfl) ?_
    exact W.iret (v := 1) hx hb hr (fun t ht hW => ⟨⟨1, (fun _ _ => 0), rfl, rfl, ⟨by rw [ht]; exact hP, va_K.moved hW.alike hK, hD⟩⟩, hS.F ht⟩) hS.2.2 dL_predict_15
  · subst hE
    have hF := obl2_l hoo1k
    obtain ⟨v3, hv3, hF⟩ := lt_e hF
    refine x_last (ws' := ((h, .inr (5, [.ref (bA 0), .ref (bB 0), .ref aV, .int xN, .ref yt])) :: (wB cyI cyJ bA AZ ++ [(aO, .inl (cyJ, 1, .inr (.inl v3)))]))) hx hb hK hP hD hS 16 1 rfl rfl (show (0 : Int32).toNatClampNeg = 0 by decide) (inbK (k := 0) (by decide) rfl) hv3 rfl dL_predict_8 (fun H locs hP hD hS => ?_)
    refine lv_goto (tgt := 16) hx hb dL_predict_9 (by decide) ?_
    refine lv_iconst (v := 0) hx hb dL_predict_16 (by decide) ?_
    obtain rfl := some_e hF
    refine W.widen (k := 2) (n := 12) (Nat.le_of_ble_eq_true rfl) (Nat.le_of_ble_eq_true rfl) ?_
    exact W.iret (v := 0) hx hb hr (fun t ht hW => ⟨⟨0, (fun _ _ => 0), rfl, rfl, ⟨by rw [ht]; exact hP, va_K.moved hW.alike hK, hD⟩⟩, hS.F ht⟩) hS.2.2 dL_predict_17
def F_L_uncertainty (AZ : ST) (vD : Nat → UInt64) (w2 : Int32) (w3 : Int32) : Option (Int32 × ST × (Nat → UInt64)) := obl (F_X5_uncertainty AZ w2 w3) (fun o1 => lt_ (α := Nat → UInt64) (vf_upd vD 0 o1.1) (fun v3 => some (0, o1.2, v3))) (fun E9 => ck (E9 = xIAE) (some (1, AZ, vD)))
theorem kL_uncertainty_1 : (Cond.classLink RL 13 "java/lang/IllegalArgumentException") ∈ wsL_uncertainty := List.mem_of_getElem? (i := 1) rfl
set_option maxHeartbeats 4000000 in
set_option maxRecDepth 100000 in
theorem c_L_uncertainty (l : Launch) (hfl : l.stackTraces = false) (dC : Nat → ClassId) (dI : Nat → Nat → Nat) (cyI cyJ cyB cyS cyD : ClassId) (h : Nat) (bA : Nat → Nat) (bB : Nat → Nat) (aV : Nat) (yt : Nat) (aD : Nat) (sz : Nat) (xN : Int32) (AZ : ST) (vD : Nat → UInt64) (w2 : Int32) (w3 : Int32) {out : Int32 × ST × (Nat → UInt64)} (hF : F_L_uncertainty AZ vD w2 w3 = some out) : Li l yL_uncertainty wsL_uncertainty ({ frames := 9, cells := 2, slots := 12, locals := 164 } : Room) (dC, dI) [(cyI, .int), (cyJ, .long), (cyB, .byte), (cyS, .object "SelfTuner$State"), (cyD, .double)] sz [.ref h, .int w2, .int w3, .ref aD] ((h, .inr (5, [.ref (bA 0), .ref (bB 0), .ref aV, .int xN, .ref yt])) :: (wB cyI cyJ bA AZ ++ [(aD, .inl (cyD, 1, .inr (.inr (.inr (.inl vD)))))])) out.1 (fun (bV : Nat → Nat → Nat) => ((h, .inr (5, [.ref (bA 0), .ref (bB 0), .ref aV, .int xN, .ref yt])) :: (wB cyI cyJ bA out.2.1 ++ [(aD, .inl (cyD, 1, .inr (.inr (.inr (.inl out.2.2)))))]))) 2 12 := by
  refine va_MetW (cc := cL_uncertainty) (maxL := 5) (ret := (some .int)) (hh := [(0, 9, 12, 13)]) (by decide) rfl ?_
  intro p e s m args below meth c s₁ B hml hv
  obtain ⟨rfl, ⟨hN, hsz, hP, hK, hD0⟩, hZ, hT⟩ := hv
  have hx := B.exec
  have hb := B.bytes
  have hr := B.returns
  have hts := atoms_spec (ws := wsL_uncertainty) B.pre
  have hown : s.vm.findClass RL = some m.cls := findClass_of_methodNamed B.named
  have hlocks := B.notSynchronized
  subst hsz
  have hD := hD0.self (sz := s.heap.size)
  generalize hAe : va_A ((h, .inr (5, [.ref (bA 0), .ref (bB 0), .ref aV, .int xN, .ref yt])) :: (wB cyI cyJ bA AZ ++ [(aD, .inl (cyD, 1, .inr (.inr (.inr (.inl vD)))))])) s.heap.size = A at hD hZ ⊢
  have hA : ∀ q : Nat, s.heap.size ≤ q → A q := fun q h => by rw [← hAe]; exact Or.inr h
  have hS : va_S A s.heap s.heap [] := va_S.rf
  have hP : va_P (dC, dI) vwCl ((h, .inr (5, [.ref (bA 0), .ref (bB 0), .ref aV, .int xN, .ref yt])) :: (wB cyI cyJ bA AZ ++ [(aD, .inl (cyD, 1, .inr (.inr (.inr (.inl vD)))))])) s.heap := hP
  have hl := lv_entry ([.ref h, .int w2, .int w3, .ref aD]) (n := 5) (Nat.le_of_ble_eq_true rfl)
  rw [lg_entry_eq]
  generalize (lg_sl ([.ref h, .int w2, .int w3, .ref aD]) ++ List.replicate (5 - (lg_sl ([.ref h, .int w2, .int w3, .ref aD])).length) Slot.unset).toArray = ls at hl ⊢
  have hl : lv_has ls 5 [(0, .ref h), (1, .int w2), (2, .int w3), (3, .ref aD)] := hl
  have htb := vx_table (x := yL_uncertainty) B (hts _ List.mem_cons_self)
  unfold F_L_uncertainty at hF
  refine lv_aload_n hx hb dL_uncertainty_0 rfl (lv_at hl 3 rfl) ?_
  refine lv_iconst (v := 0) hx hb dL_uncertainty_1 (by decide) ?_
  refine lv_aload_n hx hb dL_uncertainty_2 rfl (lv_at hl 0 rfl) ?_
  refine lv_iload_n hx hb dL_uncertainty_3 rfl (lv_at hl 1 rfl) ?_
  refine lv_iload_n hx hb dL_uncertainty_4 rfl (lv_at hl 2 rfl) ?_
  obtain ⟨oo1, hoo1, hoo1k⟩ := obl_e hF
  refine x_tryd (wr := [(aD, .inl (cyD, 1, .inr (.inr (.inr (.inl vD)))))]) (ws' := fun o1 t2 => ((h, .inr (5, [.ref (bA 0), .ref (bB 0), .ref aV, .int xN, .ref yt])) :: (wB cyI cyJ bA o1.2 ++ [(aD, .inl (cyD, 1, .inr (.inr (.inr (.inl vD)))))]))) (vx_runV (As := [.int w2, .int w3]) (rest := [.int 0, .ref aD]) ⟨hx, hb, hml, hown, hts⟩ (c_X5_uncertainty l hfl dC dI cyI cyJ cyB cyS cyD h bA bB aV yt s.heap.size xN AZ w2 w3 hoo1) (cwV 2 hts gL_uncertainty_X5_uncertainty rfl rfl rfl (by decide +kernel) ⟨Nat.le_of_ble_eq_true rfl, Nat.le_of_ble_eq_true rfl⟩) ⟨cPreX_blind, va_recv hK hP (ci := 5) (q0 := 0) rfl rfl, x_preX hN hZ hT hP hD hS hA hK [0, 1, 2, 3, 4, 5, 6, 7, 8, 9, 10, 11, 12, 13, 14, 15] rfl rfl⟩ rfl rfl hl.1 rfl (lv_room (Nat.le_of_ble_eq_true rfl)) dL_uncertainty_5 ⟨Nat.le_of_ble_eq_true rfl, Nat.le_of_ble_eq_true rfl⟩) hP hD hS hA [0, 1, 2, 3, 4, 5, 6, 7, 8, 9, 10, 11, 12, 13, 14, 15] [16] [1, 2, 3, 4, 5, 6, 7, 8, 9, 10, 11, 12, 13, 14, 15, 16, 0] rfl rfl rfl (by decide) rfl (fun _ _ => rfl) rfl (fun E9 ce9 q9 H locs hE hP hD hS hce hcv hcl => ?_) (fun o1 t2 H locs hE hP hD hS => ?_)
  · subst hE
    have hF := obl2_r hoo1k
    obtain ⟨hE9, hF⟩ := ck_e hF
    subst hE9
    refine vx_catch hown [] ⟨0, 9, 12, 13⟩ [] htb (fun _ h => nomatch h) (by decide) (by decide) (hts _ kL_uncertainty_1) (va_Nw.use rfl (hT.2.1 xIAE (List.mem_of_getElem? (i := 0) rfl))) hce hcv hcl ?_
    refine lv_astore (lv' := [(4, .ref q9), (0, .ref h), (1, .int w2), (2, .int w3), (3, .ref aD)]) hx hb dL_uncertainty_12 hl (by decide) rfl (fun ls hl => ?_)
    refine lv_iconst (v := 1) hx hb dL_uncertainty_14 (by decide) ?_
    obtain rfl := some_e hF
    refine W.widen (k := 2) (n := 12) (Nat.le_of_ble_eq_true rfl) (Nat.le_of_ble_eq_true rfl) ?_
    exact W.iret (v := 1) hx hb hr (fun t ht hW => ⟨⟨1, (fun _ _ => 0), rfl, rfl, ⟨by rw [ht]; exact hP, va_K.moved hW.alike hK, hD⟩⟩, hS.F ht⟩) hS.2.2 dL_uncertainty_15
  · subst hE
    have hF := obl2_l hoo1k
    obtain ⟨v3, hv3, hF⟩ := lt_e hF
    refine x_dast (ws' := ((h, .inr (5, [.ref (bA 0), .ref (bB 0), .ref aV, .int xN, .ref yt])) :: (wB cyI cyJ bA o1.2 ++ [(aD, .inl (cyD, 1, .inr (.inr (.inr (.inl v3)))))]))) hx hb hK hP hD hS 16 4 rfl rfl (show (0 : Int32).toNatClampNeg = 0 by decide) (inbK (k := 0) (by decide) rfl) hv3 rfl dL_uncertainty_8 (fun H locs hP hD hS => ?_)
    refine lv_goto (tgt := 16) hx hb dL_uncertainty_9 (by decide) ?_
    refine lv_iconst (v := 0) hx hb dL_uncertainty_16 (by decide) ?_
    obtain rfl := some_e hF
    refine W.widen (k := 2) (n := 12) (Nat.le_of_ble_eq_true rfl) (Nat.le_of_ble_eq_true rfl) ?_
    exact W.iret (v := 0) hx hb hr (fun t ht hW => ⟨⟨0, (fun _ _ => 0), rfl, rfl, ⟨by rw [ht]; exact hP, va_K.moved hW.alike hK, hD⟩⟩, hS.F ht⟩) hS.2.2 dL_uncertainty_17
def F_L_control (AZ : ST) (vO : Nat → Int64) (w2 : Int32) (w3 : Int32) : Option (Int32 × (Nat → Int64)) := obl (F_X5_control AZ w2 w3) (fun o1 => lt_ (α := Nat → Int64) (vp_updL vO 0 o1.toInt64) (fun v3 => some (0, v3))) (fun E9 => ck (E9 = xIAE) (some (1, vO)))
theorem kL_control_1 : (Cond.classLink RL 13 "java/lang/IllegalArgumentException") ∈ wsL_control := List.mem_of_getElem? (i := 1) rfl
set_option maxHeartbeats 4000000 in
set_option maxRecDepth 100000 in
theorem c_L_control (l : Launch) (hfl : l.stackTraces = false) (dC : Nat → ClassId) (dI : Nat → Nat → Nat) (cyI cyJ cyB cyS cyD : ClassId) (h : Nat) (bA : Nat → Nat) (bB : Nat → Nat) (aV : Nat) (yt : Nat) (aO : Nat) (sz : Nat) (xN : Int32) (AZ : ST) (vO : Nat → Int64) (w2 : Int32) (w3 : Int32) {out : Int32 × (Nat → Int64)} (hF : F_L_control AZ vO w2 w3 = some out) : Li l yL_control wsL_control ({ frames := 9, cells := 2, slots := 12, locals := 164 } : Room) (dC, dI) [(cyI, .int), (cyJ, .long), (cyB, .byte), (cyS, .object "SelfTuner$State"), (cyD, .double)] sz [.ref h, .int w2, .int w3, .ref aO] ((h, .inr (5, [.ref (bA 0), .ref (bB 0), .ref aV, .int xN, .ref yt])) :: (wB cyI cyJ bA AZ ++ [(aO, .inl (cyJ, 1, .inr (.inl vO)))])) out.1 (fun (bV : Nat → Nat → Nat) => ((h, .inr (5, [.ref (bA 0), .ref (bB 0), .ref aV, .int xN, .ref yt])) :: (wB cyI cyJ bA AZ ++ [(aO, .inl (cyJ, 1, .inr (.inl out.2)))]))) 2 12 := by
  refine va_MetW (cc := cL_control) (maxL := 5) (ret := (some .int)) (hh := [(0, 10, 13, 13)]) (by decide) rfl ?_
  intro p e s m args below meth c s₁ B hml hv
  obtain ⟨rfl, ⟨hN, hsz, hP, hK, hD0⟩, hZ, hT⟩ := hv
  have hx := B.exec
  have hb := B.bytes
  have hr := B.returns
  have hts := atoms_spec (ws := wsL_control) B.pre
  have hown : s.vm.findClass RL = some m.cls := findClass_of_methodNamed B.named
  have hlocks := B.notSynchronized
  subst hsz
  have hD := hD0.self (sz := s.heap.size)
  generalize hAe : va_A ((h, .inr (5, [.ref (bA 0), .ref (bB 0), .ref aV, .int xN, .ref yt])) :: (wB cyI cyJ bA AZ ++ [(aO, .inl (cyJ, 1, .inr (.inl vO)))])) s.heap.size = A at hD hZ ⊢
  have hA : ∀ q : Nat, s.heap.size ≤ q → A q := fun q h => by rw [← hAe]; exact Or.inr h
  have hS : va_S A s.heap s.heap [] := va_S.rf
  have hP : va_P (dC, dI) vwCl ((h, .inr (5, [.ref (bA 0), .ref (bB 0), .ref aV, .int xN, .ref yt])) :: (wB cyI cyJ bA AZ ++ [(aO, .inl (cyJ, 1, .inr (.inl vO)))])) s.heap := hP
  have hl := lv_entry ([.ref h, .int w2, .int w3, .ref aO]) (n := 5) (Nat.le_of_ble_eq_true rfl)
  rw [lg_entry_eq]
  generalize (lg_sl ([.ref h, .int w2, .int w3, .ref aO]) ++ List.replicate (5 - (lg_sl ([.ref h, .int w2, .int w3, .ref aO])).length) Slot.unset).toArray = ls at hl ⊢
  have hl : lv_has ls 5 [(0, .ref h), (1, .int w2), (2, .int w3), (3, .ref aO)] := hl
  have htb := vx_table (x := yL_control) B (hts _ List.mem_cons_self)
  unfold F_L_control at hF
  refine lv_aload_n hx hb dL_control_0 rfl (lv_at hl 3 rfl) ?_
  refine lv_iconst (v := 0) hx hb dL_control_1 (by decide) ?_
  refine lv_aload_n hx hb dL_control_2 rfl (lv_at hl 0 rfl) ?_
  refine lv_iload_n hx hb dL_control_3 rfl (lv_at hl 1 rfl) ?_
  refine lv_iload_n hx hb dL_control_4 rfl (lv_at hl 2 rfl) ?_
  obtain ⟨oo1, hoo1, hoo1k⟩ := obl_e hF
  refine x_tryi (wr := [(aO, .inl (cyJ, 1, .inr (.inl vO)))]) (rv := fun o1 => o1) (ws' := fun o1 t2 => ((h, .inr (5, [.ref (bA 0), .ref (bB 0), .ref aV, .int xN, .ref yt])) :: (wB cyI cyJ bA AZ ++ [(aO, .inl (cyJ, 1, .inr (.inl vO)))]))) (vx_runV (As := [.int w2, .int w3]) (rest := [.int 0, .ref aO]) ⟨hx, hb, hml, hown, hts⟩ (c_X5_control l hfl dC dI cyI cyJ cyB cyS cyD h bA bB aV yt s.heap.size xN AZ w2 w3 hoo1) (cwV 2 hts gL_control_X5_control rfl rfl rfl (by decide +kernel) ⟨Nat.le_of_ble_eq_true rfl, Nat.le_of_ble_eq_true rfl⟩) ⟨cPreX_blind, va_recv hK hP (ci := 5) (q0 := 0) rfl rfl, x_preX hN hZ hT hP hD hS hA hK [0, 1, 2, 3, 4, 5, 6, 7, 8, 9, 10, 11, 12, 13, 14, 15] rfl rfl⟩ rfl rfl hl.1 rfl (lv_room (Nat.le_of_ble_eq_true rfl)) dL_control_5 ⟨Nat.le_of_ble_eq_true rfl, Nat.le_of_ble_eq_true rfl⟩) hP hD hS hA [0, 1, 2, 3, 4, 5, 6, 7, 8, 9, 10, 11, 12, 13, 14, 15] [16] [1, 2, 3, 4, 5, 6, 7, 8, 9, 10, 11, 12, 13, 14, 15, 16, 0] rfl rfl rfl (by decide) rfl (fun _ _ => rfl) rfl (fun E9 ce9 q9 H locs hE hP hD hS hce hcv hcl => ?_) (fun o1 t2 H locs hE hP hD hS => ?_)
  · subst hE
    have hF := obl2_r hoo1k
    obtain ⟨hE9, hF⟩ := ck_e hF
    subst hE9
    refine vx_catch hown [] ⟨0, 10, 13, 13⟩ [] htb (fun _ h => nomatch h) (by decide) (by decide) (hts _ kL_control_1) (va_Nw.use rfl (hT.2.1 xIAE (List.mem_of_getElem? (i := 0) rfl))) hce hcv hcl ?_
    refine lv_astore (lv' := [(4, .ref q9), (0, .ref h), (1, .int w2), (2, .int w3), (3, .ref aO)]) hx hb dL_control_13 hl (by decide) rfl (fun ls hl => ?_)
    refine lv_iconst (v := 1) hx hb dL_control_15 (by decide) ?_
    obtain rfl := some_e hF
    refine W.widen (k := 2) (n := 12) (Nat.le_of_ble_eq_true rfl) (Nat.le_of_ble_eq_true rfl) ?_
    exact W.iret (v := 1) hx hb hr (fun t ht hW => ⟨⟨1, (fun _ _ => 0), rfl, rfl, ⟨by rw [ht]; exact hP, va_K.moved hW.alike hK, hD⟩⟩, hS.F ht⟩) hS.2.2 dL_control_16
  · subst hE
    have hF := obl2_l hoo1k
    refine lv_i2l (v := o1.toInt64) hx hb dL_control_8 rfl ?_
    obtain ⟨v3, hv3, hF⟩ := lt_e hF
    refine x_last (ws' := ((h, .inr (5, [.ref (bA 0), .ref (bB 0), .ref aV, .int xN, .ref yt])) :: (wB cyI cyJ bA AZ ++ [(aO, .inl (cyJ, 1, .inr (.inl v3)))]))) hx hb hK hP hD hS 16 1 rfl rfl (show (0 : Int32).toNatClampNeg = 0 by decide) (inbK (k := 0) (by decide) rfl) hv3 rfl dL_control_9 (fun H locs hP hD hS => ?_)
    refine lv_goto (tgt := 17) hx hb dL_control_10 (by decide) ?_
    refine lv_iconst (v := 0) hx hb dL_control_17 (by decide) ?_
    obtain rfl := some_e hF
    refine W.widen (k := 2) (n := 12) (Nat.le_of_ble_eq_true rfl) (Nat.le_of_ble_eq_true rfl) ?_
    exact W.iret (v := 0) hx hb hr (fun t ht hW => ⟨⟨0, (fun _ _ => 0), rfl, rfl, ⟨by rw [ht]; exact hP, va_K.moved hW.alike hK, hD⟩⟩, hS.F ht⟩) hS.2.2 dL_control_18
def F_L_run (xN : Int32) (AZ : ST) (C0Z : ST) (C1Z : ST) (C2Z : ST) (C3Z : ST) (vO : Nat → Int64) (w2 : Int32) (w3 : Int32) : Option (Int32 × Int32 × ST × ST × ST × ST × ST × (Nat → Int64)) := obl (F_X5_run xN AZ C0Z C1Z C2Z C3Z w2 w3) (fun o1 => lt_ (α := Nat → Int64) (vp_updL vO 0 o1.1.toInt64) (fun v3 => some (0, o1.2.1, o1.2.2.1, o1.2.2.2.1, o1.2.2.2.2.1, o1.2.2.2.2.2.1, o1.2.2.2.2.2.2, v3))) (fun E9 => ck (E9 = xIAE) (some (1, xN, AZ, C0Z, C1Z, C2Z, C3Z, vO)))
theorem kL_run_1 : (Cond.classLink RL 13 "java/lang/IllegalArgumentException") ∈ wsL_run := List.mem_of_getElem? (i := 1) rfl
set_option maxHeartbeats 4000000 in
set_option maxRecDepth 100000 in
theorem c_L_run (l : Launch) (hfl : l.stackTraces = false) (dC : Nat → ClassId) (dI : Nat → Nat → Nat) (cyI cyJ cyB cyS cyD : ClassId) (h : Nat) (bA : Nat → Nat) (bB : Nat → Nat) (aV : Nat) (yt : Nat) (bV : Nat → Nat → Nat) (aO : Nat) (sz : Nat) (xN : Int32) (AZ : ST) (C0Z : ST) (C1Z : ST) (C2Z : ST) (C3Z : ST) (vO : Nat → Int64) (w2 : Int32) (w3 : Int32) {out : Int32 × Int32 × ST × ST × ST × ST × ST × (Nat → Int64)} (hF : F_L_run xN AZ C0Z C1Z C2Z C3Z vO w2 w3 = some out) : Li l yL_run wsL_run ({ frames := 9, cells := 2, slots := 12, locals := 186 } : Room) (dC, dI) [(cyI, .int), (cyJ, .long), (cyB, .byte), (cyS, .object "SelfTuner$State"), (cyD, .double)] sz [.ref h, .int w2, .int w3, .ref aO] ((h, .inr (5, [.ref (bA 0), .ref (bB 0), .ref aV, .int xN, .ref yt])) :: (wB cyI cyJ bA AZ ++ ((aV, .inl (cyS, 4, .inr (.inr (.inr (.inr (fun i => some (bV i 0))))))) :: (wB cyI cyJ (bV 0) C0Z ++ (wB cyI cyJ (bV 1) C1Z ++ (wB cyI cyJ (bV 2) C2Z ++ (wB cyI cyJ (bV 3) C3Z ++ [(aO, .inl (cyJ, 1, .inr (.inl vO)))]))))))) out.1 (fun (bV : Nat → Nat → Nat) => ((h, .inr (5, [.ref (bA 0), .ref (bB 0), .ref aV, .int out.2.1, .ref yt])) :: (wB cyI cyJ bA out.2.2.1 ++ ((aV, .inl (cyS, 4, .inr (.inr (.inr (.inr (fun i => some (bV i 0))))))) :: (wB cyI cyJ (bV 0) out.2.2.2.1 ++ (wB cyI cyJ (bV 1) out.2.2.2.2.1 ++ (wB cyI cyJ (bV 2) out.2.2.2.2.2.1 ++ (wB cyI cyJ (bV 3) out.2.2.2.2.2.2.1 ++ [(aO, .inl (cyJ, 1, .inr (.inl out.2.2.2.2.2.2.2)))])))))))) 2 12 := by
  refine va_MetW (cc := cL_run) (maxL := 5) (ret := (some .int)) (hh := [(0, 10, 13, 13)]) (by decide) rfl ?_
  intro p e s m args below meth c s₁ B hml hv
  obtain ⟨rfl, ⟨hN, hsz, hP, hK, hD0⟩, hZ, hT⟩ := hv
  have hx := B.exec
  have hb := B.bytes
  have hr := B.returns
  have hts := atoms_spec (ws := wsL_run) B.pre
  have hown : s.vm.findClass RL = some m.cls := findClass_of_methodNamed B.named
  have hlocks := B.notSynchronized
  subst hsz
  have hD := hD0.self (sz := s.heap.size)
  generalize hAe : va_A ((h, .inr (5, [.ref (bA 0), .ref (bB 0), .ref aV, .int xN, .ref yt])) :: (wB cyI cyJ bA AZ ++ ((aV, .inl (cyS, 4, .inr (.inr (.inr (.inr (fun i => some (bV i 0))))))) :: (wB cyI cyJ (bV 0) C0Z ++ (wB cyI cyJ (bV 1) C1Z ++ (wB cyI cyJ (bV 2) C2Z ++ (wB cyI cyJ (bV 3) C3Z ++ [(aO, .inl (cyJ, 1, .inr (.inl vO)))]))))))) s.heap.size = A at hD hZ ⊢
  have hA : ∀ q : Nat, s.heap.size ≤ q → A q := fun q h => by rw [← hAe]; exact Or.inr h
  have hS : va_S A s.heap s.heap [] := va_S.rf
  have hP : va_P (dC, dI) vwCl ((h, .inr (5, [.ref (bA 0), .ref (bB 0), .ref aV, .int xN, .ref yt])) :: (wB cyI cyJ bA AZ ++ ((aV, .inl (cyS, 4, .inr (.inr (.inr (.inr (fun i => some (bV i 0))))))) :: (wB cyI cyJ (bV 0) C0Z ++ (wB cyI cyJ (bV 1) C1Z ++ (wB cyI cyJ (bV 2) C2Z ++ (wB cyI cyJ (bV 3) C3Z ++ [(aO, .inl (cyJ, 1, .inr (.inl vO)))]))))))) s.heap := hP
  have hl := lv_entry ([.ref h, .int w2, .int w3, .ref aO]) (n := 5) (Nat.le_of_ble_eq_true rfl)
  rw [lg_entry_eq]
  generalize (lg_sl ([.ref h, .int w2, .int w3, .ref aO]) ++ List.replicate (5 - (lg_sl ([.ref h, .int w2, .int w3, .ref aO])).length) Slot.unset).toArray = ls at hl ⊢
  have hl : lv_has ls 5 [(0, .ref h), (1, .int w2), (2, .int w3), (3, .ref aO)] := hl
  have htb := vx_table (x := yL_run) B (hts _ List.mem_cons_self)
  unfold F_L_run at hF
  refine lv_aload_n hx hb dL_run_0 rfl (lv_at hl 3 rfl) ?_
  refine lv_iconst (v := 0) hx hb dL_run_1 (by decide) ?_
  refine lv_aload_n hx hb dL_run_2 rfl (lv_at hl 0 rfl) ?_
  refine lv_iload_n hx hb dL_run_3 rfl (lv_at hl 1 rfl) ?_
  refine lv_iload_n hx hb dL_run_4 rfl (lv_at hl 2 rfl) ?_
  obtain ⟨oo1, hoo1, hoo1k⟩ := obl_e hF
  refine x_tryi (wr := [(aO, .inl (cyJ, 1, .inr (.inl vO)))]) (ws' := fun o1 t2 => ((h, .inr (5, [.ref (bA 0), .ref (bB 0), .ref aV, .int o1.2.1, .ref yt])) :: (wB cyI cyJ bA o1.2.2.1 ++ ((aV, .inl (cyS, 4, .inr (.inr (.inr (.inr (fun i => some (t2 i 0))))))) :: (wB cyI cyJ (t2 0) o1.2.2.2.1 ++ (wB cyI cyJ (t2 1) o1.2.2.2.2.1 ++ (wB cyI cyJ (t2 2) o1.2.2.2.2.2.1 ++ (wB cyI cyJ (t2 3) o1.2.2.2.2.2.2 ++ [(aO, .inl (cyJ, 1, .inr (.inl vO)))])))))))) (vx_runV (As := [.int w2, .int w3]) (rest := [.int 0, .ref aO]) ⟨hx, hb, hml, hown, hts⟩ (c_X5_run l hfl dC dI cyI cyJ cyB cyS cyD h bA bB aV yt bV s.heap.size xN AZ C0Z C1Z C2Z C3Z w2 w3 hoo1) (cwV 2 hts gL_run_X5_run rfl rfl rfl (by decide +kernel) ⟨Nat.le_of_ble_eq_true rfl, Nat.le_of_ble_eq_true rfl⟩) ⟨cPreX_blind, va_recv hK hP (ci := 5) (q0 := 0) rfl rfl, x_preX hN hZ hT hP hD hS hA hK [0, 1, 2, 3, 4, 5, 6, 7, 8, 9, 10, 11, 12, 13, 14, 15, 16, 17, 18, 19, 20, 21, 22, 23, 24, 25, 26, 27, 28, 29, 30, 31, 32, 33, 34, 35, 36, 37, 38, 39, 40, 41, 42, 43, 44, 45, 46, 47, 48, 49, 50, 51, 52, 53, 54, 55, 56, 57, 58, 59, 60, 61, 62, 63, 64, 65, 66, 67, 68, 69, 70, 71, 72, 73, 74, 75, 76] rfl rfl⟩ rfl rfl hl.1 rfl (lv_room (Nat.le_of_ble_eq_true rfl)) dL_run_5 ⟨Nat.le_of_ble_eq_true rfl, Nat.le_of_ble_eq_true rfl⟩) hP hD hS hA [0, 1, 2, 3, 4, 5, 6, 7, 8, 9, 10, 11, 12, 13, 14, 15, 16, 17, 18, 19, 20, 21, 22, 23, 24, 25, 26, 27, 28, 29, 30, 31, 32, 33, 34, 35, 36, 37, 38, 39, 40, 41, 42, 43, 44, 45, 46, 47, 48, 49, 50, 51, 52, 53, 54, 55, 56, 57, 58, 59, 60, 61, 62, 63, 64, 65, 66, 67, 68, 69, 70, 71, 72, 73, 74, 75, 76] [77] [1, 2, 3, 4, 5, 6, 7, 8, 9, 10, 11, 12, 13, 14, 15, 16, 17, 18, 19, 20, 21, 22, 23, 24, 25, 26, 27, 28, 29, 30, 31, 32, 33, 34, 35, 36, 37, 38, 39, 40, 41, 42, 43, 44, 45, 46, 47, 48, 49, 50, 51, 52, 53, 54, 55, 56, 57, 58, 59, 60, 61, 62, 63, 64, 65, 66, 67, 68, 69, 70, 71, 72, 73, 74, 75, 76, 77, 0] rfl rfl rfl (by decide) rfl (fun _ _ => rfl) rfl (fun E9 ce9 q9 H locs hE hP hD hS hce hcv hcl => ?_) (fun o1 t2 H locs hE hP hD hS => ?_)
  · subst hE
    have hF := obl2_r hoo1k
    obtain ⟨hE9, hF⟩ := ck_e hF
    subst hE9
    refine vx_catch hown [] ⟨0, 10, 13, 13⟩ [] htb (fun _ h => nomatch h) (by decide) (by decide) (hts _ kL_run_1) (va_Nw.use rfl (hT.2.1 xIAE (List.mem_of_getElem? (i := 0) rfl))) hce hcv hcl ?_
    refine lv_astore (lv' := [(4, .ref q9), (0, .ref h), (1, .int w2), (2, .int w3), (3, .ref aO)]) hx hb dL_run_13 hl (by decide) rfl (fun ls hl => ?_)
    refine lv_iconst (v := 1) hx hb dL_run_15 (by decide) ?_
    obtain rfl := some_e hF
    refine W.widen (k := 2) (n := 12) (Nat.le_of_ble_eq_true rfl) (Nat.le_of_ble_eq_true rfl) ?_
    exact W.iret (v := 1) hx hb hr (fun t ht hW => ⟨⟨1, bV, rfl, rfl, ⟨by rw [ht]; exact hP, va_K.moved hW.alike hK, hD⟩⟩, hS.F ht⟩) hS.2.2 dL_run_16
  · subst hE
    have hF := obl2_l hoo1k
    refine lv_i2l (v := o1.1.toInt64) hx hb dL_run_8 rfl ?_
    obtain ⟨v3, hv3, hF⟩ := lt_e hF
    refine x_last (ws' := ((h, .inr (5, [.ref (bA 0), .ref (bB 0), .ref aV, .int o1.2.1, .ref yt])) :: (wB cyI cyJ bA o1.2.2.1 ++ ((aV, .inl (cyS, 4, .inr (.inr (.inr (.inr (fun i => some (t2 i 0))))))) :: (wB cyI cyJ (t2 0) o1.2.2.2.1 ++ (wB cyI cyJ (t2 1) o1.2.2.2.2.1 ++ (wB cyI cyJ (t2 2) o1.2.2.2.2.2.1 ++ (wB cyI cyJ (t2 3) o1.2.2.2.2.2.2 ++ [(aO, .inl (cyJ, 1, .inr (.inl v3)))])))))))) hx hb hK hP hD hS 77 1 rfl rfl (show (0 : Int32).toNatClampNeg = 0 by decide) (inbK (k := 0) (by decide) rfl) hv3 rfl dL_run_9 (fun H locs hP hD hS => ?_)
    refine lv_goto (tgt := 17) hx hb dL_run_10 (by decide) ?_
    refine lv_iconst (v := 0) hx hb dL_run_17 (by decide) ?_
    obtain rfl := some_e hF
    refine W.widen (k := 2) (n := 12) (Nat.le_of_ble_eq_true rfl) (Nat.le_of_ble_eq_true rfl) ?_
    exact W.iret (v := 0) hx hb hr (fun t ht hW => ⟨⟨0, t2, rfl, rfl, ⟨by rw [ht]; exact hP, va_K.moved hW.alike hK, hD⟩⟩, hS.F ht⟩) hS.2.2 dL_run_18
def F_L_drive (xN : Int32) (AZ : ST) (C0Z : ST) (C1Z : ST) (C2Z : ST) (C3Z : ST) (vO : Nat → Int64) (w2 : Int32) (w3 : Int32) : Option (Int32 × Int32 × ST × ST × ST × ST × ST × (Nat → Int64)) := obl (F_X5_drive xN AZ C0Z C1Z C2Z C3Z w2 w3) (fun o1 => lt_ (α := Nat → Int64) (vp_updL vO 0 o1.1.toInt64) (fun v3 => some (0, o1.2.1, o1.2.2.1, o1.2.2.2.1, o1.2.2.2.2.1, o1.2.2.2.2.2.1, o1.2.2.2.2.2.2, v3))) (fun E9 => ck (E9 = xIAE) (some (1, xN, AZ, C0Z, C1Z, C2Z, C3Z, vO)))
theorem kL_drive_1 : (Cond.classLink RL 13 "java/lang/IllegalArgumentException") ∈ wsL_drive := List.mem_of_getElem? (i := 1) rfl
set_option maxHeartbeats 4000000 in
set_option maxRecDepth 100000 in
theorem c_L_drive (l : Launch) (hfl : l.stackTraces = false) (dC : Nat → ClassId) (dI : Nat → Nat → Nat) (cyI cyJ cyB cyS cyD : ClassId) (h : Nat) (bA : Nat → Nat) (bB : Nat → Nat) (aV : Nat) (yt : Nat) (bV : Nat → Nat → Nat) (aO : Nat) (sz : Nat) (xN : Int32) (AZ : ST) (C0Z : ST) (C1Z : ST) (C2Z : ST) (C3Z : ST) (vO : Nat → Int64) (w2 : Int32) (w3 : Int32) {out : Int32 × Int32 × ST × ST × ST × ST × ST × (Nat → Int64)} (hF : F_L_drive xN AZ C0Z C1Z C2Z C3Z vO w2 w3 = some out) : Li l yL_drive wsL_drive ({ frames := 9, cells := 2, slots := 12, locals := 186 } : Room) (dC, dI) [(cyI, .int), (cyJ, .long), (cyB, .byte), (cyS, .object "SelfTuner$State"), (cyD, .double)] sz [.ref h, .int w2, .int w3, .ref aO] ((h, .inr (5, [.ref (bA 0), .ref (bB 0), .ref aV, .int xN, .ref yt])) :: (wB cyI cyJ bA AZ ++ ((aV, .inl (cyS, 4, .inr (.inr (.inr (.inr (fun i => some (bV i 0))))))) :: (wB cyI cyJ (bV 0) C0Z ++ (wB cyI cyJ (bV 1) C1Z ++ (wB cyI cyJ (bV 2) C2Z ++ (wB cyI cyJ (bV 3) C3Z ++ [(aO, .inl (cyJ, 1, .inr (.inl vO)))]))))))) out.1 (fun (bV : Nat → Nat → Nat) => ((h, .inr (5, [.ref (bA 0), .ref (bB 0), .ref aV, .int out.2.1, .ref yt])) :: (wB cyI cyJ bA out.2.2.1 ++ ((aV, .inl (cyS, 4, .inr (.inr (.inr (.inr (fun i => some (bV i 0))))))) :: (wB cyI cyJ (bV 0) out.2.2.2.1 ++ (wB cyI cyJ (bV 1) out.2.2.2.2.1 ++ (wB cyI cyJ (bV 2) out.2.2.2.2.2.1 ++ (wB cyI cyJ (bV 3) out.2.2.2.2.2.2.1 ++ [(aO, .inl (cyJ, 1, .inr (.inl out.2.2.2.2.2.2.2)))])))))))) 2 12 := by
  refine va_MetW (cc := cL_drive) (maxL := 5) (ret := (some .int)) (hh := [(0, 10, 13, 13)]) (by decide) rfl ?_
  intro p e s m args below meth c s₁ B hml hv
  obtain ⟨rfl, ⟨hN, hsz, hP, hK, hD0⟩, hZ, hT⟩ := hv
  have hx := B.exec
  have hb := B.bytes
  have hr := B.returns
  have hts := atoms_spec (ws := wsL_drive) B.pre
  have hown : s.vm.findClass RL = some m.cls := findClass_of_methodNamed B.named
  have hlocks := B.notSynchronized
  subst hsz
  have hD := hD0.self (sz := s.heap.size)
  generalize hAe : va_A ((h, .inr (5, [.ref (bA 0), .ref (bB 0), .ref aV, .int xN, .ref yt])) :: (wB cyI cyJ bA AZ ++ ((aV, .inl (cyS, 4, .inr (.inr (.inr (.inr (fun i => some (bV i 0))))))) :: (wB cyI cyJ (bV 0) C0Z ++ (wB cyI cyJ (bV 1) C1Z ++ (wB cyI cyJ (bV 2) C2Z ++ (wB cyI cyJ (bV 3) C3Z ++ [(aO, .inl (cyJ, 1, .inr (.inl vO)))]))))))) s.heap.size = A at hD hZ ⊢
  have hA : ∀ q : Nat, s.heap.size ≤ q → A q := fun q h => by rw [← hAe]; exact Or.inr h
  have hS : va_S A s.heap s.heap [] := va_S.rf
  have hP : va_P (dC, dI) vwCl ((h, .inr (5, [.ref (bA 0), .ref (bB 0), .ref aV, .int xN, .ref yt])) :: (wB cyI cyJ bA AZ ++ ((aV, .inl (cyS, 4, .inr (.inr (.inr (.inr (fun i => some (bV i 0))))))) :: (wB cyI cyJ (bV 0) C0Z ++ (wB cyI cyJ (bV 1) C1Z ++ (wB cyI cyJ (bV 2) C2Z ++ (wB cyI cyJ (bV 3) C3Z ++ [(aO, .inl (cyJ, 1, .inr (.inl vO)))]))))))) s.heap := hP
  have hl := lv_entry ([.ref h, .int w2, .int w3, .ref aO]) (n := 5) (Nat.le_of_ble_eq_true rfl)
  rw [lg_entry_eq]
  generalize (lg_sl ([.ref h, .int w2, .int w3, .ref aO]) ++ List.replicate (5 - (lg_sl ([.ref h, .int w2, .int w3, .ref aO])).length) Slot.unset).toArray = ls at hl ⊢
  have hl : lv_has ls 5 [(0, .ref h), (1, .int w2), (2, .int w3), (3, .ref aO)] := hl
  have htb := vx_table (x := yL_drive) B (hts _ List.mem_cons_self)
  unfold F_L_drive at hF
  refine lv_aload_n hx hb dL_drive_0 rfl (lv_at hl 3 rfl) ?_
  refine lv_iconst (v := 0) hx hb dL_drive_1 (by decide) ?_
  refine lv_aload_n hx hb dL_drive_2 rfl (lv_at hl 0 rfl) ?_
  refine lv_iload_n hx hb dL_drive_3 rfl (lv_at hl 1 rfl) ?_
  refine lv_iload_n hx hb dL_drive_4 rfl (lv_at hl 2 rfl) ?_
  obtain ⟨oo1, hoo1, hoo1k⟩ := obl_e hF
  refine x_tryi (wr := [(aO, .inl (cyJ, 1, .inr (.inl vO)))]) (ws' := fun o1 t2 => ((h, .inr (5, [.ref (bA 0), .ref (bB 0), .ref aV, .int o1.2.1, .ref yt])) :: (wB cyI cyJ bA o1.2.2.1 ++ ((aV, .inl (cyS, 4, .inr (.inr (.inr (.inr (fun i => some (t2 i 0))))))) :: (wB cyI cyJ (t2 0) o1.2.2.2.1 ++ (wB cyI cyJ (t2 1) o1.2.2.2.2.1 ++ (wB cyI cyJ (t2 2) o1.2.2.2.2.2.1 ++ (wB cyI cyJ (t2 3) o1.2.2.2.2.2.2 ++ [(aO, .inl (cyJ, 1, .inr (.inl vO)))])))))))) (vx_runV (As := [.int w2, .int w3]) (rest := [.int 0, .ref aO]) ⟨hx, hb, hml, hown, hts⟩ (c_X5_drive l hfl dC dI cyI cyJ cyB cyS cyD h bA bB aV yt bV s.heap.size xN AZ C0Z C1Z C2Z C3Z w2 w3 hoo1) (cwV 2 hts gL_drive_X5_drive rfl rfl rfl (by decide +kernel) ⟨Nat.le_of_ble_eq_true rfl, Nat.le_of_ble_eq_true rfl⟩) ⟨cPreX_blind, va_recv hK hP (ci := 5) (q0 := 0) rfl rfl, x_preX hN hZ hT hP hD hS hA hK [0, 1, 2, 3, 4, 5, 6, 7, 8, 9, 10, 11, 12, 13, 14, 15, 16, 17, 18, 19, 20, 21, 22, 23, 24, 25, 26, 27, 28, 29, 30, 31, 32, 33, 34, 35, 36, 37, 38, 39, 40, 41, 42, 43, 44, 45, 46, 47, 48, 49, 50, 51, 52, 53, 54, 55, 56, 57, 58, 59, 60, 61, 62, 63, 64, 65, 66, 67, 68, 69, 70, 71, 72, 73, 74, 75, 76] rfl rfl⟩ rfl rfl hl.1 rfl (lv_room (Nat.le_of_ble_eq_true rfl)) dL_drive_5 ⟨Nat.le_of_ble_eq_true rfl, Nat.le_of_ble_eq_true rfl⟩) hP hD hS hA [0, 1, 2, 3, 4, 5, 6, 7, 8, 9, 10, 11, 12, 13, 14, 15, 16, 17, 18, 19, 20, 21, 22, 23, 24, 25, 26, 27, 28, 29, 30, 31, 32, 33, 34, 35, 36, 37, 38, 39, 40, 41, 42, 43, 44, 45, 46, 47, 48, 49, 50, 51, 52, 53, 54, 55, 56, 57, 58, 59, 60, 61, 62, 63, 64, 65, 66, 67, 68, 69, 70, 71, 72, 73, 74, 75, 76] [77] [1, 2, 3, 4, 5, 6, 7, 8, 9, 10, 11, 12, 13, 14, 15, 16, 17, 18, 19, 20, 21, 22, 23, 24, 25, 26, 27, 28, 29, 30, 31, 32, 33, 34, 35, 36, 37, 38, 39, 40, 41, 42, 43, 44, 45, 46, 47, 48, 49, 50, 51, 52, 53, 54, 55, 56, 57, 58, 59, 60, 61, 62, 63, 64, 65, 66, 67, 68, 69, 70, 71, 72, 73, 74, 75, 76, 77, 0] rfl rfl rfl (by decide) rfl (fun _ _ => rfl) rfl (fun E9 ce9 q9 H locs hE hP hD hS hce hcv hcl => ?_) (fun o1 t2 H locs hE hP hD hS => ?_)
  · subst hE
    have hF := obl2_r hoo1k
    obtain ⟨hE9, hF⟩ := ck_e hF
    subst hE9
    refine vx_catch hown [] ⟨0, 10, 13, 13⟩ [] htb (fun _ h => nomatch h) (by decide) (by decide) (hts _ kL_drive_1) (va_Nw.use rfl (hT.2.1 xIAE (List.mem_of_getElem? (i := 0) rfl))) hce hcv hcl ?_
    refine lv_astore (lv' := [(4, .ref q9), (0, .ref h), (1, .int w2), (2, .int w3), (3, .ref aO)]) hx hb dL_drive_13 hl (by decide) rfl (fun ls hl => ?_)
    refine lv_iconst (v := 1) hx hb dL_drive_15 (by decide) ?_
    obtain rfl := some_e hF
    refine W.widen (k := 2) (n := 12) (Nat.le_of_ble_eq_true rfl) (Nat.le_of_ble_eq_true rfl) ?_
    exact W.iret (v := 1) hx hb hr (fun t ht hW => ⟨⟨1, bV, rfl, rfl, ⟨by rw [ht]; exact hP, va_K.moved hW.alike hK, hD⟩⟩, hS.F ht⟩) hS.2.2 dL_drive_16
  · subst hE
    have hF := obl2_l hoo1k
    refine lv_i2l (v := o1.1.toInt64) hx hb dL_drive_8 rfl ?_
    obtain ⟨v3, hv3, hF⟩ := lt_e hF
    refine x_last (ws' := ((h, .inr (5, [.ref (bA 0), .ref (bB 0), .ref aV, .int o1.2.1, .ref yt])) :: (wB cyI cyJ bA o1.2.2.1 ++ ((aV, .inl (cyS, 4, .inr (.inr (.inr (.inr (fun i => some (t2 i 0))))))) :: (wB cyI cyJ (t2 0) o1.2.2.2.1 ++ (wB cyI cyJ (t2 1) o1.2.2.2.2.1 ++ (wB cyI cyJ (t2 2) o1.2.2.2.2.2.1 ++ (wB cyI cyJ (t2 3) o1.2.2.2.2.2.2 ++ [(aO, .inl (cyJ, 1, .inr (.inl v3)))])))))))) hx hb hK hP hD hS 77 1 rfl rfl (show (0 : Int32).toNatClampNeg = 0 by decide) (inbK (k := 0) (by decide) rfl) hv3 rfl dL_drive_9 (fun H locs hP hD hS => ?_)
    refine lv_goto (tgt := 17) hx hb dL_drive_10 (by decide) ?_
    refine lv_iconst (v := 0) hx hb dL_drive_17 (by decide) ?_
    obtain rfl := some_e hF
    refine W.widen (k := 2) (n := 12) (Nat.le_of_ble_eq_true rfl) (Nat.le_of_ble_eq_true rfl) ?_
    exact W.iret (v := 0) hx hb hr (fun t ht hW => ⟨⟨0, t2, rfl, rfl, ⟨by rw [ht]; exact hP, va_K.moved hW.alike hK, hD⟩⟩, hS.F ht⟩) hS.2.2 dL_drive_18
def F_L_bias (AZ : ST) (vO : Nat → Int64) (w2 : Int32) : Option (Int32 × (Nat → Int64)) := obl (F_X5_bias AZ w2) (fun o1 => lt_ (α := Nat → Int64) (vp_updL vO 0 o1.toInt64) (fun v3 => some (0, v3))) (fun E9 => ck (E9 = xIOB) (some (1, vO)))
theorem kL_bias_1 : (Cond.classLink RL 23 "java/lang/IndexOutOfBoundsException") ∈ wsL_bias := List.mem_of_getElem? (i := 1) rfl
set_option maxHeartbeats 4000000 in
set_option maxRecDepth 100000 in
theorem c_L_bias (l : Launch) (hfl : l.stackTraces = false) (dC : Nat → ClassId) (dI : Nat → Nat → Nat) (cyI cyJ cyB cyS cyD : ClassId) (h : Nat) (bA : Nat → Nat) (bB : Nat → Nat) (aV : Nat) (yt : Nat) (aO : Nat) (sz : Nat) (xN : Int32) (AZ : ST) (vO : Nat → Int64) (w2 : Int32) {out : Int32 × (Nat → Int64)} (hF : F_L_bias AZ vO w2 = some out) : Li l yL_bias wsL_bias ({ frames := 8, cells := 1, slots := 6, locals := 143 } : Room) (dC, dI) [(cyI, .int), (cyJ, .long), (cyB, .byte), (cyS, .object "SelfTuner$State"), (cyD, .double)] sz [.ref h, .int w2, .ref aO] ((h, .inr (5, [.ref (bA 0), .ref (bB 0), .ref aV, .int xN, .ref yt])) :: (wB cyI cyJ bA AZ ++ [(aO, .inl (cyJ, 1, .inr (.inl vO)))])) out.1 (fun (bV : Nat → Nat → Nat) => ((h, .inr (5, [.ref (bA 0), .ref (bB 0), .ref aV, .int xN, .ref yt])) :: (wB cyI cyJ bA AZ ++ [(aO, .inl (cyJ, 1, .inr (.inl out.2)))]))) 1 6 := by
  refine va_MetW (cc := cL_bias) (maxL := 4) (ret := (some .int)) (hh := [(0, 9, 12, 23)]) (by decide) rfl ?_
  intro p e s m args below meth c s₁ B hml hv
  obtain ⟨rfl, ⟨hN, hsz, hP, hK, hD0⟩, hZ, hT⟩ := hv
  have hx := B.exec
  have hb := B.bytes
  have hr := B.returns
  have hts := atoms_spec (ws := wsL_bias) B.pre
  have hown : s.vm.findClass RL = some m.cls := findClass_of_methodNamed B.named
  have hlocks := B.notSynchronized
  subst hsz
  have hD := hD0.self (sz := s.heap.size)
  generalize hAe : va_A ((h, .inr (5, [.ref (bA 0), .ref (bB 0), .ref aV, .int xN, .ref yt])) :: (wB cyI cyJ bA AZ ++ [(aO, .inl (cyJ, 1, .inr (.inl vO)))])) s.heap.size = A at hD hZ ⊢
  have hA : ∀ q : Nat, s.heap.size ≤ q → A q := fun q h => by rw [← hAe]; exact Or.inr h
  have hS : va_S A s.heap s.heap [] := va_S.rf
  have hP : va_P (dC, dI) vwCl ((h, .inr (5, [.ref (bA 0), .ref (bB 0), .ref aV, .int xN, .ref yt])) :: (wB cyI cyJ bA AZ ++ [(aO, .inl (cyJ, 1, .inr (.inl vO)))])) s.heap := hP
  have hl := lv_entry ([.ref h, .int w2, .ref aO]) (n := 4) (Nat.le_of_ble_eq_true rfl)
  rw [lg_entry_eq]
  generalize (lg_sl ([.ref h, .int w2, .ref aO]) ++ List.replicate (4 - (lg_sl ([.ref h, .int w2, .ref aO])).length) Slot.unset).toArray = ls at hl ⊢
  have hl : lv_has ls 4 [(0, .ref h), (1, .int w2), (2, .ref aO)] := hl
  have htb := vx_table (x := yL_bias) B (hts _ List.mem_cons_self)
  unfold F_L_bias at hF
  refine lv_aload_n hx hb dL_bias_0 rfl (lv_at hl 2 rfl) ?_
  refine lv_iconst (v := 0) hx hb dL_bias_1 (by decide) ?_
  refine lv_aload_n hx hb dL_bias_2 rfl (lv_at hl 0 rfl) ?_
  refine lv_iload_n hx hb dL_bias_3 rfl (lv_at hl 1 rfl) ?_
  obtain ⟨oo1, hoo1, hoo1k⟩ := obl_e hF
  refine x_tryi (wr := [(aO, .inl (cyJ, 1, .inr (.inl vO)))]) (rv := fun o1 => o1) (ws' := fun o1 t2 => ((h, .inr (5, [.ref (bA 0), .ref (bB 0), .ref aV, .int xN, .ref yt])) :: (wB cyI cyJ bA AZ ++ [(aO, .inl (cyJ, 1, .inr (.inl vO)))]))) (vx_runV (As := [.int w2]) (rest := [.int 0, .ref aO]) ⟨hx, hb, hml, hown, hts⟩ (c_X5_bias l hfl dC dI cyI cyJ cyB cyS cyD h bA bB aV yt s.heap.size xN AZ w2 hoo1) (cwV 1 hts gL_bias_X5_bias rfl rfl rfl (by decide +kernel) ⟨Nat.le_of_ble_eq_true rfl, Nat.le_of_ble_eq_true rfl⟩) ⟨cPreX_blind, va_recv hK hP (ci := 5) (q0 := 0) rfl rfl, x_preX hN hZ hT hP hD hS hA hK [0, 1, 2, 3, 4, 5, 6, 7, 8, 9, 10, 11, 12, 13, 14, 15] rfl rfl⟩ rfl rfl hl.1 rfl (lv_room (Nat.le_of_ble_eq_true rfl)) dL_bias_4 ⟨Nat.le_of_ble_eq_true rfl, Nat.le_of_ble_eq_true rfl⟩) hP hD hS hA [0, 1, 2, 3, 4, 5, 6, 7, 8, 9, 10, 11, 12, 13, 14, 15] [16] [1, 2, 3, 4, 5, 6, 7, 8, 9, 10, 11, 12, 13, 14, 15, 16, 0] rfl rfl rfl (by decide) rfl (fun _ _ => rfl) rfl (fun E9 ce9 q9 H locs hE hP hD hS hce hcv hcl => ?_) (fun o1 t2 H locs hE hP hD hS => ?_)
  · subst hE
    have hF := obl2_r hoo1k
    obtain ⟨hE9, hF⟩ := ck_e hF
    subst hE9
    refine vx_catch hown [] ⟨0, 9, 12, 23⟩ [] htb (fun _ h => nomatch h) (by decide) (by decide) (hts _ kL_bias_1) (va_Nw.use rfl (hT.2.1 xIOB (List.mem_of_getElem? (i := 1) rfl))) hce hcv hcl ?_
    refine lv_astore_n (lv' := [(3, .ref q9), (0, .ref h), (1, .int w2), (2, .ref aO)]) hx hb dL_bias_12 rfl hl (by decide) rfl (fun ls hl => ?_)
    refine lv_iconst (v := 1) hx hb dL_bias_13 (by decide) ?_
    obtain rfl := some_e hF
    refine W.widen (k := 1) (n := 6) (Nat.le_of_ble_eq_true rfl) (Nat.le_of_ble_eq_true rfl) ?_
    exact W.iret (v := 1) hx hb hr (fun t ht hW => ⟨⟨1, (fun _ _ => 0), rfl, rfl, ⟨by rw [ht]; exact hP, va_K.moved hW.alike hK, hD⟩⟩, hS.F ht⟩) hS.2.2 dL_bias_14
  · subst hE
    have hF := obl2_l hoo1k
    refine lv_i2l (v := o1.toInt64) hx hb dL_bias_7 rfl ?_
    obtain ⟨v3, hv3, hF⟩ := lt_e hF
    refine x_last (ws' := ((h, .inr (5, [.ref (bA 0), .ref (bB 0), .ref aV, .int xN, .ref yt])) :: (wB cyI cyJ bA AZ ++ [(aO, .inl (cyJ, 1, .inr (.inl v3)))]))) hx hb hK hP hD hS 16 1 rfl rfl (show (0 : Int32).toNatClampNeg = 0 by decide) (inbK (k := 0) (by decide) rfl) hv3 rfl dL_bias_8 (fun H locs hP hD hS => ?_)
    refine lv_goto (tgt := 15) hx hb dL_bias_9 (by decide) ?_
    refine lv_iconst (v := 0) hx hb dL_bias_15 (by decide) ?_
    obtain rfl := some_e hF
    refine W.widen (k := 1) (n := 6) (Nat.le_of_ble_eq_true rfl) (Nat.le_of_ble_eq_true rfl) ?_
    exact W.iret (v := 0) hx hb hr (fun t ht hW => ⟨⟨0, (fun _ _ => 0), rfl, rfl, ⟨by rw [ht]; exact hP, va_K.moved hW.alike hK, hD⟩⟩, hS.F ht⟩) hS.2.2 dL_bias_16
def F_L_costOf (AZ : ST) (BZ : ST) (vO : Nat → Int64) (w2 : Int32) (w3 : Int32) : Option (Int32 × ST × (Nat → Int64)) := obl (F_X5_costOf AZ BZ w2 w3) (fun o1 => lt_ (α := Nat → Int64) (vp_updL vO 0 o1.1) (fun v3 => some (0, o1.2, v3))) (fun E9 => ck (E9 = xIAE) (some (1, BZ, vO)))
theorem kL_costOf_1 : (Cond.classLink RL 13 "java/lang/IllegalArgumentException") ∈ wsL_costOf := List.mem_of_getElem? (i := 1) rfl
set_option maxHeartbeats 4000000 in
set_option maxRecDepth 100000 in
theorem c_L_costOf (l : Launch) (hfl : l.stackTraces = false) (dC : Nat → ClassId) (dI : Nat → Nat → Nat) (cyI cyJ cyB cyS cyD : ClassId) (h : Nat) (bA : Nat → Nat) (bB : Nat → Nat) (aV : Nat) (yt : Nat) (aO : Nat) (sz : Nat) (xN : Int32) (AZ : ST) (BZ : ST) (vO : Nat → Int64) (w2 : Int32) (w3 : Int32) {out : Int32 × ST × (Nat → Int64)} (hF : F_L_costOf AZ BZ vO w2 w3 = some out) : Li l yL_costOf wsL_costOf ({ frames := 9, cells := 2, slots := 12, locals := 202 } : Room) (dC, dI) [(cyI, .int), (cyJ, .long), (cyB, .byte), (cyS, .object "SelfTuner$State"), (cyD, .double)] sz [.ref h, .int w2, .int w3, .ref aO] ((h, .inr (5, [.ref (bA 0), .ref (bB 0), .ref aV, .int xN, .ref yt])) :: (wB cyI cyJ bA AZ ++ (wB cyI cyJ bB BZ ++ [(aO, .inl (cyJ, 1, .inr (.inl vO)))]))) out.1 (fun (bV : Nat → Nat → Nat) => ((h, .inr (5, [.ref (bA 0), .ref (bB 0), .ref aV, .int xN, .ref yt])) :: (wB cyI cyJ bA AZ ++ (wB cyI cyJ bB out.2.1 ++ [(aO, .inl (cyJ, 1, .inr (.inl out.2.2)))])))) 2 12 := by
  refine va_MetW (cc := cL_costOf) (maxL := 5) (ret := (some .int)) (hh := [(0, 9, 12, 13)]) (by decide) rfl ?_
  intro p e s m args below meth c s₁ B hml hv
  obtain ⟨rfl, ⟨hN, hsz, hP, hK, hD0⟩, hZ, hT⟩ := hv
  have hx := B.exec
  have hb := B.bytes
  have hr := B.returns
  have hts := atoms_spec (ws := wsL_costOf) B.pre
  have hown : s.vm.findClass RL = some m.cls := findClass_of_methodNamed B.named
  have hlocks := B.notSynchronized
  subst hsz
  have hD := hD0.self (sz := s.heap.size)
  generalize hAe : va_A ((h, .inr (5, [.ref (bA 0), .ref (bB 0), .ref aV, .int xN, .ref yt])) :: (wB cyI cyJ bA AZ ++ (wB cyI cyJ bB BZ ++ [(aO, .inl (cyJ, 1, .inr (.inl vO)))]))) s.heap.size = A at hD hZ ⊢
  have hA : ∀ q : Nat, s.heap.size ≤ q → A q := fun q h => by rw [← hAe]; exact Or.inr h
  have hS : va_S A s.heap s.heap [] := va_S.rf
  have hP : va_P (dC, dI) vwCl ((h, .inr (5, [.ref (bA 0), .ref (bB 0), .ref aV, .int xN, .ref yt])) :: (wB cyI cyJ bA AZ ++ (wB cyI cyJ bB BZ ++ [(aO, .inl (cyJ, 1, .inr (.inl vO)))]))) s.heap := hP
  have hl := lv_entry ([.ref h, .int w2, .int w3, .ref aO]) (n := 5) (Nat.le_of_ble_eq_true rfl)
  rw [lg_entry_eq]
  generalize (lg_sl ([.ref h, .int w2, .int w3, .ref aO]) ++ List.replicate (5 - (lg_sl ([.ref h, .int w2, .int w3, .ref aO])).length) Slot.unset).toArray = ls at hl ⊢
  have hl : lv_has ls 5 [(0, .ref h), (1, .int w2), (2, .int w3), (3, .ref aO)] := hl
  have htb := vx_table (x := yL_costOf) B (hts _ List.mem_cons_self)
  unfold F_L_costOf at hF
  refine lv_aload_n hx hb dL_costOf_0 rfl (lv_at hl 3 rfl) ?_
  refine lv_iconst (v := 0) hx hb dL_costOf_1 (by decide) ?_
  refine lv_aload_n hx hb dL_costOf_2 rfl (lv_at hl 0 rfl) ?_
  refine lv_iload_n hx hb dL_costOf_3 rfl (lv_at hl 1 rfl) ?_
  refine lv_iload_n hx hb dL_costOf_4 rfl (lv_at hl 2 rfl) ?_
  obtain ⟨oo1, hoo1, hoo1k⟩ := obl_e hF
  refine x_tryl (wr := [(aO, .inl (cyJ, 1, .inr (.inl vO)))]) (ws' := fun o1 t2 => ((h, .inr (5, [.ref (bA 0), .ref (bB 0), .ref aV, .int xN, .ref yt])) :: (wB cyI cyJ bA AZ ++ (wB cyI cyJ bB o1.2 ++ [(aO, .inl (cyJ, 1, .inr (.inl vO)))])))) (vx_runV (As := [.int w2, .int w3]) (rest := [.int 0, .ref aO]) ⟨hx, hb, hml, hown, hts⟩ (c_X5_costOf l hfl dC dI cyI cyJ cyB cyS cyD h bA bB aV yt s.heap.size xN AZ BZ w2 w3 hoo1) (cwV 2 hts gL_costOf_X5_costOf rfl rfl rfl (by decide +kernel) ⟨Nat.le_of_ble_eq_true rfl, Nat.le_of_ble_eq_true rfl⟩) ⟨cPreX_blind, va_recv hK hP (ci := 5) (q0 := 0) rfl rfl, x_preX hN hZ hT hP hD hS hA hK [0, 1, 2, 3, 4, 5, 6, 7, 8, 9, 10, 11, 12, 13, 14, 15, 16, 17, 18, 19, 20, 21, 22, 23, 24, 25, 26, 27, 28, 29, 30] rfl rfl⟩ rfl rfl hl.1 rfl (lv_room (Nat.le_of_ble_eq_true rfl)) dL_costOf_5 ⟨Nat.le_of_ble_eq_true rfl, Nat.le_of_ble_eq_true rfl⟩) hP hD hS hA [0, 1, 2, 3, 4, 5, 6, 7, 8, 9, 10, 11, 12, 13, 14, 15, 16, 17, 18, 19, 20, 21, 22, 23, 24, 25, 26, 27, 28, 29, 30] [31] [1, 2, 3, 4, 5, 6, 7, 8, 9, 10, 11, 12, 13, 14, 15, 16, 17, 18, 19, 20, 21, 22, 23, 24, 25, 26, 27, 28, 29, 30, 31, 0] rfl rfl rfl (by decide) rfl (fun _ _ => rfl) rfl (fun E9 ce9 q9 H locs hE hP hD hS hce hcv hcl => ?_) (fun o1 t2 H locs hE hP hD hS => ?_)
  · subst hE
    have hF := obl2_r hoo1k
    obtain ⟨hE9, hF⟩ := ck_e hF
    subst hE9
    refine vx_catch hown [] ⟨0, 9, 12, 13⟩ [] htb (fun _ h => nomatch h) (by decide) (by decide) (hts _ kL_costOf_1) (va_Nw.use rfl (hT.2.1 xIAE (List.mem_of_getElem? (i := 0) rfl))) hce hcv hcl ?_
    refine lv_astore (lv' := [(4, .ref q9), (0, .ref h), (1, .int w2), (2, .int w3), (3, .ref aO)]) hx hb dL_costOf_12 hl (by decide) rfl (fun ls hl => ?_)
    refine lv_iconst (v := 1) hx hb dL_costOf_14 (by decide) ?_
    obtain rfl := some_e hF
    refine W.widen (k := 2) (n := 12) (Nat.le_of_ble_eq_true rfl) (Nat.le_of_ble_eq_true rfl) ?_
    exact W.iret (v := 1) hx hb hr (fun t ht hW => ⟨⟨1, (fun _ _ => 0), rfl, rfl, ⟨by rw [ht]; exact hP, va_K.moved hW.alike hK, hD⟩⟩, hS.F ht⟩) hS.2.2 dL_costOf_15
  · subst hE
    have hF := obl2_l hoo1k
    obtain ⟨v3, hv3, hF⟩ := lt_e hF
    refine x_last (ws' := ((h, .inr (5, [.ref (bA 0), .ref (bB 0), .ref aV, .int xN, .ref yt])) :: (wB cyI cyJ bA AZ ++ (wB cyI cyJ bB o1.2 ++ [(aO, .inl (cyJ, 1, .inr (.inl v3)))])))) hx hb hK hP hD hS 31 1 rfl rfl (show (0 : Int32).toNatClampNeg = 0 by decide) (inbK (k := 0) (by decide) rfl) hv3 rfl dL_costOf_8 (fun H locs hP hD hS => ?_)
    refine lv_goto (tgt := 16) hx hb dL_costOf_9 (by decide) ?_
    refine lv_iconst (v := 0) hx hb dL_costOf_16 (by decide) ?_
    obtain rfl := some_e hF
    refine W.widen (k := 2) (n := 12) (Nat.le_of_ble_eq_true rfl) (Nat.le_of_ble_eq_true rfl) ?_
    exact W.iret (v := 0) hx hb hr (fun t ht hW => ⟨⟨0, (fun _ _ => 0), rfl, rfl, ⟨by rw [ht]; exact hP, va_K.moved hW.alike hK, hD⟩⟩, hS.F ht⟩) hS.2.2 dL_costOf_17
def F_L_settling (AZ : ST) (BZ : ST) (vO : Nat → Int64) (w2 : Int32) (w3 : Int32) : Option (Int32 × ST × (Nat → Int64)) := obl (F_X5_settling AZ BZ w2 w3) (fun o1 => lt_ (α := Nat → Int64) (vp_updL vO 0 o1.1.toInt64) (fun v3 => some (0, o1.2, v3))) (fun E9 => ck (E9 = xIAE) (some (1, BZ, vO)))
theorem kL_settling_1 : (Cond.classLink RL 13 "java/lang/IllegalArgumentException") ∈ wsL_settling := List.mem_of_getElem? (i := 1) rfl
set_option maxHeartbeats 4000000 in
set_option maxRecDepth 100000 in
theorem c_L_settling (l : Launch) (hfl : l.stackTraces = false) (dC : Nat → ClassId) (dI : Nat → Nat → Nat) (cyI cyJ cyB cyS cyD : ClassId) (h : Nat) (bA : Nat → Nat) (bB : Nat → Nat) (aV : Nat) (yt : Nat) (aO : Nat) (sz : Nat) (xN : Int32) (AZ : ST) (BZ : ST) (vO : Nat → Int64) (w2 : Int32) (w3 : Int32) {out : Int32 × ST × (Nat → Int64)} (hF : F_L_settling AZ BZ vO w2 w3 = some out) : Li l yL_settling wsL_settling ({ frames := 9, cells := 2, slots := 12, locals := 179 } : Room) (dC, dI) [(cyI, .int), (cyJ, .long), (cyB, .byte), (cyS, .object "SelfTuner$State"), (cyD, .double)] sz [.ref h, .int w2, .int w3, .ref aO] ((h, .inr (5, [.ref (bA 0), .ref (bB 0), .ref aV, .int xN, .ref yt])) :: (wB cyI cyJ bA AZ ++ (wB cyI cyJ bB BZ ++ [(aO, .inl (cyJ, 1, .inr (.inl vO)))]))) out.1 (fun (bV : Nat → Nat → Nat) => ((h, .inr (5, [.ref (bA 0), .ref (bB 0), .ref aV, .int xN, .ref yt])) :: (wB cyI cyJ bA AZ ++ (wB cyI cyJ bB out.2.1 ++ [(aO, .inl (cyJ, 1, .inr (.inl out.2.2)))])))) 2 12 := by
  refine va_MetW (cc := cL_settling) (maxL := 5) (ret := (some .int)) (hh := [(0, 10, 13, 13)]) (by decide) rfl ?_
  intro p e s m args below meth c s₁ B hml hv
  obtain ⟨rfl, ⟨hN, hsz, hP, hK, hD0⟩, hZ, hT⟩ := hv
  have hx := B.exec
  have hb := B.bytes
  have hr := B.returns
  have hts := atoms_spec (ws := wsL_settling) B.pre
  have hown : s.vm.findClass RL = some m.cls := findClass_of_methodNamed B.named
  have hlocks := B.notSynchronized
  subst hsz
  have hD := hD0.self (sz := s.heap.size)
  generalize hAe : va_A ((h, .inr (5, [.ref (bA 0), .ref (bB 0), .ref aV, .int xN, .ref yt])) :: (wB cyI cyJ bA AZ ++ (wB cyI cyJ bB BZ ++ [(aO, .inl (cyJ, 1, .inr (.inl vO)))]))) s.heap.size = A at hD hZ ⊢
  have hA : ∀ q : Nat, s.heap.size ≤ q → A q := fun q h => by rw [← hAe]; exact Or.inr h
  have hS : va_S A s.heap s.heap [] := va_S.rf
  have hP : va_P (dC, dI) vwCl ((h, .inr (5, [.ref (bA 0), .ref (bB 0), .ref aV, .int xN, .ref yt])) :: (wB cyI cyJ bA AZ ++ (wB cyI cyJ bB BZ ++ [(aO, .inl (cyJ, 1, .inr (.inl vO)))]))) s.heap := hP
  have hl := lv_entry ([.ref h, .int w2, .int w3, .ref aO]) (n := 5) (Nat.le_of_ble_eq_true rfl)
  rw [lg_entry_eq]
  generalize (lg_sl ([.ref h, .int w2, .int w3, .ref aO]) ++ List.replicate (5 - (lg_sl ([.ref h, .int w2, .int w3, .ref aO])).length) Slot.unset).toArray = ls at hl ⊢
  have hl : lv_has ls 5 [(0, .ref h), (1, .int w2), (2, .int w3), (3, .ref aO)] := hl
  have htb := vx_table (x := yL_settling) B (hts _ List.mem_cons_self)
  unfold F_L_settling at hF
  refine lv_aload_n hx hb dL_settling_0 rfl (lv_at hl 3 rfl) ?_
  refine lv_iconst (v := 0) hx hb dL_settling_1 (by decide) ?_
  refine lv_aload_n hx hb dL_settling_2 rfl (lv_at hl 0 rfl) ?_
  refine lv_iload_n hx hb dL_settling_3 rfl (lv_at hl 1 rfl) ?_
  refine lv_iload_n hx hb dL_settling_4 rfl (lv_at hl 2 rfl) ?_
  obtain ⟨oo1, hoo1, hoo1k⟩ := obl_e hF
  refine x_tryi (wr := [(aO, .inl (cyJ, 1, .inr (.inl vO)))]) (ws' := fun o1 t2 => ((h, .inr (5, [.ref (bA 0), .ref (bB 0), .ref aV, .int xN, .ref yt])) :: (wB cyI cyJ bA AZ ++ (wB cyI cyJ bB o1.2 ++ [(aO, .inl (cyJ, 1, .inr (.inl vO)))])))) (vx_runV (As := [.int w2, .int w3]) (rest := [.int 0, .ref aO]) ⟨hx, hb, hml, hown, hts⟩ (c_X5_settling l hfl dC dI cyI cyJ cyB cyS cyD h bA bB aV yt s.heap.size xN AZ BZ w2 w3 hoo1) (cwV 2 hts gL_settling_X5_settling rfl rfl rfl (by decide +kernel) ⟨Nat.le_of_ble_eq_true rfl, Nat.le_of_ble_eq_true rfl⟩) ⟨cPreX_blind, va_recv hK hP (ci := 5) (q0 := 0) rfl rfl, x_preX hN hZ hT hP hD hS hA hK [0, 1, 2, 3, 4, 5, 6, 7, 8, 9, 10, 11, 12, 13, 14, 15, 16, 17, 18, 19, 20, 21, 22, 23, 24, 25, 26, 27, 28, 29, 30] rfl rfl⟩ rfl rfl hl.1 rfl (lv_room (Nat.le_of_ble_eq_true rfl)) dL_settling_5 ⟨Nat.le_of_ble_eq_true rfl, Nat.le_of_ble_eq_true rfl⟩) hP hD hS hA [0, 1, 2, 3, 4, 5, 6, 7, 8, 9, 10, 11, 12, 13, 14, 15, 16, 17, 18, 19, 20, 21, 22, 23, 24, 25, 26, 27, 28, 29, 30] [31] [1, 2, 3, 4, 5, 6, 7, 8, 9, 10, 11, 12, 13, 14, 15, 16, 17, 18, 19, 20, 21, 22, 23, 24, 25, 26, 27, 28, 29, 30, 31, 0] rfl rfl rfl (by decide) rfl (fun _ _ => rfl) rfl (fun E9 ce9 q9 H locs hE hP hD hS hce hcv hcl => ?_) (fun o1 t2 H locs hE hP hD hS => ?_)
  · subst hE
    have hF := obl2_r hoo1k
    obtain ⟨hE9, hF⟩ := ck_e hF
    subst hE9
    refine vx_catch hown [] ⟨0, 10, 13, 13⟩ [] htb (fun _ h => nomatch h) (by decide) (by decide) (hts _ kL_settling_1) (va_Nw.use rfl (hT.2.1 xIAE (List.mem_of_getElem? (i := 0) rfl))) hce hcv hcl ?_
    refine lv_astore (lv' := [(4, .ref q9), (0, .ref h), (1, .int w2), (2, .int w3), (3, .ref aO)]) hx hb dL_settling_13 hl (by decide) rfl (fun ls hl => ?_)
    refine lv_iconst (v := 1) hx hb dL_settling_15 (by decide) ?_
    obtain rfl := some_e hF
    refine W.widen (k := 2) (n := 12) (Nat.le_of_ble_eq_true rfl) (Nat.le_of_ble_eq_true rfl) ?_
    exact W.iret (v := 1) hx hb hr (fun t ht hW => ⟨⟨1, (fun _ _ => 0), rfl, rfl, ⟨by rw [ht]; exact hP, va_K.moved hW.alike hK, hD⟩⟩, hS.F ht⟩) hS.2.2 dL_settling_16
  · subst hE
    have hF := obl2_l hoo1k
    refine lv_i2l (v := o1.1.toInt64) hx hb dL_settling_8 rfl ?_
    obtain ⟨v3, hv3, hF⟩ := lt_e hF
    refine x_last (ws' := ((h, .inr (5, [.ref (bA 0), .ref (bB 0), .ref aV, .int xN, .ref yt])) :: (wB cyI cyJ bA AZ ++ (wB cyI cyJ bB o1.2 ++ [(aO, .inl (cyJ, 1, .inr (.inl v3)))])))) hx hb hK hP hD hS 31 1 rfl rfl (show (0 : Int32).toNatClampNeg = 0 by decide) (inbK (k := 0) (by decide) rfl) hv3 rfl dL_settling_9 (fun H locs hP hD hS => ?_)
    refine lv_goto (tgt := 17) hx hb dL_settling_10 (by decide) ?_
    refine lv_iconst (v := 0) hx hb dL_settling_17 (by decide) ?_
    obtain rfl := some_e hF
    refine W.widen (k := 2) (n := 12) (Nat.le_of_ble_eq_true rfl) (Nat.le_of_ble_eq_true rfl) ?_
    exact W.iret (v := 0) hx hb hr (fun t ht hW => ⟨⟨0, (fun _ _ => 0), rfl, rfl, ⟨by rw [ht]; exact hP, va_K.moved hW.alike hK, hD⟩⟩, hS.F ht⟩) hS.2.2 dL_settling_18
def F_L_bestDither (AZ : ST) (BZ : ST) (vO : Nat → Int64) (w2 : Int32) (w3 : Int32) (w4 : Int32) : Option (Int32 × ST × (Nat → Int64)) := obl (F_X5_bestDither AZ BZ w2 w3 w4) (fun o1 => lt_ (α := Nat → Int64) (vp_updL vO 0 o1.1.toInt64) (fun v3 => some (0, o1.2, v3))) (fun E9 => ck (E9 = xIAE) (some (1, BZ, vO)))
theorem kL_bestDither_1 : (Cond.classLink RL 13 "java/lang/IllegalArgumentException") ∈ wsL_bestDither := List.mem_of_getElem? (i := 1) rfl
set_option maxHeartbeats 4000000 in
set_option maxRecDepth 100000 in
theorem c_L_bestDither (l : Launch) (hfl : l.stackTraces = false) (dC : Nat → ClassId) (dI : Nat → Nat → Nat) (cyI cyJ cyB cyS cyD : ClassId) (h : Nat) (bA : Nat → Nat) (bB : Nat → Nat) (aV : Nat) (yt : Nat) (aO : Nat) (sz : Nat) (xN : Int32) (AZ : ST) (BZ : ST) (vO : Nat → Int64) (w2 : Int32) (w3 : Int32) (w4 : Int32) {out : Int32 × ST × (Nat → Int64)} (hF : F_L_bestDither AZ BZ vO w2 w3 w4 = some out) : Li l yL_bestDither wsL_bestDither ({ frames := 9, cells := 3, slots := 18, locals := 209 } : Room) (dC, dI) [(cyI, .int), (cyJ, .long), (cyB, .byte), (cyS, .object "SelfTuner$State"), (cyD, .double)] sz [.ref h, .int w2, .int w3, .int w4, .ref aO] ((h, .inr (5, [.ref (bA 0), .ref (bB 0), .ref aV, .int xN, .ref yt])) :: (wB cyI cyJ bA AZ ++ (wB cyI cyJ bB BZ ++ [(aO, .inl (cyJ, 1, .inr (.inl vO)))]))) out.1 (fun (bV : Nat → Nat → Nat) => ((h, .inr (5, [.ref (bA 0), .ref (bB 0), .ref aV, .int xN, .ref yt])) :: (wB cyI cyJ bA AZ ++ (wB cyI cyJ bB out.2.1 ++ [(aO, .inl (cyJ, 1, .inr (.inl out.2.2)))])))) 3 18 := by
  refine va_MetW (cc := cL_bestDither) (maxL := 6) (ret := (some .int)) (hh := [(0, 12, 15, 13)]) (by decide) rfl ?_
  intro p e s m args below meth c s₁ B hml hv
  obtain ⟨rfl, ⟨hN, hsz, hP, hK, hD0⟩, hZ, hT⟩ := hv
  have hx := B.exec
  have hb := B.bytes
  have hr := B.returns
  have hts := atoms_spec (ws := wsL_bestDither) B.pre
  have hown : s.vm.findClass RL = some m.cls := findClass_of_methodNamed B.named
  have hlocks := B.notSynchronized
  subst hsz
  have hD := hD0.self (sz := s.heap.size)
  generalize hAe : va_A ((h, .inr (5, [.ref (bA 0), .ref (bB 0), .ref aV, .int xN, .ref yt])) :: (wB cyI cyJ bA AZ ++ (wB cyI cyJ bB BZ ++ [(aO, .inl (cyJ, 1, .inr (.inl vO)))]))) s.heap.size = A at hD hZ ⊢
  have hA : ∀ q : Nat, s.heap.size ≤ q → A q := fun q h => by rw [← hAe]; exact Or.inr h
  have hS : va_S A s.heap s.heap [] := va_S.rf
  have hP : va_P (dC, dI) vwCl ((h, .inr (5, [.ref (bA 0), .ref (bB 0), .ref aV, .int xN, .ref yt])) :: (wB cyI cyJ bA AZ ++ (wB cyI cyJ bB BZ ++ [(aO, .inl (cyJ, 1, .inr (.inl vO)))]))) s.heap := hP
  have hl := lv_entry ([.ref h, .int w2, .int w3, .int w4, .ref aO]) (n := 6) (Nat.le_of_ble_eq_true rfl)
  rw [lg_entry_eq]
  generalize (lg_sl ([.ref h, .int w2, .int w3, .int w4, .ref aO]) ++ List.replicate (6 - (lg_sl ([.ref h, .int w2, .int w3, .int w4, .ref aO])).length) Slot.unset).toArray = ls at hl ⊢
  have hl : lv_has ls 6 [(0, .ref h), (1, .int w2), (2, .int w3), (3, .int w4), (4, .ref aO)] := hl
  have htb := vx_table (x := yL_bestDither) B (hts _ List.mem_cons_self)
  unfold F_L_bestDither at hF
  refine lv_aload hx hb dL_bestDither_0 (lv_at hl 4 rfl) ?_
  refine lv_iconst (v := 0) hx hb dL_bestDither_2 (by decide) ?_
  refine lv_aload_n hx hb dL_bestDither_3 rfl (lv_at hl 0 rfl) ?_
  refine lv_iload_n hx hb dL_bestDither_4 rfl (lv_at hl 1 rfl) ?_
  refine lv_iload_n hx hb dL_bestDither_5 rfl (lv_at hl 2 rfl) ?_
  refine lv_iload_n hx hb dL_bestDither_6 rfl (lv_at hl 3 rfl) ?_
  obtain ⟨oo1, hoo1, hoo1k⟩ := obl_e hF
  refine x_tryi (wr := [(aO, .inl (cyJ, 1, .inr (.inl vO)))]) (ws' := fun o1 t2 => ((h, .inr (5, [.ref (bA 0), .ref (bB 0), .ref aV, .int xN, .ref yt])) :: (wB cyI cyJ bA AZ ++ (wB cyI cyJ bB o1.2 ++ [(aO, .inl (cyJ, 1, .inr (.inl vO)))])))) (vx_runV (As := [.int w2, .int w3, .int w4]) (rest := [.int 0, .ref aO]) ⟨hx, hb, hml, hown, hts⟩ (c_X5_bestDither l hfl dC dI cyI cyJ cyB cyS cyD h bA bB aV yt s.heap.size xN AZ BZ w2 w3 w4 hoo1) (cwV 3 hts gL_bestDither_X5_bestDither rfl rfl rfl (by decide +kernel) ⟨Nat.le_of_ble_eq_true rfl, Nat.le_of_ble_eq_true rfl⟩) ⟨cPreX_blind, va_recv hK hP (ci := 5) (q0 := 0) rfl rfl, x_preX hN hZ hT hP hD hS hA hK [0, 1, 2, 3, 4, 5, 6, 7, 8, 9, 10, 11, 12, 13, 14, 15, 16, 17, 18, 19, 20, 21, 22, 23, 24, 25, 26, 27, 28, 29, 30] rfl rfl⟩ rfl rfl hl.1 rfl (lv_room (Nat.le_of_ble_eq_true rfl)) dL_bestDither_7 ⟨Nat.le_of_ble_eq_true rfl, Nat.le_of_ble_eq_true rfl⟩) hP hD hS hA [0, 1, 2, 3, 4, 5, 6, 7, 8, 9, 10, 11, 12, 13, 14, 15, 16, 17, 18, 19, 20, 21, 22, 23, 24, 25, 26, 27, 28, 29, 30] [31] [1, 2, 3, 4, 5, 6, 7, 8, 9, 10, 11, 12, 13, 14, 15, 16, 17, 18, 19, 20, 21, 22, 23, 24, 25, 26, 27, 28, 29, 30, 31, 0] rfl rfl rfl (by decide) rfl (fun _ _ => rfl) rfl (fun E9 ce9 q9 H locs hE hP hD hS hce hcv hcl => ?_) (fun o1 t2 H locs hE hP hD hS => ?_)
  · subst hE
    have hF := obl2_r hoo1k
    obtain ⟨hE9, hF⟩ := ck_e hF
    subst hE9
    refine vx_catch hown [] ⟨0, 12, 15, 13⟩ [] htb (fun _ h => nomatch h) (by decide) (by decide) (hts _ kL_bestDither_1) (va_Nw.use rfl (hT.2.1 xIAE (List.mem_of_getElem? (i := 0) rfl))) hce hcv hcl ?_
    refine lv_astore (lv' := [(5, .ref q9), (0, .ref h), (1, .int w2), (2, .int w3), (3, .int w4), (4, .ref aO)]) hx hb dL_bestDither_15 hl (by decide) rfl (fun ls hl => ?_)
    refine lv_iconst (v := 1) hx hb dL_bestDither_17 (by decide) ?_
    obtain rfl := some_e hF
    refine W.widen (k := 3) (n := 18) (Nat.le_of_ble_eq_true rfl) (Nat.le_of_ble_eq_true rfl) ?_
    exact W.iret (v := 1) hx hb hr (fun t ht hW => ⟨⟨1, (fun _ _ => 0), rfl, rfl, ⟨by rw [ht]; exact hP, va_K.moved hW.alike hK, hD⟩⟩, hS.F ht⟩) hS.2.2 dL_bestDither_18
  · subst hE
    have hF := obl2_l hoo1k
    refine lv_i2l (v := o1.1.toInt64) hx hb dL_bestDither_10 rfl ?_
    obtain ⟨v3, hv3, hF⟩ := lt_e hF
    refine x_last (ws' := ((h, .inr (5, [.ref (bA 0), .ref (bB 0), .ref aV, .int xN, .ref yt])) :: (wB cyI cyJ bA AZ ++ (wB cyI cyJ bB o1.2 ++ [(aO, .inl (cyJ, 1, .inr (.inl v3)))])))) hx hb hK hP hD hS 31 1 rfl rfl (show (0 : Int32).toNatClampNeg = 0 by decide) (inbK (k := 0) (by decide) rfl) hv3 rfl dL_bestDither_11 (fun H locs hP hD hS => ?_)
    refine lv_goto (tgt := 19) hx hb dL_bestDither_12 (by decide) ?_
    refine lv_iconst (v := 0) hx hb dL_bestDither_19 (by decide) ?_
    obtain rfl := some_e hF
    refine W.widen (k := 3) (n := 18) (Nat.le_of_ble_eq_true rfl) (Nat.le_of_ble_eq_true rfl) ?_
    exact W.iret (v := 0) hx hb hr (fun t ht hW => ⟨⟨0, (fun _ _ => 0), rfl, rfl, ⟨by rw [ht]; exact hP, va_K.moved hW.alike hK, hD⟩⟩, hS.F ht⟩) hS.2.2 dL_bestDither_20
noncomputable def F_L_append (yTl : Int32) (yTb : Nat → Int32) (vO : Nat → Int64) (w2 : Int32) : Option (Int32 × Int32 × (Nat → Int32) × (Nat → Int64)) := obl (F_X5_append yTl yTb w2) (fun o1 => lt_ (α := Nat → Int64) (vp_updL vO 0 o1.1.toInt64) (fun v3 => some (0, o1.2.1, o1.2.2, v3))) (fun E9 => if E9 = xIAE then (some (1, yTl, yTb, vO)) else (ck (E9 = xISE) (some (2, yTl, yTb, vO))))
theorem kL_append_1 : (Cond.classLink RL 13 "java/lang/IllegalArgumentException") ∈ wsL_append := List.mem_of_getElem? (i := 1) rfl
theorem kL_append_2 : (Cond.classLink RL 81 "java/lang/IllegalStateException") ∈ wsL_append := List.mem_of_getElem? (i := 2) rfl
set_option maxHeartbeats 4000000 in
set_option maxRecDepth 100000 in
theorem c_L_append (l : Launch) (hfl : l.stackTraces = false) (dC : Nat → ClassId) (dI : Nat → Nat → Nat) (cyI cyJ cyB cyS cyD : ClassId) (h : Nat) (bA : Nat → Nat) (bB : Nat → Nat) (aV : Nat) (yt : Nat) (ytb : Nat) (ytn : Nat) (aO : Nat) (sz : Nat) (xN : Int32) (yTl : Int32) (yTs : Int32) (yTp : Int32) (yTb : Nat → Int32) (yTn : Nat → Int32) (vO : Nat → Int64) (w2 : Int32) {out : Int32 × Int32 × (Nat → Int32) × (Nat → Int64)} (hF : F_L_append yTl yTb vO w2 = some out) : Li l yL_append wsL_append ({ frames := 8, cells := 2, slots := 12, locals := 143 } : Room) (dC, dI) [(cyI, .int), (cyJ, .long), (cyB, .byte), (cyS, .object "SelfTuner$State"), (cyD, .double)] sz [.ref h, .int w2, .ref aO] [(h, .inr (5, [.ref (bA 0), .ref (bB 0), .ref aV, .int xN, .ref yt])), (yt, .inr (2, [.ref ytb, .int yTl, .ref ytn, .int yTs, .int yTp])), (ytb, .inl (cyB, 120, .inl yTb)), (ytn, .inl (cyI, 60, .inl yTn)), (aO, .inl (cyJ, 1, .inr (.inl vO)))] out.1 (fun (bV : Nat → Nat → Nat) => [(h, .inr (5, [.ref (bA 0), .ref (bB 0), .ref aV, .int xN, .ref yt])), (yt, .inr (2, [.ref ytb, .int out.2.1, .ref ytn, .int yTs, .int yTp])), (ytb, .inl (cyB, 120, .inl out.2.2.1)), (ytn, .inl (cyI, 60, .inl yTn)), (aO, .inl (cyJ, 1, .inr (.inl out.2.2.2)))]) 2 12 := by
  refine va_MetW (cc := cL_append) (maxL := 4) (ret := (some .int)) (hh := [(0, 9, 12, 13), (0, 9, 15, 81)]) (by decide) rfl ?_
  intro p e s m args below meth c s₁ B hml hv
  obtain ⟨rfl, ⟨hN, hsz, hP, hK, hD0⟩, hZ, hT⟩ := hv
  have hx := B.exec
  have hb := B.bytes
  have hr := B.returns
  have hts := atoms_spec (ws := wsL_append) B.pre
  have hown : s.vm.findClass RL = some m.cls := findClass_of_methodNamed B.named
  have hlocks := B.notSynchronized
  subst hsz
  have hD := hD0.self (sz := s.heap.size)
  generalize hAe : va_A [(h, .inr (5, [.ref (bA 0), .ref (bB 0), .ref aV, .int xN, .ref yt])), (yt, .inr (2, [.ref ytb, .int yTl, .ref ytn, .int yTs, .int yTp])), (ytb, .inl (cyB, 120, .inl yTb)), (ytn, .inl (cyI, 60, .inl yTn)), (aO, .inl (cyJ, 1, .inr (.inl vO)))] s.heap.size = A at hD hZ ⊢
  have hA : ∀ q : Nat, s.heap.size ≤ q → A q := fun q h => by rw [← hAe]; exact Or.inr h
  have hS : va_S A s.heap s.heap [] := va_S.rf
  have hP : va_P (dC, dI) vwCl [(h, .inr (5, [.ref (bA 0), .ref (bB 0), .ref aV, .int xN, .ref yt])), (yt, .inr (2, [.ref ytb, .int yTl, .ref ytn, .int yTs, .int yTp])), (ytb, .inl (cyB, 120, .inl yTb)), (ytn, .inl (cyI, 60, .inl yTn)), (aO, .inl (cyJ, 1, .inr (.inl vO)))] s.heap := hP
  have hl := lv_entry ([.ref h, .int w2, .ref aO]) (n := 4) (Nat.le_of_ble_eq_true rfl)
  rw [lg_entry_eq]
  generalize (lg_sl ([.ref h, .int w2, .ref aO]) ++ List.replicate (4 - (lg_sl ([.ref h, .int w2, .ref aO])).length) Slot.unset).toArray = ls at hl ⊢
  have hl : lv_has ls 4 [(0, .ref h), (1, .int w2), (2, .ref aO)] := hl
  have htb := vx_table (x := yL_append) B (hts _ List.mem_cons_self)
  unfold F_L_append at hF
  refine lv_aload_n hx hb dL_append_0 rfl (lv_at hl 2 rfl) ?_
  refine lv_iconst (v := 0) hx hb dL_append_1 (by decide) ?_
  refine lv_aload_n hx hb dL_append_2 rfl (lv_at hl 0 rfl) ?_
  refine lv_iload_n hx hb dL_append_3 rfl (lv_at hl 1 rfl) ?_
  obtain ⟨oo1, hoo1, hoo1k⟩ := obl_e hF
  refine x_tryi (wr := [(aO, .inl (cyJ, 1, .inr (.inl vO)))]) (ws' := fun o1 t2 => [(h, .inr (5, [.ref (bA 0), .ref (bB 0), .ref aV, .int xN, .ref yt])), (yt, .inr (2, [.ref ytb, .int o1.2.1, .ref ytn, .int yTs, .int yTp])), (ytb, .inl (cyB, 120, .inl o1.2.2)), (ytn, .inl (cyI, 60, .inl yTn)), (aO, .inl (cyJ, 1, .inr (.inl vO)))]) (vx_runV (As := [.int w2]) (rest := [.int 0, .ref aO]) ⟨hx, hb, hml, hown, hts⟩ (c_X5_append l hfl dC dI cyI cyJ cyB cyS cyD h bA bB aV yt ytb ytn s.heap.size xN yTl yTs yTp yTb yTn w2 hoo1) (cwV 1 hts gL_append_X5_append rfl rfl rfl (by decide +kernel) ⟨Nat.le_of_ble_eq_true rfl, Nat.le_of_ble_eq_true rfl⟩) ⟨cPreX_blind, va_recv hK hP (ci := 5) (q0 := 0) rfl rfl, x_preX hN hZ hT hP hD hS hA hK [0, 1, 2, 3] rfl rfl⟩ rfl rfl hl.1 rfl (lv_room (Nat.le_of_ble_eq_true rfl)) dL_append_4 ⟨Nat.le_of_ble_eq_true rfl, Nat.le_of_ble_eq_true rfl⟩) hP hD hS hA [0, 1, 2, 3] [4] [1, 2, 3, 4, 0] rfl rfl rfl (by decide) rfl (fun _ _ => rfl) rfl (fun E9 ce9 q9 H locs hE hP hD hS hce hcv hcl => ?_) (fun o1 t2 H locs hE hP hD hS => ?_)
  · subst hE
    have hF := obl2_r hoo1k
    by_cases hE9 : E9 = xIAE
    · have hF := ite_t hF hE9
      subst hE9
      refine vx_catch hown [] ⟨0, 9, 12, 13⟩ [⟨0, 9, 15, 81⟩] htb (fun _ h => nomatch h) (by decide) (by decide) (hts _ kL_append_1) (va_Nw.use rfl (hT.2.1 xIAE (List.mem_of_getElem? (i := 0) rfl))) hce hcv hcl ?_
      refine lv_astore_n (lv' := [(3, .ref q9), (0, .ref h), (1, .int w2), (2, .ref aO)]) hx hb dL_append_12 rfl hl (by decide) rfl (fun ls hl => ?_)
      refine lv_iconst (v := 1) hx hb dL_append_13 (by decide) ?_
      obtain rfl := some_e hF
      refine W.widen (k := 2) (n := 12) (Nat.le_of_ble_eq_true rfl) (Nat.le_of_ble_eq_true rfl) ?_
      exact W.iret (v := 1) hx hb hr (fun t ht hW => ⟨⟨1, (fun _ _ => 0), rfl, rfl, ⟨by rw [ht]; exact hP, va_K.moved hW.alike hK, hD⟩⟩, hS.F ht⟩) hS.2.2 dL_append_14
    · have hF := ite_f hF hE9
      clear hE9
      obtain ⟨hE9, hF⟩ := ck_e hF
      subst hE9
      refine vx_catch hown [⟨0, 9, 12, 13⟩] ⟨0, 9, 15, 81⟩ [] htb (fun z hz => by rw [List.mem_singleton.mp hz]; exact Or.inr ⟨by decide, xIAE, hts _ kL_append_1, hT.2.2.2 (xISE, xIAE) (List.mem_of_getElem? (i := 1) rfl)⟩) (by decide) (by decide) (hts _ kL_append_2) (va_Nw.use rfl (hT.2.1 xISE (List.mem_of_getElem? (i := 2) rfl))) hce hcv hcl ?_
      refine lv_astore_n (lv' := [(3, .ref q9), (0, .ref h), (1, .int w2), (2, .ref aO)]) hx hb dL_append_15 rfl hl (by decide) rfl (fun ls hl => ?_)
      refine lv_iconst (v := 2) hx hb dL_append_16 (by decide) ?_
      obtain rfl := some_e hF
      refine W.widen (k := 2) (n := 12) (Nat.le_of_ble_eq_true rfl) (Nat.le_of_ble_eq_true rfl) ?_
      exact W.iret (v := 2) hx hb hr (fun t ht hW => ⟨⟨2, (fun _ _ => 0), rfl, rfl, ⟨by rw [ht]; exact hP, va_K.moved hW.alike hK, hD⟩⟩, hS.F ht⟩) hS.2.2 dL_append_17
  · subst hE
    have hF := obl2_l hoo1k
    refine lv_i2l (v := o1.1.toInt64) hx hb dL_append_7 rfl ?_
    obtain ⟨v3, hv3, hF⟩ := lt_e hF
    refine x_last (ws' := [(h, .inr (5, [.ref (bA 0), .ref (bB 0), .ref aV, .int xN, .ref yt])), (yt, .inr (2, [.ref ytb, .int o1.2.1, .ref ytn, .int yTs, .int yTp])), (ytb, .inl (cyB, 120, .inl o1.2.2)), (ytn, .inl (cyI, 60, .inl yTn)), (aO, .inl (cyJ, 1, .inr (.inl v3)))]) hx hb hK hP hD hS 4 1 rfl rfl (show (0 : Int32).toNatClampNeg = 0 by decide) (inbK (k := 0) (by decide) rfl) hv3 rfl dL_append_8 (fun H locs hP hD hS => ?_)
    refine lv_goto (tgt := 18) hx hb dL_append_9 (by decide) ?_
    refine lv_iconst (v := 0) hx hb dL_append_18 (by decide) ?_
    obtain rfl := some_e hF
    refine W.widen (k := 2) (n := 12) (Nat.le_of_ble_eq_true rfl) (Nat.le_of_ble_eq_true rfl) ?_
    exact W.iret (v := 0) hx hb hr (fun t ht hW => ⟨⟨0, (fun _ _ => 0), rfl, rfl, ⟨by rw [ht]; exact hP, va_K.moved hW.alike hK, hD⟩⟩, hS.F ht⟩) hS.2.2 dL_append_19
def F_L_undo (xN : Int32) (AZ : ST) (C0Z : ST) (C1Z : ST) (C2Z : ST) (C3Z : ST) (vO : Nat → Int64) : Option (Int32 × Int32 × ST × (Nat → Int64)) := obl (F_X5_undo xN AZ C0Z C1Z C2Z C3Z) (fun o1 => lt_ (α := Nat → Int64) (vp_updL vO 0 o1.1.toInt64) (fun v3 => some (0, o1.2.1, o1.2.2, v3))) (fun E9 => ck (E9 = xISE) (some (1, xN, AZ, vO)))
theorem kL_undo_1 : (Cond.classLink RL 81 "java/lang/IllegalStateException") ∈ wsL_undo := List.mem_of_getElem? (i := 1) rfl
set_option maxHeartbeats 4000000 in
set_option maxRecDepth 100000 in
theorem c_L_undo (l : Launch) (hfl : l.stackTraces = false) (dC : Nat → ClassId) (dI : Nat → Nat → Nat) (cyI cyJ cyB cyS cyD : ClassId) (h : Nat) (bA : Nat → Nat) (bB : Nat → Nat) (aV : Nat) (yt : Nat) (bV : Nat → Nat → Nat) (aO : Nat) (sz : Nat) (xN : Int32) (AZ : ST) (C0Z : ST) (C1Z : ST) (C2Z : ST) (C3Z : ST) (vO : Nat → Int64) {out : Int32 × Int32 × ST × (Nat → Int64)} (hF : F_L_undo xN AZ C0Z C1Z C2Z C3Z vO = some out) : Li l yL_undo wsL_undo ({ frames := 7, cells := 1, slots := 6, locals := 163 } : Room) (dC, dI) [(cyI, .int), (cyJ, .long), (cyB, .byte), (cyS, .object "SelfTuner$State"), (cyD, .double)] sz [.ref h, .ref aO] ((h, .inr (5, [.ref (bA 0), .ref (bB 0), .ref aV, .int xN, .ref yt])) :: (wB cyI cyJ bA AZ ++ ((aV, .inl (cyS, 4, .inr (.inr (.inr (.inr (fun i => some (bV i 0))))))) :: (wB cyI cyJ (bV 0) C0Z ++ (wB cyI cyJ (bV 1) C1Z ++ (wB cyI cyJ (bV 2) C2Z ++ (wB cyI cyJ (bV 3) C3Z ++ [(aO, .inl (cyJ, 1, .inr (.inl vO)))]))))))) out.1 (fun (bV : Nat → Nat → Nat) => ((h, .inr (5, [.ref (bA 0), .ref (bB 0), .ref aV, .int out.2.1, .ref yt])) :: (wB cyI cyJ bA out.2.2.1 ++ ((aV, .inl (cyS, 4, .inr (.inr (.inr (.inr (fun i => some (bV i 0))))))) :: (wB cyI cyJ (bV 0) C0Z ++ (wB cyI cyJ (bV 1) C1Z ++ (wB cyI cyJ (bV 2) C2Z ++ (wB cyI cyJ (bV 3) C3Z ++ [(aO, .inl (cyJ, 1, .inr (.inl out.2.2.2)))])))))))) 1 6 := by
  refine va_MetW (cc := cL_undo) (maxL := 3) (ret := (some .int)) (hh := [(0, 8, 11, 81)]) (by decide) rfl ?_
  intro p e s m args below meth c s₁ B hml hv
  obtain ⟨rfl, ⟨hN, hsz, hP, hK, hD0⟩, hZ, hT⟩ := hv
  have hx := B.exec
  have hb := B.bytes
  have hr := B.returns
  have hts := atoms_spec (ws := wsL_undo) B.pre
  have hown : s.vm.findClass RL = some m.cls := findClass_of_methodNamed B.named
  have hlocks := B.notSynchronized
  subst hsz
  have hD := hD0.self (sz := s.heap.size)
  generalize hAe : va_A ((h, .inr (5, [.ref (bA 0), .ref (bB 0), .ref aV, .int xN, .ref yt])) :: (wB cyI cyJ bA AZ ++ ((aV, .inl (cyS, 4, .inr (.inr (.inr (.inr (fun i => some (bV i 0))))))) :: (wB cyI cyJ (bV 0) C0Z ++ (wB cyI cyJ (bV 1) C1Z ++ (wB cyI cyJ (bV 2) C2Z ++ (wB cyI cyJ (bV 3) C3Z ++ [(aO, .inl (cyJ, 1, .inr (.inl vO)))]))))))) s.heap.size = A at hD hZ ⊢
  have hA : ∀ q : Nat, s.heap.size ≤ q → A q := fun q h => by rw [← hAe]; exact Or.inr h
  have hS : va_S A s.heap s.heap [] := va_S.rf
  have hP : va_P (dC, dI) vwCl ((h, .inr (5, [.ref (bA 0), .ref (bB 0), .ref aV, .int xN, .ref yt])) :: (wB cyI cyJ bA AZ ++ ((aV, .inl (cyS, 4, .inr (.inr (.inr (.inr (fun i => some (bV i 0))))))) :: (wB cyI cyJ (bV 0) C0Z ++ (wB cyI cyJ (bV 1) C1Z ++ (wB cyI cyJ (bV 2) C2Z ++ (wB cyI cyJ (bV 3) C3Z ++ [(aO, .inl (cyJ, 1, .inr (.inl vO)))]))))))) s.heap := hP
  have hl := lv_entry ([.ref h, .ref aO]) (n := 3) (Nat.le_of_ble_eq_true rfl)
  rw [lg_entry_eq]
  generalize (lg_sl ([.ref h, .ref aO]) ++ List.replicate (3 - (lg_sl ([.ref h, .ref aO])).length) Slot.unset).toArray = ls at hl ⊢
  have hl : lv_has ls 3 [(0, .ref h), (1, .ref aO)] := hl
  have htb := vx_table (x := yL_undo) B (hts _ List.mem_cons_self)
  unfold F_L_undo at hF
  refine lv_aload_n hx hb dL_undo_0 rfl (lv_at hl 1 rfl) ?_
  refine lv_iconst (v := 0) hx hb dL_undo_1 (by decide) ?_
  refine lv_aload_n hx hb dL_undo_2 rfl (lv_at hl 0 rfl) ?_
  obtain ⟨oo1, hoo1, hoo1k⟩ := obl_e hF
  refine x_tryi (wr := [(aO, .inl (cyJ, 1, .inr (.inl vO)))]) (ws' := fun o1 t2 => ((h, .inr (5, [.ref (bA 0), .ref (bB 0), .ref aV, .int o1.2.1, .ref yt])) :: (wB cyI cyJ bA o1.2.2 ++ ((aV, .inl (cyS, 4, .inr (.inr (.inr (.inr (fun i => some (t2 i 0))))))) :: (wB cyI cyJ (t2 0) C0Z ++ (wB cyI cyJ (t2 1) C1Z ++ (wB cyI cyJ (t2 2) C2Z ++ (wB cyI cyJ (t2 3) C3Z ++ [(aO, .inl (cyJ, 1, .inr (.inl vO)))])))))))) (vx_runV (As := []) (rest := [.int 0, .ref aO]) ⟨hx, hb, hml, hown, hts⟩ (c_X5_undo l hfl dC dI cyI cyJ cyB cyS cyD h bA bB aV yt bV s.heap.size xN AZ C0Z C1Z C2Z C3Z hoo1) (cwV 0 hts gL_undo_X5_undo rfl rfl rfl (by decide +kernel) ⟨Nat.le_of_ble_eq_true rfl, Nat.le_of_ble_eq_true rfl⟩) ⟨cPreX_blind, va_recv hK hP (ci := 5) (q0 := 0) rfl rfl, x_preX hN hZ hT hP hD hS hA hK [0, 1, 2, 3, 4, 5, 6, 7, 8, 9, 10, 11, 12, 13, 14, 15, 16, 17, 18, 19, 20, 21, 22, 23, 24, 25, 26, 27, 28, 29, 30, 31, 32, 33, 34, 35, 36, 37, 38, 39, 40, 41, 42, 43, 44, 45, 46, 47, 48, 49, 50, 51, 52, 53, 54, 55, 56, 57, 58, 59, 60, 61, 62, 63, 64, 65, 66, 67, 68, 69, 70, 71, 72, 73, 74, 75, 76] rfl rfl⟩ rfl rfl hl.1 rfl (lv_room (Nat.le_of_ble_eq_true rfl)) dL_undo_3 ⟨Nat.le_of_ble_eq_true rfl, Nat.le_of_ble_eq_true rfl⟩) hP hD hS hA [0, 1, 2, 3, 4, 5, 6, 7, 8, 9, 10, 11, 12, 13, 14, 15, 16, 17, 18, 19, 20, 21, 22, 23, 24, 25, 26, 27, 28, 29, 30, 31, 32, 33, 34, 35, 36, 37, 38, 39, 40, 41, 42, 43, 44, 45, 46, 47, 48, 49, 50, 51, 52, 53, 54, 55, 56, 57, 58, 59, 60, 61, 62, 63, 64, 65, 66, 67, 68, 69, 70, 71, 72, 73, 74, 75, 76] [77] [1, 2, 3, 4, 5, 6, 7, 8, 9, 10, 11, 12, 13, 14, 15, 16, 17, 18, 19, 20, 21, 22, 23, 24, 25, 26, 27, 28, 29, 30, 31, 32, 33, 34, 35, 36, 37, 38, 39, 40, 41, 42, 43, 44, 45, 46, 47, 48, 49, 50, 51, 52, 53, 54, 55, 56, 57, 58, 59, 60, 61, 62, 63, 64, 65, 66, 67, 68, 69, 70, 71, 72, 73, 74, 75, 76, 77, 0] rfl rfl rfl (by decide) rfl (fun _ _ => rfl) rfl (fun E9 ce9 q9 H locs hE hP hD hS hce hcv hcl => ?_) (fun o1 t2 H locs hE hP hD hS => ?_)
  · subst hE
    have hF := obl2_r hoo1k
    obtain ⟨hE9, hF⟩ := ck_e hF
    subst hE9
    refine vx_catch hown [] ⟨0, 8, 11, 81⟩ [] htb (fun _ h => nomatch h) (by decide) (by decide) (hts _ kL_undo_1) (va_Nw.use rfl (hT.2.1 xISE (List.mem_of_getElem? (i := 2) rfl))) hce hcv hcl ?_
    refine lv_astore_n (lv' := [(2, .ref q9), (0, .ref h), (1, .ref aO)]) hx hb dL_undo_11 rfl hl (by decide) rfl (fun ls hl => ?_)
    refine lv_iconst (v := 1) hx hb dL_undo_12 (by decide) ?_
    obtain rfl := some_e hF
    refine W.widen (k := 1) (n := 6) (Nat.le_of_ble_eq_true rfl) (Nat.le_of_ble_eq_true rfl) ?_
    exact W.iret (v := 1) hx hb hr (fun t ht hW => ⟨⟨1, bV, rfl, rfl, ⟨by rw [ht]; exact hP, va_K.moved hW.alike hK, hD⟩⟩, hS.F ht⟩) hS.2.2 dL_undo_13
  · subst hE
    have hF := obl2_l hoo1k
    refine lv_i2l (v := o1.1.toInt64) hx hb dL_undo_6 rfl ?_
    obtain ⟨v3, hv3, hF⟩ := lt_e hF
    refine x_last (ws' := ((h, .inr (5, [.ref (bA 0), .ref (bB 0), .ref aV, .int o1.2.1, .ref yt])) :: (wB cyI cyJ bA o1.2.2 ++ ((aV, .inl (cyS, 4, .inr (.inr (.inr (.inr (fun i => some (t2 i 0))))))) :: (wB cyI cyJ (t2 0) C0Z ++ (wB cyI cyJ (t2 1) C1Z ++ (wB cyI cyJ (t2 2) C2Z ++ (wB cyI cyJ (t2 3) C3Z ++ [(aO, .inl (cyJ, 1, .inr (.inl v3)))])))))))) hx hb hK hP hD hS 77 1 rfl rfl (show (0 : Int32).toNatClampNeg = 0 by decide) (inbK (k := 0) (by decide) rfl) hv3 rfl dL_undo_7 (fun H locs hP hD hS => ?_)
    refine lv_goto (tgt := 14) hx hb dL_undo_8 (by decide) ?_
    refine lv_iconst (v := 0) hx hb dL_undo_14 (by decide) ?_
    obtain rfl := some_e hF
    refine W.widen (k := 1) (n := 6) (Nat.le_of_ble_eq_true rfl) (Nat.le_of_ble_eq_true rfl) ?_
    exact W.iret (v := 0) hx hb hr (fun t ht hW => ⟨⟨0, t2, rfl, rfl, ⟨by rw [ht]; exact hP, va_K.moved hW.alike hK, hD⟩⟩, hS.F ht⟩) hS.2.2 dL_undo_15
