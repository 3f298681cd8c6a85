def F_X6_takes_152 (o8 : Int64 × (Nat → Int64)) (x13 : Int64) (v3 : Int64) : Nat → ((Int32 × (Nat → Int64) × (Nat → Int64)) → Option (Int64 × Int64 × (Nat → Int64) × (Nat → Int64) × (Nat → Int64) × (Nat → Int64))) → Int32 → Int32 → (Nat → Int64) → (Nat → Int64) → Option (Int64 × Int64 × (Nat → Int64) × (Nat → Int64) × (Nat → Int64) × (Nat → Int64))
  | 0, _, _, _, _, _ => none
  | n19 + 1, K20, v21, v22, v23, v24 => if (3 : Int32) ≤ v22 then (K20 (v21, v23, v24)) else (ck (inb v22 3) (ob (F_X6_floor (65536 * (o8.2 v22.toNatClampNeg)) (x13 + o8.1)) (fun o27 => ob (F_X6_within o27 (-6553600) 6553600) (fun o28 => ck (inb v22 3) (lt_ (α := Nat → Int64) (vp_updL v24 v22.toNatClampNeg o28) (fun v30 => ck (inb (13 + v22) 76) (ck (inb v22 3) (ob (F_X6_floor ((v30 v22.toNatClampNeg) * v3) 65536) (fun o33 => ck (inb (13 + v22) 76) (lt_ (α := Nat → Int64) (vp_updL v23 ((13 + v22).toNatClampNeg) ((v23 ((13 + v22).toNatClampNeg)) + o33)) (fun v35 => ob (F_X6_boxes v35 v22) (fun o36 => rg (α := Int32) (fun K40 => if (o36.1 : Int32) = 0 then (if (v21 : Int32) = 0 then (K40 0) else (K40 1)) else (K40 1)) (fun x39 => lt_ (α := Int32) (v22 + 1) (fun v41 => F_X6_takes_152 o8 x13 v3 n19 K20 x39 v41 o36.2 v30))))))))))))))
def F_X6_takes (sS : Int64) (sAl : Nat → Int64) (sF : Nat → Int64) (sG : Nat → Int64) (sK : Nat → Int64) (w1 : Int64) (w2 : Int64) (w3 : Int64) : Option (Int64 × Int64 × (Nat → Int64) × (Nat → Int64) × (Nat → Int64) × (Nat → Int64)) := ob (F_X6_takesRegressor sF w1 w2) (fun o1 => ob (F_X6_sum sAl o1) (fun o2 => lt_ (α := Int64) ((65536 * w3) - o2) (fun v3 => ob (F_X6_keeps sAl w1 w2) (fun o4 => lt_ (α := Nat → Int64) (vp_updL o4 25 ((o4 25) + 1)) (fun v5 => ob (F_X6_in v3 ((-65536) * (v5 1)) (65536 * (v5 1))) (fun o6 => if (o6 : Int32) = 0 then (ob (F_X6_laysGains v5 o1 sG) (fun o8 => rg (α := Int32) (fun K11 => if (o8.1 : Int64) < ((v5 2) * 65536) then (K11 1) else (K11 0)) (fun x10 => rg (α := Int64) (fun K14 => if (x10 : Int32) = 0 then (K14 (v5 0)) else (K14 65536)) (fun x13 => rg (α := Int64) (fun K17 => if (x10 : Int32) = 0 then (K17 0) else (K17 1)) (fun x16 => lt_ (α := Nat → Int64) (vp_updL v5 29 ((v5 29) + x16)) (fun v18 => F_X6_takes_152 o8 x13 v3 1000 (fun x42 => rg (α := Int64) (fun K45 => if (x42.1 : Int32) = 0 then (K45 0) else (K45 1)) (fun x44 => lt_ (α := Nat → Int64) (vp_updL x42.2.1 28 ((x42.2.1 28) + x44)) (fun v46 => ob (F_X6_updatesP v46 o8.2 x42.2.2 x13) (fun o47 => some (v3, o8.1, o47, o1, o8.2, x42.2.2))))) 0 0 v18 sK)))))) else (lt_ (α := Nat → Int64) (vp_updL v5 26 ((v5 26) + 1)) (fun v48 => some (v3, sS, v48, o1, sG, sK)))))))))
theorem kX6_takes_1 : (Cond.constantLong RX6 71 (65536)) ∈ wsX6_takes := List.mem_of_getElem? (i := 1) rfl
theorem kX6_takes_2 : (Cond.fieldLink RX6 7 "SelfTunerModel" "all" "[J") ∈ wsX6_takes := List.mem_of_getElem? (i := 2) rfl
theorem kX6_takes_3 : (Cond.constantLong RX6 144 (-65536)) ∈ wsX6_takes := List.mem_of_getElem? (i := 3) rfl
theorem kX6_takes_4 : (Cond.fieldLink RX6 115 "SelfTunerModel" "s" "J") ∈ wsX6_takes := List.mem_of_getElem? (i := 4) rfl
theorem kX6_takes_5 : (Cond.fieldLink RX6 25 "SelfTunerModel" "k" "[J") ∈ wsX6_takes := List.mem_of_getElem? (i := 5) rfl
theorem kX6_takes_6 : (Cond.fieldLink RX6 22 "SelfTunerModel" "g" "[J") ∈ wsX6_takes := List.mem_of_getElem? (i := 6) rfl
theorem kX6_takes_7 : (Cond.constantLong RX6 149 (-6553600)) ∈ wsX6_takes := List.mem_of_getElem? (i := 7) rfl
theorem kX6_takes_8 : (Cond.constantLong RX6 110 (6553600)) ∈ wsX6_takes := List.mem_of_getElem? (i := 8) rfl
theorem iX6_takes_X6 : ∀ w ∈ wsX60, w ∈ wsX6_takes := fun w h => List.mem_cons_of_mem _ (List.mem_append_right _ h)
set_option maxHeartbeats 4000000 in
set_option maxRecDepth 100000 in
theorem c_X6_takes (l : Launch) (dC : Nat → ClassId) (dI : Nat → Nat → Nat) (cyI cyJ cyB cyS cyD : ClassId) (h : Nat) (aAl : Nat) (aSv : Nat) (aAs : Nat) (aF : Nat) (aG : Nat) (aK : Nat) (aTx : Nat) (aRd : Nat) (sz : Nat) (sN : Int32) (sTh : Int32) (sS : Int64) (sTl : Int32) (sPl : Int32) (sAl : Nat → Int64) (sSv : Nat → Int64) (sAs : Nat → Int64) (sF : Nat → Int64) (sG : Nat → Int64) (sK : Nat → Int64) (sTx : Nat → Int32) (sRd : Nat → Int32) (w1 : Int64) (w2 : Int64) (w3 : Int64) {out : Int64 × Int64 × (Nat → Int64) × (Nat → Int64) × (Nat → Int64) × (Nat → Int64)} (hF : F_X6_takes sS sAl sF sG sK w1 w2 w3 = some out) : Ml l yX6_takes wsX6_takes ({ frames := 2, cells := 0, slots := 0, locals := 51 } : Room) (dC, dI) [(cyI, .int), (cyJ, .long), (cyB, .byte), (cyS, .object "SelfTuner$State"), (cyD, .double)] sz [.ref h, .long w1, .long w2, .long w3] [(h, .inr (6, [.ref aAl, .ref aSv, .ref aAs, .int sN, .int sTh, .ref aF, .ref aG, .ref aK, .long sS, .ref aTx, .int sTl, .int sPl, .ref aRd])), (aAl, .inl (cyJ, 76, .inr (.inl sAl))), (aSv, .inl (cyJ, 304, .inr (.inl sSv))), (aAs, .inl (cyJ, 76, .inr (.inl sAs))), (aF, .inl (cyJ, 3, .inr (.inl sF))), (aG, .inl (cyJ, 3, .inr (.inl sG))), (aK, .inl (cyJ, 3, .inr (.inl sK))), (aTx, .inl (cyI, 120, .inl sTx)), (aRd, .inl (cyI, 63, .inl sRd))] out.1 [(h, .inr (6, [.ref aAl, .ref aSv, .ref aAs, .int sN, .int sTh, .ref aF, .ref aG, .ref aK, .long out.2.1, .ref aTx, .int sTl, .int sPl, .ref aRd])), (aAl, .inl (cyJ, 76, .inr (.inl out.2.2.1))), (aSv, .inl (cyJ, 304, .inr (.inl sSv))), (aAs, .inl (cyJ, 76, .inr (.inl sAs))), (aF, .inl (cyJ, 3, .inr (.inl out.2.2.2.1))), (aG, .inl (cyJ, 3, .inr (.inl out.2.2.2.2.1))), (aK, .inl (cyJ, 3, .inr (.inl out.2.2.2.2.2))), (aTx, .inl (cyI, 120, .inl sTx)), (aRd, .inl (cyI, 63, .inl sRd))] := by
  refine Met.ofW (cc := cX6_takes) (maxL := 14) (ret := (some .long)) (by decide) rfl ?_
  intro p e s m args below meth c s₁ B hml hv
  obtain ⟨rfl, hN, hsz, hP, hK, hD0⟩ := hv
  have hx := B.exec
  have hb := B.bytes
  have hr := B.returns
  have hts := atoms_spec (ws := wsX6_takes) B.pre
  have hown : s.vm.findClass RX6 = some m.cls := findClass_of_methodNamed B.named
  have hlocks := B.notSynchronized
  subst hsz
  have hD := hD0.self (sz := s.heap.size)
  generalize hAe : va_A [(h, .inr (6, [.ref aAl, .ref aSv, .ref aAs, .int sN, .int sTh, .ref aF, .ref aG, .ref aK, .long sS, .ref aTx, .int sTl, .int sPl, .ref aRd])), (aAl, .inl (cyJ, 76, .inr (.inl sAl))), (aSv, .inl (cyJ, 304, .inr (.inl sSv))), (aAs, .inl (cyJ, 76, .inr (.inl sAs))), (aF, .inl (cyJ, 3, .inr (.inl sF))), (aG, .inl (cyJ, 3, .inr (.inl sG))), (aK, .inl (cyJ, 3, .inr (.inl sK))), (aTx, .inl (cyI, 120, .inl sTx)), (aRd, .inl (cyI, 63, .inl sRd))] s.heap.size = A at hD ⊢
  have hA : ∀ q : Nat, s.heap.size ≤ q → A q := fun q h => by rw [← hAe]; exact Or.inr h
  have hS : va_S A s.heap s.heap [] := va_S.rf
  have hP : va_P (dC, dI) vwCl [(h, .inr (6, [.ref aAl, .ref aSv, .ref aAs, .int sN, .int sTh, .ref aF, .ref aG, .ref aK, .long sS, .ref aTx, .int sTl, .int sPl, .ref aRd])), (aAl, .inl (cyJ, 76, .inr (.inl sAl))), (aSv, .inl (cyJ, 304, .inr (.inl sSv))), (aAs, .inl (cyJ, 76, .inr (.inl sAs))), (aF, .inl (cyJ, 3, .inr (.inl sF))), (aG, .inl (cyJ, 3, .inr (.inl sG))), (aK, .inl (cyJ, 3, .inr (.inl sK))), (aTx, .inl (cyI, 120, .inl sTx)), (aRd, .inl (cyI, 63, .inl sRd))] s.heap := hP
  have hl := lv_entry ([.ref h, .long w1, .long w2, .long w3]) (n := 14) (Nat.le_of_ble_eq_true rfl)
  rw [lg_entry_eq]
  generalize (lg_sl ([.ref h, .long w1, .long w2, .long w3]) ++ List.replicate (14 - (lg_sl ([.ref h, .long w1, .long w2, .long w3])).length) Slot.unset).toArray = ls at hl ⊢
  have hl : lv_has ls 14 [(0, .ref h), (1, .long w1), (3, .long w2), (5, .long w3)] := hl
  unfold F_X6_takes at hF
  refine lv_aload_n hx hb dX6_takes_0 rfl (lv_at hl 0 rfl) ?_
  refine lv_lload_n hx hb dX6_takes_1 rfl (lv_at hl 1 rfl) ?_
  refine lv_lload_n hx hb dX6_takes_2 rfl (lv_at hl 2 rfl) ?_
  obtain ⟨o1, ho1, hF⟩ := ob_e hF
  refine x_callv (wr := []) (ws' := [(h, .inr (6, [.ref aAl, .ref aSv, .ref aAs, .int sN, .int sTh, .ref aF, .ref aG, .ref aK, .long sS, .ref aTx, .int sTl, .int sPl, .ref aRd])), (aAl, .inl (cyJ, 76, .inr (.inl sAl))), (aSv, .inl (cyJ, 304, .inr (.inl sSv))), (aAs, .inl (cyJ, 76, .inr (.inl sAs))), (aF, .inl (cyJ, 3, .inr (.inl o1))), (aG, .inl (cyJ, 3, .inr (.inl sG))), (aK, .inl (cyJ, 3, .inr (.inl sK))), (aTx, .inl (cyI, 120, .inl sTx)), (aRd, .inl (cyI, 63, .inl sRd))]) (va_runV (As := [.long w1, .long w2]) (rest := []) ⟨hx, hb, hml, hown, hts⟩ (c_X6_takesRegressor l dC dI cyI cyJ cyB cyS cyD h aAl aSv aAs aF aG aK aTx aRd s.heap.size sN sTh sS sTl sPl sAl sSv sAs sF sG sK sTx sRd w1 w2 ho1) (cwV 2 hts gX6_takes_X6_takesRegressor rfl rfl rfl (by decide +kernel) ⟨Nat.le_of_ble_eq_true rfl, Nat.le_of_ble_eq_true rfl⟩) ⟨cPre_blind, va_recv hK hP (ci := 6) (q0 := 0) rfl rfl, x_pre hN hP hD hK [0, 1, 2, 3, 4, 5, 6, 7, 8] rfl rfl⟩ rfl rfl hl.1 rfl (lv_room (Nat.le_of_ble_eq_true rfl)) dX6_takes_3 ⟨Nat.le_of_ble_eq_true rfl, Nat.le_of_ble_eq_true rfl⟩) hP hD hS hA [0, 1, 2, 3, 4, 5, 6, 7, 8] [] [0, 1, 2, 3, 4, 5, 6, 7, 8] rfl rfl rfl (by decide) rfl rfl (fun H locs hP hD hS => ?_)
  refine lv_ldc2 (v := 65536) hx hb hown (hts _ kX6_takes_1) dX6_takes_6 ?_
  refine lv_lload hx hb dX6_takes_9 (lv_at hl 3 rfl) ?_
  refine lv_lmul hx hb dX6_takes_11 ?_
  refine lv_aload_n hx hb dX6_takes_12 rfl (lv_at hl 0 rfl) ?_
  obtain ⟨o2, ho2, hF⟩ := ob_e hF
  refine x_calll (wr := []) (ws' := [(h, .inr (6, [.ref aAl, .ref aSv, .ref aAs, .int sN, .int sTh, .ref aF, .ref aG, .ref aK, .long sS, .ref aTx, .int sTl, .int sPl, .ref aRd])), (aAl, .inl (cyJ, 76, .inr (.inl sAl))), (aSv, .inl (cyJ, 304, .inr (.inl sSv))), (aAs, .inl (cyJ, 76, .inr (.inl sAs))), (aF, .inl (cyJ, 3, .inr (.inl o1))), (aG, .inl (cyJ, 3, .inr (.inl sG))), (aK, .inl (cyJ, 3, .inr (.inl sK))), (aTx, .inl (cyI, 120, .inl sTx)), (aRd, .inl (cyI, 63, .inl sRd))]) (va_runV (As := []) (rest := [.long (65536 * w3)]) ⟨hx, hb, hml, hown, hts⟩ (c_X6_sum l dC dI cyI cyJ cyB cyS cyD h aAl aSv aAs aF aG aK aTx aRd H.size sN sTh sS sTl sPl sAl sSv sAs o1 sG sK sTx sRd ho2) (cwV 0 hts gX6_takes_X6_sum rfl rfl rfl (by decide +kernel) ⟨Nat.le_of_ble_eq_true rfl, Nat.le_of_ble_eq_true rfl⟩) ⟨cPre_blind, va_recv hK hP (ci := 6) (q0 := 0) rfl rfl, x_pre hN hP hD hK [0, 1, 2, 3, 4, 5, 6, 7, 8] rfl rfl⟩ rfl rfl hl.1 rfl (lv_room (Nat.le_of_ble_eq_true rfl)) dX6_takes_13 ⟨Nat.le_of_ble_eq_true rfl, Nat.le_of_ble_eq_true rfl⟩) hP hD hS hA [0, 1, 2, 3, 4, 5, 6, 7, 8] [] [0, 1, 2, 3, 4, 5, 6, 7, 8] rfl rfl rfl (by decide) rfl rfl (fun H locs hP hD hS => ?_)
  refine lv_lsub hx hb dX6_takes_16 ?_
  obtain ⟨v3, hv3, hF⟩ := lt_e hF
  refine x_topl hv3 ?_
  refine lv_lstore (lv' := [(7, .long v3), (0, .ref h), (1, .long w1), (3, .long w2), (5, .long w3)]) hx hb dX6_takes_17 hl (by decide) rfl (fun ls hl => ?_)
  refine lv_aload_n hx hb dX6_takes_19 rfl (lv_at hl 1 rfl) ?_
  refine lv_lload_n hx hb dX6_takes_20 rfl (lv_at hl 2 rfl) ?_
  refine lv_lload_n hx hb dX6_takes_21 rfl (lv_at hl 3 rfl) ?_
  obtain ⟨o4, ho4, hF⟩ := ob_e hF
  refine x_callv (wr := []) (ws' := [(h, .inr (6, [.ref aAl, .ref aSv, .ref aAs, .int sN, .int sTh, .ref aF, .ref aG, .ref aK, .long sS, .ref aTx, .int sTl, .int sPl, .ref aRd])), (aAl, .inl (cyJ, 76, .inr (.inl o4))), (aSv, .inl (cyJ, 304, .inr (.inl sSv))), (aAs, .inl (cyJ, 76, .inr (.inl sAs))), (aF, .inl (cyJ, 3, .inr (.inl o1))), (aG, .inl (cyJ, 3, .inr (.inl sG))), (aK, .inl (cyJ, 3, .inr (.inl sK))), (aTx, .inl (cyI, 120, .inl sTx)), (aRd, .inl (cyI, 63, .inl sRd))]) (va_runV (As := [.long w1, .long w2]) (rest := []) ⟨hx, hb, hml, hown, hts⟩ (c_X6_keeps l dC dI cyI cyJ cyB cyS cyD h aAl aSv aAs aF aG aK aTx aRd H.size sN sTh sS sTl sPl sAl sSv sAs o1 sG sK sTx sRd w1 w2 ho4) (cwV 2 hts gX6_takes_X6_keeps rfl rfl rfl (by decide +kernel) ⟨Nat.le_of_ble_eq_true rfl, Nat.le_of_ble_eq_true rfl⟩) ⟨cPre_blind, va_recv hK hP (ci := 6) (q0 := 0) rfl rfl, x_pre hN hP hD hK [0, 1, 2, 3, 4, 5, 6, 7, 8] rfl rfl⟩ rfl rfl hl.1 rfl (lv_room (Nat.le_of_ble_eq_true rfl)) dX6_takes_22 ⟨Nat.le_of_ble_eq_true rfl, Nat.le_of_ble_eq_true rfl⟩) hP hD hS hA [0, 1, 2, 3, 4, 5, 6, 7, 8] [] [0, 1, 2, 3, 4, 5, 6, 7, 8] rfl rfl rfl (by decide) rfl rfl (fun H locs hP hD hS => ?_)
  refine lv_aload_n hx hb dX6_takes_25 rfl (lv_at hl 1 rfl) ?_
  refine va_get (D := (dC, dI)) (ci := 6) (v := .ref aAl) (C := RX6) (T := TX6) (N := 13) hx hb hts iX6_takes_X6 hown hK hP 0 rfl rfl 0 (by decide) (hts _ kX6_takes_2) (fun _ h9 => h9) rfl dX6_takes_26 ?_
  refine lv_bipush (v := 25) hx hb dX6_takes_29 (by decide) ?_
  refine lv_dup2_11 hx hb dX6_takes_31 rfl rfl ?_
  refine x_lald hx hb hK hP 1 1 rfl rfl (show (25 : Int32).toNatClampNeg = 25 by decide) (inbK (k := 25) (by decide) rfl) dX6_takes_32 ?_
  refine lv_lconst (v := 1) hx hb dX6_takes_33 (by decide) ?_
  refine lv_ladd hx hb dX6_takes_34 ?_
  obtain ⟨v5, hv5, hF⟩ := lt_e hF
  refine x_last (ws' := [(h, .inr (6, [.ref aAl, .ref aSv, .ref aAs, .int sN, .int sTh, .ref aF, .ref aG, .ref aK, .long sS, .ref aTx, .int sTl, .int sPl, .ref aRd])), (aAl, .inl (cyJ, 76, .inr (.inl v5))), (aSv, .inl (cyJ, 304, .inr (.inl sSv))), (aAs, .inl (cyJ, 76, .inr (.inl sAs))), (aF, .inl (cyJ, 3, .inr (.inl o1))), (aG, .inl (cyJ, 3, .inr (.inl sG))), (aK, .inl (cyJ, 3, .inr (.inl sK))), (aTx, .inl (cyI, 120, .inl sTx)), (aRd, .inl (cyI, 63, .inl sRd))]) hx hb hK hP hD hS 1 1 rfl rfl (show (25 : Int32).toNatClampNeg = 25 by decide) (inbK (k := 25) (by decide) rfl) hv5 rfl dX6_takes_35 (fun H locs hP hD hS => ?_)
  refine lv_lload hx hb dX6_takes_36 (lv_at hl 0 rfl) ?_
  refine lv_ldc2 (v := (-65536)) hx hb hown (hts _ kX6_takes_3) dX6_takes_38 ?_
  refine lv_aload_n hx hb dX6_takes_41 rfl (lv_at hl 1 rfl) ?_
  refine va_get (D := (dC, dI)) (ci := 6) (v := .ref aAl) (C := RX6) (T := TX6) (N := 13) hx hb hts iX6_takes_X6 hown hK hP 0 rfl rfl 0 (by decide) (hts _ kX6_takes_2) (fun _ h9 => h9) rfl dX6_takes_42 ?_
  refine lv_iconst (v := 1) hx hb dX6_takes_45 (by decide) ?_
  refine x_lald hx hb hK hP 1 1 rfl rfl (show (1 : Int32).toNatClampNeg = 1 by decide) (inbK (k := 1) (by decide) rfl) dX6_takes_46 ?_
  refine lv_lmul hx hb dX6_takes_47 ?_
  refine lv_ldc2 (v := 65536) hx hb hown (hts _ kX6_takes_1) dX6_takes_48 ?_
  refine lv_aload_n hx hb dX6_takes_51 rfl (lv_at hl 1 rfl) ?_
  refine va_get (D := (dC, dI)) (ci := 6) (v := .ref aAl) (C := RX6) (T := TX6) (N := 13) hx hb hts iX6_takes_X6 hown hK hP 0 rfl rfl 0 (by decide) (hts _ kX6_takes_2) (fun _ h9 => h9) rfl dX6_takes_52 ?_
  refine lv_iconst (v := 1) hx hb dX6_takes_55 (by decide) ?_
  refine x_lald hx hb hK hP 1 1 rfl rfl (show (1 : Int32).toNatClampNeg = 1 by decide) (inbK (k := 1) (by decide) rfl) dX6_takes_56 ?_
  refine lv_lmul hx hb dX6_takes_57 ?_
  obtain ⟨o6, ho6, hF⟩ := ob_e hF
  refine x_callzi (va_runS (As := [.long v3, .long ((-65536) * (v5 1)), .long (65536 * (v5 1))]) (rest := []) ⟨hx, hb, hml, hown, hts⟩ (c_X6_in l v3 ((-65536) * (v5 1)) (65536 * (v5 1)) ho6) (va_cwS 3 hts gX6_takes_X6_in rfl rfl rfl (by decide +kernel) ⟨Nat.le_of_ble_eq_true rfl, Nat.le_of_ble_eq_true rfl⟩) ⟨true_blind, fun _ _ _ => ⟨rfl, trivial⟩⟩ rfl rfl hl.1 rfl (lv_room (Nat.le_of_ble_eq_true rfl)) dX6_takes_58 ⟨Nat.le_of_ble_eq_true rfl, Nat.le_of_ble_eq_true rfl⟩) ?_
  refine lv_if_eq (tgt := 78) hx hb dX6_takes_61 (by decide) (fun c7 => ?_) (fun c7 => ?_)
  · have hF := ite_t hF c7
    refine lv_aload_n hx hb dX6_takes_78 rfl (lv_at hl 1 rfl) ?_
    obtain ⟨o8, ho8, hF⟩ := ob_e hF
    refine x_callv (wr := []) (ws' := [(h, .inr (6, [.ref aAl, .ref aSv, .ref aAs, .int sN, .int sTh, .ref aF, .ref aG, .ref aK, .long o8.1, .ref aTx, .int sTl, .int sPl, .ref aRd])), (aAl, .inl (cyJ, 76, .inr (.inl v5))), (aSv, .inl (cyJ, 304, .inr (.inl sSv))), (aAs, .inl (cyJ, 76, .inr (.inl sAs))), (aF, .inl (cyJ, 3, .inr (.inl o1))), (aG, .inl (cyJ, 3, .inr (.inl o8.2))), (aK, .inl (cyJ, 3, .inr (.inl sK))), (aTx, .inl (cyI, 120, .inl sTx)), (aRd, .inl (cyI, 63, .inl sRd))]) (va_runV (As := []) (rest := []) ⟨hx, hb, hml, hown, hts⟩ (c_X6_laysGains l dC dI cyI cyJ cyB cyS cyD h aAl aSv aAs aF aG aK aTx aRd H.size sN sTh sS sTl sPl v5 sSv sAs o1 sG sK sTx sRd ho8) (cwV 0 hts gX6_takes_X6_laysGains rfl rfl rfl (by decide +kernel) ⟨Nat.le_of_ble_eq_true rfl, Nat.le_of_ble_eq_true rfl⟩) ⟨cPre_blind, va_recv hK hP (ci := 6) (q0 := 0) rfl rfl, x_pre hN hP hD hK [0, 1, 2, 3, 4, 5, 6, 7, 8] rfl rfl⟩ rfl rfl hl.1 rfl (lv_room (Nat.le_of_ble_eq_true rfl)) dX6_takes_79 ⟨Nat.le_of_ble_eq_true rfl, Nat.le_of_ble_eq_true rfl⟩) hP hD hS hA [0, 1, 2, 3, 4, 5, 6, 7, 8] [] [0, 1, 2, 3, 4, 5, 6, 7, 8] rfl rfl rfl (by decide) rfl rfl (fun H locs hP hD hS => ?_)
    refine lv_aload_n hx hb dX6_takes_82 rfl (lv_at hl 1 rfl) ?_
    refine va_get (D := (dC, dI)) (ci := 6) (v := .long o8.1) (C := RX6) (T := TX6) (N := 13) hx hb hts iX6_takes_X6 hown hK hP 0 rfl rfl 8 (by decide) (hts _ kX6_takes_4) (fun _ h9 => h9) rfl dX6_takes_83 ?_
    refine lv_aload_n hx hb dX6_takes_86 rfl (lv_at hl 1 rfl) ?_
    refine va_get (D := (dC, dI)) (ci := 6) (v := .ref aAl) (C := RX6) (T := TX6) (N := 13) hx hb hts iX6_takes_X6 hown hK hP 0 rfl rfl 0 (by decide) (hts _ kX6_takes_2) (fun _ h9 => h9) rfl dX6_takes_87 ?_
    refine lv_iconst (v := 2) hx hb dX6_takes_90 (by decide) ?_
    refine x_lald hx hb hK hP 1 1 rfl rfl (show (2 : Int32).toNatClampNeg = 2 by decide) (inbK (k := 2) (by decide) rfl) dX6_takes_91 ?_
    refine lv_ldc2 (v := 65536) hx hb hown (hts _ kX6_takes_1) dX6_takes_92 ?_
    refine lv_lmul hx hb dX6_takes_95 ?_
    refine W.lcmp hx hb dX6_takes_96 ?_
    obtain ⟨K11, hK11, hF⟩ := rg_e hF
    have Jx10 : ∀ (x10 : Int32) (H : Heap) (locs : List Loc) (ls : Array Slot), K11 x10 = some out → va_P (dC, dI) vwCl [(h, .inr (6, [.ref aAl, .ref aSv, .ref aAs, .int sN, .int sTh, .ref aF, .ref aG, .ref aK, .long o8.1, .ref aTx, .int sTl, .int sPl, .ref aRd])), (aAl, .inl (cyJ, 76, .inr (.inl v5))), (aSv, .inl (cyJ, 304, .inr (.inl sSv))), (aAs, .inl (cyJ, 76, .inr (.inl sAs))), (aF, .inl (cyJ, 3, .inr (.inl o1))), (aG, .inl (cyJ, 3, .inr (.inl o8.2))), (aK, .inl (cyJ, 3, .inr (.inl sK))), (aTx, .inl (cyI, 120, .inl sTx)), (aRd, .inl (cyI, 63, .inl sRd))] H → va_D A [(h, .inr (6, [.ref aAl, .ref aSv, .ref aAs, .int sN, .int sTh, .ref aF, .ref aG, .ref aK, .long o8.1, .ref aTx, .int sTl, .int sPl, .ref aRd])), (aAl, .inl (cyJ, 76, .inr (.inl v5))), (aSv, .inl (cyJ, 304, .inr (.inl sSv))), (aAs, .inl (cyJ, 76, .inr (.inl sAs))), (aF, .inl (cyJ, 3, .inr (.inl o1))), (aG, .inl (cyJ, 3, .inr (.inl o8.2))), (aK, .inl (cyJ, 3, .inr (.inl sK))), (aTx, .inl (cyI, 120, .inl sTx)), (aRd, .inl (cyI, 63, .inl sRd))] → va_S A s.heap H locs → lv_has ls 14 [(0, .ref h), (7, .long v3)] → W p l e (headSpec wsX6_takes ({ frames := 2, cells := 0, slots := 0, locals := 51 } : Room)).room s m ([.ref h, .long w1, .long w2, .long w3] : List Value).toArray below meth c H locs 0 0 (MQ below (va_Ql (fun (r' : Int64) (_ : Unit) => r' = out.1) (cPost (dC, dI) [(cyI, .int), (cyJ, .long), (cyB, .byte), (cyS, .object "SelfTuner$State"), (cyD, .double)] [(h, .inr (6, [.ref aAl, .ref aSv, .ref aAs, .int sN, .int sTh, .ref aF, .ref aG, .ref aK, .long out.2.1, .ref aTx, .int sTl, .int sPl, .ref aRd])), (aAl, .inl (cyJ, 76, .inr (.inl out.2.2.1))), (aSv, .inl (cyJ, 304, .inr (.inl sSv))), (aAs, .inl (cyJ, 76, .inr (.inl sAs))), (aF, .inl (cyJ, 3, .inr (.inl out.2.2.2.1))), (aG, .inl (cyJ, 3, .inr (.inl out.2.2.2.2.1))), (aK, .inl (cyJ, 3, .inr (.inl out.2.2.2.2.2))), (aTx, .inl (cyI, 120, .inl sTx)), (aRd, .inl (cyI, 63, .inl sRd))] A) A) ([.ref h, .long w1, .long w2, .long w3] : List Value).toArray s 0 0 A) (F0 m 105 ls [.int x10]) := by
      intro x10 H locs ls hF hP hD hS hl
      rw [hK11] at hF
      refine lv_istore (lv' := [(9, .int x10), (0, .ref h), (7, .long v3)]) hx hb dX6_takes_105 hl (by decide) rfl (fun ls hl => ?_)
      refine lv_iload hx hb dX6_takes_107 (lv_at hl 0 rfl) ?_
      obtain ⟨K14, hK14, hF⟩ := rg_e hF
      have Jx13 : ∀ (x13 : Int64) (H : Heap) (locs : List Loc) (ls : Array Slot), K14 x13 = some out → va_P (dC, dI) vwCl [(h, .inr (6, [.ref aAl, .ref aSv, .ref aAs, .int sN, .int sTh, .ref aF, .ref aG, .ref aK, .long o8.1, .ref aTx, .int sTl, .int sPl, .ref aRd])), (aAl, .inl (cyJ, 76, .inr (.inl v5))), (aSv, .inl (cyJ, 304, .inr (.inl sSv))), (aAs, .inl (cyJ, 76, .inr (.inl sAs))), (aF, .inl (cyJ, 3, .inr (.inl o1))), (aG, .inl (cyJ, 3, .inr (.inl o8.2))), (aK, .inl (cyJ, 3, .inr (.inl sK))), (aTx, .inl (cyI, 120, .inl sTx)), (aRd, .inl (cyI, 63, .inl sRd))] H → va_D A [(h, .inr (6, [.ref aAl, .ref aSv, .ref aAs, .int sN, .int sTh, .ref aF, .ref aG, .ref aK, .long o8.1, .ref aTx, .int sTl, .int sPl, .ref aRd])), (aAl, .inl (cyJ, 76, .inr (.inl v5))), (aSv, .inl (cyJ, 304, .inr (.inl sSv))), (aAs, .inl (cyJ, 76, .inr (.inl sAs))), (aF, .inl (cyJ, 3, .inr (.inl o1))), (aG, .inl (cyJ, 3, .inr (.inl o8.2))), (aK, .inl (cyJ, 3, .inr (.inl sK))), (aTx, .inl (cyI, 120, .inl sTx)), (aRd, .inl (cyI, 63, .inl sRd))] → va_S A s.heap H locs → lv_has ls 14 [(0, .ref h), (7, .long v3), (9, .int x10)] → W p l e (headSpec wsX6_takes ({ frames := 2, cells := 0, slots := 0, locals := 51 } : Room)).room s m ([.ref h, .long w1, .long w2, .long w3] : List Value).toArray below meth c H locs 0 0 (MQ below (va_Ql (fun (r' : Int64) (_ : Unit) => r' = out.1) (cPost (dC, dI) [(cyI, .int), (cyJ, .long), (cyB, .byte), (cyS, .object "SelfTuner$State"), (cyD, .double)] [(h, .inr (6, [.ref aAl, .ref aSv, .ref aAs, .int sN, .int sTh, .ref aF, .ref aG, .ref aK, .long out.2.1, .ref aTx, .int sTl, .int sPl, .ref aRd])), (aAl, .inl (cyJ, 76, .inr (.inl out.2.2.1))), (aSv, .inl (cyJ, 304, .inr (.inl sSv))), (aAs, .inl (cyJ, 76, .inr (.inl sAs))), (aF, .inl (cyJ, 3, .inr (.inl out.2.2.2.1))), (aG, .inl (cyJ, 3, .inr (.inl out.2.2.2.2.1))), (aK, .inl (cyJ, 3, .inr (.inl out.2.2.2.2.2))), (aTx, .inl (cyI, 120, .inl sTx)), (aRd, .inl (cyI, 63, .inl sRd))] A) A) ([.ref h, .long w1, .long w2, .long w3] : List Value).toArray s 0 0 A) (F0 m 124 ls [.long x13]) := by
        intro x13 H locs ls hF hP hD hS hl
        rw [hK14] at hF
        refine lv_lstore (lv' := [(10, .long x13), (0, .ref h), (7, .long v3), (9, .int x10)]) hx hb dX6_takes_124 hl (by decide) rfl (fun ls hl => ?_)
        refine lv_aload_n hx hb dX6_takes_126 rfl (lv_at hl 1 rfl) ?_
        refine va_get (D := (dC, dI)) (ci := 6) (v := .ref aAl) (C := RX6) (T := TX6) (N := 13) hx hb hts iX6_takes_X6 hown hK hP 0 rfl rfl 0 (by decide) (hts _ kX6_takes_2) (fun _ h9 => h9) rfl dX6_takes_127 ?_
        refine lv_bipush (v := 29) hx hb dX6_takes_130 (by decide) ?_
        refine lv_dup2_11 hx hb dX6_takes_132 rfl rfl ?_
        refine x_lald hx hb hK hP 1 1 rfl rfl (show (29 : Int32).toNatClampNeg = 29 by decide) (inbK (k := 29) (by decide) rfl) dX6_takes_133 ?_
        refine lv_iload hx hb dX6_takes_134 (lv_at hl 3 rfl) ?_
        obtain ⟨K17, hK17, hF⟩ := rg_e hF
        have Jx16 : ∀ (x16 : Int64) (H : Heap) (locs : List Loc) (ls : Array Slot), K17 x16 = some out → va_P (dC, dI) vwCl [(h, .inr (6, [.ref aAl, .ref aSv, .ref aAs, .int sN, .int sTh, .ref aF, .ref aG, .ref aK, .long o8.1, .ref aTx, .int sTl, .int sPl, .ref aRd])), (aAl, .inl (cyJ, 76, .inr (.inl v5))), (aSv, .inl (cyJ, 304, .inr (.inl sSv))), (aAs, .inl (cyJ, 76, .inr (.inl sAs))), (aF, .inl (cyJ, 3, .inr (.inl o1))), (aG, .inl (cyJ, 3, .inr (.inl o8.2))), (aK, .inl (cyJ, 3, .inr (.inl sK))), (aTx, .inl (cyI, 120, .inl sTx)), (aRd, .inl (cyI, 63, .inl sRd))] H → va_D A [(h, .inr (6, [.ref aAl, .ref aSv, .ref aAs, .int sN, .int sTh, .ref aF, .ref aG, .ref aK, .long o8.1, .ref aTx, .int sTl, .int sPl, .ref aRd])), (aAl, .inl (cyJ, 76, .inr (.inl v5))), (aSv, .inl (cyJ, 304, .inr (.inl sSv))), (aAs, .inl (cyJ, 76, .inr (.inl sAs))), (aF, .inl (cyJ, 3, .inr (.inl o1))), (aG, .inl (cyJ, 3, .inr (.inl o8.2))), (aK, .inl (cyJ, 3, .inr (.inl sK))), (aTx, .inl (cyI, 120, .inl sTx)), (aRd, .inl (cyI, 63, .inl sRd))] → va_S A s.heap H locs → lv_has ls 14 [(0, .ref h), (7, .long v3), (10, .long x13)] → W p l e (headSpec wsX6_takes ({ frames := 2, cells := 0, slots := 0, locals := 51 } : Room)).room s m ([.ref h, .long w1, .long w2, .long w3] : List Value).toArray below meth c H locs 0 0 (MQ below (va_Ql (fun (r' : Int64) (_ : Unit) => r' = out.1) (cPost (dC, dI) [(cyI, .int), (cyJ, .long), (cyB, .byte), (cyS, .object "SelfTuner$State"), (cyD, .double)] [(h, .inr (6, [.ref aAl, .ref aSv, .ref aAs, .int sN, .int sTh, .ref aF, .ref aG, .ref aK, .long out.2.1, .ref aTx, .int sTl, .int sPl, .ref aRd])), (aAl, .inl (cyJ, 76, .inr (.inl out.2.2.1))), (aSv, .inl (cyJ, 304, .inr (.inl sSv))), (aAs, .inl (cyJ, 76, .inr (.inl sAs))), (aF, .inl (cyJ, 3, .inr (.inl out.2.2.2.1))), (aG, .inl (cyJ, 3, .inr (.inl out.2.2.2.2.1))), (aK, .inl (cyJ, 3, .inr (.inl out.2.2.2.2.2))), (aTx, .inl (cyI, 120, .inl sTx)), (aRd, .inl (cyI, 63, .inl sRd))] A) A) ([.ref h, .long w1, .long w2, .long w3] : List Value).toArray s 0 0 A) (F0 m 144 ls [.long x16, .long (v5 29), .int 29, .ref aAl]) := by
          intro x16 H locs ls hF hP hD hS hl
          rw [hK17] at hF
          refine lv_ladd hx hb dX6_takes_144 ?_
          obtain ⟨v18, hv18, hF⟩ := lt_e hF
          refine x_last (ws' := [(h, .inr (6, [.ref aAl, .ref aSv, .ref aAs, .int sN, .int sTh, .ref aF, .ref aG, .ref aK, .long o8.1, .ref aTx, .int sTl, .int sPl, .ref aRd])), (aAl, .inl (cyJ, 76, .inr (.inl v18))), (aSv, .inl (cyJ, 304, .inr (.inl sSv))), (aAs, .inl (cyJ, 76, .inr (.inl sAs))), (aF, .inl (cyJ, 3, .inr (.inl o1))), (aG, .inl (cyJ, 3, .inr (.inl o8.2))), (aK, .inl (cyJ, 3, .inr (.inl sK))), (aTx, .inl (cyI, 120, .inl sTx)), (aRd, .inl (cyI, 63, .inl sRd))]) hx hb hK hP hD hS 1 1 rfl rfl (show (29 : Int32).toNatClampNeg = 29 by decide) (inbK (k := 29) (by decide) rfl) hv18 rfl dX6_takes_145 (fun H locs hP hD hS => ?_)
          refine lv_iconst (v := 0) hx hb dX6_takes_146 (by decide) ?_
          refine lv_istore (lv' := [(12, .int 0), (0, .ref h), (7, .long v3), (10, .long x13)]) hx hb dX6_takes_147 hl (by decide) rfl (fun ls hl => ?_)
          refine lv_iconst (v := 0) hx hb dX6_takes_149 (by decide) ?_
          refine lv_istore (lv' := [(13, .int 0), (12, .int 0), (0, .ref h), (7, .long v3), (10, .long x13)]) hx hb dX6_takes_150 hl (by decide) rfl (fun ls hl => ?_)
          have Ln19 : ∀ (n19 : Nat) (K20 : (Int32 × (Nat → Int64) × (Nat → Int64)) → Option (Int64 × Int64 × (Nat → Int64) × (Nat → Int64) × (Nat → Int64) × (Nat → Int64))) (v21 : Int32) (v22 : Int32) (v23 : Nat → Int64) (v24 : Nat → Int64) (H : Heap) (locs : List Loc) (ls : Array Slot), F_X6_takes_152 o8 x13 v3 n19 K20 v21 v22 v23 v24 = some out → va_P (dC, dI) vwCl [(h, .inr (6, [.ref aAl, .ref aSv, .ref aAs, .int sN, .int sTh, .ref aF, .ref aG, .ref aK, .long o8.1, .ref aTx, .int sTl, .int sPl, .ref aRd])), (aAl, .inl (cyJ, 76, .inr (.inl v23))), (aSv, .inl (cyJ, 304, .inr (.inl sSv))), (aAs, .inl (cyJ, 76, .inr (.inl sAs))), (aF, .inl (cyJ, 3, .inr (.inl o1))), (aG, .inl (cyJ, 3, .inr (.inl o8.2))), (aK, .inl (cyJ, 3, .inr (.inl v24))), (aTx, .inl (cyI, 120, .inl sTx)), (aRd, .inl (cyI, 63, .inl sRd))] H → va_D A [(h, .inr (6, [.ref aAl, .ref aSv, .ref aAs, .int sN, .int sTh, .ref aF, .ref aG, .ref aK, .long o8.1, .ref aTx, .int sTl, .int sPl, .ref aRd])), (aAl, .inl (cyJ, 76, .inr (.inl v23))), (aSv, .inl (cyJ, 304, .inr (.inl sSv))), (aAs, .inl (cyJ, 76, .inr (.inl sAs))), (aF, .inl (cyJ, 3, .inr (.inl o1))), (aG, .inl (cyJ, 3, .inr (.inl o8.2))), (aK, .inl (cyJ, 3, .inr (.inl v24))), (aTx, .inl (cyI, 120, .inl sTx)), (aRd, .inl (cyI, 63, .inl sRd))] → va_S A s.heap H locs → lv_has ls 14 [(0, .ref h), (7, .long v3), (10, .long x13), (12, .int v21), (13, .int v22)] → (∀ (x42 : Int32 × (Nat → Int64) × (Nat → Int64)) (H : Heap) (locs : List Loc) (ls : Array Slot), K20 x42 = some out → va_P (dC, dI) vwCl [(h, .inr (6, [.ref aAl, .ref aSv, .ref aAs, .int sN, .int sTh, .ref aF, .ref aG, .ref aK, .long o8.1, .ref aTx, .int sTl, .int sPl, .ref aRd])), (aAl, .inl (cyJ, 76, .inr (.inl x42.2.1))), (aSv, .inl (cyJ, 304, .inr (.inl sSv))), (aAs, .inl (cyJ, 76, .inr (.inl sAs))), (aF, .inl (cyJ, 3, .inr (.inl o1))), (aG, .inl (cyJ, 3, .inr (.inl o8.2))), (aK, .inl (cyJ, 3, .inr (.inl x42.2.2))), (aTx, .inl (cyI, 120, .inl sTx)), (aRd, .inl (cyI, 63, .inl sRd))] H → va_D A [(h, .inr (6, [.ref aAl, .ref aSv, .ref aAs, .int sN, .int sTh, .ref aF, .ref aG, .ref aK, .long o8.1, .ref aTx, .int sTl, .int sPl, .ref aRd])), (aAl, .inl (cyJ, 76, .inr (.inl x42.2.1))), (aSv, .inl (cyJ, 304, .inr (.inl sSv))), (aAs, .inl (cyJ, 76, .inr (.inl sAs))), (aF, .inl (cyJ, 3, .inr (.inl o1))), (aG, .inl (cyJ, 3, .inr (.inl o8.2))), (aK, .inl (cyJ, 3, .inr (.inl x42.2.2))), (aTx, .inl (cyI, 120, .inl sTx)), (aRd, .inl (cyI, 63, .inl sRd))] → va_S A s.heap H locs → lv_has ls 14 [(0, .ref h), (7, .long v3), (10, .long x13), (12, .int x42.1)] → W p l e (headSpec wsX6_takes ({ frames := 2, cells := 0, slots := 0, locals := 51 } : Room)).room s m ([.ref h, .long w1, .long w2, .long w3] : List Value).toArray below meth c H locs 0 0 (MQ below (va_Ql (fun (r' : Int64) (_ : Unit) => r' = out.1) (cPost (dC, dI) [(cyI, .int), (cyJ, .long), (cyB, .byte), (cyS, .object "SelfTuner$State"), (cyD, .double)] [(h, .inr (6, [.ref aAl, .ref aSv, .ref aAs, .int sN, .int sTh, .ref aF, .ref aG, .ref aK, .long out.2.1, .ref aTx, .int sTl, .int sPl, .ref aRd])), (aAl, .inl (cyJ, 76, .inr (.inl out.2.2.1))), (aSv, .inl (cyJ, 304, .inr (.inl sSv))), (aAs, .inl (cyJ, 76, .inr (.inl sAs))), (aF, .inl (cyJ, 3, .inr (.inl out.2.2.2.1))), (aG, .inl (cyJ, 3, .inr (.inl out.2.2.2.2.1))), (aK, .inl (cyJ, 3, .inr (.inl out.2.2.2.2.2))), (aTx, .inl (cyI, 120, .inl sTx)), (aRd, .inl (cyI, 63, .inl sRd))] A) A) ([.ref h, .long w1, .long w2, .long w3] : List Value).toArray s 0 0 A) (F0 m 251 ls [])) → W p l e (headSpec wsX6_takes ({ frames := 2, cells := 0, slots := 0, locals := 51 } : Room)).room s m ([.ref h, .long w1, .long w2, .long w3] : List Value).toArray below meth c H locs 0 0 (MQ below (va_Ql (fun (r' : Int64) (_ : Unit) => r' = out.1) (cPost (dC, dI) [(cyI, .int), (cyJ, .long), (cyB, .byte), (cyS, .object "SelfTuner$State"), (cyD, .double)] [(h, .inr (6, [.ref aAl, .ref aSv, .ref aAs, .int sN, .int sTh, .ref aF, .ref aG, .ref aK, .long out.2.1, .ref aTx, .int sTl, .int sPl, .ref aRd])), (aAl, .inl (cyJ, 76, .inr (.inl out.2.2.1))), (aSv, .inl (cyJ, 304, .inr (.inl sSv))), (aAs, .inl (cyJ, 76, .inr (.inl sAs))), (aF, .inl (cyJ, 3, .inr (.inl out.2.2.2.1))), (aG, .inl (cyJ, 3, .inr (.inl out.2.2.2.2.1))), (aK, .inl (cyJ, 3, .inr (.inl out.2.2.2.2.2))), (aTx, .inl (cyI, 120, .inl sTx)), (aRd, .inl (cyI, 63, .inl sRd))] A) A) ([.ref h, .long w1, .long w2, .long w3] : List Value).toArray s 0 0 A) (F0 m 152 ls []) := by
            intro n19
            induction n19 with
            | zero => intro K20 v21 v22 v23 v24 H locs ls hF; exact no_e (show none = some out from hF)
            | succ n19 ihn19 =>
              intro K20 v21 v22 v23 v24 H locs ls hF hP hD hS hl kxn19
              rw [F_X6_takes_152] at hF
              refine lv_iload hx hb dX6_takes_152 (lv_at hl 4 rfl) ?_
              refine lv_iconst (v := 3) hx hb dX6_takes_154 (by decide) ?_
              refine lv_icmp_ge (tgt := 251) hx hb dX6_takes_155 (by decide) (fun c25 => ?_) (fun c25 => ?_)
              · have hF := ite_t hF c25
                exact kxn19 _ _ _ _ hF hP hD hS (lv_sub hl [0, 1, 2, 3] rfl)
              · have hF := ite_f hF c25
                refine lv_aload_n hx hb dX6_takes_158 rfl (lv_at hl 0 rfl) ?_
                refine va_get (D := (dC, dI)) (ci := 6) (v := .ref aK) (C := RX6) (T := TX6) (N := 13) hx hb hts iX6_takes_X6 hown hK hP 0 rfl rfl 7 (by decide) (hts _ kX6_takes_5) (fun _ h9 => h9) rfl dX6_takes_159 ?_
                refine lv_iload hx hb dX6_takes_162 (lv_at hl 4 rfl) ?_
                refine lv_ldc2 (v := 65536) hx hb hown (hts _ kX6_takes_1) dX6_takes_164 ?_
                refine lv_aload_n hx hb dX6_takes_167 rfl (lv_at hl 0 rfl) ?_
                refine va_get (D := (dC, dI)) (ci := 6) (v := .ref aG) (C := RX6) (T := TX6) (N := 13) hx hb hts iX6_takes_X6 hown hK hP 0 rfl rfl 6 (by decide) (hts _ kX6_takes_6) (fun _ h9 => h9) rfl dX6_takes_168 ?_
                refine lv_iload hx hb dX6_takes_171 (lv_at hl 4 rfl) ?_
                obtain ⟨g26, hF⟩ := ck_e hF
                refine x_lald hx hb hK hP 5 1 rfl rfl rfl g26 dX6_takes_173 ?_
                refine lv_lmul hx hb dX6_takes_174 ?_
                refine lv_lload hx hb dX6_takes_175 (lv_at hl 2 rfl) ?_
                refine lv_aload_n hx hb dX6_takes_177 rfl (lv_at hl 0 rfl) ?_
                refine va_get (D := (dC, dI)) (ci := 6) (v := .long o8.1) (C := RX6) (T := TX6) (N := 13) hx hb hts iX6_takes_X6 hown hK hP 0 rfl rfl 8 (by decide) (hts _ kX6_takes_4) (fun _ h9 => h9) rfl dX6_takes_178 ?_
                refine lv_ladd hx hb dX6_takes_181 ?_
                obtain ⟨o27, ho27, hF⟩ := ob_e hF
                refine x_callzl (va_runS (As := [.long (65536 * (o8.2 v22.toNatClampNeg)), .long (x13 + o8.1)]) (rest := [.int v22, .ref aK]) ⟨hx, hb, hml, hown, hts⟩ (c_X6_floor l (65536 * (o8.2 v22.toNatClampNeg)) (x13 + o8.1) ho27) (va_cwS 2 hts gX6_takes_X6_floor rfl rfl rfl (by decide +kernel) ⟨Nat.le_of_ble_eq_true rfl, Nat.le_of_ble_eq_true rfl⟩) ⟨true_blind, fun _ _ _ => ⟨rfl, trivial⟩⟩ rfl rfl hl.1 rfl (lv_room (Nat.le_of_ble_eq_true rfl)) dX6_takes_182 ⟨Nat.le_of_ble_eq_true rfl, Nat.le_of_ble_eq_true rfl⟩) ?_
                refine lv_ldc2 (v := (-6553600)) hx hb hown (hts _ kX6_takes_7) dX6_takes_185 ?_
                refine lv_ldc2 (v := 6553600) hx hb hown (hts _ kX6_takes_8) dX6_takes_188 ?_
                obtain ⟨o28, ho28, hF⟩ := ob_e hF
                refine x_callzl (va_runS (As := [.long o27, .long (-6553600), .long 6553600]) (rest := [.int v22, .ref aK]) ⟨hx, hb, hml, hown, hts⟩ (c_X6_within l o27 (-6553600) 6553600 ho28) (va_cwS 3 hts gX6_takes_X6_within rfl rfl rfl (by decide +kernel) ⟨Nat.le_of_ble_eq_true rfl, Nat.le_of_ble_eq_true rfl⟩) ⟨true_blind, fun _ _ _ => ⟨rfl, trivial⟩⟩ rfl rfl hl.1 rfl (lv_room (Nat.le_of_ble_eq_true rfl)) dX6_takes_191 ⟨Nat.le_of_ble_eq_true rfl, Nat.le_of_ble_eq_true rfl⟩) ?_
                obtain ⟨g29, hF⟩ := ck_e hF
                obtain ⟨v30, hv30, hF⟩ := lt_e hF
                refine x_last (ws' := [(h, .inr (6, [.ref aAl, .ref aSv, .ref aAs, .int sN, .int sTh, .ref aF, .ref aG, .ref aK, .long o8.1, .ref aTx, .int sTl, .int sPl, .ref aRd])), (aAl, .inl (cyJ, 76, .inr (.inl v23))), (aSv, .inl (cyJ, 304, .inr (.inl sSv))), (aAs, .inl (cyJ, 76, .inr (.inl sAs))), (aF, .inl (cyJ, 3, .inr (.inl o1))), (aG, .inl (cyJ, 3, .inr (.inl o8.2))), (aK, .inl (cyJ, 3, .inr (.inl v30))), (aTx, .inl (cyI, 120, .inl sTx)), (aRd, .inl (cyI, 63, .inl sRd))]) hx hb hK hP hD hS 6 1 rfl rfl rfl g29 hv30 rfl dX6_takes_194 (fun H locs hP hD hS => ?_)
                refine lv_aload_n hx hb dX6_takes_195 rfl (lv_at hl 0 rfl) ?_
                refine va_get (D := (dC, dI)) (ci := 6) (v := .ref aAl) (C := RX6) (T := TX6) (N := 13) hx hb hts iX6_takes_X6 hown hK hP 0 rfl rfl 0 (by decide) (hts _ kX6_takes_2) (fun _ h9 => h9) rfl dX6_takes_196 ?_
                refine lv_bipush (v := 13) hx hb dX6_takes_199 (by decide) ?_
                refine lv_iload hx hb dX6_takes_201 (lv_at hl 4 rfl) ?_
                refine lv_iadd hx hb dX6_takes_203 ?_
                refine lv_dup2_11 hx hb dX6_takes_204 rfl rfl ?_
                obtain ⟨g31, hF⟩ := ck_e hF
                refine x_lald hx hb hK hP 1 1 rfl rfl rfl g31 dX6_takes_205 ?_
                refine lv_aload_n hx hb dX6_takes_206 rfl (lv_at hl 0 rfl) ?_
                refine va_get (D := (dC, dI)) (ci := 6) (v := .ref aK) (C := RX6) (T := TX6) (N := 13) hx hb hts iX6_takes_X6 hown hK hP 0 rfl rfl 7 (by decide) (hts _ kX6_takes_5) (fun _ h9 => h9) rfl dX6_takes_207 ?_
                refine lv_iload hx hb dX6_takes_210 (lv_at hl 4 rfl) ?_
                obtain ⟨g32, hF⟩ := ck_e hF
                refine x_lald hx hb hK hP 6 1 rfl rfl rfl g32 dX6_takes_212 ?_
                refine lv_lload hx hb dX6_takes_213 (lv_at hl 1 rfl) ?_
                refine lv_lmul hx hb dX6_takes_215 ?_
                refine lv_ldc2 (v := 65536) hx hb hown (hts _ kX6_takes_1) dX6_takes_216 ?_
                obtain ⟨o33, ho33, hF⟩ := ob_e hF
                refine x_callzl (va_runS (As := [.long ((v30 v22.toNatClampNeg) * v3), .long 65536]) (rest := [.long (v23 ((13 + v22).toNatClampNeg)), .int (13 + v22), .ref aAl]) ⟨hx, hb, hml, hown, hts⟩ (c_X6_floor l ((v30 v22.toNatClampNeg) * v3) 65536 ho33) (va_cwS 2 hts gX6_takes_X6_floor rfl rfl rfl (by decide +kernel) ⟨Nat.le_of_ble_eq_true rfl, Nat.le_of_ble_eq_true rfl⟩) ⟨true_blind, fun _ _ _ => ⟨rfl, trivial⟩⟩ rfl rfl hl.1 rfl (lv_room (Nat.le_of_ble_eq_true rfl)) dX6_takes_219 ⟨Nat.le_of_ble_eq_true rfl, Nat.le_of_ble_eq_true rfl⟩) ?_
                refine lv_ladd hx hb dX6_takes_222 ?_
                obtain ⟨g34, hF⟩ := ck_e hF
                obtain ⟨v35, hv35, hF⟩ := lt_e hF
                refine x_last (ws' := [(h, .inr (6, [.ref aAl, .ref aSv, .ref aAs, .int sN, .int sTh, .ref aF, .ref aG, .ref aK, .long o8.1, .ref aTx, .int sTl, .int sPl, .ref aRd])), (aAl, .inl (cyJ, 76, .inr (.inl v35))), (aSv, .inl (cyJ, 304, .inr (.inl sSv))), (aAs, .inl (cyJ, 76, .inr (.inl sAs))), (aF, .inl (cyJ, 3, .inr (.inl o1))), (aG, .inl (cyJ, 3, .inr (.inl o8.2))), (aK, .inl (cyJ, 3, .inr (.inl v30))), (aTx, .inl (cyI, 120, .inl sTx)), (aRd, .inl (cyI, 63, .inl sRd))]) hx hb hK hP hD hS 1 1 rfl rfl rfl g34 hv35 rfl dX6_takes_223 (fun H locs hP hD hS => ?_)
                refine lv_aload_n hx hb dX6_takes_224 rfl (lv_at hl 0 rfl) ?_
                refine lv_iload hx hb dX6_takes_225 (lv_at hl 4 rfl) ?_
                obtain ⟨o36, ho36, hF⟩ := ob_e hF
                refine x_calli (wr := []) (ws' := [(h, .inr (6, [.ref aAl, .ref aSv, .ref aAs, .int sN, .int sTh, .ref aF, .ref aG, .ref aK, .long o8.1, .ref aTx, .int sTl, .int sPl, .ref aRd])), (aAl, .inl (cyJ, 76, .inr (.inl o36.2))), (aSv, .inl (cyJ, 304, .inr (.inl sSv))), (aAs, .inl (cyJ, 76, .inr (.inl sAs))), (aF, .inl (cyJ, 3, .inr (.inl o1))), (aG, .inl (cyJ, 3, .inr (.inl o8.2))), (aK, .inl (cyJ, 3, .inr (.inl v30))), (aTx, .inl (cyI, 120, .inl sTx)), (aRd, .inl (cyI, 63, .inl sRd))]) (va_runV (As := [.int v22]) (rest := []) ⟨hx, hb, hml, hown, hts⟩ (c_X6_boxes l dC dI cyI cyJ cyB cyS cyD h aAl aSv aAs aF aG aK aTx aRd H.size sN sTh o8.1 sTl sPl v35 sSv sAs o1 o8.2 v30 sTx sRd v22 ho36) (cwV 1 hts gX6_takes_X6_boxes rfl rfl rfl (by decide +kernel) ⟨Nat.le_of_ble_eq_true rfl, Nat.le_of_ble_eq_true rfl⟩) ⟨cPre_blind, va_recv hK hP (ci := 6) (q0 := 0) rfl rfl, x_pre hN hP hD hK [0, 1, 2, 3, 4, 5, 6, 7, 8] rfl rfl⟩ rfl rfl hl.1 rfl (lv_room (Nat.le_of_ble_eq_true rfl)) dX6_takes_227 ⟨Nat.le_of_ble_eq_true rfl, Nat.le_of_ble_eq_true rfl⟩) hP hD hS hA [0, 1, 2, 3, 4, 5, 6, 7, 8] [] [0, 1, 2, 3, 4, 5, 6, 7, 8] rfl rfl rfl (by decide) rfl rfl (fun H locs hP hD hS => ?_)
                obtain ⟨K40, hK40, hF⟩ := rg_e hF
                have Jx39 : ∀ (x39 : Int32) (H : Heap) (locs : List Loc) (ls : Array Slot), K40 x39 = some out → va_P (dC, dI) vwCl [(h, .inr (6, [.ref aAl, .ref aSv, .ref aAs, .int sN, .int sTh, .ref aF, .ref aG, .ref aK, .long o8.1, .ref aTx, .int sTl, .int sPl, .ref aRd])), (aAl, .inl (cyJ, 76, .inr (.inl o36.2))), (aSv, .inl (cyJ, 304, .inr (.inl sSv))), (aAs, .inl (cyJ, 76, .inr (.inl sAs))), (aF, .inl (cyJ, 3, .inr (.inl o1))), (aG, .inl (cyJ, 3, .inr (.inl o8.2))), (aK, .inl (cyJ, 3, .inr (.inl v30))), (aTx, .inl (cyI, 120, .inl sTx)), (aRd, .inl (cyI, 63, .inl sRd))] H → va_D A [(h, .inr (6, [.ref aAl, .ref aSv, .ref aAs, .int sN, .int sTh, .ref aF, .ref aG, .ref aK, .long o8.1, .ref aTx, .int sTl, .int sPl, .ref aRd])), (aAl, .inl (cyJ, 76, .inr (.inl o36.2))), (aSv, .inl (cyJ, 304, .inr (.inl sSv))), (aAs, .inl (cyJ, 76, .inr (.inl sAs))), (aF, .inl (cyJ, 3, .inr (.inl o1))), (aG, .inl (cyJ, 3, .inr (.inl o8.2))), (aK, .inl (cyJ, 3, .inr (.inl v30))), (aTx, .inl (cyI, 120, .inl sTx)), (aRd, .inl (cyI, 63, .inl sRd))] → va_S A s.heap H locs → lv_has ls 14 [(0, .ref h), (7, .long v3), (10, .long x13), (13, .int v22)] → W p l e (headSpec wsX6_takes ({ frames := 2, cells := 0, slots := 0, locals := 51 } : Room)).room s m ([.ref h, .long w1, .long w2, .long w3] : List Value).toArray below meth c H locs 0 0 (MQ below (va_Ql (fun (r' : Int64) (_ : Unit) => r' = out.1) (cPost (dC, dI) [(cyI, .int), (cyJ, .long), (cyB, .byte), (cyS, .object "SelfTuner$State"), (cyD, .double)] [(h, .inr (6, [.ref aAl, .ref aSv, .ref aAs, .int sN, .int sTh, .ref aF, .ref aG, .ref aK, .long out.2.1, .ref aTx, .int sTl, .int sPl, .ref aRd])), (aAl, .inl (cyJ, 76, .inr (.inl out.2.2.1))), (aSv, .inl (cyJ, 304, .inr (.inl sSv))), (aAs, .inl (cyJ, 76, .inr (.inl sAs))), (aF, .inl (cyJ, 3, .inr (.inl out.2.2.2.1))), (aG, .inl (cyJ, 3, .inr (.inl out.2.2.2.2.1))), (aK, .inl (cyJ, 3, .inr (.inl out.2.2.2.2.2))), (aTx, .inl (cyI, 120, .inl sTx)), (aRd, .inl (cyI, 63, .inl sRd))] A) A) ([.ref h, .long w1, .long w2, .long w3] : List Value).toArray s 0 0 A) (F0 m 243 ls [.int x39]) := by
                  intro x39 H locs ls hF hP hD hS hl
                  rw [hK40] at hF
                  refine lv_istore (lv' := [(12, .int x39), (0, .ref h), (7, .long v3), (10, .long x13), (13, .int v22)]) hx hb dX6_takes_243 hl (by decide) rfl (fun ls hl => ?_)
                  obtain ⟨v41, hv41, hF⟩ := lt_e hF
                  refine lv_iinc (v := v41) (lv' := [(13, .int v41), (12, .int x39), (0, .ref h), (7, .long v3), (10, .long x13)]) hx hb dX6_takes_245 hl (k := 4) rfl (by rw [hv41]; rfl) (by decide) rfl (fun ls hl => ?_)
                  refine lv_goto (tgt := 152) hx hb dX6_takes_248 (by decide) ?_
                  exact ihn19 _ _ _ _ _ _ _ _ hF hP hD hS (lv_sub hl [2, 3, 4, 1, 0] rfl) kxn19
                refine lv_if_ne (tgt := 238) hx hb dX6_takes_230 (by decide) (fun c37 => ?_) (fun c37 => ?_)
                · have hF := ite_f hF c37
                  refine lv_iconst (v := 1) hx hb dX6_takes_238 (by decide) ?_
                  refine lv_goto (tgt := 243) hx hb dX6_takes_239 (by decide) ?_
                  exact Jx39 _ _ _ _ hF hP hD hS (lv_sub hl [0, 1, 2, 4] rfl)
                · have hF := ite_t hF c37
                  refine lv_iload hx hb dX6_takes_233 (lv_at hl 3 rfl) ?_
                  refine lv_if_eq (tgt := 242) hx hb dX6_takes_235 (by decide) (fun c38 => ?_) (fun c38 => ?_)
                  · have hF := ite_t hF c38
                    refine lv_iconst (v := 0) hx hb dX6_takes_242 (by decide) ?_
                    exact Jx39 _ _ _ _ hF hP hD hS (lv_sub hl [0, 1, 2, 4] rfl)
                  · have hF := ite_f hF c38
                    refine lv_iconst (v := 1) hx hb dX6_takes_238 (by decide) ?_
                    refine lv_goto (tgt := 243) hx hb dX6_takes_239 (by decide) ?_
                    exact Jx39 _ _ _ _ hF hP hD hS (lv_sub hl [0, 1, 2, 4] rfl)
          refine Ln19 _ _ _ _ _ _ _ _ _ hF hP hD hS (lv_sub hl [2, 3, 4, 1, 0] rfl) (fun x42 H locs ls hF hP hD hS hl => ?_)
          refine lv_aload_n hx hb dX6_takes_251 rfl (lv_at hl 0 rfl) ?_
          refine va_get (D := (dC, dI)) (ci := 6) (v := .ref aAl) (C := RX6) (T := TX6) (N := 13) hx hb hts iX6_takes_X6 hown hK hP 0 rfl rfl 0 (by decide) (hts _ kX6_takes_2) (fun _ h9 => h9) rfl dX6_takes_252 ?_
          refine lv_bipush (v := 28) hx hb dX6_takes_255 (by decide) ?_
          refine lv_dup2_11 hx hb dX6_takes_257 rfl rfl ?_
          refine x_lald hx hb hK hP 1 1 rfl rfl (show (28 : Int32).toNatClampNeg = 28 by decide) (inbK (k := 28) (by decide) rfl) dX6_takes_258 ?_
          refine lv_iload hx hb dX6_takes_259 (lv_at hl 3 rfl) ?_
          obtain ⟨K45, hK45, hF⟩ := rg_e hF
          have Jx44 : ∀ (x44 : Int64) (H : Heap) (locs : List Loc) (ls : Array Slot), K45 x44 = some out → va_P (dC, dI) vwCl [(h, .inr (6, [.ref aAl, .ref aSv, .ref aAs, .int sN, .int sTh, .ref aF, .ref aG, .ref aK, .long o8.1, .ref aTx, .int sTl, .int sPl, .ref aRd])), (aAl, .inl (cyJ, 76, .inr (.inl x42.2.1))), (aSv, .inl (cyJ, 304, .inr (.inl sSv))), (aAs, .inl (cyJ, 76, .inr (.inl sAs))), (aF, .inl (cyJ, 3, .inr (.inl o1))), (aG, .inl (cyJ, 3, .inr (.inl o8.2))), (aK, .inl (cyJ, 3, .inr (.inl x42.2.2))), (aTx, .inl (cyI, 120, .inl sTx)), (aRd, .inl (cyI, 63, .inl sRd))] H → va_D A [(h, .inr (6, [.ref aAl, .ref aSv, .ref aAs, .int sN, .int sTh, .ref aF, .ref aG, .ref aK, .long o8.1, .ref aTx, .int sTl, .int sPl, .ref aRd])), (aAl, .inl (cyJ, 76, .inr (.inl x42.2.1))), (aSv, .inl (cyJ, 304, .inr (.inl sSv))), (aAs, .inl (cyJ, 76, .inr (.inl sAs))), (aF, .inl (cyJ, 3, .inr (.inl o1))), (aG, .inl (cyJ, 3, .inr (.inl o8.2))), (aK, .inl (cyJ, 3, .inr (.inl x42.2.2))), (aTx, .inl (cyI, 120, .inl sTx)), (aRd, .inl (cyI, 63, .inl sRd))] → va_S A s.heap H locs → lv_has ls 14 [(0, .ref h), (7, .long v3), (10, .long x13)] → W p l e (headSpec wsX6_takes ({ frames := 2, cells := 0, slots := 0, locals := 51 } : Room)).room s m ([.ref h, .long w1, .long w2, .long w3] : List Value).toArray below meth c H locs 0 0 (MQ below (va_Ql (fun (r' : Int64) (_ : Unit) => r' = out.1) (cPost (dC, dI) [(cyI, .int), (cyJ, .long), (cyB, .byte), (cyS, .object "SelfTuner$State"), (cyD, .double)] [(h, .inr (6, [.ref aAl, .ref aSv, .ref aAs, .int sN, .int sTh, .ref aF, .ref aG, .ref aK, .long out.2.1, .ref aTx, .int sTl, .int sPl, .ref aRd])), (aAl, .inl (cyJ, 76, .inr (.inl out.2.2.1))), (aSv, .inl (cyJ, 304, .inr (.inl sSv))), (aAs, .inl (cyJ, 76, .inr (.inl sAs))), (aF, .inl (cyJ, 3, .inr (.inl out.2.2.2.1))), (aG, .inl (cyJ, 3, .inr (.inl out.2.2.2.2.1))), (aK, .inl (cyJ, 3, .inr (.inl out.2.2.2.2.2))), (aTx, .inl (cyI, 120, .inl sTx)), (aRd, .inl (cyI, 63, .inl sRd))] A) A) ([.ref h, .long w1, .long w2, .long w3] : List Value).toArray s 0 0 A) (F0 m 269 ls [.long x44, .long (x42.2.1 28), .int 28, .ref aAl]) := by
            intro x44 H locs ls hF hP hD hS hl
            rw [hK45] at hF
            refine lv_ladd hx hb dX6_takes_269 ?_
            obtain ⟨v46, hv46, hF⟩ := lt_e hF
            refine x_last (ws' := [(h, .inr (6, [.ref aAl, .ref aSv, .ref aAs, .int sN, .int sTh, .ref aF, .ref aG, .ref aK, .long o8.1, .ref aTx, .int sTl, .int sPl, .ref aRd])), (aAl, .inl (cyJ, 76, .inr (.inl v46))), (aSv, .inl (cyJ, 304, .inr (.inl sSv))), (aAs, .inl (cyJ, 76, .inr (.inl sAs))), (aF, .inl (cyJ, 3, .inr (.inl o1))), (aG, .inl (cyJ, 3, .inr (.inl o8.2))), (aK, .inl (cyJ, 3, .inr (.inl x42.2.2))), (aTx, .inl (cyI, 120, .inl sTx)), (aRd, .inl (cyI, 63, .inl sRd))]) hx hb hK hP hD hS 1 1 rfl rfl (show (28 : Int32).toNatClampNeg = 28 by decide) (inbK (k := 28) (by decide) rfl) hv46 rfl dX6_takes_270 (fun H locs hP hD hS => ?_)
            refine lv_aload_n hx hb dX6_takes_271 rfl (lv_at hl 0 rfl) ?_
            refine lv_lload hx hb dX6_takes_272 (lv_at hl 2 rfl) ?_
            obtain ⟨o47, ho47, hF⟩ := ob_e hF
            refine x_callv (wr := []) (ws' := [(h, .inr (6, [.ref aAl, .ref aSv, .ref aAs, .int sN, .int sTh, .ref aF, .ref aG, .ref aK, .long o8.1, .ref aTx, .int sTl, .int sPl, .ref aRd])), (aAl, .inl (cyJ, 76, .inr (.inl o47))), (aSv, .inl (cyJ, 304, .inr (.inl sSv))), (aAs, .inl (cyJ, 76, .inr (.inl sAs))), (aF, .inl (cyJ, 3, .inr (.inl o1))), (aG, .inl (cyJ, 3, .inr (.inl o8.2))), (aK, .inl (cyJ, 3, .inr (.inl x42.2.2))), (aTx, .inl (cyI, 120, .inl sTx)), (aRd, .inl (cyI, 63, .inl sRd))]) (va_runV (As := [.long x13]) (rest := []) ⟨hx, hb, hml, hown, hts⟩ (c_X6_updatesP l dC dI cyI cyJ cyB cyS cyD h aAl aSv aAs aF aG aK aTx aRd H.size sN sTh o8.1 sTl sPl v46 sSv sAs o1 o8.2 x42.2.2 sTx sRd x13 ho47) (cwV 1 hts gX6_takes_X6_updatesP rfl rfl rfl (by decide +kernel) ⟨Nat.le_of_ble_eq_true rfl, Nat.le_of_ble_eq_true rfl⟩) ⟨cPre_blind, va_recv hK hP (ci := 6) (q0 := 0) rfl rfl, x_pre hN hP hD hK [0, 1, 2, 3, 4, 5, 6, 7, 8] rfl rfl⟩ rfl rfl hl.1 rfl (lv_room (Nat.le_of_ble_eq_true rfl)) dX6_takes_274 ⟨Nat.le_of_ble_eq_true rfl, Nat.le_of_ble_eq_true rfl⟩) hP hD hS hA [0, 1, 2, 3, 4, 5, 6, 7, 8] [] [0, 1, 2, 3, 4, 5, 6, 7, 8] rfl rfl rfl (by decide) rfl rfl (fun H locs hP hD hS => ?_)
            refine lv_lload hx hb dX6_takes_277 (lv_at hl 1 rfl) ?_
            obtain rfl := some_e hF
            exact W.lret (v := v3) hx hb hr (fun t ht hW => ⟨⟨v3, (), rfl, rfl, ⟨by rw [ht]; exact hP, va_K.moved hW.alike hK, hD⟩⟩, hS.F ht⟩) hS.2.2 dX6_takes_279
          refine lv_if_eq (tgt := 268) hx hb dX6_takes_261 (by decide) (fun c43 => ?_) (fun c43 => ?_)
          · have hF := ite_t hF c43
            refine lv_lconst (v := 0) hx hb dX6_takes_268 (by decide) ?_
            exact Jx44 _ _ _ _ hF hP hD hS (lv_sub hl [0, 1, 2] rfl)
          · have hF := ite_f hF c43
            refine lv_lconst (v := 1) hx hb dX6_takes_264 (by decide) ?_
            refine lv_goto (tgt := 269) hx hb dX6_takes_265 (by decide) ?_
            exact Jx44 _ _ _ _ hF hP hD hS (lv_sub hl [0, 1, 2] rfl)
        refine lv_if_eq (tgt := 143) hx hb dX6_takes_136 (by decide) (fun c15 => ?_) (fun c15 => ?_)
        · have hF := ite_t hF c15
          refine lv_lconst (v := 0) hx hb dX6_takes_143 (by decide) ?_
          exact Jx16 _ _ _ _ hF hP hD hS (lv_sub hl [1, 2, 0] rfl)
        · have hF := ite_f hF c15
          refine lv_lconst (v := 1) hx hb dX6_takes_139 (by decide) ?_
          refine lv_goto (tgt := 144) hx hb dX6_takes_140 (by decide) ?_
          exact Jx16 _ _ _ _ hF hP hD hS (lv_sub hl [1, 2, 0] rfl)
      refine lv_if_eq (tgt := 118) hx hb dX6_takes_109 (by decide) (fun c12 => ?_) (fun c12 => ?_)
      · have hF := ite_t hF c12
        refine lv_aload_n hx hb dX6_takes_118 rfl (lv_at hl 1 rfl) ?_
        refine va_get (D := (dC, dI)) (ci := 6) (v := .ref aAl) (C := RX6) (T := TX6) (N := 13) hx hb hts iX6_takes_X6 hown hK hP 0 rfl rfl 0 (by decide) (hts _ kX6_takes_2) (fun _ h9 => h9) rfl dX6_takes_119 ?_
        refine lv_iconst (v := 0) hx hb dX6_takes_122 (by decide) ?_
        refine x_lald hx hb hK hP 1 1 rfl rfl (show (0 : Int32).toNatClampNeg = 0 by decide) (inbK (k := 0) (by decide) rfl) dX6_takes_123 ?_
        exact Jx13 _ _ _ _ hF hP hD hS (lv_sub hl [1, 2, 0] rfl)
      · have hF := ite_f hF c12
        refine lv_ldc2 (v := 65536) hx hb hown (hts _ kX6_takes_1) dX6_takes_112 ?_
        refine lv_goto (tgt := 124) hx hb dX6_takes_115 (by decide) ?_
        exact Jx13 _ _ _ _ hF hP hD hS (lv_sub hl [1, 2, 0] rfl)
    refine x_il_ge (tgt := 104) hx hb dX6_takes_97 (by decide) (fun c9 => ?_) (fun c9 => ?_)
    · have hF := ite_f hF c9
      refine lv_iconst (v := 0) hx hb dX6_takes_104 (by decide) ?_
      exact Jx10 _ _ _ _ hF hP hD hS (lv_sub hl [1, 0] rfl)
    · have hF := ite_t hF c9
      refine lv_iconst (v := 1) hx hb dX6_takes_100 (by decide) ?_
      refine lv_goto (tgt := 105) hx hb dX6_takes_101 (by decide) ?_
      exact Jx10 _ _ _ _ hF hP hD hS (lv_sub hl [1, 0] rfl)
  · have hF := ite_f hF c7
    refine lv_aload_n hx hb dX6_takes_64 rfl (lv_at hl 1 rfl) ?_
    refine va_get (D := (dC, dI)) (ci := 6) (v := .ref aAl) (C := RX6) (T := TX6) (N := 13) hx hb hts iX6_takes_X6 hown hK hP 0 rfl rfl 0 (by decide) (hts _ kX6_takes_2) (fun _ h9 => h9) rfl dX6_takes_65 ?_
    refine lv_bipush (v := 26) hx hb dX6_takes_68 (by decide) ?_
    refine lv_dup2_11 hx hb dX6_takes_70 rfl rfl ?_
    refine x_lald hx hb hK hP 1 1 rfl rfl (show (26 : Int32).toNatClampNeg = 26 by decide) (inbK (k := 26) (by decide) rfl) dX6_takes_71 ?_
    refine lv_lconst (v := 1) hx hb dX6_takes_72 (by decide) ?_
    refine lv_ladd hx hb dX6_takes_73 ?_
    obtain ⟨v48, hv48, hF⟩ := lt_e hF
    refine x_last (ws' := [(h, .inr (6, [.ref aAl, .ref aSv, .ref aAs, .int sN, .int sTh, .ref aF, .ref aG, .ref aK, .long sS, .ref aTx, .int sTl, .int sPl, .ref aRd])), (aAl, .inl (cyJ, 76, .inr (.inl v48))), (aSv, .inl (cyJ, 304, .inr (.inl sSv))), (aAs, .inl (cyJ, 76, .inr (.inl sAs))), (aF, .inl (cyJ, 3, .inr (.inl o1))), (aG, .inl (cyJ, 3, .inr (.inl sG))), (aK, .inl (cyJ, 3, .inr (.inl sK))), (aTx, .inl (cyI, 120, .inl sTx)), (aRd, .inl (cyI, 63, .inl sRd))]) hx hb hK hP hD hS 1 1 rfl rfl (show (26 : Int32).toNatClampNeg = 26 by decide) (inbK (k := 26) (by decide) rfl) hv48 rfl dX6_takes_74 (fun H locs hP hD hS => ?_)
    refine lv_lload hx hb dX6_takes_75 (lv_at hl 0 rfl) ?_
    obtain rfl := some_e hF
    exact W.lret (v := v3) hx hb hr (fun t ht hW => ⟨⟨v3, (), rfl, rfl, ⟨by rw [ht]; exact hP, va_K.moved hW.alike hK, hD⟩⟩, hS.F ht⟩) hS.2.2 dX6_takes_77
def F_X6_sample (sN : Int32) (sS : Int64) (sAl : Nat → Int64) (sSv : Nat → Int64) (sF : Nat → Int64) (sG : Nat → Int64) (sK : Nat → Int64) (w1 : Int32) (w2 : Int32) (w3 : Int32) : Option (Int64 × Int32 × Int32 × Int64 × (Nat → Int64) × (Nat → Int64) × (Nat → Int64) × (Nat → Int64) × (Nat → Int64)) := ob (F_X6_isSignal w1.toInt64) (fun o1 => rg (α := Int32) (fun K8 => if (o1 : Int32) = 0 then (K8 0) else (ob (F_X6_isSignal w2.toInt64) (fun o3 => if (o3 : Int32) = 0 then (K8 0) else (ob (F_X6_in w3.toInt64 (-4000) 4000) (fun o5 => if (o5 : Int32) = 0 then (K8 0) else (K8 1)))))) (fun x7 => ob (F_X6_goes x7 1) (fun o9 => if (o9.1 : Int32) = 0 then (some (0, sN, o9.2, sS, sAl, sSv, sF, sG, sK)) else (ob (F_X6_save sN sAl sSv) (fun o11 => ob (F_X6_takes sS sAl sF sG sK w1.toInt64 w2.toInt64 w3.toInt64) (fun o12 => ob (F_X6_floor o12.1 65536) (fun o13 => some (o13, o11.1, o9.2, o12.2.1, o12.2.2.1, o11.2, o12.2.2.2.1, o12.2.2.2.2.1, o12.2.2.2.2.2))))))))
theorem kX6_sample_1 : (Cond.constantLong RX6 155 (-4000)) ∈ wsX6_sample := List.mem_of_getElem? (i := 1) rfl
theorem kX6_sample_2 : (Cond.constantLong RX6 157 (4000)) ∈ wsX6_sample := List.mem_of_getElem? (i := 2) rfl
theorem kX6_sample_3 : (Cond.constantLong RX6 71 (65536)) ∈ wsX6_sample := List.mem_of_getElem? (i := 3) rfl
set_option maxHeartbeats 4000000 in
set_option maxRecDepth 100000 in
theorem c_X6_sample (l : Launch) (dC : Nat → ClassId) (dI : Nat → Nat → Nat) (cyI cyJ cyB cyS cyD : ClassId) (h : Nat) (aAl : Nat) (aSv : Nat) (aAs : Nat) (aF : Nat) (aG : Nat) (aK : Nat) (aTx : Nat) (aRd : Nat) (sz : Nat) (sN : Int32) (sTh : Int32) (sS : Int64) (sTl : Int32) (sPl : Int32) (sAl : Nat → Int64) (sSv : Nat → Int64) (sAs : Nat → Int64) (sF : Nat → Int64) (sG : Nat → Int64) (sK : Nat → Int64) (sTx : Nat → Int32) (sRd : Nat → Int32) (w1 : Int32) (w2 : Int32) (w3 : Int32) {out : Int64 × Int32 × Int32 × Int64 × (Nat → Int64) × (Nat → Int64) × (Nat → Int64) × (Nat → Int64) × (Nat → Int64)} (hF : F_X6_sample sN sS sAl sSv sF sG sK w1 w2 w3 = some out) : Ml l yX6_sample wsX6_sample ({ frames := 3, cells := 0, slots := 0, locals := 84 } : Room) (dC, dI) [(cyI, .int), (cyJ, .long), (cyB, .byte), (cyS, .object "SelfTuner$State"), (cyD, .double)] sz [.ref h, .int w1, .int w2, .int w3] [(h, .inr (6, [.ref aAl, .ref aSv, .ref aAs, .int sN, .int sTh, .ref aF, .ref aG, .ref aK, .long sS, .ref aTx, .int sTl, .int sPl, .ref aRd])), (aAl, .inl (cyJ, 76, .inr (.inl sAl))), (aSv, .inl (cyJ, 304, .inr (.inl sSv))), (aAs, .inl (cyJ, 76, .inr (.inl sAs))), (aF, .inl (cyJ, 3, .inr (.inl sF))), (aG, .inl (cyJ, 3, .inr (.inl sG))), (aK, .inl (cyJ, 3, .inr (.inl sK))), (aTx, .inl (cyI, 120, .inl sTx)), (aRd, .inl (cyI, 63, .inl sRd))] out.1 [(h, .inr (6, [.ref aAl, .ref aSv, .ref aAs, .int out.2.1, .int out.2.2.1, .ref aF, .ref aG, .ref aK, .long out.2.2.2.1, .ref aTx, .int sTl, .int sPl, .ref aRd])), (aAl, .inl (cyJ, 76, .inr (.inl out.2.2.2.2.1))), (aSv, .inl (cyJ, 304, .inr (.inl out.2.2.2.2.2.1))), (aAs, .inl (cyJ, 76, .inr (.inl sAs))), (aF, .inl (cyJ, 3, .inr (.inl out.2.2.2.2.2.2.1))), (aG, .inl (cyJ, 3, .inr (.inl out.2.2.2.2.2.2.2.1))), (aK, .inl (cyJ, 3, .inr (.inl out.2.2.2.2.2.2.2.2))), (aTx, .inl (cyI, 120, .inl sTx)), (aRd, .inl (cyI, 63, .inl sRd))] := by
  refine Met.ofW (cc := cX6_sample) (maxL := 4) (ret := (some .long)) (by decide) rfl ?_
  intro p e s m args below meth c s₁ B hml hv
  obtain ⟨rfl, hN, hsz, hP, hK, hD0⟩ := hv
  have hx := B.exec
  have hb := B.bytes
  have hr := B.returns
  have hts := atoms_spec (ws := wsX6_sample) B.pre
  have hown : s.vm.findClass RX6 = some m.cls := findClass_of_methodNamed B.named
  have hlocks := B.notSynchronized
  subst hsz
  have hD := hD0.self (sz := s.heap.size)
  generalize hAe : va_A [(h, .inr (6, [.ref aAl, .ref aSv, .ref aAs, .int sN, .int sTh, .ref aF, .ref aG, .ref aK, .long sS, .ref aTx, .int sTl, .int sPl, .ref aRd])), (aAl, .inl (cyJ, 76, .inr (.inl sAl))), (aSv, .inl (cyJ, 304, .inr (.inl sSv))), (aAs, .inl (cyJ, 76, .inr (.inl sAs))), (aF, .inl (cyJ, 3, .inr (.inl sF))), (aG, .inl (cyJ, 3, .inr (.inl sG))), (aK, .inl (cyJ, 3, .inr (.inl sK))), (aTx, .inl (cyI, 120, .inl sTx)), (aRd, .inl (cyI, 63, .inl sRd))] s.heap.size = A at hD ⊢
  have hA : ∀ q : Nat, s.heap.size ≤ q → A q := fun q h => by rw [← hAe]; exact Or.inr h
  have hS : va_S A s.heap s.heap [] := va_S.rf
  have hP : va_P (dC, dI) vwCl [(h, .inr (6, [.ref aAl, .ref aSv, .ref aAs, .int sN, .int sTh, .ref aF, .ref aG, .ref aK, .long sS, .ref aTx, .int sTl, .int sPl, .ref aRd])), (aAl, .inl (cyJ, 76, .inr (.inl sAl))), (aSv, .inl (cyJ, 304, .inr (.inl sSv))), (aAs, .inl (cyJ, 76, .inr (.inl sAs))), (aF, .inl (cyJ, 3, .inr (.inl sF))), (aG, .inl (cyJ, 3, .inr (.inl sG))), (aK, .inl (cyJ, 3, .inr (.inl sK))), (aTx, .inl (cyI, 120, .inl sTx)), (aRd, .inl (cyI, 63, .inl sRd))] s.heap := hP
  have hl := lv_entry ([.ref h, .int w1, .int w2, .int w3]) (n := 4) (Nat.le_of_ble_eq_true rfl)
  rw [lg_entry_eq]
  generalize (lg_sl ([.ref h, .int w1, .int w2, .int w3]) ++ List.replicate (4 - (lg_sl ([.ref h, .int w1, .int w2, .int w3])).length) Slot.unset).toArray = ls at hl ⊢
  have hl : lv_has ls 4 [(0, .ref h), (1, .int w1), (2, .int w2), (3, .int w3)] := hl
  unfold F_X6_sample at hF
  refine lv_aload_n hx hb dX6_sample_0 rfl (lv_at hl 0 rfl) ?_
  refine lv_iload_n hx hb dX6_sample_1 rfl (lv_at hl 1 rfl) ?_
  refine lv_i2l (v := w1.toInt64) hx hb dX6_sample_2 rfl ?_
  obtain ⟨o1, ho1, hF⟩ := ob_e hF
  refine x_callzi (va_runS (As := [.long w1.toInt64]) (rest := [.ref h]) ⟨hx, hb, hml, hown, hts⟩ (c_X6_isSignal l w1.toInt64 ho1) (va_cwS 1 hts gX6_sample_X6_isSignal rfl rfl rfl (by decide +kernel) ⟨Nat.le_of_ble_eq_true rfl, Nat.le_of_ble_eq_true rfl⟩) ⟨true_blind, fun _ _ _ => ⟨rfl, trivial⟩⟩ rfl rfl hl.1 rfl (lv_room (Nat.le_of_ble_eq_true rfl)) dX6_sample_3 ⟨Nat.le_of_ble_eq_true rfl, Nat.le_of_ble_eq_true rfl⟩) ?_
  obtain ⟨K8, hK8, hF⟩ := rg_e hF
  have Jx7 : ∀ (x7 : Int32) (H : Heap) (locs : List Loc) (ls : Array Slot), K8 x7 = some out → va_P (dC, dI) vwCl [(h, .inr (6, [.ref aAl, .ref aSv, .ref aAs, .int sN, .int sTh, .ref aF, .ref aG, .ref aK, .long sS, .ref aTx, .int sTl, .int sPl, .ref aRd])), (aAl, .inl (cyJ, 76, .inr (.inl sAl))), (aSv, .inl (cyJ, 304, .inr (.inl sSv))), (aAs, .inl (cyJ, 76, .inr (.inl sAs))), (aF, .inl (cyJ, 3, .inr (.inl sF))), (aG, .inl (cyJ, 3, .inr (.inl sG))), (aK, .inl (cyJ, 3, .inr (.inl sK))), (aTx, .inl (cyI, 120, .inl sTx)), (aRd, .inl (cyI, 63, .inl sRd))] H → va_D A [(h, .inr (6, [.ref aAl, .ref aSv, .ref aAs, .int sN, .int sTh, .ref aF, .ref aG, .ref aK, .long sS, .ref aTx, .int sTl, .int sPl, .ref aRd])), (aAl, .inl (cyJ, 76, .inr (.inl sAl))), (aSv, .inl (cyJ, 304, .inr (.inl sSv))), (aAs, .inl (cyJ, 76, .inr (.inl sAs))), (aF, .inl (cyJ, 3, .inr (.inl sF))), (aG, .inl (cyJ, 3, .inr (.inl sG))), (aK, .inl (cyJ, 3, .inr (.inl sK))), (aTx, .inl (cyI, 120, .inl sTx)), (aRd, .inl (cyI, 63, .inl sRd))] → va_S A s.heap H locs → lv_has ls 4 [(0, .ref h), (1, .int w1), (2, .int w2), (3, .int w3)] → W p l e (headSpec wsX6_sample ({ frames := 3, cells := 0, slots := 0, locals := 84 } : Room)).room s m ([.ref h, .int w1, .int w2, .int w3] : List Value).toArray below meth c H locs 0 0 (MQ below (va_Ql (fun (r' : Int64) (_ : Unit) => r' = out.1) (cPost (dC, dI) [(cyI, .int), (cyJ, .long), (cyB, .byte), (cyS, .object "SelfTuner$State"), (cyD, .double)] [(h, .inr (6, [.ref aAl, .ref aSv, .ref aAs, .int out.2.1, .int out.2.2.1, .ref aF, .ref aG, .ref aK, .long out.2.2.2.1, .ref aTx, .int sTl, .int sPl, .ref aRd])), (aAl, .inl (cyJ, 76, .inr (.inl out.2.2.2.2.1))), (aSv, .inl (cyJ, 304, .inr (.inl out.2.2.2.2.2.1))), (aAs, .inl (cyJ, 76, .inr (.inl sAs))), (aF, .inl (cyJ, 3, .inr (.inl out.2.2.2.2.2.2.1))), (aG, .inl (cyJ, 3, .inr (.inl out.2.2.2.2.2.2.2.1))), (aK, .inl (cyJ, 3, .inr (.inl out.2.2.2.2.2.2.2.2))), (aTx, .inl (cyI, 120, .inl sTx)), (aRd, .inl (cyI, 63, .inl sRd))] A) A) ([.ref h, .int w1, .int w2, .int w3] : List Value).toArray s 0 0 A) (F0 m 36 ls [.int x7, .ref h]) := by
    intro x7 H locs ls hF hP hD hS hl
    rw [hK8] at hF
    refine lv_iconst (v := 1) hx hb dX6_sample_36 (by decide) ?_
    obtain ⟨o9, ho9, hF⟩ := ob_e hF
    refine x_calli (wr := []) (ws' := [(h, .inr (6, [.ref aAl, .ref aSv, .ref aAs, .int sN, .int o9.2, .ref aF, .ref aG, .ref aK, .long sS, .ref aTx, .int sTl, .int sPl, .ref aRd])), (aAl, .inl (cyJ, 76, .inr (.inl sAl))), (aSv, .inl (cyJ, 304, .inr (.inl sSv))), (aAs, .inl (cyJ, 76, .inr (.inl sAs))), (aF, .inl (cyJ, 3, .inr (.inl sF))), (aG, .inl (cyJ, 3, .inr (.inl sG))), (aK, .inl (cyJ, 3, .inr (.inl sK))), (aTx, .inl (cyI, 120, .inl sTx)), (aRd, .inl (cyI, 63, .inl sRd))]) (va_runV (As := [.int x7, .int 1]) (rest := []) ⟨hx, hb, hml, hown, hts⟩ (c_X6_goes l dC dI cyI cyJ cyB cyS cyD h aAl aSv aAs aF aG aK aTx aRd H.size sN sTh sS sTl sPl sAl sSv sAs sF sG sK sTx sRd x7 1 ho9) (cwV 2 hts gX6_sample_X6_goes rfl rfl rfl (by decide +kernel) ⟨Nat.le_of_ble_eq_true rfl, Nat.le_of_ble_eq_true rfl⟩) ⟨cPre_blind, va_recv hK hP (ci := 6) (q0 := 0) rfl rfl, x_pre hN hP hD hK [0, 1, 2, 3, 4, 5, 6, 7, 8] rfl rfl⟩ rfl rfl hl.1 rfl (lv_room (Nat.le_of_ble_eq_true rfl)) dX6_sample_37 ⟨Nat.le_of_ble_eq_true rfl, Nat.le_of_ble_eq_true rfl⟩) hP hD hS hA [0, 1, 2, 3, 4, 5, 6, 7, 8] [] [0, 1, 2, 3, 4, 5, 6, 7, 8] rfl rfl rfl (by decide) rfl rfl (fun H locs hP hD hS => ?_)
    refine lv_if_ne (tgt := 45) hx hb dX6_sample_40 (by decide) (fun c10 => ?_) (fun c10 => ?_)
    · have hF := ite_f hF c10
      refine lv_aload_n hx hb dX6_sample_45 rfl (lv_at hl 0 rfl) ?_
      obtain ⟨o11, ho11, hF⟩ := ob_e hF
      refine x_callv (wr := []) (ws' := [(h, .inr (6, [.ref aAl, .ref aSv, .ref aAs, .int o11.1, .int o9.2, .ref aF, .ref aG, .ref aK, .long sS, .ref aTx, .int sTl, .int sPl, .ref aRd])), (aAl, .inl (cyJ, 76, .inr (.inl sAl))), (aSv, .inl (cyJ, 304, .inr (.inl o11.2))), (aAs, .inl (cyJ, 76, .inr (.inl sAs))), (aF, .inl (cyJ, 3, .inr (.inl sF))), (aG, .inl (cyJ, 3, .inr (.inl sG))), (aK, .inl (cyJ, 3, .inr (.inl sK))), (aTx, .inl (cyI, 120, .inl sTx)), (aRd, .inl (cyI, 63, .inl sRd))]) (va_runV (As := []) (rest := []) ⟨hx, hb, hml, hown, hts⟩ (c_X6_save l dC dI cyI cyJ cyB cyS cyD h aAl aSv aAs aF aG aK aTx aRd H.size sN o9.2 sS sTl sPl sAl sSv sAs sF sG sK sTx sRd ho11) (cwV 0 hts gX6_sample_X6_save rfl rfl rfl (by decide +kernel) ⟨Nat.le_of_ble_eq_true rfl, Nat.le_of_ble_eq_true rfl⟩) ⟨cPre_blind, va_recv hK hP (ci := 6) (q0 := 0) rfl rfl, x_pre hN hP hD hK [0, 1, 2, 3, 4, 5, 6, 7, 8] rfl rfl⟩ rfl rfl hl.1 rfl (lv_room (Nat.le_of_ble_eq_true rfl)) dX6_sample_46 ⟨Nat.le_of_ble_eq_true rfl, Nat.le_of_ble_eq_true rfl⟩) hP hD hS hA [0, 1, 2, 3, 4, 5, 6, 7, 8] [] [0, 1, 2, 3, 4, 5, 6, 7, 8] rfl rfl rfl (by decide) rfl rfl (fun H locs hP hD hS => ?_)
      refine lv_aload_n hx hb dX6_sample_49 rfl (lv_at hl 0 rfl) ?_
      refine lv_iload_n hx hb dX6_sample_50 rfl (lv_at hl 1 rfl) ?_
      refine lv_i2l (v := w1.toInt64) hx hb dX6_sample_51 rfl ?_
      refine lv_iload_n hx hb dX6_sample_52 rfl (lv_at hl 2 rfl) ?_
      refine lv_i2l (v := w2.toInt64) hx hb dX6_sample_53 rfl ?_
      refine lv_iload_n hx hb dX6_sample_54 rfl (lv_at hl 3 rfl) ?_
      refine lv_i2l (v := w3.toInt64) hx hb dX6_sample_55 rfl ?_
      obtain ⟨o12, ho12, hF⟩ := ob_e hF
      refine x_calll (wr := []) (ws' := [(h, .inr (6, [.ref aAl, .ref aSv, .ref aAs, .int o11.1, .int o9.2, .ref aF, .ref aG, .ref aK, .long o12.2.1, .ref aTx, .int sTl, .int sPl, .ref aRd])), (aAl, .inl (cyJ, 76, .inr (.inl o12.2.2.1))), (aSv, .inl (cyJ, 304, .inr (.inl o11.2))), (aAs, .inl (cyJ, 76, .inr (.inl sAs))), (aF, .inl (cyJ, 3, .inr (.inl o12.2.2.2.1))), (aG, .inl (cyJ, 3, .inr (.inl o12.2.2.2.2.1))), (aK, .inl (cyJ, 3, .inr (.inl o12.2.2.2.2.2))), (aTx, .inl (cyI, 120, .inl sTx)), (aRd, .inl (cyI, 63, .inl sRd))]) (va_runV (As := [.long w1.toInt64, .long w2.toInt64, .long w3.toInt64]) (rest := []) ⟨hx, hb, hml, hown, hts⟩ (c_X6_takes l dC dI cyI cyJ cyB cyS cyD h aAl aSv aAs aF aG aK aTx aRd H.size o11.1 o9.2 sS sTl sPl sAl o11.2 sAs sF sG sK sTx sRd w1.toInt64 w2.toInt64 w3.toInt64 ho12) (cwV 3 hts gX6_sample_X6_takes rfl rfl rfl (by decide +kernel) ⟨Nat.le_of_ble_eq_true rfl, Nat.le_of_ble_eq_true rfl⟩) ⟨cPre_blind, va_recv hK hP (ci := 6) (q0 := 0) rfl rfl, x_pre hN hP hD hK [0, 1, 2, 3, 4, 5, 6, 7, 8] rfl rfl⟩ rfl rfl hl.1 rfl (lv_room (Nat.le_of_ble_eq_true rfl)) dX6_sample_56 ⟨Nat.le_of_ble_eq_true rfl, Nat.le_of_ble_eq_true rfl⟩) hP hD hS hA [0, 1, 2, 3, 4, 5, 6, 7, 8] [] [0, 1, 2, 3, 4, 5, 6, 7, 8] rfl rfl rfl (by decide) rfl rfl (fun H locs hP hD hS => ?_)
      refine lv_ldc2 (v := 65536) hx hb hown (hts _ kX6_sample_3) dX6_sample_59 ?_
      obtain ⟨o13, ho13, hF⟩ := ob_e hF
      refine x_callzl (va_runS (As := [.long o12.1, .long 65536]) (rest := []) ⟨hx, hb, hml, hown, hts⟩ (c_X6_floor l o12.1 65536 ho13) (va_cwS 2 hts gX6_sample_X6_floor rfl rfl rfl (by decide +kernel) ⟨Nat.le_of_ble_eq_true rfl, Nat.le_of_ble_eq_true rfl⟩) ⟨true_blind, fun _ _ _ => ⟨rfl, trivial⟩⟩ rfl rfl hl.1 rfl (lv_room (Nat.le_of_ble_eq_true rfl)) dX6_sample_62 ⟨Nat.le_of_ble_eq_true rfl, Nat.le_of_ble_eq_true rfl⟩) ?_
      obtain rfl := some_e hF
      exact W.lret (v := o13) hx hb hr (fun t ht hW => ⟨⟨o13, (), rfl, rfl, ⟨by rw [ht]; exact hP, va_K.moved hW.alike hK, hD⟩⟩, hS.F ht⟩) hS.2.2 dX6_sample_65
    · have hF := ite_t hF c10
      refine lv_lconst (v := 0) hx hb dX6_sample_43 (by decide) ?_
      obtain rfl := some_e hF
      exact W.lret (v := 0) hx hb hr (fun t ht hW => ⟨⟨0, (), rfl, rfl, ⟨by rw [ht]; exact hP, va_K.moved hW.alike hK, hD⟩⟩, hS.F ht⟩) hS.2.2 dX6_sample_44
  refine lv_if_eq (tgt := 35) hx hb dX6_sample_6 (by decide) (fun c2 => ?_) (fun c2 => ?_)
  · have hF := ite_t hF c2
    refine lv_iconst (v := 0) hx hb dX6_sample_35 (by decide) ?_
    exact Jx7 _ _ _ _ hF hP hD hS (lv_sub hl [0, 1, 2, 3] rfl)
  · have hF := ite_f hF c2
    refine lv_iload_n hx hb dX6_sample_9 rfl (lv_at hl 2 rfl) ?_
    refine lv_i2l (v := w2.toInt64) hx hb dX6_sample_10 rfl ?_
    obtain ⟨o3, ho3, hF⟩ := ob_e hF
    refine x_callzi (va_runS (As := [.long w2.toInt64]) (rest := [.ref h]) ⟨hx, hb, hml, hown, hts⟩ (c_X6_isSignal l w2.toInt64 ho3) (va_cwS 1 hts gX6_sample_X6_isSignal rfl rfl rfl (by decide +kernel) ⟨Nat.le_of_ble_eq_true rfl, Nat.le_of_ble_eq_true rfl⟩) ⟨true_blind, fun _ _ _ => ⟨rfl, trivial⟩⟩ rfl rfl hl.1 rfl (lv_room (Nat.le_of_ble_eq_true rfl)) dX6_sample_11 ⟨Nat.le_of_ble_eq_true rfl, Nat.le_of_ble_eq_true rfl⟩) ?_
    refine lv_if_eq (tgt := 35) hx hb dX6_sample_14 (by decide) (fun c4 => ?_) (fun c4 => ?_)
    · have hF := ite_t hF c4
      refine lv_iconst (v := 0) hx hb dX6_sample_35 (by decide) ?_
      exact Jx7 _ _ _ _ hF hP hD hS (lv_sub hl [0, 1, 2, 3] rfl)
    · have hF := ite_f hF c4
      refine lv_iload_n hx hb dX6_sample_17 rfl (lv_at hl 3 rfl) ?_
      refine lv_i2l (v := w3.toInt64) hx hb dX6_sample_18 rfl ?_
      refine lv_ldc2 (v := (-4000)) hx hb hown (hts _ kX6_sample_1) dX6_sample_19 ?_
      refine lv_ldc2 (v := 4000) hx hb hown (hts _ kX6_sample_2) dX6_sample_22 ?_
      obtain ⟨o5, ho5, hF⟩ := ob_e hF
      refine x_callzi (va_runS (As := [.long w3.toInt64, .long (-4000), .long 4000]) (rest := [.ref h]) ⟨hx, hb, hml, hown, hts⟩ (c_X6_in l w3.toInt64 (-4000) 4000 ho5) (va_cwS 3 hts gX6_sample_X6_in rfl rfl rfl (by decide +kernel) ⟨Nat.le_of_ble_eq_true rfl, Nat.le_of_ble_eq_true rfl⟩) ⟨true_blind, fun _ _ _ => ⟨rfl, trivial⟩⟩ rfl rfl hl.1 rfl (lv_room (Nat.le_of_ble_eq_true rfl)) dX6_sample_25 ⟨Nat.le_of_ble_eq_true rfl, Nat.le_of_ble_eq_true rfl⟩) ?_
      refine lv_if_eq (tgt := 35) hx hb dX6_sample_28 (by decide) (fun c6 => ?_) (fun c6 => ?_)
      · have hF := ite_t hF c6
        refine lv_iconst (v := 0) hx hb dX6_sample_35 (by decide) ?_
        exact Jx7 _ _ _ _ hF hP hD hS (lv_sub hl [0, 1, 2, 3] rfl)
      · have hF := ite_f hF c6
        refine lv_iconst (v := 1) hx hb dX6_sample_31 (by decide) ?_
        refine lv_goto (tgt := 36) hx hb dX6_sample_32 (by decide) ?_
        exact Jx7 _ _ _ _ hF hP hD hS (lv_sub hl [0, 1, 2, 3] rfl)
def F_X6_restart (sN : Int32) (sAl : Nat → Int64) (sSv : Nat → Int64) : Option (Int32 × Int32 × Int32 × (Nat → Int64) × (Nat → Int64)) := ob (F_X6_save sN sAl sSv) (fun o1 => lt_ (α := Int32) ((sAl 25).toInt32) (fun v2 => ob (F_X6_begins sAl) (fun o3 => some (v2, o1.1, 0, o3, o1.2))))
theorem kX6_restart_1 : (Cond.fieldLink RX6 54 "SelfTunerModel" "thrown" "I") ∈ wsX6_restart := List.mem_of_getElem? (i := 1) rfl
theorem kX6_restart_2 : (Cond.fieldLink RX6 7 "SelfTunerModel" "all" "[J") ∈ wsX6_restart := List.mem_of_getElem? (i := 2) rfl
theorem iX6_restart_X6 : ∀ w ∈ wsX60, w ∈ wsX6_restart := fun w h => List.mem_cons_of_mem _ (List.mem_append_right _ h)
set_option maxHeartbeats 4000000 in
set_option maxRecDepth 100000 in
theorem c_X6_restart (l : Launch) (dC : Nat → ClassId) (dI : Nat → Nat → Nat) (cyI cyJ cyB cyS cyD : ClassId) (h : Nat) (aAl : Nat) (aSv : Nat) (aAs : Nat) (aF : Nat) (aG : Nat) (aK : Nat) (aTx : Nat) (aRd : Nat) (sz : Nat) (sN : Int32) (sTh : Int32) (sS : Int64) (sTl : Int32) (sPl : Int32) (sAl : Nat → Int64) (sSv : Nat → Int64) (sAs : Nat → Int64) (sF : Nat → Int64) (sG : Nat → Int64) (sK : Nat → Int64) (sTx : Nat → Int32) (sRd : Nat → Int32) {out : Int32 × Int32 × Int32 × (Nat → Int64) × (Nat → Int64)} (hF : F_X6_restart sN sAl sSv = some out) : Mi l yX6_restart wsX6_restart ({ frames := 3, cells := 0, slots := 0, locals := 70 } : Room) (dC, dI) [(cyI, .int), (cyJ, .long), (cyB, .byte), (cyS, .object "SelfTuner$State"), (cyD, .double)] sz [.ref h] [(h, .inr (6, [.ref aAl, .ref aSv, .ref aAs, .int sN, .int sTh, .ref aF, .ref aG, .ref aK, .long sS, .ref aTx, .int sTl, .int sPl, .ref aRd])), (aAl, .inl (cyJ, 76, .inr (.inl sAl))), (aSv, .inl (cyJ, 304, .inr (.inl sSv))), (aAs, .inl (cyJ, 76, .inr (.inl sAs))), (aF, .inl (cyJ, 3, .inr (.inl sF))), (aG, .inl (cyJ, 3, .inr (.inl sG))), (aK, .inl (cyJ, 3, .inr (.inl sK))), (aTx, .inl (cyI, 120, .inl sTx)), (aRd, .inl (cyI, 63, .inl sRd))] out.1 [(h, .inr (6, [.ref aAl, .ref aSv, .ref aAs, .int out.2.1, .int out.2.2.1, .ref aF, .ref aG, .ref aK, .long sS, .ref aTx, .int sTl, .int sPl, .ref aRd])), (aAl, .inl (cyJ, 76, .inr (.inl out.2.2.2.1))), (aSv, .inl (cyJ, 304, .inr (.inl out.2.2.2.2))), (aAs, .inl (cyJ, 76, .inr (.inl sAs))), (aF, .inl (cyJ, 3, .inr (.inl sF))), (aG, .inl (cyJ, 3, .inr (.inl sG))), (aK, .inl (cyJ, 3, .inr (.inl sK))), (aTx, .inl (cyI, 120, .inl sTx)), (aRd, .inl (cyI, 63, .inl sRd))] := by
  refine Met.ofW (cc := cX6_restart) (maxL := 2) (ret := (some .int)) (by decide) rfl ?_
  intro p e s m args below meth c s₁ B hml hv
  obtain ⟨rfl, hN, hsz, hP, hK, hD0⟩ := hv
  have hx := B.exec
  have hb := B.bytes
  have hr := B.returns
  have hts := atoms_spec (ws := wsX6_restart) B.pre
  have hown : s.vm.findClass RX6 = some m.cls := findClass_of_methodNamed B.named
  have hlocks := B.notSynchronized
  subst hsz
  have hD := hD0.self (sz := s.heap.size)
  generalize hAe : va_A [(h, .inr (6, [.ref aAl, .ref aSv, .ref aAs, .int sN, .int sTh, .ref aF, .ref aG, .ref aK, .long sS, .ref aTx, .int sTl, .int sPl, .ref aRd])), (aAl, .inl (cyJ, 76, .inr (.inl sAl))), (aSv, .inl (cyJ, 304, .inr (.inl sSv))), (aAs, .inl (cyJ, 76, .inr (.inl sAs))), (aF, .inl (cyJ, 3, .inr (.inl sF))), (aG, .inl (cyJ, 3, .inr (.inl sG))), (aK, .inl (cyJ, 3, .inr (.inl sK))), (aTx, .inl (cyI, 120, .inl sTx)), (aRd, .inl (cyI, 63, .inl sRd))] s.heap.size = A at hD ⊢
  have hA : ∀ q : Nat, s.heap.size ≤ q → A q := fun q h => by rw [← hAe]; exact Or.inr h
  have hS : va_S A s.heap s.heap [] := va_S.rf
  have hP : va_P (dC, dI) vwCl [(h, .inr (6, [.ref aAl, .ref aSv, .ref aAs, .int sN, .int sTh, .ref aF, .ref aG, .ref aK, .long sS, .ref aTx, .int sTl, .int sPl, .ref aRd])), (aAl, .inl (cyJ, 76, .inr (.inl sAl))), (aSv, .inl (cyJ, 304, .inr (.inl sSv))), (aAs, .inl (cyJ, 76, .inr (.inl sAs))), (aF, .inl (cyJ, 3, .inr (.inl sF))), (aG, .inl (cyJ, 3, .inr (.inl sG))), (aK, .inl (cyJ, 3, .inr (.inl sK))), (aTx, .inl (cyI, 120, .inl sTx)), (aRd, .inl (cyI, 63, .inl sRd))] s.heap := hP
  have hl := lv_entry ([.ref h]) (n := 2) (Nat.le_of_ble_eq_true rfl)
  rw [lg_entry_eq]
  generalize (lg_sl ([.ref h]) ++ List.replicate (2 - (lg_sl ([.ref h])).length) Slot.unset).toArray = ls at hl ⊢
  have hl : lv_has ls 2 [(0, .ref h)] := hl
  unfold F_X6_restart at hF
  refine lv_aload_n hx hb dX6_restart_0 rfl (lv_at hl 0 rfl) ?_
  refine lv_iconst (v := 0) hx hb dX6_restart_1 (by decide) ?_
  refine x_put (D := (dC, dI)) (ci := 6) (v := .int 0) (ty := .int) (C := RX6) (T := TX6) (N := 13) (ws' := [(h, .inr (6, [.ref aAl, .ref aSv, .ref aAs, .int sN, .int 0, .ref aF, .ref aG, .ref aK, .long sS, .ref aTx, .int sTl, .int sPl, .ref aRd])), (aAl, .inl (cyJ, 76, .inr (.inl sAl))), (aSv, .inl (cyJ, 304, .inr (.inl sSv))), (aAs, .inl (cyJ, 76, .inr (.inl sAs))), (aF, .inl (cyJ, 3, .inr (.inl sF))), (aG, .inl (cyJ, 3, .inr (.inl sG))), (aK, .inl (cyJ, 3, .inr (.inl sK))), (aTx, .inl (cyI, 120, .inl sTx)), (aRd, .inl (cyI, 63, .inl sRd))]) hx hb hts iX6_restart_X6 tyX6 tyX6_ok nmX6 hown hK hP hD hS 0 rfl rfl 4 (by decide) (hts _ kX6_restart_1) (fun _ h9 => h9) rfl (by decide +kernel) rfl rfl (Nat.le_of_ble_eq_true rfl) rfl dX6_restart_2 (fun H locs hP hD hS => ?_)
  refine lv_aload_n hx hb dX6_restart_5 rfl (lv_at hl 0 rfl) ?_
  obtain ⟨o1, ho1, hF⟩ := ob_e hF
  refine x_callv (wr := []) (ws' := [(h, .inr (6, [.ref aAl, .ref aSv, .ref aAs, .int o1.1, .int 0, .ref aF, .ref aG, .ref aK, .long sS, .ref aTx, .int sTl, .int sPl, .ref aRd])), (aAl, .inl (cyJ, 76, .inr (.inl sAl))), (aSv, .inl (cyJ, 304, .inr (.inl o1.2))), (aAs, .inl (cyJ, 76, .inr (.inl sAs))), (aF, .inl (cyJ, 3, .inr (.inl sF))), (aG, .inl (cyJ, 3, .inr (.inl sG))), (aK, .inl (cyJ, 3, .inr (.inl sK))), (aTx, .inl (cyI, 120, .inl sTx)), (aRd, .inl (cyI, 63, .inl sRd))]) (va_runV (As := []) (rest := []) ⟨hx, hb, hml, hown, hts⟩ (c_X6_save l dC dI cyI cyJ cyB cyS cyD h aAl aSv aAs aF aG aK aTx aRd H.size sN 0 sS sTl sPl sAl sSv sAs sF sG sK sTx sRd ho1) (cwV 0 hts gX6_restart_X6_save rfl rfl rfl (by decide +kernel) ⟨Nat.le_of_ble_eq_true rfl, Nat.le_of_ble_eq_true rfl⟩) ⟨cPre_blind, va_recv hK hP (ci := 6) (q0 := 0) rfl rfl, x_pre hN hP hD hK [0, 1, 2, 3, 4, 5, 6, 7, 8] rfl rfl⟩ rfl rfl hl.1 rfl (lv_room (Nat.le_of_ble_eq_true rfl)) dX6_restart_6 ⟨Nat.le_of_ble_eq_true rfl, Nat.le_of_ble_eq_true rfl⟩) hP hD hS hA [0, 1, 2, 3, 4, 5, 6, 7, 8] [] [0, 1, 2, 3, 4, 5, 6, 7, 8] rfl rfl rfl (by decide) rfl rfl (fun H locs hP hD hS => ?_)
  refine lv_aload_n hx hb dX6_restart_9 rfl (lv_at hl 0 rfl) ?_
  refine va_get (D := (dC, dI)) (ci := 6) (v := .ref aAl) (C := RX6) (T := TX6) (N := 13) hx hb hts iX6_restart_X6 hown hK hP 0 rfl rfl 0 (by decide) (hts _ kX6_restart_2) (fun _ h9 => h9) rfl dX6_restart_10 ?_
  refine lv_bipush (v := 25) hx hb dX6_restart_13 (by decide) ?_
  refine x_lald hx hb hK hP 1 1 rfl rfl (show (25 : Int32).toNatClampNeg = 25 by decide) (inbK (k := 25) (by decide) rfl) dX6_restart_15 ?_
  refine lv_l2i (v := (sAl 25).toInt32) hx hb dX6_restart_16 rfl ?_
  obtain ⟨v2, hv2, hF⟩ := lt_e hF
  refine x_topi hv2 ?_
  refine lv_istore_n (lv' := [(1, .int v2), (0, .ref h)]) hx hb dX6_restart_17 rfl hl (by decide) rfl (fun ls hl => ?_)
  refine lv_aload_n hx hb dX6_restart_18 rfl (lv_at hl 1 rfl) ?_
  obtain ⟨o3, ho3, hF⟩ := ob_e hF
  refine x_callv (wr := []) (ws' := [(h, .inr (6, [.ref aAl, .ref aSv, .ref aAs, .int o1.1, .int 0, .ref aF, .ref aG, .ref aK, .long sS, .ref aTx, .int sTl, .int sPl, .ref aRd])), (aAl, .inl (cyJ, 76, .inr (.inl o3))), (aSv, .inl (cyJ, 304, .inr (.inl o1.2))), (aAs, .inl (cyJ, 76, .inr (.inl sAs))), (aF, .inl (cyJ, 3, .inr (.inl sF))), (aG, .inl (cyJ, 3, .inr (.inl sG))), (aK, .inl (cyJ, 3, .inr (.inl sK))), (aTx, .inl (cyI, 120, .inl sTx)), (aRd, .inl (cyI, 63, .inl sRd))]) (va_runV (As := []) (rest := []) ⟨hx, hb, hml, hown, hts⟩ (c_X6_begins l dC dI cyI cyJ cyB cyS cyD h aAl aSv aAs aF aG aK aTx aRd H.size o1.1 0 sS sTl sPl sAl o1.2 sAs sF sG sK sTx sRd ho3) (cwV 0 hts gX6_restart_X6_begins rfl rfl rfl (by decide +kernel) ⟨Nat.le_of_ble_eq_true rfl, Nat.le_of_ble_eq_true rfl⟩) ⟨cPre_blind, va_recv hK hP (ci := 6) (q0 := 0) rfl rfl, x_pre hN hP hD hK [0, 1, 2, 3, 4, 5, 6, 7, 8] rfl rfl⟩ rfl rfl hl.1 rfl (lv_room (Nat.le_of_ble_eq_true rfl)) dX6_restart_19 ⟨Nat.le_of_ble_eq_true rfl, Nat.le_of_ble_eq_true rfl⟩) hP hD hS hA [0, 1, 2, 3, 4, 5, 6, 7, 8] [] [0, 1, 2, 3, 4, 5, 6, 7, 8] rfl rfl rfl (by decide) rfl rfl (fun H locs hP hD hS => ?_)
  refine lv_iload_n hx hb dX6_restart_22 rfl (lv_at hl 0 rfl) ?_
  obtain rfl := some_e hF
  exact W.iret (v := v2) hx hb hr (fun t ht hW => ⟨⟨v2, (), rfl, rfl, ⟨by rw [ht]; exact hP, va_K.moved hW.alike hK, hD⟩⟩, hS.F ht⟩) hS.2.2 dX6_restart_23
def F_X6_parameter (sAl : Nat → Int64) (w1 : Int32) : Option (Int32 × Int32) := ob (F_X6_in w1.toInt64 0 2) (fun o1 => ob (F_X6_goes o1 1) (fun o2 => if (o2.1 : Int32) = 0 then (some (0, o2.2)) else (ck (inb (13 + w1) 76) (some ((sAl ((13 + w1).toNatClampNeg)).toInt32, o2.2)))))
theorem kX6_parameter_1 : (Cond.constantLong RX6 37 (2)) ∈ wsX6_parameter := List.mem_of_getElem? (i := 1) rfl
theorem kX6_parameter_2 : (Cond.fieldLink RX6 7 "SelfTunerModel" "all" "[J") ∈ wsX6_parameter := List.mem_of_getElem? (i := 2) rfl
theorem iX6_parameter_X6 : ∀ w ∈ wsX60, w ∈ wsX6_parameter := fun w h => List.mem_cons_of_mem _ (List.mem_append_right _ h)
set_option maxHeartbeats 4000000 in
set_option maxRecDepth 100000 in
theorem c_X6_parameter (l : Launch) (dC : Nat → ClassId) (dI : Nat → Nat → Nat) (cyI cyJ cyB cyS cyD : ClassId) (h : Nat) (aAl : Nat) (aSv : Nat) (aAs : Nat) (aF : Nat) (aG : Nat) (aK : Nat) (aTx : Nat) (aRd : Nat) (sz : Nat) (sN : Int32) (sTh : Int32) (sS : Int64) (sTl : Int32) (sPl : Int32) (sAl : Nat → Int64) (sSv : Nat → Int64) (sAs : Nat → Int64) (sF : Nat → Int64) (sG : Nat → Int64) (sK : Nat → Int64) (sTx : Nat → Int32) (sRd : Nat → Int32) (w1 : Int32) {out : Int32 × Int32} (hF : F_X6_parameter sAl w1 = some out) : Mi l yX6_parameter wsX6_parameter ({ frames := 1, cells := 0, slots := 0, locals := 25 } : Room) (dC, dI) [(cyI, .int), (cyJ, .long), (cyB, .byte), (cyS, .object "SelfTuner$State"), (cyD, .double)] sz [.ref h, .int w1] [(h, .inr (6, [.ref aAl, .ref aSv, .ref aAs, .int sN, .int sTh, .ref aF, .ref aG, .ref aK, .long sS, .ref aTx, .int sTl, .int sPl, .ref aRd])), (aAl, .inl (cyJ, 76, .inr (.inl sAl))), (aSv, .inl (cyJ, 304, .inr (.inl sSv))), (aAs, .inl (cyJ, 76, .inr (.inl sAs))), (aF, .inl (cyJ, 3, .inr (.inl sF))), (aG, .inl (cyJ, 3, .inr (.inl sG))), (aK, .inl (cyJ, 3, .inr (.inl sK))), (aTx, .inl (cyI, 120, .inl sTx)), (aRd, .inl (cyI, 63, .inl sRd))] out.1 [(h, .inr (6, [.ref aAl, .ref aSv, .ref aAs, .int sN, .int out.2, .ref aF, .ref aG, .ref aK, .long sS, .ref aTx, .int sTl, .int sPl, .ref aRd])), (aAl, .inl (cyJ, 76, .inr (.inl sAl))), (aSv, .inl (cyJ, 304, .inr (.inl sSv))), (aAs, .inl (cyJ, 76, .inr (.inl sAs))), (aF, .inl (cyJ, 3, .inr (.inl sF))), (aG, .inl (cyJ, 3, .inr (.inl sG))), (aK, .inl (cyJ, 3, .inr (.inl sK))), (aTx, .inl (cyI, 120, .inl sTx)), (aRd, .inl (cyI, 63, .inl sRd))] := by
  refine Met.ofW (cc := cX6_parameter) (maxL := 2) (ret := (some .int)) (by decide) rfl ?_
  intro p e s m args below meth c s₁ B hml hv
  obtain ⟨rfl, hN, hsz, hP, hK, hD0⟩ := hv
  have hx := B.exec
  have hb := B.bytes
  have hr := B.returns
  have hts := atoms_spec (ws := wsX6_parameter) B.pre
  have hown : s.vm.findClass RX6 = some m.cls := findClass_of_methodNamed B.named
  have hlocks := B.notSynchronized
  subst hsz
  have hD := hD0.self (sz := s.heap.size)
  generalize hAe : va_A [(h, .inr (6, [.ref aAl, .ref aSv, .ref aAs, .int sN, .int sTh, .ref aF, .ref aG, .ref aK, .long sS, .ref aTx, .int sTl, .int sPl, .ref aRd])), (aAl, .inl (cyJ, 76, .inr (.inl sAl))), (aSv, .inl (cyJ, 304, .inr (.inl sSv))), (aAs, .inl (cyJ, 76, .inr (.inl sAs))), (aF, .inl (cyJ, 3, .inr (.inl sF))), (aG, .inl (cyJ, 3, .inr (.inl sG))), (aK, .inl (cyJ, 3, .inr (.inl sK))), (aTx, .inl (cyI, 120, .inl sTx)), (aRd, .inl (cyI, 63, .inl sRd))] s.heap.size = A at hD ⊢
  have hA : ∀ q : Nat, s.heap.size ≤ q → A q := fun q h => by rw [← hAe]; exact Or.inr h
  have hS : va_S A s.heap s.heap [] := va_S.rf
  have hP : va_P (dC, dI) vwCl [(h, .inr (6, [.ref aAl, .ref aSv, .ref aAs, .int sN, .int sTh, .ref aF, .ref aG, .ref aK, .long sS, .ref aTx, .int sTl, .int sPl, .ref aRd])), (aAl, .inl (cyJ, 76, .inr (.inl sAl))), (aSv, .inl (cyJ, 304, .inr (.inl sSv))), (aAs, .inl (cyJ, 76, .inr (.inl sAs))), (aF, .inl (cyJ, 3, .inr (.inl sF))), (aG, .inl (cyJ, 3, .inr (.inl sG))), (aK, .inl (cyJ, 3, .inr (.inl sK))), (aTx, .inl (cyI, 120, .inl sTx)), (aRd, .inl (cyI, 63, .inl sRd))] s.heap := hP
  have hl := lv_entry ([.ref h, .int w1]) (n := 2) (Nat.le_of_ble_eq_true rfl)
  rw [lg_entry_eq]
  generalize (lg_sl ([.ref h, .int w1]) ++ List.replicate (2 - (lg_sl ([.ref h, .int w1])).length) Slot.unset).toArray = ls at hl ⊢
  have hl : lv_has ls 2 [(0, .ref h), (1, .int w1)] := hl
  unfold F_X6_parameter at hF
  refine lv_aload_n hx hb dX6_parameter_0 rfl (lv_at hl 0 rfl) ?_
  refine lv_iload_n hx hb dX6_parameter_1 rfl (lv_at hl 1 rfl) ?_
  refine lv_i2l (v := w1.toInt64) hx hb dX6_parameter_2 rfl ?_
  refine lv_lconst (v := 0) hx hb dX6_parameter_3 (by decide) ?_
  refine lv_ldc2 (v := 2) hx hb hown (hts _ kX6_parameter_1) dX6_parameter_4 ?_
  obtain ⟨o1, ho1, hF⟩ := ob_e hF
  refine x_callzi (va_runS (As := [.long w1.toInt64, .long 0, .long 2]) (rest := [.ref h]) ⟨hx, hb, hml, hown, hts⟩ (c_X6_in l w1.toInt64 0 2 ho1) (va_cwS 3 hts gX6_parameter_X6_in rfl rfl rfl (by decide +kernel) ⟨Nat.le_of_ble_eq_true rfl, Nat.le_of_ble_eq_true rfl⟩) ⟨true_blind, fun _ _ _ => ⟨rfl, trivial⟩⟩ rfl rfl hl.1 rfl (lv_room (Nat.le_of_ble_eq_true rfl)) dX6_parameter_7 ⟨Nat.le_of_ble_eq_true rfl, Nat.le_of_ble_eq_true rfl⟩) ?_
  refine lv_iconst (v := 1) hx hb dX6_parameter_10 (by decide) ?_
  obtain ⟨o2, ho2, hF⟩ := ob_e hF
  refine x_calli (wr := []) (ws' := [(h, .inr (6, [.ref aAl, .ref aSv, .ref aAs, .int sN, .int o2.2, .ref aF, .ref aG, .ref aK, .long sS, .ref aTx, .int sTl, .int sPl, .ref aRd])), (aAl, .inl (cyJ, 76, .inr (.inl sAl))), (aSv, .inl (cyJ, 304, .inr (.inl sSv))), (aAs, .inl (cyJ, 76, .inr (.inl sAs))), (aF, .inl (cyJ, 3, .inr (.inl sF))), (aG, .inl (cyJ, 3, .inr (.inl sG))), (aK, .inl (cyJ, 3, .inr (.inl sK))), (aTx, .inl (cyI, 120, .inl sTx)), (aRd, .inl (cyI, 63, .inl sRd))]) (va_runV (As := [.int o1, .int 1]) (rest := []) ⟨hx, hb, hml, hown, hts⟩ (c_X6_goes l dC dI cyI cyJ cyB cyS cyD h aAl aSv aAs aF aG aK aTx aRd s.heap.size sN sTh sS sTl sPl sAl sSv sAs sF sG sK sTx sRd o1 1 ho2) (cwV 2 hts gX6_parameter_X6_goes rfl rfl rfl (by decide +kernel) ⟨Nat.le_of_ble_eq_true rfl, Nat.le_of_ble_eq_true rfl⟩) ⟨cPre_blind, va_recv hK hP (ci := 6) (q0 := 0) rfl rfl, x_pre hN hP hD hK [0, 1, 2, 3, 4, 5, 6, 7, 8] rfl rfl⟩ rfl rfl hl.1 rfl (lv_room (Nat.le_of_ble_eq_true rfl)) dX6_parameter_11 ⟨Nat.le_of_ble_eq_true rfl, Nat.le_of_ble_eq_true rfl⟩) hP hD hS hA [0, 1, 2, 3, 4, 5, 6, 7, 8] [] [0, 1, 2, 3, 4, 5, 6, 7, 8] rfl rfl rfl (by decide) rfl rfl (fun H locs hP hD hS => ?_)
  refine lv_if_eq (tgt := 30) hx hb dX6_parameter_14 (by decide) (fun c3 => ?_) (fun c3 => ?_)
  · have hF := ite_t hF c3
    refine lv_iconst (v := 0) hx hb dX6_parameter_30 (by decide) ?_
    obtain rfl := some_e hF
    exact W.iret (v := 0) hx hb hr (fun t ht hW => ⟨⟨0, (), rfl, rfl, ⟨by rw [ht]; exact hP, va_K.moved hW.alike hK, hD⟩⟩, hS.F ht⟩) hS.2.2 dX6_parameter_31
  · have hF := ite_f hF c3
    refine lv_aload_n hx hb dX6_parameter_17 rfl (lv_at hl 0 rfl) ?_
    refine va_get (D := (dC, dI)) (ci := 6) (v := .ref aAl) (C := RX6) (T := TX6) (N := 13) hx hb hts iX6_parameter_X6 hown hK hP 0 rfl rfl 0 (by decide) (hts _ kX6_parameter_2) (fun _ h9 => h9) rfl dX6_parameter_18 ?_
    refine lv_bipush (v := 13) hx hb dX6_parameter_21 (by decide) ?_
    refine lv_iload_n hx hb dX6_parameter_23 rfl (lv_at hl 1 rfl) ?_
    refine lv_iadd hx hb dX6_parameter_24 ?_
    obtain ⟨g4, hF⟩ := ck_e hF
    refine x_lald hx hb hK hP 1 1 rfl rfl rfl g4 dX6_parameter_25 ?_
    refine lv_l2i (v := (sAl ((13 + w1).toNatClampNeg)).toInt32) hx hb dX6_parameter_26 rfl ?_
    refine lv_goto (tgt := 31) hx hb dX6_parameter_27 (by decide) ?_
    obtain rfl := some_e hF
    exact W.iret (v := (sAl ((13 + w1).toNatClampNeg)).toInt32) hx hb hr (fun t ht hW => ⟨⟨(sAl ((13 + w1).toNatClampNeg)).toInt32, (), rfl, rfl, ⟨by rw [ht]; exact hP, va_K.moved hW.alike hK, hD⟩⟩, hS.F ht⟩) hS.2.2 dX6_parameter_31
def F_X6_covariance (sAl : Nat → Int64) (w1 : Int32) (w2 : Int32) : Option (Int64 × Int32) := ob (F_X6_in w1.toInt64 0 2) (fun o1 => rg (α := Int32) (fun K6 => if (o1 : Int32) = 0 then (K6 0) else (ob (F_X6_in w2.toInt64 0 2) (fun o3 => if (o3 : Int32) = 0 then (K6 0) else (K6 1)))) (fun x5 => ob (F_X6_goes x5 1) (fun o7 => if (o7.1 : Int32) = 0 then (some (0, o7.2)) else (ck (inb ((16 + (3 * w1)) + w2) 76) (some (sAl (((16 + (3 * w1)) + w2).toNatClampNeg), o7.2))))))
theorem kX6_covariance_1 : (Cond.constantLong RX6 37 (2)) ∈ wsX6_covariance := List.mem_of_getElem? (i := 1) rfl
theorem kX6_covariance_2 : (Cond.fieldLink RX6 7 "SelfTunerModel" "all" "[J") ∈ wsX6_covariance := List.mem_of_getElem? (i := 2) rfl
theorem iX6_covariance_X6 : ∀ w ∈ wsX60, w ∈ wsX6_covariance := fun w h => List.mem_cons_of_mem _ (List.mem_append_right _ h)
set_option maxHeartbeats 4000000 in
set_option maxRecDepth 100000 in
theorem c_X6_covariance (l : Launch) (dC : Nat → ClassId) (dI : Nat → Nat → Nat) (cyI cyJ cyB cyS cyD : ClassId) (h : Nat) (aAl : Nat) (aSv : Nat) (aAs : Nat) (aF : Nat) (aG : Nat) (aK : Nat) (aTx : Nat) (aRd : Nat) (sz : Nat) (sN : Int32) (sTh : Int32) (sS : Int64) (sTl : Int32) (sPl : Int32) (sAl : Nat → Int64) (sSv : Nat → Int64) (sAs : Nat → Int64) (sF : Nat → Int64) (sG : Nat → Int64) (sK : Nat → Int64) (sTx : Nat → Int32) (sRd : Nat → Int32) (w1 : Int32) (w2 : Int32) {out : Int64 × Int32} (hF : F_X6_covariance sAl w1 w2 = some out) : Ml l yX6_covariance wsX6_covariance ({ frames := 1, cells := 0, slots := 0, locals := 25 } : Room) (dC, dI) [(cyI, .int), (cyJ, .long), (cyB, .byte), (cyS, .object "SelfTuner$State"), (cyD, .double)] sz [.ref h, .int w1, .int w2] [(h, .inr (6, [.ref aAl, .ref aSv, .ref aAs, .int sN, .int sTh, .ref aF, .ref aG, .ref aK, .long sS, .ref aTx, .int sTl, .int sPl, .ref aRd])), (aAl, .inl (cyJ, 76, .inr (.inl sAl))), (aSv, .inl (cyJ, 304, .inr (.inl sSv))), (aAs, .inl (cyJ, 76, .inr (.inl sAs))), (aF, .inl (cyJ, 3, .inr (.inl sF))), (aG, .inl (cyJ, 3, .inr (.inl sG))), (aK, .inl (cyJ, 3, .inr (.inl sK))), (aTx, .inl (cyI, 120, .inl sTx)), (aRd, .inl (cyI, 63, .inl sRd))] out.1 [(h, .inr (6, [.ref aAl, .ref aSv, .ref aAs, .int sN, .int out.2, .ref aF, .ref aG, .ref aK, .long sS, .ref aTx, .int sTl, .int sPl, .ref aRd])), (aAl, .inl (cyJ, 76, .inr (.inl sAl))), (aSv, .inl (cyJ, 304, .inr (.inl sSv))), (aAs, .inl (cyJ, 76, .inr (.inl sAs))), (aF, .inl (cyJ, 3, .inr (.inl sF))), (aG, .inl (cyJ, 3, .inr (.inl sG))), (aK, .inl (cyJ, 3, .inr (.inl sK))), (aTx, .inl (cyI, 120, .inl sTx)), (aRd, .inl (cyI, 63, .inl sRd))] := by
  refine Met.ofW (cc := cX6_covariance) (maxL := 3) (ret := (some .long)) (by decide) rfl ?_
  intro p e s m args below meth c s₁ B hml hv
  obtain ⟨rfl, hN, hsz, hP, hK, hD0⟩ := hv
  have hx := B.exec
  have hb := B.bytes
  have hr := B.returns
  have hts := atoms_spec (ws := wsX6_covariance) B.pre
  have hown : s.vm.findClass RX6 = some m.cls := findClass_of_methodNamed B.named
  have hlocks := B.notSynchronized
  subst hsz
  have hD := hD0.self (sz := s.heap.size)
  generalize hAe : va_A [(h, .inr (6, [.ref aAl, .ref aSv, .ref aAs, .int sN, .int sTh, .ref aF, .ref aG, .ref aK, .long sS, .ref aTx, .int sTl, .int sPl, .ref aRd])), (aAl, .inl (cyJ, 76, .inr (.inl sAl))), (aSv, .inl (cyJ, 304, .inr (.inl sSv))), (aAs, .inl (cyJ, 76, .inr (.inl sAs))), (aF, .inl (cyJ, 3, .inr (.inl sF))), (aG, .inl (cyJ, 3, .inr (.inl sG))), (aK, .inl (cyJ, 3, .inr (.inl sK))), (aTx, .inl (cyI, 120, .inl sTx)), (aRd, .inl (cyI, 63, .inl sRd))] s.heap.size = A at hD ⊢
  have hA : ∀ q : Nat, s.heap.size ≤ q → A q := fun q h => by rw [← hAe]; exact Or.inr h
  have hS : va_S A s.heap s.heap [] := va_S.rf
  have hP : va_P (dC, dI) vwCl [(h, .inr (6, [.ref aAl, .ref aSv, .ref aAs, .int sN, .int sTh, .ref aF, .ref aG, .ref aK, .long sS, .ref aTx, .int sTl, .int sPl, .ref aRd])), (aAl, .inl (cyJ, 76, .inr (.inl sAl))), (aSv, .inl (cyJ, 304, .inr (.inl sSv))), (aAs, .inl (cyJ, 76, .inr (.inl sAs))), (aF, .inl (cyJ, 3, .inr (.inl sF))), (aG, .inl (cyJ, 3, .inr (.inl sG))), (aK, .inl (cyJ, 3, .inr (.inl sK))), (aTx, .inl (cyI, 120, .inl sTx)), (aRd, .inl (cyI, 63, .inl sRd))] s.heap := hP
  have hl := lv_entry ([.ref h, .int w1, .int w2]) (n := 3) (Nat.le_of_ble_eq_true rfl)
  rw [lg_entry_eq]
  generalize (lg_sl ([.ref h, .int w1, .int w2]) ++ List.replicate (3 - (lg_sl ([.ref h, .int w1, .int w2])).length) Slot.unset).toArray = ls at hl ⊢
  have hl : lv_has ls 3 [(0, .ref h), (1, .int w1), (2, .int w2)] := hl
  unfold F_X6_covariance at hF
  refine lv_aload_n hx hb dX6_covariance_0 rfl (lv_at hl 0 rfl) ?_
  refine lv_iload_n hx hb dX6_covariance_1 rfl (lv_at hl 1 rfl) ?_
  refine lv_i2l (v := w1.toInt64) hx hb dX6_covariance_2 rfl ?_
  refine lv_lconst (v := 0) hx hb dX6_covariance_3 (by decide) ?_
  refine lv_ldc2 (v := 2) hx hb hown (hts _ kX6_covariance_1) dX6_covariance_4 ?_
  obtain ⟨o1, ho1, hF⟩ := ob_e hF
  refine x_callzi (va_runS (As := [.long w1.toInt64, .long 0, .long 2]) (rest := [.ref h]) ⟨hx, hb, hml, hown, hts⟩ (c_X6_in l w1.toInt64 0 2 ho1) (va_cwS 3 hts gX6_covariance_X6_in rfl rfl rfl (by decide +kernel) ⟨Nat.le_of_ble_eq_true rfl, Nat.le_of_ble_eq_true rfl⟩) ⟨true_blind, fun _ _ _ => ⟨rfl, trivial⟩⟩ rfl rfl hl.1 rfl (lv_room (Nat.le_of_ble_eq_true rfl)) dX6_covariance_7 ⟨Nat.le_of_ble_eq_true rfl, Nat.le_of_ble_eq_true rfl⟩) ?_
  obtain ⟨K6, hK6, hF⟩ := rg_e hF
  have Jx5 : ∀ (x5 : Int32) (H : Heap) (locs : List Loc) (ls : Array Slot), K6 x5 = some out → va_P (dC, dI) vwCl [(h, .inr (6, [.ref aAl, .ref aSv, .ref aAs, .int sN, .int sTh, .ref aF, .ref aG, .ref aK, .long sS, .ref aTx, .int sTl, .int sPl, .ref aRd])), (aAl, .inl (cyJ, 76, .inr (.inl sAl))), (aSv, .inl (cyJ, 304, .inr (.inl sSv))), (aAs, .inl (cyJ, 76, .inr (.inl sAs))), (aF, .inl (cyJ, 3, .inr (.inl sF))), (aG, .inl (cyJ, 3, .inr (.inl sG))), (aK, .inl (cyJ, 3, .inr (.inl sK))), (aTx, .inl (cyI, 120, .inl sTx)), (aRd, .inl (cyI, 63, .inl sRd))] H → va_D A [(h, .inr (6, [.ref aAl, .ref aSv, .ref aAs, .int sN, .int sTh, .ref aF, .ref aG, .ref aK, .long sS, .ref aTx, .int sTl, .int sPl, .ref aRd])), (aAl, .inl (cyJ, 76, .inr (.inl sAl))), (aSv, .inl (cyJ, 304, .inr (.inl sSv))), (aAs, .inl (cyJ, 76, .inr (.inl sAs))), (aF, .inl (cyJ, 3, .inr (.inl sF))), (aG, .inl (cyJ, 3, .inr (.inl sG))), (aK, .inl (cyJ, 3, .inr (.inl sK))), (aTx, .inl (cyI, 120, .inl sTx)), (aRd, .inl (cyI, 63, .inl sRd))] → va_S A s.heap H locs → lv_has ls 3 [(0, .ref h), (1, .int w1), (2, .int w2)] → W p l e (headSpec wsX6_covariance ({ frames := 1, cells := 0, slots := 0, locals := 25 } : Room)).room s m ([.ref h, .int w1, .int w2] : List Value).toArray below meth c H locs 0 0 (MQ below (va_Ql (fun (r' : Int64) (_ : Unit) => r' = out.1) (cPost (dC, dI) [(cyI, .int), (cyJ, .long), (cyB, .byte), (cyS, .object "SelfTuner$State"), (cyD, .double)] [(h, .inr (6, [.ref aAl, .ref aSv, .ref aAs, .int sN, .int out.2, .ref aF, .ref aG, .ref aK, .long sS, .ref aTx, .int sTl, .int sPl, .ref aRd])), (aAl, .inl (cyJ, 76, .inr (.inl sAl))), (aSv, .inl (cyJ, 304, .inr (.inl sSv))), (aAs, .inl (cyJ, 76, .inr (.inl sAs))), (aF, .inl (cyJ, 3, .inr (.inl sF))), (aG, .inl (cyJ, 3, .inr (.inl sG))), (aK, .inl (cyJ, 3, .inr (.inl sK))), (aTx, .inl (cyI, 120, .inl sTx)), (aRd, .inl (cyI, 63, .inl sRd))] A) A) ([.ref h, .int w1, .int w2] : List Value).toArray s 0 0 A) (F0 m 30 ls [.int x5, .ref h]) := by
    intro x5 H locs ls hF hP hD hS hl
    rw [hK6] at hF
    refine lv_iconst (v := 1) hx hb dX6_covariance_30 (by decide) ?_
    obtain ⟨o7, ho7, hF⟩ := ob_e hF
    refine x_calli (wr := []) (ws' := [(h, .inr (6, [.ref aAl, .ref aSv, .ref aAs, .int sN, .int o7.2, .ref aF, .ref aG, .ref aK, .long sS, .ref aTx, .int sTl, .int sPl, .ref aRd])), (aAl, .inl (cyJ, 76, .inr (.inl sAl))), (aSv, .inl (cyJ, 304, .inr (.inl sSv))), (aAs, .inl (cyJ, 76, .inr (.inl sAs))), (aF, .inl (cyJ, 3, .inr (.inl sF))), (aG, .inl (cyJ, 3, .inr (.inl sG))), (aK, .inl (cyJ, 3, .inr (.inl sK))), (aTx, .inl (cyI, 120, .inl sTx)), (aRd, .inl (cyI, 63, .inl sRd))]) (va_runV (As := [.int x5, .int 1]) (rest := []) ⟨hx, hb, hml, hown, hts⟩ (c_X6_goes l dC dI cyI cyJ cyB cyS cyD h aAl aSv aAs aF aG aK aTx aRd H.size sN sTh sS sTl sPl sAl sSv sAs sF sG sK sTx sRd x5 1 ho7) (cwV 2 hts gX6_covariance_X6_goes rfl rfl rfl (by decide +kernel) ⟨Nat.le_of_ble_eq_true rfl, Nat.le_of_ble_eq_true rfl⟩) ⟨cPre_blind, va_recv hK hP (ci := 6) (q0 := 0) rfl rfl, x_pre hN hP hD hK [0, 1, 2, 3, 4, 5, 6, 7, 8] rfl rfl⟩ rfl rfl hl.1 rfl (lv_room (Nat.le_of_ble_eq_true rfl)) dX6_covariance_31 ⟨Nat.le_of_ble_eq_true rfl, Nat.le_of_ble_eq_true rfl⟩) hP hD hS hA [0, 1, 2, 3, 4, 5, 6, 7, 8] [] [0, 1, 2, 3, 4, 5, 6, 7, 8] rfl rfl rfl (by decide) rfl rfl (fun H locs hP hD hS => ?_)
    refine lv_if_eq (tgt := 53) hx hb dX6_covariance_34 (by decide) (fun c8 => ?_) (fun c8 => ?_)
    · have hF := ite_t hF c8
      refine lv_lconst (v := 0) hx hb dX6_covariance_53 (by decide) ?_
      obtain rfl := some_e hF
      exact W.lret (v := 0) hx hb hr (fun t ht hW => ⟨⟨0, (), rfl, rfl, ⟨by rw [ht]; exact hP, va_K.moved hW.alike hK, hD⟩⟩, hS.F ht⟩) hS.2.2 dX6_covariance_54
    · have hF := ite_f hF c8
      refine lv_aload_n hx hb dX6_covariance_37 rfl (lv_at hl 0 rfl) ?_
      refine va_get (D := (dC, dI)) (ci := 6) (v := .ref aAl) (C := RX6) (T := TX6) (N := 13) hx hb hts iX6_covariance_X6 hown hK hP 0 rfl rfl 0 (by decide) (hts _ kX6_covariance_2) (fun _ h9 => h9) rfl dX6_covariance_38 ?_
      refine lv_bipush (v := 16) hx hb dX6_covariance_41 (by decide) ?_
      refine lv_iconst (v := 3) hx hb dX6_covariance_43 (by decide) ?_
      refine lv_iload_n hx hb dX6_covariance_44 rfl (lv_at hl 1 rfl) ?_
      refine lv_imul hx hb dX6_covariance_45 ?_
      refine lv_iadd hx hb dX6_covariance_46 ?_
      refine lv_iload_n hx hb dX6_covariance_47 rfl (lv_at hl 2 rfl) ?_
      refine lv_iadd hx hb dX6_covariance_48 ?_
      obtain ⟨g9, hF⟩ := ck_e hF
      refine x_lald hx hb hK hP 1 1 rfl rfl rfl g9 dX6_covariance_49 ?_
      refine lv_goto (tgt := 54) hx hb dX6_covariance_50 (by decide) ?_
      obtain rfl := some_e hF
      exact W.lret (v := sAl (((16 + (3 * w1)) + w2).toNatClampNeg)) hx hb hr (fun t ht hW => ⟨⟨sAl (((16 + (3 * w1)) + w2).toNatClampNeg), (), rfl, rfl, ⟨by rw [ht]; exact hP, va_K.moved hW.alike hK, hD⟩⟩, hS.F ht⟩) hS.2.2 dX6_covariance_54
  refine lv_if_eq (tgt := 29) hx hb dX6_covariance_10 (by decide) (fun c2 => ?_) (fun c2 => ?_)
  · have hF := ite_t hF c2
    refine lv_iconst (v := 0) hx hb dX6_covariance_29 (by decide) ?_
    exact Jx5 _ _ _ _ hF hP hD hS (lv_sub hl [0, 1, 2] rfl)
  · have hF := ite_f hF c2
    refine lv_iload_n hx hb dX6_covariance_13 rfl (lv_at hl 2 rfl) ?_
    refine lv_i2l (v := w2.toInt64) hx hb dX6_covariance_14 rfl ?_
    refine lv_lconst (v := 0) hx hb dX6_covariance_15 (by decide) ?_
    refine lv_ldc2 (v := 2) hx hb hown (hts _ kX6_covariance_1) dX6_covariance_16 ?_
    obtain ⟨o3, ho3, hF⟩ := ob_e hF
    refine x_callzi (va_runS (As := [.long w2.toInt64, .long 0, .long 2]) (rest := [.ref h]) ⟨hx, hb, hml, hown, hts⟩ (c_X6_in l w2.toInt64 0 2 ho3) (va_cwS 3 hts gX6_covariance_X6_in rfl rfl rfl (by decide +kernel) ⟨Nat.le_of_ble_eq_true rfl, Nat.le_of_ble_eq_true rfl⟩) ⟨true_blind, fun _ _ _ => ⟨rfl, trivial⟩⟩ rfl rfl hl.1 rfl (lv_room (Nat.le_of_ble_eq_true rfl)) dX6_covariance_19 ⟨Nat.le_of_ble_eq_true rfl, Nat.le_of_ble_eq_true rfl⟩) ?_
    refine lv_if_eq (tgt := 29) hx hb dX6_covariance_22 (by decide) (fun c4 => ?_) (fun c4 => ?_)
    · have hF := ite_t hF c4
      refine lv_iconst (v := 0) hx hb dX6_covariance_29 (by decide) ?_
      exact Jx5 _ _ _ _ hF hP hD hS (lv_sub hl [0, 1, 2] rfl)
    · have hF := ite_f hF c4
      refine lv_iconst (v := 1) hx hb dX6_covariance_25 (by decide) ?_
      refine lv_goto (tgt := 30) hx hb dX6_covariance_26 (by decide) ?_
      exact Jx5 _ _ _ _ hF hP hD hS (lv_sub hl [0, 1, 2] rfl)
def F_X6_count (sAl : Nat → Int64) (w1 : Int32) : Option (Int32 × Int32) := ob (F_X6_in w1.toInt64 0 4) (fun o1 => ob (F_X6_goes o1 1) (fun o2 => if (o2.1 : Int32) = 0 then (some (0, o2.2)) else (ck (inb (25 + w1) 76) (some ((sAl ((25 + w1).toNatClampNeg)).toInt32, o2.2)))))
theorem kX6_count_1 : (Cond.constantLong RX6 162 (4)) ∈ wsX6_count := List.mem_of_getElem? (i := 1) rfl
theorem kX6_count_2 : (Cond.fieldLink RX6 7 "SelfTunerModel" "all" "[J") ∈ wsX6_count := List.mem_of_getElem? (i := 2) rfl
theorem iX6_count_X6 : ∀ w ∈ wsX60, w ∈ wsX6_count := fun w h => List.mem_cons_of_mem _ (List.mem_append_right _ h)
set_option maxHeartbeats 4000000 in
set_option maxRecDepth 100000 in
theorem c_X6_count (l : Launch) (dC : Nat → ClassId) (dI : Nat → Nat → Nat) (cyI cyJ cyB cyS cyD : ClassId) (h : Nat) (aAl : Nat) (aSv : Nat) (aAs : Nat) (aF : Nat) (aG : Nat) (aK : Nat) (aTx : Nat) (aRd : Nat) (sz : Nat) (sN : Int32) (sTh : Int32) (sS : Int64) (sTl : Int32) (sPl : Int32) (sAl : Nat → Int64) (sSv : Nat → Int64) (sAs : Nat → Int64) (sF : Nat → Int64) (sG : Nat → Int64) (sK : Nat → Int64) (sTx : Nat → Int32) (sRd : Nat → Int32) (w1 : Int32) {out : Int32 × Int32} (hF : F_X6_count sAl w1 = some out) : Mi l yX6_count wsX6_count ({ frames := 1, cells := 0, slots := 0, locals := 25 } : Room) (dC, dI) [(cyI, .int), (cyJ, .long), (cyB, .byte), (cyS, .object "SelfTuner$State"), (cyD, .double)] sz [.ref h, .int w1] [(h, .inr (6, [.ref aAl, .ref aSv, .ref aAs, .int sN, .int sTh, .ref aF, .ref aG, .ref aK, .long sS, .ref aTx, .int sTl, .int sPl, .ref aRd])), (aAl, .inl (cyJ, 76, .inr (.inl sAl))), (aSv, .inl (cyJ, 304, .inr (.inl sSv))), (aAs, .inl (cyJ, 76, .inr (.inl sAs))), (aF, .inl (cyJ, 3, .inr (.inl sF))), (aG, .inl (cyJ, 3, .inr (.inl sG))), (aK, .inl (cyJ, 3, .inr (.inl sK))), (aTx, .inl (cyI, 120, .inl sTx)), (aRd, .inl (cyI, 63, .inl sRd))] out.1 [(h, .inr (6, [.ref aAl, .ref aSv, .ref aAs, .int sN, .int out.2, .ref aF, .ref aG, .ref aK, .long sS, .ref aTx, .int sTl, .int sPl, .ref aRd])), (aAl, .inl (cyJ, 76, .inr (.inl sAl))), (aSv, .inl (cyJ, 304, .inr (.inl sSv))), (aAs, .inl (cyJ, 76, .inr (.inl sAs))), (aF, .inl (cyJ, 3, .inr (.inl sF))), (aG, .inl (cyJ, 3, .inr (.inl sG))), (aK, .inl (cyJ, 3, .inr (.inl sK))), (aTx, .inl (cyI, 120, .inl sTx)), (aRd, .inl (cyI, 63, .inl sRd))] := by
  refine Met.ofW (cc := cX6_count) (maxL := 2) (ret := (some .int)) (by decide) rfl ?_
  intro p e s m args below meth c s₁ B hml hv
  obtain ⟨rfl, hN, hsz, hP, hK, hD0⟩ := hv
  have hx := B.exec
  have hb := B.bytes
  have hr := B.returns
  have hts := atoms_spec (ws := wsX6_count) B.pre
  have hown : s.vm.findClass RX6 = some m.cls := findClass_of_methodNamed B.named
  have hlocks := B.notSynchronized
  subst hsz
  have hD := hD0.self (sz := s.heap.size)
  generalize hAe : va_A [(h, .inr (6, [.ref aAl, .ref aSv, .ref aAs, .int sN, .int sTh, .ref aF, .ref aG, .ref aK, .long sS, .ref aTx, .int sTl, .int sPl, .ref aRd])), (aAl, .inl (cyJ, 76, .inr (.inl sAl))), (aSv, .inl (cyJ, 304, .inr (.inl sSv))), (aAs, .inl (cyJ, 76, .inr (.inl sAs))), (aF, .inl (cyJ, 3, .inr (.inl sF))), (aG, .inl (cyJ, 3, .inr (.inl sG))), (aK, .inl (cyJ, 3, .inr (.inl sK))), (aTx, .inl (cyI, 120, .inl sTx)), (aRd, .inl (cyI, 63, .inl sRd))] s.heap.size = A at hD ⊢
  have hA : ∀ q : Nat, s.heap.size ≤ q → A q := fun q h => by rw [← hAe]; exact Or.inr h
  have hS : va_S A s.heap s.heap [] := va_S.rf
  have hP : va_P (dC, dI) vwCl [(h, .inr (6, [.ref aAl, .ref aSv, .ref aAs, .int sN, .int sTh, .ref aF, .ref aG, .ref aK, .long sS, .ref aTx, .int sTl, .int sPl, .ref aRd])), (aAl, .inl (cyJ, 76, .inr (.inl sAl))), (aSv, .inl (cyJ, 304, .inr (.inl sSv))), (aAs, .inl (cyJ, 76, .inr (.inl sAs))), (aF, .inl (cyJ, 3, .inr (.inl sF))), (aG, .inl (cyJ, 3, .inr (.inl sG))), (aK, .inl (cyJ, 3, .inr (.inl sK))), (aTx, .inl (cyI, 120, .inl sTx)), (aRd, .inl (cyI, 63, .inl sRd))] s.heap := hP
  have hl := lv_entry ([.ref h, .int w1]) (n := 2) (Nat.le_of_ble_eq_true rfl)
  rw [lg_entry_eq]
  generalize (lg_sl ([.ref h, .int w1]) ++ List.replicate (2 - (lg_sl ([.ref h, .int w1])).length) Slot.unset).toArray = ls at hl ⊢
  have hl : lv_has ls 2 [(0, .ref h), (1, .int w1)] := hl
  unfold F_X6_count at hF
  refine lv_aload_n hx hb dX6_count_0 rfl (lv_at hl 0 rfl) ?_
  refine lv_iload_n hx hb dX6_count_1 rfl (lv_at hl 1 rfl) ?_
  refine lv_i2l (v := w1.toInt64) hx hb dX6_count_2 rfl ?_
  refine lv_lconst (v := 0) hx hb dX6_count_3 (by decide) ?_
  refine lv_ldc2 (v := 4) hx hb hown (hts _ kX6_count_1) dX6_count_4 ?_
  obtain ⟨o1, ho1, hF⟩ := ob_e hF
  refine x_callzi (va_runS (As := [.long w1.toInt64, .long 0, .long 4]) (rest := [.ref h]) ⟨hx, hb, hml, hown, hts⟩ (c_X6_in l w1.toInt64 0 4 ho1) (va_cwS 3 hts gX6_count_X6_in rfl rfl rfl (by decide +kernel) ⟨Nat.le_of_ble_eq_true rfl, Nat.le_of_ble_eq_true rfl⟩) ⟨true_blind, fun _ _ _ => ⟨rfl, trivial⟩⟩ rfl rfl hl.1 rfl (lv_room (Nat.le_of_ble_eq_true rfl)) dX6_count_7 ⟨Nat.le_of_ble_eq_true rfl, Nat.le_of_ble_eq_true rfl⟩) ?_
  refine lv_iconst (v := 1) hx hb dX6_count_10 (by decide) ?_
  obtain ⟨o2, ho2, hF⟩ := ob_e hF
  refine x_calli (wr := []) (ws' := [(h, .inr (6, [.ref aAl, .ref aSv, .ref aAs, .int sN, .int o2.2, .ref aF, .ref aG, .ref aK, .long sS, .ref aTx, .int sTl, .int sPl, .ref aRd])), (aAl, .inl (cyJ, 76, .inr (.inl sAl))), (aSv, .inl (cyJ, 304, .inr (.inl sSv))), (aAs, .inl (cyJ, 76, .inr (.inl sAs))), (aF, .inl (cyJ, 3, .inr (.inl sF))), (aG, .inl (cyJ, 3, .inr (.inl sG))), (aK, .inl (cyJ, 3, .inr (.inl sK))), (aTx, .inl (cyI, 120, .inl sTx)), (aRd, .inl (cyI, 63, .inl sRd))]) (va_runV (As := [.int o1, .int 1]) (rest := []) ⟨hx, hb, hml, hown, hts⟩ (c_X6_goes l dC dI cyI cyJ cyB cyS cyD h aAl aSv aAs aF aG aK aTx aRd s.heap.size sN sTh sS sTl sPl sAl sSv sAs sF sG sK sTx sRd o1 1 ho2) (cwV 2 hts gX6_count_X6_goes rfl rfl rfl (by decide +kernel) ⟨Nat.le_of_ble_eq_true rfl, Nat.le_of_ble_eq_true rfl⟩) ⟨cPre_blind, va_recv hK hP (ci := 6) (q0 := 0) rfl rfl, x_pre hN hP hD hK [0, 1, 2, 3, 4, 5, 6, 7, 8] rfl rfl⟩ rfl rfl hl.1 rfl (lv_room (Nat.le_of_ble_eq_true rfl)) dX6_count_11 ⟨Nat.le_of_ble_eq_true rfl, Nat.le_of_ble_eq_true rfl⟩) hP hD hS hA [0, 1, 2, 3, 4, 5, 6, 7, 8] [] [0, 1, 2, 3, 4, 5, 6, 7, 8] rfl rfl rfl (by decide) rfl rfl (fun H locs hP hD hS => ?_)
  refine lv_if_eq (tgt := 30) hx hb dX6_count_14 (by decide) (fun c3 => ?_) (fun c3 => ?_)
  · have hF := ite_t hF c3
    refine lv_iconst (v := 0) hx hb dX6_count_30 (by decide) ?_
    obtain rfl := some_e hF
    exact W.iret (v := 0) hx hb hr (fun t ht hW => ⟨⟨0, (), rfl, rfl, ⟨by rw [ht]; exact hP, va_K.moved hW.alike hK, hD⟩⟩, hS.F ht⟩) hS.2.2 dX6_count_31
  · have hF := ite_f hF c3
    refine lv_aload_n hx hb dX6_count_17 rfl (lv_at hl 0 rfl) ?_
    refine va_get (D := (dC, dI)) (ci := 6) (v := .ref aAl) (C := RX6) (T := TX6) (N := 13) hx hb hts iX6_count_X6 hown hK hP 0 rfl rfl 0 (by decide) (hts _ kX6_count_2) (fun _ h9 => h9) rfl dX6_count_18 ?_
    refine lv_bipush (v := 25) hx hb dX6_count_21 (by decide) ?_
    refine lv_iload_n hx hb dX6_count_23 rfl (lv_at hl 1 rfl) ?_
    refine lv_iadd hx hb dX6_count_24 ?_
    obtain ⟨g4, hF⟩ := ck_e hF
    refine x_lald hx hb hK hP 1 1 rfl rfl rfl g4 dX6_count_25 ?_
    refine lv_l2i (v := (sAl ((25 + w1).toNatClampNeg)).toInt32) hx hb dX6_count_26 rfl ?_
    refine lv_goto (tgt := 31) hx hb dX6_count_27 (by decide) ?_
    obtain rfl := some_e hF
    exact W.iret (v := (sAl ((25 + w1).toNatClampNeg)).toInt32) hx hb hr (fun t ht hW => ⟨⟨(sAl ((25 + w1).toNatClampNeg)).toInt32, (), rfl, rfl, ⟨by rw [ht]; exact hP, va_K.moved hW.alike hK, hD⟩⟩, hS.F ht⟩) hS.2.2 dX6_count_31
def F_X6_predict (sAl : Nat → Int64) (sF : Nat → Int64) (w1 : Int32) (w2 : Int32) : Option (Int64 × Int32 × (Nat → Int64)) := ob (F_X6_isSignal w1.toInt64) (fun o1 => rg (α := Int32) (fun K6 => if (o1 : Int32) = 0 then (K6 0) else (ob (F_X6_isSignal w2.toInt64) (fun o3 => if (o3 : Int32) = 0 then (K6 0) else (K6 1)))) (fun x5 => ob (F_X6_goes x5 1) (fun o7 => if (o7.1 : Int32) = 0 then (some (0, o7.2, sF)) else (ob (F_X6_takesRegressor sF w1.toInt64 w2.toInt64) (fun o9 => ob (F_X6_sum sAl o9) (fun o10 => ob (F_X6_floor o10 65536) (fun o11 => some (o11, o7.2, o9))))))))
theorem kX6_predict_1 : (Cond.constantLong RX6 71 (65536)) ∈ wsX6_predict := List.mem_of_getElem? (i := 1) rfl
set_option maxHeartbeats 4000000 in
set_option maxRecDepth 100000 in
theorem c_X6_predict (l : Launch) (dC : Nat → ClassId) (dI : Nat → Nat → Nat) (cyI cyJ cyB cyS cyD : ClassId) (h : Nat) (aAl : Nat) (aSv : Nat) (aAs : Nat) (aF : Nat) (aG : Nat) (aK : Nat) (aTx : Nat) (aRd : Nat) (sz : Nat) (sN : Int32) (sTh : Int32) (sS : Int64) (sTl : Int32) (sPl : Int32) (sAl : Nat → Int64) (sSv : Nat → Int64) (sAs : Nat → Int64) (sF : Nat → Int64) (sG : Nat → Int64) (sK : Nat → Int64) (sTx : Nat → Int32) (sRd : Nat → Int32) (w1 : Int32) (w2 : Int32) {out : Int64 × Int32 × (Nat → Int64)} (hF : F_X6_predict sAl sF w1 w2 = some out) : Ml l yX6_predict wsX6_predict ({ frames := 2, cells := 0, slots := 0, locals := 46 } : Room) (dC, dI) [(cyI, .int), (cyJ, .long), (cyB, .byte), (cyS, .object "SelfTuner$State"), (cyD, .double)] sz [.ref h, .int w1, .int w2] [(h, .inr (6, [.ref aAl, .ref aSv, .ref aAs, .int sN, .int sTh, .ref aF, .ref aG, .ref aK, .long sS, .ref aTx, .int sTl, .int sPl, .ref aRd])), (aAl, .inl (cyJ, 76, .inr (.inl sAl))), (aSv, .inl (cyJ, 304, .inr (.inl sSv))), (aAs, .inl (cyJ, 76, .inr (.inl sAs))), (aF, .inl (cyJ, 3, .inr (.inl sF))), (aG, .inl (cyJ, 3, .inr (.inl sG))), (aK, .inl (cyJ, 3, .inr (.inl sK))), (aTx, .inl (cyI, 120, .inl sTx)), (aRd, .inl (cyI, 63, .inl sRd))] out.1 [(h, .inr (6, [.ref aAl, .ref aSv, .ref aAs, .int sN, .int out.2.1, .ref aF, .ref aG, .ref aK, .long sS, .ref aTx, .int sTl, .int sPl, .ref aRd])), (aAl, .inl (cyJ, 76, .inr (.inl sAl))), (aSv, .inl (cyJ, 304, .inr (.inl sSv))), (aAs, .inl (cyJ, 76, .inr (.inl sAs))), (aF, .inl (cyJ, 3, .inr (.inl out.2.2))), (aG, .inl (cyJ, 3, .inr (.inl sG))), (aK, .inl (cyJ, 3, .inr (.inl sK))), (aTx, .inl (cyI, 120, .inl sTx)), (aRd, .inl (cyI, 63, .inl sRd))] := by
  refine Met.ofW (cc := cX6_predict) (maxL := 3) (ret := (some .long)) (by decide) rfl ?_
  intro p e s m args below meth c s₁ B hml hv
  obtain ⟨rfl, hN, hsz, hP, hK, hD0⟩ := hv
  have hx := B.exec
  have hb := B.bytes
  have hr := B.returns
  have hts := atoms_spec (ws := wsX6_predict) B.pre
  have hown : s.vm.findClass RX6 = some m.cls := findClass_of_methodNamed B.named
  have hlocks := B.notSynchronized
  subst hsz
  have hD := hD0.self (sz := s.heap.size)
  generalize hAe : va_A [(h, .inr (6, [.ref aAl, .ref aSv, .ref aAs, .int sN, .int sTh, .ref aF, .ref aG, .ref aK, .long sS, .ref aTx, .int sTl, .int sPl, .ref aRd])), (aAl, .inl (cyJ, 76, .inr (.inl sAl))), (aSv, .inl (cyJ, 304, .inr (.inl sSv))), (aAs, .inl (cyJ, 76, .inr (.inl sAs))), (aF, .inl (cyJ, 3, .inr (.inl sF))), (aG, .inl (cyJ, 3, .inr (.inl sG))), (aK, .inl (cyJ, 3, .inr (.inl sK))), (aTx, .inl (cyI, 120, .inl sTx)), (aRd, .inl (cyI, 63, .inl sRd))] s.heap.size = A at hD ⊢
  have hA : ∀ q : Nat, s.heap.size ≤ q → A q := fun q h => by rw [← hAe]; exact Or.inr h
  have hS : va_S A s.heap s.heap [] := va_S.rf
  have hP : va_P (dC, dI) vwCl [(h, .inr (6, [.ref aAl, .ref aSv, .ref aAs, .int sN, .int sTh, .ref aF, .ref aG, .ref aK, .long sS, .ref aTx, .int sTl, .int sPl, .ref aRd])), (aAl, .inl (cyJ, 76, .inr (.inl sAl))), (aSv, .inl (cyJ, 304, .inr (.inl sSv))), (aAs, .inl (cyJ, 76, .inr (.inl sAs))), (aF, .inl (cyJ, 3, .inr (.inl sF))), (aG, .inl (cyJ, 3, .inr (.inl sG))), (aK, .inl (cyJ, 3, .inr (.inl sK))), (aTx, .inl (cyI, 120, .inl sTx)), (aRd, .inl (cyI, 63, .inl sRd))] s.heap := hP
  have hl := lv_entry ([.ref h, .int w1, .int w2]) (n := 3) (Nat.le_of_ble_eq_true rfl)
  rw [lg_entry_eq]
  generalize (lg_sl ([.ref h, .int w1, .int w2]) ++ List.replicate (3 - (lg_sl ([.ref h, .int w1, .int w2])).length) Slot.unset).toArray = ls at hl ⊢
  have hl : lv_has ls 3 [(0, .ref h), (1, .int w1), (2, .int w2)] := hl
  unfold F_X6_predict at hF
  refine lv_aload_n hx hb dX6_predict_0 rfl (lv_at hl 0 rfl) ?_
  refine lv_iload_n hx hb dX6_predict_1 rfl (lv_at hl 1 rfl) ?_
  refine lv_i2l (v := w1.toInt64) hx hb dX6_predict_2 rfl ?_
  obtain ⟨o1, ho1, hF⟩ := ob_e hF
  refine x_callzi (va_runS (As := [.long w1.toInt64]) (rest := [.ref h]) ⟨hx, hb, hml, hown, hts⟩ (c_X6_isSignal l w1.toInt64 ho1) (va_cwS 1 hts gX6_predict_X6_isSignal rfl rfl rfl (by decide +kernel) ⟨Nat.le_of_ble_eq_true rfl, Nat.le_of_ble_eq_true rfl⟩) ⟨true_blind, fun _ _ _ => ⟨rfl, trivial⟩⟩ rfl rfl hl.1 rfl (lv_room (Nat.le_of_ble_eq_true rfl)) dX6_predict_3 ⟨Nat.le_of_ble_eq_true rfl, Nat.le_of_ble_eq_true rfl⟩) ?_
  obtain ⟨K6, hK6, hF⟩ := rg_e hF
  have Jx5 : ∀ (x5 : Int32) (H : Heap) (locs : List Loc) (ls : Array Slot), K6 x5 = some out → va_P (dC, dI) vwCl [(h, .inr (6, [.ref aAl, .ref aSv, .ref aAs, .int sN, .int sTh, .ref aF, .ref aG, .ref aK, .long sS, .ref aTx, .int sTl, .int sPl, .ref aRd])), (aAl, .inl (cyJ, 76, .inr (.inl sAl))), (aSv, .inl (cyJ, 304, .inr (.inl sSv))), (aAs, .inl (cyJ, 76, .inr (.inl sAs))), (aF, .inl (cyJ, 3, .inr (.inl sF))), (aG, .inl (cyJ, 3, .inr (.inl sG))), (aK, .inl (cyJ, 3, .inr (.inl sK))), (aTx, .inl (cyI, 120, .inl sTx)), (aRd, .inl (cyI, 63, .inl sRd))] H → va_D A [(h, .inr (6, [.ref aAl, .ref aSv, .ref aAs, .int sN, .int sTh, .ref aF, .ref aG, .ref aK, .long sS, .ref aTx, .int sTl, .int sPl, .ref aRd])), (aAl, .inl (cyJ, 76, .inr (.inl sAl))), (aSv, .inl (cyJ, 304, .inr (.inl sSv))), (aAs, .inl (cyJ, 76, .inr (.inl sAs))), (aF, .inl (cyJ, 3, .inr (.inl sF))), (aG, .inl (cyJ, 3, .inr (.inl sG))), (aK, .inl (cyJ, 3, .inr (.inl sK))), (aTx, .inl (cyI, 120, .inl sTx)), (aRd, .inl (cyI, 63, .inl sRd))] → va_S A s.heap H locs → lv_has ls 3 [(0, .ref h), (1, .int w1), (2, .int w2)] → W p l e (headSpec wsX6_predict ({ frames := 2, cells := 0, slots := 0, locals := 46 } : Room)).room s m ([.ref h, .int w1, .int w2] : List Value).toArray below meth c H locs 0 0 (MQ below (va_Ql (fun (r' : Int64) (_ : Unit) => r' = out.1) (cPost (dC, dI) [(cyI, .int), (cyJ, .long), (cyB, .byte), (cyS, .object "SelfTuner$State"), (cyD, .double)] [(h, .inr (6, [.ref aAl, .ref aSv, .ref aAs, .int sN, .int out.2.1, .ref aF, .ref aG, .ref aK, .long sS, .ref aTx, .int sTl, .int sPl, .ref aRd])), (aAl, .inl (cyJ, 76, .inr (.inl sAl))), (aSv, .inl (cyJ, 304, .inr (.inl sSv))), (aAs, .inl (cyJ, 76, .inr (.inl sAs))), (aF, .inl (cyJ, 3, .inr (.inl out.2.2))), (aG, .inl (cyJ, 3, .inr (.inl sG))), (aK, .inl (cyJ, 3, .inr (.inl sK))), (aTx, .inl (cyI, 120, .inl sTx)), (aRd, .inl (cyI, 63, .inl sRd))] A) A) ([.ref h, .int w1, .int w2] : List Value).toArray s 0 0 A) (F0 m 22 ls [.int x5, .ref h]) := by
    intro x5 H locs ls hF hP hD hS hl
    rw [hK6] at hF
    refine lv_iconst (v := 1) hx hb dX6_predict_22 (by decide) ?_
    obtain ⟨o7, ho7, hF⟩ := ob_e hF
    refine x_calli (wr := []) (ws' := [(h, .inr (6, [.ref aAl, .ref aSv, .ref aAs, .int sN, .int o7.2, .ref aF, .ref aG, .ref aK, .long sS, .ref aTx, .int sTl, .int sPl, .ref aRd])), (aAl, .inl (cyJ, 76, .inr (.inl sAl))), (aSv, .inl (cyJ, 304, .inr (.inl sSv))), (aAs, .inl (cyJ, 76, .inr (.inl sAs))), (aF, .inl (cyJ, 3, .inr (.inl sF))), (aG, .inl (cyJ, 3, .inr (.inl sG))), (aK, .inl (cyJ, 3, .inr (.inl sK))), (aTx, .inl (cyI, 120, .inl sTx)), (aRd, .inl (cyI, 63, .inl sRd))]) (va_runV (As := [.int x5, .int 1]) (rest := []) ⟨hx, hb, hml, hown, hts⟩ (c_X6_goes l dC dI cyI cyJ cyB cyS cyD h aAl aSv aAs aF aG aK aTx aRd H.size sN sTh sS sTl sPl sAl sSv sAs sF sG sK sTx sRd x5 1 ho7) (cwV 2 hts gX6_predict_X6_goes rfl rfl rfl (by decide +kernel) ⟨Nat.le_of_ble_eq_true rfl, Nat.le_of_ble_eq_true rfl⟩) ⟨cPre_blind, va_recv hK hP (ci := 6) (q0 := 0) rfl rfl, x_pre hN hP hD hK [0, 1, 2, 3, 4, 5, 6, 7, 8] rfl rfl⟩ rfl rfl hl.1 rfl (lv_room (Nat.le_of_ble_eq_true rfl)) dX6_predict_23 ⟨Nat.le_of_ble_eq_true rfl, Nat.le_of_ble_eq_true rfl⟩) hP hD hS hA [0, 1, 2, 3, 4, 5, 6, 7, 8] [] [0, 1, 2, 3, 4, 5, 6, 7, 8] rfl rfl rfl (by decide) rfl rfl (fun H locs hP hD hS => ?_)
    refine lv_if_ne (tgt := 31) hx hb dX6_predict_26 (by decide) (fun c8 => ?_) (fun c8 => ?_)
    · have hF := ite_f hF c8
      refine lv_aload_n hx hb dX6_predict_31 rfl (lv_at hl 0 rfl) ?_
      refine lv_iload_n hx hb dX6_predict_32 rfl (lv_at hl 1 rfl) ?_
      refine lv_i2l (v := w1.toInt64) hx hb dX6_predict_33 rfl ?_
      refine lv_iload_n hx hb dX6_predict_34 rfl (lv_at hl 2 rfl) ?_
      refine lv_i2l (v := w2.toInt64) hx hb dX6_predict_35 rfl ?_
      obtain ⟨o9, ho9, hF⟩ := ob_e hF
      refine x_callv (wr := []) (ws' := [(h, .inr (6, [.ref aAl, .ref aSv, .ref aAs, .int sN, .int o7.2, .ref aF, .ref aG, .ref aK, .long sS, .ref aTx, .int sTl, .int sPl, .ref aRd])), (aAl, .inl (cyJ, 76, .inr (.inl sAl))), (aSv, .inl (cyJ, 304, .inr (.inl sSv))), (aAs, .inl (cyJ, 76, .inr (.inl sAs))), (aF, .inl (cyJ, 3, .inr (.inl o9))), (aG, .inl (cyJ, 3, .inr (.inl sG))), (aK, .inl (cyJ, 3, .inr (.inl sK))), (aTx, .inl (cyI, 120, .inl sTx)), (aRd, .inl (cyI, 63, .inl sRd))]) (va_runV (As := [.long w1.toInt64, .long w2.toInt64]) (rest := []) ⟨hx, hb, hml, hown, hts⟩ (c_X6_takesRegressor l dC dI cyI cyJ cyB cyS cyD h aAl aSv aAs aF aG aK aTx aRd H.size sN o7.2 sS sTl sPl sAl sSv sAs sF sG sK sTx sRd w1.toInt64 w2.toInt64 ho9) (cwV 2 hts gX6_predict_X6_takesRegressor rfl rfl rfl (by decide +kernel) ⟨Nat.le_of_ble_eq_true rfl, Nat.le_of_ble_eq_true rfl⟩) ⟨cPre_blind, va_recv hK hP (ci := 6) (q0 := 0) rfl rfl, x_pre hN hP hD hK [0, 1, 2, 3, 4, 5, 6, 7, 8] rfl rfl⟩ rfl rfl hl.1 rfl (lv_room (Nat.le_of_ble_eq_true rfl)) dX6_predict_36 ⟨Nat.le_of_ble_eq_true rfl, Nat.le_of_ble_eq_true rfl⟩) hP hD hS hA [0, 1, 2, 3, 4, 5, 6, 7, 8] [] [0, 1, 2, 3, 4, 5, 6, 7, 8] rfl rfl rfl (by decide) rfl rfl (fun H locs hP hD hS => ?_)
      refine lv_aload_n hx hb dX6_predict_39 rfl (lv_at hl 0 rfl) ?_
      obtain ⟨o10, ho10, hF⟩ := ob_e hF
      refine x_calll (wr := []) (ws' := [(h, .inr (6, [.ref aAl, .ref aSv, .ref aAs, .int sN, .int o7.2, .ref aF, .ref aG, .ref aK, .long sS, .ref aTx, .int sTl, .int sPl, .ref aRd])), (aAl, .inl (cyJ, 76, .inr (.inl sAl))), (aSv, .inl (cyJ, 304, .inr (.inl sSv))), (aAs, .inl (cyJ, 76, .inr (.inl sAs))), (aF, .inl (cyJ, 3, .inr (.inl o9))), (aG, .inl (cyJ, 3, .inr (.inl sG))), (aK, .inl (cyJ, 3, .inr (.inl sK))), (aTx, .inl (cyI, 120, .inl sTx)), (aRd, .inl (cyI, 63, .inl sRd))]) (va_runV (As := []) (rest := []) ⟨hx, hb, hml, hown, hts⟩ (c_X6_sum l dC dI cyI cyJ cyB cyS cyD h aAl aSv aAs aF aG aK aTx aRd H.size sN o7.2 sS sTl sPl sAl sSv sAs o9 sG sK sTx sRd ho10) (cwV 0 hts gX6_predict_X6_sum rfl rfl rfl (by decide +kernel) ⟨Nat.le_of_ble_eq_true rfl, Nat.le_of_ble_eq_true rfl⟩) ⟨cPre_blind, va_recv hK hP (ci := 6) (q0 := 0) rfl rfl, x_pre hN hP hD hK [0, 1, 2, 3, 4, 5, 6, 7, 8] rfl rfl⟩ rfl rfl hl.1 rfl (lv_room (Nat.le_of_ble_eq_true rfl)) dX6_predict_40 ⟨Nat.le_of_ble_eq_true rfl, Nat.le_of_ble_eq_true rfl⟩) hP hD hS hA [0, 1, 2, 3, 4, 5, 6, 7, 8] [] [0, 1, 2, 3, 4, 5, 6, 7, 8] rfl rfl rfl (by decide) rfl rfl (fun H locs hP hD hS => ?_)
      refine lv_ldc2 (v := 65536) hx hb hown (hts _ kX6_predict_1) dX6_predict_43 ?_
      obtain ⟨o11, ho11, hF⟩ := ob_e hF
      refine x_callzl (va_runS (As := [.long o10, .long 65536]) (rest := []) ⟨hx, hb, hml, hown, hts⟩ (c_X6_floor l o10 65536 ho11) (va_cwS 2 hts gX6_predict_X6_floor rfl rfl rfl (by decide +kernel) ⟨Nat.le_of_ble_eq_true rfl, Nat.le_of_ble_eq_true rfl⟩) ⟨true_blind, fun _ _ _ => ⟨rfl, trivial⟩⟩ rfl rfl hl.1 rfl (lv_room (Nat.le_of_ble_eq_true rfl)) dX6_predict_46 ⟨Nat.le_of_ble_eq_true rfl, Nat.le_of_ble_eq_true rfl⟩) ?_
      obtain rfl := some_e hF
      exact W.lret (v := o11) hx hb hr (fun t ht hW => ⟨⟨o11, (), rfl, rfl, ⟨by rw [ht]; exact hP, va_K.moved hW.alike hK, hD⟩⟩, hS.F ht⟩) hS.2.2 dX6_predict_49
    · have hF := ite_t hF c8
      refine lv_lconst (v := 0) hx hb dX6_predict_29 (by decide) ?_
      obtain rfl := some_e hF
      exact W.lret (v := 0) hx hb hr (fun t ht hW => ⟨⟨0, (), rfl, rfl, ⟨by rw [ht]; exact hP, va_K.moved hW.alike hK, hD⟩⟩, hS.F ht⟩) hS.2.2 dX6_predict_30
  refine lv_if_eq (tgt := 21) hx hb dX6_predict_6 (by decide) (fun c2 => ?_) (fun c2 => ?_)
  · have hF := ite_t hF c2
    refine lv_iconst (v := 0) hx hb dX6_predict_21 (by decide) ?_
    exact Jx5 _ _ _ _ hF hP hD hS (lv_sub hl [0, 1, 2] rfl)
  · have hF := ite_f hF c2
    refine lv_iload_n hx hb dX6_predict_9 rfl (lv_at hl 2 rfl) ?_
    refine lv_i2l (v := w2.toInt64) hx hb dX6_predict_10 rfl ?_
    obtain ⟨o3, ho3, hF⟩ := ob_e hF
    refine x_callzi (va_runS (As := [.long w2.toInt64]) (rest := [.ref h]) ⟨hx, hb, hml, hown, hts⟩ (c_X6_isSignal l w2.toInt64 ho3) (va_cwS 1 hts gX6_predict_X6_isSignal rfl rfl rfl (by decide +kernel) ⟨Nat.le_of_ble_eq_true rfl, Nat.le_of_ble_eq_true rfl⟩) ⟨true_blind, fun _ _ _ => ⟨rfl, trivial⟩⟩ rfl rfl hl.1 rfl (lv_room (Nat.le_of_ble_eq_true rfl)) dX6_predict_11 ⟨Nat.le_of_ble_eq_true rfl, Nat.le_of_ble_eq_true rfl⟩) ?_
    refine lv_if_eq (tgt := 21) hx hb dX6_predict_14 (by decide) (fun c4 => ?_) (fun c4 => ?_)
    · have hF := ite_t hF c4
      refine lv_iconst (v := 0) hx hb dX6_predict_21 (by decide) ?_
      exact Jx5 _ _ _ _ hF hP hD hS (lv_sub hl [0, 1, 2] rfl)
    · have hF := ite_f hF c4
      refine lv_iconst (v := 1) hx hb dX6_predict_17 (by decide) ?_
      refine lv_goto (tgt := 22) hx hb dX6_predict_18 (by decide) ?_
      exact Jx5 _ _ _ _ hF hP hD hS (lv_sub hl [0, 1, 2] rfl)
def F_X6_windowLong (sAl : Nat → Int64) : Option (Int32) := if ((sAl 25) : Int64) < (sAl 3) then (some ((sAl 25).toInt32)) else (some ((sAl 3).toInt32))
theorem kX6_windowLong_1 : (Cond.fieldLink RX6 7 "SelfTunerModel" "all" "[J") ∈ wsX6_windowLong := List.mem_of_getElem? (i := 1) rfl
theorem iX6_windowLong_X6 : ∀ w ∈ wsX60, w ∈ wsX6_windowLong := fun w h => List.mem_cons_of_mem _ (List.mem_append_right _ h)
set_option maxHeartbeats 4000000 in
set_option maxRecDepth 100000 in
theorem c_X6_windowLong (l : Launch) (dC : Nat → ClassId) (dI : Nat → Nat → Nat) (cyI cyJ cyB cyS cyD : ClassId) (h : Nat) (aAl : Nat) (aSv : Nat) (aAs : Nat) (aF : Nat) (aG : Nat) (aK : Nat) (aTx : Nat) (aRd : Nat) (sz : Nat) (sN : Int32) (sTh : Int32) (sS : Int64) (sTl : Int32) (sPl : Int32) (sAl : Nat → Int64) (sSv : Nat → Int64) (sAs : Nat → Int64) (sF : Nat → Int64) (sG : Nat → Int64) (sK : Nat → Int64) (sTx : Nat → Int32) (sRd : Nat → Int32) {out : Int32} (hF : F_X6_windowLong sAl = some out) : Mi l yX6_windowLong wsX6_windowLong ({ frames := 0, cells := 0, slots := 0, locals := 0 } : Room) (dC, dI) [(cyI, .int), (cyJ, .long), (cyB, .byte), (cyS, .object "SelfTuner$State"), (cyD, .double)] sz [.ref h] [(h, .inr (6, [.ref aAl, .ref aSv, .ref aAs, .int sN, .int sTh, .ref aF, .ref aG, .ref aK, .long sS, .ref aTx, .int sTl, .int sPl, .ref aRd])), (aAl, .inl (cyJ, 76, .inr (.inl sAl))), (aSv, .inl (cyJ, 304, .inr (.inl sSv))), (aAs, .inl (cyJ, 76, .inr (.inl sAs))), (aF, .inl (cyJ, 3, .inr (.inl sF))), (aG, .inl (cyJ, 3, .inr (.inl sG))), (aK, .inl (cyJ, 3, .inr (.inl sK))), (aTx, .inl (cyI, 120, .inl sTx)), (aRd, .inl (cyI, 63, .inl sRd))] out [(h, .inr (6, [.ref aAl, .ref aSv, .ref aAs, .int sN, .int sTh, .ref aF, .ref aG, .ref aK, .long sS, .ref aTx, .int sTl, .int sPl, .ref aRd])), (aAl, .inl (cyJ, 76, .inr (.inl sAl))), (aSv, .inl (cyJ, 304, .inr (.inl sSv))), (aAs, .inl (cyJ, 76, .inr (.inl sAs))), (aF, .inl (cyJ, 3, .inr (.inl sF))), (aG, .inl (cyJ, 3, .inr (.inl sG))), (aK, .inl (cyJ, 3, .inr (.inl sK))), (aTx, .inl (cyI, 120, .inl sTx)), (aRd, .inl (cyI, 63, .inl sRd))] := by
  refine Met.ofW (cc := cX6_windowLong) (maxL := 1) (ret := (some .int)) (by decide) rfl ?_
  intro p e s m args below meth c s₁ B hml hv
  obtain ⟨rfl, hN, hsz, hP, hK, hD0⟩ := hv
  have hx := B.exec
  have hb := B.bytes
  have hr := B.returns
  have hts := atoms_spec (ws := wsX6_windowLong) B.pre
  have hown : s.vm.findClass RX6 = some m.cls := findClass_of_methodNamed B.named
  have hlocks := B.notSynchronized
  subst hsz
  have hD := hD0.self (sz := s.heap.size)
  generalize hAe : va_A [(h, .inr (6, [.ref aAl, .ref aSv, .ref aAs, .int sN, .int sTh, .ref aF, .ref aG, .ref aK, .long sS, .ref aTx, .int sTl, .int sPl, .ref aRd])), (aAl, .inl (cyJ, 76, .inr (.inl sAl))), (aSv, .inl (cyJ, 304, .inr (.inl sSv))), (aAs, .inl (cyJ, 76, .inr (.inl sAs))), (aF, .inl (cyJ, 3, .inr (.inl sF))), (aG, .inl (cyJ, 3, .inr (.inl sG))), (aK, .inl (cyJ, 3, .inr (.inl sK))), (aTx, .inl (cyI, 120, .inl sTx)), (aRd, .inl (cyI, 63, .inl sRd))] s.heap.size = A at hD ⊢
  have hA : ∀ q : Nat, s.heap.size ≤ q → A q := fun q h => by rw [← hAe]; exact Or.inr h
  have hS : va_S A s.heap s.heap [] := va_S.rf
  have hP : va_P (dC, dI) vwCl [(h, .inr (6, [.ref aAl, .ref aSv, .ref aAs, .int sN, .int sTh, .ref aF, .ref aG, .ref aK, .long sS, .ref aTx, .int sTl, .int sPl, .ref aRd])), (aAl, .inl (cyJ, 76, .inr (.inl sAl))), (aSv, .inl (cyJ, 304, .inr (.inl sSv))), (aAs, .inl (cyJ, 76, .inr (.inl sAs))), (aF, .inl (cyJ, 3, .inr (.inl sF))), (aG, .inl (cyJ, 3, .inr (.inl sG))), (aK, .inl (cyJ, 3, .inr (.inl sK))), (aTx, .inl (cyI, 120, .inl sTx)), (aRd, .inl (cyI, 63, .inl sRd))] s.heap := hP
  have hl := lv_entry ([.ref h]) (n := 1) (Nat.le_of_ble_eq_true rfl)
  rw [lg_entry_eq]
  generalize (lg_sl ([.ref h]) ++ List.replicate (1 - (lg_sl ([.ref h])).length) Slot.unset).toArray = ls at hl ⊢
  have hl : lv_has ls 1 [(0, .ref h)] := hl
  unfold F_X6_windowLong at hF
  refine lv_aload_n hx hb dX6_windowLong_0 rfl (lv_at hl 0 rfl) ?_
  refine va_get (D := (dC, dI)) (ci := 6) (v := .ref aAl) (C := RX6) (T := TX6) (N := 13) hx hb hts iX6_windowLong_X6 hown hK hP 0 rfl rfl 0 (by decide) (hts _ kX6_windowLong_1) (fun _ h9 => h9) rfl dX6_windowLong_1 ?_
  refine lv_bipush (v := 25) hx hb dX6_windowLong_4 (by decide) ?_
  refine x_lald hx hb hK hP 1 1 rfl rfl (show (25 : Int32).toNatClampNeg = 25 by decide) (inbK (k := 25) (by decide) rfl) dX6_windowLong_6 ?_
  refine lv_aload_n hx hb dX6_windowLong_7 rfl (lv_at hl 0 rfl) ?_
  refine va_get (D := (dC, dI)) (ci := 6) (v := .ref aAl) (C := RX6) (T := TX6) (N := 13) hx hb hts iX6_windowLong_X6 hown hK hP 0 rfl rfl 0 (by decide) (hts _ kX6_windowLong_1) (fun _ h9 => h9) rfl dX6_windowLong_8 ?_
  refine lv_iconst (v := 3) hx hb dX6_windowLong_11 (by decide) ?_
  refine x_lald hx hb hK hP 1 1 rfl rfl (show (3 : Int32).toNatClampNeg = 3 by decide) (inbK (k := 3) (by decide) rfl) dX6_windowLong_12 ?_
  refine W.lcmp hx hb dX6_windowLong_13 ?_
  refine x_il_ge (tgt := 28) hx hb dX6_windowLong_14 (by decide) (fun c1 => ?_) (fun c1 => ?_)
  · have hF := ite_f hF c1
    refine lv_aload_n hx hb dX6_windowLong_28 rfl (lv_at hl 0 rfl) ?_
    refine va_get (D := (dC, dI)) (ci := 6) (v := .ref aAl) (C := RX6) (T := TX6) (N := 13) hx hb hts iX6_windowLong_X6 hown hK hP 0 rfl rfl 0 (by decide) (hts _ kX6_windowLong_1) (fun _ h9 => h9) rfl dX6_windowLong_29 ?_
    refine lv_iconst (v := 3) hx hb dX6_windowLong_32 (by decide) ?_
    refine x_lald hx hb hK hP 1 1 rfl rfl (show (3 : Int32).toNatClampNeg = 3 by decide) (inbK (k := 3) (by decide) rfl) dX6_windowLong_33 ?_
    refine lv_l2i (v := (sAl 3).toInt32) hx hb dX6_windowLong_34 rfl ?_
    obtain rfl := some_e hF
    exact W.iret (v := (sAl 3).toInt32) hx hb hr (fun t ht hW => ⟨⟨(sAl 3).toInt32, (), rfl, rfl, ⟨by rw [ht]; exact hP, va_K.moved hW.alike hK, hD⟩⟩, hS.F ht⟩) hS.2.2 dX6_windowLong_35
  · have hF := ite_t hF c1
    refine lv_aload_n hx hb dX6_windowLong_17 rfl (lv_at hl 0 rfl) ?_
    refine va_get (D := (dC, dI)) (ci := 6) (v := .ref aAl) (C := RX6) (T := TX6) (N := 13) hx hb hts iX6_windowLong_X6 hown hK hP 0 rfl rfl 0 (by decide) (hts _ kX6_windowLong_1) (fun _ h9 => h9) rfl dX6_windowLong_18 ?_
    refine lv_bipush (v := 25) hx hb dX6_windowLong_21 (by decide) ?_
    refine x_lald hx hb hK hP 1 1 rfl rfl (show (25 : Int32).toNatClampNeg = 25 by decide) (inbK (k := 25) (by decide) rfl) dX6_windowLong_23 ?_
    refine lv_l2i (v := (sAl 25).toInt32) hx hb dX6_windowLong_24 rfl ?_
    refine lv_goto (tgt := 35) hx hb dX6_windowLong_25 (by decide) ?_
    obtain rfl := some_e hF
    exact W.iret (v := (sAl 25).toInt32) hx hb hr (fun t ht hW => ⟨⟨(sAl 25).toInt32, (), rfl, rfl, ⟨by rw [ht]; exact hP, va_K.moved hW.alike hK, hD⟩⟩, hS.F ht⟩) hS.2.2 dX6_windowLong_35
def F_X6_determinantNow_18 (sAl : Nat → Int64) : Nat → ((Int64 × Int64 × Int64) → Option (Int64)) → Int64 → Int64 → Int64 → Int32 → Option (Int64)
  | 0, _, _, _, _, _ => none
  | n4 + 1, K5, v6, v7, v8, v9 => ob (F_X6_kept sAl) (fun o10 => if (o10 : Int32) ≤ v9 then (K5 (v6, v7, v8)) else (ck (inb (36 + (2 * v9)) 76) (lt_ (α := Int64) (sAl ((36 + (2 * v9)).toNatClampNeg)) (fun v13 => ck (inb ((36 + (2 * v9)) + 1) 76) (lt_ (α := Int64) (sAl (((36 + (2 * v9)) + 1).toNatClampNeg)) (fun v15 => lt_ (α := Int64) (v6 + (v13 * v13)) (fun v16 => lt_ (α := Int64) (v7 + (v15 * v15)) (fun v17 => lt_ (α := Int64) (v8 + (v13 * v15)) (fun v18 => lt_ (α := Int32) (v9 + 1) (fun v19 => F_X6_determinantNow_18 sAl n4 K5 v16 v17 v18 v19))))))))))
def F_X6_determinantNow (sAl : Nat → Int64) : Option (Int64) := ob (F_X6_kept sAl) (fun o1 => ob (F_X6_windowLong sAl) (fun o2 => lt_ (α := Int32) (o1 - o2) (fun v3 => F_X6_determinantNow_18 sAl 1000 (fun x20 => some ((x20.1 * x20.2.1) - (x20.2.2 * x20.2.2))) 0 0 0 v3)))
theorem kX6_determinantNow_1 : (Cond.fieldLink RX6 7 "SelfTunerModel" "all" "[J") ∈ wsX6_determinantNow := List.mem_of_getElem? (i := 1) rfl
theorem iX6_determinantNow_X6 : ∀ w ∈ wsX60, w ∈ wsX6_determinantNow := fun w h => List.mem_cons_of_mem _ (List.mem_append_right _ h)
set_option maxHeartbeats 4000000 in
set_option maxRecDepth 100000 in
theorem c_X6_determinantNow (l : Launch) (dC : Nat → ClassId) (dI : Nat → Nat → Nat) (cyI cyJ cyB cyS cyD : ClassId) (h : Nat) (aAl : Nat) (aSv : Nat) (aAs : Nat) (aF : Nat) (aG : Nat) (aK : Nat) (aTx : Nat) (aRd : Nat) (sz : Nat) (sN : Int32) (sTh : Int32) (sS : Int64) (sTl : Int32) (sPl : Int32) (sAl : Nat → Int64) (sSv : Nat → Int64) (sAs : Nat → Int64) (sF : Nat → Int64) (sG : Nat → Int64) (sK : Nat → Int64) (sTx : Nat → Int32) (sRd : Nat → Int32) {out : Int64} (hF : F_X6_determinantNow sAl = some out) : Ml l yX6_determinantNow wsX6_determinantNow ({ frames := 1, cells := 0, slots := 0, locals := 20 } : Room) (dC, dI) [(cyI, .int), (cyJ, .long), (cyB, .byte), (cyS, .object "SelfTuner$State"), (cyD, .double)] sz [.ref h] [(h, .inr (6, [.ref aAl, .ref aSv, .ref aAs, .int sN, .int sTh, .ref aF, .ref aG, .ref aK, .long sS, .ref aTx, .int sTl, .int sPl, .ref aRd])), (aAl, .inl (cyJ, 76, .inr (.inl sAl))), (aSv, .inl (cyJ, 304, .inr (.inl sSv))), (aAs, .inl (cyJ, 76, .inr (.inl sAs))), (aF, .inl (cyJ, 3, .inr (.inl sF))), (aG, .inl (cyJ, 3, .inr (.inl sG))), (aK, .inl (cyJ, 3, .inr (.inl sK))), (aTx, .inl (cyI, 120, .inl sTx)), (aRd, .inl (cyI, 63, .inl sRd))] out [(h, .inr (6, [.ref aAl, .ref aSv, .ref aAs, .int sN, .int sTh, .ref aF, .ref aG, .ref aK, .long sS, .ref aTx, .int sTl, .int sPl, .ref aRd])), (aAl, .inl (cyJ, 76, .inr (.inl sAl))), (aSv, .inl (cyJ, 304, .inr (.inl sSv))), (aAs, .inl (cyJ, 76, .inr (.inl sAs))), (aF, .inl (cyJ, 3, .inr (.inl sF))), (aG, .inl (cyJ, 3, .inr (.inl sG))), (aK, .inl (cyJ, 3, .inr (.inl sK))), (aTx, .inl (cyI, 120, .inl sTx)), (aRd, .inl (cyI, 63, .inl sRd))] := by
  refine Met.ofW (cc := cX6_determinantNow) (maxL := 12) (ret := (some .long)) (by decide) rfl ?_
  intro p e s m args below meth c s₁ B hml hv
  obtain ⟨rfl, hN, hsz, hP, hK, hD0⟩ := hv
  have hx := B.exec
  have hb := B.bytes
  have hr := B.returns
  have hts := atoms_spec (ws := wsX6_determinantNow) B.pre
  have hown : s.vm.findClass RX6 = some m.cls := findClass_of_methodNamed B.named
  have hlocks := B.notSynchronized
  subst hsz
  have hD := hD0.self (sz := s.heap.size)
  generalize hAe : va_A [(h, .inr (6, [.ref aAl, .ref aSv, .ref aAs, .int sN, .int sTh, .ref aF, .ref aG, .ref aK, .long sS, .ref aTx, .int sTl, .int sPl, .ref aRd])), (aAl, .inl (cyJ, 76, .inr (.inl sAl))), (aSv, .inl (cyJ, 304, .inr (.inl sSv))), (aAs, .inl (cyJ, 76, .inr (.inl sAs))), (aF, .inl (cyJ, 3, .inr (.inl sF))), (aG, .inl (cyJ, 3, .inr (.inl sG))), (aK, .inl (cyJ, 3, .inr (.inl sK))), (aTx, .inl (cyI, 120, .inl sTx)), (aRd, .inl (cyI, 63, .inl sRd))] s.heap.size = A at hD ⊢
  have hA : ∀ q : Nat, s.heap.size ≤ q → A q := fun q h => by rw [← hAe]; exact Or.inr h
  have hS : va_S A s.heap s.heap [] := va_S.rf
  have hP : va_P (dC, dI) vwCl [(h, .inr (6, [.ref aAl, .ref aSv, .ref aAs, .int sN, .int sTh, .ref aF, .ref aG, .ref aK, .long sS, .ref aTx, .int sTl, .int sPl, .ref aRd])), (aAl, .inl (cyJ, 76, .inr (.inl sAl))), (aSv, .inl (cyJ, 304, .inr (.inl sSv))), (aAs, .inl (cyJ, 76, .inr (.inl sAs))), (aF, .inl (cyJ, 3, .inr (.inl sF))), (aG, .inl (cyJ, 3, .inr (.inl sG))), (aK, .inl (cyJ, 3, .inr (.inl sK))), (aTx, .inl (cyI, 120, .inl sTx)), (aRd, .inl (cyI, 63, .inl sRd))] s.heap := hP
  have hl := lv_entry ([.ref h]) (n := 12) (Nat.le_of_ble_eq_true rfl)
  rw [lg_entry_eq]
  generalize (lg_sl ([.ref h]) ++ List.replicate (12 - (lg_sl ([.ref h])).length) Slot.unset).toArray = ls at hl ⊢
  have hl : lv_has ls 12 [(0, .ref h)] := hl
  unfold F_X6_determinantNow at hF
  refine lv_lconst (v := 0) hx hb dX6_determinantNow_0 (by decide) ?_
  refine lv_lstore_n (lv' := [(1, .long 0), (0, .ref h)]) hx hb dX6_determinantNow_1 rfl hl (by decide) rfl (fun ls hl => ?_)
  refine lv_lconst (v := 0) hx hb dX6_determinantNow_2 (by decide) ?_
  refine lv_lstore_n (lv' := [(3, .long 0), (1, .long 0), (0, .ref h)]) hx hb dX6_determinantNow_3 rfl hl (by decide) rfl (fun ls hl => ?_)
  refine lv_lconst (v := 0) hx hb dX6_determinantNow_4 (by decide) ?_
  refine lv_lstore (lv' := [(5, .long 0), (3, .long 0), (1, .long 0), (0, .ref h)]) hx hb dX6_determinantNow_5 hl (by decide) rfl (fun ls hl => ?_)
  refine lv_aload_n hx hb dX6_determinantNow_7 rfl (lv_at hl 3 rfl) ?_
  obtain ⟨o1, ho1, hF⟩ := ob_e hF
  refine x_calli (wr := []) (ws' := [(h, .inr (6, [.ref aAl, .ref aSv, .ref aAs, .int sN, .int sTh, .ref aF, .ref aG, .ref aK, .long sS, .ref aTx, .int sTl, .int sPl, .ref aRd])), (aAl, .inl (cyJ, 76, .inr (.inl sAl))), (aSv, .inl (cyJ, 304, .inr (.inl sSv))), (aAs, .inl (cyJ, 76, .inr (.inl sAs))), (aF, .inl (cyJ, 3, .inr (.inl sF))), (aG, .inl (cyJ, 3, .inr (.inl sG))), (aK, .inl (cyJ, 3, .inr (.inl sK))), (aTx, .inl (cyI, 120, .inl sTx)), (aRd, .inl (cyI, 63, .inl sRd))]) (va_runV (As := []) (rest := []) ⟨hx, hb, hml, hown, hts⟩ (c_X6_kept l dC dI cyI cyJ cyB cyS cyD h aAl aSv aAs aF aG aK aTx aRd s.heap.size sN sTh sS sTl sPl sAl sSv sAs sF sG sK sTx sRd ho1) (cwV 0 hts gX6_determinantNow_X6_kept rfl rfl rfl (by decide +kernel) ⟨Nat.le_of_ble_eq_true rfl, Nat.le_of_ble_eq_true rfl⟩) ⟨cPre_blind, va_recv hK hP (ci := 6) (q0 := 0) rfl rfl, x_pre hN hP hD hK [0, 1, 2, 3, 4, 5, 6, 7, 8] rfl rfl⟩ rfl rfl hl.1 rfl (lv_room (Nat.le_of_ble_eq_true rfl)) dX6_determinantNow_8 ⟨Nat.le_of_ble_eq_true rfl, Nat.le_of_ble_eq_true rfl⟩) hP hD hS hA [0, 1, 2, 3, 4, 5, 6, 7, 8] [] [0, 1, 2, 3, 4, 5, 6, 7, 8] rfl rfl rfl (by decide) rfl rfl (fun H locs hP hD hS => ?_)
  refine lv_aload_n hx hb dX6_determinantNow_11 rfl (lv_at hl 3 rfl) ?_
  obtain ⟨o2, ho2, hF⟩ := ob_e hF
  refine x_calli (wr := []) (ws' := [(h, .inr (6, [.ref aAl, .ref aSv, .ref aAs, .int sN, .int sTh, .ref aF, .ref aG, .ref aK, .long sS, .ref aTx, .int sTl, .int sPl, .ref aRd])), (aAl, .inl (cyJ, 76, .inr (.inl sAl))), (aSv, .inl (cyJ, 304, .inr (.inl sSv))), (aAs, .inl (cyJ, 76, .inr (.inl sAs))), (aF, .inl (cyJ, 3, .inr (.inl sF))), (aG, .inl (cyJ, 3, .inr (.inl sG))), (aK, .inl (cyJ, 3, .inr (.inl sK))), (aTx, .inl (cyI, 120, .inl sTx)), (aRd, .inl (cyI, 63, .inl sRd))]) (va_runV (As := []) (rest := [.int o1]) ⟨hx, hb, hml, hown, hts⟩ (c_X6_windowLong l dC dI cyI cyJ cyB cyS cyD h aAl aSv aAs aF aG aK aTx aRd H.size sN sTh sS sTl sPl sAl sSv sAs sF sG sK sTx sRd ho2) (cwV 0 hts gX6_determinantNow_X6_windowLong rfl rfl rfl (by decide +kernel) ⟨Nat.le_of_ble_eq_true rfl, Nat.le_of_ble_eq_true rfl⟩) ⟨cPre_blind, va_recv hK hP (ci := 6) (q0 := 0) rfl rfl, x_pre hN hP hD hK [0, 1, 2, 3, 4, 5, 6, 7, 8] rfl rfl⟩ rfl rfl hl.1 rfl (lv_room (Nat.le_of_ble_eq_true rfl)) dX6_determinantNow_12 ⟨Nat.le_of_ble_eq_true rfl, Nat.le_of_ble_eq_true rfl⟩) hP hD hS hA [0, 1, 2, 3, 4, 5, 6, 7, 8] [] [0, 1, 2, 3, 4, 5, 6, 7, 8] rfl rfl rfl (by decide) rfl rfl (fun H locs hP hD hS => ?_)
  refine lv_isub hx hb dX6_determinantNow_15 ?_
  obtain ⟨v3, hv3, hF⟩ := lt_e hF
  refine x_topi hv3 ?_
  refine lv_istore (lv' := [(7, .int v3), (5, .long 0), (3, .long 0), (1, .long 0), (0, .ref h)]) hx hb dX6_determinantNow_16 hl (by decide) rfl (fun ls hl => ?_)
  have Ln4 : ∀ (n4 : Nat) (K5 : (Int64 × Int64 × Int64) → Option (Int64)) (v6 : Int64) (v7 : Int64) (v8 : Int64) (v9 : Int32) (H : Heap) (locs : List Loc) (ls : Array Slot), F_X6_determinantNow_18 sAl n4 K5 v6 v7 v8 v9 = some out → va_P (dC, dI) vwCl [(h, .inr (6, [.ref aAl, .ref aSv, .ref aAs, .int sN, .int sTh, .ref aF, .ref aG, .ref aK, .long sS, .ref aTx, .int sTl, .int sPl, .ref aRd])), (aAl, .inl (cyJ, 76, .inr (.inl sAl))), (aSv, .inl (cyJ, 304, .inr (.inl sSv))), (aAs, .inl (cyJ, 76, .inr (.inl sAs))), (aF, .inl (cyJ, 3, .inr (.inl sF))), (aG, .inl (cyJ, 3, .inr (.inl sG))), (aK, .inl (cyJ, 3, .inr (.inl sK))), (aTx, .inl (cyI, 120, .inl sTx)), (aRd, .inl (cyI, 63, .inl sRd))] H → va_D A [(h, .inr (6, [.ref aAl, .ref aSv, .ref aAs, .int sN, .int sTh, .ref aF, .ref aG, .ref aK, .long sS, .ref aTx, .int sTl, .int sPl, .ref aRd])), (aAl, .inl (cyJ, 76, .inr (.inl sAl))), (aSv, .inl (cyJ, 304, .inr (.inl sSv))), (aAs, .inl (cyJ, 76, .inr (.inl sAs))), (aF, .inl (cyJ, 3, .inr (.inl sF))), (aG, .inl (cyJ, 3, .inr (.inl sG))), (aK, .inl (cyJ, 3, .inr (.inl sK))), (aTx, .inl (cyI, 120, .inl sTx)), (aRd, .inl (cyI, 63, .inl sRd))] → va_S A s.heap H locs → lv_has ls 12 [(0, .ref h), (1, .long v6), (3, .long v7), (5, .long v8), (7, .int v9)] → (∀ (x20 : Int64 × Int64 × Int64) (H : Heap) (locs : List Loc) (ls : Array Slot), K5 x20 = some out → va_P (dC, dI) vwCl [(h, .inr (6, [.ref aAl, .ref aSv, .ref aAs, .int sN, .int sTh, .ref aF, .ref aG, .ref aK, .long sS, .ref aTx, .int sTl, .int sPl, .ref aRd])), (aAl, .inl (cyJ, 76, .inr (.inl sAl))), (aSv, .inl (cyJ, 304, .inr (.inl sSv))), (aAs, .inl (cyJ, 76, .inr (.inl sAs))), (aF, .inl (cyJ, 3, .inr (.inl sF))), (aG, .inl (cyJ, 3, .inr (.inl sG))), (aK, .inl (cyJ, 3, .inr (.inl sK))), (aTx, .inl (cyI, 120, .inl sTx)), (aRd, .inl (cyI, 63, .inl sRd))] H → va_D A [(h, .inr (6, [.ref aAl, .ref aSv, .ref aAs, .int sN, .int sTh, .ref aF, .ref aG, .ref aK, .long sS, .ref aTx, .int sTl, .int sPl, .ref aRd])), (aAl, .inl (cyJ, 76, .inr (.inl sAl))), (aSv, .inl (cyJ, 304, .inr (.inl sSv))), (aAs, .inl (cyJ, 76, .inr (.inl sAs))), (aF, .inl (cyJ, 3, .inr (.inl sF))), (aG, .inl (cyJ, 3, .inr (.inl sG))), (aK, .inl (cyJ, 3, .inr (.inl sK))), (aTx, .inl (cyI, 120, .inl sTx)), (aRd, .inl (cyI, 63, .inl sRd))] → va_S A s.heap H locs → lv_has ls 12 [(1, .long x20.1), (3, .long x20.2.1), (5, .long x20.2.2)] → W p l e (headSpec wsX6_determinantNow ({ frames := 1, cells := 0, slots := 0, locals := 20 } : Room)).room s m ([.ref h] : List Value).toArray below meth c H locs 0 0 (MQ below (va_Ql (fun (r' : Int64) (_ : Unit) => r' = out) (cPost (dC, dI) [(cyI, .int), (cyJ, .long), (cyB, .byte), (cyS, .object "SelfTuner$State"), (cyD, .double)] [(h, .inr (6, [.ref aAl, .ref aSv, .ref aAs, .int sN, .int sTh, .ref aF, .ref aG, .ref aK, .long sS, .ref aTx, .int sTl, .int sPl, .ref aRd])), (aAl, .inl (cyJ, 76, .inr (.inl sAl))), (aSv, .inl (cyJ, 304, .inr (.inl sSv))), (aAs, .inl (cyJ, 76, .inr (.inl sAs))), (aF, .inl (cyJ, 3, .inr (.inl sF))), (aG, .inl (cyJ, 3, .inr (.inl sG))), (aK, .inl (cyJ, 3, .inr (.inl sK))), (aTx, .inl (cyI, 120, .inl sTx)), (aRd, .inl (cyI, 63, .inl sRd))] A) A) ([.ref h] : List Value).toArray s 0 0 A) (F0 m 89 ls [])) → W p l e (headSpec wsX6_determinantNow ({ frames := 1, cells := 0, slots := 0, locals := 20 } : Room)).room s m ([.ref h] : List Value).toArray below meth c H locs 0 0 (MQ below (va_Ql (fun (r' : Int64) (_ : Unit) => r' = out) (cPost (dC, dI) [(cyI, .int), (cyJ, .long), (cyB, .byte), (cyS, .object "SelfTuner$State"), (cyD, .double)] [(h, .inr (6, [.ref aAl, .ref aSv, .ref aAs, .int sN, .int sTh, .ref aF, .ref aG, .ref aK, .long sS, .ref aTx, .int sTl, .int sPl, .ref aRd])), (aAl, .inl (cyJ, 76, .inr (.inl sAl))), (aSv, .inl (cyJ, 304, .inr (.inl sSv))), (aAs, .inl (cyJ, 76, .inr (.inl sAs))), (aF, .inl (cyJ, 3, .inr (.inl sF))), (aG, .inl (cyJ, 3, .inr (.inl sG))), (aK, .inl (cyJ, 3, .inr (.inl sK))), (aTx, .inl (cyI, 120, .inl sTx)), (aRd, .inl (cyI, 63, .inl sRd))] A) A) ([.ref h] : List Value).toArray s 0 0 A) (F0 m 18 ls []) := by
    intro n4
    induction n4 with
    | zero => intro K5 v6 v7 v8 v9 H locs ls hF; exact no_e (show none = some out from hF)
    | succ n4 ihn4 =>
      intro K5 v6 v7 v8 v9 H locs ls hF hP hD hS hl kxn4
      rw [F_X6_determinantNow_18] at hF
      refine lv_iload hx hb dX6_determinantNow_18 (lv_at hl 4 rfl) ?_
      refine lv_aload_n hx hb dX6_determinantNow_20 rfl (lv_at hl 0 rfl) ?_
      obtain ⟨o10, ho10, hF⟩ := ob_e hF
      refine x_calli (wr := []) (ws' := [(h, .inr (6, [.ref aAl, .ref aSv, .ref aAs, .int sN, .int sTh, .ref aF, .ref aG, .ref aK, .long sS, .ref aTx, .int sTl, .int sPl, .ref aRd])), (aAl, .inl (cyJ, 76, .inr (.inl sAl))), (aSv, .inl (cyJ, 304, .inr (.inl sSv))), (aAs, .inl (cyJ, 76, .inr (.inl sAs))), (aF, .inl (cyJ, 3, .inr (.inl sF))), (aG, .inl (cyJ, 3, .inr (.inl sG))), (aK, .inl (cyJ, 3, .inr (.inl sK))), (aTx, .inl (cyI, 120, .inl sTx)), (aRd, .inl (cyI, 63, .inl sRd))]) (va_runV (As := []) (rest := [.int v9]) ⟨hx, hb, hml, hown, hts⟩ (c_X6_kept l dC dI cyI cyJ cyB cyS cyD h aAl aSv aAs aF aG aK aTx aRd H.size sN sTh sS sTl sPl sAl sSv sAs sF sG sK sTx sRd ho10) (cwV 0 hts gX6_determinantNow_X6_kept rfl rfl rfl (by decide +kernel) ⟨Nat.le_of_ble_eq_true rfl, Nat.le_of_ble_eq_true rfl⟩) ⟨cPre_blind, va_recv hK hP (ci := 6) (q0 := 0) rfl rfl, x_pre hN hP hD hK [0, 1, 2, 3, 4, 5, 6, 7, 8] rfl rfl⟩ rfl rfl hl.1 rfl (lv_room (Nat.le_of_ble_eq_true rfl)) dX6_determinantNow_21 ⟨Nat.le_of_ble_eq_true rfl, Nat.le_of_ble_eq_true rfl⟩) hP hD hS hA [0, 1, 2, 3, 4, 5, 6, 7, 8] [] [0, 1, 2, 3, 4, 5, 6, 7, 8] rfl rfl rfl (by decide) rfl rfl (fun H locs hP hD hS => ?_)
      refine lv_icmp_ge (tgt := 89) hx hb dX6_determinantNow_24 (by decide) (fun c11 => ?_) (fun c11 => ?_)
      · have hF := ite_t hF c11
        exact kxn4 _ _ _ _ hF hP hD hS (lv_sub hl [1, 2, 3] rfl)
      · have hF := ite_f hF c11
        refine lv_aload_n hx hb dX6_determinantNow_27 rfl (lv_at hl 0 rfl) ?_
        refine va_get (D := (dC, dI)) (ci := 6) (v := .ref aAl) (C := RX6) (T := TX6) (N := 13) hx hb hts iX6_determinantNow_X6 hown hK hP 0 rfl rfl 0 (by decide) (hts _ kX6_determinantNow_1) (fun _ h9 => h9) rfl dX6_determinantNow_28 ?_
        refine lv_bipush (v := 36) hx hb dX6_determinantNow_31 (by decide) ?_
        refine lv_iconst (v := 2) hx hb dX6_determinantNow_33 (by decide) ?_
        refine lv_iload hx hb dX6_determinantNow_34 (lv_at hl 4 rfl) ?_
        refine lv_imul hx hb dX6_determinantNow_36 ?_
        refine lv_iadd hx hb dX6_determinantNow_37 ?_
        obtain ⟨g12, hF⟩ := ck_e hF
        refine x_lald hx hb hK hP 1 1 rfl rfl rfl g12 dX6_determinantNow_38 ?_
        obtain ⟨v13, hv13, hF⟩ := lt_e hF
        refine x_topl hv13 ?_
        refine lv_lstore (lv' := [(8, .long v13), (0, .ref h), (1, .long v6), (3, .long v7), (5, .long v8), (7, .int v9)]) hx hb dX6_determinantNow_39 hl (by decide) rfl (fun ls hl => ?_)
        refine lv_aload_n hx hb dX6_determinantNow_41 rfl (lv_at hl 1 rfl) ?_
        refine va_get (D := (dC, dI)) (ci := 6) (v := .ref aAl) (C := RX6) (T := TX6) (N := 13) hx hb hts iX6_determinantNow_X6 hown hK hP 0 rfl rfl 0 (by decide) (hts _ kX6_determinantNow_1) (fun _ h9 => h9) rfl dX6_determinantNow_42 ?_
        refine lv_bipush (v := 36) hx hb dX6_determinantNow_45 (by decide) ?_
        refine lv_iconst (v := 2) hx hb dX6_determinantNow_47 (by decide) ?_
        refine lv_iload hx hb dX6_determinantNow_48 (lv_at hl 5 rfl) ?_
        refine lv_imul hx hb dX6_determinantNow_50 ?_
        refine lv_iadd hx hb dX6_determinantNow_51 ?_
        refine lv_iconst (v := 1) hx hb dX6_determinantNow_52 (by decide) ?_
        refine lv_iadd hx hb dX6_determinantNow_53 ?_
        obtain ⟨g14, hF⟩ := ck_e hF
        refine x_lald hx hb hK hP 1 1 rfl rfl rfl g14 dX6_determinantNow_54 ?_
        obtain ⟨v15, hv15, hF⟩ := lt_e hF
        refine x_topl hv15 ?_
        refine lv_lstore (lv' := [(10, .long v15), (8, .long v13), (0, .ref h), (1, .long v6), (3, .long v7), (5, .long v8), (7, .int v9)]) hx hb dX6_determinantNow_55 hl (by decide) rfl (fun ls hl => ?_)
        refine lv_lload_n hx hb dX6_determinantNow_57 rfl (lv_at hl 3 rfl) ?_
        refine lv_lload hx hb dX6_determinantNow_58 (lv_at hl 1 rfl) ?_
        refine lv_lload hx hb dX6_determinantNow_60 (lv_at hl 1 rfl) ?_
        refine lv_lmul hx hb dX6_determinantNow_62 ?_
        refine lv_ladd hx hb dX6_determinantNow_63 ?_
        obtain ⟨v16, hv16, hF⟩ := lt_e hF
        refine x_topl hv16 ?_
        refine lv_lstore_n (lv' := [(1, .long v16), (10, .long v15), (8, .long v13), (0, .ref h), (3, .long v7), (5, .long v8), (7, .int v9)]) hx hb dX6_determinantNow_64 rfl hl (by decide) rfl (fun ls hl => ?_)
        refine lv_lload_n hx hb dX6_determinantNow_65 rfl (lv_at hl 4 rfl) ?_
        refine lv_lload hx hb dX6_determinantNow_66 (lv_at hl 1 rfl) ?_
        refine lv_lload hx hb dX6_determinantNow_68 (lv_at hl 1 rfl) ?_
        refine lv_lmul hx hb dX6_determinantNow_70 ?_
        refine lv_ladd hx hb dX6_determinantNow_71 ?_
        obtain ⟨v17, hv17, hF⟩ := lt_e hF
        refine x_topl hv17 ?_
        refine lv_lstore_n (lv' := [(3, .long v17), (1, .long v16), (10, .long v15), (8, .long v13), (0, .ref h), (5, .long v8), (7, .int v9)]) hx hb dX6_determinantNow_72 rfl hl (by decide) rfl (fun ls hl => ?_)
        refine lv_lload hx hb dX6_determinantNow_73 (lv_at hl 5 rfl) ?_
        refine lv_lload hx hb dX6_determinantNow_75 (lv_at hl 3 rfl) ?_
        refine lv_lload hx hb dX6_determinantNow_77 (lv_at hl 2 rfl) ?_
        refine lv_lmul hx hb dX6_determinantNow_79 ?_
        refine lv_ladd hx hb dX6_determinantNow_80 ?_
        obtain ⟨v18, hv18, hF⟩ := lt_e hF
        refine x_topl hv18 ?_
        refine lv_lstore (lv' := [(5, .long v18), (3, .long v17), (1, .long v16), (10, .long v15), (8, .long v13), (0, .ref h), (7, .int v9)]) hx hb dX6_determinantNow_81 hl (by decide) rfl (fun ls hl => ?_)
        obtain ⟨v19, hv19, hF⟩ := lt_e hF
        refine lv_iinc (v := v19) (lv' := [(7, .int v19), (5, .long v18), (3, .long v17), (1, .long v16), (10, .long v15), (8, .long v13), (0, .ref h)]) hx hb dX6_determinantNow_83 hl (k := 6) rfl (by rw [hv19]; rfl) (by decide) rfl (fun ls hl => ?_)
        refine lv_goto (tgt := 18) hx hb dX6_determinantNow_86 (by decide) ?_
        exact ihn4 _ _ _ _ _ _ _ _ hF hP hD hS (lv_sub hl [6, 3, 2, 1, 0] rfl) kxn4
  refine Ln4 _ _ _ _ _ _ _ _ _ hF hP hD hS (lv_sub hl [4, 3, 2, 1, 0] rfl) (fun x20 H locs ls hF hP hD hS hl => ?_)
  refine lv_lload_n hx hb dX6_determinantNow_89 rfl (lv_at hl 0 rfl) ?_
  refine lv_lload_n hx hb dX6_determinantNow_90 rfl (lv_at hl 1 rfl) ?_
  refine lv_lmul hx hb dX6_determinantNow_91 ?_
  refine lv_lload hx hb dX6_determinantNow_92 (lv_at hl 2 rfl) ?_
  refine lv_lload hx hb dX6_determinantNow_94 (lv_at hl 2 rfl) ?_
  refine lv_lmul hx hb dX6_determinantNow_96 ?_
  refine lv_lsub hx hb dX6_determinantNow_97 ?_
  obtain rfl := some_e hF
  exact W.lret (v := (x20.1 * x20.2.1) - (x20.2.2 * x20.2.2)) hx hb hr (fun t ht hW => ⟨⟨(x20.1 * x20.2.1) - (x20.2.2 * x20.2.2), (), rfl, rfl, ⟨by rw [ht]; exact hP, va_K.moved hW.alike hK, hD⟩⟩, hS.F ht⟩) hS.2.2 dX6_determinantNow_98
def F_X6_inWindow (sAl : Nat → Int64) : Option (Int32 × Int32) := ob (F_X6_windowLong sAl) (fun o1 => some (o1, 0))
theorem kX6_inWindow_1 : (Cond.fieldLink RX6 54 "SelfTunerModel" "thrown" "I") ∈ wsX6_inWindow := List.mem_of_getElem? (i := 1) rfl
theorem iX6_inWindow_X6 : ∀ w ∈ wsX60, w ∈ wsX6_inWindow := fun w h => List.mem_cons_of_mem _ (List.mem_append_right _ h)
set_option maxHeartbeats 4000000 in
set_option maxRecDepth 100000 in
theorem c_X6_inWindow (l : Launch) (dC : Nat → ClassId) (dI : Nat → Nat → Nat) (cyI cyJ cyB cyS cyD : ClassId) (h : Nat) (aAl : Nat) (aSv : Nat) (aAs : Nat) (aF : Nat) (aG : Nat) (aK : Nat) (aTx : Nat) (aRd : Nat) (sz : Nat) (sN : Int32) (sTh : Int32) (sS : Int64) (sTl : Int32) (sPl : Int32) (sAl : Nat → Int64) (sSv : Nat → Int64) (sAs : Nat → Int64) (sF : Nat → Int64) (sG : Nat → Int64) (sK : Nat → Int64) (sTx : Nat → Int32) (sRd : Nat → Int32) {out : Int32 × Int32} (hF : F_X6_inWindow sAl = some out) : Mi l yX6_inWindow wsX6_inWindow ({ frames := 1, cells := 0, slots := 0, locals := 20 } : Room) (dC, dI) [(cyI, .int), (cyJ, .long), (cyB, .byte), (cyS, .object "SelfTuner$State"), (cyD, .double)] sz [.ref h] [(h, .inr (6, [.ref aAl, .ref aSv, .ref aAs, .int sN, .int sTh, .ref aF, .ref aG, .ref aK, .long sS, .ref aTx, .int sTl, .int sPl, .ref aRd])), (aAl, .inl (cyJ, 76, .inr (.inl sAl))), (aSv, .inl (cyJ, 304, .inr (.inl sSv))), (aAs, .inl (cyJ, 76, .inr (.inl sAs))), (aF, .inl (cyJ, 3, .inr (.inl sF))), (aG, .inl (cyJ, 3, .inr (.inl sG))), (aK, .inl (cyJ, 3, .inr (.inl sK))), (aTx, .inl (cyI, 120, .inl sTx)), (aRd, .inl (cyI, 63, .inl sRd))] out.1 [(h, .inr (6, [.ref aAl, .ref aSv, .ref aAs, .int sN, .int out.2, .ref aF, .ref aG, .ref aK, .long sS, .ref aTx, .int sTl, .int sPl, .ref aRd])), (aAl, .inl (cyJ, 76, .inr (.inl sAl))), (aSv, .inl (cyJ, 304, .inr (.inl sSv))), (aAs, .inl (cyJ, 76, .inr (.inl sAs))), (aF, .inl (cyJ, 3, .inr (.inl sF))), (aG, .inl (cyJ, 3, .inr (.inl sG))), (aK, .inl (cyJ, 3, .inr (.inl sK))), (aTx, .inl (cyI, 120, .inl sTx)), (aRd, .inl (cyI, 63, .inl sRd))] := by
  refine Met.ofW (cc := cX6_inWindow) (maxL := 1) (ret := (some .int)) (by decide) rfl ?_
  intro p e s m args below meth c s₁ B hml hv
  obtain ⟨rfl, hN, hsz, hP, hK, hD0⟩ := hv
  have hx := B.exec
  have hb := B.bytes
  have hr := B.returns
  have hts := atoms_spec (ws := wsX6_inWindow) B.pre
  have hown : s.vm.findClass RX6 = some m.cls := findClass_of_methodNamed B.named
  have hlocks := B.notSynchronized
  subst hsz
  have hD := hD0.self (sz := s.heap.size)
  generalize hAe : va_A [(h, .inr (6, [.ref aAl, .ref aSv, .ref aAs, .int sN, .int sTh, .ref aF, .ref aG, .ref aK, .long sS, .ref aTx, .int sTl, .int sPl, .ref aRd])), (aAl, .inl (cyJ, 76, .inr (.inl sAl))), (aSv, .inl (cyJ, 304, .inr (.inl sSv))), (aAs, .inl (cyJ, 76, .inr (.inl sAs))), (aF, .inl (cyJ, 3, .inr (.inl sF))), (aG, .inl (cyJ, 3, .inr (.inl sG))), (aK, .inl (cyJ, 3, .inr (.inl sK))), (aTx, .inl (cyI, 120, .inl sTx)), (aRd, .inl (cyI, 63, .inl sRd))] s.heap.size = A at hD ⊢
  have hA : ∀ q : Nat, s.heap.size ≤ q → A q := fun q h => by rw [← hAe]; exact Or.inr h
  have hS : va_S A s.heap s.heap [] := va_S.rf
  have hP : va_P (dC, dI) vwCl [(h, .inr (6, [.ref aAl, .ref aSv, .ref aAs, .int sN, .int sTh, .ref aF, .ref aG, .ref aK, .long sS, .ref aTx, .int sTl, .int sPl, .ref aRd])), (aAl, .inl (cyJ, 76, .inr (.inl sAl))), (aSv, .inl (cyJ, 304, .inr (.inl sSv))), (aAs, .inl (cyJ, 76, .inr (.inl sAs))), (aF, .inl (cyJ, 3, .inr (.inl sF))), (aG, .inl (cyJ, 3, .inr (.inl sG))), (aK, .inl (cyJ, 3, .inr (.inl sK))), (aTx, .inl (cyI, 120, .inl sTx)), (aRd, .inl (cyI, 63, .inl sRd))] s.heap := hP
  have hl := lv_entry ([.ref h]) (n := 1) (Nat.le_of_ble_eq_true rfl)
  rw [lg_entry_eq]
  generalize (lg_sl ([.ref h]) ++ List.replicate (1 - (lg_sl ([.ref h])).length) Slot.unset).toArray = ls at hl ⊢
  have hl : lv_has ls 1 [(0, .ref h)] := hl
  unfold F_X6_inWindow at hF
  refine lv_aload_n hx hb dX6_inWindow_0 rfl (lv_at hl 0 rfl) ?_
  refine lv_iconst (v := 0) hx hb dX6_inWindow_1 (by decide) ?_
  refine x_put (D := (dC, dI)) (ci := 6) (v := .int 0) (ty := .int) (C := RX6) (T := TX6) (N := 13) (ws' := [(h, .inr (6, [.ref aAl, .ref aSv, .ref aAs, .int sN, .int 0, .ref aF, .ref aG, .ref aK, .long sS, .ref aTx, .int sTl, .int sPl, .ref aRd])), (aAl, .inl (cyJ, 76, .inr (.inl sAl))), (aSv, .inl (cyJ, 304, .inr (.inl sSv))), (aAs, .inl (cyJ, 76, .inr (.inl sAs))), (aF, .inl (cyJ, 3, .inr (.inl sF))), (aG, .inl (cyJ, 3, .inr (.inl sG))), (aK, .inl (cyJ, 3, .inr (.inl sK))), (aTx, .inl (cyI, 120, .inl sTx)), (aRd, .inl (cyI, 63, .inl sRd))]) hx hb hts iX6_inWindow_X6 tyX6 tyX6_ok nmX6 hown hK hP hD hS 0 rfl rfl 4 (by decide) (hts _ kX6_inWindow_1) (fun _ h9 => h9) rfl (by decide +kernel) rfl rfl (Nat.le_of_ble_eq_true rfl) rfl dX6_inWindow_2 (fun H locs hP hD hS => ?_)
  refine lv_aload_n hx hb dX6_inWindow_5 rfl (lv_at hl 0 rfl) ?_
  obtain ⟨o1, ho1, hF⟩ := ob_e hF
  refine x_calli (wr := []) (ws' := [(h, .inr (6, [.ref aAl, .ref aSv, .ref aAs, .int sN, .int 0, .ref aF, .ref aG, .ref aK, .long sS, .ref aTx, .int sTl, .int sPl, .ref aRd])), (aAl, .inl (cyJ, 76, .inr (.inl sAl))), (aSv, .inl (cyJ, 304, .inr (.inl sSv))), (aAs, .inl (cyJ, 76, .inr (.inl sAs))), (aF, .inl (cyJ, 3, .inr (.inl sF))), (aG, .inl (cyJ, 3, .inr (.inl sG))), (aK, .inl (cyJ, 3, .inr (.inl sK))), (aTx, .inl (cyI, 120, .inl sTx)), (aRd, .inl (cyI, 63, .inl sRd))]) (va_runV (As := []) (rest := []) ⟨hx, hb, hml, hown, hts⟩ (c_X6_windowLong l dC dI cyI cyJ cyB cyS cyD h aAl aSv aAs aF aG aK aTx aRd H.size sN 0 sS sTl sPl sAl sSv sAs sF sG sK sTx sRd ho1) (cwV 0 hts gX6_inWindow_X6_windowLong rfl rfl rfl (by decide +kernel) ⟨Nat.le_of_ble_eq_true rfl, Nat.le_of_ble_eq_true rfl⟩) ⟨cPre_blind, va_recv hK hP (ci := 6) (q0 := 0) rfl rfl, x_pre hN hP hD hK [0, 1, 2, 3, 4, 5, 6, 7, 8] rfl rfl⟩ rfl rfl hl.1 rfl (lv_room (Nat.le_of_ble_eq_true rfl)) dX6_inWindow_6 ⟨Nat.le_of_ble_eq_true rfl, Nat.le_of_ble_eq_true rfl⟩) hP hD hS hA [0, 1, 2, 3, 4, 5, 6, 7, 8] [] [0, 1, 2, 3, 4, 5, 6, 7, 8] rfl rfl rfl (by decide) rfl rfl (fun H locs hP hD hS => ?_)
  obtain rfl := some_e hF
  exact W.iret (v := o1) hx hb hr (fun t ht hW => ⟨⟨o1, (), rfl, rfl, ⟨by rw [ht]; exact hP, va_K.moved hW.alike hK, hD⟩⟩, hS.F ht⟩) hS.2.2 dX6_inWindow_9
def F_X6_determinant (sAl : Nat → Int64) : Option (Int64 × Int32) := ob (F_X6_determinantNow sAl) (fun o1 => some (o1, 0))
theorem kX6_determinant_1 : (Cond.fieldLink RX6 54 "SelfTunerModel" "thrown" "I") ∈ wsX6_determinant := List.mem_of_getElem? (i := 1) rfl
theorem iX6_determinant_X6 : ∀ w ∈ wsX60, w ∈ wsX6_determinant := fun w h => List.mem_cons_of_mem _ (List.mem_append_right _ h)
set_option maxHeartbeats 4000000 in
set_option maxRecDepth 100000 in
theorem c_X6_determinant (l : Launch) (dC : Nat → ClassId) (dI : Nat → Nat → Nat) (cyI cyJ cyB cyS cyD : ClassId) (h : Nat) (aAl : Nat) (aSv : Nat) (aAs : Nat) (aF : Nat) (aG : Nat) (aK : Nat) (aTx : Nat) (aRd : Nat) (sz : Nat) (sN : Int32) (sTh : Int32) (sS : Int64) (sTl : Int32) (sPl : Int32) (sAl : Nat → Int64) (sSv : Nat → Int64) (sAs : Nat → Int64) (sF : Nat → Int64) (sG : Nat → Int64) (sK : Nat → Int64) (sTx : Nat → Int32) (sRd : Nat → Int32) {out : Int64 × Int32} (hF : F_X6_determinant sAl = some out) : Ml l yX6_determinant wsX6_determinant ({ frames := 2, cells := 0, slots := 0, locals := 51 } : Room) (dC, dI) [(cyI, .int), (cyJ, .long), (cyB, .byte), (cyS, .object "SelfTuner$State"), (cyD, .double)] sz [.ref h] [(h, .inr (6, [.ref aAl, .ref aSv, .ref aAs, .int sN, .int sTh, .ref aF, .ref aG, .ref aK, .long sS, .ref aTx, .int sTl, .int sPl, .ref aRd])), (aAl, .inl (cyJ, 76, .inr (.inl sAl))), (aSv, .inl (cyJ, 304, .inr (.inl sSv))), (aAs, .inl (cyJ, 76, .inr (.inl sAs))), (aF, .inl (cyJ, 3, .inr (.inl sF))), (aG, .inl (cyJ, 3, .inr (.inl sG))), (aK, .inl (cyJ, 3, .inr (.inl sK))), (aTx, .inl (cyI, 120, .inl sTx)), (aRd, .inl (cyI, 63, .inl sRd))] out.1 [(h, .inr (6, [.ref aAl, .ref aSv, .ref aAs, .int sN, .int out.2, .ref aF, .ref aG, .ref aK, .long sS, .ref aTx, .int sTl, .int sPl, .ref aRd])), (aAl, .inl (cyJ, 76, .inr (.inl sAl))), (aSv, .inl (cyJ, 304, .inr (.inl sSv))), (aAs, .inl (cyJ, 76, .inr (.inl sAs))), (aF, .inl (cyJ, 3, .inr (.inl sF))), (aG, .inl (cyJ, 3, .inr (.inl sG))), (aK, .inl (cyJ, 3, .inr (.inl sK))), (aTx, .inl (cyI, 120, .inl sTx)), (aRd, .inl (cyI, 63, .inl sRd))] := by
  refine Met.ofW (cc := cX6_determinant) (maxL := 1) (ret := (some .long)) (by decide) rfl ?_
  intro p e s m args below meth c s₁ B hml hv
  obtain ⟨rfl, hN, hsz, hP, hK, hD0⟩ := hv
  have hx := B.exec
  have hb := B.bytes
  have hr := B.returns
  have hts := atoms_spec (ws := wsX6_determinant) B.pre
  have hown : s.vm.findClass RX6 = some m.cls := findClass_of_methodNamed B.named
  have hlocks := B.notSynchronized
  subst hsz
  have hD := hD0.self (sz := s.heap.size)
  generalize hAe : va_A [(h, .inr (6, [.ref aAl, .ref aSv, .ref aAs, .int sN, .int sTh, .ref aF, .ref aG, .ref aK, .long sS, .ref aTx, .int sTl, .int sPl, .ref aRd])), (aAl, .inl (cyJ, 76, .inr (.inl sAl))), (aSv, .inl (cyJ, 304, .inr (.inl sSv))), (aAs, .inl (cyJ, 76, .inr (.inl sAs))), (aF, .inl (cyJ, 3, .inr (.inl sF))), (aG, .inl (cyJ, 3, .inr (.inl sG))), (aK, .inl (cyJ, 3, .inr (.inl sK))), (aTx, .inl (cyI, 120, .inl sTx)), (aRd, .inl (cyI, 63, .inl sRd))] s.heap.size = A at hD ⊢
  have hA : ∀ q : Nat, s.heap.size ≤ q → A q := fun q h => by rw [← hAe]; exact Or.inr h
  have hS : va_S A s.heap s.heap [] := va_S.rf
  have hP : va_P (dC, dI) vwCl [(h, .inr (6, [.ref aAl, .ref aSv, .ref aAs, .int sN, .int sTh, .ref aF, .ref aG, .ref aK, .long sS, .ref aTx, .int sTl, .int sPl, .ref aRd])), (aAl, .inl (cyJ, 76, .inr (.inl sAl))), (aSv, .inl (cyJ, 304, .inr (.inl sSv))), (aAs, .inl (cyJ, 76, .inr (.inl sAs))), (aF, .inl (cyJ, 3, .inr (.inl sF))), (aG, .inl (cyJ, 3, .inr (.inl sG))), (aK, .inl (cyJ, 3, .inr (.inl sK))), (aTx, .inl (cyI, 120, .inl sTx)), (aRd, .inl (cyI, 63, .inl sRd))] s.heap := hP
  have hl := lv_entry ([.ref h]) (n := 1) (Nat.le_of_ble_eq_true rfl)
  rw [lg_entry_eq]
  generalize (lg_sl ([.ref h]) ++ List.replicate (1 - (lg_sl ([.ref h])).length) Slot.unset).toArray = ls at hl ⊢
  have hl : lv_has ls 1 [(0, .ref h)] := hl
  unfold F_X6_determinant at hF
  refine lv_aload_n hx hb dX6_determinant_0 rfl (lv_at hl 0 rfl) ?_
  refine lv_iconst (v := 0) hx hb dX6_determinant_1 (by decide) ?_
  refine x_put (D := (dC, dI)) (ci := 6) (v := .int 0) (ty := .int) (C := RX6) (T := TX6) (N := 13) (ws' := [(h, .inr (6, [.ref aAl, .ref aSv, .ref aAs, .int sN, .int 0, .ref aF, .ref aG, .ref aK, .long sS, .ref aTx, .int sTl, .int sPl, .ref aRd])), (aAl, .inl (cyJ, 76, .inr (.inl sAl))), (aSv, .inl (cyJ, 304, .inr (.inl sSv))), (aAs, .inl (cyJ, 76, .inr (.inl sAs))), (aF, .inl (cyJ, 3, .inr (.inl sF))), (aG, .inl (cyJ, 3, .inr (.inl sG))), (aK, .inl (cyJ, 3, .inr (.inl sK))), (aTx, .inl (cyI, 120, .inl sTx)), (aRd, .inl (cyI, 63, .inl sRd))]) hx hb hts iX6_determinant_X6 tyX6 tyX6_ok nmX6 hown hK hP hD hS 0 rfl rfl 4 (by decide) (hts _ kX6_determinant_1) (fun _ h9 => h9) rfl (by decide +kernel) rfl rfl (Nat.le_of_ble_eq_true rfl) rfl dX6_determinant_2 (fun H locs hP hD hS => ?_)
  refine lv_aload_n hx hb dX6_determinant_5 rfl (lv_at hl 0 rfl) ?_
  obtain ⟨o1, ho1, hF⟩ := ob_e hF
  refine x_calll (wr := []) (ws' := [(h, .inr (6, [.ref aAl, .ref aSv, .ref aAs, .int sN, .int 0, .ref aF, .ref aG, .ref aK, .long sS, .ref aTx, .int sTl, .int sPl, .ref aRd])), (aAl, .inl (cyJ, 76, .inr (.inl sAl))), (aSv, .inl (cyJ, 304, .inr (.inl sSv))), (aAs, .inl (cyJ, 76, .inr (.inl sAs))), (aF, .inl (cyJ, 3, .inr (.inl sF))), (aG, .inl (cyJ, 3, .inr (.inl sG))), (aK, .inl (cyJ, 3, .inr (.inl sK))), (aTx, .inl (cyI, 120, .inl sTx)), (aRd, .inl (cyI, 63, .inl sRd))]) (va_runV (As := []) (rest := []) ⟨hx, hb, hml, hown, hts⟩ (c_X6_determinantNow l dC dI cyI cyJ cyB cyS cyD h aAl aSv aAs aF aG aK aTx aRd H.size sN 0 sS sTl sPl sAl sSv sAs sF sG sK sTx sRd ho1) (cwV 0 hts gX6_determinant_X6_determinantNow rfl rfl rfl (by decide +kernel) ⟨Nat.le_of_ble_eq_true rfl, Nat.le_of_ble_eq_true rfl⟩) ⟨cPre_blind, va_recv hK hP (ci := 6) (q0 := 0) rfl rfl, x_pre hN hP hD hK [0, 1, 2, 3, 4, 5, 6, 7, 8] rfl rfl⟩ rfl rfl hl.1 rfl (lv_room (Nat.le_of_ble_eq_true rfl)) dX6_determinant_6 ⟨Nat.le_of_ble_eq_true rfl, Nat.le_of_ble_eq_true rfl⟩) hP hD hS hA [0, 1, 2, 3, 4, 5, 6, 7, 8] [] [0, 1, 2, 3, 4, 5, 6, 7, 8] rfl rfl rfl (by decide) rfl rfl (fun H locs hP hD hS => ?_)
  obtain rfl := some_e hF
  exact W.lret (v := o1) hx hb hr (fun t ht hW => ⟨⟨o1, (), rfl, rfl, ⟨by rw [ht]; exact hP, va_K.moved hW.alike hK, hD⟩⟩, hS.F ht⟩) hS.2.2 dX6_determinant_9
def F_X6_exciting (sAl : Nat → Int64) : Option (Int32 × Int32) := ob (F_X6_windowLong sAl) (fun o1 => if (o1.toInt64 : Int64) = (sAl 3) then (ob (F_X6_determinantNow sAl) (fun o3 => if (o3 : Int64) < ((1000 * o1.toInt64) * o1.toInt64) then (some (0, 0)) else (some (1, 0)))) else (some (0, 0)))
theorem kX6_exciting_1 : (Cond.fieldLink RX6 54 "SelfTunerModel" "thrown" "I") ∈ wsX6_exciting := List.mem_of_getElem? (i := 1) rfl
theorem kX6_exciting_2 : (Cond.fieldLink RX6 7 "SelfTunerModel" "all" "[J") ∈ wsX6_exciting := List.mem_of_getElem? (i := 2) rfl
theorem kX6_exciting_3 : (Cond.constantLong RX6 172 (1000)) ∈ wsX6_exciting := List.mem_of_getElem? (i := 3) rfl
theorem iX6_exciting_X6 : ∀ w ∈ wsX60, w ∈ wsX6_exciting := fun w h => List.mem_cons_of_mem _ (List.mem_append_right _ h)
set_option maxHeartbeats 4000000 in
set_option maxRecDepth 100000 in
theorem c_X6_exciting (l : Launch) (dC : Nat → ClassId) (dI : Nat → Nat → Nat) (cyI cyJ cyB cyS cyD : ClassId) (h : Nat) (aAl : Nat) (aSv : Nat) (aAs : Nat) (aF : Nat) (aG : Nat) (aK : Nat) (aTx : Nat) (aRd : Nat) (sz : Nat) (sN : Int32) (sTh : Int32) (sS : Int64) (sTl : Int32) (sPl : Int32) (sAl : Nat → Int64) (sSv : Nat → Int64) (sAs : Nat → Int64) (sF : Nat → Int64) (sG : Nat → Int64) (sK : Nat → Int64) (sTx : Nat → Int32) (sRd : Nat → Int32) {out : Int32 × Int32} (hF : F_X6_exciting sAl = some out) : Mi l yX6_exciting wsX6_exciting ({ frames := 2, cells := 0, slots := 0, locals := 51 } : Room) (dC, dI) [(cyI, .int), (cyJ, .long), (cyB, .byte), (cyS, .object "SelfTuner$State"), (cyD, .double)] sz [.ref h] [(h, .inr (6, [.ref aAl, .ref aSv, .ref aAs, .int sN, .int sTh, .ref aF, .ref aG, .ref aK, .long sS, .ref aTx, .int sTl, .int sPl, .ref aRd])), (aAl, .inl (cyJ, 76, .inr (.inl sAl))), (aSv, .inl (cyJ, 304, .inr (.inl sSv))), (aAs, .inl (cyJ, 76, .inr (.inl sAs))), (aF, .inl (cyJ, 3, .inr (.inl sF))), (aG, .inl (cyJ, 3, .inr (.inl sG))), (aK, .inl (cyJ, 3, .inr (.inl sK))), (aTx, .inl (cyI, 120, .inl sTx)), (aRd, .inl (cyI, 63, .inl sRd))] out.1 [(h, .inr (6, [.ref aAl, .ref aSv, .ref aAs, .int sN, .int out.2, .ref aF, .ref aG, .ref aK, .long sS, .ref aTx, .int sTl, .int sPl, .ref aRd])), (aAl, .inl (cyJ, 76, .inr (.inl sAl))), (aSv, .inl (cyJ, 304, .inr (.inl sSv))), (aAs, .inl (cyJ, 76, .inr (.inl sAs))), (aF, .inl (cyJ, 3, .inr (.inl sF))), (aG, .inl (cyJ, 3, .inr (.inl sG))), (aK, .inl (cyJ, 3, .inr (.inl sK))), (aTx, .inl (cyI, 120, .inl sTx)), (aRd, .inl (cyI, 63, .inl sRd))] := by
  refine Met.ofW (cc := cX6_exciting) (maxL := 3) (ret := (some .boolean)) (by decide) rfl ?_
  intro p e s m args below meth c s₁ B hml hv
  obtain ⟨rfl, hN, hsz, hP, hK, hD0⟩ := hv
  have hx := B.exec
  have hb := B.bytes
  have hr := B.returns
  have hts := atoms_spec (ws := wsX6_exciting) B.pre
  have hown : s.vm.findClass RX6 = some m.cls := findClass_of_methodNamed B.named
  have hlocks := B.notSynchronized
  subst hsz
  have hD := hD0.self (sz := s.heap.size)
  generalize hAe : va_A [(h, .inr (6, [.ref aAl, .ref aSv, .ref aAs, .int sN, .int sTh, .ref aF, .ref aG, .ref aK, .long sS, .ref aTx, .int sTl, .int sPl, .ref aRd])), (aAl, .inl (cyJ, 76, .inr (.inl sAl))), (aSv, .inl (cyJ, 304, .inr (.inl sSv))), (aAs, .inl (cyJ, 76, .inr (.inl sAs))), (aF, .inl (cyJ, 3, .inr (.inl sF))), (aG, .inl (cyJ, 3, .inr (.inl sG))), (aK, .inl (cyJ, 3, .inr (.inl sK))), (aTx, .inl (cyI, 120, .inl sTx)), (aRd, .inl (cyI, 63, .inl sRd))] s.heap.size = A at hD ⊢
  have hA : ∀ q : Nat, s.heap.size ≤ q → A q := fun q h => by rw [← hAe]; exact Or.inr h
  have hS : va_S A s.heap s.heap [] := va_S.rf
  have hP : va_P (dC, dI) vwCl [(h, .inr (6, [.ref aAl, .ref aSv, .ref aAs, .int sN, .int sTh, .ref aF, .ref aG, .ref aK, .long sS, .ref aTx, .int sTl, .int sPl, .ref aRd])), (aAl, .inl (cyJ, 76, .inr (.inl sAl))), (aSv, .inl (cyJ, 304, .inr (.inl sSv))), (aAs, .inl (cyJ, 76, .inr (.inl sAs))), (aF, .inl (cyJ, 3, .inr (.inl sF))), (aG, .inl (cyJ, 3, .inr (.inl sG))), (aK, .inl (cyJ, 3, .inr (.inl sK))), (aTx, .inl (cyI, 120, .inl sTx)), (aRd, .inl (cyI, 63, .inl sRd))] s.heap := hP
  have hl := lv_entry ([.ref h]) (n := 3) (Nat.le_of_ble_eq_true rfl)
  rw [lg_entry_eq]
  generalize (lg_sl ([.ref h]) ++ List.replicate (3 - (lg_sl ([.ref h])).length) Slot.unset).toArray = ls at hl ⊢
  have hl : lv_has ls 3 [(0, .ref h)] := hl
  unfold F_X6_exciting at hF
  refine lv_aload_n hx hb dX6_exciting_0 rfl (lv_at hl 0 rfl) ?_
  refine lv_iconst (v := 0) hx hb dX6_exciting_1 (by decide) ?_
  refine x_put (D := (dC, dI)) (ci := 6) (v := .int 0) (ty := .int) (C := RX6) (T := TX6) (N := 13) (ws' := [(h, .inr (6, [.ref aAl, .ref aSv, .ref aAs, .int sN, .int 0, .ref aF, .ref aG, .ref aK, .long sS, .ref aTx, .int sTl, .int sPl, .ref aRd])), (aAl, .inl (cyJ, 76, .inr (.inl sAl))), (aSv, .inl (cyJ, 304, .inr (.inl sSv))), (aAs, .inl (cyJ, 76, .inr (.inl sAs))), (aF, .inl (cyJ, 3, .inr (.inl sF))), (aG, .inl (cyJ, 3, .inr (.inl sG))), (aK, .inl (cyJ, 3, .inr (.inl sK))), (aTx, .inl (cyI, 120, .inl sTx)), (aRd, .inl (cyI, 63, .inl sRd))]) hx hb hts iX6_exciting_X6 tyX6 tyX6_ok nmX6 hown hK hP hD hS 0 rfl rfl 4 (by decide) (hts _ kX6_exciting_1) (fun _ h9 => h9) rfl (by decide +kernel) rfl rfl (Nat.le_of_ble_eq_true rfl) rfl dX6_exciting_2 (fun H locs hP hD hS => ?_)
  refine lv_aload_n hx hb dX6_exciting_5 rfl (lv_at hl 0 rfl) ?_
  obtain ⟨o1, ho1, hF⟩ := ob_e hF
  refine x_calli (wr := []) (ws' := [(h, .inr (6, [.ref aAl, .ref aSv, .ref aAs, .int sN, .int 0, .ref aF, .ref aG, .ref aK, .long sS, .ref aTx, .int sTl, .int sPl, .ref aRd])), (aAl, .inl (cyJ, 76, .inr (.inl sAl))), (aSv, .inl (cyJ, 304, .inr (.inl sSv))), (aAs, .inl (cyJ, 76, .inr (.inl sAs))), (aF, .inl (cyJ, 3, .inr (.inl sF))), (aG, .inl (cyJ, 3, .inr (.inl sG))), (aK, .inl (cyJ, 3, .inr (.inl sK))), (aTx, .inl (cyI, 120, .inl sTx)), (aRd, .inl (cyI, 63, .inl sRd))]) (va_runV (As := []) (rest := []) ⟨hx, hb, hml, hown, hts⟩ (c_X6_windowLong l dC dI cyI cyJ cyB cyS cyD h aAl aSv aAs aF aG aK aTx aRd H.size sN 0 sS sTl sPl sAl sSv sAs sF sG sK sTx sRd ho1) (cwV 0 hts gX6_exciting_X6_windowLong rfl rfl rfl (by decide +kernel) ⟨Nat.le_of_ble_eq_true rfl, Nat.le_of_ble_eq_true rfl⟩) ⟨cPre_blind, va_recv hK hP (ci := 6) (q0 := 0) rfl rfl, x_pre hN hP hD hK [0, 1, 2, 3, 4, 5, 6, 7, 8] rfl rfl⟩ rfl rfl hl.1 rfl (lv_room (Nat.le_of_ble_eq_true rfl)) dX6_exciting_6 ⟨Nat.le_of_ble_eq_true rfl, Nat.le_of_ble_eq_true rfl⟩) hP hD hS hA [0, 1, 2, 3, 4, 5, 6, 7, 8] [] [0, 1, 2, 3, 4, 5, 6, 7, 8] rfl rfl rfl (by decide) rfl rfl (fun H locs hP hD hS => ?_)
  refine lv_i2l (v := o1.toInt64) hx hb dX6_exciting_9 rfl ?_
  refine lv_lstore_n (lv' := [(1, .long o1.toInt64), (0, .ref h)]) hx hb dX6_exciting_10 rfl hl (by decide) rfl (fun ls hl => ?_)
  refine lv_lload_n hx hb dX6_exciting_11 rfl (lv_at hl 0 rfl) ?_
  refine lv_aload_n hx hb dX6_exciting_12 rfl (lv_at hl 1 rfl) ?_
  refine va_get (D := (dC, dI)) (ci := 6) (v := .ref aAl) (C := RX6) (T := TX6) (N := 13) hx hb hts iX6_exciting_X6 hown hK hP 0 rfl rfl 0 (by decide) (hts _ kX6_exciting_2) (fun _ h9 => h9) rfl dX6_exciting_13 ?_
  refine lv_iconst (v := 3) hx hb dX6_exciting_16 (by decide) ?_
  refine x_lald hx hb hK hP 1 1 rfl rfl (show (3 : Int32).toNatClampNeg = 3 by decide) (inbK (k := 3) (by decide) rfl) dX6_exciting_17 ?_
  refine W.lcmp hx hb dX6_exciting_18 ?_
  refine x_il_ne (tgt := 41) hx hb dX6_exciting_19 (by decide) (fun c2 => ?_) (fun c2 => ?_)
  · have hF := ite_f hF c2
    refine lv_iconst (v := 0) hx hb dX6_exciting_41 (by decide) ?_
    obtain rfl := some_e hF
    exact W.zret (v := 0) hx hb hr rfl (fun t ht hW => ⟨⟨0, (), rfl, rfl, ⟨by rw [ht]; exact hP, va_K.moved hW.alike hK, hD⟩⟩, hS.F ht⟩) hS.2.2 dX6_exciting_42
  · have hF := ite_t hF c2
    refine lv_aload_n hx hb dX6_exciting_22 rfl (lv_at hl 1 rfl) ?_
    obtain ⟨o3, ho3, hF⟩ := ob_e hF
    refine x_calll (wr := []) (ws' := [(h, .inr (6, [.ref aAl, .ref aSv, .ref aAs, .int sN, .int 0, .ref aF, .ref aG, .ref aK, .long sS, .ref aTx, .int sTl, .int sPl, .ref aRd])), (aAl, .inl (cyJ, 76, .inr (.inl sAl))), (aSv, .inl (cyJ, 304, .inr (.inl sSv))), (aAs, .inl (cyJ, 76, .inr (.inl sAs))), (aF, .inl (cyJ, 3, .inr (.inl sF))), (aG, .inl (cyJ, 3, .inr (.inl sG))), (aK, .inl (cyJ, 3, .inr (.inl sK))), (aTx, .inl (cyI, 120, .inl sTx)), (aRd, .inl (cyI, 63, .inl sRd))]) (va_runV (As := []) (rest := []) ⟨hx, hb, hml, hown, hts⟩ (c_X6_determinantNow l dC dI cyI cyJ cyB cyS cyD h aAl aSv aAs aF aG aK aTx aRd H.size sN 0 sS sTl sPl sAl sSv sAs sF sG sK sTx sRd ho3) (cwV 0 hts gX6_exciting_X6_determinantNow rfl rfl rfl (by decide +kernel) ⟨Nat.le_of_ble_eq_true rfl, Nat.le_of_ble_eq_true rfl⟩) ⟨cPre_blind, va_recv hK hP (ci := 6) (q0 := 0) rfl rfl, x_pre hN hP hD hK [0, 1, 2, 3, 4, 5, 6, 7, 8] rfl rfl⟩ rfl rfl hl.1 rfl (lv_room (Nat.le_of_ble_eq_true rfl)) dX6_exciting_23 ⟨Nat.le_of_ble_eq_true rfl, Nat.le_of_ble_eq_true rfl⟩) hP hD hS hA [0, 1, 2, 3, 4, 5, 6, 7, 8] [] [0, 1, 2, 3, 4, 5, 6, 7, 8] rfl rfl rfl (by decide) rfl rfl (fun H locs hP hD hS => ?_)
    refine lv_ldc2 (v := 1000) hx hb hown (hts _ kX6_exciting_3) dX6_exciting_26 ?_
    refine lv_lload_n hx hb dX6_exciting_29 rfl (lv_at hl 0 rfl) ?_
    refine lv_lmul hx hb dX6_exciting_30 ?_
    refine lv_lload_n hx hb dX6_exciting_31 rfl (lv_at hl 0 rfl) ?_
    refine lv_lmul hx hb dX6_exciting_32 ?_
    refine W.lcmp hx hb dX6_exciting_33 ?_
    refine x_il_lt (tgt := 41) hx hb dX6_exciting_34 (by decide) (fun c4 => ?_) (fun c4 => ?_)
    · have hF := ite_t hF c4
      refine lv_iconst (v := 0) hx hb dX6_exciting_41 (by decide) ?_
      obtain rfl := some_e hF
      exact W.zret (v := 0) hx hb hr rfl (fun t ht hW => ⟨⟨0, (), rfl, rfl, ⟨by rw [ht]; exact hP, va_K.moved hW.alike hK, hD⟩⟩, hS.F ht⟩) hS.2.2 dX6_exciting_42
    · have hF := ite_f hF c4
      refine lv_iconst (v := 1) hx hb dX6_exciting_37 (by decide) ?_
      refine lv_goto (tgt := 42) hx hb dX6_exciting_38 (by decide) ?_
      obtain rfl := some_e hF
      exact W.zret (v := 1) hx hb hr rfl (fun t ht hW => ⟨⟨1, (), rfl, rfl, ⟨by rw [ht]; exact hP, va_K.moved hW.alike hK, hD⟩⟩, hS.F ht⟩) hS.2.2 dX6_exciting_42
def F_X6_controls (sAl : Nat → Int64) (w1 : Int64) (w2 : Int64) : Option (Int64) := lt_ (α := Int64) (sAl 14) (fun v1 => ob (F_X6_in v1 (1 - (sAl 6)) ((sAl 6) - 1)) (fun o2 => rg (α := Int64) (fun K8 => if (o2 : Int32) = 0 then (K8 v1) else (rg (α := Int64) (fun K6 => if (v1 : Int64) < 0 then (K6 (-(sAl 6))) else (K6 (sAl 6))) (fun x5 => K8 x5))) (fun x7 => lt_ (α := Int64) (((65536 * w1) - ((sAl 13) * w2)) - (sAl 15)) (fun v9 => rg (α := Int64) (fun K14 => if (x7 : Int64) < 0 then (ob (F_X6_floor (-v9) (-x7)) (fun o11 => K14 o11)) else (ob (F_X6_floor v9 x7) (fun o12 => K14 o12))) (fun x13 => rg (α := Int64) (fun K17 => if (((sAl 25) - (sAl 25) / 2 * 2) : Int64) = 0 then (K17 (sAl 5)) else (K17 (-(sAl 5)))) (fun x16 => lt_ (α := Int64) (x13 + x16) (fun v18 => ob (F_X6_within v18 (-(sAl 4)) (sAl 4)) (fun o19 => some o19))))))))
theorem kX6_controls_1 : (Cond.fieldLink RX6 7 "SelfTunerModel" "all" "[J") ∈ wsX6_controls := List.mem_of_getElem? (i := 1) rfl
theorem kX6_controls_2 : (Cond.constantLong RX6 71 (65536)) ∈ wsX6_controls := List.mem_of_getElem? (i := 2) rfl
theorem kX6_controls_3 : (Cond.constantLong RX6 37 (2)) ∈ wsX6_controls := List.mem_of_getElem? (i := 3) rfl
theorem iX6_controls_X6 : ∀ w ∈ wsX60, w ∈ wsX6_controls := fun w h => List.mem_cons_of_mem _ (List.mem_append_right _ h)
set_option maxHeartbeats 4000000 in
set_option maxRecDepth 100000 in
theorem c_X6_controls (l : Launch) (dC : Nat → ClassId) (dI : Nat → Nat → Nat) (cyI cyJ cyB cyS cyD : ClassId) (h : Nat) (aAl : Nat) (aSv : Nat) (aAs : Nat) (aF : Nat) (aG : Nat) (aK : Nat) (aTx : Nat) (aRd : Nat) (sz : Nat) (sN : Int32) (sTh : Int32) (sS : Int64) (sTl : Int32) (sPl : Int32) (sAl : Nat → Int64) (sSv : Nat → Int64) (sAs : Nat → Int64) (sF : Nat → Int64) (sG : Nat → Int64) (sK : Nat → Int64) (sTx : Nat → Int32) (sRd : Nat → Int32) (w1 : Int64) (w2 : Int64) {out : Int64} (hF : F_X6_controls sAl w1 w2 = some out) : Ml l yX6_controls wsX6_controls ({ frames := 1, cells := 0, slots := 0, locals := 25 } : Room) (dC, dI) [(cyI, .int), (cyJ, .long), (cyB, .byte), (cyS, .object "SelfTuner$State"), (cyD, .double)] sz [.ref h, .long w1, .long w2] [(h, .inr (6, [.ref aAl, .ref aSv, .ref aAs, .int sN, .int sTh, .ref aF, .ref aG, .ref aK, .long sS, .ref aTx, .int sTl, .int sPl, .ref aRd])), (aAl, .inl (cyJ, 76, .inr (.inl sAl))), (aSv, .inl (cyJ, 304, .inr (.inl sSv))), (aAs, .inl (cyJ, 76, .inr (.inl sAs))), (aF, .inl (cyJ, 3, .inr (.inl sF))), (aG, .inl (cyJ, 3, .inr (.inl sG))), (aK, .inl (cyJ, 3, .inr (.inl sK))), (aTx, .inl (cyI, 120, .inl sTx)), (aRd, .inl (cyI, 63, .inl sRd))] out [(h, .inr (6, [.ref aAl, .ref aSv, .ref aAs, .int sN, .int sTh, .ref aF, .ref aG, .ref aK, .long sS, .ref aTx, .int sTl, .int sPl, .ref aRd])), (aAl, .inl (cyJ, 76, .inr (.inl sAl))), (aSv, .inl (cyJ, 304, .inr (.inl sSv))), (aAs, .inl (cyJ, 76, .inr (.inl sAs))), (aF, .inl (cyJ, 3, .inr (.inl sF))), (aG, .inl (cyJ, 3, .inr (.inl sG))), (aK, .inl (cyJ, 3, .inr (.inl sK))), (aTx, .inl (cyI, 120, .inl sTx)), (aRd, .inl (cyI, 63, .inl sRd))] := by
  refine Met.ofW (cc := cX6_controls) (maxL := 11) (ret := (some .long)) (by decide) rfl ?_
  intro p e s m args below meth c s₁ B hml hv
  obtain ⟨rfl, hN, hsz, hP, hK, hD0⟩ := hv
  have hx := B.exec
  have hb := B.bytes
  have hr := B.returns
  have hts := atoms_spec (ws := wsX6_controls) B.pre
  have hown : s.vm.findClass RX6 = some m.cls := findClass_of_methodNamed B.named
  have hlocks := B.notSynchronized
  subst hsz
  have hD := hD0.self (sz := s.heap.size)
  generalize hAe : va_A [(h, .inr (6, [.ref aAl, .ref aSv, .ref aAs, .int sN, .int sTh, .ref aF, .ref aG, .ref aK, .long sS, .ref aTx, .int sTl, .int sPl, .ref aRd])), (aAl, .inl (cyJ, 76, .inr (.inl sAl))), (aSv, .inl (cyJ, 304, .inr (.inl sSv))), (aAs, .inl (cyJ, 76, .inr (.inl sAs))), (aF, .inl (cyJ, 3, .inr (.inl sF))), (aG, .inl (cyJ, 3, .inr (.inl sG))), (aK, .inl (cyJ, 3, .inr (.inl sK))), (aTx, .inl (cyI, 120, .inl sTx)), (aRd, .inl (cyI, 63, .inl sRd))] s.heap.size = A at hD ⊢
  have hA : ∀ q : Nat, s.heap.size ≤ q → A q := fun q h => by rw [← hAe]; exact Or.inr h
  have hS : va_S A s.heap s.heap [] := va_S.rf
  have hP : va_P (dC, dI) vwCl [(h, .inr (6, [.ref aAl, .ref aSv, .ref aAs, .int sN, .int sTh, .ref aF, .ref aG, .ref aK, .long sS, .ref aTx, .int sTl, .int sPl, .ref aRd])), (aAl, .inl (cyJ, 76, .inr (.inl sAl))), (aSv, .inl (cyJ, 304, .inr (.inl sSv))), (aAs, .inl (cyJ, 76, .inr (.inl sAs))), (aF, .inl (cyJ, 3, .inr (.inl sF))), (aG, .inl (cyJ, 3, .inr (.inl sG))), (aK, .inl (cyJ, 3, .inr (.inl sK))), (aTx, .inl (cyI, 120, .inl sTx)), (aRd, .inl (cyI, 63, .inl sRd))] s.heap := hP
  have hl := lv_entry ([.ref h, .long w1, .long w2]) (n := 11) (Nat.le_of_ble_eq_true rfl)
  rw [lg_entry_eq]
  generalize (lg_sl ([.ref h, .long w1, .long w2]) ++ List.replicate (11 - (lg_sl ([.ref h, .long w1, .long w2])).length) Slot.unset).toArray = ls at hl ⊢
  have hl : lv_has ls 11 [(0, .ref h), (1, .long w1), (3, .long w2)] := hl
  unfold F_X6_controls at hF
  refine lv_aload_n hx hb dX6_controls_0 rfl (lv_at hl 0 rfl) ?_
  refine va_get (D := (dC, dI)) (ci := 6) (v := .ref aAl) (C := RX6) (T := TX6) (N := 13) hx hb hts iX6_controls_X6 hown hK hP 0 rfl rfl 0 (by decide) (hts _ kX6_controls_1) (fun _ h9 => h9) rfl dX6_controls_1 ?_
  refine lv_bipush (v := 14) hx hb dX6_controls_4 (by decide) ?_
  refine x_lald hx hb hK hP 1 1 rfl rfl (show (14 : Int32).toNatClampNeg = 14 by decide) (inbK (k := 14) (by decide) rfl) dX6_controls_6 ?_
  obtain ⟨v1, hv1, hF⟩ := lt_e hF
  refine x_topl hv1 ?_
  refine lv_lstore (lv' := [(5, .long v1), (0, .ref h), (1, .long w1), (3, .long w2)]) hx hb dX6_controls_7 hl (by decide) rfl (fun ls hl => ?_)
  refine lv_lload hx hb dX6_controls_9 (lv_at hl 0 rfl) ?_
  refine lv_lconst (v := 1) hx hb dX6_controls_11 (by decide) ?_
  refine lv_aload_n hx hb dX6_controls_12 rfl (lv_at hl 1 rfl) ?_
  refine va_get (D := (dC, dI)) (ci := 6) (v := .ref aAl) (C := RX6) (T := TX6) (N := 13) hx hb hts iX6_controls_X6 hown hK hP 0 rfl rfl 0 (by decide) (hts _ kX6_controls_1) (fun _ h9 => h9) rfl dX6_controls_13 ?_
  refine lv_bipush (v := 6) hx hb dX6_controls_16 (by decide) ?_
  refine x_lald hx hb hK hP 1 1 rfl rfl (show (6 : Int32).toNatClampNeg = 6 by decide) (inbK (k := 6) (by decide) rfl) dX6_controls_18 ?_
  refine lv_lsub hx hb dX6_controls_19 ?_
  refine lv_aload_n hx hb dX6_controls_20 rfl (lv_at hl 1 rfl) ?_
  refine va_get (D := (dC, dI)) (ci := 6) (v := .ref aAl) (C := RX6) (T := TX6) (N := 13) hx hb hts iX6_controls_X6 hown hK hP 0 rfl rfl 0 (by decide) (hts _ kX6_controls_1) (fun _ h9 => h9) rfl dX6_controls_21 ?_
  refine lv_bipush (v := 6) hx hb dX6_controls_24 (by decide) ?_
  refine x_lald hx hb hK hP 1 1 rfl rfl (show (6 : Int32).toNatClampNeg = 6 by decide) (inbK (k := 6) (by decide) rfl) dX6_controls_26 ?_
  refine lv_lconst (v := 1) hx hb dX6_controls_27 (by decide) ?_
  refine lv_lsub hx hb dX6_controls_28 ?_
  obtain ⟨o2, ho2, hF⟩ := ob_e hF
  refine x_callzi (va_runS (As := [.long v1, .long (1 - (sAl 6)), .long ((sAl 6) - 1)]) (rest := []) ⟨hx, hb, hml, hown, hts⟩ (c_X6_in l v1 (1 - (sAl 6)) ((sAl 6) - 1) ho2) (va_cwS 3 hts gX6_controls_X6_in rfl rfl rfl (by decide +kernel) ⟨Nat.le_of_ble_eq_true rfl, Nat.le_of_ble_eq_true rfl⟩) ⟨true_blind, fun _ _ _ => ⟨rfl, trivial⟩⟩ rfl rfl hl.1 rfl (lv_room (Nat.le_of_ble_eq_true rfl)) dX6_controls_29 ⟨Nat.le_of_ble_eq_true rfl, Nat.le_of_ble_eq_true rfl⟩) ?_
  obtain ⟨K8, hK8, hF⟩ := rg_e hF
  have Jx7 : ∀ (x7 : Int64) (H : Heap) (locs : List Loc) (ls : Array Slot), K8 x7 = some out → va_P (dC, dI) vwCl [(h, .inr (6, [.ref aAl, .ref aSv, .ref aAs, .int sN, .int sTh, .ref aF, .ref aG, .ref aK, .long sS, .ref aTx, .int sTl, .int sPl, .ref aRd])), (aAl, .inl (cyJ, 76, .inr (.inl sAl))), (aSv, .inl (cyJ, 304, .inr (.inl sSv))), (aAs, .inl (cyJ, 76, .inr (.inl sAs))), (aF, .inl (cyJ, 3, .inr (.inl sF))), (aG, .inl (cyJ, 3, .inr (.inl sG))), (aK, .inl (cyJ, 3, .inr (.inl sK))), (aTx, .inl (cyI, 120, .inl sTx)), (aRd, .inl (cyI, 63, .inl sRd))] H → va_D A [(h, .inr (6, [.ref aAl, .ref aSv, .ref aAs, .int sN, .int sTh, .ref aF, .ref aG, .ref aK, .long sS, .ref aTx, .int sTl, .int sPl, .ref aRd])), (aAl, .inl (cyJ, 76, .inr (.inl sAl))), (aSv, .inl (cyJ, 304, .inr (.inl sSv))), (aAs, .inl (cyJ, 76, .inr (.inl sAs))), (aF, .inl (cyJ, 3, .inr (.inl sF))), (aG, .inl (cyJ, 3, .inr (.inl sG))), (aK, .inl (cyJ, 3, .inr (.inl sK))), (aTx, .inl (cyI, 120, .inl sTx)), (aRd, .inl (cyI, 63, .inl sRd))] → va_S A s.heap H locs → lv_has ls 11 [(0, .ref h), (1, .long w1), (3, .long w2), (5, .long x7)] → W p l e (headSpec wsX6_controls ({ frames := 1, cells := 0, slots := 0, locals := 25 } : Room)).room s m ([.ref h, .long w1, .long w2] : List Value).toArray below meth c H locs 0 0 (MQ below (va_Ql (fun (r' : Int64) (_ : Unit) => r' = out) (cPost (dC, dI) [(cyI, .int), (cyJ, .long), (cyB, .byte), (cyS, .object "SelfTuner$State"), (cyD, .double)] [(h, .inr (6, [.ref aAl, .ref aSv, .ref aAs, .int sN, .int sTh, .ref aF, .ref aG, .ref aK, .long sS, .ref aTx, .int sTl, .int sPl, .ref aRd])), (aAl, .inl (cyJ, 76, .inr (.inl sAl))), (aSv, .inl (cyJ, 304, .inr (.inl sSv))), (aAs, .inl (cyJ, 76, .inr (.inl sAs))), (aF, .inl (cyJ, 3, .inr (.inl sF))), (aG, .inl (cyJ, 3, .inr (.inl sG))), (aK, .inl (cyJ, 3, .inr (.inl sK))), (aTx, .inl (cyI, 120, .inl sTx)), (aRd, .inl (cyI, 63, .inl sRd))] A) A) ([.ref h, .long w1, .long w2] : List Value).toArray s 0 0 A) (F0 m 62 ls []) := by
    intro x7 H locs ls hF hP hD hS hl
    rw [hK8] at hF
    refine lv_ldc2 (v := 65536) hx hb hown (hts _ kX6_controls_2) dX6_controls_62 ?_
    refine lv_lload_n hx hb dX6_controls_65 rfl (lv_at hl 1 rfl) ?_
    refine lv_lmul hx hb dX6_controls_66 ?_
    refine lv_aload_n hx hb dX6_controls_67 rfl (lv_at hl 0 rfl) ?_
    refine va_get (D := (dC, dI)) (ci := 6) (v := .ref aAl) (C := RX6) (T := TX6) (N := 13) hx hb hts iX6_controls_X6 hown hK hP 0 rfl rfl 0 (by decide) (hts _ kX6_controls_1) (fun _ h9 => h9) rfl dX6_controls_68 ?_
    refine lv_bipush (v := 13) hx hb dX6_controls_71 (by decide) ?_
    refine x_lald hx hb hK hP 1 1 rfl rfl (show (13 : Int32).toNatClampNeg = 13 by decide) (inbK (k := 13) (by decide) rfl) dX6_controls_73 ?_
    refine lv_lload_n hx hb dX6_controls_74 rfl (lv_at hl 2 rfl) ?_
    refine lv_lmul hx hb dX6_controls_75 ?_
    refine lv_lsub hx hb dX6_controls_76 ?_
    refine lv_aload_n hx hb dX6_controls_77 rfl (lv_at hl 0 rfl) ?_
    refine va_get (D := (dC, dI)) (ci := 6) (v := .ref aAl) (C := RX6) (T := TX6) (N := 13) hx hb hts iX6_controls_X6 hown hK hP 0 rfl rfl 0 (by decide) (hts _ kX6_controls_1) (fun _ h9 => h9) rfl dX6_controls_78 ?_
    refine lv_bipush (v := 15) hx hb dX6_controls_81 (by decide) ?_
    refine x_lald hx hb hK hP 1 1 rfl rfl (show (15 : Int32).toNatClampNeg = 15 by decide) (inbK (k := 15) (by decide) rfl) dX6_controls_83 ?_
    refine lv_lsub hx hb dX6_controls_84 ?_
    obtain ⟨v9, hv9, hF⟩ := lt_e hF
    refine x_topl hv9 ?_
    refine lv_lstore (lv' := [(7, .long v9), (0, .ref h), (1, .long w1), (3, .long w2), (5, .long x7)]) hx hb dX6_controls_85 hl (by decide) rfl (fun ls hl => ?_)
    refine lv_lload hx hb dX6_controls_87 (lv_at hl 4 rfl) ?_
    refine lv_lconst (v := 0) hx hb dX6_controls_89 (by decide) ?_
    refine W.lcmp hx hb dX6_controls_90 ?_
    obtain ⟨K14, hK14, hF⟩ := rg_e hF
    have Jx13 : ∀ (x13 : Int64) (H : Heap) (locs : List Loc) (ls : Array Slot), K14 x13 = some out → va_P (dC, dI) vwCl [(h, .inr (6, [.ref aAl, .ref aSv, .ref aAs, .int sN, .int sTh, .ref aF, .ref aG, .ref aK, .long sS, .ref aTx, .int sTl, .int sPl, .ref aRd])), (aAl, .inl (cyJ, 76, .inr (.inl sAl))), (aSv, .inl (cyJ, 304, .inr (.inl sSv))), (aAs, .inl (cyJ, 76, .inr (.inl sAs))), (aF, .inl (cyJ, 3, .inr (.inl sF))), (aG, .inl (cyJ, 3, .inr (.inl sG))), (aK, .inl (cyJ, 3, .inr (.inl sK))), (aTx, .inl (cyI, 120, .inl sTx)), (aRd, .inl (cyI, 63, .inl sRd))] H → va_D A [(h, .inr (6, [.ref aAl, .ref aSv, .ref aAs, .int sN, .int sTh, .ref aF, .ref aG, .ref aK, .long sS, .ref aTx, .int sTl, .int sPl, .ref aRd])), (aAl, .inl (cyJ, 76, .inr (.inl sAl))), (aSv, .inl (cyJ, 304, .inr (.inl sSv))), (aAs, .inl (cyJ, 76, .inr (.inl sAs))), (aF, .inl (cyJ, 3, .inr (.inl sF))), (aG, .inl (cyJ, 3, .inr (.inl sG))), (aK, .inl (cyJ, 3, .inr (.inl sK))), (aTx, .inl (cyI, 120, .inl sTx)), (aRd, .inl (cyI, 63, .inl sRd))] → va_S A s.heap H locs → lv_has ls 11 [(0, .ref h)] → W p l e (headSpec wsX6_controls ({ frames := 1, cells := 0, slots := 0, locals := 25 } : Room)).room s m ([.ref h, .long w1, .long w2] : List Value).toArray below meth c H locs 0 0 (MQ below (va_Ql (fun (r' : Int64) (_ : Unit) => r' = out) (cPost (dC, dI) [(cyI, .int), (cyJ, .long), (cyB, .byte), (cyS, .object "SelfTuner$State"), (cyD, .double)] [(h, .inr (6, [.ref aAl, .ref aSv, .ref aAs, .int sN, .int sTh, .ref aF, .ref aG, .ref aK, .long sS, .ref aTx, .int sTl, .int sPl, .ref aRd])), (aAl, .inl (cyJ, 76, .inr (.inl sAl))), (aSv, .inl (cyJ, 304, .inr (.inl sSv))), (aAs, .inl (cyJ, 76, .inr (.inl sAs))), (aF, .inl (cyJ, 3, .inr (.inl sF))), (aG, .inl (cyJ, 3, .inr (.inl sG))), (aK, .inl (cyJ, 3, .inr (.inl sK))), (aTx, .inl (cyI, 120, .inl sTx)), (aRd, .inl (cyI, 63, .inl sRd))] A) A) ([.ref h, .long w1, .long w2] : List Value).toArray s 0 0 A) (F0 m 113 ls [.long x13]) := by
      intro x13 H locs ls hF hP hD hS hl
      rw [hK14] at hF
      refine lv_lstore (lv' := [(9, .long x13), (0, .ref h)]) hx hb dX6_controls_113 hl (by decide) rfl (fun ls hl => ?_)
      refine lv_lload hx hb dX6_controls_115 (lv_at hl 0 rfl) ?_
      refine lv_aload_n hx hb dX6_controls_117 rfl (lv_at hl 1 rfl) ?_
      refine va_get (D := (dC, dI)) (ci := 6) (v := .ref aAl) (C := RX6) (T := TX6) (N := 13) hx hb hts iX6_controls_X6 hown hK hP 0 rfl rfl 0 (by decide) (hts _ kX6_controls_1) (fun _ h9 => h9) rfl dX6_controls_118 ?_
      refine lv_bipush (v := 25) hx hb dX6_controls_121 (by decide) ?_
      refine x_lald hx hb hK hP 1 1 rfl rfl (show (25 : Int32).toNatClampNeg = 25 by decide) (inbK (k := 25) (by decide) rfl) dX6_controls_123 ?_
      refine lv_ldc2 (v := 2) hx hb hown (hts _ kX6_controls_3) dX6_controls_124 ?_
      refine lv_lrem hx hb dX6_controls_127 (by decide) ?_
      refine lv_lconst (v := 0) hx hb dX6_controls_128 (by decide) ?_
      refine W.lcmp hx hb dX6_controls_129 ?_
      obtain ⟨K17, hK17, hF⟩ := rg_e hF
      have Jx16 : ∀ (x16 : Int64) (H : Heap) (locs : List Loc) (ls : Array Slot), K17 x16 = some out → va_P (dC, dI) vwCl [(h, .inr (6, [.ref aAl, .ref aSv, .ref aAs, .int sN, .int sTh, .ref aF, .ref aG, .ref aK, .long sS, .ref aTx, .int sTl, .int sPl, .ref aRd])), (aAl, .inl (cyJ, 76, .inr (.inl sAl))), (aSv, .inl (cyJ, 304, .inr (.inl sSv))), (aAs, .inl (cyJ, 76, .inr (.inl sAs))), (aF, .inl (cyJ, 3, .inr (.inl sF))), (aG, .inl (cyJ, 3, .inr (.inl sG))), (aK, .inl (cyJ, 3, .inr (.inl sK))), (aTx, .inl (cyI, 120, .inl sTx)), (aRd, .inl (cyI, 63, .inl sRd))] H → va_D A [(h, .inr (6, [.ref aAl, .ref aSv, .ref aAs, .int sN, .int sTh, .ref aF, .ref aG, .ref aK, .long sS, .ref aTx, .int sTl, .int sPl, .ref aRd])), (aAl, .inl (cyJ, 76, .inr (.inl sAl))), (aSv, .inl (cyJ, 304, .inr (.inl sSv))), (aAs, .inl (cyJ, 76, .inr (.inl sAs))), (aF, .inl (cyJ, 3, .inr (.inl sF))), (aG, .inl (cyJ, 3, .inr (.inl sG))), (aK, .inl (cyJ, 3, .inr (.inl sK))), (aTx, .inl (cyI, 120, .inl sTx)), (aRd, .inl (cyI, 63, .inl sRd))] → va_S A s.heap H locs → lv_has ls 11 [(0, .ref h)] → W p l e (headSpec wsX6_controls ({ frames := 1, cells := 0, slots := 0, locals := 25 } : Room)).room s m ([.ref h, .long w1, .long w2] : List Value).toArray below meth c H locs 0 0 (MQ below (va_Ql (fun (r' : Int64) (_ : Unit) => r' = out) (cPost (dC, dI) [(cyI, .int), (cyJ, .long), (cyB, .byte), (cyS, .object "SelfTuner$State"), (cyD, .double)] [(h, .inr (6, [.ref aAl, .ref aSv, .ref aAs, .int sN, .int sTh, .ref aF, .ref aG, .ref aK, .long sS, .ref aTx, .int sTl, .int sPl, .ref aRd])), (aAl, .inl (cyJ, 76, .inr (.inl sAl))), (aSv, .inl (cyJ, 304, .inr (.inl sSv))), (aAs, .inl (cyJ, 76, .inr (.inl sAs))), (aF, .inl (cyJ, 3, .inr (.inl sF))), (aG, .inl (cyJ, 3, .inr (.inl sG))), (aK, .inl (cyJ, 3, .inr (.inl sK))), (aTx, .inl (cyI, 120, .inl sTx)), (aRd, .inl (cyI, 63, .inl sRd))] A) A) ([.ref h, .long w1, .long w2] : List Value).toArray s 0 0 A) (F0 m 149 ls [.long x16, .long x13]) := by
        intro x16 H locs ls hF hP hD hS hl
        rw [hK17] at hF
        refine lv_ladd hx hb dX6_controls_149 ?_
        obtain ⟨v18, hv18, hF⟩ := lt_e hF
        refine x_topl hv18 ?_
        refine lv_lstore (lv' := [(9, .long v18), (0, .ref h)]) hx hb dX6_controls_150 hl (by decide) rfl (fun ls hl => ?_)
        refine lv_lload hx hb dX6_controls_152 (lv_at hl 0 rfl) ?_
        refine lv_aload_n hx hb dX6_controls_154 rfl (lv_at hl 1 rfl) ?_
        refine va_get (D := (dC, dI)) (ci := 6) (v := .ref aAl) (C := RX6) (T := TX6) (N := 13) hx hb hts iX6_controls_X6 hown hK hP 0 rfl rfl 0 (by decide) (hts _ kX6_controls_1) (fun _ h9 => h9) rfl dX6_controls_155 ?_
        refine lv_iconst (v := 4) hx hb dX6_controls_158 (by decide) ?_
        refine x_lald hx hb hK hP 1 1 rfl rfl (show (4 : Int32).toNatClampNeg = 4 by decide) (inbK (k := 4) (by decide) rfl) dX6_controls_159 ?_
        refine lv_lneg hx hb dX6_controls_160 ?_
        refine lv_aload_n hx hb dX6_controls_161 rfl (lv_at hl 1 rfl) ?_
        refine va_get (D := (dC, dI)) (ci := 6) (v := .ref aAl) (C := RX6) (T := TX6) (N := 13) hx hb hts iX6_controls_X6 hown hK hP 0 rfl rfl 0 (by decide) (hts _ kX6_controls_1) (fun _ h9 => h9) rfl dX6_controls_162 ?_
        refine lv_iconst (v := 4) hx hb dX6_controls_165 (by decide) ?_
        refine x_lald hx hb hK hP 1 1 rfl rfl (show (4 : Int32).toNatClampNeg = 4 by decide) (inbK (k := 4) (by decide) rfl) dX6_controls_166 ?_
        obtain ⟨o19, ho19, hF⟩ := ob_e hF
        refine x_callzl (va_runS (As := [.long v18, .long (-(sAl 4)), .long (sAl 4)]) (rest := []) ⟨hx, hb, hml, hown, hts⟩ (c_X6_within l v18 (-(sAl 4)) (sAl 4) ho19) (va_cwS 3 hts gX6_controls_X6_within rfl rfl rfl (by decide +kernel) ⟨Nat.le_of_ble_eq_true rfl, Nat.le_of_ble_eq_true rfl⟩) ⟨true_blind, fun _ _ _ => ⟨rfl, trivial⟩⟩ rfl rfl hl.1 rfl (lv_room (Nat.le_of_ble_eq_true rfl)) dX6_controls_167 ⟨Nat.le_of_ble_eq_true rfl, Nat.le_of_ble_eq_true rfl⟩) ?_
        obtain rfl := some_e hF
        exact W.lret (v := o19) hx hb hr (fun t ht hW => ⟨⟨o19, (), rfl, rfl, ⟨by rw [ht]; exact hP, va_K.moved hW.alike hK, hD⟩⟩, hS.F ht⟩) hS.2.2 dX6_controls_170
      refine x_il_ne (tgt := 142) hx hb dX6_controls_130 (by decide) (fun c15 => ?_) (fun c15 => ?_)
      · have hF := ite_f hF c15
        refine lv_aload_n hx hb dX6_controls_142 rfl (lv_at hl 1 rfl) ?_
        refine va_get (D := (dC, dI)) (ci := 6) (v := .ref aAl) (C := RX6) (T := TX6) (N := 13) hx hb hts iX6_controls_X6 hown hK hP 0 rfl rfl 0 (by decide) (hts _ kX6_controls_1) (fun _ h9 => h9) rfl dX6_controls_143 ?_
        refine lv_iconst (v := 5) hx hb dX6_controls_146 (by decide) ?_
        refine x_lald hx hb hK hP 1 1 rfl rfl (show (5 : Int32).toNatClampNeg = 5 by decide) (inbK (k := 5) (by decide) rfl) dX6_controls_147 ?_
        refine lv_lneg hx hb dX6_controls_148 ?_
        exact Jx16 _ _ _ _ hF hP hD hS (lv_sub hl [1] rfl)
      · have hF := ite_t hF c15
        refine lv_aload_n hx hb dX6_controls_133 rfl (lv_at hl 1 rfl) ?_
        refine va_get (D := (dC, dI)) (ci := 6) (v := .ref aAl) (C := RX6) (T := TX6) (N := 13) hx hb hts iX6_controls_X6 hown hK hP 0 rfl rfl 0 (by decide) (hts _ kX6_controls_1) (fun _ h9 => h9) rfl dX6_controls_134 ?_
        refine lv_iconst (v := 5) hx hb dX6_controls_137 (by decide) ?_
        refine x_lald hx hb hK hP 1 1 rfl rfl (show (5 : Int32).toNatClampNeg = 5 by decide) (inbK (k := 5) (by decide) rfl) dX6_controls_138 ?_
        refine lv_goto (tgt := 149) hx hb dX6_controls_139 (by decide) ?_
        exact Jx16 _ _ _ _ hF hP hD hS (lv_sub hl [1] rfl)
    refine x_il_ge (tgt := 106) hx hb dX6_controls_91 (by decide) (fun c10 => ?_) (fun c10 => ?_)
    · have hF := ite_f hF c10
      refine lv_lload hx hb dX6_controls_106 (lv_at hl 0 rfl) ?_
      refine lv_lload hx hb dX6_controls_108 (lv_at hl 4 rfl) ?_
      obtain ⟨o12, ho12, hF⟩ := ob_e hF
      refine x_callzl (va_runS (As := [.long v9, .long x7]) (rest := []) ⟨hx, hb, hml, hown, hts⟩ (c_X6_floor l v9 x7 ho12) (va_cwS 2 hts gX6_controls_X6_floor rfl rfl rfl (by decide +kernel) ⟨Nat.le_of_ble_eq_true rfl, Nat.le_of_ble_eq_true rfl⟩) ⟨true_blind, fun _ _ _ => ⟨rfl, trivial⟩⟩ rfl rfl hl.1 rfl (lv_room (Nat.le_of_ble_eq_true rfl)) dX6_controls_110 ⟨Nat.le_of_ble_eq_true rfl, Nat.le_of_ble_eq_true rfl⟩) ?_
      exact Jx13 _ _ _ _ hF hP hD hS (lv_sub hl [1] rfl)
    · have hF := ite_t hF c10
      refine lv_lload hx hb dX6_controls_94 (lv_at hl 0 rfl) ?_
      refine lv_lneg hx hb dX6_controls_96 ?_
      refine lv_lload hx hb dX6_controls_97 (lv_at hl 4 rfl) ?_
      refine lv_lneg hx hb dX6_controls_99 ?_
      obtain ⟨o11, ho11, hF⟩ := ob_e hF
      refine x_callzl (va_runS (As := [.long (-v9), .long (-x7)]) (rest := []) ⟨hx, hb, hml, hown, hts⟩ (c_X6_floor l (-v9) (-x7) ho11) (va_cwS 2 hts gX6_controls_X6_floor rfl rfl rfl (by decide +kernel) ⟨Nat.le_of_ble_eq_true rfl, Nat.le_of_ble_eq_true rfl⟩) ⟨true_blind, fun _ _ _ => ⟨rfl, trivial⟩⟩ rfl rfl hl.1 rfl (lv_room (Nat.le_of_ble_eq_true rfl)) dX6_controls_100 ⟨Nat.le_of_ble_eq_true rfl, Nat.le_of_ble_eq_true rfl⟩) ?_
      refine lv_goto (tgt := 113) hx hb dX6_controls_103 (by decide) ?_
      exact Jx13 _ _ _ _ hF hP hD hS (lv_sub hl [1] rfl)
  refine lv_if_eq (tgt := 62) hx hb dX6_controls_32 (by decide) (fun c3 => ?_) (fun c3 => ?_)
  · have hF := ite_t hF c3
    exact Jx7 _ _ _ _ hF hP hD hS (lv_sub hl [1, 2, 3, 0] rfl)
  · have hF := ite_f hF c3
    refine lv_lload hx hb dX6_controls_35 (lv_at hl 0 rfl) ?_
    refine lv_lconst (v := 0) hx hb dX6_controls_37 (by decide) ?_
    refine W.lcmp hx hb dX6_controls_38 ?_
    obtain ⟨K6, hK6, hF⟩ := rg_e hF
    have Jx5 : ∀ (x5 : Int64) (H : Heap) (locs : List Loc) (ls : Array Slot), K6 x5 = some out → va_P (dC, dI) vwCl [(h, .inr (6, [.ref aAl, .ref aSv, .ref aAs, .int sN, .int sTh, .ref aF, .ref aG, .ref aK, .long sS, .ref aTx, .int sTl, .int sPl, .ref aRd])), (aAl, .inl (cyJ, 76, .inr (.inl sAl))), (aSv, .inl (cyJ, 304, .inr (.inl sSv))), (aAs, .inl (cyJ, 76, .inr (.inl sAs))), (aF, .inl (cyJ, 3, .inr (.inl sF))), (aG, .inl (cyJ, 3, .inr (.inl sG))), (aK, .inl (cyJ, 3, .inr (.inl sK))), (aTx, .inl (cyI, 120, .inl sTx)), (aRd, .inl (cyI, 63, .inl sRd))] H → va_D A [(h, .inr (6, [.ref aAl, .ref aSv, .ref aAs, .int sN, .int sTh, .ref aF, .ref aG, .ref aK, .long sS, .ref aTx, .int sTl, .int sPl, .ref aRd])), (aAl, .inl (cyJ, 76, .inr (.inl sAl))), (aSv, .inl (cyJ, 304, .inr (.inl sSv))), (aAs, .inl (cyJ, 76, .inr (.inl sAs))), (aF, .inl (cyJ, 3, .inr (.inl sF))), (aG, .inl (cyJ, 3, .inr (.inl sG))), (aK, .inl (cyJ, 3, .inr (.inl sK))), (aTx, .inl (cyI, 120, .inl sTx)), (aRd, .inl (cyI, 63, .inl sRd))] → va_S A s.heap H locs → lv_has ls 11 [(0, .ref h), (1, .long w1), (3, .long w2)] → W p l e (headSpec wsX6_controls ({ frames := 1, cells := 0, slots := 0, locals := 25 } : Room)).room s m ([.ref h, .long w1, .long w2] : List Value).toArray below meth c H locs 0 0 (MQ below (va_Ql (fun (r' : Int64) (_ : Unit) => r' = out) (cPost (dC, dI) [(cyI, .int), (cyJ, .long), (cyB, .byte), (cyS, .object "SelfTuner$State"), (cyD, .double)] [(h, .inr (6, [.ref aAl, .ref aSv, .ref aAs, .int sN, .int sTh, .ref aF, .ref aG, .ref aK, .long sS, .ref aTx, .int sTl, .int sPl, .ref aRd])), (aAl, .inl (cyJ, 76, .inr (.inl sAl))), (aSv, .inl (cyJ, 304, .inr (.inl sSv))), (aAs, .inl (cyJ, 76, .inr (.inl sAs))), (aF, .inl (cyJ, 3, .inr (.inl sF))), (aG, .inl (cyJ, 3, .inr (.inl sG))), (aK, .inl (cyJ, 3, .inr (.inl sK))), (aTx, .inl (cyI, 120, .inl sTx)), (aRd, .inl (cyI, 63, .inl sRd))] A) A) ([.ref h, .long w1, .long w2] : List Value).toArray s 0 0 A) (F0 m 60 ls [.long x5]) := by
      intro x5 H locs ls hF hP hD hS hl
      rw [hK6] at hF
      refine lv_lstore (lv' := [(5, .long x5), (0, .ref h), (1, .long w1), (3, .long w2)]) hx hb dX6_controls_60 hl (by decide) rfl (fun ls hl => ?_)
      exact Jx7 _ _ _ _ hF hP hD hS (lv_sub hl [1, 2, 3, 0] rfl)
    refine x_il_ge (tgt := 53) hx hb dX6_controls_39 (by decide) (fun c4 => ?_) (fun c4 => ?_)
    · have hF := ite_f hF c4
      refine lv_aload_n hx hb dX6_controls_53 rfl (lv_at hl 1 rfl) ?_
      refine va_get (D := (dC, dI)) (ci := 6) (v := .ref aAl) (C := RX6) (T := TX6) (N := 13) hx hb hts iX6_controls_X6 hown hK hP 0 rfl rfl 0 (by decide) (hts _ kX6_controls_1) (fun _ h9 => h9) rfl dX6_controls_54 ?_
      refine lv_bipush (v := 6) hx hb dX6_controls_57 (by decide) ?_
      refine x_lald hx hb hK hP 1 1 rfl rfl (show (6 : Int32).toNatClampNeg = 6 by decide) (inbK (k := 6) (by decide) rfl) dX6_controls_59 ?_
      exact Jx5 _ _ _ _ hF hP hD hS (lv_sub hl [1, 2, 3] rfl)
    · have hF := ite_t hF c4
      refine lv_aload_n hx hb dX6_controls_42 rfl (lv_at hl 1 rfl) ?_
      refine va_get (D := (dC, dI)) (ci := 6) (v := .ref aAl) (C := RX6) (T := TX6) (N := 13) hx hb hts iX6_controls_X6 hown hK hP 0 rfl rfl 0 (by decide) (hts _ kX6_controls_1) (fun _ h9 => h9) rfl dX6_controls_43 ?_
      refine lv_bipush (v := 6) hx hb dX6_controls_46 (by decide) ?_
      refine x_lald hx hb hK hP 1 1 rfl rfl (show (6 : Int32).toNatClampNeg = 6 by decide) (inbK (k := 6) (by decide) rfl) dX6_controls_48 ?_
      refine lv_lneg hx hb dX6_controls_49 ?_
      refine lv_goto (tgt := 60) hx hb dX6_controls_50 (by decide) ?_
      exact Jx5 _ _ _ _ hF hP hD hS (lv_sub hl [1, 2, 3] rfl)
def F_X6_control (sAl : Nat → Int64) (w1 : Int32) (w2 : Int32) : Option (Int32 × Int32) := ob (F_X6_isSignal w1.toInt64) (fun o1 => rg (α := Int32) (fun K6 => if (o1 : Int32) = 0 then (K6 0) else (ob (F_X6_isSignal w2.toInt64) (fun o3 => if (o3 : Int32) = 0 then (K6 0) else (K6 1)))) (fun x5 => ob (F_X6_goes x5 1) (fun o7 => if (o7.1 : Int32) = 0 then (some (0, o7.2)) else (ob (F_X6_controls sAl w1.toInt64 w2.toInt64) (fun o9 => some (o9.toInt32, o7.2))))))
set_option maxHeartbeats 4000000 in
set_option maxRecDepth 100000 in
theorem c_X6_control (l : Launch) (dC : Nat → ClassId) (dI : Nat → Nat → Nat) (cyI cyJ cyB cyS cyD : ClassId) (h : Nat) (aAl : Nat) (aSv : Nat) (aAs : Nat) (aF : Nat) (aG : Nat) (aK : Nat) (aTx : Nat) (aRd : Nat) (sz : Nat) (sN : Int32) (sTh : Int32) (sS : Int64) (sTl : Int32) (sPl : Int32) (sAl : Nat → Int64) (sSv : Nat → Int64) (sAs : Nat → Int64) (sF : Nat → Int64) (sG : Nat → Int64) (sK : Nat → Int64) (sTx : Nat → Int32) (sRd : Nat → Int32) (w1 : Int32) (w2 : Int32) {out : Int32 × Int32} (hF : F_X6_control sAl w1 w2 = some out) : Mi l yX6_control wsX6_control ({ frames := 2, cells := 0, slots := 0, locals := 55 } : Room) (dC, dI) [(cyI, .int), (cyJ, .long), (cyB, .byte), (cyS, .object "SelfTuner$State"), (cyD, .double)] sz [.ref h, .int w1, .int w2] [(h, .inr (6, [.ref aAl, .ref aSv, .ref aAs, .int sN, .int sTh, .ref aF, .ref aG, .ref aK, .long sS, .ref aTx, .int sTl, .int sPl, .ref aRd])), (aAl, .inl (cyJ, 76, .inr (.inl sAl))), (aSv, .inl (cyJ, 304, .inr (.inl sSv))), (aAs, .inl (cyJ, 76, .inr (.inl sAs))), (aF, .inl (cyJ, 3, .inr (.inl sF))), (aG, .inl (cyJ, 3, .inr (.inl sG))), (aK, .inl (cyJ, 3, .inr (.inl sK))), (aTx, .inl (cyI, 120, .inl sTx)), (aRd, .inl (cyI, 63, .inl sRd))] out.1 [(h, .inr (6, [.ref aAl, .ref aSv, .ref aAs, .int sN, .int out.2, .ref aF, .ref aG, .ref aK, .long sS, .ref aTx, .int sTl, .int sPl, .ref aRd])), (aAl, .inl (cyJ, 76, .inr (.inl sAl))), (aSv, .inl (cyJ, 304, .inr (.inl sSv))), (aAs, .inl (cyJ, 76, .inr (.inl sAs))), (aF, .inl (cyJ, 3, .inr (.inl sF))), (aG, .inl (cyJ, 3, .inr (.inl sG))), (aK, .inl (cyJ, 3, .inr (.inl sK))), (aTx, .inl (cyI, 120, .inl sTx)), (aRd, .inl (cyI, 63, .inl sRd))] := by
  refine Met.ofW (cc := cX6_control) (maxL := 3) (ret := (some .int)) (by decide) rfl ?_
  intro p e s m args below meth c s₁ B hml hv
  obtain ⟨rfl, hN, hsz, hP, hK, hD0⟩ := hv
  have hx := B.exec
  have hb := B.bytes
  have hr := B.returns
  have hts := atoms_spec (ws := wsX6_control) B.pre
  have hown : s.vm.findClass RX6 = some m.cls := findClass_of_methodNamed B.named
  have hlocks := B.notSynchronized
  subst hsz
  have hD := hD0.self (sz := s.heap.size)
  generalize hAe : va_A [(h, .inr (6, [.ref aAl, .ref aSv, .ref aAs, .int sN, .int sTh, .ref aF, .ref aG, .ref aK, .long sS, .ref aTx, .int sTl, .int sPl, .ref aRd])), (aAl, .inl (cyJ, 76, .inr (.inl sAl))), (aSv, .inl (cyJ, 304, .inr (.inl sSv))), (aAs, .inl (cyJ, 76, .inr (.inl sAs))), (aF, .inl (cyJ, 3, .inr (.inl sF))), (aG, .inl (cyJ, 3, .inr (.inl sG))), (aK, .inl (cyJ, 3, .inr (.inl sK))), (aTx, .inl (cyI, 120, .inl sTx)), (aRd, .inl (cyI, 63, .inl sRd))] s.heap.size = A at hD ⊢
  have hA : ∀ q : Nat, s.heap.size ≤ q → A q := fun q h => by rw [← hAe]; exact Or.inr h
  have hS : va_S A s.heap s.heap [] := va_S.rf
  have hP : va_P (dC, dI) vwCl [(h, .inr (6, [.ref aAl, .ref aSv, .ref aAs, .int sN, .int sTh, .ref aF, .ref aG, .ref aK, .long sS, .ref aTx, .int sTl, .int sPl, .ref aRd])), (aAl, .inl (cyJ, 76, .inr (.inl sAl))), (aSv, .inl (cyJ, 304, .inr (.inl sSv))), (aAs, .inl (cyJ, 76, .inr (.inl sAs))), (aF, .inl (cyJ, 3, .inr (.inl sF))), (aG, .inl (cyJ, 3, .inr (.inl sG))), (aK, .inl (cyJ, 3, .inr (.inl sK))), (aTx, .inl (cyI, 120, .inl sTx)), (aRd, .inl (cyI, 63, .inl sRd))] s.heap := hP
  have hl := lv_entry ([.ref h, .int w1, .int w2]) (n := 3) (Nat.le_of_ble_eq_true rfl)
  rw [lg_entry_eq]
  generalize (lg_sl ([.ref h, .int w1, .int w2]) ++ List.replicate (3 - (lg_sl ([.ref h, .int w1, .int w2])).length) Slot.unset).toArray = ls at hl ⊢
  have hl : lv_has ls 3 [(0, .ref h), (1, .int w1), (2, .int w2)] := hl
  unfold F_X6_control at hF
  refine lv_aload_n hx hb dX6_control_0 rfl (lv_at hl 0 rfl) ?_
  refine lv_iload_n hx hb dX6_control_1 rfl (lv_at hl 1 rfl) ?_
  refine lv_i2l (v := w1.toInt64) hx hb dX6_control_2 rfl ?_
  obtain ⟨o1, ho1, hF⟩ := ob_e hF
  refine x_callzi (va_runS (As := [.long w1.toInt64]) (rest := [.ref h]) ⟨hx, hb, hml, hown, hts⟩ (c_X6_isSignal l w1.toInt64 ho1) (va_cwS 1 hts gX6_control_X6_isSignal rfl rfl rfl (by decide +kernel) ⟨Nat.le_of_ble_eq_true rfl, Nat.le_of_ble_eq_true rfl⟩) ⟨true_blind, fun _ _ _ => ⟨rfl, trivial⟩⟩ rfl rfl hl.1 rfl (lv_room (Nat.le_of_ble_eq_true rfl)) dX6_control_3 ⟨Nat.le_of_ble_eq_true rfl, Nat.le_of_ble_eq_true rfl⟩) ?_
  obtain ⟨K6, hK6, hF⟩ := rg_e hF
  have Jx5 : ∀ (x5 : Int32) (H : Heap) (locs : List Loc) (ls : Array Slot), K6 x5 = some out → va_P (dC, dI) vwCl [(h, .inr (6, [.ref aAl, .ref aSv, .ref aAs, .int sN, .int sTh, .ref aF, .ref aG, .ref aK, .long sS, .ref aTx, .int sTl, .int sPl, .ref aRd])), (aAl, .inl (cyJ, 76, .inr (.inl sAl))), (aSv, .inl (cyJ, 304, .inr (.inl sSv))), (aAs, .inl (cyJ, 76, .inr (.inl sAs))), (aF, .inl (cyJ, 3, .inr (.inl sF))), (aG, .inl (cyJ, 3, .inr (.inl sG))), (aK, .inl (cyJ, 3, .inr (.inl sK))), (aTx, .inl (cyI, 120, .inl sTx)), (aRd, .inl (cyI, 63, .inl sRd))] H → va_D A [(h, .inr (6, [.ref aAl, .ref aSv, .ref aAs, .int sN, .int sTh, .ref aF, .ref aG, .ref aK, .long sS, .ref aTx, .int sTl, .int sPl, .ref aRd])), (aAl, .inl (cyJ, 76, .inr (.inl sAl))), (aSv, .inl (cyJ, 304, .inr (.inl sSv))), (aAs, .inl (cyJ, 76, .inr (.inl sAs))), (aF, .inl (cyJ, 3, .inr (.inl sF))), (aG, .inl (cyJ, 3, .inr (.inl sG))), (aK, .inl (cyJ, 3, .inr (.inl sK))), (aTx, .inl (cyI, 120, .inl sTx)), (aRd, .inl (cyI, 63, .inl sRd))] → va_S A s.heap H locs → lv_has ls 3 [(0, .ref h), (1, .int w1), (2, .int w2)] → W p l e (headSpec wsX6_control ({ frames := 2, cells := 0, slots := 0, locals := 55 } : Room)).room s m ([.ref h, .int w1, .int w2] : List Value).toArray below meth c H locs 0 0 (MQ below (va_Qi (fun (r' : Int32) (_ : Unit) => r' = out.1) (cPost (dC, dI) [(cyI, .int), (cyJ, .long), (cyB, .byte), (cyS, .object "SelfTuner$State"), (cyD, .double)] [(h, .inr (6, [.ref aAl, .ref aSv, .ref aAs, .int sN, .int out.2, .ref aF, .ref aG, .ref aK, .long sS, .ref aTx, .int sTl, .int sPl, .ref aRd])), (aAl, .inl (cyJ, 76, .inr (.inl sAl))), (aSv, .inl (cyJ, 304, .inr (.inl sSv))), (aAs, .inl (cyJ, 76, .inr (.inl sAs))), (aF, .inl (cyJ, 3, .inr (.inl sF))), (aG, .inl (cyJ, 3, .inr (.inl sG))), (aK, .inl (cyJ, 3, .inr (.inl sK))), (aTx, .inl (cyI, 120, .inl sTx)), (aRd, .inl (cyI, 63, .inl sRd))] A) A) ([.ref h, .int w1, .int w2] : List Value).toArray s 0 0 A) (F0 m 22 ls [.int x5, .ref h]) := by
    intro x5 H locs ls hF hP hD hS hl
    rw [hK6] at hF
    refine lv_iconst (v := 1) hx hb dX6_control_22 (by decide) ?_
    obtain ⟨o7, ho7, hF⟩ := ob_e hF
    refine x_calli (wr := []) (ws' := [(h, .inr (6, [.ref aAl, .ref aSv, .ref aAs, .int sN, .int o7.2, .ref aF, .ref aG, .ref aK, .long sS, .ref aTx, .int sTl, .int sPl, .ref aRd])), (aAl, .inl (cyJ, 76, .inr (.inl sAl))), (aSv, .inl (cyJ, 304, .inr (.inl sSv))), (aAs, .inl (cyJ, 76, .inr (.inl sAs))), (aF, .inl (cyJ, 3, .inr (.inl sF))), (aG, .inl (cyJ, 3, .inr (.inl sG))), (aK, .inl (cyJ, 3, .inr (.inl sK))), (aTx, .inl (cyI, 120, .inl sTx)), (aRd, .inl (cyI, 63, .inl sRd))]) (va_runV (As := [.int x5, .int 1]) (rest := []) ⟨hx, hb, hml, hown, hts⟩ (c_X6_goes l dC dI cyI cyJ cyB cyS cyD h aAl aSv aAs aF aG aK aTx aRd H.size sN sTh sS sTl sPl sAl sSv sAs sF sG sK sTx sRd x5 1 ho7) (cwV 2 hts gX6_control_X6_goes rfl rfl rfl (by decide +kernel) ⟨Nat.le_of_ble_eq_true rfl, Nat.le_of_ble_eq_true rfl⟩) ⟨cPre_blind, va_recv hK hP (ci := 6) (q0 := 0) rfl rfl, x_pre hN hP hD hK [0, 1, 2, 3, 4, 5, 6, 7, 8] rfl rfl⟩ rfl rfl hl.1 rfl (lv_room (Nat.le_of_ble_eq_true rfl)) dX6_control_23 ⟨Nat.le_of_ble_eq_true rfl, Nat.le_of_ble_eq_true rfl⟩) hP hD hS hA [0, 1, 2, 3, 4, 5, 6, 7, 8] [] [0, 1, 2, 3, 4, 5, 6, 7, 8] rfl rfl rfl (by decide) rfl rfl (fun H locs hP hD hS => ?_)
    refine lv_if_eq (tgt := 41) hx hb dX6_control_26 (by decide) (fun c8 => ?_) (fun c8 => ?_)
    · have hF := ite_t hF c8
      refine lv_iconst (v := 0) hx hb dX6_control_41 (by decide) ?_
      obtain rfl := some_e hF
      exact W.iret (v := 0) hx hb hr (fun t ht hW => ⟨⟨0, (), rfl, rfl, ⟨by rw [ht]; exact hP, va_K.moved hW.alike hK, hD⟩⟩, hS.F ht⟩) hS.2.2 dX6_control_42
    · have hF := ite_f hF c8
      refine lv_aload_n hx hb dX6_control_29 rfl (lv_at hl 0 rfl) ?_
      refine lv_iload_n hx hb dX6_control_30 rfl (lv_at hl 1 rfl) ?_
      refine lv_i2l (v := w1.toInt64) hx hb dX6_control_31 rfl ?_
      refine lv_iload_n hx hb dX6_control_32 rfl (lv_at hl 2 rfl) ?_
      refine lv_i2l (v := w2.toInt64) hx hb dX6_control_33 rfl ?_
      obtain ⟨o9, ho9, hF⟩ := ob_e hF
      refine x_calll (wr := []) (ws' := [(h, .inr (6, [.ref aAl, .ref aSv, .ref aAs, .int sN, .int o7.2, .ref aF, .ref aG, .ref aK, .long sS, .ref aTx, .int sTl, .int sPl, .ref aRd])), (aAl, .inl (cyJ, 76, .inr (.inl sAl))), (aSv, .inl (cyJ, 304, .inr (.inl sSv))), (aAs, .inl (cyJ, 76, .inr (.inl sAs))), (aF, .inl (cyJ, 3, .inr (.inl sF))), (aG, .inl (cyJ, 3, .inr (.inl sG))), (aK, .inl (cyJ, 3, .inr (.inl sK))), (aTx, .inl (cyI, 120, .inl sTx)), (aRd, .inl (cyI, 63, .inl sRd))]) (va_runV (As := [.long w1.toInt64, .long w2.toInt64]) (rest := []) ⟨hx, hb, hml, hown, hts⟩ (c_X6_controls l dC dI cyI cyJ cyB cyS cyD h aAl aSv aAs aF aG aK aTx aRd H.size sN o7.2 sS sTl sPl sAl sSv sAs sF sG sK sTx sRd w1.toInt64 w2.toInt64 ho9) (cwV 2 hts gX6_control_X6_controls rfl rfl rfl (by decide +kernel) ⟨Nat.le_of_ble_eq_true rfl, Nat.le_of_ble_eq_true rfl⟩) ⟨cPre_blind, va_recv hK hP (ci := 6) (q0 := 0) rfl rfl, x_pre hN hP hD hK [0, 1, 2, 3, 4, 5, 6, 7, 8] rfl rfl⟩ rfl rfl hl.1 rfl (lv_room (Nat.le_of_ble_eq_true rfl)) dX6_control_34 ⟨Nat.le_of_ble_eq_true rfl, Nat.le_of_ble_eq_true rfl⟩) hP hD hS hA [0, 1, 2, 3, 4, 5, 6, 7, 8] [] [0, 1, 2, 3, 4, 5, 6, 7, 8] rfl rfl rfl (by decide) rfl rfl (fun H locs hP hD hS => ?_)
      refine lv_l2i (v := o9.toInt32) hx hb dX6_control_37 rfl ?_
      refine lv_goto (tgt := 42) hx hb dX6_control_38 (by decide) ?_
      obtain rfl := some_e hF
      exact W.iret (v := o9.toInt32) hx hb hr (fun t ht hW => ⟨⟨o9.toInt32, (), rfl, rfl, ⟨by rw [ht]; exact hP, va_K.moved hW.alike hK, hD⟩⟩, hS.F ht⟩) hS.2.2 dX6_control_42
  refine lv_if_eq (tgt := 21) hx hb dX6_control_6 (by decide) (fun c2 => ?_) (fun c2 => ?_)
  · have hF := ite_t hF c2
    refine lv_iconst (v := 0) hx hb dX6_control_21 (by decide) ?_
    exact Jx5 _ _ _ _ hF hP hD hS (lv_sub hl [0, 1, 2] rfl)
  · have hF := ite_f hF c2
    refine lv_iload_n hx hb dX6_control_9 rfl (lv_at hl 2 rfl) ?_
    refine lv_i2l (v := w2.toInt64) hx hb dX6_control_10 rfl ?_
    obtain ⟨o3, ho3, hF⟩ := ob_e hF
    refine x_callzi (va_runS (As := [.long w2.toInt64]) (rest := [.ref h]) ⟨hx, hb, hml, hown, hts⟩ (c_X6_isSignal l w2.toInt64 ho3) (va_cwS 1 hts gX6_control_X6_isSignal rfl rfl rfl (by decide +kernel) ⟨Nat.le_of_ble_eq_true rfl, Nat.le_of_ble_eq_true rfl⟩) ⟨true_blind, fun _ _ _ => ⟨rfl, trivial⟩⟩ rfl rfl hl.1 rfl (lv_room (Nat.le_of_ble_eq_true rfl)) dX6_control_11 ⟨Nat.le_of_ble_eq_true rfl, Nat.le_of_ble_eq_true rfl⟩) ?_
    refine lv_if_eq (tgt := 21) hx hb dX6_control_14 (by decide) (fun c4 => ?_) (fun c4 => ?_)
    · have hF := ite_t hF c4
      refine lv_iconst (v := 0) hx hb dX6_control_21 (by decide) ?_
      exact Jx5 _ _ _ _ hF hP hD hS (lv_sub hl [0, 1, 2] rfl)
    · have hF := ite_f hF c4
      refine lv_iconst (v := 1) hx hb dX6_control_17 (by decide) ?_
      refine lv_goto (tgt := 22) hx hb dX6_control_18 (by decide) ?_
      exact Jx5 _ _ _ _ hF hP hD hS (lv_sub hl [0, 1, 2] rfl)
def F_X6_steps (sS : Int64) (sAl : Nat → Int64) (sF : Nat → Int64) (sG : Nat → Int64) (sK : Nat → Int64) (w1 : Int64) : Option (Int64 × (Nat → Int64) × (Nat → Int64) × (Nat → Int64) × (Nat → Int64)) := lt_ (α := Int64) (sAl 35) (fun v1 => lt_ (α := Nat → Int64) (vp_updL sAl 34 (((1103515245 * (sAl 34)) + 12345) - ((1103515245 * (sAl 34)) + 12345) / 2147483648 * 2147483648)) (fun v2 => ck (¬ ((2 * (v2 33)) + 1) = 0) (lt_ (α := Int64) ((((v2 34) / 65536) - ((v2 34) / 65536) / ((2 * (v2 33)) + 1) * ((2 * (v2 33)) + 1)) - (v2 33)) (fun v4 => ob (F_X6_floor ((((v2 30) * v1) + ((v2 31) * w1)) + (v2 32)) 1000) (fun o5 => ob (F_X6_within (o5 + v4) (-2000) 2000) (fun o6 => lt_ (α := Nat → Int64) (vp_updL v2 35 o6) (fun v7 => ob (F_X6_takes sS v7 sF sG sK v1 w1 o6) (fun o8 => some (o8.2.1, o8.2.2.1, o8.2.2.2.1, o8.2.2.2.2.1, o8.2.2.2.2.2)))))))))
theorem kX6_steps_1 : (Cond.fieldLink RX6 7 "SelfTunerModel" "all" "[J") ∈ wsX6_steps := List.mem_of_getElem? (i := 1) rfl
theorem kX6_steps_2 : (Cond.constantLong RX6 177 (1103515245)) ∈ wsX6_steps := List.mem_of_getElem? (i := 2) rfl
theorem kX6_steps_3 : (Cond.constantLong RX6 179 (12345)) ∈ wsX6_steps := List.mem_of_getElem? (i := 3) rfl
theorem kX6_steps_4 : (Cond.constantLong RX6 181 (2147483648)) ∈ wsX6_steps := List.mem_of_getElem? (i := 4) rfl
theorem kX6_steps_5 : (Cond.constantLong RX6 71 (65536)) ∈ wsX6_steps := List.mem_of_getElem? (i := 5) rfl
theorem kX6_steps_6 : (Cond.constantLong RX6 37 (2)) ∈ wsX6_steps := List.mem_of_getElem? (i := 6) rfl
theorem kX6_steps_7 : (Cond.constantLong RX6 172 (1000)) ∈ wsX6_steps := List.mem_of_getElem? (i := 7) rfl
theorem kX6_steps_8 : (Cond.constantLong RX6 61 (-2000)) ∈ wsX6_steps := List.mem_of_getElem? (i := 8) rfl
theorem kX6_steps_9 : (Cond.constantLong RX6 63 (2000)) ∈ wsX6_steps := List.mem_of_getElem? (i := 9) rfl
theorem iX6_steps_X6 : ∀ w ∈ wsX60, w ∈ wsX6_steps := fun w h => List.mem_cons_of_mem _ (List.mem_append_right _ h)
set_option maxHeartbeats 4000000 in
set_option maxRecDepth 100000 in
theorem c_X6_steps (l : Launch) (dC : Nat → ClassId) (dI : Nat → Nat → Nat) (cyI cyJ cyB cyS cyD : ClassId) (h : Nat) (aAl : Nat) (aSv : Nat) (aAs : Nat) (aF : Nat) (aG : Nat) (aK : Nat) (aTx : Nat) (aRd : Nat) (sz : Nat) (sN : Int32) (sTh : Int32) (sS : Int64) (sTl : Int32) (sPl : Int32) (sAl : Nat → Int64) (sSv : Nat → Int64) (sAs : Nat → Int64) (sF : Nat → Int64) (sG : Nat → Int64) (sK : Nat → Int64) (sTx : Nat → Int32) (sRd : Nat → Int32) (w1 : Int64) {out : Int64 × (Nat → Int64) × (Nat → Int64) × (Nat → Int64) × (Nat → Int64)} (hF : F_X6_steps sS sAl sF sG sK w1 = some out) : Mv l yX6_steps wsX6_steps ({ frames := 3, cells := 0, slots := 0, locals := 84 } : Room) (dC, dI) [(cyI, .int), (cyJ, .long), (cyB, .byte), (cyS, .object "SelfTuner$State"), (cyD, .double)] sz [.ref h, .long w1] [(h, .inr (6, [.ref aAl, .ref aSv, .ref aAs, .int sN, .int sTh, .ref aF, .ref aG, .ref aK, .long sS, .ref aTx, .int sTl, .int sPl, .ref aRd])), (aAl, .inl (cyJ, 76, .inr (.inl sAl))), (aSv, .inl (cyJ, 304, .inr (.inl sSv))), (aAs, .inl (cyJ, 76, .inr (.inl sAs))), (aF, .inl (cyJ, 3, .inr (.inl sF))), (aG, .inl (cyJ, 3, .inr (.inl sG))), (aK, .inl (cyJ, 3, .inr (.inl sK))), (aTx, .inl (cyI, 120, .inl sTx)), (aRd, .inl (cyI, 63, .inl sRd))] [(h, .inr (6, [.ref aAl, .ref aSv, .ref aAs, .int sN, .int sTh, .ref aF, .ref aG, .ref aK, .long out.1, .ref aTx, .int sTl, .int sPl, .ref aRd])), (aAl, .inl (cyJ, 76, .inr (.inl out.2.1))), (aSv, .inl (cyJ, 304, .inr (.inl sSv))), (aAs, .inl (cyJ, 76, .inr (.inl sAs))), (aF, .inl (cyJ, 3, .inr (.inl out.2.2.1))), (aG, .inl (cyJ, 3, .inr (.inl out.2.2.2.1))), (aK, .inl (cyJ, 3, .inr (.inl out.2.2.2.2))), (aTx, .inl (cyI, 120, .inl sTx)), (aRd, .inl (cyI, 63, .inl sRd))] := by
  refine Met.ofW (cc := cX6_steps) (maxL := 11) (ret := none) (by decide) rfl ?_
  intro p e s m args below meth c s₁ B hml hv
  obtain ⟨rfl, hN, hsz, hP, hK, hD0⟩ := hv
  have hx := B.exec
  have hb := B.bytes
  have hr := B.returns
  have hts := atoms_spec (ws := wsX6_steps) B.pre
  have hown : s.vm.findClass RX6 = some m.cls := findClass_of_methodNamed B.named
  have hlocks := B.notSynchronized
  subst hsz
  have hD := hD0.self (sz := s.heap.size)
  generalize hAe : va_A [(h, .inr (6, [.ref aAl, .ref aSv, .ref aAs, .int sN, .int sTh, .ref aF, .ref aG, .ref aK, .long sS, .ref aTx, .int sTl, .int sPl, .ref aRd])), (aAl, .inl (cyJ, 76, .inr (.inl sAl))), (aSv, .inl (cyJ, 304, .inr (.inl sSv))), (aAs, .inl (cyJ, 76, .inr (.inl sAs))), (aF, .inl (cyJ, 3, .inr (.inl sF))), (aG, .inl (cyJ, 3, .inr (.inl sG))), (aK, .inl (cyJ, 3, .inr (.inl sK))), (aTx, .inl (cyI, 120, .inl sTx)), (aRd, .inl (cyI, 63, .inl sRd))] s.heap.size = A at hD ⊢
  have hA : ∀ q : Nat, s.heap.size ≤ q → A q := fun q h => by rw [← hAe]; exact Or.inr h
  have hS : va_S A s.heap s.heap [] := va_S.rf
  have hP : va_P (dC, dI) vwCl [(h, .inr (6, [.ref aAl, .ref aSv, .ref aAs, .int sN, .int sTh, .ref aF, .ref aG, .ref aK, .long sS, .ref aTx, .int sTl, .int sPl, .ref aRd])), (aAl, .inl (cyJ, 76, .inr (.inl sAl))), (aSv, .inl (cyJ, 304, .inr (.inl sSv))), (aAs, .inl (cyJ, 76, .inr (.inl sAs))), (aF, .inl (cyJ, 3, .inr (.inl sF))), (aG, .inl (cyJ, 3, .inr (.inl sG))), (aK, .inl (cyJ, 3, .inr (.inl sK))), (aTx, .inl (cyI, 120, .inl sTx)), (aRd, .inl (cyI, 63, .inl sRd))] s.heap := hP
  have hl := lv_entry ([.ref h, .long w1]) (n := 11) (Nat.le_of_ble_eq_true rfl)
  rw [lg_entry_eq]
  generalize (lg_sl ([.ref h, .long w1]) ++ List.replicate (11 - (lg_sl ([.ref h, .long w1])).length) Slot.unset).toArray = ls at hl ⊢
  have hl : lv_has ls 11 [(0, .ref h), (1, .long w1)] := hl
  unfold F_X6_steps at hF
  refine lv_aload_n hx hb dX6_steps_0 rfl (lv_at hl 0 rfl) ?_
  refine va_get (D := (dC, dI)) (ci := 6) (v := .ref aAl) (C := RX6) (T := TX6) (N := 13) hx hb hts iX6_steps_X6 hown hK hP 0 rfl rfl 0 (by decide) (hts _ kX6_steps_1) (fun _ h9 => h9) rfl dX6_steps_1 ?_
  refine lv_bipush (v := 35) hx hb dX6_steps_4 (by decide) ?_
  refine x_lald hx hb hK hP 1 1 rfl rfl (show (35 : Int32).toNatClampNeg = 35 by decide) (inbK (k := 35) (by decide) rfl) dX6_steps_6 ?_
  obtain ⟨v1, hv1, hF⟩ := lt_e hF
  refine x_topl hv1 ?_
  refine lv_lstore_n (lv' := [(3, .long v1), (0, .ref h), (1, .long w1)]) hx hb dX6_steps_7 rfl hl (by decide) rfl (fun ls hl => ?_)
  refine lv_aload_n hx hb dX6_steps_8 rfl (lv_at hl 1 rfl) ?_
  refine va_get (D := (dC, dI)) (ci := 6) (v := .ref aAl) (C := RX6) (T := TX6) (N := 13) hx hb hts iX6_steps_X6 hown hK hP 0 rfl rfl 0 (by decide) (hts _ kX6_steps_1) (fun _ h9 => h9) rfl dX6_steps_9 ?_
  refine lv_bipush (v := 34) hx hb dX6_steps_12 (by decide) ?_
  refine lv_ldc2 (v := 1103515245) hx hb hown (hts _ kX6_steps_2) dX6_steps_14 ?_
  refine lv_aload_n hx hb dX6_steps_17 rfl (lv_at hl 1 rfl) ?_
  refine va_get (D := (dC, dI)) (ci := 6) (v := .ref aAl) (C := RX6) (T := TX6) (N := 13) hx hb hts iX6_steps_X6 hown hK hP 0 rfl rfl 0 (by decide) (hts _ kX6_steps_1) (fun _ h9 => h9) rfl dX6_steps_18 ?_
  refine lv_bipush (v := 34) hx hb dX6_steps_21 (by decide) ?_
  refine x_lald hx hb hK hP 1 1 rfl rfl (show (34 : Int32).toNatClampNeg = 34 by decide) (inbK (k := 34) (by decide) rfl) dX6_steps_23 ?_
  refine lv_lmul hx hb dX6_steps_24 ?_
  refine lv_ldc2 (v := 12345) hx hb hown (hts _ kX6_steps_3) dX6_steps_25 ?_
  refine lv_ladd hx hb dX6_steps_28 ?_
  refine lv_ldc2 (v := 2147483648) hx hb hown (hts _ kX6_steps_4) dX6_steps_29 ?_
  refine lv_lrem hx hb dX6_steps_32 (by decide) ?_
  obtain ⟨v2, hv2, hF⟩ := lt_e hF
  refine x_last (ws' := [(h, .inr (6, [.ref aAl, .ref aSv, .ref aAs, .int sN, .int sTh, .ref aF, .ref aG, .ref aK, .long sS, .ref aTx, .int sTl, .int sPl, .ref aRd])), (aAl, .inl (cyJ, 76, .inr (.inl v2))), (aSv, .inl (cyJ, 304, .inr (.inl sSv))), (aAs, .inl (cyJ, 76, .inr (.inl sAs))), (aF, .inl (cyJ, 3, .inr (.inl sF))), (aG, .inl (cyJ, 3, .inr (.inl sG))), (aK, .inl (cyJ, 3, .inr (.inl sK))), (aTx, .inl (cyI, 120, .inl sTx)), (aRd, .inl (cyI, 63, .inl sRd))]) hx hb hK hP hD hS 1 1 rfl rfl (show (34 : Int32).toNatClampNeg = 34 by decide) (inbK (k := 34) (by decide) rfl) hv2 rfl dX6_steps_33 (fun H locs hP hD hS => ?_)
  refine lv_aload_n hx hb dX6_steps_34 rfl (lv_at hl 1 rfl) ?_
  refine va_get (D := (dC, dI)) (ci := 6) (v := .ref aAl) (C := RX6) (T := TX6) (N := 13) hx hb hts iX6_steps_X6 hown hK hP 0 rfl rfl 0 (by decide) (hts _ kX6_steps_1) (fun _ h9 => h9) rfl dX6_steps_35 ?_
  refine lv_bipush (v := 34) hx hb dX6_steps_38 (by decide) ?_
  refine x_lald hx hb hK hP 1 1 rfl rfl (show (34 : Int32).toNatClampNeg = 34 by decide) (inbK (k := 34) (by decide) rfl) dX6_steps_40 ?_
  refine lv_ldc2 (v := 65536) hx hb hown (hts _ kX6_steps_5) dX6_steps_41 ?_
  refine lv_ldiv hx hb dX6_steps_44 (by decide) ?_
  refine lv_ldc2 (v := 2) hx hb hown (hts _ kX6_steps_6) dX6_steps_45 ?_
  refine lv_aload_n hx hb dX6_steps_48 rfl (lv_at hl 1 rfl) ?_
  refine va_get (D := (dC, dI)) (ci := 6) (v := .ref aAl) (C := RX6) (T := TX6) (N := 13) hx hb hts iX6_steps_X6 hown hK hP 0 rfl rfl 0 (by decide) (hts _ kX6_steps_1) (fun _ h9 => h9) rfl dX6_steps_49 ?_
  refine lv_bipush (v := 33) hx hb dX6_steps_52 (by decide) ?_
  refine x_lald hx hb hK hP 1 1 rfl rfl (show (33 : Int32).toNatClampNeg = 33 by decide) (inbK (k := 33) (by decide) rfl) dX6_steps_54 ?_
  refine lv_lmul hx hb dX6_steps_55 ?_
  refine lv_lconst (v := 1) hx hb dX6_steps_56 (by decide) ?_
  refine lv_ladd hx hb dX6_steps_57 ?_
  obtain ⟨g3, hF⟩ := ck_e hF
  refine lv_lrem hx hb dX6_steps_58 g3 ?_
  refine lv_aload_n hx hb dX6_steps_59 rfl (lv_at hl 1 rfl) ?_
  refine va_get (D := (dC, dI)) (ci := 6) (v := .ref aAl) (C := RX6) (T := TX6) (N := 13) hx hb hts iX6_steps_X6 hown hK hP 0 rfl rfl 0 (by decide) (hts _ kX6_steps_1) (fun _ h9 => h9) rfl dX6_steps_60 ?_
  refine lv_bipush (v := 33) hx hb dX6_steps_63 (by decide) ?_
  refine x_lald hx hb hK hP 1 1 rfl rfl (show (33 : Int32).toNatClampNeg = 33 by decide) (inbK (k := 33) (by decide) rfl) dX6_steps_65 ?_
  refine lv_lsub hx hb dX6_steps_66 ?_
  obtain ⟨v4, hv4, hF⟩ := lt_e hF
  refine x_topl hv4 ?_
  refine lv_lstore (lv' := [(5, .long v4), (3, .long v1), (0, .ref h), (1, .long w1)]) hx hb dX6_steps_67 hl (by decide) rfl (fun ls hl => ?_)
  refine lv_aload_n hx hb dX6_steps_69 rfl (lv_at hl 2 rfl) ?_
  refine va_get (D := (dC, dI)) (ci := 6) (v := .ref aAl) (C := RX6) (T := TX6) (N := 13) hx hb hts iX6_steps_X6 hown hK hP 0 rfl rfl 0 (by decide) (hts _ kX6_steps_1) (fun _ h9 => h9) rfl dX6_steps_70 ?_
  refine lv_bipush (v := 30) hx hb dX6_steps_73 (by decide) ?_
  refine x_lald hx hb hK hP 1 1 rfl rfl (show (30 : Int32).toNatClampNeg = 30 by decide) (inbK (k := 30) (by decide) rfl) dX6_steps_75 ?_
  refine lv_lload_n hx hb dX6_steps_76 rfl (lv_at hl 1 rfl) ?_
  refine lv_lmul hx hb dX6_steps_77 ?_
  refine lv_aload_n hx hb dX6_steps_78 rfl (lv_at hl 2 rfl) ?_
  refine va_get (D := (dC, dI)) (ci := 6) (v := .ref aAl) (C := RX6) (T := TX6) (N := 13) hx hb hts iX6_steps_X6 hown hK hP 0 rfl rfl 0 (by decide) (hts _ kX6_steps_1) (fun _ h9 => h9) rfl dX6_steps_79 ?_
  refine lv_bipush (v := 31) hx hb dX6_steps_82 (by decide) ?_
  refine x_lald hx hb hK hP 1 1 rfl rfl (show (31 : Int32).toNatClampNeg = 31 by decide) (inbK (k := 31) (by decide) rfl) dX6_steps_84 ?_
  refine lv_lload_n hx hb dX6_steps_85 rfl (lv_at hl 3 rfl) ?_
  refine lv_lmul hx hb dX6_steps_86 ?_
  refine lv_ladd hx hb dX6_steps_87 ?_
  refine lv_aload_n hx hb dX6_steps_88 rfl (lv_at hl 2 rfl) ?_
  refine va_get (D := (dC, dI)) (ci := 6) (v := .ref aAl) (C := RX6) (T := TX6) (N := 13) hx hb hts iX6_steps_X6 hown hK hP 0 rfl rfl 0 (by decide) (hts _ kX6_steps_1) (fun _ h9 => h9) rfl dX6_steps_89 ?_
  refine lv_bipush (v := 32) hx hb dX6_steps_92 (by decide) ?_
  refine x_lald hx hb hK hP 1 1 rfl rfl (show (32 : Int32).toNatClampNeg = 32 by decide) (inbK (k := 32) (by decide) rfl) dX6_steps_94 ?_
  refine lv_ladd hx hb dX6_steps_95 ?_
  refine lv_ldc2 (v := 1000) hx hb hown (hts _ kX6_steps_7) dX6_steps_96 ?_
  obtain ⟨o5, ho5, hF⟩ := ob_e hF
  refine x_callzl (va_runS (As := [.long ((((v2 30) * v1) + ((v2 31) * w1)) + (v2 32)), .long 1000]) (rest := []) ⟨hx, hb, hml, hown, hts⟩ (c_X6_floor l ((((v2 30) * v1) + ((v2 31) * w1)) + (v2 32)) 1000 ho5) (va_cwS 2 hts gX6_steps_X6_floor rfl rfl rfl (by decide +kernel) ⟨Nat.le_of_ble_eq_true rfl, Nat.le_of_ble_eq_true rfl⟩) ⟨true_blind, fun _ _ _ => ⟨rfl, trivial⟩⟩ rfl rfl hl.1 rfl (lv_room (Nat.le_of_ble_eq_true rfl)) dX6_steps_99 ⟨Nat.le_of_ble_eq_true rfl, Nat.le_of_ble_eq_true rfl⟩) ?_
  refine lv_lload hx hb dX6_steps_102 (lv_at hl 0 rfl) ?_
  refine lv_ladd hx hb dX6_steps_104 ?_
  refine lv_ldc2 (v := (-2000)) hx hb hown (hts _ kX6_steps_8) dX6_steps_105 ?_
  refine lv_ldc2 (v := 2000) hx hb hown (hts _ kX6_steps_9) dX6_steps_108 ?_
  obtain ⟨o6, ho6, hF⟩ := ob_e hF
  refine x_callzl (va_runS (As := [.long (o5 + v4), .long (-2000), .long 2000]) (rest := []) ⟨hx, hb, hml, hown, hts⟩ (c_X6_within l (o5 + v4) (-2000) 2000 ho6) (va_cwS 3 hts gX6_steps_X6_within rfl rfl rfl (by decide +kernel) ⟨Nat.le_of_ble_eq_true rfl, Nat.le_of_ble_eq_true rfl⟩) ⟨true_blind, fun _ _ _ => ⟨rfl, trivial⟩⟩ rfl rfl hl.1 rfl (lv_room (Nat.le_of_ble_eq_true rfl)) dX6_steps_111 ⟨Nat.le_of_ble_eq_true rfl, Nat.le_of_ble_eq_true rfl⟩) ?_
  refine lv_lstore (lv' := [(7, .long o6), (5, .long v4), (3, .long v1), (0, .ref h), (1, .long w1)]) hx hb dX6_steps_114 hl (by decide) rfl (fun ls hl => ?_)
  refine lv_aload_n hx hb dX6_steps_116 rfl (lv_at hl 3 rfl) ?_
  refine va_get (D := (dC, dI)) (ci := 6) (v := .ref aAl) (C := RX6) (T := TX6) (N := 13) hx hb hts iX6_steps_X6 hown hK hP 0 rfl rfl 0 (by decide) (hts _ kX6_steps_1) (fun _ h9 => h9) rfl dX6_steps_117 ?_
  refine lv_bipush (v := 35) hx hb dX6_steps_120 (by decide) ?_
  refine lv_lload hx hb dX6_steps_122 (lv_at hl 0 rfl) ?_
  obtain ⟨v7, hv7, hF⟩ := lt_e hF
  refine x_last (ws' := [(h, .inr (6, [.ref aAl, .ref aSv, .ref aAs, .int sN, .int sTh, .ref aF, .ref aG, .ref aK, .long sS, .ref aTx, .int sTl, .int sPl, .ref aRd])), (aAl, .inl (cyJ, 76, .inr (.inl v7))), (aSv, .inl (cyJ, 304, .inr (.inl sSv))), (aAs, .inl (cyJ, 76, .inr (.inl sAs))), (aF, .inl (cyJ, 3, .inr (.inl sF))), (aG, .inl (cyJ, 3, .inr (.inl sG))), (aK, .inl (cyJ, 3, .inr (.inl sK))), (aTx, .inl (cyI, 120, .inl sTx)), (aRd, .inl (cyI, 63, .inl sRd))]) hx hb hK hP hD hS 1 1 rfl rfl (show (35 : Int32).toNatClampNeg = 35 by decide) (inbK (k := 35) (by decide) rfl) hv7 rfl dX6_steps_124 (fun H locs hP hD hS => ?_)
  refine lv_aload_n hx hb dX6_steps_125 rfl (lv_at hl 3 rfl) ?_
  refine lv_lload_n hx hb dX6_steps_126 rfl (lv_at hl 2 rfl) ?_
  refine lv_lload_n hx hb dX6_steps_127 rfl (lv_at hl 4 rfl) ?_
  refine lv_lload hx hb dX6_steps_128 (lv_at hl 0 rfl) ?_
  obtain ⟨o8, ho8, hF⟩ := ob_e hF
  refine x_calll (wr := []) (ws' := [(h, .inr (6, [.ref aAl, .ref aSv, .ref aAs, .int sN, .int sTh, .ref aF, .ref aG, .ref aK, .long o8.2.1, .ref aTx, .int sTl, .int sPl, .ref aRd])), (aAl, .inl (cyJ, 76, .inr (.inl o8.2.2.1))), (aSv, .inl (cyJ, 304, .inr (.inl sSv))), (aAs, .inl (cyJ, 76, .inr (.inl sAs))), (aF, .inl (cyJ, 3, .inr (.inl o8.2.2.2.1))), (aG, .inl (cyJ, 3, .inr (.inl o8.2.2.2.2.1))), (aK, .inl (cyJ, 3, .inr (.inl o8.2.2.2.2.2))), (aTx, .inl (cyI, 120, .inl sTx)), (aRd, .inl (cyI, 63, .inl sRd))]) (va_runV (As := [.long v1, .long w1, .long o6]) (rest := []) ⟨hx, hb, hml, hown, hts⟩ (c_X6_takes l dC dI cyI cyJ cyB cyS cyD h aAl aSv aAs aF aG aK aTx aRd H.size sN sTh sS sTl sPl v7 sSv sAs sF sG sK sTx sRd v1 w1 o6 ho8) (cwV 3 hts gX6_steps_X6_takes rfl rfl rfl (by decide +kernel) ⟨Nat.le_of_ble_eq_true rfl, Nat.le_of_ble_eq_true rfl⟩) ⟨cPre_blind, va_recv hK hP (ci := 6) (q0 := 0) rfl rfl, x_pre hN hP hD hK [0, 1, 2, 3, 4, 5, 6, 7, 8] rfl rfl⟩ rfl rfl hl.1 rfl (lv_room (Nat.le_of_ble_eq_true rfl)) dX6_steps_130 ⟨Nat.le_of_ble_eq_true rfl, Nat.le_of_ble_eq_true rfl⟩) hP hD hS hA [0, 1, 2, 3, 4, 5, 6, 7, 8] [] [0, 1, 2, 3, 4, 5, 6, 7, 8] rfl rfl rfl (by decide) rfl rfl (fun H locs hP hD hS => ?_)
  refine lv_lstore (lv' := [(9, .long o8.1), (7, .long o6), (5, .long v4), (3, .long v1), (0, .ref h), (1, .long w1)]) hx hb dX6_steps_133 hl (by decide) rfl (fun ls hl => ?_)
  obtain rfl := some_e hF
  exact W.vret hx hb hr (fun t ht hW => ⟨⟨(), rfl, trivial, ⟨by rw [ht]; exact hP, va_K.moved hW.alike hK, hD⟩⟩, hS.F ht⟩) hS.2.2 dX6_steps_135
def F_X6_stepsClosed (sS : Int64) (sAl : Nat → Int64) (sF : Nat → Int64) (sG : Nat → Int64) (sK : Nat → Int64) (w1 : Int64) : Option (Int64 × (Nat → Int64) × (Nat → Int64) × (Nat → Int64) × (Nat → Int64)) := ob (F_X6_controls sAl w1 (sAl 35)) (fun o1 => ob (F_X6_steps sS sAl sF sG sK o1) (fun o2 => some (o2.1, o2.2.1, o2.2.2.1, o2.2.2.2.1, o2.2.2.2.2)))
theorem kX6_stepsClosed_1 : (Cond.fieldLink RX6 7 "SelfTunerModel" "all" "[J") ∈ wsX6_stepsClosed := List.mem_of_getElem? (i := 1) rfl
theorem iX6_stepsClosed_X6 : ∀ w ∈ wsX60, w ∈ wsX6_stepsClosed := fun w h => List.mem_cons_of_mem _ (List.mem_append_right _ h)
set_option maxHeartbeats 4000000 in
set_option maxRecDepth 100000 in
theorem c_X6_stepsClosed (l : Launch) (dC : Nat → ClassId) (dI : Nat → Nat → Nat) (cyI cyJ cyB cyS cyD : ClassId) (h : Nat) (aAl : Nat) (aSv : Nat) (aAs : Nat) (aF : Nat) (aG : Nat) (aK : Nat) (aTx : Nat) (aRd : Nat) (sz : Nat) (sN : Int32) (sTh : Int32) (sS : Int64) (sTl : Int32) (sPl : Int32) (sAl : Nat → Int64) (sSv : Nat → Int64) (sAs : Nat → Int64) (sF : Nat → Int64) (sG : Nat → Int64) (sK : Nat → Int64) (sTx : Nat → Int32) (sRd : Nat → Int32) (w1 : Int64) {out : Int64 × (Nat → Int64) × (Nat → Int64) × (Nat → Int64) × (Nat → Int64)} (hF : F_X6_stepsClosed sS sAl sF sG sK w1 = some out) : Mv l yX6_stepsClosed wsX6_stepsClosed ({ frames := 4, cells := 0, slots := 0, locals := 114 } : Room) (dC, dI) [(cyI, .int), (cyJ, .long), (cyB, .byte), (cyS, .object "SelfTuner$State"), (cyD, .double)] sz [.ref h, .long w1] [(h, .inr (6, [.ref aAl, .ref aSv, .ref aAs, .int sN, .int sTh, .ref aF, .ref aG, .ref aK, .long sS, .ref aTx, .int sTl, .int sPl, .ref aRd])), (aAl, .inl (cyJ, 76, .inr (.inl sAl))), (aSv, .inl (cyJ, 304, .inr (.inl sSv))), (aAs, .inl (cyJ, 76, .inr (.inl sAs))), (aF, .inl (cyJ, 3, .inr (.inl sF))), (aG, .inl (cyJ, 3, .inr (.inl sG))), (aK, .inl (cyJ, 3, .inr (.inl sK))), (aTx, .inl (cyI, 120, .inl sTx)), (aRd, .inl (cyI, 63, .inl sRd))] [(h, .inr (6, [.ref aAl, .ref aSv, .ref aAs, .int sN, .int sTh, .ref aF, .ref aG, .ref aK, .long out.1, .ref aTx, .int sTl, .int sPl, .ref aRd])), (aAl, .inl (cyJ, 76, .inr (.inl out.2.1))), (aSv, .inl (cyJ, 304, .inr (.inl sSv))), (aAs, .inl (cyJ, 76, .inr (.inl sAs))), (aF, .inl (cyJ, 3, .inr (.inl out.2.2.1))), (aG, .inl (cyJ, 3, .inr (.inl out.2.2.2.1))), (aK, .inl (cyJ, 3, .inr (.inl out.2.2.2.2))), (aTx, .inl (cyI, 120, .inl sTx)), (aRd, .inl (cyI, 63, .inl sRd))] := by
  refine Met.ofW (cc := cX6_stepsClosed) (maxL := 3) (ret := none) (by decide) rfl ?_
  intro p e s m args below meth c s₁ B hml hv
  obtain ⟨rfl, hN, hsz, hP, hK, hD0⟩ := hv
  have hx := B.exec
  have hb := B.bytes
  have hr := B.returns
  have hts := atoms_spec (ws := wsX6_stepsClosed) B.pre
  have hown : s.vm.findClass RX6 = some m.cls := findClass_of_methodNamed B.named
  have hlocks := B.notSynchronized
  subst hsz
  have hD := hD0.self (sz := s.heap.size)
  generalize hAe : va_A [(h, .inr (6, [.ref aAl, .ref aSv, .ref aAs, .int sN, .int sTh, .ref aF, .ref aG, .ref aK, .long sS, .ref aTx, .int sTl, .int sPl, .ref aRd])), (aAl, .inl (cyJ, 76, .inr (.inl sAl))), (aSv, .inl (cyJ, 304, .inr (.inl sSv))), (aAs, .inl (cyJ, 76, .inr (.inl sAs))), (aF, .inl (cyJ, 3, .inr (.inl sF))), (aG, .inl (cyJ, 3, .inr (.inl sG))), (aK, .inl (cyJ, 3, .inr (.inl sK))), (aTx, .inl (cyI, 120, .inl sTx)), (aRd, .inl (cyI, 63, .inl sRd))] s.heap.size = A at hD ⊢
  have hA : ∀ q : Nat, s.heap.size ≤ q → A q := fun q h => by rw [← hAe]; exact Or.inr h
  have hS : va_S A s.heap s.heap [] := va_S.rf
  have hP : va_P (dC, dI) vwCl [(h, .inr (6, [.ref aAl, .ref aSv, .ref aAs, .int sN, .int sTh, .ref aF, .ref aG, .ref aK, .long sS, .ref aTx, .int sTl, .int sPl, .ref aRd])), (aAl, .inl (cyJ, 76, .inr (.inl sAl))), (aSv, .inl (cyJ, 304, .inr (.inl sSv))), (aAs, .inl (cyJ, 76, .inr (.inl sAs))), (aF, .inl (cyJ, 3, .inr (.inl sF))), (aG, .inl (cyJ, 3, .inr (.inl sG))), (aK, .inl (cyJ, 3, .inr (.inl sK))), (aTx, .inl (cyI, 120, .inl sTx)), (aRd, .inl (cyI, 63, .inl sRd))] s.heap := hP
  have hl := lv_entry ([.ref h, .long w1]) (n := 3) (Nat.le_of_ble_eq_true rfl)
  rw [lg_entry_eq]
  generalize (lg_sl ([.ref h, .long w1]) ++ List.replicate (3 - (lg_sl ([.ref h, .long w1])).length) Slot.unset).toArray = ls at hl ⊢
  have hl : lv_has ls 3 [(0, .ref h), (1, .long w1)] := hl
  unfold F_X6_stepsClosed at hF
  refine lv_aload_n hx hb dX6_stepsClosed_0 rfl (lv_at hl 0 rfl) ?_
  refine lv_aload_n hx hb dX6_stepsClosed_1 rfl (lv_at hl 0 rfl) ?_
  refine lv_lload_n hx hb dX6_stepsClosed_2 rfl (lv_at hl 1 rfl) ?_
  refine lv_aload_n hx hb dX6_stepsClosed_3 rfl (lv_at hl 0 rfl) ?_
  refine va_get (D := (dC, dI)) (ci := 6) (v := .ref aAl) (C := RX6) (T := TX6) (N := 13) hx hb hts iX6_stepsClosed_X6 hown hK hP 0 rfl rfl 0 (by decide) (hts _ kX6_stepsClosed_1) (fun _ h9 => h9) rfl dX6_stepsClosed_4 ?_
  refine lv_bipush (v := 35) hx hb dX6_stepsClosed_7 (by decide) ?_
  refine x_lald hx hb hK hP 1 1 rfl rfl (show (35 : Int32).toNatClampNeg = 35 by decide) (inbK (k := 35) (by decide) rfl) dX6_stepsClosed_9 ?_
  obtain ⟨o1, ho1, hF⟩ := ob_e hF
  refine x_calll (wr := []) (ws' := [(h, .inr (6, [.ref aAl, .ref aSv, .ref aAs, .int sN, .int sTh, .ref aF, .ref aG, .ref aK, .long sS, .ref aTx, .int sTl, .int sPl, .ref aRd])), (aAl, .inl (cyJ, 76, .inr (.inl sAl))), (aSv, .inl (cyJ, 304, .inr (.inl sSv))), (aAs, .inl (cyJ, 76, .inr (.inl sAs))), (aF, .inl (cyJ, 3, .inr (.inl sF))), (aG, .inl (cyJ, 3, .inr (.inl sG))), (aK, .inl (cyJ, 3, .inr (.inl sK))), (aTx, .inl (cyI, 120, .inl sTx)), (aRd, .inl (cyI, 63, .inl sRd))]) (va_runV (As := [.long w1, .long (sAl 35)]) (rest := [.ref h]) ⟨hx, hb, hml, hown, hts⟩ (c_X6_controls l dC dI cyI cyJ cyB cyS cyD h aAl aSv aAs aF aG aK aTx aRd s.heap.size sN sTh sS sTl sPl sAl sSv sAs sF sG sK sTx sRd w1 (sAl 35) ho1) (cwV 2 hts gX6_stepsClosed_X6_controls rfl rfl rfl (by decide +kernel) ⟨Nat.le_of_ble_eq_true rfl, Nat.le_of_ble_eq_true rfl⟩) ⟨cPre_blind, va_recv hK hP (ci := 6) (q0 := 0) rfl rfl, x_pre hN hP hD hK [0, 1, 2, 3, 4, 5, 6, 7, 8] rfl rfl⟩ rfl rfl hl.1 rfl (lv_room (Nat.le_of_ble_eq_true rfl)) dX6_stepsClosed_10 ⟨Nat.le_of_ble_eq_true rfl, Nat.le_of_ble_eq_true rfl⟩) hP hD hS hA [0, 1, 2, 3, 4, 5, 6, 7, 8] [] [0, 1, 2, 3, 4, 5, 6, 7, 8] rfl rfl rfl (by decide) rfl rfl (fun H locs hP hD hS => ?_)
  obtain ⟨o2, ho2, hF⟩ := ob_e hF
  refine x_callv (wr := []) (ws' := [(h, .inr (6, [.ref aAl, .ref aSv, .ref aAs, .int sN, .int sTh, .ref aF, .ref aG, .ref aK, .long o2.1, .ref aTx, .int sTl, .int sPl, .ref aRd])), (aAl, .inl (cyJ, 76, .inr (.inl o2.2.1))), (aSv, .inl (cyJ, 304, .inr (.inl sSv))), (aAs, .inl (cyJ, 76, .inr (.inl sAs))), (aF, .inl (cyJ, 3, .inr (.inl o2.2.2.1))), (aG, .inl (cyJ, 3, .inr (.inl o2.2.2.2.1))), (aK, .inl (cyJ, 3, .inr (.inl o2.2.2.2.2))), (aTx, .inl (cyI, 120, .inl sTx)), (aRd, .inl (cyI, 63, .inl sRd))]) (va_runV (As := [.long o1]) (rest := []) ⟨hx, hb, hml, hown, hts⟩ (c_X6_steps l dC dI cyI cyJ cyB cyS cyD h aAl aSv aAs aF aG aK aTx aRd H.size sN sTh sS sTl sPl sAl sSv sAs sF sG sK sTx sRd o1 ho2) (cwV 1 hts gX6_stepsClosed_X6_steps rfl rfl rfl (by decide +kernel) ⟨Nat.le_of_ble_eq_true rfl, Nat.le_of_ble_eq_true rfl⟩) ⟨cPre_blind, va_recv hK hP (ci := 6) (q0 := 0) rfl rfl, x_pre hN hP hD hK [0, 1, 2, 3, 4, 5, 6, 7, 8] rfl rfl⟩ rfl rfl hl.1 rfl (lv_room (Nat.le_of_ble_eq_true rfl)) dX6_stepsClosed_13 ⟨Nat.le_of_ble_eq_true rfl, Nat.le_of_ble_eq_true rfl⟩) hP hD hS hA [0, 1, 2, 3, 4, 5, 6, 7, 8] [] [0, 1, 2, 3, 4, 5, 6, 7, 8] rfl rfl rfl (by decide) rfl rfl (fun H locs hP hD hS => ?_)
  obtain rfl := some_e hF
  exact W.vret hx hb hr (fun t ht hW => ⟨⟨(), rfl, trivial, ⟨by rw [ht]; exact hP, va_K.moved hW.alike hK, hD⟩⟩, hS.F ht⟩) hS.2.2 dX6_stepsClosed_16
