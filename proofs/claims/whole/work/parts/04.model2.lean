def F_X6_setBox (sN : Int32) (sAl : Nat → Int64) (sSv : Nat → Int64) (w1 : Int32) (w2 : Int32) (w3 : Int32) : Option (Int32 × Int32 × Int32 × (Nat → Int64) × (Nat → Int64)) := ob (F_X6_in w1.toInt64 0 2) (fun o1 => ob (F_X6_in w2.toInt64 (-1310720) 1310720) (fun o2 => rg (α := Int32) (fun K8 => if (o2 : Int32) = 0 then (K8 0) else (ob (F_X6_in w3.toInt64 (-1310720) 1310720) (fun o4 => if (o4 : Int32) = 0 then (K8 0) else (if (w3 : Int32) < w2 then (K8 0) else (K8 1))))) (fun x7 => ob (F_X6_goes o1 x7) (fun o9 => if (o9.1 : Int32) = 0 then (some (0, sN, o9.2, sAl, sSv)) else (ob (F_X6_save sN sAl sSv) (fun o11 => ck (inb (7 + (2 * w1)) 76) (lt_ (α := Nat → Int64) (vp_updL sAl ((7 + (2 * w1)).toNatClampNeg) w2.toInt64) (fun v13 => ck (inb ((7 + (2 * w1)) + 1) 76) (lt_ (α := Nat → Int64) (vp_updL v13 (((7 + (2 * w1)) + 1).toNatClampNeg) w3.toInt64) (fun v15 => ob (F_X6_boxes v15 w1) (fun o16 => if (o16.1 : Int32) = 0 then (some (0, o11.1, o9.2, o16.2, o11.2)) else (some (1, o11.1, o9.2, o16.2, o11.2)))))))))))))
theorem kX6_setBox_1 : (Cond.constantLong RX6 37 (2)) ∈ wsX6_setBox := List.mem_of_getElem? (i := 1) rfl
theorem kX6_setBox_2 : (Cond.constantLong RX6 45 (-1310720)) ∈ wsX6_setBox := List.mem_of_getElem? (i := 2) rfl
theorem kX6_setBox_3 : (Cond.constantLong RX6 47 (1310720)) ∈ wsX6_setBox := List.mem_of_getElem? (i := 3) rfl
theorem kX6_setBox_4 : (Cond.fieldLink RX6 7 "SelfTunerModel" "all" "[J") ∈ wsX6_setBox := List.mem_of_getElem? (i := 4) rfl
theorem iX6_setBox_X6 : ∀ w ∈ wsX60, w ∈ wsX6_setBox := fun w h => List.mem_cons_of_mem _ (List.mem_append_right _ h)
set_option maxHeartbeats 4000000 in
set_option maxRecDepth 100000 in
theorem c_X6_setBox (l : Launch) (dC : Nat → ClassId) (dI : Nat → Nat → Nat) (cyI cyJ cyB cyS cyD : ClassId) (h : Nat) (aAl : Nat) (aSv : Nat) (aAs : Nat) (aF : Nat) (aG : Nat) (aK : Nat) (aTx : Nat) (aRd : Nat) (sz : Nat) (sN : Int32) (sTh : Int32) (sS : Int64) (sTl : Int32) (sPl : Int32) (sAl : Nat → Int64) (sSv : Nat → Int64) (sAs : Nat → Int64) (sF : Nat → Int64) (sG : Nat → Int64) (sK : Nat → Int64) (sTx : Nat → Int32) (sRd : Nat → Int32) (w1 : Int32) (w2 : Int32) (w3 : Int32) {out : Int32 × Int32 × Int32 × (Nat → Int64) × (Nat → Int64)} (hF : F_X6_setBox sN sAl sSv w1 w2 w3 = some out) : Mi l yX6_setBox wsX6_setBox ({ frames := 2, cells := 0, slots := 0, locals := 48 } : Room) (dC, dI) [(cyI, .int), (cyJ, .long), (cyB, .byte), (cyS, .object "SelfTuner$State"), (cyD, .double)] sz [.ref h, .int w1, .int w2, .int w3] [(h, .inr (6, [.ref aAl, .ref aSv, .ref aAs, .int sN, .int sTh, .ref aF, .ref aG, .ref aK, .long sS, .ref aTx, .int sTl, .int sPl, .ref aRd])), (aAl, .inl (cyJ, 76, .inr (.inl sAl))), (aSv, .inl (cyJ, 304, .inr (.inl sSv))), (aAs, .inl (cyJ, 76, .inr (.inl sAs))), (aF, .inl (cyJ, 3, .inr (.inl sF))), (aG, .inl (cyJ, 3, .inr (.inl sG))), (aK, .inl (cyJ, 3, .inr (.inl sK))), (aTx, .inl (cyI, 120, .inl sTx)), (aRd, .inl (cyI, 63, .inl sRd))] out.1 [(h, .inr (6, [.ref aAl, .ref aSv, .ref aAs, .int out.2.1, .int out.2.2.1, .ref aF, .ref aG, .ref aK, .long sS, .ref aTx, .int sTl, .int sPl, .ref aRd])), (aAl, .inl (cyJ, 76, .inr (.inl out.2.2.2.1))), (aSv, .inl (cyJ, 304, .inr (.inl out.2.2.2.2))), (aAs, .inl (cyJ, 76, .inr (.inl sAs))), (aF, .inl (cyJ, 3, .inr (.inl sF))), (aG, .inl (cyJ, 3, .inr (.inl sG))), (aK, .inl (cyJ, 3, .inr (.inl sK))), (aTx, .inl (cyI, 120, .inl sTx)), (aRd, .inl (cyI, 63, .inl sRd))] := by
  refine Met.ofW (cc := cX6_setBox) (maxL := 4) (ret := (some .int)) (by decide) rfl ?_
  intro p e s m args below meth c s₁ B hml hv
  obtain ⟨rfl, hN, hsz, hP, hK, hD0⟩ := hv
  have hx := B.exec
  have hb := B.bytes
  have hr := B.returns
  have hts := atoms_spec (ws := wsX6_setBox) B.pre
  have hown : s.vm.findClass RX6 = some m.cls := findClass_of_methodNamed B.named
  have hlocks := B.notSynchronized
  subst hsz
  have hD := hD0.self (sz := s.heap.size)
  generalize hAe : va_A [(h, .inr (6, [.ref aAl, .ref aSv, .ref aAs, .int sN, .int sTh, .ref aF, .ref aG, .ref aK, .long sS, .ref aTx, .int sTl, .int sPl, .ref aRd])), (aAl, .inl (cyJ, 76, .inr (.inl sAl))), (aSv, .inl (cyJ, 304, .inr (.inl sSv))), (aAs, .inl (cyJ, 76, .inr (.inl sAs))), (aF, .inl (cyJ, 3, .inr (.inl sF))), (aG, .inl (cyJ, 3, .inr (.inl sG))), (aK, .inl (cyJ, 3, .inr (.inl sK))), (aTx, .inl (cyI, 120, .inl sTx)), (aRd, .inl (cyI, 63, .inl sRd))] s.heap.size = A at hD ⊢
  have hA : ∀ q : Nat, s.heap.size ≤ q → A q := fun q h => by rw [← hAe]; exact Or.inr h
  have hS : va_S A s.heap s.heap [] := va_S.rf
  have hP : va_P (dC, dI) vwCl [(h, .inr (6, [.ref aAl, .ref aSv, .ref aAs, .int sN, .int sTh, .ref aF, .ref aG, .ref aK, .long sS, .ref aTx, .int sTl, .int sPl, .ref aRd])), (aAl, .inl (cyJ, 76, .inr (.inl sAl))), (aSv, .inl (cyJ, 304, .inr (.inl sSv))), (aAs, .inl (cyJ, 76, .inr (.inl sAs))), (aF, .inl (cyJ, 3, .inr (.inl sF))), (aG, .inl (cyJ, 3, .inr (.inl sG))), (aK, .inl (cyJ, 3, .inr (.inl sK))), (aTx, .inl (cyI, 120, .inl sTx)), (aRd, .inl (cyI, 63, .inl sRd))] s.heap := hP
  have hl := lv_entry ([.ref h, .int w1, .int w2, .int w3]) (n := 4) (Nat.le_of_ble_eq_true rfl)
  rw [lg_entry_eq]
  generalize (lg_sl ([.ref h, .int w1, .int w2, .int w3]) ++ List.replicate (4 - (lg_sl ([.ref h, .int w1, .int w2, .int w3])).length) Slot.unset).toArray = ls at hl ⊢
  have hl : lv_has ls 4 [(0, .ref h), (1, .int w1), (2, .int w2), (3, .int w3)] := hl
  unfold F_X6_setBox at hF
  refine lv_aload_n hx hb dX6_setBox_0 rfl (lv_at hl 0 rfl) ?_
  refine lv_iload_n hx hb dX6_setBox_1 rfl (lv_at hl 1 rfl) ?_
  refine lv_i2l (v := w1.toInt64) hx hb dX6_setBox_2 rfl ?_
  refine lv_lconst (v := 0) hx hb dX6_setBox_3 (by decide) ?_
  refine lv_ldc2 (v := 2) hx hb hown (hts _ kX6_setBox_1) dX6_setBox_4 ?_
  obtain ⟨o1, ho1, hF⟩ := ob_e hF
  refine x_callzi (va_runS (As := [.long w1.toInt64, .long 0, .long 2]) (rest := [.ref h]) ⟨hx, hb, hml, hown, hts⟩ (c_X6_in l w1.toInt64 0 2 ho1) (va_cwS 3 hts gX6_setBox_X6_in rfl rfl rfl (by decide +kernel) ⟨Nat.le_of_ble_eq_true rfl, Nat.le_of_ble_eq_true rfl⟩) ⟨true_blind, fun _ _ _ => ⟨rfl, trivial⟩⟩ rfl rfl hl.1 rfl (lv_room (Nat.le_of_ble_eq_true rfl)) dX6_setBox_7 ⟨Nat.le_of_ble_eq_true rfl, Nat.le_of_ble_eq_true rfl⟩) ?_
  refine lv_iload_n hx hb dX6_setBox_10 rfl (lv_at hl 2 rfl) ?_
  refine lv_i2l (v := w2.toInt64) hx hb dX6_setBox_11 rfl ?_
  refine lv_ldc2 (v := (-1310720)) hx hb hown (hts _ kX6_setBox_2) dX6_setBox_12 ?_
  refine lv_ldc2 (v := 1310720) hx hb hown (hts _ kX6_setBox_3) dX6_setBox_15 ?_
  obtain ⟨o2, ho2, hF⟩ := ob_e hF
  refine x_callzi (va_runS (As := [.long w2.toInt64, .long (-1310720), .long 1310720]) (rest := [.int o1, .ref h]) ⟨hx, hb, hml, hown, hts⟩ (c_X6_in l w2.toInt64 (-1310720) 1310720 ho2) (va_cwS 3 hts gX6_setBox_X6_in rfl rfl rfl (by decide +kernel) ⟨Nat.le_of_ble_eq_true rfl, Nat.le_of_ble_eq_true rfl⟩) ⟨true_blind, fun _ _ _ => ⟨rfl, trivial⟩⟩ rfl rfl hl.1 rfl (lv_room (Nat.le_of_ble_eq_true rfl)) dX6_setBox_18 ⟨Nat.le_of_ble_eq_true rfl, Nat.le_of_ble_eq_true rfl⟩) ?_
  obtain ⟨K8, hK8, hF⟩ := rg_e hF
  have Jx7 : ∀ (x7 : Int32) (H : Heap) (locs : List Loc) (ls : Array Slot), K8 x7 = some out → va_P (dC, dI) vwCl [(h, .inr (6, [.ref aAl, .ref aSv, .ref aAs, .int sN, .int sTh, .ref aF, .ref aG, .ref aK, .long sS, .ref aTx, .int sTl, .int sPl, .ref aRd])), (aAl, .inl (cyJ, 76, .inr (.inl sAl))), (aSv, .inl (cyJ, 304, .inr (.inl sSv))), (aAs, .inl (cyJ, 76, .inr (.inl sAs))), (aF, .inl (cyJ, 3, .inr (.inl sF))), (aG, .inl (cyJ, 3, .inr (.inl sG))), (aK, .inl (cyJ, 3, .inr (.inl sK))), (aTx, .inl (cyI, 120, .inl sTx)), (aRd, .inl (cyI, 63, .inl sRd))] H → va_D A [(h, .inr (6, [.ref aAl, .ref aSv, .ref aAs, .int sN, .int sTh, .ref aF, .ref aG, .ref aK, .long sS, .ref aTx, .int sTl, .int sPl, .ref aRd])), (aAl, .inl (cyJ, 76, .inr (.inl sAl))), (aSv, .inl (cyJ, 304, .inr (.inl sSv))), (aAs, .inl (cyJ, 76, .inr (.inl sAs))), (aF, .inl (cyJ, 3, .inr (.inl sF))), (aG, .inl (cyJ, 3, .inr (.inl sG))), (aK, .inl (cyJ, 3, .inr (.inl sK))), (aTx, .inl (cyI, 120, .inl sTx)), (aRd, .inl (cyI, 63, .inl sRd))] → va_S A s.heap H locs → lv_has ls 4 [(0, .ref h), (1, .int w1), (2, .int w2), (3, .int w3)] → W p l e (headSpec wsX6_setBox ({ frames := 2, cells := 0, slots := 0, locals := 48 } : Room)).room s m ([.ref h, .int w1, .int w2, .int w3] : List Value).toArray below meth c H locs 0 0 (MQ below (va_Qi (fun (r' : Int32) (_ : Unit) => r' = out.1) (cPost (dC, dI) [(cyI, .int), (cyJ, .long), (cyB, .byte), (cyS, .object "SelfTuner$State"), (cyD, .double)] [(h, .inr (6, [.ref aAl, .ref aSv, .ref aAs, .int out.2.1, .int out.2.2.1, .ref aF, .ref aG, .ref aK, .long sS, .ref aTx, .int sTl, .int sPl, .ref aRd])), (aAl, .inl (cyJ, 76, .inr (.inl out.2.2.2.1))), (aSv, .inl (cyJ, 304, .inr (.inl out.2.2.2.2))), (aAs, .inl (cyJ, 76, .inr (.inl sAs))), (aF, .inl (cyJ, 3, .inr (.inl sF))), (aG, .inl (cyJ, 3, .inr (.inl sG))), (aK, .inl (cyJ, 3, .inr (.inl sK))), (aTx, .inl (cyI, 120, .inl sTx)), (aRd, .inl (cyI, 63, .inl sRd))] A) A) ([.ref h, .int w1, .int w2, .int w3] : List Value).toArray s 0 0 A) (F0 m 48 ls [.int x7, .int o1, .ref h]) := by
    intro x7 H locs ls hF hP hD hS hl
    rw [hK8] at hF
    obtain ⟨o9, ho9, hF⟩ := ob_e hF
    refine x_calli (wr := []) (ws' := [(h, .inr (6, [.ref aAl, .ref aSv, .ref aAs, .int sN, .int o9.2, .ref aF, .ref aG, .ref aK, .long sS, .ref aTx, .int sTl, .int sPl, .ref aRd])), (aAl, .inl (cyJ, 76, .inr (.inl sAl))), (aSv, .inl (cyJ, 304, .inr (.inl sSv))), (aAs, .inl (cyJ, 76, .inr (.inl sAs))), (aF, .inl (cyJ, 3, .inr (.inl sF))), (aG, .inl (cyJ, 3, .inr (.inl sG))), (aK, .inl (cyJ, 3, .inr (.inl sK))), (aTx, .inl (cyI, 120, .inl sTx)), (aRd, .inl (cyI, 63, .inl sRd))]) (va_runV (As := [.int o1, .int x7]) (rest := []) ⟨hx, hb, hml, hown, hts⟩ (c_X6_goes l dC dI cyI cyJ cyB cyS cyD h aAl aSv aAs aF aG aK aTx aRd H.size sN sTh sS sTl sPl sAl sSv sAs sF sG sK sTx sRd o1 x7 ho9) (cwV 2 hts gX6_setBox_X6_goes rfl rfl rfl (by decide +kernel) ⟨Nat.le_of_ble_eq_true rfl, Nat.le_of_ble_eq_true rfl⟩) ⟨cPre_blind, va_recv hK hP (ci := 6) (q0 := 0) rfl rfl, x_pre hN hP hD hK [0, 1, 2, 3, 4, 5, 6, 7, 8] rfl rfl⟩ rfl rfl hl.1 rfl (lv_room (Nat.le_of_ble_eq_true rfl)) dX6_setBox_48 ⟨Nat.le_of_ble_eq_true rfl, Nat.le_of_ble_eq_true rfl⟩) hP hD hS hA [0, 1, 2, 3, 4, 5, 6, 7, 8] [] [0, 1, 2, 3, 4, 5, 6, 7, 8] rfl rfl rfl (by decide) rfl rfl (fun H locs hP hD hS => ?_)
    refine lv_if_ne (tgt := 56) hx hb dX6_setBox_51 (by decide) (fun c10 => ?_) (fun c10 => ?_)
    · have hF := ite_f hF c10
      refine lv_aload_n hx hb dX6_setBox_56 rfl (lv_at hl 0 rfl) ?_
      obtain ⟨o11, ho11, hF⟩ := ob_e hF
      refine x_callv (wr := []) (ws' := [(h, .inr (6, [.ref aAl, .ref aSv, .ref aAs, .int o11.1, .int o9.2, .ref aF, .ref aG, .ref aK, .long sS, .ref aTx, .int sTl, .int sPl, .ref aRd])), (aAl, .inl (cyJ, 76, .inr (.inl sAl))), (aSv, .inl (cyJ, 304, .inr (.inl o11.2))), (aAs, .inl (cyJ, 76, .inr (.inl sAs))), (aF, .inl (cyJ, 3, .inr (.inl sF))), (aG, .inl (cyJ, 3, .inr (.inl sG))), (aK, .inl (cyJ, 3, .inr (.inl sK))), (aTx, .inl (cyI, 120, .inl sTx)), (aRd, .inl (cyI, 63, .inl sRd))]) (va_runV (As := []) (rest := []) ⟨hx, hb, hml, hown, hts⟩ (c_X6_save l dC dI cyI cyJ cyB cyS cyD h aAl aSv aAs aF aG aK aTx aRd H.size sN o9.2 sS sTl sPl sAl sSv sAs sF sG sK sTx sRd ho11) (cwV 0 hts gX6_setBox_X6_save rfl rfl rfl (by decide +kernel) ⟨Nat.le_of_ble_eq_true rfl, Nat.le_of_ble_eq_true rfl⟩) ⟨cPre_blind, va_recv hK hP (ci := 6) (q0 := 0) rfl rfl, x_pre hN hP hD hK [0, 1, 2, 3, 4, 5, 6, 7, 8] rfl rfl⟩ rfl rfl hl.1 rfl (lv_room (Nat.le_of_ble_eq_true rfl)) dX6_setBox_57 ⟨Nat.le_of_ble_eq_true rfl, Nat.le_of_ble_eq_true rfl⟩) hP hD hS hA [0, 1, 2, 3, 4, 5, 6, 7, 8] [] [0, 1, 2, 3, 4, 5, 6, 7, 8] rfl rfl rfl (by decide) rfl rfl (fun H locs hP hD hS => ?_)
      refine lv_aload_n hx hb dX6_setBox_60 rfl (lv_at hl 0 rfl) ?_
      refine va_get (D := (dC, dI)) (ci := 6) (v := .ref aAl) (C := RX6) (T := TX6) (N := 13) hx hb hts iX6_setBox_X6 hown hK hP 0 rfl rfl 0 (by decide) (hts _ kX6_setBox_4) (fun _ h9 => h9) rfl dX6_setBox_61 ?_
      refine lv_bipush (v := 7) hx hb dX6_setBox_64 (by decide) ?_
      refine lv_iconst (v := 2) hx hb dX6_setBox_66 (by decide) ?_
      refine lv_iload_n hx hb dX6_setBox_67 rfl (lv_at hl 1 rfl) ?_
      refine lv_imul hx hb dX6_setBox_68 ?_
      refine lv_iadd hx hb dX6_setBox_69 ?_
      refine lv_iload_n hx hb dX6_setBox_70 rfl (lv_at hl 2 rfl) ?_
      refine lv_i2l (v := w2.toInt64) hx hb dX6_setBox_71 rfl ?_
      obtain ⟨g12, hF⟩ := ck_e hF
      obtain ⟨v13, hv13, hF⟩ := lt_e hF
      refine x_last (ws' := [(h, .inr (6, [.ref aAl, .ref aSv, .ref aAs, .int o11.1, .int o9.2, .ref aF, .ref aG, .ref aK, .long sS, .ref aTx, .int sTl, .int sPl, .ref aRd])), (aAl, .inl (cyJ, 76, .inr (.inl v13))), (aSv, .inl (cyJ, 304, .inr (.inl o11.2))), (aAs, .inl (cyJ, 76, .inr (.inl sAs))), (aF, .inl (cyJ, 3, .inr (.inl sF))), (aG, .inl (cyJ, 3, .inr (.inl sG))), (aK, .inl (cyJ, 3, .inr (.inl sK))), (aTx, .inl (cyI, 120, .inl sTx)), (aRd, .inl (cyI, 63, .inl sRd))]) hx hb hK hP hD hS 1 1 rfl rfl rfl g12 hv13 rfl dX6_setBox_72 (fun H locs hP hD hS => ?_)
      refine lv_aload_n hx hb dX6_setBox_73 rfl (lv_at hl 0 rfl) ?_
      refine va_get (D := (dC, dI)) (ci := 6) (v := .ref aAl) (C := RX6) (T := TX6) (N := 13) hx hb hts iX6_setBox_X6 hown hK hP 0 rfl rfl 0 (by decide) (hts _ kX6_setBox_4) (fun _ h9 => h9) rfl dX6_setBox_74 ?_
      refine lv_bipush (v := 7) hx hb dX6_setBox_77 (by decide) ?_
      refine lv_iconst (v := 2) hx hb dX6_setBox_79 (by decide) ?_
      refine lv_iload_n hx hb dX6_setBox_80 rfl (lv_at hl 1 rfl) ?_
      refine lv_imul hx hb dX6_setBox_81 ?_
      refine lv_iadd hx hb dX6_setBox_82 ?_
      refine lv_iconst (v := 1) hx hb dX6_setBox_83 (by decide) ?_
      refine lv_iadd hx hb dX6_setBox_84 ?_
      refine lv_iload_n hx hb dX6_setBox_85 rfl (lv_at hl 3 rfl) ?_
      refine lv_i2l (v := w3.toInt64) hx hb dX6_setBox_86 rfl ?_
      obtain ⟨g14, hF⟩ := ck_e hF
      obtain ⟨v15, hv15, hF⟩ := lt_e hF
      refine x_last (ws' := [(h, .inr (6, [.ref aAl, .ref aSv, .ref aAs, .int o11.1, .int o9.2, .ref aF, .ref aG, .ref aK, .long sS, .ref aTx, .int sTl, .int sPl, .ref aRd])), (aAl, .inl (cyJ, 76, .inr (.inl v15))), (aSv, .inl (cyJ, 304, .inr (.inl o11.2))), (aAs, .inl (cyJ, 76, .inr (.inl sAs))), (aF, .inl (cyJ, 3, .inr (.inl sF))), (aG, .inl (cyJ, 3, .inr (.inl sG))), (aK, .inl (cyJ, 3, .inr (.inl sK))), (aTx, .inl (cyI, 120, .inl sTx)), (aRd, .inl (cyI, 63, .inl sRd))]) hx hb hK hP hD hS 1 1 rfl rfl rfl g14 hv15 rfl dX6_setBox_87 (fun H locs hP hD hS => ?_)
      refine lv_aload_n hx hb dX6_setBox_88 rfl (lv_at hl 0 rfl) ?_
      refine lv_iload_n hx hb dX6_setBox_89 rfl (lv_at hl 1 rfl) ?_
      obtain ⟨o16, ho16, hF⟩ := ob_e hF
      refine x_calli (wr := []) (ws' := [(h, .inr (6, [.ref aAl, .ref aSv, .ref aAs, .int o11.1, .int o9.2, .ref aF, .ref aG, .ref aK, .long sS, .ref aTx, .int sTl, .int sPl, .ref aRd])), (aAl, .inl (cyJ, 76, .inr (.inl o16.2))), (aSv, .inl (cyJ, 304, .inr (.inl o11.2))), (aAs, .inl (cyJ, 76, .inr (.inl sAs))), (aF, .inl (cyJ, 3, .inr (.inl sF))), (aG, .inl (cyJ, 3, .inr (.inl sG))), (aK, .inl (cyJ, 3, .inr (.inl sK))), (aTx, .inl (cyI, 120, .inl sTx)), (aRd, .inl (cyI, 63, .inl sRd))]) (va_runV (As := [.int w1]) (rest := []) ⟨hx, hb, hml, hown, hts⟩ (c_X6_boxes l dC dI cyI cyJ cyB cyS cyD h aAl aSv aAs aF aG aK aTx aRd H.size o11.1 o9.2 sS sTl sPl v15 o11.2 sAs sF sG sK sTx sRd w1 ho16) (cwV 1 hts gX6_setBox_X6_boxes rfl rfl rfl (by decide +kernel) ⟨Nat.le_of_ble_eq_true rfl, Nat.le_of_ble_eq_true rfl⟩) ⟨cPre_blind, va_recv hK hP (ci := 6) (q0 := 0) rfl rfl, x_pre hN hP hD hK [0, 1, 2, 3, 4, 5, 6, 7, 8] rfl rfl⟩ rfl rfl hl.1 rfl (lv_room (Nat.le_of_ble_eq_true rfl)) dX6_setBox_90 ⟨Nat.le_of_ble_eq_true rfl, Nat.le_of_ble_eq_true rfl⟩) hP hD hS hA [0, 1, 2, 3, 4, 5, 6, 7, 8] [] [0, 1, 2, 3, 4, 5, 6, 7, 8] rfl rfl rfl (by decide) rfl rfl (fun H locs hP hD hS => ?_)
      refine lv_if_eq (tgt := 100) hx hb dX6_setBox_93 (by decide) (fun c17 => ?_) (fun c17 => ?_)
      · have hF := ite_t hF c17
        refine lv_iconst (v := 0) hx hb dX6_setBox_100 (by decide) ?_
        obtain rfl := some_e hF
        exact W.iret (v := 0) hx hb hr (fun t ht hW => ⟨⟨0, (), rfl, rfl, ⟨by rw [ht]; exact hP, va_K.moved hW.alike hK, hD⟩⟩, hS.F ht⟩) hS.2.2 dX6_setBox_101
      · have hF := ite_f hF c17
        refine lv_iconst (v := 1) hx hb dX6_setBox_96 (by decide) ?_
        refine lv_goto (tgt := 101) hx hb dX6_setBox_97 (by decide) ?_
        obtain rfl := some_e hF
        exact W.iret (v := 1) hx hb hr (fun t ht hW => ⟨⟨1, (), rfl, rfl, ⟨by rw [ht]; exact hP, va_K.moved hW.alike hK, hD⟩⟩, hS.F ht⟩) hS.2.2 dX6_setBox_101
    · have hF := ite_t hF c10
      refine lv_iconst (v := 0) hx hb dX6_setBox_54 (by decide) ?_
      obtain rfl := some_e hF
      exact W.iret (v := 0) hx hb hr (fun t ht hW => ⟨⟨0, (), rfl, rfl, ⟨by rw [ht]; exact hP, va_K.moved hW.alike hK, hD⟩⟩, hS.F ht⟩) hS.2.2 dX6_setBox_55
  refine lv_if_eq (tgt := 47) hx hb dX6_setBox_21 (by decide) (fun c3 => ?_) (fun c3 => ?_)
  · have hF := ite_t hF c3
    refine lv_iconst (v := 0) hx hb dX6_setBox_47 (by decide) ?_
    exact Jx7 _ _ _ _ hF hP hD hS (lv_sub hl [0, 1, 2, 3] rfl)
  · have hF := ite_f hF c3
    refine lv_iload_n hx hb dX6_setBox_24 rfl (lv_at hl 3 rfl) ?_
    refine lv_i2l (v := w3.toInt64) hx hb dX6_setBox_25 rfl ?_
    refine lv_ldc2 (v := (-1310720)) hx hb hown (hts _ kX6_setBox_2) dX6_setBox_26 ?_
    refine lv_ldc2 (v := 1310720) hx hb hown (hts _ kX6_setBox_3) dX6_setBox_29 ?_
    obtain ⟨o4, ho4, hF⟩ := ob_e hF
    refine x_callzi (va_runS (As := [.long w3.toInt64, .long (-1310720), .long 1310720]) (rest := [.int o1, .ref h]) ⟨hx, hb, hml, hown, hts⟩ (c_X6_in l w3.toInt64 (-1310720) 1310720 ho4) (va_cwS 3 hts gX6_setBox_X6_in rfl rfl rfl (by decide +kernel) ⟨Nat.le_of_ble_eq_true rfl, Nat.le_of_ble_eq_true rfl⟩) ⟨true_blind, fun _ _ _ => ⟨rfl, trivial⟩⟩ rfl rfl hl.1 rfl (lv_room (Nat.le_of_ble_eq_true rfl)) dX6_setBox_32 ⟨Nat.le_of_ble_eq_true rfl, Nat.le_of_ble_eq_true rfl⟩) ?_
    refine lv_if_eq (tgt := 47) hx hb dX6_setBox_35 (by decide) (fun c5 => ?_) (fun c5 => ?_)
    · have hF := ite_t hF c5
      refine lv_iconst (v := 0) hx hb dX6_setBox_47 (by decide) ?_
      exact Jx7 _ _ _ _ hF hP hD hS (lv_sub hl [0, 1, 2, 3] rfl)
    · have hF := ite_f hF c5
      refine lv_iload_n hx hb dX6_setBox_38 rfl (lv_at hl 2 rfl) ?_
      refine lv_iload_n hx hb dX6_setBox_39 rfl (lv_at hl 3 rfl) ?_
      refine lv_icmp_gt (tgt := 47) hx hb dX6_setBox_40 (by decide) (fun c6 => ?_) (fun c6 => ?_)
      · have hF := ite_t hF c6
        refine lv_iconst (v := 0) hx hb dX6_setBox_47 (by decide) ?_
        exact Jx7 _ _ _ _ hF hP hD hS (lv_sub hl [0, 1, 2, 3] rfl)
      · have hF := ite_f hF c6
        refine lv_iconst (v := 1) hx hb dX6_setBox_43 (by decide) ?_
        refine lv_goto (tgt := 48) hx hb dX6_setBox_44 (by decide) ?_
        exact Jx7 _ _ _ _ hF hP hD hS (lv_sub hl [0, 1, 2, 3] rfl)
def F_X6_box (sAl : Nat → Int64) (w1 : Int32) (w2 : Int32) : Option (Int32 × Int32) := ob (F_X6_in w1.toInt64 0 2) (fun o1 => ob (F_X6_goes o1 1) (fun o2 => if (o2.1 : Int32) = 0 then (some (0, o2.2)) else (rg (α := Int32) (fun K6 => if (w2 : Int32) = 0 then (K6 0) else (K6 1)) (fun x5 => ck (inb ((7 + (2 * w1)) + x5) 76) (some ((sAl (((7 + (2 * w1)) + x5).toNatClampNeg)).toInt32, o2.2))))))
theorem kX6_box_1 : (Cond.constantLong RX6 37 (2)) ∈ wsX6_box := List.mem_of_getElem? (i := 1) rfl
theorem kX6_box_2 : (Cond.fieldLink RX6 7 "SelfTunerModel" "all" "[J") ∈ wsX6_box := List.mem_of_getElem? (i := 2) rfl
theorem iX6_box_X6 : ∀ w ∈ wsX60, w ∈ wsX6_box := fun w h => List.mem_cons_of_mem _ (List.mem_append_right _ h)
set_option maxHeartbeats 4000000 in
set_option maxRecDepth 100000 in
theorem c_X6_box (l : Launch) (dC : Nat → ClassId) (dI : Nat → Nat → Nat) (cyI cyJ cyB cyS cyD : ClassId) (h : Nat) (aAl : Nat) (aSv : Nat) (aAs : Nat) (aF : Nat) (aG : Nat) (aK : Nat) (aTx : Nat) (aRd : Nat) (sz : Nat) (sN : Int32) (sTh : Int32) (sS : Int64) (sTl : Int32) (sPl : Int32) (sAl : Nat → Int64) (sSv : Nat → Int64) (sAs : Nat → Int64) (sF : Nat → Int64) (sG : Nat → Int64) (sK : Nat → Int64) (sTx : Nat → Int32) (sRd : Nat → Int32) (w1 : Int32) (w2 : Int32) {out : Int32 × Int32} (hF : F_X6_box sAl w1 w2 = some out) : Mi l yX6_box wsX6_box ({ frames := 1, cells := 0, slots := 0, locals := 25 } : Room) (dC, dI) [(cyI, .int), (cyJ, .long), (cyB, .byte), (cyS, .object "SelfTuner$State"), (cyD, .double)] sz [.ref h, .int w1, .int w2] [(h, .inr (6, [.ref aAl, .ref aSv, .ref aAs, .int sN, .int sTh, .ref aF, .ref aG, .ref aK, .long sS, .ref aTx, .int sTl, .int sPl, .ref aRd])), (aAl, .inl (cyJ, 76, .inr (.inl sAl))), (aSv, .inl (cyJ, 304, .inr (.inl sSv))), (aAs, .inl (cyJ, 76, .inr (.inl sAs))), (aF, .inl (cyJ, 3, .inr (.inl sF))), (aG, .inl (cyJ, 3, .inr (.inl sG))), (aK, .inl (cyJ, 3, .inr (.inl sK))), (aTx, .inl (cyI, 120, .inl sTx)), (aRd, .inl (cyI, 63, .inl sRd))] out.1 [(h, .inr (6, [.ref aAl, .ref aSv, .ref aAs, .int sN, .int out.2, .ref aF, .ref aG, .ref aK, .long sS, .ref aTx, .int sTl, .int sPl, .ref aRd])), (aAl, .inl (cyJ, 76, .inr (.inl sAl))), (aSv, .inl (cyJ, 304, .inr (.inl sSv))), (aAs, .inl (cyJ, 76, .inr (.inl sAs))), (aF, .inl (cyJ, 3, .inr (.inl sF))), (aG, .inl (cyJ, 3, .inr (.inl sG))), (aK, .inl (cyJ, 3, .inr (.inl sK))), (aTx, .inl (cyI, 120, .inl sTx)), (aRd, .inl (cyI, 63, .inl sRd))] := by
  refine Met.ofW (cc := cX6_box) (maxL := 3) (ret := (some .int)) (by decide) rfl ?_
  intro p e s m args below meth c s₁ B hml hv
  obtain ⟨rfl, hN, hsz, hP, hK, hD0⟩ := hv
  have hx := B.exec
  have hb := B.bytes
  have hr := B.returns
  have hts := atoms_spec (ws := wsX6_box) B.pre
  have hown : s.vm.findClass RX6 = some m.cls := findClass_of_methodNamed B.named
  have hlocks := B.notSynchronized
  subst hsz
  have hD := hD0.self (sz := s.heap.size)
  generalize hAe : va_A [(h, .inr (6, [.ref aAl, .ref aSv, .ref aAs, .int sN, .int sTh, .ref aF, .ref aG, .ref aK, .long sS, .ref aTx, .int sTl, .int sPl, .ref aRd])), (aAl, .inl (cyJ, 76, .inr (.inl sAl))), (aSv, .inl (cyJ, 304, .inr (.inl sSv))), (aAs, .inl (cyJ, 76, .inr (.inl sAs))), (aF, .inl (cyJ, 3, .inr (.inl sF))), (aG, .inl (cyJ, 3, .inr (.inl sG))), (aK, .inl (cyJ, 3, .inr (.inl sK))), (aTx, .inl (cyI, 120, .inl sTx)), (aRd, .inl (cyI, 63, .inl sRd))] s.heap.size = A at hD ⊢
  have hA : ∀ q : Nat, s.heap.size ≤ q → A q := fun q h => by rw [← hAe]; exact Or.inr h
  have hS : va_S A s.heap s.heap [] := va_S.rf
  have hP : va_P (dC, dI) vwCl [(h, .inr (6, [.ref aAl, .ref aSv, .ref aAs, .int sN, .int sTh, .ref aF, .ref aG, .ref aK, .long sS, .ref aTx, .int sTl, .int sPl, .ref aRd])), (aAl, .inl (cyJ, 76, .inr (.inl sAl))), (aSv, .inl (cyJ, 304, .inr (.inl sSv))), (aAs, .inl (cyJ, 76, .inr (.inl sAs))), (aF, .inl (cyJ, 3, .inr (.inl sF))), (aG, .inl (cyJ, 3, .inr (.inl sG))), (aK, .inl (cyJ, 3, .inr (.inl sK))), (aTx, .inl (cyI, 120, .inl sTx)), (aRd, .inl (cyI, 63, .inl sRd))] s.heap := hP
  have hl := lv_entry ([.ref h, .int w1, .int w2]) (n := 3) (Nat.le_of_ble_eq_true rfl)
  rw [lg_entry_eq]
  generalize (lg_sl ([.ref h, .int w1, .int w2]) ++ List.replicate (3 - (lg_sl ([.ref h, .int w1, .int w2])).length) Slot.unset).toArray = ls at hl ⊢
  have hl : lv_has ls 3 [(0, .ref h), (1, .int w1), (2, .int w2)] := hl
  unfold F_X6_box at hF
  refine lv_aload_n hx hb dX6_box_0 rfl (lv_at hl 0 rfl) ?_
  refine lv_iload_n hx hb dX6_box_1 rfl (lv_at hl 1 rfl) ?_
  refine lv_i2l (v := w1.toInt64) hx hb dX6_box_2 rfl ?_
  refine lv_lconst (v := 0) hx hb dX6_box_3 (by decide) ?_
  refine lv_ldc2 (v := 2) hx hb hown (hts _ kX6_box_1) dX6_box_4 ?_
  obtain ⟨o1, ho1, hF⟩ := ob_e hF
  refine x_callzi (va_runS (As := [.long w1.toInt64, .long 0, .long 2]) (rest := [.ref h]) ⟨hx, hb, hml, hown, hts⟩ (c_X6_in l w1.toInt64 0 2 ho1) (va_cwS 3 hts gX6_box_X6_in rfl rfl rfl (by decide +kernel) ⟨Nat.le_of_ble_eq_true rfl, Nat.le_of_ble_eq_true rfl⟩) ⟨true_blind, fun _ _ _ => ⟨rfl, trivial⟩⟩ rfl rfl hl.1 rfl (lv_room (Nat.le_of_ble_eq_true rfl)) dX6_box_7 ⟨Nat.le_of_ble_eq_true rfl, Nat.le_of_ble_eq_true rfl⟩) ?_
  refine lv_iconst (v := 1) hx hb dX6_box_10 (by decide) ?_
  obtain ⟨o2, ho2, hF⟩ := ob_e hF
  refine x_calli (wr := []) (ws' := [(h, .inr (6, [.ref aAl, .ref aSv, .ref aAs, .int sN, .int o2.2, .ref aF, .ref aG, .ref aK, .long sS, .ref aTx, .int sTl, .int sPl, .ref aRd])), (aAl, .inl (cyJ, 76, .inr (.inl sAl))), (aSv, .inl (cyJ, 304, .inr (.inl sSv))), (aAs, .inl (cyJ, 76, .inr (.inl sAs))), (aF, .inl (cyJ, 3, .inr (.inl sF))), (aG, .inl (cyJ, 3, .inr (.inl sG))), (aK, .inl (cyJ, 3, .inr (.inl sK))), (aTx, .inl (cyI, 120, .inl sTx)), (aRd, .inl (cyI, 63, .inl sRd))]) (va_runV (As := [.int o1, .int 1]) (rest := []) ⟨hx, hb, hml, hown, hts⟩ (c_X6_goes l dC dI cyI cyJ cyB cyS cyD h aAl aSv aAs aF aG aK aTx aRd s.heap.size sN sTh sS sTl sPl sAl sSv sAs sF sG sK sTx sRd o1 1 ho2) (cwV 2 hts gX6_box_X6_goes rfl rfl rfl (by decide +kernel) ⟨Nat.le_of_ble_eq_true rfl, Nat.le_of_ble_eq_true rfl⟩) ⟨cPre_blind, va_recv hK hP (ci := 6) (q0 := 0) rfl rfl, x_pre hN hP hD hK [0, 1, 2, 3, 4, 5, 6, 7, 8] rfl rfl⟩ rfl rfl hl.1 rfl (lv_room (Nat.le_of_ble_eq_true rfl)) dX6_box_11 ⟨Nat.le_of_ble_eq_true rfl, Nat.le_of_ble_eq_true rfl⟩) hP hD hS hA [0, 1, 2, 3, 4, 5, 6, 7, 8] [] [0, 1, 2, 3, 4, 5, 6, 7, 8] rfl rfl rfl (by decide) rfl rfl (fun H locs hP hD hS => ?_)
  refine lv_if_eq (tgt := 42) hx hb dX6_box_14 (by decide) (fun c3 => ?_) (fun c3 => ?_)
  · have hF := ite_t hF c3
    refine lv_iconst (v := 0) hx hb dX6_box_42 (by decide) ?_
    obtain rfl := some_e hF
    exact W.iret (v := 0) hx hb hr (fun t ht hW => ⟨⟨0, (), rfl, rfl, ⟨by rw [ht]; exact hP, va_K.moved hW.alike hK, hD⟩⟩, hS.F ht⟩) hS.2.2 dX6_box_43
  · have hF := ite_f hF c3
    refine lv_aload_n hx hb dX6_box_17 rfl (lv_at hl 0 rfl) ?_
    refine va_get (D := (dC, dI)) (ci := 6) (v := .ref aAl) (C := RX6) (T := TX6) (N := 13) hx hb hts iX6_box_X6 hown hK hP 0 rfl rfl 0 (by decide) (hts _ kX6_box_2) (fun _ h9 => h9) rfl dX6_box_18 ?_
    refine lv_bipush (v := 7) hx hb dX6_box_21 (by decide) ?_
    refine lv_iconst (v := 2) hx hb dX6_box_23 (by decide) ?_
    refine lv_iload_n hx hb dX6_box_24 rfl (lv_at hl 1 rfl) ?_
    refine lv_imul hx hb dX6_box_25 ?_
    refine lv_iadd hx hb dX6_box_26 ?_
    refine lv_iload_n hx hb dX6_box_27 rfl (lv_at hl 2 rfl) ?_
    obtain ⟨K6, hK6, hF⟩ := rg_e hF
    have Jx5 : ∀ (x5 : Int32) (H : Heap) (locs : List Loc) (ls : Array Slot), K6 x5 = some out → va_P (dC, dI) vwCl [(h, .inr (6, [.ref aAl, .ref aSv, .ref aAs, .int sN, .int o2.2, .ref aF, .ref aG, .ref aK, .long sS, .ref aTx, .int sTl, .int sPl, .ref aRd])), (aAl, .inl (cyJ, 76, .inr (.inl sAl))), (aSv, .inl (cyJ, 304, .inr (.inl sSv))), (aAs, .inl (cyJ, 76, .inr (.inl sAs))), (aF, .inl (cyJ, 3, .inr (.inl sF))), (aG, .inl (cyJ, 3, .inr (.inl sG))), (aK, .inl (cyJ, 3, .inr (.inl sK))), (aTx, .inl (cyI, 120, .inl sTx)), (aRd, .inl (cyI, 63, .inl sRd))] H → va_D A [(h, .inr (6, [.ref aAl, .ref aSv, .ref aAs, .int sN, .int o2.2, .ref aF, .ref aG, .ref aK, .long sS, .ref aTx, .int sTl, .int sPl, .ref aRd])), (aAl, .inl (cyJ, 76, .inr (.inl sAl))), (aSv, .inl (cyJ, 304, .inr (.inl sSv))), (aAs, .inl (cyJ, 76, .inr (.inl sAs))), (aF, .inl (cyJ, 3, .inr (.inl sF))), (aG, .inl (cyJ, 3, .inr (.inl sG))), (aK, .inl (cyJ, 3, .inr (.inl sK))), (aTx, .inl (cyI, 120, .inl sTx)), (aRd, .inl (cyI, 63, .inl sRd))] → va_S A s.heap H locs → lv_has ls 3 [] → W p l e (headSpec wsX6_box ({ frames := 1, cells := 0, slots := 0, locals := 25 } : Room)).room s m ([.ref h, .int w1, .int w2] : List Value).toArray below meth c H locs 0 0 (MQ below (va_Qi (fun (r' : Int32) (_ : Unit) => r' = out.1) (cPost (dC, dI) [(cyI, .int), (cyJ, .long), (cyB, .byte), (cyS, .object "SelfTuner$State"), (cyD, .double)] [(h, .inr (6, [.ref aAl, .ref aSv, .ref aAs, .int sN, .int out.2, .ref aF, .ref aG, .ref aK, .long sS, .ref aTx, .int sTl, .int sPl, .ref aRd])), (aAl, .inl (cyJ, 76, .inr (.inl sAl))), (aSv, .inl (cyJ, 304, .inr (.inl sSv))), (aAs, .inl (cyJ, 76, .inr (.inl sAs))), (aF, .inl (cyJ, 3, .inr (.inl sF))), (aG, .inl (cyJ, 3, .inr (.inl sG))), (aK, .inl (cyJ, 3, .inr (.inl sK))), (aTx, .inl (cyI, 120, .inl sTx)), (aRd, .inl (cyI, 63, .inl sRd))] A) A) ([.ref h, .int w1, .int w2] : List Value).toArray s 0 0 A) (F0 m 36 ls [.int x5, .int (7 + (2 * w1)), .ref aAl]) := by
      intro x5 H locs ls hF hP hD hS hl
      rw [hK6] at hF
      refine lv_iadd hx hb dX6_box_36 ?_
      obtain ⟨g7, hF⟩ := ck_e hF
      refine x_lald hx hb hK hP 1 1 rfl rfl rfl g7 dX6_box_37 ?_
      refine lv_l2i (v := (sAl (((7 + (2 * w1)) + x5).toNatClampNeg)).toInt32) hx hb dX6_box_38 rfl ?_
      refine lv_goto (tgt := 43) hx hb dX6_box_39 (by decide) ?_
      obtain rfl := some_e hF
      exact W.iret (v := (sAl (((7 + (2 * w1)) + x5).toNatClampNeg)).toInt32) hx hb hr (fun t ht hW => ⟨⟨(sAl (((7 + (2 * w1)) + x5).toNatClampNeg)).toInt32, (), rfl, rfl, ⟨by rw [ht]; exact hP, va_K.moved hW.alike hK, hD⟩⟩, hS.F ht⟩) hS.2.2 dX6_box_43
    refine lv_if_eq (tgt := 35) hx hb dX6_box_28 (by decide) (fun c4 => ?_) (fun c4 => ?_)
    · have hF := ite_t hF c4
      refine lv_iconst (v := 0) hx hb dX6_box_35 (by decide) ?_
      exact Jx5 _ _ _ _ hF hP hD hS (lv_sub hl [] rfl)
    · have hF := ite_f hF c4
      refine lv_iconst (v := 1) hx hb dX6_box_31 (by decide) ?_
      refine lv_goto (tgt := 36) hx hb dX6_box_32 (by decide) ?_
      exact Jx5 _ _ _ _ hF hP hD hS (lv_sub hl [] rfl)
def F_X6_setPlant (sN : Int32) (sAl : Nat → Int64) (sSv : Nat → Int64) (w1 : Int32) (w2 : Int32) (w3 : Int32) (w4 : Int32) : Option (Int32 × Int32 × Int32 × (Nat → Int64) × (Nat → Int64)) := ob (F_X6_in w1.toInt64 (-3000) 3000) (fun o1 => rg (α := Int32) (fun K10 => if (o1 : Int32) = 0 then (K10 0) else (ob (F_X6_in w2.toInt64 (-3000) 3000) (fun o3 => if (o3 : Int32) = 0 then (K10 0) else (ob (F_X6_in w3.toInt64 (-3000) 3000) (fun o5 => if (o5 : Int32) = 0 then (K10 0) else (ob (F_X6_in w4.toInt64 0 200) (fun o7 => if (o7 : Int32) = 0 then (K10 0) else (K10 1)))))))) (fun x9 => ob (F_X6_goes x9 1) (fun o11 => if (o11.1 : Int32) = 0 then (some (0, sN, o11.2, sAl, sSv)) else (ob (F_X6_save sN sAl sSv) (fun o13 => lt_ (α := Nat → Int64) (vp_updL sAl 30 w1.toInt64) (fun v14 => lt_ (α := Nat → Int64) (vp_updL v14 31 w2.toInt64) (fun v15 => lt_ (α := Nat → Int64) (vp_updL v15 32 w3.toInt64) (fun v16 => lt_ (α := Nat → Int64) (vp_updL v16 33 w4.toInt64) (fun v17 => some ((v17 35).toInt32, o13.1, o11.2, v17, o13.2))))))))))
theorem kX6_setPlant_1 : (Cond.constantLong RX6 98 (-3000)) ∈ wsX6_setPlant := List.mem_of_getElem? (i := 1) rfl
theorem kX6_setPlant_2 : (Cond.constantLong RX6 100 (3000)) ∈ wsX6_setPlant := List.mem_of_getElem? (i := 2) rfl
theorem kX6_setPlant_3 : (Cond.constantLong RX6 102 (200)) ∈ wsX6_setPlant := List.mem_of_getElem? (i := 3) rfl
theorem kX6_setPlant_4 : (Cond.fieldLink RX6 7 "SelfTunerModel" "all" "[J") ∈ wsX6_setPlant := List.mem_of_getElem? (i := 4) rfl
theorem iX6_setPlant_X6 : ∀ w ∈ wsX60, w ∈ wsX6_setPlant := fun w h => List.mem_cons_of_mem _ (List.mem_append_right _ h)
set_option maxHeartbeats 4000000 in
set_option maxRecDepth 100000 in
theorem c_X6_setPlant (l : Launch) (dC : Nat → ClassId) (dI : Nat → Nat → Nat) (cyI cyJ cyB cyS cyD : ClassId) (h : Nat) (aAl : Nat) (aSv : Nat) (aAs : Nat) (aF : Nat) (aG : Nat) (aK : Nat) (aTx : Nat) (aRd : Nat) (sz : Nat) (sN : Int32) (sTh : Int32) (sS : Int64) (sTl : Int32) (sPl : Int32) (sAl : Nat → Int64) (sSv : Nat → Int64) (sAs : Nat → Int64) (sF : Nat → Int64) (sG : Nat → Int64) (sK : Nat → Int64) (sTx : Nat → Int32) (sRd : Nat → Int32) (w1 : Int32) (w2 : Int32) (w3 : Int32) (w4 : Int32) {out : Int32 × Int32 × Int32 × (Nat → Int64) × (Nat → Int64)} (hF : F_X6_setPlant sN sAl sSv w1 w2 w3 w4 = some out) : Mi l yX6_setPlant wsX6_setPlant ({ frames := 1, cells := 0, slots := 0, locals := 25 } : Room) (dC, dI) [(cyI, .int), (cyJ, .long), (cyB, .byte), (cyS, .object "SelfTuner$State"), (cyD, .double)] sz [.ref h, .int w1, .int w2, .int w3, .int w4] [(h, .inr (6, [.ref aAl, .ref aSv, .ref aAs, .int sN, .int sTh, .ref aF, .ref aG, .ref aK, .long sS, .ref aTx, .int sTl, .int sPl, .ref aRd])), (aAl, .inl (cyJ, 76, .inr (.inl sAl))), (aSv, .inl (cyJ, 304, .inr (.inl sSv))), (aAs, .inl (cyJ, 76, .inr (.inl sAs))), (aF, .inl (cyJ, 3, .inr (.inl sF))), (aG, .inl (cyJ, 3, .inr (.inl sG))), (aK, .inl (cyJ, 3, .inr (.inl sK))), (aTx, .inl (cyI, 120, .inl sTx)), (aRd, .inl (cyI, 63, .inl sRd))] out.1 [(h, .inr (6, [.ref aAl, .ref aSv, .ref aAs, .int out.2.1, .int out.2.2.1, .ref aF, .ref aG, .ref aK, .long sS, .ref aTx, .int sTl, .int sPl, .ref aRd])), (aAl, .inl (cyJ, 76, .inr (.inl out.2.2.2.1))), (aSv, .inl (cyJ, 304, .inr (.inl out.2.2.2.2))), (aAs, .inl (cyJ, 76, .inr (.inl sAs))), (aF, .inl (cyJ, 3, .inr (.inl sF))), (aG, .inl (cyJ, 3, .inr (.inl sG))), (aK, .inl (cyJ, 3, .inr (.inl sK))), (aTx, .inl (cyI, 120, .inl sTx)), (aRd, .inl (cyI, 63, .inl sRd))] := by
  refine Met.ofW (cc := cX6_setPlant) (maxL := 6) (ret := (some .int)) (by decide) rfl ?_
  intro p e s m args below meth c s₁ B hml hv
  obtain ⟨rfl, hN, hsz, hP, hK, hD0⟩ := hv
  have hx := B.exec
  have hb := B.bytes
  have hr := B.returns
  have hts := atoms_spec (ws := wsX6_setPlant) B.pre
  have hown : s.vm.findClass RX6 = some m.cls := findClass_of_methodNamed B.named
  have hlocks := B.notSynchronized
  subst hsz
  have hD := hD0.self (sz := s.heap.size)
  generalize hAe : va_A [(h, .inr (6, [.ref aAl, .ref aSv, .ref aAs, .int sN, .int sTh, .ref aF, .ref aG, .ref aK, .long sS, .ref aTx, .int sTl, .int sPl, .ref aRd])), (aAl, .inl (cyJ, 76, .inr (.inl sAl))), (aSv, .inl (cyJ, 304, .inr (.inl sSv))), (aAs, .inl (cyJ, 76, .inr (.inl sAs))), (aF, .inl (cyJ, 3, .inr (.inl sF))), (aG, .inl (cyJ, 3, .inr (.inl sG))), (aK, .inl (cyJ, 3, .inr (.inl sK))), (aTx, .inl (cyI, 120, .inl sTx)), (aRd, .inl (cyI, 63, .inl sRd))] s.heap.size = A at hD ⊢
  have hA : ∀ q : Nat, s.heap.size ≤ q → A q := fun q h => by rw [← hAe]; exact Or.inr h
  have hS : va_S A s.heap s.heap [] := va_S.rf
  have hP : va_P (dC, dI) vwCl [(h, .inr (6, [.ref aAl, .ref aSv, .ref aAs, .int sN, .int sTh, .ref aF, .ref aG, .ref aK, .long sS, .ref aTx, .int sTl, .int sPl, .ref aRd])), (aAl, .inl (cyJ, 76, .inr (.inl sAl))), (aSv, .inl (cyJ, 304, .inr (.inl sSv))), (aAs, .inl (cyJ, 76, .inr (.inl sAs))), (aF, .inl (cyJ, 3, .inr (.inl sF))), (aG, .inl (cyJ, 3, .inr (.inl sG))), (aK, .inl (cyJ, 3, .inr (.inl sK))), (aTx, .inl (cyI, 120, .inl sTx)), (aRd, .inl (cyI, 63, .inl sRd))] s.heap := hP
  have hl := lv_entry ([.ref h, .int w1, .int w2, .int w3, .int w4]) (n := 6) (Nat.le_of_ble_eq_true rfl)
  rw [lg_entry_eq]
  generalize (lg_sl ([.ref h, .int w1, .int w2, .int w3, .int w4]) ++ List.replicate (6 - (lg_sl ([.ref h, .int w1, .int w2, .int w3, .int w4])).length) Slot.unset).toArray = ls at hl ⊢
  have hl : lv_has ls 6 [(0, .ref h), (1, .int w1), (2, .int w2), (3, .int w3), (4, .int w4)] := hl
  unfold F_X6_setPlant at hF
  refine lv_iload_n hx hb dX6_setPlant_0 rfl (lv_at hl 1 rfl) ?_
  refine lv_i2l (v := w1.toInt64) hx hb dX6_setPlant_1 rfl ?_
  refine lv_ldc2 (v := (-3000)) hx hb hown (hts _ kX6_setPlant_1) dX6_setPlant_2 ?_
  refine lv_ldc2 (v := 3000) hx hb hown (hts _ kX6_setPlant_2) dX6_setPlant_5 ?_
  obtain ⟨o1, ho1, hF⟩ := ob_e hF
  refine x_callzi (va_runS (As := [.long w1.toInt64, .long (-3000), .long 3000]) (rest := []) ⟨hx, hb, hml, hown, hts⟩ (c_X6_in l w1.toInt64 (-3000) 3000 ho1) (va_cwS 3 hts gX6_setPlant_X6_in rfl rfl rfl (by decide +kernel) ⟨Nat.le_of_ble_eq_true rfl, Nat.le_of_ble_eq_true rfl⟩) ⟨true_blind, fun _ _ _ => ⟨rfl, trivial⟩⟩ rfl rfl hl.1 rfl (lv_room (Nat.le_of_ble_eq_true rfl)) dX6_setPlant_8 ⟨Nat.le_of_ble_eq_true rfl, Nat.le_of_ble_eq_true rfl⟩) ?_
  obtain ⟨K10, hK10, hF⟩ := rg_e hF
  have Jx9 : ∀ (x9 : Int32) (H : Heap) (locs : List Loc) (ls : Array Slot), K10 x9 = some out → va_P (dC, dI) vwCl [(h, .inr (6, [.ref aAl, .ref aSv, .ref aAs, .int sN, .int sTh, .ref aF, .ref aG, .ref aK, .long sS, .ref aTx, .int sTl, .int sPl, .ref aRd])), (aAl, .inl (cyJ, 76, .inr (.inl sAl))), (aSv, .inl (cyJ, 304, .inr (.inl sSv))), (aAs, .inl (cyJ, 76, .inr (.inl sAs))), (aF, .inl (cyJ, 3, .inr (.inl sF))), (aG, .inl (cyJ, 3, .inr (.inl sG))), (aK, .inl (cyJ, 3, .inr (.inl sK))), (aTx, .inl (cyI, 120, .inl sTx)), (aRd, .inl (cyI, 63, .inl sRd))] H → va_D A [(h, .inr (6, [.ref aAl, .ref aSv, .ref aAs, .int sN, .int sTh, .ref aF, .ref aG, .ref aK, .long sS, .ref aTx, .int sTl, .int sPl, .ref aRd])), (aAl, .inl (cyJ, 76, .inr (.inl sAl))), (aSv, .inl (cyJ, 304, .inr (.inl sSv))), (aAs, .inl (cyJ, 76, .inr (.inl sAs))), (aF, .inl (cyJ, 3, .inr (.inl sF))), (aG, .inl (cyJ, 3, .inr (.inl sG))), (aK, .inl (cyJ, 3, .inr (.inl sK))), (aTx, .inl (cyI, 120, .inl sTx)), (aRd, .inl (cyI, 63, .inl sRd))] → va_S A s.heap H locs → lv_has ls 6 [(0, .ref h), (1, .int w1), (2, .int w2), (3, .int w3), (4, .int w4)] → W p l e (headSpec wsX6_setPlant ({ frames := 1, cells := 0, slots := 0, locals := 25 } : Room)).room s m ([.ref h, .int w1, .int w2, .int w3, .int w4] : List Value).toArray below meth c H locs 0 0 (MQ below (va_Qi (fun (r' : Int32) (_ : Unit) => r' = out.1) (cPost (dC, dI) [(cyI, .int), (cyJ, .long), (cyB, .byte), (cyS, .object "SelfTuner$State"), (cyD, .double)] [(h, .inr (6, [.ref aAl, .ref aSv, .ref aAs, .int out.2.1, .int out.2.2.1, .ref aF, .ref aG, .ref aK, .long sS, .ref aTx, .int sTl, .int sPl, .ref aRd])), (aAl, .inl (cyJ, 76, .inr (.inl out.2.2.2.1))), (aSv, .inl (cyJ, 304, .inr (.inl out.2.2.2.2))), (aAs, .inl (cyJ, 76, .inr (.inl sAs))), (aF, .inl (cyJ, 3, .inr (.inl sF))), (aG, .inl (cyJ, 3, .inr (.inl sG))), (aK, .inl (cyJ, 3, .inr (.inl sK))), (aTx, .inl (cyI, 120, .inl sTx)), (aRd, .inl (cyI, 63, .inl sRd))] A) A) ([.ref h, .int w1, .int w2, .int w3, .int w4] : List Value).toArray s 0 0 A) (F0 m 60 ls [.int x9]) := by
    intro x9 H locs ls hF hP hD hS hl
    rw [hK10] at hF
    refine lv_istore (lv' := [(5, .int x9), (0, .ref h), (1, .int w1), (2, .int w2), (3, .int w3), (4, .int w4)]) hx hb dX6_setPlant_60 hl (by decide) rfl (fun ls hl => ?_)
    refine lv_aload_n hx hb dX6_setPlant_62 rfl (lv_at hl 1 rfl) ?_
    refine lv_iload hx hb dX6_setPlant_63 (lv_at hl 0 rfl) ?_
    refine lv_iconst (v := 1) hx hb dX6_setPlant_65 (by decide) ?_
    obtain ⟨o11, ho11, hF⟩ := ob_e hF
    refine x_calli (wr := []) (ws' := [(h, .inr (6, [.ref aAl, .ref aSv, .ref aAs, .int sN, .int o11.2, .ref aF, .ref aG, .ref aK, .long sS, .ref aTx, .int sTl, .int sPl, .ref aRd])), (aAl, .inl (cyJ, 76, .inr (.inl sAl))), (aSv, .inl (cyJ, 304, .inr (.inl sSv))), (aAs, .inl (cyJ, 76, .inr (.inl sAs))), (aF, .inl (cyJ, 3, .inr (.inl sF))), (aG, .inl (cyJ, 3, .inr (.inl sG))), (aK, .inl (cyJ, 3, .inr (.inl sK))), (aTx, .inl (cyI, 120, .inl sTx)), (aRd, .inl (cyI, 63, .inl sRd))]) (va_runV (As := [.int x9, .int 1]) (rest := []) ⟨hx, hb, hml, hown, hts⟩ (c_X6_goes l dC dI cyI cyJ cyB cyS cyD h aAl aSv aAs aF aG aK aTx aRd H.size sN sTh sS sTl sPl sAl sSv sAs sF sG sK sTx sRd x9 1 ho11) (cwV 2 hts gX6_setPlant_X6_goes rfl rfl rfl (by decide +kernel) ⟨Nat.le_of_ble_eq_true rfl, Nat.le_of_ble_eq_true rfl⟩) ⟨cPre_blind, va_recv hK hP (ci := 6) (q0 := 0) rfl rfl, x_pre hN hP hD hK [0, 1, 2, 3, 4, 5, 6, 7, 8] rfl rfl⟩ rfl rfl hl.1 rfl (lv_room (Nat.le_of_ble_eq_true rfl)) dX6_setPlant_66 ⟨Nat.le_of_ble_eq_true rfl, Nat.le_of_ble_eq_true rfl⟩) hP hD hS hA [0, 1, 2, 3, 4, 5, 6, 7, 8] [] [0, 1, 2, 3, 4, 5, 6, 7, 8] rfl rfl rfl (by decide) rfl rfl (fun H locs hP hD hS => ?_)
    refine lv_if_ne (tgt := 74) hx hb dX6_setPlant_69 (by decide) (fun c12 => ?_) (fun c12 => ?_)
    · have hF := ite_f hF c12
      refine lv_aload_n hx hb dX6_setPlant_74 rfl (lv_at hl 1 rfl) ?_
      obtain ⟨o13, ho13, hF⟩ := ob_e hF
      refine x_callv (wr := []) (ws' := [(h, .inr (6, [.ref aAl, .ref aSv, .ref aAs, .int o13.1, .int o11.2, .ref aF, .ref aG, .ref aK, .long sS, .ref aTx, .int sTl, .int sPl, .ref aRd])), (aAl, .inl (cyJ, 76, .inr (.inl sAl))), (aSv, .inl (cyJ, 304, .inr (.inl o13.2))), (aAs, .inl (cyJ, 76, .inr (.inl sAs))), (aF, .inl (cyJ, 3, .inr (.inl sF))), (aG, .inl (cyJ, 3, .inr (.inl sG))), (aK, .inl (cyJ, 3, .inr (.inl sK))), (aTx, .inl (cyI, 120, .inl sTx)), (aRd, .inl (cyI, 63, .inl sRd))]) (va_runV (As := []) (rest := []) ⟨hx, hb, hml, hown, hts⟩ (c_X6_save l dC dI cyI cyJ cyB cyS cyD h aAl aSv aAs aF aG aK aTx aRd H.size sN o11.2 sS sTl sPl sAl sSv sAs sF sG sK sTx sRd ho13) (cwV 0 hts gX6_setPlant_X6_save rfl rfl rfl (by decide +kernel) ⟨Nat.le_of_ble_eq_true rfl, Nat.le_of_ble_eq_true rfl⟩) ⟨cPre_blind, va_recv hK hP (ci := 6) (q0 := 0) rfl rfl, x_pre hN hP hD hK [0, 1, 2, 3, 4, 5, 6, 7, 8] rfl rfl⟩ rfl rfl hl.1 rfl (lv_room (Nat.le_of_ble_eq_true rfl)) dX6_setPlant_75 ⟨Nat.le_of_ble_eq_true rfl, Nat.le_of_ble_eq_true rfl⟩) hP hD hS hA [0, 1, 2, 3, 4, 5, 6, 7, 8] [] [0, 1, 2, 3, 4, 5, 6, 7, 8] rfl rfl rfl (by decide) rfl rfl (fun H locs hP hD hS => ?_)
      refine lv_aload_n hx hb dX6_setPlant_78 rfl (lv_at hl 1 rfl) ?_
      refine va_get (D := (dC, dI)) (ci := 6) (v := .ref aAl) (C := RX6) (T := TX6) (N := 13) hx hb hts iX6_setPlant_X6 hown hK hP 0 rfl rfl 0 (by decide) (hts _ kX6_setPlant_4) (fun _ h9 => h9) rfl dX6_setPlant_79 ?_
      refine lv_bipush (v := 30) hx hb dX6_setPlant_82 (by decide) ?_
      refine lv_iload_n hx hb dX6_setPlant_84 rfl (lv_at hl 2 rfl) ?_
      refine lv_i2l (v := w1.toInt64) hx hb dX6_setPlant_85 rfl ?_
      obtain ⟨v14, hv14, hF⟩ := lt_e hF
      refine x_last (ws' := [(h, .inr (6, [.ref aAl, .ref aSv, .ref aAs, .int o13.1, .int o11.2, .ref aF, .ref aG, .ref aK, .long sS, .ref aTx, .int sTl, .int sPl, .ref aRd])), (aAl, .inl (cyJ, 76, .inr (.inl v14))), (aSv, .inl (cyJ, 304, .inr (.inl o13.2))), (aAs, .inl (cyJ, 76, .inr (.inl sAs))), (aF, .inl (cyJ, 3, .inr (.inl sF))), (aG, .inl (cyJ, 3, .inr (.inl sG))), (aK, .inl (cyJ, 3, .inr (.inl sK))), (aTx, .inl (cyI, 120, .inl sTx)), (aRd, .inl (cyI, 63, .inl sRd))]) hx hb hK hP hD hS 1 1 rfl rfl (show (30 : Int32).toNatClampNeg = 30 by decide) (inbK (k := 30) (by decide) rfl) hv14 rfl dX6_setPlant_86 (fun H locs hP hD hS => ?_)
      refine lv_aload_n hx hb dX6_setPlant_87 rfl (lv_at hl 1 rfl) ?_
      refine va_get (D := (dC, dI)) (ci := 6) (v := .ref aAl) (C := RX6) (T := TX6) (N := 13) hx hb hts iX6_setPlant_X6 hown hK hP 0 rfl rfl 0 (by decide) (hts _ kX6_setPlant_4) (fun _ h9 => h9) rfl dX6_setPlant_88 ?_
      refine lv_bipush (v := 31) hx hb dX6_setPlant_91 (by decide) ?_
      refine lv_iload_n hx hb dX6_setPlant_93 rfl (lv_at hl 3 rfl) ?_
      refine lv_i2l (v := w2.toInt64) hx hb dX6_setPlant_94 rfl ?_
      obtain ⟨v15, hv15, hF⟩ := lt_e hF
      refine x_last (ws' := [(h, .inr (6, [.ref aAl, .ref aSv, .ref aAs, .int o13.1, .int o11.2, .ref aF, .ref aG, .ref aK, .long sS, .ref aTx, .int sTl, .int sPl, .ref aRd])), (aAl, .inl (cyJ, 76, .inr (.inl v15))), (aSv, .inl (cyJ, 304, .inr (.inl o13.2))), (aAs, .inl (cyJ, 76, .inr (.inl sAs))), (aF, .inl (cyJ, 3, .inr (.inl sF))), (aG, .inl (cyJ, 3, .inr (.inl sG))), (aK, .inl (cyJ, 3, .inr (.inl sK))), (aTx, .inl (cyI, 120, .inl sTx)), (aRd, .inl (cyI, 63, .inl sRd))]) hx hb hK hP hD hS 1 1 rfl rfl (show (31 : Int32).toNatClampNeg = 31 by decide) (inbK (k := 31) (by decide) rfl) hv15 rfl dX6_setPlant_95 (fun H locs hP hD hS => ?_)
      refine lv_aload_n hx hb dX6_setPlant_96 rfl (lv_at hl 1 rfl) ?_
      refine va_get (D := (dC, dI)) (ci := 6) (v := .ref aAl) (C := RX6) (T := TX6) (N := 13) hx hb hts iX6_setPlant_X6 hown hK hP 0 rfl rfl 0 (by decide) (hts _ kX6_setPlant_4) (fun _ h9 => h9) rfl dX6_setPlant_97 ?_
      refine lv_bipush (v := 32) hx hb dX6_setPlant_100 (by decide) ?_
      refine lv_iload_n hx hb dX6_setPlant_102 rfl (lv_at hl 4 rfl) ?_
      refine lv_i2l (v := w3.toInt64) hx hb dX6_setPlant_103 rfl ?_
      obtain ⟨v16, hv16, hF⟩ := lt_e hF
      refine x_last (ws' := [(h, .inr (6, [.ref aAl, .ref aSv, .ref aAs, .int o13.1, .int o11.2, .ref aF, .ref aG, .ref aK, .long sS, .ref aTx, .int sTl, .int sPl, .ref aRd])), (aAl, .inl (cyJ, 76, .inr (.inl v16))), (aSv, .inl (cyJ, 304, .inr (.inl o13.2))), (aAs, .inl (cyJ, 76, .inr (.inl sAs))), (aF, .inl (cyJ, 3, .inr (.inl sF))), (aG, .inl (cyJ, 3, .inr (.inl sG))), (aK, .inl (cyJ, 3, .inr (.inl sK))), (aTx, .inl (cyI, 120, .inl sTx)), (aRd, .inl (cyI, 63, .inl sRd))]) hx hb hK hP hD hS 1 1 rfl rfl (show (32 : Int32).toNatClampNeg = 32 by decide) (inbK (k := 32) (by decide) rfl) hv16 rfl dX6_setPlant_104 (fun H locs hP hD hS => ?_)
      refine lv_aload_n hx hb dX6_setPlant_105 rfl (lv_at hl 1 rfl) ?_
      refine va_get (D := (dC, dI)) (ci := 6) (v := .ref aAl) (C := RX6) (T := TX6) (N := 13) hx hb hts iX6_setPlant_X6 hown hK hP 0 rfl rfl 0 (by decide) (hts _ kX6_setPlant_4) (fun _ h9 => h9) rfl dX6_setPlant_106 ?_
      refine lv_bipush (v := 33) hx hb dX6_setPlant_109 (by decide) ?_
      refine lv_iload hx hb dX6_setPlant_111 (lv_at hl 5 rfl) ?_
      refine lv_i2l (v := w4.toInt64) hx hb dX6_setPlant_113 rfl ?_
      obtain ⟨v17, hv17, hF⟩ := lt_e hF
      refine x_last (ws' := [(h, .inr (6, [.ref aAl, .ref aSv, .ref aAs, .int o13.1, .int o11.2, .ref aF, .ref aG, .ref aK, .long sS, .ref aTx, .int sTl, .int sPl, .ref aRd])), (aAl, .inl (cyJ, 76, .inr (.inl v17))), (aSv, .inl (cyJ, 304, .inr (.inl o13.2))), (aAs, .inl (cyJ, 76, .inr (.inl sAs))), (aF, .inl (cyJ, 3, .inr (.inl sF))), (aG, .inl (cyJ, 3, .inr (.inl sG))), (aK, .inl (cyJ, 3, .inr (.inl sK))), (aTx, .inl (cyI, 120, .inl sTx)), (aRd, .inl (cyI, 63, .inl sRd))]) hx hb hK hP hD hS 1 1 rfl rfl (show (33 : Int32).toNatClampNeg = 33 by decide) (inbK (k := 33) (by decide) rfl) hv17 rfl dX6_setPlant_114 (fun H locs hP hD hS => ?_)
      refine lv_aload_n hx hb dX6_setPlant_115 rfl (lv_at hl 1 rfl) ?_
      refine va_get (D := (dC, dI)) (ci := 6) (v := .ref aAl) (C := RX6) (T := TX6) (N := 13) hx hb hts iX6_setPlant_X6 hown hK hP 0 rfl rfl 0 (by decide) (hts _ kX6_setPlant_4) (fun _ h9 => h9) rfl dX6_setPlant_116 ?_
      refine lv_bipush (v := 35) hx hb dX6_setPlant_119 (by decide) ?_
      refine x_lald hx hb hK hP 1 1 rfl rfl (show (35 : Int32).toNatClampNeg = 35 by decide) (inbK (k := 35) (by decide) rfl) dX6_setPlant_121 ?_
      refine lv_l2i (v := (v17 35).toInt32) hx hb dX6_setPlant_122 rfl ?_
      obtain rfl := some_e hF
      exact W.iret (v := (v17 35).toInt32) hx hb hr (fun t ht hW => ⟨⟨(v17 35).toInt32, (), rfl, rfl, ⟨by rw [ht]; exact hP, va_K.moved hW.alike hK, hD⟩⟩, hS.F ht⟩) hS.2.2 dX6_setPlant_123
    · have hF := ite_t hF c12
      refine lv_iconst (v := 0) hx hb dX6_setPlant_72 (by decide) ?_
      obtain rfl := some_e hF
      exact W.iret (v := 0) hx hb hr (fun t ht hW => ⟨⟨0, (), rfl, rfl, ⟨by rw [ht]; exact hP, va_K.moved hW.alike hK, hD⟩⟩, hS.F ht⟩) hS.2.2 dX6_setPlant_73
  refine lv_if_eq (tgt := 59) hx hb dX6_setPlant_11 (by decide) (fun c2 => ?_) (fun c2 => ?_)
  · have hF := ite_t hF c2
    refine lv_iconst (v := 0) hx hb dX6_setPlant_59 (by decide) ?_
    exact Jx9 _ _ _ _ hF hP hD hS (lv_sub hl [0, 1, 2, 3, 4] rfl)
  · have hF := ite_f hF c2
    refine lv_iload_n hx hb dX6_setPlant_14 rfl (lv_at hl 2 rfl) ?_
    refine lv_i2l (v := w2.toInt64) hx hb dX6_setPlant_15 rfl ?_
    refine lv_ldc2 (v := (-3000)) hx hb hown (hts _ kX6_setPlant_1) dX6_setPlant_16 ?_
    refine lv_ldc2 (v := 3000) hx hb hown (hts _ kX6_setPlant_2) dX6_setPlant_19 ?_
    obtain ⟨o3, ho3, hF⟩ := ob_e hF
    refine x_callzi (va_runS (As := [.long w2.toInt64, .long (-3000), .long 3000]) (rest := []) ⟨hx, hb, hml, hown, hts⟩ (c_X6_in l w2.toInt64 (-3000) 3000 ho3) (va_cwS 3 hts gX6_setPlant_X6_in rfl rfl rfl (by decide +kernel) ⟨Nat.le_of_ble_eq_true rfl, Nat.le_of_ble_eq_true rfl⟩) ⟨true_blind, fun _ _ _ => ⟨rfl, trivial⟩⟩ rfl rfl hl.1 rfl (lv_room (Nat.le_of_ble_eq_true rfl)) dX6_setPlant_22 ⟨Nat.le_of_ble_eq_true rfl, Nat.le_of_ble_eq_true rfl⟩) ?_
    refine lv_if_eq (tgt := 59) hx hb dX6_setPlant_25 (by decide) (fun c4 => ?_) (fun c4 => ?_)
    · have hF := ite_t hF c4
      refine lv_iconst (v := 0) hx hb dX6_setPlant_59 (by decide) ?_
      exact Jx9 _ _ _ _ hF hP hD hS (lv_sub hl [0, 1, 2, 3, 4] rfl)
    · have hF := ite_f hF c4
      refine lv_iload_n hx hb dX6_setPlant_28 rfl (lv_at hl 3 rfl) ?_
      refine lv_i2l (v := w3.toInt64) hx hb dX6_setPlant_29 rfl ?_
      refine lv_ldc2 (v := (-3000)) hx hb hown (hts _ kX6_setPlant_1) dX6_setPlant_30 ?_
      refine lv_ldc2 (v := 3000) hx hb hown (hts _ kX6_setPlant_2) dX6_setPlant_33 ?_
      obtain ⟨o5, ho5, hF⟩ := ob_e hF
      refine x_callzi (va_runS (As := [.long w3.toInt64, .long (-3000), .long 3000]) (rest := []) ⟨hx, hb, hml, hown, hts⟩ (c_X6_in l w3.toInt64 (-3000) 3000 ho5) (va_cwS 3 hts gX6_setPlant_X6_in rfl rfl rfl (by decide +kernel) ⟨Nat.le_of_ble_eq_true rfl, Nat.le_of_ble_eq_true rfl⟩) ⟨true_blind, fun _ _ _ => ⟨rfl, trivial⟩⟩ rfl rfl hl.1 rfl (lv_room (Nat.le_of_ble_eq_true rfl)) dX6_setPlant_36 ⟨Nat.le_of_ble_eq_true rfl, Nat.le_of_ble_eq_true rfl⟩) ?_
      refine lv_if_eq (tgt := 59) hx hb dX6_setPlant_39 (by decide) (fun c6 => ?_) (fun c6 => ?_)
      · have hF := ite_t hF c6
        refine lv_iconst (v := 0) hx hb dX6_setPlant_59 (by decide) ?_
        exact Jx9 _ _ _ _ hF hP hD hS (lv_sub hl [0, 1, 2, 3, 4] rfl)
      · have hF := ite_f hF c6
        refine lv_iload hx hb dX6_setPlant_42 (lv_at hl 4 rfl) ?_
        refine lv_i2l (v := w4.toInt64) hx hb dX6_setPlant_44 rfl ?_
        refine lv_lconst (v := 0) hx hb dX6_setPlant_45 (by decide) ?_
        refine lv_ldc2 (v := 200) hx hb hown (hts _ kX6_setPlant_3) dX6_setPlant_46 ?_
        obtain ⟨o7, ho7, hF⟩ := ob_e hF
        refine x_callzi (va_runS (As := [.long w4.toInt64, .long 0, .long 200]) (rest := []) ⟨hx, hb, hml, hown, hts⟩ (c_X6_in l w4.toInt64 0 200 ho7) (va_cwS 3 hts gX6_setPlant_X6_in rfl rfl rfl (by decide +kernel) ⟨Nat.le_of_ble_eq_true rfl, Nat.le_of_ble_eq_true rfl⟩) ⟨true_blind, fun _ _ _ => ⟨rfl, trivial⟩⟩ rfl rfl hl.1 rfl (lv_room (Nat.le_of_ble_eq_true rfl)) dX6_setPlant_49 ⟨Nat.le_of_ble_eq_true rfl, Nat.le_of_ble_eq_true rfl⟩) ?_
        refine lv_if_eq (tgt := 59) hx hb dX6_setPlant_52 (by decide) (fun c8 => ?_) (fun c8 => ?_)
        · have hF := ite_t hF c8
          refine lv_iconst (v := 0) hx hb dX6_setPlant_59 (by decide) ?_
          exact Jx9 _ _ _ _ hF hP hD hS (lv_sub hl [0, 1, 2, 3, 4] rfl)
        · have hF := ite_f hF c8
          refine lv_iconst (v := 1) hx hb dX6_setPlant_55 (by decide) ?_
          refine lv_goto (tgt := 60) hx hb dX6_setPlant_56 (by decide) ?_
          exact Jx9 _ _ _ _ hF hP hD hS (lv_sub hl [0, 1, 2, 3, 4] rfl)
def F_X6_seed (sN : Int32) (sAl : Nat → Int64) (sSv : Nat → Int64) (w1 : Int32) (w2 : Int32) : Option (Int32 × Int32 × Int32 × (Nat → Int64) × (Nat → Int64)) := ob (F_X6_in w1.toInt64 0 999999) (fun o1 => rg (α := Int32) (fun K6 => if (o1 : Int32) = 0 then (K6 0) else (ob (F_X6_isSignal w2.toInt64) (fun o3 => if (o3 : Int32) = 0 then (K6 0) else (K6 1)))) (fun x5 => ob (F_X6_goes x5 1) (fun o7 => if (o7.1 : Int32) = 0 then (some (0, sN, o7.2, sAl, sSv)) else (ob (F_X6_save sN sAl sSv) (fun o9 => lt_ (α := Int32) ((sAl 35).toInt32) (fun v10 => lt_ (α := Nat → Int64) (vp_updL sAl 34 w1.toInt64) (fun v11 => lt_ (α := Nat → Int64) (vp_updL v11 35 w2.toInt64) (fun v12 => some (v10, o9.1, o7.2, v12, o9.2)))))))))
theorem kX6_seed_1 : (Cond.constantLong RX6 104 (999999)) ∈ wsX6_seed := List.mem_of_getElem? (i := 1) rfl
theorem kX6_seed_2 : (Cond.fieldLink RX6 7 "SelfTunerModel" "all" "[J") ∈ wsX6_seed := List.mem_of_getElem? (i := 2) rfl
theorem iX6_seed_X6 : ∀ w ∈ wsX60, w ∈ wsX6_seed := fun w h => List.mem_cons_of_mem _ (List.mem_append_right _ h)
set_option maxHeartbeats 4000000 in
set_option maxRecDepth 100000 in
theorem c_X6_seed (l : Launch) (dC : Nat → ClassId) (dI : Nat → Nat → Nat) (cyI cyJ cyB cyS cyD : ClassId) (h : Nat) (aAl : Nat) (aSv : Nat) (aAs : Nat) (aF : Nat) (aG : Nat) (aK : Nat) (aTx : Nat) (aRd : Nat) (sz : Nat) (sN : Int32) (sTh : Int32) (sS : Int64) (sTl : Int32) (sPl : Int32) (sAl : Nat → Int64) (sSv : Nat → Int64) (sAs : Nat → Int64) (sF : Nat → Int64) (sG : Nat → Int64) (sK : Nat → Int64) (sTx : Nat → Int32) (sRd : Nat → Int32) (w1 : Int32) (w2 : Int32) {out : Int32 × Int32 × Int32 × (Nat → Int64) × (Nat → Int64)} (hF : F_X6_seed sN sAl sSv w1 w2 = some out) : Mi l yX6_seed wsX6_seed ({ frames := 2, cells := 0, slots := 0, locals := 46 } : Room) (dC, dI) [(cyI, .int), (cyJ, .long), (cyB, .byte), (cyS, .object "SelfTuner$State"), (cyD, .double)] sz [.ref h, .int w1, .int w2] [(h, .inr (6, [.ref aAl, .ref aSv, .ref aAs, .int sN, .int sTh, .ref aF, .ref aG, .ref aK, .long sS, .ref aTx, .int sTl, .int sPl, .ref aRd])), (aAl, .inl (cyJ, 76, .inr (.inl sAl))), (aSv, .inl (cyJ, 304, .inr (.inl sSv))), (aAs, .inl (cyJ, 76, .inr (.inl sAs))), (aF, .inl (cyJ, 3, .inr (.inl sF))), (aG, .inl (cyJ, 3, .inr (.inl sG))), (aK, .inl (cyJ, 3, .inr (.inl sK))), (aTx, .inl (cyI, 120, .inl sTx)), (aRd, .inl (cyI, 63, .inl sRd))] out.1 [(h, .inr (6, [.ref aAl, .ref aSv, .ref aAs, .int out.2.1, .int out.2.2.1, .ref aF, .ref aG, .ref aK, .long sS, .ref aTx, .int sTl, .int sPl, .ref aRd])), (aAl, .inl (cyJ, 76, .inr (.inl out.2.2.2.1))), (aSv, .inl (cyJ, 304, .inr (.inl out.2.2.2.2))), (aAs, .inl (cyJ, 76, .inr (.inl sAs))), (aF, .inl (cyJ, 3, .inr (.inl sF))), (aG, .inl (cyJ, 3, .inr (.inl sG))), (aK, .inl (cyJ, 3, .inr (.inl sK))), (aTx, .inl (cyI, 120, .inl sTx)), (aRd, .inl (cyI, 63, .inl sRd))] := by
  refine Met.ofW (cc := cX6_seed) (maxL := 4) (ret := (some .int)) (by decide) rfl ?_
  intro p e s m args below meth c s₁ B hml hv
  obtain ⟨rfl, hN, hsz, hP, hK, hD0⟩ := hv
  have hx := B.exec
  have hb := B.bytes
  have hr := B.returns
  have hts := atoms_spec (ws := wsX6_seed) B.pre
  have hown : s.vm.findClass RX6 = some m.cls := findClass_of_methodNamed B.named
  have hlocks := B.notSynchronized
  subst hsz
  have hD := hD0.self (sz := s.heap.size)
  generalize hAe : va_A [(h, .inr (6, [.ref aAl, .ref aSv, .ref aAs, .int sN, .int sTh, .ref aF, .ref aG, .ref aK, .long sS, .ref aTx, .int sTl, .int sPl, .ref aRd])), (aAl, .inl (cyJ, 76, .inr (.inl sAl))), (aSv, .inl (cyJ, 304, .inr (.inl sSv))), (aAs, .inl (cyJ, 76, .inr (.inl sAs))), (aF, .inl (cyJ, 3, .inr (.inl sF))), (aG, .inl (cyJ, 3, .inr (.inl sG))), (aK, .inl (cyJ, 3, .inr (.inl sK))), (aTx, .inl (cyI, 120, .inl sTx)), (aRd, .inl (cyI, 63, .inl sRd))] s.heap.size = A at hD ⊢
  have hA : ∀ q : Nat, s.heap.size ≤ q → A q := fun q h => by rw [← hAe]; exact Or.inr h
  have hS : va_S A s.heap s.heap [] := va_S.rf
  have hP : va_P (dC, dI) vwCl [(h, .inr (6, [.ref aAl, .ref aSv, .ref aAs, .int sN, .int sTh, .ref aF, .ref aG, .ref aK, .long sS, .ref aTx, .int sTl, .int sPl, .ref aRd])), (aAl, .inl (cyJ, 76, .inr (.inl sAl))), (aSv, .inl (cyJ, 304, .inr (.inl sSv))), (aAs, .inl (cyJ, 76, .inr (.inl sAs))), (aF, .inl (cyJ, 3, .inr (.inl sF))), (aG, .inl (cyJ, 3, .inr (.inl sG))), (aK, .inl (cyJ, 3, .inr (.inl sK))), (aTx, .inl (cyI, 120, .inl sTx)), (aRd, .inl (cyI, 63, .inl sRd))] s.heap := hP
  have hl := lv_entry ([.ref h, .int w1, .int w2]) (n := 4) (Nat.le_of_ble_eq_true rfl)
  rw [lg_entry_eq]
  generalize (lg_sl ([.ref h, .int w1, .int w2]) ++ List.replicate (4 - (lg_sl ([.ref h, .int w1, .int w2])).length) Slot.unset).toArray = ls at hl ⊢
  have hl : lv_has ls 4 [(0, .ref h), (1, .int w1), (2, .int w2)] := hl
  unfold F_X6_seed at hF
  refine lv_aload_n hx hb dX6_seed_0 rfl (lv_at hl 0 rfl) ?_
  refine lv_iload_n hx hb dX6_seed_1 rfl (lv_at hl 1 rfl) ?_
  refine lv_i2l (v := w1.toInt64) hx hb dX6_seed_2 rfl ?_
  refine lv_lconst (v := 0) hx hb dX6_seed_3 (by decide) ?_
  refine lv_ldc2 (v := 999999) hx hb hown (hts _ kX6_seed_1) dX6_seed_4 ?_
  obtain ⟨o1, ho1, hF⟩ := ob_e hF
  refine x_callzi (va_runS (As := [.long w1.toInt64, .long 0, .long 999999]) (rest := [.ref h]) ⟨hx, hb, hml, hown, hts⟩ (c_X6_in l w1.toInt64 0 999999 ho1) (va_cwS 3 hts gX6_seed_X6_in rfl rfl rfl (by decide +kernel) ⟨Nat.le_of_ble_eq_true rfl, Nat.le_of_ble_eq_true rfl⟩) ⟨true_blind, fun _ _ _ => ⟨rfl, trivial⟩⟩ rfl rfl hl.1 rfl (lv_room (Nat.le_of_ble_eq_true rfl)) dX6_seed_7 ⟨Nat.le_of_ble_eq_true rfl, Nat.le_of_ble_eq_true rfl⟩) ?_
  obtain ⟨K6, hK6, hF⟩ := rg_e hF
  have Jx5 : ∀ (x5 : Int32) (H : Heap) (locs : List Loc) (ls : Array Slot), K6 x5 = some out → va_P (dC, dI) vwCl [(h, .inr (6, [.ref aAl, .ref aSv, .ref aAs, .int sN, .int sTh, .ref aF, .ref aG, .ref aK, .long sS, .ref aTx, .int sTl, .int sPl, .ref aRd])), (aAl, .inl (cyJ, 76, .inr (.inl sAl))), (aSv, .inl (cyJ, 304, .inr (.inl sSv))), (aAs, .inl (cyJ, 76, .inr (.inl sAs))), (aF, .inl (cyJ, 3, .inr (.inl sF))), (aG, .inl (cyJ, 3, .inr (.inl sG))), (aK, .inl (cyJ, 3, .inr (.inl sK))), (aTx, .inl (cyI, 120, .inl sTx)), (aRd, .inl (cyI, 63, .inl sRd))] H → va_D A [(h, .inr (6, [.ref aAl, .ref aSv, .ref aAs, .int sN, .int sTh, .ref aF, .ref aG, .ref aK, .long sS, .ref aTx, .int sTl, .int sPl, .ref aRd])), (aAl, .inl (cyJ, 76, .inr (.inl sAl))), (aSv, .inl (cyJ, 304, .inr (.inl sSv))), (aAs, .inl (cyJ, 76, .inr (.inl sAs))), (aF, .inl (cyJ, 3, .inr (.inl sF))), (aG, .inl (cyJ, 3, .inr (.inl sG))), (aK, .inl (cyJ, 3, .inr (.inl sK))), (aTx, .inl (cyI, 120, .inl sTx)), (aRd, .inl (cyI, 63, .inl sRd))] → va_S A s.heap H locs → lv_has ls 4 [(0, .ref h), (1, .int w1), (2, .int w2)] → W p l e (headSpec wsX6_seed ({ frames := 2, cells := 0, slots := 0, locals := 46 } : Room)).room s m ([.ref h, .int w1, .int w2] : List Value).toArray below meth c H locs 0 0 (MQ below (va_Qi (fun (r' : Int32) (_ : Unit) => r' = out.1) (cPost (dC, dI) [(cyI, .int), (cyJ, .long), (cyB, .byte), (cyS, .object "SelfTuner$State"), (cyD, .double)] [(h, .inr (6, [.ref aAl, .ref aSv, .ref aAs, .int out.2.1, .int out.2.2.1, .ref aF, .ref aG, .ref aK, .long sS, .ref aTx, .int sTl, .int sPl, .ref aRd])), (aAl, .inl (cyJ, 76, .inr (.inl out.2.2.2.1))), (aSv, .inl (cyJ, 304, .inr (.inl out.2.2.2.2))), (aAs, .inl (cyJ, 76, .inr (.inl sAs))), (aF, .inl (cyJ, 3, .inr (.inl sF))), (aG, .inl (cyJ, 3, .inr (.inl sG))), (aK, .inl (cyJ, 3, .inr (.inl sK))), (aTx, .inl (cyI, 120, .inl sTx)), (aRd, .inl (cyI, 63, .inl sRd))] A) A) ([.ref h, .int w1, .int w2] : List Value).toArray s 0 0 A) (F0 m 26 ls [.int x5, .ref h]) := by
    intro x5 H locs ls hF hP hD hS hl
    rw [hK6] at hF
    refine lv_iconst (v := 1) hx hb dX6_seed_26 (by decide) ?_
    obtain ⟨o7, ho7, hF⟩ := ob_e hF
    refine x_calli (wr := []) (ws' := [(h, .inr (6, [.ref aAl, .ref aSv, .ref aAs, .int sN, .int o7.2, .ref aF, .ref aG, .ref aK, .long sS, .ref aTx, .int sTl, .int sPl, .ref aRd])), (aAl, .inl (cyJ, 76, .inr (.inl sAl))), (aSv, .inl (cyJ, 304, .inr (.inl sSv))), (aAs, .inl (cyJ, 76, .inr (.inl sAs))), (aF, .inl (cyJ, 3, .inr (.inl sF))), (aG, .inl (cyJ, 3, .inr (.inl sG))), (aK, .inl (cyJ, 3, .inr (.inl sK))), (aTx, .inl (cyI, 120, .inl sTx)), (aRd, .inl (cyI, 63, .inl sRd))]) (va_runV (As := [.int x5, .int 1]) (rest := []) ⟨hx, hb, hml, hown, hts⟩ (c_X6_goes l dC dI cyI cyJ cyB cyS cyD h aAl aSv aAs aF aG aK aTx aRd H.size sN sTh sS sTl sPl sAl sSv sAs sF sG sK sTx sRd x5 1 ho7) (cwV 2 hts gX6_seed_X6_goes rfl rfl rfl (by decide +kernel) ⟨Nat.le_of_ble_eq_true rfl, Nat.le_of_ble_eq_true rfl⟩) ⟨cPre_blind, va_recv hK hP (ci := 6) (q0 := 0) rfl rfl, x_pre hN hP hD hK [0, 1, 2, 3, 4, 5, 6, 7, 8] rfl rfl⟩ rfl rfl hl.1 rfl (lv_room (Nat.le_of_ble_eq_true rfl)) dX6_seed_27 ⟨Nat.le_of_ble_eq_true rfl, Nat.le_of_ble_eq_true rfl⟩) hP hD hS hA [0, 1, 2, 3, 4, 5, 6, 7, 8] [] [0, 1, 2, 3, 4, 5, 6, 7, 8] rfl rfl rfl (by decide) rfl rfl (fun H locs hP hD hS => ?_)
    refine lv_if_ne (tgt := 35) hx hb dX6_seed_30 (by decide) (fun c8 => ?_) (fun c8 => ?_)
    · have hF := ite_f hF c8
      refine lv_aload_n hx hb dX6_seed_35 rfl (lv_at hl 0 rfl) ?_
      obtain ⟨o9, ho9, hF⟩ := ob_e hF
      refine x_callv (wr := []) (ws' := [(h, .inr (6, [.ref aAl, .ref aSv, .ref aAs, .int o9.1, .int o7.2, .ref aF, .ref aG, .ref aK, .long sS, .ref aTx, .int sTl, .int sPl, .ref aRd])), (aAl, .inl (cyJ, 76, .inr (.inl sAl))), (aSv, .inl (cyJ, 304, .inr (.inl o9.2))), (aAs, .inl (cyJ, 76, .inr (.inl sAs))), (aF, .inl (cyJ, 3, .inr (.inl sF))), (aG, .inl (cyJ, 3, .inr (.inl sG))), (aK, .inl (cyJ, 3, .inr (.inl sK))), (aTx, .inl (cyI, 120, .inl sTx)), (aRd, .inl (cyI, 63, .inl sRd))]) (va_runV (As := []) (rest := []) ⟨hx, hb, hml, hown, hts⟩ (c_X6_save l dC dI cyI cyJ cyB cyS cyD h aAl aSv aAs aF aG aK aTx aRd H.size sN o7.2 sS sTl sPl sAl sSv sAs sF sG sK sTx sRd ho9) (cwV 0 hts gX6_seed_X6_save rfl rfl rfl (by decide +kernel) ⟨Nat.le_of_ble_eq_true rfl, Nat.le_of_ble_eq_true rfl⟩) ⟨cPre_blind, va_recv hK hP (ci := 6) (q0 := 0) rfl rfl, x_pre hN hP hD hK [0, 1, 2, 3, 4, 5, 6, 7, 8] rfl rfl⟩ rfl rfl hl.1 rfl (lv_room (Nat.le_of_ble_eq_true rfl)) dX6_seed_36 ⟨Nat.le_of_ble_eq_true rfl, Nat.le_of_ble_eq_true rfl⟩) hP hD hS hA [0, 1, 2, 3, 4, 5, 6, 7, 8] [] [0, 1, 2, 3, 4, 5, 6, 7, 8] rfl rfl rfl (by decide) rfl rfl (fun H locs hP hD hS => ?_)
      refine lv_aload_n hx hb dX6_seed_39 rfl (lv_at hl 0 rfl) ?_
      refine va_get (D := (dC, dI)) (ci := 6) (v := .ref aAl) (C := RX6) (T := TX6) (N := 13) hx hb hts iX6_seed_X6 hown hK hP 0 rfl rfl 0 (by decide) (hts _ kX6_seed_2) (fun _ h9 => h9) rfl dX6_seed_40 ?_
      refine lv_bipush (v := 35) hx hb dX6_seed_43 (by decide) ?_
      refine x_lald hx hb hK hP 1 1 rfl rfl (show (35 : Int32).toNatClampNeg = 35 by decide) (inbK (k := 35) (by decide) rfl) dX6_seed_45 ?_
      refine lv_l2i (v := (sAl 35).toInt32) hx hb dX6_seed_46 rfl ?_
      obtain ⟨v10, hv10, hF⟩ := lt_e hF
      refine x_topi hv10 ?_
      refine lv_istore_n (lv' := [(3, .int v10), (0, .ref h), (1, .int w1), (2, .int w2)]) hx hb dX6_seed_47 rfl hl (by decide) rfl (fun ls hl => ?_)
      refine lv_aload_n hx hb dX6_seed_48 rfl (lv_at hl 1 rfl) ?_
      refine va_get (D := (dC, dI)) (ci := 6) (v := .ref aAl) (C := RX6) (T := TX6) (N := 13) hx hb hts iX6_seed_X6 hown hK hP 0 rfl rfl 0 (by decide) (hts _ kX6_seed_2) (fun _ h9 => h9) rfl dX6_seed_49 ?_
      refine lv_bipush (v := 34) hx hb dX6_seed_52 (by decide) ?_
      refine lv_iload_n hx hb dX6_seed_54 rfl (lv_at hl 2 rfl) ?_
      refine lv_i2l (v := w1.toInt64) hx hb dX6_seed_55 rfl ?_
      obtain ⟨v11, hv11, hF⟩ := lt_e hF
      refine x_last (ws' := [(h, .inr (6, [.ref aAl, .ref aSv, .ref aAs, .int o9.1, .int o7.2, .ref aF, .ref aG, .ref aK, .long sS, .ref aTx, .int sTl, .int sPl, .ref aRd])), (aAl, .inl (cyJ, 76, .inr (.inl v11))), (aSv, .inl (cyJ, 304, .inr (.inl o9.2))), (aAs, .inl (cyJ, 76, .inr (.inl sAs))), (aF, .inl (cyJ, 3, .inr (.inl sF))), (aG, .inl (cyJ, 3, .inr (.inl sG))), (aK, .inl (cyJ, 3, .inr (.inl sK))), (aTx, .inl (cyI, 120, .inl sTx)), (aRd, .inl (cyI, 63, .inl sRd))]) hx hb hK hP hD hS 1 1 rfl rfl (show (34 : Int32).toNatClampNeg = 34 by decide) (inbK (k := 34) (by decide) rfl) hv11 rfl dX6_seed_56 (fun H locs hP hD hS => ?_)
      refine lv_aload_n hx hb dX6_seed_57 rfl (lv_at hl 1 rfl) ?_
      refine va_get (D := (dC, dI)) (ci := 6) (v := .ref aAl) (C := RX6) (T := TX6) (N := 13) hx hb hts iX6_seed_X6 hown hK hP 0 rfl rfl 0 (by decide) (hts _ kX6_seed_2) (fun _ h9 => h9) rfl dX6_seed_58 ?_
      refine lv_bipush (v := 35) hx hb dX6_seed_61 (by decide) ?_
      refine lv_iload_n hx hb dX6_seed_63 rfl (lv_at hl 3 rfl) ?_
      refine lv_i2l (v := w2.toInt64) hx hb dX6_seed_64 rfl ?_
      obtain ⟨v12, hv12, hF⟩ := lt_e hF
      refine x_last (ws' := [(h, .inr (6, [.ref aAl, .ref aSv, .ref aAs, .int o9.1, .int o7.2, .ref aF, .ref aG, .ref aK, .long sS, .ref aTx, .int sTl, .int sPl, .ref aRd])), (aAl, .inl (cyJ, 76, .inr (.inl v12))), (aSv, .inl (cyJ, 304, .inr (.inl o9.2))), (aAs, .inl (cyJ, 76, .inr (.inl sAs))), (aF, .inl (cyJ, 3, .inr (.inl sF))), (aG, .inl (cyJ, 3, .inr (.inl sG))), (aK, .inl (cyJ, 3, .inr (.inl sK))), (aTx, .inl (cyI, 120, .inl sTx)), (aRd, .inl (cyI, 63, .inl sRd))]) hx hb hK hP hD hS 1 1 rfl rfl (show (35 : Int32).toNatClampNeg = 35 by decide) (inbK (k := 35) (by decide) rfl) hv12 rfl dX6_seed_65 (fun H locs hP hD hS => ?_)
      refine lv_iload_n hx hb dX6_seed_66 rfl (lv_at hl 0 rfl) ?_
      obtain rfl := some_e hF
      exact W.iret (v := v10) hx hb hr (fun t ht hW => ⟨⟨v10, (), rfl, rfl, ⟨by rw [ht]; exact hP, va_K.moved hW.alike hK, hD⟩⟩, hS.F ht⟩) hS.2.2 dX6_seed_67
    · have hF := ite_t hF c8
      refine lv_iconst (v := 0) hx hb dX6_seed_33 (by decide) ?_
      obtain rfl := some_e hF
      exact W.iret (v := 0) hx hb hr (fun t ht hW => ⟨⟨0, (), rfl, rfl, ⟨by rw [ht]; exact hP, va_K.moved hW.alike hK, hD⟩⟩, hS.F ht⟩) hS.2.2 dX6_seed_34
  refine lv_if_eq (tgt := 25) hx hb dX6_seed_10 (by decide) (fun c2 => ?_) (fun c2 => ?_)
  · have hF := ite_t hF c2
    refine lv_iconst (v := 0) hx hb dX6_seed_25 (by decide) ?_
    exact Jx5 _ _ _ _ hF hP hD hS (lv_sub hl [0, 1, 2] rfl)
  · have hF := ite_f hF c2
    refine lv_iload_n hx hb dX6_seed_13 rfl (lv_at hl 2 rfl) ?_
    refine lv_i2l (v := w2.toInt64) hx hb dX6_seed_14 rfl ?_
    obtain ⟨o3, ho3, hF⟩ := ob_e hF
    refine x_callzi (va_runS (As := [.long w2.toInt64]) (rest := [.ref h]) ⟨hx, hb, hml, hown, hts⟩ (c_X6_isSignal l w2.toInt64 ho3) (va_cwS 1 hts gX6_seed_X6_isSignal rfl rfl rfl (by decide +kernel) ⟨Nat.le_of_ble_eq_true rfl, Nat.le_of_ble_eq_true rfl⟩) ⟨true_blind, fun _ _ _ => ⟨rfl, trivial⟩⟩ rfl rfl hl.1 rfl (lv_room (Nat.le_of_ble_eq_true rfl)) dX6_seed_15 ⟨Nat.le_of_ble_eq_true rfl, Nat.le_of_ble_eq_true rfl⟩) ?_
    refine lv_if_eq (tgt := 25) hx hb dX6_seed_18 (by decide) (fun c4 => ?_) (fun c4 => ?_)
    · have hF := ite_t hF c4
      refine lv_iconst (v := 0) hx hb dX6_seed_25 (by decide) ?_
      exact Jx5 _ _ _ _ hF hP hD hS (lv_sub hl [0, 1, 2] rfl)
    · have hF := ite_f hF c4
      refine lv_iconst (v := 1) hx hb dX6_seed_21 (by decide) ?_
      refine lv_goto (tgt := 26) hx hb dX6_seed_22 (by decide) ?_
      exact Jx5 _ _ _ _ hF hP hD hS (lv_sub hl [0, 1, 2] rfl)
def F_X6_laysP_2 : Nat → (((Nat → Int64)) → Option ((Nat → Int64))) → Int32 → (Nat → Int64) → Option ((Nat → Int64))
  | 0, _, _, _ => none
  | n1 + 1, K2, v3, v4 => if (9 : Int32) ≤ v3 then (K2 v4) else (rg (α := Int64) (fun K8 => if ((v3 - v3 / 4 * 4) : Int32) = 0 then (K8 6553600) else (K8 0)) (fun x7 => ck (inb (16 + v3) 76) (lt_ (α := Nat → Int64) (vp_updL v4 ((16 + v3).toNatClampNeg) x7) (fun v10 => lt_ (α := Int32) (v3 + 1) (fun v11 => F_X6_laysP_2 n1 K2 v11 v10)))))
def F_X6_laysP (sAl : Nat → Int64) : Option ((Nat → Int64)) := F_X6_laysP_2 1000 (fun x12 => some x12) 0 sAl
theorem kX6_laysP_1 : (Cond.fieldLink RX6 7 "SelfTunerModel" "all" "[J") ∈ wsX6_laysP := List.mem_of_getElem? (i := 1) rfl
theorem kX6_laysP_2 : (Cond.constantLong RX6 110 (6553600)) ∈ wsX6_laysP := List.mem_of_getElem? (i := 2) rfl
theorem iX6_laysP_X6 : ∀ w ∈ wsX60, w ∈ wsX6_laysP := fun w h => List.mem_cons_of_mem _ (List.mem_append_right _ h)
set_option maxHeartbeats 4000000 in
set_option maxRecDepth 100000 in
theorem c_X6_laysP (l : Launch) (dC : Nat → ClassId) (dI : Nat → Nat → Nat) (cyI cyJ cyB cyS cyD : ClassId) (h : Nat) (aAl : Nat) (aSv : Nat) (aAs : Nat) (aF : Nat) (aG : Nat) (aK : Nat) (aTx : Nat) (aRd : Nat) (sz : Nat) (sN : Int32) (sTh : Int32) (sS : Int64) (sTl : Int32) (sPl : Int32) (sAl : Nat → Int64) (sSv : Nat → Int64) (sAs : Nat → Int64) (sF : Nat → Int64) (sG : Nat → Int64) (sK : Nat → Int64) (sTx : Nat → Int32) (sRd : Nat → Int32) {out : (Nat → Int64)} (hF : F_X6_laysP sAl = some out) : Mv l yX6_laysP wsX6_laysP ({ frames := 0, cells := 0, slots := 0, locals := 0 } : Room) (dC, dI) [(cyI, .int), (cyJ, .long), (cyB, .byte), (cyS, .object "SelfTuner$State"), (cyD, .double)] sz [.ref h] [(h, .inr (6, [.ref aAl, .ref aSv, .ref aAs, .int sN, .int sTh, .ref aF, .ref aG, .ref aK, .long sS, .ref aTx, .int sTl, .int sPl, .ref aRd])), (aAl, .inl (cyJ, 76, .inr (.inl sAl))), (aSv, .inl (cyJ, 304, .inr (.inl sSv))), (aAs, .inl (cyJ, 76, .inr (.inl sAs))), (aF, .inl (cyJ, 3, .inr (.inl sF))), (aG, .inl (cyJ, 3, .inr (.inl sG))), (aK, .inl (cyJ, 3, .inr (.inl sK))), (aTx, .inl (cyI, 120, .inl sTx)), (aRd, .inl (cyI, 63, .inl sRd))] [(h, .inr (6, [.ref aAl, .ref aSv, .ref aAs, .int sN, .int sTh, .ref aF, .ref aG, .ref aK, .long sS, .ref aTx, .int sTl, .int sPl, .ref aRd])), (aAl, .inl (cyJ, 76, .inr (.inl out))), (aSv, .inl (cyJ, 304, .inr (.inl sSv))), (aAs, .inl (cyJ, 76, .inr (.inl sAs))), (aF, .inl (cyJ, 3, .inr (.inl sF))), (aG, .inl (cyJ, 3, .inr (.inl sG))), (aK, .inl (cyJ, 3, .inr (.inl sK))), (aTx, .inl (cyI, 120, .inl sTx)), (aRd, .inl (cyI, 63, .inl sRd))] := by
  refine Met.ofW (cc := cX6_laysP) (maxL := 2) (ret := none) (by decide) rfl ?_
  intro p e s m args below meth c s₁ B hml hv
  obtain ⟨rfl, hN, hsz, hP, hK, hD0⟩ := hv
  have hx := B.exec
  have hb := B.bytes
  have hr := B.returns
  have hts := atoms_spec (ws := wsX6_laysP) B.pre
  have hown : s.vm.findClass RX6 = some m.cls := findClass_of_methodNamed B.named
  have hlocks := B.notSynchronized
  subst hsz
  have hD := hD0.self (sz := s.heap.size)
  generalize hAe : va_A [(h, .inr (6, [.ref aAl, .ref aSv, .ref aAs, .int sN, .int sTh, .ref aF, .ref aG, .ref aK, .long sS, .ref aTx, .int sTl, .int sPl, .ref aRd])), (aAl, .inl (cyJ, 76, .inr (.inl sAl))), (aSv, .inl (cyJ, 304, .inr (.inl sSv))), (aAs, .inl (cyJ, 76, .inr (.inl sAs))), (aF, .inl (cyJ, 3, .inr (.inl sF))), (aG, .inl (cyJ, 3, .inr (.inl sG))), (aK, .inl (cyJ, 3, .inr (.inl sK))), (aTx, .inl (cyI, 120, .inl sTx)), (aRd, .inl (cyI, 63, .inl sRd))] s.heap.size = A at hD ⊢
  have hA : ∀ q : Nat, s.heap.size ≤ q → A q := fun q h => by rw [← hAe]; exact Or.inr h
  have hS : va_S A s.heap s.heap [] := va_S.rf
  have hP : va_P (dC, dI) vwCl [(h, .inr (6, [.ref aAl, .ref aSv, .ref aAs, .int sN, .int sTh, .ref aF, .ref aG, .ref aK, .long sS, .ref aTx, .int sTl, .int sPl, .ref aRd])), (aAl, .inl (cyJ, 76, .inr (.inl sAl))), (aSv, .inl (cyJ, 304, .inr (.inl sSv))), (aAs, .inl (cyJ, 76, .inr (.inl sAs))), (aF, .inl (cyJ, 3, .inr (.inl sF))), (aG, .inl (cyJ, 3, .inr (.inl sG))), (aK, .inl (cyJ, 3, .inr (.inl sK))), (aTx, .inl (cyI, 120, .inl sTx)), (aRd, .inl (cyI, 63, .inl sRd))] s.heap := hP
  have hl := lv_entry ([.ref h]) (n := 2) (Nat.le_of_ble_eq_true rfl)
  rw [lg_entry_eq]
  generalize (lg_sl ([.ref h]) ++ List.replicate (2 - (lg_sl ([.ref h])).length) Slot.unset).toArray = ls at hl ⊢
  have hl : lv_has ls 2 [(0, .ref h)] := hl
  unfold F_X6_laysP at hF
  refine lv_iconst (v := 0) hx hb dX6_laysP_0 (by decide) ?_
  refine lv_istore_n (lv' := [(1, .int 0), (0, .ref h)]) hx hb dX6_laysP_1 rfl hl (by decide) rfl (fun ls hl => ?_)
  have Ln1 : ∀ (n1 : Nat) (K2 : ((Nat → Int64)) → Option ((Nat → Int64))) (v3 : Int32) (v4 : Nat → Int64) (H : Heap) (locs : List Loc) (ls : Array Slot), F_X6_laysP_2 n1 K2 v3 v4 = some out → va_P (dC, dI) vwCl [(h, .inr (6, [.ref aAl, .ref aSv, .ref aAs, .int sN, .int sTh, .ref aF, .ref aG, .ref aK, .long sS, .ref aTx, .int sTl, .int sPl, .ref aRd])), (aAl, .inl (cyJ, 76, .inr (.inl v4))), (aSv, .inl (cyJ, 304, .inr (.inl sSv))), (aAs, .inl (cyJ, 76, .inr (.inl sAs))), (aF, .inl (cyJ, 3, .inr (.inl sF))), (aG, .inl (cyJ, 3, .inr (.inl sG))), (aK, .inl (cyJ, 3, .inr (.inl sK))), (aTx, .inl (cyI, 120, .inl sTx)), (aRd, .inl (cyI, 63, .inl sRd))] H → va_D A [(h, .inr (6, [.ref aAl, .ref aSv, .ref aAs, .int sN, .int sTh, .ref aF, .ref aG, .ref aK, .long sS, .ref aTx, .int sTl, .int sPl, .ref aRd])), (aAl, .inl (cyJ, 76, .inr (.inl v4))), (aSv, .inl (cyJ, 304, .inr (.inl sSv))), (aAs, .inl (cyJ, 76, .inr (.inl sAs))), (aF, .inl (cyJ, 3, .inr (.inl sF))), (aG, .inl (cyJ, 3, .inr (.inl sG))), (aK, .inl (cyJ, 3, .inr (.inl sK))), (aTx, .inl (cyI, 120, .inl sTx)), (aRd, .inl (cyI, 63, .inl sRd))] → va_S A s.heap H locs → lv_has ls 2 [(0, .ref h), (1, .int v3)] → (∀ (x12 : (Nat → Int64)) (H : Heap) (locs : List Loc) (ls : Array Slot), K2 x12 = some out → va_P (dC, dI) vwCl [(h, .inr (6, [.ref aAl, .ref aSv, .ref aAs, .int sN, .int sTh, .ref aF, .ref aG, .ref aK, .long sS, .ref aTx, .int sTl, .int sPl, .ref aRd])), (aAl, .inl (cyJ, 76, .inr (.inl x12))), (aSv, .inl (cyJ, 304, .inr (.inl sSv))), (aAs, .inl (cyJ, 76, .inr (.inl sAs))), (aF, .inl (cyJ, 3, .inr (.inl sF))), (aG, .inl (cyJ, 3, .inr (.inl sG))), (aK, .inl (cyJ, 3, .inr (.inl sK))), (aTx, .inl (cyI, 120, .inl sTx)), (aRd, .inl (cyI, 63, .inl sRd))] H → va_D A [(h, .inr (6, [.ref aAl, .ref aSv, .ref aAs, .int sN, .int sTh, .ref aF, .ref aG, .ref aK, .long sS, .ref aTx, .int sTl, .int sPl, .ref aRd])), (aAl, .inl (cyJ, 76, .inr (.inl x12))), (aSv, .inl (cyJ, 304, .inr (.inl sSv))), (aAs, .inl (cyJ, 76, .inr (.inl sAs))), (aF, .inl (cyJ, 3, .inr (.inl sF))), (aG, .inl (cyJ, 3, .inr (.inl sG))), (aK, .inl (cyJ, 3, .inr (.inl sK))), (aTx, .inl (cyI, 120, .inl sTx)), (aRd, .inl (cyI, 63, .inl sRd))] → va_S A s.heap H locs → lv_has ls 2 [] → W p l e (headSpec wsX6_laysP ({ frames := 0, cells := 0, slots := 0, locals := 0 } : Room)).room s m ([.ref h] : List Value).toArray below meth c H locs 0 0 (MQ below (va_Qv (fun (_ : Unit) => True) (cPost (dC, dI) [(cyI, .int), (cyJ, .long), (cyB, .byte), (cyS, .object "SelfTuner$State"), (cyD, .double)] [(h, .inr (6, [.ref aAl, .ref aSv, .ref aAs, .int sN, .int sTh, .ref aF, .ref aG, .ref aK, .long sS, .ref aTx, .int sTl, .int sPl, .ref aRd])), (aAl, .inl (cyJ, 76, .inr (.inl out))), (aSv, .inl (cyJ, 304, .inr (.inl sSv))), (aAs, .inl (cyJ, 76, .inr (.inl sAs))), (aF, .inl (cyJ, 3, .inr (.inl sF))), (aG, .inl (cyJ, 3, .inr (.inl sG))), (aK, .inl (cyJ, 3, .inr (.inl sK))), (aTx, .inl (cyI, 120, .inl sTx)), (aRd, .inl (cyI, 63, .inl sRd))] A) A) ([.ref h] : List Value).toArray s 0 0 A) (F0 m 36 ls [])) → W p l e (headSpec wsX6_laysP ({ frames := 0, cells := 0, slots := 0, locals := 0 } : Room)).room s m ([.ref h] : List Value).toArray below meth c H locs 0 0 (MQ below (va_Qv (fun (_ : Unit) => True) (cPost (dC, dI) [(cyI, .int), (cyJ, .long), (cyB, .byte), (cyS, .object "SelfTuner$State"), (cyD, .double)] [(h, .inr (6, [.ref aAl, .ref aSv, .ref aAs, .int sN, .int sTh, .ref aF, .ref aG, .ref aK, .long sS, .ref aTx, .int sTl, .int sPl, .ref aRd])), (aAl, .inl (cyJ, 76, .inr (.inl out))), (aSv, .inl (cyJ, 304, .inr (.inl sSv))), (aAs, .inl (cyJ, 76, .inr (.inl sAs))), (aF, .inl (cyJ, 3, .inr (.inl sF))), (aG, .inl (cyJ, 3, .inr (.inl sG))), (aK, .inl (cyJ, 3, .inr (.inl sK))), (aTx, .inl (cyI, 120, .inl sTx)), (aRd, .inl (cyI, 63, .inl sRd))] A) A) ([.ref h] : List Value).toArray s 0 0 A) (F0 m 2 ls []) := by
    intro n1
    induction n1 with
    | zero => intro K2 v3 v4 H locs ls hF; exact no_e (show none = some out from hF)
    | succ n1 ihn1 =>
      intro K2 v3 v4 H locs ls hF hP hD hS hl kxn1
      rw [F_X6_laysP_2] at hF
      refine lv_iload_n hx hb dX6_laysP_2 rfl (lv_at hl 1 rfl) ?_
      refine lv_bipush (v := 9) hx hb dX6_laysP_3 (by decide) ?_
      refine lv_icmp_ge (tgt := 36) hx hb dX6_laysP_5 (by decide) (fun c5 => ?_) (fun c5 => ?_)
      · have hF := ite_t hF c5
        exact kxn1 _ _ _ _ hF hP hD hS (lv_sub hl [] rfl)
      · have hF := ite_f hF c5
        refine lv_aload_n hx hb dX6_laysP_8 rfl (lv_at hl 0 rfl) ?_
        refine va_get (D := (dC, dI)) (ci := 6) (v := .ref aAl) (C := RX6) (T := TX6) (N := 13) hx hb hts iX6_laysP_X6 hown hK hP 0 rfl rfl 0 (by decide) (hts _ kX6_laysP_1) (fun _ h9 => h9) rfl dX6_laysP_9 ?_
        refine lv_bipush (v := 16) hx hb dX6_laysP_12 (by decide) ?_
        refine lv_iload_n hx hb dX6_laysP_14 rfl (lv_at hl 1 rfl) ?_
        refine lv_iadd hx hb dX6_laysP_15 ?_
        refine lv_iload_n hx hb dX6_laysP_16 rfl (lv_at hl 1 rfl) ?_
        refine lv_iconst (v := 4) hx hb dX6_laysP_17 (by decide) ?_
        refine lv_irem hx hb dX6_laysP_18 (by decide) ?_
        obtain ⟨K8, hK8, hF⟩ := rg_e hF
        have Jx7 : ∀ (x7 : Int64) (H : Heap) (locs : List Loc) (ls : Array Slot), K8 x7 = some out → va_P (dC, dI) vwCl [(h, .inr (6, [.ref aAl, .ref aSv, .ref aAs, .int sN, .int sTh, .ref aF, .ref aG, .ref aK, .long sS, .ref aTx, .int sTl, .int sPl, .ref aRd])), (aAl, .inl (cyJ, 76, .inr (.inl v4))), (aSv, .inl (cyJ, 304, .inr (.inl sSv))), (aAs, .inl (cyJ, 76, .inr (.inl sAs))), (aF, .inl (cyJ, 3, .inr (.inl sF))), (aG, .inl (cyJ, 3, .inr (.inl sG))), (aK, .inl (cyJ, 3, .inr (.inl sK))), (aTx, .inl (cyI, 120, .inl sTx)), (aRd, .inl (cyI, 63, .inl sRd))] H → va_D A [(h, .inr (6, [.ref aAl, .ref aSv, .ref aAs, .int sN, .int sTh, .ref aF, .ref aG, .ref aK, .long sS, .ref aTx, .int sTl, .int sPl, .ref aRd])), (aAl, .inl (cyJ, 76, .inr (.inl v4))), (aSv, .inl (cyJ, 304, .inr (.inl sSv))), (aAs, .inl (cyJ, 76, .inr (.inl sAs))), (aF, .inl (cyJ, 3, .inr (.inl sF))), (aG, .inl (cyJ, 3, .inr (.inl sG))), (aK, .inl (cyJ, 3, .inr (.inl sK))), (aTx, .inl (cyI, 120, .inl sTx)), (aRd, .inl (cyI, 63, .inl sRd))] → va_S A s.heap H locs → lv_has ls 2 [(0, .ref h), (1, .int v3)] → W p l e (headSpec wsX6_laysP ({ frames := 0, cells := 0, slots := 0, locals := 0 } : Room)).room s m ([.ref h] : List Value).toArray below meth c H locs 0 0 (MQ below (va_Qv (fun (_ : Unit) => True) (cPost (dC, dI) [(cyI, .int), (cyJ, .long), (cyB, .byte), (cyS, .object "SelfTuner$State"), (cyD, .double)] [(h, .inr (6, [.ref aAl, .ref aSv, .ref aAs, .int sN, .int sTh, .ref aF, .ref aG, .ref aK, .long sS, .ref aTx, .int sTl, .int sPl, .ref aRd])), (aAl, .inl (cyJ, 76, .inr (.inl out))), (aSv, .inl (cyJ, 304, .inr (.inl sSv))), (aAs, .inl (cyJ, 76, .inr (.inl sAs))), (aF, .inl (cyJ, 3, .inr (.inl sF))), (aG, .inl (cyJ, 3, .inr (.inl sG))), (aK, .inl (cyJ, 3, .inr (.inl sK))), (aTx, .inl (cyI, 120, .inl sTx)), (aRd, .inl (cyI, 63, .inl sRd))] A) A) ([.ref h] : List Value).toArray s 0 0 A) (F0 m 29 ls [.long x7, .int (16 + v3), .ref aAl]) := by
          intro x7 H locs ls hF hP hD hS hl
          rw [hK8] at hF
          obtain ⟨g9, hF⟩ := ck_e hF
          obtain ⟨v10, hv10, hF⟩ := lt_e hF
          refine x_last (ws' := [(h, .inr (6, [.ref aAl, .ref aSv, .ref aAs, .int sN, .int sTh, .ref aF, .ref aG, .ref aK, .long sS, .ref aTx, .int sTl, .int sPl, .ref aRd])), (aAl, .inl (cyJ, 76, .inr (.inl v10))), (aSv, .inl (cyJ, 304, .inr (.inl sSv))), (aAs, .inl (cyJ, 76, .inr (.inl sAs))), (aF, .inl (cyJ, 3, .inr (.inl sF))), (aG, .inl (cyJ, 3, .inr (.inl sG))), (aK, .inl (cyJ, 3, .inr (.inl sK))), (aTx, .inl (cyI, 120, .inl sTx)), (aRd, .inl (cyI, 63, .inl sRd))]) hx hb hK hP hD hS 1 1 rfl rfl rfl g9 hv10 rfl dX6_laysP_29 (fun H locs hP hD hS => ?_)
          obtain ⟨v11, hv11, hF⟩ := lt_e hF
          refine lv_iinc (v := v11) (lv' := [(1, .int v11), (0, .ref h)]) hx hb dX6_laysP_30 hl (k := 1) rfl (by rw [hv11]; rfl) (by decide) rfl (fun ls hl => ?_)
          refine lv_goto (tgt := 2) hx hb dX6_laysP_33 (by decide) ?_
          exact ihn1 _ _ _ _ _ _ hF hP hD hS (lv_sub hl [1, 0] rfl) kxn1
        refine lv_if_ne (tgt := 28) hx hb dX6_laysP_19 (by decide) (fun c6 => ?_) (fun c6 => ?_)
        · have hF := ite_f hF c6
          refine lv_lconst (v := 0) hx hb dX6_laysP_28 (by decide) ?_
          exact Jx7 _ _ _ _ hF hP hD hS (lv_sub hl [0, 1] rfl)
        · have hF := ite_t hF c6
          refine lv_ldc2 (v := 6553600) hx hb hown (hts _ kX6_laysP_2) dX6_laysP_22 ?_
          refine lv_goto (tgt := 29) hx hb dX6_laysP_25 (by decide) ?_
          exact Jx7 _ _ _ _ hF hP hD hS (lv_sub hl [0, 1] rfl)
  refine Ln1 _ _ _ _ _ _ _ hF hP hD hS (lv_sub hl [1, 0] rfl) (fun x12 H locs ls hF hP hD hS hl => ?_)
  obtain rfl := some_e hF
  exact W.vret hx hb hr (fun t ht hW => ⟨⟨(), rfl, trivial, ⟨by rw [ht]; exact hP, va_K.moved hW.alike hK, hD⟩⟩, hS.F ht⟩) hS.2.2 dX6_laysP_36
def F_X6_begins_28 : Nat → (((Nat → Int64)) → Option ((Nat → Int64))) → Int32 → (Nat → Int64) → Option ((Nat → Int64))
  | 0, _, _, _ => none
  | n4 + 1, K5, v6, v7 => if (3 : Int32) ≤ v6 then (K5 v7) else (ob (F_X6_boxes v7 v6) (fun o9 => lt_ (α := Int32) (v6 + 1) (fun v10 => F_X6_begins_28 n4 K5 v10 o9.2)))
def F_X6_begins_52 : Nat → (((Nat → Int64)) → Option ((Nat → Int64))) → Int32 → (Nat → Int64) → Option ((Nat → Int64))
  | 0, _, _, _ => none
  | n13 + 1, K14, v15, v16 => if (30 : Int32) ≤ v15 then (K14 v16) else (ck (inb v15 76) (lt_ (α := Nat → Int64) (vp_updL v16 v15.toNatClampNeg 0) (fun v19 => lt_ (α := Int32) (v15 + 1) (fun v20 => F_X6_begins_52 n13 K14 v20 v19))))
def F_X6_begins (sAl : Nat → Int64) : Option ((Nat → Int64)) := lt_ (α := Nat → Int64) (vp_updL sAl 13 0) (fun v1 => lt_ (α := Nat → Int64) (vp_updL v1 14 65536) (fun v2 => lt_ (α := Nat → Int64) (vp_updL v2 15 0) (fun v3 => F_X6_begins_28 1000 (fun x11 => ob (F_X6_laysP x11) (fun o12 => F_X6_begins_52 1000 (fun x21 => some x21) 25 o12)) 0 v3)))
theorem kX6_begins_1 : (Cond.fieldLink RX6 7 "SelfTunerModel" "all" "[J") ∈ wsX6_begins := List.mem_of_getElem? (i := 1) rfl
theorem kX6_begins_2 : (Cond.constantLong RX6 71 (65536)) ∈ wsX6_begins := List.mem_of_getElem? (i := 2) rfl
theorem iX6_begins_X6 : ∀ w ∈ wsX60, w ∈ wsX6_begins := fun w h => List.mem_cons_of_mem _ (List.mem_append_right _ h)
set_option maxHeartbeats 4000000 in
set_option maxRecDepth 100000 in
theorem c_X6_begins (l : Launch) (dC : Nat → ClassId) (dI : Nat → Nat → Nat) (cyI cyJ cyB cyS cyD : ClassId) (h : Nat) (aAl : Nat) (aSv : Nat) (aAs : Nat) (aF : Nat) (aG : Nat) (aK : Nat) (aTx : Nat) (aRd : Nat) (sz : Nat) (sN : Int32) (sTh : Int32) (sS : Int64) (sTl : Int32) (sPl : Int32) (sAl : Nat → Int64) (sSv : Nat → Int64) (sAs : Nat → Int64) (sF : Nat → Int64) (sG : Nat → Int64) (sK : Nat → Int64) (sTx : Nat → Int32) (sRd : Nat → Int32) {out : (Nat → Int64)} (hF : F_X6_begins sAl = some out) : Mv l yX6_begins wsX6_begins ({ frames := 2, cells := 0, slots := 0, locals := 48 } : Room) (dC, dI) [(cyI, .int), (cyJ, .long), (cyB, .byte), (cyS, .object "SelfTuner$State"), (cyD, .double)] sz [.ref h] [(h, .inr (6, [.ref aAl, .ref aSv, .ref aAs, .int sN, .int sTh, .ref aF, .ref aG, .ref aK, .long sS, .ref aTx, .int sTl, .int sPl, .ref aRd])), (aAl, .inl (cyJ, 76, .inr (.inl sAl))), (aSv, .inl (cyJ, 304, .inr (.inl sSv))), (aAs, .inl (cyJ, 76, .inr (.inl sAs))), (aF, .inl (cyJ, 3, .inr (.inl sF))), (aG, .inl (cyJ, 3, .inr (.inl sG))), (aK, .inl (cyJ, 3, .inr (.inl sK))), (aTx, .inl (cyI, 120, .inl sTx)), (aRd, .inl (cyI, 63, .inl sRd))] [(h, .inr (6, [.ref aAl, .ref aSv, .ref aAs, .int sN, .int sTh, .ref aF, .ref aG, .ref aK, .long sS, .ref aTx, .int sTl, .int sPl, .ref aRd])), (aAl, .inl (cyJ, 76, .inr (.inl out))), (aSv, .inl (cyJ, 304, .inr (.inl sSv))), (aAs, .inl (cyJ, 76, .inr (.inl sAs))), (aF, .inl (cyJ, 3, .inr (.inl sF))), (aG, .inl (cyJ, 3, .inr (.inl sG))), (aK, .inl (cyJ, 3, .inr (.inl sK))), (aTx, .inl (cyI, 120, .inl sTx)), (aRd, .inl (cyI, 63, .inl sRd))] := by
  refine Met.ofW (cc := cX6_begins) (maxL := 3) (ret := none) (by decide) rfl ?_
  intro p e s m args below meth c s₁ B hml hv
  obtain ⟨rfl, hN, hsz, hP, hK, hD0⟩ := hv
  have hx := B.exec
  have hb := B.bytes
  have hr := B.returns
  have hts := atoms_spec (ws := wsX6_begins) B.pre
  have hown : s.vm.findClass RX6 = some m.cls := findClass_of_methodNamed B.named
  have hlocks := B.notSynchronized
  subst hsz
  have hD := hD0.self (sz := s.heap.size)
  generalize hAe : va_A [(h, .inr (6, [.ref aAl, .ref aSv, .ref aAs, .int sN, .int sTh, .ref aF, .ref aG, .ref aK, .long sS, .ref aTx, .int sTl, .int sPl, .ref aRd])), (aAl, .inl (cyJ, 76, .inr (.inl sAl))), (aSv, .inl (cyJ, 304, .inr (.inl sSv))), (aAs, .inl (cyJ, 76, .inr (.inl sAs))), (aF, .inl (cyJ, 3, .inr (.inl sF))), (aG, .inl (cyJ, 3, .inr (.inl sG))), (aK, .inl (cyJ, 3, .inr (.inl sK))), (aTx, .inl (cyI, 120, .inl sTx)), (aRd, .inl (cyI, 63, .inl sRd))] s.heap.size = A at hD ⊢
  have hA : ∀ q : Nat, s.heap.size ≤ q → A q := fun q h => by rw [← hAe]; exact Or.inr h
  have hS : va_S A s.heap s.heap [] := va_S.rf
  have hP : va_P (dC, dI) vwCl [(h, .inr (6, [.ref aAl, .ref aSv, .ref aAs, .int sN, .int sTh, .ref aF, .ref aG, .ref aK, .long sS, .ref aTx, .int sTl, .int sPl, .ref aRd])), (aAl, .inl (cyJ, 76, .inr (.inl sAl))), (aSv, .inl (cyJ, 304, .inr (.inl sSv))), (aAs, .inl (cyJ, 76, .inr (.inl sAs))), (aF, .inl (cyJ, 3, .inr (.inl sF))), (aG, .inl (cyJ, 3, .inr (.inl sG))), (aK, .inl (cyJ, 3, .inr (.inl sK))), (aTx, .inl (cyI, 120, .inl sTx)), (aRd, .inl (cyI, 63, .inl sRd))] s.heap := hP
  have hl := lv_entry ([.ref h]) (n := 3) (Nat.le_of_ble_eq_true rfl)
  rw [lg_entry_eq]
  generalize (lg_sl ([.ref h]) ++ List.replicate (3 - (lg_sl ([.ref h])).length) Slot.unset).toArray = ls at hl ⊢
  have hl : lv_has ls 3 [(0, .ref h)] := hl
  unfold F_X6_begins at hF
  refine lv_aload_n hx hb dX6_begins_0 rfl (lv_at hl 0 rfl) ?_
  refine va_get (D := (dC, dI)) (ci := 6) (v := .ref aAl) (C := RX6) (T := TX6) (N := 13) hx hb hts iX6_begins_X6 hown hK hP 0 rfl rfl 0 (by decide) (hts _ kX6_begins_1) (fun _ h9 => h9) rfl dX6_begins_1 ?_
  refine lv_bipush (v := 13) hx hb dX6_begins_4 (by decide) ?_
  refine lv_lconst (v := 0) hx hb dX6_begins_6 (by decide) ?_
  obtain ⟨v1, hv1, hF⟩ := lt_e hF
  refine x_last (ws' := [(h, .inr (6, [.ref aAl, .ref aSv, .ref aAs, .int sN, .int sTh, .ref aF, .ref aG, .ref aK, .long sS, .ref aTx, .int sTl, .int sPl, .ref aRd])), (aAl, .inl (cyJ, 76, .inr (.inl v1))), (aSv, .inl (cyJ, 304, .inr (.inl sSv))), (aAs, .inl (cyJ, 76, .inr (.inl sAs))), (aF, .inl (cyJ, 3, .inr (.inl sF))), (aG, .inl (cyJ, 3, .inr (.inl sG))), (aK, .inl (cyJ, 3, .inr (.inl sK))), (aTx, .inl (cyI, 120, .inl sTx)), (aRd, .inl (cyI, 63, .inl sRd))]) hx hb hK hP hD hS 1 1 rfl rfl (show (13 : Int32).toNatClampNeg = 13 by decide) (inbK (k := 13) (by decide) rfl) hv1 rfl dX6_begins_7 (fun H locs hP hD hS => ?_)
  refine lv_aload_n hx hb dX6_begins_8 rfl (lv_at hl 0 rfl) ?_
  refine va_get (D := (dC, dI)) (ci := 6) (v := .ref aAl) (C := RX6) (T := TX6) (N := 13) hx hb hts iX6_begins_X6 hown hK hP 0 rfl rfl 0 (by decide) (hts _ kX6_begins_1) (fun _ h9 => h9) rfl dX6_begins_9 ?_
  refine lv_bipush (v := 14) hx hb dX6_begins_12 (by decide) ?_
  refine lv_ldc2 (v := 65536) hx hb hown (hts _ kX6_begins_2) dX6_begins_14 ?_
  obtain ⟨v2, hv2, hF⟩ := lt_e hF
  refine x_last (ws' := [(h, .inr (6, [.ref aAl, .ref aSv, .ref aAs, .int sN, .int sTh, .ref aF, .ref aG, .ref aK, .long sS, .ref aTx, .int sTl, .int sPl, .ref aRd])), (aAl, .inl (cyJ, 76, .inr (.inl v2))), (aSv, .inl (cyJ, 304, .inr (.inl sSv))), (aAs, .inl (cyJ, 76, .inr (.inl sAs))), (aF, .inl (cyJ, 3, .inr (.inl sF))), (aG, .inl (cyJ, 3, .inr (.inl sG))), (aK, .inl (cyJ, 3, .inr (.inl sK))), (aTx, .inl (cyI, 120, .inl sTx)), (aRd, .inl (cyI, 63, .inl sRd))]) hx hb hK hP hD hS 1 1 rfl rfl (show (14 : Int32).toNatClampNeg = 14 by decide) (inbK (k := 14) (by decide) rfl) hv2 rfl dX6_begins_17 (fun H locs hP hD hS => ?_)
  refine lv_aload_n hx hb dX6_begins_18 rfl (lv_at hl 0 rfl) ?_
  refine va_get (D := (dC, dI)) (ci := 6) (v := .ref aAl) (C := RX6) (T := TX6) (N := 13) hx hb hts iX6_begins_X6 hown hK hP 0 rfl rfl 0 (by decide) (hts _ kX6_begins_1) (fun _ h9 => h9) rfl dX6_begins_19 ?_
  refine lv_bipush (v := 15) hx hb dX6_begins_22 (by decide) ?_
  refine lv_lconst (v := 0) hx hb dX6_begins_24 (by decide) ?_
  obtain ⟨v3, hv3, hF⟩ := lt_e hF
  refine x_last (ws' := [(h, .inr (6, [.ref aAl, .ref aSv, .ref aAs, .int sN, .int sTh, .ref aF, .ref aG, .ref aK, .long sS, .ref aTx, .int sTl, .int sPl, .ref aRd])), (aAl, .inl (cyJ, 76, .inr (.inl v3))), (aSv, .inl (cyJ, 304, .inr (.inl sSv))), (aAs, .inl (cyJ, 76, .inr (.inl sAs))), (aF, .inl (cyJ, 3, .inr (.inl sF))), (aG, .inl (cyJ, 3, .inr (.inl sG))), (aK, .inl (cyJ, 3, .inr (.inl sK))), (aTx, .inl (cyI, 120, .inl sTx)), (aRd, .inl (cyI, 63, .inl sRd))]) hx hb hK hP hD hS 1 1 rfl rfl (show (15 : Int32).toNatClampNeg = 15 by decide) (inbK (k := 15) (by decide) rfl) hv3 rfl dX6_begins_25 (fun H locs hP hD hS => ?_)
  refine lv_iconst (v := 0) hx hb dX6_begins_26 (by decide) ?_
  refine lv_istore_n (lv' := [(1, .int 0), (0, .ref h)]) hx hb dX6_begins_27 rfl hl (by decide) rfl (fun ls hl => ?_)
  have Ln4 : ∀ (n4 : Nat) (K5 : ((Nat → Int64)) → Option ((Nat → Int64))) (v6 : Int32) (v7 : Nat → Int64) (H : Heap) (locs : List Loc) (ls : Array Slot), F_X6_begins_28 n4 K5 v6 v7 = some out → va_P (dC, dI) vwCl [(h, .inr (6, [.ref aAl, .ref aSv, .ref aAs, .int sN, .int sTh, .ref aF, .ref aG, .ref aK, .long sS, .ref aTx, .int sTl, .int sPl, .ref aRd])), (aAl, .inl (cyJ, 76, .inr (.inl v7))), (aSv, .inl (cyJ, 304, .inr (.inl sSv))), (aAs, .inl (cyJ, 76, .inr (.inl sAs))), (aF, .inl (cyJ, 3, .inr (.inl sF))), (aG, .inl (cyJ, 3, .inr (.inl sG))), (aK, .inl (cyJ, 3, .inr (.inl sK))), (aTx, .inl (cyI, 120, .inl sTx)), (aRd, .inl (cyI, 63, .inl sRd))] H → va_D A [(h, .inr (6, [.ref aAl, .ref aSv, .ref aAs, .int sN, .int sTh, .ref aF, .ref aG, .ref aK, .long sS, .ref aTx, .int sTl, .int sPl, .ref aRd])), (aAl, .inl (cyJ, 76, .inr (.inl v7))), (aSv, .inl (cyJ, 304, .inr (.inl sSv))), (aAs, .inl (cyJ, 76, .inr (.inl sAs))), (aF, .inl (cyJ, 3, .inr (.inl sF))), (aG, .inl (cyJ, 3, .inr (.inl sG))), (aK, .inl (cyJ, 3, .inr (.inl sK))), (aTx, .inl (cyI, 120, .inl sTx)), (aRd, .inl (cyI, 63, .inl sRd))] → va_S A s.heap H locs → lv_has ls 3 [(0, .ref h), (1, .int v6)] → (∀ (x11 : (Nat → Int64)) (H : Heap) (locs : List Loc) (ls : Array Slot), K5 x11 = some out → va_P (dC, dI) vwCl [(h, .inr (6, [.ref aAl, .ref aSv, .ref aAs, .int sN, .int sTh, .ref aF, .ref aG, .ref aK, .long sS, .ref aTx, .int sTl, .int sPl, .ref aRd])), (aAl, .inl (cyJ, 76, .inr (.inl x11))), (aSv, .inl (cyJ, 304, .inr (.inl sSv))), (aAs, .inl (cyJ, 76, .inr (.inl sAs))), (aF, .inl (cyJ, 3, .inr (.inl sF))), (aG, .inl (cyJ, 3, .inr (.inl sG))), (aK, .inl (cyJ, 3, .inr (.inl sK))), (aTx, .inl (cyI, 120, .inl sTx)), (aRd, .inl (cyI, 63, .inl sRd))] H → va_D A [(h, .inr (6, [.ref aAl, .ref aSv, .ref aAs, .int sN, .int sTh, .ref aF, .ref aG, .ref aK, .long sS, .ref aTx, .int sTl, .int sPl, .ref aRd])), (aAl, .inl (cyJ, 76, .inr (.inl x11))), (aSv, .inl (cyJ, 304, .inr (.inl sSv))), (aAs, .inl (cyJ, 76, .inr (.inl sAs))), (aF, .inl (cyJ, 3, .inr (.inl sF))), (aG, .inl (cyJ, 3, .inr (.inl sG))), (aK, .inl (cyJ, 3, .inr (.inl sK))), (aTx, .inl (cyI, 120, .inl sTx)), (aRd, .inl (cyI, 63, .inl sRd))] → va_S A s.heap H locs → lv_has ls 3 [(0, .ref h)] → W p l e (headSpec wsX6_begins ({ frames := 2, cells := 0, slots := 0, locals := 48 } : Room)).room s m ([.ref h] : List Value).toArray below meth c H locs 0 0 (MQ below (va_Qv (fun (_ : Unit) => True) (cPost (dC, dI) [(cyI, .int), (cyJ, .long), (cyB, .byte), (cyS, .object "SelfTuner$State"), (cyD, .double)] [(h, .inr (6, [.ref aAl, .ref aSv, .ref aAs, .int sN, .int sTh, .ref aF, .ref aG, .ref aK, .long sS, .ref aTx, .int sTl, .int sPl, .ref aRd])), (aAl, .inl (cyJ, 76, .inr (.inl out))), (aSv, .inl (cyJ, 304, .inr (.inl sSv))), (aAs, .inl (cyJ, 76, .inr (.inl sAs))), (aF, .inl (cyJ, 3, .inr (.inl sF))), (aG, .inl (cyJ, 3, .inr (.inl sG))), (aK, .inl (cyJ, 3, .inr (.inl sK))), (aTx, .inl (cyI, 120, .inl sTx)), (aRd, .inl (cyI, 63, .inl sRd))] A) A) ([.ref h] : List Value).toArray s 0 0 A) (F0 m 45 ls [])) → W p l e (headSpec wsX6_begins ({ frames := 2, cells := 0, slots := 0, locals := 48 } : Room)).room s m ([.ref h] : List Value).toArray below meth c H locs 0 0 (MQ below (va_Qv (fun (_ : Unit) => True) (cPost (dC, dI) [(cyI, .int), (cyJ, .long), (cyB, .byte), (cyS, .object "SelfTuner$State"), (cyD, .double)] [(h, .inr (6, [.ref aAl, .ref aSv, .ref aAs, .int sN, .int sTh, .ref aF, .ref aG, .ref aK, .long sS, .ref aTx, .int sTl, .int sPl, .ref aRd])), (aAl, .inl (cyJ, 76, .inr (.inl out))), (aSv, .inl (cyJ, 304, .inr (.inl sSv))), (aAs, .inl (cyJ, 76, .inr (.inl sAs))), (aF, .inl (cyJ, 3, .inr (.inl sF))), (aG, .inl (cyJ, 3, .inr (.inl sG))), (aK, .inl (cyJ, 3, .inr (.inl sK))), (aTx, .inl (cyI, 120, .inl sTx)), (aRd, .inl (cyI, 63, .inl sRd))] A) A) ([.ref h] : List Value).toArray s 0 0 A) (F0 m 28 ls []) := by
    intro n4
    induction n4 with
    | zero => intro K5 v6 v7 H locs ls hF; exact no_e (show none = some out from hF)
    | succ n4 ihn4 =>
      intro K5 v6 v7 H locs ls hF hP hD hS hl kxn4
      rw [F_X6_begins_28] at hF
      refine lv_iload_n hx hb dX6_begins_28 rfl (lv_at hl 1 rfl) ?_
      refine lv_iconst (v := 3) hx hb dX6_begins_29 (by decide) ?_
      refine lv_icmp_ge (tgt := 45) hx hb dX6_begins_30 (by decide) (fun c8 => ?_) (fun c8 => ?_)
      · have hF := ite_t hF c8
        exact kxn4 _ _ _ _ hF hP hD hS (lv_sub hl [0] rfl)
      · have hF := ite_f hF c8
        refine lv_aload_n hx hb dX6_begins_33 rfl (lv_at hl 0 rfl) ?_
        refine lv_iload_n hx hb dX6_begins_34 rfl (lv_at hl 1 rfl) ?_
        obtain ⟨o9, ho9, hF⟩ := ob_e hF
        refine x_calli (wr := []) (ws' := [(h, .inr (6, [.ref aAl, .ref aSv, .ref aAs, .int sN, .int sTh, .ref aF, .ref aG, .ref aK, .long sS, .ref aTx, .int sTl, .int sPl, .ref aRd])), (aAl, .inl (cyJ, 76, .inr (.inl o9.2))), (aSv, .inl (cyJ, 304, .inr (.inl sSv))), (aAs, .inl (cyJ, 76, .inr (.inl sAs))), (aF, .inl (cyJ, 3, .inr (.inl sF))), (aG, .inl (cyJ, 3, .inr (.inl sG))), (aK, .inl (cyJ, 3, .inr (.inl sK))), (aTx, .inl (cyI, 120, .inl sTx)), (aRd, .inl (cyI, 63, .inl sRd))]) (va_runV (As := [.int v6]) (rest := []) ⟨hx, hb, hml, hown, hts⟩ (c_X6_boxes l dC dI cyI cyJ cyB cyS cyD h aAl aSv aAs aF aG aK aTx aRd H.size sN sTh sS sTl sPl v7 sSv sAs sF sG sK sTx sRd v6 ho9) (cwV 1 hts gX6_begins_X6_boxes rfl rfl rfl (by decide +kernel) ⟨Nat.le_of_ble_eq_true rfl, Nat.le_of_ble_eq_true rfl⟩) ⟨cPre_blind, va_recv hK hP (ci := 6) (q0 := 0) rfl rfl, x_pre hN hP hD hK [0, 1, 2, 3, 4, 5, 6, 7, 8] rfl rfl⟩ rfl rfl hl.1 rfl (lv_room (Nat.le_of_ble_eq_true rfl)) dX6_begins_35 ⟨Nat.le_of_ble_eq_true rfl, Nat.le_of_ble_eq_true rfl⟩) hP hD hS hA [0, 1, 2, 3, 4, 5, 6, 7, 8] [] [0, 1, 2, 3, 4, 5, 6, 7, 8] rfl rfl rfl (by decide) rfl rfl (fun H locs hP hD hS => ?_)
        refine lv_istore_n (lv' := [(2, .int o9.1), (0, .ref h), (1, .int v6)]) hx hb dX6_begins_38 rfl hl (by decide) rfl (fun ls hl => ?_)
        obtain ⟨v10, hv10, hF⟩ := lt_e hF
        refine lv_iinc (v := v10) (lv' := [(1, .int v10), (2, .int o9.1), (0, .ref h)]) hx hb dX6_begins_39 hl (k := 2) rfl (by rw [hv10]; rfl) (by decide) rfl (fun ls hl => ?_)
        refine lv_goto (tgt := 28) hx hb dX6_begins_42 (by decide) ?_
        exact ihn4 _ _ _ _ _ _ hF hP hD hS (lv_sub hl [2, 0] rfl) kxn4
  refine Ln4 _ _ _ _ _ _ _ hF hP hD hS (lv_sub hl [1, 0] rfl) (fun x11 H locs ls hF hP hD hS hl => ?_)
  refine lv_aload_n hx hb dX6_begins_45 rfl (lv_at hl 0 rfl) ?_
  obtain ⟨o12, ho12, hF⟩ := ob_e hF
  refine x_callv (wr := []) (ws' := [(h, .inr (6, [.ref aAl, .ref aSv, .ref aAs, .int sN, .int sTh, .ref aF, .ref aG, .ref aK, .long sS, .ref aTx, .int sTl, .int sPl, .ref aRd])), (aAl, .inl (cyJ, 76, .inr (.inl o12))), (aSv, .inl (cyJ, 304, .inr (.inl sSv))), (aAs, .inl (cyJ, 76, .inr (.inl sAs))), (aF, .inl (cyJ, 3, .inr (.inl sF))), (aG, .inl (cyJ, 3, .inr (.inl sG))), (aK, .inl (cyJ, 3, .inr (.inl sK))), (aTx, .inl (cyI, 120, .inl sTx)), (aRd, .inl (cyI, 63, .inl sRd))]) (va_runV (As := []) (rest := []) ⟨hx, hb, hml, hown, hts⟩ (c_X6_laysP l dC dI cyI cyJ cyB cyS cyD h aAl aSv aAs aF aG aK aTx aRd H.size sN sTh sS sTl sPl x11 sSv sAs sF sG sK sTx sRd ho12) (cwV 0 hts gX6_begins_X6_laysP rfl rfl rfl (by decide +kernel) ⟨Nat.le_of_ble_eq_true rfl, Nat.le_of_ble_eq_true rfl⟩) ⟨cPre_blind, va_recv hK hP (ci := 6) (q0 := 0) rfl rfl, x_pre hN hP hD hK [0, 1, 2, 3, 4, 5, 6, 7, 8] rfl rfl⟩ rfl rfl hl.1 rfl (lv_room (Nat.le_of_ble_eq_true rfl)) dX6_begins_46 ⟨Nat.le_of_ble_eq_true rfl, Nat.le_of_ble_eq_true rfl⟩) hP hD hS hA [0, 1, 2, 3, 4, 5, 6, 7, 8] [] [0, 1, 2, 3, 4, 5, 6, 7, 8] rfl rfl rfl (by decide) rfl rfl (fun H locs hP hD hS => ?_)
  refine lv_bipush (v := 25) hx hb dX6_begins_49 (by decide) ?_
  refine lv_istore_n (lv' := [(1, .int 25), (0, .ref h)]) hx hb dX6_begins_51 rfl hl (by decide) rfl (fun ls hl => ?_)
  have Ln13 : ∀ (n13 : Nat) (K14 : ((Nat → Int64)) → Option ((Nat → Int64))) (v15 : Int32) (v16 : Nat → Int64) (H : Heap) (locs : List Loc) (ls : Array Slot), F_X6_begins_52 n13 K14 v15 v16 = some out → va_P (dC, dI) vwCl [(h, .inr (6, [.ref aAl, .ref aSv, .ref aAs, .int sN, .int sTh, .ref aF, .ref aG, .ref aK, .long sS, .ref aTx, .int sTl, .int sPl, .ref aRd])), (aAl, .inl (cyJ, 76, .inr (.inl v16))), (aSv, .inl (cyJ, 304, .inr (.inl sSv))), (aAs, .inl (cyJ, 76, .inr (.inl sAs))), (aF, .inl (cyJ, 3, .inr (.inl sF))), (aG, .inl (cyJ, 3, .inr (.inl sG))), (aK, .inl (cyJ, 3, .inr (.inl sK))), (aTx, .inl (cyI, 120, .inl sTx)), (aRd, .inl (cyI, 63, .inl sRd))] H → va_D A [(h, .inr (6, [.ref aAl, .ref aSv, .ref aAs, .int sN, .int sTh, .ref aF, .ref aG, .ref aK, .long sS, .ref aTx, .int sTl, .int sPl, .ref aRd])), (aAl, .inl (cyJ, 76, .inr (.inl v16))), (aSv, .inl (cyJ, 304, .inr (.inl sSv))), (aAs, .inl (cyJ, 76, .inr (.inl sAs))), (aF, .inl (cyJ, 3, .inr (.inl sF))), (aG, .inl (cyJ, 3, .inr (.inl sG))), (aK, .inl (cyJ, 3, .inr (.inl sK))), (aTx, .inl (cyI, 120, .inl sTx)), (aRd, .inl (cyI, 63, .inl sRd))] → va_S A s.heap H locs → lv_has ls 3 [(0, .ref h), (1, .int v15)] → (∀ (x21 : (Nat → Int64)) (H : Heap) (locs : List Loc) (ls : Array Slot), K14 x21 = some out → va_P (dC, dI) vwCl [(h, .inr (6, [.ref aAl, .ref aSv, .ref aAs, .int sN, .int sTh, .ref aF, .ref aG, .ref aK, .long sS, .ref aTx, .int sTl, .int sPl, .ref aRd])), (aAl, .inl (cyJ, 76, .inr (.inl x21))), (aSv, .inl (cyJ, 304, .inr (.inl sSv))), (aAs, .inl (cyJ, 76, .inr (.inl sAs))), (aF, .inl (cyJ, 3, .inr (.inl sF))), (aG, .inl (cyJ, 3, .inr (.inl sG))), (aK, .inl (cyJ, 3, .inr (.inl sK))), (aTx, .inl (cyI, 120, .inl sTx)), (aRd, .inl (cyI, 63, .inl sRd))] H → va_D A [(h, .inr (6, [.ref aAl, .ref aSv, .ref aAs, .int sN, .int sTh, .ref aF, .ref aG, .ref aK, .long sS, .ref aTx, .int sTl, .int sPl, .ref aRd])), (aAl, .inl (cyJ, 76, .inr (.inl x21))), (aSv, .inl (cyJ, 304, .inr (.inl sSv))), (aAs, .inl (cyJ, 76, .inr (.inl sAs))), (aF, .inl (cyJ, 3, .inr (.inl sF))), (aG, .inl (cyJ, 3, .inr (.inl sG))), (aK, .inl (cyJ, 3, .inr (.inl sK))), (aTx, .inl (cyI, 120, .inl sTx)), (aRd, .inl (cyI, 63, .inl sRd))] → va_S A s.heap H locs → lv_has ls 3 [] → W p l e (headSpec wsX6_begins ({ frames := 2, cells := 0, slots := 0, locals := 48 } : Room)).room s m ([.ref h] : List Value).toArray below meth c H locs 0 0 (MQ below (va_Qv (fun (_ : Unit) => True) (cPost (dC, dI) [(cyI, .int), (cyJ, .long), (cyB, .byte), (cyS, .object "SelfTuner$State"), (cyD, .double)] [(h, .inr (6, [.ref aAl, .ref aSv, .ref aAs, .int sN, .int sTh, .ref aF, .ref aG, .ref aK, .long sS, .ref aTx, .int sTl, .int sPl, .ref aRd])), (aAl, .inl (cyJ, 76, .inr (.inl out))), (aSv, .inl (cyJ, 304, .inr (.inl sSv))), (aAs, .inl (cyJ, 76, .inr (.inl sAs))), (aF, .inl (cyJ, 3, .inr (.inl sF))), (aG, .inl (cyJ, 3, .inr (.inl sG))), (aK, .inl (cyJ, 3, .inr (.inl sK))), (aTx, .inl (cyI, 120, .inl sTx)), (aRd, .inl (cyI, 63, .inl sRd))] A) A) ([.ref h] : List Value).toArray s 0 0 A) (F0 m 71 ls [])) → W p l e (headSpec wsX6_begins ({ frames := 2, cells := 0, slots := 0, locals := 48 } : Room)).room s m ([.ref h] : List Value).toArray below meth c H locs 0 0 (MQ below (va_Qv (fun (_ : Unit) => True) (cPost (dC, dI) [(cyI, .int), (cyJ, .long), (cyB, .byte), (cyS, .object "SelfTuner$State"), (cyD, .double)] [(h, .inr (6, [.ref aAl, .ref aSv, .ref aAs, .int sN, .int sTh, .ref aF, .ref aG, .ref aK, .long sS, .ref aTx, .int sTl, .int sPl, .ref aRd])), (aAl, .inl (cyJ, 76, .inr (.inl out))), (aSv, .inl (cyJ, 304, .inr (.inl sSv))), (aAs, .inl (cyJ, 76, .inr (.inl sAs))), (aF, .inl (cyJ, 3, .inr (.inl sF))), (aG, .inl (cyJ, 3, .inr (.inl sG))), (aK, .inl (cyJ, 3, .inr (.inl sK))), (aTx, .inl (cyI, 120, .inl sTx)), (aRd, .inl (cyI, 63, .inl sRd))] A) A) ([.ref h] : List Value).toArray s 0 0 A) (F0 m 52 ls []) := by
    intro n13
    induction n13 with
    | zero => intro K14 v15 v16 H locs ls hF; exact no_e (show none = some out from hF)
    | succ n13 ihn13 =>
      intro K14 v15 v16 H locs ls hF hP hD hS hl kxn13
      rw [F_X6_begins_52] at hF
      refine lv_iload_n hx hb dX6_begins_52 rfl (lv_at hl 1 rfl) ?_
      refine lv_bipush (v := 30) hx hb dX6_begins_53 (by decide) ?_
      refine lv_icmp_ge (tgt := 71) hx hb dX6_begins_55 (by decide) (fun c17 => ?_) (fun c17 => ?_)
      · have hF := ite_t hF c17
        exact kxn13 _ _ _ _ hF hP hD hS (lv_sub hl [] rfl)
      · have hF := ite_f hF c17
        refine lv_aload_n hx hb dX6_begins_58 rfl (lv_at hl 0 rfl) ?_
        refine va_get (D := (dC, dI)) (ci := 6) (v := .ref aAl) (C := RX6) (T := TX6) (N := 13) hx hb hts iX6_begins_X6 hown hK hP 0 rfl rfl 0 (by decide) (hts _ kX6_begins_1) (fun _ h9 => h9) rfl dX6_begins_59 ?_
        refine lv_iload_n hx hb dX6_begins_62 rfl (lv_at hl 1 rfl) ?_
        refine lv_lconst (v := 0) hx hb dX6_begins_63 (by decide) ?_
        obtain ⟨g18, hF⟩ := ck_e hF
        obtain ⟨v19, hv19, hF⟩ := lt_e hF
        refine x_last (ws' := [(h, .inr (6, [.ref aAl, .ref aSv, .ref aAs, .int sN, .int sTh, .ref aF, .ref aG, .ref aK, .long sS, .ref aTx, .int sTl, .int sPl, .ref aRd])), (aAl, .inl (cyJ, 76, .inr (.inl v19))), (aSv, .inl (cyJ, 304, .inr (.inl sSv))), (aAs, .inl (cyJ, 76, .inr (.inl sAs))), (aF, .inl (cyJ, 3, .inr (.inl sF))), (aG, .inl (cyJ, 3, .inr (.inl sG))), (aK, .inl (cyJ, 3, .inr (.inl sK))), (aTx, .inl (cyI, 120, .inl sTx)), (aRd, .inl (cyI, 63, .inl sRd))]) hx hb hK hP hD hS 1 1 rfl rfl rfl g18 hv19 rfl dX6_begins_64 (fun H locs hP hD hS => ?_)
        obtain ⟨v20, hv20, hF⟩ := lt_e hF
        refine lv_iinc (v := v20) (lv' := [(1, .int v20), (0, .ref h)]) hx hb dX6_begins_65 hl (k := 1) rfl (by rw [hv20]; rfl) (by decide) rfl (fun ls hl => ?_)
        refine lv_goto (tgt := 52) hx hb dX6_begins_68 (by decide) ?_
        exact ihn13 _ _ _ _ _ _ hF hP hD hS (lv_sub hl [1, 0] rfl) kxn13
  refine Ln13 _ _ _ _ _ _ _ hF hP hD hS (lv_sub hl [1, 0] rfl) (fun x21 H locs ls hF hP hD hS hl => ?_)
  obtain rfl := some_e hF
  exact W.vret hx hb hr (fun t ht hW => ⟨⟨(), rfl, trivial, ⟨by rw [ht]; exact hP, va_K.moved hW.alike hK, hD⟩⟩, hS.F ht⟩) hS.2.2 dX6_begins_71
def F_X6_takesRegressor (sF : Nat → Int64) (w1 : Int64) (w2 : Int64) : Option ((Nat → Int64)) := lt_ (α := Nat → Int64) (vp_updL sF 0 w1) (fun v1 => lt_ (α := Nat → Int64) (vp_updL v1 1 w2) (fun v2 => lt_ (α := Nat → Int64) (vp_updL v2 2 1) (fun v3 => some v3)))
theorem kX6_takesRegressor_1 : (Cond.fieldLink RX6 19 "SelfTunerModel" "f" "[J") ∈ wsX6_takesRegressor := List.mem_of_getElem? (i := 1) rfl
theorem iX6_takesRegressor_X6 : ∀ w ∈ wsX60, w ∈ wsX6_takesRegressor := fun w h => List.mem_cons_of_mem _ (List.mem_append_right _ h)
set_option maxHeartbeats 4000000 in
set_option maxRecDepth 100000 in
theorem c_X6_takesRegressor (l : Launch) (dC : Nat → ClassId) (dI : Nat → Nat → Nat) (cyI cyJ cyB cyS cyD : ClassId) (h : Nat) (aAl : Nat) (aSv : Nat) (aAs : Nat) (aF : Nat) (aG : Nat) (aK : Nat) (aTx : Nat) (aRd : Nat) (sz : Nat) (sN : Int32) (sTh : Int32) (sS : Int64) (sTl : Int32) (sPl : Int32) (sAl : Nat → Int64) (sSv : Nat → Int64) (sAs : Nat → Int64) (sF : Nat → Int64) (sG : Nat → Int64) (sK : Nat → Int64) (sTx : Nat → Int32) (sRd : Nat → Int32) (w1 : Int64) (w2 : Int64) {out : (Nat → Int64)} (hF : F_X6_takesRegressor sF w1 w2 = some out) : Mv l yX6_takesRegressor wsX6_takesRegressor ({ frames := 0, cells := 0, slots := 0, locals := 0 } : Room) (dC, dI) [(cyI, .int), (cyJ, .long), (cyB, .byte), (cyS, .object "SelfTuner$State"), (cyD, .double)] sz [.ref h, .long w1, .long w2] [(h, .inr (6, [.ref aAl, .ref aSv, .ref aAs, .int sN, .int sTh, .ref aF, .ref aG, .ref aK, .long sS, .ref aTx, .int sTl, .int sPl, .ref aRd])), (aAl, .inl (cyJ, 76, .inr (.inl sAl))), (aSv, .inl (cyJ, 304, .inr (.inl sSv))), (aAs, .inl (cyJ, 76, .inr (.inl sAs))), (aF, .inl (cyJ, 3, .inr (.inl sF))), (aG, .inl (cyJ, 3, .inr (.inl sG))), (aK, .inl (cyJ, 3, .inr (.inl sK))), (aTx, .inl (cyI, 120, .inl sTx)), (aRd, .inl (cyI, 63, .inl sRd))] [(h, .inr (6, [.ref aAl, .ref aSv, .ref aAs, .int sN, .int sTh, .ref aF, .ref aG, .ref aK, .long sS, .ref aTx, .int sTl, .int sPl, .ref aRd])), (aAl, .inl (cyJ, 76, .inr (.inl sAl))), (aSv, .inl (cyJ, 304, .inr (.inl sSv))), (aAs, .inl (cyJ, 76, .inr (.inl sAs))), (aF, .inl (cyJ, 3, .inr (.inl out))), (aG, .inl (cyJ, 3, .inr (.inl sG))), (aK, .inl (cyJ, 3, .inr (.inl sK))), (aTx, .inl (cyI, 120, .inl sTx)), (aRd, .inl (cyI, 63, .inl sRd))] := by
  refine Met.ofW (cc := cX6_takesRegressor) (maxL := 5) (ret := none) (by decide) rfl ?_
  intro p e s m args below meth c s₁ B hml hv
  obtain ⟨rfl, hN, hsz, hP, hK, hD0⟩ := hv
  have hx := B.exec
  have hb := B.bytes
  have hr := B.returns
  have hts := atoms_spec (ws := wsX6_takesRegressor) B.pre
  have hown : s.vm.findClass RX6 = some m.cls := findClass_of_methodNamed B.named
  have hlocks := B.notSynchronized
  subst hsz
  have hD := hD0.self (sz := s.heap.size)
  generalize hAe : va_A [(h, .inr (6, [.ref aAl, .ref aSv, .ref aAs, .int sN, .int sTh, .ref aF, .ref aG, .ref aK, .long sS, .ref aTx, .int sTl, .int sPl, .ref aRd])), (aAl, .inl (cyJ, 76, .inr (.inl sAl))), (aSv, .inl (cyJ, 304, .inr (.inl sSv))), (aAs, .inl (cyJ, 76, .inr (.inl sAs))), (aF, .inl (cyJ, 3, .inr (.inl sF))), (aG, .inl (cyJ, 3, .inr (.inl sG))), (aK, .inl (cyJ, 3, .inr (.inl sK))), (aTx, .inl (cyI, 120, .inl sTx)), (aRd, .inl (cyI, 63, .inl sRd))] s.heap.size = A at hD ⊢
  have hA : ∀ q : Nat, s.heap.size ≤ q → A q := fun q h => by rw [← hAe]; exact Or.inr h
  have hS : va_S A s.heap s.heap [] := va_S.rf
  have hP : va_P (dC, dI) vwCl [(h, .inr (6, [.ref aAl, .ref aSv, .ref aAs, .int sN, .int sTh, .ref aF, .ref aG, .ref aK, .long sS, .ref aTx, .int sTl, .int sPl, .ref aRd])), (aAl, .inl (cyJ, 76, .inr (.inl sAl))), (aSv, .inl (cyJ, 304, .inr (.inl sSv))), (aAs, .inl (cyJ, 76, .inr (.inl sAs))), (aF, .inl (cyJ, 3, .inr (.inl sF))), (aG, .inl (cyJ, 3, .inr (.inl sG))), (aK, .inl (cyJ, 3, .inr (.inl sK))), (aTx, .inl (cyI, 120, .inl sTx)), (aRd, .inl (cyI, 63, .inl sRd))] s.heap := hP
  have hl := lv_entry ([.ref h, .long w1, .long w2]) (n := 5) (Nat.le_of_ble_eq_true rfl)
  rw [lg_entry_eq]
  generalize (lg_sl ([.ref h, .long w1, .long w2]) ++ List.replicate (5 - (lg_sl ([.ref h, .long w1, .long w2])).length) Slot.unset).toArray = ls at hl ⊢
  have hl : lv_has ls 5 [(0, .ref h), (1, .long w1), (3, .long w2)] := hl
  unfold F_X6_takesRegressor at hF
  refine lv_aload_n hx hb dX6_takesRegressor_0 rfl (lv_at hl 0 rfl) ?_
  refine va_get (D := (dC, dI)) (ci := 6) (v := .ref aF) (C := RX6) (T := TX6) (N := 13) hx hb hts iX6_takesRegressor_X6 hown hK hP 0 rfl rfl 5 (by decide) (hts _ kX6_takesRegressor_1) (fun _ h9 => h9) rfl dX6_takesRegressor_1 ?_
  refine lv_iconst (v := 0) hx hb dX6_takesRegressor_4 (by decide) ?_
  refine lv_lload_n hx hb dX6_takesRegressor_5 rfl (lv_at hl 1 rfl) ?_
  obtain ⟨v1, hv1, hF⟩ := lt_e hF
  refine x_last (ws' := [(h, .inr (6, [.ref aAl, .ref aSv, .ref aAs, .int sN, .int sTh, .ref aF, .ref aG, .ref aK, .long sS, .ref aTx, .int sTl, .int sPl, .ref aRd])), (aAl, .inl (cyJ, 76, .inr (.inl sAl))), (aSv, .inl (cyJ, 304, .inr (.inl sSv))), (aAs, .inl (cyJ, 76, .inr (.inl sAs))), (aF, .inl (cyJ, 3, .inr (.inl v1))), (aG, .inl (cyJ, 3, .inr (.inl sG))), (aK, .inl (cyJ, 3, .inr (.inl sK))), (aTx, .inl (cyI, 120, .inl sTx)), (aRd, .inl (cyI, 63, .inl sRd))]) hx hb hK hP hD hS 4 1 rfl rfl (show (0 : Int32).toNatClampNeg = 0 by decide) (inbK (k := 0) (by decide) rfl) hv1 rfl dX6_takesRegressor_6 (fun H locs hP hD hS => ?_)
  refine lv_aload_n hx hb dX6_takesRegressor_7 rfl (lv_at hl 0 rfl) ?_
  refine va_get (D := (dC, dI)) (ci := 6) (v := .ref aF) (C := RX6) (T := TX6) (N := 13) hx hb hts iX6_takesRegressor_X6 hown hK hP 0 rfl rfl 5 (by decide) (hts _ kX6_takesRegressor_1) (fun _ h9 => h9) rfl dX6_takesRegressor_8 ?_
  refine lv_iconst (v := 1) hx hb dX6_takesRegressor_11 (by decide) ?_
  refine lv_lload_n hx hb dX6_takesRegressor_12 rfl (lv_at hl 2 rfl) ?_
  obtain ⟨v2, hv2, hF⟩ := lt_e hF
  refine x_last (ws' := [(h, .inr (6, [.ref aAl, .ref aSv, .ref aAs, .int sN, .int sTh, .ref aF, .ref aG, .ref aK, .long sS, .ref aTx, .int sTl, .int sPl, .ref aRd])), (aAl, .inl (cyJ, 76, .inr (.inl sAl))), (aSv, .inl (cyJ, 304, .inr (.inl sSv))), (aAs, .inl (cyJ, 76, .inr (.inl sAs))), (aF, .inl (cyJ, 3, .inr (.inl v2))), (aG, .inl (cyJ, 3, .inr (.inl sG))), (aK, .inl (cyJ, 3, .inr (.inl sK))), (aTx, .inl (cyI, 120, .inl sTx)), (aRd, .inl (cyI, 63, .inl sRd))]) hx hb hK hP hD hS 4 1 rfl rfl (show (1 : Int32).toNatClampNeg = 1 by decide) (inbK (k := 1) (by decide) rfl) hv2 rfl dX6_takesRegressor_13 (fun H locs hP hD hS => ?_)
  refine lv_aload_n hx hb dX6_takesRegressor_14 rfl (lv_at hl 0 rfl) ?_
  refine va_get (D := (dC, dI)) (ci := 6) (v := .ref aF) (C := RX6) (T := TX6) (N := 13) hx hb hts iX6_takesRegressor_X6 hown hK hP 0 rfl rfl 5 (by decide) (hts _ kX6_takesRegressor_1) (fun _ h9 => h9) rfl dX6_takesRegressor_15 ?_
  refine lv_iconst (v := 2) hx hb dX6_takesRegressor_18 (by decide) ?_
  refine lv_lconst (v := 1) hx hb dX6_takesRegressor_19 (by decide) ?_
  obtain ⟨v3, hv3, hF⟩ := lt_e hF
  refine x_last (ws' := [(h, .inr (6, [.ref aAl, .ref aSv, .ref aAs, .int sN, .int sTh, .ref aF, .ref aG, .ref aK, .long sS, .ref aTx, .int sTl, .int sPl, .ref aRd])), (aAl, .inl (cyJ, 76, .inr (.inl sAl))), (aSv, .inl (cyJ, 304, .inr (.inl sSv))), (aAs, .inl (cyJ, 76, .inr (.inl sAs))), (aF, .inl (cyJ, 3, .inr (.inl v3))), (aG, .inl (cyJ, 3, .inr (.inl sG))), (aK, .inl (cyJ, 3, .inr (.inl sK))), (aTx, .inl (cyI, 120, .inl sTx)), (aRd, .inl (cyI, 63, .inl sRd))]) hx hb hK hP hD hS 4 1 rfl rfl (show (2 : Int32).toNatClampNeg = 2 by decide) (inbK (k := 2) (by decide) rfl) hv3 rfl dX6_takesRegressor_20 (fun H locs hP hD hS => ?_)
  obtain rfl := some_e hF
  exact W.vret hx hb hr (fun t ht hW => ⟨⟨(), rfl, trivial, ⟨by rw [ht]; exact hP, va_K.moved hW.alike hK, hD⟩⟩, hS.F ht⟩) hS.2.2 dX6_takesRegressor_21
def F_X6_sum (sAl : Nat → Int64) (sF : Nat → Int64) : Option (Int64) := some ((((sAl 13) * (sF 0)) + ((sAl 14) * (sF 1))) + ((sAl 15) * (sF 2)))
theorem kX6_sum_1 : (Cond.fieldLink RX6 7 "SelfTunerModel" "all" "[J") ∈ wsX6_sum := List.mem_of_getElem? (i := 1) rfl
theorem kX6_sum_2 : (Cond.fieldLink RX6 19 "SelfTunerModel" "f" "[J") ∈ wsX6_sum := List.mem_of_getElem? (i := 2) rfl
theorem iX6_sum_X6 : ∀ w ∈ wsX60, w ∈ wsX6_sum := fun w h => List.mem_cons_of_mem _ (List.mem_append_right _ h)
set_option maxHeartbeats 4000000 in
set_option maxRecDepth 100000 in
theorem c_X6_sum (l : Launch) (dC : Nat → ClassId) (dI : Nat → Nat → Nat) (cyI cyJ cyB cyS cyD : ClassId) (h : Nat) (aAl : Nat) (aSv : Nat) (aAs : Nat) (aF : Nat) (aG : Nat) (aK : Nat) (aTx : Nat) (aRd : Nat) (sz : Nat) (sN : Int32) (sTh : Int32) (sS : Int64) (sTl : Int32) (sPl : Int32) (sAl : Nat → Int64) (sSv : Nat → Int64) (sAs : Nat → Int64) (sF : Nat → Int64) (sG : Nat → Int64) (sK : Nat → Int64) (sTx : Nat → Int32) (sRd : Nat → Int32) {out : Int64} (hF : F_X6_sum sAl sF = some out) : Ml l yX6_sum wsX6_sum ({ frames := 0, cells := 0, slots := 0, locals := 0 } : Room) (dC, dI) [(cyI, .int), (cyJ, .long), (cyB, .byte), (cyS, .object "SelfTuner$State"), (cyD, .double)] sz [.ref h] [(h, .inr (6, [.ref aAl, .ref aSv, .ref aAs, .int sN, .int sTh, .ref aF, .ref aG, .ref aK, .long sS, .ref aTx, .int sTl, .int sPl, .ref aRd])), (aAl, .inl (cyJ, 76, .inr (.inl sAl))), (aSv, .inl (cyJ, 304, .inr (.inl sSv))), (aAs, .inl (cyJ, 76, .inr (.inl sAs))), (aF, .inl (cyJ, 3, .inr (.inl sF))), (aG, .inl (cyJ, 3, .inr (.inl sG))), (aK, .inl (cyJ, 3, .inr (.inl sK))), (aTx, .inl (cyI, 120, .inl sTx)), (aRd, .inl (cyI, 63, .inl sRd))] out [(h, .inr (6, [.ref aAl, .ref aSv, .ref aAs, .int sN, .int sTh, .ref aF, .ref aG, .ref aK, .long sS, .ref aTx, .int sTl, .int sPl, .ref aRd])), (aAl, .inl (cyJ, 76, .inr (.inl sAl))), (aSv, .inl (cyJ, 304, .inr (.inl sSv))), (aAs, .inl (cyJ, 76, .inr (.inl sAs))), (aF, .inl (cyJ, 3, .inr (.inl sF))), (aG, .inl (cyJ, 3, .inr (.inl sG))), (aK, .inl (cyJ, 3, .inr (.inl sK))), (aTx, .inl (cyI, 120, .inl sTx)), (aRd, .inl (cyI, 63, .inl sRd))] := by
  refine Met.ofW (cc := cX6_sum) (maxL := 1) (ret := (some .long)) (by decide) rfl ?_
  intro p e s m args below meth c s₁ B hml hv
  obtain ⟨rfl, hN, hsz, hP, hK, hD0⟩ := hv
  have hx := B.exec
  have hb := B.bytes
  have hr := B.returns
  have hts := atoms_spec (ws := wsX6_sum) B.pre
  have hown : s.vm.findClass RX6 = some m.cls := findClass_of_methodNamed B.named
  have hlocks := B.notSynchronized
  subst hsz
  have hD := hD0.self (sz := s.heap.size)
  generalize hAe : va_A [(h, .inr (6, [.ref aAl, .ref aSv, .ref aAs, .int sN, .int sTh, .ref aF, .ref aG, .ref aK, .long sS, .ref aTx, .int sTl, .int sPl, .ref aRd])), (aAl, .inl (cyJ, 76, .inr (.inl sAl))), (aSv, .inl (cyJ, 304, .inr (.inl sSv))), (aAs, .inl (cyJ, 76, .inr (.inl sAs))), (aF, .inl (cyJ, 3, .inr (.inl sF))), (aG, .inl (cyJ, 3, .inr (.inl sG))), (aK, .inl (cyJ, 3, .inr (.inl sK))), (aTx, .inl (cyI, 120, .inl sTx)), (aRd, .inl (cyI, 63, .inl sRd))] s.heap.size = A at hD ⊢
  have hA : ∀ q : Nat, s.heap.size ≤ q → A q := fun q h => by rw [← hAe]; exact Or.inr h
  have hS : va_S A s.heap s.heap [] := va_S.rf
  have hP : va_P (dC, dI) vwCl [(h, .inr (6, [.ref aAl, .ref aSv, .ref aAs, .int sN, .int sTh, .ref aF, .ref aG, .ref aK, .long sS, .ref aTx, .int sTl, .int sPl, .ref aRd])), (aAl, .inl (cyJ, 76, .inr (.inl sAl))), (aSv, .inl (cyJ, 304, .inr (.inl sSv))), (aAs, .inl (cyJ, 76, .inr (.inl sAs))), (aF, .inl (cyJ, 3, .inr (.inl sF))), (aG, .inl (cyJ, 3, .inr (.inl sG))), (aK, .inl (cyJ, 3, .inr (.inl sK))), (aTx, .inl (cyI, 120, .inl sTx)), (aRd, .inl (cyI, 63, .inl sRd))] s.heap := hP
  have hl := lv_entry ([.ref h]) (n := 1) (Nat.le_of_ble_eq_true rfl)
  rw [lg_entry_eq]
  generalize (lg_sl ([.ref h]) ++ List.replicate (1 - (lg_sl ([.ref h])).length) Slot.unset).toArray = ls at hl ⊢
  have hl : lv_has ls 1 [(0, .ref h)] := hl
  unfold F_X6_sum at hF
  refine lv_aload_n hx hb dX6_sum_0 rfl (lv_at hl 0 rfl) ?_
  refine va_get (D := (dC, dI)) (ci := 6) (v := .ref aAl) (C := RX6) (T := TX6) (N := 13) hx hb hts iX6_sum_X6 hown hK hP 0 rfl rfl 0 (by decide) (hts _ kX6_sum_1) (fun _ h9 => h9) rfl dX6_sum_1 ?_
  refine lv_bipush (v := 13) hx hb dX6_sum_4 (by decide) ?_
  refine x_lald hx hb hK hP 1 1 rfl rfl (show (13 : Int32).toNatClampNeg = 13 by decide) (inbK (k := 13) (by decide) rfl) dX6_sum_6 ?_
  refine lv_aload_n hx hb dX6_sum_7 rfl (lv_at hl 0 rfl) ?_
  refine va_get (D := (dC, dI)) (ci := 6) (v := .ref aF) (C := RX6) (T := TX6) (N := 13) hx hb hts iX6_sum_X6 hown hK hP 0 rfl rfl 5 (by decide) (hts _ kX6_sum_2) (fun _ h9 => h9) rfl dX6_sum_8 ?_
  refine lv_iconst (v := 0) hx hb dX6_sum_11 (by decide) ?_
  refine x_lald hx hb hK hP 4 1 rfl rfl (show (0 : Int32).toNatClampNeg = 0 by decide) (inbK (k := 0) (by decide) rfl) dX6_sum_12 ?_
  refine lv_lmul hx hb dX6_sum_13 ?_
  refine lv_aload_n hx hb dX6_sum_14 rfl (lv_at hl 0 rfl) ?_
  refine va_get (D := (dC, dI)) (ci := 6) (v := .ref aAl) (C := RX6) (T := TX6) (N := 13) hx hb hts iX6_sum_X6 hown hK hP 0 rfl rfl 0 (by decide) (hts _ kX6_sum_1) (fun _ h9 => h9) rfl dX6_sum_15 ?_
  refine lv_bipush (v := 14) hx hb dX6_sum_18 (by decide) ?_
  refine x_lald hx hb hK hP 1 1 rfl rfl (show (14 : Int32).toNatClampNeg = 14 by decide) (inbK (k := 14) (by decide) rfl) dX6_sum_20 ?_
  refine lv_aload_n hx hb dX6_sum_21 rfl (lv_at hl 0 rfl) ?_
  refine va_get (D := (dC, dI)) (ci := 6) (v := .ref aF) (C := RX6) (T := TX6) (N := 13) hx hb hts iX6_sum_X6 hown hK hP 0 rfl rfl 5 (by decide) (hts _ kX6_sum_2) (fun _ h9 => h9) rfl dX6_sum_22 ?_
  refine lv_iconst (v := 1) hx hb dX6_sum_25 (by decide) ?_
  refine x_lald hx hb hK hP 4 1 rfl rfl (show (1 : Int32).toNatClampNeg = 1 by decide) (inbK (k := 1) (by decide) rfl) dX6_sum_26 ?_
  refine lv_lmul hx hb dX6_sum_27 ?_
  refine lv_ladd hx hb dX6_sum_28 ?_
  refine lv_aload_n hx hb dX6_sum_29 rfl (lv_at hl 0 rfl) ?_
  refine va_get (D := (dC, dI)) (ci := 6) (v := .ref aAl) (C := RX6) (T := TX6) (N := 13) hx hb hts iX6_sum_X6 hown hK hP 0 rfl rfl 0 (by decide) (hts _ kX6_sum_1) (fun _ h9 => h9) rfl dX6_sum_30 ?_
  refine lv_bipush (v := 15) hx hb dX6_sum_33 (by decide) ?_
  refine x_lald hx hb hK hP 1 1 rfl rfl (show (15 : Int32).toNatClampNeg = 15 by decide) (inbK (k := 15) (by decide) rfl) dX6_sum_35 ?_
  refine lv_aload_n hx hb dX6_sum_36 rfl (lv_at hl 0 rfl) ?_
  refine va_get (D := (dC, dI)) (ci := 6) (v := .ref aF) (C := RX6) (T := TX6) (N := 13) hx hb hts iX6_sum_X6 hown hK hP 0 rfl rfl 5 (by decide) (hts _ kX6_sum_2) (fun _ h9 => h9) rfl dX6_sum_37 ?_
  refine lv_iconst (v := 2) hx hb dX6_sum_40 (by decide) ?_
  refine x_lald hx hb hK hP 4 1 rfl rfl (show (2 : Int32).toNatClampNeg = 2 by decide) (inbK (k := 2) (by decide) rfl) dX6_sum_41 ?_
  refine lv_lmul hx hb dX6_sum_42 ?_
  refine lv_ladd hx hb dX6_sum_43 ?_
  obtain rfl := some_e hF
  exact W.lret (v := (((sAl 13) * (sF 0)) + ((sAl 14) * (sF 1))) + ((sAl 15) * (sF 2))) hx hb hr (fun t ht hW => ⟨⟨(((sAl 13) * (sF 0)) + ((sAl 14) * (sF 1))) + ((sAl 15) * (sF 2)), (), rfl, rfl, ⟨by rw [ht]; exact hP, va_K.moved hW.alike hK, hD⟩⟩, hS.F ht⟩) hS.2.2 dX6_sum_44
def F_X6_laysGains_7 (sAl : Nat → Int64) (sF : Nat → Int64) : Nat → ((Int64 × (Nat → Int64)) → Option (Int64 × (Nat → Int64))) → Int32 → Int64 → (Nat → Int64) → Option (Int64 × (Nat → Int64))
  | 0, _, _, _, _ => none
  | n1 + 1, K2, v3, v4, v5 => if (3 : Int32) ≤ v3 then (K2 (v4, v5)) else (ck (inb (16 + (3 * v3)) 76) (ck (inb ((16 + (3 * v3)) + 1) 76) (ck (inb ((16 + (3 * v3)) + 2) 76) (ck (inb v3 3) (lt_ (α := Nat → Int64) (vp_updL v5 v3.toNatClampNeg ((((sAl ((16 + (3 * v3)).toNatClampNeg)) * (sF 0)) + ((sAl (((16 + (3 * v3)) + 1).toNatClampNeg)) * (sF 1))) + ((sAl (((16 + (3 * v3)) + 2).toNatClampNeg)) * (sF 2)))) (fun v11 => ck (inb v3 3) (ck (inb v3 3) (lt_ (α := Int64) (v4 + ((sF v3.toNatClampNeg) * (v11 v3.toNatClampNeg))) (fun v14 => lt_ (α := Int32) (v3 + 1) (fun v15 => F_X6_laysGains_7 sAl sF n1 K2 v15 v14 v11))))))))))
def F_X6_laysGains (sAl : Nat → Int64) (sF : Nat → Int64) (sG : Nat → Int64) : Option (Int64 × (Nat → Int64)) := F_X6_laysGains_7 sAl sF 1000 (fun x16 => rg (α := Int64) (fun K19 => if (x16.1 : Int64) < 0 then (K19 0) else (K19 x16.1)) (fun x18 => some (x18, x16.2))) 0 0 sG
theorem kX6_laysGains_1 : (Cond.fieldLink RX6 115 "SelfTunerModel" "s" "J") ∈ wsX6_laysGains := List.mem_of_getElem? (i := 1) rfl
theorem kX6_laysGains_2 : (Cond.fieldLink RX6 22 "SelfTunerModel" "g" "[J") ∈ wsX6_laysGains := List.mem_of_getElem? (i := 2) rfl
theorem kX6_laysGains_3 : (Cond.fieldLink RX6 7 "SelfTunerModel" "all" "[J") ∈ wsX6_laysGains := List.mem_of_getElem? (i := 3) rfl
theorem kX6_laysGains_4 : (Cond.fieldLink RX6 19 "SelfTunerModel" "f" "[J") ∈ wsX6_laysGains := List.mem_of_getElem? (i := 4) rfl
theorem iX6_laysGains_X6 : ∀ w ∈ wsX60, w ∈ wsX6_laysGains := fun w h => List.mem_cons_of_mem _ (List.mem_append_right _ h)
set_option maxHeartbeats 4000000 in
set_option maxRecDepth 100000 in
theorem c_X6_laysGains (l : Launch) (dC : Nat → ClassId) (dI : Nat → Nat → Nat) (cyI cyJ cyB cyS cyD : ClassId) (h : Nat) (aAl : Nat) (aSv : Nat) (aAs : Nat) (aF : Nat) (aG : Nat) (aK : Nat) (aTx : Nat) (aRd : Nat) (sz : Nat) (sN : Int32) (sTh : Int32) (sS : Int64) (sTl : Int32) (sPl : Int32) (sAl : Nat → Int64) (sSv : Nat → Int64) (sAs : Nat → Int64) (sF : Nat → Int64) (sG : Nat → Int64) (sK : Nat → Int64) (sTx : Nat → Int32) (sRd : Nat → Int32) {out : Int64 × (Nat → Int64)} (hF : F_X6_laysGains sAl sF sG = some out) : Mv l yX6_laysGains wsX6_laysGains ({ frames := 0, cells := 0, slots := 0, locals := 0 } : Room) (dC, dI) [(cyI, .int), (cyJ, .long), (cyB, .byte), (cyS, .object "SelfTuner$State"), (cyD, .double)] sz [.ref h] [(h, .inr (6, [.ref aAl, .ref aSv, .ref aAs, .int sN, .int sTh, .ref aF, .ref aG, .ref aK, .long sS, .ref aTx, .int sTl, .int sPl, .ref aRd])), (aAl, .inl (cyJ, 76, .inr (.inl sAl))), (aSv, .inl (cyJ, 304, .inr (.inl sSv))), (aAs, .inl (cyJ, 76, .inr (.inl sAs))), (aF, .inl (cyJ, 3, .inr (.inl sF))), (aG, .inl (cyJ, 3, .inr (.inl sG))), (aK, .inl (cyJ, 3, .inr (.inl sK))), (aTx, .inl (cyI, 120, .inl sTx)), (aRd, .inl (cyI, 63, .inl sRd))] [(h, .inr (6, [.ref aAl, .ref aSv, .ref aAs, .int sN, .int sTh, .ref aF, .ref aG, .ref aK, .long out.1, .ref aTx, .int sTl, .int sPl, .ref aRd])), (aAl, .inl (cyJ, 76, .inr (.inl sAl))), (aSv, .inl (cyJ, 304, .inr (.inl sSv))), (aAs, .inl (cyJ, 76, .inr (.inl sAs))), (aF, .inl (cyJ, 3, .inr (.inl sF))), (aG, .inl (cyJ, 3, .inr (.inl out.2))), (aK, .inl (cyJ, 3, .inr (.inl sK))), (aTx, .inl (cyI, 120, .inl sTx)), (aRd, .inl (cyI, 63, .inl sRd))] := by
  refine Met.ofW (cc := cX6_laysGains) (maxL := 2) (ret := none) (by decide) rfl ?_
  intro p e s m args below meth c s₁ B hml hv
  obtain ⟨rfl, hN, hsz, hP, hK, hD0⟩ := hv
  have hx := B.exec
  have hb := B.bytes
  have hr := B.returns
  have hts := atoms_spec (ws := wsX6_laysGains) B.pre
  have hown : s.vm.findClass RX6 = some m.cls := findClass_of_methodNamed B.named
  have hlocks := B.notSynchronized
  subst hsz
  have hD := hD0.self (sz := s.heap.size)
  generalize hAe : va_A [(h, .inr (6, [.ref aAl, .ref aSv, .ref aAs, .int sN, .int sTh, .ref aF, .ref aG, .ref aK, .long sS, .ref aTx, .int sTl, .int sPl, .ref aRd])), (aAl, .inl (cyJ, 76, .inr (.inl sAl))), (aSv, .inl (cyJ, 304, .inr (.inl sSv))), (aAs, .inl (cyJ, 76, .inr (.inl sAs))), (aF, .inl (cyJ, 3, .inr (.inl sF))), (aG, .inl (cyJ, 3, .inr (.inl sG))), (aK, .inl (cyJ, 3, .inr (.inl sK))), (aTx, .inl (cyI, 120, .inl sTx)), (aRd, .inl (cyI, 63, .inl sRd))] s.heap.size = A at hD ⊢
  have hA : ∀ q : Nat, s.heap.size ≤ q → A q := fun q h => by rw [← hAe]; exact Or.inr h
  have hS : va_S A s.heap s.heap [] := va_S.rf
  have hP : va_P (dC, dI) vwCl [(h, .inr (6, [.ref aAl, .ref aSv, .ref aAs, .int sN, .int sTh, .ref aF, .ref aG, .ref aK, .long sS, .ref aTx, .int sTl, .int sPl, .ref aRd])), (aAl, .inl (cyJ, 76, .inr (.inl sAl))), (aSv, .inl (cyJ, 304, .inr (.inl sSv))), (aAs, .inl (cyJ, 76, .inr (.inl sAs))), (aF, .inl (cyJ, 3, .inr (.inl sF))), (aG, .inl (cyJ, 3, .inr (.inl sG))), (aK, .inl (cyJ, 3, .inr (.inl sK))), (aTx, .inl (cyI, 120, .inl sTx)), (aRd, .inl (cyI, 63, .inl sRd))] s.heap := hP
  have hl := lv_entry ([.ref h]) (n := 2) (Nat.le_of_ble_eq_true rfl)
  rw [lg_entry_eq]
  generalize (lg_sl ([.ref h]) ++ List.replicate (2 - (lg_sl ([.ref h])).length) Slot.unset).toArray = ls at hl ⊢
  have hl : lv_has ls 2 [(0, .ref h)] := hl
  unfold F_X6_laysGains at hF
  refine lv_aload_n hx hb dX6_laysGains_0 rfl (lv_at hl 0 rfl) ?_
  refine lv_lconst (v := 0) hx hb dX6_laysGains_1 (by decide) ?_
  refine x_put (D := (dC, dI)) (ci := 6) (v := .long 0) (ty := .long) (C := RX6) (T := TX6) (N := 13) (ws' := [(h, .inr (6, [.ref aAl, .ref aSv, .ref aAs, .int sN, .int sTh, .ref aF, .ref aG, .ref aK, .long 0, .ref aTx, .int sTl, .int sPl, .ref aRd])), (aAl, .inl (cyJ, 76, .inr (.inl sAl))), (aSv, .inl (cyJ, 304, .inr (.inl sSv))), (aAs, .inl (cyJ, 76, .inr (.inl sAs))), (aF, .inl (cyJ, 3, .inr (.inl sF))), (aG, .inl (cyJ, 3, .inr (.inl sG))), (aK, .inl (cyJ, 3, .inr (.inl sK))), (aTx, .inl (cyI, 120, .inl sTx)), (aRd, .inl (cyI, 63, .inl sRd))]) hx hb hts iX6_laysGains_X6 tyX6 tyX6_ok nmX6 hown hK hP hD hS 0 rfl rfl 8 (by decide) (hts _ kX6_laysGains_1) (fun _ h9 => h9) rfl (by decide +kernel) rfl rfl (Nat.le_of_ble_eq_true rfl) rfl dX6_laysGains_2 (fun H locs hP hD hS => ?_)
  refine lv_iconst (v := 0) hx hb dX6_laysGains_5 (by decide) ?_
  refine lv_istore_n (lv' := [(1, .int 0), (0, .ref h)]) hx hb dX6_laysGains_6 rfl hl (by decide) rfl (fun ls hl => ?_)
  have Ln1 : ∀ (n1 : Nat) (K2 : (Int64 × (Nat → Int64)) → Option (Int64 × (Nat → Int64))) (v3 : Int32) (v4 : Int64) (v5 : Nat → Int64) (H : Heap) (locs : List Loc) (ls : Array Slot), F_X6_laysGains_7 sAl sF n1 K2 v3 v4 v5 = some out → va_P (dC, dI) vwCl [(h, .inr (6, [.ref aAl, .ref aSv, .ref aAs, .int sN, .int sTh, .ref aF, .ref aG, .ref aK, .long v4, .ref aTx, .int sTl, .int sPl, .ref aRd])), (aAl, .inl (cyJ, 76, .inr (.inl sAl))), (aSv, .inl (cyJ, 304, .inr (.inl sSv))), (aAs, .inl (cyJ, 76, .inr (.inl sAs))), (aF, .inl (cyJ, 3, .inr (.inl sF))), (aG, .inl (cyJ, 3, .inr (.inl v5))), (aK, .inl (cyJ, 3, .inr (.inl sK))), (aTx, .inl (cyI, 120, .inl sTx)), (aRd, .inl (cyI, 63, .inl sRd))] H → va_D A [(h, .inr (6, [.ref aAl, .ref aSv, .ref aAs, .int sN, .int sTh, .ref aF, .ref aG, .ref aK, .long v4, .ref aTx, .int sTl, .int sPl, .ref aRd])), (aAl, .inl (cyJ, 76, .inr (.inl sAl))), (aSv, .inl (cyJ, 304, .inr (.inl sSv))), (aAs, .inl (cyJ, 76, .inr (.inl sAs))), (aF, .inl (cyJ, 3, .inr (.inl sF))), (aG, .inl (cyJ, 3, .inr (.inl v5))), (aK, .inl (cyJ, 3, .inr (.inl sK))), (aTx, .inl (cyI, 120, .inl sTx)), (aRd, .inl (cyI, 63, .inl sRd))] → va_S A s.heap H locs → lv_has ls 2 [(0, .ref h), (1, .int v3)] → (∀ (x16 : Int64 × (Nat → Int64)) (H : Heap) (locs : List Loc) (ls : Array Slot), K2 x16 = some out → va_P (dC, dI) vwCl [(h, .inr (6, [.ref aAl, .ref aSv, .ref aAs, .int sN, .int sTh, .ref aF, .ref aG, .ref aK, .long x16.1, .ref aTx, .int sTl, .int sPl, .ref aRd])), (aAl, .inl (cyJ, 76, .inr (.inl sAl))), (aSv, .inl (cyJ, 304, .inr (.inl sSv))), (aAs, .inl (cyJ, 76, .inr (.inl sAs))), (aF, .inl (cyJ, 3, .inr (.inl sF))), (aG, .inl (cyJ, 3, .inr (.inl x16.2))), (aK, .inl (cyJ, 3, .inr (.inl sK))), (aTx, .inl (cyI, 120, .inl sTx)), (aRd, .inl (cyI, 63, .inl sRd))] H → va_D A [(h, .inr (6, [.ref aAl, .ref aSv, .ref aAs, .int sN, .int sTh, .ref aF, .ref aG, .ref aK, .long x16.1, .ref aTx, .int sTl, .int sPl, .ref aRd])), (aAl, .inl (cyJ, 76, .inr (.inl sAl))), (aSv, .inl (cyJ, 304, .inr (.inl sSv))), (aAs, .inl (cyJ, 76, .inr (.inl sAs))), (aF, .inl (cyJ, 3, .inr (.inl sF))), (aG, .inl (cyJ, 3, .inr (.inl x16.2))), (aK, .inl (cyJ, 3, .inr (.inl sK))), (aTx, .inl (cyI, 120, .inl sTx)), (aRd, .inl (cyI, 63, .inl sRd))] → va_S A s.heap H locs → lv_has ls 2 [(0, .ref h)] → W p l e (headSpec wsX6_laysGains ({ frames := 0, cells := 0, slots := 0, locals := 0 } : Room)).room s m ([.ref h] : List Value).toArray below meth c H locs 0 0 (MQ below (va_Qv (fun (_ : Unit) => True) (cPost (dC, dI) [(cyI, .int), (cyJ, .long), (cyB, .byte), (cyS, .object "SelfTuner$State"), (cyD, .double)] [(h, .inr (6, [.ref aAl, .ref aSv, .ref aAs, .int sN, .int sTh, .ref aF, .ref aG, .ref aK, .long out.1, .ref aTx, .int sTl, .int sPl, .ref aRd])), (aAl, .inl (cyJ, 76, .inr (.inl sAl))), (aSv, .inl (cyJ, 304, .inr (.inl sSv))), (aAs, .inl (cyJ, 76, .inr (.inl sAs))), (aF, .inl (cyJ, 3, .inr (.inl sF))), (aG, .inl (cyJ, 3, .inr (.inl out.2))), (aK, .inl (cyJ, 3, .inr (.inl sK))), (aTx, .inl (cyI, 120, .inl sTx)), (aRd, .inl (cyI, 63, .inl sRd))] A) A) ([.ref h] : List Value).toArray s 0 0 A) (F0 m 106 ls [])) → W p l e (headSpec wsX6_laysGains ({ frames := 0, cells := 0, slots := 0, locals := 0 } : Room)).room s m ([.ref h] : List Value).toArray below meth c H locs 0 0 (MQ below (va_Qv (fun (_ : Unit) => True) (cPost (dC, dI) [(cyI, .int), (cyJ, .long), (cyB, .byte), (cyS, .object "SelfTuner$State"), (cyD, .double)] [(h, .inr (6, [.ref aAl, .ref aSv, .ref aAs, .int sN, .int sTh, .ref aF, .ref aG, .ref aK, .long out.1, .ref aTx, .int sTl, .int sPl, .ref aRd])), (aAl, .inl (cyJ, 76, .inr (.inl sAl))), (aSv, .inl (cyJ, 304, .inr (.inl sSv))), (aAs, .inl (cyJ, 76, .inr (.inl sAs))), (aF, .inl (cyJ, 3, .inr (.inl sF))), (aG, .inl (cyJ, 3, .inr (.inl out.2))), (aK, .inl (cyJ, 3, .inr (.inl sK))), (aTx, .inl (cyI, 120, .inl sTx)), (aRd, .inl (cyI, 63, .inl sRd))] A) A) ([.ref h] : List Value).toArray s 0 0 A) (F0 m 7 ls []) := by
    intro n1
    induction n1 with
    | zero => intro K2 v3 v4 v5 H locs ls hF; exact no_e (show none = some out from hF)
    | succ n1 ihn1 =>
      intro K2 v3 v4 v5 H locs ls hF hP hD hS hl kxn1
      rw [F_X6_laysGains_7] at hF
      refine lv_iload_n hx hb dX6_laysGains_7 rfl (lv_at hl 1 rfl) ?_
      refine lv_iconst (v := 3) hx hb dX6_laysGains_8 (by decide) ?_
      refine lv_icmp_ge (tgt := 106) hx hb dX6_laysGains_9 (by decide) (fun c6 => ?_) (fun c6 => ?_)
      · have hF := ite_t hF c6
        exact kxn1 _ _ _ _ hF hP hD hS (lv_sub hl [0] rfl)
      · have hF := ite_f hF c6
        refine lv_aload_n hx hb dX6_laysGains_12 rfl (lv_at hl 0 rfl) ?_
        refine va_get (D := (dC, dI)) (ci := 6) (v := .ref aG) (C := RX6) (T := TX6) (N := 13) hx hb hts iX6_laysGains_X6 hown hK hP 0 rfl rfl 6 (by decide) (hts _ kX6_laysGains_2) (fun _ h9 => h9) rfl dX6_laysGains_13 ?_
        refine lv_iload_n hx hb dX6_laysGains_16 rfl (lv_at hl 1 rfl) ?_
        refine lv_aload_n hx hb dX6_laysGains_17 rfl (lv_at hl 0 rfl) ?_
        refine va_get (D := (dC, dI)) (ci := 6) (v := .ref aAl) (C := RX6) (T := TX6) (N := 13) hx hb hts iX6_laysGains_X6 hown hK hP 0 rfl rfl 0 (by decide) (hts _ kX6_laysGains_3) (fun _ h9 => h9) rfl dX6_laysGains_18 ?_
        refine lv_bipush (v := 16) hx hb dX6_laysGains_21 (by decide) ?_
        refine lv_iconst (v := 3) hx hb dX6_laysGains_23 (by decide) ?_
        refine lv_iload_n hx hb dX6_laysGains_24 rfl (lv_at hl 1 rfl) ?_
        refine lv_imul hx hb dX6_laysGains_25 ?_
        refine lv_iadd hx hb dX6_laysGains_26 ?_
        obtain ⟨g7, hF⟩ := ck_e hF
        refine x_lald hx hb hK hP 1 1 rfl rfl rfl g7 dX6_laysGains_27 ?_
        refine lv_aload_n hx hb dX6_laysGains_28 rfl (lv_at hl 0 rfl) ?_
        refine va_get (D := (dC, dI)) (ci := 6) (v := .ref aF) (C := RX6) (T := TX6) (N := 13) hx hb hts iX6_laysGains_X6 hown hK hP 0 rfl rfl 5 (by decide) (hts _ kX6_laysGains_4) (fun _ h9 => h9) rfl dX6_laysGains_29 ?_
        refine lv_iconst (v := 0) hx hb dX6_laysGains_32 (by decide) ?_
        refine x_lald hx hb hK hP 4 1 rfl rfl (show (0 : Int32).toNatClampNeg = 0 by decide) (inbK (k := 0) (by decide) rfl) dX6_laysGains_33 ?_
        refine lv_lmul hx hb dX6_laysGains_34 ?_
        refine lv_aload_n hx hb dX6_laysGains_35 rfl (lv_at hl 0 rfl) ?_
        refine va_get (D := (dC, dI)) (ci := 6) (v := .ref aAl) (C := RX6) (T := TX6) (N := 13) hx hb hts iX6_laysGains_X6 hown hK hP 0 rfl rfl 0 (by decide) (hts _ kX6_laysGains_3) (fun _ h9 => h9) rfl dX6_laysGains_36 ?_
        refine lv_bipush (v := 16) hx hb dX6_laysGains_39 (by decide) ?_
        refine lv_iconst (v := 3) hx hb dX6_laysGains_41 (by decide) ?_
        refine lv_iload_n hx hb dX6_laysGains_42 rfl (lv_at hl 1 rfl) ?_
        refine lv_imul hx hb dX6_laysGains_43 ?_
        refine lv_iadd hx hb dX6_laysGains_44 ?_
        refine lv_iconst (v := 1) hx hb dX6_laysGains_45 (by decide) ?_
        refine lv_iadd hx hb dX6_laysGains_46 ?_
        obtain ⟨g8, hF⟩ := ck_e hF
        refine x_lald hx hb hK hP 1 1 rfl rfl rfl g8 dX6_laysGains_47 ?_
        refine lv_aload_n hx hb dX6_laysGains_48 rfl (lv_at hl 0 rfl) ?_
        refine va_get (D := (dC, dI)) (ci := 6) (v := .ref aF) (C := RX6) (T := TX6) (N := 13) hx hb hts iX6_laysGains_X6 hown hK hP 0 rfl rfl 5 (by decide) (hts _ kX6_laysGains_4) (fun _ h9 => h9) rfl dX6_laysGains_49 ?_
        refine lv_iconst (v := 1) hx hb dX6_laysGains_52 (by decide) ?_
        refine x_lald hx hb hK hP 4 1 rfl rfl (show (1 : Int32).toNatClampNeg = 1 by decide) (inbK (k := 1) (by decide) rfl) dX6_laysGains_53 ?_
        refine lv_lmul hx hb dX6_laysGains_54 ?_
        refine lv_ladd hx hb dX6_laysGains_55 ?_
        refine lv_aload_n hx hb dX6_laysGains_56 rfl (lv_at hl 0 rfl) ?_
        refine va_get (D := (dC, dI)) (ci := 6) (v := .ref aAl) (C := RX6) (T := TX6) (N := 13) hx hb hts iX6_laysGains_X6 hown hK hP 0 rfl rfl 0 (by decide) (hts _ kX6_laysGains_3) (fun _ h9 => h9) rfl dX6_laysGains_57 ?_
        refine lv_bipush (v := 16) hx hb dX6_laysGains_60 (by decide) ?_
        refine lv_iconst (v := 3) hx hb dX6_laysGains_62 (by decide) ?_
        refine lv_iload_n hx hb dX6_laysGains_63 rfl (lv_at hl 1 rfl) ?_
        refine lv_imul hx hb dX6_laysGains_64 ?_
        refine lv_iadd hx hb dX6_laysGains_65 ?_
        refine lv_iconst (v := 2) hx hb dX6_laysGains_66 (by decide) ?_
        refine lv_iadd hx hb dX6_laysGains_67 ?_
        obtain ⟨g9, hF⟩ := ck_e hF
        refine x_lald hx hb hK hP 1 1 rfl rfl rfl g9 dX6_laysGains_68 ?_
        refine lv_aload_n hx hb dX6_laysGains_69 rfl (lv_at hl 0 rfl) ?_
        refine va_get (D := (dC, dI)) (ci := 6) (v := .ref aF) (C := RX6) (T := TX6) (N := 13) hx hb hts iX6_laysGains_X6 hown hK hP 0 rfl rfl 5 (by decide) (hts _ kX6_laysGains_4) (fun _ h9 => h9) rfl dX6_laysGains_70 ?_
        refine lv_iconst (v := 2) hx hb dX6_laysGains_73 (by decide) ?_
        refine x_lald hx hb hK hP 4 1 rfl rfl (show (2 : Int32).toNatClampNeg = 2 by decide) (inbK (k := 2) (by decide) rfl) dX6_laysGains_74 ?_
        refine lv_lmul hx hb dX6_laysGains_75 ?_
        refine lv_ladd hx hb dX6_laysGains_76 ?_
        obtain ⟨g10, hF⟩ := ck_e hF
        obtain ⟨v11, hv11, hF⟩ := lt_e hF
        refine x_last (ws' := [(h, .inr (6, [.ref aAl, .ref aSv, .ref aAs, .int sN, .int sTh, .ref aF, .ref aG, .ref aK, .long v4, .ref aTx, .int sTl, .int sPl, .ref aRd])), (aAl, .inl (cyJ, 76, .inr (.inl sAl))), (aSv, .inl (cyJ, 304, .inr (.inl sSv))), (aAs, .inl (cyJ, 76, .inr (.inl sAs))), (aF, .inl (cyJ, 3, .inr (.inl sF))), (aG, .inl (cyJ, 3, .inr (.inl v11))), (aK, .inl (cyJ, 3, .inr (.inl sK))), (aTx, .inl (cyI, 120, .inl sTx)), (aRd, .inl (cyI, 63, .inl sRd))]) hx hb hK hP hD hS 5 1 rfl rfl rfl g10 hv11 rfl dX6_laysGains_77 (fun H locs hP hD hS => ?_)
        refine lv_aload_n hx hb dX6_laysGains_78 rfl (lv_at hl 0 rfl) ?_
        refine lv_dup hx hb dX6_laysGains_79 rfl ?_
        refine va_get (D := (dC, dI)) (ci := 6) (v := .long v4) (C := RX6) (T := TX6) (N := 13) hx hb hts iX6_laysGains_X6 hown hK hP 0 rfl rfl 8 (by decide) (hts _ kX6_laysGains_1) (fun _ h9 => h9) rfl dX6_laysGains_80 ?_
        refine lv_aload_n hx hb dX6_laysGains_83 rfl (lv_at hl 0 rfl) ?_
        refine va_get (D := (dC, dI)) (ci := 6) (v := .ref aF) (C := RX6) (T := TX6) (N := 13) hx hb hts iX6_laysGains_X6 hown hK hP 0 rfl rfl 5 (by decide) (hts _ kX6_laysGains_4) (fun _ h9 => h9) rfl dX6_laysGains_84 ?_
        refine lv_iload_n hx hb dX6_laysGains_87 rfl (lv_at hl 1 rfl) ?_
        obtain ⟨g12, hF⟩ := ck_e hF
        refine x_lald hx hb hK hP 4 1 rfl rfl rfl g12 dX6_laysGains_88 ?_
        refine lv_aload_n hx hb dX6_laysGains_89 rfl (lv_at hl 0 rfl) ?_
        refine va_get (D := (dC, dI)) (ci := 6) (v := .ref aG) (C := RX6) (T := TX6) (N := 13) hx hb hts iX6_laysGains_X6 hown hK hP 0 rfl rfl 6 (by decide) (hts _ kX6_laysGains_2) (fun _ h9 => h9) rfl dX6_laysGains_90 ?_
        refine lv_iload_n hx hb dX6_laysGains_93 rfl (lv_at hl 1 rfl) ?_
        obtain ⟨g13, hF⟩ := ck_e hF
        refine x_lald hx hb hK hP 5 1 rfl rfl rfl g13 dX6_laysGains_94 ?_
        refine lv_lmul hx hb dX6_laysGains_95 ?_
        refine lv_ladd hx hb dX6_laysGains_96 ?_
        obtain ⟨v14, hv14, hF⟩ := lt_e hF
        refine x_topl hv14 ?_
        refine x_put (D := (dC, dI)) (ci := 6) (v := .long v14) (ty := .long) (C := RX6) (T := TX6) (N := 13) (ws' := [(h, .inr (6, [.ref aAl, .ref aSv, .ref aAs, .int sN, .int sTh, .ref aF, .ref aG, .ref aK, .long v14, .ref aTx, .int sTl, .int sPl, .ref aRd])), (aAl, .inl (cyJ, 76, .inr (.inl sAl))), (aSv, .inl (cyJ, 304, .inr (.inl sSv))), (aAs, .inl (cyJ, 76, .inr (.inl sAs))), (aF, .inl (cyJ, 3, .inr (.inl sF))), (aG, .inl (cyJ, 3, .inr (.inl v11))), (aK, .inl (cyJ, 3, .inr (.inl sK))), (aTx, .inl (cyI, 120, .inl sTx)), (aRd, .inl (cyI, 63, .inl sRd))]) hx hb hts iX6_laysGains_X6 tyX6 tyX6_ok nmX6 hown hK hP hD hS 0 rfl rfl 8 (by decide) (hts _ kX6_laysGains_1) (fun _ h9 => h9) rfl (by decide +kernel) rfl rfl (Nat.le_of_ble_eq_true rfl) rfl dX6_laysGains_97 (fun H locs hP hD hS => ?_)
        obtain ⟨v15, hv15, hF⟩ := lt_e hF
        refine lv_iinc (v := v15) (lv' := [(1, .int v15), (0, .ref h)]) hx hb dX6_laysGains_100 hl (k := 1) rfl (by rw [hv15]; rfl) (by decide) rfl (fun ls hl => ?_)
        refine lv_goto (tgt := 7) hx hb dX6_laysGains_103 (by decide) ?_
        exact ihn1 _ _ _ _ _ _ _ hF hP hD hS (lv_sub hl [1, 0] rfl) kxn1
  refine Ln1 _ _ _ _ _ _ _ _ hF hP hD hS (lv_sub hl [1, 0] rfl) (fun x16 H locs ls hF hP hD hS hl => ?_)
  refine lv_aload_n hx hb dX6_laysGains_106 rfl (lv_at hl 0 rfl) ?_
  refine lv_aload_n hx hb dX6_laysGains_107 rfl (lv_at hl 0 rfl) ?_
  refine va_get (D := (dC, dI)) (ci := 6) (v := .long x16.1) (C := RX6) (T := TX6) (N := 13) hx hb hts iX6_laysGains_X6 hown hK hP 0 rfl rfl 8 (by decide) (hts _ kX6_laysGains_1) (fun _ h9 => h9) rfl dX6_laysGains_108 ?_
  refine lv_lconst (v := 0) hx hb dX6_laysGains_111 (by decide) ?_
  refine W.lcmp hx hb dX6_laysGains_112 ?_
  obtain ⟨K19, hK19, hF⟩ := rg_e hF
  have Jx18 : ∀ (x18 : Int64) (H : Heap) (locs : List Loc) (ls : Array Slot), K19 x18 = some out → va_P (dC, dI) vwCl [(h, .inr (6, [.ref aAl, .ref aSv, .ref aAs, .int sN, .int sTh, .ref aF, .ref aG, .ref aK, .long x16.1, .ref aTx, .int sTl, .int sPl, .ref aRd])), (aAl, .inl (cyJ, 76, .inr (.inl sAl))), (aSv, .inl (cyJ, 304, .inr (.inl sSv))), (aAs, .inl (cyJ, 76, .inr (.inl sAs))), (aF, .inl (cyJ, 3, .inr (.inl sF))), (aG, .inl (cyJ, 3, .inr (.inl x16.2))), (aK, .inl (cyJ, 3, .inr (.inl sK))), (aTx, .inl (cyI, 120, .inl sTx)), (aRd, .inl (cyI, 63, .inl sRd))] H → va_D A [(h, .inr (6, [.ref aAl, .ref aSv, .ref aAs, .int sN, .int sTh, .ref aF, .ref aG, .ref aK, .long x16.1, .ref aTx, .int sTl, .int sPl, .ref aRd])), (aAl, .inl (cyJ, 76, .inr (.inl sAl))), (aSv, .inl (cyJ, 304, .inr (.inl sSv))), (aAs, .inl (cyJ, 76, .inr (.inl sAs))), (aF, .inl (cyJ, 3, .inr (.inl sF))), (aG, .inl (cyJ, 3, .inr (.inl x16.2))), (aK, .inl (cyJ, 3, .inr (.inl sK))), (aTx, .inl (cyI, 120, .inl sTx)), (aRd, .inl (cyI, 63, .inl sRd))] → va_S A s.heap H locs → lv_has ls 2 [] → W p l e (headSpec wsX6_laysGains ({ frames := 0, cells := 0, slots := 0, locals := 0 } : Room)).room s m ([.ref h] : List Value).toArray below meth c H locs 0 0 (MQ below (va_Qv (fun (_ : Unit) => True) (cPost (dC, dI) [(cyI, .int), (cyJ, .long), (cyB, .byte), (cyS, .object "SelfTuner$State"), (cyD, .double)] [(h, .inr (6, [.ref aAl, .ref aSv, .ref aAs, .int sN, .int sTh, .ref aF, .ref aG, .ref aK, .long out.1, .ref aTx, .int sTl, .int sPl, .ref aRd])), (aAl, .inl (cyJ, 76, .inr (.inl sAl))), (aSv, .inl (cyJ, 304, .inr (.inl sSv))), (aAs, .inl (cyJ, 76, .inr (.inl sAs))), (aF, .inl (cyJ, 3, .inr (.inl sF))), (aG, .inl (cyJ, 3, .inr (.inl out.2))), (aK, .inl (cyJ, 3, .inr (.inl sK))), (aTx, .inl (cyI, 120, .inl sTx)), (aRd, .inl (cyI, 63, .inl sRd))] A) A) ([.ref h] : List Value).toArray s 0 0 A) (F0 m 124 ls [.long x18, .ref h]) := by
    intro x18 H locs ls hF hP hD hS hl
    rw [hK19] at hF
    refine x_put (D := (dC, dI)) (ci := 6) (v := .long x18) (ty := .long) (C := RX6) (T := TX6) (N := 13) (ws' := [(h, .inr (6, [.ref aAl, .ref aSv, .ref aAs, .int sN, .int sTh, .ref aF, .ref aG, .ref aK, .long x18, .ref aTx, .int sTl, .int sPl, .ref aRd])), (aAl, .inl (cyJ, 76, .inr (.inl sAl))), (aSv, .inl (cyJ, 304, .inr (.inl sSv))), (aAs, .inl (cyJ, 76, .inr (.inl sAs))), (aF, .inl (cyJ, 3, .inr (.inl sF))), (aG, .inl (cyJ, 3, .inr (.inl x16.2))), (aK, .inl (cyJ, 3, .inr (.inl sK))), (aTx, .inl (cyI, 120, .inl sTx)), (aRd, .inl (cyI, 63, .inl sRd))]) hx hb hts iX6_laysGains_X6 tyX6 tyX6_ok nmX6 hown hK hP hD hS 0 rfl rfl 8 (by decide) (hts _ kX6_laysGains_1) (fun _ h9 => h9) rfl (by decide +kernel) rfl rfl (Nat.le_of_ble_eq_true rfl) rfl dX6_laysGains_124 (fun H locs hP hD hS => ?_)
    obtain rfl := some_e hF
    exact W.vret hx hb hr (fun t ht hW => ⟨⟨(), rfl, trivial, ⟨by rw [ht]; exact hP, va_K.moved hW.alike hK, hD⟩⟩, hS.F ht⟩) hS.2.2 dX6_laysGains_127
  refine x_il_ge (tgt := 120) hx hb dX6_laysGains_113 (by decide) (fun c17 => ?_) (fun c17 => ?_)
  · have hF := ite_f hF c17
    refine lv_aload_n hx hb dX6_laysGains_120 rfl (lv_at hl 0 rfl) ?_
    refine va_get (D := (dC, dI)) (ci := 6) (v := .long x16.1) (C := RX6) (T := TX6) (N := 13) hx hb hts iX6_laysGains_X6 hown hK hP 0 rfl rfl 8 (by decide) (hts _ kX6_laysGains_1) (fun _ h9 => h9) rfl dX6_laysGains_121 ?_
    exact Jx18 _ _ _ _ hF hP hD hS (lv_sub hl [] rfl)
  · have hF := ite_t hF c17
    refine lv_lconst (v := 0) hx hb dX6_laysGains_116 (by decide) ?_
    refine lv_goto (tgt := 124) hx hb dX6_laysGains_117 (by decide) ?_
    exact Jx18 _ _ _ _ hF hP hD hS (lv_sub hl [] rfl)
def F_X6_kept (sAl : Nat → Int64) : Option (Int32) := if ((sAl 25) : Int64) < 20 then (some ((sAl 25).toInt32)) else (some 20)
theorem kX6_kept_1 : (Cond.fieldLink RX6 7 "SelfTunerModel" "all" "[J") ∈ wsX6_kept := List.mem_of_getElem? (i := 1) rfl
theorem kX6_kept_2 : (Cond.constantLong RX6 75 (20)) ∈ wsX6_kept := List.mem_of_getElem? (i := 2) rfl
theorem iX6_kept_X6 : ∀ w ∈ wsX60, w ∈ wsX6_kept := fun w h => List.mem_cons_of_mem _ (List.mem_append_right _ h)
set_option maxHeartbeats 4000000 in
set_option maxRecDepth 100000 in
theorem c_X6_kept (l : Launch) (dC : Nat → ClassId) (dI : Nat → Nat → Nat) (cyI cyJ cyB cyS cyD : ClassId) (h : Nat) (aAl : Nat) (aSv : Nat) (aAs : Nat) (aF : Nat) (aG : Nat) (aK : Nat) (aTx : Nat) (aRd : Nat) (sz : Nat) (sN : Int32) (sTh : Int32) (sS : Int64) (sTl : Int32) (sPl : Int32) (sAl : Nat → Int64) (sSv : Nat → Int64) (sAs : Nat → Int64) (sF : Nat → Int64) (sG : Nat → Int64) (sK : Nat → Int64) (sTx : Nat → Int32) (sRd : Nat → Int32) {out : Int32} (hF : F_X6_kept sAl = some out) : Mi l yX6_kept wsX6_kept ({ frames := 0, cells := 0, slots := 0, locals := 0 } : Room) (dC, dI) [(cyI, .int), (cyJ, .long), (cyB, .byte), (cyS, .object "SelfTuner$State"), (cyD, .double)] sz [.ref h] [(h, .inr (6, [.ref aAl, .ref aSv, .ref aAs, .int sN, .int sTh, .ref aF, .ref aG, .ref aK, .long sS, .ref aTx, .int sTl, .int sPl, .ref aRd])), (aAl, .inl (cyJ, 76, .inr (.inl sAl))), (aSv, .inl (cyJ, 304, .inr (.inl sSv))), (aAs, .inl (cyJ, 76, .inr (.inl sAs))), (aF, .inl (cyJ, 3, .inr (.inl sF))), (aG, .inl (cyJ, 3, .inr (.inl sG))), (aK, .inl (cyJ, 3, .inr (.inl sK))), (aTx, .inl (cyI, 120, .inl sTx)), (aRd, .inl (cyI, 63, .inl sRd))] out [(h, .inr (6, [.ref aAl, .ref aSv, .ref aAs, .int sN, .int sTh, .ref aF, .ref aG, .ref aK, .long sS, .ref aTx, .int sTl, .int sPl, .ref aRd])), (aAl, .inl (cyJ, 76, .inr (.inl sAl))), (aSv, .inl (cyJ, 304, .inr (.inl sSv))), (aAs, .inl (cyJ, 76, .inr (.inl sAs))), (aF, .inl (cyJ, 3, .inr (.inl sF))), (aG, .inl (cyJ, 3, .inr (.inl sG))), (aK, .inl (cyJ, 3, .inr (.inl sK))), (aTx, .inl (cyI, 120, .inl sTx)), (aRd, .inl (cyI, 63, .inl sRd))] := by
  refine Met.ofW (cc := cX6_kept) (maxL := 1) (ret := (some .int)) (by decide) rfl ?_
  intro p e s m args below meth c s₁ B hml hv
  obtain ⟨rfl, hN, hsz, hP, hK, hD0⟩ := hv
  have hx := B.exec
  have hb := B.bytes
  have hr := B.returns
  have hts := atoms_spec (ws := wsX6_kept) B.pre
  have hown : s.vm.findClass RX6 = some m.cls := findClass_of_methodNamed B.named
  have hlocks := B.notSynchronized
  subst hsz
  have hD := hD0.self (sz := s.heap.size)
  generalize hAe : va_A [(h, .inr (6, [.ref aAl, .ref aSv, .ref aAs, .int sN, .int sTh, .ref aF, .ref aG, .ref aK, .long sS, .ref aTx, .int sTl, .int sPl, .ref aRd])), (aAl, .inl (cyJ, 76, .inr (.inl sAl))), (aSv, .inl (cyJ, 304, .inr (.inl sSv))), (aAs, .inl (cyJ, 76, .inr (.inl sAs))), (aF, .inl (cyJ, 3, .inr (.inl sF))), (aG, .inl (cyJ, 3, .inr (.inl sG))), (aK, .inl (cyJ, 3, .inr (.inl sK))), (aTx, .inl (cyI, 120, .inl sTx)), (aRd, .inl (cyI, 63, .inl sRd))] s.heap.size = A at hD ⊢
  have hA : ∀ q : Nat, s.heap.size ≤ q → A q := fun q h => by rw [← hAe]; exact Or.inr h
  have hS : va_S A s.heap s.heap [] := va_S.rf
  have hP : va_P (dC, dI) vwCl [(h, .inr (6, [.ref aAl, .ref aSv, .ref aAs, .int sN, .int sTh, .ref aF, .ref aG, .ref aK, .long sS, .ref aTx, .int sTl, .int sPl, .ref aRd])), (aAl, .inl (cyJ, 76, .inr (.inl sAl))), (aSv, .inl (cyJ, 304, .inr (.inl sSv))), (aAs, .inl (cyJ, 76, .inr (.inl sAs))), (aF, .inl (cyJ, 3, .inr (.inl sF))), (aG, .inl (cyJ, 3, .inr (.inl sG))), (aK, .inl (cyJ, 3, .inr (.inl sK))), (aTx, .inl (cyI, 120, .inl sTx)), (aRd, .inl (cyI, 63, .inl sRd))] s.heap := hP
  have hl := lv_entry ([.ref h]) (n := 1) (Nat.le_of_ble_eq_true rfl)
  rw [lg_entry_eq]
  generalize (lg_sl ([.ref h]) ++ List.replicate (1 - (lg_sl ([.ref h])).length) Slot.unset).toArray = ls at hl ⊢
  have hl : lv_has ls 1 [(0, .ref h)] := hl
  unfold F_X6_kept at hF
  refine lv_aload_n hx hb dX6_kept_0 rfl (lv_at hl 0 rfl) ?_
  refine va_get (D := (dC, dI)) (ci := 6) (v := .ref aAl) (C := RX6) (T := TX6) (N := 13) hx hb hts iX6_kept_X6 hown hK hP 0 rfl rfl 0 (by decide) (hts _ kX6_kept_1) (fun _ h9 => h9) rfl dX6_kept_1 ?_
  refine lv_bipush (v := 25) hx hb dX6_kept_4 (by decide) ?_
  refine x_lald hx hb hK hP 1 1 rfl rfl (show (25 : Int32).toNatClampNeg = 25 by decide) (inbK (k := 25) (by decide) rfl) dX6_kept_6 ?_
  refine lv_ldc2 (v := 20) hx hb hown (hts _ kX6_kept_2) dX6_kept_7 ?_
  refine W.lcmp hx hb dX6_kept_10 ?_
  refine x_il_ge (tgt := 25) hx hb dX6_kept_11 (by decide) (fun c1 => ?_) (fun c1 => ?_)
  · have hF := ite_f hF c1
    refine lv_bipush (v := 20) hx hb dX6_kept_25 (by decide) ?_
    obtain rfl := some_e hF
    exact W.iret (v := 20) hx hb hr (fun t ht hW => ⟨⟨20, (), rfl, rfl, ⟨by rw [ht]; exact hP, va_K.moved hW.alike hK, hD⟩⟩, hS.F ht⟩) hS.2.2 dX6_kept_27
  · have hF := ite_t hF c1
    refine lv_aload_n hx hb dX6_kept_14 rfl (lv_at hl 0 rfl) ?_
    refine va_get (D := (dC, dI)) (ci := 6) (v := .ref aAl) (C := RX6) (T := TX6) (N := 13) hx hb hts iX6_kept_X6 hown hK hP 0 rfl rfl 0 (by decide) (hts _ kX6_kept_1) (fun _ h9 => h9) rfl dX6_kept_15 ?_
    refine lv_bipush (v := 25) hx hb dX6_kept_18 (by decide) ?_
    refine x_lald hx hb hK hP 1 1 rfl rfl (show (25 : Int32).toNatClampNeg = 25 by decide) (inbK (k := 25) (by decide) rfl) dX6_kept_20 ?_
    refine lv_l2i (v := (sAl 25).toInt32) hx hb dX6_kept_21 rfl ?_
    refine lv_goto (tgt := 27) hx hb dX6_kept_22 (by decide) ?_
    obtain rfl := some_e hF
    exact W.iret (v := (sAl 25).toInt32) hx hb hr (fun t ht hW => ⟨⟨(sAl 25).toInt32, (), rfl, rfl, ⟨by rw [ht]; exact hP, va_K.moved hW.alike hK, hD⟩⟩, hS.F ht⟩) hS.2.2 dX6_kept_27
def F_X6_keeps_17 : Nat → (((Nat → Int64)) → Option ((Nat → Int64))) → Int32 → (Nat → Int64) → Option ((Nat → Int64))
  | 0, _, _, _ => none
  | n3 + 1, K4, v5, v6 => if (74 : Int32) ≤ v5 then (K4 v6) else (ck (inb (v5 + 2) 76) (ck (inb v5 76) (lt_ (α := Nat → Int64) (vp_updL v6 v5.toNatClampNeg (v6 ((v5 + 2).toNatClampNeg))) (fun v10 => lt_ (α := Int32) (v5 + 1) (fun v11 => F_X6_keeps_17 n3 K4 v11 v10)))))
def F_X6_keeps (sAl : Nat → Int64) (w1 : Int64) (w2 : Int64) : Option ((Nat → Int64)) := ob (F_X6_kept sAl) (fun o1 => rg (α := Int32 × (Nat → Int64)) (fun K15 => if (o1 : Int32) = 20 then (F_X6_keeps_17 1000 (fun x12 => lt_ (α := Int32) (o1 + (-1)) (fun v13 => K15 (v13, x12))) 36 sAl) else (K15 (o1, sAl))) (fun x14 => ck (inb (36 + (2 * x14.1)) 76) (lt_ (α := Nat → Int64) (vp_updL x14.2 ((36 + (2 * x14.1)).toNatClampNeg) w1) (fun v17 => ck (inb ((36 + (2 * x14.1)) + 1) 76) (lt_ (α := Nat → Int64) (vp_updL v17 (((36 + (2 * x14.1)) + 1).toNatClampNeg) w2) (fun v19 => some v19))))))
theorem kX6_keeps_1 : (Cond.fieldLink RX6 7 "SelfTunerModel" "all" "[J") ∈ wsX6_keeps := List.mem_of_getElem? (i := 1) rfl
theorem iX6_keeps_X6 : ∀ w ∈ wsX60, w ∈ wsX6_keeps := fun w h => List.mem_cons_of_mem _ (List.mem_append_right _ h)
set_option maxHeartbeats 4000000 in
set_option maxRecDepth 100000 in
theorem c_X6_keeps (l : Launch) (dC : Nat → ClassId) (dI : Nat → Nat → Nat) (cyI cyJ cyB cyS cyD : ClassId) (h : Nat) (aAl : Nat) (aSv : Nat) (aAs : Nat) (aF : Nat) (aG : Nat) (aK : Nat) (aTx : Nat) (aRd : Nat) (sz : Nat) (sN : Int32) (sTh : Int32) (sS : Int64) (sTl : Int32) (sPl : Int32) (sAl : Nat → Int64) (sSv : Nat → Int64) (sAs : Nat → Int64) (sF : Nat → Int64) (sG : Nat → Int64) (sK : Nat → Int64) (sTx : Nat → Int32) (sRd : Nat → Int32) (w1 : Int64) (w2 : Int64) {out : (Nat → Int64)} (hF : F_X6_keeps sAl w1 w2 = some out) : Mv l yX6_keeps wsX6_keeps ({ frames := 1, cells := 0, slots := 0, locals := 20 } : Room) (dC, dI) [(cyI, .int), (cyJ, .long), (cyB, .byte), (cyS, .object "SelfTuner$State"), (cyD, .double)] sz [.ref h, .long w1, .long w2] [(h, .inr (6, [.ref aAl, .ref aSv, .ref aAs, .int sN, .int sTh, .ref aF, .ref aG, .ref aK, .long sS, .ref aTx, .int sTl, .int sPl, .ref aRd])), (aAl, .inl (cyJ, 76, .inr (.inl sAl))), (aSv, .inl (cyJ, 304, .inr (.inl sSv))), (aAs, .inl (cyJ, 76, .inr (.inl sAs))), (aF, .inl (cyJ, 3, .inr (.inl sF))), (aG, .inl (cyJ, 3, .inr (.inl sG))), (aK, .inl (cyJ, 3, .inr (.inl sK))), (aTx, .inl (cyI, 120, .inl sTx)), (aRd, .inl (cyI, 63, .inl sRd))] [(h, .inr (6, [.ref aAl, .ref aSv, .ref aAs, .int sN, .int sTh, .ref aF, .ref aG, .ref aK, .long sS, .ref aTx, .int sTl, .int sPl, .ref aRd])), (aAl, .inl (cyJ, 76, .inr (.inl out))), (aSv, .inl (cyJ, 304, .inr (.inl sSv))), (aAs, .inl (cyJ, 76, .inr (.inl sAs))), (aF, .inl (cyJ, 3, .inr (.inl sF))), (aG, .inl (cyJ, 3, .inr (.inl sG))), (aK, .inl (cyJ, 3, .inr (.inl sK))), (aTx, .inl (cyI, 120, .inl sTx)), (aRd, .inl (cyI, 63, .inl sRd))] := by
  refine Met.ofW (cc := cX6_keeps) (maxL := 7) (ret := none) (by decide) rfl ?_
  intro p e s m args below meth c s₁ B hml hv
  obtain ⟨rfl, hN, hsz, hP, hK, hD0⟩ := hv
  have hx := B.exec
  have hb := B.bytes
  have hr := B.returns
  have hts := atoms_spec (ws := wsX6_keeps) B.pre
  have hown : s.vm.findClass RX6 = some m.cls := findClass_of_methodNamed B.named
  have hlocks := B.notSynchronized
  subst hsz
  have hD := hD0.self (sz := s.heap.size)
  generalize hAe : va_A [(h, .inr (6, [.ref aAl, .ref aSv, .ref aAs, .int sN, .int sTh, .ref aF, .ref aG, .ref aK, .long sS, .ref aTx, .int sTl, .int sPl, .ref aRd])), (aAl, .inl (cyJ, 76, .inr (.inl sAl))), (aSv, .inl (cyJ, 304, .inr (.inl sSv))), (aAs, .inl (cyJ, 76, .inr (.inl sAs))), (aF, .inl (cyJ, 3, .inr (.inl sF))), (aG, .inl (cyJ, 3, .inr (.inl sG))), (aK, .inl (cyJ, 3, .inr (.inl sK))), (aTx, .inl (cyI, 120, .inl sTx)), (aRd, .inl (cyI, 63, .inl sRd))] s.heap.size = A at hD ⊢
  have hA : ∀ q : Nat, s.heap.size ≤ q → A q := fun q h => by rw [← hAe]; exact Or.inr h
  have hS : va_S A s.heap s.heap [] := va_S.rf
  have hP : va_P (dC, dI) vwCl [(h, .inr (6, [.ref aAl, .ref aSv, .ref aAs, .int sN, .int sTh, .ref aF, .ref aG, .ref aK, .long sS, .ref aTx, .int sTl, .int sPl, .ref aRd])), (aAl, .inl (cyJ, 76, .inr (.inl sAl))), (aSv, .inl (cyJ, 304, .inr (.inl sSv))), (aAs, .inl (cyJ, 76, .inr (.inl sAs))), (aF, .inl (cyJ, 3, .inr (.inl sF))), (aG, .inl (cyJ, 3, .inr (.inl sG))), (aK, .inl (cyJ, 3, .inr (.inl sK))), (aTx, .inl (cyI, 120, .inl sTx)), (aRd, .inl (cyI, 63, .inl sRd))] s.heap := hP
  have hl := lv_entry ([.ref h, .long w1, .long w2]) (n := 7) (Nat.le_of_ble_eq_true rfl)
  rw [lg_entry_eq]
  generalize (lg_sl ([.ref h, .long w1, .long w2]) ++ List.replicate (7 - (lg_sl ([.ref h, .long w1, .long w2])).length) Slot.unset).toArray = ls at hl ⊢
  have hl : lv_has ls 7 [(0, .ref h), (1, .long w1), (3, .long w2)] := hl
  unfold F_X6_keeps at hF
  refine lv_aload_n hx hb dX6_keeps_0 rfl (lv_at hl 0 rfl) ?_
  obtain ⟨o1, ho1, hF⟩ := ob_e hF
  refine x_calli (wr := []) (ws' := [(h, .inr (6, [.ref aAl, .ref aSv, .ref aAs, .int sN, .int sTh, .ref aF, .ref aG, .ref aK, .long sS, .ref aTx, .int sTl, .int sPl, .ref aRd])), (aAl, .inl (cyJ, 76, .inr (.inl sAl))), (aSv, .inl (cyJ, 304, .inr (.inl sSv))), (aAs, .inl (cyJ, 76, .inr (.inl sAs))), (aF, .inl (cyJ, 3, .inr (.inl sF))), (aG, .inl (cyJ, 3, .inr (.inl sG))), (aK, .inl (cyJ, 3, .inr (.inl sK))), (aTx, .inl (cyI, 120, .inl sTx)), (aRd, .inl (cyI, 63, .inl sRd))]) (va_runV (As := []) (rest := []) ⟨hx, hb, hml, hown, hts⟩ (c_X6_kept l dC dI cyI cyJ cyB cyS cyD h aAl aSv aAs aF aG aK aTx aRd s.heap.size sN sTh sS sTl sPl sAl sSv sAs sF sG sK sTx sRd ho1) (cwV 0 hts gX6_keeps_X6_kept rfl rfl rfl (by decide +kernel) ⟨Nat.le_of_ble_eq_true rfl, Nat.le_of_ble_eq_true rfl⟩) ⟨cPre_blind, va_recv hK hP (ci := 6) (q0 := 0) rfl rfl, x_pre hN hP hD hK [0, 1, 2, 3, 4, 5, 6, 7, 8] rfl rfl⟩ rfl rfl hl.1 rfl (lv_room (Nat.le_of_ble_eq_true rfl)) dX6_keeps_1 ⟨Nat.le_of_ble_eq_true rfl, Nat.le_of_ble_eq_true rfl⟩) hP hD hS hA [0, 1, 2, 3, 4, 5, 6, 7, 8] [] [0, 1, 2, 3, 4, 5, 6, 7, 8] rfl rfl rfl (by decide) rfl rfl (fun H locs hP hD hS => ?_)
  refine lv_istore (lv' := [(5, .int o1), (0, .ref h), (1, .long w1), (3, .long w2)]) hx hb dX6_keeps_4 hl (by decide) rfl (fun ls hl => ?_)
  refine lv_iload hx hb dX6_keeps_6 (lv_at hl 0 rfl) ?_
  refine lv_bipush (v := 20) hx hb dX6_keeps_8 (by decide) ?_
  obtain ⟨K15, hK15, hF⟩ := rg_e hF
  have Jx14 : ∀ (x14 : Int32 × (Nat → Int64)) (H : Heap) (locs : List Loc) (ls : Array Slot), K15 x14 = some out → va_P (dC, dI) vwCl [(h, .inr (6, [.ref aAl, .ref aSv, .ref aAs, .int sN, .int sTh, .ref aF, .ref aG, .ref aK, .long sS, .ref aTx, .int sTl, .int sPl, .ref aRd])), (aAl, .inl (cyJ, 76, .inr (.inl x14.2))), (aSv, .inl (cyJ, 304, .inr (.inl sSv))), (aAs, .inl (cyJ, 76, .inr (.inl sAs))), (aF, .inl (cyJ, 3, .inr (.inl sF))), (aG, .inl (cyJ, 3, .inr (.inl sG))), (aK, .inl (cyJ, 3, .inr (.inl sK))), (aTx, .inl (cyI, 120, .inl sTx)), (aRd, .inl (cyI, 63, .inl sRd))] H → va_D A [(h, .inr (6, [.ref aAl, .ref aSv, .ref aAs, .int sN, .int sTh, .ref aF, .ref aG, .ref aK, .long sS, .ref aTx, .int sTl, .int sPl, .ref aRd])), (aAl, .inl (cyJ, 76, .inr (.inl x14.2))), (aSv, .inl (cyJ, 304, .inr (.inl sSv))), (aAs, .inl (cyJ, 76, .inr (.inl sAs))), (aF, .inl (cyJ, 3, .inr (.inl sF))), (aG, .inl (cyJ, 3, .inr (.inl sG))), (aK, .inl (cyJ, 3, .inr (.inl sK))), (aTx, .inl (cyI, 120, .inl sTx)), (aRd, .inl (cyI, 63, .inl sRd))] → va_S A s.heap H locs → lv_has ls 7 [(0, .ref h), (1, .long w1), (3, .long w2), (5, .int x14.1)] → W p l e (headSpec wsX6_keeps ({ frames := 1, cells := 0, slots := 0, locals := 20 } : Room)).room s m ([.ref h, .long w1, .long w2] : List Value).toArray below meth c H locs 0 0 (MQ below (va_Qv (fun (_ : Unit) => True) (cPost (dC, dI) [(cyI, .int), (cyJ, .long), (cyB, .byte), (cyS, .object "SelfTuner$State"), (cyD, .double)] [(h, .inr (6, [.ref aAl, .ref aSv, .ref aAs, .int sN, .int sTh, .ref aF, .ref aG, .ref aK, .long sS, .ref aTx, .int sTl, .int sPl, .ref aRd])), (aAl, .inl (cyJ, 76, .inr (.inl out))), (aSv, .inl (cyJ, 304, .inr (.inl sSv))), (aAs, .inl (cyJ, 76, .inr (.inl sAs))), (aF, .inl (cyJ, 3, .inr (.inl sF))), (aG, .inl (cyJ, 3, .inr (.inl sG))), (aK, .inl (cyJ, 3, .inr (.inl sK))), (aTx, .inl (cyI, 120, .inl sTx)), (aRd, .inl (cyI, 63, .inl sRd))] A) A) ([.ref h, .long w1, .long w2] : List Value).toArray s 0 0 A) (F0 m 49 ls []) := by
    intro x14 H locs ls hF hP hD hS hl
    rw [hK15] at hF
    refine lv_aload_n hx hb dX6_keeps_49 rfl (lv_at hl 0 rfl) ?_
    refine va_get (D := (dC, dI)) (ci := 6) (v := .ref aAl) (C := RX6) (T := TX6) (N := 13) hx hb hts iX6_keeps_X6 hown hK hP 0 rfl rfl 0 (by decide) (hts _ kX6_keeps_1) (fun _ h9 => h9) rfl dX6_keeps_50 ?_
    refine lv_bipush (v := 36) hx hb dX6_keeps_53 (by decide) ?_
    refine lv_iconst (v := 2) hx hb dX6_keeps_55 (by decide) ?_
    refine lv_iload hx hb dX6_keeps_56 (lv_at hl 3 rfl) ?_
    refine lv_imul hx hb dX6_keeps_58 ?_
    refine lv_iadd hx hb dX6_keeps_59 ?_
    refine lv_lload_n hx hb dX6_keeps_60 rfl (lv_at hl 1 rfl) ?_
    obtain ⟨g16, hF⟩ := ck_e hF
    obtain ⟨v17, hv17, hF⟩ := lt_e hF
    refine x_last (ws' := [(h, .inr (6, [.ref aAl, .ref aSv, .ref aAs, .int sN, .int sTh, .ref aF, .ref aG, .ref aK, .long sS, .ref aTx, .int sTl, .int sPl, .ref aRd])), (aAl, .inl (cyJ, 76, .inr (.inl v17))), (aSv, .inl (cyJ, 304, .inr (.inl sSv))), (aAs, .inl (cyJ, 76, .inr (.inl sAs))), (aF, .inl (cyJ, 3, .inr (.inl sF))), (aG, .inl (cyJ, 3, .inr (.inl sG))), (aK, .inl (cyJ, 3, .inr (.inl sK))), (aTx, .inl (cyI, 120, .inl sTx)), (aRd, .inl (cyI, 63, .inl sRd))]) hx hb hK hP hD hS 1 1 rfl rfl rfl g16 hv17 rfl dX6_keeps_61 (fun H locs hP hD hS => ?_)
    refine lv_aload_n hx hb dX6_keeps_62 rfl (lv_at hl 0 rfl) ?_
    refine va_get (D := (dC, dI)) (ci := 6) (v := .ref aAl) (C := RX6) (T := TX6) (N := 13) hx hb hts iX6_keeps_X6 hown hK hP 0 rfl rfl 0 (by decide) (hts _ kX6_keeps_1) (fun _ h9 => h9) rfl dX6_keeps_63 ?_
    refine lv_bipush (v := 36) hx hb dX6_keeps_66 (by decide) ?_
    refine lv_iconst (v := 2) hx hb dX6_keeps_68 (by decide) ?_
    refine lv_iload hx hb dX6_keeps_69 (lv_at hl 3 rfl) ?_
    refine lv_imul hx hb dX6_keeps_71 ?_
    refine lv_iadd hx hb dX6_keeps_72 ?_
    refine lv_iconst (v := 1) hx hb dX6_keeps_73 (by decide) ?_
    refine lv_iadd hx hb dX6_keeps_74 ?_
    refine lv_lload_n hx hb dX6_keeps_75 rfl (lv_at hl 2 rfl) ?_
    obtain ⟨g18, hF⟩ := ck_e hF
    obtain ⟨v19, hv19, hF⟩ := lt_e hF
    refine x_last (ws' := [(h, .inr (6, [.ref aAl, .ref aSv, .ref aAs, .int sN, .int sTh, .ref aF, .ref aG, .ref aK, .long sS, .ref aTx, .int sTl, .int sPl, .ref aRd])), (aAl, .inl (cyJ, 76, .inr (.inl v19))), (aSv, .inl (cyJ, 304, .inr (.inl sSv))), (aAs, .inl (cyJ, 76, .inr (.inl sAs))), (aF, .inl (cyJ, 3, .inr (.inl sF))), (aG, .inl (cyJ, 3, .inr (.inl sG))), (aK, .inl (cyJ, 3, .inr (.inl sK))), (aTx, .inl (cyI, 120, .inl sTx)), (aRd, .inl (cyI, 63, .inl sRd))]) hx hb hK hP hD hS 1 1 rfl rfl rfl g18 hv19 rfl dX6_keeps_76 (fun H locs hP hD hS => ?_)
    obtain rfl := some_e hF
    exact W.vret hx hb hr (fun t ht hW => ⟨⟨(), rfl, trivial, ⟨by rw [ht]; exact hP, va_K.moved hW.alike hK, hD⟩⟩, hS.F ht⟩) hS.2.2 dX6_keeps_77
  refine lv_icmp_ne (tgt := 49) hx hb dX6_keeps_10 (by decide) (fun c2 => ?_) (fun c2 => ?_)
  · have hF := ite_f hF c2
    exact Jx14 _ _ _ _ hF hP hD hS (lv_sub hl [1, 2, 3, 0] rfl)
  · have hF := ite_t hF c2
    refine lv_bipush (v := 36) hx hb dX6_keeps_13 (by decide) ?_
    refine lv_istore (lv' := [(6, .int 36), (5, .int o1), (0, .ref h), (1, .long w1), (3, .long w2)]) hx hb dX6_keeps_15 hl (by decide) rfl (fun ls hl => ?_)
    have Ln3 : ∀ (n3 : Nat) (K4 : ((Nat → Int64)) → Option ((Nat → Int64))) (v5 : Int32) (v6 : Nat → Int64) (H : Heap) (locs : List Loc) (ls : Array Slot), F_X6_keeps_17 n3 K4 v5 v6 = some out → va_P (dC, dI) vwCl [(h, .inr (6, [.ref aAl, .ref aSv, .ref aAs, .int sN, .int sTh, .ref aF, .ref aG, .ref aK, .long sS, .ref aTx, .int sTl, .int sPl, .ref aRd])), (aAl, .inl (cyJ, 76, .inr (.inl v6))), (aSv, .inl (cyJ, 304, .inr (.inl sSv))), (aAs, .inl (cyJ, 76, .inr (.inl sAs))), (aF, .inl (cyJ, 3, .inr (.inl sF))), (aG, .inl (cyJ, 3, .inr (.inl sG))), (aK, .inl (cyJ, 3, .inr (.inl sK))), (aTx, .inl (cyI, 120, .inl sTx)), (aRd, .inl (cyI, 63, .inl sRd))] H → va_D A [(h, .inr (6, [.ref aAl, .ref aSv, .ref aAs, .int sN, .int sTh, .ref aF, .ref aG, .ref aK, .long sS, .ref aTx, .int sTl, .int sPl, .ref aRd])), (aAl, .inl (cyJ, 76, .inr (.inl v6))), (aSv, .inl (cyJ, 304, .inr (.inl sSv))), (aAs, .inl (cyJ, 76, .inr (.inl sAs))), (aF, .inl (cyJ, 3, .inr (.inl sF))), (aG, .inl (cyJ, 3, .inr (.inl sG))), (aK, .inl (cyJ, 3, .inr (.inl sK))), (aTx, .inl (cyI, 120, .inl sTx)), (aRd, .inl (cyI, 63, .inl sRd))] → va_S A s.heap H locs → lv_has ls 7 [(0, .ref h), (1, .long w1), (3, .long w2), (5, .int o1), (6, .int v5)] → (∀ (x12 : (Nat → Int64)) (H : Heap) (locs : List Loc) (ls : Array Slot), K4 x12 = some out → va_P (dC, dI) vwCl [(h, .inr (6, [.ref aAl, .ref aSv, .ref aAs, .int sN, .int sTh, .ref aF, .ref aG, .ref aK, .long sS, .ref aTx, .int sTl, .int sPl, .ref aRd])), (aAl, .inl (cyJ, 76, .inr (.inl x12))), (aSv, .inl (cyJ, 304, .inr (.inl sSv))), (aAs, .inl (cyJ, 76, .inr (.inl sAs))), (aF, .inl (cyJ, 3, .inr (.inl sF))), (aG, .inl (cyJ, 3, .inr (.inl sG))), (aK, .inl (cyJ, 3, .inr (.inl sK))), (aTx, .inl (cyI, 120, .inl sTx)), (aRd, .inl (cyI, 63, .inl sRd))] H → va_D A [(h, .inr (6, [.ref aAl, .ref aSv, .ref aAs, .int sN, .int sTh, .ref aF, .ref aG, .ref aK, .long sS, .ref aTx, .int sTl, .int sPl, .ref aRd])), (aAl, .inl (cyJ, 76, .inr (.inl x12))), (aSv, .inl (cyJ, 304, .inr (.inl sSv))), (aAs, .inl (cyJ, 76, .inr (.inl sAs))), (aF, .inl (cyJ, 3, .inr (.inl sF))), (aG, .inl (cyJ, 3, .inr (.inl sG))), (aK, .inl (cyJ, 3, .inr (.inl sK))), (aTx, .inl (cyI, 120, .inl sTx)), (aRd, .inl (cyI, 63, .inl sRd))] → va_S A s.heap H locs → lv_has ls 7 [(0, .ref h), (1, .long w1), (3, .long w2), (5, .int o1)] → W p l e (headSpec wsX6_keeps ({ frames := 1, cells := 0, slots := 0, locals := 20 } : Room)).room s m ([.ref h, .long w1, .long w2] : List Value).toArray below meth c H locs 0 0 (MQ below (va_Qv (fun (_ : Unit) => True) (cPost (dC, dI) [(cyI, .int), (cyJ, .long), (cyB, .byte), (cyS, .object "SelfTuner$State"), (cyD, .double)] [(h, .inr (6, [.ref aAl, .ref aSv, .ref aAs, .int sN, .int sTh, .ref aF, .ref aG, .ref aK, .long sS, .ref aTx, .int sTl, .int sPl, .ref aRd])), (aAl, .inl (cyJ, 76, .inr (.inl out))), (aSv, .inl (cyJ, 304, .inr (.inl sSv))), (aAs, .inl (cyJ, 76, .inr (.inl sAs))), (aF, .inl (cyJ, 3, .inr (.inl sF))), (aG, .inl (cyJ, 3, .inr (.inl sG))), (aK, .inl (cyJ, 3, .inr (.inl sK))), (aTx, .inl (cyI, 120, .inl sTx)), (aRd, .inl (cyI, 63, .inl sRd))] A) A) ([.ref h, .long w1, .long w2] : List Value).toArray s 0 0 A) (F0 m 46 ls [])) → W p l e (headSpec wsX6_keeps ({ frames := 1, cells := 0, slots := 0, locals := 20 } : Room)).room s m ([.ref h, .long w1, .long w2] : List Value).toArray below meth c H locs 0 0 (MQ below (va_Qv (fun (_ : Unit) => True) (cPost (dC, dI) [(cyI, .int), (cyJ, .long), (cyB, .byte), (cyS, .object "SelfTuner$State"), (cyD, .double)] [(h, .inr (6, [.ref aAl, .ref aSv, .ref aAs, .int sN, .int sTh, .ref aF, .ref aG, .ref aK, .long sS, .ref aTx, .int sTl, .int sPl, .ref aRd])), (aAl, .inl (cyJ, 76, .inr (.inl out))), (aSv, .inl (cyJ, 304, .inr (.inl sSv))), (aAs, .inl (cyJ, 76, .inr (.inl sAs))), (aF, .inl (cyJ, 3, .inr (.inl sF))), (aG, .inl (cyJ, 3, .inr (.inl sG))), (aK, .inl (cyJ, 3, .inr (.inl sK))), (aTx, .inl (cyI, 120, .inl sTx)), (aRd, .inl (cyI, 63, .inl sRd))] A) A) ([.ref h, .long w1, .long w2] : List Value).toArray s 0 0 A) (F0 m 17 ls []) := by
      intro n3
      induction n3 with
      | zero => intro K4 v5 v6 H locs ls hF; exact no_e (show none = some out from hF)
      | succ n3 ihn3 =>
        intro K4 v5 v6 H locs ls hF hP hD hS hl kxn3
        rw [F_X6_keeps_17] at hF
        refine lv_iload hx hb dX6_keeps_17 (lv_at hl 4 rfl) ?_
        refine lv_bipush (v := 74) hx hb dX6_keeps_19 (by decide) ?_
        refine lv_icmp_ge (tgt := 46) hx hb dX6_keeps_21 (by decide) (fun c7 => ?_) (fun c7 => ?_)
        · have hF := ite_t hF c7
          exact kxn3 _ _ _ _ hF hP hD hS (lv_sub hl [0, 1, 2, 3] rfl)
        · have hF := ite_f hF c7
          refine lv_aload_n hx hb dX6_keeps_24 rfl (lv_at hl 0 rfl) ?_
          refine va_get (D := (dC, dI)) (ci := 6) (v := .ref aAl) (C := RX6) (T := TX6) (N := 13) hx hb hts iX6_keeps_X6 hown hK hP 0 rfl rfl 0 (by decide) (hts _ kX6_keeps_1) (fun _ h9 => h9) rfl dX6_keeps_25 ?_
          refine lv_iload hx hb dX6_keeps_28 (lv_at hl 4 rfl) ?_
          refine lv_aload_n hx hb dX6_keeps_30 rfl (lv_at hl 0 rfl) ?_
          refine va_get (D := (dC, dI)) (ci := 6) (v := .ref aAl) (C := RX6) (T := TX6) (N := 13) hx hb hts iX6_keeps_X6 hown hK hP 0 rfl rfl 0 (by decide) (hts _ kX6_keeps_1) (fun _ h9 => h9) rfl dX6_keeps_31 ?_
          refine lv_iload hx hb dX6_keeps_34 (lv_at hl 4 rfl) ?_
          refine lv_iconst (v := 2) hx hb dX6_keeps_36 (by decide) ?_
          refine lv_iadd hx hb dX6_keeps_37 ?_
          obtain ⟨g8, hF⟩ := ck_e hF
          refine x_lald hx hb hK hP 1 1 rfl rfl rfl g8 dX6_keeps_38 ?_
          obtain ⟨g9, hF⟩ := ck_e hF
          obtain ⟨v10, hv10, hF⟩ := lt_e hF
          refine x_last (ws' := [(h, .inr (6, [.ref aAl, .ref aSv, .ref aAs, .int sN, .int sTh, .ref aF, .ref aG, .ref aK, .long sS, .ref aTx, .int sTl, .int sPl, .ref aRd])), (aAl, .inl (cyJ, 76, .inr (.inl v10))), (aSv, .inl (cyJ, 304, .inr (.inl sSv))), (aAs, .inl (cyJ, 76, .inr (.inl sAs))), (aF, .inl (cyJ, 3, .inr (.inl sF))), (aG, .inl (cyJ, 3, .inr (.inl sG))), (aK, .inl (cyJ, 3, .inr (.inl sK))), (aTx, .inl (cyI, 120, .inl sTx)), (aRd, .inl (cyI, 63, .inl sRd))]) hx hb hK hP hD hS 1 1 rfl rfl rfl g9 hv10 rfl dX6_keeps_39 (fun H locs hP hD hS => ?_)
          obtain ⟨v11, hv11, hF⟩ := lt_e hF
          refine lv_iinc (v := v11) (lv' := [(6, .int v11), (0, .ref h), (1, .long w1), (3, .long w2), (5, .int o1)]) hx hb dX6_keeps_40 hl (k := 4) rfl (by rw [hv11]; rfl) (by decide) rfl (fun ls hl => ?_)
          refine lv_goto (tgt := 17) hx hb dX6_keeps_43 (by decide) ?_
          exact ihn3 _ _ _ _ _ _ hF hP hD hS (lv_sub hl [1, 2, 3, 4, 0] rfl) kxn3
    refine Ln3 _ _ _ _ _ _ _ hF hP hD hS (lv_sub hl [2, 3, 4, 1, 0] rfl) (fun x12 H locs ls hF hP hD hS hl => ?_)
    obtain ⟨v13, hv13, hF⟩ := lt_e hF
    refine lv_iinc (v := v13) (lv' := [(5, .int v13), (0, .ref h), (1, .long w1), (3, .long w2)]) hx hb dX6_keeps_46 hl (k := 3) rfl (by rw [hv13]; rfl) (by decide) rfl (fun ls hl => ?_)
    exact Jx14 _ _ _ _ hF hP hD hS (lv_sub hl [1, 2, 3, 0] rfl)
def F_X6_updatesP_10 (v3 : Int32) (sK : Nat → Int64) (sG : Nat → Int64) (w1 : Int64) : Nat → (((Nat → Int64)) → Option ((Nat → Int64))) → Int32 → (Nat → Int64) → Option ((Nat → Int64))
  | 0, _, _, _ => none
  | n6 + 1, K7, v8, v9 => if (3 : Int32) ≤ v8 then (K7 v9) else (ck (inb ((16 + (3 * v3)) + v8) 76) (ck (inb v3 3) (ck (inb v8 3) (ob (F_X6_floor ((sK v3.toNatClampNeg) * (sG v8.toNatClampNeg)) 65536) (fun o14 => ob (F_X6_floor (((v9 (((16 + (3 * v3)) + v8).toNatClampNeg)) - o14) * 65536) w1) (fun o15 => ob (F_X6_within o15 (-65536000) 65536000) (fun o16 => rg (α := Int64) (fun K20 => if (v3 : Int32) = v8 then (if (o16 : Int64) < 1 then (K20 1) else (K20 o16)) else (K20 o16)) (fun x19 => ck (inb ((16 + (3 * v3)) + v8) 76) (lt_ (α := Nat → Int64) (vp_updL v9 (((16 + (3 * v3)) + v8).toNatClampNeg) x19) (fun v22 => ck (inb ((16 + (3 * v8)) + v3) 76) (lt_ (α := Nat → Int64) (vp_updL v22 (((16 + (3 * v8)) + v3).toNatClampNeg) x19) (fun v24 => lt_ (α := Int32) (v8 + 1) (fun v25 => F_X6_updatesP_10 v3 sK sG w1 n6 K7 v25 v24)))))))))))))
def F_X6_updatesP_2 (sK : Nat → Int64) (sG : Nat → Int64) (w1 : Int64) : Nat → (((Nat → Int64)) → Option ((Nat → Int64))) → Int32 → (Nat → Int64) → Option ((Nat → Int64))
  | 0, _, _, _ => none
  | n1 + 1, K2, v3, v4 => if (3 : Int32) ≤ v3 then (K2 v4) else (F_X6_updatesP_10 v3 sK sG w1 1000 (fun x26 => lt_ (α := Int32) (v3 + 1) (fun v27 => F_X6_updatesP_2 sK sG w1 n1 K2 v27 x26)) v3 v4)
def F_X6_updatesP (sAl : Nat → Int64) (sG : Nat → Int64) (sK : Nat → Int64) (w1 : Int64) : Option ((Nat → Int64)) := F_X6_updatesP_2 sK sG w1 1000 (fun x28 => if (163840000 : Int64) < (((x28 16) + (x28 20)) + (x28 24)) then (ob (F_X6_laysP x28) (fun o30 => lt_ (α := Nat → Int64) (vp_updL o30 27 ((o30 27) + 1)) (fun v31 => some v31))) else (some x28)) 0 sAl
theorem kX6_updatesP_1 : (Cond.fieldLink RX6 7 "SelfTunerModel" "all" "[J") ∈ wsX6_updatesP := List.mem_of_getElem? (i := 1) rfl
theorem kX6_updatesP_2 : (Cond.fieldLink RX6 25 "SelfTunerModel" "k" "[J") ∈ wsX6_updatesP := List.mem_of_getElem? (i := 2) rfl
theorem kX6_updatesP_3 : (Cond.fieldLink RX6 22 "SelfTunerModel" "g" "[J") ∈ wsX6_updatesP := List.mem_of_getElem? (i := 3) rfl
theorem kX6_updatesP_4 : (Cond.constantLong RX6 71 (65536)) ∈ wsX6_updatesP := List.mem_of_getElem? (i := 4) rfl
theorem kX6_updatesP_5 : (Cond.constantLong RX6 127 (-65536000)) ∈ wsX6_updatesP := List.mem_of_getElem? (i := 5) rfl
theorem kX6_updatesP_6 : (Cond.constantLong RX6 129 (65536000)) ∈ wsX6_updatesP := List.mem_of_getElem? (i := 6) rfl
theorem kX6_updatesP_7 : (Cond.constantLong RX6 131 (163840000)) ∈ wsX6_updatesP := List.mem_of_getElem? (i := 7) rfl
theorem iX6_updatesP_X6 : ∀ w ∈ wsX60, w ∈ wsX6_updatesP := fun w h => List.mem_cons_of_mem _ (List.mem_append_right _ h)
set_option maxHeartbeats 4000000 in
set_option maxRecDepth 100000 in
theorem c_X6_updatesP (l : Launch) (dC : Nat → ClassId) (dI : Nat → Nat → Nat) (cyI cyJ cyB cyS cyD : ClassId) (h : Nat) (aAl : Nat) (aSv : Nat) (aAs : Nat) (aF : Nat) (aG : Nat) (aK : Nat) (aTx : Nat) (aRd : Nat) (sz : Nat) (sN : Int32) (sTh : Int32) (sS : Int64) (sTl : Int32) (sPl : Int32) (sAl : Nat → Int64) (sSv : Nat → Int64) (sAs : Nat → Int64) (sF : Nat → Int64) (sG : Nat → Int64) (sK : Nat → Int64) (sTx : Nat → Int32) (sRd : Nat → Int32) (w1 : Int64) {out : (Nat → Int64)} (hF : F_X6_updatesP sAl sG sK w1 = some out) : Mv l yX6_updatesP wsX6_updatesP ({ frames := 1, cells := 0, slots := 0, locals := 25 } : Room) (dC, dI) [(cyI, .int), (cyJ, .long), (cyB, .byte), (cyS, .object "SelfTuner$State"), (cyD, .double)] sz [.ref h, .long w1] [(h, .inr (6, [.ref aAl, .ref aSv, .ref aAs, .int sN, .int sTh, .ref aF, .ref aG, .ref aK, .long sS, .ref aTx, .int sTl, .int sPl, .ref aRd])), (aAl, .inl (cyJ, 76, .inr (.inl sAl))), (aSv, .inl (cyJ, 304, .inr (.inl sSv))), (aAs, .inl (cyJ, 76, .inr (.inl sAs))), (aF, .inl (cyJ, 3, .inr (.inl sF))), (aG, .inl (cyJ, 3, .inr (.inl sG))), (aK, .inl (cyJ, 3, .inr (.inl sK))), (aTx, .inl (cyI, 120, .inl sTx)), (aRd, .inl (cyI, 63, .inl sRd))] [(h, .inr (6, [.ref aAl, .ref aSv, .ref aAs, .int sN, .int sTh, .ref aF, .ref aG, .ref aK, .long sS, .ref aTx, .int sTl, .int sPl, .ref aRd])), (aAl, .inl (cyJ, 76, .inr (.inl out))), (aSv, .inl (cyJ, 304, .inr (.inl sSv))), (aAs, .inl (cyJ, 76, .inr (.inl sAs))), (aF, .inl (cyJ, 3, .inr (.inl sF))), (aG, .inl (cyJ, 3, .inr (.inl sG))), (aK, .inl (cyJ, 3, .inr (.inl sK))), (aTx, .inl (cyI, 120, .inl sTx)), (aRd, .inl (cyI, 63, .inl sRd))] := by
  refine Met.ofW (cc := cX6_updatesP) (maxL := 7) (ret := none) (by decide) rfl ?_
  intro p e s m args below meth c s₁ B hml hv
  obtain ⟨rfl, hN, hsz, hP, hK, hD0⟩ := hv
  have hx := B.exec
  have hb := B.bytes
  have hr := B.returns
  have hts := atoms_spec (ws := wsX6_updatesP) B.pre
  have hown : s.vm.findClass RX6 = some m.cls := findClass_of_methodNamed B.named
  have hlocks := B.notSynchronized
  subst hsz
  have hD := hD0.self (sz := s.heap.size)
  generalize hAe : va_A [(h, .inr (6, [.ref aAl, .ref aSv, .ref aAs, .int sN, .int sTh, .ref aF, .ref aG, .ref aK, .long sS, .ref aTx, .int sTl, .int sPl, .ref aRd])), (aAl, .inl (cyJ, 76, .inr (.inl sAl))), (aSv, .inl (cyJ, 304, .inr (.inl sSv))), (aAs, .inl (cyJ, 76, .inr (.inl sAs))), (aF, .inl (cyJ, 3, .inr (.inl sF))), (aG, .inl (cyJ, 3, .inr (.inl sG))), (aK, .inl (cyJ, 3, .inr (.inl sK))), (aTx, .inl (cyI, 120, .inl sTx)), (aRd, .inl (cyI, 63, .inl sRd))] s.heap.size = A at hD ⊢
  have hA : ∀ q : Nat, s.heap.size ≤ q → A q := fun q h => by rw [← hAe]; exact Or.inr h
  have hS : va_S A s.heap s.heap [] := va_S.rf
  have hP : va_P (dC, dI) vwCl [(h, .inr (6, [.ref aAl, .ref aSv, .ref aAs, .int sN, .int sTh, .ref aF, .ref aG, .ref aK, .long sS, .ref aTx, .int sTl, .int sPl, .ref aRd])), (aAl, .inl (cyJ, 76, .inr (.inl sAl))), (aSv, .inl (cyJ, 304, .inr (.inl sSv))), (aAs, .inl (cyJ, 76, .inr (.inl sAs))), (aF, .inl (cyJ, 3, .inr (.inl sF))), (aG, .inl (cyJ, 3, .inr (.inl sG))), (aK, .inl (cyJ, 3, .inr (.inl sK))), (aTx, .inl (cyI, 120, .inl sTx)), (aRd, .inl (cyI, 63, .inl sRd))] s.heap := hP
  have hl := lv_entry ([.ref h, .long w1]) (n := 7) (Nat.le_of_ble_eq_true rfl)
  rw [lg_entry_eq]
  generalize (lg_sl ([.ref h, .long w1]) ++ List.replicate (7 - (lg_sl ([.ref h, .long w1])).length) Slot.unset).toArray = ls at hl ⊢
  have hl : lv_has ls 7 [(0, .ref h), (1, .long w1)] := hl
  unfold F_X6_updatesP at hF
  refine lv_iconst (v := 0) hx hb dX6_updatesP_0 (by decide) ?_
  refine lv_istore_n (lv' := [(3, .int 0), (0, .ref h), (1, .long w1)]) hx hb dX6_updatesP_1 rfl hl (by decide) rfl (fun ls hl => ?_)
  have Ln1 : ∀ (n1 : Nat) (K2 : ((Nat → Int64)) → Option ((Nat → Int64))) (v3 : Int32) (v4 : Nat → Int64) (H : Heap) (locs : List Loc) (ls : Array Slot), F_X6_updatesP_2 sK sG w1 n1 K2 v3 v4 = some out → va_P (dC, dI) vwCl [(h, .inr (6, [.ref aAl, .ref aSv, .ref aAs, .int sN, .int sTh, .ref aF, .ref aG, .ref aK, .long sS, .ref aTx, .int sTl, .int sPl, .ref aRd])), (aAl, .inl (cyJ, 76, .inr (.inl v4))), (aSv, .inl (cyJ, 304, .inr (.inl sSv))), (aAs, .inl (cyJ, 76, .inr (.inl sAs))), (aF, .inl (cyJ, 3, .inr (.inl sF))), (aG, .inl (cyJ, 3, .inr (.inl sG))), (aK, .inl (cyJ, 3, .inr (.inl sK))), (aTx, .inl (cyI, 120, .inl sTx)), (aRd, .inl (cyI, 63, .inl sRd))] H → va_D A [(h, .inr (6, [.ref aAl, .ref aSv, .ref aAs, .int sN, .int sTh, .ref aF, .ref aG, .ref aK, .long sS, .ref aTx, .int sTl, .int sPl, .ref aRd])), (aAl, .inl (cyJ, 76, .inr (.inl v4))), (aSv, .inl (cyJ, 304, .inr (.inl sSv))), (aAs, .inl (cyJ, 76, .inr (.inl sAs))), (aF, .inl (cyJ, 3, .inr (.inl sF))), (aG, .inl (cyJ, 3, .inr (.inl sG))), (aK, .inl (cyJ, 3, .inr (.inl sK))), (aTx, .inl (cyI, 120, .inl sTx)), (aRd, .inl (cyI, 63, .inl sRd))] → va_S A s.heap H locs → lv_has ls 7 [(0, .ref h), (1, .long w1), (3, .int v3)] → (∀ (x28 : (Nat → Int64)) (H : Heap) (locs : List Loc) (ls : Array Slot), K2 x28 = some out → va_P (dC, dI) vwCl [(h, .inr (6, [.ref aAl, .ref aSv, .ref aAs, .int sN, .int sTh, .ref aF, .ref aG, .ref aK, .long sS, .ref aTx, .int sTl, .int sPl, .ref aRd])), (aAl, .inl (cyJ, 76, .inr (.inl x28))), (aSv, .inl (cyJ, 304, .inr (.inl sSv))), (aAs, .inl (cyJ, 76, .inr (.inl sAs))), (aF, .inl (cyJ, 3, .inr (.inl sF))), (aG, .inl (cyJ, 3, .inr (.inl sG))), (aK, .inl (cyJ, 3, .inr (.inl sK))), (aTx, .inl (cyI, 120, .inl sTx)), (aRd, .inl (cyI, 63, .inl sRd))] H → va_D A [(h, .inr (6, [.ref aAl, .ref aSv, .ref aAs, .int sN, .int sTh, .ref aF, .ref aG, .ref aK, .long sS, .ref aTx, .int sTl, .int sPl, .ref aRd])), (aAl, .inl (cyJ, 76, .inr (.inl x28))), (aSv, .inl (cyJ, 304, .inr (.inl sSv))), (aAs, .inl (cyJ, 76, .inr (.inl sAs))), (aF, .inl (cyJ, 3, .inr (.inl sF))), (aG, .inl (cyJ, 3, .inr (.inl sG))), (aK, .inl (cyJ, 3, .inr (.inl sK))), (aTx, .inl (cyI, 120, .inl sTx)), (aRd, .inl (cyI, 63, .inl sRd))] → va_S A s.heap H locs → lv_has ls 7 [(0, .ref h)] → W p l e (headSpec wsX6_updatesP ({ frames := 1, cells := 0, slots := 0, locals := 25 } : Room)).room s m ([.ref h, .long w1] : List Value).toArray below meth c H locs 0 0 (MQ below (va_Qv (fun (_ : Unit) => True) (cPost (dC, dI) [(cyI, .int), (cyJ, .long), (cyB, .byte), (cyS, .object "SelfTuner$State"), (cyD, .double)] [(h, .inr (6, [.ref aAl, .ref aSv, .ref aAs, .int sN, .int sTh, .ref aF, .ref aG, .ref aK, .long sS, .ref aTx, .int sTl, .int sPl, .ref aRd])), (aAl, .inl (cyJ, 76, .inr (.inl out))), (aSv, .inl (cyJ, 304, .inr (.inl sSv))), (aAs, .inl (cyJ, 76, .inr (.inl sAs))), (aF, .inl (cyJ, 3, .inr (.inl sF))), (aG, .inl (cyJ, 3, .inr (.inl sG))), (aK, .inl (cyJ, 3, .inr (.inl sK))), (aTx, .inl (cyI, 120, .inl sTx)), (aRd, .inl (cyI, 63, .inl sRd))] A) A) ([.ref h, .long w1] : List Value).toArray s 0 0 A) (F0 m 139 ls [])) → W p l e (headSpec wsX6_updatesP ({ frames := 1, cells := 0, slots := 0, locals := 25 } : Room)).room s m ([.ref h, .long w1] : List Value).toArray below meth c H locs 0 0 (MQ below (va_Qv (fun (_ : Unit) => True) (cPost (dC, dI) [(cyI, .int), (cyJ, .long), (cyB, .byte), (cyS, .object "SelfTuner$State"), (cyD, .double)] [(h, .inr (6, [.ref aAl, .ref aSv, .ref aAs, .int sN, .int sTh, .ref aF, .ref aG, .ref aK, .long sS, .ref aTx, .int sTl, .int sPl, .ref aRd])), (aAl, .inl (cyJ, 76, .inr (.inl out))), (aSv, .inl (cyJ, 304, .inr (.inl sSv))), (aAs, .inl (cyJ, 76, .inr (.inl sAs))), (aF, .inl (cyJ, 3, .inr (.inl sF))), (aG, .inl (cyJ, 3, .inr (.inl sG))), (aK, .inl (cyJ, 3, .inr (.inl sK))), (aTx, .inl (cyI, 120, .inl sTx)), (aRd, .inl (cyI, 63, .inl sRd))] A) A) ([.ref h, .long w1] : List Value).toArray s 0 0 A) (F0 m 2 ls []) := by
    intro n1
    induction n1 with
    | zero => intro K2 v3 v4 H locs ls hF; exact no_e (show none = some out from hF)
    | succ n1 ihn1 =>
      intro K2 v3 v4 H locs ls hF hP hD hS hl kxn1
      rw [F_X6_updatesP_2] at hF
      refine lv_iload_n hx hb dX6_updatesP_2 rfl (lv_at hl 2 rfl) ?_
      refine lv_iconst (v := 3) hx hb dX6_updatesP_3 (by decide) ?_
      refine lv_icmp_ge (tgt := 139) hx hb dX6_updatesP_4 (by decide) (fun c5 => ?_) (fun c5 => ?_)
      · have hF := ite_t hF c5
        exact kxn1 _ _ _ _ hF hP hD hS (lv_sub hl [0] rfl)
      · have hF := ite_f hF c5
        refine lv_iload_n hx hb dX6_updatesP_7 rfl (lv_at hl 2 rfl) ?_
        refine lv_istore (lv' := [(4, .int v3), (0, .ref h), (1, .long w1), (3, .int v3)]) hx hb dX6_updatesP_8 hl (by decide) rfl (fun ls hl => ?_)
        have Ln6 : ∀ (n6 : Nat) (K7 : ((Nat → Int64)) → Option ((Nat → Int64))) (v8 : Int32) (v9 : Nat → Int64) (H : Heap) (locs : List Loc) (ls : Array Slot), F_X6_updatesP_10 v3 sK sG w1 n6 K7 v8 v9 = some out → va_P (dC, dI) vwCl [(h, .inr (6, [.ref aAl, .ref aSv, .ref aAs, .int sN, .int sTh, .ref aF, .ref aG, .ref aK, .long sS, .ref aTx, .int sTl, .int sPl, .ref aRd])), (aAl, .inl (cyJ, 76, .inr (.inl v9))), (aSv, .inl (cyJ, 304, .inr (.inl sSv))), (aAs, .inl (cyJ, 76, .inr (.inl sAs))), (aF, .inl (cyJ, 3, .inr (.inl sF))), (aG, .inl (cyJ, 3, .inr (.inl sG))), (aK, .inl (cyJ, 3, .inr (.inl sK))), (aTx, .inl (cyI, 120, .inl sTx)), (aRd, .inl (cyI, 63, .inl sRd))] H → va_D A [(h, .inr (6, [.ref aAl, .ref aSv, .ref aAs, .int sN, .int sTh, .ref aF, .ref aG, .ref aK, .long sS, .ref aTx, .int sTl, .int sPl, .ref aRd])), (aAl, .inl (cyJ, 76, .inr (.inl v9))), (aSv, .inl (cyJ, 304, .inr (.inl sSv))), (aAs, .inl (cyJ, 76, .inr (.inl sAs))), (aF, .inl (cyJ, 3, .inr (.inl sF))), (aG, .inl (cyJ, 3, .inr (.inl sG))), (aK, .inl (cyJ, 3, .inr (.inl sK))), (aTx, .inl (cyI, 120, .inl sTx)), (aRd, .inl (cyI, 63, .inl sRd))] → va_S A s.heap H locs → lv_has ls 7 [(0, .ref h), (1, .long w1), (3, .int v3), (4, .int v8)] → (∀ (x26 : (Nat → Int64)) (H : Heap) (locs : List Loc) (ls : Array Slot), K7 x26 = some out → va_P (dC, dI) vwCl [(h, .inr (6, [.ref aAl, .ref aSv, .ref aAs, .int sN, .int sTh, .ref aF, .ref aG, .ref aK, .long sS, .ref aTx, .int sTl, .int sPl, .ref aRd])), (aAl, .inl (cyJ, 76, .inr (.inl x26))), (aSv, .inl (cyJ, 304, .inr (.inl sSv))), (aAs, .inl (cyJ, 76, .inr (.inl sAs))), (aF, .inl (cyJ, 3, .inr (.inl sF))), (aG, .inl (cyJ, 3, .inr (.inl sG))), (aK, .inl (cyJ, 3, .inr (.inl sK))), (aTx, .inl (cyI, 120, .inl sTx)), (aRd, .inl (cyI, 63, .inl sRd))] H → va_D A [(h, .inr (6, [.ref aAl, .ref aSv, .ref aAs, .int sN, .int sTh, .ref aF, .ref aG, .ref aK, .long sS, .ref aTx, .int sTl, .int sPl, .ref aRd])), (aAl, .inl (cyJ, 76, .inr (.inl x26))), (aSv, .inl (cyJ, 304, .inr (.inl sSv))), (aAs, .inl (cyJ, 76, .inr (.inl sAs))), (aF, .inl (cyJ, 3, .inr (.inl sF))), (aG, .inl (cyJ, 3, .inr (.inl sG))), (aK, .inl (cyJ, 3, .inr (.inl sK))), (aTx, .inl (cyI, 120, .inl sTx)), (aRd, .inl (cyI, 63, .inl sRd))] → va_S A s.heap H locs → lv_has ls 7 [(0, .ref h), (1, .long w1), (3, .int v3)] → W p l e (headSpec wsX6_updatesP ({ frames := 1, cells := 0, slots := 0, locals := 25 } : Room)).room s m ([.ref h, .long w1] : List Value).toArray below meth c H locs 0 0 (MQ below (va_Qv (fun (_ : Unit) => True) (cPost (dC, dI) [(cyI, .int), (cyJ, .long), (cyB, .byte), (cyS, .object "SelfTuner$State"), (cyD, .double)] [(h, .inr (6, [.ref aAl, .ref aSv, .ref aAs, .int sN, .int sTh, .ref aF, .ref aG, .ref aK, .long sS, .ref aTx, .int sTl, .int sPl, .ref aRd])), (aAl, .inl (cyJ, 76, .inr (.inl out))), (aSv, .inl (cyJ, 304, .inr (.inl sSv))), (aAs, .inl (cyJ, 76, .inr (.inl sAs))), (aF, .inl (cyJ, 3, .inr (.inl sF))), (aG, .inl (cyJ, 3, .inr (.inl sG))), (aK, .inl (cyJ, 3, .inr (.inl sK))), (aTx, .inl (cyI, 120, .inl sTx)), (aRd, .inl (cyI, 63, .inl sRd))] A) A) ([.ref h, .long w1] : List Value).toArray s 0 0 A) (F0 m 133 ls [])) → W p l e (headSpec wsX6_updatesP ({ frames := 1, cells := 0, slots := 0, locals := 25 } : Room)).room s m ([.ref h, .long w1] : List Value).toArray below meth c H locs 0 0 (MQ below (va_Qv (fun (_ : Unit) => True) (cPost (dC, dI) [(cyI, .int), (cyJ, .long), (cyB, .byte), (cyS, .object "SelfTuner$State"), (cyD, .double)] [(h, .inr (6, [.ref aAl, .ref aSv, .ref aAs, .int sN, .int sTh, .ref aF, .ref aG, .ref aK, .long sS, .ref aTx, .int sTl, .int sPl, .ref aRd])), (aAl, .inl (cyJ, 76, .inr (.inl out))), (aSv, .inl (cyJ, 304, .inr (.inl sSv))), (aAs, .inl (cyJ, 76, .inr (.inl sAs))), (aF, .inl (cyJ, 3, .inr (.inl sF))), (aG, .inl (cyJ, 3, .inr (.inl sG))), (aK, .inl (cyJ, 3, .inr (.inl sK))), (aTx, .inl (cyI, 120, .inl sTx)), (aRd, .inl (cyI, 63, .inl sRd))] A) A) ([.ref h, .long w1] : List Value).toArray s 0 0 A) (F0 m 10 ls []) := by
          intro n6
          induction n6 with
          | zero => intro K7 v8 v9 H locs ls hF; exact no_e (show none = some out from hF)
          | succ n6 ihn6 =>
            intro K7 v8 v9 H locs ls hF hP hD hS hl kxn6
            rw [F_X6_updatesP_10] at hF
            refine lv_iload hx hb dX6_updatesP_10 (lv_at hl 3 rfl) ?_
            refine lv_iconst (v := 3) hx hb dX6_updatesP_12 (by decide) ?_
            refine lv_icmp_ge (tgt := 133) hx hb dX6_updatesP_13 (by decide) (fun c10 => ?_) (fun c10 => ?_)
            · have hF := ite_t hF c10
              exact kxn6 _ _ _ _ hF hP hD hS (lv_sub hl [0, 1, 2] rfl)
            · have hF := ite_f hF c10
              refine lv_aload_n hx hb dX6_updatesP_16 rfl (lv_at hl 0 rfl) ?_
              refine va_get (D := (dC, dI)) (ci := 6) (v := .ref aAl) (C := RX6) (T := TX6) (N := 13) hx hb hts iX6_updatesP_X6 hown hK hP 0 rfl rfl 0 (by decide) (hts _ kX6_updatesP_1) (fun _ h9 => h9) rfl dX6_updatesP_17 ?_
              refine lv_bipush (v := 16) hx hb dX6_updatesP_20 (by decide) ?_
              refine lv_iconst (v := 3) hx hb dX6_updatesP_22 (by decide) ?_
              refine lv_iload_n hx hb dX6_updatesP_23 rfl (lv_at hl 2 rfl) ?_
              refine lv_imul hx hb dX6_updatesP_24 ?_
              refine lv_iadd hx hb dX6_updatesP_25 ?_
              refine lv_iload hx hb dX6_updatesP_26 (lv_at hl 3 rfl) ?_
              refine lv_iadd hx hb dX6_updatesP_28 ?_
              obtain ⟨g11, hF⟩ := ck_e hF
              refine x_lald hx hb hK hP 1 1 rfl rfl rfl g11 dX6_updatesP_29 ?_
              refine lv_aload_n hx hb dX6_updatesP_30 rfl (lv_at hl 0 rfl) ?_
              refine va_get (D := (dC, dI)) (ci := 6) (v := .ref aK) (C := RX6) (T := TX6) (N := 13) hx hb hts iX6_updatesP_X6 hown hK hP 0 rfl rfl 7 (by decide) (hts _ kX6_updatesP_2) (fun _ h9 => h9) rfl dX6_updatesP_31 ?_
              refine lv_iload_n hx hb dX6_updatesP_34 rfl (lv_at hl 2 rfl) ?_
              obtain ⟨g12, hF⟩ := ck_e hF
              refine x_lald hx hb hK hP 6 1 rfl rfl rfl g12 dX6_updatesP_35 ?_
              refine lv_aload_n hx hb dX6_updatesP_36 rfl (lv_at hl 0 rfl) ?_
              refine va_get (D := (dC, dI)) (ci := 6) (v := .ref aG) (C := RX6) (T := TX6) (N := 13) hx hb hts iX6_updatesP_X6 hown hK hP 0 rfl rfl 6 (by decide) (hts _ kX6_updatesP_3) (fun _ h9 => h9) rfl dX6_updatesP_37 ?_
              refine lv_iload hx hb dX6_updatesP_40 (lv_at hl 3 rfl) ?_
              obtain ⟨g13, hF⟩ := ck_e hF
              refine x_lald hx hb hK hP 5 1 rfl rfl rfl g13 dX6_updatesP_42 ?_
              refine lv_lmul hx hb dX6_updatesP_43 ?_
              refine lv_ldc2 (v := 65536) hx hb hown (hts _ kX6_updatesP_4) dX6_updatesP_44 ?_
              obtain ⟨o14, ho14, hF⟩ := ob_e hF
              refine x_callzl (va_runS (As := [.long ((sK v3.toNatClampNeg) * (sG v8.toNatClampNeg)), .long 65536]) (rest := [.long (v9 (((16 + (3 * v3)) + v8).toNatClampNeg))]) ⟨hx, hb, hml, hown, hts⟩ (c_X6_floor l ((sK v3.toNatClampNeg) * (sG v8.toNatClampNeg)) 65536 ho14) (va_cwS 2 hts gX6_updatesP_X6_floor rfl rfl rfl (by decide +kernel) ⟨Nat.le_of_ble_eq_true rfl, Nat.le_of_ble_eq_true rfl⟩) ⟨true_blind, fun _ _ _ => ⟨rfl, trivial⟩⟩ rfl rfl hl.1 rfl (lv_room (Nat.le_of_ble_eq_true rfl)) dX6_updatesP_47 ⟨Nat.le_of_ble_eq_true rfl, Nat.le_of_ble_eq_true rfl⟩) ?_
              refine lv_lsub hx hb dX6_updatesP_50 ?_
              refine lv_ldc2 (v := 65536) hx hb hown (hts _ kX6_updatesP_4) dX6_updatesP_51 ?_
              refine lv_lmul hx hb dX6_updatesP_54 ?_
              refine lv_lload_n hx hb dX6_updatesP_55 rfl (lv_at hl 1 rfl) ?_
              obtain ⟨o15, ho15, hF⟩ := ob_e hF
              refine x_callzl (va_runS (As := [.long (((v9 (((16 + (3 * v3)) + v8).toNatClampNeg)) - o14) * 65536), .long w1]) (rest := []) ⟨hx, hb, hml, hown, hts⟩ (c_X6_floor l (((v9 (((16 + (3 * v3)) + v8).toNatClampNeg)) - o14) * 65536) w1 ho15) (va_cwS 2 hts gX6_updatesP_X6_floor rfl rfl rfl (by decide +kernel) ⟨Nat.le_of_ble_eq_true rfl, Nat.le_of_ble_eq_true rfl⟩) ⟨true_blind, fun _ _ _ => ⟨rfl, trivial⟩⟩ rfl rfl hl.1 rfl (lv_room (Nat.le_of_ble_eq_true rfl)) dX6_updatesP_56 ⟨Nat.le_of_ble_eq_true rfl, Nat.le_of_ble_eq_true rfl⟩) ?_
              refine lv_lstore (lv' := [(5, .long o15), (0, .ref h), (1, .long w1), (3, .int v3), (4, .int v8)]) hx hb dX6_updatesP_59 hl (by decide) rfl (fun ls hl => ?_)
              refine lv_lload hx hb dX6_updatesP_61 (lv_at hl 0 rfl) ?_
              refine lv_ldc2 (v := (-65536000)) hx hb hown (hts _ kX6_updatesP_5) dX6_updatesP_63 ?_
              refine lv_ldc2 (v := 65536000) hx hb hown (hts _ kX6_updatesP_6) dX6_updatesP_66 ?_
              obtain ⟨o16, ho16, hF⟩ := ob_e hF
              refine x_callzl (va_runS (As := [.long o15, .long (-65536000), .long 65536000]) (rest := []) ⟨hx, hb, hml, hown, hts⟩ (c_X6_within l o15 (-65536000) 65536000 ho16) (va_cwS 3 hts gX6_updatesP_X6_within rfl rfl rfl (by decide +kernel) ⟨Nat.le_of_ble_eq_true rfl, Nat.le_of_ble_eq_true rfl⟩) ⟨true_blind, fun _ _ _ => ⟨rfl, trivial⟩⟩ rfl rfl hl.1 rfl (lv_room (Nat.le_of_ble_eq_true rfl)) dX6_updatesP_69 ⟨Nat.le_of_ble_eq_true rfl, Nat.le_of_ble_eq_true rfl⟩) ?_
              refine lv_lstore (lv' := [(5, .long o16), (0, .ref h), (1, .long w1), (3, .int v3), (4, .int v8)]) hx hb dX6_updatesP_72 hl (by decide) rfl (fun ls hl => ?_)
              refine lv_iload_n hx hb dX6_updatesP_74 rfl (lv_at hl 3 rfl) ?_
              refine lv_iload hx hb dX6_updatesP_75 (lv_at hl 4 rfl) ?_
              obtain ⟨K20, hK20, hF⟩ := rg_e hF
              have Jx19 : ∀ (x19 : Int64) (H : Heap) (locs : List Loc) (ls : Array Slot), K20 x19 = some out → va_P (dC, dI) vwCl [(h, .inr (6, [.ref aAl, .ref aSv, .ref aAs, .int sN, .int sTh, .ref aF, .ref aG, .ref aK, .long sS, .ref aTx, .int sTl, .int sPl, .ref aRd])), (aAl, .inl (cyJ, 76, .inr (.inl v9))), (aSv, .inl (cyJ, 304, .inr (.inl sSv))), (aAs, .inl (cyJ, 76, .inr (.inl sAs))), (aF, .inl (cyJ, 3, .inr (.inl sF))), (aG, .inl (cyJ, 3, .inr (.inl sG))), (aK, .inl (cyJ, 3, .inr (.inl sK))), (aTx, .inl (cyI, 120, .inl sTx)), (aRd, .inl (cyI, 63, .inl sRd))] H → va_D A [(h, .inr (6, [.ref aAl, .ref aSv, .ref aAs, .int sN, .int sTh, .ref aF, .ref aG, .ref aK, .long sS, .ref aTx, .int sTl, .int sPl, .ref aRd])), (aAl, .inl (cyJ, 76, .inr (.inl v9))), (aSv, .inl (cyJ, 304, .inr (.inl sSv))), (aAs, .inl (cyJ, 76, .inr (.inl sAs))), (aF, .inl (cyJ, 3, .inr (.inl sF))), (aG, .inl (cyJ, 3, .inr (.inl sG))), (aK, .inl (cyJ, 3, .inr (.inl sK))), (aTx, .inl (cyI, 120, .inl sTx)), (aRd, .inl (cyI, 63, .inl sRd))] → va_S A s.heap H locs → lv_has ls 7 [(0, .ref h), (1, .long w1), (3, .int v3), (4, .int v8)] → W p l e (headSpec wsX6_updatesP ({ frames := 1, cells := 0, slots := 0, locals := 25 } : Room)).room s m ([.ref h, .long w1] : List Value).toArray below meth c H locs 0 0 (MQ below (va_Qv (fun (_ : Unit) => True) (cPost (dC, dI) [(cyI, .int), (cyJ, .long), (cyB, .byte), (cyS, .object "SelfTuner$State"), (cyD, .double)] [(h, .inr (6, [.ref aAl, .ref aSv, .ref aAs, .int sN, .int sTh, .ref aF, .ref aG, .ref aK, .long sS, .ref aTx, .int sTl, .int sPl, .ref aRd])), (aAl, .inl (cyJ, 76, .inr (.inl out))), (aSv, .inl (cyJ, 304, .inr (.inl sSv))), (aAs, .inl (cyJ, 76, .inr (.inl sAs))), (aF, .inl (cyJ, 3, .inr (.inl sF))), (aG, .inl (cyJ, 3, .inr (.inl sG))), (aK, .inl (cyJ, 3, .inr (.inl sK))), (aTx, .inl (cyI, 120, .inl sTx)), (aRd, .inl (cyI, 63, .inl sRd))] A) A) ([.ref h, .long w1] : List Value).toArray s 0 0 A) (F0 m 93 ls [.long x19]) := by
                intro x19 H locs ls hF hP hD hS hl
                rw [hK20] at hF
                refine lv_lstore (lv' := [(5, .long x19), (0, .ref h), (1, .long w1), (3, .int v3), (4, .int v8)]) hx hb dX6_updatesP_93 hl (by decide) rfl (fun ls hl => ?_)
                refine lv_aload_n hx hb dX6_updatesP_95 rfl (lv_at hl 1 rfl) ?_
                refine va_get (D := (dC, dI)) (ci := 6) (v := .ref aAl) (C := RX6) (T := TX6) (N := 13) hx hb hts iX6_updatesP_X6 hown hK hP 0 rfl rfl 0 (by decide) (hts _ kX6_updatesP_1) (fun _ h9 => h9) rfl dX6_updatesP_96 ?_
                refine lv_bipush (v := 16) hx hb dX6_updatesP_99 (by decide) ?_
                refine lv_iconst (v := 3) hx hb dX6_updatesP_101 (by decide) ?_
                refine lv_iload_n hx hb dX6_updatesP_102 rfl (lv_at hl 3 rfl) ?_
                refine lv_imul hx hb dX6_updatesP_103 ?_
                refine lv_iadd hx hb dX6_updatesP_104 ?_
                refine lv_iload hx hb dX6_updatesP_105 (lv_at hl 4 rfl) ?_
                refine lv_iadd hx hb dX6_updatesP_107 ?_
                refine lv_lload hx hb dX6_updatesP_108 (lv_at hl 0 rfl) ?_
                obtain ⟨g21, hF⟩ := ck_e hF
                obtain ⟨v22, hv22, hF⟩ := lt_e hF
                refine x_last (ws' := [(h, .inr (6, [.ref aAl, .ref aSv, .ref aAs, .int sN, .int sTh, .ref aF, .ref aG, .ref aK, .long sS, .ref aTx, .int sTl, .int sPl, .ref aRd])), (aAl, .inl (cyJ, 76, .inr (.inl v22))), (aSv, .inl (cyJ, 304, .inr (.inl sSv))), (aAs, .inl (cyJ, 76, .inr (.inl sAs))), (aF, .inl (cyJ, 3, .inr (.inl sF))), (aG, .inl (cyJ, 3, .inr (.inl sG))), (aK, .inl (cyJ, 3, .inr (.inl sK))), (aTx, .inl (cyI, 120, .inl sTx)), (aRd, .inl (cyI, 63, .inl sRd))]) hx hb hK hP hD hS 1 1 rfl rfl rfl g21 hv22 rfl dX6_updatesP_110 (fun H locs hP hD hS => ?_)
                refine lv_aload_n hx hb dX6_updatesP_111 rfl (lv_at hl 1 rfl) ?_
                refine va_get (D := (dC, dI)) (ci := 6) (v := .ref aAl) (C := RX6) (T := TX6) (N := 13) hx hb hts iX6_updatesP_X6 hown hK hP 0 rfl rfl 0 (by decide) (hts _ kX6_updatesP_1) (fun _ h9 => h9) rfl dX6_updatesP_112 ?_
                refine lv_bipush (v := 16) hx hb dX6_updatesP_115 (by decide) ?_
                refine lv_iconst (v := 3) hx hb dX6_updatesP_117 (by decide) ?_
                refine lv_iload hx hb dX6_updatesP_118 (lv_at hl 4 rfl) ?_
                refine lv_imul hx hb dX6_updatesP_120 ?_
                refine lv_iadd hx hb dX6_updatesP_121 ?_
                refine lv_iload_n hx hb dX6_updatesP_122 rfl (lv_at hl 3 rfl) ?_
                refine lv_iadd hx hb dX6_updatesP_123 ?_
                refine lv_lload hx hb dX6_updatesP_124 (lv_at hl 0 rfl) ?_
                obtain ⟨g23, hF⟩ := ck_e hF
                obtain ⟨v24, hv24, hF⟩ := lt_e hF
                refine x_last (ws' := [(h, .inr (6, [.ref aAl, .ref aSv, .ref aAs, .int sN, .int sTh, .ref aF, .ref aG, .ref aK, .long sS, .ref aTx, .int sTl, .int sPl, .ref aRd])), (aAl, .inl (cyJ, 76, .inr (.inl v24))), (aSv, .inl (cyJ, 304, .inr (.inl sSv))), (aAs, .inl (cyJ, 76, .inr (.inl sAs))), (aF, .inl (cyJ, 3, .inr (.inl sF))), (aG, .inl (cyJ, 3, .inr (.inl sG))), (aK, .inl (cyJ, 3, .inr (.inl sK))), (aTx, .inl (cyI, 120, .inl sTx)), (aRd, .inl (cyI, 63, .inl sRd))]) hx hb hK hP hD hS 1 1 rfl rfl rfl g23 hv24 rfl dX6_updatesP_126 (fun H locs hP hD hS => ?_)
                obtain ⟨v25, hv25, hF⟩ := lt_e hF
                refine lv_iinc (v := v25) (lv' := [(4, .int v25), (5, .long x19), (0, .ref h), (1, .long w1), (3, .int v3)]) hx hb dX6_updatesP_127 hl (k := 4) rfl (by rw [hv25]; rfl) (by decide) rfl (fun ls hl => ?_)
                refine lv_goto (tgt := 10) hx hb dX6_updatesP_130 (by decide) ?_
                exact ihn6 _ _ _ _ _ _ hF hP hD hS (lv_sub hl [2, 3, 4, 0] rfl) kxn6
              refine lv_icmp_ne (tgt := 91) hx hb dX6_updatesP_77 (by decide) (fun c17 => ?_) (fun c17 => ?_)
              · have hF := ite_f hF c17
                refine lv_lload hx hb dX6_updatesP_91 (lv_at hl 0 rfl) ?_
                exact Jx19 _ _ _ _ hF hP hD hS (lv_sub hl [1, 2, 3, 4] rfl)
              · have hF := ite_t hF c17
                refine lv_lload hx hb dX6_updatesP_80 (lv_at hl 0 rfl) ?_
                refine lv_lconst (v := 1) hx hb dX6_updatesP_82 (by decide) ?_
                refine W.lcmp hx hb dX6_updatesP_83 ?_
                refine x_il_ge (tgt := 91) hx hb dX6_updatesP_84 (by decide) (fun c18 => ?_) (fun c18 => ?_)
                · have hF := ite_f hF c18
                  refine lv_lload hx hb dX6_updatesP_91 (lv_at hl 0 rfl) ?_
                  exact Jx19 _ _ _ _ hF hP hD hS (lv_sub hl [1, 2, 3, 4] rfl)
                · have hF := ite_t hF c18
                  refine lv_lconst (v := 1) hx hb dX6_updatesP_87 (by decide) ?_
                  refine lv_goto (tgt := 93) hx hb dX6_updatesP_88 (by decide) ?_
                  exact Jx19 _ _ _ _ hF hP hD hS (lv_sub hl [1, 2, 3, 4] rfl)
        refine Ln6 _ _ _ _ _ _ _ hF hP hD hS (lv_sub hl [1, 2, 3, 0] rfl) (fun x26 H locs ls hF hP hD hS hl => ?_)
        obtain ⟨v27, hv27, hF⟩ := lt_e hF
        refine lv_iinc (v := v27) (lv' := [(3, .int v27), (0, .ref h), (1, .long w1)]) hx hb dX6_updatesP_133 hl (k := 2) rfl (by rw [hv27]; rfl) (by decide) rfl (fun ls hl => ?_)
        refine lv_goto (tgt := 2) hx hb dX6_updatesP_136 (by decide) ?_
        exact ihn1 _ _ _ _ _ _ hF hP hD hS (lv_sub hl [1, 2, 0] rfl) kxn1
  refine Ln1 _ _ _ _ _ _ _ hF hP hD hS (lv_sub hl [1, 2, 0] rfl) (fun x28 H locs ls hF hP hD hS hl => ?_)
  refine lv_aload_n hx hb dX6_updatesP_139 rfl (lv_at hl 0 rfl) ?_
  refine va_get (D := (dC, dI)) (ci := 6) (v := .ref aAl) (C := RX6) (T := TX6) (N := 13) hx hb hts iX6_updatesP_X6 hown hK hP 0 rfl rfl 0 (by decide) (hts _ kX6_updatesP_1) (fun _ h9 => h9) rfl dX6_updatesP_140 ?_
  refine lv_bipush (v := 16) hx hb dX6_updatesP_143 (by decide) ?_
  refine x_lald hx hb hK hP 1 1 rfl rfl (show (16 : Int32).toNatClampNeg = 16 by decide) (inbK (k := 16) (by decide) rfl) dX6_updatesP_145 ?_
  refine lv_aload_n hx hb dX6_updatesP_146 rfl (lv_at hl 0 rfl) ?_
  refine va_get (D := (dC, dI)) (ci := 6) (v := .ref aAl) (C := RX6) (T := TX6) (N := 13) hx hb hts iX6_updatesP_X6 hown hK hP 0 rfl rfl 0 (by decide) (hts _ kX6_updatesP_1) (fun _ h9 => h9) rfl dX6_updatesP_147 ?_
  refine lv_bipush (v := 20) hx hb dX6_updatesP_150 (by decide) ?_
  refine x_lald hx hb hK hP 1 1 rfl rfl (show (20 : Int32).toNatClampNeg = 20 by decide) (inbK (k := 20) (by decide) rfl) dX6_updatesP_152 ?_
  refine lv_ladd hx hb dX6_updatesP_153 ?_
  refine lv_aload_n hx hb dX6_updatesP_154 rfl (lv_at hl 0 rfl) ?_
  refine va_get (D := (dC, dI)) (ci := 6) (v := .ref aAl) (C := RX6) (T := TX6) (N := 13) hx hb hts iX6_updatesP_X6 hown hK hP 0 rfl rfl 0 (by decide) (hts _ kX6_updatesP_1) (fun _ h9 => h9) rfl dX6_updatesP_155 ?_
  refine lv_bipush (v := 24) hx hb dX6_updatesP_158 (by decide) ?_
  refine x_lald hx hb hK hP 1 1 rfl rfl (show (24 : Int32).toNatClampNeg = 24 by decide) (inbK (k := 24) (by decide) rfl) dX6_updatesP_160 ?_
  refine lv_ladd hx hb dX6_updatesP_161 ?_
  refine lv_ldc2 (v := 163840000) hx hb hown (hts _ kX6_updatesP_7) dX6_updatesP_162 ?_
  refine W.lcmp hx hb dX6_updatesP_165 ?_
  refine x_il_le (tgt := 184) hx hb dX6_updatesP_166 (by decide) (fun c29 => ?_) (fun c29 => ?_)
  · have hF := ite_f hF c29
    obtain rfl := some_e hF
    exact W.vret hx hb hr (fun t ht hW => ⟨⟨(), rfl, trivial, ⟨by rw [ht]; exact hP, va_K.moved hW.alike hK, hD⟩⟩, hS.F ht⟩) hS.2.2 dX6_updatesP_184
  · have hF := ite_t hF c29
    refine lv_aload_n hx hb dX6_updatesP_169 rfl (lv_at hl 0 rfl) ?_
    obtain ⟨o30, ho30, hF⟩ := ob_e hF
    refine x_callv (wr := []) (ws' := [(h, .inr (6, [.ref aAl, .ref aSv, .ref aAs, .int sN, .int sTh, .ref aF, .ref aG, .ref aK, .long sS, .ref aTx, .int sTl, .int sPl, .ref aRd])), (aAl, .inl (cyJ, 76, .inr (.inl o30))), (aSv, .inl (cyJ, 304, .inr (.inl sSv))), (aAs, .inl (cyJ, 76, .inr (.inl sAs))), (aF, .inl (cyJ, 3, .inr (.inl sF))), (aG, .inl (cyJ, 3, .inr (.inl sG))), (aK, .inl (cyJ, 3, .inr (.inl sK))), (aTx, .inl (cyI, 120, .inl sTx)), (aRd, .inl (cyI, 63, .inl sRd))]) (va_runV (As := []) (rest := []) ⟨hx, hb, hml, hown, hts⟩ (c_X6_laysP l dC dI cyI cyJ cyB cyS cyD h aAl aSv aAs aF aG aK aTx aRd H.size sN sTh sS sTl sPl x28 sSv sAs sF sG sK sTx sRd ho30) (cwV 0 hts gX6_updatesP_X6_laysP rfl rfl rfl (by decide +kernel) ⟨Nat.le_of_ble_eq_true rfl, Nat.le_of_ble_eq_true rfl⟩) ⟨cPre_blind, va_recv hK hP (ci := 6) (q0 := 0) rfl rfl, x_pre hN hP hD hK [0, 1, 2, 3, 4, 5, 6, 7, 8] rfl rfl⟩ rfl rfl hl.1 rfl (lv_room (Nat.le_of_ble_eq_true rfl)) dX6_updatesP_170 ⟨Nat.le_of_ble_eq_true rfl, Nat.le_of_ble_eq_true rfl⟩) hP hD hS hA [0, 1, 2, 3, 4, 5, 6, 7, 8] [] [0, 1, 2, 3, 4, 5, 6, 7, 8] rfl rfl rfl (by decide) rfl rfl (fun H locs hP hD hS => ?_)
    refine lv_aload_n hx hb dX6_updatesP_173 rfl (lv_at hl 0 rfl) ?_
    refine va_get (D := (dC, dI)) (ci := 6) (v := .ref aAl) (C := RX6) (T := TX6) (N := 13) hx hb hts iX6_updatesP_X6 hown hK hP 0 rfl rfl 0 (by decide) (hts _ kX6_updatesP_1) (fun _ h9 => h9) rfl dX6_updatesP_174 ?_
    refine lv_bipush (v := 27) hx hb dX6_updatesP_177 (by decide) ?_
    refine lv_dup2_11 hx hb dX6_updatesP_179 rfl rfl ?_
    refine x_lald hx hb hK hP 1 1 rfl rfl (show (27 : Int32).toNatClampNeg = 27 by decide) (inbK (k := 27) (by decide) rfl) dX6_updatesP_180 ?_
    refine lv_lconst (v := 1) hx hb dX6_updatesP_181 (by decide) ?_
    refine lv_ladd hx hb dX6_updatesP_182 ?_
    obtain ⟨v31, hv31, hF⟩ := lt_e hF
    refine x_last (ws' := [(h, .inr (6, [.ref aAl, .ref aSv, .ref aAs, .int sN, .int sTh, .ref aF, .ref aG, .ref aK, .long sS, .ref aTx, .int sTl, .int sPl, .ref aRd])), (aAl, .inl (cyJ, 76, .inr (.inl v31))), (aSv, .inl (cyJ, 304, .inr (.inl sSv))), (aAs, .inl (cyJ, 76, .inr (.inl sAs))), (aF, .inl (cyJ, 3, .inr (.inl sF))), (aG, .inl (cyJ, 3, .inr (.inl sG))), (aK, .inl (cyJ, 3, .inr (.inl sK))), (aTx, .inl (cyI, 120, .inl sTx)), (aRd, .inl (cyI, 63, .inl sRd))]) hx hb hK hP hD hS 1 1 rfl rfl (show (27 : Int32).toNatClampNeg = 27 by decide) (inbK (k := 27) (by decide) rfl) hv31 rfl dX6_updatesP_183 (fun H locs hP hD hS => ?_)
    obtain rfl := some_e hF
    exact W.vret hx hb hr (fun t ht hW => ⟨⟨(), rfl, trivial, ⟨by rw [ht]; exact hP, va_K.moved hW.alike hK, hD⟩⟩, hS.F ht⟩) hS.2.2 dX6_updatesP_184
