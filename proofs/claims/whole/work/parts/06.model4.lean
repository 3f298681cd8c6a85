def F_X6_run_41 (w2 : Int32) (w1 : Int32) : Nat → ((Int64 × (Nat → Int64) × (Nat → Int64) × (Nat → Int64) × (Nat → Int64)) → Option (Int32 × Int32 × Int32 × Int64 × (Nat → Int64) × (Nat → Int64) × (Nat → Int64) × (Nat → Int64) × (Nat → Int64))) → Int32 → Int64 → (Nat → Int64) → (Nat → Int64) → (Nat → Int64) → (Nat → Int64) → Option (Int32 × Int32 × Int32 × Int64 × (Nat → Int64) × (Nat → Int64) × (Nat → Int64) × (Nat → Int64) × (Nat → Int64))
  | 0, _, _, _, _, _, _, _ => none
  | n10 + 1, K11, v12, v13, v14, v15, v16, v17 => if (w2 : Int32) ≤ v12 then (K11 (v13, v14, v15, v16, v17)) else (ob (F_X6_stepsClosed v13 v14 v15 v16 v17 w1.toInt64) (fun o19 => lt_ (α := Int32) (v12 + 1) (fun v20 => F_X6_run_41 w2 w1 n10 K11 v20 o19.1 o19.2.1 o19.2.2.1 o19.2.2.2.1 o19.2.2.2.2)))
def F_X6_run (sN : Int32) (sS : Int64) (sAl : Nat → Int64) (sSv : Nat → Int64) (sF : Nat → Int64) (sG : Nat → Int64) (sK : Nat → Int64) (w1 : Int32) (w2 : Int32) : Option (Int32 × Int32 × Int32 × Int64 × (Nat → Int64) × (Nat → Int64) × (Nat → Int64) × (Nat → Int64) × (Nat → Int64)) := ob (F_X6_isSignal w1.toInt64) (fun o1 => rg (α := Int32) (fun K6 => if (o1 : Int32) = 0 then (K6 0) else (ob (F_X6_in w2.toInt64 0 500) (fun o3 => if (o3 : Int32) = 0 then (K6 0) else (K6 1)))) (fun x5 => ob (F_X6_goes x5 1) (fun o7 => if (o7.1 : Int32) = 0 then (some (0, sN, o7.2, sS, sAl, sSv, sF, sG, sK)) else (ob (F_X6_save sN sAl sSv) (fun o9 => F_X6_run_41 w2 w1 1000 (fun x21 => some ((x21.2.1 35).toInt32, o9.1, o7.2, x21.1, x21.2.1, o9.2, x21.2.2.1, x21.2.2.2.1, x21.2.2.2.2)) 0 sS sAl sF sG sK)))))
theorem kX6_run_1 : (Cond.constantLong RX6 41 (500)) ∈ wsX6_run := List.mem_of_getElem? (i := 1) rfl
theorem kX6_run_2 : (Cond.fieldLink RX6 7 "SelfTunerModel" "all" "[J") ∈ wsX6_run := List.mem_of_getElem? (i := 2) rfl
theorem iX6_run_X6 : ∀ w ∈ wsX60, w ∈ wsX6_run := fun w h => List.mem_cons_of_mem _ (List.mem_append_right _ h)
set_option maxHeartbeats 4000000 in
set_option maxRecDepth 100000 in
theorem c_X6_run (l : Launch) (dC : Nat → ClassId) (dI : Nat → Nat → Nat) (cyI cyJ cyB cyS cyD : ClassId) (h : Nat) (aAl : Nat) (aSv : Nat) (aAs : Nat) (aF : Nat) (aG : Nat) (aK : Nat) (aTx : Nat) (aRd : Nat) (sz : Nat) (sN : Int32) (sTh : Int32) (sS : Int64) (sTl : Int32) (sPl : Int32) (sAl : Nat → Int64) (sSv : Nat → Int64) (sAs : Nat → Int64) (sF : Nat → Int64) (sG : Nat → Int64) (sK : Nat → Int64) (sTx : Nat → Int32) (sRd : Nat → Int32) (w1 : Int32) (w2 : Int32) {out : Int32 × Int32 × Int32 × Int64 × (Nat → Int64) × (Nat → Int64) × (Nat → Int64) × (Nat → Int64) × (Nat → Int64)} (hF : F_X6_run sN sS sAl sSv sF sG sK w1 w2 = some out) : Mi l yX6_run wsX6_run ({ frames := 5, cells := 0, slots := 0, locals := 136 } : Room) (dC, dI) [(cyI, .int), (cyJ, .long), (cyB, .byte), (cyS, .object "SelfTuner$State"), (cyD, .double)] sz [.ref h, .int w1, .int w2] [(h, .inr (6, [.ref aAl, .ref aSv, .ref aAs, .int sN, .int sTh, .ref aF, .ref aG, .ref aK, .long sS, .ref aTx, .int sTl, .int sPl, .ref aRd])), (aAl, .inl (cyJ, 76, .inr (.inl sAl))), (aSv, .inl (cyJ, 304, .inr (.inl sSv))), (aAs, .inl (cyJ, 76, .inr (.inl sAs))), (aF, .inl (cyJ, 3, .inr (.inl sF))), (aG, .inl (cyJ, 3, .inr (.inl sG))), (aK, .inl (cyJ, 3, .inr (.inl sK))), (aTx, .inl (cyI, 120, .inl sTx)), (aRd, .inl (cyI, 63, .inl sRd))] out.1 [(h, .inr (6, [.ref aAl, .ref aSv, .ref aAs, .int out.2.1, .int out.2.2.1, .ref aF, .ref aG, .ref aK, .long out.2.2.2.1, .ref aTx, .int sTl, .int sPl, .ref aRd])), (aAl, .inl (cyJ, 76, .inr (.inl out.2.2.2.2.1))), (aSv, .inl (cyJ, 304, .inr (.inl out.2.2.2.2.2.1))), (aAs, .inl (cyJ, 76, .inr (.inl sAs))), (aF, .inl (cyJ, 3, .inr (.inl out.2.2.2.2.2.2.1))), (aG, .inl (cyJ, 3, .inr (.inl out.2.2.2.2.2.2.2.1))), (aK, .inl (cyJ, 3, .inr (.inl out.2.2.2.2.2.2.2.2))), (aTx, .inl (cyI, 120, .inl sTx)), (aRd, .inl (cyI, 63, .inl sRd))] := by
  refine Met.ofW (cc := cX6_run) (maxL := 4) (ret := (some .int)) (by decide) rfl ?_
  intro p e s m args below meth c s₁ B hml hv
  obtain ⟨rfl, hN, hsz, hP, hK, hD0⟩ := hv
  have hx := B.exec
  have hb := B.bytes
  have hr := B.returns
  have hts := atoms_spec (ws := wsX6_run) B.pre
  have hown : s.vm.findClass RX6 = some m.cls := findClass_of_methodNamed B.named
  have hlocks := B.notSynchronized
  subst hsz
  have hD := hD0.self (sz := s.heap.size)
  generalize hAe : va_A [(h, .inr (6, [.ref aAl, .ref aSv, .ref aAs, .int sN, .int sTh, .ref aF, .ref aG, .ref aK, .long sS, .ref aTx, .int sTl, .int sPl, .ref aRd])), (aAl, .inl (cyJ, 76, .inr (.inl sAl))), (aSv, .inl (cyJ, 304, .inr (.inl sSv))), (aAs, .inl (cyJ, 76, .inr (.inl sAs))), (aF, .inl (cyJ, 3, .inr (.inl sF))), (aG, .inl (cyJ, 3, .inr (.inl sG))), (aK, .inl (cyJ, 3, .inr (.inl sK))), (aTx, .inl (cyI, 120, .inl sTx)), (aRd, .inl (cyI, 63, .inl sRd))] s.heap.size = A at hD ⊢
  have hA : ∀ q : Nat, s.heap.size ≤ q → A q := fun q h => by rw [← hAe]; exact Or.inr h
  have hS : va_S A s.heap s.heap [] := va_S.rf
  have hP : va_P (dC, dI) vwCl [(h, .inr (6, [.ref aAl, .ref aSv, .ref aAs, .int sN, .int sTh, .ref aF, .ref aG, .ref aK, .long sS, .ref aTx, .int sTl, .int sPl, .ref aRd])), (aAl, .inl (cyJ, 76, .inr (.inl sAl))), (aSv, .inl (cyJ, 304, .inr (.inl sSv))), (aAs, .inl (cyJ, 76, .inr (.inl sAs))), (aF, .inl (cyJ, 3, .inr (.inl sF))), (aG, .inl (cyJ, 3, .inr (.inl sG))), (aK, .inl (cyJ, 3, .inr (.inl sK))), (aTx, .inl (cyI, 120, .inl sTx)), (aRd, .inl (cyI, 63, .inl sRd))] s.heap := hP
  have hl := lv_entry ([.ref h, .int w1, .int w2]) (n := 4) (Nat.le_of_ble_eq_true rfl)
  rw [lg_entry_eq]
  generalize (lg_sl ([.ref h, .int w1, .int w2]) ++ List.replicate (4 - (lg_sl ([.ref h, .int w1, .int w2])).length) Slot.unset).toArray = ls at hl ⊢
  have hl : lv_has ls 4 [(0, .ref h), (1, .int w1), (2, .int w2)] := hl
  unfold F_X6_run at hF
  refine lv_aload_n hx hb dX6_run_0 rfl (lv_at hl 0 rfl) ?_
  refine lv_iload_n hx hb dX6_run_1 rfl (lv_at hl 1 rfl) ?_
  refine lv_i2l (v := w1.toInt64) hx hb dX6_run_2 rfl ?_
  obtain ⟨o1, ho1, hF⟩ := ob_e hF
  refine x_callzi (va_runS (As := [.long w1.toInt64]) (rest := [.ref h]) ⟨hx, hb, hml, hown, hts⟩ (c_X6_isSignal l w1.toInt64 ho1) (va_cwS 1 hts gX6_run_X6_isSignal rfl rfl rfl (by decide +kernel) ⟨Nat.le_of_ble_eq_true rfl, Nat.le_of_ble_eq_true rfl⟩) ⟨true_blind, fun _ _ _ => ⟨rfl, trivial⟩⟩ rfl rfl hl.1 rfl (lv_room (Nat.le_of_ble_eq_true rfl)) dX6_run_3 ⟨Nat.le_of_ble_eq_true rfl, Nat.le_of_ble_eq_true rfl⟩) ?_
  obtain ⟨K6, hK6, hF⟩ := rg_e hF
  have Jx5 : ∀ (x5 : Int32) (H : Heap) (locs : List Loc) (ls : Array Slot), K6 x5 = some out → va_P (dC, dI) vwCl [(h, .inr (6, [.ref aAl, .ref aSv, .ref aAs, .int sN, .int sTh, .ref aF, .ref aG, .ref aK, .long sS, .ref aTx, .int sTl, .int sPl, .ref aRd])), (aAl, .inl (cyJ, 76, .inr (.inl sAl))), (aSv, .inl (cyJ, 304, .inr (.inl sSv))), (aAs, .inl (cyJ, 76, .inr (.inl sAs))), (aF, .inl (cyJ, 3, .inr (.inl sF))), (aG, .inl (cyJ, 3, .inr (.inl sG))), (aK, .inl (cyJ, 3, .inr (.inl sK))), (aTx, .inl (cyI, 120, .inl sTx)), (aRd, .inl (cyI, 63, .inl sRd))] H → va_D A [(h, .inr (6, [.ref aAl, .ref aSv, .ref aAs, .int sN, .int sTh, .ref aF, .ref aG, .ref aK, .long sS, .ref aTx, .int sTl, .int sPl, .ref aRd])), (aAl, .inl (cyJ, 76, .inr (.inl sAl))), (aSv, .inl (cyJ, 304, .inr (.inl sSv))), (aAs, .inl (cyJ, 76, .inr (.inl sAs))), (aF, .inl (cyJ, 3, .inr (.inl sF))), (aG, .inl (cyJ, 3, .inr (.inl sG))), (aK, .inl (cyJ, 3, .inr (.inl sK))), (aTx, .inl (cyI, 120, .inl sTx)), (aRd, .inl (cyI, 63, .inl sRd))] → va_S A s.heap H locs → lv_has ls 4 [(0, .ref h), (1, .int w1), (2, .int w2)] → W p l e (headSpec wsX6_run ({ frames := 5, cells := 0, slots := 0, locals := 136 } : Room)).room s m ([.ref h, .int w1, .int w2] : List Value).toArray below meth c H locs 0 0 (MQ below (va_Qi (fun (r' : Int32) (_ : Unit) => r' = out.1) (cPost (dC, dI) [(cyI, .int), (cyJ, .long), (cyB, .byte), (cyS, .object "SelfTuner$State"), (cyD, .double)] [(h, .inr (6, [.ref aAl, .ref aSv, .ref aAs, .int out.2.1, .int out.2.2.1, .ref aF, .ref aG, .ref aK, .long out.2.2.2.1, .ref aTx, .int sTl, .int sPl, .ref aRd])), (aAl, .inl (cyJ, 76, .inr (.inl out.2.2.2.2.1))), (aSv, .inl (cyJ, 304, .inr (.inl out.2.2.2.2.2.1))), (aAs, .inl (cyJ, 76, .inr (.inl sAs))), (aF, .inl (cyJ, 3, .inr (.inl out.2.2.2.2.2.2.1))), (aG, .inl (cyJ, 3, .inr (.inl out.2.2.2.2.2.2.2.1))), (aK, .inl (cyJ, 3, .inr (.inl out.2.2.2.2.2.2.2.2))), (aTx, .inl (cyI, 120, .inl sTx)), (aRd, .inl (cyI, 63, .inl sRd))] A) A) ([.ref h, .int w1, .int w2] : List Value).toArray s 0 0 A) (F0 m 26 ls [.int x5, .ref h]) := by
    intro x5 H locs ls hF hP hD hS hl
    rw [hK6] at hF
    refine lv_iconst (v := 1) hx hb dX6_run_26 (by decide) ?_
    obtain ⟨o7, ho7, hF⟩ := ob_e hF
    refine x_calli (wr := []) (ws' := [(h, .inr (6, [.ref aAl, .ref aSv, .ref aAs, .int sN, .int o7.2, .ref aF, .ref aG, .ref aK, .long sS, .ref aTx, .int sTl, .int sPl, .ref aRd])), (aAl, .inl (cyJ, 76, .inr (.inl sAl))), (aSv, .inl (cyJ, 304, .inr (.inl sSv))), (aAs, .inl (cyJ, 76, .inr (.inl sAs))), (aF, .inl (cyJ, 3, .inr (.inl sF))), (aG, .inl (cyJ, 3, .inr (.inl sG))), (aK, .inl (cyJ, 3, .inr (.inl sK))), (aTx, .inl (cyI, 120, .inl sTx)), (aRd, .inl (cyI, 63, .inl sRd))]) (va_runV (As := [.int x5, .int 1]) (rest := []) ⟨hx, hb, hml, hown, hts⟩ (c_X6_goes l dC dI cyI cyJ cyB cyS cyD h aAl aSv aAs aF aG aK aTx aRd H.size sN sTh sS sTl sPl sAl sSv sAs sF sG sK sTx sRd x5 1 ho7) (cwV 2 hts gX6_run_X6_goes rfl rfl rfl (by decide +kernel) ⟨Nat.le_of_ble_eq_true rfl, Nat.le_of_ble_eq_true rfl⟩) ⟨cPre_blind, va_recv hK hP (ci := 6) (q0 := 0) rfl rfl, x_pre hN hP hD hK [0, 1, 2, 3, 4, 5, 6, 7, 8] rfl rfl⟩ rfl rfl hl.1 rfl (lv_room (Nat.le_of_ble_eq_true rfl)) dX6_run_27 ⟨Nat.le_of_ble_eq_true rfl, Nat.le_of_ble_eq_true rfl⟩) hP hD hS hA [0, 1, 2, 3, 4, 5, 6, 7, 8] [] [0, 1, 2, 3, 4, 5, 6, 7, 8] rfl rfl rfl (by decide) rfl rfl (fun H locs hP hD hS => ?_)
    refine lv_if_ne (tgt := 35) hx hb dX6_run_30 (by decide) (fun c8 => ?_) (fun c8 => ?_)
    · have hF := ite_f hF c8
      refine lv_aload_n hx hb dX6_run_35 rfl (lv_at hl 0 rfl) ?_
      obtain ⟨o9, ho9, hF⟩ := ob_e hF
      refine x_callv (wr := []) (ws' := [(h, .inr (6, [.ref aAl, .ref aSv, .ref aAs, .int o9.1, .int o7.2, .ref aF, .ref aG, .ref aK, .long sS, .ref aTx, .int sTl, .int sPl, .ref aRd])), (aAl, .inl (cyJ, 76, .inr (.inl sAl))), (aSv, .inl (cyJ, 304, .inr (.inl o9.2))), (aAs, .inl (cyJ, 76, .inr (.inl sAs))), (aF, .inl (cyJ, 3, .inr (.inl sF))), (aG, .inl (cyJ, 3, .inr (.inl sG))), (aK, .inl (cyJ, 3, .inr (.inl sK))), (aTx, .inl (cyI, 120, .inl sTx)), (aRd, .inl (cyI, 63, .inl sRd))]) (va_runV (As := []) (rest := []) ⟨hx, hb, hml, hown, hts⟩ (c_X6_save l dC dI cyI cyJ cyB cyS cyD h aAl aSv aAs aF aG aK aTx aRd H.size sN o7.2 sS sTl sPl sAl sSv sAs sF sG sK sTx sRd ho9) (cwV 0 hts gX6_run_X6_save rfl rfl rfl (by decide +kernel) ⟨Nat.le_of_ble_eq_true rfl, Nat.le_of_ble_eq_true rfl⟩) ⟨cPre_blind, va_recv hK hP (ci := 6) (q0 := 0) rfl rfl, x_pre hN hP hD hK [0, 1, 2, 3, 4, 5, 6, 7, 8] rfl rfl⟩ rfl rfl hl.1 rfl (lv_room (Nat.le_of_ble_eq_true rfl)) dX6_run_36 ⟨Nat.le_of_ble_eq_true rfl, Nat.le_of_ble_eq_true rfl⟩) hP hD hS hA [0, 1, 2, 3, 4, 5, 6, 7, 8] [] [0, 1, 2, 3, 4, 5, 6, 7, 8] rfl rfl rfl (by decide) rfl rfl (fun H locs hP hD hS => ?_)
      refine lv_iconst (v := 0) hx hb dX6_run_39 (by decide) ?_
      refine lv_istore_n (lv' := [(3, .int 0), (0, .ref h), (1, .int w1), (2, .int w2)]) hx hb dX6_run_40 rfl hl (by decide) rfl (fun ls hl => ?_)
      have Ln10 : ∀ (n10 : Nat) (K11 : (Int64 × (Nat → Int64) × (Nat → Int64) × (Nat → Int64) × (Nat → Int64)) → Option (Int32 × Int32 × Int32 × Int64 × (Nat → Int64) × (Nat → Int64) × (Nat → Int64) × (Nat → Int64) × (Nat → Int64))) (v12 : Int32) (v13 : Int64) (v14 : Nat → Int64) (v15 : Nat → Int64) (v16 : Nat → Int64) (v17 : Nat → Int64) (H : Heap) (locs : List Loc) (ls : Array Slot), F_X6_run_41 w2 w1 n10 K11 v12 v13 v14 v15 v16 v17 = some out → va_P (dC, dI) vwCl [(h, .inr (6, [.ref aAl, .ref aSv, .ref aAs, .int o9.1, .int o7.2, .ref aF, .ref aG, .ref aK, .long v13, .ref aTx, .int sTl, .int sPl, .ref aRd])), (aAl, .inl (cyJ, 76, .inr (.inl v14))), (aSv, .inl (cyJ, 304, .inr (.inl o9.2))), (aAs, .inl (cyJ, 76, .inr (.inl sAs))), (aF, .inl (cyJ, 3, .inr (.inl v15))), (aG, .inl (cyJ, 3, .inr (.inl v16))), (aK, .inl (cyJ, 3, .inr (.inl v17))), (aTx, .inl (cyI, 120, .inl sTx)), (aRd, .inl (cyI, 63, .inl sRd))] H → va_D A [(h, .inr (6, [.ref aAl, .ref aSv, .ref aAs, .int o9.1, .int o7.2, .ref aF, .ref aG, .ref aK, .long v13, .ref aTx, .int sTl, .int sPl, .ref aRd])), (aAl, .inl (cyJ, 76, .inr (.inl v14))), (aSv, .inl (cyJ, 304, .inr (.inl o9.2))), (aAs, .inl (cyJ, 76, .inr (.inl sAs))), (aF, .inl (cyJ, 3, .inr (.inl v15))), (aG, .inl (cyJ, 3, .inr (.inl v16))), (aK, .inl (cyJ, 3, .inr (.inl v17))), (aTx, .inl (cyI, 120, .inl sTx)), (aRd, .inl (cyI, 63, .inl sRd))] → va_S A s.heap H locs → lv_has ls 4 [(0, .ref h), (1, .int w1), (2, .int w2), (3, .int v12)] → (∀ (x21 : Int64 × (Nat → Int64) × (Nat → Int64) × (Nat → Int64) × (Nat → Int64)) (H : Heap) (locs : List Loc) (ls : Array Slot), K11 x21 = some out → va_P (dC, dI) vwCl [(h, .inr (6, [.ref aAl, .ref aSv, .ref aAs, .int o9.1, .int o7.2, .ref aF, .ref aG, .ref aK, .long x21.1, .ref aTx, .int sTl, .int sPl, .ref aRd])), (aAl, .inl (cyJ, 76, .inr (.inl x21.2.1))), (aSv, .inl (cyJ, 304, .inr (.inl o9.2))), (aAs, .inl (cyJ, 76, .inr (.inl sAs))), (aF, .inl (cyJ, 3, .inr (.inl x21.2.2.1))), (aG, .inl (cyJ, 3, .inr (.inl x21.2.2.2.1))), (aK, .inl (cyJ, 3, .inr (.inl x21.2.2.2.2))), (aTx, .inl (cyI, 120, .inl sTx)), (aRd, .inl (cyI, 63, .inl sRd))] H → va_D A [(h, .inr (6, [.ref aAl, .ref aSv, .ref aAs, .int o9.1, .int o7.2, .ref aF, .ref aG, .ref aK, .long x21.1, .ref aTx, .int sTl, .int sPl, .ref aRd])), (aAl, .inl (cyJ, 76, .inr (.inl x21.2.1))), (aSv, .inl (cyJ, 304, .inr (.inl o9.2))), (aAs, .inl (cyJ, 76, .inr (.inl sAs))), (aF, .inl (cyJ, 3, .inr (.inl x21.2.2.1))), (aG, .inl (cyJ, 3, .inr (.inl x21.2.2.2.1))), (aK, .inl (cyJ, 3, .inr (.inl x21.2.2.2.2))), (aTx, .inl (cyI, 120, .inl sTx)), (aRd, .inl (cyI, 63, .inl sRd))] → va_S A s.heap H locs → lv_has ls 4 [(0, .ref h)] → W p l e (headSpec wsX6_run ({ frames := 5, cells := 0, slots := 0, locals := 136 } : Room)).room s m ([.ref h, .int w1, .int w2] : List Value).toArray below meth c H locs 0 0 (MQ below (va_Qi (fun (r' : Int32) (_ : Unit) => r' = out.1) (cPost (dC, dI) [(cyI, .int), (cyJ, .long), (cyB, .byte), (cyS, .object "SelfTuner$State"), (cyD, .double)] [(h, .inr (6, [.ref aAl, .ref aSv, .ref aAs, .int out.2.1, .int out.2.2.1, .ref aF, .ref aG, .ref aK, .long out.2.2.2.1, .ref aTx, .int sTl, .int sPl, .ref aRd])), (aAl, .inl (cyJ, 76, .inr (.inl out.2.2.2.2.1))), (aSv, .inl (cyJ, 304, .inr (.inl out.2.2.2.2.2.1))), (aAs, .inl (cyJ, 76, .inr (.inl sAs))), (aF, .inl (cyJ, 3, .inr (.inl out.2.2.2.2.2.2.1))), (aG, .inl (cyJ, 3, .inr (.inl out.2.2.2.2.2.2.2.1))), (aK, .inl (cyJ, 3, .inr (.inl out.2.2.2.2.2.2.2.2))), (aTx, .inl (cyI, 120, .inl sTx)), (aRd, .inl (cyI, 63, .inl sRd))] A) A) ([.ref h, .int w1, .int w2] : List Value).toArray s 0 0 A) (F0 m 58 ls [])) → W p l e (headSpec wsX6_run ({ frames := 5, cells := 0, slots := 0, locals := 136 } : Room)).room s m ([.ref h, .int w1, .int w2] : List Value).toArray below meth c H locs 0 0 (MQ below (va_Qi (fun (r' : Int32) (_ : Unit) => r' = out.1) (cPost (dC, dI) [(cyI, .int), (cyJ, .long), (cyB, .byte), (cyS, .object "SelfTuner$State"), (cyD, .double)] [(h, .inr (6, [.ref aAl, .ref aSv, .ref aAs, .int out.2.1, .int out.2.2.1, .ref aF, .ref aG, .ref aK, .long out.2.2.2.1, .ref aTx, .int sTl, .int sPl, .ref aRd])), (aAl, .inl (cyJ, 76, .inr (.inl out.2.2.2.2.1))), (aSv, .inl (cyJ, 304, .inr (.inl out.2.2.2.2.2.1))), (aAs, .inl (cyJ, 76, .inr (.inl sAs))), (aF, .inl (cyJ, 3, .inr (.inl out.2.2.2.2.2.2.1))), (aG, .inl (cyJ, 3, .inr (.inl out.2.2.2.2.2.2.2.1))), (aK, .inl (cyJ, 3, .inr (.inl out.2.2.2.2.2.2.2.2))), (aTx, .inl (cyI, 120, .inl sTx)), (aRd, .inl (cyI, 63, .inl sRd))] A) A) ([.ref h, .int w1, .int w2] : List Value).toArray s 0 0 A) (F0 m 41 ls []) := by
        intro n10
        induction n10 with
        | zero => intro K11 v12 v13 v14 v15 v16 v17 H locs ls hF; exact no_e (show none = some out from hF)
        | succ n10 ihn10 =>
          intro K11 v12 v13 v14 v15 v16 v17 H locs ls hF hP hD hS hl kxn10
          rw [F_X6_run_41] at hF
          refine lv_iload_n hx hb dX6_run_41 rfl (lv_at hl 3 rfl) ?_
          refine lv_iload_n hx hb dX6_run_42 rfl (lv_at hl 2 rfl) ?_
          refine lv_icmp_ge (tgt := 58) hx hb dX6_run_43 (by decide) (fun c18 => ?_) (fun c18 => ?_)
          · have hF := ite_t hF c18
            exact kxn10 _ _ _ _ hF hP hD hS (lv_sub hl [0] rfl)
          · have hF := ite_f hF c18
            refine lv_aload_n hx hb dX6_run_46 rfl (lv_at hl 0 rfl) ?_
            refine lv_iload_n hx hb dX6_run_47 rfl (lv_at hl 1 rfl) ?_
            refine lv_i2l (v := w1.toInt64) hx hb dX6_run_48 rfl ?_
            obtain ⟨o19, ho19, hF⟩ := ob_e hF
            refine x_callv (wr := []) (ws' := [(h, .inr (6, [.ref aAl, .ref aSv, .ref aAs, .int o9.1, .int o7.2, .ref aF, .ref aG, .ref aK, .long o19.1, .ref aTx, .int sTl, .int sPl, .ref aRd])), (aAl, .inl (cyJ, 76, .inr (.inl o19.2.1))), (aSv, .inl (cyJ, 304, .inr (.inl o9.2))), (aAs, .inl (cyJ, 76, .inr (.inl sAs))), (aF, .inl (cyJ, 3, .inr (.inl o19.2.2.1))), (aG, .inl (cyJ, 3, .inr (.inl o19.2.2.2.1))), (aK, .inl (cyJ, 3, .inr (.inl o19.2.2.2.2))), (aTx, .inl (cyI, 120, .inl sTx)), (aRd, .inl (cyI, 63, .inl sRd))]) (va_runV (As := [.long w1.toInt64]) (rest := []) ⟨hx, hb, hml, hown, hts⟩ (c_X6_stepsClosed l dC dI cyI cyJ cyB cyS cyD h aAl aSv aAs aF aG aK aTx aRd H.size o9.1 o7.2 v13 sTl sPl v14 o9.2 sAs v15 v16 v17 sTx sRd w1.toInt64 ho19) (cwV 1 hts gX6_run_X6_stepsClosed rfl rfl rfl (by decide +kernel) ⟨Nat.le_of_ble_eq_true rfl, Nat.le_of_ble_eq_true rfl⟩) ⟨cPre_blind, va_recv hK hP (ci := 6) (q0 := 0) rfl rfl, x_pre hN hP hD hK [0, 1, 2, 3, 4, 5, 6, 7, 8] rfl rfl⟩ rfl rfl hl.1 rfl (lv_room (Nat.le_of_ble_eq_true rfl)) dX6_run_49 ⟨Nat.le_of_ble_eq_true rfl, Nat.le_of_ble_eq_true rfl⟩) hP hD hS hA [0, 1, 2, 3, 4, 5, 6, 7, 8] [] [0, 1, 2, 3, 4, 5, 6, 7, 8] rfl rfl rfl (by decide) rfl rfl (fun H locs hP hD hS => ?_)
            obtain ⟨v20, hv20, hF⟩ := lt_e hF
            refine lv_iinc (v := v20) (lv' := [(3, .int v20), (0, .ref h), (1, .int w1), (2, .int w2)]) hx hb dX6_run_52 hl (k := 3) rfl (by rw [hv20]; rfl) (by decide) rfl (fun ls hl => ?_)
            refine lv_goto (tgt := 41) hx hb dX6_run_55 (by decide) ?_
            exact ihn10 _ _ _ _ _ _ _ _ _ _ hF hP hD hS (lv_sub hl [1, 2, 3, 0] rfl) kxn10
      refine Ln10 _ _ _ _ _ _ _ _ _ _ _ hF hP hD hS (lv_sub hl [1, 2, 3, 0] rfl) (fun x21 H locs ls hF hP hD hS hl => ?_)
      refine lv_aload_n hx hb dX6_run_58 rfl (lv_at hl 0 rfl) ?_
      refine va_get (D := (dC, dI)) (ci := 6) (v := .ref aAl) (C := RX6) (T := TX6) (N := 13) hx hb hts iX6_run_X6 hown hK hP 0 rfl rfl 0 (by decide) (hts _ kX6_run_2) (fun _ h9 => h9) rfl dX6_run_59 ?_
      refine lv_bipush (v := 35) hx hb dX6_run_62 (by decide) ?_
      refine x_lald hx hb hK hP 1 1 rfl rfl (show (35 : Int32).toNatClampNeg = 35 by decide) (inbK (k := 35) (by decide) rfl) dX6_run_64 ?_
      refine lv_l2i (v := (x21.2.1 35).toInt32) hx hb dX6_run_65 rfl ?_
      obtain rfl := some_e hF
      exact W.iret (v := (x21.2.1 35).toInt32) hx hb hr (fun t ht hW => ⟨⟨(x21.2.1 35).toInt32, (), rfl, rfl, ⟨by rw [ht]; exact hP, va_K.moved hW.alike hK, hD⟩⟩, hS.F ht⟩) hS.2.2 dX6_run_66
    · have hF := ite_t hF c8
      refine lv_iconst (v := 0) hx hb dX6_run_33 (by decide) ?_
      obtain rfl := some_e hF
      exact W.iret (v := 0) hx hb hr (fun t ht hW => ⟨⟨0, (), rfl, rfl, ⟨by rw [ht]; exact hP, va_K.moved hW.alike hK, hD⟩⟩, hS.F ht⟩) hS.2.2 dX6_run_34
  refine lv_if_eq (tgt := 25) hx hb dX6_run_6 (by decide) (fun c2 => ?_) (fun c2 => ?_)
  · have hF := ite_t hF c2
    refine lv_iconst (v := 0) hx hb dX6_run_25 (by decide) ?_
    exact Jx5 _ _ _ _ hF hP hD hS (lv_sub hl [0, 1, 2] rfl)
  · have hF := ite_f hF c2
    refine lv_iload_n hx hb dX6_run_9 rfl (lv_at hl 2 rfl) ?_
    refine lv_i2l (v := w2.toInt64) hx hb dX6_run_10 rfl ?_
    refine lv_lconst (v := 0) hx hb dX6_run_11 (by decide) ?_
    refine lv_ldc2 (v := 500) hx hb hown (hts _ kX6_run_1) dX6_run_12 ?_
    obtain ⟨o3, ho3, hF⟩ := ob_e hF
    refine x_callzi (va_runS (As := [.long w2.toInt64, .long 0, .long 500]) (rest := [.ref h]) ⟨hx, hb, hml, hown, hts⟩ (c_X6_in l w2.toInt64 0 500 ho3) (va_cwS 3 hts gX6_run_X6_in rfl rfl rfl (by decide +kernel) ⟨Nat.le_of_ble_eq_true rfl, Nat.le_of_ble_eq_true rfl⟩) ⟨true_blind, fun _ _ _ => ⟨rfl, trivial⟩⟩ rfl rfl hl.1 rfl (lv_room (Nat.le_of_ble_eq_true rfl)) dX6_run_15 ⟨Nat.le_of_ble_eq_true rfl, Nat.le_of_ble_eq_true rfl⟩) ?_
    refine lv_if_eq (tgt := 25) hx hb dX6_run_18 (by decide) (fun c4 => ?_) (fun c4 => ?_)
    · have hF := ite_t hF c4
      refine lv_iconst (v := 0) hx hb dX6_run_25 (by decide) ?_
      exact Jx5 _ _ _ _ hF hP hD hS (lv_sub hl [0, 1, 2] rfl)
    · have hF := ite_f hF c4
      refine lv_iconst (v := 1) hx hb dX6_run_21 (by decide) ?_
      refine lv_goto (tgt := 26) hx hb dX6_run_22 (by decide) ?_
      exact Jx5 _ _ _ _ hF hP hD hS (lv_sub hl [0, 1, 2] rfl)
def F_X6_drive_41 (w2 : Int32) (w1 : Int32) : Nat → ((Int64 × (Nat → Int64) × (Nat → Int64) × (Nat → Int64) × (Nat → Int64)) → Option (Int32 × Int32 × Int32 × Int64 × (Nat → Int64) × (Nat → Int64) × (Nat → Int64) × (Nat → Int64) × (Nat → Int64))) → Int32 → Int64 → (Nat → Int64) → (Nat → Int64) → (Nat → Int64) → (Nat → Int64) → Option (Int32 × Int32 × Int32 × Int64 × (Nat → Int64) × (Nat → Int64) × (Nat → Int64) × (Nat → Int64) × (Nat → Int64))
  | 0, _, _, _, _, _, _, _ => none
  | n10 + 1, K11, v12, v13, v14, v15, v16, v17 => if (w2 : Int32) ≤ v12 then (K11 (v13, v14, v15, v16, v17)) else (ob (F_X6_steps v13 v14 v15 v16 v17 w1.toInt64) (fun o19 => lt_ (α := Int32) (v12 + 1) (fun v20 => F_X6_drive_41 w2 w1 n10 K11 v20 o19.1 o19.2.1 o19.2.2.1 o19.2.2.2.1 o19.2.2.2.2)))
def F_X6_drive (sN : Int32) (sS : Int64) (sAl : Nat → Int64) (sSv : Nat → Int64) (sF : Nat → Int64) (sG : Nat → Int64) (sK : Nat → Int64) (w1 : Int32) (w2 : Int32) : Option (Int32 × Int32 × Int32 × Int64 × (Nat → Int64) × (Nat → Int64) × (Nat → Int64) × (Nat → Int64) × (Nat → Int64)) := ob (F_X6_isSignal w1.toInt64) (fun o1 => rg (α := Int32) (fun K6 => if (o1 : Int32) = 0 then (K6 0) else (ob (F_X6_in w2.toInt64 0 500) (fun o3 => if (o3 : Int32) = 0 then (K6 0) else (K6 1)))) (fun x5 => ob (F_X6_goes x5 1) (fun o7 => if (o7.1 : Int32) = 0 then (some (0, sN, o7.2, sS, sAl, sSv, sF, sG, sK)) else (ob (F_X6_save sN sAl sSv) (fun o9 => F_X6_drive_41 w2 w1 1000 (fun x21 => some ((x21.2.1 35).toInt32, o9.1, o7.2, x21.1, x21.2.1, o9.2, x21.2.2.1, x21.2.2.2.1, x21.2.2.2.2)) 0 sS sAl sF sG sK)))))
theorem kX6_drive_1 : (Cond.constantLong RX6 41 (500)) ∈ wsX6_drive := List.mem_of_getElem? (i := 1) rfl
theorem kX6_drive_2 : (Cond.fieldLink RX6 7 "SelfTunerModel" "all" "[J") ∈ wsX6_drive := List.mem_of_getElem? (i := 2) rfl
theorem iX6_drive_X6 : ∀ w ∈ wsX60, w ∈ wsX6_drive := fun w h => List.mem_cons_of_mem _ (List.mem_append_right _ h)
set_option maxHeartbeats 4000000 in
set_option maxRecDepth 100000 in
theorem c_X6_drive (l : Launch) (dC : Nat → ClassId) (dI : Nat → Nat → Nat) (cyI cyJ cyB cyS cyD : ClassId) (h : Nat) (aAl : Nat) (aSv : Nat) (aAs : Nat) (aF : Nat) (aG : Nat) (aK : Nat) (aTx : Nat) (aRd : Nat) (sz : Nat) (sN : Int32) (sTh : Int32) (sS : Int64) (sTl : Int32) (sPl : Int32) (sAl : Nat → Int64) (sSv : Nat → Int64) (sAs : Nat → Int64) (sF : Nat → Int64) (sG : Nat → Int64) (sK : Nat → Int64) (sTx : Nat → Int32) (sRd : Nat → Int32) (w1 : Int32) (w2 : Int32) {out : Int32 × Int32 × Int32 × Int64 × (Nat → Int64) × (Nat → Int64) × (Nat → Int64) × (Nat → Int64) × (Nat → Int64)} (hF : F_X6_drive sN sS sAl sSv sF sG sK w1 w2 = some out) : Mi l yX6_drive wsX6_drive ({ frames := 4, cells := 0, slots := 0, locals := 114 } : Room) (dC, dI) [(cyI, .int), (cyJ, .long), (cyB, .byte), (cyS, .object "SelfTuner$State"), (cyD, .double)] sz [.ref h, .int w1, .int w2] [(h, .inr (6, [.ref aAl, .ref aSv, .ref aAs, .int sN, .int sTh, .ref aF, .ref aG, .ref aK, .long sS, .ref aTx, .int sTl, .int sPl, .ref aRd])), (aAl, .inl (cyJ, 76, .inr (.inl sAl))), (aSv, .inl (cyJ, 304, .inr (.inl sSv))), (aAs, .inl (cyJ, 76, .inr (.inl sAs))), (aF, .inl (cyJ, 3, .inr (.inl sF))), (aG, .inl (cyJ, 3, .inr (.inl sG))), (aK, .inl (cyJ, 3, .inr (.inl sK))), (aTx, .inl (cyI, 120, .inl sTx)), (aRd, .inl (cyI, 63, .inl sRd))] out.1 [(h, .inr (6, [.ref aAl, .ref aSv, .ref aAs, .int out.2.1, .int out.2.2.1, .ref aF, .ref aG, .ref aK, .long out.2.2.2.1, .ref aTx, .int sTl, .int sPl, .ref aRd])), (aAl, .inl (cyJ, 76, .inr (.inl out.2.2.2.2.1))), (aSv, .inl (cyJ, 304, .inr (.inl out.2.2.2.2.2.1))), (aAs, .inl (cyJ, 76, .inr (.inl sAs))), (aF, .inl (cyJ, 3, .inr (.inl out.2.2.2.2.2.2.1))), (aG, .inl (cyJ, 3, .inr (.inl out.2.2.2.2.2.2.2.1))), (aK, .inl (cyJ, 3, .inr (.inl out.2.2.2.2.2.2.2.2))), (aTx, .inl (cyI, 120, .inl sTx)), (aRd, .inl (cyI, 63, .inl sRd))] := by
  refine Met.ofW (cc := cX6_drive) (maxL := 4) (ret := (some .int)) (by decide) rfl ?_
  intro p e s m args below meth c s₁ B hml hv
  obtain ⟨rfl, hN, hsz, hP, hK, hD0⟩ := hv
  have hx := B.exec
  have hb := B.bytes
  have hr := B.returns
  have hts := atoms_spec (ws := wsX6_drive) B.pre
  have hown : s.vm.findClass RX6 = some m.cls := findClass_of_methodNamed B.named
  have hlocks := B.notSynchronized
  subst hsz
  have hD := hD0.self (sz := s.heap.size)
  generalize hAe : va_A [(h, .inr (6, [.ref aAl, .ref aSv, .ref aAs, .int sN, .int sTh, .ref aF, .ref aG, .ref aK, .long sS, .ref aTx, .int sTl, .int sPl, .ref aRd])), (aAl, .inl (cyJ, 76, .inr (.inl sAl))), (aSv, .inl (cyJ, 304, .inr (.inl sSv))), (aAs, .inl (cyJ, 76, .inr (.inl sAs))), (aF, .inl (cyJ, 3, .inr (.inl sF))), (aG, .inl (cyJ, 3, .inr (.inl sG))), (aK, .inl (cyJ, 3, .inr (.inl sK))), (aTx, .inl (cyI, 120, .inl sTx)), (aRd, .inl (cyI, 63, .inl sRd))] s.heap.size = A at hD ⊢
  have hA : ∀ q : Nat, s.heap.size ≤ q → A q := fun q h => by rw [← hAe]; exact Or.inr h
  have hS : va_S A s.heap s.heap [] := va_S.rf
  have hP : va_P (dC, dI) vwCl [(h, .inr (6, [.ref aAl, .ref aSv, .ref aAs, .int sN, .int sTh, .ref aF, .ref aG, .ref aK, .long sS, .ref aTx, .int sTl, .int sPl, .ref aRd])), (aAl, .inl (cyJ, 76, .inr (.inl sAl))), (aSv, .inl (cyJ, 304, .inr (.inl sSv))), (aAs, .inl (cyJ, 76, .inr (.inl sAs))), (aF, .inl (cyJ, 3, .inr (.inl sF))), (aG, .inl (cyJ, 3, .inr (.inl sG))), (aK, .inl (cyJ, 3, .inr (.inl sK))), (aTx, .inl (cyI, 120, .inl sTx)), (aRd, .inl (cyI, 63, .inl sRd))] s.heap := hP
  have hl := lv_entry ([.ref h, .int w1, .int w2]) (n := 4) (Nat.le_of_ble_eq_true rfl)
  rw [lg_entry_eq]
  generalize (lg_sl ([.ref h, .int w1, .int w2]) ++ List.replicate (4 - (lg_sl ([.ref h, .int w1, .int w2])).length) Slot.unset).toArray = ls at hl ⊢
  have hl : lv_has ls 4 [(0, .ref h), (1, .int w1), (2, .int w2)] := hl
  unfold F_X6_drive at hF
  refine lv_aload_n hx hb dX6_drive_0 rfl (lv_at hl 0 rfl) ?_
  refine lv_iload_n hx hb dX6_drive_1 rfl (lv_at hl 1 rfl) ?_
  refine lv_i2l (v := w1.toInt64) hx hb dX6_drive_2 rfl ?_
  obtain ⟨o1, ho1, hF⟩ := ob_e hF
  refine x_callzi (va_runS (As := [.long w1.toInt64]) (rest := [.ref h]) ⟨hx, hb, hml, hown, hts⟩ (c_X6_isSignal l w1.toInt64 ho1) (va_cwS 1 hts gX6_drive_X6_isSignal rfl rfl rfl (by decide +kernel) ⟨Nat.le_of_ble_eq_true rfl, Nat.le_of_ble_eq_true rfl⟩) ⟨true_blind, fun _ _ _ => ⟨rfl, trivial⟩⟩ rfl rfl hl.1 rfl (lv_room (Nat.le_of_ble_eq_true rfl)) dX6_drive_3 ⟨Nat.le_of_ble_eq_true rfl, Nat.le_of_ble_eq_true rfl⟩) ?_
  obtain ⟨K6, hK6, hF⟩ := rg_e hF
  have Jx5 : ∀ (x5 : Int32) (H : Heap) (locs : List Loc) (ls : Array Slot), K6 x5 = some out → va_P (dC, dI) vwCl [(h, .inr (6, [.ref aAl, .ref aSv, .ref aAs, .int sN, .int sTh, .ref aF, .ref aG, .ref aK, .long sS, .ref aTx, .int sTl, .int sPl, .ref aRd])), (aAl, .inl (cyJ, 76, .inr (.inl sAl))), (aSv, .inl (cyJ, 304, .inr (.inl sSv))), (aAs, .inl (cyJ, 76, .inr (.inl sAs))), (aF, .inl (cyJ, 3, .inr (.inl sF))), (aG, .inl (cyJ, 3, .inr (.inl sG))), (aK, .inl (cyJ, 3, .inr (.inl sK))), (aTx, .inl (cyI, 120, .inl sTx)), (aRd, .inl (cyI, 63, .inl sRd))] H → va_D A [(h, .inr (6, [.ref aAl, .ref aSv, .ref aAs, .int sN, .int sTh, .ref aF, .ref aG, .ref aK, .long sS, .ref aTx, .int sTl, .int sPl, .ref aRd])), (aAl, .inl (cyJ, 76, .inr (.inl sAl))), (aSv, .inl (cyJ, 304, .inr (.inl sSv))), (aAs, .inl (cyJ, 76, .inr (.inl sAs))), (aF, .inl (cyJ, 3, .inr (.inl sF))), (aG, .inl (cyJ, 3, .inr (.inl sG))), (aK, .inl (cyJ, 3, .inr (.inl sK))), (aTx, .inl (cyI, 120, .inl sTx)), (aRd, .inl (cyI, 63, .inl sRd))] → va_S A s.heap H locs → lv_has ls 4 [(0, .ref h), (1, .int w1), (2, .int w2)] → W p l e (headSpec wsX6_drive ({ frames := 4, cells := 0, slots := 0, locals := 114 } : Room)).room s m ([.ref h, .int w1, .int w2] : List Value).toArray below meth c H locs 0 0 (MQ below (va_Qi (fun (r' : Int32) (_ : Unit) => r' = out.1) (cPost (dC, dI) [(cyI, .int), (cyJ, .long), (cyB, .byte), (cyS, .object "SelfTuner$State"), (cyD, .double)] [(h, .inr (6, [.ref aAl, .ref aSv, .ref aAs, .int out.2.1, .int out.2.2.1, .ref aF, .ref aG, .ref aK, .long out.2.2.2.1, .ref aTx, .int sTl, .int sPl, .ref aRd])), (aAl, .inl (cyJ, 76, .inr (.inl out.2.2.2.2.1))), (aSv, .inl (cyJ, 304, .inr (.inl out.2.2.2.2.2.1))), (aAs, .inl (cyJ, 76, .inr (.inl sAs))), (aF, .inl (cyJ, 3, .inr (.inl out.2.2.2.2.2.2.1))), (aG, .inl (cyJ, 3, .inr (.inl out.2.2.2.2.2.2.2.1))), (aK, .inl (cyJ, 3, .inr (.inl out.2.2.2.2.2.2.2.2))), (aTx, .inl (cyI, 120, .inl sTx)), (aRd, .inl (cyI, 63, .inl sRd))] A) A) ([.ref h, .int w1, .int w2] : List Value).toArray s 0 0 A) (F0 m 26 ls [.int x5, .ref h]) := by
    intro x5 H locs ls hF hP hD hS hl
    rw [hK6] at hF
    refine lv_iconst (v := 1) hx hb dX6_drive_26 (by decide) ?_
    obtain ⟨o7, ho7, hF⟩ := ob_e hF
    refine x_calli (wr := []) (ws' := [(h, .inr (6, [.ref aAl, .ref aSv, .ref aAs, .int sN, .int o7.2, .ref aF, .ref aG, .ref aK, .long sS, .ref aTx, .int sTl, .int sPl, .ref aRd])), (aAl, .inl (cyJ, 76, .inr (.inl sAl))), (aSv, .inl (cyJ, 304, .inr (.inl sSv))), (aAs, .inl (cyJ, 76, .inr (.inl sAs))), (aF, .inl (cyJ, 3, .inr (.inl sF))), (aG, .inl (cyJ, 3, .inr (.inl sG))), (aK, .inl (cyJ, 3, .inr (.inl sK))), (aTx, .inl (cyI, 120, .inl sTx)), (aRd, .inl (cyI, 63, .inl sRd))]) (va_runV (As := [.int x5, .int 1]) (rest := []) ⟨hx, hb, hml, hown, hts⟩ (c_X6_goes l dC dI cyI cyJ cyB cyS cyD h aAl aSv aAs aF aG aK aTx aRd H.size sN sTh sS sTl sPl sAl sSv sAs sF sG sK sTx sRd x5 1 ho7) (cwV 2 hts gX6_drive_X6_goes rfl rfl rfl (by decide +kernel) ⟨Nat.le_of_ble_eq_true rfl, Nat.le_of_ble_eq_true rfl⟩) ⟨cPre_blind, va_recv hK hP (ci := 6) (q0 := 0) rfl rfl, x_pre hN hP hD hK [0, 1, 2, 3, 4, 5, 6, 7, 8] rfl rfl⟩ rfl rfl hl.1 rfl (lv_room (Nat.le_of_ble_eq_true rfl)) dX6_drive_27 ⟨Nat.le_of_ble_eq_true rfl, Nat.le_of_ble_eq_true rfl⟩) hP hD hS hA [0, 1, 2, 3, 4, 5, 6, 7, 8] [] [0, 1, 2, 3, 4, 5, 6, 7, 8] rfl rfl rfl (by decide) rfl rfl (fun H locs hP hD hS => ?_)
    refine lv_if_ne (tgt := 35) hx hb dX6_drive_30 (by decide) (fun c8 => ?_) (fun c8 => ?_)
    · have hF := ite_f hF c8
      refine lv_aload_n hx hb dX6_drive_35 rfl (lv_at hl 0 rfl) ?_
      obtain ⟨o9, ho9, hF⟩ := ob_e hF
      refine x_callv (wr := []) (ws' := [(h, .inr (6, [.ref aAl, .ref aSv, .ref aAs, .int o9.1, .int o7.2, .ref aF, .ref aG, .ref aK, .long sS, .ref aTx, .int sTl, .int sPl, .ref aRd])), (aAl, .inl (cyJ, 76, .inr (.inl sAl))), (aSv, .inl (cyJ, 304, .inr (.inl o9.2))), (aAs, .inl (cyJ, 76, .inr (.inl sAs))), (aF, .inl (cyJ, 3, .inr (.inl sF))), (aG, .inl (cyJ, 3, .inr (.inl sG))), (aK, .inl (cyJ, 3, .inr (.inl sK))), (aTx, .inl (cyI, 120, .inl sTx)), (aRd, .inl (cyI, 63, .inl sRd))]) (va_runV (As := []) (rest := []) ⟨hx, hb, hml, hown, hts⟩ (c_X6_save l dC dI cyI cyJ cyB cyS cyD h aAl aSv aAs aF aG aK aTx aRd H.size sN o7.2 sS sTl sPl sAl sSv sAs sF sG sK sTx sRd ho9) (cwV 0 hts gX6_drive_X6_save rfl rfl rfl (by decide +kernel) ⟨Nat.le_of_ble_eq_true rfl, Nat.le_of_ble_eq_true rfl⟩) ⟨cPre_blind, va_recv hK hP (ci := 6) (q0 := 0) rfl rfl, x_pre hN hP hD hK [0, 1, 2, 3, 4, 5, 6, 7, 8] rfl rfl⟩ rfl rfl hl.1 rfl (lv_room (Nat.le_of_ble_eq_true rfl)) dX6_drive_36 ⟨Nat.le_of_ble_eq_true rfl, Nat.le_of_ble_eq_true rfl⟩) hP hD hS hA [0, 1, 2, 3, 4, 5, 6, 7, 8] [] [0, 1, 2, 3, 4, 5, 6, 7, 8] rfl rfl rfl (by decide) rfl rfl (fun H locs hP hD hS => ?_)
      refine lv_iconst (v := 0) hx hb dX6_drive_39 (by decide) ?_
      refine lv_istore_n (lv' := [(3, .int 0), (0, .ref h), (1, .int w1), (2, .int w2)]) hx hb dX6_drive_40 rfl hl (by decide) rfl (fun ls hl => ?_)
      have Ln10 : ∀ (n10 : Nat) (K11 : (Int64 × (Nat → Int64) × (Nat → Int64) × (Nat → Int64) × (Nat → Int64)) → Option (Int32 × Int32 × Int32 × Int64 × (Nat → Int64) × (Nat → Int64) × (Nat → Int64) × (Nat → Int64) × (Nat → Int64))) (v12 : Int32) (v13 : Int64) (v14 : Nat → Int64) (v15 : Nat → Int64) (v16 : Nat → Int64) (v17 : Nat → Int64) (H : Heap) (locs : List Loc) (ls : Array Slot), F_X6_drive_41 w2 w1 n10 K11 v12 v13 v14 v15 v16 v17 = some out → va_P (dC, dI) vwCl [(h, .inr (6, [.ref aAl, .ref aSv, .ref aAs, .int o9.1, .int o7.2, .ref aF, .ref aG, .ref aK, .long v13, .ref aTx, .int sTl, .int sPl, .ref aRd])), (aAl, .inl (cyJ, 76, .inr (.inl v14))), (aSv, .inl (cyJ, 304, .inr (.inl o9.2))), (aAs, .inl (cyJ, 76, .inr (.inl sAs))), (aF, .inl (cyJ, 3, .inr (.inl v15))), (aG, .inl (cyJ, 3, .inr (.inl v16))), (aK, .inl (cyJ, 3, .inr (.inl v17))), (aTx, .inl (cyI, 120, .inl sTx)), (aRd, .inl (cyI, 63, .inl sRd))] H → va_D A [(h, .inr (6, [.ref aAl, .ref aSv, .ref aAs, .int o9.1, .int o7.2, .ref aF, .ref aG, .ref aK, .long v13, .ref aTx, .int sTl, .int sPl, .ref aRd])), (aAl, .inl (cyJ, 76, .inr (.inl v14))), (aSv, .inl (cyJ, 304, .inr (.inl o9.2))), (aAs, .inl (cyJ, 76, .inr (.inl sAs))), (aF, .inl (cyJ, 3, .inr (.inl v15))), (aG, .inl (cyJ, 3, .inr (.inl v16))), (aK, .inl (cyJ, 3, .inr (.inl v17))), (aTx, .inl (cyI, 120, .inl sTx)), (aRd, .inl (cyI, 63, .inl sRd))] → va_S A s.heap H locs → lv_has ls 4 [(0, .ref h), (1, .int w1), (2, .int w2), (3, .int v12)] → (∀ (x21 : Int64 × (Nat → Int64) × (Nat → Int64) × (Nat → Int64) × (Nat → Int64)) (H : Heap) (locs : List Loc) (ls : Array Slot), K11 x21 = some out → va_P (dC, dI) vwCl [(h, .inr (6, [.ref aAl, .ref aSv, .ref aAs, .int o9.1, .int o7.2, .ref aF, .ref aG, .ref aK, .long x21.1, .ref aTx, .int sTl, .int sPl, .ref aRd])), (aAl, .inl (cyJ, 76, .inr (.inl x21.2.1))), (aSv, .inl (cyJ, 304, .inr (.inl o9.2))), (aAs, .inl (cyJ, 76, .inr (.inl sAs))), (aF, .inl (cyJ, 3, .inr (.inl x21.2.2.1))), (aG, .inl (cyJ, 3, .inr (.inl x21.2.2.2.1))), (aK, .inl (cyJ, 3, .inr (.inl x21.2.2.2.2))), (aTx, .inl (cyI, 120, .inl sTx)), (aRd, .inl (cyI, 63, .inl sRd))] H → va_D A [(h, .inr (6, [.ref aAl, .ref aSv, .ref aAs, .int o9.1, .int o7.2, .ref aF, .ref aG, .ref aK, .long x21.1, .ref aTx, .int sTl, .int sPl, .ref aRd])), (aAl, .inl (cyJ, 76, .inr (.inl x21.2.1))), (aSv, .inl (cyJ, 304, .inr (.inl o9.2))), (aAs, .inl (cyJ, 76, .inr (.inl sAs))), (aF, .inl (cyJ, 3, .inr (.inl x21.2.2.1))), (aG, .inl (cyJ, 3, .inr (.inl x21.2.2.2.1))), (aK, .inl (cyJ, 3, .inr (.inl x21.2.2.2.2))), (aTx, .inl (cyI, 120, .inl sTx)), (aRd, .inl (cyI, 63, .inl sRd))] → va_S A s.heap H locs → lv_has ls 4 [(0, .ref h)] → W p l e (headSpec wsX6_drive ({ frames := 4, cells := 0, slots := 0, locals := 114 } : Room)).room s m ([.ref h, .int w1, .int w2] : List Value).toArray below meth c H locs 0 0 (MQ below (va_Qi (fun (r' : Int32) (_ : Unit) => r' = out.1) (cPost (dC, dI) [(cyI, .int), (cyJ, .long), (cyB, .byte), (cyS, .object "SelfTuner$State"), (cyD, .double)] [(h, .inr (6, [.ref aAl, .ref aSv, .ref aAs, .int out.2.1, .int out.2.2.1, .ref aF, .ref aG, .ref aK, .long out.2.2.2.1, .ref aTx, .int sTl, .int sPl, .ref aRd])), (aAl, .inl (cyJ, 76, .inr (.inl out.2.2.2.2.1))), (aSv, .inl (cyJ, 304, .inr (.inl out.2.2.2.2.2.1))), (aAs, .inl (cyJ, 76, .inr (.inl sAs))), (aF, .inl (cyJ, 3, .inr (.inl out.2.2.2.2.2.2.1))), (aG, .inl (cyJ, 3, .inr (.inl out.2.2.2.2.2.2.2.1))), (aK, .inl (cyJ, 3, .inr (.inl out.2.2.2.2.2.2.2.2))), (aTx, .inl (cyI, 120, .inl sTx)), (aRd, .inl (cyI, 63, .inl sRd))] A) A) ([.ref h, .int w1, .int w2] : List Value).toArray s 0 0 A) (F0 m 58 ls [])) → W p l e (headSpec wsX6_drive ({ frames := 4, cells := 0, slots := 0, locals := 114 } : Room)).room s m ([.ref h, .int w1, .int w2] : List Value).toArray below meth c H locs 0 0 (MQ below (va_Qi (fun (r' : Int32) (_ : Unit) => r' = out.1) (cPost (dC, dI) [(cyI, .int), (cyJ, .long), (cyB, .byte), (cyS, .object "SelfTuner$State"), (cyD, .double)] [(h, .inr (6, [.ref aAl, .ref aSv, .ref aAs, .int out.2.1, .int out.2.2.1, .ref aF, .ref aG, .ref aK, .long out.2.2.2.1, .ref aTx, .int sTl, .int sPl, .ref aRd])), (aAl, .inl (cyJ, 76, .inr (.inl out.2.2.2.2.1))), (aSv, .inl (cyJ, 304, .inr (.inl out.2.2.2.2.2.1))), (aAs, .inl (cyJ, 76, .inr (.inl sAs))), (aF, .inl (cyJ, 3, .inr (.inl out.2.2.2.2.2.2.1))), (aG, .inl (cyJ, 3, .inr (.inl out.2.2.2.2.2.2.2.1))), (aK, .inl (cyJ, 3, .inr (.inl out.2.2.2.2.2.2.2.2))), (aTx, .inl (cyI, 120, .inl sTx)), (aRd, .inl (cyI, 63, .inl sRd))] A) A) ([.ref h, .int w1, .int w2] : List Value).toArray s 0 0 A) (F0 m 41 ls []) := by
        intro n10
        induction n10 with
        | zero => intro K11 v12 v13 v14 v15 v16 v17 H locs ls hF; exact no_e (show none = some out from hF)
        | succ n10 ihn10 =>
          intro K11 v12 v13 v14 v15 v16 v17 H locs ls hF hP hD hS hl kxn10
          rw [F_X6_drive_41] at hF
          refine lv_iload_n hx hb dX6_drive_41 rfl (lv_at hl 3 rfl) ?_
          refine lv_iload_n hx hb dX6_drive_42 rfl (lv_at hl 2 rfl) ?_
          refine lv_icmp_ge (tgt := 58) hx hb dX6_drive_43 (by decide) (fun c18 => ?_) (fun c18 => ?_)
          · have hF := ite_t hF c18
            exact kxn10 _ _ _ _ hF hP hD hS (lv_sub hl [0] rfl)
          · have hF := ite_f hF c18
            refine lv_aload_n hx hb dX6_drive_46 rfl (lv_at hl 0 rfl) ?_
            refine lv_iload_n hx hb dX6_drive_47 rfl (lv_at hl 1 rfl) ?_
            refine lv_i2l (v := w1.toInt64) hx hb dX6_drive_48 rfl ?_
            obtain ⟨o19, ho19, hF⟩ := ob_e hF
            refine x_callv (wr := []) (ws' := [(h, .inr (6, [.ref aAl, .ref aSv, .ref aAs, .int o9.1, .int o7.2, .ref aF, .ref aG, .ref aK, .long o19.1, .ref aTx, .int sTl, .int sPl, .ref aRd])), (aAl, .inl (cyJ, 76, .inr (.inl o19.2.1))), (aSv, .inl (cyJ, 304, .inr (.inl o9.2))), (aAs, .inl (cyJ, 76, .inr (.inl sAs))), (aF, .inl (cyJ, 3, .inr (.inl o19.2.2.1))), (aG, .inl (cyJ, 3, .inr (.inl o19.2.2.2.1))), (aK, .inl (cyJ, 3, .inr (.inl o19.2.2.2.2))), (aTx, .inl (cyI, 120, .inl sTx)), (aRd, .inl (cyI, 63, .inl sRd))]) (va_runV (As := [.long w1.toInt64]) (rest := []) ⟨hx, hb, hml, hown, hts⟩ (c_X6_steps l dC dI cyI cyJ cyB cyS cyD h aAl aSv aAs aF aG aK aTx aRd H.size o9.1 o7.2 v13 sTl sPl v14 o9.2 sAs v15 v16 v17 sTx sRd w1.toInt64 ho19) (cwV 1 hts gX6_drive_X6_steps rfl rfl rfl (by decide +kernel) ⟨Nat.le_of_ble_eq_true rfl, Nat.le_of_ble_eq_true rfl⟩) ⟨cPre_blind, va_recv hK hP (ci := 6) (q0 := 0) rfl rfl, x_pre hN hP hD hK [0, 1, 2, 3, 4, 5, 6, 7, 8] rfl rfl⟩ rfl rfl hl.1 rfl (lv_room (Nat.le_of_ble_eq_true rfl)) dX6_drive_49 ⟨Nat.le_of_ble_eq_true rfl, Nat.le_of_ble_eq_true rfl⟩) hP hD hS hA [0, 1, 2, 3, 4, 5, 6, 7, 8] [] [0, 1, 2, 3, 4, 5, 6, 7, 8] rfl rfl rfl (by decide) rfl rfl (fun H locs hP hD hS => ?_)
            obtain ⟨v20, hv20, hF⟩ := lt_e hF
            refine lv_iinc (v := v20) (lv' := [(3, .int v20), (0, .ref h), (1, .int w1), (2, .int w2)]) hx hb dX6_drive_52 hl (k := 3) rfl (by rw [hv20]; rfl) (by decide) rfl (fun ls hl => ?_)
            refine lv_goto (tgt := 41) hx hb dX6_drive_55 (by decide) ?_
            exact ihn10 _ _ _ _ _ _ _ _ _ _ hF hP hD hS (lv_sub hl [1, 2, 3, 0] rfl) kxn10
      refine Ln10 _ _ _ _ _ _ _ _ _ _ _ hF hP hD hS (lv_sub hl [1, 2, 3, 0] rfl) (fun x21 H locs ls hF hP hD hS hl => ?_)
      refine lv_aload_n hx hb dX6_drive_58 rfl (lv_at hl 0 rfl) ?_
      refine va_get (D := (dC, dI)) (ci := 6) (v := .ref aAl) (C := RX6) (T := TX6) (N := 13) hx hb hts iX6_drive_X6 hown hK hP 0 rfl rfl 0 (by decide) (hts _ kX6_drive_2) (fun _ h9 => h9) rfl dX6_drive_59 ?_
      refine lv_bipush (v := 35) hx hb dX6_drive_62 (by decide) ?_
      refine x_lald hx hb hK hP 1 1 rfl rfl (show (35 : Int32).toNatClampNeg = 35 by decide) (inbK (k := 35) (by decide) rfl) dX6_drive_64 ?_
      refine lv_l2i (v := (x21.2.1 35).toInt32) hx hb dX6_drive_65 rfl ?_
      obtain rfl := some_e hF
      exact W.iret (v := (x21.2.1 35).toInt32) hx hb hr (fun t ht hW => ⟨⟨(x21.2.1 35).toInt32, (), rfl, rfl, ⟨by rw [ht]; exact hP, va_K.moved hW.alike hK, hD⟩⟩, hS.F ht⟩) hS.2.2 dX6_drive_66
    · have hF := ite_t hF c8
      refine lv_iconst (v := 0) hx hb dX6_drive_33 (by decide) ?_
      obtain rfl := some_e hF
      exact W.iret (v := 0) hx hb hr (fun t ht hW => ⟨⟨0, (), rfl, rfl, ⟨by rw [ht]; exact hP, va_K.moved hW.alike hK, hD⟩⟩, hS.F ht⟩) hS.2.2 dX6_drive_34
  refine lv_if_eq (tgt := 25) hx hb dX6_drive_6 (by decide) (fun c2 => ?_) (fun c2 => ?_)
  · have hF := ite_t hF c2
    refine lv_iconst (v := 0) hx hb dX6_drive_25 (by decide) ?_
    exact Jx5 _ _ _ _ hF hP hD hS (lv_sub hl [0, 1, 2] rfl)
  · have hF := ite_f hF c2
    refine lv_iload_n hx hb dX6_drive_9 rfl (lv_at hl 2 rfl) ?_
    refine lv_i2l (v := w2.toInt64) hx hb dX6_drive_10 rfl ?_
    refine lv_lconst (v := 0) hx hb dX6_drive_11 (by decide) ?_
    refine lv_ldc2 (v := 500) hx hb hown (hts _ kX6_drive_1) dX6_drive_12 ?_
    obtain ⟨o3, ho3, hF⟩ := ob_e hF
    refine x_callzi (va_runS (As := [.long w2.toInt64, .long 0, .long 500]) (rest := [.ref h]) ⟨hx, hb, hml, hown, hts⟩ (c_X6_in l w2.toInt64 0 500 ho3) (va_cwS 3 hts gX6_drive_X6_in rfl rfl rfl (by decide +kernel) ⟨Nat.le_of_ble_eq_true rfl, Nat.le_of_ble_eq_true rfl⟩) ⟨true_blind, fun _ _ _ => ⟨rfl, trivial⟩⟩ rfl rfl hl.1 rfl (lv_room (Nat.le_of_ble_eq_true rfl)) dX6_drive_15 ⟨Nat.le_of_ble_eq_true rfl, Nat.le_of_ble_eq_true rfl⟩) ?_
    refine lv_if_eq (tgt := 25) hx hb dX6_drive_18 (by decide) (fun c4 => ?_) (fun c4 => ?_)
    · have hF := ite_t hF c4
      refine lv_iconst (v := 0) hx hb dX6_drive_25 (by decide) ?_
      exact Jx5 _ _ _ _ hF hP hD hS (lv_sub hl [0, 1, 2] rfl)
    · have hF := ite_f hF c4
      refine lv_iconst (v := 1) hx hb dX6_drive_21 (by decide) ?_
      refine lv_goto (tgt := 26) hx hb dX6_drive_22 (by decide) ?_
      exact Jx5 _ _ _ _ hF hP hD hS (lv_sub hl [0, 1, 2] rfl)
def F_X6_output (sAl : Nat → Int64) : Option (Int32 × Int32) := some ((sAl 35).toInt32, 0)
theorem kX6_output_1 : (Cond.fieldLink RX6 54 "SelfTunerModel" "thrown" "I") ∈ wsX6_output := List.mem_of_getElem? (i := 1) rfl
theorem kX6_output_2 : (Cond.fieldLink RX6 7 "SelfTunerModel" "all" "[J") ∈ wsX6_output := List.mem_of_getElem? (i := 2) rfl
theorem iX6_output_X6 : ∀ w ∈ wsX60, w ∈ wsX6_output := fun w h => List.mem_cons_of_mem _ (List.mem_append_right _ h)
set_option maxHeartbeats 4000000 in
set_option maxRecDepth 100000 in
theorem c_X6_output (l : Launch) (dC : Nat → ClassId) (dI : Nat → Nat → Nat) (cyI cyJ cyB cyS cyD : ClassId) (h : Nat) (aAl : Nat) (aSv : Nat) (aAs : Nat) (aF : Nat) (aG : Nat) (aK : Nat) (aTx : Nat) (aRd : Nat) (sz : Nat) (sN : Int32) (sTh : Int32) (sS : Int64) (sTl : Int32) (sPl : Int32) (sAl : Nat → Int64) (sSv : Nat → Int64) (sAs : Nat → Int64) (sF : Nat → Int64) (sG : Nat → Int64) (sK : Nat → Int64) (sTx : Nat → Int32) (sRd : Nat → Int32) {out : Int32 × Int32} (hF : F_X6_output sAl = some out) : Mi l yX6_output wsX6_output ({ frames := 0, cells := 0, slots := 0, locals := 0 } : Room) (dC, dI) [(cyI, .int), (cyJ, .long), (cyB, .byte), (cyS, .object "SelfTuner$State"), (cyD, .double)] sz [.ref h] [(h, .inr (6, [.ref aAl, .ref aSv, .ref aAs, .int sN, .int sTh, .ref aF, .ref aG, .ref aK, .long sS, .ref aTx, .int sTl, .int sPl, .ref aRd])), (aAl, .inl (cyJ, 76, .inr (.inl sAl))), (aSv, .inl (cyJ, 304, .inr (.inl sSv))), (aAs, .inl (cyJ, 76, .inr (.inl sAs))), (aF, .inl (cyJ, 3, .inr (.inl sF))), (aG, .inl (cyJ, 3, .inr (.inl sG))), (aK, .inl (cyJ, 3, .inr (.inl sK))), (aTx, .inl (cyI, 120, .inl sTx)), (aRd, .inl (cyI, 63, .inl sRd))] out.1 [(h, .inr (6, [.ref aAl, .ref aSv, .ref aAs, .int sN, .int out.2, .ref aF, .ref aG, .ref aK, .long sS, .ref aTx, .int sTl, .int sPl, .ref aRd])), (aAl, .inl (cyJ, 76, .inr (.inl sAl))), (aSv, .inl (cyJ, 304, .inr (.inl sSv))), (aAs, .inl (cyJ, 76, .inr (.inl sAs))), (aF, .inl (cyJ, 3, .inr (.inl sF))), (aG, .inl (cyJ, 3, .inr (.inl sG))), (aK, .inl (cyJ, 3, .inr (.inl sK))), (aTx, .inl (cyI, 120, .inl sTx)), (aRd, .inl (cyI, 63, .inl sRd))] := by
  refine Met.ofW (cc := cX6_output) (maxL := 1) (ret := (some .int)) (by decide) rfl ?_
  intro p e s m args below meth c s₁ B hml hv
  obtain ⟨rfl, hN, hsz, hP, hK, hD0⟩ := hv
  have hx := B.exec
  have hb := B.bytes
  have hr := B.returns
  have hts := atoms_spec (ws := wsX6_output) B.pre
  have hown : s.vm.findClass RX6 = some m.cls := findClass_of_methodNamed B.named
  have hlocks := B.notSynchronized
  subst hsz
  have hD := hD0.self (sz := s.heap.size)
  generalize hAe : va_A [(h, .inr (6, [.ref aAl, .ref aSv, .ref aAs, .int sN, .int sTh, .ref aF, .ref aG, .ref aK, .long sS, .ref aTx, .int sTl, .int sPl, .ref aRd])), (aAl, .inl (cyJ, 76, .inr (.inl sAl))), (aSv, .inl (cyJ, 304, .inr (.inl sSv))), (aAs, .inl (cyJ, 76, .inr (.inl sAs))), (aF, .inl (cyJ, 3, .inr (.inl sF))), (aG, .inl (cyJ, 3, .inr (.inl sG))), (aK, .inl (cyJ, 3, .inr (.inl sK))), (aTx, .inl (cyI, 120, .inl sTx)), (aRd, .inl (cyI, 63, .inl sRd))] s.heap.size = A at hD ⊢
  have hA : ∀ q : Nat, s.heap.size ≤ q → A q := fun q h => by rw [← hAe]; exact Or.inr h
  have hS : va_S A s.heap s.heap [] := va_S.rf
  have hP : va_P (dC, dI) vwCl [(h, .inr (6, [.ref aAl, .ref aSv, .ref aAs, .int sN, .int sTh, .ref aF, .ref aG, .ref aK, .long sS, .ref aTx, .int sTl, .int sPl, .ref aRd])), (aAl, .inl (cyJ, 76, .inr (.inl sAl))), (aSv, .inl (cyJ, 304, .inr (.inl sSv))), (aAs, .inl (cyJ, 76, .inr (.inl sAs))), (aF, .inl (cyJ, 3, .inr (.inl sF))), (aG, .inl (cyJ, 3, .inr (.inl sG))), (aK, .inl (cyJ, 3, .inr (.inl sK))), (aTx, .inl (cyI, 120, .inl sTx)), (aRd, .inl (cyI, 63, .inl sRd))] s.heap := hP
  have hl := lv_entry ([.ref h]) (n := 1) (Nat.le_of_ble_eq_true rfl)
  rw [lg_entry_eq]
  generalize (lg_sl ([.ref h]) ++ List.replicate (1 - (lg_sl ([.ref h])).length) Slot.unset).toArray = ls at hl ⊢
  have hl : lv_has ls 1 [(0, .ref h)] := hl
  unfold F_X6_output at hF
  refine lv_aload_n hx hb dX6_output_0 rfl (lv_at hl 0 rfl) ?_
  refine lv_iconst (v := 0) hx hb dX6_output_1 (by decide) ?_
  refine x_put (D := (dC, dI)) (ci := 6) (v := .int 0) (ty := .int) (C := RX6) (T := TX6) (N := 13) (ws' := [(h, .inr (6, [.ref aAl, .ref aSv, .ref aAs, .int sN, .int 0, .ref aF, .ref aG, .ref aK, .long sS, .ref aTx, .int sTl, .int sPl, .ref aRd])), (aAl, .inl (cyJ, 76, .inr (.inl sAl))), (aSv, .inl (cyJ, 304, .inr (.inl sSv))), (aAs, .inl (cyJ, 76, .inr (.inl sAs))), (aF, .inl (cyJ, 3, .inr (.inl sF))), (aG, .inl (cyJ, 3, .inr (.inl sG))), (aK, .inl (cyJ, 3, .inr (.inl sK))), (aTx, .inl (cyI, 120, .inl sTx)), (aRd, .inl (cyI, 63, .inl sRd))]) hx hb hts iX6_output_X6 tyX6 tyX6_ok nmX6 hown hK hP hD hS 0 rfl rfl 4 (by decide) (hts _ kX6_output_1) (fun _ h9 => h9) rfl (by decide +kernel) rfl rfl (Nat.le_of_ble_eq_true rfl) rfl dX6_output_2 (fun H locs hP hD hS => ?_)
  refine lv_aload_n hx hb dX6_output_5 rfl (lv_at hl 0 rfl) ?_
  refine va_get (D := (dC, dI)) (ci := 6) (v := .ref aAl) (C := RX6) (T := TX6) (N := 13) hx hb hts iX6_output_X6 hown hK hP 0 rfl rfl 0 (by decide) (hts _ kX6_output_2) (fun _ h9 => h9) rfl dX6_output_6 ?_
  refine lv_bipush (v := 35) hx hb dX6_output_9 (by decide) ?_
  refine x_lald hx hb hK hP 1 1 rfl rfl (show (35 : Int32).toNatClampNeg = 35 by decide) (inbK (k := 35) (by decide) rfl) dX6_output_11 ?_
  refine lv_l2i (v := (sAl 35).toInt32) hx hb dX6_output_12 rfl ?_
  obtain rfl := some_e hF
  exact W.iret (v := (sAl 35).toInt32) hx hb hr (fun t ht hW => ⟨⟨(sAl 35).toInt32, (), rfl, rfl, ⟨by rw [ht]; exact hP, va_K.moved hW.alike hK, hD⟩⟩, hS.F ht⟩) hS.2.2 dX6_output_13
def F_X6_bias (sAl : Nat → Int64) (w1 : Int32) : Option (Int32 × Int32) := ob (F_X6_in w1.toInt64 0 2) (fun o1 => ob (F_X6_goes o1 1) (fun o2 => if (o2.1 : Int32) = 0 then (some (0, o2.2)) else (ck (inb (13 + w1) 76) (ck (inb (30 + w1) 76) (ob (F_X6_floor (65536 * (sAl ((30 + w1).toNatClampNeg))) 1000) (fun o6 => some (((sAl ((13 + w1).toNatClampNeg)) - o6).toInt32, o2.2)))))))
theorem kX6_bias_1 : (Cond.constantLong RX6 37 (2)) ∈ wsX6_bias := List.mem_of_getElem? (i := 1) rfl
theorem kX6_bias_2 : (Cond.fieldLink RX6 7 "SelfTunerModel" "all" "[J") ∈ wsX6_bias := List.mem_of_getElem? (i := 2) rfl
theorem kX6_bias_3 : (Cond.constantLong RX6 71 (65536)) ∈ wsX6_bias := List.mem_of_getElem? (i := 3) rfl
theorem kX6_bias_4 : (Cond.constantLong RX6 172 (1000)) ∈ wsX6_bias := List.mem_of_getElem? (i := 4) rfl
theorem iX6_bias_X6 : ∀ w ∈ wsX60, w ∈ wsX6_bias := fun w h => List.mem_cons_of_mem _ (List.mem_append_right _ h)
set_option maxHeartbeats 4000000 in
set_option maxRecDepth 100000 in
theorem c_X6_bias (l : Launch) (dC : Nat → ClassId) (dI : Nat → Nat → Nat) (cyI cyJ cyB cyS cyD : ClassId) (h : Nat) (aAl : Nat) (aSv : Nat) (aAs : Nat) (aF : Nat) (aG : Nat) (aK : Nat) (aTx : Nat) (aRd : Nat) (sz : Nat) (sN : Int32) (sTh : Int32) (sS : Int64) (sTl : Int32) (sPl : Int32) (sAl : Nat → Int64) (sSv : Nat → Int64) (sAs : Nat → Int64) (sF : Nat → Int64) (sG : Nat → Int64) (sK : Nat → Int64) (sTx : Nat → Int32) (sRd : Nat → Int32) (w1 : Int32) {out : Int32 × Int32} (hF : F_X6_bias sAl w1 = some out) : Mi l yX6_bias wsX6_bias ({ frames := 1, cells := 0, slots := 0, locals := 25 } : Room) (dC, dI) [(cyI, .int), (cyJ, .long), (cyB, .byte), (cyS, .object "SelfTuner$State"), (cyD, .double)] sz [.ref h, .int w1] [(h, .inr (6, [.ref aAl, .ref aSv, .ref aAs, .int sN, .int sTh, .ref aF, .ref aG, .ref aK, .long sS, .ref aTx, .int sTl, .int sPl, .ref aRd])), (aAl, .inl (cyJ, 76, .inr (.inl sAl))), (aSv, .inl (cyJ, 304, .inr (.inl sSv))), (aAs, .inl (cyJ, 76, .inr (.inl sAs))), (aF, .inl (cyJ, 3, .inr (.inl sF))), (aG, .inl (cyJ, 3, .inr (.inl sG))), (aK, .inl (cyJ, 3, .inr (.inl sK))), (aTx, .inl (cyI, 120, .inl sTx)), (aRd, .inl (cyI, 63, .inl sRd))] out.1 [(h, .inr (6, [.ref aAl, .ref aSv, .ref aAs, .int sN, .int out.2, .ref aF, .ref aG, .ref aK, .long sS, .ref aTx, .int sTl, .int sPl, .ref aRd])), (aAl, .inl (cyJ, 76, .inr (.inl sAl))), (aSv, .inl (cyJ, 304, .inr (.inl sSv))), (aAs, .inl (cyJ, 76, .inr (.inl sAs))), (aF, .inl (cyJ, 3, .inr (.inl sF))), (aG, .inl (cyJ, 3, .inr (.inl sG))), (aK, .inl (cyJ, 3, .inr (.inl sK))), (aTx, .inl (cyI, 120, .inl sTx)), (aRd, .inl (cyI, 63, .inl sRd))] := by
  refine Met.ofW (cc := cX6_bias) (maxL := 2) (ret := (some .int)) (by decide) rfl ?_
  intro p e s m args below meth c s₁ B hml hv
  obtain ⟨rfl, hN, hsz, hP, hK, hD0⟩ := hv
  have hx := B.exec
  have hb := B.bytes
  have hr := B.returns
  have hts := atoms_spec (ws := wsX6_bias) B.pre
  have hown : s.vm.findClass RX6 = some m.cls := findClass_of_methodNamed B.named
  have hlocks := B.notSynchronized
  subst hsz
  have hD := hD0.self (sz := s.heap.size)
  generalize hAe : va_A [(h, .inr (6, [.ref aAl, .ref aSv, .ref aAs, .int sN, .int sTh, .ref aF, .ref aG, .ref aK, .long sS, .ref aTx, .int sTl, .int sPl, .ref aRd])), (aAl, .inl (cyJ, 76, .inr (.inl sAl))), (aSv, .inl (cyJ, 304, .inr (.inl sSv))), (aAs, .inl (cyJ, 76, .inr (.inl sAs))), (aF, .inl (cyJ, 3, .inr (.inl sF))), (aG, .inl (cyJ, 3, .inr (.inl sG))), (aK, .inl (cyJ, 3, .inr (.inl sK))), (aTx, .inl (cyI, 120, .inl sTx)), (aRd, .inl (cyI, 63, .inl sRd))] s.heap.size = A at hD ⊢
  have hA : ∀ q : Nat, s.heap.size ≤ q → A q := fun q h => by rw [← hAe]; exact Or.inr h
  have hS : va_S A s.heap s.heap [] := va_S.rf
  have hP : va_P (dC, dI) vwCl [(h, .inr (6, [.ref aAl, .ref aSv, .ref aAs, .int sN, .int sTh, .ref aF, .ref aG, .ref aK, .long sS, .ref aTx, .int sTl, .int sPl, .ref aRd])), (aAl, .inl (cyJ, 76, .inr (.inl sAl))), (aSv, .inl (cyJ, 304, .inr (.inl sSv))), (aAs, .inl (cyJ, 76, .inr (.inl sAs))), (aF, .inl (cyJ, 3, .inr (.inl sF))), (aG, .inl (cyJ, 3, .inr (.inl sG))), (aK, .inl (cyJ, 3, .inr (.inl sK))), (aTx, .inl (cyI, 120, .inl sTx)), (aRd, .inl (cyI, 63, .inl sRd))] s.heap := hP
  have hl := lv_entry ([.ref h, .int w1]) (n := 2) (Nat.le_of_ble_eq_true rfl)
  rw [lg_entry_eq]
  generalize (lg_sl ([.ref h, .int w1]) ++ List.replicate (2 - (lg_sl ([.ref h, .int w1])).length) Slot.unset).toArray = ls at hl ⊢
  have hl : lv_has ls 2 [(0, .ref h), (1, .int w1)] := hl
  unfold F_X6_bias at hF
  refine lv_aload_n hx hb dX6_bias_0 rfl (lv_at hl 0 rfl) ?_
  refine lv_iload_n hx hb dX6_bias_1 rfl (lv_at hl 1 rfl) ?_
  refine lv_i2l (v := w1.toInt64) hx hb dX6_bias_2 rfl ?_
  refine lv_lconst (v := 0) hx hb dX6_bias_3 (by decide) ?_
  refine lv_ldc2 (v := 2) hx hb hown (hts _ kX6_bias_1) dX6_bias_4 ?_
  obtain ⟨o1, ho1, hF⟩ := ob_e hF
  refine x_callzi (va_runS (As := [.long w1.toInt64, .long 0, .long 2]) (rest := [.ref h]) ⟨hx, hb, hml, hown, hts⟩ (c_X6_in l w1.toInt64 0 2 ho1) (va_cwS 3 hts gX6_bias_X6_in rfl rfl rfl (by decide +kernel) ⟨Nat.le_of_ble_eq_true rfl, Nat.le_of_ble_eq_true rfl⟩) ⟨true_blind, fun _ _ _ => ⟨rfl, trivial⟩⟩ rfl rfl hl.1 rfl (lv_room (Nat.le_of_ble_eq_true rfl)) dX6_bias_7 ⟨Nat.le_of_ble_eq_true rfl, Nat.le_of_ble_eq_true rfl⟩) ?_
  refine lv_iconst (v := 1) hx hb dX6_bias_10 (by decide) ?_
  obtain ⟨o2, ho2, hF⟩ := ob_e hF
  refine x_calli (wr := []) (ws' := [(h, .inr (6, [.ref aAl, .ref aSv, .ref aAs, .int sN, .int o2.2, .ref aF, .ref aG, .ref aK, .long sS, .ref aTx, .int sTl, .int sPl, .ref aRd])), (aAl, .inl (cyJ, 76, .inr (.inl sAl))), (aSv, .inl (cyJ, 304, .inr (.inl sSv))), (aAs, .inl (cyJ, 76, .inr (.inl sAs))), (aF, .inl (cyJ, 3, .inr (.inl sF))), (aG, .inl (cyJ, 3, .inr (.inl sG))), (aK, .inl (cyJ, 3, .inr (.inl sK))), (aTx, .inl (cyI, 120, .inl sTx)), (aRd, .inl (cyI, 63, .inl sRd))]) (va_runV (As := [.int o1, .int 1]) (rest := []) ⟨hx, hb, hml, hown, hts⟩ (c_X6_goes l dC dI cyI cyJ cyB cyS cyD h aAl aSv aAs aF aG aK aTx aRd s.heap.size sN sTh sS sTl sPl sAl sSv sAs sF sG sK sTx sRd o1 1 ho2) (cwV 2 hts gX6_bias_X6_goes rfl rfl rfl (by decide +kernel) ⟨Nat.le_of_ble_eq_true rfl, Nat.le_of_ble_eq_true rfl⟩) ⟨cPre_blind, va_recv hK hP (ci := 6) (q0 := 0) rfl rfl, x_pre hN hP hD hK [0, 1, 2, 3, 4, 5, 6, 7, 8] rfl rfl⟩ rfl rfl hl.1 rfl (lv_room (Nat.le_of_ble_eq_true rfl)) dX6_bias_11 ⟨Nat.le_of_ble_eq_true rfl, Nat.le_of_ble_eq_true rfl⟩) hP hD hS hA [0, 1, 2, 3, 4, 5, 6, 7, 8] [] [0, 1, 2, 3, 4, 5, 6, 7, 8] rfl rfl rfl (by decide) rfl rfl (fun H locs hP hD hS => ?_)
  refine lv_if_eq (tgt := 50) hx hb dX6_bias_14 (by decide) (fun c3 => ?_) (fun c3 => ?_)
  · have hF := ite_t hF c3
    refine lv_iconst (v := 0) hx hb dX6_bias_50 (by decide) ?_
    obtain rfl := some_e hF
    exact W.iret (v := 0) hx hb hr (fun t ht hW => ⟨⟨0, (), rfl, rfl, ⟨by rw [ht]; exact hP, va_K.moved hW.alike hK, hD⟩⟩, hS.F ht⟩) hS.2.2 dX6_bias_51
  · have hF := ite_f hF c3
    refine lv_aload_n hx hb dX6_bias_17 rfl (lv_at hl 0 rfl) ?_
    refine va_get (D := (dC, dI)) (ci := 6) (v := .ref aAl) (C := RX6) (T := TX6) (N := 13) hx hb hts iX6_bias_X6 hown hK hP 0 rfl rfl 0 (by decide) (hts _ kX6_bias_2) (fun _ h9 => h9) rfl dX6_bias_18 ?_
    refine lv_bipush (v := 13) hx hb dX6_bias_21 (by decide) ?_
    refine lv_iload_n hx hb dX6_bias_23 rfl (lv_at hl 1 rfl) ?_
    refine lv_iadd hx hb dX6_bias_24 ?_
    obtain ⟨g4, hF⟩ := ck_e hF
    refine x_lald hx hb hK hP 1 1 rfl rfl rfl g4 dX6_bias_25 ?_
    refine lv_ldc2 (v := 65536) hx hb hown (hts _ kX6_bias_3) dX6_bias_26 ?_
    refine lv_aload_n hx hb dX6_bias_29 rfl (lv_at hl 0 rfl) ?_
    refine va_get (D := (dC, dI)) (ci := 6) (v := .ref aAl) (C := RX6) (T := TX6) (N := 13) hx hb hts iX6_bias_X6 hown hK hP 0 rfl rfl 0 (by decide) (hts _ kX6_bias_2) (fun _ h9 => h9) rfl dX6_bias_30 ?_
    refine lv_bipush (v := 30) hx hb dX6_bias_33 (by decide) ?_
    refine lv_iload_n hx hb dX6_bias_35 rfl (lv_at hl 1 rfl) ?_
    refine lv_iadd hx hb dX6_bias_36 ?_
    obtain ⟨g5, hF⟩ := ck_e hF
    refine x_lald hx hb hK hP 1 1 rfl rfl rfl g5 dX6_bias_37 ?_
    refine lv_lmul hx hb dX6_bias_38 ?_
    refine lv_ldc2 (v := 1000) hx hb hown (hts _ kX6_bias_4) dX6_bias_39 ?_
    obtain ⟨o6, ho6, hF⟩ := ob_e hF
    refine x_callzl (va_runS (As := [.long (65536 * (sAl ((30 + w1).toNatClampNeg))), .long 1000]) (rest := [.long (sAl ((13 + w1).toNatClampNeg))]) ⟨hx, hb, hml, hown, hts⟩ (c_X6_floor l (65536 * (sAl ((30 + w1).toNatClampNeg))) 1000 ho6) (va_cwS 2 hts gX6_bias_X6_floor rfl rfl rfl (by decide +kernel) ⟨Nat.le_of_ble_eq_true rfl, Nat.le_of_ble_eq_true rfl⟩) ⟨true_blind, fun _ _ _ => ⟨rfl, trivial⟩⟩ rfl rfl hl.1 rfl (lv_room (Nat.le_of_ble_eq_true rfl)) dX6_bias_42 ⟨Nat.le_of_ble_eq_true rfl, Nat.le_of_ble_eq_true rfl⟩) ?_
    refine lv_lsub hx hb dX6_bias_45 ?_
    refine lv_l2i (v := ((sAl ((13 + w1).toNatClampNeg)) - o6).toInt32) hx hb dX6_bias_46 rfl ?_
    refine lv_goto (tgt := 51) hx hb dX6_bias_47 (by decide) ?_
    obtain rfl := some_e hF
    exact W.iret (v := ((sAl ((13 + w1).toNatClampNeg)) - o6).toInt32) hx hb hr (fun t ht hW => ⟨⟨((sAl ((13 + w1).toNatClampNeg)) - o6).toInt32, (), rfl, rfl, ⟨by rw [ht]; exact hP, va_K.moved hW.alike hK, hD⟩⟩, hS.F ht⟩) hS.2.2 dX6_bias_51
def F_X6_costs_18 (w2 : Int32) (w1 : Int64) : Nat → ((Int64 × Int64 × (Nat → Int64) × (Nat → Int64) × (Nat → Int64) × (Nat → Int64)) → Option (Int64 × Int64 × (Nat → Int64) × (Nat → Int64) × (Nat → Int64) × (Nat → Int64) × (Nat → Int64))) → Int64 → Int32 → Int64 → (Nat → Int64) → (Nat → Int64) → (Nat → Int64) → (Nat → Int64) → Option (Int64 × Int64 × (Nat → Int64) × (Nat → Int64) × (Nat → Int64) × (Nat → Int64) × (Nat → Int64))
  | 0, _, _, _, _, _, _, _, _ => none
  | n3 + 1, K4, v5, v6, v7, v8, v9, v10, v11 => if (w2 : Int32) ≤ v6 then (K4 (v5, v7, v8, v9, v10, v11)) else (ob (F_X6_stepsClosed v7 v8 v9 v10 v11 w1) (fun o13 => lt_ (α := Int64) (w1 - (o13.2.1 35)) (fun v14 => rg (α := Int64) (fun K17 => if (v14 : Int64) < 0 then (K17 (-v14)) else (K17 v14)) (fun x16 => lt_ (α := Int64) (v5 + x16) (fun v18 => lt_ (α := Int32) (v6 + 1) (fun v19 => F_X6_costs_18 w2 w1 n3 K4 v18 v19 o13.1 o13.2.1 o13.2.2.1 o13.2.2.2.1 o13.2.2.2.2))))))
def F_X6_costs (sS : Int64) (sAl : Nat → Int64) (sAs : Nat → Int64) (sF : Nat → Int64) (sG : Nat → Int64) (sK : Nat → Int64) (w1 : Int64) (w2 : Int32) (w3 : Int64) : Option (Int64 × Int64 × (Nat → Int64) × (Nat → Int64) × (Nat → Int64) × (Nat → Int64) × (Nat → Int64)) := ob (F_X6_lays sAl sAs) (fun o1 => lt_ (α := Nat → Int64) (vp_updL sAl 5 w3) (fun v2 => F_X6_costs_18 w2 w1 1000 (fun x20 => ob (F_X6_takesBack x20.2.2.1 o1) (fun o21 => some (x20.1, x20.2.1, o21, o1, x20.2.2.2.1, x20.2.2.2.2.1, x20.2.2.2.2.2))) 0 0 sS v2 sF sG sK))
theorem kX6_costs_1 : (Cond.fieldLink RX6 7 "SelfTunerModel" "all" "[J") ∈ wsX6_costs := List.mem_of_getElem? (i := 1) rfl
theorem iX6_costs_X6 : ∀ w ∈ wsX60, w ∈ wsX6_costs := fun w h => List.mem_cons_of_mem _ (List.mem_append_right _ h)
set_option maxHeartbeats 4000000 in
set_option maxRecDepth 100000 in
theorem c_X6_costs (l : Launch) (dC : Nat → ClassId) (dI : Nat → Nat → Nat) (cyI cyJ cyB cyS cyD : ClassId) (h : Nat) (aAl : Nat) (aSv : Nat) (aAs : Nat) (aF : Nat) (aG : Nat) (aK : Nat) (aTx : Nat) (aRd : Nat) (sz : Nat) (sN : Int32) (sTh : Int32) (sS : Int64) (sTl : Int32) (sPl : Int32) (sAl : Nat → Int64) (sSv : Nat → Int64) (sAs : Nat → Int64) (sF : Nat → Int64) (sG : Nat → Int64) (sK : Nat → Int64) (sTx : Nat → Int32) (sRd : Nat → Int32) (w1 : Int64) (w2 : Int32) (w3 : Int64) {out : Int64 × Int64 × (Nat → Int64) × (Nat → Int64) × (Nat → Int64) × (Nat → Int64) × (Nat → Int64)} (hF : F_X6_costs sS sAl sAs sF sG sK w1 w2 w3 = some out) : Ml l yX6_costs wsX6_costs ({ frames := 5, cells := 0, slots := 0, locals := 136 } : Room) (dC, dI) [(cyI, .int), (cyJ, .long), (cyB, .byte), (cyS, .object "SelfTuner$State"), (cyD, .double)] sz [.ref h, .long w1, .int w2, .long w3] [(h, .inr (6, [.ref aAl, .ref aSv, .ref aAs, .int sN, .int sTh, .ref aF, .ref aG, .ref aK, .long sS, .ref aTx, .int sTl, .int sPl, .ref aRd])), (aAl, .inl (cyJ, 76, .inr (.inl sAl))), (aSv, .inl (cyJ, 304, .inr (.inl sSv))), (aAs, .inl (cyJ, 76, .inr (.inl sAs))), (aF, .inl (cyJ, 3, .inr (.inl sF))), (aG, .inl (cyJ, 3, .inr (.inl sG))), (aK, .inl (cyJ, 3, .inr (.inl sK))), (aTx, .inl (cyI, 120, .inl sTx)), (aRd, .inl (cyI, 63, .inl sRd))] out.1 [(h, .inr (6, [.ref aAl, .ref aSv, .ref aAs, .int sN, .int sTh, .ref aF, .ref aG, .ref aK, .long out.2.1, .ref aTx, .int sTl, .int sPl, .ref aRd])), (aAl, .inl (cyJ, 76, .inr (.inl out.2.2.1))), (aSv, .inl (cyJ, 304, .inr (.inl sSv))), (aAs, .inl (cyJ, 76, .inr (.inl out.2.2.2.1))), (aF, .inl (cyJ, 3, .inr (.inl out.2.2.2.2.1))), (aG, .inl (cyJ, 3, .inr (.inl out.2.2.2.2.2.1))), (aK, .inl (cyJ, 3, .inr (.inl out.2.2.2.2.2.2))), (aTx, .inl (cyI, 120, .inl sTx)), (aRd, .inl (cyI, 63, .inl sRd))] := by
  refine Met.ofW (cc := cX6_costs) (maxL := 11) (ret := (some .long)) (by decide) rfl ?_
  intro p e s m args below meth c s₁ B hml hv
  obtain ⟨rfl, hN, hsz, hP, hK, hD0⟩ := hv
  have hx := B.exec
  have hb := B.bytes
  have hr := B.returns
  have hts := atoms_spec (ws := wsX6_costs) B.pre
  have hown : s.vm.findClass RX6 = some m.cls := findClass_of_methodNamed B.named
  have hlocks := B.notSynchronized
  subst hsz
  have hD := hD0.self (sz := s.heap.size)
  generalize hAe : va_A [(h, .inr (6, [.ref aAl, .ref aSv, .ref aAs, .int sN, .int sTh, .ref aF, .ref aG, .ref aK, .long sS, .ref aTx, .int sTl, .int sPl, .ref aRd])), (aAl, .inl (cyJ, 76, .inr (.inl sAl))), (aSv, .inl (cyJ, 304, .inr (.inl sSv))), (aAs, .inl (cyJ, 76, .inr (.inl sAs))), (aF, .inl (cyJ, 3, .inr (.inl sF))), (aG, .inl (cyJ, 3, .inr (.inl sG))), (aK, .inl (cyJ, 3, .inr (.inl sK))), (aTx, .inl (cyI, 120, .inl sTx)), (aRd, .inl (cyI, 63, .inl sRd))] s.heap.size = A at hD ⊢
  have hA : ∀ q : Nat, s.heap.size ≤ q → A q := fun q h => by rw [← hAe]; exact Or.inr h
  have hS : va_S A s.heap s.heap [] := va_S.rf
  have hP : va_P (dC, dI) vwCl [(h, .inr (6, [.ref aAl, .ref aSv, .ref aAs, .int sN, .int sTh, .ref aF, .ref aG, .ref aK, .long sS, .ref aTx, .int sTl, .int sPl, .ref aRd])), (aAl, .inl (cyJ, 76, .inr (.inl sAl))), (aSv, .inl (cyJ, 304, .inr (.inl sSv))), (aAs, .inl (cyJ, 76, .inr (.inl sAs))), (aF, .inl (cyJ, 3, .inr (.inl sF))), (aG, .inl (cyJ, 3, .inr (.inl sG))), (aK, .inl (cyJ, 3, .inr (.inl sK))), (aTx, .inl (cyI, 120, .inl sTx)), (aRd, .inl (cyI, 63, .inl sRd))] s.heap := hP
  have hl := lv_entry ([.ref h, .long w1, .int w2, .long w3]) (n := 11) (Nat.le_of_ble_eq_true rfl)
  rw [lg_entry_eq]
  generalize (lg_sl ([.ref h, .long w1, .int w2, .long w3]) ++ List.replicate (11 - (lg_sl ([.ref h, .long w1, .int w2, .long w3])).length) Slot.unset).toArray = ls at hl ⊢
  have hl : lv_has ls 11 [(0, .ref h), (1, .long w1), (3, .int w2), (4, .long w3)] := hl
  unfold F_X6_costs at hF
  refine lv_aload_n hx hb dX6_costs_0 rfl (lv_at hl 0 rfl) ?_
  obtain ⟨o1, ho1, hF⟩ := ob_e hF
  refine x_callv (wr := []) (ws' := [(h, .inr (6, [.ref aAl, .ref aSv, .ref aAs, .int sN, .int sTh, .ref aF, .ref aG, .ref aK, .long sS, .ref aTx, .int sTl, .int sPl, .ref aRd])), (aAl, .inl (cyJ, 76, .inr (.inl sAl))), (aSv, .inl (cyJ, 304, .inr (.inl sSv))), (aAs, .inl (cyJ, 76, .inr (.inl o1))), (aF, .inl (cyJ, 3, .inr (.inl sF))), (aG, .inl (cyJ, 3, .inr (.inl sG))), (aK, .inl (cyJ, 3, .inr (.inl sK))), (aTx, .inl (cyI, 120, .inl sTx)), (aRd, .inl (cyI, 63, .inl sRd))]) (va_runV (As := []) (rest := []) ⟨hx, hb, hml, hown, hts⟩ (c_X6_lays l dC dI cyI cyJ cyB cyS cyD h aAl aSv aAs aF aG aK aTx aRd s.heap.size sN sTh sS sTl sPl sAl sSv sAs sF sG sK sTx sRd ho1) (cwV 0 hts gX6_costs_X6_lays rfl rfl rfl (by decide +kernel) ⟨Nat.le_of_ble_eq_true rfl, Nat.le_of_ble_eq_true rfl⟩) ⟨cPre_blind, va_recv hK hP (ci := 6) (q0 := 0) rfl rfl, x_pre hN hP hD hK [0, 1, 2, 3, 4, 5, 6, 7, 8] rfl rfl⟩ rfl rfl hl.1 rfl (lv_room (Nat.le_of_ble_eq_true rfl)) dX6_costs_1 ⟨Nat.le_of_ble_eq_true rfl, Nat.le_of_ble_eq_true rfl⟩) hP hD hS hA [0, 1, 2, 3, 4, 5, 6, 7, 8] [] [0, 1, 2, 3, 4, 5, 6, 7, 8] rfl rfl rfl (by decide) rfl rfl (fun H locs hP hD hS => ?_)
  refine lv_aload_n hx hb dX6_costs_4 rfl (lv_at hl 0 rfl) ?_
  refine va_get (D := (dC, dI)) (ci := 6) (v := .ref aAl) (C := RX6) (T := TX6) (N := 13) hx hb hts iX6_costs_X6 hown hK hP 0 rfl rfl 0 (by decide) (hts _ kX6_costs_1) (fun _ h9 => h9) rfl dX6_costs_5 ?_
  refine lv_iconst (v := 5) hx hb dX6_costs_8 (by decide) ?_
  refine lv_lload hx hb dX6_costs_9 (lv_at hl 3 rfl) ?_
  obtain ⟨v2, hv2, hF⟩ := lt_e hF
  refine x_last (ws' := [(h, .inr (6, [.ref aAl, .ref aSv, .ref aAs, .int sN, .int sTh, .ref aF, .ref aG, .ref aK, .long sS, .ref aTx, .int sTl, .int sPl, .ref aRd])), (aAl, .inl (cyJ, 76, .inr (.inl v2))), (aSv, .inl (cyJ, 304, .inr (.inl sSv))), (aAs, .inl (cyJ, 76, .inr (.inl o1))), (aF, .inl (cyJ, 3, .inr (.inl sF))), (aG, .inl (cyJ, 3, .inr (.inl sG))), (aK, .inl (cyJ, 3, .inr (.inl sK))), (aTx, .inl (cyI, 120, .inl sTx)), (aRd, .inl (cyI, 63, .inl sRd))]) hx hb hK hP hD hS 1 1 rfl rfl (show (5 : Int32).toNatClampNeg = 5 by decide) (inbK (k := 5) (by decide) rfl) hv2 rfl dX6_costs_11 (fun H locs hP hD hS => ?_)
  refine lv_lconst (v := 0) hx hb dX6_costs_12 (by decide) ?_
  refine lv_lstore (lv' := [(6, .long 0), (0, .ref h), (1, .long w1), (3, .int w2), (4, .long w3)]) hx hb dX6_costs_13 hl (by decide) rfl (fun ls hl => ?_)
  refine lv_iconst (v := 0) hx hb dX6_costs_15 (by decide) ?_
  refine lv_istore (lv' := [(8, .int 0), (6, .long 0), (0, .ref h), (1, .long w1), (3, .int w2), (4, .long w3)]) hx hb dX6_costs_16 hl (by decide) rfl (fun ls hl => ?_)
  have Ln3 : ∀ (n3 : Nat) (K4 : (Int64 × Int64 × (Nat → Int64) × (Nat → Int64) × (Nat → Int64) × (Nat → Int64)) → Option (Int64 × Int64 × (Nat → Int64) × (Nat → Int64) × (Nat → Int64) × (Nat → Int64) × (Nat → Int64))) (v5 : Int64) (v6 : Int32) (v7 : Int64) (v8 : Nat → Int64) (v9 : Nat → Int64) (v10 : Nat → Int64) (v11 : Nat → Int64) (H : Heap) (locs : List Loc) (ls : Array Slot), F_X6_costs_18 w2 w1 n3 K4 v5 v6 v7 v8 v9 v10 v11 = some out → va_P (dC, dI) vwCl [(h, .inr (6, [.ref aAl, .ref aSv, .ref aAs, .int sN, .int sTh, .ref aF, .ref aG, .ref aK, .long v7, .ref aTx, .int sTl, .int sPl, .ref aRd])), (aAl, .inl (cyJ, 76, .inr (.inl v8))), (aSv, .inl (cyJ, 304, .inr (.inl sSv))), (aAs, .inl (cyJ, 76, .inr (.inl o1))), (aF, .inl (cyJ, 3, .inr (.inl v9))), (aG, .inl (cyJ, 3, .inr (.inl v10))), (aK, .inl (cyJ, 3, .inr (.inl v11))), (aTx, .inl (cyI, 120, .inl sTx)), (aRd, .inl (cyI, 63, .inl sRd))] H → va_D A [(h, .inr (6, [.ref aAl, .ref aSv, .ref aAs, .int sN, .int sTh, .ref aF, .ref aG, .ref aK, .long v7, .ref aTx, .int sTl, .int sPl, .ref aRd])), (aAl, .inl (cyJ, 76, .inr (.inl v8))), (aSv, .inl (cyJ, 304, .inr (.inl sSv))), (aAs, .inl (cyJ, 76, .inr (.inl o1))), (aF, .inl (cyJ, 3, .inr (.inl v9))), (aG, .inl (cyJ, 3, .inr (.inl v10))), (aK, .inl (cyJ, 3, .inr (.inl v11))), (aTx, .inl (cyI, 120, .inl sTx)), (aRd, .inl (cyI, 63, .inl sRd))] → va_S A s.heap H locs → lv_has ls 11 [(0, .ref h), (1, .long w1), (3, .int w2), (6, .long v5), (8, .int v6)] → (∀ (x20 : Int64 × Int64 × (Nat → Int64) × (Nat → Int64) × (Nat → Int64) × (Nat → Int64)) (H : Heap) (locs : List Loc) (ls : Array Slot), K4 x20 = some out → va_P (dC, dI) vwCl [(h, .inr (6, [.ref aAl, .ref aSv, .ref aAs, .int sN, .int sTh, .ref aF, .ref aG, .ref aK, .long x20.2.1, .ref aTx, .int sTl, .int sPl, .ref aRd])), (aAl, .inl (cyJ, 76, .inr (.inl x20.2.2.1))), (aSv, .inl (cyJ, 304, .inr (.inl sSv))), (aAs, .inl (cyJ, 76, .inr (.inl o1))), (aF, .inl (cyJ, 3, .inr (.inl x20.2.2.2.1))), (aG, .inl (cyJ, 3, .inr (.inl x20.2.2.2.2.1))), (aK, .inl (cyJ, 3, .inr (.inl x20.2.2.2.2.2))), (aTx, .inl (cyI, 120, .inl sTx)), (aRd, .inl (cyI, 63, .inl sRd))] H → va_D A [(h, .inr (6, [.ref aAl, .ref aSv, .ref aAs, .int sN, .int sTh, .ref aF, .ref aG, .ref aK, .long x20.2.1, .ref aTx, .int sTl, .int sPl, .ref aRd])), (aAl, .inl (cyJ, 76, .inr (.inl x20.2.2.1))), (aSv, .inl (cyJ, 304, .inr (.inl sSv))), (aAs, .inl (cyJ, 76, .inr (.inl o1))), (aF, .inl (cyJ, 3, .inr (.inl x20.2.2.2.1))), (aG, .inl (cyJ, 3, .inr (.inl x20.2.2.2.2.1))), (aK, .inl (cyJ, 3, .inr (.inl x20.2.2.2.2.2))), (aTx, .inl (cyI, 120, .inl sTx)), (aRd, .inl (cyI, 63, .inl sRd))] → va_S A s.heap H locs → lv_has ls 11 [(0, .ref h), (6, .long x20.1)] → W p l e (headSpec wsX6_costs ({ frames := 5, cells := 0, slots := 0, locals := 136 } : Room)).room s m ([.ref h, .long w1, .int w2, .long w3] : List Value).toArray below meth c H locs 0 0 (MQ below (va_Ql (fun (r' : Int64) (_ : Unit) => r' = out.1) (cPost (dC, dI) [(cyI, .int), (cyJ, .long), (cyB, .byte), (cyS, .object "SelfTuner$State"), (cyD, .double)] [(h, .inr (6, [.ref aAl, .ref aSv, .ref aAs, .int sN, .int sTh, .ref aF, .ref aG, .ref aK, .long out.2.1, .ref aTx, .int sTl, .int sPl, .ref aRd])), (aAl, .inl (cyJ, 76, .inr (.inl out.2.2.1))), (aSv, .inl (cyJ, 304, .inr (.inl sSv))), (aAs, .inl (cyJ, 76, .inr (.inl out.2.2.2.1))), (aF, .inl (cyJ, 3, .inr (.inl out.2.2.2.2.1))), (aG, .inl (cyJ, 3, .inr (.inl out.2.2.2.2.2.1))), (aK, .inl (cyJ, 3, .inr (.inl out.2.2.2.2.2.2))), (aTx, .inl (cyI, 120, .inl sTx)), (aRd, .inl (cyI, 63, .inl sRd))] A) A) ([.ref h, .long w1, .int w2, .long w3] : List Value).toArray s 0 0 A) (F0 m 66 ls [])) → W p l e (headSpec wsX6_costs ({ frames := 5, cells := 0, slots := 0, locals := 136 } : Room)).room s m ([.ref h, .long w1, .int w2, .long w3] : List Value).toArray below meth c H locs 0 0 (MQ below (va_Ql (fun (r' : Int64) (_ : Unit) => r' = out.1) (cPost (dC, dI) [(cyI, .int), (cyJ, .long), (cyB, .byte), (cyS, .object "SelfTuner$State"), (cyD, .double)] [(h, .inr (6, [.ref aAl, .ref aSv, .ref aAs, .int sN, .int sTh, .ref aF, .ref aG, .ref aK, .long out.2.1, .ref aTx, .int sTl, .int sPl, .ref aRd])), (aAl, .inl (cyJ, 76, .inr (.inl out.2.2.1))), (aSv, .inl (cyJ, 304, .inr (.inl sSv))), (aAs, .inl (cyJ, 76, .inr (.inl out.2.2.2.1))), (aF, .inl (cyJ, 3, .inr (.inl out.2.2.2.2.1))), (aG, .inl (cyJ, 3, .inr (.inl out.2.2.2.2.2.1))), (aK, .inl (cyJ, 3, .inr (.inl out.2.2.2.2.2.2))), (aTx, .inl (cyI, 120, .inl sTx)), (aRd, .inl (cyI, 63, .inl sRd))] A) A) ([.ref h, .long w1, .int w2, .long w3] : List Value).toArray s 0 0 A) (F0 m 18 ls []) := by
    intro n3
    induction n3 with
    | zero => intro K4 v5 v6 v7 v8 v9 v10 v11 H locs ls hF; exact no_e (show none = some out from hF)
    | succ n3 ihn3 =>
      intro K4 v5 v6 v7 v8 v9 v10 v11 H locs ls hF hP hD hS hl kxn3
      rw [F_X6_costs_18] at hF
      refine lv_iload hx hb dX6_costs_18 (lv_at hl 4 rfl) ?_
      refine lv_iload_n hx hb dX6_costs_20 rfl (lv_at hl 2 rfl) ?_
      refine lv_icmp_ge (tgt := 66) hx hb dX6_costs_21 (by decide) (fun c12 => ?_) (fun c12 => ?_)
      · have hF := ite_t hF c12
        exact kxn3 _ _ _ _ hF hP hD hS (lv_sub hl [0, 3] rfl)
      · have hF := ite_f hF c12
        refine lv_aload_n hx hb dX6_costs_24 rfl (lv_at hl 0 rfl) ?_
        refine lv_lload_n hx hb dX6_costs_25 rfl (lv_at hl 1 rfl) ?_
        obtain ⟨o13, ho13, hF⟩ := ob_e hF
        refine x_callv (wr := []) (ws' := [(h, .inr (6, [.ref aAl, .ref aSv, .ref aAs, .int sN, .int sTh, .ref aF, .ref aG, .ref aK, .long o13.1, .ref aTx, .int sTl, .int sPl, .ref aRd])), (aAl, .inl (cyJ, 76, .inr (.inl o13.2.1))), (aSv, .inl (cyJ, 304, .inr (.inl sSv))), (aAs, .inl (cyJ, 76, .inr (.inl o1))), (aF, .inl (cyJ, 3, .inr (.inl o13.2.2.1))), (aG, .inl (cyJ, 3, .inr (.inl o13.2.2.2.1))), (aK, .inl (cyJ, 3, .inr (.inl o13.2.2.2.2))), (aTx, .inl (cyI, 120, .inl sTx)), (aRd, .inl (cyI, 63, .inl sRd))]) (va_runV (As := [.long w1]) (rest := []) ⟨hx, hb, hml, hown, hts⟩ (c_X6_stepsClosed l dC dI cyI cyJ cyB cyS cyD h aAl aSv aAs aF aG aK aTx aRd H.size sN sTh v7 sTl sPl v8 sSv o1 v9 v10 v11 sTx sRd w1 ho13) (cwV 1 hts gX6_costs_X6_stepsClosed rfl rfl rfl (by decide +kernel) ⟨Nat.le_of_ble_eq_true rfl, Nat.le_of_ble_eq_true rfl⟩) ⟨cPre_blind, va_recv hK hP (ci := 6) (q0 := 0) rfl rfl, x_pre hN hP hD hK [0, 1, 2, 3, 4, 5, 6, 7, 8] rfl rfl⟩ rfl rfl hl.1 rfl (lv_room (Nat.le_of_ble_eq_true rfl)) dX6_costs_26 ⟨Nat.le_of_ble_eq_true rfl, Nat.le_of_ble_eq_true rfl⟩) hP hD hS hA [0, 1, 2, 3, 4, 5, 6, 7, 8] [] [0, 1, 2, 3, 4, 5, 6, 7, 8] rfl rfl rfl (by decide) rfl rfl (fun H locs hP hD hS => ?_)
        refine lv_lload_n hx hb dX6_costs_29 rfl (lv_at hl 1 rfl) ?_
        refine lv_aload_n hx hb dX6_costs_30 rfl (lv_at hl 0 rfl) ?_
        refine va_get (D := (dC, dI)) (ci := 6) (v := .ref aAl) (C := RX6) (T := TX6) (N := 13) hx hb hts iX6_costs_X6 hown hK hP 0 rfl rfl 0 (by decide) (hts _ kX6_costs_1) (fun _ h9 => h9) rfl dX6_costs_31 ?_
        refine lv_bipush (v := 35) hx hb dX6_costs_34 (by decide) ?_
        refine x_lald hx hb hK hP 1 1 rfl rfl (show (35 : Int32).toNatClampNeg = 35 by decide) (inbK (k := 35) (by decide) rfl) dX6_costs_36 ?_
        refine lv_lsub hx hb dX6_costs_37 ?_
        obtain ⟨v14, hv14, hF⟩ := lt_e hF
        refine x_topl hv14 ?_
        refine lv_lstore (lv' := [(9, .long v14), (0, .ref h), (1, .long w1), (3, .int w2), (6, .long v5), (8, .int v6)]) hx hb dX6_costs_38 hl (by decide) rfl (fun ls hl => ?_)
        refine lv_lload hx hb dX6_costs_40 (lv_at hl 4 rfl) ?_
        refine lv_lload hx hb dX6_costs_42 (lv_at hl 0 rfl) ?_
        refine lv_lconst (v := 0) hx hb dX6_costs_44 (by decide) ?_
        refine W.lcmp hx hb dX6_costs_45 ?_
        obtain ⟨K17, hK17, hF⟩ := rg_e hF
        have Jx16 : ∀ (x16 : Int64) (H : Heap) (locs : List Loc) (ls : Array Slot), K17 x16 = some out → va_P (dC, dI) vwCl [(h, .inr (6, [.ref aAl, .ref aSv, .ref aAs, .int sN, .int sTh, .ref aF, .ref aG, .ref aK, .long o13.1, .ref aTx, .int sTl, .int sPl, .ref aRd])), (aAl, .inl (cyJ, 76, .inr (.inl o13.2.1))), (aSv, .inl (cyJ, 304, .inr (.inl sSv))), (aAs, .inl (cyJ, 76, .inr (.inl o1))), (aF, .inl (cyJ, 3, .inr (.inl o13.2.2.1))), (aG, .inl (cyJ, 3, .inr (.inl o13.2.2.2.1))), (aK, .inl (cyJ, 3, .inr (.inl o13.2.2.2.2))), (aTx, .inl (cyI, 120, .inl sTx)), (aRd, .inl (cyI, 63, .inl sRd))] H → va_D A [(h, .inr (6, [.ref aAl, .ref aSv, .ref aAs, .int sN, .int sTh, .ref aF, .ref aG, .ref aK, .long o13.1, .ref aTx, .int sTl, .int sPl, .ref aRd])), (aAl, .inl (cyJ, 76, .inr (.inl o13.2.1))), (aSv, .inl (cyJ, 304, .inr (.inl sSv))), (aAs, .inl (cyJ, 76, .inr (.inl o1))), (aF, .inl (cyJ, 3, .inr (.inl o13.2.2.1))), (aG, .inl (cyJ, 3, .inr (.inl o13.2.2.2.1))), (aK, .inl (cyJ, 3, .inr (.inl o13.2.2.2.2))), (aTx, .inl (cyI, 120, .inl sTx)), (aRd, .inl (cyI, 63, .inl sRd))] → va_S A s.heap H locs → lv_has ls 11 [(0, .ref h), (1, .long w1), (3, .int w2), (8, .int v6)] → W p l e (headSpec wsX6_costs ({ frames := 5, cells := 0, slots := 0, locals := 136 } : Room)).room s m ([.ref h, .long w1, .int w2, .long w3] : List Value).toArray below meth c H locs 0 0 (MQ below (va_Ql (fun (r' : Int64) (_ : Unit) => r' = out.1) (cPost (dC, dI) [(cyI, .int), (cyJ, .long), (cyB, .byte), (cyS, .object "SelfTuner$State"), (cyD, .double)] [(h, .inr (6, [.ref aAl, .ref aSv, .ref aAs, .int sN, .int sTh, .ref aF, .ref aG, .ref aK, .long out.2.1, .ref aTx, .int sTl, .int sPl, .ref aRd])), (aAl, .inl (cyJ, 76, .inr (.inl out.2.2.1))), (aSv, .inl (cyJ, 304, .inr (.inl sSv))), (aAs, .inl (cyJ, 76, .inr (.inl out.2.2.2.1))), (aF, .inl (cyJ, 3, .inr (.inl out.2.2.2.2.1))), (aG, .inl (cyJ, 3, .inr (.inl out.2.2.2.2.2.1))), (aK, .inl (cyJ, 3, .inr (.inl out.2.2.2.2.2.2))), (aTx, .inl (cyI, 120, .inl sTx)), (aRd, .inl (cyI, 63, .inl sRd))] A) A) ([.ref h, .long w1, .int w2, .long w3] : List Value).toArray s 0 0 A) (F0 m 57 ls [.long x16, .long v5]) := by
          intro x16 H locs ls hF hP hD hS hl
          rw [hK17] at hF
          refine lv_ladd hx hb dX6_costs_57 ?_
          obtain ⟨v18, hv18, hF⟩ := lt_e hF
          refine x_topl hv18 ?_
          refine lv_lstore (lv' := [(6, .long v18), (0, .ref h), (1, .long w1), (3, .int w2), (8, .int v6)]) hx hb dX6_costs_58 hl (by decide) rfl (fun ls hl => ?_)
          obtain ⟨v19, hv19, hF⟩ := lt_e hF
          refine lv_iinc (v := v19) (lv' := [(8, .int v19), (6, .long v18), (0, .ref h), (1, .long w1), (3, .int w2)]) hx hb dX6_costs_60 hl (k := 4) rfl (by rw [hv19]; rfl) (by decide) rfl (fun ls hl => ?_)
          refine lv_goto (tgt := 18) hx hb dX6_costs_63 (by decide) ?_
          exact ihn3 _ _ _ _ _ _ _ _ _ _ _ hF hP hD hS (lv_sub hl [2, 3, 4, 1, 0] rfl) kxn3
        refine x_il_ge (tgt := 55) hx hb dX6_costs_46 (by decide) (fun c15 => ?_) (fun c15 => ?_)
        · have hF := ite_f hF c15
          refine lv_lload hx hb dX6_costs_55 (lv_at hl 0 rfl) ?_
          exact Jx16 _ _ _ _ hF hP hD hS (lv_sub hl [1, 2, 3, 5] rfl)
        · have hF := ite_t hF c15
          refine lv_lload hx hb dX6_costs_49 (lv_at hl 0 rfl) ?_
          refine lv_lneg hx hb dX6_costs_51 ?_
          refine lv_goto (tgt := 57) hx hb dX6_costs_52 (by decide) ?_
          exact Jx16 _ _ _ _ hF hP hD hS (lv_sub hl [1, 2, 3, 5] rfl)
  refine Ln3 _ _ _ _ _ _ _ _ _ _ _ _ hF hP hD hS (lv_sub hl [2, 3, 4, 1, 0] rfl) (fun x20 H locs ls hF hP hD hS hl => ?_)
  refine lv_aload_n hx hb dX6_costs_66 rfl (lv_at hl 0 rfl) ?_
  obtain ⟨o21, ho21, hF⟩ := ob_e hF
  refine x_callv (wr := []) (ws' := [(h, .inr (6, [.ref aAl, .ref aSv, .ref aAs, .int sN, .int sTh, .ref aF, .ref aG, .ref aK, .long x20.2.1, .ref aTx, .int sTl, .int sPl, .ref aRd])), (aAl, .inl (cyJ, 76, .inr (.inl o21))), (aSv, .inl (cyJ, 304, .inr (.inl sSv))), (aAs, .inl (cyJ, 76, .inr (.inl o1))), (aF, .inl (cyJ, 3, .inr (.inl x20.2.2.2.1))), (aG, .inl (cyJ, 3, .inr (.inl x20.2.2.2.2.1))), (aK, .inl (cyJ, 3, .inr (.inl x20.2.2.2.2.2))), (aTx, .inl (cyI, 120, .inl sTx)), (aRd, .inl (cyI, 63, .inl sRd))]) (va_runV (As := []) (rest := []) ⟨hx, hb, hml, hown, hts⟩ (c_X6_takesBack l dC dI cyI cyJ cyB cyS cyD h aAl aSv aAs aF aG aK aTx aRd H.size sN sTh x20.2.1 sTl sPl x20.2.2.1 sSv o1 x20.2.2.2.1 x20.2.2.2.2.1 x20.2.2.2.2.2 sTx sRd ho21) (cwV 0 hts gX6_costs_X6_takesBack rfl rfl rfl (by decide +kernel) ⟨Nat.le_of_ble_eq_true rfl, Nat.le_of_ble_eq_true rfl⟩) ⟨cPre_blind, va_recv hK hP (ci := 6) (q0 := 0) rfl rfl, x_pre hN hP hD hK [0, 1, 2, 3, 4, 5, 6, 7, 8] rfl rfl⟩ rfl rfl hl.1 rfl (lv_room (Nat.le_of_ble_eq_true rfl)) dX6_costs_67 ⟨Nat.le_of_ble_eq_true rfl, Nat.le_of_ble_eq_true rfl⟩) hP hD hS hA [0, 1, 2, 3, 4, 5, 6, 7, 8] [] [0, 1, 2, 3, 4, 5, 6, 7, 8] rfl rfl rfl (by decide) rfl rfl (fun H locs hP hD hS => ?_)
  refine lv_lload hx hb dX6_costs_70 (lv_at hl 1 rfl) ?_
  obtain rfl := some_e hF
  exact W.lret (v := x20.1) hx hb hr (fun t ht hW => ⟨⟨x20.1, (), rfl, rfl, ⟨by rw [ht]; exact hP, va_K.moved hW.alike hK, hD⟩⟩, hS.F ht⟩) hS.2.2 dX6_costs_72
def F_X6_costOf (sS : Int64) (sAl : Nat → Int64) (sAs : Nat → Int64) (sF : Nat → Int64) (sG : Nat → Int64) (sK : Nat → Int64) (w1 : Int32) (w2 : Int32) : Option (Int64 × Int32 × Int64 × (Nat → Int64) × (Nat → Int64) × (Nat → Int64) × (Nat → Int64) × (Nat → Int64)) := ob (F_X6_isSignal w1.toInt64) (fun o1 => rg (α := Int32) (fun K6 => if (o1 : Int32) = 0 then (K6 0) else (ob (F_X6_in w2.toInt64 0 500) (fun o3 => if (o3 : Int32) = 0 then (K6 0) else (K6 1)))) (fun x5 => ob (F_X6_goes x5 1) (fun o7 => if (o7.1 : Int32) = 0 then (some (0, o7.2, sS, sAl, sAs, sF, sG, sK)) else (ob (F_X6_costs sS sAl sAs sF sG sK w1.toInt64 w2 (sAl 5)) (fun o9 => some (o9.1, o7.2, o9.2.1, o9.2.2.1, o9.2.2.2.1, o9.2.2.2.2.1, o9.2.2.2.2.2.1, o9.2.2.2.2.2.2))))))
theorem kX6_costOf_1 : (Cond.constantLong RX6 41 (500)) ∈ wsX6_costOf := List.mem_of_getElem? (i := 1) rfl
theorem kX6_costOf_2 : (Cond.fieldLink RX6 7 "SelfTunerModel" "all" "[J") ∈ wsX6_costOf := List.mem_of_getElem? (i := 2) rfl
theorem iX6_costOf_X6 : ∀ w ∈ wsX60, w ∈ wsX6_costOf := fun w h => List.mem_cons_of_mem _ (List.mem_append_right _ h)
set_option maxHeartbeats 4000000 in
set_option maxRecDepth 100000 in
theorem c_X6_costOf (l : Launch) (dC : Nat → ClassId) (dI : Nat → Nat → Nat) (cyI cyJ cyB cyS cyD : ClassId) (h : Nat) (aAl : Nat) (aSv : Nat) (aAs : Nat) (aF : Nat) (aG : Nat) (aK : Nat) (aTx : Nat) (aRd : Nat) (sz : Nat) (sN : Int32) (sTh : Int32) (sS : Int64) (sTl : Int32) (sPl : Int32) (sAl : Nat → Int64) (sSv : Nat → Int64) (sAs : Nat → Int64) (sF : Nat → Int64) (sG : Nat → Int64) (sK : Nat → Int64) (sTx : Nat → Int32) (sRd : Nat → Int32) (w1 : Int32) (w2 : Int32) {out : Int64 × Int32 × Int64 × (Nat → Int64) × (Nat → Int64) × (Nat → Int64) × (Nat → Int64) × (Nat → Int64)} (hF : F_X6_costOf sS sAl sAs sF sG sK w1 w2 = some out) : Ml l yX6_costOf wsX6_costOf ({ frames := 6, cells := 0, slots := 0, locals := 166 } : Room) (dC, dI) [(cyI, .int), (cyJ, .long), (cyB, .byte), (cyS, .object "SelfTuner$State"), (cyD, .double)] sz [.ref h, .int w1, .int w2] [(h, .inr (6, [.ref aAl, .ref aSv, .ref aAs, .int sN, .int sTh, .ref aF, .ref aG, .ref aK, .long sS, .ref aTx, .int sTl, .int sPl, .ref aRd])), (aAl, .inl (cyJ, 76, .inr (.inl sAl))), (aSv, .inl (cyJ, 304, .inr (.inl sSv))), (aAs, .inl (cyJ, 76, .inr (.inl sAs))), (aF, .inl (cyJ, 3, .inr (.inl sF))), (aG, .inl (cyJ, 3, .inr (.inl sG))), (aK, .inl (cyJ, 3, .inr (.inl sK))), (aTx, .inl (cyI, 120, .inl sTx)), (aRd, .inl (cyI, 63, .inl sRd))] out.1 [(h, .inr (6, [.ref aAl, .ref aSv, .ref aAs, .int sN, .int out.2.1, .ref aF, .ref aG, .ref aK, .long out.2.2.1, .ref aTx, .int sTl, .int sPl, .ref aRd])), (aAl, .inl (cyJ, 76, .inr (.inl out.2.2.2.1))), (aSv, .inl (cyJ, 304, .inr (.inl sSv))), (aAs, .inl (cyJ, 76, .inr (.inl out.2.2.2.2.1))), (aF, .inl (cyJ, 3, .inr (.inl out.2.2.2.2.2.1))), (aG, .inl (cyJ, 3, .inr (.inl out.2.2.2.2.2.2.1))), (aK, .inl (cyJ, 3, .inr (.inl out.2.2.2.2.2.2.2))), (aTx, .inl (cyI, 120, .inl sTx)), (aRd, .inl (cyI, 63, .inl sRd))] := by
  refine Met.ofW (cc := cX6_costOf) (maxL := 3) (ret := (some .long)) (by decide) rfl ?_
  intro p e s m args below meth c s₁ B hml hv
  obtain ⟨rfl, hN, hsz, hP, hK, hD0⟩ := hv
  have hx := B.exec
  have hb := B.bytes
  have hr := B.returns
  have hts := atoms_spec (ws := wsX6_costOf) B.pre
  have hown : s.vm.findClass RX6 = some m.cls := findClass_of_methodNamed B.named
  have hlocks := B.notSynchronized
  subst hsz
  have hD := hD0.self (sz := s.heap.size)
  generalize hAe : va_A [(h, .inr (6, [.ref aAl, .ref aSv, .ref aAs, .int sN, .int sTh, .ref aF, .ref aG, .ref aK, .long sS, .ref aTx, .int sTl, .int sPl, .ref aRd])), (aAl, .inl (cyJ, 76, .inr (.inl sAl))), (aSv, .inl (cyJ, 304, .inr (.inl sSv))), (aAs, .inl (cyJ, 76, .inr (.inl sAs))), (aF, .inl (cyJ, 3, .inr (.inl sF))), (aG, .inl (cyJ, 3, .inr (.inl sG))), (aK, .inl (cyJ, 3, .inr (.inl sK))), (aTx, .inl (cyI, 120, .inl sTx)), (aRd, .inl (cyI, 63, .inl sRd))] s.heap.size = A at hD ⊢
  have hA : ∀ q : Nat, s.heap.size ≤ q → A q := fun q h => by rw [← hAe]; exact Or.inr h
  have hS : va_S A s.heap s.heap [] := va_S.rf
  have hP : va_P (dC, dI) vwCl [(h, .inr (6, [.ref aAl, .ref aSv, .ref aAs, .int sN, .int sTh, .ref aF, .ref aG, .ref aK, .long sS, .ref aTx, .int sTl, .int sPl, .ref aRd])), (aAl, .inl (cyJ, 76, .inr (.inl sAl))), (aSv, .inl (cyJ, 304, .inr (.inl sSv))), (aAs, .inl (cyJ, 76, .inr (.inl sAs))), (aF, .inl (cyJ, 3, .inr (.inl sF))), (aG, .inl (cyJ, 3, .inr (.inl sG))), (aK, .inl (cyJ, 3, .inr (.inl sK))), (aTx, .inl (cyI, 120, .inl sTx)), (aRd, .inl (cyI, 63, .inl sRd))] s.heap := hP
  have hl := lv_entry ([.ref h, .int w1, .int w2]) (n := 3) (Nat.le_of_ble_eq_true rfl)
  rw [lg_entry_eq]
  generalize (lg_sl ([.ref h, .int w1, .int w2]) ++ List.replicate (3 - (lg_sl ([.ref h, .int w1, .int w2])).length) Slot.unset).toArray = ls at hl ⊢
  have hl : lv_has ls 3 [(0, .ref h), (1, .int w1), (2, .int w2)] := hl
  unfold F_X6_costOf at hF
  refine lv_aload_n hx hb dX6_costOf_0 rfl (lv_at hl 0 rfl) ?_
  refine lv_iload_n hx hb dX6_costOf_1 rfl (lv_at hl 1 rfl) ?_
  refine lv_i2l (v := w1.toInt64) hx hb dX6_costOf_2 rfl ?_
  obtain ⟨o1, ho1, hF⟩ := ob_e hF
  refine x_callzi (va_runS (As := [.long w1.toInt64]) (rest := [.ref h]) ⟨hx, hb, hml, hown, hts⟩ (c_X6_isSignal l w1.toInt64 ho1) (va_cwS 1 hts gX6_costOf_X6_isSignal rfl rfl rfl (by decide +kernel) ⟨Nat.le_of_ble_eq_true rfl, Nat.le_of_ble_eq_true rfl⟩) ⟨true_blind, fun _ _ _ => ⟨rfl, trivial⟩⟩ rfl rfl hl.1 rfl (lv_room (Nat.le_of_ble_eq_true rfl)) dX6_costOf_3 ⟨Nat.le_of_ble_eq_true rfl, Nat.le_of_ble_eq_true rfl⟩) ?_
  obtain ⟨K6, hK6, hF⟩ := rg_e hF
  have Jx5 : ∀ (x5 : Int32) (H : Heap) (locs : List Loc) (ls : Array Slot), K6 x5 = some out → va_P (dC, dI) vwCl [(h, .inr (6, [.ref aAl, .ref aSv, .ref aAs, .int sN, .int sTh, .ref aF, .ref aG, .ref aK, .long sS, .ref aTx, .int sTl, .int sPl, .ref aRd])), (aAl, .inl (cyJ, 76, .inr (.inl sAl))), (aSv, .inl (cyJ, 304, .inr (.inl sSv))), (aAs, .inl (cyJ, 76, .inr (.inl sAs))), (aF, .inl (cyJ, 3, .inr (.inl sF))), (aG, .inl (cyJ, 3, .inr (.inl sG))), (aK, .inl (cyJ, 3, .inr (.inl sK))), (aTx, .inl (cyI, 120, .inl sTx)), (aRd, .inl (cyI, 63, .inl sRd))] H → va_D A [(h, .inr (6, [.ref aAl, .ref aSv, .ref aAs, .int sN, .int sTh, .ref aF, .ref aG, .ref aK, .long sS, .ref aTx, .int sTl, .int sPl, .ref aRd])), (aAl, .inl (cyJ, 76, .inr (.inl sAl))), (aSv, .inl (cyJ, 304, .inr (.inl sSv))), (aAs, .inl (cyJ, 76, .inr (.inl sAs))), (aF, .inl (cyJ, 3, .inr (.inl sF))), (aG, .inl (cyJ, 3, .inr (.inl sG))), (aK, .inl (cyJ, 3, .inr (.inl sK))), (aTx, .inl (cyI, 120, .inl sTx)), (aRd, .inl (cyI, 63, .inl sRd))] → va_S A s.heap H locs → lv_has ls 3 [(0, .ref h), (1, .int w1), (2, .int w2)] → W p l e (headSpec wsX6_costOf ({ frames := 6, cells := 0, slots := 0, locals := 166 } : Room)).room s m ([.ref h, .int w1, .int w2] : List Value).toArray below meth c H locs 0 0 (MQ below (va_Ql (fun (r' : Int64) (_ : Unit) => r' = out.1) (cPost (dC, dI) [(cyI, .int), (cyJ, .long), (cyB, .byte), (cyS, .object "SelfTuner$State"), (cyD, .double)] [(h, .inr (6, [.ref aAl, .ref aSv, .ref aAs, .int sN, .int out.2.1, .ref aF, .ref aG, .ref aK, .long out.2.2.1, .ref aTx, .int sTl, .int sPl, .ref aRd])), (aAl, .inl (cyJ, 76, .inr (.inl out.2.2.2.1))), (aSv, .inl (cyJ, 304, .inr (.inl sSv))), (aAs, .inl (cyJ, 76, .inr (.inl out.2.2.2.2.1))), (aF, .inl (cyJ, 3, .inr (.inl out.2.2.2.2.2.1))), (aG, .inl (cyJ, 3, .inr (.inl out.2.2.2.2.2.2.1))), (aK, .inl (cyJ, 3, .inr (.inl out.2.2.2.2.2.2.2))), (aTx, .inl (cyI, 120, .inl sTx)), (aRd, .inl (cyI, 63, .inl sRd))] A) A) ([.ref h, .int w1, .int w2] : List Value).toArray s 0 0 A) (F0 m 26 ls [.int x5, .ref h]) := by
    intro x5 H locs ls hF hP hD hS hl
    rw [hK6] at hF
    refine lv_iconst (v := 1) hx hb dX6_costOf_26 (by decide) ?_
    obtain ⟨o7, ho7, hF⟩ := ob_e hF
    refine x_calli (wr := []) (ws' := [(h, .inr (6, [.ref aAl, .ref aSv, .ref aAs, .int sN, .int o7.2, .ref aF, .ref aG, .ref aK, .long sS, .ref aTx, .int sTl, .int sPl, .ref aRd])), (aAl, .inl (cyJ, 76, .inr (.inl sAl))), (aSv, .inl (cyJ, 304, .inr (.inl sSv))), (aAs, .inl (cyJ, 76, .inr (.inl sAs))), (aF, .inl (cyJ, 3, .inr (.inl sF))), (aG, .inl (cyJ, 3, .inr (.inl sG))), (aK, .inl (cyJ, 3, .inr (.inl sK))), (aTx, .inl (cyI, 120, .inl sTx)), (aRd, .inl (cyI, 63, .inl sRd))]) (va_runV (As := [.int x5, .int 1]) (rest := []) ⟨hx, hb, hml, hown, hts⟩ (c_X6_goes l dC dI cyI cyJ cyB cyS cyD h aAl aSv aAs aF aG aK aTx aRd H.size sN sTh sS sTl sPl sAl sSv sAs sF sG sK sTx sRd x5 1 ho7) (cwV 2 hts gX6_costOf_X6_goes rfl rfl rfl (by decide +kernel) ⟨Nat.le_of_ble_eq_true rfl, Nat.le_of_ble_eq_true rfl⟩) ⟨cPre_blind, va_recv hK hP (ci := 6) (q0 := 0) rfl rfl, x_pre hN hP hD hK [0, 1, 2, 3, 4, 5, 6, 7, 8] rfl rfl⟩ rfl rfl hl.1 rfl (lv_room (Nat.le_of_ble_eq_true rfl)) dX6_costOf_27 ⟨Nat.le_of_ble_eq_true rfl, Nat.le_of_ble_eq_true rfl⟩) hP hD hS hA [0, 1, 2, 3, 4, 5, 6, 7, 8] [] [0, 1, 2, 3, 4, 5, 6, 7, 8] rfl rfl rfl (by decide) rfl rfl (fun H locs hP hD hS => ?_)
    refine lv_if_eq (tgt := 49) hx hb dX6_costOf_30 (by decide) (fun c8 => ?_) (fun c8 => ?_)
    · have hF := ite_t hF c8
      refine lv_lconst (v := 0) hx hb dX6_costOf_49 (by decide) ?_
      obtain rfl := some_e hF
      exact W.lret (v := 0) hx hb hr (fun t ht hW => ⟨⟨0, (), rfl, rfl, ⟨by rw [ht]; exact hP, va_K.moved hW.alike hK, hD⟩⟩, hS.F ht⟩) hS.2.2 dX6_costOf_50
    · have hF := ite_f hF c8
      refine lv_aload_n hx hb dX6_costOf_33 rfl (lv_at hl 0 rfl) ?_
      refine lv_iload_n hx hb dX6_costOf_34 rfl (lv_at hl 1 rfl) ?_
      refine lv_i2l (v := w1.toInt64) hx hb dX6_costOf_35 rfl ?_
      refine lv_iload_n hx hb dX6_costOf_36 rfl (lv_at hl 2 rfl) ?_
      refine lv_aload_n hx hb dX6_costOf_37 rfl (lv_at hl 0 rfl) ?_
      refine va_get (D := (dC, dI)) (ci := 6) (v := .ref aAl) (C := RX6) (T := TX6) (N := 13) hx hb hts iX6_costOf_X6 hown hK hP 0 rfl rfl 0 (by decide) (hts _ kX6_costOf_2) (fun _ h9 => h9) rfl dX6_costOf_38 ?_
      refine lv_iconst (v := 5) hx hb dX6_costOf_41 (by decide) ?_
      refine x_lald hx hb hK hP 1 1 rfl rfl (show (5 : Int32).toNatClampNeg = 5 by decide) (inbK (k := 5) (by decide) rfl) dX6_costOf_42 ?_
      obtain ⟨o9, ho9, hF⟩ := ob_e hF
      refine x_calll (wr := []) (ws' := [(h, .inr (6, [.ref aAl, .ref aSv, .ref aAs, .int sN, .int o7.2, .ref aF, .ref aG, .ref aK, .long o9.2.1, .ref aTx, .int sTl, .int sPl, .ref aRd])), (aAl, .inl (cyJ, 76, .inr (.inl o9.2.2.1))), (aSv, .inl (cyJ, 304, .inr (.inl sSv))), (aAs, .inl (cyJ, 76, .inr (.inl o9.2.2.2.1))), (aF, .inl (cyJ, 3, .inr (.inl o9.2.2.2.2.1))), (aG, .inl (cyJ, 3, .inr (.inl o9.2.2.2.2.2.1))), (aK, .inl (cyJ, 3, .inr (.inl o9.2.2.2.2.2.2))), (aTx, .inl (cyI, 120, .inl sTx)), (aRd, .inl (cyI, 63, .inl sRd))]) (va_runV (As := [.long w1.toInt64, .int w2, .long (sAl 5)]) (rest := []) ⟨hx, hb, hml, hown, hts⟩ (c_X6_costs l dC dI cyI cyJ cyB cyS cyD h aAl aSv aAs aF aG aK aTx aRd H.size sN o7.2 sS sTl sPl sAl sSv sAs sF sG sK sTx sRd w1.toInt64 w2 (sAl 5) ho9) (cwV 3 hts gX6_costOf_X6_costs rfl rfl rfl (by decide +kernel) ⟨Nat.le_of_ble_eq_true rfl, Nat.le_of_ble_eq_true rfl⟩) ⟨cPre_blind, va_recv hK hP (ci := 6) (q0 := 0) rfl rfl, x_pre hN hP hD hK [0, 1, 2, 3, 4, 5, 6, 7, 8] rfl rfl⟩ rfl rfl hl.1 rfl (lv_room (Nat.le_of_ble_eq_true rfl)) dX6_costOf_43 ⟨Nat.le_of_ble_eq_true rfl, Nat.le_of_ble_eq_true rfl⟩) hP hD hS hA [0, 1, 2, 3, 4, 5, 6, 7, 8] [] [0, 1, 2, 3, 4, 5, 6, 7, 8] rfl rfl rfl (by decide) rfl rfl (fun H locs hP hD hS => ?_)
      refine lv_goto (tgt := 50) hx hb dX6_costOf_46 (by decide) ?_
      obtain rfl := some_e hF
      exact W.lret (v := o9.1) hx hb hr (fun t ht hW => ⟨⟨o9.1, (), rfl, rfl, ⟨by rw [ht]; exact hP, va_K.moved hW.alike hK, hD⟩⟩, hS.F ht⟩) hS.2.2 dX6_costOf_50
  refine lv_if_eq (tgt := 25) hx hb dX6_costOf_6 (by decide) (fun c2 => ?_) (fun c2 => ?_)
  · have hF := ite_t hF c2
    refine lv_iconst (v := 0) hx hb dX6_costOf_25 (by decide) ?_
    exact Jx5 _ _ _ _ hF hP hD hS (lv_sub hl [0, 1, 2] rfl)
  · have hF := ite_f hF c2
    refine lv_iload_n hx hb dX6_costOf_9 rfl (lv_at hl 2 rfl) ?_
    refine lv_i2l (v := w2.toInt64) hx hb dX6_costOf_10 rfl ?_
    refine lv_lconst (v := 0) hx hb dX6_costOf_11 (by decide) ?_
    refine lv_ldc2 (v := 500) hx hb hown (hts _ kX6_costOf_1) dX6_costOf_12 ?_
    obtain ⟨o3, ho3, hF⟩ := ob_e hF
    refine x_callzi (va_runS (As := [.long w2.toInt64, .long 0, .long 500]) (rest := [.ref h]) ⟨hx, hb, hml, hown, hts⟩ (c_X6_in l w2.toInt64 0 500 ho3) (va_cwS 3 hts gX6_costOf_X6_in rfl rfl rfl (by decide +kernel) ⟨Nat.le_of_ble_eq_true rfl, Nat.le_of_ble_eq_true rfl⟩) ⟨true_blind, fun _ _ _ => ⟨rfl, trivial⟩⟩ rfl rfl hl.1 rfl (lv_room (Nat.le_of_ble_eq_true rfl)) dX6_costOf_15 ⟨Nat.le_of_ble_eq_true rfl, Nat.le_of_ble_eq_true rfl⟩) ?_
    refine lv_if_eq (tgt := 25) hx hb dX6_costOf_18 (by decide) (fun c4 => ?_) (fun c4 => ?_)
    · have hF := ite_t hF c4
      refine lv_iconst (v := 0) hx hb dX6_costOf_25 (by decide) ?_
      exact Jx5 _ _ _ _ hF hP hD hS (lv_sub hl [0, 1, 2] rfl)
    · have hF := ite_f hF c4
      refine lv_iconst (v := 1) hx hb dX6_costOf_21 (by decide) ?_
      refine lv_goto (tgt := 26) hx hb dX6_costOf_22 (by decide) ?_
      exact Jx5 _ _ _ _ hF hP hD hS (lv_sub hl [0, 1, 2] rfl)
def F_X6_settling_44 (w1 : Int32) (w2 : Int32) : Nat → ((Int32 × Int32 × Int64 × (Nat → Int64) × (Nat → Int64) × (Nat → Int64) × (Nat → Int64)) → Option (Int32 × Int32 × Int64 × (Nat → Int64) × (Nat → Int64) × (Nat → Int64) × (Nat → Int64) × (Nat → Int64))) → Int32 → Int32 → Int64 → (Nat → Int64) → (Nat → Int64) → (Nat → Int64) → (Nat → Int64) → Option (Int32 × Int32 × Int64 × (Nat → Int64) × (Nat → Int64) × (Nat → Int64) × (Nat → Int64) × (Nat → Int64))
  | 0, _, _, _, _, _, _, _, _ => none
  | n10 + 1, K11, v12, v13, v14, v15, v16, v17, v18 => if (5 : Int32) ≤ v12 then (K11 (v12, v13, v14, v15, v16, v17, v18)) else (if (500 : Int32) ≤ v13 then (K11 (v12, v13, v14, v15, v16, v17, v18)) else (ob (F_X6_stepsClosed v14 v15 v16 v17 v18 w1.toInt64) (fun o21 => lt_ (α := Int32) (v13 + 1) (fun v22 => ob (F_X6_in (o21.2.1 35) ((w1 - w2).toInt64) ((w1 + w2).toInt64)) (fun o23 => rg (α := Int32) (fun K26 => if (o23 : Int32) = 0 then (K26 0) else (K26 (v12 + 1))) (fun x25 => F_X6_settling_44 w1 w2 n10 K11 x25 v22 o21.1 o21.2.1 o21.2.2.1 o21.2.2.2.1 o21.2.2.2.2))))))
def F_X6_settling (sS : Int64) (sAl : Nat → Int64) (sAs : Nat → Int64) (sF : Nat → Int64) (sG : Nat → Int64) (sK : Nat → Int64) (w1 : Int32) (w2 : Int32) : Option (Int32 × Int32 × Int64 × (Nat → Int64) × (Nat → Int64) × (Nat → Int64) × (Nat → Int64) × (Nat → Int64)) := ob (F_X6_isSignal w1.toInt64) (fun o1 => rg (α := Int32) (fun K6 => if (o1 : Int32) = 0 then (K6 0) else (ob (F_X6_in w2.toInt64 0 500) (fun o3 => if (o3 : Int32) = 0 then (K6 0) else (K6 1)))) (fun x5 => ob (F_X6_goes x5 1) (fun o7 => if (o7.1 : Int32) = 0 then (some (0, o7.2, sS, sAl, sAs, sF, sG, sK)) else (ob (F_X6_lays sAl sAs) (fun o9 => F_X6_settling_44 w1 w2 1000 (fun x27 => ob (F_X6_takesBack x27.2.2.2.1 o9) (fun o28 => if (x27.1 : Int32) = 5 then (some (x27.2.1, o7.2, x27.2.2.1, o28, o9, x27.2.2.2.2.1, x27.2.2.2.2.2.1, x27.2.2.2.2.2.2)) else (some ((-1), o7.2, x27.2.2.1, o28, o9, x27.2.2.2.2.1, x27.2.2.2.2.2.1, x27.2.2.2.2.2.2)))) 0 0 sS sAl sF sG sK)))))
theorem kX6_settling_1 : (Cond.constantLong RX6 41 (500)) ∈ wsX6_settling := List.mem_of_getElem? (i := 1) rfl
theorem kX6_settling_2 : (Cond.fieldLink RX6 7 "SelfTunerModel" "all" "[J") ∈ wsX6_settling := List.mem_of_getElem? (i := 2) rfl
theorem iX6_settling_X6 : ∀ w ∈ wsX60, w ∈ wsX6_settling := fun w h => List.mem_cons_of_mem _ (List.mem_append_right _ h)
set_option maxHeartbeats 4000000 in
set_option maxRecDepth 100000 in
theorem c_X6_settling (l : Launch) (dC : Nat → ClassId) (dI : Nat → Nat → Nat) (cyI cyJ cyB cyS cyD : ClassId) (h : Nat) (aAl : Nat) (aSv : Nat) (aAs : Nat) (aF : Nat) (aG : Nat) (aK : Nat) (aTx : Nat) (aRd : Nat) (sz : Nat) (sN : Int32) (sTh : Int32) (sS : Int64) (sTl : Int32) (sPl : Int32) (sAl : Nat → Int64) (sSv : Nat → Int64) (sAs : Nat → Int64) (sF : Nat → Int64) (sG : Nat → Int64) (sK : Nat → Int64) (sTx : Nat → Int32) (sRd : Nat → Int32) (w1 : Int32) (w2 : Int32) {out : Int32 × Int32 × Int64 × (Nat → Int64) × (Nat → Int64) × (Nat → Int64) × (Nat → Int64) × (Nat → Int64)} (hF : F_X6_settling sS sAl sAs sF sG sK w1 w2 = some out) : Mi l yX6_settling wsX6_settling ({ frames := 5, cells := 0, slots := 0, locals := 136 } : Room) (dC, dI) [(cyI, .int), (cyJ, .long), (cyB, .byte), (cyS, .object "SelfTuner$State"), (cyD, .double)] sz [.ref h, .int w1, .int w2] [(h, .inr (6, [.ref aAl, .ref aSv, .ref aAs, .int sN, .int sTh, .ref aF, .ref aG, .ref aK, .long sS, .ref aTx, .int sTl, .int sPl, .ref aRd])), (aAl, .inl (cyJ, 76, .inr (.inl sAl))), (aSv, .inl (cyJ, 304, .inr (.inl sSv))), (aAs, .inl (cyJ, 76, .inr (.inl sAs))), (aF, .inl (cyJ, 3, .inr (.inl sF))), (aG, .inl (cyJ, 3, .inr (.inl sG))), (aK, .inl (cyJ, 3, .inr (.inl sK))), (aTx, .inl (cyI, 120, .inl sTx)), (aRd, .inl (cyI, 63, .inl sRd))] out.1 [(h, .inr (6, [.ref aAl, .ref aSv, .ref aAs, .int sN, .int out.2.1, .ref aF, .ref aG, .ref aK, .long out.2.2.1, .ref aTx, .int sTl, .int sPl, .ref aRd])), (aAl, .inl (cyJ, 76, .inr (.inl out.2.2.2.1))), (aSv, .inl (cyJ, 304, .inr (.inl sSv))), (aAs, .inl (cyJ, 76, .inr (.inl out.2.2.2.2.1))), (aF, .inl (cyJ, 3, .inr (.inl out.2.2.2.2.2.1))), (aG, .inl (cyJ, 3, .inr (.inl out.2.2.2.2.2.2.1))), (aK, .inl (cyJ, 3, .inr (.inl out.2.2.2.2.2.2.2))), (aTx, .inl (cyI, 120, .inl sTx)), (aRd, .inl (cyI, 63, .inl sRd))] := by
  refine Met.ofW (cc := cX6_settling) (maxL := 5) (ret := (some .int)) (by decide) rfl ?_
  intro p e s m args below meth c s₁ B hml hv
  obtain ⟨rfl, hN, hsz, hP, hK, hD0⟩ := hv
  have hx := B.exec
  have hb := B.bytes
  have hr := B.returns
  have hts := atoms_spec (ws := wsX6_settling) B.pre
  have hown : s.vm.findClass RX6 = some m.cls := findClass_of_methodNamed B.named
  have hlocks := B.notSynchronized
  subst hsz
  have hD := hD0.self (sz := s.heap.size)
  generalize hAe : va_A [(h, .inr (6, [.ref aAl, .ref aSv, .ref aAs, .int sN, .int sTh, .ref aF, .ref aG, .ref aK, .long sS, .ref aTx, .int sTl, .int sPl, .ref aRd])), (aAl, .inl (cyJ, 76, .inr (.inl sAl))), (aSv, .inl (cyJ, 304, .inr (.inl sSv))), (aAs, .inl (cyJ, 76, .inr (.inl sAs))), (aF, .inl (cyJ, 3, .inr (.inl sF))), (aG, .inl (cyJ, 3, .inr (.inl sG))), (aK, .inl (cyJ, 3, .inr (.inl sK))), (aTx, .inl (cyI, 120, .inl sTx)), (aRd, .inl (cyI, 63, .inl sRd))] s.heap.size = A at hD ⊢
  have hA : ∀ q : Nat, s.heap.size ≤ q → A q := fun q h => by rw [← hAe]; exact Or.inr h
  have hS : va_S A s.heap s.heap [] := va_S.rf
  have hP : va_P (dC, dI) vwCl [(h, .inr (6, [.ref aAl, .ref aSv, .ref aAs, .int sN, .int sTh, .ref aF, .ref aG, .ref aK, .long sS, .ref aTx, .int sTl, .int sPl, .ref aRd])), (aAl, .inl (cyJ, 76, .inr (.inl sAl))), (aSv, .inl (cyJ, 304, .inr (.inl sSv))), (aAs, .inl (cyJ, 76, .inr (.inl sAs))), (aF, .inl (cyJ, 3, .inr (.inl sF))), (aG, .inl (cyJ, 3, .inr (.inl sG))), (aK, .inl (cyJ, 3, .inr (.inl sK))), (aTx, .inl (cyI, 120, .inl sTx)), (aRd, .inl (cyI, 63, .inl sRd))] s.heap := hP
  have hl := lv_entry ([.ref h, .int w1, .int w2]) (n := 5) (Nat.le_of_ble_eq_true rfl)
  rw [lg_entry_eq]
  generalize (lg_sl ([.ref h, .int w1, .int w2]) ++ List.replicate (5 - (lg_sl ([.ref h, .int w1, .int w2])).length) Slot.unset).toArray = ls at hl ⊢
  have hl : lv_has ls 5 [(0, .ref h), (1, .int w1), (2, .int w2)] := hl
  unfold F_X6_settling at hF
  refine lv_aload_n hx hb dX6_settling_0 rfl (lv_at hl 0 rfl) ?_
  refine lv_iload_n hx hb dX6_settling_1 rfl (lv_at hl 1 rfl) ?_
  refine lv_i2l (v := w1.toInt64) hx hb dX6_settling_2 rfl ?_
  obtain ⟨o1, ho1, hF⟩ := ob_e hF
  refine x_callzi (va_runS (As := [.long w1.toInt64]) (rest := [.ref h]) ⟨hx, hb, hml, hown, hts⟩ (c_X6_isSignal l w1.toInt64 ho1) (va_cwS 1 hts gX6_settling_X6_isSignal rfl rfl rfl (by decide +kernel) ⟨Nat.le_of_ble_eq_true rfl, Nat.le_of_ble_eq_true rfl⟩) ⟨true_blind, fun _ _ _ => ⟨rfl, trivial⟩⟩ rfl rfl hl.1 rfl (lv_room (Nat.le_of_ble_eq_true rfl)) dX6_settling_3 ⟨Nat.le_of_ble_eq_true rfl, Nat.le_of_ble_eq_true rfl⟩) ?_
  obtain ⟨K6, hK6, hF⟩ := rg_e hF
  have Jx5 : ∀ (x5 : Int32) (H : Heap) (locs : List Loc) (ls : Array Slot), K6 x5 = some out → va_P (dC, dI) vwCl [(h, .inr (6, [.ref aAl, .ref aSv, .ref aAs, .int sN, .int sTh, .ref aF, .ref aG, .ref aK, .long sS, .ref aTx, .int sTl, .int sPl, .ref aRd])), (aAl, .inl (cyJ, 76, .inr (.inl sAl))), (aSv, .inl (cyJ, 304, .inr (.inl sSv))), (aAs, .inl (cyJ, 76, .inr (.inl sAs))), (aF, .inl (cyJ, 3, .inr (.inl sF))), (aG, .inl (cyJ, 3, .inr (.inl sG))), (aK, .inl (cyJ, 3, .inr (.inl sK))), (aTx, .inl (cyI, 120, .inl sTx)), (aRd, .inl (cyI, 63, .inl sRd))] H → va_D A [(h, .inr (6, [.ref aAl, .ref aSv, .ref aAs, .int sN, .int sTh, .ref aF, .ref aG, .ref aK, .long sS, .ref aTx, .int sTl, .int sPl, .ref aRd])), (aAl, .inl (cyJ, 76, .inr (.inl sAl))), (aSv, .inl (cyJ, 304, .inr (.inl sSv))), (aAs, .inl (cyJ, 76, .inr (.inl sAs))), (aF, .inl (cyJ, 3, .inr (.inl sF))), (aG, .inl (cyJ, 3, .inr (.inl sG))), (aK, .inl (cyJ, 3, .inr (.inl sK))), (aTx, .inl (cyI, 120, .inl sTx)), (aRd, .inl (cyI, 63, .inl sRd))] → va_S A s.heap H locs → lv_has ls 5 [(0, .ref h), (1, .int w1), (2, .int w2)] → W p l e (headSpec wsX6_settling ({ frames := 5, cells := 0, slots := 0, locals := 136 } : Room)).room s m ([.ref h, .int w1, .int w2] : List Value).toArray below meth c H locs 0 0 (MQ below (va_Qi (fun (r' : Int32) (_ : Unit) => r' = out.1) (cPost (dC, dI) [(cyI, .int), (cyJ, .long), (cyB, .byte), (cyS, .object "SelfTuner$State"), (cyD, .double)] [(h, .inr (6, [.ref aAl, .ref aSv, .ref aAs, .int sN, .int out.2.1, .ref aF, .ref aG, .ref aK, .long out.2.2.1, .ref aTx, .int sTl, .int sPl, .ref aRd])), (aAl, .inl (cyJ, 76, .inr (.inl out.2.2.2.1))), (aSv, .inl (cyJ, 304, .inr (.inl sSv))), (aAs, .inl (cyJ, 76, .inr (.inl out.2.2.2.2.1))), (aF, .inl (cyJ, 3, .inr (.inl out.2.2.2.2.2.1))), (aG, .inl (cyJ, 3, .inr (.inl out.2.2.2.2.2.2.1))), (aK, .inl (cyJ, 3, .inr (.inl out.2.2.2.2.2.2.2))), (aTx, .inl (cyI, 120, .inl sTx)), (aRd, .inl (cyI, 63, .inl sRd))] A) A) ([.ref h, .int w1, .int w2] : List Value).toArray s 0 0 A) (F0 m 26 ls [.int x5, .ref h]) := by
    intro x5 H locs ls hF hP hD hS hl
    rw [hK6] at hF
    refine lv_iconst (v := 1) hx hb dX6_settling_26 (by decide) ?_
    obtain ⟨o7, ho7, hF⟩ := ob_e hF
    refine x_calli (wr := []) (ws' := [(h, .inr (6, [.ref aAl, .ref aSv, .ref aAs, .int sN, .int o7.2, .ref aF, .ref aG, .ref aK, .long sS, .ref aTx, .int sTl, .int sPl, .ref aRd])), (aAl, .inl (cyJ, 76, .inr (.inl sAl))), (aSv, .inl (cyJ, 304, .inr (.inl sSv))), (aAs, .inl (cyJ, 76, .inr (.inl sAs))), (aF, .inl (cyJ, 3, .inr (.inl sF))), (aG, .inl (cyJ, 3, .inr (.inl sG))), (aK, .inl (cyJ, 3, .inr (.inl sK))), (aTx, .inl (cyI, 120, .inl sTx)), (aRd, .inl (cyI, 63, .inl sRd))]) (va_runV (As := [.int x5, .int 1]) (rest := []) ⟨hx, hb, hml, hown, hts⟩ (c_X6_goes l dC dI cyI cyJ cyB cyS cyD h aAl aSv aAs aF aG aK aTx aRd H.size sN sTh sS sTl sPl sAl sSv sAs sF sG sK sTx sRd x5 1 ho7) (cwV 2 hts gX6_settling_X6_goes rfl rfl rfl (by decide +kernel) ⟨Nat.le_of_ble_eq_true rfl, Nat.le_of_ble_eq_true rfl⟩) ⟨cPre_blind, va_recv hK hP (ci := 6) (q0 := 0) rfl rfl, x_pre hN hP hD hK [0, 1, 2, 3, 4, 5, 6, 7, 8] rfl rfl⟩ rfl rfl hl.1 rfl (lv_room (Nat.le_of_ble_eq_true rfl)) dX6_settling_27 ⟨Nat.le_of_ble_eq_true rfl, Nat.le_of_ble_eq_true rfl⟩) hP hD hS hA [0, 1, 2, 3, 4, 5, 6, 7, 8] [] [0, 1, 2, 3, 4, 5, 6, 7, 8] rfl rfl rfl (by decide) rfl rfl (fun H locs hP hD hS => ?_)
    refine lv_if_ne (tgt := 35) hx hb dX6_settling_30 (by decide) (fun c8 => ?_) (fun c8 => ?_)
    · have hF := ite_f hF c8
      refine lv_aload_n hx hb dX6_settling_35 rfl (lv_at hl 0 rfl) ?_
      obtain ⟨o9, ho9, hF⟩ := ob_e hF
      refine x_callv (wr := []) (ws' := [(h, .inr (6, [.ref aAl, .ref aSv, .ref aAs, .int sN, .int o7.2, .ref aF, .ref aG, .ref aK, .long sS, .ref aTx, .int sTl, .int sPl, .ref aRd])), (aAl, .inl (cyJ, 76, .inr (.inl sAl))), (aSv, .inl (cyJ, 304, .inr (.inl sSv))), (aAs, .inl (cyJ, 76, .inr (.inl o9))), (aF, .inl (cyJ, 3, .inr (.inl sF))), (aG, .inl (cyJ, 3, .inr (.inl sG))), (aK, .inl (cyJ, 3, .inr (.inl sK))), (aTx, .inl (cyI, 120, .inl sTx)), (aRd, .inl (cyI, 63, .inl sRd))]) (va_runV (As := []) (rest := []) ⟨hx, hb, hml, hown, hts⟩ (c_X6_lays l dC dI cyI cyJ cyB cyS cyD h aAl aSv aAs aF aG aK aTx aRd H.size sN o7.2 sS sTl sPl sAl sSv sAs sF sG sK sTx sRd ho9) (cwV 0 hts gX6_settling_X6_lays rfl rfl rfl (by decide +kernel) ⟨Nat.le_of_ble_eq_true rfl, Nat.le_of_ble_eq_true rfl⟩) ⟨cPre_blind, va_recv hK hP (ci := 6) (q0 := 0) rfl rfl, x_pre hN hP hD hK [0, 1, 2, 3, 4, 5, 6, 7, 8] rfl rfl⟩ rfl rfl hl.1 rfl (lv_room (Nat.le_of_ble_eq_true rfl)) dX6_settling_36 ⟨Nat.le_of_ble_eq_true rfl, Nat.le_of_ble_eq_true rfl⟩) hP hD hS hA [0, 1, 2, 3, 4, 5, 6, 7, 8] [] [0, 1, 2, 3, 4, 5, 6, 7, 8] rfl rfl rfl (by decide) rfl rfl (fun H locs hP hD hS => ?_)
      refine lv_iconst (v := 0) hx hb dX6_settling_39 (by decide) ?_
      refine lv_istore_n (lv' := [(3, .int 0), (0, .ref h), (1, .int w1), (2, .int w2)]) hx hb dX6_settling_40 rfl hl (by decide) rfl (fun ls hl => ?_)
      refine lv_iconst (v := 0) hx hb dX6_settling_41 (by decide) ?_
      refine lv_istore (lv' := [(4, .int 0), (3, .int 0), (0, .ref h), (1, .int w1), (2, .int w2)]) hx hb dX6_settling_42 hl (by decide) rfl (fun ls hl => ?_)
      have Ln10 : ∀ (n10 : Nat) (K11 : (Int32 × Int32 × Int64 × (Nat → Int64) × (Nat → Int64) × (Nat → Int64) × (Nat → Int64)) → Option (Int32 × Int32 × Int64 × (Nat → Int64) × (Nat → Int64) × (Nat → Int64) × (Nat → Int64) × (Nat → Int64))) (v12 : Int32) (v13 : Int32) (v14 : Int64) (v15 : Nat → Int64) (v16 : Nat → Int64) (v17 : Nat → Int64) (v18 : Nat → Int64) (H : Heap) (locs : List Loc) (ls : Array Slot), F_X6_settling_44 w1 w2 n10 K11 v12 v13 v14 v15 v16 v17 v18 = some out → va_P (dC, dI) vwCl [(h, .inr (6, [.ref aAl, .ref aSv, .ref aAs, .int sN, .int o7.2, .ref aF, .ref aG, .ref aK, .long v14, .ref aTx, .int sTl, .int sPl, .ref aRd])), (aAl, .inl (cyJ, 76, .inr (.inl v15))), (aSv, .inl (cyJ, 304, .inr (.inl sSv))), (aAs, .inl (cyJ, 76, .inr (.inl o9))), (aF, .inl (cyJ, 3, .inr (.inl v16))), (aG, .inl (cyJ, 3, .inr (.inl v17))), (aK, .inl (cyJ, 3, .inr (.inl v18))), (aTx, .inl (cyI, 120, .inl sTx)), (aRd, .inl (cyI, 63, .inl sRd))] H → va_D A [(h, .inr (6, [.ref aAl, .ref aSv, .ref aAs, .int sN, .int o7.2, .ref aF, .ref aG, .ref aK, .long v14, .ref aTx, .int sTl, .int sPl, .ref aRd])), (aAl, .inl (cyJ, 76, .inr (.inl v15))), (aSv, .inl (cyJ, 304, .inr (.inl sSv))), (aAs, .inl (cyJ, 76, .inr (.inl o9))), (aF, .inl (cyJ, 3, .inr (.inl v16))), (aG, .inl (cyJ, 3, .inr (.inl v17))), (aK, .inl (cyJ, 3, .inr (.inl v18))), (aTx, .inl (cyI, 120, .inl sTx)), (aRd, .inl (cyI, 63, .inl sRd))] → va_S A s.heap H locs → lv_has ls 5 [(0, .ref h), (1, .int w1), (2, .int w2), (3, .int v12), (4, .int v13)] → (∀ (x27 : Int32 × Int32 × Int64 × (Nat → Int64) × (Nat → Int64) × (Nat → Int64) × (Nat → Int64)) (H : Heap) (locs : List Loc) (ls : Array Slot), K11 x27 = some out → va_P (dC, dI) vwCl [(h, .inr (6, [.ref aAl, .ref aSv, .ref aAs, .int sN, .int o7.2, .ref aF, .ref aG, .ref aK, .long x27.2.2.1, .ref aTx, .int sTl, .int sPl, .ref aRd])), (aAl, .inl (cyJ, 76, .inr (.inl x27.2.2.2.1))), (aSv, .inl (cyJ, 304, .inr (.inl sSv))), (aAs, .inl (cyJ, 76, .inr (.inl o9))), (aF, .inl (cyJ, 3, .inr (.inl x27.2.2.2.2.1))), (aG, .inl (cyJ, 3, .inr (.inl x27.2.2.2.2.2.1))), (aK, .inl (cyJ, 3, .inr (.inl x27.2.2.2.2.2.2))), (aTx, .inl (cyI, 120, .inl sTx)), (aRd, .inl (cyI, 63, .inl sRd))] H → va_D A [(h, .inr (6, [.ref aAl, .ref aSv, .ref aAs, .int sN, .int o7.2, .ref aF, .ref aG, .ref aK, .long x27.2.2.1, .ref aTx, .int sTl, .int sPl, .ref aRd])), (aAl, .inl (cyJ, 76, .inr (.inl x27.2.2.2.1))), (aSv, .inl (cyJ, 304, .inr (.inl sSv))), (aAs, .inl (cyJ, 76, .inr (.inl o9))), (aF, .inl (cyJ, 3, .inr (.inl x27.2.2.2.2.1))), (aG, .inl (cyJ, 3, .inr (.inl x27.2.2.2.2.2.1))), (aK, .inl (cyJ, 3, .inr (.inl x27.2.2.2.2.2.2))), (aTx, .inl (cyI, 120, .inl sTx)), (aRd, .inl (cyI, 63, .inl sRd))] → va_S A s.heap H locs → lv_has ls 5 [(0, .ref h), (3, .int x27.1), (4, .int x27.2.1)] → W p l e (headSpec wsX6_settling ({ frames := 5, cells := 0, slots := 0, locals := 136 } : Room)).room s m ([.ref h, .int w1, .int w2] : List Value).toArray below meth c H locs 0 0 (MQ below (va_Qi (fun (r' : Int32) (_ : Unit) => r' = out.1) (cPost (dC, dI) [(cyI, .int), (cyJ, .long), (cyB, .byte), (cyS, .object "SelfTuner$State"), (cyD, .double)] [(h, .inr (6, [.ref aAl, .ref aSv, .ref aAs, .int sN, .int out.2.1, .ref aF, .ref aG, .ref aK, .long out.2.2.1, .ref aTx, .int sTl, .int sPl, .ref aRd])), (aAl, .inl (cyJ, 76, .inr (.inl out.2.2.2.1))), (aSv, .inl (cyJ, 304, .inr (.inl sSv))), (aAs, .inl (cyJ, 76, .inr (.inl out.2.2.2.2.1))), (aF, .inl (cyJ, 3, .inr (.inl out.2.2.2.2.2.1))), (aG, .inl (cyJ, 3, .inr (.inl out.2.2.2.2.2.2.1))), (aK, .inl (cyJ, 3, .inr (.inl out.2.2.2.2.2.2.2))), (aTx, .inl (cyI, 120, .inl sTx)), (aRd, .inl (cyI, 63, .inl sRd))] A) A) ([.ref h, .int w1, .int w2] : List Value).toArray s 0 0 A) (F0 m 98 ls [])) → W p l e (headSpec wsX6_settling ({ frames := 5, cells := 0, slots := 0, locals := 136 } : Room)).room s m ([.ref h, .int w1, .int w2] : List Value).toArray below meth c H locs 0 0 (MQ below (va_Qi (fun (r' : Int32) (_ : Unit) => r' = out.1) (cPost (dC, dI) [(cyI, .int), (cyJ, .long), (cyB, .byte), (cyS, .object "SelfTuner$State"), (cyD, .double)] [(h, .inr (6, [.ref aAl, .ref aSv, .ref aAs, .int sN, .int out.2.1, .ref aF, .ref aG, .ref aK, .long out.2.2.1, .ref aTx, .int sTl, .int sPl, .ref aRd])), (aAl, .inl (cyJ, 76, .inr (.inl out.2.2.2.1))), (aSv, .inl (cyJ, 304, .inr (.inl sSv))), (aAs, .inl (cyJ, 76, .inr (.inl out.2.2.2.2.1))), (aF, .inl (cyJ, 3, .inr (.inl out.2.2.2.2.2.1))), (aG, .inl (cyJ, 3, .inr (.inl out.2.2.2.2.2.2.1))), (aK, .inl (cyJ, 3, .inr (.inl out.2.2.2.2.2.2.2))), (aTx, .inl (cyI, 120, .inl sTx)), (aRd, .inl (cyI, 63, .inl sRd))] A) A) ([.ref h, .int w1, .int w2] : List Value).toArray s 0 0 A) (F0 m 44 ls []) := by
        intro n10
        induction n10 with
        | zero => intro K11 v12 v13 v14 v15 v16 v17 v18 H locs ls hF; exact no_e (show none = some out from hF)
        | succ n10 ihn10 =>
          intro K11 v12 v13 v14 v15 v16 v17 v18 H locs ls hF hP hD hS hl kxn10
          rw [F_X6_settling_44] at hF
          refine lv_iload_n hx hb dX6_settling_44 rfl (lv_at hl 3 rfl) ?_
          refine lv_iconst (v := 5) hx hb dX6_settling_45 (by decide) ?_
          refine lv_icmp_ge (tgt := 98) hx hb dX6_settling_46 (by decide) (fun c19 => ?_) (fun c19 => ?_)
          · have hF := ite_t hF c19
            exact kxn10 _ _ _ _ hF hP hD hS (lv_sub hl [0, 3, 4] rfl)
          · have hF := ite_f hF c19
            refine lv_iload hx hb dX6_settling_49 (lv_at hl 4 rfl) ?_
            refine lv_sipush (v := 500) hx hb dX6_settling_51 (by decide) ?_
            refine lv_icmp_ge (tgt := 98) hx hb dX6_settling_54 (by decide) (fun c20 => ?_) (fun c20 => ?_)
            · have hF := ite_t hF c20
              exact kxn10 _ _ _ _ hF hP hD hS (lv_sub hl [0, 3, 4] rfl)
            · have hF := ite_f hF c20
              refine lv_aload_n hx hb dX6_settling_57 rfl (lv_at hl 0 rfl) ?_
              refine lv_iload_n hx hb dX6_settling_58 rfl (lv_at hl 1 rfl) ?_
              refine lv_i2l (v := w1.toInt64) hx hb dX6_settling_59 rfl ?_
              obtain ⟨o21, ho21, hF⟩ := ob_e hF
              refine x_callv (wr := []) (ws' := [(h, .inr (6, [.ref aAl, .ref aSv, .ref aAs, .int sN, .int o7.2, .ref aF, .ref aG, .ref aK, .long o21.1, .ref aTx, .int sTl, .int sPl, .ref aRd])), (aAl, .inl (cyJ, 76, .inr (.inl o21.2.1))), (aSv, .inl (cyJ, 304, .inr (.inl sSv))), (aAs, .inl (cyJ, 76, .inr (.inl o9))), (aF, .inl (cyJ, 3, .inr (.inl o21.2.2.1))), (aG, .inl (cyJ, 3, .inr (.inl o21.2.2.2.1))), (aK, .inl (cyJ, 3, .inr (.inl o21.2.2.2.2))), (aTx, .inl (cyI, 120, .inl sTx)), (aRd, .inl (cyI, 63, .inl sRd))]) (va_runV (As := [.long w1.toInt64]) (rest := []) ⟨hx, hb, hml, hown, hts⟩ (c_X6_stepsClosed l dC dI cyI cyJ cyB cyS cyD h aAl aSv aAs aF aG aK aTx aRd H.size sN o7.2 v14 sTl sPl v15 sSv o9 v16 v17 v18 sTx sRd w1.toInt64 ho21) (cwV 1 hts gX6_settling_X6_stepsClosed rfl rfl rfl (by decide +kernel) ⟨Nat.le_of_ble_eq_true rfl, Nat.le_of_ble_eq_true rfl⟩) ⟨cPre_blind, va_recv hK hP (ci := 6) (q0 := 0) rfl rfl, x_pre hN hP hD hK [0, 1, 2, 3, 4, 5, 6, 7, 8] rfl rfl⟩ rfl rfl hl.1 rfl (lv_room (Nat.le_of_ble_eq_true rfl)) dX6_settling_60 ⟨Nat.le_of_ble_eq_true rfl, Nat.le_of_ble_eq_true rfl⟩) hP hD hS hA [0, 1, 2, 3, 4, 5, 6, 7, 8] [] [0, 1, 2, 3, 4, 5, 6, 7, 8] rfl rfl rfl (by decide) rfl rfl (fun H locs hP hD hS => ?_)
              obtain ⟨v22, hv22, hF⟩ := lt_e hF
              refine lv_iinc (v := v22) (lv' := [(4, .int v22), (0, .ref h), (1, .int w1), (2, .int w2), (3, .int v12)]) hx hb dX6_settling_63 hl (k := 4) rfl (by rw [hv22]; rfl) (by decide) rfl (fun ls hl => ?_)
              refine lv_aload_n hx hb dX6_settling_66 rfl (lv_at hl 1 rfl) ?_
              refine va_get (D := (dC, dI)) (ci := 6) (v := .ref aAl) (C := RX6) (T := TX6) (N := 13) hx hb hts iX6_settling_X6 hown hK hP 0 rfl rfl 0 (by decide) (hts _ kX6_settling_2) (fun _ h9 => h9) rfl dX6_settling_67 ?_
              refine lv_bipush (v := 35) hx hb dX6_settling_70 (by decide) ?_
              refine x_lald hx hb hK hP 1 1 rfl rfl (show (35 : Int32).toNatClampNeg = 35 by decide) (inbK (k := 35) (by decide) rfl) dX6_settling_72 ?_
              refine lv_iload_n hx hb dX6_settling_73 rfl (lv_at hl 2 rfl) ?_
              refine lv_iload_n hx hb dX6_settling_74 rfl (lv_at hl 3 rfl) ?_
              refine lv_isub hx hb dX6_settling_75 ?_
              refine lv_i2l (v := (w1 - w2).toInt64) hx hb dX6_settling_76 rfl ?_
              refine lv_iload_n hx hb dX6_settling_77 rfl (lv_at hl 2 rfl) ?_
              refine lv_iload_n hx hb dX6_settling_78 rfl (lv_at hl 3 rfl) ?_
              refine lv_iadd hx hb dX6_settling_79 ?_
              refine lv_i2l (v := (w1 + w2).toInt64) hx hb dX6_settling_80 rfl ?_
              obtain ⟨o23, ho23, hF⟩ := ob_e hF
              refine x_callzi (va_runS (As := [.long (o21.2.1 35), .long ((w1 - w2).toInt64), .long ((w1 + w2).toInt64)]) (rest := []) ⟨hx, hb, hml, hown, hts⟩ (c_X6_in l (o21.2.1 35) ((w1 - w2).toInt64) ((w1 + w2).toInt64) ho23) (va_cwS 3 hts gX6_settling_X6_in rfl rfl rfl (by decide +kernel) ⟨Nat.le_of_ble_eq_true rfl, Nat.le_of_ble_eq_true rfl⟩) ⟨true_blind, fun _ _ _ => ⟨rfl, trivial⟩⟩ rfl rfl hl.1 rfl (lv_room (Nat.le_of_ble_eq_true rfl)) dX6_settling_81 ⟨Nat.le_of_ble_eq_true rfl, Nat.le_of_ble_eq_true rfl⟩) ?_
              obtain ⟨K26, hK26, hF⟩ := rg_e hF
              have Jx25 : ∀ (x25 : Int32) (H : Heap) (locs : List Loc) (ls : Array Slot), K26 x25 = some out → va_P (dC, dI) vwCl [(h, .inr (6, [.ref aAl, .ref aSv, .ref aAs, .int sN, .int o7.2, .ref aF, .ref aG, .ref aK, .long o21.1, .ref aTx, .int sTl, .int sPl, .ref aRd])), (aAl, .inl (cyJ, 76, .inr (.inl o21.2.1))), (aSv, .inl (cyJ, 304, .inr (.inl sSv))), (aAs, .inl (cyJ, 76, .inr (.inl o9))), (aF, .inl (cyJ, 3, .inr (.inl o21.2.2.1))), (aG, .inl (cyJ, 3, .inr (.inl o21.2.2.2.1))), (aK, .inl (cyJ, 3, .inr (.inl o21.2.2.2.2))), (aTx, .inl (cyI, 120, .inl sTx)), (aRd, .inl (cyI, 63, .inl sRd))] H → va_D A [(h, .inr (6, [.ref aAl, .ref aSv, .ref aAs, .int sN, .int o7.2, .ref aF, .ref aG, .ref aK, .long o21.1, .ref aTx, .int sTl, .int sPl, .ref aRd])), (aAl, .inl (cyJ, 76, .inr (.inl o21.2.1))), (aSv, .inl (cyJ, 304, .inr (.inl sSv))), (aAs, .inl (cyJ, 76, .inr (.inl o9))), (aF, .inl (cyJ, 3, .inr (.inl o21.2.2.1))), (aG, .inl (cyJ, 3, .inr (.inl o21.2.2.2.1))), (aK, .inl (cyJ, 3, .inr (.inl o21.2.2.2.2))), (aTx, .inl (cyI, 120, .inl sTx)), (aRd, .inl (cyI, 63, .inl sRd))] → va_S A s.heap H locs → lv_has ls 5 [(0, .ref h), (1, .int w1), (2, .int w2), (4, .int v22)] → W p l e (headSpec wsX6_settling ({ frames := 5, cells := 0, slots := 0, locals := 136 } : Room)).room s m ([.ref h, .int w1, .int w2] : List Value).toArray below meth c H locs 0 0 (MQ below (va_Qi (fun (r' : Int32) (_ : Unit) => r' = out.1) (cPost (dC, dI) [(cyI, .int), (cyJ, .long), (cyB, .byte), (cyS, .object "SelfTuner$State"), (cyD, .double)] [(h, .inr (6, [.ref aAl, .ref aSv, .ref aAs, .int sN, .int out.2.1, .ref aF, .ref aG, .ref aK, .long out.2.2.1, .ref aTx, .int sTl, .int sPl, .ref aRd])), (aAl, .inl (cyJ, 76, .inr (.inl out.2.2.2.1))), (aSv, .inl (cyJ, 304, .inr (.inl sSv))), (aAs, .inl (cyJ, 76, .inr (.inl out.2.2.2.2.1))), (aF, .inl (cyJ, 3, .inr (.inl out.2.2.2.2.2.1))), (aG, .inl (cyJ, 3, .inr (.inl out.2.2.2.2.2.2.1))), (aK, .inl (cyJ, 3, .inr (.inl out.2.2.2.2.2.2.2))), (aTx, .inl (cyI, 120, .inl sTx)), (aRd, .inl (cyI, 63, .inl sRd))] A) A) ([.ref h, .int w1, .int w2] : List Value).toArray s 0 0 A) (F0 m 94 ls [.int x25]) := by
                intro x25 H locs ls hF hP hD hS hl
                rw [hK26] at hF
                refine lv_istore_n (lv' := [(3, .int x25), (0, .ref h), (1, .int w1), (2, .int w2), (4, .int v22)]) hx hb dX6_settling_94 rfl hl (by decide) rfl (fun ls hl => ?_)
                refine lv_goto (tgt := 44) hx hb dX6_settling_95 (by decide) ?_
                exact ihn10 _ _ _ _ _ _ _ _ _ _ _ hF hP hD hS (lv_sub hl [1, 2, 3, 0, 4] rfl) kxn10
              refine lv_if_eq (tgt := 93) hx hb dX6_settling_84 (by decide) (fun c24 => ?_) (fun c24 => ?_)
              · have hF := ite_t hF c24
                refine lv_iconst (v := 0) hx hb dX6_settling_93 (by decide) ?_
                exact Jx25 _ _ _ _ hF hP hD hS (lv_sub hl [1, 2, 3, 0] rfl)
              · have hF := ite_f hF c24
                refine lv_iload_n hx hb dX6_settling_87 rfl (lv_at hl 4 rfl) ?_
                refine lv_iconst (v := 1) hx hb dX6_settling_88 (by decide) ?_
                refine lv_iadd hx hb dX6_settling_89 ?_
                refine lv_goto (tgt := 94) hx hb dX6_settling_90 (by decide) ?_
                exact Jx25 _ _ _ _ hF hP hD hS (lv_sub hl [1, 2, 3, 0] rfl)
      refine Ln10 _ _ _ _ _ _ _ _ _ _ _ _ hF hP hD hS (lv_sub hl [2, 3, 4, 1, 0] rfl) (fun x27 H locs ls hF hP hD hS hl => ?_)
      refine lv_aload_n hx hb dX6_settling_98 rfl (lv_at hl 0 rfl) ?_
      obtain ⟨o28, ho28, hF⟩ := ob_e hF
      refine x_callv (wr := []) (ws' := [(h, .inr (6, [.ref aAl, .ref aSv, .ref aAs, .int sN, .int o7.2, .ref aF, .ref aG, .ref aK, .long x27.2.2.1, .ref aTx, .int sTl, .int sPl, .ref aRd])), (aAl, .inl (cyJ, 76, .inr (.inl o28))), (aSv, .inl (cyJ, 304, .inr (.inl sSv))), (aAs, .inl (cyJ, 76, .inr (.inl o9))), (aF, .inl (cyJ, 3, .inr (.inl x27.2.2.2.2.1))), (aG, .inl (cyJ, 3, .inr (.inl x27.2.2.2.2.2.1))), (aK, .inl (cyJ, 3, .inr (.inl x27.2.2.2.2.2.2))), (aTx, .inl (cyI, 120, .inl sTx)), (aRd, .inl (cyI, 63, .inl sRd))]) (va_runV (As := []) (rest := []) ⟨hx, hb, hml, hown, hts⟩ (c_X6_takesBack l dC dI cyI cyJ cyB cyS cyD h aAl aSv aAs aF aG aK aTx aRd H.size sN o7.2 x27.2.2.1 sTl sPl x27.2.2.2.1 sSv o9 x27.2.2.2.2.1 x27.2.2.2.2.2.1 x27.2.2.2.2.2.2 sTx sRd ho28) (cwV 0 hts gX6_settling_X6_takesBack rfl rfl rfl (by decide +kernel) ⟨Nat.le_of_ble_eq_true rfl, Nat.le_of_ble_eq_true rfl⟩) ⟨cPre_blind, va_recv hK hP (ci := 6) (q0 := 0) rfl rfl, x_pre hN hP hD hK [0, 1, 2, 3, 4, 5, 6, 7, 8] rfl rfl⟩ rfl rfl hl.1 rfl (lv_room (Nat.le_of_ble_eq_true rfl)) dX6_settling_99 ⟨Nat.le_of_ble_eq_true rfl, Nat.le_of_ble_eq_true rfl⟩) hP hD hS hA [0, 1, 2, 3, 4, 5, 6, 7, 8] [] [0, 1, 2, 3, 4, 5, 6, 7, 8] rfl rfl rfl (by decide) rfl rfl (fun H locs hP hD hS => ?_)
      refine lv_iload_n hx hb dX6_settling_102 rfl (lv_at hl 1 rfl) ?_
      refine lv_iconst (v := 5) hx hb dX6_settling_103 (by decide) ?_
      refine lv_icmp_ne (tgt := 112) hx hb dX6_settling_104 (by decide) (fun c29 => ?_) (fun c29 => ?_)
      · have hF := ite_f hF c29
        refine lv_iconst (v := (-1)) hx hb dX6_settling_112 (by decide) ?_
        obtain rfl := some_e hF
        exact W.iret (v := (-1)) hx hb hr (fun t ht hW => ⟨⟨(-1), (), rfl, rfl, ⟨by rw [ht]; exact hP, va_K.moved hW.alike hK, hD⟩⟩, hS.F ht⟩) hS.2.2 dX6_settling_113
      · have hF := ite_t hF c29
        refine lv_iload hx hb dX6_settling_107 (lv_at hl 2 rfl) ?_
        refine lv_goto (tgt := 113) hx hb dX6_settling_109 (by decide) ?_
        obtain rfl := some_e hF
        exact W.iret (v := x27.2.1) hx hb hr (fun t ht hW => ⟨⟨x27.2.1, (), rfl, rfl, ⟨by rw [ht]; exact hP, va_K.moved hW.alike hK, hD⟩⟩, hS.F ht⟩) hS.2.2 dX6_settling_113
    · have hF := ite_t hF c8
      refine lv_iconst (v := 0) hx hb dX6_settling_33 (by decide) ?_
      obtain rfl := some_e hF
      exact W.iret (v := 0) hx hb hr (fun t ht hW => ⟨⟨0, (), rfl, rfl, ⟨by rw [ht]; exact hP, va_K.moved hW.alike hK, hD⟩⟩, hS.F ht⟩) hS.2.2 dX6_settling_34
  refine lv_if_eq (tgt := 25) hx hb dX6_settling_6 (by decide) (fun c2 => ?_) (fun c2 => ?_)
  · have hF := ite_t hF c2
    refine lv_iconst (v := 0) hx hb dX6_settling_25 (by decide) ?_
    exact Jx5 _ _ _ _ hF hP hD hS (lv_sub hl [0, 1, 2] rfl)
  · have hF := ite_f hF c2
    refine lv_iload_n hx hb dX6_settling_9 rfl (lv_at hl 2 rfl) ?_
    refine lv_i2l (v := w2.toInt64) hx hb dX6_settling_10 rfl ?_
    refine lv_lconst (v := 0) hx hb dX6_settling_11 (by decide) ?_
    refine lv_ldc2 (v := 500) hx hb hown (hts _ kX6_settling_1) dX6_settling_12 ?_
    obtain ⟨o3, ho3, hF⟩ := ob_e hF
    refine x_callzi (va_runS (As := [.long w2.toInt64, .long 0, .long 500]) (rest := [.ref h]) ⟨hx, hb, hml, hown, hts⟩ (c_X6_in l w2.toInt64 0 500 ho3) (va_cwS 3 hts gX6_settling_X6_in rfl rfl rfl (by decide +kernel) ⟨Nat.le_of_ble_eq_true rfl, Nat.le_of_ble_eq_true rfl⟩) ⟨true_blind, fun _ _ _ => ⟨rfl, trivial⟩⟩ rfl rfl hl.1 rfl (lv_room (Nat.le_of_ble_eq_true rfl)) dX6_settling_15 ⟨Nat.le_of_ble_eq_true rfl, Nat.le_of_ble_eq_true rfl⟩) ?_
    refine lv_if_eq (tgt := 25) hx hb dX6_settling_18 (by decide) (fun c4 => ?_) (fun c4 => ?_)
    · have hF := ite_t hF c4
      refine lv_iconst (v := 0) hx hb dX6_settling_25 (by decide) ?_
      exact Jx5 _ _ _ _ hF hP hD hS (lv_sub hl [0, 1, 2] rfl)
    · have hF := ite_f hF c4
      refine lv_iconst (v := 1) hx hb dX6_settling_21 (by decide) ?_
      refine lv_goto (tgt := 26) hx hb dX6_settling_22 (by decide) ?_
      exact Jx5 _ _ _ _ hF hP hD hS (lv_sub hl [0, 1, 2] rfl)
def F_X6_bestDither_63 (w3 : Int32) (w1 : Int32) (w2 : Int32) : Nat → ((Int32 × Int64 × (Nat → Int64) × (Nat → Int64) × (Nat → Int64) × (Nat → Int64) × (Nat → Int64)) → Option (Int32 × Int32 × Int64 × (Nat → Int64) × (Nat → Int64) × (Nat → Int64) × (Nat → Int64) × (Nat → Int64))) → Int32 → Int64 → Int32 → Int64 → (Nat → Int64) → (Nat → Int64) → (Nat → Int64) → (Nat → Int64) → (Nat → Int64) → Option (Int32 × Int32 × Int64 × (Nat → Int64) × (Nat → Int64) × (Nat → Int64) × (Nat → Int64) × (Nat → Int64))
  | 0, _, _, _, _, _, _, _, _, _, _ => none
  | n12 + 1, K13, v14, v15, v16, v17, v18, v19, v20, v21, v22 => if (w3 : Int32) < v16 then (K13 (v14, v17, v18, v19, v20, v21, v22)) else (ob (F_X6_costs v17 v18 v19 v20 v21 v22 w1.toInt64 w2 v16.toInt64) (fun o24 => rg (α := Int32) (fun K27 => if (o24.1 : Int64) < v15 then (K27 v16) else (K27 v14)) (fun x26 => rg (α := Int64) (fun K30 => if (o24.1 : Int64) < v15 then (K30 o24.1) else (K30 v15)) (fun x29 => lt_ (α := Int32) (v16 + 1) (fun v31 => F_X6_bestDither_63 w3 w1 w2 n12 K13 x26 x29 v31 o24.2.1 o24.2.2.1 o24.2.2.2.1 o24.2.2.2.2.1 o24.2.2.2.2.2.1 o24.2.2.2.2.2.2)))))
def F_X6_bestDither (sS : Int64) (sAl : Nat → Int64) (sAs : Nat → Int64) (sF : Nat → Int64) (sG : Nat → Int64) (sK : Nat → Int64) (w1 : Int32) (w2 : Int32) (w3 : Int32) : Option (Int32 × Int32 × Int64 × (Nat → Int64) × (Nat → Int64) × (Nat → Int64) × (Nat → Int64) × (Nat → Int64)) := ob (F_X6_isSignal w1.toInt64) (fun o1 => rg (α := Int32) (fun K8 => if (o1 : Int32) = 0 then (K8 0) else (ob (F_X6_in w2.toInt64 1 50) (fun o3 => if (o3 : Int32) = 0 then (K8 0) else (ob (F_X6_in w3.toInt64 0 100) (fun o5 => if (o5 : Int32) = 0 then (K8 0) else (K8 1)))))) (fun x7 => ob (F_X6_goes x7 1) (fun o9 => if (o9.1 : Int32) = 0 then (some (0, o9.2, sS, sAl, sAs, sF, sG, sK)) else (ob (F_X6_costs sS sAl sAs sF sG sK w1.toInt64 w2 0) (fun o11 => F_X6_bestDither_63 w3 w1 w2 1000 (fun x32 => some (x32.1, o9.2, x32.2.1, x32.2.2.1, x32.2.2.2.1, x32.2.2.2.2.1, x32.2.2.2.2.2.1, x32.2.2.2.2.2.2)) 0 o11.1 1 o11.2.1 o11.2.2.1 o11.2.2.2.1 o11.2.2.2.2.1 o11.2.2.2.2.2.1 o11.2.2.2.2.2.2)))))
theorem kX6_bestDither_1 : (Cond.constantLong RX6 199 (50)) ∈ wsX6_bestDither := List.mem_of_getElem? (i := 1) rfl
theorem kX6_bestDither_2 : (Cond.constantLong RX6 73 (100)) ∈ wsX6_bestDither := List.mem_of_getElem? (i := 2) rfl
set_option maxHeartbeats 4000000 in
set_option maxRecDepth 100000 in
theorem c_X6_bestDither (l : Launch) (dC : Nat → ClassId) (dI : Nat → Nat → Nat) (cyI cyJ cyB cyS cyD : ClassId) (h : Nat) (aAl : Nat) (aSv : Nat) (aAs : Nat) (aF : Nat) (aG : Nat) (aK : Nat) (aTx : Nat) (aRd : Nat) (sz : Nat) (sN : Int32) (sTh : Int32) (sS : Int64) (sTl : Int32) (sPl : Int32) (sAl : Nat → Int64) (sSv : Nat → Int64) (sAs : Nat → Int64) (sF : Nat → Int64) (sG : Nat → Int64) (sK : Nat → Int64) (sTx : Nat → Int32) (sRd : Nat → Int32) (w1 : Int32) (w2 : Int32) (w3 : Int32) {out : Int32 × Int32 × Int64 × (Nat → Int64) × (Nat → Int64) × (Nat → Int64) × (Nat → Int64) × (Nat → Int64)} (hF : F_X6_bestDither sS sAl sAs sF sG sK w1 w2 w3 = some out) : Mi l yX6_bestDither wsX6_bestDither ({ frames := 6, cells := 0, slots := 0, locals := 166 } : Room) (dC, dI) [(cyI, .int), (cyJ, .long), (cyB, .byte), (cyS, .object "SelfTuner$State"), (cyD, .double)] sz [.ref h, .int w1, .int w2, .int w3] [(h, .inr (6, [.ref aAl, .ref aSv, .ref aAs, .int sN, .int sTh, .ref aF, .ref aG, .ref aK, .long sS, .ref aTx, .int sTl, .int sPl, .ref aRd])), (aAl, .inl (cyJ, 76, .inr (.inl sAl))), (aSv, .inl (cyJ, 304, .inr (.inl sSv))), (aAs, .inl (cyJ, 76, .inr (.inl sAs))), (aF, .inl (cyJ, 3, .inr (.inl sF))), (aG, .inl (cyJ, 3, .inr (.inl sG))), (aK, .inl (cyJ, 3, .inr (.inl sK))), (aTx, .inl (cyI, 120, .inl sTx)), (aRd, .inl (cyI, 63, .inl sRd))] out.1 [(h, .inr (6, [.ref aAl, .ref aSv, .ref aAs, .int sN, .int out.2.1, .ref aF, .ref aG, .ref aK, .long out.2.2.1, .ref aTx, .int sTl, .int sPl, .ref aRd])), (aAl, .inl (cyJ, 76, .inr (.inl out.2.2.2.1))), (aSv, .inl (cyJ, 304, .inr (.inl sSv))), (aAs, .inl (cyJ, 76, .inr (.inl out.2.2.2.2.1))), (aF, .inl (cyJ, 3, .inr (.inl out.2.2.2.2.2.1))), (aG, .inl (cyJ, 3, .inr (.inl out.2.2.2.2.2.2.1))), (aK, .inl (cyJ, 3, .inr (.inl out.2.2.2.2.2.2.2))), (aTx, .inl (cyI, 120, .inl sTx)), (aRd, .inl (cyI, 63, .inl sRd))] := by
  refine Met.ofW (cc := cX6_bestDither) (maxL := 10) (ret := (some .int)) (by decide) rfl ?_
  intro p e s m args below meth c s₁ B hml hv
  obtain ⟨rfl, hN, hsz, hP, hK, hD0⟩ := hv
  have hx := B.exec
  have hb := B.bytes
  have hr := B.returns
  have hts := atoms_spec (ws := wsX6_bestDither) B.pre
  have hown : s.vm.findClass RX6 = some m.cls := findClass_of_methodNamed B.named
  have hlocks := B.notSynchronized
  subst hsz
  have hD := hD0.self (sz := s.heap.size)
  generalize hAe : va_A [(h, .inr (6, [.ref aAl, .ref aSv, .ref aAs, .int sN, .int sTh, .ref aF, .ref aG, .ref aK, .long sS, .ref aTx, .int sTl, .int sPl, .ref aRd])), (aAl, .inl (cyJ, 76, .inr (.inl sAl))), (aSv, .inl (cyJ, 304, .inr (.inl sSv))), (aAs, .inl (cyJ, 76, .inr (.inl sAs))), (aF, .inl (cyJ, 3, .inr (.inl sF))), (aG, .inl (cyJ, 3, .inr (.inl sG))), (aK, .inl (cyJ, 3, .inr (.inl sK))), (aTx, .inl (cyI, 120, .inl sTx)), (aRd, .inl (cyI, 63, .inl sRd))] s.heap.size = A at hD ⊢
  have hA : ∀ q : Nat, s.heap.size ≤ q → A q := fun q h => by rw [← hAe]; exact Or.inr h
  have hS : va_S A s.heap s.heap [] := va_S.rf
  have hP : va_P (dC, dI) vwCl [(h, .inr (6, [.ref aAl, .ref aSv, .ref aAs, .int sN, .int sTh, .ref aF, .ref aG, .ref aK, .long sS, .ref aTx, .int sTl, .int sPl, .ref aRd])), (aAl, .inl (cyJ, 76, .inr (.inl sAl))), (aSv, .inl (cyJ, 304, .inr (.inl sSv))), (aAs, .inl (cyJ, 76, .inr (.inl sAs))), (aF, .inl (cyJ, 3, .inr (.inl sF))), (aG, .inl (cyJ, 3, .inr (.inl sG))), (aK, .inl (cyJ, 3, .inr (.inl sK))), (aTx, .inl (cyI, 120, .inl sTx)), (aRd, .inl (cyI, 63, .inl sRd))] s.heap := hP
  have hl := lv_entry ([.ref h, .int w1, .int w2, .int w3]) (n := 10) (Nat.le_of_ble_eq_true rfl)
  rw [lg_entry_eq]
  generalize (lg_sl ([.ref h, .int w1, .int w2, .int w3]) ++ List.replicate (10 - (lg_sl ([.ref h, .int w1, .int w2, .int w3])).length) Slot.unset).toArray = ls at hl ⊢
  have hl : lv_has ls 10 [(0, .ref h), (1, .int w1), (2, .int w2), (3, .int w3)] := hl
  unfold F_X6_bestDither at hF
  refine lv_aload_n hx hb dX6_bestDither_0 rfl (lv_at hl 0 rfl) ?_
  refine lv_iload_n hx hb dX6_bestDither_1 rfl (lv_at hl 1 rfl) ?_
  refine lv_i2l (v := w1.toInt64) hx hb dX6_bestDither_2 rfl ?_
  obtain ⟨o1, ho1, hF⟩ := ob_e hF
  refine x_callzi (va_runS (As := [.long w1.toInt64]) (rest := [.ref h]) ⟨hx, hb, hml, hown, hts⟩ (c_X6_isSignal l w1.toInt64 ho1) (va_cwS 1 hts gX6_bestDither_X6_isSignal rfl rfl rfl (by decide +kernel) ⟨Nat.le_of_ble_eq_true rfl, Nat.le_of_ble_eq_true rfl⟩) ⟨true_blind, fun _ _ _ => ⟨rfl, trivial⟩⟩ rfl rfl hl.1 rfl (lv_room (Nat.le_of_ble_eq_true rfl)) dX6_bestDither_3 ⟨Nat.le_of_ble_eq_true rfl, Nat.le_of_ble_eq_true rfl⟩) ?_
  obtain ⟨K8, hK8, hF⟩ := rg_e hF
  have Jx7 : ∀ (x7 : Int32) (H : Heap) (locs : List Loc) (ls : Array Slot), K8 x7 = some out → va_P (dC, dI) vwCl [(h, .inr (6, [.ref aAl, .ref aSv, .ref aAs, .int sN, .int sTh, .ref aF, .ref aG, .ref aK, .long sS, .ref aTx, .int sTl, .int sPl, .ref aRd])), (aAl, .inl (cyJ, 76, .inr (.inl sAl))), (aSv, .inl (cyJ, 304, .inr (.inl sSv))), (aAs, .inl (cyJ, 76, .inr (.inl sAs))), (aF, .inl (cyJ, 3, .inr (.inl sF))), (aG, .inl (cyJ, 3, .inr (.inl sG))), (aK, .inl (cyJ, 3, .inr (.inl sK))), (aTx, .inl (cyI, 120, .inl sTx)), (aRd, .inl (cyI, 63, .inl sRd))] H → va_D A [(h, .inr (6, [.ref aAl, .ref aSv, .ref aAs, .int sN, .int sTh, .ref aF, .ref aG, .ref aK, .long sS, .ref aTx, .int sTl, .int sPl, .ref aRd])), (aAl, .inl (cyJ, 76, .inr (.inl sAl))), (aSv, .inl (cyJ, 304, .inr (.inl sSv))), (aAs, .inl (cyJ, 76, .inr (.inl sAs))), (aF, .inl (cyJ, 3, .inr (.inl sF))), (aG, .inl (cyJ, 3, .inr (.inl sG))), (aK, .inl (cyJ, 3, .inr (.inl sK))), (aTx, .inl (cyI, 120, .inl sTx)), (aRd, .inl (cyI, 63, .inl sRd))] → va_S A s.heap H locs → lv_has ls 10 [(0, .ref h), (1, .int w1), (2, .int w2), (3, .int w3)] → W p l e (headSpec wsX6_bestDither ({ frames := 6, cells := 0, slots := 0, locals := 166 } : Room)).room s m ([.ref h, .int w1, .int w2, .int w3] : List Value).toArray below meth c H locs 0 0 (MQ below (va_Qi (fun (r' : Int32) (_ : Unit) => r' = out.1) (cPost (dC, dI) [(cyI, .int), (cyJ, .long), (cyB, .byte), (cyS, .object "SelfTuner$State"), (cyD, .double)] [(h, .inr (6, [.ref aAl, .ref aSv, .ref aAs, .int sN, .int out.2.1, .ref aF, .ref aG, .ref aK, .long out.2.2.1, .ref aTx, .int sTl, .int sPl, .ref aRd])), (aAl, .inl (cyJ, 76, .inr (.inl out.2.2.2.1))), (aSv, .inl (cyJ, 304, .inr (.inl sSv))), (aAs, .inl (cyJ, 76, .inr (.inl out.2.2.2.2.1))), (aF, .inl (cyJ, 3, .inr (.inl out.2.2.2.2.2.1))), (aG, .inl (cyJ, 3, .inr (.inl out.2.2.2.2.2.2.1))), (aK, .inl (cyJ, 3, .inr (.inl out.2.2.2.2.2.2.2))), (aTx, .inl (cyI, 120, .inl sTx)), (aRd, .inl (cyI, 63, .inl sRd))] A) A) ([.ref h, .int w1, .int w2, .int w3] : List Value).toArray s 0 0 A) (F0 m 38 ls [.int x7, .ref h]) := by
    intro x7 H locs ls hF hP hD hS hl
    rw [hK8] at hF
    refine lv_iconst (v := 1) hx hb dX6_bestDither_38 (by decide) ?_
    obtain ⟨o9, ho9, hF⟩ := ob_e hF
    refine x_calli (wr := []) (ws' := [(h, .inr (6, [.ref aAl, .ref aSv, .ref aAs, .int sN, .int o9.2, .ref aF, .ref aG, .ref aK, .long sS, .ref aTx, .int sTl, .int sPl, .ref aRd])), (aAl, .inl (cyJ, 76, .inr (.inl sAl))), (aSv, .inl (cyJ, 304, .inr (.inl sSv))), (aAs, .inl (cyJ, 76, .inr (.inl sAs))), (aF, .inl (cyJ, 3, .inr (.inl sF))), (aG, .inl (cyJ, 3, .inr (.inl sG))), (aK, .inl (cyJ, 3, .inr (.inl sK))), (aTx, .inl (cyI, 120, .inl sTx)), (aRd, .inl (cyI, 63, .inl sRd))]) (va_runV (As := [.int x7, .int 1]) (rest := []) ⟨hx, hb, hml, hown, hts⟩ (c_X6_goes l dC dI cyI cyJ cyB cyS cyD h aAl aSv aAs aF aG aK aTx aRd H.size sN sTh sS sTl sPl sAl sSv sAs sF sG sK sTx sRd x7 1 ho9) (cwV 2 hts gX6_bestDither_X6_goes rfl rfl rfl (by decide +kernel) ⟨Nat.le_of_ble_eq_true rfl, Nat.le_of_ble_eq_true rfl⟩) ⟨cPre_blind, va_recv hK hP (ci := 6) (q0 := 0) rfl rfl, x_pre hN hP hD hK [0, 1, 2, 3, 4, 5, 6, 7, 8] rfl rfl⟩ rfl rfl hl.1 rfl (lv_room (Nat.le_of_ble_eq_true rfl)) dX6_bestDither_39 ⟨Nat.le_of_ble_eq_true rfl, Nat.le_of_ble_eq_true rfl⟩) hP hD hS hA [0, 1, 2, 3, 4, 5, 6, 7, 8] [] [0, 1, 2, 3, 4, 5, 6, 7, 8] rfl rfl rfl (by decide) rfl rfl (fun H locs hP hD hS => ?_)
    refine lv_if_ne (tgt := 47) hx hb dX6_bestDither_42 (by decide) (fun c10 => ?_) (fun c10 => ?_)
    · have hF := ite_f hF c10
      refine lv_iconst (v := 0) hx hb dX6_bestDither_47 (by decide) ?_
      refine lv_istore (lv' := [(4, .int 0), (0, .ref h), (1, .int w1), (2, .int w2), (3, .int w3)]) hx hb dX6_bestDither_48 hl (by decide) rfl (fun ls hl => ?_)
      refine lv_aload_n hx hb dX6_bestDither_50 rfl (lv_at hl 1 rfl) ?_
      refine lv_iload_n hx hb dX6_bestDither_51 rfl (lv_at hl 2 rfl) ?_
      refine lv_i2l (v := w1.toInt64) hx hb dX6_bestDither_52 rfl ?_
      refine lv_iload_n hx hb dX6_bestDither_53 rfl (lv_at hl 3 rfl) ?_
      refine lv_lconst (v := 0) hx hb dX6_bestDither_54 (by decide) ?_
      obtain ⟨o11, ho11, hF⟩ := ob_e hF
      refine x_calll (wr := []) (ws' := [(h, .inr (6, [.ref aAl, .ref aSv, .ref aAs, .int sN, .int o9.2, .ref aF, .ref aG, .ref aK, .long o11.2.1, .ref aTx, .int sTl, .int sPl, .ref aRd])), (aAl, .inl (cyJ, 76, .inr (.inl o11.2.2.1))), (aSv, .inl (cyJ, 304, .inr (.inl sSv))), (aAs, .inl (cyJ, 76, .inr (.inl o11.2.2.2.1))), (aF, .inl (cyJ, 3, .inr (.inl o11.2.2.2.2.1))), (aG, .inl (cyJ, 3, .inr (.inl o11.2.2.2.2.2.1))), (aK, .inl (cyJ, 3, .inr (.inl o11.2.2.2.2.2.2))), (aTx, .inl (cyI, 120, .inl sTx)), (aRd, .inl (cyI, 63, .inl sRd))]) (va_runV (As := [.long w1.toInt64, .int w2, .long 0]) (rest := []) ⟨hx, hb, hml, hown, hts⟩ (c_X6_costs l dC dI cyI cyJ cyB cyS cyD h aAl aSv aAs aF aG aK aTx aRd H.size sN o9.2 sS sTl sPl sAl sSv sAs sF sG sK sTx sRd w1.toInt64 w2 0 ho11) (cwV 3 hts gX6_bestDither_X6_costs rfl rfl rfl (by decide +kernel) ⟨Nat.le_of_ble_eq_true rfl, Nat.le_of_ble_eq_true rfl⟩) ⟨cPre_blind, va_recv hK hP (ci := 6) (q0 := 0) rfl rfl, x_pre hN hP hD hK [0, 1, 2, 3, 4, 5, 6, 7, 8] rfl rfl⟩ rfl rfl hl.1 rfl (lv_room (Nat.le_of_ble_eq_true rfl)) dX6_bestDither_55 ⟨Nat.le_of_ble_eq_true rfl, Nat.le_of_ble_eq_true rfl⟩) hP hD hS hA [0, 1, 2, 3, 4, 5, 6, 7, 8] [] [0, 1, 2, 3, 4, 5, 6, 7, 8] rfl rfl rfl (by decide) rfl rfl (fun H locs hP hD hS => ?_)
      refine lv_lstore (lv' := [(5, .long o11.1), (4, .int 0), (0, .ref h), (1, .int w1), (2, .int w2), (3, .int w3)]) hx hb dX6_bestDither_58 hl (by decide) rfl (fun ls hl => ?_)
      refine lv_iconst (v := 1) hx hb dX6_bestDither_60 (by decide) ?_
      refine lv_istore (lv' := [(7, .int 1), (5, .long o11.1), (4, .int 0), (0, .ref h), (1, .int w1), (2, .int w2), (3, .int w3)]) hx hb dX6_bestDither_61 hl (by decide) rfl (fun ls hl => ?_)
      have Ln12 : ∀ (n12 : Nat) (K13 : (Int32 × Int64 × (Nat → Int64) × (Nat → Int64) × (Nat → Int64) × (Nat → Int64) × (Nat → Int64)) → Option (Int32 × Int32 × Int64 × (Nat → Int64) × (Nat → Int64) × (Nat → Int64) × (Nat → Int64) × (Nat → Int64))) (v14 : Int32) (v15 : Int64) (v16 : Int32) (v17 : Int64) (v18 : Nat → Int64) (v19 : Nat → Int64) (v20 : Nat → Int64) (v21 : Nat → Int64) (v22 : Nat → Int64) (H : Heap) (locs : List Loc) (ls : Array Slot), F_X6_bestDither_63 w3 w1 w2 n12 K13 v14 v15 v16 v17 v18 v19 v20 v21 v22 = some out → va_P (dC, dI) vwCl [(h, .inr (6, [.ref aAl, .ref aSv, .ref aAs, .int sN, .int o9.2, .ref aF, .ref aG, .ref aK, .long v17, .ref aTx, .int sTl, .int sPl, .ref aRd])), (aAl, .inl (cyJ, 76, .inr (.inl v18))), (aSv, .inl (cyJ, 304, .inr (.inl sSv))), (aAs, .inl (cyJ, 76, .inr (.inl v19))), (aF, .inl (cyJ, 3, .inr (.inl v20))), (aG, .inl (cyJ, 3, .inr (.inl v21))), (aK, .inl (cyJ, 3, .inr (.inl v22))), (aTx, .inl (cyI, 120, .inl sTx)), (aRd, .inl (cyI, 63, .inl sRd))] H → va_D A [(h, .inr (6, [.ref aAl, .ref aSv, .ref aAs, .int sN, .int o9.2, .ref aF, .ref aG, .ref aK, .long v17, .ref aTx, .int sTl, .int sPl, .ref aRd])), (aAl, .inl (cyJ, 76, .inr (.inl v18))), (aSv, .inl (cyJ, 304, .inr (.inl sSv))), (aAs, .inl (cyJ, 76, .inr (.inl v19))), (aF, .inl (cyJ, 3, .inr (.inl v20))), (aG, .inl (cyJ, 3, .inr (.inl v21))), (aK, .inl (cyJ, 3, .inr (.inl v22))), (aTx, .inl (cyI, 120, .inl sTx)), (aRd, .inl (cyI, 63, .inl sRd))] → va_S A s.heap H locs → lv_has ls 10 [(0, .ref h), (1, .int w1), (2, .int w2), (3, .int w3), (4, .int v14), (5, .long v15), (7, .int v16)] → (∀ (x32 : Int32 × Int64 × (Nat → Int64) × (Nat → Int64) × (Nat → Int64) × (Nat → Int64) × (Nat → Int64)) (H : Heap) (locs : List Loc) (ls : Array Slot), K13 x32 = some out → va_P (dC, dI) vwCl [(h, .inr (6, [.ref aAl, .ref aSv, .ref aAs, .int sN, .int o9.2, .ref aF, .ref aG, .ref aK, .long x32.2.1, .ref aTx, .int sTl, .int sPl, .ref aRd])), (aAl, .inl (cyJ, 76, .inr (.inl x32.2.2.1))), (aSv, .inl (cyJ, 304, .inr (.inl sSv))), (aAs, .inl (cyJ, 76, .inr (.inl x32.2.2.2.1))), (aF, .inl (cyJ, 3, .inr (.inl x32.2.2.2.2.1))), (aG, .inl (cyJ, 3, .inr (.inl x32.2.2.2.2.2.1))), (aK, .inl (cyJ, 3, .inr (.inl x32.2.2.2.2.2.2))), (aTx, .inl (cyI, 120, .inl sTx)), (aRd, .inl (cyI, 63, .inl sRd))] H → va_D A [(h, .inr (6, [.ref aAl, .ref aSv, .ref aAs, .int sN, .int o9.2, .ref aF, .ref aG, .ref aK, .long x32.2.1, .ref aTx, .int sTl, .int sPl, .ref aRd])), (aAl, .inl (cyJ, 76, .inr (.inl x32.2.2.1))), (aSv, .inl (cyJ, 304, .inr (.inl sSv))), (aAs, .inl (cyJ, 76, .inr (.inl x32.2.2.2.1))), (aF, .inl (cyJ, 3, .inr (.inl x32.2.2.2.2.1))), (aG, .inl (cyJ, 3, .inr (.inl x32.2.2.2.2.2.1))), (aK, .inl (cyJ, 3, .inr (.inl x32.2.2.2.2.2.2))), (aTx, .inl (cyI, 120, .inl sTx)), (aRd, .inl (cyI, 63, .inl sRd))] → va_S A s.heap H locs → lv_has ls 10 [(4, .int x32.1)] → W p l e (headSpec wsX6_bestDither ({ frames := 6, cells := 0, slots := 0, locals := 166 } : Room)).room s m ([.ref h, .int w1, .int w2, .int w3] : List Value).toArray below meth c H locs 0 0 (MQ below (va_Qi (fun (r' : Int32) (_ : Unit) => r' = out.1) (cPost (dC, dI) [(cyI, .int), (cyJ, .long), (cyB, .byte), (cyS, .object "SelfTuner$State"), (cyD, .double)] [(h, .inr (6, [.ref aAl, .ref aSv, .ref aAs, .int sN, .int out.2.1, .ref aF, .ref aG, .ref aK, .long out.2.2.1, .ref aTx, .int sTl, .int sPl, .ref aRd])), (aAl, .inl (cyJ, 76, .inr (.inl out.2.2.2.1))), (aSv, .inl (cyJ, 304, .inr (.inl sSv))), (aAs, .inl (cyJ, 76, .inr (.inl out.2.2.2.2.1))), (aF, .inl (cyJ, 3, .inr (.inl out.2.2.2.2.2.1))), (aG, .inl (cyJ, 3, .inr (.inl out.2.2.2.2.2.2.1))), (aK, .inl (cyJ, 3, .inr (.inl out.2.2.2.2.2.2.2))), (aTx, .inl (cyI, 120, .inl sTx)), (aRd, .inl (cyI, 63, .inl sRd))] A) A) ([.ref h, .int w1, .int w2, .int w3] : List Value).toArray s 0 0 A) (F0 m 121 ls [])) → W p l e (headSpec wsX6_bestDither ({ frames := 6, cells := 0, slots := 0, locals := 166 } : Room)).room s m ([.ref h, .int w1, .int w2, .int w3] : List Value).toArray below meth c H locs 0 0 (MQ below (va_Qi (fun (r' : Int32) (_ : Unit) => r' = out.1) (cPost (dC, dI) [(cyI, .int), (cyJ, .long), (cyB, .byte), (cyS, .object "SelfTuner$State"), (cyD, .double)] [(h, .inr (6, [.ref aAl, .ref aSv, .ref aAs, .int sN, .int out.2.1, .ref aF, .ref aG, .ref aK, .long out.2.2.1, .ref aTx, .int sTl, .int sPl, .ref aRd])), (aAl, .inl (cyJ, 76, .inr (.inl out.2.2.2.1))), (aSv, .inl (cyJ, 304, .inr (.inl sSv))), (aAs, .inl (cyJ, 76, .inr (.inl out.2.2.2.2.1))), (aF, .inl (cyJ, 3, .inr (.inl out.2.2.2.2.2.1))), (aG, .inl (cyJ, 3, .inr (.inl out.2.2.2.2.2.2.1))), (aK, .inl (cyJ, 3, .inr (.inl out.2.2.2.2.2.2.2))), (aTx, .inl (cyI, 120, .inl sTx)), (aRd, .inl (cyI, 63, .inl sRd))] A) A) ([.ref h, .int w1, .int w2, .int w3] : List Value).toArray s 0 0 A) (F0 m 63 ls []) := by
        intro n12
        induction n12 with
        | zero => intro K13 v14 v15 v16 v17 v18 v19 v20 v21 v22 H locs ls hF; exact no_e (show none = some out from hF)
        | succ n12 ihn12 =>
          intro K13 v14 v15 v16 v17 v18 v19 v20 v21 v22 H locs ls hF hP hD hS hl kxn12
          rw [F_X6_bestDither_63] at hF
          refine lv_iload hx hb dX6_bestDither_63 (lv_at hl 6 rfl) ?_
          refine lv_iload_n hx hb dX6_bestDither_65 rfl (lv_at hl 3 rfl) ?_
          refine lv_icmp_gt (tgt := 121) hx hb dX6_bestDither_66 (by decide) (fun c23 => ?_) (fun c23 => ?_)
          · have hF := ite_t hF c23
            exact kxn12 _ _ _ _ hF hP hD hS (lv_sub hl [4] rfl)
          · have hF := ite_f hF c23
            refine lv_aload_n hx hb dX6_bestDither_69 rfl (lv_at hl 0 rfl) ?_
            refine lv_iload_n hx hb dX6_bestDither_70 rfl (lv_at hl 1 rfl) ?_
            refine lv_i2l (v := w1.toInt64) hx hb dX6_bestDither_71 rfl ?_
            refine lv_iload_n hx hb dX6_bestDither_72 rfl (lv_at hl 2 rfl) ?_
            refine lv_iload hx hb dX6_bestDither_73 (lv_at hl 6 rfl) ?_
            refine lv_i2l (v := v16.toInt64) hx hb dX6_bestDither_75 rfl ?_
            obtain ⟨o24, ho24, hF⟩ := ob_e hF
            refine x_calll (wr := []) (ws' := [(h, .inr (6, [.ref aAl, .ref aSv, .ref aAs, .int sN, .int o9.2, .ref aF, .ref aG, .ref aK, .long o24.2.1, .ref aTx, .int sTl, .int sPl, .ref aRd])), (aAl, .inl (cyJ, 76, .inr (.inl o24.2.2.1))), (aSv, .inl (cyJ, 304, .inr (.inl sSv))), (aAs, .inl (cyJ, 76, .inr (.inl o24.2.2.2.1))), (aF, .inl (cyJ, 3, .inr (.inl o24.2.2.2.2.1))), (aG, .inl (cyJ, 3, .inr (.inl o24.2.2.2.2.2.1))), (aK, .inl (cyJ, 3, .inr (.inl o24.2.2.2.2.2.2))), (aTx, .inl (cyI, 120, .inl sTx)), (aRd, .inl (cyI, 63, .inl sRd))]) (va_runV (As := [.long w1.toInt64, .int w2, .long v16.toInt64]) (rest := []) ⟨hx, hb, hml, hown, hts⟩ (c_X6_costs l dC dI cyI cyJ cyB cyS cyD h aAl aSv aAs aF aG aK aTx aRd H.size sN o9.2 v17 sTl sPl v18 sSv v19 v20 v21 v22 sTx sRd w1.toInt64 w2 v16.toInt64 ho24) (cwV 3 hts gX6_bestDither_X6_costs rfl rfl rfl (by decide +kernel) ⟨Nat.le_of_ble_eq_true rfl, Nat.le_of_ble_eq_true rfl⟩) ⟨cPre_blind, va_recv hK hP (ci := 6) (q0 := 0) rfl rfl, x_pre hN hP hD hK [0, 1, 2, 3, 4, 5, 6, 7, 8] rfl rfl⟩ rfl rfl hl.1 rfl (lv_room (Nat.le_of_ble_eq_true rfl)) dX6_bestDither_76 ⟨Nat.le_of_ble_eq_true rfl, Nat.le_of_ble_eq_true rfl⟩) hP hD hS hA [0, 1, 2, 3, 4, 5, 6, 7, 8] [] [0, 1, 2, 3, 4, 5, 6, 7, 8] rfl rfl rfl (by decide) rfl rfl (fun H locs hP hD hS => ?_)
            refine lv_lstore (lv' := [(8, .long o24.1), (0, .ref h), (1, .int w1), (2, .int w2), (3, .int w3), (4, .int v14), (5, .long v15), (7, .int v16)]) hx hb dX6_bestDither_79 hl (by decide) rfl (fun ls hl => ?_)
            refine lv_lload hx hb dX6_bestDither_81 (lv_at hl 0 rfl) ?_
            refine lv_lload hx hb dX6_bestDither_83 (lv_at hl 6 rfl) ?_
            refine W.lcmp hx hb dX6_bestDither_85 ?_
            obtain ⟨K27, hK27, hF⟩ := rg_e hF
            have Jx26 : ∀ (x26 : Int32) (H : Heap) (locs : List Loc) (ls : Array Slot), K27 x26 = some out → va_P (dC, dI) vwCl [(h, .inr (6, [.ref aAl, .ref aSv, .ref aAs, .int sN, .int o9.2, .ref aF, .ref aG, .ref aK, .long o24.2.1, .ref aTx, .int sTl, .int sPl, .ref aRd])), (aAl, .inl (cyJ, 76, .inr (.inl o24.2.2.1))), (aSv, .inl (cyJ, 304, .inr (.inl sSv))), (aAs, .inl (cyJ, 76, .inr (.inl o24.2.2.2.1))), (aF, .inl (cyJ, 3, .inr (.inl o24.2.2.2.2.1))), (aG, .inl (cyJ, 3, .inr (.inl o24.2.2.2.2.2.1))), (aK, .inl (cyJ, 3, .inr (.inl o24.2.2.2.2.2.2))), (aTx, .inl (cyI, 120, .inl sTx)), (aRd, .inl (cyI, 63, .inl sRd))] H → va_D A [(h, .inr (6, [.ref aAl, .ref aSv, .ref aAs, .int sN, .int o9.2, .ref aF, .ref aG, .ref aK, .long o24.2.1, .ref aTx, .int sTl, .int sPl, .ref aRd])), (aAl, .inl (cyJ, 76, .inr (.inl o24.2.2.1))), (aSv, .inl (cyJ, 304, .inr (.inl sSv))), (aAs, .inl (cyJ, 76, .inr (.inl o24.2.2.2.1))), (aF, .inl (cyJ, 3, .inr (.inl o24.2.2.2.2.1))), (aG, .inl (cyJ, 3, .inr (.inl o24.2.2.2.2.2.1))), (aK, .inl (cyJ, 3, .inr (.inl o24.2.2.2.2.2.2))), (aTx, .inl (cyI, 120, .inl sTx)), (aRd, .inl (cyI, 63, .inl sRd))] → va_S A s.heap H locs → lv_has ls 10 [(0, .ref h), (1, .int w1), (2, .int w2), (3, .int w3), (5, .long v15), (7, .int v16), (8, .long o24.1)] → W p l e (headSpec wsX6_bestDither ({ frames := 6, cells := 0, slots := 0, locals := 166 } : Room)).room s m ([.ref h, .int w1, .int w2, .int w3] : List Value).toArray below meth c H locs 0 0 (MQ below (va_Qi (fun (r' : Int32) (_ : Unit) => r' = out.1) (cPost (dC, dI) [(cyI, .int), (cyJ, .long), (cyB, .byte), (cyS, .object "SelfTuner$State"), (cyD, .double)] [(h, .inr (6, [.ref aAl, .ref aSv, .ref aAs, .int sN, .int out.2.1, .ref aF, .ref aG, .ref aK, .long out.2.2.1, .ref aTx, .int sTl, .int sPl, .ref aRd])), (aAl, .inl (cyJ, 76, .inr (.inl out.2.2.2.1))), (aSv, .inl (cyJ, 304, .inr (.inl sSv))), (aAs, .inl (cyJ, 76, .inr (.inl out.2.2.2.2.1))), (aF, .inl (cyJ, 3, .inr (.inl out.2.2.2.2.2.1))), (aG, .inl (cyJ, 3, .inr (.inl out.2.2.2.2.2.2.1))), (aK, .inl (cyJ, 3, .inr (.inl out.2.2.2.2.2.2.2))), (aTx, .inl (cyI, 120, .inl sTx)), (aRd, .inl (cyI, 63, .inl sRd))] A) A) ([.ref h, .int w1, .int w2, .int w3] : List Value).toArray s 0 0 A) (F0 m 96 ls [.int x26]) := by
              intro x26 H locs ls hF hP hD hS hl
              rw [hK27] at hF
              refine lv_istore (lv' := [(4, .int x26), (0, .ref h), (1, .int w1), (2, .int w2), (3, .int w3), (5, .long v15), (7, .int v16), (8, .long o24.1)]) hx hb dX6_bestDither_96 hl (by decide) rfl (fun ls hl => ?_)
              refine lv_lload hx hb dX6_bestDither_98 (lv_at hl 7 rfl) ?_
              refine lv_lload hx hb dX6_bestDither_100 (lv_at hl 5 rfl) ?_
              refine W.lcmp hx hb dX6_bestDither_102 ?_
              obtain ⟨K30, hK30, hF⟩ := rg_e hF
              have Jx29 : ∀ (x29 : Int64) (H : Heap) (locs : List Loc) (ls : Array Slot), K30 x29 = some out → va_P (dC, dI) vwCl [(h, .inr (6, [.ref aAl, .ref aSv, .ref aAs, .int sN, .int o9.2, .ref aF, .ref aG, .ref aK, .long o24.2.1, .ref aTx, .int sTl, .int sPl, .ref aRd])), (aAl, .inl (cyJ, 76, .inr (.inl o24.2.2.1))), (aSv, .inl (cyJ, 304, .inr (.inl sSv))), (aAs, .inl (cyJ, 76, .inr (.inl o24.2.2.2.1))), (aF, .inl (cyJ, 3, .inr (.inl o24.2.2.2.2.1))), (aG, .inl (cyJ, 3, .inr (.inl o24.2.2.2.2.2.1))), (aK, .inl (cyJ, 3, .inr (.inl o24.2.2.2.2.2.2))), (aTx, .inl (cyI, 120, .inl sTx)), (aRd, .inl (cyI, 63, .inl sRd))] H → va_D A [(h, .inr (6, [.ref aAl, .ref aSv, .ref aAs, .int sN, .int o9.2, .ref aF, .ref aG, .ref aK, .long o24.2.1, .ref aTx, .int sTl, .int sPl, .ref aRd])), (aAl, .inl (cyJ, 76, .inr (.inl o24.2.2.1))), (aSv, .inl (cyJ, 304, .inr (.inl sSv))), (aAs, .inl (cyJ, 76, .inr (.inl o24.2.2.2.1))), (aF, .inl (cyJ, 3, .inr (.inl o24.2.2.2.2.1))), (aG, .inl (cyJ, 3, .inr (.inl o24.2.2.2.2.2.1))), (aK, .inl (cyJ, 3, .inr (.inl o24.2.2.2.2.2.2))), (aTx, .inl (cyI, 120, .inl sTx)), (aRd, .inl (cyI, 63, .inl sRd))] → va_S A s.heap H locs → lv_has ls 10 [(0, .ref h), (1, .int w1), (2, .int w2), (3, .int w3), (4, .int x26), (7, .int v16)] → W p l e (headSpec wsX6_bestDither ({ frames := 6, cells := 0, slots := 0, locals := 166 } : Room)).room s m ([.ref h, .int w1, .int w2, .int w3] : List Value).toArray below meth c H locs 0 0 (MQ below (va_Qi (fun (r' : Int32) (_ : Unit) => r' = out.1) (cPost (dC, dI) [(cyI, .int), (cyJ, .long), (cyB, .byte), (cyS, .object "SelfTuner$State"), (cyD, .double)] [(h, .inr (6, [.ref aAl, .ref aSv, .ref aAs, .int sN, .int out.2.1, .ref aF, .ref aG, .ref aK, .long out.2.2.1, .ref aTx, .int sTl, .int sPl, .ref aRd])), (aAl, .inl (cyJ, 76, .inr (.inl out.2.2.2.1))), (aSv, .inl (cyJ, 304, .inr (.inl sSv))), (aAs, .inl (cyJ, 76, .inr (.inl out.2.2.2.2.1))), (aF, .inl (cyJ, 3, .inr (.inl out.2.2.2.2.2.1))), (aG, .inl (cyJ, 3, .inr (.inl out.2.2.2.2.2.2.1))), (aK, .inl (cyJ, 3, .inr (.inl out.2.2.2.2.2.2.2))), (aTx, .inl (cyI, 120, .inl sTx)), (aRd, .inl (cyI, 63, .inl sRd))] A) A) ([.ref h, .int w1, .int w2, .int w3] : List Value).toArray s 0 0 A) (F0 m 113 ls [.long x29]) := by
                intro x29 H locs ls hF hP hD hS hl
                rw [hK30] at hF
                refine lv_lstore (lv' := [(5, .long x29), (0, .ref h), (1, .int w1), (2, .int w2), (3, .int w3), (4, .int x26), (7, .int v16)]) hx hb dX6_bestDither_113 hl (by decide) rfl (fun ls hl => ?_)
                obtain ⟨v31, hv31, hF⟩ := lt_e hF
                refine lv_iinc (v := v31) (lv' := [(7, .int v31), (5, .long x29), (0, .ref h), (1, .int w1), (2, .int w2), (3, .int w3), (4, .int x26)]) hx hb dX6_bestDither_115 hl (k := 6) rfl (by rw [hv31]; rfl) (by decide) rfl (fun ls hl => ?_)
                refine lv_goto (tgt := 63) hx hb dX6_bestDither_118 (by decide) ?_
                exact ihn12 _ _ _ _ _ _ _ _ _ _ _ _ _ hF hP hD hS (lv_sub hl [2, 3, 4, 5, 6, 1, 0] rfl) kxn12
              refine x_il_ge (tgt := 111) hx hb dX6_bestDither_103 (by decide) (fun c28 => ?_) (fun c28 => ?_)
              · have hF := ite_f hF c28
                refine lv_lload hx hb dX6_bestDither_111 (lv_at hl 5 rfl) ?_
                exact Jx29 _ _ _ _ hF hP hD hS (lv_sub hl [1, 2, 3, 4, 0, 6] rfl)
              · have hF := ite_t hF c28
                refine lv_lload hx hb dX6_bestDither_106 (lv_at hl 7 rfl) ?_
                refine lv_goto (tgt := 113) hx hb dX6_bestDither_108 (by decide) ?_
                exact Jx29 _ _ _ _ hF hP hD hS (lv_sub hl [1, 2, 3, 4, 0, 6] rfl)
            refine x_il_ge (tgt := 94) hx hb dX6_bestDither_86 (by decide) (fun c25 => ?_) (fun c25 => ?_)
            · have hF := ite_f hF c25
              refine lv_iload hx hb dX6_bestDither_94 (lv_at hl 5 rfl) ?_
              exact Jx26 _ _ _ _ hF hP hD hS (lv_sub hl [1, 2, 3, 4, 6, 7, 0] rfl)
            · have hF := ite_t hF c25
              refine lv_iload hx hb dX6_bestDither_89 (lv_at hl 7 rfl) ?_
              refine lv_goto (tgt := 96) hx hb dX6_bestDither_91 (by decide) ?_
              exact Jx26 _ _ _ _ hF hP hD hS (lv_sub hl [1, 2, 3, 4, 6, 7, 0] rfl)
      refine Ln12 _ _ _ _ _ _ _ _ _ _ _ _ _ _ hF hP hD hS (lv_sub hl [3, 4, 5, 6, 2, 1, 0] rfl) (fun x32 H locs ls hF hP hD hS hl => ?_)
      refine lv_iload hx hb dX6_bestDither_121 (lv_at hl 0 rfl) ?_
      obtain rfl := some_e hF
      exact W.iret (v := x32.1) hx hb hr (fun t ht hW => ⟨⟨x32.1, (), rfl, rfl, ⟨by rw [ht]; exact hP, va_K.moved hW.alike hK, hD⟩⟩, hS.F ht⟩) hS.2.2 dX6_bestDither_123
    · have hF := ite_t hF c10
      refine lv_iconst (v := 0) hx hb dX6_bestDither_45 (by decide) ?_
      obtain rfl := some_e hF
      exact W.iret (v := 0) hx hb hr (fun t ht hW => ⟨⟨0, (), rfl, rfl, ⟨by rw [ht]; exact hP, va_K.moved hW.alike hK, hD⟩⟩, hS.F ht⟩) hS.2.2 dX6_bestDither_46
  refine lv_if_eq (tgt := 37) hx hb dX6_bestDither_6 (by decide) (fun c2 => ?_) (fun c2 => ?_)
  · have hF := ite_t hF c2
    refine lv_iconst (v := 0) hx hb dX6_bestDither_37 (by decide) ?_
    exact Jx7 _ _ _ _ hF hP hD hS (lv_sub hl [0, 1, 2, 3] rfl)
  · have hF := ite_f hF c2
    refine lv_iload_n hx hb dX6_bestDither_9 rfl (lv_at hl 2 rfl) ?_
    refine lv_i2l (v := w2.toInt64) hx hb dX6_bestDither_10 rfl ?_
    refine lv_lconst (v := 1) hx hb dX6_bestDither_11 (by decide) ?_
    refine lv_ldc2 (v := 50) hx hb hown (hts _ kX6_bestDither_1) dX6_bestDither_12 ?_
    obtain ⟨o3, ho3, hF⟩ := ob_e hF
    refine x_callzi (va_runS (As := [.long w2.toInt64, .long 1, .long 50]) (rest := [.ref h]) ⟨hx, hb, hml, hown, hts⟩ (c_X6_in l w2.toInt64 1 50 ho3) (va_cwS 3 hts gX6_bestDither_X6_in rfl rfl rfl (by decide +kernel) ⟨Nat.le_of_ble_eq_true rfl, Nat.le_of_ble_eq_true rfl⟩) ⟨true_blind, fun _ _ _ => ⟨rfl, trivial⟩⟩ rfl rfl hl.1 rfl (lv_room (Nat.le_of_ble_eq_true rfl)) dX6_bestDither_15 ⟨Nat.le_of_ble_eq_true rfl, Nat.le_of_ble_eq_true rfl⟩) ?_
    refine lv_if_eq (tgt := 37) hx hb dX6_bestDither_18 (by decide) (fun c4 => ?_) (fun c4 => ?_)
    · have hF := ite_t hF c4
      refine lv_iconst (v := 0) hx hb dX6_bestDither_37 (by decide) ?_
      exact Jx7 _ _ _ _ hF hP hD hS (lv_sub hl [0, 1, 2, 3] rfl)
    · have hF := ite_f hF c4
      refine lv_iload_n hx hb dX6_bestDither_21 rfl (lv_at hl 3 rfl) ?_
      refine lv_i2l (v := w3.toInt64) hx hb dX6_bestDither_22 rfl ?_
      refine lv_lconst (v := 0) hx hb dX6_bestDither_23 (by decide) ?_
      refine lv_ldc2 (v := 100) hx hb hown (hts _ kX6_bestDither_2) dX6_bestDither_24 ?_
      obtain ⟨o5, ho5, hF⟩ := ob_e hF
      refine x_callzi (va_runS (As := [.long w3.toInt64, .long 0, .long 100]) (rest := [.ref h]) ⟨hx, hb, hml, hown, hts⟩ (c_X6_in l w3.toInt64 0 100 ho5) (va_cwS 3 hts gX6_bestDither_X6_in rfl rfl rfl (by decide +kernel) ⟨Nat.le_of_ble_eq_true rfl, Nat.le_of_ble_eq_true rfl⟩) ⟨true_blind, fun _ _ _ => ⟨rfl, trivial⟩⟩ rfl rfl hl.1 rfl (lv_room (Nat.le_of_ble_eq_true rfl)) dX6_bestDither_27 ⟨Nat.le_of_ble_eq_true rfl, Nat.le_of_ble_eq_true rfl⟩) ?_
      refine lv_if_eq (tgt := 37) hx hb dX6_bestDither_30 (by decide) (fun c6 => ?_) (fun c6 => ?_)
      · have hF := ite_t hF c6
        refine lv_iconst (v := 0) hx hb dX6_bestDither_37 (by decide) ?_
        exact Jx7 _ _ _ _ hF hP hD hS (lv_sub hl [0, 1, 2, 3] rfl)
      · have hF := ite_f hF c6
        refine lv_iconst (v := 1) hx hb dX6_bestDither_33 (by decide) ?_
        refine lv_goto (tgt := 38) hx hb dX6_bestDither_34 (by decide) ?_
        exact Jx7 _ _ _ _ hF hP hD hS (lv_sub hl [0, 1, 2, 3] rfl)
def F_X6_append (sTl : Int32) (sTx : Nat → Int32) (w1 : Int32) : Option (Int32 × Int32 × Int32 × (Nat → Int32)) := ob (F_X6_in w1.toInt64 0 127) (fun o1 => rg (α := Int32) (fun K4 => if (120 : Int32) ≤ sTl then (K4 0) else (K4 1)) (fun x3 => ob (F_X6_goes o1 x3) (fun o5 => if (o5.1 : Int32) = 0 then (some (0, o5.2, sTl, sTx)) else (ck (inb sTl 120) (lt_ (α := Nat → Int32) (upd sTx sTl.toNatClampNeg w1) (fun v8 => lt_ (α := Int32) (sTl + 1) (fun v9 => some (v9, o5.2, v9, v8))))))))
theorem kX6_append_1 : (Cond.constantLong RX6 201 (127)) ∈ wsX6_append := List.mem_of_getElem? (i := 1) rfl
theorem kX6_append_2 : (Cond.fieldLink RX6 203 "SelfTunerModel" "textLong" "I") ∈ wsX6_append := List.mem_of_getElem? (i := 2) rfl
theorem kX6_append_3 : (Cond.fieldLink RX6 28 "SelfTunerModel" "text" "[I") ∈ wsX6_append := List.mem_of_getElem? (i := 3) rfl
theorem iX6_append_X6 : ∀ w ∈ wsX60, w ∈ wsX6_append := fun w h => List.mem_cons_of_mem _ (List.mem_append_right _ h)
set_option maxHeartbeats 4000000 in
set_option maxRecDepth 100000 in
theorem c_X6_append (l : Launch) (dC : Nat → ClassId) (dI : Nat → Nat → Nat) (cyI cyJ cyB cyS cyD : ClassId) (h : Nat) (aAl : Nat) (aSv : Nat) (aAs : Nat) (aF : Nat) (aG : Nat) (aK : Nat) (aTx : Nat) (aRd : Nat) (sz : Nat) (sN : Int32) (sTh : Int32) (sS : Int64) (sTl : Int32) (sPl : Int32) (sAl : Nat → Int64) (sSv : Nat → Int64) (sAs : Nat → Int64) (sF : Nat → Int64) (sG : Nat → Int64) (sK : Nat → Int64) (sTx : Nat → Int32) (sRd : Nat → Int32) (w1 : Int32) {out : Int32 × Int32 × Int32 × (Nat → Int32)} (hF : F_X6_append sTl sTx w1 = some out) : Mi l yX6_append wsX6_append ({ frames := 1, cells := 0, slots := 0, locals := 25 } : Room) (dC, dI) [(cyI, .int), (cyJ, .long), (cyB, .byte), (cyS, .object "SelfTuner$State"), (cyD, .double)] sz [.ref h, .int w1] [(h, .inr (6, [.ref aAl, .ref aSv, .ref aAs, .int sN, .int sTh, .ref aF, .ref aG, .ref aK, .long sS, .ref aTx, .int sTl, .int sPl, .ref aRd])), (aAl, .inl (cyJ, 76, .inr (.inl sAl))), (aSv, .inl (cyJ, 304, .inr (.inl sSv))), (aAs, .inl (cyJ, 76, .inr (.inl sAs))), (aF, .inl (cyJ, 3, .inr (.inl sF))), (aG, .inl (cyJ, 3, .inr (.inl sG))), (aK, .inl (cyJ, 3, .inr (.inl sK))), (aTx, .inl (cyI, 120, .inl sTx)), (aRd, .inl (cyI, 63, .inl sRd))] out.1 [(h, .inr (6, [.ref aAl, .ref aSv, .ref aAs, .int sN, .int out.2.1, .ref aF, .ref aG, .ref aK, .long sS, .ref aTx, .int out.2.2.1, .int sPl, .ref aRd])), (aAl, .inl (cyJ, 76, .inr (.inl sAl))), (aSv, .inl (cyJ, 304, .inr (.inl sSv))), (aAs, .inl (cyJ, 76, .inr (.inl sAs))), (aF, .inl (cyJ, 3, .inr (.inl sF))), (aG, .inl (cyJ, 3, .inr (.inl sG))), (aK, .inl (cyJ, 3, .inr (.inl sK))), (aTx, .inl (cyI, 120, .inl out.2.2.2)), (aRd, .inl (cyI, 63, .inl sRd))] := by
  refine Met.ofW (cc := cX6_append) (maxL := 2) (ret := (some .int)) (by decide) rfl ?_
  intro p e s m args below meth c s₁ B hml hv
  obtain ⟨rfl, hN, hsz, hP, hK, hD0⟩ := hv
  have hx := B.exec
  have hb := B.bytes
  have hr := B.returns
  have hts := atoms_spec (ws := wsX6_append) B.pre
  have hown : s.vm.findClass RX6 = some m.cls := findClass_of_methodNamed B.named
  have hlocks := B.notSynchronized
  subst hsz
  have hD := hD0.self (sz := s.heap.size)
  generalize hAe : va_A [(h, .inr (6, [.ref aAl, .ref aSv, .ref aAs, .int sN, .int sTh, .ref aF, .ref aG, .ref aK, .long sS, .ref aTx, .int sTl, .int sPl, .ref aRd])), (aAl, .inl (cyJ, 76, .inr (.inl sAl))), (aSv, .inl (cyJ, 304, .inr (.inl sSv))), (aAs, .inl (cyJ, 76, .inr (.inl sAs))), (aF, .inl (cyJ, 3, .inr (.inl sF))), (aG, .inl (cyJ, 3, .inr (.inl sG))), (aK, .inl (cyJ, 3, .inr (.inl sK))), (aTx, .inl (cyI, 120, .inl sTx)), (aRd, .inl (cyI, 63, .inl sRd))] s.heap.size = A at hD ⊢
  have hA : ∀ q : Nat, s.heap.size ≤ q → A q := fun q h => by rw [← hAe]; exact Or.inr h
  have hS : va_S A s.heap s.heap [] := va_S.rf
  have hP : va_P (dC, dI) vwCl [(h, .inr (6, [.ref aAl, .ref aSv, .ref aAs, .int sN, .int sTh, .ref aF, .ref aG, .ref aK, .long sS, .ref aTx, .int sTl, .int sPl, .ref aRd])), (aAl, .inl (cyJ, 76, .inr (.inl sAl))), (aSv, .inl (cyJ, 304, .inr (.inl sSv))), (aAs, .inl (cyJ, 76, .inr (.inl sAs))), (aF, .inl (cyJ, 3, .inr (.inl sF))), (aG, .inl (cyJ, 3, .inr (.inl sG))), (aK, .inl (cyJ, 3, .inr (.inl sK))), (aTx, .inl (cyI, 120, .inl sTx)), (aRd, .inl (cyI, 63, .inl sRd))] s.heap := hP
  have hl := lv_entry ([.ref h, .int w1]) (n := 2) (Nat.le_of_ble_eq_true rfl)
  rw [lg_entry_eq]
  generalize (lg_sl ([.ref h, .int w1]) ++ List.replicate (2 - (lg_sl ([.ref h, .int w1])).length) Slot.unset).toArray = ls at hl ⊢
  have hl : lv_has ls 2 [(0, .ref h), (1, .int w1)] := hl
  unfold F_X6_append at hF
  refine lv_aload_n hx hb dX6_append_0 rfl (lv_at hl 0 rfl) ?_
  refine lv_iload_n hx hb dX6_append_1 rfl (lv_at hl 1 rfl) ?_
  refine lv_i2l (v := w1.toInt64) hx hb dX6_append_2 rfl ?_
  refine lv_lconst (v := 0) hx hb dX6_append_3 (by decide) ?_
  refine lv_ldc2 (v := 127) hx hb hown (hts _ kX6_append_1) dX6_append_4 ?_
  obtain ⟨o1, ho1, hF⟩ := ob_e hF
  refine x_callzi (va_runS (As := [.long w1.toInt64, .long 0, .long 127]) (rest := [.ref h]) ⟨hx, hb, hml, hown, hts⟩ (c_X6_in l w1.toInt64 0 127 ho1) (va_cwS 3 hts gX6_append_X6_in rfl rfl rfl (by decide +kernel) ⟨Nat.le_of_ble_eq_true rfl, Nat.le_of_ble_eq_true rfl⟩) ⟨true_blind, fun _ _ _ => ⟨rfl, trivial⟩⟩ rfl rfl hl.1 rfl (lv_room (Nat.le_of_ble_eq_true rfl)) dX6_append_7 ⟨Nat.le_of_ble_eq_true rfl, Nat.le_of_ble_eq_true rfl⟩) ?_
  refine lv_aload_n hx hb dX6_append_10 rfl (lv_at hl 0 rfl) ?_
  refine va_get (D := (dC, dI)) (ci := 6) (v := .int sTl) (C := RX6) (T := TX6) (N := 13) hx hb hts iX6_append_X6 hown hK hP 0 rfl rfl 10 (by decide) (hts _ kX6_append_2) (fun _ h9 => h9) rfl dX6_append_11 ?_
  refine lv_bipush (v := 120) hx hb dX6_append_14 (by decide) ?_
  obtain ⟨K4, hK4, hF⟩ := rg_e hF
  have Jx3 : ∀ (x3 : Int32) (H : Heap) (locs : List Loc) (ls : Array Slot), K4 x3 = some out → va_P (dC, dI) vwCl [(h, .inr (6, [.ref aAl, .ref aSv, .ref aAs, .int sN, .int sTh, .ref aF, .ref aG, .ref aK, .long sS, .ref aTx, .int sTl, .int sPl, .ref aRd])), (aAl, .inl (cyJ, 76, .inr (.inl sAl))), (aSv, .inl (cyJ, 304, .inr (.inl sSv))), (aAs, .inl (cyJ, 76, .inr (.inl sAs))), (aF, .inl (cyJ, 3, .inr (.inl sF))), (aG, .inl (cyJ, 3, .inr (.inl sG))), (aK, .inl (cyJ, 3, .inr (.inl sK))), (aTx, .inl (cyI, 120, .inl sTx)), (aRd, .inl (cyI, 63, .inl sRd))] H → va_D A [(h, .inr (6, [.ref aAl, .ref aSv, .ref aAs, .int sN, .int sTh, .ref aF, .ref aG, .ref aK, .long sS, .ref aTx, .int sTl, .int sPl, .ref aRd])), (aAl, .inl (cyJ, 76, .inr (.inl sAl))), (aSv, .inl (cyJ, 304, .inr (.inl sSv))), (aAs, .inl (cyJ, 76, .inr (.inl sAs))), (aF, .inl (cyJ, 3, .inr (.inl sF))), (aG, .inl (cyJ, 3, .inr (.inl sG))), (aK, .inl (cyJ, 3, .inr (.inl sK))), (aTx, .inl (cyI, 120, .inl sTx)), (aRd, .inl (cyI, 63, .inl sRd))] → va_S A s.heap H locs → lv_has ls 2 [(0, .ref h), (1, .int w1)] → W p l e (headSpec wsX6_append ({ frames := 1, cells := 0, slots := 0, locals := 25 } : Room)).room s m ([.ref h, .int w1] : List Value).toArray below meth c H locs 0 0 (MQ below (va_Qi (fun (r' : Int32) (_ : Unit) => r' = out.1) (cPost (dC, dI) [(cyI, .int), (cyJ, .long), (cyB, .byte), (cyS, .object "SelfTuner$State"), (cyD, .double)] [(h, .inr (6, [.ref aAl, .ref aSv, .ref aAs, .int sN, .int out.2.1, .ref aF, .ref aG, .ref aK, .long sS, .ref aTx, .int out.2.2.1, .int sPl, .ref aRd])), (aAl, .inl (cyJ, 76, .inr (.inl sAl))), (aSv, .inl (cyJ, 304, .inr (.inl sSv))), (aAs, .inl (cyJ, 76, .inr (.inl sAs))), (aF, .inl (cyJ, 3, .inr (.inl sF))), (aG, .inl (cyJ, 3, .inr (.inl sG))), (aK, .inl (cyJ, 3, .inr (.inl sK))), (aTx, .inl (cyI, 120, .inl out.2.2.2)), (aRd, .inl (cyI, 63, .inl sRd))] A) A) ([.ref h, .int w1] : List Value).toArray s 0 0 A) (F0 m 24 ls [.int x3, .int o1, .ref h]) := by
    intro x3 H locs ls hF hP hD hS hl
    rw [hK4] at hF
    obtain ⟨o5, ho5, hF⟩ := ob_e hF
    refine x_calli (wr := []) (ws' := [(h, .inr (6, [.ref aAl, .ref aSv, .ref aAs, .int sN, .int o5.2, .ref aF, .ref aG, .ref aK, .long sS, .ref aTx, .int sTl, .int sPl, .ref aRd])), (aAl, .inl (cyJ, 76, .inr (.inl sAl))), (aSv, .inl (cyJ, 304, .inr (.inl sSv))), (aAs, .inl (cyJ, 76, .inr (.inl sAs))), (aF, .inl (cyJ, 3, .inr (.inl sF))), (aG, .inl (cyJ, 3, .inr (.inl sG))), (aK, .inl (cyJ, 3, .inr (.inl sK))), (aTx, .inl (cyI, 120, .inl sTx)), (aRd, .inl (cyI, 63, .inl sRd))]) (va_runV (As := [.int o1, .int x3]) (rest := []) ⟨hx, hb, hml, hown, hts⟩ (c_X6_goes l dC dI cyI cyJ cyB cyS cyD h aAl aSv aAs aF aG aK aTx aRd H.size sN sTh sS sTl sPl sAl sSv sAs sF sG sK sTx sRd o1 x3 ho5) (cwV 2 hts gX6_append_X6_goes rfl rfl rfl (by decide +kernel) ⟨Nat.le_of_ble_eq_true rfl, Nat.le_of_ble_eq_true rfl⟩) ⟨cPre_blind, va_recv hK hP (ci := 6) (q0 := 0) rfl rfl, x_pre hN hP hD hK [0, 1, 2, 3, 4, 5, 6, 7, 8] rfl rfl⟩ rfl rfl hl.1 rfl (lv_room (Nat.le_of_ble_eq_true rfl)) dX6_append_24 ⟨Nat.le_of_ble_eq_true rfl, Nat.le_of_ble_eq_true rfl⟩) hP hD hS hA [0, 1, 2, 3, 4, 5, 6, 7, 8] [] [0, 1, 2, 3, 4, 5, 6, 7, 8] rfl rfl rfl (by decide) rfl rfl (fun H locs hP hD hS => ?_)
    refine lv_if_ne (tgt := 32) hx hb dX6_append_27 (by decide) (fun c6 => ?_) (fun c6 => ?_)
    · have hF := ite_f hF c6
      refine lv_aload_n hx hb dX6_append_32 rfl (lv_at hl 0 rfl) ?_
      refine va_get (D := (dC, dI)) (ci := 6) (v := .ref aTx) (C := RX6) (T := TX6) (N := 13) hx hb hts iX6_append_X6 hown hK hP 0 rfl rfl 9 (by decide) (hts _ kX6_append_3) (fun _ h9 => h9) rfl dX6_append_33 ?_
      refine lv_aload_n hx hb dX6_append_36 rfl (lv_at hl 0 rfl) ?_
      refine va_get (D := (dC, dI)) (ci := 6) (v := .int sTl) (C := RX6) (T := TX6) (N := 13) hx hb hts iX6_append_X6 hown hK hP 0 rfl rfl 10 (by decide) (hts _ kX6_append_2) (fun _ h9 => h9) rfl dX6_append_37 ?_
      refine lv_iload_n hx hb dX6_append_40 rfl (lv_at hl 1 rfl) ?_
      obtain ⟨g7, hF⟩ := ck_e hF
      obtain ⟨v8, hv8, hF⟩ := lt_e hF
      refine x_iast (ws' := [(h, .inr (6, [.ref aAl, .ref aSv, .ref aAs, .int sN, .int o5.2, .ref aF, .ref aG, .ref aK, .long sS, .ref aTx, .int sTl, .int sPl, .ref aRd])), (aAl, .inl (cyJ, 76, .inr (.inl sAl))), (aSv, .inl (cyJ, 304, .inr (.inl sSv))), (aAs, .inl (cyJ, 76, .inr (.inl sAs))), (aF, .inl (cyJ, 3, .inr (.inl sF))), (aG, .inl (cyJ, 3, .inr (.inl sG))), (aK, .inl (cyJ, 3, .inr (.inl sK))), (aTx, .inl (cyI, 120, .inl v8)), (aRd, .inl (cyI, 63, .inl sRd))]) hx hb hK hP hD hS 7 0 rfl rfl rfl g7 hv8 rfl dX6_append_41 (fun H locs hP hD hS => ?_)
      refine lv_aload_n hx hb dX6_append_42 rfl (lv_at hl 0 rfl) ?_
      refine lv_dup hx hb dX6_append_43 rfl ?_
      refine va_get (D := (dC, dI)) (ci := 6) (v := .int sTl) (C := RX6) (T := TX6) (N := 13) hx hb hts iX6_append_X6 hown hK hP 0 rfl rfl 10 (by decide) (hts _ kX6_append_2) (fun _ h9 => h9) rfl dX6_append_44 ?_
      refine lv_iconst (v := 1) hx hb dX6_append_47 (by decide) ?_
      refine lv_iadd hx hb dX6_append_48 ?_
      obtain ⟨v9, hv9, hF⟩ := lt_e hF
      refine x_topi hv9 ?_
      refine x_put (D := (dC, dI)) (ci := 6) (v := .int v9) (ty := .int) (C := RX6) (T := TX6) (N := 13) (ws' := [(h, .inr (6, [.ref aAl, .ref aSv, .ref aAs, .int sN, .int o5.2, .ref aF, .ref aG, .ref aK, .long sS, .ref aTx, .int v9, .int sPl, .ref aRd])), (aAl, .inl (cyJ, 76, .inr (.inl sAl))), (aSv, .inl (cyJ, 304, .inr (.inl sSv))), (aAs, .inl (cyJ, 76, .inr (.inl sAs))), (aF, .inl (cyJ, 3, .inr (.inl sF))), (aG, .inl (cyJ, 3, .inr (.inl sG))), (aK, .inl (cyJ, 3, .inr (.inl sK))), (aTx, .inl (cyI, 120, .inl v8)), (aRd, .inl (cyI, 63, .inl sRd))]) hx hb hts iX6_append_X6 tyX6 tyX6_ok nmX6 hown hK hP hD hS 0 rfl rfl 10 (by decide) (hts _ kX6_append_2) (fun _ h9 => h9) rfl (by decide +kernel) rfl rfl (Nat.le_of_ble_eq_true rfl) rfl dX6_append_49 (fun H locs hP hD hS => ?_)
      refine lv_aload_n hx hb dX6_append_52 rfl (lv_at hl 0 rfl) ?_
      refine va_get (D := (dC, dI)) (ci := 6) (v := .int v9) (C := RX6) (T := TX6) (N := 13) hx hb hts iX6_append_X6 hown hK hP 0 rfl rfl 10 (by decide) (hts _ kX6_append_2) (fun _ h9 => h9) rfl dX6_append_53 ?_
      obtain rfl := some_e hF
      exact W.iret (v := v9) hx hb hr (fun t ht hW => ⟨⟨v9, (), rfl, rfl, ⟨by rw [ht]; exact hP, va_K.moved hW.alike hK, hD⟩⟩, hS.F ht⟩) hS.2.2 dX6_append_56
    · have hF := ite_t hF c6
      refine lv_iconst (v := 0) hx hb dX6_append_30 (by decide) ?_
      obtain rfl := some_e hF
      exact W.iret (v := 0) hx hb hr (fun t ht hW => ⟨⟨0, (), rfl, rfl, ⟨by rw [ht]; exact hP, va_K.moved hW.alike hK, hD⟩⟩, hS.F ht⟩) hS.2.2 dX6_append_31
  refine lv_icmp_ge (tgt := 23) hx hb dX6_append_16 (by decide) (fun c2 => ?_) (fun c2 => ?_)
  · have hF := ite_t hF c2
    refine lv_iconst (v := 0) hx hb dX6_append_23 (by decide) ?_
    exact Jx3 _ _ _ _ hF hP hD hS (lv_sub hl [0, 1] rfl)
  · have hF := ite_f hF c2
    refine lv_iconst (v := 1) hx hb dX6_append_19 (by decide) ?_
    refine lv_goto (tgt := 24) hx hb dX6_append_20 (by decide) ?_
    exact Jx3 _ _ _ _ hF hP hD hS (lv_sub hl [0, 1] rfl)
def F_X6_clearText (sTl : Int32) : Option (Int32 × Int32 × Int32) := some (sTl, 0, 0)
theorem kX6_clearText_1 : (Cond.fieldLink RX6 54 "SelfTunerModel" "thrown" "I") ∈ wsX6_clearText := List.mem_of_getElem? (i := 1) rfl
theorem kX6_clearText_2 : (Cond.fieldLink RX6 203 "SelfTunerModel" "textLong" "I") ∈ wsX6_clearText := List.mem_of_getElem? (i := 2) rfl
theorem iX6_clearText_X6 : ∀ w ∈ wsX60, w ∈ wsX6_clearText := fun w h => List.mem_cons_of_mem _ (List.mem_append_right _ h)
set_option maxHeartbeats 4000000 in
set_option maxRecDepth 100000 in
theorem c_X6_clearText (l : Launch) (dC : Nat → ClassId) (dI : Nat → Nat → Nat) (cyI cyJ cyB cyS cyD : ClassId) (h : Nat) (aAl : Nat) (aSv : Nat) (aAs : Nat) (aF : Nat) (aG : Nat) (aK : Nat) (aTx : Nat) (aRd : Nat) (sz : Nat) (sN : Int32) (sTh : Int32) (sS : Int64) (sTl : Int32) (sPl : Int32) (sAl : Nat → Int64) (sSv : Nat → Int64) (sAs : Nat → Int64) (sF : Nat → Int64) (sG : Nat → Int64) (sK : Nat → Int64) (sTx : Nat → Int32) (sRd : Nat → Int32) {out : Int32 × Int32 × Int32} (hF : F_X6_clearText sTl = some out) : Mi l yX6_clearText wsX6_clearText ({ frames := 0, cells := 0, slots := 0, locals := 0 } : Room) (dC, dI) [(cyI, .int), (cyJ, .long), (cyB, .byte), (cyS, .object "SelfTuner$State"), (cyD, .double)] sz [.ref h] [(h, .inr (6, [.ref aAl, .ref aSv, .ref aAs, .int sN, .int sTh, .ref aF, .ref aG, .ref aK, .long sS, .ref aTx, .int sTl, .int sPl, .ref aRd])), (aAl, .inl (cyJ, 76, .inr (.inl sAl))), (aSv, .inl (cyJ, 304, .inr (.inl sSv))), (aAs, .inl (cyJ, 76, .inr (.inl sAs))), (aF, .inl (cyJ, 3, .inr (.inl sF))), (aG, .inl (cyJ, 3, .inr (.inl sG))), (aK, .inl (cyJ, 3, .inr (.inl sK))), (aTx, .inl (cyI, 120, .inl sTx)), (aRd, .inl (cyI, 63, .inl sRd))] out.1 [(h, .inr (6, [.ref aAl, .ref aSv, .ref aAs, .int sN, .int out.2.1, .ref aF, .ref aG, .ref aK, .long sS, .ref aTx, .int out.2.2, .int sPl, .ref aRd])), (aAl, .inl (cyJ, 76, .inr (.inl sAl))), (aSv, .inl (cyJ, 304, .inr (.inl sSv))), (aAs, .inl (cyJ, 76, .inr (.inl sAs))), (aF, .inl (cyJ, 3, .inr (.inl sF))), (aG, .inl (cyJ, 3, .inr (.inl sG))), (aK, .inl (cyJ, 3, .inr (.inl sK))), (aTx, .inl (cyI, 120, .inl sTx)), (aRd, .inl (cyI, 63, .inl sRd))] := by
  refine Met.ofW (cc := cX6_clearText) (maxL := 2) (ret := (some .int)) (by decide) rfl ?_
  intro p e s m args below meth c s₁ B hml hv
  obtain ⟨rfl, hN, hsz, hP, hK, hD0⟩ := hv
  have hx := B.exec
  have hb := B.bytes
  have hr := B.returns
  have hts := atoms_spec (ws := wsX6_clearText) B.pre
  have hown : s.vm.findClass RX6 = some m.cls := findClass_of_methodNamed B.named
  have hlocks := B.notSynchronized
  subst hsz
  have hD := hD0.self (sz := s.heap.size)
  generalize hAe : va_A [(h, .inr (6, [.ref aAl, .ref aSv, .ref aAs, .int sN, .int sTh, .ref aF, .ref aG, .ref aK, .long sS, .ref aTx, .int sTl, .int sPl, .ref aRd])), (aAl, .inl (cyJ, 76, .inr (.inl sAl))), (aSv, .inl (cyJ, 304, .inr (.inl sSv))), (aAs, .inl (cyJ, 76, .inr (.inl sAs))), (aF, .inl (cyJ, 3, .inr (.inl sF))), (aG, .inl (cyJ, 3, .inr (.inl sG))), (aK, .inl (cyJ, 3, .inr (.inl sK))), (aTx, .inl (cyI, 120, .inl sTx)), (aRd, .inl (cyI, 63, .inl sRd))] s.heap.size = A at hD ⊢
  have hA : ∀ q : Nat, s.heap.size ≤ q → A q := fun q h => by rw [← hAe]; exact Or.inr h
  have hS : va_S A s.heap s.heap [] := va_S.rf
  have hP : va_P (dC, dI) vwCl [(h, .inr (6, [.ref aAl, .ref aSv, .ref aAs, .int sN, .int sTh, .ref aF, .ref aG, .ref aK, .long sS, .ref aTx, .int sTl, .int sPl, .ref aRd])), (aAl, .inl (cyJ, 76, .inr (.inl sAl))), (aSv, .inl (cyJ, 304, .inr (.inl sSv))), (aAs, .inl (cyJ, 76, .inr (.inl sAs))), (aF, .inl (cyJ, 3, .inr (.inl sF))), (aG, .inl (cyJ, 3, .inr (.inl sG))), (aK, .inl (cyJ, 3, .inr (.inl sK))), (aTx, .inl (cyI, 120, .inl sTx)), (aRd, .inl (cyI, 63, .inl sRd))] s.heap := hP
  have hl := lv_entry ([.ref h]) (n := 2) (Nat.le_of_ble_eq_true rfl)
  rw [lg_entry_eq]
  generalize (lg_sl ([.ref h]) ++ List.replicate (2 - (lg_sl ([.ref h])).length) Slot.unset).toArray = ls at hl ⊢
  have hl : lv_has ls 2 [(0, .ref h)] := hl
  unfold F_X6_clearText at hF
  refine lv_aload_n hx hb dX6_clearText_0 rfl (lv_at hl 0 rfl) ?_
  refine lv_iconst (v := 0) hx hb dX6_clearText_1 (by decide) ?_
  refine x_put (D := (dC, dI)) (ci := 6) (v := .int 0) (ty := .int) (C := RX6) (T := TX6) (N := 13) (ws' := [(h, .inr (6, [.ref aAl, .ref aSv, .ref aAs, .int sN, .int 0, .ref aF, .ref aG, .ref aK, .long sS, .ref aTx, .int sTl, .int sPl, .ref aRd])), (aAl, .inl (cyJ, 76, .inr (.inl sAl))), (aSv, .inl (cyJ, 304, .inr (.inl sSv))), (aAs, .inl (cyJ, 76, .inr (.inl sAs))), (aF, .inl (cyJ, 3, .inr (.inl sF))), (aG, .inl (cyJ, 3, .inr (.inl sG))), (aK, .inl (cyJ, 3, .inr (.inl sK))), (aTx, .inl (cyI, 120, .inl sTx)), (aRd, .inl (cyI, 63, .inl sRd))]) hx hb hts iX6_clearText_X6 tyX6 tyX6_ok nmX6 hown hK hP hD hS 0 rfl rfl 4 (by decide) (hts _ kX6_clearText_1) (fun _ h9 => h9) rfl (by decide +kernel) rfl rfl (Nat.le_of_ble_eq_true rfl) rfl dX6_clearText_2 (fun H locs hP hD hS => ?_)
  refine lv_aload_n hx hb dX6_clearText_5 rfl (lv_at hl 0 rfl) ?_
  refine va_get (D := (dC, dI)) (ci := 6) (v := .int sTl) (C := RX6) (T := TX6) (N := 13) hx hb hts iX6_clearText_X6 hown hK hP 0 rfl rfl 10 (by decide) (hts _ kX6_clearText_2) (fun _ h9 => h9) rfl dX6_clearText_6 ?_
  refine lv_istore_n (lv' := [(1, .int sTl), (0, .ref h)]) hx hb dX6_clearText_9 rfl hl (by decide) rfl (fun ls hl => ?_)
  refine lv_aload_n hx hb dX6_clearText_10 rfl (lv_at hl 1 rfl) ?_
  refine lv_iconst (v := 0) hx hb dX6_clearText_11 (by decide) ?_
  refine x_put (D := (dC, dI)) (ci := 6) (v := .int 0) (ty := .int) (C := RX6) (T := TX6) (N := 13) (ws' := [(h, .inr (6, [.ref aAl, .ref aSv, .ref aAs, .int sN, .int 0, .ref aF, .ref aG, .ref aK, .long sS, .ref aTx, .int 0, .int sPl, .ref aRd])), (aAl, .inl (cyJ, 76, .inr (.inl sAl))), (aSv, .inl (cyJ, 304, .inr (.inl sSv))), (aAs, .inl (cyJ, 76, .inr (.inl sAs))), (aF, .inl (cyJ, 3, .inr (.inl sF))), (aG, .inl (cyJ, 3, .inr (.inl sG))), (aK, .inl (cyJ, 3, .inr (.inl sK))), (aTx, .inl (cyI, 120, .inl sTx)), (aRd, .inl (cyI, 63, .inl sRd))]) hx hb hts iX6_clearText_X6 tyX6 tyX6_ok nmX6 hown hK hP hD hS 0 rfl rfl 10 (by decide) (hts _ kX6_clearText_2) (fun _ h9 => h9) rfl (by decide +kernel) rfl rfl (Nat.le_of_ble_eq_true rfl) rfl dX6_clearText_12 (fun H locs hP hD hS => ?_)
  refine lv_iload_n hx hb dX6_clearText_15 rfl (lv_at hl 0 rfl) ?_
  obtain rfl := some_e hF
  exact W.iret (v := sTl) hx hb hr (fun t ht hW => ⟨⟨sTl, (), rfl, rfl, ⟨by rw [ht]; exact hP, va_K.moved hW.alike hK, hD⟩⟩, hS.F ht⟩) hS.2.2 dX6_clearText_16
def F_X6_isFigure (sTl : Int32) (sPl : Int32) (sTx : Nat → Int32) : Option (Int32) := if (sTl : Int32) ≤ sPl then (some 0) else (ck (inb sPl 120) (ob (F_X6_in ((sTx sPl.toNatClampNeg).toInt64) 48 57) (fun o3 => if (o3 : Int32) = 0 then (some 0) else (some 1))))
theorem kX6_isFigure_1 : (Cond.fieldLink RX6 206 "SelfTunerModel" "place" "I") ∈ wsX6_isFigure := List.mem_of_getElem? (i := 1) rfl
theorem kX6_isFigure_2 : (Cond.fieldLink RX6 203 "SelfTunerModel" "textLong" "I") ∈ wsX6_isFigure := List.mem_of_getElem? (i := 2) rfl
theorem kX6_isFigure_3 : (Cond.fieldLink RX6 28 "SelfTunerModel" "text" "[I") ∈ wsX6_isFigure := List.mem_of_getElem? (i := 3) rfl
theorem kX6_isFigure_4 : (Cond.constantLong RX6 209 (48)) ∈ wsX6_isFigure := List.mem_of_getElem? (i := 4) rfl
theorem kX6_isFigure_5 : (Cond.constantLong RX6 211 (57)) ∈ wsX6_isFigure := List.mem_of_getElem? (i := 5) rfl
theorem iX6_isFigure_X6 : ∀ w ∈ wsX60, w ∈ wsX6_isFigure := fun w h => List.mem_cons_of_mem _ (List.mem_append_right _ h)
set_option maxHeartbeats 4000000 in
set_option maxRecDepth 100000 in
theorem c_X6_isFigure (l : Launch) (dC : Nat → ClassId) (dI : Nat → Nat → Nat) (cyI cyJ cyB cyS cyD : ClassId) (h : Nat) (aAl : Nat) (aSv : Nat) (aAs : Nat) (aF : Nat) (aG : Nat) (aK : Nat) (aTx : Nat) (aRd : Nat) (sz : Nat) (sN : Int32) (sTh : Int32) (sS : Int64) (sTl : Int32) (sPl : Int32) (sAl : Nat → Int64) (sSv : Nat → Int64) (sAs : Nat → Int64) (sF : Nat → Int64) (sG : Nat → Int64) (sK : Nat → Int64) (sTx : Nat → Int32) (sRd : Nat → Int32) {out : Int32} (hF : F_X6_isFigure sTl sPl sTx = some out) : Mi l yX6_isFigure wsX6_isFigure ({ frames := 1, cells := 0, slots := 0, locals := 25 } : Room) (dC, dI) [(cyI, .int), (cyJ, .long), (cyB, .byte), (cyS, .object "SelfTuner$State"), (cyD, .double)] sz [.ref h] [(h, .inr (6, [.ref aAl, .ref aSv, .ref aAs, .int sN, .int sTh, .ref aF, .ref aG, .ref aK, .long sS, .ref aTx, .int sTl, .int sPl, .ref aRd])), (aAl, .inl (cyJ, 76, .inr (.inl sAl))), (aSv, .inl (cyJ, 304, .inr (.inl sSv))), (aAs, .inl (cyJ, 76, .inr (.inl sAs))), (aF, .inl (cyJ, 3, .inr (.inl sF))), (aG, .inl (cyJ, 3, .inr (.inl sG))), (aK, .inl (cyJ, 3, .inr (.inl sK))), (aTx, .inl (cyI, 120, .inl sTx)), (aRd, .inl (cyI, 63, .inl sRd))] out [(h, .inr (6, [.ref aAl, .ref aSv, .ref aAs, .int sN, .int sTh, .ref aF, .ref aG, .ref aK, .long sS, .ref aTx, .int sTl, .int sPl, .ref aRd])), (aAl, .inl (cyJ, 76, .inr (.inl sAl))), (aSv, .inl (cyJ, 304, .inr (.inl sSv))), (aAs, .inl (cyJ, 76, .inr (.inl sAs))), (aF, .inl (cyJ, 3, .inr (.inl sF))), (aG, .inl (cyJ, 3, .inr (.inl sG))), (aK, .inl (cyJ, 3, .inr (.inl sK))), (aTx, .inl (cyI, 120, .inl sTx)), (aRd, .inl (cyI, 63, .inl sRd))] := by
  refine Met.ofW (cc := cX6_isFigure) (maxL := 1) (ret := (some .boolean)) (by decide) rfl ?_
  intro p e s m args below meth c s₁ B hml hv
  obtain ⟨rfl, hN, hsz, hP, hK, hD0⟩ := hv
  have hx := B.exec
  have hb := B.bytes
  have hr := B.returns
  have hts := atoms_spec (ws := wsX6_isFigure) B.pre
  have hown : s.vm.findClass RX6 = some m.cls := findClass_of_methodNamed B.named
  have hlocks := B.notSynchronized
  subst hsz
  have hD := hD0.self (sz := s.heap.size)
  generalize hAe : va_A [(h, .inr (6, [.ref aAl, .ref aSv, .ref aAs, .int sN, .int sTh, .ref aF, .ref aG, .ref aK, .long sS, .ref aTx, .int sTl, .int sPl, .ref aRd])), (aAl, .inl (cyJ, 76, .inr (.inl sAl))), (aSv, .inl (cyJ, 304, .inr (.inl sSv))), (aAs, .inl (cyJ, 76, .inr (.inl sAs))), (aF, .inl (cyJ, 3, .inr (.inl sF))), (aG, .inl (cyJ, 3, .inr (.inl sG))), (aK, .inl (cyJ, 3, .inr (.inl sK))), (aTx, .inl (cyI, 120, .inl sTx)), (aRd, .inl (cyI, 63, .inl sRd))] s.heap.size = A at hD ⊢
  have hA : ∀ q : Nat, s.heap.size ≤ q → A q := fun q h => by rw [← hAe]; exact Or.inr h
  have hS : va_S A s.heap s.heap [] := va_S.rf
  have hP : va_P (dC, dI) vwCl [(h, .inr (6, [.ref aAl, .ref aSv, .ref aAs, .int sN, .int sTh, .ref aF, .ref aG, .ref aK, .long sS, .ref aTx, .int sTl, .int sPl, .ref aRd])), (aAl, .inl (cyJ, 76, .inr (.inl sAl))), (aSv, .inl (cyJ, 304, .inr (.inl sSv))), (aAs, .inl (cyJ, 76, .inr (.inl sAs))), (aF, .inl (cyJ, 3, .inr (.inl sF))), (aG, .inl (cyJ, 3, .inr (.inl sG))), (aK, .inl (cyJ, 3, .inr (.inl sK))), (aTx, .inl (cyI, 120, .inl sTx)), (aRd, .inl (cyI, 63, .inl sRd))] s.heap := hP
  have hl := lv_entry ([.ref h]) (n := 1) (Nat.le_of_ble_eq_true rfl)
  rw [lg_entry_eq]
  generalize (lg_sl ([.ref h]) ++ List.replicate (1 - (lg_sl ([.ref h])).length) Slot.unset).toArray = ls at hl ⊢
  have hl : lv_has ls 1 [(0, .ref h)] := hl
  unfold F_X6_isFigure at hF
  refine lv_aload_n hx hb dX6_isFigure_0 rfl (lv_at hl 0 rfl) ?_
  refine va_get (D := (dC, dI)) (ci := 6) (v := .int sPl) (C := RX6) (T := TX6) (N := 13) hx hb hts iX6_isFigure_X6 hown hK hP 0 rfl rfl 11 (by decide) (hts _ kX6_isFigure_1) (fun _ h9 => h9) rfl dX6_isFigure_1 ?_
  refine lv_aload_n hx hb dX6_isFigure_4 rfl (lv_at hl 0 rfl) ?_
  refine va_get (D := (dC, dI)) (ci := 6) (v := .int sTl) (C := RX6) (T := TX6) (N := 13) hx hb hts iX6_isFigure_X6 hown hK hP 0 rfl rfl 10 (by decide) (hts _ kX6_isFigure_2) (fun _ h9 => h9) rfl dX6_isFigure_5 ?_
  refine lv_icmp_ge (tgt := 37) hx hb dX6_isFigure_8 (by decide) (fun c1 => ?_) (fun c1 => ?_)
  · have hF := ite_t hF c1
    refine lv_iconst (v := 0) hx hb dX6_isFigure_37 (by decide) ?_
    obtain rfl := some_e hF
    exact W.zret (v := 0) hx hb hr rfl (fun t ht hW => ⟨⟨0, (), rfl, rfl, ⟨by rw [ht]; exact hP, va_K.moved hW.alike hK, hD⟩⟩, hS.F ht⟩) hS.2.2 dX6_isFigure_38
  · have hF := ite_f hF c1
    refine lv_aload_n hx hb dX6_isFigure_11 rfl (lv_at hl 0 rfl) ?_
    refine va_get (D := (dC, dI)) (ci := 6) (v := .ref aTx) (C := RX6) (T := TX6) (N := 13) hx hb hts iX6_isFigure_X6 hown hK hP 0 rfl rfl 9 (by decide) (hts _ kX6_isFigure_3) (fun _ h9 => h9) rfl dX6_isFigure_12 ?_
    refine lv_aload_n hx hb dX6_isFigure_15 rfl (lv_at hl 0 rfl) ?_
    refine va_get (D := (dC, dI)) (ci := 6) (v := .int sPl) (C := RX6) (T := TX6) (N := 13) hx hb hts iX6_isFigure_X6 hown hK hP 0 rfl rfl 11 (by decide) (hts _ kX6_isFigure_1) (fun _ h9 => h9) rfl dX6_isFigure_16 ?_
    obtain ⟨g2, hF⟩ := ck_e hF
    refine x_iald hx hb hK hP 7 0 rfl rfl rfl g2 dX6_isFigure_19 ?_
    refine lv_i2l (v := (sTx sPl.toNatClampNeg).toInt64) hx hb dX6_isFigure_20 rfl ?_
    refine lv_ldc2 (v := 48) hx hb hown (hts _ kX6_isFigure_4) dX6_isFigure_21 ?_
    refine lv_ldc2 (v := 57) hx hb hown (hts _ kX6_isFigure_5) dX6_isFigure_24 ?_
    obtain ⟨o3, ho3, hF⟩ := ob_e hF
    refine x_callzi (va_runS (As := [.long ((sTx sPl.toNatClampNeg).toInt64), .long 48, .long 57]) (rest := []) ⟨hx, hb, hml, hown, hts⟩ (c_X6_in l ((sTx sPl.toNatClampNeg).toInt64) 48 57 ho3) (va_cwS 3 hts gX6_isFigure_X6_in rfl rfl rfl (by decide +kernel) ⟨Nat.le_of_ble_eq_true rfl, Nat.le_of_ble_eq_true rfl⟩) ⟨true_blind, fun _ _ _ => ⟨rfl, trivial⟩⟩ rfl rfl hl.1 rfl (lv_room (Nat.le_of_ble_eq_true rfl)) dX6_isFigure_27 ⟨Nat.le_of_ble_eq_true rfl, Nat.le_of_ble_eq_true rfl⟩) ?_
    refine lv_if_eq (tgt := 37) hx hb dX6_isFigure_30 (by decide) (fun c4 => ?_) (fun c4 => ?_)
    · have hF := ite_t hF c4
      refine lv_iconst (v := 0) hx hb dX6_isFigure_37 (by decide) ?_
      obtain rfl := some_e hF
      exact W.zret (v := 0) hx hb hr rfl (fun t ht hW => ⟨⟨0, (), rfl, rfl, ⟨by rw [ht]; exact hP, va_K.moved hW.alike hK, hD⟩⟩, hS.F ht⟩) hS.2.2 dX6_isFigure_38
    · have hF := ite_f hF c4
      refine lv_iconst (v := 1) hx hb dX6_isFigure_33 (by decide) ?_
      refine lv_goto (tgt := 38) hx hb dX6_isFigure_34 (by decide) ?_
      obtain rfl := some_e hF
      exact W.zret (v := 1) hx hb hr rfl (fun t ht hW => ⟨⟨1, (), rfl, rfl, ⟨by rw [ht]; exact hP, va_K.moved hW.alike hK, hD⟩⟩, hS.F ht⟩) hS.2.2 dX6_isFigure_38
def F_X6_passes (sTl : Int32) (sPl : Int32) (sTx : Nat → Int32) (w1 : Int32) : Option (Int32 × Int32) := rg (α := Int32) (fun K5 => if (sTl : Int32) ≤ sPl then (K5 0) else (ck (inb sPl 120) (if ((sTx sPl.toNatClampNeg) : Int32) = w1 then (K5 1) else (K5 0)))) (fun x4 => rg (α := Int32) (fun K8 => if (x4 : Int32) = 0 then (K8 0) else (K8 1)) (fun x7 => lt_ (α := Int32) (sPl + x7) (fun v9 => ck (x4 = 0 ∨ x4 = 1) (some (x4, v9)))))
theorem kX6_passes_1 : (Cond.fieldLink RX6 206 "SelfTunerModel" "place" "I") ∈ wsX6_passes := List.mem_of_getElem? (i := 1) rfl
theorem kX6_passes_2 : (Cond.fieldLink RX6 203 "SelfTunerModel" "textLong" "I") ∈ wsX6_passes := List.mem_of_getElem? (i := 2) rfl
theorem kX6_passes_3 : (Cond.fieldLink RX6 28 "SelfTunerModel" "text" "[I") ∈ wsX6_passes := List.mem_of_getElem? (i := 3) rfl
theorem iX6_passes_X6 : ∀ w ∈ wsX60, w ∈ wsX6_passes := fun w h => List.mem_cons_of_mem _ (List.mem_append_right _ h)
set_option maxHeartbeats 4000000 in
set_option maxRecDepth 100000 in
theorem c_X6_passes (l : Launch) (dC : Nat → ClassId) (dI : Nat → Nat → Nat) (cyI cyJ cyB cyS cyD : ClassId) (h : Nat) (aAl : Nat) (aSv : Nat) (aAs : Nat) (aF : Nat) (aG : Nat) (aK : Nat) (aTx : Nat) (aRd : Nat) (sz : Nat) (sN : Int32) (sTh : Int32) (sS : Int64) (sTl : Int32) (sPl : Int32) (sAl : Nat → Int64) (sSv : Nat → Int64) (sAs : Nat → Int64) (sF : Nat → Int64) (sG : Nat → Int64) (sK : Nat → Int64) (sTx : Nat → Int32) (sRd : Nat → Int32) (w1 : Int32) {out : Int32 × Int32} (hF : F_X6_passes sTl sPl sTx w1 = some out) : Mi l yX6_passes wsX6_passes ({ frames := 0, cells := 0, slots := 0, locals := 0 } : Room) (dC, dI) [(cyI, .int), (cyJ, .long), (cyB, .byte), (cyS, .object "SelfTuner$State"), (cyD, .double)] sz [.ref h, .int w1] [(h, .inr (6, [.ref aAl, .ref aSv, .ref aAs, .int sN, .int sTh, .ref aF, .ref aG, .ref aK, .long sS, .ref aTx, .int sTl, .int sPl, .ref aRd])), (aAl, .inl (cyJ, 76, .inr (.inl sAl))), (aSv, .inl (cyJ, 304, .inr (.inl sSv))), (aAs, .inl (cyJ, 76, .inr (.inl sAs))), (aF, .inl (cyJ, 3, .inr (.inl sF))), (aG, .inl (cyJ, 3, .inr (.inl sG))), (aK, .inl (cyJ, 3, .inr (.inl sK))), (aTx, .inl (cyI, 120, .inl sTx)), (aRd, .inl (cyI, 63, .inl sRd))] out.1 [(h, .inr (6, [.ref aAl, .ref aSv, .ref aAs, .int sN, .int sTh, .ref aF, .ref aG, .ref aK, .long sS, .ref aTx, .int sTl, .int out.2, .ref aRd])), (aAl, .inl (cyJ, 76, .inr (.inl sAl))), (aSv, .inl (cyJ, 304, .inr (.inl sSv))), (aAs, .inl (cyJ, 76, .inr (.inl sAs))), (aF, .inl (cyJ, 3, .inr (.inl sF))), (aG, .inl (cyJ, 3, .inr (.inl sG))), (aK, .inl (cyJ, 3, .inr (.inl sK))), (aTx, .inl (cyI, 120, .inl sTx)), (aRd, .inl (cyI, 63, .inl sRd))] := by
  refine Met.ofW (cc := cX6_passes) (maxL := 3) (ret := (some .boolean)) (by decide) rfl ?_
  intro p e s m args below meth c s₁ B hml hv
  obtain ⟨rfl, hN, hsz, hP, hK, hD0⟩ := hv
  have hx := B.exec
  have hb := B.bytes
  have hr := B.returns
  have hts := atoms_spec (ws := wsX6_passes) B.pre
  have hown : s.vm.findClass RX6 = some m.cls := findClass_of_methodNamed B.named
  have hlocks := B.notSynchronized
  subst hsz
  have hD := hD0.self (sz := s.heap.size)
  generalize hAe : va_A [(h, .inr (6, [.ref aAl, .ref aSv, .ref aAs, .int sN, .int sTh, .ref aF, .ref aG, .ref aK, .long sS, .ref aTx, .int sTl, .int sPl, .ref aRd])), (aAl, .inl (cyJ, 76, .inr (.inl sAl))), (aSv, .inl (cyJ, 304, .inr (.inl sSv))), (aAs, .inl (cyJ, 76, .inr (.inl sAs))), (aF, .inl (cyJ, 3, .inr (.inl sF))), (aG, .inl (cyJ, 3, .inr (.inl sG))), (aK, .inl (cyJ, 3, .inr (.inl sK))), (aTx, .inl (cyI, 120, .inl sTx)), (aRd, .inl (cyI, 63, .inl sRd))] s.heap.size = A at hD ⊢
  have hA : ∀ q : Nat, s.heap.size ≤ q → A q := fun q h => by rw [← hAe]; exact Or.inr h
  have hS : va_S A s.heap s.heap [] := va_S.rf
  have hP : va_P (dC, dI) vwCl [(h, .inr (6, [.ref aAl, .ref aSv, .ref aAs, .int sN, .int sTh, .ref aF, .ref aG, .ref aK, .long sS, .ref aTx, .int sTl, .int sPl, .ref aRd])), (aAl, .inl (cyJ, 76, .inr (.inl sAl))), (aSv, .inl (cyJ, 304, .inr (.inl sSv))), (aAs, .inl (cyJ, 76, .inr (.inl sAs))), (aF, .inl (cyJ, 3, .inr (.inl sF))), (aG, .inl (cyJ, 3, .inr (.inl sG))), (aK, .inl (cyJ, 3, .inr (.inl sK))), (aTx, .inl (cyI, 120, .inl sTx)), (aRd, .inl (cyI, 63, .inl sRd))] s.heap := hP
  have hl := lv_entry ([.ref h, .int w1]) (n := 3) (Nat.le_of_ble_eq_true rfl)
  rw [lg_entry_eq]
  generalize (lg_sl ([.ref h, .int w1]) ++ List.replicate (3 - (lg_sl ([.ref h, .int w1])).length) Slot.unset).toArray = ls at hl ⊢
  have hl : lv_has ls 3 [(0, .ref h), (1, .int w1)] := hl
  unfold F_X6_passes at hF
  refine lv_aload_n hx hb dX6_passes_0 rfl (lv_at hl 0 rfl) ?_
  refine va_get (D := (dC, dI)) (ci := 6) (v := .int sPl) (C := RX6) (T := TX6) (N := 13) hx hb hts iX6_passes_X6 hown hK hP 0 rfl rfl 11 (by decide) (hts _ kX6_passes_1) (fun _ h9 => h9) rfl dX6_passes_1 ?_
  refine lv_aload_n hx hb dX6_passes_4 rfl (lv_at hl 0 rfl) ?_
  refine va_get (D := (dC, dI)) (ci := 6) (v := .int sTl) (C := RX6) (T := TX6) (N := 13) hx hb hts iX6_passes_X6 hown hK hP 0 rfl rfl 10 (by decide) (hts _ kX6_passes_2) (fun _ h9 => h9) rfl dX6_passes_5 ?_
  obtain ⟨K5, hK5, hF⟩ := rg_e hF
  have Jx4 : ∀ (x4 : Int32) (H : Heap) (locs : List Loc) (ls : Array Slot), K5 x4 = some out → va_P (dC, dI) vwCl [(h, .inr (6, [.ref aAl, .ref aSv, .ref aAs, .int sN, .int sTh, .ref aF, .ref aG, .ref aK, .long sS, .ref aTx, .int sTl, .int sPl, .ref aRd])), (aAl, .inl (cyJ, 76, .inr (.inl sAl))), (aSv, .inl (cyJ, 304, .inr (.inl sSv))), (aAs, .inl (cyJ, 76, .inr (.inl sAs))), (aF, .inl (cyJ, 3, .inr (.inl sF))), (aG, .inl (cyJ, 3, .inr (.inl sG))), (aK, .inl (cyJ, 3, .inr (.inl sK))), (aTx, .inl (cyI, 120, .inl sTx)), (aRd, .inl (cyI, 63, .inl sRd))] H → va_D A [(h, .inr (6, [.ref aAl, .ref aSv, .ref aAs, .int sN, .int sTh, .ref aF, .ref aG, .ref aK, .long sS, .ref aTx, .int sTl, .int sPl, .ref aRd])), (aAl, .inl (cyJ, 76, .inr (.inl sAl))), (aSv, .inl (cyJ, 304, .inr (.inl sSv))), (aAs, .inl (cyJ, 76, .inr (.inl sAs))), (aF, .inl (cyJ, 3, .inr (.inl sF))), (aG, .inl (cyJ, 3, .inr (.inl sG))), (aK, .inl (cyJ, 3, .inr (.inl sK))), (aTx, .inl (cyI, 120, .inl sTx)), (aRd, .inl (cyI, 63, .inl sRd))] → va_S A s.heap H locs → lv_has ls 3 [(0, .ref h)] → W p l e (headSpec wsX6_passes ({ frames := 0, cells := 0, slots := 0, locals := 0 } : Room)).room s m ([.ref h, .int w1] : List Value).toArray below meth c H locs 0 0 (MQ below (va_Qi (fun (r' : Int32) (_ : Unit) => r' = out.1) (cPost (dC, dI) [(cyI, .int), (cyJ, .long), (cyB, .byte), (cyS, .object "SelfTuner$State"), (cyD, .double)] [(h, .inr (6, [.ref aAl, .ref aSv, .ref aAs, .int sN, .int sTh, .ref aF, .ref aG, .ref aK, .long sS, .ref aTx, .int sTl, .int out.2, .ref aRd])), (aAl, .inl (cyJ, 76, .inr (.inl sAl))), (aSv, .inl (cyJ, 304, .inr (.inl sSv))), (aAs, .inl (cyJ, 76, .inr (.inl sAs))), (aF, .inl (cyJ, 3, .inr (.inl sF))), (aG, .inl (cyJ, 3, .inr (.inl sG))), (aK, .inl (cyJ, 3, .inr (.inl sK))), (aTx, .inl (cyI, 120, .inl sTx)), (aRd, .inl (cyI, 63, .inl sRd))] A) A) ([.ref h, .int w1] : List Value).toArray s 0 0 A) (F0 m 29 ls [.int x4]) := by
    intro x4 H locs ls hF hP hD hS hl
    rw [hK5] at hF
    refine lv_istore_n (lv' := [(2, .int x4), (0, .ref h)]) hx hb dX6_passes_29 rfl hl (by decide) rfl (fun ls hl => ?_)
    refine lv_aload_n hx hb dX6_passes_30 rfl (lv_at hl 1 rfl) ?_
    refine lv_dup hx hb dX6_passes_31 rfl ?_
    refine va_get (D := (dC, dI)) (ci := 6) (v := .int sPl) (C := RX6) (T := TX6) (N := 13) hx hb hts iX6_passes_X6 hown hK hP 0 rfl rfl 11 (by decide) (hts _ kX6_passes_1) (fun _ h9 => h9) rfl dX6_passes_32 ?_
    refine lv_iload_n hx hb dX6_passes_35 rfl (lv_at hl 0 rfl) ?_
    obtain ⟨K8, hK8, hF⟩ := rg_e hF
    have Jx7 : ∀ (x7 : Int32) (H : Heap) (locs : List Loc) (ls : Array Slot), K8 x7 = some out → va_P (dC, dI) vwCl [(h, .inr (6, [.ref aAl, .ref aSv, .ref aAs, .int sN, .int sTh, .ref aF, .ref aG, .ref aK, .long sS, .ref aTx, .int sTl, .int sPl, .ref aRd])), (aAl, .inl (cyJ, 76, .inr (.inl sAl))), (aSv, .inl (cyJ, 304, .inr (.inl sSv))), (aAs, .inl (cyJ, 76, .inr (.inl sAs))), (aF, .inl (cyJ, 3, .inr (.inl sF))), (aG, .inl (cyJ, 3, .inr (.inl sG))), (aK, .inl (cyJ, 3, .inr (.inl sK))), (aTx, .inl (cyI, 120, .inl sTx)), (aRd, .inl (cyI, 63, .inl sRd))] H → va_D A [(h, .inr (6, [.ref aAl, .ref aSv, .ref aAs, .int sN, .int sTh, .ref aF, .ref aG, .ref aK, .long sS, .ref aTx, .int sTl, .int sPl, .ref aRd])), (aAl, .inl (cyJ, 76, .inr (.inl sAl))), (aSv, .inl (cyJ, 304, .inr (.inl sSv))), (aAs, .inl (cyJ, 76, .inr (.inl sAs))), (aF, .inl (cyJ, 3, .inr (.inl sF))), (aG, .inl (cyJ, 3, .inr (.inl sG))), (aK, .inl (cyJ, 3, .inr (.inl sK))), (aTx, .inl (cyI, 120, .inl sTx)), (aRd, .inl (cyI, 63, .inl sRd))] → va_S A s.heap H locs → lv_has ls 3 [(2, .int x4)] → W p l e (headSpec wsX6_passes ({ frames := 0, cells := 0, slots := 0, locals := 0 } : Room)).room s m ([.ref h, .int w1] : List Value).toArray below meth c H locs 0 0 (MQ below (va_Qi (fun (r' : Int32) (_ : Unit) => r' = out.1) (cPost (dC, dI) [(cyI, .int), (cyJ, .long), (cyB, .byte), (cyS, .object "SelfTuner$State"), (cyD, .double)] [(h, .inr (6, [.ref aAl, .ref aSv, .ref aAs, .int sN, .int sTh, .ref aF, .ref aG, .ref aK, .long sS, .ref aTx, .int sTl, .int out.2, .ref aRd])), (aAl, .inl (cyJ, 76, .inr (.inl sAl))), (aSv, .inl (cyJ, 304, .inr (.inl sSv))), (aAs, .inl (cyJ, 76, .inr (.inl sAs))), (aF, .inl (cyJ, 3, .inr (.inl sF))), (aG, .inl (cyJ, 3, .inr (.inl sG))), (aK, .inl (cyJ, 3, .inr (.inl sK))), (aTx, .inl (cyI, 120, .inl sTx)), (aRd, .inl (cyI, 63, .inl sRd))] A) A) ([.ref h, .int w1] : List Value).toArray s 0 0 A) (F0 m 44 ls [.int x7, .int sPl, .ref h]) := by
      intro x7 H locs ls hF hP hD hS hl
      rw [hK8] at hF
      refine lv_iadd hx hb dX6_passes_44 ?_
      obtain ⟨v9, hv9, hF⟩ := lt_e hF
      refine x_topi hv9 ?_
      refine x_put (D := (dC, dI)) (ci := 6) (v := .int v9) (ty := .int) (C := RX6) (T := TX6) (N := 13) (ws' := [(h, .inr (6, [.ref aAl, .ref aSv, .ref aAs, .int sN, .int sTh, .ref aF, .ref aG, .ref aK, .long sS, .ref aTx, .int sTl, .int v9, .ref aRd])), (aAl, .inl (cyJ, 76, .inr (.inl sAl))), (aSv, .inl (cyJ, 304, .inr (.inl sSv))), (aAs, .inl (cyJ, 76, .inr (.inl sAs))), (aF, .inl (cyJ, 3, .inr (.inl sF))), (aG, .inl (cyJ, 3, .inr (.inl sG))), (aK, .inl (cyJ, 3, .inr (.inl sK))), (aTx, .inl (cyI, 120, .inl sTx)), (aRd, .inl (cyI, 63, .inl sRd))]) hx hb hts iX6_passes_X6 tyX6 tyX6_ok nmX6 hown hK hP hD hS 0 rfl rfl 11 (by decide) (hts _ kX6_passes_1) (fun _ h9 => h9) rfl (by decide +kernel) rfl rfl (Nat.le_of_ble_eq_true rfl) rfl dX6_passes_45 (fun H locs hP hD hS => ?_)
      refine lv_iload_n hx hb dX6_passes_48 rfl (lv_at hl 0 rfl) ?_
      obtain ⟨g10, hF⟩ := ck_e hF
      obtain rfl := some_e hF
      exact W.zret (v := x4) hx hb hr (x_bool g10) (fun t ht hW => ⟨⟨x4, (), rfl, rfl, ⟨by rw [ht]; exact hP, va_K.moved hW.alike hK, hD⟩⟩, hS.F ht⟩) hS.2.2 dX6_passes_49
    refine lv_if_eq (tgt := 43) hx hb dX6_passes_36 (by decide) (fun c6 => ?_) (fun c6 => ?_)
    · have hF := ite_t hF c6
      refine lv_iconst (v := 0) hx hb dX6_passes_43 (by decide) ?_
      exact Jx7 _ _ _ _ hF hP hD hS (lv_sub hl [0] rfl)
    · have hF := ite_f hF c6
      refine lv_iconst (v := 1) hx hb dX6_passes_39 (by decide) ?_
      refine lv_goto (tgt := 44) hx hb dX6_passes_40 (by decide) ?_
      exact Jx7 _ _ _ _ hF hP hD hS (lv_sub hl [0] rfl)
  refine lv_icmp_ge (tgt := 28) hx hb dX6_passes_8 (by decide) (fun c1 => ?_) (fun c1 => ?_)
  · have hF := ite_t hF c1
    refine lv_iconst (v := 0) hx hb dX6_passes_28 (by decide) ?_
    exact Jx4 _ _ _ _ hF hP hD hS (lv_sub hl [0] rfl)
  · have hF := ite_f hF c1
    refine lv_aload_n hx hb dX6_passes_11 rfl (lv_at hl 0 rfl) ?_
    refine va_get (D := (dC, dI)) (ci := 6) (v := .ref aTx) (C := RX6) (T := TX6) (N := 13) hx hb hts iX6_passes_X6 hown hK hP 0 rfl rfl 9 (by decide) (hts _ kX6_passes_3) (fun _ h9 => h9) rfl dX6_passes_12 ?_
    refine lv_aload_n hx hb dX6_passes_15 rfl (lv_at hl 0 rfl) ?_
    refine va_get (D := (dC, dI)) (ci := 6) (v := .int sPl) (C := RX6) (T := TX6) (N := 13) hx hb hts iX6_passes_X6 hown hK hP 0 rfl rfl 11 (by decide) (hts _ kX6_passes_1) (fun _ h9 => h9) rfl dX6_passes_16 ?_
    obtain ⟨g2, hF⟩ := ck_e hF
    refine x_iald hx hb hK hP 7 0 rfl rfl rfl g2 dX6_passes_19 ?_
    refine lv_iload_n hx hb dX6_passes_20 rfl (lv_at hl 1 rfl) ?_
    refine lv_icmp_ne (tgt := 28) hx hb dX6_passes_21 (by decide) (fun c3 => ?_) (fun c3 => ?_)
    · have hF := ite_f hF c3
      refine lv_iconst (v := 0) hx hb dX6_passes_28 (by decide) ?_
      exact Jx4 _ _ _ _ hF hP hD hS (lv_sub hl [0] rfl)
    · have hF := ite_t hF c3
      refine lv_iconst (v := 1) hx hb dX6_passes_24 (by decide) ?_
      refine lv_goto (tgt := 29) hx hb dX6_passes_25 (by decide) ?_
      exact Jx4 _ _ _ _ hF hP hD hS (lv_sub hl [0] rfl)
def F_X6_readsNumber_15 (sTl : Int32) (sTx : Nat → Int32) (o1 : Int32 × Int32) : Nat → ((Int32 × Int32) → Option (Int32 × Int32 × (Nat → Int32))) → Int32 → Int32 → Option (Int32 × Int32 × (Nat → Int32))
  | 0, _, _, _ => none
  | n2 + 1, K3, v4, v5 => ob (F_X6_isFigure sTl v5 sTx) (fun o6 => if (o6 : Int32) = 0 then (K3 (v4, v5)) else (if ((o1.2 + 4) : Int32) ≤ v5 then (K3 (v4, v5)) else (ck (inb v5 120) (lt_ (α := Int32) (((10 * v4) + (sTx v5.toNatClampNeg)) - 48) (fun v10 => lt_ (α := Int32) (v5 + 1) (fun v11 => F_X6_readsNumber_15 sTl sTx o1 n2 K3 v10 v11))))))
def F_X6_readsNumber (sTl : Int32) (sPl : Int32) (sTx : Nat → Int32) (sRd : Nat → Int32) (w1 : Int32) : Option (Int32 × Int32 × (Nat → Int32)) := ob (F_X6_passes sTl sPl sTx 45) (fun o1 => F_X6_readsNumber_15 sTl sTx o1 1000 (fun x12 => rg (α := Int32) (fun K15 => if (o1.1 : Int32) = 0 then (K15 x12.1) else (K15 (-x12.1))) (fun x14 => ck (inb w1 63) (lt_ (α := Nat → Int32) (upd sRd w1.toNatClampNeg x14) (fun v17 => if (x12.2 : Int32) ≤ o1.2 then (some (0, x12.2, v17)) else (ob (F_X6_isFigure sTl x12.2 sTx) (fun o19 => if (o19 : Int32) = 0 then (rg (α := Int32) (fun K23 => if ((w1 - w1 / 3 * 3) : Int32) = 2 then (K23 59) else (K23 44)) (fun x22 => ob (F_X6_passes sTl x12.2 sTx x22) (fun o24 => if (o24.1 : Int32) = 0 then (some (0, o24.2, v17)) else (some (1, o24.2, v17))))) else (some (0, x12.2, v17)))))))) 0 o1.2)
theorem kX6_readsNumber_1 : (Cond.fieldLink RX6 206 "SelfTunerModel" "place" "I") ∈ wsX6_readsNumber := List.mem_of_getElem? (i := 1) rfl
theorem kX6_readsNumber_2 : (Cond.fieldLink RX6 28 "SelfTunerModel" "text" "[I") ∈ wsX6_readsNumber := List.mem_of_getElem? (i := 2) rfl
theorem kX6_readsNumber_3 : (Cond.fieldLink RX6 32 "SelfTunerModel" "read" "[I") ∈ wsX6_readsNumber := List.mem_of_getElem? (i := 3) rfl
theorem iX6_readsNumber_X6 : ∀ w ∈ wsX60, w ∈ wsX6_readsNumber := fun w h => List.mem_cons_of_mem _ (List.mem_append_right _ h)
set_option maxHeartbeats 4000000 in
set_option maxRecDepth 100000 in
theorem c_X6_readsNumber (l : Launch) (dC : Nat → ClassId) (dI : Nat → Nat → Nat) (cyI cyJ cyB cyS cyD : ClassId) (h : Nat) (aAl : Nat) (aSv : Nat) (aAs : Nat) (aF : Nat) (aG : Nat) (aK : Nat) (aTx : Nat) (aRd : Nat) (sz : Nat) (sN : Int32) (sTh : Int32) (sS : Int64) (sTl : Int32) (sPl : Int32) (sAl : Nat → Int64) (sSv : Nat → Int64) (sAs : Nat → Int64) (sF : Nat → Int64) (sG : Nat → Int64) (sK : Nat → Int64) (sTx : Nat → Int32) (sRd : Nat → Int32) (w1 : Int32) {out : Int32 × Int32 × (Nat → Int32)} (hF : F_X6_readsNumber sTl sPl sTx sRd w1 = some out) : Mi l yX6_readsNumber wsX6_readsNumber ({ frames := 2, cells := 0, slots := 0, locals := 45 } : Room) (dC, dI) [(cyI, .int), (cyJ, .long), (cyB, .byte), (cyS, .object "SelfTuner$State"), (cyD, .double)] sz [.ref h, .int w1] [(h, .inr (6, [.ref aAl, .ref aSv, .ref aAs, .int sN, .int sTh, .ref aF, .ref aG, .ref aK, .long sS, .ref aTx, .int sTl, .int sPl, .ref aRd])), (aAl, .inl (cyJ, 76, .inr (.inl sAl))), (aSv, .inl (cyJ, 304, .inr (.inl sSv))), (aAs, .inl (cyJ, 76, .inr (.inl sAs))), (aF, .inl (cyJ, 3, .inr (.inl sF))), (aG, .inl (cyJ, 3, .inr (.inl sG))), (aK, .inl (cyJ, 3, .inr (.inl sK))), (aTx, .inl (cyI, 120, .inl sTx)), (aRd, .inl (cyI, 63, .inl sRd))] out.1 [(h, .inr (6, [.ref aAl, .ref aSv, .ref aAs, .int sN, .int sTh, .ref aF, .ref aG, .ref aK, .long sS, .ref aTx, .int sTl, .int out.2.1, .ref aRd])), (aAl, .inl (cyJ, 76, .inr (.inl sAl))), (aSv, .inl (cyJ, 304, .inr (.inl sSv))), (aAs, .inl (cyJ, 76, .inr (.inl sAs))), (aF, .inl (cyJ, 3, .inr (.inl sF))), (aG, .inl (cyJ, 3, .inr (.inl sG))), (aK, .inl (cyJ, 3, .inr (.inl sK))), (aTx, .inl (cyI, 120, .inl sTx)), (aRd, .inl (cyI, 63, .inl out.2.2))] := by
  refine Met.ofW (cc := cX6_readsNumber) (maxL := 5) (ret := (some .boolean)) (by decide) rfl ?_
  intro p e s m args below meth c s₁ B hml hv
  obtain ⟨rfl, hN, hsz, hP, hK, hD0⟩ := hv
  have hx := B.exec
  have hb := B.bytes
  have hr := B.returns
  have hts := atoms_spec (ws := wsX6_readsNumber) B.pre
  have hown : s.vm.findClass RX6 = some m.cls := findClass_of_methodNamed B.named
  have hlocks := B.notSynchronized
  subst hsz
  have hD := hD0.self (sz := s.heap.size)
  generalize hAe : va_A [(h, .inr (6, [.ref aAl, .ref aSv, .ref aAs, .int sN, .int sTh, .ref aF, .ref aG, .ref aK, .long sS, .ref aTx, .int sTl, .int sPl, .ref aRd])), (aAl, .inl (cyJ, 76, .inr (.inl sAl))), (aSv, .inl (cyJ, 304, .inr (.inl sSv))), (aAs, .inl (cyJ, 76, .inr (.inl sAs))), (aF, .inl (cyJ, 3, .inr (.inl sF))), (aG, .inl (cyJ, 3, .inr (.inl sG))), (aK, .inl (cyJ, 3, .inr (.inl sK))), (aTx, .inl (cyI, 120, .inl sTx)), (aRd, .inl (cyI, 63, .inl sRd))] s.heap.size = A at hD ⊢
  have hA : ∀ q : Nat, s.heap.size ≤ q → A q := fun q h => by rw [← hAe]; exact Or.inr h
  have hS : va_S A s.heap s.heap [] := va_S.rf
  have hP : va_P (dC, dI) vwCl [(h, .inr (6, [.ref aAl, .ref aSv, .ref aAs, .int sN, .int sTh, .ref aF, .ref aG, .ref aK, .long sS, .ref aTx, .int sTl, .int sPl, .ref aRd])), (aAl, .inl (cyJ, 76, .inr (.inl sAl))), (aSv, .inl (cyJ, 304, .inr (.inl sSv))), (aAs, .inl (cyJ, 76, .inr (.inl sAs))), (aF, .inl (cyJ, 3, .inr (.inl sF))), (aG, .inl (cyJ, 3, .inr (.inl sG))), (aK, .inl (cyJ, 3, .inr (.inl sK))), (aTx, .inl (cyI, 120, .inl sTx)), (aRd, .inl (cyI, 63, .inl sRd))] s.heap := hP
  have hl := lv_entry ([.ref h, .int w1]) (n := 5) (Nat.le_of_ble_eq_true rfl)
  rw [lg_entry_eq]
  generalize (lg_sl ([.ref h, .int w1]) ++ List.replicate (5 - (lg_sl ([.ref h, .int w1])).length) Slot.unset).toArray = ls at hl ⊢
  have hl : lv_has ls 5 [(0, .ref h), (1, .int w1)] := hl
  unfold F_X6_readsNumber at hF
  refine lv_aload_n hx hb dX6_readsNumber_0 rfl (lv_at hl 0 rfl) ?_
  refine lv_bipush (v := 45) hx hb dX6_readsNumber_1 (by decide) ?_
  obtain ⟨o1, ho1, hF⟩ := ob_e hF
  refine x_calli (wr := []) (ws' := [(h, .inr (6, [.ref aAl, .ref aSv, .ref aAs, .int sN, .int sTh, .ref aF, .ref aG, .ref aK, .long sS, .ref aTx, .int sTl, .int o1.2, .ref aRd])), (aAl, .inl (cyJ, 76, .inr (.inl sAl))), (aSv, .inl (cyJ, 304, .inr (.inl sSv))), (aAs, .inl (cyJ, 76, .inr (.inl sAs))), (aF, .inl (cyJ, 3, .inr (.inl sF))), (aG, .inl (cyJ, 3, .inr (.inl sG))), (aK, .inl (cyJ, 3, .inr (.inl sK))), (aTx, .inl (cyI, 120, .inl sTx)), (aRd, .inl (cyI, 63, .inl sRd))]) (va_runV (As := [.int 45]) (rest := []) ⟨hx, hb, hml, hown, hts⟩ (c_X6_passes l dC dI cyI cyJ cyB cyS cyD h aAl aSv aAs aF aG aK aTx aRd s.heap.size sN sTh sS sTl sPl sAl sSv sAs sF sG sK sTx sRd 45 ho1) (cwV 1 hts gX6_readsNumber_X6_passes rfl rfl rfl (by decide +kernel) ⟨Nat.le_of_ble_eq_true rfl, Nat.le_of_ble_eq_true rfl⟩) ⟨cPre_blind, va_recv hK hP (ci := 6) (q0 := 0) rfl rfl, x_pre hN hP hD hK [0, 1, 2, 3, 4, 5, 6, 7, 8] rfl rfl⟩ rfl rfl hl.1 rfl (lv_room (Nat.le_of_ble_eq_true rfl)) dX6_readsNumber_3 ⟨Nat.le_of_ble_eq_true rfl, Nat.le_of_ble_eq_true rfl⟩) hP hD hS hA [0, 1, 2, 3, 4, 5, 6, 7, 8] [] [0, 1, 2, 3, 4, 5, 6, 7, 8] rfl rfl rfl (by decide) rfl rfl (fun H locs hP hD hS => ?_)
  refine lv_istore_n (lv' := [(2, .int o1.1), (0, .ref h), (1, .int w1)]) hx hb dX6_readsNumber_6 rfl hl (by decide) rfl (fun ls hl => ?_)
  refine lv_aload_n hx hb dX6_readsNumber_7 rfl (lv_at hl 1 rfl) ?_
  refine va_get (D := (dC, dI)) (ci := 6) (v := .int o1.2) (C := RX6) (T := TX6) (N := 13) hx hb hts iX6_readsNumber_X6 hown hK hP 0 rfl rfl 11 (by decide) (hts _ kX6_readsNumber_1) (fun _ h9 => h9) rfl dX6_readsNumber_8 ?_
  refine lv_istore_n (lv' := [(3, .int o1.2), (2, .int o1.1), (0, .ref h), (1, .int w1)]) hx hb dX6_readsNumber_11 rfl hl (by decide) rfl (fun ls hl => ?_)
  refine lv_iconst (v := 0) hx hb dX6_readsNumber_12 (by decide) ?_
  refine lv_istore (lv' := [(4, .int 0), (3, .int o1.2), (2, .int o1.1), (0, .ref h), (1, .int w1)]) hx hb dX6_readsNumber_13 hl (by decide) rfl (fun ls hl => ?_)
  have Ln2 : ∀ (n2 : Nat) (K3 : (Int32 × Int32) → Option (Int32 × Int32 × (Nat → Int32))) (v4 : Int32) (v5 : Int32) (H : Heap) (locs : List Loc) (ls : Array Slot), F_X6_readsNumber_15 sTl sTx o1 n2 K3 v4 v5 = some out → va_P (dC, dI) vwCl [(h, .inr (6, [.ref aAl, .ref aSv, .ref aAs, .int sN, .int sTh, .ref aF, .ref aG, .ref aK, .long sS, .ref aTx, .int sTl, .int v5, .ref aRd])), (aAl, .inl (cyJ, 76, .inr (.inl sAl))), (aSv, .inl (cyJ, 304, .inr (.inl sSv))), (aAs, .inl (cyJ, 76, .inr (.inl sAs))), (aF, .inl (cyJ, 3, .inr (.inl sF))), (aG, .inl (cyJ, 3, .inr (.inl sG))), (aK, .inl (cyJ, 3, .inr (.inl sK))), (aTx, .inl (cyI, 120, .inl sTx)), (aRd, .inl (cyI, 63, .inl sRd))] H → va_D A [(h, .inr (6, [.ref aAl, .ref aSv, .ref aAs, .int sN, .int sTh, .ref aF, .ref aG, .ref aK, .long sS, .ref aTx, .int sTl, .int v5, .ref aRd])), (aAl, .inl (cyJ, 76, .inr (.inl sAl))), (aSv, .inl (cyJ, 304, .inr (.inl sSv))), (aAs, .inl (cyJ, 76, .inr (.inl sAs))), (aF, .inl (cyJ, 3, .inr (.inl sF))), (aG, .inl (cyJ, 3, .inr (.inl sG))), (aK, .inl (cyJ, 3, .inr (.inl sK))), (aTx, .inl (cyI, 120, .inl sTx)), (aRd, .inl (cyI, 63, .inl sRd))] → va_S A s.heap H locs → lv_has ls 5 [(0, .ref h), (1, .int w1), (2, .int o1.1), (3, .int o1.2), (4, .int v4)] → (∀ (x12 : Int32 × Int32) (H : Heap) (locs : List Loc) (ls : Array Slot), K3 x12 = some out → va_P (dC, dI) vwCl [(h, .inr (6, [.ref aAl, .ref aSv, .ref aAs, .int sN, .int sTh, .ref aF, .ref aG, .ref aK, .long sS, .ref aTx, .int sTl, .int x12.2, .ref aRd])), (aAl, .inl (cyJ, 76, .inr (.inl sAl))), (aSv, .inl (cyJ, 304, .inr (.inl sSv))), (aAs, .inl (cyJ, 76, .inr (.inl sAs))), (aF, .inl (cyJ, 3, .inr (.inl sF))), (aG, .inl (cyJ, 3, .inr (.inl sG))), (aK, .inl (cyJ, 3, .inr (.inl sK))), (aTx, .inl (cyI, 120, .inl sTx)), (aRd, .inl (cyI, 63, .inl sRd))] H → va_D A [(h, .inr (6, [.ref aAl, .ref aSv, .ref aAs, .int sN, .int sTh, .ref aF, .ref aG, .ref aK, .long sS, .ref aTx, .int sTl, .int x12.2, .ref aRd])), (aAl, .inl (cyJ, 76, .inr (.inl sAl))), (aSv, .inl (cyJ, 304, .inr (.inl sSv))), (aAs, .inl (cyJ, 76, .inr (.inl sAs))), (aF, .inl (cyJ, 3, .inr (.inl sF))), (aG, .inl (cyJ, 3, .inr (.inl sG))), (aK, .inl (cyJ, 3, .inr (.inl sK))), (aTx, .inl (cyI, 120, .inl sTx)), (aRd, .inl (cyI, 63, .inl sRd))] → va_S A s.heap H locs → lv_has ls 5 [(0, .ref h), (1, .int w1), (2, .int o1.1), (3, .int o1.2), (4, .int x12.1)] → W p l e (headSpec wsX6_readsNumber ({ frames := 2, cells := 0, slots := 0, locals := 45 } : Room)).room s m ([.ref h, .int w1] : List Value).toArray below meth c H locs 0 0 (MQ below (va_Qi (fun (r' : Int32) (_ : Unit) => r' = out.1) (cPost (dC, dI) [(cyI, .int), (cyJ, .long), (cyB, .byte), (cyS, .object "SelfTuner$State"), (cyD, .double)] [(h, .inr (6, [.ref aAl, .ref aSv, .ref aAs, .int sN, .int sTh, .ref aF, .ref aG, .ref aK, .long sS, .ref aTx, .int sTl, .int out.2.1, .ref aRd])), (aAl, .inl (cyJ, 76, .inr (.inl sAl))), (aSv, .inl (cyJ, 304, .inr (.inl sSv))), (aAs, .inl (cyJ, 76, .inr (.inl sAs))), (aF, .inl (cyJ, 3, .inr (.inl sF))), (aG, .inl (cyJ, 3, .inr (.inl sG))), (aK, .inl (cyJ, 3, .inr (.inl sK))), (aTx, .inl (cyI, 120, .inl sTx)), (aRd, .inl (cyI, 63, .inl out.2.2))] A) A) ([.ref h, .int w1] : List Value).toArray s 0 0 A) (F0 m 65 ls [])) → W p l e (headSpec wsX6_readsNumber ({ frames := 2, cells := 0, slots := 0, locals := 45 } : Room)).room s m ([.ref h, .int w1] : List Value).toArray below meth c H locs 0 0 (MQ below (va_Qi (fun (r' : Int32) (_ : Unit) => r' = out.1) (cPost (dC, dI) [(cyI, .int), (cyJ, .long), (cyB, .byte), (cyS, .object "SelfTuner$State"), (cyD, .double)] [(h, .inr (6, [.ref aAl, .ref aSv, .ref aAs, .int sN, .int sTh, .ref aF, .ref aG, .ref aK, .long sS, .ref aTx, .int sTl, .int out.2.1, .ref aRd])), (aAl, .inl (cyJ, 76, .inr (.inl sAl))), (aSv, .inl (cyJ, 304, .inr (.inl sSv))), (aAs, .inl (cyJ, 76, .inr (.inl sAs))), (aF, .inl (cyJ, 3, .inr (.inl sF))), (aG, .inl (cyJ, 3, .inr (.inl sG))), (aK, .inl (cyJ, 3, .inr (.inl sK))), (aTx, .inl (cyI, 120, .inl sTx)), (aRd, .inl (cyI, 63, .inl out.2.2))] A) A) ([.ref h, .int w1] : List Value).toArray s 0 0 A) (F0 m 15 ls []) := by
    intro n2
    induction n2 with
    | zero => intro K3 v4 v5 H locs ls hF; exact no_e (show none = some out from hF)
    | succ n2 ihn2 =>
      intro K3 v4 v5 H locs ls hF hP hD hS hl kxn2
      rw [F_X6_readsNumber_15] at hF
      refine lv_aload_n hx hb dX6_readsNumber_15 rfl (lv_at hl 0 rfl) ?_
      obtain ⟨o6, ho6, hF⟩ := ob_e hF
      refine x_calli (wr := []) (ws' := [(h, .inr (6, [.ref aAl, .ref aSv, .ref aAs, .int sN, .int sTh, .ref aF, .ref aG, .ref aK, .long sS, .ref aTx, .int sTl, .int v5, .ref aRd])), (aAl, .inl (cyJ, 76, .inr (.inl sAl))), (aSv, .inl (cyJ, 304, .inr (.inl sSv))), (aAs, .inl (cyJ, 76, .inr (.inl sAs))), (aF, .inl (cyJ, 3, .inr (.inl sF))), (aG, .inl (cyJ, 3, .inr (.inl sG))), (aK, .inl (cyJ, 3, .inr (.inl sK))), (aTx, .inl (cyI, 120, .inl sTx)), (aRd, .inl (cyI, 63, .inl sRd))]) (va_runV (As := []) (rest := []) ⟨hx, hb, hml, hown, hts⟩ (c_X6_isFigure l dC dI cyI cyJ cyB cyS cyD h aAl aSv aAs aF aG aK aTx aRd H.size sN sTh sS sTl v5 sAl sSv sAs sF sG sK sTx sRd ho6) (cwV 0 hts gX6_readsNumber_X6_isFigure rfl rfl rfl (by decide +kernel) ⟨Nat.le_of_ble_eq_true rfl, Nat.le_of_ble_eq_true rfl⟩) ⟨cPre_blind, va_recv hK hP (ci := 6) (q0 := 0) rfl rfl, x_pre hN hP hD hK [0, 1, 2, 3, 4, 5, 6, 7, 8] rfl rfl⟩ rfl rfl hl.1 rfl (lv_room (Nat.le_of_ble_eq_true rfl)) dX6_readsNumber_16 ⟨Nat.le_of_ble_eq_true rfl, Nat.le_of_ble_eq_true rfl⟩) hP hD hS hA [0, 1, 2, 3, 4, 5, 6, 7, 8] [] [0, 1, 2, 3, 4, 5, 6, 7, 8] rfl rfl rfl (by decide) rfl rfl (fun H locs hP hD hS => ?_)
      refine lv_if_eq (tgt := 65) hx hb dX6_readsNumber_19 (by decide) (fun c7 => ?_) (fun c7 => ?_)
      · have hF := ite_t hF c7
        exact kxn2 _ _ _ _ hF hP hD hS (lv_sub hl [0, 1, 2, 3, 4] rfl)
      · have hF := ite_f hF c7
        refine lv_aload_n hx hb dX6_readsNumber_22 rfl (lv_at hl 0 rfl) ?_
        refine va_get (D := (dC, dI)) (ci := 6) (v := .int v5) (C := RX6) (T := TX6) (N := 13) hx hb hts iX6_readsNumber_X6 hown hK hP 0 rfl rfl 11 (by decide) (hts _ kX6_readsNumber_1) (fun _ h9 => h9) rfl dX6_readsNumber_23 ?_
        refine lv_iload_n hx hb dX6_readsNumber_26 rfl (lv_at hl 3 rfl) ?_
        refine lv_iconst (v := 4) hx hb dX6_readsNumber_27 (by decide) ?_
        refine lv_iadd hx hb dX6_readsNumber_28 ?_
        refine lv_icmp_ge (tgt := 65) hx hb dX6_readsNumber_29 (by decide) (fun c8 => ?_) (fun c8 => ?_)
        · have hF := ite_t hF c8
          exact kxn2 _ _ _ _ hF hP hD hS (lv_sub hl [0, 1, 2, 3, 4] rfl)
        · have hF := ite_f hF c8
          refine lv_bipush (v := 10) hx hb dX6_readsNumber_32 (by decide) ?_
          refine lv_iload hx hb dX6_readsNumber_34 (lv_at hl 4 rfl) ?_
          refine lv_imul hx hb dX6_readsNumber_36 ?_
          refine lv_aload_n hx hb dX6_readsNumber_37 rfl (lv_at hl 0 rfl) ?_
          refine va_get (D := (dC, dI)) (ci := 6) (v := .ref aTx) (C := RX6) (T := TX6) (N := 13) hx hb hts iX6_readsNumber_X6 hown hK hP 0 rfl rfl 9 (by decide) (hts _ kX6_readsNumber_2) (fun _ h9 => h9) rfl dX6_readsNumber_38 ?_
          refine lv_aload_n hx hb dX6_readsNumber_41 rfl (lv_at hl 0 rfl) ?_
          refine va_get (D := (dC, dI)) (ci := 6) (v := .int v5) (C := RX6) (T := TX6) (N := 13) hx hb hts iX6_readsNumber_X6 hown hK hP 0 rfl rfl 11 (by decide) (hts _ kX6_readsNumber_1) (fun _ h9 => h9) rfl dX6_readsNumber_42 ?_
          obtain ⟨g9, hF⟩ := ck_e hF
          refine x_iald hx hb hK hP 7 0 rfl rfl rfl g9 dX6_readsNumber_45 ?_
          refine lv_iadd hx hb dX6_readsNumber_46 ?_
          refine lv_bipush (v := 48) hx hb dX6_readsNumber_47 (by decide) ?_
          refine lv_isub hx hb dX6_readsNumber_49 ?_
          obtain ⟨v10, hv10, hF⟩ := lt_e hF
          refine x_topi hv10 ?_
          refine lv_istore (lv' := [(4, .int v10), (0, .ref h), (1, .int w1), (2, .int o1.1), (3, .int o1.2)]) hx hb dX6_readsNumber_50 hl (by decide) rfl (fun ls hl => ?_)
          refine lv_aload_n hx hb dX6_readsNumber_52 rfl (lv_at hl 1 rfl) ?_
          refine lv_dup hx hb dX6_readsNumber_53 rfl ?_
          refine va_get (D := (dC, dI)) (ci := 6) (v := .int v5) (C := RX6) (T := TX6) (N := 13) hx hb hts iX6_readsNumber_X6 hown hK hP 0 rfl rfl 11 (by decide) (hts _ kX6_readsNumber_1) (fun _ h9 => h9) rfl dX6_readsNumber_54 ?_
          refine lv_iconst (v := 1) hx hb dX6_readsNumber_57 (by decide) ?_
          refine lv_iadd hx hb dX6_readsNumber_58 ?_
          obtain ⟨v11, hv11, hF⟩ := lt_e hF
          refine x_topi hv11 ?_
          refine x_put (D := (dC, dI)) (ci := 6) (v := .int v11) (ty := .int) (C := RX6) (T := TX6) (N := 13) (ws' := [(h, .inr (6, [.ref aAl, .ref aSv, .ref aAs, .int sN, .int sTh, .ref aF, .ref aG, .ref aK, .long sS, .ref aTx, .int sTl, .int v11, .ref aRd])), (aAl, .inl (cyJ, 76, .inr (.inl sAl))), (aSv, .inl (cyJ, 304, .inr (.inl sSv))), (aAs, .inl (cyJ, 76, .inr (.inl sAs))), (aF, .inl (cyJ, 3, .inr (.inl sF))), (aG, .inl (cyJ, 3, .inr (.inl sG))), (aK, .inl (cyJ, 3, .inr (.inl sK))), (aTx, .inl (cyI, 120, .inl sTx)), (aRd, .inl (cyI, 63, .inl sRd))]) hx hb hts iX6_readsNumber_X6 tyX6 tyX6_ok nmX6 hown hK hP hD hS 0 rfl rfl 11 (by decide) (hts _ kX6_readsNumber_1) (fun _ h9 => h9) rfl (by decide +kernel) rfl rfl (Nat.le_of_ble_eq_true rfl) rfl dX6_readsNumber_59 (fun H locs hP hD hS => ?_)
          refine lv_goto (tgt := 15) hx hb dX6_readsNumber_62 (by decide) ?_
          exact ihn2 _ _ _ _ _ _ hF hP hD hS (lv_sub hl [1, 2, 3, 4, 0] rfl) kxn2
  refine Ln2 _ _ _ _ _ _ _ hF hP hD hS (lv_sub hl [3, 4, 2, 1, 0] rfl) (fun x12 H locs ls hF hP hD hS hl => ?_)
  refine lv_aload_n hx hb dX6_readsNumber_65 rfl (lv_at hl 0 rfl) ?_
  refine va_get (D := (dC, dI)) (ci := 6) (v := .ref aRd) (C := RX6) (T := TX6) (N := 13) hx hb hts iX6_readsNumber_X6 hown hK hP 0 rfl rfl 12 (by decide) (hts _ kX6_readsNumber_3) (fun _ h9 => h9) rfl dX6_readsNumber_66 ?_
  refine lv_iload_n hx hb dX6_readsNumber_69 rfl (lv_at hl 1 rfl) ?_
  refine lv_iload_n hx hb dX6_readsNumber_70 rfl (lv_at hl 2 rfl) ?_
  obtain ⟨K15, hK15, hF⟩ := rg_e hF
  have Jx14 : ∀ (x14 : Int32) (H : Heap) (locs : List Loc) (ls : Array Slot), K15 x14 = some out → va_P (dC, dI) vwCl [(h, .inr (6, [.ref aAl, .ref aSv, .ref aAs, .int sN, .int sTh, .ref aF, .ref aG, .ref aK, .long sS, .ref aTx, .int sTl, .int x12.2, .ref aRd])), (aAl, .inl (cyJ, 76, .inr (.inl sAl))), (aSv, .inl (cyJ, 304, .inr (.inl sSv))), (aAs, .inl (cyJ, 76, .inr (.inl sAs))), (aF, .inl (cyJ, 3, .inr (.inl sF))), (aG, .inl (cyJ, 3, .inr (.inl sG))), (aK, .inl (cyJ, 3, .inr (.inl sK))), (aTx, .inl (cyI, 120, .inl sTx)), (aRd, .inl (cyI, 63, .inl sRd))] H → va_D A [(h, .inr (6, [.ref aAl, .ref aSv, .ref aAs, .int sN, .int sTh, .ref aF, .ref aG, .ref aK, .long sS, .ref aTx, .int sTl, .int x12.2, .ref aRd])), (aAl, .inl (cyJ, 76, .inr (.inl sAl))), (aSv, .inl (cyJ, 304, .inr (.inl sSv))), (aAs, .inl (cyJ, 76, .inr (.inl sAs))), (aF, .inl (cyJ, 3, .inr (.inl sF))), (aG, .inl (cyJ, 3, .inr (.inl sG))), (aK, .inl (cyJ, 3, .inr (.inl sK))), (aTx, .inl (cyI, 120, .inl sTx)), (aRd, .inl (cyI, 63, .inl sRd))] → va_S A s.heap H locs → lv_has ls 5 [(0, .ref h), (1, .int w1), (3, .int o1.2)] → W p l e (headSpec wsX6_readsNumber ({ frames := 2, cells := 0, slots := 0, locals := 45 } : Room)).room s m ([.ref h, .int w1] : List Value).toArray below meth c H locs 0 0 (MQ below (va_Qi (fun (r' : Int32) (_ : Unit) => r' = out.1) (cPost (dC, dI) [(cyI, .int), (cyJ, .long), (cyB, .byte), (cyS, .object "SelfTuner$State"), (cyD, .double)] [(h, .inr (6, [.ref aAl, .ref aSv, .ref aAs, .int sN, .int sTh, .ref aF, .ref aG, .ref aK, .long sS, .ref aTx, .int sTl, .int out.2.1, .ref aRd])), (aAl, .inl (cyJ, 76, .inr (.inl sAl))), (aSv, .inl (cyJ, 304, .inr (.inl sSv))), (aAs, .inl (cyJ, 76, .inr (.inl sAs))), (aF, .inl (cyJ, 3, .inr (.inl sF))), (aG, .inl (cyJ, 3, .inr (.inl sG))), (aK, .inl (cyJ, 3, .inr (.inl sK))), (aTx, .inl (cyI, 120, .inl sTx)), (aRd, .inl (cyI, 63, .inl out.2.2))] A) A) ([.ref h, .int w1] : List Value).toArray s 0 0 A) (F0 m 82 ls [.int x14, .int w1, .ref aRd]) := by
    intro x14 H locs ls hF hP hD hS hl
    rw [hK15] at hF
    obtain ⟨g16, hF⟩ := ck_e hF
    obtain ⟨v17, hv17, hF⟩ := lt_e hF
    refine x_iast (ws' := [(h, .inr (6, [.ref aAl, .ref aSv, .ref aAs, .int sN, .int sTh, .ref aF, .ref aG, .ref aK, .long sS, .ref aTx, .int sTl, .int x12.2, .ref aRd])), (aAl, .inl (cyJ, 76, .inr (.inl sAl))), (aSv, .inl (cyJ, 304, .inr (.inl sSv))), (aAs, .inl (cyJ, 76, .inr (.inl sAs))), (aF, .inl (cyJ, 3, .inr (.inl sF))), (aG, .inl (cyJ, 3, .inr (.inl sG))), (aK, .inl (cyJ, 3, .inr (.inl sK))), (aTx, .inl (cyI, 120, .inl sTx)), (aRd, .inl (cyI, 63, .inl v17))]) hx hb hK hP hD hS 8 0 rfl rfl rfl g16 hv17 rfl dX6_readsNumber_82 (fun H locs hP hD hS => ?_)
    refine lv_aload_n hx hb dX6_readsNumber_83 rfl (lv_at hl 0 rfl) ?_
    refine va_get (D := (dC, dI)) (ci := 6) (v := .int x12.2) (C := RX6) (T := TX6) (N := 13) hx hb hts iX6_readsNumber_X6 hown hK hP 0 rfl rfl 11 (by decide) (hts _ kX6_readsNumber_1) (fun _ h9 => h9) rfl dX6_readsNumber_84 ?_
    refine lv_iload_n hx hb dX6_readsNumber_87 rfl (lv_at hl 2 rfl) ?_
    refine lv_icmp_le (tgt := 123) hx hb dX6_readsNumber_88 (by decide) (fun c18 => ?_) (fun c18 => ?_)
    · have hF := ite_t hF c18
      refine lv_iconst (v := 0) hx hb dX6_readsNumber_123 (by decide) ?_
      obtain rfl := some_e hF
      exact W.zret (v := 0) hx hb hr rfl (fun t ht hW => ⟨⟨0, (), rfl, rfl, ⟨by rw [ht]; exact hP, va_K.moved hW.alike hK, hD⟩⟩, hS.F ht⟩) hS.2.2 dX6_readsNumber_124
    · have hF := ite_f hF c18
      refine lv_aload_n hx hb dX6_readsNumber_91 rfl (lv_at hl 0 rfl) ?_
      obtain ⟨o19, ho19, hF⟩ := ob_e hF
      refine x_calli (wr := []) (ws' := [(h, .inr (6, [.ref aAl, .ref aSv, .ref aAs, .int sN, .int sTh, .ref aF, .ref aG, .ref aK, .long sS, .ref aTx, .int sTl, .int x12.2, .ref aRd])), (aAl, .inl (cyJ, 76, .inr (.inl sAl))), (aSv, .inl (cyJ, 304, .inr (.inl sSv))), (aAs, .inl (cyJ, 76, .inr (.inl sAs))), (aF, .inl (cyJ, 3, .inr (.inl sF))), (aG, .inl (cyJ, 3, .inr (.inl sG))), (aK, .inl (cyJ, 3, .inr (.inl sK))), (aTx, .inl (cyI, 120, .inl sTx)), (aRd, .inl (cyI, 63, .inl v17))]) (va_runV (As := []) (rest := []) ⟨hx, hb, hml, hown, hts⟩ (c_X6_isFigure l dC dI cyI cyJ cyB cyS cyD h aAl aSv aAs aF aG aK aTx aRd H.size sN sTh sS sTl x12.2 sAl sSv sAs sF sG sK sTx v17 ho19) (cwV 0 hts gX6_readsNumber_X6_isFigure rfl rfl rfl (by decide +kernel) ⟨Nat.le_of_ble_eq_true rfl, Nat.le_of_ble_eq_true rfl⟩) ⟨cPre_blind, va_recv hK hP (ci := 6) (q0 := 0) rfl rfl, x_pre hN hP hD hK [0, 1, 2, 3, 4, 5, 6, 7, 8] rfl rfl⟩ rfl rfl hl.1 rfl (lv_room (Nat.le_of_ble_eq_true rfl)) dX6_readsNumber_92 ⟨Nat.le_of_ble_eq_true rfl, Nat.le_of_ble_eq_true rfl⟩) hP hD hS hA [0, 1, 2, 3, 4, 5, 6, 7, 8] [] [0, 1, 2, 3, 4, 5, 6, 7, 8] rfl rfl rfl (by decide) rfl rfl (fun H locs hP hD hS => ?_)
      refine lv_if_ne (tgt := 123) hx hb dX6_readsNumber_95 (by decide) (fun c20 => ?_) (fun c20 => ?_)
      · have hF := ite_f hF c20
        refine lv_iconst (v := 0) hx hb dX6_readsNumber_123 (by decide) ?_
        obtain rfl := some_e hF
        exact W.zret (v := 0) hx hb hr rfl (fun t ht hW => ⟨⟨0, (), rfl, rfl, ⟨by rw [ht]; exact hP, va_K.moved hW.alike hK, hD⟩⟩, hS.F ht⟩) hS.2.2 dX6_readsNumber_124
      · have hF := ite_t hF c20
        refine lv_aload_n hx hb dX6_readsNumber_98 rfl (lv_at hl 0 rfl) ?_
        refine lv_iload_n hx hb dX6_readsNumber_99 rfl (lv_at hl 1 rfl) ?_
        refine lv_iconst (v := 3) hx hb dX6_readsNumber_100 (by decide) ?_
        refine lv_irem hx hb dX6_readsNumber_101 (by decide) ?_
        refine lv_iconst (v := 2) hx hb dX6_readsNumber_102 (by decide) ?_
        obtain ⟨K23, hK23, hF⟩ := rg_e hF
        have Jx22 : ∀ (x22 : Int32) (H : Heap) (locs : List Loc) (ls : Array Slot), K23 x22 = some out → va_P (dC, dI) vwCl [(h, .inr (6, [.ref aAl, .ref aSv, .ref aAs, .int sN, .int sTh, .ref aF, .ref aG, .ref aK, .long sS, .ref aTx, .int sTl, .int x12.2, .ref aRd])), (aAl, .inl (cyJ, 76, .inr (.inl sAl))), (aSv, .inl (cyJ, 304, .inr (.inl sSv))), (aAs, .inl (cyJ, 76, .inr (.inl sAs))), (aF, .inl (cyJ, 3, .inr (.inl sF))), (aG, .inl (cyJ, 3, .inr (.inl sG))), (aK, .inl (cyJ, 3, .inr (.inl sK))), (aTx, .inl (cyI, 120, .inl sTx)), (aRd, .inl (cyI, 63, .inl v17))] H → va_D A [(h, .inr (6, [.ref aAl, .ref aSv, .ref aAs, .int sN, .int sTh, .ref aF, .ref aG, .ref aK, .long sS, .ref aTx, .int sTl, .int x12.2, .ref aRd])), (aAl, .inl (cyJ, 76, .inr (.inl sAl))), (aSv, .inl (cyJ, 304, .inr (.inl sSv))), (aAs, .inl (cyJ, 76, .inr (.inl sAs))), (aF, .inl (cyJ, 3, .inr (.inl sF))), (aG, .inl (cyJ, 3, .inr (.inl sG))), (aK, .inl (cyJ, 3, .inr (.inl sK))), (aTx, .inl (cyI, 120, .inl sTx)), (aRd, .inl (cyI, 63, .inl v17))] → va_S A s.heap H locs → lv_has ls 5 [] → W p l e (headSpec wsX6_readsNumber ({ frames := 2, cells := 0, slots := 0, locals := 45 } : Room)).room s m ([.ref h, .int w1] : List Value).toArray below meth c H locs 0 0 (MQ below (va_Qi (fun (r' : Int32) (_ : Unit) => r' = out.1) (cPost (dC, dI) [(cyI, .int), (cyJ, .long), (cyB, .byte), (cyS, .object "SelfTuner$State"), (cyD, .double)] [(h, .inr (6, [.ref aAl, .ref aSv, .ref aAs, .int sN, .int sTh, .ref aF, .ref aG, .ref aK, .long sS, .ref aTx, .int sTl, .int out.2.1, .ref aRd])), (aAl, .inl (cyJ, 76, .inr (.inl sAl))), (aSv, .inl (cyJ, 304, .inr (.inl sSv))), (aAs, .inl (cyJ, 76, .inr (.inl sAs))), (aF, .inl (cyJ, 3, .inr (.inl sF))), (aG, .inl (cyJ, 3, .inr (.inl sG))), (aK, .inl (cyJ, 3, .inr (.inl sK))), (aTx, .inl (cyI, 120, .inl sTx)), (aRd, .inl (cyI, 63, .inl out.2.2))] A) A) ([.ref h, .int w1] : List Value).toArray s 0 0 A) (F0 m 113 ls [.int x22, .ref h]) := by
          intro x22 H locs ls hF hP hD hS hl
          rw [hK23] at hF
          obtain ⟨o24, ho24, hF⟩ := ob_e hF
          refine x_calli (wr := []) (ws' := [(h, .inr (6, [.ref aAl, .ref aSv, .ref aAs, .int sN, .int sTh, .ref aF, .ref aG, .ref aK, .long sS, .ref aTx, .int sTl, .int o24.2, .ref aRd])), (aAl, .inl (cyJ, 76, .inr (.inl sAl))), (aSv, .inl (cyJ, 304, .inr (.inl sSv))), (aAs, .inl (cyJ, 76, .inr (.inl sAs))), (aF, .inl (cyJ, 3, .inr (.inl sF))), (aG, .inl (cyJ, 3, .inr (.inl sG))), (aK, .inl (cyJ, 3, .inr (.inl sK))), (aTx, .inl (cyI, 120, .inl sTx)), (aRd, .inl (cyI, 63, .inl v17))]) (va_runV (As := [.int x22]) (rest := []) ⟨hx, hb, hml, hown, hts⟩ (c_X6_passes l dC dI cyI cyJ cyB cyS cyD h aAl aSv aAs aF aG aK aTx aRd H.size sN sTh sS sTl x12.2 sAl sSv sAs sF sG sK sTx v17 x22 ho24) (cwV 1 hts gX6_readsNumber_X6_passes rfl rfl rfl (by decide +kernel) ⟨Nat.le_of_ble_eq_true rfl, Nat.le_of_ble_eq_true rfl⟩) ⟨cPre_blind, va_recv hK hP (ci := 6) (q0 := 0) rfl rfl, x_pre hN hP hD hK [0, 1, 2, 3, 4, 5, 6, 7, 8] rfl rfl⟩ rfl rfl hl.1 rfl (lv_room (Nat.le_of_ble_eq_true rfl)) dX6_readsNumber_113 ⟨Nat.le_of_ble_eq_true rfl, Nat.le_of_ble_eq_true rfl⟩) hP hD hS hA [0, 1, 2, 3, 4, 5, 6, 7, 8] [] [0, 1, 2, 3, 4, 5, 6, 7, 8] rfl rfl rfl (by decide) rfl rfl (fun H locs hP hD hS => ?_)
          refine lv_if_eq (tgt := 123) hx hb dX6_readsNumber_116 (by decide) (fun c25 => ?_) (fun c25 => ?_)
          · have hF := ite_t hF c25
            refine lv_iconst (v := 0) hx hb dX6_readsNumber_123 (by decide) ?_
            obtain rfl := some_e hF
            exact W.zret (v := 0) hx hb hr rfl (fun t ht hW => ⟨⟨0, (), rfl, rfl, ⟨by rw [ht]; exact hP, va_K.moved hW.alike hK, hD⟩⟩, hS.F ht⟩) hS.2.2 dX6_readsNumber_124
          · have hF := ite_f hF c25
            refine lv_iconst (v := 1) hx hb dX6_readsNumber_119 (by decide) ?_
            refine lv_goto (tgt := 124) hx hb dX6_readsNumber_120 (by decide) ?_
            obtain rfl := some_e hF
            exact W.zret (v := 1) hx hb hr rfl (fun t ht hW => ⟨⟨1, (), rfl, rfl, ⟨by rw [ht]; exact hP, va_K.moved hW.alike hK, hD⟩⟩, hS.F ht⟩) hS.2.2 dX6_readsNumber_124
        refine lv_icmp_ne (tgt := 111) hx hb dX6_readsNumber_103 (by decide) (fun c21 => ?_) (fun c21 => ?_)
        · have hF := ite_f hF c21
          refine lv_bipush (v := 44) hx hb dX6_readsNumber_111 (by decide) ?_
          exact Jx22 _ _ _ _ hF hP hD hS (lv_sub hl [] rfl)
        · have hF := ite_t hF c21
          refine lv_bipush (v := 59) hx hb dX6_readsNumber_106 (by decide) ?_
          refine lv_goto (tgt := 113) hx hb dX6_readsNumber_108 (by decide) ?_
          exact Jx22 _ _ _ _ hF hP hD hS (lv_sub hl [] rfl)
  refine lv_if_eq (tgt := 80) hx hb dX6_readsNumber_71 (by decide) (fun c13 => ?_) (fun c13 => ?_)
  · have hF := ite_t hF c13
    refine lv_iload hx hb dX6_readsNumber_80 (lv_at hl 4 rfl) ?_
    exact Jx14 _ _ _ _ hF hP hD hS (lv_sub hl [0, 1, 3] rfl)
  · have hF := ite_f hF c13
    refine lv_iload hx hb dX6_readsNumber_74 (lv_at hl 4 rfl) ?_
    refine lv_ineg hx hb dX6_readsNumber_76 ?_
    refine lv_goto (tgt := 82) hx hb dX6_readsNumber_77 (by decide) ?_
    exact Jx14 _ _ _ _ hF hP hD hS (lv_sub hl [0, 1, 3] rfl)
