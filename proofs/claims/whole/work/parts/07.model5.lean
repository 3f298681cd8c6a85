def F_X6_replay_12 (sTl : Int32) (sTx : Nat → Int32) (sN : Int32) (sS : Int64) (sAl : Nat → Int64) (sSv : Nat → Int64) (sF : Nat → Int64) (sG : Nat → Int64) (sK : Nat → Int64) : Nat → ((Int32 × Int32 × (Nat → Int32)) → Option (Int32 × Int32 × Int32 × Int64 × Int32 × (Nat → Int64) × (Nat → Int64) × (Nat → Int64) × (Nat → Int64) × (Nat → Int64) × (Nat → Int32))) → Int32 → Int32 → (Nat → Int32) → Option (Int32 × Int32 × Int32 × Int64 × Int32 × (Nat → Int64) × (Nat → Int64) × (Nat → Int64) × (Nat → Int64) × (Nat → Int64) × (Nat → Int32))
  | 0, _, _, _, _ => none
  | n1 + 1, K2, v3, v4, v5 => if (v4 : Int32) < sTl then (ob (F_X6_readsNumber sTl v4 sTx v5 v3) (fun o7 => if (o7.1 : Int32) = 0 then (some ((-10) - o7.2.1, sN, 0, sS, o7.2.1, sAl, sSv, sF, sG, sK, o7.2.2)) else (lt_ (α := Int32) (v3 + 1) (fun v9 => F_X6_replay_12 sTl sTx sN sS sAl sSv sF sG sK n1 K2 v9 o7.2.1 o7.2.2)))) else (if ((v3 - v3 / 3 * 3) : Int32) = 0 then (K2 (v3, v4, v5)) else (ob (F_X6_readsNumber sTl v4 sTx v5 v3) (fun o11 => if (o11.1 : Int32) = 0 then (some ((-10) - o11.2.1, sN, 0, sS, o11.2.1, sAl, sSv, sF, sG, sK, o11.2.2)) else (lt_ (α := Int32) (v3 + 1) (fun v13 => F_X6_replay_12 sTl sTx sN sS sAl sSv sF sG sK n1 K2 v13 o11.2.1 o11.2.2)))))
def F_X6_replay_53 (x14 : Int32 × Int32 × (Nat → Int32)) (sN : Int32) (sS : Int64) (sAl : Nat → Int64) (sSv : Nat → Int64) (sF : Nat → Int64) (sG : Nat → Int64) (sK : Nat → Int64) : Nat → ((Unit) → Option (Int32 × Int32 × Int32 × Int64 × Int32 × (Nat → Int64) × (Nat → Int64) × (Nat → Int64) × (Nat → Int64) × (Nat → Int64) × (Nat → Int32))) → Int32 → Option (Int32 × Int32 × Int32 × Int64 × Int32 × (Nat → Int64) × (Nat → Int64) × (Nat → Int64) × (Nat → Int64) × (Nat → Int64) × (Nat → Int32))
  | 0, _, _ => none
  | n15 + 1, K16, v17 => if (x14.1 : Int32) ≤ v17 then (K16 ()) else (ck (inb v17 63) (rg (α := Int64) (fun K22 => if ((v17 - v17 / 3 * 3) : Int32) = 2 then (K22 (-4000)) else (K22 (-2000))) (fun x21 => rg (α := Int64) (fun K25 => if ((v17 - v17 / 3 * 3) : Int32) = 2 then (K25 4000) else (K25 2000)) (fun x24 => ob (F_X6_in ((x14.2.2 v17.toNatClampNeg).toInt64) x21 x24) (fun o26 => if (o26 : Int32) = 0 then (some ((-1000) - (v17 / 3), sN, 0, sS, x14.2.1, sAl, sSv, sF, sG, sK, x14.2.2)) else (lt_ (α := Int32) (v17 + 1) (fun v28 => F_X6_replay_53 x14 sN sS sAl sSv sF sG sK n15 K16 v28)))))))
def F_X6_replay_123 (x14 : Int32 × Int32 × (Nat → Int32)) : Nat → ((Int64 × (Nat → Int64) × (Nat → Int64) × (Nat → Int64) × (Nat → Int64)) → Option (Int32 × Int32 × Int32 × Int64 × Int32 × (Nat → Int64) × (Nat → Int64) × (Nat → Int64) × (Nat → Int64) × (Nat → Int64) × (Nat → Int32))) → Int32 → Int64 → (Nat → Int64) → (Nat → Int64) → (Nat → Int64) → (Nat → Int64) → Option (Int32 × Int32 × Int32 × Int64 × Int32 × (Nat → Int64) × (Nat → Int64) × (Nat → Int64) × (Nat → Int64) × (Nat → Int64) × (Nat → Int32))
  | 0, _, _, _, _, _, _, _ => none
  | n31 + 1, K32, v33, v34, v35, v36, v37, v38 => if (x14.1 : Int32) ≤ v33 then (K32 (v34, v35, v36, v37, v38)) else (ck (inb v33 63) (ck (inb (v33 + 1) 63) (ck (inb (v33 + 2) 63) (ob (F_X6_takes v34 v35 v36 v37 v38 ((x14.2.2 v33.toNatClampNeg).toInt64) ((x14.2.2 ((v33 + 1).toNatClampNeg)).toInt64) ((x14.2.2 ((v33 + 2).toNatClampNeg)).toInt64)) (fun o43 => lt_ (α := Int32) (v33 + 3) (fun v44 => F_X6_replay_123 x14 n31 K32 v44 o43.2.1 o43.2.2.1 o43.2.2.2.1 o43.2.2.2.2.1 o43.2.2.2.2.2))))))
def F_X6_replay (sN : Int32) (sS : Int64) (sTl : Int32) (sAl : Nat → Int64) (sSv : Nat → Int64) (sF : Nat → Int64) (sG : Nat → Int64) (sK : Nat → Int64) (sTx : Nat → Int32) (sRd : Nat → Int32) : Option (Int32 × Int32 × Int32 × Int64 × Int32 × (Nat → Int64) × (Nat → Int64) × (Nat → Int64) × (Nat → Int64) × (Nat → Int64) × (Nat → Int32)) := F_X6_replay_12 sTl sTx sN sS sAl sSv sF sG sK 1000 (fun x14 => F_X6_replay_53 x14 sN sS sAl sSv sF sG sK 1000 (fun x29 => ob (F_X6_save sN sAl sSv) (fun o30 => F_X6_replay_123 x14 1000 (fun x45 => some (x14.1 / 3, o30.1, 0, x45.1, x14.2.1, x45.2.1, o30.2, x45.2.2.1, x45.2.2.2.1, x45.2.2.2.2, x14.2.2)) 0 sS sAl sF sG sK)) 0) 0 0 sRd
theorem kX6_replay_1 : (Cond.fieldLink RX6 54 "SelfTunerModel" "thrown" "I") ∈ wsX6_replay := List.mem_of_getElem? (i := 1) rfl
theorem kX6_replay_2 : (Cond.fieldLink RX6 206 "SelfTunerModel" "place" "I") ∈ wsX6_replay := List.mem_of_getElem? (i := 2) rfl
theorem kX6_replay_3 : (Cond.fieldLink RX6 203 "SelfTunerModel" "textLong" "I") ∈ wsX6_replay := List.mem_of_getElem? (i := 3) rfl
theorem kX6_replay_4 : (Cond.fieldLink RX6 32 "SelfTunerModel" "read" "[I") ∈ wsX6_replay := List.mem_of_getElem? (i := 4) rfl
theorem kX6_replay_5 : (Cond.constantLong RX6 155 (-4000)) ∈ wsX6_replay := List.mem_of_getElem? (i := 5) rfl
theorem kX6_replay_6 : (Cond.constantLong RX6 61 (-2000)) ∈ wsX6_replay := List.mem_of_getElem? (i := 6) rfl
theorem kX6_replay_7 : (Cond.constantLong RX6 157 (4000)) ∈ wsX6_replay := List.mem_of_getElem? (i := 7) rfl
theorem kX6_replay_8 : (Cond.constantLong RX6 63 (2000)) ∈ wsX6_replay := List.mem_of_getElem? (i := 8) rfl
theorem iX6_replay_X6 : ∀ w ∈ wsX60, w ∈ wsX6_replay := fun w h => List.mem_cons_of_mem _ (List.mem_append_right _ h)
set_option maxHeartbeats 4000000 in
set_option maxRecDepth 100000 in
theorem c_X6_replay (l : Launch) (dC : Nat → ClassId) (dI : Nat → Nat → Nat) (cyI cyJ cyB cyS cyD : ClassId) (h : Nat) (aAl : Nat) (aSv : Nat) (aAs : Nat) (aF : Nat) (aG : Nat) (aK : Nat) (aTx : Nat) (aRd : Nat) (sz : Nat) (sN : Int32) (sTh : Int32) (sS : Int64) (sTl : Int32) (sPl : Int32) (sAl : Nat → Int64) (sSv : Nat → Int64) (sAs : Nat → Int64) (sF : Nat → Int64) (sG : Nat → Int64) (sK : Nat → Int64) (sTx : Nat → Int32) (sRd : Nat → Int32) {out : Int32 × Int32 × Int32 × Int64 × Int32 × (Nat → Int64) × (Nat → Int64) × (Nat → Int64) × (Nat → Int64) × (Nat → Int64) × (Nat → Int32)} (hF : F_X6_replay sN sS sTl sAl sSv sF sG sK sTx sRd = some out) : Mi l yX6_replay wsX6_replay ({ frames := 3, cells := 0, slots := 0, locals := 84 } : Room) (dC, dI) [(cyI, .int), (cyJ, .long), (cyB, .byte), (cyS, .object "SelfTuner$State"), (cyD, .double)] sz [.ref h] [(h, .inr (6, [.ref aAl, .ref aSv, .ref aAs, .int sN, .int sTh, .ref aF, .ref aG, .ref aK, .long sS, .ref aTx, .int sTl, .int sPl, .ref aRd])), (aAl, .inl (cyJ, 76, .inr (.inl sAl))), (aSv, .inl (cyJ, 304, .inr (.inl sSv))), (aAs, .inl (cyJ, 76, .inr (.inl sAs))), (aF, .inl (cyJ, 3, .inr (.inl sF))), (aG, .inl (cyJ, 3, .inr (.inl sG))), (aK, .inl (cyJ, 3, .inr (.inl sK))), (aTx, .inl (cyI, 120, .inl sTx)), (aRd, .inl (cyI, 63, .inl sRd))] out.1 [(h, .inr (6, [.ref aAl, .ref aSv, .ref aAs, .int out.2.1, .int out.2.2.1, .ref aF, .ref aG, .ref aK, .long out.2.2.2.1, .ref aTx, .int sTl, .int out.2.2.2.2.1, .ref aRd])), (aAl, .inl (cyJ, 76, .inr (.inl out.2.2.2.2.2.1))), (aSv, .inl (cyJ, 304, .inr (.inl out.2.2.2.2.2.2.1))), (aAs, .inl (cyJ, 76, .inr (.inl sAs))), (aF, .inl (cyJ, 3, .inr (.inl out.2.2.2.2.2.2.2.1))), (aG, .inl (cyJ, 3, .inr (.inl out.2.2.2.2.2.2.2.2.1))), (aK, .inl (cyJ, 3, .inr (.inl out.2.2.2.2.2.2.2.2.2.1))), (aTx, .inl (cyI, 120, .inl sTx)), (aRd, .inl (cyI, 63, .inl out.2.2.2.2.2.2.2.2.2.2))] := by
  refine Met.ofW (cc := cX6_replay) (maxL := 5) (ret := (some .int)) (by decide) rfl ?_
  intro p e s m args below meth c s₁ B hml hv
  obtain ⟨rfl, hN, hsz, hP, hK, hD0⟩ := hv
  have hx := B.exec
  have hb := B.bytes
  have hr := B.returns
  have hts := atoms_spec (ws := wsX6_replay) B.pre
  have hown : s.vm.findClass RX6 = some m.cls := findClass_of_methodNamed B.named
  have hlocks := B.notSynchronized
  subst hsz
  have hD := hD0.self (sz := s.heap.size)
  generalize hAe : va_A [(h, .inr (6, [.ref aAl, .ref aSv, .ref aAs, .int sN, .int sTh, .ref aF, .ref aG, .ref aK, .long sS, .ref aTx, .int sTl, .int sPl, .ref aRd])), (aAl, .inl (cyJ, 76, .inr (.inl sAl))), (aSv, .inl (cyJ, 304, .inr (.inl sSv))), (aAs, .inl (cyJ, 76, .inr (.inl sAs))), (aF, .inl (cyJ, 3, .inr (.inl sF))), (aG, .inl (cyJ, 3, .inr (.inl sG))), (aK, .inl (cyJ, 3, .inr (.inl sK))), (aTx, .inl (cyI, 120, .inl sTx)), (aRd, .inl (cyI, 63, .inl sRd))] s.heap.size = A at hD ⊢
  have hA : ∀ q : Nat, s.heap.size ≤ q → A q := fun q h => by rw [← hAe]; exact Or.inr h
  have hS : va_S A s.heap s.heap [] := va_S.rf
  have hP : va_P (dC, dI) vwCl [(h, .inr (6, [.ref aAl, .ref aSv, .ref aAs, .int sN, .int sTh, .ref aF, .ref aG, .ref aK, .long sS, .ref aTx, .int sTl, .int sPl, .ref aRd])), (aAl, .inl (cyJ, 76, .inr (.inl sAl))), (aSv, .inl (cyJ, 304, .inr (.inl sSv))), (aAs, .inl (cyJ, 76, .inr (.inl sAs))), (aF, .inl (cyJ, 3, .inr (.inl sF))), (aG, .inl (cyJ, 3, .inr (.inl sG))), (aK, .inl (cyJ, 3, .inr (.inl sK))), (aTx, .inl (cyI, 120, .inl sTx)), (aRd, .inl (cyI, 63, .inl sRd))] s.heap := hP
  have hl := lv_entry ([.ref h]) (n := 5) (Nat.le_of_ble_eq_true rfl)
  rw [lg_entry_eq]
  generalize (lg_sl ([.ref h]) ++ List.replicate (5 - (lg_sl ([.ref h])).length) Slot.unset).toArray = ls at hl ⊢
  have hl : lv_has ls 5 [(0, .ref h)] := hl
  unfold F_X6_replay at hF
  refine lv_aload_n hx hb dX6_replay_0 rfl (lv_at hl 0 rfl) ?_
  refine lv_iconst (v := 0) hx hb dX6_replay_1 (by decide) ?_
  refine x_put (D := (dC, dI)) (ci := 6) (v := .int 0) (ty := .int) (C := RX6) (T := TX6) (N := 13) (ws' := [(h, .inr (6, [.ref aAl, .ref aSv, .ref aAs, .int sN, .int 0, .ref aF, .ref aG, .ref aK, .long sS, .ref aTx, .int sTl, .int sPl, .ref aRd])), (aAl, .inl (cyJ, 76, .inr (.inl sAl))), (aSv, .inl (cyJ, 304, .inr (.inl sSv))), (aAs, .inl (cyJ, 76, .inr (.inl sAs))), (aF, .inl (cyJ, 3, .inr (.inl sF))), (aG, .inl (cyJ, 3, .inr (.inl sG))), (aK, .inl (cyJ, 3, .inr (.inl sK))), (aTx, .inl (cyI, 120, .inl sTx)), (aRd, .inl (cyI, 63, .inl sRd))]) hx hb hts iX6_replay_X6 tyX6 tyX6_ok nmX6 hown hK hP hD hS 0 rfl rfl 4 (by decide) (hts _ kX6_replay_1) (fun _ h9 => h9) rfl (by decide +kernel) rfl rfl (Nat.le_of_ble_eq_true rfl) rfl dX6_replay_2 (fun H locs hP hD hS => ?_)
  refine lv_aload_n hx hb dX6_replay_5 rfl (lv_at hl 0 rfl) ?_
  refine lv_iconst (v := 0) hx hb dX6_replay_6 (by decide) ?_
  refine x_put (D := (dC, dI)) (ci := 6) (v := .int 0) (ty := .int) (C := RX6) (T := TX6) (N := 13) (ws' := [(h, .inr (6, [.ref aAl, .ref aSv, .ref aAs, .int sN, .int 0, .ref aF, .ref aG, .ref aK, .long sS, .ref aTx, .int sTl, .int 0, .ref aRd])), (aAl, .inl (cyJ, 76, .inr (.inl sAl))), (aSv, .inl (cyJ, 304, .inr (.inl sSv))), (aAs, .inl (cyJ, 76, .inr (.inl sAs))), (aF, .inl (cyJ, 3, .inr (.inl sF))), (aG, .inl (cyJ, 3, .inr (.inl sG))), (aK, .inl (cyJ, 3, .inr (.inl sK))), (aTx, .inl (cyI, 120, .inl sTx)), (aRd, .inl (cyI, 63, .inl sRd))]) hx hb hts iX6_replay_X6 tyX6 tyX6_ok nmX6 hown hK hP hD hS 0 rfl rfl 11 (by decide) (hts _ kX6_replay_2) (fun _ h9 => h9) rfl (by decide +kernel) rfl rfl (Nat.le_of_ble_eq_true rfl) rfl dX6_replay_7 (fun H locs hP hD hS => ?_)
  refine lv_iconst (v := 0) hx hb dX6_replay_10 (by decide) ?_
  refine lv_istore_n (lv' := [(1, .int 0), (0, .ref h)]) hx hb dX6_replay_11 rfl hl (by decide) rfl (fun ls hl => ?_)
  have Ln1 : ∀ (n1 : Nat) (K2 : (Int32 × Int32 × (Nat → Int32)) → Option (Int32 × Int32 × Int32 × Int64 × Int32 × (Nat → Int64) × (Nat → Int64) × (Nat → Int64) × (Nat → Int64) × (Nat → Int64) × (Nat → Int32))) (v3 : Int32) (v4 : Int32) (v5 : Nat → Int32) (H : Heap) (locs : List Loc) (ls : Array Slot), F_X6_replay_12 sTl sTx sN sS sAl sSv sF sG sK n1 K2 v3 v4 v5 = some out → va_P (dC, dI) vwCl [(h, .inr (6, [.ref aAl, .ref aSv, .ref aAs, .int sN, .int 0, .ref aF, .ref aG, .ref aK, .long sS, .ref aTx, .int sTl, .int v4, .ref aRd])), (aAl, .inl (cyJ, 76, .inr (.inl sAl))), (aSv, .inl (cyJ, 304, .inr (.inl sSv))), (aAs, .inl (cyJ, 76, .inr (.inl sAs))), (aF, .inl (cyJ, 3, .inr (.inl sF))), (aG, .inl (cyJ, 3, .inr (.inl sG))), (aK, .inl (cyJ, 3, .inr (.inl sK))), (aTx, .inl (cyI, 120, .inl sTx)), (aRd, .inl (cyI, 63, .inl v5))] H → va_D A [(h, .inr (6, [.ref aAl, .ref aSv, .ref aAs, .int sN, .int 0, .ref aF, .ref aG, .ref aK, .long sS, .ref aTx, .int sTl, .int v4, .ref aRd])), (aAl, .inl (cyJ, 76, .inr (.inl sAl))), (aSv, .inl (cyJ, 304, .inr (.inl sSv))), (aAs, .inl (cyJ, 76, .inr (.inl sAs))), (aF, .inl (cyJ, 3, .inr (.inl sF))), (aG, .inl (cyJ, 3, .inr (.inl sG))), (aK, .inl (cyJ, 3, .inr (.inl sK))), (aTx, .inl (cyI, 120, .inl sTx)), (aRd, .inl (cyI, 63, .inl v5))] → va_S A s.heap H locs → lv_has ls 5 [(0, .ref h), (1, .int v3)] → (∀ (x14 : Int32 × Int32 × (Nat → Int32)) (H : Heap) (locs : List Loc) (ls : Array Slot), K2 x14 = some out → va_P (dC, dI) vwCl [(h, .inr (6, [.ref aAl, .ref aSv, .ref aAs, .int sN, .int 0, .ref aF, .ref aG, .ref aK, .long sS, .ref aTx, .int sTl, .int x14.2.1, .ref aRd])), (aAl, .inl (cyJ, 76, .inr (.inl sAl))), (aSv, .inl (cyJ, 304, .inr (.inl sSv))), (aAs, .inl (cyJ, 76, .inr (.inl sAs))), (aF, .inl (cyJ, 3, .inr (.inl sF))), (aG, .inl (cyJ, 3, .inr (.inl sG))), (aK, .inl (cyJ, 3, .inr (.inl sK))), (aTx, .inl (cyI, 120, .inl sTx)), (aRd, .inl (cyI, 63, .inl x14.2.2))] H → va_D A [(h, .inr (6, [.ref aAl, .ref aSv, .ref aAs, .int sN, .int 0, .ref aF, .ref aG, .ref aK, .long sS, .ref aTx, .int sTl, .int x14.2.1, .ref aRd])), (aAl, .inl (cyJ, 76, .inr (.inl sAl))), (aSv, .inl (cyJ, 304, .inr (.inl sSv))), (aAs, .inl (cyJ, 76, .inr (.inl sAs))), (aF, .inl (cyJ, 3, .inr (.inl sF))), (aG, .inl (cyJ, 3, .inr (.inl sG))), (aK, .inl (cyJ, 3, .inr (.inl sK))), (aTx, .inl (cyI, 120, .inl sTx)), (aRd, .inl (cyI, 63, .inl x14.2.2))] → va_S A s.heap H locs → lv_has ls 5 [(0, .ref h), (1, .int x14.1)] → W p l e (headSpec wsX6_replay ({ frames := 3, cells := 0, slots := 0, locals := 84 } : Room)).room s m ([.ref h] : List Value).toArray below meth c H locs 0 0 (MQ below (va_Qi (fun (r' : Int32) (_ : Unit) => r' = out.1) (cPost (dC, dI) [(cyI, .int), (cyJ, .long), (cyB, .byte), (cyS, .object "SelfTuner$State"), (cyD, .double)] [(h, .inr (6, [.ref aAl, .ref aSv, .ref aAs, .int out.2.1, .int out.2.2.1, .ref aF, .ref aG, .ref aK, .long out.2.2.2.1, .ref aTx, .int sTl, .int out.2.2.2.2.1, .ref aRd])), (aAl, .inl (cyJ, 76, .inr (.inl out.2.2.2.2.2.1))), (aSv, .inl (cyJ, 304, .inr (.inl out.2.2.2.2.2.2.1))), (aAs, .inl (cyJ, 76, .inr (.inl sAs))), (aF, .inl (cyJ, 3, .inr (.inl out.2.2.2.2.2.2.2.1))), (aG, .inl (cyJ, 3, .inr (.inl out.2.2.2.2.2.2.2.2.1))), (aK, .inl (cyJ, 3, .inr (.inl out.2.2.2.2.2.2.2.2.2.1))), (aTx, .inl (cyI, 120, .inl sTx)), (aRd, .inl (cyI, 63, .inl out.2.2.2.2.2.2.2.2.2.2))] A) A) ([.ref h] : List Value).toArray s 0 0 A) (F0 m 51 ls [])) → W p l e (headSpec wsX6_replay ({ frames := 3, cells := 0, slots := 0, locals := 84 } : Room)).room s m ([.ref h] : List Value).toArray below meth c H locs 0 0 (MQ below (va_Qi (fun (r' : Int32) (_ : Unit) => r' = out.1) (cPost (dC, dI) [(cyI, .int), (cyJ, .long), (cyB, .byte), (cyS, .object "SelfTuner$State"), (cyD, .double)] [(h, .inr (6, [.ref aAl, .ref aSv, .ref aAs, .int out.2.1, .int out.2.2.1, .ref aF, .ref aG, .ref aK, .long out.2.2.2.1, .ref aTx, .int sTl, .int out.2.2.2.2.1, .ref aRd])), (aAl, .inl (cyJ, 76, .inr (.inl out.2.2.2.2.2.1))), (aSv, .inl (cyJ, 304, .inr (.inl out.2.2.2.2.2.2.1))), (aAs, .inl (cyJ, 76, .inr (.inl sAs))), (aF, .inl (cyJ, 3, .inr (.inl out.2.2.2.2.2.2.2.1))), (aG, .inl (cyJ, 3, .inr (.inl out.2.2.2.2.2.2.2.2.1))), (aK, .inl (cyJ, 3, .inr (.inl out.2.2.2.2.2.2.2.2.2.1))), (aTx, .inl (cyI, 120, .inl sTx)), (aRd, .inl (cyI, 63, .inl out.2.2.2.2.2.2.2.2.2.2))] A) A) ([.ref h] : List Value).toArray s 0 0 A) (F0 m 12 ls []) := by
    intro n1
    induction n1 with
    | zero => intro K2 v3 v4 v5 H locs ls hF; exact no_e (show none = some out from hF)
    | succ n1 ihn1 =>
      intro K2 v3 v4 v5 H locs ls hF hP hD hS hl kxn1
      rw [F_X6_replay_12] at hF
      refine lv_aload_n hx hb dX6_replay_12 rfl (lv_at hl 0 rfl) ?_
      refine va_get (D := (dC, dI)) (ci := 6) (v := .int v4) (C := RX6) (T := TX6) (N := 13) hx hb hts iX6_replay_X6 hown hK hP 0 rfl rfl 11 (by decide) (hts _ kX6_replay_2) (fun _ h9 => h9) rfl dX6_replay_13 ?_
      refine lv_aload_n hx hb dX6_replay_16 rfl (lv_at hl 0 rfl) ?_
      refine va_get (D := (dC, dI)) (ci := 6) (v := .int sTl) (C := RX6) (T := TX6) (N := 13) hx hb hts iX6_replay_X6 hown hK hP 0 rfl rfl 10 (by decide) (hts _ kX6_replay_3) (fun _ h9 => h9) rfl dX6_replay_17 ?_
      refine lv_icmp_lt (tgt := 29) hx hb dX6_replay_20 (by decide) (fun c6 => ?_) (fun c6 => ?_)
      · have hF := ite_t hF c6
        refine lv_aload_n hx hb dX6_replay_29 rfl (lv_at hl 0 rfl) ?_
        refine lv_iload_n hx hb dX6_replay_30 rfl (lv_at hl 1 rfl) ?_
        obtain ⟨o7, ho7, hF⟩ := ob_e hF
        refine x_calli (wr := []) (ws' := [(h, .inr (6, [.ref aAl, .ref aSv, .ref aAs, .int sN, .int 0, .ref aF, .ref aG, .ref aK, .long sS, .ref aTx, .int sTl, .int o7.2.1, .ref aRd])), (aAl, .inl (cyJ, 76, .inr (.inl sAl))), (aSv, .inl (cyJ, 304, .inr (.inl sSv))), (aAs, .inl (cyJ, 76, .inr (.inl sAs))), (aF, .inl (cyJ, 3, .inr (.inl sF))), (aG, .inl (cyJ, 3, .inr (.inl sG))), (aK, .inl (cyJ, 3, .inr (.inl sK))), (aTx, .inl (cyI, 120, .inl sTx)), (aRd, .inl (cyI, 63, .inl o7.2.2))]) (va_runV (As := [.int v3]) (rest := []) ⟨hx, hb, hml, hown, hts⟩ (c_X6_readsNumber l dC dI cyI cyJ cyB cyS cyD h aAl aSv aAs aF aG aK aTx aRd H.size sN 0 sS sTl v4 sAl sSv sAs sF sG sK sTx v5 v3 ho7) (cwV 1 hts gX6_replay_X6_readsNumber rfl rfl rfl (by decide +kernel) ⟨Nat.le_of_ble_eq_true rfl, Nat.le_of_ble_eq_true rfl⟩) ⟨cPre_blind, va_recv hK hP (ci := 6) (q0 := 0) rfl rfl, x_pre hN hP hD hK [0, 1, 2, 3, 4, 5, 6, 7, 8] rfl rfl⟩ rfl rfl hl.1 rfl (lv_room (Nat.le_of_ble_eq_true rfl)) dX6_replay_31 ⟨Nat.le_of_ble_eq_true rfl, Nat.le_of_ble_eq_true rfl⟩) hP hD hS hA [0, 1, 2, 3, 4, 5, 6, 7, 8] [] [0, 1, 2, 3, 4, 5, 6, 7, 8] rfl rfl rfl (by decide) rfl rfl (fun H locs hP hD hS => ?_)
        refine lv_if_ne (tgt := 45) hx hb dX6_replay_34 (by decide) (fun c8 => ?_) (fun c8 => ?_)
        · have hF := ite_f hF c8
          obtain ⟨v9, hv9, hF⟩ := lt_e hF
          refine lv_iinc (v := v9) (lv' := [(1, .int v9), (0, .ref h)]) hx hb dX6_replay_45 hl (k := 1) rfl (by rw [hv9]; rfl) (by decide) rfl (fun ls hl => ?_)
          refine lv_goto (tgt := 12) hx hb dX6_replay_48 (by decide) ?_
          exact ihn1 _ _ _ _ _ _ _ hF hP hD hS (lv_sub hl [1, 0] rfl) kxn1
        · have hF := ite_t hF c8
          refine lv_bipush (v := (-10)) hx hb dX6_replay_37 (by decide) ?_
          refine lv_aload_n hx hb dX6_replay_39 rfl (lv_at hl 0 rfl) ?_
          refine va_get (D := (dC, dI)) (ci := 6) (v := .int o7.2.1) (C := RX6) (T := TX6) (N := 13) hx hb hts iX6_replay_X6 hown hK hP 0 rfl rfl 11 (by decide) (hts _ kX6_replay_2) (fun _ h9 => h9) rfl dX6_replay_40 ?_
          refine lv_isub hx hb dX6_replay_43 ?_
          obtain rfl := some_e hF
          exact W.iret (v := (-10) - o7.2.1) hx hb hr (fun t ht hW => ⟨⟨(-10) - o7.2.1, (), rfl, rfl, ⟨by rw [ht]; exact hP, va_K.moved hW.alike hK, hD⟩⟩, hS.F ht⟩) hS.2.2 dX6_replay_44
      · have hF := ite_f hF c6
        refine lv_iload_n hx hb dX6_replay_23 rfl (lv_at hl 1 rfl) ?_
        refine lv_iconst (v := 3) hx hb dX6_replay_24 (by decide) ?_
        refine lv_irem hx hb dX6_replay_25 (by decide) ?_
        refine lv_if_eq (tgt := 51) hx hb dX6_replay_26 (by decide) (fun c10 => ?_) (fun c10 => ?_)
        · have hF := ite_t hF c10
          exact kxn1 _ _ _ _ hF hP hD hS (lv_sub hl [0, 1] rfl)
        · have hF := ite_f hF c10
          refine lv_aload_n hx hb dX6_replay_29 rfl (lv_at hl 0 rfl) ?_
          refine lv_iload_n hx hb dX6_replay_30 rfl (lv_at hl 1 rfl) ?_
          obtain ⟨o11, ho11, hF⟩ := ob_e hF
          refine x_calli (wr := []) (ws' := [(h, .inr (6, [.ref aAl, .ref aSv, .ref aAs, .int sN, .int 0, .ref aF, .ref aG, .ref aK, .long sS, .ref aTx, .int sTl, .int o11.2.1, .ref aRd])), (aAl, .inl (cyJ, 76, .inr (.inl sAl))), (aSv, .inl (cyJ, 304, .inr (.inl sSv))), (aAs, .inl (cyJ, 76, .inr (.inl sAs))), (aF, .inl (cyJ, 3, .inr (.inl sF))), (aG, .inl (cyJ, 3, .inr (.inl sG))), (aK, .inl (cyJ, 3, .inr (.inl sK))), (aTx, .inl (cyI, 120, .inl sTx)), (aRd, .inl (cyI, 63, .inl o11.2.2))]) (va_runV (As := [.int v3]) (rest := []) ⟨hx, hb, hml, hown, hts⟩ (c_X6_readsNumber l dC dI cyI cyJ cyB cyS cyD h aAl aSv aAs aF aG aK aTx aRd H.size sN 0 sS sTl v4 sAl sSv sAs sF sG sK sTx v5 v3 ho11) (cwV 1 hts gX6_replay_X6_readsNumber rfl rfl rfl (by decide +kernel) ⟨Nat.le_of_ble_eq_true rfl, Nat.le_of_ble_eq_true rfl⟩) ⟨cPre_blind, va_recv hK hP (ci := 6) (q0 := 0) rfl rfl, x_pre hN hP hD hK [0, 1, 2, 3, 4, 5, 6, 7, 8] rfl rfl⟩ rfl rfl hl.1 rfl (lv_room (Nat.le_of_ble_eq_true rfl)) dX6_replay_31 ⟨Nat.le_of_ble_eq_true rfl, Nat.le_of_ble_eq_true rfl⟩) hP hD hS hA [0, 1, 2, 3, 4, 5, 6, 7, 8] [] [0, 1, 2, 3, 4, 5, 6, 7, 8] rfl rfl rfl (by decide) rfl rfl (fun H locs hP hD hS => ?_)
          refine lv_if_ne (tgt := 45) hx hb dX6_replay_34 (by decide) (fun c12 => ?_) (fun c12 => ?_)
          · have hF := ite_f hF c12
            obtain ⟨v13, hv13, hF⟩ := lt_e hF
            refine lv_iinc (v := v13) (lv' := [(1, .int v13), (0, .ref h)]) hx hb dX6_replay_45 hl (k := 1) rfl (by rw [hv13]; rfl) (by decide) rfl (fun ls hl => ?_)
            refine lv_goto (tgt := 12) hx hb dX6_replay_48 (by decide) ?_
            exact ihn1 _ _ _ _ _ _ _ hF hP hD hS (lv_sub hl [1, 0] rfl) kxn1
          · have hF := ite_t hF c12
            refine lv_bipush (v := (-10)) hx hb dX6_replay_37 (by decide) ?_
            refine lv_aload_n hx hb dX6_replay_39 rfl (lv_at hl 0 rfl) ?_
            refine va_get (D := (dC, dI)) (ci := 6) (v := .int o11.2.1) (C := RX6) (T := TX6) (N := 13) hx hb hts iX6_replay_X6 hown hK hP 0 rfl rfl 11 (by decide) (hts _ kX6_replay_2) (fun _ h9 => h9) rfl dX6_replay_40 ?_
            refine lv_isub hx hb dX6_replay_43 ?_
            obtain rfl := some_e hF
            exact W.iret (v := (-10) - o11.2.1) hx hb hr (fun t ht hW => ⟨⟨(-10) - o11.2.1, (), rfl, rfl, ⟨by rw [ht]; exact hP, va_K.moved hW.alike hK, hD⟩⟩, hS.F ht⟩) hS.2.2 dX6_replay_44
  refine Ln1 _ _ _ _ _ _ _ _ hF hP hD hS (lv_sub hl [1, 0] rfl) (fun x14 H locs ls hF hP hD hS hl => ?_)
  refine lv_iconst (v := 0) hx hb dX6_replay_51 (by decide) ?_
  refine lv_istore_n (lv' := [(2, .int 0), (0, .ref h), (1, .int x14.1)]) hx hb dX6_replay_52 rfl hl (by decide) rfl (fun ls hl => ?_)
  have Ln15 : ∀ (n15 : Nat) (K16 : (Unit) → Option (Int32 × Int32 × Int32 × Int64 × Int32 × (Nat → Int64) × (Nat → Int64) × (Nat → Int64) × (Nat → Int64) × (Nat → Int64) × (Nat → Int32))) (v17 : Int32) (H : Heap) (locs : List Loc) (ls : Array Slot), F_X6_replay_53 x14 sN sS sAl sSv sF sG sK n15 K16 v17 = some out → va_P (dC, dI) vwCl [(h, .inr (6, [.ref aAl, .ref aSv, .ref aAs, .int sN, .int 0, .ref aF, .ref aG, .ref aK, .long sS, .ref aTx, .int sTl, .int x14.2.1, .ref aRd])), (aAl, .inl (cyJ, 76, .inr (.inl sAl))), (aSv, .inl (cyJ, 304, .inr (.inl sSv))), (aAs, .inl (cyJ, 76, .inr (.inl sAs))), (aF, .inl (cyJ, 3, .inr (.inl sF))), (aG, .inl (cyJ, 3, .inr (.inl sG))), (aK, .inl (cyJ, 3, .inr (.inl sK))), (aTx, .inl (cyI, 120, .inl sTx)), (aRd, .inl (cyI, 63, .inl x14.2.2))] H → va_D A [(h, .inr (6, [.ref aAl, .ref aSv, .ref aAs, .int sN, .int 0, .ref aF, .ref aG, .ref aK, .long sS, .ref aTx, .int sTl, .int x14.2.1, .ref aRd])), (aAl, .inl (cyJ, 76, .inr (.inl sAl))), (aSv, .inl (cyJ, 304, .inr (.inl sSv))), (aAs, .inl (cyJ, 76, .inr (.inl sAs))), (aF, .inl (cyJ, 3, .inr (.inl sF))), (aG, .inl (cyJ, 3, .inr (.inl sG))), (aK, .inl (cyJ, 3, .inr (.inl sK))), (aTx, .inl (cyI, 120, .inl sTx)), (aRd, .inl (cyI, 63, .inl x14.2.2))] → va_S A s.heap H locs → lv_has ls 5 [(0, .ref h), (1, .int x14.1), (2, .int v17)] → (∀ (x29 : Unit) (H : Heap) (locs : List Loc) (ls : Array Slot), K16 x29 = some out → va_P (dC, dI) vwCl [(h, .inr (6, [.ref aAl, .ref aSv, .ref aAs, .int sN, .int 0, .ref aF, .ref aG, .ref aK, .long sS, .ref aTx, .int sTl, .int x14.2.1, .ref aRd])), (aAl, .inl (cyJ, 76, .inr (.inl sAl))), (aSv, .inl (cyJ, 304, .inr (.inl sSv))), (aAs, .inl (cyJ, 76, .inr (.inl sAs))), (aF, .inl (cyJ, 3, .inr (.inl sF))), (aG, .inl (cyJ, 3, .inr (.inl sG))), (aK, .inl (cyJ, 3, .inr (.inl sK))), (aTx, .inl (cyI, 120, .inl sTx)), (aRd, .inl (cyI, 63, .inl x14.2.2))] H → va_D A [(h, .inr (6, [.ref aAl, .ref aSv, .ref aAs, .int sN, .int 0, .ref aF, .ref aG, .ref aK, .long sS, .ref aTx, .int sTl, .int x14.2.1, .ref aRd])), (aAl, .inl (cyJ, 76, .inr (.inl sAl))), (aSv, .inl (cyJ, 304, .inr (.inl sSv))), (aAs, .inl (cyJ, 76, .inr (.inl sAs))), (aF, .inl (cyJ, 3, .inr (.inl sF))), (aG, .inl (cyJ, 3, .inr (.inl sG))), (aK, .inl (cyJ, 3, .inr (.inl sK))), (aTx, .inl (cyI, 120, .inl sTx)), (aRd, .inl (cyI, 63, .inl x14.2.2))] → va_S A s.heap H locs → lv_has ls 5 [(0, .ref h), (1, .int x14.1)] → W p l e (headSpec wsX6_replay ({ frames := 3, cells := 0, slots := 0, locals := 84 } : Room)).room s m ([.ref h] : List Value).toArray below meth c H locs 0 0 (MQ below (va_Qi (fun (r' : Int32) (_ : Unit) => r' = out.1) (cPost (dC, dI) [(cyI, .int), (cyJ, .long), (cyB, .byte), (cyS, .object "SelfTuner$State"), (cyD, .double)] [(h, .inr (6, [.ref aAl, .ref aSv, .ref aAs, .int out.2.1, .int out.2.2.1, .ref aF, .ref aG, .ref aK, .long out.2.2.2.1, .ref aTx, .int sTl, .int out.2.2.2.2.1, .ref aRd])), (aAl, .inl (cyJ, 76, .inr (.inl out.2.2.2.2.2.1))), (aSv, .inl (cyJ, 304, .inr (.inl out.2.2.2.2.2.2.1))), (aAs, .inl (cyJ, 76, .inr (.inl sAs))), (aF, .inl (cyJ, 3, .inr (.inl out.2.2.2.2.2.2.2.1))), (aG, .inl (cyJ, 3, .inr (.inl out.2.2.2.2.2.2.2.2.1))), (aK, .inl (cyJ, 3, .inr (.inl out.2.2.2.2.2.2.2.2.2.1))), (aTx, .inl (cyI, 120, .inl sTx)), (aRd, .inl (cyI, 63, .inl out.2.2.2.2.2.2.2.2.2.2))] A) A) ([.ref h] : List Value).toArray s 0 0 A) (F0 m 117 ls [])) → W p l e (headSpec wsX6_replay ({ frames := 3, cells := 0, slots := 0, locals := 84 } : Room)).room s m ([.ref h] : List Value).toArray below meth c H locs 0 0 (MQ below (va_Qi (fun (r' : Int32) (_ : Unit) => r' = out.1) (cPost (dC, dI) [(cyI, .int), (cyJ, .long), (cyB, .byte), (cyS, .object "SelfTuner$State"), (cyD, .double)] [(h, .inr (6, [.ref aAl, .ref aSv, .ref aAs, .int out.2.1, .int out.2.2.1, .ref aF, .ref aG, .ref aK, .long out.2.2.2.1, .ref aTx, .int sTl, .int out.2.2.2.2.1, .ref aRd])), (aAl, .inl (cyJ, 76, .inr (.inl out.2.2.2.2.2.1))), (aSv, .inl (cyJ, 304, .inr (.inl out.2.2.2.2.2.2.1))), (aAs, .inl (cyJ, 76, .inr (.inl sAs))), (aF, .inl (cyJ, 3, .inr (.inl out.2.2.2.2.2.2.2.1))), (aG, .inl (cyJ, 3, .inr (.inl out.2.2.2.2.2.2.2.2.1))), (aK, .inl (cyJ, 3, .inr (.inl out.2.2.2.2.2.2.2.2.2.1))), (aTx, .inl (cyI, 120, .inl sTx)), (aRd, .inl (cyI, 63, .inl out.2.2.2.2.2.2.2.2.2.2))] A) A) ([.ref h] : List Value).toArray s 0 0 A) (F0 m 53 ls []) := by
    intro n15
    induction n15 with
    | zero => intro K16 v17 H locs ls hF; exact no_e (show none = some out from hF)
    | succ n15 ihn15 =>
      intro K16 v17 H locs ls hF hP hD hS hl kxn15
      rw [F_X6_replay_53] at hF
      refine lv_iload_n hx hb dX6_replay_53 rfl (lv_at hl 2 rfl) ?_
      refine lv_iload_n hx hb dX6_replay_54 rfl (lv_at hl 1 rfl) ?_
      refine lv_icmp_ge (tgt := 117) hx hb dX6_replay_55 (by decide) (fun c18 => ?_) (fun c18 => ?_)
      · have hF := ite_t hF c18
        exact kxn15 _ _ _ _ hF hP hD hS (lv_sub hl [0, 1] rfl)
      · have hF := ite_f hF c18
        refine lv_aload_n hx hb dX6_replay_58 rfl (lv_at hl 0 rfl) ?_
        refine va_get (D := (dC, dI)) (ci := 6) (v := .ref aRd) (C := RX6) (T := TX6) (N := 13) hx hb hts iX6_replay_X6 hown hK hP 0 rfl rfl 12 (by decide) (hts _ kX6_replay_4) (fun _ h9 => h9) rfl dX6_replay_59 ?_
        refine lv_iload_n hx hb dX6_replay_62 rfl (lv_at hl 2 rfl) ?_
        obtain ⟨g19, hF⟩ := ck_e hF
        refine x_iald hx hb hK hP 8 0 rfl rfl rfl g19 dX6_replay_63 ?_
        refine lv_i2l (v := (x14.2.2 v17.toNatClampNeg).toInt64) hx hb dX6_replay_64 rfl ?_
        refine lv_iload_n hx hb dX6_replay_65 rfl (lv_at hl 2 rfl) ?_
        refine lv_iconst (v := 3) hx hb dX6_replay_66 (by decide) ?_
        refine lv_irem hx hb dX6_replay_67 (by decide) ?_
        refine lv_iconst (v := 2) hx hb dX6_replay_68 (by decide) ?_
        obtain ⟨K22, hK22, hF⟩ := rg_e hF
        have Jx21 : ∀ (x21 : Int64) (H : Heap) (locs : List Loc) (ls : Array Slot), K22 x21 = some out → va_P (dC, dI) vwCl [(h, .inr (6, [.ref aAl, .ref aSv, .ref aAs, .int sN, .int 0, .ref aF, .ref aG, .ref aK, .long sS, .ref aTx, .int sTl, .int x14.2.1, .ref aRd])), (aAl, .inl (cyJ, 76, .inr (.inl sAl))), (aSv, .inl (cyJ, 304, .inr (.inl sSv))), (aAs, .inl (cyJ, 76, .inr (.inl sAs))), (aF, .inl (cyJ, 3, .inr (.inl sF))), (aG, .inl (cyJ, 3, .inr (.inl sG))), (aK, .inl (cyJ, 3, .inr (.inl sK))), (aTx, .inl (cyI, 120, .inl sTx)), (aRd, .inl (cyI, 63, .inl x14.2.2))] H → va_D A [(h, .inr (6, [.ref aAl, .ref aSv, .ref aAs, .int sN, .int 0, .ref aF, .ref aG, .ref aK, .long sS, .ref aTx, .int sTl, .int x14.2.1, .ref aRd])), (aAl, .inl (cyJ, 76, .inr (.inl sAl))), (aSv, .inl (cyJ, 304, .inr (.inl sSv))), (aAs, .inl (cyJ, 76, .inr (.inl sAs))), (aF, .inl (cyJ, 3, .inr (.inl sF))), (aG, .inl (cyJ, 3, .inr (.inl sG))), (aK, .inl (cyJ, 3, .inr (.inl sK))), (aTx, .inl (cyI, 120, .inl sTx)), (aRd, .inl (cyI, 63, .inl x14.2.2))] → va_S A s.heap H locs → lv_has ls 5 [(0, .ref h), (1, .int x14.1), (2, .int v17)] → W p l e (headSpec wsX6_replay ({ frames := 3, cells := 0, slots := 0, locals := 84 } : Room)).room s m ([.ref h] : List Value).toArray below meth c H locs 0 0 (MQ below (va_Qi (fun (r' : Int32) (_ : Unit) => r' = out.1) (cPost (dC, dI) [(cyI, .int), (cyJ, .long), (cyB, .byte), (cyS, .object "SelfTuner$State"), (cyD, .double)] [(h, .inr (6, [.ref aAl, .ref aSv, .ref aAs, .int out.2.1, .int out.2.2.1, .ref aF, .ref aG, .ref aK, .long out.2.2.2.1, .ref aTx, .int sTl, .int out.2.2.2.2.1, .ref aRd])), (aAl, .inl (cyJ, 76, .inr (.inl out.2.2.2.2.2.1))), (aSv, .inl (cyJ, 304, .inr (.inl out.2.2.2.2.2.2.1))), (aAs, .inl (cyJ, 76, .inr (.inl sAs))), (aF, .inl (cyJ, 3, .inr (.inl out.2.2.2.2.2.2.2.1))), (aG, .inl (cyJ, 3, .inr (.inl out.2.2.2.2.2.2.2.2.1))), (aK, .inl (cyJ, 3, .inr (.inl out.2.2.2.2.2.2.2.2.2.1))), (aTx, .inl (cyI, 120, .inl sTx)), (aRd, .inl (cyI, 63, .inl out.2.2.2.2.2.2.2.2.2.2))] A) A) ([.ref h] : List Value).toArray s 0 0 A) (F0 m 81 ls [.long x21, .long ((x14.2.2 v17.toNatClampNeg).toInt64)]) := by
          intro x21 H locs ls hF hP hD hS hl
          rw [hK22] at hF
          refine lv_iload_n hx hb dX6_replay_81 rfl (lv_at hl 2 rfl) ?_
          refine lv_iconst (v := 3) hx hb dX6_replay_82 (by decide) ?_
          refine lv_irem hx hb dX6_replay_83 (by decide) ?_
          refine lv_iconst (v := 2) hx hb dX6_replay_84 (by decide) ?_
          obtain ⟨K25, hK25, hF⟩ := rg_e hF
          have Jx24 : ∀ (x24 : Int64) (H : Heap) (locs : List Loc) (ls : Array Slot), K25 x24 = some out → va_P (dC, dI) vwCl [(h, .inr (6, [.ref aAl, .ref aSv, .ref aAs, .int sN, .int 0, .ref aF, .ref aG, .ref aK, .long sS, .ref aTx, .int sTl, .int x14.2.1, .ref aRd])), (aAl, .inl (cyJ, 76, .inr (.inl sAl))), (aSv, .inl (cyJ, 304, .inr (.inl sSv))), (aAs, .inl (cyJ, 76, .inr (.inl sAs))), (aF, .inl (cyJ, 3, .inr (.inl sF))), (aG, .inl (cyJ, 3, .inr (.inl sG))), (aK, .inl (cyJ, 3, .inr (.inl sK))), (aTx, .inl (cyI, 120, .inl sTx)), (aRd, .inl (cyI, 63, .inl x14.2.2))] H → va_D A [(h, .inr (6, [.ref aAl, .ref aSv, .ref aAs, .int sN, .int 0, .ref aF, .ref aG, .ref aK, .long sS, .ref aTx, .int sTl, .int x14.2.1, .ref aRd])), (aAl, .inl (cyJ, 76, .inr (.inl sAl))), (aSv, .inl (cyJ, 304, .inr (.inl sSv))), (aAs, .inl (cyJ, 76, .inr (.inl sAs))), (aF, .inl (cyJ, 3, .inr (.inl sF))), (aG, .inl (cyJ, 3, .inr (.inl sG))), (aK, .inl (cyJ, 3, .inr (.inl sK))), (aTx, .inl (cyI, 120, .inl sTx)), (aRd, .inl (cyI, 63, .inl x14.2.2))] → va_S A s.heap H locs → lv_has ls 5 [(0, .ref h), (1, .int x14.1), (2, .int v17)] → W p l e (headSpec wsX6_replay ({ frames := 3, cells := 0, slots := 0, locals := 84 } : Room)).room s m ([.ref h] : List Value).toArray below meth c H locs 0 0 (MQ below (va_Qi (fun (r' : Int32) (_ : Unit) => r' = out.1) (cPost (dC, dI) [(cyI, .int), (cyJ, .long), (cyB, .byte), (cyS, .object "SelfTuner$State"), (cyD, .double)] [(h, .inr (6, [.ref aAl, .ref aSv, .ref aAs, .int out.2.1, .int out.2.2.1, .ref aF, .ref aG, .ref aK, .long out.2.2.2.1, .ref aTx, .int sTl, .int out.2.2.2.2.1, .ref aRd])), (aAl, .inl (cyJ, 76, .inr (.inl out.2.2.2.2.2.1))), (aSv, .inl (cyJ, 304, .inr (.inl out.2.2.2.2.2.2.1))), (aAs, .inl (cyJ, 76, .inr (.inl sAs))), (aF, .inl (cyJ, 3, .inr (.inl out.2.2.2.2.2.2.2.1))), (aG, .inl (cyJ, 3, .inr (.inl out.2.2.2.2.2.2.2.2.1))), (aK, .inl (cyJ, 3, .inr (.inl out.2.2.2.2.2.2.2.2.2.1))), (aTx, .inl (cyI, 120, .inl sTx)), (aRd, .inl (cyI, 63, .inl out.2.2.2.2.2.2.2.2.2.2))] A) A) ([.ref h] : List Value).toArray s 0 0 A) (F0 m 97 ls [.long x24, .long x21, .long ((x14.2.2 v17.toNatClampNeg).toInt64)]) := by
            intro x24 H locs ls hF hP hD hS hl
            rw [hK25] at hF
            obtain ⟨o26, ho26, hF⟩ := ob_e hF
            refine x_callzi (va_runS (As := [.long ((x14.2.2 v17.toNatClampNeg).toInt64), .long x21, .long x24]) (rest := []) ⟨hx, hb, hml, hown, hts⟩ (c_X6_in l ((x14.2.2 v17.toNatClampNeg).toInt64) x21 x24 ho26) (va_cwS 3 hts gX6_replay_X6_in rfl rfl rfl (by decide +kernel) ⟨Nat.le_of_ble_eq_true rfl, Nat.le_of_ble_eq_true rfl⟩) ⟨true_blind, fun _ _ _ => ⟨rfl, trivial⟩⟩ rfl rfl hl.1 rfl (lv_room (Nat.le_of_ble_eq_true rfl)) dX6_replay_97 ⟨Nat.le_of_ble_eq_true rfl, Nat.le_of_ble_eq_true rfl⟩) ?_
            refine lv_if_ne (tgt := 111) hx hb dX6_replay_100 (by decide) (fun c27 => ?_) (fun c27 => ?_)
            · have hF := ite_f hF c27
              obtain ⟨v28, hv28, hF⟩ := lt_e hF
              refine lv_iinc (v := v28) (lv' := [(2, .int v28), (0, .ref h), (1, .int x14.1)]) hx hb dX6_replay_111 hl (k := 2) rfl (by rw [hv28]; rfl) (by decide) rfl (fun ls hl => ?_)
              refine lv_goto (tgt := 53) hx hb dX6_replay_114 (by decide) ?_
              exact ihn15 _ _ _ _ _ hF hP hD hS (lv_sub hl [1, 2, 0] rfl) kxn15
            · have hF := ite_t hF c27
              refine lv_sipush (v := (-1000)) hx hb dX6_replay_103 (by decide) ?_
              refine lv_iload_n hx hb dX6_replay_106 rfl (lv_at hl 2 rfl) ?_
              refine lv_iconst (v := 3) hx hb dX6_replay_107 (by decide) ?_
              refine lv_idiv hx hb dX6_replay_108 (by decide) ?_
              refine lv_isub hx hb dX6_replay_109 ?_
              obtain rfl := some_e hF
              exact W.iret (v := (-1000) - (v17 / 3)) hx hb hr (fun t ht hW => ⟨⟨(-1000) - (v17 / 3), (), rfl, rfl, ⟨by rw [ht]; exact hP, va_K.moved hW.alike hK, hD⟩⟩, hS.F ht⟩) hS.2.2 dX6_replay_110
          refine lv_icmp_ne (tgt := 94) hx hb dX6_replay_85 (by decide) (fun c23 => ?_) (fun c23 => ?_)
          · have hF := ite_f hF c23
            refine lv_ldc2 (v := 2000) hx hb hown (hts _ kX6_replay_8) dX6_replay_94 ?_
            exact Jx24 _ _ _ _ hF hP hD hS (lv_sub hl [0, 1, 2] rfl)
          · have hF := ite_t hF c23
            refine lv_ldc2 (v := 4000) hx hb hown (hts _ kX6_replay_7) dX6_replay_88 ?_
            refine lv_goto (tgt := 97) hx hb dX6_replay_91 (by decide) ?_
            exact Jx24 _ _ _ _ hF hP hD hS (lv_sub hl [0, 1, 2] rfl)
        refine lv_icmp_ne (tgt := 78) hx hb dX6_replay_69 (by decide) (fun c20 => ?_) (fun c20 => ?_)
        · have hF := ite_f hF c20
          refine lv_ldc2 (v := (-2000)) hx hb hown (hts _ kX6_replay_6) dX6_replay_78 ?_
          exact Jx21 _ _ _ _ hF hP hD hS (lv_sub hl [0, 1, 2] rfl)
        · have hF := ite_t hF c20
          refine lv_ldc2 (v := (-4000)) hx hb hown (hts _ kX6_replay_5) dX6_replay_72 ?_
          refine lv_goto (tgt := 81) hx hb dX6_replay_75 (by decide) ?_
          exact Jx21 _ _ _ _ hF hP hD hS (lv_sub hl [0, 1, 2] rfl)
  refine Ln15 _ _ _ _ _ _ hF hP hD hS (lv_sub hl [1, 2, 0] rfl) (fun x29 H locs ls hF hP hD hS hl => ?_)
  refine lv_aload_n hx hb dX6_replay_117 rfl (lv_at hl 0 rfl) ?_
  obtain ⟨o30, ho30, hF⟩ := ob_e hF
  refine x_callv (wr := []) (ws' := [(h, .inr (6, [.ref aAl, .ref aSv, .ref aAs, .int o30.1, .int 0, .ref aF, .ref aG, .ref aK, .long sS, .ref aTx, .int sTl, .int x14.2.1, .ref aRd])), (aAl, .inl (cyJ, 76, .inr (.inl sAl))), (aSv, .inl (cyJ, 304, .inr (.inl o30.2))), (aAs, .inl (cyJ, 76, .inr (.inl sAs))), (aF, .inl (cyJ, 3, .inr (.inl sF))), (aG, .inl (cyJ, 3, .inr (.inl sG))), (aK, .inl (cyJ, 3, .inr (.inl sK))), (aTx, .inl (cyI, 120, .inl sTx)), (aRd, .inl (cyI, 63, .inl x14.2.2))]) (va_runV (As := []) (rest := []) ⟨hx, hb, hml, hown, hts⟩ (c_X6_save l dC dI cyI cyJ cyB cyS cyD h aAl aSv aAs aF aG aK aTx aRd H.size sN 0 sS sTl x14.2.1 sAl sSv sAs sF sG sK sTx x14.2.2 ho30) (cwV 0 hts gX6_replay_X6_save rfl rfl rfl (by decide +kernel) ⟨Nat.le_of_ble_eq_true rfl, Nat.le_of_ble_eq_true rfl⟩) ⟨cPre_blind, va_recv hK hP (ci := 6) (q0 := 0) rfl rfl, x_pre hN hP hD hK [0, 1, 2, 3, 4, 5, 6, 7, 8] rfl rfl⟩ rfl rfl hl.1 rfl (lv_room (Nat.le_of_ble_eq_true rfl)) dX6_replay_118 ⟨Nat.le_of_ble_eq_true rfl, Nat.le_of_ble_eq_true rfl⟩) hP hD hS hA [0, 1, 2, 3, 4, 5, 6, 7, 8] [] [0, 1, 2, 3, 4, 5, 6, 7, 8] rfl rfl rfl (by decide) rfl rfl (fun H locs hP hD hS => ?_)
  refine lv_iconst (v := 0) hx hb dX6_replay_121 (by decide) ?_
  refine lv_istore_n (lv' := [(2, .int 0), (0, .ref h), (1, .int x14.1)]) hx hb dX6_replay_122 rfl hl (by decide) rfl (fun ls hl => ?_)
  have Ln31 : ∀ (n31 : Nat) (K32 : (Int64 × (Nat → Int64) × (Nat → Int64) × (Nat → Int64) × (Nat → Int64)) → Option (Int32 × Int32 × Int32 × Int64 × Int32 × (Nat → Int64) × (Nat → Int64) × (Nat → Int64) × (Nat → Int64) × (Nat → Int64) × (Nat → Int32))) (v33 : Int32) (v34 : Int64) (v35 : Nat → Int64) (v36 : Nat → Int64) (v37 : Nat → Int64) (v38 : Nat → Int64) (H : Heap) (locs : List Loc) (ls : Array Slot), F_X6_replay_123 x14 n31 K32 v33 v34 v35 v36 v37 v38 = some out → va_P (dC, dI) vwCl [(h, .inr (6, [.ref aAl, .ref aSv, .ref aAs, .int o30.1, .int 0, .ref aF, .ref aG, .ref aK, .long v34, .ref aTx, .int sTl, .int x14.2.1, .ref aRd])), (aAl, .inl (cyJ, 76, .inr (.inl v35))), (aSv, .inl (cyJ, 304, .inr (.inl o30.2))), (aAs, .inl (cyJ, 76, .inr (.inl sAs))), (aF, .inl (cyJ, 3, .inr (.inl v36))), (aG, .inl (cyJ, 3, .inr (.inl v37))), (aK, .inl (cyJ, 3, .inr (.inl v38))), (aTx, .inl (cyI, 120, .inl sTx)), (aRd, .inl (cyI, 63, .inl x14.2.2))] H → va_D A [(h, .inr (6, [.ref aAl, .ref aSv, .ref aAs, .int o30.1, .int 0, .ref aF, .ref aG, .ref aK, .long v34, .ref aTx, .int sTl, .int x14.2.1, .ref aRd])), (aAl, .inl (cyJ, 76, .inr (.inl v35))), (aSv, .inl (cyJ, 304, .inr (.inl o30.2))), (aAs, .inl (cyJ, 76, .inr (.inl sAs))), (aF, .inl (cyJ, 3, .inr (.inl v36))), (aG, .inl (cyJ, 3, .inr (.inl v37))), (aK, .inl (cyJ, 3, .inr (.inl v38))), (aTx, .inl (cyI, 120, .inl sTx)), (aRd, .inl (cyI, 63, .inl x14.2.2))] → va_S A s.heap H locs → lv_has ls 5 [(0, .ref h), (1, .int x14.1), (2, .int v33)] → (∀ (x45 : Int64 × (Nat → Int64) × (Nat → Int64) × (Nat → Int64) × (Nat → Int64)) (H : Heap) (locs : List Loc) (ls : Array Slot), K32 x45 = some out → va_P (dC, dI) vwCl [(h, .inr (6, [.ref aAl, .ref aSv, .ref aAs, .int o30.1, .int 0, .ref aF, .ref aG, .ref aK, .long x45.1, .ref aTx, .int sTl, .int x14.2.1, .ref aRd])), (aAl, .inl (cyJ, 76, .inr (.inl x45.2.1))), (aSv, .inl (cyJ, 304, .inr (.inl o30.2))), (aAs, .inl (cyJ, 76, .inr (.inl sAs))), (aF, .inl (cyJ, 3, .inr (.inl x45.2.2.1))), (aG, .inl (cyJ, 3, .inr (.inl x45.2.2.2.1))), (aK, .inl (cyJ, 3, .inr (.inl x45.2.2.2.2))), (aTx, .inl (cyI, 120, .inl sTx)), (aRd, .inl (cyI, 63, .inl x14.2.2))] H → va_D A [(h, .inr (6, [.ref aAl, .ref aSv, .ref aAs, .int o30.1, .int 0, .ref aF, .ref aG, .ref aK, .long x45.1, .ref aTx, .int sTl, .int x14.2.1, .ref aRd])), (aAl, .inl (cyJ, 76, .inr (.inl x45.2.1))), (aSv, .inl (cyJ, 304, .inr (.inl o30.2))), (aAs, .inl (cyJ, 76, .inr (.inl sAs))), (aF, .inl (cyJ, 3, .inr (.inl x45.2.2.1))), (aG, .inl (cyJ, 3, .inr (.inl x45.2.2.2.1))), (aK, .inl (cyJ, 3, .inr (.inl x45.2.2.2.2))), (aTx, .inl (cyI, 120, .inl sTx)), (aRd, .inl (cyI, 63, .inl x14.2.2))] → va_S A s.heap H locs → lv_has ls 5 [(1, .int x14.1)] → W p l e (headSpec wsX6_replay ({ frames := 3, cells := 0, slots := 0, locals := 84 } : Room)).room s m ([.ref h] : List Value).toArray below meth c H locs 0 0 (MQ below (va_Qi (fun (r' : Int32) (_ : Unit) => r' = out.1) (cPost (dC, dI) [(cyI, .int), (cyJ, .long), (cyB, .byte), (cyS, .object "SelfTuner$State"), (cyD, .double)] [(h, .inr (6, [.ref aAl, .ref aSv, .ref aAs, .int out.2.1, .int out.2.2.1, .ref aF, .ref aG, .ref aK, .long out.2.2.2.1, .ref aTx, .int sTl, .int out.2.2.2.2.1, .ref aRd])), (aAl, .inl (cyJ, 76, .inr (.inl out.2.2.2.2.2.1))), (aSv, .inl (cyJ, 304, .inr (.inl out.2.2.2.2.2.2.1))), (aAs, .inl (cyJ, 76, .inr (.inl sAs))), (aF, .inl (cyJ, 3, .inr (.inl out.2.2.2.2.2.2.2.1))), (aG, .inl (cyJ, 3, .inr (.inl out.2.2.2.2.2.2.2.2.1))), (aK, .inl (cyJ, 3, .inr (.inl out.2.2.2.2.2.2.2.2.2.1))), (aTx, .inl (cyI, 120, .inl sTx)), (aRd, .inl (cyI, 63, .inl out.2.2.2.2.2.2.2.2.2.2))] A) A) ([.ref h] : List Value).toArray s 0 0 A) (F0 m 164 ls [])) → W p l e (headSpec wsX6_replay ({ frames := 3, cells := 0, slots := 0, locals := 84 } : Room)).room s m ([.ref h] : List Value).toArray below meth c H locs 0 0 (MQ below (va_Qi (fun (r' : Int32) (_ : Unit) => r' = out.1) (cPost (dC, dI) [(cyI, .int), (cyJ, .long), (cyB, .byte), (cyS, .object "SelfTuner$State"), (cyD, .double)] [(h, .inr (6, [.ref aAl, .ref aSv, .ref aAs, .int out.2.1, .int out.2.2.1, .ref aF, .ref aG, .ref aK, .long out.2.2.2.1, .ref aTx, .int sTl, .int out.2.2.2.2.1, .ref aRd])), (aAl, .inl (cyJ, 76, .inr (.inl out.2.2.2.2.2.1))), (aSv, .inl (cyJ, 304, .inr (.inl out.2.2.2.2.2.2.1))), (aAs, .inl (cyJ, 76, .inr (.inl sAs))), (aF, .inl (cyJ, 3, .inr (.inl out.2.2.2.2.2.2.2.1))), (aG, .inl (cyJ, 3, .inr (.inl out.2.2.2.2.2.2.2.2.1))), (aK, .inl (cyJ, 3, .inr (.inl out.2.2.2.2.2.2.2.2.2.1))), (aTx, .inl (cyI, 120, .inl sTx)), (aRd, .inl (cyI, 63, .inl out.2.2.2.2.2.2.2.2.2.2))] A) A) ([.ref h] : List Value).toArray s 0 0 A) (F0 m 123 ls []) := by
    intro n31
    induction n31 with
    | zero => intro K32 v33 v34 v35 v36 v37 v38 H locs ls hF; exact no_e (show none = some out from hF)
    | succ n31 ihn31 =>
      intro K32 v33 v34 v35 v36 v37 v38 H locs ls hF hP hD hS hl kxn31
      rw [F_X6_replay_123] at hF
      refine lv_iload_n hx hb dX6_replay_123 rfl (lv_at hl 2 rfl) ?_
      refine lv_iload_n hx hb dX6_replay_124 rfl (lv_at hl 1 rfl) ?_
      refine lv_icmp_ge (tgt := 164) hx hb dX6_replay_125 (by decide) (fun c39 => ?_) (fun c39 => ?_)
      · have hF := ite_t hF c39
        exact kxn31 _ _ _ _ hF hP hD hS (lv_sub hl [1] rfl)
      · have hF := ite_f hF c39
        refine lv_aload_n hx hb dX6_replay_128 rfl (lv_at hl 0 rfl) ?_
        refine lv_aload_n hx hb dX6_replay_129 rfl (lv_at hl 0 rfl) ?_
        refine va_get (D := (dC, dI)) (ci := 6) (v := .ref aRd) (C := RX6) (T := TX6) (N := 13) hx hb hts iX6_replay_X6 hown hK hP 0 rfl rfl 12 (by decide) (hts _ kX6_replay_4) (fun _ h9 => h9) rfl dX6_replay_130 ?_
        refine lv_iload_n hx hb dX6_replay_133 rfl (lv_at hl 2 rfl) ?_
        obtain ⟨g40, hF⟩ := ck_e hF
        refine x_iald hx hb hK hP 8 0 rfl rfl rfl g40 dX6_replay_134 ?_
        refine lv_i2l (v := (x14.2.2 v33.toNatClampNeg).toInt64) hx hb dX6_replay_135 rfl ?_
        refine lv_aload_n hx hb dX6_replay_136 rfl (lv_at hl 0 rfl) ?_
        refine va_get (D := (dC, dI)) (ci := 6) (v := .ref aRd) (C := RX6) (T := TX6) (N := 13) hx hb hts iX6_replay_X6 hown hK hP 0 rfl rfl 12 (by decide) (hts _ kX6_replay_4) (fun _ h9 => h9) rfl dX6_replay_137 ?_
        refine lv_iload_n hx hb dX6_replay_140 rfl (lv_at hl 2 rfl) ?_
        refine lv_iconst (v := 1) hx hb dX6_replay_141 (by decide) ?_
        refine lv_iadd hx hb dX6_replay_142 ?_
        obtain ⟨g41, hF⟩ := ck_e hF
        refine x_iald hx hb hK hP 8 0 rfl rfl rfl g41 dX6_replay_143 ?_
        refine lv_i2l (v := (x14.2.2 ((v33 + 1).toNatClampNeg)).toInt64) hx hb dX6_replay_144 rfl ?_
        refine lv_aload_n hx hb dX6_replay_145 rfl (lv_at hl 0 rfl) ?_
        refine va_get (D := (dC, dI)) (ci := 6) (v := .ref aRd) (C := RX6) (T := TX6) (N := 13) hx hb hts iX6_replay_X6 hown hK hP 0 rfl rfl 12 (by decide) (hts _ kX6_replay_4) (fun _ h9 => h9) rfl dX6_replay_146 ?_
        refine lv_iload_n hx hb dX6_replay_149 rfl (lv_at hl 2 rfl) ?_
        refine lv_iconst (v := 2) hx hb dX6_replay_150 (by decide) ?_
        refine lv_iadd hx hb dX6_replay_151 ?_
        obtain ⟨g42, hF⟩ := ck_e hF
        refine x_iald hx hb hK hP 8 0 rfl rfl rfl g42 dX6_replay_152 ?_
        refine lv_i2l (v := (x14.2.2 ((v33 + 2).toNatClampNeg)).toInt64) hx hb dX6_replay_153 rfl ?_
        obtain ⟨o43, ho43, hF⟩ := ob_e hF
        refine x_calll (wr := []) (ws' := [(h, .inr (6, [.ref aAl, .ref aSv, .ref aAs, .int o30.1, .int 0, .ref aF, .ref aG, .ref aK, .long o43.2.1, .ref aTx, .int sTl, .int x14.2.1, .ref aRd])), (aAl, .inl (cyJ, 76, .inr (.inl o43.2.2.1))), (aSv, .inl (cyJ, 304, .inr (.inl o30.2))), (aAs, .inl (cyJ, 76, .inr (.inl sAs))), (aF, .inl (cyJ, 3, .inr (.inl o43.2.2.2.1))), (aG, .inl (cyJ, 3, .inr (.inl o43.2.2.2.2.1))), (aK, .inl (cyJ, 3, .inr (.inl o43.2.2.2.2.2))), (aTx, .inl (cyI, 120, .inl sTx)), (aRd, .inl (cyI, 63, .inl x14.2.2))]) (va_runV (As := [.long ((x14.2.2 v33.toNatClampNeg).toInt64), .long ((x14.2.2 ((v33 + 1).toNatClampNeg)).toInt64), .long ((x14.2.2 ((v33 + 2).toNatClampNeg)).toInt64)]) (rest := []) ⟨hx, hb, hml, hown, hts⟩ (c_X6_takes l dC dI cyI cyJ cyB cyS cyD h aAl aSv aAs aF aG aK aTx aRd H.size o30.1 0 v34 sTl x14.2.1 v35 o30.2 sAs v36 v37 v38 sTx x14.2.2 ((x14.2.2 v33.toNatClampNeg).toInt64) ((x14.2.2 ((v33 + 1).toNatClampNeg)).toInt64) ((x14.2.2 ((v33 + 2).toNatClampNeg)).toInt64) ho43) (cwV 3 hts gX6_replay_X6_takes rfl rfl rfl (by decide +kernel) ⟨Nat.le_of_ble_eq_true rfl, Nat.le_of_ble_eq_true rfl⟩) ⟨cPre_blind, va_recv hK hP (ci := 6) (q0 := 0) rfl rfl, x_pre hN hP hD hK [0, 1, 2, 3, 4, 5, 6, 7, 8] rfl rfl⟩ rfl rfl hl.1 rfl (lv_room (Nat.le_of_ble_eq_true rfl)) dX6_replay_154 ⟨Nat.le_of_ble_eq_true rfl, Nat.le_of_ble_eq_true rfl⟩) hP hD hS hA [0, 1, 2, 3, 4, 5, 6, 7, 8] [] [0, 1, 2, 3, 4, 5, 6, 7, 8] rfl rfl rfl (by decide) rfl rfl (fun H locs hP hD hS => ?_)
        refine lv_lstore_n (lv' := [(3, .long o43.1), (0, .ref h), (1, .int x14.1), (2, .int v33)]) hx hb dX6_replay_157 rfl hl (by decide) rfl (fun ls hl => ?_)
        obtain ⟨v44, hv44, hF⟩ := lt_e hF
        refine lv_iinc (v := v44) (lv' := [(2, .int v44), (3, .long o43.1), (0, .ref h), (1, .int x14.1)]) hx hb dX6_replay_158 hl (k := 3) rfl (by rw [hv44]; rfl) (by decide) rfl (fun ls hl => ?_)
        refine lv_goto (tgt := 123) hx hb dX6_replay_161 (by decide) ?_
        exact ihn31 _ _ _ _ _ _ _ _ _ _ hF hP hD hS (lv_sub hl [2, 3, 0] rfl) kxn31
  refine Ln31 _ _ _ _ _ _ _ _ _ _ _ hF hP hD hS (lv_sub hl [1, 2, 0] rfl) (fun x45 H locs ls hF hP hD hS hl => ?_)
  refine lv_iload_n hx hb dX6_replay_164 rfl (lv_at hl 0 rfl) ?_
  refine lv_iconst (v := 3) hx hb dX6_replay_165 (by decide) ?_
  refine lv_idiv hx hb dX6_replay_166 (by decide) ?_
  obtain rfl := some_e hF
  exact W.iret (v := x14.1 / 3) hx hb hr (fun t ht hW => ⟨⟨x14.1 / 3, (), rfl, rfl, ⟨by rw [ht]; exact hP, va_K.moved hW.alike hK, hD⟩⟩, hS.F ht⟩) hS.2.2 dX6_replay_167
def F_X6_undo_34 (v6 : Int32) (sSv : Nat → Int64) : Nat → (((Nat → Int64)) → Option (Int32 × Int32 × Int32 × (Nat → Int64))) → Int32 → (Nat → Int64) → Option (Int32 × Int32 × Int32 × (Nat → Int64))
  | 0, _, _, _ => none
  | n7 + 1, K8, v9, v10 => if (76 : Int32) ≤ v9 then (K8 v10) else (ck (inb ((76 * v6) + v9) 304) (ck (inb v9 76) (lt_ (α := Nat → Int64) (vp_updL v10 v9.toNatClampNeg (sSv (((76 * v6) + v9).toNatClampNeg))) (fun v14 => lt_ (α := Int32) (v9 + 1) (fun v15 => F_X6_undo_34 v6 sSv n7 K8 v15 v14)))))
def F_X6_undo (sN : Int32) (sAl : Nat → Int64) (sSv : Nat → Int64) : Option (Int32 × Int32 × Int32 × (Nat → Int64)) := rg (α := Int32) (fun K3 => if (sN : Int32) ≤ 0 then (K3 0) else (K3 1)) (fun x2 => ob (F_X6_goes x2 1) (fun o4 => if (o4.1 : Int32) = 0 then (some (0, sN, o4.2, sAl)) else (lt_ (α := Int32) (sN - 1) (fun v6 => F_X6_undo_34 v6 sSv 1000 (fun x16 => some (v6, v6, o4.2, x16)) 0 sAl))))
theorem kX6_undo_1 : (Cond.fieldLink RX6 58 "SelfTunerModel" "savedMany" "I") ∈ wsX6_undo := List.mem_of_getElem? (i := 1) rfl
theorem kX6_undo_2 : (Cond.fieldLink RX6 7 "SelfTunerModel" "all" "[J") ∈ wsX6_undo := List.mem_of_getElem? (i := 2) rfl
theorem kX6_undo_3 : (Cond.fieldLink RX6 13 "SelfTunerModel" "saved" "[J") ∈ wsX6_undo := List.mem_of_getElem? (i := 3) rfl
theorem iX6_undo_X6 : ∀ w ∈ wsX60, w ∈ wsX6_undo := fun w h => List.mem_cons_of_mem _ (List.mem_append_right _ h)
set_option maxHeartbeats 4000000 in
set_option maxRecDepth 100000 in
theorem c_X6_undo (l : Launch) (dC : Nat → ClassId) (dI : Nat → Nat → Nat) (cyI cyJ cyB cyS cyD : ClassId) (h : Nat) (aAl : Nat) (aSv : Nat) (aAs : Nat) (aF : Nat) (aG : Nat) (aK : Nat) (aTx : Nat) (aRd : Nat) (sz : Nat) (sN : Int32) (sTh : Int32) (sS : Int64) (sTl : Int32) (sPl : Int32) (sAl : Nat → Int64) (sSv : Nat → Int64) (sAs : Nat → Int64) (sF : Nat → Int64) (sG : Nat → Int64) (sK : Nat → Int64) (sTx : Nat → Int32) (sRd : Nat → Int32) {out : Int32 × Int32 × Int32 × (Nat → Int64)} (hF : F_X6_undo sN sAl sSv = some out) : Mi l yX6_undo wsX6_undo ({ frames := 1, cells := 0, slots := 0, locals := 22 } : Room) (dC, dI) [(cyI, .int), (cyJ, .long), (cyB, .byte), (cyS, .object "SelfTuner$State"), (cyD, .double)] sz [.ref h] [(h, .inr (6, [.ref aAl, .ref aSv, .ref aAs, .int sN, .int sTh, .ref aF, .ref aG, .ref aK, .long sS, .ref aTx, .int sTl, .int sPl, .ref aRd])), (aAl, .inl (cyJ, 76, .inr (.inl sAl))), (aSv, .inl (cyJ, 304, .inr (.inl sSv))), (aAs, .inl (cyJ, 76, .inr (.inl sAs))), (aF, .inl (cyJ, 3, .inr (.inl sF))), (aG, .inl (cyJ, 3, .inr (.inl sG))), (aK, .inl (cyJ, 3, .inr (.inl sK))), (aTx, .inl (cyI, 120, .inl sTx)), (aRd, .inl (cyI, 63, .inl sRd))] out.1 [(h, .inr (6, [.ref aAl, .ref aSv, .ref aAs, .int out.2.1, .int out.2.2.1, .ref aF, .ref aG, .ref aK, .long sS, .ref aTx, .int sTl, .int sPl, .ref aRd])), (aAl, .inl (cyJ, 76, .inr (.inl out.2.2.2))), (aSv, .inl (cyJ, 304, .inr (.inl sSv))), (aAs, .inl (cyJ, 76, .inr (.inl sAs))), (aF, .inl (cyJ, 3, .inr (.inl sF))), (aG, .inl (cyJ, 3, .inr (.inl sG))), (aK, .inl (cyJ, 3, .inr (.inl sK))), (aTx, .inl (cyI, 120, .inl sTx)), (aRd, .inl (cyI, 63, .inl sRd))] := by
  refine Met.ofW (cc := cX6_undo) (maxL := 2) (ret := (some .int)) (by decide) rfl ?_
  intro p e s m args below meth c s₁ B hml hv
  obtain ⟨rfl, hN, hsz, hP, hK, hD0⟩ := hv
  have hx := B.exec
  have hb := B.bytes
  have hr := B.returns
  have hts := atoms_spec (ws := wsX6_undo) B.pre
  have hown : s.vm.findClass RX6 = some m.cls := findClass_of_methodNamed B.named
  have hlocks := B.notSynchronized
  subst hsz
  have hD := hD0.self (sz := s.heap.size)
  generalize hAe : va_A [(h, .inr (6, [.ref aAl, .ref aSv, .ref aAs, .int sN, .int sTh, .ref aF, .ref aG, .ref aK, .long sS, .ref aTx, .int sTl, .int sPl, .ref aRd])), (aAl, .inl (cyJ, 76, .inr (.inl sAl))), (aSv, .inl (cyJ, 304, .inr (.inl sSv))), (aAs, .inl (cyJ, 76, .inr (.inl sAs))), (aF, .inl (cyJ, 3, .inr (.inl sF))), (aG, .inl (cyJ, 3, .inr (.inl sG))), (aK, .inl (cyJ, 3, .inr (.inl sK))), (aTx, .inl (cyI, 120, .inl sTx)), (aRd, .inl (cyI, 63, .inl sRd))] s.heap.size = A at hD ⊢
  have hA : ∀ q : Nat, s.heap.size ≤ q → A q := fun q h => by rw [← hAe]; exact Or.inr h
  have hS : va_S A s.heap s.heap [] := va_S.rf
  have hP : va_P (dC, dI) vwCl [(h, .inr (6, [.ref aAl, .ref aSv, .ref aAs, .int sN, .int sTh, .ref aF, .ref aG, .ref aK, .long sS, .ref aTx, .int sTl, .int sPl, .ref aRd])), (aAl, .inl (cyJ, 76, .inr (.inl sAl))), (aSv, .inl (cyJ, 304, .inr (.inl sSv))), (aAs, .inl (cyJ, 76, .inr (.inl sAs))), (aF, .inl (cyJ, 3, .inr (.inl sF))), (aG, .inl (cyJ, 3, .inr (.inl sG))), (aK, .inl (cyJ, 3, .inr (.inl sK))), (aTx, .inl (cyI, 120, .inl sTx)), (aRd, .inl (cyI, 63, .inl sRd))] s.heap := hP
  have hl := lv_entry ([.ref h]) (n := 2) (Nat.le_of_ble_eq_true rfl)
  rw [lg_entry_eq]
  generalize (lg_sl ([.ref h]) ++ List.replicate (2 - (lg_sl ([.ref h])).length) Slot.unset).toArray = ls at hl ⊢
  have hl : lv_has ls 2 [(0, .ref h)] := hl
  unfold F_X6_undo at hF
  refine lv_aload_n hx hb dX6_undo_0 rfl (lv_at hl 0 rfl) ?_
  refine lv_aload_n hx hb dX6_undo_1 rfl (lv_at hl 0 rfl) ?_
  refine va_get (D := (dC, dI)) (ci := 6) (v := .int sN) (C := RX6) (T := TX6) (N := 13) hx hb hts iX6_undo_X6 hown hK hP 0 rfl rfl 3 (by decide) (hts _ kX6_undo_1) (fun _ h9 => h9) rfl dX6_undo_2 ?_
  obtain ⟨K3, hK3, hF⟩ := rg_e hF
  have Jx2 : ∀ (x2 : Int32) (H : Heap) (locs : List Loc) (ls : Array Slot), K3 x2 = some out → va_P (dC, dI) vwCl [(h, .inr (6, [.ref aAl, .ref aSv, .ref aAs, .int sN, .int sTh, .ref aF, .ref aG, .ref aK, .long sS, .ref aTx, .int sTl, .int sPl, .ref aRd])), (aAl, .inl (cyJ, 76, .inr (.inl sAl))), (aSv, .inl (cyJ, 304, .inr (.inl sSv))), (aAs, .inl (cyJ, 76, .inr (.inl sAs))), (aF, .inl (cyJ, 3, .inr (.inl sF))), (aG, .inl (cyJ, 3, .inr (.inl sG))), (aK, .inl (cyJ, 3, .inr (.inl sK))), (aTx, .inl (cyI, 120, .inl sTx)), (aRd, .inl (cyI, 63, .inl sRd))] H → va_D A [(h, .inr (6, [.ref aAl, .ref aSv, .ref aAs, .int sN, .int sTh, .ref aF, .ref aG, .ref aK, .long sS, .ref aTx, .int sTl, .int sPl, .ref aRd])), (aAl, .inl (cyJ, 76, .inr (.inl sAl))), (aSv, .inl (cyJ, 304, .inr (.inl sSv))), (aAs, .inl (cyJ, 76, .inr (.inl sAs))), (aF, .inl (cyJ, 3, .inr (.inl sF))), (aG, .inl (cyJ, 3, .inr (.inl sG))), (aK, .inl (cyJ, 3, .inr (.inl sK))), (aTx, .inl (cyI, 120, .inl sTx)), (aRd, .inl (cyI, 63, .inl sRd))] → va_S A s.heap H locs → lv_has ls 2 [(0, .ref h)] → W p l e (headSpec wsX6_undo ({ frames := 1, cells := 0, slots := 0, locals := 22 } : Room)).room s m ([.ref h] : List Value).toArray below meth c H locs 0 0 (MQ below (va_Qi (fun (r' : Int32) (_ : Unit) => r' = out.1) (cPost (dC, dI) [(cyI, .int), (cyJ, .long), (cyB, .byte), (cyS, .object "SelfTuner$State"), (cyD, .double)] [(h, .inr (6, [.ref aAl, .ref aSv, .ref aAs, .int out.2.1, .int out.2.2.1, .ref aF, .ref aG, .ref aK, .long sS, .ref aTx, .int sTl, .int sPl, .ref aRd])), (aAl, .inl (cyJ, 76, .inr (.inl out.2.2.2))), (aSv, .inl (cyJ, 304, .inr (.inl sSv))), (aAs, .inl (cyJ, 76, .inr (.inl sAs))), (aF, .inl (cyJ, 3, .inr (.inl sF))), (aG, .inl (cyJ, 3, .inr (.inl sG))), (aK, .inl (cyJ, 3, .inr (.inl sK))), (aTx, .inl (cyI, 120, .inl sTx)), (aRd, .inl (cyI, 63, .inl sRd))] A) A) ([.ref h] : List Value).toArray s 0 0 A) (F0 m 13 ls [.int x2, .ref h]) := by
    intro x2 H locs ls hF hP hD hS hl
    rw [hK3] at hF
    refine lv_iconst (v := 1) hx hb dX6_undo_13 (by decide) ?_
    obtain ⟨o4, ho4, hF⟩ := ob_e hF
    refine x_calli (wr := []) (ws' := [(h, .inr (6, [.ref aAl, .ref aSv, .ref aAs, .int sN, .int o4.2, .ref aF, .ref aG, .ref aK, .long sS, .ref aTx, .int sTl, .int sPl, .ref aRd])), (aAl, .inl (cyJ, 76, .inr (.inl sAl))), (aSv, .inl (cyJ, 304, .inr (.inl sSv))), (aAs, .inl (cyJ, 76, .inr (.inl sAs))), (aF, .inl (cyJ, 3, .inr (.inl sF))), (aG, .inl (cyJ, 3, .inr (.inl sG))), (aK, .inl (cyJ, 3, .inr (.inl sK))), (aTx, .inl (cyI, 120, .inl sTx)), (aRd, .inl (cyI, 63, .inl sRd))]) (va_runV (As := [.int x2, .int 1]) (rest := []) ⟨hx, hb, hml, hown, hts⟩ (c_X6_goes l dC dI cyI cyJ cyB cyS cyD h aAl aSv aAs aF aG aK aTx aRd H.size sN sTh sS sTl sPl sAl sSv sAs sF sG sK sTx sRd x2 1 ho4) (cwV 2 hts gX6_undo_X6_goes rfl rfl rfl (by decide +kernel) ⟨Nat.le_of_ble_eq_true rfl, Nat.le_of_ble_eq_true rfl⟩) ⟨cPre_blind, va_recv hK hP (ci := 6) (q0 := 0) rfl rfl, x_pre hN hP hD hK [0, 1, 2, 3, 4, 5, 6, 7, 8] rfl rfl⟩ rfl rfl hl.1 rfl (lv_room (Nat.le_of_ble_eq_true rfl)) dX6_undo_14 ⟨Nat.le_of_ble_eq_true rfl, Nat.le_of_ble_eq_true rfl⟩) hP hD hS hA [0, 1, 2, 3, 4, 5, 6, 7, 8] [] [0, 1, 2, 3, 4, 5, 6, 7, 8] rfl rfl rfl (by decide) rfl rfl (fun H locs hP hD hS => ?_)
    refine lv_if_ne (tgt := 22) hx hb dX6_undo_17 (by decide) (fun c5 => ?_) (fun c5 => ?_)
    · have hF := ite_f hF c5
      refine lv_aload_n hx hb dX6_undo_22 rfl (lv_at hl 0 rfl) ?_
      refine lv_dup hx hb dX6_undo_23 rfl ?_
      refine va_get (D := (dC, dI)) (ci := 6) (v := .int sN) (C := RX6) (T := TX6) (N := 13) hx hb hts iX6_undo_X6 hown hK hP 0 rfl rfl 3 (by decide) (hts _ kX6_undo_1) (fun _ h9 => h9) rfl dX6_undo_24 ?_
      refine lv_iconst (v := 1) hx hb dX6_undo_27 (by decide) ?_
      refine lv_isub hx hb dX6_undo_28 ?_
      obtain ⟨v6, hv6, hF⟩ := lt_e hF
      refine x_topi hv6 ?_
      refine x_put (D := (dC, dI)) (ci := 6) (v := .int v6) (ty := .int) (C := RX6) (T := TX6) (N := 13) (ws' := [(h, .inr (6, [.ref aAl, .ref aSv, .ref aAs, .int v6, .int o4.2, .ref aF, .ref aG, .ref aK, .long sS, .ref aTx, .int sTl, .int sPl, .ref aRd])), (aAl, .inl (cyJ, 76, .inr (.inl sAl))), (aSv, .inl (cyJ, 304, .inr (.inl sSv))), (aAs, .inl (cyJ, 76, .inr (.inl sAs))), (aF, .inl (cyJ, 3, .inr (.inl sF))), (aG, .inl (cyJ, 3, .inr (.inl sG))), (aK, .inl (cyJ, 3, .inr (.inl sK))), (aTx, .inl (cyI, 120, .inl sTx)), (aRd, .inl (cyI, 63, .inl sRd))]) hx hb hts iX6_undo_X6 tyX6 tyX6_ok nmX6 hown hK hP hD hS 0 rfl rfl 3 (by decide) (hts _ kX6_undo_1) (fun _ h9 => h9) rfl (by decide +kernel) rfl rfl (Nat.le_of_ble_eq_true rfl) rfl dX6_undo_29 (fun H locs hP hD hS => ?_)
      refine lv_iconst (v := 0) hx hb dX6_undo_32 (by decide) ?_
      refine lv_istore_n (lv' := [(1, .int 0), (0, .ref h)]) hx hb dX6_undo_33 rfl hl (by decide) rfl (fun ls hl => ?_)
      have Ln7 : ∀ (n7 : Nat) (K8 : ((Nat → Int64)) → Option (Int32 × Int32 × Int32 × (Nat → Int64))) (v9 : Int32) (v10 : Nat → Int64) (H : Heap) (locs : List Loc) (ls : Array Slot), F_X6_undo_34 v6 sSv n7 K8 v9 v10 = some out → va_P (dC, dI) vwCl [(h, .inr (6, [.ref aAl, .ref aSv, .ref aAs, .int v6, .int o4.2, .ref aF, .ref aG, .ref aK, .long sS, .ref aTx, .int sTl, .int sPl, .ref aRd])), (aAl, .inl (cyJ, 76, .inr (.inl v10))), (aSv, .inl (cyJ, 304, .inr (.inl sSv))), (aAs, .inl (cyJ, 76, .inr (.inl sAs))), (aF, .inl (cyJ, 3, .inr (.inl sF))), (aG, .inl (cyJ, 3, .inr (.inl sG))), (aK, .inl (cyJ, 3, .inr (.inl sK))), (aTx, .inl (cyI, 120, .inl sTx)), (aRd, .inl (cyI, 63, .inl sRd))] H → va_D A [(h, .inr (6, [.ref aAl, .ref aSv, .ref aAs, .int v6, .int o4.2, .ref aF, .ref aG, .ref aK, .long sS, .ref aTx, .int sTl, .int sPl, .ref aRd])), (aAl, .inl (cyJ, 76, .inr (.inl v10))), (aSv, .inl (cyJ, 304, .inr (.inl sSv))), (aAs, .inl (cyJ, 76, .inr (.inl sAs))), (aF, .inl (cyJ, 3, .inr (.inl sF))), (aG, .inl (cyJ, 3, .inr (.inl sG))), (aK, .inl (cyJ, 3, .inr (.inl sK))), (aTx, .inl (cyI, 120, .inl sTx)), (aRd, .inl (cyI, 63, .inl sRd))] → va_S A s.heap H locs → lv_has ls 2 [(0, .ref h), (1, .int v9)] → (∀ (x16 : (Nat → Int64)) (H : Heap) (locs : List Loc) (ls : Array Slot), K8 x16 = some out → va_P (dC, dI) vwCl [(h, .inr (6, [.ref aAl, .ref aSv, .ref aAs, .int v6, .int o4.2, .ref aF, .ref aG, .ref aK, .long sS, .ref aTx, .int sTl, .int sPl, .ref aRd])), (aAl, .inl (cyJ, 76, .inr (.inl x16))), (aSv, .inl (cyJ, 304, .inr (.inl sSv))), (aAs, .inl (cyJ, 76, .inr (.inl sAs))), (aF, .inl (cyJ, 3, .inr (.inl sF))), (aG, .inl (cyJ, 3, .inr (.inl sG))), (aK, .inl (cyJ, 3, .inr (.inl sK))), (aTx, .inl (cyI, 120, .inl sTx)), (aRd, .inl (cyI, 63, .inl sRd))] H → va_D A [(h, .inr (6, [.ref aAl, .ref aSv, .ref aAs, .int v6, .int o4.2, .ref aF, .ref aG, .ref aK, .long sS, .ref aTx, .int sTl, .int sPl, .ref aRd])), (aAl, .inl (cyJ, 76, .inr (.inl x16))), (aSv, .inl (cyJ, 304, .inr (.inl sSv))), (aAs, .inl (cyJ, 76, .inr (.inl sAs))), (aF, .inl (cyJ, 3, .inr (.inl sF))), (aG, .inl (cyJ, 3, .inr (.inl sG))), (aK, .inl (cyJ, 3, .inr (.inl sK))), (aTx, .inl (cyI, 120, .inl sTx)), (aRd, .inl (cyI, 63, .inl sRd))] → va_S A s.heap H locs → lv_has ls 2 [(0, .ref h)] → W p l e (headSpec wsX6_undo ({ frames := 1, cells := 0, slots := 0, locals := 22 } : Room)).room s m ([.ref h] : List Value).toArray below meth c H locs 0 0 (MQ below (va_Qi (fun (r' : Int32) (_ : Unit) => r' = out.1) (cPost (dC, dI) [(cyI, .int), (cyJ, .long), (cyB, .byte), (cyS, .object "SelfTuner$State"), (cyD, .double)] [(h, .inr (6, [.ref aAl, .ref aSv, .ref aAs, .int out.2.1, .int out.2.2.1, .ref aF, .ref aG, .ref aK, .long sS, .ref aTx, .int sTl, .int sPl, .ref aRd])), (aAl, .inl (cyJ, 76, .inr (.inl out.2.2.2))), (aSv, .inl (cyJ, 304, .inr (.inl sSv))), (aAs, .inl (cyJ, 76, .inr (.inl sAs))), (aF, .inl (cyJ, 3, .inr (.inl sF))), (aG, .inl (cyJ, 3, .inr (.inl sG))), (aK, .inl (cyJ, 3, .inr (.inl sK))), (aTx, .inl (cyI, 120, .inl sTx)), (aRd, .inl (cyI, 63, .inl sRd))] A) A) ([.ref h] : List Value).toArray s 0 0 A) (F0 m 66 ls [])) → W p l e (headSpec wsX6_undo ({ frames := 1, cells := 0, slots := 0, locals := 22 } : Room)).room s m ([.ref h] : List Value).toArray below meth c H locs 0 0 (MQ below (va_Qi (fun (r' : Int32) (_ : Unit) => r' = out.1) (cPost (dC, dI) [(cyI, .int), (cyJ, .long), (cyB, .byte), (cyS, .object "SelfTuner$State"), (cyD, .double)] [(h, .inr (6, [.ref aAl, .ref aSv, .ref aAs, .int out.2.1, .int out.2.2.1, .ref aF, .ref aG, .ref aK, .long sS, .ref aTx, .int sTl, .int sPl, .ref aRd])), (aAl, .inl (cyJ, 76, .inr (.inl out.2.2.2))), (aSv, .inl (cyJ, 304, .inr (.inl sSv))), (aAs, .inl (cyJ, 76, .inr (.inl sAs))), (aF, .inl (cyJ, 3, .inr (.inl sF))), (aG, .inl (cyJ, 3, .inr (.inl sG))), (aK, .inl (cyJ, 3, .inr (.inl sK))), (aTx, .inl (cyI, 120, .inl sTx)), (aRd, .inl (cyI, 63, .inl sRd))] A) A) ([.ref h] : List Value).toArray s 0 0 A) (F0 m 34 ls []) := by
        intro n7
        induction n7 with
        | zero => intro K8 v9 v10 H locs ls hF; exact no_e (show none = some out from hF)
        | succ n7 ihn7 =>
          intro K8 v9 v10 H locs ls hF hP hD hS hl kxn7
          rw [F_X6_undo_34] at hF
          refine lv_iload_n hx hb dX6_undo_34 rfl (lv_at hl 1 rfl) ?_
          refine lv_bipush (v := 76) hx hb dX6_undo_35 (by decide) ?_
          refine lv_icmp_ge (tgt := 66) hx hb dX6_undo_37 (by decide) (fun c11 => ?_) (fun c11 => ?_)
          · have hF := ite_t hF c11
            exact kxn7 _ _ _ _ hF hP hD hS (lv_sub hl [0] rfl)
          · have hF := ite_f hF c11
            refine lv_aload_n hx hb dX6_undo_40 rfl (lv_at hl 0 rfl) ?_
            refine va_get (D := (dC, dI)) (ci := 6) (v := .ref aAl) (C := RX6) (T := TX6) (N := 13) hx hb hts iX6_undo_X6 hown hK hP 0 rfl rfl 0 (by decide) (hts _ kX6_undo_2) (fun _ h9 => h9) rfl dX6_undo_41 ?_
            refine lv_iload_n hx hb dX6_undo_44 rfl (lv_at hl 1 rfl) ?_
            refine lv_aload_n hx hb dX6_undo_45 rfl (lv_at hl 0 rfl) ?_
            refine va_get (D := (dC, dI)) (ci := 6) (v := .ref aSv) (C := RX6) (T := TX6) (N := 13) hx hb hts iX6_undo_X6 hown hK hP 0 rfl rfl 1 (by decide) (hts _ kX6_undo_3) (fun _ h9 => h9) rfl dX6_undo_46 ?_
            refine lv_bipush (v := 76) hx hb dX6_undo_49 (by decide) ?_
            refine lv_aload_n hx hb dX6_undo_51 rfl (lv_at hl 0 rfl) ?_
            refine va_get (D := (dC, dI)) (ci := 6) (v := .int v6) (C := RX6) (T := TX6) (N := 13) hx hb hts iX6_undo_X6 hown hK hP 0 rfl rfl 3 (by decide) (hts _ kX6_undo_1) (fun _ h9 => h9) rfl dX6_undo_52 ?_
            refine lv_imul hx hb dX6_undo_55 ?_
            refine lv_iload_n hx hb dX6_undo_56 rfl (lv_at hl 1 rfl) ?_
            refine lv_iadd hx hb dX6_undo_57 ?_
            obtain ⟨g12, hF⟩ := ck_e hF
            refine x_lald hx hb hK hP 2 1 rfl rfl rfl g12 dX6_undo_58 ?_
            obtain ⟨g13, hF⟩ := ck_e hF
            obtain ⟨v14, hv14, hF⟩ := lt_e hF
            refine x_last (ws' := [(h, .inr (6, [.ref aAl, .ref aSv, .ref aAs, .int v6, .int o4.2, .ref aF, .ref aG, .ref aK, .long sS, .ref aTx, .int sTl, .int sPl, .ref aRd])), (aAl, .inl (cyJ, 76, .inr (.inl v14))), (aSv, .inl (cyJ, 304, .inr (.inl sSv))), (aAs, .inl (cyJ, 76, .inr (.inl sAs))), (aF, .inl (cyJ, 3, .inr (.inl sF))), (aG, .inl (cyJ, 3, .inr (.inl sG))), (aK, .inl (cyJ, 3, .inr (.inl sK))), (aTx, .inl (cyI, 120, .inl sTx)), (aRd, .inl (cyI, 63, .inl sRd))]) hx hb hK hP hD hS 1 1 rfl rfl rfl g13 hv14 rfl dX6_undo_59 (fun H locs hP hD hS => ?_)
            obtain ⟨v15, hv15, hF⟩ := lt_e hF
            refine lv_iinc (v := v15) (lv' := [(1, .int v15), (0, .ref h)]) hx hb dX6_undo_60 hl (k := 1) rfl (by rw [hv15]; rfl) (by decide) rfl (fun ls hl => ?_)
            refine lv_goto (tgt := 34) hx hb dX6_undo_63 (by decide) ?_
            exact ihn7 _ _ _ _ _ _ hF hP hD hS (lv_sub hl [1, 0] rfl) kxn7
      refine Ln7 _ _ _ _ _ _ _ hF hP hD hS (lv_sub hl [1, 0] rfl) (fun x16 H locs ls hF hP hD hS hl => ?_)
      refine lv_aload_n hx hb dX6_undo_66 rfl (lv_at hl 0 rfl) ?_
      refine va_get (D := (dC, dI)) (ci := 6) (v := .int v6) (C := RX6) (T := TX6) (N := 13) hx hb hts iX6_undo_X6 hown hK hP 0 rfl rfl 3 (by decide) (hts _ kX6_undo_1) (fun _ h9 => h9) rfl dX6_undo_67 ?_
      obtain rfl := some_e hF
      exact W.iret (v := v6) hx hb hr (fun t ht hW => ⟨⟨v6, (), rfl, rfl, ⟨by rw [ht]; exact hP, va_K.moved hW.alike hK, hD⟩⟩, hS.F ht⟩) hS.2.2 dX6_undo_70
    · have hF := ite_t hF c5
      refine lv_iconst (v := 0) hx hb dX6_undo_20 (by decide) ?_
      obtain rfl := some_e hF
      exact W.iret (v := 0) hx hb hr (fun t ht hW => ⟨⟨0, (), rfl, rfl, ⟨by rw [ht]; exact hP, va_K.moved hW.alike hK, hD⟩⟩, hS.F ht⟩) hS.2.2 dX6_undo_21
  refine lv_if_le (tgt := 12) hx hb dX6_undo_5 (by decide) (fun c1 => ?_) (fun c1 => ?_)
  · have hF := ite_t hF c1
    refine lv_iconst (v := 0) hx hb dX6_undo_12 (by decide) ?_
    exact Jx2 _ _ _ _ hF hP hD hS (lv_sub hl [0] rfl)
  · have hF := ite_f hF c1
    refine lv_iconst (v := 1) hx hb dX6_undo_8 (by decide) ?_
    refine lv_goto (tgt := 13) hx hb dX6_undo_9 (by decide) ?_
    exact Jx2 _ _ _ _ hF hP hD hS (lv_sub hl [0] rfl)
def F_X6_sums_6 (w3 : Int32) (w2 : Int32) (sAl : Nat → Int64) : Nat → ((Int64) → Option (Int64)) → Int64 → Int32 → Option (Int64)
  | 0, _, _, _ => none
  | n1 + 1, K2, v3, v4 => if (w3 : Int32) ≤ v4 then (K2 v3) else (ck (inb (w2 + v4) 76) (lt_ (α := Int64) ((31 * v3) + (sAl ((w2 + v4).toNatClampNeg))) (fun v7 => lt_ (α := Int32) (v4 + 1) (fun v8 => F_X6_sums_6 w3 w2 sAl n1 K2 v7 v8))))
def F_X6_sums (sAl : Nat → Int64) (w1 : Int64) (w2 : Int32) (w3 : Int32) : Option (Int64) := F_X6_sums_6 w3 w2 sAl 1000 (fun x9 => some x9) w1 0
theorem kX6_sums_1 : (Cond.constantLong RX6 223 (31)) ∈ wsX6_sums := List.mem_of_getElem? (i := 1) rfl
theorem kX6_sums_2 : (Cond.fieldLink RX6 7 "SelfTunerModel" "all" "[J") ∈ wsX6_sums := List.mem_of_getElem? (i := 2) rfl
theorem iX6_sums_X6 : ∀ w ∈ wsX60, w ∈ wsX6_sums := fun w h => List.mem_cons_of_mem _ (List.mem_append_right _ h)
set_option maxHeartbeats 4000000 in
set_option maxRecDepth 100000 in
theorem c_X6_sums (l : Launch) (dC : Nat → ClassId) (dI : Nat → Nat → Nat) (cyI cyJ cyB cyS cyD : ClassId) (h : Nat) (aAl : Nat) (aSv : Nat) (aAs : Nat) (aF : Nat) (aG : Nat) (aK : Nat) (aTx : Nat) (aRd : Nat) (sz : Nat) (sN : Int32) (sTh : Int32) (sS : Int64) (sTl : Int32) (sPl : Int32) (sAl : Nat → Int64) (sSv : Nat → Int64) (sAs : Nat → Int64) (sF : Nat → Int64) (sG : Nat → Int64) (sK : Nat → Int64) (sTx : Nat → Int32) (sRd : Nat → Int32) (w1 : Int64) (w2 : Int32) (w3 : Int32) {out : Int64} (hF : F_X6_sums sAl w1 w2 w3 = some out) : Ml l yX6_sums wsX6_sums ({ frames := 0, cells := 0, slots := 0, locals := 0 } : Room) (dC, dI) [(cyI, .int), (cyJ, .long), (cyB, .byte), (cyS, .object "SelfTuner$State"), (cyD, .double)] sz [.ref h, .long w1, .int w2, .int w3] [(h, .inr (6, [.ref aAl, .ref aSv, .ref aAs, .int sN, .int sTh, .ref aF, .ref aG, .ref aK, .long sS, .ref aTx, .int sTl, .int sPl, .ref aRd])), (aAl, .inl (cyJ, 76, .inr (.inl sAl))), (aSv, .inl (cyJ, 304, .inr (.inl sSv))), (aAs, .inl (cyJ, 76, .inr (.inl sAs))), (aF, .inl (cyJ, 3, .inr (.inl sF))), (aG, .inl (cyJ, 3, .inr (.inl sG))), (aK, .inl (cyJ, 3, .inr (.inl sK))), (aTx, .inl (cyI, 120, .inl sTx)), (aRd, .inl (cyI, 63, .inl sRd))] out [(h, .inr (6, [.ref aAl, .ref aSv, .ref aAs, .int sN, .int sTh, .ref aF, .ref aG, .ref aK, .long sS, .ref aTx, .int sTl, .int sPl, .ref aRd])), (aAl, .inl (cyJ, 76, .inr (.inl sAl))), (aSv, .inl (cyJ, 304, .inr (.inl sSv))), (aAs, .inl (cyJ, 76, .inr (.inl sAs))), (aF, .inl (cyJ, 3, .inr (.inl sF))), (aG, .inl (cyJ, 3, .inr (.inl sG))), (aK, .inl (cyJ, 3, .inr (.inl sK))), (aTx, .inl (cyI, 120, .inl sTx)), (aRd, .inl (cyI, 63, .inl sRd))] := by
  refine Met.ofW (cc := cX6_sums) (maxL := 8) (ret := (some .long)) (by decide) rfl ?_
  intro p e s m args below meth c s₁ B hml hv
  obtain ⟨rfl, hN, hsz, hP, hK, hD0⟩ := hv
  have hx := B.exec
  have hb := B.bytes
  have hr := B.returns
  have hts := atoms_spec (ws := wsX6_sums) B.pre
  have hown : s.vm.findClass RX6 = some m.cls := findClass_of_methodNamed B.named
  have hlocks := B.notSynchronized
  subst hsz
  have hD := hD0.self (sz := s.heap.size)
  generalize hAe : va_A [(h, .inr (6, [.ref aAl, .ref aSv, .ref aAs, .int sN, .int sTh, .ref aF, .ref aG, .ref aK, .long sS, .ref aTx, .int sTl, .int sPl, .ref aRd])), (aAl, .inl (cyJ, 76, .inr (.inl sAl))), (aSv, .inl (cyJ, 304, .inr (.inl sSv))), (aAs, .inl (cyJ, 76, .inr (.inl sAs))), (aF, .inl (cyJ, 3, .inr (.inl sF))), (aG, .inl (cyJ, 3, .inr (.inl sG))), (aK, .inl (cyJ, 3, .inr (.inl sK))), (aTx, .inl (cyI, 120, .inl sTx)), (aRd, .inl (cyI, 63, .inl sRd))] s.heap.size = A at hD ⊢
  have hA : ∀ q : Nat, s.heap.size ≤ q → A q := fun q h => by rw [← hAe]; exact Or.inr h
  have hS : va_S A s.heap s.heap [] := va_S.rf
  have hP : va_P (dC, dI) vwCl [(h, .inr (6, [.ref aAl, .ref aSv, .ref aAs, .int sN, .int sTh, .ref aF, .ref aG, .ref aK, .long sS, .ref aTx, .int sTl, .int sPl, .ref aRd])), (aAl, .inl (cyJ, 76, .inr (.inl sAl))), (aSv, .inl (cyJ, 304, .inr (.inl sSv))), (aAs, .inl (cyJ, 76, .inr (.inl sAs))), (aF, .inl (cyJ, 3, .inr (.inl sF))), (aG, .inl (cyJ, 3, .inr (.inl sG))), (aK, .inl (cyJ, 3, .inr (.inl sK))), (aTx, .inl (cyI, 120, .inl sTx)), (aRd, .inl (cyI, 63, .inl sRd))] s.heap := hP
  have hl := lv_entry ([.ref h, .long w1, .int w2, .int w3]) (n := 8) (Nat.le_of_ble_eq_true rfl)
  rw [lg_entry_eq]
  generalize (lg_sl ([.ref h, .long w1, .int w2, .int w3]) ++ List.replicate (8 - (lg_sl ([.ref h, .long w1, .int w2, .int w3])).length) Slot.unset).toArray = ls at hl ⊢
  have hl : lv_has ls 8 [(0, .ref h), (1, .long w1), (3, .int w2), (4, .int w3)] := hl
  unfold F_X6_sums at hF
  refine lv_lload_n hx hb dX6_sums_0 rfl (lv_at hl 1 rfl) ?_
  refine lv_lstore (lv' := [(5, .long w1), (0, .ref h), (1, .long w1), (3, .int w2), (4, .int w3)]) hx hb dX6_sums_1 hl (by decide) rfl (fun ls hl => ?_)
  refine lv_iconst (v := 0) hx hb dX6_sums_3 (by decide) ?_
  refine lv_istore (lv' := [(7, .int 0), (5, .long w1), (0, .ref h), (1, .long w1), (3, .int w2), (4, .int w3)]) hx hb dX6_sums_4 hl (by decide) rfl (fun ls hl => ?_)
  have Ln1 : ∀ (n1 : Nat) (K2 : (Int64) → Option (Int64)) (v3 : Int64) (v4 : Int32) (H : Heap) (locs : List Loc) (ls : Array Slot), F_X6_sums_6 w3 w2 sAl n1 K2 v3 v4 = some out → va_P (dC, dI) vwCl [(h, .inr (6, [.ref aAl, .ref aSv, .ref aAs, .int sN, .int sTh, .ref aF, .ref aG, .ref aK, .long sS, .ref aTx, .int sTl, .int sPl, .ref aRd])), (aAl, .inl (cyJ, 76, .inr (.inl sAl))), (aSv, .inl (cyJ, 304, .inr (.inl sSv))), (aAs, .inl (cyJ, 76, .inr (.inl sAs))), (aF, .inl (cyJ, 3, .inr (.inl sF))), (aG, .inl (cyJ, 3, .inr (.inl sG))), (aK, .inl (cyJ, 3, .inr (.inl sK))), (aTx, .inl (cyI, 120, .inl sTx)), (aRd, .inl (cyI, 63, .inl sRd))] H → va_D A [(h, .inr (6, [.ref aAl, .ref aSv, .ref aAs, .int sN, .int sTh, .ref aF, .ref aG, .ref aK, .long sS, .ref aTx, .int sTl, .int sPl, .ref aRd])), (aAl, .inl (cyJ, 76, .inr (.inl sAl))), (aSv, .inl (cyJ, 304, .inr (.inl sSv))), (aAs, .inl (cyJ, 76, .inr (.inl sAs))), (aF, .inl (cyJ, 3, .inr (.inl sF))), (aG, .inl (cyJ, 3, .inr (.inl sG))), (aK, .inl (cyJ, 3, .inr (.inl sK))), (aTx, .inl (cyI, 120, .inl sTx)), (aRd, .inl (cyI, 63, .inl sRd))] → va_S A s.heap H locs → lv_has ls 8 [(0, .ref h), (3, .int w2), (4, .int w3), (5, .long v3), (7, .int v4)] → (∀ (x9 : Int64) (H : Heap) (locs : List Loc) (ls : Array Slot), K2 x9 = some out → va_P (dC, dI) vwCl [(h, .inr (6, [.ref aAl, .ref aSv, .ref aAs, .int sN, .int sTh, .ref aF, .ref aG, .ref aK, .long sS, .ref aTx, .int sTl, .int sPl, .ref aRd])), (aAl, .inl (cyJ, 76, .inr (.inl sAl))), (aSv, .inl (cyJ, 304, .inr (.inl sSv))), (aAs, .inl (cyJ, 76, .inr (.inl sAs))), (aF, .inl (cyJ, 3, .inr (.inl sF))), (aG, .inl (cyJ, 3, .inr (.inl sG))), (aK, .inl (cyJ, 3, .inr (.inl sK))), (aTx, .inl (cyI, 120, .inl sTx)), (aRd, .inl (cyI, 63, .inl sRd))] H → va_D A [(h, .inr (6, [.ref aAl, .ref aSv, .ref aAs, .int sN, .int sTh, .ref aF, .ref aG, .ref aK, .long sS, .ref aTx, .int sTl, .int sPl, .ref aRd])), (aAl, .inl (cyJ, 76, .inr (.inl sAl))), (aSv, .inl (cyJ, 304, .inr (.inl sSv))), (aAs, .inl (cyJ, 76, .inr (.inl sAs))), (aF, .inl (cyJ, 3, .inr (.inl sF))), (aG, .inl (cyJ, 3, .inr (.inl sG))), (aK, .inl (cyJ, 3, .inr (.inl sK))), (aTx, .inl (cyI, 120, .inl sTx)), (aRd, .inl (cyI, 63, .inl sRd))] → va_S A s.heap H locs → lv_has ls 8 [(5, .long x9)] → W p l e (headSpec wsX6_sums ({ frames := 0, cells := 0, slots := 0, locals := 0 } : Room)).room s m ([.ref h, .long w1, .int w2, .int w3] : List Value).toArray below meth c H locs 0 0 (MQ below (va_Ql (fun (r' : Int64) (_ : Unit) => r' = out) (cPost (dC, dI) [(cyI, .int), (cyJ, .long), (cyB, .byte), (cyS, .object "SelfTuner$State"), (cyD, .double)] [(h, .inr (6, [.ref aAl, .ref aSv, .ref aAs, .int sN, .int sTh, .ref aF, .ref aG, .ref aK, .long sS, .ref aTx, .int sTl, .int sPl, .ref aRd])), (aAl, .inl (cyJ, 76, .inr (.inl sAl))), (aSv, .inl (cyJ, 304, .inr (.inl sSv))), (aAs, .inl (cyJ, 76, .inr (.inl sAs))), (aF, .inl (cyJ, 3, .inr (.inl sF))), (aG, .inl (cyJ, 3, .inr (.inl sG))), (aK, .inl (cyJ, 3, .inr (.inl sK))), (aTx, .inl (cyI, 120, .inl sTx)), (aRd, .inl (cyI, 63, .inl sRd))] A) A) ([.ref h, .long w1, .int w2, .int w3] : List Value).toArray s 0 0 A) (F0 m 37 ls [])) → W p l e (headSpec wsX6_sums ({ frames := 0, cells := 0, slots := 0, locals := 0 } : Room)).room s m ([.ref h, .long w1, .int w2, .int w3] : List Value).toArray below meth c H locs 0 0 (MQ below (va_Ql (fun (r' : Int64) (_ : Unit) => r' = out) (cPost (dC, dI) [(cyI, .int), (cyJ, .long), (cyB, .byte), (cyS, .object "SelfTuner$State"), (cyD, .double)] [(h, .inr (6, [.ref aAl, .ref aSv, .ref aAs, .int sN, .int sTh, .ref aF, .ref aG, .ref aK, .long sS, .ref aTx, .int sTl, .int sPl, .ref aRd])), (aAl, .inl (cyJ, 76, .inr (.inl sAl))), (aSv, .inl (cyJ, 304, .inr (.inl sSv))), (aAs, .inl (cyJ, 76, .inr (.inl sAs))), (aF, .inl (cyJ, 3, .inr (.inl sF))), (aG, .inl (cyJ, 3, .inr (.inl sG))), (aK, .inl (cyJ, 3, .inr (.inl sK))), (aTx, .inl (cyI, 120, .inl sTx)), (aRd, .inl (cyI, 63, .inl sRd))] A) A) ([.ref h, .long w1, .int w2, .int w3] : List Value).toArray s 0 0 A) (F0 m 6 ls []) := by
    intro n1
    induction n1 with
    | zero => intro K2 v3 v4 H locs ls hF; exact no_e (show none = some out from hF)
    | succ n1 ihn1 =>
      intro K2 v3 v4 H locs ls hF hP hD hS hl kxn1
      rw [F_X6_sums_6] at hF
      refine lv_iload hx hb dX6_sums_6 (lv_at hl 4 rfl) ?_
      refine lv_iload hx hb dX6_sums_8 (lv_at hl 2 rfl) ?_
      refine lv_icmp_ge (tgt := 37) hx hb dX6_sums_10 (by decide) (fun c5 => ?_) (fun c5 => ?_)
      · have hF := ite_t hF c5
        exact kxn1 _ _ _ _ hF hP hD hS (lv_sub hl [3] rfl)
      · have hF := ite_f hF c5
        refine lv_ldc2 (v := 31) hx hb hown (hts _ kX6_sums_1) dX6_sums_13 ?_
        refine lv_lload hx hb dX6_sums_16 (lv_at hl 3 rfl) ?_
        refine lv_lmul hx hb dX6_sums_18 ?_
        refine lv_aload_n hx hb dX6_sums_19 rfl (lv_at hl 0 rfl) ?_
        refine va_get (D := (dC, dI)) (ci := 6) (v := .ref aAl) (C := RX6) (T := TX6) (N := 13) hx hb hts iX6_sums_X6 hown hK hP 0 rfl rfl 0 (by decide) (hts _ kX6_sums_2) (fun _ h9 => h9) rfl dX6_sums_20 ?_
        refine lv_iload_n hx hb dX6_sums_23 rfl (lv_at hl 1 rfl) ?_
        refine lv_iload hx hb dX6_sums_24 (lv_at hl 4 rfl) ?_
        refine lv_iadd hx hb dX6_sums_26 ?_
        obtain ⟨g6, hF⟩ := ck_e hF
        refine x_lald hx hb hK hP 1 1 rfl rfl rfl g6 dX6_sums_27 ?_
        refine lv_ladd hx hb dX6_sums_28 ?_
        obtain ⟨v7, hv7, hF⟩ := lt_e hF
        refine x_topl hv7 ?_
        refine lv_lstore (lv' := [(5, .long v7), (0, .ref h), (3, .int w2), (4, .int w3), (7, .int v4)]) hx hb dX6_sums_29 hl (by decide) rfl (fun ls hl => ?_)
        obtain ⟨v8, hv8, hF⟩ := lt_e hF
        refine lv_iinc (v := v8) (lv' := [(7, .int v8), (5, .long v7), (0, .ref h), (3, .int w2), (4, .int w3)]) hx hb dX6_sums_31 hl (k := 4) rfl (by rw [hv8]; rfl) (by decide) rfl (fun ls hl => ?_)
        refine lv_goto (tgt := 6) hx hb dX6_sums_34 (by decide) ?_
        exact ihn1 _ _ _ _ _ _ hF hP hD hS (lv_sub hl [2, 3, 4, 1, 0] rfl) kxn1
  refine Ln1 _ _ _ _ _ _ _ hF hP hD hS (lv_sub hl [2, 4, 5, 1, 0] rfl) (fun x9 H locs ls hF hP hD hS hl => ?_)
  refine lv_lload hx hb dX6_sums_37 (lv_at hl 0 rfl) ?_
  obtain rfl := some_e hF
  exact W.lret (v := x9) hx hb hr (fun t ht hW => ⟨⟨x9, (), rfl, rfl, ⟨by rw [ht]; exact hP, va_K.moved hW.alike hK, hD⟩⟩, hS.F ht⟩) hS.2.2 dX6_sums_39
def F_X6_digest_24 (sAl : Nat → Int64) : Nat → ((Int64) → Option (Int64 × Int32)) → Int64 → Int32 → Option (Int64 × Int32)
  | 0, _, _, _ => none
  | n2 + 1, K3, v4, v5 => if (3 : Int32) ≤ v5 then (K3 v4) else (ob (F_X6_sums sAl v4 (7 + (2 * v5)) 2) (fun o7 => ob (F_X6_sums sAl o7 (13 + v5) 1) (fun o8 => lt_ (α := Int32) (v5 + 1) (fun v9 => F_X6_digest_24 sAl n2 K3 o8 v9))))
def F_X6_digest (sN : Int32) (sTl : Int32) (sAl : Nat → Int64) : Option (Int64 × Int32) := ob (F_X6_sums sAl (92101 + sTl.toInt64) 0 7) (fun o1 => F_X6_digest_24 sAl 1000 (fun x10 => ob (F_X6_sums sAl x10 16 20) (fun o11 => ob (F_X6_windowLong sAl) (fun o12 => lt_ (α := Int64) ((31 * o11) + o12.toInt64) (fun v13 => ob (F_X6_determinantNow sAl) (fun o14 => lt_ (α := Int64) ((31 * v13) + o14) (fun v15 => some ((31 * v15) + sN.toInt64, 0))))))) o1 0)
theorem kX6_digest_1 : (Cond.fieldLink RX6 54 "SelfTunerModel" "thrown" "I") ∈ wsX6_digest := List.mem_of_getElem? (i := 1) rfl
theorem kX6_digest_2 : (Cond.constantLong RX6 225 (92101)) ∈ wsX6_digest := List.mem_of_getElem? (i := 2) rfl
theorem kX6_digest_3 : (Cond.fieldLink RX6 203 "SelfTunerModel" "textLong" "I") ∈ wsX6_digest := List.mem_of_getElem? (i := 3) rfl
theorem kX6_digest_4 : (Cond.constantLong RX6 223 (31)) ∈ wsX6_digest := List.mem_of_getElem? (i := 4) rfl
theorem kX6_digest_5 : (Cond.fieldLink RX6 58 "SelfTunerModel" "savedMany" "I") ∈ wsX6_digest := List.mem_of_getElem? (i := 5) rfl
theorem iX6_digest_X6 : ∀ w ∈ wsX60, w ∈ wsX6_digest := fun w h => List.mem_cons_of_mem _ (List.mem_append_right _ h)
set_option maxHeartbeats 4000000 in
set_option maxRecDepth 100000 in
theorem c_X6_digest (l : Launch) (dC : Nat → ClassId) (dI : Nat → Nat → Nat) (cyI cyJ cyB cyS cyD : ClassId) (h : Nat) (aAl : Nat) (aSv : Nat) (aAs : Nat) (aF : Nat) (aG : Nat) (aK : Nat) (aTx : Nat) (aRd : Nat) (sz : Nat) (sN : Int32) (sTh : Int32) (sS : Int64) (sTl : Int32) (sPl : Int32) (sAl : Nat → Int64) (sSv : Nat → Int64) (sAs : Nat → Int64) (sF : Nat → Int64) (sG : Nat → Int64) (sK : Nat → Int64) (sTx : Nat → Int32) (sRd : Nat → Int32) {out : Int64 × Int32} (hF : F_X6_digest sN sTl sAl = some out) : Ml l yX6_digest wsX6_digest ({ frames := 2, cells := 0, slots := 0, locals := 51 } : Room) (dC, dI) [(cyI, .int), (cyJ, .long), (cyB, .byte), (cyS, .object "SelfTuner$State"), (cyD, .double)] sz [.ref h] [(h, .inr (6, [.ref aAl, .ref aSv, .ref aAs, .int sN, .int sTh, .ref aF, .ref aG, .ref aK, .long sS, .ref aTx, .int sTl, .int sPl, .ref aRd])), (aAl, .inl (cyJ, 76, .inr (.inl sAl))), (aSv, .inl (cyJ, 304, .inr (.inl sSv))), (aAs, .inl (cyJ, 76, .inr (.inl sAs))), (aF, .inl (cyJ, 3, .inr (.inl sF))), (aG, .inl (cyJ, 3, .inr (.inl sG))), (aK, .inl (cyJ, 3, .inr (.inl sK))), (aTx, .inl (cyI, 120, .inl sTx)), (aRd, .inl (cyI, 63, .inl sRd))] out.1 [(h, .inr (6, [.ref aAl, .ref aSv, .ref aAs, .int sN, .int out.2, .ref aF, .ref aG, .ref aK, .long sS, .ref aTx, .int sTl, .int sPl, .ref aRd])), (aAl, .inl (cyJ, 76, .inr (.inl sAl))), (aSv, .inl (cyJ, 304, .inr (.inl sSv))), (aAs, .inl (cyJ, 76, .inr (.inl sAs))), (aF, .inl (cyJ, 3, .inr (.inl sF))), (aG, .inl (cyJ, 3, .inr (.inl sG))), (aK, .inl (cyJ, 3, .inr (.inl sK))), (aTx, .inl (cyI, 120, .inl sTx)), (aRd, .inl (cyI, 63, .inl sRd))] := by
  refine Met.ofW (cc := cX6_digest) (maxL := 4) (ret := (some .long)) (by decide) rfl ?_
  intro p e s m args below meth c s₁ B hml hv
  obtain ⟨rfl, hN, hsz, hP, hK, hD0⟩ := hv
  have hx := B.exec
  have hb := B.bytes
  have hr := B.returns
  have hts := atoms_spec (ws := wsX6_digest) B.pre
  have hown : s.vm.findClass RX6 = some m.cls := findClass_of_methodNamed B.named
  have hlocks := B.notSynchronized
  subst hsz
  have hD := hD0.self (sz := s.heap.size)
  generalize hAe : va_A [(h, .inr (6, [.ref aAl, .ref aSv, .ref aAs, .int sN, .int sTh, .ref aF, .ref aG, .ref aK, .long sS, .ref aTx, .int sTl, .int sPl, .ref aRd])), (aAl, .inl (cyJ, 76, .inr (.inl sAl))), (aSv, .inl (cyJ, 304, .inr (.inl sSv))), (aAs, .inl (cyJ, 76, .inr (.inl sAs))), (aF, .inl (cyJ, 3, .inr (.inl sF))), (aG, .inl (cyJ, 3, .inr (.inl sG))), (aK, .inl (cyJ, 3, .inr (.inl sK))), (aTx, .inl (cyI, 120, .inl sTx)), (aRd, .inl (cyI, 63, .inl sRd))] s.heap.size = A at hD ⊢
  have hA : ∀ q : Nat, s.heap.size ≤ q → A q := fun q h => by rw [← hAe]; exact Or.inr h
  have hS : va_S A s.heap s.heap [] := va_S.rf
  have hP : va_P (dC, dI) vwCl [(h, .inr (6, [.ref aAl, .ref aSv, .ref aAs, .int sN, .int sTh, .ref aF, .ref aG, .ref aK, .long sS, .ref aTx, .int sTl, .int sPl, .ref aRd])), (aAl, .inl (cyJ, 76, .inr (.inl sAl))), (aSv, .inl (cyJ, 304, .inr (.inl sSv))), (aAs, .inl (cyJ, 76, .inr (.inl sAs))), (aF, .inl (cyJ, 3, .inr (.inl sF))), (aG, .inl (cyJ, 3, .inr (.inl sG))), (aK, .inl (cyJ, 3, .inr (.inl sK))), (aTx, .inl (cyI, 120, .inl sTx)), (aRd, .inl (cyI, 63, .inl sRd))] s.heap := hP
  have hl := lv_entry ([.ref h]) (n := 4) (Nat.le_of_ble_eq_true rfl)
  rw [lg_entry_eq]
  generalize (lg_sl ([.ref h]) ++ List.replicate (4 - (lg_sl ([.ref h])).length) Slot.unset).toArray = ls at hl ⊢
  have hl : lv_has ls 4 [(0, .ref h)] := hl
  unfold F_X6_digest at hF
  refine lv_aload_n hx hb dX6_digest_0 rfl (lv_at hl 0 rfl) ?_
  refine lv_iconst (v := 0) hx hb dX6_digest_1 (by decide) ?_
  refine x_put (D := (dC, dI)) (ci := 6) (v := .int 0) (ty := .int) (C := RX6) (T := TX6) (N := 13) (ws' := [(h, .inr (6, [.ref aAl, .ref aSv, .ref aAs, .int sN, .int 0, .ref aF, .ref aG, .ref aK, .long sS, .ref aTx, .int sTl, .int sPl, .ref aRd])), (aAl, .inl (cyJ, 76, .inr (.inl sAl))), (aSv, .inl (cyJ, 304, .inr (.inl sSv))), (aAs, .inl (cyJ, 76, .inr (.inl sAs))), (aF, .inl (cyJ, 3, .inr (.inl sF))), (aG, .inl (cyJ, 3, .inr (.inl sG))), (aK, .inl (cyJ, 3, .inr (.inl sK))), (aTx, .inl (cyI, 120, .inl sTx)), (aRd, .inl (cyI, 63, .inl sRd))]) hx hb hts iX6_digest_X6 tyX6 tyX6_ok nmX6 hown hK hP hD hS 0 rfl rfl 4 (by decide) (hts _ kX6_digest_1) (fun _ h9 => h9) rfl (by decide +kernel) rfl rfl (Nat.le_of_ble_eq_true rfl) rfl dX6_digest_2 (fun H locs hP hD hS => ?_)
  refine lv_aload_n hx hb dX6_digest_5 rfl (lv_at hl 0 rfl) ?_
  refine lv_ldc2 (v := 92101) hx hb hown (hts _ kX6_digest_2) dX6_digest_6 ?_
  refine lv_aload_n hx hb dX6_digest_9 rfl (lv_at hl 0 rfl) ?_
  refine va_get (D := (dC, dI)) (ci := 6) (v := .int sTl) (C := RX6) (T := TX6) (N := 13) hx hb hts iX6_digest_X6 hown hK hP 0 rfl rfl 10 (by decide) (hts _ kX6_digest_3) (fun _ h9 => h9) rfl dX6_digest_10 ?_
  refine lv_i2l (v := sTl.toInt64) hx hb dX6_digest_13 rfl ?_
  refine lv_ladd hx hb dX6_digest_14 ?_
  refine lv_iconst (v := 0) hx hb dX6_digest_15 (by decide) ?_
  refine lv_bipush (v := 7) hx hb dX6_digest_16 (by decide) ?_
  obtain ⟨o1, ho1, hF⟩ := ob_e hF
  refine x_calll (wr := []) (ws' := [(h, .inr (6, [.ref aAl, .ref aSv, .ref aAs, .int sN, .int 0, .ref aF, .ref aG, .ref aK, .long sS, .ref aTx, .int sTl, .int sPl, .ref aRd])), (aAl, .inl (cyJ, 76, .inr (.inl sAl))), (aSv, .inl (cyJ, 304, .inr (.inl sSv))), (aAs, .inl (cyJ, 76, .inr (.inl sAs))), (aF, .inl (cyJ, 3, .inr (.inl sF))), (aG, .inl (cyJ, 3, .inr (.inl sG))), (aK, .inl (cyJ, 3, .inr (.inl sK))), (aTx, .inl (cyI, 120, .inl sTx)), (aRd, .inl (cyI, 63, .inl sRd))]) (va_runV (As := [.long (92101 + sTl.toInt64), .int 0, .int 7]) (rest := []) ⟨hx, hb, hml, hown, hts⟩ (c_X6_sums l dC dI cyI cyJ cyB cyS cyD h aAl aSv aAs aF aG aK aTx aRd H.size sN 0 sS sTl sPl sAl sSv sAs sF sG sK sTx sRd (92101 + sTl.toInt64) 0 7 ho1) (cwV 3 hts gX6_digest_X6_sums rfl rfl rfl (by decide +kernel) ⟨Nat.le_of_ble_eq_true rfl, Nat.le_of_ble_eq_true rfl⟩) ⟨cPre_blind, va_recv hK hP (ci := 6) (q0 := 0) rfl rfl, x_pre hN hP hD hK [0, 1, 2, 3, 4, 5, 6, 7, 8] rfl rfl⟩ rfl rfl hl.1 rfl (lv_room (Nat.le_of_ble_eq_true rfl)) dX6_digest_18 ⟨Nat.le_of_ble_eq_true rfl, Nat.le_of_ble_eq_true rfl⟩) hP hD hS hA [0, 1, 2, 3, 4, 5, 6, 7, 8] [] [0, 1, 2, 3, 4, 5, 6, 7, 8] rfl rfl rfl (by decide) rfl rfl (fun H locs hP hD hS => ?_)
  refine lv_lstore_n (lv' := [(1, .long o1), (0, .ref h)]) hx hb dX6_digest_21 rfl hl (by decide) rfl (fun ls hl => ?_)
  refine lv_iconst (v := 0) hx hb dX6_digest_22 (by decide) ?_
  refine lv_istore_n (lv' := [(3, .int 0), (1, .long o1), (0, .ref h)]) hx hb dX6_digest_23 rfl hl (by decide) rfl (fun ls hl => ?_)
  have Ln2 : ∀ (n2 : Nat) (K3 : (Int64) → Option (Int64 × Int32)) (v4 : Int64) (v5 : Int32) (H : Heap) (locs : List Loc) (ls : Array Slot), F_X6_digest_24 sAl n2 K3 v4 v5 = some out → va_P (dC, dI) vwCl [(h, .inr (6, [.ref aAl, .ref aSv, .ref aAs, .int sN, .int 0, .ref aF, .ref aG, .ref aK, .long sS, .ref aTx, .int sTl, .int sPl, .ref aRd])), (aAl, .inl (cyJ, 76, .inr (.inl sAl))), (aSv, .inl (cyJ, 304, .inr (.inl sSv))), (aAs, .inl (cyJ, 76, .inr (.inl sAs))), (aF, .inl (cyJ, 3, .inr (.inl sF))), (aG, .inl (cyJ, 3, .inr (.inl sG))), (aK, .inl (cyJ, 3, .inr (.inl sK))), (aTx, .inl (cyI, 120, .inl sTx)), (aRd, .inl (cyI, 63, .inl sRd))] H → va_D A [(h, .inr (6, [.ref aAl, .ref aSv, .ref aAs, .int sN, .int 0, .ref aF, .ref aG, .ref aK, .long sS, .ref aTx, .int sTl, .int sPl, .ref aRd])), (aAl, .inl (cyJ, 76, .inr (.inl sAl))), (aSv, .inl (cyJ, 304, .inr (.inl sSv))), (aAs, .inl (cyJ, 76, .inr (.inl sAs))), (aF, .inl (cyJ, 3, .inr (.inl sF))), (aG, .inl (cyJ, 3, .inr (.inl sG))), (aK, .inl (cyJ, 3, .inr (.inl sK))), (aTx, .inl (cyI, 120, .inl sTx)), (aRd, .inl (cyI, 63, .inl sRd))] → va_S A s.heap H locs → lv_has ls 4 [(0, .ref h), (1, .long v4), (3, .int v5)] → (∀ (x10 : Int64) (H : Heap) (locs : List Loc) (ls : Array Slot), K3 x10 = some out → va_P (dC, dI) vwCl [(h, .inr (6, [.ref aAl, .ref aSv, .ref aAs, .int sN, .int 0, .ref aF, .ref aG, .ref aK, .long sS, .ref aTx, .int sTl, .int sPl, .ref aRd])), (aAl, .inl (cyJ, 76, .inr (.inl sAl))), (aSv, .inl (cyJ, 304, .inr (.inl sSv))), (aAs, .inl (cyJ, 76, .inr (.inl sAs))), (aF, .inl (cyJ, 3, .inr (.inl sF))), (aG, .inl (cyJ, 3, .inr (.inl sG))), (aK, .inl (cyJ, 3, .inr (.inl sK))), (aTx, .inl (cyI, 120, .inl sTx)), (aRd, .inl (cyI, 63, .inl sRd))] H → va_D A [(h, .inr (6, [.ref aAl, .ref aSv, .ref aAs, .int sN, .int 0, .ref aF, .ref aG, .ref aK, .long sS, .ref aTx, .int sTl, .int sPl, .ref aRd])), (aAl, .inl (cyJ, 76, .inr (.inl sAl))), (aSv, .inl (cyJ, 304, .inr (.inl sSv))), (aAs, .inl (cyJ, 76, .inr (.inl sAs))), (aF, .inl (cyJ, 3, .inr (.inl sF))), (aG, .inl (cyJ, 3, .inr (.inl sG))), (aK, .inl (cyJ, 3, .inr (.inl sK))), (aTx, .inl (cyI, 120, .inl sTx)), (aRd, .inl (cyI, 63, .inl sRd))] → va_S A s.heap H locs → lv_has ls 4 [(0, .ref h), (1, .long x10)] → W p l e (headSpec wsX6_digest ({ frames := 2, cells := 0, slots := 0, locals := 51 } : Room)).room s m ([.ref h] : List Value).toArray below meth c H locs 0 0 (MQ below (va_Ql (fun (r' : Int64) (_ : Unit) => r' = out.1) (cPost (dC, dI) [(cyI, .int), (cyJ, .long), (cyB, .byte), (cyS, .object "SelfTuner$State"), (cyD, .double)] [(h, .inr (6, [.ref aAl, .ref aSv, .ref aAs, .int sN, .int out.2, .ref aF, .ref aG, .ref aK, .long sS, .ref aTx, .int sTl, .int sPl, .ref aRd])), (aAl, .inl (cyJ, 76, .inr (.inl sAl))), (aSv, .inl (cyJ, 304, .inr (.inl sSv))), (aAs, .inl (cyJ, 76, .inr (.inl sAs))), (aF, .inl (cyJ, 3, .inr (.inl sF))), (aG, .inl (cyJ, 3, .inr (.inl sG))), (aK, .inl (cyJ, 3, .inr (.inl sK))), (aTx, .inl (cyI, 120, .inl sTx)), (aRd, .inl (cyI, 63, .inl sRd))] A) A) ([.ref h] : List Value).toArray s 0 0 A) (F0 m 57 ls [])) → W p l e (headSpec wsX6_digest ({ frames := 2, cells := 0, slots := 0, locals := 51 } : Room)).room s m ([.ref h] : List Value).toArray below meth c H locs 0 0 (MQ below (va_Ql (fun (r' : Int64) (_ : Unit) => r' = out.1) (cPost (dC, dI) [(cyI, .int), (cyJ, .long), (cyB, .byte), (cyS, .object "SelfTuner$State"), (cyD, .double)] [(h, .inr (6, [.ref aAl, .ref aSv, .ref aAs, .int sN, .int out.2, .ref aF, .ref aG, .ref aK, .long sS, .ref aTx, .int sTl, .int sPl, .ref aRd])), (aAl, .inl (cyJ, 76, .inr (.inl sAl))), (aSv, .inl (cyJ, 304, .inr (.inl sSv))), (aAs, .inl (cyJ, 76, .inr (.inl sAs))), (aF, .inl (cyJ, 3, .inr (.inl sF))), (aG, .inl (cyJ, 3, .inr (.inl sG))), (aK, .inl (cyJ, 3, .inr (.inl sK))), (aTx, .inl (cyI, 120, .inl sTx)), (aRd, .inl (cyI, 63, .inl sRd))] A) A) ([.ref h] : List Value).toArray s 0 0 A) (F0 m 24 ls []) := by
    intro n2
    induction n2 with
    | zero => intro K3 v4 v5 H locs ls hF; exact no_e (show none = some out from hF)
    | succ n2 ihn2 =>
      intro K3 v4 v5 H locs ls hF hP hD hS hl kxn2
      rw [F_X6_digest_24] at hF
      refine lv_iload_n hx hb dX6_digest_24 rfl (lv_at hl 2 rfl) ?_
      refine lv_iconst (v := 3) hx hb dX6_digest_25 (by decide) ?_
      refine lv_icmp_ge (tgt := 57) hx hb dX6_digest_26 (by decide) (fun c6 => ?_) (fun c6 => ?_)
      · have hF := ite_t hF c6
        exact kxn2 _ _ _ _ hF hP hD hS (lv_sub hl [0, 1] rfl)
      · have hF := ite_f hF c6
        refine lv_aload_n hx hb dX6_digest_29 rfl (lv_at hl 0 rfl) ?_
        refine lv_aload_n hx hb dX6_digest_30 rfl (lv_at hl 0 rfl) ?_
        refine lv_lload_n hx hb dX6_digest_31 rfl (lv_at hl 1 rfl) ?_
        refine lv_bipush (v := 7) hx hb dX6_digest_32 (by decide) ?_
        refine lv_iconst (v := 2) hx hb dX6_digest_34 (by decide) ?_
        refine lv_iload_n hx hb dX6_digest_35 rfl (lv_at hl 2 rfl) ?_
        refine lv_imul hx hb dX6_digest_36 ?_
        refine lv_iadd hx hb dX6_digest_37 ?_
        refine lv_iconst (v := 2) hx hb dX6_digest_38 (by decide) ?_
        obtain ⟨o7, ho7, hF⟩ := ob_e hF
        refine x_calll (wr := []) (ws' := [(h, .inr (6, [.ref aAl, .ref aSv, .ref aAs, .int sN, .int 0, .ref aF, .ref aG, .ref aK, .long sS, .ref aTx, .int sTl, .int sPl, .ref aRd])), (aAl, .inl (cyJ, 76, .inr (.inl sAl))), (aSv, .inl (cyJ, 304, .inr (.inl sSv))), (aAs, .inl (cyJ, 76, .inr (.inl sAs))), (aF, .inl (cyJ, 3, .inr (.inl sF))), (aG, .inl (cyJ, 3, .inr (.inl sG))), (aK, .inl (cyJ, 3, .inr (.inl sK))), (aTx, .inl (cyI, 120, .inl sTx)), (aRd, .inl (cyI, 63, .inl sRd))]) (va_runV (As := [.long v4, .int (7 + (2 * v5)), .int 2]) (rest := [.ref h]) ⟨hx, hb, hml, hown, hts⟩ (c_X6_sums l dC dI cyI cyJ cyB cyS cyD h aAl aSv aAs aF aG aK aTx aRd H.size sN 0 sS sTl sPl sAl sSv sAs sF sG sK sTx sRd v4 (7 + (2 * v5)) 2 ho7) (cwV 3 hts gX6_digest_X6_sums rfl rfl rfl (by decide +kernel) ⟨Nat.le_of_ble_eq_true rfl, Nat.le_of_ble_eq_true rfl⟩) ⟨cPre_blind, va_recv hK hP (ci := 6) (q0 := 0) rfl rfl, x_pre hN hP hD hK [0, 1, 2, 3, 4, 5, 6, 7, 8] rfl rfl⟩ rfl rfl hl.1 rfl (lv_room (Nat.le_of_ble_eq_true rfl)) dX6_digest_39 ⟨Nat.le_of_ble_eq_true rfl, Nat.le_of_ble_eq_true rfl⟩) hP hD hS hA [0, 1, 2, 3, 4, 5, 6, 7, 8] [] [0, 1, 2, 3, 4, 5, 6, 7, 8] rfl rfl rfl (by decide) rfl rfl (fun H locs hP hD hS => ?_)
        refine lv_bipush (v := 13) hx hb dX6_digest_42 (by decide) ?_
        refine lv_iload_n hx hb dX6_digest_44 rfl (lv_at hl 2 rfl) ?_
        refine lv_iadd hx hb dX6_digest_45 ?_
        refine lv_iconst (v := 1) hx hb dX6_digest_46 (by decide) ?_
        obtain ⟨o8, ho8, hF⟩ := ob_e hF
        refine x_calll (wr := []) (ws' := [(h, .inr (6, [.ref aAl, .ref aSv, .ref aAs, .int sN, .int 0, .ref aF, .ref aG, .ref aK, .long sS, .ref aTx, .int sTl, .int sPl, .ref aRd])), (aAl, .inl (cyJ, 76, .inr (.inl sAl))), (aSv, .inl (cyJ, 304, .inr (.inl sSv))), (aAs, .inl (cyJ, 76, .inr (.inl sAs))), (aF, .inl (cyJ, 3, .inr (.inl sF))), (aG, .inl (cyJ, 3, .inr (.inl sG))), (aK, .inl (cyJ, 3, .inr (.inl sK))), (aTx, .inl (cyI, 120, .inl sTx)), (aRd, .inl (cyI, 63, .inl sRd))]) (va_runV (As := [.long o7, .int (13 + v5), .int 1]) (rest := []) ⟨hx, hb, hml, hown, hts⟩ (c_X6_sums l dC dI cyI cyJ cyB cyS cyD h aAl aSv aAs aF aG aK aTx aRd H.size sN 0 sS sTl sPl sAl sSv sAs sF sG sK sTx sRd o7 (13 + v5) 1 ho8) (cwV 3 hts gX6_digest_X6_sums rfl rfl rfl (by decide +kernel) ⟨Nat.le_of_ble_eq_true rfl, Nat.le_of_ble_eq_true rfl⟩) ⟨cPre_blind, va_recv hK hP (ci := 6) (q0 := 0) rfl rfl, x_pre hN hP hD hK [0, 1, 2, 3, 4, 5, 6, 7, 8] rfl rfl⟩ rfl rfl hl.1 rfl (lv_room (Nat.le_of_ble_eq_true rfl)) dX6_digest_47 ⟨Nat.le_of_ble_eq_true rfl, Nat.le_of_ble_eq_true rfl⟩) hP hD hS hA [0, 1, 2, 3, 4, 5, 6, 7, 8] [] [0, 1, 2, 3, 4, 5, 6, 7, 8] rfl rfl rfl (by decide) rfl rfl (fun H locs hP hD hS => ?_)
        refine lv_lstore_n (lv' := [(1, .long o8), (0, .ref h), (3, .int v5)]) hx hb dX6_digest_50 rfl hl (by decide) rfl (fun ls hl => ?_)
        obtain ⟨v9, hv9, hF⟩ := lt_e hF
        refine lv_iinc (v := v9) (lv' := [(3, .int v9), (1, .long o8), (0, .ref h)]) hx hb dX6_digest_51 hl (k := 2) rfl (by rw [hv9]; rfl) (by decide) rfl (fun ls hl => ?_)
        refine lv_goto (tgt := 24) hx hb dX6_digest_54 (by decide) ?_
        exact ihn2 _ _ _ _ _ _ hF hP hD hS (lv_sub hl [2, 1, 0] rfl) kxn2
  refine Ln2 _ _ _ _ _ _ _ hF hP hD hS (lv_sub hl [2, 1, 0] rfl) (fun x10 H locs ls hF hP hD hS hl => ?_)
  refine lv_aload_n hx hb dX6_digest_57 rfl (lv_at hl 0 rfl) ?_
  refine lv_lload_n hx hb dX6_digest_58 rfl (lv_at hl 1 rfl) ?_
  refine lv_bipush (v := 16) hx hb dX6_digest_59 (by decide) ?_
  refine lv_bipush (v := 20) hx hb dX6_digest_61 (by decide) ?_
  obtain ⟨o11, ho11, hF⟩ := ob_e hF
  refine x_calll (wr := []) (ws' := [(h, .inr (6, [.ref aAl, .ref aSv, .ref aAs, .int sN, .int 0, .ref aF, .ref aG, .ref aK, .long sS, .ref aTx, .int sTl, .int sPl, .ref aRd])), (aAl, .inl (cyJ, 76, .inr (.inl sAl))), (aSv, .inl (cyJ, 304, .inr (.inl sSv))), (aAs, .inl (cyJ, 76, .inr (.inl sAs))), (aF, .inl (cyJ, 3, .inr (.inl sF))), (aG, .inl (cyJ, 3, .inr (.inl sG))), (aK, .inl (cyJ, 3, .inr (.inl sK))), (aTx, .inl (cyI, 120, .inl sTx)), (aRd, .inl (cyI, 63, .inl sRd))]) (va_runV (As := [.long x10, .int 16, .int 20]) (rest := []) ⟨hx, hb, hml, hown, hts⟩ (c_X6_sums l dC dI cyI cyJ cyB cyS cyD h aAl aSv aAs aF aG aK aTx aRd H.size sN 0 sS sTl sPl sAl sSv sAs sF sG sK sTx sRd x10 16 20 ho11) (cwV 3 hts gX6_digest_X6_sums rfl rfl rfl (by decide +kernel) ⟨Nat.le_of_ble_eq_true rfl, Nat.le_of_ble_eq_true rfl⟩) ⟨cPre_blind, va_recv hK hP (ci := 6) (q0 := 0) rfl rfl, x_pre hN hP hD hK [0, 1, 2, 3, 4, 5, 6, 7, 8] rfl rfl⟩ rfl rfl hl.1 rfl (lv_room (Nat.le_of_ble_eq_true rfl)) dX6_digest_63 ⟨Nat.le_of_ble_eq_true rfl, Nat.le_of_ble_eq_true rfl⟩) hP hD hS hA [0, 1, 2, 3, 4, 5, 6, 7, 8] [] [0, 1, 2, 3, 4, 5, 6, 7, 8] rfl rfl rfl (by decide) rfl rfl (fun H locs hP hD hS => ?_)
  refine lv_lstore_n (lv' := [(1, .long o11), (0, .ref h)]) hx hb dX6_digest_66 rfl hl (by decide) rfl (fun ls hl => ?_)
  refine lv_ldc2 (v := 31) hx hb hown (hts _ kX6_digest_4) dX6_digest_67 ?_
  refine lv_lload_n hx hb dX6_digest_70 rfl (lv_at hl 0 rfl) ?_
  refine lv_lmul hx hb dX6_digest_71 ?_
  refine lv_aload_n hx hb dX6_digest_72 rfl (lv_at hl 1 rfl) ?_
  obtain ⟨o12, ho12, hF⟩ := ob_e hF
  refine x_calli (wr := []) (ws' := [(h, .inr (6, [.ref aAl, .ref aSv, .ref aAs, .int sN, .int 0, .ref aF, .ref aG, .ref aK, .long sS, .ref aTx, .int sTl, .int sPl, .ref aRd])), (aAl, .inl (cyJ, 76, .inr (.inl sAl))), (aSv, .inl (cyJ, 304, .inr (.inl sSv))), (aAs, .inl (cyJ, 76, .inr (.inl sAs))), (aF, .inl (cyJ, 3, .inr (.inl sF))), (aG, .inl (cyJ, 3, .inr (.inl sG))), (aK, .inl (cyJ, 3, .inr (.inl sK))), (aTx, .inl (cyI, 120, .inl sTx)), (aRd, .inl (cyI, 63, .inl sRd))]) (va_runV (As := []) (rest := [.long (31 * o11)]) ⟨hx, hb, hml, hown, hts⟩ (c_X6_windowLong l dC dI cyI cyJ cyB cyS cyD h aAl aSv aAs aF aG aK aTx aRd H.size sN 0 sS sTl sPl sAl sSv sAs sF sG sK sTx sRd ho12) (cwV 0 hts gX6_digest_X6_windowLong rfl rfl rfl (by decide +kernel) ⟨Nat.le_of_ble_eq_true rfl, Nat.le_of_ble_eq_true rfl⟩) ⟨cPre_blind, va_recv hK hP (ci := 6) (q0 := 0) rfl rfl, x_pre hN hP hD hK [0, 1, 2, 3, 4, 5, 6, 7, 8] rfl rfl⟩ rfl rfl hl.1 rfl (lv_room (Nat.le_of_ble_eq_true rfl)) dX6_digest_73 ⟨Nat.le_of_ble_eq_true rfl, Nat.le_of_ble_eq_true rfl⟩) hP hD hS hA [0, 1, 2, 3, 4, 5, 6, 7, 8] [] [0, 1, 2, 3, 4, 5, 6, 7, 8] rfl rfl rfl (by decide) rfl rfl (fun H locs hP hD hS => ?_)
  refine lv_i2l (v := o12.toInt64) hx hb dX6_digest_76 rfl ?_
  refine lv_ladd hx hb dX6_digest_77 ?_
  obtain ⟨v13, hv13, hF⟩ := lt_e hF
  refine x_topl hv13 ?_
  refine lv_lstore_n (lv' := [(1, .long v13), (0, .ref h)]) hx hb dX6_digest_78 rfl hl (by decide) rfl (fun ls hl => ?_)
  refine lv_ldc2 (v := 31) hx hb hown (hts _ kX6_digest_4) dX6_digest_79 ?_
  refine lv_lload_n hx hb dX6_digest_82 rfl (lv_at hl 0 rfl) ?_
  refine lv_lmul hx hb dX6_digest_83 ?_
  refine lv_aload_n hx hb dX6_digest_84 rfl (lv_at hl 1 rfl) ?_
  obtain ⟨o14, ho14, hF⟩ := ob_e hF
  refine x_calll (wr := []) (ws' := [(h, .inr (6, [.ref aAl, .ref aSv, .ref aAs, .int sN, .int 0, .ref aF, .ref aG, .ref aK, .long sS, .ref aTx, .int sTl, .int sPl, .ref aRd])), (aAl, .inl (cyJ, 76, .inr (.inl sAl))), (aSv, .inl (cyJ, 304, .inr (.inl sSv))), (aAs, .inl (cyJ, 76, .inr (.inl sAs))), (aF, .inl (cyJ, 3, .inr (.inl sF))), (aG, .inl (cyJ, 3, .inr (.inl sG))), (aK, .inl (cyJ, 3, .inr (.inl sK))), (aTx, .inl (cyI, 120, .inl sTx)), (aRd, .inl (cyI, 63, .inl sRd))]) (va_runV (As := []) (rest := [.long (31 * v13)]) ⟨hx, hb, hml, hown, hts⟩ (c_X6_determinantNow l dC dI cyI cyJ cyB cyS cyD h aAl aSv aAs aF aG aK aTx aRd H.size sN 0 sS sTl sPl sAl sSv sAs sF sG sK sTx sRd ho14) (cwV 0 hts gX6_digest_X6_determinantNow rfl rfl rfl (by decide +kernel) ⟨Nat.le_of_ble_eq_true rfl, Nat.le_of_ble_eq_true rfl⟩) ⟨cPre_blind, va_recv hK hP (ci := 6) (q0 := 0) rfl rfl, x_pre hN hP hD hK [0, 1, 2, 3, 4, 5, 6, 7, 8] rfl rfl⟩ rfl rfl hl.1 rfl (lv_room (Nat.le_of_ble_eq_true rfl)) dX6_digest_85 ⟨Nat.le_of_ble_eq_true rfl, Nat.le_of_ble_eq_true rfl⟩) hP hD hS hA [0, 1, 2, 3, 4, 5, 6, 7, 8] [] [0, 1, 2, 3, 4, 5, 6, 7, 8] rfl rfl rfl (by decide) rfl rfl (fun H locs hP hD hS => ?_)
  refine lv_ladd hx hb dX6_digest_88 ?_
  obtain ⟨v15, hv15, hF⟩ := lt_e hF
  refine x_topl hv15 ?_
  refine lv_lstore_n (lv' := [(1, .long v15), (0, .ref h)]) hx hb dX6_digest_89 rfl hl (by decide) rfl (fun ls hl => ?_)
  refine lv_ldc2 (v := 31) hx hb hown (hts _ kX6_digest_4) dX6_digest_90 ?_
  refine lv_lload_n hx hb dX6_digest_93 rfl (lv_at hl 0 rfl) ?_
  refine lv_lmul hx hb dX6_digest_94 ?_
  refine lv_aload_n hx hb dX6_digest_95 rfl (lv_at hl 1 rfl) ?_
  refine va_get (D := (dC, dI)) (ci := 6) (v := .int sN) (C := RX6) (T := TX6) (N := 13) hx hb hts iX6_digest_X6 hown hK hP 0 rfl rfl 3 (by decide) (hts _ kX6_digest_5) (fun _ h9 => h9) rfl dX6_digest_96 ?_
  refine lv_i2l (v := sN.toInt64) hx hb dX6_digest_99 rfl ?_
  refine lv_ladd hx hb dX6_digest_100 ?_
  obtain rfl := some_e hF
  exact W.lret (v := (31 * v15) + sN.toInt64) hx hb hr (fun t ht hW => ⟨⟨(31 * v15) + sN.toInt64, (), rfl, rfl, ⟨by rw [ht]; exact hP, va_K.moved hW.alike hK, hD⟩⟩, hS.F ht⟩) hS.2.2 dX6_digest_101
