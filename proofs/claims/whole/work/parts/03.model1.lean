def F_X6_in (w1 : Int64) (w2 : Int64) (w3 : Int64) : Option (Int32) := if (w1 : Int64) < w2 then (some 0) else (if (w3 : Int64) < w1 then (some 0) else (some 1))
set_option maxHeartbeats 4000000 in
set_option maxRecDepth 100000 in
theorem c_X6_in (l : Launch) (w1 : Int64) (w2 : Int64) (w3 : Int64) {out : Int32} (hF : F_X6_in w1 w2 w3 = some out) : Zi l yX6_in wsX6_in ({ frames := 0, cells := 0, slots := 0, locals := 0 } : Room) [.long w1, .long w2, .long w3] out := by
  refine Met.ofW (cc := cX6_in) (maxL := 6) (ret := (some .boolean)) (by decide) rfl ?_
  intro p e s m args below meth c s₁ B hml hv
  obtain ⟨rfl, -⟩ := hv
  have hx := B.exec
  have hb := B.bytes
  have hr := B.returns
  have hts := atoms_spec (ws := wsX6_in) B.pre
  have hown : s.vm.findClass RX6 = some m.cls := findClass_of_methodNamed B.named
  have hlocks := B.notSynchronized
  have hl := lv_entry ([.long w1, .long w2, .long w3]) (n := 6) (Nat.le_of_ble_eq_true rfl)
  rw [lg_entry_eq]
  generalize (lg_sl ([.long w1, .long w2, .long w3]) ++ List.replicate (6 - (lg_sl ([.long w1, .long w2, .long w3])).length) Slot.unset).toArray = ls at hl ⊢
  have hl : lv_has ls 6 [(0, .long w1), (2, .long w2), (4, .long w3)] := hl
  unfold F_X6_in at hF
  refine lv_lload_n hx hb dX6_in_0 rfl (lv_at hl 0 rfl) ?_
  refine lv_lload_n hx hb dX6_in_1 rfl (lv_at hl 1 rfl) ?_
  refine W.lcmp hx hb dX6_in_2 ?_
  refine x_il_lt (tgt := 17) hx hb dX6_in_3 (by decide) (fun c1 => ?_) (fun c1 => ?_)
  · have hF := ite_t hF c1
    refine lv_iconst (v := 0) hx hb dX6_in_17 (by decide) ?_
    obtain rfl := some_e hF
    exact W.zret (v := 0) hx hb hr rfl (fun t ht hW => ⟨rfl, ht⟩) (fun q hq => absurd hq List.not_mem_nil) dX6_in_18
  · have hF := ite_f hF c1
    refine lv_lload_n hx hb dX6_in_6 rfl (lv_at hl 0 rfl) ?_
    refine lv_lload hx hb dX6_in_7 (lv_at hl 2 rfl) ?_
    refine W.lcmp hx hb dX6_in_9 ?_
    refine x_il_gt (tgt := 17) hx hb dX6_in_10 (by decide) (fun c2 => ?_) (fun c2 => ?_)
    · have hF := ite_t hF c2
      refine lv_iconst (v := 0) hx hb dX6_in_17 (by decide) ?_
      obtain rfl := some_e hF
      exact W.zret (v := 0) hx hb hr rfl (fun t ht hW => ⟨rfl, ht⟩) (fun q hq => absurd hq List.not_mem_nil) dX6_in_18
    · have hF := ite_f hF c2
      refine lv_iconst (v := 1) hx hb dX6_in_13 (by decide) ?_
      refine lv_goto (tgt := 18) hx hb dX6_in_14 (by decide) ?_
      obtain rfl := some_e hF
      exact W.zret (v := 1) hx hb hr rfl (fun t ht hW => ⟨rfl, ht⟩) (fun q hq => absurd hq List.not_mem_nil) dX6_in_18
def F_X6_floor (w1 : Int64) (w2 : Int64) : Option (Int64) := if (w1 : Int64) < 0 then (ck (¬ w2 = 0) (some (-((((-w1) + w2) - 1) / w2)))) else (ck (¬ w2 = 0) (some (w1 / w2)))
set_option maxHeartbeats 4000000 in
set_option maxRecDepth 100000 in
theorem c_X6_floor (l : Launch) (w1 : Int64) (w2 : Int64) {out : Int64} (hF : F_X6_floor w1 w2 = some out) : Zl l yX6_floor wsX6_floor ({ frames := 0, cells := 0, slots := 0, locals := 0 } : Room) [.long w1, .long w2] out := by
  refine Met.ofW (cc := cX6_floor) (maxL := 4) (ret := (some .long)) (by decide) rfl ?_
  intro p e s m args below meth c s₁ B hml hv
  obtain ⟨rfl, -⟩ := hv
  have hx := B.exec
  have hb := B.bytes
  have hr := B.returns
  have hts := atoms_spec (ws := wsX6_floor) B.pre
  have hown : s.vm.findClass RX6 = some m.cls := findClass_of_methodNamed B.named
  have hlocks := B.notSynchronized
  have hl := lv_entry ([.long w1, .long w2]) (n := 4) (Nat.le_of_ble_eq_true rfl)
  rw [lg_entry_eq]
  generalize (lg_sl ([.long w1, .long w2]) ++ List.replicate (4 - (lg_sl ([.long w1, .long w2])).length) Slot.unset).toArray = ls at hl ⊢
  have hl : lv_has ls 4 [(0, .long w1), (2, .long w2)] := hl
  unfold F_X6_floor at hF
  refine lv_lload_n hx hb dX6_floor_0 rfl (lv_at hl 0 rfl) ?_
  refine lv_lconst (v := 0) hx hb dX6_floor_1 (by decide) ?_
  refine W.lcmp hx hb dX6_floor_2 ?_
  refine x_il_lt (tgt := 12) hx hb dX6_floor_3 (by decide) (fun c1 => ?_) (fun c1 => ?_)
  · have hF := ite_t hF c1
    refine lv_lload_n hx hb dX6_floor_12 rfl (lv_at hl 0 rfl) ?_
    refine lv_lneg hx hb dX6_floor_13 ?_
    refine lv_lload_n hx hb dX6_floor_14 rfl (lv_at hl 1 rfl) ?_
    refine lv_ladd hx hb dX6_floor_15 ?_
    refine lv_lconst (v := 1) hx hb dX6_floor_16 (by decide) ?_
    refine lv_lsub hx hb dX6_floor_17 ?_
    refine lv_lload_n hx hb dX6_floor_18 rfl (lv_at hl 1 rfl) ?_
    obtain ⟨g2, hF⟩ := ck_e hF
    refine lv_ldiv hx hb dX6_floor_19 g2 ?_
    refine lv_lneg hx hb dX6_floor_20 ?_
    obtain rfl := some_e hF
    exact W.lret (v := -((((-w1) + w2) - 1) / w2)) hx hb hr (fun t ht hW => ⟨rfl, ht⟩) (fun q hq => absurd hq List.not_mem_nil) dX6_floor_21
  · have hF := ite_f hF c1
    refine lv_lload_n hx hb dX6_floor_6 rfl (lv_at hl 0 rfl) ?_
    refine lv_lload_n hx hb dX6_floor_7 rfl (lv_at hl 1 rfl) ?_
    obtain ⟨g3, hF⟩ := ck_e hF
    refine lv_ldiv hx hb dX6_floor_8 g3 ?_
    refine lv_goto (tgt := 21) hx hb dX6_floor_9 (by decide) ?_
    obtain rfl := some_e hF
    exact W.lret (v := w1 / w2) hx hb hr (fun t ht hW => ⟨rfl, ht⟩) (fun q hq => absurd hq List.not_mem_nil) dX6_floor_21
def F_X6_within (w1 : Int64) (w2 : Int64) (w3 : Int64) : Option (Int64) := if (w1 : Int64) < w2 then (some w2) else (if (w3 : Int64) < w1 then (some w3) else (some w1))
set_option maxHeartbeats 4000000 in
set_option maxRecDepth 100000 in
theorem c_X6_within (l : Launch) (w1 : Int64) (w2 : Int64) (w3 : Int64) {out : Int64} (hF : F_X6_within w1 w2 w3 = some out) : Zl l yX6_within wsX6_within ({ frames := 0, cells := 0, slots := 0, locals := 0 } : Room) [.long w1, .long w2, .long w3] out := by
  refine Met.ofW (cc := cX6_within) (maxL := 6) (ret := (some .long)) (by decide) rfl ?_
  intro p e s m args below meth c s₁ B hml hv
  obtain ⟨rfl, -⟩ := hv
  have hx := B.exec
  have hb := B.bytes
  have hr := B.returns
  have hts := atoms_spec (ws := wsX6_within) B.pre
  have hown : s.vm.findClass RX6 = some m.cls := findClass_of_methodNamed B.named
  have hlocks := B.notSynchronized
  have hl := lv_entry ([.long w1, .long w2, .long w3]) (n := 6) (Nat.le_of_ble_eq_true rfl)
  rw [lg_entry_eq]
  generalize (lg_sl ([.long w1, .long w2, .long w3]) ++ List.replicate (6 - (lg_sl ([.long w1, .long w2, .long w3])).length) Slot.unset).toArray = ls at hl ⊢
  have hl : lv_has ls 6 [(0, .long w1), (2, .long w2), (4, .long w3)] := hl
  unfold F_X6_within at hF
  refine lv_lload_n hx hb dX6_within_0 rfl (lv_at hl 0 rfl) ?_
  refine lv_lload_n hx hb dX6_within_1 rfl (lv_at hl 1 rfl) ?_
  refine W.lcmp hx hb dX6_within_2 ?_
  refine x_il_ge (tgt := 10) hx hb dX6_within_3 (by decide) (fun c1 => ?_) (fun c1 => ?_)
  · have hF := ite_f hF c1
    refine lv_lload_n hx hb dX6_within_10 rfl (lv_at hl 0 rfl) ?_
    refine lv_lload hx hb dX6_within_11 (lv_at hl 2 rfl) ?_
    refine W.lcmp hx hb dX6_within_13 ?_
    refine x_il_le (tgt := 22) hx hb dX6_within_14 (by decide) (fun c2 => ?_) (fun c2 => ?_)
    · have hF := ite_f hF c2
      refine lv_lload_n hx hb dX6_within_22 rfl (lv_at hl 0 rfl) ?_
      obtain rfl := some_e hF
      exact W.lret (v := w1) hx hb hr (fun t ht hW => ⟨rfl, ht⟩) (fun q hq => absurd hq List.not_mem_nil) dX6_within_23
    · have hF := ite_t hF c2
      refine lv_lload hx hb dX6_within_17 (lv_at hl 2 rfl) ?_
      refine lv_goto (tgt := 23) hx hb dX6_within_19 (by decide) ?_
      obtain rfl := some_e hF
      exact W.lret (v := w3) hx hb hr (fun t ht hW => ⟨rfl, ht⟩) (fun q hq => absurd hq List.not_mem_nil) dX6_within_23
  · have hF := ite_t hF c1
    refine lv_lload_n hx hb dX6_within_6 rfl (lv_at hl 1 rfl) ?_
    refine lv_goto (tgt := 23) hx hb dX6_within_7 (by decide) ?_
    obtain rfl := some_e hF
    exact W.lret (v := w2) hx hb hr (fun t ht hW => ⟨rfl, ht⟩) (fun q hq => absurd hq List.not_mem_nil) dX6_within_23
def F_X6_isSignal (w1 : Int64) : Option (Int32) := ob (F_X6_in w1 (-2000) 2000) (fun o1 => ck (o1 = 0 ∨ o1 = 1) (some o1))
theorem kX6_isSignal_1 : (Cond.constantLong RX6 61 (-2000)) ∈ wsX6_isSignal := List.mem_of_getElem? (i := 1) rfl
theorem kX6_isSignal_2 : (Cond.constantLong RX6 63 (2000)) ∈ wsX6_isSignal := List.mem_of_getElem? (i := 2) rfl
set_option maxHeartbeats 4000000 in
set_option maxRecDepth 100000 in
theorem c_X6_isSignal (l : Launch) (w1 : Int64) {out : Int32} (hF : F_X6_isSignal w1 = some out) : Zi l yX6_isSignal wsX6_isSignal ({ frames := 1, cells := 0, slots := 0, locals := 25 } : Room) [.long w1] out := by
  refine Met.ofW (cc := cX6_isSignal) (maxL := 2) (ret := (some .boolean)) (by decide) rfl ?_
  intro p e s m args below meth c s₁ B hml hv
  obtain ⟨rfl, -⟩ := hv
  have hx := B.exec
  have hb := B.bytes
  have hr := B.returns
  have hts := atoms_spec (ws := wsX6_isSignal) B.pre
  have hown : s.vm.findClass RX6 = some m.cls := findClass_of_methodNamed B.named
  have hlocks := B.notSynchronized
  have hl := lv_entry ([.long w1]) (n := 2) (Nat.le_of_ble_eq_true rfl)
  rw [lg_entry_eq]
  generalize (lg_sl ([.long w1]) ++ List.replicate (2 - (lg_sl ([.long w1])).length) Slot.unset).toArray = ls at hl ⊢
  have hl : lv_has ls 2 [(0, .long w1)] := hl
  unfold F_X6_isSignal at hF
  refine lv_lload_n hx hb dX6_isSignal_0 rfl (lv_at hl 0 rfl) ?_
  refine lv_ldc2 (v := (-2000)) hx hb hown (hts _ kX6_isSignal_1) dX6_isSignal_1 ?_
  refine lv_ldc2 (v := 2000) hx hb hown (hts _ kX6_isSignal_2) dX6_isSignal_4 ?_
  obtain ⟨o1, ho1, hF⟩ := ob_e hF
  refine x_callzi (va_runS (As := [.long w1, .long (-2000), .long 2000]) (rest := []) ⟨hx, hb, hml, hown, hts⟩ (c_X6_in l w1 (-2000) 2000 ho1) (va_cwS 3 hts gX6_isSignal_X6_in rfl rfl rfl (by decide +kernel) ⟨Nat.le_of_ble_eq_true rfl, Nat.le_of_ble_eq_true rfl⟩) ⟨true_blind, fun _ _ _ => ⟨rfl, trivial⟩⟩ rfl rfl hl.1 rfl (lv_room (Nat.le_of_ble_eq_true rfl)) dX6_isSignal_7 ⟨Nat.le_of_ble_eq_true rfl, Nat.le_of_ble_eq_true rfl⟩) ?_
  obtain ⟨g2, hF⟩ := ck_e hF
  obtain rfl := some_e hF
  exact W.zret (v := o1) hx hb hr (x_bool g2) (fun t ht hW => ⟨rfl, ht⟩) (fun q hq => absurd hq List.not_mem_nil) dX6_isSignal_10
def F_X6_isValue (w1 : Int32) (w2 : Int32) : Option (Int32) := if (w1 : Int32) = 0 then (ob (F_X6_in w2.toInt64 50000 65536) (fun o1 => ck (o1 = 0 ∨ o1 = 1) (some o1))) else if (w1 : Int32) = 1 then (ob (F_X6_in w2.toInt64 0 500) (fun o3 => ck (o3 = 0 ∨ o3 = 1) (some o3))) else if (w1 : Int32) = 2 then (ob (F_X6_in w2.toInt64 0 100) (fun o5 => ck (o5 = 0 ∨ o5 = 1) (some o5))) else if (w1 : Int32) = 3 then (ob (F_X6_in w2.toInt64 2 20) (fun o7 => ck (o7 = 0 ∨ o7 = 1) (some o7))) else if (w1 : Int32) = 4 then (ob (F_X6_in w2.toInt64 1 2000) (fun o9 => ck (o9 = 0 ∨ o9 = 1) (some o9))) else if (w1 : Int32) = 5 then (ob (F_X6_in w2.toInt64 0 100) (fun o11 => ck (o11 = 0 ∨ o11 = 1) (some o11))) else (ob (F_X6_in w2.toInt64 1 65536) (fun o13 => ck (o13 = 0 ∨ o13 = 1) (some o13)))
theorem kX6_isValue_1 : (Cond.constantLong RX6 69 (50000)) ∈ wsX6_isValue := List.mem_of_getElem? (i := 1) rfl
theorem kX6_isValue_2 : (Cond.constantLong RX6 71 (65536)) ∈ wsX6_isValue := List.mem_of_getElem? (i := 2) rfl
theorem kX6_isValue_3 : (Cond.constantLong RX6 41 (500)) ∈ wsX6_isValue := List.mem_of_getElem? (i := 3) rfl
theorem kX6_isValue_4 : (Cond.constantLong RX6 73 (100)) ∈ wsX6_isValue := List.mem_of_getElem? (i := 4) rfl
theorem kX6_isValue_5 : (Cond.constantLong RX6 37 (2)) ∈ wsX6_isValue := List.mem_of_getElem? (i := 5) rfl
theorem kX6_isValue_6 : (Cond.constantLong RX6 75 (20)) ∈ wsX6_isValue := List.mem_of_getElem? (i := 6) rfl
theorem kX6_isValue_7 : (Cond.constantLong RX6 63 (2000)) ∈ wsX6_isValue := List.mem_of_getElem? (i := 7) rfl
set_option maxHeartbeats 4000000 in
set_option maxRecDepth 100000 in
theorem c_X6_isValue (l : Launch) (w1 : Int32) (w2 : Int32) {out : Int32} (hF : F_X6_isValue w1 w2 = some out) : Zi l yX6_isValue wsX6_isValue ({ frames := 1, cells := 0, slots := 0, locals := 25 } : Room) [.int w1, .int w2] out := by
  refine Met.ofW (cc := cX6_isValue) (maxL := 2) (ret := (some .boolean)) (by decide) rfl ?_
  intro p e s m args below meth c s₁ B hml hv
  obtain ⟨rfl, -⟩ := hv
  have hx := B.exec
  have hb := B.bytes
  have hr := B.returns
  have hts := atoms_spec (ws := wsX6_isValue) B.pre
  have hown : s.vm.findClass RX6 = some m.cls := findClass_of_methodNamed B.named
  have hlocks := B.notSynchronized
  have hl := lv_entry ([.int w1, .int w2]) (n := 2) (Nat.le_of_ble_eq_true rfl)
  rw [lg_entry_eq]
  generalize (lg_sl ([.int w1, .int w2]) ++ List.replicate (2 - (lg_sl ([.int w1, .int w2])).length) Slot.unset).toArray = ls at hl ⊢
  have hl : lv_has ls 2 [(0, .int w1), (1, .int w2)] := hl
  unfold F_X6_isValue at hF
  refine lv_iload_n hx hb dX6_isValue_0 rfl (lv_at hl 0 rfl) ?_
  by_cases c15 : (w1 : Int32) = 0
  · have hF := ite_t hF c15
    have e9 : (w1 : Int32).toInt = 0 := by rw [c15]; decide
    refine lv_tableIn (tgt := 40) hx hb dX6_isValue_1 (by rw [e9]; decide) (by rw [e9]; decide) (by rw [e9]; rfl) (by decide) ?_
    refine lv_iload_n hx hb dX6_isValue_40 rfl (lv_at hl 1 rfl) ?_
    refine lv_i2l (v := w2.toInt64) hx hb dX6_isValue_41 rfl ?_
    refine lv_ldc2 (v := 50000) hx hb hown (hts _ kX6_isValue_1) dX6_isValue_42 ?_
    refine lv_ldc2 (v := 65536) hx hb hown (hts _ kX6_isValue_2) dX6_isValue_45 ?_
    obtain ⟨o1, ho1, hF⟩ := ob_e hF
    refine x_callzi (va_runS (As := [.long w2.toInt64, .long 50000, .long 65536]) (rest := []) ⟨hx, hb, hml, hown, hts⟩ (c_X6_in l w2.toInt64 50000 65536 ho1) (va_cwS 3 hts gX6_isValue_X6_in rfl rfl rfl (by decide +kernel) ⟨Nat.le_of_ble_eq_true rfl, Nat.le_of_ble_eq_true rfl⟩) ⟨true_blind, fun _ _ _ => ⟨rfl, trivial⟩⟩ rfl rfl hl.1 rfl (lv_room (Nat.le_of_ble_eq_true rfl)) dX6_isValue_48 ⟨Nat.le_of_ble_eq_true rfl, Nat.le_of_ble_eq_true rfl⟩) ?_
    obtain ⟨g2, hF⟩ := ck_e hF
    obtain rfl := some_e hF
    exact W.zret (v := o1) hx hb hr (x_bool g2) (fun t ht hW => ⟨rfl, ht⟩) (fun q hq => absurd hq List.not_mem_nil) dX6_isValue_51
  have hF := ite_f hF c15
  have nc15_0 := lv_neT (k := 0) (a := 0) c15 (by decide)
  by_cases c15 : (w1 : Int32) = 1
  · have hF := ite_t hF c15
    have e9 : (w1 : Int32).toInt = 1 := by rw [c15]; decide
    refine lv_tableIn (tgt := 52) hx hb dX6_isValue_1 (by rw [e9]; decide) (by rw [e9]; decide) (by rw [e9]; rfl) (by decide) ?_
    refine lv_iload_n hx hb dX6_isValue_52 rfl (lv_at hl 1 rfl) ?_
    refine lv_i2l (v := w2.toInt64) hx hb dX6_isValue_53 rfl ?_
    refine lv_lconst (v := 0) hx hb dX6_isValue_54 (by decide) ?_
    refine lv_ldc2 (v := 500) hx hb hown (hts _ kX6_isValue_3) dX6_isValue_55 ?_
    obtain ⟨o3, ho3, hF⟩ := ob_e hF
    refine x_callzi (va_runS (As := [.long w2.toInt64, .long 0, .long 500]) (rest := []) ⟨hx, hb, hml, hown, hts⟩ (c_X6_in l w2.toInt64 0 500 ho3) (va_cwS 3 hts gX6_isValue_X6_in rfl rfl rfl (by decide +kernel) ⟨Nat.le_of_ble_eq_true rfl, Nat.le_of_ble_eq_true rfl⟩) ⟨true_blind, fun _ _ _ => ⟨rfl, trivial⟩⟩ rfl rfl hl.1 rfl (lv_room (Nat.le_of_ble_eq_true rfl)) dX6_isValue_58 ⟨Nat.le_of_ble_eq_true rfl, Nat.le_of_ble_eq_true rfl⟩) ?_
    obtain ⟨g4, hF⟩ := ck_e hF
    obtain rfl := some_e hF
    exact W.zret (v := o3) hx hb hr (x_bool g4) (fun t ht hW => ⟨rfl, ht⟩) (fun q hq => absurd hq List.not_mem_nil) dX6_isValue_61
  have hF := ite_f hF c15
  have nc15_1 := lv_neT (k := 1) (a := 1) c15 (by decide)
  by_cases c15 : (w1 : Int32) = 2
  · have hF := ite_t hF c15
    have e9 : (w1 : Int32).toInt = 2 := by rw [c15]; decide
    refine lv_tableIn (tgt := 62) hx hb dX6_isValue_1 (by rw [e9]; decide) (by rw [e9]; decide) (by rw [e9]; rfl) (by decide) ?_
    refine lv_iload_n hx hb dX6_isValue_62 rfl (lv_at hl 1 rfl) ?_
    refine lv_i2l (v := w2.toInt64) hx hb dX6_isValue_63 rfl ?_
    refine lv_lconst (v := 0) hx hb dX6_isValue_64 (by decide) ?_
    refine lv_ldc2 (v := 100) hx hb hown (hts _ kX6_isValue_4) dX6_isValue_65 ?_
    obtain ⟨o5, ho5, hF⟩ := ob_e hF
    refine x_callzi (va_runS (As := [.long w2.toInt64, .long 0, .long 100]) (rest := []) ⟨hx, hb, hml, hown, hts⟩ (c_X6_in l w2.toInt64 0 100 ho5) (va_cwS 3 hts gX6_isValue_X6_in rfl rfl rfl (by decide +kernel) ⟨Nat.le_of_ble_eq_true rfl, Nat.le_of_ble_eq_true rfl⟩) ⟨true_blind, fun _ _ _ => ⟨rfl, trivial⟩⟩ rfl rfl hl.1 rfl (lv_room (Nat.le_of_ble_eq_true rfl)) dX6_isValue_68 ⟨Nat.le_of_ble_eq_true rfl, Nat.le_of_ble_eq_true rfl⟩) ?_
    obtain ⟨g6, hF⟩ := ck_e hF
    obtain rfl := some_e hF
    exact W.zret (v := o5) hx hb hr (x_bool g6) (fun t ht hW => ⟨rfl, ht⟩) (fun q hq => absurd hq List.not_mem_nil) dX6_isValue_71
  have hF := ite_f hF c15
  have nc15_2 := lv_neT (k := 2) (a := 2) c15 (by decide)
  by_cases c15 : (w1 : Int32) = 3
  · have hF := ite_t hF c15
    have e9 : (w1 : Int32).toInt = 3 := by rw [c15]; decide
    refine lv_tableIn (tgt := 72) hx hb dX6_isValue_1 (by rw [e9]; decide) (by rw [e9]; decide) (by rw [e9]; rfl) (by decide) ?_
    refine lv_iload_n hx hb dX6_isValue_72 rfl (lv_at hl 1 rfl) ?_
    refine lv_i2l (v := w2.toInt64) hx hb dX6_isValue_73 rfl ?_
    refine lv_ldc2 (v := 2) hx hb hown (hts _ kX6_isValue_5) dX6_isValue_74 ?_
    refine lv_ldc2 (v := 20) hx hb hown (hts _ kX6_isValue_6) dX6_isValue_77 ?_
    obtain ⟨o7, ho7, hF⟩ := ob_e hF
    refine x_callzi (va_runS (As := [.long w2.toInt64, .long 2, .long 20]) (rest := []) ⟨hx, hb, hml, hown, hts⟩ (c_X6_in l w2.toInt64 2 20 ho7) (va_cwS 3 hts gX6_isValue_X6_in rfl rfl rfl (by decide +kernel) ⟨Nat.le_of_ble_eq_true rfl, Nat.le_of_ble_eq_true rfl⟩) ⟨true_blind, fun _ _ _ => ⟨rfl, trivial⟩⟩ rfl rfl hl.1 rfl (lv_room (Nat.le_of_ble_eq_true rfl)) dX6_isValue_80 ⟨Nat.le_of_ble_eq_true rfl, Nat.le_of_ble_eq_true rfl⟩) ?_
    obtain ⟨g8, hF⟩ := ck_e hF
    obtain rfl := some_e hF
    exact W.zret (v := o7) hx hb hr (x_bool g8) (fun t ht hW => ⟨rfl, ht⟩) (fun q hq => absurd hq List.not_mem_nil) dX6_isValue_83
  have hF := ite_f hF c15
  have nc15_3 := lv_neT (k := 3) (a := 3) c15 (by decide)
  by_cases c15 : (w1 : Int32) = 4
  · have hF := ite_t hF c15
    have e9 : (w1 : Int32).toInt = 4 := by rw [c15]; decide
    refine lv_tableIn (tgt := 84) hx hb dX6_isValue_1 (by rw [e9]; decide) (by rw [e9]; decide) (by rw [e9]; rfl) (by decide) ?_
    refine lv_iload_n hx hb dX6_isValue_84 rfl (lv_at hl 1 rfl) ?_
    refine lv_i2l (v := w2.toInt64) hx hb dX6_isValue_85 rfl ?_
    refine lv_lconst (v := 1) hx hb dX6_isValue_86 (by decide) ?_
    refine lv_ldc2 (v := 2000) hx hb hown (hts _ kX6_isValue_7) dX6_isValue_87 ?_
    obtain ⟨o9, ho9, hF⟩ := ob_e hF
    refine x_callzi (va_runS (As := [.long w2.toInt64, .long 1, .long 2000]) (rest := []) ⟨hx, hb, hml, hown, hts⟩ (c_X6_in l w2.toInt64 1 2000 ho9) (va_cwS 3 hts gX6_isValue_X6_in rfl rfl rfl (by decide +kernel) ⟨Nat.le_of_ble_eq_true rfl, Nat.le_of_ble_eq_true rfl⟩) ⟨true_blind, fun _ _ _ => ⟨rfl, trivial⟩⟩ rfl rfl hl.1 rfl (lv_room (Nat.le_of_ble_eq_true rfl)) dX6_isValue_90 ⟨Nat.le_of_ble_eq_true rfl, Nat.le_of_ble_eq_true rfl⟩) ?_
    obtain ⟨g10, hF⟩ := ck_e hF
    obtain rfl := some_e hF
    exact W.zret (v := o9) hx hb hr (x_bool g10) (fun t ht hW => ⟨rfl, ht⟩) (fun q hq => absurd hq List.not_mem_nil) dX6_isValue_93
  have hF := ite_f hF c15
  have nc15_4 := lv_neT (k := 4) (a := 4) c15 (by decide)
  by_cases c15 : (w1 : Int32) = 5
  · have hF := ite_t hF c15
    have e9 : (w1 : Int32).toInt = 5 := by rw [c15]; decide
    refine lv_tableIn (tgt := 94) hx hb dX6_isValue_1 (by rw [e9]; decide) (by rw [e9]; decide) (by rw [e9]; rfl) (by decide) ?_
    refine lv_iload_n hx hb dX6_isValue_94 rfl (lv_at hl 1 rfl) ?_
    refine lv_i2l (v := w2.toInt64) hx hb dX6_isValue_95 rfl ?_
    refine lv_lconst (v := 0) hx hb dX6_isValue_96 (by decide) ?_
    refine lv_ldc2 (v := 100) hx hb hown (hts _ kX6_isValue_4) dX6_isValue_97 ?_
    obtain ⟨o11, ho11, hF⟩ := ob_e hF
    refine x_callzi (va_runS (As := [.long w2.toInt64, .long 0, .long 100]) (rest := []) ⟨hx, hb, hml, hown, hts⟩ (c_X6_in l w2.toInt64 0 100 ho11) (va_cwS 3 hts gX6_isValue_X6_in rfl rfl rfl (by decide +kernel) ⟨Nat.le_of_ble_eq_true rfl, Nat.le_of_ble_eq_true rfl⟩) ⟨true_blind, fun _ _ _ => ⟨rfl, trivial⟩⟩ rfl rfl hl.1 rfl (lv_room (Nat.le_of_ble_eq_true rfl)) dX6_isValue_100 ⟨Nat.le_of_ble_eq_true rfl, Nat.le_of_ble_eq_true rfl⟩) ?_
    obtain ⟨g12, hF⟩ := ck_e hF
    obtain rfl := some_e hF
    exact W.zret (v := o11) hx hb hr (x_bool g12) (fun t ht hW => ⟨rfl, ht⟩) (fun q hq => absurd hq List.not_mem_nil) dX6_isValue_103
  have hF := ite_f hF c15
  have nc15_5 := lv_neT (k := 5) (a := 5) c15 (by decide)
  refine lv_tableOut (tgt := 104) hx hb dX6_isValue_1 (by omega) (by decide) ?_
  refine lv_iload_n hx hb dX6_isValue_104 rfl (lv_at hl 1 rfl) ?_
  refine lv_i2l (v := w2.toInt64) hx hb dX6_isValue_105 rfl ?_
  refine lv_lconst (v := 1) hx hb dX6_isValue_106 (by decide) ?_
  refine lv_ldc2 (v := 65536) hx hb hown (hts _ kX6_isValue_2) dX6_isValue_107 ?_
  obtain ⟨o13, ho13, hF⟩ := ob_e hF
  refine x_callzi (va_runS (As := [.long w2.toInt64, .long 1, .long 65536]) (rest := []) ⟨hx, hb, hml, hown, hts⟩ (c_X6_in l w2.toInt64 1 65536 ho13) (va_cwS 3 hts gX6_isValue_X6_in rfl rfl rfl (by decide +kernel) ⟨Nat.le_of_ble_eq_true rfl, Nat.le_of_ble_eq_true rfl⟩) ⟨true_blind, fun _ _ _ => ⟨rfl, trivial⟩⟩ rfl rfl hl.1 rfl (lv_room (Nat.le_of_ble_eq_true rfl)) dX6_isValue_110 ⟨Nat.le_of_ble_eq_true rfl, Nat.le_of_ble_eq_true rfl⟩) ?_
  obtain ⟨g14, hF⟩ := ck_e hF
  obtain rfl := some_e hF
  exact W.zret (v := o13) hx hb hr (x_bool g14) (fun t ht hW => ⟨rfl, ht⟩) (fun q hq => absurd hq List.not_mem_nil) dX6_isValue_113
def F_X6_thrown (sTh : Int32) : Option (Int32) := some sTh
theorem kX6_thrown_1 : (Cond.fieldLink RX6 54 "SelfTunerModel" "thrown" "I") ∈ wsX6_thrown := List.mem_of_getElem? (i := 1) rfl
theorem iX6_thrown_X6 : ∀ w ∈ wsX60, w ∈ wsX6_thrown := fun w h => List.mem_cons_of_mem _ (List.mem_append_right _ h)
set_option maxHeartbeats 4000000 in
set_option maxRecDepth 100000 in
theorem c_X6_thrown (l : Launch) (dC : Nat → ClassId) (dI : Nat → Nat → Nat) (cyI cyJ cyB cyS cyD : ClassId) (h : Nat) (aAl : Nat) (aSv : Nat) (aAs : Nat) (aF : Nat) (aG : Nat) (aK : Nat) (aTx : Nat) (aRd : Nat) (sz : Nat) (sN : Int32) (sTh : Int32) (sS : Int64) (sTl : Int32) (sPl : Int32) (sAl : Nat → Int64) (sSv : Nat → Int64) (sAs : Nat → Int64) (sF : Nat → Int64) (sG : Nat → Int64) (sK : Nat → Int64) (sTx : Nat → Int32) (sRd : Nat → Int32) {out : Int32} (hF : F_X6_thrown sTh = some out) : Mi l yX6_thrown wsX6_thrown ({ frames := 0, cells := 0, slots := 0, locals := 0 } : Room) (dC, dI) [(cyI, .int), (cyJ, .long), (cyB, .byte), (cyS, .object "SelfTuner$State"), (cyD, .double)] sz [.ref h] [(h, .inr (6, [.ref aAl, .ref aSv, .ref aAs, .int sN, .int sTh, .ref aF, .ref aG, .ref aK, .long sS, .ref aTx, .int sTl, .int sPl, .ref aRd])), (aAl, .inl (cyJ, 76, .inr (.inl sAl))), (aSv, .inl (cyJ, 304, .inr (.inl sSv))), (aAs, .inl (cyJ, 76, .inr (.inl sAs))), (aF, .inl (cyJ, 3, .inr (.inl sF))), (aG, .inl (cyJ, 3, .inr (.inl sG))), (aK, .inl (cyJ, 3, .inr (.inl sK))), (aTx, .inl (cyI, 120, .inl sTx)), (aRd, .inl (cyI, 63, .inl sRd))] out [(h, .inr (6, [.ref aAl, .ref aSv, .ref aAs, .int sN, .int sTh, .ref aF, .ref aG, .ref aK, .long sS, .ref aTx, .int sTl, .int sPl, .ref aRd])), (aAl, .inl (cyJ, 76, .inr (.inl sAl))), (aSv, .inl (cyJ, 304, .inr (.inl sSv))), (aAs, .inl (cyJ, 76, .inr (.inl sAs))), (aF, .inl (cyJ, 3, .inr (.inl sF))), (aG, .inl (cyJ, 3, .inr (.inl sG))), (aK, .inl (cyJ, 3, .inr (.inl sK))), (aTx, .inl (cyI, 120, .inl sTx)), (aRd, .inl (cyI, 63, .inl sRd))] := by
  refine Met.ofW (cc := cX6_thrown) (maxL := 1) (ret := (some .int)) (by decide) rfl ?_
  intro p e s m args below meth c s₁ B hml hv
  obtain ⟨rfl, hN, hsz, hP, hK, hD0⟩ := hv
  have hx := B.exec
  have hb := B.bytes
  have hr := B.returns
  have hts := atoms_spec (ws := wsX6_thrown) B.pre
  have hown : s.vm.findClass RX6 = some m.cls := findClass_of_methodNamed B.named
  have hlocks := B.notSynchronized
  subst hsz
  have hD := hD0.self (sz := s.heap.size)
  generalize hAe : va_A [(h, .inr (6, [.ref aAl, .ref aSv, .ref aAs, .int sN, .int sTh, .ref aF, .ref aG, .ref aK, .long sS, .ref aTx, .int sTl, .int sPl, .ref aRd])), (aAl, .inl (cyJ, 76, .inr (.inl sAl))), (aSv, .inl (cyJ, 304, .inr (.inl sSv))), (aAs, .inl (cyJ, 76, .inr (.inl sAs))), (aF, .inl (cyJ, 3, .inr (.inl sF))), (aG, .inl (cyJ, 3, .inr (.inl sG))), (aK, .inl (cyJ, 3, .inr (.inl sK))), (aTx, .inl (cyI, 120, .inl sTx)), (aRd, .inl (cyI, 63, .inl sRd))] s.heap.size = A at hD ⊢
  have hA : ∀ q : Nat, s.heap.size ≤ q → A q := fun q h => by rw [← hAe]; exact Or.inr h
  have hS : va_S A s.heap s.heap [] := va_S.rf
  have hP : va_P (dC, dI) vwCl [(h, .inr (6, [.ref aAl, .ref aSv, .ref aAs, .int sN, .int sTh, .ref aF, .ref aG, .ref aK, .long sS, .ref aTx, .int sTl, .int sPl, .ref aRd])), (aAl, .inl (cyJ, 76, .inr (.inl sAl))), (aSv, .inl (cyJ, 304, .inr (.inl sSv))), (aAs, .inl (cyJ, 76, .inr (.inl sAs))), (aF, .inl (cyJ, 3, .inr (.inl sF))), (aG, .inl (cyJ, 3, .inr (.inl sG))), (aK, .inl (cyJ, 3, .inr (.inl sK))), (aTx, .inl (cyI, 120, .inl sTx)), (aRd, .inl (cyI, 63, .inl sRd))] s.heap := hP
  have hl := lv_entry ([.ref h]) (n := 1) (Nat.le_of_ble_eq_true rfl)
  rw [lg_entry_eq]
  generalize (lg_sl ([.ref h]) ++ List.replicate (1 - (lg_sl ([.ref h])).length) Slot.unset).toArray = ls at hl ⊢
  have hl : lv_has ls 1 [(0, .ref h)] := hl
  unfold F_X6_thrown at hF
  refine lv_aload_n hx hb dX6_thrown_0 rfl (lv_at hl 0 rfl) ?_
  refine va_get (D := (dC, dI)) (ci := 6) (v := .int sTh) (C := RX6) (T := TX6) (N := 13) hx hb hts iX6_thrown_X6 hown hK hP 0 rfl rfl 4 (by decide) (hts _ kX6_thrown_1) (fun _ h9 => h9) rfl dX6_thrown_1 ?_
  obtain rfl := some_e hF
  exact W.iret (v := sTh) hx hb hr (fun t ht hW => ⟨⟨sTh, (), rfl, rfl, ⟨by rw [ht]; exact hP, va_K.moved hW.alike hK, hD⟩⟩, hS.F ht⟩) hS.2.2 dX6_thrown_4
def F_X6_goes (w1 : Int32) (w2 : Int32) : Option (Int32 × Int32) := rg (α := Int32) (fun K4 => if (w1 : Int32) = 0 then (K4 1) else (if (w2 : Int32) = 0 then (K4 2) else (K4 0))) (fun x3 => if (x3 : Int32) = 0 then (some (1, x3)) else (some (0, x3)))
theorem kX6_goes_1 : (Cond.fieldLink RX6 54 "SelfTunerModel" "thrown" "I") ∈ wsX6_goes := List.mem_of_getElem? (i := 1) rfl
theorem iX6_goes_X6 : ∀ w ∈ wsX60, w ∈ wsX6_goes := fun w h => List.mem_cons_of_mem _ (List.mem_append_right _ h)
set_option maxHeartbeats 4000000 in
set_option maxRecDepth 100000 in
theorem c_X6_goes (l : Launch) (dC : Nat → ClassId) (dI : Nat → Nat → Nat) (cyI cyJ cyB cyS cyD : ClassId) (h : Nat) (aAl : Nat) (aSv : Nat) (aAs : Nat) (aF : Nat) (aG : Nat) (aK : Nat) (aTx : Nat) (aRd : Nat) (sz : Nat) (sN : Int32) (sTh : Int32) (sS : Int64) (sTl : Int32) (sPl : Int32) (sAl : Nat → Int64) (sSv : Nat → Int64) (sAs : Nat → Int64) (sF : Nat → Int64) (sG : Nat → Int64) (sK : Nat → Int64) (sTx : Nat → Int32) (sRd : Nat → Int32) (w1 : Int32) (w2 : Int32) {out : Int32 × Int32} (hF : F_X6_goes w1 w2 = some out) : Mi l yX6_goes wsX6_goes ({ frames := 0, cells := 0, slots := 0, locals := 0 } : Room) (dC, dI) [(cyI, .int), (cyJ, .long), (cyB, .byte), (cyS, .object "SelfTuner$State"), (cyD, .double)] sz [.ref h, .int w1, .int w2] [(h, .inr (6, [.ref aAl, .ref aSv, .ref aAs, .int sN, .int sTh, .ref aF, .ref aG, .ref aK, .long sS, .ref aTx, .int sTl, .int sPl, .ref aRd])), (aAl, .inl (cyJ, 76, .inr (.inl sAl))), (aSv, .inl (cyJ, 304, .inr (.inl sSv))), (aAs, .inl (cyJ, 76, .inr (.inl sAs))), (aF, .inl (cyJ, 3, .inr (.inl sF))), (aG, .inl (cyJ, 3, .inr (.inl sG))), (aK, .inl (cyJ, 3, .inr (.inl sK))), (aTx, .inl (cyI, 120, .inl sTx)), (aRd, .inl (cyI, 63, .inl sRd))] out.1 [(h, .inr (6, [.ref aAl, .ref aSv, .ref aAs, .int sN, .int out.2, .ref aF, .ref aG, .ref aK, .long sS, .ref aTx, .int sTl, .int sPl, .ref aRd])), (aAl, .inl (cyJ, 76, .inr (.inl sAl))), (aSv, .inl (cyJ, 304, .inr (.inl sSv))), (aAs, .inl (cyJ, 76, .inr (.inl sAs))), (aF, .inl (cyJ, 3, .inr (.inl sF))), (aG, .inl (cyJ, 3, .inr (.inl sG))), (aK, .inl (cyJ, 3, .inr (.inl sK))), (aTx, .inl (cyI, 120, .inl sTx)), (aRd, .inl (cyI, 63, .inl sRd))] := by
  refine Met.ofW (cc := cX6_goes) (maxL := 3) (ret := (some .boolean)) (by decide) rfl ?_
  intro p e s m args below meth c s₁ B hml hv
  obtain ⟨rfl, hN, hsz, hP, hK, hD0⟩ := hv
  have hx := B.exec
  have hb := B.bytes
  have hr := B.returns
  have hts := atoms_spec (ws := wsX6_goes) B.pre
  have hown : s.vm.findClass RX6 = some m.cls := findClass_of_methodNamed B.named
  have hlocks := B.notSynchronized
  subst hsz
  have hD := hD0.self (sz := s.heap.size)
  generalize hAe : va_A [(h, .inr (6, [.ref aAl, .ref aSv, .ref aAs, .int sN, .int sTh, .ref aF, .ref aG, .ref aK, .long sS, .ref aTx, .int sTl, .int sPl, .ref aRd])), (aAl, .inl (cyJ, 76, .inr (.inl sAl))), (aSv, .inl (cyJ, 304, .inr (.inl sSv))), (aAs, .inl (cyJ, 76, .inr (.inl sAs))), (aF, .inl (cyJ, 3, .inr (.inl sF))), (aG, .inl (cyJ, 3, .inr (.inl sG))), (aK, .inl (cyJ, 3, .inr (.inl sK))), (aTx, .inl (cyI, 120, .inl sTx)), (aRd, .inl (cyI, 63, .inl sRd))] s.heap.size = A at hD ⊢
  have hA : ∀ q : Nat, s.heap.size ≤ q → A q := fun q h => by rw [← hAe]; exact Or.inr h
  have hS : va_S A s.heap s.heap [] := va_S.rf
  have hP : va_P (dC, dI) vwCl [(h, .inr (6, [.ref aAl, .ref aSv, .ref aAs, .int sN, .int sTh, .ref aF, .ref aG, .ref aK, .long sS, .ref aTx, .int sTl, .int sPl, .ref aRd])), (aAl, .inl (cyJ, 76, .inr (.inl sAl))), (aSv, .inl (cyJ, 304, .inr (.inl sSv))), (aAs, .inl (cyJ, 76, .inr (.inl sAs))), (aF, .inl (cyJ, 3, .inr (.inl sF))), (aG, .inl (cyJ, 3, .inr (.inl sG))), (aK, .inl (cyJ, 3, .inr (.inl sK))), (aTx, .inl (cyI, 120, .inl sTx)), (aRd, .inl (cyI, 63, .inl sRd))] s.heap := hP
  have hl := lv_entry ([.ref h, .int w1, .int w2]) (n := 3) (Nat.le_of_ble_eq_true rfl)
  rw [lg_entry_eq]
  generalize (lg_sl ([.ref h, .int w1, .int w2]) ++ List.replicate (3 - (lg_sl ([.ref h, .int w1, .int w2])).length) Slot.unset).toArray = ls at hl ⊢
  have hl : lv_has ls 3 [(0, .ref h), (1, .int w1), (2, .int w2)] := hl
  unfold F_X6_goes at hF
  refine lv_aload_n hx hb dX6_goes_0 rfl (lv_at hl 0 rfl) ?_
  refine lv_iload_n hx hb dX6_goes_1 rfl (lv_at hl 1 rfl) ?_
  obtain ⟨K4, hK4, hF⟩ := rg_e hF
  have Jx3 : ∀ (x3 : Int32) (H : Heap) (locs : List Loc) (ls : Array Slot), K4 x3 = some out → va_P (dC, dI) vwCl [(h, .inr (6, [.ref aAl, .ref aSv, .ref aAs, .int sN, .int sTh, .ref aF, .ref aG, .ref aK, .long sS, .ref aTx, .int sTl, .int sPl, .ref aRd])), (aAl, .inl (cyJ, 76, .inr (.inl sAl))), (aSv, .inl (cyJ, 304, .inr (.inl sSv))), (aAs, .inl (cyJ, 76, .inr (.inl sAs))), (aF, .inl (cyJ, 3, .inr (.inl sF))), (aG, .inl (cyJ, 3, .inr (.inl sG))), (aK, .inl (cyJ, 3, .inr (.inl sK))), (aTx, .inl (cyI, 120, .inl sTx)), (aRd, .inl (cyI, 63, .inl sRd))] H → va_D A [(h, .inr (6, [.ref aAl, .ref aSv, .ref aAs, .int sN, .int sTh, .ref aF, .ref aG, .ref aK, .long sS, .ref aTx, .int sTl, .int sPl, .ref aRd])), (aAl, .inl (cyJ, 76, .inr (.inl sAl))), (aSv, .inl (cyJ, 304, .inr (.inl sSv))), (aAs, .inl (cyJ, 76, .inr (.inl sAs))), (aF, .inl (cyJ, 3, .inr (.inl sF))), (aG, .inl (cyJ, 3, .inr (.inl sG))), (aK, .inl (cyJ, 3, .inr (.inl sK))), (aTx, .inl (cyI, 120, .inl sTx)), (aRd, .inl (cyI, 63, .inl sRd))] → va_S A s.heap H locs → lv_has ls 3 [(0, .ref h)] → W p l e (headSpec wsX6_goes ({ frames := 0, cells := 0, slots := 0, locals := 0 } : Room)).room s m ([.ref h, .int w1, .int w2] : List Value).toArray below meth c H locs 0 0 (MQ below (va_Qi (fun (r' : Int32) (_ : Unit) => r' = out.1) (cPost (dC, dI) [(cyI, .int), (cyJ, .long), (cyB, .byte), (cyS, .object "SelfTuner$State"), (cyD, .double)] [(h, .inr (6, [.ref aAl, .ref aSv, .ref aAs, .int sN, .int out.2, .ref aF, .ref aG, .ref aK, .long sS, .ref aTx, .int sTl, .int sPl, .ref aRd])), (aAl, .inl (cyJ, 76, .inr (.inl sAl))), (aSv, .inl (cyJ, 304, .inr (.inl sSv))), (aAs, .inl (cyJ, 76, .inr (.inl sAs))), (aF, .inl (cyJ, 3, .inr (.inl sF))), (aG, .inl (cyJ, 3, .inr (.inl sG))), (aK, .inl (cyJ, 3, .inr (.inl sK))), (aTx, .inl (cyI, 120, .inl sTx)), (aRd, .inl (cyI, 63, .inl sRd))] A) A) ([.ref h, .int w1, .int w2] : List Value).toArray s 0 0 A) (F0 m 18 ls [.int x3, .ref h]) := by
    intro x3 H locs ls hF hP hD hS hl
    rw [hK4] at hF
    refine x_put (D := (dC, dI)) (ci := 6) (v := .int x3) (ty := .int) (C := RX6) (T := TX6) (N := 13) (ws' := [(h, .inr (6, [.ref aAl, .ref aSv, .ref aAs, .int sN, .int x3, .ref aF, .ref aG, .ref aK, .long sS, .ref aTx, .int sTl, .int sPl, .ref aRd])), (aAl, .inl (cyJ, 76, .inr (.inl sAl))), (aSv, .inl (cyJ, 304, .inr (.inl sSv))), (aAs, .inl (cyJ, 76, .inr (.inl sAs))), (aF, .inl (cyJ, 3, .inr (.inl sF))), (aG, .inl (cyJ, 3, .inr (.inl sG))), (aK, .inl (cyJ, 3, .inr (.inl sK))), (aTx, .inl (cyI, 120, .inl sTx)), (aRd, .inl (cyI, 63, .inl sRd))]) hx hb hts iX6_goes_X6 tyX6 tyX6_ok nmX6 hown hK hP hD hS 0 rfl rfl 4 (by decide) (hts _ kX6_goes_1) (fun _ h9 => h9) rfl (by decide +kernel) rfl rfl (Nat.le_of_ble_eq_true rfl) rfl dX6_goes_18 (fun H locs hP hD hS => ?_)
    refine lv_aload_n hx hb dX6_goes_21 rfl (lv_at hl 0 rfl) ?_
    refine va_get (D := (dC, dI)) (ci := 6) (v := .int x3) (C := RX6) (T := TX6) (N := 13) hx hb hts iX6_goes_X6 hown hK hP 0 rfl rfl 4 (by decide) (hts _ kX6_goes_1) (fun _ h9 => h9) rfl dX6_goes_22 ?_
    refine lv_if_ne (tgt := 32) hx hb dX6_goes_25 (by decide) (fun c5 => ?_) (fun c5 => ?_)
    · have hF := ite_f hF c5
      refine lv_iconst (v := 0) hx hb dX6_goes_32 (by decide) ?_
      obtain rfl := some_e hF
      exact W.zret (v := 0) hx hb hr rfl (fun t ht hW => ⟨⟨0, (), rfl, rfl, ⟨by rw [ht]; exact hP, va_K.moved hW.alike hK, hD⟩⟩, hS.F ht⟩) hS.2.2 dX6_goes_33
    · have hF := ite_t hF c5
      refine lv_iconst (v := 1) hx hb dX6_goes_28 (by decide) ?_
      refine lv_goto (tgt := 33) hx hb dX6_goes_29 (by decide) ?_
      obtain rfl := some_e hF
      exact W.zret (v := 1) hx hb hr rfl (fun t ht hW => ⟨⟨1, (), rfl, rfl, ⟨by rw [ht]; exact hP, va_K.moved hW.alike hK, hD⟩⟩, hS.F ht⟩) hS.2.2 dX6_goes_33
  refine lv_if_ne (tgt := 9) hx hb dX6_goes_2 (by decide) (fun c1 => ?_) (fun c1 => ?_)
  · have hF := ite_f hF c1
    refine lv_iload_n hx hb dX6_goes_9 rfl (lv_at hl 2 rfl) ?_
    refine lv_if_ne (tgt := 17) hx hb dX6_goes_10 (by decide) (fun c2 => ?_) (fun c2 => ?_)
    · have hF := ite_f hF c2
      refine lv_iconst (v := 0) hx hb dX6_goes_17 (by decide) ?_
      exact Jx3 _ _ _ _ hF hP hD hS (lv_sub hl [0] rfl)
    · have hF := ite_t hF c2
      refine lv_iconst (v := 2) hx hb dX6_goes_13 (by decide) ?_
      refine lv_goto (tgt := 18) hx hb dX6_goes_14 (by decide) ?_
      exact Jx3 _ _ _ _ hF hP hD hS (lv_sub hl [0] rfl)
  · have hF := ite_t hF c1
    refine lv_iconst (v := 1) hx hb dX6_goes_5 (by decide) ?_
    refine lv_goto (tgt := 18) hx hb dX6_goes_6 (by decide) ?_
    exact Jx3 _ _ _ _ hF hP hD hS (lv_sub hl [0] rfl)
def F_X6_save_10 : Nat → (((Nat → Int64)) → Option (Int32 × (Nat → Int64))) → Int32 → (Nat → Int64) → Option (Int32 × (Nat → Int64))
  | 0, _, _, _ => none
  | n2 + 1, K3, v4, v5 => if (228 : Int32) ≤ v4 then (K3 v5) else (ck (inb (v4 + 76) 304) (ck (inb v4 304) (lt_ (α := Nat → Int64) (vp_updL v5 v4.toNatClampNeg (v5 ((v4 + 76).toNatClampNeg))) (fun v9 => lt_ (α := Int32) (v4 + 1) (fun v10 => F_X6_save_10 n2 K3 v10 v9)))))
def F_X6_save_50 (x13 : Int32 × (Nat → Int64)) (sAl : Nat → Int64) : Nat → (((Nat → Int64)) → Option (Int32 × (Nat → Int64))) → Int32 → (Nat → Int64) → Option (Int32 × (Nat → Int64))
  | 0, _, _, _ => none
  | n15 + 1, K16, v17, v18 => if (76 : Int32) ≤ v17 then (K16 v18) else (ck (inb v17 76) (ck (inb ((76 * x13.1) + v17) 304) (lt_ (α := Nat → Int64) (vp_updL v18 (((76 * x13.1) + v17).toNatClampNeg) (sAl v17.toNatClampNeg)) (fun v22 => lt_ (α := Int32) (v17 + 1) (fun v23 => F_X6_save_50 x13 sAl n15 K16 v23 v22)))))
def F_X6_save (sN : Int32) (sAl : Nat → Int64) (sSv : Nat → Int64) : Option (Int32 × (Nat → Int64)) := rg (α := Int32 × (Nat → Int64)) (fun K14 => if (sN : Int32) = 4 then (F_X6_save_10 1000 (fun x11 => lt_ (α := Int32) (sN - 1) (fun v12 => K14 (v12, x11))) 0 sSv) else (K14 (sN, sSv))) (fun x13 => F_X6_save_50 x13 sAl 1000 (fun x24 => lt_ (α := Int32) (x13.1 + 1) (fun v25 => some (v25, x24))) 0 x13.2)
theorem kX6_save_1 : (Cond.fieldLink RX6 58 "SelfTunerModel" "savedMany" "I") ∈ wsX6_save := List.mem_of_getElem? (i := 1) rfl
theorem kX6_save_2 : (Cond.fieldLink RX6 13 "SelfTunerModel" "saved" "[J") ∈ wsX6_save := List.mem_of_getElem? (i := 2) rfl
theorem kX6_save_3 : (Cond.fieldLink RX6 7 "SelfTunerModel" "all" "[J") ∈ wsX6_save := List.mem_of_getElem? (i := 3) rfl
theorem iX6_save_X6 : ∀ w ∈ wsX60, w ∈ wsX6_save := fun w h => List.mem_cons_of_mem _ (List.mem_append_right _ h)
set_option maxHeartbeats 4000000 in
set_option maxRecDepth 100000 in
theorem c_X6_save (l : Launch) (dC : Nat → ClassId) (dI : Nat → Nat → Nat) (cyI cyJ cyB cyS cyD : ClassId) (h : Nat) (aAl : Nat) (aSv : Nat) (aAs : Nat) (aF : Nat) (aG : Nat) (aK : Nat) (aTx : Nat) (aRd : Nat) (sz : Nat) (sN : Int32) (sTh : Int32) (sS : Int64) (sTl : Int32) (sPl : Int32) (sAl : Nat → Int64) (sSv : Nat → Int64) (sAs : Nat → Int64) (sF : Nat → Int64) (sG : Nat → Int64) (sK : Nat → Int64) (sTx : Nat → Int32) (sRd : Nat → Int32) {out : Int32 × (Nat → Int64)} (hF : F_X6_save sN sAl sSv = some out) : Mv l yX6_save wsX6_save ({ frames := 0, cells := 0, slots := 0, locals := 0 } : Room) (dC, dI) [(cyI, .int), (cyJ, .long), (cyB, .byte), (cyS, .object "SelfTuner$State"), (cyD, .double)] sz [.ref h] [(h, .inr (6, [.ref aAl, .ref aSv, .ref aAs, .int sN, .int sTh, .ref aF, .ref aG, .ref aK, .long sS, .ref aTx, .int sTl, .int sPl, .ref aRd])), (aAl, .inl (cyJ, 76, .inr (.inl sAl))), (aSv, .inl (cyJ, 304, .inr (.inl sSv))), (aAs, .inl (cyJ, 76, .inr (.inl sAs))), (aF, .inl (cyJ, 3, .inr (.inl sF))), (aG, .inl (cyJ, 3, .inr (.inl sG))), (aK, .inl (cyJ, 3, .inr (.inl sK))), (aTx, .inl (cyI, 120, .inl sTx)), (aRd, .inl (cyI, 63, .inl sRd))] [(h, .inr (6, [.ref aAl, .ref aSv, .ref aAs, .int out.1, .int sTh, .ref aF, .ref aG, .ref aK, .long sS, .ref aTx, .int sTl, .int sPl, .ref aRd])), (aAl, .inl (cyJ, 76, .inr (.inl sAl))), (aSv, .inl (cyJ, 304, .inr (.inl out.2))), (aAs, .inl (cyJ, 76, .inr (.inl sAs))), (aF, .inl (cyJ, 3, .inr (.inl sF))), (aG, .inl (cyJ, 3, .inr (.inl sG))), (aK, .inl (cyJ, 3, .inr (.inl sK))), (aTx, .inl (cyI, 120, .inl sTx)), (aRd, .inl (cyI, 63, .inl sRd))] := by
  refine Met.ofW (cc := cX6_save) (maxL := 2) (ret := none) (by decide) rfl ?_
  intro p e s m args below meth c s₁ B hml hv
  obtain ⟨rfl, hN, hsz, hP, hK, hD0⟩ := hv
  have hx := B.exec
  have hb := B.bytes
  have hr := B.returns
  have hts := atoms_spec (ws := wsX6_save) B.pre
  have hown : s.vm.findClass RX6 = some m.cls := findClass_of_methodNamed B.named
  have hlocks := B.notSynchronized
  subst hsz
  have hD := hD0.self (sz := s.heap.size)
  generalize hAe : va_A [(h, .inr (6, [.ref aAl, .ref aSv, .ref aAs, .int sN, .int sTh, .ref aF, .ref aG, .ref aK, .long sS, .ref aTx, .int sTl, .int sPl, .ref aRd])), (aAl, .inl (cyJ, 76, .inr (.inl sAl))), (aSv, .inl (cyJ, 304, .inr (.inl sSv))), (aAs, .inl (cyJ, 76, .inr (.inl sAs))), (aF, .inl (cyJ, 3, .inr (.inl sF))), (aG, .inl (cyJ, 3, .inr (.inl sG))), (aK, .inl (cyJ, 3, .inr (.inl sK))), (aTx, .inl (cyI, 120, .inl sTx)), (aRd, .inl (cyI, 63, .inl sRd))] s.heap.size = A at hD ⊢
  have hA : ∀ q : Nat, s.heap.size ≤ q → A q := fun q h => by rw [← hAe]; exact Or.inr h
  have hS : va_S A s.heap s.heap [] := va_S.rf
  have hP : va_P (dC, dI) vwCl [(h, .inr (6, [.ref aAl, .ref aSv, .ref aAs, .int sN, .int sTh, .ref aF, .ref aG, .ref aK, .long sS, .ref aTx, .int sTl, .int sPl, .ref aRd])), (aAl, .inl (cyJ, 76, .inr (.inl sAl))), (aSv, .inl (cyJ, 304, .inr (.inl sSv))), (aAs, .inl (cyJ, 76, .inr (.inl sAs))), (aF, .inl (cyJ, 3, .inr (.inl sF))), (aG, .inl (cyJ, 3, .inr (.inl sG))), (aK, .inl (cyJ, 3, .inr (.inl sK))), (aTx, .inl (cyI, 120, .inl sTx)), (aRd, .inl (cyI, 63, .inl sRd))] s.heap := hP
  have hl := lv_entry ([.ref h]) (n := 2) (Nat.le_of_ble_eq_true rfl)
  rw [lg_entry_eq]
  generalize (lg_sl ([.ref h]) ++ List.replicate (2 - (lg_sl ([.ref h])).length) Slot.unset).toArray = ls at hl ⊢
  have hl : lv_has ls 2 [(0, .ref h)] := hl
  unfold F_X6_save at hF
  refine lv_aload_n hx hb dX6_save_0 rfl (lv_at hl 0 rfl) ?_
  refine va_get (D := (dC, dI)) (ci := 6) (v := .int sN) (C := RX6) (T := TX6) (N := 13) hx hb hts iX6_save_X6 hown hK hP 0 rfl rfl 3 (by decide) (hts _ kX6_save_1) (fun _ h9 => h9) rfl dX6_save_1 ?_
  refine lv_iconst (v := 4) hx hb dX6_save_4 (by decide) ?_
  obtain ⟨K14, hK14, hF⟩ := rg_e hF
  have Jx13 : ∀ (x13 : Int32 × (Nat → Int64)) (H : Heap) (locs : List Loc) (ls : Array Slot), K14 x13 = some out → va_P (dC, dI) vwCl [(h, .inr (6, [.ref aAl, .ref aSv, .ref aAs, .int x13.1, .int sTh, .ref aF, .ref aG, .ref aK, .long sS, .ref aTx, .int sTl, .int sPl, .ref aRd])), (aAl, .inl (cyJ, 76, .inr (.inl sAl))), (aSv, .inl (cyJ, 304, .inr (.inl x13.2))), (aAs, .inl (cyJ, 76, .inr (.inl sAs))), (aF, .inl (cyJ, 3, .inr (.inl sF))), (aG, .inl (cyJ, 3, .inr (.inl sG))), (aK, .inl (cyJ, 3, .inr (.inl sK))), (aTx, .inl (cyI, 120, .inl sTx)), (aRd, .inl (cyI, 63, .inl sRd))] H → va_D A [(h, .inr (6, [.ref aAl, .ref aSv, .ref aAs, .int x13.1, .int sTh, .ref aF, .ref aG, .ref aK, .long sS, .ref aTx, .int sTl, .int sPl, .ref aRd])), (aAl, .inl (cyJ, 76, .inr (.inl sAl))), (aSv, .inl (cyJ, 304, .inr (.inl x13.2))), (aAs, .inl (cyJ, 76, .inr (.inl sAs))), (aF, .inl (cyJ, 3, .inr (.inl sF))), (aG, .inl (cyJ, 3, .inr (.inl sG))), (aK, .inl (cyJ, 3, .inr (.inl sK))), (aTx, .inl (cyI, 120, .inl sTx)), (aRd, .inl (cyI, 63, .inl sRd))] → va_S A s.heap H locs → lv_has ls 2 [(0, .ref h)] → W p l e (headSpec wsX6_save ({ frames := 0, cells := 0, slots := 0, locals := 0 } : Room)).room s m ([.ref h] : List Value).toArray below meth c H locs 0 0 (MQ below (va_Qv (fun (_ : Unit) => True) (cPost (dC, dI) [(cyI, .int), (cyJ, .long), (cyB, .byte), (cyS, .object "SelfTuner$State"), (cyD, .double)] [(h, .inr (6, [.ref aAl, .ref aSv, .ref aAs, .int out.1, .int sTh, .ref aF, .ref aG, .ref aK, .long sS, .ref aTx, .int sTl, .int sPl, .ref aRd])), (aAl, .inl (cyJ, 76, .inr (.inl sAl))), (aSv, .inl (cyJ, 304, .inr (.inl out.2))), (aAs, .inl (cyJ, 76, .inr (.inl sAs))), (aF, .inl (cyJ, 3, .inr (.inl sF))), (aG, .inl (cyJ, 3, .inr (.inl sG))), (aK, .inl (cyJ, 3, .inr (.inl sK))), (aTx, .inl (cyI, 120, .inl sTx)), (aRd, .inl (cyI, 63, .inl sRd))] A) A) ([.ref h] : List Value).toArray s 0 0 A) (F0 m 48 ls []) := by
    intro x13 H locs ls hF hP hD hS hl
    rw [hK14] at hF
    refine lv_iconst (v := 0) hx hb dX6_save_48 (by decide) ?_
    refine lv_istore_n (lv' := [(1, .int 0), (0, .ref h)]) hx hb dX6_save_49 rfl hl (by decide) rfl (fun ls hl => ?_)
    have Ln15 : ∀ (n15 : Nat) (K16 : ((Nat → Int64)) → Option (Int32 × (Nat → Int64))) (v17 : Int32) (v18 : Nat → Int64) (H : Heap) (locs : List Loc) (ls : Array Slot), F_X6_save_50 x13 sAl n15 K16 v17 v18 = some out → va_P (dC, dI) vwCl [(h, .inr (6, [.ref aAl, .ref aSv, .ref aAs, .int x13.1, .int sTh, .ref aF, .ref aG, .ref aK, .long sS, .ref aTx, .int sTl, .int sPl, .ref aRd])), (aAl, .inl (cyJ, 76, .inr (.inl sAl))), (aSv, .inl (cyJ, 304, .inr (.inl v18))), (aAs, .inl (cyJ, 76, .inr (.inl sAs))), (aF, .inl (cyJ, 3, .inr (.inl sF))), (aG, .inl (cyJ, 3, .inr (.inl sG))), (aK, .inl (cyJ, 3, .inr (.inl sK))), (aTx, .inl (cyI, 120, .inl sTx)), (aRd, .inl (cyI, 63, .inl sRd))] H → va_D A [(h, .inr (6, [.ref aAl, .ref aSv, .ref aAs, .int x13.1, .int sTh, .ref aF, .ref aG, .ref aK, .long sS, .ref aTx, .int sTl, .int sPl, .ref aRd])), (aAl, .inl (cyJ, 76, .inr (.inl sAl))), (aSv, .inl (cyJ, 304, .inr (.inl v18))), (aAs, .inl (cyJ, 76, .inr (.inl sAs))), (aF, .inl (cyJ, 3, .inr (.inl sF))), (aG, .inl (cyJ, 3, .inr (.inl sG))), (aK, .inl (cyJ, 3, .inr (.inl sK))), (aTx, .inl (cyI, 120, .inl sTx)), (aRd, .inl (cyI, 63, .inl sRd))] → va_S A s.heap H locs → lv_has ls 2 [(0, .ref h), (1, .int v17)] → (∀ (x24 : (Nat → Int64)) (H : Heap) (locs : List Loc) (ls : Array Slot), K16 x24 = some out → va_P (dC, dI) vwCl [(h, .inr (6, [.ref aAl, .ref aSv, .ref aAs, .int x13.1, .int sTh, .ref aF, .ref aG, .ref aK, .long sS, .ref aTx, .int sTl, .int sPl, .ref aRd])), (aAl, .inl (cyJ, 76, .inr (.inl sAl))), (aSv, .inl (cyJ, 304, .inr (.inl x24))), (aAs, .inl (cyJ, 76, .inr (.inl sAs))), (aF, .inl (cyJ, 3, .inr (.inl sF))), (aG, .inl (cyJ, 3, .inr (.inl sG))), (aK, .inl (cyJ, 3, .inr (.inl sK))), (aTx, .inl (cyI, 120, .inl sTx)), (aRd, .inl (cyI, 63, .inl sRd))] H → va_D A [(h, .inr (6, [.ref aAl, .ref aSv, .ref aAs, .int x13.1, .int sTh, .ref aF, .ref aG, .ref aK, .long sS, .ref aTx, .int sTl, .int sPl, .ref aRd])), (aAl, .inl (cyJ, 76, .inr (.inl sAl))), (aSv, .inl (cyJ, 304, .inr (.inl x24))), (aAs, .inl (cyJ, 76, .inr (.inl sAs))), (aF, .inl (cyJ, 3, .inr (.inl sF))), (aG, .inl (cyJ, 3, .inr (.inl sG))), (aK, .inl (cyJ, 3, .inr (.inl sK))), (aTx, .inl (cyI, 120, .inl sTx)), (aRd, .inl (cyI, 63, .inl sRd))] → va_S A s.heap H locs → lv_has ls 2 [(0, .ref h)] → W p l e (headSpec wsX6_save ({ frames := 0, cells := 0, slots := 0, locals := 0 } : Room)).room s m ([.ref h] : List Value).toArray below meth c H locs 0 0 (MQ below (va_Qv (fun (_ : Unit) => True) (cPost (dC, dI) [(cyI, .int), (cyJ, .long), (cyB, .byte), (cyS, .object "SelfTuner$State"), (cyD, .double)] [(h, .inr (6, [.ref aAl, .ref aSv, .ref aAs, .int out.1, .int sTh, .ref aF, .ref aG, .ref aK, .long sS, .ref aTx, .int sTl, .int sPl, .ref aRd])), (aAl, .inl (cyJ, 76, .inr (.inl sAl))), (aSv, .inl (cyJ, 304, .inr (.inl out.2))), (aAs, .inl (cyJ, 76, .inr (.inl sAs))), (aF, .inl (cyJ, 3, .inr (.inl sF))), (aG, .inl (cyJ, 3, .inr (.inl sG))), (aK, .inl (cyJ, 3, .inr (.inl sK))), (aTx, .inl (cyI, 120, .inl sTx)), (aRd, .inl (cyI, 63, .inl sRd))] A) A) ([.ref h] : List Value).toArray s 0 0 A) (F0 m 82 ls [])) → W p l e (headSpec wsX6_save ({ frames := 0, cells := 0, slots := 0, locals := 0 } : Room)).room s m ([.ref h] : List Value).toArray below meth c H locs 0 0 (MQ below (va_Qv (fun (_ : Unit) => True) (cPost (dC, dI) [(cyI, .int), (cyJ, .long), (cyB, .byte), (cyS, .object "SelfTuner$State"), (cyD, .double)] [(h, .inr (6, [.ref aAl, .ref aSv, .ref aAs, .int out.1, .int sTh, .ref aF, .ref aG, .ref aK, .long sS, .ref aTx, .int sTl, .int sPl, .ref aRd])), (aAl, .inl (cyJ, 76, .inr (.inl sAl))), (aSv, .inl (cyJ, 304, .inr (.inl out.2))), (aAs, .inl (cyJ, 76, .inr (.inl sAs))), (aF, .inl (cyJ, 3, .inr (.inl sF))), (aG, .inl (cyJ, 3, .inr (.inl sG))), (aK, .inl (cyJ, 3, .inr (.inl sK))), (aTx, .inl (cyI, 120, .inl sTx)), (aRd, .inl (cyI, 63, .inl sRd))] A) A) ([.ref h] : List Value).toArray s 0 0 A) (F0 m 50 ls []) := by
      intro n15
      induction n15 with
      | zero => intro K16 v17 v18 H locs ls hF; exact no_e (show none = some out from hF)
      | succ n15 ihn15 =>
        intro K16 v17 v18 H locs ls hF hP hD hS hl kxn15
        rw [F_X6_save_50] at hF
        refine lv_iload_n hx hb dX6_save_50 rfl (lv_at hl 1 rfl) ?_
        refine lv_bipush (v := 76) hx hb dX6_save_51 (by decide) ?_
        refine lv_icmp_ge (tgt := 82) hx hb dX6_save_53 (by decide) (fun c19 => ?_) (fun c19 => ?_)
        · have hF := ite_t hF c19
          exact kxn15 _ _ _ _ hF hP hD hS (lv_sub hl [0] rfl)
        · have hF := ite_f hF c19
          refine lv_aload_n hx hb dX6_save_56 rfl (lv_at hl 0 rfl) ?_
          refine va_get (D := (dC, dI)) (ci := 6) (v := .ref aSv) (C := RX6) (T := TX6) (N := 13) hx hb hts iX6_save_X6 hown hK hP 0 rfl rfl 1 (by decide) (hts _ kX6_save_2) (fun _ h9 => h9) rfl dX6_save_57 ?_
          refine lv_bipush (v := 76) hx hb dX6_save_60 (by decide) ?_
          refine lv_aload_n hx hb dX6_save_62 rfl (lv_at hl 0 rfl) ?_
          refine va_get (D := (dC, dI)) (ci := 6) (v := .int x13.1) (C := RX6) (T := TX6) (N := 13) hx hb hts iX6_save_X6 hown hK hP 0 rfl rfl 3 (by decide) (hts _ kX6_save_1) (fun _ h9 => h9) rfl dX6_save_63 ?_
          refine lv_imul hx hb dX6_save_66 ?_
          refine lv_iload_n hx hb dX6_save_67 rfl (lv_at hl 1 rfl) ?_
          refine lv_iadd hx hb dX6_save_68 ?_
          refine lv_aload_n hx hb dX6_save_69 rfl (lv_at hl 0 rfl) ?_
          refine va_get (D := (dC, dI)) (ci := 6) (v := .ref aAl) (C := RX6) (T := TX6) (N := 13) hx hb hts iX6_save_X6 hown hK hP 0 rfl rfl 0 (by decide) (hts _ kX6_save_3) (fun _ h9 => h9) rfl dX6_save_70 ?_
          refine lv_iload_n hx hb dX6_save_73 rfl (lv_at hl 1 rfl) ?_
          obtain ⟨g20, hF⟩ := ck_e hF
          refine x_lald hx hb hK hP 1 1 rfl rfl rfl g20 dX6_save_74 ?_
          obtain ⟨g21, hF⟩ := ck_e hF
          obtain ⟨v22, hv22, hF⟩ := lt_e hF
          refine x_last (ws' := [(h, .inr (6, [.ref aAl, .ref aSv, .ref aAs, .int x13.1, .int sTh, .ref aF, .ref aG, .ref aK, .long sS, .ref aTx, .int sTl, .int sPl, .ref aRd])), (aAl, .inl (cyJ, 76, .inr (.inl sAl))), (aSv, .inl (cyJ, 304, .inr (.inl v22))), (aAs, .inl (cyJ, 76, .inr (.inl sAs))), (aF, .inl (cyJ, 3, .inr (.inl sF))), (aG, .inl (cyJ, 3, .inr (.inl sG))), (aK, .inl (cyJ, 3, .inr (.inl sK))), (aTx, .inl (cyI, 120, .inl sTx)), (aRd, .inl (cyI, 63, .inl sRd))]) hx hb hK hP hD hS 2 1 rfl rfl rfl g21 hv22 rfl dX6_save_75 (fun H locs hP hD hS => ?_)
          obtain ⟨v23, hv23, hF⟩ := lt_e hF
          refine lv_iinc (v := v23) (lv' := [(1, .int v23), (0, .ref h)]) hx hb dX6_save_76 hl (k := 1) rfl (by rw [hv23]; rfl) (by decide) rfl (fun ls hl => ?_)
          refine lv_goto (tgt := 50) hx hb dX6_save_79 (by decide) ?_
          exact ihn15 _ _ _ _ _ _ hF hP hD hS (lv_sub hl [1, 0] rfl) kxn15
    refine Ln15 _ _ _ _ _ _ _ hF hP hD hS (lv_sub hl [1, 0] rfl) (fun x24 H locs ls hF hP hD hS hl => ?_)
    refine lv_aload_n hx hb dX6_save_82 rfl (lv_at hl 0 rfl) ?_
    refine lv_dup hx hb dX6_save_83 rfl ?_
    refine va_get (D := (dC, dI)) (ci := 6) (v := .int x13.1) (C := RX6) (T := TX6) (N := 13) hx hb hts iX6_save_X6 hown hK hP 0 rfl rfl 3 (by decide) (hts _ kX6_save_1) (fun _ h9 => h9) rfl dX6_save_84 ?_
    refine lv_iconst (v := 1) hx hb dX6_save_87 (by decide) ?_
    refine lv_iadd hx hb dX6_save_88 ?_
    obtain ⟨v25, hv25, hF⟩ := lt_e hF
    refine x_topi hv25 ?_
    refine x_put (D := (dC, dI)) (ci := 6) (v := .int v25) (ty := .int) (C := RX6) (T := TX6) (N := 13) (ws' := [(h, .inr (6, [.ref aAl, .ref aSv, .ref aAs, .int v25, .int sTh, .ref aF, .ref aG, .ref aK, .long sS, .ref aTx, .int sTl, .int sPl, .ref aRd])), (aAl, .inl (cyJ, 76, .inr (.inl sAl))), (aSv, .inl (cyJ, 304, .inr (.inl x24))), (aAs, .inl (cyJ, 76, .inr (.inl sAs))), (aF, .inl (cyJ, 3, .inr (.inl sF))), (aG, .inl (cyJ, 3, .inr (.inl sG))), (aK, .inl (cyJ, 3, .inr (.inl sK))), (aTx, .inl (cyI, 120, .inl sTx)), (aRd, .inl (cyI, 63, .inl sRd))]) hx hb hts iX6_save_X6 tyX6 tyX6_ok nmX6 hown hK hP hD hS 0 rfl rfl 3 (by decide) (hts _ kX6_save_1) (fun _ h9 => h9) rfl (by decide +kernel) rfl rfl (Nat.le_of_ble_eq_true rfl) rfl dX6_save_89 (fun H locs hP hD hS => ?_)
    obtain rfl := some_e hF
    exact W.vret hx hb hr (fun t ht hW => ⟨⟨(), rfl, trivial, ⟨by rw [ht]; exact hP, va_K.moved hW.alike hK, hD⟩⟩, hS.F ht⟩) hS.2.2 dX6_save_92
  refine lv_icmp_ne (tgt := 48) hx hb dX6_save_5 (by decide) (fun c1 => ?_) (fun c1 => ?_)
  · have hF := ite_f hF c1
    exact Jx13 _ _ _ _ hF hP hD hS (lv_sub hl [0] rfl)
  · have hF := ite_t hF c1
    refine lv_iconst (v := 0) hx hb dX6_save_8 (by decide) ?_
    refine lv_istore_n (lv' := [(1, .int 0), (0, .ref h)]) hx hb dX6_save_9 rfl hl (by decide) rfl (fun ls hl => ?_)
    have Ln2 : ∀ (n2 : Nat) (K3 : ((Nat → Int64)) → Option (Int32 × (Nat → Int64))) (v4 : Int32) (v5 : Nat → Int64) (H : Heap) (locs : List Loc) (ls : Array Slot), F_X6_save_10 n2 K3 v4 v5 = some out → va_P (dC, dI) vwCl [(h, .inr (6, [.ref aAl, .ref aSv, .ref aAs, .int sN, .int sTh, .ref aF, .ref aG, .ref aK, .long sS, .ref aTx, .int sTl, .int sPl, .ref aRd])), (aAl, .inl (cyJ, 76, .inr (.inl sAl))), (aSv, .inl (cyJ, 304, .inr (.inl v5))), (aAs, .inl (cyJ, 76, .inr (.inl sAs))), (aF, .inl (cyJ, 3, .inr (.inl sF))), (aG, .inl (cyJ, 3, .inr (.inl sG))), (aK, .inl (cyJ, 3, .inr (.inl sK))), (aTx, .inl (cyI, 120, .inl sTx)), (aRd, .inl (cyI, 63, .inl sRd))] H → va_D A [(h, .inr (6, [.ref aAl, .ref aSv, .ref aAs, .int sN, .int sTh, .ref aF, .ref aG, .ref aK, .long sS, .ref aTx, .int sTl, .int sPl, .ref aRd])), (aAl, .inl (cyJ, 76, .inr (.inl sAl))), (aSv, .inl (cyJ, 304, .inr (.inl v5))), (aAs, .inl (cyJ, 76, .inr (.inl sAs))), (aF, .inl (cyJ, 3, .inr (.inl sF))), (aG, .inl (cyJ, 3, .inr (.inl sG))), (aK, .inl (cyJ, 3, .inr (.inl sK))), (aTx, .inl (cyI, 120, .inl sTx)), (aRd, .inl (cyI, 63, .inl sRd))] → va_S A s.heap H locs → lv_has ls 2 [(0, .ref h), (1, .int v4)] → (∀ (x11 : (Nat → Int64)) (H : Heap) (locs : List Loc) (ls : Array Slot), K3 x11 = some out → va_P (dC, dI) vwCl [(h, .inr (6, [.ref aAl, .ref aSv, .ref aAs, .int sN, .int sTh, .ref aF, .ref aG, .ref aK, .long sS, .ref aTx, .int sTl, .int sPl, .ref aRd])), (aAl, .inl (cyJ, 76, .inr (.inl sAl))), (aSv, .inl (cyJ, 304, .inr (.inl x11))), (aAs, .inl (cyJ, 76, .inr (.inl sAs))), (aF, .inl (cyJ, 3, .inr (.inl sF))), (aG, .inl (cyJ, 3, .inr (.inl sG))), (aK, .inl (cyJ, 3, .inr (.inl sK))), (aTx, .inl (cyI, 120, .inl sTx)), (aRd, .inl (cyI, 63, .inl sRd))] H → va_D A [(h, .inr (6, [.ref aAl, .ref aSv, .ref aAs, .int sN, .int sTh, .ref aF, .ref aG, .ref aK, .long sS, .ref aTx, .int sTl, .int sPl, .ref aRd])), (aAl, .inl (cyJ, 76, .inr (.inl sAl))), (aSv, .inl (cyJ, 304, .inr (.inl x11))), (aAs, .inl (cyJ, 76, .inr (.inl sAs))), (aF, .inl (cyJ, 3, .inr (.inl sF))), (aG, .inl (cyJ, 3, .inr (.inl sG))), (aK, .inl (cyJ, 3, .inr (.inl sK))), (aTx, .inl (cyI, 120, .inl sTx)), (aRd, .inl (cyI, 63, .inl sRd))] → va_S A s.heap H locs → lv_has ls 2 [(0, .ref h)] → W p l e (headSpec wsX6_save ({ frames := 0, cells := 0, slots := 0, locals := 0 } : Room)).room s m ([.ref h] : List Value).toArray below meth c H locs 0 0 (MQ below (va_Qv (fun (_ : Unit) => True) (cPost (dC, dI) [(cyI, .int), (cyJ, .long), (cyB, .byte), (cyS, .object "SelfTuner$State"), (cyD, .double)] [(h, .inr (6, [.ref aAl, .ref aSv, .ref aAs, .int out.1, .int sTh, .ref aF, .ref aG, .ref aK, .long sS, .ref aTx, .int sTl, .int sPl, .ref aRd])), (aAl, .inl (cyJ, 76, .inr (.inl sAl))), (aSv, .inl (cyJ, 304, .inr (.inl out.2))), (aAs, .inl (cyJ, 76, .inr (.inl sAs))), (aF, .inl (cyJ, 3, .inr (.inl sF))), (aG, .inl (cyJ, 3, .inr (.inl sG))), (aK, .inl (cyJ, 3, .inr (.inl sK))), (aTx, .inl (cyI, 120, .inl sTx)), (aRd, .inl (cyI, 63, .inl sRd))] A) A) ([.ref h] : List Value).toArray s 0 0 A) (F0 m 38 ls [])) → W p l e (headSpec wsX6_save ({ frames := 0, cells := 0, slots := 0, locals := 0 } : Room)).room s m ([.ref h] : List Value).toArray below meth c H locs 0 0 (MQ below (va_Qv (fun (_ : Unit) => True) (cPost (dC, dI) [(cyI, .int), (cyJ, .long), (cyB, .byte), (cyS, .object "SelfTuner$State"), (cyD, .double)] [(h, .inr (6, [.ref aAl, .ref aSv, .ref aAs, .int out.1, .int sTh, .ref aF, .ref aG, .ref aK, .long sS, .ref aTx, .int sTl, .int sPl, .ref aRd])), (aAl, .inl (cyJ, 76, .inr (.inl sAl))), (aSv, .inl (cyJ, 304, .inr (.inl out.2))), (aAs, .inl (cyJ, 76, .inr (.inl sAs))), (aF, .inl (cyJ, 3, .inr (.inl sF))), (aG, .inl (cyJ, 3, .inr (.inl sG))), (aK, .inl (cyJ, 3, .inr (.inl sK))), (aTx, .inl (cyI, 120, .inl sTx)), (aRd, .inl (cyI, 63, .inl sRd))] A) A) ([.ref h] : List Value).toArray s 0 0 A) (F0 m 10 ls []) := by
      intro n2
      induction n2 with
      | zero => intro K3 v4 v5 H locs ls hF; exact no_e (show none = some out from hF)
      | succ n2 ihn2 =>
        intro K3 v4 v5 H locs ls hF hP hD hS hl kxn2
        rw [F_X6_save_10] at hF
        refine lv_iload_n hx hb dX6_save_10 rfl (lv_at hl 1 rfl) ?_
        refine lv_sipush (v := 228) hx hb dX6_save_11 (by decide) ?_
        refine lv_icmp_ge (tgt := 38) hx hb dX6_save_14 (by decide) (fun c6 => ?_) (fun c6 => ?_)
        · have hF := ite_t hF c6
          exact kxn2 _ _ _ _ hF hP hD hS (lv_sub hl [0] rfl)
        · have hF := ite_f hF c6
          refine lv_aload_n hx hb dX6_save_17 rfl (lv_at hl 0 rfl) ?_
          refine va_get (D := (dC, dI)) (ci := 6) (v := .ref aSv) (C := RX6) (T := TX6) (N := 13) hx hb hts iX6_save_X6 hown hK hP 0 rfl rfl 1 (by decide) (hts _ kX6_save_2) (fun _ h9 => h9) rfl dX6_save_18 ?_
          refine lv_iload_n hx hb dX6_save_21 rfl (lv_at hl 1 rfl) ?_
          refine lv_aload_n hx hb dX6_save_22 rfl (lv_at hl 0 rfl) ?_
          refine va_get (D := (dC, dI)) (ci := 6) (v := .ref aSv) (C := RX6) (T := TX6) (N := 13) hx hb hts iX6_save_X6 hown hK hP 0 rfl rfl 1 (by decide) (hts _ kX6_save_2) (fun _ h9 => h9) rfl dX6_save_23 ?_
          refine lv_iload_n hx hb dX6_save_26 rfl (lv_at hl 1 rfl) ?_
          refine lv_bipush (v := 76) hx hb dX6_save_27 (by decide) ?_
          refine lv_iadd hx hb dX6_save_29 ?_
          obtain ⟨g7, hF⟩ := ck_e hF
          refine x_lald hx hb hK hP 2 1 rfl rfl rfl g7 dX6_save_30 ?_
          obtain ⟨g8, hF⟩ := ck_e hF
          obtain ⟨v9, hv9, hF⟩ := lt_e hF
          refine x_last (ws' := [(h, .inr (6, [.ref aAl, .ref aSv, .ref aAs, .int sN, .int sTh, .ref aF, .ref aG, .ref aK, .long sS, .ref aTx, .int sTl, .int sPl, .ref aRd])), (aAl, .inl (cyJ, 76, .inr (.inl sAl))), (aSv, .inl (cyJ, 304, .inr (.inl v9))), (aAs, .inl (cyJ, 76, .inr (.inl sAs))), (aF, .inl (cyJ, 3, .inr (.inl sF))), (aG, .inl (cyJ, 3, .inr (.inl sG))), (aK, .inl (cyJ, 3, .inr (.inl sK))), (aTx, .inl (cyI, 120, .inl sTx)), (aRd, .inl (cyI, 63, .inl sRd))]) hx hb hK hP hD hS 2 1 rfl rfl rfl g8 hv9 rfl dX6_save_31 (fun H locs hP hD hS => ?_)
          obtain ⟨v10, hv10, hF⟩ := lt_e hF
          refine lv_iinc (v := v10) (lv' := [(1, .int v10), (0, .ref h)]) hx hb dX6_save_32 hl (k := 1) rfl (by rw [hv10]; rfl) (by decide) rfl (fun ls hl => ?_)
          refine lv_goto (tgt := 10) hx hb dX6_save_35 (by decide) ?_
          exact ihn2 _ _ _ _ _ _ hF hP hD hS (lv_sub hl [1, 0] rfl) kxn2
    refine Ln2 _ _ _ _ _ _ _ hF hP hD hS (lv_sub hl [1, 0] rfl) (fun x11 H locs ls hF hP hD hS hl => ?_)
    refine lv_aload_n hx hb dX6_save_38 rfl (lv_at hl 0 rfl) ?_
    refine lv_dup hx hb dX6_save_39 rfl ?_
    refine va_get (D := (dC, dI)) (ci := 6) (v := .int sN) (C := RX6) (T := TX6) (N := 13) hx hb hts iX6_save_X6 hown hK hP 0 rfl rfl 3 (by decide) (hts _ kX6_save_1) (fun _ h9 => h9) rfl dX6_save_40 ?_
    refine lv_iconst (v := 1) hx hb dX6_save_43 (by decide) ?_
    refine lv_isub hx hb dX6_save_44 ?_
    obtain ⟨v12, hv12, hF⟩ := lt_e hF
    refine x_topi hv12 ?_
    refine x_put (D := (dC, dI)) (ci := 6) (v := .int v12) (ty := .int) (C := RX6) (T := TX6) (N := 13) (ws' := [(h, .inr (6, [.ref aAl, .ref aSv, .ref aAs, .int v12, .int sTh, .ref aF, .ref aG, .ref aK, .long sS, .ref aTx, .int sTl, .int sPl, .ref aRd])), (aAl, .inl (cyJ, 76, .inr (.inl sAl))), (aSv, .inl (cyJ, 304, .inr (.inl x11))), (aAs, .inl (cyJ, 76, .inr (.inl sAs))), (aF, .inl (cyJ, 3, .inr (.inl sF))), (aG, .inl (cyJ, 3, .inr (.inl sG))), (aK, .inl (cyJ, 3, .inr (.inl sK))), (aTx, .inl (cyI, 120, .inl sTx)), (aRd, .inl (cyI, 63, .inl sRd))]) hx hb hts iX6_save_X6 tyX6 tyX6_ok nmX6 hown hK hP hD hS 0 rfl rfl 3 (by decide) (hts _ kX6_save_1) (fun _ h9 => h9) rfl (by decide +kernel) rfl rfl (Nat.le_of_ble_eq_true rfl) rfl dX6_save_45 (fun H locs hP hD hS => ?_)
    exact Jx13 _ _ _ _ hF hP hD hS (lv_sub hl [0] rfl)
def F_X6_lays_2 (sAl : Nat → Int64) : Nat → (((Nat → Int64)) → Option ((Nat → Int64))) → Int32 → (Nat → Int64) → Option ((Nat → Int64))
  | 0, _, _, _ => none
  | n1 + 1, K2, v3, v4 => if (76 : Int32) ≤ v3 then (K2 v4) else (ck (inb v3 76) (ck (inb v3 76) (lt_ (α := Nat → Int64) (vp_updL v4 v3.toNatClampNeg (sAl v3.toNatClampNeg)) (fun v8 => lt_ (α := Int32) (v3 + 1) (fun v9 => F_X6_lays_2 sAl n1 K2 v9 v8)))))
def F_X6_lays (sAl : Nat → Int64) (sAs : Nat → Int64) : Option ((Nat → Int64)) := F_X6_lays_2 sAl 1000 (fun x10 => some x10) 0 sAs
theorem kX6_lays_1 : (Cond.fieldLink RX6 16 "SelfTunerModel" "aside" "[J") ∈ wsX6_lays := List.mem_of_getElem? (i := 1) rfl
theorem kX6_lays_2 : (Cond.fieldLink RX6 7 "SelfTunerModel" "all" "[J") ∈ wsX6_lays := List.mem_of_getElem? (i := 2) rfl
theorem iX6_lays_X6 : ∀ w ∈ wsX60, w ∈ wsX6_lays := fun w h => List.mem_cons_of_mem _ (List.mem_append_right _ h)
set_option maxHeartbeats 4000000 in
set_option maxRecDepth 100000 in
theorem c_X6_lays (l : Launch) (dC : Nat → ClassId) (dI : Nat → Nat → Nat) (cyI cyJ cyB cyS cyD : ClassId) (h : Nat) (aAl : Nat) (aSv : Nat) (aAs : Nat) (aF : Nat) (aG : Nat) (aK : Nat) (aTx : Nat) (aRd : Nat) (sz : Nat) (sN : Int32) (sTh : Int32) (sS : Int64) (sTl : Int32) (sPl : Int32) (sAl : Nat → Int64) (sSv : Nat → Int64) (sAs : Nat → Int64) (sF : Nat → Int64) (sG : Nat → Int64) (sK : Nat → Int64) (sTx : Nat → Int32) (sRd : Nat → Int32) {out : (Nat → Int64)} (hF : F_X6_lays sAl sAs = some out) : Mv l yX6_lays wsX6_lays ({ frames := 0, cells := 0, slots := 0, locals := 0 } : Room) (dC, dI) [(cyI, .int), (cyJ, .long), (cyB, .byte), (cyS, .object "SelfTuner$State"), (cyD, .double)] sz [.ref h] [(h, .inr (6, [.ref aAl, .ref aSv, .ref aAs, .int sN, .int sTh, .ref aF, .ref aG, .ref aK, .long sS, .ref aTx, .int sTl, .int sPl, .ref aRd])), (aAl, .inl (cyJ, 76, .inr (.inl sAl))), (aSv, .inl (cyJ, 304, .inr (.inl sSv))), (aAs, .inl (cyJ, 76, .inr (.inl sAs))), (aF, .inl (cyJ, 3, .inr (.inl sF))), (aG, .inl (cyJ, 3, .inr (.inl sG))), (aK, .inl (cyJ, 3, .inr (.inl sK))), (aTx, .inl (cyI, 120, .inl sTx)), (aRd, .inl (cyI, 63, .inl sRd))] [(h, .inr (6, [.ref aAl, .ref aSv, .ref aAs, .int sN, .int sTh, .ref aF, .ref aG, .ref aK, .long sS, .ref aTx, .int sTl, .int sPl, .ref aRd])), (aAl, .inl (cyJ, 76, .inr (.inl sAl))), (aSv, .inl (cyJ, 304, .inr (.inl sSv))), (aAs, .inl (cyJ, 76, .inr (.inl out))), (aF, .inl (cyJ, 3, .inr (.inl sF))), (aG, .inl (cyJ, 3, .inr (.inl sG))), (aK, .inl (cyJ, 3, .inr (.inl sK))), (aTx, .inl (cyI, 120, .inl sTx)), (aRd, .inl (cyI, 63, .inl sRd))] := by
  refine Met.ofW (cc := cX6_lays) (maxL := 2) (ret := none) (by decide) rfl ?_
  intro p e s m args below meth c s₁ B hml hv
  obtain ⟨rfl, hN, hsz, hP, hK, hD0⟩ := hv
  have hx := B.exec
  have hb := B.bytes
  have hr := B.returns
  have hts := atoms_spec (ws := wsX6_lays) B.pre
  have hown : s.vm.findClass RX6 = some m.cls := findClass_of_methodNamed B.named
  have hlocks := B.notSynchronized
  subst hsz
  have hD := hD0.self (sz := s.heap.size)
  generalize hAe : va_A [(h, .inr (6, [.ref aAl, .ref aSv, .ref aAs, .int sN, .int sTh, .ref aF, .ref aG, .ref aK, .long sS, .ref aTx, .int sTl, .int sPl, .ref aRd])), (aAl, .inl (cyJ, 76, .inr (.inl sAl))), (aSv, .inl (cyJ, 304, .inr (.inl sSv))), (aAs, .inl (cyJ, 76, .inr (.inl sAs))), (aF, .inl (cyJ, 3, .inr (.inl sF))), (aG, .inl (cyJ, 3, .inr (.inl sG))), (aK, .inl (cyJ, 3, .inr (.inl sK))), (aTx, .inl (cyI, 120, .inl sTx)), (aRd, .inl (cyI, 63, .inl sRd))] s.heap.size = A at hD ⊢
  have hA : ∀ q : Nat, s.heap.size ≤ q → A q := fun q h => by rw [← hAe]; exact Or.inr h
  have hS : va_S A s.heap s.heap [] := va_S.rf
  have hP : va_P (dC, dI) vwCl [(h, .inr (6, [.ref aAl, .ref aSv, .ref aAs, .int sN, .int sTh, .ref aF, .ref aG, .ref aK, .long sS, .ref aTx, .int sTl, .int sPl, .ref aRd])), (aAl, .inl (cyJ, 76, .inr (.inl sAl))), (aSv, .inl (cyJ, 304, .inr (.inl sSv))), (aAs, .inl (cyJ, 76, .inr (.inl sAs))), (aF, .inl (cyJ, 3, .inr (.inl sF))), (aG, .inl (cyJ, 3, .inr (.inl sG))), (aK, .inl (cyJ, 3, .inr (.inl sK))), (aTx, .inl (cyI, 120, .inl sTx)), (aRd, .inl (cyI, 63, .inl sRd))] s.heap := hP
  have hl := lv_entry ([.ref h]) (n := 2) (Nat.le_of_ble_eq_true rfl)
  rw [lg_entry_eq]
  generalize (lg_sl ([.ref h]) ++ List.replicate (2 - (lg_sl ([.ref h])).length) Slot.unset).toArray = ls at hl ⊢
  have hl : lv_has ls 2 [(0, .ref h)] := hl
  unfold F_X6_lays at hF
  refine lv_iconst (v := 0) hx hb dX6_lays_0 (by decide) ?_
  refine lv_istore_n (lv' := [(1, .int 0), (0, .ref h)]) hx hb dX6_lays_1 rfl hl (by decide) rfl (fun ls hl => ?_)
  have Ln1 : ∀ (n1 : Nat) (K2 : ((Nat → Int64)) → Option ((Nat → Int64))) (v3 : Int32) (v4 : Nat → Int64) (H : Heap) (locs : List Loc) (ls : Array Slot), F_X6_lays_2 sAl n1 K2 v3 v4 = some out → va_P (dC, dI) vwCl [(h, .inr (6, [.ref aAl, .ref aSv, .ref aAs, .int sN, .int sTh, .ref aF, .ref aG, .ref aK, .long sS, .ref aTx, .int sTl, .int sPl, .ref aRd])), (aAl, .inl (cyJ, 76, .inr (.inl sAl))), (aSv, .inl (cyJ, 304, .inr (.inl sSv))), (aAs, .inl (cyJ, 76, .inr (.inl v4))), (aF, .inl (cyJ, 3, .inr (.inl sF))), (aG, .inl (cyJ, 3, .inr (.inl sG))), (aK, .inl (cyJ, 3, .inr (.inl sK))), (aTx, .inl (cyI, 120, .inl sTx)), (aRd, .inl (cyI, 63, .inl sRd))] H → va_D A [(h, .inr (6, [.ref aAl, .ref aSv, .ref aAs, .int sN, .int sTh, .ref aF, .ref aG, .ref aK, .long sS, .ref aTx, .int sTl, .int sPl, .ref aRd])), (aAl, .inl (cyJ, 76, .inr (.inl sAl))), (aSv, .inl (cyJ, 304, .inr (.inl sSv))), (aAs, .inl (cyJ, 76, .inr (.inl v4))), (aF, .inl (cyJ, 3, .inr (.inl sF))), (aG, .inl (cyJ, 3, .inr (.inl sG))), (aK, .inl (cyJ, 3, .inr (.inl sK))), (aTx, .inl (cyI, 120, .inl sTx)), (aRd, .inl (cyI, 63, .inl sRd))] → va_S A s.heap H locs → lv_has ls 2 [(0, .ref h), (1, .int v3)] → (∀ (x10 : (Nat → Int64)) (H : Heap) (locs : List Loc) (ls : Array Slot), K2 x10 = some out → va_P (dC, dI) vwCl [(h, .inr (6, [.ref aAl, .ref aSv, .ref aAs, .int sN, .int sTh, .ref aF, .ref aG, .ref aK, .long sS, .ref aTx, .int sTl, .int sPl, .ref aRd])), (aAl, .inl (cyJ, 76, .inr (.inl sAl))), (aSv, .inl (cyJ, 304, .inr (.inl sSv))), (aAs, .inl (cyJ, 76, .inr (.inl x10))), (aF, .inl (cyJ, 3, .inr (.inl sF))), (aG, .inl (cyJ, 3, .inr (.inl sG))), (aK, .inl (cyJ, 3, .inr (.inl sK))), (aTx, .inl (cyI, 120, .inl sTx)), (aRd, .inl (cyI, 63, .inl sRd))] H → va_D A [(h, .inr (6, [.ref aAl, .ref aSv, .ref aAs, .int sN, .int sTh, .ref aF, .ref aG, .ref aK, .long sS, .ref aTx, .int sTl, .int sPl, .ref aRd])), (aAl, .inl (cyJ, 76, .inr (.inl sAl))), (aSv, .inl (cyJ, 304, .inr (.inl sSv))), (aAs, .inl (cyJ, 76, .inr (.inl x10))), (aF, .inl (cyJ, 3, .inr (.inl sF))), (aG, .inl (cyJ, 3, .inr (.inl sG))), (aK, .inl (cyJ, 3, .inr (.inl sK))), (aTx, .inl (cyI, 120, .inl sTx)), (aRd, .inl (cyI, 63, .inl sRd))] → va_S A s.heap H locs → lv_has ls 2 [] → W p l e (headSpec wsX6_lays ({ frames := 0, cells := 0, slots := 0, locals := 0 } : Room)).room s m ([.ref h] : List Value).toArray below meth c H locs 0 0 (MQ below (va_Qv (fun (_ : Unit) => True) (cPost (dC, dI) [(cyI, .int), (cyJ, .long), (cyB, .byte), (cyS, .object "SelfTuner$State"), (cyD, .double)] [(h, .inr (6, [.ref aAl, .ref aSv, .ref aAs, .int sN, .int sTh, .ref aF, .ref aG, .ref aK, .long sS, .ref aTx, .int sTl, .int sPl, .ref aRd])), (aAl, .inl (cyJ, 76, .inr (.inl sAl))), (aSv, .inl (cyJ, 304, .inr (.inl sSv))), (aAs, .inl (cyJ, 76, .inr (.inl out))), (aF, .inl (cyJ, 3, .inr (.inl sF))), (aG, .inl (cyJ, 3, .inr (.inl sG))), (aK, .inl (cyJ, 3, .inr (.inl sK))), (aTx, .inl (cyI, 120, .inl sTx)), (aRd, .inl (cyI, 63, .inl sRd))] A) A) ([.ref h] : List Value).toArray s 0 0 A) (F0 m 26 ls [])) → W p l e (headSpec wsX6_lays ({ frames := 0, cells := 0, slots := 0, locals := 0 } : Room)).room s m ([.ref h] : List Value).toArray below meth c H locs 0 0 (MQ below (va_Qv (fun (_ : Unit) => True) (cPost (dC, dI) [(cyI, .int), (cyJ, .long), (cyB, .byte), (cyS, .object "SelfTuner$State"), (cyD, .double)] [(h, .inr (6, [.ref aAl, .ref aSv, .ref aAs, .int sN, .int sTh, .ref aF, .ref aG, .ref aK, .long sS, .ref aTx, .int sTl, .int sPl, .ref aRd])), (aAl, .inl (cyJ, 76, .inr (.inl sAl))), (aSv, .inl (cyJ, 304, .inr (.inl sSv))), (aAs, .inl (cyJ, 76, .inr (.inl out))), (aF, .inl (cyJ, 3, .inr (.inl sF))), (aG, .inl (cyJ, 3, .inr (.inl sG))), (aK, .inl (cyJ, 3, .inr (.inl sK))), (aTx, .inl (cyI, 120, .inl sTx)), (aRd, .inl (cyI, 63, .inl sRd))] A) A) ([.ref h] : List Value).toArray s 0 0 A) (F0 m 2 ls []) := by
    intro n1
    induction n1 with
    | zero => intro K2 v3 v4 H locs ls hF; exact no_e (show none = some out from hF)
    | succ n1 ihn1 =>
      intro K2 v3 v4 H locs ls hF hP hD hS hl kxn1
      rw [F_X6_lays_2] at hF
      refine lv_iload_n hx hb dX6_lays_2 rfl (lv_at hl 1 rfl) ?_
      refine lv_bipush (v := 76) hx hb dX6_lays_3 (by decide) ?_
      refine lv_icmp_ge (tgt := 26) hx hb dX6_lays_5 (by decide) (fun c5 => ?_) (fun c5 => ?_)
      · have hF := ite_t hF c5
        exact kxn1 _ _ _ _ hF hP hD hS (lv_sub hl [] rfl)
      · have hF := ite_f hF c5
        refine lv_aload_n hx hb dX6_lays_8 rfl (lv_at hl 0 rfl) ?_
        refine va_get (D := (dC, dI)) (ci := 6) (v := .ref aAs) (C := RX6) (T := TX6) (N := 13) hx hb hts iX6_lays_X6 hown hK hP 0 rfl rfl 2 (by decide) (hts _ kX6_lays_1) (fun _ h9 => h9) rfl dX6_lays_9 ?_
        refine lv_iload_n hx hb dX6_lays_12 rfl (lv_at hl 1 rfl) ?_
        refine lv_aload_n hx hb dX6_lays_13 rfl (lv_at hl 0 rfl) ?_
        refine va_get (D := (dC, dI)) (ci := 6) (v := .ref aAl) (C := RX6) (T := TX6) (N := 13) hx hb hts iX6_lays_X6 hown hK hP 0 rfl rfl 0 (by decide) (hts _ kX6_lays_2) (fun _ h9 => h9) rfl dX6_lays_14 ?_
        refine lv_iload_n hx hb dX6_lays_17 rfl (lv_at hl 1 rfl) ?_
        obtain ⟨g6, hF⟩ := ck_e hF
        refine x_lald hx hb hK hP 1 1 rfl rfl rfl g6 dX6_lays_18 ?_
        obtain ⟨g7, hF⟩ := ck_e hF
        obtain ⟨v8, hv8, hF⟩ := lt_e hF
        refine x_last (ws' := [(h, .inr (6, [.ref aAl, .ref aSv, .ref aAs, .int sN, .int sTh, .ref aF, .ref aG, .ref aK, .long sS, .ref aTx, .int sTl, .int sPl, .ref aRd])), (aAl, .inl (cyJ, 76, .inr (.inl sAl))), (aSv, .inl (cyJ, 304, .inr (.inl sSv))), (aAs, .inl (cyJ, 76, .inr (.inl v8))), (aF, .inl (cyJ, 3, .inr (.inl sF))), (aG, .inl (cyJ, 3, .inr (.inl sG))), (aK, .inl (cyJ, 3, .inr (.inl sK))), (aTx, .inl (cyI, 120, .inl sTx)), (aRd, .inl (cyI, 63, .inl sRd))]) hx hb hK hP hD hS 3 1 rfl rfl rfl g7 hv8 rfl dX6_lays_19 (fun H locs hP hD hS => ?_)
        obtain ⟨v9, hv9, hF⟩ := lt_e hF
        refine lv_iinc (v := v9) (lv' := [(1, .int v9), (0, .ref h)]) hx hb dX6_lays_20 hl (k := 1) rfl (by rw [hv9]; rfl) (by decide) rfl (fun ls hl => ?_)
        refine lv_goto (tgt := 2) hx hb dX6_lays_23 (by decide) ?_
        exact ihn1 _ _ _ _ _ _ hF hP hD hS (lv_sub hl [1, 0] rfl) kxn1
  refine Ln1 _ _ _ _ _ _ _ hF hP hD hS (lv_sub hl [1, 0] rfl) (fun x10 H locs ls hF hP hD hS hl => ?_)
  obtain rfl := some_e hF
  exact W.vret hx hb hr (fun t ht hW => ⟨⟨(), rfl, trivial, ⟨by rw [ht]; exact hP, va_K.moved hW.alike hK, hD⟩⟩, hS.F ht⟩) hS.2.2 dX6_lays_26
def F_X6_takesBack_2 (sAs : Nat → Int64) : Nat → (((Nat → Int64)) → Option ((Nat → Int64))) → Int32 → (Nat → Int64) → Option ((Nat → Int64))
  | 0, _, _, _ => none
  | n1 + 1, K2, v3, v4 => if (76 : Int32) ≤ v3 then (K2 v4) else (ck (inb v3 76) (ck (inb v3 76) (lt_ (α := Nat → Int64) (vp_updL v4 v3.toNatClampNeg (sAs v3.toNatClampNeg)) (fun v8 => lt_ (α := Int32) (v3 + 1) (fun v9 => F_X6_takesBack_2 sAs n1 K2 v9 v8)))))
def F_X6_takesBack (sAl : Nat → Int64) (sAs : Nat → Int64) : Option ((Nat → Int64)) := F_X6_takesBack_2 sAs 1000 (fun x10 => some x10) 0 sAl
theorem kX6_takesBack_1 : (Cond.fieldLink RX6 7 "SelfTunerModel" "all" "[J") ∈ wsX6_takesBack := List.mem_of_getElem? (i := 1) rfl
theorem kX6_takesBack_2 : (Cond.fieldLink RX6 16 "SelfTunerModel" "aside" "[J") ∈ wsX6_takesBack := List.mem_of_getElem? (i := 2) rfl
theorem iX6_takesBack_X6 : ∀ w ∈ wsX60, w ∈ wsX6_takesBack := fun w h => List.mem_cons_of_mem _ (List.mem_append_right _ h)
set_option maxHeartbeats 4000000 in
set_option maxRecDepth 100000 in
theorem c_X6_takesBack (l : Launch) (dC : Nat → ClassId) (dI : Nat → Nat → Nat) (cyI cyJ cyB cyS cyD : ClassId) (h : Nat) (aAl : Nat) (aSv : Nat) (aAs : Nat) (aF : Nat) (aG : Nat) (aK : Nat) (aTx : Nat) (aRd : Nat) (sz : Nat) (sN : Int32) (sTh : Int32) (sS : Int64) (sTl : Int32) (sPl : Int32) (sAl : Nat → Int64) (sSv : Nat → Int64) (sAs : Nat → Int64) (sF : Nat → Int64) (sG : Nat → Int64) (sK : Nat → Int64) (sTx : Nat → Int32) (sRd : Nat → Int32) {out : (Nat → Int64)} (hF : F_X6_takesBack sAl sAs = some out) : Mv l yX6_takesBack wsX6_takesBack ({ frames := 0, cells := 0, slots := 0, locals := 0 } : Room) (dC, dI) [(cyI, .int), (cyJ, .long), (cyB, .byte), (cyS, .object "SelfTuner$State"), (cyD, .double)] sz [.ref h] [(h, .inr (6, [.ref aAl, .ref aSv, .ref aAs, .int sN, .int sTh, .ref aF, .ref aG, .ref aK, .long sS, .ref aTx, .int sTl, .int sPl, .ref aRd])), (aAl, .inl (cyJ, 76, .inr (.inl sAl))), (aSv, .inl (cyJ, 304, .inr (.inl sSv))), (aAs, .inl (cyJ, 76, .inr (.inl sAs))), (aF, .inl (cyJ, 3, .inr (.inl sF))), (aG, .inl (cyJ, 3, .inr (.inl sG))), (aK, .inl (cyJ, 3, .inr (.inl sK))), (aTx, .inl (cyI, 120, .inl sTx)), (aRd, .inl (cyI, 63, .inl sRd))] [(h, .inr (6, [.ref aAl, .ref aSv, .ref aAs, .int sN, .int sTh, .ref aF, .ref aG, .ref aK, .long sS, .ref aTx, .int sTl, .int sPl, .ref aRd])), (aAl, .inl (cyJ, 76, .inr (.inl out))), (aSv, .inl (cyJ, 304, .inr (.inl sSv))), (aAs, .inl (cyJ, 76, .inr (.inl sAs))), (aF, .inl (cyJ, 3, .inr (.inl sF))), (aG, .inl (cyJ, 3, .inr (.inl sG))), (aK, .inl (cyJ, 3, .inr (.inl sK))), (aTx, .inl (cyI, 120, .inl sTx)), (aRd, .inl (cyI, 63, .inl sRd))] := by
  refine Met.ofW (cc := cX6_takesBack) (maxL := 2) (ret := none) (by decide) rfl ?_
  intro p e s m args below meth c s₁ B hml hv
  obtain ⟨rfl, hN, hsz, hP, hK, hD0⟩ := hv
  have hx := B.exec
  have hb := B.bytes
  have hr := B.returns
  have hts := atoms_spec (ws := wsX6_takesBack) B.pre
  have hown : s.vm.findClass RX6 = some m.cls := findClass_of_methodNamed B.named
  have hlocks := B.notSynchronized
  subst hsz
  have hD := hD0.self (sz := s.heap.size)
  generalize hAe : va_A [(h, .inr (6, [.ref aAl, .ref aSv, .ref aAs, .int sN, .int sTh, .ref aF, .ref aG, .ref aK, .long sS, .ref aTx, .int sTl, .int sPl, .ref aRd])), (aAl, .inl (cyJ, 76, .inr (.inl sAl))), (aSv, .inl (cyJ, 304, .inr (.inl sSv))), (aAs, .inl (cyJ, 76, .inr (.inl sAs))), (aF, .inl (cyJ, 3, .inr (.inl sF))), (aG, .inl (cyJ, 3, .inr (.inl sG))), (aK, .inl (cyJ, 3, .inr (.inl sK))), (aTx, .inl (cyI, 120, .inl sTx)), (aRd, .inl (cyI, 63, .inl sRd))] s.heap.size = A at hD ⊢
  have hA : ∀ q : Nat, s.heap.size ≤ q → A q := fun q h => by rw [← hAe]; exact Or.inr h
  have hS : va_S A s.heap s.heap [] := va_S.rf
  have hP : va_P (dC, dI) vwCl [(h, .inr (6, [.ref aAl, .ref aSv, .ref aAs, .int sN, .int sTh, .ref aF, .ref aG, .ref aK, .long sS, .ref aTx, .int sTl, .int sPl, .ref aRd])), (aAl, .inl (cyJ, 76, .inr (.inl sAl))), (aSv, .inl (cyJ, 304, .inr (.inl sSv))), (aAs, .inl (cyJ, 76, .inr (.inl sAs))), (aF, .inl (cyJ, 3, .inr (.inl sF))), (aG, .inl (cyJ, 3, .inr (.inl sG))), (aK, .inl (cyJ, 3, .inr (.inl sK))), (aTx, .inl (cyI, 120, .inl sTx)), (aRd, .inl (cyI, 63, .inl sRd))] s.heap := hP
  have hl := lv_entry ([.ref h]) (n := 2) (Nat.le_of_ble_eq_true rfl)
  rw [lg_entry_eq]
  generalize (lg_sl ([.ref h]) ++ List.replicate (2 - (lg_sl ([.ref h])).length) Slot.unset).toArray = ls at hl ⊢
  have hl : lv_has ls 2 [(0, .ref h)] := hl
  unfold F_X6_takesBack at hF
  refine lv_iconst (v := 0) hx hb dX6_takesBack_0 (by decide) ?_
  refine lv_istore_n (lv' := [(1, .int 0), (0, .ref h)]) hx hb dX6_takesBack_1 rfl hl (by decide) rfl (fun ls hl => ?_)
  have Ln1 : ∀ (n1 : Nat) (K2 : ((Nat → Int64)) → Option ((Nat → Int64))) (v3 : Int32) (v4 : Nat → Int64) (H : Heap) (locs : List Loc) (ls : Array Slot), F_X6_takesBack_2 sAs n1 K2 v3 v4 = some out → va_P (dC, dI) vwCl [(h, .inr (6, [.ref aAl, .ref aSv, .ref aAs, .int sN, .int sTh, .ref aF, .ref aG, .ref aK, .long sS, .ref aTx, .int sTl, .int sPl, .ref aRd])), (aAl, .inl (cyJ, 76, .inr (.inl v4))), (aSv, .inl (cyJ, 304, .inr (.inl sSv))), (aAs, .inl (cyJ, 76, .inr (.inl sAs))), (aF, .inl (cyJ, 3, .inr (.inl sF))), (aG, .inl (cyJ, 3, .inr (.inl sG))), (aK, .inl (cyJ, 3, .inr (.inl sK))), (aTx, .inl (cyI, 120, .inl sTx)), (aRd, .inl (cyI, 63, .inl sRd))] H → va_D A [(h, .inr (6, [.ref aAl, .ref aSv, .ref aAs, .int sN, .int sTh, .ref aF, .ref aG, .ref aK, .long sS, .ref aTx, .int sTl, .int sPl, .ref aRd])), (aAl, .inl (cyJ, 76, .inr (.inl v4))), (aSv, .inl (cyJ, 304, .inr (.inl sSv))), (aAs, .inl (cyJ, 76, .inr (.inl sAs))), (aF, .inl (cyJ, 3, .inr (.inl sF))), (aG, .inl (cyJ, 3, .inr (.inl sG))), (aK, .inl (cyJ, 3, .inr (.inl sK))), (aTx, .inl (cyI, 120, .inl sTx)), (aRd, .inl (cyI, 63, .inl sRd))] → va_S A s.heap H locs → lv_has ls 2 [(0, .ref h), (1, .int v3)] → (∀ (x10 : (Nat → Int64)) (H : Heap) (locs : List Loc) (ls : Array Slot), K2 x10 = some out → va_P (dC, dI) vwCl [(h, .inr (6, [.ref aAl, .ref aSv, .ref aAs, .int sN, .int sTh, .ref aF, .ref aG, .ref aK, .long sS, .ref aTx, .int sTl, .int sPl, .ref aRd])), (aAl, .inl (cyJ, 76, .inr (.inl x10))), (aSv, .inl (cyJ, 304, .inr (.inl sSv))), (aAs, .inl (cyJ, 76, .inr (.inl sAs))), (aF, .inl (cyJ, 3, .inr (.inl sF))), (aG, .inl (cyJ, 3, .inr (.inl sG))), (aK, .inl (cyJ, 3, .inr (.inl sK))), (aTx, .inl (cyI, 120, .inl sTx)), (aRd, .inl (cyI, 63, .inl sRd))] H → va_D A [(h, .inr (6, [.ref aAl, .ref aSv, .ref aAs, .int sN, .int sTh, .ref aF, .ref aG, .ref aK, .long sS, .ref aTx, .int sTl, .int sPl, .ref aRd])), (aAl, .inl (cyJ, 76, .inr (.inl x10))), (aSv, .inl (cyJ, 304, .inr (.inl sSv))), (aAs, .inl (cyJ, 76, .inr (.inl sAs))), (aF, .inl (cyJ, 3, .inr (.inl sF))), (aG, .inl (cyJ, 3, .inr (.inl sG))), (aK, .inl (cyJ, 3, .inr (.inl sK))), (aTx, .inl (cyI, 120, .inl sTx)), (aRd, .inl (cyI, 63, .inl sRd))] → va_S A s.heap H locs → lv_has ls 2 [] → W p l e (headSpec wsX6_takesBack ({ frames := 0, cells := 0, slots := 0, locals := 0 } : Room)).room s m ([.ref h] : List Value).toArray below meth c H locs 0 0 (MQ below (va_Qv (fun (_ : Unit) => True) (cPost (dC, dI) [(cyI, .int), (cyJ, .long), (cyB, .byte), (cyS, .object "SelfTuner$State"), (cyD, .double)] [(h, .inr (6, [.ref aAl, .ref aSv, .ref aAs, .int sN, .int sTh, .ref aF, .ref aG, .ref aK, .long sS, .ref aTx, .int sTl, .int sPl, .ref aRd])), (aAl, .inl (cyJ, 76, .inr (.inl out))), (aSv, .inl (cyJ, 304, .inr (.inl sSv))), (aAs, .inl (cyJ, 76, .inr (.inl sAs))), (aF, .inl (cyJ, 3, .inr (.inl sF))), (aG, .inl (cyJ, 3, .inr (.inl sG))), (aK, .inl (cyJ, 3, .inr (.inl sK))), (aTx, .inl (cyI, 120, .inl sTx)), (aRd, .inl (cyI, 63, .inl sRd))] A) A) ([.ref h] : List Value).toArray s 0 0 A) (F0 m 26 ls [])) → W p l e (headSpec wsX6_takesBack ({ frames := 0, cells := 0, slots := 0, locals := 0 } : Room)).room s m ([.ref h] : List Value).toArray below meth c H locs 0 0 (MQ below (va_Qv (fun (_ : Unit) => True) (cPost (dC, dI) [(cyI, .int), (cyJ, .long), (cyB, .byte), (cyS, .object "SelfTuner$State"), (cyD, .double)] [(h, .inr (6, [.ref aAl, .ref aSv, .ref aAs, .int sN, .int sTh, .ref aF, .ref aG, .ref aK, .long sS, .ref aTx, .int sTl, .int sPl, .ref aRd])), (aAl, .inl (cyJ, 76, .inr (.inl out))), (aSv, .inl (cyJ, 304, .inr (.inl sSv))), (aAs, .inl (cyJ, 76, .inr (.inl sAs))), (aF, .inl (cyJ, 3, .inr (.inl sF))), (aG, .inl (cyJ, 3, .inr (.inl sG))), (aK, .inl (cyJ, 3, .inr (.inl sK))), (aTx, .inl (cyI, 120, .inl sTx)), (aRd, .inl (cyI, 63, .inl sRd))] A) A) ([.ref h] : List Value).toArray s 0 0 A) (F0 m 2 ls []) := by
    intro n1
    induction n1 with
    | zero => intro K2 v3 v4 H locs ls hF; exact no_e (show none = some out from hF)
    | succ n1 ihn1 =>
      intro K2 v3 v4 H locs ls hF hP hD hS hl kxn1
      rw [F_X6_takesBack_2] at hF
      refine lv_iload_n hx hb dX6_takesBack_2 rfl (lv_at hl 1 rfl) ?_
      refine lv_bipush (v := 76) hx hb dX6_takesBack_3 (by decide) ?_
      refine lv_icmp_ge (tgt := 26) hx hb dX6_takesBack_5 (by decide) (fun c5 => ?_) (fun c5 => ?_)
      · have hF := ite_t hF c5
        exact kxn1 _ _ _ _ hF hP hD hS (lv_sub hl [] rfl)
      · have hF := ite_f hF c5
        refine lv_aload_n hx hb dX6_takesBack_8 rfl (lv_at hl 0 rfl) ?_
        refine va_get (D := (dC, dI)) (ci := 6) (v := .ref aAl) (C := RX6) (T := TX6) (N := 13) hx hb hts iX6_takesBack_X6 hown hK hP 0 rfl rfl 0 (by decide) (hts _ kX6_takesBack_1) (fun _ h9 => h9) rfl dX6_takesBack_9 ?_
        refine lv_iload_n hx hb dX6_takesBack_12 rfl (lv_at hl 1 rfl) ?_
        refine lv_aload_n hx hb dX6_takesBack_13 rfl (lv_at hl 0 rfl) ?_
        refine va_get (D := (dC, dI)) (ci := 6) (v := .ref aAs) (C := RX6) (T := TX6) (N := 13) hx hb hts iX6_takesBack_X6 hown hK hP 0 rfl rfl 2 (by decide) (hts _ kX6_takesBack_2) (fun _ h9 => h9) rfl dX6_takesBack_14 ?_
        refine lv_iload_n hx hb dX6_takesBack_17 rfl (lv_at hl 1 rfl) ?_
        obtain ⟨g6, hF⟩ := ck_e hF
        refine x_lald hx hb hK hP 3 1 rfl rfl rfl g6 dX6_takesBack_18 ?_
        obtain ⟨g7, hF⟩ := ck_e hF
        obtain ⟨v8, hv8, hF⟩ := lt_e hF
        refine x_last (ws' := [(h, .inr (6, [.ref aAl, .ref aSv, .ref aAs, .int sN, .int sTh, .ref aF, .ref aG, .ref aK, .long sS, .ref aTx, .int sTl, .int sPl, .ref aRd])), (aAl, .inl (cyJ, 76, .inr (.inl v8))), (aSv, .inl (cyJ, 304, .inr (.inl sSv))), (aAs, .inl (cyJ, 76, .inr (.inl sAs))), (aF, .inl (cyJ, 3, .inr (.inl sF))), (aG, .inl (cyJ, 3, .inr (.inl sG))), (aK, .inl (cyJ, 3, .inr (.inl sK))), (aTx, .inl (cyI, 120, .inl sTx)), (aRd, .inl (cyI, 63, .inl sRd))]) hx hb hK hP hD hS 1 1 rfl rfl rfl g7 hv8 rfl dX6_takesBack_19 (fun H locs hP hD hS => ?_)
        obtain ⟨v9, hv9, hF⟩ := lt_e hF
        refine lv_iinc (v := v9) (lv' := [(1, .int v9), (0, .ref h)]) hx hb dX6_takesBack_20 hl (k := 1) rfl (by rw [hv9]; rfl) (by decide) rfl (fun ls hl => ?_)
        refine lv_goto (tgt := 2) hx hb dX6_takesBack_23 (by decide) ?_
        exact ihn1 _ _ _ _ _ _ hF hP hD hS (lv_sub hl [1, 0] rfl) kxn1
  refine Ln1 _ _ _ _ _ _ _ hF hP hD hS (lv_sub hl [1, 0] rfl) (fun x10 H locs ls hF hP hD hS hl => ?_)
  obtain rfl := some_e hF
  exact W.vret hx hb hr (fun t ht hW => ⟨⟨(), rfl, trivial, ⟨by rw [ht]; exact hP, va_K.moved hW.alike hK, hD⟩⟩, hS.F ht⟩) hS.2.2 dX6_takesBack_26
def F_X6_set (sN : Int32) (sAl : Nat → Int64) (sSv : Nat → Int64) (w1 : Int32) (w2 : Int32) : Option (Int32 × Int32 × Int32 × (Nat → Int64) × (Nat → Int64)) := ob (F_X6_in w1.toInt64 0 6) (fun o1 => rg (α := Int32) (fun K6 => if (o1 : Int32) = 0 then (K6 0) else (ob (F_X6_isValue w1 w2) (fun o3 => if (o3 : Int32) = 0 then (K6 0) else (K6 1)))) (fun x5 => ob (F_X6_goes x5 1) (fun o7 => if (o7.1 : Int32) = 0 then (some (0, sN, o7.2, sAl, sSv)) else (ob (F_X6_save sN sAl sSv) (fun o9 => ck (inb (0 + w1) 76) (lt_ (α := Int32) ((sAl ((0 + w1).toNatClampNeg)).toInt32) (fun v11 => ck (inb (0 + w1) 76) (lt_ (α := Nat → Int64) (vp_updL sAl ((0 + w1).toNatClampNeg) w2.toInt64) (fun v13 => some (v11, o9.1, o7.2, v13, o9.2))))))))))
theorem kX6_set_1 : (Cond.constantLong RX6 77 (6)) ∈ wsX6_set := List.mem_of_getElem? (i := 1) rfl
theorem kX6_set_2 : (Cond.fieldLink RX6 7 "SelfTunerModel" "all" "[J") ∈ wsX6_set := List.mem_of_getElem? (i := 2) rfl
theorem iX6_set_X6 : ∀ w ∈ wsX60, w ∈ wsX6_set := fun w h => List.mem_cons_of_mem _ (List.mem_append_right _ h)
set_option maxHeartbeats 4000000 in
set_option maxRecDepth 100000 in
theorem c_X6_set (l : Launch) (dC : Nat → ClassId) (dI : Nat → Nat → Nat) (cyI cyJ cyB cyS cyD : ClassId) (h : Nat) (aAl : Nat) (aSv : Nat) (aAs : Nat) (aF : Nat) (aG : Nat) (aK : Nat) (aTx : Nat) (aRd : Nat) (sz : Nat) (sN : Int32) (sTh : Int32) (sS : Int64) (sTl : Int32) (sPl : Int32) (sAl : Nat → Int64) (sSv : Nat → Int64) (sAs : Nat → Int64) (sF : Nat → Int64) (sG : Nat → Int64) (sK : Nat → Int64) (sTx : Nat → Int32) (sRd : Nat → Int32) (w1 : Int32) (w2 : Int32) {out : Int32 × Int32 × Int32 × (Nat → Int64) × (Nat → Int64)} (hF : F_X6_set sN sAl sSv w1 w2 = some out) : Mi l yX6_set wsX6_set ({ frames := 2, cells := 0, slots := 0, locals := 46 } : Room) (dC, dI) [(cyI, .int), (cyJ, .long), (cyB, .byte), (cyS, .object "SelfTuner$State"), (cyD, .double)] sz [.ref h, .int w1, .int w2] [(h, .inr (6, [.ref aAl, .ref aSv, .ref aAs, .int sN, .int sTh, .ref aF, .ref aG, .ref aK, .long sS, .ref aTx, .int sTl, .int sPl, .ref aRd])), (aAl, .inl (cyJ, 76, .inr (.inl sAl))), (aSv, .inl (cyJ, 304, .inr (.inl sSv))), (aAs, .inl (cyJ, 76, .inr (.inl sAs))), (aF, .inl (cyJ, 3, .inr (.inl sF))), (aG, .inl (cyJ, 3, .inr (.inl sG))), (aK, .inl (cyJ, 3, .inr (.inl sK))), (aTx, .inl (cyI, 120, .inl sTx)), (aRd, .inl (cyI, 63, .inl sRd))] out.1 [(h, .inr (6, [.ref aAl, .ref aSv, .ref aAs, .int out.2.1, .int out.2.2.1, .ref aF, .ref aG, .ref aK, .long sS, .ref aTx, .int sTl, .int sPl, .ref aRd])), (aAl, .inl (cyJ, 76, .inr (.inl out.2.2.2.1))), (aSv, .inl (cyJ, 304, .inr (.inl out.2.2.2.2))), (aAs, .inl (cyJ, 76, .inr (.inl sAs))), (aF, .inl (cyJ, 3, .inr (.inl sF))), (aG, .inl (cyJ, 3, .inr (.inl sG))), (aK, .inl (cyJ, 3, .inr (.inl sK))), (aTx, .inl (cyI, 120, .inl sTx)), (aRd, .inl (cyI, 63, .inl sRd))] := by
  refine Met.ofW (cc := cX6_set) (maxL := 4) (ret := (some .int)) (by decide) rfl ?_
  intro p e s m args below meth c s₁ B hml hv
  obtain ⟨rfl, hN, hsz, hP, hK, hD0⟩ := hv
  have hx := B.exec
  have hb := B.bytes
  have hr := B.returns
  have hts := atoms_spec (ws := wsX6_set) B.pre
  have hown : s.vm.findClass RX6 = some m.cls := findClass_of_methodNamed B.named
  have hlocks := B.notSynchronized
  subst hsz
  have hD := hD0.self (sz := s.heap.size)
  generalize hAe : va_A [(h, .inr (6, [.ref aAl, .ref aSv, .ref aAs, .int sN, .int sTh, .ref aF, .ref aG, .ref aK, .long sS, .ref aTx, .int sTl, .int sPl, .ref aRd])), (aAl, .inl (cyJ, 76, .inr (.inl sAl))), (aSv, .inl (cyJ, 304, .inr (.inl sSv))), (aAs, .inl (cyJ, 76, .inr (.inl sAs))), (aF, .inl (cyJ, 3, .inr (.inl sF))), (aG, .inl (cyJ, 3, .inr (.inl sG))), (aK, .inl (cyJ, 3, .inr (.inl sK))), (aTx, .inl (cyI, 120, .inl sTx)), (aRd, .inl (cyI, 63, .inl sRd))] s.heap.size = A at hD ⊢
  have hA : ∀ q : Nat, s.heap.size ≤ q → A q := fun q h => by rw [← hAe]; exact Or.inr h
  have hS : va_S A s.heap s.heap [] := va_S.rf
  have hP : va_P (dC, dI) vwCl [(h, .inr (6, [.ref aAl, .ref aSv, .ref aAs, .int sN, .int sTh, .ref aF, .ref aG, .ref aK, .long sS, .ref aTx, .int sTl, .int sPl, .ref aRd])), (aAl, .inl (cyJ, 76, .inr (.inl sAl))), (aSv, .inl (cyJ, 304, .inr (.inl sSv))), (aAs, .inl (cyJ, 76, .inr (.inl sAs))), (aF, .inl (cyJ, 3, .inr (.inl sF))), (aG, .inl (cyJ, 3, .inr (.inl sG))), (aK, .inl (cyJ, 3, .inr (.inl sK))), (aTx, .inl (cyI, 120, .inl sTx)), (aRd, .inl (cyI, 63, .inl sRd))] s.heap := hP
  have hl := lv_entry ([.ref h, .int w1, .int w2]) (n := 4) (Nat.le_of_ble_eq_true rfl)
  rw [lg_entry_eq]
  generalize (lg_sl ([.ref h, .int w1, .int w2]) ++ List.replicate (4 - (lg_sl ([.ref h, .int w1, .int w2])).length) Slot.unset).toArray = ls at hl ⊢
  have hl : lv_has ls 4 [(0, .ref h), (1, .int w1), (2, .int w2)] := hl
  unfold F_X6_set at hF
  refine lv_aload_n hx hb dX6_set_0 rfl (lv_at hl 0 rfl) ?_
  refine lv_iload_n hx hb dX6_set_1 rfl (lv_at hl 1 rfl) ?_
  refine lv_i2l (v := w1.toInt64) hx hb dX6_set_2 rfl ?_
  refine lv_lconst (v := 0) hx hb dX6_set_3 (by decide) ?_
  refine lv_ldc2 (v := 6) hx hb hown (hts _ kX6_set_1) dX6_set_4 ?_
  obtain ⟨o1, ho1, hF⟩ := ob_e hF
  refine x_callzi (va_runS (As := [.long w1.toInt64, .long 0, .long 6]) (rest := [.ref h]) ⟨hx, hb, hml, hown, hts⟩ (c_X6_in l w1.toInt64 0 6 ho1) (va_cwS 3 hts gX6_set_X6_in rfl rfl rfl (by decide +kernel) ⟨Nat.le_of_ble_eq_true rfl, Nat.le_of_ble_eq_true rfl⟩) ⟨true_blind, fun _ _ _ => ⟨rfl, trivial⟩⟩ rfl rfl hl.1 rfl (lv_room (Nat.le_of_ble_eq_true rfl)) dX6_set_7 ⟨Nat.le_of_ble_eq_true rfl, Nat.le_of_ble_eq_true rfl⟩) ?_
  obtain ⟨K6, hK6, hF⟩ := rg_e hF
  have Jx5 : ∀ (x5 : Int32) (H : Heap) (locs : List Loc) (ls : Array Slot), K6 x5 = some out → va_P (dC, dI) vwCl [(h, .inr (6, [.ref aAl, .ref aSv, .ref aAs, .int sN, .int sTh, .ref aF, .ref aG, .ref aK, .long sS, .ref aTx, .int sTl, .int sPl, .ref aRd])), (aAl, .inl (cyJ, 76, .inr (.inl sAl))), (aSv, .inl (cyJ, 304, .inr (.inl sSv))), (aAs, .inl (cyJ, 76, .inr (.inl sAs))), (aF, .inl (cyJ, 3, .inr (.inl sF))), (aG, .inl (cyJ, 3, .inr (.inl sG))), (aK, .inl (cyJ, 3, .inr (.inl sK))), (aTx, .inl (cyI, 120, .inl sTx)), (aRd, .inl (cyI, 63, .inl sRd))] H → va_D A [(h, .inr (6, [.ref aAl, .ref aSv, .ref aAs, .int sN, .int sTh, .ref aF, .ref aG, .ref aK, .long sS, .ref aTx, .int sTl, .int sPl, .ref aRd])), (aAl, .inl (cyJ, 76, .inr (.inl sAl))), (aSv, .inl (cyJ, 304, .inr (.inl sSv))), (aAs, .inl (cyJ, 76, .inr (.inl sAs))), (aF, .inl (cyJ, 3, .inr (.inl sF))), (aG, .inl (cyJ, 3, .inr (.inl sG))), (aK, .inl (cyJ, 3, .inr (.inl sK))), (aTx, .inl (cyI, 120, .inl sTx)), (aRd, .inl (cyI, 63, .inl sRd))] → va_S A s.heap H locs → lv_has ls 4 [(0, .ref h), (1, .int w1), (2, .int w2)] → W p l e (headSpec wsX6_set ({ frames := 2, cells := 0, slots := 0, locals := 46 } : Room)).room s m ([.ref h, .int w1, .int w2] : List Value).toArray below meth c H locs 0 0 (MQ below (va_Qi (fun (r' : Int32) (_ : Unit) => r' = out.1) (cPost (dC, dI) [(cyI, .int), (cyJ, .long), (cyB, .byte), (cyS, .object "SelfTuner$State"), (cyD, .double)] [(h, .inr (6, [.ref aAl, .ref aSv, .ref aAs, .int out.2.1, .int out.2.2.1, .ref aF, .ref aG, .ref aK, .long sS, .ref aTx, .int sTl, .int sPl, .ref aRd])), (aAl, .inl (cyJ, 76, .inr (.inl out.2.2.2.1))), (aSv, .inl (cyJ, 304, .inr (.inl out.2.2.2.2))), (aAs, .inl (cyJ, 76, .inr (.inl sAs))), (aF, .inl (cyJ, 3, .inr (.inl sF))), (aG, .inl (cyJ, 3, .inr (.inl sG))), (aK, .inl (cyJ, 3, .inr (.inl sK))), (aTx, .inl (cyI, 120, .inl sTx)), (aRd, .inl (cyI, 63, .inl sRd))] A) A) ([.ref h, .int w1, .int w2] : List Value).toArray s 0 0 A) (F0 m 26 ls [.int x5, .ref h]) := by
    intro x5 H locs ls hF hP hD hS hl
    rw [hK6] at hF
    refine lv_iconst (v := 1) hx hb dX6_set_26 (by decide) ?_
    obtain ⟨o7, ho7, hF⟩ := ob_e hF
    refine x_calli (wr := []) (ws' := [(h, .inr (6, [.ref aAl, .ref aSv, .ref aAs, .int sN, .int o7.2, .ref aF, .ref aG, .ref aK, .long sS, .ref aTx, .int sTl, .int sPl, .ref aRd])), (aAl, .inl (cyJ, 76, .inr (.inl sAl))), (aSv, .inl (cyJ, 304, .inr (.inl sSv))), (aAs, .inl (cyJ, 76, .inr (.inl sAs))), (aF, .inl (cyJ, 3, .inr (.inl sF))), (aG, .inl (cyJ, 3, .inr (.inl sG))), (aK, .inl (cyJ, 3, .inr (.inl sK))), (aTx, .inl (cyI, 120, .inl sTx)), (aRd, .inl (cyI, 63, .inl sRd))]) (va_runV (As := [.int x5, .int 1]) (rest := []) ⟨hx, hb, hml, hown, hts⟩ (c_X6_goes l dC dI cyI cyJ cyB cyS cyD h aAl aSv aAs aF aG aK aTx aRd H.size sN sTh sS sTl sPl sAl sSv sAs sF sG sK sTx sRd x5 1 ho7) (cwV 2 hts gX6_set_X6_goes rfl rfl rfl (by decide +kernel) ⟨Nat.le_of_ble_eq_true rfl, Nat.le_of_ble_eq_true rfl⟩) ⟨cPre_blind, va_recv hK hP (ci := 6) (q0 := 0) rfl rfl, x_pre hN hP hD hK [0, 1, 2, 3, 4, 5, 6, 7, 8] rfl rfl⟩ rfl rfl hl.1 rfl (lv_room (Nat.le_of_ble_eq_true rfl)) dX6_set_27 ⟨Nat.le_of_ble_eq_true rfl, Nat.le_of_ble_eq_true rfl⟩) hP hD hS hA [0, 1, 2, 3, 4, 5, 6, 7, 8] [] [0, 1, 2, 3, 4, 5, 6, 7, 8] rfl rfl rfl (by decide) rfl rfl (fun H locs hP hD hS => ?_)
    refine lv_if_ne (tgt := 35) hx hb dX6_set_30 (by decide) (fun c8 => ?_) (fun c8 => ?_)
    · have hF := ite_f hF c8
      refine lv_aload_n hx hb dX6_set_35 rfl (lv_at hl 0 rfl) ?_
      obtain ⟨o9, ho9, hF⟩ := ob_e hF
      refine x_callv (wr := []) (ws' := [(h, .inr (6, [.ref aAl, .ref aSv, .ref aAs, .int o9.1, .int o7.2, .ref aF, .ref aG, .ref aK, .long sS, .ref aTx, .int sTl, .int sPl, .ref aRd])), (aAl, .inl (cyJ, 76, .inr (.inl sAl))), (aSv, .inl (cyJ, 304, .inr (.inl o9.2))), (aAs, .inl (cyJ, 76, .inr (.inl sAs))), (aF, .inl (cyJ, 3, .inr (.inl sF))), (aG, .inl (cyJ, 3, .inr (.inl sG))), (aK, .inl (cyJ, 3, .inr (.inl sK))), (aTx, .inl (cyI, 120, .inl sTx)), (aRd, .inl (cyI, 63, .inl sRd))]) (va_runV (As := []) (rest := []) ⟨hx, hb, hml, hown, hts⟩ (c_X6_save l dC dI cyI cyJ cyB cyS cyD h aAl aSv aAs aF aG aK aTx aRd H.size sN o7.2 sS sTl sPl sAl sSv sAs sF sG sK sTx sRd ho9) (cwV 0 hts gX6_set_X6_save rfl rfl rfl (by decide +kernel) ⟨Nat.le_of_ble_eq_true rfl, Nat.le_of_ble_eq_true rfl⟩) ⟨cPre_blind, va_recv hK hP (ci := 6) (q0 := 0) rfl rfl, x_pre hN hP hD hK [0, 1, 2, 3, 4, 5, 6, 7, 8] rfl rfl⟩ rfl rfl hl.1 rfl (lv_room (Nat.le_of_ble_eq_true rfl)) dX6_set_36 ⟨Nat.le_of_ble_eq_true rfl, Nat.le_of_ble_eq_true rfl⟩) hP hD hS hA [0, 1, 2, 3, 4, 5, 6, 7, 8] [] [0, 1, 2, 3, 4, 5, 6, 7, 8] rfl rfl rfl (by decide) rfl rfl (fun H locs hP hD hS => ?_)
      refine lv_aload_n hx hb dX6_set_39 rfl (lv_at hl 0 rfl) ?_
      refine va_get (D := (dC, dI)) (ci := 6) (v := .ref aAl) (C := RX6) (T := TX6) (N := 13) hx hb hts iX6_set_X6 hown hK hP 0 rfl rfl 0 (by decide) (hts _ kX6_set_2) (fun _ h9 => h9) rfl dX6_set_40 ?_
      refine lv_iconst (v := 0) hx hb dX6_set_43 (by decide) ?_
      refine lv_iload_n hx hb dX6_set_44 rfl (lv_at hl 1 rfl) ?_
      refine lv_iadd hx hb dX6_set_45 ?_
      obtain ⟨g10, hF⟩ := ck_e hF
      refine x_lald hx hb hK hP 1 1 rfl rfl rfl g10 dX6_set_46 ?_
      refine lv_l2i (v := (sAl ((0 + w1).toNatClampNeg)).toInt32) hx hb dX6_set_47 rfl ?_
      obtain ⟨v11, hv11, hF⟩ := lt_e hF
      refine x_topi hv11 ?_
      refine lv_istore_n (lv' := [(3, .int v11), (0, .ref h), (1, .int w1), (2, .int w2)]) hx hb dX6_set_48 rfl hl (by decide) rfl (fun ls hl => ?_)
      refine lv_aload_n hx hb dX6_set_49 rfl (lv_at hl 1 rfl) ?_
      refine va_get (D := (dC, dI)) (ci := 6) (v := .ref aAl) (C := RX6) (T := TX6) (N := 13) hx hb hts iX6_set_X6 hown hK hP 0 rfl rfl 0 (by decide) (hts _ kX6_set_2) (fun _ h9 => h9) rfl dX6_set_50 ?_
      refine lv_iconst (v := 0) hx hb dX6_set_53 (by decide) ?_
      refine lv_iload_n hx hb dX6_set_54 rfl (lv_at hl 2 rfl) ?_
      refine lv_iadd hx hb dX6_set_55 ?_
      refine lv_iload_n hx hb dX6_set_56 rfl (lv_at hl 3 rfl) ?_
      refine lv_i2l (v := w2.toInt64) hx hb dX6_set_57 rfl ?_
      obtain ⟨g12, hF⟩ := ck_e hF
      obtain ⟨v13, hv13, hF⟩ := lt_e hF
      refine x_last (ws' := [(h, .inr (6, [.ref aAl, .ref aSv, .ref aAs, .int o9.1, .int o7.2, .ref aF, .ref aG, .ref aK, .long sS, .ref aTx, .int sTl, .int sPl, .ref aRd])), (aAl, .inl (cyJ, 76, .inr (.inl v13))), (aSv, .inl (cyJ, 304, .inr (.inl o9.2))), (aAs, .inl (cyJ, 76, .inr (.inl sAs))), (aF, .inl (cyJ, 3, .inr (.inl sF))), (aG, .inl (cyJ, 3, .inr (.inl sG))), (aK, .inl (cyJ, 3, .inr (.inl sK))), (aTx, .inl (cyI, 120, .inl sTx)), (aRd, .inl (cyI, 63, .inl sRd))]) hx hb hK hP hD hS 1 1 rfl rfl rfl g12 hv13 rfl dX6_set_58 (fun H locs hP hD hS => ?_)
      refine lv_iload_n hx hb dX6_set_59 rfl (lv_at hl 0 rfl) ?_
      obtain rfl := some_e hF
      exact W.iret (v := v11) hx hb hr (fun t ht hW => ⟨⟨v11, (), rfl, rfl, ⟨by rw [ht]; exact hP, va_K.moved hW.alike hK, hD⟩⟩, hS.F ht⟩) hS.2.2 dX6_set_60
    · have hF := ite_t hF c8
      refine lv_iconst (v := 0) hx hb dX6_set_33 (by decide) ?_
      obtain rfl := some_e hF
      exact W.iret (v := 0) hx hb hr (fun t ht hW => ⟨⟨0, (), rfl, rfl, ⟨by rw [ht]; exact hP, va_K.moved hW.alike hK, hD⟩⟩, hS.F ht⟩) hS.2.2 dX6_set_34
  refine lv_if_eq (tgt := 25) hx hb dX6_set_10 (by decide) (fun c2 => ?_) (fun c2 => ?_)
  · have hF := ite_t hF c2
    refine lv_iconst (v := 0) hx hb dX6_set_25 (by decide) ?_
    exact Jx5 _ _ _ _ hF hP hD hS (lv_sub hl [0, 1, 2] rfl)
  · have hF := ite_f hF c2
    refine lv_iload_n hx hb dX6_set_13 rfl (lv_at hl 1 rfl) ?_
    refine lv_iload_n hx hb dX6_set_14 rfl (lv_at hl 2 rfl) ?_
    obtain ⟨o3, ho3, hF⟩ := ob_e hF
    refine x_callzi (va_runS (As := [.int w1, .int w2]) (rest := [.ref h]) ⟨hx, hb, hml, hown, hts⟩ (c_X6_isValue l w1 w2 ho3) (va_cwS 2 hts gX6_set_X6_isValue rfl rfl rfl (by decide +kernel) ⟨Nat.le_of_ble_eq_true rfl, Nat.le_of_ble_eq_true rfl⟩) ⟨true_blind, fun _ _ _ => ⟨rfl, trivial⟩⟩ rfl rfl hl.1 rfl (lv_room (Nat.le_of_ble_eq_true rfl)) dX6_set_15 ⟨Nat.le_of_ble_eq_true rfl, Nat.le_of_ble_eq_true rfl⟩) ?_
    refine lv_if_eq (tgt := 25) hx hb dX6_set_18 (by decide) (fun c4 => ?_) (fun c4 => ?_)
    · have hF := ite_t hF c4
      refine lv_iconst (v := 0) hx hb dX6_set_25 (by decide) ?_
      exact Jx5 _ _ _ _ hF hP hD hS (lv_sub hl [0, 1, 2] rfl)
    · have hF := ite_f hF c4
      refine lv_iconst (v := 1) hx hb dX6_set_21 (by decide) ?_
      refine lv_goto (tgt := 26) hx hb dX6_set_22 (by decide) ?_
      exact Jx5 _ _ _ _ hF hP hD hS (lv_sub hl [0, 1, 2] rfl)
def F_X6_value (sAl : Nat → Int64) (w1 : Int32) : Option (Int32 × Int32) := ob (F_X6_in w1.toInt64 0 6) (fun o1 => ob (F_X6_goes o1 1) (fun o2 => if (o2.1 : Int32) = 0 then (some (0, o2.2)) else (ck (inb (0 + w1) 76) (some ((sAl ((0 + w1).toNatClampNeg)).toInt32, o2.2)))))
theorem kX6_value_1 : (Cond.constantLong RX6 77 (6)) ∈ wsX6_value := List.mem_of_getElem? (i := 1) rfl
theorem kX6_value_2 : (Cond.fieldLink RX6 7 "SelfTunerModel" "all" "[J") ∈ wsX6_value := List.mem_of_getElem? (i := 2) rfl
theorem iX6_value_X6 : ∀ w ∈ wsX60, w ∈ wsX6_value := fun w h => List.mem_cons_of_mem _ (List.mem_append_right _ h)
set_option maxHeartbeats 4000000 in
set_option maxRecDepth 100000 in
theorem c_X6_value (l : Launch) (dC : Nat → ClassId) (dI : Nat → Nat → Nat) (cyI cyJ cyB cyS cyD : ClassId) (h : Nat) (aAl : Nat) (aSv : Nat) (aAs : Nat) (aF : Nat) (aG : Nat) (aK : Nat) (aTx : Nat) (aRd : Nat) (sz : Nat) (sN : Int32) (sTh : Int32) (sS : Int64) (sTl : Int32) (sPl : Int32) (sAl : Nat → Int64) (sSv : Nat → Int64) (sAs : Nat → Int64) (sF : Nat → Int64) (sG : Nat → Int64) (sK : Nat → Int64) (sTx : Nat → Int32) (sRd : Nat → Int32) (w1 : Int32) {out : Int32 × Int32} (hF : F_X6_value sAl w1 = some out) : Mi l yX6_value wsX6_value ({ frames := 1, cells := 0, slots := 0, locals := 25 } : Room) (dC, dI) [(cyI, .int), (cyJ, .long), (cyB, .byte), (cyS, .object "SelfTuner$State"), (cyD, .double)] sz [.ref h, .int w1] [(h, .inr (6, [.ref aAl, .ref aSv, .ref aAs, .int sN, .int sTh, .ref aF, .ref aG, .ref aK, .long sS, .ref aTx, .int sTl, .int sPl, .ref aRd])), (aAl, .inl (cyJ, 76, .inr (.inl sAl))), (aSv, .inl (cyJ, 304, .inr (.inl sSv))), (aAs, .inl (cyJ, 76, .inr (.inl sAs))), (aF, .inl (cyJ, 3, .inr (.inl sF))), (aG, .inl (cyJ, 3, .inr (.inl sG))), (aK, .inl (cyJ, 3, .inr (.inl sK))), (aTx, .inl (cyI, 120, .inl sTx)), (aRd, .inl (cyI, 63, .inl sRd))] out.1 [(h, .inr (6, [.ref aAl, .ref aSv, .ref aAs, .int sN, .int out.2, .ref aF, .ref aG, .ref aK, .long sS, .ref aTx, .int sTl, .int sPl, .ref aRd])), (aAl, .inl (cyJ, 76, .inr (.inl sAl))), (aSv, .inl (cyJ, 304, .inr (.inl sSv))), (aAs, .inl (cyJ, 76, .inr (.inl sAs))), (aF, .inl (cyJ, 3, .inr (.inl sF))), (aG, .inl (cyJ, 3, .inr (.inl sG))), (aK, .inl (cyJ, 3, .inr (.inl sK))), (aTx, .inl (cyI, 120, .inl sTx)), (aRd, .inl (cyI, 63, .inl sRd))] := by
  refine Met.ofW (cc := cX6_value) (maxL := 2) (ret := (some .int)) (by decide) rfl ?_
  intro p e s m args below meth c s₁ B hml hv
  obtain ⟨rfl, hN, hsz, hP, hK, hD0⟩ := hv
  have hx := B.exec
  have hb := B.bytes
  have hr := B.returns
  have hts := atoms_spec (ws := wsX6_value) B.pre
  have hown : s.vm.findClass RX6 = some m.cls := findClass_of_methodNamed B.named
  have hlocks := B.notSynchronized
  subst hsz
  have hD := hD0.self (sz := s.heap.size)
  generalize hAe : va_A [(h, .inr (6, [.ref aAl, .ref aSv, .ref aAs, .int sN, .int sTh, .ref aF, .ref aG, .ref aK, .long sS, .ref aTx, .int sTl, .int sPl, .ref aRd])), (aAl, .inl (cyJ, 76, .inr (.inl sAl))), (aSv, .inl (cyJ, 304, .inr (.inl sSv))), (aAs, .inl (cyJ, 76, .inr (.inl sAs))), (aF, .inl (cyJ, 3, .inr (.inl sF))), (aG, .inl (cyJ, 3, .inr (.inl sG))), (aK, .inl (cyJ, 3, .inr (.inl sK))), (aTx, .inl (cyI, 120, .inl sTx)), (aRd, .inl (cyI, 63, .inl sRd))] s.heap.size = A at hD ⊢
  have hA : ∀ q : Nat, s.heap.size ≤ q → A q := fun q h => by rw [← hAe]; exact Or.inr h
  have hS : va_S A s.heap s.heap [] := va_S.rf
  have hP : va_P (dC, dI) vwCl [(h, .inr (6, [.ref aAl, .ref aSv, .ref aAs, .int sN, .int sTh, .ref aF, .ref aG, .ref aK, .long sS, .ref aTx, .int sTl, .int sPl, .ref aRd])), (aAl, .inl (cyJ, 76, .inr (.inl sAl))), (aSv, .inl (cyJ, 304, .inr (.inl sSv))), (aAs, .inl (cyJ, 76, .inr (.inl sAs))), (aF, .inl (cyJ, 3, .inr (.inl sF))), (aG, .inl (cyJ, 3, .inr (.inl sG))), (aK, .inl (cyJ, 3, .inr (.inl sK))), (aTx, .inl (cyI, 120, .inl sTx)), (aRd, .inl (cyI, 63, .inl sRd))] s.heap := hP
  have hl := lv_entry ([.ref h, .int w1]) (n := 2) (Nat.le_of_ble_eq_true rfl)
  rw [lg_entry_eq]
  generalize (lg_sl ([.ref h, .int w1]) ++ List.replicate (2 - (lg_sl ([.ref h, .int w1])).length) Slot.unset).toArray = ls at hl ⊢
  have hl : lv_has ls 2 [(0, .ref h), (1, .int w1)] := hl
  unfold F_X6_value at hF
  refine lv_aload_n hx hb dX6_value_0 rfl (lv_at hl 0 rfl) ?_
  refine lv_iload_n hx hb dX6_value_1 rfl (lv_at hl 1 rfl) ?_
  refine lv_i2l (v := w1.toInt64) hx hb dX6_value_2 rfl ?_
  refine lv_lconst (v := 0) hx hb dX6_value_3 (by decide) ?_
  refine lv_ldc2 (v := 6) hx hb hown (hts _ kX6_value_1) dX6_value_4 ?_
  obtain ⟨o1, ho1, hF⟩ := ob_e hF
  refine x_callzi (va_runS (As := [.long w1.toInt64, .long 0, .long 6]) (rest := [.ref h]) ⟨hx, hb, hml, hown, hts⟩ (c_X6_in l w1.toInt64 0 6 ho1) (va_cwS 3 hts gX6_value_X6_in rfl rfl rfl (by decide +kernel) ⟨Nat.le_of_ble_eq_true rfl, Nat.le_of_ble_eq_true rfl⟩) ⟨true_blind, fun _ _ _ => ⟨rfl, trivial⟩⟩ rfl rfl hl.1 rfl (lv_room (Nat.le_of_ble_eq_true rfl)) dX6_value_7 ⟨Nat.le_of_ble_eq_true rfl, Nat.le_of_ble_eq_true rfl⟩) ?_
  refine lv_iconst (v := 1) hx hb dX6_value_10 (by decide) ?_
  obtain ⟨o2, ho2, hF⟩ := ob_e hF
  refine x_calli (wr := []) (ws' := [(h, .inr (6, [.ref aAl, .ref aSv, .ref aAs, .int sN, .int o2.2, .ref aF, .ref aG, .ref aK, .long sS, .ref aTx, .int sTl, .int sPl, .ref aRd])), (aAl, .inl (cyJ, 76, .inr (.inl sAl))), (aSv, .inl (cyJ, 304, .inr (.inl sSv))), (aAs, .inl (cyJ, 76, .inr (.inl sAs))), (aF, .inl (cyJ, 3, .inr (.inl sF))), (aG, .inl (cyJ, 3, .inr (.inl sG))), (aK, .inl (cyJ, 3, .inr (.inl sK))), (aTx, .inl (cyI, 120, .inl sTx)), (aRd, .inl (cyI, 63, .inl sRd))]) (va_runV (As := [.int o1, .int 1]) (rest := []) ⟨hx, hb, hml, hown, hts⟩ (c_X6_goes l dC dI cyI cyJ cyB cyS cyD h aAl aSv aAs aF aG aK aTx aRd s.heap.size sN sTh sS sTl sPl sAl sSv sAs sF sG sK sTx sRd o1 1 ho2) (cwV 2 hts gX6_value_X6_goes rfl rfl rfl (by decide +kernel) ⟨Nat.le_of_ble_eq_true rfl, Nat.le_of_ble_eq_true rfl⟩) ⟨cPre_blind, va_recv hK hP (ci := 6) (q0 := 0) rfl rfl, x_pre hN hP hD hK [0, 1, 2, 3, 4, 5, 6, 7, 8] rfl rfl⟩ rfl rfl hl.1 rfl (lv_room (Nat.le_of_ble_eq_true rfl)) dX6_value_11 ⟨Nat.le_of_ble_eq_true rfl, Nat.le_of_ble_eq_true rfl⟩) hP hD hS hA [0, 1, 2, 3, 4, 5, 6, 7, 8] [] [0, 1, 2, 3, 4, 5, 6, 7, 8] rfl rfl rfl (by decide) rfl rfl (fun H locs hP hD hS => ?_)
  refine lv_if_eq (tgt := 29) hx hb dX6_value_14 (by decide) (fun c3 => ?_) (fun c3 => ?_)
  · have hF := ite_t hF c3
    refine lv_iconst (v := 0) hx hb dX6_value_29 (by decide) ?_
    obtain rfl := some_e hF
    exact W.iret (v := 0) hx hb hr (fun t ht hW => ⟨⟨0, (), rfl, rfl, ⟨by rw [ht]; exact hP, va_K.moved hW.alike hK, hD⟩⟩, hS.F ht⟩) hS.2.2 dX6_value_30
  · have hF := ite_f hF c3
    refine lv_aload_n hx hb dX6_value_17 rfl (lv_at hl 0 rfl) ?_
    refine va_get (D := (dC, dI)) (ci := 6) (v := .ref aAl) (C := RX6) (T := TX6) (N := 13) hx hb hts iX6_value_X6 hown hK hP 0 rfl rfl 0 (by decide) (hts _ kX6_value_2) (fun _ h9 => h9) rfl dX6_value_18 ?_
    refine lv_iconst (v := 0) hx hb dX6_value_21 (by decide) ?_
    refine lv_iload_n hx hb dX6_value_22 rfl (lv_at hl 1 rfl) ?_
    refine lv_iadd hx hb dX6_value_23 ?_
    obtain ⟨g4, hF⟩ := ck_e hF
    refine x_lald hx hb hK hP 1 1 rfl rfl rfl g4 dX6_value_24 ?_
    refine lv_l2i (v := (sAl ((0 + w1).toNatClampNeg)).toInt32) hx hb dX6_value_25 rfl ?_
    refine lv_goto (tgt := 30) hx hb dX6_value_26 (by decide) ?_
    obtain rfl := some_e hF
    exact W.iret (v := (sAl ((0 + w1).toNatClampNeg)).toInt32) hx hb hr (fun t ht hW => ⟨⟨(sAl ((0 + w1).toNatClampNeg)).toInt32, (), rfl, rfl, ⟨by rw [ht]; exact hP, va_K.moved hW.alike hK, hD⟩⟩, hS.F ht⟩) hS.2.2 dX6_value_30
def F_X6_boxes (sAl : Nat → Int64) (w1 : Int32) : Option (Int32 × (Nat → Int64)) := ck (inb (13 + w1) 76) (lt_ (α := Int64) (sAl ((13 + w1).toNatClampNeg)) (fun v2 => ck (inb (7 + (2 * w1)) 76) (ck (inb ((7 + (2 * w1)) + 1) 76) (ob (F_X6_within v2 (sAl ((7 + (2 * w1)).toNatClampNeg)) (sAl (((7 + (2 * w1)) + 1).toNatClampNeg))) (fun o5 => ck (inb (13 + w1) 76) (lt_ (α := Nat → Int64) (vp_updL sAl ((13 + w1).toNatClampNeg) o5) (fun v7 => ck (inb (13 + w1) 76) (if ((v7 ((13 + w1).toNatClampNeg)) : Int64) = v2 then (some (0, v7)) else (some (1, v7))))))))))
theorem kX6_boxes_1 : (Cond.fieldLink RX6 7 "SelfTunerModel" "all" "[J") ∈ wsX6_boxes := List.mem_of_getElem? (i := 1) rfl
theorem iX6_boxes_X6 : ∀ w ∈ wsX60, w ∈ wsX6_boxes := fun w h => List.mem_cons_of_mem _ (List.mem_append_right _ h)
set_option maxHeartbeats 4000000 in
set_option maxRecDepth 100000 in
theorem c_X6_boxes (l : Launch) (dC : Nat → ClassId) (dI : Nat → Nat → Nat) (cyI cyJ cyB cyS cyD : ClassId) (h : Nat) (aAl : Nat) (aSv : Nat) (aAs : Nat) (aF : Nat) (aG : Nat) (aK : Nat) (aTx : Nat) (aRd : Nat) (sz : Nat) (sN : Int32) (sTh : Int32) (sS : Int64) (sTl : Int32) (sPl : Int32) (sAl : Nat → Int64) (sSv : Nat → Int64) (sAs : Nat → Int64) (sF : Nat → Int64) (sG : Nat → Int64) (sK : Nat → Int64) (sTx : Nat → Int32) (sRd : Nat → Int32) (w1 : Int32) {out : Int32 × (Nat → Int64)} (hF : F_X6_boxes sAl w1 = some out) : Mi l yX6_boxes wsX6_boxes ({ frames := 1, cells := 0, slots := 0, locals := 25 } : Room) (dC, dI) [(cyI, .int), (cyJ, .long), (cyB, .byte), (cyS, .object "SelfTuner$State"), (cyD, .double)] sz [.ref h, .int w1] [(h, .inr (6, [.ref aAl, .ref aSv, .ref aAs, .int sN, .int sTh, .ref aF, .ref aG, .ref aK, .long sS, .ref aTx, .int sTl, .int sPl, .ref aRd])), (aAl, .inl (cyJ, 76, .inr (.inl sAl))), (aSv, .inl (cyJ, 304, .inr (.inl sSv))), (aAs, .inl (cyJ, 76, .inr (.inl sAs))), (aF, .inl (cyJ, 3, .inr (.inl sF))), (aG, .inl (cyJ, 3, .inr (.inl sG))), (aK, .inl (cyJ, 3, .inr (.inl sK))), (aTx, .inl (cyI, 120, .inl sTx)), (aRd, .inl (cyI, 63, .inl sRd))] out.1 [(h, .inr (6, [.ref aAl, .ref aSv, .ref aAs, .int sN, .int sTh, .ref aF, .ref aG, .ref aK, .long sS, .ref aTx, .int sTl, .int sPl, .ref aRd])), (aAl, .inl (cyJ, 76, .inr (.inl out.2))), (aSv, .inl (cyJ, 304, .inr (.inl sSv))), (aAs, .inl (cyJ, 76, .inr (.inl sAs))), (aF, .inl (cyJ, 3, .inr (.inl sF))), (aG, .inl (cyJ, 3, .inr (.inl sG))), (aK, .inl (cyJ, 3, .inr (.inl sK))), (aTx, .inl (cyI, 120, .inl sTx)), (aRd, .inl (cyI, 63, .inl sRd))] := by
  refine Met.ofW (cc := cX6_boxes) (maxL := 4) (ret := (some .boolean)) (by decide) rfl ?_
  intro p e s m args below meth c s₁ B hml hv
  obtain ⟨rfl, hN, hsz, hP, hK, hD0⟩ := hv
  have hx := B.exec
  have hb := B.bytes
  have hr := B.returns
  have hts := atoms_spec (ws := wsX6_boxes) B.pre
  have hown : s.vm.findClass RX6 = some m.cls := findClass_of_methodNamed B.named
  have hlocks := B.notSynchronized
  subst hsz
  have hD := hD0.self (sz := s.heap.size)
  generalize hAe : va_A [(h, .inr (6, [.ref aAl, .ref aSv, .ref aAs, .int sN, .int sTh, .ref aF, .ref aG, .ref aK, .long sS, .ref aTx, .int sTl, .int sPl, .ref aRd])), (aAl, .inl (cyJ, 76, .inr (.inl sAl))), (aSv, .inl (cyJ, 304, .inr (.inl sSv))), (aAs, .inl (cyJ, 76, .inr (.inl sAs))), (aF, .inl (cyJ, 3, .inr (.inl sF))), (aG, .inl (cyJ, 3, .inr (.inl sG))), (aK, .inl (cyJ, 3, .inr (.inl sK))), (aTx, .inl (cyI, 120, .inl sTx)), (aRd, .inl (cyI, 63, .inl sRd))] s.heap.size = A at hD ⊢
  have hA : ∀ q : Nat, s.heap.size ≤ q → A q := fun q h => by rw [← hAe]; exact Or.inr h
  have hS : va_S A s.heap s.heap [] := va_S.rf
  have hP : va_P (dC, dI) vwCl [(h, .inr (6, [.ref aAl, .ref aSv, .ref aAs, .int sN, .int sTh, .ref aF, .ref aG, .ref aK, .long sS, .ref aTx, .int sTl, .int sPl, .ref aRd])), (aAl, .inl (cyJ, 76, .inr (.inl sAl))), (aSv, .inl (cyJ, 304, .inr (.inl sSv))), (aAs, .inl (cyJ, 76, .inr (.inl sAs))), (aF, .inl (cyJ, 3, .inr (.inl sF))), (aG, .inl (cyJ, 3, .inr (.inl sG))), (aK, .inl (cyJ, 3, .inr (.inl sK))), (aTx, .inl (cyI, 120, .inl sTx)), (aRd, .inl (cyI, 63, .inl sRd))] s.heap := hP
  have hl := lv_entry ([.ref h, .int w1]) (n := 4) (Nat.le_of_ble_eq_true rfl)
  rw [lg_entry_eq]
  generalize (lg_sl ([.ref h, .int w1]) ++ List.replicate (4 - (lg_sl ([.ref h, .int w1])).length) Slot.unset).toArray = ls at hl ⊢
  have hl : lv_has ls 4 [(0, .ref h), (1, .int w1)] := hl
  unfold F_X6_boxes at hF
  refine lv_aload_n hx hb dX6_boxes_0 rfl (lv_at hl 0 rfl) ?_
  refine va_get (D := (dC, dI)) (ci := 6) (v := .ref aAl) (C := RX6) (T := TX6) (N := 13) hx hb hts iX6_boxes_X6 hown hK hP 0 rfl rfl 0 (by decide) (hts _ kX6_boxes_1) (fun _ h9 => h9) rfl dX6_boxes_1 ?_
  refine lv_bipush (v := 13) hx hb dX6_boxes_4 (by decide) ?_
  refine lv_iload_n hx hb dX6_boxes_6 rfl (lv_at hl 1 rfl) ?_
  refine lv_iadd hx hb dX6_boxes_7 ?_
  obtain ⟨g1, hF⟩ := ck_e hF
  refine x_lald hx hb hK hP 1 1 rfl rfl rfl g1 dX6_boxes_8 ?_
  obtain ⟨v2, hv2, hF⟩ := lt_e hF
  refine x_topl hv2 ?_
  refine lv_lstore_n (lv' := [(2, .long v2), (0, .ref h), (1, .int w1)]) hx hb dX6_boxes_9 rfl hl (by decide) rfl (fun ls hl => ?_)
  refine lv_aload_n hx hb dX6_boxes_10 rfl (lv_at hl 1 rfl) ?_
  refine va_get (D := (dC, dI)) (ci := 6) (v := .ref aAl) (C := RX6) (T := TX6) (N := 13) hx hb hts iX6_boxes_X6 hown hK hP 0 rfl rfl 0 (by decide) (hts _ kX6_boxes_1) (fun _ h9 => h9) rfl dX6_boxes_11 ?_
  refine lv_bipush (v := 13) hx hb dX6_boxes_14 (by decide) ?_
  refine lv_iload_n hx hb dX6_boxes_16 rfl (lv_at hl 2 rfl) ?_
  refine lv_iadd hx hb dX6_boxes_17 ?_
  refine lv_lload_n hx hb dX6_boxes_18 rfl (lv_at hl 0 rfl) ?_
  refine lv_aload_n hx hb dX6_boxes_19 rfl (lv_at hl 1 rfl) ?_
  refine va_get (D := (dC, dI)) (ci := 6) (v := .ref aAl) (C := RX6) (T := TX6) (N := 13) hx hb hts iX6_boxes_X6 hown hK hP 0 rfl rfl 0 (by decide) (hts _ kX6_boxes_1) (fun _ h9 => h9) rfl dX6_boxes_20 ?_
  refine lv_bipush (v := 7) hx hb dX6_boxes_23 (by decide) ?_
  refine lv_iconst (v := 2) hx hb dX6_boxes_25 (by decide) ?_
  refine lv_iload_n hx hb dX6_boxes_26 rfl (lv_at hl 2 rfl) ?_
  refine lv_imul hx hb dX6_boxes_27 ?_
  refine lv_iadd hx hb dX6_boxes_28 ?_
  obtain ⟨g3, hF⟩ := ck_e hF
  refine x_lald hx hb hK hP 1 1 rfl rfl rfl g3 dX6_boxes_29 ?_
  refine lv_aload_n hx hb dX6_boxes_30 rfl (lv_at hl 1 rfl) ?_
  refine va_get (D := (dC, dI)) (ci := 6) (v := .ref aAl) (C := RX6) (T := TX6) (N := 13) hx hb hts iX6_boxes_X6 hown hK hP 0 rfl rfl 0 (by decide) (hts _ kX6_boxes_1) (fun _ h9 => h9) rfl dX6_boxes_31 ?_
  refine lv_bipush (v := 7) hx hb dX6_boxes_34 (by decide) ?_
  refine lv_iconst (v := 2) hx hb dX6_boxes_36 (by decide) ?_
  refine lv_iload_n hx hb dX6_boxes_37 rfl (lv_at hl 2 rfl) ?_
  refine lv_imul hx hb dX6_boxes_38 ?_
  refine lv_iadd hx hb dX6_boxes_39 ?_
  refine lv_iconst (v := 1) hx hb dX6_boxes_40 (by decide) ?_
  refine lv_iadd hx hb dX6_boxes_41 ?_
  obtain ⟨g4, hF⟩ := ck_e hF
  refine x_lald hx hb hK hP 1 1 rfl rfl rfl g4 dX6_boxes_42 ?_
  obtain ⟨o5, ho5, hF⟩ := ob_e hF
  refine x_callzl (va_runS (As := [.long v2, .long (sAl ((7 + (2 * w1)).toNatClampNeg)), .long (sAl (((7 + (2 * w1)) + 1).toNatClampNeg))]) (rest := [.int (13 + w1), .ref aAl]) ⟨hx, hb, hml, hown, hts⟩ (c_X6_within l v2 (sAl ((7 + (2 * w1)).toNatClampNeg)) (sAl (((7 + (2 * w1)) + 1).toNatClampNeg)) ho5) (va_cwS 3 hts gX6_boxes_X6_within rfl rfl rfl (by decide +kernel) ⟨Nat.le_of_ble_eq_true rfl, Nat.le_of_ble_eq_true rfl⟩) ⟨true_blind, fun _ _ _ => ⟨rfl, trivial⟩⟩ rfl rfl hl.1 rfl (lv_room (Nat.le_of_ble_eq_true rfl)) dX6_boxes_43 ⟨Nat.le_of_ble_eq_true rfl, Nat.le_of_ble_eq_true rfl⟩) ?_
  obtain ⟨g6, hF⟩ := ck_e hF
  obtain ⟨v7, hv7, hF⟩ := lt_e hF
  refine x_last (ws' := [(h, .inr (6, [.ref aAl, .ref aSv, .ref aAs, .int sN, .int sTh, .ref aF, .ref aG, .ref aK, .long sS, .ref aTx, .int sTl, .int sPl, .ref aRd])), (aAl, .inl (cyJ, 76, .inr (.inl v7))), (aSv, .inl (cyJ, 304, .inr (.inl sSv))), (aAs, .inl (cyJ, 76, .inr (.inl sAs))), (aF, .inl (cyJ, 3, .inr (.inl sF))), (aG, .inl (cyJ, 3, .inr (.inl sG))), (aK, .inl (cyJ, 3, .inr (.inl sK))), (aTx, .inl (cyI, 120, .inl sTx)), (aRd, .inl (cyI, 63, .inl sRd))]) hx hb hK hP hD hS 1 1 rfl rfl rfl g6 hv7 rfl dX6_boxes_46 (fun H locs hP hD hS => ?_)
  refine lv_aload_n hx hb dX6_boxes_47 rfl (lv_at hl 1 rfl) ?_
  refine va_get (D := (dC, dI)) (ci := 6) (v := .ref aAl) (C := RX6) (T := TX6) (N := 13) hx hb hts iX6_boxes_X6 hown hK hP 0 rfl rfl 0 (by decide) (hts _ kX6_boxes_1) (fun _ h9 => h9) rfl dX6_boxes_48 ?_
  refine lv_bipush (v := 13) hx hb dX6_boxes_51 (by decide) ?_
  refine lv_iload_n hx hb dX6_boxes_53 rfl (lv_at hl 2 rfl) ?_
  refine lv_iadd hx hb dX6_boxes_54 ?_
  obtain ⟨g8, hF⟩ := ck_e hF
  refine x_lald hx hb hK hP 1 1 rfl rfl rfl g8 dX6_boxes_55 ?_
  refine lv_lload_n hx hb dX6_boxes_56 rfl (lv_at hl 0 rfl) ?_
  refine W.lcmp hx hb dX6_boxes_57 ?_
  refine x_il_eq (tgt := 65) hx hb dX6_boxes_58 (by decide) (fun c9 => ?_) (fun c9 => ?_)
  · have hF := ite_t hF c9
    refine lv_iconst (v := 0) hx hb dX6_boxes_65 (by decide) ?_
    obtain rfl := some_e hF
    exact W.zret (v := 0) hx hb hr rfl (fun t ht hW => ⟨⟨0, (), rfl, rfl, ⟨by rw [ht]; exact hP, va_K.moved hW.alike hK, hD⟩⟩, hS.F ht⟩) hS.2.2 dX6_boxes_66
  · have hF := ite_f hF c9
    refine lv_iconst (v := 1) hx hb dX6_boxes_61 (by decide) ?_
    refine lv_goto (tgt := 66) hx hb dX6_boxes_62 (by decide) ?_
    obtain rfl := some_e hF
    exact W.zret (v := 1) hx hb hr rfl (fun t ht hW => ⟨⟨1, (), rfl, rfl, ⟨by rw [ht]; exact hP, va_K.moved hW.alike hK, hD⟩⟩, hS.F ht⟩) hS.2.2 dX6_boxes_66
