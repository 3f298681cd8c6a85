def F_X5_isWithin (w1 : Int32) (w2 : Int32) (w3 : Int32) : Option (Int32) := if (w1 : Int32) < w2 then (some 0) else (if (w3 : Int32) < w1 then (some 0) else (some 1))
set_option maxHeartbeats 4000000 in
set_option maxRecDepth 100000 in
theorem c_X5_isWithin (l : Launch) (w1 : Int32) (w2 : Int32) (w3 : Int32) {out : Int32} (hF : F_X5_isWithin w1 w2 w3 = some out) : Zi l yX5_isWithin wsX5_isWithin ({ frames := 0, cells := 0, slots := 0, locals := 0 } : Room) [.int w1, .int w2, .int w3] out := by
  refine Met.ofW (cc := cX5_isWithin) (maxL := 3) (ret := (some .boolean)) (by decide) rfl ?_
  intro p e s m args below meth c s₁ B hml hv
  obtain ⟨rfl, -⟩ := hv
  have hx := B.exec
  have hb := B.bytes
  have hr := B.returns
  have hts := atoms_spec (ws := wsX5_isWithin) B.pre
  have hown : s.vm.findClass RX5 = some m.cls := findClass_of_methodNamed B.named
  have hlocks := B.notSynchronized
  have hl := lv_entry ([.int w1, .int w2, .int w3]) (n := 3) (Nat.le_of_ble_eq_true rfl)
  rw [lg_entry_eq]
  generalize (lg_sl ([.int w1, .int w2, .int w3]) ++ List.replicate (3 - (lg_sl ([.int w1, .int w2, .int w3])).length) Slot.unset).toArray = ls at hl ⊢
  have hl : lv_has ls 3 [(0, .int w1), (1, .int w2), (2, .int w3)] := hl
  unfold F_X5_isWithin at hF
  refine lv_iload_n hx hb dX5_isWithin_0 rfl (lv_at hl 0 rfl) ?_
  refine lv_iload_n hx hb dX5_isWithin_1 rfl (lv_at hl 1 rfl) ?_
  refine lv_icmp_lt (tgt := 14) hx hb dX5_isWithin_2 (by decide) (fun c1 => ?_) (fun c1 => ?_)
  · have hF := ite_t hF c1
    refine lv_iconst (v := 0) hx hb dX5_isWithin_14 (by decide) ?_
    obtain rfl := some_e hF
    exact W.zret (v := 0) hx hb hr rfl (fun t ht hW => ⟨rfl, ht⟩) (fun q hq => absurd hq List.not_mem_nil) dX5_isWithin_15
  · have hF := ite_f hF c1
    refine lv_iload_n hx hb dX5_isWithin_5 rfl (lv_at hl 0 rfl) ?_
    refine lv_iload_n hx hb dX5_isWithin_6 rfl (lv_at hl 2 rfl) ?_
    refine lv_icmp_gt (tgt := 14) hx hb dX5_isWithin_7 (by decide) (fun c2 => ?_) (fun c2 => ?_)
    · have hF := ite_t hF c2
      refine lv_iconst (v := 0) hx hb dX5_isWithin_14 (by decide) ?_
      obtain rfl := some_e hF
      exact W.zret (v := 0) hx hb hr rfl (fun t ht hW => ⟨rfl, ht⟩) (fun q hq => absurd hq List.not_mem_nil) dX5_isWithin_15
    · have hF := ite_f hF c2
      refine lv_iconst (v := 1) hx hb dX5_isWithin_10 (by decide) ?_
      refine lv_goto (tgt := 15) hx hb dX5_isWithin_11 (by decide) ?_
      obtain rfl := some_e hF
      exact W.zret (v := 1) hx hb hr rfl (fun t ht hW => ⟨rfl, ht⟩) (fun q hq => absurd hq List.not_mem_nil) dX5_isWithin_15
def F_X5_bring (w1 : Int64) (w2 : Int64) (w3 : Int64) : Option (Int64) := if (w1 : Int64) < w2 then (some w2) else (if (w3 : Int64) < w1 then (some w3) else (some w1))
set_option maxHeartbeats 4000000 in
set_option maxRecDepth 100000 in
theorem c_X5_bring (l : Launch) (w1 : Int64) (w2 : Int64) (w3 : Int64) {out : Int64} (hF : F_X5_bring w1 w2 w3 = some out) : Zl l yX5_bring wsX5_bring ({ frames := 0, cells := 0, slots := 0, locals := 0 } : Room) [.long w1, .long w2, .long w3] out := by
  refine Met.ofW (cc := cX5_bring) (maxL := 6) (ret := (some .long)) (by decide) rfl ?_
  intro p e s m args below meth c s₁ B hml hv
  obtain ⟨rfl, -⟩ := hv
  have hx := B.exec
  have hb := B.bytes
  have hr := B.returns
  have hts := atoms_spec (ws := wsX5_bring) B.pre
  have hown : s.vm.findClass RX5 = some m.cls := findClass_of_methodNamed B.named
  have hlocks := B.notSynchronized
  have hl := lv_entry ([.long w1, .long w2, .long w3]) (n := 6) (Nat.le_of_ble_eq_true rfl)
  rw [lg_entry_eq]
  generalize (lg_sl ([.long w1, .long w2, .long w3]) ++ List.replicate (6 - (lg_sl ([.long w1, .long w2, .long w3])).length) Slot.unset).toArray = ls at hl ⊢
  have hl : lv_has ls 6 [(0, .long w1), (2, .long w2), (4, .long w3)] := hl
  unfold F_X5_bring at hF
  refine lv_lload_n hx hb dX5_bring_0 rfl (lv_at hl 0 rfl) ?_
  refine lv_lload_n hx hb dX5_bring_1 rfl (lv_at hl 1 rfl) ?_
  refine W.lcmp hx hb dX5_bring_2 ?_
  refine x_il_ge (tgt := 10) hx hb dX5_bring_3 (by decide) (fun c1 => ?_) (fun c1 => ?_)
  · have hF := ite_f hF c1
    refine lv_lload_n hx hb dX5_bring_10 rfl (lv_at hl 0 rfl) ?_
    refine lv_lload hx hb dX5_bring_11 (lv_at hl 2 rfl) ?_
    refine W.lcmp hx hb dX5_bring_13 ?_
    refine x_il_le (tgt := 22) hx hb dX5_bring_14 (by decide) (fun c2 => ?_) (fun c2 => ?_)
    · have hF := ite_f hF c2
      refine lv_lload_n hx hb dX5_bring_22 rfl (lv_at hl 0 rfl) ?_
      obtain rfl := some_e hF
      exact W.lret (v := w1) hx hb hr (fun t ht hW => ⟨rfl, ht⟩) (fun q hq => absurd hq List.not_mem_nil) dX5_bring_23
    · have hF := ite_t hF c2
      refine lv_lload hx hb dX5_bring_17 (lv_at hl 2 rfl) ?_
      refine lv_goto (tgt := 23) hx hb dX5_bring_19 (by decide) ?_
      obtain rfl := some_e hF
      exact W.lret (v := w3) hx hb hr (fun t ht hW => ⟨rfl, ht⟩) (fun q hq => absurd hq List.not_mem_nil) dX5_bring_23
  · have hF := ite_t hF c1
    refine lv_lload_n hx hb dX5_bring_6 rfl (lv_at hl 1 rfl) ?_
    refine lv_goto (tgt := 23) hx hb dX5_bring_7 (by decide) ?_
    obtain rfl := some_e hF
    exact W.lret (v := w2) hx hb hr (fun t ht hW => ⟨rfl, ht⟩) (fun q hq => absurd hq List.not_mem_nil) dX5_bring_23
def F_J9_floorDiv_f86c9 (w1 : Int64) (w2 : Int64) : Option (Int64) := ck (¬ w2 = 0) (lt_ (α := Int64) (w1 / w2) (fun v2 => if ((w1 ^^^ w2) : Int64) < 0 then (if ((v2 * w2) : Int64) = w1 then (some v2) else (some (v2 - 1))) else (some v2)))
set_option maxHeartbeats 4000000 in
set_option maxRecDepth 100000 in
theorem c_J9_floorDiv_f86c9 (l : Launch) (w1 : Int64) (w2 : Int64) {out : Int64} (hF : F_J9_floorDiv_f86c9 w1 w2 = some out) : Zl l yJ9_floorDiv_f86c9 wsJ9_floorDiv_f86c9 ({ frames := 0, cells := 0, slots := 0, locals := 0 } : Room) [.long w1, .long w2] out := by
  refine x_ofWF (cc := cJ9_floorDiv_f86c9) (maxL := 6) (ret := (some .long)) (by decide +kernel) rfl ?_
  intro p e s m args below meth c s₁ B hml hv
  obtain ⟨rfl, -⟩ := hv
  have hx := B.exec
  have hb := B.bytes
  have hr := B.returns
  have hts := atoms_spec (ws := wsJ9_floorDiv_f86c9) B.pre
  have hown : s.vm.findClass RJ9 = some m.cls := findClass_of_methodNamed B.named
  have hlocks := B.notSynchronized
  have hl := lv_entry ([.long w1, .long w2]) (n := 6) (Nat.le_of_ble_eq_true rfl)
  rw [lg_entry_eq]
  generalize (lg_sl ([.long w1, .long w2]) ++ List.replicate (6 - (lg_sl ([.long w1, .long w2])).length) Slot.unset).toArray = ls at hl ⊢
  have hl : lv_has ls 6 [(0, .long w1), (2, .long w2)] := hl
  unfold F_J9_floorDiv_f86c9 at hF
  refine lv_lload_n hx hb dJ9_floorDiv_f86c9_0 rfl (lv_at hl 0 rfl) ?_
  refine lv_lload_n hx hb dJ9_floorDiv_f86c9_1 rfl (lv_at hl 1 rfl) ?_
  obtain ⟨g1, hF⟩ := ck_e hF
  refine lv_ldiv hx hb dJ9_floorDiv_f86c9_2 g1 ?_
  obtain ⟨v2, hv2, hF⟩ := lt_e hF
  refine x_topl hv2 ?_
  refine lv_lstore (lv' := [(4, .long v2), (0, .long w1), (2, .long w2)]) hx hb dJ9_floorDiv_f86c9_3 hl (by decide) rfl (fun ls hl => ?_)
  refine lv_lload_n hx hb dJ9_floorDiv_f86c9_5 rfl (lv_at hl 1 rfl) ?_
  refine lv_lload_n hx hb dJ9_floorDiv_f86c9_6 rfl (lv_at hl 2 rfl) ?_
  refine lv_lxor hx hb dJ9_floorDiv_f86c9_7 ?_
  refine lv_lconst (v := 0) hx hb dJ9_floorDiv_f86c9_8 (by decide) ?_
  refine W.lcmp hx hb dJ9_floorDiv_f86c9_9 ?_
  refine x_il_ge (tgt := 27) hx hb dJ9_floorDiv_f86c9_10 (by decide) (fun c3 => ?_) (fun c3 => ?_)
  · have hF := ite_f hF c3
    refine lv_lload hx hb dJ9_floorDiv_f86c9_27 (lv_at hl 0 rfl) ?_
    obtain rfl := some_e hF
    exact W.lret (v := v2) hx hb hr (fun t ht hW => ⟨rfl, ht⟩) (fun q hq => absurd hq List.not_mem_nil) dJ9_floorDiv_f86c9_29
  · have hF := ite_t hF c3
    refine lv_lload hx hb dJ9_floorDiv_f86c9_13 (lv_at hl 0 rfl) ?_
    refine lv_lload_n hx hb dJ9_floorDiv_f86c9_15 rfl (lv_at hl 2 rfl) ?_
    refine lv_lmul hx hb dJ9_floorDiv_f86c9_16 ?_
    refine lv_lload_n hx hb dJ9_floorDiv_f86c9_17 rfl (lv_at hl 1 rfl) ?_
    refine W.lcmp hx hb dJ9_floorDiv_f86c9_18 ?_
    refine x_il_eq (tgt := 27) hx hb dJ9_floorDiv_f86c9_19 (by decide) (fun c4 => ?_) (fun c4 => ?_)
    · have hF := ite_t hF c4
      refine lv_lload hx hb dJ9_floorDiv_f86c9_27 (lv_at hl 0 rfl) ?_
      obtain rfl := some_e hF
      exact W.lret (v := v2) hx hb hr (fun t ht hW => ⟨rfl, ht⟩) (fun q hq => absurd hq List.not_mem_nil) dJ9_floorDiv_f86c9_29
    · have hF := ite_f hF c4
      refine lv_lload hx hb dJ9_floorDiv_f86c9_22 (lv_at hl 0 rfl) ?_
      refine lv_lconst (v := 1) hx hb dJ9_floorDiv_f86c9_24 (by decide) ?_
      refine lv_lsub hx hb dJ9_floorDiv_f86c9_25 ?_
      obtain rfl := some_e hF
      exact W.lret (v := v2 - 1) hx hb hr (fun t ht hW => ⟨rfl, ht⟩) (fun q hq => absurd hq List.not_mem_nil) dJ9_floorDiv_f86c9_26
def F_J9_floorMod_f86c9 (w1 : Int64) (w2 : Int64) : Option (Int64) := ck (¬ w2 = 0) (lt_ (α := Int64) (w1 - w1 / w2 * w2) (fun v2 => if ((w1 ^^^ w2) : Int64) < 0 then (if (v2 : Int64) = 0 then (some v2) else (some (v2 + w2))) else (some v2)))
set_option maxHeartbeats 4000000 in
set_option maxRecDepth 100000 in
theorem c_J9_floorMod_f86c9 (l : Launch) (w1 : Int64) (w2 : Int64) {out : Int64} (hF : F_J9_floorMod_f86c9 w1 w2 = some out) : Zl l yJ9_floorMod_f86c9 wsJ9_floorMod_f86c9 ({ frames := 0, cells := 0, slots := 0, locals := 0 } : Room) [.long w1, .long w2] out := by
  refine x_ofWF (cc := cJ9_floorMod_f86c9) (maxL := 6) (ret := (some .long)) (by decide +kernel) rfl ?_
  intro p e s m args below meth c s₁ B hml hv
  obtain ⟨rfl, -⟩ := hv
  have hx := B.exec
  have hb := B.bytes
  have hr := B.returns
  have hts := atoms_spec (ws := wsJ9_floorMod_f86c9) B.pre
  have hown : s.vm.findClass RJ9 = some m.cls := findClass_of_methodNamed B.named
  have hlocks := B.notSynchronized
  have hl := lv_entry ([.long w1, .long w2]) (n := 6) (Nat.le_of_ble_eq_true rfl)
  rw [lg_entry_eq]
  generalize (lg_sl ([.long w1, .long w2]) ++ List.replicate (6 - (lg_sl ([.long w1, .long w2])).length) Slot.unset).toArray = ls at hl ⊢
  have hl : lv_has ls 6 [(0, .long w1), (2, .long w2)] := hl
  unfold F_J9_floorMod_f86c9 at hF
  refine lv_lload_n hx hb dJ9_floorMod_f86c9_0 rfl (lv_at hl 0 rfl) ?_
  refine lv_lload_n hx hb dJ9_floorMod_f86c9_1 rfl (lv_at hl 1 rfl) ?_
  obtain ⟨g1, hF⟩ := ck_e hF
  refine lv_lrem hx hb dJ9_floorMod_f86c9_2 g1 ?_
  obtain ⟨v2, hv2, hF⟩ := lt_e hF
  refine x_topl hv2 ?_
  refine lv_lstore (lv' := [(4, .long v2), (0, .long w1), (2, .long w2)]) hx hb dJ9_floorMod_f86c9_3 hl (by decide) rfl (fun ls hl => ?_)
  refine lv_lload_n hx hb dJ9_floorMod_f86c9_5 rfl (lv_at hl 1 rfl) ?_
  refine lv_lload_n hx hb dJ9_floorMod_f86c9_6 rfl (lv_at hl 2 rfl) ?_
  refine lv_lxor hx hb dJ9_floorMod_f86c9_7 ?_
  refine lv_lconst (v := 0) hx hb dJ9_floorMod_f86c9_8 (by decide) ?_
  refine W.lcmp hx hb dJ9_floorMod_f86c9_9 ?_
  refine x_il_ge (tgt := 25) hx hb dJ9_floorMod_f86c9_10 (by decide) (fun c3 => ?_) (fun c3 => ?_)
  · have hF := ite_f hF c3
    refine lv_lload hx hb dJ9_floorMod_f86c9_25 (lv_at hl 0 rfl) ?_
    obtain rfl := some_e hF
    exact W.lret (v := v2) hx hb hr (fun t ht hW => ⟨rfl, ht⟩) (fun q hq => absurd hq List.not_mem_nil) dJ9_floorMod_f86c9_27
  · have hF := ite_t hF c3
    refine lv_lload hx hb dJ9_floorMod_f86c9_13 (lv_at hl 0 rfl) ?_
    refine lv_lconst (v := 0) hx hb dJ9_floorMod_f86c9_15 (by decide) ?_
    refine W.lcmp hx hb dJ9_floorMod_f86c9_16 ?_
    refine x_il_eq (tgt := 25) hx hb dJ9_floorMod_f86c9_17 (by decide) (fun c4 => ?_) (fun c4 => ?_)
    · have hF := ite_t hF c4
      refine lv_lload hx hb dJ9_floorMod_f86c9_25 (lv_at hl 0 rfl) ?_
      obtain rfl := some_e hF
      exact W.lret (v := v2) hx hb hr (fun t ht hW => ⟨rfl, ht⟩) (fun q hq => absurd hq List.not_mem_nil) dJ9_floorMod_f86c9_27
    · have hF := ite_f hF c4
      refine lv_lload hx hb dJ9_floorMod_f86c9_20 (lv_at hl 0 rfl) ?_
      refine lv_lload_n hx hb dJ9_floorMod_f86c9_22 rfl (lv_at hl 2 rfl) ?_
      refine lv_ladd hx hb dJ9_floorMod_f86c9_23 ?_
      obtain rfl := some_e hF
      exact W.lret (v := v2 + w2) hx hb hr (fun t ht hW => ⟨rfl, ht⟩) (fun q hq => absurd hq List.not_mem_nil) dJ9_floorMod_f86c9_24
def F_X5_divideDown (w1 : Int64) (w2 : Int64) : Option (Int64) := if (0 : Int64) < w2 then (ob (F_J9_floorDiv_f86c9 w1 w2) (fun o2 => some o2)) else (some 0)
set_option maxHeartbeats 4000000 in
set_option maxRecDepth 100000 in
theorem c_X5_divideDown (l : Launch) (w1 : Int64) (w2 : Int64) {out : Int64} (hF : F_X5_divideDown w1 w2 = some out) : Zl l yX5_divideDown wsX5_divideDown ({ frames := 1, cells := 0, slots := 0, locals := 25 } : Room) [.long w1, .long w2] out := by
  refine Met.ofW (cc := cX5_divideDown) (maxL := 4) (ret := (some .long)) (by decide) rfl ?_
  intro p e s m args below meth c s₁ B hml hv
  obtain ⟨rfl, -⟩ := hv
  have hx := B.exec
  have hb := B.bytes
  have hr := B.returns
  have hts := atoms_spec (ws := wsX5_divideDown) B.pre
  have hown : s.vm.findClass RX5 = some m.cls := findClass_of_methodNamed B.named
  have hlocks := B.notSynchronized
  have hl := lv_entry ([.long w1, .long w2]) (n := 4) (Nat.le_of_ble_eq_true rfl)
  rw [lg_entry_eq]
  generalize (lg_sl ([.long w1, .long w2]) ++ List.replicate (4 - (lg_sl ([.long w1, .long w2])).length) Slot.unset).toArray = ls at hl ⊢
  have hl : lv_has ls 4 [(0, .long w1), (2, .long w2)] := hl
  unfold F_X5_divideDown at hF
  refine lv_lload_n hx hb dX5_divideDown_0 rfl (lv_at hl 1 rfl) ?_
  refine lv_lconst (v := 0) hx hb dX5_divideDown_1 (by decide) ?_
  refine W.lcmp hx hb dX5_divideDown_2 ?_
  refine x_il_le (tgt := 14) hx hb dX5_divideDown_3 (by decide) (fun c1 => ?_) (fun c1 => ?_)
  · have hF := ite_f hF c1
    refine lv_lconst (v := 0) hx hb dX5_divideDown_14 (by decide) ?_
    obtain rfl := some_e hF
    exact W.lret (v := 0) hx hb hr (fun t ht hW => ⟨rfl, ht⟩) (fun q hq => absurd hq List.not_mem_nil) dX5_divideDown_15
  · have hF := ite_t hF c1
    refine lv_lload_n hx hb dX5_divideDown_6 rfl (lv_at hl 0 rfl) ?_
    refine lv_lload_n hx hb dX5_divideDown_7 rfl (lv_at hl 1 rfl) ?_
    obtain ⟨o2, ho2, hF⟩ := ob_e hF
    refine x_callzl (va_runS (As := [.long w1, .long w2]) (rest := []) ⟨hx, hb, hml, hown, hts⟩ (c_J9_floorDiv_f86c9 l w1 w2 ho2) (va_cwS 2 hts gX5_divideDown_J9_floorDiv_f86c9 rfl rfl rfl (by decide +kernel) ⟨Nat.le_of_ble_eq_true rfl, Nat.le_of_ble_eq_true rfl⟩) ⟨true_blind, fun _ _ _ => ⟨rfl, trivial⟩⟩ rfl rfl hl.1 rfl (lv_room (Nat.le_of_ble_eq_true rfl)) dX5_divideDown_8 ⟨Nat.le_of_ble_eq_true rfl, Nat.le_of_ble_eq_true rfl⟩) ?_
    refine lv_goto (tgt := 15) hx hb dX5_divideDown_11 (by decide) ?_
    obtain rfl := some_e hF
    exact W.lret (v := o2) hx hb hr (fun t ht hW => ⟨rfl, ht⟩) (fun q hq => absurd hq List.not_mem_nil) dX5_divideDown_15
def F_X5_mixed (w1 : Int64) (w2 : Int64) : Option (Int64) := some ((31 * w1) + w2)
theorem kX5_mixed_1 : (Cond.constantLong RX5 232 (31)) ∈ wsX5_mixed := List.mem_of_getElem? (i := 1) rfl
set_option maxHeartbeats 4000000 in
set_option maxRecDepth 100000 in
theorem c_X5_mixed (l : Launch) (w1 : Int64) (w2 : Int64) {out : Int64} (hF : F_X5_mixed w1 w2 = some out) : Zl l yX5_mixed wsX5_mixed ({ frames := 0, cells := 0, slots := 0, locals := 0 } : Room) [.long w1, .long w2] out := by
  refine Met.ofW (cc := cX5_mixed) (maxL := 4) (ret := (some .long)) (by decide) rfl ?_
  intro p e s m args below meth c s₁ B hml hv
  obtain ⟨rfl, -⟩ := hv
  have hx := B.exec
  have hb := B.bytes
  have hr := B.returns
  have hts := atoms_spec (ws := wsX5_mixed) B.pre
  have hown : s.vm.findClass RX5 = some m.cls := findClass_of_methodNamed B.named
  have hlocks := B.notSynchronized
  have hl := lv_entry ([.long w1, .long w2]) (n := 4) (Nat.le_of_ble_eq_true rfl)
  rw [lg_entry_eq]
  generalize (lg_sl ([.long w1, .long w2]) ++ List.replicate (4 - (lg_sl ([.long w1, .long w2])).length) Slot.unset).toArray = ls at hl ⊢
  have hl : lv_has ls 4 [(0, .long w1), (2, .long w2)] := hl
  unfold F_X5_mixed at hF
  refine lv_ldc2 (v := 31) hx hb hown (hts _ kX5_mixed_1) dX5_mixed_0 ?_
  refine lv_lload_n hx hb dX5_mixed_3 rfl (lv_at hl 0 rfl) ?_
  refine lv_lmul hx hb dX5_mixed_4 ?_
  refine lv_lload_n hx hb dX5_mixed_5 rfl (lv_at hl 1 rfl) ?_
  refine lv_ladd hx hb dX5_mixed_6 ?_
  obtain rfl := some_e hF
  exact W.lret (v := (31 * w1) + w2) hx hb hr (fun t ht hW => ⟨rfl, ht⟩) (fun q hq => absurd hq List.not_mem_nil) dX5_mixed_7
def F_X4_copyFrom (yWo : Nat → Int32) (yWi : Nat → Int32) (zHd : Int32) (zWo : Nat → Int32) (zWi : Nat → Int32) : Option (Int32 × (Nat → Int32) × (Nat → Int32)) := lt_ (α := Nat → Int32) (va_cpy zWo yWo 0 0 20) (fun v1 => lt_ (α := Nat → Int32) (va_cpy zWi yWi 0 0 20) (fun v2 => some (zHd, v1, v2)))
theorem kX4_copyFrom_1 : (Cond.fieldLink RX4 9 "SelfTuner$Window" "outputs" "[I") ∈ wsX4_copyFrom := List.mem_of_getElem? (i := 1) rfl
theorem kX4_copyFrom_2 : (Cond.methodLink RX4 22 arraycopyName) ∈ wsX4_copyFrom := List.mem_of_getElem? (i := 2) rfl
theorem kX4_copyFrom_3 : (Cond.native arraycopyName) ∈ wsX4_copyFrom := List.mem_of_getElem? (i := 3) rfl
theorem kX4_copyFrom_4 : (Cond.static arraycopyName) ∈ wsX4_copyFrom := List.mem_of_getElem? (i := 4) rfl
theorem kX4_copyFrom_5 : (Cond.initialized "java/lang/System") ∈ wsX4_copyFrom := List.mem_of_getElem? (i := 5) rfl
theorem kX4_copyFrom_6 : (Cond.fieldLink RX4 15 "SelfTuner$Window" "inputs" "[I") ∈ wsX4_copyFrom := List.mem_of_getElem? (i := 6) rfl
theorem kX4_copyFrom_7 : (Cond.fieldLink RX4 18 "SelfTuner$Window" "held" "I") ∈ wsX4_copyFrom := List.mem_of_getElem? (i := 7) rfl
theorem iX4_copyFrom_X4 : ∀ w ∈ wsX40, w ∈ wsX4_copyFrom := fun w h => List.mem_cons_of_mem _ (List.mem_append_right _ h)
set_option maxHeartbeats 4000000 in
set_option maxRecDepth 100000 in
theorem c_X4_copyFrom (l : Launch) (dC : Nat → ClassId) (dI : Nat → Nat → Nat) (cyI cyJ cyB cyS cyD : ClassId) (yw : Nat) (ywo : Nat) (ywi : Nat) (zw : Nat) (zwo : Nat) (zwi : Nat) (sz : Nat) (yHd : Int32) (yWo : Nat → Int32) (yWi : Nat → Int32) (zHd : Int32) (zWo : Nat → Int32) (zWi : Nat → Int32) {out : Int32 × (Nat → Int32) × (Nat → Int32)} (hF : F_X4_copyFrom yWo yWi zHd zWo zWi = some out) : Mv l yX4_copyFrom wsX4_copyFrom ({ frames := 1, cells := 0, slots := 0, locals := 80 } : Room) (dC, dI) [(cyI, .int), (cyJ, .long), (cyB, .byte), (cyS, .object "SelfTuner$State"), (cyD, .double)] sz [.ref yw, .ref zw] [(yw, .inr (4, [.ref ywo, .ref ywi, .int yHd])), (ywo, .inl (cyI, 20, .inl yWo)), (ywi, .inl (cyI, 20, .inl yWi)), (zw, .inr (4, [.ref zwo, .ref zwi, .int zHd])), (zwo, .inl (cyI, 20, .inl zWo)), (zwi, .inl (cyI, 20, .inl zWi))] [(yw, .inr (4, [.ref ywo, .ref ywi, .int out.1])), (ywo, .inl (cyI, 20, .inl out.2.1)), (ywi, .inl (cyI, 20, .inl out.2.2)), (zw, .inr (4, [.ref zwo, .ref zwi, .int zHd])), (zwo, .inl (cyI, 20, .inl zWo)), (zwi, .inl (cyI, 20, .inl zWi))] := by
  refine Met.ofW (cc := cX4_copyFrom) (maxL := 2) (ret := none) (by decide) rfl ?_
  intro p e s m args below meth c s₁ B hml hv
  obtain ⟨rfl, hN, hsz, hP, hK, hD0⟩ := hv
  have hx := B.exec
  have hb := B.bytes
  have hr := B.returns
  have hts := atoms_spec (ws := wsX4_copyFrom) B.pre
  have hown : s.vm.findClass RX4 = some m.cls := findClass_of_methodNamed B.named
  have hlocks := B.notSynchronized
  subst hsz
  have hD := hD0.self (sz := s.heap.size)
  generalize hAe : va_A [(yw, .inr (4, [.ref ywo, .ref ywi, .int yHd])), (ywo, .inl (cyI, 20, .inl yWo)), (ywi, .inl (cyI, 20, .inl yWi)), (zw, .inr (4, [.ref zwo, .ref zwi, .int zHd])), (zwo, .inl (cyI, 20, .inl zWo)), (zwi, .inl (cyI, 20, .inl zWi))] s.heap.size = A at hD ⊢
  have hA : ∀ q : Nat, s.heap.size ≤ q → A q := fun q h => by rw [← hAe]; exact Or.inr h
  have hS : va_S A s.heap s.heap [] := va_S.rf
  have hP : va_P (dC, dI) vwCl [(yw, .inr (4, [.ref ywo, .ref ywi, .int yHd])), (ywo, .inl (cyI, 20, .inl yWo)), (ywi, .inl (cyI, 20, .inl yWi)), (zw, .inr (4, [.ref zwo, .ref zwi, .int zHd])), (zwo, .inl (cyI, 20, .inl zWo)), (zwi, .inl (cyI, 20, .inl zWi))] s.heap := hP
  have hl := lv_entry ([.ref yw, .ref zw]) (n := 2) (Nat.le_of_ble_eq_true rfl)
  rw [lg_entry_eq]
  generalize (lg_sl ([.ref yw, .ref zw]) ++ List.replicate (2 - (lg_sl ([.ref yw, .ref zw])).length) Slot.unset).toArray = ls at hl ⊢
  have hl : lv_has ls 2 [(0, .ref yw), (1, .ref zw)] := hl
  unfold F_X4_copyFrom at hF
  refine lv_aload_n hx hb dX4_copyFrom_0 rfl (lv_at hl 1 rfl) ?_
  refine va_get (D := (dC, dI)) (ci := 4) (v := .ref zwo) (C := RX4) (T := TX4) (N := 3) hx hb hts iX4_copyFrom_X4 hown hK hP 3 rfl rfl 0 (by decide) (hts _ kX4_copyFrom_1) (fun _ h9 => h9) rfl dX4_copyFrom_1 ?_
  refine lv_iconst (v := 0) hx hb dX4_copyFrom_4 (by decide) ?_
  refine lv_aload_n hx hb dX4_copyFrom_5 rfl (lv_at hl 0 rfl) ?_
  refine va_get (D := (dC, dI)) (ci := 4) (v := .ref ywo) (C := RX4) (T := TX4) (N := 3) hx hb hts iX4_copyFrom_X4 hown hK hP 0 rfl rfl 0 (by decide) (hts _ kX4_copyFrom_1) (fun _ h9 => h9) rfl dX4_copyFrom_6 ?_
  refine lv_iconst (v := 0) hx hb dX4_copyFrom_9 (by decide) ?_
  refine lv_bipush (v := 20) hx hb dX4_copyFrom_10 (by decide) ?_
  obtain ⟨v1, hv1, hF⟩ := lt_e hF
  refine x_copyi (ws' := [(yw, .inr (4, [.ref ywo, .ref ywi, .int yHd])), (ywo, .inl (cyI, 20, .inl v1)), (ywi, .inl (cyI, 20, .inl yWi)), (zw, .inr (4, [.ref zwo, .ref zwi, .int zHd])), (zwo, .inl (cyI, 20, .inl zWo)), (zwi, .inl (cyI, 20, .inl zWi))]) hx hb (hml.trans hl.1.symm) hown (hts _ kX4_copyFrom_2) (hts _ kX4_copyFrom_3) (hts _ kX4_copyFrom_4) (hts _ kX4_copyFrom_5) hK hP hD hS 4 1 0 rfl rfl rfl rfl (by decide : (0 : Int32).toNatClampNeg = 0 ∧ ¬ (0 : Int32) < 0) (by decide : (0 : Int32).toNatClampNeg = 0 ∧ ¬ (0 : Int32) < 0) (by decide : (20 : Int32).toNatClampNeg = 20 ∧ ¬ (20 : Int32) < 0) (Nat.le_of_ble_eq_true rfl) (Nat.le_of_ble_eq_true rfl) (fun _ => rfl) (Nat.le_of_ble_eq_true rfl) (Nat.le_of_ble_eq_true rfl) hv1 rfl dX4_copyFrom_12 (fun H locs hP hD hS => ?_)
  refine lv_aload_n hx hb dX4_copyFrom_15 rfl (lv_at hl 1 rfl) ?_
  refine va_get (D := (dC, dI)) (ci := 4) (v := .ref zwi) (C := RX4) (T := TX4) (N := 3) hx hb hts iX4_copyFrom_X4 hown hK hP 3 rfl rfl 1 (by decide) (hts _ kX4_copyFrom_6) (fun _ h9 => h9) rfl dX4_copyFrom_16 ?_
  refine lv_iconst (v := 0) hx hb dX4_copyFrom_19 (by decide) ?_
  refine lv_aload_n hx hb dX4_copyFrom_20 rfl (lv_at hl 0 rfl) ?_
  refine va_get (D := (dC, dI)) (ci := 4) (v := .ref ywi) (C := RX4) (T := TX4) (N := 3) hx hb hts iX4_copyFrom_X4 hown hK hP 0 rfl rfl 1 (by decide) (hts _ kX4_copyFrom_6) (fun _ h9 => h9) rfl dX4_copyFrom_21 ?_
  refine lv_iconst (v := 0) hx hb dX4_copyFrom_24 (by decide) ?_
  refine lv_bipush (v := 20) hx hb dX4_copyFrom_25 (by decide) ?_
  obtain ⟨v2, hv2, hF⟩ := lt_e hF
  refine x_copyi (ws' := [(yw, .inr (4, [.ref ywo, .ref ywi, .int yHd])), (ywo, .inl (cyI, 20, .inl v1)), (ywi, .inl (cyI, 20, .inl v2)), (zw, .inr (4, [.ref zwo, .ref zwi, .int zHd])), (zwo, .inl (cyI, 20, .inl zWo)), (zwi, .inl (cyI, 20, .inl zWi))]) hx hb (hml.trans hl.1.symm) hown (hts _ kX4_copyFrom_2) (hts _ kX4_copyFrom_3) (hts _ kX4_copyFrom_4) (hts _ kX4_copyFrom_5) hK hP hD hS 5 2 0 rfl rfl rfl rfl (by decide : (0 : Int32).toNatClampNeg = 0 ∧ ¬ (0 : Int32) < 0) (by decide : (0 : Int32).toNatClampNeg = 0 ∧ ¬ (0 : Int32) < 0) (by decide : (20 : Int32).toNatClampNeg = 20 ∧ ¬ (20 : Int32) < 0) (Nat.le_of_ble_eq_true rfl) (Nat.le_of_ble_eq_true rfl) (fun _ => rfl) (Nat.le_of_ble_eq_true rfl) (Nat.le_of_ble_eq_true rfl) hv2 rfl dX4_copyFrom_27 (fun H locs hP hD hS => ?_)
  refine lv_aload_n hx hb dX4_copyFrom_30 rfl (lv_at hl 0 rfl) ?_
  refine lv_aload_n hx hb dX4_copyFrom_31 rfl (lv_at hl 1 rfl) ?_
  refine va_get (D := (dC, dI)) (ci := 4) (v := .int zHd) (C := RX4) (T := TX4) (N := 3) hx hb hts iX4_copyFrom_X4 hown hK hP 3 rfl rfl 2 (by decide) (hts _ kX4_copyFrom_7) (fun _ h9 => h9) rfl dX4_copyFrom_32 ?_
  refine x_put (D := (dC, dI)) (ci := 4) (v := .int zHd) (ty := .int) (C := RX4) (T := TX4) (N := 3) (ws' := [(yw, .inr (4, [.ref ywo, .ref ywi, .int zHd])), (ywo, .inl (cyI, 20, .inl v1)), (ywi, .inl (cyI, 20, .inl v2)), (zw, .inr (4, [.ref zwo, .ref zwi, .int zHd])), (zwo, .inl (cyI, 20, .inl zWo)), (zwi, .inl (cyI, 20, .inl zWi))]) hx hb hts iX4_copyFrom_X4 tyX4 tyX4_ok nmX4 hown hK hP hD hS 0 rfl rfl 2 (by decide) (hts _ kX4_copyFrom_7) (fun _ h9 => h9) rfl (by decide +kernel) rfl rfl (Nat.le_of_ble_eq_true rfl) rfl dX4_copyFrom_35 (fun H locs hP hD hS => ?_)
  obtain rfl := some_e hF
  exact W.vret hx hb hr (fun t ht hW => ⟨⟨(), rfl, trivial, ⟨by rw [ht]; exact hP, va_K.moved hW.alike hK, hD⟩⟩, hS.F ht⟩) hS.2.2 dX4_copyFrom_38
def F_X4_add (yHd : Int32) (yWo : Nat → Int32) (yWi : Nat → Int32) (w1 : Int32) (w2 : Int32) : Option (Int32 × (Nat → Int32) × (Nat → Int32)) := lt_ (α := Nat → Int32) (va_cpy yWo yWo 0 1 19) (fun v1 => lt_ (α := Nat → Int32) (va_cpy yWi yWi 0 1 19) (fun v2 => lt_ (α := Nat → Int32) (upd v1 0 w1) (fun v3 => lt_ (α := Nat → Int32) (upd v2 0 w2) (fun v4 => lt_ (α := Int32) ((if (20 : Int32) < (yHd + 1) then 20 else (yHd + 1))) (fun v5 => some (v5, v3, v4))))))
theorem kX4_add_1 : (Cond.fieldLink RX4 9 "SelfTuner$Window" "outputs" "[I") ∈ wsX4_add := List.mem_of_getElem? (i := 1) rfl
theorem kX4_add_2 : (Cond.methodLink RX4 22 arraycopyName) ∈ wsX4_add := List.mem_of_getElem? (i := 2) rfl
theorem kX4_add_3 : (Cond.native arraycopyName) ∈ wsX4_add := List.mem_of_getElem? (i := 3) rfl
theorem kX4_add_4 : (Cond.static arraycopyName) ∈ wsX4_add := List.mem_of_getElem? (i := 4) rfl
theorem kX4_add_5 : (Cond.initialized "java/lang/System") ∈ wsX4_add := List.mem_of_getElem? (i := 5) rfl
theorem kX4_add_6 : (Cond.fieldLink RX4 15 "SelfTuner$Window" "inputs" "[I") ∈ wsX4_add := List.mem_of_getElem? (i := 6) rfl
theorem kX4_add_7 : (Cond.fieldLink RX4 18 "SelfTuner$Window" "held" "I") ∈ wsX4_add := List.mem_of_getElem? (i := 7) rfl
theorem kX4_add_8 : (Cond.methodLink RX4 28 Lib.Math.min.name) ∈ wsX4_add := List.mem_of_getElem? (i := 8) rfl
theorem kX4_add_9 : (Cond.static Lib.Math.min.name) ∈ wsX4_add := List.mem_of_getElem? (i := 9) rfl
theorem kX4_add_10 : (Cond.initialized "java/lang/Math") ∈ wsX4_add := List.mem_of_getElem? (i := 10) rfl
theorem kX4_add_11 : (Cond.code Lib.Math.min.name Lib.Math.min.code 2 (some .int)) ∈ wsX4_add := List.mem_of_getElem? (i := 11) rfl
theorem iX4_add_X4 : ∀ w ∈ wsX40, w ∈ wsX4_add := fun w h => List.mem_cons_of_mem _ (List.mem_append_right _ h)
set_option maxHeartbeats 4000000 in
set_option maxRecDepth 100000 in
theorem c_X4_add (l : Launch) (dC : Nat → ClassId) (dI : Nat → Nat → Nat) (cyI cyJ cyB cyS cyD : ClassId) (yw : Nat) (ywo : Nat) (ywi : Nat) (sz : Nat) (yHd : Int32) (yWo : Nat → Int32) (yWi : Nat → Int32) (w1 : Int32) (w2 : Int32) {out : Int32 × (Nat → Int32) × (Nat → Int32)} (hF : F_X4_add yHd yWo yWi w1 w2 = some out) : Mv l yX4_add wsX4_add ({ frames := 1, cells := 0, slots := 0, locals := 80 } : Room) (dC, dI) [(cyI, .int), (cyJ, .long), (cyB, .byte), (cyS, .object "SelfTuner$State"), (cyD, .double)] sz [.ref yw, .int w1, .int w2] [(yw, .inr (4, [.ref ywo, .ref ywi, .int yHd])), (ywo, .inl (cyI, 20, .inl yWo)), (ywi, .inl (cyI, 20, .inl yWi))] [(yw, .inr (4, [.ref ywo, .ref ywi, .int out.1])), (ywo, .inl (cyI, 20, .inl out.2.1)), (ywi, .inl (cyI, 20, .inl out.2.2))] := by
  refine Met.ofW (cc := cX4_add) (maxL := 3) (ret := none) (by decide) rfl ?_
  intro p e s m args below meth c s₁ B hml hv
  obtain ⟨rfl, hN, hsz, hP, hK, hD0⟩ := hv
  have hx := B.exec
  have hb := B.bytes
  have hr := B.returns
  have hts := atoms_spec (ws := wsX4_add) B.pre
  have hown : s.vm.findClass RX4 = some m.cls := findClass_of_methodNamed B.named
  have hlocks := B.notSynchronized
  subst hsz
  have hD := hD0.self (sz := s.heap.size)
  generalize hAe : va_A [(yw, .inr (4, [.ref ywo, .ref ywi, .int yHd])), (ywo, .inl (cyI, 20, .inl yWo)), (ywi, .inl (cyI, 20, .inl yWi))] s.heap.size = A at hD ⊢
  have hA : ∀ q : Nat, s.heap.size ≤ q → A q := fun q h => by rw [← hAe]; exact Or.inr h
  have hS : va_S A s.heap s.heap [] := va_S.rf
  have hP : va_P (dC, dI) vwCl [(yw, .inr (4, [.ref ywo, .ref ywi, .int yHd])), (ywo, .inl (cyI, 20, .inl yWo)), (ywi, .inl (cyI, 20, .inl yWi))] s.heap := hP
  have hl := lv_entry ([.ref yw, .int w1, .int w2]) (n := 3) (Nat.le_of_ble_eq_true rfl)
  rw [lg_entry_eq]
  generalize (lg_sl ([.ref yw, .int w1, .int w2]) ++ List.replicate (3 - (lg_sl ([.ref yw, .int w1, .int w2])).length) Slot.unset).toArray = ls at hl ⊢
  have hl : lv_has ls 3 [(0, .ref yw), (1, .int w1), (2, .int w2)] := hl
  unfold F_X4_add at hF
  refine lv_aload_n hx hb dX4_add_0 rfl (lv_at hl 0 rfl) ?_
  refine va_get (D := (dC, dI)) (ci := 4) (v := .ref ywo) (C := RX4) (T := TX4) (N := 3) hx hb hts iX4_add_X4 hown hK hP 0 rfl rfl 0 (by decide) (hts _ kX4_add_1) (fun _ h9 => h9) rfl dX4_add_1 ?_
  refine lv_iconst (v := 0) hx hb dX4_add_4 (by decide) ?_
  refine lv_aload_n hx hb dX4_add_5 rfl (lv_at hl 0 rfl) ?_
  refine va_get (D := (dC, dI)) (ci := 4) (v := .ref ywo) (C := RX4) (T := TX4) (N := 3) hx hb hts iX4_add_X4 hown hK hP 0 rfl rfl 0 (by decide) (hts _ kX4_add_1) (fun _ h9 => h9) rfl dX4_add_6 ?_
  refine lv_iconst (v := 1) hx hb dX4_add_9 (by decide) ?_
  refine lv_bipush (v := 19) hx hb dX4_add_10 (by decide) ?_
  obtain ⟨v1, hv1, hF⟩ := lt_e hF
  refine x_copyi (ws' := [(yw, .inr (4, [.ref ywo, .ref ywi, .int yHd])), (ywo, .inl (cyI, 20, .inl v1)), (ywi, .inl (cyI, 20, .inl yWi))]) hx hb (hml.trans hl.1.symm) hown (hts _ kX4_add_2) (hts _ kX4_add_3) (hts _ kX4_add_4) (hts _ kX4_add_5) hK hP hD hS 1 1 0 rfl rfl rfl rfl (by decide : (0 : Int32).toNatClampNeg = 0 ∧ ¬ (0 : Int32) < 0) (by decide : (1 : Int32).toNatClampNeg = 1 ∧ ¬ (1 : Int32) < 0) (by decide : (19 : Int32).toNatClampNeg = 19 ∧ ¬ (19 : Int32) < 0) (Nat.le_of_ble_eq_true rfl) (Nat.le_of_ble_eq_true rfl) (fun _ => rfl) (Nat.le_of_ble_eq_true rfl) (Nat.le_of_ble_eq_true rfl) hv1 rfl dX4_add_12 (fun H locs hP hD hS => ?_)
  refine lv_aload_n hx hb dX4_add_15 rfl (lv_at hl 0 rfl) ?_
  refine va_get (D := (dC, dI)) (ci := 4) (v := .ref ywi) (C := RX4) (T := TX4) (N := 3) hx hb hts iX4_add_X4 hown hK hP 0 rfl rfl 1 (by decide) (hts _ kX4_add_6) (fun _ h9 => h9) rfl dX4_add_16 ?_
  refine lv_iconst (v := 0) hx hb dX4_add_19 (by decide) ?_
  refine lv_aload_n hx hb dX4_add_20 rfl (lv_at hl 0 rfl) ?_
  refine va_get (D := (dC, dI)) (ci := 4) (v := .ref ywi) (C := RX4) (T := TX4) (N := 3) hx hb hts iX4_add_X4 hown hK hP 0 rfl rfl 1 (by decide) (hts _ kX4_add_6) (fun _ h9 => h9) rfl dX4_add_21 ?_
  refine lv_iconst (v := 1) hx hb dX4_add_24 (by decide) ?_
  refine lv_bipush (v := 19) hx hb dX4_add_25 (by decide) ?_
  obtain ⟨v2, hv2, hF⟩ := lt_e hF
  refine x_copyi (ws' := [(yw, .inr (4, [.ref ywo, .ref ywi, .int yHd])), (ywo, .inl (cyI, 20, .inl v1)), (ywi, .inl (cyI, 20, .inl v2))]) hx hb (hml.trans hl.1.symm) hown (hts _ kX4_add_2) (hts _ kX4_add_3) (hts _ kX4_add_4) (hts _ kX4_add_5) hK hP hD hS 2 2 0 rfl rfl rfl rfl (by decide : (0 : Int32).toNatClampNeg = 0 ∧ ¬ (0 : Int32) < 0) (by decide : (1 : Int32).toNatClampNeg = 1 ∧ ¬ (1 : Int32) < 0) (by decide : (19 : Int32).toNatClampNeg = 19 ∧ ¬ (19 : Int32) < 0) (Nat.le_of_ble_eq_true rfl) (Nat.le_of_ble_eq_true rfl) (fun _ => rfl) (Nat.le_of_ble_eq_true rfl) (Nat.le_of_ble_eq_true rfl) hv2 rfl dX4_add_27 (fun H locs hP hD hS => ?_)
  refine lv_aload_n hx hb dX4_add_30 rfl (lv_at hl 0 rfl) ?_
  refine va_get (D := (dC, dI)) (ci := 4) (v := .ref ywo) (C := RX4) (T := TX4) (N := 3) hx hb hts iX4_add_X4 hown hK hP 0 rfl rfl 0 (by decide) (hts _ kX4_add_1) (fun _ h9 => h9) rfl dX4_add_31 ?_
  refine lv_iconst (v := 0) hx hb dX4_add_34 (by decide) ?_
  refine lv_iload_n hx hb dX4_add_35 rfl (lv_at hl 1 rfl) ?_
  obtain ⟨v3, hv3, hF⟩ := lt_e hF
  refine x_iast (ws' := [(yw, .inr (4, [.ref ywo, .ref ywi, .int yHd])), (ywo, .inl (cyI, 20, .inl v3)), (ywi, .inl (cyI, 20, .inl v2))]) hx hb hK hP hD hS 1 0 rfl rfl (show (0 : Int32).toNatClampNeg = 0 by decide) (inbK (k := 0) (by decide) rfl) hv3 rfl dX4_add_36 (fun H locs hP hD hS => ?_)
  refine lv_aload_n hx hb dX4_add_37 rfl (lv_at hl 0 rfl) ?_
  refine va_get (D := (dC, dI)) (ci := 4) (v := .ref ywi) (C := RX4) (T := TX4) (N := 3) hx hb hts iX4_add_X4 hown hK hP 0 rfl rfl 1 (by decide) (hts _ kX4_add_6) (fun _ h9 => h9) rfl dX4_add_38 ?_
  refine lv_iconst (v := 0) hx hb dX4_add_41 (by decide) ?_
  refine lv_iload_n hx hb dX4_add_42 rfl (lv_at hl 2 rfl) ?_
  obtain ⟨v4, hv4, hF⟩ := lt_e hF
  refine x_iast (ws' := [(yw, .inr (4, [.ref ywo, .ref ywi, .int yHd])), (ywo, .inl (cyI, 20, .inl v3)), (ywi, .inl (cyI, 20, .inl v4))]) hx hb hK hP hD hS 2 0 rfl rfl (show (0 : Int32).toNatClampNeg = 0 by decide) (inbK (k := 0) (by decide) rfl) hv4 rfl dX4_add_43 (fun H locs hP hD hS => ?_)
  refine lv_aload_n hx hb dX4_add_44 rfl (lv_at hl 0 rfl) ?_
  refine lv_aload_n hx hb dX4_add_45 rfl (lv_at hl 0 rfl) ?_
  refine va_get (D := (dC, dI)) (ci := 4) (v := .int yHd) (C := RX4) (T := TX4) (N := 3) hx hb hts iX4_add_X4 hown hK hP 0 rfl rfl 2 (by decide) (hts _ kX4_add_7) (fun _ h9 => h9) rfl dX4_add_46 ?_
  refine lv_iconst (v := 1) hx hb dX4_add_49 (by decide) ?_
  refine lv_iadd hx hb dX4_add_50 ?_
  refine lv_bipush (v := 20) hx hb dX4_add_51 (by decide) ?_
  refine va_mmin hx hb (hml.trans hl.1.symm) hown (hts _ kX4_add_8) (hts _ kX4_add_9) (hts _ kX4_add_10) (hts _ kX4_add_11) (Nat.le_of_ble_eq_true rfl) (Nat.le_of_ble_eq_true rfl) (Nat.le_of_ble_eq_true rfl) (Nat.le_of_ble_eq_true rfl) dX4_add_53 ?_
  obtain ⟨v5, hv5, hF⟩ := lt_e hF
  refine x_topi hv5 ?_
  refine x_put (D := (dC, dI)) (ci := 4) (v := .int v5) (ty := .int) (C := RX4) (T := TX4) (N := 3) (ws' := [(yw, .inr (4, [.ref ywo, .ref ywi, .int v5])), (ywo, .inl (cyI, 20, .inl v3)), (ywi, .inl (cyI, 20, .inl v4))]) hx hb hts iX4_add_X4 tyX4 tyX4_ok nmX4 hown hK hP hD hS 0 rfl rfl 2 (by decide) (hts _ kX4_add_7) (fun _ h9 => h9) rfl (by decide +kernel) rfl rfl (Nat.le_of_ble_eq_true rfl) rfl dX4_add_56 (fun H locs hP hD hS => ?_)
  obtain rfl := some_e hF
  exact W.vret hx hb hr (fun t ht hW => ⟨⟨(), rfl, trivial, ⟨by rw [ht]; exact hP, va_K.moved hW.alike hK, hD⟩⟩, hS.F ht⟩) hS.2.2 dX4_add_59
def F_X4_size (yHd : Int32) (w1 : Int32) : Option (Int32) := some (if (w1 : Int32) < yHd then w1 else yHd)
theorem kX4_size_1 : (Cond.fieldLink RX4 18 "SelfTuner$Window" "held" "I") ∈ wsX4_size := List.mem_of_getElem? (i := 1) rfl
theorem kX4_size_2 : (Cond.methodLink RX4 28 Lib.Math.min.name) ∈ wsX4_size := List.mem_of_getElem? (i := 2) rfl
theorem kX4_size_3 : (Cond.static Lib.Math.min.name) ∈ wsX4_size := List.mem_of_getElem? (i := 3) rfl
theorem kX4_size_4 : (Cond.initialized "java/lang/Math") ∈ wsX4_size := List.mem_of_getElem? (i := 4) rfl
theorem kX4_size_5 : (Cond.code Lib.Math.min.name Lib.Math.min.code 2 (some .int)) ∈ wsX4_size := List.mem_of_getElem? (i := 5) rfl
theorem iX4_size_X4 : ∀ w ∈ wsX40, w ∈ wsX4_size := fun w h => List.mem_cons_of_mem _ (List.mem_append_right _ h)
set_option maxHeartbeats 4000000 in
set_option maxRecDepth 100000 in
theorem c_X4_size (l : Launch) (dC : Nat → ClassId) (dI : Nat → Nat → Nat) (cyI cyJ cyB cyS cyD : ClassId) (yw : Nat) (ywo : Nat) (ywi : Nat) (sz : Nat) (yHd : Int32) (yWo : Nat → Int32) (yWi : Nat → Int32) (w1 : Int32) {out : Int32} (hF : F_X4_size yHd w1 = some out) : Mi l yX4_size wsX4_size ({ frames := 1, cells := 0, slots := 0, locals := 40 } : Room) (dC, dI) [(cyI, .int), (cyJ, .long), (cyB, .byte), (cyS, .object "SelfTuner$State"), (cyD, .double)] sz [.ref yw, .int w1] [(yw, .inr (4, [.ref ywo, .ref ywi, .int yHd])), (ywo, .inl (cyI, 20, .inl yWo)), (ywi, .inl (cyI, 20, .inl yWi))] out [(yw, .inr (4, [.ref ywo, .ref ywi, .int yHd])), (ywo, .inl (cyI, 20, .inl yWo)), (ywi, .inl (cyI, 20, .inl yWi))] := by
  refine Met.ofW (cc := cX4_size) (maxL := 2) (ret := (some .int)) (by decide) rfl ?_
  intro p e s m args below meth c s₁ B hml hv
  obtain ⟨rfl, hN, hsz, hP, hK, hD0⟩ := hv
  have hx := B.exec
  have hb := B.bytes
  have hr := B.returns
  have hts := atoms_spec (ws := wsX4_size) B.pre
  have hown : s.vm.findClass RX4 = some m.cls := findClass_of_methodNamed B.named
  have hlocks := B.notSynchronized
  subst hsz
  have hD := hD0.self (sz := s.heap.size)
  generalize hAe : va_A [(yw, .inr (4, [.ref ywo, .ref ywi, .int yHd])), (ywo, .inl (cyI, 20, .inl yWo)), (ywi, .inl (cyI, 20, .inl yWi))] s.heap.size = A at hD ⊢
  have hA : ∀ q : Nat, s.heap.size ≤ q → A q := fun q h => by rw [← hAe]; exact Or.inr h
  have hS : va_S A s.heap s.heap [] := va_S.rf
  have hP : va_P (dC, dI) vwCl [(yw, .inr (4, [.ref ywo, .ref ywi, .int yHd])), (ywo, .inl (cyI, 20, .inl yWo)), (ywi, .inl (cyI, 20, .inl yWi))] s.heap := hP
  have hl := lv_entry ([.ref yw, .int w1]) (n := 2) (Nat.le_of_ble_eq_true rfl)
  rw [lg_entry_eq]
  generalize (lg_sl ([.ref yw, .int w1]) ++ List.replicate (2 - (lg_sl ([.ref yw, .int w1])).length) Slot.unset).toArray = ls at hl ⊢
  have hl : lv_has ls 2 [(0, .ref yw), (1, .int w1)] := hl
  unfold F_X4_size at hF
  refine lv_aload_n hx hb dX4_size_0 rfl (lv_at hl 0 rfl) ?_
  refine va_get (D := (dC, dI)) (ci := 4) (v := .int yHd) (C := RX4) (T := TX4) (N := 3) hx hb hts iX4_size_X4 hown hK hP 0 rfl rfl 2 (by decide) (hts _ kX4_size_1) (fun _ h9 => h9) rfl dX4_size_1 ?_
  refine lv_iload_n hx hb dX4_size_4 rfl (lv_at hl 1 rfl) ?_
  refine va_mmin hx hb (hml.trans hl.1.symm) hown (hts _ kX4_size_2) (hts _ kX4_size_3) (hts _ kX4_size_4) (hts _ kX4_size_5) (Nat.le_of_ble_eq_true rfl) (Nat.le_of_ble_eq_true rfl) (Nat.le_of_ble_eq_true rfl) (Nat.le_of_ble_eq_true rfl) dX4_size_5 ?_
  obtain rfl := some_e hF
  exact W.iret (v := (if (w1 : Int32) < yHd then w1 else yHd)) hx hb hr (fun t ht hW => ⟨⟨(if (w1 : Int32) < yHd then w1 else yHd), (), rfl, rfl, ⟨by rw [ht]; exact hP, va_K.moved hW.alike hK, hD⟩⟩, hS.F ht⟩) hS.2.2 dX4_size_8
def F_X4_excitation_18 (o1 : Int32) (yWo : Nat → Int32) (yWi : Nat → Int32) : Nat → ((Int64 × Int64 × Int64) → Option (Int64)) → Int64 → Int64 → Int64 → Int32 → Option (Int64)
  | 0, _, _, _, _, _ => none
  | n2 + 1, K3, v4, v5, v6, v7 => if (o1 : Int32) ≤ v7 then (K3 (v4, v5, v6)) else (ck (inb v7 20) (lt_ (α := Int64) ((yWo v7.toNatClampNeg).toInt64) (fun v10 => ck (inb v7 20) (lt_ (α := Int64) ((yWi v7.toNatClampNeg).toInt64) (fun v12 => lt_ (α := Int64) (v4 + (v10 * v10)) (fun v13 => lt_ (α := Int64) (v5 + (v12 * v12)) (fun v14 => lt_ (α := Int64) (v6 + (v10 * v12)) (fun v15 => lt_ (α := Int32) (v7 + 1) (fun v16 => F_X4_excitation_18 o1 yWo yWi n2 K3 v13 v14 v15 v16)))))))))
def F_X4_excitation (yHd : Int32) (yWo : Nat → Int32) (yWi : Nat → Int32) (w1 : Int32) : Option (Int64) := ob (F_X4_size yHd w1) (fun o1 => F_X4_excitation_18 o1 yWo yWi 1000 (fun x17 => some ((x17.1 * x17.2.1) - (x17.2.2 * x17.2.2))) 0 0 0 0)
theorem kX4_excitation_1 : (Cond.fieldLink RX4 9 "SelfTuner$Window" "outputs" "[I") ∈ wsX4_excitation := List.mem_of_getElem? (i := 1) rfl
theorem kX4_excitation_2 : (Cond.fieldLink RX4 15 "SelfTuner$Window" "inputs" "[I") ∈ wsX4_excitation := List.mem_of_getElem? (i := 2) rfl
theorem iX4_excitation_X4 : ∀ w ∈ wsX40, w ∈ wsX4_excitation := fun w h => List.mem_cons_of_mem _ (List.mem_append_right _ h)
set_option maxHeartbeats 4000000 in
set_option maxRecDepth 100000 in
theorem c_X4_excitation (l : Launch) (dC : Nat → ClassId) (dI : Nat → Nat → Nat) (cyI cyJ cyB cyS cyD : ClassId) (yw : Nat) (ywo : Nat) (ywi : Nat) (sz : Nat) (yHd : Int32) (yWo : Nat → Int32) (yWi : Nat → Int32) (w1 : Int32) {out : Int64} (hF : F_X4_excitation yHd yWo yWi w1 = some out) : Ml l yX4_excitation wsX4_excitation ({ frames := 2, cells := 0, slots := 0, locals := 61 } : Room) (dC, dI) [(cyI, .int), (cyJ, .long), (cyB, .byte), (cyS, .object "SelfTuner$State"), (cyD, .double)] sz [.ref yw, .int w1] [(yw, .inr (4, [.ref ywo, .ref ywi, .int yHd])), (ywo, .inl (cyI, 20, .inl yWo)), (ywi, .inl (cyI, 20, .inl yWi))] out [(yw, .inr (4, [.ref ywo, .ref ywi, .int yHd])), (ywo, .inl (cyI, 20, .inl yWo)), (ywi, .inl (cyI, 20, .inl yWi))] := by
  refine Met.ofW (cc := cX4_excitation) (maxL := 14) (ret := (some .long)) (by decide) rfl ?_
  intro p e s m args below meth c s₁ B hml hv
  obtain ⟨rfl, hN, hsz, hP, hK, hD0⟩ := hv
  have hx := B.exec
  have hb := B.bytes
  have hr := B.returns
  have hts := atoms_spec (ws := wsX4_excitation) B.pre
  have hown : s.vm.findClass RX4 = some m.cls := findClass_of_methodNamed B.named
  have hlocks := B.notSynchronized
  subst hsz
  have hD := hD0.self (sz := s.heap.size)
  generalize hAe : va_A [(yw, .inr (4, [.ref ywo, .ref ywi, .int yHd])), (ywo, .inl (cyI, 20, .inl yWo)), (ywi, .inl (cyI, 20, .inl yWi))] s.heap.size = A at hD ⊢
  have hA : ∀ q : Nat, s.heap.size ≤ q → A q := fun q h => by rw [← hAe]; exact Or.inr h
  have hS : va_S A s.heap s.heap [] := va_S.rf
  have hP : va_P (dC, dI) vwCl [(yw, .inr (4, [.ref ywo, .ref ywi, .int yHd])), (ywo, .inl (cyI, 20, .inl yWo)), (ywi, .inl (cyI, 20, .inl yWi))] s.heap := hP
  have hl := lv_entry ([.ref yw, .int w1]) (n := 14) (Nat.le_of_ble_eq_true rfl)
  rw [lg_entry_eq]
  generalize (lg_sl ([.ref yw, .int w1]) ++ List.replicate (14 - (lg_sl ([.ref yw, .int w1])).length) Slot.unset).toArray = ls at hl ⊢
  have hl : lv_has ls 14 [(0, .ref yw), (1, .int w1)] := hl
  unfold F_X4_excitation at hF
  refine lv_lconst (v := 0) hx hb dX4_excitation_0 (by decide) ?_
  refine lv_lstore_n (lv' := [(2, .long 0), (0, .ref yw), (1, .int w1)]) hx hb dX4_excitation_1 rfl hl (by decide) rfl (fun ls hl => ?_)
  refine lv_lconst (v := 0) hx hb dX4_excitation_2 (by decide) ?_
  refine lv_lstore (lv' := [(4, .long 0), (2, .long 0), (0, .ref yw), (1, .int w1)]) hx hb dX4_excitation_3 hl (by decide) rfl (fun ls hl => ?_)
  refine lv_lconst (v := 0) hx hb dX4_excitation_5 (by decide) ?_
  refine lv_lstore (lv' := [(6, .long 0), (4, .long 0), (2, .long 0), (0, .ref yw), (1, .int w1)]) hx hb dX4_excitation_6 hl (by decide) rfl (fun ls hl => ?_)
  refine lv_aload_n hx hb dX4_excitation_8 rfl (lv_at hl 3 rfl) ?_
  refine lv_iload_n hx hb dX4_excitation_9 rfl (lv_at hl 4 rfl) ?_
  obtain ⟨o1, ho1, hF⟩ := ob_e hF
  refine x_calli (wr := []) (ws' := [(yw, .inr (4, [.ref ywo, .ref ywi, .int yHd])), (ywo, .inl (cyI, 20, .inl yWo)), (ywi, .inl (cyI, 20, .inl yWi))]) (va_runV (As := [.int w1]) (rest := []) ⟨hx, hb, hml, hown, hts⟩ (c_X4_size l dC dI cyI cyJ cyB cyS cyD yw ywo ywi s.heap.size yHd yWo yWi w1 ho1) (cwV 1 hts gX4_excitation_X4_size rfl rfl rfl (by decide +kernel) ⟨Nat.le_of_ble_eq_true rfl, Nat.le_of_ble_eq_true rfl⟩) ⟨cPre_blind, va_recv hK hP (ci := 4) (q0 := 0) rfl rfl, x_pre hN hP hD hK [0, 1, 2] rfl rfl⟩ rfl rfl hl.1 rfl (lv_room (Nat.le_of_ble_eq_true rfl)) dX4_excitation_10 ⟨Nat.le_of_ble_eq_true rfl, Nat.le_of_ble_eq_true rfl⟩) hP hD hS hA [0, 1, 2] [] [0, 1, 2] rfl rfl rfl (by decide) rfl rfl (fun H locs hP hD hS => ?_)
  refine lv_istore (lv' := [(8, .int o1), (6, .long 0), (4, .long 0), (2, .long 0), (0, .ref yw), (1, .int w1)]) hx hb dX4_excitation_13 hl (by decide) rfl (fun ls hl => ?_)
  refine lv_iconst (v := 0) hx hb dX4_excitation_15 (by decide) ?_
  refine lv_istore (lv' := [(9, .int 0), (8, .int o1), (6, .long 0), (4, .long 0), (2, .long 0), (0, .ref yw), (1, .int w1)]) hx hb dX4_excitation_16 hl (by decide) rfl (fun ls hl => ?_)
  have Ln2 : ∀ (n2 : Nat) (K3 : (Int64 × Int64 × Int64) → Option (Int64)) (v4 : Int64) (v5 : Int64) (v6 : Int64) (v7 : Int32) (H : Heap) (locs : List Loc) (ls : Array Slot), F_X4_excitation_18 o1 yWo yWi n2 K3 v4 v5 v6 v7 = some out → va_P (dC, dI) vwCl [(yw, .inr (4, [.ref ywo, .ref ywi, .int yHd])), (ywo, .inl (cyI, 20, .inl yWo)), (ywi, .inl (cyI, 20, .inl yWi))] H → va_D A [(yw, .inr (4, [.ref ywo, .ref ywi, .int yHd])), (ywo, .inl (cyI, 20, .inl yWo)), (ywi, .inl (cyI, 20, .inl yWi))] → va_S A s.heap H locs → lv_has ls 14 [(0, .ref yw), (2, .long v4), (4, .long v5), (6, .long v6), (8, .int o1), (9, .int v7)] → (∀ (x17 : Int64 × Int64 × Int64) (H : Heap) (locs : List Loc) (ls : Array Slot), K3 x17 = some out → va_P (dC, dI) vwCl [(yw, .inr (4, [.ref ywo, .ref ywi, .int yHd])), (ywo, .inl (cyI, 20, .inl yWo)), (ywi, .inl (cyI, 20, .inl yWi))] H → va_D A [(yw, .inr (4, [.ref ywo, .ref ywi, .int yHd])), (ywo, .inl (cyI, 20, .inl yWo)), (ywi, .inl (cyI, 20, .inl yWi))] → va_S A s.heap H locs → lv_has ls 14 [(2, .long x17.1), (4, .long x17.2.1), (6, .long x17.2.2)] → W p l e (headSpec wsX4_excitation ({ frames := 2, cells := 0, slots := 0, locals := 61 } : Room)).room s m ([.ref yw, .int w1] : List Value).toArray below meth c H locs 0 0 (MQ below (va_Ql (fun (r' : Int64) (_ : Unit) => r' = out) (cPost (dC, dI) [(cyI, .int), (cyJ, .long), (cyB, .byte), (cyS, .object "SelfTuner$State"), (cyD, .double)] [(yw, .inr (4, [.ref ywo, .ref ywi, .int yHd])), (ywo, .inl (cyI, 20, .inl yWo)), (ywi, .inl (cyI, 20, .inl yWi))] A) A) ([.ref yw, .int w1] : List Value).toArray s 0 0 A) (F0 m 79 ls [])) → W p l e (headSpec wsX4_excitation ({ frames := 2, cells := 0, slots := 0, locals := 61 } : Room)).room s m ([.ref yw, .int w1] : List Value).toArray below meth c H locs 0 0 (MQ below (va_Ql (fun (r' : Int64) (_ : Unit) => r' = out) (cPost (dC, dI) [(cyI, .int), (cyJ, .long), (cyB, .byte), (cyS, .object "SelfTuner$State"), (cyD, .double)] [(yw, .inr (4, [.ref ywo, .ref ywi, .int yHd])), (ywo, .inl (cyI, 20, .inl yWo)), (ywi, .inl (cyI, 20, .inl yWi))] A) A) ([.ref yw, .int w1] : List Value).toArray s 0 0 A) (F0 m 18 ls []) := by
    intro n2
    induction n2 with
    | zero => intro K3 v4 v5 v6 v7 H locs ls hF; exact no_e (show none = some out from hF)
    | succ n2 ihn2 =>
      intro K3 v4 v5 v6 v7 H locs ls hF hP hD hS hl kxn2
      rw [F_X4_excitation_18] at hF
      refine lv_iload hx hb dX4_excitation_18 (lv_at hl 5 rfl) ?_
      refine lv_iload hx hb dX4_excitation_20 (lv_at hl 4 rfl) ?_
      refine lv_icmp_ge (tgt := 79) hx hb dX4_excitation_22 (by decide) (fun c8 => ?_) (fun c8 => ?_)
      · have hF := ite_t hF c8
        exact kxn2 _ _ _ _ hF hP hD hS (lv_sub hl [1, 2, 3] rfl)
      · have hF := ite_f hF c8
        refine lv_aload_n hx hb dX4_excitation_25 rfl (lv_at hl 0 rfl) ?_
        refine va_get (D := (dC, dI)) (ci := 4) (v := .ref ywo) (C := RX4) (T := TX4) (N := 3) hx hb hts iX4_excitation_X4 hown hK hP 0 rfl rfl 0 (by decide) (hts _ kX4_excitation_1) (fun _ h9 => h9) rfl dX4_excitation_26 ?_
        refine lv_iload hx hb dX4_excitation_29 (lv_at hl 5 rfl) ?_
        obtain ⟨g9, hF⟩ := ck_e hF
        refine x_iald hx hb hK hP 1 0 rfl rfl rfl g9 dX4_excitation_31 ?_
        refine lv_i2l (v := (yWo v7.toNatClampNeg).toInt64) hx hb dX4_excitation_32 rfl ?_
        obtain ⟨v10, hv10, hF⟩ := lt_e hF
        refine x_topl hv10 ?_
        refine lv_lstore (lv' := [(10, .long v10), (0, .ref yw), (2, .long v4), (4, .long v5), (6, .long v6), (8, .int o1), (9, .int v7)]) hx hb dX4_excitation_33 hl (by decide) rfl (fun ls hl => ?_)
        refine lv_aload_n hx hb dX4_excitation_35 rfl (lv_at hl 1 rfl) ?_
        refine va_get (D := (dC, dI)) (ci := 4) (v := .ref ywi) (C := RX4) (T := TX4) (N := 3) hx hb hts iX4_excitation_X4 hown hK hP 0 rfl rfl 1 (by decide) (hts _ kX4_excitation_2) (fun _ h9 => h9) rfl dX4_excitation_36 ?_
        refine lv_iload hx hb dX4_excitation_39 (lv_at hl 6 rfl) ?_
        obtain ⟨g11, hF⟩ := ck_e hF
        refine x_iald hx hb hK hP 2 0 rfl rfl rfl g11 dX4_excitation_41 ?_
        refine lv_i2l (v := (yWi v7.toNatClampNeg).toInt64) hx hb dX4_excitation_42 rfl ?_
        obtain ⟨v12, hv12, hF⟩ := lt_e hF
        refine x_topl hv12 ?_
        refine lv_lstore (lv' := [(12, .long v12), (10, .long v10), (0, .ref yw), (2, .long v4), (4, .long v5), (6, .long v6), (8, .int o1), (9, .int v7)]) hx hb dX4_excitation_43 hl (by decide) rfl (fun ls hl => ?_)
        refine lv_lload_n hx hb dX4_excitation_45 rfl (lv_at hl 3 rfl) ?_
        refine lv_lload hx hb dX4_excitation_46 (lv_at hl 1 rfl) ?_
        refine lv_lload hx hb dX4_excitation_48 (lv_at hl 1 rfl) ?_
        refine lv_lmul hx hb dX4_excitation_50 ?_
        refine lv_ladd hx hb dX4_excitation_51 ?_
        obtain ⟨v13, hv13, hF⟩ := lt_e hF
        refine x_topl hv13 ?_
        refine lv_lstore_n (lv' := [(2, .long v13), (12, .long v12), (10, .long v10), (0, .ref yw), (4, .long v5), (6, .long v6), (8, .int o1), (9, .int v7)]) hx hb dX4_excitation_52 rfl hl (by decide) rfl (fun ls hl => ?_)
        refine lv_lload hx hb dX4_excitation_53 (lv_at hl 4 rfl) ?_
        refine lv_lload hx hb dX4_excitation_55 (lv_at hl 1 rfl) ?_
        refine lv_lload hx hb dX4_excitation_57 (lv_at hl 1 rfl) ?_
        refine lv_lmul hx hb dX4_excitation_59 ?_
        refine lv_ladd hx hb dX4_excitation_60 ?_
        obtain ⟨v14, hv14, hF⟩ := lt_e hF
        refine x_topl hv14 ?_
        refine lv_lstore (lv' := [(4, .long v14), (2, .long v13), (12, .long v12), (10, .long v10), (0, .ref yw), (6, .long v6), (8, .int o1), (9, .int v7)]) hx hb dX4_excitation_61 hl (by decide) rfl (fun ls hl => ?_)
        refine lv_lload hx hb dX4_excitation_63 (lv_at hl 5 rfl) ?_
        refine lv_lload hx hb dX4_excitation_65 (lv_at hl 3 rfl) ?_
        refine lv_lload hx hb dX4_excitation_67 (lv_at hl 2 rfl) ?_
        refine lv_lmul hx hb dX4_excitation_69 ?_
        refine lv_ladd hx hb dX4_excitation_70 ?_
        obtain ⟨v15, hv15, hF⟩ := lt_e hF
        refine x_topl hv15 ?_
        refine lv_lstore (lv' := [(6, .long v15), (4, .long v14), (2, .long v13), (12, .long v12), (10, .long v10), (0, .ref yw), (8, .int o1), (9, .int v7)]) hx hb dX4_excitation_71 hl (by decide) rfl (fun ls hl => ?_)
        obtain ⟨v16, hv16, hF⟩ := lt_e hF
        refine lv_iinc (v := v16) (lv' := [(9, .int v16), (6, .long v15), (4, .long v14), (2, .long v13), (12, .long v12), (10, .long v10), (0, .ref yw), (8, .int o1)]) hx hb dX4_excitation_73 hl (k := 7) rfl (by rw [hv16]; rfl) (by decide) rfl (fun ls hl => ?_)
        refine lv_goto (tgt := 18) hx hb dX4_excitation_76 (by decide) ?_
        exact ihn2 _ _ _ _ _ _ _ _ hF hP hD hS (lv_sub hl [6, 3, 2, 1, 7, 0] rfl) kxn2
  refine Ln2 _ _ _ _ _ _ _ _ _ hF hP hD hS (lv_sub hl [5, 4, 3, 2, 1, 0] rfl) (fun x17 H locs ls hF hP hD hS hl => ?_)
  refine lv_lload_n hx hb dX4_excitation_79 rfl (lv_at hl 0 rfl) ?_
  refine lv_lload hx hb dX4_excitation_80 (lv_at hl 1 rfl) ?_
  refine lv_lmul hx hb dX4_excitation_82 ?_
  refine lv_lload hx hb dX4_excitation_83 (lv_at hl 2 rfl) ?_
  refine lv_lload hx hb dX4_excitation_85 (lv_at hl 2 rfl) ?_
  refine lv_lmul hx hb dX4_excitation_87 ?_
  refine lv_lsub hx hb dX4_excitation_88 ?_
  obtain rfl := some_e hF
  exact W.lret (v := (x17.1 * x17.2.1) - (x17.2.2 * x17.2.2)) hx hb hr (fun t ht hW => ⟨⟨(x17.1 * x17.2.1) - (x17.2.2 * x17.2.2), (), rfl, rfl, ⟨by rw [ht]; exact hP, va_K.moved hW.alike hK, hD⟩⟩, hS.F ht⟩) hS.2.2 dX4_excitation_89
def F_X1_copyFrom (yNu : Nat → Int32) (zNs : Int32) (zRn : Int64) (zOu : Int32) (zNu : Nat → Int32) : Option (Int32 × Int64 × Int32 × (Nat → Int32)) := lt_ (α := Nat → Int32) (va_cpy zNu yNu 0 0 3) (fun v1 => some (zNs, zRn, zOu, v1))
theorem kX1_copyFrom_1 : (Cond.fieldLink RX1 9 "SelfTuner$Plant" "numbers" "[I") ∈ wsX1_copyFrom := List.mem_of_getElem? (i := 1) rfl
theorem kX1_copyFrom_2 : (Cond.methodLink RX1 26 arraycopyName) ∈ wsX1_copyFrom := List.mem_of_getElem? (i := 2) rfl
theorem kX1_copyFrom_3 : (Cond.native arraycopyName) ∈ wsX1_copyFrom := List.mem_of_getElem? (i := 3) rfl
theorem kX1_copyFrom_4 : (Cond.static arraycopyName) ∈ wsX1_copyFrom := List.mem_of_getElem? (i := 4) rfl
theorem kX1_copyFrom_5 : (Cond.initialized "java/lang/System") ∈ wsX1_copyFrom := List.mem_of_getElem? (i := 5) rfl
theorem kX1_copyFrom_6 : (Cond.fieldLink RX1 15 "SelfTuner$Plant" "noise" "I") ∈ wsX1_copyFrom := List.mem_of_getElem? (i := 6) rfl
theorem kX1_copyFrom_7 : (Cond.fieldLink RX1 19 "SelfTuner$Plant" "random" "J") ∈ wsX1_copyFrom := List.mem_of_getElem? (i := 7) rfl
theorem kX1_copyFrom_8 : (Cond.fieldLink RX1 23 "SelfTuner$Plant" "output" "I") ∈ wsX1_copyFrom := List.mem_of_getElem? (i := 8) rfl
theorem iX1_copyFrom_X1 : ∀ w ∈ wsX10, w ∈ wsX1_copyFrom := fun w h => List.mem_cons_of_mem _ (List.mem_append_right _ h)
set_option maxHeartbeats 4000000 in
set_option maxRecDepth 100000 in
theorem c_X1_copyFrom (l : Launch) (dC : Nat → ClassId) (dI : Nat → Nat → Nat) (cyI cyJ cyB cyS cyD : ClassId) (yp : Nat) (ypn : Nat) (zp : Nat) (zpn : Nat) (sz : Nat) (yNs : Int32) (yRn : Int64) (yOu : Int32) (yNu : Nat → Int32) (zNs : Int32) (zRn : Int64) (zOu : Int32) (zNu : Nat → Int32) {out : Int32 × Int64 × Int32 × (Nat → Int32)} (hF : F_X1_copyFrom yNu zNs zRn zOu zNu = some out) : Mv l yX1_copyFrom wsX1_copyFrom ({ frames := 1, cells := 0, slots := 0, locals := 80 } : Room) (dC, dI) [(cyI, .int), (cyJ, .long), (cyB, .byte), (cyS, .object "SelfTuner$State"), (cyD, .double)] sz [.ref yp, .ref zp] [(yp, .inr (1, [.ref ypn, .int yNs, .long yRn, .int yOu])), (ypn, .inl (cyI, 3, .inl yNu)), (zp, .inr (1, [.ref zpn, .int zNs, .long zRn, .int zOu])), (zpn, .inl (cyI, 3, .inl zNu))] [(yp, .inr (1, [.ref ypn, .int out.1, .long out.2.1, .int out.2.2.1])), (ypn, .inl (cyI, 3, .inl out.2.2.2)), (zp, .inr (1, [.ref zpn, .int zNs, .long zRn, .int zOu])), (zpn, .inl (cyI, 3, .inl zNu))] := by
  refine Met.ofW (cc := cX1_copyFrom) (maxL := 2) (ret := none) (by decide) rfl ?_
  intro p e s m args below meth c s₁ B hml hv
  obtain ⟨rfl, hN, hsz, hP, hK, hD0⟩ := hv
  have hx := B.exec
  have hb := B.bytes
  have hr := B.returns
  have hts := atoms_spec (ws := wsX1_copyFrom) B.pre
  have hown : s.vm.findClass RX1 = some m.cls := findClass_of_methodNamed B.named
  have hlocks := B.notSynchronized
  subst hsz
  have hD := hD0.self (sz := s.heap.size)
  generalize hAe : va_A [(yp, .inr (1, [.ref ypn, .int yNs, .long yRn, .int yOu])), (ypn, .inl (cyI, 3, .inl yNu)), (zp, .inr (1, [.ref zpn, .int zNs, .long zRn, .int zOu])), (zpn, .inl (cyI, 3, .inl zNu))] s.heap.size = A at hD ⊢
  have hA : ∀ q : Nat, s.heap.size ≤ q → A q := fun q h => by rw [← hAe]; exact Or.inr h
  have hS : va_S A s.heap s.heap [] := va_S.rf
  have hP : va_P (dC, dI) vwCl [(yp, .inr (1, [.ref ypn, .int yNs, .long yRn, .int yOu])), (ypn, .inl (cyI, 3, .inl yNu)), (zp, .inr (1, [.ref zpn, .int zNs, .long zRn, .int zOu])), (zpn, .inl (cyI, 3, .inl zNu))] s.heap := hP
  have hl := lv_entry ([.ref yp, .ref zp]) (n := 2) (Nat.le_of_ble_eq_true rfl)
  rw [lg_entry_eq]
  generalize (lg_sl ([.ref yp, .ref zp]) ++ List.replicate (2 - (lg_sl ([.ref yp, .ref zp])).length) Slot.unset).toArray = ls at hl ⊢
  have hl : lv_has ls 2 [(0, .ref yp), (1, .ref zp)] := hl
  unfold F_X1_copyFrom at hF
  refine lv_aload_n hx hb dX1_copyFrom_0 rfl (lv_at hl 1 rfl) ?_
  refine va_get (D := (dC, dI)) (ci := 1) (v := .ref zpn) (C := RX1) (T := TX1) (N := 4) hx hb hts iX1_copyFrom_X1 hown hK hP 2 rfl rfl 0 (by decide) (hts _ kX1_copyFrom_1) (fun _ h9 => h9) rfl dX1_copyFrom_1 ?_
  refine lv_iconst (v := 0) hx hb dX1_copyFrom_4 (by decide) ?_
  refine lv_aload_n hx hb dX1_copyFrom_5 rfl (lv_at hl 0 rfl) ?_
  refine va_get (D := (dC, dI)) (ci := 1) (v := .ref ypn) (C := RX1) (T := TX1) (N := 4) hx hb hts iX1_copyFrom_X1 hown hK hP 0 rfl rfl 0 (by decide) (hts _ kX1_copyFrom_1) (fun _ h9 => h9) rfl dX1_copyFrom_6 ?_
  refine lv_iconst (v := 0) hx hb dX1_copyFrom_9 (by decide) ?_
  refine lv_iconst (v := 3) hx hb dX1_copyFrom_10 (by decide) ?_
  obtain ⟨v1, hv1, hF⟩ := lt_e hF
  refine x_copyi (ws' := [(yp, .inr (1, [.ref ypn, .int yNs, .long yRn, .int yOu])), (ypn, .inl (cyI, 3, .inl v1)), (zp, .inr (1, [.ref zpn, .int zNs, .long zRn, .int zOu])), (zpn, .inl (cyI, 3, .inl zNu))]) hx hb (hml.trans hl.1.symm) hown (hts _ kX1_copyFrom_2) (hts _ kX1_copyFrom_3) (hts _ kX1_copyFrom_4) (hts _ kX1_copyFrom_5) hK hP hD hS 3 1 0 rfl rfl rfl rfl (by decide : (0 : Int32).toNatClampNeg = 0 ∧ ¬ (0 : Int32) < 0) (by decide : (0 : Int32).toNatClampNeg = 0 ∧ ¬ (0 : Int32) < 0) (by decide : (3 : Int32).toNatClampNeg = 3 ∧ ¬ (3 : Int32) < 0) (Nat.le_of_ble_eq_true rfl) (Nat.le_of_ble_eq_true rfl) (fun _ => rfl) (Nat.le_of_ble_eq_true rfl) (Nat.le_of_ble_eq_true rfl) hv1 rfl dX1_copyFrom_11 (fun H locs hP hD hS => ?_)
  refine lv_aload_n hx hb dX1_copyFrom_14 rfl (lv_at hl 0 rfl) ?_
  refine lv_aload_n hx hb dX1_copyFrom_15 rfl (lv_at hl 1 rfl) ?_
  refine va_get (D := (dC, dI)) (ci := 1) (v := .int zNs) (C := RX1) (T := TX1) (N := 4) hx hb hts iX1_copyFrom_X1 hown hK hP 2 rfl rfl 1 (by decide) (hts _ kX1_copyFrom_6) (fun _ h9 => h9) rfl dX1_copyFrom_16 ?_
  refine x_put (D := (dC, dI)) (ci := 1) (v := .int zNs) (ty := .int) (C := RX1) (T := TX1) (N := 4) (ws' := [(yp, .inr (1, [.ref ypn, .int zNs, .long yRn, .int yOu])), (ypn, .inl (cyI, 3, .inl v1)), (zp, .inr (1, [.ref zpn, .int zNs, .long zRn, .int zOu])), (zpn, .inl (cyI, 3, .inl zNu))]) hx hb hts iX1_copyFrom_X1 tyX1 tyX1_ok nmX1 hown hK hP hD hS 0 rfl rfl 1 (by decide) (hts _ kX1_copyFrom_6) (fun _ h9 => h9) rfl (by decide +kernel) rfl rfl (Nat.le_of_ble_eq_true rfl) rfl dX1_copyFrom_19 (fun H locs hP hD hS => ?_)
  refine lv_aload_n hx hb dX1_copyFrom_22 rfl (lv_at hl 0 rfl) ?_
  refine lv_aload_n hx hb dX1_copyFrom_23 rfl (lv_at hl 1 rfl) ?_
  refine va_get (D := (dC, dI)) (ci := 1) (v := .long zRn) (C := RX1) (T := TX1) (N := 4) hx hb hts iX1_copyFrom_X1 hown hK hP 2 rfl rfl 2 (by decide) (hts _ kX1_copyFrom_7) (fun _ h9 => h9) rfl dX1_copyFrom_24 ?_
  refine x_put (D := (dC, dI)) (ci := 1) (v := .long zRn) (ty := .long) (C := RX1) (T := TX1) (N := 4) (ws' := [(yp, .inr (1, [.ref ypn, .int zNs, .long zRn, .int yOu])), (ypn, .inl (cyI, 3, .inl v1)), (zp, .inr (1, [.ref zpn, .int zNs, .long zRn, .int zOu])), (zpn, .inl (cyI, 3, .inl zNu))]) hx hb hts iX1_copyFrom_X1 tyX1 tyX1_ok nmX1 hown hK hP hD hS 0 rfl rfl 2 (by decide) (hts _ kX1_copyFrom_7) (fun _ h9 => h9) rfl (by decide +kernel) rfl rfl (Nat.le_of_ble_eq_true rfl) rfl dX1_copyFrom_27 (fun H locs hP hD hS => ?_)
  refine lv_aload_n hx hb dX1_copyFrom_30 rfl (lv_at hl 0 rfl) ?_
  refine lv_aload_n hx hb dX1_copyFrom_31 rfl (lv_at hl 1 rfl) ?_
  refine va_get (D := (dC, dI)) (ci := 1) (v := .int zOu) (C := RX1) (T := TX1) (N := 4) hx hb hts iX1_copyFrom_X1 hown hK hP 2 rfl rfl 3 (by decide) (hts _ kX1_copyFrom_8) (fun _ h9 => h9) rfl dX1_copyFrom_32 ?_
  refine x_put (D := (dC, dI)) (ci := 1) (v := .int zOu) (ty := .int) (C := RX1) (T := TX1) (N := 4) (ws' := [(yp, .inr (1, [.ref ypn, .int zNs, .long zRn, .int zOu])), (ypn, .inl (cyI, 3, .inl v1)), (zp, .inr (1, [.ref zpn, .int zNs, .long zRn, .int zOu])), (zpn, .inl (cyI, 3, .inl zNu))]) hx hb hts iX1_copyFrom_X1 tyX1 tyX1_ok nmX1 hown hK hP hD hS 0 rfl rfl 3 (by decide) (hts _ kX1_copyFrom_8) (fun _ h9 => h9) rfl (by decide +kernel) rfl rfl (Nat.le_of_ble_eq_true rfl) rfl dX1_copyFrom_35 (fun H locs hP hD hS => ?_)
  obtain rfl := some_e hF
  exact W.vret hx hb hr (fun t ht hW => ⟨⟨(), rfl, trivial, ⟨by rw [ht]; exact hP, va_K.moved hW.alike hK, hD⟩⟩, hS.F ht⟩) hS.2.2 dX1_copyFrom_38
def F_X1_disturbance (yNs : Int32) (yRn : Int64) : Option (Int64) := ob (F_X5_divideDown yRn 65536) (fun o1 => lt_ (α := Int64) ((2 * yNs.toInt64) + 1) (fun v2 => ob (F_X5_divideDown o1 v2) (fun o3 => some ((o1 - (v2 * o3)) - yNs.toInt64))))
theorem kX1_disturbance_1 : (Cond.fieldLink RX1 19 "SelfTuner$Plant" "random" "J") ∈ wsX1_disturbance := List.mem_of_getElem? (i := 1) rfl
theorem kX1_disturbance_2 : (Cond.constantLong RX1 61 (65536)) ∈ wsX1_disturbance := List.mem_of_getElem? (i := 2) rfl
theorem kX1_disturbance_3 : (Cond.constantLong RX1 63 (2)) ∈ wsX1_disturbance := List.mem_of_getElem? (i := 3) rfl
theorem kX1_disturbance_4 : (Cond.fieldLink RX1 15 "SelfTuner$Plant" "noise" "I") ∈ wsX1_disturbance := List.mem_of_getElem? (i := 4) rfl
theorem kX1_disturbance_5 : (Cond.static yX5_divideDown) ∈ wsX1_disturbance := List.mem_of_getElem? (i := 5) rfl
theorem kX1_disturbance_6 : (Cond.initialized RX5) ∈ wsX1_disturbance := List.mem_of_getElem? (i := 6) rfl
theorem iX1_disturbance_X1 : ∀ w ∈ wsX10, w ∈ wsX1_disturbance := fun w h => List.mem_cons_of_mem _ (List.mem_append_right _ h)
set_option maxHeartbeats 4000000 in
set_option maxRecDepth 100000 in
theorem c_X1_disturbance (l : Launch) (dC : Nat → ClassId) (dI : Nat → Nat → Nat) (cyI cyJ cyB cyS cyD : ClassId) (yp : Nat) (ypn : Nat) (sz : Nat) (yNs : Int32) (yRn : Int64) (yOu : Int32) (yNu : Nat → Int32) {out : Int64} (hF : F_X1_disturbance yNs yRn = some out) : Ml l yX1_disturbance wsX1_disturbance ({ frames := 2, cells := 0, slots := 0, locals := 48 } : Room) (dC, dI) [(cyI, .int), (cyJ, .long), (cyB, .byte), (cyS, .object "SelfTuner$State"), (cyD, .double)] sz [.ref yp] [(yp, .inr (1, [.ref ypn, .int yNs, .long yRn, .int yOu])), (ypn, .inl (cyI, 3, .inl yNu))] out [(yp, .inr (1, [.ref ypn, .int yNs, .long yRn, .int yOu])), (ypn, .inl (cyI, 3, .inl yNu))] := by
  refine Met.ofW (cc := cX1_disturbance) (maxL := 5) (ret := (some .long)) (by decide) rfl ?_
  intro p e s m args below meth c s₁ B hml hv
  obtain ⟨rfl, hN, hsz, hP, hK, hD0⟩ := hv
  have hx := B.exec
  have hb := B.bytes
  have hr := B.returns
  have hts := atoms_spec (ws := wsX1_disturbance) B.pre
  have hown : s.vm.findClass RX1 = some m.cls := findClass_of_methodNamed B.named
  have hlocks := B.notSynchronized
  subst hsz
  have hD := hD0.self (sz := s.heap.size)
  generalize hAe : va_A [(yp, .inr (1, [.ref ypn, .int yNs, .long yRn, .int yOu])), (ypn, .inl (cyI, 3, .inl yNu))] s.heap.size = A at hD ⊢
  have hA : ∀ q : Nat, s.heap.size ≤ q → A q := fun q h => by rw [← hAe]; exact Or.inr h
  have hS : va_S A s.heap s.heap [] := va_S.rf
  have hP : va_P (dC, dI) vwCl [(yp, .inr (1, [.ref ypn, .int yNs, .long yRn, .int yOu])), (ypn, .inl (cyI, 3, .inl yNu))] s.heap := hP
  have hl := lv_entry ([.ref yp]) (n := 5) (Nat.le_of_ble_eq_true rfl)
  rw [lg_entry_eq]
  generalize (lg_sl ([.ref yp]) ++ List.replicate (5 - (lg_sl ([.ref yp])).length) Slot.unset).toArray = ls at hl ⊢
  have hl : lv_has ls 5 [(0, .ref yp)] := hl
  unfold F_X1_disturbance at hF
  refine lv_aload_n hx hb dX1_disturbance_0 rfl (lv_at hl 0 rfl) ?_
  refine va_get (D := (dC, dI)) (ci := 1) (v := .long yRn) (C := RX1) (T := TX1) (N := 4) hx hb hts iX1_disturbance_X1 hown hK hP 0 rfl rfl 2 (by decide) (hts _ kX1_disturbance_1) (fun _ h9 => h9) rfl dX1_disturbance_1 ?_
  refine lv_ldc2 (v := 65536) hx hb hown (hts _ kX1_disturbance_2) dX1_disturbance_4 ?_
  obtain ⟨o1, ho1, hF⟩ := ob_e hF
  refine x_callzl (va_runSN (As := [.long yRn, .long 65536]) (rest := []) ⟨hx, hb, hml, hown, hts⟩ (c_X5_divideDown l yRn 65536 ho1) ⟨va_cnB 2 hts gX1_disturbance_X5_divideDown_n46 rfl rfl rfl (nm_X1_46 hN) (hts _ kX1_disturbance_6) (by decide +kernel) ⟨Nat.le_of_ble_eq_true rfl, Nat.le_of_ble_eq_true rfl⟩, hts _ kX1_disturbance_5, trivial⟩ ⟨true_blind, fun _ _ _ => ⟨rfl, trivial⟩⟩ rfl rfl hl.1 rfl (lv_room (Nat.le_of_ble_eq_true rfl)) dX1_disturbance_7 ⟨Nat.le_of_ble_eq_true rfl, Nat.le_of_ble_eq_true rfl⟩) ?_
  refine lv_lstore_n (lv' := [(1, .long o1), (0, .ref yp)]) hx hb dX1_disturbance_10 rfl hl (by decide) rfl (fun ls hl => ?_)
  refine lv_ldc2 (v := 2) hx hb hown (hts _ kX1_disturbance_3) dX1_disturbance_11 ?_
  refine lv_aload_n hx hb dX1_disturbance_14 rfl (lv_at hl 1 rfl) ?_
  refine va_get (D := (dC, dI)) (ci := 1) (v := .int yNs) (C := RX1) (T := TX1) (N := 4) hx hb hts iX1_disturbance_X1 hown hK hP 0 rfl rfl 1 (by decide) (hts _ kX1_disturbance_4) (fun _ h9 => h9) rfl dX1_disturbance_15 ?_
  refine lv_i2l (v := yNs.toInt64) hx hb dX1_disturbance_18 rfl ?_
  refine lv_lmul hx hb dX1_disturbance_19 ?_
  refine lv_lconst (v := 1) hx hb dX1_disturbance_20 (by decide) ?_
  refine lv_ladd hx hb dX1_disturbance_21 ?_
  obtain ⟨v2, hv2, hF⟩ := lt_e hF
  refine x_topl hv2 ?_
  refine lv_lstore_n (lv' := [(3, .long v2), (1, .long o1), (0, .ref yp)]) hx hb dX1_disturbance_22 rfl hl (by decide) rfl (fun ls hl => ?_)
  refine lv_lload_n hx hb dX1_disturbance_23 rfl (lv_at hl 1 rfl) ?_
  refine lv_lload_n hx hb dX1_disturbance_24 rfl (lv_at hl 0 rfl) ?_
  refine lv_lload_n hx hb dX1_disturbance_25 rfl (lv_at hl 1 rfl) ?_
  refine lv_lload_n hx hb dX1_disturbance_26 rfl (lv_at hl 0 rfl) ?_
  obtain ⟨o3, ho3, hF⟩ := ob_e hF
  refine x_callzl (va_runSN (As := [.long o1, .long v2]) (rest := [.long v2, .long o1]) ⟨hx, hb, hml, hown, hts⟩ (c_X5_divideDown l o1 v2 ho3) ⟨va_cnB 2 hts gX1_disturbance_X5_divideDown_n46 rfl rfl rfl (nm_X1_46 hN) (hts _ kX1_disturbance_6) (by decide +kernel) ⟨Nat.le_of_ble_eq_true rfl, Nat.le_of_ble_eq_true rfl⟩, hts _ kX1_disturbance_5, trivial⟩ ⟨true_blind, fun _ _ _ => ⟨rfl, trivial⟩⟩ rfl rfl hl.1 rfl (lv_room (Nat.le_of_ble_eq_true rfl)) dX1_disturbance_27 ⟨Nat.le_of_ble_eq_true rfl, Nat.le_of_ble_eq_true rfl⟩) ?_
  refine lv_lmul hx hb dX1_disturbance_30 ?_
  refine lv_lsub hx hb dX1_disturbance_31 ?_
  refine lv_aload_n hx hb dX1_disturbance_32 rfl (lv_at hl 2 rfl) ?_
  refine va_get (D := (dC, dI)) (ci := 1) (v := .int yNs) (C := RX1) (T := TX1) (N := 4) hx hb hts iX1_disturbance_X1 hown hK hP 0 rfl rfl 1 (by decide) (hts _ kX1_disturbance_4) (fun _ h9 => h9) rfl dX1_disturbance_33 ?_
  refine lv_i2l (v := yNs.toInt64) hx hb dX1_disturbance_36 rfl ?_
  refine lv_lsub hx hb dX1_disturbance_37 ?_
  obtain rfl := some_e hF
  exact W.lret (v := (o1 - (v2 * o3)) - yNs.toInt64) hx hb hr (fun t ht hW => ⟨⟨(o1 - (v2 * o3)) - yNs.toInt64, (), rfl, rfl, ⟨by rw [ht]; exact hP, va_K.moved hW.alike hK, hD⟩⟩, hS.F ht⟩) hS.2.2 dX1_disturbance_38
def F_X1_move (yNs : Int32) (yRn : Int64) (yOu : Int32) (yNu : Nat → Int32) (w1 : Int32) : Option (Int64 × Int32) := ob (F_J9_floorMod_f86c9 ((1103515245 * yRn) + 12345) 2147483648) (fun o1 => lt_ (α := Int64) (((((yNu 0).toInt64) * yOu.toInt64) + (((yNu 1).toInt64) * w1.toInt64)) + ((yNu 2).toInt64)) (fun v2 => ob (F_X5_divideDown v2 1000) (fun o3 => ob (F_X1_disturbance yNs o1) (fun o4 => ob (F_X5_bring (o3 + o4) (-2000) 2000) (fun o5 => some (o1, o5.toInt32))))))
theorem kX1_move_1 : (Cond.constantLong RX1 32 (1103515245)) ∈ wsX1_move := List.mem_of_getElem? (i := 1) rfl
theorem kX1_move_2 : (Cond.fieldLink RX1 19 "SelfTuner$Plant" "random" "J") ∈ wsX1_move := List.mem_of_getElem? (i := 2) rfl
theorem kX1_move_3 : (Cond.constantLong RX1 34 (12345)) ∈ wsX1_move := List.mem_of_getElem? (i := 3) rfl
theorem kX1_move_4 : (Cond.constantLong RX1 36 (2147483648)) ∈ wsX1_move := List.mem_of_getElem? (i := 4) rfl
theorem kX1_move_5 : (Cond.fieldLink RX1 9 "SelfTuner$Plant" "numbers" "[I") ∈ wsX1_move := List.mem_of_getElem? (i := 5) rfl
theorem kX1_move_6 : (Cond.fieldLink RX1 23 "SelfTuner$Plant" "output" "I") ∈ wsX1_move := List.mem_of_getElem? (i := 6) rfl
theorem kX1_move_7 : (Cond.constantLong RX1 44 (1000)) ∈ wsX1_move := List.mem_of_getElem? (i := 7) rfl
theorem kX1_move_8 : (Cond.constantLong RX1 53 (-2000)) ∈ wsX1_move := List.mem_of_getElem? (i := 8) rfl
theorem kX1_move_9 : (Cond.constantLong RX1 55 (2000)) ∈ wsX1_move := List.mem_of_getElem? (i := 9) rfl
theorem kX1_move_14 : (Cond.static yX5_divideDown) ∈ wsX1_move := List.mem_of_getElem? (i := 14) rfl
theorem kX1_move_15 : (Cond.initialized RX5) ∈ wsX1_move := List.mem_of_getElem? (i := 15) rfl
theorem kX1_move_28 : (Cond.static yX5_bring) ∈ wsX1_move := List.mem_of_getElem? (i := 28) rfl
theorem iX1_move_X1 : ∀ w ∈ wsX10, w ∈ wsX1_move := fun w h => List.mem_cons_of_mem _ (List.mem_append_right _ h)
set_option maxHeartbeats 4000000 in
set_option maxRecDepth 100000 in
theorem c_X1_move (l : Launch) (dC : Nat → ClassId) (dI : Nat → Nat → Nat) (cyI cyJ cyB cyS cyD : ClassId) (yp : Nat) (ypn : Nat) (sz : Nat) (yNs : Int32) (yRn : Int64) (yOu : Int32) (yNu : Nat → Int32) (w1 : Int32) {out : Int64 × Int32} (hF : F_X1_move yNs yRn yOu yNu w1 = some out) : Mv l yX1_move wsX1_move ({ frames := 3, cells := 0, slots := 0, locals := 72 } : Room) (dC, dI) [(cyI, .int), (cyJ, .long), (cyB, .byte), (cyS, .object "SelfTuner$State"), (cyD, .double)] sz [.ref yp, .int w1] [(yp, .inr (1, [.ref ypn, .int yNs, .long yRn, .int yOu])), (ypn, .inl (cyI, 3, .inl yNu))] [(yp, .inr (1, [.ref ypn, .int yNs, .long out.1, .int out.2])), (ypn, .inl (cyI, 3, .inl yNu))] := by
  refine Met.ofW (cc := cX1_move) (maxL := 4) (ret := none) (by decide) rfl ?_
  intro p e s m args below meth c s₁ B hml hv
  obtain ⟨rfl, hN, hsz, hP, hK, hD0⟩ := hv
  have hx := B.exec
  have hb := B.bytes
  have hr := B.returns
  have hts := atoms_spec (ws := wsX1_move) B.pre
  have hown : s.vm.findClass RX1 = some m.cls := findClass_of_methodNamed B.named
  have hlocks := B.notSynchronized
  subst hsz
  have hD := hD0.self (sz := s.heap.size)
  generalize hAe : va_A [(yp, .inr (1, [.ref ypn, .int yNs, .long yRn, .int yOu])), (ypn, .inl (cyI, 3, .inl yNu))] s.heap.size = A at hD ⊢
  have hA : ∀ q : Nat, s.heap.size ≤ q → A q := fun q h => by rw [← hAe]; exact Or.inr h
  have hS : va_S A s.heap s.heap [] := va_S.rf
  have hP : va_P (dC, dI) vwCl [(yp, .inr (1, [.ref ypn, .int yNs, .long yRn, .int yOu])), (ypn, .inl (cyI, 3, .inl yNu))] s.heap := hP
  have hl := lv_entry ([.ref yp, .int w1]) (n := 4) (Nat.le_of_ble_eq_true rfl)
  rw [lg_entry_eq]
  generalize (lg_sl ([.ref yp, .int w1]) ++ List.replicate (4 - (lg_sl ([.ref yp, .int w1])).length) Slot.unset).toArray = ls at hl ⊢
  have hl : lv_has ls 4 [(0, .ref yp), (1, .int w1)] := hl
  unfold F_X1_move at hF
  refine lv_aload_n hx hb dX1_move_0 rfl (lv_at hl 0 rfl) ?_
  refine lv_ldc2 (v := 1103515245) hx hb hown (hts _ kX1_move_1) dX1_move_1 ?_
  refine lv_aload_n hx hb dX1_move_4 rfl (lv_at hl 0 rfl) ?_
  refine va_get (D := (dC, dI)) (ci := 1) (v := .long yRn) (C := RX1) (T := TX1) (N := 4) hx hb hts iX1_move_X1 hown hK hP 0 rfl rfl 2 (by decide) (hts _ kX1_move_2) (fun _ h9 => h9) rfl dX1_move_5 ?_
  refine lv_lmul hx hb dX1_move_8 ?_
  refine lv_ldc2 (v := 12345) hx hb hown (hts _ kX1_move_3) dX1_move_9 ?_
  refine lv_ladd hx hb dX1_move_12 ?_
  refine lv_ldc2 (v := 2147483648) hx hb hown (hts _ kX1_move_4) dX1_move_13 ?_
  obtain ⟨o1, ho1, hF⟩ := ob_e hF
  refine x_callzl (va_runS (As := [.long ((1103515245 * yRn) + 12345), .long 2147483648]) (rest := [.ref yp]) ⟨hx, hb, hml, hown, hts⟩ (c_J9_floorMod_f86c9 l ((1103515245 * yRn) + 12345) 2147483648 ho1) (va_cwS 2 hts gX1_move_J9_floorMod_f86c9 rfl rfl rfl (by decide +kernel) ⟨Nat.le_of_ble_eq_true rfl, Nat.le_of_ble_eq_true rfl⟩) ⟨true_blind, fun _ _ _ => ⟨rfl, trivial⟩⟩ rfl rfl hl.1 rfl (lv_room (Nat.le_of_ble_eq_true rfl)) dX1_move_16 ⟨Nat.le_of_ble_eq_true rfl, Nat.le_of_ble_eq_true rfl⟩) ?_
  refine x_put (D := (dC, dI)) (ci := 1) (v := .long o1) (ty := .long) (C := RX1) (T := TX1) (N := 4) (ws' := [(yp, .inr (1, [.ref ypn, .int yNs, .long o1, .int yOu])), (ypn, .inl (cyI, 3, .inl yNu))]) hx hb hts iX1_move_X1 tyX1 tyX1_ok nmX1 hown hK hP hD hS 0 rfl rfl 2 (by decide) (hts _ kX1_move_2) (fun _ h9 => h9) rfl (by decide +kernel) rfl rfl (Nat.le_of_ble_eq_true rfl) rfl dX1_move_19 (fun H locs hP hD hS => ?_)
  refine lv_aload_n hx hb dX1_move_22 rfl (lv_at hl 0 rfl) ?_
  refine va_get (D := (dC, dI)) (ci := 1) (v := .ref ypn) (C := RX1) (T := TX1) (N := 4) hx hb hts iX1_move_X1 hown hK hP 0 rfl rfl 0 (by decide) (hts _ kX1_move_5) (fun _ h9 => h9) rfl dX1_move_23 ?_
  refine lv_iconst (v := 0) hx hb dX1_move_26 (by decide) ?_
  refine x_iald hx hb hK hP 1 0 rfl rfl (show (0 : Int32).toNatClampNeg = 0 by decide) (inbK (k := 0) (by decide) rfl) dX1_move_27 ?_
  refine lv_i2l (v := (yNu 0).toInt64) hx hb dX1_move_28 rfl ?_
  refine lv_aload_n hx hb dX1_move_29 rfl (lv_at hl 0 rfl) ?_
  refine va_get (D := (dC, dI)) (ci := 1) (v := .int yOu) (C := RX1) (T := TX1) (N := 4) hx hb hts iX1_move_X1 hown hK hP 0 rfl rfl 3 (by decide) (hts _ kX1_move_6) (fun _ h9 => h9) rfl dX1_move_30 ?_
  refine lv_i2l (v := yOu.toInt64) hx hb dX1_move_33 rfl ?_
  refine lv_lmul hx hb dX1_move_34 ?_
  refine lv_aload_n hx hb dX1_move_35 rfl (lv_at hl 0 rfl) ?_
  refine va_get (D := (dC, dI)) (ci := 1) (v := .ref ypn) (C := RX1) (T := TX1) (N := 4) hx hb hts iX1_move_X1 hown hK hP 0 rfl rfl 0 (by decide) (hts _ kX1_move_5) (fun _ h9 => h9) rfl dX1_move_36 ?_
  refine lv_iconst (v := 1) hx hb dX1_move_39 (by decide) ?_
  refine x_iald hx hb hK hP 1 0 rfl rfl (show (1 : Int32).toNatClampNeg = 1 by decide) (inbK (k := 1) (by decide) rfl) dX1_move_40 ?_
  refine lv_i2l (v := (yNu 1).toInt64) hx hb dX1_move_41 rfl ?_
  refine lv_iload_n hx hb dX1_move_42 rfl (lv_at hl 1 rfl) ?_
  refine lv_i2l (v := w1.toInt64) hx hb dX1_move_43 rfl ?_
  refine lv_lmul hx hb dX1_move_44 ?_
  refine lv_ladd hx hb dX1_move_45 ?_
  refine lv_aload_n hx hb dX1_move_46 rfl (lv_at hl 0 rfl) ?_
  refine va_get (D := (dC, dI)) (ci := 1) (v := .ref ypn) (C := RX1) (T := TX1) (N := 4) hx hb hts iX1_move_X1 hown hK hP 0 rfl rfl 0 (by decide) (hts _ kX1_move_5) (fun _ h9 => h9) rfl dX1_move_47 ?_
  refine lv_iconst (v := 2) hx hb dX1_move_50 (by decide) ?_
  refine x_iald hx hb hK hP 1 0 rfl rfl (show (2 : Int32).toNatClampNeg = 2 by decide) (inbK (k := 2) (by decide) rfl) dX1_move_51 ?_
  refine lv_i2l (v := (yNu 2).toInt64) hx hb dX1_move_52 rfl ?_
  refine lv_ladd hx hb dX1_move_53 ?_
  obtain ⟨v2, hv2, hF⟩ := lt_e hF
  refine x_topl hv2 ?_
  refine lv_lstore_n (lv' := [(2, .long v2), (0, .ref yp), (1, .int w1)]) hx hb dX1_move_54 rfl hl (by decide) rfl (fun ls hl => ?_)
  refine lv_aload_n hx hb dX1_move_55 rfl (lv_at hl 1 rfl) ?_
  refine lv_lload_n hx hb dX1_move_56 rfl (lv_at hl 0 rfl) ?_
  refine lv_ldc2 (v := 1000) hx hb hown (hts _ kX1_move_7) dX1_move_57 ?_
  obtain ⟨o3, ho3, hF⟩ := ob_e hF
  refine x_callzl (va_runSN (As := [.long v2, .long 1000]) (rest := [.ref yp]) ⟨hx, hb, hml, hown, hts⟩ (c_X5_divideDown l v2 1000 ho3) ⟨va_cnB 2 hts gX1_move_X5_divideDown_n46 rfl rfl rfl (nm_X1_46 hN) (hts _ kX1_move_15) (by decide +kernel) ⟨Nat.le_of_ble_eq_true rfl, Nat.le_of_ble_eq_true rfl⟩, hts _ kX1_move_14, trivial⟩ ⟨true_blind, fun _ _ _ => ⟨rfl, trivial⟩⟩ rfl rfl hl.1 rfl (lv_room (Nat.le_of_ble_eq_true rfl)) dX1_move_60 ⟨Nat.le_of_ble_eq_true rfl, Nat.le_of_ble_eq_true rfl⟩) ?_
  refine lv_aload_n hx hb dX1_move_63 rfl (lv_at hl 1 rfl) ?_
  obtain ⟨o4, ho4, hF⟩ := ob_e hF
  refine x_calll (wr := []) (ws' := [(yp, .inr (1, [.ref ypn, .int yNs, .long o1, .int yOu])), (ypn, .inl (cyI, 3, .inl yNu))]) (va_runV (As := []) (rest := [.long o3, .ref yp]) ⟨hx, hb, hml, hown, hts⟩ (c_X1_disturbance l dC dI cyI cyJ cyB cyS cyD yp ypn H.size yNs o1 yOu yNu ho4) (cwV 0 hts gX1_move_X1_disturbance rfl rfl rfl (by decide +kernel) ⟨Nat.le_of_ble_eq_true rfl, Nat.le_of_ble_eq_true rfl⟩) ⟨cPre_blind, va_recv hK hP (ci := 1) (q0 := 0) rfl rfl, x_pre hN hP hD hK [0, 1] rfl rfl⟩ rfl rfl hl.1 rfl (lv_room (Nat.le_of_ble_eq_true rfl)) dX1_move_64 ⟨Nat.le_of_ble_eq_true rfl, Nat.le_of_ble_eq_true rfl⟩) hP hD hS hA [0, 1] [] [0, 1] rfl rfl rfl (by decide) rfl rfl (fun H locs hP hD hS => ?_)
  refine lv_ladd hx hb dX1_move_67 ?_
  refine lv_ldc2 (v := (-2000)) hx hb hown (hts _ kX1_move_8) dX1_move_68 ?_
  refine lv_ldc2 (v := 2000) hx hb hown (hts _ kX1_move_9) dX1_move_71 ?_
  obtain ⟨o5, ho5, hF⟩ := ob_e hF
  refine x_callzl (va_runSN (As := [.long (o3 + o4), .long (-2000), .long 2000]) (rest := [.ref yp]) ⟨hx, hb, hml, hown, hts⟩ (c_X5_bring l (o3 + o4) (-2000) 2000 ho5) ⟨va_cnB 3 hts gX1_move_X5_bring_n57 rfl rfl rfl (nm_X1_57 hN) (hts _ kX1_move_15) (by decide +kernel) ⟨Nat.le_of_ble_eq_true rfl, Nat.le_of_ble_eq_true rfl⟩, hts _ kX1_move_28, trivial⟩ ⟨true_blind, fun _ _ _ => ⟨rfl, trivial⟩⟩ rfl rfl hl.1 rfl (lv_room (Nat.le_of_ble_eq_true rfl)) dX1_move_74 ⟨Nat.le_of_ble_eq_true rfl, Nat.le_of_ble_eq_true rfl⟩) ?_
  refine lv_l2i (v := o5.toInt32) hx hb dX1_move_77 rfl ?_
  refine x_put (D := (dC, dI)) (ci := 1) (v := .int o5.toInt32) (ty := .int) (C := RX1) (T := TX1) (N := 4) (ws' := [(yp, .inr (1, [.ref ypn, .int yNs, .long o1, .int o5.toInt32])), (ypn, .inl (cyI, 3, .inl yNu))]) hx hb hts iX1_move_X1 tyX1 tyX1_ok nmX1 hown hK hP hD hS 0 rfl rfl 3 (by decide) (hts _ kX1_move_6) (fun _ h9 => h9) rfl (by decide +kernel) rfl rfl (Nat.le_of_ble_eq_true rfl) rfl dX1_move_78 (fun H locs hP hD hS => ?_)
  obtain rfl := some_e hF
  exact W.vret hx hb hr (fun t ht hW => ⟨⟨(), rfl, trivial, ⟨by rw [ht]; exact hP, va_K.moved hW.alike hK, hD⟩⟩, hS.F ht⟩) hS.2.2 dX1_move_81
def F_X1_mixedInto_5 (yNu : Nat → Int32) : Nat → ((Int64) → Option (Int64)) → Int64 → Int32 → Option (Int64)
  | 0, _, _, _ => none
  | n1 + 1, K2, v3, v4 => if (3 : Int32) ≤ v4 then (K2 v3) else (ck (inb v4 3) (ob (F_X5_mixed v3 ((yNu v4.toNatClampNeg).toInt64)) (fun o7 => lt_ (α := Int32) (v4 + 1) (fun v8 => F_X1_mixedInto_5 yNu n1 K2 o7 v8))))
def F_X1_mixedInto (yNs : Int32) (yRn : Int64) (yOu : Int32) (yNu : Nat → Int32) (w1 : Int64) : Option (Int64) := F_X1_mixedInto_5 yNu 1000 (fun x9 => ob (F_X5_mixed x9 yNs.toInt64) (fun o10 => ob (F_X5_mixed o10 yRn) (fun o11 => ob (F_X5_mixed o11 yOu.toInt64) (fun o12 => some o12)))) w1 0
theorem kX1_mixedInto_1 : (Cond.fieldLink RX1 9 "SelfTuner$Plant" "numbers" "[I") ∈ wsX1_mixedInto := List.mem_of_getElem? (i := 1) rfl
theorem kX1_mixedInto_2 : (Cond.fieldLink RX1 15 "SelfTuner$Plant" "noise" "I") ∈ wsX1_mixedInto := List.mem_of_getElem? (i := 2) rfl
theorem kX1_mixedInto_3 : (Cond.fieldLink RX1 19 "SelfTuner$Plant" "random" "J") ∈ wsX1_mixedInto := List.mem_of_getElem? (i := 3) rfl
theorem kX1_mixedInto_4 : (Cond.fieldLink RX1 23 "SelfTuner$Plant" "output" "I") ∈ wsX1_mixedInto := List.mem_of_getElem? (i := 4) rfl
theorem kX1_mixedInto_5 : (Cond.static yX5_mixed) ∈ wsX1_mixedInto := List.mem_of_getElem? (i := 5) rfl
theorem kX1_mixedInto_6 : (Cond.initialized RX5) ∈ wsX1_mixedInto := List.mem_of_getElem? (i := 6) rfl
theorem iX1_mixedInto_X1 : ∀ w ∈ wsX10, w ∈ wsX1_mixedInto := fun w h => List.mem_cons_of_mem _ (List.mem_append_right _ h)
set_option maxHeartbeats 4000000 in
set_option maxRecDepth 100000 in
theorem c_X1_mixedInto (l : Launch) (dC : Nat → ClassId) (dI : Nat → Nat → Nat) (cyI cyJ cyB cyS cyD : ClassId) (yp : Nat) (ypn : Nat) (sz : Nat) (yNs : Int32) (yRn : Int64) (yOu : Int32) (yNu : Nat → Int32) (w1 : Int64) {out : Int64} (hF : F_X1_mixedInto yNs yRn yOu yNu w1 = some out) : Ml l yX1_mixedInto wsX1_mixedInto ({ frames := 1, cells := 0, slots := 0, locals := 23 } : Room) (dC, dI) [(cyI, .int), (cyJ, .long), (cyB, .byte), (cyS, .object "SelfTuner$State"), (cyD, .double)] sz [.ref yp, .long w1] [(yp, .inr (1, [.ref ypn, .int yNs, .long yRn, .int yOu])), (ypn, .inl (cyI, 3, .inl yNu))] out [(yp, .inr (1, [.ref ypn, .int yNs, .long yRn, .int yOu])), (ypn, .inl (cyI, 3, .inl yNu))] := by
  refine Met.ofW (cc := cX1_mixedInto) (maxL := 6) (ret := (some .long)) (by decide) rfl ?_
  intro p e s m args below meth c s₁ B hml hv
  obtain ⟨rfl, hN, hsz, hP, hK, hD0⟩ := hv
  have hx := B.exec
  have hb := B.bytes
  have hr := B.returns
  have hts := atoms_spec (ws := wsX1_mixedInto) B.pre
  have hown : s.vm.findClass RX1 = some m.cls := findClass_of_methodNamed B.named
  have hlocks := B.notSynchronized
  subst hsz
  have hD := hD0.self (sz := s.heap.size)
  generalize hAe : va_A [(yp, .inr (1, [.ref ypn, .int yNs, .long yRn, .int yOu])), (ypn, .inl (cyI, 3, .inl yNu))] s.heap.size = A at hD ⊢
  have hA : ∀ q : Nat, s.heap.size ≤ q → A q := fun q h => by rw [← hAe]; exact Or.inr h
  have hS : va_S A s.heap s.heap [] := va_S.rf
  have hP : va_P (dC, dI) vwCl [(yp, .inr (1, [.ref ypn, .int yNs, .long yRn, .int yOu])), (ypn, .inl (cyI, 3, .inl yNu))] s.heap := hP
  have hl := lv_entry ([.ref yp, .long w1]) (n := 6) (Nat.le_of_ble_eq_true rfl)
  rw [lg_entry_eq]
  generalize (lg_sl ([.ref yp, .long w1]) ++ List.replicate (6 - (lg_sl ([.ref yp, .long w1])).length) Slot.unset).toArray = ls at hl ⊢
  have hl : lv_has ls 6 [(0, .ref yp), (1, .long w1)] := hl
  unfold F_X1_mixedInto at hF
  refine lv_lload_n hx hb dX1_mixedInto_0 rfl (lv_at hl 1 rfl) ?_
  refine lv_lstore_n (lv' := [(3, .long w1), (0, .ref yp), (1, .long w1)]) hx hb dX1_mixedInto_1 rfl hl (by decide) rfl (fun ls hl => ?_)
  refine lv_iconst (v := 0) hx hb dX1_mixedInto_2 (by decide) ?_
  refine lv_istore (lv' := [(5, .int 0), (3, .long w1), (0, .ref yp), (1, .long w1)]) hx hb dX1_mixedInto_3 hl (by decide) rfl (fun ls hl => ?_)
  have Ln1 : ∀ (n1 : Nat) (K2 : (Int64) → Option (Int64)) (v3 : Int64) (v4 : Int32) (H : Heap) (locs : List Loc) (ls : Array Slot), F_X1_mixedInto_5 yNu n1 K2 v3 v4 = some out → va_P (dC, dI) vwCl [(yp, .inr (1, [.ref ypn, .int yNs, .long yRn, .int yOu])), (ypn, .inl (cyI, 3, .inl yNu))] H → va_D A [(yp, .inr (1, [.ref ypn, .int yNs, .long yRn, .int yOu])), (ypn, .inl (cyI, 3, .inl yNu))] → va_S A s.heap H locs → lv_has ls 6 [(0, .ref yp), (3, .long v3), (5, .int v4)] → (∀ (x9 : Int64) (H : Heap) (locs : List Loc) (ls : Array Slot), K2 x9 = some out → va_P (dC, dI) vwCl [(yp, .inr (1, [.ref ypn, .int yNs, .long yRn, .int yOu])), (ypn, .inl (cyI, 3, .inl yNu))] H → va_D A [(yp, .inr (1, [.ref ypn, .int yNs, .long yRn, .int yOu])), (ypn, .inl (cyI, 3, .inl yNu))] → va_S A s.heap H locs → lv_has ls 6 [(0, .ref yp), (3, .long x9)] → W p l e (headSpec wsX1_mixedInto ({ frames := 1, cells := 0, slots := 0, locals := 23 } : Room)).room s m ([.ref yp, .long w1] : List Value).toArray below meth c H locs 0 0 (MQ below (va_Ql (fun (r' : Int64) (_ : Unit) => r' = out) (cPost (dC, dI) [(cyI, .int), (cyJ, .long), (cyB, .byte), (cyS, .object "SelfTuner$State"), (cyD, .double)] [(yp, .inr (1, [.ref ypn, .int yNs, .long yRn, .int yOu])), (ypn, .inl (cyI, 3, .inl yNu))] A) A) ([.ref yp, .long w1] : List Value).toArray s 0 0 A) (F0 m 30 ls [])) → W p l e (headSpec wsX1_mixedInto ({ frames := 1, cells := 0, slots := 0, locals := 23 } : Room)).room s m ([.ref yp, .long w1] : List Value).toArray below meth c H locs 0 0 (MQ below (va_Ql (fun (r' : Int64) (_ : Unit) => r' = out) (cPost (dC, dI) [(cyI, .int), (cyJ, .long), (cyB, .byte), (cyS, .object "SelfTuner$State"), (cyD, .double)] [(yp, .inr (1, [.ref ypn, .int yNs, .long yRn, .int yOu])), (ypn, .inl (cyI, 3, .inl yNu))] A) A) ([.ref yp, .long w1] : List Value).toArray s 0 0 A) (F0 m 5 ls []) := by
    intro n1
    induction n1 with
    | zero => intro K2 v3 v4 H locs ls hF; exact no_e (show none = some out from hF)
    | succ n1 ihn1 =>
      intro K2 v3 v4 H locs ls hF hP hD hS hl kxn1
      rw [F_X1_mixedInto_5] at hF
      refine lv_iload hx hb dX1_mixedInto_5 (lv_at hl 2 rfl) ?_
      refine lv_iconst (v := 3) hx hb dX1_mixedInto_7 (by decide) ?_
      refine lv_icmp_ge (tgt := 30) hx hb dX1_mixedInto_8 (by decide) (fun c5 => ?_) (fun c5 => ?_)
      · have hF := ite_t hF c5
        exact kxn1 _ _ _ _ hF hP hD hS (lv_sub hl [0, 1] rfl)
      · have hF := ite_f hF c5
        refine lv_lload_n hx hb dX1_mixedInto_11 rfl (lv_at hl 1 rfl) ?_
        refine lv_aload_n hx hb dX1_mixedInto_12 rfl (lv_at hl 0 rfl) ?_
        refine va_get (D := (dC, dI)) (ci := 1) (v := .ref ypn) (C := RX1) (T := TX1) (N := 4) hx hb hts iX1_mixedInto_X1 hown hK hP 0 rfl rfl 0 (by decide) (hts _ kX1_mixedInto_1) (fun _ h9 => h9) rfl dX1_mixedInto_13 ?_
        refine lv_iload hx hb dX1_mixedInto_16 (lv_at hl 2 rfl) ?_
        obtain ⟨g6, hF⟩ := ck_e hF
        refine x_iald hx hb hK hP 1 0 rfl rfl rfl g6 dX1_mixedInto_18 ?_
        refine lv_i2l (v := (yNu v4.toNatClampNeg).toInt64) hx hb dX1_mixedInto_19 rfl ?_
        obtain ⟨o7, ho7, hF⟩ := ob_e hF
        refine x_callzl (va_runSN (As := [.long v3, .long ((yNu v4.toNatClampNeg).toInt64)]) (rest := []) ⟨hx, hb, hml, hown, hts⟩ (c_X5_mixed l v3 ((yNu v4.toNatClampNeg).toInt64) ho7) ⟨va_cnB 2 hts gX1_mixedInto_X5_mixed_n65 rfl rfl rfl (nm_X1_65 hN) (hts _ kX1_mixedInto_6) (by decide +kernel) ⟨Nat.le_of_ble_eq_true rfl, Nat.le_of_ble_eq_true rfl⟩, hts _ kX1_mixedInto_5, trivial⟩ ⟨true_blind, fun _ _ _ => ⟨rfl, trivial⟩⟩ rfl rfl hl.1 rfl (lv_room (Nat.le_of_ble_eq_true rfl)) dX1_mixedInto_20 ⟨Nat.le_of_ble_eq_true rfl, Nat.le_of_ble_eq_true rfl⟩) ?_
        refine lv_lstore_n (lv' := [(3, .long o7), (0, .ref yp), (5, .int v4)]) hx hb dX1_mixedInto_23 rfl hl (by decide) rfl (fun ls hl => ?_)
        obtain ⟨v8, hv8, hF⟩ := lt_e hF
        refine lv_iinc (v := v8) (lv' := [(5, .int v8), (3, .long o7), (0, .ref yp)]) hx hb dX1_mixedInto_24 hl (k := 2) rfl (by rw [hv8]; rfl) (by decide) rfl (fun ls hl => ?_)
        refine lv_goto (tgt := 5) hx hb dX1_mixedInto_27 (by decide) ?_
        exact ihn1 _ _ _ _ _ _ hF hP hD hS (lv_sub hl [2, 1, 0] rfl) kxn1
  refine Ln1 _ _ _ _ _ _ _ hF hP hD hS (lv_sub hl [2, 1, 0] rfl) (fun x9 H locs ls hF hP hD hS hl => ?_)
  refine lv_lload_n hx hb dX1_mixedInto_30 rfl (lv_at hl 1 rfl) ?_
  refine lv_aload_n hx hb dX1_mixedInto_31 rfl (lv_at hl 0 rfl) ?_
  refine va_get (D := (dC, dI)) (ci := 1) (v := .int yNs) (C := RX1) (T := TX1) (N := 4) hx hb hts iX1_mixedInto_X1 hown hK hP 0 rfl rfl 1 (by decide) (hts _ kX1_mixedInto_2) (fun _ h9 => h9) rfl dX1_mixedInto_32 ?_
  refine lv_i2l (v := yNs.toInt64) hx hb dX1_mixedInto_35 rfl ?_
  obtain ⟨o10, ho10, hF⟩ := ob_e hF
  refine x_callzl (va_runSN (As := [.long x9, .long yNs.toInt64]) (rest := []) ⟨hx, hb, hml, hown, hts⟩ (c_X5_mixed l x9 yNs.toInt64 ho10) ⟨va_cnB 2 hts gX1_mixedInto_X5_mixed_n65 rfl rfl rfl (nm_X1_65 hN) (hts _ kX1_mixedInto_6) (by decide +kernel) ⟨Nat.le_of_ble_eq_true rfl, Nat.le_of_ble_eq_true rfl⟩, hts _ kX1_mixedInto_5, trivial⟩ ⟨true_blind, fun _ _ _ => ⟨rfl, trivial⟩⟩ rfl rfl hl.1 rfl (lv_room (Nat.le_of_ble_eq_true rfl)) dX1_mixedInto_36 ⟨Nat.le_of_ble_eq_true rfl, Nat.le_of_ble_eq_true rfl⟩) ?_
  refine lv_aload_n hx hb dX1_mixedInto_39 rfl (lv_at hl 0 rfl) ?_
  refine va_get (D := (dC, dI)) (ci := 1) (v := .long yRn) (C := RX1) (T := TX1) (N := 4) hx hb hts iX1_mixedInto_X1 hown hK hP 0 rfl rfl 2 (by decide) (hts _ kX1_mixedInto_3) (fun _ h9 => h9) rfl dX1_mixedInto_40 ?_
  obtain ⟨o11, ho11, hF⟩ := ob_e hF
  refine x_callzl (va_runSN (As := [.long o10, .long yRn]) (rest := []) ⟨hx, hb, hml, hown, hts⟩ (c_X5_mixed l o10 yRn ho11) ⟨va_cnB 2 hts gX1_mixedInto_X5_mixed_n65 rfl rfl rfl (nm_X1_65 hN) (hts _ kX1_mixedInto_6) (by decide +kernel) ⟨Nat.le_of_ble_eq_true rfl, Nat.le_of_ble_eq_true rfl⟩, hts _ kX1_mixedInto_5, trivial⟩ ⟨true_blind, fun _ _ _ => ⟨rfl, trivial⟩⟩ rfl rfl hl.1 rfl (lv_room (Nat.le_of_ble_eq_true rfl)) dX1_mixedInto_43 ⟨Nat.le_of_ble_eq_true rfl, Nat.le_of_ble_eq_true rfl⟩) ?_
  refine lv_aload_n hx hb dX1_mixedInto_46 rfl (lv_at hl 0 rfl) ?_
  refine va_get (D := (dC, dI)) (ci := 1) (v := .int yOu) (C := RX1) (T := TX1) (N := 4) hx hb hts iX1_mixedInto_X1 hown hK hP 0 rfl rfl 3 (by decide) (hts _ kX1_mixedInto_4) (fun _ h9 => h9) rfl dX1_mixedInto_47 ?_
  refine lv_i2l (v := yOu.toInt64) hx hb dX1_mixedInto_50 rfl ?_
  obtain ⟨o12, ho12, hF⟩ := ob_e hF
  refine x_callzl (va_runSN (As := [.long o11, .long yOu.toInt64]) (rest := []) ⟨hx, hb, hml, hown, hts⟩ (c_X5_mixed l o11 yOu.toInt64 ho12) ⟨va_cnB 2 hts gX1_mixedInto_X5_mixed_n65 rfl rfl rfl (nm_X1_65 hN) (hts _ kX1_mixedInto_6) (by decide +kernel) ⟨Nat.le_of_ble_eq_true rfl, Nat.le_of_ble_eq_true rfl⟩, hts _ kX1_mixedInto_5, trivial⟩ ⟨true_blind, fun _ _ _ => ⟨rfl, trivial⟩⟩ rfl rfl hl.1 rfl (lv_room (Nat.le_of_ble_eq_true rfl)) dX1_mixedInto_51 ⟨Nat.le_of_ble_eq_true rfl, Nat.le_of_ble_eq_true rfl⟩) ?_
  obtain rfl := some_e hF
  exact W.lret (v := o12) hx hb hr (fun t ht hW => ⟨⟨o12, (), rfl, rfl, ⟨by rw [ht]; exact hP, va_K.moved hW.alike hK, hD⟩⟩, hS.F ht⟩) hS.2.2 dX1_mixedInto_54
def F_X2_addIfRoom (yTl : Int32) (yTb : Nat → Int32) (w1 : Int32) : Option (Int32 × Int32 × (Nat → Int32)) := if (yTl : Int32) < 120 then (ck (inb yTl 120) (lt_ (α := Nat → Int32) (upd yTb yTl.toNatClampNeg (vp_nar .byte w1.toInt8.toInt32)) (fun v3 => lt_ (α := Int32) (yTl + 1) (fun v4 => some (1, v4, v3))))) else (some (0, yTl, yTb))
theorem kX2_addIfRoom_1 : (Cond.fieldLink RX2 15 "SelfTuner$SampleText" "length" "I") ∈ wsX2_addIfRoom := List.mem_of_getElem? (i := 1) rfl
theorem kX2_addIfRoom_2 : (Cond.fieldLink RX2 9 "SelfTuner$SampleText" "bytes" "[B") ∈ wsX2_addIfRoom := List.mem_of_getElem? (i := 2) rfl
theorem iX2_addIfRoom_X2 : ∀ w ∈ wsX20, w ∈ wsX2_addIfRoom := fun w h => List.mem_cons_of_mem _ (List.mem_append_right _ h)
set_option maxHeartbeats 4000000 in
set_option maxRecDepth 100000 in
theorem c_X2_addIfRoom (l : Launch) (dC : Nat → ClassId) (dI : Nat → Nat → Nat) (cyI cyJ cyB cyS cyD : ClassId) (yt : Nat) (ytb : Nat) (ytn : Nat) (sz : Nat) (yTl : Int32) (yTs : Int32) (yTp : Int32) (yTb : Nat → Int32) (yTn : Nat → Int32) (w1 : Int32) {out : Int32 × Int32 × (Nat → Int32)} (hF : F_X2_addIfRoom yTl yTb w1 = some out) : Mi l yX2_addIfRoom wsX2_addIfRoom ({ frames := 0, cells := 0, slots := 0, locals := 0 } : Room) (dC, dI) [(cyI, .int), (cyJ, .long), (cyB, .byte), (cyS, .object "SelfTuner$State"), (cyD, .double)] sz [.ref yt, .int w1] [(yt, .inr (2, [.ref ytb, .int yTl, .ref ytn, .int yTs, .int yTp])), (ytb, .inl (cyB, 120, .inl yTb)), (ytn, .inl (cyI, 60, .inl yTn))] out.1 [(yt, .inr (2, [.ref ytb, .int out.2.1, .ref ytn, .int yTs, .int yTp])), (ytb, .inl (cyB, 120, .inl out.2.2)), (ytn, .inl (cyI, 60, .inl yTn))] := by
  refine Met.ofW (cc := cX2_addIfRoom) (maxL := 2) (ret := (some .boolean)) (by decide) rfl ?_
  intro p e s m args below meth c s₁ B hml hv
  obtain ⟨rfl, hN, hsz, hP, hK, hD0⟩ := hv
  have hx := B.exec
  have hb := B.bytes
  have hr := B.returns
  have hts := atoms_spec (ws := wsX2_addIfRoom) B.pre
  have hown : s.vm.findClass RX2 = some m.cls := findClass_of_methodNamed B.named
  have hlocks := B.notSynchronized
  subst hsz
  have hD := hD0.self (sz := s.heap.size)
  generalize hAe : va_A [(yt, .inr (2, [.ref ytb, .int yTl, .ref ytn, .int yTs, .int yTp])), (ytb, .inl (cyB, 120, .inl yTb)), (ytn, .inl (cyI, 60, .inl yTn))] s.heap.size = A at hD ⊢
  have hA : ∀ q : Nat, s.heap.size ≤ q → A q := fun q h => by rw [← hAe]; exact Or.inr h
  have hS : va_S A s.heap s.heap [] := va_S.rf
  have hP : va_P (dC, dI) vwCl [(yt, .inr (2, [.ref ytb, .int yTl, .ref ytn, .int yTs, .int yTp])), (ytb, .inl (cyB, 120, .inl yTb)), (ytn, .inl (cyI, 60, .inl yTn))] s.heap := hP
  have hl := lv_entry ([.ref yt, .int w1]) (n := 2) (Nat.le_of_ble_eq_true rfl)
  rw [lg_entry_eq]
  generalize (lg_sl ([.ref yt, .int w1]) ++ List.replicate (2 - (lg_sl ([.ref yt, .int w1])).length) Slot.unset).toArray = ls at hl ⊢
  have hl : lv_has ls 2 [(0, .ref yt), (1, .int w1)] := hl
  unfold F_X2_addIfRoom at hF
  refine lv_aload_n hx hb dX2_addIfRoom_0 rfl (lv_at hl 0 rfl) ?_
  refine va_get (D := (dC, dI)) (ci := 2) (v := .int yTl) (C := RX2) (T := TX2) (N := 5) hx hb hts iX2_addIfRoom_X2 hown hK hP 0 rfl rfl 1 (by decide) (hts _ kX2_addIfRoom_1) (fun _ h9 => h9) rfl dX2_addIfRoom_1 ?_
  refine lv_bipush (v := 120) hx hb dX2_addIfRoom_4 (by decide) ?_
  refine lv_icmp_lt (tgt := 11) hx hb dX2_addIfRoom_6 (by decide) (fun c1 => ?_) (fun c1 => ?_)
  · have hF := ite_t hF c1
    refine lv_aload_n hx hb dX2_addIfRoom_11 rfl (lv_at hl 0 rfl) ?_
    refine va_get (D := (dC, dI)) (ci := 2) (v := .ref ytb) (C := RX2) (T := TX2) (N := 5) hx hb hts iX2_addIfRoom_X2 hown hK hP 0 rfl rfl 0 (by decide) (hts _ kX2_addIfRoom_2) (fun _ h9 => h9) rfl dX2_addIfRoom_12 ?_
    refine lv_aload_n hx hb dX2_addIfRoom_15 rfl (lv_at hl 0 rfl) ?_
    refine va_get (D := (dC, dI)) (ci := 2) (v := .int yTl) (C := RX2) (T := TX2) (N := 5) hx hb hts iX2_addIfRoom_X2 hown hK hP 0 rfl rfl 1 (by decide) (hts _ kX2_addIfRoom_1) (fun _ h9 => h9) rfl dX2_addIfRoom_16 ?_
    refine lv_iload_n hx hb dX2_addIfRoom_19 rfl (lv_at hl 1 rfl) ?_
    refine lv_i2b (v := w1.toInt8.toInt32) hx hb dX2_addIfRoom_20 rfl ?_
    obtain ⟨g2, hF⟩ := ck_e hF
    obtain ⟨v3, hv3, hF⟩ := lt_e hF
    refine x_bast (ws' := [(yt, .inr (2, [.ref ytb, .int yTl, .ref ytn, .int yTs, .int yTp])), (ytb, .inl (cyB, 120, .inl v3)), (ytn, .inl (cyI, 60, .inl yTn))]) hx hb hK hP hD hS 1 2 rfl rfl rfl g2 hv3 rfl dX2_addIfRoom_21 (fun H locs hP hD hS => ?_)
    refine lv_aload_n hx hb dX2_addIfRoom_22 rfl (lv_at hl 0 rfl) ?_
    refine lv_dup hx hb dX2_addIfRoom_23 rfl ?_
    refine va_get (D := (dC, dI)) (ci := 2) (v := .int yTl) (C := RX2) (T := TX2) (N := 5) hx hb hts iX2_addIfRoom_X2 hown hK hP 0 rfl rfl 1 (by decide) (hts _ kX2_addIfRoom_1) (fun _ h9 => h9) rfl dX2_addIfRoom_24 ?_
    refine lv_iconst (v := 1) hx hb dX2_addIfRoom_27 (by decide) ?_
    refine lv_iadd hx hb dX2_addIfRoom_28 ?_
    obtain ⟨v4, hv4, hF⟩ := lt_e hF
    refine x_topi hv4 ?_
    refine x_put (D := (dC, dI)) (ci := 2) (v := .int v4) (ty := .int) (C := RX2) (T := TX2) (N := 5) (ws' := [(yt, .inr (2, [.ref ytb, .int v4, .ref ytn, .int yTs, .int yTp])), (ytb, .inl (cyB, 120, .inl v3)), (ytn, .inl (cyI, 60, .inl yTn))]) hx hb hts iX2_addIfRoom_X2 tyX2 tyX2_ok nmX2 hown hK hP hD hS 0 rfl rfl 1 (by decide) (hts _ kX2_addIfRoom_1) (fun _ h9 => h9) rfl (by decide +kernel) rfl rfl (Nat.le_of_ble_eq_true rfl) rfl dX2_addIfRoom_29 (fun H locs hP hD hS => ?_)
    refine lv_iconst (v := 1) hx hb dX2_addIfRoom_32 (by decide) ?_
    obtain rfl := some_e hF
    exact W.zret (v := 1) hx hb hr rfl (fun t ht hW => ⟨⟨1, (), rfl, rfl, ⟨by rw [ht]; exact hP, va_K.moved hW.alike hK, hD⟩⟩, hS.F ht⟩) hS.2.2 dX2_addIfRoom_33
  · have hF := ite_f hF c1
    refine lv_iconst (v := 0) hx hb dX2_addIfRoom_9 (by decide) ?_
    obtain rfl := some_e hF
    exact W.zret (v := 0) hx hb hr rfl (fun t ht hW => ⟨⟨0, (), rfl, rfl, ⟨by rw [ht]; exact hP, va_K.moved hW.alike hK, hD⟩⟩, hS.F ht⟩) hS.2.2 dX2_addIfRoom_10
def F_X2_next (yTl : Int32) (yTp : Int32) (yTb : Nat → Int32) : Option (Int32) := if (yTl : Int32) ≤ yTp then (some (-1)) else (ck (inb yTp 120) (some (yTb yTp.toNatClampNeg)))
theorem kX2_next_1 : (Cond.fieldLink RX2 26 "SelfTuner$SampleText" "position" "I") ∈ wsX2_next := List.mem_of_getElem? (i := 1) rfl
theorem kX2_next_2 : (Cond.fieldLink RX2 15 "SelfTuner$SampleText" "length" "I") ∈ wsX2_next := List.mem_of_getElem? (i := 2) rfl
theorem kX2_next_3 : (Cond.fieldLink RX2 9 "SelfTuner$SampleText" "bytes" "[B") ∈ wsX2_next := List.mem_of_getElem? (i := 3) rfl
theorem iX2_next_X2 : ∀ w ∈ wsX20, w ∈ wsX2_next := fun w h => List.mem_cons_of_mem _ (List.mem_append_right _ h)
set_option maxHeartbeats 4000000 in
set_option maxRecDepth 100000 in
theorem c_X2_next (l : Launch) (dC : Nat → ClassId) (dI : Nat → Nat → Nat) (cyI cyJ cyB cyS cyD : ClassId) (yt : Nat) (ytb : Nat) (ytn : Nat) (sz : Nat) (yTl : Int32) (yTs : Int32) (yTp : Int32) (yTb : Nat → Int32) (yTn : Nat → Int32) {out : Int32} (hF : F_X2_next yTl yTp yTb = some out) : Mi l yX2_next wsX2_next ({ frames := 0, cells := 0, slots := 0, locals := 0 } : Room) (dC, dI) [(cyI, .int), (cyJ, .long), (cyB, .byte), (cyS, .object "SelfTuner$State"), (cyD, .double)] sz [.ref yt] [(yt, .inr (2, [.ref ytb, .int yTl, .ref ytn, .int yTs, .int yTp])), (ytb, .inl (cyB, 120, .inl yTb)), (ytn, .inl (cyI, 60, .inl yTn))] out [(yt, .inr (2, [.ref ytb, .int yTl, .ref ytn, .int yTs, .int yTp])), (ytb, .inl (cyB, 120, .inl yTb)), (ytn, .inl (cyI, 60, .inl yTn))] := by
  refine Met.ofW (cc := cX2_next) (maxL := 1) (ret := (some .int)) (by decide) rfl ?_
  intro p e s m args below meth c s₁ B hml hv
  obtain ⟨rfl, hN, hsz, hP, hK, hD0⟩ := hv
  have hx := B.exec
  have hb := B.bytes
  have hr := B.returns
  have hts := atoms_spec (ws := wsX2_next) B.pre
  have hown : s.vm.findClass RX2 = some m.cls := findClass_of_methodNamed B.named
  have hlocks := B.notSynchronized
  subst hsz
  have hD := hD0.self (sz := s.heap.size)
  generalize hAe : va_A [(yt, .inr (2, [.ref ytb, .int yTl, .ref ytn, .int yTs, .int yTp])), (ytb, .inl (cyB, 120, .inl yTb)), (ytn, .inl (cyI, 60, .inl yTn))] s.heap.size = A at hD ⊢
  have hA : ∀ q : Nat, s.heap.size ≤ q → A q := fun q h => by rw [← hAe]; exact Or.inr h
  have hS : va_S A s.heap s.heap [] := va_S.rf
  have hP : va_P (dC, dI) vwCl [(yt, .inr (2, [.ref ytb, .int yTl, .ref ytn, .int yTs, .int yTp])), (ytb, .inl (cyB, 120, .inl yTb)), (ytn, .inl (cyI, 60, .inl yTn))] s.heap := hP
  have hl := lv_entry ([.ref yt]) (n := 1) (Nat.le_of_ble_eq_true rfl)
  rw [lg_entry_eq]
  generalize (lg_sl ([.ref yt]) ++ List.replicate (1 - (lg_sl ([.ref yt])).length) Slot.unset).toArray = ls at hl ⊢
  have hl : lv_has ls 1 [(0, .ref yt)] := hl
  unfold F_X2_next at hF
  refine lv_aload_n hx hb dX2_next_0 rfl (lv_at hl 0 rfl) ?_
  refine va_get (D := (dC, dI)) (ci := 2) (v := .int yTp) (C := RX2) (T := TX2) (N := 5) hx hb hts iX2_next_X2 hown hK hP 0 rfl rfl 4 (by decide) (hts _ kX2_next_1) (fun _ h9 => h9) rfl dX2_next_1 ?_
  refine lv_aload_n hx hb dX2_next_4 rfl (lv_at hl 0 rfl) ?_
  refine va_get (D := (dC, dI)) (ci := 2) (v := .int yTl) (C := RX2) (T := TX2) (N := 5) hx hb hts iX2_next_X2 hown hK hP 0 rfl rfl 1 (by decide) (hts _ kX2_next_2) (fun _ h9 => h9) rfl dX2_next_5 ?_
  refine lv_icmp_ge (tgt := 23) hx hb dX2_next_8 (by decide) (fun c1 => ?_) (fun c1 => ?_)
  · have hF := ite_t hF c1
    refine lv_iconst (v := (-1)) hx hb dX2_next_23 (by decide) ?_
    obtain rfl := some_e hF
    exact W.iret (v := (-1)) hx hb hr (fun t ht hW => ⟨⟨(-1), (), rfl, rfl, ⟨by rw [ht]; exact hP, va_K.moved hW.alike hK, hD⟩⟩, hS.F ht⟩) hS.2.2 dX2_next_24
  · have hF := ite_f hF c1
    refine lv_aload_n hx hb dX2_next_11 rfl (lv_at hl 0 rfl) ?_
    refine va_get (D := (dC, dI)) (ci := 2) (v := .ref ytb) (C := RX2) (T := TX2) (N := 5) hx hb hts iX2_next_X2 hown hK hP 0 rfl rfl 0 (by decide) (hts _ kX2_next_3) (fun _ h9 => h9) rfl dX2_next_12 ?_
    refine lv_aload_n hx hb dX2_next_15 rfl (lv_at hl 0 rfl) ?_
    refine va_get (D := (dC, dI)) (ci := 2) (v := .int yTp) (C := RX2) (T := TX2) (N := 5) hx hb hts iX2_next_X2 hown hK hP 0 rfl rfl 4 (by decide) (hts _ kX2_next_1) (fun _ h9 => h9) rfl dX2_next_16 ?_
    obtain ⟨g2, hF⟩ := ck_e hF
    refine x_bald hx hb hK hP 1 2 rfl rfl rfl g2 dX2_next_19 ?_
    refine lv_goto (tgt := 24) hx hb dX2_next_20 (by decide) ?_
    obtain rfl := some_e hF
    exact W.iret (v := yTb yTp.toNatClampNeg) hx hb hr (fun t ht hW => ⟨⟨yTb yTp.toNatClampNeg, (), rfl, rfl, ⟨by rw [ht]; exact hP, va_K.moved hW.alike hK, hD⟩⟩, hS.F ht⟩) hS.2.2 dX2_next_24
def F_X2_readSign (yTl : Int32) (yTp : Int32) (yTb : Nat → Int32) (w1 : Int32) : Option (Int32 × Int32) := ob (F_X2_next yTl yTp yTb) (fun o1 => if (o1 : Int32) = w1 then (lt_ (α := Int32) (yTp + 1) (fun v3 => some (1, v3))) else (some (0, yTp)))
theorem kX2_readSign_1 : (Cond.fieldLink RX2 26 "SelfTuner$SampleText" "position" "I") ∈ wsX2_readSign := List.mem_of_getElem? (i := 1) rfl
theorem iX2_readSign_X2 : ∀ w ∈ wsX20, w ∈ wsX2_readSign := fun w h => List.mem_cons_of_mem _ (List.mem_append_right _ h)
set_option maxHeartbeats 4000000 in
set_option maxRecDepth 100000 in
theorem c_X2_readSign (l : Launch) (dC : Nat → ClassId) (dI : Nat → Nat → Nat) (cyI cyJ cyB cyS cyD : ClassId) (yt : Nat) (ytb : Nat) (ytn : Nat) (sz : Nat) (yTl : Int32) (yTs : Int32) (yTp : Int32) (yTb : Nat → Int32) (yTn : Nat → Int32) (w1 : Int32) {out : Int32 × Int32} (hF : F_X2_readSign yTl yTp yTb w1 = some out) : Mi l yX2_readSign wsX2_readSign ({ frames := 1, cells := 0, slots := 0, locals := 20 } : Room) (dC, dI) [(cyI, .int), (cyJ, .long), (cyB, .byte), (cyS, .object "SelfTuner$State"), (cyD, .double)] sz [.ref yt, .int w1] [(yt, .inr (2, [.ref ytb, .int yTl, .ref ytn, .int yTs, .int yTp])), (ytb, .inl (cyB, 120, .inl yTb)), (ytn, .inl (cyI, 60, .inl yTn))] out.1 [(yt, .inr (2, [.ref ytb, .int yTl, .ref ytn, .int yTs, .int out.2])), (ytb, .inl (cyB, 120, .inl yTb)), (ytn, .inl (cyI, 60, .inl yTn))] := by
  refine Met.ofW (cc := cX2_readSign) (maxL := 2) (ret := (some .boolean)) (by decide) rfl ?_
  intro p e s m args below meth c s₁ B hml hv
  obtain ⟨rfl, hN, hsz, hP, hK, hD0⟩ := hv
  have hx := B.exec
  have hb := B.bytes
  have hr := B.returns
  have hts := atoms_spec (ws := wsX2_readSign) B.pre
  have hown : s.vm.findClass RX2 = some m.cls := findClass_of_methodNamed B.named
  have hlocks := B.notSynchronized
  subst hsz
  have hD := hD0.self (sz := s.heap.size)
  generalize hAe : va_A [(yt, .inr (2, [.ref ytb, .int yTl, .ref ytn, .int yTs, .int yTp])), (ytb, .inl (cyB, 120, .inl yTb)), (ytn, .inl (cyI, 60, .inl yTn))] s.heap.size = A at hD ⊢
  have hA : ∀ q : Nat, s.heap.size ≤ q → A q := fun q h => by rw [← hAe]; exact Or.inr h
  have hS : va_S A s.heap s.heap [] := va_S.rf
  have hP : va_P (dC, dI) vwCl [(yt, .inr (2, [.ref ytb, .int yTl, .ref ytn, .int yTs, .int yTp])), (ytb, .inl (cyB, 120, .inl yTb)), (ytn, .inl (cyI, 60, .inl yTn))] s.heap := hP
  have hl := lv_entry ([.ref yt, .int w1]) (n := 2) (Nat.le_of_ble_eq_true rfl)
  rw [lg_entry_eq]
  generalize (lg_sl ([.ref yt, .int w1]) ++ List.replicate (2 - (lg_sl ([.ref yt, .int w1])).length) Slot.unset).toArray = ls at hl ⊢
  have hl : lv_has ls 2 [(0, .ref yt), (1, .int w1)] := hl
  unfold F_X2_readSign at hF
  refine lv_aload_n hx hb dX2_readSign_0 rfl (lv_at hl 0 rfl) ?_
  obtain ⟨o1, ho1, hF⟩ := ob_e hF
  refine x_calli (wr := []) (ws' := [(yt, .inr (2, [.ref ytb, .int yTl, .ref ytn, .int yTs, .int yTp])), (ytb, .inl (cyB, 120, .inl yTb)), (ytn, .inl (cyI, 60, .inl yTn))]) (va_runV (As := []) (rest := []) ⟨hx, hb, hml, hown, hts⟩ (c_X2_next l dC dI cyI cyJ cyB cyS cyD yt ytb ytn s.heap.size yTl yTs yTp yTb yTn ho1) (cwV 0 hts gX2_readSign_X2_next rfl rfl rfl (by decide +kernel) ⟨Nat.le_of_ble_eq_true rfl, Nat.le_of_ble_eq_true rfl⟩) ⟨cPre_blind, va_recv hK hP (ci := 2) (q0 := 0) rfl rfl, x_pre hN hP hD hK [0, 1, 2] rfl rfl⟩ rfl rfl hl.1 rfl (lv_room (Nat.le_of_ble_eq_true rfl)) dX2_readSign_1 ⟨Nat.le_of_ble_eq_true rfl, Nat.le_of_ble_eq_true rfl⟩) hP hD hS hA [0, 1, 2] [] [0, 1, 2] rfl rfl rfl (by decide) rfl rfl (fun H locs hP hD hS => ?_)
  refine lv_iload_n hx hb dX2_readSign_4 rfl (lv_at hl 1 rfl) ?_
  refine lv_icmp_eq (tgt := 10) hx hb dX2_readSign_5 (by decide) (fun c2 => ?_) (fun c2 => ?_)
  · have hF := ite_t hF c2
    refine lv_aload_n hx hb dX2_readSign_10 rfl (lv_at hl 0 rfl) ?_
    refine lv_dup hx hb dX2_readSign_11 rfl ?_
    refine va_get (D := (dC, dI)) (ci := 2) (v := .int yTp) (C := RX2) (T := TX2) (N := 5) hx hb hts iX2_readSign_X2 hown hK hP 0 rfl rfl 4 (by decide) (hts _ kX2_readSign_1) (fun _ h9 => h9) rfl dX2_readSign_12 ?_
    refine lv_iconst (v := 1) hx hb dX2_readSign_15 (by decide) ?_
    refine lv_iadd hx hb dX2_readSign_16 ?_
    obtain ⟨v3, hv3, hF⟩ := lt_e hF
    refine x_topi hv3 ?_
    refine x_put (D := (dC, dI)) (ci := 2) (v := .int v3) (ty := .int) (C := RX2) (T := TX2) (N := 5) (ws' := [(yt, .inr (2, [.ref ytb, .int yTl, .ref ytn, .int yTs, .int v3])), (ytb, .inl (cyB, 120, .inl yTb)), (ytn, .inl (cyI, 60, .inl yTn))]) hx hb hts iX2_readSign_X2 tyX2 tyX2_ok nmX2 hown hK hP hD hS 0 rfl rfl 4 (by decide) (hts _ kX2_readSign_1) (fun _ h9 => h9) rfl (by decide +kernel) rfl rfl (Nat.le_of_ble_eq_true rfl) rfl dX2_readSign_17 (fun H locs hP hD hS => ?_)
    refine lv_iconst (v := 1) hx hb dX2_readSign_20 (by decide) ?_
    obtain rfl := some_e hF
    exact W.zret (v := 1) hx hb hr rfl (fun t ht hW => ⟨⟨1, (), rfl, rfl, ⟨by rw [ht]; exact hP, va_K.moved hW.alike hK, hD⟩⟩, hS.F ht⟩) hS.2.2 dX2_readSign_21
  · have hF := ite_f hF c2
    refine lv_iconst (v := 0) hx hb dX2_readSign_8 (by decide) ?_
    obtain rfl := some_e hF
    exact W.zret (v := 0) hx hb hr rfl (fun t ht hW => ⟨⟨0, (), rfl, rfl, ⟨by rw [ht]; exact hP, va_K.moved hW.alike hK, hD⟩⟩, hS.F ht⟩) hS.2.2 dX2_readSign_9
def F_X2_readNumber_12 (yTl : Int32) (yTb : Nat → Int32) : Nat → ((Int32 × Int32 × Int32) → Option (Int32 × Int32 × (Nat → Int32))) → Int32 → Int32 → Int32 → Option (Int32 × Int32 × (Nat → Int32))
  | 0, _, _, _, _ => none
  | n2 + 1, K3, v4, v5, v6 => if (4 : Int32) ≤ v4 then (K3 (v4, v5, v6)) else (ob (F_X2_next yTl v6 yTb) (fun o8 => ob (F_X5_isWithin o8 48 57) (fun o9 => if (o9 : Int32) = 0 then (K3 (v4, v5, v6)) else (ob (F_X2_next yTl v6 yTb) (fun o11 => lt_ (α := Int32) (((10 * v5) + o11) - 48) (fun v12 => lt_ (α := Int32) (v6 + 1) (fun v13 => lt_ (α := Int32) (v4 + 1) (fun v14 => F_X2_readNumber_12 yTl yTb n2 K3 v14 v12 v13))))))))
def F_X2_readNumber (yTl : Int32) (yTp : Int32) (yTb : Nat → Int32) (yTn : Nat → Int32) (w1 : Int32) : Option (Int32 × Int32 × (Nat → Int32)) := ob (F_X2_readSign yTl yTp yTb 45) (fun o1 => F_X2_readNumber_12 yTl yTb 1000 (fun x15 => rg (α := Int32) (fun K18 => if (o1.1 : Int32) = 0 then (K18 x15.2.1) else (K18 (-x15.2.1))) (fun x17 => ck (inb w1 60) (lt_ (α := Nat → Int32) (upd yTn w1.toNatClampNeg x17) (fun v20 => if (x15.1 : Int32) ≤ 0 then (some (0, x15.2.2, v20)) else (some (1, x15.2.2, v20)))))) 0 0 o1.2)
theorem kX2_readNumber_1 : (Cond.fieldLink RX2 26 "SelfTuner$SampleText" "position" "I") ∈ wsX2_readNumber := List.mem_of_getElem? (i := 1) rfl
theorem kX2_readNumber_2 : (Cond.fieldLink RX2 19 "SelfTuner$SampleText" "numbers" "[I") ∈ wsX2_readNumber := List.mem_of_getElem? (i := 2) rfl
theorem kX2_readNumber_14 : (Cond.static yX5_isWithin) ∈ wsX2_readNumber := List.mem_of_getElem? (i := 14) rfl
theorem kX2_readNumber_15 : (Cond.initialized RX5) ∈ wsX2_readNumber := List.mem_of_getElem? (i := 15) rfl
theorem iX2_readNumber_X2 : ∀ w ∈ wsX20, w ∈ wsX2_readNumber := fun w h => List.mem_cons_of_mem _ (List.mem_append_right _ h)
set_option maxHeartbeats 4000000 in
set_option maxRecDepth 100000 in
theorem c_X2_readNumber (l : Launch) (dC : Nat → ClassId) (dI : Nat → Nat → Nat) (cyI cyJ cyB cyS cyD : ClassId) (yt : Nat) (ytb : Nat) (ytn : Nat) (sz : Nat) (yTl : Int32) (yTs : Int32) (yTp : Int32) (yTb : Nat → Int32) (yTn : Nat → Int32) (w1 : Int32) {out : Int32 × Int32 × (Nat → Int32)} (hF : F_X2_readNumber yTl yTp yTb yTn w1 = some out) : Mi l yX2_readNumber wsX2_readNumber ({ frames := 2, cells := 0, slots := 0, locals := 41 } : Room) (dC, dI) [(cyI, .int), (cyJ, .long), (cyB, .byte), (cyS, .object "SelfTuner$State"), (cyD, .double)] sz [.ref yt, .int w1] [(yt, .inr (2, [.ref ytb, .int yTl, .ref ytn, .int yTs, .int yTp])), (ytb, .inl (cyB, 120, .inl yTb)), (ytn, .inl (cyI, 60, .inl yTn))] out.1 [(yt, .inr (2, [.ref ytb, .int yTl, .ref ytn, .int yTs, .int out.2.1])), (ytb, .inl (cyB, 120, .inl yTb)), (ytn, .inl (cyI, 60, .inl out.2.2))] := by
  refine Met.ofW (cc := cX2_readNumber) (maxL := 5) (ret := (some .boolean)) (by decide) rfl ?_
  intro p e s m args below meth c s₁ B hml hv
  obtain ⟨rfl, hN, hsz, hP, hK, hD0⟩ := hv
  have hx := B.exec
  have hb := B.bytes
  have hr := B.returns
  have hts := atoms_spec (ws := wsX2_readNumber) B.pre
  have hown : s.vm.findClass RX2 = some m.cls := findClass_of_methodNamed B.named
  have hlocks := B.notSynchronized
  subst hsz
  have hD := hD0.self (sz := s.heap.size)
  generalize hAe : va_A [(yt, .inr (2, [.ref ytb, .int yTl, .ref ytn, .int yTs, .int yTp])), (ytb, .inl (cyB, 120, .inl yTb)), (ytn, .inl (cyI, 60, .inl yTn))] s.heap.size = A at hD ⊢
  have hA : ∀ q : Nat, s.heap.size ≤ q → A q := fun q h => by rw [← hAe]; exact Or.inr h
  have hS : va_S A s.heap s.heap [] := va_S.rf
  have hP : va_P (dC, dI) vwCl [(yt, .inr (2, [.ref ytb, .int yTl, .ref ytn, .int yTs, .int yTp])), (ytb, .inl (cyB, 120, .inl yTb)), (ytn, .inl (cyI, 60, .inl yTn))] s.heap := hP
  have hl := lv_entry ([.ref yt, .int w1]) (n := 5) (Nat.le_of_ble_eq_true rfl)
  rw [lg_entry_eq]
  generalize (lg_sl ([.ref yt, .int w1]) ++ List.replicate (5 - (lg_sl ([.ref yt, .int w1])).length) Slot.unset).toArray = ls at hl ⊢
  have hl : lv_has ls 5 [(0, .ref yt), (1, .int w1)] := hl
  unfold F_X2_readNumber at hF
  refine lv_aload_n hx hb dX2_readNumber_0 rfl (lv_at hl 0 rfl) ?_
  refine lv_bipush (v := 45) hx hb dX2_readNumber_1 (by decide) ?_
  obtain ⟨o1, ho1, hF⟩ := ob_e hF
  refine x_calli (wr := []) (ws' := [(yt, .inr (2, [.ref ytb, .int yTl, .ref ytn, .int yTs, .int o1.2])), (ytb, .inl (cyB, 120, .inl yTb)), (ytn, .inl (cyI, 60, .inl yTn))]) (va_runV (As := [.int 45]) (rest := []) ⟨hx, hb, hml, hown, hts⟩ (c_X2_readSign l dC dI cyI cyJ cyB cyS cyD yt ytb ytn s.heap.size yTl yTs yTp yTb yTn 45 ho1) (cwV 1 hts gX2_readNumber_X2_readSign rfl rfl rfl (by decide +kernel) ⟨Nat.le_of_ble_eq_true rfl, Nat.le_of_ble_eq_true rfl⟩) ⟨cPre_blind, va_recv hK hP (ci := 2) (q0 := 0) rfl rfl, x_pre hN hP hD hK [0, 1, 2] rfl rfl⟩ rfl rfl hl.1 rfl (lv_room (Nat.le_of_ble_eq_true rfl)) dX2_readNumber_3 ⟨Nat.le_of_ble_eq_true rfl, Nat.le_of_ble_eq_true rfl⟩) hP hD hS hA [0, 1, 2] [] [0, 1, 2] rfl rfl rfl (by decide) rfl rfl (fun H locs hP hD hS => ?_)
  refine lv_istore_n (lv' := [(2, .int o1.1), (0, .ref yt), (1, .int w1)]) hx hb dX2_readNumber_6 rfl hl (by decide) rfl (fun ls hl => ?_)
  refine lv_iconst (v := 0) hx hb dX2_readNumber_7 (by decide) ?_
  refine lv_istore_n (lv' := [(3, .int 0), (2, .int o1.1), (0, .ref yt), (1, .int w1)]) hx hb dX2_readNumber_8 rfl hl (by decide) rfl (fun ls hl => ?_)
  refine lv_iconst (v := 0) hx hb dX2_readNumber_9 (by decide) ?_
  refine lv_istore (lv' := [(4, .int 0), (3, .int 0), (2, .int o1.1), (0, .ref yt), (1, .int w1)]) hx hb dX2_readNumber_10 hl (by decide) rfl (fun ls hl => ?_)
  have Ln2 : ∀ (n2 : Nat) (K3 : (Int32 × Int32 × Int32) → Option (Int32 × Int32 × (Nat → Int32))) (v4 : Int32) (v5 : Int32) (v6 : Int32) (H : Heap) (locs : List Loc) (ls : Array Slot), F_X2_readNumber_12 yTl yTb n2 K3 v4 v5 v6 = some out → va_P (dC, dI) vwCl [(yt, .inr (2, [.ref ytb, .int yTl, .ref ytn, .int yTs, .int v6])), (ytb, .inl (cyB, 120, .inl yTb)), (ytn, .inl (cyI, 60, .inl yTn))] H → va_D A [(yt, .inr (2, [.ref ytb, .int yTl, .ref ytn, .int yTs, .int v6])), (ytb, .inl (cyB, 120, .inl yTb)), (ytn, .inl (cyI, 60, .inl yTn))] → va_S A s.heap H locs → lv_has ls 5 [(0, .ref yt), (1, .int w1), (2, .int o1.1), (3, .int v4), (4, .int v5)] → (∀ (x15 : Int32 × Int32 × Int32) (H : Heap) (locs : List Loc) (ls : Array Slot), K3 x15 = some out → va_P (dC, dI) vwCl [(yt, .inr (2, [.ref ytb, .int yTl, .ref ytn, .int yTs, .int x15.2.2])), (ytb, .inl (cyB, 120, .inl yTb)), (ytn, .inl (cyI, 60, .inl yTn))] H → va_D A [(yt, .inr (2, [.ref ytb, .int yTl, .ref ytn, .int yTs, .int x15.2.2])), (ytb, .inl (cyB, 120, .inl yTb)), (ytn, .inl (cyI, 60, .inl yTn))] → va_S A s.heap H locs → lv_has ls 5 [(0, .ref yt), (1, .int w1), (2, .int o1.1), (3, .int x15.1), (4, .int x15.2.1)] → W p l e (headSpec wsX2_readNumber ({ frames := 2, cells := 0, slots := 0, locals := 41 } : Room)).room s m ([.ref yt, .int w1] : List Value).toArray below meth c H locs 0 0 (MQ below (va_Qi (fun (r' : Int32) (_ : Unit) => r' = out.1) (cPost (dC, dI) [(cyI, .int), (cyJ, .long), (cyB, .byte), (cyS, .object "SelfTuner$State"), (cyD, .double)] [(yt, .inr (2, [.ref ytb, .int yTl, .ref ytn, .int yTs, .int out.2.1])), (ytb, .inl (cyB, 120, .inl yTb)), (ytn, .inl (cyI, 60, .inl out.2.2))] A) A) ([.ref yt, .int w1] : List Value).toArray s 0 0 A) (F0 m 62 ls [])) → W p l e (headSpec wsX2_readNumber ({ frames := 2, cells := 0, slots := 0, locals := 41 } : Room)).room s m ([.ref yt, .int w1] : List Value).toArray below meth c H locs 0 0 (MQ below (va_Qi (fun (r' : Int32) (_ : Unit) => r' = out.1) (cPost (dC, dI) [(cyI, .int), (cyJ, .long), (cyB, .byte), (cyS, .object "SelfTuner$State"), (cyD, .double)] [(yt, .inr (2, [.ref ytb, .int yTl, .ref ytn, .int yTs, .int out.2.1])), (ytb, .inl (cyB, 120, .inl yTb)), (ytn, .inl (cyI, 60, .inl out.2.2))] A) A) ([.ref yt, .int w1] : List Value).toArray s 0 0 A) (F0 m 12 ls []) := by
    intro n2
    induction n2 with
    | zero => intro K3 v4 v5 v6 H locs ls hF; exact no_e (show none = some out from hF)
    | succ n2 ihn2 =>
      intro K3 v4 v5 v6 H locs ls hF hP hD hS hl kxn2
      rw [F_X2_readNumber_12] at hF
      refine lv_iload_n hx hb dX2_readNumber_12 rfl (lv_at hl 3 rfl) ?_
      refine lv_iconst (v := 4) hx hb dX2_readNumber_13 (by decide) ?_
      refine lv_icmp_ge (tgt := 62) hx hb dX2_readNumber_14 (by decide) (fun c7 => ?_) (fun c7 => ?_)
      · have hF := ite_t hF c7
        exact kxn2 _ _ _ _ hF hP hD hS (lv_sub hl [0, 1, 2, 3, 4] rfl)
      · have hF := ite_f hF c7
        refine lv_aload_n hx hb dX2_readNumber_17 rfl (lv_at hl 0 rfl) ?_
        obtain ⟨o8, ho8, hF⟩ := ob_e hF
        refine x_calli (wr := []) (ws' := [(yt, .inr (2, [.ref ytb, .int yTl, .ref ytn, .int yTs, .int v6])), (ytb, .inl (cyB, 120, .inl yTb)), (ytn, .inl (cyI, 60, .inl yTn))]) (va_runV (As := []) (rest := []) ⟨hx, hb, hml, hown, hts⟩ (c_X2_next l dC dI cyI cyJ cyB cyS cyD yt ytb ytn H.size yTl yTs v6 yTb yTn ho8) (cwV 0 hts gX2_readNumber_X2_next rfl rfl rfl (by decide +kernel) ⟨Nat.le_of_ble_eq_true rfl, Nat.le_of_ble_eq_true rfl⟩) ⟨cPre_blind, va_recv hK hP (ci := 2) (q0 := 0) rfl rfl, x_pre hN hP hD hK [0, 1, 2] rfl rfl⟩ rfl rfl hl.1 rfl (lv_room (Nat.le_of_ble_eq_true rfl)) dX2_readNumber_18 ⟨Nat.le_of_ble_eq_true rfl, Nat.le_of_ble_eq_true rfl⟩) hP hD hS hA [0, 1, 2] [] [0, 1, 2] rfl rfl rfl (by decide) rfl rfl (fun H locs hP hD hS => ?_)
        refine lv_bipush (v := 48) hx hb dX2_readNumber_21 (by decide) ?_
        refine lv_bipush (v := 57) hx hb dX2_readNumber_23 (by decide) ?_
        obtain ⟨o9, ho9, hF⟩ := ob_e hF
        refine x_callzi (va_runSN (As := [.int o8, .int 48, .int 57]) (rest := []) ⟨hx, hb, hml, hown, hts⟩ (c_X5_isWithin l o8 48 57 ho9) ⟨va_cnB 3 hts gX2_readNumber_X5_isWithin_n40 rfl rfl rfl (nm_X2_40 hN) (hts _ kX2_readNumber_15) (by decide +kernel) ⟨Nat.le_of_ble_eq_true rfl, Nat.le_of_ble_eq_true rfl⟩, hts _ kX2_readNumber_14, trivial⟩ ⟨true_blind, fun _ _ _ => ⟨rfl, trivial⟩⟩ rfl rfl hl.1 rfl (lv_room (Nat.le_of_ble_eq_true rfl)) dX2_readNumber_25 ⟨Nat.le_of_ble_eq_true rfl, Nat.le_of_ble_eq_true rfl⟩) ?_
        refine lv_if_eq (tgt := 62) hx hb dX2_readNumber_28 (by decide) (fun c10 => ?_) (fun c10 => ?_)
        · have hF := ite_t hF c10
          exact kxn2 _ _ _ _ hF hP hD hS (lv_sub hl [0, 1, 2, 3, 4] rfl)
        · have hF := ite_f hF c10
          refine lv_bipush (v := 10) hx hb dX2_readNumber_31 (by decide) ?_
          refine lv_iload hx hb dX2_readNumber_33 (lv_at hl 4 rfl) ?_
          refine lv_imul hx hb dX2_readNumber_35 ?_
          refine lv_aload_n hx hb dX2_readNumber_36 rfl (lv_at hl 0 rfl) ?_
          obtain ⟨o11, ho11, hF⟩ := ob_e hF
          refine x_calli (wr := []) (ws' := [(yt, .inr (2, [.ref ytb, .int yTl, .ref ytn, .int yTs, .int v6])), (ytb, .inl (cyB, 120, .inl yTb)), (ytn, .inl (cyI, 60, .inl yTn))]) (va_runV (As := []) (rest := [.int (10 * v5)]) ⟨hx, hb, hml, hown, hts⟩ (c_X2_next l dC dI cyI cyJ cyB cyS cyD yt ytb ytn H.size yTl yTs v6 yTb yTn ho11) (cwV 0 hts gX2_readNumber_X2_next rfl rfl rfl (by decide +kernel) ⟨Nat.le_of_ble_eq_true rfl, Nat.le_of_ble_eq_true rfl⟩) ⟨cPre_blind, va_recv hK hP (ci := 2) (q0 := 0) rfl rfl, x_pre hN hP hD hK [0, 1, 2] rfl rfl⟩ rfl rfl hl.1 rfl (lv_room (Nat.le_of_ble_eq_true rfl)) dX2_readNumber_37 ⟨Nat.le_of_ble_eq_true rfl, Nat.le_of_ble_eq_true rfl⟩) hP hD hS hA [0, 1, 2] [] [0, 1, 2] rfl rfl rfl (by decide) rfl rfl (fun H locs hP hD hS => ?_)
          refine lv_iadd hx hb dX2_readNumber_40 ?_
          refine lv_bipush (v := 48) hx hb dX2_readNumber_41 (by decide) ?_
          refine lv_isub hx hb dX2_readNumber_43 ?_
          obtain ⟨v12, hv12, hF⟩ := lt_e hF
          refine x_topi hv12 ?_
          refine lv_istore (lv' := [(4, .int v12), (0, .ref yt), (1, .int w1), (2, .int o1.1), (3, .int v4)]) hx hb dX2_readNumber_44 hl (by decide) rfl (fun ls hl => ?_)
          refine lv_aload_n hx hb dX2_readNumber_46 rfl (lv_at hl 1 rfl) ?_
          refine lv_dup hx hb dX2_readNumber_47 rfl ?_
          refine va_get (D := (dC, dI)) (ci := 2) (v := .int v6) (C := RX2) (T := TX2) (N := 5) hx hb hts iX2_readNumber_X2 hown hK hP 0 rfl rfl 4 (by decide) (hts _ kX2_readNumber_1) (fun _ h9 => h9) rfl dX2_readNumber_48 ?_
          refine lv_iconst (v := 1) hx hb dX2_readNumber_51 (by decide) ?_
          refine lv_iadd hx hb dX2_readNumber_52 ?_
          obtain ⟨v13, hv13, hF⟩ := lt_e hF
          refine x_topi hv13 ?_
          refine x_put (D := (dC, dI)) (ci := 2) (v := .int v13) (ty := .int) (C := RX2) (T := TX2) (N := 5) (ws' := [(yt, .inr (2, [.ref ytb, .int yTl, .ref ytn, .int yTs, .int v13])), (ytb, .inl (cyB, 120, .inl yTb)), (ytn, .inl (cyI, 60, .inl yTn))]) hx hb hts iX2_readNumber_X2 tyX2 tyX2_ok nmX2 hown hK hP hD hS 0 rfl rfl 4 (by decide) (hts _ kX2_readNumber_1) (fun _ h9 => h9) rfl (by decide +kernel) rfl rfl (Nat.le_of_ble_eq_true rfl) rfl dX2_readNumber_53 (fun H locs hP hD hS => ?_)
          obtain ⟨v14, hv14, hF⟩ := lt_e hF
          refine lv_iinc (v := v14) (lv' := [(3, .int v14), (4, .int v12), (0, .ref yt), (1, .int w1), (2, .int o1.1)]) hx hb dX2_readNumber_56 hl (k := 4) rfl (by rw [hv14]; rfl) (by decide) rfl (fun ls hl => ?_)
          refine lv_goto (tgt := 12) hx hb dX2_readNumber_59 (by decide) ?_
          exact ihn2 _ _ _ _ _ _ _ hF hP hD hS (lv_sub hl [2, 3, 4, 0, 1] rfl) kxn2
  refine Ln2 _ _ _ _ _ _ _ _ hF hP hD hS (lv_sub hl [3, 4, 2, 1, 0] rfl) (fun x15 H locs ls hF hP hD hS hl => ?_)
  refine lv_aload_n hx hb dX2_readNumber_62 rfl (lv_at hl 0 rfl) ?_
  refine va_get (D := (dC, dI)) (ci := 2) (v := .ref ytn) (C := RX2) (T := TX2) (N := 5) hx hb hts iX2_readNumber_X2 hown hK hP 0 rfl rfl 2 (by decide) (hts _ kX2_readNumber_2) (fun _ h9 => h9) rfl dX2_readNumber_63 ?_
  refine lv_iload_n hx hb dX2_readNumber_66 rfl (lv_at hl 1 rfl) ?_
  refine lv_iload_n hx hb dX2_readNumber_67 rfl (lv_at hl 2 rfl) ?_
  obtain ⟨K18, hK18, hF⟩ := rg_e hF
  have Jx17 : ∀ (x17 : Int32) (H : Heap) (locs : List Loc) (ls : Array Slot), K18 x17 = some out → va_P (dC, dI) vwCl [(yt, .inr (2, [.ref ytb, .int yTl, .ref ytn, .int yTs, .int x15.2.2])), (ytb, .inl (cyB, 120, .inl yTb)), (ytn, .inl (cyI, 60, .inl yTn))] H → va_D A [(yt, .inr (2, [.ref ytb, .int yTl, .ref ytn, .int yTs, .int x15.2.2])), (ytb, .inl (cyB, 120, .inl yTb)), (ytn, .inl (cyI, 60, .inl yTn))] → va_S A s.heap H locs → lv_has ls 5 [(3, .int x15.1)] → W p l e (headSpec wsX2_readNumber ({ frames := 2, cells := 0, slots := 0, locals := 41 } : Room)).room s m ([.ref yt, .int w1] : List Value).toArray below meth c H locs 0 0 (MQ below (va_Qi (fun (r' : Int32) (_ : Unit) => r' = out.1) (cPost (dC, dI) [(cyI, .int), (cyJ, .long), (cyB, .byte), (cyS, .object "SelfTuner$State"), (cyD, .double)] [(yt, .inr (2, [.ref ytb, .int yTl, .ref ytn, .int yTs, .int out.2.1])), (ytb, .inl (cyB, 120, .inl yTb)), (ytn, .inl (cyI, 60, .inl out.2.2))] A) A) ([.ref yt, .int w1] : List Value).toArray s 0 0 A) (F0 m 79 ls [.int x17, .int w1, .ref ytn]) := by
    intro x17 H locs ls hF hP hD hS hl
    rw [hK18] at hF
    obtain ⟨g19, hF⟩ := ck_e hF
    obtain ⟨v20, hv20, hF⟩ := lt_e hF
    refine x_iast (ws' := [(yt, .inr (2, [.ref ytb, .int yTl, .ref ytn, .int yTs, .int x15.2.2])), (ytb, .inl (cyB, 120, .inl yTb)), (ytn, .inl (cyI, 60, .inl v20))]) hx hb hK hP hD hS 2 0 rfl rfl rfl g19 hv20 rfl dX2_readNumber_79 (fun H locs hP hD hS => ?_)
    refine lv_iload_n hx hb dX2_readNumber_80 rfl (lv_at hl 0 rfl) ?_
    refine lv_if_le (tgt := 88) hx hb dX2_readNumber_81 (by decide) (fun c21 => ?_) (fun c21 => ?_)
    · have hF := ite_t hF c21
      refine lv_iconst (v := 0) hx hb dX2_readNumber_88 (by decide) ?_
      obtain rfl := some_e hF
      exact W.zret (v := 0) hx hb hr rfl (fun t ht hW => ⟨⟨0, (), rfl, rfl, ⟨by rw [ht]; exact hP, va_K.moved hW.alike hK, hD⟩⟩, hS.F ht⟩) hS.2.2 dX2_readNumber_89
    · have hF := ite_f hF c21
      refine lv_iconst (v := 1) hx hb dX2_readNumber_84 (by decide) ?_
      refine lv_goto (tgt := 89) hx hb dX2_readNumber_85 (by decide) ?_
      obtain rfl := some_e hF
      exact W.zret (v := 1) hx hb hr rfl (fun t ht hW => ⟨⟨1, (), rfl, rfl, ⟨by rw [ht]; exact hP, va_K.moved hW.alike hK, hD⟩⟩, hS.F ht⟩) hS.2.2 dX2_readNumber_89
  refine lv_if_eq (tgt := 77) hx hb dX2_readNumber_68 (by decide) (fun c16 => ?_) (fun c16 => ?_)
  · have hF := ite_t hF c16
    refine lv_iload hx hb dX2_readNumber_77 (lv_at hl 4 rfl) ?_
    exact Jx17 _ _ _ _ hF hP hD hS (lv_sub hl [3] rfl)
  · have hF := ite_f hF c16
    refine lv_iload hx hb dX2_readNumber_71 (lv_at hl 4 rfl) ?_
    refine lv_ineg hx hb dX2_readNumber_73 ?_
    refine lv_goto (tgt := 79) hx hb dX2_readNumber_74 (by decide) ?_
    exact Jx17 _ _ _ _ hF hP hD hS (lv_sub hl [3] rfl)
def F_X2_read_12 (yTl : Int32) (yTb : Nat → Int32) : Nat → ((Int32 × Int32 × (Nat → Int32)) → Option (Int32 × Int32 × Int32 × (Nat → Int32))) → Int32 → Int32 → Int32 → (Nat → Int32) → Option (Int32 × Int32 × Int32 × (Nat → Int32))
  | 0, _, _, _, _, _ => none
  | n1 + 1, K2, v3, v4, v5, v6 => if (20 : Int32) ≤ v3 then (K2 (v4, v5, v6)) else (if (yTl : Int32) ≤ v5 then (K2 (v4, v5, v6)) else (lt_ (α := Int32) (3 * v3) (fun v9 => ob (F_X2_readNumber yTl v5 yTb v6 v9) (fun o10 => if (o10.1 : Int32) = 0 then (some (o10.2.1, v4, o10.2.1, o10.2.2)) else (ob (F_X2_readSign yTl o10.2.1 yTb 44) (fun o12 => if (o12.1 : Int32) = 0 then (some (o12.2, v4, o12.2, o10.2.2)) else (ob (F_X2_readNumber yTl o12.2 yTb o10.2.2 (v9 + 1)) (fun o14 => if (o14.1 : Int32) = 0 then (some (o14.2.1, v4, o14.2.1, o14.2.2)) else (ob (F_X2_readSign yTl o14.2.1 yTb 44) (fun o16 => if (o16.1 : Int32) = 0 then (some (o16.2, v4, o16.2, o14.2.2)) else (ob (F_X2_readNumber yTl o16.2 yTb o14.2.2 (v9 + 2)) (fun o18 => if (o18.1 : Int32) = 0 then (some (o18.2.1, v4, o18.2.1, o18.2.2)) else (ob (F_X2_readSign yTl o18.2.1 yTb 59) (fun o20 => if (o20.1 : Int32) = 0 then (some (o20.2, v4, o20.2, o18.2.2)) else (lt_ (α := Int32) (v4 + 1) (fun v22 => lt_ (α := Int32) (v3 + 1) (fun v23 => F_X2_read_12 yTl yTb n1 K2 v23 v22 o20.2 o18.2.2)))))))))))))))))
def F_X2_read (yTl : Int32) (yTb : Nat → Int32) (yTn : Nat → Int32) : Option (Int32 × Int32 × Int32 × (Nat → Int32)) := F_X2_read_12 yTl yTb 1000 (fun x24 => some ((-1), x24.1, x24.2.1, x24.2.2)) 0 0 0 yTn
theorem kX2_read_1 : (Cond.fieldLink RX2 23 "SelfTuner$SampleText" "samples" "I") ∈ wsX2_read := List.mem_of_getElem? (i := 1) rfl
theorem kX2_read_2 : (Cond.fieldLink RX2 26 "SelfTuner$SampleText" "position" "I") ∈ wsX2_read := List.mem_of_getElem? (i := 2) rfl
theorem kX2_read_3 : (Cond.fieldLink RX2 15 "SelfTuner$SampleText" "length" "I") ∈ wsX2_read := List.mem_of_getElem? (i := 3) rfl
theorem iX2_read_X2 : ∀ w ∈ wsX20, w ∈ wsX2_read := fun w h => List.mem_cons_of_mem _ (List.mem_append_right _ h)
set_option maxHeartbeats 4000000 in
set_option maxRecDepth 100000 in
theorem c_X2_read (l : Launch) (dC : Nat → ClassId) (dI : Nat → Nat → Nat) (cyI cyJ cyB cyS cyD : ClassId) (yt : Nat) (ytb : Nat) (ytn : Nat) (sz : Nat) (yTl : Int32) (yTs : Int32) (yTp : Int32) (yTb : Nat → Int32) (yTn : Nat → Int32) {out : Int32 × Int32 × Int32 × (Nat → Int32)} (hF : F_X2_read yTl yTb yTn = some out) : Mi l yX2_read wsX2_read ({ frames := 3, cells := 0, slots := 0, locals := 65 } : Room) (dC, dI) [(cyI, .int), (cyJ, .long), (cyB, .byte), (cyS, .object "SelfTuner$State"), (cyD, .double)] sz [.ref yt] [(yt, .inr (2, [.ref ytb, .int yTl, .ref ytn, .int yTs, .int yTp])), (ytb, .inl (cyB, 120, .inl yTb)), (ytn, .inl (cyI, 60, .inl yTn))] out.1 [(yt, .inr (2, [.ref ytb, .int yTl, .ref ytn, .int out.2.1, .int out.2.2.1])), (ytb, .inl (cyB, 120, .inl yTb)), (ytn, .inl (cyI, 60, .inl out.2.2.2))] := by
  refine Met.ofW (cc := cX2_read) (maxL := 3) (ret := (some .int)) (by decide) rfl ?_
  intro p e s m args below meth c s₁ B hml hv
  obtain ⟨rfl, hN, hsz, hP, hK, hD0⟩ := hv
  have hx := B.exec
  have hb := B.bytes
  have hr := B.returns
  have hts := atoms_spec (ws := wsX2_read) B.pre
  have hown : s.vm.findClass RX2 = some m.cls := findClass_of_methodNamed B.named
  have hlocks := B.notSynchronized
  subst hsz
  have hD := hD0.self (sz := s.heap.size)
  generalize hAe : va_A [(yt, .inr (2, [.ref ytb, .int yTl, .ref ytn, .int yTs, .int yTp])), (ytb, .inl (cyB, 120, .inl yTb)), (ytn, .inl (cyI, 60, .inl yTn))] s.heap.size = A at hD ⊢
  have hA : ∀ q : Nat, s.heap.size ≤ q → A q := fun q h => by rw [← hAe]; exact Or.inr h
  have hS : va_S A s.heap s.heap [] := va_S.rf
  have hP : va_P (dC, dI) vwCl [(yt, .inr (2, [.ref ytb, .int yTl, .ref ytn, .int yTs, .int yTp])), (ytb, .inl (cyB, 120, .inl yTb)), (ytn, .inl (cyI, 60, .inl yTn))] s.heap := hP
  have hl := lv_entry ([.ref yt]) (n := 3) (Nat.le_of_ble_eq_true rfl)
  rw [lg_entry_eq]
  generalize (lg_sl ([.ref yt]) ++ List.replicate (3 - (lg_sl ([.ref yt])).length) Slot.unset).toArray = ls at hl ⊢
  have hl : lv_has ls 3 [(0, .ref yt)] := hl
  unfold F_X2_read at hF
  refine lv_aload_n hx hb dX2_read_0 rfl (lv_at hl 0 rfl) ?_
  refine lv_iconst (v := 0) hx hb dX2_read_1 (by decide) ?_
  refine x_put (D := (dC, dI)) (ci := 2) (v := .int 0) (ty := .int) (C := RX2) (T := TX2) (N := 5) (ws' := [(yt, .inr (2, [.ref ytb, .int yTl, .ref ytn, .int 0, .int yTp])), (ytb, .inl (cyB, 120, .inl yTb)), (ytn, .inl (cyI, 60, .inl yTn))]) hx hb hts iX2_read_X2 tyX2 tyX2_ok nmX2 hown hK hP hD hS 0 rfl rfl 3 (by decide) (hts _ kX2_read_1) (fun _ h9 => h9) rfl (by decide +kernel) rfl rfl (Nat.le_of_ble_eq_true rfl) rfl dX2_read_2 (fun H locs hP hD hS => ?_)
  refine lv_aload_n hx hb dX2_read_5 rfl (lv_at hl 0 rfl) ?_
  refine lv_iconst (v := 0) hx hb dX2_read_6 (by decide) ?_
  refine x_put (D := (dC, dI)) (ci := 2) (v := .int 0) (ty := .int) (C := RX2) (T := TX2) (N := 5) (ws' := [(yt, .inr (2, [.ref ytb, .int yTl, .ref ytn, .int 0, .int 0])), (ytb, .inl (cyB, 120, .inl yTb)), (ytn, .inl (cyI, 60, .inl yTn))]) hx hb hts iX2_read_X2 tyX2 tyX2_ok nmX2 hown hK hP hD hS 0 rfl rfl 4 (by decide) (hts _ kX2_read_2) (fun _ h9 => h9) rfl (by decide +kernel) rfl rfl (Nat.le_of_ble_eq_true rfl) rfl dX2_read_7 (fun H locs hP hD hS => ?_)
  refine lv_iconst (v := 0) hx hb dX2_read_10 (by decide) ?_
  refine lv_istore_n (lv' := [(1, .int 0), (0, .ref yt)]) hx hb dX2_read_11 rfl hl (by decide) rfl (fun ls hl => ?_)
  have Ln1 : ∀ (n1 : Nat) (K2 : (Int32 × Int32 × (Nat → Int32)) → Option (Int32 × Int32 × Int32 × (Nat → Int32))) (v3 : Int32) (v4 : Int32) (v5 : Int32) (v6 : Nat → Int32) (H : Heap) (locs : List Loc) (ls : Array Slot), F_X2_read_12 yTl yTb n1 K2 v3 v4 v5 v6 = some out → va_P (dC, dI) vwCl [(yt, .inr (2, [.ref ytb, .int yTl, .ref ytn, .int v4, .int v5])), (ytb, .inl (cyB, 120, .inl yTb)), (ytn, .inl (cyI, 60, .inl v6))] H → va_D A [(yt, .inr (2, [.ref ytb, .int yTl, .ref ytn, .int v4, .int v5])), (ytb, .inl (cyB, 120, .inl yTb)), (ytn, .inl (cyI, 60, .inl v6))] → va_S A s.heap H locs → lv_has ls 3 [(0, .ref yt), (1, .int v3)] → (∀ (x24 : Int32 × Int32 × (Nat → Int32)) (H : Heap) (locs : List Loc) (ls : Array Slot), K2 x24 = some out → va_P (dC, dI) vwCl [(yt, .inr (2, [.ref ytb, .int yTl, .ref ytn, .int x24.1, .int x24.2.1])), (ytb, .inl (cyB, 120, .inl yTb)), (ytn, .inl (cyI, 60, .inl x24.2.2))] H → va_D A [(yt, .inr (2, [.ref ytb, .int yTl, .ref ytn, .int x24.1, .int x24.2.1])), (ytb, .inl (cyB, 120, .inl yTb)), (ytn, .inl (cyI, 60, .inl x24.2.2))] → va_S A s.heap H locs → lv_has ls 3 [] → W p l e (headSpec wsX2_read ({ frames := 3, cells := 0, slots := 0, locals := 65 } : Room)).room s m ([.ref yt] : List Value).toArray below meth c H locs 0 0 (MQ below (va_Qi (fun (r' : Int32) (_ : Unit) => r' = out.1) (cPost (dC, dI) [(cyI, .int), (cyJ, .long), (cyB, .byte), (cyS, .object "SelfTuner$State"), (cyD, .double)] [(yt, .inr (2, [.ref ytb, .int yTl, .ref ytn, .int out.2.1, .int out.2.2.1])), (ytb, .inl (cyB, 120, .inl yTb)), (ytn, .inl (cyI, 60, .inl out.2.2.2))] A) A) ([.ref yt] : List Value).toArray s 0 0 A) (F0 m 109 ls [])) → W p l e (headSpec wsX2_read ({ frames := 3, cells := 0, slots := 0, locals := 65 } : Room)).room s m ([.ref yt] : List Value).toArray below meth c H locs 0 0 (MQ below (va_Qi (fun (r' : Int32) (_ : Unit) => r' = out.1) (cPost (dC, dI) [(cyI, .int), (cyJ, .long), (cyB, .byte), (cyS, .object "SelfTuner$State"), (cyD, .double)] [(yt, .inr (2, [.ref ytb, .int yTl, .ref ytn, .int out.2.1, .int out.2.2.1])), (ytb, .inl (cyB, 120, .inl yTb)), (ytn, .inl (cyI, 60, .inl out.2.2.2))] A) A) ([.ref yt] : List Value).toArray s 0 0 A) (F0 m 12 ls []) := by
    intro n1
    induction n1 with
    | zero => intro K2 v3 v4 v5 v6 H locs ls hF; exact no_e (show none = some out from hF)
    | succ n1 ihn1 =>
      intro K2 v3 v4 v5 v6 H locs ls hF hP hD hS hl kxn1
      rw [F_X2_read_12] at hF
      refine lv_iload_n hx hb dX2_read_12 rfl (lv_at hl 1 rfl) ?_
      refine lv_bipush (v := 20) hx hb dX2_read_13 (by decide) ?_
      refine lv_icmp_ge (tgt := 109) hx hb dX2_read_15 (by decide) (fun c7 => ?_) (fun c7 => ?_)
      · have hF := ite_t hF c7
        exact kxn1 _ _ _ _ hF hP hD hS (lv_sub hl [] rfl)
      · have hF := ite_f hF c7
        refine lv_aload_n hx hb dX2_read_18 rfl (lv_at hl 0 rfl) ?_
        refine va_get (D := (dC, dI)) (ci := 2) (v := .int v5) (C := RX2) (T := TX2) (N := 5) hx hb hts iX2_read_X2 hown hK hP 0 rfl rfl 4 (by decide) (hts _ kX2_read_2) (fun _ h9 => h9) rfl dX2_read_19 ?_
        refine lv_aload_n hx hb dX2_read_22 rfl (lv_at hl 0 rfl) ?_
        refine va_get (D := (dC, dI)) (ci := 2) (v := .int yTl) (C := RX2) (T := TX2) (N := 5) hx hb hts iX2_read_X2 hown hK hP 0 rfl rfl 1 (by decide) (hts _ kX2_read_3) (fun _ h9 => h9) rfl dX2_read_23 ?_
        refine lv_icmp_ge (tgt := 109) hx hb dX2_read_26 (by decide) (fun c8 => ?_) (fun c8 => ?_)
        · have hF := ite_t hF c8
          exact kxn1 _ _ _ _ hF hP hD hS (lv_sub hl [] rfl)
        · have hF := ite_f hF c8
          refine lv_iconst (v := 3) hx hb dX2_read_29 (by decide) ?_
          refine lv_iload_n hx hb dX2_read_30 rfl (lv_at hl 1 rfl) ?_
          refine lv_imul hx hb dX2_read_31 ?_
          obtain ⟨v9, hv9, hF⟩ := lt_e hF
          refine x_topi hv9 ?_
          refine lv_istore_n (lv' := [(2, .int v9), (0, .ref yt), (1, .int v3)]) hx hb dX2_read_32 rfl hl (by decide) rfl (fun ls hl => ?_)
          refine lv_aload_n hx hb dX2_read_33 rfl (lv_at hl 1 rfl) ?_
          refine lv_iload_n hx hb dX2_read_34 rfl (lv_at hl 0 rfl) ?_
          obtain ⟨o10, ho10, hF⟩ := ob_e hF
          refine x_calli (wr := []) (ws' := [(yt, .inr (2, [.ref ytb, .int yTl, .ref ytn, .int v4, .int o10.2.1])), (ytb, .inl (cyB, 120, .inl yTb)), (ytn, .inl (cyI, 60, .inl o10.2.2))]) (va_runV (As := [.int v9]) (rest := []) ⟨hx, hb, hml, hown, hts⟩ (c_X2_readNumber l dC dI cyI cyJ cyB cyS cyD yt ytb ytn H.size yTl v4 v5 yTb v6 v9 ho10) (cwV 1 hts gX2_read_X2_readNumber rfl rfl rfl (by decide +kernel) ⟨Nat.le_of_ble_eq_true rfl, Nat.le_of_ble_eq_true rfl⟩) ⟨cPre_blind, va_recv hK hP (ci := 2) (q0 := 0) rfl rfl, x_pre hN hP hD hK [0, 1, 2] rfl rfl⟩ rfl rfl hl.1 rfl (lv_room (Nat.le_of_ble_eq_true rfl)) dX2_read_35 ⟨Nat.le_of_ble_eq_true rfl, Nat.le_of_ble_eq_true rfl⟩) hP hD hS hA [0, 1, 2] [] [0, 1, 2] rfl rfl rfl (by decide) rfl rfl (fun H locs hP hD hS => ?_)
          refine lv_if_eq (tgt := 88) hx hb dX2_read_38 (by decide) (fun c11 => ?_) (fun c11 => ?_)
          · have hF := ite_t hF c11
            refine lv_aload_n hx hb dX2_read_88 rfl (lv_at hl 1 rfl) ?_
            refine va_get (D := (dC, dI)) (ci := 2) (v := .int o10.2.1) (C := RX2) (T := TX2) (N := 5) hx hb hts iX2_read_X2 hown hK hP 0 rfl rfl 4 (by decide) (hts _ kX2_read_2) (fun _ h9 => h9) rfl dX2_read_89 ?_
            obtain rfl := some_e hF
            exact W.iret (v := o10.2.1) hx hb hr (fun t ht hW => ⟨⟨o10.2.1, (), rfl, rfl, ⟨by rw [ht]; exact hP, va_K.moved hW.alike hK, hD⟩⟩, hS.F ht⟩) hS.2.2 dX2_read_92
          · have hF := ite_f hF c11
            refine lv_aload_n hx hb dX2_read_41 rfl (lv_at hl 1 rfl) ?_
            refine lv_bipush (v := 44) hx hb dX2_read_42 (by decide) ?_
            obtain ⟨o12, ho12, hF⟩ := ob_e hF
            refine x_calli (wr := []) (ws' := [(yt, .inr (2, [.ref ytb, .int yTl, .ref ytn, .int v4, .int o12.2])), (ytb, .inl (cyB, 120, .inl yTb)), (ytn, .inl (cyI, 60, .inl o10.2.2))]) (va_runV (As := [.int 44]) (rest := []) ⟨hx, hb, hml, hown, hts⟩ (c_X2_readSign l dC dI cyI cyJ cyB cyS cyD yt ytb ytn H.size yTl v4 o10.2.1 yTb o10.2.2 44 ho12) (cwV 1 hts gX2_read_X2_readSign rfl rfl rfl (by decide +kernel) ⟨Nat.le_of_ble_eq_true rfl, Nat.le_of_ble_eq_true rfl⟩) ⟨cPre_blind, va_recv hK hP (ci := 2) (q0 := 0) rfl rfl, x_pre hN hP hD hK [0, 1, 2] rfl rfl⟩ rfl rfl hl.1 rfl (lv_room (Nat.le_of_ble_eq_true rfl)) dX2_read_44 ⟨Nat.le_of_ble_eq_true rfl, Nat.le_of_ble_eq_true rfl⟩) hP hD hS hA [0, 1, 2] [] [0, 1, 2] rfl rfl rfl (by decide) rfl rfl (fun H locs hP hD hS => ?_)
            refine lv_if_eq (tgt := 88) hx hb dX2_read_47 (by decide) (fun c13 => ?_) (fun c13 => ?_)
            · have hF := ite_t hF c13
              refine lv_aload_n hx hb dX2_read_88 rfl (lv_at hl 1 rfl) ?_
              refine va_get (D := (dC, dI)) (ci := 2) (v := .int o12.2) (C := RX2) (T := TX2) (N := 5) hx hb hts iX2_read_X2 hown hK hP 0 rfl rfl 4 (by decide) (hts _ kX2_read_2) (fun _ h9 => h9) rfl dX2_read_89 ?_
              obtain rfl := some_e hF
              exact W.iret (v := o12.2) hx hb hr (fun t ht hW => ⟨⟨o12.2, (), rfl, rfl, ⟨by rw [ht]; exact hP, va_K.moved hW.alike hK, hD⟩⟩, hS.F ht⟩) hS.2.2 dX2_read_92
            · have hF := ite_f hF c13
              refine lv_aload_n hx hb dX2_read_50 rfl (lv_at hl 1 rfl) ?_
              refine lv_iload_n hx hb dX2_read_51 rfl (lv_at hl 0 rfl) ?_
              refine lv_iconst (v := 1) hx hb dX2_read_52 (by decide) ?_
              refine lv_iadd hx hb dX2_read_53 ?_
              obtain ⟨o14, ho14, hF⟩ := ob_e hF
              refine x_calli (wr := []) (ws' := [(yt, .inr (2, [.ref ytb, .int yTl, .ref ytn, .int v4, .int o14.2.1])), (ytb, .inl (cyB, 120, .inl yTb)), (ytn, .inl (cyI, 60, .inl o14.2.2))]) (va_runV (As := [.int (v9 + 1)]) (rest := []) ⟨hx, hb, hml, hown, hts⟩ (c_X2_readNumber l dC dI cyI cyJ cyB cyS cyD yt ytb ytn H.size yTl v4 o12.2 yTb o10.2.2 (v9 + 1) ho14) (cwV 1 hts gX2_read_X2_readNumber rfl rfl rfl (by decide +kernel) ⟨Nat.le_of_ble_eq_true rfl, Nat.le_of_ble_eq_true rfl⟩) ⟨cPre_blind, va_recv hK hP (ci := 2) (q0 := 0) rfl rfl, x_pre hN hP hD hK [0, 1, 2] rfl rfl⟩ rfl rfl hl.1 rfl (lv_room (Nat.le_of_ble_eq_true rfl)) dX2_read_54 ⟨Nat.le_of_ble_eq_true rfl, Nat.le_of_ble_eq_true rfl⟩) hP hD hS hA [0, 1, 2] [] [0, 1, 2] rfl rfl rfl (by decide) rfl rfl (fun H locs hP hD hS => ?_)
              refine lv_if_eq (tgt := 88) hx hb dX2_read_57 (by decide) (fun c15 => ?_) (fun c15 => ?_)
              · have hF := ite_t hF c15
                refine lv_aload_n hx hb dX2_read_88 rfl (lv_at hl 1 rfl) ?_
                refine va_get (D := (dC, dI)) (ci := 2) (v := .int o14.2.1) (C := RX2) (T := TX2) (N := 5) hx hb hts iX2_read_X2 hown hK hP 0 rfl rfl 4 (by decide) (hts _ kX2_read_2) (fun _ h9 => h9) rfl dX2_read_89 ?_
                obtain rfl := some_e hF
                exact W.iret (v := o14.2.1) hx hb hr (fun t ht hW => ⟨⟨o14.2.1, (), rfl, rfl, ⟨by rw [ht]; exact hP, va_K.moved hW.alike hK, hD⟩⟩, hS.F ht⟩) hS.2.2 dX2_read_92
              · have hF := ite_f hF c15
                refine lv_aload_n hx hb dX2_read_60 rfl (lv_at hl 1 rfl) ?_
                refine lv_bipush (v := 44) hx hb dX2_read_61 (by decide) ?_
                obtain ⟨o16, ho16, hF⟩ := ob_e hF
                refine x_calli (wr := []) (ws' := [(yt, .inr (2, [.ref ytb, .int yTl, .ref ytn, .int v4, .int o16.2])), (ytb, .inl (cyB, 120, .inl yTb)), (ytn, .inl (cyI, 60, .inl o14.2.2))]) (va_runV (As := [.int 44]) (rest := []) ⟨hx, hb, hml, hown, hts⟩ (c_X2_readSign l dC dI cyI cyJ cyB cyS cyD yt ytb ytn H.size yTl v4 o14.2.1 yTb o14.2.2 44 ho16) (cwV 1 hts gX2_read_X2_readSign rfl rfl rfl (by decide +kernel) ⟨Nat.le_of_ble_eq_true rfl, Nat.le_of_ble_eq_true rfl⟩) ⟨cPre_blind, va_recv hK hP (ci := 2) (q0 := 0) rfl rfl, x_pre hN hP hD hK [0, 1, 2] rfl rfl⟩ rfl rfl hl.1 rfl (lv_room (Nat.le_of_ble_eq_true rfl)) dX2_read_63 ⟨Nat.le_of_ble_eq_true rfl, Nat.le_of_ble_eq_true rfl⟩) hP hD hS hA [0, 1, 2] [] [0, 1, 2] rfl rfl rfl (by decide) rfl rfl (fun H locs hP hD hS => ?_)
                refine lv_if_eq (tgt := 88) hx hb dX2_read_66 (by decide) (fun c17 => ?_) (fun c17 => ?_)
                · have hF := ite_t hF c17
                  refine lv_aload_n hx hb dX2_read_88 rfl (lv_at hl 1 rfl) ?_
                  refine va_get (D := (dC, dI)) (ci := 2) (v := .int o16.2) (C := RX2) (T := TX2) (N := 5) hx hb hts iX2_read_X2 hown hK hP 0 rfl rfl 4 (by decide) (hts _ kX2_read_2) (fun _ h9 => h9) rfl dX2_read_89 ?_
                  obtain rfl := some_e hF
                  exact W.iret (v := o16.2) hx hb hr (fun t ht hW => ⟨⟨o16.2, (), rfl, rfl, ⟨by rw [ht]; exact hP, va_K.moved hW.alike hK, hD⟩⟩, hS.F ht⟩) hS.2.2 dX2_read_92
                · have hF := ite_f hF c17
                  refine lv_aload_n hx hb dX2_read_69 rfl (lv_at hl 1 rfl) ?_
                  refine lv_iload_n hx hb dX2_read_70 rfl (lv_at hl 0 rfl) ?_
                  refine lv_iconst (v := 2) hx hb dX2_read_71 (by decide) ?_
                  refine lv_iadd hx hb dX2_read_72 ?_
                  obtain ⟨o18, ho18, hF⟩ := ob_e hF
                  refine x_calli (wr := []) (ws' := [(yt, .inr (2, [.ref ytb, .int yTl, .ref ytn, .int v4, .int o18.2.1])), (ytb, .inl (cyB, 120, .inl yTb)), (ytn, .inl (cyI, 60, .inl o18.2.2))]) (va_runV (As := [.int (v9 + 2)]) (rest := []) ⟨hx, hb, hml, hown, hts⟩ (c_X2_readNumber l dC dI cyI cyJ cyB cyS cyD yt ytb ytn H.size yTl v4 o16.2 yTb o14.2.2 (v9 + 2) ho18) (cwV 1 hts gX2_read_X2_readNumber rfl rfl rfl (by decide +kernel) ⟨Nat.le_of_ble_eq_true rfl, Nat.le_of_ble_eq_true rfl⟩) ⟨cPre_blind, va_recv hK hP (ci := 2) (q0 := 0) rfl rfl, x_pre hN hP hD hK [0, 1, 2] rfl rfl⟩ rfl rfl hl.1 rfl (lv_room (Nat.le_of_ble_eq_true rfl)) dX2_read_73 ⟨Nat.le_of_ble_eq_true rfl, Nat.le_of_ble_eq_true rfl⟩) hP hD hS hA [0, 1, 2] [] [0, 1, 2] rfl rfl rfl (by decide) rfl rfl (fun H locs hP hD hS => ?_)
                  refine lv_if_eq (tgt := 88) hx hb dX2_read_76 (by decide) (fun c19 => ?_) (fun c19 => ?_)
                  · have hF := ite_t hF c19
                    refine lv_aload_n hx hb dX2_read_88 rfl (lv_at hl 1 rfl) ?_
                    refine va_get (D := (dC, dI)) (ci := 2) (v := .int o18.2.1) (C := RX2) (T := TX2) (N := 5) hx hb hts iX2_read_X2 hown hK hP 0 rfl rfl 4 (by decide) (hts _ kX2_read_2) (fun _ h9 => h9) rfl dX2_read_89 ?_
                    obtain rfl := some_e hF
                    exact W.iret (v := o18.2.1) hx hb hr (fun t ht hW => ⟨⟨o18.2.1, (), rfl, rfl, ⟨by rw [ht]; exact hP, va_K.moved hW.alike hK, hD⟩⟩, hS.F ht⟩) hS.2.2 dX2_read_92
                  · have hF := ite_f hF c19
                    refine lv_aload_n hx hb dX2_read_79 rfl (lv_at hl 1 rfl) ?_
                    refine lv_bipush (v := 59) hx hb dX2_read_80 (by decide) ?_
                    obtain ⟨o20, ho20, hF⟩ := ob_e hF
                    refine x_calli (wr := []) (ws' := [(yt, .inr (2, [.ref ytb, .int yTl, .ref ytn, .int v4, .int o20.2])), (ytb, .inl (cyB, 120, .inl yTb)), (ytn, .inl (cyI, 60, .inl o18.2.2))]) (va_runV (As := [.int 59]) (rest := []) ⟨hx, hb, hml, hown, hts⟩ (c_X2_readSign l dC dI cyI cyJ cyB cyS cyD yt ytb ytn H.size yTl v4 o18.2.1 yTb o18.2.2 59 ho20) (cwV 1 hts gX2_read_X2_readSign rfl rfl rfl (by decide +kernel) ⟨Nat.le_of_ble_eq_true rfl, Nat.le_of_ble_eq_true rfl⟩) ⟨cPre_blind, va_recv hK hP (ci := 2) (q0 := 0) rfl rfl, x_pre hN hP hD hK [0, 1, 2] rfl rfl⟩ rfl rfl hl.1 rfl (lv_room (Nat.le_of_ble_eq_true rfl)) dX2_read_82 ⟨Nat.le_of_ble_eq_true rfl, Nat.le_of_ble_eq_true rfl⟩) hP hD hS hA [0, 1, 2] [] [0, 1, 2] rfl rfl rfl (by decide) rfl rfl (fun H locs hP hD hS => ?_)
                    refine lv_if_ne (tgt := 93) hx hb dX2_read_85 (by decide) (fun c21 => ?_) (fun c21 => ?_)
                    · have hF := ite_f hF c21
                      refine lv_aload_n hx hb dX2_read_93 rfl (lv_at hl 1 rfl) ?_
                      refine lv_dup hx hb dX2_read_94 rfl ?_
                      refine va_get (D := (dC, dI)) (ci := 2) (v := .int v4) (C := RX2) (T := TX2) (N := 5) hx hb hts iX2_read_X2 hown hK hP 0 rfl rfl 3 (by decide) (hts _ kX2_read_1) (fun _ h9 => h9) rfl dX2_read_95 ?_
                      refine lv_iconst (v := 1) hx hb dX2_read_98 (by decide) ?_
                      refine lv_iadd hx hb dX2_read_99 ?_
                      obtain ⟨v22, hv22, hF⟩ := lt_e hF
                      refine x_topi hv22 ?_
                      refine x_put (D := (dC, dI)) (ci := 2) (v := .int v22) (ty := .int) (C := RX2) (T := TX2) (N := 5) (ws' := [(yt, .inr (2, [.ref ytb, .int yTl, .ref ytn, .int v22, .int o20.2])), (ytb, .inl (cyB, 120, .inl yTb)), (ytn, .inl (cyI, 60, .inl o18.2.2))]) hx hb hts iX2_read_X2 tyX2 tyX2_ok nmX2 hown hK hP hD hS 0 rfl rfl 3 (by decide) (hts _ kX2_read_1) (fun _ h9 => h9) rfl (by decide +kernel) rfl rfl (Nat.le_of_ble_eq_true rfl) rfl dX2_read_100 (fun H locs hP hD hS => ?_)
                      obtain ⟨v23, hv23, hF⟩ := lt_e hF
                      refine lv_iinc (v := v23) (lv' := [(1, .int v23), (2, .int v9), (0, .ref yt)]) hx hb dX2_read_103 hl (k := 2) rfl (by rw [hv23]; rfl) (by decide) rfl (fun ls hl => ?_)
                      refine lv_goto (tgt := 12) hx hb dX2_read_106 (by decide) ?_
                      exact ihn1 _ _ _ _ _ _ _ _ hF hP hD hS (lv_sub hl [2, 0] rfl) kxn1
                    · have hF := ite_t hF c21
                      refine lv_aload_n hx hb dX2_read_88 rfl (lv_at hl 1 rfl) ?_
                      refine va_get (D := (dC, dI)) (ci := 2) (v := .int o20.2) (C := RX2) (T := TX2) (N := 5) hx hb hts iX2_read_X2 hown hK hP 0 rfl rfl 4 (by decide) (hts _ kX2_read_2) (fun _ h9 => h9) rfl dX2_read_89 ?_
                      obtain rfl := some_e hF
                      exact W.iret (v := o20.2) hx hb hr (fun t ht hW => ⟨⟨o20.2, (), rfl, rfl, ⟨by rw [ht]; exact hP, va_K.moved hW.alike hK, hD⟩⟩, hS.F ht⟩) hS.2.2 dX2_read_92
  refine Ln1 _ _ _ _ _ _ _ _ _ hF hP hD hS (lv_sub hl [1, 0] rfl) (fun x24 H locs ls hF hP hD hS hl => ?_)
  refine lv_iconst (v := (-1)) hx hb dX2_read_109 (by decide) ?_
  obtain rfl := some_e hF
  exact W.iret (v := (-1)) hx hb hr (fun t ht hW => ⟨⟨(-1), (), rfl, rfl, ⟨by rw [ht]; exact hP, va_K.moved hW.alike hK, hD⟩⟩, hS.F ht⟩) hS.2.2 dX2_read_110
def F_X2_number (yTn : Nat → Int32) (w1 : Int32) (w2 : Int32) : Option (Int32) := ck (inb ((3 * w1) + w2) 60) (some (yTn (((3 * w1) + w2).toNatClampNeg)))
theorem kX2_number_1 : (Cond.fieldLink RX2 19 "SelfTuner$SampleText" "numbers" "[I") ∈ wsX2_number := List.mem_of_getElem? (i := 1) rfl
theorem iX2_number_X2 : ∀ w ∈ wsX20, w ∈ wsX2_number := fun w h => List.mem_cons_of_mem _ (List.mem_append_right _ h)
set_option maxHeartbeats 4000000 in
set_option maxRecDepth 100000 in
theorem c_X2_number (l : Launch) (dC : Nat → ClassId) (dI : Nat → Nat → Nat) (cyI cyJ cyB cyS cyD : ClassId) (yt : Nat) (ytb : Nat) (ytn : Nat) (sz : Nat) (yTl : Int32) (yTs : Int32) (yTp : Int32) (yTb : Nat → Int32) (yTn : Nat → Int32) (w1 : Int32) (w2 : Int32) {out : Int32} (hF : F_X2_number yTn w1 w2 = some out) : Mi l yX2_number wsX2_number ({ frames := 0, cells := 0, slots := 0, locals := 0 } : Room) (dC, dI) [(cyI, .int), (cyJ, .long), (cyB, .byte), (cyS, .object "SelfTuner$State"), (cyD, .double)] sz [.ref yt, .int w1, .int w2] [(yt, .inr (2, [.ref ytb, .int yTl, .ref ytn, .int yTs, .int yTp])), (ytb, .inl (cyB, 120, .inl yTb)), (ytn, .inl (cyI, 60, .inl yTn))] out [(yt, .inr (2, [.ref ytb, .int yTl, .ref ytn, .int yTs, .int yTp])), (ytb, .inl (cyB, 120, .inl yTb)), (ytn, .inl (cyI, 60, .inl yTn))] := by
  refine Met.ofW (cc := cX2_number) (maxL := 3) (ret := (some .int)) (by decide) rfl ?_
  intro p e s m args below meth c s₁ B hml hv
  obtain ⟨rfl, hN, hsz, hP, hK, hD0⟩ := hv
  have hx := B.exec
  have hb := B.bytes
  have hr := B.returns
  have hts := atoms_spec (ws := wsX2_number) B.pre
  have hown : s.vm.findClass RX2 = some m.cls := findClass_of_methodNamed B.named
  have hlocks := B.notSynchronized
  subst hsz
  have hD := hD0.self (sz := s.heap.size)
  generalize hAe : va_A [(yt, .inr (2, [.ref ytb, .int yTl, .ref ytn, .int yTs, .int yTp])), (ytb, .inl (cyB, 120, .inl yTb)), (ytn, .inl (cyI, 60, .inl yTn))] s.heap.size = A at hD ⊢
  have hA : ∀ q : Nat, s.heap.size ≤ q → A q := fun q h => by rw [← hAe]; exact Or.inr h
  have hS : va_S A s.heap s.heap [] := va_S.rf
  have hP : va_P (dC, dI) vwCl [(yt, .inr (2, [.ref ytb, .int yTl, .ref ytn, .int yTs, .int yTp])), (ytb, .inl (cyB, 120, .inl yTb)), (ytn, .inl (cyI, 60, .inl yTn))] s.heap := hP
  have hl := lv_entry ([.ref yt, .int w1, .int w2]) (n := 3) (Nat.le_of_ble_eq_true rfl)
  rw [lg_entry_eq]
  generalize (lg_sl ([.ref yt, .int w1, .int w2]) ++ List.replicate (3 - (lg_sl ([.ref yt, .int w1, .int w2])).length) Slot.unset).toArray = ls at hl ⊢
  have hl : lv_has ls 3 [(0, .ref yt), (1, .int w1), (2, .int w2)] := hl
  unfold F_X2_number at hF
  refine lv_aload_n hx hb dX2_number_0 rfl (lv_at hl 0 rfl) ?_
  refine va_get (D := (dC, dI)) (ci := 2) (v := .ref ytn) (C := RX2) (T := TX2) (N := 5) hx hb hts iX2_number_X2 hown hK hP 0 rfl rfl 2 (by decide) (hts _ kX2_number_1) (fun _ h9 => h9) rfl dX2_number_1 ?_
  refine lv_iconst (v := 3) hx hb dX2_number_4 (by decide) ?_
  refine lv_iload_n hx hb dX2_number_5 rfl (lv_at hl 1 rfl) ?_
  refine lv_imul hx hb dX2_number_6 ?_
  refine lv_iload_n hx hb dX2_number_7 rfl (lv_at hl 2 rfl) ?_
  refine lv_iadd hx hb dX2_number_8 ?_
  obtain ⟨g1, hF⟩ := ck_e hF
  refine x_iald hx hb hK hP 2 0 rfl rfl rfl g1 dX2_number_9 ?_
  obtain rfl := some_e hF
  exact W.iret (v := yTn (((3 * w1) + w2).toNatClampNeg)) hx hb hr (fun t ht hW => ⟨⟨yTn (((3 * w1) + w2).toNatClampNeg), (), rfl, rfl, ⟨by rw [ht]; exact hP, va_K.moved hW.alike hK, hD⟩⟩, hS.F ht⟩) hS.2.2 dX2_number_10
def F_X2_firstOutOfRange_2 (yTs : Int32) (yTn : Nat → Int32) : Nat → ((Unit) → Option (Int32)) → Int32 → Option (Int32)
  | 0, _, _ => none
  | n1 + 1, K2, v3 => if (yTs : Int32) ≤ v3 then (K2 ()) else (ob (F_X2_number yTn v3 0) (fun o5 => ob (F_X5_isWithin o5 (-2000) 2000) (fun o6 => if (o6 : Int32) = 0 then (some v3) else (ob (F_X2_number yTn v3 1) (fun o8 => ob (F_X5_isWithin o8 (-2000) 2000) (fun o9 => if (o9 : Int32) = 0 then (some v3) else (ob (F_X2_number yTn v3 2) (fun o11 => ob (F_X5_isWithin o11 (-4000) 4000) (fun o12 => if (o12 : Int32) = 0 then (some v3) else (lt_ (α := Int32) (v3 + 1) (fun v14 => F_X2_firstOutOfRange_2 yTs yTn n1 K2 v14)))))))))))
def F_X2_firstOutOfRange (yTs : Int32) (yTn : Nat → Int32) : Option (Int32) := F_X2_firstOutOfRange_2 yTs yTn 1000 (fun x15 => some (-1)) 0
theorem kX2_firstOutOfRange_1 : (Cond.fieldLink RX2 23 "SelfTuner$SampleText" "samples" "I") ∈ wsX2_firstOutOfRange := List.mem_of_getElem? (i := 1) rfl
theorem kX2_firstOutOfRange_8 : (Cond.static yX5_isWithin) ∈ wsX2_firstOutOfRange := List.mem_of_getElem? (i := 8) rfl
theorem kX2_firstOutOfRange_9 : (Cond.initialized RX5) ∈ wsX2_firstOutOfRange := List.mem_of_getElem? (i := 9) rfl
theorem iX2_firstOutOfRange_X2 : ∀ w ∈ wsX20, w ∈ wsX2_firstOutOfRange := fun w h => List.mem_cons_of_mem _ (List.mem_append_right _ h)
set_option maxHeartbeats 4000000 in
set_option maxRecDepth 100000 in
theorem c_X2_firstOutOfRange (l : Launch) (dC : Nat → ClassId) (dI : Nat → Nat → Nat) (cyI cyJ cyB cyS cyD : ClassId) (yt : Nat) (ytb : Nat) (ytn : Nat) (sz : Nat) (yTl : Int32) (yTs : Int32) (yTp : Int32) (yTb : Nat → Int32) (yTn : Nat → Int32) {out : Int32} (hF : F_X2_firstOutOfRange yTs yTn = some out) : Mi l yX2_firstOutOfRange wsX2_firstOutOfRange ({ frames := 1, cells := 0, slots := 0, locals := 22 } : Room) (dC, dI) [(cyI, .int), (cyJ, .long), (cyB, .byte), (cyS, .object "SelfTuner$State"), (cyD, .double)] sz [.ref yt] [(yt, .inr (2, [.ref ytb, .int yTl, .ref ytn, .int yTs, .int yTp])), (ytb, .inl (cyB, 120, .inl yTb)), (ytn, .inl (cyI, 60, .inl yTn))] out [(yt, .inr (2, [.ref ytb, .int yTl, .ref ytn, .int yTs, .int yTp])), (ytb, .inl (cyB, 120, .inl yTb)), (ytn, .inl (cyI, 60, .inl yTn))] := by
  refine Met.ofW (cc := cX2_firstOutOfRange) (maxL := 2) (ret := (some .int)) (by decide) rfl ?_
  intro p e s m args below meth c s₁ B hml hv
  obtain ⟨rfl, hN, hsz, hP, hK, hD0⟩ := hv
  have hx := B.exec
  have hb := B.bytes
  have hr := B.returns
  have hts := atoms_spec (ws := wsX2_firstOutOfRange) B.pre
  have hown : s.vm.findClass RX2 = some m.cls := findClass_of_methodNamed B.named
  have hlocks := B.notSynchronized
  subst hsz
  have hD := hD0.self (sz := s.heap.size)
  generalize hAe : va_A [(yt, .inr (2, [.ref ytb, .int yTl, .ref ytn, .int yTs, .int yTp])), (ytb, .inl (cyB, 120, .inl yTb)), (ytn, .inl (cyI, 60, .inl yTn))] s.heap.size = A at hD ⊢
  have hA : ∀ q : Nat, s.heap.size ≤ q → A q := fun q h => by rw [← hAe]; exact Or.inr h
  have hS : va_S A s.heap s.heap [] := va_S.rf
  have hP : va_P (dC, dI) vwCl [(yt, .inr (2, [.ref ytb, .int yTl, .ref ytn, .int yTs, .int yTp])), (ytb, .inl (cyB, 120, .inl yTb)), (ytn, .inl (cyI, 60, .inl yTn))] s.heap := hP
  have hl := lv_entry ([.ref yt]) (n := 2) (Nat.le_of_ble_eq_true rfl)
  rw [lg_entry_eq]
  generalize (lg_sl ([.ref yt]) ++ List.replicate (2 - (lg_sl ([.ref yt])).length) Slot.unset).toArray = ls at hl ⊢
  have hl : lv_has ls 2 [(0, .ref yt)] := hl
  unfold F_X2_firstOutOfRange at hF
  refine lv_iconst (v := 0) hx hb dX2_firstOutOfRange_0 (by decide) ?_
  refine lv_istore_n (lv' := [(1, .int 0), (0, .ref yt)]) hx hb dX2_firstOutOfRange_1 rfl hl (by decide) rfl (fun ls hl => ?_)
  have Ln1 : ∀ (n1 : Nat) (K2 : (Unit) → Option (Int32)) (v3 : Int32) (H : Heap) (locs : List Loc) (ls : Array Slot), F_X2_firstOutOfRange_2 yTs yTn n1 K2 v3 = some out → va_P (dC, dI) vwCl [(yt, .inr (2, [.ref ytb, .int yTl, .ref ytn, .int yTs, .int yTp])), (ytb, .inl (cyB, 120, .inl yTb)), (ytn, .inl (cyI, 60, .inl yTn))] H → va_D A [(yt, .inr (2, [.ref ytb, .int yTl, .ref ytn, .int yTs, .int yTp])), (ytb, .inl (cyB, 120, .inl yTb)), (ytn, .inl (cyI, 60, .inl yTn))] → va_S A s.heap H locs → lv_has ls 2 [(0, .ref yt), (1, .int v3)] → (∀ (x15 : Unit) (H : Heap) (locs : List Loc) (ls : Array Slot), K2 x15 = some out → va_P (dC, dI) vwCl [(yt, .inr (2, [.ref ytb, .int yTl, .ref ytn, .int yTs, .int yTp])), (ytb, .inl (cyB, 120, .inl yTb)), (ytn, .inl (cyI, 60, .inl yTn))] H → va_D A [(yt, .inr (2, [.ref ytb, .int yTl, .ref ytn, .int yTs, .int yTp])), (ytb, .inl (cyB, 120, .inl yTb)), (ytn, .inl (cyI, 60, .inl yTn))] → va_S A s.heap H locs → lv_has ls 2 [] → W p l e (headSpec wsX2_firstOutOfRange ({ frames := 1, cells := 0, slots := 0, locals := 22 } : Room)).room s m ([.ref yt] : List Value).toArray below meth c H locs 0 0 (MQ below (va_Qi (fun (r' : Int32) (_ : Unit) => r' = out) (cPost (dC, dI) [(cyI, .int), (cyJ, .long), (cyB, .byte), (cyS, .object "SelfTuner$State"), (cyD, .double)] [(yt, .inr (2, [.ref ytb, .int yTl, .ref ytn, .int yTs, .int yTp])), (ytb, .inl (cyB, 120, .inl yTb)), (ytn, .inl (cyI, 60, .inl yTn))] A) A) ([.ref yt] : List Value).toArray s 0 0 A) (F0 m 72 ls [])) → W p l e (headSpec wsX2_firstOutOfRange ({ frames := 1, cells := 0, slots := 0, locals := 22 } : Room)).room s m ([.ref yt] : List Value).toArray below meth c H locs 0 0 (MQ below (va_Qi (fun (r' : Int32) (_ : Unit) => r' = out) (cPost (dC, dI) [(cyI, .int), (cyJ, .long), (cyB, .byte), (cyS, .object "SelfTuner$State"), (cyD, .double)] [(yt, .inr (2, [.ref ytb, .int yTl, .ref ytn, .int yTs, .int yTp])), (ytb, .inl (cyB, 120, .inl yTb)), (ytn, .inl (cyI, 60, .inl yTn))] A) A) ([.ref yt] : List Value).toArray s 0 0 A) (F0 m 2 ls []) := by
    intro n1
    induction n1 with
    | zero => intro K2 v3 H locs ls hF; exact no_e (show none = some out from hF)
    | succ n1 ihn1 =>
      intro K2 v3 H locs ls hF hP hD hS hl kxn1
      rw [F_X2_firstOutOfRange_2] at hF
      refine lv_iload_n hx hb dX2_firstOutOfRange_2 rfl (lv_at hl 1 rfl) ?_
      refine lv_aload_n hx hb dX2_firstOutOfRange_3 rfl (lv_at hl 0 rfl) ?_
      refine va_get (D := (dC, dI)) (ci := 2) (v := .int yTs) (C := RX2) (T := TX2) (N := 5) hx hb hts iX2_firstOutOfRange_X2 hown hK hP 0 rfl rfl 3 (by decide) (hts _ kX2_firstOutOfRange_1) (fun _ h9 => h9) rfl dX2_firstOutOfRange_4 ?_
      refine lv_icmp_ge (tgt := 72) hx hb dX2_firstOutOfRange_7 (by decide) (fun c4 => ?_) (fun c4 => ?_)
      · have hF := ite_t hF c4
        exact kxn1 _ _ _ _ hF hP hD hS (lv_sub hl [] rfl)
      · have hF := ite_f hF c4
        refine lv_aload_n hx hb dX2_firstOutOfRange_10 rfl (lv_at hl 0 rfl) ?_
        refine lv_iload_n hx hb dX2_firstOutOfRange_11 rfl (lv_at hl 1 rfl) ?_
        refine lv_iconst (v := 0) hx hb dX2_firstOutOfRange_12 (by decide) ?_
        obtain ⟨o5, ho5, hF⟩ := ob_e hF
        refine x_calli (wr := []) (ws' := [(yt, .inr (2, [.ref ytb, .int yTl, .ref ytn, .int yTs, .int yTp])), (ytb, .inl (cyB, 120, .inl yTb)), (ytn, .inl (cyI, 60, .inl yTn))]) (va_runV (As := [.int v3, .int 0]) (rest := []) ⟨hx, hb, hml, hown, hts⟩ (c_X2_number l dC dI cyI cyJ cyB cyS cyD yt ytb ytn H.size yTl yTs yTp yTb yTn v3 0 ho5) (cwV 2 hts gX2_firstOutOfRange_X2_number rfl rfl rfl (by decide +kernel) ⟨Nat.le_of_ble_eq_true rfl, Nat.le_of_ble_eq_true rfl⟩) ⟨cPre_blind, va_recv hK hP (ci := 2) (q0 := 0) rfl rfl, x_pre hN hP hD hK [0, 1, 2] rfl rfl⟩ rfl rfl hl.1 rfl (lv_room (Nat.le_of_ble_eq_true rfl)) dX2_firstOutOfRange_13 ⟨Nat.le_of_ble_eq_true rfl, Nat.le_of_ble_eq_true rfl⟩) hP hD hS hA [0, 1, 2] [] [0, 1, 2] rfl rfl rfl (by decide) rfl rfl (fun H locs hP hD hS => ?_)
        refine lv_sipush (v := (-2000)) hx hb dX2_firstOutOfRange_16 (by decide) ?_
        refine lv_sipush (v := 2000) hx hb dX2_firstOutOfRange_19 (by decide) ?_
        obtain ⟨o6, ho6, hF⟩ := ob_e hF
        refine x_callzi (va_runSN (As := [.int o5, .int (-2000), .int 2000]) (rest := []) ⟨hx, hb, hml, hown, hts⟩ (c_X5_isWithin l o5 (-2000) 2000 ho6) ⟨va_cnB 3 hts gX2_firstOutOfRange_X5_isWithin_n40 rfl rfl rfl (nm_X2_40 hN) (hts _ kX2_firstOutOfRange_9) (by decide +kernel) ⟨Nat.le_of_ble_eq_true rfl, Nat.le_of_ble_eq_true rfl⟩, hts _ kX2_firstOutOfRange_8, trivial⟩ ⟨true_blind, fun _ _ _ => ⟨rfl, trivial⟩⟩ rfl rfl hl.1 rfl (lv_room (Nat.le_of_ble_eq_true rfl)) dX2_firstOutOfRange_22 ⟨Nat.le_of_ble_eq_true rfl, Nat.le_of_ble_eq_true rfl⟩) ?_
        refine lv_if_eq (tgt := 64) hx hb dX2_firstOutOfRange_25 (by decide) (fun c7 => ?_) (fun c7 => ?_)
        · have hF := ite_t hF c7
          refine lv_iload_n hx hb dX2_firstOutOfRange_64 rfl (lv_at hl 1 rfl) ?_
          obtain rfl := some_e hF
          exact W.iret (v := v3) hx hb hr (fun t ht hW => ⟨⟨v3, (), rfl, rfl, ⟨by rw [ht]; exact hP, va_K.moved hW.alike hK, hD⟩⟩, hS.F ht⟩) hS.2.2 dX2_firstOutOfRange_65
        · have hF := ite_f hF c7
          refine lv_aload_n hx hb dX2_firstOutOfRange_28 rfl (lv_at hl 0 rfl) ?_
          refine lv_iload_n hx hb dX2_firstOutOfRange_29 rfl (lv_at hl 1 rfl) ?_
          refine lv_iconst (v := 1) hx hb dX2_firstOutOfRange_30 (by decide) ?_
          obtain ⟨o8, ho8, hF⟩ := ob_e hF
          refine x_calli (wr := []) (ws' := [(yt, .inr (2, [.ref ytb, .int yTl, .ref ytn, .int yTs, .int yTp])), (ytb, .inl (cyB, 120, .inl yTb)), (ytn, .inl (cyI, 60, .inl yTn))]) (va_runV (As := [.int v3, .int 1]) (rest := []) ⟨hx, hb, hml, hown, hts⟩ (c_X2_number l dC dI cyI cyJ cyB cyS cyD yt ytb ytn H.size yTl yTs yTp yTb yTn v3 1 ho8) (cwV 2 hts gX2_firstOutOfRange_X2_number rfl rfl rfl (by decide +kernel) ⟨Nat.le_of_ble_eq_true rfl, Nat.le_of_ble_eq_true rfl⟩) ⟨cPre_blind, va_recv hK hP (ci := 2) (q0 := 0) rfl rfl, x_pre hN hP hD hK [0, 1, 2] rfl rfl⟩ rfl rfl hl.1 rfl (lv_room (Nat.le_of_ble_eq_true rfl)) dX2_firstOutOfRange_31 ⟨Nat.le_of_ble_eq_true rfl, Nat.le_of_ble_eq_true rfl⟩) hP hD hS hA [0, 1, 2] [] [0, 1, 2] rfl rfl rfl (by decide) rfl rfl (fun H locs hP hD hS => ?_)
          refine lv_sipush (v := (-2000)) hx hb dX2_firstOutOfRange_34 (by decide) ?_
          refine lv_sipush (v := 2000) hx hb dX2_firstOutOfRange_37 (by decide) ?_
          obtain ⟨o9, ho9, hF⟩ := ob_e hF
          refine x_callzi (va_runSN (As := [.int o8, .int (-2000), .int 2000]) (rest := []) ⟨hx, hb, hml, hown, hts⟩ (c_X5_isWithin l o8 (-2000) 2000 ho9) ⟨va_cnB 3 hts gX2_firstOutOfRange_X5_isWithin_n40 rfl rfl rfl (nm_X2_40 hN) (hts _ kX2_firstOutOfRange_9) (by decide +kernel) ⟨Nat.le_of_ble_eq_true rfl, Nat.le_of_ble_eq_true rfl⟩, hts _ kX2_firstOutOfRange_8, trivial⟩ ⟨true_blind, fun _ _ _ => ⟨rfl, trivial⟩⟩ rfl rfl hl.1 rfl (lv_room (Nat.le_of_ble_eq_true rfl)) dX2_firstOutOfRange_40 ⟨Nat.le_of_ble_eq_true rfl, Nat.le_of_ble_eq_true rfl⟩) ?_
          refine lv_if_eq (tgt := 64) hx hb dX2_firstOutOfRange_43 (by decide) (fun c10 => ?_) (fun c10 => ?_)
          · have hF := ite_t hF c10
            refine lv_iload_n hx hb dX2_firstOutOfRange_64 rfl (lv_at hl 1 rfl) ?_
            obtain rfl := some_e hF
            exact W.iret (v := v3) hx hb hr (fun t ht hW => ⟨⟨v3, (), rfl, rfl, ⟨by rw [ht]; exact hP, va_K.moved hW.alike hK, hD⟩⟩, hS.F ht⟩) hS.2.2 dX2_firstOutOfRange_65
          · have hF := ite_f hF c10
            refine lv_aload_n hx hb dX2_firstOutOfRange_46 rfl (lv_at hl 0 rfl) ?_
            refine lv_iload_n hx hb dX2_firstOutOfRange_47 rfl (lv_at hl 1 rfl) ?_
            refine lv_iconst (v := 2) hx hb dX2_firstOutOfRange_48 (by decide) ?_
            obtain ⟨o11, ho11, hF⟩ := ob_e hF
            refine x_calli (wr := []) (ws' := [(yt, .inr (2, [.ref ytb, .int yTl, .ref ytn, .int yTs, .int yTp])), (ytb, .inl (cyB, 120, .inl yTb)), (ytn, .inl (cyI, 60, .inl yTn))]) (va_runV (As := [.int v3, .int 2]) (rest := []) ⟨hx, hb, hml, hown, hts⟩ (c_X2_number l dC dI cyI cyJ cyB cyS cyD yt ytb ytn H.size yTl yTs yTp yTb yTn v3 2 ho11) (cwV 2 hts gX2_firstOutOfRange_X2_number rfl rfl rfl (by decide +kernel) ⟨Nat.le_of_ble_eq_true rfl, Nat.le_of_ble_eq_true rfl⟩) ⟨cPre_blind, va_recv hK hP (ci := 2) (q0 := 0) rfl rfl, x_pre hN hP hD hK [0, 1, 2] rfl rfl⟩ rfl rfl hl.1 rfl (lv_room (Nat.le_of_ble_eq_true rfl)) dX2_firstOutOfRange_49 ⟨Nat.le_of_ble_eq_true rfl, Nat.le_of_ble_eq_true rfl⟩) hP hD hS hA [0, 1, 2] [] [0, 1, 2] rfl rfl rfl (by decide) rfl rfl (fun H locs hP hD hS => ?_)
            refine lv_sipush (v := (-4000)) hx hb dX2_firstOutOfRange_52 (by decide) ?_
            refine lv_sipush (v := 4000) hx hb dX2_firstOutOfRange_55 (by decide) ?_
            obtain ⟨o12, ho12, hF⟩ := ob_e hF
            refine x_callzi (va_runSN (As := [.int o11, .int (-4000), .int 4000]) (rest := []) ⟨hx, hb, hml, hown, hts⟩ (c_X5_isWithin l o11 (-4000) 4000 ho12) ⟨va_cnB 3 hts gX2_firstOutOfRange_X5_isWithin_n40 rfl rfl rfl (nm_X2_40 hN) (hts _ kX2_firstOutOfRange_9) (by decide +kernel) ⟨Nat.le_of_ble_eq_true rfl, Nat.le_of_ble_eq_true rfl⟩, hts _ kX2_firstOutOfRange_8, trivial⟩ ⟨true_blind, fun _ _ _ => ⟨rfl, trivial⟩⟩ rfl rfl hl.1 rfl (lv_room (Nat.le_of_ble_eq_true rfl)) dX2_firstOutOfRange_58 ⟨Nat.le_of_ble_eq_true rfl, Nat.le_of_ble_eq_true rfl⟩) ?_
            refine lv_if_ne (tgt := 66) hx hb dX2_firstOutOfRange_61 (by decide) (fun c13 => ?_) (fun c13 => ?_)
            · have hF := ite_f hF c13
              obtain ⟨v14, hv14, hF⟩ := lt_e hF
              refine lv_iinc (v := v14) (lv' := [(1, .int v14), (0, .ref yt)]) hx hb dX2_firstOutOfRange_66 hl (k := 1) rfl (by rw [hv14]; rfl) (by decide) rfl (fun ls hl => ?_)
              refine lv_goto (tgt := 2) hx hb dX2_firstOutOfRange_69 (by decide) ?_
              exact ihn1 _ _ _ _ _ hF hP hD hS (lv_sub hl [1, 0] rfl) kxn1
            · have hF := ite_t hF c13
              refine lv_iload_n hx hb dX2_firstOutOfRange_64 rfl (lv_at hl 1 rfl) ?_
              obtain rfl := some_e hF
              exact W.iret (v := v3) hx hb hr (fun t ht hW => ⟨⟨v3, (), rfl, rfl, ⟨by rw [ht]; exact hP, va_K.moved hW.alike hK, hD⟩⟩, hS.F ht⟩) hS.2.2 dX2_firstOutOfRange_65
  refine Ln1 _ _ _ _ _ _ hF hP hD hS (lv_sub hl [1, 0] rfl) (fun x15 H locs ls hF hP hD hS hl => ?_)
  refine lv_iconst (v := (-1)) hx hb dX2_firstOutOfRange_72 (by decide) ?_
  obtain rfl := some_e hF
  exact W.iret (v := (-1)) hx hb hr (fun t ht hW => ⟨⟨(-1), (), rfl, rfl, ⟨by rw [ht]; exact hP, va_K.moved hW.alike hK, hD⟩⟩, hS.F ht⟩) hS.2.2 dX2_firstOutOfRange_73
