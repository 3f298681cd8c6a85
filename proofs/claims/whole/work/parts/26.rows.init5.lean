/-! OWN ROWS for SelfTuner(): the array of the saved states is made and filled -/
abbrev MnO (l : Launch) (y : MethodName) (w : List Cond) (rm : Room) (D : va_G) (tys : List (ClassId × FieldType)) (sz : Nat) (av : List Value) (ws : va_W) (W' : (Nat → Nat) → va_W) (mc ms : Nat) : Prop := Met l y w rm (va_Pc av (fun U => cPre D tys sz ws U ∧ va_AO RX3 U)) (va_Qv (fun (_ : Nat → Nat) => True) (fun (u : Nat → Nat) t => va_P D vwCl (W' u) t.heap ∧ va_K D vwCl tys t ∧ va_D (va_A ws sz) (W' u)) (va_A ws sz)) mc ms (va_A ws sz)
theorem cPreO_blind {av : List Value} {D : va_G} {tys : List (ClassId × FieldType)} {sz : Nat} {ws : va_W} : FrameBlind (va_Pc av (fun U => cPre D tys sz ws U ∧ va_AO RX3 U)) := fun a U g mk q => by
  obtain ⟨q0, qC, qO⟩ := q
  obtain ⟨-, q1⟩ := cPre_blind (av := av) a U g mk ⟨q0, qC⟩
  exact ⟨q0, q1, va_AO.moved (u := U) (U := U.calling g mk a) (Vm.Alike.refl U.vm) qO⟩
theorem x_preO {av : List Value} {D : va_G} {tys : List (ClassId × FieldType)} {ws wc : va_W} {A0 : Nat → Prop} {H : Heap} {s : State} (hN : NK s) (hO : va_AO RX3 s) (hP : va_P D vwCl ws H) (hD : va_D A0 ws) (hK : va_K D vwCl tys s) (isC : List Nat) (hC : isC.map (fun i => ws[i]?) = wc.map some) (hn : va_nd isC = true) : ∀ U : State, U.heap = H → s.WarmedH U.vm → va_Pc av (fun U => cPre D tys H.size wc U ∧ va_AO RX3 U) av.toArray U := by
  intro U hU hW
  obtain ⟨q0, q1⟩ := x_pre (av := av) hN hP hD hK isC hC hn U hU hW
  exact ⟨q0, q1, va_AO.moved hW.alike hO⟩
theorem x_fixq {D : va_G} {cl : List vw_C} {ws ws' : va_W} {H : Heap} {A : Nat → Prop} (hP : va_P D cl ws H) (hD : va_D A ws) (p : Nat) {a n : Nat} {c : ClassId} {f g : Nat → Option Nat} (ha : ws[p]? = some (a, .inl (c, n, .inr (.inr (.inr (.inr f)))))) (h : ∀ i, i < n → f i = g i) (hw : ws.set p (a, .inl (c, n, .inr (.inr (.inr (.inr g))))) = ws') : va_P D cl ws' H ∧ va_D A ws' := by
  subst hw
  refine ⟨hP.set hD ha ?_ (fun _ _ => rfl), hD.set ha⟩
  have h1 := hP p _ ha
  show H[a]? = some (vp_cell _ _)
  have e : arrV c n (fun j => va_rf (f j)) = arrV c n (fun j => va_rf (g j)) := by
    unfold arrV
    congr 1
    congr 1
    funext j
    show va_rf (f j.val) = va_rf (g j.val)
    rw [h j.val j.isLt]
  rw [vp_cell_q, ← e]
  exact h1
theorem all4 {P : Nat → Prop} (h0 : P 0) (h1 : P 1) (h2 : P 2) (h3 : P 3) : ∀ i, i < 4 → P i := fun i hi => by
  rcases (show i = 0 ∨ i = 1 ∨ i = 2 ∨ i = 3 by omega) with rfl | rfl | rfl | rfl
  · exact h0
  · exact h1
  · exact h2
  · exact h3
section XO
variable {p : Program} {l : Launch} {e : Env} {R : Room} {s : State} {m : MethodId} {args : Array Value} {below : List Frame} {meth : Method} {c : Code} {H : Heap} {locs : List Loc} {cells slots : Nat} {Q : State → Prop}
variable {cc : ByteArray} {pc : Nat} {ls : Array Slot} {rest : List Value} {D : va_G} {A : Nat → Prop} {a : Nat} {tys : List (ClassId × FieldType)} {ws : va_W} {H0 : Heap}
theorem x_newq (hexec : p.tables.exec = Jvm.exec) (hb : c.code = cc) {own : String} {index : Nat} (hown : s.vm.findClass own = some m.cls) (hclink : (Cond.classLink own index RX3).before args s = true) (hO : va_AO RX3 s) (hK : va_K D vwCl tys s) (hP : va_P D vwCl ws H) (hD : va_D A ws) (hS : va_S A H0 H locs) (hA : ∀ q, H0.size ≤ q → A q) (t0 : Nat) {cY : ClassId} (ht : tys[t0]? = some (cY, .object RX3)) {n : Int32} (N : Nat) (hn : n.toNatClampNeg = N ∧ ¬ n < 0) (hbytes : N * 4 ≤ 536870912) (hcells : cells + 1 ≤ R.cells) (hslots : slots + N ≤ R.slots) (hdg : decode cc pc = .ok (.anewarray index, 3))
    (kk : ∀ (q : Nat) (H1 : Heap), va_P D vwCl (ws ++ [(q, .inl (cY, N, .inr (.inr (.inr (.inr (fun _ => none))))))]) H1 → va_D A (ws ++ [(q, .inl (cY, N, .inr (.inr (.inr (.inr (fun _ => none))))))]) → va_S A H0 H1 locs → W p l e R s m args below meth c H1 locs (cells + 1) (slots + N) Q (F0 m (pc + 3) ls (.ref q :: rest))) : W p l e R s m args below meth c H locs cells slots Q (F0 m pc ls (.int n :: rest)) := by
  refine va_newq hexec hb hown hclink hO hK hP hD hS hA hn.2 hn.1 hbytes hcells hslots hdg (fun q cA H1 hK1 hP1 hD1 hS1 => ?_)
  obtain ⟨k1, c1, -, -, -, h1⟩ := (hK1.2 tys.length (cA, .object RX3) (by simp)).2
  obtain ⟨k2, c2, -, -, -, h2⟩ := (hK.2 t0 (cY, .object RX3) ht).2
  have e : cA = cY := Option.some.inj (h1.symm.trans h2)
  subst e
  exact kk q H1 hP1 hD1 hS1
end XO
