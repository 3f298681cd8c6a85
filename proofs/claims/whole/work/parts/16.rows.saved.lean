/-! OWN ROWS: the array of the saved states -/
theorem inb4 {x : Int32} (h : inb x 4) (h0 : ¬ x = 0) (h1 : ¬ x = 1) (h2 : ¬ x = 2) : x = 3 := by
  obtain ⟨j, hj, rfl⟩ := vp_in_of (n := 4) h (by decide)
  rcases (show j = 0 ∨ j = 1 ∨ j = 2 ∨ j = 3 by omega) with rfl | rfl | rfl | rfl
  · exact absurd rfl h0
  · exact absurd rfl h1
  · exact absurd rfl h2
  · rfl
theorem x_arrup (b : Nat → Nat → Nat) (k : Nat) (v : Nat → Nat) : (fun i => some ((va_up b k v) i 0)) = va_up (fun i => some (b i 0)) k (some (v 0)) := by
  funext i
  unfold va_up
  split <;> rfl
section XS
variable {p : Program} {l : Launch} {e : Env} {R : Room} {s : State} {m : MethodId} {args : Array Value} {below : List Frame} {meth : Method} {c : Code} {H : Heap} {locs : List Loc} {cells slots : Nat} {Q : State → Prop}
variable {cc : ByteArray} {pc : Nat} {ls : Array Slot} {rest : List Value} {D : va_G} {cl : List vw_C} {A : Nat → Prop} {a : Nat} {tys : List (ClassId × FieldType)} {ws ws' : va_W} {H0 : Heap}
theorem x_aldq (hexec : p.tables.exec = Jvm.exec) (hb : c.code = cc) (hK : va_K D cl tys s) (hP : va_P D cl ws H) (q0 t0 : Nat) {cA : ClassId} {n k v : Nat} {f : Nat → Option Nat} (ha : ws[q0]? = some (a, .inl (cA, n, .inr (.inr (.inr (.inr f)))))) (ht : tys[t0]? = some (cA, .object "SelfTuner$State")) {i : Int32} (hik : i.toNatClampNeg = k) (hin : vp_in i n) (hv : f k = some v) (hdg : decode cc pc = .ok (.aaload, 1))
    (kk : W p l e R s m args below meth c H locs cells slots Q (F0 m (pc + 1) ls (.ref v :: rest))) : W p l e R s m args below meth c H locs cells slots Q (F0 m pc ls (.int i :: .ref a :: rest)) := by
  refine va_aldq hexec hb hK hP q0 t0 ha ht hin hdg ?_
  rw [hik, hv]
  exact kk
theorem x_astq (hexec : p.tables.exec = Jvm.exec) (hb : c.code = cc) (hK : va_K D vwCl tys s) (hP : va_P D vwCl ws H) (hD : va_D A ws) (hS : va_S A H0 H locs) (q0 t0 qk ci : Nat) {cA : ClassId} {n k v : Nat} {vs : List Value} {f g : Nat → Option Nat} (ha : ws[q0]? = some (a, .inl (cA, n, .inr (.inr (.inr (.inr f)))))) (ht : tys[t0]? = some (cA, .object RX3)) (hv : ws[qk]? = some (v, .inr (ci, vs))) (hc : vwCl[ci]? = some (RX3, TX3, 3)) {i : Int32} (hik : i.toNatClampNeg = k) (hin : vp_in i n) (hg : g = va_up f k (some v)) (hw : ws.set q0 (a, .inl (cA, n, .inr (.inr (.inr (.inr g))))) = ws') (hdg : decode cc pc = .ok (.aastore, 1))
    (kk : ∀ (H1 : Heap) (locs1 : List Loc), va_P D vwCl ws' H1 → va_D A ws' → va_S A H0 H1 locs1 → W p l e R s m args below meth c H1 locs1 cells slots Q (F0 m (pc + 1) ls rest)) : W p l e R s m args below meth c H locs cells slots Q (F0 m pc ls (.ref v :: .int i :: .ref a :: rest)) := by
  subst hw hg hik
  exact va_astq (r := (RX3, TX3, 3)) hexec hb hK hP hD hS q0 t0 qk ci ha ht hv hc hin hdg kk
end XS
/-- a guard that nobody computes -/
noncomputable def ckc {α : Type} (c : Prop) (x : Option α) : Option α := @ck α c (Classical.propDecidable c) x
theorem ckc_e {α : Type} {c : Prop} {x : Option α} {r : α} (h : ckc c x = some r) : c ∧ x = some r := @ck_e α c (Classical.propDecidable c) x r h
theorem ckc_i {α : Type} {c : Prop} {x : Option α} (hc : c) : ckc c x = x := @ck_i α c (Classical.propDecidable c) x hc
