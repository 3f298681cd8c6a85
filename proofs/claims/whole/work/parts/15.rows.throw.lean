/-! OWN ROWS: methods that may throw. Their function answers .inl (what it answers and leaves) or .inr (the exception's class). -/
def obk {α β : Type} (oo : α ⊕ String) (f : α → Option (β ⊕ String)) (r : β ⊕ String) : Prop := match oo with
  | .inl v => f v = some r
  | .inr E => r = .inr E
def obx {α β : Type} (x : Option (α ⊕ String)) (f : α → Option (β ⊕ String)) : Option (β ⊕ String) := x.bind (fun oo => match oo with
  | .inl v => f v
  | .inr E => some (.inr E))
theorem obx_e {α β : Type} {x : Option (α ⊕ String)} {f : α → Option (β ⊕ String)} {r : β ⊕ String} (h : obx x f = some r) : ∃ oo, x = some oo ∧ obk oo f r := by
  cases x with
  | none => cases h
  | some oo =>
    refine ⟨oo, rfl, ?_⟩
    cases oo with
    | inl v => exact h
    | inr E => exact (Option.some.inj h).symm
theorem obx_i {α β : Type} {x : Option (α ⊕ String)} {f : α → Option (β ⊕ String)} {v : α} (h : x = some (.inl v)) : obx x f = f v := by rw [h]; rfl
theorem obx_x {α β : Type} {x : Option (α ⊕ String)} {f : α → Option (β ⊕ String)} {E : String} (h : x = some (.inr E)) : obx x f = some (.inr E) := by rw [h]; rfl
abbrev xIAE : String := "java/lang/IllegalArgumentException"
abbrev xIOB : String := "java/lang/IndexOutOfBoundsException"
abbrev xISE : String := "java/lang/IllegalStateException"
def NS : List (String × Nat × String) := [(RX5, 226, "an argument is out of range"), (RX5, 217, "there is no such parameter"), (RX5, 177, "the sample text is full"), (RX5, 197, "there is no saved state")]
def NC : List String := [xIAE, xIOB, xISE]
/-- what a throw needs of the start: the two statics, the texts, the classes -/
def TZ (A : Nat → Prop) (U : State) (H : Heap) : Prop := vx_Zq Bundle.tN "UNASSIGNED_STACK" Bundle.steD A U H ∧ vx_Zq Bundle.tN "SUPPRESSED_SENTINEL" Bundle.listD A U H
def ND : List String := ["java/lang/RuntimeException", "java/lang/Exception", "java/lang/Throwable"]
def NX : List (String × String) := [(xIAE, xIOB), (xISE, xIAE)]
def TK (U : State) : Prop := (∀ q ∈ NS, ∃ sa, vk_R q.1 q.2.1 q.2.2 sa U) ∧ (∀ q ∈ NC, va_Nw (.castable q q) U) ∧ (∀ q ∈ ND, va_Nw (.declares (Bundle.initS q)) U) ∧ ∀ q ∈ NX, va_Nc q.1 q.2 U
theorem cast_warm {a b : String} {s U : State} (hW : s.WarmedH U.vm) (h : va_Nw (.castable a b) s) : va_Nw (.castable a b) U := va_tabs rfl (rfl : (s.setVm U.vm).vm = U.vm) ((Cond.castable_setVm (args := #[]) hW.alike a b).trans h)
theorem decl_warm {x : MethodName} {s U : State} (hW : s.WarmedH U.vm) (h : va_Nw (.declares x) s) : va_Nw (.declares x) U := va_tabs rfl (rfl : (s.setVm U.vm).vm = U.vm) ((Cond.declares_setVm (args := #[]) hW.alike x).trans h)
theorem TK.warm {s U : State} (hW : s.WarmedH U.vm) (h : TK s) : TK U := ⟨fun q hq => by
  obtain ⟨sa, h1⟩ := h.1 q hq
  exact ⟨sa, h1.warm hW⟩, fun q hq => cast_warm hW (h.2.1 q hq), fun q hq => decl_warm hW (h.2.2.1 q hq), fun q hq => (h.2.2.2 q hq).moved hW.alike⟩
theorem TK.same {u U : State} (hvm : u.vm = U.vm) (h : TK u) : TK U := ⟨fun q hq => by
  obtain ⟨sa, h1⟩ := h.1 q hq
  exact ⟨sa, vk_R.same hvm.symm h1⟩, fun q hq => va_Nw.same rfl hvm (h.2.1 q hq), fun q hq => va_Nw.same rfl hvm (h.2.2.1 q hq), fun q hq => (h.2.2.2 q hq).moved (by rw [hvm]; exact Vm.Alike.refl _)⟩
theorem TZ.moved {A : Nat → Prop} {u U : State} {H : Heap} (hvm : u.vm.Alike U.vm) (h : TZ A u H) : TZ A U H := ⟨vx_Zq.moved hvm h.1, vx_Zq.moved hvm h.2⟩
theorem TZ.kept {A : Nat → Prop} {U : State} {H H1 : Heap} (h : TZ A U H) (hq : ∀ a : Nat, a < H.size → ¬ A a → H1[a]? = H[a]?) : TZ A U H1 := ⟨vx_Zq.kept h.1 hq, vx_Zq.kept h.2 hq⟩
theorem TZ.narrow {A B : Nat → Prop} {U : State} {H : Heap} (h : TZ A U H) (hAB : ∀ q, B q → A q) : TZ B U H := ⟨vx_Zq.narrow h.1 hAB, vx_Zq.narrow h.2 hAB⟩
def cPreX (D : va_G) (tys : List (ClassId × FieldType)) (sz : Nat) (ws : va_W) : State → Prop := fun U => cPre D tys sz ws U ∧ TZ (va_A ws sz) U U.heap ∧ TK U
theorem cPreX_blind {av : List Value} {D : va_G} {tys : List (ClassId × FieldType)} {sz : Nat} {ws : va_W} : FrameBlind (va_Pc av (cPreX D tys sz ws)) := fun a U g mk q => by
  obtain ⟨q0, qC, qZ, qT⟩ := q
  obtain ⟨-, q1⟩ := cPre_blind (av := av) a U g mk ⟨q0, qC⟩
  exact ⟨q0, q1, TZ.moved (u := U) (U := U.calling g mk a) (Vm.Alike.refl U.vm) qZ, TK.same (u := U) (U := U.calling g mk a) rfl qT⟩
/-- what is thrown leaves the world as it was -/
def cX {ρ : Type} (D : va_G) (tys : List (ClassId × FieldType)) (ws : va_W) (A : Nat → Prop) (out : ρ ⊕ String) : String → State → State → Prop := vx_X (fun (_ : Unit) => True) (fun E _ t => out = .inr E ∧ va_P D vwCl ws t.heap ∧ va_K D vwCl tys t ∧ va_D A ws) A
def cN {ρ T : Type} (D : va_G) (tys : List (ClassId × FieldType)) (ws' : ρ → T → va_W) (A : Nat → Prop) : ρ × T → State → Prop := fun v t => va_P D vwCl (ws' v.1 v.2) t.heap ∧ va_K D vwCl tys t ∧ va_D A (ws' v.1 v.2)
abbrev Xi {ρ T : Type} (l : Launch) (y : MethodName) (w : List Cond) (rm : Room) (D : va_G) (tys : List (ClassId × FieldType)) (sz : Nat) (av : List Value) (ws : va_W) (out : ρ ⊕ String) (rv : ρ → Int32) (ws' : ρ → T → va_W) (mc ms : Nat) : Prop := vx_Met l y w rm (va_Pc av (cPreX D tys sz ws)) (va_Qi (fun (r' : Int32) (v : ρ × T) => out = .inl v.1 ∧ r' = rv v.1) (cN D tys ws' (va_A ws sz)) (va_A ws sz)) (cX D tys ws (va_A ws sz) out) mc ms (va_A ws sz)
abbrev Xl {ρ T : Type} (l : Launch) (y : MethodName) (w : List Cond) (rm : Room) (D : va_G) (tys : List (ClassId × FieldType)) (sz : Nat) (av : List Value) (ws : va_W) (out : ρ ⊕ String) (rv : ρ → Int64) (ws' : ρ → T → va_W) (mc ms : Nat) : Prop := vx_Met l y w rm (va_Pc av (cPreX D tys sz ws)) (va_Ql (fun (r' : Int64) (v : ρ × T) => out = .inl v.1 ∧ r' = rv v.1) (cN D tys ws' (va_A ws sz)) (va_A ws sz)) (cX D tys ws (va_A ws sz) out) mc ms (va_A ws sz)
abbrev Xd {ρ T : Type} (l : Launch) (y : MethodName) (w : List Cond) (rm : Room) (D : va_G) (tys : List (ClassId × FieldType)) (sz : Nat) (av : List Value) (ws : va_W) (out : ρ ⊕ String) (rv : ρ → UInt64) (ws' : ρ → T → va_W) (mc ms : Nat) : Prop := vx_Met l y w rm (va_Pc av (cPreX D tys sz ws)) (va_Qd (fun (r' : UInt64) (v : ρ × T) => out = .inl v.1 ∧ r' = rv v.1) (cN D tys ws' (va_A ws sz)) (va_A ws sz)) (cX D tys ws (va_A ws sz) out) mc ms (va_A ws sz)
abbrev Xv {ρ T : Type} (l : Launch) (y : MethodName) (w : List Cond) (rm : Room) (D : va_G) (tys : List (ClassId × FieldType)) (sz : Nat) (av : List Value) (ws : va_W) (out : ρ ⊕ String) (ws' : ρ → T → va_W) (mc ms : Nat) : Prop := vx_Met l y w rm (va_Pc av (cPreX D tys sz ws)) (va_Qv (fun (v : ρ × T) => out = .inl v.1) (cN D tys ws' (va_A ws sz)) (va_A ws sz)) (cX D tys ws (va_A ws sz) out) mc ms (va_A ws sz)
section XT
variable {p : Program} {l : Launch} {e : Env} {R : Room} {s : State} {m : MethodId} {args : Array Value} {below : List Frame} {meth : Method} {c : Code} {H : Heap} {locs : List Loc} {cells slots : Nat}
variable {cc : ByteArray} {pc : Nat} {ls : Array Slot} {rest : List Value} {D : va_G} {A : Nat → Prop} {tys : List (ClassId × FieldType)} {ws ws' wc wr : va_W} {H0 : Heap} {Qc : Array Value → State → Outcome → State → Prop}
theorem x_throw {ρ : Type} {out : ρ ⊕ String} (hexec : p.tables.exec = Jvm.exec) (hb : c.code = cc) (hfl : l.stackTraces = false) {own cls text : String} {names : List String} {ik is ic mc ms : Nat} (hown : s.vm.findClass own = some m.cls) (hcls : Bundle.fit cls = true) (hnames : ∀ n ∈ names, Bundle.fit n = true)
    (hk : (Cond.classLink own ik cls).before args s = true) (hini : (Cond.initialized cls).before args s = true) (hstr : ∃ sa, vk_R own is text sa s) (hat : ∀ w ∈ vx_atS own ic cls names, w.before args s = true) (hgood : ∀ w ∈ Cond.classLink own ik cls :: Cond.initialized cls :: vx_atS own ic cls names, vx_ot w = true)
    (hZ : TZ A s s.heap) (hK : va_K D vwCl tys s) (hP : va_P D vwCl ws H) (hD : va_D A ws) (hS : va_S A s.heap H locs) (hsize : ls.size = c.maxLocals)
    (d0 : decode cc pc = .ok (.new ik, 3)) (d3 : decode cc (pc + 3) = .ok (.dup, 1)) (d4 : decode cc (pc + 4) = .ok (.ldc is, 2)) (d6 : decode cc (pc + 6) = .ok (.invokespecial ic, 3)) (d9 : decode cc (pc + 9) = .ok (.athrow, 1))
    (hout : ∀ x ∈ c.exceptionTable.toList, False) (hRframes : names.length + 3 < R.frames) (hRlocals : (rest.map fun v => v.category).sum + (13 * (names.length + 1) + 43) ≤ R.locals) (hRcells : cells + 1 ≤ R.cells) (hRslots : slots + 6 ≤ R.slots) (hlocks : meth.locks = false)
    (ho : out = .inr cls) (hc : cells + 1 ≤ mc) (hs : slots + 6 ≤ ms) : W p l e R s m args below meth c H locs cells slots (vx_MQ below Qc (cX D tys ws A out) args s mc ms A) (F0 m pc ls rest) := by
  obtain ⟨sa, hstr⟩ := hstr
  refine vx_throwS hexec hb hfl hown hcls hnames hk hini hstr hat hgood hZ.1 hZ.2 hS hsize d0 d3 d4 d6 d9 (fun x h => (hout x h).elim) hRframes hRlocals hRcells hRslots hlocks (fun t hA h1 h2 => ?_) hS.2.2 hc hs
  exact ⟨(), trivial, ⟨ho, hP.kept (fun k q hk => h2 _ (hP k q hk).lt), va_K.moved hA hK, hD⟩, Nat.le_trans hS.1 h1, fun q a b => (h2 q (Nat.lt_of_lt_of_le a hS.1)).trans (hS.2.1 q a b)⟩
theorem x_preX {av : List Value} {A0 : Nat → Prop} (hN : NK s) (hZ : TZ A0 s s.heap) (hT : TK s) (hP : va_P D vwCl ws H) (hD : va_D A0 ws) (hS : va_S A0 s.heap H locs) (hA : ∀ q, s.heap.size ≤ q → A0 q) (hK : va_K D vwCl tys s) (isC : List Nat) (hC : isC.map (fun i => ws[i]?) = wc.map some) (hn : va_nd isC = true) : ∀ U : State, U.heap = H → s.WarmedH U.vm → va_Pc av (cPreX D tys H.size wc) av.toArray U := by
  intro U hU hW
  obtain ⟨q0, q1⟩ := x_pre (av := av) hN hP hD hK isC hC hn U hU hW
  refine ⟨q0, q1, ?_, TK.warm hW hT⟩
  rw [hU]
  exact TZ.moved hW.alike ((hZ.kept hS.2.1).narrow (va_free hD hS hA isC hC))
/-- a world behind a call: the rest, and what the callee left -/
theorem x_backW {A0 : Nat → Prop} {t : State} {H1 : Heap} {w1 : va_W} (hP : va_P D vwCl ws H) (hD : va_D A0 ws) (isC isR isB : List Nat) (hC : isC.map (fun i => ws[i]?) = wc.map some) (hR : isR.map (fun i => ws[i]?) = wr.map some) (hn : va_nd isR = true) (hdis : ∀ i ∈ isR, i ∉ isC) (hB : isB.map (fun i => (wr ++ w1)[i]?) = ws'.map some) (hBn : va_nd isB = true)
    (hk : ∀ q : Nat, q < H.size → ¬ va_A wc H.size q → H1[q]? = H[q]?) (hF : ∀ q, va_A wc H.size q → A0 q) (ht : t.heap = H1) (h1 : va_P D vwCl w1 t.heap) (h3 : va_D (va_A wc H.size) w1) : va_P D vwCl ws' H1 ∧ va_D A0 ws' := by
  rw [ht] at h1
  obtain ⟨hP2, hD2⟩ := va_join (wr := wr) (w1 := w1) hP hD isC isR hC hR hn hdis hk hF h1 h3
  refine ⟨fun k q hq => ?_, hD2.sub isB hBn hB⟩
  have e1 : (isB.map (fun i => (wr ++ w1)[i]?))[k]? = some (some q) := by rw [hB, List.getElem?_map, hq]; rfl
  rw [List.getElem?_map] at e1
  cases hi : isB[k]? with
  | none => rw [hi] at e1; cases e1
  | some i => rw [hi] at e1; exact hP2 i q (Option.some.inj e1)
/-- it was thrown by the callee, and goes on to the caller -/
theorem x_on {α β : Type} {oo : α ⊕ String} {f : α → Option (β ⊕ String)} {out : β ⊕ String} {mc ms mc' ms' : Nat} {A0 : Nat → Prop} {E : String} {ce : Cell} {q9 : Addr} {t : State} {H1 : Heap} {locs1 : List Loc} (hob : obk oo f out) (hlocks : meth.locks = false) (hout : ∀ x ∈ c.exceptionTable.toList, False) (hK : va_K D vwCl tys s)
    (hP : va_P D vwCl ws H) (hD : va_D A0 ws) (isC isR isB : List Nat) (hC : isC.map (fun i => ws[i]?) = wc.map some) (hR : isR.map (fun i => ws[i]?) = wr.map some) (hn : va_nd isR = true) (hdis : ∀ i ∈ isR, i ∉ isC) (hB : isB.map (fun i => (wr ++ wc)[i]?) = ws.map some) (hBn : va_nd isB = true) (hF : ∀ q, va_A wc H.size q → A0 q)
    (ht : t.heap = H1) (hvm : s.vm.Alike t.vm) (hb1 : oo = .inr E ∧ va_P D vwCl wc t.heap ∧ va_K D vwCl tys t ∧ va_D (va_A wc H.size) wc) (hk1 : ∀ q : Nat, q < H.size → ¬ va_A wc H.size q → H1[q]? = H[q]?) (hS1 : va_S A0 s.heap H1 locs1) (hcell : H1[q9]? = some ce) (hv : ce.vm = .none) (hcl : s.vm.findClass E = some ce.cls) (hc : cells + mc' ≤ mc) (hs : slots + ms' ≤ ms) :
    vx_W p l e R s m args below meth c H1 locs1 (cells + mc') (slots + ms') (vx_MQ below Qc (cX D tys ws A0 out) args s mc ms A0) (F0 m pc ls rest) q9 := by
  obtain ⟨h1, h2, -, h4⟩ := hb1
  obtain ⟨hP1, hD1⟩ := x_backW hP hD isC isR isB hC hR hn hdis hB hBn hk1 hF ht h2 h4
  subst h1
  refine vx_out (fun x h => (hout x h).elim) hlocks hcell hv hcl (fun t' ht' hvm' => ?_) hS1.2.2 hc hs
  exact ⟨(), trivial, ⟨hob, by rw [ht']; exact hP1, va_K.moved hvm' hK, hD1⟩, hS1.F ht'⟩
theorem x_xcallv {α β T : Type} {oo : α ⊕ String} {f : α → Option (β ⊕ String)} {out : β ⊕ String} {wc' ws' : α → T → va_W} {mc ms mc' ms' : Nat} {A0 : Nat → Prop} {st0 : List Value} {a : Array Value} (hob : obk oo f out) (hlocks : meth.locks = false) (hout : ∀ x ∈ c.exceptionTable.toList, False) (hK : va_K D vwCl tys s)
    (hr : vx_Run p l e R s m args below meth c H locs cells slots mc' ms' (F0 m pc ls st0) rest (va_Qv (fun (v : α × T) => oo = .inl v.1) (cN D tys wc' (va_A wc H.size)) (va_A wc H.size) a) (cX D tys wc (va_A wc H.size) oo) (va_A wc H.size)) (hP : va_P D vwCl ws H) (hD : va_D A0 ws) (hS : va_S A0 s.heap H locs) (hA : ∀ q, s.heap.size ≤ q → A0 q)
    (isC isR isB : List Nat) (hC : isC.map (fun i => ws[i]?) = wc.map some) (hR : isR.map (fun i => ws[i]?) = wr.map some) (hn : va_nd isR = true) (hdis : ∀ i ∈ isR, i ∉ isC) (hB0 : isB.map (fun i => (wr ++ wc)[i]?) = ws.map some) (hB : ∀ v τ, isB.map (fun i => (wr ++ wc' v τ)[i]?) = (ws' v τ).map some) (hBn : va_nd isB = true) (hc : cells + mc' ≤ mc) (hs : slots + ms' ≤ ms)
    (kk : ∀ (v : α) (τ : T) (H1 : Heap) (locs1 : List Loc), f v = some out → va_P D vwCl (ws' v τ) H1 → va_D A0 (ws' v τ) → va_S A0 s.heap H1 locs1 → W p l e R s m args below meth c H1 locs1 (cells + mc') (slots + ms') (vx_MQ below Qc (cX D tys ws A0 out) args s mc ms A0) (F0 m (pc + 3) ls rest)) : W p l e R s m args below meth c H locs cells slots (vx_MQ below Qc (cX D tys ws A0 out) args s mc ms A0) (F0 m pc ls st0) := by
  have hF := va_free (wc := wc) hD hS hA isC hC
  refine vx_callv hr hS (fun q _ h => hF q h) hF (fun q _ h => hF q h) (fun E ce q9 u t H1 locs1 ht hvm _ hb1 hz1 hk1 hS1 hce hcv hcl => ?_) (fun u t H1 locs1 ht hvm hw hB1 hz1 hk1 hS1 => ?_)
  · exact x_on hob hlocks hout hK hP hD isC isR isB hC hR hn hdis hB0 hBn hF ht hvm hb1 hk1 hS1 hce hcv hcl hc hs
  · obtain ⟨v, τ⟩ := u
    subst hw
    obtain ⟨h1, -, h3⟩ := hB1
    obtain ⟨hP1, hD1⟩ := x_backW hP hD isC isR isB hC hR hn hdis (hB v τ) hBn hk1 hF ht h1 h3
    exact kk v τ H1 locs1 hob hP1 hD1 hS1
theorem x_xcalli {α β T : Type} {oo : α ⊕ String} {f : α → Option (β ⊕ String)} {out : β ⊕ String} {rv : α → Int32} {wc' ws' : α → T → va_W} {mc ms mc' ms' : Nat} {A0 : Nat → Prop} {st0 : List Value} {a : Array Value} (hob : obk oo f out) (hlocks : meth.locks = false) (hout : ∀ x ∈ c.exceptionTable.toList, False) (hK : va_K D vwCl tys s)
    (hr : vx_Run p l e R s m args below meth c H locs cells slots mc' ms' (F0 m pc ls st0) rest (va_Qi (fun (r' : Int32) (v : α × T) => oo = .inl v.1 ∧ r' = rv v.1) (cN D tys wc' (va_A wc H.size)) (va_A wc H.size) a) (cX D tys wc (va_A wc H.size) oo) (va_A wc H.size)) (hP : va_P D vwCl ws H) (hD : va_D A0 ws) (hS : va_S A0 s.heap H locs) (hA : ∀ q, s.heap.size ≤ q → A0 q)
    (isC isR isB : List Nat) (hC : isC.map (fun i => ws[i]?) = wc.map some) (hR : isR.map (fun i => ws[i]?) = wr.map some) (hn : va_nd isR = true) (hdis : ∀ i ∈ isR, i ∉ isC) (hB0 : isB.map (fun i => (wr ++ wc)[i]?) = ws.map some) (hB : ∀ v τ, isB.map (fun i => (wr ++ wc' v τ)[i]?) = (ws' v τ).map some) (hBn : va_nd isB = true) (hc : cells + mc' ≤ mc) (hs : slots + ms' ≤ ms)
    (kk : ∀ (v : α) (τ : T) (H1 : Heap) (locs1 : List Loc), f v = some out → va_P D vwCl (ws' v τ) H1 → va_D A0 (ws' v τ) → va_S A0 s.heap H1 locs1 → W p l e R s m args below meth c H1 locs1 (cells + mc') (slots + ms') (vx_MQ below Qc (cX D tys ws A0 out) args s mc ms A0) (F0 m (pc + 3) ls (.int (rv v) :: rest))) : W p l e R s m args below meth c H locs cells slots (vx_MQ below Qc (cX D tys ws A0 out) args s mc ms A0) (F0 m pc ls st0) := by
  have hF := va_free (wc := wc) hD hS hA isC hC
  refine vx_calli hr hS (fun q _ h => hF q h) hF (fun q _ h => hF q h) (fun E ce q9 u t H1 locs1 ht hvm _ hb1 hz1 hk1 hS1 hce hcv hcl => ?_) (fun r' u t H1 locs1 ht hvm hw hB1 hz1 hk1 hS1 => ?_)
  · exact x_on hob hlocks hout hK hP hD isC isR isB hC hR hn hdis hB0 hBn hF ht hvm hb1 hk1 hS1 hce hcv hcl hc hs
  · obtain ⟨v, τ⟩ := u
    obtain ⟨hw1, rfl⟩ := hw
    subst hw1
    obtain ⟨h1, -, h3⟩ := hB1
    obtain ⟨hP1, hD1⟩ := x_backW hP hD isC isR isB hC hR hn hdis (hB v τ) hBn hk1 hF ht h1 h3
    exact kk v τ H1 locs1 hob hP1 hD1 hS1
theorem x_xcalll {α β T : Type} {oo : α ⊕ String} {f : α → Option (β ⊕ String)} {out : β ⊕ String} {rv : α → Int64} {wc' ws' : α → T → va_W} {mc ms mc' ms' : Nat} {A0 : Nat → Prop} {st0 : List Value} {a : Array Value} (hob : obk oo f out) (hlocks : meth.locks = false) (hout : ∀ x ∈ c.exceptionTable.toList, False) (hK : va_K D vwCl tys s)
    (hr : vx_Run p l e R s m args below meth c H locs cells slots mc' ms' (F0 m pc ls st0) rest (va_Ql (fun (r' : Int64) (v : α × T) => oo = .inl v.1 ∧ r' = rv v.1) (cN D tys wc' (va_A wc H.size)) (va_A wc H.size) a) (cX D tys wc (va_A wc H.size) oo) (va_A wc H.size)) (hP : va_P D vwCl ws H) (hD : va_D A0 ws) (hS : va_S A0 s.heap H locs) (hA : ∀ q, s.heap.size ≤ q → A0 q)
    (isC isR isB : List Nat) (hC : isC.map (fun i => ws[i]?) = wc.map some) (hR : isR.map (fun i => ws[i]?) = wr.map some) (hn : va_nd isR = true) (hdis : ∀ i ∈ isR, i ∉ isC) (hB0 : isB.map (fun i => (wr ++ wc)[i]?) = ws.map some) (hB : ∀ v τ, isB.map (fun i => (wr ++ wc' v τ)[i]?) = (ws' v τ).map some) (hBn : va_nd isB = true) (hc : cells + mc' ≤ mc) (hs : slots + ms' ≤ ms)
    (kk : ∀ (v : α) (τ : T) (H1 : Heap) (locs1 : List Loc), f v = some out → va_P D vwCl (ws' v τ) H1 → va_D A0 (ws' v τ) → va_S A0 s.heap H1 locs1 → W p l e R s m args below meth c H1 locs1 (cells + mc') (slots + ms') (vx_MQ below Qc (cX D tys ws A0 out) args s mc ms A0) (F0 m (pc + 3) ls (.long (rv v) :: rest))) : W p l e R s m args below meth c H locs cells slots (vx_MQ below Qc (cX D tys ws A0 out) args s mc ms A0) (F0 m pc ls st0) := by
  have hF := va_free (wc := wc) hD hS hA isC hC
  refine vx_calll hr hS (fun q _ h => hF q h) hF (fun q _ h => hF q h) (fun E ce q9 u t H1 locs1 ht hvm _ hb1 hz1 hk1 hS1 hce hcv hcl => ?_) (fun r' u t H1 locs1 ht hvm hw hB1 hz1 hk1 hS1 => ?_)
  · exact x_on hob hlocks hout hK hP hD isC isR isB hC hR hn hdis hB0 hBn hF ht hvm hb1 hk1 hS1 hce hcv hcl hc hs
  · obtain ⟨v, τ⟩ := u
    obtain ⟨hw1, rfl⟩ := hw
    subst hw1
    obtain ⟨h1, -, h3⟩ := hB1
    obtain ⟨hP1, hD1⟩ := x_backW hP hD isC isR isB hC hR hn hdis (hB v τ) hBn hk1 hF ht h1 h3
    exact kk v τ H1 locs1 hob hP1 hD1 hS1
theorem x_xcalld {α β T : Type} {oo : α ⊕ String} {f : α → Option (β ⊕ String)} {out : β ⊕ String} {rv : α → UInt64} {wc' ws' : α → T → va_W} {mc ms mc' ms' : Nat} {A0 : Nat → Prop} {st0 : List Value} {a : Array Value} (hob : obk oo f out) (hlocks : meth.locks = false) (hout : ∀ x ∈ c.exceptionTable.toList, False) (hK : va_K D vwCl tys s)
    (hr : vx_Run p l e R s m args below meth c H locs cells slots mc' ms' (F0 m pc ls st0) rest (va_Qd (fun (r' : UInt64) (v : α × T) => oo = .inl v.1 ∧ r' = rv v.1) (cN D tys wc' (va_A wc H.size)) (va_A wc H.size) a) (cX D tys wc (va_A wc H.size) oo) (va_A wc H.size)) (hP : va_P D vwCl ws H) (hD : va_D A0 ws) (hS : va_S A0 s.heap H locs) (hA : ∀ q, s.heap.size ≤ q → A0 q)
    (isC isR isB : List Nat) (hC : isC.map (fun i => ws[i]?) = wc.map some) (hR : isR.map (fun i => ws[i]?) = wr.map some) (hn : va_nd isR = true) (hdis : ∀ i ∈ isR, i ∉ isC) (hB0 : isB.map (fun i => (wr ++ wc)[i]?) = ws.map some) (hB : ∀ v τ, isB.map (fun i => (wr ++ wc' v τ)[i]?) = (ws' v τ).map some) (hBn : va_nd isB = true) (hc : cells + mc' ≤ mc) (hs : slots + ms' ≤ ms)
    (kk : ∀ (v : α) (τ : T) (H1 : Heap) (locs1 : List Loc), f v = some out → va_P D vwCl (ws' v τ) H1 → va_D A0 (ws' v τ) → va_S A0 s.heap H1 locs1 → W p l e R s m args below meth c H1 locs1 (cells + mc') (slots + ms') (vx_MQ below Qc (cX D tys ws A0 out) args s mc ms A0) (F0 m (pc + 3) ls (.double (rv v) :: rest))) : W p l e R s m args below meth c H locs cells slots (vx_MQ below Qc (cX D tys ws A0 out) args s mc ms A0) (F0 m pc ls st0) := by
  have hF := va_free (wc := wc) hD hS hA isC hC
  refine vx_calld hr hS (fun q _ h => hF q h) hF (fun q _ h => hF q h) (fun E ce q9 u t H1 locs1 ht hvm _ hb1 hz1 hk1 hS1 hce hcv hcl => ?_) (fun r' u t H1 locs1 ht hvm hw hB1 hz1 hk1 hS1 => ?_)
  · exact x_on hob hlocks hout hK hP hD isC isR isB hC hR hn hdis hB0 hBn hF ht hvm hb1 hk1 hS1 hce hcv hcl hc hs
  · obtain ⟨v, τ⟩ := u
    obtain ⟨hw1, rfl⟩ := hw
    subst hw1
    obtain ⟨h1, -, h3⟩ := hB1
    obtain ⟨hP1, hD1⟩ := x_backW hP hD isC isR isB hC hR hn hdis (hB v τ) hBn hk1 hF ht h1 h3
    exact kk v τ H1 locs1 hob hP1 hD1 hS1
end XT
