/-! OWN ROWS for the law's helpers: a call inside try -/
def obl2 {α β : Type} (oo : α ⊕ String) (f : α → Option β) (g : String → Option β) (r : β) : Prop := match oo with
  | .inl v => f v = some r
  | .inr E => g E = some r
def obl {α β : Type} (x : Option (α ⊕ String)) (f : α → Option β) (g : String → Option β) : Option β := x.bind (fun oo => match oo with
  | .inl v => f v
  | .inr E => g E)
theorem obl_e {α β : Type} {x : Option (α ⊕ String)} {f : α → Option β} {g : String → Option β} {r : β} (h : obl x f g = some r) : ∃ oo, x = some oo ∧ obl2 oo f g r := by
  cases x with
  | none => cases h
  | some oo => cases oo with
    | inl v => exact ⟨_, rfl, h⟩
    | inr E => exact ⟨_, rfl, h⟩
theorem obl_l {α β : Type} {x : Option (α ⊕ String)} {f : α → Option β} {g : String → Option β} {v : α} (h : x = some (.inl v)) : obl x f g = f v := by rw [h]; rfl
theorem obl_r {α β : Type} {x : Option (α ⊕ String)} {f : α → Option β} {g : String → Option β} {E : String} (h : x = some (.inr E)) : obl x f g = g E := by rw [h]; rfl
theorem obl2_l {α β : Type} {f : α → Option β} {g : String → Option β} {r : β} {v : α} (h : obl2 (.inl v) f g r) : f v = some r := h
theorem obl2_r {α β : Type} {f : α → Option β} {g : String → Option β} {r : β} {E : String} (h : obl2 (.inr E) f g r) : g E = some r := h
section XL
variable {p : Program} {l : Launch} {e : Env} {R : Room} {s : State} {m : MethodId} {args : Array Value} {below : List Frame} {meth : Method} {c : Code} {H : Heap} {locs : List Loc} {cells slots : Nat} {Q : State → Prop}
variable {cc : ByteArray} {pc : Nat} {ls : Array Slot} {rest : List Value} {D : va_G} {A : Nat → Prop} {tys : List (ClassId × FieldType)} {ws ws' wc wr : va_W} {H0 : Heap}
theorem x_tryi {α T : Type} {oo : α ⊕ String} {rv : α → Int32} {wc' ws' : α → T → va_W} {mc' ms' : Nat} {A0 : Nat → Prop} {st0 : List Value} {a : Array Value}
    (hr : vx_Run p l e R s m args below meth c H locs cells slots mc' ms' (F0 m pc ls st0) rest (va_Qi (fun (r' : Int32) (v : α × T) => oo = .inl v.1 ∧ r' = rv v.1) (cN D tys wc' (va_A wc H.size)) (va_A wc H.size) a) (cX D tys wc (va_A wc H.size) oo) (va_A wc H.size)) (hP : va_P D vwCl ws H) (hD : va_D A0 ws) (hS : va_S A0 H0 H locs) (hA : ∀ q, H0.size ≤ q → A0 q)
    (isC isR isB : List Nat) (hC : isC.map (fun i => ws[i]?) = wc.map some) (hR : isR.map (fun i => ws[i]?) = wr.map some) (hn : va_nd isR = true) (hdis : ∀ i ∈ isR, i ∉ isC) (hB0 : isB.map (fun i => (wr ++ wc)[i]?) = ws.map some) (hB : ∀ v τ, isB.map (fun i => (wr ++ wc' v τ)[i]?) = (ws' v τ).map some) (hBn : va_nd isB = true)
    (kx : ∀ (E : String) (ce : Cell) (q9 : Addr) (H1 : Heap) (locs1 : List Loc), oo = .inr E → va_P D vwCl ws H1 → va_D A0 ws → va_S A0 H0 H1 locs1 → H1[q9]? = some ce → ce.vm = .none → s.vm.findClass E = some ce.cls → vx_W p l e R s m args below meth c H1 locs1 (cells + mc') (slots + ms') Q (F0 m pc ls rest) q9)
    (kk : ∀ (v : α) (τ : T) (H1 : Heap) (locs1 : List Loc), oo = .inl v → va_P D vwCl (ws' v τ) H1 → va_D A0 (ws' v τ) → va_S A0 H0 H1 locs1 → W p l e R s m args below meth c H1 locs1 (cells + mc') (slots + ms') Q (F0 m (pc + 3) ls (.int (rv v) :: rest))) : W p l e R s m args below meth c H locs cells slots Q (F0 m pc ls st0) := by
  have hF := va_free (wc := wc) hD hS hA isC hC
  refine vx_calli hr hS (fun q _ h => hF q h) hF (fun q _ h => hF q h) (fun E ce q9 u t H1 locs1 ht hvm _ hb1 hz1 hk1 hS1 hce hcv hcl => ?_) (fun r' u t H1 locs1 ht hvm hw hB1 hz1 hk1 hS1 => ?_)
  · obtain ⟨h1, h2, -, h4⟩ := hb1
    obtain ⟨hP1, hD1⟩ := x_backW hP hD isC isR isB hC hR hn hdis hB0 hBn hk1 hF ht h2 h4
    exact kx E ce q9 H1 locs1 h1 hP1 hD1 hS1 hce hcv hcl
  · obtain ⟨v, τ⟩ := u
    obtain ⟨hw1, rfl⟩ := hw
    obtain ⟨h1, -, h3⟩ := hB1
    obtain ⟨hP1, hD1⟩ := x_backW hP hD isC isR isB hC hR hn hdis (hB v τ) hBn hk1 hF ht h1 h3
    exact kk v τ H1 locs1 hw1 hP1 hD1 hS1
theorem x_tryl {α T : Type} {oo : α ⊕ String} {rv : α → Int64} {wc' ws' : α → T → va_W} {mc' ms' : Nat} {A0 : Nat → Prop} {st0 : List Value} {a : Array Value}
    (hr : vx_Run p l e R s m args below meth c H locs cells slots mc' ms' (F0 m pc ls st0) rest (va_Ql (fun (r' : Int64) (v : α × T) => oo = .inl v.1 ∧ r' = rv v.1) (cN D tys wc' (va_A wc H.size)) (va_A wc H.size) a) (cX D tys wc (va_A wc H.size) oo) (va_A wc H.size)) (hP : va_P D vwCl ws H) (hD : va_D A0 ws) (hS : va_S A0 H0 H locs) (hA : ∀ q, H0.size ≤ q → A0 q)
    (isC isR isB : List Nat) (hC : isC.map (fun i => ws[i]?) = wc.map some) (hR : isR.map (fun i => ws[i]?) = wr.map some) (hn : va_nd isR = true) (hdis : ∀ i ∈ isR, i ∉ isC) (hB0 : isB.map (fun i => (wr ++ wc)[i]?) = ws.map some) (hB : ∀ v τ, isB.map (fun i => (wr ++ wc' v τ)[i]?) = (ws' v τ).map some) (hBn : va_nd isB = true)
    (kx : ∀ (E : String) (ce : Cell) (q9 : Addr) (H1 : Heap) (locs1 : List Loc), oo = .inr E → va_P D vwCl ws H1 → va_D A0 ws → va_S A0 H0 H1 locs1 → H1[q9]? = some ce → ce.vm = .none → s.vm.findClass E = some ce.cls → vx_W p l e R s m args below meth c H1 locs1 (cells + mc') (slots + ms') Q (F0 m pc ls rest) q9)
    (kk : ∀ (v : α) (τ : T) (H1 : Heap) (locs1 : List Loc), oo = .inl v → va_P D vwCl (ws' v τ) H1 → va_D A0 (ws' v τ) → va_S A0 H0 H1 locs1 → W p l e R s m args below meth c H1 locs1 (cells + mc') (slots + ms') Q (F0 m (pc + 3) ls (.long (rv v) :: rest))) : W p l e R s m args below meth c H locs cells slots Q (F0 m pc ls st0) := by
  have hF := va_free (wc := wc) hD hS hA isC hC
  refine vx_calll hr hS (fun q _ h => hF q h) hF (fun q _ h => hF q h) (fun E ce q9 u t H1 locs1 ht hvm _ hb1 hz1 hk1 hS1 hce hcv hcl => ?_) (fun r' u t H1 locs1 ht hvm hw hB1 hz1 hk1 hS1 => ?_)
  · obtain ⟨h1, h2, -, h4⟩ := hb1
    obtain ⟨hP1, hD1⟩ := x_backW hP hD isC isR isB hC hR hn hdis hB0 hBn hk1 hF ht h2 h4
    exact kx E ce q9 H1 locs1 h1 hP1 hD1 hS1 hce hcv hcl
  · obtain ⟨v, τ⟩ := u
    obtain ⟨hw1, rfl⟩ := hw
    obtain ⟨h1, -, h3⟩ := hB1
    obtain ⟨hP1, hD1⟩ := x_backW hP hD isC isR isB hC hR hn hdis (hB v τ) hBn hk1 hF ht h1 h3
    exact kk v τ H1 locs1 hw1 hP1 hD1 hS1
theorem x_tryd {α T : Type} {oo : α ⊕ String} {rv : α → UInt64} {wc' ws' : α → T → va_W} {mc' ms' : Nat} {A0 : Nat → Prop} {st0 : List Value} {a : Array Value}
    (hr : vx_Run p l e R s m args below meth c H locs cells slots mc' ms' (F0 m pc ls st0) rest (va_Qd (fun (r' : UInt64) (v : α × T) => oo = .inl v.1 ∧ r' = rv v.1) (cN D tys wc' (va_A wc H.size)) (va_A wc H.size) a) (cX D tys wc (va_A wc H.size) oo) (va_A wc H.size)) (hP : va_P D vwCl ws H) (hD : va_D A0 ws) (hS : va_S A0 H0 H locs) (hA : ∀ q, H0.size ≤ q → A0 q)
    (isC isR isB : List Nat) (hC : isC.map (fun i => ws[i]?) = wc.map some) (hR : isR.map (fun i => ws[i]?) = wr.map some) (hn : va_nd isR = true) (hdis : ∀ i ∈ isR, i ∉ isC) (hB0 : isB.map (fun i => (wr ++ wc)[i]?) = ws.map some) (hB : ∀ v τ, isB.map (fun i => (wr ++ wc' v τ)[i]?) = (ws' v τ).map some) (hBn : va_nd isB = true)
    (kx : ∀ (E : String) (ce : Cell) (q9 : Addr) (H1 : Heap) (locs1 : List Loc), oo = .inr E → va_P D vwCl ws H1 → va_D A0 ws → va_S A0 H0 H1 locs1 → H1[q9]? = some ce → ce.vm = .none → s.vm.findClass E = some ce.cls → vx_W p l e R s m args below meth c H1 locs1 (cells + mc') (slots + ms') Q (F0 m pc ls rest) q9)
    (kk : ∀ (v : α) (τ : T) (H1 : Heap) (locs1 : List Loc), oo = .inl v → va_P D vwCl (ws' v τ) H1 → va_D A0 (ws' v τ) → va_S A0 H0 H1 locs1 → W p l e R s m args below meth c H1 locs1 (cells + mc') (slots + ms') Q (F0 m (pc + 3) ls (.double (rv v) :: rest))) : W p l e R s m args below meth c H locs cells slots Q (F0 m pc ls st0) := by
  have hF := va_free (wc := wc) hD hS hA isC hC
  refine vx_calld hr hS (fun q _ h => hF q h) hF (fun q _ h => hF q h) (fun E ce q9 u t H1 locs1 ht hvm _ hb1 hz1 hk1 hS1 hce hcv hcl => ?_) (fun r' u t H1 locs1 ht hvm hw hB1 hz1 hk1 hS1 => ?_)
  · obtain ⟨h1, h2, -, h4⟩ := hb1
    obtain ⟨hP1, hD1⟩ := x_backW hP hD isC isR isB hC hR hn hdis hB0 hBn hk1 hF ht h2 h4
    exact kx E ce q9 H1 locs1 h1 hP1 hD1 hS1 hce hcv hcl
  · obtain ⟨v, τ⟩ := u
    obtain ⟨hw1, rfl⟩ := hw
    obtain ⟨h1, -, h3⟩ := hB1
    obtain ⟨hP1, hD1⟩ := x_backW hP hD isC isR isB hC hR hn hdis (hB v τ) hBn hk1 hF ht h1 h3
    exact kk v τ H1 locs1 hw1 hP1 hD1 hS1
theorem x_tryv {α T : Type} {oo : α ⊕ String} {wc' ws' : α → T → va_W} {mc' ms' : Nat} {A0 : Nat → Prop} {st0 : List Value} {a : Array Value}
    (hr : vx_Run p l e R s m args below meth c H locs cells slots mc' ms' (F0 m pc ls st0) rest (va_Qv (fun (v : α × T) => oo = .inl v.1) (cN D tys wc' (va_A wc H.size)) (va_A wc H.size) a) (cX D tys wc (va_A wc H.size) oo) (va_A wc H.size)) (hP : va_P D vwCl ws H) (hD : va_D A0 ws) (hS : va_S A0 H0 H locs) (hA : ∀ q, H0.size ≤ q → A0 q)
    (isC isR isB : List Nat) (hC : isC.map (fun i => ws[i]?) = wc.map some) (hR : isR.map (fun i => ws[i]?) = wr.map some) (hn : va_nd isR = true) (hdis : ∀ i ∈ isR, i ∉ isC) (hB0 : isB.map (fun i => (wr ++ wc)[i]?) = ws.map some) (hB : ∀ v τ, isB.map (fun i => (wr ++ wc' v τ)[i]?) = (ws' v τ).map some) (hBn : va_nd isB = true)
    (kx : ∀ (E : String) (ce : Cell) (q9 : Addr) (H1 : Heap) (locs1 : List Loc), oo = .inr E → va_P D vwCl ws H1 → va_D A0 ws → va_S A0 H0 H1 locs1 → H1[q9]? = some ce → ce.vm = .none → s.vm.findClass E = some ce.cls → vx_W p l e R s m args below meth c H1 locs1 (cells + mc') (slots + ms') Q (F0 m pc ls rest) q9)
    (kk : ∀ (v : α) (τ : T) (H1 : Heap) (locs1 : List Loc), oo = .inl v → va_P D vwCl (ws' v τ) H1 → va_D A0 (ws' v τ) → va_S A0 H0 H1 locs1 → W p l e R s m args below meth c H1 locs1 (cells + mc') (slots + ms') Q (F0 m (pc + 3) ls rest)) : W p l e R s m args below meth c H locs cells slots Q (F0 m pc ls st0) := by
  have hF := va_free (wc := wc) hD hS hA isC hC
  refine vx_callv hr hS (fun q _ h => hF q h) hF (fun q _ h => hF q h) (fun E ce q9 u t H1 locs1 ht hvm _ hb1 hz1 hk1 hS1 hce hcv hcl => ?_) (fun u t H1 locs1 ht hvm hw hB1 hz1 hk1 hS1 => ?_)
  · obtain ⟨h1, h2, -, h4⟩ := hb1
    obtain ⟨hP1, hD1⟩ := x_backW hP hD isC isR isB hC hR hn hdis hB0 hBn hk1 hF ht h2 h4
    exact kx E ce q9 H1 locs1 h1 hP1 hD1 hS1 hce hcv hcl
  · obtain ⟨v, τ⟩ := u
    have hw1 := hw
    obtain ⟨h1, -, h3⟩ := hB1
    obtain ⟨hP1, hD1⟩ := x_backW hP hD isC isR isB hC hR hn hdis (hB v τ) hBn hk1 hF ht h1 h3
    exact kk v τ H1 locs1 hw1 hP1 hD1 hS1
end XL
