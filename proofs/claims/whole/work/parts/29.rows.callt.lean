/-! OWN ROW: a helper of the law is called -/
section XC
variable {p : Program} {l : Launch} {e : Env} {R : Room} {s : State} {m : MethodId} {args : Array Value} {below : List Frame} {meth : Method} {c : Code} {H : Heap} {locs : List Loc} {cells slots : Nat} {Q : State → Prop}
variable {pc : Nat} {ls : Array Slot} {rest : List Value} {D : va_G} {tys : List (ClassId × FieldType)} {ws wc wr : va_W} {H0 : Heap}
theorem x_callt {T : Type} {A0 : Nat → Prop} {r : Int32} {wc' ws' : T → va_W} {mc' ms' : Nat} {st0 : List Value} {a : Array Value}
    (hr : va_Run p l e R s m args below meth c H locs cells slots mc' ms' (F0 m pc ls st0) rest (va_Qi (fun (r' : Int32) (_ : T) => r' = r) (fun τ t => va_P D vwCl (wc' τ) t.heap ∧ va_K D vwCl tys t ∧ va_D (va_A wc H.size) (wc' τ)) (va_A wc H.size) a) (va_A wc H.size)) (hP : va_P D vwCl ws H) (hD : va_D A0 ws) (hS : va_S A0 H0 H locs) (hA : ∀ q, H0.size ≤ q → A0 q)
    (isC isR isB : List Nat) (hC : isC.map (fun i => ws[i]?) = wc.map some) (hR : isR.map (fun i => ws[i]?) = wr.map some) (hn : va_nd isR = true) (hdis : ∀ i ∈ isR, i ∉ isC) (hB : ∀ τ, isB.map (fun i => (wr ++ wc' τ)[i]?) = (ws' τ).map some) (hBn : va_nd isB = true)
    (kk : ∀ (τ : T) (H1 : Heap) (locs1 : List Loc), va_P D vwCl (ws' τ) H1 → va_D A0 (ws' τ) → va_S A0 H0 H1 locs1 → W p l e R s m args below meth c H1 locs1 (cells + mc') (slots + ms') Q (F0 m (pc + 3) ls (.int r :: rest))) : W p l e R s m args below meth c H locs cells slots Q (F0 m pc ls st0) := by
  have hF := va_free (wc := wc) hD hS hA isC hC
  refine va_calli hr hS (fun q _ h => hF q h) hF (fun r' τ t H1 locs1 ht hvm hw hB1 hz1 hk1 hS1 => ?_)
  subst hw
  obtain ⟨h1, -, h3⟩ := hB1
  obtain ⟨hP1, hD1⟩ := x_backW hP hD isC isR isB hC hR hn hdis (hB τ) hBn hk1 hF ht h1 h3
  exact kk τ H1 locs1 hP1 hD1 hS1
end XC
