/-! PURE: a sample on both sides: the numbers -/
theorem two {a b : Int64} {A : Int} (hb : 0 < b.toInt) (hB_ : b.toInt ≤ 4611686018427387904) (ha : bd A a) (h : A < 4611686018427387904) : F_X6_floor a b = some (fl a b) ∧ F_X5_divideDown a b = some (fl a b) := by
  unfold bd at ha
  exact ⟨F_floor hb (by omega), F_divideDown hb⟩
theorem g_bd {a b c y u : Int64} (h0 : bd 65536000 a) (h1 : bd 65536000 b) (h2 : bd 65536000 c) (hy : bd 2000 y) (hu : bd 2000 u) : bd 262209536000 (a * y + b * u + c) := by
  have p := (i64_mul h0 hy (by omega)).2
  have q := (i64_mul h1 hu (by omega)).2
  have r := (i64_add p q (by omega)).2
  exact (i64_add r h2 (by omega)).2.le (by omega)
theorem s_bd {a b c y u : Int64} (h0 : bd 262209536000 a) (h1 : bd 262209536000 b) (h2 : bd 262209536000 c) (hy : bd 2000 y) (hu : bd 2000 u) : bd 1049100353536000 (a * y + b * u + c) := by
  have p := (i64_mul h0 hy (by omega)).2
  have q := (i64_mul h1 hu (by omega)).2
  have r := (i64_add p q (by omega)).2
  exact (i64_add r h2 (by omega)).2.le (by omega)
theorem lit64q {x : Int64} {n : Int} (h : x.toInt = n) (A : Int) (h1 : -A ≤ n) (h2 : n ≤ A) : bd A x := by unfold bd; omega
theorem w_bd {a b c y u : Int64} (h0 : bd 1310720 a) (h1 : bd 1310720 b) (h2 : bd 1310720 c) (hy : bd 2000 y) (hu : bd 2000 u) : bd 5244190720 (a * y + b * u + c) := by
  have p := (i64_mul h0 hy (by omega)).2
  have q := (i64_mul h1 hu (by omega)).2
  have r := (i64_add p q (by omega)).2
  exact (i64_add r h2 (by omega)).2.le (by omega)
theorem e_bd {w z : Int64} (hw : bd 5244190720 w) (hz : bd 4000 z) : bd 5506334720 (65536 * z - w) := by
  have p := (i64_mul (lit64q (x := 65536) (n := 65536) rfl 65536 (by omega) (by omega)) hz (by omega)).2
  exact (i64_sub p hw (by omega)).2.le (by omega)
theorem wi_bd {x lo hi : Int64} {A : Int} (h0 : lo.toInt ≤ hi.toInt) (h1 : -A ≤ lo.toInt) (h2 : hi.toInt ≤ A) : bd A (wi x lo hi) := by
  have h := wi_in (x := x) h0
  unfold bd
  omega
def ps (x : Int64) : Int64 := if x < 0 then 0 else x
theorem ps_bd {x : Int64} {A : Int} (hA : 0 ≤ A) (h : bd A x) : 0 ≤ (ps x).toInt ∧ (ps x).toInt ≤ A := by
  unfold ps bd at *
  split
  · have : (0 : Int64).toInt = 0 := rfl
    omega
  · rename_i q
    rw [lt0] at q
    omega
def kk (G s fg : Int64) : Int64 := wi (fl (65536 * G) (fg + s)) (-6553600) 6553600
theorem kk_bd (G s fg : Int64) : bd 6553600 (kk G s fg) := wi_bd (by decide) (by decide) (by decide)
theorem k_two {G s fg : Int64} (hG : bd 262209536000 G) (hs : 0 ≤ s.toInt ∧ s.toInt ≤ 1049100353536000) (hf : 50000 ≤ fg.toInt ∧ fg.toInt ≤ 65536) : F_X6_floor (65536 * G) (fg + s) = some (fl (65536 * G) (fg + s)) ∧ F_X5_divideDown (65536 * G) (fg + s) = some (fl (65536 * G) (fg + s)) := by
  have p := (i64_mul (lit64q (x := 65536) (n := 65536) rfl 65536 (by omega) (by omega)) hG (by omega)).2
  have q := (i64_add (x := fg) (y := s) (A := 65536) (B := 1049100353536000) (by unfold bd; omega) (by unfold bd; omega) (by omega)).1
  exact two (by omega) (by omega) p (by omega)
theorem r_two {k e : Int64} (hk : bd 6553600 k) (he : bd 5506334720 e) : F_X6_floor (k * e) 65536 = some (fl (k * e) 65536) ∧ F_X5_divideDown (k * e) 65536 = some (fl (k * e) 65536) :=
  two (by decide) (by decide) (i64_mul hk he (by omega)).2 (by omega)
theorem q_two {k G : Int64} (hk : bd 6553600 k) (hG : bd 262209536000 G) : (F_X6_floor (k * G) 65536 = some (fl (k * G) 65536) ∧ F_X5_divideDown (k * G) 65536 = some (fl (k * G) 65536)) ∧ bd 26220953600001 (fl (k * G) 65536) := by
  have p := (i64_mul hk hG (by omega)).2
  refine ⟨two (by decide) (by decide) p (by omega), ?_⟩
  have e := fl_int (a := k * G) (b := 65536) (by decide)
  have e2_ : (65536 : Int64).toInt = 65536 := rfl
  unfold bd at *
  rw [e2_] at e
  omega
theorem p_two {P q fg : Int64} (hP : bd 65536000 P) (hq : bd 26220953600001 q) (hf : 50000 ≤ fg.toInt ∧ fg.toInt ≤ 65536) : F_X6_floor ((P - q) * 65536) fg = some (fl ((P - q) * 65536) fg) ∧ F_X5_divideDown ((P - q) * 65536) fg = some (fl ((P - q) * 65536) fg) := by
  have a := (i64_sub hP hq (by omega)).2
  have b := (i64_mul a (lit64q (x := 65536) (n := 65536) rfl 65536 (by omega) (by omega)) (by omega)).2
  exact two (by omega) (by omega) b (by omega)
theorem rg_dir {γ δ : Type} {c : Prop} [Decidable c] (a b : Int64) (u v : γ) (F : Int64 → γ → Option δ) : rg (α := Int32) (fun K => if c then K 1 else K 0) (fun x => rg (α := Int64) (fun K => if x = 0 then K a else K b) (fun y => rg (α := γ) (fun K => if x = 0 then K u else K v) (fun z => F y z))) = F (if c then b else a) (if c then v else u) := by
  unfold rg
  by_cases h : c
  · simp [h]
  · simp [h]
theorem R_spread {al F g : Nat → Int64} {y u : Int64} (h0 : F 0 = y) (h1 : F 1 = u) (h2 : F 2 = 1) : F_X6_laysGains al F g = some (ps ((al 16 * y + al 17 * u + al 18) * y + (al 19 * y + al 20 * u + al 21) * u + (al 22 * y + al 23 * u + al 24)), vp_updL (vp_updL (vp_updL g 0 (al 16 * y + al 17 * u + al 18)) 1 (al 19 * y + al 20 * u + al 21)) 2 (al 22 * y + al 23 * u + al 24)) := by
  rw [R_laysGains, h0, h1, h2]
  simp only [Int64.mul_one, Int64.one_mul, Int64.zero_add]
  rw [Int64.mul_comm y (al 16 * y + al 17 * u + al 18), Int64.mul_comm u (al 19 * y + al 20 * u + al 21)]
  rfl
theorem C_spread' (ma di : Nat → Int64) (y u : Int32) : F_X0_spread ma di y u = some (ps ((ma 0 * y.toInt64 + ma 1 * u.toInt64 + ma 2) * y.toInt64 + (ma 3 * y.toInt64 + ma 4 * u.toInt64 + ma 5) * u.toInt64 + (ma 6 * y.toInt64 + ma 7 * u.toInt64 + ma 8)), vp_updL (vp_updL (vp_updL di 0 (ma 0 * y.toInt64 + ma 1 * u.toInt64 + ma 2)) 1 (ma 3 * y.toInt64 + ma 4 * u.toInt64 + ma 5)) 2 (ma 6 * y.toInt64 + ma 7 * u.toInt64 + ma 8)) := C_spread ma di y u
