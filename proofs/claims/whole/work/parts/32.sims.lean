/-! what is wanted of the pure functions: class and reference go together (R: their relation, after k calls) -/
abbrev RelT : Type := Nat → Nat → (Nat → Nat → Nat) → mM → Nat × Nat → mM → Prop
def sim_stage (R : RelT) : Prop := ∀ (k cnt : Nat) (L : Nat → Nat → Nat) (V : mM) (c : Nat × Nat) (G : mM) (a1 a2 a3 a4 : Int32), k < 512 → R k cnt L V c G → ∃ (d r : Int32) (G2 : mM), fX7_stage L a1 a2 a3 a4 V c = some d ∧ fX8_stage a1 a2 a3 a4 G = some (r, G2) ∧ ((¬ d = 1 ∧ r = d ∧ R (k + 1) cnt L V c G2) ∨ (d = 1 ∧ r = (stV V cnt a1 a2 a4 2 0 3) - (1 : Int32) ∧ (cnt < 8 ∧ ¬ a2 < 0 ∧ a2.toNatClampNeg ≤ 32 ∧ (a3 = 1 ∨ a3 = 2 ∨ a3 = 3 ∨ a3 = 4)) ∧ R (k + 1) (cnt + 1) (nL L cnt a3.toNatClampNeg a2.toNatClampNeg) (stV V cnt a1 a2 a4) c G2))
def sim_targets (R : RelT) : Prop := ∀ (k cnt : Nat) (L : Nat → Nat → Nat) (V : mM) (c : Nat × Nat) (G : mM) (a1 a2 a3 : Int32), k < 512 → R k cnt L V c G → ∃ (r : Int32) (V2 : mM) (G2 : mM), fX7_targets L a1 a2 a3 V c = some (r, V2) ∧ fX8_targets a1 a2 a3 G = some (r, G2) ∧ R (k + 1) cnt L V2 c G2
def sim_admit (R : RelT) : Prop := ∀ (k cnt : Nat) (L : Nat → Nat → Nat) (V : mM) (c : Nat × Nat) (G : mM) (a1 a2 a3 a4 : Int32), k < 512 → R k cnt L V c G → ∃ (r : Int32) (V2 : mM) (G2 : mM), fX7_admit L a1 a2 a3 a4 V c = some (r, V2) ∧ fX8_admit a1 a2 a3 a4 G = some (r, G2) ∧ R (k + 1) cnt L V2 c G2
def sim_put (R : RelT) : Prop := ∀ (k cnt : Nat) (L : Nat → Nat → Nat) (V : mM) (c : Nat × Nat) (G : mM) (a1 a2 : Int32), k < 512 → R k cnt L V c G → ∃ (r : Int32) (V2 : mM) (G2 : mM), fX7_put L a1 a2 V c = some (r, V2) ∧ fX8_put a1 a2 G = some (r, G2) ∧ R (k + 1) cnt L V2 c G2
def sim_prepare (R : RelT) : Prop := ∀ (k cnt : Nat) (L : Nat → Nat → Nat) (V : mM) (c : Nat × Nat) (G : mM) (a1 a2 : Int32), k < 512 → R k cnt L V c G → ∃ (r : Int32) (V2 : mM) (G2 : mM), fX7_prepare L a1 a2 V c = some (r, V2) ∧ fX8_prepare a1 a2 G = some (r, G2) ∧ R (k + 1) cnt L V2 c G2
def sim_commit (R : RelT) : Prop := ∀ (k cnt : Nat) (L : Nat → Nat → Nat) (V : mM) (c : Nat × Nat) (G : mM) (a1 a2 : Int32), k < 512 → R k cnt L V c G → ∃ (r : Int32) (V2 : mM) (G2 : mM), fX7_commit L a1 a2 V c = some (r, V2) ∧ fX8_commit a1 a2 G = some (r, G2) ∧ R (k + 1) cnt L V2 c G2
def sim_abort (R : RelT) : Prop := ∀ (k cnt : Nat) (L : Nat → Nat → Nat) (V : mM) (c : Nat × Nat) (G : mM) (a1 : Int32), k < 512 → R k cnt L V c G → ∃ (r : Int32) (V2 : mM) (G2 : mM), fX7_abort L a1 V c = some (r, V2) ∧ fX8_abort a1 G = some (r, G2) ∧ R (k + 1) cnt L V2 c G2
def sim_timer (R : RelT) : Prop := ∀ (k cnt : Nat) (L : Nat → Nat → Nat) (V : mM) (c : Nat × Nat) (G : mM) (a1 a2 a3 : Int32), k < 512 → R k cnt L V c G → ∃ (r : Int32) (V2 : mM) (G2 : mM), fX7_timer L a1 a2 a3 V c = some (r, V2) ∧ fX8_timer a1 a2 a3 G = some (r, G2) ∧ R (k + 1) cnt L V2 c G2
def sim_cancel (R : RelT) : Prop := ∀ (k cnt : Nat) (L : Nat → Nat → Nat) (V : mM) (c : Nat × Nat) (G : mM) (a1 : Int32), k < 512 → R k cnt L V c G → ∃ (r : Int32) (V2 : mM) (G2 : mM), fX7_cancel L a1 V c = some (r, V2) ∧ fX8_cancel a1 G = some (r, G2) ∧ R (k + 1) cnt L V2 c G2
def sim_close (R : RelT) : Prop := ∀ (k cnt : Nat) (L : Nat → Nat → Nat) (V : mM) (c : Nat × Nat) (G : mM) (a1 : Int32), k < 512 → R k cnt L V c G → ∃ (r : Int32) (V2 : mM) (G2 : mM), fX7_close L a1 V c = some (r, V2) ∧ fX8_close a1 G = some (r, G2) ∧ R (k + 1) cnt L V2 c G2
def sim_tick (R : RelT) : Prop := ∀ (k cnt : Nat) (L : Nat → Nat → Nat) (V : mM) (c : Nat × Nat) (G : mM) (a1 : Int32), k < 512 → R k cnt L V c G → ∃ (r : Int32) (V2 : mM) (c2 : Nat × Nat) (G2 : mM), fX7_tick L a1 V c = some (r, V2, c2) ∧ fX8_tick a1 G = some (r, G2) ∧ R (k + 1) cnt L V2 c2 G2
def sim_told (R : RelT) : Prop := ∀ (k cnt : Nat) (L : Nat → Nat → Nat) (V : mM) (c : Nat × Nat) (G : mM) (a1 a2 : Int32), k < 512 → R k cnt L V c G → ∃ (r : Int32) (V2 : mM) (G2 : mM), fX7_told L a1 a2 V c = some (r, V2) ∧ fX8_told a1 a2 G = some (r, G2) ∧ R (k + 1) cnt L V2 c G2
def sim_queued (R : RelT) : Prop := ∀ (k cnt : Nat) (L : Nat → Nat → Nat) (V : mM) (c : Nat × Nat) (G : mM) (a1 a2 : Int32), k < 512 → R k cnt L V c G → ∃ (r : Int32), fX7_queued L a1 a2 V c = some r ∧ fX8_queued a1 a2 G = some r ∧ R (k + 1) cnt L V c G
def sim_worker (R : RelT) : Prop := ∀ (k cnt : Nat) (L : Nat → Nat → Nat) (V : mM) (c : Nat × Nat) (G : mM) (a1 a2 a3 : Int32), k < 512 → R k cnt L V c G → ∃ (r : Int32), fX7_worker L a1 a2 a3 V c = some r ∧ fX8_worker a1 a2 a3 G = some r ∧ R (k + 1) cnt L V c G
def sim_done (R : RelT) : Prop := ∀ (k cnt : Nat) (L : Nat → Nat → Nat) (V : mM) (c : Nat × Nat) (G : mM) (a1 : Int32), k < 512 → R k cnt L V c G → ∃ (r : Int32), fX7_done L a1 V c = some r ∧ fX8_done a1 G = some r ∧ R (k + 1) cnt L V c G
def sim_value (R : RelT) : Prop := ∀ (k cnt : Nat) (L : Nat → Nat → Nat) (V : mM) (c : Nat × Nat) (G : mM) (a1 : Int32), k < 512 → R k cnt L V c G → ∃ (r : Int32), fX7_value L a1 V c = some r ∧ fX8_value a1 G = some r ∧ R (k + 1) cnt L V c G
def sim_events (R : RelT) : Prop := ∀ (k cnt : Nat) (L : Nat → Nat → Nat) (V : mM) (c : Nat × Nat) (G : mM), k < 512 → R k cnt L V c G → ∃ (r : Int32), fX7_events L  V c = some r ∧ fX8_events  G = some r ∧ R (k + 1) cnt L V c G
def sim_ended (R : RelT) : Prop := ∀ (k cnt : Nat) (L : Nat → Nat → Nat) (V : mM) (c : Nat × Nat) (G : mM), k < 512 → R k cnt L V c G → ∃ (r : Int32), fX7_ended L  V c = some r ∧ fX8_ended  G = some r ∧ R (k + 1) cnt L V c G
def sim_lost (R : RelT) : Prop := ∀ (k cnt : Nat) (L : Nat → Nat → Nat) (V : mM) (c : Nat × Nat) (G : mM), k < 512 → R k cnt L V c G → ∃ (r : Int32), fX7_lost L  V c = some r ∧ fX8_lost  G = some r ∧ R (k + 1) cnt L V c G
def sim_clock (R : RelT) : Prop := ∀ (k cnt : Nat) (L : Nat → Nat → Nat) (V : mM) (c : Nat × Nat) (G : mM), k < 512 → R k cnt L V c G → ∃ (r : Int32), fX7_clock L  V c = some r ∧ fX8_clock  G = some r ∧ R (k + 1) cnt L V c G
def sim_skip (R : RelT) : Prop := ∀ (k cnt : Nat) (L : Nat → Nat → Nat) (V : mM) (c : Nat × Nat) (G : mM), k < 512 → R k cnt L V c G → R (k + 1) cnt L V c G
def sim_has (R : RelT) : Prop := ∀ (k cnt : Nat) (L : Nat → Nat → Nat) (V : mM) (c : Nat × Nat) (G : mM), R k cnt L V c G → xSh cnt L ∧ V 2 0 3 = Int32.ofNat cnt ∧ c.1 + c.2 ≤ 524288
def xV0 : mM := fun k _ t => if xrs k t = true then -1 else 0
def mV0 : mM := fun _ _ _ => 0
def xL0 : Nat → Nat → Nat := fun _ _ => 0
def sim_init (R : RelT) : Prop := R 0 0 xL0 xV0 (64, 64) mV0
def Ax (s : State) (am : Nat → Nat → Nat) : Nat → Prop := fun z => s.heap.size ≤ z ∧ ∀ k n, mex k n → am k n ≠ z
def Am (am : Nat → Nat → Nat) : Nat → Prop := fun z => ∃ k n, mex k n ∧ am k n = z
theorem mP_w {D : va_G} {cl : List vw_C} {A A2 : Nat → Prop} {ad : Nat → Nat → Nat} {ce : mC} {ex : Nat → Nat → Prop} {V : mM} {H : Heap} (h : ∀ k n, ex k n → A2 (ad k n)) (hM : mP D cl A ad ce ex V H) : mP D cl A2 ad ce ex V H := by
  obtain ⟨os, hno, ho, hP, hD⟩ := hM
  refine ⟨os, hno, ho, hP, hD.1, fun j z hz => ?_⟩
  unfold mw at hz
  rw [List.getElem?_map] at hz
  cases ho9 : os[j]? with
  | none => rw [ho9] at hz; cases hz
  | some o9 =>
    rw [ho9] at hz
    cases hz
    exact h _ _ ((ho o9.1 o9.2).mpr (List.mem_of_getElem? ho9))
theorem mP_lt {D : va_G} {cl : List vw_C} {A : Nat → Prop} {ad : Nat → Nat → Nat} {ce : mC} {ex : Nat → Nat → Prop} {V : mM} {H : Heap} (hM : mP D cl A ad ce ex V H) {k n : Nat} (hx : ex k n) : ad k n < H.size := (mP_ad hM hx).2.lt

theorem sw_out19 {x : Int32} (h0 : ¬ x = 0) (h1 : ¬ x = 1) (h2 : ¬ x = 2) (h3 : ¬ x = 3) (h4 : ¬ x = 4) (h5 : ¬ x = 5) (h6 : ¬ x = 6) (h7 : ¬ x = 7) (h8 : ¬ x = 8) (h9 : ¬ x = 9) (h10 : ¬ x = 10) (h11 : ¬ x = 11) (h12 : ¬ x = 12) (h13 : ¬ x = 13) (h14 : ¬ x = 14) (h15 : ¬ x = 15) (h16 : ¬ x = 16) (h17 : ¬ x = 17) (h18 : ¬ x = 18) (h19 : ¬ x = 19) : x.toInt < 0 ∨ 19 < x.toInt := sw_out 19 x (fun j hj => by
  rcases (by omega : j = 0 ∨ j = 1 ∨ j = 2 ∨ j = 3 ∨ j = 4 ∨ j = 5 ∨ j = 6 ∨ j = 7 ∨ j = 8 ∨ j = 9 ∨ j = 10 ∨ j = 11 ∨ j = 12 ∨ j = 13 ∨ j = 14 ∨ j = 15 ∨ j = 16 ∨ j = 17 ∨ j = 18 ∨ j = 19) with rfl | rfl | rfl | rfl | rfl | rfl | rfl | rfl | rfl | rfl | rfl | rfl | rfl | rfl | rfl | rfl | rfl | rfl | rfl | rfl
  · exact h0
  · exact h1
  · exact h2
  · exact h3
  · exact h4
  · exact h5
  · exact h6
  · exact h7
  · exact h8
  · exact h9
  · exact h10
  · exact h11
  · exact h12
  · exact h13
  · exact h14
  · exact h15
  · exact h16
  · exact h17
  · exact h18
  · exact h19)
