/-! the relation between the class's memory V and the reference's G: z f i is the number that the reference's array f has at i (f = 0: its own fields) -/
def natc (f : Nat) : Bool := [0, 4, 6, 9, 12, 13, 14, 15, 16, 17, 18, 19, 20, 21, 22, 26, 27, 28, 29, 31, 32, 33, 34, 35, 36, 38, 39, 41, 42, 45, 46, 48].contains f
abbrev mZ : Type := Nat → Nat → Nat
def su (z : mZ) (f i y : Nat) : mZ := fun f' i' => if f' = f ∧ i' = i then y else z f' i'
theorem su_s {z : mZ} {f i y : Nat} : su z f i y f i = y := by unfold su; rw [if_pos ⟨rfl, rfl⟩]
theorem su_i {z : mZ} {f i i' y : Nat} (h : i' ≠ i) : su z f i y f i' = z f i' := by unfold su; rw [if_neg (fun q => h q.2)]
theorem su_k {z : mZ} {f f' i y : Nat} (h : f' ≠ f) : su z f i y f' = z f' := by funext i'; unfold su; rw [if_neg (fun q => h q.1)]
theorem su_app {z : mZ} {f i i' y : Nat} : su z f i y f i' = if i' = i then y else z f i' := by
  by_cases h : i' = i
  · subst h; rw [su_s, if_pos rfl]
  · rw [su_i h, if_neg h]
def rG (G : mM) (z : mZ) : Prop := ∀ f i, natc f = true → G f 0 i = nI (z f i)
theorem rG_mu {G : mM} {z : mZ} (h : rG G z) (f i y : Nat) {x : Int32} (hx : x = nI y) : rG (mu G f 0 i x) (su z f i y) := by
  intro f' i' hf
  by_cases hk : f' = f
  · subst hk
    rw [mu_app, su_app]
    by_cases hi : i' = i
    · rw [if_pos ⟨rfl, hi⟩, if_pos hi]; exact hx
    · rw [if_neg (fun q => hi q.2), if_neg hi]; exact h f' i' hf
  · rw [mu_k hk, su_k hk]; exact h f' i' hf
theorem rG_mo {G : mM} {z : mZ} (h : rG G z) {f i : Nat} {x : Int32} (hn : natc f = false) : rG (mu G f 0 i x) z := by
  intro f' i' hf
  have hk : f' ≠ f := by rintro rfl; rw [hn] at hf; cases hf
  rw [mu_k hk]; exact h f' i' hf
def tg (cnt : Nat) (x : Int32) : Prop := x = -1 ∨ ∃ j, j < cnt ∧ x = nI j
/-- which array of the reference a slot of a stage is: numbers .. -/
def sf (t : Nat) : Nat := match t with
  | 0 => 9
  | 1 => 12
  | 2 => 21
  | 8 => 22
  | 9 => 13
  | 10 => 16
  | 11 => 15
  | 12 => 14
  | 13 => 17
  | 14 => 18
  | _ => 20
def isn (t : Nat) : Bool := [0, 1, 2, 8, 9, 10, 11, 12, 13, 14, 15].contains t
/-- .. and others -/
def so (t : Nat) : Nat := match t with
  | 6 => 10
  | 7 => 11
  | 16 => 23
  | 17 => 24
  | _ => 25
def iso (t : Nat) : Bool := [6, 7, 16, 17, 18].contains t
def RA (cnt : Nat) (V : mM) (z : mZ) : Prop := (V 2 0 3 = nI cnt ∧ z 0 7 = cnt ∧ cnt ≤ 8) ∧ V 2 0 4 = nI (z 0 0) ∧ V 2 0 5 = nI (z 0 1) ∧ V 2 0 6 = nI (z 0 6) ∧ V 10 0 2 = nI (z 0 4) ∧ V 5 0 4 = nI (z 0 43) ∧ V 5 0 5 = nI (z 0 42) ∧ ∀ i, i < cnt → V 4 0 i = nI i
def RBn (cnt : Nat) (V : mM) (z : mZ) : Prop := ∀ i t, i < cnt → isn t = true → V 3 i t = nI (z (sf t) i)
def RBo (cnt : Nat) (V G : mM) : Prop := ∀ i t, i < cnt → iso t = true → V 3 i t = G (so t) 0 i
def RQs (cnt : Nat) (V : mM) (z : mZ) : Prop := ∀ i, i < cnt → V 11 (32 + i) 3 = nI (z 26 i)
def RTs (cnt : Nat) (V : mM) (z : mZ) : Prop := ∀ i, i < cnt → V 21 i 2 = nI (z 28 i)
def rrb (cnt : Nat) (L : Nat → Nat → Nat) (z : mZ) (G : mM) (i : Nat) : Prop := (z 9 i ≤ 4 ∧ 1 ≤ z 12 i ∧ z 12 i ≤ 32 ∧ 1 ≤ z 19 i ∧ z 19 i ≤ 4 ∧ z 21 i ≤ 9 ∧ z 22 i ≤ 1) ∧ (z 26 i + z 13 i ≤ z 12 i ∧ z 14 i ≤ z 15 i ∧ 1 ≤ z 15 i ∧ z 15 i ≤ 100 ∧ z 16 i ≤ 100 ∧ z 17 i ≤ 1000) ∧ (1 ≤ z 18 i ∧ z 18 i ≤ z 19 i ∧ 1 ≤ z 20 i ∧ z 20 i ≤ 8 ∧ z 28 i ≤ 20) ∧ (L 15 i = z 19 i ∧ L 11 (32 + i) = z 12 i) ∧ tg cnt (G 10 0 i) ∧ tg cnt (G 11 0 i)
def RR (cnt : Nat) (L : Nat → Nat → Nat) (z : mZ) (G : mM) : Prop := ∀ i, i < cnt → rrb cnt L z G i
def RZ (cnt : Nat) (z : mZ) (G : mM) : Prop := (∀ i, cnt ≤ i → z 13 i = 0 ∧ z 17 i = 0 ∧ z 22 i = 0 ∧ z 26 i = 0 ∧ z 28 i = 0 ∧ G 23 0 i = 0 ∧ G 24 0 i = 0 ∧ G 25 0 i = 0) ∧ ∀ w, 4 * cnt ≤ w → z 31 w = 0 ∧ z 33 w = 0 ∧ z 34 w = 0 ∧ z 41 w = 0 ∧ z 42 w = 0
/-- row n of events holds the m events whose numbers stand in the reference's array f from b on -/
def row (V : mM) (z : mZ) (G : mM) (n m f b : Nat) : Prop := ∀ t, t < m → V 12 n t = nI (z f (b + t)) ∧ z f (b + t) < z 0 1 ∧ V 13 n t = G 3 0 (z f (b + t)) ∧ V 14 n t = nI (z 4 (z f (b + t)))
def RQ (cnt : Nat) (V : mM) (z : mZ) (G : mM) : Prop := ∀ i, i < cnt → row V z G (32 + i) (z 26 i) 27 (32 * i)
def RW (cnt : Nat) (V : mM) (z : mZ) : Prop := ∀ i j, i < cnt → j < z 18 i → (V 11 (4 * i + j) 3 = nI (z 31 (4 * i + j)) ∧ V 16 (4 * i + j) 2 = nI (z 33 (4 * i + j)) ∧ V 16 (4 * i + j) 3 = nI (z 41 (4 * i + j)) ∧ V 16 (4 * i + j) 4 = nI (z 34 (4 * i + j))) ∧ z 31 (4 * i + j) ≤ 8 ∧ z 33 (4 * i + j) ≤ 72 ∧ z 34 (4 * i + j) ≤ 1 ∧ z 41 (4 * i + j) ≤ z 0 0 ∧ z 42 (4 * i + j) ≤ z 0 0 ∧ (z 31 (4 * i + j) = 0 → z 33 (4 * i + j) = 0 ∧ z 34 (4 * i + j) = 0)
def RWb (cnt : Nat) (V : mM) (z : mZ) (G : mM) : Prop := ∀ i j, i < cnt → j < z 18 i → row V z G (4 * i + j) (z 31 (4 * i + j)) 32 (8 * (4 * i + j))
/-- worker w's gifts -/
def gf (cnt : Nat) (V : mM) (z : mZ) (G : mM) (w : Nat) : Prop := (z 34 w = 0 → V 17 w 3 = 0 ∧ V 17 w 4 = 0 ∧ V 17 w 5 = -1) ∧ (z 34 w = 1 → (V 17 w 3 = nI (z 35 w) ∧ V 17 w 4 = nI (z 36 w) ∧ z 36 w < z 35 w ∧ z 35 w ≤ 16 ∧ V 17 w 5 = G 40 0 (16 * w + z 36 w)) ∧ (G 40 0 (16 * w + z 36 w) = -1 ∨ ∃ e, e < z 0 1 ∧ G 40 0 (16 * w + z 36 w) = nI e ∧ G 3 0 e = G 37 0 (16 * w + z 36 w) ∧ z 4 e = z 38 (16 * w + z 36 w)) ∧ (∀ t, z 36 w ≤ t → t < z 35 w → V 18 w t = nI (z 39 (16 * w + t)) ∧ z 39 (16 * w + t) < cnt ∧ V 19 w t = G 37 0 (16 * w + t) ∧ V 20 w t = nI (z 38 (16 * w + t)) ∧ z 38 (16 * w + t) ≤ z 0 0) ∧ ∀ t, z 36 w < t → t < z 35 w → G 40 0 (16 * w + t) = -1)
def RWg (cnt : Nat) (V : mM) (z : mZ) (G : mM) : Prop := ∀ i j, i < cnt → j < z 18 i → gf cnt V z G (4 * i + j)
def RWi (cnt : Nat) (V : mM) (z : mZ) : Prop := ∀ i j, i < cnt → z 18 i ≤ j → j < z 19 i → (V 11 (4 * i + j) 3 = 0 ∧ V 16 (4 * i + j) 2 = 0 ∧ V 16 (4 * i + j) 4 = 0 ∧ V 17 (4 * i + j) 3 = 0 ∧ V 17 (4 * i + j) 4 = 0 ∧ V 17 (4 * i + j) 5 = -1) ∧ z 31 (4 * i + j) = 0 ∧ z 34 (4 * i + j) = 0
def RWt (cnt : Nat) (z : mZ) : Prop := ∀ i j, i < cnt → 1 ≤ j → j < z 18 i → z 42 (4 * i + j) % 10 = z 0 0 % 10
def RT (cnt : Nat) (V : mM) (z : mZ) : Prop := ∀ i t, i < cnt → t < z 28 i → V 22 i t = nI (z 29 (20 * i + t)) ∧ z 29 (20 * i + t) ≤ 400
def RM (k cnt : Nat) (V : mM) (z : mZ) (G : mM) : Prop := (z 0 43 ≤ 50 ∧ z 0 42 ≤ k ∧ z 0 6 + z 0 43 ≤ z 0 42) ∧ (∀ t, t < z 0 43 → (V 6 0 t = nI (z 45 t) ∧ V 7 0 t = nI (z 46 t) ∧ V 8 0 t = G 47 0 t ∧ V 9 0 t = nI (z 48 t)) ∧ z 46 t < cnt ∧ z 48 t ≤ 1400 ∧ z 45 t < z 0 42) ∧ ∀ t t', t < t' → t' < z 0 43 → z 45 t < z 45 t'
def RD (V : mM) (z : mZ) (c : Nat × Nat) (G : mM) : Prop := (64 ≤ c.1 ∧ c.2 = c.1 ∧ c.1 ≤ 204800 ∧ z 0 4 ≤ c.1) ∧ ∀ t, t < z 0 4 → V 0 0 t = nI (z 6 t) ∧ z 6 t < z 0 1 ∧ V 1 0 t = G 3 0 (z 6 t)
def RE (z : mZ) : Prop := ∀ e, e < z 0 1 → z 4 e ≤ z 0 0
def sumN (f : Nat → Nat) : Nat → Nat
  | 0 => 0
  | n + 1 => sumN f n + f n
def pend (z : mZ) (G : mM) (w : Nat) : Nat := if (z 34 w = 1 ∧ z 36 w < 16) ∧ ¬ G 40 0 (16 * w + z 36 w) = -1 then 1 else 0
def RN (U : Nat) (z : mZ) (G : mM) : Prop := z 0 0 ≤ 400 ∧ U ≤ 12800 ∧ z 0 4 ≤ 8 * U ∧ ∃ T, T ≤ 8 * U ∧ z 0 1 ≤ T + sumN (z 26) 8 + z 0 6 + sumN (pend z G) 32
def RLen (cnt : Nat) (L : Nat → Nat → Nat) : Prop := ∀ w, w < 4 * cnt → L 11 w = 8
/-- all of it, with U steps of work done -/
def Rel0 (U k cnt : Nat) (L : Nat → Nat → Nat) (V : mM) (c : Nat × Nat) (G : mM) (z : mZ) : Prop := rG G z ∧ RA cnt V z ∧ RBn cnt V z ∧ RBo cnt V G ∧ RQs cnt V z ∧ RTs cnt V z ∧ RR cnt L z G ∧ RZ cnt z G ∧ RQ cnt V z G ∧ RW cnt V z ∧ RWb cnt V z G ∧ RWg cnt V z G ∧ RWi cnt V z ∧ RWt cnt z ∧ RT cnt V z ∧ RM k cnt V z G ∧ RD V z c G ∧ RE z ∧ RN U z G ∧ RLen cnt L
def Rel (k cnt : Nat) (L : Nat → Nat → Nat) (V : mM) (c : Nat × Nat) (G : mM) : Prop := ∃ z, Rel0 (32 * z 0 0) k cnt L V c G z
/-! sums -/
theorem sumN_le {f : Nat → Nat} {b : Nat} : ∀ {n : Nat}, (∀ i, i < n → f i ≤ b) → sumN f n ≤ n * b
  | 0, _ => by simp [sumN]
  | n + 1, h => by
    have h1 := sumN_le (f := f) (b := b) (n := n) (fun i hi => h i (by omega))
    have h2 := h n (by omega)
    simp only [sumN]
    rw [Nat.succ_mul]
    omega
theorem sumN_congr {f g : Nat → Nat} : ∀ {n : Nat}, (∀ i, i < n → f i = g i) → sumN f n = sumN g n
  | 0, _ => rfl
  | n + 1, h => by
    simp only [sumN]
    rw [sumN_congr (fun i hi => h i (by omega)), h n (by omega)]
/-- one summand changes -/
theorem sumN_upd {f g : Nat → Nat} {i : Nat} (hg : ∀ j, j ≠ i → g j = f j) : ∀ {n : Nat}, i < n → sumN g n + f i = sumN f n + g i
  | 0, h => by omega
  | n + 1, h => by
    simp only [sumN]
    by_cases hi : i = n
    · subst hi
      rw [sumN_congr (fun j hj => hg j (by omega))]
      omega
    · have := sumN_upd hg (n := n) (by omega)
      rw [hg n (by omega)]
      omega
theorem sim_skip_ok : sim_skip Rel := by
  intro k cnt L V c G hk ⟨z, h⟩
  obtain ⟨h1, h2, h3, h4, h5, h6, h7, h8, h9, h10, h11, h12, h13, h14, h15, h16, h17, h18, h19, h20⟩ := h
  exact ⟨z, h1, h2, h3, h4, h5, h6, h7, h8, h9, h10, h11, h12, h13, h14, h15, ⟨⟨h16.1.1, by have := h16.1.2.1; omega, h16.1.2.2⟩, h16.2⟩, h17, h18, h19, h20⟩
theorem sim_has_ok : sim_has Rel := by
  intro k cnt L V c G ⟨z, h⟩
  obtain ⟨h1, h2, h3, h4, h5, h6, h7, h8, h9, h10, h11, h12, h13, h14, h15, h16, h17, h18, h19, h20⟩ := h
  refine ⟨⟨h2.1.2.2, fun i hi => ?_⟩, h2.1.1, ?_⟩
  · have := (h7 i hi).2.2.2.1.1
    have := (h7 i hi).1
    omega
  · have := h17.1
    omega
theorem sim_events_ok : sim_events Rel := by
  intro k cnt L V c G hk h
  obtain ⟨z, hz⟩ := id h
  refine ⟨nI (z 0 1), ?_, ?_, sim_skip_ok k cnt L V c G hk h⟩
  · show some (V 2 0 5) = _
    rw [hz.2.1.2.2.1]
  · show some (G 0 0 1) = _
    rw [hz.1 0 1 rfl]
theorem sim_ended_ok : sim_ended Rel := by
  intro k cnt L V c G hk h
  obtain ⟨z, hz⟩ := id h
  refine ⟨nI (z 0 4), ?_, ?_, sim_skip_ok k cnt L V c G hk h⟩
  · show some (V 10 0 2) = _
    rw [hz.2.1.2.2.2.2.1]
  · show some (G 0 0 4) = _
    rw [hz.1 0 4 rfl]
theorem sim_lost_ok : sim_lost Rel := by
  intro k cnt L V c G hk h
  obtain ⟨z, hz⟩ := id h
  refine ⟨nI (z 0 6), ?_, ?_, sim_skip_ok k cnt L V c G hk h⟩
  · show some (V 2 0 6) = _
    rw [hz.2.1.2.2.2.1]
  · show some (G 0 0 6) = _
    rw [hz.1 0 6 rfl]
theorem sim_clock_ok : sim_clock Rel := by
  intro k cnt L V c G hk h
  obtain ⟨z, hz⟩ := id h
  refine ⟨nI (z 0 0), ?_, ?_, sim_skip_ok k cnt L V c G hk h⟩
  · show some (V 2 0 4) = _
    rw [hz.2.1.2.1]
  · show some (G 0 0 0) = _
    rw [hz.1 0 0 rfl]
theorem sim_init_ok : sim_init Rel := by
  refine ⟨fun _ _ => 0, ?_⟩
  refine ⟨fun f i _ => rfl, ?_, ?_, ?_, ?_, ?_, ?_, ?_, ?_, ?_, ?_, ?_, ?_, ?_, ?_, ?_, ?_, ?_, ?_, ?_⟩
  · exact ⟨⟨rfl, rfl, by omega⟩, rfl, rfl, rfl, rfl, rfl, rfl, fun i hi => by omega⟩
  · intro i t hi; omega
  · intro i t hi; omega
  · intro i hi; omega
  · intro i hi; omega
  · intro i hi; omega
  · exact ⟨fun i _ => ⟨rfl, rfl, rfl, rfl, rfl, rfl, rfl, rfl⟩, fun w _ => ⟨rfl, rfl, rfl, rfl, rfl⟩⟩
  · intro i hi; omega
  · intro i j hi; omega
  · intro i j hi; omega
  · intro i j hi; omega
  · intro i j hi; omega
  · intro i j hi; omega
  · intro i t hi; omega
  · exact ⟨⟨Nat.zero_le _, Nat.zero_le _, Nat.le_refl _⟩, fun t ht => absurd ht (Nat.not_lt_zero _), fun t t' _ ht => absurd ht (Nat.not_lt_zero _)⟩
  · exact ⟨⟨by decide, rfl, by decide, by decide⟩, fun t ht => absurd ht (Nat.not_lt_zero _)⟩
  · intro e he; exact absurd he (Nat.not_lt_zero _)
  · exact ⟨Nat.zero_le _, Nat.zero_le _, Nat.zero_le _, 0, Nat.zero_le _, Nat.zero_le _⟩
  · intro w hw; omega
