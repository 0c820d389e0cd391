/-! a worker's step: its fields, its gifts -/
section GIF
variable {w0 cnt k i j U B p n w : Nat} {L : Nat → Nat → Nat} {V G V' G' : mM} {c : Nat × Nat} {z z' : mZ}
/-- worker w is there -/
def wk (cnt : Nat) (z : mZ) (w : Nat) : Prop := ∃ i j, i < cnt ∧ j < z 18 i ∧ w = 4 * i + j
theorem wk_ne (hR : RR cnt L z G) (h : wk cnt z w) {i j : Nat} (hi : i < cnt) (hj : z 18 i ≤ j) (hj' : j < z 19 i) : 4 * i + j ≠ w := by
  obtain ⟨i', j', q1, q2, q3⟩ := h
  have r1 := RR_w hR q1 q2
  have r2 := (hR i hi).1.2.2.2.2.1
  intro e
  have : i = i' := by omega
  subst this
  omega
/-- a number of a worker is set on both sides -/
theorem rel1_16 (h : Rel1 w0 cnt L V c G z) (hw : wk cnt z w) {t f y : Nat} (ht : (t = 2 ∧ f = 33) ∨ (t = 3 ∧ f = 41)) (hy : f = 33 → y ≤ 72 ∧ (z 31 w = 0 → y = 0)) : Rel1 w0 cnt L (mu V 16 w t (nI y)) c (mu G f 0 w (nI y)) (su z f w y) := by
  obtain ⟨h1, h2, h3, h4, h5, h6, h7, h8, h9, h10, h11, h12, h13, h15, h17, h18, h20⟩ := h
  refine ⟨rG_mu h1 _ _ _ rfl, ?_, ?_, ?_, ?_, ?_, ?_, ?_, ?_, ?_, ?_, ?_, ?_, ?_, ?_, ?_, h20⟩
  · rcases ht with ⟨rfl, rfl⟩ | ⟨rfl, rfl⟩ <;> simpa [RA1, mu_k, su_k] using h2
  · intro i t' hi ht'
    have := sf_ge t'
    rw [mu_k (by decide), su_k (by omega)]
    exact h3 i t' hi ht'
  · intro i t' hi ht'
    have := so_ge t'
    rw [mu_k (by decide), mu_k (by omega)]
    exact h4 i t' hi ht'
  · rcases ht with ⟨rfl, rfl⟩ | ⟨rfl, rfl⟩ <;> simpa [RQs, mu_k, su_k] using h5
  · rcases ht with ⟨rfl, rfl⟩ | ⟨rfl, rfl⟩ <;> simpa [RTs, mu_k, su_k] using h6
  · rcases ht with ⟨rfl, rfl⟩ | ⟨rfl, rfl⟩ <;> simpa [RR, rrb, mu_k, su_k] using h7
  · refine ⟨fun i' hi' => ?_, fun w' hw' => ?_⟩
    · have := h8.1 i' hi'
      rcases ht with ⟨rfl, rfl⟩ | ⟨rfl, rfl⟩ <;> simpa [mu_k, su_k] using this
    · have := h8.2 w' hw'
      obtain ⟨i', j', q1, q2, q3⟩ := hw
      have r1 := RR_w h7 q1 q2
      have e : w' ≠ w := by omega
      simpa only [su_ne e] using this
  · rcases ht with ⟨rfl, rfl⟩ | ⟨rfl, rfl⟩ <;> simpa [RQ, row, mu_k, su_k] using h9
  · intro i' j' hi' hj'
    rw [su_k (by omega)] at hj'
    obtain ⟨⟨q1, q2, q3, q4⟩, q5, q6, q7, q8⟩ := h10 i' j' hi' hj'
    by_cases e : 4 * i' + j' = w
    · rw [e] at q1 q2 q3 q4 q5 q6 q7 q8 ⊢
      rcases ht with ⟨rfl, rfl⟩ | ⟨rfl, rfl⟩
      · have hy2 := hy rfl
        rw [mu_k (by decide), mu_s, mu_t (by decide), mu_t (by decide), su_s, su_k (by decide), su_k (by decide), su_k (by decide)]
        exact ⟨⟨q1, rfl, q3, q4⟩, q5, hy2.1, q7, fun h0 => ⟨hy2.2 h0, (q8 h0).2⟩⟩
      · rw [mu_k (by decide), mu_s, mu_t (by decide), mu_t (by decide), su_s, su_k (by decide), su_k (by decide), su_k (by decide)]
        exact ⟨⟨q1, q2, rfl, q4⟩, q5, q6, q7, q8⟩
    · have r := h10 i' j' hi' hj'
      simp only [su_ne e]
      rw [mu_k (by decide), mu_n e]
      exact r
  · rcases ht with ⟨rfl, rfl⟩ | ⟨rfl, rfl⟩ <;> simpa [RWb, row, mu_k, su_k] using h11
  · rcases ht with ⟨rfl, rfl⟩ | ⟨rfl, rfl⟩ <;> simpa [RWx, gf, mu_k, su_k] using h12
  · intro i' j' hi' hj' hj2
    rw [su_k (by omega)] at hj' hj2
    have e := wk_ne h7 hw hi' hj' hj2
    have r := h13 i' j' hi' hj' hj2
    simp only [su_ne e]
    rw [mu_k (by decide), mu_n e, mu_k (by decide)]
    exact r
  · rcases ht with ⟨rfl, rfl⟩ | ⟨rfl, rfl⟩ <;> simpa [RT, mu_k, su_k] using h15
  · rcases ht with ⟨rfl, rfl⟩ | ⟨rfl, rfl⟩ <;> simpa [RD, mu_k, su_k] using h17
  · rcases ht with ⟨rfl, rfl⟩ | ⟨rfl, rfl⟩ <;> simpa [RE, mu_k, su_k] using h18
theorem rel1_42 (h : Rel1 w0 cnt L V c G z) (hw : wk cnt z w) {y : Nat} : Rel1 w0 cnt L V c (mu G 42 0 w (nI y)) (su z 42 w y) := by
  obtain ⟨h1, h2, h3, h4, h5, h6, h7, h8, h9, h10, h11, h12, h13, h15, h17, h18, h20⟩ := h
  refine ⟨rG_mu h1 _ _ _ rfl, ?_, ?_, ?_, ?_, ?_, ?_, ?_, ?_, ?_, ?_, ?_, ?_, ?_, ?_, ?_, h20⟩
  · simpa [RA1, su_k] using h2
  · intro i t' hi ht'
    have := sf_ge t'
    rw [su_k (by omega)]
    exact h3 i t' hi ht'
  · intro i t' hi ht'
    have := so_ge t'
    rw [mu_k (by omega)]
    exact h4 i t' hi ht'
  · simpa [RQs, mu_k, su_k] using h5
  · simpa [RTs, mu_k, su_k] using h6
  · simpa [RR, rrb, mu_k, su_k] using h7
  · refine ⟨fun i' hi' => ?_, fun w' hw' => ?_⟩
    · have := h8.1 i' hi'
      simpa [mu_k, su_k] using this
    · have := h8.2 w' hw'
      obtain ⟨i', j', q1, q2, q3⟩ := hw
      have r1 := RR_w h7 q1 q2
      have e : w' ≠ w := by omega
      simpa only [su_ne e] using this
  · simpa [RQ, row, mu_k, su_k] using h9
  · simpa [RW1, mu_k, su_k] using h10
  · simpa [RWb, row, mu_k, su_k] using h11
  · simpa [RWx, gf, mu_k, su_k] using h12
  · simpa [RWi, mu_k, su_k] using h13
  · simpa [RT, mu_k, su_k] using h15
  · simpa [RD, mu_k, su_k] using h17
  · simpa [RE, mu_k, su_k] using h18
/-- not of worker w's gifts -/
def gw (w f t : Nat) : Prop := f < 34 ∨ 40 < f ∨ (f ≤ 36 ∧ t ≠ w) ∨ (37 ≤ f ∧ ¬ (16 * w ≤ t ∧ t < 16 * w + 16))
def gfr (V V' G G' : mM) (z z' : mZ) (w : Nat) : Prop := (∀ f n t, ¬ (n = w ∧ ((17 ≤ f ∧ f ≤ 20) ∨ (f = 16 ∧ t = 4))) → V' f n t = V f n t) ∧ (∀ f t, gw w f t → z' f t = z f t) ∧ (∀ f t, gw w f t → G' f 0 t = G f 0 t)
theorem gfr_refl : gfr V V G G z z w := ⟨fun _ _ _ _ => rfl, fun _ _ _ => rfl, fun _ _ _ => rfl⟩
theorem gfr_trans {V'' G'' : mM} {z'' : mZ} (h : gfr V V' G G' z z' w) (q : gfr V' V'' G' G'' z' z'' w) : gfr V V'' G G'' z z'' w :=
  ⟨fun f n t e => (q.1 f n t e).trans (h.1 f n t e), fun f t e => (q.2.1 f t e).trans (h.2.1 f t e), fun f t e => (q.2.2 f t e).trans (h.2.2 f t e)⟩
theorem gfr_v (q : gfr V V' G G' z z' w) {f : Nat} (hf : f < 16 ∨ 20 < f) : V' f = V f := by
  funext n t
  exact q.1 f n t (by omega)
theorem gfr_n (q : gfr V V' G G' z z' w) {f n : Nat} (hf : n ≠ w) : V' f n = V f n := by
  funext t
  exact q.1 f n t (by omega)
theorem gfr_z (q : gfr V V' G G' z z' w) {f : Nat} (hf : f < 34 ∨ 40 < f) : z' f = z f := by
  funext t
  exact q.2.1 f t (by unfold gw; omega)
theorem gfr_g (q : gfr V V' G G' z z' w) {f : Nat} (hf : f < 34 ∨ 40 < f) : G' f 0 = G f 0 := by
  funext t
  exact q.2.2 f t (by unfold gw; omega)
theorem rel1_gl (h : Rel1 w cnt L V c G z) (q : gfr V V' G G' z z' w) (hr : rG G' z') (hw : wk cnt z w) (h34 : V' 16 w 4 = nI (z' 34 w) ∧ z' 34 w ≤ 1 ∧ (z 31 w = 0 → z' 34 w = 0)) : Rel1 w cnt L V' c G' z' := by
  obtain ⟨h1, h2, h3, h4, h5, h6, h7, h8, h9, h10, h11, h12, h13, h15, h17, h18, h20⟩ := h
  have vk : ∀ f, f < 16 ∨ 20 < f → V' f = V f := fun f hf => gfr_v q hf
  have zk : ∀ f, f < 34 ∨ 40 < f → z' f = z f := fun f hf => gfr_z q hf
  have gk : ∀ f, f < 34 ∨ 40 < f → G' f 0 = G f 0 := fun f hf => gfr_g q hf
  refine ⟨hr, ?_, ?_, ?_, ?_, ?_, ?_, ?_, ?_, ?_, ?_, ?_, ?_, ?_, ?_, ?_, h20⟩
  · unfold RA1; rw [vk 2 (by decide), vk 10 (by decide), vk 4 (by decide), zk 0 (by decide)]; exact h2
  · intro i t hi ht
    have := sf_ge t
    rw [vk 3 (by decide), zk _ (by omega)]
    exact h3 i t hi ht
  · intro i t hi ht
    have := so_ge t
    rw [vk 3 (by decide), gk _ (by omega)]
    exact h4 i t hi ht
  · unfold RQs; rw [vk 11 (by decide), zk 26 (by decide)]; exact h5
  · unfold RTs; rw [vk 21 (by decide), zk 28 (by decide)]; exact h6
  · unfold RR rrb; rw [zk 9 (by decide), zk 12 (by decide), zk 13 (by decide), zk 14 (by decide), zk 15 (by decide), zk 16 (by decide), zk 17 (by decide), zk 18 (by decide), zk 19 (by decide), zk 20 (by decide), zk 21 (by decide), zk 22 (by decide), zk 26 (by decide), zk 28 (by decide), gk 10 (by decide), gk 11 (by decide)]; exact h7
  · refine ⟨?_, fun w' hw' => ?_⟩
    · rw [zk 13 (by decide), zk 17 (by decide), zk 22 (by decide), zk 26 (by decide), zk 28 (by decide), gk 23 (by decide), gk 24 (by decide), gk 25 (by decide)]; exact h8.1
    · have := h8.2 w' hw'
      obtain ⟨i', j', q1, q2, q3⟩ := hw
      have r1 := RR_w h7 q1 q2
      rw [zk 31 (by decide), zk 33 (by decide), zk 41 (by decide), zk 42 (by decide), q.2.1 34 w' (by unfold gw; omega)]
      exact this
  · unfold RQ row; rw [vk 12 (by decide), vk 13 (by decide), vk 14 (by decide), zk 26 (by decide), zk 27 (by decide), zk 4 (by decide), zk 0 (by decide), gk 3 (by decide)]; exact h9
  · intro i j hi hj
    rw [zk 18 (by decide)] at hj
    obtain ⟨⟨q1, q2, q3, q4⟩, q5, q6, q7, q8⟩ := h10 i j hi hj
    rw [vk 11 (by decide), zk 31 (by decide), zk 33 (by decide), zk 41 (by decide), q.1 16 _ 2 (by omega), q.1 16 _ 3 (by omega)]
    by_cases e : 4 * i + j = w
    · rw [e] at q1 q2 q3 q4 q5 q6 q7 q8 ⊢
      exact ⟨⟨q1, q2, q3, h34.1⟩, q5, q6, h34.2.1, fun h0 => ⟨(q8 h0).1, h34.2.2 h0⟩⟩
    · rw [q.1 16 _ 4 (by omega), q.2.1 34 _ (by unfold gw; omega)]
      exact ⟨⟨q1, q2, q3, q4⟩, q5, q6, q7, q8⟩
  · unfold RWb row; rw [vk 12 (by decide), vk 13 (by decide), vk 14 (by decide), zk 31 (by decide), zk 32 (by decide), zk 18 (by decide), zk 4 (by decide), zk 0 (by decide), gk 3 (by decide)]; exact h11
  · intro i j hi hj e
    rw [zk 18 (by decide)] at hj
    have r := h12 i j hi hj e
    unfold gf at r ⊢
    rw [gfr_n q e, gfr_n q e, gfr_n q e, gfr_n q e, q.2.1 34 _ (by unfold gw; omega), q.2.1 35 _ (by unfold gw; omega), q.2.1 36 _ (by unfold gw; omega), zk 0 (by decide), zk 4 (by decide), gk 3 (by decide)]
    refine ⟨r.1, fun h1' => ?_⟩
    obtain ⟨⟨a1, a2, a3, a4, a5⟩, a6, a7, a8⟩ := r.2 h1'
    have hq : ∀ t, t < 16 → ∀ f, 37 ≤ f → gw w f (16 * (4 * i + j) + t) := fun t ht f hf => by
      unfold gw; omega
    rw [q.2.2 40 _ (hq _ (by omega) _ (by omega)), q.2.2 37 _ (hq _ (by omega) _ (by omega)), q.2.1 38 _ (hq _ (by omega) _ (by omega))]
    refine ⟨⟨a1, a2, a3, a4, a5⟩, a6, fun t t1 t2 => ?_, fun t t1 t2 => ?_⟩
    · rw [q.2.1 39 _ (hq t (by omega) _ (by omega)), q.2.2 37 _ (hq t (by omega) _ (by omega)), q.2.1 38 _ (hq t (by omega) _ (by omega))]
      exact a7 t t1 t2
    · rw [q.2.2 40 _ (hq t (by omega) _ (by omega))]
      exact a8 t t1 t2
  · intro i j hi hj hj'
    rw [zk 18 (by decide)] at hj
    rw [zk 19 (by decide)] at hj'
    have e := wk_ne h7 hw hi hj hj'
    rw [vk 11 (by decide), gfr_n q e, gfr_n q e, zk 31 (by decide), q.2.1 34 _ (by unfold gw; omega)]
    exact h13 i j hi hj hj'
  · unfold RT; rw [vk 22 (by decide), zk 28 (by decide), zk 29 (by decide)]; exact h15
  · unfold RD; rw [vk 0 (by decide), vk 1 (by decide), zk 6 (by decide), zk 0 (by decide), gk 3 (by decide)]; exact h17
  · unfold RE; rw [zk 4 (by decide), zk 0 (by decide)]; exact h18
theorem RM1_gl (h : RM1 k cnt V z G) (q : gfr V V' G G' z z' w) : RM1 k cnt V' z' G' := by
  unfold RM1 RM
  rw [gfr_v q (show 5 < 16 ∨ _ by omega), gfr_v q (show 6 < 16 ∨ _ by omega), gfr_v q (show 7 < 16 ∨ _ by omega), gfr_v q (show 8 < 16 ∨ _ by omega), gfr_v q (show 9 < 16 ∨ _ by omega), gfr_z q (show 0 < 34 ∨ _ by omega), gfr_z q (show 45 < 34 ∨ _ by omega), gfr_z q (show 46 < 34 ∨ _ by omega), gfr_z q (show 48 < 34 ∨ _ by omega), gfr_g q (show 47 < 34 ∨ _ by omega)]
  exact h
theorem RI_gl (h : RI cnt p z) (q : gfr V V' G G' z z' w) : RI cnt p z' := by
  unfold RI
  rw [gfr_z q (show 0 < 34 ∨ _ by omega), gfr_z q (show 18 < 34 ∨ _ by omega), gfr_z q (show 41 < 34 ∨ 40 < 41 by omega), gfr_z q (show 42 < 34 ∨ 40 < 42 by omega)]
  exact h
/-- the count of events with worker w's pending gift counted apart -/
def pex (z : mZ) (G : mM) (w w' : Nat) : Nat := if w' = w then 0 else pend z G w'
def RSw (B w q : Nat) (z : mZ) (G : mM) : Prop := z 0 1 ≤ B + sumN (z 26) 8 + z 0 6 + sumN (pex z G w) 32 + q
def NPw (U w q : Nat) (z : mZ) (G : mM) : Prop := z 0 0 ≤ 400 ∧ U ≤ 12800 ∧ z 0 4 ≤ 8 * U ∧ RSw (8 * U) w q z G
theorem sum_pex (hw : w < 32) : sumN (pend z G) 32 = sumN (pex z G w) 32 + pend z G w := by
  have := sumN_upd (f := pex z G w) (g := pend z G) (i := w) (fun j hj => by unfold pex; rw [if_neg hj]) hw
  have e : pex z G w w = 0 := by unfold pex; rw [if_pos rfl]
  omega
theorem NPw_of (hw : w < 32) (h : NP U z G) : NPw U w (pend z G w) z G := by
  obtain ⟨n1, n2, n3, n4⟩ := h
  refine ⟨n1, n2, n3, ?_⟩
  unfold RS at n4
  rw [sum_pex hw] at n4
  unfold RSw
  omega
theorem NPw_to (hw : w < 32) {q : Nat} (h : NPw U w q z G) (hq : q ≤ pend z G w) : NP U z G := by
  obtain ⟨n1, n2, n3, n4⟩ := h
  refine ⟨n1, n2, n3, ?_⟩
  unfold RSw at n4
  unfold RS
  rw [sum_pex hw]
  omega
theorem pex_gl (q : gfr V V' G G' z z' w) : pex z' G' w = pex z G w := by
  funext w'
  unfold pex
  by_cases e : w' = w
  · rw [if_pos e, if_pos e]
  · rw [if_neg e, if_neg e]
    unfold pend
    rw [q.2.1 34 _ (by unfold gw; omega), q.2.1 36 _ (by unfold gw; omega)]
    by_cases h1 : z 34 w' = 1 ∧ z 36 w' < 16
    · rw [q.2.2 40 _ (by unfold gw; omega)]
    · rw [if_neg (fun q => h1 q.1), if_neg (fun q => h1 q.1)]
end GIF
