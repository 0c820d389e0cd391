/-! a tick: the clock, the tokens -/
def NP (U : Nat) (z : mZ) (G : mM) : Prop := z 0 0 ≤ 400 ∧ U ≤ 12800 ∧ z 0 4 ≤ 8 * U ∧ RS (8 * U) z G
section TOK
variable {w0 cnt k i U B p n : Nat} {L : Nat → Nat → Nat} {V G : mM} {c : Nat × Nat} {z : mZ}
theorem rel1_clock (h : Rel1 w0 cnt L V c G z) : Rel1 w0 cnt L (mu V 2 0 4 (nI (z 0 0 + 1))) c (mu G 0 0 0 (nI (z 0 0 + 1))) (su z 0 0 (z 0 0 + 1)) := by
  obtain ⟨h1, h2, h3, h4, h5, h6, h7, h8, h9, h10, h11, h12, h13, h15, h17, h18, h20⟩ := h
  refine ⟨rG_mu h1 _ _ _ rfl, ?_, ?_, ?_, ?_, ?_, ?_, ?_, ?_, ?_, ?_, ?_, ?_, ?_, ?_, ?_, h20⟩
  · obtain ⟨⟨a1, a2, a3⟩, a4, a5, a6, a7, a8⟩ := h2
    refine ⟨⟨?_, ?_, a3⟩, ?_, ?_, ?_, ?_, ?_⟩
    · rw [mu_t (by decide)]; exact a1
    · rw [su_i (by decide)]; exact a2
    · rw [mu_s, su_s]
    · rw [mu_t (by decide), su_i (by decide)]; exact a5
    · rw [mu_t (by decide), su_i (by decide)]; exact a6
    · rw [mu_k (by decide), su_i (by decide)]; exact a7
    · rw [mu_k (by decide)]; exact a8
  · intro i t hi ht
    have := sf_ge t
    rw [mu_k (by decide), su_k (by omega)]
    exact h3 i t hi ht
  · intro i t hi ht
    have := so_ge t
    rw [mu_k (by decide), mu_k (by omega)]
    exact h4 i t hi ht
  · simpa [RQs, mu_k, su_k] using h5
  · simpa [RTs, mu_k, su_k] using h6
  · simpa [RR, rrb, mu_k, su_k] using h7
  · simpa [RZ, mu_k, su_k] using h8
  · simpa [RQ, row, mu_k, su_k, su_app] using h9
  · simpa [RW1, mu_k, su_k] using h10
  · simpa [RWb, row, mu_k, su_k, su_app] using h11
  · intro i j hi hj hw
    rw [su_k (by decide)] at hj
    have q := h12 i j hi hj hw
    unfold gf at q ⊢
    simp only [mu_k (show (17 : Nat) ≠ 2 by decide), mu_k (show (18 : Nat) ≠ 2 by decide), mu_k (show (19 : Nat) ≠ 2 by decide), mu_k (show (20 : Nat) ≠ 2 by decide), su_k (show (34 : Nat) ≠ 0 by decide), su_k (show (35 : Nat) ≠ 0 by decide), su_k (show (36 : Nat) ≠ 0 by decide), su_k (show (38 : Nat) ≠ 0 by decide), su_k (show (39 : Nat) ≠ 0 by decide), su_k (show (4 : Nat) ≠ 0 by decide), mu_k (show (40 : Nat) ≠ 0 by decide), mu_k (show (37 : Nat) ≠ 0 by decide), mu_k (show (3 : Nat) ≠ 0 by decide), su_s, su_i (show (1 : Nat) ≠ 0 by decide)]
    refine ⟨q.1, fun h34 => ?_⟩
    obtain ⟨r1, r2, r3, r4⟩ := q.2 h34
    refine ⟨r1, r2, fun t t1 t2 => ?_, r4⟩
    obtain ⟨s1, s2, s3, s4, s5⟩ := r3 t t1 t2
    exact ⟨s1, s2, s3, s4, by omega⟩
  · simpa [RWi, mu_k, su_k] using h13
  · simpa [RT, mu_k, su_k] using h15
  · simpa [RD, mu_k, su_k, su_app] using h17
  · intro e he
    rw [su_i (by decide)] at he
    rw [su_s, su_k (by decide)]
    have := h18 e he
    omega
theorem rel1_lost (h : Rel1 w0 cnt L V c G z) {y : Nat} : Rel1 w0 cnt L (mu V 2 0 6 (nI y)) c (mu G 0 0 6 (nI y)) (su z 0 6 y) := by
  obtain ⟨h1, h2, h3, h4, h5, h6, h7, h8, h9, h10, h11, h12, h13, h15, h17, h18, h20⟩ := h
  refine ⟨rG_mu h1 _ _ _ rfl, ?_, ?_, ?_, ?_, ?_, ?_, ?_, ?_, ?_, ?_, ?_, ?_, ?_, ?_, ?_, h20⟩
  · obtain ⟨⟨a1, a2, a3⟩, a4, a5, a6, a7, a8⟩ := h2
    refine ⟨⟨?_, ?_, a3⟩, ?_, ?_, ?_, ?_, ?_⟩
    · rw [mu_t (by decide)]; exact a1
    · rw [su_i (by decide)]; exact a2
    · rw [mu_t (by decide), su_i (by decide)]; exact a4
    · rw [mu_t (by decide), su_i (by decide)]; exact a5
    · rw [mu_s, su_s]
    · rw [mu_k (by decide), su_i (by decide)]; exact a7
    · rw [mu_k (by decide)]; exact a8
  · intro i t hi ht
    have := sf_ge t
    rw [mu_k (by decide), su_k (by omega)]
    exact h3 i t hi ht
  · intro i t hi ht
    have := so_ge t
    rw [mu_k (by decide), mu_k (by omega)]
    exact h4 i t hi ht
  · simpa [RQs, mu_k, su_k] using h5
  · simpa [RTs, mu_k, su_k] using h6
  · simpa [RR, rrb, mu_k, su_k] using h7
  · simpa [RZ, mu_k, su_k] using h8
  · simpa [RQ, row, mu_k, su_k, su_app] using h9
  · simpa [RW1, mu_k, su_k] using h10
  · simpa [RWb, row, mu_k, su_k, su_app] using h11
  · simpa [RWx, gf, mu_k, su_k, su_app] using h12
  · simpa [RWi, mu_k, su_k] using h13
  · simpa [RT, mu_k, su_k] using h15
  · simpa [RD, mu_k, su_k, su_app] using h17
  · simpa [RE, mu_k, su_k, su_app] using h18
/-- the clock goes on -/
theorem clock_ok (h : Rel0 U k cnt L V c G z) (hc : z 0 0 < 400) : Rel1 32 cnt L (mu V 2 0 4 (nI (z 0 0 + 1))) c (mu G 0 0 0 (nI (z 0 0 + 1))) (su z 0 0 (z 0 0 + 1)) ∧ RM1 k cnt (mu V 2 0 4 (nI (z 0 0 + 1))) (su z 0 0 (z 0 0 + 1)) (mu G 0 0 0 (nI (z 0 0 + 1))) ∧ RI cnt 0 (su z 0 0 (z 0 0 + 1)) ∧ NP U (su z 0 0 (z 0 0 + 1)) (mu G 0 0 0 (nI (z 0 0 + 1))) := by
  have hI := rel0_I h
  have hM := rel0_M h
  have hR := (rel1_of (w0 := 32) h).2.2.2.2.2.2.1
  have h8 := (rel1_of (w0 := 32) h).2.1.1.2.2
  obtain ⟨n1, n2, n3, n4⟩ := rel0_N h
  refine ⟨rel1_clock (rel1_of h), ?_, ?_, ⟨?_, n2, ?_, ?_⟩⟩
  · simpa [RM1, RM, mu_k, su_k, su_app] using hM
  · intro i j hi hj
    rw [su_k (by decide)] at hj
    rw [su_s, su_k (by decide), su_k (by decide)]
    have hw := RR_w hR hi hj
    obtain ⟨q1, q2, q3⟩ := (hI i j hi hj).1 (by omega)
    refine ⟨fun hp => absurd hp (by omega), fun _ => ⟨by omega, by omega, fun hj1 => ?_⟩⟩
    have := q3 hj1
    omega
  · rw [su_s]; omega
  · rw [su_i (by decide)]; exact n3
  · have e : pend (su z 0 0 (z 0 0 + 1)) (mu G 0 0 0 (nI (z 0 0 + 1))) = pend z G := by
      funext w
      unfold pend
      rw [su_k (by decide), su_k (by decide), mu_k (by decide)]
    unfold RS
    rw [e, su_i (by decide), su_i (by decide), su_k (by decide)]
    exact n4
theorem fld_NP {f y : Nat} {x : Int32} (h : NP U z G) (hf : f ≠ 0 ∧ f ≠ 26 ∧ f ≠ 34 ∧ f ≠ 36 ∧ f ≠ 40) : NP U (su z f i y) (mu G f 0 i x) := by
  have e : pend (su z f i y) (mu G f 0 i x) = pend z G := by
    funext w
    unfold pend
    rw [su_k (by omega), su_k (by omega), mu_k (by omega)]
  unfold NP RS at h ⊢
  rw [e, su_k (by omega), su_k (by omega)]
  exact h
theorem fld_RI {f y : Nat} (h : RI cnt p z) (hf : f ≠ 0 ∧ f ≠ 18 ∧ f ≠ 41 ∧ f ≠ 42) : RI cnt p (su z f i y) := by
  unfold RI
  rw [su_k (by omega), su_k (by omega), su_k (by omega), su_k (by omega)]
  exact h
theorem fld_RM {f y t : Nat} {x x' : Int32} (h : RM1 k cnt V z G) (hf : f ≠ 0 ∧ f < 45) : RM1 k cnt (mu V 3 i t x) (su z f i y) (mu G f 0 i x') := by
  unfold RM1 RM
  rw [su_k (show 0 ≠ f by omega), su_k (show 45 ≠ f by omega), su_k (show 46 ≠ f by omega), su_k (show 48 ≠ f by omega), mu_k (show 47 ≠ f by omega), mu_k (by decide), mu_k (by decide), mu_k (by decide), mu_k (by decide), mu_k (by decide)]
  exact h
theorem tok_lp : ∀ (d x : Nat) (V G : mM) (z : mZ), x + d = cnt → Rel1 32 cnt L V c G z → RM1 k cnt V z G → RI cnt p z → NP U z G → ∀ m m' : Nat, d < m → d < m' → ∃ V' G' z', lpX7_passTick_12 L m (nI x) V c = ((fX7_fireTimers L V' c).bind fun u_18 => lpX7_passTick_41 L fu (0 : Int32) u_18 c) ∧ lpX8_oneTick_12 m' (nI x) G = ((fX8_ring G').bind fun u_10 => lpX8_oneTick_82 fu (0 : Int32) u_10) ∧ Rel1 32 cnt L V' c G' z' ∧ RM1 k cnt V' z' G' ∧ RI cnt p z' ∧ NP U z' G' ∧ z' 0 0 = z 0 0
  | 0, x, V, G, z, hd, h, hM, hI, hN, m, m', hm, hm' => by
    obtain ⟨m, rfl⟩ : ∃ q, m = q + 1 := ⟨m - 1, by omega⟩
    obtain ⟨m', rfl⟩ : ∃ q, m' = q + 1 := ⟨m' - 1, by omega⟩
    have h8 := h.2.1.1.2.2
    have hc : nI cnt ≤ nI x := by rw [nI_leE (by omega) (by omega)]; omega
    refine ⟨V, G, z, ?_, ?_, h, hM, hI, hN, rfl⟩
    · rw [lpX7_passTick_12, h.2.1.1.1, if_pos hc]
    · rw [lpX8_oneTick_12, h.1 0 7 rfl, h.2.1.1.2.1, if_pos hc]
  | d + 1, x, V, G, z, hd, h, hM, hI, hN, m, m', hm, hm' => by
    obtain ⟨m, rfl⟩ : ∃ q, m = q + 1 := ⟨m - 1, by omega⟩
    obtain ⟨m', rfl⟩ : ∃ q, m' = q + 1 := ⟨m' - 1, by omega⟩
    have h8 := h.2.1.1.2.2
    have hx : x < cnt := by omega
    have hc : ¬ nI cnt ≤ nI x := by rw [nI_leE (by omega) (by omega)]; omega
    have hb : bin (nI x) 8 = true := bin_t (by omega) (by omega)
    have hR := h.2.2.2.2.2.2.1 x hx
    have r1 := hR.2.1
    have e1 : nI x + 1 = nI (x + 1) := nI_1 x
    have v10 : V 3 x 10 = nI (z 16 x) := h.2.2.1 x 10 hx rfl
    have v11 : V 3 x 11 = nI (z 15 x) := h.2.2.1 x 11 hx rfl
    have v12 : V 3 x 12 = nI (z 14 x) := h.2.2.1 x 12 hx rfl
    have y : ∃ y, y = if z 14 x + z 16 x ≤ z 15 x then z 14 x + z 16 x else z 15 x := ⟨_, rfl⟩
    obtain ⟨y, hy⟩ := y
    have hyl : y ≤ z 15 x := by rw [hy]; split <;> omega
    have hfx : fX3_growTokens L x V c = some (mu V 3 x 12 (nI y)) := by
      unfold fX3_growTokens
      rw [v10, v11, v12, nI_add, hy]
      by_cases q : z 14 x + z 16 x ≤ z 15 x
      · rw [if_neg (by rw [nI_ltE (by omega) (by omega)]; omega), if_pos q]
      · rw [if_pos (by rw [nI_ltE (by omega) (by omega)]; omega), if_neg q]
    have g1 : Rel1 32 cnt L (mu V 3 x 12 (nI y)) c (mu G 14 0 x (nI y)) (su z 14 x y) := by
      refine rel1_fld (t := 12) h hx (by simp) ?_
      unfold rrb at hR ⊢
      simp only [sf, su_s, su_k, mu_k, ne_eq, Nat.reduceEqDiff, not_false_eq_true]
      exact ⟨hR.1, ⟨hR.2.1.1, hyl, hR.2.1.2.2⟩, hR.2.2⟩
    obtain ⟨V', G', z', q1, q2, q3, q4, q5, q6, q7⟩ := tok_lp d (x + 1) _ _ _ (by omega) g1 (fld_RM hM (by decide)) (fld_RI hI (by decide)) (fld_NP hN (by decide)) m m' (by omega) (by omega)
    refine ⟨V', G', z', ?_, ?_, q3, q4, q5, q6, by rw [q7, su_k (by decide)]⟩
    · rw [lpX7_passTick_12, h.2.1.1.1, if_neg hc, if_pos hb, nIc (by omega), h.2.1.2.2.2.2.2 x hx, if_neg (nI_pos (by omega)), nIc (by omega), hfx]
      simp only [Option.bind_some]
      rw [e1]
      exact q1
    · rw [lpX8_oneTick_12, h.1 0 7 rfl, h.2.1.1.2.1, if_neg hc]
      simp only [hb, if_true, nIc (show x < 2 ^ 31 by omega), h.1 14 x rfl, h.1 15 x rfl, h.1 16 x rfl, nI_add, nI_leE (show z 14 x + z 16 x < 2 ^ 31 by omega) (show z 15 x < 2 ^ 31 by omega)]
      unfold jnX8_oneTick_69
      simp only [hb, if_true, nIc (show x < 2 ^ 31 by omega), e1]
      by_cases q : z 14 x + z 16 x ≤ z 15 x
      · rw [if_pos q] at hy ⊢
        rw [← hy]; exact q2
      · rw [if_neg q] at hy ⊢
        rw [← hy]; exact q2
end TOK
