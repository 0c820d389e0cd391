/-! a worker ends its batch, all of it -/
section FI2
variable {w0 cnt k i j U B p n w q : Nat} {L : Nat → Nat → Nat} {V G V' G' V0 G0 : mM} {c c' : Nat × Nat} {z z' z0 : mZ}
/-- only the clock's object, the done row and times change -/
def ff (z z' : mZ) : Prop := (∀ f, f ≠ 0 ∧ f ≠ 6 ∧ f ≠ 28 ∧ f ≠ 29 → z' f = z f) ∧ ∀ t, t ≠ 4 → z' 0 t = z 0 t
theorem ff_refl : ff z z := ⟨fun _ _ => rfl, fun _ _ => rfl⟩
theorem ff_trans {z'' : mZ} (h : ff z z') (q : ff z' z'') : ff z z'' := ⟨fun f hf => (q.1 f hf).trans (h.1 f hf), fun f hf => (q.2 f hf).trans (h.2 f hf)⟩
theorem rel1_fin (h : Rel1 w0 cnt L V c G z) (hi : i < cnt) {e y : Nat} (he : e < z 0 1) (hy : y ≤ 400)
    (hV : ∀ f, f ≠ 0 ∧ f ≠ 1 ∧ f ≠ 10 ∧ f ≠ 21 ∧ f ≠ 22 → V' f = V f) (hV1 : V' 10 0 2 = nI (z 0 4 + 1)) (hV2 : ∀ t, t < z 0 4 → V' 0 0 t = V 0 0 t ∧ V' 1 0 t = V 1 0 t) (hV3 : V' 0 0 (z 0 4) = nI e ∧ V' 1 0 (z 0 4) = G 3 0 e)
    (hc : 64 ≤ c'.1 ∧ c'.2 = c'.1 ∧ c'.1 ≤ 204800 ∧ z 0 4 + 1 ≤ c'.1)
    (hT1 : ∀ i', i' ≠ i → V' 21 i' = V 21 i' ∧ V' 22 i' = V 22 i') (hT2 : V' 21 i 2 = nI (tn (z 28 i))) (hT3 : ∀ t, t + 1 < tn (z 28 i) → V' 22 i t = V 22 i (ts (z 28 i) t)) (hT4 : V' 22 i (tn (z 28 i) - 1) = nI y)
    (hz : ff z z') (hz4 : z' 0 4 = z 0 4 + 1) (hz6 : ∀ t, t < z 0 4 → z' 6 t = z 6 t) (hz6' : z' 6 (z 0 4) = e)
    (hz28 : ∀ i', i' ≠ i → z' 28 i' = z 28 i') (hz28' : z' 28 i = tn (z 28 i)) (hz29 : ∀ s, s < 20 * i ∨ 20 * i + 20 ≤ s → z' 29 s = z 29 s) (hz29' : ∀ t, t + 1 < tn (z 28 i) → z' 29 (20 * i + t) = z 29 (20 * i + ts (z 28 i) t)) (hz29'' : z' 29 (20 * i + (tn (z 28 i) - 1)) = y)
    (hG : ∀ f, f ≠ 0 ∧ f ≠ 6 ∧ f ≠ 28 ∧ f ≠ 29 → G' f = G f) (hr : rG G' z') : Rel1 w0 cnt L V' c' G' z' := by
  obtain ⟨h1, h2, h3, h4, h5, h6, h7, h8, h9, h10, h11, h12, h13, h15, h17, h18, h20⟩ := h
  have zk := hz.1
  have zo := hz.2
  have h28 := (h7 i hi).2.2.1.2.2.2.2
  have htn : tn (z 28 i) ≤ 20 ∧ 1 ≤ tn (z 28 i) := by unfold tn; split <;> omega
  refine ⟨hr, ?_, ?_, ?_, ?_, ?_, ?_, ?_, ?_, ?_, ?_, ?_, ?_, ?_, ?_, ?_, h20⟩
  · unfold RA1; rw [hV 2 (by decide), hV 4 (by decide), zo 7 (by decide), zo 0 (by decide), zo 1 (by decide), zo 6 (by decide), hV1, hz4]
    exact ⟨h2.1, h2.2.1, h2.2.2.1, h2.2.2.2.1, rfl, h2.2.2.2.2.2⟩
  · intro i' t hi' ht
    have := sf_ge t
    rw [hV 3 (by decide), zk _ (by omega)]
    exact h3 i' t hi' ht
  · intro i' t hi' ht
    have := so_ge t
    rw [hV 3 (by decide), hG _ (by omega)]
    exact h4 i' t hi' ht
  · unfold RQs; rw [hV 11 (by decide), zk 26 (by decide)]; exact h5
  · intro i' hi'
    by_cases e1 : i' = i
    · subst e1; rw [hT2, hz28']
    · rw [(hT1 i' e1).1, hz28 i' e1]; exact h6 i' hi'
  · intro i' hi'
    have := h7 i' hi'
    unfold rrb at this ⊢
    rw [zk 9 (by decide), zk 12 (by decide), zk 13 (by decide), zk 14 (by decide), zk 15 (by decide), zk 16 (by decide), zk 17 (by decide), zk 18 (by decide), zk 19 (by decide), zk 20 (by decide), zk 21 (by decide), zk 22 (by decide), zk 26 (by decide), hG 10 (by decide), hG 11 (by decide)]
    by_cases e1 : i' = i
    · subst e1
      rw [hz28']
      exact ⟨this.1, this.2.1, ⟨this.2.2.1.1, this.2.2.1.2.1, this.2.2.1.2.2.1, this.2.2.1.2.2.2.1, htn.1⟩, this.2.2.2⟩
    · rw [hz28 i' e1]; exact this
  · refine ⟨fun i' hi' => ?_, ?_⟩
    · rw [zk 13 (by decide), zk 17 (by decide), zk 22 (by decide), zk 26 (by decide), hz28 i' (by omega), hG 23 (by decide), hG 24 (by decide), hG 25 (by decide)]
      exact h8.1 i' hi'
    · rw [zk 31 (by decide), zk 33 (by decide), zk 34 (by decide), zk 41 (by decide), zk 42 (by decide)]; exact h8.2
  · unfold RQ row; rw [hV 12 (by decide), hV 13 (by decide), hV 14 (by decide), zk 26 (by decide), zk 27 (by decide), zk 4 (by decide), zo 1 (by decide), hG 3 (by decide)]; exact h9
  · unfold RW1; rw [hV 11 (by decide), hV 16 (by decide), zk 18 (by decide), zk 31 (by decide), zk 33 (by decide), zk 34 (by decide), zk 41 (by decide)]; exact h10
  · unfold RWb row; rw [hV 12 (by decide), hV 13 (by decide), hV 14 (by decide), zk 31 (by decide), zk 32 (by decide), zk 18 (by decide), zk 4 (by decide), zo 1 (by decide), hG 3 (by decide)]; exact h11
  · unfold RWx gf; rw [hV 17 (by decide), hV 18 (by decide), hV 19 (by decide), hV 20 (by decide), zk 18 (by decide), zk 34 (by decide), zk 35 (by decide), zk 36 (by decide), zk 38 (by decide), zk 39 (by decide), zk 4 (by decide), zo 0 (by decide), zo 1 (by decide), hG 3 (by decide), hG 37 (by decide), hG 40 (by decide)]; exact h12
  · unfold RWi; rw [hV 11 (by decide), hV 16 (by decide), hV 17 (by decide), zk 18 (by decide), zk 19 (by decide), zk 31 (by decide), zk 34 (by decide)]; exact h13
  · intro i' t hi' ht
    by_cases e1 : i' = i
    · subst e1
      rw [hz28'] at ht
      by_cases e2 : t = tn (z 28 i') - 1
      · subst e2
        rw [hT4, hz29'']
        exact ⟨rfl, hy⟩
      · rw [hT3 t (by omega), hz29' t (by omega)]
        refine h15 i' _ hi' ?_
        unfold ts tn at *
        split
        · next q => rw [if_pos q] at ht e2; omega
        · next q => rw [if_neg q] at ht e2; omega
    · have h28' := (h7 i' hi').2.2.1.2.2.2.2
      rw [hz28 i' e1] at ht
      rw [(hT1 i' e1).2, hz29 _ (by omega)]
      exact h15 i' t hi' ht
  · refine ⟨⟨hc.1, hc.2.1, hc.2.2.1, by rw [hz4]; exact hc.2.2.2⟩, fun t ht => ?_⟩
    rw [hz4] at ht
    rw [zo 1 (by decide), hG 3 (by decide)]
    by_cases e1 : t = z 0 4
    · subst e1
      rw [hV3.1, hV3.2, hz6']
      exact ⟨rfl, he, rfl⟩
    · rw [(hV2 t (by omega)).1, (hV2 t (by omega)).2, hz6 t (by omega)]
      exact h17.2 t (by omega)
  · unfold RE; rw [zk 4 (by decide), zo 1 (by decide), zo 0 (by decide)]; exact h18
theorem fin_lp (hi : i < cnt) (hwe : w = 4 * i + j) : ∀ (d t : Nat) (V : mM) (c : Nat × Nat) (G : mM) (z : mZ), t + d = z 31 w → j < z 18 i → Rel1 w cnt L V c G z → z 9 i = 4 → RM1 k cnt V z G → RI cnt p z → RSw (8 * U) w 0 z G → z 0 0 ≤ 400 → z 0 1 ≤ 103300 → z 0 4 + d ≤ 102400 → ∀ m m' : Nat, d < m → d < m' → ∃ V' c' G' z', lpX7_finishBatch_39 L m i w w (nI t) V c = jnX7_finishBatch_94 L w w V' c' ∧ lpX8_finish_27 m' (nI i) (nI w) (nI t) G = some (mu (mu G' 31 0 w 0) 34 0 w 0) ∧ Rel1 w cnt L V' c' G' z' ∧ RM1 k cnt V' z' G' ∧ RI cnt p z' ∧ RSw (8 * U) w 0 z' G' ∧ ff z z' ∧ z' 0 4 = z 0 4 + d
  | 0, t, V, c, G, z, hd, hj, h, hs, hM, hI, hS, h00, h01, h04, m, m', hm, hm' => by
    obtain ⟨m, rfl⟩ : ∃ q, m = q + 1 := ⟨m - 1, by omega⟩
    obtain ⟨m', rfl⟩ : ∃ q, m' = q + 1 := ⟨m' - 1, by omega⟩
    have hw := (wk_lt h ⟨i, j, hi, hj, hwe⟩).1
    have hb32 : bin (nI w) 32 = true := bin_t (by omega) hw
    have hW := h.2.2.2.2.2.2.2.2.2.1 i j hi hj
    rw [← hwe] at hW
    have h31 := hW.2.1
    have hc : nI (z 31 w) ≤ nI t := by rw [nI_leE (by omega) (by omega)]; omega
    refine ⟨V, c, G, z, ?_, ?_, h, hM, hI, hS, ff_refl, rfl⟩
    · rw [lpX7_finishBatch_39, hW.1.1, if_pos hc]
    · rw [lpX8_finish_27, if_pos hb32, nIc (by omega), h.1 31 w rfl, if_pos hc, if_pos hb32, if_pos hb32]
  | d + 1, t, V, c, G, z, hd, hj, h, hs, hM, hI, hS, h00, h01, h04, m, m', hm, hm' => by
    obtain ⟨m, rfl⟩ : ∃ q, m = q + 1 := ⟨m - 1, by omega⟩
    obtain ⟨m', rfl⟩ : ∃ q, m' = q + 1 := ⟨m' - 1, by omega⟩
    have h8 := h.2.1.1.2.2
    have hw := (wk_lt h ⟨i, j, hi, hj, hwe⟩).1
    have hLn := h.2.2.2.2.2.2.2.2.2.2.2.2.2.2.2.2 w (wk_lt h ⟨i, j, hi, hj, hwe⟩).2
    have hb32 : bin (nI w) 32 = true := bin_t (by omega) hw
    have hb8 : bin (nI i) 8 = true := bin_t (by omega) (by omega)
    have hW := h.2.2.2.2.2.2.2.2.2.1 i j hi hj
    have hB := h.2.2.2.2.2.2.2.2.2.2.1 i j hi hj
    rw [← hwe] at hW hB
    have h31 := hW.2.1
    have hc : ¬ nI (z 31 w) ≤ nI t := by rw [nI_leE (by omega) (by omega)]; omega
    obtain ⟨r1, r2, r3, r4⟩ := hB t (by omega)
    have hz4 : z 4 (z 32 (8 * w + t)) ≤ z 0 0 := h.2.2.2.2.2.2.2.2.2.2.2.2.2.2.2.1 _ r2
    have hbt : bin (nI t) (L 11 w) = true := bin_t (by omega) (by rw [hLn]; omega)
    have hD := h.2.2.2.2.2.2.2.2.2.2.2.2.2.2.1
    have h28 := (h.2.2.2.2.2.2.1 i hi).2.2.1.2.2.2.2
    have a1 : nI t + 1 = nI (t + 1) := nI_1 t
    -- the class: the time, then the done row
    obtain ⟨V1, x1, x2, x3, x4, x5, x6⟩ := time_x (L := L) (c := c) (x := nI (z 0 0 - z 4 (z 32 (8 * w + t)))) (h.2.2.2.2.2.1 i hi) h28
    obtain ⟨V2, c2, y1, y2, y3, y4, y5, y6⟩ := done_x (L := L) (V := V1) (c := c) (z := z) (x := nI (z 32 (8 * w + t))) (v := G 3 0 (z 32 (8 * w + t))) hD.1 (by rw [x2 10 (by decide)]; exact h.2.1.2.2.2.2.1) (by omega)
    -- the reference: the done row, then the time
    have e8 : (8 : Int32) * nI w + nI t = nI (8 * w + t) := by
      rw [show (8 : Int32) = nI 8 from rfl, pk_mul, nI_add]
    have hb256 : bin (nI (8 * w + t)) 256 = true := bin_t (by omega) (by omega)
    have hb103 : bin (nI (z 0 4)) 103000 = true := bin_t (by omega) (by omega)
    have e4 : nI (z 0 4) + 1 = nI (z 0 4 + 1) := nI_1 _
    have rd : rG (mu (mu G 6 0 (z 0 4) (nI (z 32 (8 * w + t)))) 0 0 4 (nI (z 0 4 + 1))) (su (su z 6 (z 0 4) (z 32 (8 * w + t))) 0 4 (z 0 4 + 1)) := rG_mu (rG_mu h.1 _ _ _ rfl) _ _ _ rfl
    have d28 : su (su z 6 (z 0 4) (z 32 (8 * w + t))) 0 4 (z 0 4 + 1) 28 = z 28 := by rw [su_k (by decide), su_k (by decide)]
    have d29 : su (su z 6 (z 0 4) (z 32 (8 * w + t))) 0 4 (z 0 4 + 1) 29 = z 29 := by rw [su_k (by decide), su_k (by decide)]
    have d4 : su (su z 6 (z 0 4) (z 32 (8 * w + t))) 0 4 (z 0 4 + 1) 4 = z 4 := by rw [su_k (by decide), su_k (by decide)]
    have d00 : su (su z 6 (z 0 4) (z 32 (8 * w + t))) 0 4 (z 0 4 + 1) 0 0 = z 0 0 := by rw [su_i (by decide), su_k (by decide)]
    obtain ⟨G2, z2, s1, s2, s3, s4, s5, s6, s7, s8, s9⟩ := time_m (ro := lpX8_finish_27 m') (x2 := nI w) (x3 := nI t) (e := z 32 (8 * w + t)) (i := i) (by omega) rd (by rw [d28]; exact h28) (by omega) (by rw [d4, d00]; exact hz4)
    rw [d28] at s5 s6 s8 s9
    rw [d29] at s7 s8
    rw [d4, d00] at s9
    have hff : ff z z2 := by
      refine ⟨fun f hf => ?_, fun s hs => ?_⟩
      · rw [s3 f (by omega), su_k (by omega), su_k (by omega)]
      · rw [s3 0 (by decide), su_i hs, su_k (by decide)]
    have hz24 : z2 0 4 = z 0 4 + 1 := by rw [s3 0 (by decide), su_s]
    have hV : ∀ f, f ≠ 0 ∧ f ≠ 1 ∧ f ≠ 10 ∧ f ≠ 21 ∧ f ≠ 22 → V2 f = V f := fun f hf => by rw [y2 f (by omega), x2 f (by omega)]
    have hG : ∀ f, f ≠ 0 ∧ f ≠ 6 ∧ f ≠ 28 ∧ f ≠ 29 → G2 f = G f := fun f hf => by rw [s4 f (by omega), mu_k (by omega), mu_k (by omega)]
    have hr2 : Rel1 w cnt L V2 c2 G2 z2 := by
      refine rel1_fin (i := i) (e := z 32 (8 * w + t)) (y := z 0 0 - z 4 (z 32 (8 * w + t))) h hi r2 (by omega) hV y3 ?_ y5 y6 ?_ ?_ ?_ ?_ hff hz24 ?_ ?_ s5 s6 s7 s8 s9 hG s2
      · intro t ht
        rw [(y4 t ht).1, (y4 t ht).2, x2 0 (by decide), x2 1 (by decide)]
        exact ⟨rfl, rfl⟩
      · intro i' hi'
        rw [y2 21 (by decide), y2 22 (by decide)]
        exact x3 i' hi'
      · rw [y2 21 (by decide)]; exact x4
      · rw [y2 22 (by decide)]; exact x5
      · rw [y2 22 (by decide)]; exact x6
      · intro s hs
        rw [s3 6 (by decide), su_k (by decide), su_i (by omega)]
      · rw [s3 6 (by decide), su_k (by decide), su_s]
    have hM2 : RM1 k cnt V2 z2 G2 := by
      unfold RM1 RM
      rw [hV 5 (by decide), hV 6 (by decide), hV 7 (by decide), hV 8 (by decide), hV 9 (by decide), hff.2 43 (by decide), hff.2 42 (by decide), hff.2 6 (by decide), hff.1 45 (by decide), hff.1 46 (by decide), hff.1 48 (by decide), hG 47 (by decide)]
      exact hM
    have hI2 : RI cnt p z2 := by
      unfold RI
      rw [hff.2 0 (by decide), hff.1 18 (by decide), hff.1 41 (by decide), hff.1 42 (by decide)]
      exact hI
    have hp2 : pex z2 G2 w = pex z G w := by
      funext w'
      unfold pex pend
      rw [hff.1 34 (by decide), hff.1 36 (by decide), hG 40 (by decide)]
    have hS2 : RSw (8 * U) w 0 z2 G2 := by
      unfold RSw
      rw [hp2, hff.2 1 (by decide), hff.2 6 (by decide), hff.1 26 (by decide)]
      exact hS
    obtain ⟨V', c', G', z', q1, q2, q3, q4, q5, q6, q7, q8⟩ := fin_lp hi hwe d (t + 1) V2 c2 G2 z2 (by rw [hff.1 31 (by decide)]; omega) (by rw [hff.1 18 (by decide)]; exact hj) hr2 (by rw [hff.1 9 (by decide)]; exact hs) hM2 hI2 hS2 (by rw [hff.2 0 (by decide)]; exact h00) (by rw [hff.2 1 (by decide)]; exact h01) (by omega) m m' (by omega) (by omega)
    refine ⟨V', c', G', z', ?_, ?_, q3, q4, q5, q6, ff_trans hff q7, by omega⟩
    · rw [lpX7_finishBatch_39, hW.1.1, if_neg hc, if_pos hbt, nIc (by omega), h.2.1.2.1, r4, pk_sub hz4, x1]
      simp only [Option.bind_some]
      rw [if_pos hbt, if_pos hbt, x2 12 (by decide), x2 13 (by decide), r1, r3, y1]
      simp only [Option.bind_some]
      rw [a1]
      exact q1
    · rw [lpX8_finish_27, if_pos hb32, nIc (by omega), h.1 31 w rfl, if_neg hc, if_pos hb8, nIc (by omega), h.1 9 i rfl, hs, if_pos (by decide), e8, if_pos hb256, h.1 0 4 rfl, if_pos hb103, if_pos hb8, nIc (by omega), nIc (by omega), h.1 32 _ rfl, mu_k (show (0 : Nat) ≠ 6 by decide), h.1 0 4 rfl, e4]
      refine s1.trans ?_
      rw [a1]
      exact q2
/-- no batch any more -/
theorem rel1_31 (h : Rel1 w0 cnt L V c G z) (hw : wk cnt z w) (h33 : z 33 w = 0) (h34 : z 34 w = 0) : Rel1 w0 cnt L (mu V 11 w 3 0) c (mu G 31 0 w 0) (su z 31 w 0) := by
  have hwl := wk_lt h hw
  obtain ⟨h1, h2, h3, h4, h5, h6, h7, h8, h9, h10, h11, h12, h13, h15, h17, h18, h20⟩ := h
  refine ⟨rG_mu h1 _ _ _ rfl, ?_, ?_, ?_, ?_, ?_, ?_, ?_, ?_, ?_, ?_, ?_, ?_, ?_, ?_, ?_, h20⟩
  · simpa [RA1, mu_k, su_k] using h2
  · intro i t hi ht
    have := sf_ge t
    rw [mu_k (by decide), su_k (by omega)]
    exact h3 i t hi ht
  · intro i t hi ht
    have := so_ge t
    rw [mu_k (by decide), mu_k (by omega)]
    exact h4 i t hi ht
  · intro i hi
    rw [mu_n (by omega), su_k (by decide)]
    exact h5 i hi
  · simpa [RTs, mu_k, su_k] using h6
  · simpa [RR, rrb, mu_k, su_k] using h7
  · refine ⟨fun i' hi' => ?_, fun w' hw' => ?_⟩
    · have := h8.1 i' hi'
      simpa [mu_k, su_k] using this
    · have := h8.2 w' hw'
      have e : w' ≠ w := by omega
      simpa only [su_ne e] using this
  · simpa [RQ, row, mu_k, su_k] using h9
  · intro i' j' hi' hj'
    rw [su_k (by omega)] at hj'
    obtain ⟨⟨q1, q2, q3, q4⟩, q5, q6, q7, q8⟩ := h10 i' j' hi' hj'
    by_cases e : 4 * i' + j' = w
    · rw [e] at q1 q2 q3 q4 q5 q6 q7 q8 ⊢
      rw [mu_s, mu_k (by decide), su_s, su_k (by decide), su_k (by decide), su_k (by decide)]
      exact ⟨⟨rfl, q2, q3, q4⟩, by omega, q6, q7, fun _ => ⟨h33, h34⟩⟩
    · have r := h10 i' j' hi' hj'
      simp only [su_ne e]
      rw [mu_n e, mu_k (by decide)]
      exact r
  · intro i' j' hi' hj'
    rw [su_k (by omega)] at hj'
    have r := h11 i' j' hi' hj'
    by_cases e : 4 * i' + j' = w
    · rw [e, su_s]
      exact fun t ht => absurd ht (by omega)
    · rw [su_ne e]
      unfold row at r ⊢
      rw [mu_k (by decide), mu_k (by decide), mu_k (by decide), su_k (by decide), su_k (by decide), su_k (by decide), mu_k (by decide)]
      exact r
  · simpa [RWx, gf, mu_k, su_k] using h12
  · intro i' j' hi' hj' hj2
    rw [su_k (by omega)] at hj' hj2
    have e := wk_ne h7 hw hi' hj' hj2
    have r := h13 i' j' hi' hj' hj2
    simp only [su_ne e]
    rw [mu_n e, mu_k (by decide), mu_k (by decide)]
    exact r
  · simpa [RT, mu_k, su_k] using h15
  · simpa [RD, mu_k, su_k] using h17
  · simpa [RE, mu_k, su_k] using h18
/-- the end of a batch -/
def edV (V : mM) (w : Nat) : mM := mu (mu (mu (mu (mu V 11 w 3 0) 16 w 4 0) 17 w 3 0) 17 w 4 0) 17 w 5 (-1)
def edG (G : mM) (w : Nat) : mM := mu (mu G 31 0 w 0) 34 0 w 0
def edz (z : mZ) (w : Nat) : mZ := su (su z 34 w 0) 31 w 0
theorem end_ok (h : Rel1 w cnt L V c G z) (hw : wk cnt z w) (h33 : z 33 w = 0) : Rel1 32 cnt L (edV V w) c (edG G w) (edz z w) := by
  have f1 : gfr V (mu (mu (mu (mu V 16 w 4 0) 17 w 3 0) 17 w 4 0) 17 w 5 (-1)) G (mu G 34 0 w 0) z (su z 34 w 0) w := by
    refine ⟨fun f n t e => ?_, fun f t e => ?_, fun f t e => ?_⟩
    · by_cases k1 : f = 17
      · subst k1
        rw [mu_app, if_neg (by omega), mu_app, if_neg (by omega), mu_app, if_neg (by omega), mu_k (by decide)]
      · rw [mu_k k1, mu_k k1, mu_k k1]
        by_cases k2 : f = 16
        · subst k2
          rw [mu_app, if_neg (by omega)]
        · rw [mu_k k2]
    · unfold gw at e
      by_cases k1 : f = 34
      · subst k1
        rw [su_i (by omega)]
      · rw [su_k k1]
    · unfold gw at e
      by_cases k1 : f = 34
      · subst k1
        rw [mu_t (by omega)]
      · rw [mu_k k1]
  have h2 := rel1_gl h f1 (rG_mu h.1 _ _ _ rfl) hw ⟨by rw [mu_k (by decide), mu_k (by decide), mu_k (by decide), mu_s, su_s]; rfl, by rw [su_s]; omega, fun _ => su_s⟩
  have hw2 : wk cnt (su z 34 w 0) w := by
    unfold wk
    rw [su_k (by decide)]
    exact hw
  have h3 := rel1_31 h2 hw2 (by rw [su_k (by decide)]; exact h33) su_s
  have eV : mu (mu (mu (mu (mu V 16 w 4 0) 17 w 3 0) 17 w 4 0) 17 w 5 (-1)) 11 w 3 0 = edV V w := by
    unfold edV
    rw [mu_comm (k := 17) (k' := 11) (fun q => absurd q.1 (by decide)), mu_comm (k := 17) (k' := 11) (fun q => absurd q.1 (by decide)), mu_comm (k := 17) (k' := 11) (fun q => absurd q.1 (by decide)), mu_comm (k := 16) (k' := 11) (fun q => absurd q.1 (by decide))]
  have eG : mu (mu G 34 0 w 0) 31 0 w 0 = edG G w := by
    unfold edG
    rw [mu_comm (k := 34) (k' := 31) (fun q => absurd q.1 (by decide))]
  rw [eV, eG] at h3
  obtain ⟨h1, h2, h3, h4, h5, h6, h7, h8, h9, h10, h11, h12, h13, h15, h17, h18, h20⟩ := h3
  refine ⟨h1, h2, h3, h4, h5, h6, h7, h8, h9, h10, h11, ?_, h13, h15, h17, h18, h20⟩
  intro i j hi hj _
  by_cases e : 4 * i + j = w
  · rw [e]
    have e34 : edz z w 34 w = 0 := by unfold edz; rw [su_k (by decide), su_s]
    refine ⟨fun _ => ?_, fun hh => absurd hh (by rw [e34]; decide)⟩
    unfold edV
    rw [mu_t (by decide), mu_t (by decide), mu_s, mu_t (by decide), mu_s, mu_s]
    exact ⟨rfl, rfl, rfl⟩
  · exact h12 i j hi hj e
theorem finish_ok (h : Rel1 w cnt L V c G z) (hi : i < cnt) (hwk : j < z 18 i ∧ w = 4 * i + j) (hM : RM1 k cnt V z G) (hI : RI cnt p z) (hN : NPw U w 0 z G) (hU : U + 1 ≤ 12800) (hlt : z 0 1 ≤ 103300) (hn0 : 1 ≤ z 31 w) (h33 : z 33 w = 0) : ∃ V' c' G' z', fX7_finishBatch L i w V c = some (V', c') ∧ fX8_finish (nI i) (nI w) G = some G' ∧ Rel1 32 cnt L V' c' G' z' ∧ RM1 k cnt V' z' G' ∧ RI cnt p z' ∧ (z' 0 0 = z 0 0 ∧ z' 0 4 ≤ 8 * U + 8 ∧ RS (8 * U) z' G') ∧ (z' 18 = z 18 ∧ z' 31 w = 0 ∧ z' 33 w = 0 ∧ z' 34 w = 0 ∧ z' 41 = z 41 ∧ z' 42 = z 42) := by
  have h8 := h.2.1.1.2.2
  have hwk' : wk cnt z w := ⟨i, j, hi, hwk.1, hwk.2⟩
  have hw := (wk_lt h hwk').1
  have hb32 : bin (nI w) 32 = true := bin_t (by omega) hw
  have hb8 : bin (nI i) 8 = true := bin_t (by omega) (by omega)
  have hW := h.2.2.2.2.2.2.2.2.2.1 i j hi hwk.1
  rw [← hwk.2] at hW
  have h31 := hW.2.1
  obtain ⟨n1, n2, n3, n4⟩ := hN
  have e17 : V 3 i 17 = G 24 0 i := h.2.2.2.1 i 17 hi rfl
  have e18 : V 3 i 18 = G 25 0 i := h.2.2.2.1 i 18 hi rfl
  have b0 : V 3 i 0 = nI (z 9 i) := h.2.2.1 i 0 hi rfl
  have hs := (h.2.2.2.2.2.2.1 i hi).1.1
  -- the counts
  have g1 : Rel1 w cnt L (mu (mu V 3 i 17 (G 24 0 i + 1)) 3 i 18 (G 25 0 i + nI (z 31 w))) c (mu (mu G 24 0 i (G 24 0 i + 1)) 25 0 i (G 25 0 i + nI (z 31 w))) z := rel1_iso (t := 18) (rel1_iso (t := 17) h hi (by simp)) hi (by simp)
  have m1 : RM1 k cnt (mu (mu V 3 i 17 (G 24 0 i + 1)) 3 i 18 (G 25 0 i + nI (z 31 w))) z (mu (mu G 24 0 i (G 24 0 i + 1)) 25 0 i (G 25 0 i + nI (z 31 w))) := by
    simpa [RM1, RM, mu_k] using hM
  have p1 : pex z (mu (mu G 24 0 i (G 24 0 i + 1)) 25 0 i (G 25 0 i + nI (z 31 w))) w = pex z G w := by
    funext w'
    unfold pex pend
    rw [mu_k (by decide), mu_k (by decide)]
  have s1 : RSw (8 * U) w 0 z (mu (mu G 24 0 i (G 24 0 i + 1)) 25 0 i (G 25 0 i + nI (z 31 w))) := by
    unfold RSw
    rw [p1]
    exact n4
  have ex : fX7_finishBatch L i w V c = if nI (z 9 i) = (4 : Int32) then (lpX7_finishBatch_39 L fu i w w 0 (mu (mu V 3 i 17 (G 24 0 i + 1)) 3 i 18 (G 25 0 i + nI (z 31 w))) c) else (jnX7_finishBatch_94 L w w (mu (mu V 3 i 17 (G 24 0 i + 1)) 3 i 18 (G 25 0 i + nI (z 31 w))) c) := by
    unfold fX7_finishBatch
    simp only [mu_k (show (11 : Nat) ≠ 3 by decide), mu_t (show (18 : Nat) ≠ 17 by decide), mu_t (show (0 : Nat) ≠ 18 by decide), mu_t (show (0 : Nat) ≠ 17 by decide), e17, e18, b0, hW.1.1]
  have em : fX8_finish (nI i) (nI w) G = lpX8_finish_27 fu (nI i) (nI w) 0 (mu (mu G 24 0 i (G 24 0 i + 1)) 25 0 i (G 25 0 i + nI (z 31 w))) := by
    unfold fX8_finish
    simp only [hb8, hb32, if_true, nIc (show i < 2 ^ 31 by omega), nIc (show w < 2 ^ 31 by omega), mu_k (show (25 : Nat) ≠ 24 by decide), mu_k (show (31 : Nat) ≠ 24 by decide), h.1 31 w rfl]
  -- the times and the done row
  have main : ∃ V2 c2 G2 z2, fX7_finishBatch L i w V c = jnX7_finishBatch_94 L w w V2 c2 ∧ fX8_finish (nI i) (nI w) G = some (mu (mu G2 31 0 w 0) 34 0 w 0) ∧ Rel1 w cnt L V2 c2 G2 z2 ∧ RM1 k cnt V2 z2 G2 ∧ RI cnt p z2 ∧ RSw (8 * U) w 0 z2 G2 ∧ ff z z2 ∧ z2 0 4 ≤ 8 * U + 8 := by
    by_cases h4 : z 9 i = 4
    · obtain ⟨V2, c2, G2, z2, q1, q2, q3, q4, q5, q6, q7, q8⟩ := fin_lp hi hwk.2 (z 31 w) 0 _ _ _ _ (by omega) hwk.1 g1 h4 m1 hI s1 n1 hlt (by omega) fu fu (by unfold fu; omega) (by unfold fu; omega)
      refine ⟨V2, c2, G2, z2, ?_, ?_, q3, q4, q5, q6, q7, by omega⟩
      · rw [ex, h4, if_pos (by decide)]
        exact q1
      · rw [em]
        exact q2
    · refine ⟨_, c, _, z, ?_, ?_, g1, m1, hI, s1, ff_refl, by omega⟩
      · rw [ex, if_neg (by
          show ¬ nI (z 9 i) = nI 4
          rw [nI_eqE (by omega) (by omega)]; exact h4)]
      · have hfu : fu = 999 + 1 := rfl
        rw [em, hfu, lpX8_finish_27, if_pos hb32, nIc (by omega), g1.1 31 w rfl, if_neg (by
          show ¬ nI (z 31 w) ≤ nI 0
          rw [nI_leE (by omega) (by omega)]; omega), if_pos hb8, nIc (by omega), g1.1 9 i rfl, if_neg (by
          show ¬ nI (z 9 i) = nI 4
          rw [nI_eqE (by omega) (by omega)]; exact h4), if_pos hb32, if_pos hb32]
  obtain ⟨V2, c2, G2, z2, q1, q2, q3, q4, q5, q6, q7, q8⟩ := main
  have hw2 : wk cnt z2 w := by
    unfold wk
    rw [q7.1 18 (by decide)]
    exact hwk'
  have r1 := end_ok q3 hw2 (by rw [q7.1 33 (by decide)]; exact h33)
  have ez0 : edz z2 w 0 = z2 0 := by unfold edz; rw [su_k (by decide), su_k (by decide)]
  have ez : ∀ f, f ≠ 31 ∧ f ≠ 34 → edz z2 w f = z2 f := fun f hf => by unfold edz; rw [su_k hf.1, su_k hf.2]
  have eg : ∀ f, f ≠ 31 ∧ f ≠ 34 → edG G2 w f = G2 f := fun f hf => by unfold edG; rw [mu_k hf.2, mu_k hf.1]
  have ev : ∀ f, f ≠ 11 ∧ f ≠ 16 ∧ f ≠ 17 → edV V2 w f = V2 f := fun f hf => by unfold edV; rw [mu_k hf.2.2, mu_k hf.2.2, mu_k hf.2.2, mu_k hf.2.1, mu_k hf.1]
  have e34 : edz z2 w 34 w = 0 := by unfold edz; rw [su_k (by decide), su_s]
  refine ⟨edV V2 w, c2, edG G2 w, edz z2 w, ?_, q2, r1, ?_, ?_, ⟨?_, ?_, ?_⟩, ?_, ?_, ?_, e34, ?_, ?_⟩
  · rw [q1]
    rfl
  · unfold RM1 RM
    rw [ev 5 (by decide), ev 6 (by decide), ev 7 (by decide), ev 8 (by decide), ev 9 (by decide), ez 0 (by decide), ez 45 (by decide), ez 46 (by decide), ez 48 (by decide), eg 47 (by decide)]
    exact q4
  · unfold RI
    rw [ez 0 (by decide), ez 18 (by decide), ez 41 (by decide), ez 42 (by decide)]
    exact q5
  · rw [ez 0 (by decide), q7.2 0 (by decide)]
  · rw [ez 0 (by decide)]; exact q8
  · unfold RSw at q6
    have hp : pex (edz z2 w) (edG G2 w) w = pex z2 G2 w := by
      funext w'
      unfold pex
      by_cases e : w' = w
      · rw [if_pos e, if_pos e]
      · rw [if_neg e, if_neg e]
        unfold pend
        have e1 : edz z2 w 34 w' = z2 34 w' := by unfold edz; rw [su_k (by decide), su_i e]
        rw [e1, ez 36 (by decide), eg 40 (by decide)]
    unfold RS
    rw [sum_pex hw, hp, ez 0 (by decide), ez 26 (by decide)]
    omega
  · rw [ez 18 (by decide), q7.1 18 (by decide)]
  · unfold edz; rw [su_s]
  · rw [ez 33 (by decide), q7.1 33 (by decide)]; exact h33
  · rw [ez 41 (by decide), q7.1 41 (by decide)]
  · rw [ez 42 (by decide), q7.1 42 (by decide)]
end FI2
