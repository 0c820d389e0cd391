/-! reads, and calls that set a number of a stage -/
theorem nI_m1 {cnt : Nat} {a : Int32} (hc : cnt ≤ 100000) (h : nI cnt ≤ a) : nI cnt - 1 < a := by
  rw [Int32.lt_iff_toInt_lt]
  have h1 := Int32.le_iff_toInt_le.mp h
  rw [nI_toInt (by omega)] at h1
  have h2 : (nI cnt - nI 1).toInt = (cnt : Int) - (1 : Nat) := pk_sub_toInt (by omega) (by omega)
  show (nI cnt - nI 1).toInt < _
  rw [h2]
  omega
theorem nI_m2 {cnt i : Nat} (hc : cnt ≤ 100000) (h : i < cnt) : ¬ nI cnt - 1 < nI i := by
  rw [nI_pre (by omega), nI_ltE (by omega) (by omega)]
  omega
section OPS
variable {cnt k i : Nat} {L : Nat → Nat → Nat} {V G : mM} {c : Nat × Nat} {z : mZ} {a : Int32}
theorem stageAt_ok (hA : RA cnt V z) (hi : i < cnt) : fX7_stageAt L (nI i) V c = some (nI i) := by
  have h8 := hA.1.2.2
  unfold fX7_stageAt
  rw [f_within, hA.1.1]
  simp only [Option.bind_some]
  have hw : wi (nI i) 0 (nI cnt - 1) = 1 := by
    unfold wi
    rw [if_neg (nI_pos (by omega)), if_neg (nI_m2 (by omega) hi)]
  rw [hw, if_neg (by decide), if_pos (bin_t (by omega) (by omega)), nIc (by omega), hA.2.2.2.2.2.2.2 i hi]
theorem stageAt_bad (hA : RA cnt V z) (h : a < 0 ∨ nI cnt ≤ a) : fX7_stageAt L a V c = some (-1) := by
  have h8 := hA.1.2.2
  unfold fX7_stageAt
  rw [f_within, hA.1.1]
  simp only [Option.bind_some]
  have hw : wi a 0 (nI cnt - 1) = 0 := by
    unfold wi
    rcases h with h | h
    · rw [if_pos h]
    · by_cases h0 : a < 0
      · rw [if_pos h0]
      · rw [if_neg h0, if_pos (nI_m1 (by omega) h)]
  rw [hw, if_pos rfl]
theorem isStage_ok (hG : rG G z) (hA : RA cnt V z) (hi : i < cnt) : fX8_isStage (nI i) G = some 1 := by
  have h8 := hA.1.2.2
  unfold fX8_isStage
  rw [if_neg (nI_pos (by omega)), hG 0 7 rfl, hA.1.2.1, if_neg (by rw [nI_leE (by omega) (by omega)]; omega)]
theorem isStage_bad (hG : rG G z) (hA : RA cnt V z) (h : a < 0 ∨ nI cnt ≤ a) : fX8_isStage a G = some 0 := by
  unfold fX8_isStage
  rcases h with h | h
  · rw [if_pos h]
  · by_cases h0 : a < 0
    · rw [if_pos h0]
    · rw [if_neg h0, hG 0 7 rfl, hA.1.2.1, if_pos h]
/-- any number is no stage, or a stage -/
theorem stage_ix (hA : RA cnt V z) (a : Int32) : (a < 0 ∨ nI cnt ≤ a) ∨ ∃ i, i < cnt ∧ a = nI i := by
  have h8 := hA.1.2.2
  rcases pk_ix a (n := cnt) (by omega) with h | h | h
  · exact Or.inl (Or.inl h)
  · exact Or.inl (Or.inr h)
  · exact Or.inr h
theorem sf_inj {t t' : Nat} (h : isn t = true) (h' : isn t' = true) (e : sf t = sf t') : t = t' := by
  have ht : t < 16 := by
    simp [isn] at h
    omega
  have ht' : t' < 16 := by
    simp [isn] at h'
    omega
  have key : ∀ a, a < 16 → ∀ b, b < 16 → isn a = true → isn b = true → sf a = sf b → a = b := by decide
  exact key t ht t' ht' h h' e
theorem RBn_mu (h : RBn cnt V z) {t y : Nat} (ht : isn t = true) : RBn cnt (mu V 3 i t (nI y)) (su z (sf t) i y) := by
  intro i' t' hi' ht'
  by_cases e1 : t' = t
  · subst e1
    rw [mu_app, su_app]
    by_cases e2 : i' = i
    · rw [if_pos ⟨e2, rfl⟩, if_pos e2]
    · rw [if_neg (fun q => e2 q.1), if_neg e2]
      exact h i' t' hi' ht'
  · rw [su_k (fun e => e1 (sf_inj ht' ht e)), mu_app, if_neg (fun q => e1 q.2)]
    exact h i' t' hi' ht'
theorem RBo_mu (h : RBo cnt V G) {t f : Nat} {x : Int32} (ht : iso t = false) (hf : ∀ t', iso t' = true → so t' ≠ f) {j : Nat} {y : Int32} : RBo cnt (mu V 3 i t x) (mu G f 0 j y) := by
  intro i' t' hi' ht'
  have e1 : t' ≠ t := by rintro rfl; rw [ht] at ht'; cases ht'
  rw [mu_app, if_neg (fun q => e1 q.2), mu_k (hf t' ht')]
  exact h i' t' hi' ht'
theorem so_ne {f : Nat} (hf : f ≠ 10 ∧ f ≠ 11 ∧ f ≠ 23 ∧ f ≠ 24 ∧ f ≠ 25) : ∀ t', iso t' = true → so t' ≠ f := by
  intro t' ht'
  simp only [iso, List.contains_cons, List.contains_nil, Bool.or_eq_true, beq_iff_eq] at ht'
  rcases ht' with rfl | rfl | rfl | rfl | rfl | h
  · exact fun e => hf.1 e.symm
  · exact fun e => hf.2.1 e.symm
  · exact fun e => hf.2.2.1 e.symm
  · exact fun e => hf.2.2.2.1 e.symm
  · exact fun e => hf.2.2.2.2 e.symm
  · cases h
theorem su_ne {f g j y : Nat} (h : j ≠ i) : su z f i y g j = z g j := by
  unfold su
  rw [if_neg (fun q => h q.2)]
theorem mu_ne {f g j : Nat} {x : Int32} (h : j ≠ i) : mu G f 0 i x g 0 j = G g 0 j := by
  by_cases hk : g = f
  · subst hk
    rw [mu_app, if_neg (fun q => h q.2)]
  · rw [mu_k hk]
theorem RR_upd (h : RR cnt L z G) {f y : Nat} {x : Int32} (hn : rrb cnt L (su z f i y) (mu G f 0 i x) i) : RR cnt L (su z f i y) (mu G f 0 i x) := by
  intro j hj
  by_cases e : j = i
  · subst e; exact hn
  · have := h j hj
    simpa only [rrb, su_ne e, mu_ne e] using this
theorem mu_comm {V : mM} {k n t k' n' t' : Nat} {x y : Int32} (h : ¬ (k' = k ∧ n' = n ∧ t' = t)) : mu (mu V k n t x) k' n' t' y = mu (mu V k' n' t' y) k n t x := by
  funext a b d
  by_cases e1 : a = k' <;> by_cases e2 : a = k
  · subst e1; subst e2
    simp only [mu_app]
    by_cases g1 : b = n' ∧ d = t' <;> by_cases g2 : b = n ∧ d = t
    · exact absurd ⟨rfl, g1.1.symm.trans g2.1, g1.2.symm.trans g2.2⟩ h
    · rw [if_pos g1, if_neg g2, if_pos g1]
    · rw [if_neg g1, if_pos g2, if_pos g2]
    · rw [if_neg g1, if_neg g2, if_neg g2, if_neg g1]
  · subst e1
    rw [mu_k (V := mu V a n' t' y) e2]
    simp only [mu_app, mu_k e2]
  · subst e2
    rw [mu_k e1]
    simp only [mu_app, mu_k e1]
  · rw [mu_k e1, mu_k e2, mu_k e2, mu_k e1]
/-- a number of a stage is set on both sides -/
theorem rel_fld {U : Nat} (h : Rel0 U k cnt L V c G z) (hi : i < cnt) {t y : Nat} (ht : t = 8 ∨ t = 9 ∨ t = 10 ∨ t = 11 ∨ t = 12 ∨ t = 13 ∨ t = 15) (hRR : RR cnt L (su z (sf t) i y) (mu G (sf t) 0 i (nI y))) : Rel0 U k cnt L (mu V 3 i t (nI y)) c (mu G (sf t) 0 i (nI y)) (su z (sf t) i y) := by
  obtain ⟨h1, h2, h3, h4, h5, h6, h7, h8, h9, h10, h11, h12, h13, h14, h15, h16, h17, h18, h19, h20⟩ := h
  have hisn : isn t = true := by rcases ht with rfl | rfl | rfl | rfl | rfl | rfl | rfl <;> rfl
  refine ⟨rG_mu h1 _ _ _ rfl, ?_, RBn_mu h3 hisn, ?_, ?_, ?_, hRR, ?_, ?_, ?_, ?_, ?_, ?_, ?_, ?_, ?_, ?_, ?_, ?_, h20⟩
  · rcases ht with rfl | rfl | rfl | rfl | rfl | rfl | rfl <;> simpa [RA, sf, mu_k, su_k] using h2
  · rcases ht with rfl | rfl | rfl | rfl | rfl | rfl | rfl <;> exact RBo_mu h4 rfl (so_ne (by decide))
  · rcases ht with rfl | rfl | rfl | rfl | rfl | rfl | rfl <;> simpa [RQs, sf, mu_k, su_k] using h5
  · rcases ht with rfl | rfl | rfl | rfl | rfl | rfl | rfl <;> simpa [RTs, sf, mu_k, su_k] using h6
  · refine ⟨fun i' hi' => ?_, fun w hw => ?_⟩
    · have e1 : i' ≠ i := by omega
      have := h8.1 i' hi'
      rcases ht with rfl | rfl | rfl | rfl | rfl | rfl | rfl <;> simpa [sf, mu_k, su_k, su_app, e1] using this
    · have := h8.2 w hw
      rcases ht with rfl | rfl | rfl | rfl | rfl | rfl | rfl <;> simpa [sf, mu_k, su_k] using this
  · rcases ht with rfl | rfl | rfl | rfl | rfl | rfl | rfl <;> simpa [RQ, row, sf, mu_k, su_k] using h9
  · rcases ht with rfl | rfl | rfl | rfl | rfl | rfl | rfl <;> simpa [RW, sf, mu_k, su_k] using h10
  · rcases ht with rfl | rfl | rfl | rfl | rfl | rfl | rfl <;> simpa [RWb, row, sf, mu_k, su_k] using h11
  · rcases ht with rfl | rfl | rfl | rfl | rfl | rfl | rfl <;> simpa [RWg, gf, sf, mu_k, su_k] using h12
  · rcases ht with rfl | rfl | rfl | rfl | rfl | rfl | rfl <;> simpa [RWi, sf, mu_k, su_k] using h13
  · rcases ht with rfl | rfl | rfl | rfl | rfl | rfl | rfl <;> simpa [RWt, sf, mu_k, su_k] using h14
  · rcases ht with rfl | rfl | rfl | rfl | rfl | rfl | rfl <;> simpa [RT, sf, mu_k, su_k] using h15
  · rcases ht with rfl | rfl | rfl | rfl | rfl | rfl | rfl <;> simpa [RM, sf, mu_k, su_k] using h16
  · rcases ht with rfl | rfl | rfl | rfl | rfl | rfl | rfl <;> simpa [RD, sf, mu_k, su_k] using h17
  · rcases ht with rfl | rfl | rfl | rfl | rfl | rfl | rfl <;> simpa [RE, sf, mu_k, su_k] using h18
  · have e9 : pend (su z (sf t) i y) (mu G (sf t) 0 i (nI y)) = pend z G := by
      funext w
      unfold pend
      rcases ht with rfl | rfl | rfl | rfl | rfl | rfl | rfl <;> simp [sf, mu_k, su_k]
    unfold RN
    rw [e9]
    rcases ht with rfl | rfl | rfl | rfl | rfl | rfl | rfl <;> simpa [RN, sf, mu_k, su_k] using h19
theorem rel_next {G : mM} (h : Rel k cnt L V c G) (hk : k < 512) : Rel (k + 1) cnt L V c G := sim_skip_ok k cnt L V c G hk h
theorem rel_k {U : Nat} (h : Rel0 U k cnt L V c G z) : Rel0 U (k + 1) cnt L V c G z := by
  obtain ⟨h1, h2, h3, h4, h5, h6, h7, h8, h9, h10, h11, h12, h13, h14, h15, h16, h17, h18, h19, h20⟩ := h
  exact ⟨h1, h2, h3, h4, h5, h6, h7, h8, h9, h10, h11, h12, h13, h14, h15, ⟨⟨h16.1.1, by have := h16.1.2.1; omega, h16.1.2.2⟩, h16.2⟩, h17, h18, h19, h20⟩
end OPS
theorem sim_close_ok : sim_close Rel := by
  intro k cnt L V c G a hk h
  obtain ⟨z, hz⟩ := id h
  have hG := hz.1
  have hA := hz.2.1
  rcases stage_ix hA a with hb | ⟨i, hi, rfl⟩
  · refine ⟨-1, V, G, ?_, ?_, rel_next h hk⟩
    · unfold fX7_close
      rw [stageAt_bad hA hb]
      rfl
    · unfold fX8_close
      rw [isStage_bad hG hA hb]
      rfl
  · have h8 := hA.1.2.2
    have hV := hz.2.2.1 i 8 hi rfl
    have hR := hz.2.2.2.2.2.2.1 i hi
    have h22 := hR.1.2.2.2.2.2.2
    have hV : V 3 i 8 = nI (z 22 i) := hV
    have hGz := hG 22 i rfl
    by_cases hs : z 22 i = 0
    · refine ⟨1, mu V 3 i 8 1, mu G 22 0 i 1, ?_, ?_, su z 22 i 1, ?_⟩
      · unfold fX7_close
        rw [stageAt_ok hA hi]
        simp only [Option.bind_some]
        rw [if_neg (nI_pos (by omega)), nIc (by omega), hV, hs, if_pos nI_0]
      · unfold fX8_close
        rw [isStage_ok hG hA hi]
        simp only [Option.bind_some]
        rw [if_neg (by decide), if_pos (bin_t (by omega) (by omega)), nIc (by omega), hGz, hs, if_pos nI_0, if_pos (bin_t (by omega) (by omega))]
      · have := rel_fld (t := 8) (y := 1) (rel_k hz) hi (by simp) (RR_upd hz.2.2.2.2.2.2.1 (by
          simp only [rrb, sf, su_s, su_k, mu_k, ne_eq, Nat.reduceEqDiff, not_false_eq_true]
          exact ⟨⟨hR.1.1, hR.1.2.1, hR.1.2.2.1, hR.1.2.2.2.1, hR.1.2.2.2.2.1, hR.1.2.2.2.2.2.1, by omega⟩, hR.2⟩))
        have e0 : su z (sf 8) i 1 0 0 = z 0 0 := by rw [su_k (by decide)]
        rw [← e0] at this
        exact this
    · have hs1 : z 22 i = 1 := by omega
      refine ⟨-3, V, G, ?_, ?_, rel_next h hk⟩
      · unfold fX7_close
        rw [stageAt_ok hA hi]
        simp only [Option.bind_some]
        rw [if_neg (nI_pos (by omega)), nIc (by omega), hV, hs1, if_neg (by decide)]
      · unfold fX8_close
        rw [isStage_ok hG hA hi]
        simp only [Option.bind_some]
        rw [if_neg (by decide), if_pos (bin_t (by omega) (by omega)), nIc (by omega), hGz, hs1, if_neg (by decide)]
theorem su_00 {z : mZ} {f i y : Nat} (h : f ≠ 0) : su z f i y 0 0 = z 0 0 := by rw [su_k (Ne.symm h)]
theorem sim_abort_ok : sim_abort Rel := by
  intro k cnt L V c G a hk h
  obtain ⟨z, hz⟩ := id h
  have hG := hz.1
  have hA := hz.2.1
  rcases stage_ix hA a with hb | ⟨i, hi, rfl⟩
  · refine ⟨-1, V, G, ?_, ?_, rel_next h hk⟩
    · unfold fX7_abort
      rw [stageAt_bad hA hb]
      rfl
    · unfold fX8_abort
      rw [isStage_bad hG hA hb]
      rfl
  · have h8 := hA.1.2.2
    have hV : V 3 i 9 = nI (z 13 i) := hz.2.2.1 i 9 hi rfl
    have hR := hz.2.2.2.2.2.2.1 i hi
    have hGz := hG 13 i rfl
    refine ⟨nI (z 13 i), mu V 3 i 9 0, mu G 13 0 i 0, ?_, ?_, su z 13 i 0, ?_⟩
    · unfold fX7_abort
      rw [stageAt_ok hA hi]
      simp only [Option.bind_some]
      rw [if_neg (nI_pos (by omega)), nIc (by omega), hV]
    · unfold fX8_abort
      rw [isStage_ok hG hA hi]
      simp only [Option.bind_some]
      rw [if_neg (by decide), if_pos (bin_t (by omega) (by omega)), if_pos (bin_t (by omega) (by omega)), nIc (by omega), hGz]
    · have := rel_fld (t := 9) (y := 0) (rel_k hz) hi (by simp) (RR_upd hz.2.2.2.2.2.2.1 (by
        simp only [rrb, sf, su_s, su_k, mu_k, ne_eq, Nat.reduceEqDiff, not_false_eq_true]
        exact ⟨hR.1, ⟨by have := hR.2.1.1; omega, hR.2.1.2⟩, hR.2.2⟩))
      rw [← su_00 (z := z) (f := 13) (i := i) (y := 0) (by decide)] at this
      exact this
theorem sim_prepare_ok : sim_prepare Rel := by
  intro k cnt L V c G a b hk h
  obtain ⟨z, hz⟩ := id h
  have hG := hz.1
  have hA := hz.2.1
  rcases stage_ix hA a with hb | ⟨i, hi, rfl⟩
  · refine ⟨-1, V, G, ?_, ?_, rel_next h hk⟩
    · unfold fX7_prepare
      rw [stageAt_bad hA hb]
      rfl
    · unfold fX8_prepare
      rw [isStage_bad hG hA hb]
      rfl
  have h8 := hA.1.2.2
  have hR := hz.2.2.2.2.2.2.1 i hi
  have e9 : V 3 i 9 = nI (z 13 i) := hz.2.2.1 i 9 hi rfl
  have e1 : V 3 i 1 = nI (z 12 i) := hz.2.2.1 i 1 hi rfl
  have e8 : V 3 i 8 = nI (z 22 i) := hz.2.2.1 i 8 hi rfl
  have eq : V 11 (32 + i) 3 = nI (z 26 i) := hz.2.2.2.2.1 i hi
  have g13 := hG 13 i rfl
  have g12 := hG 12 i rfl
  have g22 := hG 22 i rfl
  have g26 := hG 26 i rfl
  have r1 := hR.1
  have r2 := hR.2.1
  have hb1 : bin (nI i) 8 = true := bin_t (by omega) (by omega)
  by_cases hw : wi b 1 8 = 0
  · refine ⟨-1, V, G, ?_, ?_, rel_next h hk⟩
    · unfold fX7_prepare
      rw [stageAt_ok hA hi]
      simp only [Option.bind_some]
      rw [if_neg (nI_pos (by omega)), f_within]
      simp only [Option.bind_some]
      rw [hw, if_pos rfl]
    · unfold fX8_prepare
      rw [isStage_ok hG hA hi]
      simp only [Option.bind_some]
      rw [if_neg (by decide), f_in]
      simp only [Option.bind_some]
      rw [hw, if_pos rfl]
  obtain ⟨j, hj1, hj2, rfl⟩ := wi_nI (l := 1) (h := 8) (by decide) (by decide) hw
  by_cases hs : z 22 i = 0
  · have ef : (V 3 i 1 - V 11 (32 + i) 3) - V 3 i 9 = nI (z 12 i - z 26 i - z 13 i) := by
      rw [e1, eq, e9, pk_sub (by omega), pk_sub (by omega)]
    have eg : (G 26 0 i + G 13 0 i) + nI j = nI (z 26 i + z 13 i + j) := by rw [g26, g13, nI_add, nI_add]
    by_cases hp : z 26 i + z 13 i + j ≤ z 12 i
    · refine ⟨1, mu V 3 i 9 (nI (z 13 i + j)), mu G 13 0 i (nI (z 13 i + j)), ?_, ?_, su z 13 i (z 13 i + j), ?_⟩
      · unfold fX7_prepare
        rw [stageAt_ok hA hi]
        simp only [Option.bind_some]
        rw [if_neg (nI_pos (by omega)), f_within]
        simp only [Option.bind_some]
        rw [if_neg hw, nIc (by omega), e8, hs, if_pos nI_0]
        unfold fX3_freePlaces
        simp only [Option.bind_some]
        rw [ef, if_pos (by rw [nI_leE (by omega) (by omega)]; omega), e9, nI_add]
      · unfold fX8_prepare
        rw [isStage_ok hG hA hi]
        simp only [Option.bind_some]
        rw [if_neg (by decide), f_in]
        simp only [Option.bind_some]
        rw [if_neg hw, if_pos hb1, nIc (by omega), g22, hs, if_pos nI_0, if_pos hb1, if_pos hb1, if_pos hb1, eg, g12, if_pos (by rw [nI_leE (by omega) (by omega)]; omega), if_pos hb1, if_pos hb1, g13, nI_add]
      · have := rel_fld (t := 9) (y := z 13 i + j) (rel_k hz) hi (by simp) (RR_upd hz.2.2.2.2.2.2.1 (by
          simp only [rrb, sf, su_s, su_k, mu_k, ne_eq, Nat.reduceEqDiff, not_false_eq_true]
          exact ⟨hR.1, ⟨by omega, hR.2.1.2⟩, hR.2.2⟩))
        rw [← su_00 (z := z) (f := 13) (i := i) (y := z 13 i + j) (by decide)] at this
        exact this
    · refine ⟨-2, V, G, ?_, ?_, rel_next h hk⟩
      · unfold fX7_prepare
        rw [stageAt_ok hA hi]
        simp only [Option.bind_some]
        rw [if_neg (nI_pos (by omega)), f_within]
        simp only [Option.bind_some]
        rw [if_neg hw, nIc (by omega), e8, hs, if_pos nI_0]
        unfold fX3_freePlaces
        simp only [Option.bind_some]
        rw [ef, if_neg (by rw [nI_leE (by omega) (by omega)]; omega)]
      · unfold fX8_prepare
        rw [isStage_ok hG hA hi]
        simp only [Option.bind_some]
        rw [if_neg (by decide), f_in]
        simp only [Option.bind_some]
        rw [if_neg hw, if_pos hb1, nIc (by omega), g22, hs, if_pos nI_0, if_pos hb1, if_pos hb1, if_pos hb1, eg, g12, if_neg (by rw [nI_leE (by omega) (by omega)]; omega)]
  · have hs1 : z 22 i = 1 := by omega
    refine ⟨-3, V, G, ?_, ?_, rel_next h hk⟩
    · unfold fX7_prepare
      rw [stageAt_ok hA hi]
      simp only [Option.bind_some]
      rw [if_neg (nI_pos (by omega)), f_within]
      simp only [Option.bind_some]
      rw [if_neg hw, nIc (by omega), e8, hs1, if_neg (by decide)]
    · unfold fX8_prepare
      rw [isStage_ok hG hA hi]
      simp only [Option.bind_some]
      rw [if_neg (by decide), f_in]
      simp only [Option.bind_some]
      rw [if_neg hw, if_pos hb1, nIc (by omega), g22, hs1, if_neg (by decide)]
