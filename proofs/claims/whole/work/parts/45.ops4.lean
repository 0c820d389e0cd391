/-! targets -/
section TGT
variable {cnt k i : Nat} {L : Nat → Nat → Nat} {V G : mM} {c : Nat × Nat} {z : mZ} {a : Int32}
/-- a target of a stage is set on both sides -/
theorem rel_tgt {U : Nat} (h : Rel0 U k cnt L V c G z) {t : Nat} {x : Int32} (ht : t = 6 ∨ t = 7) (hx : tg cnt x) : Rel0 U k cnt L (mu V 3 i t x) c (mu G (so t) 0 i x) z := by
  obtain ⟨h1, h2, h3, h4, h5, h6, h7, h8, h9, h10, h11, h12, h13, h14, h15, h16, h17, h18, h19, h20⟩ := h
  refine ⟨?_, ?_, ?_, ?_, ?_, ?_, ?_, ?_, ?_, ?_, ?_, ?_, ?_, h14, ?_, ?_, ?_, h18, ?_, h20⟩
  · rcases ht with rfl | rfl <;> exact rG_mo h1 rfl
  · rcases ht with rfl | rfl <;> simpa [RA, mu_k] using h2
  · intro i' t' hi' ht'
    have e1 : t' ≠ t := by
      rintro rfl
      rcases ht with rfl | rfl <;> cases ht'
    rw [mu_app, if_neg (fun q => e1 q.2)]
    exact h3 i' t' hi' ht'
  · intro i' t' hi' ht'
    by_cases e1 : t' = t
    · subst e1
      rw [mu_app, mu_app]
      by_cases e2 : i' = i
      · rw [if_pos ⟨e2, rfl⟩, if_pos ⟨rfl, e2⟩]
      · rw [if_neg (fun q => e2 q.1), if_neg (fun q => e2 q.2)]
        exact h4 i' t' hi' ht'
    · have e2 : so t' ≠ so t := by
        simp [iso] at ht'
        rcases ht with rfl | rfl <;> rcases ht' with rfl | rfl | rfl | rfl | rfl <;> first | decide | exact absurd rfl e1
      rw [mu_app, if_neg (fun q => e1 q.2), mu_k e2]
      exact h4 i' t' hi' ht'
  · simpa [RQs, mu_k] using h5
  · simpa [RTs, mu_k] using h6
  · intro j hj
    have := h7 j hj
    rcases ht with rfl | rfl
    · refine ⟨this.1, this.2.1, this.2.2.1, this.2.2.2.1, ?_, ?_⟩
      · show tg cnt (mu G 10 0 i x 10 0 j)
        rw [mu_app]
        split
        · exact hx
        · exact this.2.2.2.2.1
      · show tg cnt (mu G 10 0 i x 11 0 j)
        rw [mu_k (by decide)]
        exact this.2.2.2.2.2
    · refine ⟨this.1, this.2.1, this.2.2.1, this.2.2.2.1, ?_, ?_⟩
      · show tg cnt (mu G 11 0 i x 10 0 j)
        rw [mu_k (by decide)]
        exact this.2.2.2.2.1
      · show tg cnt (mu G 11 0 i x 11 0 j)
        rw [mu_app]
        split
        · exact hx
        · exact this.2.2.2.2.2
  · rcases ht with rfl | rfl <;> simpa [RZ, so, mu_k] using h8
  · rcases ht with rfl | rfl <;> simpa [RQ, row, so, mu_k] using h9
  · simpa [RW, mu_k] using h10
  · rcases ht with rfl | rfl <;> simpa [RWb, row, so, mu_k] using h11
  · rcases ht with rfl | rfl <;> simpa [RWg, gf, so, mu_k] using h12
  · simpa [RWi, mu_k] using h13
  · simpa [RT, mu_k] using h15
  · rcases ht with rfl | rfl <;> simpa [RM, so, mu_k] using h16
  · rcases ht with rfl | rfl <;> simpa [RD, so, mu_k] using h17
  · have e9 : pend z (mu G (so t) 0 i x) = pend z G := by
      funext w
      unfold pend
      rcases ht with rfl | rfl <;> simp [so, mu_k]
    unfold RN
    rw [e9]
    exact h19
theorem m1_lt {a : Int32} (h : a < 0) (h1 : ¬ a = -1) : a < -1 := by
  rw [Int32.lt_iff_toInt_lt] at h ⊢
  have e0 : (0 : Int32).toInt = 0 := rfl
  have e1 : (-1 : Int32).toInt = -1 := rfl
  rw [e0] at h
  rw [e1]
  have : a.toInt ≠ -1 := fun e => h1 (Int32.toInt_inj.mp (e.trans e1.symm))
  omega
theorem isT_bad (hA : RA cnt V z) (h : (a < 0 ∧ ¬ a = -1) ∨ nI cnt ≤ a) : fX7_isTarget L a V c = some 0 := by
  have h8 := hA.1.2.2
  unfold fX7_isTarget
  rw [f_within, hA.1.1]
  simp only [Option.bind_some]
  have hw : wi a (-1) (nI cnt - 1) = 0 := by
    unfold wi
    rcases h with h | h
    · rw [if_pos (m1_lt h.1 h.2)]
    · by_cases h0 : a < -1
      · rw [if_pos h0]
      · rw [if_neg h0, if_pos (nI_m1 (by omega) h)]
  rw [hw]
  rfl
theorem isT_ok (hA : RA cnt V z) (h : a = -1 ∨ ∃ j, j < cnt ∧ a = nI j) : fX7_isTarget L a V c = some 1 := by
  have h8 := hA.1.2.2
  unfold fX7_isTarget
  rw [f_within, hA.1.1]
  simp only [Option.bind_some]
  have hw : wi a (-1) (nI cnt - 1) = 1 := by
    unfold wi
    rcases h with rfl | ⟨j, hj, rfl⟩
    · rw [if_neg (by decide), if_neg]
      rw [Int32.lt_iff_toInt_lt]
      have h2 : (nI cnt - nI 1).toInt = (cnt : Int) - (1 : Nat) := pk_sub_toInt (by omega) (by omega)
      have e1 : (-1 : Int32).toInt = -1 := rfl
      show ¬ (nI cnt - nI 1).toInt < _
      rw [h2, e1]
      omega
    · rw [if_neg, if_neg (nI_m2 (by omega) hj)]
      rw [Int32.lt_iff_toInt_lt, nI_toInt (by omega)]
      have e1 : (-1 : Int32).toInt = -1 := rfl
      rw [e1]
      omega
  rw [hw]
  rfl
/-- a number is no target, or one -/
theorem tgt_ix (hA : RA cnt V z) (a : Int32) : ((a < 0 ∧ ¬ a = -1) ∨ nI cnt ≤ a) ∨ tg cnt a := by
  rcases stage_ix hA a with (h | h) | h
  · by_cases e : a = -1
    · exact Or.inr (Or.inl e)
    · exact Or.inl (Or.inl ⟨h, e⟩)
  · exact Or.inl (Or.inr h)
  · exact Or.inr (Or.inr h)
theorem stageAt_tg (hA : RA cnt V z) (h : tg cnt a) : fX7_stageAt L a V c = some a := by
  rcases h with rfl | ⟨j, hj, rfl⟩
  · exact stageAt_bad hA (Or.inl (by decide))
  · exact stageAt_ok hA hj
end TGT
theorem sim_targets_ok : sim_targets Rel := by
  intro k cnt L V c G a p q hk h
  obtain ⟨z, hz⟩ := id h
  have hG := hz.1
  have hA := hz.2.1
  rcases stage_ix hA a with hb | ⟨i, hi, rfl⟩
  · refine ⟨-1, V, G, ?_, ?_, rel_next h hk⟩
    · unfold fX7_targets
      rw [stageAt_bad hA hb]
      rfl
    · unfold fX8_targets
      rw [isStage_bad hG hA hb]
      rfl
  have h8 := hA.1.2.2
  have hb1 : bin (nI i) 8 = true := bin_t (by omega) (by omega)
  have nb : ∀ {x : Int32}, ((x < 0 ∧ ¬ x = -1) ∨ nI cnt ≤ x) → ¬ x = -1 ∧ (x < 0 ∨ nI cnt ≤ x) := by
    intro x hx
    rcases hx with hx | hx
    · exact ⟨hx.2, Or.inl hx.1⟩
    · refine ⟨?_, Or.inr hx⟩
      rintro rfl
      rw [Int32.le_iff_toInt_le, nI_toInt (by omega)] at hx
      have e1 : (-1 : Int32).toInt = -1 := rfl
      rw [e1] at hx
      omega
  rcases tgt_ix hA p with hp | hp
  · refine ⟨-1, V, G, ?_, ?_, rel_next h hk⟩
    · unfold fX7_targets
      simp only [stageAt_ok hA hi, isT_bad hA hp, Option.bind_some]
      rw [if_neg (nI_pos (by omega)), if_pos trivial]
    · unfold fX8_targets
      obtain ⟨n1, n2⟩ := nb hp
      simp only [isStage_ok hG hA hi, Option.bind_some]
      rw [if_neg (by decide), if_neg n1, isStage_bad hG hA n2]
      rfl
  have hm : ∀ r, jnX8_targets_21 (nI i) p q G = some r → fX8_targets (nI i) p q G = some r := by
    intro r hr
    unfold fX8_targets
    simp only [isStage_ok hG hA hi, Option.bind_some]
    rw [if_neg (by decide)]
    rcases hp with rfl | ⟨j, hj, rfl⟩
    · rw [if_pos rfl]; exact hr
    · by_cases e : nI j = -1
      · rw [if_pos e]; exact hr
      · rw [if_neg e, isStage_ok hG hA hj]
        simp only [Option.bind_some]
        rw [if_neg (by decide)]; exact hr
  rcases tgt_ix hA q with hq | hq
  · refine ⟨-1, V, G, ?_, hm _ ?_, rel_next h hk⟩
    · unfold fX7_targets
      simp only [stageAt_ok hA hi, isT_ok hA hp, isT_bad hA hq, Option.bind_some]
      rw [if_neg (nI_pos (by omega)), if_neg (by decide), if_pos trivial]
    · unfold jnX8_targets_21
      obtain ⟨n1, n2⟩ := nb hq
      rw [if_neg n1, isStage_bad hG hA n2]
      rfl
  have s1 := rel_tgt (i := i) (t := 6) (rel_k hz) (Or.inl rfl) hp
  have s2 := rel_tgt (i := i) (t := 7) s1 (Or.inr rfl) hq
  refine ⟨1, mu (mu V 3 i 6 p) 3 i 7 q, mu (mu G 10 0 i p) 11 0 i q, ?_, hm _ ?_, z, s2⟩
  · unfold fX7_targets
    simp only [stageAt_ok hA hi, isT_ok hA hp, isT_ok hA hq, stageAt_tg hA hp, Option.bind_some]
    rw [if_neg (nI_pos (by omega)), if_neg (by decide), if_neg (by decide), nIc (by omega)]
    simp only [stageAt_tg s1.2.1 hq, Option.bind_some]
  · unfold jnX8_targets_21
    rcases hq with rfl | ⟨j, hj, rfl⟩
    · rw [if_pos rfl, if_pos hb1, if_pos hb1, nIc (by omega)]
    · by_cases e : nI j = -1
      · rw [if_pos e, if_pos hb1, if_pos hb1, nIc (by omega)]
      · rw [if_neg e, isStage_ok hG hA hj]
        simp only [Option.bind_some]
        rw [if_neg (by decide), if_pos hb1, if_pos hb1, nIc (by omega)]
