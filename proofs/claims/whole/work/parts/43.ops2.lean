/-! admission, targets, done, value, queued, worker -/
theorem sim_admit_ok : sim_admit Rel := by
  intro k cnt L V c G a r d g hk h
  obtain ⟨z, hz⟩ := id h
  have hG := hz.1
  have hA := hz.2.1
  rcases stage_ix hA a with hb | ⟨i, hi, rfl⟩
  · refine ⟨-1, V, G, ?_, ?_, rel_next h hk⟩
    · unfold fX7_admit
      rw [stageAt_bad hA hb]
      rfl
    · unfold fX8_admit
      rw [isStage_bad hG hA hb]
      rfl
  have h8 := hA.1.2.2
  have hR := hz.2.2.2.2.2.2.1 i hi
  have e12 : V 3 i 12 = nI (z 14 i) := hz.2.2.1 i 12 hi rfl
  have g14 := hG 14 i rfl
  have hb1 : bin (nI i) 8 = true := bin_t (by omega) (by omega)
  by_cases w1 : wi r 0 100 = 0
  · refine ⟨-1, V, G, ?_, ?_, rel_next h hk⟩
    · unfold fX7_admit
      simp only [stageAt_ok hA hi, f_within, Option.bind_some]
      rw [if_neg (nI_pos (by omega)), w1, if_pos rfl]
    · unfold fX8_admit
      simp only [isStage_ok hG hA hi, f_in, Option.bind_some]
      rw [if_neg (by decide), w1, if_pos rfl]
  by_cases w2 : wi d 1 100 = 0
  · refine ⟨-1, V, G, ?_, ?_, rel_next h hk⟩
    · unfold fX7_admit
      simp only [stageAt_ok hA hi, f_within, Option.bind_some]
      rw [if_neg (nI_pos (by omega)), if_neg w1, w2, if_pos rfl]
    · unfold fX8_admit
      simp only [isStage_ok hG hA hi, f_in, Option.bind_some]
      rw [if_neg (by decide), if_neg w1, w2, if_pos rfl]
  by_cases w3 : wi g 0 1000 = 0
  · refine ⟨-1, V, G, ?_, ?_, rel_next h hk⟩
    · unfold fX7_admit
      simp only [stageAt_ok hA hi, f_within, Option.bind_some]
      rw [if_neg (nI_pos (by omega)), if_neg w1, if_neg w2, w3, if_pos rfl]
    · unfold fX8_admit
      simp only [isStage_ok hG hA hi, f_in, Option.bind_some]
      rw [if_neg (by decide), if_neg w1, if_neg w2, w3, if_pos rfl]
  obtain ⟨r', -, hr, rfl⟩ := wi_nI (l := 0) (h := 100) (by decide) (by decide) w1
  obtain ⟨d', hd1, hd, rfl⟩ := wi_nI (l := 1) (h := 100) (by decide) (by decide) w2
  obtain ⟨g', -, hg, rfl⟩ := wi_nI (l := 0) (h := 1000) (by decide) (by decide) w3
  have hR1 := hR.1
  have hR2 := hR.2.1
  obtain ⟨y, hy, hy1, hy2⟩ : ∃ y, y = (if d' < z 14 i then d' else z 14 i) ∧ y ≤ d' ∧ y ≤ z 14 i := by
    refine ⟨_, rfl, ?_, ?_⟩ <;> by_cases hq : d' < z 14 i
    · rw [if_pos hq]; omega
    · rw [if_neg hq]; omega
    · rw [if_pos hq]; omega
    · rw [if_neg hq]; omega
  have s1 := rel_fld (t := 10) (y := r') (rel_k hz) hi (by simp) (RR_upd hz.2.2.2.2.2.2.1 (by
    simp only [rrb, sf, su_s, su_k, mu_k, ne_eq, Nat.reduceEqDiff, not_false_eq_true]
    exact ⟨hR.1, ⟨hR2.1, hR2.2.1, hR2.2.2.1, hR2.2.2.2.1, hr, hR2.2.2.2.2.2⟩, hR.2.2⟩))
  have hR3 := s1.2.2.2.2.2.2.1 i hi
  have s2 := rel_fld (t := 12) (y := y) s1 hi (by simp) (RR_upd s1.2.2.2.2.2.2.1 (by
    simp only [rrb, sf, su_s, su_k, mu_k, ne_eq, Nat.reduceEqDiff, not_false_eq_true] at hR3 ⊢
    exact ⟨hR3.1, ⟨hR3.2.1.1, by omega, hR3.2.1.2.2⟩, hR3.2.2⟩))
  have hR4 := s2.2.2.2.2.2.2.1 i hi
  have s3 := rel_fld (t := 11) (y := d') s2 hi (by simp) (RR_upd s2.2.2.2.2.2.2.1 (by
    simp only [rrb, sf, su_s, su_k, mu_k, ne_eq, Nat.reduceEqDiff, not_false_eq_true] at hR4 ⊢
    exact ⟨hR4.1, ⟨hR4.2.1.1, by omega, by omega, by omega, hR4.2.1.2.2.2.2⟩, hR4.2.2⟩))
  have hR5 := s3.2.2.2.2.2.2.1 i hi
  have s4 := rel_fld (t := 13) (y := g') s3 hi (by simp) (RR_upd s3.2.2.2.2.2.2.1 (by
    simp only [rrb, sf, su_s, su_k, mu_k, ne_eq, Nat.reduceEqDiff, not_false_eq_true] at hR5 ⊢
    exact ⟨hR5.1, ⟨hR5.2.1.1, hR5.2.1.2.1, hR5.2.1.2.2.1, hR5.2.1.2.2.2.1, hR5.2.1.2.2.2.2.1, hg⟩, hR5.2.2⟩))
  rw [mu_comm (V := mu V 3 i 10 (nI r')) (by simp), mu_comm (V := mu (mu V 3 i 10 (nI r')) 3 i 11 (nI d')) (by simp), mu_comm (V := mu G (sf 10) 0 i (nI r')) (by simp [sf])] at s4
  have e0 : su (su (su (su z (sf 10) i r') (sf 12) i y) (sf 11) i d') (sf 13) i g' 0 0 = z 0 0 := by
    rw [su_00 (by decide), su_00 (by decide), su_00 (by decide), su_00 (by decide)]
  rw [← e0] at s4
  refine ⟨1, _, _, ?_, ?_, _, s4⟩
  · unfold fX7_admit
    simp only [stageAt_ok hA hi, f_within, Option.bind_some]
    rw [if_neg (nI_pos (by omega)), if_neg w1, if_neg w2, if_neg w3, nIc (by omega)]
    simp only [mu_t (show (12 : Nat) ≠ 13 by decide), mu_t (show (12 : Nat) ≠ 11 by decide), mu_t (show (12 : Nat) ≠ 10 by decide), e12]
    by_cases hq : d' < z 14 i
    · rw [if_pos (by rw [nI_ltE (by omega) (by omega)]; exact hq), hy, if_pos hq]
    · rw [if_neg (by rw [nI_ltE (by omega) (by omega)]; exact hq), hy, if_neg hq]
  · unfold fX8_admit
    simp only [isStage_ok hG hA hi, f_in, Option.bind_some]
    rw [if_neg (by decide), if_neg w1, if_neg w2, if_neg w3, if_pos hb1, if_pos hb1, if_pos hb1, nIc (by omega)]
    simp only [mu_k (show (14 : Nat) ≠ 15 by decide), mu_k (show (14 : Nat) ≠ 16 by decide), g14]
    by_cases hq : d' < z 14 i
    · rw [if_neg (by rw [nI_leE (by omega) (by omega)]; omega), if_pos hb1, if_pos hb1, hy, if_pos hq]
      rfl
    · rw [if_pos (by rw [nI_leE (by omega) (by omega)]; omega), if_pos hb1, if_pos hb1, if_pos hb1, hy, if_neg hq]
      rfl
theorem ev_lt {U k cnt : Nat} {L : Nat → Nat → Nat} {V G : mM} {c : Nat × Nat} {z : mZ} (h : Rel0 U k cnt L V c G z) (hk : k ≤ 512) : z 0 1 ≤ 103300 := by
  obtain ⟨h1, h2, h3, h4, h5, h6, h7, h8, h9, h10, h11, h12, h13, h14, h15, h16, h17, h18, ⟨-, hU, -, T, hT, he⟩, h20⟩ := h
  have s1 : sumN (z 26) 8 ≤ 8 * 32 := sumN_le (fun i _ => by
    by_cases hi : i < cnt
    · have := (h7 i hi).1
      have := (h7 i hi).2.1.1
      omega
    · have := (h8.1 i (by omega)).2.2.2.1
      omega)
  have s2 : sumN (pend z G) 32 ≤ 32 * 1 := sumN_le (fun w _ => by
    unfold pend
    split <;> omega)
  have := h16.1
  omega
theorem sim_done_ok : sim_done Rel := by
  intro k cnt L V c G a hk h
  obtain ⟨z, hz⟩ := id h
  have hG := hz.1
  have hA := hz.2.1
  have hD := hz.2.2.2.2.2.2.2.2.2.2.2.2.2.2.2.2.1
  have hN := hz.2.2.2.2.2.2.2.2.2.2.2.2.2.2.2.2.2.2.1
  have hn : z 0 4 ≤ 102400 := by have := hN.1; have := hN.2.2.1; omega
  have e2 := hA.2.2.2.2.1
  have g4 := hG 0 4 rfl
  rcases pk_ix a (n := z 0 4) (by omega) with hb | hb | ⟨t, ht, rfl⟩
  · refine ⟨-1, ?_, ?_, rel_next h hk⟩
    · unfold fX7_done
      simp only [f_within, Option.bind_some]
      rw [show wi a 0 (V 10 0 2 - 1) = 0 from if_pos hb, if_pos rfl]
    · unfold fX8_done
      rw [if_pos hb]
  · have h0 : ¬ a < 0 := fun q => absurd (Int32.lt_of_le_of_lt hb q) (nI_pos (by omega))
    refine ⟨-1, ?_, ?_, rel_next h hk⟩
    · unfold fX7_done
      simp only [f_within, Option.bind_some]
      have hw : wi a 0 (V 10 0 2 - 1) = 0 := by
        unfold wi
        rw [if_neg h0, e2, if_pos]
        rw [Int32.lt_iff_toInt_lt]
        have h1 := Int32.le_iff_toInt_le.mp hb
        rw [nI_toInt (by omega)] at h1
        have h2 : (nI (z 0 4) - nI 1).toInt = (z 0 4 : Int) - (1 : Nat) := pk_sub_toInt (by omega) (by omega)
        show (nI (z 0 4) - nI 1).toInt < _
        rw [h2]
        omega
      rw [hw, if_pos rfl]
    · unfold fX8_done
      rw [if_neg h0, g4, if_neg (Int32.not_lt.mpr hb)]
  · have hd := hD.2 t ht
    have hc := hD.1
    refine ⟨nI (z 6 t), ?_, ?_, rel_next h hk⟩
    · unfold fX7_done
      simp only [f_within, Option.bind_some]
      have hw : wi (nI t) 0 (V 10 0 2 - 1) = 1 := by
        unfold wi
        rw [if_neg (nI_pos (by omega)), e2, nI_pre (by omega), if_neg (by rw [nI_ltE (by omega) (by omega)]; omega)]
      rw [hw, if_neg (by decide), if_pos (bin_t (by omega) (by omega)), nIc (by omega), hd.1]
    · unfold fX8_done
      rw [if_neg (nI_pos (by omega)), g4, if_pos (by rw [nI_ltE (by omega) (by omega)]; omega), if_pos (bin_t (by omega) (by omega)), nIc (by omega), hG 6 t rfl]
theorem sim_value_ok : sim_value Rel := by
  intro k cnt L V c G a hk h
  obtain ⟨z, hz⟩ := id h
  have hG := hz.1
  have hA := hz.2.1
  have hD := hz.2.2.2.2.2.2.2.2.2.2.2.2.2.2.2.2.1
  have hN := hz.2.2.2.2.2.2.2.2.2.2.2.2.2.2.2.2.2.2.1
  have hev := ev_lt hz (by omega)
  have hn : z 0 4 ≤ 102400 := by have := hN.1; have := hN.2.2.1; omega
  have e2 := hA.2.2.2.2.1
  have g4 := hG 0 4 rfl
  rcases pk_ix a (n := z 0 4) (by omega) with hb | hb | ⟨t, ht, rfl⟩
  · refine ⟨-1, ?_, ?_, rel_next h hk⟩
    · unfold fX7_value
      simp only [f_within, Option.bind_some]
      rw [show wi a 0 (V 10 0 2 - 1) = 0 from if_pos hb, if_pos rfl]
    · unfold fX8_value
      rw [if_pos hb]
  · have h0 : ¬ a < 0 := fun q => absurd (Int32.lt_of_le_of_lt hb q) (nI_pos (by omega))
    refine ⟨-1, ?_, ?_, rel_next h hk⟩
    · unfold fX7_value
      simp only [f_within, Option.bind_some]
      have hw : wi a 0 (V 10 0 2 - 1) = 0 := by
        unfold wi
        rw [if_neg h0, e2, if_pos]
        rw [Int32.lt_iff_toInt_lt]
        have h1 := Int32.le_iff_toInt_le.mp hb
        rw [nI_toInt (by omega)] at h1
        have h2 : (nI (z 0 4) - nI 1).toInt = (z 0 4 : Int) - (1 : Nat) := pk_sub_toInt (by omega) (by omega)
        show (nI (z 0 4) - nI 1).toInt < _
        rw [h2]
        omega
      rw [hw, if_pos rfl]
    · unfold fX8_value
      rw [if_neg h0, g4, if_neg (Int32.not_lt.mpr hb)]
  · have hd := hD.2 t ht
    have hc := hD.1
    refine ⟨G 3 0 (z 6 t), ?_, ?_, rel_next h hk⟩
    · unfold fX7_value
      simp only [f_within, Option.bind_some]
      have hw : wi (nI t) 0 (V 10 0 2 - 1) = 1 := by
        unfold wi
        rw [if_neg (nI_pos (by omega)), e2, nI_pre (by omega), if_neg (by rw [nI_ltE (by omega) (by omega)]; omega)]
      rw [hw, if_neg (by decide), if_pos (bin_t (by omega) (by omega)), nIc (by omega), hd.2.2]
    · unfold fX8_value
      rw [if_neg (nI_pos (by omega)), g4, if_pos (by rw [nI_ltE (by omega) (by omega)]; omega), if_pos (bin_t (by omega) (by omega)), nIc (by omega), hG 6 t rfl, if_pos (bin_t (by omega) (by omega)), nIc (by omega)]
