/-! queued, worker, targets -/
theorem wi_in {t n : Nat} (hn : n ≤ 500000) (h : t < n) : wi (nI t) 0 (nI n - 1) = 1 := by
  unfold wi
  rw [if_neg (nI_pos (by omega)), nI_pre (by omega), if_neg (by rw [nI_ltE (by omega) (by omega)]; omega)]
theorem wi_out {a : Int32} {n : Nat} (hn : n ≤ 500000) (h : a < 0 ∨ nI n ≤ a) : wi a 0 (nI n - 1) = 0 := by
  unfold wi
  by_cases h0 : a < 0
  · rw [if_pos h0]
  · have hb := h.resolve_left h0
    rw [if_neg h0, if_pos]
    rw [Int32.lt_iff_toInt_lt]
    have h1 := Int32.le_iff_toInt_le.mp hb
    rw [nI_toInt (by omega)] at h1
    have h2 : (nI n - nI 1).toInt = (n : Int) - (1 : Nat) := pk_sub_toInt (by omega) (by omega)
    show (nI n - nI 1).toInt < _
    rw [h2]
    omega
theorem ix {a : Int32} {n : Nat} (hn : n ≤ 500000) : (a < 0 ∨ nI n ≤ a) ∨ ∃ j, j < n ∧ a = nI j := by
  rcases pk_ix a (n := n) (by omega) with h | h | h
  · exact Or.inl (Or.inl h)
  · exact Or.inl (Or.inr h)
  · exact Or.inr h
theorem sim_queued_ok : sim_queued Rel := by
  intro k cnt L V c G a b hk h
  obtain ⟨z, hz⟩ := id h
  have hG := hz.1
  have hA := hz.2.1
  rcases stage_ix hA a with hb | ⟨i, hi, rfl⟩
  · refine ⟨-1, ?_, ?_, rel_next h hk⟩
    · unfold fX7_queued
      rw [stageAt_bad hA hb]
      rfl
    · unfold fX8_queued
      rw [isStage_bad hG hA hb]
      rfl
  have h8 := hA.1.2.2
  have hR := hz.2.2.2.2.2.2.1 i hi
  have hR1 := hR.1
  have hR2 := hR.2.1
  have hL := hR.2.2.2.1.2
  have eq : V 11 (32 + i) 3 = nI (z 26 i) := hz.2.2.2.2.1 i hi
  have hQ := hz.2.2.2.2.2.2.2.2.1 i hi
  have hb1 : bin (nI i) 8 = true := bin_t (by omega) (by omega)
  rcases ix (a := b) (n := z 26 i) (by omega) with hb | ⟨t, ht, rfl⟩
  · refine ⟨-1, ?_, ?_, rel_next h hk⟩
    · unfold fX7_queued
      simp only [stageAt_ok hA hi, f_within, Option.bind_some]
      rw [if_neg (nI_pos (by omega)), nIc (by omega), eq, wi_out (by omega) hb, if_pos rfl]
    · unfold fX8_queued
      simp only [isStage_ok hG hA hi, Option.bind_some]
      rw [if_neg (by decide)]
      by_cases h0 : b < 0
      · rw [if_pos h0]
      · rw [if_neg h0, if_pos hb1, nIc (by omega), hG 26 i rfl, if_neg (Int32.not_lt.mpr (hb.resolve_left h0))]
  · have hq := hQ t ht
    refine ⟨nI (z 27 (32 * i + t)), ?_, ?_, rel_next h hk⟩
    · unfold fX7_queued
      simp only [stageAt_ok hA hi, f_within, Option.bind_some]
      rw [if_neg (nI_pos (by omega)), nIc (by omega), eq, wi_in (by omega) ht, if_neg (by decide), if_pos (bin_t (by omega) (by omega)), nIc (by omega), hq.1]
    · unfold fX8_queued
      simp only [isStage_ok hG hA hi, Option.bind_some]
      have e1 : (32 : Int32) * nI i + nI t = nI (32 * i + t) := by
        rw [show (32 : Int32) = nI 32 from rfl, pk_mul, nI_add]
      rw [if_neg (by decide), if_neg (nI_pos (by omega)), if_pos hb1, nIc (by omega), hG 26 i rfl, if_pos (by rw [nI_ltE (by omega) (by omega)]; exact ht), e1, if_pos (bin_t (by omega) (by omega)), nIc (by omega), hG 27 _ rfl]
theorem sim_worker_ok : sim_worker Rel := by
  intro k cnt L V c G a b d hk h
  obtain ⟨z, hz⟩ := id h
  have hG := hz.1
  have hA := hz.2.1
  rcases stage_ix hA a with hb | ⟨i, hi, rfl⟩
  · refine ⟨-1, ?_, ?_, rel_next h hk⟩
    · unfold fX7_worker
      rw [stageAt_bad hA hb]
      rfl
    · unfold fX8_worker
      rw [isStage_bad hG hA hb]
      rfl
  have h8 := hA.1.2.2
  have hR := hz.2.2.2.2.2.2.1 i hi
  have hR1 := hR.1
  have hR3 := hR.2.2.1
  have hL := hR.2.2.2.1.1
  have e14 : V 3 i 14 = nI (z 18 i) := hz.2.2.1 i 14 hi rfl
  have hb1 : bin (nI i) 8 = true := bin_t (by omega) (by omega)
  rcases ix (a := b) (n := z 18 i) (by omega) with hb | ⟨j, hj, rfl⟩
  · refine ⟨-1, ?_, ?_, rel_next h hk⟩
    · unfold fX7_worker
      simp only [stageAt_ok hA hi, f_within, Option.bind_some]
      rw [if_neg (nI_pos (by omega)), nIc (by omega), e14, wi_out (by omega) hb, if_pos rfl]
    · unfold fX8_worker
      simp only [isStage_ok hG hA hi, Option.bind_some]
      rw [if_neg (by decide)]
      by_cases h0 : b < 0
      · rw [if_pos h0]
      · rw [if_neg h0, if_pos hb1, nIc (by omega), hG 18 i rfl, if_neg (Int32.not_lt.mpr (hb.resolve_left h0))]
  have hw := hz.2.2.2.2.2.2.2.2.2.1 i j hi hj
  have hg := hz.2.2.2.2.2.2.2.2.2.2.2.1 i j hi hj
  have hb2 : bin (nI (4 * i + j)) 32 = true := bin_t (by omega) (by omega)
  have e1 : (4 : Int32) * nI i + nI j = nI (4 * i + j) := by
    rw [show (4 : Int32) = nI 4 from rfl, pk_mul, nI_add]
  have hx : ∀ r, fX6_figure L (4 * i + j) d V c = some r → fX7_worker L (nI i) (nI j) d V c = some r := by
    intro r hr
    unfold fX7_worker
    simp only [stageAt_ok hA hi, f_within, Option.bind_some]
    rw [if_neg (nI_pos (by omega)), nIc (by omega), e14, wi_in (by omega) hj, if_neg (by decide), if_pos (bin_t (by omega) (by omega)), nIc (by omega), hr]
    rfl
  by_cases d0 : d = 0
  · refine ⟨nI (z 31 (4 * i + j)), hx _ ?_, ?_, rel_next h hk⟩
    · unfold fX6_figure
      rw [if_pos d0, hw.1.1]
    · unfold fX8_worker
      simp only [isStage_ok hG hA hi, Option.bind_some]
      rw [if_neg (by decide), if_neg (nI_pos (by omega)), if_pos hb1, nIc (by omega), hG 18 i rfl, if_pos (by rw [nI_ltE (by omega) (by omega)]; exact hj), if_pos d0, e1, if_pos hb2, nIc (by omega), hG 31 _ rfl]
  by_cases d1 : d = 1
  · refine ⟨nI (z 33 (4 * i + j)), hx _ ?_, ?_, rel_next h hk⟩
    · unfold fX6_figure
      rw [if_neg d0, if_pos d1, hw.1.2.1]
    · unfold fX8_worker
      simp only [isStage_ok hG hA hi, Option.bind_some]
      rw [if_neg (by decide), if_neg (nI_pos (by omega)), if_pos hb1, nIc (by omega), hG 18 i rfl, if_pos (by rw [nI_ltE (by omega) (by omega)]; exact hj), if_neg d0, if_pos d1, e1, if_pos hb2, nIc (by omega), hG 31 _ rfl]
      by_cases hs : z 31 (4 * i + j) = 0
      · rw [if_pos (by rw [hs]; decide), (hw.2.2.2.2.2.2 hs).1]
        rfl
      · rw [if_neg (fun q => by rw [← nI_0, nI_leE (by omega) (by decide)] at q; omega), if_pos hb2, hG 33 _ rfl]
  by_cases d2 : d = 2
  · by_cases ho : z 34 (4 * i + j) = 0
    · have g0 := hg.1 ho
      refine ⟨0, hx _ ?_, ?_, rel_next h hk⟩
      · unfold fX6_figure
        rw [if_neg d0, if_neg d1, if_pos d2, g0.1, g0.2.1]
        rfl
      · unfold fX8_worker
        simp only [isStage_ok hG hA hi, Option.bind_some]
        rw [if_neg (by decide), if_neg (nI_pos (by omega)), if_pos hb1, nIc (by omega), hG 18 i rfl, if_pos (by rw [nI_ltE (by omega) (by omega)]; exact hj), if_neg d0, if_neg d1, if_pos d2, e1, if_pos hb2, nIc (by omega), hG 34 _ rfl, ho, if_pos nI_0]
    · have ho1 : z 34 (4 * i + j) = 1 := by have := hw.2.2.2.1; omega
      have g1 := (hg.2 ho1).1
      refine ⟨nI (z 35 (4 * i + j) - z 36 (4 * i + j)), hx _ ?_, ?_, rel_next h hk⟩
      · unfold fX6_figure
        rw [if_neg d0, if_neg d1, if_pos d2, g1.1, g1.2.1, pk_sub (by omega)]
      · unfold fX8_worker
        simp only [isStage_ok hG hA hi, Option.bind_some]
        rw [if_neg (by decide), if_neg (nI_pos (by omega)), if_pos hb1, nIc (by omega), hG 18 i rfl, if_pos (by rw [nI_ltE (by omega) (by omega)]; exact hj), if_neg d0, if_neg d1, if_pos d2, e1, if_pos hb2, nIc (by omega), hG 34 _ rfl, ho1, if_neg (by decide), if_pos hb2, if_pos hb2, hG 35 _ rfl, hG 36 _ rfl, pk_sub (by omega)]
  · refine ⟨-1, hx _ ?_, ?_, rel_next h hk⟩
    · unfold fX6_figure
      rw [if_neg d0, if_neg d1, if_neg d2]
    · unfold fX8_worker
      simp only [isStage_ok hG hA hi, Option.bind_some]
      rw [if_neg (by decide), if_neg (nI_pos (by omega)), if_pos hb1, nIc (by omega), hG 18 i rfl, if_pos (by rw [nI_ltE (by omega) (by omega)]; exact hj), if_neg d0, if_neg d1, if_neg d2]
