/-! timers -/
section TIM
variable {w0 cnt k i U B p : Nat} {L : Nat → Nat → Nat} {V G V' G' : mM} {c : Nat × Nat} {z z' : mZ} {a : Int32}
/-- only timers change -/
def tmf (V V' G G' : mM) (z z' : mZ) : Prop := (∀ f, f < 5 ∨ 9 < f → V' f = V f) ∧ (∀ f, f ≠ 0 ∧ f < 45 → z' f = z f) ∧ (∀ t, t ≠ 42 ∧ t ≠ 43 → z' 0 t = z 0 t) ∧ (∀ f, f ≠ 0 ∧ f < 45 → G' f = G f)
theorem rel1_tm (h : Rel1 w0 cnt L V c G z) (q : tmf V V' G G' z z') (hr : rG G' z') : Rel1 w0 cnt L V' c G' z' := by
  obtain ⟨h1, h2, h3, h4, h5, h6, h7, h8, h9, h10, h11, h12, h13, h15, h17, h18, h20⟩ := h
  obtain ⟨qv, qz, qo, qg⟩ := q
  have v0 := qv 0 (by decide)
  have v1 := qv 1 (by decide)
  have v2 := qv 2 (by decide)
  have v3 := qv 3 (by decide)
  have v4 := qv 4 (by decide)
  have v10 := qv 10 (by decide)
  have v11 := qv 11 (by decide)
  have v12 := qv 12 (by decide)
  have v13 := qv 13 (by decide)
  have v14 := qv 14 (by decide)
  have v16 := qv 16 (by decide)
  have v17 := qv 17 (by decide)
  have v18 := qv 18 (by decide)
  have v19 := qv 19 (by decide)
  have v20 := qv 20 (by decide)
  have v21 := qv 21 (by decide)
  have v22 := qv 22 (by decide)
  have o0 := qo 0 (by decide)
  have o1 := qo 1 (by decide)
  have o4 := qo 4 (by decide)
  have o6 := qo 6 (by decide)
  have o7 := qo 7 (by decide)
  have z4 := qz 4 (by decide)
  have z6 := qz 6 (by decide)
  have z9 := qz 9 (by decide)
  have z12 := qz 12 (by decide)
  have z13 := qz 13 (by decide)
  have z14 := qz 14 (by decide)
  have z15 := qz 15 (by decide)
  have z16 := qz 16 (by decide)
  have z17 := qz 17 (by decide)
  have z18 := qz 18 (by decide)
  have z19 := qz 19 (by decide)
  have z20 := qz 20 (by decide)
  have z21 := qz 21 (by decide)
  have z22 := qz 22 (by decide)
  have z26 := qz 26 (by decide)
  have z27 := qz 27 (by decide)
  have z28 := qz 28 (by decide)
  have z29 := qz 29 (by decide)
  have z31 := qz 31 (by decide)
  have z32 := qz 32 (by decide)
  have z33 := qz 33 (by decide)
  have z34 := qz 34 (by decide)
  have z35 := qz 35 (by decide)
  have z36 := qz 36 (by decide)
  have z38 := qz 38 (by decide)
  have z39 := qz 39 (by decide)
  have z41 := qz 41 (by decide)
  have z42 := qz 42 (by decide)
  have g3 := qg 3 (by decide)
  have g10 := qg 10 (by decide)
  have g11 := qg 11 (by decide)
  have g23 := qg 23 (by decide)
  have g24 := qg 24 (by decide)
  have g25 := qg 25 (by decide)
  have g37 := qg 37 (by decide)
  have g40 := qg 40 (by decide)
  refine ⟨hr, ?_, ?_, ?_, ?_, ?_, ?_, ?_, ?_, ?_, ?_, ?_, ?_, ?_, ?_, ?_, h20⟩
  · unfold RA1; rw [v2, v10, v4, o0, o1, o4, o6, o7]; exact h2
  · intro i t hi ht
    have := sf_ge t
    rw [v3, qz _ (by omega)]
    exact h3 i t hi ht
  · intro i t hi ht
    have := so_ge t
    rw [v3, qg _ (by omega)]
    exact h4 i t hi ht
  · unfold RQs; rw [v11, z26]; exact h5
  · unfold RTs; rw [v21, z28]; exact h6
  · unfold RR rrb; rw [z9, z12, z13, z14, z15, z16, z17, z18, z19, z20, z21, z22, z26, z28, g10, g11]; exact h7
  · unfold RZ; rw [z13, z17, z22, z26, z28, z31, z33, z34, z41, z42, g23, g24, g25]; exact h8
  · unfold RQ row; rw [v12, v13, v14, z26, z27, z4, o1, g3]; exact h9
  · unfold RW1; rw [v11, v16, z18, z31, z33, z34, z41]; exact h10
  · unfold RWb row; rw [v12, v13, v14, z31, z32, z18, z4, o1, g3]; exact h11
  · unfold RWx gf; rw [v17, v18, v19, v20, z18, z34, z35, z36, z38, z39, z4, o0, o1, g3, g37, g40]; exact h12
  · unfold RWi; rw [v11, v16, v17, z18, z19, z31, z34]; exact h13
  · unfold RT; rw [v22, z28, z29]; exact h15
  · unfold RD; rw [v0, v1, z6, o4, o1, g3]; exact h17
  · unfold RE; rw [z4, o1, o0]; exact h18
theorem RI_tm (h : RI cnt p z) (q : tmf V V' G G' z z') : RI cnt p z' := by
  obtain ⟨qv, qz, qo, qg⟩ := q
  unfold RI
  rw [qz 18 (by decide), qz 41 (by decide), qz 42 (by decide), qo 0 (by decide)]
  exact h
theorem RS_tm (h : RS B z G) (q : tmf V V' G G' z z') : RS B z' G' := by
  obtain ⟨qv, qz, qo, qg⟩ := q
  have e : pend z' G' = pend z G := by
    funext w
    unfold pend
    rw [qz 34 (by decide), qz 36 (by decide), qg 40 (by decide)]
  unfold RS
  rw [e, qz 26 (by decide), qo 1 (by decide), qo 6 (by decide)]
  exact h
def taV (V : mM) (z : mZ) (i m : Nat) (v : Int32) : mM := mu (mu (mu (mu (mu (mu V 6 0 (z 0 43) (nI (z 0 42))) 7 0 (z 0 43) (nI i)) 8 0 (z 0 43) v) 9 0 (z 0 43) (nI (z 0 0 + m))) 5 0 4 (nI (z 0 43 + 1))) 5 0 5 (nI (z 0 42 + 1))
def taG (G : mM) (z : mZ) (i m : Nat) (v : Int32) : mM := mu (mu (mu (mu (mu (mu G 45 0 (z 0 43) (nI (z 0 42))) 46 0 (z 0 43) (nI i)) 47 0 (z 0 43) v) 48 0 (z 0 43) (nI (z 0 0 + m))) 0 0 43 (nI (z 0 43 + 1))) 0 0 42 (nI (z 0 42 + 1))
def taz (z : mZ) (i m : Nat) : mZ := su (su (su (su (su z 45 (z 0 43) (z 0 42)) 46 (z 0 43) i) 48 (z 0 43) (z 0 0 + m)) 0 43 (z 0 43 + 1)) 0 42 (z 0 42 + 1)
theorem ta_tmf {m : Nat} {v : Int32} : tmf V (taV V z i m v) G (taG G z i m v) z (taz z i m) := by
  refine ⟨fun f hf => ?_, fun f hf => ?_, fun t ht => ?_, fun f hf => ?_⟩
  · unfold taV
    rw [mu_k (by omega), mu_k (by omega), mu_k (by omega), mu_k (by omega), mu_k (by omega), mu_k (by omega)]
  · unfold taz
    rw [su_k (by omega), su_k (by omega), su_k (by omega), su_k (by omega), su_k (by omega)]
  · unfold taz
    rw [su_i (by omega), su_i (by omega), su_k (by omega), su_k (by omega), su_k (by omega)]
  · unfold taG
    rw [mu_k (by omega), mu_k (by omega), mu_k (by omega), mu_k (by omega), mu_k (by omega), mu_k (by omega)]
theorem ta_rG {m : Nat} {v : Int32} (h : rG G z) : rG (taG G z i m v) (taz z i m) :=
  rG_mu (rG_mu (rG_mu (rG_mo (rG_mu (rG_mu h _ _ _ rfl) _ _ _ rfl) rfl) _ _ _ rfl) _ _ _ rfl) _ _ _ rfl
theorem ta_x {m : Nat} {v : Int32} (hM : RM1 k cnt V z G) (h50 : z 0 43 < 50) : fX4_append L i v (nI (z 0 0 + m)) V c = some (nI (z 0 42), taV V z i m v) := by
  have hb : bin (nI (z 0 43)) 50 = true := bin_t (by omega) h50
  have hlt : nI (z 0 43) < (50 : Int32) := by
    show nI (z 0 43) < nI 50
    rw [nI_ltE (by omega) (by omega)]; exact h50
  have e1 : nI (z 0 43) + 1 = nI (z 0 43 + 1) := nI_1 _
  have e2 : nI (z 0 42) + 1 = nI (z 0 42 + 1) := nI_1 _
  unfold fX4_append taV
  simp only [mu_k (show (5 : Nat) ≠ 6 by decide), mu_k (show (5 : Nat) ≠ 7 by decide), mu_k (show (5 : Nat) ≠ 8 by decide), mu_k (show (5 : Nat) ≠ 9 by decide), mu_s, mu_t (show (5 : Nat) ≠ 4 by decide), hM.2.1, hM.2.2, hb, if_true, nIc (show z 0 43 < 2 ^ 31 by omega)]
  rw [if_pos hlt, e1, e2, nI_pred]
  rfl
theorem ta_m {m : Nat} {v : Int32} (hG : rG G z) (hA : RA cnt V z) (hi : i < cnt) (h50 : z 0 43 < 50) (hw : ¬ wi (nI m) 1 1000 = 0) : fX8_timer (nI i) v (nI m) G = some (nI (z 0 42), taG G z i m v) := by
  have hb : bin (nI (z 0 43)) 50 = true := bin_t (by omega) h50
  have hne : ¬ nI (z 0 43) = (50 : Int32) := by
    show ¬ nI (z 0 43) = nI 50
    rw [nI_eqE (by omega) (by omega)]; omega
  have e1 : nI (z 0 43) + 1 = nI (z 0 43 + 1) := nI_1 _
  have e2 : nI (z 0 42) + 1 = nI (z 0 42 + 1) := nI_1 _
  unfold fX8_timer taG
  simp only [isStage_ok hG hA hi, f_in, Option.bind_some]
  rw [if_neg (by decide), if_neg hw]
  simp only [mu_k (show (0 : Nat) ≠ 45 by decide), mu_k (show (0 : Nat) ≠ 46 by decide), mu_k (show (0 : Nat) ≠ 47 by decide), mu_k (show (0 : Nat) ≠ 48 by decide), mu_s, mu_t (show (42 : Nat) ≠ 43 by decide), hG 0 43 rfl, hG 0 42 rfl, hG 0 0 rfl, hb, if_true, nIc (show z 0 43 < 2 ^ 31 by omega), nI_add]
  rw [if_neg hne, e1, e2, nI_pred]
theorem ta_RM {m : Nat} {v : Int32} (hM : RM1 k cnt V z G) (hi : i < cnt) (h50 : z 0 43 < 50) (hm : m ≤ 1000) (hc : z 0 0 ≤ 400) : RM1 (k + 1) cnt (taV V z i m v) (taz z i m) (taG G z i m v) := by
  obtain ⟨⟨⟨q1, q2, q3⟩, q4, q5⟩, q6, q7⟩ := hM
  have z43 : taz z i m 0 43 = z 0 43 + 1 := by unfold taz; rw [su_i (by decide), su_s]
  have z42 : taz z i m 0 42 = z 0 42 + 1 := by unfold taz; rw [su_s]
  have z06 : taz z i m 0 6 = z 0 6 := (ta_tmf (V := V) (G := G) (v := v)).2.2.1 6 (by decide)
  have z45 : ∀ t, taz z i m 45 t = if t = z 0 43 then z 0 42 else z 45 t := fun t => by
    unfold taz; rw [su_k (by decide), su_k (by decide), su_k (by decide), su_k (by decide), su_app]
  have z46 : ∀ t, taz z i m 46 t = if t = z 0 43 then i else z 46 t := fun t => by
    unfold taz; rw [su_k (by decide), su_k (by decide), su_k (by decide), su_app, su_k (by decide)]
  have z48 : ∀ t, taz z i m 48 t = if t = z 0 43 then z 0 0 + m else z 48 t := fun t => by
    unfold taz; rw [su_k (by decide), su_k (by decide), su_app, su_k (by decide), su_k (by decide)]
  refine ⟨⟨⟨by omega, by omega, by omega⟩, ?_, ?_⟩, ?_, ?_⟩
  · intro t ht
    rw [z43] at ht
    rw [z45, z46, z48, z42]
    unfold taV taG
    by_cases e : t = z 0 43
    · subst e
      rw [if_pos rfl, if_pos rfl, if_pos rfl]
      refine ⟨⟨?_, ?_, ?_, ?_⟩, hi, by omega, by omega⟩
      · rw [mu_k (by decide), mu_k (by decide), mu_k (by decide), mu_k (by decide), mu_k (by decide), mu_s]
      · rw [mu_k (by decide), mu_k (by decide), mu_k (by decide), mu_k (by decide), mu_s]
      · rw [mu_k (show (8 : Nat) ≠ 5 by decide), mu_k (show (8 : Nat) ≠ 5 by decide), mu_k (show (8 : Nat) ≠ 9 by decide), mu_s, mu_k (show (47 : Nat) ≠ 0 by decide), mu_k (show (47 : Nat) ≠ 0 by decide), mu_k (show (47 : Nat) ≠ 48 by decide), mu_s]
      · rw [mu_k (by decide), mu_k (by decide), mu_s]
    · rw [if_neg e, if_neg e, if_neg e]
      obtain ⟨⟨p1, p2, p3, p4⟩, p5, p6, p7⟩ := q4 t (by omega)
      refine ⟨⟨?_, ?_, ?_, ?_⟩, p5, p6, by omega⟩
      · rw [mu_k (by decide), mu_k (by decide), mu_k (by decide), mu_k (by decide), mu_k (by decide), mu_t e]; exact p1
      · rw [mu_k (by decide), mu_k (by decide), mu_k (by decide), mu_k (by decide), mu_t e, mu_k (by decide)]; exact p2
      · rw [mu_k (show (8 : Nat) ≠ 5 by decide), mu_k (show (8 : Nat) ≠ 5 by decide), mu_k (show (8 : Nat) ≠ 9 by decide), mu_t e, mu_k (show (8 : Nat) ≠ 7 by decide), mu_k (show (8 : Nat) ≠ 6 by decide), mu_k (show (47 : Nat) ≠ 0 by decide), mu_k (show (47 : Nat) ≠ 0 by decide), mu_k (show (47 : Nat) ≠ 48 by decide), mu_t e, mu_k (show (47 : Nat) ≠ 46 by decide), mu_k (show (47 : Nat) ≠ 45 by decide)]; exact p3
      · rw [mu_k (by decide), mu_k (by decide), mu_t e, mu_k (by decide), mu_k (by decide), mu_k (by decide)]; exact p4
  · intro t t' h1 h2
    rw [z43] at h2
    rw [z45, z45, if_neg (by omega)]
    by_cases e : t' = z 0 43
    · rw [if_pos e]
      exact (q4 t (by omega)).2.2.2
    · rw [if_neg e]
      exact q5 t t' h1 (by omega)
  · unfold taV
    rw [z43, mu_t (by decide), mu_s]
  · unfold taV
    rw [z42, mu_s]
end TIM
theorem sim_timer_ok : sim_timer Rel := by
  intro k cnt L V c G a1 a2 a3 hk h
  obtain ⟨z, hz⟩ := id h
  have hG := hz.1
  have hA := hz.2.1
  have h1 := rel1_of (w0 := 32) hz
  have hM := rel0_M hz
  have hI := rel0_I hz
  obtain ⟨n1, n2, n3, n4⟩ := rel0_N hz
  rcases stage_ix hA a1 with hb | ⟨i, hi, rfl⟩
  · refine ⟨-1, V, G, ?_, ?_, rel_next h hk⟩
    · unfold fX7_timer
      rw [stageAt_bad hA hb]
      rfl
    · unfold fX8_timer
      rw [isStage_bad hG hA hb]
      rfl
  · have h8 := hA.1.2.2
    by_cases hw : wi a3 1 1000 = 0
    · refine ⟨-1, V, G, ?_, ?_, rel_next h hk⟩
      · unfold fX7_timer
        simp only [stageAt_ok hA hi, Option.bind_some, f_within]
        rw [if_neg (nI_pos (by omega)), if_pos hw]
      · unfold fX8_timer
        simp only [isStage_ok hG hA hi, Option.bind_some, f_in]
        rw [if_neg (by decide), if_pos hw]
    · obtain ⟨m, hm1, hm2, rfl⟩ := wi_nI (l := 1) (h := 1000) (by omega) (by omega) hw
      by_cases h50 : z 0 43 < 50
      · refine ⟨nI (z 0 42), taV V z i m a2, taG G z i m a2, ?_, ta_m hG hA hi h50 hw, taz z i m, ?_⟩
        · unfold fX7_timer
          simp only [stageAt_ok hA hi, Option.bind_some, f_within]
          rw [if_neg (nI_pos (by omega)), if_neg hw, nIc (by omega), h1.2.1.2.1, nI_add, ta_x hM h50]
          rfl
        · have e0 : taz z i m 0 0 = z 0 0 := (ta_tmf (V := V) (G := G) (v := a2)).2.2.1 0 (by decide)
          have e4 : taz z i m 0 4 = z 0 4 := (ta_tmf (V := V) (G := G) (v := a2)).2.2.1 4 (by decide)
          rw [e0]
          exact rel0_of (rel1_tm h1 ta_tmf (ta_rG hG)) (Nat.le_refl _) (ta_RM hM hi h50 hm2 n1) (RI_tm hI (ta_tmf (V := V) (G := G) (v := a2))) ⟨by rw [e0]; exact n1, n2, by rw [e4]; exact n3, RS_tm n4 (ta_tmf (V := V))⟩
      · have e50 : z 0 43 = 50 := by have := hM.1.1.1; omega
        refine ⟨-2, V, G, ?_, ?_, rel_next h hk⟩
        · unfold fX7_timer fX4_append
          simp only [stageAt_ok hA hi, Option.bind_some, f_within]
          rw [if_neg (nI_pos (by omega)), if_neg hw, hM.2.1, e50, if_neg (by decide)]
          rfl
        · unfold fX8_timer
          simp only [isStage_ok hG hA hi, Option.bind_some, f_in]
          rw [if_neg (by decide), if_neg hw, hG 0 43 rfl, e50, if_pos (by decide)]
