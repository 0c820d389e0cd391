/-! commit -/
section COM
variable {w0 cnt k i U B p : Nat} {L : Nat → Nat → Nat} {V G : mM} {c : Nat × Nat} {z : mZ} {a : Int32}
theorem mkV_9 {x : Int32} : mkV (mu V 3 i 9 x) z = mu (mkV V z) 3 i 9 x := by
  unfold mkV
  rw [mu_comm (k := 3) (fun q => absurd q.1 (by decide))]
theorem stV_9 {x : Int32} {e j : Nat} {v b : Int32} : stV1 (mu V 3 i 9 x) z j e v b = mu (stV1 V z j e v b) 3 i 9 x := by
  unfold stV1
  rw [mu_comm (k := 3) (k' := 12) (fun q => absurd q.1 (by decide)), mu_comm (k := 3) (k' := 13) (fun q => absurd q.1 (by decide)), mu_comm (k := 3) (k' := 14) (fun q => absurd q.1 (by decide)), mu_comm (k := 3) (k' := 11) (fun q => absurd q.1 (by decide))]
theorem mkz_su {b f y : Nat} (h : f ≠ 0 ∧ f ≠ 4) : mkz (su z f i y) b = su (mkz z b) f i y := by
  funext f' t
  unfold mkz
  rw [su_k (show (0 : Nat) ≠ f by omega)]
  unfold su
  by_cases e1 : f' = f
  · subst e1
    simp [h.1, h.2]
  · simp [e1]
theorem commit_lp {r : Nat} {v x3 x4 : Int32} (hi : i < cnt) (hr : r ≤ 32) : ∀ (d m : Nat) (V G : mM) (z : mZ), z 13 i = d → m + d = r → Rel1 32 cnt L V c G z → RM1 k cnt V z G → RI cnt 32 z → RS B z G → z 0 1 + d < 124000 → ∀ n n' : Nat, d < n → d < n' → ∃ V2 G2 z2, lpX7_commit_38 L n v i x4 (nI m) (mu V 3 i 9 (nI r)) c = some (x4, V2) ∧ lpX8_commit_36 n' (nI i) v x3 G = some (x3, G2) ∧ Rel1 32 cnt L V2 c G2 z2 ∧ RM1 k cnt V2 z2 G2 ∧ RI cnt 32 z2 ∧ RS B z2 G2 ∧ z2 0 0 = z 0 0 ∧ z2 0 4 = z 0 4
  | 0, m, V, G, z, h13, hm, h, hM, hI, hS, hlt, n, n', hn, hn' => by
    obtain ⟨n, rfl⟩ : ∃ q, n = q + 1 := ⟨n - 1, by omega⟩
    obtain ⟨n', rfl⟩ : ∃ q, n' = q + 1 := ⟨n' - 1, by omega⟩
    have h8 := h.2.1.1.2.2
    have e9 : V 3 i 9 = nI (z 13 i) := h.2.2.1 i 9 hi rfl
    have hb1 : bin (nI i) 8 = true := bin_t (by omega) (by omega)
    refine ⟨V, G, z, ?_, ?_, h, hM, hI, hS, rfl, rfl⟩
    · unfold lpX7_commit_38
      rw [mu_s, if_pos (by rw [nI_leE (by omega) (by omega)]; omega), mu_mu, mu_id]
      rw [e9, h13]
      rfl
    · unfold lpX8_commit_36
      rw [if_pos hb1, nIc (by omega), h.1 13 i rfl, h13, if_pos (by decide)]
  | d + 1, m, V, G, z, h13, hm, h, hM, hI, hS, hlt, n, n', hn, hn' => by
    obtain ⟨n, rfl⟩ : ∃ q, n = q + 1 := ⟨n - 1, by omega⟩
    obtain ⟨n', rfl⟩ : ∃ q, n' = q + 1 := ⟨n' - 1, by omega⟩
    have h8 := h.2.1.1.2.2
    have e9 : V 3 i 9 = nI (z 13 i) := h.2.2.1 i 9 hi rfl
    have hb1 : bin (nI i) 8 = true := bin_t (by omega) (by omega)
    have hR := h.2.2.2.2.2.2.1 i hi
    have r1 := hR.1.2.2.1
    have r2 := hR.2.1.1
    -- first the place is given back
    have g1 : Rel1 32 cnt L (mu V 3 i 9 (nI d)) c (mu G 13 0 i (nI d)) (su z 13 i d) := by
      refine rel1_fld (t := 9) h hi (by simp) ?_
      unfold rrb at hR ⊢
      simp only [sf, su_s, su_k, mu_k, ne_eq, Nat.reduceEqDiff, not_false_eq_true]
      exact ⟨hR.1, ⟨by omega, hR.2.1.2⟩, hR.2.2⟩
    have g2 := rel1_make (v := v) (b := z 0 0) g1 (by rw [su_k (by decide)]; exact Nat.le_refl _)
    have e01 : (su z 13 i d) 0 1 = z 0 1 := by rw [su_k (by decide)]
    have g3 := rel1_stand (i := i) (e := z 0 1) g2 hi (by
      rw [mkz_k (by decide), mkz_k (by decide), mkz_k (by decide), su_s, su_k (by decide), su_k (by decide)]
      omega) (by rw [mkz_1, e01]; omega) rfl rfl
    have m1 : RM1 k cnt (mu V 3 i 9 (nI d)) (su z 13 i d) (mu G 13 0 i (nI d)) := by
      simpa [RM1, RM, mu_k, su_k] using hM
    have i1 : RI cnt 32 (su z 13 i d) := by simpa [RI, su_k] using hI
    have p1 : pend (su z 13 i d) (mu G 13 0 i (nI d)) = pend z G := by
      funext w
      unfold pend
      rw [su_k (by decide), su_k (by decide), mu_k (by decide)]
    have s1 : RS B (su z 13 i d) (mu G 13 0 i (nI d)) := by
      unfold RS at hS ⊢
      rw [p1, su_k (by decide), su_k (by decide)]
      exact hS
    have ev : mkG (mu G 13 0 i (nI d)) (su z 13 i d) v (z 0 0) 3 0 (z 0 1) = v := by
      rw [← e01]; exact mkG_v
    have eb : mkz (su z 13 i d) (z 0 0) 4 (z 0 1) = z 0 0 := by
      rw [← e01]; exact mkz_b
    rw [ev, eb] at g3
    have m3 := RM1_st (i := i) (e := z 0 1) (v := v) (b := nI (z 0 0)) (RM1_make (v := v) (b := z 0 0) m1)
    have i3 := RI_st (i := i) (e := z 0 1) (RI_make (b := z 0 0) i1)
    have s3 := RS_mk_st (v := v) (b := z 0 0) (e := z 0 1) (i := i) (by omega) s1
    have z13 : stz (mkz (su z 13 i d) (z 0 0)) i (z 0 1) 13 i = d := by
      rw [stz_k (by decide), mkz_k (by decide), su_s]
    have z01 : stz (mkz (su z 13 i d) (z 0 0)) i (z 0 1) 0 1 = z 0 1 + 1 := by
      rw [stz_k (by decide), mkz_1, e01]
    obtain ⟨V2, G2, z2, q1, q2, q3, q4, q5, q6, q7, q8⟩ := commit_lp (v := v) (x3 := x3) (x4 := x4) hi hr d (m + 1) _ _ _ z13 (by omega) g3 m3 i3 s3 (by rw [z01]; omega) n n' (by omega) (by omega)
    refine ⟨V2, G2, z2, ?_, ?_, q3, q4, q5, q6, ?_, ?_⟩
    · have hq : V 11 (32 + i) 3 = nI (z 26 i) := h.2.2.2.2.1 i hi
      unfold lpX7_commit_38
      rw [mu_s, if_neg (by rw [nI_leE (by omega) (by omega)]; omega)]
      rw [mkev_x (e := z 0 1) (by rw [mu_k (by decide)]; exact h.2.1.2.2.1)]
      simp only [Option.bind_some]
      have e4 : (mu (mu V 3 i 9 (nI r)) 2 0 5 (nI (z 0 1 + 1))) 2 0 4 = nI (z 0 0) := by
        rw [mu_t (by decide), mu_k (by decide)]
        exact h.2.1.2.1
      have ea := append_x (V := mu (mu V 3 i 9 (nI r)) 2 0 5 (nI (z 0 1 + 1))) (c := c) (L := L) (n := 32 + i) (w := z 26 i) (p := nI (z 0 1)) (v := v) (b := nI (z 0 0)) (by rw [mu_k (by decide), mu_k (by decide)]; exact hq) (by rw [hR.2.2.2.1.2]; omega) (by rw [hR.2.2.2.1.2]; omega)
      rw [e4, ea]
      simp only [Option.bind_some]
      have e1 : nI m + 1 = nI (m + 1) := nI_1 m
      rw [e1]
      have c1 : mkV (mu V 3 i 9 (nI d)) (su z 13 i d) = mu (mkV V z) 3 i 9 (nI d) := by
        unfold mkV
        rw [e01, mu_comm (k := 3) (fun q => absurd q.1 (by decide))]
      have c2 : stV1 (mu (mkV V z) 3 i 9 (nI d)) (mkz (su z 13 i d) (z 0 0)) i (z 0 1) v (nI (z 0 0)) = mu (stV1 (mkV V z) z i (z 0 1) v (nI (z 0 0))) 3 i 9 (nI d) := by
        rw [stV_9]
        unfold stV1
        rw [mkz_k (by decide), su_k (by decide)]
      have c3 : mu (mu (mu (mu (mu (mu V 3 i 9 (nI r)) 2 0 5 (nI (z 0 1 + 1))) 12 (32 + i) (z 26 i) (nI (z 0 1))) 13 (32 + i) (z 26 i) v) 14 (32 + i) (z 26 i) (nI (z 0 0))) 11 (32 + i) 3 (nI (z 26 i + 1)) = stV1 (mkV (mu V 3 i 9 (nI r)) z) z i (z 0 1) v (nI (z 0 0)) := rfl
      rw [c1, c2, mu_mu] at q1
      rw [c3, mkV_9, stV_9]
      exact q1
    · have h2 := rel1_make (v := v) (b := z 0 0) h (Nat.le_refl _)
      unfold lpX8_commit_36
      rw [if_pos hb1, nIc (by omega), h.1 13 i rfl, h13, if_neg (by rw [← nI_0, nI_leE (by omega) (by omega)]; omega)]
      rw [h.1 0 0 rfl, make_m (h.1 0 1 rfl) (by omega)]
      simp only [Option.bind_some]
      have e2 := stand_m h2 hi (p := nI (z 0 1)) (by
        rw [mkz_k (by decide), mkz_k (by decide)]
        omega)
      have c3 : mu (mu (mu G 3 0 (z 0 1) v) 4 0 (z 0 1) (nI (z 0 0))) 0 0 1 (nI (z 0 1 + 1)) = mkG G z v (z 0 0) := rfl
      rw [c3, e2]
      simp only [Option.bind_some]
      rw [if_pos hb1, if_pos hb1, mu_k (show (13 : Nat) ≠ 26 by decide), mu_k (show (13 : Nat) ≠ 27 by decide), mkG_k (by decide), h.1 13 i rfl, h13]
      have e3 : nI (d + 1) - 1 = nI d := nI_pred d
      rw [e3]
      unfold stG mkG at q2
      rw [mkz_k (by decide), su_k (show (26 : Nat) ≠ 13 by decide), e01] at q2
      unfold mkG
      rw [mkz_k (by decide)]
      rw [mu_comm (k := 26) (k' := 13) (fun q => absurd q.1 (by decide)), mu_comm (k := 27) (k' := 13) (fun q => absurd q.1 (by decide)), mu_c3 (k := 13) (by decide)]
      exact q2
    · rw [q7, stz_k (by decide), mkz_0 (by decide), su_k (by decide)]
    · rw [q8, stz_k (by decide), mkz_0 (by decide), su_k (by decide)]
end COM
theorem sim_commit_ok : sim_commit Rel := by
  intro k cnt L V c G a1 a2 hk h
  obtain ⟨z, hz⟩ := id h
  have hG := hz.1
  have hA := hz.2.1
  have h1 := rel1_of (w0 := 32) hz
  have hM := RM1_k (rel0_M hz)
  have hI := rel0_I hz
  obtain ⟨n1, n2, n3, n4⟩ := rel0_N hz
  rcases stage_ix hA a1 with hb | ⟨i, hi, rfl⟩
  · refine ⟨-1, V, G, ?_, ?_, rel_next h hk⟩
    · unfold fX7_commit
      rw [stageAt_bad hA hb]
      rfl
    · unfold fX8_commit
      rw [isStage_bad hG hA hb]
      rfl
  · have h8 := hA.1.2.2
    have hb1 : bin (nI i) 8 = true := bin_t (by omega) (by omega)
    have hR := h1.2.2.2.2.2.2.1 i hi
    have r1 := hR.1
    have r2 := hR.2.1.1
    have e9 : V 3 i 9 = nI (z 13 i) := h1.2.2.1 i 9 hi rfl
    have e8 : V 3 i 8 = nI (z 22 i) := h1.2.2.1 i 8 hi rfl
    by_cases h0 : z 13 i = 0
    · refine ⟨-1, V, G, ?_, ?_, rel_next h hk⟩
      · unfold fX7_commit
        simp only [stageAt_ok hA hi, Option.bind_some]
        rw [if_neg (nI_pos (by omega)), nIc (by omega), e9, h0, if_pos nI_0]
      · unfold fX8_commit
        simp only [isStage_ok hG hA hi, Option.bind_some]
        rw [if_neg (by decide), if_pos hb1, nIc (by omega), hG 13 i rfl, h0, if_pos nI_0]
    · have hn0 : ¬ nI (z 13 i) = 0 := by rw [nI_z (by omega)]; exact h0
      by_cases h22 : z 22 i = 0
      · have hlt : z 0 1 ≤ 103300 := RS_lt n4 n2 h1.2.2.2.2.2.2.1 h1.2.2.2.2.2.2.2.1 (by
          have := hM.1.1
          omega)
        obtain ⟨V2, G2, z2, q1, q2, q3, q4, q5, q6, q7, q8⟩ := commit_lp (r := z 13 i) (v := a2) (x3 := nI (z 0 1)) (x4 := nI (z 0 1)) hi (by omega) (z 13 i) 0 V G z rfl (by omega) h1 hM hI n4 (by omega) fu fu (by unfold fu; omega) (by unfold fu; omega)
        refine ⟨nI (z 0 1), V2, G2, ?_, ?_, z2, ?_⟩
        · unfold fX7_commit
          simp only [stageAt_ok hA hi, Option.bind_some]
          rw [if_neg (nI_pos (by omega)), nIc (by omega), e9, if_neg hn0, e8, h22, if_pos nI_0, h1.2.1.2.2.1]
          rw [mu_id e9] at q1
          exact q1
        · unfold fX8_commit
          simp only [isStage_ok hG hA hi, Option.bind_some]
          rw [if_neg (by decide), if_pos hb1, nIc (by omega), hG 13 i rfl, if_neg hn0, if_pos hb1, hG 22 i rfl, h22, if_pos nI_0, hG 0 1 rfl]
          exact q2
        · refine rel0_of q3 (Nat.le_refl _) q4 q5 ⟨by rw [q7]; exact n1, by rw [q7]; exact n2, by rw [q7, q8]; exact n3, by rw [q7]; exact q6⟩
      · have hn2 : ¬ nI (z 22 i) = 0 := by rw [nI_z (by omega)]; exact h22
        refine ⟨-3, V, G, ?_, ?_, rel_next h hk⟩
        · unfold fX7_commit
          simp only [stageAt_ok hA hi, Option.bind_some]
          rw [if_neg (nI_pos (by omega)), nIc (by omega), e9, if_neg hn0, e8, if_neg hn2]
        · unfold fX8_commit
          simp only [isStage_ok hG hA hi, Option.bind_some]
          rw [if_neg (by decide), if_pos hb1, nIc (by omega), hG 13 i rfl, if_neg hn0, if_pos hb1, hG 22 i rfl, if_neg hn2]
