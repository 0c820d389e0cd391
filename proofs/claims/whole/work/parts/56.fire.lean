/-! a tick: the timers -/
section FIR
variable {w0 cnt k i U B p n : Nat} {L : Nat → Nat → Nat} {V G : mM} {c : Nat × Nat} {z : mZ}
theorem TM_make {w r b : Nat} {v : Int32} (h : TM k cnt V z G n w r) : TM k cnt (mkV V z) (mkz z b) (mkG G z v b) n w r := by
  simpa [TM, trec, mkz_k, mkz_0, mkG_k, mkV_k] using h
theorem TM_tk {w r e : Nat} {v b : Int32} (h : TM k cnt V z G n w r) : TM k cnt (tkV V z i e v b) (tkz z i e) (tkG G z i e) n w r := by
  simpa [TM, trec, tkz_k, tkG_k, tkV_k] using h
theorem TM_ref {w r : Nat} {x x' : Int32} (h : TM k cnt V z G n w r) : TM k cnt (mu V 3 i 16 x) z (mu G 23 0 i x') n w r := by
  simpa [TM, trec, mu_k] using h
theorem TM_lost {w r : Nat} (h : TM k cnt V z G n w r) (hl : z 0 6 + 1 + z 0 43 ≤ z 0 42) : TM k cnt (mu V 2 0 6 (nI (z 0 6 + 1))) (su z 0 6 (z 0 6 + 1)) (mu G 0 0 6 (nI (z 0 6 + 1))) n w r := by
  obtain ⟨⟨p1, p2, p3, p4, p5, p6⟩, p7, p9, p10⟩ := h
  refine ⟨⟨p1, p2, p3, ?_, ?_, ?_⟩, ?_, ?_, ?_⟩
  · rw [su_i (by decide)]; exact p4
  · rw [su_i (by decide)]; exact p5
  · rw [su_s, su_i (by decide), su_i (by decide)]; exact hl
  · rw [mu_k (by decide), su_i (by decide)]; exact p7
  · simpa [trec, mu_k, su_k, su_app] using p9
  · simpa [su_k, su_app] using p10
theorem fire_lp (hk : k ≤ 512) : ∀ (d w r : Nat) (V G : mM) (z : mZ), n - r = d → Rel1 32 cnt L V c G z → TM k cnt V z G n w r → RI cnt p z → NP U z G → ∀ m m' : Nat, d < m → d < m' → ∃ V' G' z', lpX7_fireTimers_4 L m (nI w) (nI r) V c = some V' ∧ lpX8_ring_2 m' (nI w) G = some G' ∧ Rel1 32 cnt L V' c G' z' ∧ RM1 k cnt V' z' G' ∧ RI cnt p z' ∧ NP U z' G' ∧ z' 0 0 = z 0 0
  | 0, w, r, V, G, z, hd, h, hT, hI, hN, m, m', hm, hm' => by
    obtain ⟨m, rfl⟩ : ∃ q, m = q + 1 := ⟨m - 1, by omega⟩
    obtain ⟨m', rfl⟩ : ∃ q, m' = q + 1 := ⟨m' - 1, by omega⟩
    have p1 := hT.1
    have hr : r = n := by omega
    subst hr
    refine ⟨mu V 5 0 4 (nI w), G, z, ?_, ?_, rel1_tm h tmf_5 h.1, TM_end hT, hI, hN, rfl⟩
    · rw [lpX7_fireTimers_4, hT.2.1.1, if_pos (by rw [nI_leE (by omega) (by omega)]; omega)]
    · rw [lpX8_ring_2, h.1 0 43 rfl, if_pos (by rw [nI_leE (by omega) (by omega)]; omega)]
  | d + 1, w, r, V, G, z, hd, h, hT, hI, hN, m, m', hm, hm' => by
    obtain ⟨m, rfl⟩ : ∃ q, m = q + 1 := ⟨m - 1, by omega⟩
    obtain ⟨m', rfl⟩ : ∃ q, m' = q + 1 := ⟨m' - 1, by omega⟩
    have p1 := hT.1
    have hr : r < n := by omega
    have h8 := h.2.1.1.2.2
    obtain ⟨t1, t2, t3, t4, t5, t6, t7⟩ := TM_rec hT hr
    have a1 : nI w + 1 = nI (w + 1) := nI_1 w
    have a2 : nI r + 1 = nI (r + 1) := nI_1 r
    have c1 : ¬ nI n ≤ nI r := by rw [nI_leE (by omega) (by omega)]; omega
    have c2 : ¬ nI (z 0 43) ≤ nI w := by rw [nI_leE (by omega) (by omega)]; omega
    have hbr : bin (nI r) 50 = true := bin_t (by omega) (by omega)
    have hbw : bin (nI w) 50 = true := bin_t (by omega) (by omega)
    obtain ⟨n1, n2, n3, n4⟩ := hN
    by_cases hq : nI (z 48 w) = nI (z 0 0)
    · have hlt : z 0 1 ≤ 103300 := RS_lt n4 n2 h.2.2.2.2.2.2.1 h.2.2.2.2.2.2.2.1 (by omega)
      have h2 := rel1_make (v := G 47 0 w) (b := z 0 0) h (Nat.le_refl _)
      obtain ⟨G1, z1, f1, f2, f3, f4, f5, f6⟩ := forget_m (TM_make (v := G 47 0 w) (b := z 0 0) hT) hr h2.1
      have h3 := rel1_tm h2 f3 f2
      have hi := t5
      have i3 := RI_tm (RI_make (b := z 0 0) hI) f3
      have o0 : z1 0 0 = z 0 0 := by rw [f3.2.2.1 0 (by decide), mkz_0 (by decide)]
      have o1 : z1 0 1 = z 0 1 + 1 := by rw [f3.2.2.1 1 (by decide), mkz_1]
      have o4 : z1 0 4 = z 0 4 := by rw [f3.2.2.1 4 (by decide), mkz_0 (by decide)]
      have o6 : z1 0 6 = z 0 6 := by rw [f3.2.2.1 6 (by decide), mkz_0 (by decide)]
      have o26 : z1 26 = z 26 := by rw [f3.2.1 26 (by decide), mkz_k (by decide)]
      have op : pend z1 G1 = pend z G := by
        funext w'
        unfold pend
        rw [f3.2.1 34 (by decide), f3.2.1 36 (by decide), f3.2.2.2 40 (by decide), mkz_k (by decide), mkz_k (by decide), mkG_k (by decide)]
      have hg3 : G1 3 0 (z 0 1) = G 47 0 w := by rw [f3.2.2.2 3 (by decide), mkG_v]
      have hz4 : z1 4 (z 0 1) = z 0 0 := by rw [f3.2.1 4 (by decide), mkz_b]
      have e204 : mkV V z 2 0 4 = nI (z 0 0) := by rw [h3.2.1.2.1, o0]
      have emk : fX7_makeEvent L V c = some (nI (z 0 1), mkV V z) := mkev_x h.2.1.2.2.1
      have emm : fX8_make (G 47 0 w) (nI (z 0 0)) G = some (nI (z 0 1), mkG G z (G 47 0 w) (z 0 0)) := make_m (h.1 0 1 rfl) (by omega)
      by_cases h0 : rcd z1 (z 46 w) = 0
      · have h4 := rel1_take (e := z 0 1) (v := G 47 0 w) (b := nI (z 0 0)) h3 hi h0 (by omega) hg3.symm (by rw [hz4])
        obtain ⟨V', G', z', q1, q2, q3, q4, q5, q6, q7⟩ := fire_lp hk d w (r + 1) _ _ _ (by omega) h4 (TM_tk f4) (RI_tk i3) ⟨by rw [tkz_k (by decide), o0]; exact n1, n2, by rw [tkz_k (by decide), o4]; exact n3, by
          unfold RS at n4 ⊢
          rw [sum_tk (by omega), pend_tk, op, tkz_k (by decide), o1, o6, o26]
          omega⟩ m m' (by omega) (by omega)
        refine ⟨V', G', z', ?_, ?_, q3, q4, q5, q6, by rw [q7, tkz_k (by decide), o0]⟩
        · rw [lpX7_fireTimers_4, hT.2.1.1, if_neg c1, if_pos hbr, nIc (by omega), t4, h.2.1.2.1, if_pos hq, if_pos hbr, if_pos hbr, t2, if_neg (nI_pos (by omega)), nIc (by omega), t3]
          have ef : fX7_fire L (z 46 w) (G 47 0 w) V c = some (tkV (mkV V z) z1 (z 46 w) (z 0 1) (G 47 0 w) (nI (z 0 0))) := by
            unfold fX7_fire
            rw [emk]
            simp only [Option.bind_some]
            rw [ask_x h3 hi, h0]
            simp only [Option.bind_some, if_true]
            rw [e204, take_x' h3 hi h0]
            rfl
          rw [ef]
          simp only [Option.bind_some]
          unfold jnX7_fireTimers_68
          rw [a2]
          exact q1
        · rw [lpX8_ring_2, h.1 0 43 rfl, if_neg c2, if_pos hbw, nIc (by omega), h.1 48 w rfl, h.1 0 0 rfl, if_pos hq, if_pos hbw, if_pos hbw, emm]
          simp only [Option.bind_some]
          rw [f1]
          simp only [Option.bind_some]
          rw [h.1 46 w rfl, offer_0' h3 hi h0]
          simp only [Option.bind_some]
          rw [if_neg (by decide)]
          unfold jnX8_ring_69
          rw [Int32.add_zero, mu_id (by rw [tkG_k (by decide)])]
          exact q2
      · have h4 := ask_ref h3 hi
        have h5 := rel1_lost (y := z1 0 6 + 1) h4
        have t4' := TM_lost (TM_ref (i := z 46 w) (x := mkV V z 3 (z 46 w) 16 + 1) (x' := G1 23 0 (z 46 w) + 1) f4) (by
          have := p1.2.2.2.2.2
          have e43 : mkz z (z 0 0) 0 43 = z 0 43 := mkz_0 (by decide)
          have e42 : z1 0 42 = z 0 42 := by
            have := f4.2.1.2
            have h42 := (TM_make (v := G 47 0 w) (b := z 0 0) hT).2.1.2
            rw [this, mkz_0 (by decide)] at h42
            have k1 := f4.1.2.2.2.2.1
            have k2 := p1.2.2.2.2.1
            rw [nI_eqE (by omega) (by omega)] at h42
            exact h42
          rw [o6, e42]
          omega)
        have i5 : RI cnt p (su z1 0 6 (z1 0 6 + 1)) := by
          simpa [RI, su_k, su_app] using i3
        obtain ⟨V', G', z', q1, q2, q3, q4, q5, q6, q7⟩ := fire_lp hk d w (r + 1) _ _ _ (by omega) h5 t4' i5 ⟨by rw [su_i (by decide), o0]; exact n1, n2, by rw [su_i (by decide), o4]; exact n3, by
          have ep : pend (su z1 0 6 (z1 0 6 + 1)) (mu (mu G1 23 0 (z 46 w) (G1 23 0 (z 46 w) + 1)) 0 0 6 (nI (z1 0 6 + 1))) = pend z1 G1 := by
            funext w'
            unfold pend
            rw [su_k (by decide), su_k (by decide), mu_k (by decide), mu_k (by decide)]
          unfold RS at n4 ⊢
          rw [ep, op, su_i (by decide), su_s, su_k (by decide), o1, o6, o26]
          omega⟩ m m' (by omega) (by omega)
        refine ⟨V', G', z', ?_, ?_, q3, q4, q5, q6, by rw [q7, su_i (by decide), o0]⟩
        · rw [lpX7_fireTimers_4, hT.2.1.1, if_neg c1, if_pos hbr, nIc (by omega), t4, h.2.1.2.1, if_pos hq, if_pos hbr, if_pos hbr, t2, if_neg (nI_pos (by omega)), nIc (by omega), t3]
          have ef : fX7_fire L (z 46 w) (G 47 0 w) V c = some (mu (mu (mkV V z) 3 (z 46 w) 16 (mkV V z 3 (z 46 w) 16 + 1)) 2 0 6 (nI (z1 0 6 + 1))) := by
            unfold fX7_fire
            rw [emk]
            simp only [Option.bind_some]
            rw [ask_x h3 hi]
            simp only [Option.bind_some]
            rw [if_neg h0, if_neg h0, mu_k (show (2 : Nat) ≠ 3 by decide), h3.2.1.2.2.2.1]
            have e1 : nI (z1 0 6) + 1 = nI (z1 0 6 + 1) := nI_1 _
            rw [e1]
          rw [ef]
          simp only [Option.bind_some]
          unfold jnX7_fireTimers_68
          rw [a2]
          exact q1
        · rw [lpX8_ring_2, h.1 0 43 rfl, if_neg c2, if_pos hbw, nIc (by omega), h.1 48 w rfl, h.1 0 0 rfl, if_pos hq, if_pos hbw, if_pos hbw, emm]
          simp only [Option.bind_some]
          rw [f1]
          simp only [Option.bind_some]
          rw [h.1 46 w rfl, offer_1 h3 hi h0]
          simp only [Option.bind_some, if_true]
          unfold jnX8_ring_69
          have e1 : nI (z1 0 6) + 1 = nI (z1 0 6 + 1) := nI_1 _
          rw [f2 0 6 rfl, e1]
          exact q2
    · obtain ⟨V', G', z', q1, q2, q3, q4, q5, q6, q7⟩ := fire_lp hk d (w + 1) (r + 1) (mvV V w r) G z (by omega) (rel1_tm h tmf_mv h.1) (TM_mv hT hr) hI ⟨n1, n2, n3, n4⟩ m m' (by omega) (by omega)
      refine ⟨V', G', z', ?_, ?_, q3, q4, q5, q6, q7⟩
      · rw [lpX7_fireTimers_4, hT.2.1.1, if_neg c1, if_pos hbr, nIc (by omega), t4, h.2.1.2.1, if_neg hq, mv_x (by omega) (by omega)]
        simp only [Option.bind_some]
        unfold jnX7_fireTimers_68
        rw [a1, a2]
        exact q1
      · rw [lpX8_ring_2, h.1 0 43 rfl, if_neg c2, if_pos hbw, nIc (by omega), h.1 48 w rfl, h.1 0 0 rfl, if_neg hq, a1]
        exact q2
theorem fire_ok (hk : k ≤ 512) (h : Rel1 32 cnt L V c G z) (hM : RM1 k cnt V z G) (hI : RI cnt p z) (hN : NP U z G) : ∃ V' G' z', fX7_fireTimers L V c = some V' ∧ fX8_ring G = some G' ∧ Rel1 32 cnt L V' c G' z' ∧ RM1 k cnt V' z' G' ∧ RI cnt p z' ∧ NP U z' G' ∧ z' 0 0 = z 0 0 := by
  have h50 := hM.1.1.1
  exact fire_lp hk _ 0 0 V G z rfl h (TM_of hM) hI hN fu fu (by unfold fu; omega) (by unfold fu; omega)
end FIR
