/-! the controllers -/
section CTL
variable {w0 cnt k i j U B p n w : Nat} {L : Nat → Nat → Nat} {V G V' G' : mM} {c c' : Nat × Nat} {z z' : mZ}
def CS (k cnt U : Nat) (L : Nat → Nat → Nat) (V : mM) (c : Nat × Nat) (G : mM) (z : mZ) : Prop := Rel1 32 cnt L V c G z ∧ RM1 k cnt V z G ∧ RI cnt 32 z ∧ NP U z G
/-- a worker comes -/
def adV (V : mM) (z : mZ) (i : Nat) : mM := mu (mu V 16 (4 * i + z 18 i) 3 0) 3 i 14 (nI (z 18 i + 1))
def adG (G : mM) (z : mZ) (i : Nat) : mM := mu (mu (mu (mu (mu (mu G 41 0 (4 * i + z 18 i) 0) 42 0 (4 * i + z 18 i) 0) 31 0 (4 * i + z 18 i) 0) 33 0 (4 * i + z 18 i) 0) 34 0 (4 * i + z 18 i) 0) 18 0 i (nI (z 18 i + 1))
def adz (z : mZ) (i : Nat) : mZ := su (su (su (su (su (su z 41 (4 * i + z 18 i) 0) 42 (4 * i + z 18 i) 0) 31 (4 * i + z 18 i) 0) 33 (4 * i + z 18 i) 0) 34 (4 * i + z 18 i) 0) 18 i (z 18 i + 1)
theorem adz_k {f : Nat} (h : f ≠ 41 ∧ f ≠ 42 ∧ f ≠ 31 ∧ f ≠ 33 ∧ f ≠ 34 ∧ f ≠ 18) : adz z i f = z f := by
  unfold adz
  rw [su_k h.2.2.2.2.2, su_k h.2.2.2.2.1, su_k h.2.2.2.1, su_k h.2.2.1, su_k h.2.1, su_k h.1]
theorem adG_k {f : Nat} (h : f ≠ 41 ∧ f ≠ 42 ∧ f ≠ 31 ∧ f ≠ 33 ∧ f ≠ 34 ∧ f ≠ 18) : adG G z i f = G f := by
  unfold adG
  rw [mu_k h.2.2.2.2.2, mu_k h.2.2.2.2.1, mu_k h.2.2.2.1, mu_k h.2.2.1, mu_k h.2.1, mu_k h.1]
theorem adV_k {f : Nat} (h : f ≠ 3 ∧ f ≠ 16) : adV V z i f = V f := by
  unfold adV
  rw [mu_k h.1, mu_k h.2]
theorem adz_w {f s : Nat} (h : f = 41 ∨ f = 42 ∨ f = 31 ∨ f = 33 ∨ f = 34) : adz z i f s = if s = 4 * i + z 18 i then 0 else z f s := by
  unfold adz
  rcases h with rfl | rfl | rfl | rfl | rfl
  · rw [su_k (by decide), su_k (by decide), su_k (by decide), su_k (by decide), su_k (by decide), su_app]
  · rw [su_k (by decide), su_k (by decide), su_k (by decide), su_k (by decide), su_app, su_k (by decide)]
  · rw [su_k (by decide), su_k (by decide), su_k (by decide), su_app, su_k (by decide), su_k (by decide)]
  · rw [su_k (by decide), su_k (by decide), su_app, su_k (by decide), su_k (by decide), su_k (by decide)]
  · rw [su_k (by decide), su_app, su_k (by decide), su_k (by decide), su_k (by decide), su_k (by decide)]
theorem adz_18 {s : Nat} : adz z i 18 s = if s = i then z 18 i + 1 else z 18 s := by
  unfold adz
  rw [su_app, su_k (by decide), su_k (by decide), su_k (by decide), su_k (by decide), su_k (by decide)]
theorem adV_3 {s t : Nat} : adV V z i 3 s t = if s = i ∧ t = 14 then nI (z 18 i + 1) else V 3 s t := by
  unfold adV
  rw [mu_app, mu_k (by decide)]
theorem adV_16 {s t : Nat} : adV V z i 16 s t = if s = 4 * i + z 18 i ∧ t = 3 then 0 else V 16 s t := by
  unfold adV
  rw [mu_k (by decide), mu_app]
theorem rel1_add (h : Rel1 32 cnt L V c G z) (hi : i < cnt) (hc : z 18 i < z 19 i) : Rel1 32 cnt L (adV V z i) c (adG G z i) (adz z i) := by
  have h88 := h.2.1.1.2.2
  obtain ⟨h1, h2, h3, h4, h5, h6, h7, h8, h9, h10, h11, h12, h13, h15, h17, h18, h20⟩ := h
  have hR := h7 i hi
  have h19 := hR.1.2.2.2.2.1
  have hnew := h13 i (z 18 i) hi (Nat.le_refl _) hc
  have hne : ∀ i' j', i' < cnt → j' < z 18 i' → 4 * i' + j' ≠ 4 * i + z 18 i := fun i' j' hi' hj' => by
    have q := RR_w h7 hi' hj'
    intro e
    have : i' = i := by omega
    subst this
    omega
  have hold : ∀ i' j', i' < cnt → j' < adz z i 18 i' → (j' < z 18 i' ∧ 4 * i' + j' ≠ 4 * i + z 18 i) ∨ (i' = i ∧ j' = z 18 i) := fun i' j' hi' hj' => by
    rw [adz_18] at hj'
    by_cases e : i' = i
    · subst e
      rw [if_pos rfl] at hj'
      by_cases e2 : j' = z 18 i'
      · exact Or.inr ⟨rfl, e2⟩
      · exact Or.inl ⟨by omega, by omega⟩
    · rw [if_neg e] at hj'
      exact Or.inl ⟨hj', hne i' j' hi' hj'⟩
  refine ⟨rG_mu (rG_mu (rG_mu (rG_mu (rG_mu (rG_mu h1 _ _ _ rfl) _ _ _ rfl) _ _ _ rfl) _ _ _ rfl) _ _ _ rfl) _ _ _ rfl, ?_, ?_, ?_, ?_, ?_, ?_, ?_, ?_, ?_, ?_, ?_, ?_, ?_, ?_, ?_, h20⟩
  · unfold RA1; rw [adV_k (by decide), adV_k (by decide), adV_k (by decide), adz_k (by decide)]; exact h2
  · intro i' t hi' ht
    rw [adV_3]
    have r := h3 i' t hi' ht
    by_cases e : t = 14
    · subst e
      have e18 : sf 14 = 18 := rfl
      rw [e18] at r ⊢
      rw [adz_18]
      by_cases e2 : i' = i
      · rw [if_pos ⟨e2, rfl⟩, if_pos e2]
      · rw [if_neg (fun q => e2 q.1), if_neg e2]; exact r
    · have := sf_ge t
      have e18 : sf t ≠ 18 := fun q => e (sf_inj ht (show isn 14 = true from rfl) q)
      rw [if_neg (fun q => e q.2), adz_k (by omega)]
      exact r
  · intro i' t hi' ht
    have := so_ge t
    have e14 : t ≠ 14 := by rintro rfl; cases ht
    have e18 : so t ≠ 18 := so_ne (by decide) t ht
    rw [adV_3, if_neg (fun q => e14 q.2), adG_k (by omega)]
    exact h4 i' t hi' ht
  · unfold RQs; rw [adV_k (by decide), adz_k (by decide)]; exact h5
  · unfold RTs; rw [adV_k (by decide), adz_k (by decide)]; exact h6
  · intro i' hi'
    have r := h7 i' hi'
    unfold rrb at r ⊢
    rw [adz_18, adz_k (by decide), adz_k (by decide), adz_k (by decide), adz_k (by decide), adz_k (by decide), adz_k (by decide), adz_k (by decide), adz_k (by decide), adz_k (by decide), adz_k (by decide), adz_k (by decide), adz_k (by decide), adz_k (by decide), adG_k (by decide), adG_k (by decide)]
    by_cases e : i' = i
    · subst e
      rw [if_pos rfl]
      exact ⟨r.1, r.2.1, ⟨by omega, by omega, r.2.2.1.2.2⟩, r.2.2.2⟩
    · rw [if_neg e]; exact r
  · refine ⟨fun i' hi' => ?_, fun w' hw' => ?_⟩
    · rw [adz_k (by decide), adz_k (by decide), adz_k (by decide), adz_k (by decide), adz_k (by decide), adG_k (by decide), adG_k (by decide), adG_k (by decide)]; exact h8.1 i' hi'
    · have e : w' ≠ 4 * i + z 18 i := by omega
      rw [adz_w (by simp), adz_w (by simp), adz_w (by simp), adz_w (by simp), adz_w (by simp), if_neg e, if_neg e, if_neg e, if_neg e, if_neg e]
      exact h8.2 w' hw'
  · unfold RQ row; rw [adV_k (by decide), adV_k (by decide), adV_k (by decide), adz_k (by decide), adz_k (by decide), adz_k (by decide), adz_k (by decide), adG_k (by decide)]; exact h9
  · intro i' j' hi' hj'
    rw [adV_k (by decide), adV_16, adV_16, adV_16, adz_w (by simp), adz_w (by simp), adz_w (by simp), adz_w (by simp)]
    rcases hold i' j' hi' hj' with ⟨q1, q2⟩ | ⟨rfl, rfl⟩
    · rw [if_neg q2, if_neg q2, if_neg q2, if_neg q2, if_neg (fun q => q2 q.1), if_neg (fun q => q2 q.1), if_neg (fun q => q2 q.1)]
      exact h10 i' j' hi' q1
    · rw [if_pos rfl, if_pos rfl, if_pos rfl, if_pos rfl, if_neg (by simp), if_pos ⟨rfl, rfl⟩, if_neg (by simp)]
      exact ⟨⟨hnew.1.1, hnew.1.2.1, rfl, hnew.1.2.2.1⟩, by omega, by omega, by omega, fun _ => ⟨rfl, rfl⟩⟩
  · intro i' j' hi' hj'
    rw [adz_w (by simp)]
    rcases hold i' j' hi' hj' with ⟨q1, q2⟩ | ⟨rfl, rfl⟩
    · rw [if_neg q2]
      have r := h11 i' j' hi' q1
      unfold row at r ⊢
      rw [adV_k (by decide), adV_k (by decide), adV_k (by decide), adz_k (by decide), adz_k (by decide), adz_k (by decide), adG_k (by decide)]
      exact r
    · rw [if_pos rfl]
      exact fun t ht => absurd ht (by omega)
  · intro i' j' hi' hj' hw
    rcases hold i' j' hi' hj' with ⟨q1, q2⟩ | ⟨rfl, rfl⟩
    · have r := h12 i' j' hi' q1 hw
      unfold gf at r ⊢
      rw [adV_k (by decide), adV_k (by decide), adV_k (by decide), adV_k (by decide), adz_w (by simp), if_neg q2, adz_k (by decide), adz_k (by decide), adz_k (by decide), adz_k (by decide), adz_k (by decide), adz_k (by decide), adG_k (by decide), adG_k (by decide), adG_k (by decide)]
      exact r
    · refine ⟨fun _ => ?_, fun h34 => ?_⟩
      · rw [adV_k (by decide)]
        exact hnew.1.2.2.2
      · rw [adz_w (by simp), if_pos rfl] at h34
        cases h34
  · intro i' j' hi' hj' hj2
    rw [adz_k (by decide)] at hj2
    have hj3 : z 18 i' ≤ j' ∧ 4 * i' + j' ≠ 4 * i + z 18 i := by
      have r := (h7 i' hi').1.2.2.2.2.1
      rw [adz_18] at hj'
      by_cases e : i' = i
      · subst e
        rw [if_pos rfl] at hj'
        omega
      · rw [if_neg e] at hj'
        omega
    rw [adV_k (by decide), adV_16, adV_16, adV_k (by decide), if_neg (fun q => hj3.2 q.1), if_neg (fun q => hj3.2 q.1), adz_w (by simp), adz_w (by simp), if_neg hj3.2, if_neg hj3.2]
    exact h13 i' j' hi' hj3.1 hj2
  · unfold RT; rw [adV_k (by decide), adz_k (by decide), adz_k (by decide)]; exact h15
  · unfold RD; rw [adV_k (by decide), adV_k (by decide), adz_k (by decide), adz_k (by decide), adG_k (by decide)]; exact h17
  · unfold RE; rw [adz_k (by decide), adz_k (by decide)]; exact h18
/-- a worker goes -/
theorem rel1_rem (h : Rel1 32 cnt L V c G z) (hi : i < cnt) (hc : 1 < z 18 i) (h31 : z 31 (4 * i + (z 18 i - 1)) = 0) : Rel1 32 cnt L (mu V 3 i 14 (nI (z 18 i - 1))) c (mu G 18 0 i (nI (z 18 i - 1))) (su z 18 i (z 18 i - 1)) := by
  have h88 := h.2.1.1.2.2
  obtain ⟨h1, h2, h3, h4, h5, h6, h7, h8, h9, h10, h11, h12, h13, h15, h17, h18, h20⟩ := h
  have hR := h7 i hi
  have hsub : ∀ i' j', j' < su z 18 i (z 18 i - 1) 18 i' → j' < z 18 i' := fun i' j' hj' => by
    rw [su_app] at hj'
    by_cases e : i' = i
    · subst e; rw [if_pos rfl] at hj'; omega
    · rw [if_neg e] at hj'; exact hj'
  refine ⟨rG_mu h1 _ _ _ rfl, ?_, RBn_mu h3 (t := 14) rfl, RBo_mu h4 rfl (so_ne (by decide)), ?_, ?_, ?_, ?_, ?_, ?_, ?_, ?_, ?_, ?_, ?_, ?_, h20⟩
  · simpa [RA1, mu_k, su_k] using h2
  · simpa [RQs, mu_k, su_k] using h5
  · simpa [RTs, mu_k, su_k] using h6
  · refine RR_upd h7 ?_
    unfold rrb at hR ⊢
    simp only [su_s, su_k, mu_k, ne_eq, Nat.reduceEqDiff, not_false_eq_true]
    exact ⟨hR.1, hR.2.1, ⟨by omega, by omega, hR.2.2.1.2.2⟩, hR.2.2.2⟩
  · simpa [RZ, mu_k, su_k] using h8
  · simpa [RQ, row, mu_k, su_k] using h9
  · intro i' j' hi' hj'
    have r := h10 i' j' hi' (hsub i' j' hj')
    simpa [mu_k, su_k] using r
  · intro i' j' hi' hj'
    have r := h11 i' j' hi' (hsub i' j' hj')
    simpa [row, mu_k, su_k] using r
  · intro i' j' hi' hj' hw
    have r := h12 i' j' hi' (hsub i' j' hj') hw
    simpa [gf, mu_k, su_k] using r
  · intro i' j' hi' hj' hj2
    rw [su_k (by decide)] at hj2
    have key : (V 11 (4 * i' + j') 3 = 0 ∧ V 16 (4 * i' + j') 2 = 0 ∧ V 16 (4 * i' + j') 4 = 0 ∧ V 17 (4 * i' + j') 3 = 0 ∧ V 17 (4 * i' + j') 4 = 0 ∧ V 17 (4 * i' + j') 5 = -1) ∧ z 31 (4 * i' + j') = 0 ∧ z 34 (4 * i' + j') = 0 := by
      rw [su_app] at hj'
      by_cases e : i' = i
      · subst e
        rw [if_pos rfl] at hj'
        by_cases e2 : j' = z 18 i' - 1
        · subst e2
          have r := h10 i' (z 18 i' - 1) hi' (by omega)
          have h19 := (h7 i' hi').1.2.2.2.2.1
          have rg := h12 i' (z 18 i' - 1) hi' (by omega) (by omega)
          have r8 := r.2.2.2.2 h31
          refine ⟨⟨?_, ?_, ?_, rg.1 r8.2⟩, h31, r8.2⟩
          · rw [r.1.1, h31]; rfl
          · rw [r.1.2.1, r8.1]; rfl
          · rw [r.1.2.2.2, r8.2]; rfl
        · exact h13 i' j' hi' (by omega) hj2
      · rw [if_neg e] at hj'
        exact h13 i' j' hi' hj' hj2
    simpa [mu_k, su_k] using key
  · simpa [RT, mu_k, su_k] using h15
  · simpa [RD, mu_k, su_k] using h17
  · simpa [RE, mu_k, su_k] using h18
/-- frame of a controller's step: the clock, other stages' workers -/
def cf (z z' : mZ) (i : Nat) : Prop := z' 0 0 = z 0 0 ∧ (∀ i', i' ≠ i → z' 18 i' = z 18 i') ∧ ∀ s, s < 4 * i ∨ 4 * i + 4 ≤ s → z' 42 s = z 42 s
theorem cf_refl : cf z z i := ⟨rfl, fun _ _ => rfl, fun _ _ => rfl⟩
theorem cf_trans {z'' : mZ} (h : cf z z' i) (q : cf z' z'' i) : cf z z'' i := ⟨q.1.trans h.1, fun i' hi' => (q.2.1 i' hi').trans (h.2.1 i' hi'), fun s hs => (q.2.2 s hs).trans (h.2.2 s hs)⟩
theorem ctlW (h : CS k cnt U L V c G z) (hi : i < cnt) (h10 : z 0 0 % 10 = 0) (hth : ∀ j, j < z 18 i → 1 ≤ z 42 (4 * i + j)) : ∃ V' G' z', fX3_controlWorkers L i V c = some V' ∧ fX8_control (nI i) G = jnX8_control_158 (nI i) G' ∧ CS k cnt U L V' c G' z' ∧ cf z z' i := by
  obtain ⟨h, hM, hI, hN⟩ := h
  have h400 := hN.1
  have h8 := h.2.1.1.2.2
  have hR := h.2.2.2.2.2.2.1 i hi
  have hb8 : bin (nI i) 8 = true := bin_t (by omega) (by omega)
  have v1 : V 3 i 1 = nI (z 12 i) := h.2.2.1 i 1 hi rfl
  have v14 : V 3 i 14 = nI (z 18 i) := h.2.2.1 i 14 hi rfl
  have v11 : V 11 (32 + i) 3 = nI (z 26 i) := h.2.2.2.2.1 i hi
  have r12 := hR.1.2.2.1
  have r19 := hR.1.2.2.2.2.1
  have r18 := hR.2.2.1.1
  have r189 := hR.2.2.1.2.1
  have r26 := hR.2.1.1
  have hL : L 15 i = z 19 i := hR.2.2.2.1.1
  have ed : nI (z 12 i) / 2 = nI (z 12 i / 2) := by
    rw [show (2 : Int32) = nI 2 from rfl, nI_div (by omega) (by omega)]
  have el : (4 : Int32) * nI i + nI (z 18 i) - 1 = nI (4 * i + (z 18 i - 1)) := by
    rw [show (4 : Int32) = nI 4 from rfl, pk_mul, nI_add, nI_pre (by omega)]
    congr 1
    omega
  -- no worker more
  have hrest : ∃ V' G' z', jnX3_controlWorkers_54 L i V c = some V' ∧ jnX8_control_103 (nI i) (nI (4 * i + (z 18 i - 1))) G = jnX8_control_158 (nI i) G' ∧ CS k cnt U L V' c G' z' ∧ cf z z' i := by
    by_cases h1 : z 18 i ≤ 1
    · refine ⟨V, G, z, ?_, ?_, ⟨h, hM, hI, hN⟩, cf_refl⟩
      · unfold jnX3_controlWorkers_54
        rw [v14, if_pos (by
          show nI (z 18 i) ≤ nI 1
          rw [nI_leE (by omega) (by omega)]; exact h1)]
      · unfold jnX8_control_103
        rw [if_pos hb8, nIc (by omega), h.1 18 i rfl, if_pos (by
          show nI (z 18 i) ≤ nI 1
          rw [nI_leE (by omega) (by omega)]; exact h1)]
    · have hn1 : ¬ nI (z 18 i) ≤ 1 := by
        show ¬ nI (z 18 i) ≤ nI 1
        rw [nI_leE (by omega) (by omega)]; exact h1
      have hj : z 18 i - 1 < z 18 i := by omega
      have hb32 : bin (nI (4 * i + (z 18 i - 1))) 32 = true := bin_t (by omega) (by omega)
      have hbL : bin (nI (z 18 i - 1)) (L 15 i) = true := bin_t (by omega) (by rw [hL]; omega)
      have hW := h.2.2.2.2.2.2.2.2.2.1 i (z 18 i - 1) hi hj
      have h31l := hW.2.1
      have hIw := (hI i (z 18 i - 1) hi hj).1 (by omega)
      have ht1 := hth _ hj
      have hmod := hIw.2.2 (by omega)
      by_cases h31 : z 31 (4 * i + (z 18 i - 1)) = 0
      · by_cases h41 : 10 ≤ z 41 (4 * i + (z 18 i - 1))
        · refine ⟨mu V 3 i 14 (nI (z 18 i - 1)), mu G 18 0 i (nI (z 18 i - 1)), su z 18 i (z 18 i - 1), ?_, ?_, ⟨rel1_rem h hi (by omega) h31, fld_RM hM (by decide), ?_, fld_NP hN (by decide)⟩, ?_⟩
          · unfold jnX3_controlWorkers_54 fX3_isLongIdle
            rw [v14, if_neg hn1, nI_pre (by omega), if_pos hbL, nIc (by omega), hW.1.1, h31, if_pos nI_0, hW.1.2.2.1, if_neg (by
              show ¬ nI (z 41 (4 * i + (z 18 i - 1))) < nI 10
              rw [nI_ltE (by omega) (by omega)]; omega)]
            simp only [Option.bind_some]
            rw [if_neg (by decide)]
          · unfold jnX8_control_103 jnX8_control_148
            rw [if_pos hb8, nIc (by omega), h.1 18 i rfl, if_neg hn1, if_pos hb32, nIc (by omega), h.1 31 _ rfl, h31, if_pos nI_0, if_pos hb32, h.1 41 _ rfl, if_pos (by
              show nI 10 ≤ nI (z 41 (4 * i + (z 18 i - 1)))
              rw [nI_leE (by omega) (by omega)]; exact h41), if_pos hb8, if_pos hb8, nI_pre (by omega)]
          · intro i' j' hi' hj'
            rw [su_app] at hj'
            rw [su_k (by decide), su_k (by decide), su_k (by decide)]
            refine hI i' j' hi' ?_
            by_cases e : i' = i
            · subst e; rw [if_pos rfl] at hj'; omega
            · rw [if_neg e] at hj'; exact hj'
          · refine ⟨?_, fun i' hi' => su_i hi', fun s _ => ?_⟩
            · rw [su_k (by decide)]
            · rw [su_k (by decide)]
        · refine ⟨V, G, z, ?_, ?_, ⟨h, hM, hI, hN⟩, cf_refl⟩
          · unfold jnX3_controlWorkers_54 fX3_isLongIdle
            rw [v14, if_neg hn1, nI_pre (by omega), if_pos hbL, nIc (by omega), hW.1.1, h31, if_pos nI_0, hW.1.2.2.1, if_pos (by
              show nI (z 41 (4 * i + (z 18 i - 1))) < nI 10
              rw [nI_ltE (by omega) (by omega)]; omega)]
            simp only [Option.bind_some, if_true]
          · unfold jnX8_control_103
            rw [if_pos hb8, nIc (by omega), h.1 18 i rfl, if_neg hn1, if_pos hb32, nIc (by omega), h.1 31 _ rfl, h31, if_pos nI_0, if_pos hb32, h.1 41 _ rfl, if_neg (by
              show ¬ nI 10 ≤ nI (z 41 (4 * i + (z 18 i - 1)))
              rw [nI_leE (by omega) (by omega)]; exact h41), if_pos hb32, if_pos hb32, h.1 42 _ rfl, if_pos (by
              rw [nI_ltE (by have := hN.1; omega) (by have := hN.1; omega)]
              omega)]
      · have hn31 : ¬ nI (z 31 (4 * i + (z 18 i - 1))) = 0 := by rw [nI_z (by omega)]; exact h31
        refine ⟨V, G, z, ?_, ?_, ⟨h, hM, hI, hN⟩, cf_refl⟩
        · unfold jnX3_controlWorkers_54 fX3_isLongIdle
          rw [v14, if_neg hn1, nI_pre (by omega), if_pos hbL, nIc (by omega), hW.1.1, if_neg hn31]
          simp only [Option.bind_some, if_true]
        · unfold jnX8_control_103
          rw [if_pos hb8, nIc (by omega), h.1 18 i rfl, if_neg hn1, if_pos hb32, nIc (by omega), h.1 31 _ rfl, if_neg hn31]
  obtain ⟨V', G', z', a1, a2, a3, a4⟩ := hrest
  by_cases hq : z 26 i ≤ z 12 i / 2
  · have hc : nI (z 26 i) ≤ nI (z 12 i / 2) := by rw [nI_leE (by omega) (by omega)]; exact hq
    refine ⟨V', G', z', ?_, ?_, a3, a4⟩
    · unfold fX3_controlWorkers
      rw [v11, v1, ed, if_pos hc]
      exact a1
    · unfold fX8_control
      rw [if_pos hb8, if_pos hb8, if_pos hb8, nIc (by omega), h.1 26 i rfl, h.1 12 i rfl, ed, if_pos hc, h.1 18 i rfl, el]
      exact a2
  · have hc : ¬ nI (z 26 i) ≤ nI (z 12 i / 2) := by rw [nI_leE (by omega) (by omega)]; exact hq
    by_cases hf : z 19 i ≤ z 18 i
    · have hc2 : nI (z 19 i) ≤ nI (z 18 i) := by rw [nI_leE (by omega) (by omega)]; exact hf
      refine ⟨V', G', z', ?_, ?_, a3, a4⟩
      · unfold fX3_controlWorkers
        rw [v11, v1, ed, if_neg hc, hL, v14]
        have hc2' : Int32.ofNat (z 19 i) ≤ nI (z 18 i) := hc2
        rw [if_pos hc2']
        exact a1
      · unfold fX8_control
        rw [if_pos hb8, if_pos hb8, if_pos hb8, nIc (by omega), h.1 26 i rfl, h.1 12 i rfl, ed, if_neg hc, if_pos hb8, if_pos hb8, h.1 19 i rfl, h.1 18 i rfl, if_pos hc2, el]
        exact a2
    · have hc2 : ¬ nI (z 19 i) ≤ nI (z 18 i) := by rw [nI_leE (by omega) (by omega)]; exact hf
      have hbL : bin (nI (z 18 i)) (L 15 i) = true := bin_t (by omega) (by rw [hL]; omega)
      have el1 : nI (4 * i + (z 18 i - 1)) + 1 = nI (4 * i + z 18 i) := by
        have : nI (4 * i + (z 18 i - 1)) + 1 = nI (4 * i + (z 18 i - 1) + 1) := nI_1 _
        rw [this]
        congr 1
        omega
      have hb32 : bin (nI (4 * i + z 18 i)) 32 = true := bin_t (by omega) (by omega)
      have e18 : nI (z 18 i) + 1 = nI (z 18 i + 1) := nI_1 _
      have hnew := h.2.2.2.2.2.2.2.2.2.2.2.2.1 i (z 18 i) hi (Nat.le_refl _) (by omega)
      refine ⟨adV V z i, adG G z i, adz z i, ?_, ?_, ⟨rel1_add h hi (by omega), ?_, ?_, ?_⟩, ?_⟩
      · unfold fX3_controlWorkers
        have hc2' : ¬ Int32.ofNat (z 19 i) ≤ nI (z 18 i) := hc2
        have hbL' := hbL
        rw [hL] at hbL'
        rw [v11, v1, ed, if_neg hc, hL, v14, if_neg hc2', if_pos hbL', nIc (by omega), mu_k (show (3 : Nat) ≠ 16 by decide), v14, e18]
        rfl
      · unfold fX8_control
        rw [if_pos hb8, if_pos hb8, if_pos hb8, nIc (by omega), h.1 26 i rfl, h.1 12 i rfl, ed, if_neg hc, if_pos hb8, if_pos hb8, h.1 19 i rfl, h.1 18 i rfl, if_neg hc2, el, el1]
        simp only [hb32, hb8, if_true, nIc (show 4 * i + z 18 i < 2 ^ 31 by omega), mu_k (show (18 : Nat) ≠ 41 by decide), mu_k (show (18 : Nat) ≠ 42 by decide), mu_k (show (18 : Nat) ≠ 31 by decide), mu_k (show (18 : Nat) ≠ 33 by decide), mu_k (show (18 : Nat) ≠ 34 by decide), h.1 18 i rfl, e18]
        rfl
      · unfold RM1 RM
        rw [adV_k (by decide), adV_k (by decide), adV_k (by decide), adV_k (by decide), adV_k (by decide), adz_k (by decide), adz_k (by decide), adz_k (by decide), adz_k (by decide), adG_k (by decide)]
        exact hM
      · intro i' j' hi' hj'
        rw [adz_k (show (0 : Nat) ≠ 41 ∧ _ by decide), adz_w (by simp), adz_w (by simp)]
        by_cases e : 4 * i' + j' = 4 * i + z 18 i
        · rw [if_pos e, if_pos e]
          exact ⟨fun _ => ⟨by omega, by omega, fun _ => by omega⟩, fun hp => absurd hp (by omega)⟩
        · rw [if_neg e, if_neg e]
          refine hI i' j' hi' ?_
          rw [adz_18] at hj'
          by_cases e2 : i' = i
          · subst e2; rw [if_pos rfl] at hj'; omega
          · rw [if_neg e2] at hj'; exact hj'
      · have ep : pend (adz z i) (adG G z i) = pend z G := by
          funext w'
          unfold pend
          rw [adz_w (by simp), adz_k (by decide), adG_k (by decide)]
          by_cases e : w' = 4 * i + z 18 i
          · subst e
            rw [if_pos rfl, if_neg (fun q => absurd q.1.1 (by decide)), if_neg (fun q => absurd q.1.1 (by rw [hnew.2.2]; decide))]
          · rw [if_neg e]
        unfold NP RS at hN ⊢
        rw [ep, adz_k (by decide), adz_k (by decide)]
        exact hN
      · refine ⟨?_, fun i' hi' => ?_, fun s hs => ?_⟩
        · rw [adz_k (by decide)]
        · rw [adz_18, if_neg hi']
        · rw [adz_w (by simp), if_neg (by omega)]
theorem cf_fld {f y : Nat} (hf : f ≠ 0 ∧ f ≠ 18 ∧ f ≠ 42) : cf z (su z f i y) i := by
  refine ⟨?_, fun i' _ => ?_, fun s _ => ?_⟩
  · rw [su_k (by omega)]
  · rw [su_k (by omega)]
  · rw [su_k (by omega)]
theorem CS_20 {y : Nat} (h : CS k cnt U L V c G z) (hi : i < cnt) (hy : 1 ≤ y ∧ y ≤ 8) : CS k cnt U L (mu V 3 i 15 (nI y)) c (mu G 20 0 i (nI y)) (su z 20 i y) := by
  obtain ⟨h, hM, hI, hN⟩ := h
  refine ⟨rel1_fld (t := 15) h hi (by simp) ?_, fld_RM hM (by decide), fld_RI hI (by decide), fld_NP hN (by decide)⟩
  have hR := h.2.2.2.2.2.2.1 i hi
  unfold rrb at hR ⊢
  simp only [sf, su_s, su_k, mu_k, ne_eq, Nat.reduceEqDiff, not_false_eq_true]
  exact ⟨hR.1, hR.2.1, ⟨hR.2.2.1.1, hR.2.2.1.2.1, hy.1, hy.2, hR.2.2.1.2.2.2.2⟩, hR.2.2.2⟩
theorem CS_16 {y : Nat} (h : CS k cnt U L V c G z) (hi : i < cnt) (hy : y ≤ 100) : CS k cnt U L (mu V 3 i 10 (nI y)) c (mu G 16 0 i (nI y)) (su z 16 i y) := by
  obtain ⟨h, hM, hI, hN⟩ := h
  refine ⟨rel1_fld (t := 10) h hi (by simp) ?_, fld_RM hM (by decide), fld_RI hI (by decide), fld_NP hN (by decide)⟩
  have hR := h.2.2.2.2.2.2.1 i hi
  unfold rrb at hR ⊢
  simp only [sf, su_s, su_k, mu_k, ne_eq, Nat.reduceEqDiff, not_false_eq_true]
  exact ⟨hR.1, ⟨hR.2.1.1, hR.2.1.2.1, hR.2.1.2.2.1, hR.2.1.2.2.2.1, hy, hR.2.1.2.2.2.2.2⟩, hR.2.2⟩
theorem ctlB (h : CS k cnt U L V c G z) (hi : i < cnt) : ∃ V' G' z', (if (V 3 i 0) = (4 : Int32) then (jnX3_control_16 L i V c) else ((fX3_controlBatch L i V c).bind fun u_6 => jnX3_control_16 L i u_6 c)) = jnX3_control_16 L i V' c ∧ jnX8_control_158 (nI i) G = jnX8_control_244 (nI i) G' ∧ CS k cnt U L V' c G' z' ∧ cf z z' i := by
  have hc := h
  obtain ⟨h, hM, hI, hN⟩ := h
  have h8 := h.2.1.1.2.2
  have hR := h.2.2.2.2.2.2.1 i hi
  have hb8 : bin (nI i) 8 = true := bin_t (by omega) (by omega)
  have v0 : V 3 i 0 = nI (z 9 i) := h.2.2.1 i 0 hi rfl
  have v15 : V 3 i 15 = nI (z 20 i) := h.2.2.1 i 15 hi rfl
  have v11 : V 11 (32 + i) 3 = nI (z 26 i) := h.2.2.2.2.1 i hi
  have r9 := hR.1.1
  have r12 := hR.1.2.2.1
  have r26 := hR.2.1.1
  have r20 := hR.2.2.1.2.2
  by_cases h4 : z 9 i = 4
  · refine ⟨V, G, z, ?_, ?_, hc, cf_refl⟩
    · rw [v0, h4, if_pos (by decide)]
    · unfold jnX8_control_158
      rw [if_pos hb8, nIc (by omega), h.1 9 i rfl, h4, if_pos (by decide)]
  · have hn4 : ¬ nI (z 9 i) = (4 : Int32) := by
      show ¬ nI (z 9 i) = nI 4
      rw [nI_eqE (by omega) (by omega)]; exact h4
    by_cases hq : z 26 i ≤ z 20 i
    · have hc1 : nI (z 26 i) ≤ nI (z 20 i) := by rw [nI_leE (by omega) (by omega)]; exact hq
      by_cases h0 : z 26 i = 0
      · obtain ⟨y, hy⟩ : ∃ y, y = if z 20 i ≤ 1 then z 20 i else z 20 i - 1 := ⟨_, rfl⟩
        have hyl : 1 ≤ y ∧ y ≤ 8 := by rw [hy]; split <;> omega
        refine ⟨mu V 3 i 15 (nI y), mu G 20 0 i (nI y), su z 20 i y, ?_, ?_, CS_20 hc hi hyl, cf_fld (by decide)⟩
        · rw [v0, if_neg hn4]
          unfold fX3_controlBatch
          rw [v11, v15, if_pos hc1, h0, if_pos nI_0]
          simp only [Option.bind_some]
          congr 2
          rw [nI_pre (by omega)]
          by_cases q : z 20 i ≤ 1
          · rw [if_pos q] at hy
            rw [if_pos (by
              show nI (z 20 i - 1) < nI 1
              rw [nI_ltE (by omega) (by omega)]; omega), hy, show z 20 i = 1 by omega]
            rfl
          · rw [if_neg q] at hy
            rw [if_neg (by
              show ¬ nI (z 20 i - 1) < nI 1
              rw [nI_ltE (by omega) (by omega)]; omega), hy]
        · unfold jnX8_control_158
          simp only [hb8, if_true, nIc (show i < 2 ^ 31 by omega), h.1 9 i rfl, h.1 26 i rfl, h.1 20 i rfl]
          rw [if_neg hn4, if_pos hc1, h0, if_pos nI_0]
          unfold jnX8_control_242
          simp only [hb8, if_true, nIc (show i < 2 ^ 31 by omega)]
          by_cases q : z 20 i ≤ 1
          · rw [if_pos q] at hy
            have ey : nI (z 20 i) - 0 = nI y := by rw [hy, show z 20 i = 1 by omega]; rfl
            rw [if_pos (by
              show nI (z 20 i) ≤ nI 1
              rw [nI_leE (by omega) (by omega)]; exact q), ey]
          · rw [if_neg q] at hy
            have ey : nI (z 20 i) - 1 = nI y := by rw [hy]; exact nI_pre (by omega)
            rw [if_neg (by
              show ¬ nI (z 20 i) ≤ nI 1
              rw [nI_leE (by omega) (by omega)]; exact q), ey]
      · have hn0 : ¬ nI (z 26 i) = 0 := by rw [nI_z (by omega)]; exact h0
        refine ⟨V, G, z, ?_, ?_, hc, cf_refl⟩
        · rw [v0, if_neg hn4]
          unfold fX3_controlBatch
          rw [v11, v15, if_pos hc1, if_neg hn0]
          rfl
        · unfold jnX8_control_158
          simp only [hb8, if_true, nIc (show i < 2 ^ 31 by omega), h.1 9 i rfl, h.1 26 i rfl, h.1 20 i rfl]
          rw [if_neg hn4, if_pos hc1, if_neg hn0]
    · have hc1 : ¬ nI (z 26 i) ≤ nI (z 20 i) := by rw [nI_leE (by omega) (by omega)]; exact hq
      obtain ⟨y, hy⟩ : ∃ y, y = if 8 ≤ z 20 i then z 20 i else z 20 i + 1 := ⟨_, rfl⟩
      have hyl : 1 ≤ y ∧ y ≤ 8 := by rw [hy]; split <;> omega
      have e1 : nI (z 20 i) + 1 = nI (z 20 i + 1) := nI_1 _
      refine ⟨mu V 3 i 15 (nI y), mu G 20 0 i (nI y), su z 20 i y, ?_, ?_, CS_20 hc hi hyl, cf_fld (by decide)⟩
      · rw [v0, if_neg hn4]
        unfold fX3_controlBatch
        rw [v11, v15, if_neg hc1]
        simp only [Option.bind_some]
        congr 2
        rw [e1]
        by_cases q : 8 ≤ z 20 i
        · rw [if_pos q] at hy
          rw [if_pos (by
            show nI 8 < nI (z 20 i + 1)
            rw [nI_ltE (by omega) (by omega)]; omega), hy, show z 20 i = 8 by omega]
          rfl
        · rw [if_neg q] at hy
          rw [if_neg (by
            show ¬ nI 8 < nI (z 20 i + 1)
            rw [nI_ltE (by omega) (by omega)]; omega), hy]
      · unfold jnX8_control_158
        simp only [hb8, if_true, nIc (show i < 2 ^ 31 by omega), h.1 9 i rfl, h.1 26 i rfl, h.1 20 i rfl]
        rw [if_neg hn4, if_neg hc1]
        unfold jnX8_control_206
        simp only [hb8, if_true, nIc (show i < 2 ^ 31 by omega)]
        by_cases q : 8 ≤ z 20 i
        · rw [if_pos q] at hy
          have ey : nI (z 20 i) + 0 = nI y := by rw [hy, Int32.add_zero]
          rw [if_pos (by
            show nI 8 ≤ nI (z 20 i)
            rw [nI_leE (by omega) (by omega)]; exact q), ey]
        · rw [if_neg q] at hy
          have ey : nI (z 20 i) + 1 = nI y := by rw [hy, e1]
          rw [if_neg (by
            show ¬ nI 8 ≤ nI (z 20 i)
            rw [nI_leE (by omega) (by omega)]; exact q), ey]
theorem ctlR (h : CS k cnt U L V c G z) (hi : i < cnt) : ∃ V' G' z', jnX3_control_16 L i V c = some V' ∧ jnX8_control_244 (nI i) G = some G' ∧ CS k cnt U L V' c G' z' ∧ cf z z' i := by
  have hc := h
  obtain ⟨h, hM, hI, hN⟩ := h
  have h8 := h.2.1.1.2.2
  have hR := h.2.2.2.2.2.2.1 i hi
  have hb8 : bin (nI i) 8 = true := bin_t (by omega) (by omega)
  have v13 : V 3 i 13 = nI (z 17 i) := h.2.2.1 i 13 hi rfl
  have v10 : V 3 i 10 = nI (z 16 i) := h.2.2.1 i 10 hi rfl
  have v21 : V 21 i 2 = nI (z 28 i) := h.2.2.2.2.2.1 i hi
  have r17 := hR.2.1.2.2.2.2.2
  have r16 := hR.2.1.2.2.2.2.1
  have r28 := hR.2.2.1.2.2.2.2
  by_cases h17 : z 17 i = 0
  · refine ⟨V, G, z, ?_, ?_, hc, cf_refl⟩
    · unfold jnX3_control_16
      rw [v13, h17, if_pos (by decide)]
    · unfold jnX8_control_244
      rw [if_pos hb8, nIc (by omega), h.1 17 i rfl, h17, if_pos (by decide)]
  have hn17 : ¬ nI (z 17 i) ≤ 0 := by
    show ¬ nI (z 17 i) ≤ nI 0
    rw [nI_leE (by omega) (by omega)]; omega
  by_cases h28 : z 28 i = 0
  · refine ⟨V, G, z, ?_, ?_, hc, cf_refl⟩
    · unfold jnX3_control_16
      rw [v13, if_neg hn17, v21, h28, if_pos (by decide)]
    · unfold jnX8_control_244
      rw [if_pos hb8, nIc (by omega), h.1 17 i rfl, if_neg hn17, if_pos hb8, h.1 28 i rfl, h28, if_pos (by decide)]
  have hn28 : ¬ nI (z 28 i) ≤ 0 := by
    show ¬ nI (z 28 i) ≤ nI 0
    rw [nI_leE (by omega) (by omega)]; omega
  obtain ⟨r, V1, G1, a1, a2, a3⟩ := resp_ok h hi
  have hc1 : CS k cnt U L V1 c G1 z := ⟨rel1_sr h a3, RM1_sr hM a3, hI, ⟨hN.1, hN.2.1, hN.2.2.1, RS_sr hN.2.2.2 a3⟩⟩
  have w13 : V1 3 i 13 = nI (z 17 i) := by rw [a3.1 3 (by decide)]; exact v13
  have w10 : V1 3 i 10 = nI (z 16 i) := by rw [a3.1 3 (by decide)]; exact v10
  have g17 : G1 17 0 i = nI (z 17 i) := hc1.1.1 17 i rfl
  have g16 : G1 16 0 i = nI (z 16 i) := hc1.1.1 16 i rfl
  have e1 : nI (z 16 i) + 1 = nI (z 16 i + 1) := nI_1 _
  have e34 : (3 : Int32) * nI (z 16 i) / 4 = nI (3 * z 16 i / 4) := by
    rw [show (3 : Int32) = nI 3 from rfl, show (4 : Int32) = nI 4 from rfl, pk_mul, nI_div (by omega) (by omega)]
  obtain ⟨y, hy⟩ : ∃ y, y = if r ≤ nI (z 17 i) then (if 100 ≤ z 16 i then z 16 i else z 16 i + 1) else (if 1 ≤ 3 * z 16 i / 4 then 3 * z 16 i / 4 else 1) := ⟨_, rfl⟩
  have hyl : y ≤ 100 := by
    rw [hy]
    split
    · split <;> omega
    · split <;> omega
  refine ⟨mu V1 3 i 10 (nI y), mu G1 16 0 i (nI y), su z 16 i y, ?_, ?_, CS_16 hc1 hi hyl, cf_fld (by decide)⟩
  · unfold jnX3_control_16 fX3_controlRate
    rw [v13, if_neg hn17, v21, if_neg hn28, a1]
    simp only [Option.bind_some]
    rw [w13, w10, e34, e1]
    by_cases hr : r ≤ nI (z 17 i)
    · rw [if_pos hr] at hy
      rw [if_pos hr]
      simp only [Option.bind_some]
      congr 2
      by_cases q : 100 ≤ z 16 i
      · rw [if_pos q] at hy
        rw [if_pos (by
          show nI 100 < nI (z 16 i + 1)
          rw [nI_ltE (by omega) (by omega)]; omega), hy, show z 16 i = 100 by omega]
        rfl
      · rw [if_neg q] at hy
        rw [if_neg (by
          show ¬ nI 100 < nI (z 16 i + 1)
          rw [nI_ltE (by omega) (by omega)]; omega), hy]
    · rw [if_neg hr] at hy
      rw [if_neg hr]
      simp only [Option.bind_some]
      congr 2
      by_cases q : 1 ≤ 3 * z 16 i / 4
      · rw [if_pos q] at hy
        rw [if_neg (by
          show ¬ nI (3 * z 16 i / 4) < nI 1
          rw [nI_ltE (by omega) (by omega)]; omega), hy]
      · rw [if_neg q] at hy
        rw [if_pos (by
          show nI (3 * z 16 i / 4) < nI 1
          rw [nI_ltE (by omega) (by omega)]; omega), hy]
        rfl
  · unfold jnX8_control_244
    simp only [hb8, if_true, nIc (show i < 2 ^ 31 by omega), h.1 17 i rfl, h.1 28 i rfl]
    rw [if_neg hn17, if_neg hn28, a2]
    simp only [Option.bind_some, g17, g16, e34]
    by_cases hr : r ≤ nI (z 17 i)
    · rw [if_pos hr] at hy
      rw [if_pos hr]
      by_cases q : 100 ≤ z 16 i
      · rw [if_pos q] at hy
        rw [if_pos (by
          show nI 100 ≤ nI (z 16 i)
          rw [nI_leE (by omega) (by omega)]; exact q), Int32.add_zero, hy]
      · rw [if_neg q] at hy
        rw [if_neg (by
          show ¬ nI 100 ≤ nI (z 16 i)
          rw [nI_leE (by omega) (by omega)]; exact q), e1, hy]
    · rw [if_neg hr] at hy
      rw [if_neg hr]
      by_cases q : 1 ≤ 3 * z 16 i / 4
      · rw [if_pos q] at hy
        rw [if_pos (by
          show nI 1 ≤ nI (3 * z 16 i / 4)
          rw [nI_leE (by omega) (by omega)]; exact q), hy]
      · rw [if_neg q] at hy
        rw [if_neg (by
          show ¬ nI 1 ≤ nI (3 * z 16 i / 4)
          rw [nI_leE (by omega) (by omega)]; exact q), hy]
        rfl
theorem control_ok (h : CS k cnt U L V c G z) (hi : i < cnt) (h10 : z 0 0 % 10 = 0) (hth : ∀ j, j < z 18 i → 1 ≤ z 42 (4 * i + j)) : ∃ V' G' z', fX3_control L i V c = some V' ∧ fX8_control (nI i) G = some G' ∧ CS k cnt U L V' c G' z' ∧ cf z z' i := by
  obtain ⟨V1, G1, z1, a1, a2, a3, a4⟩ := ctlW h hi h10 hth
  obtain ⟨V2, G2, z2, b1, b2, b3, b4⟩ := ctlB a3 hi
  obtain ⟨V3, G3, z3, c1, c2, c3, c4⟩ := ctlR b3 hi
  refine ⟨V3, G3, z3, ?_, a2.trans (b2.trans c2), c3, cf_trans a4 (cf_trans b4 c4)⟩
  unfold fX3_control
  rw [a1]
  simp only [Option.bind_some]
  exact b1.trans c1
end CTL
