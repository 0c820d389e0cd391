/-! stage -/
section STG
variable {w0 cnt k i U B p n : Nat} {L : Nat → Nat → Nat} {V G : mM} {c : Nat × Nat} {z : mZ} {s b cap co : Nat} {a1 a2 a4 : Int32}
def nz (z : mZ) (cnt s b cap co : Nat) : mZ := su (su (su (su (su (su (su (su (su (su z 9 cnt s) 12 cnt b) 14 cnt 100) 15 cnt 100) 16 cnt 100) 19 cnt cap) 21 cnt co) 20 cnt 1) 18 cnt 1) 0 7 (cnt + 1)
def nG (G : mM) (cnt s b cap co : Nat) : mM := mu (mu (mu (mu (mu (mu (mu (mu (mu (mu (mu (mu G 9 0 cnt (nI s)) 10 0 cnt (-1)) 11 0 cnt (-1)) 12 0 cnt (nI b)) 14 0 cnt 100) 15 0 cnt 100) 16 0 cnt 100) 19 0 cnt (nI cap)) 21 0 cnt (nI co)) 20 0 cnt 1) 18 0 cnt 1) 0 0 7 (nI (cnt + 1))
theorem nz_ne {f j : Nat} (hf : f ≠ 0) (hj : j ≠ cnt) : nz z cnt s b cap co f j = z f j := by
  unfold nz
  rw [su_k hf, su_ne hj, su_ne hj, su_ne hj, su_ne hj, su_ne hj, su_ne hj, su_ne hj, su_ne hj, su_ne hj]
theorem nz_0 {t : Nat} (ht : t ≠ 7) : nz z cnt s b cap co 0 t = z 0 t := by
  unfold nz
  rw [su_i ht, su_k (by decide), su_k (by decide), su_k (by decide), su_k (by decide), su_k (by decide), su_k (by decide), su_k (by decide), su_k (by decide), su_k (by decide)]
theorem nz_k {f : Nat} (h : f = 4 ∨ f = 6 ∨ f = 13 ∨ f = 17 ∨ 22 ≤ f) : nz z cnt s b cap co f = z f := by
  unfold nz
  rw [su_k (by omega), su_k (by omega), su_k (by omega), su_k (by omega), su_k (by omega), su_k (by omega), su_k (by omega), su_k (by omega), su_k (by omega), su_k (by omega)]
theorem nG_k {f : Nat} (h : f = 3 ∨ 22 ≤ f) : nG G cnt s b cap co f = G f := by
  unfold nG
  rw [mu_k (by omega), mu_k (by omega), mu_k (by omega), mu_k (by omega), mu_k (by omega), mu_k (by omega), mu_k (by omega), mu_k (by omega), mu_k (by omega), mu_k (by omega), mu_k (by omega), mu_k (by omega)]
theorem nG_ne {f j : Nat} (hf : f ≠ 0) (hj : j ≠ cnt) : nG G cnt s b cap co f 0 j = G f 0 j := by
  unfold nG
  rw [mu_k hf, mu_ne hj, mu_ne hj, mu_ne hj, mu_ne hj, mu_ne hj, mu_ne hj, mu_ne hj, mu_ne hj, mu_ne hj, mu_ne hj, mu_ne hj]
theorem nG_rG (h : rG G z) : rG (nG G cnt s b cap co) (nz z cnt s b cap co) :=
  rG_mu (rG_mu (rG_mu (rG_mu (rG_mu (rG_mu (rG_mu (rG_mu (rG_mu (rG_mo (rG_mo (rG_mu h _ _ _ rfl) rfl) rfl) _ _ _ rfl) _ _ _ rfl) _ _ _ rfl) _ _ _ rfl) _ _ _ rfl) _ _ _ rfl) _ _ _ rfl) _ _ _ rfl) _ _ _ rfl
theorem sv_of (hc : V 2 0 3 = nI cnt) (h8 : cnt < 8) : stV V cnt a1 a2 a4 = mu (mu (nV V cnt a1 a2 a4) 4 0 cnt (nI cnt)) 2 0 3 (nI (cnt + 1)) := by
  have e1 : nV V cnt a1 a2 a4 2 0 = V 2 0 := nV_of (by unfold own; simp [isStK, isRwK, isWkK])
  unfold stV
  rw [hc, nIc (by omega), mu_k (show (2 : Nat) ≠ 4 by decide), e1, hc]
  have e2 : nI cnt + 1 = nI (cnt + 1) := nI_1 cnt
  rw [e2]
  rfl
theorem sv_o {f n : Nat} (hc : V 2 0 3 = nI cnt) (h8 : cnt < 8) (hf : f ≠ 2 ∧ f ≠ 4) (ho : own cnt f n = false) : stV V cnt a1 a2 a4 f n = V f n := by
  rw [sv_of hc h8, mu_k hf.1, mu_k hf.2]
  exact nV_of ho
theorem sv_i {f n t : Nat} (hc : V 2 0 3 = nI cnt) (h8 : cnt < 8) (hf : f ≠ 2 ∧ f ≠ 4) (ho : own cnt f n = true) : stV V cnt a1 a2 a4 f n t = ini a1 a2 a4 f t := by
  rw [sv_of hc h8, mu_k hf.1, mu_k hf.2]
  unfold nV
  rw [if_pos ho]
theorem gf_c {w cnt : Nat} (h : gf cnt V z G w) : gf (cnt + 1) V z G w := by
  refine ⟨h.1, fun h34 => ?_⟩
  obtain ⟨q1, q2, q3, q4⟩ := h.2 h34
  refine ⟨q1, q2, fun t h1 h2 => ?_, q4⟩
  obtain ⟨r1, r2, r3⟩ := q3 t h1 h2
  exact ⟨r1, by omega, r3⟩
theorem tg_c {cnt : Nat} {x : Int32} (h : tg cnt x) : tg (cnt + 1) x := by
  rcases h with h | ⟨j, h1, h2⟩
  · exact Or.inl h
  · exact Or.inr ⟨j, by omega, h2⟩
end STG
theorem rel1_stage {w0 cnt : Nat} {L : Nat → Nat → Nat} {V G : mM} {c : Nat × Nat} {z : mZ} {s b cap co : Nat} (h : Rel1 w0 cnt L V c G z) (h8 : cnt < 8) (hs : s ≤ 4) (hb : 1 ≤ b ∧ b ≤ 32) (hcap : 1 ≤ cap ∧ cap ≤ 4) (hco : co ≤ 9) : Rel1 w0 (cnt + 1) (nL L cnt cap b) (stV V cnt (nI s) (nI b) (nI co)) c (nG G cnt s b cap co) (nz z cnt s b cap co) := by
  obtain ⟨h1, h2, h3, h4, h5, h6, h7, h8z, h9, h10, h11, h12, h13, h15, h17, h18, h20⟩ := h
  have hc := h2.1.1
  have z0 := h8z.1 cnt (Nat.le_refl _)
  obtain ⟨u13, u17, u22, u26, u28, g23, g24, g25⟩ := z0
  have oS : ∀ i f, isStK f = true → i < cnt → own cnt f i = false ∨ isWkK f = true := by
    intro i f hf hi
    by_cases e : isWkK f = true
    · exact Or.inr e
    · left
      unfold own
      have e1 : (i == cnt) = false := by simp; omega
      have e2 : (i == 32 + cnt) = false := by simp; omega
      simp only [Bool.not_eq_true] at e
      rw [e1, e2, e]
      simp
  have o3 : ∀ i, i < cnt → own cnt 3 i = false := fun i hi => by
    have e1 : (i == cnt) = false := by simp; omega
    simp [own, isStK, isRwK, isWkK]; omega
  have o21 : ∀ i, i < cnt → own cnt 21 i = false := fun i hi => by
    simp [own, isStK, isRwK, isWkK]; omega
  have o22 : ∀ i, i < cnt → own cnt 22 i = false := fun i hi => by
    simp [own, isStK, isRwK, isWkK]; omega
  have oR : ∀ f i, f = 11 ∨ f = 12 ∨ f = 13 ∨ f = 14 → i < cnt → own cnt f (32 + i) = false := fun f i hf hi => by
    rcases hf with rfl | rfl | rfl | rfl <;> simp [own, isStK, isRwK, isWkK] <;> omega
  have oW : ∀ f w, f = 11 ∨ f = 12 ∨ f = 13 ∨ f = 14 ∨ f = 16 ∨ f = 17 ∨ f = 18 ∨ f = 19 ∨ f = 20 → w < 4 * cnt → own cnt f w = false := fun f w hf hw => by
    rcases hf with rfl | rfl | rfl | rfl | rfl | rfl | rfl | rfl | rfl <;> simp [own, isStK, isRwK, isWkK] <;> omega
  have o0 : ∀ f, f = 0 ∨ f = 1 ∨ f = 10 → ∀ n, own cnt f n = false := fun f hf n => by
    rcases hf with rfl | rfl | rfl <;> simp [own, isStK, isRwK, isWkK]
  have i3 : own cnt 3 cnt = true := by simp [own, isStK]
  have i21 : own cnt 21 cnt = true := by simp [own, isStK]
  have i11 : own cnt 11 (32 + cnt) = true := by simp [own, isRwK]
  have iW : ∀ f j, f = 11 ∨ f = 16 ∨ f = 17 → j < 4 → own cnt f (4 * cnt + j) = true := fun f j hf hj => by
    have e : (4 * cnt + j) / 4 = cnt := by omega
    rcases hf with rfl | rfl | rfl <;> simp [own, isStK, isRwK, isWkK, e]
  have zw : ∀ j, z 31 (4 * cnt + j) = 0 ∧ z 33 (4 * cnt + j) = 0 ∧ z 34 (4 * cnt + j) = 0 ∧ z 41 (4 * cnt + j) = 0 ∧ z 42 (4 * cnt + j) = 0 := fun j => h8z.2 _ (by omega)
  have n18 : nz z cnt s b cap co 18 cnt = 1 := by unfold nz; rw [su_k (by decide), su_s]
  have n18' : ∀ i, i < cnt → nz z cnt s b cap co 18 i = z 18 i := fun i hi => nz_ne (by decide) (by omega)
  have hw4 : ∀ i j, i < cnt → j < z 18 i → 4 * i + j < 4 * cnt := fun i j hi hj => by
    have := RR_w h7 hi hj
    omega
  refine ⟨nG_rG h1, ?_, ?_, ?_, ?_, ?_, ?_, ?_, ?_, ?_, ?_, ?_, ?_, ?_, ?_, ?_, ?_⟩
  · obtain ⟨⟨a1, a2, a3⟩, a4, a5, a6, a7, a8⟩ := h2
    have e2 : nV V cnt (nI s) (nI b) (nI co) 2 0 = V 2 0 := nV_of (by simp [own, isStK, isRwK, isWkK])
    have e4 : nV V cnt (nI s) (nI b) (nI co) 4 0 = V 4 0 := nV_of (by simp [own, isStK, isRwK, isWkK])
    refine ⟨⟨?_, ?_, by omega⟩, ?_, ?_, ?_, ?_, ?_⟩
    · rw [sv_of hc h8, mu_s]
    · unfold nz; rw [su_s]
    · rw [sv_of hc h8, mu_t (by decide), mu_k (by decide), e2, nz_0 (by decide)]; exact a4
    · rw [sv_of hc h8, mu_t (by decide), mu_k (by decide), e2, nz_0 (by decide)]; exact a5
    · rw [sv_of hc h8, mu_t (by decide), mu_k (by decide), e2, nz_0 (by decide)]; exact a6
    · rw [sv_o hc h8 (by decide) (o0 10 (by simp) 0), nz_0 (by decide)]; exact a7
    · intro i hi
      rw [sv_of hc h8, mu_k (by decide), mu_app]
      by_cases e : i = cnt
      · rw [if_pos ⟨rfl, e⟩, e]
      · rw [if_neg (fun q => e q.2), e4]
        exact a8 i (by omega)
  · intro i t hi ht
    by_cases e : i = cnt
    · subst e
      rw [sv_i hc h8 (by decide) i3]
      simp only [isn, List.contains_cons, List.contains_nil, Bool.or_eq_true, beq_iff_eq] at ht
      rcases ht with rfl | rfl | rfl | rfl | rfl | rfl | rfl | rfl | rfl | rfl | rfl | ht
      · simp [ini, sf, nz, su_k, su_s]
      · simp [ini, sf, nz, su_k, su_s]
      · simp [ini, sf, nz, su_k, su_s]
      · simp [ini, sf, nz_k, u22]; rfl
      · simp [ini, sf, nz_k, u13]; rfl
      · simp [ini, sf, nz, su_k, su_s]; rfl
      · simp [ini, sf, nz, su_k, su_s]; rfl
      · simp [ini, sf, nz, su_k, su_s]; rfl
      · simp [ini, sf, nz_k, u17]; rfl
      · simp [ini, sf, nz, su_k, su_s]; rfl
      · simp [ini, sf, nz, su_k, su_s]; rfl
      · cases ht
    · have := sf_ge t
      rw [sv_o hc h8 (by decide) (o3 i (by omega)), nz_ne (by omega) e]
      exact h3 i t (by omega) ht
  · intro i t hi ht
    by_cases e : i = cnt
    · subst e
      rw [sv_i hc h8 (by decide) i3]
      simp only [iso, List.contains_cons, List.contains_nil, Bool.or_eq_true, beq_iff_eq] at ht
      rcases ht with rfl | rfl | rfl | rfl | rfl | ht
      · simp [ini, so, nG, mu_k, mu_s]
      · simp [ini, so, nG, mu_k, mu_s]
      · simp [ini, so, nG_k, g23]
      · simp [ini, so, nG_k, g24]
      · simp [ini, so, nG_k, g25]
      · cases ht
    · have := so_ge t
      rw [sv_o hc h8 (by decide) (o3 i (by omega)), nG_ne (by omega) e]
      exact h4 i t (by omega) ht
  · intro i hi
    rw [nz_k (by omega)]
    by_cases e : i = cnt
    · subst e
      rw [sv_i hc h8 (by decide) i11, u26]
      rfl
    · rw [sv_o hc h8 (by decide) (oR 11 i (by simp) (by omega))]
      exact h5 i (by omega)
  · intro i hi
    rw [nz_k (by omega)]
    by_cases e : i = cnt
    · subst e
      rw [sv_i hc h8 (by decide) i21, u28]
      rfl
    · rw [sv_o hc h8 (by decide) (o21 i (by omega))]
      exact h6 i (by omega)
  · intro i hi
    by_cases e : i = cnt
    · subst e
      refine ⟨?_, ?_, ?_, ?_, ?_, ?_⟩
      · simp [nz, su_k, su_s, u22]; omega
      · simp [nz, su_k, su_s, u26, u13, u17]
      · simp [nz, su_k, su_s, u28]; omega
      · simp [nL, nz, su_k, su_s]
      · left; simp [nG, mu_k, mu_s]
      · left; simp [nG, mu_k, mu_s]
    · have := h7 i (by omega)
      unfold rrb at this ⊢
      have l1 : nL L cnt cap b 15 i = L 15 i := by simp [nL, e]
      have l2 : nL L cnt cap b 11 (32 + i) = L 11 (32 + i) := by
        have e2 : ¬ (32 + i) / 4 = cnt := by omega
        simp [nL, e, e2]
      simp only [nz_ne (show (9 : Nat) ≠ 0 by decide) e, nz_ne (show (12 : Nat) ≠ 0 by decide) e, nz_ne (show (13 : Nat) ≠ 0 by decide) e, nz_ne (show (14 : Nat) ≠ 0 by decide) e, nz_ne (show (15 : Nat) ≠ 0 by decide) e, nz_ne (show (16 : Nat) ≠ 0 by decide) e, nz_ne (show (17 : Nat) ≠ 0 by decide) e, nz_ne (show (18 : Nat) ≠ 0 by decide) e, nz_ne (show (19 : Nat) ≠ 0 by decide) e, nz_ne (show (20 : Nat) ≠ 0 by decide) e, nz_ne (show (21 : Nat) ≠ 0 by decide) e, nz_ne (show (22 : Nat) ≠ 0 by decide) e, nz_ne (show (26 : Nat) ≠ 0 by decide) e, nz_ne (show (28 : Nat) ≠ 0 by decide) e, nG_ne (show (10 : Nat) ≠ 0 by decide) e, nG_ne (show (11 : Nat) ≠ 0 by decide) e, l1, l2]
      exact ⟨this.1, this.2.1, this.2.2.1, this.2.2.2.1, tg_c this.2.2.2.2.1, tg_c this.2.2.2.2.2⟩
  · refine ⟨fun i hi => ?_, fun w hw => ?_⟩
    · have := h8z.1 i (by omega)
      simpa [nz_k, nG_k] using this
    · have := h8z.2 w (by omega)
      simpa [nz_k] using this
  · intro i hi
    by_cases e : i = cnt
    · subst e
      rw [nz_k (by omega), u26]
      exact fun t ht => absurd ht (by omega)
    · have q := h9 i (by omega)
      unfold row at q ⊢
      rw [sv_o hc h8 (by decide) (oR 12 i (by simp) (by omega)), sv_o hc h8 (by decide) (oR 13 i (by simp) (by omega)), sv_o hc h8 (by decide) (oR 14 i (by simp) (by omega))]
      simpa [nz_k, nz_0, nG_k] using q
  · intro i j hi hj
    by_cases e : i = cnt
    · subst e
      rw [n18] at hj
      obtain ⟨q1, q2, q3, q4, q5⟩ := zw j
      rw [sv_i hc h8 (by decide) (iW 11 j (by simp) (by omega)), sv_i hc h8 (by decide) (iW 16 j (by simp) (by omega)), sv_i hc h8 (by decide) (iW 16 j (by simp) (by omega)), sv_i hc h8 (by decide) (iW 16 j (by simp) (by omega)), nz_k (by omega), nz_k (by omega), nz_k (by omega), nz_k (by omega), q1, q2, q3, q4]
      exact ⟨⟨rfl, rfl, rfl, rfl⟩, by omega, by omega, by omega, fun _ => ⟨rfl, rfl⟩⟩
    · have hi' : i < cnt := by omega
      rw [n18' i hi'] at hj
      have hw := hw4 i j hi' hj
      have q := h10 i j hi' hj
      rw [sv_o hc h8 (by decide) (oW 11 _ (by simp) hw), sv_o hc h8 (by decide) (oW 16 _ (by simp) hw)]
      simpa [nz_k] using q
  · intro i j hi hj
    by_cases e : i = cnt
    · subst e
      rw [nz_k (by omega), (zw j).1]
      exact fun t ht => absurd ht (by omega)
    · have hi' : i < cnt := by omega
      rw [n18' i hi'] at hj
      have hw := hw4 i j hi' hj
      have q := h11 i j hi' hj
      unfold row at q ⊢
      rw [sv_o hc h8 (by decide) (oW 12 _ (by simp) hw), sv_o hc h8 (by decide) (oW 13 _ (by simp) hw), sv_o hc h8 (by decide) (oW 14 _ (by simp) hw)]
      simpa [nz_k, nz_0, nG_k] using q
  · intro i j hi hj hw0
    by_cases e : i = cnt
    · subst e
      rw [n18] at hj
      have q3 := (zw j).2.2.1
      refine ⟨fun _ => ?_, fun h34 => ?_⟩
      · rw [sv_i hc h8 (by decide) (iW 17 j (by simp) (by omega)), sv_i hc h8 (by decide) (iW 17 j (by simp) (by omega)), sv_i hc h8 (by decide) (iW 17 j (by simp) (by omega))]
        exact ⟨rfl, rfl, rfl⟩
      · rw [nz_k (by omega), q3] at h34
        cases h34
    · have hi' : i < cnt := by omega
      rw [n18' i hi'] at hj
      have hw := hw4 i j hi' hj
      have q := gf_c (h12 i j hi' hj hw0)
      unfold gf at q ⊢
      rw [sv_o hc h8 (by decide) (oW 17 _ (by simp) hw), sv_o hc h8 (by decide) (oW 18 _ (by simp) hw), sv_o hc h8 (by decide) (oW 19 _ (by simp) hw), sv_o hc h8 (by decide) (oW 20 _ (by simp) hw)]
      simpa [nz_k, nz_0, nG_k] using q
  · intro i j hi hj hj'
    by_cases e : i = cnt
    · subst e
      have n19 : nz z i s b cap co 19 i = cap := by unfold nz; rw [su_k (by decide), su_k (by decide), su_k (by decide), su_k (by decide), su_s]
      rw [n19] at hj'
      obtain ⟨q1, q2, q3, q4, q5⟩ := zw j
      rw [sv_i hc h8 (by decide) (iW 11 j (by simp) (by omega)), sv_i hc h8 (by decide) (iW 16 j (by simp) (by omega)), sv_i hc h8 (by decide) (iW 16 j (by simp) (by omega)), sv_i hc h8 (by decide) (iW 17 j (by simp) (by omega)), sv_i hc h8 (by decide) (iW 17 j (by simp) (by omega)), sv_i hc h8 (by decide) (iW 17 j (by simp) (by omega)), nz_k (by omega), nz_k (by omega), q1, q3]
      exact ⟨⟨rfl, rfl, rfl, rfl, rfl, rfl⟩, rfl, rfl⟩
    · have hi' : i < cnt := by omega
      rw [n18' i hi'] at hj
      rw [nz_ne (by decide) e] at hj'
      have h19 := (h7 i hi').1.2.2.2.2.1
      have hw : 4 * i + j < 4 * cnt := by omega
      have q := h13 i j hi' hj hj'
      rw [sv_o hc h8 (by decide) (oW 11 _ (by simp) hw), sv_o hc h8 (by decide) (oW 16 _ (by simp) hw), sv_o hc h8 (by decide) (oW 17 _ (by simp) hw)]
      simpa [nz_k] using q
  · intro i t hi ht
    rw [nz_k (by omega)] at ht
    by_cases e : i = cnt
    · subst e; omega
    · rw [sv_o hc h8 (by decide) (o22 i (by omega)), nz_k (by omega)]
      exact h15 i t (by omega) ht
  · unfold RD
    rw [sv_o hc h8 (by decide) (o0 0 (by simp) 0), sv_o hc h8 (by decide) (o0 1 (by simp) 0), nz_0 (by decide), nz_0 (by decide), nz_k (by omega), nG_k (by omega)]
    exact h17
  · unfold RE
    rw [nz_0 (by decide), nz_0 (by decide), nz_k (by omega)]
    exact h18
  · intro w hw
    have e1 : ¬ w = 32 + cnt := by omega
    by_cases e : w / 4 = cnt
    · simp [nL, e, e1]
    · have := h20 w (by omega)
      simp [nL, e, e1, this]
theorem sim_stage_ok : sim_stage Rel := by
  intro k cnt L V c G a1 a2 a3 a4 hk h
  obtain ⟨z, hz⟩ := id h
  have hG := hz.1
  have hA := hz.2.1
  have h1 := rel1_of (w0 := 32) hz
  have hM := RM1_k (rel0_M hz)
  have hI := rel0_I hz
  obtain ⟨n1, n2, n3, n4⟩ := rel0_N hz
  have h8 := hA.1.2.2
  by_cases w1 : wi a1 0 4 = 0
  · refine ⟨-1, -1, G, ?_, ?_, Or.inl ⟨by decide, rfl, rel_next h hk⟩⟩
    · unfold fX7_stage
      simp only [f_within, Option.bind_some, if_pos w1]
    · unfold fX8_stage
      simp only [f_in, Option.bind_some, if_pos w1]
  by_cases w2 : wi a2 1 32 = 0
  · refine ⟨-1, -1, G, ?_, ?_, Or.inl ⟨by decide, rfl, rel_next h hk⟩⟩
    · unfold fX7_stage
      simp only [f_within, Option.bind_some, if_neg w1, if_pos w2]
    · unfold fX8_stage
      simp only [f_in, Option.bind_some, if_neg w1, if_pos w2]
  by_cases w3 : wi a3 1 4 = 0
  · refine ⟨-1, -1, G, ?_, ?_, Or.inl ⟨by decide, rfl, rel_next h hk⟩⟩
    · unfold fX7_stage
      simp only [f_within, Option.bind_some, if_neg w1, if_neg w2, if_pos w3]
    · unfold fX8_stage
      simp only [f_in, Option.bind_some, if_neg w1, if_neg w2, if_pos w3]
  by_cases w4 : wi a4 0 9 = 0
  · refine ⟨-1, -1, G, ?_, ?_, Or.inl ⟨by decide, rfl, rel_next h hk⟩⟩
    · unfold fX7_stage
      simp only [f_within, Option.bind_some, if_neg w1, if_neg w2, if_neg w3, if_pos w4]
    · unfold fX8_stage
      simp only [f_in, Option.bind_some, if_neg w1, if_neg w2, if_neg w3, if_pos w4]
  by_cases hc : cnt < 8
  · obtain ⟨s, s1, s2, rfl⟩ := wi_nI (l := 0) (h := 4) (by omega) (by omega) w1
    obtain ⟨b, b1, b2, rfl⟩ := wi_nI (l := 1) (h := 32) (by omega) (by omega) w2
    obtain ⟨cap, c1, c2, rfl⟩ := wi_nI (l := 1) (h := 4) (by omega) (by omega) w3
    obtain ⟨co, d1, d2, rfl⟩ := wi_nI (l := 0) (h := 9) (by omega) (by omega) w4
    have hz7 : G 0 0 7 = nI cnt := by rw [hG 0 7 rfl, hA.1.2.1]
    have hb : bin (nI cnt) 8 = true := bin_t (by omega) hc
    refine ⟨1, nI cnt, nG G cnt s b cap co, ?_, ?_, Or.inr ⟨rfl, ?_, ⟨hc, nI_pos (by omega), ?_, ?_⟩, ?_⟩⟩
    · unfold fX7_stage
      simp only [f_within, Option.bind_some, if_neg w1, if_neg w2, if_neg w3, if_neg w4]
      rw [hA.1.1, if_pos (by
        show nI cnt < nI 8
        rw [nI_ltE (by omega) (by omega)]; exact hc)]
    · have hne : ¬ nI cnt = (8 : Int32) := by
        show ¬ nI cnt = nI 8
        rw [nI_eqE (by omega) (by omega)]; omega
      have e1 : nI cnt + 1 = nI (cnt + 1) := nI_1 cnt
      unfold fX8_stage nG
      simp only [f_in, Option.bind_some, if_neg w1, if_neg w2, if_neg w3, if_neg w4, hz7, if_neg hne, hb, if_true, nIc (show cnt < 2 ^ 31 by omega), mu_k (show (0 : Nat) ≠ 9 by decide), mu_k (show (0 : Nat) ≠ 10 by decide), mu_k (show (0 : Nat) ≠ 11 by decide), mu_k (show (0 : Nat) ≠ 12 by decide), mu_k (show (0 : Nat) ≠ 14 by decide), mu_k (show (0 : Nat) ≠ 15 by decide), mu_k (show (0 : Nat) ≠ 16 by decide), mu_k (show (0 : Nat) ≠ 19 by decide), mu_k (show (0 : Nat) ≠ 21 by decide), mu_k (show (0 : Nat) ≠ 20 by decide), mu_k (show (0 : Nat) ≠ 18 by decide), e1]
    · rw [sv_of hA.1.1 hc, mu_s, nI_pred]
    · rw [nIc (by omega)]; exact b2
    · have : cap = 1 ∨ cap = 2 ∨ cap = 3 ∨ cap = 4 := by omega
      rcases this with rfl | rfl | rfl | rfl
      · exact Or.inl rfl
      · exact Or.inr (Or.inl rfl)
      · exact Or.inr (Or.inr (Or.inl rfl))
      · exact Or.inr (Or.inr (Or.inr rfl))
    · rw [nIc (show cap < 2 ^ 31 by omega), nIc (show b < 2 ^ 31 by omega)]
      have e0 : nz z cnt s b cap co 0 0 = z 0 0 := nz_0 (by decide)
      have e4 : nz z cnt s b cap co 0 4 = z 0 4 := nz_0 (by decide)
      have ep : pend (nz z cnt s b cap co) (nG G cnt s b cap co) = pend z G := by
        funext w
        unfold pend
        rw [nz_k (by omega), nz_k (by omega), nG_k (by omega)]
      refine ⟨nz z cnt s b cap co, rel0_of (rel1_stage h1 hc s2 ⟨b1, b2⟩ ⟨c1, c2⟩ d2) (Nat.le_refl _) ?_ ?_ ⟨by rw [e0]; exact n1, by rw [e0]; exact n2, by rw [e0, e4]; exact n3, ?_⟩⟩
      · obtain ⟨⟨⟨q1, q2, q3⟩, q4, q5⟩, q6, q7⟩ := hM
        have oo : ∀ f n, 5 ≤ f ∧ f ≤ 9 → own cnt f n = false := fun f n hf => by
          have : f = 5 ∨ f = 6 ∨ f = 7 ∨ f = 8 ∨ f = 9 := by omega
          rcases this with rfl | rfl | rfl | rfl | rfl <;> simp [own, isStK, isRwK, isWkK]
        unfold RM1 RM
        rw [sv_o hA.1.1 hc (by decide) (oo 6 0 (by omega)), sv_o hA.1.1 hc (by decide) (oo 7 0 (by omega)), sv_o hA.1.1 hc (by decide) (oo 8 0 (by omega)), sv_o hA.1.1 hc (by decide) (oo 9 0 (by omega)), sv_o hA.1.1 hc (by decide) (oo 5 0 (by omega)), nz_0 (by decide), nz_0 (by decide), nz_0 (by decide), nz_k (by omega), nz_k (by omega), nz_k (by omega), nG_k (by omega)]
        refine ⟨⟨⟨q1, q2, q3⟩, fun t ht => ?_, q5⟩, q6, q7⟩
        obtain ⟨r1, r2, r3⟩ := q4 t ht
        exact ⟨r1, by omega, r3⟩
      · intro i j hi hj
        rw [e0, nz_k (by omega), nz_k (by omega)]
        by_cases e : i = cnt
        · subst e
          have n18 : nz z i s b cap co 18 i = 1 := by unfold nz; rw [su_k (by decide), su_s]
          rw [n18] at hj
          have q := h1.2.2.2.2.2.2.2.1.2 (4 * i + j) (by omega)
          exact ⟨fun _ => ⟨by omega, by omega, fun hj1 => absurd hj1 (by omega)⟩, fun hp => absurd hp (by omega)⟩
        · rw [nz_ne (by decide) e] at hj
          exact hI i j (by omega) hj
      · unfold RS
        rw [ep, e0, nz_0 (by decide), nz_0 (by decide), nz_k (by omega)]
        exact n4
  · have e8 : cnt = 8 := by omega
    subst e8
    refine ⟨-2, -2, G, ?_, ?_, Or.inl ⟨by decide, rfl, rel_next h hk⟩⟩
    · unfold fX7_stage
      simp only [f_within, Option.bind_some, if_neg w1, if_neg w2, if_neg w3, if_neg w4]
      rw [hA.1.1, if_neg (by decide)]
    · unfold fX8_stage
      simp only [f_in, Option.bind_some, if_neg w1, if_neg w2, if_neg w3, if_neg w4]
      rw [hG 0 7 rfl, hA.1.2.1, if_pos (by decide)]
