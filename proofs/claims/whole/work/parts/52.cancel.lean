/-! cancel -/
section CAN
variable {w0 cnt k i U B p n w r : Nat} {L : Nat → Nat → Nat} {V G V' G' : mM} {c : Nat × Nat} {z z' : mZ} {x : Int32}
theorem tmf_refl : tmf V V G G z z := ⟨fun _ _ => rfl, fun _ _ => rfl, fun _ _ => rfl, fun _ _ => rfl⟩
theorem tmf_trans {V'' G'' : mM} {z'' : mZ} (h : tmf V V' G G' z z') (q : tmf V' V'' G' G'' z' z'') : tmf V V'' G G'' z z'' := by
  obtain ⟨a1, a2, a3, a4⟩ := h
  obtain ⟨b1, b2, b3, b4⟩ := q
  exact ⟨fun f hf => (b1 f hf).trans (a1 f hf), fun f hf => (b2 f hf).trans (a2 f hf), fun f hf => (b3 f hf).trans (a3 f hf), fun f hf => (b4 f hf).trans (a4 f hf)⟩
theorem tmf_mv : tmf V (mvV V w r) G G z z := ⟨fun _ hf => mvV_k (by omega), fun _ _ => rfl, fun _ _ => rfl, fun _ _ => rfl⟩
theorem tmf_5 {y : Int32} : tmf V (mu V 5 0 4 y) G G z z := ⟨fun _ hf => mu_k (by omega), fun _ _ => rfl, fun _ _ => rfl, fun _ _ => rfl⟩
theorem TM_rec (h : TM k cnt V z G n w r) (hr : r < n) : V 6 0 r = nI (z 45 w) ∧ V 7 0 r = nI (z 46 w) ∧ V 8 0 r = G 47 0 w ∧ V 9 0 r = nI (z 48 w) ∧ z 46 w < cnt ∧ z 48 w ≤ 1400 ∧ w < z 0 43 := by
  obtain ⟨⟨p1, p2, p3, p4, p5, p6⟩, ⟨p7, p8⟩, p9, p10⟩ := h
  have q := p9 w (by omega)
  rw [if_neg (by omega), show w + (r - w) = r by omega] at q
  obtain ⟨⟨q1, q2, q3, q4⟩, q5, q6, q7⟩ := q
  exact ⟨q1, q2, q3, q4, q5, q6, by omega⟩
theorem can2 : ∀ (d w r : Nat) (V : mM), n - r = d → TM k cnt V z G n w r → w < r → (∀ t, w ≤ t → t < z 0 43 → ¬ nI (z 45 t) = x) → ∀ m : Nat, d < m → ∃ V', lpX4_remove_4 L m x (nI w) (nI r) V c = some (1, V') ∧ RM1 k cnt V' z G ∧ tmf V V' G G z z
  | 0, w, r, V, hd, h, hwr, hx, m, hm => by
    obtain ⟨m, rfl⟩ : ∃ q, m = q + 1 := ⟨m - 1, by omega⟩
    have p1 := h.1
    have hr : r = n := by omega
    subst hr
    refine ⟨mu V 5 0 4 (nI w), ?_, TM_end h, tmf_5⟩
    unfold lpX4_remove_4
    rw [h.2.1.1, if_pos (by rw [nI_leE (by omega) (by omega)]; omega), if_neg (by rw [nI_leE (by omega) (by omega)]; omega)]
  | d + 1, w, r, V, hd, h, hwr, hx, m, hm => by
    obtain ⟨m, rfl⟩ : ∃ q, m = q + 1 := ⟨m - 1, by omega⟩
    have p1 := h.1
    have hr : r < n := by omega
    obtain ⟨q1, q2, q3, q4, q5, q6, q7⟩ := TM_rec h hr
    obtain ⟨V', e1, e2, e3⟩ := can2 d (w + 1) (r + 1) (mvV V w r) (by omega) (TM_mv h hr) (by omega) (fun t h1 h2 => hx t (by omega) h2) m (by omega)
    refine ⟨V', ?_, e2, tmf_trans tmf_mv e3⟩
    unfold lpX4_remove_4
    rw [h.2.1.1, if_neg (by rw [nI_leE (by omega) (by omega)]; omega), if_pos (bin_t (by omega) (by omega)), nIc (by omega), q1, if_neg (hx w (Nat.le_refl _) q7), mv_x (by omega) (by omega)]
    simp only [Option.bind_some]
    unfold jnX4_remove_31
    have a1 : nI w + 1 = nI (w + 1) := nI_1 w
    have a2 : nI r + 1 = nI (r + 1) := nI_1 r
    rw [a1, a2]
    exact e1
theorem can1 (hk : k ≤ 1000) : ∀ (d w : Nat) (V : mM), n - w = d → TM k cnt V z G n w w → rG G z → ∀ m m' : Nat, d < m → d < m' → ∃ (res : Int32) (V' G' : mM) (z' : mZ), lpX4_remove_4 L m x (nI w) (nI w) V c = some (res, V') ∧ ((res = 0 ∧ lpX8_cancel_2 m' x (nI w) G = some (-1, G')) ∨ (res = 1 ∧ lpX8_cancel_2 m' x (nI w) G = some (1, G'))) ∧ RM1 k cnt V' z' G' ∧ tmf V V' G G' z z' ∧ rG G' z'
  | 0, w, V, hd, h, hG, m, m', hm, hm' => by
    obtain ⟨m, rfl⟩ : ∃ q, m = q + 1 := ⟨m - 1, by omega⟩
    obtain ⟨m', rfl⟩ : ∃ q, m' = q + 1 := ⟨m' - 1, by omega⟩
    have p1 := h.1
    have hr : w = n := by omega
    subst hr
    refine ⟨0, mu V 5 0 4 (nI w), G, z, ?_, Or.inl ⟨rfl, ?_⟩, TM_end h, tmf_5, hG⟩
    · unfold lpX4_remove_4
      rw [h.2.1.1, if_pos (by rw [nI_leE (by omega) (by omega)]; omega), if_pos (by rw [nI_leE (by omega) (by omega)]; omega)]
    · unfold lpX8_cancel_2
      rw [hG 0 43 rfl, if_pos (by rw [nI_leE (by omega) (by omega)]; omega)]
  | d + 1, w, V, hd, h, hG, m, m', hm, hm' => by
    obtain ⟨m, rfl⟩ : ∃ q, m = q + 1 := ⟨m - 1, by omega⟩
    obtain ⟨m', rfl⟩ : ∃ q, m' = q + 1 := ⟨m' - 1, by omega⟩
    have p1 := h.1
    have hr : w < n := by omega
    obtain ⟨q1, q2, q3, q4, q5, q6, q7⟩ := TM_rec h hr
    have a1 : nI w + 1 = nI (w + 1) := nI_1 w
    by_cases hx : nI (z 45 w) = x
    · obtain ⟨G', z', f1, f2, f3, f4, f5, f6⟩ := forget_m h hr hG
      obtain ⟨V', e1, e2, e3⟩ := can2 (L := L) (c := c) (x := x) d w (w + 1) V (by omega) f4 (by omega) (fun t h1 h2 => by
        have b1 := f5 t h1 h2
        have b2 := (f4.2.2.1 t h2).2.2.2
        have b3 := f4.1.2.2.2.2.1
        have b4 := (h.2.2.1 w q7).2.2.2
        have b5 := h.1.2.2.2.2.1
        intro e
        rw [← hx, nI_eqE (by omega) (by omega)] at e
        omega) m (by omega)
      refine ⟨1, V', G', z', ?_, Or.inr ⟨rfl, ?_⟩, e2, tmf_trans f3 e3, f2⟩
      · unfold lpX4_remove_4
        rw [h.2.1.1, if_neg (by rw [nI_leE (by omega) (by omega)]; omega), if_pos (bin_t (by omega) (by omega)), nIc (by omega), q1, if_pos hx]
        unfold jnX4_remove_31
        rw [a1]
        exact e1
      · unfold lpX8_cancel_2
        rw [hG 0 43 rfl, if_neg (by rw [nI_leE (by omega) (by omega)]; omega), if_pos (bin_t (by omega) (by omega)), nIc (by omega), hG 45 w rfl, if_pos hx, f1]
        rfl
    · obtain ⟨res, V', G', z', e1, e2, e3, e4, e5⟩ := can1 hk d (w + 1) (mvV V w w) (by omega) (TM_mv h hr) hG m m' (by omega) (by omega)
      refine ⟨res, V', G', z', ?_, ?_, e3, tmf_trans tmf_mv e4, e5⟩
      · unfold lpX4_remove_4
        rw [h.2.1.1, if_neg (by rw [nI_leE (by omega) (by omega)]; omega), if_pos (bin_t (by omega) (by omega)), nIc (by omega), q1, if_neg hx, mv_x (by omega) (by omega)]
        simp only [Option.bind_some]
        unfold jnX4_remove_31
        rw [a1]
        exact e1
      · have e6 : lpX8_cancel_2 (m' + 1) x (nI w) G = lpX8_cancel_2 m' x (nI (w + 1)) G := by
          rw [lpX8_cancel_2]
          rw [hG 0 43 rfl, if_neg (by rw [nI_leE (by omega) (by omega)]; omega), if_pos (bin_t (by omega) (by omega)), nIc (by omega), hG 45 w rfl, if_neg hx, a1]
        rw [e6]
        exact e2
end CAN
theorem sim_cancel_ok : sim_cancel Rel := by
  intro k cnt L V c G a1 hk h
  obtain ⟨z, hz⟩ := id h
  have hG := hz.1
  have h1 := rel1_of (w0 := 32) hz
  have hM := rel0_M hz
  have hI := rel0_I hz
  obtain ⟨n1, n2, n3, n4⟩ := rel0_N hz
  have h50 := hM.1.1.1
  obtain ⟨res, V', G', z', e1, e2, e3, e4, e5⟩ := can1 (L := L) (c := c) (x := a1) (by omega) _ 0 V rfl (TM_of hM) hG fu fu (by unfold fu; omega) (by unfold fu; omega)
  have o0 := e4.2.2.1 0 (by decide)
  have o4 := e4.2.2.1 4 (by decide)
  have hR : Rel (k + 1) cnt L V' c G' := by
    refine ⟨z', rel0_of (rel1_tm h1 e4 e5) (Nat.le_refl _) (RM1_k e3) (RI_tm hI e4) ⟨?_, ?_, ?_, ?_⟩⟩
    · rw [o0]; exact n1
    · rw [o0]; exact n2
    · rw [o0, o4]; exact n3
    · rw [o0]; exact RS_tm n4 e4
  rcases e2 with ⟨rfl, e2⟩ | ⟨rfl, e2⟩
  · refine ⟨-1, V', G', ?_, ?_, hR⟩
    · unfold fX7_cancel fX4_remove
      have e1' : lpX4_remove_4 L fu a1 0 0 V c = some (0, V') := e1
      rw [e1']
      rfl
    · unfold fX8_cancel
      exact e2
  · refine ⟨1, V', G', ?_, ?_, hR⟩
    · unfold fX7_cancel fX4_remove
      have e1' : lpX4_remove_4 L fu a1 0 0 V c = some (1, V') := e1
      rw [e1']
      rfl
    · unfold fX8_cancel
      exact e2
