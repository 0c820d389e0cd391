/-! told; the response time -/
theorem nI_div {a b : Nat} (ha : a < 2 ^ 31) (hb : b < 2 ^ 31) : nI a / nI b = nI (a / b) := by
  have hq : a / b < 2 ^ 31 := Nat.lt_of_le_of_lt (Nat.div_le_self _ _) ha
  apply Int32.toInt_inj.mp
  rw [Int32.toInt_div, nI_toInt ha, nI_toInt hb, nI_toInt hq]
  have e : (a : Int).tdiv (b : Int) = ((a / b : Nat) : Int) := (Int.ofNat_tdiv a b).symm
  rw [e]
  generalize a / b = m at hq ⊢
  apply Int.bmod_eq_of_le <;> omega
theorem nI_mod {a b : Nat} (ha : a < 2 ^ 31) (hb : b < 2 ^ 31) : nI a % nI b = nI (a % b) := by
  have hq : a % b < 2 ^ 31 := Nat.lt_of_le_of_lt (Nat.mod_le _ _) ha
  apply Int32.toInt_inj.mp
  rw [Int32.toInt_mod, nI_toInt ha, nI_toInt hb, nI_toInt hq]
  exact (Int.ofNat_tmod a b).symm
theorem nI_m {d : Nat} : nI (d + 1) + (-1) = nI d := by
  rw [← Int32.sub_eq_add_neg, nI_pred]
section TOL
variable {w0 cnt k i U B p n : Nat} {L : Nat → Nat → Nat} {c : Nat × Nat} {z z' : mZ} {x v : Int32}
/-- only the row for sorting changes -/
def srf (V V' G G' : mM) : Prop := (∀ f, f ≠ 23 → V' f = V f) ∧ (∀ f, f ≠ 30 → G' f = G f)
theorem srf_trans {V V' V'' G G' G'' : mM} (h : srf V V' G G') (q : srf V' V'' G' G'') : srf V V'' G G'' :=
  ⟨fun f hf => (q.1 f hf).trans (h.1 f hf), fun f hf => (q.2 f hf).trans (h.2 f hf)⟩
theorem ins_lp {ro : Nat → Int32 → mM → Nat × Nat → Option (Int32 × mM)} {ro' : Int32 → Int32 → Int32 → mM → Option (Int32 × mM)} {q : Nat} (hq : q < 20) {y1 y2 : Int32} : ∀ (d : Nat) (V G : mM), d ≤ q → V 22 i q = v → (∀ t, t ≤ q → t ≠ d → V 23 i t = G 30 0 t) → ∀ m m' : Nat, d < m → d < m' → ∃ V' G', lpX5_response_21 L ro m i (nI q) (nI d) V c = ro i (nI (q + 1)) V' c ∧ lpX8_response_36 ro' m' y1 y2 (nI q) v (nI d) G = ro' y1 y2 (nI (q + 1)) G' ∧ srf V V' G G' ∧ ∀ t, t ≤ q → V' 23 i t = G' 30 0 t := by
  have hbq : bin (nI q) 20 = true := bin_t (by omega) hq
  have eq1 : nI q + 1 = nI (q + 1) := nI_1 q
  have hend : ∀ (d : Nat) (V G : mM), d ≤ q → V 22 i q = v → (∀ t, t ≤ q → t ≠ d → V 23 i t = G 30 0 t) → ∃ V' G', jnX5_response_62 L ro i (nI q) (nI d) V c = ro i (nI (q + 1)) V' c ∧ jnX8_response_77 ro' y1 y2 (nI q) v (nI d) G = ro' y1 y2 (nI (q + 1)) G' ∧ srf V V' G G' ∧ ∀ t, t ≤ q → V' 23 i t = G' 30 0 t := by
    intro d V G hd hv hI
    have hbd : bin (nI d) 20 = true := bin_t (by omega) (by omega)
    refine ⟨mu V 23 i d v, mu G 30 0 d v, ?_, ?_, ⟨fun f hf => mu_k hf, fun f hf => mu_k hf⟩, ?_⟩
    · unfold jnX5_response_62
      rw [if_pos hbq, if_pos hbd, nIc (by omega), nIc (by omega), hv, eq1]
    · unfold jnX8_response_77
      rw [if_pos hbd, nIc (by omega), eq1]
    · intro t ht
      by_cases e : t = d
      · subst e; rw [mu_s, mu_s]
      · rw [mu_t e, mu_t e]; exact hI t ht e
  intro d
  induction d with
  | zero =>
    intro V G hd hv hI m m' hm hm'
    obtain ⟨m, rfl⟩ : ∃ q, m = q + 1 := ⟨m - 1, by omega⟩
    obtain ⟨m', rfl⟩ : ∃ q, m' = q + 1 := ⟨m' - 1, by omega⟩
    obtain ⟨V', G', e1, e2, e3, e4⟩ := hend 0 V G hd hv hI
    refine ⟨V', G', ?_, ?_, e3, e4⟩
    · rw [lpX5_response_21, if_pos (by decide)]
      exact e1
    · rw [lpX8_response_36, if_pos (by decide)]
      exact e2
  | succ d ih =>
    intro V G hd hv hI m m' hm hm'
    obtain ⟨m, rfl⟩ : ∃ q, m = q + 1 := ⟨m - 1, by omega⟩
    obtain ⟨m', rfl⟩ : ∃ q, m' = q + 1 := ⟨m' - 1, by omega⟩
    have hbd : bin (nI d) 20 = true := bin_t (by omega) (by omega)
    have hbd1 : bin (nI (d + 1)) 20 = true := bin_t (by omega) (by omega)
    have hpos : ¬ nI (d + 1) ≤ 0 := by rw [← nI_0, nI_leE (by omega) (by omega)]; omega
    have hd23 := hI d (by omega) (by omega)
    by_cases hc : V 23 i d ≤ v
    · obtain ⟨V', G', e1, e2, e3, e4⟩ := hend (d + 1) V G hd hv hI
      refine ⟨V', G', ?_, ?_, e3, e4⟩
      · rw [lpX5_response_21, if_neg hpos, nI_pred, if_pos hbd, if_pos hbq, nIc (by omega), nIc (by omega), hv, if_pos hc]
        exact e1
      · rw [lpX8_response_36, if_neg hpos, nI_pred, if_pos hbd, nIc (by omega), ← hd23, if_pos hc]
        exact e2
    · obtain ⟨V', G', e1, e2, e3, e4⟩ := ih (mu V 23 i (d + 1) (V 23 i d)) (mu G 30 0 (d + 1) (G 30 0 d)) (by omega) (by rw [mu_k (by decide)]; exact hv) (fun t ht htd => by
        by_cases e : t = d + 1
        · subst e; rw [mu_s, mu_s]; exact hd23
        · rw [mu_t e, mu_t e]; exact hI t ht e) m m' (by omega) (by omega)
      refine ⟨V', G', ?_, ?_, srf_trans ⟨fun f hf => mu_k hf, fun f hf => mu_k hf⟩ e3, e4⟩
      · rw [lpX5_response_21, if_neg hpos, nI_pred, if_pos hbd, if_pos hbq, nIc (by omega), nIc (by omega), hv, if_neg hc, if_pos hbd, if_pos hbd1, nIc (by omega), nI_m]
        exact e1
      · rw [lpX8_response_36, if_neg hpos, nI_pred, if_pos hbd, nIc (by omega), ← hd23, if_neg hc, if_pos hbd, if_pos hbd1, nIc (by omega), nI_m, hd23]
        exact e2
theorem resp_lp (hn : 1 ≤ n ∧ n ≤ 20) (hi8 : i < 8) : ∀ (d q : Nat) (V G : mM), q + d = n → V 21 i 2 = nI n → (∀ t, t < n → V 22 i t = G 29 0 (20 * i + t)) → (∀ t, t < q → V 23 i t = G 30 0 t) → ∀ m m' : Nat, d < m → d < m' → ∃ r V' G', lpX5_response_11 L m i (nI q) V c = some (r, V') ∧ lpX8_response_15 m' (nI i) (nI n) (nI q) G = some (r, G') ∧ srf V V' G G'
  | 0, q, V, G, hd, h21, h22, hI, m, m', hm, hm' => by
    obtain ⟨m, rfl⟩ : ∃ q, m = q + 1 := ⟨m - 1, by omega⟩
    obtain ⟨m', rfl⟩ : ∃ q, m' = q + 1 := ⟨m' - 1, by omega⟩
    have e9 : (9 : Int32) * nI n / 10 = nI (9 * n / 10) := by
      rw [show (9 : Int32) = nI 9 from rfl, show (10 : Int32) = nI 10 from rfl, pk_mul, nI_div (by omega) (by omega)]
    have hb : bin (nI (9 * n / 10)) 20 = true := bin_t (by omega) (by omega)
    have hc : nI n ≤ nI q := by rw [nI_leE (by omega) (by omega)]; omega
    refine ⟨V 23 i (9 * n / 10), V, G, ?_, ?_, ⟨fun _ _ => rfl, fun _ _ => rfl⟩⟩
    · rw [lpX5_response_11, h21, if_pos hc, e9, if_pos hb, nIc (by omega)]
    · rw [lpX8_response_15, if_pos hc, e9, if_pos hb, nIc (by omega), hI _ (by omega)]
  | d + 1, q, V, G, hd, h21, h22, hI, m, m', hm, hm' => by
    obtain ⟨m, rfl⟩ : ∃ q, m = q + 1 := ⟨m - 1, by omega⟩
    obtain ⟨m', rfl⟩ : ∃ q, m' = q + 1 := ⟨m' - 1, by omega⟩
    have e20 : (20 : Int32) * nI i + nI q = nI (20 * i + q) := by
      rw [show (20 : Int32) = nI 20 from rfl, pk_mul, nI_add]
    have hb : bin (nI (20 * i + q)) 160 = true := bin_t (by omega) (by omega)
    have hc : ¬ nI n ≤ nI q := by rw [nI_leE (by omega) (by omega)]; omega
    obtain ⟨V1, G1, e1, e2, e3, e4⟩ := ins_lp (L := L) (c := c) (i := i) (v := V 22 i q) (ro := lpX5_response_11 L m) (ro' := lpX8_response_15 m') (q := q) (by omega) (y1 := nI i) (y2 := nI n) q V G (Nat.le_refl _) rfl (fun t ht htq => hI t (by omega)) fu fu (by unfold fu; omega) (by unfold fu; omega)
    have v22 := e3.1 22 (by decide)
    have g29 := e3.2 29 (by decide)
    obtain ⟨r, V', G', e5, e6, e7⟩ := resp_lp hn hi8 d (q + 1) V1 G1 (by omega) (by rw [e3.1 21 (by decide)]; exact h21) (fun t ht => by rw [v22, g29]; exact h22 t ht) (fun t ht => e4 t (by omega)) m m' (by omega) (by omega)
    refine ⟨r, V', G', ?_, ?_, srf_trans e3 e7⟩
    · rw [lpX5_response_11, h21, if_neg hc, e1]
      exact e5
    · rw [lpX8_response_15, if_neg hc, e20, if_pos hb, nIc (by omega), ← h22 q (by omega), e2]
      exact e6
theorem resp_ok {V G : mM} (h : Rel1 w0 cnt L V c G z) (hi : i < cnt) : ∃ r V' G', fX5_response L i V c = some (r, V') ∧ fX8_response (nI i) G = some (r, G') ∧ srf V V' G G' := by
  have h8 := h.2.1.1.2.2
  have hR := (h.2.2.2.2.2.2.1 i hi).2.2.1.2.2.2.2
  have hT : V 21 i 2 = nI (z 28 i) := h.2.2.2.2.2.1 i hi
  have hb1 : bin (nI i) 8 = true := bin_t (by omega) (by omega)
  have hT2 := h.2.2.2.2.2.2.2.2.2.2.2.2.2.1
  by_cases h0 : z 28 i = 0
  · refine ⟨0, V, G, ?_, ?_, ⟨fun _ _ => rfl, fun _ _ => rfl⟩⟩
    · unfold fX5_response
      rw [hT, h0, if_pos nI_0]
    · unfold fX8_response
      rw [if_pos hb1, nIc (by omega), h.1 28 i rfl, h0, if_pos nI_0]
  · have hn0 : ¬ nI (z 28 i) = 0 := by rw [nI_z (by omega)]; exact h0
    obtain ⟨r, V', G', e1, e2, e3⟩ := resp_lp (L := L) (c := c) (n := z 28 i) (i := i) (by omega) (by omega) (z 28 i) 0 V G (by omega) hT (fun t ht => by
      rw [(hT2 i t hi ht).1, h.1 29 _ rfl]) (fun t ht => absurd ht (by omega)) fu fu (by unfold fu; omega) (by unfold fu; omega)
    refine ⟨r, V', G', ?_, ?_, e3⟩
    · unfold fX5_response
      rw [hT, if_neg hn0]
      exact e1
    · unfold fX8_response
      rw [if_pos hb1, nIc (by omega), h.1 28 i rfl, if_neg hn0]
      exact e2
theorem rel1_sr {V G V' G' : mM} (h : Rel1 w0 cnt L V c G z) (q : srf V V' G G') : Rel1 w0 cnt L V' c G' z := by
  obtain ⟨h1, h2, h3, h4, h5, h6, h7, h8, h9, h10, h11, h12, h13, h15, h17, h18, h20⟩ := h
  obtain ⟨qv, qg⟩ := q
  have g10 := qg 10 (by decide)
  have g11 := qg 11 (by decide)
  have g3 := qg 3 (by decide)
  refine ⟨?_, ?_, ?_, ?_, ?_, ?_, ?_, ?_, ?_, ?_, ?_, ?_, ?_, ?_, ?_, h18, h20⟩
  · intro f t hf
    rw [qg f (by rintro rfl; cases hf)]
    exact h1 f t hf
  · unfold RA1; rw [qv 2 (by decide), qv 10 (by decide), qv 4 (by decide)]; exact h2
  · unfold RBn; rw [qv 3 (by decide)]; exact h3
  · intro i t hi ht
    have := so_ge t
    rw [qv 3 (by decide), qg _ (by omega)]
    exact h4 i t hi ht
  · unfold RQs; rw [qv 11 (by decide)]; exact h5
  · unfold RTs; rw [qv 21 (by decide)]; exact h6
  · unfold RR rrb; rw [g10, g11]; exact h7
  · unfold RZ; rw [qg 23 (by decide), qg 24 (by decide), qg 25 (by decide)]; exact h8
  · unfold RQ row; rw [qv 12 (by decide), qv 13 (by decide), qv 14 (by decide), g3]; exact h9
  · unfold RW1; rw [qv 11 (by decide), qv 16 (by decide)]; exact h10
  · unfold RWb row; rw [qv 12 (by decide), qv 13 (by decide), qv 14 (by decide), g3]; exact h11
  · unfold RWx gf; rw [qv 17 (by decide), qv 18 (by decide), qv 19 (by decide), qv 20 (by decide), g3, qg 37 (by decide), qg 40 (by decide)]; exact h12
  · unfold RWi; rw [qv 11 (by decide), qv 16 (by decide), qv 17 (by decide)]; exact h13
  · unfold RT; rw [qv 22 (by decide)]; exact h15
  · unfold RD; rw [qv 0 (by decide), qv 1 (by decide), g3]; exact h17
theorem RM1_sr {V G V' G' : mM} (h : RM1 k cnt V z G) (q : srf V V' G G') : RM1 k cnt V' z G' := by
  obtain ⟨qv, qg⟩ := q
  unfold RM1 RM
  rw [qv 5 (by decide), qv 6 (by decide), qv 7 (by decide), qv 8 (by decide), qv 9 (by decide), qg 47 (by decide)]
  exact h
theorem RS_sr {V G V' G' : mM} (h : RS B z G) (q : srf V V' G G') : RS B z G' := by
  obtain ⟨qv, qg⟩ := q
  have e : pend z G' = pend z G := by
    funext w
    unfold pend
    rw [qg 40 (by decide)]
  unfold RS
  rw [e]
  exact h
end TOL
theorem sim_told_ok : sim_told Rel := by
  intro k cnt L V c G a1 a2 hk h
  obtain ⟨z, hz⟩ := id h
  have hG := hz.1
  have hA := hz.2.1
  have h1 := rel1_of (w0 := 32) hz
  have hM := RM1_k (rel0_M hz)
  have hI := rel0_I hz
  obtain ⟨n1, n2, n3, n4⟩ := rel0_N hz
  rcases stage_ix hA a1 with hb | ⟨i, hi, rfl⟩
  · refine ⟨-1, V, G, ?_, ?_, rel_next h hk⟩
    · unfold fX7_told
      rw [stageAt_bad hA hb]
      rfl
    · unfold fX8_told
      rw [isStage_bad hG hA hb]
      rfl
  · have h8 := hA.1.2.2
    have hb1 : bin (nI i) 8 = true := bin_t (by omega) (by omega)
    by_cases h9 : a2 = 9
    · subst h9
      obtain ⟨r, V', G', e1, e2, e3⟩ := resp_ok h1 hi
      refine ⟨r, V', G', ?_, ?_, z, rel0_of (rel1_sr h1 e3) (Nat.le_refl _) (RM1_sr hM e3) hI ⟨n1, n2, n3, RS_sr n4 e3⟩⟩
      · unfold fX7_told fX3_figure
        simp only [stageAt_ok hA hi, Option.bind_some]
        rw [if_neg (nI_pos (by omega)), nIc (by omega)]
        simp [e1]
      · unfold fX8_told
        simp only [isStage_ok hG hA hi, Option.bind_some]
        simp [e2]
    · have b9 : V 3 i 9 = G 13 0 i := (h1.2.2.1 i 9 hi rfl).trans (hG 13 i rfl).symm
      have b14 : V 3 i 14 = G 18 0 i := (h1.2.2.1 i 14 hi rfl).trans (hG 18 i rfl).symm
      have b15 : V 3 i 15 = G 20 0 i := (h1.2.2.1 i 15 hi rfl).trans (hG 20 i rfl).symm
      have b10 : V 3 i 10 = G 16 0 i := (h1.2.2.1 i 10 hi rfl).trans (hG 16 i rfl).symm
      have b12 : V 3 i 12 = G 14 0 i := (h1.2.2.1 i 12 hi rfl).trans (hG 14 i rfl).symm
      have b16 : V 3 i 16 = G 23 0 i := h1.2.2.2.1 i 16 hi rfl
      have b17 : V 3 i 17 = G 24 0 i := h1.2.2.2.1 i 17 hi rfl
      have b18 : V 3 i 18 = G 25 0 i := h1.2.2.2.1 i 18 hi rfl
      have b11 : V 11 (32 + i) 3 = G 26 0 i := (h1.2.2.2.2.1 i hi).trans (hG 26 i rfl).symm
      have hf : ∃ r, fX3_figure L i a2 V c = some (r, V) ∧ fX8_told (nI i) a2 G = some (r, G) := by
        unfold fX3_figure fX8_told
        simp only [isStage_ok hG hA hi, Option.bind_some, hb1, if_true, nIc (show i < 2 ^ 31 by omega), b9, b14, b15, b10, b12, b16, b17, b18, b11, if_neg h9]
        rw [if_neg (show ¬ (1 : Int32) = 0 by decide)]
        by_cases c0 : a2 = 0
        · exact ⟨_, by rw [if_pos c0], by rw [if_pos c0]⟩
        rw [if_neg c0, if_neg c0]
        by_cases c1 : a2 = 1
        · exact ⟨_, by rw [if_pos c1], by rw [if_pos c1]⟩
        rw [if_neg c1, if_neg c1]
        by_cases c2 : a2 = 2
        · exact ⟨_, by rw [if_pos c2], by rw [if_pos c2]⟩
        rw [if_neg c2, if_neg c2]
        by_cases c3 : a2 = 3
        · exact ⟨_, by rw [if_pos c3], by rw [if_pos c3]⟩
        rw [if_neg c3, if_neg c3]
        by_cases c4 : a2 = 4
        · exact ⟨_, by rw [if_pos c4], by rw [if_pos c4]⟩
        rw [if_neg c4, if_neg c4]
        by_cases c5 : a2 = 5
        · exact ⟨_, by rw [if_pos c5], by rw [if_pos c5]⟩
        rw [if_neg c5, if_neg c5]
        by_cases c6 : a2 = 6
        · exact ⟨_, by rw [if_pos c6], by rw [if_pos c6]⟩
        rw [if_neg c6, if_neg c6]
        by_cases c7 : a2 = 7
        · exact ⟨_, by rw [if_pos c7], by rw [if_pos c7]⟩
        rw [if_neg c7, if_neg c7]
        by_cases c8 : a2 = 8
        · exact ⟨_, by rw [if_pos c8], by rw [if_pos c8]⟩
        rw [if_neg c8, if_neg c8]
        exact ⟨_, rfl, rfl⟩
      obtain ⟨r, e1, e2⟩ := hf
      refine ⟨r, V, G, ?_, e2, rel_next h hk⟩
      unfold fX7_told
      simp only [stageAt_ok hA hi, Option.bind_some]
      rw [if_neg (nI_pos (by omega)), nIc (by omega), e1]
      rfl
