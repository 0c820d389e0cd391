/-! a worker ends its batch -/
section FIN
variable {w0 cnt k i j U B p n w q : Nat} {L : Nat → Nat → Nat} {V G V' G' V0 G0 : mM} {c c' : Nat × Nat} {z z' z0 : mZ}
theorem coll_ok (h : Rel1 w cnt L V c G z) (hi : i < cnt) (hwk : j < z 18 i ∧ w = 4 * i + j) (hlt : z 0 1 ≤ 103300) (hn0 : 1 ≤ z 31 w) (h34 : z 34 w = 0) (hg : V 17 w 3 = 0 ∧ V 17 w 4 = 0 ∧ V 17 w 5 = -1) : ∃ V' G' z', fX3_collectGifts L i w V c = some V' ∧ fX8_listGifts (nI i) (nI w) G = some G' ∧ Rel1 w cnt L (mu V' 16 w 4 1) c G' z' ∧ gz cnt (mu V' 16 w 4 1) z' G' w ∧ gn (mu V' 16 w 4 1) z' G' w ∧ gfr V (mu V' 16 w 4 1) G G' z z' w ∧ z' 34 w = 1 := by
  have hwk' : wk cnt z w := ⟨i, j, hi, hwk.1, hwk.2⟩
  have hw := (wk_lt h hwk').1
  have hb32 : bin (nI w) 32 = true := bin_t (by omega) hw
  have hs := (h.2.2.2.2.2.2.1 i hi).1.1
  have b0 : V 3 i 0 = nI (z 9 i) := h.2.2.1 i 0 hi rfl
  have h31 : z 31 w ≤ 8 := by
    have := h.2.2.2.2.2.2.2.2.2.1 i j hi hwk.1
    rw [← hwk.2] at this
    exact this.2.1
  have f1 : gfr V V G (mu (mu (mu G 34 0 w 1) 35 0 w 0) 36 0 w 0) z (su (su (su z 34 w 1) 35 w 0) 36 w 0) w := by
    refine ⟨fun _ _ _ _ => rfl, fun f t e => ?_, fun f t e => ?_⟩
    · unfold gw at e
      unfold su
      rw [if_neg (by omega), if_neg (by omega), if_neg (by omega)]
    · unfold gw at e
      by_cases k1 : f = 36
      · subst k1
        rw [mu_t (by omega), mu_k (by decide), mu_k (by decide)]
      · rw [mu_k k1]
        by_cases k2 : f = 35
        · subst k2
          rw [mu_t (by omega), mu_k (by decide)]
        · rw [mu_k k2]
          by_cases k3 : f = 34
          · subst k3
            rw [mu_t (by omega)]
          · rw [mu_k k3]
  have r1 : rG (mu (mu (mu G 34 0 w 1) 35 0 w 0) 36 0 w 0) (su (su (su z 34 w 1) 35 w 0) 36 w 0) := rG_mu (rG_mu (rG_mu h.1 _ _ _ rfl) _ _ _ rfl) _ _ _ rfl
  have z35 : su (su (su z 34 w 1) 35 w 0) 36 w 0 35 w = 0 := by rw [su_k (by decide), su_s]
  have z36 : su (su (su z 34 w 1) 35 w 0) 36 w 0 36 w = 0 := by rw [su_s]
  have z34 : su (su (su z 34 w 1) 35 w 0) 36 w 0 34 w = 1 := by rw [su_k (by decide), su_k (by decide), su_s]
  have g1 : gl cnt V (su (su (su z 34 w 1) 35 w 0) 36 w 0) (mu (mu (mu G 34 0 w 1) 35 0 w 0) 36 0 w 0) w := by
    refine ⟨⟨by rw [z35]; exact hg.1, hg.2.1, hg.2.2, z36⟩, fun t ht => absurd ht (by rw [z35]; omega)⟩
  have em : fX8_listGifts (nI i) (nI w) G = lpX8_listGifts_26 fu (nI i) (nI w) 0 0 (mu (mu (mu G 34 0 w 1) 35 0 w 0) 36 0 w 0) := by
    unfold fX8_listGifts
    rw [if_pos hb32, if_pos hb32, if_pos hb32, nIc (by omega)]
  have main : ∃ V' G' z', fX3_collectGifts L i w V c = some V' ∧ lpX8_listGifts_26 fu (nI i) (nI w) 0 0 (mu (mu (mu G 34 0 w 1) 35 0 w 0) 36 0 w 0) = some G' ∧ rG G' z' ∧ gl cnt V' z' G' w ∧ gfr V V' (mu (mu (mu G 34 0 w 1) 35 0 w 0) 36 0 w 0) G' (su (su (su z 34 w 1) 35 w 0) 36 w 0) z' w ∧ z' 35 w ≤ 16 ∧ z' 34 w = su (su (su z 34 w 1) 35 w 0) 36 w 0 34 w := by
    by_cases h3 : z 9 i = 3
    · obtain ⟨V', G', z', a1, a2, a3⟩ := sum_lp h hi hwk h3 hlt hw hn0 f1 r1 g1 z35 (z 31 w) 0 0 (by omega) fu fu (by unfold fu; omega) (by unfold fu; omega)
      refine ⟨V', G', z', ?_, a2, a3⟩
      unfold fX3_collectGifts fX3_collectSum
      rw [b0, h3, if_pos (by decide)]
      have a1' : lpX3_collectSum_4 L fu i w 0 0 V c = some V' := a1
      rw [a1']
      rfl
    · obtain ⟨V', G', z', a1, a2, a3⟩ := list_lp h hi hwk h3 hlt hw (z 31 w) 0 V _ _ 0 (by omega) f1 r1 g1 (by rw [z35]; omega) fu fu (by unfold fu; omega) (by unfold fu; omega)
      refine ⟨V', G', z', ?_, a2, a3⟩
      unfold fX3_collectGifts
      rw [b0, if_neg (by
        show ¬ nI (z 9 i) = nI 3
        rw [nI_eqE (by omega) (by omega)]; exact h3)]
      exact a1
  obtain ⟨V', G', z', a1, a2, a3, a4, a5, a6, a7⟩ := main
  have f2 := gfr_trans f1 a5
  have f3 : gfr V (mu V' 16 w 4 1) G G' z z' w := by
    refine ⟨fun f n t e => ?_, f2.2.1, f2.2.2⟩
    by_cases k1 : f = 16
    · subst k1
      rw [mu_app, if_neg (by omega)]
      exact f2.1 16 n t e
    · rw [mu_k k1]
      exact f2.1 f n t e
  rw [z34] at a7
  refine ⟨V', G', z', a1, em.trans a2, rel1_gl h f3 a3 hwk' ⟨?_, by omega, fun h0 => absurd h0 (by omega)⟩, ?_, ?_, f3, a7⟩
  · rw [mu_s, a7]; rfl
  · obtain ⟨⟨b1, b2, b3, b4⟩, b5⟩ := a4
    refine ⟨⟨?_, ?_, by omega, a6⟩, fun t t1 t2 => ?_, fun t t1 t2 => ?_⟩
    · rw [mu_k (by decide)]; exact b1
    · rw [mu_k (by decide), b4]; exact b2
    · rw [mu_k (by decide), mu_k (by decide), mu_k (by decide)]
      obtain ⟨c1, c2, c3, c4, c5, c6⟩ := b5 t t2
      exact ⟨c1, c2, c3, c4, c5⟩
    · exact (b5 t t2).2.2.2.2.2
  · obtain ⟨⟨b1, b2, b3, b4⟩, b5⟩ := a4
    refine ⟨?_, fun hl => ?_⟩
    · rw [mu_k (by decide)]; exact b3
    · exact (b5 _ hl).2.2.2.2.2
/-- the done row takes an event -/
theorem done_x {x v : Int32} (hD : 64 ≤ c.1 ∧ c.2 = c.1 ∧ c.1 ≤ 204800 ∧ z 0 4 ≤ c.1) (h10 : V 10 0 2 = nI (z 0 4)) (hz : z 0 4 ≤ 102399) : ∃ V' c', fX0_append L x v V c = some (V', c') ∧ (∀ f, f ≠ 0 ∧ f ≠ 1 ∧ f ≠ 10 → V' f = V f) ∧ V' 10 0 2 = nI (z 0 4 + 1) ∧ (∀ t, t < z 0 4 → V' 0 0 t = V 0 0 t ∧ V' 1 0 t = V 1 0 t) ∧ (V' 0 0 (z 0 4) = x ∧ V' 1 0 (z 0 4) = v) ∧ (64 ≤ c'.1 ∧ c'.2 = c'.1 ∧ c'.1 ≤ 204800 ∧ z 0 4 + 1 ≤ c'.1) := by
  have hj : ∀ (W : mM) (c' : Nat × Nat), W 10 0 2 = nI (z 0 4) → c'.2 = c'.1 → z 0 4 < c'.1 → jnX0_append_46 L x v W c' = some (mu (mu (mu W 0 0 (z 0 4) x) 1 0 (z 0 4) v) 10 0 2 (nI (z 0 4 + 1)), c') := by
    intro W c' h1 h2 h3
    have hb1 : bin (nI (z 0 4)) c'.1 = true := bin_t (by omega) h3
    have hb2 : bin (nI (z 0 4)) c'.2 = true := bin_t (by omega) (by omega)
    have e1 : nI (z 0 4) + 1 = nI (z 0 4 + 1) := nI_1 _
    unfold jnX0_append_46
    simp only [mu_k (show (10 : Nat) ≠ 0 by decide), mu_k (show (10 : Nat) ≠ 1 by decide), h1, hb1, hb2, if_true, nIc (show z 0 4 < 2 ^ 31 by omega), e1]
  unfold fX0_append
  by_cases hl : z 0 4 < c.1
  · refine ⟨_, _, by
      rw [h10, if_pos (by
        show nI (z 0 4) < nI c.1
        rw [nI_ltE (by omega) (by omega)]; exact hl)]
      exact hj V c h10 hD.2.1 hl, fun f hf => ?_, ?_, fun t ht => ?_, ?_, hD.1, hD.2.1, hD.2.2.1, by omega⟩
    · rw [mu_k (by omega), mu_k (by omega), mu_k (by omega)]
    · rw [mu_s]
    · rw [mu_k (show (0 : Nat) ≠ 10 by decide), mu_k (show (0 : Nat) ≠ 1 by decide), mu_t (by omega), mu_k (show (1 : Nat) ≠ 10 by decide), mu_t (by omega), mu_k (show (1 : Nat) ≠ 0 by decide)]
      exact ⟨rfl, rfl⟩
    · rw [mu_k (show (0 : Nat) ≠ 10 by decide), mu_k (show (0 : Nat) ≠ 1 by decide), mu_s, mu_k (show (1 : Nat) ≠ 10 by decide), mu_s]
      exact ⟨rfl, rfl⟩
  · have ec : z 0 4 = c.1 := by omega
    have e2 : (2 : Int32) * nI (z 0 4) = nI (2 * z 0 4) := by
      rw [show (2 : Int32) = nI 2 from rfl, pk_mul]
    have g1' : bgr0 (nI (2 * z 0 4)) c = true := by
      unfold bgr0
      simp only [Bool.and_eq_true, decide_eq_true_eq]
      exact ⟨by rw [ec]; rfl, by omega, by omega⟩
    have g2' : bgr1 (nI (2 * z 0 4)) (g0 c) = true := by
      unfold bgr1 g0
      simp only [Bool.and_eq_true, decide_eq_true_eq]
      exact ⟨by rw [ec, hD.2.1]; rfl, by omega, by omega⟩
    have hx := hj (mv (mv V 0 0 (va_cpy (V 0 0) (fun _ => 0) 0 0 c.1)) 1 0 (va_cpy ((mv V 0 0 (va_cpy (V 0 0) (fun _ => 0) 0 0 c.1)) 1 0) (fun _ => 0) 0 0 (g0 c).2)) (g1 (g0 c)) (by rw [mv_k (by decide), mv_k (by decide)]; exact h10) (by unfold g1 g0; simp only; omega) (by unfold g1 g0; simp only; omega)
    refine ⟨_, _, by
      rw [h10, if_neg (by
        show ¬ nI (z 0 4) < nI c.1
        rw [nI_ltE (by omega) (by omega)]; exact hl), e2, if_pos g1', mv_k (show (10 : Nat) ≠ 0 by decide), h10, e2, if_pos g2']
      exact hx, fun f hf => ?_, ?_, fun t ht => ?_, ?_, ?_, ?_, ?_, ?_⟩
    · rw [mu_k (by omega), mu_k (by omega), mu_k (by omega), mv_k (by omega), mv_k (by omega)]
    · rw [mu_s]
    · rw [mu_k (show (0 : Nat) ≠ 10 by decide), mu_k (show (0 : Nat) ≠ 1 by decide), mu_t (by omega), mu_k (show (1 : Nat) ≠ 10 by decide), mu_t (by omega), mu_k (show (1 : Nat) ≠ 0 by decide), mv_k (show (0 : Nat) ≠ 1 by decide), mv_s, mv_s, mv_k (show (1 : Nat) ≠ 0 by decide)]
      have q1 : 0 ≤ t ∧ t < 0 + c.1 := by omega
      have q2 : 0 ≤ t ∧ t < 0 + (g0 c).2 := by unfold g0; simp only; omega
      unfold va_cpy
      rw [if_pos q1, if_pos q2]
      simp
    · rw [mu_k (show (0 : Nat) ≠ 10 by decide), mu_k (show (0 : Nat) ≠ 1 by decide), mu_s, mu_k (show (1 : Nat) ≠ 10 by decide), mu_s]
      exact ⟨rfl, rfl⟩
    · unfold g1 g0; simp only; omega
    · unfold g1 g0; simp only; omega
    · unfold g1 g0; simp only; omega
    · unfold g1 g0; simp only; omega
/-- how many times are kept, and which -/
def tn (n : Nat) : Nat := if n = 20 then 20 else n + 1
def ts (n t : Nat) : Nat := if n = 20 then t + 1 else t
theorem time_x {x : Int32} (h21 : V 21 i 2 = nI n) (hn : n ≤ 20) : ∃ V', fX5_append L i x V c = some V' ∧ (∀ f, f ≠ 21 ∧ f ≠ 22 → V' f = V f) ∧ (∀ i', i' ≠ i → V' 21 i' = V 21 i' ∧ V' 22 i' = V 22 i') ∧ V' 21 i 2 = nI (tn n) ∧ (∀ t, t + 1 < tn n → V' 22 i t = V 22 i (ts n t)) ∧ V' 22 i (tn n - 1) = x := by
  have hj : ∀ (W : mM) (m : Nat), W 21 i 2 = nI m → m < 20 → jnX5_append_30 L i x W c = some (mu (mu W 22 i m x) 21 i 2 (nI (m + 1))) := by
    intro W m h1 h2
    have hb : bin (nI m) 20 = true := bin_t (by omega) h2
    have e1 : nI m + 1 = nI (m + 1) := nI_1 _
    unfold jnX5_append_30
    simp only [mu_k (show (21 : Nat) ≠ 22 by decide), h1, hb, if_true, nIc (show m < 2 ^ 31 by omega), e1]
  unfold fX5_append
  by_cases h20 : n = 20
  · subst h20
    have e1 : tn 20 = 20 := rfl
    have e2 : ∀ t, ts 20 t = t + 1 := fun t => rfl
    refine ⟨_, by
      rw [h21, if_neg (by decide), if_pos (by decide)]
      exact hj _ 19 (by rw [mu_s]; rfl) (by omega), fun f hf => ?_, fun i' hi' => ?_, ?_, fun t ht => ?_, ?_⟩
    · rw [mu_k hf.1, mu_k hf.2, mu_k hf.1, mv_k hf.2]
    · rw [mu_n hi', mu_k (show (21 : Nat) ≠ 22 by decide), mu_n hi', mv_k (by decide), mu_k (show (22 : Nat) ≠ 21 by decide), mu_n hi', mu_k (show (22 : Nat) ≠ 21 by decide), mv_n hi']
      exact ⟨rfl, rfl⟩
    · rw [mu_s, e1]
    · rw [e1] at ht
      rw [e2, mu_k (by decide), mu_t (by omega), mu_k (by decide), mv_s]
      have c1 : (1 : Int32).toNatClampNeg = 1 := rfl
      have c0 : (0 : Int32).toNatClampNeg = 0 := rfl
      have c19 : (19 : Int32).toNatClampNeg = 19 := rfl
      have q1 : 0 ≤ t ∧ t < 0 + 19 := by omega
      unfold va_cpy
      rw [c1, c0, c19, if_pos q1]
      congr 1
      omega
    · rw [e1, mu_k (by decide), mu_s]
  · have e1 : tn n = n + 1 := by unfold tn; rw [if_neg h20]
    have e2 : ∀ t, ts n t = t := fun t => by unfold ts; rw [if_neg h20]
    refine ⟨_, by
      rw [h21, if_pos (by
        show nI n < nI 20
        rw [nI_ltE (by omega) (by omega)]; omega)]
      exact hj V n h21 (by omega), fun f hf => ?_, fun i' hi' => ?_, ?_, fun t ht => ?_, ?_⟩
    · rw [mu_k hf.1, mu_k hf.2]
    · rw [mu_n hi', mu_k (by decide), mu_k (by decide), mu_n hi']
      exact ⟨rfl, rfl⟩
    · rw [mu_s, e1]
    · rw [e1] at ht
      rw [e2, mu_k (by decide), mu_t (by omega)]
    · rw [e1, mu_k (by decide), show n + 1 - 1 = n by omega, mu_s]
/-- the reference's shift of times -/
theorem sh_lp {ro : Int32 → Int32 → Int32 → mM → Option (mM)} {x2 x3 x4 : Int32} (hi : i < 8) : ∀ (d t : Nat) (G : mM) (z : mZ), t + d = 20 → 1 ≤ t → z 28 i = 20 → rG G z → ∀ m : Nat, d < m → ∃ G' z', lpX8_finish_95 ro m (nI i) x2 x3 x4 (nI t) G = jnX8_finish_144 ro (nI i) x2 x3 x4 G' ∧ rG G' z' ∧ (∀ f, f ≠ 28 ∧ f ≠ 29 → z' f = z f) ∧ (∀ f, f ≠ 28 ∧ f ≠ 29 → G' f = G f) ∧ (∀ i', i' ≠ i → z' 28 i' = z 28 i') ∧ z' 28 i = 19 ∧ ∀ s, z' 29 s = if 20 * i + t - 1 ≤ s ∧ s < 20 * i + 19 then z 29 (s + 1) else z 29 s
  | 0, t, G, z, hd, h1, h28, hr, m, hm => by
    obtain ⟨m, rfl⟩ : ∃ q, m = q + 1 := ⟨m - 1, by omega⟩
    have hb8 : bin (nI i) 8 = true := bin_t (by omega) hi
    have ht : t = 20 := by omega
    subst ht
    refine ⟨mu G 28 0 i (nI 19), su z 28 i 19, ?_, rG_mu hr _ _ _ rfl, fun f hf => su_k hf.1, fun f hf => mu_k hf.1, fun i' hi' => su_i hi', su_s, fun s => ?_⟩
    · rw [lpX8_finish_95, if_pos (by decide), if_pos hb8, if_pos hb8, nIc (by omega), hr 28 i rfl, h28]
      rfl
    · rw [su_k (by decide), if_neg (by omega)]
  | d + 1, t, G, z, hd, h1, h28, hr, m, hm => by
    obtain ⟨m, rfl⟩ : ∃ q, m = q + 1 := ⟨m - 1, by omega⟩
    have e20 : (20 : Int32) * nI i + nI t = nI (20 * i + t) := by
      rw [show (20 : Int32) = nI 20 from rfl, pk_mul, nI_add]
    have e21 : nI (20 * i + t) - 1 = nI (20 * i + t - 1) := nI_pre (by omega)
    have hb1 : bin (nI (20 * i + t)) 160 = true := bin_t (by omega) (by omega)
    have hb2 : bin (nI (20 * i + t - 1)) 160 = true := bin_t (by omega) (by omega)
    have a1 : nI t + 1 = nI (t + 1) := nI_1 t
    obtain ⟨G', z', q1, q2, q3, q4, q5, q6, q7⟩ := sh_lp (ro := ro) (x2 := x2) (x3 := x3) (x4 := x4) hi d (t + 1) (mu G 29 0 (20 * i + t - 1) (nI (z 29 (20 * i + t)))) (su z 29 (20 * i + t - 1) (z 29 (20 * i + t))) (by omega) (by omega) (by rw [su_k (by decide)]; exact h28) (rG_mu hr _ _ _ rfl) m (by omega)
    refine ⟨G', z', ?_, q2, fun f hf => ?_, fun f hf => ?_, fun i' hi' => ?_, q6, fun s => ?_⟩
    · rw [lpX8_finish_95, if_neg (by
        show ¬ nI 20 ≤ nI t
        rw [nI_leE (by omega) (by omega)]; omega), e20, if_pos hb1, e21, if_pos hb2, nIc (by omega), nIc (by omega), hr 29 _ rfl, a1]
      exact q1
    · rw [q3 f hf, su_k hf.2]
    · rw [q4 f hf, mu_k hf.2]
    · rw [q5 i' hi', su_k (by decide)]
    · rw [q7 s]
      by_cases c1 : 20 * i + (t + 1) - 1 ≤ s ∧ s < 20 * i + 19
      · rw [if_pos c1, if_pos (by omega), su_i (by omega)]
      · rw [if_neg c1]
        by_cases c2 : s = 20 * i + t - 1
        · subst c2
          rw [su_s, if_pos (by omega)]
          congr 1
          omega
        · rw [su_i c2, if_neg (by omega)]
theorem time_m {ro : Int32 → Int32 → Int32 → mM → Option (mM)} {x2 x3 : Int32} {e : Nat} (hi : i < 8) (hr : rG G z) (hn : z 28 i ≤ 20) (he : e < 124000) (hb : z 4 e ≤ z 0 0) : ∃ G' z', (if (G 28 0 i) = (20 : Int32) then (lpX8_finish_95 ro fu (nI i) x2 x3 (nI e) (1 : Int32) G) else (jnX8_finish_144 ro (nI i) x2 x3 (nI e) G)) = ro (nI i) x2 (x3 + 1) G' ∧ rG G' z' ∧ (∀ f, f ≠ 28 ∧ f ≠ 29 → z' f = z f) ∧ (∀ f, f ≠ 28 ∧ f ≠ 29 → G' f = G f) ∧ (∀ i', i' ≠ i → z' 28 i' = z 28 i') ∧ z' 28 i = tn (z 28 i) ∧ (∀ s, s < 20 * i ∨ 20 * i + 20 ≤ s → z' 29 s = z 29 s) ∧ (∀ t, t + 1 < tn (z 28 i) → z' 29 (20 * i + t) = z 29 (20 * i + ts (z 28 i) t)) ∧ z' 29 (20 * i + (tn (z 28 i) - 1)) = z 0 0 - z 4 e := by
  have hb8 : bin (nI i) 8 = true := bin_t (by omega) hi
  have hbe : bin (nI e) 124000 = true := bin_t (by omega) he
  have hj : ∀ (G : mM) (z : mZ) (m : Nat), rG G z → z 28 i = m → m < 20 → z 4 e ≤ z 0 0 → jnX8_finish_144 ro (nI i) x2 x3 (nI e) G = ro (nI i) x2 (x3 + 1) (mu (mu G 29 0 (20 * i + m) (nI (z 0 0 - z 4 e))) 28 0 i (nI (m + 1))) := by
    intro G z m hr hm hlt hb
    have e20 : (20 : Int32) * nI i + nI m = nI (20 * i + m) := by
      rw [show (20 : Int32) = nI 20 from rfl, pk_mul, nI_add]
    have hb1 : bin (nI (20 * i + m)) 160 = true := bin_t (by omega) (by omega)
    have e1 : nI m + 1 = nI (m + 1) := nI_1 _
    unfold jnX8_finish_144
    simp only [hb8, hbe, if_true, nIc (show i < 2 ^ 31 by omega), nIc (show e < 2 ^ 31 by omega), mu_k (show (28 : Nat) ≠ 29 by decide), hr 28 i rfl, hm, e20, hb1, nIc (show 20 * i + m < 2 ^ 31 by omega), hr 0 0 rfl, hr 4 e rfl, e1, pk_sub hb]
  by_cases h20 : z 28 i = 20
  · have e1 : tn (z 28 i) = 20 := by rw [h20]; rfl
    have e2 : ∀ t, ts (z 28 i) t = t + 1 := fun t => by rw [h20]; rfl
    obtain ⟨G1, z1, q1, q2, q3, q4, q5, q6, q7⟩ := sh_lp (ro := ro) (x2 := x2) (x3 := x3) (x4 := nI e) hi 19 1 G z rfl (by omega) h20 hr fu (by unfold fu; omega)
    have z4 : z1 4 = z 4 := q3 4 (by decide)
    have z0 : z1 0 = z 0 := q3 0 (by decide)
    refine ⟨mu (mu G1 29 0 (20 * i + 19) (nI (z1 0 0 - z1 4 e))) 28 0 i (nI (19 + 1)), su (su z1 29 (20 * i + 19) (z1 0 0 - z1 4 e)) 28 i (19 + 1), ?_, rG_mu (rG_mu q2 _ _ _ rfl) _ _ _ rfl, fun f hf => ?_, fun f hf => ?_, fun i' hi' => ?_, ?_, fun s hs => ?_, fun t ht => ?_, ?_⟩
    · rw [hr 28 i rfl, h20, if_pos (by decide)]
      refine q1.trans ?_
      exact hj G1 z1 19 q2 q6 (by omega) (by rw [z4, z0]; exact hb)
    · rw [su_k hf.1, su_k hf.2, q3 f hf]
    · rw [mu_k hf.1, mu_k hf.2, q4 f hf]
    · rw [su_i hi', su_k (by decide), q5 i' hi']
    · rw [su_s, e1]
    · rw [su_k (by decide), su_i (by omega), q7, if_neg (by omega)]
    · rw [e1] at ht
      rw [e2, su_k (by decide), su_i (by omega), q7, if_pos (by omega)]
      rfl
    · rw [e1, su_k (by decide), show 20 * i + (20 - 1) = 20 * i + 19 by omega, su_s, z4, z0]
  · have e1 : tn (z 28 i) = z 28 i + 1 := by unfold tn; rw [if_neg h20]
    have e2 : ∀ t, ts (z 28 i) t = t := fun t => by unfold ts; rw [if_neg h20]
    refine ⟨mu (mu G 29 0 (20 * i + z 28 i) (nI (z 0 0 - z 4 e))) 28 0 i (nI (z 28 i + 1)), su (su z 29 (20 * i + z 28 i) (z 0 0 - z 4 e)) 28 i (z 28 i + 1), ?_, rG_mu (rG_mu hr _ _ _ rfl) _ _ _ rfl, fun f hf => ?_, fun f hf => ?_, fun i' hi' => ?_, ?_, fun s hs => ?_, fun t ht => ?_, ?_⟩
    · rw [hr 28 i rfl, if_neg (by
        show ¬ nI (z 28 i) = nI 20
        rw [nI_eqE (by omega) (by omega)]; exact h20)]
      exact hj G z (z 28 i) hr rfl (by omega) hb
    · rw [su_k hf.1, su_k hf.2]
    · rw [mu_k hf.1, mu_k hf.2]
    · rw [su_i hi', su_k (by decide)]
    · rw [su_s, e1]
    · rw [su_k (by decide), su_i (by omega)]
    · rw [e1] at ht
      rw [e2, su_k (by decide), su_i (by omega)]
    · rw [e1, su_k (by decide), show 20 * i + (z 28 i + 1 - 1) = 20 * i + z 28 i by omega, su_s]
end FIN
