/-! timers taken away: the class packs its row, the reference shifts -/
section TMS
variable {w0 cnt k i U B p n w r : Nat} {L : Nat → Nat → Nat} {V G V' G' : mM} {c : Nat × Nat} {z z' : mZ} {a : Int32}
def trec (V : mM) (z : mZ) (G : mM) (t s : Nat) : Prop := V 6 0 s = nI (z 45 t) ∧ V 7 0 s = nI (z 46 t) ∧ V 8 0 s = G 47 0 t ∧ V 9 0 s = nI (z 48 t)
def TM (k cnt : Nat) (V : mM) (z : mZ) (G : mM) (n w r : Nat) : Prop := (w ≤ r ∧ r ≤ n ∧ n ≤ 50 ∧ z 0 43 = w + (n - r) ∧ z 0 42 ≤ k ∧ z 0 6 + z 0 43 ≤ z 0 42) ∧ (V 5 0 4 = nI n ∧ V 5 0 5 = nI (z 0 42)) ∧ (∀ t, t < z 0 43 → trec V z G t (if t < w then t else t + (r - w)) ∧ z 46 t < cnt ∧ z 48 t ≤ 1400 ∧ z 45 t < z 0 42) ∧ ∀ t t', t < t' → t' < z 0 43 → z 45 t < z 45 t'
theorem TM_of (h : RM1 k cnt V z G) : TM k cnt V z G (z 0 43) 0 0 := by
  obtain ⟨⟨⟨q1, q2, q3⟩, q4, q5⟩, q6, q7⟩ := h
  refine ⟨⟨Nat.le_refl _, Nat.zero_le _, q1, by omega, q2, q3⟩, ⟨q6, q7⟩, ?_, q5⟩
  intro t ht
  rw [if_neg (by omega)]
  exact q4 t ht
theorem TM_end (h : TM k cnt V z G n w n) : RM1 k cnt (mu V 5 0 4 (nI w)) z G := by
  obtain ⟨⟨p1, p2, p3, p4, p5, p6⟩, ⟨p7, p8⟩, p9, p10⟩ := h
  refine ⟨⟨⟨by omega, p5, p6⟩, ?_, p10⟩, ?_, ?_⟩
  · intro t ht
    have := p9 t ht
    rw [if_pos (by omega)] at this
    simpa [trec, mu_k] using this
  · rw [mu_s, p4]; congr 1; omega
  · rw [mu_t (by decide)]; exact p8
def mvV (V : mM) (w r : Nat) : mM := mu (mu (mu (mu V 6 0 w (V 6 0 r)) 7 0 w (V 7 0 r)) 8 0 w (V 8 0 r)) 9 0 w (V 9 0 r)
theorem mv_x (hw : w < 50) (hr : r < 50) : fX4_move L (nI r) (nI w) V c = some (mvV V w r) := by
  unfold fX4_move mvV
  simp only [bin_t (show r < 2 ^ 31 by omega) hr, bin_t (show w < 2 ^ 31 by omega) hw, if_true, nIc (show r < 2 ^ 31 by omega), nIc (show w < 2 ^ 31 by omega), mu_k (show (7 : Nat) ≠ 6 by decide), mu_k (show (8 : Nat) ≠ 6 by decide), mu_k (show (8 : Nat) ≠ 7 by decide), mu_k (show (9 : Nat) ≠ 6 by decide), mu_k (show (9 : Nat) ≠ 7 by decide), mu_k (show (9 : Nat) ≠ 8 by decide)]
theorem mvV_k {f : Nat} (h : f < 6 ∨ 9 < f) : mvV V w r f = V f := by
  unfold mvV
  rw [mu_k (by omega), mu_k (by omega), mu_k (by omega), mu_k (by omega)]
theorem mvV_a {f t : Nat} (h : f = 6 ∨ f = 7 ∨ f = 8 ∨ f = 9) : mvV V w r f 0 t = if t = w then V f 0 r else V f 0 t := by
  unfold mvV
  rcases h with rfl | rfl | rfl | rfl
  · rw [mu_k (by decide), mu_k (by decide), mu_k (by decide), mu_app]; simp
  · rw [mu_k (by decide), mu_k (by decide), mu_app, mu_k (by decide)]; simp
  · rw [mu_k (by decide), mu_app, mu_k (by decide), mu_k (by decide)]; simp
  · rw [mu_app, mu_k (by decide), mu_k (by decide), mu_k (by decide)]; simp
theorem TM_mv (h : TM k cnt V z G n w r) (hr : r < n) : TM k cnt (mvV V w r) z G n (w + 1) (r + 1) := by
  obtain ⟨⟨p1, p2, p3, p4, p5, p6⟩, ⟨p7, p8⟩, p9, p10⟩ := h
  refine ⟨⟨by omega, by omega, p3, by omega, p5, p6⟩, ⟨?_, ?_⟩, ?_, p10⟩
  · rw [mvV_k (by decide)]; exact p7
  · rw [mvV_k (by decide)]; exact p8
  · intro t ht
    obtain ⟨q1, q2⟩ := p9 t ht
    refine ⟨?_, q2⟩
    by_cases e : t < w
    · rw [if_pos e] at q1
      rw [if_pos (show t < w + 1 by omega)]
      unfold trec at q1 ⊢
      rw [mvV_a (by simp), mvV_a (by simp), mvV_a (by simp), mvV_a (by simp), if_neg (by omega), if_neg (by omega), if_neg (by omega), if_neg (by omega)]
      exact q1
    · rw [if_neg e] at q1
      by_cases e2 : t = w
      · subst e2
        rw [if_pos (show t < t + 1 by omega)]
        rw [show t + (r - t) = r by omega] at q1
        unfold trec at q1 ⊢
        rw [mvV_a (by simp), mvV_a (by simp), mvV_a (by simp), mvV_a (by simp), if_pos rfl, if_pos rfl, if_pos rfl, if_pos rfl]
        exact q1
      · rw [if_neg (show ¬ t < w + 1 by omega), show t + (r + 1 - (w + 1)) = t + (r - w) by omega]
        unfold trec at q1 ⊢
        rw [mvV_a (by simp), mvV_a (by simp), mvV_a (by simp), mvV_a (by simp), if_neg (by omega), if_neg (by omega), if_neg (by omega), if_neg (by omega)]
        exact q1
/-- the reference's shift -/
def sh (j d t : Nat) : Nat := if j ≤ t ∧ t < j + d then t + 1 else t
theorem forget_lp : ∀ (d j : Nat) (G : mM) (z : mZ), z 0 43 = j + d → z 0 43 < 50 → rG G z → ∀ n : Nat, d < n → ∃ G' z', lpX8_forgetTimer_12 n (nI j) G = some G' ∧ rG G' z' ∧ (∀ f, f < 45 → z' f = z f) ∧ (∀ f, f < 45 → G' f = G f) ∧ ∀ t, z' 45 t = z 45 (sh j d t) ∧ z' 46 t = z 46 (sh j d t) ∧ z' 48 t = z 48 (sh j d t) ∧ G' 47 0 t = G 47 0 (sh j d t)
  | 0, j, G, z, h43, hlt, hG, n, hn => by
    obtain ⟨n, rfl⟩ : ∃ q, n = q + 1 := ⟨n - 1, by omega⟩
    refine ⟨G, z, ?_, hG, fun _ _ => rfl, fun _ _ => rfl, ?_⟩
    · unfold lpX8_forgetTimer_12
      rw [hG 0 43 rfl, if_pos (by rw [nI_leE (by omega) (by omega)]; omega)]
    · intro t
      have : sh j 0 t = t := by unfold sh; rw [if_neg (by omega)]
      rw [this]
      exact ⟨rfl, rfl, rfl, rfl⟩
  | d + 1, j, G, z, h43, hlt, hG, n, hn => by
    obtain ⟨n, rfl⟩ : ∃ q, n = q + 1 := ⟨n - 1, by omega⟩
    have hb1 : bin (nI j) 50 = true := bin_t (by omega) (by omega)
    have hb2 : bin (nI (j + 1)) 50 = true := bin_t (by omega) (by omega)
    have e1 : nI j + 1 = nI (j + 1) := nI_1 j
    have g1 : rG (mu (mu (mu (mu G 45 0 j (nI (z 45 (j + 1)))) 46 0 j (nI (z 46 (j + 1)))) 47 0 j (G 47 0 (j + 1))) 48 0 j (nI (z 48 (j + 1)))) (su (su (su z 45 j (z 45 (j + 1))) 46 j (z 46 (j + 1))) 48 j (z 48 (j + 1))) :=
      rG_mu (rG_mo (rG_mu (rG_mu hG _ _ _ rfl) _ _ _ rfl) rfl) _ _ _ rfl
    have zk : ∀ f, f < 45 → (su (su (su z 45 j (z 45 (j + 1))) 46 j (z 46 (j + 1))) 48 j (z 48 (j + 1))) f = z f := fun f hf => by
      rw [su_k (by omega), su_k (by omega), su_k (by omega)]
    have gk : ∀ f, f < 45 → (mu (mu (mu (mu G 45 0 j (nI (z 45 (j + 1)))) 46 0 j (nI (z 46 (j + 1)))) 47 0 j (G 47 0 (j + 1))) 48 0 j (nI (z 48 (j + 1)))) f = G f := fun f hf => by
      rw [mu_k (by omega), mu_k (by omega), mu_k (by omega), mu_k (by omega)]
    obtain ⟨G', z', q1, q2, q3, q4, q5⟩ := forget_lp d (j + 1) _ _ (by rw [zk 0 (by decide)]; omega) (by rw [zk 0 (by decide)]; omega) g1 n (by omega)
    refine ⟨G', z', ?_, q2, fun f hf => (q3 f hf).trans (zk f hf), fun f hf => (q4 f hf).trans (gk f hf), ?_⟩
    · unfold lpX8_forgetTimer_12
      rw [hG 0 43 rfl, if_neg (by rw [nI_leE (by omega) (by omega)]; omega)]
      simp only [e1, hb1, hb2, if_true, nIc (show j < 2 ^ 31 by omega), nIc (show j + 1 < 2 ^ 31 by omega), mu_k (show (46 : Nat) ≠ 45 by decide), mu_k (show (47 : Nat) ≠ 45 by decide), mu_k (show (47 : Nat) ≠ 46 by decide), mu_k (show (48 : Nat) ≠ 45 by decide), mu_k (show (48 : Nat) ≠ 46 by decide), mu_k (show (48 : Nat) ≠ 47 by decide), hG 45 (j + 1) rfl, hG 46 (j + 1) rfl, hG 48 (j + 1) rfl]
      exact q1
    · intro t
      have e0 : (sh (j + 1) d t = j ∧ sh j (d + 1) t = j + 1) ∨ (¬ sh (j + 1) d t = j ∧ sh j (d + 1) t = sh (j + 1) d t) := by
        unfold sh
        by_cases e : t = j
        · left
          rw [if_neg (show ¬ (j + 1 ≤ t ∧ t < j + 1 + d) by omega), if_pos (show j ≤ t ∧ t < j + (d + 1) by omega)]
          omega
        · right
          by_cases e2 : j + 1 ≤ t ∧ t < j + 1 + d
          · rw [if_pos e2, if_pos (show j ≤ t ∧ t < j + (d + 1) by omega)]
            exact ⟨by omega, rfl⟩
          · rw [if_neg e2, if_neg (show ¬ (j ≤ t ∧ t < j + (d + 1)) by omega)]
            exact ⟨e, rfl⟩
      have e3 : ∀ (F : Nat → Nat), (if sh (j + 1) d t = j then F (j + 1) else F (sh (j + 1) d t)) = F (sh j (d + 1) t) := by
        intro F
        rcases e0 with ⟨u1, u2⟩ | ⟨u1, u2⟩
        · rw [if_pos u1, u2]
        · rw [if_neg u1, u2]
      have e4 : (if sh (j + 1) d t = j then G 47 0 (j + 1) else G 47 0 (sh (j + 1) d t)) = G 47 0 (sh j (d + 1) t) := by
        rcases e0 with ⟨u1, u2⟩ | ⟨u1, u2⟩
        · rw [if_pos u1, u2]
        · rw [if_neg u1, u2]
      obtain ⟨p1, p2, p3, p4⟩ := q5 t
      refine ⟨?_, ?_, ?_, ?_⟩
      · rw [p1, su_k (by decide), su_k (by decide), su_app]; exact e3 (z 45)
      · rw [p2, su_k (by decide), su_app, su_k (by decide)]; exact e3 (z 46)
      · rw [p3, su_app, su_k (by decide), su_k (by decide)]; exact e3 (z 48)
      · rw [p4, mu_k (by decide), mu_app, mu_k (by decide), mu_k (by decide)]
        simp only [true_and]
        exact e4
theorem forget_m (h : TM k cnt V z G n w r) (hr : r < n) (hG : rG G z) : ∃ G' z', fX8_forgetTimer (nI w) G = some G' ∧ rG G' z' ∧ tmf V V G G' z z' ∧ TM k cnt V z' G' n w (r + 1) ∧ (∀ t, w ≤ t → t < z' 0 43 → z 45 w < z' 45 t) ∧ z' 0 43 + 1 = z 0 43 := by
  obtain ⟨⟨p1, p2, p3, p4, p5, p6⟩, ⟨p7, p8⟩, p9, p10⟩ := h
  have e1 : nI (z 0 43) - 1 = nI (z 0 43 - 1) := nI_pre (by omega)
  have g1 : rG (mu G 0 0 43 (nI (z 0 43 - 1))) (su z 0 43 (z 0 43 - 1)) := rG_mu hG _ _ _ rfl
  obtain ⟨G', z', q1, q2, q3, q4, q5⟩ := forget_lp (n - r - 1) w _ _ (by rw [su_s]; omega) (by rw [su_s]; omega) g1 fu (by unfold fu; omega)
  have z43 : z' 0 43 = z 0 43 - 1 := by rw [q3 0 (by decide), su_s]
  have zo : ∀ t, t ≠ 43 → z' 0 t = z 0 t := fun t ht => by rw [q3 0 (by decide), su_i ht]
  have hs : ∀ t, t < z' 0 43 → sh w (n - r - 1) t = if t < w then t else t + 1 := by
    intro t ht
    unfold sh
    by_cases e : t < w
    · rw [if_neg (by omega), if_pos e]
    · rw [if_pos (by omega), if_neg e]
  have s45 : ∀ t, t < z' 0 43 → z' 45 t = z 45 (if t < w then t else t + 1) := fun t ht => by
    rw [(q5 t).1, hs t ht, su_k (by decide)]
  refine ⟨G', z', ?_, q2, ⟨fun _ _ => rfl, fun f hf => ?_, fun t ht => zo t ht.2, fun f hf => ?_⟩, ⟨⟨by omega, by omega, p3, by omega, ?_, ?_⟩, ⟨p7, ?_⟩, ?_, ?_⟩, ?_, by omega⟩
  · unfold fX8_forgetTimer
    rw [hG 0 43 rfl, e1]
    exact q1
  · rw [q3 f (by omega), su_k hf.1]
  · rw [q4 f (by omega), mu_k hf.1]
  · rw [zo 42 (by decide)]; exact p5
  · rw [zo 42 (by decide), zo 6 (by decide)]; omega
  · rw [zo 42 (by decide)]; exact p8
  · intro t ht
    have s46 : z' 46 t = z 46 (if t < w then t else t + 1) := by rw [(q5 t).2.1, hs t ht, su_k (by decide)]
    have s48 : z' 48 t = z 48 (if t < w then t else t + 1) := by rw [(q5 t).2.2.1, hs t ht, su_k (by decide)]
    have s47 : G' 47 0 t = G 47 0 (if t < w then t else t + 1) := by rw [(q5 t).2.2.2, hs t ht, mu_k (by decide)]
    rw [zo 42 (by decide)]
    unfold trec
    rw [s45 t ht, s46, s47, s48]
    by_cases e : t < w
    · have := p9 t (by omega)
      simp only [if_pos e] at this ⊢
      exact this
    · have := p9 (t + 1) (by omega)
      rw [if_neg (show ¬ t + 1 < w by omega), show t + 1 + (r - w) = t + (r + 1 - w) by omega] at this
      simp only [if_neg e]
      exact this
  · intro t t' h1 h2
    rw [s45 t (by omega), s45 t' h2]
    by_cases e : t < w
    · rw [if_pos e]
      by_cases e2 : t' < w
      · rw [if_pos e2]; exact p10 t t' h1 (by omega)
      · rw [if_neg e2]; exact p10 t (t' + 1) (by omega) (by omega)
    · rw [if_neg e, if_neg (by omega)]
      exact p10 (t + 1) (t' + 1) (by omega) (by omega)
  · intro t h1 h2
    rw [s45 t h2, if_neg (by omega)]
    exact p10 w (t + 1) (by omega) (by omega)
end TMS
