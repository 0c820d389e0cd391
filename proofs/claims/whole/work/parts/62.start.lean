/-! a worker takes a batch -/
section STA
variable {w0 cnt k i j U B p n w wt : Nat} {L : Nat → Nat → Nat} {V G V' G' : mM} {c c' : Nat × Nat} {z z' : mZ}
theorem bcp_t {a b d n1 n2 : Nat} (ha : a < 2 ^ 31) (hb : b < 2 ^ 31) (hd : d < 2 ^ 31) (h1 : a + d ≤ n1) (h2 : b + d ≤ n2) : bcp (nI a) (nI b) (nI d) n1 n2 = true := by
  unfold bcp
  rw [nIc ha, nIc hb, nIc hd]
  simp [nI_pos ha, nI_pos hb, nI_pos hd, h1, h2]
/-- row r drops its first n -/
theorem drop_x {r : Nat} (h3 : V 11 r 3 = nI wt) (hn : n ≤ wt) (hw : wt ≤ 32) (hL : wt ≤ L 11 r) : ∃ V', fX1_dropFirst L r (nI n) V c = some V' ∧ (∀ f, f ≠ 11 ∧ f ≠ 12 ∧ f ≠ 13 ∧ f ≠ 14 → V' f = V f) ∧ (∀ f m, m ≠ r → V' f m = V f m) ∧ V' 11 r 3 = nI (wt - n) ∧ ∀ f t, f = 12 ∨ f = 13 ∨ f = 14 → t < wt - n → V' f r t = V f r (t + n) := by
  have e1 : nI wt - nI n = nI (wt - n) := pk_sub hn
  have hb : bcp (nI n) 0 (nI (wt - n)) (L 11 r) (L 11 r) = true := bcp_t (b := 0) (by omega) (by omega) (by omega) (by omega) (by omega)
  have c0 : (0 : Int32).toNatClampNeg = 0 := rfl
  refine ⟨_, by
    unfold fX1_dropFirst
    simp only [h3, e1, hb, if_true, nIc (show n < 2 ^ 31 by omega), nIc (show wt - n < 2 ^ 31 by omega), c0, mv_k (show (13 : Nat) ≠ 12 by decide), mv_k (show (14 : Nat) ≠ 12 by decide), mv_k (show (14 : Nat) ≠ 13 by decide)]
    rfl, fun f hf => ?_, fun f m hm => ?_, ?_, fun f t hf ht => ?_⟩
  · rw [mu_k hf.1, mv_k hf.2.2.2, mv_k hf.2.2.1, mv_k hf.2.1]
  · have hv : ∀ {W : mM} {g : Nat} {x : Nat → Int32}, mv W g r x f m = W f m := by
      intro W g x
      by_cases e : f = g
      · subst e; rw [mv_n hm]
      · rw [mv_k e]
    have hu : ∀ {W : mM} {g t : Nat} {x : Int32}, mu W g r t x f m = W f m := by
      intro W g t x
      by_cases e : f = g
      · subst e; rw [mu_n hm]
      · rw [mu_k e]
    rw [hu, hv, hv, hv]
  · rw [mu_s]
  · have q : 0 ≤ t ∧ t < 0 + (wt - n) := by omega
    have eqt : n + (t - 0) = t + n := by omega
    rcases hf with rfl | rfl | rfl
    · rw [mu_k (by decide), mv_k (by decide), mv_k (by decide), mv_s]
      unfold va_cpy
      rw [if_pos q, eqt]
    · rw [mu_k (by decide), mv_k (by decide), mv_s]
      unfold va_cpy
      rw [if_pos q, eqt]
    · rw [mu_k (by decide), mv_s]
      unfold va_cpy
      rw [if_pos q, eqt]
theorem first_x {r bt : Nat} (h3 : V 11 r 3 = nI wt) (hnb : n = if wt < bt then wt else bt) (hb8 : bt ≤ 8) (hw : wt ≤ 32) (hL : wt ≤ L 11 r) (hL8 : L 11 w = 8) (hrw : r ≠ w) : ∃ V', fX1_becomeFirstOf L w r (nI bt) V c = some V' ∧ (∀ f, f ≠ 11 ∧ f ≠ 12 ∧ f ≠ 13 ∧ f ≠ 14 → V' f = V f) ∧ (∀ f m, m ≠ r ∧ m ≠ w → V' f m = V f m) ∧ V' 11 w 3 = nI n ∧ V' 11 r 3 = nI (wt - n) ∧ (∀ f t, f = 12 ∨ f = 13 ∨ f = 14 → t < n → V' f w t = V f r t) ∧ ∀ f t, f = 12 ∨ f = 13 ∨ f = 14 → t < wt - n → V' f r t = V f r (t + n) := by
  have hn : n ≤ wt ∧ n ≤ 8 := by rw [hnb]; split <;> omega
  have hm : (if (Int32.ofNat (L 11 w)) < (if (V 11 r 3) < nI bt then (V 11 r 3) else nI bt) then (Int32.ofNat (L 11 w)) else (if (V 11 r 3) < nI bt then (V 11 r 3) else nI bt)) = nI n := by
    have hi : (if (V 11 r 3) < nI bt then (V 11 r 3) else nI bt) = nI n := by
      rw [h3, hnb]
      by_cases q : wt < bt
      · rw [if_pos q, if_pos (by rw [nI_ltE (by omega) (by omega)]; exact q)]
      · rw [if_neg q, if_neg (by rw [nI_ltE (by omega) (by omega)]; exact q)]
    rw [hi, hL8, if_neg (by
      show ¬ nI 8 < nI n
      rw [nI_ltE (by omega) (by omega)]; omega)]
  have hb : bcp 0 0 (nI n) (L 11 r) (L 11 w) = true := bcp_t (a := 0) (b := 0) (by omega) (by omega) (by omega) (by omega) (by omega)
  have c0 : (0 : Int32).toNatClampNeg = 0 := rfl
  obtain ⟨V', d1, d2, d3, d4, d5⟩ := drop_x (L := L) (c := c) (r := r) (n := n) (wt := wt) (V := mu (mv (mv (mv V 12 w (va_cpy (V 12 r) (V 12 w) 0 0 n)) 13 w (va_cpy (V 13 r) (V 13 w) 0 0 n)) 14 w (va_cpy (V 14 r) (V 14 w) 0 0 n)) 11 w 3 (nI n)) (by rw [mu_n hrw, mv_k (by decide), mv_k (by decide), mv_k (by decide)]; exact h3) hn.1 hw hL
  refine ⟨V', ?_, fun f hf => ?_, fun f m hmm => ?_, ?_, d4, fun f t hf ht => ?_, fun f t hf ht => ?_⟩
  · unfold fX1_becomeFirstOf
    simp only [hm, hb, if_true, c0, nIc (show n < 2 ^ 31 by omega), mv_k (show (13 : Nat) ≠ 12 by decide), mv_k (show (14 : Nat) ≠ 12 by decide), mv_k (show (14 : Nat) ≠ 13 by decide)]
    rw [d1]
    rfl
  · rw [d2 f hf, mu_k hf.1, mv_k hf.2.2.2, mv_k hf.2.2.1, mv_k hf.2.1]
  · have hv : ∀ {W : mM} {g : Nat} {x : Nat → Int32}, mv W g w x f m = W f m := by
      intro W g x
      by_cases e : f = g
      · subst e; rw [mv_n hmm.2]
      · rw [mv_k e]
    have hu : ∀ {W : mM} {g t : Nat} {x : Int32}, mu W g w t x f m = W f m := by
      intro W g t x
      by_cases e : f = g
      · subst e; rw [mu_n hmm.2]
      · rw [mu_k e]
    rw [d3 f m hmm.1, hu, hv, hv, hv]
  · rw [d3 11 w (fun e => hrw e.symm), mu_s]
  · rw [d3 f w (fun e => hrw e.symm)]
    have q : 0 ≤ t ∧ t < 0 + n := by omega
    have eqt : 0 + (t - 0) = t := by omega
    rcases hf with rfl | rfl | rfl
    · rw [mu_k (by decide), mv_k (by decide), mv_k (by decide), mv_s]
      unfold va_cpy
      rw [if_pos q, eqt]
    · rw [mu_k (by decide), mv_k (by decide), mv_s]
      unfold va_cpy
      rw [if_pos q, eqt]
    · rw [mu_k (by decide), mv_s]
      unfold va_cpy
      rw [if_pos q, eqt]
  · rw [d5 f t hf ht]
    rcases hf with rfl | rfl | rfl
    · rw [mu_k (by decide), mv_k (by decide), mv_k (by decide), mv_n hrw]
    · rw [mu_k (by decide), mv_k (by decide), mv_n hrw, mv_k (by decide)]
    · rw [mu_k (by decide), mv_n hrw, mv_k (by decide), mv_k (by decide)]
/-- the reference copies the first n into the batch -/
theorem cp_lp (hi : i < 8) (hw : w < 32) (hn8 : n ≤ 8) (hn : n ≤ wt) (hwt : wt ≤ 32) : ∀ (d t : Nat) (G : mM) (z : mZ), t + d = n → z 26 i = wt → rG G z → ∀ m : Nat, d < m → ∃ G' z', lpX8_work_90 m (nI i) (nI w) (nI n) (nI t) G = lpX8_work_139 fu (nI i) (nI w) (nI n) 0 (mu G' 26 0 i (nI (wt - n))) ∧ rG G' z' ∧ (∀ f, f ≠ 32 → z' f = z f) ∧ (∀ f, f ≠ 32 → G' f = G f) ∧ ∀ s, z' 32 s = if 8 * w + t ≤ s ∧ s < 8 * w + n then z 27 (32 * i + (s - 8 * w)) else z 32 s
  | 0, t, G, z, hd, h26, hr, m, hm => by
    obtain ⟨m, rfl⟩ : ∃ q, m = q + 1 := ⟨m - 1, by omega⟩
    have hb8 : bin (nI i) 8 = true := bin_t (by omega) hi
    refine ⟨G, z, ?_, hr, fun _ _ => rfl, fun _ _ => rfl, fun s => ?_⟩
    · rw [lpX8_work_90, if_pos (by rw [nI_leE (by omega) (by omega)]; omega), if_pos hb8, if_pos hb8, nIc (by omega), hr 26 i rfl, h26, pk_sub hn]
    · rw [if_neg (by omega)]
  | d + 1, t, G, z, hd, h26, hr, m, hm => by
    obtain ⟨m, rfl⟩ : ∃ q, m = q + 1 := ⟨m - 1, by omega⟩
    have e32 : (32 : Int32) * nI i + nI t = nI (32 * i + t) := by
      rw [show (32 : Int32) = nI 32 from rfl, pk_mul, nI_add]
    have e8 : (8 : Int32) * nI w + nI t = nI (8 * w + t) := by
      rw [show (8 : Int32) = nI 8 from rfl, pk_mul, nI_add]
    have hb1 : bin (nI (32 * i + t)) 256 = true := bin_t (by omega) (by omega)
    have hb2 : bin (nI (8 * w + t)) 256 = true := bin_t (by omega) (by omega)
    have a1 : nI t + 1 = nI (t + 1) := nI_1 t
    obtain ⟨G', z', q1, q2, q3, q4, q5⟩ := cp_lp hi hw hn8 hn hwt d (t + 1) (mu G 32 0 (8 * w + t) (nI (z 27 (32 * i + t)))) (su z 32 (8 * w + t) (z 27 (32 * i + t))) (by omega) (by rw [su_k (by decide)]; exact h26) (rG_mu hr _ _ _ rfl) m (by omega)
    refine ⟨G', z', ?_, q2, fun f hf => by rw [q3 f hf, su_k hf], fun f hf => by rw [q4 f hf, mu_k hf], fun s => ?_⟩
    · rw [lpX8_work_90, if_neg (by rw [nI_leE (by omega) (by omega)]; omega), e32, if_pos hb1, e8, if_pos hb2, nIc (by omega), nIc (by omega), hr 27 _ rfl, a1]
      exact q1
    · rw [q5 s]
      by_cases c1 : 8 * w + (t + 1) ≤ s ∧ s < 8 * w + n
      · rw [if_pos c1, if_pos (by omega), su_k (by decide)]
      · rw [if_neg c1]
        by_cases c2 : s = 8 * w + t
        · subst c2
          rw [su_s, if_pos (by omega)]
          congr 1
          omega
        · rw [su_i c2, if_neg (by omega)]
/-- .. and shifts the rest -/
theorem s2_lp (hi : i < 8) (hw : w < 32) (hn8 : n ≤ 8) {m0 co : Nat} (hm0 : m0 + n ≤ 32) (hco : co ≤ 9) : ∀ (d t : Nat) (G : mM) (z : mZ), t + d = m0 → z 26 i = m0 → z 21 i = co → rG G z → ∀ m : Nat, d < m → ∃ G' z', lpX8_work_139 m (nI i) (nI w) (nI n) (nI t) G = jnX8_work_203 (nI w) (mu (mu G' 31 0 w (nI n)) 33 0 w (nI (co * n))) ∧ rG G' z' ∧ (∀ f, f ≠ 27 → z' f = z f) ∧ (∀ f, f ≠ 27 → G' f = G f) ∧ ∀ s, z' 27 s = if 32 * i + t ≤ s ∧ s < 32 * i + m0 then z 27 (s + n) else z 27 s
  | 0, t, G, z, hd, h26, h21, hr, m, hm => by
    obtain ⟨m, rfl⟩ : ∃ q, m = q + 1 := ⟨m - 1, by omega⟩
    have hb8 : bin (nI i) 8 = true := bin_t (by omega) hi
    have hb32 : bin (nI w) 32 = true := bin_t (by omega) hw
    refine ⟨G, z, ?_, hr, fun _ _ => rfl, fun _ _ => rfl, fun s => ?_⟩
    · rw [lpX8_work_139, if_pos hb8, nIc (by omega), hr 26 i rfl, h26, if_pos (by rw [nI_leE (by omega) (by omega)]; omega), if_pos hb32, if_pos hb8, if_pos hb32, nIc (by omega), mu_k (show (21 : Nat) ≠ 31 by decide), hr 21 i rfl, h21, pk_mul]
    · rw [if_neg (by omega)]
  | d + 1, t, G, z, hd, h26, h21, hr, m, hm => by
    obtain ⟨m, rfl⟩ : ∃ q, m = q + 1 := ⟨m - 1, by omega⟩
    have hb8 : bin (nI i) 8 = true := bin_t (by omega) hi
    have e32 : (32 : Int32) * nI i + nI t = nI (32 * i + t) := by
      rw [show (32 : Int32) = nI 32 from rfl, pk_mul, nI_add]
    have e33 : nI (32 * i + t) + nI n = nI (32 * i + t + n) := nI_add _ _
    have hb1 : bin (nI (32 * i + t)) 256 = true := bin_t (by omega) (by omega)
    have hb2 : bin (nI (32 * i + t + n)) 256 = true := bin_t (by omega) (by omega)
    have a1 : nI t + 1 = nI (t + 1) := nI_1 t
    obtain ⟨G', z', q1, q2, q3, q4, q5⟩ := s2_lp hi hw hn8 hm0 hco d (t + 1) (mu G 27 0 (32 * i + t) (nI (z 27 (32 * i + t + n)))) (su z 27 (32 * i + t) (z 27 (32 * i + t + n))) (by omega) (by rw [su_k (by decide)]; exact h26) (by rw [su_k (by decide)]; exact h21) (rG_mu hr _ _ _ rfl) m (by omega)
    refine ⟨G', z', ?_, q2, fun f hf => by rw [q3 f hf, su_k hf], fun f hf => by rw [q4 f hf, mu_k hf], fun s => ?_⟩
    · rw [lpX8_work_139, if_pos hb8, nIc (by omega), hr 26 i rfl, h26, if_neg (by rw [nI_leE (by omega) (by omega)]; omega), e32, e33, if_pos hb2, if_pos hb1, nIc (by omega), nIc (by omega), hr 27 _ rfl, a1]
      exact q1
    · rw [q5 s]
      by_cases c1 : 32 * i + (t + 1) ≤ s ∧ s < 32 * i + m0
      · rw [if_pos c1, if_pos (by omega), su_i (by omega)]
      · rw [if_neg c1]
        by_cases c2 : s = 32 * i + t
        · subst c2
          rw [su_s, if_pos (by omega)]
        · rw [su_i c2, if_neg (by omega)]
theorem start_m {co : Nat} (hi : i < 8) (hw : w < 32) (hn8 : n ≤ 8) (hn : n ≤ wt) (hwt : wt ≤ 32) (hco : co ≤ 9) (h26 : z 26 i = wt) (h21 : z 21 i = co) (hr : rG G z) : ∃ G' z', lpX8_work_90 fu (nI i) (nI w) (nI n) 0 G = jnX8_work_203 (nI w) G' ∧ rG G' z' ∧ (∀ f, f ≠ 26 ∧ f ≠ 27 ∧ f ≠ 31 ∧ f ≠ 32 ∧ f ≠ 33 → z' f = z f) ∧ (∀ f, f ≠ 26 ∧ f ≠ 27 ∧ f ≠ 31 ∧ f ≠ 32 ∧ f ≠ 33 → G' f = G f) ∧ (z' 26 i = wt - n ∧ ∀ i', i' ≠ i → z' 26 i' = z 26 i') ∧ (z' 31 w = n ∧ ∀ w', w' ≠ w → z' 31 w' = z 31 w') ∧ (z' 33 w = co * n ∧ ∀ w', w' ≠ w → z' 33 w' = z 33 w') ∧ (∀ s, z' 32 s = if 8 * w ≤ s ∧ s < 8 * w + n then z 27 (32 * i + (s - 8 * w)) else z 32 s) ∧ ∀ s, z' 27 s = if 32 * i ≤ s ∧ s < 32 * i + (wt - n) then z 27 (s + n) else z 27 s := by
  obtain ⟨G1, z1, q1, q2, q3, q4, q5⟩ := cp_lp hi hw hn8 hn hwt n 0 G z (by omega) h26 hr fu (by unfold fu; omega)
  obtain ⟨G2, z2, r1, r2, r3, r4, r5⟩ := s2_lp hi hw hn8 (m0 := wt - n) (co := co) (by omega) hco (wt - n) 0 (mu G1 26 0 i (nI (wt - n))) (su z1 26 i (wt - n)) (by omega) su_s (by rw [su_k (by decide), q3 21 (by decide)]; exact h21) (rG_mu q2 _ _ _ rfl) fu (by unfold fu; omega)
  have e26 : z2 26 = su z1 26 i (wt - n) 26 := r3 26 (by decide)
  refine ⟨mu (mu G2 31 0 w (nI n)) 33 0 w (nI (co * n)), su (su z2 31 w n) 33 w (co * n), q1.trans r1, rG_mu (rG_mu r2 _ _ _ rfl) _ _ _ rfl, fun f hf => ?_, fun f hf => ?_, ⟨?_, fun i' hi' => ?_⟩, ⟨?_, fun w' hw' => ?_⟩, ⟨?_, fun w' hw' => ?_⟩, fun s => ?_, fun s => ?_⟩
  · rw [su_k (by omega), su_k (by omega), r3 f (by omega), su_k (by omega), q3 f (by omega)]
  · rw [mu_k (by omega), mu_k (by omega), r4 f (by omega), mu_k (by omega), q4 f (by omega)]
  · rw [su_k (by decide), su_k (by decide), e26, su_s]
  · rw [su_k (by decide), su_k (by decide), e26, su_i hi', q3 26 (by decide)]
  · rw [su_k (by decide), su_s]
  · rw [su_k (by decide), su_i hw', r3 31 (by decide), su_k (by decide), q3 31 (by decide)]
  · rw [su_s]
  · rw [su_i hw', su_k (by decide), r3 33 (by decide), su_k (by decide), q3 33 (by decide)]
  · rw [su_k (by decide), su_k (by decide), r3 32 (by decide), su_k (by decide), q5]
    rfl
  · rw [su_k (by decide), su_k (by decide), r5, su_k (by decide), q3 27 (by decide)]
    rfl
/-- the batch is taken -/
theorem rel1_start (h : Rel1 32 cnt L V c G z) (hi : i < cnt) (hw : wk cnt z w) (h34 : z 34 w = 0) (hn8 : n ≤ 8) (hn : n ≤ z 26 i)
    (hV : ∀ f, f ≠ 11 ∧ f ≠ 12 ∧ f ≠ 13 ∧ f ≠ 14 ∧ f ≠ 16 → V' f = V f) (hVn : ∀ f m, m ≠ 32 + i ∧ m ≠ w → V' f m = V f m) (hV1 : V' 11 w 3 = nI n) (hV2 : V' 11 (32 + i) 3 = nI (z 26 i - n)) (hV3 : ∀ f t, f = 12 ∨ f = 13 ∨ f = 14 → t < n → V' f w t = V f (32 + i) t) (hV4 : ∀ f t, f = 12 ∨ f = 13 ∨ f = 14 → t < z 26 i - n → V' f (32 + i) t = V f (32 + i) (t + n)) (hV5 : V' 16 w 2 = nI (z 21 i * n)) (hV6 : ∀ t, t ≠ 2 → V' 16 w t = V 16 w t)
    (hr : rG G' z') (zk : ∀ f, f ≠ 26 ∧ f ≠ 27 ∧ f ≠ 31 ∧ f ≠ 32 ∧ f ≠ 33 → z' f = z f) (gk : ∀ f, f ≠ 26 ∧ f ≠ 27 ∧ f ≠ 31 ∧ f ≠ 32 ∧ f ≠ 33 → G' f = G f) (z26 : z' 26 i = z 26 i - n ∧ ∀ i', i' ≠ i → z' 26 i' = z 26 i') (z31 : z' 31 w = n ∧ ∀ w', w' ≠ w → z' 31 w' = z 31 w') (z33 : z' 33 w = z 21 i * n ∧ ∀ w', w' ≠ w → z' 33 w' = z 33 w') (z32 : ∀ s, z' 32 s = if 8 * w ≤ s ∧ s < 8 * w + n then z 27 (32 * i + (s - 8 * w)) else z 32 s) (z27 : ∀ s, z' 27 s = if 32 * i ≤ s ∧ s < 32 * i + (z 26 i - n) then z 27 (s + n) else z 27 s) : Rel1 32 cnt L V' c G' z' := by
  have hwl := wk_lt h hw
  obtain ⟨h1, h2, h3, h4, h5, h6, h7, h8, h9, h10, h11, h12, h13, h15, h17, h18, h20⟩ := h
  have h21 := (h7 i hi).1.2.2.2.2.2.1
  have h88 := h2.1.2.2
  refine ⟨hr, ?_, ?_, ?_, ?_, ?_, ?_, ?_, ?_, ?_, ?_, ?_, ?_, ?_, ?_, ?_, h20⟩
  · unfold RA1; rw [hV 2 (by decide), hV 10 (by decide), hV 4 (by decide), zk 0 (by decide)]; exact h2
  · intro i' t hi' ht
    have := sf_ge t
    rw [hV 3 (by decide), zk _ (by omega)]
    exact h3 i' t hi' ht
  · intro i' t hi' ht
    rw [hV 3 (by decide)]
    have e : so t ≠ 26 ∧ so t ≠ 27 ∧ so t ≠ 31 ∧ so t ≠ 32 ∧ so t ≠ 33 := by
      have := so_ge t
      omega
    rw [gk _ e]
    exact h4 i' t hi' ht
  · intro i' hi'
    by_cases e : i' = i
    · subst e; rw [hV2, z26.1]
    · rw [hVn 11 _ (by omega), z26.2 i' e]; exact h5 i' hi'
  · unfold RTs; rw [hV 21 (by decide), zk 28 (by decide)]; exact h6
  · intro i' hi'
    have := h7 i' hi'
    unfold rrb at this ⊢
    rw [zk 9 (by decide), zk 12 (by decide), zk 13 (by decide), zk 14 (by decide), zk 15 (by decide), zk 16 (by decide), zk 17 (by decide), zk 18 (by decide), zk 19 (by decide), zk 20 (by decide), zk 21 (by decide), zk 22 (by decide), zk 28 (by decide), gk 10 (by decide), gk 11 (by decide)]
    by_cases e : i' = i
    · subst e
      rw [z26.1]
      exact ⟨this.1, ⟨by omega, this.2.1.2⟩, this.2.2⟩
    · rw [z26.2 i' e]; exact this
  · refine ⟨fun i' hi' => ?_, fun w' hw' => ?_⟩
    · rw [zk 13 (by decide), zk 17 (by decide), zk 22 (by decide), z26.2 i' (by omega), zk 28 (by decide), gk 23 (by decide), gk 24 (by decide), gk 25 (by decide)]; exact h8.1 i' hi'
    · rw [z31.2 w' (by omega), z33.2 w' (by omega), zk 34 (by decide), zk 41 (by decide), zk 42 (by decide)]; exact h8.2 w' hw'
  · intro i' hi'
    have r := h9 i' hi'
    by_cases e : i' = i
    · subst e
      rw [z26.1]
      intro t ht
      rw [hV4 12 t (by simp) ht, hV4 13 t (by simp) ht, hV4 14 t (by simp) ht, z27, if_pos (by omega), zk 4 (by decide), zk 0 (by decide), gk 3 (by decide), show 32 * i' + t + n = 32 * i' + (t + n) by omega]
      exact r (t + n) (by omega)
    · rw [z26.2 i' e]
      intro t ht
      have q1 := (h7 i' hi').1.2.2.1
      have q2 := (h7 i' hi').2.1.1
      have q3 := (h7 i hi).1.2.2.1
      have q4 := (h7 i hi).2.1.1
      rw [hVn 12 _ (by omega), hVn 13 _ (by omega), hVn 14 _ (by omega), z27, if_neg (by omega), zk 4 (by decide), zk 0 (by decide), gk 3 (by decide)]
      exact r t ht
  · intro i' j' hi' hj'
    rw [zk 18 (by decide)] at hj'
    have hw4 := RR_w h7 hi' hj'
    obtain ⟨⟨q1, q2, q3, q4⟩, q5, q6, q7, q8⟩ := h10 i' j' hi' hj'
    rw [zk 34 (by decide), zk 41 (by decide)]
    by_cases e : 4 * i' + j' = w
    · rw [e] at q1 q2 q3 q4 q5 q6 q7 q8 ⊢
      rw [hV1, hV5, hV6 3 (by decide), hV6 4 (by decide), z31.1, z33.1]
      refine ⟨⟨rfl, rfl, q3, q4⟩, hn8, ?_, q7, fun h0 => ⟨by rw [h0]; rfl, h34⟩⟩
      calc z 21 i * n ≤ 9 * 8 := Nat.mul_le_mul h21 hn8
        _ = 72 := rfl
    · rw [hVn 11 _ (by omega), hVn 16 _ (by omega), z31.2 _ e, z33.2 _ e]
      exact ⟨⟨q1, q2, q3, q4⟩, q5, q6, q7, q8⟩
  · intro i' j' hi' hj'
    rw [zk 18 (by decide)] at hj'
    have hw4 := RR_w h7 hi' hj'
    by_cases e : 4 * i' + j' = w
    · rw [e, z31.1]
      intro t ht
      rw [hV3 12 t (by simp) ht, hV3 13 t (by simp) ht, hV3 14 t (by simp) ht, z32, if_pos (by omega), zk 4 (by decide), zk 0 (by decide), gk 3 (by decide), show 8 * w + t - 8 * w = t by omega]
      exact h9 i hi t (by omega)
    · have q := (h10 i' j' hi' hj').2.1
      rw [z31.2 _ e]
      intro t ht
      rw [hVn 12 _ (by omega), hVn 13 _ (by omega), hVn 14 _ (by omega), z32, if_neg (by omega), zk 4 (by decide), zk 0 (by decide), gk 3 (by decide)]
      exact h11 i' j' hi' hj' t ht
  · unfold RWx gf; rw [hV 17 (by decide), hV 18 (by decide), hV 19 (by decide), hV 20 (by decide), zk 18 (by decide), zk 34 (by decide), zk 35 (by decide), zk 36 (by decide), zk 38 (by decide), zk 39 (by decide), zk 4 (by decide), zk 0 (by decide), gk 3 (by decide), gk 37 (by decide), gk 40 (by decide)]; exact h12
  · intro i' j' hi' hj' hj2
    rw [zk 18 (by decide)] at hj'
    rw [zk 19 (by decide)] at hj2
    have e := wk_ne h7 hw hi' hj' hj2
    have q1 := (h7 i' hi').1.2.2.2.2.1
    rw [hVn 11 _ (by omega), hVn 16 _ (by omega), hV 17 (by decide), z31.2 _ e, zk 34 (by decide)]
    exact h13 i' j' hi' hj' hj2
  · unfold RT; rw [hV 22 (by decide), zk 28 (by decide), zk 29 (by decide)]; exact h15
  · unfold RD; rw [hV 0 (by decide), hV 1 (by decide), zk 6 (by decide), zk 0 (by decide), gk 3 (by decide)]; exact h17
  · unfold RE; rw [zk 4 (by decide), zk 0 (by decide)]; exact h18
end STA
