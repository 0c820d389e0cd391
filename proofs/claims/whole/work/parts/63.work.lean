/-! a worker's step -/
section WRK
variable {w0 cnt k i j U B p n w wt : Nat} {L : Nat → Nat → Nat} {V G V' G' : mM} {c c' : Nat × Nat} {z z' : mZ}
/-- the last of the step: how long idle, how long there -/
theorem idle_ok (h : Rel1 32 cnt L V c G z) (hi : i < cnt) (hwk : j < z 18 i ∧ w = 4 * i + j) (hM : RM1 k cnt V z G) (hI : RI cnt w z) (hN : NP U z G) : ∃ V' G' z', jnX7_letWork_31 L w V c = some (V', c) ∧ jnX8_work_203 (nI w) G = some G' ∧ Rel1 32 cnt L V' c G' z' ∧ RM1 k cnt V' z' G' ∧ RI cnt (w + 1) z' ∧ NP U z' G' ∧ z' 0 0 = z 0 0 ∧ z' 18 = z 18 ∧ ((∀ w', w' ≠ w → z' 42 w' = z 42 w') ∧ 1 ≤ z' 42 w) := by
  have hwk' : wk cnt z w := ⟨i, j, hi, hwk.1, hwk.2⟩
  have hw := (wk_lt h hwk').1
  have hR := h.2.2.2.2.2.2.1
  have hb32 : bin (nI w) 32 = true := bin_t (by omega) hw
  have hW := h.2.2.2.2.2.2.2.2.2.1 i j hi hwk.1
  rw [← hwk.2] at hW
  have h31 := hW.2.1
  have hIw := (hI i j hi hwk.1).2 (by omega)
  rw [← hwk.2] at hIw
  obtain ⟨y, hy⟩ : ∃ y, y = if z 31 w = 0 then z 41 w + 1 else 0 := ⟨_, rfl⟩
  have hyl : y ≤ z 0 0 := by rw [hy]; split <;> omega
  have e42 : nI (z 42 w) + 1 = nI (z 42 w + 1) := nI_1 _
  have e41 : nI (z 41 w) + 1 = nI (z 41 w + 1) := nI_1 _
  have g1 := rel1_16 (t := 3) (f := 41) (y := y) h hwk' (by simp) (fun e => absurd e (by decide))
  have hwk2 : wk cnt (su z 41 w y) w := by
    unfold wk
    rw [su_k (by decide)]
    exact hwk'
  have g2 := rel1_42 (y := z 42 w + 1) g1 hwk2
  refine ⟨mu V 16 w 3 (nI y), mu (mu G 41 0 w (nI y)) 42 0 w (nI (z 42 w + 1)), su (su z 41 w y) 42 w (z 42 w + 1), ?_, ?_, g2, ?_, ?_, ?_, ?_, ?_, fun w' hw' => ?_, ?_⟩
  · unfold jnX7_letWork_31
    rw [hW.1.1, hW.1.2.2.1]
    by_cases h0 : z 31 w = 0
    · rw [if_pos h0] at hy
      rw [h0, if_pos nI_0, e41, hy]
    · rw [if_neg h0] at hy
      rw [if_neg (by rw [nI_z (by omega)]; exact h0), hy]
      rfl
  · unfold jnX8_work_203
    simp only [hb32, if_true, nIc (show w < 2 ^ 31 by omega), h.1 31 w rfl, h.1 41 w rfl, mu_k (show (42 : Nat) ≠ 41 by decide), h.1 42 w rfl, e42, e41]
    by_cases h0 : z 31 w = 0
    · rw [if_pos h0] at hy
      rw [h0, if_pos nI_0, hy]
    · rw [if_neg h0] at hy
      rw [if_neg (by rw [nI_z (by omega)]; exact h0), hy]
      rfl
  · simpa [RM1, RM, mu_k, su_k] using hM
  · intro i' j' hi' hj'
    rw [su_k (by decide), su_k (by decide)] at hj'
    have hw4 := RR_w hR hi' hj'
    have q := hI i' j' hi' hj'
    have z0 : su (su z 41 w y) 42 w (z 42 w + 1) 0 0 = z 0 0 := by rw [su_k (by decide), su_k (by decide)]
    have z41 : ∀ s, su (su z 41 w y) 42 w (z 42 w + 1) 41 s = if s = w then y else z 41 s := fun s => by rw [su_k (by decide), su_app]
    have z42 : ∀ s, su (su z 41 w y) 42 w (z 42 w + 1) 42 s = if s = w then z 42 w + 1 else z 42 s := fun s => by rw [su_app, su_k (by decide)]
    rw [z0, z41, z42]
    by_cases e : 4 * i' + j' = w
    · have hji : j' = j := by
        have := hwk.2
        have hw4' := RR_w hR hi hwk.1
        omega
      rw [if_pos e, if_pos e]
      refine ⟨fun _ => ⟨hyl, hIw.2.1, fun hj1 => hIw.2.2 (by omega)⟩, fun hp => absurd hp (by omega)⟩
    · rw [if_neg e, if_neg e]
      exact ⟨fun hp => q.1 (by omega), fun hp => q.2 (by omega)⟩
  · obtain ⟨n1, n2, n3, n4⟩ := hN
    have ep : pend (su (su z 41 w y) 42 w (z 42 w + 1)) (mu (mu G 41 0 w (nI y)) 42 0 w (nI (z 42 w + 1))) = pend z G := by
      funext w'
      unfold pend
      rw [su_k (by decide), su_k (by decide), su_k (by decide), su_k (by decide), mu_k (by decide), mu_k (by decide)]
    unfold NP RS
    rw [ep, su_k (by decide), su_k (by decide), su_k (by decide), su_k (by decide)]
    exact ⟨n1, n2, n3, n4⟩
  · rw [su_k (by decide), su_k (by decide)]
  · rw [su_k (by decide), su_k (by decide)]
  · rw [su_i hw', su_k (by decide)]
  · rw [su_s]; omega
/-- the second half of the step -/
theorem half_ok (h : Rel1 32 cnt L V c G z) (hi : i < cnt) (hwk : j < z 18 i ∧ w = 4 * i + j) (hM : RM1 k cnt V z G) (hI : RI cnt w z) (hN : z 0 0 ≤ 400 ∧ U + 1 ≤ 12800 ∧ z 0 4 ≤ 8 * U + 8 ∧ RS (8 * U) z G) : ∃ V' G' z', jnX7_letWork_16 L i w V c = some (V', c) ∧ jnX8_work_47 (nI i) (nI w) G = some G' ∧ Rel1 32 cnt L V' c G' z' ∧ RM1 k cnt V' z' G' ∧ RI cnt (w + 1) z' ∧ NP (U + 1) z' G' ∧ z' 0 0 = z 0 0 ∧ z' 18 = z 18 ∧ ((∀ w', w' ≠ w → z' 42 w' = z 42 w') ∧ 1 ≤ z' 42 w) := by
  have hwk' : wk cnt z w := ⟨i, j, hi, hwk.1, hwk.2⟩
  have h8 := h.2.1.1.2.2
  have hwl := wk_lt h hwk'
  have hw := hwl.1
  have hR := h.2.2.2.2.2.2.1 i hi
  have hb32 : bin (nI w) 32 = true := bin_t (by omega) hw
  have hb8 : bin (nI i) 8 = true := bin_t (by omega) (by omega)
  have hW := h.2.2.2.2.2.2.2.2.2.1 i j hi hwk.1
  rw [← hwk.2] at hW
  have h31 := hW.2.1
  obtain ⟨n1, n2, n3, n4⟩ := hN
  by_cases h0 : z 31 w = 0
  · have h34 : z 34 w = 0 := (hW.2.2.2.2 h0).2
    have hwt : z 26 i ≤ 32 := by have := hR.1.2.2.1; have := hR.2.1.1; omega
    have hbt : z 20 i ≤ 8 := hR.2.2.1.2.2.2.1
    have hL := hR.2.2.2.1.2
    have hL8 := h.2.2.2.2.2.2.2.2.2.2.2.2.2.2.2.2 w hwl.2
    obtain ⟨n, hn⟩ : ∃ n, n = if z 26 i < z 20 i then z 26 i else z 20 i := ⟨_, rfl⟩
    have hn1 : n ≤ z 26 i ∧ n ≤ 8 := by rw [hn]; split <;> omega
    obtain ⟨V1, a1, a2, a3, a4, a5, a6, a7⟩ := first_x (L := L) (c := c) (w := w) (r := 32 + i) (h.2.2.2.2.1 i hi) hn hbt hwt (by rw [hL]; have := hR.2.1.1; omega) hL8 (by omega)
    obtain ⟨G1, z1, b1, b2, b3, b4, b5, b6, b7, b8, b9⟩ := start_m (i := i) (w := w) (n := n) (wt := z 26 i) (co := z 21 i) (by omega) hw hn1.2 hn1.1 hwt hR.1.2.2.2.2.2.1 rfl rfl h.1
    have r1 : Rel1 32 cnt L (mu V1 16 w 2 (nI (z 21 i * n))) c G1 z1 := by
      refine rel1_start (i := i) (w := w) (n := n) h hi hwk' h34 hn1.2 hn1.1 (fun f hf => ?_) (fun f m hm => ?_) ?_ ?_ (fun f t hf ht => ?_) (fun f t hf ht => ?_) mu_s (fun t ht => ?_) b2 b3 b4 b5 b6 b7 b8 b9
      · rw [mu_k hf.2.2.2.2, a2 f (by omega)]
      · by_cases e : f = 16
        · subst e; rw [mu_n hm.2, a3 16 m hm]
        · rw [mu_k e, a3 f m hm]
      · rw [mu_k (by decide)]; exact a4
      · rw [mu_k (by decide)]; exact a5
      · rw [mu_k (by omega)]; exact a6 f t hf ht
      · rw [mu_k (by omega)]; exact a7 f t hf ht
      · rw [mu_t ht, a2 16 (by decide)]
    have m1 : RM1 k cnt (mu V1 16 w 2 (nI (z 21 i * n))) z1 G1 := by
      unfold RM1 RM
      rw [mu_k (by decide), mu_k (by decide), mu_k (by decide), mu_k (by decide), mu_k (by decide), a2 5 (by decide), a2 6 (by decide), a2 7 (by decide), a2 8 (by decide), a2 9 (by decide), b3 0 (by decide), b3 45 (by decide), b3 46 (by decide), b3 48 (by decide), b4 47 (by decide)]
      exact hM
    have i1 : RI cnt w z1 := by
      unfold RI
      rw [b3 0 (by decide), b3 18 (by decide), b3 41 (by decide), b3 42 (by decide)]
      exact hI
    have p1 : NP (U + 1) z1 G1 := by
      have ep : pend z1 G1 = pend z G := by
        funext w'
        unfold pend
        rw [b3 34 (by decide), b3 36 (by decide), b4 40 (by decide)]
      have es := sumN_upd (f := z 26) (g := z1 26) (i := i) b5.2 (show i < 8 by omega)
      rw [b5.1] at es
      unfold NP RS
      unfold RS at n4
      rw [ep, b3 0 (by decide)]
      exact ⟨n1, n2, by omega, by omega⟩
    obtain ⟨V', G', z', c1, c2, c3, c4, c5, c6, c7, c8, c9, c10⟩ := idle_ok r1 hi (by rw [b3 18 (by decide)]; exact hwk) m1 i1 p1
    refine ⟨V', G', z', ?_, ?_, c3, c4, c5, c6, by rw [c7, b3 0 (by decide)], by rw [c8, b3 18 (by decide)], fun w' hw' => by rw [c9 w' hw', b3 42 (by decide)], c10⟩
    · unfold jnX7_letWork_16 fX3_startBatch
      have v15 : V 3 i 15 = nI (z 20 i) := h.2.2.1 i 15 hi rfl
      have v2 : V1 3 i 2 = nI (z 21 i) := by rw [a2 3 (by decide)]; exact h.2.2.1 i 2 hi rfl
      rw [hW.1.1, h0, if_pos nI_0, v15, a1]
      simp only [Option.bind_some]
      rw [v2, a4, pk_mul]
      exact c1
    · unfold jnX8_work_47
      rw [if_pos hb32, nIc (by omega), h.1 31 w rfl, h0, if_pos nI_0, if_pos hb8, if_pos hb8, nIc (by omega), h.1 20 i rfl, h.1 26 i rfl]
      unfold jnX8_work_86
      rw [if_pos hb8, if_pos hb8]
      have b1' : lpX8_work_90 fu (nI i) (nI w) (nI n) 0 G = some G' := b1.trans c2
      by_cases q : z 26 i < z 20 i
      · rw [if_pos q] at hn
        rw [if_neg (by rw [nI_leE (by omega) (by omega)]; omega), ← hn]
        exact b1'
      · rw [if_neg q] at hn
        rw [if_pos (by rw [nI_leE (by omega) (by omega)]; omega), ← hn]
        exact b1'
  · have hn0 : ¬ nI (z 31 w) = 0 := by rw [nI_z (by omega)]; exact h0
    have p1 : NP (U + 1) z G := by
      unfold RS at n4
      unfold NP RS
      exact ⟨n1, n2, by omega, by omega⟩
    obtain ⟨V', G', z', c1, c2, c3⟩ := idle_ok h hi hwk hM hI p1
    refine ⟨V', G', z', ?_, ?_, c3⟩
    · unfold jnX7_letWork_16
      rw [hW.1.1, if_neg hn0]
      exact c1
    · unfold jnX8_work_47
      rw [if_pos hb32, nIc (by omega), h.1 31 w rfl, if_neg hn0]
      exact c2
/-- a relation that leaves worker w's gifts out, from one that doesn't -/
theorem rel1_ex (h : Rel1 32 cnt L V c G z) : Rel1 w cnt L V c G z := by
  have h88 := h.2.1.1.2.2
  obtain ⟨h1, h2, h3, h4, h5, h6, h7, h8, h9, h10, h11, h12, h13, h15, h17, h18, h20⟩ := h
  refine ⟨h1, h2, h3, h4, h5, h6, h7, h8, h9, h10, h11, fun i j hi hj _ => ?_, h13, h15, h17, h18, h20⟩
  have := RR_w h7 hi hj
  exact h12 i j hi hj (by omega)
theorem rel1_in (h : Rel1 w cnt L V c G z) (hg : gf cnt V z G w) : Rel1 32 cnt L V c G z := by
  obtain ⟨h1, h2, h3, h4, h5, h6, h7, h8, h9, h10, h11, h12, h13, h15, h17, h18, h20⟩ := h
  refine ⟨h1, h2, h3, h4, h5, h6, h7, h8, h9, h10, h11, fun i j hi hj _ => ?_, h13, h15, h17, h18, h20⟩
  by_cases e : 4 * i + j = w
  · rw [e]; exact hg
  · exact h12 i j hi hj e
theorem rel1_gf (h : Rel1 32 cnt L V c G z) (hi : i < cnt) (hwk : j < z 18 i ∧ w = 4 * i + j) : gf cnt V z G w := by
  have h88 := h.2.1.1.2.2
  have := RR_w h.2.2.2.2.2.2.1 hi hwk.1
  rw [hwk.2]
  exact h.2.2.2.2.2.2.2.2.2.2.2.1 i j hi hwk.1 (by omega)
/-- offers, and the end of the batch when all were taken -/
theorem gives_ok (hk : k ≤ 512) (h : Rel1 w cnt L V c G z) (hi : i < cnt) (hwk : j < z 18 i ∧ w = 4 * i + j) (hM : RM1 k cnt V z G) (hI : RI cnt p z) (hU : U + 1 ≤ 12800) (hz : gz cnt V z G w) (hs : (gn V z G w ∧ NPw U w 0 z G) ∨ ∃ e, gp V z G w e ∧ NPw U w 1 z G) (h34 : z 34 w = 1) (hn0 : 1 ≤ z 31 w) (h33 : z 33 w = 0) : ∃ V' c' G' z', jnX7_workOnBatch_42 L i w V c = some (V', c') ∧ jnX8_give_15 (nI i) (nI w) G = some G' ∧ Rel1 32 cnt L V' c' G' z' ∧ RM1 k cnt V' z' G' ∧ RI cnt p z' ∧ (z' 0 0 = z 0 0 ∧ z' 0 4 ≤ 8 * U + 8 ∧ RS (8 * U) z' G') ∧ z' 18 = z 18 ∧ z' 42 = z 42 := by
  have hwk' : wk cnt z w := ⟨i, j, hi, hwk.1, hwk.2⟩
  have hw := (wk_lt h hwk').1
  have hb32 : bin (nI w) 32 = true := bin_t (by omega) hw
  have h36 := hz.1.2.2
  obtain ⟨res, V1, G1, z1, a1, a2, a3, a4, a5, a6, a7, a8⟩ := off_lp (x1 := nI i) hk (z 35 w - z 36 w) V G z (by omega) hwk' h hM hI hz hs fu fu (by unfold fu; omega) (by unfold fu; omega)
  obtain ⟨⟨k18, k31, k33, k34⟩, ⟨k41, k42, k9⟩, k00, k04⟩ := id a7
  have h35 := a6.1.2.2.2
  rcases a8 with ⟨rfl, hend, hN⟩ | ⟨rfl, e, hp, hN⟩
  · have hl6 : z1 0 6 ≤ 512 := by have := a4.1.1; omega
    have hlt : z1 0 1 ≤ 103300 := RSw_lt (hq := by omega) hN.2.2.2 hN.2.1 a3.2.2.2.2.2.2.1 a3.2.2.2.2.2.2.2.1 hl6
    obtain ⟨V', c', G', z', b1, b2, b3, b4, b5, b6, b7⟩ := finish_ok a3 hi (by rw [k18]; exact hwk) a4 a5 hN hU hlt (by rw [k31]; exact hn0) (by rw [k33]; exact h33)
    refine ⟨V', c', G', z', ?_, ?_, b3, b4, b5, ⟨by rw [b6.1, k00], b6.2⟩, by rw [b7.1, k18], by rw [b7.2.2.2.2.2, k42]⟩
    · unfold jnX7_workOnBatch_42 fX7_offerGifts
      rw [a1]
      simp only [Option.bind_some]
      rw [if_neg (by decide), b1]
      rfl
    · unfold jnX8_give_15
      rw [a2]
      unfold jnX8_give_124
      rw [if_pos hb32, if_pos hb32, nIc (by omega), a3.1 36 w rfl, a3.1 35 w rfl, hend, if_pos rfl, b2]
      rfl
  · obtain ⟨n1, n2, n3, n4⟩ := id hN
    have g34 : z1 34 w = 1 := by rw [k34]; exact h34
    have hpe : pend z1 G1 w = 1 := by
      unfold pend
      have q1 := hp.1
      have he := hp.2.1
      have hl6 : z1 0 6 ≤ 512 := by have := a4.1.1; omega
      have hlt : z1 0 1 ≤ 103300 := RSw_lt (hq := by omega) hN.2.2.2 hN.2.1 a3.2.2.2.2.2.2.1 a3.2.2.2.2.2.2.2.1 hl6
      rw [if_pos ⟨⟨g34, by omega⟩, by
        rw [hp.2.2.2.1]
        exact fun e1 => nI_pos (n := e) (by omega) (by rw [e1]; decide)⟩]
    have hNP := NPw_to hw hN (by rw [hpe]; exact Nat.le_refl _)
    refine ⟨V1, c, G1, z1, ?_, ?_, rel1_in a3 (gz_gf a6 hp g34), a4, a5, ⟨k00, by omega, hNP.2.2.2⟩, k18, k42⟩
    · unfold jnX7_workOnBatch_42 fX7_offerGifts
      rw [a1]
      simp only [Option.bind_some]
      rw [if_pos trivial]
    · unfold jnX8_give_15
      rw [a2]
      unfold jnX8_give_124
      have q1 := hp.1
      rw [if_pos hb32, if_pos hb32, nIc (by omega), a3.1 36 w rfl, a3.1 35 w rfl, if_neg (by rw [nI_eqE (by omega) (by omega)]; omega)]
theorem give_ok (hk : k ≤ 512) (h : Rel1 32 cnt L V c G z) (hi : i < cnt) (hwk : j < z 18 i ∧ w = 4 * i + j) (hM : RM1 k cnt V z G) (hI : RI cnt p z) (hN : NP U z G) (hU : U + 1 ≤ 12800) (hn0 : 1 ≤ z 31 w) (h33 : z 33 w = 0) : ∃ V' c' G' z', jnX7_workOnBatch_17 L i w V c = some (V', c') ∧ fX8_give (nI i) (nI w) G = some G' ∧ Rel1 32 cnt L V' c' G' z' ∧ RM1 k cnt V' z' G' ∧ RI cnt p z' ∧ (z' 0 0 = z 0 0 ∧ z' 0 4 ≤ 8 * U + 8 ∧ RS (8 * U) z' G') ∧ z' 18 = z 18 ∧ z' 42 = z 42 := by
  have hwk' : wk cnt z w := ⟨i, j, hi, hwk.1, hwk.2⟩
  have hw := (wk_lt h hwk').1
  have hb32 : bin (nI w) 32 = true := bin_t (by omega) hw
  have hW := h.2.2.2.2.2.2.2.2.2.1 i j hi hwk.1
  rw [← hwk.2] at hW
  have h34l := hW.2.2.2.1
  have hg := rel1_gf h hi hwk
  have hx := rel1_ex (w := w) h
  have hNw := NPw_of hw hN
  have hl6 : z 0 6 ≤ 512 := by have := hM.1.1; omega
  have hlt : z 0 1 ≤ 103300 := RS_lt hN.2.2.2 hN.2.1 h.2.2.2.2.2.2.1 h.2.2.2.2.2.2.2.1 hl6
  by_cases h34 : z 34 w = 0
  · obtain ⟨V1, G1, z1, a1, a2, a3, a4, a5, a6, a7⟩ := coll_ok hx hi hwk hlt hn0 h34 (hg.1 h34)
    have z0 : z1 0 = z 0 := gfr_z a6 (by omega)
    have z18 : z1 18 = z 18 := gfr_z a6 (by omega)
    have z31 : z1 31 = z 31 := gfr_z a6 (by omega)
    have z33 : z1 33 = z 33 := gfr_z a6 (by omega)
    have z26 : z1 26 = z 26 := gfr_z a6 (by omega)
    have hp0 : pend z G w = 0 := by
      unfold pend
      rw [if_neg (fun q => absurd q.1.1 (by omega))]
    have hN1 : NPw U w 0 z1 G1 := by
      rw [hp0] at hNw
      unfold NPw RSw at hNw ⊢
      rw [pex_gl a6, z0, z26]
      exact hNw
    have z42 : z1 42 = z 42 := gfr_z a6 (by omega)
    obtain ⟨V', c', G', z', b1, b2, b3, b4, b5, b6, b7, b8⟩ := gives_ok hk a3 hi (by rw [z18]; exact hwk) (RM1_gl hM a6) (RI_gl hI a6) hU a4 (Or.inl ⟨a5, hN1⟩) a7 (by rw [z31]; exact hn0) (by rw [z33]; exact h33)
    refine ⟨V', c', G', z', ?_, ?_, b3, b4, b5, ⟨by rw [b6.1, z0], b6.2⟩, by rw [b7, z18], by rw [b8, z42]⟩
    · unfold jnX7_workOnBatch_17
      rw [hW.1.2.1, h33, if_pos (by decide), hW.1.2.2.2, h34, if_pos nI_0, a1]
      simp only [Option.bind_some]
      exact b1
    · unfold fX8_give
      rw [if_pos hb32, nIc (by omega), h.1 34 w rfl, h34, if_pos nI_0, a2]
      simp only [Option.bind_some]
      exact b2
  · have h341 : z 34 w = 1 := by omega
    obtain ⟨hz, hl, hs⟩ := gf_gz hg h341
    have h16 := hz.1.2.2.2
    have hst : (gn V z G w ∧ NPw U w 0 z G) ∨ ∃ e, gp V z G w e ∧ NPw U w 1 z G := by
      rcases hs with hs | ⟨e, hs⟩
      · left
        refine ⟨hs, ?_⟩
        have hp0 : pend z G w = 0 := by
          unfold pend
          rw [if_neg (fun q => q.2 (hs.2 hl))]
        rw [hp0] at hNw
        exact hNw
      · right
        refine ⟨e, hs, ?_⟩
        have hp1 : pend z G w ≤ 1 := by
          unfold pend
          split <;> omega
        obtain ⟨m1, m2, m3, m4⟩ := hNw
        refine ⟨m1, m2, m3, ?_⟩
        unfold RSw at m4 ⊢
        omega
    obtain ⟨V', c', G', z', b1, b2, b3⟩ := gives_ok hk hx hi hwk hM hI hU hz hst h341 hn0 h33
    refine ⟨V', c', G', z', ?_, ?_, b3⟩
    · unfold jnX7_workOnBatch_17
      rw [hW.1.2.1, h33, if_pos (by decide), hW.1.2.2.2, h341, if_neg (by decide)]
      exact b1
    · unfold fX8_give
      rw [if_pos hb32, nIc (by omega), h.1 34 w rfl, h341, if_neg (by decide)]
      exact b2
/-- a worker's step -/
theorem work_ok (hk : k ≤ 512) (h : Rel1 32 cnt L V c G z) (hi : i < cnt) (hwk : j < z 18 i ∧ w = 4 * i + j) (hM : RM1 k cnt V z G) (hI : RI cnt w z) (hN : NP U z G) (hU : U + 1 ≤ 12800) : ∃ V' c' G' z', fX7_letWork L i w V c = some (V', c') ∧ fX8_work (nI i) (nI w) G = some G' ∧ Rel1 32 cnt L V' c' G' z' ∧ RM1 k cnt V' z' G' ∧ RI cnt (w + 1) z' ∧ NP (U + 1) z' G' ∧ z' 0 0 = z 0 0 ∧ z' 18 = z 18 ∧ ((∀ w', w' ≠ w → z' 42 w' = z 42 w') ∧ 1 ≤ z' 42 w) := by
  have hwk' : wk cnt z w := ⟨i, j, hi, hwk.1, hwk.2⟩
  have hw := (wk_lt h hwk').1
  have hb32 : bin (nI w) 32 = true := bin_t (by omega) hw
  have hW := h.2.2.2.2.2.2.2.2.2.1 i j hi hwk.1
  rw [← hwk.2] at hW
  have h31 := hW.2.1
  have h33l := hW.2.2.1
  obtain ⟨n1, n2, n3, n4⟩ := id hN
  by_cases h0 : z 31 w = 0
  · obtain ⟨V', G', z', a1, a2, a3⟩ := half_ok h hi hwk hM hI ⟨n1, hU, by omega, n4⟩
    refine ⟨V', c, G', z', ?_, ?_, a3⟩
    · unfold fX7_letWork
      rw [hW.1.1, h0, if_pos (by decide)]
      exact a1
    · unfold fX8_work
      rw [if_pos hb32, nIc (by omega), h.1 31 w rfl, h0, if_pos (by decide)]
      exact a2
  · have hn1 : ¬ nI (z 31 w) ≤ 0 := by
      show ¬ nI (z 31 w) ≤ nI 0
      rw [nI_leE (by omega) (by omega)]; omega
    -- after the rest went down
    obtain ⟨y, hy⟩ : ∃ y, y = z 33 w - 1 := ⟨_, rfl⟩
    have g1 : Rel1 32 cnt L (mu V 16 w 2 (nI y)) c (mu G 33 0 w (nI y)) (su z 33 w y) := rel1_16 (t := 2) (f := 33) h hwk' (by simp) (fun _ => ⟨by omega, fun q => absurd q h0⟩)
    have m1 : RM1 k cnt (mu V 16 w 2 (nI y)) (su z 33 w y) (mu G 33 0 w (nI y)) := by
      simpa [RM1, RM, mu_k, su_k] using hM
    have i1 : RI cnt w (su z 33 w y) := by
      unfold RI
      rw [su_k (by decide), su_k (by decide), su_k (by decide), su_k (by decide)]
      exact hI
    have p1 : NP U (su z 33 w y) (mu G 33 0 w (nI y)) := fld_NP hN (by decide)
    have k18 : su z 33 w y 18 = z 18 := su_k (by decide)
    have k0 : su z 33 w y 0 = z 0 := su_k (by decide)
    have k31 : su z 33 w y 31 = z 31 := su_k (by decide)
    have ex : fX7_letWork L i w V c = ((jnX7_workOnBatch_17 L i w (mu V 16 w 2 (nI y)) c).bind fun u_6 => jnX7_letWork_16 L i w u_6.1 u_6.2) := by
      unfold fX7_letWork fX7_workOnBatch
      rw [hW.1.1, if_neg hn1, hW.1.2.1]
      by_cases h33 : z 33 w = 0
      · rw [h33, if_pos (by decide), mu_id]
        rw [hW.1.2.1, h33, hy, h33]
      · rw [if_neg (by
          show ¬ nI (z 33 w) ≤ nI 0
          rw [nI_leE (by omega) (by omega)]; omega), nI_pre (by omega), ← hy]
    have em : fX8_work (nI i) (nI w) G = if nI y = 0 then ((fX8_give (nI i) (nI w) (mu G 33 0 w (nI y))).bind fun u_32 => jnX8_work_47 (nI i) (nI w) u_32) else (jnX8_work_47 (nI i) (nI w) (mu G 33 0 w (nI y))) := by
      unfold fX8_work
      rw [if_pos hb32, nIc (by omega), h.1 31 w rfl, if_neg hn1, if_pos hb32, if_pos hb32, h.1 33 w rfl]
      unfold jnX8_work_30
      simp only [hb32, if_true, nIc (show w < 2 ^ 31 by omega), mu_s]
      by_cases h33 : z 33 w = 0
      · have ey : nI (z 33 w) - 0 = nI y := by rw [hy, h33]; rfl
        rw [ey, h33, if_pos (by decide)]
      · have ey : nI (z 33 w) - 1 = nI y := by rw [hy]; exact nI_pre (by omega)
        rw [ey, if_neg (by
          show ¬ nI (z 33 w) ≤ nI 0
          rw [nI_leE (by omega) (by omega)]; omega)]
    by_cases hy0 : y = 0
    · have k42 : su z 33 w y 42 = z 42 := su_k (by decide)
      obtain ⟨V1, c1, G1, z1, a1, a2, a3, a4, a5, a6, a7, a8⟩ := give_ok hk g1 hi (by rw [k18]; exact hwk) m1 i1 p1 hU (by rw [k31]; omega) (by rw [su_s]; exact hy0)
      rw [k18] at a7
      rw [k0] at a6
      obtain ⟨V', G', z', b1, b2, b3, b4, b5, b6, b7, b8, b9, b10⟩ := half_ok a3 hi (by rw [a7]; exact hwk) a4 a5 ⟨by rw [a6.1]; exact n1, hU, a6.2⟩
      refine ⟨V', c1, G', z', ?_, ?_, b3, b4, b5, b6, by rw [b7, a6.1], by rw [b8, a7], fun w' hw' => by rw [b9 w' hw', a8, k42], b10⟩
      · rw [ex, a1]
        exact b1
      · rw [em, hy0, if_pos nI_0]
        rw [hy0] at a2
        rw [a2]
        exact b2
    · obtain ⟨V', G', z', b1, b2, b3, b4, b5, b6, b7, b8, b9, b10⟩ := half_ok g1 hi (by rw [k18]; exact hwk) m1 i1 ⟨by rw [k0]; exact n1, hU, by rw [k0]; omega, p1.2.2.2⟩
      refine ⟨V', c, G', z', ?_, ?_, b3, b4, b5, b6, by rw [b7, k0], by rw [b8, k18], fun w' hw' => by rw [b9 w' hw', su_k (by decide)], b10⟩
      · rw [ex]
        unfold jnX7_workOnBatch_17
        rw [mu_s, if_neg (by
          show ¬ nI y ≤ nI 0
          rw [nI_leE (by omega) (by omega)]; omega)]
        exact b1
      · rw [em, if_neg (by rw [nI_z (by omega)]; exact hy0)]
        exact b2
end WRK
