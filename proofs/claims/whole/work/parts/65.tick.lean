/-! tick -/
section TCK
variable {w0 cnt k i j U B p n w : Nat} {L : Nat → Nat → Nat} {V G V' G' : mM} {c c' : Nat × Nat} {z z' : mZ}
/-- the workers before p are there for a tick at least -/
def RP (cnt p : Nat) (z : mZ) : Prop := ∀ i j, i < cnt → j < z 18 i → 4 * i + j < p → 1 ≤ z 42 (4 * i + j)
theorem NP_mono {U' : Nat} (h : NP U z G) (h1 : U ≤ U') (h2 : U' ≤ 12800) : NP U' z G := by
  obtain ⟨n1, n2, n3, n4⟩ := h
  unfold RS at n4
  exact ⟨n1, h2, by omega, by unfold RS; omega⟩
theorem wl_lp {ro : Int32 → mM → Nat × Nat → Option (mM × (Nat × Nat))} {ro' : Int32 → mM → Option (mM)} (hk : k ≤ 512) (hi : i < cnt) : ∀ (d j U : Nat) (V : mM) (c : Nat × Nat) (G : mM) (z : mZ), j + d = z 18 i → Rel1 32 cnt L V c G z → RM1 k cnt V z G → RI cnt (4 * i + j) z → RP cnt (4 * i + j) z → NP U z G → U + d ≤ 12800 → ∀ m m' : Nat, d < m → d < m' → ∃ V' c' G' z', lpX7_passTick_58 L ro m (nI i) (nI i) (nI j) V c = ro (nI (i + 1)) V' c' ∧ lpX8_oneTick_92 ro' m' (nI i) (nI j) G = ro' (nI (i + 1)) G' ∧ Rel1 32 cnt L V' c' G' z' ∧ RM1 k cnt V' z' G' ∧ RI cnt (4 * i + z 18 i) z' ∧ RP cnt (4 * i + z 18 i) z' ∧ NP (U + d) z' G' ∧ z' 0 0 = z 0 0 ∧ z' 18 = z 18
  | 0, j, U, V, c, G, z, hd, h, hM, hI, hP, hN, hU, m, m', hm, hm' => by
    obtain ⟨m, rfl⟩ : ∃ q, m = q + 1 := ⟨m - 1, by omega⟩
    obtain ⟨m', rfl⟩ : ∃ q, m' = q + 1 := ⟨m' - 1, by omega⟩
    have h8 := h.2.1.1.2.2
    have hR := h.2.2.2.2.2.2.1 i hi
    have r18 := hR.2.2.1.2.1
    have r19 := hR.1.2.2.2.2.1
    have hb8 : bin (nI i) 8 = true := bin_t (by omega) (by omega)
    have v14 : V 3 i 14 = nI (z 18 i) := h.2.2.1 i 14 hi rfl
    have hc : nI (z 18 i) ≤ nI j := by rw [nI_leE (by omega) (by omega)]; omega
    have e1 : nI i + 1 = nI (i + 1) := nI_1 i
    have ej : j = z 18 i := by omega
    refine ⟨V, c, G, z, ?_, ?_, h, hM, by rw [← ej]; exact hI, by rw [← ej]; exact hP, hN, rfl, rfl⟩
    · rw [lpX7_passTick_58, if_neg (nI_pos (by omega)), nIc (by omega), v14, if_pos hc, e1]
    · rw [lpX8_oneTick_92, if_pos hb8, nIc (by omega), h.1 18 i rfl, if_pos hc, e1]
  | d + 1, j, U, V, c, G, z, hd, h, hM, hI, hP, hN, hU, m, m', hm, hm' => by
    obtain ⟨m, rfl⟩ : ∃ q, m = q + 1 := ⟨m - 1, by omega⟩
    obtain ⟨m', rfl⟩ : ∃ q, m' = q + 1 := ⟨m' - 1, by omega⟩
    have h8 := h.2.1.1.2.2
    have hR := h.2.2.2.2.2.2.1 i hi
    have r18 := hR.2.2.1.2.1
    have r19 := hR.1.2.2.2.2.1
    have hL : L 15 i = z 19 i := hR.2.2.2.1.1
    have hb8 : bin (nI i) 8 = true := bin_t (by omega) (by omega)
    have v14 : V 3 i 14 = nI (z 18 i) := h.2.2.1 i 14 hi rfl
    have hc : ¬ nI (z 18 i) ≤ nI j := by rw [nI_leE (by omega) (by omega)]; omega
    have e1 : nI j + 1 = nI (j + 1) := nI_1 j
    have e4 : (4 : Int32) * nI i + nI j = nI (4 * i + j) := by
      rw [show (4 : Int32) = nI 4 from rfl, pk_mul, nI_add]
    have hbL : bin (nI j) (L 15 i) = true := bin_t (by omega) (by rw [hL]; omega)
    obtain ⟨V1, c1, G1, z1, a1, a2, a3, a4, a5, a6, a7, a8, a9, a10⟩ := work_ok hk h hi ⟨show j < z 18 i by omega, rfl⟩ hM hI hN (by omega)
    have hP1 : RP cnt (4 * i + (j + 1)) z1 := by
      intro i' j' hi' hj' hp
      rw [a8] at hj'
      by_cases e : 4 * i' + j' = 4 * i + j
      · rw [e]; exact a10
      · rw [a9 _ e]; exact hP i' j' hi' hj' (by omega)
    obtain ⟨V', c', G', z', b1, b2, b3, b4, b5, b6, b7, b8, b9⟩ := wl_lp (ro := ro) (ro' := ro') hk hi d (j + 1) (U + 1) V1 c1 G1 z1 (by rw [a8]; omega) a3 a4 a5 hP1 a6 (by omega) m m' (by omega) (by omega)
    rw [a8] at b5 b6 b9
    refine ⟨V', c', G', z', ?_, ?_, b3, b4, b5, b6, by rw [show U + (d + 1) = U + 1 + d by omega]; exact b7, by rw [b8, a7], b9⟩
    · rw [lpX7_passTick_58, if_neg (nI_pos (by omega)), nIc (by omega), v14, if_neg hc, if_pos hbL, nIc (by omega), a1]
      simp only [Option.bind_some]
      rw [e1]
      exact b1
    · rw [lpX8_oneTick_92, if_pos hb8, nIc (by omega), h.1 18 i rfl, if_neg hc, e4, a2]
      simp only [Option.bind_some]
      rw [e1]
      exact b2
theorem st_lp (hk : k ≤ 512) : ∀ (d i U : Nat) (V : mM) (c : Nat × Nat) (G : mM) (z : mZ), i + d = cnt → Rel1 32 cnt L V c G z → RM1 k cnt V z G → RI cnt (4 * i) z → RP cnt (4 * i) z → NP U z G → U + 4 * d ≤ 12800 → ∀ m m' : Nat, d < m → d < m' → ∃ V' c' G' z', lpX7_passTick_41 L m (nI i) V c = (if ((V' 2 0 4) - (V' 2 0 4) / (10 : Int32) * (10 : Int32)) = 0 then (lpX7_passTick_101 L fu (0 : Int32) V' c') else (some (V', c'))) ∧ lpX8_oneTick_82 m' (nI i) G = lpX8_oneTick_126 fu (0 : Int32) G' ∧ Rel1 32 cnt L V' c' G' z' ∧ RM1 k cnt V' z' G' ∧ RI cnt (4 * cnt) z' ∧ RP cnt (4 * cnt) z' ∧ NP (U + 4 * d) z' G' ∧ z' 0 0 = z 0 0
  | 0, i, U, V, c, G, z, hd, h, hM, hI, hP, hN, hU, m, m', hm, hm' => by
    obtain ⟨m, rfl⟩ : ∃ q, m = q + 1 := ⟨m - 1, by omega⟩
    obtain ⟨m', rfl⟩ : ∃ q, m' = q + 1 := ⟨m' - 1, by omega⟩
    have h8 := h.2.1.1.2.2
    have hc : nI cnt ≤ nI i := by rw [nI_leE (by omega) (by omega)]; omega
    have ei : 4 * i = 4 * cnt := by omega
    refine ⟨V, c, G, z, ?_, ?_, h, hM, ei ▸ hI, ei ▸ hP, hN, rfl⟩
    · rw [lpX7_passTick_41, h.2.1.1.1, if_pos hc]
    · rw [lpX8_oneTick_82, h.1 0 7 rfl, h.2.1.1.2.1, if_pos hc]
  | d + 1, i, U, V, c, G, z, hd, h, hM, hI, hP, hN, hU, m, m', hm, hm' => by
    obtain ⟨m, rfl⟩ : ∃ q, m = q + 1 := ⟨m - 1, by omega⟩
    obtain ⟨m', rfl⟩ : ∃ q, m' = q + 1 := ⟨m' - 1, by omega⟩
    have h8 := h.2.1.1.2.2
    have hi : i < cnt := by omega
    have hR := h.2.2.2.2.2.2.1 i hi
    have r18 := hR.2.2.1.2.1
    have r19 := hR.1.2.2.2.2.1
    have hb8 : bin (nI i) 8 = true := bin_t (by omega) (by omega)
    have hc : ¬ nI cnt ≤ nI i := by rw [nI_leE (by omega) (by omega)]; omega
    obtain ⟨V1, c1, G1, z1, a1, a2, a3, a4, a5, a6, a7, a8, a9⟩ := wl_lp (L := L) (ro := lpX7_passTick_41 L m) (ro' := lpX8_oneTick_82 m') hk hi (z 18 i) 0 U V c G z (by omega) h hM hI hP hN (by omega) fu fu (by unfold fu; omega) (by unfold fu; omega)
    have skip : ∀ i' j', i' < cnt → j' < z1 18 i' → (4 * i' + j' < 4 * i + z 18 i ↔ 4 * i' + j' < 4 * (i + 1)) := by
      intro i' j' hi' hj'
      have hw4 := RR_w a3.2.2.2.2.2.2.1 hi' hj'
      rw [a9] at hj'
      constructor
      · intro q; omega
      · intro q
        by_cases e : i' = i
        · subst e; omega
        · omega
    have hI1 : RI cnt (4 * (i + 1)) z1 := by
      intro i' j' hi' hj'
      have q := a5 i' j' hi' hj'
      have s := skip i' j' hi' hj'
      exact ⟨fun hp => q.1 (s.mpr hp), fun hp => q.2 (by
        have : ¬ 4 * i' + j' < 4 * i + z 18 i := fun hq => absurd (s.mp hq) (by omega)
        omega)⟩
    have hP1 : RP cnt (4 * (i + 1)) z1 := by
      intro i' j' hi' hj' hp
      exact a6 i' j' hi' hj' ((skip i' j' hi' hj').mpr hp)
    obtain ⟨V', c', G', z', b1, b2, b3, b4, b5, b6, b7, b8⟩ := st_lp hk d (i + 1) (U + 4) V1 c1 G1 z1 (by omega) a3 a4 hI1 hP1 (NP_mono a7 (by omega) (by omega)) (by omega) m m' (by omega) (by omega)
    refine ⟨V', c', G', z', ?_, ?_, b3, b4, b5, b6, by rw [show U + 4 * (d + 1) = U + 4 + 4 * d by omega]; exact b7, by rw [b8, a8]⟩
    · rw [lpX7_passTick_41, h.2.1.1.1, if_neg hc, if_pos hb8, nIc (by omega), h.2.1.2.2.2.2.2 i hi]
      exact a1.trans b1
    · rw [lpX8_oneTick_82, h.1 0 7 rfl, h.2.1.1.2.1, if_neg hc]
      exact a2.trans b2
theorem md10 {x : Nat} (hx : x ≤ 400) : nI x - nI x / 10 * 10 = nI (x % 10) := by
  rw [show (10 : Int32) = nI 10 from rfl, nI_div (by omega) (by omega), pk_mul, pk_sub (by omega)]
  congr 1
  omega
theorem ctl_lp : ∀ (d i : Nat) (V G : mM) (z : mZ), i + d = cnt → CS k cnt U L V c G z → z 0 0 % 10 = 0 → (∀ i' j', i ≤ i' → i' < cnt → j' < z 18 i' → 1 ≤ z 42 (4 * i' + j')) → ∀ m m' : Nat, d < m → d < m' → ∃ V' G' z', lpX7_passTick_101 L m (nI i) V c = some (V', c) ∧ lpX8_oneTick_126 m' (nI i) G = some G' ∧ CS k cnt U L V' c G' z' ∧ z' 0 0 = z 0 0
  | 0, i, V, G, z, hd, h, h10, hth, m, m', hm, hm' => by
    obtain ⟨m, rfl⟩ : ∃ q, m = q + 1 := ⟨m - 1, by omega⟩
    obtain ⟨m', rfl⟩ : ∃ q, m' = q + 1 := ⟨m' - 1, by omega⟩
    have hr := h.1
    have h8 := hr.2.1.1.2.2
    have hc : nI cnt ≤ nI i := by rw [nI_leE (by omega) (by omega)]; omega
    refine ⟨V, G, z, ?_, ?_, h, rfl⟩
    · rw [lpX7_passTick_101, hr.2.1.1.1, if_pos hc]
    · rw [lpX8_oneTick_126, hr.1 0 7 rfl, hr.2.1.1.2.1, if_pos hc]
  | d + 1, i, V, G, z, hd, h, h10, hth, m, m', hm, hm' => by
    obtain ⟨m, rfl⟩ : ∃ q, m = q + 1 := ⟨m - 1, by omega⟩
    obtain ⟨m', rfl⟩ : ∃ q, m' = q + 1 := ⟨m' - 1, by omega⟩
    have hr := h.1
    have h8 := hr.2.1.1.2.2
    have h400 := h.2.2.2.1
    have hi : i < cnt := by omega
    have hb8 : bin (nI i) 8 = true := bin_t (by omega) (by omega)
    have hc : ¬ nI cnt ≤ nI i := by rw [nI_leE (by omega) (by omega)]; omega
    have e1 : nI i + 1 = nI (i + 1) := nI_1 i
    obtain ⟨V1, G1, z1, a1, a2, a3, a4⟩ := control_ok h hi h10 (fun j hj => hth i j (Nat.le_refl _) hi hj)
    obtain ⟨V', G', z', b1, b2, b3, b4⟩ := ctl_lp d (i + 1) V1 G1 z1 (by omega) a3 (by rw [a4.1]; exact h10) (fun i' j' h1 h2 h3 => by
      have hw4 := RR_w a3.1.2.2.2.2.2.2.1 h2 h3
      rw [a4.2.1 i' (by omega)] at h3
      rw [a4.2.2 _ (by omega)]
      exact hth i' j' (by omega) h2 h3) m m' (by omega) (by omega)
    refine ⟨V', G', z', ?_, ?_, b3, by rw [b4, a4.1]⟩
    · rw [lpX7_passTick_101, hr.2.1.1.1, if_neg hc, if_pos hb8, nIc (by omega), hr.2.1.2.2.2.2.2 i hi, if_neg (nI_pos (by omega)), nIc (by omega), a1]
      simp only [Option.bind_some]
      rw [e1]
      exact b1
    · rw [lpX8_oneTick_126, hr.1 0 7 rfl, hr.2.1.1.2.1, if_neg hc, hr.1 0 0 rfl, md10 h400, h10, if_pos nI_0, a2]
      simp only [Option.bind_some]
      rw [e1]
      exact b2
theorem pass_ok (hk : k ≤ 512) (h : Rel0 (32 * z 0 0) k cnt L V c G z) (hlt : z 0 0 < 400) : ∃ V' c' G' z', fX7_passTick L V c = some (V', c') ∧ fX8_oneTick G = some G' ∧ Rel0 (32 * z' 0 0) k cnt L V' c' G' z' ∧ z' 0 0 = z 0 0 + 1 := by
  have h8 := (rel1_of (w0 := 32) h).2.1.1.2.2
  obtain ⟨a1, a2, a3, a4⟩ := clock_ok h hlt
  obtain ⟨V1, G1, z1, b1, b2, b3, b4, b5, b6, b7⟩ := tok_lp (L := L) (c := c) cnt 0 _ _ _ (by omega) a1 a2 a3 a4 fu fu (by unfold fu; omega) (by unfold fu; omega)
  rw [su_s] at b7
  obtain ⟨V2, G2, z2, c1, c2, c3, c4, c5, c6, c7⟩ := fire_ok hk b3 b4 b5 b6
  obtain ⟨V3, cc, G3, z3, d1, d2, d3, d4, d5, d6, d7, d8⟩ := st_lp hk cnt 0 (32 * z 0 0) V2 c G2 z2 (by omega) c3 c4 c5 (fun i j _ _ hp => absurd hp (by omega)) c6 (by omega) fu fu (by unfold fu; omega) (by unfold fu; omega)
  have hz3 : z3 0 0 = z 0 0 + 1 := by rw [d8, c7, b7]
  have hI3 : RI cnt 32 z3 := by
    intro i j hi hj
    have hw4 := RR_w d3.2.2.2.2.2.2.1 hi hj
    have q := d5 i j hi hj
    exact ⟨fun _ => q.1 (by omega), fun hp => absurd hp (by omega)⟩
  have hCS : CS k cnt (32 * z3 0 0) L V3 cc G3 z3 := ⟨d3, d4, hI3, NP_mono d7 (by omega) (by omega)⟩
  have ex : fX7_passTick L V c = (if ((V3 2 0 4) - (V3 2 0 4) / (10 : Int32) * (10 : Int32)) = 0 then (lpX7_passTick_101 L fu (0 : Int32) V3 cc) else (some (V3, cc))) := by
    unfold fX7_passTick
    have e1 : V 2 0 4 + 1 = nI (z 0 0 + 1) := by
      rw [(rel1_of (w0 := 32) h).2.1.2.1]
      exact nI_1 _
    rw [e1]
    refine Eq.trans b1 ?_
    rw [c1]
    exact d1
  have em : fX8_oneTick G = lpX8_oneTick_126 fu 0 G3 := by
    unfold fX8_oneTick
    have e1 : G 0 0 0 + 1 = nI (z 0 0 + 1) := by
      rw [h.1 0 0 rfl]
      exact nI_1 _
    rw [e1]
    refine Eq.trans b2 ?_
    rw [c2]
    exact d2
  have h400 : z3 0 0 ≤ 400 := by omega
  have v4 : V3 2 0 4 = nI (z3 0 0) := d3.2.1.2.1
  by_cases h10 : z3 0 0 % 10 = 0
  · obtain ⟨V', G', z', e1, e2, e3, e4⟩ := ctl_lp cnt 0 V3 G3 z3 (by omega) hCS h10 (fun i' j' _ h2 h3 => by
      have hw4 := RR_w d3.2.2.2.2.2.2.1 h2 h3
      exact d6 i' j' h2 h3 (by omega)) fu fu (by unfold fu; omega) (by unfold fu; omega)
    refine ⟨V', cc, G', z', ?_, ?_, ?_, by rw [e4, hz3]⟩
    · rw [ex, v4, md10 h400, h10, if_pos nI_0]
      exact e1
    · rw [em]
      exact e2
    · rw [e4]
      exact rel0_of e3.1 (Nat.le_refl _) e3.2.1 e3.2.2.1 e3.2.2.2
  · have hn : ¬ nI (z3 0 0 % 10) = 0 := by rw [nI_z (by omega)]; exact h10
    refine ⟨V3, cc, G3, z3, ?_, ?_, rel0_of d3 (Nat.le_refl _) d4 hI3 hCS.2.2.2, hz3⟩
    · rw [ex, v4, md10 h400, if_neg hn]
    · have hfu : fu = 999 + 1 := rfl
      rw [em, hfu, lpX8_oneTick_126, d3.1 0 0 rfl, md10 h400, if_neg hn]
      split <;> rfl
theorem tk_lp (hk : k ≤ 512) {many : Nat} (hm50 : many ≤ 50) : ∀ (d t : Nat) (V : mM) (c : Nat × Nat) (G : mM) (z : mZ), t + d = many → Rel0 (32 * z 0 0) k cnt L V c G z → z 0 0 + d ≤ 400 → ∀ m m' : Nat, d < m → d < m' → ∃ r V' c' G' z', lpX7_tick_29 L m (nI many) (nI t) V c = some (r, V', c') ∧ lpX8_tick_29 m' (nI many) (nI t) G = some (r, G') ∧ Rel0 (32 * z' 0 0) k cnt L V' c' G' z'
  | 0, t, V, c, G, z, hd, h, hl, m, m', hm, hm' => by
    obtain ⟨m, rfl⟩ : ∃ q, m = q + 1 := ⟨m - 1, by omega⟩
    obtain ⟨m', rfl⟩ : ∃ q, m' = q + 1 := ⟨m' - 1, by omega⟩
    have hc : nI many ≤ nI t := by rw [nI_leE (by omega) (by omega)]; omega
    refine ⟨nI (z 0 0), V, c, G, z, ?_, ?_, h⟩
    · rw [lpX7_tick_29, if_pos hc, (rel1_of (w0 := 32) h).2.1.2.1]
    · rw [lpX8_tick_29, if_pos hc, h.1 0 0 rfl]
  | d + 1, t, V, c, G, z, hd, h, hl, m, m', hm, hm' => by
    obtain ⟨m, rfl⟩ : ∃ q, m = q + 1 := ⟨m - 1, by omega⟩
    obtain ⟨m', rfl⟩ : ∃ q, m' = q + 1 := ⟨m' - 1, by omega⟩
    have hc : ¬ nI many ≤ nI t := by rw [nI_leE (by omega) (by omega)]; omega
    have e1 : nI t + 1 = nI (t + 1) := nI_1 t
    obtain ⟨V1, c1, G1, z1, a1, a2, a3, a4⟩ := pass_ok hk h (by omega)
    obtain ⟨r, V', c', G', z', b1, b2, b3⟩ := tk_lp hk hm50 d (t + 1) V1 c1 G1 z1 (by omega) a3 (by omega) m m' (by omega) (by omega)
    refine ⟨r, V', c', G', z', ?_, ?_, b3⟩
    · rw [lpX7_tick_29, if_neg hc, a1]
      simp only [Option.bind_some]
      rw [e1]
      exact b1
    · rw [lpX8_tick_29, if_neg hc, a2]
      simp only [Option.bind_some]
      rw [e1]
      exact b2
end TCK
theorem sim_tick_ok : sim_tick Rel := by
  intro k cnt L V c G a1 hk h
  obtain ⟨z, hz⟩ := id h
  have hG := hz.1
  have h1 := rel1_of (w0 := 32) hz
  obtain ⟨n1, n2, n3, n4⟩ := rel0_N hz
  by_cases hw : wi a1 1 50 = 0
  · refine ⟨-1, V, c, G, ?_, ?_, rel_next h hk⟩
    · unfold fX7_tick
      simp only [f_within, Option.bind_some, if_pos hw]
    · unfold fX8_tick
      simp only [f_in, Option.bind_some, if_pos hw]
  · obtain ⟨m, hm1, hm2, rfl⟩ := wi_nI (l := 1) (h := 50) (by omega) (by omega) hw
    by_cases hl : z 0 0 + m ≤ 400
    · have hc : nI (z 0 0) + nI m ≤ (400 : Int32) := by
        rw [nI_add]
        show nI (z 0 0 + m) ≤ nI 400
        rw [nI_leE (by omega) (by omega)]; exact hl
      obtain ⟨r, V', c', G', z', b1, b2, b3⟩ := tk_lp (L := L) (cnt := cnt) (by omega) hm2 m 0 V c G z (by omega) hz hl fu fu (by unfold fu; omega) (by unfold fu; omega)
      refine ⟨r, V', c', G', ?_, ?_, z', rel_k b3⟩
      · unfold fX7_tick
        simp only [f_within, Option.bind_some, if_neg hw]
        rw [h1.2.1.2.1, if_pos hc]
        exact b1
      · unfold fX8_tick
        simp only [f_in, Option.bind_some, if_neg hw]
        rw [hG 0 0 rfl, if_pos hc]
        exact b2
    · have hc : ¬ nI (z 0 0) + nI m ≤ (400 : Int32) := by
        rw [nI_add]
        show ¬ nI (z 0 0 + m) ≤ nI 400
        rw [nI_leE (by omega) (by omega)]; exact hl
      refine ⟨-2, V, c, G, ?_, ?_, rel_next h hk⟩
      · unfold fX7_tick
        simp only [f_within, Option.bind_some, if_neg hw]
        rw [h1.2.1.2.1, if_neg hc]
      · unfold fX8_tick
        simp only [f_in, Option.bind_some, if_neg hw]
        rw [hG 0 0 rfl, if_neg hc]
