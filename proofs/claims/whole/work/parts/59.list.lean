/-! a worker lists its gifts -/
theorem par_and (v : Int32) : (v &&& 1 = 0) ↔ v.toInt % 2 = 0 := by
  have e1 : (v &&& 1).toBitVec.toNat = v.toBitVec.toNat % 2 := by
    rw [Int32.toBitVec_and, BitVec.toNat_and]
    exact Nat.and_one_is_mod _
  have e2 : (v &&& 1 = 0) ↔ (v &&& 1).toBitVec.toNat = 0 := by
    constructor
    · intro h
      rw [h]
      rfl
    · intro h
      apply Int32.toBitVec_inj.mp
      apply BitVec.eq_of_toNat_eq
      rw [h]
      rfl
  rw [e2, e1]
  have e3 : v.toInt = v.toBitVec.toInt := rfl
  rw [e3, BitVec.toInt_eq_toNat_cond]
  split <;> omega
theorem par_mod (v : Int32) : (v - v / 2 * 2 = 0) ↔ v.toInt % 2 = 0 := by
  have l1 := Int32.le_toInt v
  have l2 := Int32.toInt_lt v
  have e2 : (2 : Int32).toInt = 2 := rfl
  have s2 : Int.sign 2 = 1 := rfl
  have ht : (v.toInt.tdiv 2 = v.toInt / 2 ∧ (0 ≤ v.toInt ∨ v.toInt % 2 = 0)) ∨ (v.toInt.tdiv 2 = v.toInt / 2 + 1 ∧ v.toInt < 0 ∧ v.toInt % 2 = 1) := by
    rw [Int.tdiv_eq_ediv, s2]
    split
    · left
      refine ⟨by omega, ?_⟩
      omega
    · right
      refine ⟨rfl, ?_⟩
      omega
  have d1 : (v / 2).toInt = v.toInt.tdiv 2 := by
    rw [Int32.toInt_div, e2]
    generalize v.toInt.tdiv 2 = q at ht ⊢
    apply Int.bmod_eq_of_le <;> omega
  have d2 : (v / 2 * 2).toInt = v.toInt.tdiv 2 * 2 := by
    rw [Int32.toInt_mul, d1, e2]
    generalize v.toInt.tdiv 2 = q at ht ⊢
    apply Int.bmod_eq_of_le <;> omega
  have d3 : (v - v / 2 * 2).toInt = v.toInt - v.toInt.tdiv 2 * 2 := by
    rw [Int32.toInt_sub, d2]
    generalize v.toInt.tdiv 2 = q at ht ⊢
    apply Int.bmod_eq_of_le <;> omega
  have e0 : (v - v / 2 * 2 = 0) ↔ (v - v / 2 * 2).toInt = 0 := by
    constructor
    · intro h; rw [h]; rfl
    · intro h; exact Int32.toInt_inj.mp h
  rw [e0, d3]
  generalize v.toInt.tdiv 2 = q at ht ⊢
  omega
theorem par (v : Int32) : (v - v / 2 * 2 = 0) ↔ (v &&& 1 = 0) := (par_mod v).trans (par_and v).symm
section LIS
variable {w0 cnt k i j U B p n w q : Nat} {L : Nat → Nat → Nat} {V G V' G' V0 G0 : mM} {c : Nat × Nat} {z z' z0 : mZ}
def gl (cnt : Nat) (V : mM) (z : mZ) (G : mM) (w : Nat) : Prop := (V 17 w 3 = nI (z 35 w) ∧ V 17 w 4 = 0 ∧ V 17 w 5 = -1 ∧ z 36 w = 0) ∧ ∀ t, t < z 35 w → V 18 w t = nI (z 39 (16 * w + t)) ∧ z 39 (16 * w + t) < cnt ∧ V 19 w t = G 37 0 (16 * w + t) ∧ V 20 w t = nI (z 38 (16 * w + t)) ∧ z 38 (16 * w + t) ≤ z 0 0 ∧ G 40 0 (16 * w + t) = -1
theorem gift_ok {x v : Int32} {b : Nat} (hr : rG G z) (h : gl cnt V z G w) (hw : w < 32) (hn : z 35 w < 16) (hx : tg cnt x) (hc : cnt ≤ 8) (hb : b ≤ z 0 0) : ∃ V' G' z', fX2_append L w x v (nI b) V c = some V' ∧ fX8_gift (nI w) v (nI b) x G = some G' ∧ rG G' z' ∧ gl cnt V' z' G' w ∧ gfr V V' G G' z z' w ∧ z' 35 w ≤ z 35 w + 1 ∧ z' 34 w = z 34 w := by
  rcases hx with rfl | ⟨j, hj, rfl⟩
  · refine ⟨V, G, z, ?_, ?_, hr, h, gfr_refl, by omega, rfl⟩
    · unfold fX2_append
      rw [if_pos (by decide)]
    · unfold fX8_gift
      rw [if_pos rfl]
  · have hb16 : bin (nI (z 35 w)) 16 = true := bin_t (by omega) hn
    have hb32 : bin (nI w) 32 = true := bin_t (by omega) hw
    have e16 : (16 : Int32) * nI w + nI (z 35 w) = nI (16 * w + z 35 w) := by
      rw [show (16 : Int32) = nI 16 from rfl, pk_mul, nI_add]
    have hb512 : bin (nI (16 * w + z 35 w)) 512 = true := bin_t (by omega) (by omega)
    have e1 : nI (z 35 w) + 1 = nI (z 35 w + 1) := nI_1 _
    have ej : Int32.ofNat j = nI j := rfl
    have hlt : nI (z 35 w) < Int32.ofNat 16 := by
      show nI (z 35 w) < nI 16
      rw [nI_ltE (by omega) (by omega)]; exact hn
    refine ⟨mu (mu (mu (mu V 18 w (z 35 w) (nI j)) 19 w (z 35 w) v) 20 w (z 35 w) (nI b)) 17 w 3 (nI (z 35 w + 1)), mu (mu (mu (mu (mu G 37 0 (16 * w + z 35 w) v) 38 0 (16 * w + z 35 w) (nI b)) 39 0 (16 * w + z 35 w) (nI j)) 40 0 (16 * w + z 35 w) (-1)) 35 0 w (nI (z 35 w + 1)), su (su (su z 38 (16 * w + z 35 w) b) 39 (16 * w + z 35 w) j) 35 w (z 35 w + 1), ?_, ?_, ?_, ?_, ?_, ?_, ?_⟩
    · unfold fX2_append
      simp only [mu_k (show (17 : Nat) ≠ 18 by decide), mu_k (show (17 : Nat) ≠ 19 by decide), mu_k (show (17 : Nat) ≠ 20 by decide), h.1.1, hb16, if_true, nIc (show z 35 w < 2 ^ 31 by omega), nIc (show j < 2 ^ 31 by omega), e1]
      rw [if_neg (nI_pos (by omega)), if_pos hlt]
      rfl
    · have hne : ¬ nI j = -1 := fun e => nI_pos (n := j) (by omega) (by rw [e]; decide)
      unfold fX8_gift
      simp only [mu_k (show (35 : Nat) ≠ 37 by decide), mu_k (show (35 : Nat) ≠ 38 by decide), mu_k (show (35 : Nat) ≠ 39 by decide), mu_k (show (35 : Nat) ≠ 40 by decide), hr 35 w rfl, nIc (show w < 2 ^ 31 by omega), e16, hb512, hb32, if_true, nIc (show 16 * w + z 35 w < 2 ^ 31 by omega), e1]
      rw [if_neg hne]
    · exact rG_mu (rG_mo (rG_mu (rG_mu (rG_mo hr rfl) _ _ _ rfl) _ _ _ rfl) rfl) _ _ _ rfl
    · obtain ⟨⟨a1, a2, a3, a4⟩, a5⟩ := h
      refine ⟨⟨?_, ?_, ?_, ?_⟩, ?_⟩
      · rw [mu_s, su_s]
      · rw [mu_t (by decide), mu_k (by decide), mu_k (by decide), mu_k (by decide)]; exact a2
      · rw [mu_t (by decide), mu_k (by decide), mu_k (by decide), mu_k (by decide)]; exact a3
      · rw [su_k (by decide), su_k (by decide), su_k (by decide)]; exact a4
      · intro t ht
        rw [su_s] at ht
        have z39 : ∀ t, su (su (su z 38 (16 * w + z 35 w) b) 39 (16 * w + z 35 w) j) 35 w (z 35 w + 1) 39 t = if t = 16 * w + z 35 w then j else z 39 t := fun t => by
          rw [su_k (by decide), su_app, su_k (by decide)]
        have z38 : ∀ t, su (su (su z 38 (16 * w + z 35 w) b) 39 (16 * w + z 35 w) j) 35 w (z 35 w + 1) 38 t = if t = 16 * w + z 35 w then b else z 38 t := fun t => by
          rw [su_k (by decide), su_k (by decide), su_app]
        have z00 : su (su (su z 38 (16 * w + z 35 w) b) 39 (16 * w + z 35 w) j) 35 w (z 35 w + 1) 0 0 = z 0 0 := by
          rw [su_k (by decide), su_k (by decide), su_k (by decide)]
        rw [z39, z38, z00]
        by_cases e : t = z 35 w
        · subst e
          rw [if_pos rfl, if_pos rfl]
          refine ⟨?_, hj, ?_, ?_, hb, ?_⟩
          · rw [mu_k (by decide), mu_k (by decide), mu_k (by decide), mu_s]
          · rw [mu_k (show (19 : Nat) ≠ 17 by decide), mu_k (show (19 : Nat) ≠ 20 by decide), mu_s, mu_k (show (37 : Nat) ≠ 35 by decide), mu_k (show (37 : Nat) ≠ 40 by decide), mu_k (show (37 : Nat) ≠ 39 by decide), mu_k (show (37 : Nat) ≠ 38 by decide), mu_s]
          · rw [mu_k (by decide), mu_s]
          · rw [mu_k (by decide), mu_s]
        · obtain ⟨b1, b2, b3, b4, b5, b6⟩ := a5 t (by omega)
          rw [if_neg (by omega), if_neg (by omega)]
          refine ⟨?_, b2, ?_, ?_, b5, ?_⟩
          · rw [mu_k (by decide), mu_k (by decide), mu_k (by decide), mu_t e]; exact b1
          · rw [mu_k (show (19 : Nat) ≠ 17 by decide), mu_k (show (19 : Nat) ≠ 20 by decide), mu_t e, mu_k (show (19 : Nat) ≠ 18 by decide), mu_k (show (37 : Nat) ≠ 35 by decide), mu_k (show (37 : Nat) ≠ 40 by decide), mu_k (show (37 : Nat) ≠ 39 by decide), mu_k (show (37 : Nat) ≠ 38 by decide), mu_t (by omega)]; exact b3
          · rw [mu_k (by decide), mu_t e, mu_k (by decide), mu_k (by decide)]; exact b4
          · rw [mu_k (by decide), mu_t (by omega), mu_k (by decide), mu_k (by decide), mu_k (by decide)]; exact b6
    · refine ⟨fun f n' t e => ?_, fun f t e => ?_, fun f t e => ?_⟩
      · simp only [mu, mv]
        have n1 : ¬ (f = 17 ∧ n' = w) := by omega
        have n2 : ¬ (f = 18 ∧ n' = w) := by omega
        have n3 : ¬ (f = 19 ∧ n' = w) := by omega
        have n4 : ¬ (f = 20 ∧ n' = w) := by omega
        rw [if_neg n1, if_neg n4, if_neg n3, if_neg n2]
      · unfold gw at e
        unfold su
        rw [if_neg (by omega), if_neg (by omega), if_neg (by omega)]
      · unfold gw at e
        by_cases k1 : f = 35
        · subst k1
          rw [mu_t (by omega), mu_k (by decide), mu_k (by decide), mu_k (by decide), mu_k (by decide)]
        · rw [mu_k k1]
          by_cases k2 : f = 40
          · subst k2
            rw [mu_t (by omega), mu_k (by decide), mu_k (by decide), mu_k (by decide)]
          · rw [mu_k k2]
            by_cases k3 : f = 39
            · subst k3
              rw [mu_t (by omega), mu_k (by decide), mu_k (by decide)]
            · rw [mu_k k3]
              by_cases k4 : f = 38
              · subst k4
                rw [mu_t (by omega), mu_k (by decide)]
              · rw [mu_k k4]
                by_cases k5 : f = 37
                · subst k5
                  rw [mu_t (by omega)]
                · rw [mu_k k5]
    · rw [su_s]; omega
    · rw [su_k (by decide), su_k (by decide), su_k (by decide)]
/-- the gifts of one event -/
theorem ev_ok {ro : Int32 → Int32 → Int32 → Int32 → mM → Option (mM)} {x3 x4 : Int32} {e : Nat} (h0 : Rel1 w cnt L V0 c G0 z0) (hf : gfr V0 V G0 G z0 z w) (hi : i < cnt) (hs3 : z0 9 i ≠ 3) (he : e < z0 0 1) (hlt : z0 0 1 ≤ 103300) (hr : rG G z) (h : gl cnt V z G w) (hw : w < 32) (hn : z 35 w + 2 ≤ 16) : ∃ V' G' z', fX3_collectFrom L i (G0 3 0 e) (nI (z0 4 e)) w V c = some V' ∧ (if (G 9 0 i) = 0 then (jnX8_listGifts_84 ro (nI i) (nI w) x3 x4 (nI e) (G0 3 0 e) G) else (if (G 9 0 i) = (1 : Int32) then (jnX8_listGifts_84 ro (nI i) (nI w) x3 x4 (nI e) (G0 3 0 e) G) else (jnX8_listGifts_104 ro (nI i) (nI w) x3 x4 (nI e) (G0 3 0 e) G))) = ro (nI i) (nI w) x3 (x4 + 1) G' ∧ rG G' z' ∧ gl cnt V' z' G' w ∧ gfr V V' G G' z z' w ∧ z' 35 w ≤ z 35 w + 2 ∧ z' 34 w = z 34 w := by
  have h8 := h0.2.1.1.2.2
  have hR := h0.2.2.2.2.2.2.1 i hi
  have hs := hR.1.1
  have t1 : tg cnt (G0 10 0 i) := hR.2.2.2.2.1
  have t2 : tg cnt (G0 11 0 i) := hR.2.2.2.2.2
  have b6 : V0 3 i 6 = G0 10 0 i := h0.2.2.2.1 i 6 hi rfl
  have b7 : V0 3 i 7 = G0 11 0 i := h0.2.2.2.1 i 7 hi rfl
  have b0 : V0 3 i 0 = nI (z0 9 i) := h0.2.2.1 i 0 hi rfl
  have hb8 : bin (nI i) 8 = true := bin_t (by omega) (by omega)
  have hbe : bin (nI e) 124000 = true := bin_t (by omega) (by omega)
  have hz4 : z0 4 e ≤ z0 0 0 := h0.2.2.2.2.2.2.2.2.2.2.2.2.2.2.2.1 e he
  have v3 : V 3 = V0 3 := gfr_v hf (by omega)
  have g9 : G 9 0 i = nI (z0 9 i) := by rw [gfr_g hf (show 9 < 34 ∨ _ by omega)]; exact h0.1 9 i rfl
  have g10 : G 10 0 = G0 10 0 := gfr_g hf (by omega)
  have g11 : G 11 0 = G0 11 0 := gfr_g hf (by omega)
  have g4 : G 4 0 e = nI (z0 4 e) := by rw [gfr_g hf (show 4 < 34 ∨ _ by omega)]; exact h0.1 4 e rfl
  have zz : z 0 0 = z0 0 0 := by rw [gfr_z hf (show 0 < 34 ∨ _ by omega)]
  have key : ∀ (x : Int32), tg cnt x → ∃ V' G' z', fX2_append L w x (G0 3 0 e) (nI (z0 4 e)) V c = some V' ∧ fX8_gift (nI w) (G0 3 0 e) (nI (z0 4 e)) x G = some G' ∧ rG G' z' ∧ gl cnt V' z' G' w ∧ gfr V V' G G' z z' w ∧ z' 35 w ≤ z 35 w + 1 ∧ z' 34 w = z 34 w := fun x hx => gift_ok hr h hw (by omega) hx h8 (by omega)
  have hcase : z0 9 i = 0 ∨ z0 9 i = 1 ∨ z0 9 i = 2 ∨ z0 9 i = 4 := by omega
  rcases hcase with hc | hc | hc | hc
  · obtain ⟨V1, G1, z1, k1, k2, k3, k4, k5, k6, k7⟩ := key _ t1
    have g91 : G1 9 0 i = nI 0 := by rw [gfr_g k5 (show 9 < 34 ∨ _ by omega), g9, hc]
    refine ⟨V1, G1, z1, ?_, ?_, k3, k4, k5, by omega, k7⟩
    · unfold fX3_collectFrom
      rw [v3, b0, hc, if_pos (by decide), b6, k1]
      rfl
    · rw [g9, hc, if_pos (by decide)]
      unfold jnX8_listGifts_84
      rw [if_pos hbe, if_pos hb8, nIc (by omega), nIc (by omega), g4, g10, k2]
      simp only [Option.bind_some]
      unfold jnX8_listGifts_104
      rw [if_pos hb8, nIc (by omega), g91, if_neg (by decide)]
      unfold jnX8_listGifts_134
      rw [if_pos hb8, nIc (by omega), g91, if_neg (by decide)]
      rfl
  · obtain ⟨V1, G1, z1, k1, k2, k3, k4, k5, k6, k7⟩ := key _ t1
    have hf1 := gfr_trans hf k5
    obtain ⟨V2, G2, z2, l1, l2, l3, l4, l5, l6, l7⟩ := gift_ok (L := L) (c := c) (v := G0 3 0 e) (b := z0 4 e) k3 k4 hw (by omega) t2 h8 (by rw [gfr_z k5 (show 0 < 34 ∨ _ by omega)]; omega)
    have g91 : G1 9 0 i = nI 1 := by rw [gfr_g k5 (show 9 < 34 ∨ _ by omega), g9, hc]
    have g92 : G2 9 0 i = nI 1 := by rw [gfr_g l5 (show 9 < 34 ∨ _ by omega), g91]
    have g41 : G1 4 0 e = nI (z0 4 e) := by rw [gfr_g k5 (show 4 < 34 ∨ _ by omega), g4]
    have g111 : G1 11 0 = G0 11 0 := by rw [gfr_g k5 (show 11 < 34 ∨ _ by omega), g11]
    have v31 : V1 3 = V0 3 := gfr_v hf1 (by omega)
    refine ⟨V2, G2, z2, ?_, ?_, l3, l4, gfr_trans k5 l5, by omega, l7.trans k7⟩
    · unfold fX3_collectFrom
      rw [v3, b0, hc, if_neg (by decide), if_pos (by decide), b6, k1]
      simp only [Option.bind_some]
      rw [v31, b7, l1]
      rfl
    · rw [g9, hc, if_neg (by decide), if_pos (by decide)]
      unfold jnX8_listGifts_84
      rw [if_pos hbe, if_pos hb8, nIc (by omega), nIc (by omega), g4, g10, k2]
      simp only [Option.bind_some]
      unfold jnX8_listGifts_104
      rw [if_pos hb8, nIc (by omega), g91, if_pos (by decide), if_pos hbe, if_pos hb8, nIc (by omega), g41, g111, l2]
      simp only [Option.bind_some]
      unfold jnX8_listGifts_134
      rw [if_pos hb8, nIc (by omega), g92, if_neg (by decide)]
      rfl
  · by_cases hpv : (G0 3 0 e &&& 1) = 0
    · obtain ⟨V1, G1, z1, k1, k2, k3, k4, k5, k6, k7⟩ := key _ t1
      refine ⟨V1, G1, z1, ?_, ?_, k3, k4, k5, by omega, k7⟩
      · unfold fX3_collectFrom
        rw [v3, b0, hc, if_neg (by decide), if_neg (by decide), if_pos (by decide), if_pos hpv]
        unfold jnX3_collectFrom_86
        rw [b6, k1]
        rfl
      · rw [g9, hc, if_neg (by decide), if_neg (by decide)]
        unfold jnX8_listGifts_104
        rw [if_pos hb8, nIc (by omega), g9, hc, if_neg (by decide)]
        unfold jnX8_listGifts_134
        rw [if_pos hb8, nIc (by omega), g9, hc, if_pos (by decide), if_pos hbe, if_pos ((par _).mpr hpv), if_pos hb8, nIc (by omega)]
        unfold jnX8_listGifts_177
        rw [g4, g10, k2]
        rfl
    · obtain ⟨V1, G1, z1, k1, k2, k3, k4, k5, k6, k7⟩ := key _ t2
      refine ⟨V1, G1, z1, ?_, ?_, k3, k4, k5, by omega, k7⟩
      · unfold fX3_collectFrom
        rw [v3, b0, hc, if_neg (by decide), if_neg (by decide), if_pos (by decide), if_neg hpv]
        unfold jnX3_collectFrom_86
        rw [b7, k1]
        rfl
      · rw [g9, hc, if_neg (by decide), if_neg (by decide)]
        unfold jnX8_listGifts_104
        rw [if_pos hb8, nIc (by omega), g9, hc, if_neg (by decide)]
        unfold jnX8_listGifts_134
        rw [if_pos hb8, nIc (by omega), g9, hc, if_pos (by decide), if_pos hbe, if_neg (fun q => hpv ((par _).mp q)), if_pos hb8, nIc (by omega)]
        unfold jnX8_listGifts_177
        rw [g4, g11, k2]
        rfl
  · refine ⟨V, G, z, ?_, ?_, hr, h, gfr_refl, by omega, rfl⟩
    · unfold fX3_collectFrom
      rw [v3, b0, hc, if_neg (by decide), if_neg (by decide), if_neg (by decide)]
    · rw [g9, hc, if_neg (by decide), if_neg (by decide)]
      unfold jnX8_listGifts_104
      rw [if_pos hb8, nIc (by omega), g9, hc, if_neg (by decide)]
      unfold jnX8_listGifts_134
      rw [if_pos hb8, nIc (by omega), g9, hc, if_neg (by decide)]
      rfl
/-- the gifts of a batch that is no sum -/
theorem list_lp (h0 : Rel1 w cnt L V0 c G0 z0) (hi : i < cnt) (hwk : j < z0 18 i ∧ w = 4 * i + j) (hs3 : z0 9 i ≠ 3) (hlt : z0 0 1 ≤ 103300) (hw : w < 32) : ∀ (d t : Nat) (V G : mM) (z : mZ) (x3 : Int32), t + d = z0 31 w → gfr V0 V G0 G z0 z w → rG G z → gl cnt V z G w → z 35 w ≤ 2 * t → ∀ m m' : Nat, d < m → d < m' → ∃ V' G' z', lpX3_collectGifts_16 L m i w (nI t) V c = some V' ∧ lpX8_listGifts_26 m' (nI i) (nI w) x3 (nI t) G = some G' ∧ rG G' z' ∧ gl cnt V' z' G' w ∧ gfr V V' G G' z z' w ∧ z' 35 w ≤ 16 ∧ z' 34 w = z 34 w := by
  have h8 := h0.2.1.1.2.2
  obtain ⟨hj, hwe⟩ := hwk
  have hW := h0.2.2.2.2.2.2.2.2.2.1 i j hi hj
  have hB := h0.2.2.2.2.2.2.2.2.2.2.1 i j hi hj
  have hLn := h0.2.2.2.2.2.2.2.2.2.2.2.2.2.2.2.2 w (wk_lt h0 ⟨i, j, hi, hj, hwe⟩).2
  rw [← hwe] at hW hB
  have hb8 : bin (nI i) 8 = true := bin_t (by omega) (by omega)
  have hb32 : bin (nI w) 32 = true := bin_t (by omega) hw
  have h31 := hW.2.1
  intro d
  induction d with
  | zero =>
    intro t V G z x3 hd hf hr hl hn m m' hm hm'
    obtain ⟨m, rfl⟩ : ∃ q, m = q + 1 := ⟨m - 1, by omega⟩
    obtain ⟨m', rfl⟩ : ∃ q, m' = q + 1 := ⟨m' - 1, by omega⟩
    have hc : nI (z0 31 w) ≤ nI t := by rw [nI_leE (by omega) (by omega)]; omega
    have g9 : G 9 0 i = nI (z0 9 i) := by rw [gfr_g hf (show 9 < 34 ∨ _ by omega)]; exact h0.1 9 i rfl
    have g31 : G 31 0 w = nI (z0 31 w) := by rw [gfr_g hf (show 31 < 34 ∨ _ by omega)]; exact h0.1 31 w rfl
    have v11 : V 11 w 3 = nI (z0 31 w) := by rw [gfr_v hf (show 11 < 16 ∨ _ by omega)]; exact hW.1.1
    have hs := (h0.2.2.2.2.2.2.1 i hi).1.1
    refine ⟨V, G, z, ?_, ?_, hr, hl, gfr_refl, by omega, rfl⟩
    · rw [lpX3_collectGifts_16, v11, if_pos hc]
    · rw [lpX8_listGifts_26, if_pos hb32, nIc (by omega), g31, if_pos hc, if_pos hb8, nIc (by omega), g9, if_neg (by
        show ¬ nI (z0 9 i) = nI 3
        rw [nI_eqE (by omega) (by omega)]; exact hs3)]
  | succ d ih =>
    intro t V G z x3 hd hf hr hl hn m m' hm hm'
    obtain ⟨m, rfl⟩ : ∃ q, m = q + 1 := ⟨m - 1, by omega⟩
    obtain ⟨m', rfl⟩ : ∃ q, m' = q + 1 := ⟨m' - 1, by omega⟩
    have hc : ¬ nI (z0 31 w) ≤ nI t := by rw [nI_leE (by omega) (by omega)]; omega
    have g31 : G 31 0 w = nI (z0 31 w) := by rw [gfr_g hf (show 31 < 34 ∨ _ by omega)]; exact h0.1 31 w rfl
    have v11 : V 11 w 3 = nI (z0 31 w) := by rw [gfr_v hf (show 11 < 16 ∨ _ by omega)]; exact hW.1.1
    obtain ⟨r1, r2, r3, r4⟩ := hB t (by omega)
    have e8 : (8 : Int32) * nI w + nI t = nI (8 * w + t) := by
      rw [show (8 : Int32) = nI 8 from rfl, pk_mul, nI_add]
    have hb256 : bin (nI (8 * w + t)) 256 = true := bin_t (by omega) (by omega)
    have g32 : G 32 0 (8 * w + t) = nI (z0 32 (8 * w + t)) := by rw [gfr_g hf (show 32 < 34 ∨ _ by omega)]; exact h0.1 32 _ rfl
    have g3 : G 3 0 = G0 3 0 := gfr_g hf (by omega)
    have v13 : V 13 w t = G0 3 0 (z0 32 (8 * w + t)) := by rw [gfr_v hf (show 13 < 16 ∨ _ by omega)]; exact r3
    have v14 : V 14 w t = nI (z0 4 (z0 32 (8 * w + t))) := by rw [gfr_v hf (show 14 < 16 ∨ _ by omega)]; exact r4
    have hbe : bin (nI (z0 32 (8 * w + t))) 124000 = true := bin_t (by omega) (by omega)
    have hbt : bin (nI t) (L 11 w) = true := bin_t (by omega) (by rw [hLn]; omega)
    have a1 : nI t + 1 = nI (t + 1) := nI_1 t
    obtain ⟨V1, G1, z1, k1, k2, k3, k4, k5, k6, k7⟩ := ev_ok (ro := lpX8_listGifts_26 m') (x3 := x3 + G0 3 0 (z0 32 (8 * w + t))) (x4 := nI t) h0 hf hi hs3 r2 hlt hr hl hw (by omega)
    obtain ⟨V', G', z', l1, l2, l3, l4, l5, l6, l7⟩ := ih (t + 1) V1 G1 z1 (x3 + G0 3 0 (z0 32 (8 * w + t))) (by omega) (gfr_trans hf k5) k3 k4 (by omega) m m' (by omega) (by omega)
    refine ⟨V', G', z', ?_, ?_, l3, l4, gfr_trans k5 l5, l6, l7.trans k7⟩
    · rw [lpX3_collectGifts_16, v11, if_neg hc, if_pos hbt, if_pos hbt, nIc (by omega), v13, v14, k1]
      simp only [Option.bind_some]
      rw [a1]
      exact l1
    · rw [lpX8_listGifts_26, if_pos hb32, nIc (by omega), g31, if_neg hc, e8, if_pos hb256, nIc (by omega), g32, if_pos hbe, if_pos hb8, nIc (by omega), nIc (by omega), g3]
      rw [if_pos hb8, k2, a1]
      exact l2
/-- the gift of a sum -/
theorem sum_lp (h0 : Rel1 w cnt L V0 c G0 z0) (hi : i < cnt) (hwk : j < z0 18 i ∧ w = 4 * i + j) (hs3 : z0 9 i = 3) (hlt : z0 0 1 ≤ 103300) (hw : w < 32) (hn0 : 1 ≤ z0 31 w) {V G : mM} {z : mZ} (hf : gfr V0 V G0 G z0 z w) (hr : rG G z) (hl : gl cnt V z G w) (h35 : z 35 w = 0) : ∀ (d t : Nat) (x3 : Int32), t + d = z0 31 w → ∀ m m' : Nat, d < m → d < m' → ∃ V' G' z', lpX3_collectSum_4 L m i w x3 (nI t) V c = some V' ∧ lpX8_listGifts_26 m' (nI i) (nI w) x3 (nI t) G = some G' ∧ rG G' z' ∧ gl cnt V' z' G' w ∧ gfr V V' G G' z z' w ∧ z' 35 w ≤ 16 ∧ z' 34 w = z 34 w := by
  have h8 := h0.2.1.1.2.2
  obtain ⟨hj, hwe⟩ := hwk
  have hW := h0.2.2.2.2.2.2.2.2.2.1 i j hi hj
  have hB := h0.2.2.2.2.2.2.2.2.2.2.1 i j hi hj
  have hLn := h0.2.2.2.2.2.2.2.2.2.2.2.2.2.2.2.2 w (wk_lt h0 ⟨i, j, hi, hj, hwe⟩).2
  rw [← hwe] at hW hB
  have hb8 : bin (nI i) 8 = true := bin_t (by omega) (by omega)
  have hb32 : bin (nI w) 32 = true := bin_t (by omega) hw
  have h31 := hW.2.1
  have g9 : G 9 0 i = nI 3 := by rw [gfr_g hf (show 9 < 34 ∨ _ by omega), ← hs3]; exact h0.1 9 i rfl
  have g31 : G 31 0 w = nI (z0 31 w) := by rw [gfr_g hf (show 31 < 34 ∨ _ by omega)]; exact h0.1 31 w rfl
  have v11 : V 11 w 3 = nI (z0 31 w) := by rw [gfr_v hf (show 11 < 16 ∨ _ by omega)]; exact hW.1.1
  have g3 : G 3 0 = G0 3 0 := gfr_g hf (by omega)
  intro d
  induction d with
  | zero =>
    intro t x3 hd m m' hm hm'
    obtain ⟨m, rfl⟩ : ∃ q, m = q + 1 := ⟨m - 1, by omega⟩
    obtain ⟨m', rfl⟩ : ∃ q, m' = q + 1 := ⟨m' - 1, by omega⟩
    have hc : nI (z0 31 w) ≤ nI t := by rw [nI_leE (by omega) (by omega)]; omega
    obtain ⟨r1, r2, r3, r4⟩ := hB 0 (by omega)
    rw [Nat.add_zero] at r1 r2 r3 r4
    have e8 : (8 : Int32) * nI w = nI (8 * w) := by
      rw [show (8 : Int32) = nI 8 from rfl, pk_mul]
    have hb256 : bin (nI (8 * w)) 256 = true := bin_t (by omega) (by omega)
    have g32 : G 32 0 (8 * w) = nI (z0 32 (8 * w)) := by rw [gfr_g hf (show 32 < 34 ∨ _ by omega)]; exact h0.1 32 _ rfl
    have v14 : V 14 w 0 = nI (z0 4 (z0 32 (8 * w))) := by rw [gfr_v hf (show 14 < 16 ∨ _ by omega)]; exact r4
    have hbe : bin (nI (z0 32 (8 * w))) 124000 = true := bin_t (by omega) (by omega)
    have g4 : G 4 0 (z0 32 (8 * w)) = nI (z0 4 (z0 32 (8 * w))) := by rw [gfr_g hf (show 4 < 34 ∨ _ by omega)]; exact h0.1 4 _ rfl
    have g10 : G 10 0 i = G0 10 0 i := by rw [gfr_g hf (show 10 < 34 ∨ _ by omega)]
    have v36 : V 3 i 6 = G0 10 0 i := by rw [gfr_v hf (show 3 < 16 ∨ _ by omega)]; exact h0.2.2.2.1 i 6 hi rfl
    have hz4 : z0 4 (z0 32 (8 * w)) ≤ z0 0 0 := h0.2.2.2.2.2.2.2.2.2.2.2.2.2.2.2.1 _ r2
    have zz : z 0 0 = z0 0 0 := by rw [gfr_z hf (show 0 < 34 ∨ _ by omega)]
    have hbt : bin (0 : Int32) (L 11 w) = true := bin_t (i := 0) (by omega) (by rw [hLn]; omega)
    have hc0 : (0 : Int32).toNatClampNeg = 0 := rfl
    obtain ⟨V1, G1, z1, k1, k2, k3, k4, k5, k6, k7⟩ := gift_ok (L := L) (c := c) (v := x3) (b := z0 4 (z0 32 (8 * w))) (x := G0 10 0 i) hr hl hw (by omega) (h0.2.2.2.2.2.2.1 i hi).2.2.2.2.1 h8 (by omega)
    refine ⟨V1, G1, z1, ?_, ?_, k3, k4, k5, by omega, k7⟩
    · rw [lpX3_collectSum_4, v11, if_pos hc, if_pos hbt, v36, hc0, v14, k1]
      rfl
    · rw [lpX8_listGifts_26, if_pos hb32, nIc (by omega), g31, if_pos hc, if_pos hb8, nIc (by omega), g9, if_pos (by decide), e8, if_pos hb256, nIc (by omega), g32, if_pos hbe, if_pos hb8, nIc (by omega), g4, g10, k2]
      rfl
  | succ d ih =>
    intro t x3 hd m m' hm hm'
    obtain ⟨m, rfl⟩ : ∃ q, m = q + 1 := ⟨m - 1, by omega⟩
    obtain ⟨m', rfl⟩ : ∃ q, m' = q + 1 := ⟨m' - 1, by omega⟩
    have hc : ¬ nI (z0 31 w) ≤ nI t := by rw [nI_leE (by omega) (by omega)]; omega
    obtain ⟨r1, r2, r3, r4⟩ := hB t (by omega)
    have e8 : (8 : Int32) * nI w + nI t = nI (8 * w + t) := by
      rw [show (8 : Int32) = nI 8 from rfl, pk_mul, nI_add]
    have hb256 : bin (nI (8 * w + t)) 256 = true := bin_t (by omega) (by omega)
    have g32 : G 32 0 (8 * w + t) = nI (z0 32 (8 * w + t)) := by rw [gfr_g hf (show 32 < 34 ∨ _ by omega)]; exact h0.1 32 _ rfl
    have v13 : V 13 w t = G0 3 0 (z0 32 (8 * w + t)) := by rw [gfr_v hf (show 13 < 16 ∨ _ by omega)]; exact r3
    have hbe : bin (nI (z0 32 (8 * w + t))) 124000 = true := bin_t (by omega) (by omega)
    have hbt : bin (nI t) (L 11 w) = true := bin_t (by omega) (by rw [hLn]; omega)
    have a1 : nI t + 1 = nI (t + 1) := nI_1 t
    obtain ⟨V', G', z', l1, l2, l3⟩ := ih (t + 1) (x3 + G0 3 0 (z0 32 (8 * w + t))) (by omega) m m' (by omega) (by omega)
    refine ⟨V', G', z', ?_, ?_, l3⟩
    · rw [lpX3_collectSum_4, v11, if_neg hc, if_pos hbt, nIc (by omega), v13, a1]
      exact l1
    · rw [lpX8_listGifts_26, if_pos hb32, nIc (by omega), g31, if_neg hc, e8, if_pos hb256, nIc (by omega), g32, if_pos hbe, if_pos hb8, nIc (by omega), nIc (by omega), g3, g9, if_neg (by decide), if_pos hb8, if_neg (by decide)]
      unfold jnX8_listGifts_104
      rw [if_pos hb8, nIc (by omega), g9, if_neg (by decide)]
      unfold jnX8_listGifts_134
      rw [if_pos hb8, nIc (by omega), g9, if_neg (by decide)]
      unfold jnX8_listGifts_180
      rw [a1]
      exact l2
end LIS
