/-! offers: refusal, make, take -/
def RA1 (cnt : Nat) (V : mM) (z : mZ) : Prop := (V 2 0 3 = nI cnt ∧ z 0 7 = cnt ∧ cnt ≤ 8) ∧ V 2 0 4 = nI (z 0 0) ∧ V 2 0 5 = nI (z 0 1) ∧ V 2 0 6 = nI (z 0 6) ∧ V 10 0 2 = nI (z 0 4) ∧ ∀ i, i < cnt → V 4 0 i = nI i
def RW1 (cnt : Nat) (V : mM) (z : mZ) : Prop := ∀ i j, i < cnt → j < z 18 i → (V 11 (4 * i + j) 3 = nI (z 31 (4 * i + j)) ∧ V 16 (4 * i + j) 2 = nI (z 33 (4 * i + j)) ∧ V 16 (4 * i + j) 3 = nI (z 41 (4 * i + j)) ∧ V 16 (4 * i + j) 4 = nI (z 34 (4 * i + j))) ∧ z 31 (4 * i + j) ≤ 8 ∧ z 33 (4 * i + j) ≤ 72 ∧ z 34 (4 * i + j) ≤ 1 ∧ (z 31 (4 * i + j) = 0 → z 33 (4 * i + j) = 0 ∧ z 34 (4 * i + j) = 0)
def RWx (w0 cnt : Nat) (V : mM) (z : mZ) (G : mM) : Prop := ∀ i j, i < cnt → j < z 18 i → 4 * i + j ≠ w0 → gf cnt V z G (4 * i + j)
/-- all of the relation but the count of events, the timers, and how long workers are idle and there; worker w0's gifts are left out -/
def Rel1 (w0 cnt : Nat) (L : Nat → Nat → Nat) (V : mM) (c : Nat × Nat) (G : mM) (z : mZ) : Prop := rG G z ∧ RA1 cnt V z ∧ RBn cnt V z ∧ RBo cnt V G ∧ RQs cnt V z ∧ RTs cnt V z ∧ RR cnt L z G ∧ RZ cnt z G ∧ RQ cnt V z G ∧ RW1 cnt V z ∧ RWb cnt V z G ∧ RWx w0 cnt V z G ∧ RWi cnt V z ∧ RT cnt V z ∧ RD V z c G ∧ RE z ∧ RLen cnt L
def RM1 (k cnt : Nat) (V : mM) (z : mZ) (G : mM) : Prop := RM k cnt V z G ∧ V 5 0 4 = nI (z 0 43) ∧ V 5 0 5 = nI (z 0 42)
/-- the workers before p had their step in this tick -/
def RI (cnt p : Nat) (z : mZ) : Prop := ∀ i j, i < cnt → j < z 18 i → (4 * i + j < p → z 41 (4 * i + j) ≤ z 0 0 ∧ z 42 (4 * i + j) ≤ z 0 0 ∧ (1 ≤ j → z 42 (4 * i + j) % 10 = z 0 0 % 10)) ∧ (p ≤ 4 * i + j → z 41 (4 * i + j) + 1 ≤ z 0 0 ∧ z 42 (4 * i + j) + 1 ≤ z 0 0 ∧ (1 ≤ j → (z 42 (4 * i + j) + 1) % 10 = z 0 0 % 10))
def RS (B : Nat) (z : mZ) (G : mM) : Prop := z 0 1 ≤ B + sumN (z 26) 8 + z 0 6 + sumN (pend z G) 32
section OFF
variable {w0 cnt k i U : Nat} {L : Nat → Nat → Nat} {V G : mM} {c : Nat × Nat} {z : mZ} {a : Int32}
theorem RR_w (h : RR cnt L z G) {i j : Nat} (hi : i < cnt) (hj : j < z 18 i) : j < 4 := by
  have := h i hi
  have q1 := this.1.2.2.2.2.1
  have q2 := this.2.2.1.2.1
  omega
theorem rel1_of (h : Rel0 U k cnt L V c G z) : Rel1 w0 cnt L V c G z := by
  obtain ⟨h1, h2, h3, h4, h5, h6, h7, h8, h9, h10, h11, h12, h13, h14, h15, h16, h17, h18, h19, h20⟩ := h
  refine ⟨h1, ⟨h2.1, h2.2.1, h2.2.2.1, h2.2.2.2.1, h2.2.2.2.2.1, h2.2.2.2.2.2.2.2⟩, h3, h4, h5, h6, h7, h8, h9, ?_, h11, fun i j hi hj _ => h12 i j hi hj, h13, h15, h17, h18, h20⟩
  intro i j hi hj
  obtain ⟨q1, q2, q3, q4, q5, q6, q7⟩ := h10 i j hi hj
  exact ⟨q1, q2, q3, q4, q7⟩
theorem rel0_M (h : Rel0 U k cnt L V c G z) : RM1 k cnt V z G := by
  obtain ⟨h1, h2, h3, h4, h5, h6, h7, h8, h9, h10, h11, h12, h13, h14, h15, h16, h17, h18, h19, h20⟩ := h
  exact ⟨h16, h2.2.2.2.2.2.1, h2.2.2.2.2.2.2.1⟩
theorem rel0_I (h : Rel0 U k cnt L V c G z) : RI cnt 32 z := by
  obtain ⟨h1, h2, h3, h4, h5, h6, h7, h8, h9, h10, h11, h12, h13, h14, h15, h16, h17, h18, h19, h20⟩ := h
  intro i j hi hj
  obtain ⟨q1, q2, q3, q4, q5, q6, q7⟩ := h10 i j hi hj
  have h8 := h2.1.2.2
  have := RR_w h7 hi hj
  exact ⟨fun _ => ⟨q5, q6, fun hj1 => h14 i j hi hj1 hj⟩, fun hp => absurd hp (by omega)⟩
theorem rel0_N (h : Rel0 U k cnt L V c G z) : z 0 0 ≤ 400 ∧ U ≤ 12800 ∧ z 0 4 ≤ 8 * U ∧ RS (8 * U) z G := by
  obtain ⟨h1, h2, h3, h4, h5, h6, h7, h8, h9, h10, h11, h12, h13, h14, h15, h16, h17, h18, h19, h20⟩ := h
  obtain ⟨q1, q2, q3, T, q4, q5⟩ := h19
  exact ⟨q1, q2, q3, by unfold RS; omega⟩
theorem rel0_of (h : Rel1 w0 cnt L V c G z) (hw : 32 ≤ w0) (hM : RM1 k cnt V z G) (hI : RI cnt 32 z) (hN : z 0 0 ≤ 400 ∧ U ≤ 12800 ∧ z 0 4 ≤ 8 * U ∧ RS (8 * U) z G) : Rel0 U k cnt L V c G z := by
  obtain ⟨h1, h2, h3, h4, h5, h6, h7, h8, h9, h10, h11, h12, h13, h15, h17, h18, h20⟩ := h
  have h88 := h2.1.2.2
  refine ⟨h1, ⟨h2.1, h2.2.1, h2.2.2.1, h2.2.2.2.1, h2.2.2.2.2.1, hM.2.1, hM.2.2, h2.2.2.2.2.2⟩, h3, h4, h5, h6, h7, h8, h9, ?_, h11, ?_, h13, ?_, h15, hM.1, h17, h18, ⟨hN.1, hN.2.1, hN.2.2.1, 8 * U, Nat.le_refl _, hN.2.2.2⟩, h20⟩
  · intro i j hi hj
    have := RR_w h7 hi hj
    obtain ⟨q1, q2, q3, q4, q7⟩ := h10 i j hi hj
    have q5 := (hI i j hi hj).1 (by omega)
    exact ⟨q1, q2, q3, q4, q5.1, q5.2.1, q7⟩
  · intro i j hi hj
    have := RR_w h7 hi hj
    exact h12 i j hi hj (by omega)
  · intro i j hi hj1 hj
    have := RR_w h7 hi hj
    exact ((hI i j hi hj).1 (by omega)).2.2 hj1
theorem RS_lt (hS : RS (8 * U) z G) (hU : U ≤ 12800) (hR : RR cnt L z G) (hZ : RZ cnt z G) (hl : z 0 6 ≤ 512) : z 0 1 ≤ 103300 := by
  have e1 : sumN (z 26) 8 ≤ 8 * 32 := sumN_le (fun i _ => by
    by_cases hi : i < cnt
    · have := hR i hi
      have q1 := this.1.2.2.1
      have q2 := this.2.1.1
      omega
    · have := (hZ.1 i (by omega)).2.2.2.1
      omega)
  have e2 : sumN (pend z G) 32 ≤ 32 * 1 := sumN_le (fun w _ => by
    unfold pend
    split <;> omega)
  unfold RS at hS
  omega
/-- why an offer is refused; 0: it isn't -/
def rcd (z : mZ) (i : Nat) : Int32 := if z 22 i = 0 then (if z 26 i + z 13 i < z 12 i then (if z 14 i = 0 then -4 else 0) else -2) else -3
theorem rcd_0 (h : rcd z i = 0) : z 22 i = 0 ∧ z 26 i + z 13 i < z 12 i ∧ 0 < z 14 i := by
  unfold rcd at h
  by_cases h1 : z 22 i = 0
  · rw [if_pos h1] at h
    by_cases h2 : z 26 i + z 13 i < z 12 i
    · rw [if_pos h2] at h
      by_cases h3 : z 14 i = 0
      · rw [if_pos h3] at h; exact absurd h (by decide)
      · exact ⟨h1, h2, by omega⟩
    · rw [if_neg h2] at h; exact absurd h (by decide)
  · rw [if_neg h1] at h; exact absurd h (by decide)
theorem rcd_neg (h : ¬ rcd z i = 0) : ¬ 0 ≤ rcd z i := by
  unfold rcd at h ⊢
  by_cases h1 : z 22 i = 0
  · rw [if_pos h1] at h ⊢
    by_cases h2 : z 26 i + z 13 i < z 12 i
    · rw [if_pos h2] at h ⊢
      by_cases h3 : z 14 i = 0
      · rw [if_pos h3]; decide
      · rw [if_neg h3] at h; exact absurd rfl h
    · rw [if_neg h2]; decide
  · rw [if_neg h1]; decide
theorem ask_x (h : Rel1 w0 cnt L V c G z) (hi : i < cnt) : fX3_ask L i V c = some (rcd z i, if rcd z i = 0 then V else mu V 3 i 16 (V 3 i 16 + 1)) := by
  have hR := h.2.2.2.2.2.2.1 i hi
  have r1 := hR.1
  have r2 := hR.2.1
  have e8 : V 3 i 8 = nI (z 22 i) := h.2.2.1 i 8 hi rfl
  have e1 : V 3 i 1 = nI (z 12 i) := h.2.2.1 i 1 hi rfl
  have e9 : V 3 i 9 = nI (z 13 i) := h.2.2.1 i 9 hi rfl
  have e12 : V 3 i 12 = nI (z 14 i) := h.2.2.1 i 12 hi rfl
  have eq : V 11 (32 + i) 3 = nI (z 26 i) := h.2.2.2.2.1 i hi
  have hj : ∀ x : Int32, jnX3_ask_38 L i x V c = some (x, if x = 0 then V else mu V 3 i 16 (V 3 i 16 + 1)) := by
    intro x
    unfold jnX3_ask_38
    by_cases hx : x = 0
    · rw [if_pos hx, if_pos hx]
    · rw [if_neg hx, if_neg hx]
  have ef : (V 3 i 1 - V 11 (32 + i) 3) - V 3 i 9 = nI (z 12 i - z 26 i - z 13 i) := by
    rw [e1, eq, e9, pk_sub (by omega), pk_sub (by omega)]
  have hlt : ∀ n : Nat, n < 2 ^ 31 → ((0 : Int32) < nI n) = (0 < n) := fun n hn => by rw [← nI_0]; exact nI_ltE (by decide) hn
  unfold fX3_ask fX3_freePlaces rcd
  simp only [Option.bind_some, hj]
  rw [ef, e8, e12]
  simp only [hlt _ (show z 12 i - z 26 i - z 13 i < 2 ^ 31 by omega), hlt _ (show z 14 i < 2 ^ 31 by omega), nI_z (show z 22 i < 2 ^ 31 by omega)]
  by_cases h1 : z 22 i = 0
  · rw [if_pos h1, if_pos h1]
    by_cases h2 : z 26 i + z 13 i < z 12 i
    · rw [if_pos (by omega), if_pos h2]
      by_cases h3 : z 14 i = 0
      · rw [if_neg (by omega), if_pos h3]
      · rw [if_pos (by omega), if_neg h3]; simp
    · rw [if_neg (by omega), if_neg h2]
  · rw [if_neg h1, if_neg h1]
theorem ask_m (h : Rel1 w0 cnt L V c G z) (hi : i < cnt) : fX8_refusal (nI i) G = some (rcd z i) := by
  have hG := h.1
  have h8 := h.2.1.1.2.2
  have hR := h.2.2.2.2.2.2.1 i hi
  have r1 := hR.1
  have r2 := hR.2.1
  have hb1 : bin (nI i) 8 = true := bin_t (by omega) (by omega)
  unfold fX8_refusal rcd
  simp only [hb1, if_true, nIc (show i < 2 ^ 31 by omega), hG 22 i rfl, hG 26 i rfl, hG 13 i rfl, hG 12 i rfl, hG 14 i rfl, nI_add, nI_z (show z 22 i < 2 ^ 31 by omega), nI_z (show z 14 i < 2 ^ 31 by omega), nI_ltE (show z 26 i + z 13 i < 2 ^ 31 by omega) (show z 12 i < 2 ^ 31 by omega)]
  by_cases h1 : z 22 i = 0
  · rw [if_pos h1, if_pos h1]
    by_cases h2 : z 26 i + z 13 i < z 12 i
    · rw [if_pos h2, if_pos h2]
      by_cases h3 : z 14 i = 0
      · rw [if_pos h3, if_pos h3]
      · rw [if_neg h3, if_neg h3]
    · rw [if_neg h2, if_neg h2]
  · rw [if_neg h1, if_neg h1]
theorem mkev_x {e : Nat} (he : V 2 0 5 = nI e) : fX7_makeEvent L V c = some (nI e, mu V 2 0 5 (nI (e + 1))) := by
  unfold fX7_makeEvent
  rw [mu_s, he]
  have e1 : nI e + 1 = nI (e + 1) := nI_1 e
  rw [e1, nI_pred]
theorem make_m {e : Nat} {v b : Int32} (he : G 0 0 1 = nI e) (hl : e < 124000) : fX8_make v b G = some (nI e, mu (mu (mu G 3 0 e v) 4 0 e b) 0 0 1 (nI (e + 1))) := by
  have hb : bin (nI e) 124000 = true := bin_t (by omega) hl
  unfold fX8_make
  simp only [mu_s, mu_k (show (0 : Nat) ≠ 3 by decide), mu_k (show (0 : Nat) ≠ 4 by decide), he, hb, if_true, nIc (show e < 2 ^ 31 by omega)]
  have e1 : nI e + 1 = nI (e + 1) := nI_1 e
  rw [e1, nI_pred]
theorem append_x {n w : Nat} {p v b : Int32} (hw : V 11 n 3 = nI w) (hl : w < L 11 n) (h32 : L 11 n ≤ 32) : fX1_append L n p v b V c = some (mu (mu (mu (mu V 12 n w p) 13 n w v) 14 n w b) 11 n 3 (nI (w + 1))) := by
  have hb : bin (nI w) (L 11 n) = true := bin_t (by omega) hl
  have hlt : nI w < Int32.ofNat (L 11 n) := by
    show nI w < nI (L 11 n)
    rw [nI_ltE (by omega) (by omega)]
    exact hl
  unfold fX1_append
  simp only [mu_k (show (11 : Nat) ≠ 12 by decide), mu_k (show (11 : Nat) ≠ 13 by decide), mu_k (show (11 : Nat) ≠ 14 by decide), hw, hb, if_true, nIc (show w < 2 ^ 31 by omega)]
  rw [if_pos hlt]
  have e1 : nI w + 1 = nI (w + 1) := nI_1 w
  rw [e1]
theorem take_x (h : Rel1 w0 cnt L V c G z) (hi : i < cnt) (h0 : rcd z i = 0) {p v b : Int32} : fX3_take L i p v b V c = some (mu (mu (mu (mu (mu V 12 (32 + i) (z 26 i) p) 13 (32 + i) (z 26 i) v) 14 (32 + i) (z 26 i) b) 11 (32 + i) 3 (nI (z 26 i + 1))) 3 i 12 (nI (z 14 i - 1))) := by
  have hR := h.2.2.2.2.2.2.1 i hi
  have r1 := hR.1
  have r4 := hR.2.2.2.1
  obtain ⟨q1, q2, q3⟩ := rcd_0 h0
  have e12 : V 3 i 12 = nI (z 14 i) := h.2.2.1 i 12 hi rfl
  unfold fX3_take
  rw [append_x (h.2.2.2.2.1 i hi) (by omega) (by omega)]
  simp only [Option.bind_some, mu_k (show (3 : Nat) ≠ 11 by decide), mu_k (show (3 : Nat) ≠ 12 by decide), mu_k (show (3 : Nat) ≠ 13 by decide), mu_k (show (3 : Nat) ≠ 14 by decide), e12]
  rw [nI_pre q3]
theorem stand_m (h : Rel1 w0 cnt L V c G z) (hi : i < cnt) (hw : z 26 i < z 12 i) {p : Int32} : fX8_stand (nI i) p G = some (mu (mu G 27 0 (32 * i + z 26 i) p) 26 0 i (nI (z 26 i + 1))) := by
  have hG := h.1
  have h8 := h.2.1.1.2.2
  have r1 := (h.2.2.2.2.2.2.1 i hi).1
  have hb1 : bin (nI i) 8 = true := bin_t (by omega) (by omega)
  have e1 : (32 : Int32) * nI i + nI (z 26 i) = nI (32 * i + z 26 i) := by
    rw [show (32 : Int32) = nI 32 from rfl, pk_mul, nI_add]
  have hb2 : bin (nI (32 * i + z 26 i)) 256 = true := bin_t (by omega) (by omega)
  unfold fX8_stand
  simp only [mu_k (show (26 : Nat) ≠ 27 by decide), hb1, if_true, nIc (show i < 2 ^ 31 by omega), hG 26 i rfl, e1, hb2, nIc (show 32 * i + z 26 i < 2 ^ 31 by omega)]
  have e2 : nI (z 26 i) + 1 = nI (z 26 i + 1) := nI_1 _
  rw [e2]
theorem offer_0 (h : Rel1 w0 cnt L V c G z) (hi : i < cnt) (h0 : rcd z i = 0) {p : Int32} : fX8_offer (nI i) p G = some (1, mu (mu (mu G 27 0 (32 * i + z 26 i) p) 26 0 i (nI (z 26 i + 1))) 14 0 i (nI (z 14 i - 1))) := by
  have hG := h.1
  have h8 := h.2.1.1.2.2
  obtain ⟨q1, q2, q3⟩ := rcd_0 h0
  have hb1 : bin (nI i) 8 = true := bin_t (by omega) (by omega)
  unfold fX8_offer
  simp only [ask_m h hi, h0, Option.bind_some, stand_m h hi (show z 26 i < z 12 i by omega), hb1, if_true, nIc (show i < 2 ^ 31 by omega), mu_k (show (14 : Nat) ≠ 26 by decide), mu_k (show (14 : Nat) ≠ 27 by decide), hG 14 i rfl]
  rw [if_pos (by decide), nI_pre q3]
theorem offer_1 (h : Rel1 w0 cnt L V c G z) (hi : i < cnt) (h0 : ¬ rcd z i = 0) {p : Int32} : fX8_offer (nI i) p G = some (0, mu G 23 0 i (G 23 0 i + 1)) := by
  have h8 := h.2.1.1.2.2
  have hb1 : bin (nI i) 8 = true := bin_t (by omega) (by omega)
  unfold fX8_offer
  simp only [ask_m h hi, Option.bind_some, hb1, if_true, nIc (show i < 2 ^ 31 by omega)]
  rw [if_neg (rcd_neg h0)]
end OFF
