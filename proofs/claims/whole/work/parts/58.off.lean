/-! a worker offers its gifts -/
section OFG
variable {w0 cnt k i j U B p n w q : Nat} {L : Nat → Nat → Nat} {V G V' G' : mM} {c : Nat × Nat} {z z' : mZ}
def gz (cnt : Nat) (V : mM) (z : mZ) (G : mM) (w : Nat) : Prop := (V 17 w 3 = nI (z 35 w) ∧ V 17 w 4 = nI (z 36 w) ∧ z 36 w ≤ z 35 w ∧ z 35 w ≤ 16) ∧ (∀ t, z 36 w ≤ t → t < z 35 w → V 18 w t = nI (z 39 (16 * w + t)) ∧ z 39 (16 * w + t) < cnt ∧ V 19 w t = G 37 0 (16 * w + t) ∧ V 20 w t = nI (z 38 (16 * w + t)) ∧ z 38 (16 * w + t) ≤ z 0 0) ∧ ∀ t, z 36 w < t → t < z 35 w → G 40 0 (16 * w + t) = -1
def gn (V : mM) (z : mZ) (G : mM) (w : Nat) : Prop := V 17 w 5 = -1 ∧ (z 36 w < z 35 w → G 40 0 (16 * w + z 36 w) = -1)
def gp (V : mM) (z : mZ) (G : mM) (w e : Nat) : Prop := z 36 w < z 35 w ∧ e < z 0 1 ∧ V 17 w 5 = nI e ∧ G 40 0 (16 * w + z 36 w) = nI e ∧ G 3 0 e = G 37 0 (16 * w + z 36 w) ∧ z 4 e = z 38 (16 * w + z 36 w)
def kf (z z' : mZ) : Prop := (z' 18 = z 18 ∧ z' 31 = z 31 ∧ z' 33 = z 33 ∧ z' 34 = z 34) ∧ (z' 41 = z 41 ∧ z' 42 = z 42 ∧ z' 9 = z 9) ∧ z' 0 0 = z 0 0 ∧ z' 0 4 = z 0 4
theorem kf_refl : kf z z := ⟨⟨rfl, rfl, rfl, rfl⟩, ⟨rfl, rfl, rfl⟩, rfl, rfl⟩
theorem kf_trans {z'' : mZ} (h : kf z z') (q : kf z' z'') : kf z z'' := by
  obtain ⟨⟨a1, a2, a3, a4⟩, ⟨a5, a6, a7⟩, a8, a9⟩ := h
  obtain ⟨⟨b1, b2, b3, b4⟩, ⟨b5, b6, b7⟩, b8, b9⟩ := q
  exact ⟨⟨b1.trans a1, b2.trans a2, b3.trans a3, b4.trans a4⟩, ⟨b5.trans a5, b6.trans a6, b7.trans a7⟩, b8.trans a8, b9.trans a9⟩
theorem gf_gz (h : gf cnt V z G w) (h34 : z 34 w = 1) : gz cnt V z G w ∧ z 36 w < z 35 w ∧ (gn V z G w ∨ ∃ e, gp V z G w e) := by
  obtain ⟨⟨a1, a2, a3, a4, a5⟩, a6, a7, a8⟩ := h.2 h34
  refine ⟨⟨⟨a1, a2, by omega, a4⟩, a7, a8⟩, a3, ?_⟩
  rcases a6 with a6 | ⟨e, e1, e2, e3, e4⟩
  · exact Or.inl ⟨by rw [a5, a6], fun _ => a6⟩
  · exact Or.inr ⟨e, a3, e1, by rw [a5, e2], e2, e3, e4⟩
theorem gz_gf {e : Nat} (h : gz cnt V z G w) (hp : gp V z G w e) (h34 : z 34 w = 1) : gf cnt V z G w := by
  obtain ⟨⟨a1, a2, a3, a4⟩, a5, a6⟩ := h
  obtain ⟨b1, b2, b3, b4, b5, b6⟩ := hp
  exact ⟨fun h0 => absurd h0 (by omega), fun _ => ⟨⟨a1, a2, b1, a4, by rw [b3, b4]⟩, Or.inr ⟨e, b2, b4, b5, b6⟩, a5, a6⟩⟩
theorem gz_tk {e : Nat} {v b : Int32} (h : gz cnt V z G w) : gz cnt (tkV V z i e v b) (tkz z i e) (tkG G z i e) w := by
  simpa [gz, tkz_k, tkG_k, tkV_k] using h
theorem gz_mk {b : Nat} {v : Int32} (h : gz cnt V z G w) : gz cnt (mkV V z) (mkz z b) (mkG G z v b) w := by
  simpa [gz, mkz_k, mkz_0, mkG_k, mkV_k] using h
theorem pex_tk {e : Nat} : pex (tkz z i e) (tkG G z i e) w = pex z G w := by
  funext w'
  unfold pex
  rw [pend_tk]
theorem pex_mk {v : Int32} {b : Nat} : pex (mkz z b) (mkG G z v b) w = pex z G w := by
  funext w'
  unfold pex
  rw [pend_mk]
theorem pex_23 {x : Int32} : pex z (mu G 23 0 i x) w = pex z G w := by
  funext w'
  unfold pex
  rw [pend_23]
theorem kf_tk {e : Nat} : kf z (tkz z i e) := by
  refine ⟨⟨tkz_k (by decide), tkz_k (by decide), tkz_k (by decide), tkz_k (by decide)⟩, ⟨tkz_k (by decide), tkz_k (by decide), tkz_k (by decide)⟩, ?_, ?_⟩ <;> rw [tkz_k (by decide)]
theorem kf_mk {b : Nat} : kf z (mkz z b) :=
  ⟨⟨mkz_k (by decide), mkz_k (by decide), mkz_k (by decide), mkz_k (by decide)⟩, ⟨mkz_k (by decide), mkz_k (by decide), mkz_k (by decide)⟩, mkz_0 (by decide), mkz_0 (by decide)⟩
theorem kf_36 {y : Nat} : kf z (su z 36 w y) := by
  refine ⟨⟨su_k (by decide), su_k (by decide), su_k (by decide), su_k (by decide)⟩, ⟨su_k (by decide), su_k (by decide), su_k (by decide)⟩, ?_, ?_⟩ <;> rw [su_k (by decide)]
theorem wk_kf (h : wk cnt z w) (q : kf z z') : wk cnt z' w := by
  unfold wk
  rw [q.1.1]
  exact h
theorem wk_lt (h : Rel1 w0 cnt L V c G z) (hw : wk cnt z w) : w < 32 ∧ w < 4 * cnt := by
  obtain ⟨i, j, q1, q2, q3⟩ := hw
  have := RR_w h.2.2.2.2.2.2.1 q1 q2
  have h8 := h.2.1.1.2.2
  omega
theorem RSw_lt {hq : q ≤ 1} (hS : RSw (8 * U) w q z G) (hU : U ≤ 12800) (hR : RR cnt L z G) (hZ : RZ cnt z G) (hl : z 0 6 ≤ 512) : z 0 1 ≤ 103300 := by
  have e1 : sumN (z 26) 8 ≤ 8 * 32 := sumN_le (fun i _ => by
    by_cases hi : i < cnt
    · have := hR i hi
      have q1 := this.1.2.2.1
      have q2 := this.2.1.1
      omega
    · have := (hZ.1 i (by omega)).2.2.2.1
      omega)
  have e2 : sumN (pex z G w) 32 ≤ 32 * 1 := sumN_le (fun w' _ => by
    unfold pex pend
    split
    · omega
    · split <;> omega)
  unfold RSw at hS
  omega
theorem rw_34 (h : Rel1 w0 cnt L V c G z) (hw : wk cnt z w) : V 16 w 4 = nI (z 34 w) ∧ z 34 w ≤ 1 ∧ (z 31 w = 0 → z 34 w = 0) := by
  obtain ⟨i, j, q1, q2, rfl⟩ := hw
  have := h.2.2.2.2.2.2.2.2.2.1 i j q1 q2
  exact ⟨this.1.2.2.2, this.2.2.2.1, fun h0 => (this.2.2.2.2 h0).2⟩
/-- a gift gets its number -/
def onV (V : mM) (z : mZ) (w : Nat) : mM := mu (mkV V z) 17 w 5 (nI (z 0 1))
def onG (G : mM) (z : mZ) (w : Nat) : mM := mu (mkG G z (G 37 0 (16 * w + z 36 w)) (z 38 (16 * w + z 36 w))) 40 0 (16 * w + z 36 w) (nI (z 0 1))
def onz (z : mZ) (w : Nat) : mZ := mkz z (z 38 (16 * w + z 36 w))
theorem on_gfr (hw : z 36 w < 16) : gfr (mkV V z) (onV V z w) (mkG G z (G 37 0 (16 * w + z 36 w)) (z 38 (16 * w + z 36 w))) (onG G z w) (onz z w) (onz z w) w := by
  refine ⟨fun f n t e => ?_, fun f t e => rfl, fun f t e => ?_⟩
  · unfold onV
    by_cases ek : f = 17
    · subst ek
      rw [mu_app, if_neg (by omega)]
    · rw [mu_k ek]
  · unfold onG
    by_cases ek : f = 40
    · subst ek
      unfold gw at e
      rw [mu_app, if_neg (by omega)]
    · rw [mu_k ek]
theorem on_ok (h : Rel1 w cnt L V c G z) (hw : wk cnt z w) (hM : RM1 k cnt V z G) (hI : RI cnt p z) (hN : NPw U w 0 z G) (hz : gz cnt V z G w) (hn : gn V z G w) (hlt : z 36 w < z 35 w) : Rel1 w cnt L (onV V z w) c (onG G z w) (onz z w) ∧ RM1 k cnt (onV V z w) (onz z w) (onG G z w) ∧ RI cnt p (onz z w) ∧ NPw U w 1 (onz z w) (onG G z w) ∧ gz cnt (onV V z w) (onz z w) (onG G z w) w ∧ gp (onV V z w) (onz z w) (onG G z w) w (z 0 1) ∧ kf z (onz z w) := by
  have h16 := hz.1.2.2.2
  have hq := on_gfr (V := V) (G := G) (show z 36 w < 16 by omega)
  have hb := (hz.2.1 (z 36 w) (Nat.le_refl _) hlt).2.2.2.2
  have h2 := rel1_make (v := G 37 0 (16 * w + z 36 w)) h hb
  have hw2 : wk cnt (onz z w) w := wk_kf hw kf_mk
  have g34 := rw_34 h2 hw2
  have e16 : onV V z w 16 = mkV V z 16 := by unfold onV; rw [mu_k (by decide)]
  refine ⟨rel1_gl h2 hq (rG_mo h2.1 rfl) hw2 (by rw [e16]; exact g34), RM1_gl (RM1_make hM) hq, RI_make hI, ?_, ?_, ?_, kf_mk⟩
  · obtain ⟨n1, n2, n3, n4⟩ := hN
    refine ⟨?_, n2, ?_, ?_⟩
    · unfold onz; rw [mkz_0 (by decide)]; exact n1
    · unfold onz; rw [mkz_0 (by decide)]; exact n3
    · unfold RSw at n4 ⊢
      rw [pex_gl hq]
      unfold onz
      rw [pex_mk, mkz_1, mkz_0 (by decide), mkz_k (by decide)]
      omega
  · have := gz_mk (v := G 37 0 (16 * w + z 36 w)) (b := z 38 (16 * w + z 36 w)) hz
    obtain ⟨⟨a1, a2, a3, a4⟩, a5, a6⟩ := this
    have e36 : onz z w 36 = z 36 := mkz_k (by decide)
    have e35 : onz z w 35 = z 35 := mkz_k (by decide)
    refine ⟨⟨?_, ?_, a3, a4⟩, ?_, ?_⟩
    · unfold onV; rw [mu_t (by decide)]; exact a1
    · unfold onV; rw [mu_t (by decide)]; exact a2
    · intro t t1 t2
      have := a5 t t1 t2
      unfold onV onG
      rw [mu_k (by decide), mu_k (by decide), mu_k (by decide), mu_k (by decide)]
      exact this
    · intro t t1 t2
      have := a6 t t1 t2
      rw [e36] at t1
      unfold onG
      rw [mu_t (by omega)]
      exact this
  · have e36 : onz z w 36 = z 36 := mkz_k (by decide)
    have e35 : onz z w 35 = z 35 := mkz_k (by decide)
    have e38 : onz z w 38 = z 38 := mkz_k (by decide)
    unfold gp
    rw [e36, e35, e38]
    refine ⟨hlt, ?_, ?_, ?_, ?_, ?_⟩
    · unfold onz; rw [mkz_1]; omega
    · unfold onV; rw [mu_s]
    · unfold onG; rw [mu_s]
    · unfold onG; rw [mu_k (by decide), mkG_v, mu_k (by decide), mkG_k (by decide)]
    · unfold onz; rw [mkz_b]
/-- a gift is taken -/
def ogV (V : mM) (z : mZ) (w i e : Nat) (v b : Int32) : mM := mu (mu (tkV V z i e v b) 17 w 5 (-1)) 17 w 4 (nI (z 36 w + 1))
def ogG (G : mM) (z : mZ) (w i e : Nat) : mM := mu (tkG G z i e) 36 0 w (nI (z 36 w + 1))
def ogz (z : mZ) (w i e : Nat) : mZ := su (tkz z i e) 36 w (z 36 w + 1)
theorem og_gfr {e : Nat} {v b : Int32} : gfr (tkV V z i e v b) (ogV V z w i e v b) (tkG G z i e) (ogG G z w i e) (tkz z i e) (ogz z w i e) w := by
  refine ⟨fun f n t e => ?_, fun f t e => ?_, fun f t e => ?_⟩
  · unfold ogV
    by_cases ek : f = 17
    · subst ek
      rw [mu_app, if_neg (by omega), mu_app, if_neg (by omega)]
    · rw [mu_k ek, mu_k ek]
  · unfold ogz
    by_cases ek : f = 36
    · subst ek
      unfold gw at e
      rw [su_i (by omega)]
    · rw [su_k ek]
  · unfold ogG
    by_cases ek : f = 36
    · subst ek
      unfold gw at e
      rw [mu_t (by omega)]
    · rw [mu_k ek]
theorem og_ok {e : Nat} {v b : Int32} (h : Rel1 w cnt L V c G z) (hw : wk cnt z w) (hM : RM1 k cnt V z G) (hI : RI cnt p z) (hN : NPw U w 1 z G) (hz : gz cnt V z G w) (hp : gp V z G w e) (hi : i < cnt) (h0 : rcd z i = 0) (hv : v = G 3 0 e) (hb : b = nI (z 4 e)) : Rel1 w cnt L (ogV V z w i e v b) c (ogG G z w i e) (ogz z w i e) ∧ RM1 k cnt (ogV V z w i e v b) (ogz z w i e) (ogG G z w i e) ∧ RI cnt p (ogz z w i e) ∧ NPw U w 0 (ogz z w i e) (ogG G z w i e) ∧ gz cnt (ogV V z w i e v b) (ogz z w i e) (ogG G z w i e) w ∧ gn (ogV V z w i e v b) (ogz z w i e) (ogG G z w i e) w ∧ kf z (ogz z w i e) := by
  have h8 := h.2.1.1.2.2
  obtain ⟨p1, p2, p3, p4, p5, p6⟩ := hp
  have hq := og_gfr (V := V) (G := G) (z := z) (w := w) (i := i) (e := e) (v := v) (b := b)
  have h2 := rel1_take h hi h0 p2 hv hb
  have hw2 : wk cnt (tkz z i e) w := wk_kf hw kf_tk
  have g34 := rw_34 h2 hw2
  have e16 : ogV V z w i e v b 16 = tkV V z i e v b 16 := by unfold ogV; rw [mu_k (by decide), mu_k (by decide)]
  have e34 : ogz z w i e 34 = tkz z i e 34 := by unfold ogz; rw [su_k (by decide)]
  have e36 : ogz z w i e 36 w = z 36 w + 1 := by unfold ogz; rw [su_s]
  have e35 : ogz z w i e 35 = z 35 := by unfold ogz; rw [su_k (by decide), tkz_k (by decide)]
  have e38 : ogz z w i e 38 = z 38 := by unfold ogz; rw [su_k (by decide), tkz_k (by decide)]
  have e39 : ogz z w i e 39 = z 39 := by unfold ogz; rw [su_k (by decide), tkz_k (by decide)]
  have e0 : ogz z w i e 0 = z 0 := by unfold ogz; rw [su_k (by decide), tkz_k (by decide)]
  have g40 : ogG G z w i e 40 = G 40 := by unfold ogG; rw [mu_k (by decide), tkG_k (by decide)]
  have g37 : ogG G z w i e 37 = G 37 := by unfold ogG; rw [mu_k (by decide), tkG_k (by decide)]
  refine ⟨rel1_gl h2 hq (rG_mu h2.1 _ _ _ rfl) hw2 (by rw [e16, e34]; exact g34), RM1_gl (RM1_tk hM) hq, RI_gl (RI_tk hI) hq, ?_, ?_, ?_, kf_trans kf_tk kf_36⟩
  · obtain ⟨n1, n2, n3, n4⟩ := hN
    refine ⟨?_, n2, ?_, ?_⟩
    · rw [e0]; exact n1
    · rw [e0]; exact n3
    · unfold RSw at n4 ⊢
      rw [pex_gl hq, pex_tk, e0]
      have e26 : ogz z w i e 26 = tkz z i e 26 := by unfold ogz; rw [su_k (by decide)]
      rw [e26, sum_tk (by omega)]
      omega
  · obtain ⟨⟨a1, a2, a3, a4⟩, a5, a6⟩ := hz
    unfold gz
    rw [e36, e35, e38, e39, e0, g40, g37]
    refine ⟨⟨?_, ?_, by omega, a4⟩, ?_, ?_⟩
    · unfold ogV; rw [mu_t (by decide), mu_t (by decide), tkV_k (by decide)]; exact a1
    · unfold ogV; rw [mu_s]
    · intro t t1 t2
      unfold ogV
      rw [mu_k (by decide), mu_k (by decide), tkV_k (by decide), mu_k (by decide), mu_k (by decide), tkV_k (by decide), mu_k (by decide), mu_k (by decide), tkV_k (by decide)]
      exact a5 t (by omega) t2
    · intro t t1 t2
      exact a6 t (by omega) t2
  · unfold gn
    rw [e36, e35, g40]
    refine ⟨?_, fun hl => hz.2.2 _ (by omega) hl⟩
    unfold ogV
    rw [mu_t (by decide), mu_s]
/-- a gift is refused -/
theorem or_ok {e : Nat} {x : Int32} (h : Rel1 w cnt L V c G z) (hM : RM1 k cnt V z G) (hN : NPw U w 1 z G) (hz : gz cnt V z G w) (hp : gp V z G w e) (hi : i < cnt) : Rel1 w cnt L (mu V 3 i 16 (V 3 i 16 + 1)) c (mu G 23 0 i (G 23 0 i + 1)) z ∧ RM1 k cnt (mu V 3 i 16 (V 3 i 16 + 1)) z (mu G 23 0 i (G 23 0 i + 1)) ∧ NPw U w 1 z (mu G 23 0 i (G 23 0 i + 1)) ∧ gz cnt (mu V 3 i 16 (V 3 i 16 + 1)) z (mu G 23 0 i (G 23 0 i + 1)) w ∧ gp (mu V 3 i 16 (V 3 i 16 + 1)) z (mu G 23 0 i (G 23 0 i + 1)) w e := by
  refine ⟨ask_ref h hi, ?_, ?_, ?_, ?_⟩
  · simpa [RM1, RM, mu_k] using hM
  · unfold NPw RSw
    rw [pex_23]
    exact hN
  · simpa [gz, mu_k] using hz
  · simpa [gp, mu_k] using hp
theorem off_try {e : Nat} {x1 : Int32} {ro : Nat → mM → Nat × Nat → Option (Int32 × mM)} {ro' : Int32 → Int32 → Int32 → mM → Option (mM)} (h : Rel1 w cnt L V c G z) (hw : wk cnt z w) (hM : RM1 k cnt V z G) (hI : RI cnt p z) (hN : NPw U w 1 z G) (hz : gz cnt V z G w) (hp : gp V z G w e) : (∃ V' G' z', jnX7_offerGifts_27 L ro w V c = ro w V' c ∧ jnX8_give_84 ro' x1 (nI w) (nI (16 * w + z 36 w)) G = ro' x1 (nI w) 1 G' ∧ Rel1 w cnt L V' c G' z' ∧ RM1 k cnt V' z' G' ∧ RI cnt p z' ∧ NPw U w 0 z' G' ∧ gz cnt V' z' G' w ∧ gn V' z' G' w ∧ kf z z' ∧ z' 35 w = z 35 w ∧ z' 36 w = z 36 w + 1) ∨ (∃ V' G', jnX7_offerGifts_27 L ro w V c = some (0, V') ∧ jnX8_give_84 ro' x1 (nI w) (nI (16 * w + z 36 w)) G = ro' x1 (nI w) 0 G' ∧ Rel1 w cnt L V' c G' z ∧ RM1 k cnt V' z G' ∧ NPw U w 1 z G' ∧ gz cnt V' z G' w ∧ gp V' z G' w e) := by
  have h8 := h.2.1.1.2.2
  have hw32 := (wk_lt h hw).1
  obtain ⟨p1, p2, p3, p4, p5, p6⟩ := id hp
  have h16 := hz.1.2.2.2
  obtain ⟨a1, a2, a3, a4, a5⟩ := hz.2.1 (z 36 w) (Nat.le_refl _) p1
  obtain ⟨i, hi⟩ : ∃ i, i = z 39 (16 * w + z 36 w) := ⟨_, rfl⟩
  rw [← hi] at a1 a2
  have hb16 : bin (nI (z 36 w)) 16 = true := bin_t (by omega) (by omega)
  have hb512 : bin (nI (16 * w + z 36 w)) 512 = true := bin_t (by omega) (by omega)
  have hb32 : bin (nI w) 32 = true := bin_t (by omega) (by omega)
  have e39 : G 39 0 (16 * w + z 36 w) = nI i := by rw [h.1 39 _ rfl, hi]
  by_cases h0 : rcd z i = 0
  · left
    obtain ⟨b1, b2, b3, b4, b5, b6, b7⟩ := og_ok (v := G 37 0 (16 * w + z 36 w)) (b := nI (z 38 (16 * w + z 36 w))) h hw hM hI hN hz hp a2 h0 p5.symm (by rw [p6])
    refine ⟨_, _, _, ?_, ?_, b1, b2, b3, b4, b5, b6, b7, ?_, ?_⟩
    · unfold jnX7_offerGifts_27
      rw [hz.1.2.1, if_pos hb16, nIc (by omega), a1, if_neg (nI_pos (by omega)), nIc (by omega), ask_x h a2, h0]
      simp only [Option.bind_some, if_true]
      rw [hz.1.2.1, if_pos hb16, if_pos hb16, p3, nIc (by omega), a3, a4, take_x' h a2 h0]
      simp only [Option.bind_some]
      rw [mu_t (show (4 : Nat) ≠ 5 by decide), tkV_k (by decide), hz.1.2.1]
      have e1 : nI (z 36 w) + 1 = nI (z 36 w + 1) := nI_1 _
      rw [e1]
      rfl
    · unfold jnX8_give_84
      rw [if_pos hb512, if_pos hb512, nIc (by omega), e39, p4, offer_0' h a2 h0]
      simp only [Option.bind_some]
      rw [if_pos hb32, if_neg (by decide), nIc (by omega), tkG_k (by decide), h.1 36 w rfl]
      unfold jnX8_give_119
      have e1 : nI (z 36 w) + 1 = nI (z 36 w + 1) := nI_1 _
      rw [if_pos hb32, nIc (by omega), e1]
      rfl
    · unfold ogz; rw [su_k (by decide), tkz_k (by decide)]
    · unfold ogz; rw [su_s]
  · right
    obtain ⟨b1, b2, b3, b4, b5⟩ := or_ok (x := 0) h hM hN hz hp a2
    refine ⟨_, _, ?_, ?_, b1, b2, b3, b4, b5⟩
    · unfold jnX7_offerGifts_27
      rw [hz.1.2.1, if_pos hb16, nIc (by omega), a1, if_neg (nI_pos (by omega)), nIc (by omega), ask_x h a2]
      simp only [Option.bind_some]
      rw [if_neg h0, if_neg h0]
    · unfold jnX8_give_84
      rw [if_pos hb512, if_pos hb512, nIc (by omega), e39, p4, offer_1 h a2 h0]
      simp only [Option.bind_some]
      rw [if_pos hb32, if_pos trivial, nIc (by omega), mu_k (by decide), h.1 36 w rfl]
      unfold jnX8_give_119
      rw [if_pos hb32, nIc (by omega), Int32.add_zero, mu_id]
      rw [mu_k (by decide)]
      exact h.1 36 w rfl
theorem off_lp {x1 : Int32} (hk : k ≤ 512) : ∀ (d : Nat) (V G : mM) (z : mZ), z 36 w + d = z 35 w → wk cnt z w → Rel1 w cnt L V c G z → RM1 k cnt V z G → RI cnt p z → gz cnt V z G w → ((gn V z G w ∧ NPw U w 0 z G) ∨ ∃ e, gp V z G w e ∧ NPw U w 1 z G) → ∀ m m' : Nat, d < m → d + 1 < m' → ∃ (res : Int32) (V' G' : mM) (z' : mZ), lpX7_offerGifts_0 L m w V c = some (res, V') ∧ lpX8_give_17 m' x1 (nI w) 1 G = jnX8_give_124 x1 (nI w) G' ∧ Rel1 w cnt L V' c G' z' ∧ RM1 k cnt V' z' G' ∧ RI cnt p z' ∧ gz cnt V' z' G' w ∧ kf z z' ∧ ((res = 1 ∧ z' 36 w = z' 35 w ∧ NPw U w 0 z' G') ∨ (res = 0 ∧ ∃ e, gp V' z' G' w e ∧ NPw U w 1 z' G'))
  | 0, V, G, z, hd, hw, h, hM, hI, hz, hs, m, m', hm, hm' => by
    obtain ⟨m, rfl⟩ : ∃ q, m = q + 1 := ⟨m - 1, by omega⟩
    obtain ⟨m', rfl⟩ : ∃ q, m' = q + 1 := ⟨m' - 1, by omega⟩
    have hw32 := (wk_lt h hw).1
    have h16 := hz.1.2.2.2
    have hb32 : bin (nI w) 32 = true := bin_t (by omega) (by omega)
    have hc : nI (z 35 w) ≤ nI (z 36 w) := by rw [nI_leE (by omega) (by omega)]; omega
    have hs0 : NPw U w 0 z G := by
      rcases hs with hs | ⟨e, he, _⟩
      · exact hs.2
      · exact absurd he.1 (by omega)
    refine ⟨1, V, G, z, ?_, ?_, h, hM, hI, hz, kf_refl, Or.inl ⟨rfl, by omega, hs0⟩⟩
    · rw [lpX7_offerGifts_0, hz.1.1, hz.1.2.1, if_pos hc]
    · rw [lpX8_give_17, if_neg (by decide), if_pos hb32, if_pos hb32, nIc (by omega), h.1 35 w rfl, h.1 36 w rfl, if_pos hc]
  | d + 1, V, G, z, hd, hw, h, hM, hI, hz, hs, m, m', hm, hm' => by
    obtain ⟨m, rfl⟩ : ∃ q, m = q + 1 := ⟨m - 1, by omega⟩
    obtain ⟨m', rfl⟩ : ∃ q, m' = q + 1 := ⟨m' - 1, by omega⟩
    have hw32 := (wk_lt h hw).1
    have h16 := hz.1.2.2.2
    have hb32 : bin (nI w) 32 = true := bin_t (by omega) (by omega)
    have hb512 : bin (nI (16 * w + z 36 w)) 512 = true := bin_t (by omega) (by omega)
    have hc : ¬ nI (z 35 w) ≤ nI (z 36 w) := by rw [nI_leE (by omega) (by omega)]; omega
    have e16 : (16 : Int32) * nI w + nI (z 36 w) = nI (16 * w + z 36 w) := by
      rw [show (16 : Int32) = nI 16 from rfl, pk_mul, nI_add]
    have hl6 : z 0 6 ≤ 512 := by have := hM.1.1; omega
    -- with a number
    have key : ∀ (V1 G1 : mM) (z1 : mZ) (e : Nat), z1 36 w = z 36 w → z1 35 w = z 35 w → wk cnt z1 w → Rel1 w cnt L V1 c G1 z1 → RM1 k cnt V1 z1 G1 → RI cnt p z1 → gz cnt V1 z1 G1 w → gp V1 z1 G1 w e → NPw U w 1 z1 G1 → ∃ (res : Int32) (V' G' : mM) (z' : mZ), jnX7_offerGifts_27 L (lpX7_offerGifts_0 L m) w V1 c = some (res, V') ∧ jnX8_give_84 (lpX8_give_17 m') x1 (nI w) (nI (16 * w + z 36 w)) G1 = jnX8_give_124 x1 (nI w) G' ∧ Rel1 w cnt L V' c G' z' ∧ RM1 k cnt V' z' G' ∧ RI cnt p z' ∧ gz cnt V' z' G' w ∧ kf z1 z' ∧ ((res = 1 ∧ z' 36 w = z' 35 w ∧ NPw U w 0 z' G') ∨ (res = 0 ∧ ∃ e, gp V' z' G' w e ∧ NPw U w 1 z' G')) := by
      intro V1 G1 z1 e g36 g35 w1 r1 m1 i1 gz1 gp1 np1
      rcases off_try (x1 := x1) (ro := lpX7_offerGifts_0 L m) (ro' := lpX8_give_17 m') r1 w1 m1 i1 np1 gz1 gp1 with ⟨V2, G2, z2, a1, a2, a3, a4, a5, a6, a7, a8, a9, a10, a11⟩ | ⟨V2, G2, a1, a2, a3, a4, a5, a6, a7⟩
      · obtain ⟨res, V', G', z', b1, b2, b3, b4, b5, b6, b7, b8⟩ := off_lp (x1 := x1) hk d V2 G2 z2 (by omega) (wk_kf w1 a9) a3 a4 a5 a7 (Or.inl ⟨a8, a6⟩) m m' (by omega) (by omega)
        rw [g36] at a2
        exact ⟨res, V', G', z', a1.trans b1, a2.trans b2, b3, b4, b5, b6, kf_trans a9 b7, b8⟩
      · rw [g36] at a2
        obtain ⟨m'', rfl⟩ : ∃ q, m' = q + 1 := ⟨m' - 1, by omega⟩
        refine ⟨0, V2, G2, z1, a1, a2.trans ?_, a3, a4, i1, a6, kf_refl, Or.inr ⟨rfl, e, a7, a5⟩⟩
        rw [lpX8_give_17, if_pos rfl]
    rcases hs with ⟨hn, hN⟩ | ⟨e, hp, hN⟩
    · have hlt : z 0 1 ≤ 103300 := RSw_lt (hq := by omega) hN.2.2.2 hN.2.1 h.2.2.2.2.2.2.1 h.2.2.2.2.2.2.2.1 hl6
      obtain ⟨c1, c2, c3, c4, c5, c6, c7⟩ := on_ok h hw hM hI hN hz hn (by omega)
      obtain ⟨res, V', G', z', b1, b2, b3, b4, b5, b6, b7, b8⟩ := key _ _ _ _ (by unfold onz; rw [mkz_k (by decide)]) (by unfold onz; rw [mkz_k (by decide)]) (wk_kf hw c7) c1 c2 c3 c5 c6 c4
      refine ⟨res, V', G', z', ?_, ?_, b3, b4, b5, b6, kf_trans c7 b7, b8⟩
      · rw [lpX7_offerGifts_0, hz.1.1, hz.1.2.1, if_neg hc, hn.1, if_pos rfl, mkev_x h.2.1.2.2.1]
        simp only [Option.bind_some]
        exact b1
      · rw [lpX8_give_17, if_neg (by decide), if_pos hb32, if_pos hb32, nIc (by omega), h.1 35 w rfl, h.1 36 w rfl, if_neg hc, if_pos hb32, e16, if_pos hb512, nIc (by omega), hn.2 (by omega), if_neg (by decide), if_pos hb512, if_pos hb512, h.1 38 _ rfl, make_m (h.1 0 1 rfl) (by omega)]
        simp only [Option.bind_some]
        rw [if_pos hb512]
        exact b2
    · obtain ⟨res, V', G', z', b1, b2, b3, b4, b5, b6, b7, b8⟩ := key V G z e rfl rfl hw h hM hI hz hp hN
      have hlt : z 0 1 ≤ 103300 := RSw_lt (hq := by omega) hN.2.2.2 hN.2.1 h.2.2.2.2.2.2.1 h.2.2.2.2.2.2.2.1 hl6
      have he := hp.2.1
      refine ⟨res, V', G', z', ?_, ?_, b3, b4, b5, b6, b7, b8⟩
      · rw [lpX7_offerGifts_0, hz.1.1, hz.1.2.1, if_neg hc, hp.2.2.1, if_neg (fun e1 => nI_pos (n := e) (by omega) (by rw [e1]; decide))]
        exact b1
      · rw [lpX8_give_17, if_neg (by decide), if_pos hb32, if_pos hb32, nIc (by omega), h.1 35 w rfl, h.1 36 w rfl, if_neg hc, if_pos hb32, e16, if_pos hb512, nIc (by omega), hp.2.2.2.1, if_pos (by rw [← nI_0, nI_leE (by omega) (by omega)]; omega)]
        exact b2
end OFG
