/-! the moves of an offer keep the relation -/
section MOV
variable {w0 cnt k i U : Nat} {L : Nat → Nat → Nat} {V G : mM} {c : Nat × Nat} {z : mZ} {a : Int32}
theorem sf_ge (t : Nat) : 9 ≤ sf t ∧ sf t ≤ 22 := by
  unfold sf
  split <;> decide
theorem so_ge (t : Nat) : 10 ≤ so t ∧ so t ≤ 25 := by
  unfold so
  split <;> decide
/-- a count of a stage is set on both sides -/
theorem rel1_iso (h : Rel1 w0 cnt L V c G z) (hi : i < cnt) {t : Nat} {x : Int32} (ht : t = 16 ∨ t = 17 ∨ t = 18) : Rel1 w0 cnt L (mu V 3 i t x) c (mu G (so t) 0 i x) z := by
  obtain ⟨h1, h2, h3, h4, h5, h6, h7, h8, h9, h10, h11, h12, h13, h15, h17, h18, h20⟩ := h
  refine ⟨?_, ?_, ?_, ?_, ?_, ?_, ?_, ?_, ?_, ?_, ?_, ?_, ?_, ?_, ?_, h18, h20⟩
  · rcases ht with rfl | rfl | rfl <;> exact rG_mo h1 rfl
  · rcases ht with rfl | rfl | rfl <;> simpa [RA1, mu_k] using h2
  · intro i' t' hi' ht'
    have e1 : t' ≠ t := by
      rintro rfl
      rcases ht with rfl | rfl | rfl <;> cases ht'
    rw [mu_app, if_neg (fun q => e1 q.2)]
    exact h3 i' t' hi' ht'
  · intro i' t' hi' ht'
    by_cases e1 : t' = t
    · subst e1
      rw [mu_app, mu_app]
      by_cases e2 : i' = i
      · rw [if_pos ⟨e2, rfl⟩, if_pos ⟨rfl, e2⟩]
      · rw [if_neg (fun q => e2 q.1), if_neg (fun q => e2 q.2)]
        exact h4 i' t' hi' ht'
    · have e2 : so t' ≠ so t := by
        simp [iso] at ht'
        rcases ht with rfl | rfl | rfl <;> rcases ht' with rfl | rfl | rfl | rfl | rfl <;> first | decide | exact absurd rfl e1
      rw [mu_app, if_neg (fun q => e1 q.2), mu_k e2]
      exact h4 i' t' hi' ht'
  · simpa [RQs, mu_k] using h5
  · simpa [RTs, mu_k] using h6
  · rcases ht with rfl | rfl | rfl <;> simpa [RR, rrb, so, mu_k] using h7
  · refine ⟨fun i' hi' => ?_, h8.2⟩
    have e1 : i' ≠ i := by omega
    have := h8.1 i' hi'
    simpa only [mu_ne e1] using this
  · rcases ht with rfl | rfl | rfl <;> simpa [RQ, row, so, mu_k] using h9
  · simpa [RW1, mu_k] using h10
  · rcases ht with rfl | rfl | rfl <;> simpa [RWb, row, so, mu_k] using h11
  · rcases ht with rfl | rfl | rfl <;> simpa [RWx, gf, so, mu_k] using h12
  · simpa [RWi, mu_k] using h13
  · simpa [RT, mu_k] using h15
  · rcases ht with rfl | rfl | rfl <;> simpa [RD, so, mu_k] using h17
/-- a number of a stage is set on both sides -/
theorem rel1_fld (h : Rel1 w0 cnt L V c G z) (hi : i < cnt) {t y : Nat} (ht : t = 9 ∨ t = 10 ∨ t = 12 ∨ t = 15) (hRR : rrb cnt L (su z (sf t) i y) (mu G (sf t) 0 i (nI y)) i) : Rel1 w0 cnt L (mu V 3 i t (nI y)) c (mu G (sf t) 0 i (nI y)) (su z (sf t) i y) := by
  obtain ⟨h1, h2, h3, h4, h5, h6, h7, h8, h9, h10, h11, h12, h13, h15, h17, h18, h20⟩ := h
  have hisn : isn t = true := by rcases ht with rfl | rfl | rfl | rfl <;> rfl
  refine ⟨rG_mu h1 _ _ _ rfl, ?_, RBn_mu h3 hisn, ?_, ?_, ?_, RR_upd h7 hRR, ?_, ?_, ?_, ?_, ?_, ?_, ?_, ?_, ?_, h20⟩
  · rcases ht with rfl | rfl | rfl | rfl <;> simpa [RA1, sf, mu_k, su_k] using h2
  · rcases ht with rfl | rfl | rfl | rfl <;> exact RBo_mu h4 rfl (so_ne (by decide))
  · rcases ht with rfl | rfl | rfl | rfl <;> simpa [RQs, sf, mu_k, su_k] using h5
  · rcases ht with rfl | rfl | rfl | rfl <;> simpa [RTs, sf, mu_k, su_k] using h6
  · refine ⟨fun i' hi' => ?_, fun w hw => ?_⟩
    · have e1 : i' ≠ i := by omega
      have := h8.1 i' hi'
      simpa only [su_ne e1, mu_ne e1] using this
    · have := h8.2 w hw
      rcases ht with rfl | rfl | rfl | rfl <;> simpa [sf, mu_k, su_k] using this
  · rcases ht with rfl | rfl | rfl | rfl <;> simpa [RQ, row, sf, mu_k, su_k] using h9
  · rcases ht with rfl | rfl | rfl | rfl <;> simpa [RW1, sf, mu_k, su_k] using h10
  · rcases ht with rfl | rfl | rfl | rfl <;> simpa [RWb, row, sf, mu_k, su_k] using h11
  · rcases ht with rfl | rfl | rfl | rfl <;> simpa [RWx, gf, sf, mu_k, su_k] using h12
  · rcases ht with rfl | rfl | rfl | rfl <;> simpa [RWi, sf, mu_k, su_k] using h13
  · rcases ht with rfl | rfl | rfl | rfl <;> simpa [RT, sf, mu_k, su_k] using h15
  · rcases ht with rfl | rfl | rfl | rfl <;> simpa [RD, sf, mu_k, su_k] using h17
  · rcases ht with rfl | rfl | rfl | rfl <;> simpa [RE, sf, mu_k, su_k] using h18
/-- an event is made -/
def mkV (V : mM) (z : mZ) : mM := mu V 2 0 5 (nI (z 0 1 + 1))
def mkG (G : mM) (z : mZ) (v : Int32) (b : Nat) : mM := mu (mu (mu G 3 0 (z 0 1) v) 4 0 (z 0 1) (nI b)) 0 0 1 (nI (z 0 1 + 1))
def mkz (z : mZ) (b : Nat) : mZ := su (su z 4 (z 0 1) b) 0 1 (z 0 1 + 1)
theorem mkz_k {b f : Nat} (h : f ≠ 0 ∧ f ≠ 4) : mkz z b f = z f := by
  unfold mkz
  rw [su_k h.1, su_k h.2]
theorem mkz_1 {b : Nat} : mkz z b 0 1 = z 0 1 + 1 := su_s
theorem mkz_0 {b t : Nat} (h : t ≠ 1) : mkz z b 0 t = z 0 t := by
  unfold mkz
  rw [su_i h, su_k (by decide)]
theorem mkz_4 {b e : Nat} (h : e < z 0 1) : mkz z b 4 e = z 4 e := by
  unfold mkz
  rw [su_k (by decide), su_i (by omega)]
theorem mkz_b {b : Nat} : mkz z b 4 (z 0 1) = b := by
  unfold mkz
  rw [su_k (by decide), su_s]
theorem mkG_k {v : Int32} {b f : Nat} (h : f ≠ 0 ∧ f ≠ 4 ∧ f ≠ 3) : mkG G z v b f = G f := by
  unfold mkG
  rw [mu_k h.1, mu_k h.2.1, mu_k h.2.2]
theorem mkG_3 {v : Int32} {b e : Nat} (h : e < z 0 1) : mkG G z v b 3 0 e = G 3 0 e := by
  unfold mkG
  rw [mu_k (by decide), mu_k (by decide), mu_t (by omega)]
theorem mkG_v {v : Int32} {b : Nat} : mkG G z v b 3 0 (z 0 1) = v := by
  unfold mkG
  rw [mu_k (by decide), mu_k (by decide), mu_s]
theorem mkV_k {f : Nat} (h : f ≠ 2) : mkV V z f = V f := by
  unfold mkV
  rw [mu_k h]
theorem row_make {n m f b' b : Nat} {v : Int32} (hf : f ≠ 0 ∧ f ≠ 4) (h : row V z G n m f b') : row (mkV V z) (mkz z b) (mkG G z v b) n m f b' := by
  intro t ht
  obtain ⟨q1, q2, q3, q4⟩ := h t ht
  rw [mkV_k (by decide), mkV_k (by decide), mkV_k (by decide), mkz_k hf, mkz_1, mkG_3 q2, mkz_4 q2]
  exact ⟨q1, by omega, q3, q4⟩
theorem gf_make {w b : Nat} {v : Int32} (h : gf cnt V z G w) : gf cnt (mkV V z) (mkz z b) (mkG G z v b) w := by
  unfold gf at h ⊢
  simp only [mkV_k (show (17 : Nat) ≠ 2 by decide), mkV_k (show (18 : Nat) ≠ 2 by decide), mkV_k (show (19 : Nat) ≠ 2 by decide), mkV_k (show (20 : Nat) ≠ 2 by decide), mkz_k (show (34 : Nat) ≠ 0 ∧ (34 : Nat) ≠ 4 by decide), mkz_k (show (35 : Nat) ≠ 0 ∧ (35 : Nat) ≠ 4 by decide), mkz_k (show (36 : Nat) ≠ 0 ∧ (36 : Nat) ≠ 4 by decide), mkz_k (show (38 : Nat) ≠ 0 ∧ (38 : Nat) ≠ 4 by decide), mkz_k (show (39 : Nat) ≠ 0 ∧ (39 : Nat) ≠ 4 by decide), mkG_k (show (40 : Nat) ≠ 0 ∧ (40 : Nat) ≠ 4 ∧ (40 : Nat) ≠ 3 by decide), mkG_k (show (37 : Nat) ≠ 0 ∧ (37 : Nat) ≠ 4 ∧ (37 : Nat) ≠ 3 by decide), mkz_1, mkz_0 (show (0 : Nat) ≠ 1 by decide)]
  refine ⟨h.1, fun h34 => ?_⟩
  obtain ⟨q1, q2, q3, q4⟩ := h.2 h34
  refine ⟨q1, ?_, q3, q4⟩
  rcases q2 with q2 | ⟨e, e1, e2, e3, e4⟩
  · exact Or.inl q2
  · exact Or.inr ⟨e, by omega, e2, by rw [mkG_3 e1]; exact e3, by rw [mkz_4 e1]; exact e4⟩
theorem rel1_make (h : Rel1 w0 cnt L V c G z) {v : Int32} {b : Nat} (hb : b ≤ z 0 0) : Rel1 w0 cnt L (mkV V z) c (mkG G z v b) (mkz z b) := by
  obtain ⟨h1, h2, h3, h4, h5, h6, h7, h8, h9, h10, h11, h12, h13, h15, h17, h18, h20⟩ := h
  refine ⟨rG_mu (rG_mu (rG_mo h1 rfl) _ _ _ rfl) _ _ _ rfl, ?_, ?_, ?_, ?_, ?_, ?_, ?_, ?_, ?_, ?_, ?_, ?_, ?_, ?_, ?_, h20⟩
  · obtain ⟨⟨a1, a2, a3⟩, a4, a5, a6, a7, a8⟩ := h2
    refine ⟨⟨?_, ?_, a3⟩, ?_, ?_, ?_, ?_, ?_⟩
    · unfold mkV; rw [mu_t (by decide)]; exact a1
    · rw [mkz_0 (by decide)]; exact a2
    · unfold mkV; rw [mu_t (by decide), mkz_0 (by decide)]; exact a4
    · unfold mkV; rw [mu_s, mkz_1]
    · unfold mkV; rw [mu_t (by decide), mkz_0 (by decide)]; exact a6
    · rw [mkV_k (by decide), mkz_0 (by decide)]; exact a7
    · rw [mkV_k (by decide)]; exact a8
  · intro i t hi ht
    have := sf_ge t
    rw [mkV_k (by decide), mkz_k (by omega)]
    exact h3 i t hi ht
  · intro i t hi ht
    have := so_ge t
    rw [mkV_k (by decide), mkG_k (by omega)]
    exact h4 i t hi ht
  · unfold RQs; rw [mkV_k (by decide), mkz_k (by decide)]; exact h5
  · unfold RTs; rw [mkV_k (by decide), mkz_k (by decide)]; exact h6
  · simpa [RR, rrb, mkz_k, mkG_k] using h7
  · simpa [RZ, mkz_k, mkG_k] using h8
  · intro i hi
    rw [mkz_k (by decide)]
    exact row_make (by decide) (h9 i hi)
  · simpa [RW1, mkz_k, mkV_k] using h10
  · intro i j hi hj
    rw [mkz_k (by decide)] at hj ⊢
    exact row_make (by decide) (h11 i j hi hj)
  · intro i j hi hj hw
    rw [mkz_k (by decide)] at hj
    exact gf_make (h12 i j hi hj hw)
  · simpa [RWi, mkz_k, mkV_k] using h13
  · simpa [RT, mkz_k, mkV_k] using h15
  · refine ⟨by rw [mkz_0 (by decide)]; exact h17.1, ?_⟩
    intro t ht
    rw [mkz_0 (by decide)] at ht
    obtain ⟨q1, q2, q3⟩ := h17.2 t ht
    rw [mkz_k (by decide), mkz_1, mkG_3 q2, mkV_k (by decide), mkV_k (by decide)]
    exact ⟨q1, by omega, q3⟩
  · intro e he
    rw [mkz_1] at he
    rw [mkz_0 (by decide)]
    by_cases q : e = z 0 1
    · subst q; rw [mkz_b]; exact hb
    · rw [mkz_4 (by omega)]; exact h18 e (by omega)
/-- event e goes into stage i's queue -/
def stV1 (V : mM) (z : mZ) (i e : Nat) (v b : Int32) : mM := mu (mu (mu (mu V 12 (32 + i) (z 26 i) (nI e)) 13 (32 + i) (z 26 i) v) 14 (32 + i) (z 26 i) b) 11 (32 + i) 3 (nI (z 26 i + 1))
def stG (G : mM) (z : mZ) (i e : Nat) : mM := mu (mu G 27 0 (32 * i + z 26 i) (nI e)) 26 0 i (nI (z 26 i + 1))
def stz (z : mZ) (i e : Nat) : mZ := su (su z 27 (32 * i + z 26 i) e) 26 i (z 26 i + 1)
theorem stz_k {e f : Nat} (h : f ≠ 26 ∧ f ≠ 27) : stz z i e f = z f := by
  unfold stz
  rw [su_k h.1, su_k h.2]
theorem stz_26 {e j : Nat} : stz z i e 26 j = if j = i then z 26 i + 1 else z 26 j := by
  unfold stz
  rw [su_app, su_k (by decide)]
theorem stz_27 {e t : Nat} : stz z i e 27 t = if t = 32 * i + z 26 i then e else z 27 t := by
  unfold stz
  rw [su_k (by decide), su_app]
theorem stG_k {e f : Nat} (h : f ≠ 26 ∧ f ≠ 27) : stG G z i e f = G f := by
  unfold stG
  rw [mu_k h.1, mu_k h.2]
theorem stV_k {e f : Nat} {v b : Int32} (h : f ≠ 11 ∧ f ≠ 12 ∧ f ≠ 13 ∧ f ≠ 14) : stV1 V z i e v b f = V f := by
  unfold stV1
  rw [mu_k h.1, mu_k h.2.2.2, mu_k h.2.2.1, mu_k h.2.1]
theorem stV_n {e f n : Nat} {v b : Int32} (h : n ≠ 32 + i) : stV1 V z i e v b f n = V f n := by
  have hm : ∀ {W : mM} {f' t : Nat} {x : Int32}, mu W f' (32 + i) t x f n = W f n := by
    intro W f' t x
    by_cases e1 : f = f'
    · subst e1; rw [mu_n h]
    · rw [mu_k e1]
  unfold stV1
  rw [hm, hm, hm, hm]
theorem gf_stand {w e : Nat} {v b : Int32} (h : gf cnt V z G w) : gf cnt (stV1 V z i e v b) (stz z i e) (stG G z i e) w := by
  unfold gf at h ⊢
  simp only [stV_k (show (17 : Nat) ≠ 11 ∧ (17 : Nat) ≠ 12 ∧ (17 : Nat) ≠ 13 ∧ (17 : Nat) ≠ 14 by decide), stV_k (show (18 : Nat) ≠ 11 ∧ (18 : Nat) ≠ 12 ∧ (18 : Nat) ≠ 13 ∧ (18 : Nat) ≠ 14 by decide), stV_k (show (19 : Nat) ≠ 11 ∧ (19 : Nat) ≠ 12 ∧ (19 : Nat) ≠ 13 ∧ (19 : Nat) ≠ 14 by decide), stV_k (show (20 : Nat) ≠ 11 ∧ (20 : Nat) ≠ 12 ∧ (20 : Nat) ≠ 13 ∧ (20 : Nat) ≠ 14 by decide), stz_k (show (34 : Nat) ≠ 26 ∧ (34 : Nat) ≠ 27 by decide), stz_k (show (35 : Nat) ≠ 26 ∧ (35 : Nat) ≠ 27 by decide), stz_k (show (36 : Nat) ≠ 26 ∧ (36 : Nat) ≠ 27 by decide), stz_k (show (38 : Nat) ≠ 26 ∧ (38 : Nat) ≠ 27 by decide), stz_k (show (39 : Nat) ≠ 26 ∧ (39 : Nat) ≠ 27 by decide), stz_k (show (0 : Nat) ≠ 26 ∧ (0 : Nat) ≠ 27 by decide), stz_k (show (4 : Nat) ≠ 26 ∧ (4 : Nat) ≠ 27 by decide), stG_k (show (40 : Nat) ≠ 26 ∧ (40 : Nat) ≠ 27 by decide), stG_k (show (37 : Nat) ≠ 26 ∧ (37 : Nat) ≠ 27 by decide), stG_k (show (3 : Nat) ≠ 26 ∧ (3 : Nat) ≠ 27 by decide)]
  exact h
theorem rel1_stand (h : Rel1 w0 cnt L V c G z) (hi : i < cnt) (hw : z 26 i + z 13 i < z 12 i) {e : Nat} {v b : Int32} (he : e < z 0 1) (hv : v = G 3 0 e) (hb : b = nI (z 4 e)) : Rel1 w0 cnt L (stV1 V z i e v b) c (stG G z i e) (stz z i e) := by
  obtain ⟨h1, h2, h3, h4, h5, h6, h7, h8, h9, h10, h11, h12, h13, h15, h17, h18, h20⟩ := h
  have h88 := h2.1.2.2
  have hwl := (h7 i hi).1.2.2.1
  refine ⟨rG_mu (rG_mu h1 _ _ _ rfl) _ _ _ rfl, ?_, ?_, ?_, ?_, ?_, ?_, ?_, ?_, ?_, ?_, ?_, ?_, ?_, ?_, ?_, h20⟩
  · simpa [RA1, stV_k, stz_k] using h2
  · intro i' t hi' ht
    have := sf_ge t
    rw [stV_k (by decide), stz_k (by omega)]
    exact h3 i' t hi' ht
  · intro i' t hi' ht
    have := so_ge t
    rw [stV_k (by decide), stG_k (by omega)]
    exact h4 i' t hi' ht
  · intro j hj
    rw [stz_26]
    by_cases q : j = i
    · subst q
      rw [if_pos rfl]
      unfold stV1
      rw [mu_s]
    · rw [if_neg q, stV_n (by omega)]
      exact h5 j hj
  · simpa [RTs, stV_k, stz_k] using h6
  · intro j hj
    have := h7 j hj
    unfold rrb at this ⊢
    rw [stz_26]
    by_cases q : j = i
    · subst q
      rw [if_pos rfl]
      have t2 : (_ ∧ z 26 j + z 13 j < z 12 j) := ⟨this, hw⟩
      simp [stz_k, stG_k]
      exact ⟨this.1, ⟨by omega, this.2.1.2⟩, this.2.2⟩
    · rw [if_neg q]
      simpa [stz_k, stG_k] using this
  · refine ⟨fun j hj => ?_, ?_⟩
    · have := h8.1 j hj
      rw [stz_26, if_neg (by omega)]
      simpa [stz_k, stG_k] using this
    · simpa [stz_k] using h8.2
  · intro j hj
    rw [stz_26]
    by_cases q : j = i
    · subst q
      rw [if_pos rfl]
      intro t ht
      rw [stz_27, stz_k (show (0 : Nat) ≠ 26 ∧ (0 : Nat) ≠ 27 by decide), stz_k (show (4 : Nat) ≠ 26 ∧ (4 : Nat) ≠ 27 by decide), stG_k (by decide)]
      by_cases q2 : t = z 26 j
      · subst q2
        rw [if_pos rfl]
        unfold stV1
        rw [mu_k (show (12 : Nat) ≠ 11 by decide), mu_k (show (12 : Nat) ≠ 14 by decide), mu_k (show (12 : Nat) ≠ 13 by decide), mu_s, mu_k (show (13 : Nat) ≠ 11 by decide), mu_k (show (13 : Nat) ≠ 14 by decide), mu_s, mu_k (show (14 : Nat) ≠ 11 by decide), mu_s]
        exact ⟨rfl, he, hv, hb⟩
      · rw [if_neg (by omega)]
        unfold stV1
        rw [mu_k (show (12 : Nat) ≠ 11 by decide), mu_k (show (12 : Nat) ≠ 14 by decide), mu_k (show (12 : Nat) ≠ 13 by decide), mu_t q2, mu_k (show (13 : Nat) ≠ 11 by decide), mu_k (show (13 : Nat) ≠ 14 by decide), mu_t q2, mu_k (show (13 : Nat) ≠ 12 by decide), mu_k (show (14 : Nat) ≠ 11 by decide), mu_t q2, mu_k (show (14 : Nat) ≠ 13 by decide), mu_k (show (14 : Nat) ≠ 12 by decide)]
        exact h9 j hj t (by omega)
    · rw [if_neg q]
      intro t ht
      have hj2 := (h7 j hj).1.2.2.1
      have hj3 := (h7 j hj).2.1.1
      rw [stz_27, if_neg (by omega), stz_k (show (0 : Nat) ≠ 26 ∧ (0 : Nat) ≠ 27 by decide), stz_k (show (4 : Nat) ≠ 26 ∧ (4 : Nat) ≠ 27 by decide), stG_k (by decide), stV_n (by omega), stV_n (by omega), stV_n (by omega)]
      exact h9 j hj t ht
  · intro i' j hi' hj
    rw [stz_k (by decide)] at hj
    have := RR_w h7 hi' hj
    have q := h10 i' j hi' hj
    rw [stV_n (by omega), stV_k (by decide)]
    simpa [stz_k] using q
  · intro i' j hi' hj
    rw [stz_k (by decide)] at hj
    have := RR_w h7 hi' hj
    have q := h11 i' j hi' hj
    unfold row at q ⊢
    rw [stV_n (by omega), stV_n (by omega), stV_n (by omega)]
    simpa [stz_k, stG_k] using q
  · intro i' j hi' hj hw'
    rw [stz_k (by decide)] at hj
    exact gf_stand (h12 i' j hi' hj hw')
  · intro i' j hi' hj hj'
    rw [stz_k (by decide)] at hj hj'
    have q1 := (h7 i' hi').1.2.2.2.2.1
    have q := h13 i' j hi' hj hj'
    rw [stV_n (by omega), stV_k (by decide), stV_k (by decide)]
    simpa [stz_k] using q
  · simpa [RT, stz_k, stV_k] using h15
  · simpa [RD, stz_k, stV_k, stG_k] using h17
  · simpa [RE, stz_k] using h18
end MOV
