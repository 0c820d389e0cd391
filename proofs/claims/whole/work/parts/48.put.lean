/-! put, commit -/
section PUT
variable {w0 cnt k i U B p : Nat} {L : Nat → Nat → Nat} {V G : mM} {c : Nat × Nat} {z : mZ} {a : Int32}
theorem mu_mu {k n t : Nat} {x y : Int32} : mu (mu V k n t x) k n t y = mu V k n t y := by
  funext k' n' t'
  by_cases hk : k' = k
  · subst hk
    simp only [mu_app]
    split <;> rfl
  · rw [mu_k hk, mu_k hk, mu_k hk]
theorem mu_id {k n t : Nat} {x : Int32} (h : V k n t = x) : mu V k n t x = V := by
  funext k' n' t'
  by_cases hk : k' = k
  · subst hk
    rw [mu_app]
    split
    · next q => rw [q.1, q.2, h]
    · rfl
  · rw [mu_k hk]
theorem mu_c3 {k n t k1 n1 t1 k2 n2 t2 k3 n3 t3 : Nat} {x x1 x2 x3 : Int32} (h : k ≠ k1 ∧ k ≠ k2 ∧ k ≠ k3) : mu (mu (mu (mu V k1 n1 t1 x1) k2 n2 t2 x2) k3 n3 t3 x3) k n t x = mu (mu (mu (mu V k n t x) k1 n1 t1 x1) k2 n2 t2 x2) k3 n3 t3 x3 := by
  rw [mu_comm (fun q => h.2.2 q.1), mu_comm (k := k2) (fun q => h.2.1 q.1), mu_comm (k := k1) (fun q => h.1 q.1)]
/-- an offer is taken -/
def tkV (V : mM) (z : mZ) (i e : Nat) (v b : Int32) : mM := mu (stV1 V z i e v b) 3 i 12 (nI (z 14 i - 1))
def tkG (G : mM) (z : mZ) (i e : Nat) : mM := mu (stG G z i e) 14 0 i (nI (z 14 i - 1))
def tkz (z : mZ) (i e : Nat) : mZ := su (stz z i e) 14 i (z 14 i - 1)
theorem tkz_k {e f : Nat} (h : f ≠ 14 ∧ f ≠ 26 ∧ f ≠ 27) : tkz z i e f = z f := by
  unfold tkz
  rw [su_k h.1, stz_k h.2]
theorem tkG_k {e f : Nat} (h : f ≠ 14 ∧ f ≠ 26 ∧ f ≠ 27) : tkG G z i e f = G f := by
  unfold tkG
  rw [mu_k h.1, stG_k h.2]
theorem tkV_k {e f : Nat} {v b : Int32} (h : f ≠ 3 ∧ f ≠ 11 ∧ f ≠ 12 ∧ f ≠ 13 ∧ f ≠ 14) : tkV V z i e v b f = V f := by
  unfold tkV
  rw [mu_k h.1, stV_k h.2]
theorem rel1_take (h : Rel1 w0 cnt L V c G z) (hi : i < cnt) (h0 : rcd z i = 0) {e : Nat} {v b : Int32} (he : e < z 0 1) (hv : v = G 3 0 e) (hb : b = nI (z 4 e)) : Rel1 w0 cnt L (tkV V z i e v b) c (tkG G z i e) (tkz z i e) := by
  obtain ⟨q1, q2, q3⟩ := rcd_0 h0
  have hs := rel1_stand h hi q2 he hv hb
  refine rel1_fld (t := 12) hs hi (by simp) ?_
  have hR := hs.2.2.2.2.2.2.1 i hi
  have e14 : stz z i e 14 i = z 14 i := by rw [stz_k (by decide)]
  unfold rrb at hR ⊢
  simp only [sf, su_s, su_k, mu_k, ne_eq, Nat.reduceEqDiff, not_false_eq_true]
  rw [e14] at hR
  exact ⟨hR.1, ⟨hR.2.1.1, by omega, hR.2.1.2.2⟩, hR.2.2⟩
theorem sum_tk {e : Nat} (hi : i < 8) : sumN (tkz z i e 26) 8 = sumN (z 26) 8 + 1 := by
  have e1 : tkz z i e 26 = stz z i e 26 := by unfold tkz; rw [su_k (by decide)]
  have e2 := sumN_upd (f := z 26) (g := tkz z i e 26) (i := i) (fun j hj => by rw [e1, stz_26, if_neg hj]) hi
  rw [e1, stz_26, if_pos rfl] at e2
  rw [e1]
  omega
theorem sum_st {e : Nat} (hi : i < 8) : sumN (stz z i e 26) 8 = sumN (z 26) 8 + 1 := by
  have e2 := sumN_upd (f := z 26) (g := stz z i e 26) (i := i) (fun j hj => by rw [stz_26, if_neg hj]) hi
  rw [stz_26, if_pos rfl] at e2
  omega
theorem pend_tk {e : Nat} : pend (tkz z i e) (tkG G z i e) = pend z G := by
  funext w
  unfold pend
  rw [tkz_k (by decide), tkz_k (by decide), tkG_k (by decide)]
theorem pend_st {e : Nat} : pend (stz z i e) (stG G z i e) = pend z G := by
  funext w
  unfold pend
  rw [stz_k (by decide), stz_k (by decide), stG_k (by decide)]
theorem pend_mk {v : Int32} {b : Nat} : pend (mkz z b) (mkG G z v b) = pend z G := by
  funext w
  unfold pend
  rw [mkz_k (by decide), mkz_k (by decide), mkG_k (by decide)]
theorem RM1_make {v : Int32} {b : Nat} (h : RM1 k cnt V z G) : RM1 k cnt (mkV V z) (mkz z b) (mkG G z v b) := by
  simpa [RM1, RM, mkz_k, mkz_0, mkG_k, mkV_k] using h
theorem RM1_st {e : Nat} {v b : Int32} (h : RM1 k cnt V z G) : RM1 k cnt (stV1 V z i e v b) (stz z i e) (stG G z i e) := by
  simpa [RM1, RM, stz_k, stG_k, stV_k] using h
theorem RM1_tk {e : Nat} {v b : Int32} (h : RM1 k cnt V z G) : RM1 k cnt (tkV V z i e v b) (tkz z i e) (tkG G z i e) := by
  simpa [RM1, RM, tkz_k, tkG_k, tkV_k] using h
theorem RI_make {b : Nat} (h : RI cnt p z) : RI cnt p (mkz z b) := by
  simpa [RI, mkz_k, mkz_0] using h
theorem RI_st {e : Nat} (h : RI cnt p z) : RI cnt p (stz z i e) := by
  simpa [RI, stz_k] using h
theorem RI_tk {e : Nat} (h : RI cnt p z) : RI cnt p (tkz z i e) := by
  simpa [RI, tkz_k] using h
theorem rcd_mk {b : Nat} : rcd (mkz z b) i = rcd z i := by
  unfold rcd
  rw [mkz_k (by decide), mkz_k (by decide), mkz_k (by decide), mkz_k (by decide), mkz_k (by decide)]
/-- one that is made and taken at once -/
theorem RS_mk_tk {v : Int32} {b e : Nat} (hi : i < 8) (h : RS B z G) : RS B (tkz (mkz z b) i e) (tkG (mkG G z v b) (mkz z b) i e) := by
  unfold RS at h ⊢
  rw [sum_tk hi, pend_tk, pend_mk, tkz_k (by decide), mkz_1, mkz_0 (by decide), mkz_k (by decide)]
  omega
theorem RS_mk_st {v : Int32} {b e : Nat} (hi : i < 8) (h : RS B z G) : RS B (stz (mkz z b) i e) (stG (mkG G z v b) (mkz z b) i e) := by
  unfold RS at h ⊢
  rw [sum_st hi, pend_st, pend_mk, stz_k (by decide), mkz_1, mkz_0 (by decide), mkz_k (by decide)]
  omega
theorem take_x' (h : Rel1 w0 cnt L V c G z) (hi : i < cnt) (h0 : rcd z i = 0) {e : Nat} {v b : Int32} : fX3_take L i (nI e) v b V c = some (tkV V z i e v b) := take_x h hi h0
theorem offer_0' (h : Rel1 w0 cnt L V c G z) (hi : i < cnt) (h0 : rcd z i = 0) {e : Nat} : fX8_offer (nI i) (nI e) G = some (1, tkG G z i e) := offer_0 h hi h0
theorem rel_U {U U' : Nat} (h : U = U') (q : Rel0 U k cnt L V c G z) : Rel0 U' k cnt L V c G z := by subst h; exact q
theorem RM1_k (h : RM1 k cnt V z G) : RM1 (k + 1) cnt V z G := by
  obtain ⟨⟨⟨q1, q2, q3⟩, q4⟩, q5⟩ := h
  exact ⟨⟨⟨q1, by omega, q3⟩, q4⟩, q5⟩
theorem ask_ref (h : Rel1 w0 cnt L V c G z) (hi : i < cnt) : Rel1 w0 cnt L (mu V 3 i 16 (V 3 i 16 + 1)) c (mu G 23 0 i (G 23 0 i + 1)) z := by
  have e : V 3 i 16 = G 23 0 i := h.2.2.2.1 i 16 hi rfl
  rw [e]
  exact rel1_iso (t := 16) h hi (by simp)
theorem pend_23 {x : Int32} : pend z (mu G 23 0 i x) = pend z G := by
  funext w
  unfold pend
  rw [mu_k (by decide)]
end PUT
theorem sim_put_ok : sim_put Rel := by
  intro k cnt L V c G a1 a2 hk h
  obtain ⟨z, hz⟩ := id h
  have hG := hz.1
  have hA := hz.2.1
  have h1 := rel1_of (w0 := 32) hz
  have hM := RM1_k (rel0_M hz)
  have hI := rel0_I hz
  obtain ⟨n1, n2, n3, n4⟩ := rel0_N hz
  rcases stage_ix hA a1 with hb | ⟨i, hi, rfl⟩
  · refine ⟨-1, V, G, ?_, ?_, rel_next h hk⟩
    · unfold fX7_put
      rw [stageAt_bad hA hb]
      rfl
    · unfold fX8_put
      rw [isStage_bad hG hA hb]
      rfl
  · have h8 := hA.1.2.2
    by_cases h0 : rcd z i = 0
    · have hlt : z 0 1 ≤ 103300 := RS_lt n4 n2 h1.2.2.2.2.2.2.1 h1.2.2.2.2.2.2.2.1 (by
        have := hM.1.1
        omega)
      have h1' := rel1_make (v := a2) (b := z 0 0) h1 (Nat.le_refl _)
      have h0' : rcd (mkz z (z 0 0)) i = 0 := by rw [rcd_mk]; exact h0
      refine ⟨nI (z 0 1), tkV (mkV V z) (mkz z (z 0 0)) i (z 0 1) a2 (nI (z 0 0)), tkG (mkG G z a2 (z 0 0)) (mkz z (z 0 0)) i (z 0 1), ?_, ?_, tkz (mkz z (z 0 0)) i (z 0 1), ?_⟩
      · have e4 : (mkV V z) 2 0 4 = nI (z 0 0) := by
          have := h1'.2.1.2.1
          rw [mkz_0 (by decide)] at this
          exact this
        unfold fX7_put
        simp only [stageAt_ok hA hi, Option.bind_some]
        rw [if_neg (nI_pos (by omega)), nIc (by omega), ask_x h1 hi, h0]
        simp only [Option.bind_some, if_true]
        rw [mkev_x h1.2.1.2.2.1]
        simp only [Option.bind_some]
        have := take_x' h1' hi h0' (e := z 0 1) (v := a2) (b := nI (z 0 0))
        unfold mkV at this e4
        rw [e4, this]
        rfl
      · unfold fX8_put
        simp only [isStage_ok hG hA hi, Option.bind_some]
        rw [if_neg (by decide), ask_m h1 hi, h0]
        simp only [Option.bind_some]
        rw [if_pos (by decide), hG 0 1 rfl, offer_0' h1 hi h0]
        simp only [Option.bind_some]
        rw [tkG_k (by decide), hG 0 0 rfl, make_m (e := z 0 1) (by rw [tkG_k (by decide)]; exact hG 0 1 rfl) (by omega)]
        simp only [Option.bind_some]
        congr 2
        unfold tkG stG mkG
        rw [mkz_k (by decide), mkz_k (by decide)]
        rw [mu_c3 (k := 3) (by decide), mu_c3 (k := 4) (by decide), mu_c3 (k := 0) (by decide)]
      · have e0 : tkz (mkz z (z 0 0)) i (z 0 1) 0 0 = z 0 0 := by rw [tkz_k (by decide), mkz_0 (by decide)]
        rw [e0]
        refine rel0_of (rel1_take h1' hi h0' (by rw [mkz_1]; omega) mkG_v.symm (by rw [mkz_b])) (Nat.le_refl _) (RM1_tk (RM1_make hM)) (RI_tk (RI_make hI)) ⟨by rw [e0]; exact n1, n2, ?_, RS_mk_tk (by omega) n4⟩
        rw [tkz_k (by decide), mkz_0 (by decide)]
        exact n3
    · refine ⟨rcd z i, mu V 3 i 16 (V 3 i 16 + 1), mu G 23 0 i (G 23 0 i + 1), ?_, ?_, z, ?_⟩
      · unfold fX7_put
        simp only [stageAt_ok hA hi, Option.bind_some]
        rw [if_neg (nI_pos (by omega)), nIc (by omega), ask_x h1 hi]
        simp only [Option.bind_some]
        rw [if_neg h0, if_neg h0]
      · have hb1 : bin (nI i) 8 = true := bin_t (by omega) (by omega)
        unfold fX8_put
        simp only [isStage_ok hG hA hi, Option.bind_some]
        rw [if_neg (by decide), ask_m h1 hi]
        simp only [Option.bind_some]
        rw [if_neg (rcd_neg h0), if_pos hb1, if_pos hb1, nIc (by omega)]
      · refine rel0_of (ask_ref h1 hi) (Nat.le_refl _) ?_ hI ⟨n1, n2, n3, ?_⟩
        · simpa [RM1, RM, mu_k] using hM
        · unfold RS
          rw [pend_23]
          exact n4
