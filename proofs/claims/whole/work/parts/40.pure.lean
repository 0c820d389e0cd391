/-! the pure half: small rows -/
theorem mu_s {V : mM} {k n t : Nat} {x : Int32} : mu V k n t x k n t = x := by
  unfold mu mv
  rw [if_pos ⟨rfl, rfl⟩, pk_us]
theorem mu_t {V : mM} {k n t t' : Nat} {x : Int32} (h : t' ≠ t) : mu V k n t x k n t' = V k n t' := by
  unfold mu mv
  rw [if_pos ⟨rfl, rfl⟩, pk_un h]
theorem mu_n {V : mM} {k n n' t : Nat} {x : Int32} (h : n' ≠ n) : mu V k n t x k n' = V k n' := by
  unfold mu mv
  rw [if_neg (fun z => h z.2)]
theorem mu_k {V : mM} {k k' n t : Nat} {x : Int32} (h : k' ≠ k) : mu V k n t x k' = V k' := by
  funext n'
  unfold mu mv
  rw [if_neg (fun z => h z.1)]
theorem mu_app {V : mM} {k n t n' t' : Nat} {x : Int32} : mu V k n t x k n' t' = if n' = n ∧ t' = t then x else V k n' t' := by
  by_cases hn : n' = n
  · subst hn
    by_cases ht : t' = t
    · subst ht
      rw [mu_s, if_pos ⟨rfl, rfl⟩]
    · rw [mu_t ht, if_neg (fun z => ht z.2)]
  · rw [mu_n hn, if_neg (fun z => hn z.1)]
theorem mv_s {V : mM} {k n : Nat} {v : Nat → Int32} : mv V k n v k n = v := by
  unfold mv
  rw [if_pos ⟨rfl, rfl⟩]
theorem mv_n {V : mM} {k n n' : Nat} {v : Nat → Int32} (h : n' ≠ n) : mv V k n v k n' = V k n' := by
  unfold mv
  rw [if_neg (fun z => h z.2)]
theorem mv_k {V : mM} {k k' n : Nat} {v : Nat → Int32} (h : k' ≠ k) : mv V k n v k' = V k' := by
  funext n'
  unfold mv
  rw [if_neg (fun z => h z.1)]
theorem bin_nI {i N : Nat} (h : i < 2 ^ 31) : bin (nI i) N = decide (i < N) := by
  unfold bin
  rw [nI_clamp h]
  simp [nI_pos h]
theorem bin_t {i N : Nat} (h : i < 2 ^ 31) (h2 : i < N) : bin (nI i) N = true := by
  rw [bin_nI h]; simpa using h2
theorem nIc {i : Nat} (h : i < 2 ^ 31) : (nI i).toNatClampNeg = i := nI_clamp h
theorem nI_neg {i : Nat} (h : i < 2 ^ 31) : (nI i < 0) = False := eq_false (nI_pos h)
theorem nI_z {i : Nat} (h : i < 2 ^ 31) : (nI i = 0) = (i = 0) := propext (by rw [← nI_0]; exact nI_eq h (by decide))
theorem nI_ltE {a b : Nat} (ha : a < 2 ^ 31) (hb : b < 2 ^ 31) : (nI a < nI b) = (a < b) := propext (nI_ltI ha hb)
theorem nI_leE {a b : Nat} (ha : a < 2 ^ 31) (hb : b < 2 ^ 31) : (nI a ≤ nI b) = (a ≤ b) := propext (nI_leI ha hb)
theorem nI_eqE {a b : Nat} (ha : a < 2 ^ 31) (hb : b < 2 ^ 31) : (nI a = nI b) = (a = b) := propext (nI_eq ha hb)
theorem nI_pre {n : Nat} (h : 0 < n) : nI n - 1 = nI (n - 1) := by
  obtain ⟨m, rfl⟩ : ∃ m, n = m + 1 := ⟨n - 1, by omega⟩
  rw [nI_pred]
  rfl
/-- within, in: one function -/
def wi (a lo hi : Int32) : Int32 := if a < lo then 0 else if hi < a then 0 else 1
theorem f_within {L : Nat → Nat → Nat} {a lo hi : Int32} {V : mM} {c : Nat × Nat} : fX7_within L a lo hi V c = some (wi a lo hi) := by
  unfold fX7_within wi
  by_cases h : a < lo
  · rw [if_pos h, if_pos h]
  · rw [if_neg h, if_neg h]
    by_cases h2 : hi < a
    · rw [if_pos h2, if_pos h2]
    · rw [if_neg h2, if_neg h2]
theorem f_in {a lo hi : Int32} {G : mM} : fX8_in a lo hi G = some (wi a lo hi) := by
  unfold fX8_in wi
  by_cases h : a < lo
  · rw [if_pos h, if_pos h]
  · rw [if_neg h, if_neg h]
    by_cases h2 : hi < a
    · rw [if_pos h2, if_pos h2]
    · rw [if_neg h2, if_neg h2]
theorem wi_1 {a lo hi : Int32} (h : ¬ wi a lo hi = 0) : ¬ a < lo ∧ ¬ hi < a := by
  unfold wi at h
  by_cases h1 : a < lo
  · rw [if_pos h1] at h; exact absurd rfl h
  · rw [if_neg h1] at h
    by_cases h2 : hi < a
    · rw [if_pos h2] at h; exact absurd rfl h
    · exact ⟨h1, h2⟩
theorem wi_bz {a lo hi : Int32} : bz (wi a lo hi) = true := by
  unfold wi
  by_cases h1 : a < lo
  · rw [if_pos h1]; rfl
  · rw [if_neg h1]
    by_cases h2 : hi < a
    · rw [if_pos h2]; rfl
    · rw [if_neg h2]; rfl
theorem wi_nI {a : Int32} {l h : Nat} (hl : l < 2 ^ 31) (hh : h < 2 ^ 31) (hw : ¬ wi a (nI l) (nI h) = 0) : ∃ j : Nat, l ≤ j ∧ j ≤ h ∧ a = nI j := by
  obtain ⟨h1, h2⟩ := wi_1 hw
  have h0 : ¬ a < 0 := fun z => h1 (Int32.lt_iff_toInt_lt.mpr (by
    have := Int32.lt_iff_toInt_lt.mp z
    rw [nI_toInt hl]
    have e0 : (0 : Int32).toInt = 0 := rfl
    rw [e0] at this
    omega))
  obtain ⟨j, hj, rfl⟩ := nI_of h0
  rw [nI_ltI hj hl] at h1
  rw [nI_ltI hh hj] at h2
  exact ⟨j, by omega, by omega, rfl⟩
