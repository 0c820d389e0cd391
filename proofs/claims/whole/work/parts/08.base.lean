/-! words of the pure functions: checks, branches, calls -/
def fu : Nat := 1000
def bin (i : Int32) (n : Nat) : Bool := !(decide (i < 0)) && decide (i.toNatClampNeg < n)
theorem bin_iff {i : Int32} {n : Nat} : bin i n = true ↔ ¬ i < 0 ∧ i.toNatClampNeg < n := by
  simp only [bin, Bool.and_eq_true, Bool.not_eq_true', decide_eq_false_iff_not, decide_eq_true_eq]
theorem bin_in {i : Int32} {n : Nat} (h : bin i n = true) : vp_in i n := by
  have h := bin_iff.mp h
  exact fun q => q.elim h.1 (fun z => absurd h.2 (Nat.not_lt.mpr z))
def bcp (sp dp z : Int32) (n1 n2 : Nat) : Bool := !(decide (sp < 0)) && (!(decide (dp < 0)) && (!(decide (z < 0)) && (decide (sp.toNatClampNeg + z.toNatClampNeg ≤ n1) && decide (dp.toNatClampNeg + z.toNatClampNeg ≤ n2))))
theorem bcp_in {sp dp z : Int32} {n1 n2 : Nat} (h : bcp sp dp z n1 n2 = true) : ¬ sp < 0 ∧ ¬ dp < 0 ∧ ¬ z < 0 ∧ sp.toNatClampNeg + z.toNatClampNeg ≤ n1 ∧ dp.toNatClampNeg + z.toNatClampNeg ≤ n2 := by
  simpa only [bcp, Bool.and_eq_true, Bool.not_eq_true', decide_eq_false_iff_not, decide_eq_true_eq] using h
theorem iteS {α : Type} {c : Prop} {d : Decidable c} {x : Option α} {r : α} (h : (if c then x else none) = some r) : c ∧ x = some r := by
  by_cases hc : c
  · rw [if_pos hc] at h; exact ⟨hc, h⟩
  · rw [if_neg hc] at h; cases h
theorem iteN {α : Type} {c : Prop} {d : Decidable c} {x : Option α} {r : α} (h : (if c then none else x) = some r) : ¬ c ∧ x = some r := by
  by_cases hc : c
  · rw [if_pos hc] at h; cases h
  · rw [if_neg hc] at h; exact ⟨hc, h⟩
theorem iteT {α : Type} {c : Prop} {d : Decidable c} {x y : Option α} {r : α} (hc : c) (h : (if c then x else y) = some r) : x = some r := by
  rw [if_pos hc] at h; exact h
theorem iteF {α : Type} {c : Prop} {d : Decidable c} {x y : Option α} {r : α} (hc : ¬ c) (h : (if c then x else y) = some r) : y = some r := by
  rw [if_neg hc] at h; exact h
theorem bindS {α β : Type} {o : Option α} {f : α → Option β} {r : β} (h : o.bind f = some r) : ∃ u, o = some u ∧ f u = some r := by
  cases o with
  | none => cases h
  | some u => exact ⟨u, rfl, h⟩
def bz (x : Int32) : Bool := decide (x = 0) || decide (x = 1)
theorem bz_nar {x : Int32} (h : bz x = true) : narrow .boolean (.int x) = .int x := by
  simp only [bz, Bool.or_eq_true, decide_eq_true_eq] at h
  rcases h with rfl | rfl <;> rfl
theorem sw_out (n : Nat) (x : Int32) (h : ∀ j : Nat, j ≤ n → ¬ x = Int32.ofNat j) : x.toInt < 0 ∨ (n : Int) < x.toInt := by
  by_cases h0 : x < 0
  · exact Or.inl (by simpa using Int32.lt_iff_toInt_lt.mp h0)
  · obtain ⟨j, hj, rfl⟩ := nI_of h0
    right
    rw [nI_toInt hj]
    by_cases hn : j ≤ n
    · exact absurd rfl (h j hn)
    · omega
theorem sw_out2 {x : Int32} (h0 : ¬ x = 0) (h1 : ¬ x = 1) (h2 : ¬ x = 2) : x.toInt < 0 ∨ 2 < x.toInt := sw_out 2 x (fun j hj => by
  rcases (by omega : j = 0 ∨ j = 1 ∨ j = 2) with rfl | rfl | rfl
  · exact h0
  · exact h1
  · exact h2)
theorem sw_out9 {x : Int32} (h0 : ¬ x = 0) (h1 : ¬ x = 1) (h2 : ¬ x = 2) (h3 : ¬ x = 3) (h4 : ¬ x = 4) (h5 : ¬ x = 5) (h6 : ¬ x = 6) (h7 : ¬ x = 7) (h8 : ¬ x = 8) (h9 : ¬ x = 9) : x.toInt < 0 ∨ 9 < x.toInt := sw_out 9 x (fun j hj => by
  rcases (by omega : j = 0 ∨ j = 1 ∨ j = 2 ∨ j = 3 ∨ j = 4 ∨ j = 5 ∨ j = 6 ∨ j = 7 ∨ j = 8 ∨ j = 9) with rfl | rfl | rfl | rfl | rfl | rfl | rfl | rfl | rfl | rfl
  · exact h0
  · exact h1
  · exact h2
  · exact h3
  · exact h4
  · exact h5
  · exact h6
  · exact h7
  · exact h8
  · exact h9)
/-! the class's objects: 0, 1 the row of done events (numbers, values: at q, of lengths c); 2 the desk; 3 stage n; 4 its row of stages; 5 timers (6, 7, 8, 9 their rows); 10 the done row's own object; 11 a row of events: n < 32 worker n's batch, 32 + n stage n's queue (12, 13, 14 its rows); 15 stage n's row of workers; 16 worker n (number 4 * stage + place); 17 its gifts (18, 19, 20 their rows); 21 stage n's times (22, 23 their rows) -/
def xSh (cnt : Nat) (L : Nat → Nat → Nat) : Prop := cnt ≤ 8 ∧ ∀ i : Nat, i < cnt → L 15 i ≤ 4
def wex (cnt : Nat) (L : Nat → Nat → Nat) (n : Nat) : Prop := n / 4 < cnt ∧ n % 4 < L 15 (n / 4)
def rex (cnt : Nat) (L : Nat → Nat → Nat) (n : Nat) : Prop := (32 ≤ n ∧ n - 32 < cnt) ∨ wex cnt L n
def xex (cnt : Nat) (L : Nat → Nat → Nat) (k n : Nat) : Prop := match k with
  | 0 => n = 0
  | 1 => n = 0
  | 2 => n = 0
  | 3 => n < cnt
  | 4 => n = 0
  | 5 => n = 0
  | 6 => n = 0
  | 7 => n = 0
  | 8 => n = 0
  | 9 => n = 0
  | 10 => n = 0
  | 11 => rex cnt L n
  | 12 => rex cnt L n
  | 13 => rex cnt L n
  | 14 => rex cnt L n
  | 15 => n < cnt
  | 16 => wex cnt L n
  | 17 => wex cnt L n
  | 18 => wex cnt L n
  | 19 => wex cnt L n
  | 20 => wex cnt L n
  | 21 => n < cnt
  | 22 => n < cnt
  | 23 => n < cnt
  | _ => False
section XE
variable {cnt : Nat} {L : Nat → Nat → Nat} {n : Nat}
theorem xe0 : xex cnt L 0 0 := rfl
theorem xe1 : xex cnt L 1 0 := rfl
theorem xe2 : xex cnt L 2 0 := rfl
theorem xe4 : xex cnt L 4 0 := rfl
theorem xe5 : xex cnt L 5 0 := rfl
theorem xe6 : xex cnt L 6 0 := rfl
theorem xe7 : xex cnt L 7 0 := rfl
theorem xe8 : xex cnt L 8 0 := rfl
theorem xe9 : xex cnt L 9 0 := rfl
theorem xe10 : xex cnt L 10 0 := rfl
theorem xe3_q (h : xex cnt L 3 n) : xex cnt L 11 (32 + n) := Or.inl ⟨by omega, by have h : n < cnt := h; omega⟩
theorem xe3_w (h : xex cnt L 3 n) : xex cnt L 15 n := h
theorem xe3_t (h : xex cnt L 3 n) : xex cnt L 21 n := h
theorem xe11_n (h : xex cnt L 11 n) : xex cnt L 12 n := h
theorem xe11_v (h : xex cnt L 11 n) : xex cnt L 13 n := h
theorem xe11_b (h : xex cnt L 11 n) : xex cnt L 14 n := h
theorem xe16_b (h : xex cnt L 16 n) : xex cnt L 11 n := Or.inr h
theorem xe16_g (h : xex cnt L 16 n) : xex cnt L 17 n := h
theorem xe17_t (h : xex cnt L 17 n) : xex cnt L 18 n := h
theorem xe17_v (h : xex cnt L 17 n) : xex cnt L 19 n := h
theorem xe17_b (h : xex cnt L 17 n) : xex cnt L 20 n := h
theorem xe21_k (h : xex cnt L 21 n) : xex cnt L 22 n := h
theorem xe21_s (h : xex cnt L 21 n) : xex cnt L 23 n := h
theorem xe15 {i : Int32} (hsh : xSh cnt L) (h : xex cnt L 15 n) (hi : bin i (L 15 n) = true) : xex cnt L 16 (4 * n + i.toNatClampNeg) := by
  have h : n < cnt := h
  have h1 := hsh.2 n h
  have h2 := (bin_iff.mp hi).2
  have e1 : (4 * n + i.toNatClampNeg) / 4 = n := by omega
  have e2 : (4 * n + i.toNatClampNeg) % 4 = i.toNatClampNeg := by omega
  show wex cnt L (4 * n + i.toNatClampNeg)
  unfold wex
  rw [e1, e2]
  exact ⟨h, h2⟩
end XE
/-- a reference to a stage, by its number; a number below 0: null -/
def rO (ad : Nat → Nat → Nat) (e : Int32) : Option Nat := if e < 0 then none else some (ad 3 e.toNatClampNeg)
def okS (cnt : Nat) (e : Int32) : Prop := e < 0 ∨ e.toNatClampNeg < cnt
theorem rO_pos {ad : Nat → Nat → Nat} {e : Int32} (h : ¬ e < 0) : va_rf (rO ad e) = .ref (ad 3 e.toNatClampNeg) := by
  unfold rO
  rw [if_neg h]
  rfl
theorem rO_neg {ad : Nat → Nat → Nat} {e : Int32} (h : e < 0) : va_rf (rO ad e) = .null := by
  unfold rO
  rw [if_pos h]
  rfl
theorem rO_null (ad : Nat → Nat → Nat) : va_rf (rO ad (-1 : Int32)) = .null := rO_neg (by decide)
theorem okS_null {cnt : Nat} : okS cnt (-1 : Int32) := Or.inl (by decide)
theorem okS_lt {cnt : Nat} {L : Nat → Nat → Nat} {e : Int32} (h : okS cnt e) (z : ¬ e < 0) : xex cnt L 3 e.toNatClampNeg := h.resolve_left z
theorem rO_nI {ad : Nat → Nat → Nat} {cnt : Nat} {L : Nat → Nat → Nat} {n : Nat} (hsh : xSh cnt L) (h : xex cnt L 3 n) : va_rf (rO ad (Int32.ofNat n)) = .ref (ad 3 n) := by
  have h : n < cnt := h
  have h8 := hsh.1
  have hp : ¬ Int32.ofNat n < 0 := nI_pos (n := n) (by omega)
  rw [rO_pos hp, show (Int32.ofNat n).toNatClampNeg = n from nI_clamp (n := n) (by omega)]
theorem okS_nI {cnt : Nat} {L : Nat → Nat → Nat} {n : Nat} (hsh : xSh cnt L) (h : xex cnt L 3 n) : okS cnt (Int32.ofNat n) := by
  have h : n < cnt := h
  have h8 := hsh.1
  right
  rw [show (Int32.ofNat n).toNatClampNeg = n from nI_clamp (n := n) (by omega)]
  exact h
theorem rO_nar (ad : Nat → Nat → Nat) (e : Int32) : narrow (.object "StageDesk$Stage") (va_rf (rO ad e)) = va_rf (rO ad e) := by
  cases rO ad e <;> rfl
theorem rO_fits (ad : Nat → Nat → Nat) (e : Int32) : fits (.object "StageDesk$Stage") (va_rf (rO ad e)) = true := by
  cases rO ad e <;> rfl
theorem rO_up {ad : Nat → Nat → Nat} {v : Nat → Int32} {i : Nat} {x : Int32} : (fun j => rO ad (upd v i x j)) = va_up (fun j => rO ad (v j)) i (rO ad x) := by
  funext j
  unfold upd va_up
  by_cases h : j = i
  · simp [h]
  · simp [h]
def xad (ad : Nat → Nat → Nat) (q : Nat × Nat) (k n : Nat) : Nat := match k with
  | 0 => q.1
  | 1 => q.2
  | k + 2 => ad (k + 2) n
def xce (cI cS cW : ClassId) (ad : Nat → Nat → Nat) (q : Nat × Nat) (L : Nat → Nat → Nat) (c : Nat × Nat) : mC := fun k n v => match k with
  | 0 => .inl (cI, c.1, .inl v)
  | 1 => .inl (cI, c.2, .inl v)
  | 2 => .inr (7, [.ref (ad 4 0), .ref (ad 5 0), .ref (ad 10 0), .int (v 3), .int (v 4), .int (v 5), .int (v 6)])
  | 3 => .inr (3, [.int (v 0), .int (v 1), .int (v 2), .ref (ad 11 (32 + n)), .ref (ad 15 n), .ref (ad 21 n), va_rf (rO ad (v 6)), va_rf (rO ad (v 7)), .int (v 8), .int (v 9), .int (v 10), .int (v 11), .int (v 12), .int (v 13), .int (v 14), .int (v 15), .int (v 16), .int (v 17), .int (v 18)])
  | 4 => .inl (cS, 8, .inr (.inr (.inr (.inr (fun j => rO ad (v j))))))
  | 5 => .inr (4, [.ref (ad 6 0), .ref (ad 7 0), .ref (ad 8 0), .ref (ad 9 0), .int (v 4), .int (v 5)])
  | 6 => .inl (cI, 50, .inl v)
  | 7 => .inl (cS, 50, .inr (.inr (.inr (.inr (fun j => rO ad (v j))))))
  | 8 => .inl (cI, 50, .inl v)
  | 9 => .inl (cI, 50, .inl v)
  | 10 => .inr (0, [.ref q.1, .ref q.2, .int (v 2)])
  | 11 => .inr (1, [.ref (ad 12 n), .ref (ad 13 n), .ref (ad 14 n), .int (v 3)])
  | 12 => .inl (cI, L 11 n, .inl v)
  | 13 => .inl (cI, L 11 n, .inl v)
  | 14 => .inl (cI, L 11 n, .inl v)
  | 15 => .inl (cW, L 15 n, .inr (.inr (.inr (.inr (fun j => if j < L 15 n then some (ad 16 (4 * n + j)) else none)))))
  | 16 => .inr (6, [.ref (ad 11 n), .ref (ad 17 n), .int (v 2), .int (v 3), .int (v 4)])
  | 17 => .inr (2, [.ref (ad 18 n), .ref (ad 19 n), .ref (ad 20 n), .int (v 3), .int (v 4), .int (v 5)])
  | 18 => .inl (cS, 16, .inr (.inr (.inr (.inr (fun j => rO ad (v j))))))
  | 19 => .inl (cI, 16, .inl v)
  | 20 => .inl (cI, 16, .inl v)
  | 21 => .inr (5, [.ref (ad 22 n), .ref (ad 23 n), .int (v 2)])
  | 22 => .inl (cI, 20, .inl v)
  | 23 => .inl (cI, 20, .inl v)
  | _ => .inl (cI, 0, .inl v)
def xrs (k t : Nat) : Bool := (k == 4) || ((k == 7) || ((k == 18) || ((k == 3) && ((t == 6) || (t == 7)))))
def xW (cnt : Nat) (V : mM) : Prop := ∀ k n t : Nat, xrs k t = true → okS cnt (V k n t)
theorem xW_mu {cnt : Nat} {V : mM} {k n t : Nat} {x : Int32} (h : xW cnt V) (hx : xrs k t = true → okS cnt x) : xW cnt (mu V k n t x) := by
  intro k' n' t' hr
  unfold mu mv
  by_cases hk : k' = k ∧ n' = n
  · obtain ⟨rfl, rfl⟩ := hk
    rw [if_pos ⟨rfl, rfl⟩]
    by_cases ht : t' = t
    · subst ht
      rw [pk_us]
      exact hx hr
    · rw [pk_un ht]
      exact h _ _ _ hr
  · rw [if_neg hk]
    exact h _ _ _ hr
theorem xW_mv {cnt : Nat} {V : mM} {k n : Nat} {v : Nat → Int32} (h : xW cnt V) (hx : ∀ t, xrs k t = false) : xW cnt (mv V k n v) := by
  intro k' n' t' hr
  unfold mv
  by_cases hk : k' = k ∧ n' = n
  · obtain ⟨rfl, rfl⟩ := hk
    rw [hx] at hr
    cases hr
  · rw [if_neg hk]
    exact h _ _ _ hr
def xM (dC : Nat → ClassId) (dI : Nat → Nat → Nat) (A : Nat → Prop) (ad : Nat → Nat → Nat) (cnt : Nat) (L : Nat → Nat → Nat) (cI cS cW : ClassId) (q : Nat × Nat) (V : mM) (c : Nat × Nat) (U : State) : Prop :=
  mP (dC, dI) vwCl A (xad ad q) (xce cI cS cW ad q L c) (xex cnt L) V U.heap ∧ va_K (dC, dI) vwCl [(cI, .int), (cS, .object RX3), (cW, .object RX6)] U ∧ xW cnt V ∧ ∀ z : Nat, U.heap.size ≤ z → A z
section XM
variable {dC : Nat → ClassId} {dI : Nat → Nat → Nat} {A : Nat → Prop} {ad : Nat → Nat → Nat} {cnt : Nat} {L : Nat → Nat → Nat} {cI cS cW cZ : ClassId} {q : Nat × Nat} {V : mM} {c : Nat × Nat}
theorem xM_of {s t : State} {H : Heap} (hM : mP (dC, dI) vwCl A (xad ad q) (xce cI cS cW ad q L c) (xex cnt L) V H) (hK : va_K (dC, dI) vwCl [(cI, .int), (cS, .object RX3), (cW, .object RX6)] s) (hW : xW cnt V) (hAs : ∀ z : Nat, s.heap.size ≤ z → A z) (hz : s.heap.size ≤ H.size) (ht : t.heap = H) (hWm : s.WarmedH t.vm) : xM dC dI A ad cnt L cI cS cW q V c t :=
  ⟨by rw [ht]; exact hM, va_K.moved hWm.alike hK, hW, fun z h => hAs z (by rw [ht] at h; omega)⟩
theorem xM_calling {U : State} {g : JFrame} {mk : MethodId} {a : Array Value} (h : xM dC dI A ad cnt L cI cS cW q V c U) : xM dC dI A ad cnt L cI cS cW q V c (U.calling g mk a) :=
  ⟨h.1, va_K.moved (u := U) (U := U.calling g mk a) (Vm.Alike.refl U.vm) h.2.1, h.2.2.1, h.2.2.2⟩
end XM
section XX
variable {p : Program} {l : Launch} {e : Env} {R : Room} {s : State} {m : MethodId} {args : Array Value} {below : List Frame} {meth : Method} {cd : Code} {H : Heap} {locs : List Loc} {cells slots : Nat} {Q : State → Prop}
variable {cc : ByteArray} {pc : Nat} {ls : Array Slot} {rest : List Value} {H0 : Heap}
variable {dC : Nat → ClassId} {dI : Nat → Nat → Nat} {A : Nat → Prop} {ad : Nat → Nat → Nat} {cnt : Nat} {L : Nat → Nat → Nat} {cI cS cW : ClassId} {q : Nat × Nat} {V : mM} {c : Nat × Nat}
theorem mm_ifnull (hexec : p.tables.exec = Jvm.exec) (hb : cd.code = cc) {z : Int32} {off : Int} {tgt : Nat} (hdg : decode cc pc = .ok (.ifnull off, 3)) (ht : (pc : Int) + off = (tgt : Int)) (kt : z < 0 → W p l e R s m args below meth cd H locs cells slots Q (F0 m tgt ls rest)) (kf : ¬ z < 0 → W p l e R s m args below meth cd H locs cells slots Q (F0 m (pc + 3) ls rest)) : W p l e R s m args below meth cd H locs cells slots Q (F0 m pc ls (va_rf (rO ad z) :: rest)) := by
  by_cases h : z < 0
  · rw [rO_neg h]
    exact lv_ifnullN hexec hb hdg ht (kt h)
  · rw [rO_pos h]
    exact lv_ifnull hexec hb hdg (kf h)
theorem mm_ifnonnull (hexec : p.tables.exec = Jvm.exec) (hb : cd.code = cc) {z : Int32} {off : Int} {tgt : Nat} (hdg : decode cc pc = .ok (.ifnonnull off, 3)) (ht : (pc : Int) + off = (tgt : Int)) (kt : ¬ z < 0 → W p l e R s m args below meth cd H locs cells slots Q (F0 m tgt ls rest)) (kf : z < 0 → W p l e R s m args below meth cd H locs cells slots Q (F0 m (pc + 3) ls rest)) : W p l e R s m args below meth cd H locs cells slots Q (F0 m pc ls (va_rf (rO ad z) :: rest)) := by
  by_cases h : z < 0
  · rw [rO_neg h]
    exact lv_ifnonnullN hexec hb hdg (kf h)
  · rw [rO_pos h]
    exact lv_ifnonnull hexec hb hdg ht (kt h)
theorem xx_aast (hexec : p.tables.exec = Jvm.exec) (hb : cd.code = cc) (hK : va_K (dC, dI) vwCl [(cI, .int), (cS, .object RX3), (cW, .object RX6)] s) (hM : mP (dC, dI) vwCl A (xad ad q) (xce cI cS cW ad q L c) (xex cnt L) V H) (hS : va_S A H0 H locs) (k n : Nat) (hx : xex cnt L k n) {N : Nat} (he : ∀ w, xce cI cS cW ad q L c k n w = .inl (cS, N, .inr (.inr (.inr (.inr (fun j => rO ad (w j)))))))
    {z i : Int32} (ok : okS cnt z) (hin : vp_in i N) (hdg : decode cc pc = .ok (.aastore, 1))
    (kk : ∀ (H1 : Heap) (locs1 : List Loc), mP (dC, dI) vwCl A (xad ad q) (xce cI cS cW ad q L c) (xex cnt L) (mu V k n i.toNatClampNeg z) H1 → va_S A H0 H1 locs1 → W p l e R s m args below meth cd H1 locs1 cells slots Q (F0 m (pc + 1) ls rest)) : W p l e R s m args below meth cd H locs cells slots Q (F0 m pc ls (va_rf (rO ad z) :: .int i :: .ref (xad ad q k n) :: rest)) := by
  have he' := he (upd (V k n) i.toNatClampNeg z)
  rw [rO_up] at he'
  by_cases h : z < 0
  · have hz : rO ad z = none := by unfold rO; rw [if_pos h]
    rw [hz] at he' ⊢
    exact mm_aastN hexec hb hK hM hS k n hx 1 (he (V k n)) rfl z hin he' hdg kk
  · have hz : rO ad z = some (ad 3 z.toNatClampNeg) := by unfold rO; rw [if_neg h]
    rw [hz] at he' ⊢
    exact mm_aast (r := (RX3, TX3, 19)) hexec hb hK hM hS k n hx 1 (he (V k n)) rfl 3 z.toNatClampNeg (okS_lt ok h) rfl rfl z hin he' hdg kk
theorem xx_aastR {n2 : Nat} (hsh : xSh cnt L) (hx2 : xex cnt L 3 n2) (hexec : p.tables.exec = Jvm.exec) (hb : cd.code = cc) (hK : va_K (dC, dI) vwCl [(cI, .int), (cS, .object RX3), (cW, .object RX6)] s) (hM : mP (dC, dI) vwCl A (xad ad q) (xce cI cS cW ad q L c) (xex cnt L) V H) (hS : va_S A H0 H locs) (k n : Nat) (hx : xex cnt L k n) {N : Nat} (he : ∀ w, xce cI cS cW ad q L c k n w = .inl (cS, N, .inr (.inr (.inr (.inr (fun j => rO ad (w j)))))))
    {i : Int32} (hin : vp_in i N) (hdg : decode cc pc = .ok (.aastore, 1))
    (kk : ∀ (H1 : Heap) (locs1 : List Loc), mP (dC, dI) vwCl A (xad ad q) (xce cI cS cW ad q L c) (xex cnt L) (mu V k n i.toNatClampNeg (Int32.ofNat n2)) H1 → va_S A H0 H1 locs1 → W p l e R s m args below meth cd H1 locs1 cells slots Q (F0 m (pc + 1) ls rest)) : W p l e R s m args below meth cd H locs cells slots Q (F0 m pc ls (.ref (ad 3 n2) :: .int i :: .ref (xad ad q k n) :: rest)) := by
  rw [← rO_nI (ad := ad) hsh hx2]
  exact xx_aast hexec hb hK hM hS k n hx he (okS_nI hsh hx2) hin hdg kk
end XX
