/-! a stage that was made, as memory: its cells one by one -/
section MADE2
variable {ad : Nat → Nat → Nat} {cnt h0 : Nat} {u : Nat → Nat} {L : Nat → Nat → Nat} {k n j : Nat} {V : mM} {s b co : Int32} {cI cS cW : ClassId} {q : Nat × Nat} {c : Nat × Nat} {cap bn : Nat}
theorem nL_q : nL L cnt cap bn 11 (32 + cnt) = bn := by simp [nL]
theorem nL_w : nL L cnt cap bn 15 cnt = cap := by simp [nL]
theorem nL_b (h8 : cnt < 8) (hj : j < 4) : nL L cnt cap bn 11 (4 * cnt + j) = 8 := by
  unfold nL
  rw [if_neg (by decide), if_pos rfl, if_neg (by omega), if_pos (by omega)]
theorem nc3 : (xad (nad ad cnt h0 u) q 3 cnt, xce cI cS cW (nad ad cnt h0 u) q (nL L cnt cap bn) c 3 cnt (nV V cnt s b co 3 cnt)) = ((h0, .inr (3, [.int s, .int b, .int co, .ref (u 3), .ref (u 7), .ref (u 0), .null, .null, .int 0, .int 0, .int 100, .int 100, .int 100, .int 0, .int 1, .int 1, .int 0, .int 0, .int 0])) : Nat × va_E) := by
  have hv := nV_own (V := V) (s := s) (b := b) (co := co) (k := 3) (cnt := cnt) (own_st rfl)
  rw [hv]
  show (nad ad cnt h0 u 3 cnt, (.inr (3, [.int s, .int b, .int co, .ref (nad ad cnt h0 u 11 (32 + cnt)), .ref (nad ad cnt h0 u 15 cnt), .ref (nad ad cnt h0 u 21 cnt), va_rf (rO (nad ad cnt h0 u) (-1)), va_rf (rO (nad ad cnt h0 u) (-1)), .int 0, .int 0, .int 100, .int 100, .int 100, .int 0, .int 1, .int 1, .int 0, .int 0, .int 0]) : va_E)) = _
  rw [nad_st (k := 3) rfl, nad_st (k := 15) rfl, nad_st (k := 21) rfl, nad_rw (k := 11) rfl rfl, rO_null]
  all_goals rfl
theorem nc21 : (xad (nad ad cnt h0 u) q 21 cnt, xce cI cS cW (nad ad cnt h0 u) q (nL L cnt cap bn) c 21 cnt (nV V cnt s b co 21 cnt)) = ((u 0, .inr (5, [.ref (u 1), .ref (u 2), .int 0])) : Nat × va_E) := by
  have hv := nV_own (V := V) (s := s) (b := b) (co := co) (k := 21) (cnt := cnt) (own_st rfl)
  rw [hv]
  show (nad ad cnt h0 u 21 cnt, (.inr (5, [.ref (nad ad cnt h0 u 22 cnt), .ref (nad ad cnt h0 u 23 cnt), .int 0]) : va_E)) = _
  rw [nad_st (k := 21) rfl, nad_st (k := 22) rfl, nad_st (k := 23) rfl]
  all_goals rfl
theorem nc22 : (xad (nad ad cnt h0 u) q 22 cnt, xce cI cS cW (nad ad cnt h0 u) q (nL L cnt cap bn) c 22 cnt (nV V cnt s b co 22 cnt)) = ((u 1, .inl (cI, 20, .inl (fun _ => 0))) : Nat × va_E) := by
  have hv := nV_own (V := V) (s := s) (b := b) (co := co) (k := 22) (cnt := cnt) (own_st rfl)
  rw [hv]
  show (nad ad cnt h0 u 22 cnt, (.inl (cI, 20, .inl (ini s b co 22)) : va_E)) = _
  rw [nad_st (k := 22) rfl]
  all_goals rfl
theorem nc23 : (xad (nad ad cnt h0 u) q 23 cnt, xce cI cS cW (nad ad cnt h0 u) q (nL L cnt cap bn) c 23 cnt (nV V cnt s b co 23 cnt)) = ((u 2, .inl (cI, 20, .inl (fun _ => 0))) : Nat × va_E) := by
  have hv := nV_own (V := V) (s := s) (b := b) (co := co) (k := 23) (cnt := cnt) (own_st rfl)
  rw [hv]
  show (nad ad cnt h0 u 23 cnt, (.inl (cI, 20, .inl (ini s b co 23)) : va_E)) = _
  rw [nad_st (k := 23) rfl]
  all_goals rfl
theorem nc11 : (xad (nad ad cnt h0 u) q 11 (32 + cnt), xce cI cS cW (nad ad cnt h0 u) q (nL L cnt cap bn) c 11 (32 + cnt) (nV V cnt s b co 11 (32 + cnt))) = ((u 3, .inr (1, [.ref (u 4), .ref (u 5), .ref (u 6), .int 0])) : Nat × va_E) := by
  have hv := nV_own (V := V) (s := s) (b := b) (co := co) (k := 11) (cnt := cnt) (own_rw rfl)
  rw [hv]
  show (nad ad cnt h0 u 11 (32 + cnt), (.inr (1, [.ref (nad ad cnt h0 u 12 (32 + cnt)), .ref (nad ad cnt h0 u 13 (32 + cnt)), .ref (nad ad cnt h0 u 14 (32 + cnt)), .int 0]) : va_E)) = _
  rw [nad_rw (k := 11) rfl rfl, nad_rw (k := 12) rfl rfl, nad_rw (k := 13) rfl rfl, nad_rw (k := 14) rfl rfl]
  all_goals rfl
theorem nc12 : (xad (nad ad cnt h0 u) q 12 (32 + cnt), xce cI cS cW (nad ad cnt h0 u) q (nL L cnt cap bn) c 12 (32 + cnt) (nV V cnt s b co 12 (32 + cnt))) = ((u 4, .inl (cI, bn, .inl (fun _ => 0))) : Nat × va_E) := by
  have hv := nV_own (V := V) (s := s) (b := b) (co := co) (k := 12) (cnt := cnt) (own_rw rfl)
  rw [hv]
  show (nad ad cnt h0 u 12 (32 + cnt), (.inl (cI, nL L cnt cap bn 11 (32 + cnt), .inl (ini s b co 12)) : va_E)) = _
  rw [nad_rw (k := 12) rfl rfl, nL_q]
  all_goals rfl
theorem nc13 : (xad (nad ad cnt h0 u) q 13 (32 + cnt), xce cI cS cW (nad ad cnt h0 u) q (nL L cnt cap bn) c 13 (32 + cnt) (nV V cnt s b co 13 (32 + cnt))) = ((u 5, .inl (cI, bn, .inl (fun _ => 0))) : Nat × va_E) := by
  have hv := nV_own (V := V) (s := s) (b := b) (co := co) (k := 13) (cnt := cnt) (own_rw rfl)
  rw [hv]
  show (nad ad cnt h0 u 13 (32 + cnt), (.inl (cI, nL L cnt cap bn 11 (32 + cnt), .inl (ini s b co 13)) : va_E)) = _
  rw [nad_rw (k := 13) rfl rfl, nL_q]
  all_goals rfl
theorem nc14 : (xad (nad ad cnt h0 u) q 14 (32 + cnt), xce cI cS cW (nad ad cnt h0 u) q (nL L cnt cap bn) c 14 (32 + cnt) (nV V cnt s b co 14 (32 + cnt))) = ((u 6, .inl (cI, bn, .inl (fun _ => 0))) : Nat × va_E) := by
  have hv := nV_own (V := V) (s := s) (b := b) (co := co) (k := 14) (cnt := cnt) (own_rw rfl)
  rw [hv]
  show (nad ad cnt h0 u 14 (32 + cnt), (.inl (cI, nL L cnt cap bn 11 (32 + cnt), .inl (ini s b co 14)) : va_E)) = _
  rw [nad_rw (k := 14) rfl rfl, nL_q]
  all_goals rfl
theorem nc15 : (xad (nad ad cnt h0 u) q 15 cnt, xce cI cS cW (nad ad cnt h0 u) q (nL L cnt cap bn) c 15 cnt (nV V cnt s b co 15 cnt)) = ((u 7, .inl (cW, cap, .inr (.inr (.inr (.inr (fun j => if j < cap then some (nad ad cnt h0 u 16 (4 * cnt + j)) else none)))))) : Nat × va_E) := by
  have hv := nV_own (V := V) (s := s) (b := b) (co := co) (k := 15) (cnt := cnt) (own_st rfl)
  rw [hv]
  show (nad ad cnt h0 u 15 cnt, (.inl (cW, nL L cnt cap bn 15 cnt, .inr (.inr (.inr (.inr (fun j => if j < nL L cnt cap bn 15 cnt then some (nad ad cnt h0 u 16 (4 * cnt + j)) else none))))) : va_E)) = _
  rw [nad_st (k := 15) rfl, nL_w]
  all_goals rfl
theorem nw16 (h8 : cnt < 8) (hj : j < 4) : (xad (nad ad cnt h0 u) q 16 (4 * cnt + j), xce cI cS cW (nad ad cnt h0 u) q (nL L cnt cap bn) c 16 (4 * cnt + j) (nV V cnt s b co 16 (4 * cnt + j))) = ((u (8 + 9 * j + 0), .inr (6, [.ref (u (8 + 9 * j + 1)), .ref (u (8 + 9 * j + 5)), .int 0, .int 0, .int 0])) : Nat × va_E) := by
  have hv := nV_own (V := V) (s := s) (b := b) (co := co) (k := 16) (cnt := cnt) (own_wk rfl hj)
  rw [hv]
  show (nad ad cnt h0 u 16 (4 * cnt + j), (.inr (6, [.ref (nad ad cnt h0 u 11 (4 * cnt + j)), .ref (nad ad cnt h0 u 17 (4 * cnt + j)), .int 0, .int 0, .int 0]) : va_E)) = _
  rw [nad_wk (k := 16) h8 rfl rfl hj, nad_wk (k := 11) h8 rfl rfl hj, nad_wk (k := 17) h8 rfl rfl hj]
  all_goals rfl
theorem nw11 (h8 : cnt < 8) (hj : j < 4) : (xad (nad ad cnt h0 u) q 11 (4 * cnt + j), xce cI cS cW (nad ad cnt h0 u) q (nL L cnt cap bn) c 11 (4 * cnt + j) (nV V cnt s b co 11 (4 * cnt + j))) = ((u (8 + 9 * j + 1), .inr (1, [.ref (u (8 + 9 * j + 2)), .ref (u (8 + 9 * j + 3)), .ref (u (8 + 9 * j + 4)), .int 0])) : Nat × va_E) := by
  have hv := nV_own (V := V) (s := s) (b := b) (co := co) (k := 11) (cnt := cnt) (own_wk rfl hj)
  rw [hv]
  show (nad ad cnt h0 u 11 (4 * cnt + j), (.inr (1, [.ref (nad ad cnt h0 u 12 (4 * cnt + j)), .ref (nad ad cnt h0 u 13 (4 * cnt + j)), .ref (nad ad cnt h0 u 14 (4 * cnt + j)), .int 0]) : va_E)) = _
  rw [nad_wk (k := 11) h8 rfl rfl hj, nad_wk (k := 12) h8 rfl rfl hj, nad_wk (k := 13) h8 rfl rfl hj, nad_wk (k := 14) h8 rfl rfl hj]
  all_goals rfl
theorem nw12 (h8 : cnt < 8) (hj : j < 4) : (xad (nad ad cnt h0 u) q 12 (4 * cnt + j), xce cI cS cW (nad ad cnt h0 u) q (nL L cnt cap bn) c 12 (4 * cnt + j) (nV V cnt s b co 12 (4 * cnt + j))) = ((u (8 + 9 * j + 2), .inl (cI, 8, .inl (fun _ => 0))) : Nat × va_E) := by
  have hv := nV_own (V := V) (s := s) (b := b) (co := co) (k := 12) (cnt := cnt) (own_wk rfl hj)
  rw [hv]
  show (nad ad cnt h0 u 12 (4 * cnt + j), (.inl (cI, nL L cnt cap bn 11 (4 * cnt + j), .inl (ini s b co 12)) : va_E)) = _
  rw [nad_wk (k := 12) h8 rfl rfl hj, nL_b h8 hj]
  all_goals rfl
theorem nw13 (h8 : cnt < 8) (hj : j < 4) : (xad (nad ad cnt h0 u) q 13 (4 * cnt + j), xce cI cS cW (nad ad cnt h0 u) q (nL L cnt cap bn) c 13 (4 * cnt + j) (nV V cnt s b co 13 (4 * cnt + j))) = ((u (8 + 9 * j + 3), .inl (cI, 8, .inl (fun _ => 0))) : Nat × va_E) := by
  have hv := nV_own (V := V) (s := s) (b := b) (co := co) (k := 13) (cnt := cnt) (own_wk rfl hj)
  rw [hv]
  show (nad ad cnt h0 u 13 (4 * cnt + j), (.inl (cI, nL L cnt cap bn 11 (4 * cnt + j), .inl (ini s b co 13)) : va_E)) = _
  rw [nad_wk (k := 13) h8 rfl rfl hj, nL_b h8 hj]
  all_goals rfl
theorem nw14 (h8 : cnt < 8) (hj : j < 4) : (xad (nad ad cnt h0 u) q 14 (4 * cnt + j), xce cI cS cW (nad ad cnt h0 u) q (nL L cnt cap bn) c 14 (4 * cnt + j) (nV V cnt s b co 14 (4 * cnt + j))) = ((u (8 + 9 * j + 4), .inl (cI, 8, .inl (fun _ => 0))) : Nat × va_E) := by
  have hv := nV_own (V := V) (s := s) (b := b) (co := co) (k := 14) (cnt := cnt) (own_wk rfl hj)
  rw [hv]
  show (nad ad cnt h0 u 14 (4 * cnt + j), (.inl (cI, nL L cnt cap bn 11 (4 * cnt + j), .inl (ini s b co 14)) : va_E)) = _
  rw [nad_wk (k := 14) h8 rfl rfl hj, nL_b h8 hj]
  all_goals rfl
theorem nw17 (h8 : cnt < 8) (hj : j < 4) : (xad (nad ad cnt h0 u) q 17 (4 * cnt + j), xce cI cS cW (nad ad cnt h0 u) q (nL L cnt cap bn) c 17 (4 * cnt + j) (nV V cnt s b co 17 (4 * cnt + j))) = ((u (8 + 9 * j + 5), .inr (2, [.ref (u (8 + 9 * j + 6)), .ref (u (8 + 9 * j + 7)), .ref (u (8 + 9 * j + 8)), .int 0, .int 0, .int (-1)])) : Nat × va_E) := by
  have hv := nV_own (V := V) (s := s) (b := b) (co := co) (k := 17) (cnt := cnt) (own_wk rfl hj)
  rw [hv]
  show (nad ad cnt h0 u 17 (4 * cnt + j), (.inr (2, [.ref (nad ad cnt h0 u 18 (4 * cnt + j)), .ref (nad ad cnt h0 u 19 (4 * cnt + j)), .ref (nad ad cnt h0 u 20 (4 * cnt + j)), .int 0, .int 0, .int (-1)]) : va_E)) = _
  rw [nad_wk (k := 17) h8 rfl rfl hj, nad_wk (k := 18) h8 rfl rfl hj, nad_wk (k := 19) h8 rfl rfl hj, nad_wk (k := 20) h8 rfl rfl hj]
  all_goals rfl
theorem rO_nil {f : Nat → Nat → Nat} : (fun _ : Nat => rO f (-1 : Int32)) = fun _ => none := by
  funext _
  unfold rO
  rw [if_pos (by decide)]
theorem nw18 (h8 : cnt < 8) (hj : j < 4) : (xad (nad ad cnt h0 u) q 18 (4 * cnt + j), xce cI cS cW (nad ad cnt h0 u) q (nL L cnt cap bn) c 18 (4 * cnt + j) (nV V cnt s b co 18 (4 * cnt + j))) = ((u (8 + 9 * j + 6), .inl (cS, 16, .inr (.inr (.inr (.inr (fun _ => none)))))) : Nat × va_E) := by
  have hv := nV_own (V := V) (s := s) (b := b) (co := co) (k := 18) (cnt := cnt) (own_wk rfl hj)
  rw [hv]
  show (nad ad cnt h0 u 18 (4 * cnt + j), (.inl (cS, 16, .inr (.inr (.inr (.inr (fun _ => rO (nad ad cnt h0 u) (-1)))))) : va_E)) = _
  rw [nad_wk (k := 18) h8 rfl rfl hj, rO_nil]
  all_goals rfl
theorem nw19 (h8 : cnt < 8) (hj : j < 4) : (xad (nad ad cnt h0 u) q 19 (4 * cnt + j), xce cI cS cW (nad ad cnt h0 u) q (nL L cnt cap bn) c 19 (4 * cnt + j) (nV V cnt s b co 19 (4 * cnt + j))) = ((u (8 + 9 * j + 7), .inl (cI, 16, .inl (fun _ => 0))) : Nat × va_E) := by
  have hv := nV_own (V := V) (s := s) (b := b) (co := co) (k := 19) (cnt := cnt) (own_wk rfl hj)
  rw [hv]
  show (nad ad cnt h0 u 19 (4 * cnt + j), (.inl (cI, 16, .inl (ini s b co 19)) : va_E)) = _
  rw [nad_wk (k := 19) h8 rfl rfl hj]
  all_goals rfl
theorem nw20 (h8 : cnt < 8) (hj : j < 4) : (xad (nad ad cnt h0 u) q 20 (4 * cnt + j), xce cI cS cW (nad ad cnt h0 u) q (nL L cnt cap bn) c 20 (4 * cnt + j) (nV V cnt s b co 20 (4 * cnt + j))) = ((u (8 + 9 * j + 8), .inl (cI, 16, .inl (fun _ => 0))) : Nat × va_E) := by
  have hv := nV_own (V := V) (s := s) (b := b) (co := co) (k := 20) (cnt := cnt) (own_wk rfl hj)
  rw [hv]
  show (nad ad cnt h0 u 20 (4 * cnt + j), (.inl (cI, 16, .inl (ini s b co 20)) : va_E)) = _
  rw [nad_wk (k := 20) h8 rfl rfl hj]
  all_goals rfl
def newIds (cnt cap : Nat) : List (Nat × Nat) := stIds cnt ++ (List.range cap).flatMap (fun j => wkIds (4 * cnt + j))
theorem wex_new (hc : cap ≤ 4) : wex (cnt + 1) (nL L cnt cap bn) n ↔ wex cnt L n ∨ ∃ j, j < cap ∧ n = 4 * cnt + j := by
  unfold wex
  by_cases h : n / 4 = cnt
  · rw [h, nL_w]
    constructor
    · rintro ⟨-, h2⟩
      exact Or.inr ⟨n % 4, h2, by omega⟩
    · rintro (h2 | ⟨j, h2, h3⟩)
      · omega
      · exact ⟨by omega, by omega⟩
  · have e9 : nL L cnt cap bn 15 (n / 4) = L 15 (n / 4) := by simp [nL, h]
    rw [e9]
    constructor
    · rintro ⟨h1, h2⟩
      exact Or.inl ⟨by omega, h2⟩
    · rintro (⟨h1, h2⟩ | ⟨j, h2, h3⟩)
      · exact ⟨by omega, h2⟩
      · omega
theorem rex_new (hc : cap ≤ 4) : rex (cnt + 1) (nL L cnt cap bn) n ↔ rex cnt L n ∨ n = 32 + cnt ∨ ∃ j, j < cap ∧ n = 4 * cnt + j := by
  unfold rex
  rw [wex_new hc]
  constructor
  · rintro (h | h | h)
    · by_cases h2 : n - 32 < cnt
      · exact Or.inl (Or.inl ⟨h.1, h2⟩)
      · exact Or.inr (Or.inl (by omega))
    · exact Or.inl (Or.inr h)
    · exact Or.inr (Or.inr h)
  · rintro ((h | h) | h | h)
    · exact Or.inl ⟨h.1, by omega⟩
    · exact Or.inr (Or.inl h)
    · exact Or.inl ⟨by omega, by omega⟩
    · exact Or.inr (Or.inr h)
theorem xex_new (hc : cap ≤ 4) : xex (cnt + 1) (nL L cnt cap bn) k n ↔ xex cnt L k n ∨ (k, n) ∈ newIds cnt cap := by
  match k with
  | 0 => simp [xex, newIds, stIds, wkIds]
  | 1 => simp [xex, newIds, stIds, wkIds]
  | 2 => simp [xex, newIds, stIds, wkIds]
  | 3 =>
    simp [xex, newIds, stIds, wkIds]
    omega
  | 4 => simp [xex, newIds, stIds, wkIds]
  | 5 => simp [xex, newIds, stIds, wkIds]
  | 6 => simp [xex, newIds, stIds, wkIds]
  | 7 => simp [xex, newIds, stIds, wkIds]
  | 8 => simp [xex, newIds, stIds, wkIds]
  | 9 => simp [xex, newIds, stIds, wkIds]
  | 10 => simp [xex, newIds, stIds, wkIds]
  | 11 =>
    show rex (cnt + 1) (nL L cnt cap bn) n ↔ rex cnt L n ∨ _
    rw [rex_new hc]
    simp [newIds, stIds, wkIds]
  | 12 =>
    show rex (cnt + 1) (nL L cnt cap bn) n ↔ rex cnt L n ∨ _
    rw [rex_new hc]
    simp [newIds, stIds, wkIds]
  | 13 =>
    show rex (cnt + 1) (nL L cnt cap bn) n ↔ rex cnt L n ∨ _
    rw [rex_new hc]
    simp [newIds, stIds, wkIds]
  | 14 =>
    show rex (cnt + 1) (nL L cnt cap bn) n ↔ rex cnt L n ∨ _
    rw [rex_new hc]
    simp [newIds, stIds, wkIds]
  | 15 =>
    simp [xex, newIds, stIds, wkIds]
    omega
  | 16 =>
    show wex (cnt + 1) (nL L cnt cap bn) n ↔ wex cnt L n ∨ _
    rw [wex_new hc]
    simp [newIds, stIds, wkIds]
  | 17 =>
    show wex (cnt + 1) (nL L cnt cap bn) n ↔ wex cnt L n ∨ _
    rw [wex_new hc]
    simp [newIds, stIds, wkIds]
  | 18 =>
    show wex (cnt + 1) (nL L cnt cap bn) n ↔ wex cnt L n ∨ _
    rw [wex_new hc]
    simp [newIds, stIds, wkIds]
  | 19 =>
    show wex (cnt + 1) (nL L cnt cap bn) n ↔ wex cnt L n ∨ _
    rw [wex_new hc]
    simp [newIds, stIds, wkIds]
  | 20 =>
    show wex (cnt + 1) (nL L cnt cap bn) n ↔ wex cnt L n ∨ _
    rw [wex_new hc]
    simp [newIds, stIds, wkIds]
  | 21 =>
    simp [xex, newIds, stIds, wkIds]
    omega
  | 22 =>
    simp [xex, newIds, stIds, wkIds]
    omega
  | 23 =>
    simp [xex, newIds, stIds, wkIds]
    omega
  | k + 24 =>
    show False ↔ False ∨ _
    simp [newIds, stIds, wkIds]
theorem wk_fun1 (h8 : cnt < 8) : (fun j => if j < 1 then some (nad ad cnt h0 u 16 (4 * cnt + j)) else none) = (va_up (fun _ => none) 0 (some (u 8))) := by
  funext j
  unfold va_up
  by_cases h0 : j = 0
  · subst h0
    rw [if_pos (by decide), nad_wk (k := 16) h8 rfl rfl (by decide)]
    simp [wix]
  simp [h0]
  all_goals omega
theorem newW_1 (h8 : cnt < 8) : mw (xad (nad ad cnt h0 u) q) (xce cI cS cW (nad ad cnt h0 u) q (nL L cnt 1 bn) c) (nV V cnt s b co) (newIds cnt 1) = [(h0, .inr (3, [.int s, .int b, .int co, .ref (u 3), .ref (u 7), .ref (u 0), .null, .null, .int 0, .int 0, .int 100, .int 100, .int 100, .int 0, .int 1, .int 1, .int 0, .int 0, .int 0])), ((u 0), .inr (5, [.ref (u 1), .ref (u 2), .int 0])), ((u 1), .inl (cI, 20, .inl (fun _ => 0))), ((u 2), .inl (cI, 20, .inl (fun _ => 0))), ((u 3), .inr (1, [.ref (u 4), .ref (u 5), .ref (u 6), .int 0])), ((u 4), .inl (cI, bn, .inl (fun _ => 0))), ((u 5), .inl (cI, bn, .inl (fun _ => 0))), ((u 6), .inl (cI, bn, .inl (fun _ => 0))), ((u 7), .inl (cW, 1, .inr (.inr (.inr (.inr (va_up (fun _ => none) 0 (some (u 8)))))))), ((u 8), .inr (6, [.ref (u 9), .ref (u 13), .int 0, .int 0, .int 0])), ((u 9), .inr (1, [.ref (u 10), .ref (u 11), .ref (u 12), .int 0])), ((u 10), .inl (cI, 8, .inl (fun _ => 0))), ((u 11), .inl (cI, 8, .inl (fun _ => 0))), ((u 12), .inl (cI, 8, .inl (fun _ => 0))), ((u 13), .inr (2, [.ref (u 14), .ref (u 15), .ref (u 16), .int 0, .int 0, .int (-1)])), ((u 14), .inl (cS, 16, .inr (.inr (.inr (.inr (fun _ => none)))))), ((u 15), .inl (cI, 16, .inl (fun _ => 0))), ((u 16), .inl (cI, 16, .inl (fun _ => 0)))] := by
  rw [show newIds cnt 1 = [(3, cnt), (21, cnt), (22, cnt), (23, cnt), (11, 32 + cnt), (12, 32 + cnt), (13, 32 + cnt), (14, 32 + cnt), (15, cnt), (16, 4 * cnt + 0), (11, 4 * cnt + 0), (12, 4 * cnt + 0), (13, 4 * cnt + 0), (14, 4 * cnt + 0), (17, 4 * cnt + 0), (18, 4 * cnt + 0), (19, 4 * cnt + 0), (20, 4 * cnt + 0)] from rfl]
  simp only [mw, List.map_cons, List.map_nil]
  rw [nc3, nc21, nc22, nc23, nc11, nc12, nc13, nc14, nc15, wk_fun1 h8, nw16 (j := 0) h8 (by decide), nw11 (j := 0) h8 (by decide), nw12 (j := 0) h8 (by decide), nw13 (j := 0) h8 (by decide), nw14 (j := 0) h8 (by decide), nw17 (j := 0) h8 (by decide), nw18 (j := 0) h8 (by decide), nw19 (j := 0) h8 (by decide), nw20 (j := 0) h8 (by decide)]
theorem wk_fun2 (h8 : cnt < 8) : (fun j => if j < 2 then some (nad ad cnt h0 u 16 (4 * cnt + j)) else none) = (va_up (va_up (fun _ => none) 0 (some (u 8))) 1 (some (u 17))) := by
  funext j
  unfold va_up
  by_cases h0 : j = 0
  · subst h0
    rw [if_pos (by decide), nad_wk (k := 16) h8 rfl rfl (by decide)]
    simp [wix]
  by_cases h1 : j = 1
  · subst h1
    rw [if_pos (by decide), nad_wk (k := 16) h8 rfl rfl (by decide)]
    simp [wix]
  simp [h0, h1]
  all_goals omega
theorem newW_2 (h8 : cnt < 8) : mw (xad (nad ad cnt h0 u) q) (xce cI cS cW (nad ad cnt h0 u) q (nL L cnt 2 bn) c) (nV V cnt s b co) (newIds cnt 2) = [(h0, .inr (3, [.int s, .int b, .int co, .ref (u 3), .ref (u 7), .ref (u 0), .null, .null, .int 0, .int 0, .int 100, .int 100, .int 100, .int 0, .int 1, .int 1, .int 0, .int 0, .int 0])), ((u 0), .inr (5, [.ref (u 1), .ref (u 2), .int 0])), ((u 1), .inl (cI, 20, .inl (fun _ => 0))), ((u 2), .inl (cI, 20, .inl (fun _ => 0))), ((u 3), .inr (1, [.ref (u 4), .ref (u 5), .ref (u 6), .int 0])), ((u 4), .inl (cI, bn, .inl (fun _ => 0))), ((u 5), .inl (cI, bn, .inl (fun _ => 0))), ((u 6), .inl (cI, bn, .inl (fun _ => 0))), ((u 7), .inl (cW, 2, .inr (.inr (.inr (.inr (va_up (va_up (fun _ => none) 0 (some (u 8))) 1 (some (u 17)))))))), ((u 8), .inr (6, [.ref (u 9), .ref (u 13), .int 0, .int 0, .int 0])), ((u 9), .inr (1, [.ref (u 10), .ref (u 11), .ref (u 12), .int 0])), ((u 10), .inl (cI, 8, .inl (fun _ => 0))), ((u 11), .inl (cI, 8, .inl (fun _ => 0))), ((u 12), .inl (cI, 8, .inl (fun _ => 0))), ((u 13), .inr (2, [.ref (u 14), .ref (u 15), .ref (u 16), .int 0, .int 0, .int (-1)])), ((u 14), .inl (cS, 16, .inr (.inr (.inr (.inr (fun _ => none)))))), ((u 15), .inl (cI, 16, .inl (fun _ => 0))), ((u 16), .inl (cI, 16, .inl (fun _ => 0))), ((u 17), .inr (6, [.ref (u 18), .ref (u 22), .int 0, .int 0, .int 0])), ((u 18), .inr (1, [.ref (u 19), .ref (u 20), .ref (u 21), .int 0])), ((u 19), .inl (cI, 8, .inl (fun _ => 0))), ((u 20), .inl (cI, 8, .inl (fun _ => 0))), ((u 21), .inl (cI, 8, .inl (fun _ => 0))), ((u 22), .inr (2, [.ref (u 23), .ref (u 24), .ref (u 25), .int 0, .int 0, .int (-1)])), ((u 23), .inl (cS, 16, .inr (.inr (.inr (.inr (fun _ => none)))))), ((u 24), .inl (cI, 16, .inl (fun _ => 0))), ((u 25), .inl (cI, 16, .inl (fun _ => 0)))] := by
  rw [show newIds cnt 2 = [(3, cnt), (21, cnt), (22, cnt), (23, cnt), (11, 32 + cnt), (12, 32 + cnt), (13, 32 + cnt), (14, 32 + cnt), (15, cnt), (16, 4 * cnt + 0), (11, 4 * cnt + 0), (12, 4 * cnt + 0), (13, 4 * cnt + 0), (14, 4 * cnt + 0), (17, 4 * cnt + 0), (18, 4 * cnt + 0), (19, 4 * cnt + 0), (20, 4 * cnt + 0), (16, 4 * cnt + 1), (11, 4 * cnt + 1), (12, 4 * cnt + 1), (13, 4 * cnt + 1), (14, 4 * cnt + 1), (17, 4 * cnt + 1), (18, 4 * cnt + 1), (19, 4 * cnt + 1), (20, 4 * cnt + 1)] from rfl]
  simp only [mw, List.map_cons, List.map_nil]
  rw [nc3, nc21, nc22, nc23, nc11, nc12, nc13, nc14, nc15, wk_fun2 h8, nw16 (j := 0) h8 (by decide), nw11 (j := 0) h8 (by decide), nw12 (j := 0) h8 (by decide), nw13 (j := 0) h8 (by decide), nw14 (j := 0) h8 (by decide), nw17 (j := 0) h8 (by decide), nw18 (j := 0) h8 (by decide), nw19 (j := 0) h8 (by decide), nw20 (j := 0) h8 (by decide), nw16 (j := 1) h8 (by decide), nw11 (j := 1) h8 (by decide), nw12 (j := 1) h8 (by decide), nw13 (j := 1) h8 (by decide), nw14 (j := 1) h8 (by decide), nw17 (j := 1) h8 (by decide), nw18 (j := 1) h8 (by decide), nw19 (j := 1) h8 (by decide), nw20 (j := 1) h8 (by decide)]
theorem wk_fun3 (h8 : cnt < 8) : (fun j => if j < 3 then some (nad ad cnt h0 u 16 (4 * cnt + j)) else none) = (va_up (va_up (va_up (fun _ => none) 0 (some (u 8))) 1 (some (u 17))) 2 (some (u 26))) := by
  funext j
  unfold va_up
  by_cases h0 : j = 0
  · subst h0
    rw [if_pos (by decide), nad_wk (k := 16) h8 rfl rfl (by decide)]
    simp [wix]
  by_cases h1 : j = 1
  · subst h1
    rw [if_pos (by decide), nad_wk (k := 16) h8 rfl rfl (by decide)]
    simp [wix]
  by_cases h2 : j = 2
  · subst h2
    rw [if_pos (by decide), nad_wk (k := 16) h8 rfl rfl (by decide)]
    simp [wix]
  simp [h0, h1, h2]
  all_goals omega
theorem newW_3 (h8 : cnt < 8) : mw (xad (nad ad cnt h0 u) q) (xce cI cS cW (nad ad cnt h0 u) q (nL L cnt 3 bn) c) (nV V cnt s b co) (newIds cnt 3) = [(h0, .inr (3, [.int s, .int b, .int co, .ref (u 3), .ref (u 7), .ref (u 0), .null, .null, .int 0, .int 0, .int 100, .int 100, .int 100, .int 0, .int 1, .int 1, .int 0, .int 0, .int 0])), ((u 0), .inr (5, [.ref (u 1), .ref (u 2), .int 0])), ((u 1), .inl (cI, 20, .inl (fun _ => 0))), ((u 2), .inl (cI, 20, .inl (fun _ => 0))), ((u 3), .inr (1, [.ref (u 4), .ref (u 5), .ref (u 6), .int 0])), ((u 4), .inl (cI, bn, .inl (fun _ => 0))), ((u 5), .inl (cI, bn, .inl (fun _ => 0))), ((u 6), .inl (cI, bn, .inl (fun _ => 0))), ((u 7), .inl (cW, 3, .inr (.inr (.inr (.inr (va_up (va_up (va_up (fun _ => none) 0 (some (u 8))) 1 (some (u 17))) 2 (some (u 26)))))))), ((u 8), .inr (6, [.ref (u 9), .ref (u 13), .int 0, .int 0, .int 0])), ((u 9), .inr (1, [.ref (u 10), .ref (u 11), .ref (u 12), .int 0])), ((u 10), .inl (cI, 8, .inl (fun _ => 0))), ((u 11), .inl (cI, 8, .inl (fun _ => 0))), ((u 12), .inl (cI, 8, .inl (fun _ => 0))), ((u 13), .inr (2, [.ref (u 14), .ref (u 15), .ref (u 16), .int 0, .int 0, .int (-1)])), ((u 14), .inl (cS, 16, .inr (.inr (.inr (.inr (fun _ => none)))))), ((u 15), .inl (cI, 16, .inl (fun _ => 0))), ((u 16), .inl (cI, 16, .inl (fun _ => 0))), ((u 17), .inr (6, [.ref (u 18), .ref (u 22), .int 0, .int 0, .int 0])), ((u 18), .inr (1, [.ref (u 19), .ref (u 20), .ref (u 21), .int 0])), ((u 19), .inl (cI, 8, .inl (fun _ => 0))), ((u 20), .inl (cI, 8, .inl (fun _ => 0))), ((u 21), .inl (cI, 8, .inl (fun _ => 0))), ((u 22), .inr (2, [.ref (u 23), .ref (u 24), .ref (u 25), .int 0, .int 0, .int (-1)])), ((u 23), .inl (cS, 16, .inr (.inr (.inr (.inr (fun _ => none)))))), ((u 24), .inl (cI, 16, .inl (fun _ => 0))), ((u 25), .inl (cI, 16, .inl (fun _ => 0))), ((u 26), .inr (6, [.ref (u 27), .ref (u 31), .int 0, .int 0, .int 0])), ((u 27), .inr (1, [.ref (u 28), .ref (u 29), .ref (u 30), .int 0])), ((u 28), .inl (cI, 8, .inl (fun _ => 0))), ((u 29), .inl (cI, 8, .inl (fun _ => 0))), ((u 30), .inl (cI, 8, .inl (fun _ => 0))), ((u 31), .inr (2, [.ref (u 32), .ref (u 33), .ref (u 34), .int 0, .int 0, .int (-1)])), ((u 32), .inl (cS, 16, .inr (.inr (.inr (.inr (fun _ => none)))))), ((u 33), .inl (cI, 16, .inl (fun _ => 0))), ((u 34), .inl (cI, 16, .inl (fun _ => 0)))] := by
  rw [show newIds cnt 3 = [(3, cnt), (21, cnt), (22, cnt), (23, cnt), (11, 32 + cnt), (12, 32 + cnt), (13, 32 + cnt), (14, 32 + cnt), (15, cnt), (16, 4 * cnt + 0), (11, 4 * cnt + 0), (12, 4 * cnt + 0), (13, 4 * cnt + 0), (14, 4 * cnt + 0), (17, 4 * cnt + 0), (18, 4 * cnt + 0), (19, 4 * cnt + 0), (20, 4 * cnt + 0), (16, 4 * cnt + 1), (11, 4 * cnt + 1), (12, 4 * cnt + 1), (13, 4 * cnt + 1), (14, 4 * cnt + 1), (17, 4 * cnt + 1), (18, 4 * cnt + 1), (19, 4 * cnt + 1), (20, 4 * cnt + 1), (16, 4 * cnt + 2), (11, 4 * cnt + 2), (12, 4 * cnt + 2), (13, 4 * cnt + 2), (14, 4 * cnt + 2), (17, 4 * cnt + 2), (18, 4 * cnt + 2), (19, 4 * cnt + 2), (20, 4 * cnt + 2)] from rfl]
  simp only [mw, List.map_cons, List.map_nil]
  rw [nc3, nc21, nc22, nc23, nc11, nc12, nc13, nc14, nc15, wk_fun3 h8, nw16 (j := 0) h8 (by decide), nw11 (j := 0) h8 (by decide), nw12 (j := 0) h8 (by decide), nw13 (j := 0) h8 (by decide), nw14 (j := 0) h8 (by decide), nw17 (j := 0) h8 (by decide), nw18 (j := 0) h8 (by decide), nw19 (j := 0) h8 (by decide), nw20 (j := 0) h8 (by decide), nw16 (j := 1) h8 (by decide), nw11 (j := 1) h8 (by decide), nw12 (j := 1) h8 (by decide), nw13 (j := 1) h8 (by decide), nw14 (j := 1) h8 (by decide), nw17 (j := 1) h8 (by decide), nw18 (j := 1) h8 (by decide), nw19 (j := 1) h8 (by decide), nw20 (j := 1) h8 (by decide), nw16 (j := 2) h8 (by decide), nw11 (j := 2) h8 (by decide), nw12 (j := 2) h8 (by decide), nw13 (j := 2) h8 (by decide), nw14 (j := 2) h8 (by decide), nw17 (j := 2) h8 (by decide), nw18 (j := 2) h8 (by decide), nw19 (j := 2) h8 (by decide), nw20 (j := 2) h8 (by decide)]
theorem wk_fun4 (h8 : cnt < 8) : (fun j => if j < 4 then some (nad ad cnt h0 u 16 (4 * cnt + j)) else none) = (va_up (va_up (va_up (va_up (fun _ => none) 0 (some (u 8))) 1 (some (u 17))) 2 (some (u 26))) 3 (some (u 35))) := by
  funext j
  unfold va_up
  by_cases h0 : j = 0
  · subst h0
    rw [if_pos (by decide), nad_wk (k := 16) h8 rfl rfl (by decide)]
    simp [wix]
  by_cases h1 : j = 1
  · subst h1
    rw [if_pos (by decide), nad_wk (k := 16) h8 rfl rfl (by decide)]
    simp [wix]
  by_cases h2 : j = 2
  · subst h2
    rw [if_pos (by decide), nad_wk (k := 16) h8 rfl rfl (by decide)]
    simp [wix]
  by_cases h3 : j = 3
  · subst h3
    rw [if_pos (by decide), nad_wk (k := 16) h8 rfl rfl (by decide)]
    simp [wix]
  simp [h0, h1, h2, h3]
  all_goals omega
theorem newW_4 (h8 : cnt < 8) : mw (xad (nad ad cnt h0 u) q) (xce cI cS cW (nad ad cnt h0 u) q (nL L cnt 4 bn) c) (nV V cnt s b co) (newIds cnt 4) = [(h0, .inr (3, [.int s, .int b, .int co, .ref (u 3), .ref (u 7), .ref (u 0), .null, .null, .int 0, .int 0, .int 100, .int 100, .int 100, .int 0, .int 1, .int 1, .int 0, .int 0, .int 0])), ((u 0), .inr (5, [.ref (u 1), .ref (u 2), .int 0])), ((u 1), .inl (cI, 20, .inl (fun _ => 0))), ((u 2), .inl (cI, 20, .inl (fun _ => 0))), ((u 3), .inr (1, [.ref (u 4), .ref (u 5), .ref (u 6), .int 0])), ((u 4), .inl (cI, bn, .inl (fun _ => 0))), ((u 5), .inl (cI, bn, .inl (fun _ => 0))), ((u 6), .inl (cI, bn, .inl (fun _ => 0))), ((u 7), .inl (cW, 4, .inr (.inr (.inr (.inr (va_up (va_up (va_up (va_up (fun _ => none) 0 (some (u 8))) 1 (some (u 17))) 2 (some (u 26))) 3 (some (u 35)))))))), ((u 8), .inr (6, [.ref (u 9), .ref (u 13), .int 0, .int 0, .int 0])), ((u 9), .inr (1, [.ref (u 10), .ref (u 11), .ref (u 12), .int 0])), ((u 10), .inl (cI, 8, .inl (fun _ => 0))), ((u 11), .inl (cI, 8, .inl (fun _ => 0))), ((u 12), .inl (cI, 8, .inl (fun _ => 0))), ((u 13), .inr (2, [.ref (u 14), .ref (u 15), .ref (u 16), .int 0, .int 0, .int (-1)])), ((u 14), .inl (cS, 16, .inr (.inr (.inr (.inr (fun _ => none)))))), ((u 15), .inl (cI, 16, .inl (fun _ => 0))), ((u 16), .inl (cI, 16, .inl (fun _ => 0))), ((u 17), .inr (6, [.ref (u 18), .ref (u 22), .int 0, .int 0, .int 0])), ((u 18), .inr (1, [.ref (u 19), .ref (u 20), .ref (u 21), .int 0])), ((u 19), .inl (cI, 8, .inl (fun _ => 0))), ((u 20), .inl (cI, 8, .inl (fun _ => 0))), ((u 21), .inl (cI, 8, .inl (fun _ => 0))), ((u 22), .inr (2, [.ref (u 23), .ref (u 24), .ref (u 25), .int 0, .int 0, .int (-1)])), ((u 23), .inl (cS, 16, .inr (.inr (.inr (.inr (fun _ => none)))))), ((u 24), .inl (cI, 16, .inl (fun _ => 0))), ((u 25), .inl (cI, 16, .inl (fun _ => 0))), ((u 26), .inr (6, [.ref (u 27), .ref (u 31), .int 0, .int 0, .int 0])), ((u 27), .inr (1, [.ref (u 28), .ref (u 29), .ref (u 30), .int 0])), ((u 28), .inl (cI, 8, .inl (fun _ => 0))), ((u 29), .inl (cI, 8, .inl (fun _ => 0))), ((u 30), .inl (cI, 8, .inl (fun _ => 0))), ((u 31), .inr (2, [.ref (u 32), .ref (u 33), .ref (u 34), .int 0, .int 0, .int (-1)])), ((u 32), .inl (cS, 16, .inr (.inr (.inr (.inr (fun _ => none)))))), ((u 33), .inl (cI, 16, .inl (fun _ => 0))), ((u 34), .inl (cI, 16, .inl (fun _ => 0))), ((u 35), .inr (6, [.ref (u 36), .ref (u 40), .int 0, .int 0, .int 0])), ((u 36), .inr (1, [.ref (u 37), .ref (u 38), .ref (u 39), .int 0])), ((u 37), .inl (cI, 8, .inl (fun _ => 0))), ((u 38), .inl (cI, 8, .inl (fun _ => 0))), ((u 39), .inl (cI, 8, .inl (fun _ => 0))), ((u 40), .inr (2, [.ref (u 41), .ref (u 42), .ref (u 43), .int 0, .int 0, .int (-1)])), ((u 41), .inl (cS, 16, .inr (.inr (.inr (.inr (fun _ => none)))))), ((u 42), .inl (cI, 16, .inl (fun _ => 0))), ((u 43), .inl (cI, 16, .inl (fun _ => 0)))] := by
  rw [show newIds cnt 4 = [(3, cnt), (21, cnt), (22, cnt), (23, cnt), (11, 32 + cnt), (12, 32 + cnt), (13, 32 + cnt), (14, 32 + cnt), (15, cnt), (16, 4 * cnt + 0), (11, 4 * cnt + 0), (12, 4 * cnt + 0), (13, 4 * cnt + 0), (14, 4 * cnt + 0), (17, 4 * cnt + 0), (18, 4 * cnt + 0), (19, 4 * cnt + 0), (20, 4 * cnt + 0), (16, 4 * cnt + 1), (11, 4 * cnt + 1), (12, 4 * cnt + 1), (13, 4 * cnt + 1), (14, 4 * cnt + 1), (17, 4 * cnt + 1), (18, 4 * cnt + 1), (19, 4 * cnt + 1), (20, 4 * cnt + 1), (16, 4 * cnt + 2), (11, 4 * cnt + 2), (12, 4 * cnt + 2), (13, 4 * cnt + 2), (14, 4 * cnt + 2), (17, 4 * cnt + 2), (18, 4 * cnt + 2), (19, 4 * cnt + 2), (20, 4 * cnt + 2), (16, 4 * cnt + 3), (11, 4 * cnt + 3), (12, 4 * cnt + 3), (13, 4 * cnt + 3), (14, 4 * cnt + 3), (17, 4 * cnt + 3), (18, 4 * cnt + 3), (19, 4 * cnt + 3), (20, 4 * cnt + 3)] from rfl]
  simp only [mw, List.map_cons, List.map_nil]
  rw [nc3, nc21, nc22, nc23, nc11, nc12, nc13, nc14, nc15, wk_fun4 h8, nw16 (j := 0) h8 (by decide), nw11 (j := 0) h8 (by decide), nw12 (j := 0) h8 (by decide), nw13 (j := 0) h8 (by decide), nw14 (j := 0) h8 (by decide), nw17 (j := 0) h8 (by decide), nw18 (j := 0) h8 (by decide), nw19 (j := 0) h8 (by decide), nw20 (j := 0) h8 (by decide), nw16 (j := 1) h8 (by decide), nw11 (j := 1) h8 (by decide), nw12 (j := 1) h8 (by decide), nw13 (j := 1) h8 (by decide), nw14 (j := 1) h8 (by decide), nw17 (j := 1) h8 (by decide), nw18 (j := 1) h8 (by decide), nw19 (j := 1) h8 (by decide), nw20 (j := 1) h8 (by decide), nw16 (j := 2) h8 (by decide), nw11 (j := 2) h8 (by decide), nw12 (j := 2) h8 (by decide), nw13 (j := 2) h8 (by decide), nw14 (j := 2) h8 (by decide), nw17 (j := 2) h8 (by decide), nw18 (j := 2) h8 (by decide), nw19 (j := 2) h8 (by decide), nw20 (j := 2) h8 (by decide), nw16 (j := 3) h8 (by decide), nw11 (j := 3) h8 (by decide), nw12 (j := 3) h8 (by decide), nw13 (j := 3) h8 (by decide), nw14 (j := 3) h8 (by decide), nw17 (j := 3) h8 (by decide), nw18 (j := 3) h8 (by decide), nw19 (j := 3) h8 (by decide), nw20 (j := 3) h8 (by decide)]
end MADE2
