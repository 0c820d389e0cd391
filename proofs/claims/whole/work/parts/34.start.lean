/-! from the entry: the two objects, then the loop -/
def xa0 (h0 : Nat) (u : Nat → Nat) (k n : Nat) : Nat := match k with
  | 2 => h0
  | 4 => u 0
  | 5 => u 1
  | 6 => u 2
  | 7 => u 3
  | 8 => u 4
  | 9 => u 5
  | 10 => u 6
  | _ => n
def ma0 (h1 : Nat) (w : Nat → Nat) (k n : Nat) : Nat := match k with
  | 0 => h1
  | 3 => w 0
  | 4 => w 1
  | 6 => w 2
  | 9 => w 3
  | 10 => w 4
  | 11 => w 5
  | 12 => w 6
  | 13 => w 7
  | 14 => w 8
  | 15 => w 9
  | 16 => w 10
  | 17 => w 11
  | 18 => w 12
  | 19 => w 13
  | 20 => w 14
  | 21 => w 15
  | 22 => w 16
  | 23 => w 17
  | 24 => w 18
  | 25 => w 19
  | 26 => w 20
  | 27 => w 21
  | 28 => w 22
  | 29 => w 23
  | 30 => w 24
  | 31 => w 25
  | 32 => w 26
  | 33 => w 27
  | 34 => w 28
  | 35 => w 29
  | 36 => w 30
  | 37 => w 31
  | 38 => w 32
  | 39 => w 33
  | 40 => w 34
  | 41 => w 35
  | 42 => w 36
  | 45 => w 37
  | 46 => w 38
  | 47 => w 39
  | 48 => w 40
  | _ => n
theorem ex_x0 {k n : Nat} : xex 0 xL0 k n ↔ (k, n) ∈ ([(2, 0), (4, 0), (5, 0), (6, 0), (7, 0), (8, 0), (9, 0), (10, 0), (0, 0), (1, 0)] : List (Nat × Nat)) := by
  match k with
  | 0 => simp [xex]
  | 1 => simp [xex]
  | 2 => simp [xex]
  | 3 => simp [xex, rex, wex]
  | 4 => simp [xex]
  | 5 => simp [xex]
  | 6 => simp [xex]
  | 7 => simp [xex]
  | 8 => simp [xex]
  | 9 => simp [xex]
  | 10 => simp [xex]
  | 11 => simp [xex, rex, wex]
  | 12 => simp [xex, rex, wex]
  | 13 => simp [xex, rex, wex]
  | 14 => simp [xex, rex, wex]
  | 15 => simp [xex, rex, wex]
  | 16 => simp [xex, rex, wex]
  | 17 => simp [xex, rex, wex]
  | 18 => simp [xex, rex, wex]
  | 19 => simp [xex, rex, wex]
  | 20 => simp [xex, rex, wex]
  | 21 => simp [xex, rex, wex]
  | 22 => simp [xex, rex, wex]
  | 23 => simp [xex, rex, wex]
  | k + 24 =>
    show False ↔ _
    simp
theorem ex_m0 {k n : Nat} : mex k n ↔ (k, n) ∈ ([(0, 0), (3, 0), (4, 0), (6, 0), (9, 0), (10, 0), (11, 0), (12, 0), (13, 0), (14, 0), (15, 0), (16, 0), (17, 0), (18, 0), (19, 0), (20, 0), (21, 0), (22, 0), (23, 0), (24, 0), (25, 0), (26, 0), (27, 0), (28, 0), (29, 0), (30, 0), (31, 0), (32, 0), (33, 0), (34, 0), (35, 0), (36, 0), (37, 0), (38, 0), (39, 0), (40, 0), (41, 0), (42, 0), (45, 0), (46, 0), (47, 0), (48, 0)] : List (Nat × Nat)) := by
  unfold mex marr
  simp only [Bool.or_eq_true, beq_iff_eq, List.mem_cons, Prod.mk.injEq, List.not_mem_nil, or_false]
  constructor
  · rintro ⟨rfl, h⟩
    simpa using h
  · intro h
    have hn : n = 0 := by omega
    exact ⟨hn, by omega⟩
section START
variable {dC : Nat → ClassId} {dI : Nat → Nat → Nat} {A : Nat → Prop} {cI cS cW cZ : ClassId} {h0 h1 : Nat} {u w : Nat → Nat} {H : Heap}
set_option maxHeartbeats 4000000 in
set_option maxRecDepth 100000 in
theorem desk_eq : ([(h0, .inr (7, [.ref (u 0), .ref (u 1), .ref (u 6), .int 0, .int 0, .int 0, .int 0])), ((u 0), .inl (cS, 8, .inr (.inr (.inr (.inr (fun _ => none)))))), ((u 1), .inr (4, [.ref (u 2), .ref (u 3), .ref (u 4), .ref (u 5), .int 0, .int 0])), ((u 2), .inl (cI, 50, .inl (fun _ => 0))), ((u 3), .inl (cS, 50, .inr (.inr (.inr (.inr (fun _ => none)))))), ((u 4), .inl (cI, 50, .inl (fun _ => 0))), ((u 5), .inl (cI, 50, .inl (fun _ => 0))), ((u 6), .inr (0, [.ref (u 7), .ref (u 8), .int 0])), ((u 7), .inl (cI, 64, .inl (fun _ => 0))), ((u 8), .inl (cI, 64, .inl (fun _ => 0)))] : va_W) = mw (xad (xa0 h0 u) (u 7, u 8)) (xce cI cS cW (xa0 h0 u) (u 7, u 8) xL0 (64, 64)) xV0 [(2, 0), (4, 0), (5, 0), (6, 0), (7, 0), (8, 0), (9, 0), (10, 0), (0, 0), (1, 0)] := by
  rw [← rO_nil (f := xa0 h0 u)]
  rfl
set_option maxHeartbeats 4000000 in
set_option maxRecDepth 100000 in
theorem model_eq : ([(h1, .inr (8, [.int 0, .int 0, .ref (w 0), .ref (w 1), .int 0, .ref (w 2), .int 0, .int 0, .ref (w 3), .ref (w 4), .ref (w 5), .ref (w 6), .ref (w 7), .ref (w 8), .ref (w 9), .ref (w 10), .ref (w 11), .ref (w 12), .ref (w 13), .ref (w 14), .ref (w 15), .ref (w 16), .ref (w 17), .ref (w 18), .ref (w 19), .ref (w 20), .ref (w 21), .ref (w 22), .ref (w 23), .ref (w 24), .ref (w 25), .ref (w 26), .ref (w 27), .ref (w 28), .ref (w 29), .ref (w 30), .ref (w 31), .ref (w 32), .ref (w 33), .ref (w 34), .ref (w 35), .ref (w 36), .int 0, .int 0, .ref (w 37), .ref (w 38), .ref (w 39), .ref (w 40)])), ((w 0), .inl (cI, 124000, .inl (fun _ => 0))), ((w 1), .inl (cI, 124000, .inl (fun _ => 0))), ((w 2), .inl (cI, 103000, .inl (fun _ => 0))), ((w 3), .inl (cI, 8, .inl (fun _ => 0))), ((w 4), .inl (cI, 8, .inl (fun _ => 0))), ((w 5), .inl (cI, 8, .inl (fun _ => 0))), ((w 6), .inl (cI, 8, .inl (fun _ => 0))), ((w 7), .inl (cI, 8, .inl (fun _ => 0))), ((w 8), .inl (cI, 8, .inl (fun _ => 0))), ((w 9), .inl (cI, 8, .inl (fun _ => 0))), ((w 10), .inl (cI, 8, .inl (fun _ => 0))), ((w 11), .inl (cI, 8, .inl (fun _ => 0))), ((w 12), .inl (cI, 8, .inl (fun _ => 0))), ((w 13), .inl (cI, 8, .inl (fun _ => 0))), ((w 14), .inl (cI, 8, .inl (fun _ => 0))), ((w 15), .inl (cI, 8, .inl (fun _ => 0))), ((w 16), .inl (cZ, 8, .inl (fun _ => 0))), ((w 17), .inl (cI, 8, .inl (fun _ => 0))), ((w 18), .inl (cI, 8, .inl (fun _ => 0))), ((w 19), .inl (cI, 8, .inl (fun _ => 0))), ((w 20), .inl (cI, 8, .inl (fun _ => 0))), ((w 21), .inl (cI, 256, .inl (fun _ => 0))), ((w 22), .inl (cI, 8, .inl (fun _ => 0))), ((w 23), .inl (cI, 160, .inl (fun _ => 0))), ((w 24), .inl (cI, 20, .inl (fun _ => 0))), ((w 25), .inl (cI, 32, .inl (fun _ => 0))), ((w 26), .inl (cI, 256, .inl (fun _ => 0))), ((w 27), .inl (cI, 32, .inl (fun _ => 0))), ((w 28), .inl (cZ, 32, .inl (fun _ => 0))), ((w 29), .inl (cI, 32, .inl (fun _ => 0))), ((w 30), .inl (cI, 32, .inl (fun _ => 0))), ((w 31), .inl (cI, 512, .inl (fun _ => 0))), ((w 32), .inl (cI, 512, .inl (fun _ => 0))), ((w 33), .inl (cI, 512, .inl (fun _ => 0))), ((w 34), .inl (cI, 512, .inl (fun _ => 0))), ((w 35), .inl (cI, 32, .inl (fun _ => 0))), ((w 36), .inl (cI, 32, .inl (fun _ => 0))), ((w 37), .inl (cI, 50, .inl (fun _ => 0))), ((w 38), .inl (cI, 50, .inl (fun _ => 0))), ((w 39), .inl (cI, 50, .inl (fun _ => 0))), ((w 40), .inl (cI, 50, .inl (fun _ => 0)))] : va_W) = mw (ma0 h1 w) (mce cI cZ (ma0 h1 w)) mV0 [(0, 0), (3, 0), (4, 0), (6, 0), (9, 0), (10, 0), (11, 0), (12, 0), (13, 0), (14, 0), (15, 0), (16, 0), (17, 0), (18, 0), (19, 0), (20, 0), (21, 0), (22, 0), (23, 0), (24, 0), (25, 0), (26, 0), (27, 0), (28, 0), (29, 0), (30, 0), (31, 0), (32, 0), (33, 0), (34, 0), (35, 0), (36, 0), (37, 0), (38, 0), (39, 0), (40, 0), (41, 0), (42, 0), (45, 0), (46, 0), (47, 0), (48, 0)] := rfl
theorem mP_mk {D : va_G} {ad : Nat → Nat → Nat} {ce : mC} {ex : Nat → Nat → Prop} {V : mM} {ws : va_W} {os : List (Nat × Nat)} (he : ws = mw ad ce V os) (hex : ∀ k n, ex k n ↔ (k, n) ∈ os) (hP : va_P D vwCl ws H) (hD : va_D A ws) : mP D vwCl A ad ce ex V H := by
  subst he
  exact ⟨os, nodup_of_D hD, hex, hP, hD⟩
theorem mP_has {ad : Nat → Nat → Nat} {ce : mC} {ex : Nat → Nat → Prop} {V : mM} {ws : va_W} {os : List (Nat × Nat)} (he : ws = mw ad ce V os) (hex : ∀ k n, ex k n ↔ (k, n) ∈ os) {k n : Nat} (h : ex k n) : ∃ (i : Nat) (e : va_E), ws[i]? = some (ad k n, e) := by
  subst he
  obtain ⟨i, -, hi⟩ := mw_get (ad := ad) (ce := ce) (V := V) ((hex k n).mp h)
  exact ⟨i, _, hi⟩
end START
theorem sp_app {A0 : Nat → Prop} {D : va_G} {cl : List vw_C} {w1 w2 : va_W} {H : Heap} (hP : va_P D cl (w1 ++ w2) H) (hD : va_D A0 (w1 ++ w2)) : (va_P D cl w1 H ∧ va_D A0 w1) ∧ (va_P D cl w2 H ∧ va_D A0 w2) ∧ ∀ (i j : Nat) (x y : Nat × va_E), w1[i]? = some x → w2[j]? = some y → x.1 ≠ y.1 := by
  have l1 : ∀ (i : Nat) (x : Nat × va_E), w1[i]? = some x → (w1 ++ w2)[i]? = some x := fun i x h => by
    rw [List.getElem?_append_left (List.getElem?_eq_some_iff.mp h).1]; exact h
  have l2 : ∀ (j : Nat) (y : Nat × va_E), w2[j]? = some y → (w1 ++ w2)[w1.length + j]? = some y := fun j y h => by
    rw [List.getElem?_append_right (by omega), Nat.add_sub_cancel_left]; exact h
  refine ⟨⟨fun k q h => hP k q (l1 k q h), fun i j x y hi hj e9 => hD.1 i j x y (l1 i x hi) (l1 j y hj) e9, fun k q h => hD.2 k q (l1 k q h)⟩, ⟨fun k q h => hP _ q (l2 k q h), fun i j x y hi hj e9 => ?_, fun k q h => hD.2 _ q (l2 k q h)⟩, fun i j x y hi hj e9 => ?_⟩
  · have := hD.1 _ _ x y (l2 i x hi) (l2 j y hj) e9
    omega
  · have := hD.1 _ _ x y (l1 i x hi) (l2 j y hj) e9
    have := (List.getElem?_eq_some_iff.mp hi).1
    omega
theorem arr_p {s : State} {args : Array Value} {t : FieldType} (ht : t = .int ∨ t = .boolean) (h : (Cond.arrayClass t).before args s = true) : ∃ cA : ClassId, ArrOfT s cA t ∧ va_RA s cA t := by
  obtain ⟨cA, kA, comp, h1, h2, h3⟩ := Cond.arrayClass_spec h
  refine ⟨cA, fun n z => ⟨fun k h => (by cases h), kA, h2, comp, h3⟩, ?_⟩
  rcases ht with rfl | rfl <;> exact h1
theorem arr_o {s : State} {C : String} (h : va_AO C s) : ∃ cA : ClassId, ArrOfT s cA (.object C) ∧ va_RA s cA (.object C) := by
  obtain ⟨comp, cA, kA, h1, -, h3, h4, h5⟩ := Cond.arrayOver_spec h
  exact ⟨cA, fun n z => ⟨fun k h => (by cases h), kA, h3, comp, h4⟩, kA, comp, h3, h4, h1, h5⟩

set_option maxHeartbeats 8000000 in
set_option maxRecDepth 100000 in
theorem whole_start_open {R : RelT} (s_stage : sim_stage R) (s_targets : sim_targets R) (s_admit : sim_admit R) (s_put : sim_put R) (s_prepare : sim_prepare R) (s_commit : sim_commit R) (s_abort : sim_abort R) (s_timer : sim_timer R) (s_cancel : sim_cancel R) (s_close : sim_close R) (s_tick : sim_tick R) (s_told : sim_told R) (s_queued : sim_queued R) (s_worker : sim_worker R) (s_done : sim_done R) (s_value : sim_value R) (s_events : sim_events R) (s_ended : sim_ended R) (s_lost : sim_lost R) (s_clock : sim_clock R) (s_skip : sim_skip R) (s_has : sim_has R) (s_init : sim_init R) {p : Program} {e : Env} {s : State} {m : MethodId} {below : List Frame} {meth : Method} {c : Code} (l : Launch) {b L : Nat} {xs : Nat → Int32} (hL : L ≤ 2560) (C0 : lw_At p s m meth c b L xs) : W p l e room_1 s m #[Value.ref b] below meth c s.heap [] 0 0 (lw_Z below #[Value.ref b] s) (entryFrame m ([Value.ref b] : List Value).toArray 4) := by
  obtain ⟨hx, hb, hr, hml, hown, hts0, hX, hbl, hlocks, hgv⟩ := id C0
  have hts := fun w h => hts0 w (wsL_law_in w h)
  have hown : s.vm.findClass RL = some m.cls := hown
  have hA : ∀ z : Nat, s.heap.size ≤ z → (fun z : Nat => s.heap.size ≤ z) z := fun _ h => h
  obtain ⟨c0, iS0, hKn0⟩ := u_known (C := RX0) (T := TX0) (N := 3) (n := 3) hts0 inX0 (hts (.instantiable RX0 3) (by decide +kernel))
  obtain ⟨c1, iS1, hKn1⟩ := u_known (C := RX1) (T := TX1) (N := 4) (n := 4) hts0 inX1 (hts (.instantiable RX1 4) (by decide +kernel))
  obtain ⟨c2, iS2, hKn2⟩ := u_known (C := RX2) (T := TX2) (N := 6) (n := 6) hts0 inX2 (hts (.instantiable RX2 6) (by decide +kernel))
  obtain ⟨c3, iS3, hKn3⟩ := u_known (C := RX3) (T := TX3) (N := 19) (n := 19) hts0 inX3 (hts (.instantiable RX3 19) (by decide +kernel))
  obtain ⟨c4, iS4, hKn4⟩ := u_known (C := RX4) (T := TX4) (N := 6) (n := 6) hts0 inX4 (hts (.instantiable RX4 6) (by decide +kernel))
  obtain ⟨c5, iS5, hKn5⟩ := u_known (C := RX5) (T := TX5) (N := 3) (n := 3) hts0 inX5 (hts (.instantiable RX5 3) (by decide +kernel))
  obtain ⟨c6, iS6, hKn6⟩ := u_known (C := RX6) (T := TX6) (N := 5) (n := 5) hts0 inX6 (hts (.instantiable RX6 5) (by decide +kernel))
  obtain ⟨c7, iS7, hKn7⟩ := u_known (C := RX7) (T := TX7) (N := 7) (n := 7) hts0 inX7 (hts (.instantiable RX7 7) (by decide +kernel))
  obtain ⟨c8, iS8, hKn8⟩ := u_known (C := RX8) (T := TX8) (N := 48) (n := 48) hts0 inX8 (hts (.instantiable RX8 48) (by decide +kernel))
  obtain ⟨dC, dI, hKc⟩ : ∃ (dC : Nat → ClassId) (dI : Nat → Nat → Nat), ∀ (k : Nat) (q : vw_C), vwCl[k]? = some q → u_Kn s q.1 q.2.1 q.2.2 (dC k) (dI k) := by
    refine ⟨fun k => match k with
      | 0 => c0
      | 1 => c1
      | 2 => c2
      | 3 => c3
      | 4 => c4
      | 5 => c5
      | 6 => c6
      | 7 => c7
      | _ => c8, fun k => match k with
      | 0 => iS0
      | 1 => iS1
      | 2 => iS2
      | 3 => iS3
      | 4 => iS4
      | 5 => iS5
      | 6 => iS6
      | 7 => iS7
      | _ => iS8, ?_⟩
    intro k q hq
    match k, hq with
    | 0, hq => cases hq; exact hKn0
    | 1, hq => cases hq; exact hKn1
    | 2, hq => cases hq; exact hKn2
    | 3, hq => cases hq; exact hKn3
    | 4, hq => cases hq; exact hKn4
    | 5, hq => cases hq; exact hKn5
    | 6, hq => cases hq; exact hKn6
    | 7, hq => cases hq; exact hKn7
    | 8, hq => cases hq; exact hKn8
    | k + 9, hq => simp [vwCl] at hq
  have hN : iNw s := ⟨va_AO.of (hts0 (.arrayOver (.object RX3)) (by decide +kernel)), va_AO.of (hts0 (.arrayOver (.object RX6)) (by decide +kernel)), va_Nw.of rfl (hts0 (.methodLinkNest RX7 17 yX4_init "StageDesk") (by decide +kernel)), va_Nw.of rfl (hts0 (.methodLinkNest RX7 24 yX0_init "StageDesk") (by decide +kernel)), va_Nw.of rfl (hts0 (.methodLinkNest RX3 11 yX5_init "StageDesk") (by decide +kernel)), va_Nw.of rfl (hts0 (.methodLinkNest RX3 58 yX6_init "StageDesk") (by decide +kernel)), va_Nw.of rfl (hts0 (.methodLinkNest RX6 22 yX2_init "StageDesk") (by decide +kernel))⟩
  obtain ⟨cI, hI⟩ := arr_p (t := .int) (Or.inl rfl) (hts (.arrayClass .int) (by decide +kernel))
  obtain ⟨cZ, hZ⟩ := arr_p (t := .boolean) (Or.inr rfl) (hts (.arrayClass .boolean) (by decide +kernel))
  obtain ⟨cS, hSt⟩ := arr_o hN.1
  obtain ⟨cW, hWk⟩ := arr_o hN.2.1
  have hKx : va_K (dC, dI) vwCl [(cI, .int), (cS, .object RX3), (cW, .object RX6)] s := ⟨hKc, fun k q h => by
    match k, h with
    | 0, h => cases h; exact hI
    | 1, h => cases h; exact hSt
    | 2, h => cases h; exact hWk
    | k + 3, h => simp at h⟩
  have hKm : va_K (dC, dI) vwCl [(cI, .int), (cZ, .boolean)] s := ⟨hKc, fun k q h => by
    match k, h with
    | 0, h => cases h; exact hI
    | 1, h => cases h; exact hZ
    | k + 2, h => simp at h⟩
  have hS : va_S (fun z : Nat => s.heap.size ≤ z) s.heap s.heap [] := va_S.rf
  have hP : va_P (dC, dI) vwCl [] s.heap := fun k q h => by simp at h
  have hD : va_D (fun z : Nat => s.heap.size ≤ z) [] := ⟨fun i j p q h => by simp at h, fun k q h => by simp at h⟩
  have hl := lv_entry ([.ref b]) (n := 4) (Nat.le_of_ble_eq_true rfl)
  rw [lg_entry_eq]
  generalize (lg_sl ([.ref b]) ++ List.replicate (4 - (lg_sl ([.ref b])).length) Slot.unset).toArray = ls at hl ⊢
  have hl : lv_has ls 4 [(0, .ref b)] := hl
  refine va_new (ci := 7) (fs := [.null, .null, .null, .int 0, .int 0, .int 0, .int 0]) (C := RX7) (T := TX7) (N := 7) hx hb hts0 inX7 tyX7 tyX7_ok hown (hts (.classLink RL 7 RX7) (by decide +kernel)) (hts (.instantiable RX7 7) (by decide +kernel)) (hts (.initialized RX7) (by decide +kernel)) hKx hP hD hS hA rfl (fun j hj => by rcases (show j = 0 ∨ j = 1 ∨ j = 2 ∨ j = 3 ∨ j = 4 ∨ j = 5 ∨ j = 6 by omega) with rfl | rfl | rfl | rfl | rfl | rfl | rfl <;> rfl) (Nat.le_of_ble_eq_true rfl) (Nat.le_of_ble_eq_true rfl) dL_law_0 (fun h0 H hP hD hS => ?_)
  refine lv_dup hx hb dL_law_3 rfl ?_
  obtain ⟨hPc, hDc⟩ := sp_last hP hD
  have hFx : ∀ z : Nat, va_A [(h0, .inr (7, [.null, .null, .null, .int 0, .int 0, .int 0, .int 0]))] H.size z → s.heap.size ≤ z := by
    have hS0 := hS.1
    intro z hz
    rcases hz with ⟨j, e9, hz⟩ | hz
    · match j, hz with
      | 0, hz => cases hz; exact hDc.2 0 _ rfl
      | j + 1, hz => simp at hz
    · omega
  refine va_callv (va_runI (As := []) (rest := [.ref h0]) ⟨hx, hb, hml, hown, hts⟩ (kX7_init l dC dI h0 H.size cI cS cW) (cwI 0 hts gL_law_X7_init rfl rfl rfl (hts (.initialized RX7) (by decide +kernel)) (hts (.methodLink RL 9 yX7_init) (by decide +kernel)) (hts (.instanceMethod yX7_init) (by decide +kernel)) rfl (by decide +kernel) ⟨Nat.le_of_ble_eq_true rfl, Nat.le_of_ble_eq_true rfl⟩) ⟨fun a U g9 mk w9 => ⟨w9.1, iPc_calling w9.2⟩, fun U hU hWm => ⟨rfl, iPc_of hPc hDc hKx hN hU hWm⟩⟩ rfl rfl hl.1 rfl (lv_room (Nat.le_of_ble_eq_true rfl)) dL_law_4 ⟨(show 0 + 1 + 9 ≤ 600000 from by omega), (show 0 + 7 + (345) ≤ 7302250 from by omega)⟩) hS (fun z _ h => hFx z h) hFx (fun u t9 H1 locs ht9 hvm9 _ hB9 hz1 hk1 hS => ?_)
  obtain ⟨hP1, hD1⟩ := hB9
  rw [ht9] at hP1
  obtain ⟨hP, hD⟩ := jn_last hP hD hk1 hFx hP1 hD1
  generalize H1 = H at hP hS ⊢
  refine lv_astore_n (lv' := [(1, .ref h0), (0, .ref b)]) hx hb dL_law_7 rfl hl (by decide) rfl (fun ls hl => ?_)
  refine va_new (ci := 8) (fs := [.int 0, .int 0, .null, .null, .int 0, .null, .int 0, .int 0, .null, .null, .null, .null, .null, .null, .null, .null, .null, .null, .null, .null, .null, .null, .null, .null, .null, .null, .null, .null, .null, .null, .null, .null, .null, .null, .null, .null, .null, .null, .null, .null, .null, .null, .int 0, .int 0, .null, .null, .null, .null]) (C := RX8) (T := TX8) (N := 48) hx hb hts0 inX8 tyX8 tyX8_ok hown (hts (.classLink RL 10 RX8) (by decide +kernel)) (hts (.instantiable RX8 48) (by decide +kernel)) (hts (.initialized RX8) (by decide +kernel)) hKm hP hD hS hA rfl (fun j hj => by rcases (show j = 0 ∨ j = 1 ∨ j = 2 ∨ j = 3 ∨ j = 4 ∨ j = 5 ∨ j = 6 ∨ j = 7 ∨ j = 8 ∨ j = 9 ∨ j = 10 ∨ j = 11 ∨ j = 12 ∨ j = 13 ∨ j = 14 ∨ j = 15 ∨ j = 16 ∨ j = 17 ∨ j = 18 ∨ j = 19 ∨ j = 20 ∨ j = 21 ∨ j = 22 ∨ j = 23 ∨ j = 24 ∨ j = 25 ∨ j = 26 ∨ j = 27 ∨ j = 28 ∨ j = 29 ∨ j = 30 ∨ j = 31 ∨ j = 32 ∨ j = 33 ∨ j = 34 ∨ j = 35 ∨ j = 36 ∨ j = 37 ∨ j = 38 ∨ j = 39 ∨ j = 40 ∨ j = 41 ∨ j = 42 ∨ j = 43 ∨ j = 44 ∨ j = 45 ∨ j = 46 ∨ j = 47 by omega) with rfl | rfl | rfl | rfl | rfl | rfl | rfl | rfl | rfl | rfl | rfl | rfl | rfl | rfl | rfl | rfl | rfl | rfl | rfl | rfl | rfl | rfl | rfl | rfl | rfl | rfl | rfl | rfl | rfl | rfl | rfl | rfl | rfl | rfl | rfl | rfl | rfl | rfl | rfl | rfl | rfl | rfl | rfl | rfl | rfl | rfl | rfl | rfl <;> rfl) (show 0 + 1 + 9 + 1 ≤ 600000 from by omega) (show 0 + 7 + (345) + 48 ≤ 7302250 from by omega) dL_law_8 (fun h1 H hP hD hS => ?_)
  refine lv_dup hx hb dL_law_11 rfl ?_
  obtain ⟨hPc, hDc⟩ := sp_last hP hD
  have hFm : ∀ z : Nat, va_A [(h1, .inr (8, [.int 0, .int 0, .null, .null, .int 0, .null, .int 0, .int 0, .null, .null, .null, .null, .null, .null, .null, .null, .null, .null, .null, .null, .null, .null, .null, .null, .null, .null, .null, .null, .null, .null, .null, .null, .null, .null, .null, .null, .null, .null, .null, .null, .null, .null, .int 0, .int 0, .null, .null, .null, .null]))] H.size z → s.heap.size ≤ z := by
    have hS0 := hS.1
    intro z hz
    rcases hz with ⟨j, e9, hz⟩ | hz
    · match j, hz with
      | 0, hz => cases hz; exact hDc.2 0 _ rfl
      | j + 1, hz => simp at hz
    · omega
  refine va_callv (va_runI (As := []) (rest := [.ref h1]) ⟨hx, hb, hml, hown, hts⟩ (kX8_init l dC dI h1 H.size cI cZ) (cwI 0 hts gL_law_X8_init rfl rfl rfl (hts (.initialized RX8) (by decide +kernel)) (hts (.methodLink RL 12 yX8_init) (by decide +kernel)) (hts (.instanceMethod yX8_init) (by decide +kernel)) rfl (by decide +kernel) ⟨Nat.le_of_ble_eq_true rfl, Nat.le_of_ble_eq_true rfl⟩) ⟨fun a U g9 mk w9 => ⟨w9.1, w9.2.1, w9.2.2.1, va_K.moved (u := U) (U := U.calling g9 mk a) (Vm.Alike.refl U.vm) w9.2.2.2.1, w9.2.2.2.2⟩, fun U hU hWm => ⟨rfl, by rw [hU], by rw [hU]; exact hPc, va_K.moved hWm.alike hKm, hDc.weaken (fun _ _ _ _ => trivial)⟩⟩ rfl rfl hl.1 rfl (lv_room (Nat.le_of_ble_eq_true rfl)) dL_law_12 ⟨(show 0 + 1 + 9 + 1 + 41 ≤ 600000 from by omega), (show 0 + 7 + (345) + 48 + (354316) ≤ 7302250 from by omega)⟩) hS (fun z _ h => hFm z h) hFm (fun w t9 H1 locs ht9 hvm9 _ hB9 hz1 hk1 hS => ?_)
  obtain ⟨hP1, hD1⟩ := hB9
  rw [ht9] at hP1
  obtain ⟨hP, hD⟩ := jn_last hP hD hk1 hFm hP1 hD1
  generalize H1 = H at hP hS ⊢
  obtain ⟨⟨hPx, hDx⟩, ⟨hPm, hDm⟩, hdis⟩ := sp_app hP hD
  have hMx0 := mP_mk (desk_eq (cW := cW)) (fun _ _ => ex_x0) hPx hDx
  have hMm0 := mP_mk model_eq (fun _ _ => ex_m0) hPm hDm
  have ham : ∀ k n, mex k n → s.heap.size ≤ ma0 h1 w k n := fun k n hk => (mP_ad hMm0 hk).1
  have hMm := mP_w (A2 := Am (ma0 h1 w)) (fun k n hk => ⟨k, n, hk, rfl⟩) hMm0
  have hMx := mP_w (A2 := Ax s (ma0 h1 w)) (fun k n hk => ⟨(mP_ad hMx0 hk).1, fun k2 n2 hk2 e9 => by
    obtain ⟨i, e1, hi⟩ := mP_has (desk_eq (cI := cI) (cS := cS) (cW := cW)) (fun _ _ => ex_x0) hk
    obtain ⟨j, e2, hj⟩ := mP_has (model_eq (cI := cI) (cZ := cZ)) (fun _ _ => ex_m0) hk2
    exact hdis i j _ _ hi hj e9.symm⟩) hMx0
  refine lv_astore_n (lv' := [(2, .ref h1), (1, .ref h0), (0, .ref b)]) hx hb dL_law_15 rfl hl (by decide) rfl (fun ls hl => ?_)
  refine lv_iconst (v := 0) hx hb dL_law_16 (by decide) ?_
  refine lv_istore_n (lv' := [(3, .int 0), (2, .ref h1), (1, .ref h0), (0, .ref b)]) hx hb dL_law_17 rfl hl (by decide) rfl (fun ls hl => ?_)
  refine W.widen (k := (100 + 45 * 0 + ((64 : Nat) + 64) / 64)) (n := (400000 + 600 * 0 + 2 * ((64 : Nat) + 64))) (by omega) (by omega) ?_
  exact law_loop_open s_stage s_targets s_admit s_put s_prepare s_commit s_abort s_timer s_cancel s_close s_tick s_told s_queued s_worker s_done s_value s_events s_ended s_lost s_clock s_skip s_has l hL C0 hKx hKm hN ham (L + 1) 0 (by omega) (xa0 h0 u) 0 xL0 (u 7, u 8) xV0 (64, 64) mV0 H _ ls s_init (by omega) hMx (fun k n t h9 => by unfold xV0; rw [if_pos h9]; exact okS_null) hMm hS (lv_sub hl [3, 2, 1, 0] rfl)
