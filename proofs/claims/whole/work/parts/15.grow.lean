/-! the row of done events grows: Arrays.copyOf, and the field that takes the new row -/
theorem dJ7c_0 : decode cJ7_copyOf_59c91 0 = .ok (.iload_n 1, 1) := by decide +kernel
theorem dJ7c_1 : decode cJ7_copyOf_59c91 1 = .ok (.aload_n 0, 1) := by decide +kernel
theorem dJ7c_2 : decode cJ7_copyOf_59c91 2 = .ok (.arraylength, 1) := by decide +kernel
theorem dJ7c_3 : decode cJ7_copyOf_59c91 3 = .ok (.if_icmp .ne 11, 3) := by decide +kernel
theorem dJ7c_14 : decode cJ7_copyOf_59c91 14 = .ok (.iload_n 1, 1) := by decide +kernel
theorem dJ7c_15 : decode cJ7_copyOf_59c91 15 = .ok (.newarray .int, 2) := by decide +kernel
theorem dJ7c_17 : decode cJ7_copyOf_59c91 17 = .ok (.astore_n 2, 1) := by decide +kernel
theorem dJ7c_18 : decode cJ7_copyOf_59c91 18 = .ok (.aload_n 0, 1) := by decide +kernel
theorem dJ7c_19 : decode cJ7_copyOf_59c91 19 = .ok (.iconst 0, 1) := by decide +kernel
theorem dJ7c_20 : decode cJ7_copyOf_59c91 20 = .ok (.aload_n 2, 1) := by decide +kernel
theorem dJ7c_21 : decode cJ7_copyOf_59c91 21 = .ok (.iconst 0, 1) := by decide +kernel
theorem dJ7c_22 : decode cJ7_copyOf_59c91 22 = .ok (.aload_n 0, 1) := by decide +kernel
theorem dJ7c_23 : decode cJ7_copyOf_59c91 23 = .ok (.arraylength, 1) := by decide +kernel
theorem dJ7c_24 : decode cJ7_copyOf_59c91 24 = .ok (.iload_n 1, 1) := by decide +kernel
theorem dJ7c_25 : decode cJ7_copyOf_59c91 25 = .ok (.invokestatic 304, 3) := by decide +kernel
theorem dJ7c_28 : decode cJ7_copyOf_59c91 28 = .ok (.invokestatic 150, 3) := by decide +kernel
theorem dJ7c_31 : decode cJ7_copyOf_59c91 31 = .ok (.aload_n 2, 1) := by decide +kernel
theorem dJ7c_32 : decode cJ7_copyOf_59c91 32 = .ok (.areturn, 1) := by decide +kernel
theorem ar_one {U : State} {a b : ClassId} (h1 : va_RA U a .int) (h2 : va_RA U b .int) : a = b := Option.some.inj (h1.symm.trans h2)
set_option maxHeartbeats 4000000 in
set_option maxRecDepth 100000 in
theorem kJ7_copyOf (l : Launch) (dC : Nat → ClassId) (dI : Nat → Nat → Nat) (a0 sz n0 N : Nat) (cI : ClassId) (f : Nat → Int32) (x : Int32) (hx0 : x = Int32.ofNat N) (hlt : n0 < N) (hN : N ≤ 1048576) : Met l yJ7_copyOf_59c91 wsJ7_copyOf_59c91 ({ frames := 1, cells := 1, slots := N, locals := 50 } : Room) (va_Pc [.ref a0, .int x] (fun U => U.heap.size = sz ∧ va_P (dC, dI) vwCl [(a0, .inl (cI, n0, .inl f))] U.heap ∧ va_K (dC, dI) vwCl [(cI, .int)] U ∧ va_D (fun _ => True) [(a0, .inl (cI, n0, .inl f))])) (va_Qr (fun (_ : Unit) => True) (fun _ a t => va_P (dC, dI) vwCl [(a0, .inl (cI, n0, .inl f)), (a, .inl (cI, N, .inl (va_cpy f (fun _ => 0) 0 0 n0)))] t.heap ∧ va_D (va_A [(a0, .inl (cI, n0, .inl f))] sz) [(a0, .inl (cI, n0, .inl f)), (a, .inl (cI, N, .inl (va_cpy f (fun _ => 0) 0 0 n0)))]) (va_A [(a0, .inl (cI, n0, .inl f))] sz)) 1 N (va_A [(a0, .inl (cI, n0, .inl f))] sz) := by
  refine Met.ofW (cc := cJ7_copyOf_59c91) (maxL := 3) (ret := some (.array .int)) (by decide) rfl ?_
  intro p e s m args below meth cd s₁ B hml hv
  obtain ⟨rfl, hsz, hP, hK, hD0⟩ := hv
  have hx := B.exec
  have hb := B.bytes
  have hr := B.returns
  have hts := atoms_spec (ws := wsJ7_copyOf_59c91) B.pre
  have hown : s.vm.findClass RJ7 = some m.cls := findClass_of_methodNamed B.named
  have hlocks := B.notSynchronized
  subst hsz
  have hD := hD0.self (sz := s.heap.size)
  generalize hAe : va_A [(a0, .inl (cI, n0, .inl f))] s.heap.size = A at hD ⊢
  have hA : ∀ q : Nat, s.heap.size ≤ q → A q := fun q h => by rw [← hAe]; exact Or.inr h
  have hS : va_S A s.heap s.heap [] := va_S.rf
  have hx1 : ¬ x < 0 := by rw [hx0]; exact nI_pos (n := N) (by omega)
  have hx2 : x.toNatClampNeg = N := by rw [hx0]; exact nI_clamp (n := N) (by omega)
  have hx3 : ¬ x = Int32.ofNat n0 := by
    rw [hx0]
    exact fun h => absurd ((nI_eq (a := N) (b := n0) (by omega) (by omega)).mp h) (by omega)
  have hx4 : ¬ x < Int32.ofNat n0 := by rw [hx0]; exact nI_nlt (a := N) (b := n0) (by omega) (by omega)
  have hl := lv_entry ([.ref a0, .int x]) (n := 3) (Nat.le_of_ble_eq_true rfl)
  rw [lg_entry_eq]
  generalize (lg_sl ([.ref a0, .int x]) ++ List.replicate (3 - (lg_sl ([.ref a0, .int x])).length) Slot.unset).toArray = ls at hl ⊢
  have hl : lv_has ls 3 [(0, .ref a0), (1, .int x)] := hl
  refine lv_iload_n hx hb dJ7c_0 rfl (lv_at hl 1 rfl) ?_
  refine lv_aload_n hx hb dJ7c_1 rfl (lv_at hl 0 rfl) ?_
  refine va_alen (v := Int32.ofNat n0) hx hb hK hP 0 0 rfl rfl rfl dJ7c_2 ?_
  refine lv_icmp_ne (tgt := 14) hx hb dJ7c_3 (by decide) (fun c_1 => ?_) (fun c_1 => absurd c_1 hx3)
  refine lv_iload_n hx hb dJ7c_14 rfl (lv_at hl 1 rfl) ?_
  refine va_newa (atype := .int) (ty := .int) hx hb (hts (.arrayClass .int) (by decide +kernel)) rfl hK hP hD hS hA (a0 := (N, .inl (fun _ => 0))) (fun c9 => vp_cell_i c9 N (fun _ => 0)) hx1 hx2 (by show N * 4 ≤ _; omega) (Nat.le_of_ble_eq_true rfl) (show 0 + N ≤ N by omega) dJ7c_15 (fun q1 cA H hK9 hP hD hS => ?_)
  obtain rfl : cA = cI := ar_one (hK9.2 1 _ rfl).2 (hK.2 0 _ rfl).2
  have hP : va_P (dC, dI) vwCl [(a0, .inl (cA, n0, .inl f)), (q1, .inl (cA, N, .inl (fun _ => 0)))] H := hP
  have hD : va_D A [(a0, .inl (cA, n0, .inl f)), (q1, .inl (cA, N, .inl (fun _ => 0)))] := hD
  refine W.widen (k := 1) (n := N) (by omega) (by omega) ?_
  refine lv_astore_n (lv' := [(2, .ref q1), (0, .ref a0), (1, .int x)]) hx hb dJ7c_17 rfl hl (by decide) rfl (fun ls hl => ?_)
  refine lv_aload_n hx hb dJ7c_18 rfl (lv_at hl 1 rfl) ?_
  refine lv_iconst (v := 0) hx hb dJ7c_19 (by decide) ?_
  refine lv_aload_n hx hb dJ7c_20 rfl (lv_at hl 0 rfl) ?_
  refine lv_iconst (v := 0) hx hb dJ7c_21 (by decide) ?_
  refine lv_aload_n hx hb dJ7c_22 rfl (lv_at hl 1 rfl) ?_
  refine va_alen (v := Int32.ofNat n0) hx hb hK hP 0 0 rfl rfl rfl dJ7c_23 ?_
  refine lv_iload_n hx hb dJ7c_24 rfl (lv_at hl 2 rfl) ?_
  refine va_mmin hx hb (by rw [hml]; exact hl.1.symm) hown (hts (.methodLink RJ7 304 Lib.Math.min.name) (by decide +kernel)) (hts (.static Lib.Math.min.name) (by decide +kernel)) (hts (.initialized "java/lang/Math") (by decide +kernel)) (hts (.code Lib.Math.min.name Lib.Math.min.code 2 (some .int)) (by decide +kernel)) (Nat.le_of_ble_eq_true rfl) (Nat.le_of_ble_eq_true rfl) (Nat.le_of_ble_eq_true rfl) (Nat.le_refl N) dJ7c_25 ?_
  rw [if_neg hx4]
  have hc0 : (Int32.ofNat n0).toNatClampNeg = n0 := nI_clamp (n := n0) (by omega)
  have hcp : ¬ Int32.ofNat n0 < 0 := nI_pos (n := n0) (by omega)
  refine va_copyi (ty := .int) hx hb (by rw [hml]; exact hl.1.symm) hown (hts (.methodLink RJ7 150 arraycopyName) (by decide +kernel)) (hts (.native arraycopyName) (by decide +kernel)) (hts (.static arraycopyName) (by decide +kernel)) (hts (.initialized "java/lang/System") (by decide +kernel)) hK hP hD hS 0 1 0 0 rfl rfl rfl rfl rfl (by decide) (by decide) hcp (by rw [hc0]; show 0 + n0 ≤ n0; omega) (by rw [hc0]; show 0 + n0 ≤ N; omega) (fun _ _ => rfl) (Nat.le_of_ble_eq_true rfl) (Nat.le_of_ble_eq_true rfl) dJ7c_28 (fun H locs hP hD hS => ?_)
  rw [hc0] at hP hD
  have hP : va_P (dC, dI) vwCl [(a0, .inl (cA, n0, .inl f)), (q1, .inl (cA, N, .inl (va_cpy f (fun _ => 0) 0 0 n0)))] H := hP
  have hD : va_D A [(a0, .inl (cA, n0, .inl f)), (q1, .inl (cA, N, .inl (va_cpy f (fun _ => 0) 0 0 n0)))] := hD
  refine lv_aload_n hx hb dJ7c_31 rfl (lv_at hl 0 rfl) ?_
  exact W.aret hx hb hr (Or.inr ⟨_, rfl⟩) (Or.inr ⟨_, rfl⟩) (fun t9 ht9 hW9 => ⟨⟨(), q1, rfl, trivial, by rw [ht9]; exact hP, hD⟩, hS.F ht9⟩) hS.2.2 dJ7c_32
def g0 (c : Nat × Nat) : Nat × Nat := (2 * c.1, c.2)
def g1 (c : Nat × Nat) : Nat × Nat := (c.1, 2 * c.2)
def bgr0 (x : Int32) (c : Nat × Nat) : Bool := decide (x = Int32.ofNat (2 * c.1)) && (decide (64 ≤ c.1) && decide (c.1 ≤ 131072))
def bgr1 (x : Int32) (c : Nat × Nat) : Bool := decide (x = Int32.ofNat (2 * c.2)) && (decide (64 ≤ c.2) && decide (c.2 ≤ 131072))
theorem bgr0_in {x : Int32} {c : Nat × Nat} (h : bgr0 x c = true) : x = Int32.ofNat (2 * c.1) ∧ 64 ≤ c.1 ∧ c.1 ≤ 131072 := by simpa only [bgr0, Bool.and_eq_true, decide_eq_true_eq] using h
theorem bgr1_in {x : Int32} {c : Nat × Nat} (h : bgr1 x c = true) : x = Int32.ofNat (2 * c.2) ∧ 64 ≤ c.2 ∧ c.2 ≤ 131072 := by simpa only [bgr1, Bool.and_eq_true, decide_eq_true_eq] using h

set_option maxHeartbeats 4000000 in
set_option maxRecDepth 100000 in
theorem xx_grow0 {p : Program} {l : Launch} {e : Env} {R : Room} {s : State} {m : MethodId} {args : Array Value} {below : List Frame} {meth : Method} {cd : Code} {H : Heap} {locs : List Loc} {cells slots : Nat} {Q : State → Prop} {pc : Nat} {ls : Array Slot} {rest : List Value} {H0 : Heap} {dC : Nat → ClassId} {dI : Nat → Nat → Nat} {A : Nat → Prop} {ad : Nat → Nat → Nat} {cnt : Nat} {L : Nat → Nat → Nat} {cI cS cW : ClassId} {q : Nat × Nat} {V : mM} {c : Nat × Nat} {x : Int32}
    (hx : p.tables.exec = Jvm.exec) (hb : cd.code = cX0_append) (hml : cd.maxLocals = 3) (hls : ls.size = 3) (hown : s.vm.findClass RX0 = some m.cls) (hts : ∀ w ∈ wsX0_append, w.before args s = true) (inX0 : ∀ w ∈ u_ws RX0 TX0 3, w ∈ wsX0_append) (k9 : (Cond.fieldLink RX0 7 "StageDesk$DoneRow" "numbers" "[I").before args s = true)
    (hK : va_K (dC, dI) vwCl [(cI, .int), (cS, .object RX3), (cW, .object RX6)] s) (hM : mP (dC, dI) vwCl A (xad ad q) (xce cI cS cW ad q L c) (xex cnt L) V H) (hS : va_S A H0 H locs) (hAs : ∀ z : Nat, H0.size ≤ z → A z) (hg : bgr0 x c = true)
    (hR : 2 ≤ R.frames ∧ 72 ≤ R.locals) (hW : (rest.map fun v => v.category).sum + 1 ≤ 8) (hf : cells + 1 ≤ R.cells ∧ slots + 2 * c.1 ≤ R.slots) (hd1 : decode cX0_append pc = .ok (.invokestatic 20, 3)) (hd2 : decode cX0_append (pc + 3) = .ok (.putfield 7, 3))
    (kk : ∀ (a : Nat) (H1 : Heap) (locs1 : List Loc), mP (dC, dI) vwCl A (xad ad (a, q.2)) (xce cI cS cW ad (a, q.2) L (g0 c)) (xex cnt L) (mv V 0 0 (va_cpy (V 0 0) (fun _ => 0) 0 0 c.1)) H1 → va_S A H0 H1 locs1 → W p l e R s m args below meth cd H1 locs1 (cells + 1) (slots + 2 * c.1) Q (F0 m (pc + 3 + 3) ls rest)) : W p l e R s m args below meth cd H locs cells slots Q (F0 m pc ls (.int x :: .ref q.1 :: .ref (ad 10 0) :: rest)) := by
  obtain ⟨hg1, hg2, hg3⟩ := bgr0_in hg
  obtain ⟨os, hno, ho, hP, hD⟩ := hM
  obtain ⟨p0, hp0, hw0⟩ := mw_get (ad := xad ad q) (ce := xce cI cS cW ad q L c) (V := V) ((ho 0 0).mp xe0)
  obtain ⟨p1, hp1, hw1⟩ := mw_get (ad := xad ad q) (ce := xce cI cS cW ad q L c) (V := V) ((ho 10 0).mp xe10)
  have hw0 : (mw (xad ad q) (xce cI cS cW ad q L c) V os)[p0]? = some (q.1, .inl (cI, c.1, .inl (V 0 0))) := hw0
  have hw1 : (mw (xad ad q) (xce cI cS cW ad q L c) V os)[p1]? = some (ad 10 0, .inr (0, [.ref q.1, .ref q.2, .int (V 10 0 2)])) := hw1
  generalize hws : mw (xad ad q) (xce cI cS cW ad q L c) V os = ws at hP hD hw0 hw1
  have hP0 : va_P (dC, dI) vwCl [(q.1, .inl (cI, c.1, .inl (V 0 0)))] H := by
    intro j z hz
    match j, hz with
    | 0, hz => cases hz; exact hP p0 _ hw0
    | j + 1, hz => simp at hz
  have hD0 : va_D A [(q.1, .inl (cI, c.1, .inl (V 0 0)))] := by
    refine ⟨fun i j y z hi hj _ => ?_, fun j z hz => ?_⟩
    · match i, j, hi, hj with
      | 0, 0, _, _ => rfl
      | i + 1, _, hi, _ => simp at hi
      | 0, j + 1, _, hj => simp at hj
    · match j, hz with
      | 0, hz => cases hz; exact hD.2 p0 _ hw0
      | j + 1, hz => simp at hz
  have hF0 : ∀ z : Nat, va_A [(q.1, .inl (cI, c.1, .inl (V 0 0)))] H.size z → A z := by
    intro z hz
    rcases hz with ⟨j, e9, hz⟩ | hz
    · match j, hz with
      | 0, hz => cases hz; exact hD.2 p0 _ hw0
      | j + 1, hz => simp at hz
    · exact hAs z (Nat.le_trans hS.1 hz)
  have hK0 := hK.sub (tys' := [(cI, .int)]) [0] rfl
  have hS00 := hS.1
  refine va_callr (va_runS (As := [.ref q.1, .int x]) (rest := .ref (ad 10 0) :: rest) ⟨hx, hb, hml, hown, hts⟩ (kJ7_copyOf l dC dI q.1 H.size c.1 (2 * c.1) cI (V 0 0) x hg1 (by omega) (by omega)) (va_cwS 2 hts gX0_append_J7_copyOf_59c91 rfl rfl rfl (by decide +kernel) ⟨hR.1, by show 8 + (3 + 11) + 50 ≤ R.locals; exact hR.2⟩) ⟨fun a U g9 mk w9 => ⟨w9.1, w9.2.1, w9.2.2.1, va_K.moved (u := U) (U := U.calling g9 mk a) (Vm.Alike.refl U.vm) w9.2.2.2.1, w9.2.2.2.2⟩, fun U hU hWm => ⟨rfl, by rw [hU], by rw [hU]; exact hP0, va_K.moved hWm.alike hK0, hD0.weaken (fun _ _ _ _ => trivial)⟩⟩ rfl rfl hls rfl (lv_room (by rw [List.map_cons, List.sum_cons]; show 1 + _ ≤ 8; omega)) hd1 hf) hS (fun z _ h => hF0 z h) hF0 (fun _ a t9 H1 locs ht9 _ _ hB9 hz1 hk1 hS => ?_)
  obtain ⟨hP1, hD1⟩ := hB9
  rw [ht9] at hP1
  have ha : H.size ≤ a := by
    rcases hD1.2 1 _ rfl with ⟨j, e9, hz⟩ | hz
    · match j, hz with
      | 0, hz =>
        have e8 : q.1 = a := (Prod.mk.inj (Option.some.inj hz)).1
        exact absurd (hD1.1 0 1 _ _ rfl rfl e8) (by decide)
      | j + 1, hz => simp at hz
    · exact hz
  have hAa : A a := hAs a (Nat.le_trans hS00 ha)
  have hP2 : va_P (dC, dI) vwCl ws H1 := by
    intro j z hz
    by_cases hj : j = p0
    · subst hj
      rw [hw0] at hz
      cases hz
      exact hP1 0 _ rfl
    · refine (hP j z hz).kept (hk1 z.1 (hP j z hz).lt (fun hA9 => ?_))
      rcases hA9 with ⟨i, e9, hi⟩ | hi
      · match i, hi with
        | 0, hi =>
          have e8 : q.1 = z.1 := (Prod.mk.inj (Option.some.inj hi)).1
          exact hj (hD.1 j p0 _ _ hz hw0 e8.symm)
        | i + 1, hi => simp at hi
      · exact absurd ((hP j z hz).lt) (by omega)
  have hPa : va_P (dC, dI) vwCl (ws ++ [(a, .inl (cI, 2 * c.1, .inl (va_cpy (V 0 0) (fun _ => 0) 0 0 c.1)))]) H1 := hP2.app (by
    intro j z hz
    match j, hz with
    | 0, hz => cases hz; exact hP1 1 _ rfl
    | j + 1, hz => simp at hz)
  have hDa : va_D A (ws ++ [(a, .inl (cI, 2 * c.1, .inl (va_cpy (V 0 0) (fun _ => 0) 0 0 c.1)))]) := va_D.app hD (by
    refine ⟨fun i j y z hi hj _ => ?_, fun j z hz => ?_⟩
    · match i, j, hi, hj with
      | 0, 0, _, _ => rfl
      | i + 1, _, hi, _ => simp at hi
      | 0, j + 1, _, hj => simp at hj
    · match j, hz with
      | 0, hz => cases hz; exact hAa
      | j + 1, hz => simp at hz) (fun i j y z hi hj e9 => by
    match j, hj with
    | 0, hj =>
      cases hj
      have := (hP i y hi).lt
      omega
    | j + 1, hj => simp at hj)
  have hl1 : p1 < ws.length := (List.getElem?_eq_some_iff.mp hw1).1
  have hw1a : (ws ++ [(a, .inl (cI, 2 * c.1, .inl (va_cpy (V 0 0) (fun _ => 0) 0 0 c.1)))])[p1]? = some (ad 10 0, .inr (0, [.ref q.1, .ref q.2, .int (V 10 0 2)])) := by
    rw [List.getElem?_append_left hl1]
    exact hw1
  refine va_put (C := RX0) (T := TX0) (N := 3) (ci := 0) (ty := .array .int) (v := .ref a) hx hb hts inX0 tyX0 tyX0_ok nmX0 hown hK hPa hDa hS p1 hw1a rfl 0 (by decide) k9 (fun _ h9 => h9) rfl (by decide +kernel) rfl rfl (Nat.le_of_ble_eq_true rfl) hd2 (fun H2 locs2 hP hD hS => ?_)
  refine kk a H2 locs2 ⟨os, hno, ho, ?_⟩ hS
  -- the new world's cells are among those
  have key : ∀ (j : Nat) (z : Nat × va_E), (mw (xad ad (a, q.2)) (xce cI cS cW ad (a, q.2) L (g0 c)) (mv V 0 0 (va_cpy (V 0 0) (fun _ => 0) 0 0 c.1)) os)[j]? = some z → ∃ i : Nat, ((ws ++ [((a, .inl (cI, 2 * c.1, .inl (va_cpy (V 0 0) (fun _ => 0) 0 0 c.1))) : Nat × va_E)] : va_W).set p1 ((ad 10 0, .inr (0, ([.ref q.1, .ref q.2, .int (V 10 0 2)] : List Value).set 0 (.ref a))) : Nat × va_E))[i]? = some z ∧ (j = p0 → i = ws.length) ∧ (j ≠ p0 → i = j) := by
    intro j z hz
    have hzo : ∃ o9, os[j]? = some o9 ∧ (xad ad (a, q.2) o9.1 o9.2, xce cI cS cW ad (a, q.2) L (g0 c) o9.1 o9.2 (mv V 0 0 (va_cpy (V 0 0) (fun _ => 0) 0 0 c.1) o9.1 o9.2)) = z := by
      unfold mw at hz
      rw [List.getElem?_map] at hz
      cases ho9 : os[j]? with
      | none => rw [ho9] at hz; cases hz
      | some o9 => rw [ho9] at hz; exact ⟨o9, rfl, Option.some.inj hz⟩
    obtain ⟨⟨k', n'⟩, ho9, rfl⟩ := hzo
    have hex : xex cnt L k' n' := (ho k' n').mpr (List.mem_of_getElem? ho9)
    have hlj : j < ws.length := by
      rw [← hws]
      simp only [mw, List.length_map]
      exact (List.getElem?_eq_some_iff.mp ho9).1
    by_cases hj : j = p0
    · subst hj
      rw [hp0] at ho9
      cases ho9
      refine ⟨ws.length, ?_, fun _ => rfl, fun h => absurd rfl h⟩
      rw [List.getElem?_set_ne (by omega), List.getElem?_append_right (Nat.le_refl _), Nat.sub_self]
      have e7 : mv V 0 0 (va_cpy (V 0 0) (fun _ => 0) 0 0 c.1) 0 0 = va_cpy (V 0 0) (fun _ => 0) 0 0 c.1 := by unfold mv; rw [if_pos ⟨rfl, rfl⟩]
      rw [e7]
      rfl
    · refine ⟨j, ?_, fun h => absurd h hj, fun _ => rfl⟩
      have hne : ¬ (k' = 0 ∧ n' = 0) := by
        rintro ⟨rfl, rfl⟩
        exact hj ((List.getElem?_inj (List.getElem?_eq_some_iff.mp ho9).1 hno).mp (ho9.trans hp0.symm))
      have e6 : mv V 0 0 (va_cpy (V 0 0) (fun _ => 0) 0 0 c.1) k' n' = V k' n' := by unfold mv; rw [if_neg hne]
      rw [e6]
      by_cases hj1 : j = p1
      · subst hj1
        rw [hp1] at ho9
        cases ho9
        rw [List.getElem?_set_self (by rw [List.length_append]; omega)]
        rfl
      · rw [List.getElem?_set_ne (Ne.symm hj1), List.getElem?_append_left hlj, ← hws]
        have hne2 : ¬ (k' = 10 ∧ n' = 0) := by
          rintro ⟨rfl, rfl⟩
          exact hj1 ((List.getElem?_inj (List.getElem?_eq_some_iff.mp ho9).1 hno).mp (ho9.trans hp1.symm))
        unfold mw
        rw [List.getElem?_map, ho9]
        show some (xad ad q k' n', xce cI cS cW ad q L c k' n' (V k' n')) = _
        have hk0 : k' ≠ 0 := by
          rintro rfl
          exact hne ⟨rfl, hex⟩
        have hk10 : k' ≠ 10 := by
          rintro rfl
          exact hne2 ⟨rfl, hex⟩
        have e5 : xad ad q k' n' = xad ad (a, q.2) k' n' := by
          match k', hk0 with
          | 0, h => first | exact absurd rfl h | rfl
          | 1, h => first | exact absurd rfl h | rfl
          | k' + 2, _ => rfl
        have e4 : xce cI cS cW ad q L c k' n' (V k' n') = xce cI cS cW ad (a, q.2) L (g0 c) k' n' (V k' n') := by
          unfold xce
          split <;> first | rfl | exact absurd rfl hk0 | exact absurd rfl hk10
        rw [e5, e4]
  refine ⟨fun j z hz => ?_, fun i j y z hi hj e9 => ?_, fun j z hz => ?_⟩
  · obtain ⟨i, hi, -, -⟩ := key j z hz
    exact hP i z hi
  · obtain ⟨i2, hi2, g1, g2⟩ := key i y hi
    obtain ⟨j2, hj2, g3, g4⟩ := key j z hj
    have e2 := hD.1 i2 j2 y z hi2 hj2 e9
    have hli : i < ws.length := by
      rw [← hws]
      have := (List.getElem?_eq_some_iff.mp hi).1
      simpa only [mw, List.length_map] using this
    have hlj : j < ws.length := by
      rw [← hws]
      have := (List.getElem?_eq_some_iff.mp hj).1
      simpa only [mw, List.length_map] using this
    by_cases hi0 : i = p0 <;> by_cases hj0 : j = p0
    · omega
    · have := g1 hi0
      have := g4 hj0
      omega
    · have := g2 hi0
      have := g3 hj0
      omega
    · have := g2 hi0
      have := g4 hj0
      omega
  · obtain ⟨i, hi, -, -⟩ := key j z hz
    exact hD.2 i z hi
set_option maxHeartbeats 4000000 in
set_option maxRecDepth 100000 in
theorem xx_grow1 {p : Program} {l : Launch} {e : Env} {R : Room} {s : State} {m : MethodId} {args : Array Value} {below : List Frame} {meth : Method} {cd : Code} {H : Heap} {locs : List Loc} {cells slots : Nat} {Q : State → Prop} {pc : Nat} {ls : Array Slot} {rest : List Value} {H0 : Heap} {dC : Nat → ClassId} {dI : Nat → Nat → Nat} {A : Nat → Prop} {ad : Nat → Nat → Nat} {cnt : Nat} {L : Nat → Nat → Nat} {cI cS cW : ClassId} {q : Nat × Nat} {V : mM} {c : Nat × Nat} {x : Int32}
    (hx : p.tables.exec = Jvm.exec) (hb : cd.code = cX0_append) (hml : cd.maxLocals = 3) (hls : ls.size = 3) (hown : s.vm.findClass RX0 = some m.cls) (hts : ∀ w ∈ wsX0_append, w.before args s = true) (inX0 : ∀ w ∈ u_ws RX0 TX0 3, w ∈ wsX0_append) (k9 : (Cond.fieldLink RX0 13 "StageDesk$DoneRow" "values" "[I").before args s = true)
    (hK : va_K (dC, dI) vwCl [(cI, .int), (cS, .object RX3), (cW, .object RX6)] s) (hM : mP (dC, dI) vwCl A (xad ad q) (xce cI cS cW ad q L c) (xex cnt L) V H) (hS : va_S A H0 H locs) (hAs : ∀ z : Nat, H0.size ≤ z → A z) (hg : bgr1 x c = true)
    (hR : 2 ≤ R.frames ∧ 72 ≤ R.locals) (hW : (rest.map fun v => v.category).sum + 1 ≤ 8) (hf : cells + 1 ≤ R.cells ∧ slots + 2 * c.2 ≤ R.slots) (hd1 : decode cX0_append pc = .ok (.invokestatic 20, 3)) (hd2 : decode cX0_append (pc + 3) = .ok (.putfield 13, 3))
    (kk : ∀ (a : Nat) (H1 : Heap) (locs1 : List Loc), mP (dC, dI) vwCl A (xad ad (q.1, a)) (xce cI cS cW ad (q.1, a) L (g1 c)) (xex cnt L) (mv V 1 0 (va_cpy (V 1 0) (fun _ => 0) 0 0 c.2)) H1 → va_S A H0 H1 locs1 → W p l e R s m args below meth cd H1 locs1 (cells + 1) (slots + 2 * c.2) Q (F0 m (pc + 3 + 3) ls rest)) : W p l e R s m args below meth cd H locs cells slots Q (F0 m pc ls (.int x :: .ref q.2 :: .ref (ad 10 0) :: rest)) := by
  obtain ⟨hg1, hg2, hg3⟩ := bgr1_in hg
  obtain ⟨os, hno, ho, hP, hD⟩ := hM
  obtain ⟨p0, hp0, hw0⟩ := mw_get (ad := xad ad q) (ce := xce cI cS cW ad q L c) (V := V) ((ho 1 0).mp xe1)
  obtain ⟨p1, hp1, hw1⟩ := mw_get (ad := xad ad q) (ce := xce cI cS cW ad q L c) (V := V) ((ho 10 0).mp xe10)
  have hw0 : (mw (xad ad q) (xce cI cS cW ad q L c) V os)[p0]? = some (q.2, .inl (cI, c.2, .inl (V 1 0))) := hw0
  have hw1 : (mw (xad ad q) (xce cI cS cW ad q L c) V os)[p1]? = some (ad 10 0, .inr (0, [.ref q.1, .ref q.2, .int (V 10 0 2)])) := hw1
  generalize hws : mw (xad ad q) (xce cI cS cW ad q L c) V os = ws at hP hD hw0 hw1
  have hP0 : va_P (dC, dI) vwCl [(q.2, .inl (cI, c.2, .inl (V 1 0)))] H := by
    intro j z hz
    match j, hz with
    | 0, hz => cases hz; exact hP p0 _ hw0
    | j + 1, hz => simp at hz
  have hD0 : va_D A [(q.2, .inl (cI, c.2, .inl (V 1 0)))] := by
    refine ⟨fun i j y z hi hj _ => ?_, fun j z hz => ?_⟩
    · match i, j, hi, hj with
      | 0, 0, _, _ => rfl
      | i + 1, _, hi, _ => simp at hi
      | 0, j + 1, _, hj => simp at hj
    · match j, hz with
      | 0, hz => cases hz; exact hD.2 p0 _ hw0
      | j + 1, hz => simp at hz
  have hF0 : ∀ z : Nat, va_A [(q.2, .inl (cI, c.2, .inl (V 1 0)))] H.size z → A z := by
    intro z hz
    rcases hz with ⟨j, e9, hz⟩ | hz
    · match j, hz with
      | 0, hz => cases hz; exact hD.2 p0 _ hw0
      | j + 1, hz => simp at hz
    · exact hAs z (Nat.le_trans hS.1 hz)
  have hK0 := hK.sub (tys' := [(cI, .int)]) [0] rfl
  have hS00 := hS.1
  refine va_callr (va_runS (As := [.ref q.2, .int x]) (rest := .ref (ad 10 0) :: rest) ⟨hx, hb, hml, hown, hts⟩ (kJ7_copyOf l dC dI q.2 H.size c.2 (2 * c.2) cI (V 1 0) x hg1 (by omega) (by omega)) (va_cwS 2 hts gX0_append_J7_copyOf_59c91 rfl rfl rfl (by decide +kernel) ⟨hR.1, by show 8 + (3 + 11) + 50 ≤ R.locals; exact hR.2⟩) ⟨fun a U g9 mk w9 => ⟨w9.1, w9.2.1, w9.2.2.1, va_K.moved (u := U) (U := U.calling g9 mk a) (Vm.Alike.refl U.vm) w9.2.2.2.1, w9.2.2.2.2⟩, fun U hU hWm => ⟨rfl, by rw [hU], by rw [hU]; exact hP0, va_K.moved hWm.alike hK0, hD0.weaken (fun _ _ _ _ => trivial)⟩⟩ rfl rfl hls rfl (lv_room (by rw [List.map_cons, List.sum_cons]; show 1 + _ ≤ 8; omega)) hd1 hf) hS (fun z _ h => hF0 z h) hF0 (fun _ a t9 H1 locs ht9 _ _ hB9 hz1 hk1 hS => ?_)
  obtain ⟨hP1, hD1⟩ := hB9
  rw [ht9] at hP1
  have ha : H.size ≤ a := by
    rcases hD1.2 1 _ rfl with ⟨j, e9, hz⟩ | hz
    · match j, hz with
      | 0, hz =>
        have e8 : q.2 = a := (Prod.mk.inj (Option.some.inj hz)).1
        exact absurd (hD1.1 0 1 _ _ rfl rfl e8) (by decide)
      | j + 1, hz => simp at hz
    · exact hz
  have hAa : A a := hAs a (Nat.le_trans hS00 ha)
  have hP2 : va_P (dC, dI) vwCl ws H1 := by
    intro j z hz
    by_cases hj : j = p0
    · subst hj
      rw [hw0] at hz
      cases hz
      exact hP1 0 _ rfl
    · refine (hP j z hz).kept (hk1 z.1 (hP j z hz).lt (fun hA9 => ?_))
      rcases hA9 with ⟨i, e9, hi⟩ | hi
      · match i, hi with
        | 0, hi =>
          have e8 : q.2 = z.1 := (Prod.mk.inj (Option.some.inj hi)).1
          exact hj (hD.1 j p0 _ _ hz hw0 e8.symm)
        | i + 1, hi => simp at hi
      · exact absurd ((hP j z hz).lt) (by omega)
  have hPa : va_P (dC, dI) vwCl (ws ++ [(a, .inl (cI, 2 * c.2, .inl (va_cpy (V 1 0) (fun _ => 0) 0 0 c.2)))]) H1 := hP2.app (by
    intro j z hz
    match j, hz with
    | 0, hz => cases hz; exact hP1 1 _ rfl
    | j + 1, hz => simp at hz)
  have hDa : va_D A (ws ++ [(a, .inl (cI, 2 * c.2, .inl (va_cpy (V 1 0) (fun _ => 0) 0 0 c.2)))]) := va_D.app hD (by
    refine ⟨fun i j y z hi hj _ => ?_, fun j z hz => ?_⟩
    · match i, j, hi, hj with
      | 0, 0, _, _ => rfl
      | i + 1, _, hi, _ => simp at hi
      | 0, j + 1, _, hj => simp at hj
    · match j, hz with
      | 0, hz => cases hz; exact hAa
      | j + 1, hz => simp at hz) (fun i j y z hi hj e9 => by
    match j, hj with
    | 0, hj =>
      cases hj
      have := (hP i y hi).lt
      omega
    | j + 1, hj => simp at hj)
  have hl1 : p1 < ws.length := (List.getElem?_eq_some_iff.mp hw1).1
  have hw1a : (ws ++ [(a, .inl (cI, 2 * c.2, .inl (va_cpy (V 1 0) (fun _ => 0) 0 0 c.2)))])[p1]? = some (ad 10 0, .inr (0, [.ref q.1, .ref q.2, .int (V 10 0 2)])) := by
    rw [List.getElem?_append_left hl1]
    exact hw1
  refine va_put (C := RX0) (T := TX0) (N := 3) (ci := 0) (ty := .array .int) (v := .ref a) hx hb hts inX0 tyX0 tyX0_ok nmX0 hown hK hPa hDa hS p1 hw1a rfl 1 (by decide) k9 (fun _ h9 => h9) rfl (by decide +kernel) rfl rfl (Nat.le_of_ble_eq_true rfl) hd2 (fun H2 locs2 hP hD hS => ?_)
  refine kk a H2 locs2 ⟨os, hno, ho, ?_⟩ hS
  -- the new world's cells are among those
  have key : ∀ (j : Nat) (z : Nat × va_E), (mw (xad ad (q.1, a)) (xce cI cS cW ad (q.1, a) L (g1 c)) (mv V 1 0 (va_cpy (V 1 0) (fun _ => 0) 0 0 c.2)) os)[j]? = some z → ∃ i : Nat, ((ws ++ [((a, .inl (cI, 2 * c.2, .inl (va_cpy (V 1 0) (fun _ => 0) 0 0 c.2))) : Nat × va_E)] : va_W).set p1 ((ad 10 0, .inr (0, ([.ref q.1, .ref q.2, .int (V 10 0 2)] : List Value).set 1 (.ref a))) : Nat × va_E))[i]? = some z ∧ (j = p0 → i = ws.length) ∧ (j ≠ p0 → i = j) := by
    intro j z hz
    have hzo : ∃ o9, os[j]? = some o9 ∧ (xad ad (q.1, a) o9.1 o9.2, xce cI cS cW ad (q.1, a) L (g1 c) o9.1 o9.2 (mv V 1 0 (va_cpy (V 1 0) (fun _ => 0) 0 0 c.2) o9.1 o9.2)) = z := by
      unfold mw at hz
      rw [List.getElem?_map] at hz
      cases ho9 : os[j]? with
      | none => rw [ho9] at hz; cases hz
      | some o9 => rw [ho9] at hz; exact ⟨o9, rfl, Option.some.inj hz⟩
    obtain ⟨⟨k', n'⟩, ho9, rfl⟩ := hzo
    have hex : xex cnt L k' n' := (ho k' n').mpr (List.mem_of_getElem? ho9)
    have hlj : j < ws.length := by
      rw [← hws]
      simp only [mw, List.length_map]
      exact (List.getElem?_eq_some_iff.mp ho9).1
    by_cases hj : j = p0
    · subst hj
      rw [hp0] at ho9
      cases ho9
      refine ⟨ws.length, ?_, fun _ => rfl, fun h => absurd rfl h⟩
      rw [List.getElem?_set_ne (by omega), List.getElem?_append_right (Nat.le_refl _), Nat.sub_self]
      have e7 : mv V 1 0 (va_cpy (V 1 0) (fun _ => 0) 0 0 c.2) 1 0 = va_cpy (V 1 0) (fun _ => 0) 0 0 c.2 := by unfold mv; rw [if_pos ⟨rfl, rfl⟩]
      rw [e7]
      rfl
    · refine ⟨j, ?_, fun h => absurd h hj, fun _ => rfl⟩
      have hne : ¬ (k' = 1 ∧ n' = 0) := by
        rintro ⟨rfl, rfl⟩
        exact hj ((List.getElem?_inj (List.getElem?_eq_some_iff.mp ho9).1 hno).mp (ho9.trans hp0.symm))
      have e6 : mv V 1 0 (va_cpy (V 1 0) (fun _ => 0) 0 0 c.2) k' n' = V k' n' := by unfold mv; rw [if_neg hne]
      rw [e6]
      by_cases hj1 : j = p1
      · subst hj1
        rw [hp1] at ho9
        cases ho9
        rw [List.getElem?_set_self (by rw [List.length_append]; omega)]
        rfl
      · rw [List.getElem?_set_ne (Ne.symm hj1), List.getElem?_append_left hlj, ← hws]
        have hne2 : ¬ (k' = 10 ∧ n' = 0) := by
          rintro ⟨rfl, rfl⟩
          exact hj1 ((List.getElem?_inj (List.getElem?_eq_some_iff.mp ho9).1 hno).mp (ho9.trans hp1.symm))
        unfold mw
        rw [List.getElem?_map, ho9]
        show some (xad ad q k' n', xce cI cS cW ad q L c k' n' (V k' n')) = _
        have hk0 : k' ≠ 1 := by
          rintro rfl
          exact hne ⟨rfl, hex⟩
        have hk10 : k' ≠ 10 := by
          rintro rfl
          exact hne2 ⟨rfl, hex⟩
        have e5 : xad ad q k' n' = xad ad (q.1, a) k' n' := by
          match k', hk0 with
          | 0, h => first | exact absurd rfl h | rfl
          | 1, h => first | exact absurd rfl h | rfl
          | k' + 2, _ => rfl
        have e4 : xce cI cS cW ad q L c k' n' (V k' n') = xce cI cS cW ad (q.1, a) L (g1 c) k' n' (V k' n') := by
          unfold xce
          split <;> first | rfl | exact absurd rfl hk0 | exact absurd rfl hk10
        rw [e5, e4]
  refine ⟨fun j z hz => ?_, fun i j y z hi hj e9 => ?_, fun j z hz => ?_⟩
  · obtain ⟨i, hi, -, -⟩ := key j z hz
    exact hP i z hi
  · obtain ⟨i2, hi2, g1, g2⟩ := key i y hi
    obtain ⟨j2, hj2, g3, g4⟩ := key j z hj
    have e2 := hD.1 i2 j2 y z hi2 hj2 e9
    have hli : i < ws.length := by
      rw [← hws]
      have := (List.getElem?_eq_some_iff.mp hi).1
      simpa only [mw, List.length_map] using this
    have hlj : j < ws.length := by
      rw [← hws]
      have := (List.getElem?_eq_some_iff.mp hj).1
      simpa only [mw, List.length_map] using this
    by_cases hi0 : i = p0 <;> by_cases hj0 : j = p0
    · omega
    · have := g1 hi0
      have := g4 hj0
      omega
    · have := g2 hi0
      have := g3 hj0
      omega
    · have := g2 hi0
      have := g4 hj0
      omega
  · obtain ⟨i, hi, -, -⟩ := key j z hz
    exact hD.2 i z hi
