/-! constructors: worlds as lists of cells -/
def iNw (U : State) : Prop := va_AO RX3 U ∧ va_AO RX6 U ∧ va_Nw (.methodLinkNest RX7 17 yX4_init "StageDesk") U ∧ va_Nw (.methodLinkNest RX7 24 yX0_init "StageDesk") U ∧ va_Nw (.methodLinkNest RX3 11 yX5_init "StageDesk") U ∧ va_Nw (.methodLinkNest RX3 58 yX6_init "StageDesk") U ∧ va_Nw (.methodLinkNest RX6 22 yX2_init "StageDesk") U
theorem iNw.warm {s U : State} (hW : s.WarmedH U.vm) (h : iNw s) : iNw U := ⟨h.1.moved hW.alike, h.2.1.moved hW.alike, h.2.2.1.warmM hW, h.2.2.2.1.warmM hW, h.2.2.2.2.1.warmM hW, h.2.2.2.2.2.1.warmM hW, h.2.2.2.2.2.2.warmM hW⟩
theorem iNw.calling {U : State} {g : JFrame} {mk : MethodId} {a : Array Value} (h : iNw U) : iNw (U.calling g mk a) := ⟨h.1.moved (Vm.Alike.refl U.vm), h.2.1.moved (Vm.Alike.refl U.vm), h.2.2.1.same rfl rfl, h.2.2.2.1.same rfl rfl, h.2.2.2.2.1.same rfl rfl, h.2.2.2.2.2.1.same rfl rfl, h.2.2.2.2.2.2.same rfl rfl⟩
abbrev iTy (cI cS cW : ClassId) : List (ClassId × FieldType) := [(cI, .int), (cS, .object RX3), (cW, .object RX6)]
def iPc (dC : Nat → ClassId) (dI : Nat → Nat → Nat) (cI cS cW : ClassId) (sz : Nat) (ws : va_W) (U : State) : Prop := U.heap.size = sz ∧ va_P (dC, dI) vwCl ws U.heap ∧ va_K (dC, dI) vwCl (iTy cI cS cW) U ∧ va_D (fun _ => True) ws ∧ iNw U
theorem iPc_calling {dC : Nat → ClassId} {dI : Nat → Nat → Nat} {cI cS cW : ClassId} {sz : Nat} {ws : va_W} {U : State} {g : JFrame} {mk : MethodId} {a : Array Value} (h : iPc dC dI cI cS cW sz ws U) : iPc dC dI cI cS cW sz ws (U.calling g mk a) := ⟨h.1, h.2.1, va_K.moved (u := U) (U := U.calling g mk a) (Vm.Alike.refl U.vm) h.2.2.1, h.2.2.2.1, h.2.2.2.2.calling⟩
theorem iPc_of {dC : Nat → ClassId} {dI : Nat → Nat → Nat} {cI cS cW : ClassId} {ws : va_W} {s U : State} {H : Heap} {A : Nat → Prop} (hP : va_P (dC, dI) vwCl ws H) (hD : va_D A ws) (hK : va_K (dC, dI) vwCl (iTy cI cS cW) s) (hN : iNw s) (hU : U.heap = H) (hW : s.WarmedH U.vm) : iPc dC dI cI cS cW H.size ws U := ⟨by rw [hU], by rw [hU]; exact hP, va_K.moved hW.alike hK, hD.weaken (fun _ _ _ _ => trivial), hN.warm hW⟩
theorem arr_one {U : State} {a b : ClassId} {t : FieldType} (h1 : va_RA U a t) (h2 : va_RA U b t) (ht : t = .int ∨ t = .boolean) : a = b := by
  rcases ht with rfl | rfl <;> exact Option.some.inj (h1.symm.trans h2)
theorem arr_oneO {U : State} {a b : ClassId} {C : String} (h1 : va_RA U a (.object C)) (h2 : va_RA U b (.object C)) : a = b := by
  obtain ⟨_, _, -, -, -, e1⟩ := h1
  obtain ⟨_, _, -, -, -, e2⟩ := h2
  exact Option.some.inj (e1.symm.trans e2)

set_option maxHeartbeats 4000000 in
set_option maxRecDepth 100000 in
theorem kX1_init (l : Launch) (dC : Nat → ClassId) (dI : Nat → Nat → Nat) (h0 sz : Nat) (cI cS cW : ClassId) (x1 : Int32) (N1 : Nat) (hx1a : ¬ x1 < 0) (hx1b : x1.toNatClampNeg = N1) (hx1c : N1 ≤ 32) : Met l yX1_init wsX1_init ({ frames := 1, cells := 3, slots := 0 + 3 * N1, locals := 20 } : Room) (va_Pc [.ref h0, .int x1] (fun U => iPc dC dI cI cS cW sz [(h0, .inr (1, [.null, .null, .null, .int 0]))] U)) (va_Qv (fun (_ : Nat → Nat) => True) (fun u9 t9 => va_P (dC, dI) vwCl [(h0, .inr (1, [.ref (u9 0), .ref (u9 1), .ref (u9 2), .int 0])), ((u9 0), .inl (cI, N1, .inl (fun _ => 0))), ((u9 1), .inl (cI, N1, .inl (fun _ => 0))), ((u9 2), .inl (cI, N1, .inl (fun _ => 0)))] t9.heap ∧ va_D (va_A [(h0, .inr (1, [.null, .null, .null, .int 0]))] sz) [(h0, .inr (1, [.ref (u9 0), .ref (u9 1), .ref (u9 2), .int 0])), ((u9 0), .inl (cI, N1, .inl (fun _ => 0))), ((u9 1), .inl (cI, N1, .inl (fun _ => 0))), ((u9 2), .inl (cI, N1, .inl (fun _ => 0)))]) (va_A [(h0, .inr (1, [.null, .null, .null, .int 0]))] sz)) 3 (0 + 3 * N1) (va_A [(h0, .inr (1, [.null, .null, .null, .int 0]))] sz) := by
  refine Met.ofW (cc := cX1_init) (maxL := 2) (ret := none) (by decide) rfl ?_
  intro p e s m args below meth cd s₁ B hml hv
  obtain ⟨rfl, hsz, hP, hK, hD0, hN⟩ := hv
  have hx := B.exec
  have hb := B.bytes
  have hr := B.returns
  have hts := atoms_spec (ws := wsX1_init) B.pre
  have hown : s.vm.findClass RX1 = some m.cls := findClass_of_methodNamed B.named
  have hlocks := B.notSynchronized
  have hin : meth.name = "<init>" := (name_of_methodNamed B.named B.method).1
  subst hsz
  have hD := hD0.self (sz := s.heap.size)
  generalize hAe : va_A [(h0, .inr (1, [.null, .null, .null, .int 0]))] s.heap.size = A at hD ⊢
  have hA : ∀ q : Nat, s.heap.size ≤ q → A q := fun q h => by rw [← hAe]; exact Or.inr h
  have hS : va_S A s.heap s.heap [] := va_S.rf
  have k7 := hts (.fieldLink RX1 7 "StageDesk$EventRow" "numbers" "[I") (by decide +kernel)
  have k13 := hts (.fieldLink RX1 13 "StageDesk$EventRow" "values" "[I") (by decide +kernel)
  have k16 := hts (.fieldLink RX1 16 "StageDesk$EventRow" "births" "[I") (by decide +kernel)
  have inX1 : ∀ w ∈ u_ws RX1 TX1 4, w ∈ wsX1_init := by decide +kernel
  have hl := lv_entry ([.ref h0, .int x1]) (n := 2) (Nat.le_of_ble_eq_true rfl)
  rw [lg_entry_eq]
  generalize (lg_sl ([.ref h0, .int x1]) ++ List.replicate (2 - (lg_sl ([.ref h0, .int x1])).length) Slot.unset).toArray = ls at hl ⊢
  have hl : lv_has ls 2 [(0, .ref h0), (1, .int x1)] := hl
  have hP : va_P (dC, dI) vwCl [(h0, .inr (1, [.null, .null, .null, .int 0]))] s.heap := hP
  refine lv_aload_n hx hb dX1_init_0 rfl (lv_at hl 0 rfl) ?_
  refine W.objInit hx hb hown (hts (.methodLink RX1 1 objectInit) (by decide +kernel)) (hts (.instanceMethod objectInit) (by decide +kernel)) (hts (.code objectInit ⟨#[0xb1]⟩ 1 none) (by decide +kernel)) rfl (by rw [hml]; exact hl.1) rfl dX1_init_1 (Nat.le_of_ble_eq_true rfl) (Nat.le_of_ble_eq_true rfl) ?_
  refine W.eq (g2 := F0 m 4 ls []) rfl ?_
  refine lv_aload_n hx hb dX1_init_4 rfl (lv_at hl 0 rfl) ?_
  refine lv_iload_n hx hb dX1_init_5 rfl (lv_at hl 1 rfl) ?_
  refine va_newa (atype := .int) (ty := .int) hx hb (hts (.arrayClass .int) (by decide +kernel)) rfl hK hP hD hS hA (a0 := (N1, .inl (fun _ => 0))) (fun _ => rfl) hx1a hx1b (by have := hx1c; show N1 * 4 ≤ _; omega) (by show 0 + 1 ≤ 3; omega) (by show 0 + (N1) ≤ 0 + 3 * N1; omega) dX1_init_6 (fun q1 cA H hK9 hP hD hS => ?_)
  obtain rfl : cI = cA := arr_one (t := .int) (hK.2 0 _ rfl).2 (hK9.2 3 _ rfl).2 (Or.inl rfl)
  have hP : va_P (dC, dI) vwCl [(h0, .inr (1, [.null, .null, .null, .int 0])), (q1, .inl (cI, N1, .inl (fun _ => 0)))] H := hP
  have hD : va_D A [(h0, .inr (1, [.null, .null, .null, .int 0])), (q1, .inl (cI, N1, .inl (fun _ => 0)))] := hD
  refine W.widen (k := 1) (n := 0 + 1 * N1) (by omega) (by omega) ?_
  refine va_putF (C := RX1) (T := TX1) (N := 4) (ci := 1) (ty := (.array .int)) (v := .ref q1) hx hb hts inX1 tyX1 tyX1_ok nmX1 hown hK hP hD hS 0 rfl rfl 0 (by decide) k7 (fun _ h9 => h9) rfl hin rfl (by decide +kernel) rfl rfl (Nat.le_of_ble_eq_true rfl) dX1_init_8 (fun H locs hP hD hS => ?_)
  have hP : va_P (dC, dI) vwCl [(h0, .inr (1, [.ref q1, .null, .null, .int 0])), (q1, .inl (cI, N1, .inl (fun _ => 0)))] H := hP
  have hD : va_D A [(h0, .inr (1, [.ref q1, .null, .null, .int 0])), (q1, .inl (cI, N1, .inl (fun _ => 0)))] := hD
  refine lv_aload_n hx hb dX1_init_11 rfl (lv_at hl 0 rfl) ?_
  refine lv_iload_n hx hb dX1_init_12 rfl (lv_at hl 1 rfl) ?_
  refine va_newa (atype := .int) (ty := .int) hx hb (hts (.arrayClass .int) (by decide +kernel)) rfl hK hP hD hS hA (a0 := (N1, .inl (fun _ => 0))) (fun _ => rfl) hx1a hx1b (by have := hx1c; show N1 * 4 ≤ _; omega) (by show 1 + 1 ≤ 3; omega) (by show 0 + 1 * N1 + (N1) ≤ 0 + 3 * N1; omega) dX1_init_13 (fun q2 cA H hK9 hP hD hS => ?_)
  obtain rfl : cI = cA := arr_one (t := .int) (hK.2 0 _ rfl).2 (hK9.2 3 _ rfl).2 (Or.inl rfl)
  have hP : va_P (dC, dI) vwCl [(h0, .inr (1, [.ref q1, .null, .null, .int 0])), (q1, .inl (cI, N1, .inl (fun _ => 0))), (q2, .inl (cI, N1, .inl (fun _ => 0)))] H := hP
  have hD : va_D A [(h0, .inr (1, [.ref q1, .null, .null, .int 0])), (q1, .inl (cI, N1, .inl (fun _ => 0))), (q2, .inl (cI, N1, .inl (fun _ => 0)))] := hD
  refine W.widen (k := 2) (n := 0 + 2 * N1) (by omega) (by omega) ?_
  refine va_putF (C := RX1) (T := TX1) (N := 4) (ci := 1) (ty := (.array .int)) (v := .ref q2) hx hb hts inX1 tyX1 tyX1_ok nmX1 hown hK hP hD hS 0 rfl rfl 1 (by decide) k13 (fun _ h9 => h9) rfl hin rfl (by decide +kernel) rfl rfl (Nat.le_of_ble_eq_true rfl) dX1_init_15 (fun H locs hP hD hS => ?_)
  have hP : va_P (dC, dI) vwCl [(h0, .inr (1, [.ref q1, .ref q2, .null, .int 0])), (q1, .inl (cI, N1, .inl (fun _ => 0))), (q2, .inl (cI, N1, .inl (fun _ => 0)))] H := hP
  have hD : va_D A [(h0, .inr (1, [.ref q1, .ref q2, .null, .int 0])), (q1, .inl (cI, N1, .inl (fun _ => 0))), (q2, .inl (cI, N1, .inl (fun _ => 0)))] := hD
  refine lv_aload_n hx hb dX1_init_18 rfl (lv_at hl 0 rfl) ?_
  refine lv_iload_n hx hb dX1_init_19 rfl (lv_at hl 1 rfl) ?_
  refine va_newa (atype := .int) (ty := .int) hx hb (hts (.arrayClass .int) (by decide +kernel)) rfl hK hP hD hS hA (a0 := (N1, .inl (fun _ => 0))) (fun _ => rfl) hx1a hx1b (by have := hx1c; show N1 * 4 ≤ _; omega) (by show 2 + 1 ≤ 3; omega) (by show 0 + 2 * N1 + (N1) ≤ 0 + 3 * N1; omega) dX1_init_20 (fun q3 cA H hK9 hP hD hS => ?_)
  obtain rfl : cI = cA := arr_one (t := .int) (hK.2 0 _ rfl).2 (hK9.2 3 _ rfl).2 (Or.inl rfl)
  have hP : va_P (dC, dI) vwCl [(h0, .inr (1, [.ref q1, .ref q2, .null, .int 0])), (q1, .inl (cI, N1, .inl (fun _ => 0))), (q2, .inl (cI, N1, .inl (fun _ => 0))), (q3, .inl (cI, N1, .inl (fun _ => 0)))] H := hP
  have hD : va_D A [(h0, .inr (1, [.ref q1, .ref q2, .null, .int 0])), (q1, .inl (cI, N1, .inl (fun _ => 0))), (q2, .inl (cI, N1, .inl (fun _ => 0))), (q3, .inl (cI, N1, .inl (fun _ => 0)))] := hD
  refine W.widen (k := 3) (n := 0 + 3 * N1) (by omega) (by omega) ?_
  refine va_putF (C := RX1) (T := TX1) (N := 4) (ci := 1) (ty := (.array .int)) (v := .ref q3) hx hb hts inX1 tyX1 tyX1_ok nmX1 hown hK hP hD hS 0 rfl rfl 2 (by decide) k16 (fun _ h9 => h9) rfl hin rfl (by decide +kernel) rfl rfl (Nat.le_of_ble_eq_true rfl) dX1_init_22 (fun H locs hP hD hS => ?_)
  have hP : va_P (dC, dI) vwCl [(h0, .inr (1, [.ref q1, .ref q2, .ref q3, .int 0])), (q1, .inl (cI, N1, .inl (fun _ => 0))), (q2, .inl (cI, N1, .inl (fun _ => 0))), (q3, .inl (cI, N1, .inl (fun _ => 0)))] H := hP
  have hD : va_D A [(h0, .inr (1, [.ref q1, .ref q2, .ref q3, .int 0])), (q1, .inl (cI, N1, .inl (fun _ => 0))), (q2, .inl (cI, N1, .inl (fun _ => 0))), (q3, .inl (cI, N1, .inl (fun _ => 0)))] := hD
  exact W.vret hx hb hr (fun t9 ht9 hW9 => ⟨⟨(fun j => [q1, q2, q3].getD j 0), rfl, trivial, by rw [ht9]; exact hP, hD⟩, hS.F ht9⟩) hS.2.2 dX1_init_25
set_option maxHeartbeats 4000000 in
set_option maxRecDepth 100000 in
theorem kX2_init (l : Launch) (dC : Nat → ClassId) (dI : Nat → Nat → Nat) (h0 sz : Nat) (cI cS cW : ClassId) : Met l yX2_init wsX2_init ({ frames := 1, cells := 3, slots := 48, locals := 20 } : Room) (va_Pc [.ref h0] (fun U => iPc dC dI cI cS cW sz [(h0, .inr (2, [.null, .null, .null, .int 0, .int 0, .int 0]))] U)) (va_Qv (fun (_ : Nat → Nat) => True) (fun u9 t9 => va_P (dC, dI) vwCl [(h0, .inr (2, [.ref (u9 0), .ref (u9 1), .ref (u9 2), .int 0, .int 0, .int (-1)])), ((u9 0), .inl (cS, 16, .inr (.inr (.inr (.inr (fun _ => none)))))), ((u9 1), .inl (cI, 16, .inl (fun _ => 0))), ((u9 2), .inl (cI, 16, .inl (fun _ => 0)))] t9.heap ∧ va_D (va_A [(h0, .inr (2, [.null, .null, .null, .int 0, .int 0, .int 0]))] sz) [(h0, .inr (2, [.ref (u9 0), .ref (u9 1), .ref (u9 2), .int 0, .int 0, .int (-1)])), ((u9 0), .inl (cS, 16, .inr (.inr (.inr (.inr (fun _ => none)))))), ((u9 1), .inl (cI, 16, .inl (fun _ => 0))), ((u9 2), .inl (cI, 16, .inl (fun _ => 0)))]) (va_A [(h0, .inr (2, [.null, .null, .null, .int 0, .int 0, .int 0]))] sz)) 3 (48) (va_A [(h0, .inr (2, [.null, .null, .null, .int 0, .int 0, .int 0]))] sz) := by
  refine Met.ofW (cc := cX2_init) (maxL := 1) (ret := none) (by decide) rfl ?_
  intro p e s m args below meth cd s₁ B hml hv
  obtain ⟨rfl, hsz, hP, hK, hD0, hN⟩ := hv
  have hx := B.exec
  have hb := B.bytes
  have hr := B.returns
  have hts := atoms_spec (ws := wsX2_init) B.pre
  have hown : s.vm.findClass RX2 = some m.cls := findClass_of_methodNamed B.named
  have hlocks := B.notSynchronized
  have hin : meth.name = "<init>" := (name_of_methodNamed B.named B.method).1
  subst hsz
  have hD := hD0.self (sz := s.heap.size)
  generalize hAe : va_A [(h0, .inr (2, [.null, .null, .null, .int 0, .int 0, .int 0]))] s.heap.size = A at hD ⊢
  have hA : ∀ q : Nat, s.heap.size ≤ q → A q := fun q h => by rw [← hAe]; exact Or.inr h
  have hS : va_S A s.heap s.heap [] := va_S.rf
  have k11 := hts (.fieldLink RX2 11 "StageDesk$Gifts" "targets" "[LStageDesk$Stage;") (by decide +kernel)
  have k17 := hts (.fieldLink RX2 17 "StageDesk$Gifts" "values" "[I") (by decide +kernel)
  have k21 := hts (.fieldLink RX2 21 "StageDesk$Gifts" "births" "[I") (by decide +kernel)
  have k24 := hts (.fieldLink RX2 24 "StageDesk$Gifts" "number" "I") (by decide +kernel)
  have inX2 : ∀ w ∈ u_ws RX2 TX2 6, w ∈ wsX2_init := by decide +kernel
  have hl := lv_entry ([.ref h0]) (n := 1) (Nat.le_of_ble_eq_true rfl)
  rw [lg_entry_eq]
  generalize (lg_sl ([.ref h0]) ++ List.replicate (1 - (lg_sl ([.ref h0])).length) Slot.unset).toArray = ls at hl ⊢
  have hl : lv_has ls 1 [(0, .ref h0)] := hl
  have hP : va_P (dC, dI) vwCl [(h0, .inr (2, [.null, .null, .null, .int 0, .int 0, .int 0]))] s.heap := hP
  refine lv_aload_n hx hb dX2_init_0 rfl (lv_at hl 0 rfl) ?_
  refine W.objInit hx hb hown (hts (.methodLink RX2 3 objectInit) (by decide +kernel)) (hts (.instanceMethod objectInit) (by decide +kernel)) (hts (.code objectInit ⟨#[0xb1]⟩ 1 none) (by decide +kernel)) rfl (by rw [hml]; exact hl.1) rfl dX2_init_1 (Nat.le_of_ble_eq_true rfl) (Nat.le_of_ble_eq_true rfl) ?_
  refine W.eq (g2 := F0 m 4 ls []) rfl ?_
  refine lv_aload_n hx hb dX2_init_4 rfl (lv_at hl 0 rfl) ?_
  refine lv_bipush (v := 16) hx hb dX2_init_5 (by decide) ?_
  refine va_newq (N' := 16) (C := RX3) hx hb hown (hts (.classLink RX2 9 RX3) (by decide +kernel)) hN.1 hK hP hD hS hA (by decide) rfl (by decide) (by show 0 + 1 ≤ 3; omega) (by show 0 + (16) ≤ 48; omega) dX2_init_7 (fun q1 cA H hK9 hP hD hS => ?_)
  obtain rfl : cS = cA := arr_oneO (C := RX3) (hK.2 1 _ rfl).2 (hK9.2 3 _ rfl).2
  have hP : va_P (dC, dI) vwCl [(h0, .inr (2, [.null, .null, .null, .int 0, .int 0, .int 0])), (q1, .inl (cS, 16, .inr (.inr (.inr (.inr (fun _ => none))))))] H := hP
  have hD : va_D A [(h0, .inr (2, [.null, .null, .null, .int 0, .int 0, .int 0])), (q1, .inl (cS, 16, .inr (.inr (.inr (.inr (fun _ => none))))))] := hD
  refine W.widen (k := 1) (n := 16) (by omega) (by omega) ?_
  refine va_putF (C := RX2) (T := TX2) (N := 6) (ci := 2) (ty := (.array (.object "StageDesk$Stage"))) (v := .ref q1) hx hb hts inX2 tyX2 tyX2_ok nmX2 hown hK hP hD hS 0 rfl rfl 0 (by decide) k11 (fun _ h9 => h9) rfl hin rfl (by decide +kernel) rfl rfl (Nat.le_of_ble_eq_true rfl) dX2_init_10 (fun H locs hP hD hS => ?_)
  have hP : va_P (dC, dI) vwCl [(h0, .inr (2, [.ref q1, .null, .null, .int 0, .int 0, .int 0])), (q1, .inl (cS, 16, .inr (.inr (.inr (.inr (fun _ => none))))))] H := hP
  have hD : va_D A [(h0, .inr (2, [.ref q1, .null, .null, .int 0, .int 0, .int 0])), (q1, .inl (cS, 16, .inr (.inr (.inr (.inr (fun _ => none))))))] := hD
  refine lv_aload_n hx hb dX2_init_13 rfl (lv_at hl 0 rfl) ?_
  refine lv_bipush (v := 16) hx hb dX2_init_14 (by decide) ?_
  refine va_newa (atype := .int) (ty := .int) hx hb (hts (.arrayClass .int) (by decide +kernel)) rfl hK hP hD hS hA (a0 := (16, .inl (fun _ => 0))) (fun _ => rfl) (by decide) rfl (by decide) (by show 1 + 1 ≤ 3; omega) (by show 16 + (16) ≤ 48; omega) dX2_init_16 (fun q2 cA H hK9 hP hD hS => ?_)
  obtain rfl : cI = cA := arr_one (t := .int) (hK.2 0 _ rfl).2 (hK9.2 3 _ rfl).2 (Or.inl rfl)
  have hP : va_P (dC, dI) vwCl [(h0, .inr (2, [.ref q1, .null, .null, .int 0, .int 0, .int 0])), (q1, .inl (cS, 16, .inr (.inr (.inr (.inr (fun _ => none)))))), (q2, .inl (cI, 16, .inl (fun _ => 0)))] H := hP
  have hD : va_D A [(h0, .inr (2, [.ref q1, .null, .null, .int 0, .int 0, .int 0])), (q1, .inl (cS, 16, .inr (.inr (.inr (.inr (fun _ => none)))))), (q2, .inl (cI, 16, .inl (fun _ => 0)))] := hD
  refine W.widen (k := 2) (n := 32) (by omega) (by omega) ?_
  refine va_putF (C := RX2) (T := TX2) (N := 6) (ci := 2) (ty := (.array .int)) (v := .ref q2) hx hb hts inX2 tyX2 tyX2_ok nmX2 hown hK hP hD hS 0 rfl rfl 1 (by decide) k17 (fun _ h9 => h9) rfl hin rfl (by decide +kernel) rfl rfl (Nat.le_of_ble_eq_true rfl) dX2_init_18 (fun H locs hP hD hS => ?_)
  have hP : va_P (dC, dI) vwCl [(h0, .inr (2, [.ref q1, .ref q2, .null, .int 0, .int 0, .int 0])), (q1, .inl (cS, 16, .inr (.inr (.inr (.inr (fun _ => none)))))), (q2, .inl (cI, 16, .inl (fun _ => 0)))] H := hP
  have hD : va_D A [(h0, .inr (2, [.ref q1, .ref q2, .null, .int 0, .int 0, .int 0])), (q1, .inl (cS, 16, .inr (.inr (.inr (.inr (fun _ => none)))))), (q2, .inl (cI, 16, .inl (fun _ => 0)))] := hD
  refine lv_aload_n hx hb dX2_init_21 rfl (lv_at hl 0 rfl) ?_
  refine lv_bipush (v := 16) hx hb dX2_init_22 (by decide) ?_
  refine va_newa (atype := .int) (ty := .int) hx hb (hts (.arrayClass .int) (by decide +kernel)) rfl hK hP hD hS hA (a0 := (16, .inl (fun _ => 0))) (fun _ => rfl) (by decide) rfl (by decide) (by show 2 + 1 ≤ 3; omega) (by show 32 + (16) ≤ 48; omega) dX2_init_24 (fun q3 cA H hK9 hP hD hS => ?_)
  obtain rfl : cI = cA := arr_one (t := .int) (hK.2 0 _ rfl).2 (hK9.2 3 _ rfl).2 (Or.inl rfl)
  have hP : va_P (dC, dI) vwCl [(h0, .inr (2, [.ref q1, .ref q2, .null, .int 0, .int 0, .int 0])), (q1, .inl (cS, 16, .inr (.inr (.inr (.inr (fun _ => none)))))), (q2, .inl (cI, 16, .inl (fun _ => 0))), (q3, .inl (cI, 16, .inl (fun _ => 0)))] H := hP
  have hD : va_D A [(h0, .inr (2, [.ref q1, .ref q2, .null, .int 0, .int 0, .int 0])), (q1, .inl (cS, 16, .inr (.inr (.inr (.inr (fun _ => none)))))), (q2, .inl (cI, 16, .inl (fun _ => 0))), (q3, .inl (cI, 16, .inl (fun _ => 0)))] := hD
  refine W.widen (k := 3) (n := 48) (by omega) (by omega) ?_
  refine va_putF (C := RX2) (T := TX2) (N := 6) (ci := 2) (ty := (.array .int)) (v := .ref q3) hx hb hts inX2 tyX2 tyX2_ok nmX2 hown hK hP hD hS 0 rfl rfl 2 (by decide) k21 (fun _ h9 => h9) rfl hin rfl (by decide +kernel) rfl rfl (Nat.le_of_ble_eq_true rfl) dX2_init_26 (fun H locs hP hD hS => ?_)
  have hP : va_P (dC, dI) vwCl [(h0, .inr (2, [.ref q1, .ref q2, .ref q3, .int 0, .int 0, .int 0])), (q1, .inl (cS, 16, .inr (.inr (.inr (.inr (fun _ => none)))))), (q2, .inl (cI, 16, .inl (fun _ => 0))), (q3, .inl (cI, 16, .inl (fun _ => 0)))] H := hP
  have hD : va_D A [(h0, .inr (2, [.ref q1, .ref q2, .ref q3, .int 0, .int 0, .int 0])), (q1, .inl (cS, 16, .inr (.inr (.inr (.inr (fun _ => none)))))), (q2, .inl (cI, 16, .inl (fun _ => 0))), (q3, .inl (cI, 16, .inl (fun _ => 0)))] := hD
  refine lv_aload_n hx hb dX2_init_29 rfl (lv_at hl 0 rfl) ?_
  refine lv_iconst (v := (-1)) hx hb dX2_init_30 (by decide) ?_
  refine va_put (C := RX2) (T := TX2) (N := 6) (ci := 2) (ty := .int) (v := .int (-1)) hx hb hts inX2 tyX2 tyX2_ok nmX2 hown hK hP hD hS 0 rfl rfl 5 (by decide) k24 (fun _ h9 => h9) rfl (by decide +kernel) rfl rfl (Nat.le_of_ble_eq_true rfl) dX2_init_31 (fun H locs hP hD hS => ?_)
  have hP : va_P (dC, dI) vwCl [(h0, .inr (2, [.ref q1, .ref q2, .ref q3, .int 0, .int 0, .int (-1)])), (q1, .inl (cS, 16, .inr (.inr (.inr (.inr (fun _ => none)))))), (q2, .inl (cI, 16, .inl (fun _ => 0))), (q3, .inl (cI, 16, .inl (fun _ => 0)))] H := hP
  have hD : va_D A [(h0, .inr (2, [.ref q1, .ref q2, .ref q3, .int 0, .int 0, .int (-1)])), (q1, .inl (cS, 16, .inr (.inr (.inr (.inr (fun _ => none)))))), (q2, .inl (cI, 16, .inl (fun _ => 0))), (q3, .inl (cI, 16, .inl (fun _ => 0)))] := hD
  exact W.vret hx hb hr (fun t9 ht9 hW9 => ⟨⟨(fun j => [q1, q2, q3].getD j 0), rfl, trivial, by rw [ht9]; exact hP, hD⟩, hS.F ht9⟩) hS.2.2 dX2_init_34
set_option maxHeartbeats 4000000 in
set_option maxRecDepth 100000 in
theorem kX5_init (l : Launch) (dC : Nat → ClassId) (dI : Nat → Nat → Nat) (h0 sz : Nat) (cI cS cW : ClassId) : Met l yX5_init wsX5_init ({ frames := 1, cells := 2, slots := 40, locals := 20 } : Room) (va_Pc [.ref h0] (fun U => iPc dC dI cI cS cW sz [(h0, .inr (5, [.null, .null, .int 0]))] U)) (va_Qv (fun (_ : Nat → Nat) => True) (fun u9 t9 => va_P (dC, dI) vwCl [(h0, .inr (5, [.ref (u9 0), .ref (u9 1), .int 0])), ((u9 0), .inl (cI, 20, .inl (fun _ => 0))), ((u9 1), .inl (cI, 20, .inl (fun _ => 0)))] t9.heap ∧ va_D (va_A [(h0, .inr (5, [.null, .null, .int 0]))] sz) [(h0, .inr (5, [.ref (u9 0), .ref (u9 1), .int 0])), ((u9 0), .inl (cI, 20, .inl (fun _ => 0))), ((u9 1), .inl (cI, 20, .inl (fun _ => 0)))]) (va_A [(h0, .inr (5, [.null, .null, .int 0]))] sz)) 2 (40) (va_A [(h0, .inr (5, [.null, .null, .int 0]))] sz) := by
  refine Met.ofW (cc := cX5_init) (maxL := 1) (ret := none) (by decide) rfl ?_
  intro p e s m args below meth cd s₁ B hml hv
  obtain ⟨rfl, hsz, hP, hK, hD0, hN⟩ := hv
  have hx := B.exec
  have hb := B.bytes
  have hr := B.returns
  have hts := atoms_spec (ws := wsX5_init) B.pre
  have hown : s.vm.findClass RX5 = some m.cls := findClass_of_methodNamed B.named
  have hlocks := B.notSynchronized
  have hin : meth.name = "<init>" := (name_of_methodNamed B.named B.method).1
  subst hsz
  have hD := hD0.self (sz := s.heap.size)
  generalize hAe : va_A [(h0, .inr (5, [.null, .null, .int 0]))] s.heap.size = A at hD ⊢
  have hA : ∀ q : Nat, s.heap.size ≤ q → A q := fun q h => by rw [← hAe]; exact Or.inr h
  have hS : va_S A s.heap s.heap [] := va_S.rf
  have k9 := hts (.fieldLink RX5 9 "StageDesk$Times" "kept" "[I") (by decide +kernel)
  have k15 := hts (.fieldLink RX5 15 "StageDesk$Times" "sorted" "[I") (by decide +kernel)
  have inX5 : ∀ w ∈ u_ws RX5 TX5 3, w ∈ wsX5_init := by decide +kernel
  have hl := lv_entry ([.ref h0]) (n := 1) (Nat.le_of_ble_eq_true rfl)
  rw [lg_entry_eq]
  generalize (lg_sl ([.ref h0]) ++ List.replicate (1 - (lg_sl ([.ref h0])).length) Slot.unset).toArray = ls at hl ⊢
  have hl : lv_has ls 1 [(0, .ref h0)] := hl
  have hP : va_P (dC, dI) vwCl [(h0, .inr (5, [.null, .null, .int 0]))] s.heap := hP
  refine lv_aload_n hx hb dX5_init_0 rfl (lv_at hl 0 rfl) ?_
  refine W.objInit hx hb hown (hts (.methodLink RX5 3 objectInit) (by decide +kernel)) (hts (.instanceMethod objectInit) (by decide +kernel)) (hts (.code objectInit ⟨#[0xb1]⟩ 1 none) (by decide +kernel)) rfl (by rw [hml]; exact hl.1) rfl dX5_init_1 (Nat.le_of_ble_eq_true rfl) (Nat.le_of_ble_eq_true rfl) ?_
  refine W.eq (g2 := F0 m 4 ls []) rfl ?_
  refine lv_aload_n hx hb dX5_init_4 rfl (lv_at hl 0 rfl) ?_
  refine lv_bipush (v := 20) hx hb dX5_init_5 (by decide) ?_
  refine va_newa (atype := .int) (ty := .int) hx hb (hts (.arrayClass .int) (by decide +kernel)) rfl hK hP hD hS hA (a0 := (20, .inl (fun _ => 0))) (fun _ => rfl) (by decide) rfl (by decide) (by show 0 + 1 ≤ 2; omega) (by show 0 + (20) ≤ 40; omega) dX5_init_7 (fun q1 cA H hK9 hP hD hS => ?_)
  obtain rfl : cI = cA := arr_one (t := .int) (hK.2 0 _ rfl).2 (hK9.2 3 _ rfl).2 (Or.inl rfl)
  have hP : va_P (dC, dI) vwCl [(h0, .inr (5, [.null, .null, .int 0])), (q1, .inl (cI, 20, .inl (fun _ => 0)))] H := hP
  have hD : va_D A [(h0, .inr (5, [.null, .null, .int 0])), (q1, .inl (cI, 20, .inl (fun _ => 0)))] := hD
  refine W.widen (k := 1) (n := 20) (by omega) (by omega) ?_
  refine va_putF (C := RX5) (T := TX5) (N := 3) (ci := 5) (ty := (.array .int)) (v := .ref q1) hx hb hts inX5 tyX5 tyX5_ok nmX5 hown hK hP hD hS 0 rfl rfl 0 (by decide) k9 (fun _ h9 => h9) rfl hin rfl (by decide +kernel) rfl rfl (Nat.le_of_ble_eq_true rfl) dX5_init_9 (fun H locs hP hD hS => ?_)
  have hP : va_P (dC, dI) vwCl [(h0, .inr (5, [.ref q1, .null, .int 0])), (q1, .inl (cI, 20, .inl (fun _ => 0)))] H := hP
  have hD : va_D A [(h0, .inr (5, [.ref q1, .null, .int 0])), (q1, .inl (cI, 20, .inl (fun _ => 0)))] := hD
  refine lv_aload_n hx hb dX5_init_12 rfl (lv_at hl 0 rfl) ?_
  refine lv_bipush (v := 20) hx hb dX5_init_13 (by decide) ?_
  refine va_newa (atype := .int) (ty := .int) hx hb (hts (.arrayClass .int) (by decide +kernel)) rfl hK hP hD hS hA (a0 := (20, .inl (fun _ => 0))) (fun _ => rfl) (by decide) rfl (by decide) (by show 1 + 1 ≤ 2; omega) (by show 20 + (20) ≤ 40; omega) dX5_init_15 (fun q2 cA H hK9 hP hD hS => ?_)
  obtain rfl : cI = cA := arr_one (t := .int) (hK.2 0 _ rfl).2 (hK9.2 3 _ rfl).2 (Or.inl rfl)
  have hP : va_P (dC, dI) vwCl [(h0, .inr (5, [.ref q1, .null, .int 0])), (q1, .inl (cI, 20, .inl (fun _ => 0))), (q2, .inl (cI, 20, .inl (fun _ => 0)))] H := hP
  have hD : va_D A [(h0, .inr (5, [.ref q1, .null, .int 0])), (q1, .inl (cI, 20, .inl (fun _ => 0))), (q2, .inl (cI, 20, .inl (fun _ => 0)))] := hD
  refine W.widen (k := 2) (n := 40) (by omega) (by omega) ?_
  refine va_putF (C := RX5) (T := TX5) (N := 3) (ci := 5) (ty := (.array .int)) (v := .ref q2) hx hb hts inX5 tyX5 tyX5_ok nmX5 hown hK hP hD hS 0 rfl rfl 1 (by decide) k15 (fun _ h9 => h9) rfl hin rfl (by decide +kernel) rfl rfl (Nat.le_of_ble_eq_true rfl) dX5_init_17 (fun H locs hP hD hS => ?_)
  have hP : va_P (dC, dI) vwCl [(h0, .inr (5, [.ref q1, .ref q2, .int 0])), (q1, .inl (cI, 20, .inl (fun _ => 0))), (q2, .inl (cI, 20, .inl (fun _ => 0)))] H := hP
  have hD : va_D A [(h0, .inr (5, [.ref q1, .ref q2, .int 0])), (q1, .inl (cI, 20, .inl (fun _ => 0))), (q2, .inl (cI, 20, .inl (fun _ => 0)))] := hD
  exact W.vret hx hb hr (fun t9 ht9 hW9 => ⟨⟨(fun j => [q1, q2].getD j 0), rfl, trivial, by rw [ht9]; exact hP, hD⟩, hS.F ht9⟩) hS.2.2 dX5_init_20
set_option maxHeartbeats 4000000 in
set_option maxRecDepth 100000 in
theorem kX6_init (l : Launch) (dC : Nat → ClassId) (dI : Nat → Nat → Nat) (h0 sz : Nat) (cI cS cW : ClassId) : Met l yX6_init wsX6_init ({ frames := 2, cells := 8, slots := 82, locals := 41 } : Room) (va_Pc [.ref h0] (fun U => iPc dC dI cI cS cW sz [(h0, .inr (6, [.null, .null, .int 0, .int 0, .int 0]))] U)) (va_Qv (fun (_ : Nat → Nat) => True) (fun u9 t9 => va_P (dC, dI) vwCl [(h0, .inr (6, [.ref (u9 0), .ref (u9 4), .int 0, .int 0, .int 0])), ((u9 0), .inr (1, [.ref (u9 1), .ref (u9 2), .ref (u9 3), .int 0])), ((u9 1), .inl (cI, 8, .inl (fun _ => 0))), ((u9 2), .inl (cI, 8, .inl (fun _ => 0))), ((u9 3), .inl (cI, 8, .inl (fun _ => 0))), ((u9 4), .inr (2, [.ref (u9 5), .ref (u9 6), .ref (u9 7), .int 0, .int 0, .int (-1)])), ((u9 5), .inl (cS, 16, .inr (.inr (.inr (.inr (fun _ => none)))))), ((u9 6), .inl (cI, 16, .inl (fun _ => 0))), ((u9 7), .inl (cI, 16, .inl (fun _ => 0)))] t9.heap ∧ va_D (va_A [(h0, .inr (6, [.null, .null, .int 0, .int 0, .int 0]))] sz) [(h0, .inr (6, [.ref (u9 0), .ref (u9 4), .int 0, .int 0, .int 0])), ((u9 0), .inr (1, [.ref (u9 1), .ref (u9 2), .ref (u9 3), .int 0])), ((u9 1), .inl (cI, 8, .inl (fun _ => 0))), ((u9 2), .inl (cI, 8, .inl (fun _ => 0))), ((u9 3), .inl (cI, 8, .inl (fun _ => 0))), ((u9 4), .inr (2, [.ref (u9 5), .ref (u9 6), .ref (u9 7), .int 0, .int 0, .int (-1)])), ((u9 5), .inl (cS, 16, .inr (.inr (.inr (.inr (fun _ => none)))))), ((u9 6), .inl (cI, 16, .inl (fun _ => 0))), ((u9 7), .inl (cI, 16, .inl (fun _ => 0)))]) (va_A [(h0, .inr (6, [.null, .null, .int 0, .int 0, .int 0]))] sz)) 8 (82) (va_A [(h0, .inr (6, [.null, .null, .int 0, .int 0, .int 0]))] sz) := by
  refine Met.ofW (cc := cX6_init) (maxL := 1) (ret := none) (by decide) rfl ?_
  intro p e s m args below meth cd s₁ B hml hv
  obtain ⟨rfl, hsz, hP, hK, hD0, hN⟩ := hv
  have hx := B.exec
  have hb := B.bytes
  have hr := B.returns
  have hts := atoms_spec (ws := wsX6_init) B.pre
  have hown : s.vm.findClass RX6 = some m.cls := findClass_of_methodNamed B.named
  have hlocks := B.notSynchronized
  have hin : meth.name = "<init>" := (name_of_methodNamed B.named B.method).1
  subst hsz
  have hD := hD0.self (sz := s.heap.size)
  generalize hAe : va_A [(h0, .inr (6, [.null, .null, .int 0, .int 0, .int 0]))] s.heap.size = A at hD ⊢
  have hA : ∀ q : Nat, s.heap.size ≤ q → A q := fun q h => by rw [← hAe]; exact Or.inr h
  have hS : va_S A s.heap s.heap [] := va_S.rf
  have k14 := hts (.fieldLink RX6 14 "StageDesk$Worker" "batch" "LStageDesk$EventRow;") (by decide +kernel)
  have k23 := hts (.fieldLink RX6 23 "StageDesk$Worker" "gifts" "LStageDesk$Gifts;") (by decide +kernel)
  have inX1 : ∀ w ∈ u_ws RX1 TX1 4, w ∈ wsX6_init := by decide +kernel
  have inX6 : ∀ w ∈ u_ws RX6 TX6 5, w ∈ wsX6_init := by decide +kernel
  have inX2 : ∀ w ∈ u_ws RX2 TX2 6, w ∈ wsX6_init := by decide +kernel
  have hl := lv_entry ([.ref h0]) (n := 1) (Nat.le_of_ble_eq_true rfl)
  rw [lg_entry_eq]
  generalize (lg_sl ([.ref h0]) ++ List.replicate (1 - (lg_sl ([.ref h0])).length) Slot.unset).toArray = ls at hl ⊢
  have hl : lv_has ls 1 [(0, .ref h0)] := hl
  have hP : va_P (dC, dI) vwCl [(h0, .inr (6, [.null, .null, .int 0, .int 0, .int 0]))] s.heap := hP
  refine lv_aload_n hx hb dX6_init_0 rfl (lv_at hl 0 rfl) ?_
  refine W.objInit hx hb hown (hts (.methodLink RX6 3 objectInit) (by decide +kernel)) (hts (.instanceMethod objectInit) (by decide +kernel)) (hts (.code objectInit ⟨#[0xb1]⟩ 1 none) (by decide +kernel)) rfl (by rw [hml]; exact hl.1) rfl dX6_init_1 (Nat.le_of_ble_eq_true rfl) (Nat.le_of_ble_eq_true rfl) ?_
  refine W.eq (g2 := F0 m 4 ls []) rfl ?_
  refine lv_aload_n hx hb dX6_init_4 rfl (lv_at hl 0 rfl) ?_
  refine va_new (ci := 1) (fs := [.null, .null, .null, .int 0]) (C := RX1) (T := TX1) (N := 4) hx hb hts inX1 tyX1 tyX1_ok hown (hts (.classLink RX6 9 RX1) (by decide +kernel)) (hts (.instantiable RX1 4) (by decide +kernel)) (hts (.initialized RX1) (by decide +kernel)) hK hP hD hS hA rfl (fun j hj => by rcases (show j = 0 ∨ j = 1 ∨ j = 2 ∨ j = 3 by omega) with rfl | rfl | rfl | rfl <;> rfl) (by show 0 + 1 ≤ 8; omega) (by show 0 + (4) ≤ 82; omega) dX6_init_5 (fun q1 H hP hD hS => ?_)
  have hP : va_P (dC, dI) vwCl [(h0, .inr (6, [.null, .null, .int 0, .int 0, .int 0])), (q1, .inr (1, [.null, .null, .null, .int 0]))] H := hP
  have hD : va_D A [(h0, .inr (6, [.null, .null, .int 0, .int 0, .int 0])), (q1, .inr (1, [.null, .null, .null, .int 0]))] := hD
  refine W.widen (k := 1) (n := 4) (by omega) (by omega) ?_
  refine lv_dup hx hb dX6_init_8 rfl ?_
  refine lv_bipush (v := 8) hx hb dX6_init_9 (by decide) ?_
  have hPc := hP.sub (ws' := [(q1, .inr (1, [.null, .null, .null, .int 0]))]) [1] rfl
  have hDc := hD.sub (ws' := [(q1, .inr (1, [.null, .null, .null, .int 0]))]) [1] (by decide) rfl
  have hFc := va_free (wc := [(q1, .inr (1, [.null, .null, .null, .int 0]))]) hD hS hA [1] rfl
  refine va_callv (va_runI (As := [.int 8]) (rest := [.ref q1, .ref h0]) ⟨hx, hb, hml, hown, hts⟩ (kX1_init l dC dI q1 H.size cI cS cW 8 8 (by decide) (by decide) (by decide)) (cwI 1 hts gX6_init_X1_init rfl rfl rfl (hts (.initialized RX1) (by decide +kernel)) (hts (.methodLink RX6 11 yX1_init) (by decide +kernel)) (hts (.instanceMethod yX1_init) (by decide +kernel)) rfl (by decide +kernel) ⟨Nat.le_of_ble_eq_true rfl, Nat.le_of_ble_eq_true rfl⟩) ⟨fun a U g9 mk w9 => ⟨w9.1, iPc_calling w9.2⟩, fun U hU hWm => ⟨rfl, iPc_of hPc hDc hK hN hU hWm⟩⟩ rfl rfl hl.1 rfl (lv_room (Nat.le_of_ble_eq_true rfl)) dX6_init_11 ⟨by show 1 + 3 ≤ 8; omega, by show 4 + (24) ≤ 82; omega⟩) hS (fun q _ h => hFc q h) hFc (fun u2 t9 H1 locs ht9 hvm9 _ hB9 hz1 hk1 hS => ?_)
  obtain ⟨hP1, hD1⟩ := hB9
  rw [ht9] at hP1
  obtain ⟨hP, hD⟩ := va_join (wr := [(h0, .inr (6, [.null, .null, .int 0, .int 0, .int 0]))]) (w1 := [(q1, .inr (1, [.ref (u2 0), .ref (u2 1), .ref (u2 2), .int 0])), ((u2 0), .inl (cI, 8, .inl (fun _ => 0))), ((u2 1), .inl (cI, 8, .inl (fun _ => 0))), ((u2 2), .inl (cI, 8, .inl (fun _ => 0)))]) hP hD [1] [0] rfl rfl (by decide) (by decide) hk1 hFc hP1 hD1
  generalize H1 = H at hP hS ⊢
  have hP : va_P (dC, dI) vwCl [(h0, .inr (6, [.null, .null, .int 0, .int 0, .int 0])), (q1, .inr (1, [.ref (u2 0), .ref (u2 1), .ref (u2 2), .int 0])), ((u2 0), .inl (cI, 8, .inl (fun _ => 0))), ((u2 1), .inl (cI, 8, .inl (fun _ => 0))), ((u2 2), .inl (cI, 8, .inl (fun _ => 0)))] H := hP
  have hD : va_D A [(h0, .inr (6, [.null, .null, .int 0, .int 0, .int 0])), (q1, .inr (1, [.ref (u2 0), .ref (u2 1), .ref (u2 2), .int 0])), ((u2 0), .inl (cI, 8, .inl (fun _ => 0))), ((u2 1), .inl (cI, 8, .inl (fun _ => 0))), ((u2 2), .inl (cI, 8, .inl (fun _ => 0)))] := hD
  refine W.widen (k := 4) (n := 28) (by omega) (by omega) ?_
  refine va_putF (C := RX6) (T := TX6) (N := 5) (ci := 6) (ty := (.object "StageDesk$EventRow")) (v := .ref q1) hx hb hts inX6 tyX6 tyX6_ok nmX6 hown hK hP hD hS 0 rfl rfl 0 (by decide) k14 (fun _ h9 => h9) rfl hin rfl (by decide +kernel) rfl rfl (Nat.le_of_ble_eq_true rfl) dX6_init_14 (fun H locs hP hD hS => ?_)
  have hP : va_P (dC, dI) vwCl [(h0, .inr (6, [.ref q1, .null, .int 0, .int 0, .int 0])), (q1, .inr (1, [.ref (u2 0), .ref (u2 1), .ref (u2 2), .int 0])), ((u2 0), .inl (cI, 8, .inl (fun _ => 0))), ((u2 1), .inl (cI, 8, .inl (fun _ => 0))), ((u2 2), .inl (cI, 8, .inl (fun _ => 0)))] H := hP
  have hD : va_D A [(h0, .inr (6, [.ref q1, .null, .int 0, .int 0, .int 0])), (q1, .inr (1, [.ref (u2 0), .ref (u2 1), .ref (u2 2), .int 0])), ((u2 0), .inl (cI, 8, .inl (fun _ => 0))), ((u2 1), .inl (cI, 8, .inl (fun _ => 0))), ((u2 2), .inl (cI, 8, .inl (fun _ => 0)))] := hD
  refine lv_aload_n hx hb dX6_init_17 rfl (lv_at hl 0 rfl) ?_
  refine va_new (ci := 2) (fs := [.null, .null, .null, .int 0, .int 0, .int 0]) (C := RX2) (T := TX2) (N := 6) hx hb hts inX2 tyX2 tyX2_ok hown (hts (.classLink RX6 20 RX2) (by decide +kernel)) (hts (.instantiable RX2 6) (by decide +kernel)) (hts (.initialized RX2) (by decide +kernel)) hK hP hD hS hA rfl (fun j hj => by rcases (show j = 0 ∨ j = 1 ∨ j = 2 ∨ j = 3 ∨ j = 4 ∨ j = 5 by omega) with rfl | rfl | rfl | rfl | rfl | rfl <;> rfl) (by show 4 + 1 ≤ 8; omega) (by show 28 + (6) ≤ 82; omega) dX6_init_18 (fun q3 H hP hD hS => ?_)
  have hP : va_P (dC, dI) vwCl [(h0, .inr (6, [.ref q1, .null, .int 0, .int 0, .int 0])), (q1, .inr (1, [.ref (u2 0), .ref (u2 1), .ref (u2 2), .int 0])), ((u2 0), .inl (cI, 8, .inl (fun _ => 0))), ((u2 1), .inl (cI, 8, .inl (fun _ => 0))), ((u2 2), .inl (cI, 8, .inl (fun _ => 0))), (q3, .inr (2, [.null, .null, .null, .int 0, .int 0, .int 0]))] H := hP
  have hD : va_D A [(h0, .inr (6, [.ref q1, .null, .int 0, .int 0, .int 0])), (q1, .inr (1, [.ref (u2 0), .ref (u2 1), .ref (u2 2), .int 0])), ((u2 0), .inl (cI, 8, .inl (fun _ => 0))), ((u2 1), .inl (cI, 8, .inl (fun _ => 0))), ((u2 2), .inl (cI, 8, .inl (fun _ => 0))), (q3, .inr (2, [.null, .null, .null, .int 0, .int 0, .int 0]))] := hD
  refine W.widen (k := 5) (n := 34) (by omega) (by omega) ?_
  refine lv_dup hx hb dX6_init_21 rfl ?_
  have hPc := hP.sub (ws' := [(q3, .inr (2, [.null, .null, .null, .int 0, .int 0, .int 0]))]) [5] rfl
  have hDc := hD.sub (ws' := [(q3, .inr (2, [.null, .null, .null, .int 0, .int 0, .int 0]))]) [5] (by decide) rfl
  have hFc := va_free (wc := [(q3, .inr (2, [.null, .null, .null, .int 0, .int 0, .int 0]))]) hD hS hA [5] rfl
  refine va_callv (va_runIN (As := []) (rest := [.ref q3, .ref h0]) ⟨hx, hb, hml, hown, hts⟩ (kX2_init l dC dI q3 H.size cI cS cW ) ⟨va_cnB 0 hts gX6_init_X2_init_n22 rfl rfl rfl hN.2.2.2.2.2.2 (hts (.initialized RX2) (by decide +kernel)) (by decide +kernel) ⟨Nat.le_of_ble_eq_true rfl, Nat.le_of_ble_eq_true rfl⟩, rfl, (hts (.instanceMethod yX2_init) (by decide +kernel))⟩ ⟨fun a U g9 mk w9 => ⟨w9.1, iPc_calling w9.2⟩, fun U hU hWm => ⟨rfl, iPc_of hPc hDc hK hN hU hWm⟩⟩ rfl rfl hl.1 rfl (lv_room (Nat.le_of_ble_eq_true rfl)) dX6_init_22 ⟨by show 5 + 3 ≤ 8; omega, by show 34 + (48) ≤ 82; omega⟩) hS (fun q _ h => hFc q h) hFc (fun u4 t9 H1 locs ht9 hvm9 _ hB9 hz1 hk1 hS => ?_)
  obtain ⟨hP1, hD1⟩ := hB9
  rw [ht9] at hP1
  obtain ⟨hP, hD⟩ := va_join (wr := [(h0, .inr (6, [.ref q1, .null, .int 0, .int 0, .int 0])), (q1, .inr (1, [.ref (u2 0), .ref (u2 1), .ref (u2 2), .int 0])), ((u2 0), .inl (cI, 8, .inl (fun _ => 0))), ((u2 1), .inl (cI, 8, .inl (fun _ => 0))), ((u2 2), .inl (cI, 8, .inl (fun _ => 0)))]) (w1 := [(q3, .inr (2, [.ref (u4 0), .ref (u4 1), .ref (u4 2), .int 0, .int 0, .int (-1)])), ((u4 0), .inl (cS, 16, .inr (.inr (.inr (.inr (fun _ => none)))))), ((u4 1), .inl (cI, 16, .inl (fun _ => 0))), ((u4 2), .inl (cI, 16, .inl (fun _ => 0)))]) hP hD [5] [0, 1, 2, 3, 4] rfl rfl (by decide) (by decide) hk1 hFc hP1 hD1
  generalize H1 = H at hP hS ⊢
  have hP : va_P (dC, dI) vwCl [(h0, .inr (6, [.ref q1, .null, .int 0, .int 0, .int 0])), (q1, .inr (1, [.ref (u2 0), .ref (u2 1), .ref (u2 2), .int 0])), ((u2 0), .inl (cI, 8, .inl (fun _ => 0))), ((u2 1), .inl (cI, 8, .inl (fun _ => 0))), ((u2 2), .inl (cI, 8, .inl (fun _ => 0))), (q3, .inr (2, [.ref (u4 0), .ref (u4 1), .ref (u4 2), .int 0, .int 0, .int (-1)])), ((u4 0), .inl (cS, 16, .inr (.inr (.inr (.inr (fun _ => none)))))), ((u4 1), .inl (cI, 16, .inl (fun _ => 0))), ((u4 2), .inl (cI, 16, .inl (fun _ => 0)))] H := hP
  have hD : va_D A [(h0, .inr (6, [.ref q1, .null, .int 0, .int 0, .int 0])), (q1, .inr (1, [.ref (u2 0), .ref (u2 1), .ref (u2 2), .int 0])), ((u2 0), .inl (cI, 8, .inl (fun _ => 0))), ((u2 1), .inl (cI, 8, .inl (fun _ => 0))), ((u2 2), .inl (cI, 8, .inl (fun _ => 0))), (q3, .inr (2, [.ref (u4 0), .ref (u4 1), .ref (u4 2), .int 0, .int 0, .int (-1)])), ((u4 0), .inl (cS, 16, .inr (.inr (.inr (.inr (fun _ => none)))))), ((u4 1), .inl (cI, 16, .inl (fun _ => 0))), ((u4 2), .inl (cI, 16, .inl (fun _ => 0)))] := hD
  refine W.widen (k := 8) (n := 82) (by omega) (by omega) ?_
  refine va_putF (C := RX6) (T := TX6) (N := 5) (ci := 6) (ty := (.object "StageDesk$Gifts")) (v := .ref q3) hx hb hts inX6 tyX6 tyX6_ok nmX6 hown hK hP hD hS 0 rfl rfl 1 (by decide) k23 (fun _ h9 => h9) rfl hin rfl (by decide +kernel) rfl rfl (Nat.le_of_ble_eq_true rfl) dX6_init_25 (fun H locs hP hD hS => ?_)
  have hP : va_P (dC, dI) vwCl [(h0, .inr (6, [.ref q1, .ref q3, .int 0, .int 0, .int 0])), (q1, .inr (1, [.ref (u2 0), .ref (u2 1), .ref (u2 2), .int 0])), ((u2 0), .inl (cI, 8, .inl (fun _ => 0))), ((u2 1), .inl (cI, 8, .inl (fun _ => 0))), ((u2 2), .inl (cI, 8, .inl (fun _ => 0))), (q3, .inr (2, [.ref (u4 0), .ref (u4 1), .ref (u4 2), .int 0, .int 0, .int (-1)])), ((u4 0), .inl (cS, 16, .inr (.inr (.inr (.inr (fun _ => none)))))), ((u4 1), .inl (cI, 16, .inl (fun _ => 0))), ((u4 2), .inl (cI, 16, .inl (fun _ => 0)))] H := hP
  have hD : va_D A [(h0, .inr (6, [.ref q1, .ref q3, .int 0, .int 0, .int 0])), (q1, .inr (1, [.ref (u2 0), .ref (u2 1), .ref (u2 2), .int 0])), ((u2 0), .inl (cI, 8, .inl (fun _ => 0))), ((u2 1), .inl (cI, 8, .inl (fun _ => 0))), ((u2 2), .inl (cI, 8, .inl (fun _ => 0))), (q3, .inr (2, [.ref (u4 0), .ref (u4 1), .ref (u4 2), .int 0, .int 0, .int (-1)])), ((u4 0), .inl (cS, 16, .inr (.inr (.inr (.inr (fun _ => none)))))), ((u4 1), .inl (cI, 16, .inl (fun _ => 0))), ((u4 2), .inl (cI, 16, .inl (fun _ => 0)))] := hD
  exact W.vret hx hb hr (fun t9 ht9 hW9 => ⟨⟨(fun j => [q1, (u2 0), (u2 1), (u2 2), q3, (u4 0), (u4 1), (u4 2)].getD j 0), rfl, trivial, by rw [ht9]; exact hP, hD⟩, hS.F ht9⟩) hS.2.2 dX6_init_28
set_option maxHeartbeats 4000000 in
set_option maxRecDepth 100000 in
theorem kX4_init (l : Launch) (dC : Nat → ClassId) (dI : Nat → Nat → Nat) (h0 sz : Nat) (cI cS cW : ClassId) : Met l yX4_init wsX4_init ({ frames := 1, cells := 4, slots := 200, locals := 20 } : Room) (va_Pc [.ref h0] (fun U => iPc dC dI cI cS cW sz [(h0, .inr (4, [.null, .null, .null, .null, .int 0, .int 0]))] U)) (va_Qv (fun (_ : Nat → Nat) => True) (fun u9 t9 => va_P (dC, dI) vwCl [(h0, .inr (4, [.ref (u9 0), .ref (u9 1), .ref (u9 2), .ref (u9 3), .int 0, .int 0])), ((u9 0), .inl (cI, 50, .inl (fun _ => 0))), ((u9 1), .inl (cS, 50, .inr (.inr (.inr (.inr (fun _ => none)))))), ((u9 2), .inl (cI, 50, .inl (fun _ => 0))), ((u9 3), .inl (cI, 50, .inl (fun _ => 0)))] t9.heap ∧ va_D (va_A [(h0, .inr (4, [.null, .null, .null, .null, .int 0, .int 0]))] sz) [(h0, .inr (4, [.ref (u9 0), .ref (u9 1), .ref (u9 2), .ref (u9 3), .int 0, .int 0])), ((u9 0), .inl (cI, 50, .inl (fun _ => 0))), ((u9 1), .inl (cS, 50, .inr (.inr (.inr (.inr (fun _ => none)))))), ((u9 2), .inl (cI, 50, .inl (fun _ => 0))), ((u9 3), .inl (cI, 50, .inl (fun _ => 0)))]) (va_A [(h0, .inr (4, [.null, .null, .null, .null, .int 0, .int 0]))] sz)) 4 (200) (va_A [(h0, .inr (4, [.null, .null, .null, .null, .int 0, .int 0]))] sz) := by
  refine Met.ofW (cc := cX4_init) (maxL := 1) (ret := none) (by decide) rfl ?_
  intro p e s m args below meth cd s₁ B hml hv
  obtain ⟨rfl, hsz, hP, hK, hD0, hN⟩ := hv
  have hx := B.exec
  have hb := B.bytes
  have hr := B.returns
  have hts := atoms_spec (ws := wsX4_init) B.pre
  have hown : s.vm.findClass RX4 = some m.cls := findClass_of_methodNamed B.named
  have hlocks := B.notSynchronized
  have hin : meth.name = "<init>" := (name_of_methodNamed B.named B.method).1
  subst hsz
  have hD := hD0.self (sz := s.heap.size)
  generalize hAe : va_A [(h0, .inr (4, [.null, .null, .null, .null, .int 0, .int 0]))] s.heap.size = A at hD ⊢
  have hA : ∀ q : Nat, s.heap.size ≤ q → A q := fun q h => by rw [← hAe]; exact Or.inr h
  have hS : va_S A s.heap s.heap [] := va_S.rf
  have k9 := hts (.fieldLink RX4 9 "StageDesk$Timers" "numbers" "[I") (by decide +kernel)
  have k17 := hts (.fieldLink RX4 17 "StageDesk$Timers" "stages" "[LStageDesk$Stage;") (by decide +kernel)
  have k21 := hts (.fieldLink RX4 21 "StageDesk$Timers" "values" "[I") (by decide +kernel)
  have k24 := hts (.fieldLink RX4 24 "StageDesk$Timers" "dues" "[I") (by decide +kernel)
  have inX4 : ∀ w ∈ u_ws RX4 TX4 6, w ∈ wsX4_init := by decide +kernel
  have hl := lv_entry ([.ref h0]) (n := 1) (Nat.le_of_ble_eq_true rfl)
  rw [lg_entry_eq]
  generalize (lg_sl ([.ref h0]) ++ List.replicate (1 - (lg_sl ([.ref h0])).length) Slot.unset).toArray = ls at hl ⊢
  have hl : lv_has ls 1 [(0, .ref h0)] := hl
  have hP : va_P (dC, dI) vwCl [(h0, .inr (4, [.null, .null, .null, .null, .int 0, .int 0]))] s.heap := hP
  refine lv_aload_n hx hb dX4_init_0 rfl (lv_at hl 0 rfl) ?_
  refine W.objInit hx hb hown (hts (.methodLink RX4 3 objectInit) (by decide +kernel)) (hts (.instanceMethod objectInit) (by decide +kernel)) (hts (.code objectInit ⟨#[0xb1]⟩ 1 none) (by decide +kernel)) rfl (by rw [hml]; exact hl.1) rfl dX4_init_1 (Nat.le_of_ble_eq_true rfl) (Nat.le_of_ble_eq_true rfl) ?_
  refine W.eq (g2 := F0 m 4 ls []) rfl ?_
  refine lv_aload_n hx hb dX4_init_4 rfl (lv_at hl 0 rfl) ?_
  refine lv_bipush (v := 50) hx hb dX4_init_5 (by decide) ?_
  refine va_newa (atype := .int) (ty := .int) hx hb (hts (.arrayClass .int) (by decide +kernel)) rfl hK hP hD hS hA (a0 := (50, .inl (fun _ => 0))) (fun _ => rfl) (by decide) rfl (by decide) (by show 0 + 1 ≤ 4; omega) (by show 0 + (50) ≤ 200; omega) dX4_init_7 (fun q1 cA H hK9 hP hD hS => ?_)
  obtain rfl : cI = cA := arr_one (t := .int) (hK.2 0 _ rfl).2 (hK9.2 3 _ rfl).2 (Or.inl rfl)
  have hP : va_P (dC, dI) vwCl [(h0, .inr (4, [.null, .null, .null, .null, .int 0, .int 0])), (q1, .inl (cI, 50, .inl (fun _ => 0)))] H := hP
  have hD : va_D A [(h0, .inr (4, [.null, .null, .null, .null, .int 0, .int 0])), (q1, .inl (cI, 50, .inl (fun _ => 0)))] := hD
  refine W.widen (k := 1) (n := 50) (by omega) (by omega) ?_
  refine va_putF (C := RX4) (T := TX4) (N := 6) (ci := 4) (ty := (.array .int)) (v := .ref q1) hx hb hts inX4 tyX4 tyX4_ok nmX4 hown hK hP hD hS 0 rfl rfl 0 (by decide) k9 (fun _ h9 => h9) rfl hin rfl (by decide +kernel) rfl rfl (Nat.le_of_ble_eq_true rfl) dX4_init_9 (fun H locs hP hD hS => ?_)
  have hP : va_P (dC, dI) vwCl [(h0, .inr (4, [.ref q1, .null, .null, .null, .int 0, .int 0])), (q1, .inl (cI, 50, .inl (fun _ => 0)))] H := hP
  have hD : va_D A [(h0, .inr (4, [.ref q1, .null, .null, .null, .int 0, .int 0])), (q1, .inl (cI, 50, .inl (fun _ => 0)))] := hD
  refine lv_aload_n hx hb dX4_init_12 rfl (lv_at hl 0 rfl) ?_
  refine lv_bipush (v := 50) hx hb dX4_init_13 (by decide) ?_
  refine va_newq (N' := 50) (C := RX3) hx hb hown (hts (.classLink RX4 15 RX3) (by decide +kernel)) hN.1 hK hP hD hS hA (by decide) rfl (by decide) (by show 1 + 1 ≤ 4; omega) (by show 50 + (50) ≤ 200; omega) dX4_init_15 (fun q2 cA H hK9 hP hD hS => ?_)
  obtain rfl : cS = cA := arr_oneO (C := RX3) (hK.2 1 _ rfl).2 (hK9.2 3 _ rfl).2
  have hP : va_P (dC, dI) vwCl [(h0, .inr (4, [.ref q1, .null, .null, .null, .int 0, .int 0])), (q1, .inl (cI, 50, .inl (fun _ => 0))), (q2, .inl (cS, 50, .inr (.inr (.inr (.inr (fun _ => none))))))] H := hP
  have hD : va_D A [(h0, .inr (4, [.ref q1, .null, .null, .null, .int 0, .int 0])), (q1, .inl (cI, 50, .inl (fun _ => 0))), (q2, .inl (cS, 50, .inr (.inr (.inr (.inr (fun _ => none))))))] := hD
  refine W.widen (k := 2) (n := 100) (by omega) (by omega) ?_
  refine va_putF (C := RX4) (T := TX4) (N := 6) (ci := 4) (ty := (.array (.object "StageDesk$Stage"))) (v := .ref q2) hx hb hts inX4 tyX4 tyX4_ok nmX4 hown hK hP hD hS 0 rfl rfl 1 (by decide) k17 (fun _ h9 => h9) rfl hin rfl (by decide +kernel) rfl rfl (Nat.le_of_ble_eq_true rfl) dX4_init_18 (fun H locs hP hD hS => ?_)
  have hP : va_P (dC, dI) vwCl [(h0, .inr (4, [.ref q1, .ref q2, .null, .null, .int 0, .int 0])), (q1, .inl (cI, 50, .inl (fun _ => 0))), (q2, .inl (cS, 50, .inr (.inr (.inr (.inr (fun _ => none))))))] H := hP
  have hD : va_D A [(h0, .inr (4, [.ref q1, .ref q2, .null, .null, .int 0, .int 0])), (q1, .inl (cI, 50, .inl (fun _ => 0))), (q2, .inl (cS, 50, .inr (.inr (.inr (.inr (fun _ => none))))))] := hD
  refine lv_aload_n hx hb dX4_init_21 rfl (lv_at hl 0 rfl) ?_
  refine lv_bipush (v := 50) hx hb dX4_init_22 (by decide) ?_
  refine va_newa (atype := .int) (ty := .int) hx hb (hts (.arrayClass .int) (by decide +kernel)) rfl hK hP hD hS hA (a0 := (50, .inl (fun _ => 0))) (fun _ => rfl) (by decide) rfl (by decide) (by show 2 + 1 ≤ 4; omega) (by show 100 + (50) ≤ 200; omega) dX4_init_24 (fun q3 cA H hK9 hP hD hS => ?_)
  obtain rfl : cI = cA := arr_one (t := .int) (hK.2 0 _ rfl).2 (hK9.2 3 _ rfl).2 (Or.inl rfl)
  have hP : va_P (dC, dI) vwCl [(h0, .inr (4, [.ref q1, .ref q2, .null, .null, .int 0, .int 0])), (q1, .inl (cI, 50, .inl (fun _ => 0))), (q2, .inl (cS, 50, .inr (.inr (.inr (.inr (fun _ => none)))))), (q3, .inl (cI, 50, .inl (fun _ => 0)))] H := hP
  have hD : va_D A [(h0, .inr (4, [.ref q1, .ref q2, .null, .null, .int 0, .int 0])), (q1, .inl (cI, 50, .inl (fun _ => 0))), (q2, .inl (cS, 50, .inr (.inr (.inr (.inr (fun _ => none)))))), (q3, .inl (cI, 50, .inl (fun _ => 0)))] := hD
  refine W.widen (k := 3) (n := 150) (by omega) (by omega) ?_
  refine va_putF (C := RX4) (T := TX4) (N := 6) (ci := 4) (ty := (.array .int)) (v := .ref q3) hx hb hts inX4 tyX4 tyX4_ok nmX4 hown hK hP hD hS 0 rfl rfl 2 (by decide) k21 (fun _ h9 => h9) rfl hin rfl (by decide +kernel) rfl rfl (Nat.le_of_ble_eq_true rfl) dX4_init_26 (fun H locs hP hD hS => ?_)
  have hP : va_P (dC, dI) vwCl [(h0, .inr (4, [.ref q1, .ref q2, .ref q3, .null, .int 0, .int 0])), (q1, .inl (cI, 50, .inl (fun _ => 0))), (q2, .inl (cS, 50, .inr (.inr (.inr (.inr (fun _ => none)))))), (q3, .inl (cI, 50, .inl (fun _ => 0)))] H := hP
  have hD : va_D A [(h0, .inr (4, [.ref q1, .ref q2, .ref q3, .null, .int 0, .int 0])), (q1, .inl (cI, 50, .inl (fun _ => 0))), (q2, .inl (cS, 50, .inr (.inr (.inr (.inr (fun _ => none)))))), (q3, .inl (cI, 50, .inl (fun _ => 0)))] := hD
  refine lv_aload_n hx hb dX4_init_29 rfl (lv_at hl 0 rfl) ?_
  refine lv_bipush (v := 50) hx hb dX4_init_30 (by decide) ?_
  refine va_newa (atype := .int) (ty := .int) hx hb (hts (.arrayClass .int) (by decide +kernel)) rfl hK hP hD hS hA (a0 := (50, .inl (fun _ => 0))) (fun _ => rfl) (by decide) rfl (by decide) (by show 3 + 1 ≤ 4; omega) (by show 150 + (50) ≤ 200; omega) dX4_init_32 (fun q4 cA H hK9 hP hD hS => ?_)
  obtain rfl : cI = cA := arr_one (t := .int) (hK.2 0 _ rfl).2 (hK9.2 3 _ rfl).2 (Or.inl rfl)
  have hP : va_P (dC, dI) vwCl [(h0, .inr (4, [.ref q1, .ref q2, .ref q3, .null, .int 0, .int 0])), (q1, .inl (cI, 50, .inl (fun _ => 0))), (q2, .inl (cS, 50, .inr (.inr (.inr (.inr (fun _ => none)))))), (q3, .inl (cI, 50, .inl (fun _ => 0))), (q4, .inl (cI, 50, .inl (fun _ => 0)))] H := hP
  have hD : va_D A [(h0, .inr (4, [.ref q1, .ref q2, .ref q3, .null, .int 0, .int 0])), (q1, .inl (cI, 50, .inl (fun _ => 0))), (q2, .inl (cS, 50, .inr (.inr (.inr (.inr (fun _ => none)))))), (q3, .inl (cI, 50, .inl (fun _ => 0))), (q4, .inl (cI, 50, .inl (fun _ => 0)))] := hD
  refine W.widen (k := 4) (n := 200) (by omega) (by omega) ?_
  refine va_putF (C := RX4) (T := TX4) (N := 6) (ci := 4) (ty := (.array .int)) (v := .ref q4) hx hb hts inX4 tyX4 tyX4_ok nmX4 hown hK hP hD hS 0 rfl rfl 3 (by decide) k24 (fun _ h9 => h9) rfl hin rfl (by decide +kernel) rfl rfl (Nat.le_of_ble_eq_true rfl) dX4_init_34 (fun H locs hP hD hS => ?_)
  have hP : va_P (dC, dI) vwCl [(h0, .inr (4, [.ref q1, .ref q2, .ref q3, .ref q4, .int 0, .int 0])), (q1, .inl (cI, 50, .inl (fun _ => 0))), (q2, .inl (cS, 50, .inr (.inr (.inr (.inr (fun _ => none)))))), (q3, .inl (cI, 50, .inl (fun _ => 0))), (q4, .inl (cI, 50, .inl (fun _ => 0)))] H := hP
  have hD : va_D A [(h0, .inr (4, [.ref q1, .ref q2, .ref q3, .ref q4, .int 0, .int 0])), (q1, .inl (cI, 50, .inl (fun _ => 0))), (q2, .inl (cS, 50, .inr (.inr (.inr (.inr (fun _ => none)))))), (q3, .inl (cI, 50, .inl (fun _ => 0))), (q4, .inl (cI, 50, .inl (fun _ => 0)))] := hD
  exact W.vret hx hb hr (fun t9 ht9 hW9 => ⟨⟨(fun j => [q1, q2, q3, q4].getD j 0), rfl, trivial, by rw [ht9]; exact hP, hD⟩, hS.F ht9⟩) hS.2.2 dX4_init_37
set_option maxHeartbeats 4000000 in
set_option maxRecDepth 100000 in
theorem kX0_init (l : Launch) (dC : Nat → ClassId) (dI : Nat → Nat → Nat) (h0 sz : Nat) (cI cS cW : ClassId) : Met l yX0_init wsX0_init ({ frames := 1, cells := 2, slots := 128, locals := 20 } : Room) (va_Pc [.ref h0] (fun U => iPc dC dI cI cS cW sz [(h0, .inr (0, [.null, .null, .int 0]))] U)) (va_Qv (fun (_ : Nat → Nat) => True) (fun u9 t9 => va_P (dC, dI) vwCl [(h0, .inr (0, [.ref (u9 0), .ref (u9 1), .int 0])), ((u9 0), .inl (cI, 64, .inl (fun _ => 0))), ((u9 1), .inl (cI, 64, .inl (fun _ => 0)))] t9.heap ∧ va_D (va_A [(h0, .inr (0, [.null, .null, .int 0]))] sz) [(h0, .inr (0, [.ref (u9 0), .ref (u9 1), .int 0])), ((u9 0), .inl (cI, 64, .inl (fun _ => 0))), ((u9 1), .inl (cI, 64, .inl (fun _ => 0)))]) (va_A [(h0, .inr (0, [.null, .null, .int 0]))] sz)) 2 (128) (va_A [(h0, .inr (0, [.null, .null, .int 0]))] sz) := by
  refine Met.ofW (cc := cX0_init) (maxL := 1) (ret := none) (by decide) rfl ?_
  intro p e s m args below meth cd s₁ B hml hv
  obtain ⟨rfl, hsz, hP, hK, hD0, hN⟩ := hv
  have hx := B.exec
  have hb := B.bytes
  have hr := B.returns
  have hts := atoms_spec (ws := wsX0_init) B.pre
  have hown : s.vm.findClass RX0 = some m.cls := findClass_of_methodNamed B.named
  have hlocks := B.notSynchronized
  have hin : meth.name = "<init>" := (name_of_methodNamed B.named B.method).1
  subst hsz
  have hD := hD0.self (sz := s.heap.size)
  generalize hAe : va_A [(h0, .inr (0, [.null, .null, .int 0]))] s.heap.size = A at hD ⊢
  have hA : ∀ q : Nat, s.heap.size ≤ q → A q := fun q h => by rw [← hAe]; exact Or.inr h
  have hS : va_S A s.heap s.heap [] := va_S.rf
  have k7 := hts (.fieldLink RX0 7 "StageDesk$DoneRow" "numbers" "[I") (by decide +kernel)
  have k13 := hts (.fieldLink RX0 13 "StageDesk$DoneRow" "values" "[I") (by decide +kernel)
  have inX0 : ∀ w ∈ u_ws RX0 TX0 3, w ∈ wsX0_init := by decide +kernel
  have hl := lv_entry ([.ref h0]) (n := 1) (Nat.le_of_ble_eq_true rfl)
  rw [lg_entry_eq]
  generalize (lg_sl ([.ref h0]) ++ List.replicate (1 - (lg_sl ([.ref h0])).length) Slot.unset).toArray = ls at hl ⊢
  have hl : lv_has ls 1 [(0, .ref h0)] := hl
  have hP : va_P (dC, dI) vwCl [(h0, .inr (0, [.null, .null, .int 0]))] s.heap := hP
  refine lv_aload_n hx hb dX0_init_0 rfl (lv_at hl 0 rfl) ?_
  refine W.objInit hx hb hown (hts (.methodLink RX0 1 objectInit) (by decide +kernel)) (hts (.instanceMethod objectInit) (by decide +kernel)) (hts (.code objectInit ⟨#[0xb1]⟩ 1 none) (by decide +kernel)) rfl (by rw [hml]; exact hl.1) rfl dX0_init_1 (Nat.le_of_ble_eq_true rfl) (Nat.le_of_ble_eq_true rfl) ?_
  refine W.eq (g2 := F0 m 4 ls []) rfl ?_
  refine lv_aload_n hx hb dX0_init_4 rfl (lv_at hl 0 rfl) ?_
  refine lv_bipush (v := 64) hx hb dX0_init_5 (by decide) ?_
  refine va_newa (atype := .int) (ty := .int) hx hb (hts (.arrayClass .int) (by decide +kernel)) rfl hK hP hD hS hA (a0 := (64, .inl (fun _ => 0))) (fun _ => rfl) (by decide) rfl (by decide) (by show 0 + 1 ≤ 2; omega) (by show 0 + (64) ≤ 128; omega) dX0_init_7 (fun q1 cA H hK9 hP hD hS => ?_)
  obtain rfl : cI = cA := arr_one (t := .int) (hK.2 0 _ rfl).2 (hK9.2 3 _ rfl).2 (Or.inl rfl)
  have hP : va_P (dC, dI) vwCl [(h0, .inr (0, [.null, .null, .int 0])), (q1, .inl (cI, 64, .inl (fun _ => 0)))] H := hP
  have hD : va_D A [(h0, .inr (0, [.null, .null, .int 0])), (q1, .inl (cI, 64, .inl (fun _ => 0)))] := hD
  refine W.widen (k := 1) (n := 64) (by omega) (by omega) ?_
  refine va_put (C := RX0) (T := TX0) (N := 3) (ci := 0) (ty := (.array .int)) (v := .ref q1) hx hb hts inX0 tyX0 tyX0_ok nmX0 hown hK hP hD hS 0 rfl rfl 0 (by decide) k7 (fun _ h9 => h9) rfl (by decide +kernel) rfl rfl (Nat.le_of_ble_eq_true rfl) dX0_init_9 (fun H locs hP hD hS => ?_)
  have hP : va_P (dC, dI) vwCl [(h0, .inr (0, [.ref q1, .null, .int 0])), (q1, .inl (cI, 64, .inl (fun _ => 0)))] H := hP
  have hD : va_D A [(h0, .inr (0, [.ref q1, .null, .int 0])), (q1, .inl (cI, 64, .inl (fun _ => 0)))] := hD
  refine lv_aload_n hx hb dX0_init_12 rfl (lv_at hl 0 rfl) ?_
  refine lv_bipush (v := 64) hx hb dX0_init_13 (by decide) ?_
  refine va_newa (atype := .int) (ty := .int) hx hb (hts (.arrayClass .int) (by decide +kernel)) rfl hK hP hD hS hA (a0 := (64, .inl (fun _ => 0))) (fun _ => rfl) (by decide) rfl (by decide) (by show 1 + 1 ≤ 2; omega) (by show 64 + (64) ≤ 128; omega) dX0_init_15 (fun q2 cA H hK9 hP hD hS => ?_)
  obtain rfl : cI = cA := arr_one (t := .int) (hK.2 0 _ rfl).2 (hK9.2 3 _ rfl).2 (Or.inl rfl)
  have hP : va_P (dC, dI) vwCl [(h0, .inr (0, [.ref q1, .null, .int 0])), (q1, .inl (cI, 64, .inl (fun _ => 0))), (q2, .inl (cI, 64, .inl (fun _ => 0)))] H := hP
  have hD : va_D A [(h0, .inr (0, [.ref q1, .null, .int 0])), (q1, .inl (cI, 64, .inl (fun _ => 0))), (q2, .inl (cI, 64, .inl (fun _ => 0)))] := hD
  refine W.widen (k := 2) (n := 128) (by omega) (by omega) ?_
  refine va_put (C := RX0) (T := TX0) (N := 3) (ci := 0) (ty := (.array .int)) (v := .ref q2) hx hb hts inX0 tyX0 tyX0_ok nmX0 hown hK hP hD hS 0 rfl rfl 1 (by decide) k13 (fun _ h9 => h9) rfl (by decide +kernel) rfl rfl (Nat.le_of_ble_eq_true rfl) dX0_init_17 (fun H locs hP hD hS => ?_)
  have hP : va_P (dC, dI) vwCl [(h0, .inr (0, [.ref q1, .ref q2, .int 0])), (q1, .inl (cI, 64, .inl (fun _ => 0))), (q2, .inl (cI, 64, .inl (fun _ => 0)))] H := hP
  have hD : va_D A [(h0, .inr (0, [.ref q1, .ref q2, .int 0])), (q1, .inl (cI, 64, .inl (fun _ => 0))), (q2, .inl (cI, 64, .inl (fun _ => 0)))] := hD
  exact W.vret hx hb hr (fun t9 ht9 hW9 => ⟨⟨(fun j => [q1, q2].getD j 0), rfl, trivial, by rw [ht9]; exact hP, hD⟩, hS.F ht9⟩) hS.2.2 dX0_init_20
set_option maxHeartbeats 4000000 in
set_option maxRecDepth 100000 in
theorem kX7_init (l : Launch) (dC : Nat → ClassId) (dI : Nat → Nat → Nat) (h0 sz : Nat) (cI cS cW : ClassId) : Met l yX7_init wsX7_init ({ frames := 2, cells := 9, slots := 345, locals := 40 } : Room) (va_Pc [.ref h0] (fun U => iPc dC dI cI cS cW sz [(h0, .inr (7, [.null, .null, .null, .int 0, .int 0, .int 0, .int 0]))] U)) (va_Qv (fun (_ : Nat → Nat) => True) (fun u9 t9 => va_P (dC, dI) vwCl [(h0, .inr (7, [.ref (u9 0), .ref (u9 1), .ref (u9 6), .int 0, .int 0, .int 0, .int 0])), ((u9 0), .inl (cS, 8, .inr (.inr (.inr (.inr (fun _ => none)))))), ((u9 1), .inr (4, [.ref (u9 2), .ref (u9 3), .ref (u9 4), .ref (u9 5), .int 0, .int 0])), ((u9 2), .inl (cI, 50, .inl (fun _ => 0))), ((u9 3), .inl (cS, 50, .inr (.inr (.inr (.inr (fun _ => none)))))), ((u9 4), .inl (cI, 50, .inl (fun _ => 0))), ((u9 5), .inl (cI, 50, .inl (fun _ => 0))), ((u9 6), .inr (0, [.ref (u9 7), .ref (u9 8), .int 0])), ((u9 7), .inl (cI, 64, .inl (fun _ => 0))), ((u9 8), .inl (cI, 64, .inl (fun _ => 0)))] t9.heap ∧ va_D (va_A [(h0, .inr (7, [.null, .null, .null, .int 0, .int 0, .int 0, .int 0]))] sz) [(h0, .inr (7, [.ref (u9 0), .ref (u9 1), .ref (u9 6), .int 0, .int 0, .int 0, .int 0])), ((u9 0), .inl (cS, 8, .inr (.inr (.inr (.inr (fun _ => none)))))), ((u9 1), .inr (4, [.ref (u9 2), .ref (u9 3), .ref (u9 4), .ref (u9 5), .int 0, .int 0])), ((u9 2), .inl (cI, 50, .inl (fun _ => 0))), ((u9 3), .inl (cS, 50, .inr (.inr (.inr (.inr (fun _ => none)))))), ((u9 4), .inl (cI, 50, .inl (fun _ => 0))), ((u9 5), .inl (cI, 50, .inl (fun _ => 0))), ((u9 6), .inr (0, [.ref (u9 7), .ref (u9 8), .int 0])), ((u9 7), .inl (cI, 64, .inl (fun _ => 0))), ((u9 8), .inl (cI, 64, .inl (fun _ => 0)))]) (va_A [(h0, .inr (7, [.null, .null, .null, .int 0, .int 0, .int 0, .int 0]))] sz)) 9 (345) (va_A [(h0, .inr (7, [.null, .null, .null, .int 0, .int 0, .int 0, .int 0]))] sz) := by
  refine Met.ofW (cc := cX7_init) (maxL := 1) (ret := none) (by decide) rfl ?_
  intro p e s m args below meth cd s₁ B hml hv
  obtain ⟨rfl, hsz, hP, hK, hD0, hN⟩ := hv
  have hx := B.exec
  have hb := B.bytes
  have hr := B.returns
  have hts := atoms_spec (ws := wsX7_init) B.pre
  have hown : s.vm.findClass RX7 = some m.cls := findClass_of_methodNamed B.named
  have hlocks := B.notSynchronized
  have hin : meth.name = "<init>" := (name_of_methodNamed B.named B.method).1
  subst hsz
  have hD := hD0.self (sz := s.heap.size)
  generalize hAe : va_A [(h0, .inr (7, [.null, .null, .null, .int 0, .int 0, .int 0, .int 0]))] s.heap.size = A at hD ⊢
  have hA : ∀ q : Nat, s.heap.size ≤ q → A q := fun q h => by rw [← hAe]; exact Or.inr h
  have hS : va_S A s.heap s.heap [] := va_S.rf
  have k11 := hts (.fieldLink RX7 11 "StageDesk" "stages" "[LStageDesk$Stage;") (by decide +kernel)
  have k18 := hts (.fieldLink RX7 18 "StageDesk" "timers" "LStageDesk$Timers;") (by decide +kernel)
  have k25 := hts (.fieldLink RX7 25 "StageDesk" "doneRow" "LStageDesk$DoneRow;") (by decide +kernel)
  have inX7 : ∀ w ∈ u_ws RX7 TX7 7, w ∈ wsX7_init := by decide +kernel
  have inX4 : ∀ w ∈ u_ws RX4 TX4 6, w ∈ wsX7_init := by decide +kernel
  have inX0 : ∀ w ∈ u_ws RX0 TX0 3, w ∈ wsX7_init := by decide +kernel
  have hl := lv_entry ([.ref h0]) (n := 1) (Nat.le_of_ble_eq_true rfl)
  rw [lg_entry_eq]
  generalize (lg_sl ([.ref h0]) ++ List.replicate (1 - (lg_sl ([.ref h0])).length) Slot.unset).toArray = ls at hl ⊢
  have hl : lv_has ls 1 [(0, .ref h0)] := hl
  have hP : va_P (dC, dI) vwCl [(h0, .inr (7, [.null, .null, .null, .int 0, .int 0, .int 0, .int 0]))] s.heap := hP
  refine lv_aload_n hx hb dX7_init_0 rfl (lv_at hl 0 rfl) ?_
  refine W.objInit hx hb hown (hts (.methodLink RX7 3 objectInit) (by decide +kernel)) (hts (.instanceMethod objectInit) (by decide +kernel)) (hts (.code objectInit ⟨#[0xb1]⟩ 1 none) (by decide +kernel)) rfl (by rw [hml]; exact hl.1) rfl dX7_init_1 (Nat.le_of_ble_eq_true rfl) (Nat.le_of_ble_eq_true rfl) ?_
  refine W.eq (g2 := F0 m 4 ls []) rfl ?_
  refine lv_aload_n hx hb dX7_init_4 rfl (lv_at hl 0 rfl) ?_
  refine lv_bipush (v := 8) hx hb dX7_init_5 (by decide) ?_
  refine va_newq (N' := 8) (C := RX3) hx hb hown (hts (.classLink RX7 9 RX3) (by decide +kernel)) hN.1 hK hP hD hS hA (by decide) rfl (by decide) (by show 0 + 1 ≤ 9; omega) (by show 0 + (8) ≤ 345; omega) dX7_init_7 (fun q1 cA H hK9 hP hD hS => ?_)
  obtain rfl : cS = cA := arr_oneO (C := RX3) (hK.2 1 _ rfl).2 (hK9.2 3 _ rfl).2
  have hP : va_P (dC, dI) vwCl [(h0, .inr (7, [.null, .null, .null, .int 0, .int 0, .int 0, .int 0])), (q1, .inl (cS, 8, .inr (.inr (.inr (.inr (fun _ => none))))))] H := hP
  have hD : va_D A [(h0, .inr (7, [.null, .null, .null, .int 0, .int 0, .int 0, .int 0])), (q1, .inl (cS, 8, .inr (.inr (.inr (.inr (fun _ => none))))))] := hD
  refine W.widen (k := 1) (n := 8) (by omega) (by omega) ?_
  refine va_putF (C := RX7) (T := TX7) (N := 7) (ci := 7) (ty := (.array (.object "StageDesk$Stage"))) (v := .ref q1) hx hb hts inX7 tyX7 tyX7_ok nmX7 hown hK hP hD hS 0 rfl rfl 0 (by decide) k11 (fun _ h9 => h9) rfl hin rfl (by decide +kernel) rfl rfl (Nat.le_of_ble_eq_true rfl) dX7_init_10 (fun H locs hP hD hS => ?_)
  have hP : va_P (dC, dI) vwCl [(h0, .inr (7, [.ref q1, .null, .null, .int 0, .int 0, .int 0, .int 0])), (q1, .inl (cS, 8, .inr (.inr (.inr (.inr (fun _ => none))))))] H := hP
  have hD : va_D A [(h0, .inr (7, [.ref q1, .null, .null, .int 0, .int 0, .int 0, .int 0])), (q1, .inl (cS, 8, .inr (.inr (.inr (.inr (fun _ => none))))))] := hD
  refine lv_aload_n hx hb dX7_init_13 rfl (lv_at hl 0 rfl) ?_
  refine va_new (ci := 4) (fs := [.null, .null, .null, .null, .int 0, .int 0]) (C := RX4) (T := TX4) (N := 6) hx hb hts inX4 tyX4 tyX4_ok hown (hts (.classLink RX7 15 RX4) (by decide +kernel)) (hts (.instantiable RX4 6) (by decide +kernel)) (hts (.initialized RX4) (by decide +kernel)) hK hP hD hS hA rfl (fun j hj => by rcases (show j = 0 ∨ j = 1 ∨ j = 2 ∨ j = 3 ∨ j = 4 ∨ j = 5 by omega) with rfl | rfl | rfl | rfl | rfl | rfl <;> rfl) (by show 1 + 1 ≤ 9; omega) (by show 8 + (6) ≤ 345; omega) dX7_init_14 (fun q2 H hP hD hS => ?_)
  have hP : va_P (dC, dI) vwCl [(h0, .inr (7, [.ref q1, .null, .null, .int 0, .int 0, .int 0, .int 0])), (q1, .inl (cS, 8, .inr (.inr (.inr (.inr (fun _ => none)))))), (q2, .inr (4, [.null, .null, .null, .null, .int 0, .int 0]))] H := hP
  have hD : va_D A [(h0, .inr (7, [.ref q1, .null, .null, .int 0, .int 0, .int 0, .int 0])), (q1, .inl (cS, 8, .inr (.inr (.inr (.inr (fun _ => none)))))), (q2, .inr (4, [.null, .null, .null, .null, .int 0, .int 0]))] := hD
  refine W.widen (k := 2) (n := 14) (by omega) (by omega) ?_
  refine lv_dup hx hb dX7_init_17 rfl ?_
  have hPc := hP.sub (ws' := [(q2, .inr (4, [.null, .null, .null, .null, .int 0, .int 0]))]) [2] rfl
  have hDc := hD.sub (ws' := [(q2, .inr (4, [.null, .null, .null, .null, .int 0, .int 0]))]) [2] (by decide) rfl
  have hFc := va_free (wc := [(q2, .inr (4, [.null, .null, .null, .null, .int 0, .int 0]))]) hD hS hA [2] rfl
  refine va_callv (va_runIN (As := []) (rest := [.ref q2, .ref h0]) ⟨hx, hb, hml, hown, hts⟩ (kX4_init l dC dI q2 H.size cI cS cW ) ⟨va_cnB 0 hts gX7_init_X4_init_n17 rfl rfl rfl hN.2.2.1 (hts (.initialized RX4) (by decide +kernel)) (by decide +kernel) ⟨Nat.le_of_ble_eq_true rfl, Nat.le_of_ble_eq_true rfl⟩, rfl, (hts (.instanceMethod yX4_init) (by decide +kernel))⟩ ⟨fun a U g9 mk w9 => ⟨w9.1, iPc_calling w9.2⟩, fun U hU hWm => ⟨rfl, iPc_of hPc hDc hK hN hU hWm⟩⟩ rfl rfl hl.1 rfl (lv_room (Nat.le_of_ble_eq_true rfl)) dX7_init_18 ⟨by show 2 + 4 ≤ 9; omega, by show 14 + (200) ≤ 345; omega⟩) hS (fun q _ h => hFc q h) hFc (fun u3 t9 H1 locs ht9 hvm9 _ hB9 hz1 hk1 hS => ?_)
  obtain ⟨hP1, hD1⟩ := hB9
  rw [ht9] at hP1
  obtain ⟨hP, hD⟩ := va_join (wr := [(h0, .inr (7, [.ref q1, .null, .null, .int 0, .int 0, .int 0, .int 0])), (q1, .inl (cS, 8, .inr (.inr (.inr (.inr (fun _ => none))))))]) (w1 := [(q2, .inr (4, [.ref (u3 0), .ref (u3 1), .ref (u3 2), .ref (u3 3), .int 0, .int 0])), ((u3 0), .inl (cI, 50, .inl (fun _ => 0))), ((u3 1), .inl (cS, 50, .inr (.inr (.inr (.inr (fun _ => none)))))), ((u3 2), .inl (cI, 50, .inl (fun _ => 0))), ((u3 3), .inl (cI, 50, .inl (fun _ => 0)))]) hP hD [2] [0, 1] rfl rfl (by decide) (by decide) hk1 hFc hP1 hD1
  generalize H1 = H at hP hS ⊢
  have hP : va_P (dC, dI) vwCl [(h0, .inr (7, [.ref q1, .null, .null, .int 0, .int 0, .int 0, .int 0])), (q1, .inl (cS, 8, .inr (.inr (.inr (.inr (fun _ => none)))))), (q2, .inr (4, [.ref (u3 0), .ref (u3 1), .ref (u3 2), .ref (u3 3), .int 0, .int 0])), ((u3 0), .inl (cI, 50, .inl (fun _ => 0))), ((u3 1), .inl (cS, 50, .inr (.inr (.inr (.inr (fun _ => none)))))), ((u3 2), .inl (cI, 50, .inl (fun _ => 0))), ((u3 3), .inl (cI, 50, .inl (fun _ => 0)))] H := hP
  have hD : va_D A [(h0, .inr (7, [.ref q1, .null, .null, .int 0, .int 0, .int 0, .int 0])), (q1, .inl (cS, 8, .inr (.inr (.inr (.inr (fun _ => none)))))), (q2, .inr (4, [.ref (u3 0), .ref (u3 1), .ref (u3 2), .ref (u3 3), .int 0, .int 0])), ((u3 0), .inl (cI, 50, .inl (fun _ => 0))), ((u3 1), .inl (cS, 50, .inr (.inr (.inr (.inr (fun _ => none)))))), ((u3 2), .inl (cI, 50, .inl (fun _ => 0))), ((u3 3), .inl (cI, 50, .inl (fun _ => 0)))] := hD
  refine W.widen (k := 6) (n := 214) (by omega) (by omega) ?_
  refine va_putF (C := RX7) (T := TX7) (N := 7) (ci := 7) (ty := (.object "StageDesk$Timers")) (v := .ref q2) hx hb hts inX7 tyX7 tyX7_ok nmX7 hown hK hP hD hS 0 rfl rfl 1 (by decide) k18 (fun _ h9 => h9) rfl hin rfl (by decide +kernel) rfl rfl (Nat.le_of_ble_eq_true rfl) dX7_init_21 (fun H locs hP hD hS => ?_)
  have hP : va_P (dC, dI) vwCl [(h0, .inr (7, [.ref q1, .ref q2, .null, .int 0, .int 0, .int 0, .int 0])), (q1, .inl (cS, 8, .inr (.inr (.inr (.inr (fun _ => none)))))), (q2, .inr (4, [.ref (u3 0), .ref (u3 1), .ref (u3 2), .ref (u3 3), .int 0, .int 0])), ((u3 0), .inl (cI, 50, .inl (fun _ => 0))), ((u3 1), .inl (cS, 50, .inr (.inr (.inr (.inr (fun _ => none)))))), ((u3 2), .inl (cI, 50, .inl (fun _ => 0))), ((u3 3), .inl (cI, 50, .inl (fun _ => 0)))] H := hP
  have hD : va_D A [(h0, .inr (7, [.ref q1, .ref q2, .null, .int 0, .int 0, .int 0, .int 0])), (q1, .inl (cS, 8, .inr (.inr (.inr (.inr (fun _ => none)))))), (q2, .inr (4, [.ref (u3 0), .ref (u3 1), .ref (u3 2), .ref (u3 3), .int 0, .int 0])), ((u3 0), .inl (cI, 50, .inl (fun _ => 0))), ((u3 1), .inl (cS, 50, .inr (.inr (.inr (.inr (fun _ => none)))))), ((u3 2), .inl (cI, 50, .inl (fun _ => 0))), ((u3 3), .inl (cI, 50, .inl (fun _ => 0)))] := hD
  refine lv_aload_n hx hb dX7_init_24 rfl (lv_at hl 0 rfl) ?_
  refine va_new (ci := 0) (fs := [.null, .null, .int 0]) (C := RX0) (T := TX0) (N := 3) hx hb hts inX0 tyX0 tyX0_ok hown (hts (.classLink RX7 22 RX0) (by decide +kernel)) (hts (.instantiable RX0 3) (by decide +kernel)) (hts (.initialized RX0) (by decide +kernel)) hK hP hD hS hA rfl (fun j hj => by rcases (show j = 0 ∨ j = 1 ∨ j = 2 by omega) with rfl | rfl | rfl <;> rfl) (by show 6 + 1 ≤ 9; omega) (by show 214 + (3) ≤ 345; omega) dX7_init_25 (fun q4 H hP hD hS => ?_)
  have hP : va_P (dC, dI) vwCl [(h0, .inr (7, [.ref q1, .ref q2, .null, .int 0, .int 0, .int 0, .int 0])), (q1, .inl (cS, 8, .inr (.inr (.inr (.inr (fun _ => none)))))), (q2, .inr (4, [.ref (u3 0), .ref (u3 1), .ref (u3 2), .ref (u3 3), .int 0, .int 0])), ((u3 0), .inl (cI, 50, .inl (fun _ => 0))), ((u3 1), .inl (cS, 50, .inr (.inr (.inr (.inr (fun _ => none)))))), ((u3 2), .inl (cI, 50, .inl (fun _ => 0))), ((u3 3), .inl (cI, 50, .inl (fun _ => 0))), (q4, .inr (0, [.null, .null, .int 0]))] H := hP
  have hD : va_D A [(h0, .inr (7, [.ref q1, .ref q2, .null, .int 0, .int 0, .int 0, .int 0])), (q1, .inl (cS, 8, .inr (.inr (.inr (.inr (fun _ => none)))))), (q2, .inr (4, [.ref (u3 0), .ref (u3 1), .ref (u3 2), .ref (u3 3), .int 0, .int 0])), ((u3 0), .inl (cI, 50, .inl (fun _ => 0))), ((u3 1), .inl (cS, 50, .inr (.inr (.inr (.inr (fun _ => none)))))), ((u3 2), .inl (cI, 50, .inl (fun _ => 0))), ((u3 3), .inl (cI, 50, .inl (fun _ => 0))), (q4, .inr (0, [.null, .null, .int 0]))] := hD
  refine W.widen (k := 7) (n := 217) (by omega) (by omega) ?_
  refine lv_dup hx hb dX7_init_28 rfl ?_
  have hPc := hP.sub (ws' := [(q4, .inr (0, [.null, .null, .int 0]))]) [7] rfl
  have hDc := hD.sub (ws' := [(q4, .inr (0, [.null, .null, .int 0]))]) [7] (by decide) rfl
  have hFc := va_free (wc := [(q4, .inr (0, [.null, .null, .int 0]))]) hD hS hA [7] rfl
  refine va_callv (va_runIN (As := []) (rest := [.ref q4, .ref h0]) ⟨hx, hb, hml, hown, hts⟩ (kX0_init l dC dI q4 H.size cI cS cW ) ⟨va_cnB 0 hts gX7_init_X0_init_n24 rfl rfl rfl hN.2.2.2.1 (hts (.initialized RX0) (by decide +kernel)) (by decide +kernel) ⟨Nat.le_of_ble_eq_true rfl, Nat.le_of_ble_eq_true rfl⟩, rfl, (hts (.instanceMethod yX0_init) (by decide +kernel))⟩ ⟨fun a U g9 mk w9 => ⟨w9.1, iPc_calling w9.2⟩, fun U hU hWm => ⟨rfl, iPc_of hPc hDc hK hN hU hWm⟩⟩ rfl rfl hl.1 rfl (lv_room (Nat.le_of_ble_eq_true rfl)) dX7_init_29 ⟨by show 7 + 2 ≤ 9; omega, by show 217 + (128) ≤ 345; omega⟩) hS (fun q _ h => hFc q h) hFc (fun u5 t9 H1 locs ht9 hvm9 _ hB9 hz1 hk1 hS => ?_)
  obtain ⟨hP1, hD1⟩ := hB9
  rw [ht9] at hP1
  obtain ⟨hP, hD⟩ := va_join (wr := [(h0, .inr (7, [.ref q1, .ref q2, .null, .int 0, .int 0, .int 0, .int 0])), (q1, .inl (cS, 8, .inr (.inr (.inr (.inr (fun _ => none)))))), (q2, .inr (4, [.ref (u3 0), .ref (u3 1), .ref (u3 2), .ref (u3 3), .int 0, .int 0])), ((u3 0), .inl (cI, 50, .inl (fun _ => 0))), ((u3 1), .inl (cS, 50, .inr (.inr (.inr (.inr (fun _ => none)))))), ((u3 2), .inl (cI, 50, .inl (fun _ => 0))), ((u3 3), .inl (cI, 50, .inl (fun _ => 0)))]) (w1 := [(q4, .inr (0, [.ref (u5 0), .ref (u5 1), .int 0])), ((u5 0), .inl (cI, 64, .inl (fun _ => 0))), ((u5 1), .inl (cI, 64, .inl (fun _ => 0)))]) hP hD [7] [0, 1, 2, 3, 4, 5, 6] rfl rfl (by decide) (by decide) hk1 hFc hP1 hD1
  generalize H1 = H at hP hS ⊢
  have hP : va_P (dC, dI) vwCl [(h0, .inr (7, [.ref q1, .ref q2, .null, .int 0, .int 0, .int 0, .int 0])), (q1, .inl (cS, 8, .inr (.inr (.inr (.inr (fun _ => none)))))), (q2, .inr (4, [.ref (u3 0), .ref (u3 1), .ref (u3 2), .ref (u3 3), .int 0, .int 0])), ((u3 0), .inl (cI, 50, .inl (fun _ => 0))), ((u3 1), .inl (cS, 50, .inr (.inr (.inr (.inr (fun _ => none)))))), ((u3 2), .inl (cI, 50, .inl (fun _ => 0))), ((u3 3), .inl (cI, 50, .inl (fun _ => 0))), (q4, .inr (0, [.ref (u5 0), .ref (u5 1), .int 0])), ((u5 0), .inl (cI, 64, .inl (fun _ => 0))), ((u5 1), .inl (cI, 64, .inl (fun _ => 0)))] H := hP
  have hD : va_D A [(h0, .inr (7, [.ref q1, .ref q2, .null, .int 0, .int 0, .int 0, .int 0])), (q1, .inl (cS, 8, .inr (.inr (.inr (.inr (fun _ => none)))))), (q2, .inr (4, [.ref (u3 0), .ref (u3 1), .ref (u3 2), .ref (u3 3), .int 0, .int 0])), ((u3 0), .inl (cI, 50, .inl (fun _ => 0))), ((u3 1), .inl (cS, 50, .inr (.inr (.inr (.inr (fun _ => none)))))), ((u3 2), .inl (cI, 50, .inl (fun _ => 0))), ((u3 3), .inl (cI, 50, .inl (fun _ => 0))), (q4, .inr (0, [.ref (u5 0), .ref (u5 1), .int 0])), ((u5 0), .inl (cI, 64, .inl (fun _ => 0))), ((u5 1), .inl (cI, 64, .inl (fun _ => 0)))] := hD
  refine W.widen (k := 9) (n := 345) (by omega) (by omega) ?_
  refine va_putF (C := RX7) (T := TX7) (N := 7) (ci := 7) (ty := (.object "StageDesk$DoneRow")) (v := .ref q4) hx hb hts inX7 tyX7 tyX7_ok nmX7 hown hK hP hD hS 0 rfl rfl 2 (by decide) k25 (fun _ h9 => h9) rfl hin rfl (by decide +kernel) rfl rfl (Nat.le_of_ble_eq_true rfl) dX7_init_32 (fun H locs hP hD hS => ?_)
  have hP : va_P (dC, dI) vwCl [(h0, .inr (7, [.ref q1, .ref q2, .ref q4, .int 0, .int 0, .int 0, .int 0])), (q1, .inl (cS, 8, .inr (.inr (.inr (.inr (fun _ => none)))))), (q2, .inr (4, [.ref (u3 0), .ref (u3 1), .ref (u3 2), .ref (u3 3), .int 0, .int 0])), ((u3 0), .inl (cI, 50, .inl (fun _ => 0))), ((u3 1), .inl (cS, 50, .inr (.inr (.inr (.inr (fun _ => none)))))), ((u3 2), .inl (cI, 50, .inl (fun _ => 0))), ((u3 3), .inl (cI, 50, .inl (fun _ => 0))), (q4, .inr (0, [.ref (u5 0), .ref (u5 1), .int 0])), ((u5 0), .inl (cI, 64, .inl (fun _ => 0))), ((u5 1), .inl (cI, 64, .inl (fun _ => 0)))] H := hP
  have hD : va_D A [(h0, .inr (7, [.ref q1, .ref q2, .ref q4, .int 0, .int 0, .int 0, .int 0])), (q1, .inl (cS, 8, .inr (.inr (.inr (.inr (fun _ => none)))))), (q2, .inr (4, [.ref (u3 0), .ref (u3 1), .ref (u3 2), .ref (u3 3), .int 0, .int 0])), ((u3 0), .inl (cI, 50, .inl (fun _ => 0))), ((u3 1), .inl (cS, 50, .inr (.inr (.inr (.inr (fun _ => none)))))), ((u3 2), .inl (cI, 50, .inl (fun _ => 0))), ((u3 3), .inl (cI, 50, .inl (fun _ => 0))), (q4, .inr (0, [.ref (u5 0), .ref (u5 1), .int 0])), ((u5 0), .inl (cI, 64, .inl (fun _ => 0))), ((u5 1), .inl (cI, 64, .inl (fun _ => 0)))] := hD
  exact W.vret hx hb hr (fun t9 ht9 hW9 => ⟨⟨(fun j => [q1, q2, (u3 0), (u3 1), (u3 2), (u3 3), q4, (u5 0), (u5 1)].getD j 0), rfl, trivial, by rw [ht9]; exact hP, hD⟩, hS.F ht9⟩) hS.2.2 dX7_init_35
