/-! stage(), its contract: the answer of the checks is d; d = 1: a stage is made -/
def stPost (cnt : Nat) (ad : Nat → Nat → Nat) (V0 : mM) (px1 px2 px4 d r9 : Int32) (u9 : Option (Nat → Nat → Nat)) : Prop := match u9 with
  | none => ¬ d = 1 ∧ r9 = d
  | some ad2 => d = 1 ∧ r9 = (stV V0 cnt px1 px2 px4 2 0 3) - (1 : Int32) ∧ ad2 2 0 = ad 2 0
def stWorld (dC : Nat → ClassId) (dI : Nat → Nat → Nat) (A : Nat → Prop) (ad : Nat → Nat → Nat) (cnt : Nat) (L : Nat → Nat → Nat) (cI cS cW : ClassId) (q : Nat × Nat) (V0 : mM) (c0 : Nat × Nat) (px1 px2 px3 px4 : Int32) (u9 : Option (Nat → Nat → Nat)) (t9 : State) : Prop := match u9 with
  | none => xM dC dI A ad cnt L cI cS cW q V0 c0 t9
  | some ad2 => xM dC dI A ad2 (cnt + 1) (nL L cnt px3.toNatClampNeg px2.toNatClampNeg) cI cS cW q (stV V0 cnt px1 px2 px4) c0 t9
def fX7_stage (L : Nat → Nat → Nat) (px1 : Int32) (px2 : Int32) (px3 : Int32) (px4 : Int32) (V0 : mM) (c0 : Nat × Nat) : Option (Int32) := (fX7_within L px1 (0 : Int32) (4 : Int32) V0 c0).bind fun u_1 => if u_1 = 0 then (some (-1 : Int32)) else ((fX7_within L px2 (1 : Int32) (32 : Int32) V0 c0).bind fun u_3 => if u_3 = 0 then (some (-1 : Int32)) else ((fX7_within L px3 (1 : Int32) (4 : Int32) V0 c0).bind fun u_5 => if u_5 = 0 then (some (-1 : Int32)) else ((fX7_within L px4 (0 : Int32) (9 : Int32) V0 c0).bind fun u_7 => if u_7 = 0 then (some (-1 : Int32)) else (if (V0 2 0 3) < (8 : Int32) then (some (1 : Int32)) else (some (-2 : Int32))))))
set_option maxHeartbeats 4000000 in
set_option maxRecDepth 100000 in
theorem kX7_stage (l : Launch) {dC : Nat → ClassId} {dI : Nat → Nat → Nat} {A : Nat → Prop} {ad : Nat → Nat → Nat} {cnt : Nat} {L : Nat → Nat → Nat} {cI cS cW : ClassId} {q : Nat × Nat} (hsh : xSh cnt L) (px1 px2 px3 px4 : Int32) (V0 : mM) (c0 : Nat × Nat) {d : Int32} (h : fX7_stage L px1 px2 px3 px4 V0 c0 = some d) (hcnt : V0 2 0 3 = Int32.ofNat cnt) (hd : d = 1 → cnt < 8 ∧ ¬ px2 < 0 ∧ px2.toNatClampNeg ≤ 32 ∧ (px3 = 1 ∨ px3 = 2 ∨ px3 = 3 ∨ px3 = 4)) : Met l yX7_stage wsX7_stage ({ frames := 4, cells := 45, slots := 600, locals := 86 } : Room) (va_Pc [.ref (ad 2 0), .int px1, .int px2, .int px3, .int px4] (fun U => xM dC dI A ad cnt L cI cS cW q V0 c0 U ∧ iNw U)) (va_Qi (fun r9 (u9 : Option (Nat → Nat → Nat)) => stPost cnt ad V0 px1 px2 px4 d r9 u9) (fun u9 t9 => stWorld dC dI A ad cnt L cI cS cW q V0 c0 px1 px2 px3 px4 u9 t9) A) 45 600 A := by
  refine Met.ofW (cc := cX7_stage) (maxL := 5) (ret := (some .int)) (by decide) rfl ?_
  intro p e s m args below meth cd s₁ B hml hv
  obtain ⟨rfl, ⟨hM, hK, hW, hAs⟩, hN⟩ := hv
  have hx := B.exec
  have hb := B.bytes
  have hr := B.returns
  have hts := atoms_spec (ws := wsX7_stage) B.pre
  have hown : s.vm.findClass RX7 = some m.cls := findClass_of_methodNamed B.named
  have hlocks := B.notSynchronized
  have hS : va_S A s.heap s.heap [] := va_S.rf
  have k33 := hts (.fieldLink RX7 33 "StageDesk" "stageCount" "I") (by decide +kernel)
  have inX7 : ∀ w ∈ u_ws RX7 TX7 7, w ∈ wsX7_stage := by decide +kernel
  have hret : ∀ {pc : Nat} (r9 : Int32) (H : Heap) (locs : List Loc) (ls : Array Slot), r9 = d → ¬ r9 = 1 → mP (dC, dI) vwCl A (xad ad q) (xce cI cS cW ad q L c0) (xex cnt L) V0 H → xW cnt V0 → va_S A s.heap H locs → decode cX7_stage pc = .ok (.ireturn, 1) → W p l e (headSpec wsX7_stage ({ frames := 4, cells := 45, slots := 600, locals := 86 } : Room)).room s m ([.ref (ad 2 0), .int px1, .int px2, .int px3, .int px4] : List Value).toArray below meth cd H locs 0 0 (MQ below (va_Qi (fun r9 (u9 : Option (Nat → Nat → Nat)) => stPost cnt ad V0 px1 px2 px4 d r9 u9) (fun u9 t9 => stWorld dC dI A ad cnt L cI cS cW q V0 c0 px1 px2 px3 px4 u9 t9) A) ([.ref (ad 2 0), .int px1, .int px2, .int px3, .int px4] : List Value).toArray s 45 600 A) (F0 m pc ls [.int r9]) := by
    intro pc r9 H locs ls e9 h9 hM hW hS hdg
    refine W.widen (k := 45) (n := 600) (by omega) (by omega) ?_
    exact W.iret (v := r9) hx hb hr (fun t9 ht9 hW9 => ⟨⟨r9, none, rfl, ⟨by rw [← e9]; exact h9, e9⟩, xM_of hM hK hW hAs hS.1 ht9 hW9⟩, hS.F ht9⟩) hS.2.2 hdg
  have hal : ∀ (H : Heap) (locs : List Loc) (ls : Array Slot), some (1 : Int32) = some d → mP (dC, dI) vwCl A (xad ad q) (xce cI cS cW ad q L c0) (xex cnt L) V0 H → xW cnt V0 → va_S A s.heap H locs → lv_has ls 5 [(0, .ref (ad 2 0)), (1, .int px1), (2, .int px2), (3, .int px3), (4, .int px4)] → W p l e (headSpec wsX7_stage ({ frames := 4, cells := 45, slots := 600, locals := 86 } : Room)).room s m ([.ref (ad 2 0), .int px1, .int px2, .int px3, .int px4] : List Value).toArray below meth cd H locs 0 0 (MQ below (va_Qi (fun r9 (u9 : Option (Nat → Nat → Nat)) => stPost cnt ad V0 px1 px2 px4 d r9 u9) (fun u9 t9 => stWorld dC dI A ad cnt L cI cS cW q V0 c0 px1 px2 px3 px4 u9 t9) A) ([.ref (ad 2 0), .int px1, .int px2, .int px3, .int px4] : List Value).toArray s 45 600 A) (F0 m 53 ls []) := by
    intro H locs ls e9 hM hW hS hl
    have e9 : 1 = d := Option.some.inj e9
    obtain ⟨h8, g1, g2, g3⟩ := hd e9.symm
    rcases g3 with rfl | rfl | rfl | rfl
    · exact stage_alloc_1 (bn := px2.toNatClampNeg) hx hb hml hown hts hsh h8 hcnt g1 rfl g2 hK hN hM hW hAs hS hl ⟨Nat.le_of_ble_eq_true rfl, Nat.le_of_ble_eq_true rfl⟩ ⟨Nat.le_of_ble_eq_true rfl, Nat.le_of_ble_eq_true rfl⟩ (fun h0 u H locs ls hM hW hS => W.iret (v := (stV V0 cnt px1 px2 px4 2 0 3) - (1 : Int32)) hx hb hr (fun t9 ht9 hW9 => ⟨⟨_, some (nad ad cnt h0 u), rfl, ⟨e9.symm, rfl, nad_old (L := L) h8 xe2⟩, xM_of hM hK hW hAs hS.1 ht9 hW9⟩, hS.F ht9⟩) hS.2.2 dX7_stage_90)
    · exact stage_alloc_2 (bn := px2.toNatClampNeg) hx hb hml hown hts hsh h8 hcnt g1 rfl g2 hK hN hM hW hAs hS hl ⟨Nat.le_of_ble_eq_true rfl, Nat.le_of_ble_eq_true rfl⟩ ⟨Nat.le_of_ble_eq_true rfl, Nat.le_of_ble_eq_true rfl⟩ (fun h0 u H locs ls hM hW hS => W.iret (v := (stV V0 cnt px1 px2 px4 2 0 3) - (1 : Int32)) hx hb hr (fun t9 ht9 hW9 => ⟨⟨_, some (nad ad cnt h0 u), rfl, ⟨e9.symm, rfl, nad_old (L := L) h8 xe2⟩, xM_of hM hK hW hAs hS.1 ht9 hW9⟩, hS.F ht9⟩) hS.2.2 dX7_stage_90)
    · exact stage_alloc_3 (bn := px2.toNatClampNeg) hx hb hml hown hts hsh h8 hcnt g1 rfl g2 hK hN hM hW hAs hS hl ⟨Nat.le_of_ble_eq_true rfl, Nat.le_of_ble_eq_true rfl⟩ ⟨Nat.le_of_ble_eq_true rfl, Nat.le_of_ble_eq_true rfl⟩ (fun h0 u H locs ls hM hW hS => W.iret (v := (stV V0 cnt px1 px2 px4 2 0 3) - (1 : Int32)) hx hb hr (fun t9 ht9 hW9 => ⟨⟨_, some (nad ad cnt h0 u), rfl, ⟨e9.symm, rfl, nad_old (L := L) h8 xe2⟩, xM_of hM hK hW hAs hS.1 ht9 hW9⟩, hS.F ht9⟩) hS.2.2 dX7_stage_90)
    · exact stage_alloc_4 (bn := px2.toNatClampNeg) hx hb hml hown hts hsh h8 hcnt g1 rfl g2 hK hN hM hW hAs hS hl ⟨Nat.le_of_ble_eq_true rfl, Nat.le_of_ble_eq_true rfl⟩ ⟨Nat.le_of_ble_eq_true rfl, Nat.le_of_ble_eq_true rfl⟩ (fun h0 u H locs ls hM hW hS => W.iret (v := (stV V0 cnt px1 px2 px4 2 0 3) - (1 : Int32)) hx hb hr (fun t9 ht9 hW9 => ⟨⟨_, some (nad ad cnt h0 u), rfl, ⟨e9.symm, rfl, nad_old (L := L) h8 xe2⟩, xM_of hM hK hW hAs hS.1 ht9 hW9⟩, hS.F ht9⟩) hS.2.2 dX7_stage_90)
  have hl := lv_entry ([.ref (ad 2 0), .int px1, .int px2, .int px3, .int px4]) (n := 5) (Nat.le_of_ble_eq_true rfl)
  rw [lg_entry_eq]
  generalize (lg_sl ([.ref (ad 2 0), .int px1, .int px2, .int px3, .int px4]) ++ List.replicate (5 - (lg_sl ([.ref (ad 2 0), .int px1, .int px2, .int px3, .int px4])).length) Slot.unset).toArray = ls at hl ⊢
  have hl : lv_has ls 5 [(0, .ref (ad 2 0)), (1, .int px1), (2, .int px2), (3, .int px3), (4, .int px4)] := hl
  unfold fX7_stage at h
  refine lv_iload_n hx hb dX7_stage_0 rfl (lv_at hl 1 rfl) ?_
  refine lv_iconst (v := 0) hx hb dX7_stage_1 (by decide) ?_
  refine lv_iconst (v := 4) hx hb dX7_stage_2 (by decide) ?_
  obtain ⟨u_1, hu_1, h⟩ := bindS h
  refine va_calli (va_runS (As := [.int px1, .int (0 : Int32), .int (4 : Int32)]) (rest := []) ⟨hx, hb, hml, hown, hts⟩ (kX7_within l hsh px1 (0 : Int32) (4 : Int32) V0 c0 hu_1) (va_cwS 3 hts gX7_stage_X7_within rfl rfl rfl (by decide +kernel) ⟨Nat.le_of_ble_eq_true rfl, Nat.le_of_ble_eq_true rfl⟩) ⟨fun a U g9 mk w9 => ⟨w9.1, xM_calling w9.2⟩, fun U hU hWm => ⟨rfl, xM_of hM hK hW hAs hS.1 hU hWm⟩⟩ rfl rfl hl.1 rfl (lv_room (Nat.le_of_ble_eq_true rfl)) dX7_stage_3 ⟨Nat.le_of_ble_eq_true rfl, Nat.le_of_ble_eq_true rfl⟩) hS (fun _ _ h9 => h9) (fun _ h9 => h9) (fun r9 u9 t9 H locs ht9 _ hw9 hB9 _ _ hS => ?_)
  rw [show r9 = u_1 from hw9]
  obtain ⟨hM, -, hW, -⟩ := hB9
  rw [ht9] at hM
  refine lv_if_eq (tgt := 39) hx hb dX7_stage_6 (by decide) (fun c_2 => ?_) (fun c_2 => ?_)
  · have h := iteT c_2 h
    refine lv_iconst (v := (-1)) hx hb dX7_stage_39 (by decide) ?_
    have e9 : (-1 : Int32) = d := Option.some.inj h
    exact hret (-1 : Int32) _ _ ls e9 (by decide) hM hW hS dX7_stage_40
  · have h := iteF c_2 h
    refine lv_iload_n hx hb dX7_stage_9 rfl (lv_at hl 2 rfl) ?_
    refine lv_iconst (v := 1) hx hb dX7_stage_10 (by decide) ?_
    refine lv_bipush (v := 32) hx hb dX7_stage_11 (by decide) ?_
    obtain ⟨u_3, hu_3, h⟩ := bindS h
    refine va_calli (va_runS (As := [.int px2, .int (1 : Int32), .int (32 : Int32)]) (rest := []) ⟨hx, hb, hml, hown, hts⟩ (kX7_within l hsh px2 (1 : Int32) (32 : Int32) V0 c0 hu_3) (va_cwS 3 hts gX7_stage_X7_within rfl rfl rfl (by decide +kernel) ⟨Nat.le_of_ble_eq_true rfl, Nat.le_of_ble_eq_true rfl⟩) ⟨fun a U g9 mk w9 => ⟨w9.1, xM_calling w9.2⟩, fun U hU hWm => ⟨rfl, xM_of hM hK hW hAs hS.1 hU hWm⟩⟩ rfl rfl hl.1 rfl (lv_room (Nat.le_of_ble_eq_true rfl)) dX7_stage_13 ⟨Nat.le_of_ble_eq_true rfl, Nat.le_of_ble_eq_true rfl⟩) hS (fun _ _ h9 => h9) (fun _ h9 => h9) (fun r9 u9 t9 H locs ht9 _ hw9 hB9 _ _ hS => ?_)
    rw [show r9 = u_3 from hw9]
    obtain ⟨hM, -, hW, -⟩ := hB9
    rw [ht9] at hM
    refine lv_if_eq (tgt := 39) hx hb dX7_stage_16 (by decide) (fun c_4 => ?_) (fun c_4 => ?_)
    · have h := iteT c_4 h
      refine lv_iconst (v := (-1)) hx hb dX7_stage_39 (by decide) ?_
      have e9 : (-1 : Int32) = d := Option.some.inj h
      exact hret (-1 : Int32) _ _ ls e9 (by decide) hM hW hS dX7_stage_40
    · have h := iteF c_4 h
      refine lv_iload_n hx hb dX7_stage_19 rfl (lv_at hl 3 rfl) ?_
      refine lv_iconst (v := 1) hx hb dX7_stage_20 (by decide) ?_
      refine lv_iconst (v := 4) hx hb dX7_stage_21 (by decide) ?_
      obtain ⟨u_5, hu_5, h⟩ := bindS h
      refine va_calli (va_runS (As := [.int px3, .int (1 : Int32), .int (4 : Int32)]) (rest := []) ⟨hx, hb, hml, hown, hts⟩ (kX7_within l hsh px3 (1 : Int32) (4 : Int32) V0 c0 hu_5) (va_cwS 3 hts gX7_stage_X7_within rfl rfl rfl (by decide +kernel) ⟨Nat.le_of_ble_eq_true rfl, Nat.le_of_ble_eq_true rfl⟩) ⟨fun a U g9 mk w9 => ⟨w9.1, xM_calling w9.2⟩, fun U hU hWm => ⟨rfl, xM_of hM hK hW hAs hS.1 hU hWm⟩⟩ rfl rfl hl.1 rfl (lv_room (Nat.le_of_ble_eq_true rfl)) dX7_stage_22 ⟨Nat.le_of_ble_eq_true rfl, Nat.le_of_ble_eq_true rfl⟩) hS (fun _ _ h9 => h9) (fun _ h9 => h9) (fun r9 u9 t9 H locs ht9 _ hw9 hB9 _ _ hS => ?_)
      rw [show r9 = u_5 from hw9]
      obtain ⟨hM, -, hW, -⟩ := hB9
      rw [ht9] at hM
      refine lv_if_eq (tgt := 39) hx hb dX7_stage_25 (by decide) (fun c_6 => ?_) (fun c_6 => ?_)
      · have h := iteT c_6 h
        refine lv_iconst (v := (-1)) hx hb dX7_stage_39 (by decide) ?_
        have e9 : (-1 : Int32) = d := Option.some.inj h
        exact hret (-1 : Int32) _ _ ls e9 (by decide) hM hW hS dX7_stage_40
      · have h := iteF c_6 h
        refine lv_iload hx hb dX7_stage_28 (lv_at hl 4 rfl) ?_
        refine lv_iconst (v := 0) hx hb dX7_stage_30 (by decide) ?_
        refine lv_bipush (v := 9) hx hb dX7_stage_31 (by decide) ?_
        obtain ⟨u_7, hu_7, h⟩ := bindS h
        refine va_calli (va_runS (As := [.int px4, .int (0 : Int32), .int (9 : Int32)]) (rest := []) ⟨hx, hb, hml, hown, hts⟩ (kX7_within l hsh px4 (0 : Int32) (9 : Int32) V0 c0 hu_7) (va_cwS 3 hts gX7_stage_X7_within rfl rfl rfl (by decide +kernel) ⟨Nat.le_of_ble_eq_true rfl, Nat.le_of_ble_eq_true rfl⟩) ⟨fun a U g9 mk w9 => ⟨w9.1, xM_calling w9.2⟩, fun U hU hWm => ⟨rfl, xM_of hM hK hW hAs hS.1 hU hWm⟩⟩ rfl rfl hl.1 rfl (lv_room (Nat.le_of_ble_eq_true rfl)) dX7_stage_33 ⟨Nat.le_of_ble_eq_true rfl, Nat.le_of_ble_eq_true rfl⟩) hS (fun _ _ h9 => h9) (fun _ h9 => h9) (fun r9 u9 t9 H locs ht9 _ hw9 hB9 _ _ hS => ?_)
        rw [show r9 = u_7 from hw9]
        obtain ⟨hM, -, hW, -⟩ := hB9
        rw [ht9] at hM
        refine lv_if_ne (tgt := 41) hx hb dX7_stage_36 (by decide) (fun c_8 => ?_) (fun c_8 => ?_)
        · have h := iteF c_8 h
          refine lv_aload_n hx hb dX7_stage_41 rfl (lv_at hl 0 rfl) ?_
          refine mm_get (C := RX7) (T := TX7) (N := 7) (ci := 7) hx hb hts inX7 hown hK hM 2 0 xe2 rfl rfl 3 (by decide) k33 (fun _ h9 => h9) rfl dX7_stage_42 ?_
          refine lv_bipush (v := 8) hx hb dX7_stage_45 (by decide) ?_
          refine lv_icmp_lt (tgt := 53) hx hb dX7_stage_47 (by decide) (fun c_9 => ?_) (fun c_9 => ?_)
          · have h := iteT c_9 h
            exact hal _ _ ls h hM hW hS (lv_sub hl [0, 1, 2, 3, 4] rfl)
          · have h := iteF c_9 h
            refine lv_bipush (v := (-2)) hx hb dX7_stage_50 (by decide) ?_
            have e9 : (-2 : Int32) = d := Option.some.inj h
            exact hret (-2 : Int32) _ _ ls e9 (by decide) hM hW hS dX7_stage_52
        · have h := iteT c_8 h
          refine lv_iconst (v := (-1)) hx hb dX7_stage_39 (by decide) ?_
          have e9 : (-1 : Int32) = d := Option.some.inj h
          exact hret (-1 : Int32) _ _ ls e9 (by decide) hM hW hS dX7_stage_40
