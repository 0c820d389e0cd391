/-! X7_within -/
def fX7_within (L : Nat → Nat → Nat) (px0 : Int32) (px1 : Int32) (px2 : Int32) (V0 : mM) (c0 : Nat × Nat) : Option (Int32) := if px0 < px1 then (some (0 : Int32)) else (if px2 < px0 then (some (0 : Int32)) else (some (1 : Int32)))
set_option maxHeartbeats 4000000 in
set_option maxRecDepth 100000 in
theorem kX7_within (l : Launch) {dC : Nat → ClassId} {dI : Nat → Nat → Nat} {A : Nat → Prop} {ad : Nat → Nat → Nat} {cnt : Nat} {L : Nat → Nat → Nat} {cI cS cW : ClassId} {q : Nat × Nat} (hsh : xSh cnt L) (px0 : Int32) (px1 : Int32) (px2 : Int32) (V0 : mM) (c0 : Nat × Nat) {res : Int32} (h : fX7_within L px0 px1 px2 V0 c0 = some res) : Met l yX7_within wsX7_within ({ frames := 0, cells := 0, slots := 0, locals := 0 } : Room) (va_Pc [.int px0, .int px1, .int px2] (fun U => xM dC dI A ad cnt L cI cS cW q V0 c0 U)) (va_Qi (fun r9 (_ : Unit) => r9 = res) (fun _ t9 => xM dC dI A ad cnt L cI cS cW q V0 c0 t9) A) 0 0 A := by
  refine Met.ofW (cc := cX7_within) (maxL := 3) (ret := (some .boolean)) (by decide) rfl ?_
  intro p e s m args below meth cd s₁ B hml hv
  obtain ⟨rfl, hM, hK, hW, hAs⟩ := hv
  have hx := B.exec
  have hb := B.bytes
  have hr := B.returns
  have hts := atoms_spec (ws := wsX7_within) B.pre
  have hown : s.vm.findClass RX7 = some m.cls := findClass_of_methodNamed B.named
  have hlocks := B.notSynchronized
  have hS : va_S A s.heap s.heap [] := va_S.rf
  have hl := lv_entry ([.int px0, .int px1, .int px2]) (n := 3) (Nat.le_of_ble_eq_true rfl)
  rw [lg_entry_eq]
  generalize (lg_sl ([.int px0, .int px1, .int px2]) ++ List.replicate (3 - (lg_sl ([.int px0, .int px1, .int px2])).length) Slot.unset).toArray = ls at hl ⊢
  have hl : lv_has ls 3 [(0, .int px0), (1, .int px1), (2, .int px2)] := hl
  unfold fX7_within at h
  refine lv_iload_n hx hb dX7_within_0 rfl (lv_at hl 0 rfl) ?_
  refine lv_iload_n hx hb dX7_within_1 rfl (lv_at hl 1 rfl) ?_
  refine lv_icmp_lt (tgt := 14) hx hb dX7_within_2 (by decide) (fun c_1 => ?_) (fun c_1 => ?_)
  · have h := iteT c_1 h
    refine lv_iconst (v := 0) hx hb dX7_within_14 (by decide) ?_
    have e9 : (0 : Int32) = res := Option.some.inj h
    subst e9
    exact W.zret (v := (0 : Int32)) (ty := .boolean) hx hb hr rfl (fun t9 ht9 hW9 => ⟨⟨_, (), rfl, rfl, xM_of hM hK hW hAs hS.1 ht9 hW9⟩, hS.F ht9⟩) hS.2.2 dX7_within_15
  · have h := iteF c_1 h
    refine lv_iload_n hx hb dX7_within_5 rfl (lv_at hl 0 rfl) ?_
    refine lv_iload_n hx hb dX7_within_6 rfl (lv_at hl 2 rfl) ?_
    refine lv_icmp_gt (tgt := 14) hx hb dX7_within_7 (by decide) (fun c_2 => ?_) (fun c_2 => ?_)
    · have h := iteT c_2 h
      refine lv_iconst (v := 0) hx hb dX7_within_14 (by decide) ?_
      have e9 : (0 : Int32) = res := Option.some.inj h
      subst e9
      exact W.zret (v := (0 : Int32)) (ty := .boolean) hx hb hr rfl (fun t9 ht9 hW9 => ⟨⟨_, (), rfl, rfl, xM_of hM hK hW hAs hS.1 ht9 hW9⟩, hS.F ht9⟩) hS.2.2 dX7_within_15
    · have h := iteF c_2 h
      refine lv_iconst (v := 1) hx hb dX7_within_10 (by decide) ?_
      refine lv_goto (tgt := 15) hx hb dX7_within_11 (by decide) ?_
      have e9 : (1 : Int32) = res := Option.some.inj h
      subst e9
      exact W.zret (v := (1 : Int32)) (ty := .boolean) hx hb hr rfl (fun t9 ht9 hW9 => ⟨⟨_, (), rfl, rfl, xM_of hM hK hW hAs hS.1 ht9 hW9⟩, hS.F ht9⟩) hS.2.2 dX7_within_15
/-! X7_stageAt -/
def fX7_stageAt (L : Nat → Nat → Nat) (px1 : Int32) (V0 : mM) (c0 : Nat × Nat) : Option (Int32) := (fX7_within L px1 (0 : Int32) ((V0 2 0 3) - (1 : Int32)) V0 c0).bind fun u_1 => if u_1 = 0 then (some (-1 : Int32)) else (if bin px1 8 = true then (some (V0 4 0 (px1).toNatClampNeg)) else none)
set_option maxHeartbeats 4000000 in
set_option maxRecDepth 100000 in
theorem kX7_stageAt (l : Launch) {dC : Nat → ClassId} {dI : Nat → Nat → Nat} {A : Nat → Prop} {ad : Nat → Nat → Nat} {cnt : Nat} {L : Nat → Nat → Nat} {cI cS cW : ClassId} {q : Nat × Nat} (hsh : xSh cnt L) (px1 : Int32) (V0 : mM) (c0 : Nat × Nat) {res : Int32} (h : fX7_stageAt L px1 V0 c0 = some res) : Met l yX7_stageAt wsX7_stageAt ({ frames := 1, cells := 0, slots := 0, locals := 22 } : Room) (va_Pc [.ref (ad 2 0), .int px1] (fun U => xM dC dI A ad cnt L cI cS cW q V0 c0 U)) (va_Qq (fun r9 (_ : Unit) => r9 = rO ad res ∧ okS cnt res) (fun _ t9 => xM dC dI A ad cnt L cI cS cW q V0 c0 t9) A) 0 0 A := by
  refine Met.ofW (cc := cX7_stageAt) (maxL := 2) (ret := (some (.object "StageDesk$Stage"))) (by decide) rfl ?_
  intro p e s m args below meth cd s₁ B hml hv
  obtain ⟨rfl, hM, hK, hW, hAs⟩ := hv
  have hx := B.exec
  have hb := B.bytes
  have hr := B.returns
  have hts := atoms_spec (ws := wsX7_stageAt) B.pre
  have hown : s.vm.findClass RX7 = some m.cls := findClass_of_methodNamed B.named
  have hlocks := B.notSynchronized
  have hS : va_S A s.heap s.heap [] := va_S.rf
  have k33 := hts (.fieldLink RX7 33 "StageDesk" "stageCount" "I") (by decide +kernel)
  have k11 := hts (.fieldLink RX7 11 "StageDesk" "stages" "[LStageDesk$Stage;") (by decide +kernel)
  have inX7 : ∀ w ∈ u_ws RX7 TX7 7, w ∈ wsX7_stageAt := by decide +kernel
  have hl := lv_entry ([.ref (ad 2 0), .int px1]) (n := 2) (Nat.le_of_ble_eq_true rfl)
  rw [lg_entry_eq]
  generalize (lg_sl ([.ref (ad 2 0), .int px1]) ++ List.replicate (2 - (lg_sl ([.ref (ad 2 0), .int px1])).length) Slot.unset).toArray = ls at hl ⊢
  have hl : lv_has ls 2 [(0, .ref (ad 2 0)), (1, .int px1)] := hl
  unfold fX7_stageAt at h
  refine lv_iload_n hx hb dX7_stageAt_0 rfl (lv_at hl 1 rfl) ?_
  refine lv_iconst (v := 0) hx hb dX7_stageAt_1 (by decide) ?_
  refine lv_aload_n hx hb dX7_stageAt_2 rfl (lv_at hl 0 rfl) ?_
  refine mm_get (C := RX7) (T := TX7) (N := 7) (ci := 7) hx hb hts inX7 hown hK hM 2 0 xe2 rfl rfl 3 (by decide) k33 (fun _ h9 => h9) rfl dX7_stageAt_3 ?_
  refine lv_iconst (v := 1) hx hb dX7_stageAt_6 (by decide) ?_
  refine lv_isub hx hb dX7_stageAt_7 ?_
  obtain ⟨u_1, hu_1, h⟩ := bindS h
  refine va_calli (va_runS (As := [.int px1, .int (0 : Int32), .int ((V0 2 0 3) - (1 : Int32))]) (rest := []) ⟨hx, hb, hml, hown, hts⟩ (kX7_within l hsh px1 (0 : Int32) ((V0 2 0 3) - (1 : Int32)) V0 c0 hu_1) (va_cwS 3 hts gX7_stageAt_X7_within rfl rfl rfl (by decide +kernel) ⟨Nat.le_of_ble_eq_true rfl, Nat.le_of_ble_eq_true rfl⟩) ⟨fun a U g9 mk w9 => ⟨w9.1, xM_calling w9.2⟩, fun U hU hWm => ⟨rfl, xM_of hM hK hW hAs hS.1 hU hWm⟩⟩ rfl rfl hl.1 rfl (lv_room (Nat.le_of_ble_eq_true rfl)) dX7_stageAt_8 ⟨Nat.le_of_ble_eq_true rfl, Nat.le_of_ble_eq_true rfl⟩) hS (fun _ _ h9 => h9) (fun _ h9 => h9) (fun r9 u9 t9 H locs ht9 _ hw9 hB9 _ _ hS => ?_)
  rw [show r9 = u_1 from hw9]
  obtain ⟨hM, -, hW, -⟩ := hB9
  rw [ht9] at hM
  refine lv_if_eq (tgt := 23) hx hb dX7_stageAt_11 (by decide) (fun c_2 => ?_) (fun c_2 => ?_)
  · have h := iteT c_2 h
    refine lv_null hx hb dX7_stageAt_23 ?_
    rw [← rO_null ad]
    have e9 : (-1 : Int32) = res := Option.some.inj h
    subst e9
    exact W.aret hx hb hr (Or.inl ⟨_, rfl⟩) (va_rf_or _) (fun t9 ht9 hW9 => ⟨⟨_, (), rfl, ⟨rfl, okS_null⟩, xM_of hM hK hW hAs hS.1 ht9 hW9⟩, hS.F ht9⟩) hS.2.2 dX7_stageAt_24
  · have h := iteF c_2 h
    refine lv_aload_n hx hb dX7_stageAt_14 rfl (lv_at hl 0 rfl) ?_
    refine mm_get (C := RX7) (T := TX7) (N := 7) (ci := 7) hx hb hts inX7 hown hK hM 2 0 xe2 rfl rfl 0 (by decide) k11 (fun _ h9 => h9) rfl dX7_stageAt_15 ?_
    refine lv_iload_n hx hb dX7_stageAt_18 rfl (lv_at hl 1 rfl) ?_
    obtain ⟨b_3, h⟩ := iteS h
    refine mm_aald hx hb hK hM 4 0 xe4 1 rfl rfl (bin_in b_3) dX7_stageAt_19 ?_
    have ok_4 : okS cnt (V0 4 0 (px1).toNatClampNeg) := hW 4 0 _ rfl
    refine lv_goto (tgt := 24) hx hb dX7_stageAt_20 (by decide) ?_
    have e9 : (V0 4 0 (px1).toNatClampNeg) = res := Option.some.inj h
    subst e9
    exact W.aret hx hb hr (Or.inl ⟨_, rfl⟩) (va_rf_or _) (fun t9 ht9 hW9 => ⟨⟨_, (), rfl, ⟨rfl, ok_4⟩, xM_of hM hK hW hAs hS.1 ht9 hW9⟩, hS.F ht9⟩) hS.2.2 dX7_stageAt_24
/-! X7_isTarget -/
def fX7_isTarget (L : Nat → Nat → Nat) (px1 : Int32) (V0 : mM) (c0 : Nat × Nat) : Option (Int32) := (fX7_within L px1 (-1 : Int32) ((V0 2 0 3) - (1 : Int32)) V0 c0).bind fun u_1 => if bz u_1 = true then (some u_1) else none
set_option maxHeartbeats 4000000 in
set_option maxRecDepth 100000 in
theorem kX7_isTarget (l : Launch) {dC : Nat → ClassId} {dI : Nat → Nat → Nat} {A : Nat → Prop} {ad : Nat → Nat → Nat} {cnt : Nat} {L : Nat → Nat → Nat} {cI cS cW : ClassId} {q : Nat × Nat} (hsh : xSh cnt L) (px1 : Int32) (V0 : mM) (c0 : Nat × Nat) {res : Int32} (h : fX7_isTarget L px1 V0 c0 = some res) : Met l yX7_isTarget wsX7_isTarget ({ frames := 1, cells := 0, slots := 0, locals := 22 } : Room) (va_Pc [.ref (ad 2 0), .int px1] (fun U => xM dC dI A ad cnt L cI cS cW q V0 c0 U)) (va_Qi (fun r9 (_ : Unit) => r9 = res) (fun _ t9 => xM dC dI A ad cnt L cI cS cW q V0 c0 t9) A) 0 0 A := by
  refine Met.ofW (cc := cX7_isTarget) (maxL := 2) (ret := (some .boolean)) (by decide) rfl ?_
  intro p e s m args below meth cd s₁ B hml hv
  obtain ⟨rfl, hM, hK, hW, hAs⟩ := hv
  have hx := B.exec
  have hb := B.bytes
  have hr := B.returns
  have hts := atoms_spec (ws := wsX7_isTarget) B.pre
  have hown : s.vm.findClass RX7 = some m.cls := findClass_of_methodNamed B.named
  have hlocks := B.notSynchronized
  have hS : va_S A s.heap s.heap [] := va_S.rf
  have k33 := hts (.fieldLink RX7 33 "StageDesk" "stageCount" "I") (by decide +kernel)
  have inX7 : ∀ w ∈ u_ws RX7 TX7 7, w ∈ wsX7_isTarget := by decide +kernel
  have hl := lv_entry ([.ref (ad 2 0), .int px1]) (n := 2) (Nat.le_of_ble_eq_true rfl)
  rw [lg_entry_eq]
  generalize (lg_sl ([.ref (ad 2 0), .int px1]) ++ List.replicate (2 - (lg_sl ([.ref (ad 2 0), .int px1])).length) Slot.unset).toArray = ls at hl ⊢
  have hl : lv_has ls 2 [(0, .ref (ad 2 0)), (1, .int px1)] := hl
  unfold fX7_isTarget at h
  refine lv_iload_n hx hb dX7_isTarget_0 rfl (lv_at hl 1 rfl) ?_
  refine lv_iconst (v := (-1)) hx hb dX7_isTarget_1 (by decide) ?_
  refine lv_aload_n hx hb dX7_isTarget_2 rfl (lv_at hl 0 rfl) ?_
  refine mm_get (C := RX7) (T := TX7) (N := 7) (ci := 7) hx hb hts inX7 hown hK hM 2 0 xe2 rfl rfl 3 (by decide) k33 (fun _ h9 => h9) rfl dX7_isTarget_3 ?_
  refine lv_iconst (v := 1) hx hb dX7_isTarget_6 (by decide) ?_
  refine lv_isub hx hb dX7_isTarget_7 ?_
  obtain ⟨u_1, hu_1, h⟩ := bindS h
  refine va_calli (va_runS (As := [.int px1, .int (-1 : Int32), .int ((V0 2 0 3) - (1 : Int32))]) (rest := []) ⟨hx, hb, hml, hown, hts⟩ (kX7_within l hsh px1 (-1 : Int32) ((V0 2 0 3) - (1 : Int32)) V0 c0 hu_1) (va_cwS 3 hts gX7_isTarget_X7_within rfl rfl rfl (by decide +kernel) ⟨Nat.le_of_ble_eq_true rfl, Nat.le_of_ble_eq_true rfl⟩) ⟨fun a U g9 mk w9 => ⟨w9.1, xM_calling w9.2⟩, fun U hU hWm => ⟨rfl, xM_of hM hK hW hAs hS.1 hU hWm⟩⟩ rfl rfl hl.1 rfl (lv_room (Nat.le_of_ble_eq_true rfl)) dX7_isTarget_8 ⟨Nat.le_of_ble_eq_true rfl, Nat.le_of_ble_eq_true rfl⟩) hS (fun _ _ h9 => h9) (fun _ h9 => h9) (fun r9 u9 t9 H locs ht9 _ hw9 hB9 _ _ hS => ?_)
  rw [show r9 = u_1 from hw9]
  obtain ⟨hM, -, hW, -⟩ := hB9
  rw [ht9] at hM
  obtain ⟨b_2, h⟩ := iteS h
  have e9 : u_1 = res := Option.some.inj h
  subst e9
  exact W.zret (v := u_1) (ty := .boolean) hx hb hr (bz_nar b_2) (fun t9 ht9 hW9 => ⟨⟨_, (), rfl, rfl, xM_of hM hK hW hAs hS.1 ht9 hW9⟩, hS.F ht9⟩) hS.2.2 dX7_isTarget_11
/-! X7_targets -/
def fX7_targets (L : Nat → Nat → Nat) (px1 : Int32) (px2 : Int32) (px3 : Int32) (V0 : mM) (c0 : Nat × Nat) : Option (Int32 × mM) := (fX7_stageAt L px1 V0 c0).bind fun u_1 => if u_1 < 0 then (some ((-1 : Int32), V0)) else ((fX7_isTarget L px2 V0 c0).bind fun u_4 => if u_4 = 0 then (some ((-1 : Int32), V0)) else ((fX7_isTarget L px3 V0 c0).bind fun u_6 => if u_6 = 0 then (some ((-1 : Int32), V0)) else ((fX7_stageAt L px2 V0 c0).bind fun u_8 => (fX7_stageAt L px3 (mu V0 3 u_1.toNatClampNeg 6 u_8) c0).bind fun u_10 => some ((1 : Int32), (mu (mu V0 3 u_1.toNatClampNeg 6 u_8) 3 u_1.toNatClampNeg 7 u_10)))))
set_option maxHeartbeats 4000000 in
set_option maxRecDepth 100000 in
theorem kX7_targets (l : Launch) {dC : Nat → ClassId} {dI : Nat → Nat → Nat} {A : Nat → Prop} {ad : Nat → Nat → Nat} {cnt : Nat} {L : Nat → Nat → Nat} {cI cS cW : ClassId} {q : Nat × Nat} (hsh : xSh cnt L) (px1 : Int32) (px2 : Int32) (px3 : Int32) (V0 : mM) (c0 : Nat × Nat) {res : Int32 × mM} (h : fX7_targets L px1 px2 px3 V0 c0 = some res) : Met l yX7_targets wsX7_targets ({ frames := 2, cells := 0, slots := 0, locals := 43 } : Room) (va_Pc [.ref (ad 2 0), .int px1, .int px2, .int px3] (fun U => xM dC dI A ad cnt L cI cS cW q V0 c0 U)) (va_Qi (fun r9 (_ : Unit) => r9 = res.1) (fun _ t9 => xM dC dI A ad cnt L cI cS cW q res.2 c0 t9) A) 0 0 A := by
  refine Met.ofW (cc := cX7_targets) (maxL := 5) (ret := (some .int)) (by decide) rfl ?_
  intro p e s m args below meth cd s₁ B hml hv
  obtain ⟨rfl, hM, hK, hW, hAs⟩ := hv
  have hx := B.exec
  have hb := B.bytes
  have hr := B.returns
  have hts := atoms_spec (ws := wsX7_targets) B.pre
  have hown : s.vm.findClass RX7 = some m.cls := findClass_of_methodNamed B.named
  have hlocks := B.notSynchronized
  have hS : va_S A s.heap s.heap [] := va_S.rf
  have k48 := hts (.fieldLink RX7 48 "StageDesk$Stage" "first" "LStageDesk$Stage;") (by decide +kernel)
  have k52 := hts (.fieldLink RX7 52 "StageDesk$Stage" "second" "LStageDesk$Stage;") (by decide +kernel)
  have inX3 : ∀ w ∈ u_ws RX3 TX3 19, w ∈ wsX7_targets := by decide +kernel
  have hl := lv_entry ([.ref (ad 2 0), .int px1, .int px2, .int px3]) (n := 5) (Nat.le_of_ble_eq_true rfl)
  rw [lg_entry_eq]
  generalize (lg_sl ([.ref (ad 2 0), .int px1, .int px2, .int px3]) ++ List.replicate (5 - (lg_sl ([.ref (ad 2 0), .int px1, .int px2, .int px3])).length) Slot.unset).toArray = ls at hl ⊢
  have hl : lv_has ls 5 [(0, .ref (ad 2 0)), (1, .int px1), (2, .int px2), (3, .int px3)] := hl
  unfold fX7_targets at h
  refine lv_aload_n hx hb dX7_targets_0 rfl (lv_at hl 0 rfl) ?_
  refine lv_iload_n hx hb dX7_targets_1 rfl (lv_at hl 1 rfl) ?_
  obtain ⟨u_1, hu_1, h⟩ := bindS h
  refine va_callq (va_runV (As := [.int px1]) (rest := []) ⟨hx, hb, hml, hown, hts⟩ (kX7_stageAt l hsh px1 V0 c0 hu_1) (cwV 1 hts gX7_targets_X7_stageAt rfl rfl rfl (by decide +kernel) ⟨Nat.le_of_ble_eq_true rfl, Nat.le_of_ble_eq_true rfl⟩) ⟨fun a U g9 mk w9 => ⟨w9.1, xM_calling w9.2⟩, mP_recv (q := (RX7, TX7, 7)) hK hM xe2 rfl rfl, fun U hU hWm => ⟨rfl, xM_of hM hK hW hAs hS.1 hU hWm⟩⟩ rfl rfl hl.1 rfl (lv_room (Nat.le_of_ble_eq_true rfl)) dX7_targets_2 ⟨Nat.le_of_ble_eq_true rfl, Nat.le_of_ble_eq_true rfl⟩) hS (fun _ _ h9 => h9) (fun _ h9 => h9) (fun r9 u9 t9 H locs ht9 _ hw9 hB9 _ _ hS => ?_)
  obtain ⟨rfl, ok_2⟩ : r9 = rO ad u_1 ∧ okS cnt u_1 := hw9
  obtain ⟨hM, -, hW, -⟩ := hB9
  rw [ht9] at hM
  refine mm_astore (lv' := [(4, va_rf (rO ad u_1)), (0, .ref (ad 2 0)), (1, .int px1), (2, .int px2), (3, .int px3)]) hx hb dX7_targets_5 hl (by decide) rfl (fun ls hl => ?_)
  refine mm_aload hx hb dX7_targets_7 (lv_at hl 0 rfl) ?_
  refine mm_ifnull (tgt := 28) hx hb dX7_targets_9 (by decide) (fun z_3 => ?_) (fun z_3 => ?_)
  · have h := iteT z_3 h
    refine lv_iconst (v := (-1)) hx hb dX7_targets_28 (by decide) ?_
    have e9 : ((-1 : Int32), V0) = res := Option.some.inj h
    subst e9
    exact W.iret (v := (-1 : Int32)) hx hb hr (fun t9 ht9 hW9 => ⟨⟨_, (), rfl, rfl, xM_of hM hK hW hAs hS.1 ht9 hW9⟩, hS.F ht9⟩) hS.2.2 dX7_targets_29
  · have h := iteF z_3 h
    rw [rO_pos (ad := ad) z_3] at hl
    refine lv_aload_n hx hb dX7_targets_12 rfl (lv_at hl 1 rfl) ?_
    refine lv_iload_n hx hb dX7_targets_13 rfl (lv_at hl 3 rfl) ?_
    obtain ⟨u_4, hu_4, h⟩ := bindS h
    refine va_calli (va_runV (As := [.int px2]) (rest := []) ⟨hx, hb, hml, hown, hts⟩ (kX7_isTarget l hsh px2 V0 c0 hu_4) (cwV 1 hts gX7_targets_X7_isTarget rfl rfl rfl (by decide +kernel) ⟨Nat.le_of_ble_eq_true rfl, Nat.le_of_ble_eq_true rfl⟩) ⟨fun a U g9 mk w9 => ⟨w9.1, xM_calling w9.2⟩, mP_recv (q := (RX7, TX7, 7)) hK hM xe2 rfl rfl, fun U hU hWm => ⟨rfl, xM_of hM hK hW hAs hS.1 hU hWm⟩⟩ rfl rfl hl.1 rfl (lv_room (Nat.le_of_ble_eq_true rfl)) dX7_targets_14 ⟨Nat.le_of_ble_eq_true rfl, Nat.le_of_ble_eq_true rfl⟩) hS (fun _ _ h9 => h9) (fun _ h9 => h9) (fun r9 u9 t9 H locs ht9 _ hw9 hB9 _ _ hS => ?_)
    rw [show r9 = u_4 from hw9]
    obtain ⟨hM, -, hW, -⟩ := hB9
    rw [ht9] at hM
    refine lv_if_eq (tgt := 28) hx hb dX7_targets_17 (by decide) (fun c_5 => ?_) (fun c_5 => ?_)
    · have h := iteT c_5 h
      refine lv_iconst (v := (-1)) hx hb dX7_targets_28 (by decide) ?_
      have e9 : ((-1 : Int32), V0) = res := Option.some.inj h
      subst e9
      exact W.iret (v := (-1 : Int32)) hx hb hr (fun t9 ht9 hW9 => ⟨⟨_, (), rfl, rfl, xM_of hM hK hW hAs hS.1 ht9 hW9⟩, hS.F ht9⟩) hS.2.2 dX7_targets_29
    · have h := iteF c_5 h
      refine lv_aload_n hx hb dX7_targets_20 rfl (lv_at hl 1 rfl) ?_
      refine lv_iload_n hx hb dX7_targets_21 rfl (lv_at hl 4 rfl) ?_
      obtain ⟨u_6, hu_6, h⟩ := bindS h
      refine va_calli (va_runV (As := [.int px3]) (rest := []) ⟨hx, hb, hml, hown, hts⟩ (kX7_isTarget l hsh px3 V0 c0 hu_6) (cwV 1 hts gX7_targets_X7_isTarget rfl rfl rfl (by decide +kernel) ⟨Nat.le_of_ble_eq_true rfl, Nat.le_of_ble_eq_true rfl⟩) ⟨fun a U g9 mk w9 => ⟨w9.1, xM_calling w9.2⟩, mP_recv (q := (RX7, TX7, 7)) hK hM xe2 rfl rfl, fun U hU hWm => ⟨rfl, xM_of hM hK hW hAs hS.1 hU hWm⟩⟩ rfl rfl hl.1 rfl (lv_room (Nat.le_of_ble_eq_true rfl)) dX7_targets_22 ⟨Nat.le_of_ble_eq_true rfl, Nat.le_of_ble_eq_true rfl⟩) hS (fun _ _ h9 => h9) (fun _ h9 => h9) (fun r9 u9 t9 H locs ht9 _ hw9 hB9 _ _ hS => ?_)
      rw [show r9 = u_6 from hw9]
      obtain ⟨hM, -, hW, -⟩ := hB9
      rw [ht9] at hM
      refine lv_if_ne (tgt := 30) hx hb dX7_targets_25 (by decide) (fun c_7 => ?_) (fun c_7 => ?_)
      · have h := iteF c_7 h
        refine lv_aload hx hb dX7_targets_30 (lv_at hl 0 rfl) ?_
        refine lv_aload_n hx hb dX7_targets_32 rfl (lv_at hl 1 rfl) ?_
        refine lv_iload_n hx hb dX7_targets_33 rfl (lv_at hl 3 rfl) ?_
        obtain ⟨u_8, hu_8, h⟩ := bindS h
        refine va_callq (va_runV (As := [.int px2]) (rest := [.ref (ad 3 u_1.toNatClampNeg)]) ⟨hx, hb, hml, hown, hts⟩ (kX7_stageAt l hsh px2 V0 c0 hu_8) (cwV 1 hts gX7_targets_X7_stageAt rfl rfl rfl (by decide +kernel) ⟨Nat.le_of_ble_eq_true rfl, Nat.le_of_ble_eq_true rfl⟩) ⟨fun a U g9 mk w9 => ⟨w9.1, xM_calling w9.2⟩, mP_recv (q := (RX7, TX7, 7)) hK hM xe2 rfl rfl, fun U hU hWm => ⟨rfl, xM_of hM hK hW hAs hS.1 hU hWm⟩⟩ rfl rfl hl.1 rfl (lv_room (Nat.le_of_ble_eq_true rfl)) dX7_targets_34 ⟨Nat.le_of_ble_eq_true rfl, Nat.le_of_ble_eq_true rfl⟩) hS (fun _ _ h9 => h9) (fun _ h9 => h9) (fun r9 u9 t9 H locs ht9 _ hw9 hB9 _ _ hS => ?_)
        obtain ⟨rfl, ok_9⟩ : r9 = rO ad u_8 ∧ okS cnt u_8 := hw9
        obtain ⟨hM, -, hW, -⟩ := hB9
        rw [ht9] at hM
        refine mm_put (C := RX3) (T := TX3) (N := 19) (ci := 3) (ty := (.object "StageDesk$Stage")) hx hb hts inX3 tyX3 tyX3_ok nmX3 hown hK hM hS 3 u_1.toNatClampNeg (okS_lt ok_2 z_3) rfl rfl 6 (by decide) k48 (fun _ h9 => h9) rfl (by decide +kernel) (rO_nar ad _) (rO_fits ad _) (Nat.le_of_ble_eq_true rfl) u_8 rfl dX7_targets_37 (fun H locs hM hS => ?_)
        have hW := xW_mu (k := 3) (n := u_1.toNatClampNeg) (t := 6) (x := u_8) hW (fun _ => ok_9)
        refine lv_aload hx hb dX7_targets_40 (lv_at hl 0 rfl) ?_
        refine lv_aload_n hx hb dX7_targets_42 rfl (lv_at hl 1 rfl) ?_
        refine lv_iload_n hx hb dX7_targets_43 rfl (lv_at hl 4 rfl) ?_
        obtain ⟨u_10, hu_10, h⟩ := bindS h
        refine va_callq (va_runV (As := [.int px3]) (rest := [.ref (ad 3 u_1.toNatClampNeg)]) ⟨hx, hb, hml, hown, hts⟩ (kX7_stageAt l hsh px3 (mu V0 3 u_1.toNatClampNeg 6 u_8) c0 hu_10) (cwV 1 hts gX7_targets_X7_stageAt rfl rfl rfl (by decide +kernel) ⟨Nat.le_of_ble_eq_true rfl, Nat.le_of_ble_eq_true rfl⟩) ⟨fun a U g9 mk w9 => ⟨w9.1, xM_calling w9.2⟩, mP_recv (q := (RX7, TX7, 7)) hK hM xe2 rfl rfl, fun U hU hWm => ⟨rfl, xM_of hM hK hW hAs hS.1 hU hWm⟩⟩ rfl rfl hl.1 rfl (lv_room (Nat.le_of_ble_eq_true rfl)) dX7_targets_44 ⟨Nat.le_of_ble_eq_true rfl, Nat.le_of_ble_eq_true rfl⟩) hS (fun _ _ h9 => h9) (fun _ h9 => h9) (fun r9 u9 t9 H locs ht9 _ hw9 hB9 _ _ hS => ?_)
        obtain ⟨rfl, ok_11⟩ : r9 = rO ad u_10 ∧ okS cnt u_10 := hw9
        obtain ⟨hM, -, hW, -⟩ := hB9
        rw [ht9] at hM
        refine mm_put (C := RX3) (T := TX3) (N := 19) (ci := 3) (ty := (.object "StageDesk$Stage")) hx hb hts inX3 tyX3 tyX3_ok nmX3 hown hK hM hS 3 u_1.toNatClampNeg (okS_lt ok_2 z_3) rfl rfl 7 (by decide) k52 (fun _ h9 => h9) rfl (by decide +kernel) (rO_nar ad _) (rO_fits ad _) (Nat.le_of_ble_eq_true rfl) u_10 rfl dX7_targets_47 (fun H locs hM hS => ?_)
        have hW := xW_mu (k := 3) (n := u_1.toNatClampNeg) (t := 7) (x := u_10) hW (fun _ => ok_11)
        refine lv_iconst (v := 1) hx hb dX7_targets_50 (by decide) ?_
        have e9 : ((1 : Int32), (mu (mu V0 3 u_1.toNatClampNeg 6 u_8) 3 u_1.toNatClampNeg 7 u_10)) = res := Option.some.inj h
        subst e9
        exact W.iret (v := (1 : Int32)) hx hb hr (fun t9 ht9 hW9 => ⟨⟨_, (), rfl, rfl, xM_of hM hK hW hAs hS.1 ht9 hW9⟩, hS.F ht9⟩) hS.2.2 dX7_targets_51
      · have h := iteT c_7 h
        refine lv_iconst (v := (-1)) hx hb dX7_targets_28 (by decide) ?_
        have e9 : ((-1 : Int32), V0) = res := Option.some.inj h
        subst e9
        exact W.iret (v := (-1 : Int32)) hx hb hr (fun t9 ht9 hW9 => ⟨⟨_, (), rfl, rfl, xM_of hM hK hW hAs hS.1 ht9 hW9⟩, hS.F ht9⟩) hS.2.2 dX7_targets_29
/-! X7_admit -/
def fX7_admit (L : Nat → Nat → Nat) (px1 : Int32) (px2 : Int32) (px3 : Int32) (px4 : Int32) (V0 : mM) (c0 : Nat × Nat) : Option (Int32 × mM) := (fX7_stageAt L px1 V0 c0).bind fun u_1 => if u_1 < 0 then (some ((-1 : Int32), V0)) else ((fX7_within L px2 (0 : Int32) (100 : Int32) V0 c0).bind fun u_4 => if u_4 = 0 then (some ((-1 : Int32), V0)) else ((fX7_within L px3 (1 : Int32) (100 : Int32) V0 c0).bind fun u_6 => if u_6 = 0 then (some ((-1 : Int32), V0)) else ((fX7_within L px4 (0 : Int32) (1000 : Int32) V0 c0).bind fun u_8 => if u_8 = 0 then (some ((-1 : Int32), V0)) else (some ((1 : Int32), (mu (mu (mu (mu V0 3 u_1.toNatClampNeg 10 px2) 3 u_1.toNatClampNeg 11 px3) 3 u_1.toNatClampNeg 13 px4) 3 u_1.toNatClampNeg 12 (if px3 < ((mu (mu (mu V0 3 u_1.toNatClampNeg 10 px2) 3 u_1.toNatClampNeg 11 px3) 3 u_1.toNatClampNeg 13 px4) 3 u_1.toNatClampNeg 12) then px3 else ((mu (mu (mu V0 3 u_1.toNatClampNeg 10 px2) 3 u_1.toNatClampNeg 11 px3) 3 u_1.toNatClampNeg 13 px4) 3 u_1.toNatClampNeg 12))))))))
set_option maxHeartbeats 4000000 in
set_option maxRecDepth 100000 in
theorem kX7_admit (l : Launch) {dC : Nat → ClassId} {dI : Nat → Nat → Nat} {A : Nat → Prop} {ad : Nat → Nat → Nat} {cnt : Nat} {L : Nat → Nat → Nat} {cI cS cW : ClassId} {q : Nat × Nat} (hsh : xSh cnt L) (px1 : Int32) (px2 : Int32) (px3 : Int32) (px4 : Int32) (V0 : mM) (c0 : Nat × Nat) {res : Int32 × mM} (h : fX7_admit L px1 px2 px3 px4 V0 c0 = some res) : Met l yX7_admit wsX7_admit ({ frames := 2, cells := 0, slots := 0, locals := 43 } : Room) (va_Pc [.ref (ad 2 0), .int px1, .int px2, .int px3, .int px4] (fun U => xM dC dI A ad cnt L cI cS cW q V0 c0 U)) (va_Qi (fun r9 (_ : Unit) => r9 = res.1) (fun _ t9 => xM dC dI A ad cnt L cI cS cW q res.2 c0 t9) A) 0 0 A := by
  refine Met.ofW (cc := cX7_admit) (maxL := 6) (ret := (some .int)) (by decide) rfl ?_
  intro p e s m args below meth cd s₁ B hml hv
  obtain ⟨rfl, hM, hK, hW, hAs⟩ := hv
  have hx := B.exec
  have hb := B.bytes
  have hr := B.returns
  have hts := atoms_spec (ws := wsX7_admit) B.pre
  have hown : s.vm.findClass RX7 = some m.cls := findClass_of_methodNamed B.named
  have hlocks := B.notSynchronized
  have hS : va_S A s.heap s.heap [] := va_S.rf
  have k55 := hts (.fieldLink RX7 55 "StageDesk$Stage" "rate" "I") (by decide +kernel)
  have k58 := hts (.fieldLink RX7 58 "StageDesk$Stage" "depth" "I") (by decide +kernel)
  have k61 := hts (.fieldLink RX7 61 "StageDesk$Stage" "goal" "I") (by decide +kernel)
  have k64 := hts (.fieldLink RX7 64 "StageDesk$Stage" "tokens" "I") (by decide +kernel)
  have inX3 : ∀ w ∈ u_ws RX3 TX3 19, w ∈ wsX7_admit := by decide +kernel
  have hl := lv_entry ([.ref (ad 2 0), .int px1, .int px2, .int px3, .int px4]) (n := 6) (Nat.le_of_ble_eq_true rfl)
  rw [lg_entry_eq]
  generalize (lg_sl ([.ref (ad 2 0), .int px1, .int px2, .int px3, .int px4]) ++ List.replicate (6 - (lg_sl ([.ref (ad 2 0), .int px1, .int px2, .int px3, .int px4])).length) Slot.unset).toArray = ls at hl ⊢
  have hl : lv_has ls 6 [(0, .ref (ad 2 0)), (1, .int px1), (2, .int px2), (3, .int px3), (4, .int px4)] := hl
  unfold fX7_admit at h
  refine lv_aload_n hx hb dX7_admit_0 rfl (lv_at hl 0 rfl) ?_
  refine lv_iload_n hx hb dX7_admit_1 rfl (lv_at hl 1 rfl) ?_
  obtain ⟨u_1, hu_1, h⟩ := bindS h
  refine va_callq (va_runV (As := [.int px1]) (rest := []) ⟨hx, hb, hml, hown, hts⟩ (kX7_stageAt l hsh px1 V0 c0 hu_1) (cwV 1 hts gX7_admit_X7_stageAt rfl rfl rfl (by decide +kernel) ⟨Nat.le_of_ble_eq_true rfl, Nat.le_of_ble_eq_true rfl⟩) ⟨fun a U g9 mk w9 => ⟨w9.1, xM_calling w9.2⟩, mP_recv (q := (RX7, TX7, 7)) hK hM xe2 rfl rfl, fun U hU hWm => ⟨rfl, xM_of hM hK hW hAs hS.1 hU hWm⟩⟩ rfl rfl hl.1 rfl (lv_room (Nat.le_of_ble_eq_true rfl)) dX7_admit_2 ⟨Nat.le_of_ble_eq_true rfl, Nat.le_of_ble_eq_true rfl⟩) hS (fun _ _ h9 => h9) (fun _ h9 => h9) (fun r9 u9 t9 H locs ht9 _ hw9 hB9 _ _ hS => ?_)
  obtain ⟨rfl, ok_2⟩ : r9 = rO ad u_1 ∧ okS cnt u_1 := hw9
  obtain ⟨hM, -, hW, -⟩ := hB9
  rw [ht9] at hM
  refine mm_astore (lv' := [(5, va_rf (rO ad u_1)), (0, .ref (ad 2 0)), (1, .int px1), (2, .int px2), (3, .int px3), (4, .int px4)]) hx hb dX7_admit_5 hl (by decide) rfl (fun ls hl => ?_)
  refine mm_aload hx hb dX7_admit_7 (lv_at hl 0 rfl) ?_
  refine mm_ifnull (tgt := 44) hx hb dX7_admit_9 (by decide) (fun z_3 => ?_) (fun z_3 => ?_)
  · have h := iteT z_3 h
    refine lv_iconst (v := (-1)) hx hb dX7_admit_44 (by decide) ?_
    have e9 : ((-1 : Int32), V0) = res := Option.some.inj h
    subst e9
    exact W.iret (v := (-1 : Int32)) hx hb hr (fun t9 ht9 hW9 => ⟨⟨_, (), rfl, rfl, xM_of hM hK hW hAs hS.1 ht9 hW9⟩, hS.F ht9⟩) hS.2.2 dX7_admit_45
  · have h := iteF z_3 h
    rw [rO_pos (ad := ad) z_3] at hl
    refine lv_iload_n hx hb dX7_admit_12 rfl (lv_at hl 3 rfl) ?_
    refine lv_iconst (v := 0) hx hb dX7_admit_13 (by decide) ?_
    refine lv_bipush (v := 100) hx hb dX7_admit_14 (by decide) ?_
    obtain ⟨u_4, hu_4, h⟩ := bindS h
    refine va_calli (va_runS (As := [.int px2, .int (0 : Int32), .int (100 : Int32)]) (rest := []) ⟨hx, hb, hml, hown, hts⟩ (kX7_within l hsh px2 (0 : Int32) (100 : Int32) V0 c0 hu_4) (va_cwS 3 hts gX7_admit_X7_within rfl rfl rfl (by decide +kernel) ⟨Nat.le_of_ble_eq_true rfl, Nat.le_of_ble_eq_true rfl⟩) ⟨fun a U g9 mk w9 => ⟨w9.1, xM_calling w9.2⟩, fun U hU hWm => ⟨rfl, xM_of hM hK hW hAs hS.1 hU hWm⟩⟩ rfl rfl hl.1 rfl (lv_room (Nat.le_of_ble_eq_true rfl)) dX7_admit_16 ⟨Nat.le_of_ble_eq_true rfl, Nat.le_of_ble_eq_true rfl⟩) hS (fun _ _ h9 => h9) (fun _ h9 => h9) (fun r9 u9 t9 H locs ht9 _ hw9 hB9 _ _ hS => ?_)
    rw [show r9 = u_4 from hw9]
    obtain ⟨hM, -, hW, -⟩ := hB9
    rw [ht9] at hM
    refine lv_if_eq (tgt := 44) hx hb dX7_admit_19 (by decide) (fun c_5 => ?_) (fun c_5 => ?_)
    · have h := iteT c_5 h
      refine lv_iconst (v := (-1)) hx hb dX7_admit_44 (by decide) ?_
      have e9 : ((-1 : Int32), V0) = res := Option.some.inj h
      subst e9
      exact W.iret (v := (-1 : Int32)) hx hb hr (fun t9 ht9 hW9 => ⟨⟨_, (), rfl, rfl, xM_of hM hK hW hAs hS.1 ht9 hW9⟩, hS.F ht9⟩) hS.2.2 dX7_admit_45
    · have h := iteF c_5 h
      refine lv_iload_n hx hb dX7_admit_22 rfl (lv_at hl 4 rfl) ?_
      refine lv_iconst (v := 1) hx hb dX7_admit_23 (by decide) ?_
      refine lv_bipush (v := 100) hx hb dX7_admit_24 (by decide) ?_
      obtain ⟨u_6, hu_6, h⟩ := bindS h
      refine va_calli (va_runS (As := [.int px3, .int (1 : Int32), .int (100 : Int32)]) (rest := []) ⟨hx, hb, hml, hown, hts⟩ (kX7_within l hsh px3 (1 : Int32) (100 : Int32) V0 c0 hu_6) (va_cwS 3 hts gX7_admit_X7_within rfl rfl rfl (by decide +kernel) ⟨Nat.le_of_ble_eq_true rfl, Nat.le_of_ble_eq_true rfl⟩) ⟨fun a U g9 mk w9 => ⟨w9.1, xM_calling w9.2⟩, fun U hU hWm => ⟨rfl, xM_of hM hK hW hAs hS.1 hU hWm⟩⟩ rfl rfl hl.1 rfl (lv_room (Nat.le_of_ble_eq_true rfl)) dX7_admit_26 ⟨Nat.le_of_ble_eq_true rfl, Nat.le_of_ble_eq_true rfl⟩) hS (fun _ _ h9 => h9) (fun _ h9 => h9) (fun r9 u9 t9 H locs ht9 _ hw9 hB9 _ _ hS => ?_)
      rw [show r9 = u_6 from hw9]
      obtain ⟨hM, -, hW, -⟩ := hB9
      rw [ht9] at hM
      refine lv_if_eq (tgt := 44) hx hb dX7_admit_29 (by decide) (fun c_7 => ?_) (fun c_7 => ?_)
      · have h := iteT c_7 h
        refine lv_iconst (v := (-1)) hx hb dX7_admit_44 (by decide) ?_
        have e9 : ((-1 : Int32), V0) = res := Option.some.inj h
        subst e9
        exact W.iret (v := (-1 : Int32)) hx hb hr (fun t9 ht9 hW9 => ⟨⟨_, (), rfl, rfl, xM_of hM hK hW hAs hS.1 ht9 hW9⟩, hS.F ht9⟩) hS.2.2 dX7_admit_45
      · have h := iteF c_7 h
        refine lv_iload hx hb dX7_admit_32 (lv_at hl 5 rfl) ?_
        refine lv_iconst (v := 0) hx hb dX7_admit_34 (by decide) ?_
        refine lv_sipush (v := 1000) hx hb dX7_admit_35 (by decide) ?_
        obtain ⟨u_8, hu_8, h⟩ := bindS h
        refine va_calli (va_runS (As := [.int px4, .int (0 : Int32), .int (1000 : Int32)]) (rest := []) ⟨hx, hb, hml, hown, hts⟩ (kX7_within l hsh px4 (0 : Int32) (1000 : Int32) V0 c0 hu_8) (va_cwS 3 hts gX7_admit_X7_within rfl rfl rfl (by decide +kernel) ⟨Nat.le_of_ble_eq_true rfl, Nat.le_of_ble_eq_true rfl⟩) ⟨fun a U g9 mk w9 => ⟨w9.1, xM_calling w9.2⟩, fun U hU hWm => ⟨rfl, xM_of hM hK hW hAs hS.1 hU hWm⟩⟩ rfl rfl hl.1 rfl (lv_room (Nat.le_of_ble_eq_true rfl)) dX7_admit_38 ⟨Nat.le_of_ble_eq_true rfl, Nat.le_of_ble_eq_true rfl⟩) hS (fun _ _ h9 => h9) (fun _ h9 => h9) (fun r9 u9 t9 H locs ht9 _ hw9 hB9 _ _ hS => ?_)
        rw [show r9 = u_8 from hw9]
        obtain ⟨hM, -, hW, -⟩ := hB9
        rw [ht9] at hM
        refine lv_if_ne (tgt := 46) hx hb dX7_admit_41 (by decide) (fun c_9 => ?_) (fun c_9 => ?_)
        · have h := iteF c_9 h
          refine lv_aload hx hb dX7_admit_46 (lv_at hl 0 rfl) ?_
          refine lv_iload_n hx hb dX7_admit_48 rfl (lv_at hl 3 rfl) ?_
          refine mm_put (C := RX3) (T := TX3) (N := 19) (ci := 3) (ty := .int) hx hb hts inX3 tyX3 tyX3_ok nmX3 hown hK hM hS 3 u_1.toNatClampNeg (okS_lt ok_2 z_3) rfl rfl 10 (by decide) k55 (fun _ h9 => h9) rfl (by decide +kernel) rfl rfl (Nat.le_of_ble_eq_true rfl) px2 rfl dX7_admit_49 (fun H locs hM hS => ?_)
          have hW := xW_mu (k := 3) (n := u_1.toNatClampNeg) (t := 10) (x := px2) hW (fun h9 => Bool.noConfusion (show false = true from h9))
          refine lv_aload hx hb dX7_admit_52 (lv_at hl 0 rfl) ?_
          refine lv_iload_n hx hb dX7_admit_54 rfl (lv_at hl 4 rfl) ?_
          refine mm_put (C := RX3) (T := TX3) (N := 19) (ci := 3) (ty := .int) hx hb hts inX3 tyX3 tyX3_ok nmX3 hown hK hM hS 3 u_1.toNatClampNeg (okS_lt ok_2 z_3) rfl rfl 11 (by decide) k58 (fun _ h9 => h9) rfl (by decide +kernel) rfl rfl (Nat.le_of_ble_eq_true rfl) px3 rfl dX7_admit_55 (fun H locs hM hS => ?_)
          have hW := xW_mu (k := 3) (n := u_1.toNatClampNeg) (t := 11) (x := px3) hW (fun h9 => Bool.noConfusion (show false = true from h9))
          refine lv_aload hx hb dX7_admit_58 (lv_at hl 0 rfl) ?_
          refine lv_iload hx hb dX7_admit_60 (lv_at hl 5 rfl) ?_
          refine mm_put (C := RX3) (T := TX3) (N := 19) (ci := 3) (ty := .int) hx hb hts inX3 tyX3 tyX3_ok nmX3 hown hK hM hS 3 u_1.toNatClampNeg (okS_lt ok_2 z_3) rfl rfl 13 (by decide) k61 (fun _ h9 => h9) rfl (by decide +kernel) rfl rfl (Nat.le_of_ble_eq_true rfl) px4 rfl dX7_admit_62 (fun H locs hM hS => ?_)
          have hW := xW_mu (k := 3) (n := u_1.toNatClampNeg) (t := 13) (x := px4) hW (fun h9 => Bool.noConfusion (show false = true from h9))
          refine lv_aload hx hb dX7_admit_65 (lv_at hl 0 rfl) ?_
          refine lv_aload hx hb dX7_admit_67 (lv_at hl 0 rfl) ?_
          refine mm_get (C := RX3) (T := TX3) (N := 19) (ci := 3) hx hb hts inX3 hown hK hM 3 u_1.toNatClampNeg (okS_lt ok_2 z_3) rfl rfl 12 (by decide) k64 (fun _ h9 => h9) rfl dX7_admit_69 ?_
          refine lv_iload_n hx hb dX7_admit_72 rfl (lv_at hl 4 rfl) ?_
          refine va_mmin hx hb (by rw [hml]; exact hl.1.symm) hown (hts (.methodLink RX7 67 Lib.Math.min.name) (by decide +kernel)) (hts (.static Lib.Math.min.name) (by decide +kernel)) (hts (.initialized "java/lang/Math") (by decide +kernel)) (hts (.code Lib.Math.min.name Lib.Math.min.code 2 (some .int)) (by decide +kernel)) (Nat.le_of_ble_eq_true rfl) (Nat.le_of_ble_eq_true rfl) (Nat.zero_le _) (Nat.zero_le _) dX7_admit_73 ?_
          refine mm_put (C := RX3) (T := TX3) (N := 19) (ci := 3) (ty := .int) hx hb hts inX3 tyX3 tyX3_ok nmX3 hown hK hM hS 3 u_1.toNatClampNeg (okS_lt ok_2 z_3) rfl rfl 12 (by decide) k64 (fun _ h9 => h9) rfl (by decide +kernel) rfl rfl (Nat.le_of_ble_eq_true rfl) (if px3 < ((mu (mu (mu V0 3 u_1.toNatClampNeg 10 px2) 3 u_1.toNatClampNeg 11 px3) 3 u_1.toNatClampNeg 13 px4) 3 u_1.toNatClampNeg 12) then px3 else ((mu (mu (mu V0 3 u_1.toNatClampNeg 10 px2) 3 u_1.toNatClampNeg 11 px3) 3 u_1.toNatClampNeg 13 px4) 3 u_1.toNatClampNeg 12)) rfl dX7_admit_76 (fun H locs hM hS => ?_)
          have hW := xW_mu (k := 3) (n := u_1.toNatClampNeg) (t := 12) (x := (if px3 < ((mu (mu (mu V0 3 u_1.toNatClampNeg 10 px2) 3 u_1.toNatClampNeg 11 px3) 3 u_1.toNatClampNeg 13 px4) 3 u_1.toNatClampNeg 12) then px3 else ((mu (mu (mu V0 3 u_1.toNatClampNeg 10 px2) 3 u_1.toNatClampNeg 11 px3) 3 u_1.toNatClampNeg 13 px4) 3 u_1.toNatClampNeg 12))) hW (fun h9 => Bool.noConfusion (show false = true from h9))
          refine lv_iconst (v := 1) hx hb dX7_admit_79 (by decide) ?_
          have e9 : ((1 : Int32), (mu (mu (mu (mu V0 3 u_1.toNatClampNeg 10 px2) 3 u_1.toNatClampNeg 11 px3) 3 u_1.toNatClampNeg 13 px4) 3 u_1.toNatClampNeg 12 (if px3 < ((mu (mu (mu V0 3 u_1.toNatClampNeg 10 px2) 3 u_1.toNatClampNeg 11 px3) 3 u_1.toNatClampNeg 13 px4) 3 u_1.toNatClampNeg 12) then px3 else ((mu (mu (mu V0 3 u_1.toNatClampNeg 10 px2) 3 u_1.toNatClampNeg 11 px3) 3 u_1.toNatClampNeg 13 px4) 3 u_1.toNatClampNeg 12)))) = res := Option.some.inj h
          subst e9
          exact W.iret (v := (1 : Int32)) hx hb hr (fun t9 ht9 hW9 => ⟨⟨_, (), rfl, rfl, xM_of hM hK hW hAs hS.1 ht9 hW9⟩, hS.F ht9⟩) hS.2.2 dX7_admit_80
        · have h := iteT c_9 h
          refine lv_iconst (v := (-1)) hx hb dX7_admit_44 (by decide) ?_
          have e9 : ((-1 : Int32), V0) = res := Option.some.inj h
          subst e9
          exact W.iret (v := (-1 : Int32)) hx hb hr (fun t9 ht9 hW9 => ⟨⟨_, (), rfl, rfl, xM_of hM hK hW hAs hS.1 ht9 hW9⟩, hS.F ht9⟩) hS.2.2 dX7_admit_45
/-! X7_makeEvent -/
def fX7_makeEvent (L : Nat → Nat → Nat)  (V0 : mM) (c0 : Nat × Nat) : Option (Int32 × mM) := some ((((mu V0 2 0 5 ((V0 2 0 5) + (1 : Int32))) 2 0 5) - (1 : Int32)), (mu V0 2 0 5 ((V0 2 0 5) + (1 : Int32))))
set_option maxHeartbeats 4000000 in
set_option maxRecDepth 100000 in
theorem kX7_makeEvent (l : Launch) {dC : Nat → ClassId} {dI : Nat → Nat → Nat} {A : Nat → Prop} {ad : Nat → Nat → Nat} {cnt : Nat} {L : Nat → Nat → Nat} {cI cS cW : ClassId} {q : Nat × Nat} (hsh : xSh cnt L)  (V0 : mM) (c0 : Nat × Nat) {res : Int32 × mM} (h : fX7_makeEvent L V0 c0 = some res) : Met l yX7_makeEvent wsX7_makeEvent ({ frames := 0, cells := 0, slots := 0, locals := 0 } : Room) (va_Pc [.ref (ad 2 0)] (fun U => xM dC dI A ad cnt L cI cS cW q V0 c0 U)) (va_Qi (fun r9 (_ : Unit) => r9 = res.1) (fun _ t9 => xM dC dI A ad cnt L cI cS cW q res.2 c0 t9) A) 0 0 A := by
  refine Met.ofW (cc := cX7_makeEvent) (maxL := 1) (ret := (some .int)) (by decide) rfl ?_
  intro p e s m args below meth cd s₁ B hml hv
  obtain ⟨rfl, hM, hK, hW, hAs⟩ := hv
  have hx := B.exec
  have hb := B.bytes
  have hr := B.returns
  have hts := atoms_spec (ws := wsX7_makeEvent) B.pre
  have hown : s.vm.findClass RX7 = some m.cls := findClass_of_methodNamed B.named
  have hlocks := B.notSynchronized
  have hS : va_S A s.heap s.heap [] := va_S.rf
  have k97 := hts (.fieldLink RX7 97 "StageDesk" "made" "I") (by decide +kernel)
  have inX7 : ∀ w ∈ u_ws RX7 TX7 7, w ∈ wsX7_makeEvent := by decide +kernel
  have hl := lv_entry ([.ref (ad 2 0)]) (n := 1) (Nat.le_of_ble_eq_true rfl)
  rw [lg_entry_eq]
  generalize (lg_sl ([.ref (ad 2 0)]) ++ List.replicate (1 - (lg_sl ([.ref (ad 2 0)])).length) Slot.unset).toArray = ls at hl ⊢
  have hl : lv_has ls 1 [(0, .ref (ad 2 0))] := hl
  unfold fX7_makeEvent at h
  refine lv_aload_n hx hb dX7_makeEvent_0 rfl (lv_at hl 0 rfl) ?_
  refine lv_dup hx hb dX7_makeEvent_1 rfl ?_
  refine mm_get (C := RX7) (T := TX7) (N := 7) (ci := 7) hx hb hts inX7 hown hK hM 2 0 xe2 rfl rfl 5 (by decide) k97 (fun _ h9 => h9) rfl dX7_makeEvent_2 ?_
  refine lv_iconst (v := 1) hx hb dX7_makeEvent_5 (by decide) ?_
  refine lv_iadd hx hb dX7_makeEvent_6 ?_
  refine mm_put (C := RX7) (T := TX7) (N := 7) (ci := 7) (ty := .int) hx hb hts inX7 tyX7 tyX7_ok nmX7 hown hK hM hS 2 0 xe2 rfl rfl 5 (by decide) k97 (fun _ h9 => h9) rfl (by decide +kernel) rfl rfl (Nat.le_of_ble_eq_true rfl) ((V0 2 0 5) + (1 : Int32)) rfl dX7_makeEvent_7 (fun H locs hM hS => ?_)
  have hW := xW_mu (k := 2) (n := 0) (t := 5) (x := ((V0 2 0 5) + (1 : Int32))) hW (fun h9 => Bool.noConfusion (show false = true from h9))
  refine lv_aload_n hx hb dX7_makeEvent_10 rfl (lv_at hl 0 rfl) ?_
  refine mm_get (C := RX7) (T := TX7) (N := 7) (ci := 7) hx hb hts inX7 hown hK hM 2 0 xe2 rfl rfl 5 (by decide) k97 (fun _ h9 => h9) rfl dX7_makeEvent_11 ?_
  refine lv_iconst (v := 1) hx hb dX7_makeEvent_14 (by decide) ?_
  refine lv_isub hx hb dX7_makeEvent_15 ?_
  have e9 : ((((mu V0 2 0 5 ((V0 2 0 5) + (1 : Int32))) 2 0 5) - (1 : Int32)), (mu V0 2 0 5 ((V0 2 0 5) + (1 : Int32)))) = res := Option.some.inj h
  subst e9
  exact W.iret (v := (((mu V0 2 0 5 ((V0 2 0 5) + (1 : Int32))) 2 0 5) - (1 : Int32))) hx hb hr (fun t9 ht9 hW9 => ⟨⟨_, (), rfl, rfl, xM_of hM hK hW hAs hS.1 ht9 hW9⟩, hS.F ht9⟩) hS.2.2 dX7_makeEvent_16
/-! X7_put -/
def fX7_put (L : Nat → Nat → Nat) (px1 : Int32) (px2 : Int32) (V0 : mM) (c0 : Nat × Nat) : Option (Int32 × mM) := (fX7_stageAt L px1 V0 c0).bind fun u_1 => if u_1 < 0 then (some ((-1 : Int32), V0)) else ((fX3_ask L u_1.toNatClampNeg V0 c0).bind fun u_4 => if u_4.1 = 0 then ((fX7_makeEvent L u_4.2 c0).bind fun u_6 => (fX3_take L u_1.toNatClampNeg u_6.1 px2 (u_6.2 2 0 4) u_6.2 c0).bind fun u_7 => some (u_6.1, u_7)) else (some (u_4.1, u_4.2)))
set_option maxHeartbeats 4000000 in
set_option maxRecDepth 100000 in
theorem kX7_put (l : Launch) {dC : Nat → ClassId} {dI : Nat → Nat → Nat} {A : Nat → Prop} {ad : Nat → Nat → Nat} {cnt : Nat} {L : Nat → Nat → Nat} {cI cS cW : ClassId} {q : Nat × Nat} (hsh : xSh cnt L) (px1 : Int32) (px2 : Int32) (V0 : mM) (c0 : Nat × Nat) {res : Int32 × mM} (h : fX7_put L px1 px2 V0 c0 = some res) : Met l yX7_put wsX7_put ({ frames := 2, cells := 0, slots := 0, locals := 46 } : Room) (va_Pc [.ref (ad 2 0), .int px1, .int px2] (fun U => xM dC dI A ad cnt L cI cS cW q V0 c0 U)) (va_Qi (fun r9 (_ : Unit) => r9 = res.1) (fun _ t9 => xM dC dI A ad cnt L cI cS cW q res.2 c0 t9) A) 0 0 A := by
  refine Met.ofW (cc := cX7_put) (maxL := 6) (ret := (some .int)) (by decide) rfl ?_
  intro p e s m args below meth cd s₁ B hml hv
  obtain ⟨rfl, hM, hK, hW, hAs⟩ := hv
  have hx := B.exec
  have hb := B.bytes
  have hr := B.returns
  have hts := atoms_spec (ws := wsX7_put) B.pre
  have hown : s.vm.findClass RX7 = some m.cls := findClass_of_methodNamed B.named
  have hlocks := B.notSynchronized
  have hS : va_S A s.heap s.heap [] := va_S.rf
  have k80 := hts (.fieldLink RX7 80 "StageDesk" "now" "I") (by decide +kernel)
  have inX7 : ∀ w ∈ u_ws RX7 TX7 7, w ∈ wsX7_put := by decide +kernel
  have hl := lv_entry ([.ref (ad 2 0), .int px1, .int px2]) (n := 6) (Nat.le_of_ble_eq_true rfl)
  rw [lg_entry_eq]
  generalize (lg_sl ([.ref (ad 2 0), .int px1, .int px2]) ++ List.replicate (6 - (lg_sl ([.ref (ad 2 0), .int px1, .int px2])).length) Slot.unset).toArray = ls at hl ⊢
  have hl : lv_has ls 6 [(0, .ref (ad 2 0)), (1, .int px1), (2, .int px2)] := hl
  unfold fX7_put at h
  refine lv_aload_n hx hb dX7_put_0 rfl (lv_at hl 0 rfl) ?_
  refine lv_iload_n hx hb dX7_put_1 rfl (lv_at hl 1 rfl) ?_
  obtain ⟨u_1, hu_1, h⟩ := bindS h
  refine va_callq (va_runV (As := [.int px1]) (rest := []) ⟨hx, hb, hml, hown, hts⟩ (kX7_stageAt l hsh px1 V0 c0 hu_1) (cwV 1 hts gX7_put_X7_stageAt rfl rfl rfl (by decide +kernel) ⟨Nat.le_of_ble_eq_true rfl, Nat.le_of_ble_eq_true rfl⟩) ⟨fun a U g9 mk w9 => ⟨w9.1, xM_calling w9.2⟩, mP_recv (q := (RX7, TX7, 7)) hK hM xe2 rfl rfl, fun U hU hWm => ⟨rfl, xM_of hM hK hW hAs hS.1 hU hWm⟩⟩ rfl rfl hl.1 rfl (lv_room (Nat.le_of_ble_eq_true rfl)) dX7_put_2 ⟨Nat.le_of_ble_eq_true rfl, Nat.le_of_ble_eq_true rfl⟩) hS (fun _ _ h9 => h9) (fun _ h9 => h9) (fun r9 u9 t9 H locs ht9 _ hw9 hB9 _ _ hS => ?_)
  obtain ⟨rfl, ok_2⟩ : r9 = rO ad u_1 ∧ okS cnt u_1 := hw9
  obtain ⟨hM, -, hW, -⟩ := hB9
  rw [ht9] at hM
  refine mm_astore_n (lv' := [(3, va_rf (rO ad u_1)), (0, .ref (ad 2 0)), (1, .int px1), (2, .int px2)]) hx hb dX7_put_5 rfl hl (by decide) rfl (fun ls hl => ?_)
  refine mm_aload_n hx hb dX7_put_6 rfl (lv_at hl 0 rfl) ?_
  refine mm_ifnonnull (tgt := 12) hx hb dX7_put_7 (by decide) (fun z_3 => ?_) (fun z_3 => ?_)
  · have h := iteF z_3 h
    rw [rO_pos (ad := ad) z_3] at hl
    refine lv_aload_n hx hb dX7_put_12 rfl (lv_at hl 0 rfl) ?_
    obtain ⟨u_4, hu_4, h⟩ := bindS h
    refine va_calli (va_runV (As := []) (rest := []) ⟨hx, hb, hml, hown, hts⟩ (kX3_ask l hsh u_1.toNatClampNeg V0 c0 hu_4 (okS_lt ok_2 z_3)) (cwV 0 hts gX7_put_X3_ask rfl rfl rfl (by decide +kernel) ⟨Nat.le_of_ble_eq_true rfl, Nat.le_of_ble_eq_true rfl⟩) ⟨fun a U g9 mk w9 => ⟨w9.1, xM_calling w9.2⟩, mP_recv (q := (RX3, TX3, 19)) hK hM (okS_lt ok_2 z_3) rfl rfl, fun U hU hWm => ⟨rfl, xM_of hM hK hW hAs hS.1 hU hWm⟩⟩ rfl rfl hl.1 rfl (lv_room (Nat.le_of_ble_eq_true rfl)) dX7_put_13 ⟨Nat.le_of_ble_eq_true rfl, Nat.le_of_ble_eq_true rfl⟩) hS (fun _ _ h9 => h9) (fun _ h9 => h9) (fun r9 u9 t9 H locs ht9 _ hw9 hB9 _ _ hS => ?_)
    rw [show r9 = u_4.1 from hw9]
    obtain ⟨hM, -, hW, -⟩ := hB9
    rw [ht9] at hM
    refine lv_istore (lv' := [(4, .int u_4.1), (3, .ref (ad 3 u_1.toNatClampNeg)), (0, .ref (ad 2 0)), (1, .int px1), (2, .int px2)]) hx hb dX7_put_16 hl (by decide) rfl (fun ls hl => ?_)
    refine lv_iload hx hb dX7_put_18 (lv_at hl 0 rfl) ?_
    refine lv_if_eq (tgt := 26) hx hb dX7_put_20 (by decide) (fun c_5 => ?_) (fun c_5 => ?_)
    · have h := iteT c_5 h
      refine lv_aload_n hx hb dX7_put_26 rfl (lv_at hl 2 rfl) ?_
      obtain ⟨u_6, hu_6, h⟩ := bindS h
      refine va_calli (va_runV (As := []) (rest := []) ⟨hx, hb, hml, hown, hts⟩ (kX7_makeEvent l hsh u_4.2 c0 hu_6) (cwV 0 hts gX7_put_X7_makeEvent rfl rfl rfl (by decide +kernel) ⟨Nat.le_of_ble_eq_true rfl, Nat.le_of_ble_eq_true rfl⟩) ⟨fun a U g9 mk w9 => ⟨w9.1, xM_calling w9.2⟩, mP_recv (q := (RX7, TX7, 7)) hK hM xe2 rfl rfl, fun U hU hWm => ⟨rfl, xM_of hM hK hW hAs hS.1 hU hWm⟩⟩ rfl rfl hl.1 rfl (lv_room (Nat.le_of_ble_eq_true rfl)) dX7_put_27 ⟨Nat.le_of_ble_eq_true rfl, Nat.le_of_ble_eq_true rfl⟩) hS (fun _ _ h9 => h9) (fun _ h9 => h9) (fun r9 u9 t9 H locs ht9 _ hw9 hB9 _ _ hS => ?_)
      rw [show r9 = u_6.1 from hw9]
      obtain ⟨hM, -, hW, -⟩ := hB9
      rw [ht9] at hM
      refine lv_istore (lv' := [(5, .int u_6.1), (4, .int u_4.1), (3, .ref (ad 3 u_1.toNatClampNeg)), (0, .ref (ad 2 0)), (1, .int px1), (2, .int px2)]) hx hb dX7_put_30 hl (by decide) rfl (fun ls hl => ?_)
      refine lv_aload_n hx hb dX7_put_32 rfl (lv_at hl 2 rfl) ?_
      refine lv_iload hx hb dX7_put_33 (lv_at hl 0 rfl) ?_
      refine lv_iload_n hx hb dX7_put_35 rfl (lv_at hl 5 rfl) ?_
      refine lv_aload_n hx hb dX7_put_36 rfl (lv_at hl 3 rfl) ?_
      refine mm_get (C := RX7) (T := TX7) (N := 7) (ci := 7) hx hb hts inX7 hown hK hM 2 0 xe2 rfl rfl 4 (by decide) k80 (fun _ h9 => h9) rfl dX7_put_37 ?_
      obtain ⟨u_7, hu_7, h⟩ := bindS h
      refine va_callv (va_runV (As := [.int u_6.1, .int px2, .int (u_6.2 2 0 4)]) (rest := []) ⟨hx, hb, hml, hown, hts⟩ (kX3_take l hsh u_1.toNatClampNeg u_6.1 px2 (u_6.2 2 0 4) u_6.2 c0 hu_7 (okS_lt ok_2 z_3)) (cwV 3 hts gX7_put_X3_take rfl rfl rfl (by decide +kernel) ⟨Nat.le_of_ble_eq_true rfl, Nat.le_of_ble_eq_true rfl⟩) ⟨fun a U g9 mk w9 => ⟨w9.1, xM_calling w9.2⟩, mP_recv (q := (RX3, TX3, 19)) hK hM (okS_lt ok_2 z_3) rfl rfl, fun U hU hWm => ⟨rfl, xM_of hM hK hW hAs hS.1 hU hWm⟩⟩ rfl rfl hl.1 rfl (lv_room (Nat.le_of_ble_eq_true rfl)) dX7_put_40 ⟨Nat.le_of_ble_eq_true rfl, Nat.le_of_ble_eq_true rfl⟩) hS (fun _ _ h9 => h9) (fun _ h9 => h9) (fun u9 t9 H locs ht9 _ hw9 hB9 _ _ hS => ?_)
      obtain ⟨hM, -, hW, -⟩ := hB9
      rw [ht9] at hM
      refine lv_iload hx hb dX7_put_43 (lv_at hl 0 rfl) ?_
      have e9 : (u_6.1, u_7) = res := Option.some.inj h
      subst e9
      exact W.iret (v := u_6.1) hx hb hr (fun t9 ht9 hW9 => ⟨⟨_, (), rfl, rfl, xM_of hM hK hW hAs hS.1 ht9 hW9⟩, hS.F ht9⟩) hS.2.2 dX7_put_45
    · have h := iteF c_5 h
      refine lv_iload hx hb dX7_put_23 (lv_at hl 0 rfl) ?_
      have e9 : (u_4.1, u_4.2) = res := Option.some.inj h
      subst e9
      exact W.iret (v := u_4.1) hx hb hr (fun t9 ht9 hW9 => ⟨⟨_, (), rfl, rfl, xM_of hM hK hW hAs hS.1 ht9 hW9⟩, hS.F ht9⟩) hS.2.2 dX7_put_25
  · have h := iteT z_3 h
    refine lv_iconst (v := (-1)) hx hb dX7_put_10 (by decide) ?_
    have e9 : ((-1 : Int32), V0) = res := Option.some.inj h
    subst e9
    exact W.iret (v := (-1 : Int32)) hx hb hr (fun t9 ht9 hW9 => ⟨⟨_, (), rfl, rfl, xM_of hM hK hW hAs hS.1 ht9 hW9⟩, hS.F ht9⟩) hS.2.2 dX7_put_11
/-! X7_prepare -/
def fX7_prepare (L : Nat → Nat → Nat) (px1 : Int32) (px2 : Int32) (V0 : mM) (c0 : Nat × Nat) : Option (Int32 × mM) := (fX7_stageAt L px1 V0 c0).bind fun u_1 => if u_1 < 0 then (some ((-1 : Int32), V0)) else ((fX7_within L px2 (1 : Int32) (8 : Int32) V0 c0).bind fun u_4 => if u_4 = 0 then (some ((-1 : Int32), V0)) else (if (V0 3 u_1.toNatClampNeg 8) = 0 then ((fX3_freePlaces L u_1.toNatClampNeg V0 c0).bind fun u_7 => if px2 ≤ u_7 then (some ((1 : Int32), (mu V0 3 u_1.toNatClampNeg 9 ((V0 3 u_1.toNatClampNeg 9) + px2)))) else (some ((-2 : Int32), V0))) else (some ((-3 : Int32), V0))))
set_option maxHeartbeats 4000000 in
set_option maxRecDepth 100000 in
theorem kX7_prepare (l : Launch) {dC : Nat → ClassId} {dI : Nat → Nat → Nat} {A : Nat → Prop} {ad : Nat → Nat → Nat} {cnt : Nat} {L : Nat → Nat → Nat} {cI cS cW : ClassId} {q : Nat × Nat} (hsh : xSh cnt L) (px1 : Int32) (px2 : Int32) (V0 : mM) (c0 : Nat × Nat) {res : Int32 × mM} (h : fX7_prepare L px1 px2 V0 c0 = some res) : Met l yX7_prepare wsX7_prepare ({ frames := 2, cells := 0, slots := 0, locals := 43 } : Room) (va_Pc [.ref (ad 2 0), .int px1, .int px2] (fun U => xM dC dI A ad cnt L cI cS cW q V0 c0 U)) (va_Qi (fun r9 (_ : Unit) => r9 = res.1) (fun _ t9 => xM dC dI A ad cnt L cI cS cW q res.2 c0 t9) A) 0 0 A := by
  refine Met.ofW (cc := cX7_prepare) (maxL := 4) (ret := (some .int)) (by decide) rfl ?_
  intro p e s m args below meth cd s₁ B hml hv
  obtain ⟨rfl, hM, hK, hW, hAs⟩ := hv
  have hx := B.exec
  have hb := B.bytes
  have hr := B.returns
  have hts := atoms_spec (ws := wsX7_prepare) B.pre
  have hown : s.vm.findClass RX7 = some m.cls := findClass_of_methodNamed B.named
  have hlocks := B.notSynchronized
  have hS : va_S A s.heap s.heap [] := va_S.rf
  have k87 := hts (.fieldLink RX7 87 "StageDesk$Stage" "closed" "Z") (by decide +kernel)
  have k94 := hts (.fieldLink RX7 94 "StageDesk$Stage" "reserved" "I") (by decide +kernel)
  have inX3 : ∀ w ∈ u_ws RX3 TX3 19, w ∈ wsX7_prepare := by decide +kernel
  have hl := lv_entry ([.ref (ad 2 0), .int px1, .int px2]) (n := 4) (Nat.le_of_ble_eq_true rfl)
  rw [lg_entry_eq]
  generalize (lg_sl ([.ref (ad 2 0), .int px1, .int px2]) ++ List.replicate (4 - (lg_sl ([.ref (ad 2 0), .int px1, .int px2])).length) Slot.unset).toArray = ls at hl ⊢
  have hl : lv_has ls 4 [(0, .ref (ad 2 0)), (1, .int px1), (2, .int px2)] := hl
  unfold fX7_prepare at h
  refine lv_aload_n hx hb dX7_prepare_0 rfl (lv_at hl 0 rfl) ?_
  refine lv_iload_n hx hb dX7_prepare_1 rfl (lv_at hl 1 rfl) ?_
  obtain ⟨u_1, hu_1, h⟩ := bindS h
  refine va_callq (va_runV (As := [.int px1]) (rest := []) ⟨hx, hb, hml, hown, hts⟩ (kX7_stageAt l hsh px1 V0 c0 hu_1) (cwV 1 hts gX7_prepare_X7_stageAt rfl rfl rfl (by decide +kernel) ⟨Nat.le_of_ble_eq_true rfl, Nat.le_of_ble_eq_true rfl⟩) ⟨fun a U g9 mk w9 => ⟨w9.1, xM_calling w9.2⟩, mP_recv (q := (RX7, TX7, 7)) hK hM xe2 rfl rfl, fun U hU hWm => ⟨rfl, xM_of hM hK hW hAs hS.1 hU hWm⟩⟩ rfl rfl hl.1 rfl (lv_room (Nat.le_of_ble_eq_true rfl)) dX7_prepare_2 ⟨Nat.le_of_ble_eq_true rfl, Nat.le_of_ble_eq_true rfl⟩) hS (fun _ _ h9 => h9) (fun _ h9 => h9) (fun r9 u9 t9 H locs ht9 _ hw9 hB9 _ _ hS => ?_)
  obtain ⟨rfl, ok_2⟩ : r9 = rO ad u_1 ∧ okS cnt u_1 := hw9
  obtain ⟨hM, -, hW, -⟩ := hB9
  rw [ht9] at hM
  refine mm_astore_n (lv' := [(3, va_rf (rO ad u_1)), (0, .ref (ad 2 0)), (1, .int px1), (2, .int px2)]) hx hb dX7_prepare_5 rfl hl (by decide) rfl (fun ls hl => ?_)
  refine mm_aload_n hx hb dX7_prepare_6 rfl (lv_at hl 0 rfl) ?_
  refine mm_ifnull (tgt := 20) hx hb dX7_prepare_7 (by decide) (fun z_3 => ?_) (fun z_3 => ?_)
  · have h := iteT z_3 h
    refine lv_iconst (v := (-1)) hx hb dX7_prepare_20 (by decide) ?_
    have e9 : ((-1 : Int32), V0) = res := Option.some.inj h
    subst e9
    exact W.iret (v := (-1 : Int32)) hx hb hr (fun t9 ht9 hW9 => ⟨⟨_, (), rfl, rfl, xM_of hM hK hW hAs hS.1 ht9 hW9⟩, hS.F ht9⟩) hS.2.2 dX7_prepare_21
  · have h := iteF z_3 h
    rw [rO_pos (ad := ad) z_3] at hl
    refine lv_iload_n hx hb dX7_prepare_10 rfl (lv_at hl 3 rfl) ?_
    refine lv_iconst (v := 1) hx hb dX7_prepare_11 (by decide) ?_
    refine lv_bipush (v := 8) hx hb dX7_prepare_12 (by decide) ?_
    obtain ⟨u_4, hu_4, h⟩ := bindS h
    refine va_calli (va_runS (As := [.int px2, .int (1 : Int32), .int (8 : Int32)]) (rest := []) ⟨hx, hb, hml, hown, hts⟩ (kX7_within l hsh px2 (1 : Int32) (8 : Int32) V0 c0 hu_4) (va_cwS 3 hts gX7_prepare_X7_within rfl rfl rfl (by decide +kernel) ⟨Nat.le_of_ble_eq_true rfl, Nat.le_of_ble_eq_true rfl⟩) ⟨fun a U g9 mk w9 => ⟨w9.1, xM_calling w9.2⟩, fun U hU hWm => ⟨rfl, xM_of hM hK hW hAs hS.1 hU hWm⟩⟩ rfl rfl hl.1 rfl (lv_room (Nat.le_of_ble_eq_true rfl)) dX7_prepare_14 ⟨Nat.le_of_ble_eq_true rfl, Nat.le_of_ble_eq_true rfl⟩) hS (fun _ _ h9 => h9) (fun _ h9 => h9) (fun r9 u9 t9 H locs ht9 _ hw9 hB9 _ _ hS => ?_)
    rw [show r9 = u_4 from hw9]
    obtain ⟨hM, -, hW, -⟩ := hB9
    rw [ht9] at hM
    refine lv_if_ne (tgt := 22) hx hb dX7_prepare_17 (by decide) (fun c_5 => ?_) (fun c_5 => ?_)
    · have h := iteF c_5 h
      refine lv_aload_n hx hb dX7_prepare_22 rfl (lv_at hl 0 rfl) ?_
      refine mm_get (C := RX3) (T := TX3) (N := 19) (ci := 3) hx hb hts inX3 hown hK hM 3 u_1.toNatClampNeg (okS_lt ok_2 z_3) rfl rfl 8 (by decide) k87 (fun _ h9 => h9) rfl dX7_prepare_23 ?_
      refine lv_if_eq (tgt := 32) hx hb dX7_prepare_26 (by decide) (fun c_6 => ?_) (fun c_6 => ?_)
      · have h := iteT c_6 h
        refine lv_iload_n hx hb dX7_prepare_32 rfl (lv_at hl 3 rfl) ?_
        refine lv_aload_n hx hb dX7_prepare_33 rfl (lv_at hl 0 rfl) ?_
        obtain ⟨u_7, hu_7, h⟩ := bindS h
        refine va_calli (va_runV (As := []) (rest := [.int px2]) ⟨hx, hb, hml, hown, hts⟩ (kX3_freePlaces l hsh u_1.toNatClampNeg V0 c0 hu_7 (okS_lt ok_2 z_3)) (cwV 0 hts gX7_prepare_X3_freePlaces rfl rfl rfl (by decide +kernel) ⟨Nat.le_of_ble_eq_true rfl, Nat.le_of_ble_eq_true rfl⟩) ⟨fun a U g9 mk w9 => ⟨w9.1, xM_calling w9.2⟩, mP_recv (q := (RX3, TX3, 19)) hK hM (okS_lt ok_2 z_3) rfl rfl, fun U hU hWm => ⟨rfl, xM_of hM hK hW hAs hS.1 hU hWm⟩⟩ rfl rfl hl.1 rfl (lv_room (Nat.le_of_ble_eq_true rfl)) dX7_prepare_34 ⟨Nat.le_of_ble_eq_true rfl, Nat.le_of_ble_eq_true rfl⟩) hS (fun _ _ h9 => h9) (fun _ h9 => h9) (fun r9 u9 t9 H locs ht9 _ hw9 hB9 _ _ hS => ?_)
        rw [show r9 = u_7 from hw9]
        obtain ⟨hM, -, hW, -⟩ := hB9
        rw [ht9] at hM
        refine lv_icmp_le (tgt := 43) hx hb dX7_prepare_37 (by decide) (fun c_8 => ?_) (fun c_8 => ?_)
        · have h := iteT c_8 h
          refine lv_aload_n hx hb dX7_prepare_43 rfl (lv_at hl 0 rfl) ?_
          refine lv_dup hx hb dX7_prepare_44 rfl ?_
          refine mm_get (C := RX3) (T := TX3) (N := 19) (ci := 3) hx hb hts inX3 hown hK hM 3 u_1.toNatClampNeg (okS_lt ok_2 z_3) rfl rfl 9 (by decide) k94 (fun _ h9 => h9) rfl dX7_prepare_45 ?_
          refine lv_iload_n hx hb dX7_prepare_48 rfl (lv_at hl 3 rfl) ?_
          refine lv_iadd hx hb dX7_prepare_49 ?_
          refine mm_put (C := RX3) (T := TX3) (N := 19) (ci := 3) (ty := .int) hx hb hts inX3 tyX3 tyX3_ok nmX3 hown hK hM hS 3 u_1.toNatClampNeg (okS_lt ok_2 z_3) rfl rfl 9 (by decide) k94 (fun _ h9 => h9) rfl (by decide +kernel) rfl rfl (Nat.le_of_ble_eq_true rfl) ((V0 3 u_1.toNatClampNeg 9) + px2) rfl dX7_prepare_50 (fun H locs hM hS => ?_)
          have hW := xW_mu (k := 3) (n := u_1.toNatClampNeg) (t := 9) (x := ((V0 3 u_1.toNatClampNeg 9) + px2)) hW (fun h9 => Bool.noConfusion (show false = true from h9))
          refine lv_iconst (v := 1) hx hb dX7_prepare_53 (by decide) ?_
          have e9 : ((1 : Int32), (mu V0 3 u_1.toNatClampNeg 9 ((V0 3 u_1.toNatClampNeg 9) + px2))) = res := Option.some.inj h
          subst e9
          exact W.iret (v := (1 : Int32)) hx hb hr (fun t9 ht9 hW9 => ⟨⟨_, (), rfl, rfl, xM_of hM hK hW hAs hS.1 ht9 hW9⟩, hS.F ht9⟩) hS.2.2 dX7_prepare_54
        · have h := iteF c_8 h
          refine lv_bipush (v := (-2)) hx hb dX7_prepare_40 (by decide) ?_
          have e9 : ((-2 : Int32), V0) = res := Option.some.inj h
          subst e9
          exact W.iret (v := (-2 : Int32)) hx hb hr (fun t9 ht9 hW9 => ⟨⟨_, (), rfl, rfl, xM_of hM hK hW hAs hS.1 ht9 hW9⟩, hS.F ht9⟩) hS.2.2 dX7_prepare_42
      · have h := iteF c_6 h
        refine lv_bipush (v := (-3)) hx hb dX7_prepare_29 (by decide) ?_
        have e9 : ((-3 : Int32), V0) = res := Option.some.inj h
        subst e9
        exact W.iret (v := (-3 : Int32)) hx hb hr (fun t9 ht9 hW9 => ⟨⟨_, (), rfl, rfl, xM_of hM hK hW hAs hS.1 ht9 hW9⟩, hS.F ht9⟩) hS.2.2 dX7_prepare_31
    · have h := iteT c_5 h
      refine lv_iconst (v := (-1)) hx hb dX7_prepare_20 (by decide) ?_
      have e9 : ((-1 : Int32), V0) = res := Option.some.inj h
      subst e9
      exact W.iret (v := (-1 : Int32)) hx hb hr (fun t9 ht9 hW9 => ⟨⟨_, (), rfl, rfl, xM_of hM hK hW hAs hS.1 ht9 hW9⟩, hS.F ht9⟩) hS.2.2 dX7_prepare_21
/-! X7_commit -/
def lpX7_commit_38 (L : Nat → Nat → Nat)  : Nat → Int32 → Nat → Int32 → Int32 → mM → Nat × Nat → Option (Int32 × mM)
  | 0, _, _, _, _, _, _ => none
  | n9 + 1, x2, n3, x4, x5, V, c0 => if (V 3 n3 9) ≤ x5 then (some (x4, (mu V 3 n3 9 (0 : Int32)))) else ((fX7_makeEvent L V c0).bind fun u_2 => (fX1_append L (32 + n3) u_2.1 x2 (u_2.2 2 0 4) u_2.2 c0).bind fun u_3 => lpX7_commit_38 L n9 x2 n3 x4 (x5 + 1) u_3 c0)
def fX7_commit (L : Nat → Nat → Nat) (px1 : Int32) (px2 : Int32) (V0 : mM) (c0 : Nat × Nat) : Option (Int32 × mM) := (fX7_stageAt L px1 V0 c0).bind fun u_4 => if u_4 < 0 then (some ((-1 : Int32), V0)) else (if (V0 3 u_4.toNatClampNeg 9) = 0 then (some ((-1 : Int32), V0)) else (if (V0 3 u_4.toNatClampNeg 8) = 0 then (lpX7_commit_38 L fu px2 u_4.toNatClampNeg (V0 2 0 5) (0 : Int32) V0 c0) else (some ((-3 : Int32), V0))))
set_option maxHeartbeats 4000000 in
set_option maxRecDepth 100000 in
theorem kX7_commit (l : Launch) {dC : Nat → ClassId} {dI : Nat → Nat → Nat} {A : Nat → Prop} {ad : Nat → Nat → Nat} {cnt : Nat} {L : Nat → Nat → Nat} {cI cS cW : ClassId} {q : Nat × Nat} (hsh : xSh cnt L) (px1 : Int32) (px2 : Int32) (V0 : mM) (c0 : Nat × Nat) {res : Int32 × mM} (h : fX7_commit L px1 px2 V0 c0 = some res) : Met l yX7_commit wsX7_commit ({ frames := 2, cells := 0, slots := 0, locals := 43 } : Room) (va_Pc [.ref (ad 2 0), .int px1, .int px2] (fun U => xM dC dI A ad cnt L cI cS cW q V0 c0 U)) (va_Qi (fun r9 (_ : Unit) => r9 = res.1) (fun _ t9 => xM dC dI A ad cnt L cI cS cW q res.2 c0 t9) A) 0 0 A := by
  refine Met.ofW (cc := cX7_commit) (maxL := 6) (ret := (some .int)) (by decide) rfl ?_
  intro p e s m args below meth cd s₁ B hml hv
  obtain ⟨rfl, hM, hK, hW, hAs⟩ := hv
  have hx := B.exec
  have hb := B.bytes
  have hr := B.returns
  have hts := atoms_spec (ws := wsX7_commit) B.pre
  have hown : s.vm.findClass RX7 = some m.cls := findClass_of_methodNamed B.named
  have hlocks := B.notSynchronized
  have hS : va_S A s.heap s.heap [] := va_S.rf
  have k94 := hts (.fieldLink RX7 94 "StageDesk$Stage" "reserved" "I") (by decide +kernel)
  have k100 := hts (.fieldLink RX7 100 "StageDesk$Stage" "queue" "LStageDesk$EventRow;") (by decide +kernel)
  have k80 := hts (.fieldLink RX7 80 "StageDesk" "now" "I") (by decide +kernel)
  have k87 := hts (.fieldLink RX7 87 "StageDesk$Stage" "closed" "Z") (by decide +kernel)
  have k97 := hts (.fieldLink RX7 97 "StageDesk" "made" "I") (by decide +kernel)
  have inX3 : ∀ w ∈ u_ws RX3 TX3 19, w ∈ wsX7_commit := by decide +kernel
  have inX7 : ∀ w ∈ u_ws RX7 TX7 7, w ∈ wsX7_commit := by decide +kernel
  have hb38 : ∀ (n9 : Nat), ∀ (x2 : Int32) (n3 : Nat) (x4 : Int32) (x5 : Int32) (V : mM), lpX7_commit_38 L n9 x2 n3 x4 x5 V c0 = some res → ∀ (H : Heap) (locs : List Loc), xex cnt L 3 n3 → mP (dC, dI) vwCl A (xad ad q) (xce cI cS cW ad q L c0) (xex cnt L) V H → xW cnt V → va_S A s.heap H locs → ∀ (ls : Array Slot), lv_has ls 6 [(0, .ref (ad 2 0)), (2, .int x2), (3, .ref (ad 3 n3)), (4, .int x4), (5, .int x5)] → W p l e (headSpec wsX7_commit ({ frames := 2, cells := 0, slots := 0, locals := 43 } : Room)).room s m ([.ref (ad 2 0), .int px1, .int px2] : List Value).toArray below meth cd H locs 0 0 (MQ below (va_Qi (fun r9 (_ : Unit) => r9 = res.1) (fun _ t9 => xM dC dI A ad cnt L cI cS cW q res.2 c0 t9) A) ([.ref (ad 2 0), .int px1, .int px2] : List Value).toArray s 0 0 A) (F0 m 38 ls []) := by
    intro  n9
    induction n9 with
    | zero =>
      intro x2 n3 x4 x5 V h H locs hn3 hM hW hS ls hl
      rw [lpX7_commit_38] at h
      cases h
    | succ n9 ih =>
      intro x2 n3 x4 x5 V h H locs hn3 hM hW hS ls hl
      rw [lpX7_commit_38] at h
      refine lv_iload hx hb dX7_commit_38 (lv_at hl 4 rfl) ?_
      refine lv_aload_n hx hb dX7_commit_40 rfl (lv_at hl 2 rfl) ?_
      refine mm_get (C := RX3) (T := TX3) (N := 19) (ci := 3) hx hb hts inX3 hown hK hM 3 n3 hn3 rfl rfl 9 (by decide) k94 (fun _ h9 => h9) rfl dX7_commit_41 ?_
      refine lv_icmp_ge (tgt := 69) hx hb dX7_commit_44 (by decide) (fun c_1 => ?_) (fun c_1 => ?_)
      · have h := iteT c_1 h
        refine lv_aload_n hx hb dX7_commit_69 rfl (lv_at hl 2 rfl) ?_
        refine lv_iconst (v := 0) hx hb dX7_commit_70 (by decide) ?_
        refine mm_put (C := RX3) (T := TX3) (N := 19) (ci := 3) (ty := .int) hx hb hts inX3 tyX3 tyX3_ok nmX3 hown hK hM hS 3 n3 hn3 rfl rfl 9 (by decide) k94 (fun _ h9 => h9) rfl (by decide +kernel) rfl rfl (Nat.le_of_ble_eq_true rfl) (0 : Int32) rfl dX7_commit_71 (fun H locs hM hS => ?_)
        have hW := xW_mu (k := 3) (n := n3) (t := 9) (x := (0 : Int32)) hW (fun h9 => Bool.noConfusion (show false = true from h9))
        refine lv_iload hx hb dX7_commit_74 (lv_at hl 3 rfl) ?_
        have e9 : (x4, (mu V 3 n3 9 (0 : Int32))) = res := Option.some.inj h
        subst e9
        exact W.iret (v := x4) hx hb hr (fun t9 ht9 hW9 => ⟨⟨_, (), rfl, rfl, xM_of hM hK hW hAs hS.1 ht9 hW9⟩, hS.F ht9⟩) hS.2.2 dX7_commit_76
      · have h := iteF c_1 h
        refine lv_aload_n hx hb dX7_commit_47 rfl (lv_at hl 2 rfl) ?_
        refine mm_get (C := RX3) (T := TX3) (N := 19) (ci := 3) hx hb hts inX3 hown hK hM 3 n3 hn3 rfl rfl 3 (by decide) k100 (fun _ h9 => h9) rfl dX7_commit_48 ?_
        refine lv_aload_n hx hb dX7_commit_51 rfl (lv_at hl 0 rfl) ?_
        obtain ⟨u_2, hu_2, h⟩ := bindS h
        refine va_calli (va_runV (As := []) (rest := [.ref (ad 11 (32 + n3))]) ⟨hx, hb, hml, hown, hts⟩ (kX7_makeEvent l hsh V c0 hu_2) (cwV 0 hts gX7_commit_X7_makeEvent rfl rfl rfl (by decide +kernel) ⟨Nat.le_of_ble_eq_true rfl, Nat.le_of_ble_eq_true rfl⟩) ⟨fun a U g9 mk w9 => ⟨w9.1, xM_calling w9.2⟩, mP_recv (q := (RX7, TX7, 7)) hK hM xe2 rfl rfl, fun U hU hWm => ⟨rfl, xM_of hM hK hW hAs hS.1 hU hWm⟩⟩ rfl rfl hl.1 rfl (lv_room (Nat.le_of_ble_eq_true rfl)) dX7_commit_52 ⟨Nat.le_of_ble_eq_true rfl, Nat.le_of_ble_eq_true rfl⟩) hS (fun _ _ h9 => h9) (fun _ h9 => h9) (fun r9 u9 t9 H locs ht9 _ hw9 hB9 _ _ hS => ?_)
        rw [show r9 = u_2.1 from hw9]
        obtain ⟨hM, -, hW, -⟩ := hB9
        rw [ht9] at hM
        refine lv_iload_n hx hb dX7_commit_55 rfl (lv_at hl 1 rfl) ?_
        refine lv_aload_n hx hb dX7_commit_56 rfl (lv_at hl 0 rfl) ?_
        refine mm_get (C := RX7) (T := TX7) (N := 7) (ci := 7) hx hb hts inX7 hown hK hM 2 0 xe2 rfl rfl 4 (by decide) k80 (fun _ h9 => h9) rfl dX7_commit_57 ?_
        obtain ⟨u_3, hu_3, h⟩ := bindS h
        refine va_callv (va_runV (As := [.int u_2.1, .int x2, .int (u_2.2 2 0 4)]) (rest := []) ⟨hx, hb, hml, hown, hts⟩ (kX1_append l hsh (32 + n3) u_2.1 x2 (u_2.2 2 0 4) u_2.2 c0 hu_3 (xe3_q hn3)) (cwV 3 hts gX7_commit_X1_append rfl rfl rfl (by decide +kernel) ⟨Nat.le_of_ble_eq_true rfl, Nat.le_of_ble_eq_true rfl⟩) ⟨fun a U g9 mk w9 => ⟨w9.1, xM_calling w9.2⟩, mP_recv (q := (RX1, TX1, 4)) hK hM (xe3_q hn3) rfl rfl, fun U hU hWm => ⟨rfl, xM_of hM hK hW hAs hS.1 hU hWm⟩⟩ rfl rfl hl.1 rfl (lv_room (Nat.le_of_ble_eq_true rfl)) dX7_commit_60 ⟨Nat.le_of_ble_eq_true rfl, Nat.le_of_ble_eq_true rfl⟩) hS (fun _ _ h9 => h9) (fun _ h9 => h9) (fun u9 t9 H locs ht9 _ hw9 hB9 _ _ hS => ?_)
        obtain ⟨hM, -, hW, -⟩ := hB9
        rw [ht9] at hM
        refine lv_iinc (v := (x5 + 1)) (lv' := [(5, .int (x5 + 1)), (0, .ref (ad 2 0)), (2, .int x2), (3, .ref (ad 3 n3)), (4, .int x4)]) hx hb dX7_commit_63 hl (k := 4) rfl rfl (by decide) rfl (fun ls hl => ?_)
        refine lv_goto (tgt := 38) hx hb dX7_commit_66 (by decide) ?_
        exact ih _ _ _ _ _ h _ _ hn3 hM hW hS ls (lv_sub hl [1, 2, 3, 4, 0] rfl)
  have hl := lv_entry ([.ref (ad 2 0), .int px1, .int px2]) (n := 6) (Nat.le_of_ble_eq_true rfl)
  rw [lg_entry_eq]
  generalize (lg_sl ([.ref (ad 2 0), .int px1, .int px2]) ++ List.replicate (6 - (lg_sl ([.ref (ad 2 0), .int px1, .int px2])).length) Slot.unset).toArray = ls at hl ⊢
  have hl : lv_has ls 6 [(0, .ref (ad 2 0)), (1, .int px1), (2, .int px2)] := hl
  unfold fX7_commit at h
  refine lv_aload_n hx hb dX7_commit_0 rfl (lv_at hl 0 rfl) ?_
  refine lv_iload_n hx hb dX7_commit_1 rfl (lv_at hl 1 rfl) ?_
  obtain ⟨u_4, hu_4, h⟩ := bindS h
  refine va_callq (va_runV (As := [.int px1]) (rest := []) ⟨hx, hb, hml, hown, hts⟩ (kX7_stageAt l hsh px1 V0 c0 hu_4) (cwV 1 hts gX7_commit_X7_stageAt rfl rfl rfl (by decide +kernel) ⟨Nat.le_of_ble_eq_true rfl, Nat.le_of_ble_eq_true rfl⟩) ⟨fun a U g9 mk w9 => ⟨w9.1, xM_calling w9.2⟩, mP_recv (q := (RX7, TX7, 7)) hK hM xe2 rfl rfl, fun U hU hWm => ⟨rfl, xM_of hM hK hW hAs hS.1 hU hWm⟩⟩ rfl rfl hl.1 rfl (lv_room (Nat.le_of_ble_eq_true rfl)) dX7_commit_2 ⟨Nat.le_of_ble_eq_true rfl, Nat.le_of_ble_eq_true rfl⟩) hS (fun _ _ h9 => h9) (fun _ h9 => h9) (fun r9 u9 t9 H locs ht9 _ hw9 hB9 _ _ hS => ?_)
  obtain ⟨rfl, ok_5⟩ : r9 = rO ad u_4 ∧ okS cnt u_4 := hw9
  obtain ⟨hM, -, hW, -⟩ := hB9
  rw [ht9] at hM
  refine mm_astore_n (lv' := [(3, va_rf (rO ad u_4)), (0, .ref (ad 2 0)), (1, .int px1), (2, .int px2)]) hx hb dX7_commit_5 rfl hl (by decide) rfl (fun ls hl => ?_)
  refine mm_aload_n hx hb dX7_commit_6 rfl (lv_at hl 0 rfl) ?_
  refine mm_ifnull (tgt := 17) hx hb dX7_commit_7 (by decide) (fun z_6 => ?_) (fun z_6 => ?_)
  · have h := iteT z_6 h
    refine lv_iconst (v := (-1)) hx hb dX7_commit_17 (by decide) ?_
    have e9 : ((-1 : Int32), V0) = res := Option.some.inj h
    subst e9
    exact W.iret (v := (-1 : Int32)) hx hb hr (fun t9 ht9 hW9 => ⟨⟨_, (), rfl, rfl, xM_of hM hK hW hAs hS.1 ht9 hW9⟩, hS.F ht9⟩) hS.2.2 dX7_commit_18
  · have h := iteF z_6 h
    rw [rO_pos (ad := ad) z_6] at hl
    refine lv_aload_n hx hb dX7_commit_10 rfl (lv_at hl 0 rfl) ?_
    refine mm_get (C := RX3) (T := TX3) (N := 19) (ci := 3) hx hb hts inX3 hown hK hM 3 u_4.toNatClampNeg (okS_lt ok_5 z_6) rfl rfl 9 (by decide) k94 (fun _ h9 => h9) rfl dX7_commit_11 ?_
    refine lv_if_ne (tgt := 19) hx hb dX7_commit_14 (by decide) (fun c_7 => ?_) (fun c_7 => ?_)
    · have h := iteF c_7 h
      refine lv_aload_n hx hb dX7_commit_19 rfl (lv_at hl 0 rfl) ?_
      refine mm_get (C := RX3) (T := TX3) (N := 19) (ci := 3) hx hb hts inX3 hown hK hM 3 u_4.toNatClampNeg (okS_lt ok_5 z_6) rfl rfl 8 (by decide) k87 (fun _ h9 => h9) rfl dX7_commit_20 ?_
      refine lv_if_eq (tgt := 29) hx hb dX7_commit_23 (by decide) (fun c_8 => ?_) (fun c_8 => ?_)
      · have h := iteT c_8 h
        refine lv_aload_n hx hb dX7_commit_29 rfl (lv_at hl 1 rfl) ?_
        refine mm_get (C := RX7) (T := TX7) (N := 7) (ci := 7) hx hb hts inX7 hown hK hM 2 0 xe2 rfl rfl 5 (by decide) k97 (fun _ h9 => h9) rfl dX7_commit_30 ?_
        refine lv_istore (lv' := [(4, .int (V0 2 0 5)), (3, .ref (ad 3 u_4.toNatClampNeg)), (0, .ref (ad 2 0)), (1, .int px1), (2, .int px2)]) hx hb dX7_commit_33 hl (by decide) rfl (fun ls hl => ?_)
        refine lv_iconst (v := 0) hx hb dX7_commit_35 (by decide) ?_
        refine lv_istore (lv' := [(5, .int (0 : Int32)), (4, .int (V0 2 0 5)), (3, .ref (ad 3 u_4.toNatClampNeg)), (0, .ref (ad 2 0)), (1, .int px1), (2, .int px2)]) hx hb dX7_commit_36 hl (by decide) rfl (fun ls hl => ?_)
        exact hb38 fu _ _ _ _ _ h _ _ (okS_lt ok_5 z_6) hM hW hS ls (lv_sub hl [3, 5, 2, 1, 0] rfl)
      · have h := iteF c_8 h
        refine lv_bipush (v := (-3)) hx hb dX7_commit_26 (by decide) ?_
        have e9 : ((-3 : Int32), V0) = res := Option.some.inj h
        subst e9
        exact W.iret (v := (-3 : Int32)) hx hb hr (fun t9 ht9 hW9 => ⟨⟨_, (), rfl, rfl, xM_of hM hK hW hAs hS.1 ht9 hW9⟩, hS.F ht9⟩) hS.2.2 dX7_commit_28
    · have h := iteT c_7 h
      refine lv_iconst (v := (-1)) hx hb dX7_commit_17 (by decide) ?_
      have e9 : ((-1 : Int32), V0) = res := Option.some.inj h
      subst e9
      exact W.iret (v := (-1 : Int32)) hx hb hr (fun t9 ht9 hW9 => ⟨⟨_, (), rfl, rfl, xM_of hM hK hW hAs hS.1 ht9 hW9⟩, hS.F ht9⟩) hS.2.2 dX7_commit_18
/-! X7_abort -/
def fX7_abort (L : Nat → Nat → Nat) (px1 : Int32) (V0 : mM) (c0 : Nat × Nat) : Option (Int32 × mM) := (fX7_stageAt L px1 V0 c0).bind fun u_1 => if u_1 < 0 then (some ((-1 : Int32), V0)) else (some ((V0 3 u_1.toNatClampNeg 9), (mu V0 3 u_1.toNatClampNeg 9 (0 : Int32))))
set_option maxHeartbeats 4000000 in
set_option maxRecDepth 100000 in
theorem kX7_abort (l : Launch) {dC : Nat → ClassId} {dI : Nat → Nat → Nat} {A : Nat → Prop} {ad : Nat → Nat → Nat} {cnt : Nat} {L : Nat → Nat → Nat} {cI cS cW : ClassId} {q : Nat × Nat} (hsh : xSh cnt L) (px1 : Int32) (V0 : mM) (c0 : Nat × Nat) {res : Int32 × mM} (h : fX7_abort L px1 V0 c0 = some res) : Met l yX7_abort wsX7_abort ({ frames := 2, cells := 0, slots := 0, locals := 43 } : Room) (va_Pc [.ref (ad 2 0), .int px1] (fun U => xM dC dI A ad cnt L cI cS cW q V0 c0 U)) (va_Qi (fun r9 (_ : Unit) => r9 = res.1) (fun _ t9 => xM dC dI A ad cnt L cI cS cW q res.2 c0 t9) A) 0 0 A := by
  refine Met.ofW (cc := cX7_abort) (maxL := 4) (ret := (some .int)) (by decide) rfl ?_
  intro p e s m args below meth cd s₁ B hml hv
  obtain ⟨rfl, hM, hK, hW, hAs⟩ := hv
  have hx := B.exec
  have hb := B.bytes
  have hr := B.returns
  have hts := atoms_spec (ws := wsX7_abort) B.pre
  have hown : s.vm.findClass RX7 = some m.cls := findClass_of_methodNamed B.named
  have hlocks := B.notSynchronized
  have hS : va_S A s.heap s.heap [] := va_S.rf
  have k94 := hts (.fieldLink RX7 94 "StageDesk$Stage" "reserved" "I") (by decide +kernel)
  have inX3 : ∀ w ∈ u_ws RX3 TX3 19, w ∈ wsX7_abort := by decide +kernel
  have hl := lv_entry ([.ref (ad 2 0), .int px1]) (n := 4) (Nat.le_of_ble_eq_true rfl)
  rw [lg_entry_eq]
  generalize (lg_sl ([.ref (ad 2 0), .int px1]) ++ List.replicate (4 - (lg_sl ([.ref (ad 2 0), .int px1])).length) Slot.unset).toArray = ls at hl ⊢
  have hl : lv_has ls 4 [(0, .ref (ad 2 0)), (1, .int px1)] := hl
  unfold fX7_abort at h
  refine lv_aload_n hx hb dX7_abort_0 rfl (lv_at hl 0 rfl) ?_
  refine lv_iload_n hx hb dX7_abort_1 rfl (lv_at hl 1 rfl) ?_
  obtain ⟨u_1, hu_1, h⟩ := bindS h
  refine va_callq (va_runV (As := [.int px1]) (rest := []) ⟨hx, hb, hml, hown, hts⟩ (kX7_stageAt l hsh px1 V0 c0 hu_1) (cwV 1 hts gX7_abort_X7_stageAt rfl rfl rfl (by decide +kernel) ⟨Nat.le_of_ble_eq_true rfl, Nat.le_of_ble_eq_true rfl⟩) ⟨fun a U g9 mk w9 => ⟨w9.1, xM_calling w9.2⟩, mP_recv (q := (RX7, TX7, 7)) hK hM xe2 rfl rfl, fun U hU hWm => ⟨rfl, xM_of hM hK hW hAs hS.1 hU hWm⟩⟩ rfl rfl hl.1 rfl (lv_room (Nat.le_of_ble_eq_true rfl)) dX7_abort_2 ⟨Nat.le_of_ble_eq_true rfl, Nat.le_of_ble_eq_true rfl⟩) hS (fun _ _ h9 => h9) (fun _ h9 => h9) (fun r9 u9 t9 H locs ht9 _ hw9 hB9 _ _ hS => ?_)
  obtain ⟨rfl, ok_2⟩ : r9 = rO ad u_1 ∧ okS cnt u_1 := hw9
  obtain ⟨hM, -, hW, -⟩ := hB9
  rw [ht9] at hM
  refine mm_astore_n (lv' := [(2, va_rf (rO ad u_1)), (0, .ref (ad 2 0)), (1, .int px1)]) hx hb dX7_abort_5 rfl hl (by decide) rfl (fun ls hl => ?_)
  refine mm_aload_n hx hb dX7_abort_6 rfl (lv_at hl 0 rfl) ?_
  refine mm_ifnonnull (tgt := 12) hx hb dX7_abort_7 (by decide) (fun z_3 => ?_) (fun z_3 => ?_)
  · have h := iteF z_3 h
    rw [rO_pos (ad := ad) z_3] at hl
    refine lv_aload_n hx hb dX7_abort_12 rfl (lv_at hl 0 rfl) ?_
    refine mm_get (C := RX3) (T := TX3) (N := 19) (ci := 3) hx hb hts inX3 hown hK hM 3 u_1.toNatClampNeg (okS_lt ok_2 z_3) rfl rfl 9 (by decide) k94 (fun _ h9 => h9) rfl dX7_abort_13 ?_
    refine lv_istore_n (lv' := [(3, .int (V0 3 u_1.toNatClampNeg 9)), (2, .ref (ad 3 u_1.toNatClampNeg)), (0, .ref (ad 2 0)), (1, .int px1)]) hx hb dX7_abort_16 rfl hl (by decide) rfl (fun ls hl => ?_)
    refine lv_aload_n hx hb dX7_abort_17 rfl (lv_at hl 1 rfl) ?_
    refine lv_iconst (v := 0) hx hb dX7_abort_18 (by decide) ?_
    refine mm_put (C := RX3) (T := TX3) (N := 19) (ci := 3) (ty := .int) hx hb hts inX3 tyX3 tyX3_ok nmX3 hown hK hM hS 3 u_1.toNatClampNeg (okS_lt ok_2 z_3) rfl rfl 9 (by decide) k94 (fun _ h9 => h9) rfl (by decide +kernel) rfl rfl (Nat.le_of_ble_eq_true rfl) (0 : Int32) rfl dX7_abort_19 (fun H locs hM hS => ?_)
    have hW := xW_mu (k := 3) (n := u_1.toNatClampNeg) (t := 9) (x := (0 : Int32)) hW (fun h9 => Bool.noConfusion (show false = true from h9))
    refine lv_iload_n hx hb dX7_abort_22 rfl (lv_at hl 0 rfl) ?_
    have e9 : ((V0 3 u_1.toNatClampNeg 9), (mu V0 3 u_1.toNatClampNeg 9 (0 : Int32))) = res := Option.some.inj h
    subst e9
    exact W.iret (v := (V0 3 u_1.toNatClampNeg 9)) hx hb hr (fun t9 ht9 hW9 => ⟨⟨_, (), rfl, rfl, xM_of hM hK hW hAs hS.1 ht9 hW9⟩, hS.F ht9⟩) hS.2.2 dX7_abort_23
  · have h := iteT z_3 h
    refine lv_iconst (v := (-1)) hx hb dX7_abort_10 (by decide) ?_
    have e9 : ((-1 : Int32), V0) = res := Option.some.inj h
    subst e9
    exact W.iret (v := (-1 : Int32)) hx hb hr (fun t9 ht9 hW9 => ⟨⟨_, (), rfl, rfl, xM_of hM hK hW hAs hS.1 ht9 hW9⟩, hS.F ht9⟩) hS.2.2 dX7_abort_11
/-! X7_timer -/
def fX7_timer (L : Nat → Nat → Nat) (px1 : Int32) (px2 : Int32) (px3 : Int32) (V0 : mM) (c0 : Nat × Nat) : Option (Int32 × mM) := (fX7_stageAt L px1 V0 c0).bind fun u_1 => if u_1 < 0 then (some ((-1 : Int32), V0)) else ((fX7_within L px3 (1 : Int32) (1000 : Int32) V0 c0).bind fun u_4 => if u_4 = 0 then (some ((-1 : Int32), V0)) else ((fX4_append L u_1.toNatClampNeg px2 ((V0 2 0 4) + px3) V0 c0).bind fun u_6 => some (u_6.1, u_6.2)))
set_option maxHeartbeats 4000000 in
set_option maxRecDepth 100000 in
theorem kX7_timer (l : Launch) {dC : Nat → ClassId} {dI : Nat → Nat → Nat} {A : Nat → Prop} {ad : Nat → Nat → Nat} {cnt : Nat} {L : Nat → Nat → Nat} {cI cS cW : ClassId} {q : Nat × Nat} (hsh : xSh cnt L) (px1 : Int32) (px2 : Int32) (px3 : Int32) (V0 : mM) (c0 : Nat × Nat) {res : Int32 × mM} (h : fX7_timer L px1 px2 px3 V0 c0 = some res) : Met l yX7_timer wsX7_timer ({ frames := 2, cells := 0, slots := 0, locals := 43 } : Room) (va_Pc [.ref (ad 2 0), .int px1, .int px2, .int px3] (fun U => xM dC dI A ad cnt L cI cS cW q V0 c0 U)) (va_Qi (fun r9 (_ : Unit) => r9 = res.1) (fun _ t9 => xM dC dI A ad cnt L cI cS cW q res.2 c0 t9) A) 0 0 A := by
  refine Met.ofW (cc := cX7_timer) (maxL := 5) (ret := (some .int)) (by decide) rfl ?_
  intro p e s m args below meth cd s₁ B hml hv
  obtain ⟨rfl, hM, hK, hW, hAs⟩ := hv
  have hx := B.exec
  have hb := B.bytes
  have hr := B.returns
  have hts := atoms_spec (ws := wsX7_timer) B.pre
  have hown : s.vm.findClass RX7 = some m.cls := findClass_of_methodNamed B.named
  have hlocks := B.notSynchronized
  have hS : va_S A s.heap s.heap [] := va_S.rf
  have k18 := hts (.fieldLink RX7 18 "StageDesk" "timers" "LStageDesk$Timers;") (by decide +kernel)
  have k80 := hts (.fieldLink RX7 80 "StageDesk" "now" "I") (by decide +kernel)
  have inX7 : ∀ w ∈ u_ws RX7 TX7 7, w ∈ wsX7_timer := by decide +kernel
  have hl := lv_entry ([.ref (ad 2 0), .int px1, .int px2, .int px3]) (n := 5) (Nat.le_of_ble_eq_true rfl)
  rw [lg_entry_eq]
  generalize (lg_sl ([.ref (ad 2 0), .int px1, .int px2, .int px3]) ++ List.replicate (5 - (lg_sl ([.ref (ad 2 0), .int px1, .int px2, .int px3])).length) Slot.unset).toArray = ls at hl ⊢
  have hl : lv_has ls 5 [(0, .ref (ad 2 0)), (1, .int px1), (2, .int px2), (3, .int px3)] := hl
  unfold fX7_timer at h
  refine lv_aload_n hx hb dX7_timer_0 rfl (lv_at hl 0 rfl) ?_
  refine lv_iload_n hx hb dX7_timer_1 rfl (lv_at hl 1 rfl) ?_
  obtain ⟨u_1, hu_1, h⟩ := bindS h
  refine va_callq (va_runV (As := [.int px1]) (rest := []) ⟨hx, hb, hml, hown, hts⟩ (kX7_stageAt l hsh px1 V0 c0 hu_1) (cwV 1 hts gX7_timer_X7_stageAt rfl rfl rfl (by decide +kernel) ⟨Nat.le_of_ble_eq_true rfl, Nat.le_of_ble_eq_true rfl⟩) ⟨fun a U g9 mk w9 => ⟨w9.1, xM_calling w9.2⟩, mP_recv (q := (RX7, TX7, 7)) hK hM xe2 rfl rfl, fun U hU hWm => ⟨rfl, xM_of hM hK hW hAs hS.1 hU hWm⟩⟩ rfl rfl hl.1 rfl (lv_room (Nat.le_of_ble_eq_true rfl)) dX7_timer_2 ⟨Nat.le_of_ble_eq_true rfl, Nat.le_of_ble_eq_true rfl⟩) hS (fun _ _ h9 => h9) (fun _ h9 => h9) (fun r9 u9 t9 H locs ht9 _ hw9 hB9 _ _ hS => ?_)
  obtain ⟨rfl, ok_2⟩ : r9 = rO ad u_1 ∧ okS cnt u_1 := hw9
  obtain ⟨hM, -, hW, -⟩ := hB9
  rw [ht9] at hM
  refine mm_astore (lv' := [(4, va_rf (rO ad u_1)), (0, .ref (ad 2 0)), (1, .int px1), (2, .int px2), (3, .int px3)]) hx hb dX7_timer_5 hl (by decide) rfl (fun ls hl => ?_)
  refine mm_aload hx hb dX7_timer_7 (lv_at hl 0 rfl) ?_
  refine mm_ifnull (tgt := 23) hx hb dX7_timer_9 (by decide) (fun z_3 => ?_) (fun z_3 => ?_)
  · have h := iteT z_3 h
    refine lv_iconst (v := (-1)) hx hb dX7_timer_23 (by decide) ?_
    have e9 : ((-1 : Int32), V0) = res := Option.some.inj h
    subst e9
    exact W.iret (v := (-1 : Int32)) hx hb hr (fun t9 ht9 hW9 => ⟨⟨_, (), rfl, rfl, xM_of hM hK hW hAs hS.1 ht9 hW9⟩, hS.F ht9⟩) hS.2.2 dX7_timer_24
  · have h := iteF z_3 h
    rw [rO_pos (ad := ad) z_3] at hl
    refine lv_iload_n hx hb dX7_timer_12 rfl (lv_at hl 4 rfl) ?_
    refine lv_iconst (v := 1) hx hb dX7_timer_13 (by decide) ?_
    refine lv_sipush (v := 1000) hx hb dX7_timer_14 (by decide) ?_
    obtain ⟨u_4, hu_4, h⟩ := bindS h
    refine va_calli (va_runS (As := [.int px3, .int (1 : Int32), .int (1000 : Int32)]) (rest := []) ⟨hx, hb, hml, hown, hts⟩ (kX7_within l hsh px3 (1 : Int32) (1000 : Int32) V0 c0 hu_4) (va_cwS 3 hts gX7_timer_X7_within rfl rfl rfl (by decide +kernel) ⟨Nat.le_of_ble_eq_true rfl, Nat.le_of_ble_eq_true rfl⟩) ⟨fun a U g9 mk w9 => ⟨w9.1, xM_calling w9.2⟩, fun U hU hWm => ⟨rfl, xM_of hM hK hW hAs hS.1 hU hWm⟩⟩ rfl rfl hl.1 rfl (lv_room (Nat.le_of_ble_eq_true rfl)) dX7_timer_17 ⟨Nat.le_of_ble_eq_true rfl, Nat.le_of_ble_eq_true rfl⟩) hS (fun _ _ h9 => h9) (fun _ h9 => h9) (fun r9 u9 t9 H locs ht9 _ hw9 hB9 _ _ hS => ?_)
    rw [show r9 = u_4 from hw9]
    obtain ⟨hM, -, hW, -⟩ := hB9
    rw [ht9] at hM
    refine lv_if_ne (tgt := 25) hx hb dX7_timer_20 (by decide) (fun c_5 => ?_) (fun c_5 => ?_)
    · have h := iteF c_5 h
      refine lv_aload_n hx hb dX7_timer_25 rfl (lv_at hl 1 rfl) ?_
      refine mm_get (C := RX7) (T := TX7) (N := 7) (ci := 7) hx hb hts inX7 hown hK hM 2 0 xe2 rfl rfl 1 (by decide) k18 (fun _ h9 => h9) rfl dX7_timer_26 ?_
      refine lv_aload hx hb dX7_timer_29 (lv_at hl 0 rfl) ?_
      refine lv_iload_n hx hb dX7_timer_31 rfl (lv_at hl 3 rfl) ?_
      refine lv_aload_n hx hb dX7_timer_32 rfl (lv_at hl 1 rfl) ?_
      refine mm_get (C := RX7) (T := TX7) (N := 7) (ci := 7) hx hb hts inX7 hown hK hM 2 0 xe2 rfl rfl 4 (by decide) k80 (fun _ h9 => h9) rfl dX7_timer_33 ?_
      refine lv_iload_n hx hb dX7_timer_36 rfl (lv_at hl 4 rfl) ?_
      refine lv_iadd hx hb dX7_timer_37 ?_
      obtain ⟨u_6, hu_6, h⟩ := bindS h
      refine va_calli (va_runV (As := [.ref (ad 3 u_1.toNatClampNeg), .int px2, .int ((V0 2 0 4) + px3)]) (rest := []) ⟨hx, hb, hml, hown, hts⟩ (kX4_append l hsh u_1.toNatClampNeg px2 ((V0 2 0 4) + px3) V0 c0 hu_6 (okS_lt ok_2 z_3)) (cwV 3 hts gX7_timer_X4_append rfl rfl rfl (by decide +kernel) ⟨Nat.le_of_ble_eq_true rfl, Nat.le_of_ble_eq_true rfl⟩) ⟨fun a U g9 mk w9 => ⟨w9.1, xM_calling w9.2⟩, mP_recv (q := (RX4, TX4, 6)) hK hM xe5 rfl rfl, fun U hU hWm => ⟨rfl, xM_of hM hK hW hAs hS.1 hU hWm⟩⟩ rfl rfl hl.1 rfl (lv_room (Nat.le_of_ble_eq_true rfl)) dX7_timer_38 ⟨Nat.le_of_ble_eq_true rfl, Nat.le_of_ble_eq_true rfl⟩) hS (fun _ _ h9 => h9) (fun _ h9 => h9) (fun r9 u9 t9 H locs ht9 _ hw9 hB9 _ _ hS => ?_)
      rw [show r9 = u_6.1 from hw9]
      obtain ⟨hM, -, hW, -⟩ := hB9
      rw [ht9] at hM
      have e9 : (u_6.1, u_6.2) = res := Option.some.inj h
      subst e9
      exact W.iret (v := u_6.1) hx hb hr (fun t9 ht9 hW9 => ⟨⟨_, (), rfl, rfl, xM_of hM hK hW hAs hS.1 ht9 hW9⟩, hS.F ht9⟩) hS.2.2 dX7_timer_41
    · have h := iteT c_5 h
      refine lv_iconst (v := (-1)) hx hb dX7_timer_23 (by decide) ?_
      have e9 : ((-1 : Int32), V0) = res := Option.some.inj h
      subst e9
      exact W.iret (v := (-1 : Int32)) hx hb hr (fun t9 ht9 hW9 => ⟨⟨_, (), rfl, rfl, xM_of hM hK hW hAs hS.1 ht9 hW9⟩, hS.F ht9⟩) hS.2.2 dX7_timer_24
/-! X7_cancel -/
def fX7_cancel (L : Nat → Nat → Nat) (px1 : Int32) (V0 : mM) (c0 : Nat × Nat) : Option (Int32 × mM) := (fX4_remove L px1 V0 c0).bind fun u_1 => if u_1.1 = 0 then (some ((-1 : Int32), u_1.2)) else (some ((1 : Int32), u_1.2))
set_option maxHeartbeats 4000000 in
set_option maxRecDepth 100000 in
theorem kX7_cancel (l : Launch) {dC : Nat → ClassId} {dI : Nat → Nat → Nat} {A : Nat → Prop} {ad : Nat → Nat → Nat} {cnt : Nat} {L : Nat → Nat → Nat} {cI cS cW : ClassId} {q : Nat × Nat} (hsh : xSh cnt L) (px1 : Int32) (V0 : mM) (c0 : Nat × Nat) {res : Int32 × mM} (h : fX7_cancel L px1 V0 c0 = some res) : Met l yX7_cancel wsX7_cancel ({ frames := 2, cells := 0, slots := 0, locals := 45 } : Room) (va_Pc [.ref (ad 2 0), .int px1] (fun U => xM dC dI A ad cnt L cI cS cW q V0 c0 U)) (va_Qi (fun r9 (_ : Unit) => r9 = res.1) (fun _ t9 => xM dC dI A ad cnt L cI cS cW q res.2 c0 t9) A) 0 0 A := by
  refine Met.ofW (cc := cX7_cancel) (maxL := 2) (ret := (some .int)) (by decide) rfl ?_
  intro p e s m args below meth cd s₁ B hml hv
  obtain ⟨rfl, hM, hK, hW, hAs⟩ := hv
  have hx := B.exec
  have hb := B.bytes
  have hr := B.returns
  have hts := atoms_spec (ws := wsX7_cancel) B.pre
  have hown : s.vm.findClass RX7 = some m.cls := findClass_of_methodNamed B.named
  have hlocks := B.notSynchronized
  have hS : va_S A s.heap s.heap [] := va_S.rf
  have k18 := hts (.fieldLink RX7 18 "StageDesk" "timers" "LStageDesk$Timers;") (by decide +kernel)
  have inX7 : ∀ w ∈ u_ws RX7 TX7 7, w ∈ wsX7_cancel := by decide +kernel
  have hl := lv_entry ([.ref (ad 2 0), .int px1]) (n := 2) (Nat.le_of_ble_eq_true rfl)
  rw [lg_entry_eq]
  generalize (lg_sl ([.ref (ad 2 0), .int px1]) ++ List.replicate (2 - (lg_sl ([.ref (ad 2 0), .int px1])).length) Slot.unset).toArray = ls at hl ⊢
  have hl : lv_has ls 2 [(0, .ref (ad 2 0)), (1, .int px1)] := hl
  unfold fX7_cancel at h
  refine lv_aload_n hx hb dX7_cancel_0 rfl (lv_at hl 0 rfl) ?_
  refine mm_get (C := RX7) (T := TX7) (N := 7) (ci := 7) hx hb hts inX7 hown hK hM 2 0 xe2 rfl rfl 1 (by decide) k18 (fun _ h9 => h9) rfl dX7_cancel_1 ?_
  refine lv_iload_n hx hb dX7_cancel_4 rfl (lv_at hl 1 rfl) ?_
  obtain ⟨u_1, hu_1, h⟩ := bindS h
  refine va_calli (va_runV (As := [.int px1]) (rest := []) ⟨hx, hb, hml, hown, hts⟩ (kX4_remove l hsh px1 V0 c0 hu_1) (cwV 1 hts gX7_cancel_X4_remove rfl rfl rfl (by decide +kernel) ⟨Nat.le_of_ble_eq_true rfl, Nat.le_of_ble_eq_true rfl⟩) ⟨fun a U g9 mk w9 => ⟨w9.1, xM_calling w9.2⟩, mP_recv (q := (RX4, TX4, 6)) hK hM xe5 rfl rfl, fun U hU hWm => ⟨rfl, xM_of hM hK hW hAs hS.1 hU hWm⟩⟩ rfl rfl hl.1 rfl (lv_room (Nat.le_of_ble_eq_true rfl)) dX7_cancel_5 ⟨Nat.le_of_ble_eq_true rfl, Nat.le_of_ble_eq_true rfl⟩) hS (fun _ _ h9 => h9) (fun _ h9 => h9) (fun r9 u9 t9 H locs ht9 _ hw9 hB9 _ _ hS => ?_)
  rw [show r9 = u_1.1 from hw9]
  obtain ⟨hM, -, hW, -⟩ := hB9
  rw [ht9] at hM
  refine lv_if_eq (tgt := 15) hx hb dX7_cancel_8 (by decide) (fun c_2 => ?_) (fun c_2 => ?_)
  · have h := iteT c_2 h
    refine lv_iconst (v := (-1)) hx hb dX7_cancel_15 (by decide) ?_
    have e9 : ((-1 : Int32), u_1.2) = res := Option.some.inj h
    subst e9
    exact W.iret (v := (-1 : Int32)) hx hb hr (fun t9 ht9 hW9 => ⟨⟨_, (), rfl, rfl, xM_of hM hK hW hAs hS.1 ht9 hW9⟩, hS.F ht9⟩) hS.2.2 dX7_cancel_16
  · have h := iteF c_2 h
    refine lv_iconst (v := 1) hx hb dX7_cancel_11 (by decide) ?_
    refine lv_goto (tgt := 16) hx hb dX7_cancel_12 (by decide) ?_
    have e9 : ((1 : Int32), u_1.2) = res := Option.some.inj h
    subst e9
    exact W.iret (v := (1 : Int32)) hx hb hr (fun t9 ht9 hW9 => ⟨⟨_, (), rfl, rfl, xM_of hM hK hW hAs hS.1 ht9 hW9⟩, hS.F ht9⟩) hS.2.2 dX7_cancel_16
/-! X7_close -/
def fX7_close (L : Nat → Nat → Nat) (px1 : Int32) (V0 : mM) (c0 : Nat × Nat) : Option (Int32 × mM) := (fX7_stageAt L px1 V0 c0).bind fun u_1 => if u_1 < 0 then (some ((-1 : Int32), V0)) else (if (V0 3 u_1.toNatClampNeg 8) = 0 then (some ((1 : Int32), (mu V0 3 u_1.toNatClampNeg 8 (1 : Int32)))) else (some ((-3 : Int32), V0)))
set_option maxHeartbeats 4000000 in
set_option maxRecDepth 100000 in
theorem kX7_close (l : Launch) {dC : Nat → ClassId} {dI : Nat → Nat → Nat} {A : Nat → Prop} {ad : Nat → Nat → Nat} {cnt : Nat} {L : Nat → Nat → Nat} {cI cS cW : ClassId} {q : Nat × Nat} (hsh : xSh cnt L) (px1 : Int32) (V0 : mM) (c0 : Nat × Nat) {res : Int32 × mM} (h : fX7_close L px1 V0 c0 = some res) : Met l yX7_close wsX7_close ({ frames := 2, cells := 0, slots := 0, locals := 43 } : Room) (va_Pc [.ref (ad 2 0), .int px1] (fun U => xM dC dI A ad cnt L cI cS cW q V0 c0 U)) (va_Qi (fun r9 (_ : Unit) => r9 = res.1) (fun _ t9 => xM dC dI A ad cnt L cI cS cW q res.2 c0 t9) A) 0 0 A := by
  refine Met.ofW (cc := cX7_close) (maxL := 3) (ret := (some .int)) (by decide) rfl ?_
  intro p e s m args below meth cd s₁ B hml hv
  obtain ⟨rfl, hM, hK, hW, hAs⟩ := hv
  have hx := B.exec
  have hb := B.bytes
  have hr := B.returns
  have hts := atoms_spec (ws := wsX7_close) B.pre
  have hown : s.vm.findClass RX7 = some m.cls := findClass_of_methodNamed B.named
  have hlocks := B.notSynchronized
  have hS : va_S A s.heap s.heap [] := va_S.rf
  have k87 := hts (.fieldLink RX7 87 "StageDesk$Stage" "closed" "Z") (by decide +kernel)
  have inX3 : ∀ w ∈ u_ws RX3 TX3 19, w ∈ wsX7_close := by decide +kernel
  have hl := lv_entry ([.ref (ad 2 0), .int px1]) (n := 3) (Nat.le_of_ble_eq_true rfl)
  rw [lg_entry_eq]
  generalize (lg_sl ([.ref (ad 2 0), .int px1]) ++ List.replicate (3 - (lg_sl ([.ref (ad 2 0), .int px1])).length) Slot.unset).toArray = ls at hl ⊢
  have hl : lv_has ls 3 [(0, .ref (ad 2 0)), (1, .int px1)] := hl
  unfold fX7_close at h
  refine lv_aload_n hx hb dX7_close_0 rfl (lv_at hl 0 rfl) ?_
  refine lv_iload_n hx hb dX7_close_1 rfl (lv_at hl 1 rfl) ?_
  obtain ⟨u_1, hu_1, h⟩ := bindS h
  refine va_callq (va_runV (As := [.int px1]) (rest := []) ⟨hx, hb, hml, hown, hts⟩ (kX7_stageAt l hsh px1 V0 c0 hu_1) (cwV 1 hts gX7_close_X7_stageAt rfl rfl rfl (by decide +kernel) ⟨Nat.le_of_ble_eq_true rfl, Nat.le_of_ble_eq_true rfl⟩) ⟨fun a U g9 mk w9 => ⟨w9.1, xM_calling w9.2⟩, mP_recv (q := (RX7, TX7, 7)) hK hM xe2 rfl rfl, fun U hU hWm => ⟨rfl, xM_of hM hK hW hAs hS.1 hU hWm⟩⟩ rfl rfl hl.1 rfl (lv_room (Nat.le_of_ble_eq_true rfl)) dX7_close_2 ⟨Nat.le_of_ble_eq_true rfl, Nat.le_of_ble_eq_true rfl⟩) hS (fun _ _ h9 => h9) (fun _ h9 => h9) (fun r9 u9 t9 H locs ht9 _ hw9 hB9 _ _ hS => ?_)
  obtain ⟨rfl, ok_2⟩ : r9 = rO ad u_1 ∧ okS cnt u_1 := hw9
  obtain ⟨hM, -, hW, -⟩ := hB9
  rw [ht9] at hM
  refine mm_astore_n (lv' := [(2, va_rf (rO ad u_1)), (0, .ref (ad 2 0)), (1, .int px1)]) hx hb dX7_close_5 rfl hl (by decide) rfl (fun ls hl => ?_)
  refine mm_aload_n hx hb dX7_close_6 rfl (lv_at hl 0 rfl) ?_
  refine mm_ifnonnull (tgt := 12) hx hb dX7_close_7 (by decide) (fun z_3 => ?_) (fun z_3 => ?_)
  · have h := iteF z_3 h
    rw [rO_pos (ad := ad) z_3] at hl
    refine lv_aload_n hx hb dX7_close_12 rfl (lv_at hl 0 rfl) ?_
    refine mm_get (C := RX3) (T := TX3) (N := 19) (ci := 3) hx hb hts inX3 hown hK hM 3 u_1.toNatClampNeg (okS_lt ok_2 z_3) rfl rfl 8 (by decide) k87 (fun _ h9 => h9) rfl dX7_close_13 ?_
    refine lv_if_eq (tgt := 22) hx hb dX7_close_16 (by decide) (fun c_4 => ?_) (fun c_4 => ?_)
    · have h := iteT c_4 h
      refine lv_aload_n hx hb dX7_close_22 rfl (lv_at hl 0 rfl) ?_
      refine lv_iconst (v := 1) hx hb dX7_close_23 (by decide) ?_
      refine mm_put (C := RX3) (T := TX3) (N := 19) (ci := 3) (ty := .boolean) hx hb hts inX3 tyX3 tyX3_ok nmX3 hown hK hM hS 3 u_1.toNatClampNeg (okS_lt ok_2 z_3) rfl rfl 8 (by decide) k87 (fun _ h9 => h9) rfl (by decide +kernel) rfl rfl (Nat.le_of_ble_eq_true rfl) (1 : Int32) rfl dX7_close_24 (fun H locs hM hS => ?_)
      have hW := xW_mu (k := 3) (n := u_1.toNatClampNeg) (t := 8) (x := (1 : Int32)) hW (fun h9 => Bool.noConfusion (show false = true from h9))
      refine lv_iconst (v := 1) hx hb dX7_close_27 (by decide) ?_
      have e9 : ((1 : Int32), (mu V0 3 u_1.toNatClampNeg 8 (1 : Int32))) = res := Option.some.inj h
      subst e9
      exact W.iret (v := (1 : Int32)) hx hb hr (fun t9 ht9 hW9 => ⟨⟨_, (), rfl, rfl, xM_of hM hK hW hAs hS.1 ht9 hW9⟩, hS.F ht9⟩) hS.2.2 dX7_close_28
    · have h := iteF c_4 h
      refine lv_bipush (v := (-3)) hx hb dX7_close_19 (by decide) ?_
      have e9 : ((-3 : Int32), V0) = res := Option.some.inj h
      subst e9
      exact W.iret (v := (-3 : Int32)) hx hb hr (fun t9 ht9 hW9 => ⟨⟨_, (), rfl, rfl, xM_of hM hK hW hAs hS.1 ht9 hW9⟩, hS.F ht9⟩) hS.2.2 dX7_close_21
  · have h := iteT z_3 h
    refine lv_iconst (v := (-1)) hx hb dX7_close_10 (by decide) ?_
    have e9 : ((-1 : Int32), V0) = res := Option.some.inj h
    subst e9
    exact W.iret (v := (-1 : Int32)) hx hb hr (fun t9 ht9 hW9 => ⟨⟨_, (), rfl, rfl, xM_of hM hK hW hAs hS.1 ht9 hW9⟩, hS.F ht9⟩) hS.2.2 dX7_close_11
/-! X7_fire -/
def fX7_fire (L : Nat → Nat → Nat) (pn1 : Nat) (px2 : Int32) (V0 : mM) (c0 : Nat × Nat) : Option (mM) := (fX7_makeEvent L V0 c0).bind fun u_1 => (fX3_ask L pn1 u_1.2 c0).bind fun u_2 => if u_2.1 = 0 then ((fX3_take L pn1 u_1.1 px2 (u_2.2 2 0 4) u_2.2 c0).bind fun u_4 => some u_4) else (some (mu u_2.2 2 0 6 ((u_2.2 2 0 6) + (1 : Int32))))
set_option maxHeartbeats 4000000 in
set_option maxRecDepth 100000 in
theorem kX7_fire (l : Launch) {dC : Nat → ClassId} {dI : Nat → Nat → Nat} {A : Nat → Prop} {ad : Nat → Nat → Nat} {cnt : Nat} {L : Nat → Nat → Nat} {cI cS cW : ClassId} {q : Nat × Nat} (hsh : xSh cnt L) (pn1 : Nat) (px2 : Int32) (V0 : mM) (c0 : Nat × Nat) {res : mM} (h : fX7_fire L pn1 px2 V0 c0 = some res) (hpn1 : xex cnt L 3 pn1) : Met l yX7_fire wsX7_fire ({ frames := 2, cells := 0, slots := 0, locals := 46 } : Room) (va_Pc [.ref (ad 2 0), .ref (ad 3 pn1), .int px2] (fun U => xM dC dI A ad cnt L cI cS cW q V0 c0 U)) (va_Qv (fun (_ : Unit) => True) (fun _ t9 => xM dC dI A ad cnt L cI cS cW q res c0 t9) A) 0 0 A := by
  refine Met.ofW (cc := cX7_fire) (maxL := 4) (ret := none) (by decide) rfl ?_
  intro p e s m args below meth cd s₁ B hml hv
  obtain ⟨rfl, hM, hK, hW, hAs⟩ := hv
  have hx := B.exec
  have hb := B.bytes
  have hr := B.returns
  have hts := atoms_spec (ws := wsX7_fire) B.pre
  have hown : s.vm.findClass RX7 = some m.cls := findClass_of_methodNamed B.named
  have hlocks := B.notSynchronized
  have hS : va_S A s.heap s.heap [] := va_S.rf
  have k144 := hts (.fieldLink RX7 144 "StageDesk" "lostCount" "I") (by decide +kernel)
  have k80 := hts (.fieldLink RX7 80 "StageDesk" "now" "I") (by decide +kernel)
  have inX7 : ∀ w ∈ u_ws RX7 TX7 7, w ∈ wsX7_fire := by decide +kernel
  have hl := lv_entry ([.ref (ad 2 0), .ref (ad 3 pn1), .int px2]) (n := 4) (Nat.le_of_ble_eq_true rfl)
  rw [lg_entry_eq]
  generalize (lg_sl ([.ref (ad 2 0), .ref (ad 3 pn1), .int px2]) ++ List.replicate (4 - (lg_sl ([.ref (ad 2 0), .ref (ad 3 pn1), .int px2])).length) Slot.unset).toArray = ls at hl ⊢
  have hl : lv_has ls 4 [(0, .ref (ad 2 0)), (1, .ref (ad 3 pn1)), (2, .int px2)] := hl
  unfold fX7_fire at h
  refine lv_aload_n hx hb dX7_fire_0 rfl (lv_at hl 0 rfl) ?_
  obtain ⟨u_1, hu_1, h⟩ := bindS h
  refine va_calli (va_runV (As := []) (rest := []) ⟨hx, hb, hml, hown, hts⟩ (kX7_makeEvent l hsh V0 c0 hu_1) (cwV 0 hts gX7_fire_X7_makeEvent rfl rfl rfl (by decide +kernel) ⟨Nat.le_of_ble_eq_true rfl, Nat.le_of_ble_eq_true rfl⟩) ⟨fun a U g9 mk w9 => ⟨w9.1, xM_calling w9.2⟩, mP_recv (q := (RX7, TX7, 7)) hK hM xe2 rfl rfl, fun U hU hWm => ⟨rfl, xM_of hM hK hW hAs hS.1 hU hWm⟩⟩ rfl rfl hl.1 rfl (lv_room (Nat.le_of_ble_eq_true rfl)) dX7_fire_1 ⟨Nat.le_of_ble_eq_true rfl, Nat.le_of_ble_eq_true rfl⟩) hS (fun _ _ h9 => h9) (fun _ h9 => h9) (fun r9 u9 t9 H locs ht9 _ hw9 hB9 _ _ hS => ?_)
  rw [show r9 = u_1.1 from hw9]
  obtain ⟨hM, -, hW, -⟩ := hB9
  rw [ht9] at hM
  refine lv_istore_n (lv' := [(3, .int u_1.1), (0, .ref (ad 2 0)), (1, .ref (ad 3 pn1)), (2, .int px2)]) hx hb dX7_fire_4 rfl hl (by decide) rfl (fun ls hl => ?_)
  refine lv_aload_n hx hb dX7_fire_5 rfl (lv_at hl 2 rfl) ?_
  obtain ⟨u_2, hu_2, h⟩ := bindS h
  refine va_calli (va_runV (As := []) (rest := []) ⟨hx, hb, hml, hown, hts⟩ (kX3_ask l hsh pn1 u_1.2 c0 hu_2 hpn1) (cwV 0 hts gX7_fire_X3_ask rfl rfl rfl (by decide +kernel) ⟨Nat.le_of_ble_eq_true rfl, Nat.le_of_ble_eq_true rfl⟩) ⟨fun a U g9 mk w9 => ⟨w9.1, xM_calling w9.2⟩, mP_recv (q := (RX3, TX3, 19)) hK hM hpn1 rfl rfl, fun U hU hWm => ⟨rfl, xM_of hM hK hW hAs hS.1 hU hWm⟩⟩ rfl rfl hl.1 rfl (lv_room (Nat.le_of_ble_eq_true rfl)) dX7_fire_6 ⟨Nat.le_of_ble_eq_true rfl, Nat.le_of_ble_eq_true rfl⟩) hS (fun _ _ h9 => h9) (fun _ h9 => h9) (fun r9 u9 t9 H locs ht9 _ hw9 hB9 _ _ hS => ?_)
  rw [show r9 = u_2.1 from hw9]
  obtain ⟨hM, -, hW, -⟩ := hB9
  rw [ht9] at hM
  refine lv_if_ne (tgt := 25) hx hb dX7_fire_9 (by decide) (fun c_3 => ?_) (fun c_3 => ?_)
  · have h := iteF c_3 h
    refine lv_aload_n hx hb dX7_fire_25 rfl (lv_at hl 1 rfl) ?_
    refine lv_dup hx hb dX7_fire_26 rfl ?_
    refine mm_get (C := RX7) (T := TX7) (N := 7) (ci := 7) hx hb hts inX7 hown hK hM 2 0 xe2 rfl rfl 6 (by decide) k144 (fun _ h9 => h9) rfl dX7_fire_27 ?_
    refine lv_iconst (v := 1) hx hb dX7_fire_30 (by decide) ?_
    refine lv_iadd hx hb dX7_fire_31 ?_
    refine mm_put (C := RX7) (T := TX7) (N := 7) (ci := 7) (ty := .int) hx hb hts inX7 tyX7 tyX7_ok nmX7 hown hK hM hS 2 0 xe2 rfl rfl 6 (by decide) k144 (fun _ h9 => h9) rfl (by decide +kernel) rfl rfl (Nat.le_of_ble_eq_true rfl) ((u_2.2 2 0 6) + (1 : Int32)) rfl dX7_fire_32 (fun H locs hM hS => ?_)
    have hW := xW_mu (k := 2) (n := 0) (t := 6) (x := ((u_2.2 2 0 6) + (1 : Int32))) hW (fun h9 => Bool.noConfusion (show false = true from h9))
    have e9 : (mu u_2.2 2 0 6 ((u_2.2 2 0 6) + (1 : Int32))) = res := Option.some.inj h
    subst e9
    exact W.vret hx hb hr (fun t9 ht9 hW9 => ⟨⟨(), rfl, trivial, xM_of hM hK hW hAs hS.1 ht9 hW9⟩, hS.F ht9⟩) hS.2.2 dX7_fire_35
  · have h := iteT c_3 h
    refine lv_aload_n hx hb dX7_fire_12 rfl (lv_at hl 2 rfl) ?_
    refine lv_iload_n hx hb dX7_fire_13 rfl (lv_at hl 0 rfl) ?_
    refine lv_iload_n hx hb dX7_fire_14 rfl (lv_at hl 3 rfl) ?_
    refine lv_aload_n hx hb dX7_fire_15 rfl (lv_at hl 1 rfl) ?_
    refine mm_get (C := RX7) (T := TX7) (N := 7) (ci := 7) hx hb hts inX7 hown hK hM 2 0 xe2 rfl rfl 4 (by decide) k80 (fun _ h9 => h9) rfl dX7_fire_16 ?_
    obtain ⟨u_4, hu_4, h⟩ := bindS h
    refine va_callv (va_runV (As := [.int u_1.1, .int px2, .int (u_2.2 2 0 4)]) (rest := []) ⟨hx, hb, hml, hown, hts⟩ (kX3_take l hsh pn1 u_1.1 px2 (u_2.2 2 0 4) u_2.2 c0 hu_4 hpn1) (cwV 3 hts gX7_fire_X3_take rfl rfl rfl (by decide +kernel) ⟨Nat.le_of_ble_eq_true rfl, Nat.le_of_ble_eq_true rfl⟩) ⟨fun a U g9 mk w9 => ⟨w9.1, xM_calling w9.2⟩, mP_recv (q := (RX3, TX3, 19)) hK hM hpn1 rfl rfl, fun U hU hWm => ⟨rfl, xM_of hM hK hW hAs hS.1 hU hWm⟩⟩ rfl rfl hl.1 rfl (lv_room (Nat.le_of_ble_eq_true rfl)) dX7_fire_19 ⟨Nat.le_of_ble_eq_true rfl, Nat.le_of_ble_eq_true rfl⟩) hS (fun _ _ h9 => h9) (fun _ h9 => h9) (fun u9 t9 H locs ht9 _ hw9 hB9 _ _ hS => ?_)
    obtain ⟨hM, -, hW, -⟩ := hB9
    rw [ht9] at hM
    refine lv_goto (tgt := 35) hx hb dX7_fire_22 (by decide) ?_
    have e9 : u_4 = res := Option.some.inj h
    subst e9
    exact W.vret hx hb hr (fun t9 ht9 hW9 => ⟨⟨(), rfl, trivial, xM_of hM hK hW hAs hS.1 ht9 hW9⟩, hS.F ht9⟩) hS.2.2 dX7_fire_35
/-! X7_fireTimers -/
def jnX7_fireTimers_68 (L : Nat → Nat → Nat) (ro4 : Int32 → Int32 → mM → Nat × Nat → Option (mM)) (x1 : Int32) (x2 : Int32) (V : mM) (c0 : Nat × Nat) : Option (mM) := ro4 x1 (x2 + 1) V c0
def lpX7_fireTimers_4 (L : Nat → Nat → Nat)  : Nat → Int32 → Int32 → mM → Nat × Nat → Option (mM)
  | 0, _, _, _, _ => none
  | n9 + 1, x1, x2, V, c0 => if (V 5 0 4) ≤ x2 then (some (mu V 5 0 4 x1)) else (if bin x2 50 = true then (if (V 9 0 (x2).toNatClampNeg) = (V 2 0 4) then (if bin x2 50 = true then (if bin x2 50 = true then (if (V 7 0 (x2).toNatClampNeg) < 0 then none else (fX7_fire L (V 7 0 (x2).toNatClampNeg).toNatClampNeg (V 8 0 (x2).toNatClampNeg) V c0).bind fun u_9 => jnX7_fireTimers_68 L (lpX7_fireTimers_4 L n9) x1 x2 u_9 c0) else none) else none) else ((fX4_move L x2 x1 V c0).bind fun u_4 => jnX7_fireTimers_68 L (lpX7_fireTimers_4 L n9) (x1 + 1) x2 u_4 c0)) else none)
def fX7_fireTimers (L : Nat → Nat → Nat)  (V0 : mM) (c0 : Nat × Nat) : Option (mM) := lpX7_fireTimers_4 L fu (0 : Int32) (0 : Int32) V0 c0
set_option maxHeartbeats 4000000 in
set_option maxRecDepth 100000 in
theorem kX7_fireTimers (l : Launch) {dC : Nat → ClassId} {dI : Nat → Nat → Nat} {A : Nat → Prop} {ad : Nat → Nat → Nat} {cnt : Nat} {L : Nat → Nat → Nat} {cI cS cW : ClassId} {q : Nat × Nat} (hsh : xSh cnt L)  (V0 : mM) (c0 : Nat × Nat) {res : mM} (h : fX7_fireTimers L V0 c0 = some res) : Met l yX7_fireTimers wsX7_fireTimers ({ frames := 3, cells := 0, slots := 0, locals := 69 } : Room) (va_Pc [.ref (ad 2 0)] (fun U => xM dC dI A ad cnt L cI cS cW q V0 c0 U)) (va_Qv (fun (_ : Unit) => True) (fun _ t9 => xM dC dI A ad cnt L cI cS cW q res c0 t9) A) 0 0 A := by
  refine Met.ofW (cc := cX7_fireTimers) (maxL := 3) (ret := none) (by decide) rfl ?_
  intro p e s m args below meth cd s₁ B hml hv
  obtain ⟨rfl, hM, hK, hW, hAs⟩ := hv
  have hx := B.exec
  have hb := B.bytes
  have hr := B.returns
  have hts := atoms_spec (ws := wsX7_fireTimers) B.pre
  have hown : s.vm.findClass RX7 = some m.cls := findClass_of_methodNamed B.named
  have hlocks := B.notSynchronized
  have hS : va_S A s.heap s.heap [] := va_S.rf
  have k18 := hts (.fieldLink RX7 18 "StageDesk" "timers" "LStageDesk$Timers;") (by decide +kernel)
  have k160 := hts (.fieldLink RX7 160 "StageDesk$Timers" "size" "I") (by decide +kernel)
  have k161 := hts (.fieldLink RX7 161 "StageDesk$Timers" "dues" "[I") (by decide +kernel)
  have k80 := hts (.fieldLink RX7 80 "StageDesk" "now" "I") (by decide +kernel)
  have k164 := hts (.fieldLink RX7 164 "StageDesk$Timers" "stages" "[LStageDesk$Stage;") (by decide +kernel)
  have k165 := hts (.fieldLink RX7 165 "StageDesk$Timers" "values" "[I") (by decide +kernel)
  have inX7 : ∀ w ∈ u_ws RX7 TX7 7, w ∈ wsX7_fireTimers := by decide +kernel
  have inX4 : ∀ w ∈ u_ws RX4 TX4 6, w ∈ wsX7_fireTimers := by decide +kernel
  have hb68 : ∀ (ro4 : Int32 → Int32 → mM → Nat × Nat → Option (mM)) (hro4 : ∀ (x1 : Int32) (x2 : Int32) (V : mM), ro4 x1 x2 V c0 = some res → ∀ (H : Heap) (locs : List Loc), mP (dC, dI) vwCl A (xad ad q) (xce cI cS cW ad q L c0) (xex cnt L) V H → xW cnt V → va_S A s.heap H locs → ∀ (ls : Array Slot), lv_has ls 3 [(0, .ref (ad 2 0)), (1, .int x1), (2, .int x2)] → W p l e (headSpec wsX7_fireTimers ({ frames := 3, cells := 0, slots := 0, locals := 69 } : Room)).room s m ([.ref (ad 2 0)] : List Value).toArray below meth cd H locs 0 0 (MQ below (va_Qv (fun (_ : Unit) => True) (fun _ t9 => xM dC dI A ad cnt L cI cS cW q res c0 t9) A) ([.ref (ad 2 0)] : List Value).toArray s 0 0 A) (F0 m 4 ls [])), ∀ (x1 : Int32) (x2 : Int32) (V : mM), jnX7_fireTimers_68 L ro4 x1 x2 V c0 = some res → ∀ (H : Heap) (locs : List Loc), mP (dC, dI) vwCl A (xad ad q) (xce cI cS cW ad q L c0) (xex cnt L) V H → xW cnt V → va_S A s.heap H locs → ∀ (ls : Array Slot), lv_has ls 3 [(0, .ref (ad 2 0)), (1, .int x1), (2, .int x2)] → W p l e (headSpec wsX7_fireTimers ({ frames := 3, cells := 0, slots := 0, locals := 69 } : Room)).room s m ([.ref (ad 2 0)] : List Value).toArray below meth cd H locs 0 0 (MQ below (va_Qv (fun (_ : Unit) => True) (fun _ t9 => xM dC dI A ad cnt L cI cS cW q res c0 t9) A) ([.ref (ad 2 0)] : List Value).toArray s 0 0 A) (F0 m 68 ls []) := by
    intro ro4 hro4 x1 x2 V h H locs hM hW hS ls hl
    unfold jnX7_fireTimers_68 at h
    refine lv_iinc (v := (x2 + 1)) (lv' := [(2, .int (x2 + 1)), (0, .ref (ad 2 0)), (1, .int x1)]) hx hb dX7_fireTimers_68 hl (k := 2) rfl rfl (by decide) rfl (fun ls hl => ?_)
    refine lv_goto (tgt := 4) hx hb dX7_fireTimers_71 (by decide) ?_
    exact hro4 _ _ _ h _ _  hM hW hS ls (lv_sub hl [1, 2, 0] rfl)
  have hb4 : ∀ (n9 : Nat), ∀ (x1 : Int32) (x2 : Int32) (V : mM), lpX7_fireTimers_4 L n9 x1 x2 V c0 = some res → ∀ (H : Heap) (locs : List Loc), mP (dC, dI) vwCl A (xad ad q) (xce cI cS cW ad q L c0) (xex cnt L) V H → xW cnt V → va_S A s.heap H locs → ∀ (ls : Array Slot), lv_has ls 3 [(0, .ref (ad 2 0)), (1, .int x1), (2, .int x2)] → W p l e (headSpec wsX7_fireTimers ({ frames := 3, cells := 0, slots := 0, locals := 69 } : Room)).room s m ([.ref (ad 2 0)] : List Value).toArray below meth cd H locs 0 0 (MQ below (va_Qv (fun (_ : Unit) => True) (fun _ t9 => xM dC dI A ad cnt L cI cS cW q res c0 t9) A) ([.ref (ad 2 0)] : List Value).toArray s 0 0 A) (F0 m 4 ls []) := by
    intro  n9
    induction n9 with
    | zero =>
      intro x1 x2 V h H locs hM hW hS ls hl
      rw [lpX7_fireTimers_4] at h
      cases h
    | succ n9 ih =>
      intro x1 x2 V h H locs hM hW hS ls hl
      rw [lpX7_fireTimers_4] at h
      refine lv_iload_n hx hb dX7_fireTimers_4 rfl (lv_at hl 2 rfl) ?_
      refine lv_aload_n hx hb dX7_fireTimers_5 rfl (lv_at hl 0 rfl) ?_
      refine mm_get (C := RX7) (T := TX7) (N := 7) (ci := 7) hx hb hts inX7 hown hK hM 2 0 xe2 rfl rfl 1 (by decide) k18 (fun _ h9 => h9) rfl dX7_fireTimers_6 ?_
      refine mm_get (C := RX4) (T := TX4) (N := 6) (ci := 4) hx hb hts inX4 hown hK hM 5 0 xe5 rfl rfl 4 (by decide) k160 (fun _ h9 => h9) rfl dX7_fireTimers_9 ?_
      refine lv_icmp_ge (tgt := 74) hx hb dX7_fireTimers_12 (by decide) (fun c_1 => ?_) (fun c_1 => ?_)
      · have h := iteT c_1 h
        refine lv_aload_n hx hb dX7_fireTimers_74 rfl (lv_at hl 0 rfl) ?_
        refine mm_get (C := RX7) (T := TX7) (N := 7) (ci := 7) hx hb hts inX7 hown hK hM 2 0 xe2 rfl rfl 1 (by decide) k18 (fun _ h9 => h9) rfl dX7_fireTimers_75 ?_
        refine lv_iload_n hx hb dX7_fireTimers_78 rfl (lv_at hl 1 rfl) ?_
        refine mm_put (C := RX4) (T := TX4) (N := 6) (ci := 4) (ty := .int) hx hb hts inX4 tyX4 tyX4_ok nmX4 hown hK hM hS 5 0 xe5 rfl rfl 4 (by decide) k160 (fun _ h9 => h9) rfl (by decide +kernel) rfl rfl (Nat.le_of_ble_eq_true rfl) x1 rfl dX7_fireTimers_79 (fun H locs hM hS => ?_)
        have hW := xW_mu (k := 5) (n := 0) (t := 4) (x := x1) hW (fun h9 => Bool.noConfusion (show false = true from h9))
        have e9 : (mu V 5 0 4 x1) = res := Option.some.inj h
        subst e9
        exact W.vret hx hb hr (fun t9 ht9 hW9 => ⟨⟨(), rfl, trivial, xM_of hM hK hW hAs hS.1 ht9 hW9⟩, hS.F ht9⟩) hS.2.2 dX7_fireTimers_82
      · have h := iteF c_1 h
        refine lv_aload_n hx hb dX7_fireTimers_15 rfl (lv_at hl 0 rfl) ?_
        refine mm_get (C := RX7) (T := TX7) (N := 7) (ci := 7) hx hb hts inX7 hown hK hM 2 0 xe2 rfl rfl 1 (by decide) k18 (fun _ h9 => h9) rfl dX7_fireTimers_16 ?_
        refine mm_get (C := RX4) (T := TX4) (N := 6) (ci := 4) hx hb hts inX4 hown hK hM 5 0 xe5 rfl rfl 3 (by decide) k161 (fun _ h9 => h9) rfl dX7_fireTimers_19 ?_
        refine lv_iload_n hx hb dX7_fireTimers_22 rfl (lv_at hl 2 rfl) ?_
        obtain ⟨b_2, h⟩ := iteS h
        refine mm_iald hx hb hK hM 9 0 xe9 0 rfl rfl (bin_in b_2) dX7_fireTimers_23 ?_
        refine lv_aload_n hx hb dX7_fireTimers_24 rfl (lv_at hl 0 rfl) ?_
        refine mm_get (C := RX7) (T := TX7) (N := 7) (ci := 7) hx hb hts inX7 hown hK hM 2 0 xe2 rfl rfl 4 (by decide) k80 (fun _ h9 => h9) rfl dX7_fireTimers_25 ?_
        refine lv_icmp_ne (tgt := 56) hx hb dX7_fireTimers_28 (by decide) (fun c_3 => ?_) (fun c_3 => ?_)
        · have h := iteF c_3 h
          refine lv_aload_n hx hb dX7_fireTimers_56 rfl (lv_at hl 0 rfl) ?_
          refine mm_get (C := RX7) (T := TX7) (N := 7) (ci := 7) hx hb hts inX7 hown hK hM 2 0 xe2 rfl rfl 1 (by decide) k18 (fun _ h9 => h9) rfl dX7_fireTimers_57 ?_
          refine lv_iload_n hx hb dX7_fireTimers_60 rfl (lv_at hl 2 rfl) ?_
          refine lv_iload_n hx hb dX7_fireTimers_61 rfl (lv_at hl 1 rfl) ?_
          obtain ⟨u_4, hu_4, h⟩ := bindS h
          refine va_callv (va_runV (As := [.int x2, .int x1]) (rest := []) ⟨hx, hb, hml, hown, hts⟩ (kX4_move l hsh x2 x1 V c0 hu_4) (cwV 2 hts gX7_fireTimers_X4_move rfl rfl rfl (by decide +kernel) ⟨Nat.le_of_ble_eq_true rfl, Nat.le_of_ble_eq_true rfl⟩) ⟨fun a U g9 mk w9 => ⟨w9.1, xM_calling w9.2⟩, mP_recv (q := (RX4, TX4, 6)) hK hM xe5 rfl rfl, fun U hU hWm => ⟨rfl, xM_of hM hK hW hAs hS.1 hU hWm⟩⟩ rfl rfl hl.1 rfl (lv_room (Nat.le_of_ble_eq_true rfl)) dX7_fireTimers_62 ⟨Nat.le_of_ble_eq_true rfl, Nat.le_of_ble_eq_true rfl⟩) hS (fun _ _ h9 => h9) (fun _ h9 => h9) (fun u9 t9 H locs ht9 _ hw9 hB9 _ _ hS => ?_)
          obtain ⟨hM, -, hW, -⟩ := hB9
          rw [ht9] at hM
          refine lv_iinc (v := (x1 + 1)) (lv' := [(1, .int (x1 + 1)), (0, .ref (ad 2 0)), (2, .int x2)]) hx hb dX7_fireTimers_65 hl (k := 1) rfl rfl (by decide) rfl (fun ls hl => ?_)
          exact hb68 (lpX7_fireTimers_4 L n9) ih _ _ _ h _ _  hM hW hS ls (lv_sub hl [1, 0, 2] rfl)
        · have h := iteT c_3 h
          refine lv_aload_n hx hb dX7_fireTimers_31 rfl (lv_at hl 0 rfl) ?_
          refine lv_aload_n hx hb dX7_fireTimers_32 rfl (lv_at hl 0 rfl) ?_
          refine mm_get (C := RX7) (T := TX7) (N := 7) (ci := 7) hx hb hts inX7 hown hK hM 2 0 xe2 rfl rfl 1 (by decide) k18 (fun _ h9 => h9) rfl dX7_fireTimers_33 ?_
          refine mm_get (C := RX4) (T := TX4) (N := 6) (ci := 4) hx hb hts inX4 hown hK hM 5 0 xe5 rfl rfl 1 (by decide) k164 (fun _ h9 => h9) rfl dX7_fireTimers_36 ?_
          refine lv_iload_n hx hb dX7_fireTimers_39 rfl (lv_at hl 2 rfl) ?_
          obtain ⟨b_5, h⟩ := iteS h
          refine mm_aald hx hb hK hM 7 0 xe7 1 rfl rfl (bin_in b_5) dX7_fireTimers_40 ?_
          have ok_6 : okS cnt (V 7 0 (x2).toNatClampNeg) := hW 7 0 _ rfl
          refine lv_aload_n hx hb dX7_fireTimers_41 rfl (lv_at hl 0 rfl) ?_
          refine mm_get (C := RX7) (T := TX7) (N := 7) (ci := 7) hx hb hts inX7 hown hK hM 2 0 xe2 rfl rfl 1 (by decide) k18 (fun _ h9 => h9) rfl dX7_fireTimers_42 ?_
          refine mm_get (C := RX4) (T := TX4) (N := 6) (ci := 4) hx hb hts inX4 hown hK hM 5 0 xe5 rfl rfl 2 (by decide) k165 (fun _ h9 => h9) rfl dX7_fireTimers_45 ?_
          refine lv_iload_n hx hb dX7_fireTimers_48 rfl (lv_at hl 2 rfl) ?_
          obtain ⟨b_7, h⟩ := iteS h
          refine mm_iald hx hb hK hM 8 0 xe8 0 rfl rfl (bin_in b_7) dX7_fireTimers_49 ?_
          obtain ⟨z_8, h⟩ := iteN h
          rw [rO_pos (ad := ad) z_8]
          obtain ⟨u_9, hu_9, h⟩ := bindS h
          refine va_callv (va_runV (As := [.ref (ad 3 (V 7 0 (x2).toNatClampNeg).toNatClampNeg), .int (V 8 0 (x2).toNatClampNeg)]) (rest := []) ⟨hx, hb, hml, hown, hts⟩ (kX7_fire l hsh (V 7 0 (x2).toNatClampNeg).toNatClampNeg (V 8 0 (x2).toNatClampNeg) V c0 hu_9 (okS_lt ok_6 z_8)) (cwV 2 hts gX7_fireTimers_X7_fire rfl rfl rfl (by decide +kernel) ⟨Nat.le_of_ble_eq_true rfl, Nat.le_of_ble_eq_true rfl⟩) ⟨fun a U g9 mk w9 => ⟨w9.1, xM_calling w9.2⟩, mP_recv (q := (RX7, TX7, 7)) hK hM xe2 rfl rfl, fun U hU hWm => ⟨rfl, xM_of hM hK hW hAs hS.1 hU hWm⟩⟩ rfl rfl hl.1 rfl (lv_room (Nat.le_of_ble_eq_true rfl)) dX7_fireTimers_50 ⟨Nat.le_of_ble_eq_true rfl, Nat.le_of_ble_eq_true rfl⟩) hS (fun _ _ h9 => h9) (fun _ h9 => h9) (fun u9 t9 H locs ht9 _ hw9 hB9 _ _ hS => ?_)
          obtain ⟨hM, -, hW, -⟩ := hB9
          rw [ht9] at hM
          refine lv_goto (tgt := 68) hx hb dX7_fireTimers_53 (by decide) ?_
          exact hb68 (lpX7_fireTimers_4 L n9) ih _ _ _ h _ _  hM hW hS ls (lv_sub hl [0, 1, 2] rfl)
  have hl := lv_entry ([.ref (ad 2 0)]) (n := 3) (Nat.le_of_ble_eq_true rfl)
  rw [lg_entry_eq]
  generalize (lg_sl ([.ref (ad 2 0)]) ++ List.replicate (3 - (lg_sl ([.ref (ad 2 0)])).length) Slot.unset).toArray = ls at hl ⊢
  have hl : lv_has ls 3 [(0, .ref (ad 2 0))] := hl
  unfold fX7_fireTimers at h
  refine lv_iconst (v := 0) hx hb dX7_fireTimers_0 (by decide) ?_
  refine lv_istore_n (lv' := [(1, .int (0 : Int32)), (0, .ref (ad 2 0))]) hx hb dX7_fireTimers_1 rfl hl (by decide) rfl (fun ls hl => ?_)
  refine lv_iconst (v := 0) hx hb dX7_fireTimers_2 (by decide) ?_
  refine lv_istore_n (lv' := [(2, .int (0 : Int32)), (1, .int (0 : Int32)), (0, .ref (ad 2 0))]) hx hb dX7_fireTimers_3 rfl hl (by decide) rfl (fun ls hl => ?_)
  exact hb4 fu _ _ _ h _ _  hM hW hS ls (lv_sub hl [2, 1, 0] rfl)
/-! X7_offerGifts -/
def jnX7_offerGifts_27 (L : Nat → Nat → Nat) (ro0 : Nat → mM → Nat × Nat → Option (Int32 × mM)) (n1 : Nat) (V : mM) (c0 : Nat × Nat) : Option (Int32 × mM) := if bin (V 17 n1 4) 16 = true then (if (V 18 n1 ((V 17 n1 4)).toNatClampNeg) < 0 then none else (fX3_ask L (V 18 n1 ((V 17 n1 4)).toNatClampNeg).toNatClampNeg V c0).bind fun u_4 => if u_4.1 = 0 then (if bin (u_4.2 17 n1 4) 16 = true then (if bin (u_4.2 17 n1 4) 16 = true then ((fX3_take L (V 18 n1 ((V 17 n1 4)).toNatClampNeg).toNatClampNeg (u_4.2 17 n1 5) (u_4.2 19 n1 ((u_4.2 17 n1 4)).toNatClampNeg) (u_4.2 20 n1 ((u_4.2 17 n1 4)).toNatClampNeg) u_4.2 c0).bind fun u_8 => ro0 n1 (mu (mu u_8 17 n1 5 (-1 : Int32)) 17 n1 4 (((mu u_8 17 n1 5 (-1 : Int32)) 17 n1 4) + (1 : Int32))) c0) else none) else none) else (some ((0 : Int32), u_4.2))) else none
def lpX7_offerGifts_0 (L : Nat → Nat → Nat)  : Nat → Nat → mM → Nat × Nat → Option (Int32 × mM)
  | 0, _, _, _ => none
  | n9 + 1, n1, V, c0 => if (V 17 n1 3) ≤ (V 17 n1 4) then (some ((1 : Int32), V)) else (if (V 17 n1 5) = (-1 : Int32) then ((fX7_makeEvent L V c0).bind fun u_11 => jnX7_offerGifts_27 L (lpX7_offerGifts_0 L n9) n1 (mu u_11.2 17 n1 5 u_11.1) c0) else (jnX7_offerGifts_27 L (lpX7_offerGifts_0 L n9) n1 V c0))
def fX7_offerGifts (L : Nat → Nat → Nat) (pn1 : Nat) (V0 : mM) (c0 : Nat × Nat) : Option (Int32 × mM) := lpX7_offerGifts_0 L fu pn1 V0 c0
set_option maxHeartbeats 4000000 in
set_option maxRecDepth 100000 in
theorem kX7_offerGifts (l : Launch) {dC : Nat → ClassId} {dI : Nat → Nat → Nat} {A : Nat → Prop} {ad : Nat → Nat → Nat} {cnt : Nat} {L : Nat → Nat → Nat} {cI cS cW : ClassId} {q : Nat × Nat} (hsh : xSh cnt L) (pn1 : Nat) (V0 : mM) (c0 : Nat × Nat) {res : Int32 × mM} (h : fX7_offerGifts L pn1 V0 c0 = some res) (hpn1 : xex cnt L 17 pn1) : Met l yX7_offerGifts wsX7_offerGifts ({ frames := 2, cells := 0, slots := 0, locals := 46 } : Room) (va_Pc [.ref (ad 2 0), .ref (ad 17 pn1)] (fun U => xM dC dI A ad cnt L cI cS cW q V0 c0 U)) (va_Qi (fun r9 (_ : Unit) => r9 = res.1) (fun _ t9 => xM dC dI A ad cnt L cI cS cW q res.2 c0 t9) A) 0 0 A := by
  refine Met.ofW (cc := cX7_offerGifts) (maxL := 3) (ret := (some .boolean)) (by decide) rfl ?_
  intro p e s m args below meth cd s₁ B hml hv
  obtain ⟨rfl, hM, hK, hW, hAs⟩ := hv
  have hx := B.exec
  have hb := B.bytes
  have hr := B.returns
  have hts := atoms_spec (ws := wsX7_offerGifts) B.pre
  have hown : s.vm.findClass RX7 = some m.cls := findClass_of_methodNamed B.named
  have hlocks := B.notSynchronized
  have hS : va_S A s.heap s.heap [] := va_S.rf
  have k216 := hts (.fieldLink RX7 216 "StageDesk$Gifts" "targets" "[LStageDesk$Stage;") (by decide +kernel)
  have k207 := hts (.fieldLink RX7 207 "StageDesk$Gifts" "next" "I") (by decide +kernel)
  have k213 := hts (.fieldLink RX7 213 "StageDesk$Gifts" "number" "I") (by decide +kernel)
  have k219 := hts (.fieldLink RX7 219 "StageDesk$Gifts" "values" "[I") (by decide +kernel)
  have k220 := hts (.fieldLink RX7 220 "StageDesk$Gifts" "births" "[I") (by decide +kernel)
  have k212 := hts (.fieldLink RX7 212 "StageDesk$Gifts" "size" "I") (by decide +kernel)
  have inX2 : ∀ w ∈ u_ws RX2 TX2 6, w ∈ wsX7_offerGifts := by decide +kernel
  have hb27 : ∀ (ro0 : Nat → mM → Nat × Nat → Option (Int32 × mM)) (hro0 : ∀ (n1 : Nat) (V : mM), ro0 n1 V c0 = some res → ∀ (H : Heap) (locs : List Loc), xex cnt L 17 n1 → mP (dC, dI) vwCl A (xad ad q) (xce cI cS cW ad q L c0) (xex cnt L) V H → xW cnt V → va_S A s.heap H locs → ∀ (ls : Array Slot), lv_has ls 3 [(0, .ref (ad 2 0)), (1, .ref (ad 17 n1))] → W p l e (headSpec wsX7_offerGifts ({ frames := 2, cells := 0, slots := 0, locals := 46 } : Room)).room s m ([.ref (ad 2 0), .ref (ad 17 pn1)] : List Value).toArray below meth cd H locs 0 0 (MQ below (va_Qi (fun r9 (_ : Unit) => r9 = res.1) (fun _ t9 => xM dC dI A ad cnt L cI cS cW q res.2 c0 t9) A) ([.ref (ad 2 0), .ref (ad 17 pn1)] : List Value).toArray s 0 0 A) (F0 m 0 ls [])), ∀ (n1 : Nat) (V : mM), jnX7_offerGifts_27 L ro0 n1 V c0 = some res → ∀ (H : Heap) (locs : List Loc), xex cnt L 17 n1 → mP (dC, dI) vwCl A (xad ad q) (xce cI cS cW ad q L c0) (xex cnt L) V H → xW cnt V → va_S A s.heap H locs → ∀ (ls : Array Slot), lv_has ls 3 [(0, .ref (ad 2 0)), (1, .ref (ad 17 n1))] → W p l e (headSpec wsX7_offerGifts ({ frames := 2, cells := 0, slots := 0, locals := 46 } : Room)).room s m ([.ref (ad 2 0), .ref (ad 17 pn1)] : List Value).toArray below meth cd H locs 0 0 (MQ below (va_Qi (fun r9 (_ : Unit) => r9 = res.1) (fun _ t9 => xM dC dI A ad cnt L cI cS cW q res.2 c0 t9) A) ([.ref (ad 2 0), .ref (ad 17 pn1)] : List Value).toArray s 0 0 A) (F0 m 27 ls []) := by
    intro ro0 hro0 n1 V h H locs hn1 hM hW hS ls hl
    unfold jnX7_offerGifts_27 at h
    refine lv_aload_n hx hb dX7_offerGifts_27 rfl (lv_at hl 1 rfl) ?_
    refine mm_get (C := RX2) (T := TX2) (N := 6) (ci := 2) hx hb hts inX2 hown hK hM 17 n1 hn1 rfl rfl 0 (by decide) k216 (fun _ h9 => h9) rfl dX7_offerGifts_28 ?_
    refine lv_aload_n hx hb dX7_offerGifts_31 rfl (lv_at hl 1 rfl) ?_
    refine mm_get (C := RX2) (T := TX2) (N := 6) (ci := 2) hx hb hts inX2 hown hK hM 17 n1 hn1 rfl rfl 4 (by decide) k207 (fun _ h9 => h9) rfl dX7_offerGifts_32 ?_
    obtain ⟨b_1, h⟩ := iteS h
    refine mm_aald hx hb hK hM 18 n1 (xe17_t hn1) 1 rfl rfl (bin_in b_1) dX7_offerGifts_35 ?_
    have ok_2 : okS cnt (V 18 n1 ((V 17 n1 4)).toNatClampNeg) := hW 18 n1 _ rfl
    refine mm_astore_n (lv' := [(2, va_rf (rO ad (V 18 n1 ((V 17 n1 4)).toNatClampNeg))), (0, .ref (ad 2 0)), (1, .ref (ad 17 n1))]) hx hb dX7_offerGifts_36 rfl hl (by decide) rfl (fun ls hl => ?_)
    refine mm_aload_n hx hb dX7_offerGifts_37 rfl (lv_at hl 0 rfl) ?_
    obtain ⟨z_3, h⟩ := iteN h
    rw [rO_pos (ad := ad) z_3]
    rw [rO_pos (ad := ad) z_3] at hl
    obtain ⟨u_4, hu_4, h⟩ := bindS h
    refine va_calli (va_runV (As := []) (rest := []) ⟨hx, hb, hml, hown, hts⟩ (kX3_ask l hsh (V 18 n1 ((V 17 n1 4)).toNatClampNeg).toNatClampNeg V c0 hu_4 (okS_lt ok_2 z_3)) (cwV 0 hts gX7_offerGifts_X3_ask rfl rfl rfl (by decide +kernel) ⟨Nat.le_of_ble_eq_true rfl, Nat.le_of_ble_eq_true rfl⟩) ⟨fun a U g9 mk w9 => ⟨w9.1, xM_calling w9.2⟩, mP_recv (q := (RX3, TX3, 19)) hK hM (okS_lt ok_2 z_3) rfl rfl, fun U hU hWm => ⟨rfl, xM_of hM hK hW hAs hS.1 hU hWm⟩⟩ rfl rfl hl.1 rfl (lv_room (Nat.le_of_ble_eq_true rfl)) dX7_offerGifts_38 ⟨Nat.le_of_ble_eq_true rfl, Nat.le_of_ble_eq_true rfl⟩) hS (fun _ _ h9 => h9) (fun _ h9 => h9) (fun r9 u9 t9 H locs ht9 _ hw9 hB9 _ _ hS => ?_)
    rw [show r9 = u_4.1 from hw9]
    obtain ⟨hM, -, hW, -⟩ := hB9
    rw [ht9] at hM
    refine lv_if_eq (tgt := 46) hx hb dX7_offerGifts_41 (by decide) (fun c_5 => ?_) (fun c_5 => ?_)
    · have h := iteT c_5 h
      refine lv_aload_n hx hb dX7_offerGifts_46 rfl (lv_at hl 0 rfl) ?_
      refine lv_aload_n hx hb dX7_offerGifts_47 rfl (lv_at hl 2 rfl) ?_
      refine mm_get (C := RX2) (T := TX2) (N := 6) (ci := 2) hx hb hts inX2 hown hK hM 17 n1 hn1 rfl rfl 5 (by decide) k213 (fun _ h9 => h9) rfl dX7_offerGifts_48 ?_
      refine lv_aload_n hx hb dX7_offerGifts_51 rfl (lv_at hl 2 rfl) ?_
      refine mm_get (C := RX2) (T := TX2) (N := 6) (ci := 2) hx hb hts inX2 hown hK hM 17 n1 hn1 rfl rfl 1 (by decide) k219 (fun _ h9 => h9) rfl dX7_offerGifts_52 ?_
      refine lv_aload_n hx hb dX7_offerGifts_55 rfl (lv_at hl 2 rfl) ?_
      refine mm_get (C := RX2) (T := TX2) (N := 6) (ci := 2) hx hb hts inX2 hown hK hM 17 n1 hn1 rfl rfl 4 (by decide) k207 (fun _ h9 => h9) rfl dX7_offerGifts_56 ?_
      obtain ⟨b_6, h⟩ := iteS h
      refine mm_iald hx hb hK hM 19 n1 (xe17_v hn1) 0 rfl rfl (bin_in b_6) dX7_offerGifts_59 ?_
      refine lv_aload_n hx hb dX7_offerGifts_60 rfl (lv_at hl 2 rfl) ?_
      refine mm_get (C := RX2) (T := TX2) (N := 6) (ci := 2) hx hb hts inX2 hown hK hM 17 n1 hn1 rfl rfl 2 (by decide) k220 (fun _ h9 => h9) rfl dX7_offerGifts_61 ?_
      refine lv_aload_n hx hb dX7_offerGifts_64 rfl (lv_at hl 2 rfl) ?_
      refine mm_get (C := RX2) (T := TX2) (N := 6) (ci := 2) hx hb hts inX2 hown hK hM 17 n1 hn1 rfl rfl 4 (by decide) k207 (fun _ h9 => h9) rfl dX7_offerGifts_65 ?_
      obtain ⟨b_7, h⟩ := iteS h
      refine mm_iald hx hb hK hM 20 n1 (xe17_b hn1) 0 rfl rfl (bin_in b_7) dX7_offerGifts_68 ?_
      obtain ⟨u_8, hu_8, h⟩ := bindS h
      refine va_callv (va_runV (As := [.int (u_4.2 17 n1 5), .int (u_4.2 19 n1 ((u_4.2 17 n1 4)).toNatClampNeg), .int (u_4.2 20 n1 ((u_4.2 17 n1 4)).toNatClampNeg)]) (rest := []) ⟨hx, hb, hml, hown, hts⟩ (kX3_take l hsh (V 18 n1 ((V 17 n1 4)).toNatClampNeg).toNatClampNeg (u_4.2 17 n1 5) (u_4.2 19 n1 ((u_4.2 17 n1 4)).toNatClampNeg) (u_4.2 20 n1 ((u_4.2 17 n1 4)).toNatClampNeg) u_4.2 c0 hu_8 (okS_lt ok_2 z_3)) (cwV 3 hts gX7_offerGifts_X3_take rfl rfl rfl (by decide +kernel) ⟨Nat.le_of_ble_eq_true rfl, Nat.le_of_ble_eq_true rfl⟩) ⟨fun a U g9 mk w9 => ⟨w9.1, xM_calling w9.2⟩, mP_recv (q := (RX3, TX3, 19)) hK hM (okS_lt ok_2 z_3) rfl rfl, fun U hU hWm => ⟨rfl, xM_of hM hK hW hAs hS.1 hU hWm⟩⟩ rfl rfl hl.1 rfl (lv_room (Nat.le_of_ble_eq_true rfl)) dX7_offerGifts_69 ⟨Nat.le_of_ble_eq_true rfl, Nat.le_of_ble_eq_true rfl⟩) hS (fun _ _ h9 => h9) (fun _ h9 => h9) (fun u9 t9 H locs ht9 _ hw9 hB9 _ _ hS => ?_)
      obtain ⟨hM, -, hW, -⟩ := hB9
      rw [ht9] at hM
      refine lv_aload_n hx hb dX7_offerGifts_72 rfl (lv_at hl 2 rfl) ?_
      refine lv_iconst (v := (-1)) hx hb dX7_offerGifts_73 (by decide) ?_
      refine mm_put (C := RX2) (T := TX2) (N := 6) (ci := 2) (ty := .int) hx hb hts inX2 tyX2 tyX2_ok nmX2 hown hK hM hS 17 n1 hn1 rfl rfl 5 (by decide) k213 (fun _ h9 => h9) rfl (by decide +kernel) rfl rfl (Nat.le_of_ble_eq_true rfl) (-1 : Int32) rfl dX7_offerGifts_74 (fun H locs hM hS => ?_)
      have hW := xW_mu (k := 17) (n := n1) (t := 5) (x := (-1 : Int32)) hW (fun h9 => Bool.noConfusion (show false = true from h9))
      refine lv_aload_n hx hb dX7_offerGifts_77 rfl (lv_at hl 2 rfl) ?_
      refine lv_dup hx hb dX7_offerGifts_78 rfl ?_
      refine mm_get (C := RX2) (T := TX2) (N := 6) (ci := 2) hx hb hts inX2 hown hK hM 17 n1 hn1 rfl rfl 4 (by decide) k207 (fun _ h9 => h9) rfl dX7_offerGifts_79 ?_
      refine lv_iconst (v := 1) hx hb dX7_offerGifts_82 (by decide) ?_
      refine lv_iadd hx hb dX7_offerGifts_83 ?_
      refine mm_put (C := RX2) (T := TX2) (N := 6) (ci := 2) (ty := .int) hx hb hts inX2 tyX2 tyX2_ok nmX2 hown hK hM hS 17 n1 hn1 rfl rfl 4 (by decide) k207 (fun _ h9 => h9) rfl (by decide +kernel) rfl rfl (Nat.le_of_ble_eq_true rfl) (((mu u_8 17 n1 5 (-1 : Int32)) 17 n1 4) + (1 : Int32)) rfl dX7_offerGifts_84 (fun H locs hM hS => ?_)
      have hW := xW_mu (k := 17) (n := n1) (t := 4) (x := (((mu u_8 17 n1 5 (-1 : Int32)) 17 n1 4) + (1 : Int32))) hW (fun h9 => Bool.noConfusion (show false = true from h9))
      refine lv_goto (tgt := 0) hx hb dX7_offerGifts_87 (by decide) ?_
      exact hro0 _ _ h _ _ hn1 hM hW hS ls (lv_sub hl [1, 2] rfl)
    · have h := iteF c_5 h
      refine lv_iconst (v := 0) hx hb dX7_offerGifts_44 (by decide) ?_
      have e9 : ((0 : Int32), u_4.2) = res := Option.some.inj h
      subst e9
      exact W.zret (v := (0 : Int32)) (ty := .boolean) hx hb hr rfl (fun t9 ht9 hW9 => ⟨⟨_, (), rfl, rfl, xM_of hM hK hW hAs hS.1 ht9 hW9⟩, hS.F ht9⟩) hS.2.2 dX7_offerGifts_45
  have hb0 : ∀ (n9 : Nat), ∀ (n1 : Nat) (V : mM), lpX7_offerGifts_0 L n9 n1 V c0 = some res → ∀ (H : Heap) (locs : List Loc), xex cnt L 17 n1 → mP (dC, dI) vwCl A (xad ad q) (xce cI cS cW ad q L c0) (xex cnt L) V H → xW cnt V → va_S A s.heap H locs → ∀ (ls : Array Slot), lv_has ls 3 [(0, .ref (ad 2 0)), (1, .ref (ad 17 n1))] → W p l e (headSpec wsX7_offerGifts ({ frames := 2, cells := 0, slots := 0, locals := 46 } : Room)).room s m ([.ref (ad 2 0), .ref (ad 17 pn1)] : List Value).toArray below meth cd H locs 0 0 (MQ below (va_Qi (fun r9 (_ : Unit) => r9 = res.1) (fun _ t9 => xM dC dI A ad cnt L cI cS cW q res.2 c0 t9) A) ([.ref (ad 2 0), .ref (ad 17 pn1)] : List Value).toArray s 0 0 A) (F0 m 0 ls []) := by
    intro  n9
    induction n9 with
    | zero =>
      intro n1 V h H locs hn1 hM hW hS ls hl
      rw [lpX7_offerGifts_0] at h
      cases h
    | succ n9 ih =>
      intro n1 V h H locs hn1 hM hW hS ls hl
      rw [lpX7_offerGifts_0] at h
      refine lv_aload_n hx hb dX7_offerGifts_0 rfl (lv_at hl 1 rfl) ?_
      refine mm_get (C := RX2) (T := TX2) (N := 6) (ci := 2) hx hb hts inX2 hown hK hM 17 n1 hn1 rfl rfl 4 (by decide) k207 (fun _ h9 => h9) rfl dX7_offerGifts_1 ?_
      refine lv_aload_n hx hb dX7_offerGifts_4 rfl (lv_at hl 1 rfl) ?_
      refine mm_get (C := RX2) (T := TX2) (N := 6) (ci := 2) hx hb hts inX2 hown hK hM 17 n1 hn1 rfl rfl 3 (by decide) k212 (fun _ h9 => h9) rfl dX7_offerGifts_5 ?_
      refine lv_icmp_ge (tgt := 90) hx hb dX7_offerGifts_8 (by decide) (fun c_9 => ?_) (fun c_9 => ?_)
      · have h := iteT c_9 h
        refine lv_iconst (v := 1) hx hb dX7_offerGifts_90 (by decide) ?_
        have e9 : ((1 : Int32), V) = res := Option.some.inj h
        subst e9
        exact W.zret (v := (1 : Int32)) (ty := .boolean) hx hb hr rfl (fun t9 ht9 hW9 => ⟨⟨_, (), rfl, rfl, xM_of hM hK hW hAs hS.1 ht9 hW9⟩, hS.F ht9⟩) hS.2.2 dX7_offerGifts_91
      · have h := iteF c_9 h
        refine lv_aload_n hx hb dX7_offerGifts_11 rfl (lv_at hl 1 rfl) ?_
        refine mm_get (C := RX2) (T := TX2) (N := 6) (ci := 2) hx hb hts inX2 hown hK hM 17 n1 hn1 rfl rfl 5 (by decide) k213 (fun _ h9 => h9) rfl dX7_offerGifts_12 ?_
        refine lv_iconst (v := (-1)) hx hb dX7_offerGifts_15 (by decide) ?_
        refine lv_icmp_ne (tgt := 27) hx hb dX7_offerGifts_16 (by decide) (fun c_10 => ?_) (fun c_10 => ?_)
        · have h := iteF c_10 h
          exact hb27 (lpX7_offerGifts_0 L n9) ih _ _ h _ _ hn1 hM hW hS ls (lv_sub hl [0, 1] rfl)
        · have h := iteT c_10 h
          refine lv_aload_n hx hb dX7_offerGifts_19 rfl (lv_at hl 1 rfl) ?_
          refine lv_aload_n hx hb dX7_offerGifts_20 rfl (lv_at hl 0 rfl) ?_
          obtain ⟨u_11, hu_11, h⟩ := bindS h
          refine va_calli (va_runV (As := []) (rest := [.ref (ad 17 n1)]) ⟨hx, hb, hml, hown, hts⟩ (kX7_makeEvent l hsh V c0 hu_11) (cwV 0 hts gX7_offerGifts_X7_makeEvent rfl rfl rfl (by decide +kernel) ⟨Nat.le_of_ble_eq_true rfl, Nat.le_of_ble_eq_true rfl⟩) ⟨fun a U g9 mk w9 => ⟨w9.1, xM_calling w9.2⟩, mP_recv (q := (RX7, TX7, 7)) hK hM xe2 rfl rfl, fun U hU hWm => ⟨rfl, xM_of hM hK hW hAs hS.1 hU hWm⟩⟩ rfl rfl hl.1 rfl (lv_room (Nat.le_of_ble_eq_true rfl)) dX7_offerGifts_21 ⟨Nat.le_of_ble_eq_true rfl, Nat.le_of_ble_eq_true rfl⟩) hS (fun _ _ h9 => h9) (fun _ h9 => h9) (fun r9 u9 t9 H locs ht9 _ hw9 hB9 _ _ hS => ?_)
          rw [show r9 = u_11.1 from hw9]
          obtain ⟨hM, -, hW, -⟩ := hB9
          rw [ht9] at hM
          refine mm_put (C := RX2) (T := TX2) (N := 6) (ci := 2) (ty := .int) hx hb hts inX2 tyX2 tyX2_ok nmX2 hown hK hM hS 17 n1 hn1 rfl rfl 5 (by decide) k213 (fun _ h9 => h9) rfl (by decide +kernel) rfl rfl (Nat.le_of_ble_eq_true rfl) u_11.1 rfl dX7_offerGifts_24 (fun H locs hM hS => ?_)
          have hW := xW_mu (k := 17) (n := n1) (t := 5) (x := u_11.1) hW (fun h9 => Bool.noConfusion (show false = true from h9))
          exact hb27 (lpX7_offerGifts_0 L n9) ih _ _ h _ _ hn1 hM hW hS ls (lv_sub hl [0, 1] rfl)
  have hl := lv_entry ([.ref (ad 2 0), .ref (ad 17 pn1)]) (n := 3) (Nat.le_of_ble_eq_true rfl)
  rw [lg_entry_eq]
  generalize (lg_sl ([.ref (ad 2 0), .ref (ad 17 pn1)]) ++ List.replicate (3 - (lg_sl ([.ref (ad 2 0), .ref (ad 17 pn1)])).length) Slot.unset).toArray = ls at hl ⊢
  have hl : lv_has ls 3 [(0, .ref (ad 2 0)), (1, .ref (ad 17 pn1))] := hl
  unfold fX7_offerGifts at h
  exact hb0 fu _ _ h _ _ hpn1 hM hW hS ls (lv_sub hl [0, 1] rfl)
/-! X7_told -/
def fX7_told (L : Nat → Nat → Nat) (px1 : Int32) (px2 : Int32) (V0 : mM) (c0 : Nat × Nat) : Option (Int32 × mM) := (fX7_stageAt L px1 V0 c0).bind fun u_1 => if u_1 < 0 then (some ((-1 : Int32), V0)) else ((fX3_figure L u_1.toNatClampNeg px2 V0 c0).bind fun u_4 => some (u_4.1, u_4.2))
set_option maxHeartbeats 4000000 in
set_option maxRecDepth 100000 in
theorem kX7_told (l : Launch) {dC : Nat → ClassId} {dI : Nat → Nat → Nat} {A : Nat → Prop} {ad : Nat → Nat → Nat} {cnt : Nat} {L : Nat → Nat → Nat} {cI cS cW : ClassId} {q : Nat × Nat} (hsh : xSh cnt L) (px1 : Int32) (px2 : Int32) (V0 : mM) (c0 : Nat × Nat) {res : Int32 × mM} (h : fX7_told L px1 px2 V0 c0 = some res) : Met l yX7_told wsX7_told ({ frames := 2, cells := 0, slots := 0, locals := 43 } : Room) (va_Pc [.ref (ad 2 0), .int px1, .int px2] (fun U => xM dC dI A ad cnt L cI cS cW q V0 c0 U)) (va_Qi (fun r9 (_ : Unit) => r9 = res.1) (fun _ t9 => xM dC dI A ad cnt L cI cS cW q res.2 c0 t9) A) 0 0 A := by
  refine Met.ofW (cc := cX7_told) (maxL := 4) (ret := (some .int)) (by decide) rfl ?_
  intro p e s m args below meth cd s₁ B hml hv
  obtain ⟨rfl, hM, hK, hW, hAs⟩ := hv
  have hx := B.exec
  have hb := B.bytes
  have hr := B.returns
  have hts := atoms_spec (ws := wsX7_told) B.pre
  have hown : s.vm.findClass RX7 = some m.cls := findClass_of_methodNamed B.named
  have hlocks := B.notSynchronized
  have hS : va_S A s.heap s.heap [] := va_S.rf
  have hl := lv_entry ([.ref (ad 2 0), .int px1, .int px2]) (n := 4) (Nat.le_of_ble_eq_true rfl)
  rw [lg_entry_eq]
  generalize (lg_sl ([.ref (ad 2 0), .int px1, .int px2]) ++ List.replicate (4 - (lg_sl ([.ref (ad 2 0), .int px1, .int px2])).length) Slot.unset).toArray = ls at hl ⊢
  have hl : lv_has ls 4 [(0, .ref (ad 2 0)), (1, .int px1), (2, .int px2)] := hl
  unfold fX7_told at h
  refine lv_aload_n hx hb dX7_told_0 rfl (lv_at hl 0 rfl) ?_
  refine lv_iload_n hx hb dX7_told_1 rfl (lv_at hl 1 rfl) ?_
  obtain ⟨u_1, hu_1, h⟩ := bindS h
  refine va_callq (va_runV (As := [.int px1]) (rest := []) ⟨hx, hb, hml, hown, hts⟩ (kX7_stageAt l hsh px1 V0 c0 hu_1) (cwV 1 hts gX7_told_X7_stageAt rfl rfl rfl (by decide +kernel) ⟨Nat.le_of_ble_eq_true rfl, Nat.le_of_ble_eq_true rfl⟩) ⟨fun a U g9 mk w9 => ⟨w9.1, xM_calling w9.2⟩, mP_recv (q := (RX7, TX7, 7)) hK hM xe2 rfl rfl, fun U hU hWm => ⟨rfl, xM_of hM hK hW hAs hS.1 hU hWm⟩⟩ rfl rfl hl.1 rfl (lv_room (Nat.le_of_ble_eq_true rfl)) dX7_told_2 ⟨Nat.le_of_ble_eq_true rfl, Nat.le_of_ble_eq_true rfl⟩) hS (fun _ _ h9 => h9) (fun _ h9 => h9) (fun r9 u9 t9 H locs ht9 _ hw9 hB9 _ _ hS => ?_)
  obtain ⟨rfl, ok_2⟩ : r9 = rO ad u_1 ∧ okS cnt u_1 := hw9
  obtain ⟨hM, -, hW, -⟩ := hB9
  rw [ht9] at hM
  refine mm_astore_n (lv' := [(3, va_rf (rO ad u_1)), (0, .ref (ad 2 0)), (1, .int px1), (2, .int px2)]) hx hb dX7_told_5 rfl hl (by decide) rfl (fun ls hl => ?_)
  refine mm_aload_n hx hb dX7_told_6 rfl (lv_at hl 0 rfl) ?_
  refine mm_ifnonnull (tgt := 14) hx hb dX7_told_7 (by decide) (fun z_3 => ?_) (fun z_3 => ?_)
  · have h := iteF z_3 h
    rw [rO_pos (ad := ad) z_3] at hl
    refine lv_aload_n hx hb dX7_told_14 rfl (lv_at hl 0 rfl) ?_
    refine lv_iload_n hx hb dX7_told_15 rfl (lv_at hl 3 rfl) ?_
    obtain ⟨u_4, hu_4, h⟩ := bindS h
    refine va_calli (va_runV (As := [.int px2]) (rest := []) ⟨hx, hb, hml, hown, hts⟩ (kX3_figure l hsh u_1.toNatClampNeg px2 V0 c0 hu_4 (okS_lt ok_2 z_3)) (cwV 1 hts gX7_told_X3_figure rfl rfl rfl (by decide +kernel) ⟨Nat.le_of_ble_eq_true rfl, Nat.le_of_ble_eq_true rfl⟩) ⟨fun a U g9 mk w9 => ⟨w9.1, xM_calling w9.2⟩, mP_recv (q := (RX3, TX3, 19)) hK hM (okS_lt ok_2 z_3) rfl rfl, fun U hU hWm => ⟨rfl, xM_of hM hK hW hAs hS.1 hU hWm⟩⟩ rfl rfl hl.1 rfl (lv_room (Nat.le_of_ble_eq_true rfl)) dX7_told_16 ⟨Nat.le_of_ble_eq_true rfl, Nat.le_of_ble_eq_true rfl⟩) hS (fun _ _ h9 => h9) (fun _ h9 => h9) (fun r9 u9 t9 H locs ht9 _ hw9 hB9 _ _ hS => ?_)
    rw [show r9 = u_4.1 from hw9]
    obtain ⟨hM, -, hW, -⟩ := hB9
    rw [ht9] at hM
    have e9 : (u_4.1, u_4.2) = res := Option.some.inj h
    subst e9
    exact W.iret (v := u_4.1) hx hb hr (fun t9 ht9 hW9 => ⟨⟨_, (), rfl, rfl, xM_of hM hK hW hAs hS.1 ht9 hW9⟩, hS.F ht9⟩) hS.2.2 dX7_told_19
  · have h := iteT z_3 h
    refine lv_iconst (v := (-1)) hx hb dX7_told_10 (by decide) ?_
    refine lv_goto (tgt := 19) hx hb dX7_told_11 (by decide) ?_
    have e9 : ((-1 : Int32), V0) = res := Option.some.inj h
    subst e9
    exact W.iret (v := (-1 : Int32)) hx hb hr (fun t9 ht9 hW9 => ⟨⟨_, (), rfl, rfl, xM_of hM hK hW hAs hS.1 ht9 hW9⟩, hS.F ht9⟩) hS.2.2 dX7_told_19
/-! X7_queued -/
def fX7_queued (L : Nat → Nat → Nat) (px1 : Int32) (px2 : Int32) (V0 : mM) (c0 : Nat × Nat) : Option (Int32) := (fX7_stageAt L px1 V0 c0).bind fun u_1 => if u_1 < 0 then (some (-1 : Int32)) else ((fX7_within L px2 (0 : Int32) ((V0 11 (32 + u_1.toNatClampNeg) 3) - (1 : Int32)) V0 c0).bind fun u_4 => if u_4 = 0 then (some (-1 : Int32)) else (if bin px2 (L 11 (32 + u_1.toNatClampNeg)) = true then (some (V0 12 (32 + u_1.toNatClampNeg) (px2).toNatClampNeg)) else none))
set_option maxHeartbeats 4000000 in
set_option maxRecDepth 100000 in
theorem kX7_queued (l : Launch) {dC : Nat → ClassId} {dI : Nat → Nat → Nat} {A : Nat → Prop} {ad : Nat → Nat → Nat} {cnt : Nat} {L : Nat → Nat → Nat} {cI cS cW : ClassId} {q : Nat × Nat} (hsh : xSh cnt L) (px1 : Int32) (px2 : Int32) (V0 : mM) (c0 : Nat × Nat) {res : Int32} (h : fX7_queued L px1 px2 V0 c0 = some res) : Met l yX7_queued wsX7_queued ({ frames := 2, cells := 0, slots := 0, locals := 43 } : Room) (va_Pc [.ref (ad 2 0), .int px1, .int px2] (fun U => xM dC dI A ad cnt L cI cS cW q V0 c0 U)) (va_Qi (fun r9 (_ : Unit) => r9 = res) (fun _ t9 => xM dC dI A ad cnt L cI cS cW q V0 c0 t9) A) 0 0 A := by
  refine Met.ofW (cc := cX7_queued) (maxL := 4) (ret := (some .int)) (by decide) rfl ?_
  intro p e s m args below meth cd s₁ B hml hv
  obtain ⟨rfl, hM, hK, hW, hAs⟩ := hv
  have hx := B.exec
  have hb := B.bytes
  have hr := B.returns
  have hts := atoms_spec (ws := wsX7_queued) B.pre
  have hown : s.vm.findClass RX7 = some m.cls := findClass_of_methodNamed B.named
  have hlocks := B.notSynchronized
  have hS : va_S A s.heap s.heap [] := va_S.rf
  have k100 := hts (.fieldLink RX7 100 "StageDesk$Stage" "queue" "LStageDesk$EventRow;") (by decide +kernel)
  have k122 := hts (.fieldLink RX7 122 "StageDesk$EventRow" "size" "I") (by decide +kernel)
  have k125 := hts (.fieldLink RX7 125 "StageDesk$EventRow" "numbers" "[I") (by decide +kernel)
  have inX3 : ∀ w ∈ u_ws RX3 TX3 19, w ∈ wsX7_queued := by decide +kernel
  have inX1 : ∀ w ∈ u_ws RX1 TX1 4, w ∈ wsX7_queued := by decide +kernel
  have hl := lv_entry ([.ref (ad 2 0), .int px1, .int px2]) (n := 4) (Nat.le_of_ble_eq_true rfl)
  rw [lg_entry_eq]
  generalize (lg_sl ([.ref (ad 2 0), .int px1, .int px2]) ++ List.replicate (4 - (lg_sl ([.ref (ad 2 0), .int px1, .int px2])).length) Slot.unset).toArray = ls at hl ⊢
  have hl : lv_has ls 4 [(0, .ref (ad 2 0)), (1, .int px1), (2, .int px2)] := hl
  unfold fX7_queued at h
  refine lv_aload_n hx hb dX7_queued_0 rfl (lv_at hl 0 rfl) ?_
  refine lv_iload_n hx hb dX7_queued_1 rfl (lv_at hl 1 rfl) ?_
  obtain ⟨u_1, hu_1, h⟩ := bindS h
  refine va_callq (va_runV (As := [.int px1]) (rest := []) ⟨hx, hb, hml, hown, hts⟩ (kX7_stageAt l hsh px1 V0 c0 hu_1) (cwV 1 hts gX7_queued_X7_stageAt rfl rfl rfl (by decide +kernel) ⟨Nat.le_of_ble_eq_true rfl, Nat.le_of_ble_eq_true rfl⟩) ⟨fun a U g9 mk w9 => ⟨w9.1, xM_calling w9.2⟩, mP_recv (q := (RX7, TX7, 7)) hK hM xe2 rfl rfl, fun U hU hWm => ⟨rfl, xM_of hM hK hW hAs hS.1 hU hWm⟩⟩ rfl rfl hl.1 rfl (lv_room (Nat.le_of_ble_eq_true rfl)) dX7_queued_2 ⟨Nat.le_of_ble_eq_true rfl, Nat.le_of_ble_eq_true rfl⟩) hS (fun _ _ h9 => h9) (fun _ h9 => h9) (fun r9 u9 t9 H locs ht9 _ hw9 hB9 _ _ hS => ?_)
  obtain ⟨rfl, ok_2⟩ : r9 = rO ad u_1 ∧ okS cnt u_1 := hw9
  obtain ⟨hM, -, hW, -⟩ := hB9
  rw [ht9] at hM
  refine mm_astore_n (lv' := [(3, va_rf (rO ad u_1)), (0, .ref (ad 2 0)), (1, .int px1), (2, .int px2)]) hx hb dX7_queued_5 rfl hl (by decide) rfl (fun ls hl => ?_)
  refine mm_aload_n hx hb dX7_queued_6 rfl (lv_at hl 0 rfl) ?_
  refine mm_ifnull (tgt := 27) hx hb dX7_queued_7 (by decide) (fun z_3 => ?_) (fun z_3 => ?_)
  · have h := iteT z_3 h
    refine lv_iconst (v := (-1)) hx hb dX7_queued_27 (by decide) ?_
    have e9 : (-1 : Int32) = res := Option.some.inj h
    subst e9
    exact W.iret (v := (-1 : Int32)) hx hb hr (fun t9 ht9 hW9 => ⟨⟨_, (), rfl, rfl, xM_of hM hK hW hAs hS.1 ht9 hW9⟩, hS.F ht9⟩) hS.2.2 dX7_queued_28
  · have h := iteF z_3 h
    rw [rO_pos (ad := ad) z_3] at hl
    refine lv_iload_n hx hb dX7_queued_10 rfl (lv_at hl 3 rfl) ?_
    refine lv_iconst (v := 0) hx hb dX7_queued_11 (by decide) ?_
    refine lv_aload_n hx hb dX7_queued_12 rfl (lv_at hl 0 rfl) ?_
    refine mm_get (C := RX3) (T := TX3) (N := 19) (ci := 3) hx hb hts inX3 hown hK hM 3 u_1.toNatClampNeg (okS_lt ok_2 z_3) rfl rfl 3 (by decide) k100 (fun _ h9 => h9) rfl dX7_queued_13 ?_
    refine mm_get (C := RX1) (T := TX1) (N := 4) (ci := 1) hx hb hts inX1 hown hK hM 11 (32 + u_1.toNatClampNeg) (xe3_q (okS_lt ok_2 z_3)) rfl rfl 3 (by decide) k122 (fun _ h9 => h9) rfl dX7_queued_16 ?_
    refine lv_iconst (v := 1) hx hb dX7_queued_19 (by decide) ?_
    refine lv_isub hx hb dX7_queued_20 ?_
    obtain ⟨u_4, hu_4, h⟩ := bindS h
    refine va_calli (va_runS (As := [.int px2, .int (0 : Int32), .int ((V0 11 (32 + u_1.toNatClampNeg) 3) - (1 : Int32))]) (rest := []) ⟨hx, hb, hml, hown, hts⟩ (kX7_within l hsh px2 (0 : Int32) ((V0 11 (32 + u_1.toNatClampNeg) 3) - (1 : Int32)) V0 c0 hu_4) (va_cwS 3 hts gX7_queued_X7_within rfl rfl rfl (by decide +kernel) ⟨Nat.le_of_ble_eq_true rfl, Nat.le_of_ble_eq_true rfl⟩) ⟨fun a U g9 mk w9 => ⟨w9.1, xM_calling w9.2⟩, fun U hU hWm => ⟨rfl, xM_of hM hK hW hAs hS.1 hU hWm⟩⟩ rfl rfl hl.1 rfl (lv_room (Nat.le_of_ble_eq_true rfl)) dX7_queued_21 ⟨Nat.le_of_ble_eq_true rfl, Nat.le_of_ble_eq_true rfl⟩) hS (fun _ _ h9 => h9) (fun _ h9 => h9) (fun r9 u9 t9 H locs ht9 _ hw9 hB9 _ _ hS => ?_)
    rw [show r9 = u_4 from hw9]
    obtain ⟨hM, -, hW, -⟩ := hB9
    rw [ht9] at hM
    refine lv_if_ne (tgt := 29) hx hb dX7_queued_24 (by decide) (fun c_5 => ?_) (fun c_5 => ?_)
    · have h := iteF c_5 h
      refine lv_aload_n hx hb dX7_queued_29 rfl (lv_at hl 0 rfl) ?_
      refine mm_get (C := RX3) (T := TX3) (N := 19) (ci := 3) hx hb hts inX3 hown hK hM 3 u_1.toNatClampNeg (okS_lt ok_2 z_3) rfl rfl 3 (by decide) k100 (fun _ h9 => h9) rfl dX7_queued_30 ?_
      refine mm_get (C := RX1) (T := TX1) (N := 4) (ci := 1) hx hb hts inX1 hown hK hM 11 (32 + u_1.toNatClampNeg) (xe3_q (okS_lt ok_2 z_3)) rfl rfl 0 (by decide) k125 (fun _ h9 => h9) rfl dX7_queued_33 ?_
      refine lv_iload_n hx hb dX7_queued_36 rfl (lv_at hl 3 rfl) ?_
      obtain ⟨b_6, h⟩ := iteS h
      refine mm_iald hx hb hK hM 12 (32 + u_1.toNatClampNeg) (xe11_n (xe3_q (okS_lt ok_2 z_3))) 0 rfl rfl (bin_in b_6) dX7_queued_37 ?_
      have e9 : (V0 12 (32 + u_1.toNatClampNeg) (px2).toNatClampNeg) = res := Option.some.inj h
      subst e9
      exact W.iret (v := (V0 12 (32 + u_1.toNatClampNeg) (px2).toNatClampNeg)) hx hb hr (fun t9 ht9 hW9 => ⟨⟨_, (), rfl, rfl, xM_of hM hK hW hAs hS.1 ht9 hW9⟩, hS.F ht9⟩) hS.2.2 dX7_queued_38
    · have h := iteT c_5 h
      refine lv_iconst (v := (-1)) hx hb dX7_queued_27 (by decide) ?_
      have e9 : (-1 : Int32) = res := Option.some.inj h
      subst e9
      exact W.iret (v := (-1 : Int32)) hx hb hr (fun t9 ht9 hW9 => ⟨⟨_, (), rfl, rfl, xM_of hM hK hW hAs hS.1 ht9 hW9⟩, hS.F ht9⟩) hS.2.2 dX7_queued_28
/-! X7_worker -/
def fX7_worker (L : Nat → Nat → Nat) (px1 : Int32) (px2 : Int32) (px3 : Int32) (V0 : mM) (c0 : Nat × Nat) : Option (Int32) := (fX7_stageAt L px1 V0 c0).bind fun u_1 => if u_1 < 0 then (some (-1 : Int32)) else ((fX7_within L px2 (0 : Int32) ((V0 3 u_1.toNatClampNeg 14) - (1 : Int32)) V0 c0).bind fun u_4 => if u_4 = 0 then (some (-1 : Int32)) else (if bin px2 (L 15 u_1.toNatClampNeg) = true then ((fX6_figure L (4 * u_1.toNatClampNeg + (px2).toNatClampNeg) px3 V0 c0).bind fun u_7 => some u_7) else none))
set_option maxHeartbeats 4000000 in
set_option maxRecDepth 100000 in
theorem kX7_worker (l : Launch) {dC : Nat → ClassId} {dI : Nat → Nat → Nat} {A : Nat → Prop} {ad : Nat → Nat → Nat} {cnt : Nat} {L : Nat → Nat → Nat} {cI cS cW : ClassId} {q : Nat × Nat} (hsh : xSh cnt L) (px1 : Int32) (px2 : Int32) (px3 : Int32) (V0 : mM) (c0 : Nat × Nat) {res : Int32} (h : fX7_worker L px1 px2 px3 V0 c0 = some res) : Met l yX7_worker wsX7_worker ({ frames := 2, cells := 0, slots := 0, locals := 43 } : Room) (va_Pc [.ref (ad 2 0), .int px1, .int px2, .int px3] (fun U => xM dC dI A ad cnt L cI cS cW q V0 c0 U)) (va_Qi (fun r9 (_ : Unit) => r9 = res) (fun _ t9 => xM dC dI A ad cnt L cI cS cW q V0 c0 t9) A) 0 0 A := by
  refine Met.ofW (cc := cX7_worker) (maxL := 5) (ret := (some .int)) (by decide) rfl ?_
  intro p e s m args below meth cd s₁ B hml hv
  obtain ⟨rfl, hM, hK, hW, hAs⟩ := hv
  have hx := B.exec
  have hb := B.bytes
  have hr := B.returns
  have hts := atoms_spec (ws := wsX7_worker) B.pre
  have hown : s.vm.findClass RX7 = some m.cls := findClass_of_methodNamed B.named
  have hlocks := B.notSynchronized
  have hS : va_S A s.heap s.heap [] := va_S.rf
  have k129 := hts (.fieldLink RX7 129 "StageDesk$Stage" "workerCount" "I") (by decide +kernel)
  have k132 := hts (.fieldLink RX7 132 "StageDesk$Stage" "workers" "[LStageDesk$Worker;") (by decide +kernel)
  have inX3 : ∀ w ∈ u_ws RX3 TX3 19, w ∈ wsX7_worker := by decide +kernel
  have hl := lv_entry ([.ref (ad 2 0), .int px1, .int px2, .int px3]) (n := 5) (Nat.le_of_ble_eq_true rfl)
  rw [lg_entry_eq]
  generalize (lg_sl ([.ref (ad 2 0), .int px1, .int px2, .int px3]) ++ List.replicate (5 - (lg_sl ([.ref (ad 2 0), .int px1, .int px2, .int px3])).length) Slot.unset).toArray = ls at hl ⊢
  have hl : lv_has ls 5 [(0, .ref (ad 2 0)), (1, .int px1), (2, .int px2), (3, .int px3)] := hl
  unfold fX7_worker at h
  refine lv_aload_n hx hb dX7_worker_0 rfl (lv_at hl 0 rfl) ?_
  refine lv_iload_n hx hb dX7_worker_1 rfl (lv_at hl 1 rfl) ?_
  obtain ⟨u_1, hu_1, h⟩ := bindS h
  refine va_callq (va_runV (As := [.int px1]) (rest := []) ⟨hx, hb, hml, hown, hts⟩ (kX7_stageAt l hsh px1 V0 c0 hu_1) (cwV 1 hts gX7_worker_X7_stageAt rfl rfl rfl (by decide +kernel) ⟨Nat.le_of_ble_eq_true rfl, Nat.le_of_ble_eq_true rfl⟩) ⟨fun a U g9 mk w9 => ⟨w9.1, xM_calling w9.2⟩, mP_recv (q := (RX7, TX7, 7)) hK hM xe2 rfl rfl, fun U hU hWm => ⟨rfl, xM_of hM hK hW hAs hS.1 hU hWm⟩⟩ rfl rfl hl.1 rfl (lv_room (Nat.le_of_ble_eq_true rfl)) dX7_worker_2 ⟨Nat.le_of_ble_eq_true rfl, Nat.le_of_ble_eq_true rfl⟩) hS (fun _ _ h9 => h9) (fun _ h9 => h9) (fun r9 u9 t9 H locs ht9 _ hw9 hB9 _ _ hS => ?_)
  obtain ⟨rfl, ok_2⟩ : r9 = rO ad u_1 ∧ okS cnt u_1 := hw9
  obtain ⟨hM, -, hW, -⟩ := hB9
  rw [ht9] at hM
  refine mm_astore (lv' := [(4, va_rf (rO ad u_1)), (0, .ref (ad 2 0)), (1, .int px1), (2, .int px2), (3, .int px3)]) hx hb dX7_worker_5 hl (by decide) rfl (fun ls hl => ?_)
  refine mm_aload hx hb dX7_worker_7 (lv_at hl 0 rfl) ?_
  refine mm_ifnull (tgt := 27) hx hb dX7_worker_9 (by decide) (fun z_3 => ?_) (fun z_3 => ?_)
  · have h := iteT z_3 h
    refine lv_iconst (v := (-1)) hx hb dX7_worker_27 (by decide) ?_
    have e9 : (-1 : Int32) = res := Option.some.inj h
    subst e9
    exact W.iret (v := (-1 : Int32)) hx hb hr (fun t9 ht9 hW9 => ⟨⟨_, (), rfl, rfl, xM_of hM hK hW hAs hS.1 ht9 hW9⟩, hS.F ht9⟩) hS.2.2 dX7_worker_28
  · have h := iteF z_3 h
    rw [rO_pos (ad := ad) z_3] at hl
    refine lv_iload_n hx hb dX7_worker_12 rfl (lv_at hl 3 rfl) ?_
    refine lv_iconst (v := 0) hx hb dX7_worker_13 (by decide) ?_
    refine lv_aload hx hb dX7_worker_14 (lv_at hl 0 rfl) ?_
    refine mm_get (C := RX3) (T := TX3) (N := 19) (ci := 3) hx hb hts inX3 hown hK hM 3 u_1.toNatClampNeg (okS_lt ok_2 z_3) rfl rfl 14 (by decide) k129 (fun _ h9 => h9) rfl dX7_worker_16 ?_
    refine lv_iconst (v := 1) hx hb dX7_worker_19 (by decide) ?_
    refine lv_isub hx hb dX7_worker_20 ?_
    obtain ⟨u_4, hu_4, h⟩ := bindS h
    refine va_calli (va_runS (As := [.int px2, .int (0 : Int32), .int ((V0 3 u_1.toNatClampNeg 14) - (1 : Int32))]) (rest := []) ⟨hx, hb, hml, hown, hts⟩ (kX7_within l hsh px2 (0 : Int32) ((V0 3 u_1.toNatClampNeg 14) - (1 : Int32)) V0 c0 hu_4) (va_cwS 3 hts gX7_worker_X7_within rfl rfl rfl (by decide +kernel) ⟨Nat.le_of_ble_eq_true rfl, Nat.le_of_ble_eq_true rfl⟩) ⟨fun a U g9 mk w9 => ⟨w9.1, xM_calling w9.2⟩, fun U hU hWm => ⟨rfl, xM_of hM hK hW hAs hS.1 hU hWm⟩⟩ rfl rfl hl.1 rfl (lv_room (Nat.le_of_ble_eq_true rfl)) dX7_worker_21 ⟨Nat.le_of_ble_eq_true rfl, Nat.le_of_ble_eq_true rfl⟩) hS (fun _ _ h9 => h9) (fun _ h9 => h9) (fun r9 u9 t9 H locs ht9 _ hw9 hB9 _ _ hS => ?_)
    rw [show r9 = u_4 from hw9]
    obtain ⟨hM, -, hW, -⟩ := hB9
    rw [ht9] at hM
    refine lv_if_ne (tgt := 29) hx hb dX7_worker_24 (by decide) (fun c_5 => ?_) (fun c_5 => ?_)
    · have h := iteF c_5 h
      refine lv_aload hx hb dX7_worker_29 (lv_at hl 0 rfl) ?_
      refine mm_get (C := RX3) (T := TX3) (N := 19) (ci := 3) hx hb hts inX3 hown hK hM 3 u_1.toNatClampNeg (okS_lt ok_2 z_3) rfl rfl 4 (by decide) k132 (fun _ h9 => h9) rfl dX7_worker_31 ?_
      refine lv_iload_n hx hb dX7_worker_34 rfl (lv_at hl 3 rfl) ?_
      obtain ⟨b_6, h⟩ := iteS h
      refine mm_aald hx hb hK hM 15 u_1.toNatClampNeg (xe3_w (okS_lt ok_2 z_3)) 2 rfl rfl (bin_in b_6) dX7_worker_35 ?_
      rw [if_pos (bin_iff.mp b_6).2]
      refine lv_iload_n hx hb dX7_worker_36 rfl (lv_at hl 4 rfl) ?_
      obtain ⟨u_7, hu_7, h⟩ := bindS h
      refine va_calli (va_runV (As := [.int px3]) (rest := []) ⟨hx, hb, hml, hown, hts⟩ (kX6_figure l hsh (4 * u_1.toNatClampNeg + (px2).toNatClampNeg) px3 V0 c0 hu_7 (xe15 hsh (xe3_w (okS_lt ok_2 z_3)) b_6)) (cwV 1 hts gX7_worker_X6_figure rfl rfl rfl (by decide +kernel) ⟨Nat.le_of_ble_eq_true rfl, Nat.le_of_ble_eq_true rfl⟩) ⟨fun a U g9 mk w9 => ⟨w9.1, xM_calling w9.2⟩, mP_recv (q := (RX6, TX6, 5)) hK hM (xe15 hsh (xe3_w (okS_lt ok_2 z_3)) b_6) rfl rfl, fun U hU hWm => ⟨rfl, xM_of hM hK hW hAs hS.1 hU hWm⟩⟩ rfl rfl hl.1 rfl (lv_room (Nat.le_of_ble_eq_true rfl)) dX7_worker_37 ⟨Nat.le_of_ble_eq_true rfl, Nat.le_of_ble_eq_true rfl⟩) hS (fun _ _ h9 => h9) (fun _ h9 => h9) (fun r9 u9 t9 H locs ht9 _ hw9 hB9 _ _ hS => ?_)
      rw [show r9 = u_7 from hw9]
      obtain ⟨hM, -, hW, -⟩ := hB9
      rw [ht9] at hM
      have e9 : u_7 = res := Option.some.inj h
      subst e9
      exact W.iret (v := u_7) hx hb hr (fun t9 ht9 hW9 => ⟨⟨_, (), rfl, rfl, xM_of hM hK hW hAs hS.1 ht9 hW9⟩, hS.F ht9⟩) hS.2.2 dX7_worker_40
    · have h := iteT c_5 h
      refine lv_iconst (v := (-1)) hx hb dX7_worker_27 (by decide) ?_
      have e9 : (-1 : Int32) = res := Option.some.inj h
      subst e9
      exact W.iret (v := (-1 : Int32)) hx hb hr (fun t9 ht9 hW9 => ⟨⟨_, (), rfl, rfl, xM_of hM hK hW hAs hS.1 ht9 hW9⟩, hS.F ht9⟩) hS.2.2 dX7_worker_28
/-! X7_done -/
def fX7_done (L : Nat → Nat → Nat) (px1 : Int32) (V0 : mM) (c0 : Nat × Nat) : Option (Int32) := (fX7_within L px1 (0 : Int32) ((V0 10 0 2) - (1 : Int32)) V0 c0).bind fun u_1 => if u_1 = 0 then (some (-1 : Int32)) else (if bin px1 c0.1 = true then (some (V0 0 0 (px1).toNatClampNeg)) else none)
set_option maxHeartbeats 4000000 in
set_option maxRecDepth 100000 in
theorem kX7_done (l : Launch) {dC : Nat → ClassId} {dI : Nat → Nat → Nat} {A : Nat → Prop} {ad : Nat → Nat → Nat} {cnt : Nat} {L : Nat → Nat → Nat} {cI cS cW : ClassId} {q : Nat × Nat} (hsh : xSh cnt L) (px1 : Int32) (V0 : mM) (c0 : Nat × Nat) {res : Int32} (h : fX7_done L px1 V0 c0 = some res) : Met l yX7_done wsX7_done ({ frames := 1, cells := 0, slots := 0, locals := 22 } : Room) (va_Pc [.ref (ad 2 0), .int px1] (fun U => xM dC dI A ad cnt L cI cS cW q V0 c0 U)) (va_Qi (fun r9 (_ : Unit) => r9 = res) (fun _ t9 => xM dC dI A ad cnt L cI cS cW q V0 c0 t9) A) 0 0 A := by
  refine Met.ofW (cc := cX7_done) (maxL := 2) (ret := (some .int)) (by decide) rfl ?_
  intro p e s m args below meth cd s₁ B hml hv
  obtain ⟨rfl, hM, hK, hW, hAs⟩ := hv
  have hx := B.exec
  have hb := B.bytes
  have hr := B.returns
  have hts := atoms_spec (ws := wsX7_done) B.pre
  have hown : s.vm.findClass RX7 = some m.cls := findClass_of_methodNamed B.named
  have hlocks := B.notSynchronized
  have hS : va_S A s.heap s.heap [] := va_S.rf
  have k25 := hts (.fieldLink RX7 25 "StageDesk" "doneRow" "LStageDesk$DoneRow;") (by decide +kernel)
  have k139 := hts (.fieldLink RX7 139 "StageDesk$DoneRow" "size" "I") (by decide +kernel)
  have k140 := hts (.fieldLink RX7 140 "StageDesk$DoneRow" "numbers" "[I") (by decide +kernel)
  have inX7 : ∀ w ∈ u_ws RX7 TX7 7, w ∈ wsX7_done := by decide +kernel
  have inX0 : ∀ w ∈ u_ws RX0 TX0 3, w ∈ wsX7_done := by decide +kernel
  have hl := lv_entry ([.ref (ad 2 0), .int px1]) (n := 2) (Nat.le_of_ble_eq_true rfl)
  rw [lg_entry_eq]
  generalize (lg_sl ([.ref (ad 2 0), .int px1]) ++ List.replicate (2 - (lg_sl ([.ref (ad 2 0), .int px1])).length) Slot.unset).toArray = ls at hl ⊢
  have hl : lv_has ls 2 [(0, .ref (ad 2 0)), (1, .int px1)] := hl
  unfold fX7_done at h
  refine lv_iload_n hx hb dX7_done_0 rfl (lv_at hl 1 rfl) ?_
  refine lv_iconst (v := 0) hx hb dX7_done_1 (by decide) ?_
  refine lv_aload_n hx hb dX7_done_2 rfl (lv_at hl 0 rfl) ?_
  refine mm_get (C := RX7) (T := TX7) (N := 7) (ci := 7) hx hb hts inX7 hown hK hM 2 0 xe2 rfl rfl 2 (by decide) k25 (fun _ h9 => h9) rfl dX7_done_3 ?_
  refine mm_get (C := RX0) (T := TX0) (N := 3) (ci := 0) hx hb hts inX0 hown hK hM 10 0 xe10 rfl rfl 2 (by decide) k139 (fun _ h9 => h9) rfl dX7_done_6 ?_
  refine lv_iconst (v := 1) hx hb dX7_done_9 (by decide) ?_
  refine lv_isub hx hb dX7_done_10 ?_
  obtain ⟨u_1, hu_1, h⟩ := bindS h
  refine va_calli (va_runS (As := [.int px1, .int (0 : Int32), .int ((V0 10 0 2) - (1 : Int32))]) (rest := []) ⟨hx, hb, hml, hown, hts⟩ (kX7_within l hsh px1 (0 : Int32) ((V0 10 0 2) - (1 : Int32)) V0 c0 hu_1) (va_cwS 3 hts gX7_done_X7_within rfl rfl rfl (by decide +kernel) ⟨Nat.le_of_ble_eq_true rfl, Nat.le_of_ble_eq_true rfl⟩) ⟨fun a U g9 mk w9 => ⟨w9.1, xM_calling w9.2⟩, fun U hU hWm => ⟨rfl, xM_of hM hK hW hAs hS.1 hU hWm⟩⟩ rfl rfl hl.1 rfl (lv_room (Nat.le_of_ble_eq_true rfl)) dX7_done_11 ⟨Nat.le_of_ble_eq_true rfl, Nat.le_of_ble_eq_true rfl⟩) hS (fun _ _ h9 => h9) (fun _ h9 => h9) (fun r9 u9 t9 H locs ht9 _ hw9 hB9 _ _ hS => ?_)
  rw [show r9 = u_1 from hw9]
  obtain ⟨hM, -, hW, -⟩ := hB9
  rw [ht9] at hM
  refine lv_if_eq (tgt := 29) hx hb dX7_done_14 (by decide) (fun c_2 => ?_) (fun c_2 => ?_)
  · have h := iteT c_2 h
    refine lv_iconst (v := (-1)) hx hb dX7_done_29 (by decide) ?_
    have e9 : (-1 : Int32) = res := Option.some.inj h
    subst e9
    exact W.iret (v := (-1 : Int32)) hx hb hr (fun t9 ht9 hW9 => ⟨⟨_, (), rfl, rfl, xM_of hM hK hW hAs hS.1 ht9 hW9⟩, hS.F ht9⟩) hS.2.2 dX7_done_30
  · have h := iteF c_2 h
    refine lv_aload_n hx hb dX7_done_17 rfl (lv_at hl 0 rfl) ?_
    refine mm_get (C := RX7) (T := TX7) (N := 7) (ci := 7) hx hb hts inX7 hown hK hM 2 0 xe2 rfl rfl 2 (by decide) k25 (fun _ h9 => h9) rfl dX7_done_18 ?_
    refine mm_get (C := RX0) (T := TX0) (N := 3) (ci := 0) hx hb hts inX0 hown hK hM 10 0 xe10 rfl rfl 0 (by decide) k140 (fun _ h9 => h9) rfl dX7_done_21 ?_
    refine lv_iload_n hx hb dX7_done_24 rfl (lv_at hl 1 rfl) ?_
    obtain ⟨b_3, h⟩ := iteS h
    refine mm_iald hx hb hK hM 0 0 xe0 0 rfl rfl (bin_in b_3) dX7_done_25 ?_
    refine lv_goto (tgt := 30) hx hb dX7_done_26 (by decide) ?_
    have e9 : (V0 0 0 (px1).toNatClampNeg) = res := Option.some.inj h
    subst e9
    exact W.iret (v := (V0 0 0 (px1).toNatClampNeg)) hx hb hr (fun t9 ht9 hW9 => ⟨⟨_, (), rfl, rfl, xM_of hM hK hW hAs hS.1 ht9 hW9⟩, hS.F ht9⟩) hS.2.2 dX7_done_30
/-! X7_value -/
def fX7_value (L : Nat → Nat → Nat) (px1 : Int32) (V0 : mM) (c0 : Nat × Nat) : Option (Int32) := (fX7_within L px1 (0 : Int32) ((V0 10 0 2) - (1 : Int32)) V0 c0).bind fun u_1 => if u_1 = 0 then (some (-1 : Int32)) else (if bin px1 c0.2 = true then (some (V0 1 0 (px1).toNatClampNeg)) else none)
set_option maxHeartbeats 4000000 in
set_option maxRecDepth 100000 in
theorem kX7_value (l : Launch) {dC : Nat → ClassId} {dI : Nat → Nat → Nat} {A : Nat → Prop} {ad : Nat → Nat → Nat} {cnt : Nat} {L : Nat → Nat → Nat} {cI cS cW : ClassId} {q : Nat × Nat} (hsh : xSh cnt L) (px1 : Int32) (V0 : mM) (c0 : Nat × Nat) {res : Int32} (h : fX7_value L px1 V0 c0 = some res) : Met l yX7_value wsX7_value ({ frames := 1, cells := 0, slots := 0, locals := 22 } : Room) (va_Pc [.ref (ad 2 0), .int px1] (fun U => xM dC dI A ad cnt L cI cS cW q V0 c0 U)) (va_Qi (fun r9 (_ : Unit) => r9 = res) (fun _ t9 => xM dC dI A ad cnt L cI cS cW q V0 c0 t9) A) 0 0 A := by
  refine Met.ofW (cc := cX7_value) (maxL := 2) (ret := (some .int)) (by decide) rfl ?_
  intro p e s m args below meth cd s₁ B hml hv
  obtain ⟨rfl, hM, hK, hW, hAs⟩ := hv
  have hx := B.exec
  have hb := B.bytes
  have hr := B.returns
  have hts := atoms_spec (ws := wsX7_value) B.pre
  have hown : s.vm.findClass RX7 = some m.cls := findClass_of_methodNamed B.named
  have hlocks := B.notSynchronized
  have hS : va_S A s.heap s.heap [] := va_S.rf
  have k25 := hts (.fieldLink RX7 25 "StageDesk" "doneRow" "LStageDesk$DoneRow;") (by decide +kernel)
  have k139 := hts (.fieldLink RX7 139 "StageDesk$DoneRow" "size" "I") (by decide +kernel)
  have k141 := hts (.fieldLink RX7 141 "StageDesk$DoneRow" "values" "[I") (by decide +kernel)
  have inX7 : ∀ w ∈ u_ws RX7 TX7 7, w ∈ wsX7_value := by decide +kernel
  have inX0 : ∀ w ∈ u_ws RX0 TX0 3, w ∈ wsX7_value := by decide +kernel
  have hl := lv_entry ([.ref (ad 2 0), .int px1]) (n := 2) (Nat.le_of_ble_eq_true rfl)
  rw [lg_entry_eq]
  generalize (lg_sl ([.ref (ad 2 0), .int px1]) ++ List.replicate (2 - (lg_sl ([.ref (ad 2 0), .int px1])).length) Slot.unset).toArray = ls at hl ⊢
  have hl : lv_has ls 2 [(0, .ref (ad 2 0)), (1, .int px1)] := hl
  unfold fX7_value at h
  refine lv_iload_n hx hb dX7_value_0 rfl (lv_at hl 1 rfl) ?_
  refine lv_iconst (v := 0) hx hb dX7_value_1 (by decide) ?_
  refine lv_aload_n hx hb dX7_value_2 rfl (lv_at hl 0 rfl) ?_
  refine mm_get (C := RX7) (T := TX7) (N := 7) (ci := 7) hx hb hts inX7 hown hK hM 2 0 xe2 rfl rfl 2 (by decide) k25 (fun _ h9 => h9) rfl dX7_value_3 ?_
  refine mm_get (C := RX0) (T := TX0) (N := 3) (ci := 0) hx hb hts inX0 hown hK hM 10 0 xe10 rfl rfl 2 (by decide) k139 (fun _ h9 => h9) rfl dX7_value_6 ?_
  refine lv_iconst (v := 1) hx hb dX7_value_9 (by decide) ?_
  refine lv_isub hx hb dX7_value_10 ?_
  obtain ⟨u_1, hu_1, h⟩ := bindS h
  refine va_calli (va_runS (As := [.int px1, .int (0 : Int32), .int ((V0 10 0 2) - (1 : Int32))]) (rest := []) ⟨hx, hb, hml, hown, hts⟩ (kX7_within l hsh px1 (0 : Int32) ((V0 10 0 2) - (1 : Int32)) V0 c0 hu_1) (va_cwS 3 hts gX7_value_X7_within rfl rfl rfl (by decide +kernel) ⟨Nat.le_of_ble_eq_true rfl, Nat.le_of_ble_eq_true rfl⟩) ⟨fun a U g9 mk w9 => ⟨w9.1, xM_calling w9.2⟩, fun U hU hWm => ⟨rfl, xM_of hM hK hW hAs hS.1 hU hWm⟩⟩ rfl rfl hl.1 rfl (lv_room (Nat.le_of_ble_eq_true rfl)) dX7_value_11 ⟨Nat.le_of_ble_eq_true rfl, Nat.le_of_ble_eq_true rfl⟩) hS (fun _ _ h9 => h9) (fun _ h9 => h9) (fun r9 u9 t9 H locs ht9 _ hw9 hB9 _ _ hS => ?_)
  rw [show r9 = u_1 from hw9]
  obtain ⟨hM, -, hW, -⟩ := hB9
  rw [ht9] at hM
  refine lv_if_eq (tgt := 29) hx hb dX7_value_14 (by decide) (fun c_2 => ?_) (fun c_2 => ?_)
  · have h := iteT c_2 h
    refine lv_iconst (v := (-1)) hx hb dX7_value_29 (by decide) ?_
    have e9 : (-1 : Int32) = res := Option.some.inj h
    subst e9
    exact W.iret (v := (-1 : Int32)) hx hb hr (fun t9 ht9 hW9 => ⟨⟨_, (), rfl, rfl, xM_of hM hK hW hAs hS.1 ht9 hW9⟩, hS.F ht9⟩) hS.2.2 dX7_value_30
  · have h := iteF c_2 h
    refine lv_aload_n hx hb dX7_value_17 rfl (lv_at hl 0 rfl) ?_
    refine mm_get (C := RX7) (T := TX7) (N := 7) (ci := 7) hx hb hts inX7 hown hK hM 2 0 xe2 rfl rfl 2 (by decide) k25 (fun _ h9 => h9) rfl dX7_value_18 ?_
    refine mm_get (C := RX0) (T := TX0) (N := 3) (ci := 0) hx hb hts inX0 hown hK hM 10 0 xe10 rfl rfl 1 (by decide) k141 (fun _ h9 => h9) rfl dX7_value_21 ?_
    refine lv_iload_n hx hb dX7_value_24 rfl (lv_at hl 1 rfl) ?_
    obtain ⟨b_3, h⟩ := iteS h
    refine mm_iald hx hb hK hM 1 0 xe1 0 rfl rfl (bin_in b_3) dX7_value_25 ?_
    refine lv_goto (tgt := 30) hx hb dX7_value_26 (by decide) ?_
    have e9 : (V0 1 0 (px1).toNatClampNeg) = res := Option.some.inj h
    subst e9
    exact W.iret (v := (V0 1 0 (px1).toNatClampNeg)) hx hb hr (fun t9 ht9 hW9 => ⟨⟨_, (), rfl, rfl, xM_of hM hK hW hAs hS.1 ht9 hW9⟩, hS.F ht9⟩) hS.2.2 dX7_value_30
/-! X7_events -/
def fX7_events (L : Nat → Nat → Nat)  (V0 : mM) (c0 : Nat × Nat) : Option (Int32) := some (V0 2 0 5)
set_option maxHeartbeats 4000000 in
set_option maxRecDepth 100000 in
theorem kX7_events (l : Launch) {dC : Nat → ClassId} {dI : Nat → Nat → Nat} {A : Nat → Prop} {ad : Nat → Nat → Nat} {cnt : Nat} {L : Nat → Nat → Nat} {cI cS cW : ClassId} {q : Nat × Nat} (hsh : xSh cnt L)  (V0 : mM) (c0 : Nat × Nat) {res : Int32} (h : fX7_events L V0 c0 = some res) : Met l yX7_events wsX7_events ({ frames := 0, cells := 0, slots := 0, locals := 0 } : Room) (va_Pc [.ref (ad 2 0)] (fun U => xM dC dI A ad cnt L cI cS cW q V0 c0 U)) (va_Qi (fun r9 (_ : Unit) => r9 = res) (fun _ t9 => xM dC dI A ad cnt L cI cS cW q V0 c0 t9) A) 0 0 A := by
  refine Met.ofW (cc := cX7_events) (maxL := 1) (ret := (some .int)) (by decide) rfl ?_
  intro p e s m args below meth cd s₁ B hml hv
  obtain ⟨rfl, hM, hK, hW, hAs⟩ := hv
  have hx := B.exec
  have hb := B.bytes
  have hr := B.returns
  have hts := atoms_spec (ws := wsX7_events) B.pre
  have hown : s.vm.findClass RX7 = some m.cls := findClass_of_methodNamed B.named
  have hlocks := B.notSynchronized
  have hS : va_S A s.heap s.heap [] := va_S.rf
  have k97 := hts (.fieldLink RX7 97 "StageDesk" "made" "I") (by decide +kernel)
  have inX7 : ∀ w ∈ u_ws RX7 TX7 7, w ∈ wsX7_events := by decide +kernel
  have hl := lv_entry ([.ref (ad 2 0)]) (n := 1) (Nat.le_of_ble_eq_true rfl)
  rw [lg_entry_eq]
  generalize (lg_sl ([.ref (ad 2 0)]) ++ List.replicate (1 - (lg_sl ([.ref (ad 2 0)])).length) Slot.unset).toArray = ls at hl ⊢
  have hl : lv_has ls 1 [(0, .ref (ad 2 0))] := hl
  unfold fX7_events at h
  refine lv_aload_n hx hb dX7_events_0 rfl (lv_at hl 0 rfl) ?_
  refine mm_get (C := RX7) (T := TX7) (N := 7) (ci := 7) hx hb hts inX7 hown hK hM 2 0 xe2 rfl rfl 5 (by decide) k97 (fun _ h9 => h9) rfl dX7_events_1 ?_
  have e9 : (V0 2 0 5) = res := Option.some.inj h
  subst e9
  exact W.iret (v := (V0 2 0 5)) hx hb hr (fun t9 ht9 hW9 => ⟨⟨_, (), rfl, rfl, xM_of hM hK hW hAs hS.1 ht9 hW9⟩, hS.F ht9⟩) hS.2.2 dX7_events_4
/-! X7_ended -/
def fX7_ended (L : Nat → Nat → Nat)  (V0 : mM) (c0 : Nat × Nat) : Option (Int32) := some (V0 10 0 2)
set_option maxHeartbeats 4000000 in
set_option maxRecDepth 100000 in
theorem kX7_ended (l : Launch) {dC : Nat → ClassId} {dI : Nat → Nat → Nat} {A : Nat → Prop} {ad : Nat → Nat → Nat} {cnt : Nat} {L : Nat → Nat → Nat} {cI cS cW : ClassId} {q : Nat × Nat} (hsh : xSh cnt L)  (V0 : mM) (c0 : Nat × Nat) {res : Int32} (h : fX7_ended L V0 c0 = some res) : Met l yX7_ended wsX7_ended ({ frames := 0, cells := 0, slots := 0, locals := 0 } : Room) (va_Pc [.ref (ad 2 0)] (fun U => xM dC dI A ad cnt L cI cS cW q V0 c0 U)) (va_Qi (fun r9 (_ : Unit) => r9 = res) (fun _ t9 => xM dC dI A ad cnt L cI cS cW q V0 c0 t9) A) 0 0 A := by
  refine Met.ofW (cc := cX7_ended) (maxL := 1) (ret := (some .int)) (by decide) rfl ?_
  intro p e s m args below meth cd s₁ B hml hv
  obtain ⟨rfl, hM, hK, hW, hAs⟩ := hv
  have hx := B.exec
  have hb := B.bytes
  have hr := B.returns
  have hts := atoms_spec (ws := wsX7_ended) B.pre
  have hown : s.vm.findClass RX7 = some m.cls := findClass_of_methodNamed B.named
  have hlocks := B.notSynchronized
  have hS : va_S A s.heap s.heap [] := va_S.rf
  have k25 := hts (.fieldLink RX7 25 "StageDesk" "doneRow" "LStageDesk$DoneRow;") (by decide +kernel)
  have k139 := hts (.fieldLink RX7 139 "StageDesk$DoneRow" "size" "I") (by decide +kernel)
  have inX7 : ∀ w ∈ u_ws RX7 TX7 7, w ∈ wsX7_ended := by decide +kernel
  have inX0 : ∀ w ∈ u_ws RX0 TX0 3, w ∈ wsX7_ended := by decide +kernel
  have hl := lv_entry ([.ref (ad 2 0)]) (n := 1) (Nat.le_of_ble_eq_true rfl)
  rw [lg_entry_eq]
  generalize (lg_sl ([.ref (ad 2 0)]) ++ List.replicate (1 - (lg_sl ([.ref (ad 2 0)])).length) Slot.unset).toArray = ls at hl ⊢
  have hl : lv_has ls 1 [(0, .ref (ad 2 0))] := hl
  unfold fX7_ended at h
  refine lv_aload_n hx hb dX7_ended_0 rfl (lv_at hl 0 rfl) ?_
  refine mm_get (C := RX7) (T := TX7) (N := 7) (ci := 7) hx hb hts inX7 hown hK hM 2 0 xe2 rfl rfl 2 (by decide) k25 (fun _ h9 => h9) rfl dX7_ended_1 ?_
  refine mm_get (C := RX0) (T := TX0) (N := 3) (ci := 0) hx hb hts inX0 hown hK hM 10 0 xe10 rfl rfl 2 (by decide) k139 (fun _ h9 => h9) rfl dX7_ended_4 ?_
  have e9 : (V0 10 0 2) = res := Option.some.inj h
  subst e9
  exact W.iret (v := (V0 10 0 2)) hx hb hr (fun t9 ht9 hW9 => ⟨⟨_, (), rfl, rfl, xM_of hM hK hW hAs hS.1 ht9 hW9⟩, hS.F ht9⟩) hS.2.2 dX7_ended_7
/-! X7_lost -/
def fX7_lost (L : Nat → Nat → Nat)  (V0 : mM) (c0 : Nat × Nat) : Option (Int32) := some (V0 2 0 6)
set_option maxHeartbeats 4000000 in
set_option maxRecDepth 100000 in
theorem kX7_lost (l : Launch) {dC : Nat → ClassId} {dI : Nat → Nat → Nat} {A : Nat → Prop} {ad : Nat → Nat → Nat} {cnt : Nat} {L : Nat → Nat → Nat} {cI cS cW : ClassId} {q : Nat × Nat} (hsh : xSh cnt L)  (V0 : mM) (c0 : Nat × Nat) {res : Int32} (h : fX7_lost L V0 c0 = some res) : Met l yX7_lost wsX7_lost ({ frames := 0, cells := 0, slots := 0, locals := 0 } : Room) (va_Pc [.ref (ad 2 0)] (fun U => xM dC dI A ad cnt L cI cS cW q V0 c0 U)) (va_Qi (fun r9 (_ : Unit) => r9 = res) (fun _ t9 => xM dC dI A ad cnt L cI cS cW q V0 c0 t9) A) 0 0 A := by
  refine Met.ofW (cc := cX7_lost) (maxL := 1) (ret := (some .int)) (by decide) rfl ?_
  intro p e s m args below meth cd s₁ B hml hv
  obtain ⟨rfl, hM, hK, hW, hAs⟩ := hv
  have hx := B.exec
  have hb := B.bytes
  have hr := B.returns
  have hts := atoms_spec (ws := wsX7_lost) B.pre
  have hown : s.vm.findClass RX7 = some m.cls := findClass_of_methodNamed B.named
  have hlocks := B.notSynchronized
  have hS : va_S A s.heap s.heap [] := va_S.rf
  have k144 := hts (.fieldLink RX7 144 "StageDesk" "lostCount" "I") (by decide +kernel)
  have inX7 : ∀ w ∈ u_ws RX7 TX7 7, w ∈ wsX7_lost := by decide +kernel
  have hl := lv_entry ([.ref (ad 2 0)]) (n := 1) (Nat.le_of_ble_eq_true rfl)
  rw [lg_entry_eq]
  generalize (lg_sl ([.ref (ad 2 0)]) ++ List.replicate (1 - (lg_sl ([.ref (ad 2 0)])).length) Slot.unset).toArray = ls at hl ⊢
  have hl : lv_has ls 1 [(0, .ref (ad 2 0))] := hl
  unfold fX7_lost at h
  refine lv_aload_n hx hb dX7_lost_0 rfl (lv_at hl 0 rfl) ?_
  refine mm_get (C := RX7) (T := TX7) (N := 7) (ci := 7) hx hb hts inX7 hown hK hM 2 0 xe2 rfl rfl 6 (by decide) k144 (fun _ h9 => h9) rfl dX7_lost_1 ?_
  have e9 : (V0 2 0 6) = res := Option.some.inj h
  subst e9
  exact W.iret (v := (V0 2 0 6)) hx hb hr (fun t9 ht9 hW9 => ⟨⟨_, (), rfl, rfl, xM_of hM hK hW hAs hS.1 ht9 hW9⟩, hS.F ht9⟩) hS.2.2 dX7_lost_4
/-! X7_clock -/
def fX7_clock (L : Nat → Nat → Nat)  (V0 : mM) (c0 : Nat × Nat) : Option (Int32) := some (V0 2 0 4)
set_option maxHeartbeats 4000000 in
set_option maxRecDepth 100000 in
theorem kX7_clock (l : Launch) {dC : Nat → ClassId} {dI : Nat → Nat → Nat} {A : Nat → Prop} {ad : Nat → Nat → Nat} {cnt : Nat} {L : Nat → Nat → Nat} {cI cS cW : ClassId} {q : Nat × Nat} (hsh : xSh cnt L)  (V0 : mM) (c0 : Nat × Nat) {res : Int32} (h : fX7_clock L V0 c0 = some res) : Met l yX7_clock wsX7_clock ({ frames := 0, cells := 0, slots := 0, locals := 0 } : Room) (va_Pc [.ref (ad 2 0)] (fun U => xM dC dI A ad cnt L cI cS cW q V0 c0 U)) (va_Qi (fun r9 (_ : Unit) => r9 = res) (fun _ t9 => xM dC dI A ad cnt L cI cS cW q V0 c0 t9) A) 0 0 A := by
  refine Met.ofW (cc := cX7_clock) (maxL := 1) (ret := (some .int)) (by decide) rfl ?_
  intro p e s m args below meth cd s₁ B hml hv
  obtain ⟨rfl, hM, hK, hW, hAs⟩ := hv
  have hx := B.exec
  have hb := B.bytes
  have hr := B.returns
  have hts := atoms_spec (ws := wsX7_clock) B.pre
  have hown : s.vm.findClass RX7 = some m.cls := findClass_of_methodNamed B.named
  have hlocks := B.notSynchronized
  have hS : va_S A s.heap s.heap [] := va_S.rf
  have k80 := hts (.fieldLink RX7 80 "StageDesk" "now" "I") (by decide +kernel)
  have inX7 : ∀ w ∈ u_ws RX7 TX7 7, w ∈ wsX7_clock := by decide +kernel
  have hl := lv_entry ([.ref (ad 2 0)]) (n := 1) (Nat.le_of_ble_eq_true rfl)
  rw [lg_entry_eq]
  generalize (lg_sl ([.ref (ad 2 0)]) ++ List.replicate (1 - (lg_sl ([.ref (ad 2 0)])).length) Slot.unset).toArray = ls at hl ⊢
  have hl : lv_has ls 1 [(0, .ref (ad 2 0))] := hl
  unfold fX7_clock at h
  refine lv_aload_n hx hb dX7_clock_0 rfl (lv_at hl 0 rfl) ?_
  refine mm_get (C := RX7) (T := TX7) (N := 7) (ci := 7) hx hb hts inX7 hown hK hM 2 0 xe2 rfl rfl 4 (by decide) k80 (fun _ h9 => h9) rfl dX7_clock_1 ?_
  have e9 : (V0 2 0 4) = res := Option.some.inj h
  subst e9
  exact W.iret (v := (V0 2 0 4)) hx hb hr (fun t9 ht9 hW9 => ⟨⟨_, (), rfl, rfl, xM_of hM hK hW hAs hS.1 ht9 hW9⟩, hS.F ht9⟩) hS.2.2 dX7_clock_4
