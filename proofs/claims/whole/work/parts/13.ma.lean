/-! X8_isStage -/
def fX8_isStage  (px1 : Int32) (V0 : mM) : Option (Int32) := if px1 < 0 then (some (0 : Int32)) else (if (V0 0 0 7) ≤ px1 then (some (0 : Int32)) else (some (1 : Int32)))
set_option maxHeartbeats 4000000 in
set_option maxRecDepth 100000 in
theorem kX8_isStage (l : Launch) {dC : Nat → ClassId} {dI : Nat → Nat → Nat} {A : Nat → Prop} {ad : Nat → Nat → Nat} {cI cZ : ClassId}  (px1 : Int32) (V0 : mM) {res : Int32} (h : fX8_isStage px1 V0 = some res) : Met l yX8_isStage wsX8_isStage ({ frames := 0, cells := 0, slots := 0, locals := 0 } : Room) (va_Pc [.ref (ad 0 0), .int px1] (fun U => mR dC dI A ad cI cZ V0 U)) (va_Qi (fun r9 (_ : Unit) => r9 = res) (fun _ t9 => mR dC dI A ad cI cZ V0 t9) A) 0 0 A := by
  refine Met.ofW (cc := cX8_isStage) (maxL := 2) (ret := (some .boolean)) (by decide) rfl ?_
  intro p e s m args below meth cd s₁ B hml hv
  obtain ⟨rfl, hM, hK, hAs⟩ := hv
  have hx := B.exec
  have hb := B.bytes
  have hr := B.returns
  have hts := atoms_spec (ws := wsX8_isStage) B.pre
  have hown : s.vm.findClass RX8 = some m.cls := findClass_of_methodNamed B.named
  have hlocks := B.notSynchronized
  have hS : va_S A s.heap s.heap [] := va_S.rf
  have k136 := hts (.fieldLink RX8 136 "StageDeskModel" "stages" "I") (by decide +kernel)
  have inX8 : ∀ w ∈ u_ws RX8 TX8 48, w ∈ wsX8_isStage := by decide +kernel
  have hl := lv_entry ([.ref (ad 0 0), .int px1]) (n := 2) (Nat.le_of_ble_eq_true rfl)
  rw [lg_entry_eq]
  generalize (lg_sl ([.ref (ad 0 0), .int px1]) ++ List.replicate (2 - (lg_sl ([.ref (ad 0 0), .int px1])).length) Slot.unset).toArray = ls at hl ⊢
  have hl : lv_has ls 2 [(0, .ref (ad 0 0)), (1, .int px1)] := hl
  unfold fX8_isStage at h
  refine lv_iload_n hx hb dX8_isStage_0 rfl (lv_at hl 1 rfl) ?_
  refine lv_if_lt (tgt := 16) hx hb dX8_isStage_1 (by decide) (fun c_1 => ?_) (fun c_1 => ?_)
  · have h := iteT c_1 h
    refine lv_iconst (v := 0) hx hb dX8_isStage_16 (by decide) ?_
    have e9 : (0 : Int32) = res := Option.some.inj h
    subst e9
    exact W.zret (v := (0 : Int32)) (ty := .boolean) hx hb hr rfl (fun t9 ht9 hW9 => ⟨⟨_, (), rfl, rfl, mR_of hM hK hAs hS.1 ht9 hW9⟩, hS.F ht9⟩) hS.2.2 dX8_isStage_17
  · have h := iteF c_1 h
    refine lv_iload_n hx hb dX8_isStage_4 rfl (lv_at hl 1 rfl) ?_
    refine lv_aload_n hx hb dX8_isStage_5 rfl (lv_at hl 0 rfl) ?_
    refine mm_get (C := RX8) (T := TX8) (N := 48) (ci := 8) hx hb hts inX8 hown hK hM 0 0 me0 rfl rfl 7 (by decide) k136 (fun _ h9 => h9) rfl dX8_isStage_6 ?_
    refine lv_icmp_ge (tgt := 16) hx hb dX8_isStage_9 (by decide) (fun c_2 => ?_) (fun c_2 => ?_)
    · have h := iteT c_2 h
      refine lv_iconst (v := 0) hx hb dX8_isStage_16 (by decide) ?_
      have e9 : (0 : Int32) = res := Option.some.inj h
      subst e9
      exact W.zret (v := (0 : Int32)) (ty := .boolean) hx hb hr rfl (fun t9 ht9 hW9 => ⟨⟨_, (), rfl, rfl, mR_of hM hK hAs hS.1 ht9 hW9⟩, hS.F ht9⟩) hS.2.2 dX8_isStage_17
    · have h := iteF c_2 h
      refine lv_iconst (v := 1) hx hb dX8_isStage_12 (by decide) ?_
      refine lv_goto (tgt := 17) hx hb dX8_isStage_13 (by decide) ?_
      have e9 : (1 : Int32) = res := Option.some.inj h
      subst e9
      exact W.zret (v := (1 : Int32)) (ty := .boolean) hx hb hr rfl (fun t9 ht9 hW9 => ⟨⟨_, (), rfl, rfl, mR_of hM hK hAs hS.1 ht9 hW9⟩, hS.F ht9⟩) hS.2.2 dX8_isStage_17
/-! X8_in -/
def fX8_in  (px0 : Int32) (px1 : Int32) (px2 : Int32) (V0 : mM) : Option (Int32) := if px0 < px1 then (some (0 : Int32)) else (if px2 < px0 then (some (0 : Int32)) else (some (1 : Int32)))
set_option maxHeartbeats 4000000 in
set_option maxRecDepth 100000 in
theorem kX8_in (l : Launch) {dC : Nat → ClassId} {dI : Nat → Nat → Nat} {A : Nat → Prop} {ad : Nat → Nat → Nat} {cI cZ : ClassId}  (px0 : Int32) (px1 : Int32) (px2 : Int32) (V0 : mM) {res : Int32} (h : fX8_in px0 px1 px2 V0 = some res) : Met l yX8_in wsX8_in ({ frames := 0, cells := 0, slots := 0, locals := 0 } : Room) (va_Pc [.int px0, .int px1, .int px2] (fun U => mR dC dI A ad cI cZ V0 U)) (va_Qi (fun r9 (_ : Unit) => r9 = res) (fun _ t9 => mR dC dI A ad cI cZ V0 t9) A) 0 0 A := by
  refine Met.ofW (cc := cX8_in) (maxL := 3) (ret := (some .boolean)) (by decide) rfl ?_
  intro p e s m args below meth cd s₁ B hml hv
  obtain ⟨rfl, hM, hK, hAs⟩ := hv
  have hx := B.exec
  have hb := B.bytes
  have hr := B.returns
  have hts := atoms_spec (ws := wsX8_in) B.pre
  have hown : s.vm.findClass RX8 = some m.cls := findClass_of_methodNamed B.named
  have hlocks := B.notSynchronized
  have hS : va_S A s.heap s.heap [] := va_S.rf
  have hl := lv_entry ([.int px0, .int px1, .int px2]) (n := 3) (Nat.le_of_ble_eq_true rfl)
  rw [lg_entry_eq]
  generalize (lg_sl ([.int px0, .int px1, .int px2]) ++ List.replicate (3 - (lg_sl ([.int px0, .int px1, .int px2])).length) Slot.unset).toArray = ls at hl ⊢
  have hl : lv_has ls 3 [(0, .int px0), (1, .int px1), (2, .int px2)] := hl
  unfold fX8_in at h
  refine lv_iload_n hx hb dX8_in_0 rfl (lv_at hl 0 rfl) ?_
  refine lv_iload_n hx hb dX8_in_1 rfl (lv_at hl 1 rfl) ?_
  refine lv_icmp_lt (tgt := 14) hx hb dX8_in_2 (by decide) (fun c_1 => ?_) (fun c_1 => ?_)
  · have h := iteT c_1 h
    refine lv_iconst (v := 0) hx hb dX8_in_14 (by decide) ?_
    have e9 : (0 : Int32) = res := Option.some.inj h
    subst e9
    exact W.zret (v := (0 : Int32)) (ty := .boolean) hx hb hr rfl (fun t9 ht9 hW9 => ⟨⟨_, (), rfl, rfl, mR_of hM hK hAs hS.1 ht9 hW9⟩, hS.F ht9⟩) hS.2.2 dX8_in_15
  · have h := iteF c_1 h
    refine lv_iload_n hx hb dX8_in_5 rfl (lv_at hl 0 rfl) ?_
    refine lv_iload_n hx hb dX8_in_6 rfl (lv_at hl 2 rfl) ?_
    refine lv_icmp_gt (tgt := 14) hx hb dX8_in_7 (by decide) (fun c_2 => ?_) (fun c_2 => ?_)
    · have h := iteT c_2 h
      refine lv_iconst (v := 0) hx hb dX8_in_14 (by decide) ?_
      have e9 : (0 : Int32) = res := Option.some.inj h
      subst e9
      exact W.zret (v := (0 : Int32)) (ty := .boolean) hx hb hr rfl (fun t9 ht9 hW9 => ⟨⟨_, (), rfl, rfl, mR_of hM hK hAs hS.1 ht9 hW9⟩, hS.F ht9⟩) hS.2.2 dX8_in_15
    · have h := iteF c_2 h
      refine lv_iconst (v := 1) hx hb dX8_in_10 (by decide) ?_
      refine lv_goto (tgt := 15) hx hb dX8_in_11 (by decide) ?_
      have e9 : (1 : Int32) = res := Option.some.inj h
      subst e9
      exact W.zret (v := (1 : Int32)) (ty := .boolean) hx hb hr rfl (fun t9 ht9 hW9 => ⟨⟨_, (), rfl, rfl, mR_of hM hK hAs hS.1 ht9 hW9⟩, hS.F ht9⟩) hS.2.2 dX8_in_15
/-! X8_stage -/
def fX8_stage  (px1 : Int32) (px2 : Int32) (px3 : Int32) (px4 : Int32) (V0 : mM) : Option (Int32 × mM) := (fX8_in px1 (0 : Int32) (4 : Int32) V0).bind fun u_1 => if u_1 = 0 then (some ((-1 : Int32), V0)) else ((fX8_in px2 (1 : Int32) (32 : Int32) V0).bind fun u_3 => if u_3 = 0 then (some ((-1 : Int32), V0)) else ((fX8_in px3 (1 : Int32) (4 : Int32) V0).bind fun u_5 => if u_5 = 0 then (some ((-1 : Int32), V0)) else ((fX8_in px4 (0 : Int32) (9 : Int32) V0).bind fun u_7 => if u_7 = 0 then (some ((-1 : Int32), V0)) else (if (V0 0 0 7) = (8 : Int32) then (some ((-2 : Int32), V0)) else (if bin (V0 0 0 7) 8 = true then (if bin (V0 0 0 7) 8 = true then (if bin (V0 0 0 7) 8 = true then (if bin (V0 0 0 7) 8 = true then (if bin (V0 0 0 7) 8 = true then (if bin (V0 0 0 7) 8 = true then (if bin (V0 0 0 7) 8 = true then (if bin (V0 0 0 7) 8 = true then (if bin (V0 0 0 7) 8 = true then (if bin (V0 0 0 7) 8 = true then (if bin (V0 0 0 7) 8 = true then (some ((V0 0 0 7), (mu (mu (mu (mu (mu (mu (mu (mu (mu (mu (mu (mu V0 9 0 ((V0 0 0 7)).toNatClampNeg px1) 10 0 ((V0 0 0 7)).toNatClampNeg (-1 : Int32)) 11 0 ((V0 0 0 7)).toNatClampNeg (-1 : Int32)) 12 0 ((V0 0 0 7)).toNatClampNeg px2) 14 0 ((V0 0 0 7)).toNatClampNeg (100 : Int32)) 15 0 ((V0 0 0 7)).toNatClampNeg (100 : Int32)) 16 0 ((V0 0 0 7)).toNatClampNeg (100 : Int32)) 19 0 ((V0 0 0 7)).toNatClampNeg px3) 21 0 ((V0 0 0 7)).toNatClampNeg px4) 20 0 ((V0 0 0 7)).toNatClampNeg (1 : Int32)) 18 0 ((V0 0 0 7)).toNatClampNeg (1 : Int32)) 0 0 7 (((mu (mu (mu (mu (mu (mu (mu (mu (mu (mu (mu V0 9 0 ((V0 0 0 7)).toNatClampNeg px1) 10 0 ((V0 0 0 7)).toNatClampNeg (-1 : Int32)) 11 0 ((V0 0 0 7)).toNatClampNeg (-1 : Int32)) 12 0 ((V0 0 0 7)).toNatClampNeg px2) 14 0 ((V0 0 0 7)).toNatClampNeg (100 : Int32)) 15 0 ((V0 0 0 7)).toNatClampNeg (100 : Int32)) 16 0 ((V0 0 0 7)).toNatClampNeg (100 : Int32)) 19 0 ((V0 0 0 7)).toNatClampNeg px3) 21 0 ((V0 0 0 7)).toNatClampNeg px4) 20 0 ((V0 0 0 7)).toNatClampNeg (1 : Int32)) 18 0 ((V0 0 0 7)).toNatClampNeg (1 : Int32)) 0 0 7) + (1 : Int32))))) else none) else none) else none) else none) else none) else none) else none) else none) else none) else none) else none)))))
set_option maxHeartbeats 4000000 in
set_option maxRecDepth 100000 in
theorem kX8_stage (l : Launch) {dC : Nat → ClassId} {dI : Nat → Nat → Nat} {A : Nat → Prop} {ad : Nat → Nat → Nat} {cI cZ : ClassId}  (px1 : Int32) (px2 : Int32) (px3 : Int32) (px4 : Int32) (V0 : mM) {res : Int32 × mM} (h : fX8_stage px1 px2 px3 px4 V0 = some res) : Met l yX8_stage wsX8_stage ({ frames := 1, cells := 0, slots := 0, locals := 22 } : Room) (va_Pc [.ref (ad 0 0), .int px1, .int px2, .int px3, .int px4] (fun U => mR dC dI A ad cI cZ V0 U)) (va_Qi (fun r9 (_ : Unit) => r9 = res.1) (fun _ t9 => mR dC dI A ad cI cZ res.2 t9) A) 0 0 A := by
  refine Met.ofW (cc := cX8_stage) (maxL := 6) (ret := (some .int)) (by decide) rfl ?_
  intro p e s m args below meth cd s₁ B hml hv
  obtain ⟨rfl, hM, hK, hAs⟩ := hv
  have hx := B.exec
  have hb := B.bytes
  have hr := B.returns
  have hts := atoms_spec (ws := wsX8_stage) B.pre
  have hown : s.vm.findClass RX8 = some m.cls := findClass_of_methodNamed B.named
  have hlocks := B.notSynchronized
  have hS : va_S A s.heap s.heap [] := va_S.rf
  have k136 := hts (.fieldLink RX8 136 "StageDeskModel" "stages" "I") (by decide +kernel)
  have k21 := hts (.fieldLink RX8 21 "StageDeskModel" "sorts" "[I") (by decide +kernel)
  have k24 := hts (.fieldLink RX8 24 "StageDeskModel" "first" "[I") (by decide +kernel)
  have k27 := hts (.fieldLink RX8 27 "StageDeskModel" "second" "[I") (by decide +kernel)
  have k30 := hts (.fieldLink RX8 30 "StageDeskModel" "bounds" "[I") (by decide +kernel)
  have k36 := hts (.fieldLink RX8 36 "StageDeskModel" "tokens" "[I") (by decide +kernel)
  have k39 := hts (.fieldLink RX8 39 "StageDeskModel" "depths" "[I") (by decide +kernel)
  have k42 := hts (.fieldLink RX8 42 "StageDeskModel" "rates" "[I") (by decide +kernel)
  have k51 := hts (.fieldLink RX8 51 "StageDeskModel" "caps" "[I") (by decide +kernel)
  have k57 := hts (.fieldLink RX8 57 "StageDeskModel" "costs" "[I") (by decide +kernel)
  have k54 := hts (.fieldLink RX8 54 "StageDeskModel" "batches" "[I") (by decide +kernel)
  have k48 := hts (.fieldLink RX8 48 "StageDeskModel" "workers" "[I") (by decide +kernel)
  have inX8 : ∀ w ∈ u_ws RX8 TX8 48, w ∈ wsX8_stage := by decide +kernel
  have hl := lv_entry ([.ref (ad 0 0), .int px1, .int px2, .int px3, .int px4]) (n := 6) (Nat.le_of_ble_eq_true rfl)
  rw [lg_entry_eq]
  generalize (lg_sl ([.ref (ad 0 0), .int px1, .int px2, .int px3, .int px4]) ++ List.replicate (6 - (lg_sl ([.ref (ad 0 0), .int px1, .int px2, .int px3, .int px4])).length) Slot.unset).toArray = ls at hl ⊢
  have hl : lv_has ls 6 [(0, .ref (ad 0 0)), (1, .int px1), (2, .int px2), (3, .int px3), (4, .int px4)] := hl
  unfold fX8_stage at h
  refine lv_iload_n hx hb dX8_stage_0 rfl (lv_at hl 1 rfl) ?_
  refine lv_iconst (v := 0) hx hb dX8_stage_1 (by decide) ?_
  refine lv_iconst (v := 4) hx hb dX8_stage_2 (by decide) ?_
  obtain ⟨u_1, hu_1, h⟩ := bindS h
  refine va_calli (va_runS (As := [.int px1, .int (0 : Int32), .int (4 : Int32)]) (rest := []) ⟨hx, hb, hml, hown, hts⟩ (kX8_in l px1 (0 : Int32) (4 : Int32) V0 hu_1) (va_cwS 3 hts gX8_stage_X8_in rfl rfl rfl (by decide +kernel) ⟨Nat.le_of_ble_eq_true rfl, Nat.le_of_ble_eq_true rfl⟩) ⟨fun a U g9 mk w9 => ⟨w9.1, mR_calling w9.2⟩, fun U hU hWm => ⟨rfl, mR_of hM hK hAs hS.1 hU hWm⟩⟩ rfl rfl hl.1 rfl (lv_room (Nat.le_of_ble_eq_true rfl)) dX8_stage_3 ⟨Nat.le_of_ble_eq_true rfl, Nat.le_of_ble_eq_true rfl⟩) hS (fun _ _ h9 => h9) (fun _ h9 => h9) (fun r9 u9 t9 H locs ht9 _ hw9 hB9 _ _ hS => ?_)
  rw [show r9 = u_1 from hw9]
  obtain ⟨hM, -, -⟩ := hB9
  rw [ht9] at hM
  refine lv_if_eq (tgt := 39) hx hb dX8_stage_6 (by decide) (fun c_2 => ?_) (fun c_2 => ?_)
  · have h := iteT c_2 h
    refine lv_iconst (v := (-1)) hx hb dX8_stage_39 (by decide) ?_
    have e9 : ((-1 : Int32), V0) = res := Option.some.inj h
    subst e9
    exact W.iret (v := (-1 : Int32)) hx hb hr (fun t9 ht9 hW9 => ⟨⟨_, (), rfl, rfl, mR_of hM hK hAs hS.1 ht9 hW9⟩, hS.F ht9⟩) hS.2.2 dX8_stage_40
  · have h := iteF c_2 h
    refine lv_iload_n hx hb dX8_stage_9 rfl (lv_at hl 2 rfl) ?_
    refine lv_iconst (v := 1) hx hb dX8_stage_10 (by decide) ?_
    refine lv_bipush (v := 32) hx hb dX8_stage_11 (by decide) ?_
    obtain ⟨u_3, hu_3, h⟩ := bindS h
    refine va_calli (va_runS (As := [.int px2, .int (1 : Int32), .int (32 : Int32)]) (rest := []) ⟨hx, hb, hml, hown, hts⟩ (kX8_in l px2 (1 : Int32) (32 : Int32) V0 hu_3) (va_cwS 3 hts gX8_stage_X8_in rfl rfl rfl (by decide +kernel) ⟨Nat.le_of_ble_eq_true rfl, Nat.le_of_ble_eq_true rfl⟩) ⟨fun a U g9 mk w9 => ⟨w9.1, mR_calling w9.2⟩, fun U hU hWm => ⟨rfl, mR_of hM hK hAs hS.1 hU hWm⟩⟩ rfl rfl hl.1 rfl (lv_room (Nat.le_of_ble_eq_true rfl)) dX8_stage_13 ⟨Nat.le_of_ble_eq_true rfl, Nat.le_of_ble_eq_true rfl⟩) hS (fun _ _ h9 => h9) (fun _ h9 => h9) (fun r9 u9 t9 H locs ht9 _ hw9 hB9 _ _ hS => ?_)
    rw [show r9 = u_3 from hw9]
    obtain ⟨hM, -, -⟩ := hB9
    rw [ht9] at hM
    refine lv_if_eq (tgt := 39) hx hb dX8_stage_16 (by decide) (fun c_4 => ?_) (fun c_4 => ?_)
    · have h := iteT c_4 h
      refine lv_iconst (v := (-1)) hx hb dX8_stage_39 (by decide) ?_
      have e9 : ((-1 : Int32), V0) = res := Option.some.inj h
      subst e9
      exact W.iret (v := (-1 : Int32)) hx hb hr (fun t9 ht9 hW9 => ⟨⟨_, (), rfl, rfl, mR_of hM hK hAs hS.1 ht9 hW9⟩, hS.F ht9⟩) hS.2.2 dX8_stage_40
    · have h := iteF c_4 h
      refine lv_iload_n hx hb dX8_stage_19 rfl (lv_at hl 3 rfl) ?_
      refine lv_iconst (v := 1) hx hb dX8_stage_20 (by decide) ?_
      refine lv_iconst (v := 4) hx hb dX8_stage_21 (by decide) ?_
      obtain ⟨u_5, hu_5, h⟩ := bindS h
      refine va_calli (va_runS (As := [.int px3, .int (1 : Int32), .int (4 : Int32)]) (rest := []) ⟨hx, hb, hml, hown, hts⟩ (kX8_in l px3 (1 : Int32) (4 : Int32) V0 hu_5) (va_cwS 3 hts gX8_stage_X8_in rfl rfl rfl (by decide +kernel) ⟨Nat.le_of_ble_eq_true rfl, Nat.le_of_ble_eq_true rfl⟩) ⟨fun a U g9 mk w9 => ⟨w9.1, mR_calling w9.2⟩, fun U hU hWm => ⟨rfl, mR_of hM hK hAs hS.1 hU hWm⟩⟩ rfl rfl hl.1 rfl (lv_room (Nat.le_of_ble_eq_true rfl)) dX8_stage_22 ⟨Nat.le_of_ble_eq_true rfl, Nat.le_of_ble_eq_true rfl⟩) hS (fun _ _ h9 => h9) (fun _ h9 => h9) (fun r9 u9 t9 H locs ht9 _ hw9 hB9 _ _ hS => ?_)
      rw [show r9 = u_5 from hw9]
      obtain ⟨hM, -, -⟩ := hB9
      rw [ht9] at hM
      refine lv_if_eq (tgt := 39) hx hb dX8_stage_25 (by decide) (fun c_6 => ?_) (fun c_6 => ?_)
      · have h := iteT c_6 h
        refine lv_iconst (v := (-1)) hx hb dX8_stage_39 (by decide) ?_
        have e9 : ((-1 : Int32), V0) = res := Option.some.inj h
        subst e9
        exact W.iret (v := (-1 : Int32)) hx hb hr (fun t9 ht9 hW9 => ⟨⟨_, (), rfl, rfl, mR_of hM hK hAs hS.1 ht9 hW9⟩, hS.F ht9⟩) hS.2.2 dX8_stage_40
      · have h := iteF c_6 h
        refine lv_iload hx hb dX8_stage_28 (lv_at hl 4 rfl) ?_
        refine lv_iconst (v := 0) hx hb dX8_stage_30 (by decide) ?_
        refine lv_bipush (v := 9) hx hb dX8_stage_31 (by decide) ?_
        obtain ⟨u_7, hu_7, h⟩ := bindS h
        refine va_calli (va_runS (As := [.int px4, .int (0 : Int32), .int (9 : Int32)]) (rest := []) ⟨hx, hb, hml, hown, hts⟩ (kX8_in l px4 (0 : Int32) (9 : Int32) V0 hu_7) (va_cwS 3 hts gX8_stage_X8_in rfl rfl rfl (by decide +kernel) ⟨Nat.le_of_ble_eq_true rfl, Nat.le_of_ble_eq_true rfl⟩) ⟨fun a U g9 mk w9 => ⟨w9.1, mR_calling w9.2⟩, fun U hU hWm => ⟨rfl, mR_of hM hK hAs hS.1 hU hWm⟩⟩ rfl rfl hl.1 rfl (lv_room (Nat.le_of_ble_eq_true rfl)) dX8_stage_33 ⟨Nat.le_of_ble_eq_true rfl, Nat.le_of_ble_eq_true rfl⟩) hS (fun _ _ h9 => h9) (fun _ h9 => h9) (fun r9 u9 t9 H locs ht9 _ hw9 hB9 _ _ hS => ?_)
        rw [show r9 = u_7 from hw9]
        obtain ⟨hM, -, -⟩ := hB9
        rw [ht9] at hM
        refine lv_if_ne (tgt := 41) hx hb dX8_stage_36 (by decide) (fun c_8 => ?_) (fun c_8 => ?_)
        · have h := iteF c_8 h
          refine lv_aload_n hx hb dX8_stage_41 rfl (lv_at hl 0 rfl) ?_
          refine mm_get (C := RX8) (T := TX8) (N := 48) (ci := 8) hx hb hts inX8 hown hK hM 0 0 me0 rfl rfl 7 (by decide) k136 (fun _ h9 => h9) rfl dX8_stage_42 ?_
          refine lv_bipush (v := 8) hx hb dX8_stage_45 (by decide) ?_
          refine lv_icmp_ne (tgt := 53) hx hb dX8_stage_47 (by decide) (fun c_9 => ?_) (fun c_9 => ?_)
          · have h := iteF c_9 h
            refine lv_aload_n hx hb dX8_stage_53 rfl (lv_at hl 0 rfl) ?_
            refine mm_get (C := RX8) (T := TX8) (N := 48) (ci := 8) hx hb hts inX8 hown hK hM 0 0 me0 rfl rfl 7 (by decide) k136 (fun _ h9 => h9) rfl dX8_stage_54 ?_
            refine lv_istore (lv' := [(5, .int (V0 0 0 7)), (0, .ref (ad 0 0)), (1, .int px1), (2, .int px2), (3, .int px3), (4, .int px4)]) hx hb dX8_stage_57 hl (by decide) rfl (fun ls hl => ?_)
            refine lv_aload_n hx hb dX8_stage_59 rfl (lv_at hl 1 rfl) ?_
            refine mm_get (C := RX8) (T := TX8) (N := 48) (ci := 8) hx hb hts inX8 hown hK hM 0 0 me0 rfl rfl 8 (by decide) k21 (fun _ h9 => h9) rfl dX8_stage_60 ?_
            refine lv_iload hx hb dX8_stage_63 (lv_at hl 0 rfl) ?_
            refine lv_iload_n hx hb dX8_stage_65 rfl (lv_at hl 2 rfl) ?_
            obtain ⟨b_10, h⟩ := iteS h
            refine mm_iast hx hb hK hM hS 9 0 (me (by decide)) 0 rfl rfl (bin_in b_10) rfl dX8_stage_66 (fun H locs hM hS => ?_)
            refine lv_aload_n hx hb dX8_stage_67 rfl (lv_at hl 1 rfl) ?_
            refine mm_get (C := RX8) (T := TX8) (N := 48) (ci := 8) hx hb hts inX8 hown hK hM 0 0 me0 rfl rfl 9 (by decide) k24 (fun _ h9 => h9) rfl dX8_stage_68 ?_
            refine lv_iload hx hb dX8_stage_71 (lv_at hl 0 rfl) ?_
            refine lv_iconst (v := (-1)) hx hb dX8_stage_73 (by decide) ?_
            obtain ⟨b_11, h⟩ := iteS h
            refine mm_iast hx hb hK hM hS 10 0 (me (by decide)) 0 rfl rfl (bin_in b_11) rfl dX8_stage_74 (fun H locs hM hS => ?_)
            refine lv_aload_n hx hb dX8_stage_75 rfl (lv_at hl 1 rfl) ?_
            refine mm_get (C := RX8) (T := TX8) (N := 48) (ci := 8) hx hb hts inX8 hown hK hM 0 0 me0 rfl rfl 10 (by decide) k27 (fun _ h9 => h9) rfl dX8_stage_76 ?_
            refine lv_iload hx hb dX8_stage_79 (lv_at hl 0 rfl) ?_
            refine lv_iconst (v := (-1)) hx hb dX8_stage_81 (by decide) ?_
            obtain ⟨b_12, h⟩ := iteS h
            refine mm_iast hx hb hK hM hS 11 0 (me (by decide)) 0 rfl rfl (bin_in b_12) rfl dX8_stage_82 (fun H locs hM hS => ?_)
            refine lv_aload_n hx hb dX8_stage_83 rfl (lv_at hl 1 rfl) ?_
            refine mm_get (C := RX8) (T := TX8) (N := 48) (ci := 8) hx hb hts inX8 hown hK hM 0 0 me0 rfl rfl 11 (by decide) k30 (fun _ h9 => h9) rfl dX8_stage_84 ?_
            refine lv_iload hx hb dX8_stage_87 (lv_at hl 0 rfl) ?_
            refine lv_iload_n hx hb dX8_stage_89 rfl (lv_at hl 3 rfl) ?_
            obtain ⟨b_13, h⟩ := iteS h
            refine mm_iast hx hb hK hM hS 12 0 (me (by decide)) 0 rfl rfl (bin_in b_13) rfl dX8_stage_90 (fun H locs hM hS => ?_)
            refine lv_aload_n hx hb dX8_stage_91 rfl (lv_at hl 1 rfl) ?_
            refine mm_get (C := RX8) (T := TX8) (N := 48) (ci := 8) hx hb hts inX8 hown hK hM 0 0 me0 rfl rfl 13 (by decide) k36 (fun _ h9 => h9) rfl dX8_stage_92 ?_
            refine lv_iload hx hb dX8_stage_95 (lv_at hl 0 rfl) ?_
            refine lv_bipush (v := 100) hx hb dX8_stage_97 (by decide) ?_
            obtain ⟨b_14, h⟩ := iteS h
            refine mm_iast hx hb hK hM hS 14 0 (me (by decide)) 0 rfl rfl (bin_in b_14) rfl dX8_stage_99 (fun H locs hM hS => ?_)
            refine lv_aload_n hx hb dX8_stage_100 rfl (lv_at hl 1 rfl) ?_
            refine mm_get (C := RX8) (T := TX8) (N := 48) (ci := 8) hx hb hts inX8 hown hK hM 0 0 me0 rfl rfl 14 (by decide) k39 (fun _ h9 => h9) rfl dX8_stage_101 ?_
            refine lv_iload hx hb dX8_stage_104 (lv_at hl 0 rfl) ?_
            refine lv_bipush (v := 100) hx hb dX8_stage_106 (by decide) ?_
            obtain ⟨b_15, h⟩ := iteS h
            refine mm_iast hx hb hK hM hS 15 0 (me (by decide)) 0 rfl rfl (bin_in b_15) rfl dX8_stage_108 (fun H locs hM hS => ?_)
            refine lv_aload_n hx hb dX8_stage_109 rfl (lv_at hl 1 rfl) ?_
            refine mm_get (C := RX8) (T := TX8) (N := 48) (ci := 8) hx hb hts inX8 hown hK hM 0 0 me0 rfl rfl 15 (by decide) k42 (fun _ h9 => h9) rfl dX8_stage_110 ?_
            refine lv_iload hx hb dX8_stage_113 (lv_at hl 0 rfl) ?_
            refine lv_bipush (v := 100) hx hb dX8_stage_115 (by decide) ?_
            obtain ⟨b_16, h⟩ := iteS h
            refine mm_iast hx hb hK hM hS 16 0 (me (by decide)) 0 rfl rfl (bin_in b_16) rfl dX8_stage_117 (fun H locs hM hS => ?_)
            refine lv_aload_n hx hb dX8_stage_118 rfl (lv_at hl 1 rfl) ?_
            refine mm_get (C := RX8) (T := TX8) (N := 48) (ci := 8) hx hb hts inX8 hown hK hM 0 0 me0 rfl rfl 18 (by decide) k51 (fun _ h9 => h9) rfl dX8_stage_119 ?_
            refine lv_iload hx hb dX8_stage_122 (lv_at hl 0 rfl) ?_
            refine lv_iload_n hx hb dX8_stage_124 rfl (lv_at hl 4 rfl) ?_
            obtain ⟨b_17, h⟩ := iteS h
            refine mm_iast hx hb hK hM hS 19 0 (me (by decide)) 0 rfl rfl (bin_in b_17) rfl dX8_stage_125 (fun H locs hM hS => ?_)
            refine lv_aload_n hx hb dX8_stage_126 rfl (lv_at hl 1 rfl) ?_
            refine mm_get (C := RX8) (T := TX8) (N := 48) (ci := 8) hx hb hts inX8 hown hK hM 0 0 me0 rfl rfl 20 (by decide) k57 (fun _ h9 => h9) rfl dX8_stage_127 ?_
            refine lv_iload hx hb dX8_stage_130 (lv_at hl 0 rfl) ?_
            refine lv_iload hx hb dX8_stage_132 (lv_at hl 5 rfl) ?_
            obtain ⟨b_18, h⟩ := iteS h
            refine mm_iast hx hb hK hM hS 21 0 (me (by decide)) 0 rfl rfl (bin_in b_18) rfl dX8_stage_134 (fun H locs hM hS => ?_)
            refine lv_aload_n hx hb dX8_stage_135 rfl (lv_at hl 1 rfl) ?_
            refine mm_get (C := RX8) (T := TX8) (N := 48) (ci := 8) hx hb hts inX8 hown hK hM 0 0 me0 rfl rfl 19 (by decide) k54 (fun _ h9 => h9) rfl dX8_stage_136 ?_
            refine lv_iload hx hb dX8_stage_139 (lv_at hl 0 rfl) ?_
            refine lv_iconst (v := 1) hx hb dX8_stage_141 (by decide) ?_
            obtain ⟨b_19, h⟩ := iteS h
            refine mm_iast hx hb hK hM hS 20 0 (me (by decide)) 0 rfl rfl (bin_in b_19) rfl dX8_stage_142 (fun H locs hM hS => ?_)
            refine lv_aload_n hx hb dX8_stage_143 rfl (lv_at hl 1 rfl) ?_
            refine mm_get (C := RX8) (T := TX8) (N := 48) (ci := 8) hx hb hts inX8 hown hK hM 0 0 me0 rfl rfl 17 (by decide) k48 (fun _ h9 => h9) rfl dX8_stage_144 ?_
            refine lv_iload hx hb dX8_stage_147 (lv_at hl 0 rfl) ?_
            refine lv_iconst (v := 1) hx hb dX8_stage_149 (by decide) ?_
            obtain ⟨b_20, h⟩ := iteS h
            refine mm_iast hx hb hK hM hS 18 0 (me (by decide)) 0 rfl rfl (bin_in b_20) rfl dX8_stage_150 (fun H locs hM hS => ?_)
            refine lv_aload_n hx hb dX8_stage_151 rfl (lv_at hl 1 rfl) ?_
            refine lv_dup hx hb dX8_stage_152 rfl ?_
            refine mm_get (C := RX8) (T := TX8) (N := 48) (ci := 8) hx hb hts inX8 hown hK hM 0 0 me0 rfl rfl 7 (by decide) k136 (fun _ h9 => h9) rfl dX8_stage_153 ?_
            refine lv_iconst (v := 1) hx hb dX8_stage_156 (by decide) ?_
            refine lv_iadd hx hb dX8_stage_157 ?_
            refine mm_put (C := RX8) (T := TX8) (N := 48) (ci := 8) (ty := .int) hx hb hts inX8 tyX8 tyX8_ok nmX8 hown hK hM hS 0 0 me0 rfl rfl 7 (by decide) k136 (fun _ h9 => h9) rfl (by decide +kernel) rfl rfl (Nat.le_of_ble_eq_true rfl) (((mu (mu (mu (mu (mu (mu (mu (mu (mu (mu (mu V0 9 0 ((V0 0 0 7)).toNatClampNeg px1) 10 0 ((V0 0 0 7)).toNatClampNeg (-1 : Int32)) 11 0 ((V0 0 0 7)).toNatClampNeg (-1 : Int32)) 12 0 ((V0 0 0 7)).toNatClampNeg px2) 14 0 ((V0 0 0 7)).toNatClampNeg (100 : Int32)) 15 0 ((V0 0 0 7)).toNatClampNeg (100 : Int32)) 16 0 ((V0 0 0 7)).toNatClampNeg (100 : Int32)) 19 0 ((V0 0 0 7)).toNatClampNeg px3) 21 0 ((V0 0 0 7)).toNatClampNeg px4) 20 0 ((V0 0 0 7)).toNatClampNeg (1 : Int32)) 18 0 ((V0 0 0 7)).toNatClampNeg (1 : Int32)) 0 0 7) + (1 : Int32)) rfl dX8_stage_158 (fun H locs hM hS => ?_)
            refine lv_iload hx hb dX8_stage_161 (lv_at hl 0 rfl) ?_
            have e9 : ((V0 0 0 7), (mu (mu (mu (mu (mu (mu (mu (mu (mu (mu (mu (mu V0 9 0 ((V0 0 0 7)).toNatClampNeg px1) 10 0 ((V0 0 0 7)).toNatClampNeg (-1 : Int32)) 11 0 ((V0 0 0 7)).toNatClampNeg (-1 : Int32)) 12 0 ((V0 0 0 7)).toNatClampNeg px2) 14 0 ((V0 0 0 7)).toNatClampNeg (100 : Int32)) 15 0 ((V0 0 0 7)).toNatClampNeg (100 : Int32)) 16 0 ((V0 0 0 7)).toNatClampNeg (100 : Int32)) 19 0 ((V0 0 0 7)).toNatClampNeg px3) 21 0 ((V0 0 0 7)).toNatClampNeg px4) 20 0 ((V0 0 0 7)).toNatClampNeg (1 : Int32)) 18 0 ((V0 0 0 7)).toNatClampNeg (1 : Int32)) 0 0 7 (((mu (mu (mu (mu (mu (mu (mu (mu (mu (mu (mu V0 9 0 ((V0 0 0 7)).toNatClampNeg px1) 10 0 ((V0 0 0 7)).toNatClampNeg (-1 : Int32)) 11 0 ((V0 0 0 7)).toNatClampNeg (-1 : Int32)) 12 0 ((V0 0 0 7)).toNatClampNeg px2) 14 0 ((V0 0 0 7)).toNatClampNeg (100 : Int32)) 15 0 ((V0 0 0 7)).toNatClampNeg (100 : Int32)) 16 0 ((V0 0 0 7)).toNatClampNeg (100 : Int32)) 19 0 ((V0 0 0 7)).toNatClampNeg px3) 21 0 ((V0 0 0 7)).toNatClampNeg px4) 20 0 ((V0 0 0 7)).toNatClampNeg (1 : Int32)) 18 0 ((V0 0 0 7)).toNatClampNeg (1 : Int32)) 0 0 7) + (1 : Int32)))) = res := Option.some.inj h
            subst e9
            exact W.iret (v := (V0 0 0 7)) hx hb hr (fun t9 ht9 hW9 => ⟨⟨_, (), rfl, rfl, mR_of hM hK hAs hS.1 ht9 hW9⟩, hS.F ht9⟩) hS.2.2 dX8_stage_163
          · have h := iteT c_9 h
            refine lv_bipush (v := (-2)) hx hb dX8_stage_50 (by decide) ?_
            have e9 : ((-2 : Int32), V0) = res := Option.some.inj h
            subst e9
            exact W.iret (v := (-2 : Int32)) hx hb hr (fun t9 ht9 hW9 => ⟨⟨_, (), rfl, rfl, mR_of hM hK hAs hS.1 ht9 hW9⟩, hS.F ht9⟩) hS.2.2 dX8_stage_52
        · have h := iteT c_8 h
          refine lv_iconst (v := (-1)) hx hb dX8_stage_39 (by decide) ?_
          have e9 : ((-1 : Int32), V0) = res := Option.some.inj h
          subst e9
          exact W.iret (v := (-1 : Int32)) hx hb hr (fun t9 ht9 hW9 => ⟨⟨_, (), rfl, rfl, mR_of hM hK hAs hS.1 ht9 hW9⟩, hS.F ht9⟩) hS.2.2 dX8_stage_40
/-! X8_targets -/
def jnX8_targets_21   (x1 : Int32) (x2 : Int32) (x3 : Int32) (V : mM) : Option (Int32 × mM) := if x3 = (-1 : Int32) then (if bin x1 8 = true then (if bin x1 8 = true then (some ((1 : Int32), (mu (mu V 10 0 (x1).toNatClampNeg x2) 11 0 (x1).toNatClampNeg x3))) else none) else none) else ((fX8_isStage x3 V).bind fun u_4 => if u_4 = 0 then (some ((-1 : Int32), V)) else (if bin x1 8 = true then (if bin x1 8 = true then (some ((1 : Int32), (mu (mu V 10 0 (x1).toNatClampNeg x2) 11 0 (x1).toNatClampNeg x3))) else none) else none))
def fX8_targets  (px1 : Int32) (px2 : Int32) (px3 : Int32) (V0 : mM) : Option (Int32 × mM) := (fX8_isStage px1 V0).bind fun u_8 => if u_8 = 0 then (some ((-1 : Int32), V0)) else (if px2 = (-1 : Int32) then (jnX8_targets_21 px1 px2 px3 V0) else ((fX8_isStage px2 V0).bind fun u_11 => if u_11 = 0 then (some ((-1 : Int32), V0)) else (jnX8_targets_21 px1 px2 px3 V0)))
set_option maxHeartbeats 4000000 in
set_option maxRecDepth 100000 in
theorem kX8_targets (l : Launch) {dC : Nat → ClassId} {dI : Nat → Nat → Nat} {A : Nat → Prop} {ad : Nat → Nat → Nat} {cI cZ : ClassId}  (px1 : Int32) (px2 : Int32) (px3 : Int32) (V0 : mM) {res : Int32 × mM} (h : fX8_targets px1 px2 px3 V0 = some res) : Met l yX8_targets wsX8_targets ({ frames := 1, cells := 0, slots := 0, locals := 21 } : Room) (va_Pc [.ref (ad 0 0), .int px1, .int px2, .int px3] (fun U => mR dC dI A ad cI cZ V0 U)) (va_Qi (fun r9 (_ : Unit) => r9 = res.1) (fun _ t9 => mR dC dI A ad cI cZ res.2 t9) A) 0 0 A := by
  refine Met.ofW (cc := cX8_targets) (maxL := 4) (ret := (some .int)) (by decide) rfl ?_
  intro p e s m args below meth cd s₁ B hml hv
  obtain ⟨rfl, hM, hK, hAs⟩ := hv
  have hx := B.exec
  have hb := B.bytes
  have hr := B.returns
  have hts := atoms_spec (ws := wsX8_targets) B.pre
  have hown : s.vm.findClass RX8 = some m.cls := findClass_of_methodNamed B.named
  have hlocks := B.notSynchronized
  have hS : va_S A s.heap s.heap [] := va_S.rf
  have k24 := hts (.fieldLink RX8 24 "StageDeskModel" "first" "[I") (by decide +kernel)
  have k27 := hts (.fieldLink RX8 27 "StageDeskModel" "second" "[I") (by decide +kernel)
  have inX8 : ∀ w ∈ u_ws RX8 TX8 48, w ∈ wsX8_targets := by decide +kernel
  have hb21 : ∀ (x1 : Int32) (x2 : Int32) (x3 : Int32) (V : mM), jnX8_targets_21 x1 x2 x3 V = some res → ∀ (H : Heap) (locs : List Loc), mP (dC, dI) vwCl A ad (mce cI cZ ad) mex V H → va_S A s.heap H locs → ∀ (ls : Array Slot), lv_has ls 4 [(0, .ref (ad 0 0)), (1, .int x1), (2, .int x2), (3, .int x3)] → W p l e (headSpec wsX8_targets ({ frames := 1, cells := 0, slots := 0, locals := 21 } : Room)).room s m ([.ref (ad 0 0), .int px1, .int px2, .int px3] : List Value).toArray below meth cd H locs 0 0 (MQ below (va_Qi (fun r9 (_ : Unit) => r9 = res.1) (fun _ t9 => mR dC dI A ad cI cZ res.2 t9) A) ([.ref (ad 0 0), .int px1, .int px2, .int px3] : List Value).toArray s 0 0 A) (F0 m 21 ls []) := by
    intro  x1 x2 x3 V h H locs hM hS ls hl
    unfold jnX8_targets_21 at h
    refine lv_iload_n hx hb dX8_targets_21 rfl (lv_at hl 3 rfl) ?_
    refine lv_iconst (v := (-1)) hx hb dX8_targets_22 (by decide) ?_
    refine lv_icmp_eq (tgt := 36) hx hb dX8_targets_23 (by decide) (fun c_1 => ?_) (fun c_1 => ?_)
    · have h := iteT c_1 h
      refine lv_aload_n hx hb dX8_targets_36 rfl (lv_at hl 0 rfl) ?_
      refine mm_get (C := RX8) (T := TX8) (N := 48) (ci := 8) hx hb hts inX8 hown hK hM 0 0 me0 rfl rfl 9 (by decide) k24 (fun _ h9 => h9) rfl dX8_targets_37 ?_
      refine lv_iload_n hx hb dX8_targets_40 rfl (lv_at hl 1 rfl) ?_
      refine lv_iload_n hx hb dX8_targets_41 rfl (lv_at hl 2 rfl) ?_
      obtain ⟨b_2, h⟩ := iteS h
      refine mm_iast hx hb hK hM hS 10 0 (me (by decide)) 0 rfl rfl (bin_in b_2) rfl dX8_targets_42 (fun H locs hM hS => ?_)
      refine lv_aload_n hx hb dX8_targets_43 rfl (lv_at hl 0 rfl) ?_
      refine mm_get (C := RX8) (T := TX8) (N := 48) (ci := 8) hx hb hts inX8 hown hK hM 0 0 me0 rfl rfl 10 (by decide) k27 (fun _ h9 => h9) rfl dX8_targets_44 ?_
      refine lv_iload_n hx hb dX8_targets_47 rfl (lv_at hl 1 rfl) ?_
      refine lv_iload_n hx hb dX8_targets_48 rfl (lv_at hl 3 rfl) ?_
      obtain ⟨b_3, h⟩ := iteS h
      refine mm_iast hx hb hK hM hS 11 0 (me (by decide)) 0 rfl rfl (bin_in b_3) rfl dX8_targets_49 (fun H locs hM hS => ?_)
      refine lv_iconst (v := 1) hx hb dX8_targets_50 (by decide) ?_
      have e9 : ((1 : Int32), (mu (mu V 10 0 (x1).toNatClampNeg x2) 11 0 (x1).toNatClampNeg x3)) = res := Option.some.inj h
      subst e9
      exact W.iret (v := (1 : Int32)) hx hb hr (fun t9 ht9 hW9 => ⟨⟨_, (), rfl, rfl, mR_of hM hK hAs hS.1 ht9 hW9⟩, hS.F ht9⟩) hS.2.2 dX8_targets_51
    · have h := iteF c_1 h
      refine lv_aload_n hx hb dX8_targets_26 rfl (lv_at hl 0 rfl) ?_
      refine lv_iload_n hx hb dX8_targets_27 rfl (lv_at hl 3 rfl) ?_
      obtain ⟨u_4, hu_4, h⟩ := bindS h
      refine va_calli (va_runV (As := [.int x3]) (rest := []) ⟨hx, hb, hml, hown, hts⟩ (kX8_isStage l x3 V hu_4) (cwV 1 hts gX8_targets_X8_isStage rfl rfl rfl (by decide +kernel) ⟨Nat.le_of_ble_eq_true rfl, Nat.le_of_ble_eq_true rfl⟩) ⟨fun a U g9 mk w9 => ⟨w9.1, mR_calling w9.2⟩, mP_recv (q := (RX8, TX8, 48)) hK hM me0 rfl rfl, fun U hU hWm => ⟨rfl, mR_of hM hK hAs hS.1 hU hWm⟩⟩ rfl rfl hl.1 rfl (lv_room (Nat.le_of_ble_eq_true rfl)) dX8_targets_28 ⟨Nat.le_of_ble_eq_true rfl, Nat.le_of_ble_eq_true rfl⟩) hS (fun _ _ h9 => h9) (fun _ h9 => h9) (fun r9 u9 t9 H locs ht9 _ hw9 hB9 _ _ hS => ?_)
      rw [show r9 = u_4 from hw9]
      obtain ⟨hM, -, -⟩ := hB9
      rw [ht9] at hM
      refine lv_if_ne (tgt := 36) hx hb dX8_targets_31 (by decide) (fun c_5 => ?_) (fun c_5 => ?_)
      · have h := iteF c_5 h
        refine lv_aload_n hx hb dX8_targets_36 rfl (lv_at hl 0 rfl) ?_
        refine mm_get (C := RX8) (T := TX8) (N := 48) (ci := 8) hx hb hts inX8 hown hK hM 0 0 me0 rfl rfl 9 (by decide) k24 (fun _ h9 => h9) rfl dX8_targets_37 ?_
        refine lv_iload_n hx hb dX8_targets_40 rfl (lv_at hl 1 rfl) ?_
        refine lv_iload_n hx hb dX8_targets_41 rfl (lv_at hl 2 rfl) ?_
        obtain ⟨b_6, h⟩ := iteS h
        refine mm_iast hx hb hK hM hS 10 0 (me (by decide)) 0 rfl rfl (bin_in b_6) rfl dX8_targets_42 (fun H locs hM hS => ?_)
        refine lv_aload_n hx hb dX8_targets_43 rfl (lv_at hl 0 rfl) ?_
        refine mm_get (C := RX8) (T := TX8) (N := 48) (ci := 8) hx hb hts inX8 hown hK hM 0 0 me0 rfl rfl 10 (by decide) k27 (fun _ h9 => h9) rfl dX8_targets_44 ?_
        refine lv_iload_n hx hb dX8_targets_47 rfl (lv_at hl 1 rfl) ?_
        refine lv_iload_n hx hb dX8_targets_48 rfl (lv_at hl 3 rfl) ?_
        obtain ⟨b_7, h⟩ := iteS h
        refine mm_iast hx hb hK hM hS 11 0 (me (by decide)) 0 rfl rfl (bin_in b_7) rfl dX8_targets_49 (fun H locs hM hS => ?_)
        refine lv_iconst (v := 1) hx hb dX8_targets_50 (by decide) ?_
        have e9 : ((1 : Int32), (mu (mu V 10 0 (x1).toNatClampNeg x2) 11 0 (x1).toNatClampNeg x3)) = res := Option.some.inj h
        subst e9
        exact W.iret (v := (1 : Int32)) hx hb hr (fun t9 ht9 hW9 => ⟨⟨_, (), rfl, rfl, mR_of hM hK hAs hS.1 ht9 hW9⟩, hS.F ht9⟩) hS.2.2 dX8_targets_51
      · have h := iteT c_5 h
        refine lv_iconst (v := (-1)) hx hb dX8_targets_34 (by decide) ?_
        have e9 : ((-1 : Int32), V) = res := Option.some.inj h
        subst e9
        exact W.iret (v := (-1 : Int32)) hx hb hr (fun t9 ht9 hW9 => ⟨⟨_, (), rfl, rfl, mR_of hM hK hAs hS.1 ht9 hW9⟩, hS.F ht9⟩) hS.2.2 dX8_targets_35
  have hl := lv_entry ([.ref (ad 0 0), .int px1, .int px2, .int px3]) (n := 4) (Nat.le_of_ble_eq_true rfl)
  rw [lg_entry_eq]
  generalize (lg_sl ([.ref (ad 0 0), .int px1, .int px2, .int px3]) ++ List.replicate (4 - (lg_sl ([.ref (ad 0 0), .int px1, .int px2, .int px3])).length) Slot.unset).toArray = ls at hl ⊢
  have hl : lv_has ls 4 [(0, .ref (ad 0 0)), (1, .int px1), (2, .int px2), (3, .int px3)] := hl
  unfold fX8_targets at h
  refine lv_aload_n hx hb dX8_targets_0 rfl (lv_at hl 0 rfl) ?_
  refine lv_iload_n hx hb dX8_targets_1 rfl (lv_at hl 1 rfl) ?_
  obtain ⟨u_8, hu_8, h⟩ := bindS h
  refine va_calli (va_runV (As := [.int px1]) (rest := []) ⟨hx, hb, hml, hown, hts⟩ (kX8_isStage l px1 V0 hu_8) (cwV 1 hts gX8_targets_X8_isStage rfl rfl rfl (by decide +kernel) ⟨Nat.le_of_ble_eq_true rfl, Nat.le_of_ble_eq_true rfl⟩) ⟨fun a U g9 mk w9 => ⟨w9.1, mR_calling w9.2⟩, mP_recv (q := (RX8, TX8, 48)) hK hM me0 rfl rfl, fun U hU hWm => ⟨rfl, mR_of hM hK hAs hS.1 hU hWm⟩⟩ rfl rfl hl.1 rfl (lv_room (Nat.le_of_ble_eq_true rfl)) dX8_targets_2 ⟨Nat.le_of_ble_eq_true rfl, Nat.le_of_ble_eq_true rfl⟩) hS (fun _ _ h9 => h9) (fun _ h9 => h9) (fun r9 u9 t9 H locs ht9 _ hw9 hB9 _ _ hS => ?_)
  rw [show r9 = u_8 from hw9]
  obtain ⟨hM, -, -⟩ := hB9
  rw [ht9] at hM
  refine lv_if_eq (tgt := 34) hx hb dX8_targets_5 (by decide) (fun c_9 => ?_) (fun c_9 => ?_)
  · have h := iteT c_9 h
    refine lv_iconst (v := (-1)) hx hb dX8_targets_34 (by decide) ?_
    have e9 : ((-1 : Int32), V0) = res := Option.some.inj h
    subst e9
    exact W.iret (v := (-1 : Int32)) hx hb hr (fun t9 ht9 hW9 => ⟨⟨_, (), rfl, rfl, mR_of hM hK hAs hS.1 ht9 hW9⟩, hS.F ht9⟩) hS.2.2 dX8_targets_35
  · have h := iteF c_9 h
    refine lv_iload_n hx hb dX8_targets_8 rfl (lv_at hl 2 rfl) ?_
    refine lv_iconst (v := (-1)) hx hb dX8_targets_9 (by decide) ?_
    refine lv_icmp_eq (tgt := 21) hx hb dX8_targets_10 (by decide) (fun c_10 => ?_) (fun c_10 => ?_)
    · have h := iteT c_10 h
      exact hb21 _ _ _ _ h _ _  hM hS ls (lv_sub hl [0, 1, 2, 3] rfl)
    · have h := iteF c_10 h
      refine lv_aload_n hx hb dX8_targets_13 rfl (lv_at hl 0 rfl) ?_
      refine lv_iload_n hx hb dX8_targets_14 rfl (lv_at hl 2 rfl) ?_
      obtain ⟨u_11, hu_11, h⟩ := bindS h
      refine va_calli (va_runV (As := [.int px2]) (rest := []) ⟨hx, hb, hml, hown, hts⟩ (kX8_isStage l px2 V0 hu_11) (cwV 1 hts gX8_targets_X8_isStage rfl rfl rfl (by decide +kernel) ⟨Nat.le_of_ble_eq_true rfl, Nat.le_of_ble_eq_true rfl⟩) ⟨fun a U g9 mk w9 => ⟨w9.1, mR_calling w9.2⟩, mP_recv (q := (RX8, TX8, 48)) hK hM me0 rfl rfl, fun U hU hWm => ⟨rfl, mR_of hM hK hAs hS.1 hU hWm⟩⟩ rfl rfl hl.1 rfl (lv_room (Nat.le_of_ble_eq_true rfl)) dX8_targets_15 ⟨Nat.le_of_ble_eq_true rfl, Nat.le_of_ble_eq_true rfl⟩) hS (fun _ _ h9 => h9) (fun _ h9 => h9) (fun r9 u9 t9 H locs ht9 _ hw9 hB9 _ _ hS => ?_)
      rw [show r9 = u_11 from hw9]
      obtain ⟨hM, -, -⟩ := hB9
      rw [ht9] at hM
      refine lv_if_eq (tgt := 34) hx hb dX8_targets_18 (by decide) (fun c_12 => ?_) (fun c_12 => ?_)
      · have h := iteT c_12 h
        refine lv_iconst (v := (-1)) hx hb dX8_targets_34 (by decide) ?_
        have e9 : ((-1 : Int32), V0) = res := Option.some.inj h
        subst e9
        exact W.iret (v := (-1 : Int32)) hx hb hr (fun t9 ht9 hW9 => ⟨⟨_, (), rfl, rfl, mR_of hM hK hAs hS.1 ht9 hW9⟩, hS.F ht9⟩) hS.2.2 dX8_targets_35
      · have h := iteF c_12 h
        exact hb21 _ _ _ _ h _ _  hM hS ls (lv_sub hl [0, 1, 2, 3] rfl)
/-! X8_admit -/
def fX8_admit  (px1 : Int32) (px2 : Int32) (px3 : Int32) (px4 : Int32) (V0 : mM) : Option (Int32 × mM) := (fX8_isStage px1 V0).bind fun u_1 => if u_1 = 0 then (some ((-1 : Int32), V0)) else ((fX8_in px2 (0 : Int32) (100 : Int32) V0).bind fun u_3 => if u_3 = 0 then (some ((-1 : Int32), V0)) else ((fX8_in px3 (1 : Int32) (100 : Int32) V0).bind fun u_5 => if u_5 = 0 then (some ((-1 : Int32), V0)) else ((fX8_in px4 (0 : Int32) (1000 : Int32) V0).bind fun u_7 => if u_7 = 0 then (some ((-1 : Int32), V0)) else (if bin px1 8 = true then (if bin px1 8 = true then (if bin px1 8 = true then (if ((mu (mu V0 16 0 (px1).toNatClampNeg px2) 15 0 (px1).toNatClampNeg px3) 14 0 (px1).toNatClampNeg) ≤ px3 then (if bin px1 8 = true then (if bin px1 8 = true then (if bin px1 8 = true then (some ((1 : Int32), (mu (mu (mu (mu V0 16 0 (px1).toNatClampNeg px2) 15 0 (px1).toNatClampNeg px3) 14 0 (px1).toNatClampNeg ((mu (mu V0 16 0 (px1).toNatClampNeg px2) 15 0 (px1).toNatClampNeg px3) 14 0 (px1).toNatClampNeg)) 17 0 (px1).toNatClampNeg px4))) else none) else none) else none) else (if bin px1 8 = true then (if bin px1 8 = true then (some ((1 : Int32), (mu (mu (mu (mu V0 16 0 (px1).toNatClampNeg px2) 15 0 (px1).toNatClampNeg px3) 14 0 (px1).toNatClampNeg px3) 17 0 (px1).toNatClampNeg px4))) else none) else none)) else none) else none) else none))))
set_option maxHeartbeats 4000000 in
set_option maxRecDepth 100000 in
theorem kX8_admit (l : Launch) {dC : Nat → ClassId} {dI : Nat → Nat → Nat} {A : Nat → Prop} {ad : Nat → Nat → Nat} {cI cZ : ClassId}  (px1 : Int32) (px2 : Int32) (px3 : Int32) (px4 : Int32) (V0 : mM) {res : Int32 × mM} (h : fX8_admit px1 px2 px3 px4 V0 = some res) : Met l yX8_admit wsX8_admit ({ frames := 1, cells := 0, slots := 0, locals := 22 } : Room) (va_Pc [.ref (ad 0 0), .int px1, .int px2, .int px3, .int px4] (fun U => mR dC dI A ad cI cZ V0 U)) (va_Qi (fun r9 (_ : Unit) => r9 = res.1) (fun _ t9 => mR dC dI A ad cI cZ res.2 t9) A) 0 0 A := by
  refine Met.ofW (cc := cX8_admit) (maxL := 5) (ret := (some .int)) (by decide) rfl ?_
  intro p e s m args below meth cd s₁ B hml hv
  obtain ⟨rfl, hM, hK, hAs⟩ := hv
  have hx := B.exec
  have hb := B.bytes
  have hr := B.returns
  have hts := atoms_spec (ws := wsX8_admit) B.pre
  have hown : s.vm.findClass RX8 = some m.cls := findClass_of_methodNamed B.named
  have hlocks := B.notSynchronized
  have hS : va_S A s.heap s.heap [] := va_S.rf
  have k42 := hts (.fieldLink RX8 42 "StageDeskModel" "rates" "[I") (by decide +kernel)
  have k39 := hts (.fieldLink RX8 39 "StageDeskModel" "depths" "[I") (by decide +kernel)
  have k36 := hts (.fieldLink RX8 36 "StageDeskModel" "tokens" "[I") (by decide +kernel)
  have k45 := hts (.fieldLink RX8 45 "StageDeskModel" "goals" "[I") (by decide +kernel)
  have inX8 : ∀ w ∈ u_ws RX8 TX8 48, w ∈ wsX8_admit := by decide +kernel
  have hl := lv_entry ([.ref (ad 0 0), .int px1, .int px2, .int px3, .int px4]) (n := 5) (Nat.le_of_ble_eq_true rfl)
  rw [lg_entry_eq]
  generalize (lg_sl ([.ref (ad 0 0), .int px1, .int px2, .int px3, .int px4]) ++ List.replicate (5 - (lg_sl ([.ref (ad 0 0), .int px1, .int px2, .int px3, .int px4])).length) Slot.unset).toArray = ls at hl ⊢
  have hl : lv_has ls 5 [(0, .ref (ad 0 0)), (1, .int px1), (2, .int px2), (3, .int px3), (4, .int px4)] := hl
  unfold fX8_admit at h
  refine lv_aload_n hx hb dX8_admit_0 rfl (lv_at hl 0 rfl) ?_
  refine lv_iload_n hx hb dX8_admit_1 rfl (lv_at hl 1 rfl) ?_
  obtain ⟨u_1, hu_1, h⟩ := bindS h
  refine va_calli (va_runV (As := [.int px1]) (rest := []) ⟨hx, hb, hml, hown, hts⟩ (kX8_isStage l px1 V0 hu_1) (cwV 1 hts gX8_admit_X8_isStage rfl rfl rfl (by decide +kernel) ⟨Nat.le_of_ble_eq_true rfl, Nat.le_of_ble_eq_true rfl⟩) ⟨fun a U g9 mk w9 => ⟨w9.1, mR_calling w9.2⟩, mP_recv (q := (RX8, TX8, 48)) hK hM me0 rfl rfl, fun U hU hWm => ⟨rfl, mR_of hM hK hAs hS.1 hU hWm⟩⟩ rfl rfl hl.1 rfl (lv_room (Nat.le_of_ble_eq_true rfl)) dX8_admit_2 ⟨Nat.le_of_ble_eq_true rfl, Nat.le_of_ble_eq_true rfl⟩) hS (fun _ _ h9 => h9) (fun _ h9 => h9) (fun r9 u9 t9 H locs ht9 _ hw9 hB9 _ _ hS => ?_)
  rw [show r9 = u_1 from hw9]
  obtain ⟨hM, -, -⟩ := hB9
  rw [ht9] at hM
  refine lv_if_eq (tgt := 40) hx hb dX8_admit_5 (by decide) (fun c_2 => ?_) (fun c_2 => ?_)
  · have h := iteT c_2 h
    refine lv_iconst (v := (-1)) hx hb dX8_admit_40 (by decide) ?_
    have e9 : ((-1 : Int32), V0) = res := Option.some.inj h
    subst e9
    exact W.iret (v := (-1 : Int32)) hx hb hr (fun t9 ht9 hW9 => ⟨⟨_, (), rfl, rfl, mR_of hM hK hAs hS.1 ht9 hW9⟩, hS.F ht9⟩) hS.2.2 dX8_admit_41
  · have h := iteF c_2 h
    refine lv_iload_n hx hb dX8_admit_8 rfl (lv_at hl 2 rfl) ?_
    refine lv_iconst (v := 0) hx hb dX8_admit_9 (by decide) ?_
    refine lv_bipush (v := 100) hx hb dX8_admit_10 (by decide) ?_
    obtain ⟨u_3, hu_3, h⟩ := bindS h
    refine va_calli (va_runS (As := [.int px2, .int (0 : Int32), .int (100 : Int32)]) (rest := []) ⟨hx, hb, hml, hown, hts⟩ (kX8_in l px2 (0 : Int32) (100 : Int32) V0 hu_3) (va_cwS 3 hts gX8_admit_X8_in rfl rfl rfl (by decide +kernel) ⟨Nat.le_of_ble_eq_true rfl, Nat.le_of_ble_eq_true rfl⟩) ⟨fun a U g9 mk w9 => ⟨w9.1, mR_calling w9.2⟩, fun U hU hWm => ⟨rfl, mR_of hM hK hAs hS.1 hU hWm⟩⟩ rfl rfl hl.1 rfl (lv_room (Nat.le_of_ble_eq_true rfl)) dX8_admit_12 ⟨Nat.le_of_ble_eq_true rfl, Nat.le_of_ble_eq_true rfl⟩) hS (fun _ _ h9 => h9) (fun _ h9 => h9) (fun r9 u9 t9 H locs ht9 _ hw9 hB9 _ _ hS => ?_)
    rw [show r9 = u_3 from hw9]
    obtain ⟨hM, -, -⟩ := hB9
    rw [ht9] at hM
    refine lv_if_eq (tgt := 40) hx hb dX8_admit_15 (by decide) (fun c_4 => ?_) (fun c_4 => ?_)
    · have h := iteT c_4 h
      refine lv_iconst (v := (-1)) hx hb dX8_admit_40 (by decide) ?_
      have e9 : ((-1 : Int32), V0) = res := Option.some.inj h
      subst e9
      exact W.iret (v := (-1 : Int32)) hx hb hr (fun t9 ht9 hW9 => ⟨⟨_, (), rfl, rfl, mR_of hM hK hAs hS.1 ht9 hW9⟩, hS.F ht9⟩) hS.2.2 dX8_admit_41
    · have h := iteF c_4 h
      refine lv_iload_n hx hb dX8_admit_18 rfl (lv_at hl 3 rfl) ?_
      refine lv_iconst (v := 1) hx hb dX8_admit_19 (by decide) ?_
      refine lv_bipush (v := 100) hx hb dX8_admit_20 (by decide) ?_
      obtain ⟨u_5, hu_5, h⟩ := bindS h
      refine va_calli (va_runS (As := [.int px3, .int (1 : Int32), .int (100 : Int32)]) (rest := []) ⟨hx, hb, hml, hown, hts⟩ (kX8_in l px3 (1 : Int32) (100 : Int32) V0 hu_5) (va_cwS 3 hts gX8_admit_X8_in rfl rfl rfl (by decide +kernel) ⟨Nat.le_of_ble_eq_true rfl, Nat.le_of_ble_eq_true rfl⟩) ⟨fun a U g9 mk w9 => ⟨w9.1, mR_calling w9.2⟩, fun U hU hWm => ⟨rfl, mR_of hM hK hAs hS.1 hU hWm⟩⟩ rfl rfl hl.1 rfl (lv_room (Nat.le_of_ble_eq_true rfl)) dX8_admit_22 ⟨Nat.le_of_ble_eq_true rfl, Nat.le_of_ble_eq_true rfl⟩) hS (fun _ _ h9 => h9) (fun _ h9 => h9) (fun r9 u9 t9 H locs ht9 _ hw9 hB9 _ _ hS => ?_)
      rw [show r9 = u_5 from hw9]
      obtain ⟨hM, -, -⟩ := hB9
      rw [ht9] at hM
      refine lv_if_eq (tgt := 40) hx hb dX8_admit_25 (by decide) (fun c_6 => ?_) (fun c_6 => ?_)
      · have h := iteT c_6 h
        refine lv_iconst (v := (-1)) hx hb dX8_admit_40 (by decide) ?_
        have e9 : ((-1 : Int32), V0) = res := Option.some.inj h
        subst e9
        exact W.iret (v := (-1 : Int32)) hx hb hr (fun t9 ht9 hW9 => ⟨⟨_, (), rfl, rfl, mR_of hM hK hAs hS.1 ht9 hW9⟩, hS.F ht9⟩) hS.2.2 dX8_admit_41
      · have h := iteF c_6 h
        refine lv_iload hx hb dX8_admit_28 (lv_at hl 4 rfl) ?_
        refine lv_iconst (v := 0) hx hb dX8_admit_30 (by decide) ?_
        refine lv_sipush (v := 1000) hx hb dX8_admit_31 (by decide) ?_
        obtain ⟨u_7, hu_7, h⟩ := bindS h
        refine va_calli (va_runS (As := [.int px4, .int (0 : Int32), .int (1000 : Int32)]) (rest := []) ⟨hx, hb, hml, hown, hts⟩ (kX8_in l px4 (0 : Int32) (1000 : Int32) V0 hu_7) (va_cwS 3 hts gX8_admit_X8_in rfl rfl rfl (by decide +kernel) ⟨Nat.le_of_ble_eq_true rfl, Nat.le_of_ble_eq_true rfl⟩) ⟨fun a U g9 mk w9 => ⟨w9.1, mR_calling w9.2⟩, fun U hU hWm => ⟨rfl, mR_of hM hK hAs hS.1 hU hWm⟩⟩ rfl rfl hl.1 rfl (lv_room (Nat.le_of_ble_eq_true rfl)) dX8_admit_34 ⟨Nat.le_of_ble_eq_true rfl, Nat.le_of_ble_eq_true rfl⟩) hS (fun _ _ h9 => h9) (fun _ h9 => h9) (fun r9 u9 t9 H locs ht9 _ hw9 hB9 _ _ hS => ?_)
        rw [show r9 = u_7 from hw9]
        obtain ⟨hM, -, -⟩ := hB9
        rw [ht9] at hM
        refine lv_if_ne (tgt := 42) hx hb dX8_admit_37 (by decide) (fun c_8 => ?_) (fun c_8 => ?_)
        · have h := iteF c_8 h
          refine lv_aload_n hx hb dX8_admit_42 rfl (lv_at hl 0 rfl) ?_
          refine mm_get (C := RX8) (T := TX8) (N := 48) (ci := 8) hx hb hts inX8 hown hK hM 0 0 me0 rfl rfl 15 (by decide) k42 (fun _ h9 => h9) rfl dX8_admit_43 ?_
          refine lv_iload_n hx hb dX8_admit_46 rfl (lv_at hl 1 rfl) ?_
          refine lv_iload_n hx hb dX8_admit_47 rfl (lv_at hl 2 rfl) ?_
          obtain ⟨b_9, h⟩ := iteS h
          refine mm_iast hx hb hK hM hS 16 0 (me (by decide)) 0 rfl rfl (bin_in b_9) rfl dX8_admit_48 (fun H locs hM hS => ?_)
          refine lv_aload_n hx hb dX8_admit_49 rfl (lv_at hl 0 rfl) ?_
          refine mm_get (C := RX8) (T := TX8) (N := 48) (ci := 8) hx hb hts inX8 hown hK hM 0 0 me0 rfl rfl 14 (by decide) k39 (fun _ h9 => h9) rfl dX8_admit_50 ?_
          refine lv_iload_n hx hb dX8_admit_53 rfl (lv_at hl 1 rfl) ?_
          refine lv_iload_n hx hb dX8_admit_54 rfl (lv_at hl 3 rfl) ?_
          obtain ⟨b_10, h⟩ := iteS h
          refine mm_iast hx hb hK hM hS 15 0 (me (by decide)) 0 rfl rfl (bin_in b_10) rfl dX8_admit_55 (fun H locs hM hS => ?_)
          refine lv_aload_n hx hb dX8_admit_56 rfl (lv_at hl 0 rfl) ?_
          refine mm_get (C := RX8) (T := TX8) (N := 48) (ci := 8) hx hb hts inX8 hown hK hM 0 0 me0 rfl rfl 13 (by decide) k36 (fun _ h9 => h9) rfl dX8_admit_57 ?_
          refine lv_iload_n hx hb dX8_admit_60 rfl (lv_at hl 1 rfl) ?_
          refine lv_aload_n hx hb dX8_admit_61 rfl (lv_at hl 0 rfl) ?_
          refine mm_get (C := RX8) (T := TX8) (N := 48) (ci := 8) hx hb hts inX8 hown hK hM 0 0 me0 rfl rfl 13 (by decide) k36 (fun _ h9 => h9) rfl dX8_admit_62 ?_
          refine lv_iload_n hx hb dX8_admit_65 rfl (lv_at hl 1 rfl) ?_
          obtain ⟨b_11, h⟩ := iteS h
          refine mm_iald hx hb hK hM 14 0 (me (by decide)) 0 rfl rfl (bin_in b_11) dX8_admit_66 ?_
          refine lv_iload_n hx hb dX8_admit_67 rfl (lv_at hl 3 rfl) ?_
          refine lv_icmp_le (tgt := 75) hx hb dX8_admit_68 (by decide) (fun c_12 => ?_) (fun c_12 => ?_)
          · have h := iteT c_12 h
            refine lv_aload_n hx hb dX8_admit_75 rfl (lv_at hl 0 rfl) ?_
            refine mm_get (C := RX8) (T := TX8) (N := 48) (ci := 8) hx hb hts inX8 hown hK hM 0 0 me0 rfl rfl 13 (by decide) k36 (fun _ h9 => h9) rfl dX8_admit_76 ?_
            refine lv_iload_n hx hb dX8_admit_79 rfl (lv_at hl 1 rfl) ?_
            obtain ⟨b_13, h⟩ := iteS h
            refine mm_iald hx hb hK hM 14 0 (me (by decide)) 0 rfl rfl (bin_in b_13) dX8_admit_80 ?_
            obtain ⟨b_14, h⟩ := iteS h
            refine mm_iast hx hb hK hM hS 14 0 (me (by decide)) 0 rfl rfl (bin_in b_14) rfl dX8_admit_81 (fun H locs hM hS => ?_)
            refine lv_aload_n hx hb dX8_admit_82 rfl (lv_at hl 0 rfl) ?_
            refine mm_get (C := RX8) (T := TX8) (N := 48) (ci := 8) hx hb hts inX8 hown hK hM 0 0 me0 rfl rfl 16 (by decide) k45 (fun _ h9 => h9) rfl dX8_admit_83 ?_
            refine lv_iload_n hx hb dX8_admit_86 rfl (lv_at hl 1 rfl) ?_
            refine lv_iload hx hb dX8_admit_87 (lv_at hl 4 rfl) ?_
            obtain ⟨b_15, h⟩ := iteS h
            refine mm_iast hx hb hK hM hS 17 0 (me (by decide)) 0 rfl rfl (bin_in b_15) rfl dX8_admit_89 (fun H locs hM hS => ?_)
            refine lv_iconst (v := 1) hx hb dX8_admit_90 (by decide) ?_
            have e9 : ((1 : Int32), (mu (mu (mu (mu V0 16 0 (px1).toNatClampNeg px2) 15 0 (px1).toNatClampNeg px3) 14 0 (px1).toNatClampNeg ((mu (mu V0 16 0 (px1).toNatClampNeg px2) 15 0 (px1).toNatClampNeg px3) 14 0 (px1).toNatClampNeg)) 17 0 (px1).toNatClampNeg px4)) = res := Option.some.inj h
            subst e9
            exact W.iret (v := (1 : Int32)) hx hb hr (fun t9 ht9 hW9 => ⟨⟨_, (), rfl, rfl, mR_of hM hK hAs hS.1 ht9 hW9⟩, hS.F ht9⟩) hS.2.2 dX8_admit_91
          · have h := iteF c_12 h
            refine lv_iload_n hx hb dX8_admit_71 rfl (lv_at hl 3 rfl) ?_
            refine lv_goto (tgt := 81) hx hb dX8_admit_72 (by decide) ?_
            obtain ⟨b_16, h⟩ := iteS h
            refine mm_iast hx hb hK hM hS 14 0 (me (by decide)) 0 rfl rfl (bin_in b_16) rfl dX8_admit_81 (fun H locs hM hS => ?_)
            refine lv_aload_n hx hb dX8_admit_82 rfl (lv_at hl 0 rfl) ?_
            refine mm_get (C := RX8) (T := TX8) (N := 48) (ci := 8) hx hb hts inX8 hown hK hM 0 0 me0 rfl rfl 16 (by decide) k45 (fun _ h9 => h9) rfl dX8_admit_83 ?_
            refine lv_iload_n hx hb dX8_admit_86 rfl (lv_at hl 1 rfl) ?_
            refine lv_iload hx hb dX8_admit_87 (lv_at hl 4 rfl) ?_
            obtain ⟨b_17, h⟩ := iteS h
            refine mm_iast hx hb hK hM hS 17 0 (me (by decide)) 0 rfl rfl (bin_in b_17) rfl dX8_admit_89 (fun H locs hM hS => ?_)
            refine lv_iconst (v := 1) hx hb dX8_admit_90 (by decide) ?_
            have e9 : ((1 : Int32), (mu (mu (mu (mu V0 16 0 (px1).toNatClampNeg px2) 15 0 (px1).toNatClampNeg px3) 14 0 (px1).toNatClampNeg px3) 17 0 (px1).toNatClampNeg px4)) = res := Option.some.inj h
            subst e9
            exact W.iret (v := (1 : Int32)) hx hb hr (fun t9 ht9 hW9 => ⟨⟨_, (), rfl, rfl, mR_of hM hK hAs hS.1 ht9 hW9⟩, hS.F ht9⟩) hS.2.2 dX8_admit_91
        · have h := iteT c_8 h
          refine lv_iconst (v := (-1)) hx hb dX8_admit_40 (by decide) ?_
          have e9 : ((-1 : Int32), V0) = res := Option.some.inj h
          subst e9
          exact W.iret (v := (-1 : Int32)) hx hb hr (fun t9 ht9 hW9 => ⟨⟨_, (), rfl, rfl, mR_of hM hK hAs hS.1 ht9 hW9⟩, hS.F ht9⟩) hS.2.2 dX8_admit_41
/-! X8_make -/
def fX8_make  (px1 : Int32) (px2 : Int32) (V0 : mM) : Option (Int32 × mM) := if bin (V0 0 0 1) 124000 = true then (if bin ((mu V0 3 0 ((V0 0 0 1)).toNatClampNeg px1) 0 0 1) 124000 = true then (some ((((mu (mu (mu V0 3 0 ((V0 0 0 1)).toNatClampNeg px1) 4 0 (((mu V0 3 0 ((V0 0 0 1)).toNatClampNeg px1) 0 0 1)).toNatClampNeg px2) 0 0 1 (((mu (mu V0 3 0 ((V0 0 0 1)).toNatClampNeg px1) 4 0 (((mu V0 3 0 ((V0 0 0 1)).toNatClampNeg px1) 0 0 1)).toNatClampNeg px2) 0 0 1) + (1 : Int32))) 0 0 1) - (1 : Int32)), (mu (mu (mu V0 3 0 ((V0 0 0 1)).toNatClampNeg px1) 4 0 (((mu V0 3 0 ((V0 0 0 1)).toNatClampNeg px1) 0 0 1)).toNatClampNeg px2) 0 0 1 (((mu (mu V0 3 0 ((V0 0 0 1)).toNatClampNeg px1) 4 0 (((mu V0 3 0 ((V0 0 0 1)).toNatClampNeg px1) 0 0 1)).toNatClampNeg px2) 0 0 1) + (1 : Int32))))) else none) else none
set_option maxHeartbeats 4000000 in
set_option maxRecDepth 100000 in
theorem kX8_make (l : Launch) {dC : Nat → ClassId} {dI : Nat → Nat → Nat} {A : Nat → Prop} {ad : Nat → Nat → Nat} {cI cZ : ClassId}  (px1 : Int32) (px2 : Int32) (V0 : mM) {res : Int32 × mM} (h : fX8_make px1 px2 V0 = some res) : Met l yX8_make wsX8_make ({ frames := 0, cells := 0, slots := 0, locals := 0 } : Room) (va_Pc [.ref (ad 0 0), .int px1, .int px2] (fun U => mR dC dI A ad cI cZ V0 U)) (va_Qi (fun r9 (_ : Unit) => r9 = res.1) (fun _ t9 => mR dC dI A ad cI cZ res.2 t9) A) 0 0 A := by
  refine Met.ofW (cc := cX8_make) (maxL := 3) (ret := (some .int)) (by decide) rfl ?_
  intro p e s m args below meth cd s₁ B hml hv
  obtain ⟨rfl, hM, hK, hAs⟩ := hv
  have hx := B.exec
  have hb := B.bytes
  have hr := B.returns
  have hts := atoms_spec (ws := wsX8_make) B.pre
  have hown : s.vm.findClass RX8 = some m.cls := findClass_of_methodNamed B.named
  have hlocks := B.notSynchronized
  have hS : va_S A s.heap s.heap [] := va_S.rf
  have k8 := hts (.fieldLink RX8 8 "StageDeskModel" "values" "[I") (by decide +kernel)
  have k148 := hts (.fieldLink RX8 148 "StageDeskModel" "events" "I") (by decide +kernel)
  have k14 := hts (.fieldLink RX8 14 "StageDeskModel" "births" "[I") (by decide +kernel)
  have inX8 : ∀ w ∈ u_ws RX8 TX8 48, w ∈ wsX8_make := by decide +kernel
  have hl := lv_entry ([.ref (ad 0 0), .int px1, .int px2]) (n := 3) (Nat.le_of_ble_eq_true rfl)
  rw [lg_entry_eq]
  generalize (lg_sl ([.ref (ad 0 0), .int px1, .int px2]) ++ List.replicate (3 - (lg_sl ([.ref (ad 0 0), .int px1, .int px2])).length) Slot.unset).toArray = ls at hl ⊢
  have hl : lv_has ls 3 [(0, .ref (ad 0 0)), (1, .int px1), (2, .int px2)] := hl
  unfold fX8_make at h
  refine lv_aload_n hx hb dX8_make_0 rfl (lv_at hl 0 rfl) ?_
  refine mm_get (C := RX8) (T := TX8) (N := 48) (ci := 8) hx hb hts inX8 hown hK hM 0 0 me0 rfl rfl 2 (by decide) k8 (fun _ h9 => h9) rfl dX8_make_1 ?_
  refine lv_aload_n hx hb dX8_make_4 rfl (lv_at hl 0 rfl) ?_
  refine mm_get (C := RX8) (T := TX8) (N := 48) (ci := 8) hx hb hts inX8 hown hK hM 0 0 me0 rfl rfl 1 (by decide) k148 (fun _ h9 => h9) rfl dX8_make_5 ?_
  refine lv_iload_n hx hb dX8_make_8 rfl (lv_at hl 1 rfl) ?_
  obtain ⟨b_1, h⟩ := iteS h
  refine mm_iast hx hb hK hM hS 3 0 (me (by decide)) 0 rfl rfl (bin_in b_1) rfl dX8_make_9 (fun H locs hM hS => ?_)
  refine lv_aload_n hx hb dX8_make_10 rfl (lv_at hl 0 rfl) ?_
  refine mm_get (C := RX8) (T := TX8) (N := 48) (ci := 8) hx hb hts inX8 hown hK hM 0 0 me0 rfl rfl 3 (by decide) k14 (fun _ h9 => h9) rfl dX8_make_11 ?_
  refine lv_aload_n hx hb dX8_make_14 rfl (lv_at hl 0 rfl) ?_
  refine mm_get (C := RX8) (T := TX8) (N := 48) (ci := 8) hx hb hts inX8 hown hK hM 0 0 me0 rfl rfl 1 (by decide) k148 (fun _ h9 => h9) rfl dX8_make_15 ?_
  refine lv_iload_n hx hb dX8_make_18 rfl (lv_at hl 2 rfl) ?_
  obtain ⟨b_2, h⟩ := iteS h
  refine mm_iast hx hb hK hM hS 4 0 (me (by decide)) 0 rfl rfl (bin_in b_2) rfl dX8_make_19 (fun H locs hM hS => ?_)
  refine lv_aload_n hx hb dX8_make_20 rfl (lv_at hl 0 rfl) ?_
  refine lv_dup hx hb dX8_make_21 rfl ?_
  refine mm_get (C := RX8) (T := TX8) (N := 48) (ci := 8) hx hb hts inX8 hown hK hM 0 0 me0 rfl rfl 1 (by decide) k148 (fun _ h9 => h9) rfl dX8_make_22 ?_
  refine lv_iconst (v := 1) hx hb dX8_make_25 (by decide) ?_
  refine lv_iadd hx hb dX8_make_26 ?_
  refine mm_put (C := RX8) (T := TX8) (N := 48) (ci := 8) (ty := .int) hx hb hts inX8 tyX8 tyX8_ok nmX8 hown hK hM hS 0 0 me0 rfl rfl 1 (by decide) k148 (fun _ h9 => h9) rfl (by decide +kernel) rfl rfl (Nat.le_of_ble_eq_true rfl) (((mu (mu V0 3 0 ((V0 0 0 1)).toNatClampNeg px1) 4 0 (((mu V0 3 0 ((V0 0 0 1)).toNatClampNeg px1) 0 0 1)).toNatClampNeg px2) 0 0 1) + (1 : Int32)) rfl dX8_make_27 (fun H locs hM hS => ?_)
  refine lv_aload_n hx hb dX8_make_30 rfl (lv_at hl 0 rfl) ?_
  refine mm_get (C := RX8) (T := TX8) (N := 48) (ci := 8) hx hb hts inX8 hown hK hM 0 0 me0 rfl rfl 1 (by decide) k148 (fun _ h9 => h9) rfl dX8_make_31 ?_
  refine lv_iconst (v := 1) hx hb dX8_make_34 (by decide) ?_
  refine lv_isub hx hb dX8_make_35 ?_
  have e9 : ((((mu (mu (mu V0 3 0 ((V0 0 0 1)).toNatClampNeg px1) 4 0 (((mu V0 3 0 ((V0 0 0 1)).toNatClampNeg px1) 0 0 1)).toNatClampNeg px2) 0 0 1 (((mu (mu V0 3 0 ((V0 0 0 1)).toNatClampNeg px1) 4 0 (((mu V0 3 0 ((V0 0 0 1)).toNatClampNeg px1) 0 0 1)).toNatClampNeg px2) 0 0 1) + (1 : Int32))) 0 0 1) - (1 : Int32)), (mu (mu (mu V0 3 0 ((V0 0 0 1)).toNatClampNeg px1) 4 0 (((mu V0 3 0 ((V0 0 0 1)).toNatClampNeg px1) 0 0 1)).toNatClampNeg px2) 0 0 1 (((mu (mu V0 3 0 ((V0 0 0 1)).toNatClampNeg px1) 4 0 (((mu V0 3 0 ((V0 0 0 1)).toNatClampNeg px1) 0 0 1)).toNatClampNeg px2) 0 0 1) + (1 : Int32)))) = res := Option.some.inj h
  subst e9
  exact W.iret (v := (((mu (mu (mu V0 3 0 ((V0 0 0 1)).toNatClampNeg px1) 4 0 (((mu V0 3 0 ((V0 0 0 1)).toNatClampNeg px1) 0 0 1)).toNatClampNeg px2) 0 0 1 (((mu (mu V0 3 0 ((V0 0 0 1)).toNatClampNeg px1) 4 0 (((mu V0 3 0 ((V0 0 0 1)).toNatClampNeg px1) 0 0 1)).toNatClampNeg px2) 0 0 1) + (1 : Int32))) 0 0 1) - (1 : Int32))) hx hb hr (fun t9 ht9 hW9 => ⟨⟨_, (), rfl, rfl, mR_of hM hK hAs hS.1 ht9 hW9⟩, hS.F ht9⟩) hS.2.2 dX8_make_36
/-! X8_refusal -/
def fX8_refusal  (px1 : Int32) (V0 : mM) : Option (Int32) := if bin px1 8 = true then (if (V0 22 0 (px1).toNatClampNeg) = 0 then (if bin px1 8 = true then (if bin px1 8 = true then (if bin px1 8 = true then (if ((V0 26 0 (px1).toNatClampNeg) + (V0 13 0 (px1).toNatClampNeg)) < (V0 12 0 (px1).toNatClampNeg) then (if bin px1 8 = true then (if (V0 14 0 (px1).toNatClampNeg) = 0 then (some (-4 : Int32)) else (some (0 : Int32))) else none) else (some (-2 : Int32))) else none) else none) else none) else (some (-3 : Int32))) else none
set_option maxHeartbeats 4000000 in
set_option maxRecDepth 100000 in
theorem kX8_refusal (l : Launch) {dC : Nat → ClassId} {dI : Nat → Nat → Nat} {A : Nat → Prop} {ad : Nat → Nat → Nat} {cI cZ : ClassId}  (px1 : Int32) (V0 : mM) {res : Int32} (h : fX8_refusal px1 V0 = some res) : Met l yX8_refusal wsX8_refusal ({ frames := 0, cells := 0, slots := 0, locals := 0 } : Room) (va_Pc [.ref (ad 0 0), .int px1] (fun U => mR dC dI A ad cI cZ V0 U)) (va_Qi (fun r9 (_ : Unit) => r9 = res) (fun _ t9 => mR dC dI A ad cI cZ V0 t9) A) 0 0 A := by
  refine Met.ofW (cc := cX8_refusal) (maxL := 2) (ret := (some .int)) (by decide) rfl ?_
  intro p e s m args below meth cd s₁ B hml hv
  obtain ⟨rfl, hM, hK, hAs⟩ := hv
  have hx := B.exec
  have hb := B.bytes
  have hr := B.returns
  have hts := atoms_spec (ws := wsX8_refusal) B.pre
  have hown : s.vm.findClass RX8 = some m.cls := findClass_of_methodNamed B.named
  have hlocks := B.notSynchronized
  have hS : va_S A s.heap s.heap [] := va_S.rf
  have k60 := hts (.fieldLink RX8 60 "StageDeskModel" "shut" "[Z") (by decide +kernel)
  have k73 := hts (.fieldLink RX8 73 "StageDeskModel" "waiting" "[I") (by decide +kernel)
  have k33 := hts (.fieldLink RX8 33 "StageDeskModel" "reserved" "[I") (by decide +kernel)
  have k30 := hts (.fieldLink RX8 30 "StageDeskModel" "bounds" "[I") (by decide +kernel)
  have k36 := hts (.fieldLink RX8 36 "StageDeskModel" "tokens" "[I") (by decide +kernel)
  have inX8 : ∀ w ∈ u_ws RX8 TX8 48, w ∈ wsX8_refusal := by decide +kernel
  have hl := lv_entry ([.ref (ad 0 0), .int px1]) (n := 2) (Nat.le_of_ble_eq_true rfl)
  rw [lg_entry_eq]
  generalize (lg_sl ([.ref (ad 0 0), .int px1]) ++ List.replicate (2 - (lg_sl ([.ref (ad 0 0), .int px1])).length) Slot.unset).toArray = ls at hl ⊢
  have hl : lv_has ls 2 [(0, .ref (ad 0 0)), (1, .int px1)] := hl
  unfold fX8_refusal at h
  refine lv_aload_n hx hb dX8_refusal_0 rfl (lv_at hl 0 rfl) ?_
  refine mm_get (C := RX8) (T := TX8) (N := 48) (ci := 8) hx hb hts inX8 hown hK hM 0 0 me0 rfl rfl 21 (by decide) k60 (fun _ h9 => h9) rfl dX8_refusal_1 ?_
  refine lv_iload_n hx hb dX8_refusal_4 rfl (lv_at hl 1 rfl) ?_
  obtain ⟨b_1, h⟩ := iteS h
  refine mm_zald hx hb hK hM 22 0 (me (by decide)) 1 rfl rfl (bin_in b_1) dX8_refusal_5 ?_
  refine lv_if_eq (tgt := 14) hx hb dX8_refusal_6 (by decide) (fun c_2 => ?_) (fun c_2 => ?_)
  · have h := iteT c_2 h
    refine lv_aload_n hx hb dX8_refusal_14 rfl (lv_at hl 0 rfl) ?_
    refine mm_get (C := RX8) (T := TX8) (N := 48) (ci := 8) hx hb hts inX8 hown hK hM 0 0 me0 rfl rfl 25 (by decide) k73 (fun _ h9 => h9) rfl dX8_refusal_15 ?_
    refine lv_iload_n hx hb dX8_refusal_18 rfl (lv_at hl 1 rfl) ?_
    obtain ⟨b_3, h⟩ := iteS h
    refine mm_iald hx hb hK hM 26 0 (me (by decide)) 0 rfl rfl (bin_in b_3) dX8_refusal_19 ?_
    refine lv_aload_n hx hb dX8_refusal_20 rfl (lv_at hl 0 rfl) ?_
    refine mm_get (C := RX8) (T := TX8) (N := 48) (ci := 8) hx hb hts inX8 hown hK hM 0 0 me0 rfl rfl 12 (by decide) k33 (fun _ h9 => h9) rfl dX8_refusal_21 ?_
    refine lv_iload_n hx hb dX8_refusal_24 rfl (lv_at hl 1 rfl) ?_
    obtain ⟨b_4, h⟩ := iteS h
    refine mm_iald hx hb hK hM 13 0 (me (by decide)) 0 rfl rfl (bin_in b_4) dX8_refusal_25 ?_
    refine lv_iadd hx hb dX8_refusal_26 ?_
    refine lv_aload_n hx hb dX8_refusal_27 rfl (lv_at hl 0 rfl) ?_
    refine mm_get (C := RX8) (T := TX8) (N := 48) (ci := 8) hx hb hts inX8 hown hK hM 0 0 me0 rfl rfl 11 (by decide) k30 (fun _ h9 => h9) rfl dX8_refusal_28 ?_
    refine lv_iload_n hx hb dX8_refusal_31 rfl (lv_at hl 1 rfl) ?_
    obtain ⟨b_5, h⟩ := iteS h
    refine mm_iald hx hb hK hM 12 0 (me (by decide)) 0 rfl rfl (bin_in b_5) dX8_refusal_32 ?_
    refine lv_icmp_lt (tgt := 41) hx hb dX8_refusal_33 (by decide) (fun c_6 => ?_) (fun c_6 => ?_)
    · have h := iteT c_6 h
      refine lv_aload_n hx hb dX8_refusal_41 rfl (lv_at hl 0 rfl) ?_
      refine mm_get (C := RX8) (T := TX8) (N := 48) (ci := 8) hx hb hts inX8 hown hK hM 0 0 me0 rfl rfl 13 (by decide) k36 (fun _ h9 => h9) rfl dX8_refusal_42 ?_
      refine lv_iload_n hx hb dX8_refusal_45 rfl (lv_at hl 1 rfl) ?_
      obtain ⟨b_7, h⟩ := iteS h
      refine mm_iald hx hb hK hM 14 0 (me (by decide)) 0 rfl rfl (bin_in b_7) dX8_refusal_46 ?_
      refine lv_if_ne (tgt := 55) hx hb dX8_refusal_47 (by decide) (fun c_8 => ?_) (fun c_8 => ?_)
      · have h := iteF c_8 h
        refine lv_iconst (v := 0) hx hb dX8_refusal_55 (by decide) ?_
        have e9 : (0 : Int32) = res := Option.some.inj h
        subst e9
        exact W.iret (v := (0 : Int32)) hx hb hr (fun t9 ht9 hW9 => ⟨⟨_, (), rfl, rfl, mR_of hM hK hAs hS.1 ht9 hW9⟩, hS.F ht9⟩) hS.2.2 dX8_refusal_56
      · have h := iteT c_8 h
        refine lv_bipush (v := (-4)) hx hb dX8_refusal_50 (by decide) ?_
        refine lv_goto (tgt := 56) hx hb dX8_refusal_52 (by decide) ?_
        have e9 : (-4 : Int32) = res := Option.some.inj h
        subst e9
        exact W.iret (v := (-4 : Int32)) hx hb hr (fun t9 ht9 hW9 => ⟨⟨_, (), rfl, rfl, mR_of hM hK hAs hS.1 ht9 hW9⟩, hS.F ht9⟩) hS.2.2 dX8_refusal_56
    · have h := iteF c_6 h
      refine lv_bipush (v := (-2)) hx hb dX8_refusal_36 (by decide) ?_
      refine lv_goto (tgt := 56) hx hb dX8_refusal_38 (by decide) ?_
      have e9 : (-2 : Int32) = res := Option.some.inj h
      subst e9
      exact W.iret (v := (-2 : Int32)) hx hb hr (fun t9 ht9 hW9 => ⟨⟨_, (), rfl, rfl, mR_of hM hK hAs hS.1 ht9 hW9⟩, hS.F ht9⟩) hS.2.2 dX8_refusal_56
  · have h := iteF c_2 h
    refine lv_bipush (v := (-3)) hx hb dX8_refusal_9 (by decide) ?_
    refine lv_goto (tgt := 56) hx hb dX8_refusal_11 (by decide) ?_
    have e9 : (-3 : Int32) = res := Option.some.inj h
    subst e9
    exact W.iret (v := (-3 : Int32)) hx hb hr (fun t9 ht9 hW9 => ⟨⟨_, (), rfl, rfl, mR_of hM hK hAs hS.1 ht9 hW9⟩, hS.F ht9⟩) hS.2.2 dX8_refusal_56
/-! X8_stand -/
def fX8_stand  (px1 : Int32) (px2 : Int32) (V0 : mM) : Option (mM) := if bin px1 8 = true then (if bin (((32 : Int32) * px1) + (V0 26 0 (px1).toNatClampNeg)) 256 = true then (if bin px1 8 = true then (if bin px1 8 = true then (some (mu (mu V0 27 0 ((((32 : Int32) * px1) + (V0 26 0 (px1).toNatClampNeg))).toNatClampNeg px2) 26 0 (px1).toNatClampNeg (((mu V0 27 0 ((((32 : Int32) * px1) + (V0 26 0 (px1).toNatClampNeg))).toNatClampNeg px2) 26 0 (px1).toNatClampNeg) + (1 : Int32)))) else none) else none) else none) else none
set_option maxHeartbeats 4000000 in
set_option maxRecDepth 100000 in
theorem kX8_stand (l : Launch) {dC : Nat → ClassId} {dI : Nat → Nat → Nat} {A : Nat → Prop} {ad : Nat → Nat → Nat} {cI cZ : ClassId}  (px1 : Int32) (px2 : Int32) (V0 : mM) {res : mM} (h : fX8_stand px1 px2 V0 = some res) : Met l yX8_stand wsX8_stand ({ frames := 0, cells := 0, slots := 0, locals := 0 } : Room) (va_Pc [.ref (ad 0 0), .int px1, .int px2] (fun U => mR dC dI A ad cI cZ V0 U)) (va_Qv (fun (_ : Unit) => True) (fun _ t9 => mR dC dI A ad cI cZ res t9) A) 0 0 A := by
  refine Met.ofW (cc := cX8_stand) (maxL := 3) (ret := none) (by decide) rfl ?_
  intro p e s m args below meth cd s₁ B hml hv
  obtain ⟨rfl, hM, hK, hAs⟩ := hv
  have hx := B.exec
  have hb := B.bytes
  have hr := B.returns
  have hts := atoms_spec (ws := wsX8_stand) B.pre
  have hown : s.vm.findClass RX8 = some m.cls := findClass_of_methodNamed B.named
  have hlocks := B.notSynchronized
  have hS : va_S A s.heap s.heap [] := va_S.rf
  have k76 := hts (.fieldLink RX8 76 "StageDeskModel" "queue" "[I") (by decide +kernel)
  have k73 := hts (.fieldLink RX8 73 "StageDeskModel" "waiting" "[I") (by decide +kernel)
  have inX8 : ∀ w ∈ u_ws RX8 TX8 48, w ∈ wsX8_stand := by decide +kernel
  have hl := lv_entry ([.ref (ad 0 0), .int px1, .int px2]) (n := 3) (Nat.le_of_ble_eq_true rfl)
  rw [lg_entry_eq]
  generalize (lg_sl ([.ref (ad 0 0), .int px1, .int px2]) ++ List.replicate (3 - (lg_sl ([.ref (ad 0 0), .int px1, .int px2])).length) Slot.unset).toArray = ls at hl ⊢
  have hl : lv_has ls 3 [(0, .ref (ad 0 0)), (1, .int px1), (2, .int px2)] := hl
  unfold fX8_stand at h
  refine lv_aload_n hx hb dX8_stand_0 rfl (lv_at hl 0 rfl) ?_
  refine mm_get (C := RX8) (T := TX8) (N := 48) (ci := 8) hx hb hts inX8 hown hK hM 0 0 me0 rfl rfl 26 (by decide) k76 (fun _ h9 => h9) rfl dX8_stand_1 ?_
  refine lv_bipush (v := 32) hx hb dX8_stand_4 (by decide) ?_
  refine lv_iload_n hx hb dX8_stand_6 rfl (lv_at hl 1 rfl) ?_
  refine lv_imul hx hb dX8_stand_7 ?_
  refine lv_aload_n hx hb dX8_stand_8 rfl (lv_at hl 0 rfl) ?_
  refine mm_get (C := RX8) (T := TX8) (N := 48) (ci := 8) hx hb hts inX8 hown hK hM 0 0 me0 rfl rfl 25 (by decide) k73 (fun _ h9 => h9) rfl dX8_stand_9 ?_
  refine lv_iload_n hx hb dX8_stand_12 rfl (lv_at hl 1 rfl) ?_
  obtain ⟨b_1, h⟩ := iteS h
  refine mm_iald hx hb hK hM 26 0 (me (by decide)) 0 rfl rfl (bin_in b_1) dX8_stand_13 ?_
  refine lv_iadd hx hb dX8_stand_14 ?_
  refine lv_iload_n hx hb dX8_stand_15 rfl (lv_at hl 2 rfl) ?_
  obtain ⟨b_2, h⟩ := iteS h
  refine mm_iast hx hb hK hM hS 27 0 (me (by decide)) 0 rfl rfl (bin_in b_2) rfl dX8_stand_16 (fun H locs hM hS => ?_)
  refine lv_aload_n hx hb dX8_stand_17 rfl (lv_at hl 0 rfl) ?_
  refine mm_get (C := RX8) (T := TX8) (N := 48) (ci := 8) hx hb hts inX8 hown hK hM 0 0 me0 rfl rfl 25 (by decide) k73 (fun _ h9 => h9) rfl dX8_stand_18 ?_
  refine lv_iload_n hx hb dX8_stand_21 rfl (lv_at hl 1 rfl) ?_
  refine lv_dup2_11 hx hb dX8_stand_22 rfl rfl ?_
  obtain ⟨b_3, h⟩ := iteS h
  refine mm_iald hx hb hK hM 26 0 (me (by decide)) 0 rfl rfl (bin_in b_3) dX8_stand_23 ?_
  refine lv_iconst (v := 1) hx hb dX8_stand_24 (by decide) ?_
  refine lv_iadd hx hb dX8_stand_25 ?_
  obtain ⟨b_4, h⟩ := iteS h
  refine mm_iast hx hb hK hM hS 26 0 (me (by decide)) 0 rfl rfl (bin_in b_4) rfl dX8_stand_26 (fun H locs hM hS => ?_)
  have e9 : (mu (mu V0 27 0 ((((32 : Int32) * px1) + (V0 26 0 (px1).toNatClampNeg))).toNatClampNeg px2) 26 0 (px1).toNatClampNeg (((mu V0 27 0 ((((32 : Int32) * px1) + (V0 26 0 (px1).toNatClampNeg))).toNatClampNeg px2) 26 0 (px1).toNatClampNeg) + (1 : Int32))) = res := Option.some.inj h
  subst e9
  exact W.vret hx hb hr (fun t9 ht9 hW9 => ⟨⟨(), rfl, trivial, mR_of hM hK hAs hS.1 ht9 hW9⟩, hS.F ht9⟩) hS.2.2 dX8_stand_27
/-! X8_offer -/
def fX8_offer  (px1 : Int32) (px2 : Int32) (V0 : mM) : Option (Int32 × mM) := (fX8_refusal px1 V0).bind fun u_1 => if 0 ≤ u_1 then ((fX8_stand px1 px2 V0).bind fun u_3 => if bin px1 8 = true then (if bin px1 8 = true then (some ((1 : Int32), (mu u_3 14 0 (px1).toNatClampNeg ((u_3 14 0 (px1).toNatClampNeg) - (1 : Int32))))) else none) else none) else (if bin px1 8 = true then (if bin px1 8 = true then (some ((0 : Int32), (mu V0 23 0 (px1).toNatClampNeg ((V0 23 0 (px1).toNatClampNeg) + (1 : Int32))))) else none) else none)
set_option maxHeartbeats 4000000 in
set_option maxRecDepth 100000 in
theorem kX8_offer (l : Launch) {dC : Nat → ClassId} {dI : Nat → Nat → Nat} {A : Nat → Prop} {ad : Nat → Nat → Nat} {cI cZ : ClassId}  (px1 : Int32) (px2 : Int32) (V0 : mM) {res : Int32 × mM} (h : fX8_offer px1 px2 V0 = some res) : Met l yX8_offer wsX8_offer ({ frames := 1, cells := 0, slots := 0, locals := 22 } : Room) (va_Pc [.ref (ad 0 0), .int px1, .int px2] (fun U => mR dC dI A ad cI cZ V0 U)) (va_Qi (fun r9 (_ : Unit) => r9 = res.1) (fun _ t9 => mR dC dI A ad cI cZ res.2 t9) A) 0 0 A := by
  refine Met.ofW (cc := cX8_offer) (maxL := 3) (ret := (some .boolean)) (by decide) rfl ?_
  intro p e s m args below meth cd s₁ B hml hv
  obtain ⟨rfl, hM, hK, hAs⟩ := hv
  have hx := B.exec
  have hb := B.bytes
  have hr := B.returns
  have hts := atoms_spec (ws := wsX8_offer) B.pre
  have hown : s.vm.findClass RX8 = some m.cls := findClass_of_methodNamed B.named
  have hlocks := B.notSynchronized
  have hS : va_S A s.heap s.heap [] := va_S.rf
  have k36 := hts (.fieldLink RX8 36 "StageDeskModel" "tokens" "[I") (by decide +kernel)
  have k64 := hts (.fieldLink RX8 64 "StageDeskModel" "refusals" "[I") (by decide +kernel)
  have inX8 : ∀ w ∈ u_ws RX8 TX8 48, w ∈ wsX8_offer := by decide +kernel
  have hl := lv_entry ([.ref (ad 0 0), .int px1, .int px2]) (n := 3) (Nat.le_of_ble_eq_true rfl)
  rw [lg_entry_eq]
  generalize (lg_sl ([.ref (ad 0 0), .int px1, .int px2]) ++ List.replicate (3 - (lg_sl ([.ref (ad 0 0), .int px1, .int px2])).length) Slot.unset).toArray = ls at hl ⊢
  have hl : lv_has ls 3 [(0, .ref (ad 0 0)), (1, .int px1), (2, .int px2)] := hl
  unfold fX8_offer at h
  refine lv_aload_n hx hb dX8_offer_0 rfl (lv_at hl 0 rfl) ?_
  refine lv_iload_n hx hb dX8_offer_1 rfl (lv_at hl 1 rfl) ?_
  obtain ⟨u_1, hu_1, h⟩ := bindS h
  refine va_calli (va_runV (As := [.int px1]) (rest := []) ⟨hx, hb, hml, hown, hts⟩ (kX8_refusal l px1 V0 hu_1) (cwV 1 hts gX8_offer_X8_refusal rfl rfl rfl (by decide +kernel) ⟨Nat.le_of_ble_eq_true rfl, Nat.le_of_ble_eq_true rfl⟩) ⟨fun a U g9 mk w9 => ⟨w9.1, mR_calling w9.2⟩, mP_recv (q := (RX8, TX8, 48)) hK hM me0 rfl rfl, fun U hU hWm => ⟨rfl, mR_of hM hK hAs hS.1 hU hWm⟩⟩ rfl rfl hl.1 rfl (lv_room (Nat.le_of_ble_eq_true rfl)) dX8_offer_2 ⟨Nat.le_of_ble_eq_true rfl, Nat.le_of_ble_eq_true rfl⟩) hS (fun _ _ h9 => h9) (fun _ h9 => h9) (fun r9 u9 t9 H locs ht9 _ hw9 hB9 _ _ hS => ?_)
  rw [show r9 = u_1 from hw9]
  obtain ⟨hM, -, -⟩ := hB9
  rw [ht9] at hM
  refine lv_if_ge (tgt := 20) hx hb dX8_offer_5 (by decide) (fun c_2 => ?_) (fun c_2 => ?_)
  · have h := iteT c_2 h
    refine lv_aload_n hx hb dX8_offer_20 rfl (lv_at hl 0 rfl) ?_
    refine lv_iload_n hx hb dX8_offer_21 rfl (lv_at hl 1 rfl) ?_
    refine lv_iload_n hx hb dX8_offer_22 rfl (lv_at hl 2 rfl) ?_
    obtain ⟨u_3, hu_3, h⟩ := bindS h
    refine va_callv (va_runV (As := [.int px1, .int px2]) (rest := []) ⟨hx, hb, hml, hown, hts⟩ (kX8_stand l px1 px2 V0 hu_3) (cwV 2 hts gX8_offer_X8_stand rfl rfl rfl (by decide +kernel) ⟨Nat.le_of_ble_eq_true rfl, Nat.le_of_ble_eq_true rfl⟩) ⟨fun a U g9 mk w9 => ⟨w9.1, mR_calling w9.2⟩, mP_recv (q := (RX8, TX8, 48)) hK hM me0 rfl rfl, fun U hU hWm => ⟨rfl, mR_of hM hK hAs hS.1 hU hWm⟩⟩ rfl rfl hl.1 rfl (lv_room (Nat.le_of_ble_eq_true rfl)) dX8_offer_23 ⟨Nat.le_of_ble_eq_true rfl, Nat.le_of_ble_eq_true rfl⟩) hS (fun _ _ h9 => h9) (fun _ h9 => h9) (fun u9 t9 H locs ht9 _ hw9 hB9 _ _ hS => ?_)
    obtain ⟨hM, -, -⟩ := hB9
    rw [ht9] at hM
    refine lv_aload_n hx hb dX8_offer_26 rfl (lv_at hl 0 rfl) ?_
    refine mm_get (C := RX8) (T := TX8) (N := 48) (ci := 8) hx hb hts inX8 hown hK hM 0 0 me0 rfl rfl 13 (by decide) k36 (fun _ h9 => h9) rfl dX8_offer_27 ?_
    refine lv_iload_n hx hb dX8_offer_30 rfl (lv_at hl 1 rfl) ?_
    refine lv_dup2_11 hx hb dX8_offer_31 rfl rfl ?_
    obtain ⟨b_4, h⟩ := iteS h
    refine mm_iald hx hb hK hM 14 0 (me (by decide)) 0 rfl rfl (bin_in b_4) dX8_offer_32 ?_
    refine lv_iconst (v := 1) hx hb dX8_offer_33 (by decide) ?_
    refine lv_isub hx hb dX8_offer_34 ?_
    obtain ⟨b_5, h⟩ := iteS h
    refine mm_iast hx hb hK hM hS 14 0 (me (by decide)) 0 rfl rfl (bin_in b_5) rfl dX8_offer_35 (fun H locs hM hS => ?_)
    refine lv_iconst (v := 1) hx hb dX8_offer_36 (by decide) ?_
    have e9 : ((1 : Int32), (mu u_3 14 0 (px1).toNatClampNeg ((u_3 14 0 (px1).toNatClampNeg) - (1 : Int32)))) = res := Option.some.inj h
    subst e9
    exact W.zret (v := (1 : Int32)) (ty := .boolean) hx hb hr rfl (fun t9 ht9 hW9 => ⟨⟨_, (), rfl, rfl, mR_of hM hK hAs hS.1 ht9 hW9⟩, hS.F ht9⟩) hS.2.2 dX8_offer_37
  · have h := iteF c_2 h
    refine lv_aload_n hx hb dX8_offer_8 rfl (lv_at hl 0 rfl) ?_
    refine mm_get (C := RX8) (T := TX8) (N := 48) (ci := 8) hx hb hts inX8 hown hK hM 0 0 me0 rfl rfl 22 (by decide) k64 (fun _ h9 => h9) rfl dX8_offer_9 ?_
    refine lv_iload_n hx hb dX8_offer_12 rfl (lv_at hl 1 rfl) ?_
    refine lv_dup2_11 hx hb dX8_offer_13 rfl rfl ?_
    obtain ⟨b_6, h⟩ := iteS h
    refine mm_iald hx hb hK hM 23 0 (me (by decide)) 0 rfl rfl (bin_in b_6) dX8_offer_14 ?_
    refine lv_iconst (v := 1) hx hb dX8_offer_15 (by decide) ?_
    refine lv_iadd hx hb dX8_offer_16 ?_
    obtain ⟨b_7, h⟩ := iteS h
    refine mm_iast hx hb hK hM hS 23 0 (me (by decide)) 0 rfl rfl (bin_in b_7) rfl dX8_offer_17 (fun H locs hM hS => ?_)
    refine lv_iconst (v := 0) hx hb dX8_offer_18 (by decide) ?_
    have e9 : ((0 : Int32), (mu V0 23 0 (px1).toNatClampNeg ((V0 23 0 (px1).toNatClampNeg) + (1 : Int32)))) = res := Option.some.inj h
    subst e9
    exact W.zret (v := (0 : Int32)) (ty := .boolean) hx hb hr rfl (fun t9 ht9 hW9 => ⟨⟨_, (), rfl, rfl, mR_of hM hK hAs hS.1 ht9 hW9⟩, hS.F ht9⟩) hS.2.2 dX8_offer_19
/-! X8_put -/
def fX8_put  (px1 : Int32) (px2 : Int32) (V0 : mM) : Option (Int32 × mM) := (fX8_isStage px1 V0).bind fun u_1 => if u_1 = 0 then (some ((-1 : Int32), V0)) else ((fX8_refusal px1 V0).bind fun u_3 => if 0 ≤ u_3 then ((fX8_offer px1 (V0 0 0 1) V0).bind fun u_5 => (fX8_make px2 (u_5.2 0 0 0) u_5.2).bind fun u_6 => some (u_6.1, u_6.2)) else (if bin px1 8 = true then (if bin px1 8 = true then (some (u_3, (mu V0 23 0 (px1).toNatClampNeg ((V0 23 0 (px1).toNatClampNeg) + (1 : Int32))))) else none) else none))
set_option maxHeartbeats 4000000 in
set_option maxRecDepth 100000 in
theorem kX8_put (l : Launch) {dC : Nat → ClassId} {dI : Nat → Nat → Nat} {A : Nat → Prop} {ad : Nat → Nat → Nat} {cI cZ : ClassId}  (px1 : Int32) (px2 : Int32) (V0 : mM) {res : Int32 × mM} (h : fX8_put px1 px2 V0 = some res) : Met l yX8_put wsX8_put ({ frames := 2, cells := 0, slots := 0, locals := 44 } : Room) (va_Pc [.ref (ad 0 0), .int px1, .int px2] (fun U => mR dC dI A ad cI cZ V0 U)) (va_Qi (fun r9 (_ : Unit) => r9 = res.1) (fun _ t9 => mR dC dI A ad cI cZ res.2 t9) A) 0 0 A := by
  refine Met.ofW (cc := cX8_put) (maxL := 5) (ret := (some .int)) (by decide) rfl ?_
  intro p e s m args below meth cd s₁ B hml hv
  obtain ⟨rfl, hM, hK, hAs⟩ := hv
  have hx := B.exec
  have hb := B.bytes
  have hr := B.returns
  have hts := atoms_spec (ws := wsX8_put) B.pre
  have hown : s.vm.findClass RX8 = some m.cls := findClass_of_methodNamed B.named
  have hlocks := B.notSynchronized
  have hS : va_S A s.heap s.heap [] := va_S.rf
  have k148 := hts (.fieldLink RX8 148 "StageDeskModel" "events" "I") (by decide +kernel)
  have k163 := hts (.fieldLink RX8 163 "StageDeskModel" "clock" "I") (by decide +kernel)
  have k64 := hts (.fieldLink RX8 64 "StageDeskModel" "refusals" "[I") (by decide +kernel)
  have inX8 : ∀ w ∈ u_ws RX8 TX8 48, w ∈ wsX8_put := by decide +kernel
  have hl := lv_entry ([.ref (ad 0 0), .int px1, .int px2]) (n := 5) (Nat.le_of_ble_eq_true rfl)
  rw [lg_entry_eq]
  generalize (lg_sl ([.ref (ad 0 0), .int px1, .int px2]) ++ List.replicate (5 - (lg_sl ([.ref (ad 0 0), .int px1, .int px2])).length) Slot.unset).toArray = ls at hl ⊢
  have hl : lv_has ls 5 [(0, .ref (ad 0 0)), (1, .int px1), (2, .int px2)] := hl
  unfold fX8_put at h
  refine lv_aload_n hx hb dX8_put_0 rfl (lv_at hl 0 rfl) ?_
  refine lv_iload_n hx hb dX8_put_1 rfl (lv_at hl 1 rfl) ?_
  obtain ⟨u_1, hu_1, h⟩ := bindS h
  refine va_calli (va_runV (As := [.int px1]) (rest := []) ⟨hx, hb, hml, hown, hts⟩ (kX8_isStage l px1 V0 hu_1) (cwV 1 hts gX8_put_X8_isStage rfl rfl rfl (by decide +kernel) ⟨Nat.le_of_ble_eq_true rfl, Nat.le_of_ble_eq_true rfl⟩) ⟨fun a U g9 mk w9 => ⟨w9.1, mR_calling w9.2⟩, mP_recv (q := (RX8, TX8, 48)) hK hM me0 rfl rfl, fun U hU hWm => ⟨rfl, mR_of hM hK hAs hS.1 hU hWm⟩⟩ rfl rfl hl.1 rfl (lv_room (Nat.le_of_ble_eq_true rfl)) dX8_put_2 ⟨Nat.le_of_ble_eq_true rfl, Nat.le_of_ble_eq_true rfl⟩) hS (fun _ _ h9 => h9) (fun _ h9 => h9) (fun r9 u9 t9 H locs ht9 _ hw9 hB9 _ _ hS => ?_)
  rw [show r9 = u_1 from hw9]
  obtain ⟨hM, -, -⟩ := hB9
  rw [ht9] at hM
  refine lv_if_ne (tgt := 10) hx hb dX8_put_5 (by decide) (fun c_2 => ?_) (fun c_2 => ?_)
  · have h := iteF c_2 h
    refine lv_aload_n hx hb dX8_put_10 rfl (lv_at hl 0 rfl) ?_
    refine lv_iload_n hx hb dX8_put_11 rfl (lv_at hl 1 rfl) ?_
    obtain ⟨u_3, hu_3, h⟩ := bindS h
    refine va_calli (va_runV (As := [.int px1]) (rest := []) ⟨hx, hb, hml, hown, hts⟩ (kX8_refusal l px1 V0 hu_3) (cwV 1 hts gX8_put_X8_refusal rfl rfl rfl (by decide +kernel) ⟨Nat.le_of_ble_eq_true rfl, Nat.le_of_ble_eq_true rfl⟩) ⟨fun a U g9 mk w9 => ⟨w9.1, mR_calling w9.2⟩, mP_recv (q := (RX8, TX8, 48)) hK hM me0 rfl rfl, fun U hU hWm => ⟨rfl, mR_of hM hK hAs hS.1 hU hWm⟩⟩ rfl rfl hl.1 rfl (lv_room (Nat.le_of_ble_eq_true rfl)) dX8_put_12 ⟨Nat.le_of_ble_eq_true rfl, Nat.le_of_ble_eq_true rfl⟩) hS (fun _ _ h9 => h9) (fun _ h9 => h9) (fun r9 u9 t9 H locs ht9 _ hw9 hB9 _ _ hS => ?_)
    rw [show r9 = u_3 from hw9]
    obtain ⟨hM, -, -⟩ := hB9
    rw [ht9] at hM
    refine lv_istore_n (lv' := [(3, .int u_3), (0, .ref (ad 0 0)), (1, .int px1), (2, .int px2)]) hx hb dX8_put_15 rfl hl (by decide) rfl (fun ls hl => ?_)
    refine lv_iload_n hx hb dX8_put_16 rfl (lv_at hl 0 rfl) ?_
    refine lv_if_ge (tgt := 32) hx hb dX8_put_17 (by decide) (fun c_4 => ?_) (fun c_4 => ?_)
    · have h := iteT c_4 h
      refine lv_aload_n hx hb dX8_put_32 rfl (lv_at hl 1 rfl) ?_
      refine lv_iload_n hx hb dX8_put_33 rfl (lv_at hl 2 rfl) ?_
      refine lv_aload_n hx hb dX8_put_34 rfl (lv_at hl 1 rfl) ?_
      refine mm_get (C := RX8) (T := TX8) (N := 48) (ci := 8) hx hb hts inX8 hown hK hM 0 0 me0 rfl rfl 1 (by decide) k148 (fun _ h9 => h9) rfl dX8_put_35 ?_
      obtain ⟨u_5, hu_5, h⟩ := bindS h
      refine va_calli (va_runV (As := [.int px1, .int (V0 0 0 1)]) (rest := []) ⟨hx, hb, hml, hown, hts⟩ (kX8_offer l px1 (V0 0 0 1) V0 hu_5) (cwV 2 hts gX8_put_X8_offer rfl rfl rfl (by decide +kernel) ⟨Nat.le_of_ble_eq_true rfl, Nat.le_of_ble_eq_true rfl⟩) ⟨fun a U g9 mk w9 => ⟨w9.1, mR_calling w9.2⟩, mP_recv (q := (RX8, TX8, 48)) hK hM me0 rfl rfl, fun U hU hWm => ⟨rfl, mR_of hM hK hAs hS.1 hU hWm⟩⟩ rfl rfl hl.1 rfl (lv_room (Nat.le_of_ble_eq_true rfl)) dX8_put_38 ⟨Nat.le_of_ble_eq_true rfl, Nat.le_of_ble_eq_true rfl⟩) hS (fun _ _ h9 => h9) (fun _ h9 => h9) (fun r9 u9 t9 H locs ht9 _ hw9 hB9 _ _ hS => ?_)
      rw [show r9 = u_5.1 from hw9]
      obtain ⟨hM, -, -⟩ := hB9
      rw [ht9] at hM
      refine lv_istore (lv' := [(4, .int u_5.1), (3, .int u_3), (0, .ref (ad 0 0)), (1, .int px1), (2, .int px2)]) hx hb dX8_put_41 hl (by decide) rfl (fun ls hl => ?_)
      refine lv_aload_n hx hb dX8_put_43 rfl (lv_at hl 2 rfl) ?_
      refine lv_iload_n hx hb dX8_put_44 rfl (lv_at hl 4 rfl) ?_
      refine lv_aload_n hx hb dX8_put_45 rfl (lv_at hl 2 rfl) ?_
      refine mm_get (C := RX8) (T := TX8) (N := 48) (ci := 8) hx hb hts inX8 hown hK hM 0 0 me0 rfl rfl 0 (by decide) k163 (fun _ h9 => h9) rfl dX8_put_46 ?_
      obtain ⟨u_6, hu_6, h⟩ := bindS h
      refine va_calli (va_runV (As := [.int px2, .int (u_5.2 0 0 0)]) (rest := []) ⟨hx, hb, hml, hown, hts⟩ (kX8_make l px2 (u_5.2 0 0 0) u_5.2 hu_6) (cwV 2 hts gX8_put_X8_make rfl rfl rfl (by decide +kernel) ⟨Nat.le_of_ble_eq_true rfl, Nat.le_of_ble_eq_true rfl⟩) ⟨fun a U g9 mk w9 => ⟨w9.1, mR_calling w9.2⟩, mP_recv (q := (RX8, TX8, 48)) hK hM me0 rfl rfl, fun U hU hWm => ⟨rfl, mR_of hM hK hAs hS.1 hU hWm⟩⟩ rfl rfl hl.1 rfl (lv_room (Nat.le_of_ble_eq_true rfl)) dX8_put_49 ⟨Nat.le_of_ble_eq_true rfl, Nat.le_of_ble_eq_true rfl⟩) hS (fun _ _ h9 => h9) (fun _ h9 => h9) (fun r9 u9 t9 H locs ht9 _ hw9 hB9 _ _ hS => ?_)
      rw [show r9 = u_6.1 from hw9]
      obtain ⟨hM, -, -⟩ := hB9
      rw [ht9] at hM
      have e9 : (u_6.1, u_6.2) = res := Option.some.inj h
      subst e9
      exact W.iret (v := u_6.1) hx hb hr (fun t9 ht9 hW9 => ⟨⟨_, (), rfl, rfl, mR_of hM hK hAs hS.1 ht9 hW9⟩, hS.F ht9⟩) hS.2.2 dX8_put_52
    · have h := iteF c_4 h
      refine lv_aload_n hx hb dX8_put_20 rfl (lv_at hl 1 rfl) ?_
      refine mm_get (C := RX8) (T := TX8) (N := 48) (ci := 8) hx hb hts inX8 hown hK hM 0 0 me0 rfl rfl 22 (by decide) k64 (fun _ h9 => h9) rfl dX8_put_21 ?_
      refine lv_iload_n hx hb dX8_put_24 rfl (lv_at hl 2 rfl) ?_
      refine lv_dup2_11 hx hb dX8_put_25 rfl rfl ?_
      obtain ⟨b_7, h⟩ := iteS h
      refine mm_iald hx hb hK hM 23 0 (me (by decide)) 0 rfl rfl (bin_in b_7) dX8_put_26 ?_
      refine lv_iconst (v := 1) hx hb dX8_put_27 (by decide) ?_
      refine lv_iadd hx hb dX8_put_28 ?_
      obtain ⟨b_8, h⟩ := iteS h
      refine mm_iast hx hb hK hM hS 23 0 (me (by decide)) 0 rfl rfl (bin_in b_8) rfl dX8_put_29 (fun H locs hM hS => ?_)
      refine lv_iload_n hx hb dX8_put_30 rfl (lv_at hl 0 rfl) ?_
      have e9 : (u_3, (mu V0 23 0 (px1).toNatClampNeg ((V0 23 0 (px1).toNatClampNeg) + (1 : Int32)))) = res := Option.some.inj h
      subst e9
      exact W.iret (v := u_3) hx hb hr (fun t9 ht9 hW9 => ⟨⟨_, (), rfl, rfl, mR_of hM hK hAs hS.1 ht9 hW9⟩, hS.F ht9⟩) hS.2.2 dX8_put_31
  · have h := iteT c_2 h
    refine lv_iconst (v := (-1)) hx hb dX8_put_8 (by decide) ?_
    have e9 : ((-1 : Int32), V0) = res := Option.some.inj h
    subst e9
    exact W.iret (v := (-1 : Int32)) hx hb hr (fun t9 ht9 hW9 => ⟨⟨_, (), rfl, rfl, mR_of hM hK hAs hS.1 ht9 hW9⟩, hS.F ht9⟩) hS.2.2 dX8_put_9
/-! X8_prepare -/
def fX8_prepare  (px1 : Int32) (px2 : Int32) (V0 : mM) : Option (Int32 × mM) := (fX8_isStage px1 V0).bind fun u_1 => if u_1 = 0 then (some ((-1 : Int32), V0)) else ((fX8_in px2 (1 : Int32) (8 : Int32) V0).bind fun u_3 => if u_3 = 0 then (some ((-1 : Int32), V0)) else (if bin px1 8 = true then (if (V0 22 0 (px1).toNatClampNeg) = 0 then (if bin px1 8 = true then (if bin px1 8 = true then (if bin px1 8 = true then (if (((V0 26 0 (px1).toNatClampNeg) + (V0 13 0 (px1).toNatClampNeg)) + px2) ≤ (V0 12 0 (px1).toNatClampNeg) then (if bin px1 8 = true then (if bin px1 8 = true then (some ((1 : Int32), (mu V0 13 0 (px1).toNatClampNeg ((V0 13 0 (px1).toNatClampNeg) + px2)))) else none) else none) else (some ((-2 : Int32), V0))) else none) else none) else none) else (some ((-3 : Int32), V0))) else none))
set_option maxHeartbeats 4000000 in
set_option maxRecDepth 100000 in
theorem kX8_prepare (l : Launch) {dC : Nat → ClassId} {dI : Nat → Nat → Nat} {A : Nat → Prop} {ad : Nat → Nat → Nat} {cI cZ : ClassId}  (px1 : Int32) (px2 : Int32) (V0 : mM) {res : Int32 × mM} (h : fX8_prepare px1 px2 V0 = some res) : Met l yX8_prepare wsX8_prepare ({ frames := 1, cells := 0, slots := 0, locals := 22 } : Room) (va_Pc [.ref (ad 0 0), .int px1, .int px2] (fun U => mR dC dI A ad cI cZ V0 U)) (va_Qi (fun r9 (_ : Unit) => r9 = res.1) (fun _ t9 => mR dC dI A ad cI cZ res.2 t9) A) 0 0 A := by
  refine Met.ofW (cc := cX8_prepare) (maxL := 3) (ret := (some .int)) (by decide) rfl ?_
  intro p e s m args below meth cd s₁ B hml hv
  obtain ⟨rfl, hM, hK, hAs⟩ := hv
  have hx := B.exec
  have hb := B.bytes
  have hr := B.returns
  have hts := atoms_spec (ws := wsX8_prepare) B.pre
  have hown : s.vm.findClass RX8 = some m.cls := findClass_of_methodNamed B.named
  have hlocks := B.notSynchronized
  have hS : va_S A s.heap s.heap [] := va_S.rf
  have k60 := hts (.fieldLink RX8 60 "StageDeskModel" "shut" "[Z") (by decide +kernel)
  have k73 := hts (.fieldLink RX8 73 "StageDeskModel" "waiting" "[I") (by decide +kernel)
  have k33 := hts (.fieldLink RX8 33 "StageDeskModel" "reserved" "[I") (by decide +kernel)
  have k30 := hts (.fieldLink RX8 30 "StageDeskModel" "bounds" "[I") (by decide +kernel)
  have inX8 : ∀ w ∈ u_ws RX8 TX8 48, w ∈ wsX8_prepare := by decide +kernel
  have hl := lv_entry ([.ref (ad 0 0), .int px1, .int px2]) (n := 3) (Nat.le_of_ble_eq_true rfl)
  rw [lg_entry_eq]
  generalize (lg_sl ([.ref (ad 0 0), .int px1, .int px2]) ++ List.replicate (3 - (lg_sl ([.ref (ad 0 0), .int px1, .int px2])).length) Slot.unset).toArray = ls at hl ⊢
  have hl : lv_has ls 3 [(0, .ref (ad 0 0)), (1, .int px1), (2, .int px2)] := hl
  unfold fX8_prepare at h
  refine lv_aload_n hx hb dX8_prepare_0 rfl (lv_at hl 0 rfl) ?_
  refine lv_iload_n hx hb dX8_prepare_1 rfl (lv_at hl 1 rfl) ?_
  obtain ⟨u_1, hu_1, h⟩ := bindS h
  refine va_calli (va_runV (As := [.int px1]) (rest := []) ⟨hx, hb, hml, hown, hts⟩ (kX8_isStage l px1 V0 hu_1) (cwV 1 hts gX8_prepare_X8_isStage rfl rfl rfl (by decide +kernel) ⟨Nat.le_of_ble_eq_true rfl, Nat.le_of_ble_eq_true rfl⟩) ⟨fun a U g9 mk w9 => ⟨w9.1, mR_calling w9.2⟩, mP_recv (q := (RX8, TX8, 48)) hK hM me0 rfl rfl, fun U hU hWm => ⟨rfl, mR_of hM hK hAs hS.1 hU hWm⟩⟩ rfl rfl hl.1 rfl (lv_room (Nat.le_of_ble_eq_true rfl)) dX8_prepare_2 ⟨Nat.le_of_ble_eq_true rfl, Nat.le_of_ble_eq_true rfl⟩) hS (fun _ _ h9 => h9) (fun _ h9 => h9) (fun r9 u9 t9 H locs ht9 _ hw9 hB9 _ _ hS => ?_)
  rw [show r9 = u_1 from hw9]
  obtain ⟨hM, -, -⟩ := hB9
  rw [ht9] at hM
  refine lv_if_eq (tgt := 18) hx hb dX8_prepare_5 (by decide) (fun c_2 => ?_) (fun c_2 => ?_)
  · have h := iteT c_2 h
    refine lv_iconst (v := (-1)) hx hb dX8_prepare_18 (by decide) ?_
    have e9 : ((-1 : Int32), V0) = res := Option.some.inj h
    subst e9
    exact W.iret (v := (-1 : Int32)) hx hb hr (fun t9 ht9 hW9 => ⟨⟨_, (), rfl, rfl, mR_of hM hK hAs hS.1 ht9 hW9⟩, hS.F ht9⟩) hS.2.2 dX8_prepare_19
  · have h := iteF c_2 h
    refine lv_iload_n hx hb dX8_prepare_8 rfl (lv_at hl 2 rfl) ?_
    refine lv_iconst (v := 1) hx hb dX8_prepare_9 (by decide) ?_
    refine lv_bipush (v := 8) hx hb dX8_prepare_10 (by decide) ?_
    obtain ⟨u_3, hu_3, h⟩ := bindS h
    refine va_calli (va_runS (As := [.int px2, .int (1 : Int32), .int (8 : Int32)]) (rest := []) ⟨hx, hb, hml, hown, hts⟩ (kX8_in l px2 (1 : Int32) (8 : Int32) V0 hu_3) (va_cwS 3 hts gX8_prepare_X8_in rfl rfl rfl (by decide +kernel) ⟨Nat.le_of_ble_eq_true rfl, Nat.le_of_ble_eq_true rfl⟩) ⟨fun a U g9 mk w9 => ⟨w9.1, mR_calling w9.2⟩, fun U hU hWm => ⟨rfl, mR_of hM hK hAs hS.1 hU hWm⟩⟩ rfl rfl hl.1 rfl (lv_room (Nat.le_of_ble_eq_true rfl)) dX8_prepare_12 ⟨Nat.le_of_ble_eq_true rfl, Nat.le_of_ble_eq_true rfl⟩) hS (fun _ _ h9 => h9) (fun _ h9 => h9) (fun r9 u9 t9 H locs ht9 _ hw9 hB9 _ _ hS => ?_)
    rw [show r9 = u_3 from hw9]
    obtain ⟨hM, -, -⟩ := hB9
    rw [ht9] at hM
    refine lv_if_ne (tgt := 20) hx hb dX8_prepare_15 (by decide) (fun c_4 => ?_) (fun c_4 => ?_)
    · have h := iteF c_4 h
      refine lv_aload_n hx hb dX8_prepare_20 rfl (lv_at hl 0 rfl) ?_
      refine mm_get (C := RX8) (T := TX8) (N := 48) (ci := 8) hx hb hts inX8 hown hK hM 0 0 me0 rfl rfl 21 (by decide) k60 (fun _ h9 => h9) rfl dX8_prepare_21 ?_
      refine lv_iload_n hx hb dX8_prepare_24 rfl (lv_at hl 1 rfl) ?_
      obtain ⟨b_5, h⟩ := iteS h
      refine mm_zald hx hb hK hM 22 0 (me (by decide)) 1 rfl rfl (bin_in b_5) dX8_prepare_25 ?_
      refine lv_if_eq (tgt := 32) hx hb dX8_prepare_26 (by decide) (fun c_6 => ?_) (fun c_6 => ?_)
      · have h := iteT c_6 h
        refine lv_aload_n hx hb dX8_prepare_32 rfl (lv_at hl 0 rfl) ?_
        refine mm_get (C := RX8) (T := TX8) (N := 48) (ci := 8) hx hb hts inX8 hown hK hM 0 0 me0 rfl rfl 25 (by decide) k73 (fun _ h9 => h9) rfl dX8_prepare_33 ?_
        refine lv_iload_n hx hb dX8_prepare_36 rfl (lv_at hl 1 rfl) ?_
        obtain ⟨b_7, h⟩ := iteS h
        refine mm_iald hx hb hK hM 26 0 (me (by decide)) 0 rfl rfl (bin_in b_7) dX8_prepare_37 ?_
        refine lv_aload_n hx hb dX8_prepare_38 rfl (lv_at hl 0 rfl) ?_
        refine mm_get (C := RX8) (T := TX8) (N := 48) (ci := 8) hx hb hts inX8 hown hK hM 0 0 me0 rfl rfl 12 (by decide) k33 (fun _ h9 => h9) rfl dX8_prepare_39 ?_
        refine lv_iload_n hx hb dX8_prepare_42 rfl (lv_at hl 1 rfl) ?_
        obtain ⟨b_8, h⟩ := iteS h
        refine mm_iald hx hb hK hM 13 0 (me (by decide)) 0 rfl rfl (bin_in b_8) dX8_prepare_43 ?_
        refine lv_iadd hx hb dX8_prepare_44 ?_
        refine lv_iload_n hx hb dX8_prepare_45 rfl (lv_at hl 2 rfl) ?_
        refine lv_iadd hx hb dX8_prepare_46 ?_
        refine lv_aload_n hx hb dX8_prepare_47 rfl (lv_at hl 0 rfl) ?_
        refine mm_get (C := RX8) (T := TX8) (N := 48) (ci := 8) hx hb hts inX8 hown hK hM 0 0 me0 rfl rfl 11 (by decide) k30 (fun _ h9 => h9) rfl dX8_prepare_48 ?_
        refine lv_iload_n hx hb dX8_prepare_51 rfl (lv_at hl 1 rfl) ?_
        obtain ⟨b_9, h⟩ := iteS h
        refine mm_iald hx hb hK hM 12 0 (me (by decide)) 0 rfl rfl (bin_in b_9) dX8_prepare_52 ?_
        refine lv_icmp_le (tgt := 59) hx hb dX8_prepare_53 (by decide) (fun c_10 => ?_) (fun c_10 => ?_)
        · have h := iteT c_10 h
          refine lv_aload_n hx hb dX8_prepare_59 rfl (lv_at hl 0 rfl) ?_
          refine mm_get (C := RX8) (T := TX8) (N := 48) (ci := 8) hx hb hts inX8 hown hK hM 0 0 me0 rfl rfl 12 (by decide) k33 (fun _ h9 => h9) rfl dX8_prepare_60 ?_
          refine lv_iload_n hx hb dX8_prepare_63 rfl (lv_at hl 1 rfl) ?_
          refine lv_dup2_11 hx hb dX8_prepare_64 rfl rfl ?_
          obtain ⟨b_11, h⟩ := iteS h
          refine mm_iald hx hb hK hM 13 0 (me (by decide)) 0 rfl rfl (bin_in b_11) dX8_prepare_65 ?_
          refine lv_iload_n hx hb dX8_prepare_66 rfl (lv_at hl 2 rfl) ?_
          refine lv_iadd hx hb dX8_prepare_67 ?_
          obtain ⟨b_12, h⟩ := iteS h
          refine mm_iast hx hb hK hM hS 13 0 (me (by decide)) 0 rfl rfl (bin_in b_12) rfl dX8_prepare_68 (fun H locs hM hS => ?_)
          refine lv_iconst (v := 1) hx hb dX8_prepare_69 (by decide) ?_
          have e9 : ((1 : Int32), (mu V0 13 0 (px1).toNatClampNeg ((V0 13 0 (px1).toNatClampNeg) + px2))) = res := Option.some.inj h
          subst e9
          exact W.iret (v := (1 : Int32)) hx hb hr (fun t9 ht9 hW9 => ⟨⟨_, (), rfl, rfl, mR_of hM hK hAs hS.1 ht9 hW9⟩, hS.F ht9⟩) hS.2.2 dX8_prepare_70
        · have h := iteF c_10 h
          refine lv_bipush (v := (-2)) hx hb dX8_prepare_56 (by decide) ?_
          have e9 : ((-2 : Int32), V0) = res := Option.some.inj h
          subst e9
          exact W.iret (v := (-2 : Int32)) hx hb hr (fun t9 ht9 hW9 => ⟨⟨_, (), rfl, rfl, mR_of hM hK hAs hS.1 ht9 hW9⟩, hS.F ht9⟩) hS.2.2 dX8_prepare_58
      · have h := iteF c_6 h
        refine lv_bipush (v := (-3)) hx hb dX8_prepare_29 (by decide) ?_
        have e9 : ((-3 : Int32), V0) = res := Option.some.inj h
        subst e9
        exact W.iret (v := (-3 : Int32)) hx hb hr (fun t9 ht9 hW9 => ⟨⟨_, (), rfl, rfl, mR_of hM hK hAs hS.1 ht9 hW9⟩, hS.F ht9⟩) hS.2.2 dX8_prepare_31
    · have h := iteT c_4 h
      refine lv_iconst (v := (-1)) hx hb dX8_prepare_18 (by decide) ?_
      have e9 : ((-1 : Int32), V0) = res := Option.some.inj h
      subst e9
      exact W.iret (v := (-1 : Int32)) hx hb hr (fun t9 ht9 hW9 => ⟨⟨_, (), rfl, rfl, mR_of hM hK hAs hS.1 ht9 hW9⟩, hS.F ht9⟩) hS.2.2 dX8_prepare_19
/-! X8_commit -/
def lpX8_commit_36   : Nat → Int32 → Int32 → Int32 → mM → Option (Int32 × mM)
  | 0, _, _, _, _ => none
  | n9 + 1, x1, x2, x3, V => if bin x1 8 = true then (if (V 13 0 (x1).toNatClampNeg) ≤ 0 then (some (x3, V)) else ((fX8_make x2 (V 0 0 0) V).bind fun u_3 => (fX8_stand x1 u_3.1 u_3.2).bind fun u_4 => if bin x1 8 = true then (if bin x1 8 = true then (lpX8_commit_36 n9 x1 x2 x3 (mu u_4 13 0 (x1).toNatClampNeg ((u_4 13 0 (x1).toNatClampNeg) - (1 : Int32)))) else none) else none)) else none
def fX8_commit  (px1 : Int32) (px2 : Int32) (V0 : mM) : Option (Int32 × mM) := (fX8_isStage px1 V0).bind fun u_7 => if u_7 = 0 then (some ((-1 : Int32), V0)) else (if bin px1 8 = true then (if (V0 13 0 (px1).toNatClampNeg) = 0 then (some ((-1 : Int32), V0)) else (if bin px1 8 = true then (if (V0 22 0 (px1).toNatClampNeg) = 0 then (lpX8_commit_36 fu px1 px2 (V0 0 0 1) V0) else (some ((-3 : Int32), V0))) else none)) else none)
set_option maxHeartbeats 4000000 in
set_option maxRecDepth 100000 in
theorem kX8_commit (l : Launch) {dC : Nat → ClassId} {dI : Nat → Nat → Nat} {A : Nat → Prop} {ad : Nat → Nat → Nat} {cI cZ : ClassId}  (px1 : Int32) (px2 : Int32) (V0 : mM) {res : Int32 × mM} (h : fX8_commit px1 px2 V0 = some res) : Met l yX8_commit wsX8_commit ({ frames := 1, cells := 0, slots := 0, locals := 22 } : Room) (va_Pc [.ref (ad 0 0), .int px1, .int px2] (fun U => mR dC dI A ad cI cZ V0 U)) (va_Qi (fun r9 (_ : Unit) => r9 = res.1) (fun _ t9 => mR dC dI A ad cI cZ res.2 t9) A) 0 0 A := by
  refine Met.ofW (cc := cX8_commit) (maxL := 4) (ret := (some .int)) (by decide) rfl ?_
  intro p e s m args below meth cd s₁ B hml hv
  obtain ⟨rfl, hM, hK, hAs⟩ := hv
  have hx := B.exec
  have hb := B.bytes
  have hr := B.returns
  have hts := atoms_spec (ws := wsX8_commit) B.pre
  have hown : s.vm.findClass RX8 = some m.cls := findClass_of_methodNamed B.named
  have hlocks := B.notSynchronized
  have hS : va_S A s.heap s.heap [] := va_S.rf
  have k33 := hts (.fieldLink RX8 33 "StageDeskModel" "reserved" "[I") (by decide +kernel)
  have k163 := hts (.fieldLink RX8 163 "StageDeskModel" "clock" "I") (by decide +kernel)
  have k60 := hts (.fieldLink RX8 60 "StageDeskModel" "shut" "[Z") (by decide +kernel)
  have k148 := hts (.fieldLink RX8 148 "StageDeskModel" "events" "I") (by decide +kernel)
  have inX8 : ∀ w ∈ u_ws RX8 TX8 48, w ∈ wsX8_commit := by decide +kernel
  have hb36 : ∀ (n9 : Nat), ∀ (x1 : Int32) (x2 : Int32) (x3 : Int32) (V : mM), lpX8_commit_36 n9 x1 x2 x3 V = some res → ∀ (H : Heap) (locs : List Loc), mP (dC, dI) vwCl A ad (mce cI cZ ad) mex V H → va_S A s.heap H locs → ∀ (ls : Array Slot), lv_has ls 4 [(0, .ref (ad 0 0)), (1, .int x1), (2, .int x2), (3, .int x3)] → W p l e (headSpec wsX8_commit ({ frames := 1, cells := 0, slots := 0, locals := 22 } : Room)).room s m ([.ref (ad 0 0), .int px1, .int px2] : List Value).toArray below meth cd H locs 0 0 (MQ below (va_Qi (fun r9 (_ : Unit) => r9 = res.1) (fun _ t9 => mR dC dI A ad cI cZ res.2 t9) A) ([.ref (ad 0 0), .int px1, .int px2] : List Value).toArray s 0 0 A) (F0 m 36 ls []) := by
    intro  n9
    induction n9 with
    | zero =>
      intro x1 x2 x3 V h H locs hM hS ls hl
      rw [lpX8_commit_36] at h
      cases h
    | succ n9 ih =>
      intro x1 x2 x3 V h H locs hM hS ls hl
      rw [lpX8_commit_36] at h
      refine lv_aload_n hx hb dX8_commit_36 rfl (lv_at hl 0 rfl) ?_
      refine mm_get (C := RX8) (T := TX8) (N := 48) (ci := 8) hx hb hts inX8 hown hK hM 0 0 me0 rfl rfl 12 (by decide) k33 (fun _ h9 => h9) rfl dX8_commit_37 ?_
      refine lv_iload_n hx hb dX8_commit_40 rfl (lv_at hl 1 rfl) ?_
      obtain ⟨b_1, h⟩ := iteS h
      refine mm_iald hx hb hK hM 13 0 (me (by decide)) 0 rfl rfl (bin_in b_1) dX8_commit_41 ?_
      refine lv_if_le (tgt := 72) hx hb dX8_commit_42 (by decide) (fun c_2 => ?_) (fun c_2 => ?_)
      · have h := iteT c_2 h
        refine lv_iload_n hx hb dX8_commit_72 rfl (lv_at hl 3 rfl) ?_
        have e9 : (x3, V) = res := Option.some.inj h
        subst e9
        exact W.iret (v := x3) hx hb hr (fun t9 ht9 hW9 => ⟨⟨_, (), rfl, rfl, mR_of hM hK hAs hS.1 ht9 hW9⟩, hS.F ht9⟩) hS.2.2 dX8_commit_73
      · have h := iteF c_2 h
        refine lv_aload_n hx hb dX8_commit_45 rfl (lv_at hl 0 rfl) ?_
        refine lv_iload_n hx hb dX8_commit_46 rfl (lv_at hl 1 rfl) ?_
        refine lv_aload_n hx hb dX8_commit_47 rfl (lv_at hl 0 rfl) ?_
        refine lv_iload_n hx hb dX8_commit_48 rfl (lv_at hl 2 rfl) ?_
        refine lv_aload_n hx hb dX8_commit_49 rfl (lv_at hl 0 rfl) ?_
        refine mm_get (C := RX8) (T := TX8) (N := 48) (ci := 8) hx hb hts inX8 hown hK hM 0 0 me0 rfl rfl 0 (by decide) k163 (fun _ h9 => h9) rfl dX8_commit_50 ?_
        obtain ⟨u_3, hu_3, h⟩ := bindS h
        refine va_calli (va_runV (As := [.int x2, .int (V 0 0 0)]) (rest := [.int x1, .ref (ad 0 0)]) ⟨hx, hb, hml, hown, hts⟩ (kX8_make l x2 (V 0 0 0) V hu_3) (cwV 2 hts gX8_commit_X8_make rfl rfl rfl (by decide +kernel) ⟨Nat.le_of_ble_eq_true rfl, Nat.le_of_ble_eq_true rfl⟩) ⟨fun a U g9 mk w9 => ⟨w9.1, mR_calling w9.2⟩, mP_recv (q := (RX8, TX8, 48)) hK hM me0 rfl rfl, fun U hU hWm => ⟨rfl, mR_of hM hK hAs hS.1 hU hWm⟩⟩ rfl rfl hl.1 rfl (lv_room (Nat.le_of_ble_eq_true rfl)) dX8_commit_53 ⟨Nat.le_of_ble_eq_true rfl, Nat.le_of_ble_eq_true rfl⟩) hS (fun _ _ h9 => h9) (fun _ h9 => h9) (fun r9 u9 t9 H locs ht9 _ hw9 hB9 _ _ hS => ?_)
        rw [show r9 = u_3.1 from hw9]
        obtain ⟨hM, -, -⟩ := hB9
        rw [ht9] at hM
        obtain ⟨u_4, hu_4, h⟩ := bindS h
        refine va_callv (va_runV (As := [.int x1, .int u_3.1]) (rest := []) ⟨hx, hb, hml, hown, hts⟩ (kX8_stand l x1 u_3.1 u_3.2 hu_4) (cwV 2 hts gX8_commit_X8_stand rfl rfl rfl (by decide +kernel) ⟨Nat.le_of_ble_eq_true rfl, Nat.le_of_ble_eq_true rfl⟩) ⟨fun a U g9 mk w9 => ⟨w9.1, mR_calling w9.2⟩, mP_recv (q := (RX8, TX8, 48)) hK hM me0 rfl rfl, fun U hU hWm => ⟨rfl, mR_of hM hK hAs hS.1 hU hWm⟩⟩ rfl rfl hl.1 rfl (lv_room (Nat.le_of_ble_eq_true rfl)) dX8_commit_56 ⟨Nat.le_of_ble_eq_true rfl, Nat.le_of_ble_eq_true rfl⟩) hS (fun _ _ h9 => h9) (fun _ h9 => h9) (fun u9 t9 H locs ht9 _ hw9 hB9 _ _ hS => ?_)
        obtain ⟨hM, -, -⟩ := hB9
        rw [ht9] at hM
        refine lv_aload_n hx hb dX8_commit_59 rfl (lv_at hl 0 rfl) ?_
        refine mm_get (C := RX8) (T := TX8) (N := 48) (ci := 8) hx hb hts inX8 hown hK hM 0 0 me0 rfl rfl 12 (by decide) k33 (fun _ h9 => h9) rfl dX8_commit_60 ?_
        refine lv_iload_n hx hb dX8_commit_63 rfl (lv_at hl 1 rfl) ?_
        refine lv_dup2_11 hx hb dX8_commit_64 rfl rfl ?_
        obtain ⟨b_5, h⟩ := iteS h
        refine mm_iald hx hb hK hM 13 0 (me (by decide)) 0 rfl rfl (bin_in b_5) dX8_commit_65 ?_
        refine lv_iconst (v := 1) hx hb dX8_commit_66 (by decide) ?_
        refine lv_isub hx hb dX8_commit_67 ?_
        obtain ⟨b_6, h⟩ := iteS h
        refine mm_iast hx hb hK hM hS 13 0 (me (by decide)) 0 rfl rfl (bin_in b_6) rfl dX8_commit_68 (fun H locs hM hS => ?_)
        refine lv_goto (tgt := 36) hx hb dX8_commit_69 (by decide) ?_
        exact ih _ _ _ _ h _ _  hM hS ls (lv_sub hl [0, 1, 2, 3] rfl)
  have hl := lv_entry ([.ref (ad 0 0), .int px1, .int px2]) (n := 4) (Nat.le_of_ble_eq_true rfl)
  rw [lg_entry_eq]
  generalize (lg_sl ([.ref (ad 0 0), .int px1, .int px2]) ++ List.replicate (4 - (lg_sl ([.ref (ad 0 0), .int px1, .int px2])).length) Slot.unset).toArray = ls at hl ⊢
  have hl : lv_has ls 4 [(0, .ref (ad 0 0)), (1, .int px1), (2, .int px2)] := hl
  unfold fX8_commit at h
  refine lv_aload_n hx hb dX8_commit_0 rfl (lv_at hl 0 rfl) ?_
  refine lv_iload_n hx hb dX8_commit_1 rfl (lv_at hl 1 rfl) ?_
  obtain ⟨u_7, hu_7, h⟩ := bindS h
  refine va_calli (va_runV (As := [.int px1]) (rest := []) ⟨hx, hb, hml, hown, hts⟩ (kX8_isStage l px1 V0 hu_7) (cwV 1 hts gX8_commit_X8_isStage rfl rfl rfl (by decide +kernel) ⟨Nat.le_of_ble_eq_true rfl, Nat.le_of_ble_eq_true rfl⟩) ⟨fun a U g9 mk w9 => ⟨w9.1, mR_calling w9.2⟩, mP_recv (q := (RX8, TX8, 48)) hK hM me0 rfl rfl, fun U hU hWm => ⟨rfl, mR_of hM hK hAs hS.1 hU hWm⟩⟩ rfl rfl hl.1 rfl (lv_room (Nat.le_of_ble_eq_true rfl)) dX8_commit_2 ⟨Nat.le_of_ble_eq_true rfl, Nat.le_of_ble_eq_true rfl⟩) hS (fun _ _ h9 => h9) (fun _ h9 => h9) (fun r9 u9 t9 H locs ht9 _ hw9 hB9 _ _ hS => ?_)
  rw [show r9 = u_7 from hw9]
  obtain ⟨hM, -, -⟩ := hB9
  rw [ht9] at hM
  refine lv_if_eq (tgt := 17) hx hb dX8_commit_5 (by decide) (fun c_8 => ?_) (fun c_8 => ?_)
  · have h := iteT c_8 h
    refine lv_iconst (v := (-1)) hx hb dX8_commit_17 (by decide) ?_
    have e9 : ((-1 : Int32), V0) = res := Option.some.inj h
    subst e9
    exact W.iret (v := (-1 : Int32)) hx hb hr (fun t9 ht9 hW9 => ⟨⟨_, (), rfl, rfl, mR_of hM hK hAs hS.1 ht9 hW9⟩, hS.F ht9⟩) hS.2.2 dX8_commit_18
  · have h := iteF c_8 h
    refine lv_aload_n hx hb dX8_commit_8 rfl (lv_at hl 0 rfl) ?_
    refine mm_get (C := RX8) (T := TX8) (N := 48) (ci := 8) hx hb hts inX8 hown hK hM 0 0 me0 rfl rfl 12 (by decide) k33 (fun _ h9 => h9) rfl dX8_commit_9 ?_
    refine lv_iload_n hx hb dX8_commit_12 rfl (lv_at hl 1 rfl) ?_
    obtain ⟨b_9, h⟩ := iteS h
    refine mm_iald hx hb hK hM 13 0 (me (by decide)) 0 rfl rfl (bin_in b_9) dX8_commit_13 ?_
    refine lv_if_ne (tgt := 19) hx hb dX8_commit_14 (by decide) (fun c_10 => ?_) (fun c_10 => ?_)
    · have h := iteF c_10 h
      refine lv_aload_n hx hb dX8_commit_19 rfl (lv_at hl 0 rfl) ?_
      refine mm_get (C := RX8) (T := TX8) (N := 48) (ci := 8) hx hb hts inX8 hown hK hM 0 0 me0 rfl rfl 21 (by decide) k60 (fun _ h9 => h9) rfl dX8_commit_20 ?_
      refine lv_iload_n hx hb dX8_commit_23 rfl (lv_at hl 1 rfl) ?_
      obtain ⟨b_11, h⟩ := iteS h
      refine mm_zald hx hb hK hM 22 0 (me (by decide)) 1 rfl rfl (bin_in b_11) dX8_commit_24 ?_
      refine lv_if_eq (tgt := 31) hx hb dX8_commit_25 (by decide) (fun c_12 => ?_) (fun c_12 => ?_)
      · have h := iteT c_12 h
        refine lv_aload_n hx hb dX8_commit_31 rfl (lv_at hl 0 rfl) ?_
        refine mm_get (C := RX8) (T := TX8) (N := 48) (ci := 8) hx hb hts inX8 hown hK hM 0 0 me0 rfl rfl 1 (by decide) k148 (fun _ h9 => h9) rfl dX8_commit_32 ?_
        refine lv_istore_n (lv' := [(3, .int (V0 0 0 1)), (0, .ref (ad 0 0)), (1, .int px1), (2, .int px2)]) hx hb dX8_commit_35 rfl hl (by decide) rfl (fun ls hl => ?_)
        exact hb36 fu _ _ _ _ h _ _  hM hS ls (lv_sub hl [1, 2, 3, 0] rfl)
      · have h := iteF c_12 h
        refine lv_bipush (v := (-3)) hx hb dX8_commit_28 (by decide) ?_
        have e9 : ((-3 : Int32), V0) = res := Option.some.inj h
        subst e9
        exact W.iret (v := (-3 : Int32)) hx hb hr (fun t9 ht9 hW9 => ⟨⟨_, (), rfl, rfl, mR_of hM hK hAs hS.1 ht9 hW9⟩, hS.F ht9⟩) hS.2.2 dX8_commit_30
    · have h := iteT c_10 h
      refine lv_iconst (v := (-1)) hx hb dX8_commit_17 (by decide) ?_
      have e9 : ((-1 : Int32), V0) = res := Option.some.inj h
      subst e9
      exact W.iret (v := (-1 : Int32)) hx hb hr (fun t9 ht9 hW9 => ⟨⟨_, (), rfl, rfl, mR_of hM hK hAs hS.1 ht9 hW9⟩, hS.F ht9⟩) hS.2.2 dX8_commit_18
/-! X8_abort -/
def fX8_abort  (px1 : Int32) (V0 : mM) : Option (Int32 × mM) := (fX8_isStage px1 V0).bind fun u_1 => if u_1 = 0 then (some ((-1 : Int32), V0)) else (if bin px1 8 = true then (if bin px1 8 = true then (some ((V0 13 0 (px1).toNatClampNeg), (mu V0 13 0 (px1).toNatClampNeg (0 : Int32)))) else none) else none)
set_option maxHeartbeats 4000000 in
set_option maxRecDepth 100000 in
theorem kX8_abort (l : Launch) {dC : Nat → ClassId} {dI : Nat → Nat → Nat} {A : Nat → Prop} {ad : Nat → Nat → Nat} {cI cZ : ClassId}  (px1 : Int32) (V0 : mM) {res : Int32 × mM} (h : fX8_abort px1 V0 = some res) : Met l yX8_abort wsX8_abort ({ frames := 1, cells := 0, slots := 0, locals := 21 } : Room) (va_Pc [.ref (ad 0 0), .int px1] (fun U => mR dC dI A ad cI cZ V0 U)) (va_Qi (fun r9 (_ : Unit) => r9 = res.1) (fun _ t9 => mR dC dI A ad cI cZ res.2 t9) A) 0 0 A := by
  refine Met.ofW (cc := cX8_abort) (maxL := 3) (ret := (some .int)) (by decide) rfl ?_
  intro p e s m args below meth cd s₁ B hml hv
  obtain ⟨rfl, hM, hK, hAs⟩ := hv
  have hx := B.exec
  have hb := B.bytes
  have hr := B.returns
  have hts := atoms_spec (ws := wsX8_abort) B.pre
  have hown : s.vm.findClass RX8 = some m.cls := findClass_of_methodNamed B.named
  have hlocks := B.notSynchronized
  have hS : va_S A s.heap s.heap [] := va_S.rf
  have k33 := hts (.fieldLink RX8 33 "StageDeskModel" "reserved" "[I") (by decide +kernel)
  have inX8 : ∀ w ∈ u_ws RX8 TX8 48, w ∈ wsX8_abort := by decide +kernel
  have hl := lv_entry ([.ref (ad 0 0), .int px1]) (n := 3) (Nat.le_of_ble_eq_true rfl)
  rw [lg_entry_eq]
  generalize (lg_sl ([.ref (ad 0 0), .int px1]) ++ List.replicate (3 - (lg_sl ([.ref (ad 0 0), .int px1])).length) Slot.unset).toArray = ls at hl ⊢
  have hl : lv_has ls 3 [(0, .ref (ad 0 0)), (1, .int px1)] := hl
  unfold fX8_abort at h
  refine lv_aload_n hx hb dX8_abort_0 rfl (lv_at hl 0 rfl) ?_
  refine lv_iload_n hx hb dX8_abort_1 rfl (lv_at hl 1 rfl) ?_
  obtain ⟨u_1, hu_1, h⟩ := bindS h
  refine va_calli (va_runV (As := [.int px1]) (rest := []) ⟨hx, hb, hml, hown, hts⟩ (kX8_isStage l px1 V0 hu_1) (cwV 1 hts gX8_abort_X8_isStage rfl rfl rfl (by decide +kernel) ⟨Nat.le_of_ble_eq_true rfl, Nat.le_of_ble_eq_true rfl⟩) ⟨fun a U g9 mk w9 => ⟨w9.1, mR_calling w9.2⟩, mP_recv (q := (RX8, TX8, 48)) hK hM me0 rfl rfl, fun U hU hWm => ⟨rfl, mR_of hM hK hAs hS.1 hU hWm⟩⟩ rfl rfl hl.1 rfl (lv_room (Nat.le_of_ble_eq_true rfl)) dX8_abort_2 ⟨Nat.le_of_ble_eq_true rfl, Nat.le_of_ble_eq_true rfl⟩) hS (fun _ _ h9 => h9) (fun _ h9 => h9) (fun r9 u9 t9 H locs ht9 _ hw9 hB9 _ _ hS => ?_)
  rw [show r9 = u_1 from hw9]
  obtain ⟨hM, -, -⟩ := hB9
  rw [ht9] at hM
  refine lv_if_ne (tgt := 10) hx hb dX8_abort_5 (by decide) (fun c_2 => ?_) (fun c_2 => ?_)
  · have h := iteF c_2 h
    refine lv_aload_n hx hb dX8_abort_10 rfl (lv_at hl 0 rfl) ?_
    refine mm_get (C := RX8) (T := TX8) (N := 48) (ci := 8) hx hb hts inX8 hown hK hM 0 0 me0 rfl rfl 12 (by decide) k33 (fun _ h9 => h9) rfl dX8_abort_11 ?_
    refine lv_iload_n hx hb dX8_abort_14 rfl (lv_at hl 1 rfl) ?_
    obtain ⟨b_3, h⟩ := iteS h
    refine mm_iald hx hb hK hM 13 0 (me (by decide)) 0 rfl rfl (bin_in b_3) dX8_abort_15 ?_
    refine lv_istore_n (lv' := [(2, .int (V0 13 0 (px1).toNatClampNeg)), (0, .ref (ad 0 0)), (1, .int px1)]) hx hb dX8_abort_16 rfl hl (by decide) rfl (fun ls hl => ?_)
    refine lv_aload_n hx hb dX8_abort_17 rfl (lv_at hl 1 rfl) ?_
    refine mm_get (C := RX8) (T := TX8) (N := 48) (ci := 8) hx hb hts inX8 hown hK hM 0 0 me0 rfl rfl 12 (by decide) k33 (fun _ h9 => h9) rfl dX8_abort_18 ?_
    refine lv_iload_n hx hb dX8_abort_21 rfl (lv_at hl 2 rfl) ?_
    refine lv_iconst (v := 0) hx hb dX8_abort_22 (by decide) ?_
    obtain ⟨b_4, h⟩ := iteS h
    refine mm_iast hx hb hK hM hS 13 0 (me (by decide)) 0 rfl rfl (bin_in b_4) rfl dX8_abort_23 (fun H locs hM hS => ?_)
    refine lv_iload_n hx hb dX8_abort_24 rfl (lv_at hl 0 rfl) ?_
    have e9 : ((V0 13 0 (px1).toNatClampNeg), (mu V0 13 0 (px1).toNatClampNeg (0 : Int32))) = res := Option.some.inj h
    subst e9
    exact W.iret (v := (V0 13 0 (px1).toNatClampNeg)) hx hb hr (fun t9 ht9 hW9 => ⟨⟨_, (), rfl, rfl, mR_of hM hK hAs hS.1 ht9 hW9⟩, hS.F ht9⟩) hS.2.2 dX8_abort_25
  · have h := iteT c_2 h
    refine lv_iconst (v := (-1)) hx hb dX8_abort_8 (by decide) ?_
    have e9 : ((-1 : Int32), V0) = res := Option.some.inj h
    subst e9
    exact W.iret (v := (-1 : Int32)) hx hb hr (fun t9 ht9 hW9 => ⟨⟨_, (), rfl, rfl, mR_of hM hK hAs hS.1 ht9 hW9⟩, hS.F ht9⟩) hS.2.2 dX8_abort_9
/-! X8_timer -/
def fX8_timer  (px1 : Int32) (px2 : Int32) (px3 : Int32) (V0 : mM) : Option (Int32 × mM) := (fX8_isStage px1 V0).bind fun u_1 => if u_1 = 0 then (some ((-1 : Int32), V0)) else ((fX8_in px3 (1 : Int32) (1000 : Int32) V0).bind fun u_3 => if u_3 = 0 then (some ((-1 : Int32), V0)) else (if (V0 0 0 43) = (50 : Int32) then (some ((-2 : Int32), V0)) else (if bin (V0 0 0 43) 50 = true then (if bin ((mu V0 45 0 ((V0 0 0 43)).toNatClampNeg (V0 0 0 42)) 0 0 43) 50 = true then (if bin ((mu (mu V0 45 0 ((V0 0 0 43)).toNatClampNeg (V0 0 0 42)) 46 0 (((mu V0 45 0 ((V0 0 0 43)).toNatClampNeg (V0 0 0 42)) 0 0 43)).toNatClampNeg px1) 0 0 43) 50 = true then (if bin ((mu (mu (mu V0 45 0 ((V0 0 0 43)).toNatClampNeg (V0 0 0 42)) 46 0 (((mu V0 45 0 ((V0 0 0 43)).toNatClampNeg (V0 0 0 42)) 0 0 43)).toNatClampNeg px1) 47 0 (((mu (mu V0 45 0 ((V0 0 0 43)).toNatClampNeg (V0 0 0 42)) 46 0 (((mu V0 45 0 ((V0 0 0 43)).toNatClampNeg (V0 0 0 42)) 0 0 43)).toNatClampNeg px1) 0 0 43)).toNatClampNeg px2) 0 0 43) 50 = true then (some ((((mu (mu (mu (mu (mu (mu V0 45 0 ((V0 0 0 43)).toNatClampNeg (V0 0 0 42)) 46 0 (((mu V0 45 0 ((V0 0 0 43)).toNatClampNeg (V0 0 0 42)) 0 0 43)).toNatClampNeg px1) 47 0 (((mu (mu V0 45 0 ((V0 0 0 43)).toNatClampNeg (V0 0 0 42)) 46 0 (((mu V0 45 0 ((V0 0 0 43)).toNatClampNeg (V0 0 0 42)) 0 0 43)).toNatClampNeg px1) 0 0 43)).toNatClampNeg px2) 48 0 (((mu (mu (mu V0 45 0 ((V0 0 0 43)).toNatClampNeg (V0 0 0 42)) 46 0 (((mu V0 45 0 ((V0 0 0 43)).toNatClampNeg (V0 0 0 42)) 0 0 43)).toNatClampNeg px1) 47 0 (((mu (mu V0 45 0 ((V0 0 0 43)).toNatClampNeg (V0 0 0 42)) 46 0 (((mu V0 45 0 ((V0 0 0 43)).toNatClampNeg (V0 0 0 42)) 0 0 43)).toNatClampNeg px1) 0 0 43)).toNatClampNeg px2) 0 0 43)).toNatClampNeg (((mu (mu (mu V0 45 0 ((V0 0 0 43)).toNatClampNeg (V0 0 0 42)) 46 0 (((mu V0 45 0 ((V0 0 0 43)).toNatClampNeg (V0 0 0 42)) 0 0 43)).toNatClampNeg px1) 47 0 (((mu (mu V0 45 0 ((V0 0 0 43)).toNatClampNeg (V0 0 0 42)) 46 0 (((mu V0 45 0 ((V0 0 0 43)).toNatClampNeg (V0 0 0 42)) 0 0 43)).toNatClampNeg px1) 0 0 43)).toNatClampNeg px2) 0 0 0) + px3)) 0 0 43 (((mu (mu (mu (mu V0 45 0 ((V0 0 0 43)).toNatClampNeg (V0 0 0 42)) 46 0 (((mu V0 45 0 ((V0 0 0 43)).toNatClampNeg (V0 0 0 42)) 0 0 43)).toNatClampNeg px1) 47 0 (((mu (mu V0 45 0 ((V0 0 0 43)).toNatClampNeg (V0 0 0 42)) 46 0 (((mu V0 45 0 ((V0 0 0 43)).toNatClampNeg (V0 0 0 42)) 0 0 43)).toNatClampNeg px1) 0 0 43)).toNatClampNeg px2) 48 0 (((mu (mu (mu V0 45 0 ((V0 0 0 43)).toNatClampNeg (V0 0 0 42)) 46 0 (((mu V0 45 0 ((V0 0 0 43)).toNatClampNeg (V0 0 0 42)) 0 0 43)).toNatClampNeg px1) 47 0 (((mu (mu V0 45 0 ((V0 0 0 43)).toNatClampNeg (V0 0 0 42)) 46 0 (((mu V0 45 0 ((V0 0 0 43)).toNatClampNeg (V0 0 0 42)) 0 0 43)).toNatClampNeg px1) 0 0 43)).toNatClampNeg px2) 0 0 43)).toNatClampNeg (((mu (mu (mu V0 45 0 ((V0 0 0 43)).toNatClampNeg (V0 0 0 42)) 46 0 (((mu V0 45 0 ((V0 0 0 43)).toNatClampNeg (V0 0 0 42)) 0 0 43)).toNatClampNeg px1) 47 0 (((mu (mu V0 45 0 ((V0 0 0 43)).toNatClampNeg (V0 0 0 42)) 46 0 (((mu V0 45 0 ((V0 0 0 43)).toNatClampNeg (V0 0 0 42)) 0 0 43)).toNatClampNeg px1) 0 0 43)).toNatClampNeg px2) 0 0 0) + px3)) 0 0 43) + (1 : Int32))) 0 0 42 (((mu (mu (mu (mu (mu V0 45 0 ((V0 0 0 43)).toNatClampNeg (V0 0 0 42)) 46 0 (((mu V0 45 0 ((V0 0 0 43)).toNatClampNeg (V0 0 0 42)) 0 0 43)).toNatClampNeg px1) 47 0 (((mu (mu V0 45 0 ((V0 0 0 43)).toNatClampNeg (V0 0 0 42)) 46 0 (((mu V0 45 0 ((V0 0 0 43)).toNatClampNeg (V0 0 0 42)) 0 0 43)).toNatClampNeg px1) 0 0 43)).toNatClampNeg px2) 48 0 (((mu (mu (mu V0 45 0 ((V0 0 0 43)).toNatClampNeg (V0 0 0 42)) 46 0 (((mu V0 45 0 ((V0 0 0 43)).toNatClampNeg (V0 0 0 42)) 0 0 43)).toNatClampNeg px1) 47 0 (((mu (mu V0 45 0 ((V0 0 0 43)).toNatClampNeg (V0 0 0 42)) 46 0 (((mu V0 45 0 ((V0 0 0 43)).toNatClampNeg (V0 0 0 42)) 0 0 43)).toNatClampNeg px1) 0 0 43)).toNatClampNeg px2) 0 0 43)).toNatClampNeg (((mu (mu (mu V0 45 0 ((V0 0 0 43)).toNatClampNeg (V0 0 0 42)) 46 0 (((mu V0 45 0 ((V0 0 0 43)).toNatClampNeg (V0 0 0 42)) 0 0 43)).toNatClampNeg px1) 47 0 (((mu (mu V0 45 0 ((V0 0 0 43)).toNatClampNeg (V0 0 0 42)) 46 0 (((mu V0 45 0 ((V0 0 0 43)).toNatClampNeg (V0 0 0 42)) 0 0 43)).toNatClampNeg px1) 0 0 43)).toNatClampNeg px2) 0 0 0) + px3)) 0 0 43 (((mu (mu (mu (mu V0 45 0 ((V0 0 0 43)).toNatClampNeg (V0 0 0 42)) 46 0 (((mu V0 45 0 ((V0 0 0 43)).toNatClampNeg (V0 0 0 42)) 0 0 43)).toNatClampNeg px1) 47 0 (((mu (mu V0 45 0 ((V0 0 0 43)).toNatClampNeg (V0 0 0 42)) 46 0 (((mu V0 45 0 ((V0 0 0 43)).toNatClampNeg (V0 0 0 42)) 0 0 43)).toNatClampNeg px1) 0 0 43)).toNatClampNeg px2) 48 0 (((mu (mu (mu V0 45 0 ((V0 0 0 43)).toNatClampNeg (V0 0 0 42)) 46 0 (((mu V0 45 0 ((V0 0 0 43)).toNatClampNeg (V0 0 0 42)) 0 0 43)).toNatClampNeg px1) 47 0 (((mu (mu V0 45 0 ((V0 0 0 43)).toNatClampNeg (V0 0 0 42)) 46 0 (((mu V0 45 0 ((V0 0 0 43)).toNatClampNeg (V0 0 0 42)) 0 0 43)).toNatClampNeg px1) 0 0 43)).toNatClampNeg px2) 0 0 43)).toNatClampNeg (((mu (mu (mu V0 45 0 ((V0 0 0 43)).toNatClampNeg (V0 0 0 42)) 46 0 (((mu V0 45 0 ((V0 0 0 43)).toNatClampNeg (V0 0 0 42)) 0 0 43)).toNatClampNeg px1) 47 0 (((mu (mu V0 45 0 ((V0 0 0 43)).toNatClampNeg (V0 0 0 42)) 46 0 (((mu V0 45 0 ((V0 0 0 43)).toNatClampNeg (V0 0 0 42)) 0 0 43)).toNatClampNeg px1) 0 0 43)).toNatClampNeg px2) 0 0 0) + px3)) 0 0 43) + (1 : Int32))) 0 0 42) + (1 : Int32))) 0 0 42) - (1 : Int32)), (mu (mu (mu (mu (mu (mu V0 45 0 ((V0 0 0 43)).toNatClampNeg (V0 0 0 42)) 46 0 (((mu V0 45 0 ((V0 0 0 43)).toNatClampNeg (V0 0 0 42)) 0 0 43)).toNatClampNeg px1) 47 0 (((mu (mu V0 45 0 ((V0 0 0 43)).toNatClampNeg (V0 0 0 42)) 46 0 (((mu V0 45 0 ((V0 0 0 43)).toNatClampNeg (V0 0 0 42)) 0 0 43)).toNatClampNeg px1) 0 0 43)).toNatClampNeg px2) 48 0 (((mu (mu (mu V0 45 0 ((V0 0 0 43)).toNatClampNeg (V0 0 0 42)) 46 0 (((mu V0 45 0 ((V0 0 0 43)).toNatClampNeg (V0 0 0 42)) 0 0 43)).toNatClampNeg px1) 47 0 (((mu (mu V0 45 0 ((V0 0 0 43)).toNatClampNeg (V0 0 0 42)) 46 0 (((mu V0 45 0 ((V0 0 0 43)).toNatClampNeg (V0 0 0 42)) 0 0 43)).toNatClampNeg px1) 0 0 43)).toNatClampNeg px2) 0 0 43)).toNatClampNeg (((mu (mu (mu V0 45 0 ((V0 0 0 43)).toNatClampNeg (V0 0 0 42)) 46 0 (((mu V0 45 0 ((V0 0 0 43)).toNatClampNeg (V0 0 0 42)) 0 0 43)).toNatClampNeg px1) 47 0 (((mu (mu V0 45 0 ((V0 0 0 43)).toNatClampNeg (V0 0 0 42)) 46 0 (((mu V0 45 0 ((V0 0 0 43)).toNatClampNeg (V0 0 0 42)) 0 0 43)).toNatClampNeg px1) 0 0 43)).toNatClampNeg px2) 0 0 0) + px3)) 0 0 43 (((mu (mu (mu (mu V0 45 0 ((V0 0 0 43)).toNatClampNeg (V0 0 0 42)) 46 0 (((mu V0 45 0 ((V0 0 0 43)).toNatClampNeg (V0 0 0 42)) 0 0 43)).toNatClampNeg px1) 47 0 (((mu (mu V0 45 0 ((V0 0 0 43)).toNatClampNeg (V0 0 0 42)) 46 0 (((mu V0 45 0 ((V0 0 0 43)).toNatClampNeg (V0 0 0 42)) 0 0 43)).toNatClampNeg px1) 0 0 43)).toNatClampNeg px2) 48 0 (((mu (mu (mu V0 45 0 ((V0 0 0 43)).toNatClampNeg (V0 0 0 42)) 46 0 (((mu V0 45 0 ((V0 0 0 43)).toNatClampNeg (V0 0 0 42)) 0 0 43)).toNatClampNeg px1) 47 0 (((mu (mu V0 45 0 ((V0 0 0 43)).toNatClampNeg (V0 0 0 42)) 46 0 (((mu V0 45 0 ((V0 0 0 43)).toNatClampNeg (V0 0 0 42)) 0 0 43)).toNatClampNeg px1) 0 0 43)).toNatClampNeg px2) 0 0 43)).toNatClampNeg (((mu (mu (mu V0 45 0 ((V0 0 0 43)).toNatClampNeg (V0 0 0 42)) 46 0 (((mu V0 45 0 ((V0 0 0 43)).toNatClampNeg (V0 0 0 42)) 0 0 43)).toNatClampNeg px1) 47 0 (((mu (mu V0 45 0 ((V0 0 0 43)).toNatClampNeg (V0 0 0 42)) 46 0 (((mu V0 45 0 ((V0 0 0 43)).toNatClampNeg (V0 0 0 42)) 0 0 43)).toNatClampNeg px1) 0 0 43)).toNatClampNeg px2) 0 0 0) + px3)) 0 0 43) + (1 : Int32))) 0 0 42 (((mu (mu (mu (mu (mu V0 45 0 ((V0 0 0 43)).toNatClampNeg (V0 0 0 42)) 46 0 (((mu V0 45 0 ((V0 0 0 43)).toNatClampNeg (V0 0 0 42)) 0 0 43)).toNatClampNeg px1) 47 0 (((mu (mu V0 45 0 ((V0 0 0 43)).toNatClampNeg (V0 0 0 42)) 46 0 (((mu V0 45 0 ((V0 0 0 43)).toNatClampNeg (V0 0 0 42)) 0 0 43)).toNatClampNeg px1) 0 0 43)).toNatClampNeg px2) 48 0 (((mu (mu (mu V0 45 0 ((V0 0 0 43)).toNatClampNeg (V0 0 0 42)) 46 0 (((mu V0 45 0 ((V0 0 0 43)).toNatClampNeg (V0 0 0 42)) 0 0 43)).toNatClampNeg px1) 47 0 (((mu (mu V0 45 0 ((V0 0 0 43)).toNatClampNeg (V0 0 0 42)) 46 0 (((mu V0 45 0 ((V0 0 0 43)).toNatClampNeg (V0 0 0 42)) 0 0 43)).toNatClampNeg px1) 0 0 43)).toNatClampNeg px2) 0 0 43)).toNatClampNeg (((mu (mu (mu V0 45 0 ((V0 0 0 43)).toNatClampNeg (V0 0 0 42)) 46 0 (((mu V0 45 0 ((V0 0 0 43)).toNatClampNeg (V0 0 0 42)) 0 0 43)).toNatClampNeg px1) 47 0 (((mu (mu V0 45 0 ((V0 0 0 43)).toNatClampNeg (V0 0 0 42)) 46 0 (((mu V0 45 0 ((V0 0 0 43)).toNatClampNeg (V0 0 0 42)) 0 0 43)).toNatClampNeg px1) 0 0 43)).toNatClampNeg px2) 0 0 0) + px3)) 0 0 43 (((mu (mu (mu (mu V0 45 0 ((V0 0 0 43)).toNatClampNeg (V0 0 0 42)) 46 0 (((mu V0 45 0 ((V0 0 0 43)).toNatClampNeg (V0 0 0 42)) 0 0 43)).toNatClampNeg px1) 47 0 (((mu (mu V0 45 0 ((V0 0 0 43)).toNatClampNeg (V0 0 0 42)) 46 0 (((mu V0 45 0 ((V0 0 0 43)).toNatClampNeg (V0 0 0 42)) 0 0 43)).toNatClampNeg px1) 0 0 43)).toNatClampNeg px2) 48 0 (((mu (mu (mu V0 45 0 ((V0 0 0 43)).toNatClampNeg (V0 0 0 42)) 46 0 (((mu V0 45 0 ((V0 0 0 43)).toNatClampNeg (V0 0 0 42)) 0 0 43)).toNatClampNeg px1) 47 0 (((mu (mu V0 45 0 ((V0 0 0 43)).toNatClampNeg (V0 0 0 42)) 46 0 (((mu V0 45 0 ((V0 0 0 43)).toNatClampNeg (V0 0 0 42)) 0 0 43)).toNatClampNeg px1) 0 0 43)).toNatClampNeg px2) 0 0 43)).toNatClampNeg (((mu (mu (mu V0 45 0 ((V0 0 0 43)).toNatClampNeg (V0 0 0 42)) 46 0 (((mu V0 45 0 ((V0 0 0 43)).toNatClampNeg (V0 0 0 42)) 0 0 43)).toNatClampNeg px1) 47 0 (((mu (mu V0 45 0 ((V0 0 0 43)).toNatClampNeg (V0 0 0 42)) 46 0 (((mu V0 45 0 ((V0 0 0 43)).toNatClampNeg (V0 0 0 42)) 0 0 43)).toNatClampNeg px1) 0 0 43)).toNatClampNeg px2) 0 0 0) + px3)) 0 0 43) + (1 : Int32))) 0 0 42) + (1 : Int32))))) else none) else none) else none) else none)))
set_option maxHeartbeats 4000000 in
set_option maxRecDepth 100000 in
theorem kX8_timer (l : Launch) {dC : Nat → ClassId} {dI : Nat → Nat → Nat} {A : Nat → Prop} {ad : Nat → Nat → Nat} {cI cZ : ClassId}  (px1 : Int32) (px2 : Int32) (px3 : Int32) (V0 : mM) {res : Int32 × mM} (h : fX8_timer px1 px2 px3 V0 = some res) : Met l yX8_timer wsX8_timer ({ frames := 1, cells := 0, slots := 0, locals := 22 } : Room) (va_Pc [.ref (ad 0 0), .int px1, .int px2, .int px3] (fun U => mR dC dI A ad cI cZ V0 U)) (va_Qi (fun r9 (_ : Unit) => r9 = res.1) (fun _ t9 => mR dC dI A ad cI cZ res.2 t9) A) 0 0 A := by
  refine Met.ofW (cc := cX8_timer) (maxL := 4) (ret := (some .int)) (by decide) rfl ?_
  intro p e s m args below meth cd s₁ B hml hv
  obtain ⟨rfl, hM, hK, hAs⟩ := hv
  have hx := B.exec
  have hb := B.bytes
  have hr := B.returns
  have hts := atoms_spec (ws := wsX8_timer) B.pre
  have hown : s.vm.findClass RX8 = some m.cls := findClass_of_methodNamed B.named
  have hlocks := B.notSynchronized
  have hS : va_S A s.heap s.heap [] := va_S.rf
  have k170 := hts (.fieldLink RX8 170 "StageDeskModel" "timersWait" "I") (by decide +kernel)
  have k124 := hts (.fieldLink RX8 124 "StageDeskModel" "timerNumber" "[I") (by decide +kernel)
  have k173 := hts (.fieldLink RX8 173 "StageDeskModel" "timers" "I") (by decide +kernel)
  have k127 := hts (.fieldLink RX8 127 "StageDeskModel" "timerStage" "[I") (by decide +kernel)
  have k130 := hts (.fieldLink RX8 130 "StageDeskModel" "timerValue" "[I") (by decide +kernel)
  have k133 := hts (.fieldLink RX8 133 "StageDeskModel" "timerAt" "[I") (by decide +kernel)
  have k163 := hts (.fieldLink RX8 163 "StageDeskModel" "clock" "I") (by decide +kernel)
  have inX8 : ∀ w ∈ u_ws RX8 TX8 48, w ∈ wsX8_timer := by decide +kernel
  have hl := lv_entry ([.ref (ad 0 0), .int px1, .int px2, .int px3]) (n := 4) (Nat.le_of_ble_eq_true rfl)
  rw [lg_entry_eq]
  generalize (lg_sl ([.ref (ad 0 0), .int px1, .int px2, .int px3]) ++ List.replicate (4 - (lg_sl ([.ref (ad 0 0), .int px1, .int px2, .int px3])).length) Slot.unset).toArray = ls at hl ⊢
  have hl : lv_has ls 4 [(0, .ref (ad 0 0)), (1, .int px1), (2, .int px2), (3, .int px3)] := hl
  unfold fX8_timer at h
  refine lv_aload_n hx hb dX8_timer_0 rfl (lv_at hl 0 rfl) ?_
  refine lv_iload_n hx hb dX8_timer_1 rfl (lv_at hl 1 rfl) ?_
  obtain ⟨u_1, hu_1, h⟩ := bindS h
  refine va_calli (va_runV (As := [.int px1]) (rest := []) ⟨hx, hb, hml, hown, hts⟩ (kX8_isStage l px1 V0 hu_1) (cwV 1 hts gX8_timer_X8_isStage rfl rfl rfl (by decide +kernel) ⟨Nat.le_of_ble_eq_true rfl, Nat.le_of_ble_eq_true rfl⟩) ⟨fun a U g9 mk w9 => ⟨w9.1, mR_calling w9.2⟩, mP_recv (q := (RX8, TX8, 48)) hK hM me0 rfl rfl, fun U hU hWm => ⟨rfl, mR_of hM hK hAs hS.1 hU hWm⟩⟩ rfl rfl hl.1 rfl (lv_room (Nat.le_of_ble_eq_true rfl)) dX8_timer_2 ⟨Nat.le_of_ble_eq_true rfl, Nat.le_of_ble_eq_true rfl⟩) hS (fun _ _ h9 => h9) (fun _ h9 => h9) (fun r9 u9 t9 H locs ht9 _ hw9 hB9 _ _ hS => ?_)
  rw [show r9 = u_1 from hw9]
  obtain ⟨hM, -, -⟩ := hB9
  rw [ht9] at hM
  refine lv_if_eq (tgt := 19) hx hb dX8_timer_5 (by decide) (fun c_2 => ?_) (fun c_2 => ?_)
  · have h := iteT c_2 h
    refine lv_iconst (v := (-1)) hx hb dX8_timer_19 (by decide) ?_
    have e9 : ((-1 : Int32), V0) = res := Option.some.inj h
    subst e9
    exact W.iret (v := (-1 : Int32)) hx hb hr (fun t9 ht9 hW9 => ⟨⟨_, (), rfl, rfl, mR_of hM hK hAs hS.1 ht9 hW9⟩, hS.F ht9⟩) hS.2.2 dX8_timer_20
  · have h := iteF c_2 h
    refine lv_iload_n hx hb dX8_timer_8 rfl (lv_at hl 3 rfl) ?_
    refine lv_iconst (v := 1) hx hb dX8_timer_9 (by decide) ?_
    refine lv_sipush (v := 1000) hx hb dX8_timer_10 (by decide) ?_
    obtain ⟨u_3, hu_3, h⟩ := bindS h
    refine va_calli (va_runS (As := [.int px3, .int (1 : Int32), .int (1000 : Int32)]) (rest := []) ⟨hx, hb, hml, hown, hts⟩ (kX8_in l px3 (1 : Int32) (1000 : Int32) V0 hu_3) (va_cwS 3 hts gX8_timer_X8_in rfl rfl rfl (by decide +kernel) ⟨Nat.le_of_ble_eq_true rfl, Nat.le_of_ble_eq_true rfl⟩) ⟨fun a U g9 mk w9 => ⟨w9.1, mR_calling w9.2⟩, fun U hU hWm => ⟨rfl, mR_of hM hK hAs hS.1 hU hWm⟩⟩ rfl rfl hl.1 rfl (lv_room (Nat.le_of_ble_eq_true rfl)) dX8_timer_13 ⟨Nat.le_of_ble_eq_true rfl, Nat.le_of_ble_eq_true rfl⟩) hS (fun _ _ h9 => h9) (fun _ h9 => h9) (fun r9 u9 t9 H locs ht9 _ hw9 hB9 _ _ hS => ?_)
    rw [show r9 = u_3 from hw9]
    obtain ⟨hM, -, -⟩ := hB9
    rw [ht9] at hM
    refine lv_if_ne (tgt := 21) hx hb dX8_timer_16 (by decide) (fun c_4 => ?_) (fun c_4 => ?_)
    · have h := iteF c_4 h
      refine lv_aload_n hx hb dX8_timer_21 rfl (lv_at hl 0 rfl) ?_
      refine mm_get (C := RX8) (T := TX8) (N := 48) (ci := 8) hx hb hts inX8 hown hK hM 0 0 me0 rfl rfl 43 (by decide) k170 (fun _ h9 => h9) rfl dX8_timer_22 ?_
      refine lv_bipush (v := 50) hx hb dX8_timer_25 (by decide) ?_
      refine lv_icmp_ne (tgt := 33) hx hb dX8_timer_27 (by decide) (fun c_5 => ?_) (fun c_5 => ?_)
      · have h := iteF c_5 h
        refine lv_aload_n hx hb dX8_timer_33 rfl (lv_at hl 0 rfl) ?_
        refine mm_get (C := RX8) (T := TX8) (N := 48) (ci := 8) hx hb hts inX8 hown hK hM 0 0 me0 rfl rfl 44 (by decide) k124 (fun _ h9 => h9) rfl dX8_timer_34 ?_
        refine lv_aload_n hx hb dX8_timer_37 rfl (lv_at hl 0 rfl) ?_
        refine mm_get (C := RX8) (T := TX8) (N := 48) (ci := 8) hx hb hts inX8 hown hK hM 0 0 me0 rfl rfl 43 (by decide) k170 (fun _ h9 => h9) rfl dX8_timer_38 ?_
        refine lv_aload_n hx hb dX8_timer_41 rfl (lv_at hl 0 rfl) ?_
        refine mm_get (C := RX8) (T := TX8) (N := 48) (ci := 8) hx hb hts inX8 hown hK hM 0 0 me0 rfl rfl 42 (by decide) k173 (fun _ h9 => h9) rfl dX8_timer_42 ?_
        obtain ⟨b_6, h⟩ := iteS h
        refine mm_iast hx hb hK hM hS 45 0 (me (by decide)) 0 rfl rfl (bin_in b_6) rfl dX8_timer_45 (fun H locs hM hS => ?_)
        refine lv_aload_n hx hb dX8_timer_46 rfl (lv_at hl 0 rfl) ?_
        refine mm_get (C := RX8) (T := TX8) (N := 48) (ci := 8) hx hb hts inX8 hown hK hM 0 0 me0 rfl rfl 45 (by decide) k127 (fun _ h9 => h9) rfl dX8_timer_47 ?_
        refine lv_aload_n hx hb dX8_timer_50 rfl (lv_at hl 0 rfl) ?_
        refine mm_get (C := RX8) (T := TX8) (N := 48) (ci := 8) hx hb hts inX8 hown hK hM 0 0 me0 rfl rfl 43 (by decide) k170 (fun _ h9 => h9) rfl dX8_timer_51 ?_
        refine lv_iload_n hx hb dX8_timer_54 rfl (lv_at hl 1 rfl) ?_
        obtain ⟨b_7, h⟩ := iteS h
        refine mm_iast hx hb hK hM hS 46 0 (me (by decide)) 0 rfl rfl (bin_in b_7) rfl dX8_timer_55 (fun H locs hM hS => ?_)
        refine lv_aload_n hx hb dX8_timer_56 rfl (lv_at hl 0 rfl) ?_
        refine mm_get (C := RX8) (T := TX8) (N := 48) (ci := 8) hx hb hts inX8 hown hK hM 0 0 me0 rfl rfl 46 (by decide) k130 (fun _ h9 => h9) rfl dX8_timer_57 ?_
        refine lv_aload_n hx hb dX8_timer_60 rfl (lv_at hl 0 rfl) ?_
        refine mm_get (C := RX8) (T := TX8) (N := 48) (ci := 8) hx hb hts inX8 hown hK hM 0 0 me0 rfl rfl 43 (by decide) k170 (fun _ h9 => h9) rfl dX8_timer_61 ?_
        refine lv_iload_n hx hb dX8_timer_64 rfl (lv_at hl 2 rfl) ?_
        obtain ⟨b_8, h⟩ := iteS h
        refine mm_iast hx hb hK hM hS 47 0 (me (by decide)) 0 rfl rfl (bin_in b_8) rfl dX8_timer_65 (fun H locs hM hS => ?_)
        refine lv_aload_n hx hb dX8_timer_66 rfl (lv_at hl 0 rfl) ?_
        refine mm_get (C := RX8) (T := TX8) (N := 48) (ci := 8) hx hb hts inX8 hown hK hM 0 0 me0 rfl rfl 47 (by decide) k133 (fun _ h9 => h9) rfl dX8_timer_67 ?_
        refine lv_aload_n hx hb dX8_timer_70 rfl (lv_at hl 0 rfl) ?_
        refine mm_get (C := RX8) (T := TX8) (N := 48) (ci := 8) hx hb hts inX8 hown hK hM 0 0 me0 rfl rfl 43 (by decide) k170 (fun _ h9 => h9) rfl dX8_timer_71 ?_
        refine lv_aload_n hx hb dX8_timer_74 rfl (lv_at hl 0 rfl) ?_
        refine mm_get (C := RX8) (T := TX8) (N := 48) (ci := 8) hx hb hts inX8 hown hK hM 0 0 me0 rfl rfl 0 (by decide) k163 (fun _ h9 => h9) rfl dX8_timer_75 ?_
        refine lv_iload_n hx hb dX8_timer_78 rfl (lv_at hl 3 rfl) ?_
        refine lv_iadd hx hb dX8_timer_79 ?_
        obtain ⟨b_9, h⟩ := iteS h
        refine mm_iast hx hb hK hM hS 48 0 (me (by decide)) 0 rfl rfl (bin_in b_9) rfl dX8_timer_80 (fun H locs hM hS => ?_)
        refine lv_aload_n hx hb dX8_timer_81 rfl (lv_at hl 0 rfl) ?_
        refine lv_dup hx hb dX8_timer_82 rfl ?_
        refine mm_get (C := RX8) (T := TX8) (N := 48) (ci := 8) hx hb hts inX8 hown hK hM 0 0 me0 rfl rfl 43 (by decide) k170 (fun _ h9 => h9) rfl dX8_timer_83 ?_
        refine lv_iconst (v := 1) hx hb dX8_timer_86 (by decide) ?_
        refine lv_iadd hx hb dX8_timer_87 ?_
        refine mm_put (C := RX8) (T := TX8) (N := 48) (ci := 8) (ty := .int) hx hb hts inX8 tyX8 tyX8_ok nmX8 hown hK hM hS 0 0 me0 rfl rfl 43 (by decide) k170 (fun _ h9 => h9) rfl (by decide +kernel) rfl rfl (Nat.le_of_ble_eq_true rfl) (((mu (mu (mu (mu V0 45 0 ((V0 0 0 43)).toNatClampNeg (V0 0 0 42)) 46 0 (((mu V0 45 0 ((V0 0 0 43)).toNatClampNeg (V0 0 0 42)) 0 0 43)).toNatClampNeg px1) 47 0 (((mu (mu V0 45 0 ((V0 0 0 43)).toNatClampNeg (V0 0 0 42)) 46 0 (((mu V0 45 0 ((V0 0 0 43)).toNatClampNeg (V0 0 0 42)) 0 0 43)).toNatClampNeg px1) 0 0 43)).toNatClampNeg px2) 48 0 (((mu (mu (mu V0 45 0 ((V0 0 0 43)).toNatClampNeg (V0 0 0 42)) 46 0 (((mu V0 45 0 ((V0 0 0 43)).toNatClampNeg (V0 0 0 42)) 0 0 43)).toNatClampNeg px1) 47 0 (((mu (mu V0 45 0 ((V0 0 0 43)).toNatClampNeg (V0 0 0 42)) 46 0 (((mu V0 45 0 ((V0 0 0 43)).toNatClampNeg (V0 0 0 42)) 0 0 43)).toNatClampNeg px1) 0 0 43)).toNatClampNeg px2) 0 0 43)).toNatClampNeg (((mu (mu (mu V0 45 0 ((V0 0 0 43)).toNatClampNeg (V0 0 0 42)) 46 0 (((mu V0 45 0 ((V0 0 0 43)).toNatClampNeg (V0 0 0 42)) 0 0 43)).toNatClampNeg px1) 47 0 (((mu (mu V0 45 0 ((V0 0 0 43)).toNatClampNeg (V0 0 0 42)) 46 0 (((mu V0 45 0 ((V0 0 0 43)).toNatClampNeg (V0 0 0 42)) 0 0 43)).toNatClampNeg px1) 0 0 43)).toNatClampNeg px2) 0 0 0) + px3)) 0 0 43) + (1 : Int32)) rfl dX8_timer_88 (fun H locs hM hS => ?_)
        refine lv_aload_n hx hb dX8_timer_91 rfl (lv_at hl 0 rfl) ?_
        refine lv_dup hx hb dX8_timer_92 rfl ?_
        refine mm_get (C := RX8) (T := TX8) (N := 48) (ci := 8) hx hb hts inX8 hown hK hM 0 0 me0 rfl rfl 42 (by decide) k173 (fun _ h9 => h9) rfl dX8_timer_93 ?_
        refine lv_iconst (v := 1) hx hb dX8_timer_96 (by decide) ?_
        refine lv_iadd hx hb dX8_timer_97 ?_
        refine mm_put (C := RX8) (T := TX8) (N := 48) (ci := 8) (ty := .int) hx hb hts inX8 tyX8 tyX8_ok nmX8 hown hK hM hS 0 0 me0 rfl rfl 42 (by decide) k173 (fun _ h9 => h9) rfl (by decide +kernel) rfl rfl (Nat.le_of_ble_eq_true rfl) (((mu (mu (mu (mu (mu V0 45 0 ((V0 0 0 43)).toNatClampNeg (V0 0 0 42)) 46 0 (((mu V0 45 0 ((V0 0 0 43)).toNatClampNeg (V0 0 0 42)) 0 0 43)).toNatClampNeg px1) 47 0 (((mu (mu V0 45 0 ((V0 0 0 43)).toNatClampNeg (V0 0 0 42)) 46 0 (((mu V0 45 0 ((V0 0 0 43)).toNatClampNeg (V0 0 0 42)) 0 0 43)).toNatClampNeg px1) 0 0 43)).toNatClampNeg px2) 48 0 (((mu (mu (mu V0 45 0 ((V0 0 0 43)).toNatClampNeg (V0 0 0 42)) 46 0 (((mu V0 45 0 ((V0 0 0 43)).toNatClampNeg (V0 0 0 42)) 0 0 43)).toNatClampNeg px1) 47 0 (((mu (mu V0 45 0 ((V0 0 0 43)).toNatClampNeg (V0 0 0 42)) 46 0 (((mu V0 45 0 ((V0 0 0 43)).toNatClampNeg (V0 0 0 42)) 0 0 43)).toNatClampNeg px1) 0 0 43)).toNatClampNeg px2) 0 0 43)).toNatClampNeg (((mu (mu (mu V0 45 0 ((V0 0 0 43)).toNatClampNeg (V0 0 0 42)) 46 0 (((mu V0 45 0 ((V0 0 0 43)).toNatClampNeg (V0 0 0 42)) 0 0 43)).toNatClampNeg px1) 47 0 (((mu (mu V0 45 0 ((V0 0 0 43)).toNatClampNeg (V0 0 0 42)) 46 0 (((mu V0 45 0 ((V0 0 0 43)).toNatClampNeg (V0 0 0 42)) 0 0 43)).toNatClampNeg px1) 0 0 43)).toNatClampNeg px2) 0 0 0) + px3)) 0 0 43 (((mu (mu (mu (mu V0 45 0 ((V0 0 0 43)).toNatClampNeg (V0 0 0 42)) 46 0 (((mu V0 45 0 ((V0 0 0 43)).toNatClampNeg (V0 0 0 42)) 0 0 43)).toNatClampNeg px1) 47 0 (((mu (mu V0 45 0 ((V0 0 0 43)).toNatClampNeg (V0 0 0 42)) 46 0 (((mu V0 45 0 ((V0 0 0 43)).toNatClampNeg (V0 0 0 42)) 0 0 43)).toNatClampNeg px1) 0 0 43)).toNatClampNeg px2) 48 0 (((mu (mu (mu V0 45 0 ((V0 0 0 43)).toNatClampNeg (V0 0 0 42)) 46 0 (((mu V0 45 0 ((V0 0 0 43)).toNatClampNeg (V0 0 0 42)) 0 0 43)).toNatClampNeg px1) 47 0 (((mu (mu V0 45 0 ((V0 0 0 43)).toNatClampNeg (V0 0 0 42)) 46 0 (((mu V0 45 0 ((V0 0 0 43)).toNatClampNeg (V0 0 0 42)) 0 0 43)).toNatClampNeg px1) 0 0 43)).toNatClampNeg px2) 0 0 43)).toNatClampNeg (((mu (mu (mu V0 45 0 ((V0 0 0 43)).toNatClampNeg (V0 0 0 42)) 46 0 (((mu V0 45 0 ((V0 0 0 43)).toNatClampNeg (V0 0 0 42)) 0 0 43)).toNatClampNeg px1) 47 0 (((mu (mu V0 45 0 ((V0 0 0 43)).toNatClampNeg (V0 0 0 42)) 46 0 (((mu V0 45 0 ((V0 0 0 43)).toNatClampNeg (V0 0 0 42)) 0 0 43)).toNatClampNeg px1) 0 0 43)).toNatClampNeg px2) 0 0 0) + px3)) 0 0 43) + (1 : Int32))) 0 0 42) + (1 : Int32)) rfl dX8_timer_98 (fun H locs hM hS => ?_)
        refine lv_aload_n hx hb dX8_timer_101 rfl (lv_at hl 0 rfl) ?_
        refine mm_get (C := RX8) (T := TX8) (N := 48) (ci := 8) hx hb hts inX8 hown hK hM 0 0 me0 rfl rfl 42 (by decide) k173 (fun _ h9 => h9) rfl dX8_timer_102 ?_
        refine lv_iconst (v := 1) hx hb dX8_timer_105 (by decide) ?_
        refine lv_isub hx hb dX8_timer_106 ?_
        have e9 : ((((mu (mu (mu (mu (mu (mu V0 45 0 ((V0 0 0 43)).toNatClampNeg (V0 0 0 42)) 46 0 (((mu V0 45 0 ((V0 0 0 43)).toNatClampNeg (V0 0 0 42)) 0 0 43)).toNatClampNeg px1) 47 0 (((mu (mu V0 45 0 ((V0 0 0 43)).toNatClampNeg (V0 0 0 42)) 46 0 (((mu V0 45 0 ((V0 0 0 43)).toNatClampNeg (V0 0 0 42)) 0 0 43)).toNatClampNeg px1) 0 0 43)).toNatClampNeg px2) 48 0 (((mu (mu (mu V0 45 0 ((V0 0 0 43)).toNatClampNeg (V0 0 0 42)) 46 0 (((mu V0 45 0 ((V0 0 0 43)).toNatClampNeg (V0 0 0 42)) 0 0 43)).toNatClampNeg px1) 47 0 (((mu (mu V0 45 0 ((V0 0 0 43)).toNatClampNeg (V0 0 0 42)) 46 0 (((mu V0 45 0 ((V0 0 0 43)).toNatClampNeg (V0 0 0 42)) 0 0 43)).toNatClampNeg px1) 0 0 43)).toNatClampNeg px2) 0 0 43)).toNatClampNeg (((mu (mu (mu V0 45 0 ((V0 0 0 43)).toNatClampNeg (V0 0 0 42)) 46 0 (((mu V0 45 0 ((V0 0 0 43)).toNatClampNeg (V0 0 0 42)) 0 0 43)).toNatClampNeg px1) 47 0 (((mu (mu V0 45 0 ((V0 0 0 43)).toNatClampNeg (V0 0 0 42)) 46 0 (((mu V0 45 0 ((V0 0 0 43)).toNatClampNeg (V0 0 0 42)) 0 0 43)).toNatClampNeg px1) 0 0 43)).toNatClampNeg px2) 0 0 0) + px3)) 0 0 43 (((mu (mu (mu (mu V0 45 0 ((V0 0 0 43)).toNatClampNeg (V0 0 0 42)) 46 0 (((mu V0 45 0 ((V0 0 0 43)).toNatClampNeg (V0 0 0 42)) 0 0 43)).toNatClampNeg px1) 47 0 (((mu (mu V0 45 0 ((V0 0 0 43)).toNatClampNeg (V0 0 0 42)) 46 0 (((mu V0 45 0 ((V0 0 0 43)).toNatClampNeg (V0 0 0 42)) 0 0 43)).toNatClampNeg px1) 0 0 43)).toNatClampNeg px2) 48 0 (((mu (mu (mu V0 45 0 ((V0 0 0 43)).toNatClampNeg (V0 0 0 42)) 46 0 (((mu V0 45 0 ((V0 0 0 43)).toNatClampNeg (V0 0 0 42)) 0 0 43)).toNatClampNeg px1) 47 0 (((mu (mu V0 45 0 ((V0 0 0 43)).toNatClampNeg (V0 0 0 42)) 46 0 (((mu V0 45 0 ((V0 0 0 43)).toNatClampNeg (V0 0 0 42)) 0 0 43)).toNatClampNeg px1) 0 0 43)).toNatClampNeg px2) 0 0 43)).toNatClampNeg (((mu (mu (mu V0 45 0 ((V0 0 0 43)).toNatClampNeg (V0 0 0 42)) 46 0 (((mu V0 45 0 ((V0 0 0 43)).toNatClampNeg (V0 0 0 42)) 0 0 43)).toNatClampNeg px1) 47 0 (((mu (mu V0 45 0 ((V0 0 0 43)).toNatClampNeg (V0 0 0 42)) 46 0 (((mu V0 45 0 ((V0 0 0 43)).toNatClampNeg (V0 0 0 42)) 0 0 43)).toNatClampNeg px1) 0 0 43)).toNatClampNeg px2) 0 0 0) + px3)) 0 0 43) + (1 : Int32))) 0 0 42 (((mu (mu (mu (mu (mu V0 45 0 ((V0 0 0 43)).toNatClampNeg (V0 0 0 42)) 46 0 (((mu V0 45 0 ((V0 0 0 43)).toNatClampNeg (V0 0 0 42)) 0 0 43)).toNatClampNeg px1) 47 0 (((mu (mu V0 45 0 ((V0 0 0 43)).toNatClampNeg (V0 0 0 42)) 46 0 (((mu V0 45 0 ((V0 0 0 43)).toNatClampNeg (V0 0 0 42)) 0 0 43)).toNatClampNeg px1) 0 0 43)).toNatClampNeg px2) 48 0 (((mu (mu (mu V0 45 0 ((V0 0 0 43)).toNatClampNeg (V0 0 0 42)) 46 0 (((mu V0 45 0 ((V0 0 0 43)).toNatClampNeg (V0 0 0 42)) 0 0 43)).toNatClampNeg px1) 47 0 (((mu (mu V0 45 0 ((V0 0 0 43)).toNatClampNeg (V0 0 0 42)) 46 0 (((mu V0 45 0 ((V0 0 0 43)).toNatClampNeg (V0 0 0 42)) 0 0 43)).toNatClampNeg px1) 0 0 43)).toNatClampNeg px2) 0 0 43)).toNatClampNeg (((mu (mu (mu V0 45 0 ((V0 0 0 43)).toNatClampNeg (V0 0 0 42)) 46 0 (((mu V0 45 0 ((V0 0 0 43)).toNatClampNeg (V0 0 0 42)) 0 0 43)).toNatClampNeg px1) 47 0 (((mu (mu V0 45 0 ((V0 0 0 43)).toNatClampNeg (V0 0 0 42)) 46 0 (((mu V0 45 0 ((V0 0 0 43)).toNatClampNeg (V0 0 0 42)) 0 0 43)).toNatClampNeg px1) 0 0 43)).toNatClampNeg px2) 0 0 0) + px3)) 0 0 43 (((mu (mu (mu (mu V0 45 0 ((V0 0 0 43)).toNatClampNeg (V0 0 0 42)) 46 0 (((mu V0 45 0 ((V0 0 0 43)).toNatClampNeg (V0 0 0 42)) 0 0 43)).toNatClampNeg px1) 47 0 (((mu (mu V0 45 0 ((V0 0 0 43)).toNatClampNeg (V0 0 0 42)) 46 0 (((mu V0 45 0 ((V0 0 0 43)).toNatClampNeg (V0 0 0 42)) 0 0 43)).toNatClampNeg px1) 0 0 43)).toNatClampNeg px2) 48 0 (((mu (mu (mu V0 45 0 ((V0 0 0 43)).toNatClampNeg (V0 0 0 42)) 46 0 (((mu V0 45 0 ((V0 0 0 43)).toNatClampNeg (V0 0 0 42)) 0 0 43)).toNatClampNeg px1) 47 0 (((mu (mu V0 45 0 ((V0 0 0 43)).toNatClampNeg (V0 0 0 42)) 46 0 (((mu V0 45 0 ((V0 0 0 43)).toNatClampNeg (V0 0 0 42)) 0 0 43)).toNatClampNeg px1) 0 0 43)).toNatClampNeg px2) 0 0 43)).toNatClampNeg (((mu (mu (mu V0 45 0 ((V0 0 0 43)).toNatClampNeg (V0 0 0 42)) 46 0 (((mu V0 45 0 ((V0 0 0 43)).toNatClampNeg (V0 0 0 42)) 0 0 43)).toNatClampNeg px1) 47 0 (((mu (mu V0 45 0 ((V0 0 0 43)).toNatClampNeg (V0 0 0 42)) 46 0 (((mu V0 45 0 ((V0 0 0 43)).toNatClampNeg (V0 0 0 42)) 0 0 43)).toNatClampNeg px1) 0 0 43)).toNatClampNeg px2) 0 0 0) + px3)) 0 0 43) + (1 : Int32))) 0 0 42) + (1 : Int32))) 0 0 42) - (1 : Int32)), (mu (mu (mu (mu (mu (mu V0 45 0 ((V0 0 0 43)).toNatClampNeg (V0 0 0 42)) 46 0 (((mu V0 45 0 ((V0 0 0 43)).toNatClampNeg (V0 0 0 42)) 0 0 43)).toNatClampNeg px1) 47 0 (((mu (mu V0 45 0 ((V0 0 0 43)).toNatClampNeg (V0 0 0 42)) 46 0 (((mu V0 45 0 ((V0 0 0 43)).toNatClampNeg (V0 0 0 42)) 0 0 43)).toNatClampNeg px1) 0 0 43)).toNatClampNeg px2) 48 0 (((mu (mu (mu V0 45 0 ((V0 0 0 43)).toNatClampNeg (V0 0 0 42)) 46 0 (((mu V0 45 0 ((V0 0 0 43)).toNatClampNeg (V0 0 0 42)) 0 0 43)).toNatClampNeg px1) 47 0 (((mu (mu V0 45 0 ((V0 0 0 43)).toNatClampNeg (V0 0 0 42)) 46 0 (((mu V0 45 0 ((V0 0 0 43)).toNatClampNeg (V0 0 0 42)) 0 0 43)).toNatClampNeg px1) 0 0 43)).toNatClampNeg px2) 0 0 43)).toNatClampNeg (((mu (mu (mu V0 45 0 ((V0 0 0 43)).toNatClampNeg (V0 0 0 42)) 46 0 (((mu V0 45 0 ((V0 0 0 43)).toNatClampNeg (V0 0 0 42)) 0 0 43)).toNatClampNeg px1) 47 0 (((mu (mu V0 45 0 ((V0 0 0 43)).toNatClampNeg (V0 0 0 42)) 46 0 (((mu V0 45 0 ((V0 0 0 43)).toNatClampNeg (V0 0 0 42)) 0 0 43)).toNatClampNeg px1) 0 0 43)).toNatClampNeg px2) 0 0 0) + px3)) 0 0 43 (((mu (mu (mu (mu V0 45 0 ((V0 0 0 43)).toNatClampNeg (V0 0 0 42)) 46 0 (((mu V0 45 0 ((V0 0 0 43)).toNatClampNeg (V0 0 0 42)) 0 0 43)).toNatClampNeg px1) 47 0 (((mu (mu V0 45 0 ((V0 0 0 43)).toNatClampNeg (V0 0 0 42)) 46 0 (((mu V0 45 0 ((V0 0 0 43)).toNatClampNeg (V0 0 0 42)) 0 0 43)).toNatClampNeg px1) 0 0 43)).toNatClampNeg px2) 48 0 (((mu (mu (mu V0 45 0 ((V0 0 0 43)).toNatClampNeg (V0 0 0 42)) 46 0 (((mu V0 45 0 ((V0 0 0 43)).toNatClampNeg (V0 0 0 42)) 0 0 43)).toNatClampNeg px1) 47 0 (((mu (mu V0 45 0 ((V0 0 0 43)).toNatClampNeg (V0 0 0 42)) 46 0 (((mu V0 45 0 ((V0 0 0 43)).toNatClampNeg (V0 0 0 42)) 0 0 43)).toNatClampNeg px1) 0 0 43)).toNatClampNeg px2) 0 0 43)).toNatClampNeg (((mu (mu (mu V0 45 0 ((V0 0 0 43)).toNatClampNeg (V0 0 0 42)) 46 0 (((mu V0 45 0 ((V0 0 0 43)).toNatClampNeg (V0 0 0 42)) 0 0 43)).toNatClampNeg px1) 47 0 (((mu (mu V0 45 0 ((V0 0 0 43)).toNatClampNeg (V0 0 0 42)) 46 0 (((mu V0 45 0 ((V0 0 0 43)).toNatClampNeg (V0 0 0 42)) 0 0 43)).toNatClampNeg px1) 0 0 43)).toNatClampNeg px2) 0 0 0) + px3)) 0 0 43) + (1 : Int32))) 0 0 42 (((mu (mu (mu (mu (mu V0 45 0 ((V0 0 0 43)).toNatClampNeg (V0 0 0 42)) 46 0 (((mu V0 45 0 ((V0 0 0 43)).toNatClampNeg (V0 0 0 42)) 0 0 43)).toNatClampNeg px1) 47 0 (((mu (mu V0 45 0 ((V0 0 0 43)).toNatClampNeg (V0 0 0 42)) 46 0 (((mu V0 45 0 ((V0 0 0 43)).toNatClampNeg (V0 0 0 42)) 0 0 43)).toNatClampNeg px1) 0 0 43)).toNatClampNeg px2) 48 0 (((mu (mu (mu V0 45 0 ((V0 0 0 43)).toNatClampNeg (V0 0 0 42)) 46 0 (((mu V0 45 0 ((V0 0 0 43)).toNatClampNeg (V0 0 0 42)) 0 0 43)).toNatClampNeg px1) 47 0 (((mu (mu V0 45 0 ((V0 0 0 43)).toNatClampNeg (V0 0 0 42)) 46 0 (((mu V0 45 0 ((V0 0 0 43)).toNatClampNeg (V0 0 0 42)) 0 0 43)).toNatClampNeg px1) 0 0 43)).toNatClampNeg px2) 0 0 43)).toNatClampNeg (((mu (mu (mu V0 45 0 ((V0 0 0 43)).toNatClampNeg (V0 0 0 42)) 46 0 (((mu V0 45 0 ((V0 0 0 43)).toNatClampNeg (V0 0 0 42)) 0 0 43)).toNatClampNeg px1) 47 0 (((mu (mu V0 45 0 ((V0 0 0 43)).toNatClampNeg (V0 0 0 42)) 46 0 (((mu V0 45 0 ((V0 0 0 43)).toNatClampNeg (V0 0 0 42)) 0 0 43)).toNatClampNeg px1) 0 0 43)).toNatClampNeg px2) 0 0 0) + px3)) 0 0 43 (((mu (mu (mu (mu V0 45 0 ((V0 0 0 43)).toNatClampNeg (V0 0 0 42)) 46 0 (((mu V0 45 0 ((V0 0 0 43)).toNatClampNeg (V0 0 0 42)) 0 0 43)).toNatClampNeg px1) 47 0 (((mu (mu V0 45 0 ((V0 0 0 43)).toNatClampNeg (V0 0 0 42)) 46 0 (((mu V0 45 0 ((V0 0 0 43)).toNatClampNeg (V0 0 0 42)) 0 0 43)).toNatClampNeg px1) 0 0 43)).toNatClampNeg px2) 48 0 (((mu (mu (mu V0 45 0 ((V0 0 0 43)).toNatClampNeg (V0 0 0 42)) 46 0 (((mu V0 45 0 ((V0 0 0 43)).toNatClampNeg (V0 0 0 42)) 0 0 43)).toNatClampNeg px1) 47 0 (((mu (mu V0 45 0 ((V0 0 0 43)).toNatClampNeg (V0 0 0 42)) 46 0 (((mu V0 45 0 ((V0 0 0 43)).toNatClampNeg (V0 0 0 42)) 0 0 43)).toNatClampNeg px1) 0 0 43)).toNatClampNeg px2) 0 0 43)).toNatClampNeg (((mu (mu (mu V0 45 0 ((V0 0 0 43)).toNatClampNeg (V0 0 0 42)) 46 0 (((mu V0 45 0 ((V0 0 0 43)).toNatClampNeg (V0 0 0 42)) 0 0 43)).toNatClampNeg px1) 47 0 (((mu (mu V0 45 0 ((V0 0 0 43)).toNatClampNeg (V0 0 0 42)) 46 0 (((mu V0 45 0 ((V0 0 0 43)).toNatClampNeg (V0 0 0 42)) 0 0 43)).toNatClampNeg px1) 0 0 43)).toNatClampNeg px2) 0 0 0) + px3)) 0 0 43) + (1 : Int32))) 0 0 42) + (1 : Int32)))) = res := Option.some.inj h
        subst e9
        exact W.iret (v := (((mu (mu (mu (mu (mu (mu V0 45 0 ((V0 0 0 43)).toNatClampNeg (V0 0 0 42)) 46 0 (((mu V0 45 0 ((V0 0 0 43)).toNatClampNeg (V0 0 0 42)) 0 0 43)).toNatClampNeg px1) 47 0 (((mu (mu V0 45 0 ((V0 0 0 43)).toNatClampNeg (V0 0 0 42)) 46 0 (((mu V0 45 0 ((V0 0 0 43)).toNatClampNeg (V0 0 0 42)) 0 0 43)).toNatClampNeg px1) 0 0 43)).toNatClampNeg px2) 48 0 (((mu (mu (mu V0 45 0 ((V0 0 0 43)).toNatClampNeg (V0 0 0 42)) 46 0 (((mu V0 45 0 ((V0 0 0 43)).toNatClampNeg (V0 0 0 42)) 0 0 43)).toNatClampNeg px1) 47 0 (((mu (mu V0 45 0 ((V0 0 0 43)).toNatClampNeg (V0 0 0 42)) 46 0 (((mu V0 45 0 ((V0 0 0 43)).toNatClampNeg (V0 0 0 42)) 0 0 43)).toNatClampNeg px1) 0 0 43)).toNatClampNeg px2) 0 0 43)).toNatClampNeg (((mu (mu (mu V0 45 0 ((V0 0 0 43)).toNatClampNeg (V0 0 0 42)) 46 0 (((mu V0 45 0 ((V0 0 0 43)).toNatClampNeg (V0 0 0 42)) 0 0 43)).toNatClampNeg px1) 47 0 (((mu (mu V0 45 0 ((V0 0 0 43)).toNatClampNeg (V0 0 0 42)) 46 0 (((mu V0 45 0 ((V0 0 0 43)).toNatClampNeg (V0 0 0 42)) 0 0 43)).toNatClampNeg px1) 0 0 43)).toNatClampNeg px2) 0 0 0) + px3)) 0 0 43 (((mu (mu (mu (mu V0 45 0 ((V0 0 0 43)).toNatClampNeg (V0 0 0 42)) 46 0 (((mu V0 45 0 ((V0 0 0 43)).toNatClampNeg (V0 0 0 42)) 0 0 43)).toNatClampNeg px1) 47 0 (((mu (mu V0 45 0 ((V0 0 0 43)).toNatClampNeg (V0 0 0 42)) 46 0 (((mu V0 45 0 ((V0 0 0 43)).toNatClampNeg (V0 0 0 42)) 0 0 43)).toNatClampNeg px1) 0 0 43)).toNatClampNeg px2) 48 0 (((mu (mu (mu V0 45 0 ((V0 0 0 43)).toNatClampNeg (V0 0 0 42)) 46 0 (((mu V0 45 0 ((V0 0 0 43)).toNatClampNeg (V0 0 0 42)) 0 0 43)).toNatClampNeg px1) 47 0 (((mu (mu V0 45 0 ((V0 0 0 43)).toNatClampNeg (V0 0 0 42)) 46 0 (((mu V0 45 0 ((V0 0 0 43)).toNatClampNeg (V0 0 0 42)) 0 0 43)).toNatClampNeg px1) 0 0 43)).toNatClampNeg px2) 0 0 43)).toNatClampNeg (((mu (mu (mu V0 45 0 ((V0 0 0 43)).toNatClampNeg (V0 0 0 42)) 46 0 (((mu V0 45 0 ((V0 0 0 43)).toNatClampNeg (V0 0 0 42)) 0 0 43)).toNatClampNeg px1) 47 0 (((mu (mu V0 45 0 ((V0 0 0 43)).toNatClampNeg (V0 0 0 42)) 46 0 (((mu V0 45 0 ((V0 0 0 43)).toNatClampNeg (V0 0 0 42)) 0 0 43)).toNatClampNeg px1) 0 0 43)).toNatClampNeg px2) 0 0 0) + px3)) 0 0 43) + (1 : Int32))) 0 0 42 (((mu (mu (mu (mu (mu V0 45 0 ((V0 0 0 43)).toNatClampNeg (V0 0 0 42)) 46 0 (((mu V0 45 0 ((V0 0 0 43)).toNatClampNeg (V0 0 0 42)) 0 0 43)).toNatClampNeg px1) 47 0 (((mu (mu V0 45 0 ((V0 0 0 43)).toNatClampNeg (V0 0 0 42)) 46 0 (((mu V0 45 0 ((V0 0 0 43)).toNatClampNeg (V0 0 0 42)) 0 0 43)).toNatClampNeg px1) 0 0 43)).toNatClampNeg px2) 48 0 (((mu (mu (mu V0 45 0 ((V0 0 0 43)).toNatClampNeg (V0 0 0 42)) 46 0 (((mu V0 45 0 ((V0 0 0 43)).toNatClampNeg (V0 0 0 42)) 0 0 43)).toNatClampNeg px1) 47 0 (((mu (mu V0 45 0 ((V0 0 0 43)).toNatClampNeg (V0 0 0 42)) 46 0 (((mu V0 45 0 ((V0 0 0 43)).toNatClampNeg (V0 0 0 42)) 0 0 43)).toNatClampNeg px1) 0 0 43)).toNatClampNeg px2) 0 0 43)).toNatClampNeg (((mu (mu (mu V0 45 0 ((V0 0 0 43)).toNatClampNeg (V0 0 0 42)) 46 0 (((mu V0 45 0 ((V0 0 0 43)).toNatClampNeg (V0 0 0 42)) 0 0 43)).toNatClampNeg px1) 47 0 (((mu (mu V0 45 0 ((V0 0 0 43)).toNatClampNeg (V0 0 0 42)) 46 0 (((mu V0 45 0 ((V0 0 0 43)).toNatClampNeg (V0 0 0 42)) 0 0 43)).toNatClampNeg px1) 0 0 43)).toNatClampNeg px2) 0 0 0) + px3)) 0 0 43 (((mu (mu (mu (mu V0 45 0 ((V0 0 0 43)).toNatClampNeg (V0 0 0 42)) 46 0 (((mu V0 45 0 ((V0 0 0 43)).toNatClampNeg (V0 0 0 42)) 0 0 43)).toNatClampNeg px1) 47 0 (((mu (mu V0 45 0 ((V0 0 0 43)).toNatClampNeg (V0 0 0 42)) 46 0 (((mu V0 45 0 ((V0 0 0 43)).toNatClampNeg (V0 0 0 42)) 0 0 43)).toNatClampNeg px1) 0 0 43)).toNatClampNeg px2) 48 0 (((mu (mu (mu V0 45 0 ((V0 0 0 43)).toNatClampNeg (V0 0 0 42)) 46 0 (((mu V0 45 0 ((V0 0 0 43)).toNatClampNeg (V0 0 0 42)) 0 0 43)).toNatClampNeg px1) 47 0 (((mu (mu V0 45 0 ((V0 0 0 43)).toNatClampNeg (V0 0 0 42)) 46 0 (((mu V0 45 0 ((V0 0 0 43)).toNatClampNeg (V0 0 0 42)) 0 0 43)).toNatClampNeg px1) 0 0 43)).toNatClampNeg px2) 0 0 43)).toNatClampNeg (((mu (mu (mu V0 45 0 ((V0 0 0 43)).toNatClampNeg (V0 0 0 42)) 46 0 (((mu V0 45 0 ((V0 0 0 43)).toNatClampNeg (V0 0 0 42)) 0 0 43)).toNatClampNeg px1) 47 0 (((mu (mu V0 45 0 ((V0 0 0 43)).toNatClampNeg (V0 0 0 42)) 46 0 (((mu V0 45 0 ((V0 0 0 43)).toNatClampNeg (V0 0 0 42)) 0 0 43)).toNatClampNeg px1) 0 0 43)).toNatClampNeg px2) 0 0 0) + px3)) 0 0 43) + (1 : Int32))) 0 0 42) + (1 : Int32))) 0 0 42) - (1 : Int32))) hx hb hr (fun t9 ht9 hW9 => ⟨⟨_, (), rfl, rfl, mR_of hM hK hAs hS.1 ht9 hW9⟩, hS.F ht9⟩) hS.2.2 dX8_timer_107
      · have h := iteT c_5 h
        refine lv_bipush (v := (-2)) hx hb dX8_timer_30 (by decide) ?_
        have e9 : ((-2 : Int32), V0) = res := Option.some.inj h
        subst e9
        exact W.iret (v := (-2 : Int32)) hx hb hr (fun t9 ht9 hW9 => ⟨⟨_, (), rfl, rfl, mR_of hM hK hAs hS.1 ht9 hW9⟩, hS.F ht9⟩) hS.2.2 dX8_timer_32
    · have h := iteT c_4 h
      refine lv_iconst (v := (-1)) hx hb dX8_timer_19 (by decide) ?_
      have e9 : ((-1 : Int32), V0) = res := Option.some.inj h
      subst e9
      exact W.iret (v := (-1 : Int32)) hx hb hr (fun t9 ht9 hW9 => ⟨⟨_, (), rfl, rfl, mR_of hM hK hAs hS.1 ht9 hW9⟩, hS.F ht9⟩) hS.2.2 dX8_timer_20
/-! X8_forgetTimer -/
def lpX8_forgetTimer_12   : Nat → Int32 → mM → Option (mM)
  | 0, _, _ => none
  | n9 + 1, x2, V => if (V 0 0 43) ≤ x2 then (some V) else (if bin (x2 + (1 : Int32)) 50 = true then (if bin x2 50 = true then (if bin (x2 + (1 : Int32)) 50 = true then (if bin x2 50 = true then (if bin (x2 + (1 : Int32)) 50 = true then (if bin x2 50 = true then (if bin (x2 + (1 : Int32)) 50 = true then (if bin x2 50 = true then (lpX8_forgetTimer_12 n9 (x2 + 1) (mu (mu (mu (mu V 45 0 (x2).toNatClampNeg (V 45 0 ((x2 + (1 : Int32))).toNatClampNeg)) 46 0 (x2).toNatClampNeg ((mu V 45 0 (x2).toNatClampNeg (V 45 0 ((x2 + (1 : Int32))).toNatClampNeg)) 46 0 ((x2 + (1 : Int32))).toNatClampNeg)) 47 0 (x2).toNatClampNeg ((mu (mu V 45 0 (x2).toNatClampNeg (V 45 0 ((x2 + (1 : Int32))).toNatClampNeg)) 46 0 (x2).toNatClampNeg ((mu V 45 0 (x2).toNatClampNeg (V 45 0 ((x2 + (1 : Int32))).toNatClampNeg)) 46 0 ((x2 + (1 : Int32))).toNatClampNeg)) 47 0 ((x2 + (1 : Int32))).toNatClampNeg)) 48 0 (x2).toNatClampNeg ((mu (mu (mu V 45 0 (x2).toNatClampNeg (V 45 0 ((x2 + (1 : Int32))).toNatClampNeg)) 46 0 (x2).toNatClampNeg ((mu V 45 0 (x2).toNatClampNeg (V 45 0 ((x2 + (1 : Int32))).toNatClampNeg)) 46 0 ((x2 + (1 : Int32))).toNatClampNeg)) 47 0 (x2).toNatClampNeg ((mu (mu V 45 0 (x2).toNatClampNeg (V 45 0 ((x2 + (1 : Int32))).toNatClampNeg)) 46 0 (x2).toNatClampNeg ((mu V 45 0 (x2).toNatClampNeg (V 45 0 ((x2 + (1 : Int32))).toNatClampNeg)) 46 0 ((x2 + (1 : Int32))).toNatClampNeg)) 47 0 ((x2 + (1 : Int32))).toNatClampNeg)) 48 0 ((x2 + (1 : Int32))).toNatClampNeg))) else none) else none) else none) else none) else none) else none) else none) else none)
def fX8_forgetTimer  (px1 : Int32) (V0 : mM) : Option (mM) := lpX8_forgetTimer_12 fu px1 (mu V0 0 0 43 ((V0 0 0 43) - (1 : Int32)))
set_option maxHeartbeats 4000000 in
set_option maxRecDepth 100000 in
theorem kX8_forgetTimer (l : Launch) {dC : Nat → ClassId} {dI : Nat → Nat → Nat} {A : Nat → Prop} {ad : Nat → Nat → Nat} {cI cZ : ClassId}  (px1 : Int32) (V0 : mM) {res : mM} (h : fX8_forgetTimer px1 V0 = some res) : Met l yX8_forgetTimer wsX8_forgetTimer ({ frames := 0, cells := 0, slots := 0, locals := 0 } : Room) (va_Pc [.ref (ad 0 0), .int px1] (fun U => mR dC dI A ad cI cZ V0 U)) (va_Qv (fun (_ : Unit) => True) (fun _ t9 => mR dC dI A ad cI cZ res t9) A) 0 0 A := by
  refine Met.ofW (cc := cX8_forgetTimer) (maxL := 3) (ret := none) (by decide) rfl ?_
  intro p e s m args below meth cd s₁ B hml hv
  obtain ⟨rfl, hM, hK, hAs⟩ := hv
  have hx := B.exec
  have hb := B.bytes
  have hr := B.returns
  have hts := atoms_spec (ws := wsX8_forgetTimer) B.pre
  have hown : s.vm.findClass RX8 = some m.cls := findClass_of_methodNamed B.named
  have hlocks := B.notSynchronized
  have hS : va_S A s.heap s.heap [] := va_S.rf
  have k170 := hts (.fieldLink RX8 170 "StageDeskModel" "timersWait" "I") (by decide +kernel)
  have k124 := hts (.fieldLink RX8 124 "StageDeskModel" "timerNumber" "[I") (by decide +kernel)
  have k127 := hts (.fieldLink RX8 127 "StageDeskModel" "timerStage" "[I") (by decide +kernel)
  have k130 := hts (.fieldLink RX8 130 "StageDeskModel" "timerValue" "[I") (by decide +kernel)
  have k133 := hts (.fieldLink RX8 133 "StageDeskModel" "timerAt" "[I") (by decide +kernel)
  have inX8 : ∀ w ∈ u_ws RX8 TX8 48, w ∈ wsX8_forgetTimer := by decide +kernel
  have hb12 : ∀ (n9 : Nat), ∀ (x2 : Int32) (V : mM), lpX8_forgetTimer_12 n9 x2 V = some res → ∀ (H : Heap) (locs : List Loc), mP (dC, dI) vwCl A ad (mce cI cZ ad) mex V H → va_S A s.heap H locs → ∀ (ls : Array Slot), lv_has ls 3 [(0, .ref (ad 0 0)), (2, .int x2)] → W p l e (headSpec wsX8_forgetTimer ({ frames := 0, cells := 0, slots := 0, locals := 0 } : Room)).room s m ([.ref (ad 0 0), .int px1] : List Value).toArray below meth cd H locs 0 0 (MQ below (va_Qv (fun (_ : Unit) => True) (fun _ t9 => mR dC dI A ad cI cZ res t9) A) ([.ref (ad 0 0), .int px1] : List Value).toArray s 0 0 A) (F0 m 12 ls []) := by
    intro  n9
    induction n9 with
    | zero =>
      intro x2 V h H locs hM hS ls hl
      rw [lpX8_forgetTimer_12] at h
      cases h
    | succ n9 ih =>
      intro x2 V h H locs hM hS ls hl
      rw [lpX8_forgetTimer_12] at h
      refine lv_iload_n hx hb dX8_forgetTimer_12 rfl (lv_at hl 1 rfl) ?_
      refine lv_aload_n hx hb dX8_forgetTimer_13 rfl (lv_at hl 0 rfl) ?_
      refine mm_get (C := RX8) (T := TX8) (N := 48) (ci := 8) hx hb hts inX8 hown hK hM 0 0 me0 rfl rfl 43 (by decide) k170 (fun _ h9 => h9) rfl dX8_forgetTimer_14 ?_
      refine lv_icmp_ge (tgt := 82) hx hb dX8_forgetTimer_17 (by decide) (fun c_1 => ?_) (fun c_1 => ?_)
      · have h := iteT c_1 h
        have e9 : V = res := Option.some.inj h
        subst e9
        exact W.vret hx hb hr (fun t9 ht9 hW9 => ⟨⟨(), rfl, trivial, mR_of hM hK hAs hS.1 ht9 hW9⟩, hS.F ht9⟩) hS.2.2 dX8_forgetTimer_82
      · have h := iteF c_1 h
        refine lv_aload_n hx hb dX8_forgetTimer_20 rfl (lv_at hl 0 rfl) ?_
        refine mm_get (C := RX8) (T := TX8) (N := 48) (ci := 8) hx hb hts inX8 hown hK hM 0 0 me0 rfl rfl 44 (by decide) k124 (fun _ h9 => h9) rfl dX8_forgetTimer_21 ?_
        refine lv_iload_n hx hb dX8_forgetTimer_24 rfl (lv_at hl 1 rfl) ?_
        refine lv_aload_n hx hb dX8_forgetTimer_25 rfl (lv_at hl 0 rfl) ?_
        refine mm_get (C := RX8) (T := TX8) (N := 48) (ci := 8) hx hb hts inX8 hown hK hM 0 0 me0 rfl rfl 44 (by decide) k124 (fun _ h9 => h9) rfl dX8_forgetTimer_26 ?_
        refine lv_iload_n hx hb dX8_forgetTimer_29 rfl (lv_at hl 1 rfl) ?_
        refine lv_iconst (v := 1) hx hb dX8_forgetTimer_30 (by decide) ?_
        refine lv_iadd hx hb dX8_forgetTimer_31 ?_
        obtain ⟨b_2, h⟩ := iteS h
        refine mm_iald hx hb hK hM 45 0 (me (by decide)) 0 rfl rfl (bin_in b_2) dX8_forgetTimer_32 ?_
        obtain ⟨b_3, h⟩ := iteS h
        refine mm_iast hx hb hK hM hS 45 0 (me (by decide)) 0 rfl rfl (bin_in b_3) rfl dX8_forgetTimer_33 (fun H locs hM hS => ?_)
        refine lv_aload_n hx hb dX8_forgetTimer_34 rfl (lv_at hl 0 rfl) ?_
        refine mm_get (C := RX8) (T := TX8) (N := 48) (ci := 8) hx hb hts inX8 hown hK hM 0 0 me0 rfl rfl 45 (by decide) k127 (fun _ h9 => h9) rfl dX8_forgetTimer_35 ?_
        refine lv_iload_n hx hb dX8_forgetTimer_38 rfl (lv_at hl 1 rfl) ?_
        refine lv_aload_n hx hb dX8_forgetTimer_39 rfl (lv_at hl 0 rfl) ?_
        refine mm_get (C := RX8) (T := TX8) (N := 48) (ci := 8) hx hb hts inX8 hown hK hM 0 0 me0 rfl rfl 45 (by decide) k127 (fun _ h9 => h9) rfl dX8_forgetTimer_40 ?_
        refine lv_iload_n hx hb dX8_forgetTimer_43 rfl (lv_at hl 1 rfl) ?_
        refine lv_iconst (v := 1) hx hb dX8_forgetTimer_44 (by decide) ?_
        refine lv_iadd hx hb dX8_forgetTimer_45 ?_
        obtain ⟨b_4, h⟩ := iteS h
        refine mm_iald hx hb hK hM 46 0 (me (by decide)) 0 rfl rfl (bin_in b_4) dX8_forgetTimer_46 ?_
        obtain ⟨b_5, h⟩ := iteS h
        refine mm_iast hx hb hK hM hS 46 0 (me (by decide)) 0 rfl rfl (bin_in b_5) rfl dX8_forgetTimer_47 (fun H locs hM hS => ?_)
        refine lv_aload_n hx hb dX8_forgetTimer_48 rfl (lv_at hl 0 rfl) ?_
        refine mm_get (C := RX8) (T := TX8) (N := 48) (ci := 8) hx hb hts inX8 hown hK hM 0 0 me0 rfl rfl 46 (by decide) k130 (fun _ h9 => h9) rfl dX8_forgetTimer_49 ?_
        refine lv_iload_n hx hb dX8_forgetTimer_52 rfl (lv_at hl 1 rfl) ?_
        refine lv_aload_n hx hb dX8_forgetTimer_53 rfl (lv_at hl 0 rfl) ?_
        refine mm_get (C := RX8) (T := TX8) (N := 48) (ci := 8) hx hb hts inX8 hown hK hM 0 0 me0 rfl rfl 46 (by decide) k130 (fun _ h9 => h9) rfl dX8_forgetTimer_54 ?_
        refine lv_iload_n hx hb dX8_forgetTimer_57 rfl (lv_at hl 1 rfl) ?_
        refine lv_iconst (v := 1) hx hb dX8_forgetTimer_58 (by decide) ?_
        refine lv_iadd hx hb dX8_forgetTimer_59 ?_
        obtain ⟨b_6, h⟩ := iteS h
        refine mm_iald hx hb hK hM 47 0 (me (by decide)) 0 rfl rfl (bin_in b_6) dX8_forgetTimer_60 ?_
        obtain ⟨b_7, h⟩ := iteS h
        refine mm_iast hx hb hK hM hS 47 0 (me (by decide)) 0 rfl rfl (bin_in b_7) rfl dX8_forgetTimer_61 (fun H locs hM hS => ?_)
        refine lv_aload_n hx hb dX8_forgetTimer_62 rfl (lv_at hl 0 rfl) ?_
        refine mm_get (C := RX8) (T := TX8) (N := 48) (ci := 8) hx hb hts inX8 hown hK hM 0 0 me0 rfl rfl 47 (by decide) k133 (fun _ h9 => h9) rfl dX8_forgetTimer_63 ?_
        refine lv_iload_n hx hb dX8_forgetTimer_66 rfl (lv_at hl 1 rfl) ?_
        refine lv_aload_n hx hb dX8_forgetTimer_67 rfl (lv_at hl 0 rfl) ?_
        refine mm_get (C := RX8) (T := TX8) (N := 48) (ci := 8) hx hb hts inX8 hown hK hM 0 0 me0 rfl rfl 47 (by decide) k133 (fun _ h9 => h9) rfl dX8_forgetTimer_68 ?_
        refine lv_iload_n hx hb dX8_forgetTimer_71 rfl (lv_at hl 1 rfl) ?_
        refine lv_iconst (v := 1) hx hb dX8_forgetTimer_72 (by decide) ?_
        refine lv_iadd hx hb dX8_forgetTimer_73 ?_
        obtain ⟨b_8, h⟩ := iteS h
        refine mm_iald hx hb hK hM 48 0 (me (by decide)) 0 rfl rfl (bin_in b_8) dX8_forgetTimer_74 ?_
        obtain ⟨b_9, h⟩ := iteS h
        refine mm_iast hx hb hK hM hS 48 0 (me (by decide)) 0 rfl rfl (bin_in b_9) rfl dX8_forgetTimer_75 (fun H locs hM hS => ?_)
        refine lv_iinc (v := (x2 + 1)) (lv' := [(2, .int (x2 + 1)), (0, .ref (ad 0 0))]) hx hb dX8_forgetTimer_76 hl (k := 1) rfl rfl (by decide) rfl (fun ls hl => ?_)
        refine lv_goto (tgt := 12) hx hb dX8_forgetTimer_79 (by decide) ?_
        exact ih _ _ h _ _  hM hS ls (lv_sub hl [1, 0] rfl)
  have hl := lv_entry ([.ref (ad 0 0), .int px1]) (n := 3) (Nat.le_of_ble_eq_true rfl)
  rw [lg_entry_eq]
  generalize (lg_sl ([.ref (ad 0 0), .int px1]) ++ List.replicate (3 - (lg_sl ([.ref (ad 0 0), .int px1])).length) Slot.unset).toArray = ls at hl ⊢
  have hl : lv_has ls 3 [(0, .ref (ad 0 0)), (1, .int px1)] := hl
  unfold fX8_forgetTimer at h
  refine lv_aload_n hx hb dX8_forgetTimer_0 rfl (lv_at hl 0 rfl) ?_
  refine lv_dup hx hb dX8_forgetTimer_1 rfl ?_
  refine mm_get (C := RX8) (T := TX8) (N := 48) (ci := 8) hx hb hts inX8 hown hK hM 0 0 me0 rfl rfl 43 (by decide) k170 (fun _ h9 => h9) rfl dX8_forgetTimer_2 ?_
  refine lv_iconst (v := 1) hx hb dX8_forgetTimer_5 (by decide) ?_
  refine lv_isub hx hb dX8_forgetTimer_6 ?_
  refine mm_put (C := RX8) (T := TX8) (N := 48) (ci := 8) (ty := .int) hx hb hts inX8 tyX8 tyX8_ok nmX8 hown hK hM hS 0 0 me0 rfl rfl 43 (by decide) k170 (fun _ h9 => h9) rfl (by decide +kernel) rfl rfl (Nat.le_of_ble_eq_true rfl) ((V0 0 0 43) - (1 : Int32)) rfl dX8_forgetTimer_7 (fun H locs hM hS => ?_)
  refine lv_iload_n hx hb dX8_forgetTimer_10 rfl (lv_at hl 1 rfl) ?_
  refine lv_istore_n (lv' := [(2, .int px1), (0, .ref (ad 0 0)), (1, .int px1)]) hx hb dX8_forgetTimer_11 rfl hl (by decide) rfl (fun ls hl => ?_)
  exact hb12 fu _ _ h _ _  hM hS ls (lv_sub hl [1, 0] rfl)
/-! X8_cancel -/
def lpX8_cancel_2   : Nat → Int32 → Int32 → mM → Option (Int32 × mM)
  | 0, _, _, _ => none
  | n9 + 1, x1, x2, V => if (V 0 0 43) ≤ x2 then (some ((-1 : Int32), V)) else (if bin x2 50 = true then (if (V 45 0 (x2).toNatClampNeg) = x1 then ((fX8_forgetTimer x2 V).bind fun u_4 => some ((1 : Int32), u_4)) else (lpX8_cancel_2 n9 x1 (x2 + 1) V)) else none)
def fX8_cancel  (px1 : Int32) (V0 : mM) : Option (Int32 × mM) := lpX8_cancel_2 fu px1 (0 : Int32) V0
set_option maxHeartbeats 4000000 in
set_option maxRecDepth 100000 in
theorem kX8_cancel (l : Launch) {dC : Nat → ClassId} {dI : Nat → Nat → Nat} {A : Nat → Prop} {ad : Nat → Nat → Nat} {cI cZ : ClassId}  (px1 : Int32) (V0 : mM) {res : Int32 × mM} (h : fX8_cancel px1 V0 = some res) : Met l yX8_cancel wsX8_cancel ({ frames := 1, cells := 0, slots := 0, locals := 22 } : Room) (va_Pc [.ref (ad 0 0), .int px1] (fun U => mR dC dI A ad cI cZ V0 U)) (va_Qi (fun r9 (_ : Unit) => r9 = res.1) (fun _ t9 => mR dC dI A ad cI cZ res.2 t9) A) 0 0 A := by
  refine Met.ofW (cc := cX8_cancel) (maxL := 3) (ret := (some .int)) (by decide) rfl ?_
  intro p e s m args below meth cd s₁ B hml hv
  obtain ⟨rfl, hM, hK, hAs⟩ := hv
  have hx := B.exec
  have hb := B.bytes
  have hr := B.returns
  have hts := atoms_spec (ws := wsX8_cancel) B.pre
  have hown : s.vm.findClass RX8 = some m.cls := findClass_of_methodNamed B.named
  have hlocks := B.notSynchronized
  have hS : va_S A s.heap s.heap [] := va_S.rf
  have k170 := hts (.fieldLink RX8 170 "StageDeskModel" "timersWait" "I") (by decide +kernel)
  have k124 := hts (.fieldLink RX8 124 "StageDeskModel" "timerNumber" "[I") (by decide +kernel)
  have inX8 : ∀ w ∈ u_ws RX8 TX8 48, w ∈ wsX8_cancel := by decide +kernel
  have hb2 : ∀ (n9 : Nat), ∀ (x1 : Int32) (x2 : Int32) (V : mM), lpX8_cancel_2 n9 x1 x2 V = some res → ∀ (H : Heap) (locs : List Loc), mP (dC, dI) vwCl A ad (mce cI cZ ad) mex V H → va_S A s.heap H locs → ∀ (ls : Array Slot), lv_has ls 3 [(0, .ref (ad 0 0)), (1, .int x1), (2, .int x2)] → W p l e (headSpec wsX8_cancel ({ frames := 1, cells := 0, slots := 0, locals := 22 } : Room)).room s m ([.ref (ad 0 0), .int px1] : List Value).toArray below meth cd H locs 0 0 (MQ below (va_Qi (fun r9 (_ : Unit) => r9 = res.1) (fun _ t9 => mR dC dI A ad cI cZ res.2 t9) A) ([.ref (ad 0 0), .int px1] : List Value).toArray s 0 0 A) (F0 m 2 ls []) := by
    intro  n9
    induction n9 with
    | zero =>
      intro x1 x2 V h H locs hM hS ls hl
      rw [lpX8_cancel_2] at h
      cases h
    | succ n9 ih =>
      intro x1 x2 V h H locs hM hS ls hl
      rw [lpX8_cancel_2] at h
      refine lv_iload_n hx hb dX8_cancel_2 rfl (lv_at hl 2 rfl) ?_
      refine lv_aload_n hx hb dX8_cancel_3 rfl (lv_at hl 0 rfl) ?_
      refine mm_get (C := RX8) (T := TX8) (N := 48) (ci := 8) hx hb hts inX8 hown hK hM 0 0 me0 rfl rfl 43 (by decide) k170 (fun _ h9 => h9) rfl dX8_cancel_4 ?_
      refine lv_icmp_ge (tgt := 33) hx hb dX8_cancel_7 (by decide) (fun c_1 => ?_) (fun c_1 => ?_)
      · have h := iteT c_1 h
        refine lv_iconst (v := (-1)) hx hb dX8_cancel_33 (by decide) ?_
        have e9 : ((-1 : Int32), V) = res := Option.some.inj h
        subst e9
        exact W.iret (v := (-1 : Int32)) hx hb hr (fun t9 ht9 hW9 => ⟨⟨_, (), rfl, rfl, mR_of hM hK hAs hS.1 ht9 hW9⟩, hS.F ht9⟩) hS.2.2 dX8_cancel_34
      · have h := iteF c_1 h
        refine lv_aload_n hx hb dX8_cancel_10 rfl (lv_at hl 0 rfl) ?_
        refine mm_get (C := RX8) (T := TX8) (N := 48) (ci := 8) hx hb hts inX8 hown hK hM 0 0 me0 rfl rfl 44 (by decide) k124 (fun _ h9 => h9) rfl dX8_cancel_11 ?_
        refine lv_iload_n hx hb dX8_cancel_14 rfl (lv_at hl 2 rfl) ?_
        obtain ⟨b_2, h⟩ := iteS h
        refine mm_iald hx hb hK hM 45 0 (me (by decide)) 0 rfl rfl (bin_in b_2) dX8_cancel_15 ?_
        refine lv_iload_n hx hb dX8_cancel_16 rfl (lv_at hl 1 rfl) ?_
        refine lv_icmp_ne (tgt := 27) hx hb dX8_cancel_17 (by decide) (fun c_3 => ?_) (fun c_3 => ?_)
        · have h := iteF c_3 h
          refine lv_iinc (v := (x2 + 1)) (lv' := [(2, .int (x2 + 1)), (0, .ref (ad 0 0)), (1, .int x1)]) hx hb dX8_cancel_27 hl (k := 2) rfl rfl (by decide) rfl (fun ls hl => ?_)
          refine lv_goto (tgt := 2) hx hb dX8_cancel_30 (by decide) ?_
          exact ih _ _ _ h _ _  hM hS ls (lv_sub hl [1, 2, 0] rfl)
        · have h := iteT c_3 h
          refine lv_aload_n hx hb dX8_cancel_20 rfl (lv_at hl 0 rfl) ?_
          refine lv_iload_n hx hb dX8_cancel_21 rfl (lv_at hl 2 rfl) ?_
          obtain ⟨u_4, hu_4, h⟩ := bindS h
          refine va_callv (va_runV (As := [.int x2]) (rest := []) ⟨hx, hb, hml, hown, hts⟩ (kX8_forgetTimer l x2 V hu_4) (cwV 1 hts gX8_cancel_X8_forgetTimer rfl rfl rfl (by decide +kernel) ⟨Nat.le_of_ble_eq_true rfl, Nat.le_of_ble_eq_true rfl⟩) ⟨fun a U g9 mk w9 => ⟨w9.1, mR_calling w9.2⟩, mP_recv (q := (RX8, TX8, 48)) hK hM me0 rfl rfl, fun U hU hWm => ⟨rfl, mR_of hM hK hAs hS.1 hU hWm⟩⟩ rfl rfl hl.1 rfl (lv_room (Nat.le_of_ble_eq_true rfl)) dX8_cancel_22 ⟨Nat.le_of_ble_eq_true rfl, Nat.le_of_ble_eq_true rfl⟩) hS (fun _ _ h9 => h9) (fun _ h9 => h9) (fun u9 t9 H locs ht9 _ hw9 hB9 _ _ hS => ?_)
          obtain ⟨hM, -, -⟩ := hB9
          rw [ht9] at hM
          refine lv_iconst (v := 1) hx hb dX8_cancel_25 (by decide) ?_
          have e9 : ((1 : Int32), u_4) = res := Option.some.inj h
          subst e9
          exact W.iret (v := (1 : Int32)) hx hb hr (fun t9 ht9 hW9 => ⟨⟨_, (), rfl, rfl, mR_of hM hK hAs hS.1 ht9 hW9⟩, hS.F ht9⟩) hS.2.2 dX8_cancel_26
  have hl := lv_entry ([.ref (ad 0 0), .int px1]) (n := 3) (Nat.le_of_ble_eq_true rfl)
  rw [lg_entry_eq]
  generalize (lg_sl ([.ref (ad 0 0), .int px1]) ++ List.replicate (3 - (lg_sl ([.ref (ad 0 0), .int px1])).length) Slot.unset).toArray = ls at hl ⊢
  have hl : lv_has ls 3 [(0, .ref (ad 0 0)), (1, .int px1)] := hl
  unfold fX8_cancel at h
  refine lv_iconst (v := 0) hx hb dX8_cancel_0 (by decide) ?_
  refine lv_istore_n (lv' := [(2, .int (0 : Int32)), (0, .ref (ad 0 0)), (1, .int px1)]) hx hb dX8_cancel_1 rfl hl (by decide) rfl (fun ls hl => ?_)
  exact hb2 fu _ _ _ h _ _  hM hS ls (lv_sub hl [1, 2, 0] rfl)
/-! X8_close -/
def fX8_close  (px1 : Int32) (V0 : mM) : Option (Int32 × mM) := (fX8_isStage px1 V0).bind fun u_1 => if u_1 = 0 then (some ((-1 : Int32), V0)) else (if bin px1 8 = true then (if (V0 22 0 (px1).toNatClampNeg) = 0 then (if bin px1 8 = true then (some ((1 : Int32), (mu V0 22 0 (px1).toNatClampNeg (1 : Int32)))) else none) else (some ((-3 : Int32), V0))) else none)
set_option maxHeartbeats 4000000 in
set_option maxRecDepth 100000 in
theorem kX8_close (l : Launch) {dC : Nat → ClassId} {dI : Nat → Nat → Nat} {A : Nat → Prop} {ad : Nat → Nat → Nat} {cI cZ : ClassId}  (px1 : Int32) (V0 : mM) {res : Int32 × mM} (h : fX8_close px1 V0 = some res) : Met l yX8_close wsX8_close ({ frames := 1, cells := 0, slots := 0, locals := 21 } : Room) (va_Pc [.ref (ad 0 0), .int px1] (fun U => mR dC dI A ad cI cZ V0 U)) (va_Qi (fun r9 (_ : Unit) => r9 = res.1) (fun _ t9 => mR dC dI A ad cI cZ res.2 t9) A) 0 0 A := by
  refine Met.ofW (cc := cX8_close) (maxL := 2) (ret := (some .int)) (by decide) rfl ?_
  intro p e s m args below meth cd s₁ B hml hv
  obtain ⟨rfl, hM, hK, hAs⟩ := hv
  have hx := B.exec
  have hb := B.bytes
  have hr := B.returns
  have hts := atoms_spec (ws := wsX8_close) B.pre
  have hown : s.vm.findClass RX8 = some m.cls := findClass_of_methodNamed B.named
  have hlocks := B.notSynchronized
  have hS : va_S A s.heap s.heap [] := va_S.rf
  have k60 := hts (.fieldLink RX8 60 "StageDeskModel" "shut" "[Z") (by decide +kernel)
  have inX8 : ∀ w ∈ u_ws RX8 TX8 48, w ∈ wsX8_close := by decide +kernel
  have hl := lv_entry ([.ref (ad 0 0), .int px1]) (n := 2) (Nat.le_of_ble_eq_true rfl)
  rw [lg_entry_eq]
  generalize (lg_sl ([.ref (ad 0 0), .int px1]) ++ List.replicate (2 - (lg_sl ([.ref (ad 0 0), .int px1])).length) Slot.unset).toArray = ls at hl ⊢
  have hl : lv_has ls 2 [(0, .ref (ad 0 0)), (1, .int px1)] := hl
  unfold fX8_close at h
  refine lv_aload_n hx hb dX8_close_0 rfl (lv_at hl 0 rfl) ?_
  refine lv_iload_n hx hb dX8_close_1 rfl (lv_at hl 1 rfl) ?_
  obtain ⟨u_1, hu_1, h⟩ := bindS h
  refine va_calli (va_runV (As := [.int px1]) (rest := []) ⟨hx, hb, hml, hown, hts⟩ (kX8_isStage l px1 V0 hu_1) (cwV 1 hts gX8_close_X8_isStage rfl rfl rfl (by decide +kernel) ⟨Nat.le_of_ble_eq_true rfl, Nat.le_of_ble_eq_true rfl⟩) ⟨fun a U g9 mk w9 => ⟨w9.1, mR_calling w9.2⟩, mP_recv (q := (RX8, TX8, 48)) hK hM me0 rfl rfl, fun U hU hWm => ⟨rfl, mR_of hM hK hAs hS.1 hU hWm⟩⟩ rfl rfl hl.1 rfl (lv_room (Nat.le_of_ble_eq_true rfl)) dX8_close_2 ⟨Nat.le_of_ble_eq_true rfl, Nat.le_of_ble_eq_true rfl⟩) hS (fun _ _ h9 => h9) (fun _ h9 => h9) (fun r9 u9 t9 H locs ht9 _ hw9 hB9 _ _ hS => ?_)
  rw [show r9 = u_1 from hw9]
  obtain ⟨hM, -, -⟩ := hB9
  rw [ht9] at hM
  refine lv_if_ne (tgt := 10) hx hb dX8_close_5 (by decide) (fun c_2 => ?_) (fun c_2 => ?_)
  · have h := iteF c_2 h
    refine lv_aload_n hx hb dX8_close_10 rfl (lv_at hl 0 rfl) ?_
    refine mm_get (C := RX8) (T := TX8) (N := 48) (ci := 8) hx hb hts inX8 hown hK hM 0 0 me0 rfl rfl 21 (by decide) k60 (fun _ h9 => h9) rfl dX8_close_11 ?_
    refine lv_iload_n hx hb dX8_close_14 rfl (lv_at hl 1 rfl) ?_
    obtain ⟨b_3, h⟩ := iteS h
    refine mm_zald hx hb hK hM 22 0 (me (by decide)) 1 rfl rfl (bin_in b_3) dX8_close_15 ?_
    refine lv_if_eq (tgt := 22) hx hb dX8_close_16 (by decide) (fun c_4 => ?_) (fun c_4 => ?_)
    · have h := iteT c_4 h
      refine lv_aload_n hx hb dX8_close_22 rfl (lv_at hl 0 rfl) ?_
      refine mm_get (C := RX8) (T := TX8) (N := 48) (ci := 8) hx hb hts inX8 hown hK hM 0 0 me0 rfl rfl 21 (by decide) k60 (fun _ h9 => h9) rfl dX8_close_23 ?_
      refine lv_iload_n hx hb dX8_close_26 rfl (lv_at hl 1 rfl) ?_
      refine lv_iconst (v := 1) hx hb dX8_close_27 (by decide) ?_
      obtain ⟨b_5, h⟩ := iteS h
      refine mm_zast (y := (1 : Int32)) hx hb hK hM hS 22 0 (me (by decide)) 1 rfl rfl (by decide) (bin_in b_5) rfl dX8_close_28 (fun H locs hM hS => ?_)
      refine lv_iconst (v := 1) hx hb dX8_close_29 (by decide) ?_
      have e9 : ((1 : Int32), (mu V0 22 0 (px1).toNatClampNeg (1 : Int32))) = res := Option.some.inj h
      subst e9
      exact W.iret (v := (1 : Int32)) hx hb hr (fun t9 ht9 hW9 => ⟨⟨_, (), rfl, rfl, mR_of hM hK hAs hS.1 ht9 hW9⟩, hS.F ht9⟩) hS.2.2 dX8_close_30
    · have h := iteF c_4 h
      refine lv_bipush (v := (-3)) hx hb dX8_close_19 (by decide) ?_
      have e9 : ((-3 : Int32), V0) = res := Option.some.inj h
      subst e9
      exact W.iret (v := (-3 : Int32)) hx hb hr (fun t9 ht9 hW9 => ⟨⟨_, (), rfl, rfl, mR_of hM hK hAs hS.1 ht9 hW9⟩, hS.F ht9⟩) hS.2.2 dX8_close_21
  · have h := iteT c_2 h
    refine lv_iconst (v := (-1)) hx hb dX8_close_8 (by decide) ?_
    have e9 : ((-1 : Int32), V0) = res := Option.some.inj h
    subst e9
    exact W.iret (v := (-1 : Int32)) hx hb hr (fun t9 ht9 hW9 => ⟨⟨_, (), rfl, rfl, mR_of hM hK hAs hS.1 ht9 hW9⟩, hS.F ht9⟩) hS.2.2 dX8_close_9
/-! X8_ring -/
def jnX8_ring_69  (ro2 : Int32 → mM → Option (mM)) (x1 : Int32) (xs1 : Int32) (xs2 : Int32) (V : mM) : Option (mM) := ro2 x1 (mu V 0 0 6 (xs1 + xs2))
def lpX8_ring_2   : Nat → Int32 → mM → Option (mM)
  | 0, _, _ => none
  | n9 + 1, x1, V => if (V 0 0 43) ≤ x1 then (some V) else (if bin x1 50 = true then (if (V 48 0 (x1).toNatClampNeg) = (V 0 0 0) then (if bin x1 50 = true then (if bin x1 50 = true then ((fX8_make (V 47 0 (x1).toNatClampNeg) (V 0 0 0) V).bind fun u_6 => (fX8_forgetTimer x1 u_6.2).bind fun u_7 => (fX8_offer (V 46 0 (x1).toNatClampNeg) u_6.1 u_7).bind fun u_8 => if u_8.1 = 0 then (jnX8_ring_69 (lpX8_ring_2 n9) x1 (u_7 0 0 6) (1 : Int32) u_8.2) else (jnX8_ring_69 (lpX8_ring_2 n9) x1 (u_7 0 0 6) (0 : Int32) u_8.2)) else none) else none) else (lpX8_ring_2 n9 (x1 + 1) V)) else none)
def fX8_ring   (V0 : mM) : Option (mM) := lpX8_ring_2 fu (0 : Int32) V0
set_option maxHeartbeats 4000000 in
set_option maxRecDepth 100000 in
theorem kX8_ring (l : Launch) {dC : Nat → ClassId} {dI : Nat → Nat → Nat} {A : Nat → Prop} {ad : Nat → Nat → Nat} {cI cZ : ClassId}   (V0 : mM) {res : mM} (h : fX8_ring V0 = some res) : Met l yX8_ring wsX8_ring ({ frames := 2, cells := 0, slots := 0, locals := 44 } : Room) (va_Pc [.ref (ad 0 0)] (fun U => mR dC dI A ad cI cZ V0 U)) (va_Qv (fun (_ : Unit) => True) (fun _ t9 => mR dC dI A ad cI cZ res t9) A) 0 0 A := by
  refine Met.ofW (cc := cX8_ring) (maxL := 4) (ret := none) (by decide) rfl ?_
  intro p e s m args below meth cd s₁ B hml hv
  obtain ⟨rfl, hM, hK, hAs⟩ := hv
  have hx := B.exec
  have hb := B.bytes
  have hr := B.returns
  have hts := atoms_spec (ws := wsX8_ring) B.pre
  have hown : s.vm.findClass RX8 = some m.cls := findClass_of_methodNamed B.named
  have hlocks := B.notSynchronized
  have hS : va_S A s.heap s.heap [] := va_S.rf
  have k180 := hts (.fieldLink RX8 180 "StageDeskModel" "lost" "I") (by decide +kernel)
  have k170 := hts (.fieldLink RX8 170 "StageDeskModel" "timersWait" "I") (by decide +kernel)
  have k133 := hts (.fieldLink RX8 133 "StageDeskModel" "timerAt" "[I") (by decide +kernel)
  have k163 := hts (.fieldLink RX8 163 "StageDeskModel" "clock" "I") (by decide +kernel)
  have k127 := hts (.fieldLink RX8 127 "StageDeskModel" "timerStage" "[I") (by decide +kernel)
  have k130 := hts (.fieldLink RX8 130 "StageDeskModel" "timerValue" "[I") (by decide +kernel)
  have inX8 : ∀ w ∈ u_ws RX8 TX8 48, w ∈ wsX8_ring := by decide +kernel
  have hb69 : ∀ (ro2 : Int32 → mM → Option (mM)) (hro2 : ∀ (x1 : Int32) (V : mM), ro2 x1 V = some res → ∀ (H : Heap) (locs : List Loc), mP (dC, dI) vwCl A ad (mce cI cZ ad) mex V H → va_S A s.heap H locs → ∀ (ls : Array Slot), lv_has ls 4 [(0, .ref (ad 0 0)), (1, .int x1)] → W p l e (headSpec wsX8_ring ({ frames := 2, cells := 0, slots := 0, locals := 44 } : Room)).room s m ([.ref (ad 0 0)] : List Value).toArray below meth cd H locs 0 0 (MQ below (va_Qv (fun (_ : Unit) => True) (fun _ t9 => mR dC dI A ad cI cZ res t9) A) ([.ref (ad 0 0)] : List Value).toArray s 0 0 A) (F0 m 2 ls [])), ∀ (x1 : Int32) (xs1 : Int32) (xs2 : Int32) (V : mM), jnX8_ring_69 ro2 x1 xs1 xs2 V = some res → ∀ (H : Heap) (locs : List Loc), mP (dC, dI) vwCl A ad (mce cI cZ ad) mex V H → va_S A s.heap H locs → ∀ (ls : Array Slot), lv_has ls 4 [(0, .ref (ad 0 0)), (1, .int x1)] → W p l e (headSpec wsX8_ring ({ frames := 2, cells := 0, slots := 0, locals := 44 } : Room)).room s m ([.ref (ad 0 0)] : List Value).toArray below meth cd H locs 0 0 (MQ below (va_Qv (fun (_ : Unit) => True) (fun _ t9 => mR dC dI A ad cI cZ res t9) A) ([.ref (ad 0 0)] : List Value).toArray s 0 0 A) (F0 m 69 ls [.int xs2, .int xs1, .ref (ad 0 0)]) := by
    intro ro2 hro2 x1 xs1 xs2 V h H locs hM hS ls hl
    unfold jnX8_ring_69 at h
    refine lv_iadd hx hb dX8_ring_69 ?_
    refine mm_put (C := RX8) (T := TX8) (N := 48) (ci := 8) (ty := .int) hx hb hts inX8 tyX8 tyX8_ok nmX8 hown hK hM hS 0 0 me0 rfl rfl 6 (by decide) k180 (fun _ h9 => h9) rfl (by decide +kernel) rfl rfl (Nat.le_of_ble_eq_true rfl) (xs1 + xs2) rfl dX8_ring_70 (fun H locs hM hS => ?_)
    refine lv_goto (tgt := 2) hx hb dX8_ring_73 (by decide) ?_
    exact hro2 _ _ h _ _  hM hS ls (lv_sub hl [0, 1] rfl)
  have hb2 : ∀ (n9 : Nat), ∀ (x1 : Int32) (V : mM), lpX8_ring_2 n9 x1 V = some res → ∀ (H : Heap) (locs : List Loc), mP (dC, dI) vwCl A ad (mce cI cZ ad) mex V H → va_S A s.heap H locs → ∀ (ls : Array Slot), lv_has ls 4 [(0, .ref (ad 0 0)), (1, .int x1)] → W p l e (headSpec wsX8_ring ({ frames := 2, cells := 0, slots := 0, locals := 44 } : Room)).room s m ([.ref (ad 0 0)] : List Value).toArray below meth cd H locs 0 0 (MQ below (va_Qv (fun (_ : Unit) => True) (fun _ t9 => mR dC dI A ad cI cZ res t9) A) ([.ref (ad 0 0)] : List Value).toArray s 0 0 A) (F0 m 2 ls []) := by
    intro  n9
    induction n9 with
    | zero =>
      intro x1 V h H locs hM hS ls hl
      rw [lpX8_ring_2] at h
      cases h
    | succ n9 ih =>
      intro x1 V h H locs hM hS ls hl
      rw [lpX8_ring_2] at h
      refine lv_iload_n hx hb dX8_ring_2 rfl (lv_at hl 1 rfl) ?_
      refine lv_aload_n hx hb dX8_ring_3 rfl (lv_at hl 0 rfl) ?_
      refine mm_get (C := RX8) (T := TX8) (N := 48) (ci := 8) hx hb hts inX8 hown hK hM 0 0 me0 rfl rfl 43 (by decide) k170 (fun _ h9 => h9) rfl dX8_ring_4 ?_
      refine lv_icmp_ge (tgt := 82) hx hb dX8_ring_7 (by decide) (fun c_1 => ?_) (fun c_1 => ?_)
      · have h := iteT c_1 h
        have e9 : V = res := Option.some.inj h
        subst e9
        exact W.vret hx hb hr (fun t9 ht9 hW9 => ⟨⟨(), rfl, trivial, mR_of hM hK hAs hS.1 ht9 hW9⟩, hS.F ht9⟩) hS.2.2 dX8_ring_82
      · have h := iteF c_1 h
        refine lv_aload_n hx hb dX8_ring_10 rfl (lv_at hl 0 rfl) ?_
        refine mm_get (C := RX8) (T := TX8) (N := 48) (ci := 8) hx hb hts inX8 hown hK hM 0 0 me0 rfl rfl 47 (by decide) k133 (fun _ h9 => h9) rfl dX8_ring_11 ?_
        refine lv_iload_n hx hb dX8_ring_14 rfl (lv_at hl 1 rfl) ?_
        obtain ⟨b_2, h⟩ := iteS h
        refine mm_iald hx hb hK hM 48 0 (me (by decide)) 0 rfl rfl (bin_in b_2) dX8_ring_15 ?_
        refine lv_aload_n hx hb dX8_ring_16 rfl (lv_at hl 0 rfl) ?_
        refine mm_get (C := RX8) (T := TX8) (N := 48) (ci := 8) hx hb hts inX8 hown hK hM 0 0 me0 rfl rfl 0 (by decide) k163 (fun _ h9 => h9) rfl dX8_ring_17 ?_
        refine lv_icmp_ne (tgt := 76) hx hb dX8_ring_20 (by decide) (fun c_3 => ?_) (fun c_3 => ?_)
        · have h := iteF c_3 h
          refine lv_iinc (v := (x1 + 1)) (lv' := [(1, .int (x1 + 1)), (0, .ref (ad 0 0))]) hx hb dX8_ring_76 hl (k := 1) rfl rfl (by decide) rfl (fun ls hl => ?_)
          refine lv_goto (tgt := 2) hx hb dX8_ring_79 (by decide) ?_
          exact ih _ _ h _ _  hM hS ls (lv_sub hl [1, 0] rfl)
        · have h := iteT c_3 h
          refine lv_aload_n hx hb dX8_ring_23 rfl (lv_at hl 0 rfl) ?_
          refine mm_get (C := RX8) (T := TX8) (N := 48) (ci := 8) hx hb hts inX8 hown hK hM 0 0 me0 rfl rfl 45 (by decide) k127 (fun _ h9 => h9) rfl dX8_ring_24 ?_
          refine lv_iload_n hx hb dX8_ring_27 rfl (lv_at hl 1 rfl) ?_
          obtain ⟨b_4, h⟩ := iteS h
          refine mm_iald hx hb hK hM 46 0 (me (by decide)) 0 rfl rfl (bin_in b_4) dX8_ring_28 ?_
          refine lv_istore_n (lv' := [(2, .int (V 46 0 (x1).toNatClampNeg)), (0, .ref (ad 0 0)), (1, .int x1)]) hx hb dX8_ring_29 rfl hl (by decide) rfl (fun ls hl => ?_)
          refine lv_aload_n hx hb dX8_ring_30 rfl (lv_at hl 1 rfl) ?_
          refine lv_aload_n hx hb dX8_ring_31 rfl (lv_at hl 1 rfl) ?_
          refine mm_get (C := RX8) (T := TX8) (N := 48) (ci := 8) hx hb hts inX8 hown hK hM 0 0 me0 rfl rfl 46 (by decide) k130 (fun _ h9 => h9) rfl dX8_ring_32 ?_
          refine lv_iload_n hx hb dX8_ring_35 rfl (lv_at hl 2 rfl) ?_
          obtain ⟨b_5, h⟩ := iteS h
          refine mm_iald hx hb hK hM 47 0 (me (by decide)) 0 rfl rfl (bin_in b_5) dX8_ring_36 ?_
          refine lv_aload_n hx hb dX8_ring_37 rfl (lv_at hl 1 rfl) ?_
          refine mm_get (C := RX8) (T := TX8) (N := 48) (ci := 8) hx hb hts inX8 hown hK hM 0 0 me0 rfl rfl 0 (by decide) k163 (fun _ h9 => h9) rfl dX8_ring_38 ?_
          obtain ⟨u_6, hu_6, h⟩ := bindS h
          refine va_calli (va_runV (As := [.int (V 47 0 (x1).toNatClampNeg), .int (V 0 0 0)]) (rest := []) ⟨hx, hb, hml, hown, hts⟩ (kX8_make l (V 47 0 (x1).toNatClampNeg) (V 0 0 0) V hu_6) (cwV 2 hts gX8_ring_X8_make rfl rfl rfl (by decide +kernel) ⟨Nat.le_of_ble_eq_true rfl, Nat.le_of_ble_eq_true rfl⟩) ⟨fun a U g9 mk w9 => ⟨w9.1, mR_calling w9.2⟩, mP_recv (q := (RX8, TX8, 48)) hK hM me0 rfl rfl, fun U hU hWm => ⟨rfl, mR_of hM hK hAs hS.1 hU hWm⟩⟩ rfl rfl hl.1 rfl (lv_room (Nat.le_of_ble_eq_true rfl)) dX8_ring_41 ⟨Nat.le_of_ble_eq_true rfl, Nat.le_of_ble_eq_true rfl⟩) hS (fun _ _ h9 => h9) (fun _ h9 => h9) (fun r9 u9 t9 H locs ht9 _ hw9 hB9 _ _ hS => ?_)
          rw [show r9 = u_6.1 from hw9]
          obtain ⟨hM, -, -⟩ := hB9
          rw [ht9] at hM
          refine lv_istore_n (lv' := [(3, .int u_6.1), (2, .int (V 46 0 (x1).toNatClampNeg)), (0, .ref (ad 0 0)), (1, .int x1)]) hx hb dX8_ring_44 rfl hl (by decide) rfl (fun ls hl => ?_)
          refine lv_aload_n hx hb dX8_ring_45 rfl (lv_at hl 2 rfl) ?_
          refine lv_iload_n hx hb dX8_ring_46 rfl (lv_at hl 3 rfl) ?_
          obtain ⟨u_7, hu_7, h⟩ := bindS h
          refine va_callv (va_runV (As := [.int x1]) (rest := []) ⟨hx, hb, hml, hown, hts⟩ (kX8_forgetTimer l x1 u_6.2 hu_7) (cwV 1 hts gX8_ring_X8_forgetTimer rfl rfl rfl (by decide +kernel) ⟨Nat.le_of_ble_eq_true rfl, Nat.le_of_ble_eq_true rfl⟩) ⟨fun a U g9 mk w9 => ⟨w9.1, mR_calling w9.2⟩, mP_recv (q := (RX8, TX8, 48)) hK hM me0 rfl rfl, fun U hU hWm => ⟨rfl, mR_of hM hK hAs hS.1 hU hWm⟩⟩ rfl rfl hl.1 rfl (lv_room (Nat.le_of_ble_eq_true rfl)) dX8_ring_47 ⟨Nat.le_of_ble_eq_true rfl, Nat.le_of_ble_eq_true rfl⟩) hS (fun _ _ h9 => h9) (fun _ h9 => h9) (fun u9 t9 H locs ht9 _ hw9 hB9 _ _ hS => ?_)
          obtain ⟨hM, -, -⟩ := hB9
          rw [ht9] at hM
          refine lv_aload_n hx hb dX8_ring_50 rfl (lv_at hl 2 rfl) ?_
          refine lv_dup hx hb dX8_ring_51 rfl ?_
          refine mm_get (C := RX8) (T := TX8) (N := 48) (ci := 8) hx hb hts inX8 hown hK hM 0 0 me0 rfl rfl 6 (by decide) k180 (fun _ h9 => h9) rfl dX8_ring_52 ?_
          refine lv_aload_n hx hb dX8_ring_55 rfl (lv_at hl 2 rfl) ?_
          refine lv_iload_n hx hb dX8_ring_56 rfl (lv_at hl 1 rfl) ?_
          refine lv_iload_n hx hb dX8_ring_57 rfl (lv_at hl 0 rfl) ?_
          obtain ⟨u_8, hu_8, h⟩ := bindS h
          refine va_calli (va_runV (As := [.int (V 46 0 (x1).toNatClampNeg), .int u_6.1]) (rest := [.int (u_7 0 0 6), .ref (ad 0 0)]) ⟨hx, hb, hml, hown, hts⟩ (kX8_offer l (V 46 0 (x1).toNatClampNeg) u_6.1 u_7 hu_8) (cwV 2 hts gX8_ring_X8_offer rfl rfl rfl (by decide +kernel) ⟨Nat.le_of_ble_eq_true rfl, Nat.le_of_ble_eq_true rfl⟩) ⟨fun a U g9 mk w9 => ⟨w9.1, mR_calling w9.2⟩, mP_recv (q := (RX8, TX8, 48)) hK hM me0 rfl rfl, fun U hU hWm => ⟨rfl, mR_of hM hK hAs hS.1 hU hWm⟩⟩ rfl rfl hl.1 rfl (lv_room (Nat.le_of_ble_eq_true rfl)) dX8_ring_58 ⟨Nat.le_of_ble_eq_true rfl, Nat.le_of_ble_eq_true rfl⟩) hS (fun _ _ h9 => h9) (fun _ h9 => h9) (fun r9 u9 t9 H locs ht9 _ hw9 hB9 _ _ hS => ?_)
          rw [show r9 = u_8.1 from hw9]
          obtain ⟨hM, -, -⟩ := hB9
          rw [ht9] at hM
          refine lv_if_eq (tgt := 68) hx hb dX8_ring_61 (by decide) (fun c_9 => ?_) (fun c_9 => ?_)
          · have h := iteT c_9 h
            refine lv_iconst (v := 1) hx hb dX8_ring_68 (by decide) ?_
            exact hb69 (lpX8_ring_2 n9) ih _ _ _ _ h _ _  hM hS ls (lv_sub hl [2, 3] rfl)
          · have h := iteF c_9 h
            refine lv_iconst (v := 0) hx hb dX8_ring_64 (by decide) ?_
            refine lv_goto (tgt := 69) hx hb dX8_ring_65 (by decide) ?_
            exact hb69 (lpX8_ring_2 n9) ih _ _ _ _ h _ _  hM hS ls (lv_sub hl [2, 3] rfl)
  have hl := lv_entry ([.ref (ad 0 0)]) (n := 4) (Nat.le_of_ble_eq_true rfl)
  rw [lg_entry_eq]
  generalize (lg_sl ([.ref (ad 0 0)]) ++ List.replicate (4 - (lg_sl ([.ref (ad 0 0)])).length) Slot.unset).toArray = ls at hl ⊢
  have hl : lv_has ls 4 [(0, .ref (ad 0 0))] := hl
  unfold fX8_ring at h
  refine lv_iconst (v := 0) hx hb dX8_ring_0 (by decide) ?_
  refine lv_istore_n (lv' := [(1, .int (0 : Int32)), (0, .ref (ad 0 0))]) hx hb dX8_ring_1 rfl hl (by decide) rfl (fun ls hl => ?_)
  exact hb2 fu _ _ h _ _  hM hS ls (lv_sub hl [1, 0] rfl)
/-! X8_gift -/
def fX8_gift  (px1 : Int32) (px2 : Int32) (px3 : Int32) (px4 : Int32) (V0 : mM) : Option (mM) := if px4 = (-1 : Int32) then (some V0) else (if bin px1 32 = true then (if bin (((16 : Int32) * px1) + (V0 35 0 (px1).toNatClampNeg)) 512 = true then (if bin (((16 : Int32) * px1) + (V0 35 0 (px1).toNatClampNeg)) 512 = true then (if bin (((16 : Int32) * px1) + (V0 35 0 (px1).toNatClampNeg)) 512 = true then (if bin (((16 : Int32) * px1) + (V0 35 0 (px1).toNatClampNeg)) 512 = true then (if bin px1 32 = true then (if bin px1 32 = true then (some (mu (mu (mu (mu (mu V0 37 0 ((((16 : Int32) * px1) + (V0 35 0 (px1).toNatClampNeg))).toNatClampNeg px2) 38 0 ((((16 : Int32) * px1) + (V0 35 0 (px1).toNatClampNeg))).toNatClampNeg px3) 39 0 ((((16 : Int32) * px1) + (V0 35 0 (px1).toNatClampNeg))).toNatClampNeg px4) 40 0 ((((16 : Int32) * px1) + (V0 35 0 (px1).toNatClampNeg))).toNatClampNeg (-1 : Int32)) 35 0 (px1).toNatClampNeg (((mu (mu (mu (mu V0 37 0 ((((16 : Int32) * px1) + (V0 35 0 (px1).toNatClampNeg))).toNatClampNeg px2) 38 0 ((((16 : Int32) * px1) + (V0 35 0 (px1).toNatClampNeg))).toNatClampNeg px3) 39 0 ((((16 : Int32) * px1) + (V0 35 0 (px1).toNatClampNeg))).toNatClampNeg px4) 40 0 ((((16 : Int32) * px1) + (V0 35 0 (px1).toNatClampNeg))).toNatClampNeg (-1 : Int32)) 35 0 (px1).toNatClampNeg) + (1 : Int32)))) else none) else none) else none) else none) else none) else none) else none)
set_option maxHeartbeats 4000000 in
set_option maxRecDepth 100000 in
theorem kX8_gift (l : Launch) {dC : Nat → ClassId} {dI : Nat → Nat → Nat} {A : Nat → Prop} {ad : Nat → Nat → Nat} {cI cZ : ClassId}  (px1 : Int32) (px2 : Int32) (px3 : Int32) (px4 : Int32) (V0 : mM) {res : mM} (h : fX8_gift px1 px2 px3 px4 V0 = some res) : Met l yX8_gift wsX8_gift ({ frames := 0, cells := 0, slots := 0, locals := 0 } : Room) (va_Pc [.ref (ad 0 0), .int px1, .int px2, .int px3, .int px4] (fun U => mR dC dI A ad cI cZ V0 U)) (va_Qv (fun (_ : Unit) => True) (fun _ t9 => mR dC dI A ad cI cZ res t9) A) 0 0 A := by
  refine Met.ofW (cc := cX8_gift) (maxL := 6) (ret := none) (by decide) rfl ?_
  intro p e s m args below meth cd s₁ B hml hv
  obtain ⟨rfl, hM, hK, hAs⟩ := hv
  have hx := B.exec
  have hb := B.bytes
  have hr := B.returns
  have hts := atoms_spec (ws := wsX8_gift) B.pre
  have hown : s.vm.findClass RX8 = some m.cls := findClass_of_methodNamed B.named
  have hlocks := B.notSynchronized
  have hS : va_S A s.heap s.heap [] := va_S.rf
  have k100 := hts (.fieldLink RX8 100 "StageDeskModel" "gifts" "[I") (by decide +kernel)
  have k106 := hts (.fieldLink RX8 106 "StageDeskModel" "giftValue" "[I") (by decide +kernel)
  have k109 := hts (.fieldLink RX8 109 "StageDeskModel" "giftBirth" "[I") (by decide +kernel)
  have k112 := hts (.fieldLink RX8 112 "StageDeskModel" "giftTo" "[I") (by decide +kernel)
  have k115 := hts (.fieldLink RX8 115 "StageDeskModel" "giftEvent" "[I") (by decide +kernel)
  have inX8 : ∀ w ∈ u_ws RX8 TX8 48, w ∈ wsX8_gift := by decide +kernel
  have hl := lv_entry ([.ref (ad 0 0), .int px1, .int px2, .int px3, .int px4]) (n := 6) (Nat.le_of_ble_eq_true rfl)
  rw [lg_entry_eq]
  generalize (lg_sl ([.ref (ad 0 0), .int px1, .int px2, .int px3, .int px4]) ++ List.replicate (6 - (lg_sl ([.ref (ad 0 0), .int px1, .int px2, .int px3, .int px4])).length) Slot.unset).toArray = ls at hl ⊢
  have hl : lv_has ls 6 [(0, .ref (ad 0 0)), (1, .int px1), (2, .int px2), (3, .int px3), (4, .int px4)] := hl
  unfold fX8_gift at h
  refine lv_iload hx hb dX8_gift_0 (lv_at hl 4 rfl) ?_
  refine lv_iconst (v := (-1)) hx hb dX8_gift_2 (by decide) ?_
  refine lv_icmp_ne (tgt := 7) hx hb dX8_gift_3 (by decide) (fun c_1 => ?_) (fun c_1 => ?_)
  · have h := iteF c_1 h
    refine lv_bipush (v := 16) hx hb dX8_gift_7 (by decide) ?_
    refine lv_iload_n hx hb dX8_gift_9 rfl (lv_at hl 1 rfl) ?_
    refine lv_imul hx hb dX8_gift_10 ?_
    refine lv_aload_n hx hb dX8_gift_11 rfl (lv_at hl 0 rfl) ?_
    refine mm_get (C := RX8) (T := TX8) (N := 48) (ci := 8) hx hb hts inX8 hown hK hM 0 0 me0 rfl rfl 34 (by decide) k100 (fun _ h9 => h9) rfl dX8_gift_12 ?_
    refine lv_iload_n hx hb dX8_gift_15 rfl (lv_at hl 1 rfl) ?_
    obtain ⟨b_2, h⟩ := iteS h
    refine mm_iald hx hb hK hM 35 0 (me (by decide)) 0 rfl rfl (bin_in b_2) dX8_gift_16 ?_
    refine lv_iadd hx hb dX8_gift_17 ?_
    refine lv_istore (lv' := [(5, .int (((16 : Int32) * px1) + (V0 35 0 (px1).toNatClampNeg))), (0, .ref (ad 0 0)), (1, .int px1), (2, .int px2), (3, .int px3), (4, .int px4)]) hx hb dX8_gift_18 hl (by decide) rfl (fun ls hl => ?_)
    refine lv_aload_n hx hb dX8_gift_20 rfl (lv_at hl 1 rfl) ?_
    refine mm_get (C := RX8) (T := TX8) (N := 48) (ci := 8) hx hb hts inX8 hown hK hM 0 0 me0 rfl rfl 36 (by decide) k106 (fun _ h9 => h9) rfl dX8_gift_21 ?_
    refine lv_iload hx hb dX8_gift_24 (lv_at hl 0 rfl) ?_
    refine lv_iload_n hx hb dX8_gift_26 rfl (lv_at hl 3 rfl) ?_
    obtain ⟨b_3, h⟩ := iteS h
    refine mm_iast hx hb hK hM hS 37 0 (me (by decide)) 0 rfl rfl (bin_in b_3) rfl dX8_gift_27 (fun H locs hM hS => ?_)
    refine lv_aload_n hx hb dX8_gift_28 rfl (lv_at hl 1 rfl) ?_
    refine mm_get (C := RX8) (T := TX8) (N := 48) (ci := 8) hx hb hts inX8 hown hK hM 0 0 me0 rfl rfl 37 (by decide) k109 (fun _ h9 => h9) rfl dX8_gift_29 ?_
    refine lv_iload hx hb dX8_gift_32 (lv_at hl 0 rfl) ?_
    refine lv_iload_n hx hb dX8_gift_34 rfl (lv_at hl 4 rfl) ?_
    obtain ⟨b_4, h⟩ := iteS h
    refine mm_iast hx hb hK hM hS 38 0 (me (by decide)) 0 rfl rfl (bin_in b_4) rfl dX8_gift_35 (fun H locs hM hS => ?_)
    refine lv_aload_n hx hb dX8_gift_36 rfl (lv_at hl 1 rfl) ?_
    refine mm_get (C := RX8) (T := TX8) (N := 48) (ci := 8) hx hb hts inX8 hown hK hM 0 0 me0 rfl rfl 38 (by decide) k112 (fun _ h9 => h9) rfl dX8_gift_37 ?_
    refine lv_iload hx hb dX8_gift_40 (lv_at hl 0 rfl) ?_
    refine lv_iload hx hb dX8_gift_42 (lv_at hl 5 rfl) ?_
    obtain ⟨b_5, h⟩ := iteS h
    refine mm_iast hx hb hK hM hS 39 0 (me (by decide)) 0 rfl rfl (bin_in b_5) rfl dX8_gift_44 (fun H locs hM hS => ?_)
    refine lv_aload_n hx hb dX8_gift_45 rfl (lv_at hl 1 rfl) ?_
    refine mm_get (C := RX8) (T := TX8) (N := 48) (ci := 8) hx hb hts inX8 hown hK hM 0 0 me0 rfl rfl 39 (by decide) k115 (fun _ h9 => h9) rfl dX8_gift_46 ?_
    refine lv_iload hx hb dX8_gift_49 (lv_at hl 0 rfl) ?_
    refine lv_iconst (v := (-1)) hx hb dX8_gift_51 (by decide) ?_
    obtain ⟨b_6, h⟩ := iteS h
    refine mm_iast hx hb hK hM hS 40 0 (me (by decide)) 0 rfl rfl (bin_in b_6) rfl dX8_gift_52 (fun H locs hM hS => ?_)
    refine lv_aload_n hx hb dX8_gift_53 rfl (lv_at hl 1 rfl) ?_
    refine mm_get (C := RX8) (T := TX8) (N := 48) (ci := 8) hx hb hts inX8 hown hK hM 0 0 me0 rfl rfl 34 (by decide) k100 (fun _ h9 => h9) rfl dX8_gift_54 ?_
    refine lv_iload_n hx hb dX8_gift_57 rfl (lv_at hl 2 rfl) ?_
    refine lv_dup2_11 hx hb dX8_gift_58 rfl rfl ?_
    obtain ⟨b_7, h⟩ := iteS h
    refine mm_iald hx hb hK hM 35 0 (me (by decide)) 0 rfl rfl (bin_in b_7) dX8_gift_59 ?_
    refine lv_iconst (v := 1) hx hb dX8_gift_60 (by decide) ?_
    refine lv_iadd hx hb dX8_gift_61 ?_
    obtain ⟨b_8, h⟩ := iteS h
    refine mm_iast hx hb hK hM hS 35 0 (me (by decide)) 0 rfl rfl (bin_in b_8) rfl dX8_gift_62 (fun H locs hM hS => ?_)
    have e9 : (mu (mu (mu (mu (mu V0 37 0 ((((16 : Int32) * px1) + (V0 35 0 (px1).toNatClampNeg))).toNatClampNeg px2) 38 0 ((((16 : Int32) * px1) + (V0 35 0 (px1).toNatClampNeg))).toNatClampNeg px3) 39 0 ((((16 : Int32) * px1) + (V0 35 0 (px1).toNatClampNeg))).toNatClampNeg px4) 40 0 ((((16 : Int32) * px1) + (V0 35 0 (px1).toNatClampNeg))).toNatClampNeg (-1 : Int32)) 35 0 (px1).toNatClampNeg (((mu (mu (mu (mu V0 37 0 ((((16 : Int32) * px1) + (V0 35 0 (px1).toNatClampNeg))).toNatClampNeg px2) 38 0 ((((16 : Int32) * px1) + (V0 35 0 (px1).toNatClampNeg))).toNatClampNeg px3) 39 0 ((((16 : Int32) * px1) + (V0 35 0 (px1).toNatClampNeg))).toNatClampNeg px4) 40 0 ((((16 : Int32) * px1) + (V0 35 0 (px1).toNatClampNeg))).toNatClampNeg (-1 : Int32)) 35 0 (px1).toNatClampNeg) + (1 : Int32))) = res := Option.some.inj h
    subst e9
    exact W.vret hx hb hr (fun t9 ht9 hW9 => ⟨⟨(), rfl, trivial, mR_of hM hK hAs hS.1 ht9 hW9⟩, hS.F ht9⟩) hS.2.2 dX8_gift_63
  · have h := iteT c_1 h
    have e9 : V0 = res := Option.some.inj h
    subst e9
    exact W.vret hx hb hr (fun t9 ht9 hW9 => ⟨⟨(), rfl, trivial, mR_of hM hK hAs hS.1 ht9 hW9⟩, hS.F ht9⟩) hS.2.2 dX8_gift_6
/-! X8_queued -/
def fX8_queued  (px1 : Int32) (px2 : Int32) (V0 : mM) : Option (Int32) := (fX8_isStage px1 V0).bind fun u_1 => if u_1 = 0 then (some (-1 : Int32)) else (if px2 < 0 then (some (-1 : Int32)) else (if bin px1 8 = true then (if px2 < (V0 26 0 (px1).toNatClampNeg) then (if bin (((32 : Int32) * px1) + px2) 256 = true then (some (V0 27 0 ((((32 : Int32) * px1) + px2)).toNatClampNeg)) else none) else (some (-1 : Int32))) else none))
set_option maxHeartbeats 4000000 in
set_option maxRecDepth 100000 in
theorem kX8_queued (l : Launch) {dC : Nat → ClassId} {dI : Nat → Nat → Nat} {A : Nat → Prop} {ad : Nat → Nat → Nat} {cI cZ : ClassId}  (px1 : Int32) (px2 : Int32) (V0 : mM) {res : Int32} (h : fX8_queued px1 px2 V0 = some res) : Met l yX8_queued wsX8_queued ({ frames := 1, cells := 0, slots := 0, locals := 21 } : Room) (va_Pc [.ref (ad 0 0), .int px1, .int px2] (fun U => mR dC dI A ad cI cZ V0 U)) (va_Qi (fun r9 (_ : Unit) => r9 = res) (fun _ t9 => mR dC dI A ad cI cZ V0 t9) A) 0 0 A := by
  refine Met.ofW (cc := cX8_queued) (maxL := 3) (ret := (some .int)) (by decide) rfl ?_
  intro p e s m args below meth cd s₁ B hml hv
  obtain ⟨rfl, hM, hK, hAs⟩ := hv
  have hx := B.exec
  have hb := B.bytes
  have hr := B.returns
  have hts := atoms_spec (ws := wsX8_queued) B.pre
  have hown : s.vm.findClass RX8 = some m.cls := findClass_of_methodNamed B.named
  have hlocks := B.notSynchronized
  have hS : va_S A s.heap s.heap [] := va_S.rf
  have k73 := hts (.fieldLink RX8 73 "StageDeskModel" "waiting" "[I") (by decide +kernel)
  have k76 := hts (.fieldLink RX8 76 "StageDeskModel" "queue" "[I") (by decide +kernel)
  have inX8 : ∀ w ∈ u_ws RX8 TX8 48, w ∈ wsX8_queued := by decide +kernel
  have hl := lv_entry ([.ref (ad 0 0), .int px1, .int px2]) (n := 3) (Nat.le_of_ble_eq_true rfl)
  rw [lg_entry_eq]
  generalize (lg_sl ([.ref (ad 0 0), .int px1, .int px2]) ++ List.replicate (3 - (lg_sl ([.ref (ad 0 0), .int px1, .int px2])).length) Slot.unset).toArray = ls at hl ⊢
  have hl : lv_has ls 3 [(0, .ref (ad 0 0)), (1, .int px1), (2, .int px2)] := hl
  unfold fX8_queued at h
  refine lv_aload_n hx hb dX8_queued_0 rfl (lv_at hl 0 rfl) ?_
  refine lv_iload_n hx hb dX8_queued_1 rfl (lv_at hl 1 rfl) ?_
  obtain ⟨u_1, hu_1, h⟩ := bindS h
  refine va_calli (va_runV (As := [.int px1]) (rest := []) ⟨hx, hb, hml, hown, hts⟩ (kX8_isStage l px1 V0 hu_1) (cwV 1 hts gX8_queued_X8_isStage rfl rfl rfl (by decide +kernel) ⟨Nat.le_of_ble_eq_true rfl, Nat.le_of_ble_eq_true rfl⟩) ⟨fun a U g9 mk w9 => ⟨w9.1, mR_calling w9.2⟩, mP_recv (q := (RX8, TX8, 48)) hK hM me0 rfl rfl, fun U hU hWm => ⟨rfl, mR_of hM hK hAs hS.1 hU hWm⟩⟩ rfl rfl hl.1 rfl (lv_room (Nat.le_of_ble_eq_true rfl)) dX8_queued_2 ⟨Nat.le_of_ble_eq_true rfl, Nat.le_of_ble_eq_true rfl⟩) hS (fun _ _ h9 => h9) (fun _ h9 => h9) (fun r9 u9 t9 H locs ht9 _ hw9 hB9 _ _ hS => ?_)
  rw [show r9 = u_1 from hw9]
  obtain ⟨hM, -, -⟩ := hB9
  rw [ht9] at hM
  refine lv_if_eq (tgt := 22) hx hb dX8_queued_5 (by decide) (fun c_2 => ?_) (fun c_2 => ?_)
  · have h := iteT c_2 h
    refine lv_iconst (v := (-1)) hx hb dX8_queued_22 (by decide) ?_
    refine lv_goto (tgt := 37) hx hb dX8_queued_23 (by decide) ?_
    have e9 : (-1 : Int32) = res := Option.some.inj h
    subst e9
    exact W.iret (v := (-1 : Int32)) hx hb hr (fun t9 ht9 hW9 => ⟨⟨_, (), rfl, rfl, mR_of hM hK hAs hS.1 ht9 hW9⟩, hS.F ht9⟩) hS.2.2 dX8_queued_37
  · have h := iteF c_2 h
    refine lv_iload_n hx hb dX8_queued_8 rfl (lv_at hl 2 rfl) ?_
    refine lv_if_lt (tgt := 22) hx hb dX8_queued_9 (by decide) (fun c_3 => ?_) (fun c_3 => ?_)
    · have h := iteT c_3 h
      refine lv_iconst (v := (-1)) hx hb dX8_queued_22 (by decide) ?_
      refine lv_goto (tgt := 37) hx hb dX8_queued_23 (by decide) ?_
      have e9 : (-1 : Int32) = res := Option.some.inj h
      subst e9
      exact W.iret (v := (-1 : Int32)) hx hb hr (fun t9 ht9 hW9 => ⟨⟨_, (), rfl, rfl, mR_of hM hK hAs hS.1 ht9 hW9⟩, hS.F ht9⟩) hS.2.2 dX8_queued_37
    · have h := iteF c_3 h
      refine lv_iload_n hx hb dX8_queued_12 rfl (lv_at hl 2 rfl) ?_
      refine lv_aload_n hx hb dX8_queued_13 rfl (lv_at hl 0 rfl) ?_
      refine mm_get (C := RX8) (T := TX8) (N := 48) (ci := 8) hx hb hts inX8 hown hK hM 0 0 me0 rfl rfl 25 (by decide) k73 (fun _ h9 => h9) rfl dX8_queued_14 ?_
      refine lv_iload_n hx hb dX8_queued_17 rfl (lv_at hl 1 rfl) ?_
      obtain ⟨b_4, h⟩ := iteS h
      refine mm_iald hx hb hK hM 26 0 (me (by decide)) 0 rfl rfl (bin_in b_4) dX8_queued_18 ?_
      refine lv_icmp_lt (tgt := 26) hx hb dX8_queued_19 (by decide) (fun c_5 => ?_) (fun c_5 => ?_)
      · have h := iteT c_5 h
        refine lv_aload_n hx hb dX8_queued_26 rfl (lv_at hl 0 rfl) ?_
        refine mm_get (C := RX8) (T := TX8) (N := 48) (ci := 8) hx hb hts inX8 hown hK hM 0 0 me0 rfl rfl 26 (by decide) k76 (fun _ h9 => h9) rfl dX8_queued_27 ?_
        refine lv_bipush (v := 32) hx hb dX8_queued_30 (by decide) ?_
        refine lv_iload_n hx hb dX8_queued_32 rfl (lv_at hl 1 rfl) ?_
        refine lv_imul hx hb dX8_queued_33 ?_
        refine lv_iload_n hx hb dX8_queued_34 rfl (lv_at hl 2 rfl) ?_
        refine lv_iadd hx hb dX8_queued_35 ?_
        obtain ⟨b_6, h⟩ := iteS h
        refine mm_iald hx hb hK hM 27 0 (me (by decide)) 0 rfl rfl (bin_in b_6) dX8_queued_36 ?_
        have e9 : (V0 27 0 ((((32 : Int32) * px1) + px2)).toNatClampNeg) = res := Option.some.inj h
        subst e9
        exact W.iret (v := (V0 27 0 ((((32 : Int32) * px1) + px2)).toNatClampNeg)) hx hb hr (fun t9 ht9 hW9 => ⟨⟨_, (), rfl, rfl, mR_of hM hK hAs hS.1 ht9 hW9⟩, hS.F ht9⟩) hS.2.2 dX8_queued_37
      · have h := iteF c_5 h
        refine lv_iconst (v := (-1)) hx hb dX8_queued_22 (by decide) ?_
        refine lv_goto (tgt := 37) hx hb dX8_queued_23 (by decide) ?_
        have e9 : (-1 : Int32) = res := Option.some.inj h
        subst e9
        exact W.iret (v := (-1 : Int32)) hx hb hr (fun t9 ht9 hW9 => ⟨⟨_, (), rfl, rfl, mR_of hM hK hAs hS.1 ht9 hW9⟩, hS.F ht9⟩) hS.2.2 dX8_queued_37
/-! X8_worker -/
def fX8_worker  (px1 : Int32) (px2 : Int32) (px3 : Int32) (V0 : mM) : Option (Int32) := (fX8_isStage px1 V0).bind fun u_1 => if u_1 = 0 then (some (-1 : Int32)) else (if px2 < 0 then (some (-1 : Int32)) else (if bin px1 8 = true then (if px2 < (V0 18 0 (px1).toNatClampNeg) then (if px3 = 0 then (if bin (((4 : Int32) * px1) + px2) 32 = true then (some (V0 31 0 ((((4 : Int32) * px1) + px2)).toNatClampNeg)) else none) else if px3 = 1 then (if bin (((4 : Int32) * px1) + px2) 32 = true then (if (V0 31 0 ((((4 : Int32) * px1) + px2)).toNatClampNeg) ≤ 0 then (some (0 : Int32)) else (if bin (((4 : Int32) * px1) + px2) 32 = true then (some (V0 33 0 ((((4 : Int32) * px1) + px2)).toNatClampNeg)) else none)) else none) else if px3 = 2 then (if bin (((4 : Int32) * px1) + px2) 32 = true then (if (V0 34 0 ((((4 : Int32) * px1) + px2)).toNatClampNeg) = 0 then (some (0 : Int32)) else (if bin (((4 : Int32) * px1) + px2) 32 = true then (if bin (((4 : Int32) * px1) + px2) 32 = true then (some ((V0 35 0 ((((4 : Int32) * px1) + px2)).toNatClampNeg) - (V0 36 0 ((((4 : Int32) * px1) + px2)).toNatClampNeg))) else none) else none)) else none) else (some (-1 : Int32))) else (some (-1 : Int32))) else none))
set_option maxHeartbeats 4000000 in
set_option maxRecDepth 100000 in
theorem kX8_worker (l : Launch) {dC : Nat → ClassId} {dI : Nat → Nat → Nat} {A : Nat → Prop} {ad : Nat → Nat → Nat} {cI cZ : ClassId}  (px1 : Int32) (px2 : Int32) (px3 : Int32) (V0 : mM) {res : Int32} (h : fX8_worker px1 px2 px3 V0 = some res) : Met l yX8_worker wsX8_worker ({ frames := 1, cells := 0, slots := 0, locals := 21 } : Room) (va_Pc [.ref (ad 0 0), .int px1, .int px2, .int px3] (fun U => mR dC dI A ad cI cZ V0 U)) (va_Qi (fun r9 (_ : Unit) => r9 = res) (fun _ t9 => mR dC dI A ad cI cZ V0 t9) A) 0 0 A := by
  refine Met.ofW (cc := cX8_worker) (maxL := 5) (ret := (some .int)) (by decide) rfl ?_
  intro p e s m args below meth cd s₁ B hml hv
  obtain ⟨rfl, hM, hK, hAs⟩ := hv
  have hx := B.exec
  have hb := B.bytes
  have hr := B.returns
  have hts := atoms_spec (ws := wsX8_worker) B.pre
  have hown : s.vm.findClass RX8 = some m.cls := findClass_of_methodNamed B.named
  have hlocks := B.notSynchronized
  have hS : va_S A s.heap s.heap [] := va_S.rf
  have k48 := hts (.fieldLink RX8 48 "StageDeskModel" "workers" "[I") (by decide +kernel)
  have k88 := hts (.fieldLink RX8 88 "StageDeskModel" "size" "[I") (by decide +kernel)
  have k94 := hts (.fieldLink RX8 94 "StageDeskModel" "rest" "[I") (by decide +kernel)
  have k97 := hts (.fieldLink RX8 97 "StageDeskModel" "offers" "[Z") (by decide +kernel)
  have k100 := hts (.fieldLink RX8 100 "StageDeskModel" "gifts" "[I") (by decide +kernel)
  have k103 := hts (.fieldLink RX8 103 "StageDeskModel" "given" "[I") (by decide +kernel)
  have inX8 : ∀ w ∈ u_ws RX8 TX8 48, w ∈ wsX8_worker := by decide +kernel
  have hl := lv_entry ([.ref (ad 0 0), .int px1, .int px2, .int px3]) (n := 5) (Nat.le_of_ble_eq_true rfl)
  rw [lg_entry_eq]
  generalize (lg_sl ([.ref (ad 0 0), .int px1, .int px2, .int px3]) ++ List.replicate (5 - (lg_sl ([.ref (ad 0 0), .int px1, .int px2, .int px3])).length) Slot.unset).toArray = ls at hl ⊢
  have hl : lv_has ls 5 [(0, .ref (ad 0 0)), (1, .int px1), (2, .int px2), (3, .int px3)] := hl
  unfold fX8_worker at h
  refine lv_aload_n hx hb dX8_worker_0 rfl (lv_at hl 0 rfl) ?_
  refine lv_iload_n hx hb dX8_worker_1 rfl (lv_at hl 1 rfl) ?_
  obtain ⟨u_1, hu_1, h⟩ := bindS h
  refine va_calli (va_runV (As := [.int px1]) (rest := []) ⟨hx, hb, hml, hown, hts⟩ (kX8_isStage l px1 V0 hu_1) (cwV 1 hts gX8_worker_X8_isStage rfl rfl rfl (by decide +kernel) ⟨Nat.le_of_ble_eq_true rfl, Nat.le_of_ble_eq_true rfl⟩) ⟨fun a U g9 mk w9 => ⟨w9.1, mR_calling w9.2⟩, mP_recv (q := (RX8, TX8, 48)) hK hM me0 rfl rfl, fun U hU hWm => ⟨rfl, mR_of hM hK hAs hS.1 hU hWm⟩⟩ rfl rfl hl.1 rfl (lv_room (Nat.le_of_ble_eq_true rfl)) dX8_worker_2 ⟨Nat.le_of_ble_eq_true rfl, Nat.le_of_ble_eq_true rfl⟩) hS (fun _ _ h9 => h9) (fun _ h9 => h9) (fun r9 u9 t9 H locs ht9 _ hw9 hB9 _ _ hS => ?_)
  rw [show r9 = u_1 from hw9]
  obtain ⟨hM, -, -⟩ := hB9
  rw [ht9] at hM
  refine lv_if_eq (tgt := 22) hx hb dX8_worker_5 (by decide) (fun c_2 => ?_) (fun c_2 => ?_)
  · have h := iteT c_2 h
    refine lv_iconst (v := (-1)) hx hb dX8_worker_22 (by decide) ?_
    have e9 : (-1 : Int32) = res := Option.some.inj h
    subst e9
    exact W.iret (v := (-1 : Int32)) hx hb hr (fun t9 ht9 hW9 => ⟨⟨_, (), rfl, rfl, mR_of hM hK hAs hS.1 ht9 hW9⟩, hS.F ht9⟩) hS.2.2 dX8_worker_23
  · have h := iteF c_2 h
    refine lv_iload_n hx hb dX8_worker_8 rfl (lv_at hl 2 rfl) ?_
    refine lv_if_lt (tgt := 22) hx hb dX8_worker_9 (by decide) (fun c_3 => ?_) (fun c_3 => ?_)
    · have h := iteT c_3 h
      refine lv_iconst (v := (-1)) hx hb dX8_worker_22 (by decide) ?_
      have e9 : (-1 : Int32) = res := Option.some.inj h
      subst e9
      exact W.iret (v := (-1 : Int32)) hx hb hr (fun t9 ht9 hW9 => ⟨⟨_, (), rfl, rfl, mR_of hM hK hAs hS.1 ht9 hW9⟩, hS.F ht9⟩) hS.2.2 dX8_worker_23
    · have h := iteF c_3 h
      refine lv_iload_n hx hb dX8_worker_12 rfl (lv_at hl 2 rfl) ?_
      refine lv_aload_n hx hb dX8_worker_13 rfl (lv_at hl 0 rfl) ?_
      refine mm_get (C := RX8) (T := TX8) (N := 48) (ci := 8) hx hb hts inX8 hown hK hM 0 0 me0 rfl rfl 17 (by decide) k48 (fun _ h9 => h9) rfl dX8_worker_14 ?_
      refine lv_iload_n hx hb dX8_worker_17 rfl (lv_at hl 1 rfl) ?_
      obtain ⟨b_4, h⟩ := iteS h
      refine mm_iald hx hb hK hM 18 0 (me (by decide)) 0 rfl rfl (bin_in b_4) dX8_worker_18 ?_
      refine lv_icmp_lt (tgt := 24) hx hb dX8_worker_19 (by decide) (fun c_5 => ?_) (fun c_5 => ?_)
      · have h := iteT c_5 h
        refine lv_iconst (v := 4) hx hb dX8_worker_24 (by decide) ?_
        refine lv_iload_n hx hb dX8_worker_25 rfl (lv_at hl 1 rfl) ?_
        refine lv_imul hx hb dX8_worker_26 ?_
        refine lv_iload_n hx hb dX8_worker_27 rfl (lv_at hl 2 rfl) ?_
        refine lv_iadd hx hb dX8_worker_28 ?_
        refine lv_istore (lv' := [(4, .int (((4 : Int32) * px1) + px2)), (0, .ref (ad 0 0)), (1, .int px1), (2, .int px2), (3, .int px3)]) hx hb dX8_worker_29 hl (by decide) rfl (fun ls hl => ?_)
        refine lv_iload_n hx hb dX8_worker_31 rfl (lv_at hl 4 rfl) ?_
        by_cases w_6 : px3 = 0
        · have h := iteT w_6 h
          refine lv_tableIn (off := 28) (tgt := 60) hx hb dX8_worker_32 (by rw [w_6]; decide) (by rw [w_6]; decide) (by rw [w_6]; decide) (by decide) ?_
          refine lv_aload_n hx hb dX8_worker_60 rfl (lv_at hl 1 rfl) ?_
          refine mm_get (C := RX8) (T := TX8) (N := 48) (ci := 8) hx hb hts inX8 hown hK hM 0 0 me0 rfl rfl 30 (by decide) k88 (fun _ h9 => h9) rfl dX8_worker_61 ?_
          refine lv_iload hx hb dX8_worker_64 (lv_at hl 0 rfl) ?_
          obtain ⟨b_7, h⟩ := iteS h
          refine mm_iald hx hb hK hM 31 0 (me (by decide)) 0 rfl rfl (bin_in b_7) dX8_worker_66 ?_
          have e9 : (V0 31 0 ((((4 : Int32) * px1) + px2)).toNatClampNeg) = res := Option.some.inj h
          subst e9
          exact W.iret (v := (V0 31 0 ((((4 : Int32) * px1) + px2)).toNatClampNeg)) hx hb hr (fun t9 ht9 hW9 => ⟨⟨_, (), rfl, rfl, mR_of hM hK hAs hS.1 ht9 hW9⟩, hS.F ht9⟩) hS.2.2 dX8_worker_67
        have h := iteF w_6 h
        by_cases w_8 : px3 = 1
        · have h := iteT w_8 h
          refine lv_tableIn (off := 36) (tgt := 68) hx hb dX8_worker_32 (by rw [w_8]; decide) (by rw [w_8]; decide) (by rw [w_8]; decide) (by decide) ?_
          refine lv_aload_n hx hb dX8_worker_68 rfl (lv_at hl 1 rfl) ?_
          refine mm_get (C := RX8) (T := TX8) (N := 48) (ci := 8) hx hb hts inX8 hown hK hM 0 0 me0 rfl rfl 30 (by decide) k88 (fun _ h9 => h9) rfl dX8_worker_69 ?_
          refine lv_iload hx hb dX8_worker_72 (lv_at hl 0 rfl) ?_
          obtain ⟨b_9, h⟩ := iteS h
          refine mm_iald hx hb hK hM 31 0 (me (by decide)) 0 rfl rfl (bin_in b_9) dX8_worker_74 ?_
          refine lv_if_le (tgt := 88) hx hb dX8_worker_75 (by decide) (fun c_10 => ?_) (fun c_10 => ?_)
          · have h := iteT c_10 h
            refine lv_iconst (v := 0) hx hb dX8_worker_88 (by decide) ?_
            have e9 : (0 : Int32) = res := Option.some.inj h
            subst e9
            exact W.iret (v := (0 : Int32)) hx hb hr (fun t9 ht9 hW9 => ⟨⟨_, (), rfl, rfl, mR_of hM hK hAs hS.1 ht9 hW9⟩, hS.F ht9⟩) hS.2.2 dX8_worker_89
          · have h := iteF c_10 h
            refine lv_aload_n hx hb dX8_worker_78 rfl (lv_at hl 1 rfl) ?_
            refine mm_get (C := RX8) (T := TX8) (N := 48) (ci := 8) hx hb hts inX8 hown hK hM 0 0 me0 rfl rfl 32 (by decide) k94 (fun _ h9 => h9) rfl dX8_worker_79 ?_
            refine lv_iload hx hb dX8_worker_82 (lv_at hl 0 rfl) ?_
            obtain ⟨b_11, h⟩ := iteS h
            refine mm_iald hx hb hK hM 33 0 (me (by decide)) 0 rfl rfl (bin_in b_11) dX8_worker_84 ?_
            refine lv_goto (tgt := 89) hx hb dX8_worker_85 (by decide) ?_
            have e9 : (V0 33 0 ((((4 : Int32) * px1) + px2)).toNatClampNeg) = res := Option.some.inj h
            subst e9
            exact W.iret (v := (V0 33 0 ((((4 : Int32) * px1) + px2)).toNatClampNeg)) hx hb hr (fun t9 ht9 hW9 => ⟨⟨_, (), rfl, rfl, mR_of hM hK hAs hS.1 ht9 hW9⟩, hS.F ht9⟩) hS.2.2 dX8_worker_89
        have h := iteF w_8 h
        by_cases w_12 : px3 = 2
        · have h := iteT w_12 h
          refine lv_tableIn (off := 58) (tgt := 90) hx hb dX8_worker_32 (by rw [w_12]; decide) (by rw [w_12]; decide) (by rw [w_12]; decide) (by decide) ?_
          refine lv_aload_n hx hb dX8_worker_90 rfl (lv_at hl 1 rfl) ?_
          refine mm_get (C := RX8) (T := TX8) (N := 48) (ci := 8) hx hb hts inX8 hown hK hM 0 0 me0 rfl rfl 33 (by decide) k97 (fun _ h9 => h9) rfl dX8_worker_91 ?_
          refine lv_iload hx hb dX8_worker_94 (lv_at hl 0 rfl) ?_
          obtain ⟨b_13, h⟩ := iteS h
          refine mm_zald hx hb hK hM 34 0 (me (by decide)) 1 rfl rfl (bin_in b_13) dX8_worker_96 ?_
          refine lv_if_eq (tgt := 118) hx hb dX8_worker_97 (by decide) (fun c_14 => ?_) (fun c_14 => ?_)
          · have h := iteT c_14 h
            refine lv_iconst (v := 0) hx hb dX8_worker_118 (by decide) ?_
            have e9 : (0 : Int32) = res := Option.some.inj h
            subst e9
            exact W.iret (v := (0 : Int32)) hx hb hr (fun t9 ht9 hW9 => ⟨⟨_, (), rfl, rfl, mR_of hM hK hAs hS.1 ht9 hW9⟩, hS.F ht9⟩) hS.2.2 dX8_worker_119
          · have h := iteF c_14 h
            refine lv_aload_n hx hb dX8_worker_100 rfl (lv_at hl 1 rfl) ?_
            refine mm_get (C := RX8) (T := TX8) (N := 48) (ci := 8) hx hb hts inX8 hown hK hM 0 0 me0 rfl rfl 34 (by decide) k100 (fun _ h9 => h9) rfl dX8_worker_101 ?_
            refine lv_iload hx hb dX8_worker_104 (lv_at hl 0 rfl) ?_
            obtain ⟨b_15, h⟩ := iteS h
            refine mm_iald hx hb hK hM 35 0 (me (by decide)) 0 rfl rfl (bin_in b_15) dX8_worker_106 ?_
            refine lv_aload_n hx hb dX8_worker_107 rfl (lv_at hl 1 rfl) ?_
            refine mm_get (C := RX8) (T := TX8) (N := 48) (ci := 8) hx hb hts inX8 hown hK hM 0 0 me0 rfl rfl 35 (by decide) k103 (fun _ h9 => h9) rfl dX8_worker_108 ?_
            refine lv_iload hx hb dX8_worker_111 (lv_at hl 0 rfl) ?_
            obtain ⟨b_16, h⟩ := iteS h
            refine mm_iald hx hb hK hM 36 0 (me (by decide)) 0 rfl rfl (bin_in b_16) dX8_worker_113 ?_
            refine lv_isub hx hb dX8_worker_114 ?_
            refine lv_goto (tgt := 119) hx hb dX8_worker_115 (by decide) ?_
            have e9 : ((V0 35 0 ((((4 : Int32) * px1) + px2)).toNatClampNeg) - (V0 36 0 ((((4 : Int32) * px1) + px2)).toNatClampNeg)) = res := Option.some.inj h
            subst e9
            exact W.iret (v := ((V0 35 0 ((((4 : Int32) * px1) + px2)).toNatClampNeg) - (V0 36 0 ((((4 : Int32) * px1) + px2)).toNatClampNeg))) hx hb hr (fun t9 ht9 hW9 => ⟨⟨_, (), rfl, rfl, mR_of hM hK hAs hS.1 ht9 hW9⟩, hS.F ht9⟩) hS.2.2 dX8_worker_119
        have h := iteF w_12 h
        refine lv_tableOut (tgt := 120) hx hb dX8_worker_32 (sw_out2 w_6 w_8 w_12) (by decide) ?_
        refine lv_iconst (v := (-1)) hx hb dX8_worker_120 (by decide) ?_
        have e9 : (-1 : Int32) = res := Option.some.inj h
        subst e9
        exact W.iret (v := (-1 : Int32)) hx hb hr (fun t9 ht9 hW9 => ⟨⟨_, (), rfl, rfl, mR_of hM hK hAs hS.1 ht9 hW9⟩, hS.F ht9⟩) hS.2.2 dX8_worker_121
      · have h := iteF c_5 h
        refine lv_iconst (v := (-1)) hx hb dX8_worker_22 (by decide) ?_
        have e9 : (-1 : Int32) = res := Option.some.inj h
        subst e9
        exact W.iret (v := (-1 : Int32)) hx hb hr (fun t9 ht9 hW9 => ⟨⟨_, (), rfl, rfl, mR_of hM hK hAs hS.1 ht9 hW9⟩, hS.F ht9⟩) hS.2.2 dX8_worker_23
/-! X8_done -/
def fX8_done  (px1 : Int32) (V0 : mM) : Option (Int32) := if px1 < 0 then (some (-1 : Int32)) else (if px1 < (V0 0 0 4) then (if bin px1 103000 = true then (some (V0 6 0 (px1).toNatClampNeg)) else none) else (some (-1 : Int32)))
set_option maxHeartbeats 4000000 in
set_option maxRecDepth 100000 in
theorem kX8_done (l : Launch) {dC : Nat → ClassId} {dI : Nat → Nat → Nat} {A : Nat → Prop} {ad : Nat → Nat → Nat} {cI cZ : ClassId}  (px1 : Int32) (V0 : mM) {res : Int32} (h : fX8_done px1 V0 = some res) : Met l yX8_done wsX8_done ({ frames := 0, cells := 0, slots := 0, locals := 0 } : Room) (va_Pc [.ref (ad 0 0), .int px1] (fun U => mR dC dI A ad cI cZ V0 U)) (va_Qi (fun r9 (_ : Unit) => r9 = res) (fun _ t9 => mR dC dI A ad cI cZ V0 t9) A) 0 0 A := by
  refine Met.ofW (cc := cX8_done) (maxL := 2) (ret := (some .int)) (by decide) rfl ?_
  intro p e s m args below meth cd s₁ B hml hv
  obtain ⟨rfl, hM, hK, hAs⟩ := hv
  have hx := B.exec
  have hb := B.bytes
  have hr := B.returns
  have hts := atoms_spec (ws := wsX8_done) B.pre
  have hown : s.vm.findClass RX8 = some m.cls := findClass_of_methodNamed B.named
  have hlocks := B.notSynchronized
  have hS : va_S A s.heap s.heap [] := va_S.rf
  have k187 := hts (.fieldLink RX8 187 "StageDeskModel" "ended" "I") (by decide +kernel)
  have k18 := hts (.fieldLink RX8 18 "StageDeskModel" "done" "[I") (by decide +kernel)
  have inX8 : ∀ w ∈ u_ws RX8 TX8 48, w ∈ wsX8_done := by decide +kernel
  have hl := lv_entry ([.ref (ad 0 0), .int px1]) (n := 2) (Nat.le_of_ble_eq_true rfl)
  rw [lg_entry_eq]
  generalize (lg_sl ([.ref (ad 0 0), .int px1]) ++ List.replicate (2 - (lg_sl ([.ref (ad 0 0), .int px1])).length) Slot.unset).toArray = ls at hl ⊢
  have hl : lv_has ls 2 [(0, .ref (ad 0 0)), (1, .int px1)] := hl
  unfold fX8_done at h
  refine lv_iload_n hx hb dX8_done_0 rfl (lv_at hl 1 rfl) ?_
  refine lv_if_lt (tgt := 12) hx hb dX8_done_1 (by decide) (fun c_1 => ?_) (fun c_1 => ?_)
  · have h := iteT c_1 h
    refine lv_iconst (v := (-1)) hx hb dX8_done_12 (by decide) ?_
    refine lv_goto (tgt := 22) hx hb dX8_done_13 (by decide) ?_
    have e9 : (-1 : Int32) = res := Option.some.inj h
    subst e9
    exact W.iret (v := (-1 : Int32)) hx hb hr (fun t9 ht9 hW9 => ⟨⟨_, (), rfl, rfl, mR_of hM hK hAs hS.1 ht9 hW9⟩, hS.F ht9⟩) hS.2.2 dX8_done_22
  · have h := iteF c_1 h
    refine lv_iload_n hx hb dX8_done_4 rfl (lv_at hl 1 rfl) ?_
    refine lv_aload_n hx hb dX8_done_5 rfl (lv_at hl 0 rfl) ?_
    refine mm_get (C := RX8) (T := TX8) (N := 48) (ci := 8) hx hb hts inX8 hown hK hM 0 0 me0 rfl rfl 4 (by decide) k187 (fun _ h9 => h9) rfl dX8_done_6 ?_
    refine lv_icmp_lt (tgt := 16) hx hb dX8_done_9 (by decide) (fun c_2 => ?_) (fun c_2 => ?_)
    · have h := iteT c_2 h
      refine lv_aload_n hx hb dX8_done_16 rfl (lv_at hl 0 rfl) ?_
      refine mm_get (C := RX8) (T := TX8) (N := 48) (ci := 8) hx hb hts inX8 hown hK hM 0 0 me0 rfl rfl 5 (by decide) k18 (fun _ h9 => h9) rfl dX8_done_17 ?_
      refine lv_iload_n hx hb dX8_done_20 rfl (lv_at hl 1 rfl) ?_
      obtain ⟨b_3, h⟩ := iteS h
      refine mm_iald hx hb hK hM 6 0 (me (by decide)) 0 rfl rfl (bin_in b_3) dX8_done_21 ?_
      have e9 : (V0 6 0 (px1).toNatClampNeg) = res := Option.some.inj h
      subst e9
      exact W.iret (v := (V0 6 0 (px1).toNatClampNeg)) hx hb hr (fun t9 ht9 hW9 => ⟨⟨_, (), rfl, rfl, mR_of hM hK hAs hS.1 ht9 hW9⟩, hS.F ht9⟩) hS.2.2 dX8_done_22
    · have h := iteF c_2 h
      refine lv_iconst (v := (-1)) hx hb dX8_done_12 (by decide) ?_
      refine lv_goto (tgt := 22) hx hb dX8_done_13 (by decide) ?_
      have e9 : (-1 : Int32) = res := Option.some.inj h
      subst e9
      exact W.iret (v := (-1 : Int32)) hx hb hr (fun t9 ht9 hW9 => ⟨⟨_, (), rfl, rfl, mR_of hM hK hAs hS.1 ht9 hW9⟩, hS.F ht9⟩) hS.2.2 dX8_done_22
/-! X8_value -/
def fX8_value  (px1 : Int32) (V0 : mM) : Option (Int32) := if px1 < 0 then (some (-1 : Int32)) else (if px1 < (V0 0 0 4) then (if bin px1 103000 = true then (if bin (V0 6 0 (px1).toNatClampNeg) 124000 = true then (some (V0 3 0 ((V0 6 0 (px1).toNatClampNeg)).toNatClampNeg)) else none) else none) else (some (-1 : Int32)))
set_option maxHeartbeats 4000000 in
set_option maxRecDepth 100000 in
theorem kX8_value (l : Launch) {dC : Nat → ClassId} {dI : Nat → Nat → Nat} {A : Nat → Prop} {ad : Nat → Nat → Nat} {cI cZ : ClassId}  (px1 : Int32) (V0 : mM) {res : Int32} (h : fX8_value px1 V0 = some res) : Met l yX8_value wsX8_value ({ frames := 0, cells := 0, slots := 0, locals := 0 } : Room) (va_Pc [.ref (ad 0 0), .int px1] (fun U => mR dC dI A ad cI cZ V0 U)) (va_Qi (fun r9 (_ : Unit) => r9 = res) (fun _ t9 => mR dC dI A ad cI cZ V0 t9) A) 0 0 A := by
  refine Met.ofW (cc := cX8_value) (maxL := 2) (ret := (some .int)) (by decide) rfl ?_
  intro p e s m args below meth cd s₁ B hml hv
  obtain ⟨rfl, hM, hK, hAs⟩ := hv
  have hx := B.exec
  have hb := B.bytes
  have hr := B.returns
  have hts := atoms_spec (ws := wsX8_value) B.pre
  have hown : s.vm.findClass RX8 = some m.cls := findClass_of_methodNamed B.named
  have hlocks := B.notSynchronized
  have hS : va_S A s.heap s.heap [] := va_S.rf
  have k187 := hts (.fieldLink RX8 187 "StageDeskModel" "ended" "I") (by decide +kernel)
  have k8 := hts (.fieldLink RX8 8 "StageDeskModel" "values" "[I") (by decide +kernel)
  have k18 := hts (.fieldLink RX8 18 "StageDeskModel" "done" "[I") (by decide +kernel)
  have inX8 : ∀ w ∈ u_ws RX8 TX8 48, w ∈ wsX8_value := by decide +kernel
  have hl := lv_entry ([.ref (ad 0 0), .int px1]) (n := 2) (Nat.le_of_ble_eq_true rfl)
  rw [lg_entry_eq]
  generalize (lg_sl ([.ref (ad 0 0), .int px1]) ++ List.replicate (2 - (lg_sl ([.ref (ad 0 0), .int px1])).length) Slot.unset).toArray = ls at hl ⊢
  have hl : lv_has ls 2 [(0, .ref (ad 0 0)), (1, .int px1)] := hl
  unfold fX8_value at h
  refine lv_iload_n hx hb dX8_value_0 rfl (lv_at hl 1 rfl) ?_
  refine lv_if_lt (tgt := 12) hx hb dX8_value_1 (by decide) (fun c_1 => ?_) (fun c_1 => ?_)
  · have h := iteT c_1 h
    refine lv_iconst (v := (-1)) hx hb dX8_value_12 (by decide) ?_
    refine lv_goto (tgt := 27) hx hb dX8_value_13 (by decide) ?_
    have e9 : (-1 : Int32) = res := Option.some.inj h
    subst e9
    exact W.iret (v := (-1 : Int32)) hx hb hr (fun t9 ht9 hW9 => ⟨⟨_, (), rfl, rfl, mR_of hM hK hAs hS.1 ht9 hW9⟩, hS.F ht9⟩) hS.2.2 dX8_value_27
  · have h := iteF c_1 h
    refine lv_iload_n hx hb dX8_value_4 rfl (lv_at hl 1 rfl) ?_
    refine lv_aload_n hx hb dX8_value_5 rfl (lv_at hl 0 rfl) ?_
    refine mm_get (C := RX8) (T := TX8) (N := 48) (ci := 8) hx hb hts inX8 hown hK hM 0 0 me0 rfl rfl 4 (by decide) k187 (fun _ h9 => h9) rfl dX8_value_6 ?_
    refine lv_icmp_lt (tgt := 16) hx hb dX8_value_9 (by decide) (fun c_2 => ?_) (fun c_2 => ?_)
    · have h := iteT c_2 h
      refine lv_aload_n hx hb dX8_value_16 rfl (lv_at hl 0 rfl) ?_
      refine mm_get (C := RX8) (T := TX8) (N := 48) (ci := 8) hx hb hts inX8 hown hK hM 0 0 me0 rfl rfl 2 (by decide) k8 (fun _ h9 => h9) rfl dX8_value_17 ?_
      refine lv_aload_n hx hb dX8_value_20 rfl (lv_at hl 0 rfl) ?_
      refine mm_get (C := RX8) (T := TX8) (N := 48) (ci := 8) hx hb hts inX8 hown hK hM 0 0 me0 rfl rfl 5 (by decide) k18 (fun _ h9 => h9) rfl dX8_value_21 ?_
      refine lv_iload_n hx hb dX8_value_24 rfl (lv_at hl 1 rfl) ?_
      obtain ⟨b_3, h⟩ := iteS h
      refine mm_iald hx hb hK hM 6 0 (me (by decide)) 0 rfl rfl (bin_in b_3) dX8_value_25 ?_
      obtain ⟨b_4, h⟩ := iteS h
      refine mm_iald hx hb hK hM 3 0 (me (by decide)) 0 rfl rfl (bin_in b_4) dX8_value_26 ?_
      have e9 : (V0 3 0 ((V0 6 0 (px1).toNatClampNeg)).toNatClampNeg) = res := Option.some.inj h
      subst e9
      exact W.iret (v := (V0 3 0 ((V0 6 0 (px1).toNatClampNeg)).toNatClampNeg)) hx hb hr (fun t9 ht9 hW9 => ⟨⟨_, (), rfl, rfl, mR_of hM hK hAs hS.1 ht9 hW9⟩, hS.F ht9⟩) hS.2.2 dX8_value_27
    · have h := iteF c_2 h
      refine lv_iconst (v := (-1)) hx hb dX8_value_12 (by decide) ?_
      refine lv_goto (tgt := 27) hx hb dX8_value_13 (by decide) ?_
      have e9 : (-1 : Int32) = res := Option.some.inj h
      subst e9
      exact W.iret (v := (-1 : Int32)) hx hb hr (fun t9 ht9 hW9 => ⟨⟨_, (), rfl, rfl, mR_of hM hK hAs hS.1 ht9 hW9⟩, hS.F ht9⟩) hS.2.2 dX8_value_27
/-! X8_events -/
def fX8_events   (V0 : mM) : Option (Int32) := some (V0 0 0 1)
set_option maxHeartbeats 4000000 in
set_option maxRecDepth 100000 in
theorem kX8_events (l : Launch) {dC : Nat → ClassId} {dI : Nat → Nat → Nat} {A : Nat → Prop} {ad : Nat → Nat → Nat} {cI cZ : ClassId}   (V0 : mM) {res : Int32} (h : fX8_events V0 = some res) : Met l yX8_events wsX8_events ({ frames := 0, cells := 0, slots := 0, locals := 0 } : Room) (va_Pc [.ref (ad 0 0)] (fun U => mR dC dI A ad cI cZ V0 U)) (va_Qi (fun r9 (_ : Unit) => r9 = res) (fun _ t9 => mR dC dI A ad cI cZ V0 t9) A) 0 0 A := by
  refine Met.ofW (cc := cX8_events) (maxL := 1) (ret := (some .int)) (by decide) rfl ?_
  intro p e s m args below meth cd s₁ B hml hv
  obtain ⟨rfl, hM, hK, hAs⟩ := hv
  have hx := B.exec
  have hb := B.bytes
  have hr := B.returns
  have hts := atoms_spec (ws := wsX8_events) B.pre
  have hown : s.vm.findClass RX8 = some m.cls := findClass_of_methodNamed B.named
  have hlocks := B.notSynchronized
  have hS : va_S A s.heap s.heap [] := va_S.rf
  have k148 := hts (.fieldLink RX8 148 "StageDeskModel" "events" "I") (by decide +kernel)
  have inX8 : ∀ w ∈ u_ws RX8 TX8 48, w ∈ wsX8_events := by decide +kernel
  have hl := lv_entry ([.ref (ad 0 0)]) (n := 1) (Nat.le_of_ble_eq_true rfl)
  rw [lg_entry_eq]
  generalize (lg_sl ([.ref (ad 0 0)]) ++ List.replicate (1 - (lg_sl ([.ref (ad 0 0)])).length) Slot.unset).toArray = ls at hl ⊢
  have hl : lv_has ls 1 [(0, .ref (ad 0 0))] := hl
  unfold fX8_events at h
  refine lv_aload_n hx hb dX8_events_0 rfl (lv_at hl 0 rfl) ?_
  refine mm_get (C := RX8) (T := TX8) (N := 48) (ci := 8) hx hb hts inX8 hown hK hM 0 0 me0 rfl rfl 1 (by decide) k148 (fun _ h9 => h9) rfl dX8_events_1 ?_
  have e9 : (V0 0 0 1) = res := Option.some.inj h
  subst e9
  exact W.iret (v := (V0 0 0 1)) hx hb hr (fun t9 ht9 hW9 => ⟨⟨_, (), rfl, rfl, mR_of hM hK hAs hS.1 ht9 hW9⟩, hS.F ht9⟩) hS.2.2 dX8_events_4
/-! X8_ended -/
def fX8_ended   (V0 : mM) : Option (Int32) := some (V0 0 0 4)
set_option maxHeartbeats 4000000 in
set_option maxRecDepth 100000 in
theorem kX8_ended (l : Launch) {dC : Nat → ClassId} {dI : Nat → Nat → Nat} {A : Nat → Prop} {ad : Nat → Nat → Nat} {cI cZ : ClassId}   (V0 : mM) {res : Int32} (h : fX8_ended V0 = some res) : Met l yX8_ended wsX8_ended ({ frames := 0, cells := 0, slots := 0, locals := 0 } : Room) (va_Pc [.ref (ad 0 0)] (fun U => mR dC dI A ad cI cZ V0 U)) (va_Qi (fun r9 (_ : Unit) => r9 = res) (fun _ t9 => mR dC dI A ad cI cZ V0 t9) A) 0 0 A := by
  refine Met.ofW (cc := cX8_ended) (maxL := 1) (ret := (some .int)) (by decide) rfl ?_
  intro p e s m args below meth cd s₁ B hml hv
  obtain ⟨rfl, hM, hK, hAs⟩ := hv
  have hx := B.exec
  have hb := B.bytes
  have hr := B.returns
  have hts := atoms_spec (ws := wsX8_ended) B.pre
  have hown : s.vm.findClass RX8 = some m.cls := findClass_of_methodNamed B.named
  have hlocks := B.notSynchronized
  have hS : va_S A s.heap s.heap [] := va_S.rf
  have k187 := hts (.fieldLink RX8 187 "StageDeskModel" "ended" "I") (by decide +kernel)
  have inX8 : ∀ w ∈ u_ws RX8 TX8 48, w ∈ wsX8_ended := by decide +kernel
  have hl := lv_entry ([.ref (ad 0 0)]) (n := 1) (Nat.le_of_ble_eq_true rfl)
  rw [lg_entry_eq]
  generalize (lg_sl ([.ref (ad 0 0)]) ++ List.replicate (1 - (lg_sl ([.ref (ad 0 0)])).length) Slot.unset).toArray = ls at hl ⊢
  have hl : lv_has ls 1 [(0, .ref (ad 0 0))] := hl
  unfold fX8_ended at h
  refine lv_aload_n hx hb dX8_ended_0 rfl (lv_at hl 0 rfl) ?_
  refine mm_get (C := RX8) (T := TX8) (N := 48) (ci := 8) hx hb hts inX8 hown hK hM 0 0 me0 rfl rfl 4 (by decide) k187 (fun _ h9 => h9) rfl dX8_ended_1 ?_
  have e9 : (V0 0 0 4) = res := Option.some.inj h
  subst e9
  exact W.iret (v := (V0 0 0 4)) hx hb hr (fun t9 ht9 hW9 => ⟨⟨_, (), rfl, rfl, mR_of hM hK hAs hS.1 ht9 hW9⟩, hS.F ht9⟩) hS.2.2 dX8_ended_4
/-! X8_lost -/
def fX8_lost   (V0 : mM) : Option (Int32) := some (V0 0 0 6)
set_option maxHeartbeats 4000000 in
set_option maxRecDepth 100000 in
theorem kX8_lost (l : Launch) {dC : Nat → ClassId} {dI : Nat → Nat → Nat} {A : Nat → Prop} {ad : Nat → Nat → Nat} {cI cZ : ClassId}   (V0 : mM) {res : Int32} (h : fX8_lost V0 = some res) : Met l yX8_lost wsX8_lost ({ frames := 0, cells := 0, slots := 0, locals := 0 } : Room) (va_Pc [.ref (ad 0 0)] (fun U => mR dC dI A ad cI cZ V0 U)) (va_Qi (fun r9 (_ : Unit) => r9 = res) (fun _ t9 => mR dC dI A ad cI cZ V0 t9) A) 0 0 A := by
  refine Met.ofW (cc := cX8_lost) (maxL := 1) (ret := (some .int)) (by decide) rfl ?_
  intro p e s m args below meth cd s₁ B hml hv
  obtain ⟨rfl, hM, hK, hAs⟩ := hv
  have hx := B.exec
  have hb := B.bytes
  have hr := B.returns
  have hts := atoms_spec (ws := wsX8_lost) B.pre
  have hown : s.vm.findClass RX8 = some m.cls := findClass_of_methodNamed B.named
  have hlocks := B.notSynchronized
  have hS : va_S A s.heap s.heap [] := va_S.rf
  have k180 := hts (.fieldLink RX8 180 "StageDeskModel" "lost" "I") (by decide +kernel)
  have inX8 : ∀ w ∈ u_ws RX8 TX8 48, w ∈ wsX8_lost := by decide +kernel
  have hl := lv_entry ([.ref (ad 0 0)]) (n := 1) (Nat.le_of_ble_eq_true rfl)
  rw [lg_entry_eq]
  generalize (lg_sl ([.ref (ad 0 0)]) ++ List.replicate (1 - (lg_sl ([.ref (ad 0 0)])).length) Slot.unset).toArray = ls at hl ⊢
  have hl : lv_has ls 1 [(0, .ref (ad 0 0))] := hl
  unfold fX8_lost at h
  refine lv_aload_n hx hb dX8_lost_0 rfl (lv_at hl 0 rfl) ?_
  refine mm_get (C := RX8) (T := TX8) (N := 48) (ci := 8) hx hb hts inX8 hown hK hM 0 0 me0 rfl rfl 6 (by decide) k180 (fun _ h9 => h9) rfl dX8_lost_1 ?_
  have e9 : (V0 0 0 6) = res := Option.some.inj h
  subst e9
  exact W.iret (v := (V0 0 0 6)) hx hb hr (fun t9 ht9 hW9 => ⟨⟨_, (), rfl, rfl, mR_of hM hK hAs hS.1 ht9 hW9⟩, hS.F ht9⟩) hS.2.2 dX8_lost_4
/-! X8_clock -/
def fX8_clock   (V0 : mM) : Option (Int32) := some (V0 0 0 0)
set_option maxHeartbeats 4000000 in
set_option maxRecDepth 100000 in
theorem kX8_clock (l : Launch) {dC : Nat → ClassId} {dI : Nat → Nat → Nat} {A : Nat → Prop} {ad : Nat → Nat → Nat} {cI cZ : ClassId}   (V0 : mM) {res : Int32} (h : fX8_clock V0 = some res) : Met l yX8_clock wsX8_clock ({ frames := 0, cells := 0, slots := 0, locals := 0 } : Room) (va_Pc [.ref (ad 0 0)] (fun U => mR dC dI A ad cI cZ V0 U)) (va_Qi (fun r9 (_ : Unit) => r9 = res) (fun _ t9 => mR dC dI A ad cI cZ V0 t9) A) 0 0 A := by
  refine Met.ofW (cc := cX8_clock) (maxL := 1) (ret := (some .int)) (by decide) rfl ?_
  intro p e s m args below meth cd s₁ B hml hv
  obtain ⟨rfl, hM, hK, hAs⟩ := hv
  have hx := B.exec
  have hb := B.bytes
  have hr := B.returns
  have hts := atoms_spec (ws := wsX8_clock) B.pre
  have hown : s.vm.findClass RX8 = some m.cls := findClass_of_methodNamed B.named
  have hlocks := B.notSynchronized
  have hS : va_S A s.heap s.heap [] := va_S.rf
  have k163 := hts (.fieldLink RX8 163 "StageDeskModel" "clock" "I") (by decide +kernel)
  have inX8 : ∀ w ∈ u_ws RX8 TX8 48, w ∈ wsX8_clock := by decide +kernel
  have hl := lv_entry ([.ref (ad 0 0)]) (n := 1) (Nat.le_of_ble_eq_true rfl)
  rw [lg_entry_eq]
  generalize (lg_sl ([.ref (ad 0 0)]) ++ List.replicate (1 - (lg_sl ([.ref (ad 0 0)])).length) Slot.unset).toArray = ls at hl ⊢
  have hl : lv_has ls 1 [(0, .ref (ad 0 0))] := hl
  unfold fX8_clock at h
  refine lv_aload_n hx hb dX8_clock_0 rfl (lv_at hl 0 rfl) ?_
  refine mm_get (C := RX8) (T := TX8) (N := 48) (ci := 8) hx hb hts inX8 hown hK hM 0 0 me0 rfl rfl 0 (by decide) k163 (fun _ h9 => h9) rfl dX8_clock_1 ?_
  have e9 : (V0 0 0 0) = res := Option.some.inj h
  subst e9
  exact W.iret (v := (V0 0 0 0)) hx hb hr (fun t9 ht9 hW9 => ⟨⟨_, (), rfl, rfl, mR_of hM hK hAs hS.1 ht9 hW9⟩, hS.F ht9⟩) hS.2.2 dX8_clock_4
