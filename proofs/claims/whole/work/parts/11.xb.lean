/-! X3_freePlaces -/
def fX3_freePlaces (L : Nat → Nat → Nat) (pn0 : Nat) (V0 : mM) (c0 : Nat × Nat) : Option (Int32) := some (((V0 3 pn0 1) - (V0 11 (32 + pn0) 3)) - (V0 3 pn0 9))
set_option maxHeartbeats 4000000 in
set_option maxRecDepth 100000 in
theorem kX3_freePlaces (l : Launch) {dC : Nat → ClassId} {dI : Nat → Nat → Nat} {A : Nat → Prop} {ad : Nat → Nat → Nat} {cnt : Nat} {L : Nat → Nat → Nat} {cI cS cW : ClassId} {q : Nat × Nat} (hsh : xSh cnt L) (pn0 : Nat) (V0 : mM) (c0 : Nat × Nat) {res : Int32} (h : fX3_freePlaces L pn0 V0 c0 = some res) (hpn0 : xex cnt L 3 pn0) : Met l yX3_freePlaces wsX3_freePlaces ({ frames := 0, cells := 0, slots := 0, locals := 0 } : Room) (va_Pc [.ref (ad 3 pn0)] (fun U => xM dC dI A ad cnt L cI cS cW q V0 c0 U)) (va_Qi (fun r9 (_ : Unit) => r9 = res) (fun _ t9 => xM dC dI A ad cnt L cI cS cW q V0 c0 t9) A) 0 0 A := by
  refine Met.ofW (cc := cX3_freePlaces) (maxL := 1) (ret := (some .int)) (by decide) rfl ?_
  intro p e s m args below meth cd s₁ B hml hv
  obtain ⟨rfl, hM, hK, hW, hAs⟩ := hv
  have hx := B.exec
  have hb := B.bytes
  have hr := B.returns
  have hts := atoms_spec (ws := wsX3_freePlaces) B.pre
  have hown : s.vm.findClass RX3 = some m.cls := findClass_of_methodNamed B.named
  have hlocks := B.notSynchronized
  have hS : va_S A s.heap s.heap [] := va_S.rf
  have k37 := hts (.fieldLink RX3 37 "StageDesk$Stage" "bound" "I") (by decide +kernel)
  have k48 := hts (.fieldLink RX3 48 "StageDesk$Stage" "queue" "LStageDesk$EventRow;") (by decide +kernel)
  have k59 := hts (.fieldLink RX3 59 "StageDesk$EventRow" "size" "I") (by decide +kernel)
  have k62 := hts (.fieldLink RX3 62 "StageDesk$Stage" "reserved" "I") (by decide +kernel)
  have inX3 : ∀ w ∈ u_ws RX3 TX3 19, w ∈ wsX3_freePlaces := by decide +kernel
  have inX1 : ∀ w ∈ u_ws RX1 TX1 4, w ∈ wsX3_freePlaces := by decide +kernel
  have hl := lv_entry ([.ref (ad 3 pn0)]) (n := 1) (Nat.le_of_ble_eq_true rfl)
  rw [lg_entry_eq]
  generalize (lg_sl ([.ref (ad 3 pn0)]) ++ List.replicate (1 - (lg_sl ([.ref (ad 3 pn0)])).length) Slot.unset).toArray = ls at hl ⊢
  have hl : lv_has ls 1 [(0, .ref (ad 3 pn0))] := hl
  unfold fX3_freePlaces at h
  refine lv_aload_n hx hb dX3_freePlaces_0 rfl (lv_at hl 0 rfl) ?_
  refine mm_get (C := RX3) (T := TX3) (N := 19) (ci := 3) hx hb hts inX3 hown hK hM 3 pn0 hpn0 rfl rfl 1 (by decide) k37 (fun _ h9 => h9) rfl dX3_freePlaces_1 ?_
  refine lv_aload_n hx hb dX3_freePlaces_4 rfl (lv_at hl 0 rfl) ?_
  refine mm_get (C := RX3) (T := TX3) (N := 19) (ci := 3) hx hb hts inX3 hown hK hM 3 pn0 hpn0 rfl rfl 3 (by decide) k48 (fun _ h9 => h9) rfl dX3_freePlaces_5 ?_
  refine mm_get (C := RX1) (T := TX1) (N := 4) (ci := 1) hx hb hts inX1 hown hK hM 11 (32 + pn0) (xe3_q hpn0) rfl rfl 3 (by decide) k59 (fun _ h9 => h9) rfl dX3_freePlaces_8 ?_
  refine lv_isub hx hb dX3_freePlaces_11 ?_
  refine lv_aload_n hx hb dX3_freePlaces_12 rfl (lv_at hl 0 rfl) ?_
  refine mm_get (C := RX3) (T := TX3) (N := 19) (ci := 3) hx hb hts inX3 hown hK hM 3 pn0 hpn0 rfl rfl 9 (by decide) k62 (fun _ h9 => h9) rfl dX3_freePlaces_13 ?_
  refine lv_isub hx hb dX3_freePlaces_16 ?_
  have e9 : (((V0 3 pn0 1) - (V0 11 (32 + pn0) 3)) - (V0 3 pn0 9)) = res := Option.some.inj h
  subst e9
  exact W.iret (v := (((V0 3 pn0 1) - (V0 11 (32 + pn0) 3)) - (V0 3 pn0 9))) hx hb hr (fun t9 ht9 hW9 => ⟨⟨_, (), rfl, rfl, xM_of hM hK hW hAs hS.1 ht9 hW9⟩, hS.F ht9⟩) hS.2.2 dX3_freePlaces_17
/-! X3_ask -/
def jnX3_ask_38 (L : Nat → Nat → Nat)  (n0 : Nat) (x1 : Int32) (V : mM) (c0 : Nat × Nat) : Option (Int32 × mM) := if x1 = 0 then (some (x1, V)) else (some (x1, (mu V 3 n0 16 ((V 3 n0 16) + (1 : Int32)))))
def fX3_ask (L : Nat → Nat → Nat) (pn0 : Nat) (V0 : mM) (c0 : Nat × Nat) : Option (Int32 × mM) := if (V0 3 pn0 8) = 0 then ((fX3_freePlaces L pn0 V0 c0).bind fun u_3 => if 0 < u_3 then (if 0 < (V0 3 pn0 12) then (jnX3_ask_38 L pn0 (0 : Int32) V0 c0) else (jnX3_ask_38 L pn0 (-4 : Int32) V0 c0)) else (jnX3_ask_38 L pn0 (-2 : Int32) V0 c0)) else (jnX3_ask_38 L pn0 (-3 : Int32) V0 c0)
set_option maxHeartbeats 4000000 in
set_option maxRecDepth 100000 in
theorem kX3_ask (l : Launch) {dC : Nat → ClassId} {dI : Nat → Nat → Nat} {A : Nat → Prop} {ad : Nat → Nat → Nat} {cnt : Nat} {L : Nat → Nat → Nat} {cI cS cW : ClassId} {q : Nat × Nat} (hsh : xSh cnt L) (pn0 : Nat) (V0 : mM) (c0 : Nat × Nat) {res : Int32 × mM} (h : fX3_ask L pn0 V0 c0 = some res) (hpn0 : xex cnt L 3 pn0) : Met l yX3_ask wsX3_ask ({ frames := 1, cells := 0, slots := 0, locals := 20 } : Room) (va_Pc [.ref (ad 3 pn0)] (fun U => xM dC dI A ad cnt L cI cS cW q V0 c0 U)) (va_Qi (fun r9 (_ : Unit) => r9 = res.1) (fun _ t9 => xM dC dI A ad cnt L cI cS cW q res.2 c0 t9) A) 0 0 A := by
  refine Met.ofW (cc := cX3_ask) (maxL := 2) (ret := (some .int)) (by decide) rfl ?_
  intro p e s m args below meth cd s₁ B hml hv
  obtain ⟨rfl, hM, hK, hW, hAs⟩ := hv
  have hx := B.exec
  have hb := B.bytes
  have hr := B.returns
  have hts := atoms_spec (ws := wsX3_ask) B.pre
  have hown : s.vm.findClass RX3 = some m.cls := findClass_of_methodNamed B.named
  have hlocks := B.notSynchronized
  have hS : va_S A s.heap s.heap [] := va_S.rf
  have k73 := hts (.fieldLink RX3 73 "StageDesk$Stage" "refusals" "I") (by decide +kernel)
  have k65 := hts (.fieldLink RX3 65 "StageDesk$Stage" "closed" "Z") (by decide +kernel)
  have k25 := hts (.fieldLink RX3 25 "StageDesk$Stage" "tokens" "I") (by decide +kernel)
  have inX3 : ∀ w ∈ u_ws RX3 TX3 19, w ∈ wsX3_ask := by decide +kernel
  have hb38 : ∀ (n0 : Nat) (x1 : Int32) (V : mM), jnX3_ask_38 L n0 x1 V c0 = some res → ∀ (H : Heap) (locs : List Loc), xex cnt L 3 n0 → mP (dC, dI) vwCl A (xad ad q) (xce cI cS cW ad q L c0) (xex cnt L) V H → xW cnt V → va_S A s.heap H locs → ∀ (ls : Array Slot), lv_has ls 2 [(0, .ref (ad 3 n0)), (1, .int x1)] → W p l e (headSpec wsX3_ask ({ frames := 1, cells := 0, slots := 0, locals := 20 } : Room)).room s m ([.ref (ad 3 pn0)] : List Value).toArray below meth cd H locs 0 0 (MQ below (va_Qi (fun r9 (_ : Unit) => r9 = res.1) (fun _ t9 => xM dC dI A ad cnt L cI cS cW q res.2 c0 t9) A) ([.ref (ad 3 pn0)] : List Value).toArray s 0 0 A) (F0 m 38 ls []) := by
    intro  n0 x1 V h H locs hn0 hM hW hS ls hl
    unfold jnX3_ask_38 at h
    refine lv_iload_n hx hb dX3_ask_38 rfl (lv_at hl 1 rfl) ?_
    refine lv_if_eq (tgt := 52) hx hb dX3_ask_39 (by decide) (fun c_1 => ?_) (fun c_1 => ?_)
    · have h := iteT c_1 h
      refine lv_iload_n hx hb dX3_ask_52 rfl (lv_at hl 1 rfl) ?_
      have e9 : (x1, V) = res := Option.some.inj h
      subst e9
      exact W.iret (v := x1) hx hb hr (fun t9 ht9 hW9 => ⟨⟨_, (), rfl, rfl, xM_of hM hK hW hAs hS.1 ht9 hW9⟩, hS.F ht9⟩) hS.2.2 dX3_ask_53
    · have h := iteF c_1 h
      refine lv_aload_n hx hb dX3_ask_42 rfl (lv_at hl 0 rfl) ?_
      refine lv_dup hx hb dX3_ask_43 rfl ?_
      refine mm_get (C := RX3) (T := TX3) (N := 19) (ci := 3) hx hb hts inX3 hown hK hM 3 n0 hn0 rfl rfl 16 (by decide) k73 (fun _ h9 => h9) rfl dX3_ask_44 ?_
      refine lv_iconst (v := 1) hx hb dX3_ask_47 (by decide) ?_
      refine lv_iadd hx hb dX3_ask_48 ?_
      refine mm_put (C := RX3) (T := TX3) (N := 19) (ci := 3) (ty := .int) hx hb hts inX3 tyX3 tyX3_ok nmX3 hown hK hM hS 3 n0 hn0 rfl rfl 16 (by decide) k73 (fun _ h9 => h9) rfl (by decide +kernel) rfl rfl (Nat.le_of_ble_eq_true rfl) ((V 3 n0 16) + (1 : Int32)) rfl dX3_ask_49 (fun H locs hM hS => ?_)
      have hW := xW_mu (k := 3) (n := n0) (t := 16) (x := ((V 3 n0 16) + (1 : Int32))) hW (fun h9 => Bool.noConfusion (show false = true from h9))
      refine lv_iload_n hx hb dX3_ask_52 rfl (lv_at hl 1 rfl) ?_
      have e9 : (x1, (mu V 3 n0 16 ((V 3 n0 16) + (1 : Int32)))) = res := Option.some.inj h
      subst e9
      exact W.iret (v := x1) hx hb hr (fun t9 ht9 hW9 => ⟨⟨_, (), rfl, rfl, xM_of hM hK hW hAs hS.1 ht9 hW9⟩, hS.F ht9⟩) hS.2.2 dX3_ask_53
  have hl := lv_entry ([.ref (ad 3 pn0)]) (n := 2) (Nat.le_of_ble_eq_true rfl)
  rw [lg_entry_eq]
  generalize (lg_sl ([.ref (ad 3 pn0)]) ++ List.replicate (2 - (lg_sl ([.ref (ad 3 pn0)])).length) Slot.unset).toArray = ls at hl ⊢
  have hl : lv_has ls 2 [(0, .ref (ad 3 pn0))] := hl
  unfold fX3_ask at h
  refine lv_iconst (v := 0) hx hb dX3_ask_0 (by decide) ?_
  refine lv_istore_n (lv' := [(1, .int (0 : Int32)), (0, .ref (ad 3 pn0))]) hx hb dX3_ask_1 rfl hl (by decide) rfl (fun ls hl => ?_)
  refine lv_aload_n hx hb dX3_ask_2 rfl (lv_at hl 1 rfl) ?_
  refine mm_get (C := RX3) (T := TX3) (N := 19) (ci := 3) hx hb hts inX3 hown hK hM 3 pn0 hpn0 rfl rfl 8 (by decide) k65 (fun _ h9 => h9) rfl dX3_ask_3 ?_
  refine lv_if_eq (tgt := 15) hx hb dX3_ask_6 (by decide) (fun c_2 => ?_) (fun c_2 => ?_)
  · have h := iteT c_2 h
    refine lv_aload_n hx hb dX3_ask_15 rfl (lv_at hl 1 rfl) ?_
    obtain ⟨u_3, hu_3, h⟩ := bindS h
    refine va_calli (va_runV (As := []) (rest := []) ⟨hx, hb, hml, hown, hts⟩ (kX3_freePlaces l hsh pn0 V0 c0 hu_3 hpn0) (cwV 0 hts gX3_ask_X3_freePlaces rfl rfl rfl (by decide +kernel) ⟨Nat.le_of_ble_eq_true rfl, Nat.le_of_ble_eq_true rfl⟩) ⟨fun a U g9 mk w9 => ⟨w9.1, xM_calling w9.2⟩, mP_recv (q := (RX3, TX3, 19)) hK hM hpn0 rfl rfl, fun U hU hWm => ⟨rfl, xM_of hM hK hW hAs hS.1 hU hWm⟩⟩ rfl rfl hl.1 rfl (lv_room (Nat.le_of_ble_eq_true rfl)) dX3_ask_16 ⟨Nat.le_of_ble_eq_true rfl, Nat.le_of_ble_eq_true rfl⟩) hS (fun _ _ h9 => h9) (fun _ h9 => h9) (fun r9 u9 t9 H locs ht9 _ hw9 hB9 _ _ hS => ?_)
    rw [show r9 = u_3 from hw9]
    obtain ⟨hM, -, hW, -⟩ := hB9
    rw [ht9] at hM
    refine lv_if_gt (tgt := 28) hx hb dX3_ask_19 (by decide) (fun c_4 => ?_) (fun c_4 => ?_)
    · have h := iteT c_4 h
      refine lv_aload_n hx hb dX3_ask_28 rfl (lv_at hl 1 rfl) ?_
      refine mm_get (C := RX3) (T := TX3) (N := 19) (ci := 3) hx hb hts inX3 hown hK hM 3 pn0 hpn0 rfl rfl 12 (by decide) k25 (fun _ h9 => h9) rfl dX3_ask_29 ?_
      refine lv_if_gt (tgt := 38) hx hb dX3_ask_32 (by decide) (fun c_5 => ?_) (fun c_5 => ?_)
      · have h := iteT c_5 h
        exact hb38 _ _ _ h _ _ hpn0 hM hW hS ls (lv_sub hl [1, 0] rfl)
      · have h := iteF c_5 h
        refine lv_bipush (v := (-4)) hx hb dX3_ask_35 (by decide) ?_
        refine lv_istore_n (lv' := [(1, .int (-4 : Int32)), (0, .ref (ad 3 pn0))]) hx hb dX3_ask_37 rfl hl (by decide) rfl (fun ls hl => ?_)
        exact hb38 _ _ _ h _ _ hpn0 hM hW hS ls (lv_sub hl [1, 0] rfl)
    · have h := iteF c_4 h
      refine lv_bipush (v := (-2)) hx hb dX3_ask_22 (by decide) ?_
      refine lv_istore_n (lv' := [(1, .int (-2 : Int32)), (0, .ref (ad 3 pn0))]) hx hb dX3_ask_24 rfl hl (by decide) rfl (fun ls hl => ?_)
      refine lv_goto (tgt := 38) hx hb dX3_ask_25 (by decide) ?_
      exact hb38 _ _ _ h _ _ hpn0 hM hW hS ls (lv_sub hl [1, 0] rfl)
  · have h := iteF c_2 h
    refine lv_bipush (v := (-3)) hx hb dX3_ask_9 (by decide) ?_
    refine lv_istore_n (lv' := [(1, .int (-3 : Int32)), (0, .ref (ad 3 pn0))]) hx hb dX3_ask_11 rfl hl (by decide) rfl (fun ls hl => ?_)
    refine lv_goto (tgt := 38) hx hb dX3_ask_12 (by decide) ?_
    exact hb38 _ _ _ h _ _ hpn0 hM hW hS ls (lv_sub hl [1, 0] rfl)
/-! X3_take -/
def fX3_take (L : Nat → Nat → Nat) (pn0 : Nat) (px1 : Int32) (px2 : Int32) (px3 : Int32) (V0 : mM) (c0 : Nat × Nat) : Option (mM) := (fX1_append L (32 + pn0) px1 px2 px3 V0 c0).bind fun u_1 => some (mu u_1 3 pn0 12 ((u_1 3 pn0 12) - (1 : Int32)))
set_option maxHeartbeats 4000000 in
set_option maxRecDepth 100000 in
theorem kX3_take (l : Launch) {dC : Nat → ClassId} {dI : Nat → Nat → Nat} {A : Nat → Prop} {ad : Nat → Nat → Nat} {cnt : Nat} {L : Nat → Nat → Nat} {cI cS cW : ClassId} {q : Nat × Nat} (hsh : xSh cnt L) (pn0 : Nat) (px1 : Int32) (px2 : Int32) (px3 : Int32) (V0 : mM) (c0 : Nat × Nat) {res : mM} (h : fX3_take L pn0 px1 px2 px3 V0 c0 = some res) (hpn0 : xex cnt L 3 pn0) : Met l yX3_take wsX3_take ({ frames := 1, cells := 0, slots := 0, locals := 23 } : Room) (va_Pc [.ref (ad 3 pn0), .int px1, .int px2, .int px3] (fun U => xM dC dI A ad cnt L cI cS cW q V0 c0 U)) (va_Qv (fun (_ : Unit) => True) (fun _ t9 => xM dC dI A ad cnt L cI cS cW q res c0 t9) A) 0 0 A := by
  refine Met.ofW (cc := cX3_take) (maxL := 4) (ret := none) (by decide) rfl ?_
  intro p e s m args below meth cd s₁ B hml hv
  obtain ⟨rfl, hM, hK, hW, hAs⟩ := hv
  have hx := B.exec
  have hb := B.bytes
  have hr := B.returns
  have hts := atoms_spec (ws := wsX3_take) B.pre
  have hown : s.vm.findClass RX3 = some m.cls := findClass_of_methodNamed B.named
  have hlocks := B.notSynchronized
  have hS : va_S A s.heap s.heap [] := va_S.rf
  have k48 := hts (.fieldLink RX3 48 "StageDesk$Stage" "queue" "LStageDesk$EventRow;") (by decide +kernel)
  have k25 := hts (.fieldLink RX3 25 "StageDesk$Stage" "tokens" "I") (by decide +kernel)
  have inX3 : ∀ w ∈ u_ws RX3 TX3 19, w ∈ wsX3_take := by decide +kernel
  have hl := lv_entry ([.ref (ad 3 pn0), .int px1, .int px2, .int px3]) (n := 4) (Nat.le_of_ble_eq_true rfl)
  rw [lg_entry_eq]
  generalize (lg_sl ([.ref (ad 3 pn0), .int px1, .int px2, .int px3]) ++ List.replicate (4 - (lg_sl ([.ref (ad 3 pn0), .int px1, .int px2, .int px3])).length) Slot.unset).toArray = ls at hl ⊢
  have hl : lv_has ls 4 [(0, .ref (ad 3 pn0)), (1, .int px1), (2, .int px2), (3, .int px3)] := hl
  unfold fX3_take at h
  refine lv_aload_n hx hb dX3_take_0 rfl (lv_at hl 0 rfl) ?_
  refine mm_get (C := RX3) (T := TX3) (N := 19) (ci := 3) hx hb hts inX3 hown hK hM 3 pn0 hpn0 rfl rfl 3 (by decide) k48 (fun _ h9 => h9) rfl dX3_take_1 ?_
  refine lv_iload_n hx hb dX3_take_4 rfl (lv_at hl 1 rfl) ?_
  refine lv_iload_n hx hb dX3_take_5 rfl (lv_at hl 2 rfl) ?_
  refine lv_iload_n hx hb dX3_take_6 rfl (lv_at hl 3 rfl) ?_
  obtain ⟨u_1, hu_1, h⟩ := bindS h
  refine va_callv (va_runV (As := [.int px1, .int px2, .int px3]) (rest := []) ⟨hx, hb, hml, hown, hts⟩ (kX1_append l hsh (32 + pn0) px1 px2 px3 V0 c0 hu_1 (xe3_q hpn0)) (cwV 3 hts gX3_take_X1_append rfl rfl rfl (by decide +kernel) ⟨Nat.le_of_ble_eq_true rfl, Nat.le_of_ble_eq_true rfl⟩) ⟨fun a U g9 mk w9 => ⟨w9.1, xM_calling w9.2⟩, mP_recv (q := (RX1, TX1, 4)) hK hM (xe3_q hpn0) rfl rfl, fun U hU hWm => ⟨rfl, xM_of hM hK hW hAs hS.1 hU hWm⟩⟩ rfl rfl hl.1 rfl (lv_room (Nat.le_of_ble_eq_true rfl)) dX3_take_7 ⟨Nat.le_of_ble_eq_true rfl, Nat.le_of_ble_eq_true rfl⟩) hS (fun _ _ h9 => h9) (fun _ h9 => h9) (fun u9 t9 H locs ht9 _ hw9 hB9 _ _ hS => ?_)
  obtain ⟨hM, -, hW, -⟩ := hB9
  rw [ht9] at hM
  refine lv_aload_n hx hb dX3_take_10 rfl (lv_at hl 0 rfl) ?_
  refine lv_dup hx hb dX3_take_11 rfl ?_
  refine mm_get (C := RX3) (T := TX3) (N := 19) (ci := 3) hx hb hts inX3 hown hK hM 3 pn0 hpn0 rfl rfl 12 (by decide) k25 (fun _ h9 => h9) rfl dX3_take_12 ?_
  refine lv_iconst (v := 1) hx hb dX3_take_15 (by decide) ?_
  refine lv_isub hx hb dX3_take_16 ?_
  refine mm_put (C := RX3) (T := TX3) (N := 19) (ci := 3) (ty := .int) hx hb hts inX3 tyX3 tyX3_ok nmX3 hown hK hM hS 3 pn0 hpn0 rfl rfl 12 (by decide) k25 (fun _ h9 => h9) rfl (by decide +kernel) rfl rfl (Nat.le_of_ble_eq_true rfl) ((u_1 3 pn0 12) - (1 : Int32)) rfl dX3_take_17 (fun H locs hM hS => ?_)
  have hW := xW_mu (k := 3) (n := pn0) (t := 12) (x := ((u_1 3 pn0 12) - (1 : Int32))) hW (fun h9 => Bool.noConfusion (show false = true from h9))
  have e9 : (mu u_1 3 pn0 12 ((u_1 3 pn0 12) - (1 : Int32))) = res := Option.some.inj h
  subst e9
  exact W.vret hx hb hr (fun t9 ht9 hW9 => ⟨⟨(), rfl, trivial, xM_of hM hK hW hAs hS.1 ht9 hW9⟩, hS.F ht9⟩) hS.2.2 dX3_take_20
/-! X3_growTokens -/
def fX3_growTokens (L : Nat → Nat → Nat) (pn0 : Nat) (V0 : mM) (c0 : Nat × Nat) : Option (mM) := some (mu V0 3 pn0 12 (if (V0 3 pn0 11) < ((V0 3 pn0 12) + (V0 3 pn0 10)) then (V0 3 pn0 11) else ((V0 3 pn0 12) + (V0 3 pn0 10))))
set_option maxHeartbeats 4000000 in
set_option maxRecDepth 100000 in
theorem kX3_growTokens (l : Launch) {dC : Nat → ClassId} {dI : Nat → Nat → Nat} {A : Nat → Prop} {ad : Nat → Nat → Nat} {cnt : Nat} {L : Nat → Nat → Nat} {cI cS cW : ClassId} {q : Nat × Nat} (hsh : xSh cnt L) (pn0 : Nat) (V0 : mM) (c0 : Nat × Nat) {res : mM} (h : fX3_growTokens L pn0 V0 c0 = some res) (hpn0 : xex cnt L 3 pn0) : Met l yX3_growTokens wsX3_growTokens ({ frames := 1, cells := 0, slots := 0, locals := 21 } : Room) (va_Pc [.ref (ad 3 pn0)] (fun U => xM dC dI A ad cnt L cI cS cW q V0 c0 U)) (va_Qv (fun (_ : Unit) => True) (fun _ t9 => xM dC dI A ad cnt L cI cS cW q res c0 t9) A) 0 0 A := by
  refine Met.ofW (cc := cX3_growTokens) (maxL := 1) (ret := none) (by decide) rfl ?_
  intro p e s m args below meth cd s₁ B hml hv
  obtain ⟨rfl, hM, hK, hW, hAs⟩ := hv
  have hx := B.exec
  have hb := B.bytes
  have hr := B.returns
  have hts := atoms_spec (ws := wsX3_growTokens) B.pre
  have hown : s.vm.findClass RX3 = some m.cls := findClass_of_methodNamed B.named
  have hlocks := B.notSynchronized
  have hS : va_S A s.heap s.heap [] := va_S.rf
  have k25 := hts (.fieldLink RX3 25 "StageDesk$Stage" "tokens" "I") (by decide +kernel)
  have k18 := hts (.fieldLink RX3 18 "StageDesk$Stage" "rate" "I") (by decide +kernel)
  have k22 := hts (.fieldLink RX3 22 "StageDesk$Stage" "depth" "I") (by decide +kernel)
  have inX3 : ∀ w ∈ u_ws RX3 TX3 19, w ∈ wsX3_growTokens := by decide +kernel
  have hl := lv_entry ([.ref (ad 3 pn0)]) (n := 1) (Nat.le_of_ble_eq_true rfl)
  rw [lg_entry_eq]
  generalize (lg_sl ([.ref (ad 3 pn0)]) ++ List.replicate (1 - (lg_sl ([.ref (ad 3 pn0)])).length) Slot.unset).toArray = ls at hl ⊢
  have hl : lv_has ls 1 [(0, .ref (ad 3 pn0))] := hl
  unfold fX3_growTokens at h
  refine lv_aload_n hx hb dX3_growTokens_0 rfl (lv_at hl 0 rfl) ?_
  refine lv_aload_n hx hb dX3_growTokens_1 rfl (lv_at hl 0 rfl) ?_
  refine mm_get (C := RX3) (T := TX3) (N := 19) (ci := 3) hx hb hts inX3 hown hK hM 3 pn0 hpn0 rfl rfl 12 (by decide) k25 (fun _ h9 => h9) rfl dX3_growTokens_2 ?_
  refine lv_aload_n hx hb dX3_growTokens_5 rfl (lv_at hl 0 rfl) ?_
  refine mm_get (C := RX3) (T := TX3) (N := 19) (ci := 3) hx hb hts inX3 hown hK hM 3 pn0 hpn0 rfl rfl 10 (by decide) k18 (fun _ h9 => h9) rfl dX3_growTokens_6 ?_
  refine lv_iadd hx hb dX3_growTokens_9 ?_
  refine lv_aload_n hx hb dX3_growTokens_10 rfl (lv_at hl 0 rfl) ?_
  refine mm_get (C := RX3) (T := TX3) (N := 19) (ci := 3) hx hb hts inX3 hown hK hM 3 pn0 hpn0 rfl rfl 11 (by decide) k22 (fun _ h9 => h9) rfl dX3_growTokens_11 ?_
  refine va_mmin hx hb (by rw [hml]; exact hl.1.symm) hown (hts (.methodLink RX3 80 Lib.Math.min.name) (by decide +kernel)) (hts (.static Lib.Math.min.name) (by decide +kernel)) (hts (.initialized "java/lang/Math") (by decide +kernel)) (hts (.code Lib.Math.min.name Lib.Math.min.code 2 (some .int)) (by decide +kernel)) (Nat.le_of_ble_eq_true rfl) (Nat.le_of_ble_eq_true rfl) (Nat.zero_le _) (Nat.zero_le _) dX3_growTokens_14 ?_
  refine mm_put (C := RX3) (T := TX3) (N := 19) (ci := 3) (ty := .int) hx hb hts inX3 tyX3 tyX3_ok nmX3 hown hK hM hS 3 pn0 hpn0 rfl rfl 12 (by decide) k25 (fun _ h9 => h9) rfl (by decide +kernel) rfl rfl (Nat.le_of_ble_eq_true rfl) (if (V0 3 pn0 11) < ((V0 3 pn0 12) + (V0 3 pn0 10)) then (V0 3 pn0 11) else ((V0 3 pn0 12) + (V0 3 pn0 10))) rfl dX3_growTokens_17 (fun H locs hM hS => ?_)
  have hW := xW_mu (k := 3) (n := pn0) (t := 12) (x := (if (V0 3 pn0 11) < ((V0 3 pn0 12) + (V0 3 pn0 10)) then (V0 3 pn0 11) else ((V0 3 pn0 12) + (V0 3 pn0 10)))) hW (fun h9 => Bool.noConfusion (show false = true from h9))
  have e9 : (mu V0 3 pn0 12 (if (V0 3 pn0 11) < ((V0 3 pn0 12) + (V0 3 pn0 10)) then (V0 3 pn0 11) else ((V0 3 pn0 12) + (V0 3 pn0 10)))) = res := Option.some.inj h
  subst e9
  exact W.vret hx hb hr (fun t9 ht9 hW9 => ⟨⟨(), rfl, trivial, xM_of hM hK hW hAs hS.1 ht9 hW9⟩, hS.F ht9⟩) hS.2.2 dX3_growTokens_20
/-! X3_startBatch -/
def fX3_startBatch (L : Nat → Nat → Nat) (pn0 : Nat) (pn1 : Nat) (V0 : mM) (c0 : Nat × Nat) : Option (mM) := (fX1_becomeFirstOf L pn1 (32 + pn0) (V0 3 pn0 15) V0 c0).bind fun u_1 => some (mu u_1 16 pn1 2 ((u_1 3 pn0 2) * (u_1 11 pn1 3)))
set_option maxHeartbeats 4000000 in
set_option maxRecDepth 100000 in
theorem kX3_startBatch (l : Launch) {dC : Nat → ClassId} {dI : Nat → Nat → Nat} {A : Nat → Prop} {ad : Nat → Nat → Nat} {cnt : Nat} {L : Nat → Nat → Nat} {cI cS cW : ClassId} {q : Nat × Nat} (hsh : xSh cnt L) (pn0 : Nat) (pn1 : Nat) (V0 : mM) (c0 : Nat × Nat) {res : mM} (h : fX3_startBatch L pn0 pn1 V0 c0 = some res) (hpn0 : xex cnt L 3 pn0) (hpn1 : xex cnt L 16 pn1) : Met l yX3_startBatch wsX3_startBatch ({ frames := 3, cells := 0, slots := 0, locals := 80 } : Room) (va_Pc [.ref (ad 3 pn0), .ref (ad 16 pn1)] (fun U => xM dC dI A ad cnt L cI cS cW q V0 c0 U)) (va_Qv (fun (_ : Unit) => True) (fun _ t9 => xM dC dI A ad cnt L cI cS cW q res c0 t9) A) 0 0 A := by
  refine Met.ofW (cc := cX3_startBatch) (maxL := 2) (ret := none) (by decide) rfl ?_
  intro p e s m args below meth cd s₁ B hml hv
  obtain ⟨rfl, hM, hK, hW, hAs⟩ := hv
  have hx := B.exec
  have hb := B.bytes
  have hr := B.returns
  have hts := atoms_spec (ws := wsX3_startBatch) B.pre
  have hown : s.vm.findClass RX3 = some m.cls := findClass_of_methodNamed B.named
  have hlocks := B.notSynchronized
  have hS : va_S A s.heap s.heap [] := va_S.rf
  have k86 := hts (.fieldLink RX3 86 "StageDesk$Worker" "batch" "LStageDesk$EventRow;") (by decide +kernel)
  have k48 := hts (.fieldLink RX3 48 "StageDesk$Stage" "queue" "LStageDesk$EventRow;") (by decide +kernel)
  have k31 := hts (.fieldLink RX3 31 "StageDesk$Stage" "batchSize" "I") (by decide +kernel)
  have k40 := hts (.fieldLink RX3 40 "StageDesk$Stage" "cost" "I") (by decide +kernel)
  have k59 := hts (.fieldLink RX3 59 "StageDesk$EventRow" "size" "I") (by decide +kernel)
  have k93 := hts (.fieldLink RX3 93 "StageDesk$Worker" "rest" "I") (by decide +kernel)
  have inX6 : ∀ w ∈ u_ws RX6 TX6 5, w ∈ wsX3_startBatch := by decide +kernel
  have inX3 : ∀ w ∈ u_ws RX3 TX3 19, w ∈ wsX3_startBatch := by decide +kernel
  have inX1 : ∀ w ∈ u_ws RX1 TX1 4, w ∈ wsX3_startBatch := by decide +kernel
  have hl := lv_entry ([.ref (ad 3 pn0), .ref (ad 16 pn1)]) (n := 2) (Nat.le_of_ble_eq_true rfl)
  rw [lg_entry_eq]
  generalize (lg_sl ([.ref (ad 3 pn0), .ref (ad 16 pn1)]) ++ List.replicate (2 - (lg_sl ([.ref (ad 3 pn0), .ref (ad 16 pn1)])).length) Slot.unset).toArray = ls at hl ⊢
  have hl : lv_has ls 2 [(0, .ref (ad 3 pn0)), (1, .ref (ad 16 pn1))] := hl
  unfold fX3_startBatch at h
  refine lv_aload_n hx hb dX3_startBatch_0 rfl (lv_at hl 1 rfl) ?_
  refine mm_get (C := RX6) (T := TX6) (N := 5) (ci := 6) hx hb hts inX6 hown hK hM 16 pn1 hpn1 rfl rfl 0 (by decide) k86 (fun _ h9 => h9) rfl dX3_startBatch_1 ?_
  refine lv_aload_n hx hb dX3_startBatch_4 rfl (lv_at hl 0 rfl) ?_
  refine mm_get (C := RX3) (T := TX3) (N := 19) (ci := 3) hx hb hts inX3 hown hK hM 3 pn0 hpn0 rfl rfl 3 (by decide) k48 (fun _ h9 => h9) rfl dX3_startBatch_5 ?_
  refine lv_aload_n hx hb dX3_startBatch_8 rfl (lv_at hl 0 rfl) ?_
  refine mm_get (C := RX3) (T := TX3) (N := 19) (ci := 3) hx hb hts inX3 hown hK hM 3 pn0 hpn0 rfl rfl 15 (by decide) k31 (fun _ h9 => h9) rfl dX3_startBatch_9 ?_
  obtain ⟨u_1, hu_1, h⟩ := bindS h
  refine va_callv (va_runV (As := [.ref (ad 11 (32 + pn0)), .int (V0 3 pn0 15)]) (rest := []) ⟨hx, hb, hml, hown, hts⟩ (kX1_becomeFirstOf l hsh pn1 (32 + pn0) (V0 3 pn0 15) V0 c0 hu_1 (xe16_b hpn1) (xe3_q hpn0)) (cwV 2 hts gX3_startBatch_X1_becomeFirstOf rfl rfl rfl (by decide +kernel) ⟨Nat.le_of_ble_eq_true rfl, Nat.le_of_ble_eq_true rfl⟩) ⟨fun a U g9 mk w9 => ⟨w9.1, xM_calling w9.2⟩, mP_recv (q := (RX1, TX1, 4)) hK hM (xe16_b hpn1) rfl rfl, fun U hU hWm => ⟨rfl, xM_of hM hK hW hAs hS.1 hU hWm⟩⟩ rfl rfl hl.1 rfl (lv_room (Nat.le_of_ble_eq_true rfl)) dX3_startBatch_12 ⟨Nat.le_of_ble_eq_true rfl, Nat.le_of_ble_eq_true rfl⟩) hS (fun _ _ h9 => h9) (fun _ h9 => h9) (fun u9 t9 H locs ht9 _ hw9 hB9 _ _ hS => ?_)
  obtain ⟨hM, -, hW, -⟩ := hB9
  rw [ht9] at hM
  refine lv_aload_n hx hb dX3_startBatch_15 rfl (lv_at hl 1 rfl) ?_
  refine lv_aload_n hx hb dX3_startBatch_16 rfl (lv_at hl 0 rfl) ?_
  refine mm_get (C := RX3) (T := TX3) (N := 19) (ci := 3) hx hb hts inX3 hown hK hM 3 pn0 hpn0 rfl rfl 2 (by decide) k40 (fun _ h9 => h9) rfl dX3_startBatch_17 ?_
  refine lv_aload_n hx hb dX3_startBatch_20 rfl (lv_at hl 1 rfl) ?_
  refine mm_get (C := RX6) (T := TX6) (N := 5) (ci := 6) hx hb hts inX6 hown hK hM 16 pn1 hpn1 rfl rfl 0 (by decide) k86 (fun _ h9 => h9) rfl dX3_startBatch_21 ?_
  refine mm_get (C := RX1) (T := TX1) (N := 4) (ci := 1) hx hb hts inX1 hown hK hM 11 pn1 (xe16_b hpn1) rfl rfl 3 (by decide) k59 (fun _ h9 => h9) rfl dX3_startBatch_24 ?_
  refine lv_imul hx hb dX3_startBatch_27 ?_
  refine mm_put (C := RX6) (T := TX6) (N := 5) (ci := 6) (ty := .int) hx hb hts inX6 tyX6 tyX6_ok nmX6 hown hK hM hS 16 pn1 hpn1 rfl rfl 2 (by decide) k93 (fun _ h9 => h9) rfl (by decide +kernel) rfl rfl (Nat.le_of_ble_eq_true rfl) ((u_1 3 pn0 2) * (u_1 11 pn1 3)) rfl dX3_startBatch_28 (fun H locs hM hS => ?_)
  have hW := xW_mu (k := 16) (n := pn1) (t := 2) (x := ((u_1 3 pn0 2) * (u_1 11 pn1 3))) hW (fun h9 => Bool.noConfusion (show false = true from h9))
  have e9 : (mu u_1 16 pn1 2 ((u_1 3 pn0 2) * (u_1 11 pn1 3))) = res := Option.some.inj h
  subst e9
  exact W.vret hx hb hr (fun t9 ht9 hW9 => ⟨⟨(), rfl, trivial, xM_of hM hK hW hAs hS.1 ht9 hW9⟩, hS.F ht9⟩) hS.2.2 dX3_startBatch_31
/-! X3_collectSum -/
def lpX3_collectSum_4 (L : Nat → Nat → Nat)  : Nat → Nat → Nat → Int32 → Int32 → mM → Nat × Nat → Option (mM)
  | 0, _, _, _, _, _, _ => none
  | n9 + 1, n0, n1, x2, x3, V, c0 => if (V 11 n1 3) ≤ x3 then (if bin (0 : Int32) (L 11 n1) = true then ((fX2_append L n1 (V 3 n0 6) x2 (V 14 n1 ((0 : Int32)).toNatClampNeg) V c0).bind fun u_4 => some u_4) else none) else (if bin x3 (L 11 n1) = true then (lpX3_collectSum_4 L n9 n0 n1 (x2 + (V 13 n1 (x3).toNatClampNeg)) (x3 + 1) V c0) else none)
def fX3_collectSum (L : Nat → Nat → Nat) (pn0 : Nat) (pn1 : Nat) (V0 : mM) (c0 : Nat × Nat) : Option (mM) := lpX3_collectSum_4 L fu pn0 pn1 (0 : Int32) (0 : Int32) V0 c0
set_option maxHeartbeats 4000000 in
set_option maxRecDepth 100000 in
theorem kX3_collectSum (l : Launch) {dC : Nat → ClassId} {dI : Nat → Nat → Nat} {A : Nat → Prop} {ad : Nat → Nat → Nat} {cnt : Nat} {L : Nat → Nat → Nat} {cI cS cW : ClassId} {q : Nat × Nat} (hsh : xSh cnt L) (pn0 : Nat) (pn1 : Nat) (V0 : mM) (c0 : Nat × Nat) {res : mM} (h : fX3_collectSum L pn0 pn1 V0 c0 = some res) (hpn0 : xex cnt L 3 pn0) (hpn1 : xex cnt L 16 pn1) : Met l yX3_collectSum wsX3_collectSum ({ frames := 1, cells := 0, slots := 0, locals := 23 } : Room) (va_Pc [.ref (ad 3 pn0), .ref (ad 16 pn1)] (fun U => xM dC dI A ad cnt L cI cS cW q V0 c0 U)) (va_Qv (fun (_ : Unit) => True) (fun _ t9 => xM dC dI A ad cnt L cI cS cW q res c0 t9) A) 0 0 A := by
  refine Met.ofW (cc := cX3_collectSum) (maxL := 4) (ret := none) (by decide) rfl ?_
  intro p e s m args below meth cd s₁ B hml hv
  obtain ⟨rfl, hM, hK, hW, hAs⟩ := hv
  have hx := B.exec
  have hb := B.bytes
  have hr := B.returns
  have hts := atoms_spec (ws := wsX3_collectSum) B.pre
  have hown : s.vm.findClass RX3 = some m.cls := findClass_of_methodNamed B.named
  have hlocks := B.notSynchronized
  have hS : va_S A s.heap s.heap [] := va_S.rf
  have k86 := hts (.fieldLink RX3 86 "StageDesk$Worker" "batch" "LStageDesk$EventRow;") (by decide +kernel)
  have k59 := hts (.fieldLink RX3 59 "StageDesk$EventRow" "size" "I") (by decide +kernel)
  have k107 := hts (.fieldLink RX3 107 "StageDesk$Worker" "gifts" "LStageDesk$Gifts;") (by decide +kernel)
  have k115 := hts (.fieldLink RX3 115 "StageDesk$Stage" "first" "LStageDesk$Stage;") (by decide +kernel)
  have k104 := hts (.fieldLink RX3 104 "StageDesk$EventRow" "births" "[I") (by decide +kernel)
  have k100 := hts (.fieldLink RX3 100 "StageDesk$EventRow" "values" "[I") (by decide +kernel)
  have inX6 : ∀ w ∈ u_ws RX6 TX6 5, w ∈ wsX3_collectSum := by decide +kernel
  have inX1 : ∀ w ∈ u_ws RX1 TX1 4, w ∈ wsX3_collectSum := by decide +kernel
  have inX3 : ∀ w ∈ u_ws RX3 TX3 19, w ∈ wsX3_collectSum := by decide +kernel
  have hb4 : ∀ (n9 : Nat), ∀ (n0 : Nat) (n1 : Nat) (x2 : Int32) (x3 : Int32) (V : mM), lpX3_collectSum_4 L n9 n0 n1 x2 x3 V c0 = some res → ∀ (H : Heap) (locs : List Loc), xex cnt L 3 n0 → xex cnt L 16 n1 → mP (dC, dI) vwCl A (xad ad q) (xce cI cS cW ad q L c0) (xex cnt L) V H → xW cnt V → va_S A s.heap H locs → ∀ (ls : Array Slot), lv_has ls 4 [(0, .ref (ad 3 n0)), (1, .ref (ad 16 n1)), (2, .int x2), (3, .int x3)] → W p l e (headSpec wsX3_collectSum ({ frames := 1, cells := 0, slots := 0, locals := 23 } : Room)).room s m ([.ref (ad 3 pn0), .ref (ad 16 pn1)] : List Value).toArray below meth cd H locs 0 0 (MQ below (va_Qv (fun (_ : Unit) => True) (fun _ t9 => xM dC dI A ad cnt L cI cS cW q res c0 t9) A) ([.ref (ad 3 pn0), .ref (ad 16 pn1)] : List Value).toArray s 0 0 A) (F0 m 4 ls []) := by
    intro  n9
    induction n9 with
    | zero =>
      intro n0 n1 x2 x3 V h H locs hn0 hn1 hM hW hS ls hl
      rw [lpX3_collectSum_4] at h
      cases h
    | succ n9 ih =>
      intro n0 n1 x2 x3 V h H locs hn0 hn1 hM hW hS ls hl
      rw [lpX3_collectSum_4] at h
      refine lv_iload_n hx hb dX3_collectSum_4 rfl (lv_at hl 3 rfl) ?_
      refine lv_aload_n hx hb dX3_collectSum_5 rfl (lv_at hl 1 rfl) ?_
      refine mm_get (C := RX6) (T := TX6) (N := 5) (ci := 6) hx hb hts inX6 hown hK hM 16 n1 hn1 rfl rfl 0 (by decide) k86 (fun _ h9 => h9) rfl dX3_collectSum_6 ?_
      refine mm_get (C := RX1) (T := TX1) (N := 4) (ci := 1) hx hb hts inX1 hown hK hM 11 n1 (xe16_b hn1) rfl rfl 3 (by decide) k59 (fun _ h9 => h9) rfl dX3_collectSum_9 ?_
      refine lv_icmp_ge (tgt := 33) hx hb dX3_collectSum_12 (by decide) (fun c_1 => ?_) (fun c_1 => ?_)
      · have h := iteT c_1 h
        refine lv_aload_n hx hb dX3_collectSum_33 rfl (lv_at hl 1 rfl) ?_
        refine mm_get (C := RX6) (T := TX6) (N := 5) (ci := 6) hx hb hts inX6 hown hK hM 16 n1 hn1 rfl rfl 1 (by decide) k107 (fun _ h9 => h9) rfl dX3_collectSum_34 ?_
        refine lv_aload_n hx hb dX3_collectSum_37 rfl (lv_at hl 0 rfl) ?_
        refine mm_get (C := RX3) (T := TX3) (N := 19) (ci := 3) hx hb hts inX3 hown hK hM 3 n0 hn0 rfl rfl 6 (by decide) k115 (fun _ h9 => h9) rfl dX3_collectSum_38 ?_
        have ok_2 : okS cnt (V 3 n0 6) := hW 3 n0 6 rfl
        refine lv_iload_n hx hb dX3_collectSum_41 rfl (lv_at hl 2 rfl) ?_
        refine lv_aload_n hx hb dX3_collectSum_42 rfl (lv_at hl 1 rfl) ?_
        refine mm_get (C := RX6) (T := TX6) (N := 5) (ci := 6) hx hb hts inX6 hown hK hM 16 n1 hn1 rfl rfl 0 (by decide) k86 (fun _ h9 => h9) rfl dX3_collectSum_43 ?_
        refine mm_get (C := RX1) (T := TX1) (N := 4) (ci := 1) hx hb hts inX1 hown hK hM 11 n1 (xe16_b hn1) rfl rfl 2 (by decide) k104 (fun _ h9 => h9) rfl dX3_collectSum_46 ?_
        refine lv_iconst (v := 0) hx hb dX3_collectSum_49 (by decide) ?_
        obtain ⟨b_3, h⟩ := iteS h
        refine mm_iald hx hb hK hM 14 n1 (xe11_b (xe16_b hn1)) 0 rfl rfl (bin_in b_3) dX3_collectSum_50 ?_
        obtain ⟨u_4, hu_4, h⟩ := bindS h
        refine va_callv (va_runV (As := [va_rf (rO ad (V 3 n0 6)), .int x2, .int (V 14 n1 ((0 : Int32)).toNatClampNeg)]) (rest := []) ⟨hx, hb, hml, hown, hts⟩ (kX2_append l hsh n1 (V 3 n0 6) x2 (V 14 n1 ((0 : Int32)).toNatClampNeg) V c0 hu_4 (xe16_g hn1) ok_2) (cwV 3 hts gX3_collectSum_X2_append rfl rfl rfl (by decide +kernel) ⟨Nat.le_of_ble_eq_true rfl, Nat.le_of_ble_eq_true rfl⟩) ⟨fun a U g9 mk w9 => ⟨w9.1, xM_calling w9.2⟩, mP_recv (q := (RX2, TX2, 6)) hK hM (xe16_g hn1) rfl rfl, fun U hU hWm => ⟨rfl, xM_of hM hK hW hAs hS.1 hU hWm⟩⟩ rfl rfl hl.1 rfl (lv_room (Nat.le_of_ble_eq_true rfl)) dX3_collectSum_51 ⟨Nat.le_of_ble_eq_true rfl, Nat.le_of_ble_eq_true rfl⟩) hS (fun _ _ h9 => h9) (fun _ h9 => h9) (fun u9 t9 H locs ht9 _ hw9 hB9 _ _ hS => ?_)
        obtain ⟨hM, -, hW, -⟩ := hB9
        rw [ht9] at hM
        have e9 : u_4 = res := Option.some.inj h
        subst e9
        exact W.vret hx hb hr (fun t9 ht9 hW9 => ⟨⟨(), rfl, trivial, xM_of hM hK hW hAs hS.1 ht9 hW9⟩, hS.F ht9⟩) hS.2.2 dX3_collectSum_54
      · have h := iteF c_1 h
        refine lv_iload_n hx hb dX3_collectSum_15 rfl (lv_at hl 2 rfl) ?_
        refine lv_aload_n hx hb dX3_collectSum_16 rfl (lv_at hl 1 rfl) ?_
        refine mm_get (C := RX6) (T := TX6) (N := 5) (ci := 6) hx hb hts inX6 hown hK hM 16 n1 hn1 rfl rfl 0 (by decide) k86 (fun _ h9 => h9) rfl dX3_collectSum_17 ?_
        refine mm_get (C := RX1) (T := TX1) (N := 4) (ci := 1) hx hb hts inX1 hown hK hM 11 n1 (xe16_b hn1) rfl rfl 1 (by decide) k100 (fun _ h9 => h9) rfl dX3_collectSum_20 ?_
        refine lv_iload_n hx hb dX3_collectSum_23 rfl (lv_at hl 3 rfl) ?_
        obtain ⟨b_5, h⟩ := iteS h
        refine mm_iald hx hb hK hM 13 n1 (xe11_v (xe16_b hn1)) 0 rfl rfl (bin_in b_5) dX3_collectSum_24 ?_
        refine lv_iadd hx hb dX3_collectSum_25 ?_
        refine lv_istore_n (lv' := [(2, .int (x2 + (V 13 n1 (x3).toNatClampNeg))), (0, .ref (ad 3 n0)), (1, .ref (ad 16 n1)), (3, .int x3)]) hx hb dX3_collectSum_26 rfl hl (by decide) rfl (fun ls hl => ?_)
        refine lv_iinc (v := (x3 + 1)) (lv' := [(3, .int (x3 + 1)), (2, .int (x2 + (V 13 n1 (x3).toNatClampNeg))), (0, .ref (ad 3 n0)), (1, .ref (ad 16 n1))]) hx hb dX3_collectSum_27 hl (k := 3) rfl rfl (by decide) rfl (fun ls hl => ?_)
        refine lv_goto (tgt := 4) hx hb dX3_collectSum_30 (by decide) ?_
        exact ih _ _ _ _ _ h _ _ hn0 hn1 hM hW hS ls (lv_sub hl [2, 3, 1, 0] rfl)
  have hl := lv_entry ([.ref (ad 3 pn0), .ref (ad 16 pn1)]) (n := 4) (Nat.le_of_ble_eq_true rfl)
  rw [lg_entry_eq]
  generalize (lg_sl ([.ref (ad 3 pn0), .ref (ad 16 pn1)]) ++ List.replicate (4 - (lg_sl ([.ref (ad 3 pn0), .ref (ad 16 pn1)])).length) Slot.unset).toArray = ls at hl ⊢
  have hl : lv_has ls 4 [(0, .ref (ad 3 pn0)), (1, .ref (ad 16 pn1))] := hl
  unfold fX3_collectSum at h
  refine lv_iconst (v := 0) hx hb dX3_collectSum_0 (by decide) ?_
  refine lv_istore_n (lv' := [(2, .int (0 : Int32)), (0, .ref (ad 3 pn0)), (1, .ref (ad 16 pn1))]) hx hb dX3_collectSum_1 rfl hl (by decide) rfl (fun ls hl => ?_)
  refine lv_iconst (v := 0) hx hb dX3_collectSum_2 (by decide) ?_
  refine lv_istore_n (lv' := [(3, .int (0 : Int32)), (2, .int (0 : Int32)), (0, .ref (ad 3 pn0)), (1, .ref (ad 16 pn1))]) hx hb dX3_collectSum_3 rfl hl (by decide) rfl (fun ls hl => ?_)
  exact hb4 fu _ _ _ _ _ h _ _ hpn0 hpn1 hM hW hS ls (lv_sub hl [2, 3, 1, 0] rfl)
/-! X3_collectFrom -/
def jnX3_collectFrom_86 (L : Nat → Nat → Nat)  (x1 : Int32) (x2 : Int32) (ns0 : Nat) (es1 : Int32) (V : mM) (c0 : Nat × Nat) : Option (mM) := (fX2_append L ns0 es1 x1 x2 V c0).bind fun u_1 => some u_1
def fX3_collectFrom (L : Nat → Nat → Nat) (pn0 : Nat) (px1 : Int32) (px2 : Int32) (pn3 : Nat) (V0 : mM) (c0 : Nat × Nat) : Option (mM) := if (V0 3 pn0 0) = 0 then ((fX2_append L pn3 (V0 3 pn0 6) px1 px2 V0 c0).bind fun u_4 => some u_4) else if (V0 3 pn0 0) = 1 then ((fX2_append L pn3 (V0 3 pn0 6) px1 px2 V0 c0).bind fun u_7 => (fX2_append L pn3 (u_7 3 pn0 7) px1 px2 u_7 c0).bind fun u_9 => some u_9) else if (V0 3 pn0 0) = 2 then (if (px1 &&& (1 : Int32)) = 0 then (jnX3_collectFrom_86 L px1 px2 pn3 (V0 3 pn0 6) V0 c0) else (jnX3_collectFrom_86 L px1 px2 pn3 (V0 3 pn0 7) V0 c0)) else (some V0)
set_option maxHeartbeats 4000000 in
set_option maxRecDepth 100000 in
theorem kX3_collectFrom (l : Launch) {dC : Nat → ClassId} {dI : Nat → Nat → Nat} {A : Nat → Prop} {ad : Nat → Nat → Nat} {cnt : Nat} {L : Nat → Nat → Nat} {cI cS cW : ClassId} {q : Nat × Nat} (hsh : xSh cnt L) (pn0 : Nat) (px1 : Int32) (px2 : Int32) (pn3 : Nat) (V0 : mM) (c0 : Nat × Nat) {res : mM} (h : fX3_collectFrom L pn0 px1 px2 pn3 V0 c0 = some res) (hpn0 : xex cnt L 3 pn0) (hpn3 : xex cnt L 17 pn3) : Met l yX3_collectFrom wsX3_collectFrom ({ frames := 1, cells := 0, slots := 0, locals := 23 } : Room) (va_Pc [.ref (ad 3 pn0), .int px1, .int px2, .ref (ad 17 pn3)] (fun U => xM dC dI A ad cnt L cI cS cW q V0 c0 U)) (va_Qv (fun (_ : Unit) => True) (fun _ t9 => xM dC dI A ad cnt L cI cS cW q res c0 t9) A) 0 0 A := by
  refine Met.ofW (cc := cX3_collectFrom) (maxL := 4) (ret := none) (by decide) rfl ?_
  intro p e s m args below meth cd s₁ B hml hv
  obtain ⟨rfl, hM, hK, hW, hAs⟩ := hv
  have hx := B.exec
  have hb := B.bytes
  have hr := B.returns
  have hts := atoms_spec (ws := wsX3_collectFrom) B.pre
  have hown : s.vm.findClass RX3 = some m.cls := findClass_of_methodNamed B.named
  have hlocks := B.notSynchronized
  have hS : va_S A s.heap s.heap [] := va_S.rf
  have k34 := hts (.fieldLink RX3 34 "StageDesk$Stage" "sort" "I") (by decide +kernel)
  have k115 := hts (.fieldLink RX3 115 "StageDesk$Stage" "first" "LStageDesk$Stage;") (by decide +kernel)
  have k124 := hts (.fieldLink RX3 124 "StageDesk$Stage" "second" "LStageDesk$Stage;") (by decide +kernel)
  have inX3 : ∀ w ∈ u_ws RX3 TX3 19, w ∈ wsX3_collectFrom := by decide +kernel
  have hb86 : ∀ (x1 : Int32) (x2 : Int32) (ns0 : Nat) (es1 : Int32) (V : mM), jnX3_collectFrom_86 L x1 x2 ns0 es1 V c0 = some res → ∀ (H : Heap) (locs : List Loc), xex cnt L 17 ns0 → okS cnt es1 → mP (dC, dI) vwCl A (xad ad q) (xce cI cS cW ad q L c0) (xex cnt L) V H → xW cnt V → va_S A s.heap H locs → ∀ (ls : Array Slot), lv_has ls 4 [(1, .int x1), (2, .int x2)] → W p l e (headSpec wsX3_collectFrom ({ frames := 1, cells := 0, slots := 0, locals := 23 } : Room)).room s m ([.ref (ad 3 pn0), .int px1, .int px2, .ref (ad 17 pn3)] : List Value).toArray below meth cd H locs 0 0 (MQ below (va_Qv (fun (_ : Unit) => True) (fun _ t9 => xM dC dI A ad cnt L cI cS cW q res c0 t9) A) ([.ref (ad 3 pn0), .int px1, .int px2, .ref (ad 17 pn3)] : List Value).toArray s 0 0 A) (F0 m 86 ls [va_rf (rO ad es1), .ref (ad 17 ns0)]) := by
    intro  x1 x2 ns0 es1 V h H locs hns0 okes1 hM hW hS ls hl
    unfold jnX3_collectFrom_86 at h
    refine lv_iload_n hx hb dX3_collectFrom_86 rfl (lv_at hl 0 rfl) ?_
    refine lv_iload_n hx hb dX3_collectFrom_87 rfl (lv_at hl 1 rfl) ?_
    obtain ⟨u_1, hu_1, h⟩ := bindS h
    refine va_callv (va_runV (As := [va_rf (rO ad es1), .int x1, .int x2]) (rest := []) ⟨hx, hb, hml, hown, hts⟩ (kX2_append l hsh ns0 es1 x1 x2 V c0 hu_1 hns0 okes1) (cwV 3 hts gX3_collectFrom_X2_append rfl rfl rfl (by decide +kernel) ⟨Nat.le_of_ble_eq_true rfl, Nat.le_of_ble_eq_true rfl⟩) ⟨fun a U g9 mk w9 => ⟨w9.1, xM_calling w9.2⟩, mP_recv (q := (RX2, TX2, 6)) hK hM hns0 rfl rfl, fun U hU hWm => ⟨rfl, xM_of hM hK hW hAs hS.1 hU hWm⟩⟩ rfl rfl hl.1 rfl (lv_room (Nat.le_of_ble_eq_true rfl)) dX3_collectFrom_88 ⟨Nat.le_of_ble_eq_true rfl, Nat.le_of_ble_eq_true rfl⟩) hS (fun _ _ h9 => h9) (fun _ h9 => h9) (fun u9 t9 H locs ht9 _ hw9 hB9 _ _ hS => ?_)
    obtain ⟨hM, -, hW, -⟩ := hB9
    rw [ht9] at hM
    refine lv_goto (tgt := 94) hx hb dX3_collectFrom_91 (by decide) ?_
    have e9 : u_1 = res := Option.some.inj h
    subst e9
    exact W.vret hx hb hr (fun t9 ht9 hW9 => ⟨⟨(), rfl, trivial, xM_of hM hK hW hAs hS.1 ht9 hW9⟩, hS.F ht9⟩) hS.2.2 dX3_collectFrom_94
  have hl := lv_entry ([.ref (ad 3 pn0), .int px1, .int px2, .ref (ad 17 pn3)]) (n := 4) (Nat.le_of_ble_eq_true rfl)
  rw [lg_entry_eq]
  generalize (lg_sl ([.ref (ad 3 pn0), .int px1, .int px2, .ref (ad 17 pn3)]) ++ List.replicate (4 - (lg_sl ([.ref (ad 3 pn0), .int px1, .int px2, .ref (ad 17 pn3)])).length) Slot.unset).toArray = ls at hl ⊢
  have hl : lv_has ls 4 [(0, .ref (ad 3 pn0)), (1, .int px1), (2, .int px2), (3, .ref (ad 17 pn3))] := hl
  unfold fX3_collectFrom at h
  refine lv_aload_n hx hb dX3_collectFrom_0 rfl (lv_at hl 0 rfl) ?_
  refine mm_get (C := RX3) (T := TX3) (N := 19) (ci := 3) hx hb hts inX3 hown hK hM 3 pn0 hpn0 rfl rfl 0 (by decide) k34 (fun _ h9 => h9) rfl dX3_collectFrom_1 ?_
  by_cases w_2 : (V0 3 pn0 0) = 0
  · have h := iteT w_2 h
    refine lv_tableIn (off := 28) (tgt := 32) hx hb dX3_collectFrom_4 (by rw [w_2]; decide) (by rw [w_2]; decide) (by rw [w_2]; decide) (by decide) ?_
    refine lv_aload_n hx hb dX3_collectFrom_32 rfl (lv_at hl 3 rfl) ?_
    refine lv_aload_n hx hb dX3_collectFrom_33 rfl (lv_at hl 0 rfl) ?_
    refine mm_get (C := RX3) (T := TX3) (N := 19) (ci := 3) hx hb hts inX3 hown hK hM 3 pn0 hpn0 rfl rfl 6 (by decide) k115 (fun _ h9 => h9) rfl dX3_collectFrom_34 ?_
    have ok_3 : okS cnt (V0 3 pn0 6) := hW 3 pn0 6 rfl
    refine lv_iload_n hx hb dX3_collectFrom_37 rfl (lv_at hl 1 rfl) ?_
    refine lv_iload_n hx hb dX3_collectFrom_38 rfl (lv_at hl 2 rfl) ?_
    obtain ⟨u_4, hu_4, h⟩ := bindS h
    refine va_callv (va_runV (As := [va_rf (rO ad (V0 3 pn0 6)), .int px1, .int px2]) (rest := []) ⟨hx, hb, hml, hown, hts⟩ (kX2_append l hsh pn3 (V0 3 pn0 6) px1 px2 V0 c0 hu_4 hpn3 ok_3) (cwV 3 hts gX3_collectFrom_X2_append rfl rfl rfl (by decide +kernel) ⟨Nat.le_of_ble_eq_true rfl, Nat.le_of_ble_eq_true rfl⟩) ⟨fun a U g9 mk w9 => ⟨w9.1, xM_calling w9.2⟩, mP_recv (q := (RX2, TX2, 6)) hK hM hpn3 rfl rfl, fun U hU hWm => ⟨rfl, xM_of hM hK hW hAs hS.1 hU hWm⟩⟩ rfl rfl hl.1 rfl (lv_room (Nat.le_of_ble_eq_true rfl)) dX3_collectFrom_39 ⟨Nat.le_of_ble_eq_true rfl, Nat.le_of_ble_eq_true rfl⟩) hS (fun _ _ h9 => h9) (fun _ h9 => h9) (fun u9 t9 H locs ht9 _ hw9 hB9 _ _ hS => ?_)
    obtain ⟨hM, -, hW, -⟩ := hB9
    rw [ht9] at hM
    refine lv_goto (tgt := 94) hx hb dX3_collectFrom_42 (by decide) ?_
    have e9 : u_4 = res := Option.some.inj h
    subst e9
    exact W.vret hx hb hr (fun t9 ht9 hW9 => ⟨⟨(), rfl, trivial, xM_of hM hK hW hAs hS.1 ht9 hW9⟩, hS.F ht9⟩) hS.2.2 dX3_collectFrom_94
  have h := iteF w_2 h
  by_cases w_5 : (V0 3 pn0 0) = 1
  · have h := iteT w_5 h
    refine lv_tableIn (off := 41) (tgt := 45) hx hb dX3_collectFrom_4 (by rw [w_5]; decide) (by rw [w_5]; decide) (by rw [w_5]; decide) (by decide) ?_
    refine lv_aload_n hx hb dX3_collectFrom_45 rfl (lv_at hl 3 rfl) ?_
    refine lv_aload_n hx hb dX3_collectFrom_46 rfl (lv_at hl 0 rfl) ?_
    refine mm_get (C := RX3) (T := TX3) (N := 19) (ci := 3) hx hb hts inX3 hown hK hM 3 pn0 hpn0 rfl rfl 6 (by decide) k115 (fun _ h9 => h9) rfl dX3_collectFrom_47 ?_
    have ok_6 : okS cnt (V0 3 pn0 6) := hW 3 pn0 6 rfl
    refine lv_iload_n hx hb dX3_collectFrom_50 rfl (lv_at hl 1 rfl) ?_
    refine lv_iload_n hx hb dX3_collectFrom_51 rfl (lv_at hl 2 rfl) ?_
    obtain ⟨u_7, hu_7, h⟩ := bindS h
    refine va_callv (va_runV (As := [va_rf (rO ad (V0 3 pn0 6)), .int px1, .int px2]) (rest := []) ⟨hx, hb, hml, hown, hts⟩ (kX2_append l hsh pn3 (V0 3 pn0 6) px1 px2 V0 c0 hu_7 hpn3 ok_6) (cwV 3 hts gX3_collectFrom_X2_append rfl rfl rfl (by decide +kernel) ⟨Nat.le_of_ble_eq_true rfl, Nat.le_of_ble_eq_true rfl⟩) ⟨fun a U g9 mk w9 => ⟨w9.1, xM_calling w9.2⟩, mP_recv (q := (RX2, TX2, 6)) hK hM hpn3 rfl rfl, fun U hU hWm => ⟨rfl, xM_of hM hK hW hAs hS.1 hU hWm⟩⟩ rfl rfl hl.1 rfl (lv_room (Nat.le_of_ble_eq_true rfl)) dX3_collectFrom_52 ⟨Nat.le_of_ble_eq_true rfl, Nat.le_of_ble_eq_true rfl⟩) hS (fun _ _ h9 => h9) (fun _ h9 => h9) (fun u9 t9 H locs ht9 _ hw9 hB9 _ _ hS => ?_)
    obtain ⟨hM, -, hW, -⟩ := hB9
    rw [ht9] at hM
    refine lv_aload_n hx hb dX3_collectFrom_55 rfl (lv_at hl 3 rfl) ?_
    refine lv_aload_n hx hb dX3_collectFrom_56 rfl (lv_at hl 0 rfl) ?_
    refine mm_get (C := RX3) (T := TX3) (N := 19) (ci := 3) hx hb hts inX3 hown hK hM 3 pn0 hpn0 rfl rfl 7 (by decide) k124 (fun _ h9 => h9) rfl dX3_collectFrom_57 ?_
    have ok_8 : okS cnt (u_7 3 pn0 7) := hW 3 pn0 7 rfl
    refine lv_iload_n hx hb dX3_collectFrom_60 rfl (lv_at hl 1 rfl) ?_
    refine lv_iload_n hx hb dX3_collectFrom_61 rfl (lv_at hl 2 rfl) ?_
    obtain ⟨u_9, hu_9, h⟩ := bindS h
    refine va_callv (va_runV (As := [va_rf (rO ad (u_7 3 pn0 7)), .int px1, .int px2]) (rest := []) ⟨hx, hb, hml, hown, hts⟩ (kX2_append l hsh pn3 (u_7 3 pn0 7) px1 px2 u_7 c0 hu_9 hpn3 ok_8) (cwV 3 hts gX3_collectFrom_X2_append rfl rfl rfl (by decide +kernel) ⟨Nat.le_of_ble_eq_true rfl, Nat.le_of_ble_eq_true rfl⟩) ⟨fun a U g9 mk w9 => ⟨w9.1, xM_calling w9.2⟩, mP_recv (q := (RX2, TX2, 6)) hK hM hpn3 rfl rfl, fun U hU hWm => ⟨rfl, xM_of hM hK hW hAs hS.1 hU hWm⟩⟩ rfl rfl hl.1 rfl (lv_room (Nat.le_of_ble_eq_true rfl)) dX3_collectFrom_62 ⟨Nat.le_of_ble_eq_true rfl, Nat.le_of_ble_eq_true rfl⟩) hS (fun _ _ h9 => h9) (fun _ h9 => h9) (fun u9 t9 H locs ht9 _ hw9 hB9 _ _ hS => ?_)
    obtain ⟨hM, -, hW, -⟩ := hB9
    rw [ht9] at hM
    refine lv_goto (tgt := 94) hx hb dX3_collectFrom_65 (by decide) ?_
    have e9 : u_9 = res := Option.some.inj h
    subst e9
    exact W.vret hx hb hr (fun t9 ht9 hW9 => ⟨⟨(), rfl, trivial, xM_of hM hK hW hAs hS.1 ht9 hW9⟩, hS.F ht9⟩) hS.2.2 dX3_collectFrom_94
  have h := iteF w_5 h
  by_cases w_10 : (V0 3 pn0 0) = 2
  · have h := iteT w_10 h
    refine lv_tableIn (off := 64) (tgt := 68) hx hb dX3_collectFrom_4 (by rw [w_10]; decide) (by rw [w_10]; decide) (by rw [w_10]; decide) (by decide) ?_
    refine lv_aload_n hx hb dX3_collectFrom_68 rfl (lv_at hl 3 rfl) ?_
    refine lv_iload_n hx hb dX3_collectFrom_69 rfl (lv_at hl 1 rfl) ?_
    refine lv_iconst (v := 1) hx hb dX3_collectFrom_70 (by decide) ?_
    refine lv_iand hx hb dX3_collectFrom_71 ?_
    refine lv_if_ne (tgt := 82) hx hb dX3_collectFrom_72 (by decide) (fun c_11 => ?_) (fun c_11 => ?_)
    · have h := iteF c_11 h
      refine lv_aload_n hx hb dX3_collectFrom_82 rfl (lv_at hl 0 rfl) ?_
      refine mm_get (C := RX3) (T := TX3) (N := 19) (ci := 3) hx hb hts inX3 hown hK hM 3 pn0 hpn0 rfl rfl 7 (by decide) k124 (fun _ h9 => h9) rfl dX3_collectFrom_83 ?_
      have ok_12 : okS cnt (V0 3 pn0 7) := hW 3 pn0 7 rfl
      exact hb86 _ _ _ _ _ h _ _ hpn3 ok_12 hM hW hS ls (lv_sub hl [1, 2] rfl)
    · have h := iteT c_11 h
      refine lv_aload_n hx hb dX3_collectFrom_75 rfl (lv_at hl 0 rfl) ?_
      refine mm_get (C := RX3) (T := TX3) (N := 19) (ci := 3) hx hb hts inX3 hown hK hM 3 pn0 hpn0 rfl rfl 6 (by decide) k115 (fun _ h9 => h9) rfl dX3_collectFrom_76 ?_
      have ok_13 : okS cnt (V0 3 pn0 6) := hW 3 pn0 6 rfl
      refine lv_goto (tgt := 86) hx hb dX3_collectFrom_79 (by decide) ?_
      exact hb86 _ _ _ _ _ h _ _ hpn3 ok_13 hM hW hS ls (lv_sub hl [1, 2] rfl)
  have h := iteF w_10 h
  refine lv_tableOut (tgt := 94) hx hb dX3_collectFrom_4 (sw_out2 w_2 w_5 w_10) (by decide) ?_
  have e9 : V0 = res := Option.some.inj h
  subst e9
  exact W.vret hx hb hr (fun t9 ht9 hW9 => ⟨⟨(), rfl, trivial, xM_of hM hK hW hAs hS.1 ht9 hW9⟩, hS.F ht9⟩) hS.2.2 dX3_collectFrom_94
/-! X3_collectGifts -/
def lpX3_collectGifts_16 (L : Nat → Nat → Nat)  : Nat → Nat → Nat → Int32 → mM → Nat × Nat → Option (mM)
  | 0, _, _, _, _, _ => none
  | n9 + 1, n0, n1, x2, V, c0 => if (V 11 n1 3) ≤ x2 then (some V) else (if bin x2 (L 11 n1) = true then (if bin x2 (L 11 n1) = true then ((fX3_collectFrom L n0 (V 13 n1 (x2).toNatClampNeg) (V 14 n1 (x2).toNatClampNeg) n1 V c0).bind fun u_4 => lpX3_collectGifts_16 L n9 n0 n1 (x2 + 1) u_4 c0) else none) else none)
def fX3_collectGifts (L : Nat → Nat → Nat) (pn0 : Nat) (pn1 : Nat) (V0 : mM) (c0 : Nat × Nat) : Option (mM) := if (V0 3 pn0 0) = (3 : Int32) then ((fX3_collectSum L pn0 pn1 V0 c0).bind fun u_6 => some u_6) else (lpX3_collectGifts_16 L fu pn0 pn1 (0 : Int32) V0 c0)
set_option maxHeartbeats 4000000 in
set_option maxRecDepth 100000 in
theorem kX3_collectGifts (l : Launch) {dC : Nat → ClassId} {dI : Nat → Nat → Nat} {A : Nat → Prop} {ad : Nat → Nat → Nat} {cnt : Nat} {L : Nat → Nat → Nat} {cI cS cW : ClassId} {q : Nat × Nat} (hsh : xSh cnt L) (pn0 : Nat) (pn1 : Nat) (V0 : mM) (c0 : Nat × Nat) {res : mM} (h : fX3_collectGifts L pn0 pn1 V0 c0 = some res) (hpn0 : xex cnt L 3 pn0) (hpn1 : xex cnt L 16 pn1) : Met l yX3_collectGifts wsX3_collectGifts ({ frames := 2, cells := 0, slots := 0, locals := 46 } : Room) (va_Pc [.ref (ad 3 pn0), .ref (ad 16 pn1)] (fun U => xM dC dI A ad cnt L cI cS cW q V0 c0 U)) (va_Qv (fun (_ : Unit) => True) (fun _ t9 => xM dC dI A ad cnt L cI cS cW q res c0 t9) A) 0 0 A := by
  refine Met.ofW (cc := cX3_collectGifts) (maxL := 3) (ret := none) (by decide) rfl ?_
  intro p e s m args below meth cd s₁ B hml hv
  obtain ⟨rfl, hM, hK, hW, hAs⟩ := hv
  have hx := B.exec
  have hb := B.bytes
  have hr := B.returns
  have hts := atoms_spec (ws := wsX3_collectGifts) B.pre
  have hown : s.vm.findClass RX3 = some m.cls := findClass_of_methodNamed B.named
  have hlocks := B.notSynchronized
  have hS : va_S A s.heap s.heap [] := va_S.rf
  have k86 := hts (.fieldLink RX3 86 "StageDesk$Worker" "batch" "LStageDesk$EventRow;") (by decide +kernel)
  have k59 := hts (.fieldLink RX3 59 "StageDesk$EventRow" "size" "I") (by decide +kernel)
  have k100 := hts (.fieldLink RX3 100 "StageDesk$EventRow" "values" "[I") (by decide +kernel)
  have k104 := hts (.fieldLink RX3 104 "StageDesk$EventRow" "births" "[I") (by decide +kernel)
  have k107 := hts (.fieldLink RX3 107 "StageDesk$Worker" "gifts" "LStageDesk$Gifts;") (by decide +kernel)
  have k34 := hts (.fieldLink RX3 34 "StageDesk$Stage" "sort" "I") (by decide +kernel)
  have inX6 : ∀ w ∈ u_ws RX6 TX6 5, w ∈ wsX3_collectGifts := by decide +kernel
  have inX1 : ∀ w ∈ u_ws RX1 TX1 4, w ∈ wsX3_collectGifts := by decide +kernel
  have inX3 : ∀ w ∈ u_ws RX3 TX3 19, w ∈ wsX3_collectGifts := by decide +kernel
  have hb16 : ∀ (n9 : Nat), ∀ (n0 : Nat) (n1 : Nat) (x2 : Int32) (V : mM), lpX3_collectGifts_16 L n9 n0 n1 x2 V c0 = some res → ∀ (H : Heap) (locs : List Loc), xex cnt L 3 n0 → xex cnt L 16 n1 → mP (dC, dI) vwCl A (xad ad q) (xce cI cS cW ad q L c0) (xex cnt L) V H → xW cnt V → va_S A s.heap H locs → ∀ (ls : Array Slot), lv_has ls 3 [(0, .ref (ad 3 n0)), (1, .ref (ad 16 n1)), (2, .int x2)] → W p l e (headSpec wsX3_collectGifts ({ frames := 2, cells := 0, slots := 0, locals := 46 } : Room)).room s m ([.ref (ad 3 pn0), .ref (ad 16 pn1)] : List Value).toArray below meth cd H locs 0 0 (MQ below (va_Qv (fun (_ : Unit) => True) (fun _ t9 => xM dC dI A ad cnt L cI cS cW q res c0 t9) A) ([.ref (ad 3 pn0), .ref (ad 16 pn1)] : List Value).toArray s 0 0 A) (F0 m 16 ls []) := by
    intro  n9
    induction n9 with
    | zero =>
      intro n0 n1 x2 V h H locs hn0 hn1 hM hW hS ls hl
      rw [lpX3_collectGifts_16] at h
      cases h
    | succ n9 ih =>
      intro n0 n1 x2 V h H locs hn0 hn1 hM hW hS ls hl
      rw [lpX3_collectGifts_16] at h
      refine lv_iload_n hx hb dX3_collectGifts_16 rfl (lv_at hl 2 rfl) ?_
      refine lv_aload_n hx hb dX3_collectGifts_17 rfl (lv_at hl 1 rfl) ?_
      refine mm_get (C := RX6) (T := TX6) (N := 5) (ci := 6) hx hb hts inX6 hown hK hM 16 n1 hn1 rfl rfl 0 (by decide) k86 (fun _ h9 => h9) rfl dX3_collectGifts_18 ?_
      refine mm_get (C := RX1) (T := TX1) (N := 4) (ci := 1) hx hb hts inX1 hown hK hM 11 n1 (xe16_b hn1) rfl rfl 3 (by decide) k59 (fun _ h9 => h9) rfl dX3_collectGifts_21 ?_
      refine lv_icmp_ge (tgt := 59) hx hb dX3_collectGifts_24 (by decide) (fun c_1 => ?_) (fun c_1 => ?_)
      · have h := iteT c_1 h
        have e9 : V = res := Option.some.inj h
        subst e9
        exact W.vret hx hb hr (fun t9 ht9 hW9 => ⟨⟨(), rfl, trivial, xM_of hM hK hW hAs hS.1 ht9 hW9⟩, hS.F ht9⟩) hS.2.2 dX3_collectGifts_59
      · have h := iteF c_1 h
        refine lv_aload_n hx hb dX3_collectGifts_27 rfl (lv_at hl 0 rfl) ?_
        refine lv_aload_n hx hb dX3_collectGifts_28 rfl (lv_at hl 1 rfl) ?_
        refine mm_get (C := RX6) (T := TX6) (N := 5) (ci := 6) hx hb hts inX6 hown hK hM 16 n1 hn1 rfl rfl 0 (by decide) k86 (fun _ h9 => h9) rfl dX3_collectGifts_29 ?_
        refine mm_get (C := RX1) (T := TX1) (N := 4) (ci := 1) hx hb hts inX1 hown hK hM 11 n1 (xe16_b hn1) rfl rfl 1 (by decide) k100 (fun _ h9 => h9) rfl dX3_collectGifts_32 ?_
        refine lv_iload_n hx hb dX3_collectGifts_35 rfl (lv_at hl 2 rfl) ?_
        obtain ⟨b_2, h⟩ := iteS h
        refine mm_iald hx hb hK hM 13 n1 (xe11_v (xe16_b hn1)) 0 rfl rfl (bin_in b_2) dX3_collectGifts_36 ?_
        refine lv_aload_n hx hb dX3_collectGifts_37 rfl (lv_at hl 1 rfl) ?_
        refine mm_get (C := RX6) (T := TX6) (N := 5) (ci := 6) hx hb hts inX6 hown hK hM 16 n1 hn1 rfl rfl 0 (by decide) k86 (fun _ h9 => h9) rfl dX3_collectGifts_38 ?_
        refine mm_get (C := RX1) (T := TX1) (N := 4) (ci := 1) hx hb hts inX1 hown hK hM 11 n1 (xe16_b hn1) rfl rfl 2 (by decide) k104 (fun _ h9 => h9) rfl dX3_collectGifts_41 ?_
        refine lv_iload_n hx hb dX3_collectGifts_44 rfl (lv_at hl 2 rfl) ?_
        obtain ⟨b_3, h⟩ := iteS h
        refine mm_iald hx hb hK hM 14 n1 (xe11_b (xe16_b hn1)) 0 rfl rfl (bin_in b_3) dX3_collectGifts_45 ?_
        refine lv_aload_n hx hb dX3_collectGifts_46 rfl (lv_at hl 1 rfl) ?_
        refine mm_get (C := RX6) (T := TX6) (N := 5) (ci := 6) hx hb hts inX6 hown hK hM 16 n1 hn1 rfl rfl 1 (by decide) k107 (fun _ h9 => h9) rfl dX3_collectGifts_47 ?_
        obtain ⟨u_4, hu_4, h⟩ := bindS h
        refine va_callv (va_runV (As := [.int (V 13 n1 (x2).toNatClampNeg), .int (V 14 n1 (x2).toNatClampNeg), .ref (ad 17 n1)]) (rest := []) ⟨hx, hb, hml, hown, hts⟩ (kX3_collectFrom l hsh n0 (V 13 n1 (x2).toNatClampNeg) (V 14 n1 (x2).toNatClampNeg) n1 V c0 hu_4 hn0 (xe16_g hn1)) (cwV 3 hts gX3_collectGifts_X3_collectFrom rfl rfl rfl (by decide +kernel) ⟨Nat.le_of_ble_eq_true rfl, Nat.le_of_ble_eq_true rfl⟩) ⟨fun a U g9 mk w9 => ⟨w9.1, xM_calling w9.2⟩, mP_recv (q := (RX3, TX3, 19)) hK hM hn0 rfl rfl, fun U hU hWm => ⟨rfl, xM_of hM hK hW hAs hS.1 hU hWm⟩⟩ rfl rfl hl.1 rfl (lv_room (Nat.le_of_ble_eq_true rfl)) dX3_collectGifts_50 ⟨Nat.le_of_ble_eq_true rfl, Nat.le_of_ble_eq_true rfl⟩) hS (fun _ _ h9 => h9) (fun _ h9 => h9) (fun u9 t9 H locs ht9 _ hw9 hB9 _ _ hS => ?_)
        obtain ⟨hM, -, hW, -⟩ := hB9
        rw [ht9] at hM
        refine lv_iinc (v := (x2 + 1)) (lv' := [(2, .int (x2 + 1)), (0, .ref (ad 3 n0)), (1, .ref (ad 16 n1))]) hx hb dX3_collectGifts_53 hl (k := 2) rfl rfl (by decide) rfl (fun ls hl => ?_)
        refine lv_goto (tgt := 16) hx hb dX3_collectGifts_56 (by decide) ?_
        exact ih _ _ _ _ h _ _ hn0 hn1 hM hW hS ls (lv_sub hl [1, 2, 0] rfl)
  have hl := lv_entry ([.ref (ad 3 pn0), .ref (ad 16 pn1)]) (n := 3) (Nat.le_of_ble_eq_true rfl)
  rw [lg_entry_eq]
  generalize (lg_sl ([.ref (ad 3 pn0), .ref (ad 16 pn1)]) ++ List.replicate (3 - (lg_sl ([.ref (ad 3 pn0), .ref (ad 16 pn1)])).length) Slot.unset).toArray = ls at hl ⊢
  have hl : lv_has ls 3 [(0, .ref (ad 3 pn0)), (1, .ref (ad 16 pn1))] := hl
  unfold fX3_collectGifts at h
  refine lv_aload_n hx hb dX3_collectGifts_0 rfl (lv_at hl 0 rfl) ?_
  refine mm_get (C := RX3) (T := TX3) (N := 19) (ci := 3) hx hb hts inX3 hown hK hM 3 pn0 hpn0 rfl rfl 0 (by decide) k34 (fun _ h9 => h9) rfl dX3_collectGifts_1 ?_
  refine lv_iconst (v := 3) hx hb dX3_collectGifts_4 (by decide) ?_
  refine lv_icmp_ne (tgt := 14) hx hb dX3_collectGifts_5 (by decide) (fun c_5 => ?_) (fun c_5 => ?_)
  · have h := iteF c_5 h
    refine lv_iconst (v := 0) hx hb dX3_collectGifts_14 (by decide) ?_
    refine lv_istore_n (lv' := [(2, .int (0 : Int32)), (0, .ref (ad 3 pn0)), (1, .ref (ad 16 pn1))]) hx hb dX3_collectGifts_15 rfl hl (by decide) rfl (fun ls hl => ?_)
    exact hb16 fu _ _ _ _ h _ _ hpn0 hpn1 hM hW hS ls (lv_sub hl [1, 2, 0] rfl)
  · have h := iteT c_5 h
    refine lv_aload_n hx hb dX3_collectGifts_8 rfl (lv_at hl 0 rfl) ?_
    refine lv_aload_n hx hb dX3_collectGifts_9 rfl (lv_at hl 1 rfl) ?_
    obtain ⟨u_6, hu_6, h⟩ := bindS h
    refine va_callv (va_runV (As := [.ref (ad 16 pn1)]) (rest := []) ⟨hx, hb, hml, hown, hts⟩ (kX3_collectSum l hsh pn0 pn1 V0 c0 hu_6 hpn0 hpn1) (cwV 1 hts gX3_collectGifts_X3_collectSum rfl rfl rfl (by decide +kernel) ⟨Nat.le_of_ble_eq_true rfl, Nat.le_of_ble_eq_true rfl⟩) ⟨fun a U g9 mk w9 => ⟨w9.1, xM_calling w9.2⟩, mP_recv (q := (RX3, TX3, 19)) hK hM hpn0 rfl rfl, fun U hU hWm => ⟨rfl, xM_of hM hK hW hAs hS.1 hU hWm⟩⟩ rfl rfl hl.1 rfl (lv_room (Nat.le_of_ble_eq_true rfl)) dX3_collectGifts_10 ⟨Nat.le_of_ble_eq_true rfl, Nat.le_of_ble_eq_true rfl⟩) hS (fun _ _ h9 => h9) (fun _ h9 => h9) (fun u9 t9 H locs ht9 _ hw9 hB9 _ _ hS => ?_)
    obtain ⟨hM, -, hW, -⟩ := hB9
    rw [ht9] at hM
    have e9 : u_6 = res := Option.some.inj h
    subst e9
    exact W.vret hx hb hr (fun t9 ht9 hW9 => ⟨⟨(), rfl, trivial, xM_of hM hK hW hAs hS.1 ht9 hW9⟩, hS.F ht9⟩) hS.2.2 dX3_collectGifts_13
/-! X3_isLongIdle -/
def fX3_isLongIdle (L : Nat → Nat → Nat) (pn0 : Nat) (pn1 : Nat) (V0 : mM) (c0 : Nat × Nat) : Option (Int32) := if (V0 11 pn1 3) = 0 then (if (V0 16 pn1 3) < (10 : Int32) then (some (0 : Int32)) else (some (1 : Int32))) else (some (0 : Int32))
set_option maxHeartbeats 4000000 in
set_option maxRecDepth 100000 in
theorem kX3_isLongIdle (l : Launch) {dC : Nat → ClassId} {dI : Nat → Nat → Nat} {A : Nat → Prop} {ad : Nat → Nat → Nat} {cnt : Nat} {L : Nat → Nat → Nat} {cI cS cW : ClassId} {q : Nat × Nat} (hsh : xSh cnt L) (pn0 : Nat) (pn1 : Nat) (V0 : mM) (c0 : Nat × Nat) {res : Int32} (h : fX3_isLongIdle L pn0 pn1 V0 c0 = some res) (hpn0 : xex cnt L 3 pn0) (hpn1 : xex cnt L 16 pn1) : Met l yX3_isLongIdle wsX3_isLongIdle ({ frames := 0, cells := 0, slots := 0, locals := 0 } : Room) (va_Pc [.ref (ad 3 pn0), .ref (ad 16 pn1)] (fun U => xM dC dI A ad cnt L cI cS cW q V0 c0 U)) (va_Qi (fun r9 (_ : Unit) => r9 = res) (fun _ t9 => xM dC dI A ad cnt L cI cS cW q V0 c0 t9) A) 0 0 A := by
  refine Met.ofW (cc := cX3_isLongIdle) (maxL := 2) (ret := (some .boolean)) (by decide) rfl ?_
  intro p e s m args below meth cd s₁ B hml hv
  obtain ⟨rfl, hM, hK, hW, hAs⟩ := hv
  have hx := B.exec
  have hb := B.bytes
  have hr := B.returns
  have hts := atoms_spec (ws := wsX3_isLongIdle) B.pre
  have hown : s.vm.findClass RX3 = some m.cls := findClass_of_methodNamed B.named
  have hlocks := B.notSynchronized
  have hS : va_S A s.heap s.heap [] := va_S.rf
  have k86 := hts (.fieldLink RX3 86 "StageDesk$Worker" "batch" "LStageDesk$EventRow;") (by decide +kernel)
  have k59 := hts (.fieldLink RX3 59 "StageDesk$EventRow" "size" "I") (by decide +kernel)
  have k140 := hts (.fieldLink RX3 140 "StageDesk$Worker" "idleTicks" "I") (by decide +kernel)
  have inX6 : ∀ w ∈ u_ws RX6 TX6 5, w ∈ wsX3_isLongIdle := by decide +kernel
  have inX1 : ∀ w ∈ u_ws RX1 TX1 4, w ∈ wsX3_isLongIdle := by decide +kernel
  have hl := lv_entry ([.ref (ad 3 pn0), .ref (ad 16 pn1)]) (n := 2) (Nat.le_of_ble_eq_true rfl)
  rw [lg_entry_eq]
  generalize (lg_sl ([.ref (ad 3 pn0), .ref (ad 16 pn1)]) ++ List.replicate (2 - (lg_sl ([.ref (ad 3 pn0), .ref (ad 16 pn1)])).length) Slot.unset).toArray = ls at hl ⊢
  have hl : lv_has ls 2 [(0, .ref (ad 3 pn0)), (1, .ref (ad 16 pn1))] := hl
  unfold fX3_isLongIdle at h
  refine lv_aload_n hx hb dX3_isLongIdle_0 rfl (lv_at hl 1 rfl) ?_
  refine mm_get (C := RX6) (T := TX6) (N := 5) (ci := 6) hx hb hts inX6 hown hK hM 16 pn1 hpn1 rfl rfl 0 (by decide) k86 (fun _ h9 => h9) rfl dX3_isLongIdle_1 ?_
  refine mm_get (C := RX1) (T := TX1) (N := 4) (ci := 1) hx hb hts inX1 hown hK hM 11 pn1 (xe16_b hpn1) rfl rfl 3 (by decide) k59 (fun _ h9 => h9) rfl dX3_isLongIdle_4 ?_
  refine lv_if_ne (tgt := 23) hx hb dX3_isLongIdle_7 (by decide) (fun c_1 => ?_) (fun c_1 => ?_)
  · have h := iteF c_1 h
    refine lv_iconst (v := 0) hx hb dX3_isLongIdle_23 (by decide) ?_
    have e9 : (0 : Int32) = res := Option.some.inj h
    subst e9
    exact W.zret (v := (0 : Int32)) (ty := .boolean) hx hb hr rfl (fun t9 ht9 hW9 => ⟨⟨_, (), rfl, rfl, xM_of hM hK hW hAs hS.1 ht9 hW9⟩, hS.F ht9⟩) hS.2.2 dX3_isLongIdle_24
  · have h := iteT c_1 h
    refine lv_aload_n hx hb dX3_isLongIdle_10 rfl (lv_at hl 1 rfl) ?_
    refine mm_get (C := RX6) (T := TX6) (N := 5) (ci := 6) hx hb hts inX6 hown hK hM 16 pn1 hpn1 rfl rfl 3 (by decide) k140 (fun _ h9 => h9) rfl dX3_isLongIdle_11 ?_
    refine lv_bipush (v := 10) hx hb dX3_isLongIdle_14 (by decide) ?_
    refine lv_icmp_lt (tgt := 23) hx hb dX3_isLongIdle_16 (by decide) (fun c_2 => ?_) (fun c_2 => ?_)
    · have h := iteT c_2 h
      refine lv_iconst (v := 0) hx hb dX3_isLongIdle_23 (by decide) ?_
      have e9 : (0 : Int32) = res := Option.some.inj h
      subst e9
      exact W.zret (v := (0 : Int32)) (ty := .boolean) hx hb hr rfl (fun t9 ht9 hW9 => ⟨⟨_, (), rfl, rfl, xM_of hM hK hW hAs hS.1 ht9 hW9⟩, hS.F ht9⟩) hS.2.2 dX3_isLongIdle_24
    · have h := iteF c_2 h
      refine lv_iconst (v := 1) hx hb dX3_isLongIdle_19 (by decide) ?_
      refine lv_goto (tgt := 24) hx hb dX3_isLongIdle_20 (by decide) ?_
      have e9 : (1 : Int32) = res := Option.some.inj h
      subst e9
      exact W.zret (v := (1 : Int32)) (ty := .boolean) hx hb hr rfl (fun t9 ht9 hW9 => ⟨⟨_, (), rfl, rfl, xM_of hM hK hW hAs hS.1 ht9 hW9⟩, hS.F ht9⟩) hS.2.2 dX3_isLongIdle_24
/-! X3_controlWorkers -/
def jnX3_controlWorkers_54 (L : Nat → Nat → Nat)  (n0 : Nat) (V : mM) (c0 : Nat × Nat) : Option (mM) := if (V 3 n0 14) ≤ (1 : Int32) then (some V) else (if bin ((V 3 n0 14) - (1 : Int32)) (L 15 n0) = true then ((fX3_isLongIdle L n0 (4 * n0 + (((V 3 n0 14) - (1 : Int32))).toNatClampNeg) V c0).bind fun u_3 => if u_3 = 0 then (some V) else (some (mu V 3 n0 14 ((V 3 n0 14) - (1 : Int32))))) else none)
def fX3_controlWorkers (L : Nat → Nat → Nat) (pn0 : Nat) (V0 : mM) (c0 : Nat × Nat) : Option (mM) := if (V0 11 (32 + pn0) 3) ≤ ((V0 3 pn0 1) / (2 : Int32)) then (jnX3_controlWorkers_54 L pn0 V0 c0) else (if (Int32.ofNat (L 15 pn0)) ≤ (V0 3 pn0 14) then (jnX3_controlWorkers_54 L pn0 V0 c0) else (if bin (V0 3 pn0 14) (L 15 pn0) = true then (some (mu (mu V0 16 (4 * pn0 + ((V0 3 pn0 14)).toNatClampNeg) 3 (0 : Int32)) 3 pn0 14 (((mu V0 16 (4 * pn0 + ((V0 3 pn0 14)).toNatClampNeg) 3 (0 : Int32)) 3 pn0 14) + (1 : Int32)))) else none))
set_option maxHeartbeats 4000000 in
set_option maxRecDepth 100000 in
theorem kX3_controlWorkers (l : Launch) {dC : Nat → ClassId} {dI : Nat → Nat → Nat} {A : Nat → Prop} {ad : Nat → Nat → Nat} {cnt : Nat} {L : Nat → Nat → Nat} {cI cS cW : ClassId} {q : Nat × Nat} (hsh : xSh cnt L) (pn0 : Nat) (V0 : mM) (c0 : Nat × Nat) {res : mM} (h : fX3_controlWorkers L pn0 V0 c0 = some res) (hpn0 : xex cnt L 3 pn0) : Met l yX3_controlWorkers wsX3_controlWorkers ({ frames := 1, cells := 0, slots := 0, locals := 21 } : Room) (va_Pc [.ref (ad 3 pn0)] (fun U => xM dC dI A ad cnt L cI cS cW q V0 c0 U)) (va_Qv (fun (_ : Unit) => True) (fun _ t9 => xM dC dI A ad cnt L cI cS cW q res c0 t9) A) 0 0 A := by
  refine Met.ofW (cc := cX3_controlWorkers) (maxL := 1) (ret := none) (by decide) rfl ?_
  intro p e s m args below meth cd s₁ B hml hv
  obtain ⟨rfl, hM, hK, hW, hAs⟩ := hv
  have hx := B.exec
  have hb := B.bytes
  have hr := B.returns
  have hts := atoms_spec (ws := wsX3_controlWorkers) B.pre
  have hown : s.vm.findClass RX3 = some m.cls := findClass_of_methodNamed B.named
  have hlocks := B.notSynchronized
  have hS : va_S A s.heap s.heap [] := va_S.rf
  have k28 := hts (.fieldLink RX3 28 "StageDesk$Stage" "workerCount" "I") (by decide +kernel)
  have k54 := hts (.fieldLink RX3 54 "StageDesk$Stage" "workers" "[LStageDesk$Worker;") (by decide +kernel)
  have k48 := hts (.fieldLink RX3 48 "StageDesk$Stage" "queue" "LStageDesk$EventRow;") (by decide +kernel)
  have k59 := hts (.fieldLink RX3 59 "StageDesk$EventRow" "size" "I") (by decide +kernel)
  have k37 := hts (.fieldLink RX3 37 "StageDesk$Stage" "bound" "I") (by decide +kernel)
  have k140 := hts (.fieldLink RX3 140 "StageDesk$Worker" "idleTicks" "I") (by decide +kernel)
  have inX3 : ∀ w ∈ u_ws RX3 TX3 19, w ∈ wsX3_controlWorkers := by decide +kernel
  have inX1 : ∀ w ∈ u_ws RX1 TX1 4, w ∈ wsX3_controlWorkers := by decide +kernel
  have inX6 : ∀ w ∈ u_ws RX6 TX6 5, w ∈ wsX3_controlWorkers := by decide +kernel
  have hb54 : ∀ (n0 : Nat) (V : mM), jnX3_controlWorkers_54 L n0 V c0 = some res → ∀ (H : Heap) (locs : List Loc), xex cnt L 3 n0 → mP (dC, dI) vwCl A (xad ad q) (xce cI cS cW ad q L c0) (xex cnt L) V H → xW cnt V → va_S A s.heap H locs → ∀ (ls : Array Slot), lv_has ls 1 [(0, .ref (ad 3 n0))] → W p l e (headSpec wsX3_controlWorkers ({ frames := 1, cells := 0, slots := 0, locals := 21 } : Room)).room s m ([.ref (ad 3 pn0)] : List Value).toArray below meth cd H locs 0 0 (MQ below (va_Qv (fun (_ : Unit) => True) (fun _ t9 => xM dC dI A ad cnt L cI cS cW q res c0 t9) A) ([.ref (ad 3 pn0)] : List Value).toArray s 0 0 A) (F0 m 54 ls []) := by
    intro  n0 V h H locs hn0 hM hW hS ls hl
    unfold jnX3_controlWorkers_54 at h
    refine lv_aload_n hx hb dX3_controlWorkers_54 rfl (lv_at hl 0 rfl) ?_
    refine mm_get (C := RX3) (T := TX3) (N := 19) (ci := 3) hx hb hts inX3 hown hK hM 3 n0 hn0 rfl rfl 14 (by decide) k28 (fun _ h9 => h9) rfl dX3_controlWorkers_55 ?_
    refine lv_iconst (v := 1) hx hb dX3_controlWorkers_58 (by decide) ?_
    refine lv_icmp_le (tgt := 90) hx hb dX3_controlWorkers_59 (by decide) (fun c_1 => ?_) (fun c_1 => ?_)
    · have h := iteT c_1 h
      have e9 : V = res := Option.some.inj h
      subst e9
      exact W.vret hx hb hr (fun t9 ht9 hW9 => ⟨⟨(), rfl, trivial, xM_of hM hK hW hAs hS.1 ht9 hW9⟩, hS.F ht9⟩) hS.2.2 dX3_controlWorkers_90
    · have h := iteF c_1 h
      refine lv_aload_n hx hb dX3_controlWorkers_62 rfl (lv_at hl 0 rfl) ?_
      refine lv_aload_n hx hb dX3_controlWorkers_63 rfl (lv_at hl 0 rfl) ?_
      refine mm_get (C := RX3) (T := TX3) (N := 19) (ci := 3) hx hb hts inX3 hown hK hM 3 n0 hn0 rfl rfl 4 (by decide) k54 (fun _ h9 => h9) rfl dX3_controlWorkers_64 ?_
      refine lv_aload_n hx hb dX3_controlWorkers_67 rfl (lv_at hl 0 rfl) ?_
      refine mm_get (C := RX3) (T := TX3) (N := 19) (ci := 3) hx hb hts inX3 hown hK hM 3 n0 hn0 rfl rfl 14 (by decide) k28 (fun _ h9 => h9) rfl dX3_controlWorkers_68 ?_
      refine lv_iconst (v := 1) hx hb dX3_controlWorkers_71 (by decide) ?_
      refine lv_isub hx hb dX3_controlWorkers_72 ?_
      obtain ⟨b_2, h⟩ := iteS h
      refine mm_aald hx hb hK hM 15 n0 (xe3_w hn0) 2 rfl rfl (bin_in b_2) dX3_controlWorkers_73 ?_
      rw [if_pos (bin_iff.mp b_2).2]
      obtain ⟨u_3, hu_3, h⟩ := bindS h
      refine va_calli (va_runV (As := [.ref (ad 16 (4 * n0 + (((V 3 n0 14) - (1 : Int32))).toNatClampNeg))]) (rest := []) ⟨hx, hb, hml, hown, hts⟩ (kX3_isLongIdle l hsh n0 (4 * n0 + (((V 3 n0 14) - (1 : Int32))).toNatClampNeg) V c0 hu_3 hn0 (xe15 hsh (xe3_w hn0) b_2)) (cwV 1 hts gX3_controlWorkers_X3_isLongIdle rfl rfl rfl (by decide +kernel) ⟨Nat.le_of_ble_eq_true rfl, Nat.le_of_ble_eq_true rfl⟩) ⟨fun a U g9 mk w9 => ⟨w9.1, xM_calling w9.2⟩, mP_recv (q := (RX3, TX3, 19)) hK hM hn0 rfl rfl, fun U hU hWm => ⟨rfl, xM_of hM hK hW hAs hS.1 hU hWm⟩⟩ rfl rfl hl.1 rfl (lv_room (Nat.le_of_ble_eq_true rfl)) dX3_controlWorkers_74 ⟨Nat.le_of_ble_eq_true rfl, Nat.le_of_ble_eq_true rfl⟩) hS (fun _ _ h9 => h9) (fun _ h9 => h9) (fun r9 u9 t9 H locs ht9 _ hw9 hB9 _ _ hS => ?_)
      rw [show r9 = u_3 from hw9]
      obtain ⟨hM, -, hW, -⟩ := hB9
      rw [ht9] at hM
      refine lv_if_eq (tgt := 90) hx hb dX3_controlWorkers_77 (by decide) (fun c_4 => ?_) (fun c_4 => ?_)
      · have h := iteT c_4 h
        have e9 : V = res := Option.some.inj h
        subst e9
        exact W.vret hx hb hr (fun t9 ht9 hW9 => ⟨⟨(), rfl, trivial, xM_of hM hK hW hAs hS.1 ht9 hW9⟩, hS.F ht9⟩) hS.2.2 dX3_controlWorkers_90
      · have h := iteF c_4 h
        refine lv_aload_n hx hb dX3_controlWorkers_80 rfl (lv_at hl 0 rfl) ?_
        refine lv_dup hx hb dX3_controlWorkers_81 rfl ?_
        refine mm_get (C := RX3) (T := TX3) (N := 19) (ci := 3) hx hb hts inX3 hown hK hM 3 n0 hn0 rfl rfl 14 (by decide) k28 (fun _ h9 => h9) rfl dX3_controlWorkers_82 ?_
        refine lv_iconst (v := 1) hx hb dX3_controlWorkers_85 (by decide) ?_
        refine lv_isub hx hb dX3_controlWorkers_86 ?_
        refine mm_put (C := RX3) (T := TX3) (N := 19) (ci := 3) (ty := .int) hx hb hts inX3 tyX3 tyX3_ok nmX3 hown hK hM hS 3 n0 hn0 rfl rfl 14 (by decide) k28 (fun _ h9 => h9) rfl (by decide +kernel) rfl rfl (Nat.le_of_ble_eq_true rfl) ((V 3 n0 14) - (1 : Int32)) rfl dX3_controlWorkers_87 (fun H locs hM hS => ?_)
        have hW := xW_mu (k := 3) (n := n0) (t := 14) (x := ((V 3 n0 14) - (1 : Int32))) hW (fun h9 => Bool.noConfusion (show false = true from h9))
        have e9 : (mu V 3 n0 14 ((V 3 n0 14) - (1 : Int32))) = res := Option.some.inj h
        subst e9
        exact W.vret hx hb hr (fun t9 ht9 hW9 => ⟨⟨(), rfl, trivial, xM_of hM hK hW hAs hS.1 ht9 hW9⟩, hS.F ht9⟩) hS.2.2 dX3_controlWorkers_90
  have hl := lv_entry ([.ref (ad 3 pn0)]) (n := 1) (Nat.le_of_ble_eq_true rfl)
  rw [lg_entry_eq]
  generalize (lg_sl ([.ref (ad 3 pn0)]) ++ List.replicate (1 - (lg_sl ([.ref (ad 3 pn0)])).length) Slot.unset).toArray = ls at hl ⊢
  have hl : lv_has ls 1 [(0, .ref (ad 3 pn0))] := hl
  unfold fX3_controlWorkers at h
  refine lv_aload_n hx hb dX3_controlWorkers_0 rfl (lv_at hl 0 rfl) ?_
  refine mm_get (C := RX3) (T := TX3) (N := 19) (ci := 3) hx hb hts inX3 hown hK hM 3 pn0 hpn0 rfl rfl 3 (by decide) k48 (fun _ h9 => h9) rfl dX3_controlWorkers_1 ?_
  refine mm_get (C := RX1) (T := TX1) (N := 4) (ci := 1) hx hb hts inX1 hown hK hM 11 (32 + pn0) (xe3_q hpn0) rfl rfl 3 (by decide) k59 (fun _ h9 => h9) rfl dX3_controlWorkers_4 ?_
  refine lv_aload_n hx hb dX3_controlWorkers_7 rfl (lv_at hl 0 rfl) ?_
  refine mm_get (C := RX3) (T := TX3) (N := 19) (ci := 3) hx hb hts inX3 hown hK hM 3 pn0 hpn0 rfl rfl 1 (by decide) k37 (fun _ h9 => h9) rfl dX3_controlWorkers_8 ?_
  refine lv_iconst (v := 2) hx hb dX3_controlWorkers_11 (by decide) ?_
  refine lv_idiv hx hb dX3_controlWorkers_12 (by decide) ?_
  refine lv_icmp_le (tgt := 54) hx hb dX3_controlWorkers_13 (by decide) (fun c_5 => ?_) (fun c_5 => ?_)
  · have h := iteT c_5 h
    exact hb54 _ _ h _ _ hpn0 hM hW hS ls (lv_sub hl [0] rfl)
  · have h := iteF c_5 h
    refine lv_aload_n hx hb dX3_controlWorkers_16 rfl (lv_at hl 0 rfl) ?_
    refine mm_get (C := RX3) (T := TX3) (N := 19) (ci := 3) hx hb hts inX3 hown hK hM 3 pn0 hpn0 rfl rfl 14 (by decide) k28 (fun _ h9 => h9) rfl dX3_controlWorkers_17 ?_
    refine lv_aload_n hx hb dX3_controlWorkers_20 rfl (lv_at hl 0 rfl) ?_
    refine mm_get (C := RX3) (T := TX3) (N := 19) (ci := 3) hx hb hts inX3 hown hK hM 3 pn0 hpn0 rfl rfl 4 (by decide) k54 (fun _ h9 => h9) rfl dX3_controlWorkers_21 ?_
    refine mm_alen (v := (Int32.ofNat (L 15 pn0))) hx hb hK hM 15 pn0 (xe3_w hpn0) 2 rfl rfl rfl dX3_controlWorkers_24 ?_
    refine lv_icmp_ge (tgt := 54) hx hb dX3_controlWorkers_25 (by decide) (fun c_6 => ?_) (fun c_6 => ?_)
    · have h := iteT c_6 h
      exact hb54 _ _ h _ _ hpn0 hM hW hS ls (lv_sub hl [0] rfl)
    · have h := iteF c_6 h
      refine lv_aload_n hx hb dX3_controlWorkers_28 rfl (lv_at hl 0 rfl) ?_
      refine mm_get (C := RX3) (T := TX3) (N := 19) (ci := 3) hx hb hts inX3 hown hK hM 3 pn0 hpn0 rfl rfl 4 (by decide) k54 (fun _ h9 => h9) rfl dX3_controlWorkers_29 ?_
      refine lv_aload_n hx hb dX3_controlWorkers_32 rfl (lv_at hl 0 rfl) ?_
      refine mm_get (C := RX3) (T := TX3) (N := 19) (ci := 3) hx hb hts inX3 hown hK hM 3 pn0 hpn0 rfl rfl 14 (by decide) k28 (fun _ h9 => h9) rfl dX3_controlWorkers_33 ?_
      obtain ⟨b_7, h⟩ := iteS h
      refine mm_aald hx hb hK hM 15 pn0 (xe3_w hpn0) 2 rfl rfl (bin_in b_7) dX3_controlWorkers_36 ?_
      rw [if_pos (bin_iff.mp b_7).2]
      refine lv_iconst (v := 0) hx hb dX3_controlWorkers_37 (by decide) ?_
      refine mm_put (C := RX6) (T := TX6) (N := 5) (ci := 6) (ty := .int) hx hb hts inX6 tyX6 tyX6_ok nmX6 hown hK hM hS 16 (4 * pn0 + ((V0 3 pn0 14)).toNatClampNeg) (xe15 hsh (xe3_w hpn0) b_7) rfl rfl 3 (by decide) k140 (fun _ h9 => h9) rfl (by decide +kernel) rfl rfl (Nat.le_of_ble_eq_true rfl) (0 : Int32) rfl dX3_controlWorkers_38 (fun H locs hM hS => ?_)
      have hW := xW_mu (k := 16) (n := (4 * pn0 + ((V0 3 pn0 14)).toNatClampNeg)) (t := 3) (x := (0 : Int32)) hW (fun h9 => Bool.noConfusion (show false = true from h9))
      refine lv_aload_n hx hb dX3_controlWorkers_41 rfl (lv_at hl 0 rfl) ?_
      refine lv_dup hx hb dX3_controlWorkers_42 rfl ?_
      refine mm_get (C := RX3) (T := TX3) (N := 19) (ci := 3) hx hb hts inX3 hown hK hM 3 pn0 hpn0 rfl rfl 14 (by decide) k28 (fun _ h9 => h9) rfl dX3_controlWorkers_43 ?_
      refine lv_iconst (v := 1) hx hb dX3_controlWorkers_46 (by decide) ?_
      refine lv_iadd hx hb dX3_controlWorkers_47 ?_
      refine mm_put (C := RX3) (T := TX3) (N := 19) (ci := 3) (ty := .int) hx hb hts inX3 tyX3 tyX3_ok nmX3 hown hK hM hS 3 pn0 hpn0 rfl rfl 14 (by decide) k28 (fun _ h9 => h9) rfl (by decide +kernel) rfl rfl (Nat.le_of_ble_eq_true rfl) (((mu V0 16 (4 * pn0 + ((V0 3 pn0 14)).toNatClampNeg) 3 (0 : Int32)) 3 pn0 14) + (1 : Int32)) rfl dX3_controlWorkers_48 (fun H locs hM hS => ?_)
      have hW := xW_mu (k := 3) (n := pn0) (t := 14) (x := (((mu V0 16 (4 * pn0 + ((V0 3 pn0 14)).toNatClampNeg) 3 (0 : Int32)) 3 pn0 14) + (1 : Int32))) hW (fun h9 => Bool.noConfusion (show false = true from h9))
      refine lv_goto (tgt := 90) hx hb dX3_controlWorkers_51 (by decide) ?_
      have e9 : (mu (mu V0 16 (4 * pn0 + ((V0 3 pn0 14)).toNatClampNeg) 3 (0 : Int32)) 3 pn0 14 (((mu V0 16 (4 * pn0 + ((V0 3 pn0 14)).toNatClampNeg) 3 (0 : Int32)) 3 pn0 14) + (1 : Int32))) = res := Option.some.inj h
      subst e9
      exact W.vret hx hb hr (fun t9 ht9 hW9 => ⟨⟨(), rfl, trivial, xM_of hM hK hW hAs hS.1 ht9 hW9⟩, hS.F ht9⟩) hS.2.2 dX3_controlWorkers_90
/-! X3_controlBatch -/
def fX3_controlBatch (L : Nat → Nat → Nat) (pn0 : Nat) (V0 : mM) (c0 : Nat × Nat) : Option (mM) := if (V0 11 (32 + pn0) 3) ≤ (V0 3 pn0 15) then (if (V0 11 (32 + pn0) 3) = 0 then (some (mu V0 3 pn0 15 (if ((V0 3 pn0 15) - (1 : Int32)) < (1 : Int32) then (1 : Int32) else ((V0 3 pn0 15) - (1 : Int32))))) else (some V0)) else (some (mu V0 3 pn0 15 (if (8 : Int32) < ((V0 3 pn0 15) + (1 : Int32)) then (8 : Int32) else ((V0 3 pn0 15) + (1 : Int32)))))
set_option maxHeartbeats 4000000 in
set_option maxRecDepth 100000 in
theorem kX3_controlBatch (l : Launch) {dC : Nat → ClassId} {dI : Nat → Nat → Nat} {A : Nat → Prop} {ad : Nat → Nat → Nat} {cnt : Nat} {L : Nat → Nat → Nat} {cI cS cW : ClassId} {q : Nat × Nat} (hsh : xSh cnt L) (pn0 : Nat) (V0 : mM) (c0 : Nat × Nat) {res : mM} (h : fX3_controlBatch L pn0 V0 c0 = some res) (hpn0 : xex cnt L 3 pn0) : Met l yX3_controlBatch wsX3_controlBatch ({ frames := 1, cells := 0, slots := 0, locals := 21 } : Room) (va_Pc [.ref (ad 3 pn0)] (fun U => xM dC dI A ad cnt L cI cS cW q V0 c0 U)) (va_Qv (fun (_ : Unit) => True) (fun _ t9 => xM dC dI A ad cnt L cI cS cW q res c0 t9) A) 0 0 A := by
  refine Met.ofW (cc := cX3_controlBatch) (maxL := 1) (ret := none) (by decide) rfl ?_
  intro p e s m args below meth cd s₁ B hml hv
  obtain ⟨rfl, hM, hK, hW, hAs⟩ := hv
  have hx := B.exec
  have hb := B.bytes
  have hr := B.returns
  have hts := atoms_spec (ws := wsX3_controlBatch) B.pre
  have hown : s.vm.findClass RX3 = some m.cls := findClass_of_methodNamed B.named
  have hlocks := B.notSynchronized
  have hS : va_S A s.heap s.heap [] := va_S.rf
  have k48 := hts (.fieldLink RX3 48 "StageDesk$Stage" "queue" "LStageDesk$EventRow;") (by decide +kernel)
  have k59 := hts (.fieldLink RX3 59 "StageDesk$EventRow" "size" "I") (by decide +kernel)
  have k31 := hts (.fieldLink RX3 31 "StageDesk$Stage" "batchSize" "I") (by decide +kernel)
  have inX3 : ∀ w ∈ u_ws RX3 TX3 19, w ∈ wsX3_controlBatch := by decide +kernel
  have inX1 : ∀ w ∈ u_ws RX1 TX1 4, w ∈ wsX3_controlBatch := by decide +kernel
  have hl := lv_entry ([.ref (ad 3 pn0)]) (n := 1) (Nat.le_of_ble_eq_true rfl)
  rw [lg_entry_eq]
  generalize (lg_sl ([.ref (ad 3 pn0)]) ++ List.replicate (1 - (lg_sl ([.ref (ad 3 pn0)])).length) Slot.unset).toArray = ls at hl ⊢
  have hl : lv_has ls 1 [(0, .ref (ad 3 pn0))] := hl
  unfold fX3_controlBatch at h
  refine lv_aload_n hx hb dX3_controlBatch_0 rfl (lv_at hl 0 rfl) ?_
  refine mm_get (C := RX3) (T := TX3) (N := 19) (ci := 3) hx hb hts inX3 hown hK hM 3 pn0 hpn0 rfl rfl 3 (by decide) k48 (fun _ h9 => h9) rfl dX3_controlBatch_1 ?_
  refine mm_get (C := RX1) (T := TX1) (N := 4) (ci := 1) hx hb hts inX1 hown hK hM 11 (32 + pn0) (xe3_q hpn0) rfl rfl 3 (by decide) k59 (fun _ h9 => h9) rfl dX3_controlBatch_4 ?_
  refine lv_aload_n hx hb dX3_controlBatch_7 rfl (lv_at hl 0 rfl) ?_
  refine mm_get (C := RX3) (T := TX3) (N := 19) (ci := 3) hx hb hts inX3 hown hK hM 3 pn0 hpn0 rfl rfl 15 (by decide) k31 (fun _ h9 => h9) rfl dX3_controlBatch_8 ?_
  refine lv_icmp_le (tgt := 32) hx hb dX3_controlBatch_11 (by decide) (fun c_1 => ?_) (fun c_1 => ?_)
  · have h := iteT c_1 h
    refine lv_aload_n hx hb dX3_controlBatch_32 rfl (lv_at hl 0 rfl) ?_
    refine mm_get (C := RX3) (T := TX3) (N := 19) (ci := 3) hx hb hts inX3 hown hK hM 3 pn0 hpn0 rfl rfl 3 (by decide) k48 (fun _ h9 => h9) rfl dX3_controlBatch_33 ?_
    refine mm_get (C := RX1) (T := TX1) (N := 4) (ci := 1) hx hb hts inX1 hown hK hM 11 (32 + pn0) (xe3_q hpn0) rfl rfl 3 (by decide) k59 (fun _ h9 => h9) rfl dX3_controlBatch_36 ?_
    refine lv_if_ne (tgt := 56) hx hb dX3_controlBatch_39 (by decide) (fun c_2 => ?_) (fun c_2 => ?_)
    · have h := iteF c_2 h
      have e9 : V0 = res := Option.some.inj h
      subst e9
      exact W.vret hx hb hr (fun t9 ht9 hW9 => ⟨⟨(), rfl, trivial, xM_of hM hK hW hAs hS.1 ht9 hW9⟩, hS.F ht9⟩) hS.2.2 dX3_controlBatch_56
    · have h := iteT c_2 h
      refine lv_aload_n hx hb dX3_controlBatch_42 rfl (lv_at hl 0 rfl) ?_
      refine lv_aload_n hx hb dX3_controlBatch_43 rfl (lv_at hl 0 rfl) ?_
      refine mm_get (C := RX3) (T := TX3) (N := 19) (ci := 3) hx hb hts inX3 hown hK hM 3 pn0 hpn0 rfl rfl 15 (by decide) k31 (fun _ h9 => h9) rfl dX3_controlBatch_44 ?_
      refine lv_iconst (v := 1) hx hb dX3_controlBatch_47 (by decide) ?_
      refine lv_isub hx hb dX3_controlBatch_48 ?_
      refine lv_iconst (v := 1) hx hb dX3_controlBatch_49 (by decide) ?_
      refine va_mmax hx hb (by rw [hml]; exact hl.1.symm) hown (hts (.methodLink RX3 147 Lib.Math.max.name) (by decide +kernel)) (hts (.static Lib.Math.max.name) (by decide +kernel)) (hts (.initialized "java/lang/Math") (by decide +kernel)) (hts (.code Lib.Math.max.name Lib.Math.max.code 2 (some .int)) (by decide +kernel)) (Nat.le_of_ble_eq_true rfl) (Nat.le_of_ble_eq_true rfl) (Nat.zero_le _) (Nat.zero_le _) dX3_controlBatch_50 ?_
      refine mm_put (C := RX3) (T := TX3) (N := 19) (ci := 3) (ty := .int) hx hb hts inX3 tyX3 tyX3_ok nmX3 hown hK hM hS 3 pn0 hpn0 rfl rfl 15 (by decide) k31 (fun _ h9 => h9) rfl (by decide +kernel) rfl rfl (Nat.le_of_ble_eq_true rfl) (if ((V0 3 pn0 15) - (1 : Int32)) < (1 : Int32) then (1 : Int32) else ((V0 3 pn0 15) - (1 : Int32))) rfl dX3_controlBatch_53 (fun H locs hM hS => ?_)
      have hW := xW_mu (k := 3) (n := pn0) (t := 15) (x := (if ((V0 3 pn0 15) - (1 : Int32)) < (1 : Int32) then (1 : Int32) else ((V0 3 pn0 15) - (1 : Int32)))) hW (fun h9 => Bool.noConfusion (show false = true from h9))
      have e9 : (mu V0 3 pn0 15 (if ((V0 3 pn0 15) - (1 : Int32)) < (1 : Int32) then (1 : Int32) else ((V0 3 pn0 15) - (1 : Int32)))) = res := Option.some.inj h
      subst e9
      exact W.vret hx hb hr (fun t9 ht9 hW9 => ⟨⟨(), rfl, trivial, xM_of hM hK hW hAs hS.1 ht9 hW9⟩, hS.F ht9⟩) hS.2.2 dX3_controlBatch_56
  · have h := iteF c_1 h
    refine lv_aload_n hx hb dX3_controlBatch_14 rfl (lv_at hl 0 rfl) ?_
    refine lv_aload_n hx hb dX3_controlBatch_15 rfl (lv_at hl 0 rfl) ?_
    refine mm_get (C := RX3) (T := TX3) (N := 19) (ci := 3) hx hb hts inX3 hown hK hM 3 pn0 hpn0 rfl rfl 15 (by decide) k31 (fun _ h9 => h9) rfl dX3_controlBatch_16 ?_
    refine lv_iconst (v := 1) hx hb dX3_controlBatch_19 (by decide) ?_
    refine lv_iadd hx hb dX3_controlBatch_20 ?_
    refine lv_bipush (v := 8) hx hb dX3_controlBatch_21 (by decide) ?_
    refine va_mmin hx hb (by rw [hml]; exact hl.1.symm) hown (hts (.methodLink RX3 80 Lib.Math.min.name) (by decide +kernel)) (hts (.static Lib.Math.min.name) (by decide +kernel)) (hts (.initialized "java/lang/Math") (by decide +kernel)) (hts (.code Lib.Math.min.name Lib.Math.min.code 2 (some .int)) (by decide +kernel)) (Nat.le_of_ble_eq_true rfl) (Nat.le_of_ble_eq_true rfl) (Nat.zero_le _) (Nat.zero_le _) dX3_controlBatch_23 ?_
    refine mm_put (C := RX3) (T := TX3) (N := 19) (ci := 3) (ty := .int) hx hb hts inX3 tyX3 tyX3_ok nmX3 hown hK hM hS 3 pn0 hpn0 rfl rfl 15 (by decide) k31 (fun _ h9 => h9) rfl (by decide +kernel) rfl rfl (Nat.le_of_ble_eq_true rfl) (if (8 : Int32) < ((V0 3 pn0 15) + (1 : Int32)) then (8 : Int32) else ((V0 3 pn0 15) + (1 : Int32))) rfl dX3_controlBatch_26 (fun H locs hM hS => ?_)
    have hW := xW_mu (k := 3) (n := pn0) (t := 15) (x := (if (8 : Int32) < ((V0 3 pn0 15) + (1 : Int32)) then (8 : Int32) else ((V0 3 pn0 15) + (1 : Int32)))) hW (fun h9 => Bool.noConfusion (show false = true from h9))
    refine lv_goto (tgt := 56) hx hb dX3_controlBatch_29 (by decide) ?_
    have e9 : (mu V0 3 pn0 15 (if (8 : Int32) < ((V0 3 pn0 15) + (1 : Int32)) then (8 : Int32) else ((V0 3 pn0 15) + (1 : Int32)))) = res := Option.some.inj h
    subst e9
    exact W.vret hx hb hr (fun t9 ht9 hW9 => ⟨⟨(), rfl, trivial, xM_of hM hK hW hAs hS.1 ht9 hW9⟩, hS.F ht9⟩) hS.2.2 dX3_controlBatch_56
/-! X3_controlRate -/
def fX3_controlRate (L : Nat → Nat → Nat) (pn0 : Nat) (V0 : mM) (c0 : Nat × Nat) : Option (mM) := (fX5_response L pn0 V0 c0).bind fun u_1 => if u_1.1 ≤ (u_1.2 3 pn0 13) then (some (mu u_1.2 3 pn0 10 (if (100 : Int32) < ((u_1.2 3 pn0 10) + (1 : Int32)) then (100 : Int32) else ((u_1.2 3 pn0 10) + (1 : Int32))))) else (some (mu u_1.2 3 pn0 10 (if (((3 : Int32) * (u_1.2 3 pn0 10)) / (4 : Int32)) < (1 : Int32) then (1 : Int32) else (((3 : Int32) * (u_1.2 3 pn0 10)) / (4 : Int32)))))
set_option maxHeartbeats 4000000 in
set_option maxRecDepth 100000 in
theorem kX3_controlRate (l : Launch) {dC : Nat → ClassId} {dI : Nat → Nat → Nat} {A : Nat → Prop} {ad : Nat → Nat → Nat} {cnt : Nat} {L : Nat → Nat → Nat} {cI cS cW : ClassId} {q : Nat × Nat} (hsh : xSh cnt L) (pn0 : Nat) (V0 : mM) (c0 : Nat × Nat) {res : mM} (h : fX3_controlRate L pn0 V0 c0 = some res) (hpn0 : xex cnt L 3 pn0) : Met l yX3_controlRate wsX3_controlRate ({ frames := 1, cells := 0, slots := 0, locals := 22 } : Room) (va_Pc [.ref (ad 3 pn0)] (fun U => xM dC dI A ad cnt L cI cS cW q V0 c0 U)) (va_Qv (fun (_ : Unit) => True) (fun _ t9 => xM dC dI A ad cnt L cI cS cW q res c0 t9) A) 0 0 A := by
  refine Met.ofW (cc := cX3_controlRate) (maxL := 1) (ret := none) (by decide) rfl ?_
  intro p e s m args below meth cd s₁ B hml hv
  obtain ⟨rfl, hM, hK, hW, hAs⟩ := hv
  have hx := B.exec
  have hb := B.bytes
  have hr := B.returns
  have hts := atoms_spec (ws := wsX3_controlRate) B.pre
  have hown : s.vm.findClass RX3 = some m.cls := findClass_of_methodNamed B.named
  have hlocks := B.notSynchronized
  have hS : va_S A s.heap s.heap [] := va_S.rf
  have k12 := hts (.fieldLink RX3 12 "StageDesk$Stage" "times" "LStageDesk$Times;") (by decide +kernel)
  have k133 := hts (.fieldLink RX3 133 "StageDesk$Stage" "goal" "I") (by decide +kernel)
  have k18 := hts (.fieldLink RX3 18 "StageDesk$Stage" "rate" "I") (by decide +kernel)
  have inX3 : ∀ w ∈ u_ws RX3 TX3 19, w ∈ wsX3_controlRate := by decide +kernel
  have hl := lv_entry ([.ref (ad 3 pn0)]) (n := 1) (Nat.le_of_ble_eq_true rfl)
  rw [lg_entry_eq]
  generalize (lg_sl ([.ref (ad 3 pn0)]) ++ List.replicate (1 - (lg_sl ([.ref (ad 3 pn0)])).length) Slot.unset).toArray = ls at hl ⊢
  have hl : lv_has ls 1 [(0, .ref (ad 3 pn0))] := hl
  unfold fX3_controlRate at h
  refine lv_aload_n hx hb dX3_controlRate_0 rfl (lv_at hl 0 rfl) ?_
  refine mm_get (C := RX3) (T := TX3) (N := 19) (ci := 3) hx hb hts inX3 hown hK hM 3 pn0 hpn0 rfl rfl 5 (by decide) k12 (fun _ h9 => h9) rfl dX3_controlRate_1 ?_
  obtain ⟨u_1, hu_1, h⟩ := bindS h
  refine va_calli (va_runV (As := []) (rest := []) ⟨hx, hb, hml, hown, hts⟩ (kX5_response l hsh pn0 V0 c0 hu_1 (xe3_t hpn0)) (cwV 0 hts gX3_controlRate_X5_response rfl rfl rfl (by decide +kernel) ⟨Nat.le_of_ble_eq_true rfl, Nat.le_of_ble_eq_true rfl⟩) ⟨fun a U g9 mk w9 => ⟨w9.1, xM_calling w9.2⟩, mP_recv (q := (RX5, TX5, 3)) hK hM (xe3_t hpn0) rfl rfl, fun U hU hWm => ⟨rfl, xM_of hM hK hW hAs hS.1 hU hWm⟩⟩ rfl rfl hl.1 rfl (lv_room (Nat.le_of_ble_eq_true rfl)) dX3_controlRate_4 ⟨Nat.le_of_ble_eq_true rfl, Nat.le_of_ble_eq_true rfl⟩) hS (fun _ _ h9 => h9) (fun _ h9 => h9) (fun r9 u9 t9 H locs ht9 _ hw9 hB9 _ _ hS => ?_)
  rw [show r9 = u_1.1 from hw9]
  obtain ⟨hM, -, hW, -⟩ := hB9
  rw [ht9] at hM
  refine lv_aload_n hx hb dX3_controlRate_7 rfl (lv_at hl 0 rfl) ?_
  refine mm_get (C := RX3) (T := TX3) (N := 19) (ci := 3) hx hb hts inX3 hown hK hM 3 pn0 hpn0 rfl rfl 13 (by decide) k133 (fun _ h9 => h9) rfl dX3_controlRate_8 ?_
  refine lv_icmp_le (tgt := 33) hx hb dX3_controlRate_11 (by decide) (fun c_2 => ?_) (fun c_2 => ?_)
  · have h := iteT c_2 h
    refine lv_aload_n hx hb dX3_controlRate_33 rfl (lv_at hl 0 rfl) ?_
    refine lv_aload_n hx hb dX3_controlRate_34 rfl (lv_at hl 0 rfl) ?_
    refine mm_get (C := RX3) (T := TX3) (N := 19) (ci := 3) hx hb hts inX3 hown hK hM 3 pn0 hpn0 rfl rfl 10 (by decide) k18 (fun _ h9 => h9) rfl dX3_controlRate_35 ?_
    refine lv_iconst (v := 1) hx hb dX3_controlRate_38 (by decide) ?_
    refine lv_iadd hx hb dX3_controlRate_39 ?_
    refine lv_bipush (v := 100) hx hb dX3_controlRate_40 (by decide) ?_
    refine va_mmin hx hb (by rw [hml]; exact hl.1.symm) hown (hts (.methodLink RX3 80 Lib.Math.min.name) (by decide +kernel)) (hts (.static Lib.Math.min.name) (by decide +kernel)) (hts (.initialized "java/lang/Math") (by decide +kernel)) (hts (.code Lib.Math.min.name Lib.Math.min.code 2 (some .int)) (by decide +kernel)) (Nat.le_of_ble_eq_true rfl) (Nat.le_of_ble_eq_true rfl) (Nat.zero_le _) (Nat.zero_le _) dX3_controlRate_42 ?_
    refine mm_put (C := RX3) (T := TX3) (N := 19) (ci := 3) (ty := .int) hx hb hts inX3 tyX3 tyX3_ok nmX3 hown hK hM hS 3 pn0 hpn0 rfl rfl 10 (by decide) k18 (fun _ h9 => h9) rfl (by decide +kernel) rfl rfl (Nat.le_of_ble_eq_true rfl) (if (100 : Int32) < ((u_1.2 3 pn0 10) + (1 : Int32)) then (100 : Int32) else ((u_1.2 3 pn0 10) + (1 : Int32))) rfl dX3_controlRate_45 (fun H locs hM hS => ?_)
    have hW := xW_mu (k := 3) (n := pn0) (t := 10) (x := (if (100 : Int32) < ((u_1.2 3 pn0 10) + (1 : Int32)) then (100 : Int32) else ((u_1.2 3 pn0 10) + (1 : Int32)))) hW (fun h9 => Bool.noConfusion (show false = true from h9))
    have e9 : (mu u_1.2 3 pn0 10 (if (100 : Int32) < ((u_1.2 3 pn0 10) + (1 : Int32)) then (100 : Int32) else ((u_1.2 3 pn0 10) + (1 : Int32)))) = res := Option.some.inj h
    subst e9
    exact W.vret hx hb hr (fun t9 ht9 hW9 => ⟨⟨(), rfl, trivial, xM_of hM hK hW hAs hS.1 ht9 hW9⟩, hS.F ht9⟩) hS.2.2 dX3_controlRate_48
  · have h := iteF c_2 h
    refine lv_aload_n hx hb dX3_controlRate_14 rfl (lv_at hl 0 rfl) ?_
    refine lv_iconst (v := 3) hx hb dX3_controlRate_15 (by decide) ?_
    refine lv_aload_n hx hb dX3_controlRate_16 rfl (lv_at hl 0 rfl) ?_
    refine mm_get (C := RX3) (T := TX3) (N := 19) (ci := 3) hx hb hts inX3 hown hK hM 3 pn0 hpn0 rfl rfl 10 (by decide) k18 (fun _ h9 => h9) rfl dX3_controlRate_17 ?_
    refine lv_imul hx hb dX3_controlRate_20 ?_
    refine lv_iconst (v := 4) hx hb dX3_controlRate_21 (by decide) ?_
    refine lv_idiv hx hb dX3_controlRate_22 (by decide) ?_
    refine lv_iconst (v := 1) hx hb dX3_controlRate_23 (by decide) ?_
    refine va_mmax hx hb (by rw [hml]; exact hl.1.symm) hown (hts (.methodLink RX3 147 Lib.Math.max.name) (by decide +kernel)) (hts (.static Lib.Math.max.name) (by decide +kernel)) (hts (.initialized "java/lang/Math") (by decide +kernel)) (hts (.code Lib.Math.max.name Lib.Math.max.code 2 (some .int)) (by decide +kernel)) (Nat.le_of_ble_eq_true rfl) (Nat.le_of_ble_eq_true rfl) (Nat.zero_le _) (Nat.zero_le _) dX3_controlRate_24 ?_
    refine mm_put (C := RX3) (T := TX3) (N := 19) (ci := 3) (ty := .int) hx hb hts inX3 tyX3 tyX3_ok nmX3 hown hK hM hS 3 pn0 hpn0 rfl rfl 10 (by decide) k18 (fun _ h9 => h9) rfl (by decide +kernel) rfl rfl (Nat.le_of_ble_eq_true rfl) (if (((3 : Int32) * (u_1.2 3 pn0 10)) / (4 : Int32)) < (1 : Int32) then (1 : Int32) else (((3 : Int32) * (u_1.2 3 pn0 10)) / (4 : Int32))) rfl dX3_controlRate_27 (fun H locs hM hS => ?_)
    have hW := xW_mu (k := 3) (n := pn0) (t := 10) (x := (if (((3 : Int32) * (u_1.2 3 pn0 10)) / (4 : Int32)) < (1 : Int32) then (1 : Int32) else (((3 : Int32) * (u_1.2 3 pn0 10)) / (4 : Int32)))) hW (fun h9 => Bool.noConfusion (show false = true from h9))
    refine lv_goto (tgt := 48) hx hb dX3_controlRate_30 (by decide) ?_
    have e9 : (mu u_1.2 3 pn0 10 (if (((3 : Int32) * (u_1.2 3 pn0 10)) / (4 : Int32)) < (1 : Int32) then (1 : Int32) else (((3 : Int32) * (u_1.2 3 pn0 10)) / (4 : Int32)))) = res := Option.some.inj h
    subst e9
    exact W.vret hx hb hr (fun t9 ht9 hW9 => ⟨⟨(), rfl, trivial, xM_of hM hK hW hAs hS.1 ht9 hW9⟩, hS.F ht9⟩) hS.2.2 dX3_controlRate_48
/-! X3_control -/
def jnX3_control_16 (L : Nat → Nat → Nat)  (n0 : Nat) (V : mM) (c0 : Nat × Nat) : Option (mM) := if (V 3 n0 13) ≤ 0 then (some V) else (if (V 21 n0 2) ≤ 0 then (some V) else ((fX3_controlRate L n0 V c0).bind fun u_3 => some u_3))
def fX3_control (L : Nat → Nat → Nat) (pn0 : Nat) (V0 : mM) (c0 : Nat × Nat) : Option (mM) := (fX3_controlWorkers L pn0 V0 c0).bind fun u_4 => if (u_4 3 pn0 0) = (4 : Int32) then (jnX3_control_16 L pn0 u_4 c0) else ((fX3_controlBatch L pn0 u_4 c0).bind fun u_6 => jnX3_control_16 L pn0 u_6 c0)
set_option maxHeartbeats 4000000 in
set_option maxRecDepth 100000 in
theorem kX3_control (l : Launch) {dC : Nat → ClassId} {dI : Nat → Nat → Nat} {A : Nat → Prop} {ad : Nat → Nat → Nat} {cnt : Nat} {L : Nat → Nat → Nat} {cI cS cW : ClassId} {q : Nat × Nat} (hsh : xSh cnt L) (pn0 : Nat) (V0 : mM) (c0 : Nat × Nat) {res : mM} (h : fX3_control L pn0 V0 c0 = some res) (hpn0 : xex cnt L 3 pn0) : Met l yX3_control wsX3_control ({ frames := 2, cells := 0, slots := 0, locals := 42 } : Room) (va_Pc [.ref (ad 3 pn0)] (fun U => xM dC dI A ad cnt L cI cS cW q V0 c0 U)) (va_Qv (fun (_ : Unit) => True) (fun _ t9 => xM dC dI A ad cnt L cI cS cW q res c0 t9) A) 0 0 A := by
  refine Met.ofW (cc := cX3_control) (maxL := 1) (ret := none) (by decide) rfl ?_
  intro p e s m args below meth cd s₁ B hml hv
  obtain ⟨rfl, hM, hK, hW, hAs⟩ := hv
  have hx := B.exec
  have hb := B.bytes
  have hr := B.returns
  have hts := atoms_spec (ws := wsX3_control) B.pre
  have hown : s.vm.findClass RX3 = some m.cls := findClass_of_methodNamed B.named
  have hlocks := B.notSynchronized
  have hS : va_S A s.heap s.heap [] := va_S.rf
  have k133 := hts (.fieldLink RX3 133 "StageDesk$Stage" "goal" "I") (by decide +kernel)
  have k12 := hts (.fieldLink RX3 12 "StageDesk$Stage" "times" "LStageDesk$Times;") (by decide +kernel)
  have k136 := hts (.fieldLink RX3 136 "StageDesk$Times" "size" "I") (by decide +kernel)
  have k34 := hts (.fieldLink RX3 34 "StageDesk$Stage" "sort" "I") (by decide +kernel)
  have inX3 : ∀ w ∈ u_ws RX3 TX3 19, w ∈ wsX3_control := by decide +kernel
  have inX5 : ∀ w ∈ u_ws RX5 TX5 3, w ∈ wsX3_control := by decide +kernel
  have hb16 : ∀ (n0 : Nat) (V : mM), jnX3_control_16 L n0 V c0 = some res → ∀ (H : Heap) (locs : List Loc), xex cnt L 3 n0 → mP (dC, dI) vwCl A (xad ad q) (xce cI cS cW ad q L c0) (xex cnt L) V H → xW cnt V → va_S A s.heap H locs → ∀ (ls : Array Slot), lv_has ls 1 [(0, .ref (ad 3 n0))] → W p l e (headSpec wsX3_control ({ frames := 2, cells := 0, slots := 0, locals := 42 } : Room)).room s m ([.ref (ad 3 pn0)] : List Value).toArray below meth cd H locs 0 0 (MQ below (va_Qv (fun (_ : Unit) => True) (fun _ t9 => xM dC dI A ad cnt L cI cS cW q res c0 t9) A) ([.ref (ad 3 pn0)] : List Value).toArray s 0 0 A) (F0 m 16 ls []) := by
    intro  n0 V h H locs hn0 hM hW hS ls hl
    unfold jnX3_control_16 at h
    refine lv_aload_n hx hb dX3_control_16 rfl (lv_at hl 0 rfl) ?_
    refine mm_get (C := RX3) (T := TX3) (N := 19) (ci := 3) hx hb hts inX3 hown hK hM 3 n0 hn0 rfl rfl 13 (by decide) k133 (fun _ h9 => h9) rfl dX3_control_17 ?_
    refine lv_if_le (tgt := 37) hx hb dX3_control_20 (by decide) (fun c_1 => ?_) (fun c_1 => ?_)
    · have h := iteT c_1 h
      have e9 : V = res := Option.some.inj h
      subst e9
      exact W.vret hx hb hr (fun t9 ht9 hW9 => ⟨⟨(), rfl, trivial, xM_of hM hK hW hAs hS.1 ht9 hW9⟩, hS.F ht9⟩) hS.2.2 dX3_control_37
    · have h := iteF c_1 h
      refine lv_aload_n hx hb dX3_control_23 rfl (lv_at hl 0 rfl) ?_
      refine mm_get (C := RX3) (T := TX3) (N := 19) (ci := 3) hx hb hts inX3 hown hK hM 3 n0 hn0 rfl rfl 5 (by decide) k12 (fun _ h9 => h9) rfl dX3_control_24 ?_
      refine mm_get (C := RX5) (T := TX5) (N := 3) (ci := 5) hx hb hts inX5 hown hK hM 21 n0 (xe3_t hn0) rfl rfl 2 (by decide) k136 (fun _ h9 => h9) rfl dX3_control_27 ?_
      refine lv_if_le (tgt := 37) hx hb dX3_control_30 (by decide) (fun c_2 => ?_) (fun c_2 => ?_)
      · have h := iteT c_2 h
        have e9 : V = res := Option.some.inj h
        subst e9
        exact W.vret hx hb hr (fun t9 ht9 hW9 => ⟨⟨(), rfl, trivial, xM_of hM hK hW hAs hS.1 ht9 hW9⟩, hS.F ht9⟩) hS.2.2 dX3_control_37
      · have h := iteF c_2 h
        refine lv_aload_n hx hb dX3_control_33 rfl (lv_at hl 0 rfl) ?_
        obtain ⟨u_3, hu_3, h⟩ := bindS h
        refine va_callv (va_runV (As := []) (rest := []) ⟨hx, hb, hml, hown, hts⟩ (kX3_controlRate l hsh n0 V c0 hu_3 hn0) (cwV 0 hts gX3_control_X3_controlRate rfl rfl rfl (by decide +kernel) ⟨Nat.le_of_ble_eq_true rfl, Nat.le_of_ble_eq_true rfl⟩) ⟨fun a U g9 mk w9 => ⟨w9.1, xM_calling w9.2⟩, mP_recv (q := (RX3, TX3, 19)) hK hM hn0 rfl rfl, fun U hU hWm => ⟨rfl, xM_of hM hK hW hAs hS.1 hU hWm⟩⟩ rfl rfl hl.1 rfl (lv_room (Nat.le_of_ble_eq_true rfl)) dX3_control_34 ⟨Nat.le_of_ble_eq_true rfl, Nat.le_of_ble_eq_true rfl⟩) hS (fun _ _ h9 => h9) (fun _ h9 => h9) (fun u9 t9 H locs ht9 _ hw9 hB9 _ _ hS => ?_)
        obtain ⟨hM, -, hW, -⟩ := hB9
        rw [ht9] at hM
        have e9 : u_3 = res := Option.some.inj h
        subst e9
        exact W.vret hx hb hr (fun t9 ht9 hW9 => ⟨⟨(), rfl, trivial, xM_of hM hK hW hAs hS.1 ht9 hW9⟩, hS.F ht9⟩) hS.2.2 dX3_control_37
  have hl := lv_entry ([.ref (ad 3 pn0)]) (n := 1) (Nat.le_of_ble_eq_true rfl)
  rw [lg_entry_eq]
  generalize (lg_sl ([.ref (ad 3 pn0)]) ++ List.replicate (1 - (lg_sl ([.ref (ad 3 pn0)])).length) Slot.unset).toArray = ls at hl ⊢
  have hl : lv_has ls 1 [(0, .ref (ad 3 pn0))] := hl
  unfold fX3_control at h
  refine lv_aload_n hx hb dX3_control_0 rfl (lv_at hl 0 rfl) ?_
  obtain ⟨u_4, hu_4, h⟩ := bindS h
  refine va_callv (va_runV (As := []) (rest := []) ⟨hx, hb, hml, hown, hts⟩ (kX3_controlWorkers l hsh pn0 V0 c0 hu_4 hpn0) (cwV 0 hts gX3_control_X3_controlWorkers rfl rfl rfl (by decide +kernel) ⟨Nat.le_of_ble_eq_true rfl, Nat.le_of_ble_eq_true rfl⟩) ⟨fun a U g9 mk w9 => ⟨w9.1, xM_calling w9.2⟩, mP_recv (q := (RX3, TX3, 19)) hK hM hpn0 rfl rfl, fun U hU hWm => ⟨rfl, xM_of hM hK hW hAs hS.1 hU hWm⟩⟩ rfl rfl hl.1 rfl (lv_room (Nat.le_of_ble_eq_true rfl)) dX3_control_1 ⟨Nat.le_of_ble_eq_true rfl, Nat.le_of_ble_eq_true rfl⟩) hS (fun _ _ h9 => h9) (fun _ h9 => h9) (fun u9 t9 H locs ht9 _ hw9 hB9 _ _ hS => ?_)
  obtain ⟨hM, -, hW, -⟩ := hB9
  rw [ht9] at hM
  refine lv_aload_n hx hb dX3_control_4 rfl (lv_at hl 0 rfl) ?_
  refine mm_get (C := RX3) (T := TX3) (N := 19) (ci := 3) hx hb hts inX3 hown hK hM 3 pn0 hpn0 rfl rfl 0 (by decide) k34 (fun _ h9 => h9) rfl dX3_control_5 ?_
  refine lv_iconst (v := 4) hx hb dX3_control_8 (by decide) ?_
  refine lv_icmp_eq (tgt := 16) hx hb dX3_control_9 (by decide) (fun c_5 => ?_) (fun c_5 => ?_)
  · have h := iteT c_5 h
    exact hb16 _ _ h _ _ hpn0 hM hW hS ls (lv_sub hl [0] rfl)
  · have h := iteF c_5 h
    refine lv_aload_n hx hb dX3_control_12 rfl (lv_at hl 0 rfl) ?_
    obtain ⟨u_6, hu_6, h⟩ := bindS h
    refine va_callv (va_runV (As := []) (rest := []) ⟨hx, hb, hml, hown, hts⟩ (kX3_controlBatch l hsh pn0 u_4 c0 hu_6 hpn0) (cwV 0 hts gX3_control_X3_controlBatch rfl rfl rfl (by decide +kernel) ⟨Nat.le_of_ble_eq_true rfl, Nat.le_of_ble_eq_true rfl⟩) ⟨fun a U g9 mk w9 => ⟨w9.1, xM_calling w9.2⟩, mP_recv (q := (RX3, TX3, 19)) hK hM hpn0 rfl rfl, fun U hU hWm => ⟨rfl, xM_of hM hK hW hAs hS.1 hU hWm⟩⟩ rfl rfl hl.1 rfl (lv_room (Nat.le_of_ble_eq_true rfl)) dX3_control_13 ⟨Nat.le_of_ble_eq_true rfl, Nat.le_of_ble_eq_true rfl⟩) hS (fun _ _ h9 => h9) (fun _ h9 => h9) (fun u9 t9 H locs ht9 _ hw9 hB9 _ _ hS => ?_)
    obtain ⟨hM, -, hW, -⟩ := hB9
    rw [ht9] at hM
    exact hb16 _ _ h _ _ hpn0 hM hW hS ls (lv_sub hl [0] rfl)
/-! X3_figure -/
def fX3_figure (L : Nat → Nat → Nat) (pn0 : Nat) (px1 : Int32) (V0 : mM) (c0 : Nat × Nat) : Option (Int32 × mM) := if px1 = 0 then (some ((V0 11 (32 + pn0) 3), V0)) else if px1 = 1 then (some ((V0 3 pn0 9), V0)) else if px1 = 2 then (some ((V0 3 pn0 14), V0)) else if px1 = 3 then (some ((V0 3 pn0 15), V0)) else if px1 = 4 then (some ((V0 3 pn0 10), V0)) else if px1 = 5 then (some ((V0 3 pn0 12), V0)) else if px1 = 6 then (some ((V0 3 pn0 16), V0)) else if px1 = 7 then (some ((V0 3 pn0 17), V0)) else if px1 = 8 then (some ((V0 3 pn0 18), V0)) else if px1 = 9 then ((fX5_response L pn0 V0 c0).bind fun u_11 => some (u_11.1, u_11.2)) else (some ((-1 : Int32), V0))
set_option maxHeartbeats 4000000 in
set_option maxRecDepth 100000 in
theorem kX3_figure (l : Launch) {dC : Nat → ClassId} {dI : Nat → Nat → Nat} {A : Nat → Prop} {ad : Nat → Nat → Nat} {cnt : Nat} {L : Nat → Nat → Nat} {cI cS cW : ClassId} {q : Nat × Nat} (hsh : xSh cnt L) (pn0 : Nat) (px1 : Int32) (V0 : mM) (c0 : Nat × Nat) {res : Int32 × mM} (h : fX3_figure L pn0 px1 V0 c0 = some res) (hpn0 : xex cnt L 3 pn0) : Met l yX3_figure wsX3_figure ({ frames := 1, cells := 0, slots := 0, locals := 22 } : Room) (va_Pc [.ref (ad 3 pn0), .int px1] (fun U => xM dC dI A ad cnt L cI cS cW q V0 c0 U)) (va_Qi (fun r9 (_ : Unit) => r9 = res.1) (fun _ t9 => xM dC dI A ad cnt L cI cS cW q res.2 c0 t9) A) 0 0 A := by
  refine Met.ofW (cc := cX3_figure) (maxL := 2) (ret := (some .int)) (by decide) rfl ?_
  intro p e s m args below meth cd s₁ B hml hv
  obtain ⟨rfl, hM, hK, hW, hAs⟩ := hv
  have hx := B.exec
  have hb := B.bytes
  have hr := B.returns
  have hts := atoms_spec (ws := wsX3_figure) B.pre
  have hown : s.vm.findClass RX3 = some m.cls := findClass_of_methodNamed B.named
  have hlocks := B.notSynchronized
  have hS : va_S A s.heap s.heap [] := va_S.rf
  have k48 := hts (.fieldLink RX3 48 "StageDesk$Stage" "queue" "LStageDesk$EventRow;") (by decide +kernel)
  have k59 := hts (.fieldLink RX3 59 "StageDesk$EventRow" "size" "I") (by decide +kernel)
  have k62 := hts (.fieldLink RX3 62 "StageDesk$Stage" "reserved" "I") (by decide +kernel)
  have k28 := hts (.fieldLink RX3 28 "StageDesk$Stage" "workerCount" "I") (by decide +kernel)
  have k31 := hts (.fieldLink RX3 31 "StageDesk$Stage" "batchSize" "I") (by decide +kernel)
  have k18 := hts (.fieldLink RX3 18 "StageDesk$Stage" "rate" "I") (by decide +kernel)
  have k25 := hts (.fieldLink RX3 25 "StageDesk$Stage" "tokens" "I") (by decide +kernel)
  have k73 := hts (.fieldLink RX3 73 "StageDesk$Stage" "refusals" "I") (by decide +kernel)
  have k153 := hts (.fieldLink RX3 153 "StageDesk$Stage" "batchesHandled" "I") (by decide +kernel)
  have k156 := hts (.fieldLink RX3 156 "StageDesk$Stage" "eventsHandled" "I") (by decide +kernel)
  have k12 := hts (.fieldLink RX3 12 "StageDesk$Stage" "times" "LStageDesk$Times;") (by decide +kernel)
  have inX3 : ∀ w ∈ u_ws RX3 TX3 19, w ∈ wsX3_figure := by decide +kernel
  have inX1 : ∀ w ∈ u_ws RX1 TX1 4, w ∈ wsX3_figure := by decide +kernel
  have hl := lv_entry ([.ref (ad 3 pn0), .int px1]) (n := 2) (Nat.le_of_ble_eq_true rfl)
  rw [lg_entry_eq]
  generalize (lg_sl ([.ref (ad 3 pn0), .int px1]) ++ List.replicate (2 - (lg_sl ([.ref (ad 3 pn0), .int px1])).length) Slot.unset).toArray = ls at hl ⊢
  have hl : lv_has ls 2 [(0, .ref (ad 3 pn0)), (1, .int px1)] := hl
  unfold fX3_figure at h
  refine lv_iload_n hx hb dX3_figure_0 rfl (lv_at hl 1 rfl) ?_
  by_cases w_1 : px1 = 0
  · have h := iteT w_1 h
    refine lv_tableIn (off := 55) (tgt := 56) hx hb dX3_figure_1 (by rw [w_1]; decide) (by rw [w_1]; decide) (by rw [w_1]; decide) (by decide) ?_
    refine lv_aload_n hx hb dX3_figure_56 rfl (lv_at hl 0 rfl) ?_
    refine mm_get (C := RX3) (T := TX3) (N := 19) (ci := 3) hx hb hts inX3 hown hK hM 3 pn0 hpn0 rfl rfl 3 (by decide) k48 (fun _ h9 => h9) rfl dX3_figure_57 ?_
    refine mm_get (C := RX1) (T := TX1) (N := 4) (ci := 1) hx hb hts inX1 hown hK hM 11 (32 + pn0) (xe3_q hpn0) rfl rfl 3 (by decide) k59 (fun _ h9 => h9) rfl dX3_figure_60 ?_
    have e9 : ((V0 11 (32 + pn0) 3), V0) = res := Option.some.inj h
    subst e9
    exact W.iret (v := (V0 11 (32 + pn0) 3)) hx hb hr (fun t9 ht9 hW9 => ⟨⟨_, (), rfl, rfl, xM_of hM hK hW hAs hS.1 ht9 hW9⟩, hS.F ht9⟩) hS.2.2 dX3_figure_63
  have h := iteF w_1 h
  by_cases w_2 : px1 = 1
  · have h := iteT w_2 h
    refine lv_tableIn (off := 63) (tgt := 64) hx hb dX3_figure_1 (by rw [w_2]; decide) (by rw [w_2]; decide) (by rw [w_2]; decide) (by decide) ?_
    refine lv_aload_n hx hb dX3_figure_64 rfl (lv_at hl 0 rfl) ?_
    refine mm_get (C := RX3) (T := TX3) (N := 19) (ci := 3) hx hb hts inX3 hown hK hM 3 pn0 hpn0 rfl rfl 9 (by decide) k62 (fun _ h9 => h9) rfl dX3_figure_65 ?_
    have e9 : ((V0 3 pn0 9), V0) = res := Option.some.inj h
    subst e9
    exact W.iret (v := (V0 3 pn0 9)) hx hb hr (fun t9 ht9 hW9 => ⟨⟨_, (), rfl, rfl, xM_of hM hK hW hAs hS.1 ht9 hW9⟩, hS.F ht9⟩) hS.2.2 dX3_figure_68
  have h := iteF w_2 h
  by_cases w_3 : px1 = 2
  · have h := iteT w_3 h
    refine lv_tableIn (off := 68) (tgt := 69) hx hb dX3_figure_1 (by rw [w_3]; decide) (by rw [w_3]; decide) (by rw [w_3]; decide) (by decide) ?_
    refine lv_aload_n hx hb dX3_figure_69 rfl (lv_at hl 0 rfl) ?_
    refine mm_get (C := RX3) (T := TX3) (N := 19) (ci := 3) hx hb hts inX3 hown hK hM 3 pn0 hpn0 rfl rfl 14 (by decide) k28 (fun _ h9 => h9) rfl dX3_figure_70 ?_
    have e9 : ((V0 3 pn0 14), V0) = res := Option.some.inj h
    subst e9
    exact W.iret (v := (V0 3 pn0 14)) hx hb hr (fun t9 ht9 hW9 => ⟨⟨_, (), rfl, rfl, xM_of hM hK hW hAs hS.1 ht9 hW9⟩, hS.F ht9⟩) hS.2.2 dX3_figure_73
  have h := iteF w_3 h
  by_cases w_4 : px1 = 3
  · have h := iteT w_4 h
    refine lv_tableIn (off := 73) (tgt := 74) hx hb dX3_figure_1 (by rw [w_4]; decide) (by rw [w_4]; decide) (by rw [w_4]; decide) (by decide) ?_
    refine lv_aload_n hx hb dX3_figure_74 rfl (lv_at hl 0 rfl) ?_
    refine mm_get (C := RX3) (T := TX3) (N := 19) (ci := 3) hx hb hts inX3 hown hK hM 3 pn0 hpn0 rfl rfl 15 (by decide) k31 (fun _ h9 => h9) rfl dX3_figure_75 ?_
    have e9 : ((V0 3 pn0 15), V0) = res := Option.some.inj h
    subst e9
    exact W.iret (v := (V0 3 pn0 15)) hx hb hr (fun t9 ht9 hW9 => ⟨⟨_, (), rfl, rfl, xM_of hM hK hW hAs hS.1 ht9 hW9⟩, hS.F ht9⟩) hS.2.2 dX3_figure_78
  have h := iteF w_4 h
  by_cases w_5 : px1 = 4
  · have h := iteT w_5 h
    refine lv_tableIn (off := 78) (tgt := 79) hx hb dX3_figure_1 (by rw [w_5]; decide) (by rw [w_5]; decide) (by rw [w_5]; decide) (by decide) ?_
    refine lv_aload_n hx hb dX3_figure_79 rfl (lv_at hl 0 rfl) ?_
    refine mm_get (C := RX3) (T := TX3) (N := 19) (ci := 3) hx hb hts inX3 hown hK hM 3 pn0 hpn0 rfl rfl 10 (by decide) k18 (fun _ h9 => h9) rfl dX3_figure_80 ?_
    have e9 : ((V0 3 pn0 10), V0) = res := Option.some.inj h
    subst e9
    exact W.iret (v := (V0 3 pn0 10)) hx hb hr (fun t9 ht9 hW9 => ⟨⟨_, (), rfl, rfl, xM_of hM hK hW hAs hS.1 ht9 hW9⟩, hS.F ht9⟩) hS.2.2 dX3_figure_83
  have h := iteF w_5 h
  by_cases w_6 : px1 = 5
  · have h := iteT w_6 h
    refine lv_tableIn (off := 83) (tgt := 84) hx hb dX3_figure_1 (by rw [w_6]; decide) (by rw [w_6]; decide) (by rw [w_6]; decide) (by decide) ?_
    refine lv_aload_n hx hb dX3_figure_84 rfl (lv_at hl 0 rfl) ?_
    refine mm_get (C := RX3) (T := TX3) (N := 19) (ci := 3) hx hb hts inX3 hown hK hM 3 pn0 hpn0 rfl rfl 12 (by decide) k25 (fun _ h9 => h9) rfl dX3_figure_85 ?_
    have e9 : ((V0 3 pn0 12), V0) = res := Option.some.inj h
    subst e9
    exact W.iret (v := (V0 3 pn0 12)) hx hb hr (fun t9 ht9 hW9 => ⟨⟨_, (), rfl, rfl, xM_of hM hK hW hAs hS.1 ht9 hW9⟩, hS.F ht9⟩) hS.2.2 dX3_figure_88
  have h := iteF w_6 h
  by_cases w_7 : px1 = 6
  · have h := iteT w_7 h
    refine lv_tableIn (off := 88) (tgt := 89) hx hb dX3_figure_1 (by rw [w_7]; decide) (by rw [w_7]; decide) (by rw [w_7]; decide) (by decide) ?_
    refine lv_aload_n hx hb dX3_figure_89 rfl (lv_at hl 0 rfl) ?_
    refine mm_get (C := RX3) (T := TX3) (N := 19) (ci := 3) hx hb hts inX3 hown hK hM 3 pn0 hpn0 rfl rfl 16 (by decide) k73 (fun _ h9 => h9) rfl dX3_figure_90 ?_
    have e9 : ((V0 3 pn0 16), V0) = res := Option.some.inj h
    subst e9
    exact W.iret (v := (V0 3 pn0 16)) hx hb hr (fun t9 ht9 hW9 => ⟨⟨_, (), rfl, rfl, xM_of hM hK hW hAs hS.1 ht9 hW9⟩, hS.F ht9⟩) hS.2.2 dX3_figure_93
  have h := iteF w_7 h
  by_cases w_8 : px1 = 7
  · have h := iteT w_8 h
    refine lv_tableIn (off := 93) (tgt := 94) hx hb dX3_figure_1 (by rw [w_8]; decide) (by rw [w_8]; decide) (by rw [w_8]; decide) (by decide) ?_
    refine lv_aload_n hx hb dX3_figure_94 rfl (lv_at hl 0 rfl) ?_
    refine mm_get (C := RX3) (T := TX3) (N := 19) (ci := 3) hx hb hts inX3 hown hK hM 3 pn0 hpn0 rfl rfl 17 (by decide) k153 (fun _ h9 => h9) rfl dX3_figure_95 ?_
    have e9 : ((V0 3 pn0 17), V0) = res := Option.some.inj h
    subst e9
    exact W.iret (v := (V0 3 pn0 17)) hx hb hr (fun t9 ht9 hW9 => ⟨⟨_, (), rfl, rfl, xM_of hM hK hW hAs hS.1 ht9 hW9⟩, hS.F ht9⟩) hS.2.2 dX3_figure_98
  have h := iteF w_8 h
  by_cases w_9 : px1 = 8
  · have h := iteT w_9 h
    refine lv_tableIn (off := 98) (tgt := 99) hx hb dX3_figure_1 (by rw [w_9]; decide) (by rw [w_9]; decide) (by rw [w_9]; decide) (by decide) ?_
    refine lv_aload_n hx hb dX3_figure_99 rfl (lv_at hl 0 rfl) ?_
    refine mm_get (C := RX3) (T := TX3) (N := 19) (ci := 3) hx hb hts inX3 hown hK hM 3 pn0 hpn0 rfl rfl 18 (by decide) k156 (fun _ h9 => h9) rfl dX3_figure_100 ?_
    have e9 : ((V0 3 pn0 18), V0) = res := Option.some.inj h
    subst e9
    exact W.iret (v := (V0 3 pn0 18)) hx hb hr (fun t9 ht9 hW9 => ⟨⟨_, (), rfl, rfl, xM_of hM hK hW hAs hS.1 ht9 hW9⟩, hS.F ht9⟩) hS.2.2 dX3_figure_103
  have h := iteF w_9 h
  by_cases w_10 : px1 = 9
  · have h := iteT w_10 h
    refine lv_tableIn (off := 103) (tgt := 104) hx hb dX3_figure_1 (by rw [w_10]; decide) (by rw [w_10]; decide) (by rw [w_10]; decide) (by decide) ?_
    refine lv_aload_n hx hb dX3_figure_104 rfl (lv_at hl 0 rfl) ?_
    refine mm_get (C := RX3) (T := TX3) (N := 19) (ci := 3) hx hb hts inX3 hown hK hM 3 pn0 hpn0 rfl rfl 5 (by decide) k12 (fun _ h9 => h9) rfl dX3_figure_105 ?_
    obtain ⟨u_11, hu_11, h⟩ := bindS h
    refine va_calli (va_runV (As := []) (rest := []) ⟨hx, hb, hml, hown, hts⟩ (kX5_response l hsh pn0 V0 c0 hu_11 (xe3_t hpn0)) (cwV 0 hts gX3_figure_X5_response rfl rfl rfl (by decide +kernel) ⟨Nat.le_of_ble_eq_true rfl, Nat.le_of_ble_eq_true rfl⟩) ⟨fun a U g9 mk w9 => ⟨w9.1, xM_calling w9.2⟩, mP_recv (q := (RX5, TX5, 3)) hK hM (xe3_t hpn0) rfl rfl, fun U hU hWm => ⟨rfl, xM_of hM hK hW hAs hS.1 hU hWm⟩⟩ rfl rfl hl.1 rfl (lv_room (Nat.le_of_ble_eq_true rfl)) dX3_figure_108 ⟨Nat.le_of_ble_eq_true rfl, Nat.le_of_ble_eq_true rfl⟩) hS (fun _ _ h9 => h9) (fun _ h9 => h9) (fun r9 u9 t9 H locs ht9 _ hw9 hB9 _ _ hS => ?_)
    rw [show r9 = u_11.1 from hw9]
    obtain ⟨hM, -, hW, -⟩ := hB9
    rw [ht9] at hM
    have e9 : (u_11.1, u_11.2) = res := Option.some.inj h
    subst e9
    exact W.iret (v := u_11.1) hx hb hr (fun t9 ht9 hW9 => ⟨⟨_, (), rfl, rfl, xM_of hM hK hW hAs hS.1 ht9 hW9⟩, hS.F ht9⟩) hS.2.2 dX3_figure_111
  have h := iteF w_10 h
  refine lv_tableOut (tgt := 112) hx hb dX3_figure_1 (sw_out9 w_1 w_2 w_3 w_4 w_5 w_6 w_7 w_8 w_9 w_10) (by decide) ?_
  refine lv_iconst (v := (-1)) hx hb dX3_figure_112 (by decide) ?_
  have e9 : ((-1 : Int32), V0) = res := Option.some.inj h
  subst e9
  exact W.iret (v := (-1 : Int32)) hx hb hr (fun t9 ht9 hW9 => ⟨⟨_, (), rfl, rfl, xM_of hM hK hW hAs hS.1 ht9 hW9⟩, hS.F ht9⟩) hS.2.2 dX3_figure_113
