/-! X1_append -/
def fX1_append (L : Nat → Nat → Nat) (pn0 : Nat) (px1 : Int32) (px2 : Int32) (px3 : Int32) (V0 : mM) (c0 : Nat × Nat) : Option (mM) := if (V0 11 pn0 3) < (Int32.ofNat (L 11 pn0)) then (if bin (V0 11 pn0 3) (L 11 pn0) = true then (if bin ((mu V0 12 pn0 ((V0 11 pn0 3)).toNatClampNeg px1) 11 pn0 3) (L 11 pn0) = true then (if bin ((mu (mu V0 12 pn0 ((V0 11 pn0 3)).toNatClampNeg px1) 13 pn0 (((mu V0 12 pn0 ((V0 11 pn0 3)).toNatClampNeg px1) 11 pn0 3)).toNatClampNeg px2) 11 pn0 3) (L 11 pn0) = true then (some (mu (mu (mu (mu V0 12 pn0 ((V0 11 pn0 3)).toNatClampNeg px1) 13 pn0 (((mu V0 12 pn0 ((V0 11 pn0 3)).toNatClampNeg px1) 11 pn0 3)).toNatClampNeg px2) 14 pn0 (((mu (mu V0 12 pn0 ((V0 11 pn0 3)).toNatClampNeg px1) 13 pn0 (((mu V0 12 pn0 ((V0 11 pn0 3)).toNatClampNeg px1) 11 pn0 3)).toNatClampNeg px2) 11 pn0 3)).toNatClampNeg px3) 11 pn0 3 (((mu (mu (mu V0 12 pn0 ((V0 11 pn0 3)).toNatClampNeg px1) 13 pn0 (((mu V0 12 pn0 ((V0 11 pn0 3)).toNatClampNeg px1) 11 pn0 3)).toNatClampNeg px2) 14 pn0 (((mu (mu V0 12 pn0 ((V0 11 pn0 3)).toNatClampNeg px1) 13 pn0 (((mu V0 12 pn0 ((V0 11 pn0 3)).toNatClampNeg px1) 11 pn0 3)).toNatClampNeg px2) 11 pn0 3)).toNatClampNeg px3) 11 pn0 3) + (1 : Int32)))) else none) else none) else none) else (some V0)
set_option maxHeartbeats 4000000 in
set_option maxRecDepth 100000 in
theorem kX1_append (l : Launch) {dC : Nat → ClassId} {dI : Nat → Nat → Nat} {A : Nat → Prop} {ad : Nat → Nat → Nat} {cnt : Nat} {L : Nat → Nat → Nat} {cI cS cW : ClassId} {q : Nat × Nat} (hsh : xSh cnt L) (pn0 : Nat) (px1 : Int32) (px2 : Int32) (px3 : Int32) (V0 : mM) (c0 : Nat × Nat) {res : mM} (h : fX1_append L pn0 px1 px2 px3 V0 c0 = some res) (hpn0 : xex cnt L 11 pn0) : Met l yX1_append wsX1_append ({ frames := 0, cells := 0, slots := 0, locals := 0 } : Room) (va_Pc [.ref (ad 11 pn0), .int px1, .int px2, .int px3] (fun U => xM dC dI A ad cnt L cI cS cW q V0 c0 U)) (va_Qv (fun (_ : Unit) => True) (fun _ t9 => xM dC dI A ad cnt L cI cS cW q res c0 t9) A) 0 0 A := by
  refine Met.ofW (cc := cX1_append) (maxL := 4) (ret := none) (by decide) rfl ?_
  intro p e s m args below meth cd s₁ B hml hv
  obtain ⟨rfl, hM, hK, hW, hAs⟩ := hv
  have hx := B.exec
  have hb := B.bytes
  have hr := B.returns
  have hts := atoms_spec (ws := wsX1_append) B.pre
  have hown : s.vm.findClass RX1 = some m.cls := findClass_of_methodNamed B.named
  have hlocks := B.notSynchronized
  have hS : va_S A s.heap s.heap [] := va_S.rf
  have k19 := hts (.fieldLink RX1 19 "StageDesk$EventRow" "size" "I") (by decide +kernel)
  have k7 := hts (.fieldLink RX1 7 "StageDesk$EventRow" "numbers" "[I") (by decide +kernel)
  have k13 := hts (.fieldLink RX1 13 "StageDesk$EventRow" "values" "[I") (by decide +kernel)
  have k16 := hts (.fieldLink RX1 16 "StageDesk$EventRow" "births" "[I") (by decide +kernel)
  have inX1 : ∀ w ∈ u_ws RX1 TX1 4, w ∈ wsX1_append := by decide +kernel
  have hl := lv_entry ([.ref (ad 11 pn0), .int px1, .int px2, .int px3]) (n := 4) (Nat.le_of_ble_eq_true rfl)
  rw [lg_entry_eq]
  generalize (lg_sl ([.ref (ad 11 pn0), .int px1, .int px2, .int px3]) ++ List.replicate (4 - (lg_sl ([.ref (ad 11 pn0), .int px1, .int px2, .int px3])).length) Slot.unset).toArray = ls at hl ⊢
  have hl : lv_has ls 4 [(0, .ref (ad 11 pn0)), (1, .int px1), (2, .int px2), (3, .int px3)] := hl
  unfold fX1_append at h
  refine lv_aload_n hx hb dX1_append_0 rfl (lv_at hl 0 rfl) ?_
  refine mm_get (C := RX1) (T := TX1) (N := 4) (ci := 1) hx hb hts inX1 hown hK hM 11 pn0 hpn0 rfl rfl 3 (by decide) k19 (fun _ h9 => h9) rfl dX1_append_1 ?_
  refine lv_aload_n hx hb dX1_append_4 rfl (lv_at hl 0 rfl) ?_
  refine mm_get (C := RX1) (T := TX1) (N := 4) (ci := 1) hx hb hts inX1 hown hK hM 11 pn0 hpn0 rfl rfl 0 (by decide) k7 (fun _ h9 => h9) rfl dX1_append_5 ?_
  refine mm_alen (v := (Int32.ofNat (L 11 pn0))) hx hb hK hM 12 pn0 (xe11_n hpn0) 0 rfl rfl rfl dX1_append_8 ?_
  refine lv_icmp_lt (tgt := 13) hx hb dX1_append_9 (by decide) (fun c_1 => ?_) (fun c_1 => ?_)
  · have h := iteT c_1 h
    refine lv_aload_n hx hb dX1_append_13 rfl (lv_at hl 0 rfl) ?_
    refine mm_get (C := RX1) (T := TX1) (N := 4) (ci := 1) hx hb hts inX1 hown hK hM 11 pn0 hpn0 rfl rfl 0 (by decide) k7 (fun _ h9 => h9) rfl dX1_append_14 ?_
    refine lv_aload_n hx hb dX1_append_17 rfl (lv_at hl 0 rfl) ?_
    refine mm_get (C := RX1) (T := TX1) (N := 4) (ci := 1) hx hb hts inX1 hown hK hM 11 pn0 hpn0 rfl rfl 3 (by decide) k19 (fun _ h9 => h9) rfl dX1_append_18 ?_
    refine lv_iload_n hx hb dX1_append_21 rfl (lv_at hl 1 rfl) ?_
    obtain ⟨b_2, h⟩ := iteS h
    refine mm_iast hx hb hK hM hS 12 pn0 (xe11_n hpn0) 0 rfl rfl (bin_in b_2) rfl dX1_append_22 (fun H locs hM hS => ?_)
    have hW := xW_mu (k := 12) (n := pn0) (t := ((V0 11 pn0 3)).toNatClampNeg) (x := px1) hW (fun h9 => Bool.noConfusion (show false = true from h9))
    refine lv_aload_n hx hb dX1_append_23 rfl (lv_at hl 0 rfl) ?_
    refine mm_get (C := RX1) (T := TX1) (N := 4) (ci := 1) hx hb hts inX1 hown hK hM 11 pn0 hpn0 rfl rfl 1 (by decide) k13 (fun _ h9 => h9) rfl dX1_append_24 ?_
    refine lv_aload_n hx hb dX1_append_27 rfl (lv_at hl 0 rfl) ?_
    refine mm_get (C := RX1) (T := TX1) (N := 4) (ci := 1) hx hb hts inX1 hown hK hM 11 pn0 hpn0 rfl rfl 3 (by decide) k19 (fun _ h9 => h9) rfl dX1_append_28 ?_
    refine lv_iload_n hx hb dX1_append_31 rfl (lv_at hl 2 rfl) ?_
    obtain ⟨b_3, h⟩ := iteS h
    refine mm_iast hx hb hK hM hS 13 pn0 (xe11_v hpn0) 0 rfl rfl (bin_in b_3) rfl dX1_append_32 (fun H locs hM hS => ?_)
    have hW := xW_mu (k := 13) (n := pn0) (t := (((mu V0 12 pn0 ((V0 11 pn0 3)).toNatClampNeg px1) 11 pn0 3)).toNatClampNeg) (x := px2) hW (fun h9 => Bool.noConfusion (show false = true from h9))
    refine lv_aload_n hx hb dX1_append_33 rfl (lv_at hl 0 rfl) ?_
    refine mm_get (C := RX1) (T := TX1) (N := 4) (ci := 1) hx hb hts inX1 hown hK hM 11 pn0 hpn0 rfl rfl 2 (by decide) k16 (fun _ h9 => h9) rfl dX1_append_34 ?_
    refine lv_aload_n hx hb dX1_append_37 rfl (lv_at hl 0 rfl) ?_
    refine mm_get (C := RX1) (T := TX1) (N := 4) (ci := 1) hx hb hts inX1 hown hK hM 11 pn0 hpn0 rfl rfl 3 (by decide) k19 (fun _ h9 => h9) rfl dX1_append_38 ?_
    refine lv_iload_n hx hb dX1_append_41 rfl (lv_at hl 3 rfl) ?_
    obtain ⟨b_4, h⟩ := iteS h
    refine mm_iast hx hb hK hM hS 14 pn0 (xe11_b hpn0) 0 rfl rfl (bin_in b_4) rfl dX1_append_42 (fun H locs hM hS => ?_)
    have hW := xW_mu (k := 14) (n := pn0) (t := (((mu (mu V0 12 pn0 ((V0 11 pn0 3)).toNatClampNeg px1) 13 pn0 (((mu V0 12 pn0 ((V0 11 pn0 3)).toNatClampNeg px1) 11 pn0 3)).toNatClampNeg px2) 11 pn0 3)).toNatClampNeg) (x := px3) hW (fun h9 => Bool.noConfusion (show false = true from h9))
    refine lv_aload_n hx hb dX1_append_43 rfl (lv_at hl 0 rfl) ?_
    refine lv_dup hx hb dX1_append_44 rfl ?_
    refine mm_get (C := RX1) (T := TX1) (N := 4) (ci := 1) hx hb hts inX1 hown hK hM 11 pn0 hpn0 rfl rfl 3 (by decide) k19 (fun _ h9 => h9) rfl dX1_append_45 ?_
    refine lv_iconst (v := 1) hx hb dX1_append_48 (by decide) ?_
    refine lv_iadd hx hb dX1_append_49 ?_
    refine mm_put (C := RX1) (T := TX1) (N := 4) (ci := 1) (ty := .int) hx hb hts inX1 tyX1 tyX1_ok nmX1 hown hK hM hS 11 pn0 hpn0 rfl rfl 3 (by decide) k19 (fun _ h9 => h9) rfl (by decide +kernel) rfl rfl (Nat.le_of_ble_eq_true rfl) (((mu (mu (mu V0 12 pn0 ((V0 11 pn0 3)).toNatClampNeg px1) 13 pn0 (((mu V0 12 pn0 ((V0 11 pn0 3)).toNatClampNeg px1) 11 pn0 3)).toNatClampNeg px2) 14 pn0 (((mu (mu V0 12 pn0 ((V0 11 pn0 3)).toNatClampNeg px1) 13 pn0 (((mu V0 12 pn0 ((V0 11 pn0 3)).toNatClampNeg px1) 11 pn0 3)).toNatClampNeg px2) 11 pn0 3)).toNatClampNeg px3) 11 pn0 3) + (1 : Int32)) rfl dX1_append_50 (fun H locs hM hS => ?_)
    have hW := xW_mu (k := 11) (n := pn0) (t := 3) (x := (((mu (mu (mu V0 12 pn0 ((V0 11 pn0 3)).toNatClampNeg px1) 13 pn0 (((mu V0 12 pn0 ((V0 11 pn0 3)).toNatClampNeg px1) 11 pn0 3)).toNatClampNeg px2) 14 pn0 (((mu (mu V0 12 pn0 ((V0 11 pn0 3)).toNatClampNeg px1) 13 pn0 (((mu V0 12 pn0 ((V0 11 pn0 3)).toNatClampNeg px1) 11 pn0 3)).toNatClampNeg px2) 11 pn0 3)).toNatClampNeg px3) 11 pn0 3) + (1 : Int32))) hW (fun h9 => Bool.noConfusion (show false = true from h9))
    have e9 : (mu (mu (mu (mu V0 12 pn0 ((V0 11 pn0 3)).toNatClampNeg px1) 13 pn0 (((mu V0 12 pn0 ((V0 11 pn0 3)).toNatClampNeg px1) 11 pn0 3)).toNatClampNeg px2) 14 pn0 (((mu (mu V0 12 pn0 ((V0 11 pn0 3)).toNatClampNeg px1) 13 pn0 (((mu V0 12 pn0 ((V0 11 pn0 3)).toNatClampNeg px1) 11 pn0 3)).toNatClampNeg px2) 11 pn0 3)).toNatClampNeg px3) 11 pn0 3 (((mu (mu (mu V0 12 pn0 ((V0 11 pn0 3)).toNatClampNeg px1) 13 pn0 (((mu V0 12 pn0 ((V0 11 pn0 3)).toNatClampNeg px1) 11 pn0 3)).toNatClampNeg px2) 14 pn0 (((mu (mu V0 12 pn0 ((V0 11 pn0 3)).toNatClampNeg px1) 13 pn0 (((mu V0 12 pn0 ((V0 11 pn0 3)).toNatClampNeg px1) 11 pn0 3)).toNatClampNeg px2) 11 pn0 3)).toNatClampNeg px3) 11 pn0 3) + (1 : Int32))) = res := Option.some.inj h
    subst e9
    exact W.vret hx hb hr (fun t9 ht9 hW9 => ⟨⟨(), rfl, trivial, xM_of hM hK hW hAs hS.1 ht9 hW9⟩, hS.F ht9⟩) hS.2.2 dX1_append_53
  · have h := iteF c_1 h
    have e9 : V0 = res := Option.some.inj h
    subst e9
    exact W.vret hx hb hr (fun t9 ht9 hW9 => ⟨⟨(), rfl, trivial, xM_of hM hK hW hAs hS.1 ht9 hW9⟩, hS.F ht9⟩) hS.2.2 dX1_append_12
/-! X1_dropFirst -/
def fX1_dropFirst (L : Nat → Nat → Nat) (pn0 : Nat) (px1 : Int32) (V0 : mM) (c0 : Nat × Nat) : Option (mM) := if bcp px1 (0 : Int32) ((V0 11 pn0 3) - px1) (L 11 pn0) (L 11 pn0) = true then (if bcp px1 (0 : Int32) ((V0 11 pn0 3) - px1) (L 11 pn0) (L 11 pn0) = true then (if bcp px1 (0 : Int32) ((V0 11 pn0 3) - px1) (L 11 pn0) (L 11 pn0) = true then (some (mu (mv (mv (mv V0 12 pn0 (va_cpy (V0 12 pn0) (V0 12 pn0) (px1).toNatClampNeg ((0 : Int32)).toNatClampNeg (((V0 11 pn0 3) - px1)).toNatClampNeg)) 13 pn0 (va_cpy ((mv V0 12 pn0 (va_cpy (V0 12 pn0) (V0 12 pn0) (px1).toNatClampNeg ((0 : Int32)).toNatClampNeg (((V0 11 pn0 3) - px1)).toNatClampNeg)) 13 pn0) ((mv V0 12 pn0 (va_cpy (V0 12 pn0) (V0 12 pn0) (px1).toNatClampNeg ((0 : Int32)).toNatClampNeg (((V0 11 pn0 3) - px1)).toNatClampNeg)) 13 pn0) (px1).toNatClampNeg ((0 : Int32)).toNatClampNeg (((V0 11 pn0 3) - px1)).toNatClampNeg)) 14 pn0 (va_cpy ((mv (mv V0 12 pn0 (va_cpy (V0 12 pn0) (V0 12 pn0) (px1).toNatClampNeg ((0 : Int32)).toNatClampNeg (((V0 11 pn0 3) - px1)).toNatClampNeg)) 13 pn0 (va_cpy ((mv V0 12 pn0 (va_cpy (V0 12 pn0) (V0 12 pn0) (px1).toNatClampNeg ((0 : Int32)).toNatClampNeg (((V0 11 pn0 3) - px1)).toNatClampNeg)) 13 pn0) ((mv V0 12 pn0 (va_cpy (V0 12 pn0) (V0 12 pn0) (px1).toNatClampNeg ((0 : Int32)).toNatClampNeg (((V0 11 pn0 3) - px1)).toNatClampNeg)) 13 pn0) (px1).toNatClampNeg ((0 : Int32)).toNatClampNeg (((V0 11 pn0 3) - px1)).toNatClampNeg)) 14 pn0) ((mv (mv V0 12 pn0 (va_cpy (V0 12 pn0) (V0 12 pn0) (px1).toNatClampNeg ((0 : Int32)).toNatClampNeg (((V0 11 pn0 3) - px1)).toNatClampNeg)) 13 pn0 (va_cpy ((mv V0 12 pn0 (va_cpy (V0 12 pn0) (V0 12 pn0) (px1).toNatClampNeg ((0 : Int32)).toNatClampNeg (((V0 11 pn0 3) - px1)).toNatClampNeg)) 13 pn0) ((mv V0 12 pn0 (va_cpy (V0 12 pn0) (V0 12 pn0) (px1).toNatClampNeg ((0 : Int32)).toNatClampNeg (((V0 11 pn0 3) - px1)).toNatClampNeg)) 13 pn0) (px1).toNatClampNeg ((0 : Int32)).toNatClampNeg (((V0 11 pn0 3) - px1)).toNatClampNeg)) 14 pn0) (px1).toNatClampNeg ((0 : Int32)).toNatClampNeg (((V0 11 pn0 3) - px1)).toNatClampNeg)) 11 pn0 3 ((V0 11 pn0 3) - px1))) else none) else none) else none
set_option maxHeartbeats 4000000 in
set_option maxRecDepth 100000 in
theorem kX1_dropFirst (l : Launch) {dC : Nat → ClassId} {dI : Nat → Nat → Nat} {A : Nat → Prop} {ad : Nat → Nat → Nat} {cnt : Nat} {L : Nat → Nat → Nat} {cI cS cW : ClassId} {q : Nat × Nat} (hsh : xSh cnt L) (pn0 : Nat) (px1 : Int32) (V0 : mM) (c0 : Nat × Nat) {res : mM} (h : fX1_dropFirst L pn0 px1 V0 c0 = some res) (hpn0 : xex cnt L 11 pn0) : Met l yX1_dropFirst wsX1_dropFirst ({ frames := 1, cells := 0, slots := 0, locals := 35 } : Room) (va_Pc [.ref (ad 11 pn0), .int px1] (fun U => xM dC dI A ad cnt L cI cS cW q V0 c0 U)) (va_Qv (fun (_ : Unit) => True) (fun _ t9 => xM dC dI A ad cnt L cI cS cW q res c0 t9) A) 0 0 A := by
  refine Met.ofW (cc := cX1_dropFirst) (maxL := 3) (ret := none) (by decide) rfl ?_
  intro p e s m args below meth cd s₁ B hml hv
  obtain ⟨rfl, hM, hK, hW, hAs⟩ := hv
  have hx := B.exec
  have hb := B.bytes
  have hr := B.returns
  have hts := atoms_spec (ws := wsX1_dropFirst) B.pre
  have hown : s.vm.findClass RX1 = some m.cls := findClass_of_methodNamed B.named
  have hlocks := B.notSynchronized
  have hS : va_S A s.heap s.heap [] := va_S.rf
  have k19 := hts (.fieldLink RX1 19 "StageDesk$EventRow" "size" "I") (by decide +kernel)
  have k7 := hts (.fieldLink RX1 7 "StageDesk$EventRow" "numbers" "[I") (by decide +kernel)
  have k13 := hts (.fieldLink RX1 13 "StageDesk$EventRow" "values" "[I") (by decide +kernel)
  have k16 := hts (.fieldLink RX1 16 "StageDesk$EventRow" "births" "[I") (by decide +kernel)
  have inX1 : ∀ w ∈ u_ws RX1 TX1 4, w ∈ wsX1_dropFirst := by decide +kernel
  have hl := lv_entry ([.ref (ad 11 pn0), .int px1]) (n := 3) (Nat.le_of_ble_eq_true rfl)
  rw [lg_entry_eq]
  generalize (lg_sl ([.ref (ad 11 pn0), .int px1]) ++ List.replicate (3 - (lg_sl ([.ref (ad 11 pn0), .int px1])).length) Slot.unset).toArray = ls at hl ⊢
  have hl : lv_has ls 3 [(0, .ref (ad 11 pn0)), (1, .int px1)] := hl
  unfold fX1_dropFirst at h
  refine lv_aload_n hx hb dX1_dropFirst_0 rfl (lv_at hl 0 rfl) ?_
  refine mm_get (C := RX1) (T := TX1) (N := 4) (ci := 1) hx hb hts inX1 hown hK hM 11 pn0 hpn0 rfl rfl 3 (by decide) k19 (fun _ h9 => h9) rfl dX1_dropFirst_1 ?_
  refine lv_iload_n hx hb dX1_dropFirst_4 rfl (lv_at hl 1 rfl) ?_
  refine lv_isub hx hb dX1_dropFirst_5 ?_
  refine lv_istore_n (lv' := [(2, .int ((V0 11 pn0 3) - px1)), (0, .ref (ad 11 pn0)), (1, .int px1)]) hx hb dX1_dropFirst_6 rfl hl (by decide) rfl (fun ls hl => ?_)
  refine lv_aload_n hx hb dX1_dropFirst_7 rfl (lv_at hl 1 rfl) ?_
  refine mm_get (C := RX1) (T := TX1) (N := 4) (ci := 1) hx hb hts inX1 hown hK hM 11 pn0 hpn0 rfl rfl 0 (by decide) k7 (fun _ h9 => h9) rfl dX1_dropFirst_8 ?_
  refine lv_iload_n hx hb dX1_dropFirst_11 rfl (lv_at hl 2 rfl) ?_
  refine lv_aload_n hx hb dX1_dropFirst_12 rfl (lv_at hl 1 rfl) ?_
  refine mm_get (C := RX1) (T := TX1) (N := 4) (ci := 1) hx hb hts inX1 hown hK hM 11 pn0 hpn0 rfl rfl 0 (by decide) k7 (fun _ h9 => h9) rfl dX1_dropFirst_13 ?_
  refine lv_iconst (v := 0) hx hb dX1_dropFirst_16 (by decide) ?_
  refine lv_iload_n hx hb dX1_dropFirst_17 rfl (lv_at hl 0 rfl) ?_
  obtain ⟨b_1, h⟩ := iteS h
  obtain ⟨b_11, b_12, b_13, b_14, b_15⟩ := bcp_in b_1
  refine mm_copyi hx hb (by rw [hml]; exact hl.1.symm) hown (hts (.methodLink RX1 29 arraycopyName) (by decide +kernel)) (hts (.native arraycopyName) (by decide +kernel)) (hts (.static arraycopyName) (by decide +kernel)) (hts (.initialized "java/lang/System") (by decide +kernel)) hK hM hS 12 pn0 (xe11_n hpn0) 12 pn0 (xe11_n hpn0) 0 rfl rfl rfl b_11 b_12 b_13 b_14 b_15 _ rfl (Nat.le_of_ble_eq_true rfl) (Nat.le_of_ble_eq_true rfl) dX1_dropFirst_18 (fun H locs hM hS => ?_)
  have hW := xW_mv (k := 12) (n := pn0) (v := (va_cpy (V0 12 pn0) (V0 12 pn0) (px1).toNatClampNeg ((0 : Int32)).toNatClampNeg (((V0 11 pn0 3) - px1)).toNatClampNeg)) hW (fun _ => rfl)
  refine lv_aload_n hx hb dX1_dropFirst_21 rfl (lv_at hl 1 rfl) ?_
  refine mm_get (C := RX1) (T := TX1) (N := 4) (ci := 1) hx hb hts inX1 hown hK hM 11 pn0 hpn0 rfl rfl 1 (by decide) k13 (fun _ h9 => h9) rfl dX1_dropFirst_22 ?_
  refine lv_iload_n hx hb dX1_dropFirst_25 rfl (lv_at hl 2 rfl) ?_
  refine lv_aload_n hx hb dX1_dropFirst_26 rfl (lv_at hl 1 rfl) ?_
  refine mm_get (C := RX1) (T := TX1) (N := 4) (ci := 1) hx hb hts inX1 hown hK hM 11 pn0 hpn0 rfl rfl 1 (by decide) k13 (fun _ h9 => h9) rfl dX1_dropFirst_27 ?_
  refine lv_iconst (v := 0) hx hb dX1_dropFirst_30 (by decide) ?_
  refine lv_iload_n hx hb dX1_dropFirst_31 rfl (lv_at hl 0 rfl) ?_
  obtain ⟨b_2, h⟩ := iteS h
  obtain ⟨b_21, b_22, b_23, b_24, b_25⟩ := bcp_in b_2
  refine mm_copyi hx hb (by rw [hml]; exact hl.1.symm) hown (hts (.methodLink RX1 29 arraycopyName) (by decide +kernel)) (hts (.native arraycopyName) (by decide +kernel)) (hts (.static arraycopyName) (by decide +kernel)) (hts (.initialized "java/lang/System") (by decide +kernel)) hK hM hS 13 pn0 (xe11_v hpn0) 13 pn0 (xe11_v hpn0) 0 rfl rfl rfl b_21 b_22 b_23 b_24 b_25 _ rfl (Nat.le_of_ble_eq_true rfl) (Nat.le_of_ble_eq_true rfl) dX1_dropFirst_32 (fun H locs hM hS => ?_)
  have hW := xW_mv (k := 13) (n := pn0) (v := (va_cpy ((mv V0 12 pn0 (va_cpy (V0 12 pn0) (V0 12 pn0) (px1).toNatClampNeg ((0 : Int32)).toNatClampNeg (((V0 11 pn0 3) - px1)).toNatClampNeg)) 13 pn0) ((mv V0 12 pn0 (va_cpy (V0 12 pn0) (V0 12 pn0) (px1).toNatClampNeg ((0 : Int32)).toNatClampNeg (((V0 11 pn0 3) - px1)).toNatClampNeg)) 13 pn0) (px1).toNatClampNeg ((0 : Int32)).toNatClampNeg (((V0 11 pn0 3) - px1)).toNatClampNeg)) hW (fun _ => rfl)
  refine lv_aload_n hx hb dX1_dropFirst_35 rfl (lv_at hl 1 rfl) ?_
  refine mm_get (C := RX1) (T := TX1) (N := 4) (ci := 1) hx hb hts inX1 hown hK hM 11 pn0 hpn0 rfl rfl 2 (by decide) k16 (fun _ h9 => h9) rfl dX1_dropFirst_36 ?_
  refine lv_iload_n hx hb dX1_dropFirst_39 rfl (lv_at hl 2 rfl) ?_
  refine lv_aload_n hx hb dX1_dropFirst_40 rfl (lv_at hl 1 rfl) ?_
  refine mm_get (C := RX1) (T := TX1) (N := 4) (ci := 1) hx hb hts inX1 hown hK hM 11 pn0 hpn0 rfl rfl 2 (by decide) k16 (fun _ h9 => h9) rfl dX1_dropFirst_41 ?_
  refine lv_iconst (v := 0) hx hb dX1_dropFirst_44 (by decide) ?_
  refine lv_iload_n hx hb dX1_dropFirst_45 rfl (lv_at hl 0 rfl) ?_
  obtain ⟨b_3, h⟩ := iteS h
  obtain ⟨b_31, b_32, b_33, b_34, b_35⟩ := bcp_in b_3
  refine mm_copyi hx hb (by rw [hml]; exact hl.1.symm) hown (hts (.methodLink RX1 29 arraycopyName) (by decide +kernel)) (hts (.native arraycopyName) (by decide +kernel)) (hts (.static arraycopyName) (by decide +kernel)) (hts (.initialized "java/lang/System") (by decide +kernel)) hK hM hS 14 pn0 (xe11_b hpn0) 14 pn0 (xe11_b hpn0) 0 rfl rfl rfl b_31 b_32 b_33 b_34 b_35 _ rfl (Nat.le_of_ble_eq_true rfl) (Nat.le_of_ble_eq_true rfl) dX1_dropFirst_46 (fun H locs hM hS => ?_)
  have hW := xW_mv (k := 14) (n := pn0) (v := (va_cpy ((mv (mv V0 12 pn0 (va_cpy (V0 12 pn0) (V0 12 pn0) (px1).toNatClampNeg ((0 : Int32)).toNatClampNeg (((V0 11 pn0 3) - px1)).toNatClampNeg)) 13 pn0 (va_cpy ((mv V0 12 pn0 (va_cpy (V0 12 pn0) (V0 12 pn0) (px1).toNatClampNeg ((0 : Int32)).toNatClampNeg (((V0 11 pn0 3) - px1)).toNatClampNeg)) 13 pn0) ((mv V0 12 pn0 (va_cpy (V0 12 pn0) (V0 12 pn0) (px1).toNatClampNeg ((0 : Int32)).toNatClampNeg (((V0 11 pn0 3) - px1)).toNatClampNeg)) 13 pn0) (px1).toNatClampNeg ((0 : Int32)).toNatClampNeg (((V0 11 pn0 3) - px1)).toNatClampNeg)) 14 pn0) ((mv (mv V0 12 pn0 (va_cpy (V0 12 pn0) (V0 12 pn0) (px1).toNatClampNeg ((0 : Int32)).toNatClampNeg (((V0 11 pn0 3) - px1)).toNatClampNeg)) 13 pn0 (va_cpy ((mv V0 12 pn0 (va_cpy (V0 12 pn0) (V0 12 pn0) (px1).toNatClampNeg ((0 : Int32)).toNatClampNeg (((V0 11 pn0 3) - px1)).toNatClampNeg)) 13 pn0) ((mv V0 12 pn0 (va_cpy (V0 12 pn0) (V0 12 pn0) (px1).toNatClampNeg ((0 : Int32)).toNatClampNeg (((V0 11 pn0 3) - px1)).toNatClampNeg)) 13 pn0) (px1).toNatClampNeg ((0 : Int32)).toNatClampNeg (((V0 11 pn0 3) - px1)).toNatClampNeg)) 14 pn0) (px1).toNatClampNeg ((0 : Int32)).toNatClampNeg (((V0 11 pn0 3) - px1)).toNatClampNeg)) hW (fun _ => rfl)
  refine lv_aload_n hx hb dX1_dropFirst_49 rfl (lv_at hl 1 rfl) ?_
  refine lv_iload_n hx hb dX1_dropFirst_50 rfl (lv_at hl 0 rfl) ?_
  refine mm_put (C := RX1) (T := TX1) (N := 4) (ci := 1) (ty := .int) hx hb hts inX1 tyX1 tyX1_ok nmX1 hown hK hM hS 11 pn0 hpn0 rfl rfl 3 (by decide) k19 (fun _ h9 => h9) rfl (by decide +kernel) rfl rfl (Nat.le_of_ble_eq_true rfl) ((V0 11 pn0 3) - px1) rfl dX1_dropFirst_51 (fun H locs hM hS => ?_)
  have hW := xW_mu (k := 11) (n := pn0) (t := 3) (x := ((V0 11 pn0 3) - px1)) hW (fun h9 => Bool.noConfusion (show false = true from h9))
  have e9 : (mu (mv (mv (mv V0 12 pn0 (va_cpy (V0 12 pn0) (V0 12 pn0) (px1).toNatClampNeg ((0 : Int32)).toNatClampNeg (((V0 11 pn0 3) - px1)).toNatClampNeg)) 13 pn0 (va_cpy ((mv V0 12 pn0 (va_cpy (V0 12 pn0) (V0 12 pn0) (px1).toNatClampNeg ((0 : Int32)).toNatClampNeg (((V0 11 pn0 3) - px1)).toNatClampNeg)) 13 pn0) ((mv V0 12 pn0 (va_cpy (V0 12 pn0) (V0 12 pn0) (px1).toNatClampNeg ((0 : Int32)).toNatClampNeg (((V0 11 pn0 3) - px1)).toNatClampNeg)) 13 pn0) (px1).toNatClampNeg ((0 : Int32)).toNatClampNeg (((V0 11 pn0 3) - px1)).toNatClampNeg)) 14 pn0 (va_cpy ((mv (mv V0 12 pn0 (va_cpy (V0 12 pn0) (V0 12 pn0) (px1).toNatClampNeg ((0 : Int32)).toNatClampNeg (((V0 11 pn0 3) - px1)).toNatClampNeg)) 13 pn0 (va_cpy ((mv V0 12 pn0 (va_cpy (V0 12 pn0) (V0 12 pn0) (px1).toNatClampNeg ((0 : Int32)).toNatClampNeg (((V0 11 pn0 3) - px1)).toNatClampNeg)) 13 pn0) ((mv V0 12 pn0 (va_cpy (V0 12 pn0) (V0 12 pn0) (px1).toNatClampNeg ((0 : Int32)).toNatClampNeg (((V0 11 pn0 3) - px1)).toNatClampNeg)) 13 pn0) (px1).toNatClampNeg ((0 : Int32)).toNatClampNeg (((V0 11 pn0 3) - px1)).toNatClampNeg)) 14 pn0) ((mv (mv V0 12 pn0 (va_cpy (V0 12 pn0) (V0 12 pn0) (px1).toNatClampNeg ((0 : Int32)).toNatClampNeg (((V0 11 pn0 3) - px1)).toNatClampNeg)) 13 pn0 (va_cpy ((mv V0 12 pn0 (va_cpy (V0 12 pn0) (V0 12 pn0) (px1).toNatClampNeg ((0 : Int32)).toNatClampNeg (((V0 11 pn0 3) - px1)).toNatClampNeg)) 13 pn0) ((mv V0 12 pn0 (va_cpy (V0 12 pn0) (V0 12 pn0) (px1).toNatClampNeg ((0 : Int32)).toNatClampNeg (((V0 11 pn0 3) - px1)).toNatClampNeg)) 13 pn0) (px1).toNatClampNeg ((0 : Int32)).toNatClampNeg (((V0 11 pn0 3) - px1)).toNatClampNeg)) 14 pn0) (px1).toNatClampNeg ((0 : Int32)).toNatClampNeg (((V0 11 pn0 3) - px1)).toNatClampNeg)) 11 pn0 3 ((V0 11 pn0 3) - px1)) = res := Option.some.inj h
  subst e9
  exact W.vret hx hb hr (fun t9 ht9 hW9 => ⟨⟨(), rfl, trivial, xM_of hM hK hW hAs hS.1 ht9 hW9⟩, hS.F ht9⟩) hS.2.2 dX1_dropFirst_54
/-! X1_becomeFirstOf -/
def fX1_becomeFirstOf (L : Nat → Nat → Nat) (pn0 : Nat) (pn1 : Nat) (px2 : Int32) (V0 : mM) (c0 : Nat × Nat) : Option (mM) := if bcp (0 : Int32) (0 : Int32) (if (Int32.ofNat (L 11 pn0)) < (if (V0 11 pn1 3) < px2 then (V0 11 pn1 3) else px2) then (Int32.ofNat (L 11 pn0)) else (if (V0 11 pn1 3) < px2 then (V0 11 pn1 3) else px2)) (L 11 pn1) (L 11 pn0) = true then (if bcp (0 : Int32) (0 : Int32) (if (Int32.ofNat (L 11 pn0)) < (if (V0 11 pn1 3) < px2 then (V0 11 pn1 3) else px2) then (Int32.ofNat (L 11 pn0)) else (if (V0 11 pn1 3) < px2 then (V0 11 pn1 3) else px2)) (L 11 pn1) (L 11 pn0) = true then (if bcp (0 : Int32) (0 : Int32) (if (Int32.ofNat (L 11 pn0)) < (if (V0 11 pn1 3) < px2 then (V0 11 pn1 3) else px2) then (Int32.ofNat (L 11 pn0)) else (if (V0 11 pn1 3) < px2 then (V0 11 pn1 3) else px2)) (L 11 pn1) (L 11 pn0) = true then ((fX1_dropFirst L pn1 (if (Int32.ofNat (L 11 pn0)) < (if (V0 11 pn1 3) < px2 then (V0 11 pn1 3) else px2) then (Int32.ofNat (L 11 pn0)) else (if (V0 11 pn1 3) < px2 then (V0 11 pn1 3) else px2)) (mu (mv (mv (mv V0 12 pn0 (va_cpy (V0 12 pn1) (V0 12 pn0) ((0 : Int32)).toNatClampNeg ((0 : Int32)).toNatClampNeg ((if (Int32.ofNat (L 11 pn0)) < (if (V0 11 pn1 3) < px2 then (V0 11 pn1 3) else px2) then (Int32.ofNat (L 11 pn0)) else (if (V0 11 pn1 3) < px2 then (V0 11 pn1 3) else px2))).toNatClampNeg)) 13 pn0 (va_cpy ((mv V0 12 pn0 (va_cpy (V0 12 pn1) (V0 12 pn0) ((0 : Int32)).toNatClampNeg ((0 : Int32)).toNatClampNeg ((if (Int32.ofNat (L 11 pn0)) < (if (V0 11 pn1 3) < px2 then (V0 11 pn1 3) else px2) then (Int32.ofNat (L 11 pn0)) else (if (V0 11 pn1 3) < px2 then (V0 11 pn1 3) else px2))).toNatClampNeg)) 13 pn1) ((mv V0 12 pn0 (va_cpy (V0 12 pn1) (V0 12 pn0) ((0 : Int32)).toNatClampNeg ((0 : Int32)).toNatClampNeg ((if (Int32.ofNat (L 11 pn0)) < (if (V0 11 pn1 3) < px2 then (V0 11 pn1 3) else px2) then (Int32.ofNat (L 11 pn0)) else (if (V0 11 pn1 3) < px2 then (V0 11 pn1 3) else px2))).toNatClampNeg)) 13 pn0) ((0 : Int32)).toNatClampNeg ((0 : Int32)).toNatClampNeg ((if (Int32.ofNat (L 11 pn0)) < (if (V0 11 pn1 3) < px2 then (V0 11 pn1 3) else px2) then (Int32.ofNat (L 11 pn0)) else (if (V0 11 pn1 3) < px2 then (V0 11 pn1 3) else px2))).toNatClampNeg)) 14 pn0 (va_cpy ((mv (mv V0 12 pn0 (va_cpy (V0 12 pn1) (V0 12 pn0) ((0 : Int32)).toNatClampNeg ((0 : Int32)).toNatClampNeg ((if (Int32.ofNat (L 11 pn0)) < (if (V0 11 pn1 3) < px2 then (V0 11 pn1 3) else px2) then (Int32.ofNat (L 11 pn0)) else (if (V0 11 pn1 3) < px2 then (V0 11 pn1 3) else px2))).toNatClampNeg)) 13 pn0 (va_cpy ((mv V0 12 pn0 (va_cpy (V0 12 pn1) (V0 12 pn0) ((0 : Int32)).toNatClampNeg ((0 : Int32)).toNatClampNeg ((if (Int32.ofNat (L 11 pn0)) < (if (V0 11 pn1 3) < px2 then (V0 11 pn1 3) else px2) then (Int32.ofNat (L 11 pn0)) else (if (V0 11 pn1 3) < px2 then (V0 11 pn1 3) else px2))).toNatClampNeg)) 13 pn1) ((mv V0 12 pn0 (va_cpy (V0 12 pn1) (V0 12 pn0) ((0 : Int32)).toNatClampNeg ((0 : Int32)).toNatClampNeg ((if (Int32.ofNat (L 11 pn0)) < (if (V0 11 pn1 3) < px2 then (V0 11 pn1 3) else px2) then (Int32.ofNat (L 11 pn0)) else (if (V0 11 pn1 3) < px2 then (V0 11 pn1 3) else px2))).toNatClampNeg)) 13 pn0) ((0 : Int32)).toNatClampNeg ((0 : Int32)).toNatClampNeg ((if (Int32.ofNat (L 11 pn0)) < (if (V0 11 pn1 3) < px2 then (V0 11 pn1 3) else px2) then (Int32.ofNat (L 11 pn0)) else (if (V0 11 pn1 3) < px2 then (V0 11 pn1 3) else px2))).toNatClampNeg)) 14 pn1) ((mv (mv V0 12 pn0 (va_cpy (V0 12 pn1) (V0 12 pn0) ((0 : Int32)).toNatClampNeg ((0 : Int32)).toNatClampNeg ((if (Int32.ofNat (L 11 pn0)) < (if (V0 11 pn1 3) < px2 then (V0 11 pn1 3) else px2) then (Int32.ofNat (L 11 pn0)) else (if (V0 11 pn1 3) < px2 then (V0 11 pn1 3) else px2))).toNatClampNeg)) 13 pn0 (va_cpy ((mv V0 12 pn0 (va_cpy (V0 12 pn1) (V0 12 pn0) ((0 : Int32)).toNatClampNeg ((0 : Int32)).toNatClampNeg ((if (Int32.ofNat (L 11 pn0)) < (if (V0 11 pn1 3) < px2 then (V0 11 pn1 3) else px2) then (Int32.ofNat (L 11 pn0)) else (if (V0 11 pn1 3) < px2 then (V0 11 pn1 3) else px2))).toNatClampNeg)) 13 pn1) ((mv V0 12 pn0 (va_cpy (V0 12 pn1) (V0 12 pn0) ((0 : Int32)).toNatClampNeg ((0 : Int32)).toNatClampNeg ((if (Int32.ofNat (L 11 pn0)) < (if (V0 11 pn1 3) < px2 then (V0 11 pn1 3) else px2) then (Int32.ofNat (L 11 pn0)) else (if (V0 11 pn1 3) < px2 then (V0 11 pn1 3) else px2))).toNatClampNeg)) 13 pn0) ((0 : Int32)).toNatClampNeg ((0 : Int32)).toNatClampNeg ((if (Int32.ofNat (L 11 pn0)) < (if (V0 11 pn1 3) < px2 then (V0 11 pn1 3) else px2) then (Int32.ofNat (L 11 pn0)) else (if (V0 11 pn1 3) < px2 then (V0 11 pn1 3) else px2))).toNatClampNeg)) 14 pn0) ((0 : Int32)).toNatClampNeg ((0 : Int32)).toNatClampNeg ((if (Int32.ofNat (L 11 pn0)) < (if (V0 11 pn1 3) < px2 then (V0 11 pn1 3) else px2) then (Int32.ofNat (L 11 pn0)) else (if (V0 11 pn1 3) < px2 then (V0 11 pn1 3) else px2))).toNatClampNeg)) 11 pn0 3 (if (Int32.ofNat (L 11 pn0)) < (if (V0 11 pn1 3) < px2 then (V0 11 pn1 3) else px2) then (Int32.ofNat (L 11 pn0)) else (if (V0 11 pn1 3) < px2 then (V0 11 pn1 3) else px2))) c0).bind fun u_4 => some u_4) else none) else none) else none
set_option maxHeartbeats 4000000 in
set_option maxRecDepth 100000 in
theorem kX1_becomeFirstOf (l : Launch) {dC : Nat → ClassId} {dI : Nat → Nat → Nat} {A : Nat → Prop} {ad : Nat → Nat → Nat} {cnt : Nat} {L : Nat → Nat → Nat} {cI cS cW : ClassId} {q : Nat × Nat} (hsh : xSh cnt L) (pn0 : Nat) (pn1 : Nat) (px2 : Int32) (V0 : mM) (c0 : Nat × Nat) {res : mM} (h : fX1_becomeFirstOf L pn0 pn1 px2 V0 c0 = some res) (hpn0 : xex cnt L 11 pn0) (hpn1 : xex cnt L 11 pn1) : Met l yX1_becomeFirstOf wsX1_becomeFirstOf ({ frames := 2, cells := 0, slots := 0, locals := 57 } : Room) (va_Pc [.ref (ad 11 pn0), .ref (ad 11 pn1), .int px2] (fun U => xM dC dI A ad cnt L cI cS cW q V0 c0 U)) (va_Qv (fun (_ : Unit) => True) (fun _ t9 => xM dC dI A ad cnt L cI cS cW q res c0 t9) A) 0 0 A := by
  refine Met.ofW (cc := cX1_becomeFirstOf) (maxL := 4) (ret := none) (by decide) rfl ?_
  intro p e s m args below meth cd s₁ B hml hv
  obtain ⟨rfl, hM, hK, hW, hAs⟩ := hv
  have hx := B.exec
  have hb := B.bytes
  have hr := B.returns
  have hts := atoms_spec (ws := wsX1_becomeFirstOf) B.pre
  have hown : s.vm.findClass RX1 = some m.cls := findClass_of_methodNamed B.named
  have hlocks := B.notSynchronized
  have hS : va_S A s.heap s.heap [] := va_S.rf
  have k19 := hts (.fieldLink RX1 19 "StageDesk$EventRow" "size" "I") (by decide +kernel)
  have k7 := hts (.fieldLink RX1 7 "StageDesk$EventRow" "numbers" "[I") (by decide +kernel)
  have k13 := hts (.fieldLink RX1 13 "StageDesk$EventRow" "values" "[I") (by decide +kernel)
  have k16 := hts (.fieldLink RX1 16 "StageDesk$EventRow" "births" "[I") (by decide +kernel)
  have inX1 : ∀ w ∈ u_ws RX1 TX1 4, w ∈ wsX1_becomeFirstOf := by decide +kernel
  have hl := lv_entry ([.ref (ad 11 pn0), .ref (ad 11 pn1), .int px2]) (n := 4) (Nat.le_of_ble_eq_true rfl)
  rw [lg_entry_eq]
  generalize (lg_sl ([.ref (ad 11 pn0), .ref (ad 11 pn1), .int px2]) ++ List.replicate (4 - (lg_sl ([.ref (ad 11 pn0), .ref (ad 11 pn1), .int px2])).length) Slot.unset).toArray = ls at hl ⊢
  have hl : lv_has ls 4 [(0, .ref (ad 11 pn0)), (1, .ref (ad 11 pn1)), (2, .int px2)] := hl
  unfold fX1_becomeFirstOf at h
  refine lv_iload_n hx hb dX1_becomeFirstOf_0 rfl (lv_at hl 2 rfl) ?_
  refine lv_aload_n hx hb dX1_becomeFirstOf_1 rfl (lv_at hl 1 rfl) ?_
  refine mm_get (C := RX1) (T := TX1) (N := 4) (ci := 1) hx hb hts inX1 hown hK hM 11 pn1 hpn1 rfl rfl 3 (by decide) k19 (fun _ h9 => h9) rfl dX1_becomeFirstOf_2 ?_
  refine va_mmin hx hb (by rw [hml]; exact hl.1.symm) hown (hts (.methodLink RX1 23 Lib.Math.min.name) (by decide +kernel)) (hts (.static Lib.Math.min.name) (by decide +kernel)) (hts (.initialized "java/lang/Math") (by decide +kernel)) (hts (.code Lib.Math.min.name Lib.Math.min.code 2 (some .int)) (by decide +kernel)) (Nat.le_of_ble_eq_true rfl) (Nat.le_of_ble_eq_true rfl) (Nat.zero_le _) (Nat.zero_le _) dX1_becomeFirstOf_5 ?_
  refine lv_aload_n hx hb dX1_becomeFirstOf_8 rfl (lv_at hl 0 rfl) ?_
  refine mm_get (C := RX1) (T := TX1) (N := 4) (ci := 1) hx hb hts inX1 hown hK hM 11 pn0 hpn0 rfl rfl 0 (by decide) k7 (fun _ h9 => h9) rfl dX1_becomeFirstOf_9 ?_
  refine mm_alen (v := (Int32.ofNat (L 11 pn0))) hx hb hK hM 12 pn0 (xe11_n hpn0) 0 rfl rfl rfl dX1_becomeFirstOf_12 ?_
  refine va_mmin hx hb (by rw [hml]; exact hl.1.symm) hown (hts (.methodLink RX1 23 Lib.Math.min.name) (by decide +kernel)) (hts (.static Lib.Math.min.name) (by decide +kernel)) (hts (.initialized "java/lang/Math") (by decide +kernel)) (hts (.code Lib.Math.min.name Lib.Math.min.code 2 (some .int)) (by decide +kernel)) (Nat.le_of_ble_eq_true rfl) (Nat.le_of_ble_eq_true rfl) (Nat.zero_le _) (Nat.zero_le _) dX1_becomeFirstOf_13 ?_
  refine lv_istore_n (lv' := [(3, .int (if (Int32.ofNat (L 11 pn0)) < (if (V0 11 pn1 3) < px2 then (V0 11 pn1 3) else px2) then (Int32.ofNat (L 11 pn0)) else (if (V0 11 pn1 3) < px2 then (V0 11 pn1 3) else px2))), (0, .ref (ad 11 pn0)), (1, .ref (ad 11 pn1)), (2, .int px2)]) hx hb dX1_becomeFirstOf_16 rfl hl (by decide) rfl (fun ls hl => ?_)
  refine lv_aload_n hx hb dX1_becomeFirstOf_17 rfl (lv_at hl 2 rfl) ?_
  refine mm_get (C := RX1) (T := TX1) (N := 4) (ci := 1) hx hb hts inX1 hown hK hM 11 pn1 hpn1 rfl rfl 0 (by decide) k7 (fun _ h9 => h9) rfl dX1_becomeFirstOf_18 ?_
  refine lv_iconst (v := 0) hx hb dX1_becomeFirstOf_21 (by decide) ?_
  refine lv_aload_n hx hb dX1_becomeFirstOf_22 rfl (lv_at hl 1 rfl) ?_
  refine mm_get (C := RX1) (T := TX1) (N := 4) (ci := 1) hx hb hts inX1 hown hK hM 11 pn0 hpn0 rfl rfl 0 (by decide) k7 (fun _ h9 => h9) rfl dX1_becomeFirstOf_23 ?_
  refine lv_iconst (v := 0) hx hb dX1_becomeFirstOf_26 (by decide) ?_
  refine lv_iload_n hx hb dX1_becomeFirstOf_27 rfl (lv_at hl 0 rfl) ?_
  obtain ⟨b_1, h⟩ := iteS h
  obtain ⟨b_11, b_12, b_13, b_14, b_15⟩ := bcp_in b_1
  refine mm_copyi hx hb (by rw [hml]; exact hl.1.symm) hown (hts (.methodLink RX1 29 arraycopyName) (by decide +kernel)) (hts (.native arraycopyName) (by decide +kernel)) (hts (.static arraycopyName) (by decide +kernel)) (hts (.initialized "java/lang/System") (by decide +kernel)) hK hM hS 12 pn1 (xe11_n hpn1) 12 pn0 (xe11_n hpn0) 0 rfl rfl rfl b_11 b_12 b_13 b_14 b_15 _ rfl (Nat.le_of_ble_eq_true rfl) (Nat.le_of_ble_eq_true rfl) dX1_becomeFirstOf_28 (fun H locs hM hS => ?_)
  have hW := xW_mv (k := 12) (n := pn0) (v := (va_cpy (V0 12 pn1) (V0 12 pn0) ((0 : Int32)).toNatClampNeg ((0 : Int32)).toNatClampNeg ((if (Int32.ofNat (L 11 pn0)) < (if (V0 11 pn1 3) < px2 then (V0 11 pn1 3) else px2) then (Int32.ofNat (L 11 pn0)) else (if (V0 11 pn1 3) < px2 then (V0 11 pn1 3) else px2))).toNatClampNeg)) hW (fun _ => rfl)
  refine lv_aload_n hx hb dX1_becomeFirstOf_31 rfl (lv_at hl 2 rfl) ?_
  refine mm_get (C := RX1) (T := TX1) (N := 4) (ci := 1) hx hb hts inX1 hown hK hM 11 pn1 hpn1 rfl rfl 1 (by decide) k13 (fun _ h9 => h9) rfl dX1_becomeFirstOf_32 ?_
  refine lv_iconst (v := 0) hx hb dX1_becomeFirstOf_35 (by decide) ?_
  refine lv_aload_n hx hb dX1_becomeFirstOf_36 rfl (lv_at hl 1 rfl) ?_
  refine mm_get (C := RX1) (T := TX1) (N := 4) (ci := 1) hx hb hts inX1 hown hK hM 11 pn0 hpn0 rfl rfl 1 (by decide) k13 (fun _ h9 => h9) rfl dX1_becomeFirstOf_37 ?_
  refine lv_iconst (v := 0) hx hb dX1_becomeFirstOf_40 (by decide) ?_
  refine lv_iload_n hx hb dX1_becomeFirstOf_41 rfl (lv_at hl 0 rfl) ?_
  obtain ⟨b_2, h⟩ := iteS h
  obtain ⟨b_21, b_22, b_23, b_24, b_25⟩ := bcp_in b_2
  refine mm_copyi hx hb (by rw [hml]; exact hl.1.symm) hown (hts (.methodLink RX1 29 arraycopyName) (by decide +kernel)) (hts (.native arraycopyName) (by decide +kernel)) (hts (.static arraycopyName) (by decide +kernel)) (hts (.initialized "java/lang/System") (by decide +kernel)) hK hM hS 13 pn1 (xe11_v hpn1) 13 pn0 (xe11_v hpn0) 0 rfl rfl rfl b_21 b_22 b_23 b_24 b_25 _ rfl (Nat.le_of_ble_eq_true rfl) (Nat.le_of_ble_eq_true rfl) dX1_becomeFirstOf_42 (fun H locs hM hS => ?_)
  have hW := xW_mv (k := 13) (n := pn0) (v := (va_cpy ((mv V0 12 pn0 (va_cpy (V0 12 pn1) (V0 12 pn0) ((0 : Int32)).toNatClampNeg ((0 : Int32)).toNatClampNeg ((if (Int32.ofNat (L 11 pn0)) < (if (V0 11 pn1 3) < px2 then (V0 11 pn1 3) else px2) then (Int32.ofNat (L 11 pn0)) else (if (V0 11 pn1 3) < px2 then (V0 11 pn1 3) else px2))).toNatClampNeg)) 13 pn1) ((mv V0 12 pn0 (va_cpy (V0 12 pn1) (V0 12 pn0) ((0 : Int32)).toNatClampNeg ((0 : Int32)).toNatClampNeg ((if (Int32.ofNat (L 11 pn0)) < (if (V0 11 pn1 3) < px2 then (V0 11 pn1 3) else px2) then (Int32.ofNat (L 11 pn0)) else (if (V0 11 pn1 3) < px2 then (V0 11 pn1 3) else px2))).toNatClampNeg)) 13 pn0) ((0 : Int32)).toNatClampNeg ((0 : Int32)).toNatClampNeg ((if (Int32.ofNat (L 11 pn0)) < (if (V0 11 pn1 3) < px2 then (V0 11 pn1 3) else px2) then (Int32.ofNat (L 11 pn0)) else (if (V0 11 pn1 3) < px2 then (V0 11 pn1 3) else px2))).toNatClampNeg)) hW (fun _ => rfl)
  refine lv_aload_n hx hb dX1_becomeFirstOf_45 rfl (lv_at hl 2 rfl) ?_
  refine mm_get (C := RX1) (T := TX1) (N := 4) (ci := 1) hx hb hts inX1 hown hK hM 11 pn1 hpn1 rfl rfl 2 (by decide) k16 (fun _ h9 => h9) rfl dX1_becomeFirstOf_46 ?_
  refine lv_iconst (v := 0) hx hb dX1_becomeFirstOf_49 (by decide) ?_
  refine lv_aload_n hx hb dX1_becomeFirstOf_50 rfl (lv_at hl 1 rfl) ?_
  refine mm_get (C := RX1) (T := TX1) (N := 4) (ci := 1) hx hb hts inX1 hown hK hM 11 pn0 hpn0 rfl rfl 2 (by decide) k16 (fun _ h9 => h9) rfl dX1_becomeFirstOf_51 ?_
  refine lv_iconst (v := 0) hx hb dX1_becomeFirstOf_54 (by decide) ?_
  refine lv_iload_n hx hb dX1_becomeFirstOf_55 rfl (lv_at hl 0 rfl) ?_
  obtain ⟨b_3, h⟩ := iteS h
  obtain ⟨b_31, b_32, b_33, b_34, b_35⟩ := bcp_in b_3
  refine mm_copyi hx hb (by rw [hml]; exact hl.1.symm) hown (hts (.methodLink RX1 29 arraycopyName) (by decide +kernel)) (hts (.native arraycopyName) (by decide +kernel)) (hts (.static arraycopyName) (by decide +kernel)) (hts (.initialized "java/lang/System") (by decide +kernel)) hK hM hS 14 pn1 (xe11_b hpn1) 14 pn0 (xe11_b hpn0) 0 rfl rfl rfl b_31 b_32 b_33 b_34 b_35 _ rfl (Nat.le_of_ble_eq_true rfl) (Nat.le_of_ble_eq_true rfl) dX1_becomeFirstOf_56 (fun H locs hM hS => ?_)
  have hW := xW_mv (k := 14) (n := pn0) (v := (va_cpy ((mv (mv V0 12 pn0 (va_cpy (V0 12 pn1) (V0 12 pn0) ((0 : Int32)).toNatClampNeg ((0 : Int32)).toNatClampNeg ((if (Int32.ofNat (L 11 pn0)) < (if (V0 11 pn1 3) < px2 then (V0 11 pn1 3) else px2) then (Int32.ofNat (L 11 pn0)) else (if (V0 11 pn1 3) < px2 then (V0 11 pn1 3) else px2))).toNatClampNeg)) 13 pn0 (va_cpy ((mv V0 12 pn0 (va_cpy (V0 12 pn1) (V0 12 pn0) ((0 : Int32)).toNatClampNeg ((0 : Int32)).toNatClampNeg ((if (Int32.ofNat (L 11 pn0)) < (if (V0 11 pn1 3) < px2 then (V0 11 pn1 3) else px2) then (Int32.ofNat (L 11 pn0)) else (if (V0 11 pn1 3) < px2 then (V0 11 pn1 3) else px2))).toNatClampNeg)) 13 pn1) ((mv V0 12 pn0 (va_cpy (V0 12 pn1) (V0 12 pn0) ((0 : Int32)).toNatClampNeg ((0 : Int32)).toNatClampNeg ((if (Int32.ofNat (L 11 pn0)) < (if (V0 11 pn1 3) < px2 then (V0 11 pn1 3) else px2) then (Int32.ofNat (L 11 pn0)) else (if (V0 11 pn1 3) < px2 then (V0 11 pn1 3) else px2))).toNatClampNeg)) 13 pn0) ((0 : Int32)).toNatClampNeg ((0 : Int32)).toNatClampNeg ((if (Int32.ofNat (L 11 pn0)) < (if (V0 11 pn1 3) < px2 then (V0 11 pn1 3) else px2) then (Int32.ofNat (L 11 pn0)) else (if (V0 11 pn1 3) < px2 then (V0 11 pn1 3) else px2))).toNatClampNeg)) 14 pn1) ((mv (mv V0 12 pn0 (va_cpy (V0 12 pn1) (V0 12 pn0) ((0 : Int32)).toNatClampNeg ((0 : Int32)).toNatClampNeg ((if (Int32.ofNat (L 11 pn0)) < (if (V0 11 pn1 3) < px2 then (V0 11 pn1 3) else px2) then (Int32.ofNat (L 11 pn0)) else (if (V0 11 pn1 3) < px2 then (V0 11 pn1 3) else px2))).toNatClampNeg)) 13 pn0 (va_cpy ((mv V0 12 pn0 (va_cpy (V0 12 pn1) (V0 12 pn0) ((0 : Int32)).toNatClampNeg ((0 : Int32)).toNatClampNeg ((if (Int32.ofNat (L 11 pn0)) < (if (V0 11 pn1 3) < px2 then (V0 11 pn1 3) else px2) then (Int32.ofNat (L 11 pn0)) else (if (V0 11 pn1 3) < px2 then (V0 11 pn1 3) else px2))).toNatClampNeg)) 13 pn1) ((mv V0 12 pn0 (va_cpy (V0 12 pn1) (V0 12 pn0) ((0 : Int32)).toNatClampNeg ((0 : Int32)).toNatClampNeg ((if (Int32.ofNat (L 11 pn0)) < (if (V0 11 pn1 3) < px2 then (V0 11 pn1 3) else px2) then (Int32.ofNat (L 11 pn0)) else (if (V0 11 pn1 3) < px2 then (V0 11 pn1 3) else px2))).toNatClampNeg)) 13 pn0) ((0 : Int32)).toNatClampNeg ((0 : Int32)).toNatClampNeg ((if (Int32.ofNat (L 11 pn0)) < (if (V0 11 pn1 3) < px2 then (V0 11 pn1 3) else px2) then (Int32.ofNat (L 11 pn0)) else (if (V0 11 pn1 3) < px2 then (V0 11 pn1 3) else px2))).toNatClampNeg)) 14 pn0) ((0 : Int32)).toNatClampNeg ((0 : Int32)).toNatClampNeg ((if (Int32.ofNat (L 11 pn0)) < (if (V0 11 pn1 3) < px2 then (V0 11 pn1 3) else px2) then (Int32.ofNat (L 11 pn0)) else (if (V0 11 pn1 3) < px2 then (V0 11 pn1 3) else px2))).toNatClampNeg)) hW (fun _ => rfl)
  refine lv_aload_n hx hb dX1_becomeFirstOf_59 rfl (lv_at hl 1 rfl) ?_
  refine lv_iload_n hx hb dX1_becomeFirstOf_60 rfl (lv_at hl 0 rfl) ?_
  refine mm_put (C := RX1) (T := TX1) (N := 4) (ci := 1) (ty := .int) hx hb hts inX1 tyX1 tyX1_ok nmX1 hown hK hM hS 11 pn0 hpn0 rfl rfl 3 (by decide) k19 (fun _ h9 => h9) rfl (by decide +kernel) rfl rfl (Nat.le_of_ble_eq_true rfl) (if (Int32.ofNat (L 11 pn0)) < (if (V0 11 pn1 3) < px2 then (V0 11 pn1 3) else px2) then (Int32.ofNat (L 11 pn0)) else (if (V0 11 pn1 3) < px2 then (V0 11 pn1 3) else px2)) rfl dX1_becomeFirstOf_61 (fun H locs hM hS => ?_)
  have hW := xW_mu (k := 11) (n := pn0) (t := 3) (x := (if (Int32.ofNat (L 11 pn0)) < (if (V0 11 pn1 3) < px2 then (V0 11 pn1 3) else px2) then (Int32.ofNat (L 11 pn0)) else (if (V0 11 pn1 3) < px2 then (V0 11 pn1 3) else px2))) hW (fun h9 => Bool.noConfusion (show false = true from h9))
  refine lv_aload_n hx hb dX1_becomeFirstOf_64 rfl (lv_at hl 2 rfl) ?_
  refine lv_iload_n hx hb dX1_becomeFirstOf_65 rfl (lv_at hl 0 rfl) ?_
  obtain ⟨u_4, hu_4, h⟩ := bindS h
  refine va_callv (va_runV (As := [.int (if (Int32.ofNat (L 11 pn0)) < (if (V0 11 pn1 3) < px2 then (V0 11 pn1 3) else px2) then (Int32.ofNat (L 11 pn0)) else (if (V0 11 pn1 3) < px2 then (V0 11 pn1 3) else px2))]) (rest := []) ⟨hx, hb, hml, hown, hts⟩ (kX1_dropFirst l hsh pn1 (if (Int32.ofNat (L 11 pn0)) < (if (V0 11 pn1 3) < px2 then (V0 11 pn1 3) else px2) then (Int32.ofNat (L 11 pn0)) else (if (V0 11 pn1 3) < px2 then (V0 11 pn1 3) else px2)) (mu (mv (mv (mv V0 12 pn0 (va_cpy (V0 12 pn1) (V0 12 pn0) ((0 : Int32)).toNatClampNeg ((0 : Int32)).toNatClampNeg ((if (Int32.ofNat (L 11 pn0)) < (if (V0 11 pn1 3) < px2 then (V0 11 pn1 3) else px2) then (Int32.ofNat (L 11 pn0)) else (if (V0 11 pn1 3) < px2 then (V0 11 pn1 3) else px2))).toNatClampNeg)) 13 pn0 (va_cpy ((mv V0 12 pn0 (va_cpy (V0 12 pn1) (V0 12 pn0) ((0 : Int32)).toNatClampNeg ((0 : Int32)).toNatClampNeg ((if (Int32.ofNat (L 11 pn0)) < (if (V0 11 pn1 3) < px2 then (V0 11 pn1 3) else px2) then (Int32.ofNat (L 11 pn0)) else (if (V0 11 pn1 3) < px2 then (V0 11 pn1 3) else px2))).toNatClampNeg)) 13 pn1) ((mv V0 12 pn0 (va_cpy (V0 12 pn1) (V0 12 pn0) ((0 : Int32)).toNatClampNeg ((0 : Int32)).toNatClampNeg ((if (Int32.ofNat (L 11 pn0)) < (if (V0 11 pn1 3) < px2 then (V0 11 pn1 3) else px2) then (Int32.ofNat (L 11 pn0)) else (if (V0 11 pn1 3) < px2 then (V0 11 pn1 3) else px2))).toNatClampNeg)) 13 pn0) ((0 : Int32)).toNatClampNeg ((0 : Int32)).toNatClampNeg ((if (Int32.ofNat (L 11 pn0)) < (if (V0 11 pn1 3) < px2 then (V0 11 pn1 3) else px2) then (Int32.ofNat (L 11 pn0)) else (if (V0 11 pn1 3) < px2 then (V0 11 pn1 3) else px2))).toNatClampNeg)) 14 pn0 (va_cpy ((mv (mv V0 12 pn0 (va_cpy (V0 12 pn1) (V0 12 pn0) ((0 : Int32)).toNatClampNeg ((0 : Int32)).toNatClampNeg ((if (Int32.ofNat (L 11 pn0)) < (if (V0 11 pn1 3) < px2 then (V0 11 pn1 3) else px2) then (Int32.ofNat (L 11 pn0)) else (if (V0 11 pn1 3) < px2 then (V0 11 pn1 3) else px2))).toNatClampNeg)) 13 pn0 (va_cpy ((mv V0 12 pn0 (va_cpy (V0 12 pn1) (V0 12 pn0) ((0 : Int32)).toNatClampNeg ((0 : Int32)).toNatClampNeg ((if (Int32.ofNat (L 11 pn0)) < (if (V0 11 pn1 3) < px2 then (V0 11 pn1 3) else px2) then (Int32.ofNat (L 11 pn0)) else (if (V0 11 pn1 3) < px2 then (V0 11 pn1 3) else px2))).toNatClampNeg)) 13 pn1) ((mv V0 12 pn0 (va_cpy (V0 12 pn1) (V0 12 pn0) ((0 : Int32)).toNatClampNeg ((0 : Int32)).toNatClampNeg ((if (Int32.ofNat (L 11 pn0)) < (if (V0 11 pn1 3) < px2 then (V0 11 pn1 3) else px2) then (Int32.ofNat (L 11 pn0)) else (if (V0 11 pn1 3) < px2 then (V0 11 pn1 3) else px2))).toNatClampNeg)) 13 pn0) ((0 : Int32)).toNatClampNeg ((0 : Int32)).toNatClampNeg ((if (Int32.ofNat (L 11 pn0)) < (if (V0 11 pn1 3) < px2 then (V0 11 pn1 3) else px2) then (Int32.ofNat (L 11 pn0)) else (if (V0 11 pn1 3) < px2 then (V0 11 pn1 3) else px2))).toNatClampNeg)) 14 pn1) ((mv (mv V0 12 pn0 (va_cpy (V0 12 pn1) (V0 12 pn0) ((0 : Int32)).toNatClampNeg ((0 : Int32)).toNatClampNeg ((if (Int32.ofNat (L 11 pn0)) < (if (V0 11 pn1 3) < px2 then (V0 11 pn1 3) else px2) then (Int32.ofNat (L 11 pn0)) else (if (V0 11 pn1 3) < px2 then (V0 11 pn1 3) else px2))).toNatClampNeg)) 13 pn0 (va_cpy ((mv V0 12 pn0 (va_cpy (V0 12 pn1) (V0 12 pn0) ((0 : Int32)).toNatClampNeg ((0 : Int32)).toNatClampNeg ((if (Int32.ofNat (L 11 pn0)) < (if (V0 11 pn1 3) < px2 then (V0 11 pn1 3) else px2) then (Int32.ofNat (L 11 pn0)) else (if (V0 11 pn1 3) < px2 then (V0 11 pn1 3) else px2))).toNatClampNeg)) 13 pn1) ((mv V0 12 pn0 (va_cpy (V0 12 pn1) (V0 12 pn0) ((0 : Int32)).toNatClampNeg ((0 : Int32)).toNatClampNeg ((if (Int32.ofNat (L 11 pn0)) < (if (V0 11 pn1 3) < px2 then (V0 11 pn1 3) else px2) then (Int32.ofNat (L 11 pn0)) else (if (V0 11 pn1 3) < px2 then (V0 11 pn1 3) else px2))).toNatClampNeg)) 13 pn0) ((0 : Int32)).toNatClampNeg ((0 : Int32)).toNatClampNeg ((if (Int32.ofNat (L 11 pn0)) < (if (V0 11 pn1 3) < px2 then (V0 11 pn1 3) else px2) then (Int32.ofNat (L 11 pn0)) else (if (V0 11 pn1 3) < px2 then (V0 11 pn1 3) else px2))).toNatClampNeg)) 14 pn0) ((0 : Int32)).toNatClampNeg ((0 : Int32)).toNatClampNeg ((if (Int32.ofNat (L 11 pn0)) < (if (V0 11 pn1 3) < px2 then (V0 11 pn1 3) else px2) then (Int32.ofNat (L 11 pn0)) else (if (V0 11 pn1 3) < px2 then (V0 11 pn1 3) else px2))).toNatClampNeg)) 11 pn0 3 (if (Int32.ofNat (L 11 pn0)) < (if (V0 11 pn1 3) < px2 then (V0 11 pn1 3) else px2) then (Int32.ofNat (L 11 pn0)) else (if (V0 11 pn1 3) < px2 then (V0 11 pn1 3) else px2))) c0 hu_4 hpn1) (cwV 1 hts gX1_becomeFirstOf_X1_dropFirst rfl rfl rfl (by decide +kernel) ⟨Nat.le_of_ble_eq_true rfl, Nat.le_of_ble_eq_true rfl⟩) ⟨fun a U g9 mk w9 => ⟨w9.1, xM_calling w9.2⟩, mP_recv (q := (RX1, TX1, 4)) hK hM hpn1 rfl rfl, fun U hU hWm => ⟨rfl, xM_of hM hK hW hAs hS.1 hU hWm⟩⟩ rfl rfl hl.1 rfl (lv_room (Nat.le_of_ble_eq_true rfl)) dX1_becomeFirstOf_66 ⟨Nat.le_of_ble_eq_true rfl, Nat.le_of_ble_eq_true rfl⟩) hS (fun _ _ h9 => h9) (fun _ h9 => h9) (fun u9 t9 H locs ht9 _ hw9 hB9 _ _ hS => ?_)
  obtain ⟨hM, -, hW, -⟩ := hB9
  rw [ht9] at hM
  have e9 : u_4 = res := Option.some.inj h
  subst e9
  exact W.vret hx hb hr (fun t9 ht9 hW9 => ⟨⟨(), rfl, trivial, xM_of hM hK hW hAs hS.1 ht9 hW9⟩, hS.F ht9⟩) hS.2.2 dX1_becomeFirstOf_69
/-! X2_clear -/
def fX2_clear (L : Nat → Nat → Nat) (pn0 : Nat) (V0 : mM) (c0 : Nat × Nat) : Option (mM) := some (mu (mu (mu V0 17 pn0 3 (0 : Int32)) 17 pn0 4 (0 : Int32)) 17 pn0 5 (-1 : Int32))
set_option maxHeartbeats 4000000 in
set_option maxRecDepth 100000 in
theorem kX2_clear (l : Launch) {dC : Nat → ClassId} {dI : Nat → Nat → Nat} {A : Nat → Prop} {ad : Nat → Nat → Nat} {cnt : Nat} {L : Nat → Nat → Nat} {cI cS cW : ClassId} {q : Nat × Nat} (hsh : xSh cnt L) (pn0 : Nat) (V0 : mM) (c0 : Nat × Nat) {res : mM} (h : fX2_clear L pn0 V0 c0 = some res) (hpn0 : xex cnt L 17 pn0) : Met l yX2_clear wsX2_clear ({ frames := 0, cells := 0, slots := 0, locals := 0 } : Room) (va_Pc [.ref (ad 17 pn0)] (fun U => xM dC dI A ad cnt L cI cS cW q V0 c0 U)) (va_Qv (fun (_ : Unit) => True) (fun _ t9 => xM dC dI A ad cnt L cI cS cW q res c0 t9) A) 0 0 A := by
  refine Met.ofW (cc := cX2_clear) (maxL := 1) (ret := none) (by decide) rfl ?_
  intro p e s m args below meth cd s₁ B hml hv
  obtain ⟨rfl, hM, hK, hW, hAs⟩ := hv
  have hx := B.exec
  have hb := B.bytes
  have hr := B.returns
  have hts := atoms_spec (ws := wsX2_clear) B.pre
  have hown : s.vm.findClass RX2 = some m.cls := findClass_of_methodNamed B.named
  have hlocks := B.notSynchronized
  have hS : va_S A s.heap s.heap [] := va_S.rf
  have k28 := hts (.fieldLink RX2 28 "StageDesk$Gifts" "size" "I") (by decide +kernel)
  have k31 := hts (.fieldLink RX2 31 "StageDesk$Gifts" "next" "I") (by decide +kernel)
  have k24 := hts (.fieldLink RX2 24 "StageDesk$Gifts" "number" "I") (by decide +kernel)
  have inX2 : ∀ w ∈ u_ws RX2 TX2 6, w ∈ wsX2_clear := by decide +kernel
  have hl := lv_entry ([.ref (ad 17 pn0)]) (n := 1) (Nat.le_of_ble_eq_true rfl)
  rw [lg_entry_eq]
  generalize (lg_sl ([.ref (ad 17 pn0)]) ++ List.replicate (1 - (lg_sl ([.ref (ad 17 pn0)])).length) Slot.unset).toArray = ls at hl ⊢
  have hl : lv_has ls 1 [(0, .ref (ad 17 pn0))] := hl
  unfold fX2_clear at h
  refine lv_aload_n hx hb dX2_clear_0 rfl (lv_at hl 0 rfl) ?_
  refine lv_iconst (v := 0) hx hb dX2_clear_1 (by decide) ?_
  refine mm_put (C := RX2) (T := TX2) (N := 6) (ci := 2) (ty := .int) hx hb hts inX2 tyX2 tyX2_ok nmX2 hown hK hM hS 17 pn0 hpn0 rfl rfl 3 (by decide) k28 (fun _ h9 => h9) rfl (by decide +kernel) rfl rfl (Nat.le_of_ble_eq_true rfl) (0 : Int32) rfl dX2_clear_2 (fun H locs hM hS => ?_)
  have hW := xW_mu (k := 17) (n := pn0) (t := 3) (x := (0 : Int32)) hW (fun h9 => Bool.noConfusion (show false = true from h9))
  refine lv_aload_n hx hb dX2_clear_5 rfl (lv_at hl 0 rfl) ?_
  refine lv_iconst (v := 0) hx hb dX2_clear_6 (by decide) ?_
  refine mm_put (C := RX2) (T := TX2) (N := 6) (ci := 2) (ty := .int) hx hb hts inX2 tyX2 tyX2_ok nmX2 hown hK hM hS 17 pn0 hpn0 rfl rfl 4 (by decide) k31 (fun _ h9 => h9) rfl (by decide +kernel) rfl rfl (Nat.le_of_ble_eq_true rfl) (0 : Int32) rfl dX2_clear_7 (fun H locs hM hS => ?_)
  have hW := xW_mu (k := 17) (n := pn0) (t := 4) (x := (0 : Int32)) hW (fun h9 => Bool.noConfusion (show false = true from h9))
  refine lv_aload_n hx hb dX2_clear_10 rfl (lv_at hl 0 rfl) ?_
  refine lv_iconst (v := (-1)) hx hb dX2_clear_11 (by decide) ?_
  refine mm_put (C := RX2) (T := TX2) (N := 6) (ci := 2) (ty := .int) hx hb hts inX2 tyX2 tyX2_ok nmX2 hown hK hM hS 17 pn0 hpn0 rfl rfl 5 (by decide) k24 (fun _ h9 => h9) rfl (by decide +kernel) rfl rfl (Nat.le_of_ble_eq_true rfl) (-1 : Int32) rfl dX2_clear_12 (fun H locs hM hS => ?_)
  have hW := xW_mu (k := 17) (n := pn0) (t := 5) (x := (-1 : Int32)) hW (fun h9 => Bool.noConfusion (show false = true from h9))
  have e9 : (mu (mu (mu V0 17 pn0 3 (0 : Int32)) 17 pn0 4 (0 : Int32)) 17 pn0 5 (-1 : Int32)) = res := Option.some.inj h
  subst e9
  exact W.vret hx hb hr (fun t9 ht9 hW9 => ⟨⟨(), rfl, trivial, xM_of hM hK hW hAs hS.1 ht9 hW9⟩, hS.F ht9⟩) hS.2.2 dX2_clear_15
/-! X2_append -/
def fX2_append (L : Nat → Nat → Nat) (pn0 : Nat) (pe1 : Int32) (px2 : Int32) (px3 : Int32) (V0 : mM) (c0 : Nat × Nat) : Option (mM) := if pe1 < 0 then (some V0) else (if (V0 17 pn0 3) < (Int32.ofNat 16) then (if bin (V0 17 pn0 3) 16 = true then (if bin ((mu V0 18 pn0 ((V0 17 pn0 3)).toNatClampNeg (Int32.ofNat pe1.toNatClampNeg)) 17 pn0 3) 16 = true then (if bin ((mu (mu V0 18 pn0 ((V0 17 pn0 3)).toNatClampNeg (Int32.ofNat pe1.toNatClampNeg)) 19 pn0 (((mu V0 18 pn0 ((V0 17 pn0 3)).toNatClampNeg (Int32.ofNat pe1.toNatClampNeg)) 17 pn0 3)).toNatClampNeg px2) 17 pn0 3) 16 = true then (some (mu (mu (mu (mu V0 18 pn0 ((V0 17 pn0 3)).toNatClampNeg (Int32.ofNat pe1.toNatClampNeg)) 19 pn0 (((mu V0 18 pn0 ((V0 17 pn0 3)).toNatClampNeg (Int32.ofNat pe1.toNatClampNeg)) 17 pn0 3)).toNatClampNeg px2) 20 pn0 (((mu (mu V0 18 pn0 ((V0 17 pn0 3)).toNatClampNeg (Int32.ofNat pe1.toNatClampNeg)) 19 pn0 (((mu V0 18 pn0 ((V0 17 pn0 3)).toNatClampNeg (Int32.ofNat pe1.toNatClampNeg)) 17 pn0 3)).toNatClampNeg px2) 17 pn0 3)).toNatClampNeg px3) 17 pn0 3 (((mu (mu (mu V0 18 pn0 ((V0 17 pn0 3)).toNatClampNeg (Int32.ofNat pe1.toNatClampNeg)) 19 pn0 (((mu V0 18 pn0 ((V0 17 pn0 3)).toNatClampNeg (Int32.ofNat pe1.toNatClampNeg)) 17 pn0 3)).toNatClampNeg px2) 20 pn0 (((mu (mu V0 18 pn0 ((V0 17 pn0 3)).toNatClampNeg (Int32.ofNat pe1.toNatClampNeg)) 19 pn0 (((mu V0 18 pn0 ((V0 17 pn0 3)).toNatClampNeg (Int32.ofNat pe1.toNatClampNeg)) 17 pn0 3)).toNatClampNeg px2) 17 pn0 3)).toNatClampNeg px3) 17 pn0 3) + (1 : Int32)))) else none) else none) else none) else (some V0))
set_option maxHeartbeats 4000000 in
set_option maxRecDepth 100000 in
theorem kX2_append (l : Launch) {dC : Nat → ClassId} {dI : Nat → Nat → Nat} {A : Nat → Prop} {ad : Nat → Nat → Nat} {cnt : Nat} {L : Nat → Nat → Nat} {cI cS cW : ClassId} {q : Nat × Nat} (hsh : xSh cnt L) (pn0 : Nat) (pe1 : Int32) (px2 : Int32) (px3 : Int32) (V0 : mM) (c0 : Nat × Nat) {res : mM} (h : fX2_append L pn0 pe1 px2 px3 V0 c0 = some res) (hpn0 : xex cnt L 17 pn0) (okpe1 : okS cnt pe1) : Met l yX2_append wsX2_append ({ frames := 0, cells := 0, slots := 0, locals := 0 } : Room) (va_Pc [.ref (ad 17 pn0), va_rf (rO ad pe1), .int px2, .int px3] (fun U => xM dC dI A ad cnt L cI cS cW q V0 c0 U)) (va_Qv (fun (_ : Unit) => True) (fun _ t9 => xM dC dI A ad cnt L cI cS cW q res c0 t9) A) 0 0 A := by
  refine Met.ofW (cc := cX2_append) (maxL := 4) (ret := none) (by decide) rfl ?_
  intro p e s m args below meth cd s₁ B hml hv
  obtain ⟨rfl, hM, hK, hW, hAs⟩ := hv
  have hx := B.exec
  have hb := B.bytes
  have hr := B.returns
  have hts := atoms_spec (ws := wsX2_append) B.pre
  have hown : s.vm.findClass RX2 = some m.cls := findClass_of_methodNamed B.named
  have hlocks := B.notSynchronized
  have hS : va_S A s.heap s.heap [] := va_S.rf
  have k28 := hts (.fieldLink RX2 28 "StageDesk$Gifts" "size" "I") (by decide +kernel)
  have k11 := hts (.fieldLink RX2 11 "StageDesk$Gifts" "targets" "[LStageDesk$Stage;") (by decide +kernel)
  have k17 := hts (.fieldLink RX2 17 "StageDesk$Gifts" "values" "[I") (by decide +kernel)
  have k21 := hts (.fieldLink RX2 21 "StageDesk$Gifts" "births" "[I") (by decide +kernel)
  have inX2 : ∀ w ∈ u_ws RX2 TX2 6, w ∈ wsX2_append := by decide +kernel
  have hl : lv_has ((lg_sl ([.ref (ad 17 pn0), va_rf (rO ad pe1), .int px2, .int px3]) ++ List.replicate (4 - (lg_sl ([.ref (ad 17 pn0), va_rf (rO ad pe1), .int px2, .int px3])).length) Slot.unset).toArray) 4 [(0, .ref (ad 17 pn0)), (1, va_rf (rO ad pe1)), (2, .int px2), (3, .int px3)] := by cases rO ad pe1 <;> exact lv_entry _ (Nat.le_of_ble_eq_true rfl)
  rw [lg_entry_eq]
  generalize (lg_sl ([.ref (ad 17 pn0), va_rf (rO ad pe1), .int px2, .int px3]) ++ List.replicate (4 - (lg_sl ([.ref (ad 17 pn0), va_rf (rO ad pe1), .int px2, .int px3])).length) Slot.unset).toArray = ls at hl ⊢
  have hl : lv_has ls 4 [(0, .ref (ad 17 pn0)), (1, va_rf (rO ad pe1)), (2, .int px2), (3, .int px3)] := hl
  unfold fX2_append at h
  refine mm_aload_n hx hb dX2_append_0 rfl (lv_at hl 1 rfl) ?_
  refine mm_ifnull (tgt := 16) hx hb dX2_append_1 (by decide) (fun z_1 => ?_) (fun z_1 => ?_)
  · have h := iteT z_1 h
    have e9 : V0 = res := Option.some.inj h
    subst e9
    exact W.vret hx hb hr (fun t9 ht9 hW9 => ⟨⟨(), rfl, trivial, xM_of hM hK hW hAs hS.1 ht9 hW9⟩, hS.F ht9⟩) hS.2.2 dX2_append_16
  · have h := iteF z_1 h
    rw [rO_pos (ad := ad) z_1] at hl
    refine lv_aload_n hx hb dX2_append_4 rfl (lv_at hl 0 rfl) ?_
    refine mm_get (C := RX2) (T := TX2) (N := 6) (ci := 2) hx hb hts inX2 hown hK hM 17 pn0 hpn0 rfl rfl 3 (by decide) k28 (fun _ h9 => h9) rfl dX2_append_5 ?_
    refine lv_aload_n hx hb dX2_append_8 rfl (lv_at hl 0 rfl) ?_
    refine mm_get (C := RX2) (T := TX2) (N := 6) (ci := 2) hx hb hts inX2 hown hK hM 17 pn0 hpn0 rfl rfl 0 (by decide) k11 (fun _ h9 => h9) rfl dX2_append_9 ?_
    refine mm_alen (v := (Int32.ofNat 16)) hx hb hK hM 18 pn0 (xe17_t hpn0) 1 rfl rfl rfl dX2_append_12 ?_
    refine lv_icmp_lt (tgt := 17) hx hb dX2_append_13 (by decide) (fun c_2 => ?_) (fun c_2 => ?_)
    · have h := iteT c_2 h
      refine lv_aload_n hx hb dX2_append_17 rfl (lv_at hl 0 rfl) ?_
      refine mm_get (C := RX2) (T := TX2) (N := 6) (ci := 2) hx hb hts inX2 hown hK hM 17 pn0 hpn0 rfl rfl 0 (by decide) k11 (fun _ h9 => h9) rfl dX2_append_18 ?_
      refine lv_aload_n hx hb dX2_append_21 rfl (lv_at hl 0 rfl) ?_
      refine mm_get (C := RX2) (T := TX2) (N := 6) (ci := 2) hx hb hts inX2 hown hK hM 17 pn0 hpn0 rfl rfl 3 (by decide) k28 (fun _ h9 => h9) rfl dX2_append_22 ?_
      refine lv_aload_n hx hb dX2_append_25 rfl (lv_at hl 1 rfl) ?_
      obtain ⟨b_3, h⟩ := iteS h
      refine xx_aastR hsh (okS_lt okpe1 z_1) hx hb hK hM hS 18 pn0 (xe17_t hpn0) (fun _ => rfl) (bin_in b_3) dX2_append_26 (fun H locs hM hS => ?_)
      have hW := xW_mu (k := 18) (n := pn0) (t := ((V0 17 pn0 3)).toNatClampNeg) (x := (Int32.ofNat pe1.toNatClampNeg)) hW (fun _ => (okS_nI hsh (okS_lt okpe1 z_1)))
      refine lv_aload_n hx hb dX2_append_27 rfl (lv_at hl 0 rfl) ?_
      refine mm_get (C := RX2) (T := TX2) (N := 6) (ci := 2) hx hb hts inX2 hown hK hM 17 pn0 hpn0 rfl rfl 1 (by decide) k17 (fun _ h9 => h9) rfl dX2_append_28 ?_
      refine lv_aload_n hx hb dX2_append_31 rfl (lv_at hl 0 rfl) ?_
      refine mm_get (C := RX2) (T := TX2) (N := 6) (ci := 2) hx hb hts inX2 hown hK hM 17 pn0 hpn0 rfl rfl 3 (by decide) k28 (fun _ h9 => h9) rfl dX2_append_32 ?_
      refine lv_iload_n hx hb dX2_append_35 rfl (lv_at hl 2 rfl) ?_
      obtain ⟨b_4, h⟩ := iteS h
      refine mm_iast hx hb hK hM hS 19 pn0 (xe17_v hpn0) 0 rfl rfl (bin_in b_4) rfl dX2_append_36 (fun H locs hM hS => ?_)
      have hW := xW_mu (k := 19) (n := pn0) (t := (((mu V0 18 pn0 ((V0 17 pn0 3)).toNatClampNeg (Int32.ofNat pe1.toNatClampNeg)) 17 pn0 3)).toNatClampNeg) (x := px2) hW (fun h9 => Bool.noConfusion (show false = true from h9))
      refine lv_aload_n hx hb dX2_append_37 rfl (lv_at hl 0 rfl) ?_
      refine mm_get (C := RX2) (T := TX2) (N := 6) (ci := 2) hx hb hts inX2 hown hK hM 17 pn0 hpn0 rfl rfl 2 (by decide) k21 (fun _ h9 => h9) rfl dX2_append_38 ?_
      refine lv_aload_n hx hb dX2_append_41 rfl (lv_at hl 0 rfl) ?_
      refine mm_get (C := RX2) (T := TX2) (N := 6) (ci := 2) hx hb hts inX2 hown hK hM 17 pn0 hpn0 rfl rfl 3 (by decide) k28 (fun _ h9 => h9) rfl dX2_append_42 ?_
      refine lv_iload_n hx hb dX2_append_45 rfl (lv_at hl 3 rfl) ?_
      obtain ⟨b_5, h⟩ := iteS h
      refine mm_iast hx hb hK hM hS 20 pn0 (xe17_b hpn0) 0 rfl rfl (bin_in b_5) rfl dX2_append_46 (fun H locs hM hS => ?_)
      have hW := xW_mu (k := 20) (n := pn0) (t := (((mu (mu V0 18 pn0 ((V0 17 pn0 3)).toNatClampNeg (Int32.ofNat pe1.toNatClampNeg)) 19 pn0 (((mu V0 18 pn0 ((V0 17 pn0 3)).toNatClampNeg (Int32.ofNat pe1.toNatClampNeg)) 17 pn0 3)).toNatClampNeg px2) 17 pn0 3)).toNatClampNeg) (x := px3) hW (fun h9 => Bool.noConfusion (show false = true from h9))
      refine lv_aload_n hx hb dX2_append_47 rfl (lv_at hl 0 rfl) ?_
      refine lv_dup hx hb dX2_append_48 rfl ?_
      refine mm_get (C := RX2) (T := TX2) (N := 6) (ci := 2) hx hb hts inX2 hown hK hM 17 pn0 hpn0 rfl rfl 3 (by decide) k28 (fun _ h9 => h9) rfl dX2_append_49 ?_
      refine lv_iconst (v := 1) hx hb dX2_append_52 (by decide) ?_
      refine lv_iadd hx hb dX2_append_53 ?_
      refine mm_put (C := RX2) (T := TX2) (N := 6) (ci := 2) (ty := .int) hx hb hts inX2 tyX2 tyX2_ok nmX2 hown hK hM hS 17 pn0 hpn0 rfl rfl 3 (by decide) k28 (fun _ h9 => h9) rfl (by decide +kernel) rfl rfl (Nat.le_of_ble_eq_true rfl) (((mu (mu (mu V0 18 pn0 ((V0 17 pn0 3)).toNatClampNeg (Int32.ofNat pe1.toNatClampNeg)) 19 pn0 (((mu V0 18 pn0 ((V0 17 pn0 3)).toNatClampNeg (Int32.ofNat pe1.toNatClampNeg)) 17 pn0 3)).toNatClampNeg px2) 20 pn0 (((mu (mu V0 18 pn0 ((V0 17 pn0 3)).toNatClampNeg (Int32.ofNat pe1.toNatClampNeg)) 19 pn0 (((mu V0 18 pn0 ((V0 17 pn0 3)).toNatClampNeg (Int32.ofNat pe1.toNatClampNeg)) 17 pn0 3)).toNatClampNeg px2) 17 pn0 3)).toNatClampNeg px3) 17 pn0 3) + (1 : Int32)) rfl dX2_append_54 (fun H locs hM hS => ?_)
      have hW := xW_mu (k := 17) (n := pn0) (t := 3) (x := (((mu (mu (mu V0 18 pn0 ((V0 17 pn0 3)).toNatClampNeg (Int32.ofNat pe1.toNatClampNeg)) 19 pn0 (((mu V0 18 pn0 ((V0 17 pn0 3)).toNatClampNeg (Int32.ofNat pe1.toNatClampNeg)) 17 pn0 3)).toNatClampNeg px2) 20 pn0 (((mu (mu V0 18 pn0 ((V0 17 pn0 3)).toNatClampNeg (Int32.ofNat pe1.toNatClampNeg)) 19 pn0 (((mu V0 18 pn0 ((V0 17 pn0 3)).toNatClampNeg (Int32.ofNat pe1.toNatClampNeg)) 17 pn0 3)).toNatClampNeg px2) 17 pn0 3)).toNatClampNeg px3) 17 pn0 3) + (1 : Int32))) hW (fun h9 => Bool.noConfusion (show false = true from h9))
      have e9 : (mu (mu (mu (mu V0 18 pn0 ((V0 17 pn0 3)).toNatClampNeg (Int32.ofNat pe1.toNatClampNeg)) 19 pn0 (((mu V0 18 pn0 ((V0 17 pn0 3)).toNatClampNeg (Int32.ofNat pe1.toNatClampNeg)) 17 pn0 3)).toNatClampNeg px2) 20 pn0 (((mu (mu V0 18 pn0 ((V0 17 pn0 3)).toNatClampNeg (Int32.ofNat pe1.toNatClampNeg)) 19 pn0 (((mu V0 18 pn0 ((V0 17 pn0 3)).toNatClampNeg (Int32.ofNat pe1.toNatClampNeg)) 17 pn0 3)).toNatClampNeg px2) 17 pn0 3)).toNatClampNeg px3) 17 pn0 3 (((mu (mu (mu V0 18 pn0 ((V0 17 pn0 3)).toNatClampNeg (Int32.ofNat pe1.toNatClampNeg)) 19 pn0 (((mu V0 18 pn0 ((V0 17 pn0 3)).toNatClampNeg (Int32.ofNat pe1.toNatClampNeg)) 17 pn0 3)).toNatClampNeg px2) 20 pn0 (((mu (mu V0 18 pn0 ((V0 17 pn0 3)).toNatClampNeg (Int32.ofNat pe1.toNatClampNeg)) 19 pn0 (((mu V0 18 pn0 ((V0 17 pn0 3)).toNatClampNeg (Int32.ofNat pe1.toNatClampNeg)) 17 pn0 3)).toNatClampNeg px2) 17 pn0 3)).toNatClampNeg px3) 17 pn0 3) + (1 : Int32))) = res := Option.some.inj h
      subst e9
      exact W.vret hx hb hr (fun t9 ht9 hW9 => ⟨⟨(), rfl, trivial, xM_of hM hK hW hAs hS.1 ht9 hW9⟩, hS.F ht9⟩) hS.2.2 dX2_append_57
    · have h := iteF c_2 h
      have e9 : V0 = res := Option.some.inj h
      subst e9
      exact W.vret hx hb hr (fun t9 ht9 hW9 => ⟨⟨(), rfl, trivial, xM_of hM hK hW hAs hS.1 ht9 hW9⟩, hS.F ht9⟩) hS.2.2 dX2_append_16
/-! X5_response -/
def jnX5_response_62 (L : Nat → Nat → Nat) (ro11 : Nat → Int32 → mM → Nat × Nat → Option (Int32 × mM)) (n0 : Nat) (x1 : Int32) (x2 : Int32) (V : mM) (c0 : Nat × Nat) : Option (Int32 × mM) := if bin x1 20 = true then (if bin x2 20 = true then (ro11 n0 (x1 + 1) (mu V 23 n0 (x2).toNatClampNeg (V 22 n0 (x1).toNatClampNeg)) c0) else none) else none
def lpX5_response_21 (L : Nat → Nat → Nat) (ro11 : Nat → Int32 → mM → Nat × Nat → Option (Int32 × mM)) : Nat → Nat → Int32 → Int32 → mM → Nat × Nat → Option (Int32 × mM)
  | 0, _, _, _, _, _ => none
  | n9 + 1, n0, x1, x2, V, c0 => if x2 ≤ 0 then (jnX5_response_62 L ro11 n0 x1 x2 V c0) else (if bin (x2 - (1 : Int32)) 20 = true then (if bin x1 20 = true then (if (V 23 n0 ((x2 - (1 : Int32))).toNatClampNeg) ≤ (V 22 n0 (x1).toNatClampNeg) then (jnX5_response_62 L ro11 n0 x1 x2 V c0) else (if bin (x2 - (1 : Int32)) 20 = true then (if bin x2 20 = true then (lpX5_response_21 L ro11 n9 n0 x1 (x2 + (-1)) (mu V 23 n0 (x2).toNatClampNeg (V 23 n0 ((x2 - (1 : Int32))).toNatClampNeg)) c0) else none) else none)) else none) else none)
def lpX5_response_11 (L : Nat → Nat → Nat)  : Nat → Nat → Int32 → mM → Nat × Nat → Option (Int32 × mM)
  | 0, _, _, _, _ => none
  | n9 + 1, n0, x1, V, c0 => if (V 21 n0 2) ≤ x1 then (if bin (((9 : Int32) * (V 21 n0 2)) / (10 : Int32)) 20 = true then (some ((V 23 n0 ((((9 : Int32) * (V 21 n0 2)) / (10 : Int32))).toNatClampNeg), V)) else none) else (lpX5_response_21 L (lpX5_response_11 L n9) fu n0 x1 x1 V c0)
def fX5_response (L : Nat → Nat → Nat) (pn0 : Nat) (V0 : mM) (c0 : Nat × Nat) : Option (Int32 × mM) := if (V0 21 pn0 2) = 0 then (some ((0 : Int32), V0)) else (lpX5_response_11 L fu pn0 (0 : Int32) V0 c0)
set_option maxHeartbeats 4000000 in
set_option maxRecDepth 100000 in
theorem kX5_response (l : Launch) {dC : Nat → ClassId} {dI : Nat → Nat → Nat} {A : Nat → Prop} {ad : Nat → Nat → Nat} {cnt : Nat} {L : Nat → Nat → Nat} {cI cS cW : ClassId} {q : Nat × Nat} (hsh : xSh cnt L) (pn0 : Nat) (V0 : mM) (c0 : Nat × Nat) {res : Int32 × mM} (h : fX5_response L pn0 V0 c0 = some res) (hpn0 : xex cnt L 21 pn0) : Met l yX5_response wsX5_response ({ frames := 0, cells := 0, slots := 0, locals := 0 } : Room) (va_Pc [.ref (ad 21 pn0)] (fun U => xM dC dI A ad cnt L cI cS cW q V0 c0 U)) (va_Qi (fun r9 (_ : Unit) => r9 = res.1) (fun _ t9 => xM dC dI A ad cnt L cI cS cW q res.2 c0 t9) A) 0 0 A := by
  refine Met.ofW (cc := cX5_response) (maxL := 3) (ret := (some .int)) (by decide) rfl ?_
  intro p e s m args below meth cd s₁ B hml hv
  obtain ⟨rfl, hM, hK, hW, hAs⟩ := hv
  have hx := B.exec
  have hb := B.bytes
  have hr := B.returns
  have hts := atoms_spec (ws := wsX5_response) B.pre
  have hown : s.vm.findClass RX5 = some m.cls := findClass_of_methodNamed B.named
  have hlocks := B.notSynchronized
  have hS : va_S A s.heap s.heap [] := va_S.rf
  have k15 := hts (.fieldLink RX5 15 "StageDesk$Times" "sorted" "[I") (by decide +kernel)
  have k9 := hts (.fieldLink RX5 9 "StageDesk$Times" "kept" "[I") (by decide +kernel)
  have k18 := hts (.fieldLink RX5 18 "StageDesk$Times" "size" "I") (by decide +kernel)
  have inX5 : ∀ w ∈ u_ws RX5 TX5 3, w ∈ wsX5_response := by decide +kernel
  have hb62 : ∀ (ro11 : Nat → Int32 → mM → Nat × Nat → Option (Int32 × mM)) (hro11 : ∀ (n0 : Nat) (x1 : Int32) (V : mM), ro11 n0 x1 V c0 = some res → ∀ (H : Heap) (locs : List Loc), xex cnt L 21 n0 → mP (dC, dI) vwCl A (xad ad q) (xce cI cS cW ad q L c0) (xex cnt L) V H → xW cnt V → va_S A s.heap H locs → ∀ (ls : Array Slot), lv_has ls 3 [(0, .ref (ad 21 n0)), (1, .int x1)] → W p l e (headSpec wsX5_response ({ frames := 0, cells := 0, slots := 0, locals := 0 } : Room)).room s m ([.ref (ad 21 pn0)] : List Value).toArray below meth cd H locs 0 0 (MQ below (va_Qi (fun r9 (_ : Unit) => r9 = res.1) (fun _ t9 => xM dC dI A ad cnt L cI cS cW q res.2 c0 t9) A) ([.ref (ad 21 pn0)] : List Value).toArray s 0 0 A) (F0 m 11 ls [])), ∀ (n0 : Nat) (x1 : Int32) (x2 : Int32) (V : mM), jnX5_response_62 L ro11 n0 x1 x2 V c0 = some res → ∀ (H : Heap) (locs : List Loc), xex cnt L 21 n0 → mP (dC, dI) vwCl A (xad ad q) (xce cI cS cW ad q L c0) (xex cnt L) V H → xW cnt V → va_S A s.heap H locs → ∀ (ls : Array Slot), lv_has ls 3 [(0, .ref (ad 21 n0)), (1, .int x1), (2, .int x2)] → W p l e (headSpec wsX5_response ({ frames := 0, cells := 0, slots := 0, locals := 0 } : Room)).room s m ([.ref (ad 21 pn0)] : List Value).toArray below meth cd H locs 0 0 (MQ below (va_Qi (fun r9 (_ : Unit) => r9 = res.1) (fun _ t9 => xM dC dI A ad cnt L cI cS cW q res.2 c0 t9) A) ([.ref (ad 21 pn0)] : List Value).toArray s 0 0 A) (F0 m 62 ls []) := by
    intro ro11 hro11 n0 x1 x2 V h H locs hn0 hM hW hS ls hl
    unfold jnX5_response_62 at h
    refine lv_aload_n hx hb dX5_response_62 rfl (lv_at hl 0 rfl) ?_
    refine mm_get (C := RX5) (T := TX5) (N := 3) (ci := 5) hx hb hts inX5 hown hK hM 21 n0 hn0 rfl rfl 1 (by decide) k15 (fun _ h9 => h9) rfl dX5_response_63 ?_
    refine lv_iload_n hx hb dX5_response_66 rfl (lv_at hl 2 rfl) ?_
    refine lv_aload_n hx hb dX5_response_67 rfl (lv_at hl 0 rfl) ?_
    refine mm_get (C := RX5) (T := TX5) (N := 3) (ci := 5) hx hb hts inX5 hown hK hM 21 n0 hn0 rfl rfl 0 (by decide) k9 (fun _ h9 => h9) rfl dX5_response_68 ?_
    refine lv_iload_n hx hb dX5_response_71 rfl (lv_at hl 1 rfl) ?_
    obtain ⟨b_1, h⟩ := iteS h
    refine mm_iald hx hb hK hM 22 n0 (xe21_k hn0) 0 rfl rfl (bin_in b_1) dX5_response_72 ?_
    obtain ⟨b_2, h⟩ := iteS h
    refine mm_iast hx hb hK hM hS 23 n0 (xe21_s hn0) 0 rfl rfl (bin_in b_2) rfl dX5_response_73 (fun H locs hM hS => ?_)
    have hW := xW_mu (k := 23) (n := n0) (t := (x2).toNatClampNeg) (x := (V 22 n0 (x1).toNatClampNeg)) hW (fun h9 => Bool.noConfusion (show false = true from h9))
    refine lv_iinc (v := (x1 + 1)) (lv' := [(1, .int (x1 + 1)), (0, .ref (ad 21 n0)), (2, .int x2)]) hx hb dX5_response_74 hl (k := 1) rfl rfl (by decide) rfl (fun ls hl => ?_)
    refine lv_goto (tgt := 11) hx hb dX5_response_77 (by decide) ?_
    exact hro11 _ _ _ h _ _ hn0 hM hW hS ls (lv_sub hl [1, 0] rfl)
  have hb21 : ∀ (ro11 : Nat → Int32 → mM → Nat × Nat → Option (Int32 × mM)) (hro11 : ∀ (n0 : Nat) (x1 : Int32) (V : mM), ro11 n0 x1 V c0 = some res → ∀ (H : Heap) (locs : List Loc), xex cnt L 21 n0 → mP (dC, dI) vwCl A (xad ad q) (xce cI cS cW ad q L c0) (xex cnt L) V H → xW cnt V → va_S A s.heap H locs → ∀ (ls : Array Slot), lv_has ls 3 [(0, .ref (ad 21 n0)), (1, .int x1)] → W p l e (headSpec wsX5_response ({ frames := 0, cells := 0, slots := 0, locals := 0 } : Room)).room s m ([.ref (ad 21 pn0)] : List Value).toArray below meth cd H locs 0 0 (MQ below (va_Qi (fun r9 (_ : Unit) => r9 = res.1) (fun _ t9 => xM dC dI A ad cnt L cI cS cW q res.2 c0 t9) A) ([.ref (ad 21 pn0)] : List Value).toArray s 0 0 A) (F0 m 11 ls [])) (n9 : Nat), ∀ (n0 : Nat) (x1 : Int32) (x2 : Int32) (V : mM), lpX5_response_21 L ro11 n9 n0 x1 x2 V c0 = some res → ∀ (H : Heap) (locs : List Loc), xex cnt L 21 n0 → mP (dC, dI) vwCl A (xad ad q) (xce cI cS cW ad q L c0) (xex cnt L) V H → xW cnt V → va_S A s.heap H locs → ∀ (ls : Array Slot), lv_has ls 3 [(0, .ref (ad 21 n0)), (1, .int x1), (2, .int x2)] → W p l e (headSpec wsX5_response ({ frames := 0, cells := 0, slots := 0, locals := 0 } : Room)).room s m ([.ref (ad 21 pn0)] : List Value).toArray below meth cd H locs 0 0 (MQ below (va_Qi (fun r9 (_ : Unit) => r9 = res.1) (fun _ t9 => xM dC dI A ad cnt L cI cS cW q res.2 c0 t9) A) ([.ref (ad 21 pn0)] : List Value).toArray s 0 0 A) (F0 m 21 ls []) := by
    intro ro11 hro11 n9
    induction n9 with
    | zero =>
      intro n0 x1 x2 V h H locs hn0 hM hW hS ls hl
      rw [lpX5_response_21] at h
      cases h
    | succ n9 ih =>
      intro n0 x1 x2 V h H locs hn0 hM hW hS ls hl
      rw [lpX5_response_21] at h
      refine lv_iload_n hx hb dX5_response_21 rfl (lv_at hl 2 rfl) ?_
      refine lv_if_le (tgt := 62) hx hb dX5_response_22 (by decide) (fun c_3 => ?_) (fun c_3 => ?_)
      · have h := iteT c_3 h
        exact hb62 ro11 hro11 _ _ _ _ h _ _ hn0 hM hW hS ls (lv_sub hl [0, 1, 2] rfl)
      · have h := iteF c_3 h
        refine lv_aload_n hx hb dX5_response_25 rfl (lv_at hl 0 rfl) ?_
        refine mm_get (C := RX5) (T := TX5) (N := 3) (ci := 5) hx hb hts inX5 hown hK hM 21 n0 hn0 rfl rfl 1 (by decide) k15 (fun _ h9 => h9) rfl dX5_response_26 ?_
        refine lv_iload_n hx hb dX5_response_29 rfl (lv_at hl 2 rfl) ?_
        refine lv_iconst (v := 1) hx hb dX5_response_30 (by decide) ?_
        refine lv_isub hx hb dX5_response_31 ?_
        obtain ⟨b_4, h⟩ := iteS h
        refine mm_iald hx hb hK hM 23 n0 (xe21_s hn0) 0 rfl rfl (bin_in b_4) dX5_response_32 ?_
        refine lv_aload_n hx hb dX5_response_33 rfl (lv_at hl 0 rfl) ?_
        refine mm_get (C := RX5) (T := TX5) (N := 3) (ci := 5) hx hb hts inX5 hown hK hM 21 n0 hn0 rfl rfl 0 (by decide) k9 (fun _ h9 => h9) rfl dX5_response_34 ?_
        refine lv_iload_n hx hb dX5_response_37 rfl (lv_at hl 1 rfl) ?_
        obtain ⟨b_5, h⟩ := iteS h
        refine mm_iald hx hb hK hM 22 n0 (xe21_k hn0) 0 rfl rfl (bin_in b_5) dX5_response_38 ?_
        refine lv_icmp_le (tgt := 62) hx hb dX5_response_39 (by decide) (fun c_6 => ?_) (fun c_6 => ?_)
        · have h := iteT c_6 h
          exact hb62 ro11 hro11 _ _ _ _ h _ _ hn0 hM hW hS ls (lv_sub hl [0, 1, 2] rfl)
        · have h := iteF c_6 h
          refine lv_aload_n hx hb dX5_response_42 rfl (lv_at hl 0 rfl) ?_
          refine mm_get (C := RX5) (T := TX5) (N := 3) (ci := 5) hx hb hts inX5 hown hK hM 21 n0 hn0 rfl rfl 1 (by decide) k15 (fun _ h9 => h9) rfl dX5_response_43 ?_
          refine lv_iload_n hx hb dX5_response_46 rfl (lv_at hl 2 rfl) ?_
          refine lv_aload_n hx hb dX5_response_47 rfl (lv_at hl 0 rfl) ?_
          refine mm_get (C := RX5) (T := TX5) (N := 3) (ci := 5) hx hb hts inX5 hown hK hM 21 n0 hn0 rfl rfl 1 (by decide) k15 (fun _ h9 => h9) rfl dX5_response_48 ?_
          refine lv_iload_n hx hb dX5_response_51 rfl (lv_at hl 2 rfl) ?_
          refine lv_iconst (v := 1) hx hb dX5_response_52 (by decide) ?_
          refine lv_isub hx hb dX5_response_53 ?_
          obtain ⟨b_7, h⟩ := iteS h
          refine mm_iald hx hb hK hM 23 n0 (xe21_s hn0) 0 rfl rfl (bin_in b_7) dX5_response_54 ?_
          obtain ⟨b_8, h⟩ := iteS h
          refine mm_iast hx hb hK hM hS 23 n0 (xe21_s hn0) 0 rfl rfl (bin_in b_8) rfl dX5_response_55 (fun H locs hM hS => ?_)
          have hW := xW_mu (k := 23) (n := n0) (t := (x2).toNatClampNeg) (x := (V 23 n0 ((x2 - (1 : Int32))).toNatClampNeg)) hW (fun h9 => Bool.noConfusion (show false = true from h9))
          refine lv_iinc (v := (x2 + (-1))) (lv' := [(2, .int (x2 + (-1))), (0, .ref (ad 21 n0)), (1, .int x1)]) hx hb dX5_response_56 hl (k := 2) rfl rfl (by decide) rfl (fun ls hl => ?_)
          refine lv_goto (tgt := 21) hx hb dX5_response_59 (by decide) ?_
          exact ih _ _ _ _ h _ _ hn0 hM hW hS ls (lv_sub hl [1, 2, 0] rfl)
  have hb11 : ∀ (n9 : Nat), ∀ (n0 : Nat) (x1 : Int32) (V : mM), lpX5_response_11 L n9 n0 x1 V c0 = some res → ∀ (H : Heap) (locs : List Loc), xex cnt L 21 n0 → mP (dC, dI) vwCl A (xad ad q) (xce cI cS cW ad q L c0) (xex cnt L) V H → xW cnt V → va_S A s.heap H locs → ∀ (ls : Array Slot), lv_has ls 3 [(0, .ref (ad 21 n0)), (1, .int x1)] → W p l e (headSpec wsX5_response ({ frames := 0, cells := 0, slots := 0, locals := 0 } : Room)).room s m ([.ref (ad 21 pn0)] : List Value).toArray below meth cd H locs 0 0 (MQ below (va_Qi (fun r9 (_ : Unit) => r9 = res.1) (fun _ t9 => xM dC dI A ad cnt L cI cS cW q res.2 c0 t9) A) ([.ref (ad 21 pn0)] : List Value).toArray s 0 0 A) (F0 m 11 ls []) := by
    intro  n9
    induction n9 with
    | zero =>
      intro n0 x1 V h H locs hn0 hM hW hS ls hl
      rw [lpX5_response_11] at h
      cases h
    | succ n9 ih =>
      intro n0 x1 V h H locs hn0 hM hW hS ls hl
      rw [lpX5_response_11] at h
      refine lv_iload_n hx hb dX5_response_11 rfl (lv_at hl 1 rfl) ?_
      refine lv_aload_n hx hb dX5_response_12 rfl (lv_at hl 0 rfl) ?_
      refine mm_get (C := RX5) (T := TX5) (N := 3) (ci := 5) hx hb hts inX5 hown hK hM 21 n0 hn0 rfl rfl 2 (by decide) k18 (fun _ h9 => h9) rfl dX5_response_13 ?_
      refine lv_icmp_ge (tgt := 80) hx hb dX5_response_16 (by decide) (fun c_9 => ?_) (fun c_9 => ?_)
      · have h := iteT c_9 h
        refine lv_aload_n hx hb dX5_response_80 rfl (lv_at hl 0 rfl) ?_
        refine mm_get (C := RX5) (T := TX5) (N := 3) (ci := 5) hx hb hts inX5 hown hK hM 21 n0 hn0 rfl rfl 1 (by decide) k15 (fun _ h9 => h9) rfl dX5_response_81 ?_
        refine lv_bipush (v := 9) hx hb dX5_response_84 (by decide) ?_
        refine lv_aload_n hx hb dX5_response_86 rfl (lv_at hl 0 rfl) ?_
        refine mm_get (C := RX5) (T := TX5) (N := 3) (ci := 5) hx hb hts inX5 hown hK hM 21 n0 hn0 rfl rfl 2 (by decide) k18 (fun _ h9 => h9) rfl dX5_response_87 ?_
        refine lv_imul hx hb dX5_response_90 ?_
        refine lv_bipush (v := 10) hx hb dX5_response_91 (by decide) ?_
        refine lv_idiv hx hb dX5_response_93 (by decide) ?_
        obtain ⟨b_10, h⟩ := iteS h
        refine mm_iald hx hb hK hM 23 n0 (xe21_s hn0) 0 rfl rfl (bin_in b_10) dX5_response_94 ?_
        have e9 : ((V 23 n0 ((((9 : Int32) * (V 21 n0 2)) / (10 : Int32))).toNatClampNeg), V) = res := Option.some.inj h
        subst e9
        exact W.iret (v := (V 23 n0 ((((9 : Int32) * (V 21 n0 2)) / (10 : Int32))).toNatClampNeg)) hx hb hr (fun t9 ht9 hW9 => ⟨⟨_, (), rfl, rfl, xM_of hM hK hW hAs hS.1 ht9 hW9⟩, hS.F ht9⟩) hS.2.2 dX5_response_95
      · have h := iteF c_9 h
        refine lv_iload_n hx hb dX5_response_19 rfl (lv_at hl 1 rfl) ?_
        refine lv_istore_n (lv' := [(2, .int x1), (0, .ref (ad 21 n0)), (1, .int x1)]) hx hb dX5_response_20 rfl hl (by decide) rfl (fun ls hl => ?_)
        exact hb21 (lpX5_response_11 L n9) ih fu _ _ _ _ h _ _ hn0 hM hW hS ls (lv_sub hl [1, 2, 0] rfl)
  have hl := lv_entry ([.ref (ad 21 pn0)]) (n := 3) (Nat.le_of_ble_eq_true rfl)
  rw [lg_entry_eq]
  generalize (lg_sl ([.ref (ad 21 pn0)]) ++ List.replicate (3 - (lg_sl ([.ref (ad 21 pn0)])).length) Slot.unset).toArray = ls at hl ⊢
  have hl : lv_has ls 3 [(0, .ref (ad 21 pn0))] := hl
  unfold fX5_response at h
  refine lv_aload_n hx hb dX5_response_0 rfl (lv_at hl 0 rfl) ?_
  refine mm_get (C := RX5) (T := TX5) (N := 3) (ci := 5) hx hb hts inX5 hown hK hM 21 pn0 hpn0 rfl rfl 2 (by decide) k18 (fun _ h9 => h9) rfl dX5_response_1 ?_
  refine lv_if_ne (tgt := 9) hx hb dX5_response_4 (by decide) (fun c_11 => ?_) (fun c_11 => ?_)
  · have h := iteF c_11 h
    refine lv_iconst (v := 0) hx hb dX5_response_9 (by decide) ?_
    refine lv_istore_n (lv' := [(1, .int (0 : Int32)), (0, .ref (ad 21 pn0))]) hx hb dX5_response_10 rfl hl (by decide) rfl (fun ls hl => ?_)
    exact hb11 fu _ _ _ h _ _ hpn0 hM hW hS ls (lv_sub hl [1, 0] rfl)
  · have h := iteT c_11 h
    refine lv_iconst (v := 0) hx hb dX5_response_7 (by decide) ?_
    have e9 : ((0 : Int32), V0) = res := Option.some.inj h
    subst e9
    exact W.iret (v := (0 : Int32)) hx hb hr (fun t9 ht9 hW9 => ⟨⟨_, (), rfl, rfl, xM_of hM hK hW hAs hS.1 ht9 hW9⟩, hS.F ht9⟩) hS.2.2 dX5_response_8
/-! X4_append -/
def fX4_append (L : Nat → Nat → Nat) (pn1 : Nat) (px2 : Int32) (px3 : Int32) (V0 : mM) (c0 : Nat × Nat) : Option (Int32 × mM) := if (V0 5 0 4) < (50 : Int32) then (if bin (V0 5 0 4) 50 = true then (if bin ((mu V0 6 0 ((V0 5 0 4)).toNatClampNeg (V0 5 0 5)) 5 0 4) 50 = true then (if bin ((mu (mu V0 6 0 ((V0 5 0 4)).toNatClampNeg (V0 5 0 5)) 7 0 (((mu V0 6 0 ((V0 5 0 4)).toNatClampNeg (V0 5 0 5)) 5 0 4)).toNatClampNeg (Int32.ofNat pn1)) 5 0 4) 50 = true then (if bin ((mu (mu (mu V0 6 0 ((V0 5 0 4)).toNatClampNeg (V0 5 0 5)) 7 0 (((mu V0 6 0 ((V0 5 0 4)).toNatClampNeg (V0 5 0 5)) 5 0 4)).toNatClampNeg (Int32.ofNat pn1)) 8 0 (((mu (mu V0 6 0 ((V0 5 0 4)).toNatClampNeg (V0 5 0 5)) 7 0 (((mu V0 6 0 ((V0 5 0 4)).toNatClampNeg (V0 5 0 5)) 5 0 4)).toNatClampNeg (Int32.ofNat pn1)) 5 0 4)).toNatClampNeg px2) 5 0 4) 50 = true then (some ((((mu (mu (mu (mu (mu (mu V0 6 0 ((V0 5 0 4)).toNatClampNeg (V0 5 0 5)) 7 0 (((mu V0 6 0 ((V0 5 0 4)).toNatClampNeg (V0 5 0 5)) 5 0 4)).toNatClampNeg (Int32.ofNat pn1)) 8 0 (((mu (mu V0 6 0 ((V0 5 0 4)).toNatClampNeg (V0 5 0 5)) 7 0 (((mu V0 6 0 ((V0 5 0 4)).toNatClampNeg (V0 5 0 5)) 5 0 4)).toNatClampNeg (Int32.ofNat pn1)) 5 0 4)).toNatClampNeg px2) 9 0 (((mu (mu (mu V0 6 0 ((V0 5 0 4)).toNatClampNeg (V0 5 0 5)) 7 0 (((mu V0 6 0 ((V0 5 0 4)).toNatClampNeg (V0 5 0 5)) 5 0 4)).toNatClampNeg (Int32.ofNat pn1)) 8 0 (((mu (mu V0 6 0 ((V0 5 0 4)).toNatClampNeg (V0 5 0 5)) 7 0 (((mu V0 6 0 ((V0 5 0 4)).toNatClampNeg (V0 5 0 5)) 5 0 4)).toNatClampNeg (Int32.ofNat pn1)) 5 0 4)).toNatClampNeg px2) 5 0 4)).toNatClampNeg px3) 5 0 4 (((mu (mu (mu (mu V0 6 0 ((V0 5 0 4)).toNatClampNeg (V0 5 0 5)) 7 0 (((mu V0 6 0 ((V0 5 0 4)).toNatClampNeg (V0 5 0 5)) 5 0 4)).toNatClampNeg (Int32.ofNat pn1)) 8 0 (((mu (mu V0 6 0 ((V0 5 0 4)).toNatClampNeg (V0 5 0 5)) 7 0 (((mu V0 6 0 ((V0 5 0 4)).toNatClampNeg (V0 5 0 5)) 5 0 4)).toNatClampNeg (Int32.ofNat pn1)) 5 0 4)).toNatClampNeg px2) 9 0 (((mu (mu (mu V0 6 0 ((V0 5 0 4)).toNatClampNeg (V0 5 0 5)) 7 0 (((mu V0 6 0 ((V0 5 0 4)).toNatClampNeg (V0 5 0 5)) 5 0 4)).toNatClampNeg (Int32.ofNat pn1)) 8 0 (((mu (mu V0 6 0 ((V0 5 0 4)).toNatClampNeg (V0 5 0 5)) 7 0 (((mu V0 6 0 ((V0 5 0 4)).toNatClampNeg (V0 5 0 5)) 5 0 4)).toNatClampNeg (Int32.ofNat pn1)) 5 0 4)).toNatClampNeg px2) 5 0 4)).toNatClampNeg px3) 5 0 4) + (1 : Int32))) 5 0 5 (((mu (mu (mu (mu (mu V0 6 0 ((V0 5 0 4)).toNatClampNeg (V0 5 0 5)) 7 0 (((mu V0 6 0 ((V0 5 0 4)).toNatClampNeg (V0 5 0 5)) 5 0 4)).toNatClampNeg (Int32.ofNat pn1)) 8 0 (((mu (mu V0 6 0 ((V0 5 0 4)).toNatClampNeg (V0 5 0 5)) 7 0 (((mu V0 6 0 ((V0 5 0 4)).toNatClampNeg (V0 5 0 5)) 5 0 4)).toNatClampNeg (Int32.ofNat pn1)) 5 0 4)).toNatClampNeg px2) 9 0 (((mu (mu (mu V0 6 0 ((V0 5 0 4)).toNatClampNeg (V0 5 0 5)) 7 0 (((mu V0 6 0 ((V0 5 0 4)).toNatClampNeg (V0 5 0 5)) 5 0 4)).toNatClampNeg (Int32.ofNat pn1)) 8 0 (((mu (mu V0 6 0 ((V0 5 0 4)).toNatClampNeg (V0 5 0 5)) 7 0 (((mu V0 6 0 ((V0 5 0 4)).toNatClampNeg (V0 5 0 5)) 5 0 4)).toNatClampNeg (Int32.ofNat pn1)) 5 0 4)).toNatClampNeg px2) 5 0 4)).toNatClampNeg px3) 5 0 4 (((mu (mu (mu (mu V0 6 0 ((V0 5 0 4)).toNatClampNeg (V0 5 0 5)) 7 0 (((mu V0 6 0 ((V0 5 0 4)).toNatClampNeg (V0 5 0 5)) 5 0 4)).toNatClampNeg (Int32.ofNat pn1)) 8 0 (((mu (mu V0 6 0 ((V0 5 0 4)).toNatClampNeg (V0 5 0 5)) 7 0 (((mu V0 6 0 ((V0 5 0 4)).toNatClampNeg (V0 5 0 5)) 5 0 4)).toNatClampNeg (Int32.ofNat pn1)) 5 0 4)).toNatClampNeg px2) 9 0 (((mu (mu (mu V0 6 0 ((V0 5 0 4)).toNatClampNeg (V0 5 0 5)) 7 0 (((mu V0 6 0 ((V0 5 0 4)).toNatClampNeg (V0 5 0 5)) 5 0 4)).toNatClampNeg (Int32.ofNat pn1)) 8 0 (((mu (mu V0 6 0 ((V0 5 0 4)).toNatClampNeg (V0 5 0 5)) 7 0 (((mu V0 6 0 ((V0 5 0 4)).toNatClampNeg (V0 5 0 5)) 5 0 4)).toNatClampNeg (Int32.ofNat pn1)) 5 0 4)).toNatClampNeg px2) 5 0 4)).toNatClampNeg px3) 5 0 4) + (1 : Int32))) 5 0 5) + (1 : Int32))) 5 0 5) - (1 : Int32)), (mu (mu (mu (mu (mu (mu V0 6 0 ((V0 5 0 4)).toNatClampNeg (V0 5 0 5)) 7 0 (((mu V0 6 0 ((V0 5 0 4)).toNatClampNeg (V0 5 0 5)) 5 0 4)).toNatClampNeg (Int32.ofNat pn1)) 8 0 (((mu (mu V0 6 0 ((V0 5 0 4)).toNatClampNeg (V0 5 0 5)) 7 0 (((mu V0 6 0 ((V0 5 0 4)).toNatClampNeg (V0 5 0 5)) 5 0 4)).toNatClampNeg (Int32.ofNat pn1)) 5 0 4)).toNatClampNeg px2) 9 0 (((mu (mu (mu V0 6 0 ((V0 5 0 4)).toNatClampNeg (V0 5 0 5)) 7 0 (((mu V0 6 0 ((V0 5 0 4)).toNatClampNeg (V0 5 0 5)) 5 0 4)).toNatClampNeg (Int32.ofNat pn1)) 8 0 (((mu (mu V0 6 0 ((V0 5 0 4)).toNatClampNeg (V0 5 0 5)) 7 0 (((mu V0 6 0 ((V0 5 0 4)).toNatClampNeg (V0 5 0 5)) 5 0 4)).toNatClampNeg (Int32.ofNat pn1)) 5 0 4)).toNatClampNeg px2) 5 0 4)).toNatClampNeg px3) 5 0 4 (((mu (mu (mu (mu V0 6 0 ((V0 5 0 4)).toNatClampNeg (V0 5 0 5)) 7 0 (((mu V0 6 0 ((V0 5 0 4)).toNatClampNeg (V0 5 0 5)) 5 0 4)).toNatClampNeg (Int32.ofNat pn1)) 8 0 (((mu (mu V0 6 0 ((V0 5 0 4)).toNatClampNeg (V0 5 0 5)) 7 0 (((mu V0 6 0 ((V0 5 0 4)).toNatClampNeg (V0 5 0 5)) 5 0 4)).toNatClampNeg (Int32.ofNat pn1)) 5 0 4)).toNatClampNeg px2) 9 0 (((mu (mu (mu V0 6 0 ((V0 5 0 4)).toNatClampNeg (V0 5 0 5)) 7 0 (((mu V0 6 0 ((V0 5 0 4)).toNatClampNeg (V0 5 0 5)) 5 0 4)).toNatClampNeg (Int32.ofNat pn1)) 8 0 (((mu (mu V0 6 0 ((V0 5 0 4)).toNatClampNeg (V0 5 0 5)) 7 0 (((mu V0 6 0 ((V0 5 0 4)).toNatClampNeg (V0 5 0 5)) 5 0 4)).toNatClampNeg (Int32.ofNat pn1)) 5 0 4)).toNatClampNeg px2) 5 0 4)).toNatClampNeg px3) 5 0 4) + (1 : Int32))) 5 0 5 (((mu (mu (mu (mu (mu V0 6 0 ((V0 5 0 4)).toNatClampNeg (V0 5 0 5)) 7 0 (((mu V0 6 0 ((V0 5 0 4)).toNatClampNeg (V0 5 0 5)) 5 0 4)).toNatClampNeg (Int32.ofNat pn1)) 8 0 (((mu (mu V0 6 0 ((V0 5 0 4)).toNatClampNeg (V0 5 0 5)) 7 0 (((mu V0 6 0 ((V0 5 0 4)).toNatClampNeg (V0 5 0 5)) 5 0 4)).toNatClampNeg (Int32.ofNat pn1)) 5 0 4)).toNatClampNeg px2) 9 0 (((mu (mu (mu V0 6 0 ((V0 5 0 4)).toNatClampNeg (V0 5 0 5)) 7 0 (((mu V0 6 0 ((V0 5 0 4)).toNatClampNeg (V0 5 0 5)) 5 0 4)).toNatClampNeg (Int32.ofNat pn1)) 8 0 (((mu (mu V0 6 0 ((V0 5 0 4)).toNatClampNeg (V0 5 0 5)) 7 0 (((mu V0 6 0 ((V0 5 0 4)).toNatClampNeg (V0 5 0 5)) 5 0 4)).toNatClampNeg (Int32.ofNat pn1)) 5 0 4)).toNatClampNeg px2) 5 0 4)).toNatClampNeg px3) 5 0 4 (((mu (mu (mu (mu V0 6 0 ((V0 5 0 4)).toNatClampNeg (V0 5 0 5)) 7 0 (((mu V0 6 0 ((V0 5 0 4)).toNatClampNeg (V0 5 0 5)) 5 0 4)).toNatClampNeg (Int32.ofNat pn1)) 8 0 (((mu (mu V0 6 0 ((V0 5 0 4)).toNatClampNeg (V0 5 0 5)) 7 0 (((mu V0 6 0 ((V0 5 0 4)).toNatClampNeg (V0 5 0 5)) 5 0 4)).toNatClampNeg (Int32.ofNat pn1)) 5 0 4)).toNatClampNeg px2) 9 0 (((mu (mu (mu V0 6 0 ((V0 5 0 4)).toNatClampNeg (V0 5 0 5)) 7 0 (((mu V0 6 0 ((V0 5 0 4)).toNatClampNeg (V0 5 0 5)) 5 0 4)).toNatClampNeg (Int32.ofNat pn1)) 8 0 (((mu (mu V0 6 0 ((V0 5 0 4)).toNatClampNeg (V0 5 0 5)) 7 0 (((mu V0 6 0 ((V0 5 0 4)).toNatClampNeg (V0 5 0 5)) 5 0 4)).toNatClampNeg (Int32.ofNat pn1)) 5 0 4)).toNatClampNeg px2) 5 0 4)).toNatClampNeg px3) 5 0 4) + (1 : Int32))) 5 0 5) + (1 : Int32))))) else none) else none) else none) else none) else (some ((-2 : Int32), V0))
set_option maxHeartbeats 4000000 in
set_option maxRecDepth 100000 in
theorem kX4_append (l : Launch) {dC : Nat → ClassId} {dI : Nat → Nat → Nat} {A : Nat → Prop} {ad : Nat → Nat → Nat} {cnt : Nat} {L : Nat → Nat → Nat} {cI cS cW : ClassId} {q : Nat × Nat} (hsh : xSh cnt L) (pn1 : Nat) (px2 : Int32) (px3 : Int32) (V0 : mM) (c0 : Nat × Nat) {res : Int32 × mM} (h : fX4_append L pn1 px2 px3 V0 c0 = some res) (hpn1 : xex cnt L 3 pn1) : Met l yX4_append wsX4_append ({ frames := 0, cells := 0, slots := 0, locals := 0 } : Room) (va_Pc [.ref (ad 5 0), .ref (ad 3 pn1), .int px2, .int px3] (fun U => xM dC dI A ad cnt L cI cS cW q V0 c0 U)) (va_Qi (fun r9 (_ : Unit) => r9 = res.1) (fun _ t9 => xM dC dI A ad cnt L cI cS cW q res.2 c0 t9) A) 0 0 A := by
  refine Met.ofW (cc := cX4_append) (maxL := 4) (ret := (some .int)) (by decide) rfl ?_
  intro p e s m args below meth cd s₁ B hml hv
  obtain ⟨rfl, hM, hK, hW, hAs⟩ := hv
  have hx := B.exec
  have hb := B.bytes
  have hr := B.returns
  have hts := atoms_spec (ws := wsX4_append) B.pre
  have hown : s.vm.findClass RX4 = some m.cls := findClass_of_methodNamed B.named
  have hlocks := B.notSynchronized
  have hS : va_S A s.heap s.heap [] := va_S.rf
  have k27 := hts (.fieldLink RX4 27 "StageDesk$Timers" "size" "I") (by decide +kernel)
  have k9 := hts (.fieldLink RX4 9 "StageDesk$Timers" "numbers" "[I") (by decide +kernel)
  have k31 := hts (.fieldLink RX4 31 "StageDesk$Timers" "set" "I") (by decide +kernel)
  have k17 := hts (.fieldLink RX4 17 "StageDesk$Timers" "stages" "[LStageDesk$Stage;") (by decide +kernel)
  have k21 := hts (.fieldLink RX4 21 "StageDesk$Timers" "values" "[I") (by decide +kernel)
  have k24 := hts (.fieldLink RX4 24 "StageDesk$Timers" "dues" "[I") (by decide +kernel)
  have inX4 : ∀ w ∈ u_ws RX4 TX4 6, w ∈ wsX4_append := by decide +kernel
  have hl := lv_entry ([.ref (ad 5 0), .ref (ad 3 pn1), .int px2, .int px3]) (n := 4) (Nat.le_of_ble_eq_true rfl)
  rw [lg_entry_eq]
  generalize (lg_sl ([.ref (ad 5 0), .ref (ad 3 pn1), .int px2, .int px3]) ++ List.replicate (4 - (lg_sl ([.ref (ad 5 0), .ref (ad 3 pn1), .int px2, .int px3])).length) Slot.unset).toArray = ls at hl ⊢
  have hl : lv_has ls 4 [(0, .ref (ad 5 0)), (1, .ref (ad 3 pn1)), (2, .int px2), (3, .int px3)] := hl
  unfold fX4_append at h
  refine lv_aload_n hx hb dX4_append_0 rfl (lv_at hl 0 rfl) ?_
  refine mm_get (C := RX4) (T := TX4) (N := 6) (ci := 4) hx hb hts inX4 hown hK hM 5 0 xe5 rfl rfl 4 (by decide) k27 (fun _ h9 => h9) rfl dX4_append_1 ?_
  refine lv_bipush (v := 50) hx hb dX4_append_4 (by decide) ?_
  refine lv_icmp_lt (tgt := 12) hx hb dX4_append_6 (by decide) (fun c_1 => ?_) (fun c_1 => ?_)
  · have h := iteT c_1 h
    refine lv_aload_n hx hb dX4_append_12 rfl (lv_at hl 0 rfl) ?_
    refine mm_get (C := RX4) (T := TX4) (N := 6) (ci := 4) hx hb hts inX4 hown hK hM 5 0 xe5 rfl rfl 0 (by decide) k9 (fun _ h9 => h9) rfl dX4_append_13 ?_
    refine lv_aload_n hx hb dX4_append_16 rfl (lv_at hl 0 rfl) ?_
    refine mm_get (C := RX4) (T := TX4) (N := 6) (ci := 4) hx hb hts inX4 hown hK hM 5 0 xe5 rfl rfl 4 (by decide) k27 (fun _ h9 => h9) rfl dX4_append_17 ?_
    refine lv_aload_n hx hb dX4_append_20 rfl (lv_at hl 0 rfl) ?_
    refine mm_get (C := RX4) (T := TX4) (N := 6) (ci := 4) hx hb hts inX4 hown hK hM 5 0 xe5 rfl rfl 5 (by decide) k31 (fun _ h9 => h9) rfl dX4_append_21 ?_
    obtain ⟨b_2, h⟩ := iteS h
    refine mm_iast hx hb hK hM hS 6 0 xe6 0 rfl rfl (bin_in b_2) rfl dX4_append_24 (fun H locs hM hS => ?_)
    have hW := xW_mu (k := 6) (n := 0) (t := ((V0 5 0 4)).toNatClampNeg) (x := (V0 5 0 5)) hW (fun h9 => Bool.noConfusion (show false = true from h9))
    refine lv_aload_n hx hb dX4_append_25 rfl (lv_at hl 0 rfl) ?_
    refine mm_get (C := RX4) (T := TX4) (N := 6) (ci := 4) hx hb hts inX4 hown hK hM 5 0 xe5 rfl rfl 1 (by decide) k17 (fun _ h9 => h9) rfl dX4_append_26 ?_
    refine lv_aload_n hx hb dX4_append_29 rfl (lv_at hl 0 rfl) ?_
    refine mm_get (C := RX4) (T := TX4) (N := 6) (ci := 4) hx hb hts inX4 hown hK hM 5 0 xe5 rfl rfl 4 (by decide) k27 (fun _ h9 => h9) rfl dX4_append_30 ?_
    refine lv_aload_n hx hb dX4_append_33 rfl (lv_at hl 1 rfl) ?_
    obtain ⟨b_3, h⟩ := iteS h
    refine xx_aastR hsh hpn1 hx hb hK hM hS 7 0 xe7 (fun _ => rfl) (bin_in b_3) dX4_append_34 (fun H locs hM hS => ?_)
    have hW := xW_mu (k := 7) (n := 0) (t := (((mu V0 6 0 ((V0 5 0 4)).toNatClampNeg (V0 5 0 5)) 5 0 4)).toNatClampNeg) (x := (Int32.ofNat pn1)) hW (fun _ => (okS_nI hsh hpn1))
    refine lv_aload_n hx hb dX4_append_35 rfl (lv_at hl 0 rfl) ?_
    refine mm_get (C := RX4) (T := TX4) (N := 6) (ci := 4) hx hb hts inX4 hown hK hM 5 0 xe5 rfl rfl 2 (by decide) k21 (fun _ h9 => h9) rfl dX4_append_36 ?_
    refine lv_aload_n hx hb dX4_append_39 rfl (lv_at hl 0 rfl) ?_
    refine mm_get (C := RX4) (T := TX4) (N := 6) (ci := 4) hx hb hts inX4 hown hK hM 5 0 xe5 rfl rfl 4 (by decide) k27 (fun _ h9 => h9) rfl dX4_append_40 ?_
    refine lv_iload_n hx hb dX4_append_43 rfl (lv_at hl 2 rfl) ?_
    obtain ⟨b_4, h⟩ := iteS h
    refine mm_iast hx hb hK hM hS 8 0 xe8 0 rfl rfl (bin_in b_4) rfl dX4_append_44 (fun H locs hM hS => ?_)
    have hW := xW_mu (k := 8) (n := 0) (t := (((mu (mu V0 6 0 ((V0 5 0 4)).toNatClampNeg (V0 5 0 5)) 7 0 (((mu V0 6 0 ((V0 5 0 4)).toNatClampNeg (V0 5 0 5)) 5 0 4)).toNatClampNeg (Int32.ofNat pn1)) 5 0 4)).toNatClampNeg) (x := px2) hW (fun h9 => Bool.noConfusion (show false = true from h9))
    refine lv_aload_n hx hb dX4_append_45 rfl (lv_at hl 0 rfl) ?_
    refine mm_get (C := RX4) (T := TX4) (N := 6) (ci := 4) hx hb hts inX4 hown hK hM 5 0 xe5 rfl rfl 3 (by decide) k24 (fun _ h9 => h9) rfl dX4_append_46 ?_
    refine lv_aload_n hx hb dX4_append_49 rfl (lv_at hl 0 rfl) ?_
    refine mm_get (C := RX4) (T := TX4) (N := 6) (ci := 4) hx hb hts inX4 hown hK hM 5 0 xe5 rfl rfl 4 (by decide) k27 (fun _ h9 => h9) rfl dX4_append_50 ?_
    refine lv_iload_n hx hb dX4_append_53 rfl (lv_at hl 3 rfl) ?_
    obtain ⟨b_5, h⟩ := iteS h
    refine mm_iast hx hb hK hM hS 9 0 xe9 0 rfl rfl (bin_in b_5) rfl dX4_append_54 (fun H locs hM hS => ?_)
    have hW := xW_mu (k := 9) (n := 0) (t := (((mu (mu (mu V0 6 0 ((V0 5 0 4)).toNatClampNeg (V0 5 0 5)) 7 0 (((mu V0 6 0 ((V0 5 0 4)).toNatClampNeg (V0 5 0 5)) 5 0 4)).toNatClampNeg (Int32.ofNat pn1)) 8 0 (((mu (mu V0 6 0 ((V0 5 0 4)).toNatClampNeg (V0 5 0 5)) 7 0 (((mu V0 6 0 ((V0 5 0 4)).toNatClampNeg (V0 5 0 5)) 5 0 4)).toNatClampNeg (Int32.ofNat pn1)) 5 0 4)).toNatClampNeg px2) 5 0 4)).toNatClampNeg) (x := px3) hW (fun h9 => Bool.noConfusion (show false = true from h9))
    refine lv_aload_n hx hb dX4_append_55 rfl (lv_at hl 0 rfl) ?_
    refine lv_dup hx hb dX4_append_56 rfl ?_
    refine mm_get (C := RX4) (T := TX4) (N := 6) (ci := 4) hx hb hts inX4 hown hK hM 5 0 xe5 rfl rfl 4 (by decide) k27 (fun _ h9 => h9) rfl dX4_append_57 ?_
    refine lv_iconst (v := 1) hx hb dX4_append_60 (by decide) ?_
    refine lv_iadd hx hb dX4_append_61 ?_
    refine mm_put (C := RX4) (T := TX4) (N := 6) (ci := 4) (ty := .int) hx hb hts inX4 tyX4 tyX4_ok nmX4 hown hK hM hS 5 0 xe5 rfl rfl 4 (by decide) k27 (fun _ h9 => h9) rfl (by decide +kernel) rfl rfl (Nat.le_of_ble_eq_true rfl) (((mu (mu (mu (mu V0 6 0 ((V0 5 0 4)).toNatClampNeg (V0 5 0 5)) 7 0 (((mu V0 6 0 ((V0 5 0 4)).toNatClampNeg (V0 5 0 5)) 5 0 4)).toNatClampNeg (Int32.ofNat pn1)) 8 0 (((mu (mu V0 6 0 ((V0 5 0 4)).toNatClampNeg (V0 5 0 5)) 7 0 (((mu V0 6 0 ((V0 5 0 4)).toNatClampNeg (V0 5 0 5)) 5 0 4)).toNatClampNeg (Int32.ofNat pn1)) 5 0 4)).toNatClampNeg px2) 9 0 (((mu (mu (mu V0 6 0 ((V0 5 0 4)).toNatClampNeg (V0 5 0 5)) 7 0 (((mu V0 6 0 ((V0 5 0 4)).toNatClampNeg (V0 5 0 5)) 5 0 4)).toNatClampNeg (Int32.ofNat pn1)) 8 0 (((mu (mu V0 6 0 ((V0 5 0 4)).toNatClampNeg (V0 5 0 5)) 7 0 (((mu V0 6 0 ((V0 5 0 4)).toNatClampNeg (V0 5 0 5)) 5 0 4)).toNatClampNeg (Int32.ofNat pn1)) 5 0 4)).toNatClampNeg px2) 5 0 4)).toNatClampNeg px3) 5 0 4) + (1 : Int32)) rfl dX4_append_62 (fun H locs hM hS => ?_)
    have hW := xW_mu (k := 5) (n := 0) (t := 4) (x := (((mu (mu (mu (mu V0 6 0 ((V0 5 0 4)).toNatClampNeg (V0 5 0 5)) 7 0 (((mu V0 6 0 ((V0 5 0 4)).toNatClampNeg (V0 5 0 5)) 5 0 4)).toNatClampNeg (Int32.ofNat pn1)) 8 0 (((mu (mu V0 6 0 ((V0 5 0 4)).toNatClampNeg (V0 5 0 5)) 7 0 (((mu V0 6 0 ((V0 5 0 4)).toNatClampNeg (V0 5 0 5)) 5 0 4)).toNatClampNeg (Int32.ofNat pn1)) 5 0 4)).toNatClampNeg px2) 9 0 (((mu (mu (mu V0 6 0 ((V0 5 0 4)).toNatClampNeg (V0 5 0 5)) 7 0 (((mu V0 6 0 ((V0 5 0 4)).toNatClampNeg (V0 5 0 5)) 5 0 4)).toNatClampNeg (Int32.ofNat pn1)) 8 0 (((mu (mu V0 6 0 ((V0 5 0 4)).toNatClampNeg (V0 5 0 5)) 7 0 (((mu V0 6 0 ((V0 5 0 4)).toNatClampNeg (V0 5 0 5)) 5 0 4)).toNatClampNeg (Int32.ofNat pn1)) 5 0 4)).toNatClampNeg px2) 5 0 4)).toNatClampNeg px3) 5 0 4) + (1 : Int32))) hW (fun h9 => Bool.noConfusion (show false = true from h9))
    refine lv_aload_n hx hb dX4_append_65 rfl (lv_at hl 0 rfl) ?_
    refine lv_dup hx hb dX4_append_66 rfl ?_
    refine mm_get (C := RX4) (T := TX4) (N := 6) (ci := 4) hx hb hts inX4 hown hK hM 5 0 xe5 rfl rfl 5 (by decide) k31 (fun _ h9 => h9) rfl dX4_append_67 ?_
    refine lv_iconst (v := 1) hx hb dX4_append_70 (by decide) ?_
    refine lv_iadd hx hb dX4_append_71 ?_
    refine mm_put (C := RX4) (T := TX4) (N := 6) (ci := 4) (ty := .int) hx hb hts inX4 tyX4 tyX4_ok nmX4 hown hK hM hS 5 0 xe5 rfl rfl 5 (by decide) k31 (fun _ h9 => h9) rfl (by decide +kernel) rfl rfl (Nat.le_of_ble_eq_true rfl) (((mu (mu (mu (mu (mu V0 6 0 ((V0 5 0 4)).toNatClampNeg (V0 5 0 5)) 7 0 (((mu V0 6 0 ((V0 5 0 4)).toNatClampNeg (V0 5 0 5)) 5 0 4)).toNatClampNeg (Int32.ofNat pn1)) 8 0 (((mu (mu V0 6 0 ((V0 5 0 4)).toNatClampNeg (V0 5 0 5)) 7 0 (((mu V0 6 0 ((V0 5 0 4)).toNatClampNeg (V0 5 0 5)) 5 0 4)).toNatClampNeg (Int32.ofNat pn1)) 5 0 4)).toNatClampNeg px2) 9 0 (((mu (mu (mu V0 6 0 ((V0 5 0 4)).toNatClampNeg (V0 5 0 5)) 7 0 (((mu V0 6 0 ((V0 5 0 4)).toNatClampNeg (V0 5 0 5)) 5 0 4)).toNatClampNeg (Int32.ofNat pn1)) 8 0 (((mu (mu V0 6 0 ((V0 5 0 4)).toNatClampNeg (V0 5 0 5)) 7 0 (((mu V0 6 0 ((V0 5 0 4)).toNatClampNeg (V0 5 0 5)) 5 0 4)).toNatClampNeg (Int32.ofNat pn1)) 5 0 4)).toNatClampNeg px2) 5 0 4)).toNatClampNeg px3) 5 0 4 (((mu (mu (mu (mu V0 6 0 ((V0 5 0 4)).toNatClampNeg (V0 5 0 5)) 7 0 (((mu V0 6 0 ((V0 5 0 4)).toNatClampNeg (V0 5 0 5)) 5 0 4)).toNatClampNeg (Int32.ofNat pn1)) 8 0 (((mu (mu V0 6 0 ((V0 5 0 4)).toNatClampNeg (V0 5 0 5)) 7 0 (((mu V0 6 0 ((V0 5 0 4)).toNatClampNeg (V0 5 0 5)) 5 0 4)).toNatClampNeg (Int32.ofNat pn1)) 5 0 4)).toNatClampNeg px2) 9 0 (((mu (mu (mu V0 6 0 ((V0 5 0 4)).toNatClampNeg (V0 5 0 5)) 7 0 (((mu V0 6 0 ((V0 5 0 4)).toNatClampNeg (V0 5 0 5)) 5 0 4)).toNatClampNeg (Int32.ofNat pn1)) 8 0 (((mu (mu V0 6 0 ((V0 5 0 4)).toNatClampNeg (V0 5 0 5)) 7 0 (((mu V0 6 0 ((V0 5 0 4)).toNatClampNeg (V0 5 0 5)) 5 0 4)).toNatClampNeg (Int32.ofNat pn1)) 5 0 4)).toNatClampNeg px2) 5 0 4)).toNatClampNeg px3) 5 0 4) + (1 : Int32))) 5 0 5) + (1 : Int32)) rfl dX4_append_72 (fun H locs hM hS => ?_)
    have hW := xW_mu (k := 5) (n := 0) (t := 5) (x := (((mu (mu (mu (mu (mu V0 6 0 ((V0 5 0 4)).toNatClampNeg (V0 5 0 5)) 7 0 (((mu V0 6 0 ((V0 5 0 4)).toNatClampNeg (V0 5 0 5)) 5 0 4)).toNatClampNeg (Int32.ofNat pn1)) 8 0 (((mu (mu V0 6 0 ((V0 5 0 4)).toNatClampNeg (V0 5 0 5)) 7 0 (((mu V0 6 0 ((V0 5 0 4)).toNatClampNeg (V0 5 0 5)) 5 0 4)).toNatClampNeg (Int32.ofNat pn1)) 5 0 4)).toNatClampNeg px2) 9 0 (((mu (mu (mu V0 6 0 ((V0 5 0 4)).toNatClampNeg (V0 5 0 5)) 7 0 (((mu V0 6 0 ((V0 5 0 4)).toNatClampNeg (V0 5 0 5)) 5 0 4)).toNatClampNeg (Int32.ofNat pn1)) 8 0 (((mu (mu V0 6 0 ((V0 5 0 4)).toNatClampNeg (V0 5 0 5)) 7 0 (((mu V0 6 0 ((V0 5 0 4)).toNatClampNeg (V0 5 0 5)) 5 0 4)).toNatClampNeg (Int32.ofNat pn1)) 5 0 4)).toNatClampNeg px2) 5 0 4)).toNatClampNeg px3) 5 0 4 (((mu (mu (mu (mu V0 6 0 ((V0 5 0 4)).toNatClampNeg (V0 5 0 5)) 7 0 (((mu V0 6 0 ((V0 5 0 4)).toNatClampNeg (V0 5 0 5)) 5 0 4)).toNatClampNeg (Int32.ofNat pn1)) 8 0 (((mu (mu V0 6 0 ((V0 5 0 4)).toNatClampNeg (V0 5 0 5)) 7 0 (((mu V0 6 0 ((V0 5 0 4)).toNatClampNeg (V0 5 0 5)) 5 0 4)).toNatClampNeg (Int32.ofNat pn1)) 5 0 4)).toNatClampNeg px2) 9 0 (((mu (mu (mu V0 6 0 ((V0 5 0 4)).toNatClampNeg (V0 5 0 5)) 7 0 (((mu V0 6 0 ((V0 5 0 4)).toNatClampNeg (V0 5 0 5)) 5 0 4)).toNatClampNeg (Int32.ofNat pn1)) 8 0 (((mu (mu V0 6 0 ((V0 5 0 4)).toNatClampNeg (V0 5 0 5)) 7 0 (((mu V0 6 0 ((V0 5 0 4)).toNatClampNeg (V0 5 0 5)) 5 0 4)).toNatClampNeg (Int32.ofNat pn1)) 5 0 4)).toNatClampNeg px2) 5 0 4)).toNatClampNeg px3) 5 0 4) + (1 : Int32))) 5 0 5) + (1 : Int32))) hW (fun h9 => Bool.noConfusion (show false = true from h9))
    refine lv_aload_n hx hb dX4_append_75 rfl (lv_at hl 0 rfl) ?_
    refine mm_get (C := RX4) (T := TX4) (N := 6) (ci := 4) hx hb hts inX4 hown hK hM 5 0 xe5 rfl rfl 5 (by decide) k31 (fun _ h9 => h9) rfl dX4_append_76 ?_
    refine lv_iconst (v := 1) hx hb dX4_append_79 (by decide) ?_
    refine lv_isub hx hb dX4_append_80 ?_
    have e9 : ((((mu (mu (mu (mu (mu (mu V0 6 0 ((V0 5 0 4)).toNatClampNeg (V0 5 0 5)) 7 0 (((mu V0 6 0 ((V0 5 0 4)).toNatClampNeg (V0 5 0 5)) 5 0 4)).toNatClampNeg (Int32.ofNat pn1)) 8 0 (((mu (mu V0 6 0 ((V0 5 0 4)).toNatClampNeg (V0 5 0 5)) 7 0 (((mu V0 6 0 ((V0 5 0 4)).toNatClampNeg (V0 5 0 5)) 5 0 4)).toNatClampNeg (Int32.ofNat pn1)) 5 0 4)).toNatClampNeg px2) 9 0 (((mu (mu (mu V0 6 0 ((V0 5 0 4)).toNatClampNeg (V0 5 0 5)) 7 0 (((mu V0 6 0 ((V0 5 0 4)).toNatClampNeg (V0 5 0 5)) 5 0 4)).toNatClampNeg (Int32.ofNat pn1)) 8 0 (((mu (mu V0 6 0 ((V0 5 0 4)).toNatClampNeg (V0 5 0 5)) 7 0 (((mu V0 6 0 ((V0 5 0 4)).toNatClampNeg (V0 5 0 5)) 5 0 4)).toNatClampNeg (Int32.ofNat pn1)) 5 0 4)).toNatClampNeg px2) 5 0 4)).toNatClampNeg px3) 5 0 4 (((mu (mu (mu (mu V0 6 0 ((V0 5 0 4)).toNatClampNeg (V0 5 0 5)) 7 0 (((mu V0 6 0 ((V0 5 0 4)).toNatClampNeg (V0 5 0 5)) 5 0 4)).toNatClampNeg (Int32.ofNat pn1)) 8 0 (((mu (mu V0 6 0 ((V0 5 0 4)).toNatClampNeg (V0 5 0 5)) 7 0 (((mu V0 6 0 ((V0 5 0 4)).toNatClampNeg (V0 5 0 5)) 5 0 4)).toNatClampNeg (Int32.ofNat pn1)) 5 0 4)).toNatClampNeg px2) 9 0 (((mu (mu (mu V0 6 0 ((V0 5 0 4)).toNatClampNeg (V0 5 0 5)) 7 0 (((mu V0 6 0 ((V0 5 0 4)).toNatClampNeg (V0 5 0 5)) 5 0 4)).toNatClampNeg (Int32.ofNat pn1)) 8 0 (((mu (mu V0 6 0 ((V0 5 0 4)).toNatClampNeg (V0 5 0 5)) 7 0 (((mu V0 6 0 ((V0 5 0 4)).toNatClampNeg (V0 5 0 5)) 5 0 4)).toNatClampNeg (Int32.ofNat pn1)) 5 0 4)).toNatClampNeg px2) 5 0 4)).toNatClampNeg px3) 5 0 4) + (1 : Int32))) 5 0 5 (((mu (mu (mu (mu (mu V0 6 0 ((V0 5 0 4)).toNatClampNeg (V0 5 0 5)) 7 0 (((mu V0 6 0 ((V0 5 0 4)).toNatClampNeg (V0 5 0 5)) 5 0 4)).toNatClampNeg (Int32.ofNat pn1)) 8 0 (((mu (mu V0 6 0 ((V0 5 0 4)).toNatClampNeg (V0 5 0 5)) 7 0 (((mu V0 6 0 ((V0 5 0 4)).toNatClampNeg (V0 5 0 5)) 5 0 4)).toNatClampNeg (Int32.ofNat pn1)) 5 0 4)).toNatClampNeg px2) 9 0 (((mu (mu (mu V0 6 0 ((V0 5 0 4)).toNatClampNeg (V0 5 0 5)) 7 0 (((mu V0 6 0 ((V0 5 0 4)).toNatClampNeg (V0 5 0 5)) 5 0 4)).toNatClampNeg (Int32.ofNat pn1)) 8 0 (((mu (mu V0 6 0 ((V0 5 0 4)).toNatClampNeg (V0 5 0 5)) 7 0 (((mu V0 6 0 ((V0 5 0 4)).toNatClampNeg (V0 5 0 5)) 5 0 4)).toNatClampNeg (Int32.ofNat pn1)) 5 0 4)).toNatClampNeg px2) 5 0 4)).toNatClampNeg px3) 5 0 4 (((mu (mu (mu (mu V0 6 0 ((V0 5 0 4)).toNatClampNeg (V0 5 0 5)) 7 0 (((mu V0 6 0 ((V0 5 0 4)).toNatClampNeg (V0 5 0 5)) 5 0 4)).toNatClampNeg (Int32.ofNat pn1)) 8 0 (((mu (mu V0 6 0 ((V0 5 0 4)).toNatClampNeg (V0 5 0 5)) 7 0 (((mu V0 6 0 ((V0 5 0 4)).toNatClampNeg (V0 5 0 5)) 5 0 4)).toNatClampNeg (Int32.ofNat pn1)) 5 0 4)).toNatClampNeg px2) 9 0 (((mu (mu (mu V0 6 0 ((V0 5 0 4)).toNatClampNeg (V0 5 0 5)) 7 0 (((mu V0 6 0 ((V0 5 0 4)).toNatClampNeg (V0 5 0 5)) 5 0 4)).toNatClampNeg (Int32.ofNat pn1)) 8 0 (((mu (mu V0 6 0 ((V0 5 0 4)).toNatClampNeg (V0 5 0 5)) 7 0 (((mu V0 6 0 ((V0 5 0 4)).toNatClampNeg (V0 5 0 5)) 5 0 4)).toNatClampNeg (Int32.ofNat pn1)) 5 0 4)).toNatClampNeg px2) 5 0 4)).toNatClampNeg px3) 5 0 4) + (1 : Int32))) 5 0 5) + (1 : Int32))) 5 0 5) - (1 : Int32)), (mu (mu (mu (mu (mu (mu V0 6 0 ((V0 5 0 4)).toNatClampNeg (V0 5 0 5)) 7 0 (((mu V0 6 0 ((V0 5 0 4)).toNatClampNeg (V0 5 0 5)) 5 0 4)).toNatClampNeg (Int32.ofNat pn1)) 8 0 (((mu (mu V0 6 0 ((V0 5 0 4)).toNatClampNeg (V0 5 0 5)) 7 0 (((mu V0 6 0 ((V0 5 0 4)).toNatClampNeg (V0 5 0 5)) 5 0 4)).toNatClampNeg (Int32.ofNat pn1)) 5 0 4)).toNatClampNeg px2) 9 0 (((mu (mu (mu V0 6 0 ((V0 5 0 4)).toNatClampNeg (V0 5 0 5)) 7 0 (((mu V0 6 0 ((V0 5 0 4)).toNatClampNeg (V0 5 0 5)) 5 0 4)).toNatClampNeg (Int32.ofNat pn1)) 8 0 (((mu (mu V0 6 0 ((V0 5 0 4)).toNatClampNeg (V0 5 0 5)) 7 0 (((mu V0 6 0 ((V0 5 0 4)).toNatClampNeg (V0 5 0 5)) 5 0 4)).toNatClampNeg (Int32.ofNat pn1)) 5 0 4)).toNatClampNeg px2) 5 0 4)).toNatClampNeg px3) 5 0 4 (((mu (mu (mu (mu V0 6 0 ((V0 5 0 4)).toNatClampNeg (V0 5 0 5)) 7 0 (((mu V0 6 0 ((V0 5 0 4)).toNatClampNeg (V0 5 0 5)) 5 0 4)).toNatClampNeg (Int32.ofNat pn1)) 8 0 (((mu (mu V0 6 0 ((V0 5 0 4)).toNatClampNeg (V0 5 0 5)) 7 0 (((mu V0 6 0 ((V0 5 0 4)).toNatClampNeg (V0 5 0 5)) 5 0 4)).toNatClampNeg (Int32.ofNat pn1)) 5 0 4)).toNatClampNeg px2) 9 0 (((mu (mu (mu V0 6 0 ((V0 5 0 4)).toNatClampNeg (V0 5 0 5)) 7 0 (((mu V0 6 0 ((V0 5 0 4)).toNatClampNeg (V0 5 0 5)) 5 0 4)).toNatClampNeg (Int32.ofNat pn1)) 8 0 (((mu (mu V0 6 0 ((V0 5 0 4)).toNatClampNeg (V0 5 0 5)) 7 0 (((mu V0 6 0 ((V0 5 0 4)).toNatClampNeg (V0 5 0 5)) 5 0 4)).toNatClampNeg (Int32.ofNat pn1)) 5 0 4)).toNatClampNeg px2) 5 0 4)).toNatClampNeg px3) 5 0 4) + (1 : Int32))) 5 0 5 (((mu (mu (mu (mu (mu V0 6 0 ((V0 5 0 4)).toNatClampNeg (V0 5 0 5)) 7 0 (((mu V0 6 0 ((V0 5 0 4)).toNatClampNeg (V0 5 0 5)) 5 0 4)).toNatClampNeg (Int32.ofNat pn1)) 8 0 (((mu (mu V0 6 0 ((V0 5 0 4)).toNatClampNeg (V0 5 0 5)) 7 0 (((mu V0 6 0 ((V0 5 0 4)).toNatClampNeg (V0 5 0 5)) 5 0 4)).toNatClampNeg (Int32.ofNat pn1)) 5 0 4)).toNatClampNeg px2) 9 0 (((mu (mu (mu V0 6 0 ((V0 5 0 4)).toNatClampNeg (V0 5 0 5)) 7 0 (((mu V0 6 0 ((V0 5 0 4)).toNatClampNeg (V0 5 0 5)) 5 0 4)).toNatClampNeg (Int32.ofNat pn1)) 8 0 (((mu (mu V0 6 0 ((V0 5 0 4)).toNatClampNeg (V0 5 0 5)) 7 0 (((mu V0 6 0 ((V0 5 0 4)).toNatClampNeg (V0 5 0 5)) 5 0 4)).toNatClampNeg (Int32.ofNat pn1)) 5 0 4)).toNatClampNeg px2) 5 0 4)).toNatClampNeg px3) 5 0 4 (((mu (mu (mu (mu V0 6 0 ((V0 5 0 4)).toNatClampNeg (V0 5 0 5)) 7 0 (((mu V0 6 0 ((V0 5 0 4)).toNatClampNeg (V0 5 0 5)) 5 0 4)).toNatClampNeg (Int32.ofNat pn1)) 8 0 (((mu (mu V0 6 0 ((V0 5 0 4)).toNatClampNeg (V0 5 0 5)) 7 0 (((mu V0 6 0 ((V0 5 0 4)).toNatClampNeg (V0 5 0 5)) 5 0 4)).toNatClampNeg (Int32.ofNat pn1)) 5 0 4)).toNatClampNeg px2) 9 0 (((mu (mu (mu V0 6 0 ((V0 5 0 4)).toNatClampNeg (V0 5 0 5)) 7 0 (((mu V0 6 0 ((V0 5 0 4)).toNatClampNeg (V0 5 0 5)) 5 0 4)).toNatClampNeg (Int32.ofNat pn1)) 8 0 (((mu (mu V0 6 0 ((V0 5 0 4)).toNatClampNeg (V0 5 0 5)) 7 0 (((mu V0 6 0 ((V0 5 0 4)).toNatClampNeg (V0 5 0 5)) 5 0 4)).toNatClampNeg (Int32.ofNat pn1)) 5 0 4)).toNatClampNeg px2) 5 0 4)).toNatClampNeg px3) 5 0 4) + (1 : Int32))) 5 0 5) + (1 : Int32)))) = res := Option.some.inj h
    subst e9
    exact W.iret (v := (((mu (mu (mu (mu (mu (mu V0 6 0 ((V0 5 0 4)).toNatClampNeg (V0 5 0 5)) 7 0 (((mu V0 6 0 ((V0 5 0 4)).toNatClampNeg (V0 5 0 5)) 5 0 4)).toNatClampNeg (Int32.ofNat pn1)) 8 0 (((mu (mu V0 6 0 ((V0 5 0 4)).toNatClampNeg (V0 5 0 5)) 7 0 (((mu V0 6 0 ((V0 5 0 4)).toNatClampNeg (V0 5 0 5)) 5 0 4)).toNatClampNeg (Int32.ofNat pn1)) 5 0 4)).toNatClampNeg px2) 9 0 (((mu (mu (mu V0 6 0 ((V0 5 0 4)).toNatClampNeg (V0 5 0 5)) 7 0 (((mu V0 6 0 ((V0 5 0 4)).toNatClampNeg (V0 5 0 5)) 5 0 4)).toNatClampNeg (Int32.ofNat pn1)) 8 0 (((mu (mu V0 6 0 ((V0 5 0 4)).toNatClampNeg (V0 5 0 5)) 7 0 (((mu V0 6 0 ((V0 5 0 4)).toNatClampNeg (V0 5 0 5)) 5 0 4)).toNatClampNeg (Int32.ofNat pn1)) 5 0 4)).toNatClampNeg px2) 5 0 4)).toNatClampNeg px3) 5 0 4 (((mu (mu (mu (mu V0 6 0 ((V0 5 0 4)).toNatClampNeg (V0 5 0 5)) 7 0 (((mu V0 6 0 ((V0 5 0 4)).toNatClampNeg (V0 5 0 5)) 5 0 4)).toNatClampNeg (Int32.ofNat pn1)) 8 0 (((mu (mu V0 6 0 ((V0 5 0 4)).toNatClampNeg (V0 5 0 5)) 7 0 (((mu V0 6 0 ((V0 5 0 4)).toNatClampNeg (V0 5 0 5)) 5 0 4)).toNatClampNeg (Int32.ofNat pn1)) 5 0 4)).toNatClampNeg px2) 9 0 (((mu (mu (mu V0 6 0 ((V0 5 0 4)).toNatClampNeg (V0 5 0 5)) 7 0 (((mu V0 6 0 ((V0 5 0 4)).toNatClampNeg (V0 5 0 5)) 5 0 4)).toNatClampNeg (Int32.ofNat pn1)) 8 0 (((mu (mu V0 6 0 ((V0 5 0 4)).toNatClampNeg (V0 5 0 5)) 7 0 (((mu V0 6 0 ((V0 5 0 4)).toNatClampNeg (V0 5 0 5)) 5 0 4)).toNatClampNeg (Int32.ofNat pn1)) 5 0 4)).toNatClampNeg px2) 5 0 4)).toNatClampNeg px3) 5 0 4) + (1 : Int32))) 5 0 5 (((mu (mu (mu (mu (mu V0 6 0 ((V0 5 0 4)).toNatClampNeg (V0 5 0 5)) 7 0 (((mu V0 6 0 ((V0 5 0 4)).toNatClampNeg (V0 5 0 5)) 5 0 4)).toNatClampNeg (Int32.ofNat pn1)) 8 0 (((mu (mu V0 6 0 ((V0 5 0 4)).toNatClampNeg (V0 5 0 5)) 7 0 (((mu V0 6 0 ((V0 5 0 4)).toNatClampNeg (V0 5 0 5)) 5 0 4)).toNatClampNeg (Int32.ofNat pn1)) 5 0 4)).toNatClampNeg px2) 9 0 (((mu (mu (mu V0 6 0 ((V0 5 0 4)).toNatClampNeg (V0 5 0 5)) 7 0 (((mu V0 6 0 ((V0 5 0 4)).toNatClampNeg (V0 5 0 5)) 5 0 4)).toNatClampNeg (Int32.ofNat pn1)) 8 0 (((mu (mu V0 6 0 ((V0 5 0 4)).toNatClampNeg (V0 5 0 5)) 7 0 (((mu V0 6 0 ((V0 5 0 4)).toNatClampNeg (V0 5 0 5)) 5 0 4)).toNatClampNeg (Int32.ofNat pn1)) 5 0 4)).toNatClampNeg px2) 5 0 4)).toNatClampNeg px3) 5 0 4 (((mu (mu (mu (mu V0 6 0 ((V0 5 0 4)).toNatClampNeg (V0 5 0 5)) 7 0 (((mu V0 6 0 ((V0 5 0 4)).toNatClampNeg (V0 5 0 5)) 5 0 4)).toNatClampNeg (Int32.ofNat pn1)) 8 0 (((mu (mu V0 6 0 ((V0 5 0 4)).toNatClampNeg (V0 5 0 5)) 7 0 (((mu V0 6 0 ((V0 5 0 4)).toNatClampNeg (V0 5 0 5)) 5 0 4)).toNatClampNeg (Int32.ofNat pn1)) 5 0 4)).toNatClampNeg px2) 9 0 (((mu (mu (mu V0 6 0 ((V0 5 0 4)).toNatClampNeg (V0 5 0 5)) 7 0 (((mu V0 6 0 ((V0 5 0 4)).toNatClampNeg (V0 5 0 5)) 5 0 4)).toNatClampNeg (Int32.ofNat pn1)) 8 0 (((mu (mu V0 6 0 ((V0 5 0 4)).toNatClampNeg (V0 5 0 5)) 7 0 (((mu V0 6 0 ((V0 5 0 4)).toNatClampNeg (V0 5 0 5)) 5 0 4)).toNatClampNeg (Int32.ofNat pn1)) 5 0 4)).toNatClampNeg px2) 5 0 4)).toNatClampNeg px3) 5 0 4) + (1 : Int32))) 5 0 5) + (1 : Int32))) 5 0 5) - (1 : Int32))) hx hb hr (fun t9 ht9 hW9 => ⟨⟨_, (), rfl, rfl, xM_of hM hK hW hAs hS.1 ht9 hW9⟩, hS.F ht9⟩) hS.2.2 dX4_append_81
  · have h := iteF c_1 h
    refine lv_bipush (v := (-2)) hx hb dX4_append_9 (by decide) ?_
    have e9 : ((-2 : Int32), V0) = res := Option.some.inj h
    subst e9
    exact W.iret (v := (-2 : Int32)) hx hb hr (fun t9 ht9 hW9 => ⟨⟨_, (), rfl, rfl, xM_of hM hK hW hAs hS.1 ht9 hW9⟩, hS.F ht9⟩) hS.2.2 dX4_append_11
/-! X4_move -/
def fX4_move (L : Nat → Nat → Nat) (px1 : Int32) (px2 : Int32) (V0 : mM) (c0 : Nat × Nat) : Option (mM) := if bin px1 50 = true then (if bin px2 50 = true then (if bin px1 50 = true then (if bin px2 50 = true then (if bin px1 50 = true then (if bin px2 50 = true then (if bin px1 50 = true then (if bin px2 50 = true then (some (mu (mu (mu (mu V0 6 0 (px2).toNatClampNeg (V0 6 0 (px1).toNatClampNeg)) 7 0 (px2).toNatClampNeg ((mu V0 6 0 (px2).toNatClampNeg (V0 6 0 (px1).toNatClampNeg)) 7 0 (px1).toNatClampNeg)) 8 0 (px2).toNatClampNeg ((mu (mu V0 6 0 (px2).toNatClampNeg (V0 6 0 (px1).toNatClampNeg)) 7 0 (px2).toNatClampNeg ((mu V0 6 0 (px2).toNatClampNeg (V0 6 0 (px1).toNatClampNeg)) 7 0 (px1).toNatClampNeg)) 8 0 (px1).toNatClampNeg)) 9 0 (px2).toNatClampNeg ((mu (mu (mu V0 6 0 (px2).toNatClampNeg (V0 6 0 (px1).toNatClampNeg)) 7 0 (px2).toNatClampNeg ((mu V0 6 0 (px2).toNatClampNeg (V0 6 0 (px1).toNatClampNeg)) 7 0 (px1).toNatClampNeg)) 8 0 (px2).toNatClampNeg ((mu (mu V0 6 0 (px2).toNatClampNeg (V0 6 0 (px1).toNatClampNeg)) 7 0 (px2).toNatClampNeg ((mu V0 6 0 (px2).toNatClampNeg (V0 6 0 (px1).toNatClampNeg)) 7 0 (px1).toNatClampNeg)) 8 0 (px1).toNatClampNeg)) 9 0 (px1).toNatClampNeg))) else none) else none) else none) else none) else none) else none) else none) else none
set_option maxHeartbeats 4000000 in
set_option maxRecDepth 100000 in
theorem kX4_move (l : Launch) {dC : Nat → ClassId} {dI : Nat → Nat → Nat} {A : Nat → Prop} {ad : Nat → Nat → Nat} {cnt : Nat} {L : Nat → Nat → Nat} {cI cS cW : ClassId} {q : Nat × Nat} (hsh : xSh cnt L) (px1 : Int32) (px2 : Int32) (V0 : mM) (c0 : Nat × Nat) {res : mM} (h : fX4_move L px1 px2 V0 c0 = some res) : Met l yX4_move wsX4_move ({ frames := 0, cells := 0, slots := 0, locals := 0 } : Room) (va_Pc [.ref (ad 5 0), .int px1, .int px2] (fun U => xM dC dI A ad cnt L cI cS cW q V0 c0 U)) (va_Qv (fun (_ : Unit) => True) (fun _ t9 => xM dC dI A ad cnt L cI cS cW q res c0 t9) A) 0 0 A := by
  refine Met.ofW (cc := cX4_move) (maxL := 3) (ret := none) (by decide) rfl ?_
  intro p e s m args below meth cd s₁ B hml hv
  obtain ⟨rfl, hM, hK, hW, hAs⟩ := hv
  have hx := B.exec
  have hb := B.bytes
  have hr := B.returns
  have hts := atoms_spec (ws := wsX4_move) B.pre
  have hown : s.vm.findClass RX4 = some m.cls := findClass_of_methodNamed B.named
  have hlocks := B.notSynchronized
  have hS : va_S A s.heap s.heap [] := va_S.rf
  have k9 := hts (.fieldLink RX4 9 "StageDesk$Timers" "numbers" "[I") (by decide +kernel)
  have k17 := hts (.fieldLink RX4 17 "StageDesk$Timers" "stages" "[LStageDesk$Stage;") (by decide +kernel)
  have k21 := hts (.fieldLink RX4 21 "StageDesk$Timers" "values" "[I") (by decide +kernel)
  have k24 := hts (.fieldLink RX4 24 "StageDesk$Timers" "dues" "[I") (by decide +kernel)
  have inX4 : ∀ w ∈ u_ws RX4 TX4 6, w ∈ wsX4_move := by decide +kernel
  have hl := lv_entry ([.ref (ad 5 0), .int px1, .int px2]) (n := 3) (Nat.le_of_ble_eq_true rfl)
  rw [lg_entry_eq]
  generalize (lg_sl ([.ref (ad 5 0), .int px1, .int px2]) ++ List.replicate (3 - (lg_sl ([.ref (ad 5 0), .int px1, .int px2])).length) Slot.unset).toArray = ls at hl ⊢
  have hl : lv_has ls 3 [(0, .ref (ad 5 0)), (1, .int px1), (2, .int px2)] := hl
  unfold fX4_move at h
  refine lv_aload_n hx hb dX4_move_0 rfl (lv_at hl 0 rfl) ?_
  refine mm_get (C := RX4) (T := TX4) (N := 6) (ci := 4) hx hb hts inX4 hown hK hM 5 0 xe5 rfl rfl 0 (by decide) k9 (fun _ h9 => h9) rfl dX4_move_1 ?_
  refine lv_iload_n hx hb dX4_move_4 rfl (lv_at hl 2 rfl) ?_
  refine lv_aload_n hx hb dX4_move_5 rfl (lv_at hl 0 rfl) ?_
  refine mm_get (C := RX4) (T := TX4) (N := 6) (ci := 4) hx hb hts inX4 hown hK hM 5 0 xe5 rfl rfl 0 (by decide) k9 (fun _ h9 => h9) rfl dX4_move_6 ?_
  refine lv_iload_n hx hb dX4_move_9 rfl (lv_at hl 1 rfl) ?_
  obtain ⟨b_1, h⟩ := iteS h
  refine mm_iald hx hb hK hM 6 0 xe6 0 rfl rfl (bin_in b_1) dX4_move_10 ?_
  obtain ⟨b_2, h⟩ := iteS h
  refine mm_iast hx hb hK hM hS 6 0 xe6 0 rfl rfl (bin_in b_2) rfl dX4_move_11 (fun H locs hM hS => ?_)
  have hW := xW_mu (k := 6) (n := 0) (t := (px2).toNatClampNeg) (x := (V0 6 0 (px1).toNatClampNeg)) hW (fun h9 => Bool.noConfusion (show false = true from h9))
  refine lv_aload_n hx hb dX4_move_12 rfl (lv_at hl 0 rfl) ?_
  refine mm_get (C := RX4) (T := TX4) (N := 6) (ci := 4) hx hb hts inX4 hown hK hM 5 0 xe5 rfl rfl 1 (by decide) k17 (fun _ h9 => h9) rfl dX4_move_13 ?_
  refine lv_iload_n hx hb dX4_move_16 rfl (lv_at hl 2 rfl) ?_
  refine lv_aload_n hx hb dX4_move_17 rfl (lv_at hl 0 rfl) ?_
  refine mm_get (C := RX4) (T := TX4) (N := 6) (ci := 4) hx hb hts inX4 hown hK hM 5 0 xe5 rfl rfl 1 (by decide) k17 (fun _ h9 => h9) rfl dX4_move_18 ?_
  refine lv_iload_n hx hb dX4_move_21 rfl (lv_at hl 1 rfl) ?_
  obtain ⟨b_3, h⟩ := iteS h
  refine mm_aald hx hb hK hM 7 0 xe7 1 rfl rfl (bin_in b_3) dX4_move_22 ?_
  have ok_4 : okS cnt ((mu V0 6 0 (px2).toNatClampNeg (V0 6 0 (px1).toNatClampNeg)) 7 0 (px1).toNatClampNeg) := hW 7 0 _ rfl
  obtain ⟨b_5, h⟩ := iteS h
  refine xx_aast hx hb hK hM hS 7 0 xe7 (fun _ => rfl) ok_4 (bin_in b_5) dX4_move_23 (fun H locs hM hS => ?_)
  have hW := xW_mu (k := 7) (n := 0) (t := (px2).toNatClampNeg) (x := ((mu V0 6 0 (px2).toNatClampNeg (V0 6 0 (px1).toNatClampNeg)) 7 0 (px1).toNatClampNeg)) hW (fun _ => ok_4)
  refine lv_aload_n hx hb dX4_move_24 rfl (lv_at hl 0 rfl) ?_
  refine mm_get (C := RX4) (T := TX4) (N := 6) (ci := 4) hx hb hts inX4 hown hK hM 5 0 xe5 rfl rfl 2 (by decide) k21 (fun _ h9 => h9) rfl dX4_move_25 ?_
  refine lv_iload_n hx hb dX4_move_28 rfl (lv_at hl 2 rfl) ?_
  refine lv_aload_n hx hb dX4_move_29 rfl (lv_at hl 0 rfl) ?_
  refine mm_get (C := RX4) (T := TX4) (N := 6) (ci := 4) hx hb hts inX4 hown hK hM 5 0 xe5 rfl rfl 2 (by decide) k21 (fun _ h9 => h9) rfl dX4_move_30 ?_
  refine lv_iload_n hx hb dX4_move_33 rfl (lv_at hl 1 rfl) ?_
  obtain ⟨b_6, h⟩ := iteS h
  refine mm_iald hx hb hK hM 8 0 xe8 0 rfl rfl (bin_in b_6) dX4_move_34 ?_
  obtain ⟨b_7, h⟩ := iteS h
  refine mm_iast hx hb hK hM hS 8 0 xe8 0 rfl rfl (bin_in b_7) rfl dX4_move_35 (fun H locs hM hS => ?_)
  have hW := xW_mu (k := 8) (n := 0) (t := (px2).toNatClampNeg) (x := ((mu (mu V0 6 0 (px2).toNatClampNeg (V0 6 0 (px1).toNatClampNeg)) 7 0 (px2).toNatClampNeg ((mu V0 6 0 (px2).toNatClampNeg (V0 6 0 (px1).toNatClampNeg)) 7 0 (px1).toNatClampNeg)) 8 0 (px1).toNatClampNeg)) hW (fun h9 => Bool.noConfusion (show false = true from h9))
  refine lv_aload_n hx hb dX4_move_36 rfl (lv_at hl 0 rfl) ?_
  refine mm_get (C := RX4) (T := TX4) (N := 6) (ci := 4) hx hb hts inX4 hown hK hM 5 0 xe5 rfl rfl 3 (by decide) k24 (fun _ h9 => h9) rfl dX4_move_37 ?_
  refine lv_iload_n hx hb dX4_move_40 rfl (lv_at hl 2 rfl) ?_
  refine lv_aload_n hx hb dX4_move_41 rfl (lv_at hl 0 rfl) ?_
  refine mm_get (C := RX4) (T := TX4) (N := 6) (ci := 4) hx hb hts inX4 hown hK hM 5 0 xe5 rfl rfl 3 (by decide) k24 (fun _ h9 => h9) rfl dX4_move_42 ?_
  refine lv_iload_n hx hb dX4_move_45 rfl (lv_at hl 1 rfl) ?_
  obtain ⟨b_8, h⟩ := iteS h
  refine mm_iald hx hb hK hM 9 0 xe9 0 rfl rfl (bin_in b_8) dX4_move_46 ?_
  obtain ⟨b_9, h⟩ := iteS h
  refine mm_iast hx hb hK hM hS 9 0 xe9 0 rfl rfl (bin_in b_9) rfl dX4_move_47 (fun H locs hM hS => ?_)
  have hW := xW_mu (k := 9) (n := 0) (t := (px2).toNatClampNeg) (x := ((mu (mu (mu V0 6 0 (px2).toNatClampNeg (V0 6 0 (px1).toNatClampNeg)) 7 0 (px2).toNatClampNeg ((mu V0 6 0 (px2).toNatClampNeg (V0 6 0 (px1).toNatClampNeg)) 7 0 (px1).toNatClampNeg)) 8 0 (px2).toNatClampNeg ((mu (mu V0 6 0 (px2).toNatClampNeg (V0 6 0 (px1).toNatClampNeg)) 7 0 (px2).toNatClampNeg ((mu V0 6 0 (px2).toNatClampNeg (V0 6 0 (px1).toNatClampNeg)) 7 0 (px1).toNatClampNeg)) 8 0 (px1).toNatClampNeg)) 9 0 (px1).toNatClampNeg)) hW (fun h9 => Bool.noConfusion (show false = true from h9))
  have e9 : (mu (mu (mu (mu V0 6 0 (px2).toNatClampNeg (V0 6 0 (px1).toNatClampNeg)) 7 0 (px2).toNatClampNeg ((mu V0 6 0 (px2).toNatClampNeg (V0 6 0 (px1).toNatClampNeg)) 7 0 (px1).toNatClampNeg)) 8 0 (px2).toNatClampNeg ((mu (mu V0 6 0 (px2).toNatClampNeg (V0 6 0 (px1).toNatClampNeg)) 7 0 (px2).toNatClampNeg ((mu V0 6 0 (px2).toNatClampNeg (V0 6 0 (px1).toNatClampNeg)) 7 0 (px1).toNatClampNeg)) 8 0 (px1).toNatClampNeg)) 9 0 (px2).toNatClampNeg ((mu (mu (mu V0 6 0 (px2).toNatClampNeg (V0 6 0 (px1).toNatClampNeg)) 7 0 (px2).toNatClampNeg ((mu V0 6 0 (px2).toNatClampNeg (V0 6 0 (px1).toNatClampNeg)) 7 0 (px1).toNatClampNeg)) 8 0 (px2).toNatClampNeg ((mu (mu V0 6 0 (px2).toNatClampNeg (V0 6 0 (px1).toNatClampNeg)) 7 0 (px2).toNatClampNeg ((mu V0 6 0 (px2).toNatClampNeg (V0 6 0 (px1).toNatClampNeg)) 7 0 (px1).toNatClampNeg)) 8 0 (px1).toNatClampNeg)) 9 0 (px1).toNatClampNeg)) = res := Option.some.inj h
  subst e9
  exact W.vret hx hb hr (fun t9 ht9 hW9 => ⟨⟨(), rfl, trivial, xM_of hM hK hW hAs hS.1 ht9 hW9⟩, hS.F ht9⟩) hS.2.2 dX4_move_48
/-! X4_remove -/
def jnX4_remove_31 (L : Nat → Nat → Nat) (ro4 : Int32 → Int32 → Int32 → mM → Nat × Nat → Option (Int32 × mM)) (x1 : Int32) (x2 : Int32) (x3 : Int32) (V : mM) (c0 : Nat × Nat) : Option (Int32 × mM) := ro4 x1 x2 (x3 + 1) V c0
def lpX4_remove_4 (L : Nat → Nat → Nat)  : Nat → Int32 → Int32 → Int32 → mM → Nat × Nat → Option (Int32 × mM)
  | 0, _, _, _, _, _ => none
  | n9 + 1, x1, x2, x3, V, c0 => if (V 5 0 4) ≤ x3 then (if (V 5 0 4) ≤ x2 then (some ((0 : Int32), (mu V 5 0 4 x2))) else (some ((1 : Int32), (mu V 5 0 4 x2)))) else (if bin x3 50 = true then (if (V 6 0 (x3).toNatClampNeg) = x1 then (jnX4_remove_31 L (lpX4_remove_4 L n9) x1 x2 x3 V c0) else ((fX4_move L x3 x2 V c0).bind fun u_5 => jnX4_remove_31 L (lpX4_remove_4 L n9) x1 (x2 + 1) x3 u_5 c0)) else none)
def fX4_remove (L : Nat → Nat → Nat) (px1 : Int32) (V0 : mM) (c0 : Nat × Nat) : Option (Int32 × mM) := lpX4_remove_4 L fu px1 (0 : Int32) (0 : Int32) V0 c0
set_option maxHeartbeats 4000000 in
set_option maxRecDepth 100000 in
theorem kX4_remove (l : Launch) {dC : Nat → ClassId} {dI : Nat → Nat → Nat} {A : Nat → Prop} {ad : Nat → Nat → Nat} {cnt : Nat} {L : Nat → Nat → Nat} {cI cS cW : ClassId} {q : Nat × Nat} (hsh : xSh cnt L) (px1 : Int32) (V0 : mM) (c0 : Nat × Nat) {res : Int32 × mM} (h : fX4_remove L px1 V0 c0 = some res) : Met l yX4_remove wsX4_remove ({ frames := 1, cells := 0, slots := 0, locals := 22 } : Room) (va_Pc [.ref (ad 5 0), .int px1] (fun U => xM dC dI A ad cnt L cI cS cW q V0 c0 U)) (va_Qi (fun r9 (_ : Unit) => r9 = res.1) (fun _ t9 => xM dC dI A ad cnt L cI cS cW q res.2 c0 t9) A) 0 0 A := by
  refine Met.ofW (cc := cX4_remove) (maxL := 4) (ret := (some .boolean)) (by decide) rfl ?_
  intro p e s m args below meth cd s₁ B hml hv
  obtain ⟨rfl, hM, hK, hW, hAs⟩ := hv
  have hx := B.exec
  have hb := B.bytes
  have hr := B.returns
  have hts := atoms_spec (ws := wsX4_remove) B.pre
  have hown : s.vm.findClass RX4 = some m.cls := findClass_of_methodNamed B.named
  have hlocks := B.notSynchronized
  have hS : va_S A s.heap s.heap [] := va_S.rf
  have k27 := hts (.fieldLink RX4 27 "StageDesk$Timers" "size" "I") (by decide +kernel)
  have k9 := hts (.fieldLink RX4 9 "StageDesk$Timers" "numbers" "[I") (by decide +kernel)
  have inX4 : ∀ w ∈ u_ws RX4 TX4 6, w ∈ wsX4_remove := by decide +kernel
  have hb31 : ∀ (ro4 : Int32 → Int32 → Int32 → mM → Nat × Nat → Option (Int32 × mM)) (hro4 : ∀ (x1 : Int32) (x2 : Int32) (x3 : Int32) (V : mM), ro4 x1 x2 x3 V c0 = some res → ∀ (H : Heap) (locs : List Loc), mP (dC, dI) vwCl A (xad ad q) (xce cI cS cW ad q L c0) (xex cnt L) V H → xW cnt V → va_S A s.heap H locs → ∀ (ls : Array Slot), lv_has ls 4 [(0, .ref (ad 5 0)), (1, .int x1), (2, .int x2), (3, .int x3)] → W p l e (headSpec wsX4_remove ({ frames := 1, cells := 0, slots := 0, locals := 22 } : Room)).room s m ([.ref (ad 5 0), .int px1] : List Value).toArray below meth cd H locs 0 0 (MQ below (va_Qi (fun r9 (_ : Unit) => r9 = res.1) (fun _ t9 => xM dC dI A ad cnt L cI cS cW q res.2 c0 t9) A) ([.ref (ad 5 0), .int px1] : List Value).toArray s 0 0 A) (F0 m 4 ls [])), ∀ (x1 : Int32) (x2 : Int32) (x3 : Int32) (V : mM), jnX4_remove_31 L ro4 x1 x2 x3 V c0 = some res → ∀ (H : Heap) (locs : List Loc), mP (dC, dI) vwCl A (xad ad q) (xce cI cS cW ad q L c0) (xex cnt L) V H → xW cnt V → va_S A s.heap H locs → ∀ (ls : Array Slot), lv_has ls 4 [(0, .ref (ad 5 0)), (1, .int x1), (2, .int x2), (3, .int x3)] → W p l e (headSpec wsX4_remove ({ frames := 1, cells := 0, slots := 0, locals := 22 } : Room)).room s m ([.ref (ad 5 0), .int px1] : List Value).toArray below meth cd H locs 0 0 (MQ below (va_Qi (fun r9 (_ : Unit) => r9 = res.1) (fun _ t9 => xM dC dI A ad cnt L cI cS cW q res.2 c0 t9) A) ([.ref (ad 5 0), .int px1] : List Value).toArray s 0 0 A) (F0 m 31 ls []) := by
    intro ro4 hro4 x1 x2 x3 V h H locs hM hW hS ls hl
    unfold jnX4_remove_31 at h
    refine lv_iinc (v := (x3 + 1)) (lv' := [(3, .int (x3 + 1)), (0, .ref (ad 5 0)), (1, .int x1), (2, .int x2)]) hx hb dX4_remove_31 hl (k := 3) rfl rfl (by decide) rfl (fun ls hl => ?_)
    refine lv_goto (tgt := 4) hx hb dX4_remove_34 (by decide) ?_
    exact hro4 _ _ _ _ h _ _  hM hW hS ls (lv_sub hl [1, 2, 3, 0] rfl)
  have hb4 : ∀ (n9 : Nat), ∀ (x1 : Int32) (x2 : Int32) (x3 : Int32) (V : mM), lpX4_remove_4 L n9 x1 x2 x3 V c0 = some res → ∀ (H : Heap) (locs : List Loc), mP (dC, dI) vwCl A (xad ad q) (xce cI cS cW ad q L c0) (xex cnt L) V H → xW cnt V → va_S A s.heap H locs → ∀ (ls : Array Slot), lv_has ls 4 [(0, .ref (ad 5 0)), (1, .int x1), (2, .int x2), (3, .int x3)] → W p l e (headSpec wsX4_remove ({ frames := 1, cells := 0, slots := 0, locals := 22 } : Room)).room s m ([.ref (ad 5 0), .int px1] : List Value).toArray below meth cd H locs 0 0 (MQ below (va_Qi (fun r9 (_ : Unit) => r9 = res.1) (fun _ t9 => xM dC dI A ad cnt L cI cS cW q res.2 c0 t9) A) ([.ref (ad 5 0), .int px1] : List Value).toArray s 0 0 A) (F0 m 4 ls []) := by
    intro  n9
    induction n9 with
    | zero =>
      intro x1 x2 x3 V h H locs hM hW hS ls hl
      rw [lpX4_remove_4] at h
      cases h
    | succ n9 ih =>
      intro x1 x2 x3 V h H locs hM hW hS ls hl
      rw [lpX4_remove_4] at h
      refine lv_iload_n hx hb dX4_remove_4 rfl (lv_at hl 3 rfl) ?_
      refine lv_aload_n hx hb dX4_remove_5 rfl (lv_at hl 0 rfl) ?_
      refine mm_get (C := RX4) (T := TX4) (N := 6) (ci := 4) hx hb hts inX4 hown hK hM 5 0 xe5 rfl rfl 4 (by decide) k27 (fun _ h9 => h9) rfl dX4_remove_6 ?_
      refine lv_icmp_ge (tgt := 37) hx hb dX4_remove_9 (by decide) (fun c_1 => ?_) (fun c_1 => ?_)
      · have h := iteT c_1 h
        refine lv_iload_n hx hb dX4_remove_37 rfl (lv_at hl 2 rfl) ?_
        refine lv_aload_n hx hb dX4_remove_38 rfl (lv_at hl 0 rfl) ?_
        refine mm_get (C := RX4) (T := TX4) (N := 6) (ci := 4) hx hb hts inX4 hown hK hM 5 0 xe5 rfl rfl 4 (by decide) k27 (fun _ h9 => h9) rfl dX4_remove_39 ?_
        refine lv_icmp_ge (tgt := 49) hx hb dX4_remove_42 (by decide) (fun c_2 => ?_) (fun c_2 => ?_)
        · have h := iteT c_2 h
          refine lv_iconst (v := 0) hx hb dX4_remove_49 (by decide) ?_
          refine lv_istore_n (lv' := [(3, .int (0 : Int32)), (0, .ref (ad 5 0)), (1, .int x1), (2, .int x2)]) hx hb dX4_remove_50 rfl hl (by decide) rfl (fun ls hl => ?_)
          refine lv_aload_n hx hb dX4_remove_51 rfl (lv_at hl 1 rfl) ?_
          refine lv_iload_n hx hb dX4_remove_52 rfl (lv_at hl 3 rfl) ?_
          refine mm_put (C := RX4) (T := TX4) (N := 6) (ci := 4) (ty := .int) hx hb hts inX4 tyX4 tyX4_ok nmX4 hown hK hM hS 5 0 xe5 rfl rfl 4 (by decide) k27 (fun _ h9 => h9) rfl (by decide +kernel) rfl rfl (Nat.le_of_ble_eq_true rfl) x2 rfl dX4_remove_53 (fun H locs hM hS => ?_)
          have hW := xW_mu (k := 5) (n := 0) (t := 4) (x := x2) hW (fun h9 => Bool.noConfusion (show false = true from h9))
          refine lv_iload_n hx hb dX4_remove_56 rfl (lv_at hl 0 rfl) ?_
          have e9 : ((0 : Int32), (mu V 5 0 4 x2)) = res := Option.some.inj h
          subst e9
          exact W.zret (v := (0 : Int32)) (ty := .boolean) hx hb hr rfl (fun t9 ht9 hW9 => ⟨⟨_, (), rfl, rfl, xM_of hM hK hW hAs hS.1 ht9 hW9⟩, hS.F ht9⟩) hS.2.2 dX4_remove_57
        · have h := iteF c_2 h
          refine lv_iconst (v := 1) hx hb dX4_remove_45 (by decide) ?_
          refine lv_goto (tgt := 50) hx hb dX4_remove_46 (by decide) ?_
          refine lv_istore_n (lv' := [(3, .int (1 : Int32)), (0, .ref (ad 5 0)), (1, .int x1), (2, .int x2)]) hx hb dX4_remove_50 rfl hl (by decide) rfl (fun ls hl => ?_)
          refine lv_aload_n hx hb dX4_remove_51 rfl (lv_at hl 1 rfl) ?_
          refine lv_iload_n hx hb dX4_remove_52 rfl (lv_at hl 3 rfl) ?_
          refine mm_put (C := RX4) (T := TX4) (N := 6) (ci := 4) (ty := .int) hx hb hts inX4 tyX4 tyX4_ok nmX4 hown hK hM hS 5 0 xe5 rfl rfl 4 (by decide) k27 (fun _ h9 => h9) rfl (by decide +kernel) rfl rfl (Nat.le_of_ble_eq_true rfl) x2 rfl dX4_remove_53 (fun H locs hM hS => ?_)
          have hW := xW_mu (k := 5) (n := 0) (t := 4) (x := x2) hW (fun h9 => Bool.noConfusion (show false = true from h9))
          refine lv_iload_n hx hb dX4_remove_56 rfl (lv_at hl 0 rfl) ?_
          have e9 : ((1 : Int32), (mu V 5 0 4 x2)) = res := Option.some.inj h
          subst e9
          exact W.zret (v := (1 : Int32)) (ty := .boolean) hx hb hr rfl (fun t9 ht9 hW9 => ⟨⟨_, (), rfl, rfl, xM_of hM hK hW hAs hS.1 ht9 hW9⟩, hS.F ht9⟩) hS.2.2 dX4_remove_57
      · have h := iteF c_1 h
        refine lv_aload_n hx hb dX4_remove_12 rfl (lv_at hl 0 rfl) ?_
        refine mm_get (C := RX4) (T := TX4) (N := 6) (ci := 4) hx hb hts inX4 hown hK hM 5 0 xe5 rfl rfl 0 (by decide) k9 (fun _ h9 => h9) rfl dX4_remove_13 ?_
        refine lv_iload_n hx hb dX4_remove_16 rfl (lv_at hl 3 rfl) ?_
        obtain ⟨b_3, h⟩ := iteS h
        refine mm_iald hx hb hK hM 6 0 xe6 0 rfl rfl (bin_in b_3) dX4_remove_17 ?_
        refine lv_iload_n hx hb dX4_remove_18 rfl (lv_at hl 1 rfl) ?_
        refine lv_icmp_eq (tgt := 31) hx hb dX4_remove_19 (by decide) (fun c_4 => ?_) (fun c_4 => ?_)
        · have h := iteT c_4 h
          exact hb31 (lpX4_remove_4 L n9) ih _ _ _ _ h _ _  hM hW hS ls (lv_sub hl [0, 1, 2, 3] rfl)
        · have h := iteF c_4 h
          refine lv_aload_n hx hb dX4_remove_22 rfl (lv_at hl 0 rfl) ?_
          refine lv_iload_n hx hb dX4_remove_23 rfl (lv_at hl 3 rfl) ?_
          refine lv_iload_n hx hb dX4_remove_24 rfl (lv_at hl 2 rfl) ?_
          obtain ⟨u_5, hu_5, h⟩ := bindS h
          refine va_callv (va_runV (As := [.int x3, .int x2]) (rest := []) ⟨hx, hb, hml, hown, hts⟩ (kX4_move l hsh x3 x2 V c0 hu_5) (cwV 2 hts gX4_remove_X4_move rfl rfl rfl (by decide +kernel) ⟨Nat.le_of_ble_eq_true rfl, Nat.le_of_ble_eq_true rfl⟩) ⟨fun a U g9 mk w9 => ⟨w9.1, xM_calling w9.2⟩, mP_recv (q := (RX4, TX4, 6)) hK hM xe5 rfl rfl, fun U hU hWm => ⟨rfl, xM_of hM hK hW hAs hS.1 hU hWm⟩⟩ rfl rfl hl.1 rfl (lv_room (Nat.le_of_ble_eq_true rfl)) dX4_remove_25 ⟨Nat.le_of_ble_eq_true rfl, Nat.le_of_ble_eq_true rfl⟩) hS (fun _ _ h9 => h9) (fun _ h9 => h9) (fun u9 t9 H locs ht9 _ hw9 hB9 _ _ hS => ?_)
          obtain ⟨hM, -, hW, -⟩ := hB9
          rw [ht9] at hM
          refine lv_iinc (v := (x2 + 1)) (lv' := [(2, .int (x2 + 1)), (0, .ref (ad 5 0)), (1, .int x1), (3, .int x3)]) hx hb dX4_remove_28 hl (k := 2) rfl rfl (by decide) rfl (fun ls hl => ?_)
          exact hb31 (lpX4_remove_4 L n9) ih _ _ _ _ h _ _  hM hW hS ls (lv_sub hl [1, 2, 0, 3] rfl)
  have hl := lv_entry ([.ref (ad 5 0), .int px1]) (n := 4) (Nat.le_of_ble_eq_true rfl)
  rw [lg_entry_eq]
  generalize (lg_sl ([.ref (ad 5 0), .int px1]) ++ List.replicate (4 - (lg_sl ([.ref (ad 5 0), .int px1])).length) Slot.unset).toArray = ls at hl ⊢
  have hl : lv_has ls 4 [(0, .ref (ad 5 0)), (1, .int px1)] := hl
  unfold fX4_remove at h
  refine lv_iconst (v := 0) hx hb dX4_remove_0 (by decide) ?_
  refine lv_istore_n (lv' := [(2, .int (0 : Int32)), (0, .ref (ad 5 0)), (1, .int px1)]) hx hb dX4_remove_1 rfl hl (by decide) rfl (fun ls hl => ?_)
  refine lv_iconst (v := 0) hx hb dX4_remove_2 (by decide) ?_
  refine lv_istore_n (lv' := [(3, .int (0 : Int32)), (2, .int (0 : Int32)), (0, .ref (ad 5 0)), (1, .int px1)]) hx hb dX4_remove_3 rfl hl (by decide) rfl (fun ls hl => ?_)
  exact hb4 fu _ _ _ _ h _ _  hM hW hS ls (lv_sub hl [2, 3, 1, 0] rfl)
/-! X5_append -/
def jnX5_append_30 (L : Nat → Nat → Nat)  (n0 : Nat) (x1 : Int32) (V : mM) (c0 : Nat × Nat) : Option (mM) := if bin (V 21 n0 2) 20 = true then (some (mu (mu V 22 n0 ((V 21 n0 2)).toNatClampNeg x1) 21 n0 2 (((mu V 22 n0 ((V 21 n0 2)).toNatClampNeg x1) 21 n0 2) + (1 : Int32)))) else none
def fX5_append (L : Nat → Nat → Nat) (pn0 : Nat) (px1 : Int32) (V0 : mM) (c0 : Nat × Nat) : Option (mM) := if (V0 21 pn0 2) < (20 : Int32) then (jnX5_append_30 L pn0 px1 V0 c0) else (if bcp (1 : Int32) (0 : Int32) (19 : Int32) 20 20 = true then (jnX5_append_30 L pn0 px1 (mu (mv V0 22 pn0 (va_cpy (V0 22 pn0) (V0 22 pn0) ((1 : Int32)).toNatClampNeg ((0 : Int32)).toNatClampNeg ((19 : Int32)).toNatClampNeg)) 21 pn0 2 (19 : Int32)) c0) else none)
set_option maxHeartbeats 4000000 in
set_option maxRecDepth 100000 in
theorem kX5_append (l : Launch) {dC : Nat → ClassId} {dI : Nat → Nat → Nat} {A : Nat → Prop} {ad : Nat → Nat → Nat} {cnt : Nat} {L : Nat → Nat → Nat} {cI cS cW : ClassId} {q : Nat × Nat} (hsh : xSh cnt L) (pn0 : Nat) (px1 : Int32) (V0 : mM) (c0 : Nat × Nat) {res : mM} (h : fX5_append L pn0 px1 V0 c0 = some res) (hpn0 : xex cnt L 21 pn0) : Met l yX5_append wsX5_append ({ frames := 1, cells := 0, slots := 0, locals := 35 } : Room) (va_Pc [.ref (ad 21 pn0), .int px1] (fun U => xM dC dI A ad cnt L cI cS cW q V0 c0 U)) (va_Qv (fun (_ : Unit) => True) (fun _ t9 => xM dC dI A ad cnt L cI cS cW q res c0 t9) A) 0 0 A := by
  refine Met.ofW (cc := cX5_append) (maxL := 2) (ret := none) (by decide) rfl ?_
  intro p e s m args below meth cd s₁ B hml hv
  obtain ⟨rfl, hM, hK, hW, hAs⟩ := hv
  have hx := B.exec
  have hb := B.bytes
  have hr := B.returns
  have hts := atoms_spec (ws := wsX5_append) B.pre
  have hown : s.vm.findClass RX5 = some m.cls := findClass_of_methodNamed B.named
  have hlocks := B.notSynchronized
  have hS : va_S A s.heap s.heap [] := va_S.rf
  have k9 := hts (.fieldLink RX5 9 "StageDesk$Times" "kept" "[I") (by decide +kernel)
  have k18 := hts (.fieldLink RX5 18 "StageDesk$Times" "size" "I") (by decide +kernel)
  have inX5 : ∀ w ∈ u_ws RX5 TX5 3, w ∈ wsX5_append := by decide +kernel
  have hb30 : ∀ (n0 : Nat) (x1 : Int32) (V : mM), jnX5_append_30 L n0 x1 V c0 = some res → ∀ (H : Heap) (locs : List Loc), xex cnt L 21 n0 → mP (dC, dI) vwCl A (xad ad q) (xce cI cS cW ad q L c0) (xex cnt L) V H → xW cnt V → va_S A s.heap H locs → ∀ (ls : Array Slot), lv_has ls 2 [(0, .ref (ad 21 n0)), (1, .int x1)] → W p l e (headSpec wsX5_append ({ frames := 1, cells := 0, slots := 0, locals := 35 } : Room)).room s m ([.ref (ad 21 pn0), .int px1] : List Value).toArray below meth cd H locs 0 0 (MQ below (va_Qv (fun (_ : Unit) => True) (fun _ t9 => xM dC dI A ad cnt L cI cS cW q res c0 t9) A) ([.ref (ad 21 pn0), .int px1] : List Value).toArray s 0 0 A) (F0 m 30 ls []) := by
    intro  n0 x1 V h H locs hn0 hM hW hS ls hl
    unfold jnX5_append_30 at h
    refine lv_aload_n hx hb dX5_append_30 rfl (lv_at hl 0 rfl) ?_
    refine mm_get (C := RX5) (T := TX5) (N := 3) (ci := 5) hx hb hts inX5 hown hK hM 21 n0 hn0 rfl rfl 0 (by decide) k9 (fun _ h9 => h9) rfl dX5_append_31 ?_
    refine lv_aload_n hx hb dX5_append_34 rfl (lv_at hl 0 rfl) ?_
    refine mm_get (C := RX5) (T := TX5) (N := 3) (ci := 5) hx hb hts inX5 hown hK hM 21 n0 hn0 rfl rfl 2 (by decide) k18 (fun _ h9 => h9) rfl dX5_append_35 ?_
    refine lv_iload_n hx hb dX5_append_38 rfl (lv_at hl 1 rfl) ?_
    obtain ⟨b_1, h⟩ := iteS h
    refine mm_iast hx hb hK hM hS 22 n0 (xe21_k hn0) 0 rfl rfl (bin_in b_1) rfl dX5_append_39 (fun H locs hM hS => ?_)
    have hW := xW_mu (k := 22) (n := n0) (t := ((V 21 n0 2)).toNatClampNeg) (x := x1) hW (fun h9 => Bool.noConfusion (show false = true from h9))
    refine lv_aload_n hx hb dX5_append_40 rfl (lv_at hl 0 rfl) ?_
    refine lv_dup hx hb dX5_append_41 rfl ?_
    refine mm_get (C := RX5) (T := TX5) (N := 3) (ci := 5) hx hb hts inX5 hown hK hM 21 n0 hn0 rfl rfl 2 (by decide) k18 (fun _ h9 => h9) rfl dX5_append_42 ?_
    refine lv_iconst (v := 1) hx hb dX5_append_45 (by decide) ?_
    refine lv_iadd hx hb dX5_append_46 ?_
    refine mm_put (C := RX5) (T := TX5) (N := 3) (ci := 5) (ty := .int) hx hb hts inX5 tyX5 tyX5_ok nmX5 hown hK hM hS 21 n0 hn0 rfl rfl 2 (by decide) k18 (fun _ h9 => h9) rfl (by decide +kernel) rfl rfl (Nat.le_of_ble_eq_true rfl) (((mu V 22 n0 ((V 21 n0 2)).toNatClampNeg x1) 21 n0 2) + (1 : Int32)) rfl dX5_append_47 (fun H locs hM hS => ?_)
    have hW := xW_mu (k := 21) (n := n0) (t := 2) (x := (((mu V 22 n0 ((V 21 n0 2)).toNatClampNeg x1) 21 n0 2) + (1 : Int32))) hW (fun h9 => Bool.noConfusion (show false = true from h9))
    have e9 : (mu (mu V 22 n0 ((V 21 n0 2)).toNatClampNeg x1) 21 n0 2 (((mu V 22 n0 ((V 21 n0 2)).toNatClampNeg x1) 21 n0 2) + (1 : Int32))) = res := Option.some.inj h
    subst e9
    exact W.vret hx hb hr (fun t9 ht9 hW9 => ⟨⟨(), rfl, trivial, xM_of hM hK hW hAs hS.1 ht9 hW9⟩, hS.F ht9⟩) hS.2.2 dX5_append_50
  have hl := lv_entry ([.ref (ad 21 pn0), .int px1]) (n := 2) (Nat.le_of_ble_eq_true rfl)
  rw [lg_entry_eq]
  generalize (lg_sl ([.ref (ad 21 pn0), .int px1]) ++ List.replicate (2 - (lg_sl ([.ref (ad 21 pn0), .int px1])).length) Slot.unset).toArray = ls at hl ⊢
  have hl : lv_has ls 2 [(0, .ref (ad 21 pn0)), (1, .int px1)] := hl
  unfold fX5_append at h
  refine lv_aload_n hx hb dX5_append_0 rfl (lv_at hl 0 rfl) ?_
  refine mm_get (C := RX5) (T := TX5) (N := 3) (ci := 5) hx hb hts inX5 hown hK hM 21 pn0 hpn0 rfl rfl 2 (by decide) k18 (fun _ h9 => h9) rfl dX5_append_1 ?_
  refine lv_bipush (v := 20) hx hb dX5_append_4 (by decide) ?_
  refine lv_icmp_lt (tgt := 30) hx hb dX5_append_6 (by decide) (fun c_2 => ?_) (fun c_2 => ?_)
  · have h := iteT c_2 h
    exact hb30 _ _ _ h _ _ hpn0 hM hW hS ls (lv_sub hl [0, 1] rfl)
  · have h := iteF c_2 h
    refine lv_aload_n hx hb dX5_append_9 rfl (lv_at hl 0 rfl) ?_
    refine mm_get (C := RX5) (T := TX5) (N := 3) (ci := 5) hx hb hts inX5 hown hK hM 21 pn0 hpn0 rfl rfl 0 (by decide) k9 (fun _ h9 => h9) rfl dX5_append_10 ?_
    refine lv_iconst (v := 1) hx hb dX5_append_13 (by decide) ?_
    refine lv_aload_n hx hb dX5_append_14 rfl (lv_at hl 0 rfl) ?_
    refine mm_get (C := RX5) (T := TX5) (N := 3) (ci := 5) hx hb hts inX5 hown hK hM 21 pn0 hpn0 rfl rfl 0 (by decide) k9 (fun _ h9 => h9) rfl dX5_append_15 ?_
    refine lv_iconst (v := 0) hx hb dX5_append_18 (by decide) ?_
    refine lv_bipush (v := 19) hx hb dX5_append_19 (by decide) ?_
    obtain ⟨b_3, h⟩ := iteS h
    obtain ⟨b_31, b_32, b_33, b_34, b_35⟩ := bcp_in b_3
    refine mm_copyi hx hb (by rw [hml]; exact hl.1.symm) hown (hts (.methodLink RX5 22 arraycopyName) (by decide +kernel)) (hts (.native arraycopyName) (by decide +kernel)) (hts (.static arraycopyName) (by decide +kernel)) (hts (.initialized "java/lang/System") (by decide +kernel)) hK hM hS 22 pn0 (xe21_k hpn0) 22 pn0 (xe21_k hpn0) 0 rfl rfl rfl b_31 b_32 b_33 b_34 b_35 _ rfl (Nat.le_of_ble_eq_true rfl) (Nat.le_of_ble_eq_true rfl) dX5_append_21 (fun H locs hM hS => ?_)
    have hW := xW_mv (k := 22) (n := pn0) (v := (va_cpy (V0 22 pn0) (V0 22 pn0) ((1 : Int32)).toNatClampNeg ((0 : Int32)).toNatClampNeg ((19 : Int32)).toNatClampNeg)) hW (fun _ => rfl)
    refine lv_aload_n hx hb dX5_append_24 rfl (lv_at hl 0 rfl) ?_
    refine lv_bipush (v := 19) hx hb dX5_append_25 (by decide) ?_
    refine mm_put (C := RX5) (T := TX5) (N := 3) (ci := 5) (ty := .int) hx hb hts inX5 tyX5 tyX5_ok nmX5 hown hK hM hS 21 pn0 hpn0 rfl rfl 2 (by decide) k18 (fun _ h9 => h9) rfl (by decide +kernel) rfl rfl (Nat.le_of_ble_eq_true rfl) (19 : Int32) rfl dX5_append_27 (fun H locs hM hS => ?_)
    have hW := xW_mu (k := 21) (n := pn0) (t := 2) (x := (19 : Int32)) hW (fun h9 => Bool.noConfusion (show false = true from h9))
    exact hb30 _ _ _ h _ _ hpn0 hM hW hS ls (lv_sub hl [0, 1] rfl)
/-! X6_figure -/
def fX6_figure (L : Nat → Nat → Nat) (pn0 : Nat) (px1 : Int32) (V0 : mM) (c0 : Nat × Nat) : Option (Int32) := if px1 = 0 then (some (V0 11 pn0 3)) else if px1 = 1 then (some (V0 16 pn0 2)) else if px1 = 2 then (some ((V0 17 pn0 3) - (V0 17 pn0 4))) else (some (-1 : Int32))
set_option maxHeartbeats 4000000 in
set_option maxRecDepth 100000 in
theorem kX6_figure (l : Launch) {dC : Nat → ClassId} {dI : Nat → Nat → Nat} {A : Nat → Prop} {ad : Nat → Nat → Nat} {cnt : Nat} {L : Nat → Nat → Nat} {cI cS cW : ClassId} {q : Nat × Nat} (hsh : xSh cnt L) (pn0 : Nat) (px1 : Int32) (V0 : mM) (c0 : Nat × Nat) {res : Int32} (h : fX6_figure L pn0 px1 V0 c0 = some res) (hpn0 : xex cnt L 16 pn0) : Met l yX6_figure wsX6_figure ({ frames := 0, cells := 0, slots := 0, locals := 0 } : Room) (va_Pc [.ref (ad 16 pn0), .int px1] (fun U => xM dC dI A ad cnt L cI cS cW q V0 c0 U)) (va_Qi (fun r9 (_ : Unit) => r9 = res) (fun _ t9 => xM dC dI A ad cnt L cI cS cW q V0 c0 t9) A) 0 0 A := by
  refine Met.ofW (cc := cX6_figure) (maxL := 2) (ret := (some .int)) (by decide) rfl ?_
  intro p e s m args below meth cd s₁ B hml hv
  obtain ⟨rfl, hM, hK, hW, hAs⟩ := hv
  have hx := B.exec
  have hb := B.bytes
  have hr := B.returns
  have hts := atoms_spec (ws := wsX6_figure) B.pre
  have hown : s.vm.findClass RX6 = some m.cls := findClass_of_methodNamed B.named
  have hlocks := B.notSynchronized
  have hS : va_S A s.heap s.heap [] := va_S.rf
  have k14 := hts (.fieldLink RX6 14 "StageDesk$Worker" "batch" "LStageDesk$EventRow;") (by decide +kernel)
  have k27 := hts (.fieldLink RX6 27 "StageDesk$EventRow" "size" "I") (by decide +kernel)
  have k31 := hts (.fieldLink RX6 31 "StageDesk$Worker" "rest" "I") (by decide +kernel)
  have k23 := hts (.fieldLink RX6 23 "StageDesk$Worker" "gifts" "LStageDesk$Gifts;") (by decide +kernel)
  have k34 := hts (.fieldLink RX6 34 "StageDesk$Gifts" "size" "I") (by decide +kernel)
  have k35 := hts (.fieldLink RX6 35 "StageDesk$Gifts" "next" "I") (by decide +kernel)
  have inX6 : ∀ w ∈ u_ws RX6 TX6 5, w ∈ wsX6_figure := by decide +kernel
  have inX1 : ∀ w ∈ u_ws RX1 TX1 4, w ∈ wsX6_figure := by decide +kernel
  have inX2 : ∀ w ∈ u_ws RX2 TX2 6, w ∈ wsX6_figure := by decide +kernel
  have hl := lv_entry ([.ref (ad 16 pn0), .int px1]) (n := 2) (Nat.le_of_ble_eq_true rfl)
  rw [lg_entry_eq]
  generalize (lg_sl ([.ref (ad 16 pn0), .int px1]) ++ List.replicate (2 - (lg_sl ([.ref (ad 16 pn0), .int px1])).length) Slot.unset).toArray = ls at hl ⊢
  have hl : lv_has ls 2 [(0, .ref (ad 16 pn0)), (1, .int px1)] := hl
  unfold fX6_figure at h
  refine lv_iload_n hx hb dX6_figure_0 rfl (lv_at hl 1 rfl) ?_
  by_cases w_1 : px1 = 0
  · have h := iteT w_1 h
    refine lv_tableIn (off := 27) (tgt := 28) hx hb dX6_figure_1 (by rw [w_1]; decide) (by rw [w_1]; decide) (by rw [w_1]; decide) (by decide) ?_
    refine lv_aload_n hx hb dX6_figure_28 rfl (lv_at hl 0 rfl) ?_
    refine mm_get (C := RX6) (T := TX6) (N := 5) (ci := 6) hx hb hts inX6 hown hK hM 16 pn0 hpn0 rfl rfl 0 (by decide) k14 (fun _ h9 => h9) rfl dX6_figure_29 ?_
    refine mm_get (C := RX1) (T := TX1) (N := 4) (ci := 1) hx hb hts inX1 hown hK hM 11 pn0 (xe16_b hpn0) rfl rfl 3 (by decide) k27 (fun _ h9 => h9) rfl dX6_figure_32 ?_
    have e9 : (V0 11 pn0 3) = res := Option.some.inj h
    subst e9
    exact W.iret (v := (V0 11 pn0 3)) hx hb hr (fun t9 ht9 hW9 => ⟨⟨_, (), rfl, rfl, xM_of hM hK hW hAs hS.1 ht9 hW9⟩, hS.F ht9⟩) hS.2.2 dX6_figure_35
  have h := iteF w_1 h
  by_cases w_2 : px1 = 1
  · have h := iteT w_2 h
    refine lv_tableIn (off := 35) (tgt := 36) hx hb dX6_figure_1 (by rw [w_2]; decide) (by rw [w_2]; decide) (by rw [w_2]; decide) (by decide) ?_
    refine lv_aload_n hx hb dX6_figure_36 rfl (lv_at hl 0 rfl) ?_
    refine mm_get (C := RX6) (T := TX6) (N := 5) (ci := 6) hx hb hts inX6 hown hK hM 16 pn0 hpn0 rfl rfl 2 (by decide) k31 (fun _ h9 => h9) rfl dX6_figure_37 ?_
    have e9 : (V0 16 pn0 2) = res := Option.some.inj h
    subst e9
    exact W.iret (v := (V0 16 pn0 2)) hx hb hr (fun t9 ht9 hW9 => ⟨⟨_, (), rfl, rfl, xM_of hM hK hW hAs hS.1 ht9 hW9⟩, hS.F ht9⟩) hS.2.2 dX6_figure_40
  have h := iteF w_2 h
  by_cases w_3 : px1 = 2
  · have h := iteT w_3 h
    refine lv_tableIn (off := 40) (tgt := 41) hx hb dX6_figure_1 (by rw [w_3]; decide) (by rw [w_3]; decide) (by rw [w_3]; decide) (by decide) ?_
    refine lv_aload_n hx hb dX6_figure_41 rfl (lv_at hl 0 rfl) ?_
    refine mm_get (C := RX6) (T := TX6) (N := 5) (ci := 6) hx hb hts inX6 hown hK hM 16 pn0 hpn0 rfl rfl 1 (by decide) k23 (fun _ h9 => h9) rfl dX6_figure_42 ?_
    refine mm_get (C := RX2) (T := TX2) (N := 6) (ci := 2) hx hb hts inX2 hown hK hM 17 pn0 (xe16_g hpn0) rfl rfl 3 (by decide) k34 (fun _ h9 => h9) rfl dX6_figure_45 ?_
    refine lv_aload_n hx hb dX6_figure_48 rfl (lv_at hl 0 rfl) ?_
    refine mm_get (C := RX6) (T := TX6) (N := 5) (ci := 6) hx hb hts inX6 hown hK hM 16 pn0 hpn0 rfl rfl 1 (by decide) k23 (fun _ h9 => h9) rfl dX6_figure_49 ?_
    refine mm_get (C := RX2) (T := TX2) (N := 6) (ci := 2) hx hb hts inX2 hown hK hM 17 pn0 (xe16_g hpn0) rfl rfl 4 (by decide) k35 (fun _ h9 => h9) rfl dX6_figure_52 ?_
    refine lv_isub hx hb dX6_figure_55 ?_
    have e9 : ((V0 17 pn0 3) - (V0 17 pn0 4)) = res := Option.some.inj h
    subst e9
    exact W.iret (v := ((V0 17 pn0 3) - (V0 17 pn0 4))) hx hb hr (fun t9 ht9 hW9 => ⟨⟨_, (), rfl, rfl, xM_of hM hK hW hAs hS.1 ht9 hW9⟩, hS.F ht9⟩) hS.2.2 dX6_figure_56
  have h := iteF w_3 h
  refine lv_tableOut (tgt := 57) hx hb dX6_figure_1 (sw_out2 w_1 w_2 w_3) (by decide) ?_
  refine lv_iconst (v := (-1)) hx hb dX6_figure_57 (by decide) ?_
  have e9 : (-1 : Int32) = res := Option.some.inj h
  subst e9
  exact W.iret (v := (-1 : Int32)) hx hb hr (fun t9 ht9 hW9 => ⟨⟨_, (), rfl, rfl, xM_of hM hK hW hAs hS.1 ht9 hW9⟩, hS.F ht9⟩) hS.2.2 dX6_figure_58
