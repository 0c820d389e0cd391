theorem va_rf_cat (r : Option Nat) : (va_rf r).category = 1 := by cases r <;> rfl
/-! X0_append -/
def jnX0_append_46 (L : Nat → Nat → Nat)  (x1 : Int32) (x2 : Int32) (V : mM) (c : Nat × Nat) : Option (mM × (Nat × Nat)) := if bin (V 10 0 2) c.1 = true then (if bin ((mu V 0 0 ((V 10 0 2)).toNatClampNeg x1) 10 0 2) c.2 = true then (some ((mu (mu (mu V 0 0 ((V 10 0 2)).toNatClampNeg x1) 1 0 (((mu V 0 0 ((V 10 0 2)).toNatClampNeg x1) 10 0 2)).toNatClampNeg x2) 10 0 2 (((mu (mu V 0 0 ((V 10 0 2)).toNatClampNeg x1) 1 0 (((mu V 0 0 ((V 10 0 2)).toNatClampNeg x1) 10 0 2)).toNatClampNeg x2) 10 0 2) + (1 : Int32))), c)) else none) else none
def fX0_append (L : Nat → Nat → Nat) (px1 : Int32) (px2 : Int32) (V0 : mM) (c0 : Nat × Nat) : Option (mM × (Nat × Nat)) := if (V0 10 0 2) < (Int32.ofNat c0.1) then (jnX0_append_46 L px1 px2 V0 c0) else (if bgr0 ((2 : Int32) * (V0 10 0 2)) c0 = true then (if bgr1 ((2 : Int32) * ((mv V0 0 0 (va_cpy (V0 0 0) (fun _ => 0) 0 0 c0.1)) 10 0 2)) (g0 c0) = true then (jnX0_append_46 L px1 px2 (mv (mv V0 0 0 (va_cpy (V0 0 0) (fun _ => 0) 0 0 c0.1)) 1 0 (va_cpy ((mv V0 0 0 (va_cpy (V0 0 0) (fun _ => 0) 0 0 c0.1)) 1 0) (fun _ => 0) 0 0 (g0 c0).2)) (g1 (g0 c0))) else none) else none)
theorem mojnX0_append_46 {L : Nat → Nat → Nat} {res : mM × (Nat × Nat)} {x1 : Int32} {x2 : Int32} {V : mM} {c : Nat × Nat} (h : jnX0_append_46 L x1 x2 V c = some res) : c.1 + c.2 ≤ res.2.1 + res.2.2 := by
  unfold jnX0_append_46 at h
  obtain ⟨-, h⟩ := iteS h
  obtain ⟨-, h⟩ := iteS h
  have e9 := Option.some.inj h
  subst e9
  first | exact Nat.le_refl _ | assumption | (dsimp only at *; omega)
theorem moX0_append {L : Nat → Nat → Nat} {res : mM × (Nat × Nat)} {px1 : Int32} {px2 : Int32} {V0 : mM} {c0 : Nat × Nat} (h : fX0_append L px1 px2 V0 c0 = some res) : c0.1 + c0.2 ≤ res.2.1 + res.2.2 := by
  unfold fX0_append at h
  by_cases m_901 : (V0 10 0 2) < (Int32.ofNat c0.1)
  · have h := iteT m_901 h
    have := mojnX0_append_46 h
    first | assumption | omega
  · have h := iteF m_901 h
    obtain ⟨-, h⟩ := iteS h
    have : (g0 c0).1 = 2 * c0.1 := rfl
    have : (g0 c0).2 = c0.2 := rfl
    obtain ⟨-, h⟩ := iteS h
    have : (g1 (g0 c0)).1 = (g0 c0).1 := rfl
    have : (g1 (g0 c0)).2 = 2 * (g0 c0).2 := rfl
    have := mojnX0_append_46 h
    first | assumption | omega
set_option maxHeartbeats 4000000 in
set_option maxRecDepth 100000 in
theorem kX0_append (l : Launch) {dC : Nat → ClassId} {dI : Nat → Nat → Nat} {A : Nat → Prop} {ad : Nat → Nat → Nat} {cnt : Nat} {L : Nat → Nat → Nat} {cI cS cW : ClassId} {q : Nat × Nat} (hsh : xSh cnt L) (px1 : Int32) (px2 : Int32) (V0 : mM) (c0 : Nat × Nat) {res : mM × (Nat × Nat)} (h : fX0_append L px1 px2 V0 c0 = some res) : Met l yX0_append wsX0_append ({ frames := 3, cells := ((res.2.1 + res.2.2) / 64 - (c0.1 + c0.2) / 64), slots := (2 * (res.2.1 + res.2.2) - 2 * (c0.1 + c0.2)), locals := 72 } : Room) (va_Pc [.ref (ad 10 0), .int px1, .int px2] (fun U => xM dC dI A ad cnt L cI cS cW q V0 c0 U)) (va_Qv (fun (_ : Nat × Nat) => True) (fun u9 t9 => xM dC dI A ad cnt L cI cS cW u9 res.1 res.2 t9) A) ((res.2.1 + res.2.2) / 64 - (c0.1 + c0.2) / 64) (2 * (res.2.1 + res.2.2) - 2 * (c0.1 + c0.2)) A := by
  refine Met.ofW (cc := cX0_append) (maxL := 3) (ret := none) (by decide) rfl ?_
  intro p e s m args below meth cd s₁ B hml hv
  obtain ⟨rfl, hM, hK, hW, hAs⟩ := hv
  have hx := B.exec
  have hb := B.bytes
  have hr := B.returns
  have hts := atoms_spec (ws := wsX0_append) B.pre
  have hown : s.vm.findClass RX0 = some m.cls := findClass_of_methodNamed B.named
  have hlocks := B.notSynchronized
  have hS : va_S A s.heap s.heap [] := va_S.rf
  have hc1 : c0.1 + c0.2 ≤ c0.1 + c0.2 := Nat.le_refl _
  have k7 := hts (.fieldLink RX0 7 "StageDesk$DoneRow" "numbers" "[I") (by decide +kernel)
  have k16 := hts (.fieldLink RX0 16 "StageDesk$DoneRow" "size" "I") (by decide +kernel)
  have k13 := hts (.fieldLink RX0 13 "StageDesk$DoneRow" "values" "[I") (by decide +kernel)
  have inX0 : ∀ w ∈ u_ws RX0 TX0 3, w ∈ wsX0_append := by decide +kernel
  have hb46 : ∀ (x1 : Int32) (x2 : Int32) (V : mM) (c : Nat × Nat) (q : Nat × Nat), jnX0_append_46 L x1 x2 V c = some res → ∀ (H : Heap) (locs : List Loc), mP (dC, dI) vwCl A (xad ad q) (xce cI cS cW ad q L c) (xex cnt L) V H → xW cnt V → c0.1 + c0.2 ≤ c.1 + c.2 → va_S A s.heap H locs → ∀ (ls : Array Slot), lv_has ls 3 [(0, .ref (ad 10 0)), (1, .int x1), (2, .int x2)] → W p l e (headSpec wsX0_append ({ frames := 3, cells := ((res.2.1 + res.2.2) / 64 - (c0.1 + c0.2) / 64), slots := (2 * (res.2.1 + res.2.2) - 2 * (c0.1 + c0.2)), locals := 72 } : Room)).room s m ([.ref (ad 10 0), .int px1, .int px2] : List Value).toArray below meth cd H locs ((c.1 + c.2) / 64 - (c0.1 + c0.2) / 64) (2 * (c.1 + c.2) - 2 * (c0.1 + c0.2)) (MQ below (va_Qv (fun (_ : Nat × Nat) => True) (fun u9 t9 => xM dC dI A ad cnt L cI cS cW u9 res.1 res.2 t9) A) ([.ref (ad 10 0), .int px1, .int px2] : List Value).toArray s ((res.2.1 + res.2.2) / 64 - (c0.1 + c0.2) / 64) (2 * (res.2.1 + res.2.2) - 2 * (c0.1 + c0.2)) A) (F0 m 46 ls []) := by
    intro  x1 x2 V c q h H locs hM hW hc1 hS ls hl
    unfold jnX0_append_46 at h
    refine lv_aload_n hx hb dX0_append_46 rfl (lv_at hl 0 rfl) ?_
    refine mm_get (C := RX0) (T := TX0) (N := 3) (ci := 0) hx hb hts inX0 hown hK hM 10 0 xe10 rfl rfl 0 (by decide) k7 (fun _ h9 => h9) rfl dX0_append_47 ?_
    refine lv_aload_n hx hb dX0_append_50 rfl (lv_at hl 0 rfl) ?_
    refine mm_get (C := RX0) (T := TX0) (N := 3) (ci := 0) hx hb hts inX0 hown hK hM 10 0 xe10 rfl rfl 2 (by decide) k16 (fun _ h9 => h9) rfl dX0_append_51 ?_
    refine lv_iload_n hx hb dX0_append_54 rfl (lv_at hl 1 rfl) ?_
    obtain ⟨b_1, h⟩ := iteS h
    refine mm_iast hx hb hK hM hS 0 0 xe0 0 rfl rfl (bin_in b_1) rfl dX0_append_55 (fun H locs hM hS => ?_)
    have hW := xW_mu (k := 0) (n := 0) (t := ((V 10 0 2)).toNatClampNeg) (x := x1) hW (fun h9 => Bool.noConfusion (show false = true from h9))
    refine lv_aload_n hx hb dX0_append_56 rfl (lv_at hl 0 rfl) ?_
    refine mm_get (C := RX0) (T := TX0) (N := 3) (ci := 0) hx hb hts inX0 hown hK hM 10 0 xe10 rfl rfl 1 (by decide) k13 (fun _ h9 => h9) rfl dX0_append_57 ?_
    refine lv_aload_n hx hb dX0_append_60 rfl (lv_at hl 0 rfl) ?_
    refine mm_get (C := RX0) (T := TX0) (N := 3) (ci := 0) hx hb hts inX0 hown hK hM 10 0 xe10 rfl rfl 2 (by decide) k16 (fun _ h9 => h9) rfl dX0_append_61 ?_
    refine lv_iload_n hx hb dX0_append_64 rfl (lv_at hl 2 rfl) ?_
    obtain ⟨b_2, h⟩ := iteS h
    refine mm_iast hx hb hK hM hS 1 0 xe1 0 rfl rfl (bin_in b_2) rfl dX0_append_65 (fun H locs hM hS => ?_)
    have hW := xW_mu (k := 1) (n := 0) (t := (((mu V 0 0 ((V 10 0 2)).toNatClampNeg x1) 10 0 2)).toNatClampNeg) (x := x2) hW (fun h9 => Bool.noConfusion (show false = true from h9))
    refine lv_aload_n hx hb dX0_append_66 rfl (lv_at hl 0 rfl) ?_
    refine lv_dup hx hb dX0_append_67 rfl ?_
    refine mm_get (C := RX0) (T := TX0) (N := 3) (ci := 0) hx hb hts inX0 hown hK hM 10 0 xe10 rfl rfl 2 (by decide) k16 (fun _ h9 => h9) rfl dX0_append_68 ?_
    refine lv_iconst (v := 1) hx hb dX0_append_71 (by decide) ?_
    refine lv_iadd hx hb dX0_append_72 ?_
    refine mm_put (C := RX0) (T := TX0) (N := 3) (ci := 0) (ty := .int) hx hb hts inX0 tyX0 tyX0_ok nmX0 hown hK hM hS 10 0 xe10 rfl rfl 2 (by decide) k16 (fun _ h9 => h9) rfl (by decide +kernel) rfl rfl (Nat.le_of_ble_eq_true rfl) (((mu (mu V 0 0 ((V 10 0 2)).toNatClampNeg x1) 1 0 (((mu V 0 0 ((V 10 0 2)).toNatClampNeg x1) 10 0 2)).toNatClampNeg x2) 10 0 2) + (1 : Int32)) rfl dX0_append_73 (fun H locs hM hS => ?_)
    have hW := xW_mu (k := 10) (n := 0) (t := 2) (x := (((mu (mu V 0 0 ((V 10 0 2)).toNatClampNeg x1) 1 0 (((mu V 0 0 ((V 10 0 2)).toNatClampNeg x1) 10 0 2)).toNatClampNeg x2) 10 0 2) + (1 : Int32))) hW (fun h9 => Bool.noConfusion (show false = true from h9))
    have e9 : ((mu (mu (mu V 0 0 ((V 10 0 2)).toNatClampNeg x1) 1 0 (((mu V 0 0 ((V 10 0 2)).toNatClampNeg x1) 10 0 2)).toNatClampNeg x2) 10 0 2 (((mu (mu V 0 0 ((V 10 0 2)).toNatClampNeg x1) 1 0 (((mu V 0 0 ((V 10 0 2)).toNatClampNeg x1) 10 0 2)).toNatClampNeg x2) 10 0 2) + (1 : Int32))), c) = res := Option.some.inj h
    subst e9
    exact W.vret hx hb hr (fun t9 ht9 hW9 => ⟨⟨q, rfl, trivial, xM_of hM hK hW hAs hS.1 ht9 hW9⟩, hS.F ht9⟩) hS.2.2 dX0_append_76
  have hl := lv_entry ([.ref (ad 10 0), .int px1, .int px2]) (n := 3) (Nat.le_of_ble_eq_true rfl)
  rw [lg_entry_eq]
  generalize (lg_sl ([.ref (ad 10 0), .int px1, .int px2]) ++ List.replicate (3 - (lg_sl ([.ref (ad 10 0), .int px1, .int px2])).length) Slot.unset).toArray = ls at hl ⊢
  have hl : lv_has ls 3 [(0, .ref (ad 10 0)), (1, .int px1), (2, .int px2)] := hl
  unfold fX0_append at h
  refine W.widen (k := ((c0.1 + c0.2) / 64 - (c0.1 + c0.2) / 64)) (n := (2 * (c0.1 + c0.2) - 2 * (c0.1 + c0.2))) (by omega) (by omega) ?_
  refine lv_aload_n hx hb dX0_append_0 rfl (lv_at hl 0 rfl) ?_
  refine mm_get (C := RX0) (T := TX0) (N := 3) (ci := 0) hx hb hts inX0 hown hK hM 10 0 xe10 rfl rfl 2 (by decide) k16 (fun _ h9 => h9) rfl dX0_append_1 ?_
  refine lv_aload_n hx hb dX0_append_4 rfl (lv_at hl 0 rfl) ?_
  refine mm_get (C := RX0) (T := TX0) (N := 3) (ci := 0) hx hb hts inX0 hown hK hM 10 0 xe10 rfl rfl 0 (by decide) k7 (fun _ h9 => h9) rfl dX0_append_5 ?_
  refine mm_alen (v := (Int32.ofNat c0.1)) hx hb hK hM 0 0 xe0 0 rfl rfl rfl dX0_append_8 ?_
  refine lv_icmp_lt (tgt := 46) hx hb dX0_append_9 (by decide) (fun c_3 => ?_) (fun c_3 => ?_)
  · have h := iteT c_3 h
    exact hb46 _ _ _ _ _ h _ _  hM hW hc1 hS ls (lv_sub hl [0, 1, 2] rfl)
  · have h := iteF c_3 h
    refine lv_aload_n hx hb dX0_append_12 rfl (lv_at hl 0 rfl) ?_
    refine lv_aload_n hx hb dX0_append_13 rfl (lv_at hl 0 rfl) ?_
    refine mm_get (C := RX0) (T := TX0) (N := 3) (ci := 0) hx hb hts inX0 hown hK hM 10 0 xe10 rfl rfl 0 (by decide) k7 (fun _ h9 => h9) rfl dX0_append_14 ?_
    refine lv_iconst (v := 2) hx hb dX0_append_17 (by decide) ?_
    refine lv_aload_n hx hb dX0_append_18 rfl (lv_at hl 0 rfl) ?_
    refine mm_get (C := RX0) (T := TX0) (N := 3) (ci := 0) hx hb hts inX0 hown hK hM 10 0 xe10 rfl rfl 2 (by decide) k16 (fun _ h9 => h9) rfl dX0_append_19 ?_
    refine lv_imul hx hb dX0_append_22 ?_
    obtain ⟨b_4, h⟩ := iteS h
    have hz_5_1 : (g0 c0).1 = 2 * c0.1 := rfl
    have hz_5_2 : (g0 c0).2 = c0.2 := rfl
    have hz_5_3 := (bgr0_in b_4).2
    have hz_5 : (g0 c0).1 + (g0 c0).2 ≤ res.2.1 + res.2.2 := by
      obtain ⟨-, h⟩ := iteS h
      have : (g1 (g0 c0)).1 = (g0 c0).1 := rfl
      have : (g1 (g0 c0)).2 = 2 * (g0 c0).2 := rfl
      have := mojnX0_append_46 h
      first | assumption | omega
    refine xx_grow0 hx hb hml hl.1 hown hts inX0 k7 hK hM hS hAs b_4 ⟨Nat.le_of_ble_eq_true rfl, Nat.le_of_ble_eq_true rfl⟩ (Nat.le_of_ble_eq_true rfl) ⟨(show ((c0.1 + c0.2) / 64 - (c0.1 + c0.2) / 64) + 1 ≤ ((res.2.1 + res.2.2) / 64 - (c0.1 + c0.2) / 64) from by omega), (show (2 * (c0.1 + c0.2) - 2 * (c0.1 + c0.2)) + 2 * c0.1 ≤ (2 * (res.2.1 + res.2.2) - 2 * (c0.1 + c0.2)) from by omega)⟩ dX0_append_23 dX0_append_26 (fun q_6 H locs hM hS => ?_)
    have hW := xW_mv (k := 0) (n := 0) (v := (va_cpy (V0 0 0) (fun _ => 0) 0 0 c0.1)) hW (fun _ => rfl)
    refine W.widen (k := (((g0 c0).1 + (g0 c0).2) / 64 - (c0.1 + c0.2) / 64)) (n := (2 * ((g0 c0).1 + (g0 c0).2) - 2 * (c0.1 + c0.2))) (by omega) (by omega) ?_
    have hc1 : c0.1 + c0.2 ≤ (g0 c0).1 + (g0 c0).2 := by omega
    refine lv_aload_n hx hb dX0_append_29 rfl (lv_at hl 0 rfl) ?_
    refine lv_aload_n hx hb dX0_append_30 rfl (lv_at hl 0 rfl) ?_
    refine mm_get (C := RX0) (T := TX0) (N := 3) (ci := 0) hx hb hts inX0 hown hK hM 10 0 xe10 rfl rfl 1 (by decide) k13 (fun _ h9 => h9) rfl dX0_append_31 ?_
    refine lv_iconst (v := 2) hx hb dX0_append_34 (by decide) ?_
    refine lv_aload_n hx hb dX0_append_35 rfl (lv_at hl 0 rfl) ?_
    refine mm_get (C := RX0) (T := TX0) (N := 3) (ci := 0) hx hb hts inX0 hown hK hM 10 0 xe10 rfl rfl 2 (by decide) k16 (fun _ h9 => h9) rfl dX0_append_36 ?_
    refine lv_imul hx hb dX0_append_39 ?_
    obtain ⟨b_7, h⟩ := iteS h
    have hz_8_1 : (g1 (g0 c0)).1 = (g0 c0).1 := rfl
    have hz_8_2 : (g1 (g0 c0)).2 = 2 * (g0 c0).2 := rfl
    have hz_8_3 := (bgr1_in b_7).2
    have hz_8 : (g1 (g0 c0)).1 + (g1 (g0 c0)).2 ≤ res.2.1 + res.2.2 := by
      have := mojnX0_append_46 h
      first | assumption | omega
    refine xx_grow1 hx hb hml hl.1 hown hts inX0 k13 hK hM hS hAs b_7 ⟨Nat.le_of_ble_eq_true rfl, Nat.le_of_ble_eq_true rfl⟩ (Nat.le_of_ble_eq_true rfl) ⟨(show (((g0 c0).1 + (g0 c0).2) / 64 - (c0.1 + c0.2) / 64) + 1 ≤ ((res.2.1 + res.2.2) / 64 - (c0.1 + c0.2) / 64) from by omega), (show (2 * ((g0 c0).1 + (g0 c0).2) - 2 * (c0.1 + c0.2)) + 2 * (g0 c0).2 ≤ (2 * (res.2.1 + res.2.2) - 2 * (c0.1 + c0.2)) from by omega)⟩ dX0_append_40 dX0_append_43 (fun q_9 H locs hM hS => ?_)
    have hW := xW_mv (k := 1) (n := 0) (v := (va_cpy ((mv V0 0 0 (va_cpy (V0 0 0) (fun _ => 0) 0 0 c0.1)) 1 0) (fun _ => 0) 0 0 (g0 c0).2)) hW (fun _ => rfl)
    refine W.widen (k := (((g1 (g0 c0)).1 + (g1 (g0 c0)).2) / 64 - (c0.1 + c0.2) / 64)) (n := (2 * ((g1 (g0 c0)).1 + (g1 (g0 c0)).2) - 2 * (c0.1 + c0.2))) (by omega) (by omega) ?_
    have hc1 : c0.1 + c0.2 ≤ (g1 (g0 c0)).1 + (g1 (g0 c0)).2 := by omega
    exact hb46 _ _ _ _ _ h _ _  hM hW hc1 hS ls (lv_sub hl [0, 1, 2] rfl)
/-! X7_finishBatch -/
def jnX7_finishBatch_94 (L : Nat → Nat → Nat)  (n2 : Nat) (n3 : Nat) (V : mM) (c : Nat × Nat) : Option (mM × (Nat × Nat)) := (fX2_clear L n2 (mu (mu V 11 n3 3 (0 : Int32)) 16 n2 4 (0 : Int32)) c).bind fun u_1 => some (u_1, c)
def lpX7_finishBatch_39 (L : Nat → Nat → Nat)  : Nat → Nat → Nat → Nat → Int32 → mM → Nat × Nat → Option (mM × (Nat × Nat))
  | 0, _, _, _, _, _, _ => none
  | n9 + 1, n1, n2, n3, x4, V, c => if (V 11 n3 3) ≤ x4 then (jnX7_finishBatch_94 L n2 n3 V c) else (if bin x4 (L 11 n3) = true then ((fX5_append L n1 ((V 2 0 4) - (V 14 n3 (x4).toNatClampNeg)) V c).bind fun u_5 => if bin x4 (L 11 n3) = true then (if bin x4 (L 11 n3) = true then ((fX0_append L (u_5 12 n3 (x4).toNatClampNeg) (u_5 13 n3 (x4).toNatClampNeg) u_5 c).bind fun u_9 => lpX7_finishBatch_39 L n9 n1 n2 n3 (x4 + 1) u_9.1 u_9.2) else none) else none) else none)
def fX7_finishBatch (L : Nat → Nat → Nat) (pn1 : Nat) (pn2 : Nat) (V0 : mM) (c0 : Nat × Nat) : Option (mM × (Nat × Nat)) := if ((mu (mu V0 3 pn1 17 ((V0 3 pn1 17) + (1 : Int32))) 3 pn1 18 (((mu V0 3 pn1 17 ((V0 3 pn1 17) + (1 : Int32))) 3 pn1 18) + ((mu V0 3 pn1 17 ((V0 3 pn1 17) + (1 : Int32))) 11 pn2 3))) 3 pn1 0) = (4 : Int32) then (lpX7_finishBatch_39 L fu pn1 pn2 pn2 (0 : Int32) (mu (mu V0 3 pn1 17 ((V0 3 pn1 17) + (1 : Int32))) 3 pn1 18 (((mu V0 3 pn1 17 ((V0 3 pn1 17) + (1 : Int32))) 3 pn1 18) + ((mu V0 3 pn1 17 ((V0 3 pn1 17) + (1 : Int32))) 11 pn2 3))) c0) else (jnX7_finishBatch_94 L pn2 pn2 (mu (mu V0 3 pn1 17 ((V0 3 pn1 17) + (1 : Int32))) 3 pn1 18 (((mu V0 3 pn1 17 ((V0 3 pn1 17) + (1 : Int32))) 3 pn1 18) + ((mu V0 3 pn1 17 ((V0 3 pn1 17) + (1 : Int32))) 11 pn2 3))) c0)
theorem mojnX7_finishBatch_94 {L : Nat → Nat → Nat} {res : mM × (Nat × Nat)} {n2 : Nat} {n3 : Nat} {V : mM} {c : Nat × Nat} (h : jnX7_finishBatch_94 L n2 n3 V c = some res) : c.1 + c.2 ≤ res.2.1 + res.2.2 := by
  unfold jnX7_finishBatch_94 at h
  obtain ⟨u_1, hu_1, h⟩ := bindS h
  have e9 := Option.some.inj h
  subst e9
  first | exact Nat.le_refl _ | assumption | (dsimp only at *; omega)
theorem molpX7_finishBatch_39 {L : Nat → Nat → Nat} {res : mM × (Nat × Nat)} {n9 : Nat} : ∀ {n1 : Nat} {n2 : Nat} {n3 : Nat} {x4 : Int32} {V : mM} {c : Nat × Nat}, lpX7_finishBatch_39 L n9 n1 n2 n3 x4 V c = some res → c.1 + c.2 ≤ res.2.1 + res.2.2 := by
  induction n9 with
  | zero =>
    intro n1 n2 n3 x4 V c h
    rw [lpX7_finishBatch_39] at h
    cases h
  | succ n9 ih =>
    intro n1 n2 n3 x4 V c h
    rw [lpX7_finishBatch_39] at h
    by_cases m_901 : (V 11 n3 3) ≤ x4
    · have h := iteT m_901 h
      have := mojnX7_finishBatch_94 h
      first | assumption | omega
    · have h := iteF m_901 h
      obtain ⟨-, h⟩ := iteS h
      obtain ⟨u_5, hu_5, h⟩ := bindS h
      obtain ⟨-, h⟩ := iteS h
      obtain ⟨-, h⟩ := iteS h
      obtain ⟨u_9, hu_9, h⟩ := bindS h
      have := moX0_append hu_9
      have := ih h
      first | assumption | omega
theorem moX7_finishBatch {L : Nat → Nat → Nat} {res : mM × (Nat × Nat)} {pn1 : Nat} {pn2 : Nat} {V0 : mM} {c0 : Nat × Nat} (h : fX7_finishBatch L pn1 pn2 V0 c0 = some res) : c0.1 + c0.2 ≤ res.2.1 + res.2.2 := by
  unfold fX7_finishBatch at h
  by_cases m_901 : ((mu (mu V0 3 pn1 17 ((V0 3 pn1 17) + (1 : Int32))) 3 pn1 18 (((mu V0 3 pn1 17 ((V0 3 pn1 17) + (1 : Int32))) 3 pn1 18) + ((mu V0 3 pn1 17 ((V0 3 pn1 17) + (1 : Int32))) 11 pn2 3))) 3 pn1 0) = (4 : Int32)
  · have h := iteT m_901 h
    have := molpX7_finishBatch_39 h
    first | assumption | omega
  · have h := iteF m_901 h
    have := mojnX7_finishBatch_94 h
    first | assumption | omega
set_option maxHeartbeats 4000000 in
set_option maxRecDepth 100000 in
theorem kX7_finishBatch (l : Launch) {dC : Nat → ClassId} {dI : Nat → Nat → Nat} {A : Nat → Prop} {ad : Nat → Nat → Nat} {cnt : Nat} {L : Nat → Nat → Nat} {cI cS cW : ClassId} {q : Nat × Nat} (hsh : xSh cnt L) (pn1 : Nat) (pn2 : Nat) (V0 : mM) (c0 : Nat × Nat) {res : mM × (Nat × Nat)} (h : fX7_finishBatch L pn1 pn2 V0 c0 = some res) (hpn1 : xex cnt L 3 pn1) (hpn2 : xex cnt L 16 pn2) : Met l yX7_finishBatch wsX7_finishBatch ({ frames := 4, cells := ((res.2.1 + res.2.2) / 64 - (c0.1 + c0.2) / 64), slots := (2 * (res.2.1 + res.2.2) - 2 * (c0.1 + c0.2)), locals := 94 } : Room) (va_Pc [.ref (ad 2 0), .ref (ad 3 pn1), .ref (ad 16 pn2)] (fun U => xM dC dI A ad cnt L cI cS cW q V0 c0 U)) (va_Qv (fun (_ : Nat × Nat) => True) (fun u9 t9 => xM dC dI A ad cnt L cI cS cW u9 res.1 res.2 t9) A) ((res.2.1 + res.2.2) / 64 - (c0.1 + c0.2) / 64) (2 * (res.2.1 + res.2.2) - 2 * (c0.1 + c0.2)) A := by
  refine Met.ofW (cc := cX7_finishBatch) (maxL := 5) (ret := none) (by decide) rfl ?_
  intro p e s m args below meth cd s₁ B hml hv
  obtain ⟨rfl, hM, hK, hW, hAs⟩ := hv
  have hx := B.exec
  have hb := B.bytes
  have hr := B.returns
  have hts := atoms_spec (ws := wsX7_finishBatch) B.pre
  have hown : s.vm.findClass RX7 = some m.cls := findClass_of_methodNamed B.named
  have hlocks := B.notSynchronized
  have hS : va_S A s.heap s.heap [] := va_S.rf
  have hc1 : c0.1 + c0.2 ≤ c0.1 + c0.2 := Nat.le_refl _
  have k122 := hts (.fieldLink RX7 122 "StageDesk$EventRow" "size" "I") (by decide +kernel)
  have k190 := hts (.fieldLink RX7 190 "StageDesk$Worker" "giving" "Z") (by decide +kernel)
  have k196 := hts (.fieldLink RX7 196 "StageDesk$Worker" "gifts" "LStageDesk$Gifts;") (by decide +kernel)
  have k232 := hts (.fieldLink RX7 232 "StageDesk$Stage" "times" "LStageDesk$Times;") (by decide +kernel)
  have k80 := hts (.fieldLink RX7 80 "StageDesk" "now" "I") (by decide +kernel)
  have k236 := hts (.fieldLink RX7 236 "StageDesk$EventRow" "births" "[I") (by decide +kernel)
  have k25 := hts (.fieldLink RX7 25 "StageDesk" "doneRow" "LStageDesk$DoneRow;") (by decide +kernel)
  have k125 := hts (.fieldLink RX7 125 "StageDesk$EventRow" "numbers" "[I") (by decide +kernel)
  have k242 := hts (.fieldLink RX7 242 "StageDesk$EventRow" "values" "[I") (by decide +kernel)
  have k174 := hts (.fieldLink RX7 174 "StageDesk$Worker" "batch" "LStageDesk$EventRow;") (by decide +kernel)
  have k223 := hts (.fieldLink RX7 223 "StageDesk$Stage" "batchesHandled" "I") (by decide +kernel)
  have k226 := hts (.fieldLink RX7 226 "StageDesk$Stage" "eventsHandled" "I") (by decide +kernel)
  have k229 := hts (.fieldLink RX7 229 "StageDesk$Stage" "sort" "I") (by decide +kernel)
  have inX1 : ∀ w ∈ u_ws RX1 TX1 4, w ∈ wsX7_finishBatch := by decide +kernel
  have inX6 : ∀ w ∈ u_ws RX6 TX6 5, w ∈ wsX7_finishBatch := by decide +kernel
  have inX3 : ∀ w ∈ u_ws RX3 TX3 19, w ∈ wsX7_finishBatch := by decide +kernel
  have inX7 : ∀ w ∈ u_ws RX7 TX7 7, w ∈ wsX7_finishBatch := by decide +kernel
  have hb94 : ∀ (n2 : Nat) (n3 : Nat) (V : mM) (c : Nat × Nat) (q : Nat × Nat), jnX7_finishBatch_94 L n2 n3 V c = some res → ∀ (H : Heap) (locs : List Loc), xex cnt L 16 n2 → xex cnt L 11 n3 → mP (dC, dI) vwCl A (xad ad q) (xce cI cS cW ad q L c) (xex cnt L) V H → xW cnt V → c0.1 + c0.2 ≤ c.1 + c.2 → va_S A s.heap H locs → ∀ (ls : Array Slot), lv_has ls 5 [(2, .ref (ad 16 n2)), (3, .ref (ad 11 n3))] → W p l e (headSpec wsX7_finishBatch ({ frames := 4, cells := ((res.2.1 + res.2.2) / 64 - (c0.1 + c0.2) / 64), slots := (2 * (res.2.1 + res.2.2) - 2 * (c0.1 + c0.2)), locals := 94 } : Room)).room s m ([.ref (ad 2 0), .ref (ad 3 pn1), .ref (ad 16 pn2)] : List Value).toArray below meth cd H locs ((c.1 + c.2) / 64 - (c0.1 + c0.2) / 64) (2 * (c.1 + c.2) - 2 * (c0.1 + c0.2)) (MQ below (va_Qv (fun (_ : Nat × Nat) => True) (fun u9 t9 => xM dC dI A ad cnt L cI cS cW u9 res.1 res.2 t9) A) ([.ref (ad 2 0), .ref (ad 3 pn1), .ref (ad 16 pn2)] : List Value).toArray s ((res.2.1 + res.2.2) / 64 - (c0.1 + c0.2) / 64) (2 * (res.2.1 + res.2.2) - 2 * (c0.1 + c0.2)) A) (F0 m 94 ls []) := by
    intro  n2 n3 V c q h H locs hn2 hn3 hM hW hc1 hS ls hl
    unfold jnX7_finishBatch_94 at h
    refine lv_aload_n hx hb dX7_finishBatch_94 rfl (lv_at hl 1 rfl) ?_
    refine lv_iconst (v := 0) hx hb dX7_finishBatch_95 (by decide) ?_
    refine mm_put (C := RX1) (T := TX1) (N := 4) (ci := 1) (ty := .int) hx hb hts inX1 tyX1 tyX1_ok nmX1 hown hK hM hS 11 n3 hn3 rfl rfl 3 (by decide) k122 (fun _ h9 => h9) rfl (by decide +kernel) rfl rfl (Nat.le_of_ble_eq_true rfl) (0 : Int32) rfl dX7_finishBatch_96 (fun H locs hM hS => ?_)
    have hW := xW_mu (k := 11) (n := n3) (t := 3) (x := (0 : Int32)) hW (fun h9 => Bool.noConfusion (show false = true from h9))
    refine lv_aload_n hx hb dX7_finishBatch_99 rfl (lv_at hl 0 rfl) ?_
    refine lv_iconst (v := 0) hx hb dX7_finishBatch_100 (by decide) ?_
    refine mm_put (C := RX6) (T := TX6) (N := 5) (ci := 6) (ty := .boolean) hx hb hts inX6 tyX6 tyX6_ok nmX6 hown hK hM hS 16 n2 hn2 rfl rfl 4 (by decide) k190 (fun _ h9 => h9) rfl (by decide +kernel) rfl rfl (Nat.le_of_ble_eq_true rfl) (0 : Int32) rfl dX7_finishBatch_101 (fun H locs hM hS => ?_)
    have hW := xW_mu (k := 16) (n := n2) (t := 4) (x := (0 : Int32)) hW (fun h9 => Bool.noConfusion (show false = true from h9))
    refine lv_aload_n hx hb dX7_finishBatch_104 rfl (lv_at hl 0 rfl) ?_
    refine mm_get (C := RX6) (T := TX6) (N := 5) (ci := 6) hx hb hts inX6 hown hK hM 16 n2 hn2 rfl rfl 1 (by decide) k196 (fun _ h9 => h9) rfl dX7_finishBatch_105 ?_
    obtain ⟨u_1, hu_1, h⟩ := bindS h
    have hz_2 : c.1 + c.2 ≤ res.2.1 + res.2.2 := by
      have e9 := Option.some.inj h
      subst e9
      first | exact Nat.le_refl _ | assumption | (dsimp only at *; omega)
    refine va_callv (va_runV (As := []) (rest := []) ⟨hx, hb, hml, hown, hts⟩ (kX2_clear l hsh n2 (mu (mu V 11 n3 3 (0 : Int32)) 16 n2 4 (0 : Int32)) c hu_1 (xe16_g hn2)) (cwV 0 hts gX7_finishBatch_X2_clear rfl rfl rfl (by decide +kernel) ⟨Nat.le_of_ble_eq_true rfl, Nat.le_of_ble_eq_true rfl⟩) ⟨fun a U g9 mk w9 => ⟨w9.1, xM_calling w9.2⟩, mP_recv (q := (RX2, TX2, 6)) hK hM (xe16_g hn2) rfl rfl, fun U hU hWm => ⟨rfl, xM_of hM hK hW hAs hS.1 hU hWm⟩⟩ rfl rfl hl.1 rfl (lv_room (Nat.le_of_ble_eq_true rfl)) dX7_finishBatch_108 ⟨(show ((c.1 + c.2) / 64 - (c0.1 + c0.2) / 64) + 0 ≤ ((res.2.1 + res.2.2) / 64 - (c0.1 + c0.2) / 64) from by omega), (show (2 * (c.1 + c.2) - 2 * (c0.1 + c0.2)) + 0 ≤ (2 * (res.2.1 + res.2.2) - 2 * (c0.1 + c0.2)) from by omega)⟩) hS (fun _ _ h9 => h9) (fun _ h9 => h9) (fun u9 t9 H locs ht9 _ hw9 hB9 _ _ hS => ?_)
    obtain ⟨hM, -, hW, -⟩ := hB9
    rw [ht9] at hM
    have e9 : (u_1, c) = res := Option.some.inj h
    subst e9
    exact W.vret hx hb hr (fun t9 ht9 hW9 => ⟨⟨q, rfl, trivial, xM_of hM hK hW hAs hS.1 ht9 hW9⟩, hS.F ht9⟩) hS.2.2 dX7_finishBatch_111
  have hb39 : ∀ (n9 : Nat), ∀ (n1 : Nat) (n2 : Nat) (n3 : Nat) (x4 : Int32) (V : mM) (c : Nat × Nat) (q : Nat × Nat), lpX7_finishBatch_39 L n9 n1 n2 n3 x4 V c = some res → ∀ (H : Heap) (locs : List Loc), xex cnt L 3 n1 → xex cnt L 16 n2 → xex cnt L 11 n3 → mP (dC, dI) vwCl A (xad ad q) (xce cI cS cW ad q L c) (xex cnt L) V H → xW cnt V → c0.1 + c0.2 ≤ c.1 + c.2 → va_S A s.heap H locs → ∀ (ls : Array Slot), lv_has ls 5 [(0, .ref (ad 2 0)), (1, .ref (ad 3 n1)), (2, .ref (ad 16 n2)), (3, .ref (ad 11 n3)), (4, .int x4)] → W p l e (headSpec wsX7_finishBatch ({ frames := 4, cells := ((res.2.1 + res.2.2) / 64 - (c0.1 + c0.2) / 64), slots := (2 * (res.2.1 + res.2.2) - 2 * (c0.1 + c0.2)), locals := 94 } : Room)).room s m ([.ref (ad 2 0), .ref (ad 3 pn1), .ref (ad 16 pn2)] : List Value).toArray below meth cd H locs ((c.1 + c.2) / 64 - (c0.1 + c0.2) / 64) (2 * (c.1 + c.2) - 2 * (c0.1 + c0.2)) (MQ below (va_Qv (fun (_ : Nat × Nat) => True) (fun u9 t9 => xM dC dI A ad cnt L cI cS cW u9 res.1 res.2 t9) A) ([.ref (ad 2 0), .ref (ad 3 pn1), .ref (ad 16 pn2)] : List Value).toArray s ((res.2.1 + res.2.2) / 64 - (c0.1 + c0.2) / 64) (2 * (res.2.1 + res.2.2) - 2 * (c0.1 + c0.2)) A) (F0 m 39 ls []) := by
    intro  n9
    induction n9 with
    | zero =>
      intro n1 n2 n3 x4 V c q h H locs hn1 hn2 hn3 hM hW hc1 hS ls hl
      rw [lpX7_finishBatch_39] at h
      cases h
    | succ n9 ih =>
      intro n1 n2 n3 x4 V c q h H locs hn1 hn2 hn3 hM hW hc1 hS ls hl
      rw [lpX7_finishBatch_39] at h
      have hmoi : ∀ (n1 : Nat) (n2 : Nat) (n3 : Nat) (x4 : Int32) (V : mM) (c : Nat × Nat), lpX7_finishBatch_39 L n9 n1 n2 n3 x4 V c = some res → c.1 + c.2 ≤ res.2.1 + res.2.2 := fun _ _ _ _ _ _ h => molpX7_finishBatch_39 h
      refine lv_iload hx hb dX7_finishBatch_39 (lv_at hl 4 rfl) ?_
      refine lv_aload_n hx hb dX7_finishBatch_41 rfl (lv_at hl 3 rfl) ?_
      refine mm_get (C := RX1) (T := TX1) (N := 4) (ci := 1) hx hb hts inX1 hown hK hM 11 n3 hn3 rfl rfl 3 (by decide) k122 (fun _ h9 => h9) rfl dX7_finishBatch_42 ?_
      refine lv_icmp_ge (tgt := 94) hx hb dX7_finishBatch_45 (by decide) (fun c_3 => ?_) (fun c_3 => ?_)
      · have h := iteT c_3 h
        exact hb94 _ _ _ _ _ h _ _ hn2 hn3 hM hW hc1 hS ls (lv_sub hl [2, 3] rfl)
      · have h := iteF c_3 h
        refine lv_aload_n hx hb dX7_finishBatch_48 rfl (lv_at hl 1 rfl) ?_
        refine mm_get (C := RX3) (T := TX3) (N := 19) (ci := 3) hx hb hts inX3 hown hK hM 3 n1 hn1 rfl rfl 5 (by decide) k232 (fun _ h9 => h9) rfl dX7_finishBatch_49 ?_
        refine lv_aload_n hx hb dX7_finishBatch_52 rfl (lv_at hl 0 rfl) ?_
        refine mm_get (C := RX7) (T := TX7) (N := 7) (ci := 7) hx hb hts inX7 hown hK hM 2 0 xe2 rfl rfl 4 (by decide) k80 (fun _ h9 => h9) rfl dX7_finishBatch_53 ?_
        refine lv_aload_n hx hb dX7_finishBatch_56 rfl (lv_at hl 3 rfl) ?_
        refine mm_get (C := RX1) (T := TX1) (N := 4) (ci := 1) hx hb hts inX1 hown hK hM 11 n3 hn3 rfl rfl 2 (by decide) k236 (fun _ h9 => h9) rfl dX7_finishBatch_57 ?_
        refine lv_iload hx hb dX7_finishBatch_60 (lv_at hl 4 rfl) ?_
        obtain ⟨b_4, h⟩ := iteS h
        refine mm_iald hx hb hK hM 14 n3 (xe11_b hn3) 0 rfl rfl (bin_in b_4) dX7_finishBatch_62 ?_
        refine lv_isub hx hb dX7_finishBatch_63 ?_
        obtain ⟨u_5, hu_5, h⟩ := bindS h
        have hz_6 : c.1 + c.2 ≤ res.2.1 + res.2.2 := by
          obtain ⟨-, h⟩ := iteS h
          obtain ⟨-, h⟩ := iteS h
          obtain ⟨u_8, hu_8, h⟩ := bindS h
          have := moX0_append hu_8
          have := hmoi _ _ _ _ _ _ h
          first | assumption | omega
        refine va_callv (va_runV (As := [.int ((V 2 0 4) - (V 14 n3 (x4).toNatClampNeg))]) (rest := []) ⟨hx, hb, hml, hown, hts⟩ (kX5_append l hsh n1 ((V 2 0 4) - (V 14 n3 (x4).toNatClampNeg)) V c hu_5 (xe3_t hn1)) (cwV 1 hts gX7_finishBatch_X5_append rfl rfl rfl (by decide +kernel) ⟨Nat.le_of_ble_eq_true rfl, Nat.le_of_ble_eq_true rfl⟩) ⟨fun a U g9 mk w9 => ⟨w9.1, xM_calling w9.2⟩, mP_recv (q := (RX5, TX5, 3)) hK hM (xe3_t hn1) rfl rfl, fun U hU hWm => ⟨rfl, xM_of hM hK hW hAs hS.1 hU hWm⟩⟩ rfl rfl hl.1 rfl (lv_room (Nat.le_of_ble_eq_true rfl)) dX7_finishBatch_64 ⟨(show ((c.1 + c.2) / 64 - (c0.1 + c0.2) / 64) + 0 ≤ ((res.2.1 + res.2.2) / 64 - (c0.1 + c0.2) / 64) from by omega), (show (2 * (c.1 + c.2) - 2 * (c0.1 + c0.2)) + 0 ≤ (2 * (res.2.1 + res.2.2) - 2 * (c0.1 + c0.2)) from by omega)⟩) hS (fun _ _ h9 => h9) (fun _ h9 => h9) (fun u9 t9 H locs ht9 _ hw9 hB9 _ _ hS => ?_)
        obtain ⟨hM, -, hW, -⟩ := hB9
        rw [ht9] at hM
        refine lv_aload_n hx hb dX7_finishBatch_67 rfl (lv_at hl 0 rfl) ?_
        refine mm_get (C := RX7) (T := TX7) (N := 7) (ci := 7) hx hb hts inX7 hown hK hM 2 0 xe2 rfl rfl 2 (by decide) k25 (fun _ h9 => h9) rfl dX7_finishBatch_68 ?_
        refine lv_aload_n hx hb dX7_finishBatch_71 rfl (lv_at hl 3 rfl) ?_
        refine mm_get (C := RX1) (T := TX1) (N := 4) (ci := 1) hx hb hts inX1 hown hK hM 11 n3 hn3 rfl rfl 0 (by decide) k125 (fun _ h9 => h9) rfl dX7_finishBatch_72 ?_
        refine lv_iload hx hb dX7_finishBatch_75 (lv_at hl 4 rfl) ?_
        obtain ⟨b_7, h⟩ := iteS h
        refine mm_iald hx hb hK hM 12 n3 (xe11_n hn3) 0 rfl rfl (bin_in b_7) dX7_finishBatch_77 ?_
        refine lv_aload_n hx hb dX7_finishBatch_78 rfl (lv_at hl 3 rfl) ?_
        refine mm_get (C := RX1) (T := TX1) (N := 4) (ci := 1) hx hb hts inX1 hown hK hM 11 n3 hn3 rfl rfl 1 (by decide) k242 (fun _ h9 => h9) rfl dX7_finishBatch_79 ?_
        refine lv_iload hx hb dX7_finishBatch_82 (lv_at hl 4 rfl) ?_
        obtain ⟨b_8, h⟩ := iteS h
        refine mm_iald hx hb hK hM 13 n3 (xe11_v hn3) 0 rfl rfl (bin_in b_8) dX7_finishBatch_84 ?_
        obtain ⟨u_9, hu_9, h⟩ := bindS h
        have hz_10 : u_9.2.1 + u_9.2.2 ≤ res.2.1 + res.2.2 := by
          have := hmoi _ _ _ _ _ _ h
          first | assumption | omega
        have hz_10_m := moX0_append hu_9
        refine va_callv (va_runV (As := [.int (u_5 12 n3 (x4).toNatClampNeg), .int (u_5 13 n3 (x4).toNatClampNeg)]) (rest := []) ⟨hx, hb, hml, hown, hts⟩ (kX0_append l hsh (u_5 12 n3 (x4).toNatClampNeg) (u_5 13 n3 (x4).toNatClampNeg) u_5 c hu_9) (cwV 2 hts gX7_finishBatch_X0_append rfl rfl rfl (by decide +kernel) ⟨Nat.le_of_ble_eq_true rfl, Nat.le_of_ble_eq_true rfl⟩) ⟨fun a U g9 mk w9 => ⟨w9.1, xM_calling w9.2⟩, mP_recv (q := (RX0, TX0, 3)) hK hM xe10 rfl rfl, fun U hU hWm => ⟨rfl, xM_of hM hK hW hAs hS.1 hU hWm⟩⟩ rfl rfl hl.1 rfl (lv_room (Nat.le_of_ble_eq_true rfl)) dX7_finishBatch_85 ⟨(show ((c.1 + c.2) / 64 - (c0.1 + c0.2) / 64) + ((u_9.2.1 + u_9.2.2) / 64 - (c.1 + c.2) / 64) ≤ ((res.2.1 + res.2.2) / 64 - (c0.1 + c0.2) / 64) from by omega), (show (2 * (c.1 + c.2) - 2 * (c0.1 + c0.2)) + (2 * (u_9.2.1 + u_9.2.2) - 2 * (c.1 + c.2)) ≤ (2 * (res.2.1 + res.2.2) - 2 * (c0.1 + c0.2)) from by omega)⟩) hS (fun _ _ h9 => h9) (fun _ h9 => h9) (fun q_11 t9 H locs ht9 _ hw9 hB9 _ _ hS => ?_)
        obtain ⟨hM, -, hW, -⟩ := hB9
        rw [ht9] at hM
        refine W.widen (k := ((u_9.2.1 + u_9.2.2) / 64 - (c0.1 + c0.2) / 64)) (n := (2 * (u_9.2.1 + u_9.2.2) - 2 * (c0.1 + c0.2))) (by omega) (by omega) ?_
        have hc1 : c0.1 + c0.2 ≤ u_9.2.1 + u_9.2.2 := by omega
        refine lv_iinc (v := (x4 + 1)) (lv' := [(4, .int (x4 + 1)), (0, .ref (ad 2 0)), (1, .ref (ad 3 n1)), (2, .ref (ad 16 n2)), (3, .ref (ad 11 n3))]) hx hb dX7_finishBatch_88 hl (k := 4) rfl rfl (by decide) rfl (fun ls hl => ?_)
        refine lv_goto (tgt := 39) hx hb dX7_finishBatch_91 (by decide) ?_
        exact ih _ _ _ _ _ _ _ h _ _ hn1 hn2 hn3 hM hW hc1 hS ls (lv_sub hl [1, 2, 3, 4, 0] rfl)
  have hl := lv_entry ([.ref (ad 2 0), .ref (ad 3 pn1), .ref (ad 16 pn2)]) (n := 5) (Nat.le_of_ble_eq_true rfl)
  rw [lg_entry_eq]
  generalize (lg_sl ([.ref (ad 2 0), .ref (ad 3 pn1), .ref (ad 16 pn2)]) ++ List.replicate (5 - (lg_sl ([.ref (ad 2 0), .ref (ad 3 pn1), .ref (ad 16 pn2)])).length) Slot.unset).toArray = ls at hl ⊢
  have hl : lv_has ls 5 [(0, .ref (ad 2 0)), (1, .ref (ad 3 pn1)), (2, .ref (ad 16 pn2))] := hl
  unfold fX7_finishBatch at h
  refine W.widen (k := ((c0.1 + c0.2) / 64 - (c0.1 + c0.2) / 64)) (n := (2 * (c0.1 + c0.2) - 2 * (c0.1 + c0.2))) (by omega) (by omega) ?_
  refine lv_aload_n hx hb dX7_finishBatch_0 rfl (lv_at hl 2 rfl) ?_
  refine mm_get (C := RX6) (T := TX6) (N := 5) (ci := 6) hx hb hts inX6 hown hK hM 16 pn2 hpn2 rfl rfl 0 (by decide) k174 (fun _ h9 => h9) rfl dX7_finishBatch_1 ?_
  refine lv_astore_n (lv' := [(3, .ref (ad 11 pn2)), (0, .ref (ad 2 0)), (1, .ref (ad 3 pn1)), (2, .ref (ad 16 pn2))]) hx hb dX7_finishBatch_4 rfl hl (by decide) rfl (fun ls hl => ?_)
  refine lv_aload_n hx hb dX7_finishBatch_5 rfl (lv_at hl 2 rfl) ?_
  refine lv_dup hx hb dX7_finishBatch_6 rfl ?_
  refine mm_get (C := RX3) (T := TX3) (N := 19) (ci := 3) hx hb hts inX3 hown hK hM 3 pn1 hpn1 rfl rfl 17 (by decide) k223 (fun _ h9 => h9) rfl dX7_finishBatch_7 ?_
  refine lv_iconst (v := 1) hx hb dX7_finishBatch_10 (by decide) ?_
  refine lv_iadd hx hb dX7_finishBatch_11 ?_
  refine mm_put (C := RX3) (T := TX3) (N := 19) (ci := 3) (ty := .int) hx hb hts inX3 tyX3 tyX3_ok nmX3 hown hK hM hS 3 pn1 hpn1 rfl rfl 17 (by decide) k223 (fun _ h9 => h9) rfl (by decide +kernel) rfl rfl (Nat.le_of_ble_eq_true rfl) ((V0 3 pn1 17) + (1 : Int32)) rfl dX7_finishBatch_12 (fun H locs hM hS => ?_)
  have hW := xW_mu (k := 3) (n := pn1) (t := 17) (x := ((V0 3 pn1 17) + (1 : Int32))) hW (fun h9 => Bool.noConfusion (show false = true from h9))
  refine lv_aload_n hx hb dX7_finishBatch_15 rfl (lv_at hl 2 rfl) ?_
  refine lv_dup hx hb dX7_finishBatch_16 rfl ?_
  refine mm_get (C := RX3) (T := TX3) (N := 19) (ci := 3) hx hb hts inX3 hown hK hM 3 pn1 hpn1 rfl rfl 18 (by decide) k226 (fun _ h9 => h9) rfl dX7_finishBatch_17 ?_
  refine lv_aload_n hx hb dX7_finishBatch_20 rfl (lv_at hl 0 rfl) ?_
  refine mm_get (C := RX1) (T := TX1) (N := 4) (ci := 1) hx hb hts inX1 hown hK hM 11 pn2 (xe16_b hpn2) rfl rfl 3 (by decide) k122 (fun _ h9 => h9) rfl dX7_finishBatch_21 ?_
  refine lv_iadd hx hb dX7_finishBatch_24 ?_
  refine mm_put (C := RX3) (T := TX3) (N := 19) (ci := 3) (ty := .int) hx hb hts inX3 tyX3 tyX3_ok nmX3 hown hK hM hS 3 pn1 hpn1 rfl rfl 18 (by decide) k226 (fun _ h9 => h9) rfl (by decide +kernel) rfl rfl (Nat.le_of_ble_eq_true rfl) (((mu V0 3 pn1 17 ((V0 3 pn1 17) + (1 : Int32))) 3 pn1 18) + ((mu V0 3 pn1 17 ((V0 3 pn1 17) + (1 : Int32))) 11 pn2 3)) rfl dX7_finishBatch_25 (fun H locs hM hS => ?_)
  have hW := xW_mu (k := 3) (n := pn1) (t := 18) (x := (((mu V0 3 pn1 17 ((V0 3 pn1 17) + (1 : Int32))) 3 pn1 18) + ((mu V0 3 pn1 17 ((V0 3 pn1 17) + (1 : Int32))) 11 pn2 3))) hW (fun h9 => Bool.noConfusion (show false = true from h9))
  refine lv_aload_n hx hb dX7_finishBatch_28 rfl (lv_at hl 2 rfl) ?_
  refine mm_get (C := RX3) (T := TX3) (N := 19) (ci := 3) hx hb hts inX3 hown hK hM 3 pn1 hpn1 rfl rfl 0 (by decide) k229 (fun _ h9 => h9) rfl dX7_finishBatch_29 ?_
  refine lv_iconst (v := 4) hx hb dX7_finishBatch_32 (by decide) ?_
  refine lv_icmp_ne (tgt := 94) hx hb dX7_finishBatch_33 (by decide) (fun c_12 => ?_) (fun c_12 => ?_)
  · have h := iteF c_12 h
    exact hb94 _ _ _ _ _ h _ _ hpn2 (xe16_b hpn2) hM hW hc1 hS ls (lv_sub hl [3, 0] rfl)
  · have h := iteT c_12 h
    refine lv_iconst (v := 0) hx hb dX7_finishBatch_36 (by decide) ?_
    refine lv_istore (lv' := [(4, .int (0 : Int32)), (3, .ref (ad 11 pn2)), (0, .ref (ad 2 0)), (1, .ref (ad 3 pn1)), (2, .ref (ad 16 pn2))]) hx hb dX7_finishBatch_37 hl (by decide) rfl (fun ls hl => ?_)
    exact hb39 fu _ _ _ _ _ _ _ h _ _ hpn1 hpn2 (xe16_b hpn2) hM hW hc1 hS ls (lv_sub hl [2, 3, 4, 1, 0] rfl)
/-! X7_workOnBatch -/
def jnX7_workOnBatch_42 (L : Nat → Nat → Nat)  (n1 : Nat) (n2 : Nat) (V : mM) (c : Nat × Nat) : Option (mM × (Nat × Nat)) := (fX7_offerGifts L n2 V c).bind fun u_1 => if u_1.1 = 0 then (some (u_1.2, c)) else ((fX7_finishBatch L n1 n2 u_1.2 c).bind fun u_4 => some (u_4.1, u_4.2))
def jnX7_workOnBatch_17 (L : Nat → Nat → Nat)  (n1 : Nat) (n2 : Nat) (V : mM) (c : Nat × Nat) : Option (mM × (Nat × Nat)) := if (V 16 n2 2) ≤ 0 then (if (V 16 n2 4) = 0 then ((fX3_collectGifts L n1 n2 V c).bind fun u_9 => jnX7_workOnBatch_42 L n1 n2 (mu u_9 16 n2 4 (1 : Int32)) c) else (jnX7_workOnBatch_42 L n1 n2 V c)) else (some (V, c))
def fX7_workOnBatch (L : Nat → Nat → Nat) (pn1 : Nat) (pn2 : Nat) (V0 : mM) (c0 : Nat × Nat) : Option (mM × (Nat × Nat)) := if (V0 16 pn2 2) ≤ 0 then (jnX7_workOnBatch_17 L pn1 pn2 V0 c0) else (jnX7_workOnBatch_17 L pn1 pn2 (mu V0 16 pn2 2 ((V0 16 pn2 2) - (1 : Int32))) c0)
theorem mojnX7_workOnBatch_42 {L : Nat → Nat → Nat} {res : mM × (Nat × Nat)} {n1 : Nat} {n2 : Nat} {V : mM} {c : Nat × Nat} (h : jnX7_workOnBatch_42 L n1 n2 V c = some res) : c.1 + c.2 ≤ res.2.1 + res.2.2 := by
  unfold jnX7_workOnBatch_42 at h
  obtain ⟨u_1, hu_1, h⟩ := bindS h
  by_cases m_901 : u_1.1 = 0
  · have h := iteT m_901 h
    have e9 := Option.some.inj h
    subst e9
    first | exact Nat.le_refl _ | assumption | (dsimp only at *; omega)
  · have h := iteF m_901 h
    obtain ⟨u_4, hu_4, h⟩ := bindS h
    have := moX7_finishBatch hu_4
    have e9 := Option.some.inj h
    subst e9
    first | exact Nat.le_refl _ | assumption | (dsimp only at *; omega)
theorem mojnX7_workOnBatch_17 {L : Nat → Nat → Nat} {res : mM × (Nat × Nat)} {n1 : Nat} {n2 : Nat} {V : mM} {c : Nat × Nat} (h : jnX7_workOnBatch_17 L n1 n2 V c = some res) : c.1 + c.2 ≤ res.2.1 + res.2.2 := by
  unfold jnX7_workOnBatch_17 at h
  by_cases m_901 : (V 16 n2 2) ≤ 0
  · have h := iteT m_901 h
    by_cases m_902 : (V 16 n2 4) = 0
    · have h := iteT m_902 h
      obtain ⟨u_9, hu_9, h⟩ := bindS h
      have := mojnX7_workOnBatch_42 h
      first | assumption | omega
    · have h := iteF m_902 h
      have := mojnX7_workOnBatch_42 h
      first | assumption | omega
  · have h := iteF m_901 h
    have e9 := Option.some.inj h
    subst e9
    first | exact Nat.le_refl _ | assumption | (dsimp only at *; omega)
theorem moX7_workOnBatch {L : Nat → Nat → Nat} {res : mM × (Nat × Nat)} {pn1 : Nat} {pn2 : Nat} {V0 : mM} {c0 : Nat × Nat} (h : fX7_workOnBatch L pn1 pn2 V0 c0 = some res) : c0.1 + c0.2 ≤ res.2.1 + res.2.2 := by
  unfold fX7_workOnBatch at h
  by_cases m_901 : (V0 16 pn2 2) ≤ 0
  · have h := iteT m_901 h
    have := mojnX7_workOnBatch_17 h
    first | assumption | omega
  · have h := iteF m_901 h
    have := mojnX7_workOnBatch_17 h
    first | assumption | omega
set_option maxHeartbeats 4000000 in
set_option maxRecDepth 100000 in
theorem kX7_workOnBatch (l : Launch) {dC : Nat → ClassId} {dI : Nat → Nat → Nat} {A : Nat → Prop} {ad : Nat → Nat → Nat} {cnt : Nat} {L : Nat → Nat → Nat} {cI cS cW : ClassId} {q : Nat × Nat} (hsh : xSh cnt L) (pn1 : Nat) (pn2 : Nat) (V0 : mM) (c0 : Nat × Nat) {res : mM × (Nat × Nat)} (h : fX7_workOnBatch L pn1 pn2 V0 c0 = some res) (hpn1 : xex cnt L 3 pn1) (hpn2 : xex cnt L 16 pn2) : Met l yX7_workOnBatch wsX7_workOnBatch ({ frames := 5, cells := ((res.2.1 + res.2.2) / 64 - (c0.1 + c0.2) / 64), slots := (2 * (res.2.1 + res.2.2) - 2 * (c0.1 + c0.2)), locals := 118 } : Room) (va_Pc [.ref (ad 2 0), .ref (ad 3 pn1), .ref (ad 16 pn2)] (fun U => xM dC dI A ad cnt L cI cS cW q V0 c0 U)) (va_Qv (fun (_ : Nat × Nat) => True) (fun u9 t9 => xM dC dI A ad cnt L cI cS cW u9 res.1 res.2 t9) A) ((res.2.1 + res.2.2) / 64 - (c0.1 + c0.2) / 64) (2 * (res.2.1 + res.2.2) - 2 * (c0.1 + c0.2)) A := by
  refine Met.ofW (cc := cX7_workOnBatch) (maxL := 3) (ret := none) (by decide) rfl ?_
  intro p e s m args below meth cd s₁ B hml hv
  obtain ⟨rfl, hM, hK, hW, hAs⟩ := hv
  have hx := B.exec
  have hb := B.bytes
  have hr := B.returns
  have hts := atoms_spec (ws := wsX7_workOnBatch) B.pre
  have hown : s.vm.findClass RX7 = some m.cls := findClass_of_methodNamed B.named
  have hlocks := B.notSynchronized
  have hS : va_S A s.heap s.heap [] := va_S.rf
  have hc1 : c0.1 + c0.2 ≤ c0.1 + c0.2 := Nat.le_refl _
  have k196 := hts (.fieldLink RX7 196 "StageDesk$Worker" "gifts" "LStageDesk$Gifts;") (by decide +kernel)
  have k187 := hts (.fieldLink RX7 187 "StageDesk$Worker" "rest" "I") (by decide +kernel)
  have k190 := hts (.fieldLink RX7 190 "StageDesk$Worker" "giving" "Z") (by decide +kernel)
  have inX6 : ∀ w ∈ u_ws RX6 TX6 5, w ∈ wsX7_workOnBatch := by decide +kernel
  have hb42 : ∀ (n1 : Nat) (n2 : Nat) (V : mM) (c : Nat × Nat) (q : Nat × Nat), jnX7_workOnBatch_42 L n1 n2 V c = some res → ∀ (H : Heap) (locs : List Loc), xex cnt L 3 n1 → xex cnt L 16 n2 → mP (dC, dI) vwCl A (xad ad q) (xce cI cS cW ad q L c) (xex cnt L) V H → xW cnt V → c0.1 + c0.2 ≤ c.1 + c.2 → va_S A s.heap H locs → ∀ (ls : Array Slot), lv_has ls 3 [(0, .ref (ad 2 0)), (1, .ref (ad 3 n1)), (2, .ref (ad 16 n2))] → W p l e (headSpec wsX7_workOnBatch ({ frames := 5, cells := ((res.2.1 + res.2.2) / 64 - (c0.1 + c0.2) / 64), slots := (2 * (res.2.1 + res.2.2) - 2 * (c0.1 + c0.2)), locals := 118 } : Room)).room s m ([.ref (ad 2 0), .ref (ad 3 pn1), .ref (ad 16 pn2)] : List Value).toArray below meth cd H locs ((c.1 + c.2) / 64 - (c0.1 + c0.2) / 64) (2 * (c.1 + c.2) - 2 * (c0.1 + c0.2)) (MQ below (va_Qv (fun (_ : Nat × Nat) => True) (fun u9 t9 => xM dC dI A ad cnt L cI cS cW u9 res.1 res.2 t9) A) ([.ref (ad 2 0), .ref (ad 3 pn1), .ref (ad 16 pn2)] : List Value).toArray s ((res.2.1 + res.2.2) / 64 - (c0.1 + c0.2) / 64) (2 * (res.2.1 + res.2.2) - 2 * (c0.1 + c0.2)) A) (F0 m 42 ls []) := by
    intro  n1 n2 V c q h H locs hn1 hn2 hM hW hc1 hS ls hl
    unfold jnX7_workOnBatch_42 at h
    refine lv_aload_n hx hb dX7_workOnBatch_42 rfl (lv_at hl 0 rfl) ?_
    refine lv_aload_n hx hb dX7_workOnBatch_43 rfl (lv_at hl 2 rfl) ?_
    refine mm_get (C := RX6) (T := TX6) (N := 5) (ci := 6) hx hb hts inX6 hown hK hM 16 n2 hn2 rfl rfl 1 (by decide) k196 (fun _ h9 => h9) rfl dX7_workOnBatch_44 ?_
    obtain ⟨u_1, hu_1, h⟩ := bindS h
    have hz_2 : c.1 + c.2 ≤ res.2.1 + res.2.2 := by
      by_cases m_503 : u_1.1 = 0
      · have h := iteT m_503 h
        have e9 := Option.some.inj h
        subst e9
        first | exact Nat.le_refl _ | assumption | (dsimp only at *; omega)
      · have h := iteF m_503 h
        obtain ⟨u_3, hu_3, h⟩ := bindS h
        have := moX7_finishBatch hu_3
        have e9 := Option.some.inj h
        subst e9
        first | exact Nat.le_refl _ | assumption | (dsimp only at *; omega)
    refine va_calli (va_runV (As := [.ref (ad 17 n2)]) (rest := []) ⟨hx, hb, hml, hown, hts⟩ (kX7_offerGifts l hsh n2 V c hu_1 (xe16_g hn2)) (cwV 1 hts gX7_workOnBatch_X7_offerGifts rfl rfl rfl (by decide +kernel) ⟨Nat.le_of_ble_eq_true rfl, Nat.le_of_ble_eq_true rfl⟩) ⟨fun a U g9 mk w9 => ⟨w9.1, xM_calling w9.2⟩, mP_recv (q := (RX7, TX7, 7)) hK hM xe2 rfl rfl, fun U hU hWm => ⟨rfl, xM_of hM hK hW hAs hS.1 hU hWm⟩⟩ rfl rfl hl.1 rfl (lv_room (Nat.le_of_ble_eq_true rfl)) dX7_workOnBatch_47 ⟨(show ((c.1 + c.2) / 64 - (c0.1 + c0.2) / 64) + 0 ≤ ((res.2.1 + res.2.2) / 64 - (c0.1 + c0.2) / 64) from by omega), (show (2 * (c.1 + c.2) - 2 * (c0.1 + c0.2)) + 0 ≤ (2 * (res.2.1 + res.2.2) - 2 * (c0.1 + c0.2)) from by omega)⟩) hS (fun _ _ h9 => h9) (fun _ h9 => h9) (fun r9 u9 t9 H locs ht9 _ hw9 hB9 _ _ hS => ?_)
    rw [show r9 = u_1.1 from hw9]
    obtain ⟨hM, -, hW, -⟩ := hB9
    rw [ht9] at hM
    refine lv_if_eq (tgt := 59) hx hb dX7_workOnBatch_50 (by decide) (fun c_3 => ?_) (fun c_3 => ?_)
    · have h := iteT c_3 h
      have e9 : (u_1.2, c) = res := Option.some.inj h
      subst e9
      exact W.vret hx hb hr (fun t9 ht9 hW9 => ⟨⟨q, rfl, trivial, xM_of hM hK hW hAs hS.1 ht9 hW9⟩, hS.F ht9⟩) hS.2.2 dX7_workOnBatch_59
    · have h := iteF c_3 h
      refine lv_aload_n hx hb dX7_workOnBatch_53 rfl (lv_at hl 0 rfl) ?_
      refine lv_aload_n hx hb dX7_workOnBatch_54 rfl (lv_at hl 1 rfl) ?_
      refine lv_aload_n hx hb dX7_workOnBatch_55 rfl (lv_at hl 2 rfl) ?_
      obtain ⟨u_4, hu_4, h⟩ := bindS h
      have hz_5 : u_4.2.1 + u_4.2.2 ≤ res.2.1 + res.2.2 := by
        have e9 := Option.some.inj h
        subst e9
        first | exact Nat.le_refl _ | assumption | (dsimp only at *; omega)
      have hz_5_m := moX7_finishBatch hu_4
      refine va_callv (va_runV (As := [.ref (ad 3 n1), .ref (ad 16 n2)]) (rest := []) ⟨hx, hb, hml, hown, hts⟩ (kX7_finishBatch l hsh n1 n2 u_1.2 c hu_4 hn1 hn2) (cwV 2 hts gX7_workOnBatch_X7_finishBatch rfl rfl rfl (by decide +kernel) ⟨Nat.le_of_ble_eq_true rfl, Nat.le_of_ble_eq_true rfl⟩) ⟨fun a U g9 mk w9 => ⟨w9.1, xM_calling w9.2⟩, mP_recv (q := (RX7, TX7, 7)) hK hM xe2 rfl rfl, fun U hU hWm => ⟨rfl, xM_of hM hK hW hAs hS.1 hU hWm⟩⟩ rfl rfl hl.1 rfl (lv_room (Nat.le_of_ble_eq_true rfl)) dX7_workOnBatch_56 ⟨(show ((c.1 + c.2) / 64 - (c0.1 + c0.2) / 64) + ((u_4.2.1 + u_4.2.2) / 64 - (c.1 + c.2) / 64) ≤ ((res.2.1 + res.2.2) / 64 - (c0.1 + c0.2) / 64) from by omega), (show (2 * (c.1 + c.2) - 2 * (c0.1 + c0.2)) + (2 * (u_4.2.1 + u_4.2.2) - 2 * (c.1 + c.2)) ≤ (2 * (res.2.1 + res.2.2) - 2 * (c0.1 + c0.2)) from by omega)⟩) hS (fun _ _ h9 => h9) (fun _ h9 => h9) (fun q_6 t9 H locs ht9 _ hw9 hB9 _ _ hS => ?_)
      obtain ⟨hM, -, hW, -⟩ := hB9
      rw [ht9] at hM
      refine W.widen (k := ((u_4.2.1 + u_4.2.2) / 64 - (c0.1 + c0.2) / 64)) (n := (2 * (u_4.2.1 + u_4.2.2) - 2 * (c0.1 + c0.2))) (by omega) (by omega) ?_
      have hc1 : c0.1 + c0.2 ≤ u_4.2.1 + u_4.2.2 := by omega
      have e9 : (u_4.1, u_4.2) = res := Option.some.inj h
      subst e9
      exact W.vret hx hb hr (fun t9 ht9 hW9 => ⟨⟨q_6, rfl, trivial, xM_of hM hK hW hAs hS.1 ht9 hW9⟩, hS.F ht9⟩) hS.2.2 dX7_workOnBatch_59
  have hb17 : ∀ (n1 : Nat) (n2 : Nat) (V : mM) (c : Nat × Nat) (q : Nat × Nat), jnX7_workOnBatch_17 L n1 n2 V c = some res → ∀ (H : Heap) (locs : List Loc), xex cnt L 3 n1 → xex cnt L 16 n2 → mP (dC, dI) vwCl A (xad ad q) (xce cI cS cW ad q L c) (xex cnt L) V H → xW cnt V → c0.1 + c0.2 ≤ c.1 + c.2 → va_S A s.heap H locs → ∀ (ls : Array Slot), lv_has ls 3 [(0, .ref (ad 2 0)), (1, .ref (ad 3 n1)), (2, .ref (ad 16 n2))] → W p l e (headSpec wsX7_workOnBatch ({ frames := 5, cells := ((res.2.1 + res.2.2) / 64 - (c0.1 + c0.2) / 64), slots := (2 * (res.2.1 + res.2.2) - 2 * (c0.1 + c0.2)), locals := 118 } : Room)).room s m ([.ref (ad 2 0), .ref (ad 3 pn1), .ref (ad 16 pn2)] : List Value).toArray below meth cd H locs ((c.1 + c.2) / 64 - (c0.1 + c0.2) / 64) (2 * (c.1 + c.2) - 2 * (c0.1 + c0.2)) (MQ below (va_Qv (fun (_ : Nat × Nat) => True) (fun u9 t9 => xM dC dI A ad cnt L cI cS cW u9 res.1 res.2 t9) A) ([.ref (ad 2 0), .ref (ad 3 pn1), .ref (ad 16 pn2)] : List Value).toArray s ((res.2.1 + res.2.2) / 64 - (c0.1 + c0.2) / 64) (2 * (res.2.1 + res.2.2) - 2 * (c0.1 + c0.2)) A) (F0 m 17 ls []) := by
    intro  n1 n2 V c q h H locs hn1 hn2 hM hW hc1 hS ls hl
    unfold jnX7_workOnBatch_17 at h
    refine lv_aload_n hx hb dX7_workOnBatch_17 rfl (lv_at hl 2 rfl) ?_
    refine mm_get (C := RX6) (T := TX6) (N := 5) (ci := 6) hx hb hts inX6 hown hK hM 16 n2 hn2 rfl rfl 2 (by decide) k187 (fun _ h9 => h9) rfl dX7_workOnBatch_18 ?_
    refine lv_if_le (tgt := 25) hx hb dX7_workOnBatch_21 (by decide) (fun c_7 => ?_) (fun c_7 => ?_)
    · have h := iteT c_7 h
      refine lv_aload_n hx hb dX7_workOnBatch_25 rfl (lv_at hl 2 rfl) ?_
      refine mm_get (C := RX6) (T := TX6) (N := 5) (ci := 6) hx hb hts inX6 hown hK hM 16 n2 hn2 rfl rfl 4 (by decide) k190 (fun _ h9 => h9) rfl dX7_workOnBatch_26 ?_
      refine lv_if_ne (tgt := 42) hx hb dX7_workOnBatch_29 (by decide) (fun c_8 => ?_) (fun c_8 => ?_)
      · have h := iteF c_8 h
        exact hb42 _ _ _ _ _ h _ _ hn1 hn2 hM hW hc1 hS ls (lv_sub hl [0, 1, 2] rfl)
      · have h := iteT c_8 h
        refine lv_aload_n hx hb dX7_workOnBatch_32 rfl (lv_at hl 1 rfl) ?_
        refine lv_aload_n hx hb dX7_workOnBatch_33 rfl (lv_at hl 2 rfl) ?_
        obtain ⟨u_9, hu_9, h⟩ := bindS h
        have hz_10 : c.1 + c.2 ≤ res.2.1 + res.2.2 := by
          have := mojnX7_workOnBatch_42 h
          first | assumption | omega
        refine va_callv (va_runV (As := [.ref (ad 16 n2)]) (rest := []) ⟨hx, hb, hml, hown, hts⟩ (kX3_collectGifts l hsh n1 n2 V c hu_9 hn1 hn2) (cwV 1 hts gX7_workOnBatch_X3_collectGifts rfl rfl rfl (by decide +kernel) ⟨Nat.le_of_ble_eq_true rfl, Nat.le_of_ble_eq_true rfl⟩) ⟨fun a U g9 mk w9 => ⟨w9.1, xM_calling w9.2⟩, mP_recv (q := (RX3, TX3, 19)) hK hM hn1 rfl rfl, fun U hU hWm => ⟨rfl, xM_of hM hK hW hAs hS.1 hU hWm⟩⟩ rfl rfl hl.1 rfl (lv_room (Nat.le_of_ble_eq_true rfl)) dX7_workOnBatch_34 ⟨(show ((c.1 + c.2) / 64 - (c0.1 + c0.2) / 64) + 0 ≤ ((res.2.1 + res.2.2) / 64 - (c0.1 + c0.2) / 64) from by omega), (show (2 * (c.1 + c.2) - 2 * (c0.1 + c0.2)) + 0 ≤ (2 * (res.2.1 + res.2.2) - 2 * (c0.1 + c0.2)) from by omega)⟩) hS (fun _ _ h9 => h9) (fun _ h9 => h9) (fun u9 t9 H locs ht9 _ hw9 hB9 _ _ hS => ?_)
        obtain ⟨hM, -, hW, -⟩ := hB9
        rw [ht9] at hM
        refine lv_aload_n hx hb dX7_workOnBatch_37 rfl (lv_at hl 2 rfl) ?_
        refine lv_iconst (v := 1) hx hb dX7_workOnBatch_38 (by decide) ?_
        refine mm_put (C := RX6) (T := TX6) (N := 5) (ci := 6) (ty := .boolean) hx hb hts inX6 tyX6 tyX6_ok nmX6 hown hK hM hS 16 n2 hn2 rfl rfl 4 (by decide) k190 (fun _ h9 => h9) rfl (by decide +kernel) rfl rfl (Nat.le_of_ble_eq_true rfl) (1 : Int32) rfl dX7_workOnBatch_39 (fun H locs hM hS => ?_)
        have hW := xW_mu (k := 16) (n := n2) (t := 4) (x := (1 : Int32)) hW (fun h9 => Bool.noConfusion (show false = true from h9))
        exact hb42 _ _ _ _ _ h _ _ hn1 hn2 hM hW hc1 hS ls (lv_sub hl [0, 1, 2] rfl)
    · have h := iteF c_7 h
      have e9 : (V, c) = res := Option.some.inj h
      subst e9
      exact W.vret hx hb hr (fun t9 ht9 hW9 => ⟨⟨q, rfl, trivial, xM_of hM hK hW hAs hS.1 ht9 hW9⟩, hS.F ht9⟩) hS.2.2 dX7_workOnBatch_24
  have hl := lv_entry ([.ref (ad 2 0), .ref (ad 3 pn1), .ref (ad 16 pn2)]) (n := 3) (Nat.le_of_ble_eq_true rfl)
  rw [lg_entry_eq]
  generalize (lg_sl ([.ref (ad 2 0), .ref (ad 3 pn1), .ref (ad 16 pn2)]) ++ List.replicate (3 - (lg_sl ([.ref (ad 2 0), .ref (ad 3 pn1), .ref (ad 16 pn2)])).length) Slot.unset).toArray = ls at hl ⊢
  have hl : lv_has ls 3 [(0, .ref (ad 2 0)), (1, .ref (ad 3 pn1)), (2, .ref (ad 16 pn2))] := hl
  unfold fX7_workOnBatch at h
  refine W.widen (k := ((c0.1 + c0.2) / 64 - (c0.1 + c0.2) / 64)) (n := (2 * (c0.1 + c0.2) - 2 * (c0.1 + c0.2))) (by omega) (by omega) ?_
  refine lv_aload_n hx hb dX7_workOnBatch_0 rfl (lv_at hl 2 rfl) ?_
  refine mm_get (C := RX6) (T := TX6) (N := 5) (ci := 6) hx hb hts inX6 hown hK hM 16 pn2 hpn2 rfl rfl 2 (by decide) k187 (fun _ h9 => h9) rfl dX7_workOnBatch_1 ?_
  refine lv_if_le (tgt := 17) hx hb dX7_workOnBatch_4 (by decide) (fun c_11 => ?_) (fun c_11 => ?_)
  · have h := iteT c_11 h
    exact hb17 _ _ _ _ _ h _ _ hpn1 hpn2 hM hW hc1 hS ls (lv_sub hl [0, 1, 2] rfl)
  · have h := iteF c_11 h
    refine lv_aload_n hx hb dX7_workOnBatch_7 rfl (lv_at hl 2 rfl) ?_
    refine lv_dup hx hb dX7_workOnBatch_8 rfl ?_
    refine mm_get (C := RX6) (T := TX6) (N := 5) (ci := 6) hx hb hts inX6 hown hK hM 16 pn2 hpn2 rfl rfl 2 (by decide) k187 (fun _ h9 => h9) rfl dX7_workOnBatch_9 ?_
    refine lv_iconst (v := 1) hx hb dX7_workOnBatch_12 (by decide) ?_
    refine lv_isub hx hb dX7_workOnBatch_13 ?_
    refine mm_put (C := RX6) (T := TX6) (N := 5) (ci := 6) (ty := .int) hx hb hts inX6 tyX6 tyX6_ok nmX6 hown hK hM hS 16 pn2 hpn2 rfl rfl 2 (by decide) k187 (fun _ h9 => h9) rfl (by decide +kernel) rfl rfl (Nat.le_of_ble_eq_true rfl) ((V0 16 pn2 2) - (1 : Int32)) rfl dX7_workOnBatch_14 (fun H locs hM hS => ?_)
    have hW := xW_mu (k := 16) (n := pn2) (t := 2) (x := ((V0 16 pn2 2) - (1 : Int32))) hW (fun h9 => Bool.noConfusion (show false = true from h9))
    exact hb17 _ _ _ _ _ h _ _ hpn1 hpn2 hM hW hc1 hS ls (lv_sub hl [0, 1, 2] rfl)
/-! X7_letWork -/
def jnX7_letWork_31 (L : Nat → Nat → Nat)  (n2 : Nat) (V : mM) (c : Nat × Nat) : Option (mM × (Nat × Nat)) := if (V 11 n2 3) = 0 then (some ((mu V 16 n2 3 ((V 16 n2 3) + (1 : Int32))), c)) else (some ((mu V 16 n2 3 (0 : Int32)), c))
def jnX7_letWork_16 (L : Nat → Nat → Nat)  (n1 : Nat) (n2 : Nat) (V : mM) (c : Nat × Nat) : Option (mM × (Nat × Nat)) := if (V 11 n2 3) = 0 then ((fX3_startBatch L n1 n2 V c).bind fun u_3 => jnX7_letWork_31 L n2 u_3 c) else (jnX7_letWork_31 L n2 V c)
def fX7_letWork (L : Nat → Nat → Nat) (pn1 : Nat) (pn2 : Nat) (V0 : mM) (c0 : Nat × Nat) : Option (mM × (Nat × Nat)) := if (V0 11 pn2 3) ≤ 0 then (jnX7_letWork_16 L pn1 pn2 V0 c0) else ((fX7_workOnBatch L pn1 pn2 V0 c0).bind fun u_6 => jnX7_letWork_16 L pn1 pn2 u_6.1 u_6.2)
theorem mojnX7_letWork_31 {L : Nat → Nat → Nat} {res : mM × (Nat × Nat)} {n2 : Nat} {V : mM} {c : Nat × Nat} (h : jnX7_letWork_31 L n2 V c = some res) : c.1 + c.2 ≤ res.2.1 + res.2.2 := by
  unfold jnX7_letWork_31 at h
  by_cases m_901 : (V 11 n2 3) = 0
  · have h := iteT m_901 h
    have e9 := Option.some.inj h
    subst e9
    first | exact Nat.le_refl _ | assumption | (dsimp only at *; omega)
  · have h := iteF m_901 h
    have e9 := Option.some.inj h
    subst e9
    first | exact Nat.le_refl _ | assumption | (dsimp only at *; omega)
theorem mojnX7_letWork_16 {L : Nat → Nat → Nat} {res : mM × (Nat × Nat)} {n1 : Nat} {n2 : Nat} {V : mM} {c : Nat × Nat} (h : jnX7_letWork_16 L n1 n2 V c = some res) : c.1 + c.2 ≤ res.2.1 + res.2.2 := by
  unfold jnX7_letWork_16 at h
  by_cases m_901 : (V 11 n2 3) = 0
  · have h := iteT m_901 h
    obtain ⟨u_3, hu_3, h⟩ := bindS h
    have := mojnX7_letWork_31 h
    first | assumption | omega
  · have h := iteF m_901 h
    have := mojnX7_letWork_31 h
    first | assumption | omega
theorem moX7_letWork {L : Nat → Nat → Nat} {res : mM × (Nat × Nat)} {pn1 : Nat} {pn2 : Nat} {V0 : mM} {c0 : Nat × Nat} (h : fX7_letWork L pn1 pn2 V0 c0 = some res) : c0.1 + c0.2 ≤ res.2.1 + res.2.2 := by
  unfold fX7_letWork at h
  by_cases m_901 : (V0 11 pn2 3) ≤ 0
  · have h := iteT m_901 h
    have := mojnX7_letWork_16 h
    first | assumption | omega
  · have h := iteF m_901 h
    obtain ⟨u_6, hu_6, h⟩ := bindS h
    have := moX7_workOnBatch hu_6
    have := mojnX7_letWork_16 h
    first | assumption | omega
set_option maxHeartbeats 4000000 in
set_option maxRecDepth 100000 in
theorem kX7_letWork (l : Launch) {dC : Nat → ClassId} {dI : Nat → Nat → Nat} {A : Nat → Prop} {ad : Nat → Nat → Nat} {cnt : Nat} {L : Nat → Nat → Nat} {cI cS cW : ClassId} {q : Nat × Nat} (hsh : xSh cnt L) (pn1 : Nat) (pn2 : Nat) (V0 : mM) (c0 : Nat × Nat) {res : mM × (Nat × Nat)} (h : fX7_letWork L pn1 pn2 V0 c0 = some res) (hpn1 : xex cnt L 3 pn1) (hpn2 : xex cnt L 16 pn2) : Met l yX7_letWork wsX7_letWork ({ frames := 6, cells := ((res.2.1 + res.2.2) / 64 - (c0.1 + c0.2) / 64), slots := (2 * (res.2.1 + res.2.2) - 2 * (c0.1 + c0.2)), locals := 140 } : Room) (va_Pc [.ref (ad 2 0), .ref (ad 3 pn1), .ref (ad 16 pn2)] (fun U => xM dC dI A ad cnt L cI cS cW q V0 c0 U)) (va_Qv (fun (_ : Nat × Nat) => True) (fun u9 t9 => xM dC dI A ad cnt L cI cS cW u9 res.1 res.2 t9) A) ((res.2.1 + res.2.2) / 64 - (c0.1 + c0.2) / 64) (2 * (res.2.1 + res.2.2) - 2 * (c0.1 + c0.2)) A := by
  refine Met.ofW (cc := cX7_letWork) (maxL := 3) (ret := none) (by decide) rfl ?_
  intro p e s m args below meth cd s₁ B hml hv
  obtain ⟨rfl, hM, hK, hW, hAs⟩ := hv
  have hx := B.exec
  have hb := B.bytes
  have hr := B.returns
  have hts := atoms_spec (ws := wsX7_letWork) B.pre
  have hown : s.vm.findClass RX7 = some m.cls := findClass_of_methodNamed B.named
  have hlocks := B.notSynchronized
  have hS : va_S A s.heap s.heap [] := va_S.rf
  have hc1 : c0.1 + c0.2 ≤ c0.1 + c0.2 := Nat.le_refl _
  have k174 := hts (.fieldLink RX7 174 "StageDesk$Worker" "batch" "LStageDesk$EventRow;") (by decide +kernel)
  have k122 := hts (.fieldLink RX7 122 "StageDesk$EventRow" "size" "I") (by decide +kernel)
  have k184 := hts (.fieldLink RX7 184 "StageDesk$Worker" "idleTicks" "I") (by decide +kernel)
  have inX6 : ∀ w ∈ u_ws RX6 TX6 5, w ∈ wsX7_letWork := by decide +kernel
  have inX1 : ∀ w ∈ u_ws RX1 TX1 4, w ∈ wsX7_letWork := by decide +kernel
  have hb31 : ∀ (n2 : Nat) (V : mM) (c : Nat × Nat) (q : Nat × Nat), jnX7_letWork_31 L n2 V c = some res → ∀ (H : Heap) (locs : List Loc), xex cnt L 16 n2 → mP (dC, dI) vwCl A (xad ad q) (xce cI cS cW ad q L c) (xex cnt L) V H → xW cnt V → c0.1 + c0.2 ≤ c.1 + c.2 → va_S A s.heap H locs → ∀ (ls : Array Slot), lv_has ls 3 [(2, .ref (ad 16 n2))] → W p l e (headSpec wsX7_letWork ({ frames := 6, cells := ((res.2.1 + res.2.2) / 64 - (c0.1 + c0.2) / 64), slots := (2 * (res.2.1 + res.2.2) - 2 * (c0.1 + c0.2)), locals := 140 } : Room)).room s m ([.ref (ad 2 0), .ref (ad 3 pn1), .ref (ad 16 pn2)] : List Value).toArray below meth cd H locs ((c.1 + c.2) / 64 - (c0.1 + c0.2) / 64) (2 * (c.1 + c.2) - 2 * (c0.1 + c0.2)) (MQ below (va_Qv (fun (_ : Nat × Nat) => True) (fun u9 t9 => xM dC dI A ad cnt L cI cS cW u9 res.1 res.2 t9) A) ([.ref (ad 2 0), .ref (ad 3 pn1), .ref (ad 16 pn2)] : List Value).toArray s ((res.2.1 + res.2.2) / 64 - (c0.1 + c0.2) / 64) (2 * (res.2.1 + res.2.2) - 2 * (c0.1 + c0.2)) A) (F0 m 31 ls []) := by
    intro  n2 V c q h H locs hn2 hM hW hc1 hS ls hl
    unfold jnX7_letWork_31 at h
    refine lv_aload_n hx hb dX7_letWork_31 rfl (lv_at hl 0 rfl) ?_
    refine lv_aload_n hx hb dX7_letWork_32 rfl (lv_at hl 0 rfl) ?_
    refine mm_get (C := RX6) (T := TX6) (N := 5) (ci := 6) hx hb hts inX6 hown hK hM 16 n2 hn2 rfl rfl 0 (by decide) k174 (fun _ h9 => h9) rfl dX7_letWork_33 ?_
    refine mm_get (C := RX1) (T := TX1) (N := 4) (ci := 1) hx hb hts inX1 hown hK hM 11 n2 (xe16_b hn2) rfl rfl 3 (by decide) k122 (fun _ h9 => h9) rfl dX7_letWork_36 ?_
    refine lv_if_ne (tgt := 51) hx hb dX7_letWork_39 (by decide) (fun c_1 => ?_) (fun c_1 => ?_)
    · have h := iteF c_1 h
      refine lv_iconst (v := 0) hx hb dX7_letWork_51 (by decide) ?_
      refine mm_put (C := RX6) (T := TX6) (N := 5) (ci := 6) (ty := .int) hx hb hts inX6 tyX6 tyX6_ok nmX6 hown hK hM hS 16 n2 hn2 rfl rfl 3 (by decide) k184 (fun _ h9 => h9) rfl (by decide +kernel) rfl rfl (Nat.le_of_ble_eq_true rfl) (0 : Int32) rfl dX7_letWork_52 (fun H locs hM hS => ?_)
      have hW := xW_mu (k := 16) (n := n2) (t := 3) (x := (0 : Int32)) hW (fun h9 => Bool.noConfusion (show false = true from h9))
      have e9 : ((mu V 16 n2 3 (0 : Int32)), c) = res := Option.some.inj h
      subst e9
      exact W.vret hx hb hr (fun t9 ht9 hW9 => ⟨⟨q, rfl, trivial, xM_of hM hK hW hAs hS.1 ht9 hW9⟩, hS.F ht9⟩) hS.2.2 dX7_letWork_55
    · have h := iteT c_1 h
      refine lv_aload_n hx hb dX7_letWork_42 rfl (lv_at hl 0 rfl) ?_
      refine mm_get (C := RX6) (T := TX6) (N := 5) (ci := 6) hx hb hts inX6 hown hK hM 16 n2 hn2 rfl rfl 3 (by decide) k184 (fun _ h9 => h9) rfl dX7_letWork_43 ?_
      refine lv_iconst (v := 1) hx hb dX7_letWork_46 (by decide) ?_
      refine lv_iadd hx hb dX7_letWork_47 ?_
      refine lv_goto (tgt := 52) hx hb dX7_letWork_48 (by decide) ?_
      refine mm_put (C := RX6) (T := TX6) (N := 5) (ci := 6) (ty := .int) hx hb hts inX6 tyX6 tyX6_ok nmX6 hown hK hM hS 16 n2 hn2 rfl rfl 3 (by decide) k184 (fun _ h9 => h9) rfl (by decide +kernel) rfl rfl (Nat.le_of_ble_eq_true rfl) ((V 16 n2 3) + (1 : Int32)) rfl dX7_letWork_52 (fun H locs hM hS => ?_)
      have hW := xW_mu (k := 16) (n := n2) (t := 3) (x := ((V 16 n2 3) + (1 : Int32))) hW (fun h9 => Bool.noConfusion (show false = true from h9))
      have e9 : ((mu V 16 n2 3 ((V 16 n2 3) + (1 : Int32))), c) = res := Option.some.inj h
      subst e9
      exact W.vret hx hb hr (fun t9 ht9 hW9 => ⟨⟨q, rfl, trivial, xM_of hM hK hW hAs hS.1 ht9 hW9⟩, hS.F ht9⟩) hS.2.2 dX7_letWork_55
  have hb16 : ∀ (n1 : Nat) (n2 : Nat) (V : mM) (c : Nat × Nat) (q : Nat × Nat), jnX7_letWork_16 L n1 n2 V c = some res → ∀ (H : Heap) (locs : List Loc), xex cnt L 3 n1 → xex cnt L 16 n2 → mP (dC, dI) vwCl A (xad ad q) (xce cI cS cW ad q L c) (xex cnt L) V H → xW cnt V → c0.1 + c0.2 ≤ c.1 + c.2 → va_S A s.heap H locs → ∀ (ls : Array Slot), lv_has ls 3 [(1, .ref (ad 3 n1)), (2, .ref (ad 16 n2))] → W p l e (headSpec wsX7_letWork ({ frames := 6, cells := ((res.2.1 + res.2.2) / 64 - (c0.1 + c0.2) / 64), slots := (2 * (res.2.1 + res.2.2) - 2 * (c0.1 + c0.2)), locals := 140 } : Room)).room s m ([.ref (ad 2 0), .ref (ad 3 pn1), .ref (ad 16 pn2)] : List Value).toArray below meth cd H locs ((c.1 + c.2) / 64 - (c0.1 + c0.2) / 64) (2 * (c.1 + c.2) - 2 * (c0.1 + c0.2)) (MQ below (va_Qv (fun (_ : Nat × Nat) => True) (fun u9 t9 => xM dC dI A ad cnt L cI cS cW u9 res.1 res.2 t9) A) ([.ref (ad 2 0), .ref (ad 3 pn1), .ref (ad 16 pn2)] : List Value).toArray s ((res.2.1 + res.2.2) / 64 - (c0.1 + c0.2) / 64) (2 * (res.2.1 + res.2.2) - 2 * (c0.1 + c0.2)) A) (F0 m 16 ls []) := by
    intro  n1 n2 V c q h H locs hn1 hn2 hM hW hc1 hS ls hl
    unfold jnX7_letWork_16 at h
    refine lv_aload_n hx hb dX7_letWork_16 rfl (lv_at hl 1 rfl) ?_
    refine mm_get (C := RX6) (T := TX6) (N := 5) (ci := 6) hx hb hts inX6 hown hK hM 16 n2 hn2 rfl rfl 0 (by decide) k174 (fun _ h9 => h9) rfl dX7_letWork_17 ?_
    refine mm_get (C := RX1) (T := TX1) (N := 4) (ci := 1) hx hb hts inX1 hown hK hM 11 n2 (xe16_b hn2) rfl rfl 3 (by decide) k122 (fun _ h9 => h9) rfl dX7_letWork_20 ?_
    refine lv_if_ne (tgt := 31) hx hb dX7_letWork_23 (by decide) (fun c_2 => ?_) (fun c_2 => ?_)
    · have h := iteF c_2 h
      exact hb31 _ _ _ _ h _ _ hn2 hM hW hc1 hS ls (lv_sub hl [1] rfl)
    · have h := iteT c_2 h
      refine lv_aload_n hx hb dX7_letWork_26 rfl (lv_at hl 0 rfl) ?_
      refine lv_aload_n hx hb dX7_letWork_27 rfl (lv_at hl 1 rfl) ?_
      obtain ⟨u_3, hu_3, h⟩ := bindS h
      have hz_4 : c.1 + c.2 ≤ res.2.1 + res.2.2 := by
        have := mojnX7_letWork_31 h
        first | assumption | omega
      refine va_callv (va_runV (As := [.ref (ad 16 n2)]) (rest := []) ⟨hx, hb, hml, hown, hts⟩ (kX3_startBatch l hsh n1 n2 V c hu_3 hn1 hn2) (cwV 1 hts gX7_letWork_X3_startBatch rfl rfl rfl (by decide +kernel) ⟨Nat.le_of_ble_eq_true rfl, Nat.le_of_ble_eq_true rfl⟩) ⟨fun a U g9 mk w9 => ⟨w9.1, xM_calling w9.2⟩, mP_recv (q := (RX3, TX3, 19)) hK hM hn1 rfl rfl, fun U hU hWm => ⟨rfl, xM_of hM hK hW hAs hS.1 hU hWm⟩⟩ rfl rfl hl.1 rfl (lv_room (Nat.le_of_ble_eq_true rfl)) dX7_letWork_28 ⟨(show ((c.1 + c.2) / 64 - (c0.1 + c0.2) / 64) + 0 ≤ ((res.2.1 + res.2.2) / 64 - (c0.1 + c0.2) / 64) from by omega), (show (2 * (c.1 + c.2) - 2 * (c0.1 + c0.2)) + 0 ≤ (2 * (res.2.1 + res.2.2) - 2 * (c0.1 + c0.2)) from by omega)⟩) hS (fun _ _ h9 => h9) (fun _ h9 => h9) (fun u9 t9 H locs ht9 _ hw9 hB9 _ _ hS => ?_)
      obtain ⟨hM, -, hW, -⟩ := hB9
      rw [ht9] at hM
      exact hb31 _ _ _ _ h _ _ hn2 hM hW hc1 hS ls (lv_sub hl [1] rfl)
  have hl := lv_entry ([.ref (ad 2 0), .ref (ad 3 pn1), .ref (ad 16 pn2)]) (n := 3) (Nat.le_of_ble_eq_true rfl)
  rw [lg_entry_eq]
  generalize (lg_sl ([.ref (ad 2 0), .ref (ad 3 pn1), .ref (ad 16 pn2)]) ++ List.replicate (3 - (lg_sl ([.ref (ad 2 0), .ref (ad 3 pn1), .ref (ad 16 pn2)])).length) Slot.unset).toArray = ls at hl ⊢
  have hl : lv_has ls 3 [(0, .ref (ad 2 0)), (1, .ref (ad 3 pn1)), (2, .ref (ad 16 pn2))] := hl
  unfold fX7_letWork at h
  refine W.widen (k := ((c0.1 + c0.2) / 64 - (c0.1 + c0.2) / 64)) (n := (2 * (c0.1 + c0.2) - 2 * (c0.1 + c0.2))) (by omega) (by omega) ?_
  refine lv_aload_n hx hb dX7_letWork_0 rfl (lv_at hl 2 rfl) ?_
  refine mm_get (C := RX6) (T := TX6) (N := 5) (ci := 6) hx hb hts inX6 hown hK hM 16 pn2 hpn2 rfl rfl 0 (by decide) k174 (fun _ h9 => h9) rfl dX7_letWork_1 ?_
  refine mm_get (C := RX1) (T := TX1) (N := 4) (ci := 1) hx hb hts inX1 hown hK hM 11 pn2 (xe16_b hpn2) rfl rfl 3 (by decide) k122 (fun _ h9 => h9) rfl dX7_letWork_4 ?_
  refine lv_if_le (tgt := 16) hx hb dX7_letWork_7 (by decide) (fun c_5 => ?_) (fun c_5 => ?_)
  · have h := iteT c_5 h
    exact hb16 _ _ _ _ _ h _ _ hpn1 hpn2 hM hW hc1 hS ls (lv_sub hl [1, 2] rfl)
  · have h := iteF c_5 h
    refine lv_aload_n hx hb dX7_letWork_10 rfl (lv_at hl 0 rfl) ?_
    refine lv_aload_n hx hb dX7_letWork_11 rfl (lv_at hl 1 rfl) ?_
    refine lv_aload_n hx hb dX7_letWork_12 rfl (lv_at hl 2 rfl) ?_
    obtain ⟨u_6, hu_6, h⟩ := bindS h
    have hz_7 : u_6.2.1 + u_6.2.2 ≤ res.2.1 + res.2.2 := by
      have := mojnX7_letWork_16 h
      first | assumption | omega
    have hz_7_m := moX7_workOnBatch hu_6
    refine va_callv (va_runV (As := [.ref (ad 3 pn1), .ref (ad 16 pn2)]) (rest := []) ⟨hx, hb, hml, hown, hts⟩ (kX7_workOnBatch l hsh pn1 pn2 V0 c0 hu_6 hpn1 hpn2) (cwV 2 hts gX7_letWork_X7_workOnBatch rfl rfl rfl (by decide +kernel) ⟨Nat.le_of_ble_eq_true rfl, Nat.le_of_ble_eq_true rfl⟩) ⟨fun a U g9 mk w9 => ⟨w9.1, xM_calling w9.2⟩, mP_recv (q := (RX7, TX7, 7)) hK hM xe2 rfl rfl, fun U hU hWm => ⟨rfl, xM_of hM hK hW hAs hS.1 hU hWm⟩⟩ rfl rfl hl.1 rfl (lv_room (Nat.le_of_ble_eq_true rfl)) dX7_letWork_13 ⟨(show ((c0.1 + c0.2) / 64 - (c0.1 + c0.2) / 64) + ((u_6.2.1 + u_6.2.2) / 64 - (c0.1 + c0.2) / 64) ≤ ((res.2.1 + res.2.2) / 64 - (c0.1 + c0.2) / 64) from by omega), (show (2 * (c0.1 + c0.2) - 2 * (c0.1 + c0.2)) + (2 * (u_6.2.1 + u_6.2.2) - 2 * (c0.1 + c0.2)) ≤ (2 * (res.2.1 + res.2.2) - 2 * (c0.1 + c0.2)) from by omega)⟩) hS (fun _ _ h9 => h9) (fun _ h9 => h9) (fun q_8 t9 H locs ht9 _ hw9 hB9 _ _ hS => ?_)
    obtain ⟨hM, -, hW, -⟩ := hB9
    rw [ht9] at hM
    refine W.widen (k := ((u_6.2.1 + u_6.2.2) / 64 - (c0.1 + c0.2) / 64)) (n := (2 * (u_6.2.1 + u_6.2.2) - 2 * (c0.1 + c0.2))) (by omega) (by omega) ?_
    have hc1 : c0.1 + c0.2 ≤ u_6.2.1 + u_6.2.2 := by omega
    exact hb16 _ _ _ _ _ h _ _ hpn1 hpn2 hM hW hc1 hS ls (lv_sub hl [1, 2] rfl)
/-! X7_passTick -/
def lpX7_passTick_101 (L : Nat → Nat → Nat)  : Nat → Int32 → mM → Nat × Nat → Option (mM × (Nat × Nat))
  | 0, _, _, _ => none
  | n9 + 1, x1, V, c => if (V 2 0 3) ≤ x1 then (some (V, c)) else (if bin x1 8 = true then (if (V 4 0 (x1).toNatClampNeg) < 0 then none else (fX3_control L (V 4 0 (x1).toNatClampNeg).toNatClampNeg V c).bind fun u_5 => lpX7_passTick_101 L n9 (x1 + 1) u_5 c) else none)
def lpX7_passTick_58 (L : Nat → Nat → Nat) (ro41 : Int32 → mM → Nat × Nat → Option (mM × (Nat × Nat))) : Nat → Int32 → Int32 → Int32 → mM → Nat × Nat → Option (mM × (Nat × Nat))
  | 0, _, _, _, _, _ => none
  | n9 + 1, x1, e2, x3, V, c => if e2 < 0 then none else if (V 3 e2.toNatClampNeg 14) ≤ x3 then (ro41 (x1 + 1) V c) else (if bin x3 (L 15 e2.toNatClampNeg) = true then ((fX7_letWork L e2.toNatClampNeg (4 * e2.toNatClampNeg + (x3).toNatClampNeg) V c).bind fun u_10 => lpX7_passTick_58 L ro41 n9 x1 e2 (x3 + 1) u_10.1 u_10.2) else none)
def lpX7_passTick_41 (L : Nat → Nat → Nat)  : Nat → Int32 → mM → Nat × Nat → Option (mM × (Nat × Nat))
  | 0, _, _, _ => none
  | n9 + 1, x1, V, c => if (V 2 0 3) ≤ x1 then (if ((V 2 0 4) - (V 2 0 4) / (10 : Int32) * (10 : Int32)) = 0 then (lpX7_passTick_101 L fu (0 : Int32) V c) else (some (V, c))) else (if bin x1 8 = true then (lpX7_passTick_58 L (lpX7_passTick_41 L n9) fu x1 (V 4 0 (x1).toNatClampNeg) (0 : Int32) V c) else none)
def lpX7_passTick_12 (L : Nat → Nat → Nat)  : Nat → Int32 → mM → Nat × Nat → Option (mM × (Nat × Nat))
  | 0, _, _, _ => none
  | n9 + 1, x1, V, c => if (V 2 0 3) ≤ x1 then ((fX7_fireTimers L V c).bind fun u_18 => lpX7_passTick_41 L fu (0 : Int32) u_18 c) else (if bin x1 8 = true then (if (V 4 0 (x1).toNatClampNeg) < 0 then none else (fX3_growTokens L (V 4 0 (x1).toNatClampNeg).toNatClampNeg V c).bind fun u_23 => lpX7_passTick_12 L n9 (x1 + 1) u_23 c) else none)
def fX7_passTick (L : Nat → Nat → Nat)  (V0 : mM) (c0 : Nat × Nat) : Option (mM × (Nat × Nat)) := lpX7_passTick_12 L fu (0 : Int32) (mu V0 2 0 4 ((V0 2 0 4) + (1 : Int32))) c0
theorem molpX7_passTick_101 {L : Nat → Nat → Nat} {res : mM × (Nat × Nat)} {n9 : Nat} : ∀ {x1 : Int32} {V : mM} {c : Nat × Nat}, lpX7_passTick_101 L n9 x1 V c = some res → c.1 + c.2 ≤ res.2.1 + res.2.2 := by
  induction n9 with
  | zero =>
    intro x1 V c h
    rw [lpX7_passTick_101] at h
    cases h
  | succ n9 ih =>
    intro x1 V c h
    rw [lpX7_passTick_101] at h
    by_cases m_901 : (V 2 0 3) ≤ x1
    · have h := iteT m_901 h
      have e9 := Option.some.inj h
      subst e9
      first | exact Nat.le_refl _ | assumption | (dsimp only at *; omega)
    · have h := iteF m_901 h
      obtain ⟨-, h⟩ := iteS h
      obtain ⟨-, h⟩ := iteN h
      obtain ⟨u_5, hu_5, h⟩ := bindS h
      have := ih h
      first | assumption | omega
theorem molpX7_passTick_58 {L : Nat → Nat → Nat} {res : mM × (Nat × Nat)} (ro41 : Int32 → mM → Nat × Nat → Option (mM × (Nat × Nat))) (hro41 : ∀ (x1 : Int32) (V : mM) (c : Nat × Nat), ro41 x1 V c = some res → c.1 + c.2 ≤ res.2.1 + res.2.2) {n9 : Nat} : ∀ {x1 : Int32} {e2 : Int32} {x3 : Int32} {V : mM} {c : Nat × Nat}, lpX7_passTick_58 L ro41 n9 x1 e2 x3 V c = some res → c.1 + c.2 ≤ res.2.1 + res.2.2 := by
  induction n9 with
  | zero =>
    intro x1 e2 x3 V c h
    rw [lpX7_passTick_58] at h
    cases h
  | succ n9 ih =>
    intro x1 e2 x3 V c h
    rw [lpX7_passTick_58] at h
    obtain ⟨-, h⟩ := iteN h
    by_cases m_901 : (V 3 e2.toNatClampNeg 14) ≤ x3
    · have h := iteT m_901 h
      have := hro41 _ _ _ h
      first | assumption | omega
    · have h := iteF m_901 h
      obtain ⟨-, h⟩ := iteS h
      obtain ⟨u_10, hu_10, h⟩ := bindS h
      have := moX7_letWork hu_10
      have := ih h
      first | assumption | omega
theorem molpX7_passTick_41 {L : Nat → Nat → Nat} {res : mM × (Nat × Nat)} {n9 : Nat} : ∀ {x1 : Int32} {V : mM} {c : Nat × Nat}, lpX7_passTick_41 L n9 x1 V c = some res → c.1 + c.2 ≤ res.2.1 + res.2.2 := by
  induction n9 with
  | zero =>
    intro x1 V c h
    rw [lpX7_passTick_41] at h
    cases h
  | succ n9 ih =>
    intro x1 V c h
    rw [lpX7_passTick_41] at h
    by_cases m_901 : (V 2 0 3) ≤ x1
    · have h := iteT m_901 h
      by_cases m_902 : ((V 2 0 4) - (V 2 0 4) / (10 : Int32) * (10 : Int32)) = 0
      · have h := iteT m_902 h
        have := molpX7_passTick_101 h
        first | assumption | omega
      · have h := iteF m_902 h
        have e9 := Option.some.inj h
        subst e9
        first | exact Nat.le_refl _ | assumption | (dsimp only at *; omega)
    · have h := iteF m_901 h
      obtain ⟨-, h⟩ := iteS h
      have := molpX7_passTick_58 _ (fun _ _ _ h => ih h) h
      first | assumption | omega
theorem molpX7_passTick_12 {L : Nat → Nat → Nat} {res : mM × (Nat × Nat)} {n9 : Nat} : ∀ {x1 : Int32} {V : mM} {c : Nat × Nat}, lpX7_passTick_12 L n9 x1 V c = some res → c.1 + c.2 ≤ res.2.1 + res.2.2 := by
  induction n9 with
  | zero =>
    intro x1 V c h
    rw [lpX7_passTick_12] at h
    cases h
  | succ n9 ih =>
    intro x1 V c h
    rw [lpX7_passTick_12] at h
    by_cases m_901 : (V 2 0 3) ≤ x1
    · have h := iteT m_901 h
      obtain ⟨u_18, hu_18, h⟩ := bindS h
      have := molpX7_passTick_41 h
      first | assumption | omega
    · have h := iteF m_901 h
      obtain ⟨-, h⟩ := iteS h
      obtain ⟨-, h⟩ := iteN h
      obtain ⟨u_23, hu_23, h⟩ := bindS h
      have := ih h
      first | assumption | omega
theorem moX7_passTick {L : Nat → Nat → Nat} {res : mM × (Nat × Nat)} {V0 : mM} {c0 : Nat × Nat} (h : fX7_passTick L  V0 c0 = some res) : c0.1 + c0.2 ≤ res.2.1 + res.2.2 := by
  unfold fX7_passTick at h
  have := molpX7_passTick_12 h
  first | assumption | omega
set_option maxHeartbeats 4000000 in
set_option maxRecDepth 100000 in
theorem kX7_passTick (l : Launch) {dC : Nat → ClassId} {dI : Nat → Nat → Nat} {A : Nat → Prop} {ad : Nat → Nat → Nat} {cnt : Nat} {L : Nat → Nat → Nat} {cI cS cW : ClassId} {q : Nat × Nat} (hsh : xSh cnt L)  (V0 : mM) (c0 : Nat × Nat) {res : mM × (Nat × Nat)} (h : fX7_passTick L V0 c0 = some res) : Met l yX7_passTick wsX7_passTick ({ frames := 7, cells := ((res.2.1 + res.2.2) / 64 - (c0.1 + c0.2) / 64), slots := (2 * (res.2.1 + res.2.2) - 2 * (c0.1 + c0.2)), locals := 162 } : Room) (va_Pc [.ref (ad 2 0)] (fun U => xM dC dI A ad cnt L cI cS cW q V0 c0 U)) (va_Qv (fun (_ : Nat × Nat) => True) (fun u9 t9 => xM dC dI A ad cnt L cI cS cW u9 res.1 res.2 t9) A) ((res.2.1 + res.2.2) / 64 - (c0.1 + c0.2) / 64) (2 * (res.2.1 + res.2.2) - 2 * (c0.1 + c0.2)) A := by
  refine Met.ofW (cc := cX7_passTick) (maxL := 4) (ret := none) (by decide) rfl ?_
  intro p e s m args below meth cd s₁ B hml hv
  obtain ⟨rfl, hM, hK, hW, hAs⟩ := hv
  have hx := B.exec
  have hb := B.bytes
  have hr := B.returns
  have hts := atoms_spec (ws := wsX7_passTick) B.pre
  have hown : s.vm.findClass RX7 = some m.cls := findClass_of_methodNamed B.named
  have hlocks := B.notSynchronized
  have hS : va_S A s.heap s.heap [] := va_S.rf
  have hc1 : c0.1 + c0.2 ≤ c0.1 + c0.2 := Nat.le_refl _
  have k33 := hts (.fieldLink RX7 33 "StageDesk" "stageCount" "I") (by decide +kernel)
  have k11 := hts (.fieldLink RX7 11 "StageDesk" "stages" "[LStageDesk$Stage;") (by decide +kernel)
  have k129 := hts (.fieldLink RX7 129 "StageDesk$Stage" "workerCount" "I") (by decide +kernel)
  have k132 := hts (.fieldLink RX7 132 "StageDesk$Stage" "workers" "[LStageDesk$Worker;") (by decide +kernel)
  have k80 := hts (.fieldLink RX7 80 "StageDesk" "now" "I") (by decide +kernel)
  have inX7 : ∀ w ∈ u_ws RX7 TX7 7, w ∈ wsX7_passTick := by decide +kernel
  have inX3 : ∀ w ∈ u_ws RX3 TX3 19, w ∈ wsX7_passTick := by decide +kernel
  have hb101 : ∀ (n9 : Nat), ∀ (x1 : Int32) (V : mM) (c : Nat × Nat) (q : Nat × Nat), lpX7_passTick_101 L n9 x1 V c = some res → ∀ (H : Heap) (locs : List Loc), mP (dC, dI) vwCl A (xad ad q) (xce cI cS cW ad q L c) (xex cnt L) V H → xW cnt V → c0.1 + c0.2 ≤ c.1 + c.2 → va_S A s.heap H locs → ∀ (ls : Array Slot), lv_has ls 4 [(0, .ref (ad 2 0)), (1, .int x1)] → W p l e (headSpec wsX7_passTick ({ frames := 7, cells := ((res.2.1 + res.2.2) / 64 - (c0.1 + c0.2) / 64), slots := (2 * (res.2.1 + res.2.2) - 2 * (c0.1 + c0.2)), locals := 162 } : Room)).room s m ([.ref (ad 2 0)] : List Value).toArray below meth cd H locs ((c.1 + c.2) / 64 - (c0.1 + c0.2) / 64) (2 * (c.1 + c.2) - 2 * (c0.1 + c0.2)) (MQ below (va_Qv (fun (_ : Nat × Nat) => True) (fun u9 t9 => xM dC dI A ad cnt L cI cS cW u9 res.1 res.2 t9) A) ([.ref (ad 2 0)] : List Value).toArray s ((res.2.1 + res.2.2) / 64 - (c0.1 + c0.2) / 64) (2 * (res.2.1 + res.2.2) - 2 * (c0.1 + c0.2)) A) (F0 m 101 ls []) := by
    intro  n9
    induction n9 with
    | zero =>
      intro x1 V c q h H locs hM hW hc1 hS ls hl
      rw [lpX7_passTick_101] at h
      cases h
    | succ n9 ih =>
      intro x1 V c q h H locs hM hW hc1 hS ls hl
      rw [lpX7_passTick_101] at h
      have hmoi : ∀ (x1 : Int32) (V : mM) (c : Nat × Nat), lpX7_passTick_101 L n9 x1 V c = some res → c.1 + c.2 ≤ res.2.1 + res.2.2 := fun _ _ _ h => molpX7_passTick_101 h
      refine lv_iload_n hx hb dX7_passTick_101 rfl (lv_at hl 1 rfl) ?_
      refine lv_aload_n hx hb dX7_passTick_102 rfl (lv_at hl 0 rfl) ?_
      refine mm_get (C := RX7) (T := TX7) (N := 7) (ci := 7) hx hb hts inX7 hown hK hM 2 0 xe2 rfl rfl 3 (by decide) k33 (fun _ h9 => h9) rfl dX7_passTick_103 ?_
      refine lv_icmp_ge (tgt := 124) hx hb dX7_passTick_106 (by decide) (fun c_1 => ?_) (fun c_1 => ?_)
      · have h := iteT c_1 h
        have e9 : (V, c) = res := Option.some.inj h
        subst e9
        exact W.vret hx hb hr (fun t9 ht9 hW9 => ⟨⟨q, rfl, trivial, xM_of hM hK hW hAs hS.1 ht9 hW9⟩, hS.F ht9⟩) hS.2.2 dX7_passTick_124
      · have h := iteF c_1 h
        refine lv_aload_n hx hb dX7_passTick_109 rfl (lv_at hl 0 rfl) ?_
        refine mm_get (C := RX7) (T := TX7) (N := 7) (ci := 7) hx hb hts inX7 hown hK hM 2 0 xe2 rfl rfl 0 (by decide) k11 (fun _ h9 => h9) rfl dX7_passTick_110 ?_
        refine lv_iload_n hx hb dX7_passTick_113 rfl (lv_at hl 1 rfl) ?_
        obtain ⟨b_2, h⟩ := iteS h
        refine mm_aald hx hb hK hM 4 0 xe4 1 rfl rfl (bin_in b_2) dX7_passTick_114 ?_
        have ok_3 : okS cnt (V 4 0 (x1).toNatClampNeg) := hW 4 0 _ rfl
        obtain ⟨z_4, h⟩ := iteN h
        rw [rO_pos (ad := ad) z_4]
        obtain ⟨u_5, hu_5, h⟩ := bindS h
        have hz_6 : c.1 + c.2 ≤ res.2.1 + res.2.2 := by
          have := hmoi _ _ _ h
          first | assumption | omega
        refine va_callv (va_runV (As := []) (rest := []) ⟨hx, hb, hml, hown, hts⟩ (kX3_control l hsh (V 4 0 (x1).toNatClampNeg).toNatClampNeg V c hu_5 (okS_lt ok_3 z_4)) (cwV 0 hts gX7_passTick_X3_control rfl rfl rfl (by decide +kernel) ⟨Nat.le_of_ble_eq_true rfl, Nat.le_of_ble_eq_true rfl⟩) ⟨fun a U g9 mk w9 => ⟨w9.1, xM_calling w9.2⟩, mP_recv (q := (RX3, TX3, 19)) hK hM (okS_lt ok_3 z_4) rfl rfl, fun U hU hWm => ⟨rfl, xM_of hM hK hW hAs hS.1 hU hWm⟩⟩ rfl rfl hl.1 rfl (lv_room (Nat.le_of_ble_eq_true rfl)) dX7_passTick_115 ⟨(show ((c.1 + c.2) / 64 - (c0.1 + c0.2) / 64) + 0 ≤ ((res.2.1 + res.2.2) / 64 - (c0.1 + c0.2) / 64) from by omega), (show (2 * (c.1 + c.2) - 2 * (c0.1 + c0.2)) + 0 ≤ (2 * (res.2.1 + res.2.2) - 2 * (c0.1 + c0.2)) from by omega)⟩) hS (fun _ _ h9 => h9) (fun _ h9 => h9) (fun u9 t9 H locs ht9 _ hw9 hB9 _ _ hS => ?_)
        obtain ⟨hM, -, hW, -⟩ := hB9
        rw [ht9] at hM
        refine lv_iinc (v := (x1 + 1)) (lv' := [(1, .int (x1 + 1)), (0, .ref (ad 2 0))]) hx hb dX7_passTick_118 hl (k := 1) rfl rfl (by decide) rfl (fun ls hl => ?_)
        refine lv_goto (tgt := 101) hx hb dX7_passTick_121 (by decide) ?_
        exact ih _ _ _ _ h _ _  hM hW hc1 hS ls (lv_sub hl [1, 0] rfl)
  have hb58 : ∀ (ro41 : Int32 → mM → Nat × Nat → Option (mM × (Nat × Nat))) (hmo41 : ∀ (x1 : Int32) (V : mM) (c : Nat × Nat), ro41 x1 V c = some res → c.1 + c.2 ≤ res.2.1 + res.2.2) (hro41 : ∀ (x1 : Int32) (V : mM) (c : Nat × Nat) (q : Nat × Nat), ro41 x1 V c = some res → ∀ (H : Heap) (locs : List Loc), mP (dC, dI) vwCl A (xad ad q) (xce cI cS cW ad q L c) (xex cnt L) V H → xW cnt V → c0.1 + c0.2 ≤ c.1 + c.2 → va_S A s.heap H locs → ∀ (ls : Array Slot), lv_has ls 4 [(0, .ref (ad 2 0)), (1, .int x1)] → W p l e (headSpec wsX7_passTick ({ frames := 7, cells := ((res.2.1 + res.2.2) / 64 - (c0.1 + c0.2) / 64), slots := (2 * (res.2.1 + res.2.2) - 2 * (c0.1 + c0.2)), locals := 162 } : Room)).room s m ([.ref (ad 2 0)] : List Value).toArray below meth cd H locs ((c.1 + c.2) / 64 - (c0.1 + c0.2) / 64) (2 * (c.1 + c.2) - 2 * (c0.1 + c0.2)) (MQ below (va_Qv (fun (_ : Nat × Nat) => True) (fun u9 t9 => xM dC dI A ad cnt L cI cS cW u9 res.1 res.2 t9) A) ([.ref (ad 2 0)] : List Value).toArray s ((res.2.1 + res.2.2) / 64 - (c0.1 + c0.2) / 64) (2 * (res.2.1 + res.2.2) - 2 * (c0.1 + c0.2)) A) (F0 m 41 ls [])) (n9 : Nat), ∀ (x1 : Int32) (e2 : Int32) (x3 : Int32) (V : mM) (c : Nat × Nat) (q : Nat × Nat), lpX7_passTick_58 L ro41 n9 x1 e2 x3 V c = some res → ∀ (H : Heap) (locs : List Loc), okS cnt e2 → mP (dC, dI) vwCl A (xad ad q) (xce cI cS cW ad q L c) (xex cnt L) V H → xW cnt V → c0.1 + c0.2 ≤ c.1 + c.2 → va_S A s.heap H locs → ∀ (ls : Array Slot), lv_has ls 4 [(0, .ref (ad 2 0)), (1, .int x1), (2, va_rf (rO ad e2)), (3, .int x3)] → W p l e (headSpec wsX7_passTick ({ frames := 7, cells := ((res.2.1 + res.2.2) / 64 - (c0.1 + c0.2) / 64), slots := (2 * (res.2.1 + res.2.2) - 2 * (c0.1 + c0.2)), locals := 162 } : Room)).room s m ([.ref (ad 2 0)] : List Value).toArray below meth cd H locs ((c.1 + c.2) / 64 - (c0.1 + c0.2) / 64) (2 * (c.1 + c.2) - 2 * (c0.1 + c0.2)) (MQ below (va_Qv (fun (_ : Nat × Nat) => True) (fun u9 t9 => xM dC dI A ad cnt L cI cS cW u9 res.1 res.2 t9) A) ([.ref (ad 2 0)] : List Value).toArray s ((res.2.1 + res.2.2) / 64 - (c0.1 + c0.2) / 64) (2 * (res.2.1 + res.2.2) - 2 * (c0.1 + c0.2)) A) (F0 m 58 ls []) := by
    intro ro41 hmo41 hro41 n9
    induction n9 with
    | zero =>
      intro x1 e2 x3 V c q h H locs oke2 hM hW hc1 hS ls hl
      rw [lpX7_passTick_58] at h
      cases h
    | succ n9 ih =>
      intro x1 e2 x3 V c q h H locs oke2 hM hW hc1 hS ls hl
      rw [lpX7_passTick_58] at h
      have hmoi : ∀ (x1 : Int32) (e2 : Int32) (x3 : Int32) (V : mM) (c : Nat × Nat), lpX7_passTick_58 L ro41 n9 x1 e2 x3 V c = some res → c.1 + c.2 ≤ res.2.1 + res.2.2 := fun _ _ _ _ _ h => molpX7_passTick_58 _ hmo41 h
      refine lv_iload_n hx hb dX7_passTick_58 rfl (lv_at hl 3 rfl) ?_
      refine mm_aload_n hx hb dX7_passTick_59 rfl (lv_at hl 2 rfl) ?_
      obtain ⟨z_7, h⟩ := iteN h
      rw [rO_pos (ad := ad) z_7]
      rw [rO_pos (ad := ad) z_7] at hl
      refine mm_get (C := RX3) (T := TX3) (N := 19) (ci := 3) hx hb hts inX3 hown hK hM 3 e2.toNatClampNeg (okS_lt oke2 z_7) rfl rfl 14 (by decide) k129 (fun _ h9 => h9) rfl dX7_passTick_60 ?_
      refine lv_icmp_ge (tgt := 83) hx hb dX7_passTick_63 (by decide) (fun c_8 => ?_) (fun c_8 => ?_)
      · have h := iteT c_8 h
        refine lv_iinc (v := (x1 + 1)) (lv' := [(1, .int (x1 + 1)), (0, .ref (ad 2 0)), (2, .ref (ad 3 e2.toNatClampNeg)), (3, .int x3)]) hx hb dX7_passTick_83 hl (k := 1) rfl rfl (by decide) rfl (fun ls hl => ?_)
        refine lv_goto (tgt := 41) hx hb dX7_passTick_86 (by decide) ?_
        exact hro41 _ _ _ _ h _ _  hM hW hc1 hS ls (lv_sub hl [1, 0] rfl)
      · have h := iteF c_8 h
        refine lv_aload_n hx hb dX7_passTick_66 rfl (lv_at hl 0 rfl) ?_
        refine lv_aload_n hx hb dX7_passTick_67 rfl (lv_at hl 2 rfl) ?_
        refine lv_aload_n hx hb dX7_passTick_68 rfl (lv_at hl 2 rfl) ?_
        refine mm_get (C := RX3) (T := TX3) (N := 19) (ci := 3) hx hb hts inX3 hown hK hM 3 e2.toNatClampNeg (okS_lt oke2 z_7) rfl rfl 4 (by decide) k132 (fun _ h9 => h9) rfl dX7_passTick_69 ?_
        refine lv_iload_n hx hb dX7_passTick_72 rfl (lv_at hl 3 rfl) ?_
        obtain ⟨b_9, h⟩ := iteS h
        refine mm_aald hx hb hK hM 15 e2.toNatClampNeg (xe3_w (okS_lt oke2 z_7)) 2 rfl rfl (bin_in b_9) dX7_passTick_73 ?_
        rw [if_pos (bin_iff.mp b_9).2]
        obtain ⟨u_10, hu_10, h⟩ := bindS h
        have hz_11 : u_10.2.1 + u_10.2.2 ≤ res.2.1 + res.2.2 := by
          have := hmoi _ _ _ _ _ h
          first | assumption | omega
        have hz_11_m := moX7_letWork hu_10
        refine va_callv (va_runV (As := [.ref (ad 3 e2.toNatClampNeg), .ref (ad 16 (4 * e2.toNatClampNeg + (x3).toNatClampNeg))]) (rest := []) ⟨hx, hb, hml, hown, hts⟩ (kX7_letWork l hsh e2.toNatClampNeg (4 * e2.toNatClampNeg + (x3).toNatClampNeg) V c hu_10 (okS_lt oke2 z_7) (xe15 hsh (xe3_w (okS_lt oke2 z_7)) b_9)) (cwV 2 hts gX7_passTick_X7_letWork rfl rfl rfl (by decide +kernel) ⟨Nat.le_of_ble_eq_true rfl, Nat.le_of_ble_eq_true rfl⟩) ⟨fun a U g9 mk w9 => ⟨w9.1, xM_calling w9.2⟩, mP_recv (q := (RX7, TX7, 7)) hK hM xe2 rfl rfl, fun U hU hWm => ⟨rfl, xM_of hM hK hW hAs hS.1 hU hWm⟩⟩ rfl rfl hl.1 rfl (lv_room (Nat.le_of_ble_eq_true rfl)) dX7_passTick_74 ⟨(show ((c.1 + c.2) / 64 - (c0.1 + c0.2) / 64) + ((u_10.2.1 + u_10.2.2) / 64 - (c.1 + c.2) / 64) ≤ ((res.2.1 + res.2.2) / 64 - (c0.1 + c0.2) / 64) from by omega), (show (2 * (c.1 + c.2) - 2 * (c0.1 + c0.2)) + (2 * (u_10.2.1 + u_10.2.2) - 2 * (c.1 + c.2)) ≤ (2 * (res.2.1 + res.2.2) - 2 * (c0.1 + c0.2)) from by omega)⟩) hS (fun _ _ h9 => h9) (fun _ h9 => h9) (fun q_12 t9 H locs ht9 _ hw9 hB9 _ _ hS => ?_)
        obtain ⟨hM, -, hW, -⟩ := hB9
        rw [ht9] at hM
        refine W.widen (k := ((u_10.2.1 + u_10.2.2) / 64 - (c0.1 + c0.2) / 64)) (n := (2 * (u_10.2.1 + u_10.2.2) - 2 * (c0.1 + c0.2))) (by omega) (by omega) ?_
        have hc1 : c0.1 + c0.2 ≤ u_10.2.1 + u_10.2.2 := by omega
        refine lv_iinc (v := (x3 + 1)) (lv' := [(3, .int (x3 + 1)), (0, .ref (ad 2 0)), (1, .int x1), (2, .ref (ad 3 e2.toNatClampNeg))]) hx hb dX7_passTick_77 hl (k := 3) rfl rfl (by decide) rfl (fun ls hl => ?_)
        refine lv_goto (tgt := 58) hx hb dX7_passTick_80 (by decide) ?_
        rw [← rO_pos (ad := ad) z_7] at hl
        exact ih _ _ _ _ _ _ h _ _ oke2 hM hW hc1 hS ls (lv_sub hl [1, 2, 3, 0] rfl)
  have hb41 : ∀ (n9 : Nat), ∀ (x1 : Int32) (V : mM) (c : Nat × Nat) (q : Nat × Nat), lpX7_passTick_41 L n9 x1 V c = some res → ∀ (H : Heap) (locs : List Loc), mP (dC, dI) vwCl A (xad ad q) (xce cI cS cW ad q L c) (xex cnt L) V H → xW cnt V → c0.1 + c0.2 ≤ c.1 + c.2 → va_S A s.heap H locs → ∀ (ls : Array Slot), lv_has ls 4 [(0, .ref (ad 2 0)), (1, .int x1)] → W p l e (headSpec wsX7_passTick ({ frames := 7, cells := ((res.2.1 + res.2.2) / 64 - (c0.1 + c0.2) / 64), slots := (2 * (res.2.1 + res.2.2) - 2 * (c0.1 + c0.2)), locals := 162 } : Room)).room s m ([.ref (ad 2 0)] : List Value).toArray below meth cd H locs ((c.1 + c.2) / 64 - (c0.1 + c0.2) / 64) (2 * (c.1 + c.2) - 2 * (c0.1 + c0.2)) (MQ below (va_Qv (fun (_ : Nat × Nat) => True) (fun u9 t9 => xM dC dI A ad cnt L cI cS cW u9 res.1 res.2 t9) A) ([.ref (ad 2 0)] : List Value).toArray s ((res.2.1 + res.2.2) / 64 - (c0.1 + c0.2) / 64) (2 * (res.2.1 + res.2.2) - 2 * (c0.1 + c0.2)) A) (F0 m 41 ls []) := by
    intro  n9
    induction n9 with
    | zero =>
      intro x1 V c q h H locs hM hW hc1 hS ls hl
      rw [lpX7_passTick_41] at h
      cases h
    | succ n9 ih =>
      intro x1 V c q h H locs hM hW hc1 hS ls hl
      rw [lpX7_passTick_41] at h
      have hmoi : ∀ (x1 : Int32) (V : mM) (c : Nat × Nat), lpX7_passTick_41 L n9 x1 V c = some res → c.1 + c.2 ≤ res.2.1 + res.2.2 := fun _ _ _ h => molpX7_passTick_41 h
      refine lv_iload_n hx hb dX7_passTick_41 rfl (lv_at hl 1 rfl) ?_
      refine lv_aload_n hx hb dX7_passTick_42 rfl (lv_at hl 0 rfl) ?_
      refine mm_get (C := RX7) (T := TX7) (N := 7) (ci := 7) hx hb hts inX7 hown hK hM 2 0 xe2 rfl rfl 3 (by decide) k33 (fun _ h9 => h9) rfl dX7_passTick_43 ?_
      refine lv_icmp_ge (tgt := 89) hx hb dX7_passTick_46 (by decide) (fun c_13 => ?_) (fun c_13 => ?_)
      · have h := iteT c_13 h
        refine lv_aload_n hx hb dX7_passTick_89 rfl (lv_at hl 0 rfl) ?_
        refine mm_get (C := RX7) (T := TX7) (N := 7) (ci := 7) hx hb hts inX7 hown hK hM 2 0 xe2 rfl rfl 4 (by decide) k80 (fun _ h9 => h9) rfl dX7_passTick_90 ?_
        refine lv_bipush (v := 10) hx hb dX7_passTick_93 (by decide) ?_
        refine lv_irem hx hb dX7_passTick_95 (by decide) ?_
        refine lv_if_ne (tgt := 124) hx hb dX7_passTick_96 (by decide) (fun c_14 => ?_) (fun c_14 => ?_)
        · have h := iteF c_14 h
          have e9 : (V, c) = res := Option.some.inj h
          subst e9
          exact W.vret hx hb hr (fun t9 ht9 hW9 => ⟨⟨q, rfl, trivial, xM_of hM hK hW hAs hS.1 ht9 hW9⟩, hS.F ht9⟩) hS.2.2 dX7_passTick_124
        · have h := iteT c_14 h
          refine lv_iconst (v := 0) hx hb dX7_passTick_99 (by decide) ?_
          refine lv_istore_n (lv' := [(1, .int (0 : Int32)), (0, .ref (ad 2 0))]) hx hb dX7_passTick_100 rfl hl (by decide) rfl (fun ls hl => ?_)
          exact hb101 fu _ _ _ _ h _ _  hM hW hc1 hS ls (lv_sub hl [1, 0] rfl)
      · have h := iteF c_13 h
        refine lv_aload_n hx hb dX7_passTick_49 rfl (lv_at hl 0 rfl) ?_
        refine mm_get (C := RX7) (T := TX7) (N := 7) (ci := 7) hx hb hts inX7 hown hK hM 2 0 xe2 rfl rfl 0 (by decide) k11 (fun _ h9 => h9) rfl dX7_passTick_50 ?_
        refine lv_iload_n hx hb dX7_passTick_53 rfl (lv_at hl 1 rfl) ?_
        obtain ⟨b_15, h⟩ := iteS h
        refine mm_aald hx hb hK hM 4 0 xe4 1 rfl rfl (bin_in b_15) dX7_passTick_54 ?_
        have ok_16 : okS cnt (V 4 0 (x1).toNatClampNeg) := hW 4 0 _ rfl
        refine mm_astore_n (lv' := [(2, va_rf (rO ad (V 4 0 (x1).toNatClampNeg))), (0, .ref (ad 2 0)), (1, .int x1)]) hx hb dX7_passTick_55 rfl hl (by decide) rfl (fun ls hl => ?_)
        refine lv_iconst (v := 0) hx hb dX7_passTick_56 (by decide) ?_
        refine lv_istore_n (i := 3) (lv' := [(3, .int (0 : Int32)), (2, va_rf (rO ad (V 4 0 (x1).toNatClampNeg))), (0, .ref (ad 2 0)), (1, .int x1)]) hx hb dX7_passTick_57 rfl hl (by decide) (by simp [va_rf_cat]) (fun ls hl => ?_)
        exact hb58 (lpX7_passTick_41 L n9) hmoi ih fu _ _ _ _ _ _ h _ _ ok_16 hM hW hc1 hS ls (lv_sub hl [2, 3, 1, 0] rfl)
  have hb12 : ∀ (n9 : Nat), ∀ (x1 : Int32) (V : mM) (c : Nat × Nat) (q : Nat × Nat), lpX7_passTick_12 L n9 x1 V c = some res → ∀ (H : Heap) (locs : List Loc), mP (dC, dI) vwCl A (xad ad q) (xce cI cS cW ad q L c) (xex cnt L) V H → xW cnt V → c0.1 + c0.2 ≤ c.1 + c.2 → va_S A s.heap H locs → ∀ (ls : Array Slot), lv_has ls 4 [(0, .ref (ad 2 0)), (1, .int x1)] → W p l e (headSpec wsX7_passTick ({ frames := 7, cells := ((res.2.1 + res.2.2) / 64 - (c0.1 + c0.2) / 64), slots := (2 * (res.2.1 + res.2.2) - 2 * (c0.1 + c0.2)), locals := 162 } : Room)).room s m ([.ref (ad 2 0)] : List Value).toArray below meth cd H locs ((c.1 + c.2) / 64 - (c0.1 + c0.2) / 64) (2 * (c.1 + c.2) - 2 * (c0.1 + c0.2)) (MQ below (va_Qv (fun (_ : Nat × Nat) => True) (fun u9 t9 => xM dC dI A ad cnt L cI cS cW u9 res.1 res.2 t9) A) ([.ref (ad 2 0)] : List Value).toArray s ((res.2.1 + res.2.2) / 64 - (c0.1 + c0.2) / 64) (2 * (res.2.1 + res.2.2) - 2 * (c0.1 + c0.2)) A) (F0 m 12 ls []) := by
    intro  n9
    induction n9 with
    | zero =>
      intro x1 V c q h H locs hM hW hc1 hS ls hl
      rw [lpX7_passTick_12] at h
      cases h
    | succ n9 ih =>
      intro x1 V c q h H locs hM hW hc1 hS ls hl
      rw [lpX7_passTick_12] at h
      have hmoi : ∀ (x1 : Int32) (V : mM) (c : Nat × Nat), lpX7_passTick_12 L n9 x1 V c = some res → c.1 + c.2 ≤ res.2.1 + res.2.2 := fun _ _ _ h => molpX7_passTick_12 h
      refine lv_iload_n hx hb dX7_passTick_12 rfl (lv_at hl 1 rfl) ?_
      refine lv_aload_n hx hb dX7_passTick_13 rfl (lv_at hl 0 rfl) ?_
      refine mm_get (C := RX7) (T := TX7) (N := 7) (ci := 7) hx hb hts inX7 hown hK hM 2 0 xe2 rfl rfl 3 (by decide) k33 (fun _ h9 => h9) rfl dX7_passTick_14 ?_
      refine lv_icmp_ge (tgt := 35) hx hb dX7_passTick_17 (by decide) (fun c_17 => ?_) (fun c_17 => ?_)
      · have h := iteT c_17 h
        refine lv_aload_n hx hb dX7_passTick_35 rfl (lv_at hl 0 rfl) ?_
        obtain ⟨u_18, hu_18, h⟩ := bindS h
        have hz_19 : c.1 + c.2 ≤ res.2.1 + res.2.2 := by
          have := molpX7_passTick_41 h
          first | assumption | omega
        refine va_callv (va_runV (As := []) (rest := []) ⟨hx, hb, hml, hown, hts⟩ (kX7_fireTimers l hsh V c hu_18) (cwV 0 hts gX7_passTick_X7_fireTimers rfl rfl rfl (by decide +kernel) ⟨Nat.le_of_ble_eq_true rfl, Nat.le_of_ble_eq_true rfl⟩) ⟨fun a U g9 mk w9 => ⟨w9.1, xM_calling w9.2⟩, mP_recv (q := (RX7, TX7, 7)) hK hM xe2 rfl rfl, fun U hU hWm => ⟨rfl, xM_of hM hK hW hAs hS.1 hU hWm⟩⟩ rfl rfl hl.1 rfl (lv_room (Nat.le_of_ble_eq_true rfl)) dX7_passTick_36 ⟨(show ((c.1 + c.2) / 64 - (c0.1 + c0.2) / 64) + 0 ≤ ((res.2.1 + res.2.2) / 64 - (c0.1 + c0.2) / 64) from by omega), (show (2 * (c.1 + c.2) - 2 * (c0.1 + c0.2)) + 0 ≤ (2 * (res.2.1 + res.2.2) - 2 * (c0.1 + c0.2)) from by omega)⟩) hS (fun _ _ h9 => h9) (fun _ h9 => h9) (fun u9 t9 H locs ht9 _ hw9 hB9 _ _ hS => ?_)
        obtain ⟨hM, -, hW, -⟩ := hB9
        rw [ht9] at hM
        refine lv_iconst (v := 0) hx hb dX7_passTick_39 (by decide) ?_
        refine lv_istore_n (lv' := [(1, .int (0 : Int32)), (0, .ref (ad 2 0))]) hx hb dX7_passTick_40 rfl hl (by decide) rfl (fun ls hl => ?_)
        exact hb41 fu _ _ _ _ h _ _  hM hW hc1 hS ls (lv_sub hl [1, 0] rfl)
      · have h := iteF c_17 h
        refine lv_aload_n hx hb dX7_passTick_20 rfl (lv_at hl 0 rfl) ?_
        refine mm_get (C := RX7) (T := TX7) (N := 7) (ci := 7) hx hb hts inX7 hown hK hM 2 0 xe2 rfl rfl 0 (by decide) k11 (fun _ h9 => h9) rfl dX7_passTick_21 ?_
        refine lv_iload_n hx hb dX7_passTick_24 rfl (lv_at hl 1 rfl) ?_
        obtain ⟨b_20, h⟩ := iteS h
        refine mm_aald hx hb hK hM 4 0 xe4 1 rfl rfl (bin_in b_20) dX7_passTick_25 ?_
        have ok_21 : okS cnt (V 4 0 (x1).toNatClampNeg) := hW 4 0 _ rfl
        obtain ⟨z_22, h⟩ := iteN h
        rw [rO_pos (ad := ad) z_22]
        obtain ⟨u_23, hu_23, h⟩ := bindS h
        have hz_24 : c.1 + c.2 ≤ res.2.1 + res.2.2 := by
          have := hmoi _ _ _ h
          first | assumption | omega
        refine va_callv (va_runV (As := []) (rest := []) ⟨hx, hb, hml, hown, hts⟩ (kX3_growTokens l hsh (V 4 0 (x1).toNatClampNeg).toNatClampNeg V c hu_23 (okS_lt ok_21 z_22)) (cwV 0 hts gX7_passTick_X3_growTokens rfl rfl rfl (by decide +kernel) ⟨Nat.le_of_ble_eq_true rfl, Nat.le_of_ble_eq_true rfl⟩) ⟨fun a U g9 mk w9 => ⟨w9.1, xM_calling w9.2⟩, mP_recv (q := (RX3, TX3, 19)) hK hM (okS_lt ok_21 z_22) rfl rfl, fun U hU hWm => ⟨rfl, xM_of hM hK hW hAs hS.1 hU hWm⟩⟩ rfl rfl hl.1 rfl (lv_room (Nat.le_of_ble_eq_true rfl)) dX7_passTick_26 ⟨(show ((c.1 + c.2) / 64 - (c0.1 + c0.2) / 64) + 0 ≤ ((res.2.1 + res.2.2) / 64 - (c0.1 + c0.2) / 64) from by omega), (show (2 * (c.1 + c.2) - 2 * (c0.1 + c0.2)) + 0 ≤ (2 * (res.2.1 + res.2.2) - 2 * (c0.1 + c0.2)) from by omega)⟩) hS (fun _ _ h9 => h9) (fun _ h9 => h9) (fun u9 t9 H locs ht9 _ hw9 hB9 _ _ hS => ?_)
        obtain ⟨hM, -, hW, -⟩ := hB9
        rw [ht9] at hM
        refine lv_iinc (v := (x1 + 1)) (lv' := [(1, .int (x1 + 1)), (0, .ref (ad 2 0))]) hx hb dX7_passTick_29 hl (k := 1) rfl rfl (by decide) rfl (fun ls hl => ?_)
        refine lv_goto (tgt := 12) hx hb dX7_passTick_32 (by decide) ?_
        exact ih _ _ _ _ h _ _  hM hW hc1 hS ls (lv_sub hl [1, 0] rfl)
  have hl := lv_entry ([.ref (ad 2 0)]) (n := 4) (Nat.le_of_ble_eq_true rfl)
  rw [lg_entry_eq]
  generalize (lg_sl ([.ref (ad 2 0)]) ++ List.replicate (4 - (lg_sl ([.ref (ad 2 0)])).length) Slot.unset).toArray = ls at hl ⊢
  have hl : lv_has ls 4 [(0, .ref (ad 2 0))] := hl
  unfold fX7_passTick at h
  refine W.widen (k := ((c0.1 + c0.2) / 64 - (c0.1 + c0.2) / 64)) (n := (2 * (c0.1 + c0.2) - 2 * (c0.1 + c0.2))) (by omega) (by omega) ?_
  refine lv_aload_n hx hb dX7_passTick_0 rfl (lv_at hl 0 rfl) ?_
  refine lv_dup hx hb dX7_passTick_1 rfl ?_
  refine mm_get (C := RX7) (T := TX7) (N := 7) (ci := 7) hx hb hts inX7 hown hK hM 2 0 xe2 rfl rfl 4 (by decide) k80 (fun _ h9 => h9) rfl dX7_passTick_2 ?_
  refine lv_iconst (v := 1) hx hb dX7_passTick_5 (by decide) ?_
  refine lv_iadd hx hb dX7_passTick_6 ?_
  refine mm_put (C := RX7) (T := TX7) (N := 7) (ci := 7) (ty := .int) hx hb hts inX7 tyX7 tyX7_ok nmX7 hown hK hM hS 2 0 xe2 rfl rfl 4 (by decide) k80 (fun _ h9 => h9) rfl (by decide +kernel) rfl rfl (Nat.le_of_ble_eq_true rfl) ((V0 2 0 4) + (1 : Int32)) rfl dX7_passTick_7 (fun H locs hM hS => ?_)
  have hW := xW_mu (k := 2) (n := 0) (t := 4) (x := ((V0 2 0 4) + (1 : Int32))) hW (fun h9 => Bool.noConfusion (show false = true from h9))
  refine lv_iconst (v := 0) hx hb dX7_passTick_10 (by decide) ?_
  refine lv_istore_n (lv' := [(1, .int (0 : Int32)), (0, .ref (ad 2 0))]) hx hb dX7_passTick_11 rfl hl (by decide) rfl (fun ls hl => ?_)
  exact hb12 fu _ _ _ _ h _ _  hM hW hc1 hS ls (lv_sub hl [1, 0] rfl)
/-! X7_tick -/
def lpX7_tick_29 (L : Nat → Nat → Nat)  : Nat → Int32 → Int32 → mM → Nat × Nat → Option (Int32 × mM × (Nat × Nat))
  | 0, _, _, _, _ => none
  | n9 + 1, x1, x2, V, c => if x1 ≤ x2 then (some ((V 2 0 4), V, c)) else ((fX7_passTick L V c).bind fun u_2 => lpX7_tick_29 L n9 x1 (x2 + 1) u_2.1 u_2.2)
def fX7_tick (L : Nat → Nat → Nat) (px1 : Int32) (V0 : mM) (c0 : Nat × Nat) : Option (Int32 × mM × (Nat × Nat)) := (fX7_within L px1 (1 : Int32) (50 : Int32) V0 c0).bind fun u_5 => if u_5 = 0 then (some ((-1 : Int32), V0, c0)) else (if ((V0 2 0 4) + px1) ≤ (400 : Int32) then (lpX7_tick_29 L fu px1 (0 : Int32) V0 c0) else (some ((-2 : Int32), V0, c0)))
theorem molpX7_tick_29 {L : Nat → Nat → Nat} {res : Int32 × mM × (Nat × Nat)} {n9 : Nat} : ∀ {x1 : Int32} {x2 : Int32} {V : mM} {c : Nat × Nat}, lpX7_tick_29 L n9 x1 x2 V c = some res → c.1 + c.2 ≤ res.2.2.1 + res.2.2.2 := by
  induction n9 with
  | zero =>
    intro x1 x2 V c h
    rw [lpX7_tick_29] at h
    cases h
  | succ n9 ih =>
    intro x1 x2 V c h
    rw [lpX7_tick_29] at h
    by_cases m_901 : x1 ≤ x2
    · have h := iteT m_901 h
      have e9 := Option.some.inj h
      subst e9
      first | exact Nat.le_refl _ | assumption | (dsimp only at *; omega)
    · have h := iteF m_901 h
      obtain ⟨u_2, hu_2, h⟩ := bindS h
      have := moX7_passTick hu_2
      have := ih h
      first | assumption | omega
theorem moX7_tick {L : Nat → Nat → Nat} {res : Int32 × mM × (Nat × Nat)} {px1 : Int32} {V0 : mM} {c0 : Nat × Nat} (h : fX7_tick L px1 V0 c0 = some res) : c0.1 + c0.2 ≤ res.2.2.1 + res.2.2.2 := by
  unfold fX7_tick at h
  obtain ⟨u_5, hu_5, h⟩ := bindS h
  by_cases m_901 : u_5 = 0
  · have h := iteT m_901 h
    have e9 := Option.some.inj h
    subst e9
    first | exact Nat.le_refl _ | assumption | (dsimp only at *; omega)
  · have h := iteF m_901 h
    by_cases m_902 : ((V0 2 0 4) + px1) ≤ (400 : Int32)
    · have h := iteT m_902 h
      have := molpX7_tick_29 h
      first | assumption | omega
    · have h := iteF m_902 h
      have e9 := Option.some.inj h
      subst e9
      first | exact Nat.le_refl _ | assumption | (dsimp only at *; omega)
set_option maxHeartbeats 4000000 in
set_option maxRecDepth 100000 in
theorem kX7_tick (l : Launch) {dC : Nat → ClassId} {dI : Nat → Nat → Nat} {A : Nat → Prop} {ad : Nat → Nat → Nat} {cnt : Nat} {L : Nat → Nat → Nat} {cI cS cW : ClassId} {q : Nat × Nat} (hsh : xSh cnt L) (px1 : Int32) (V0 : mM) (c0 : Nat × Nat) {res : Int32 × mM × (Nat × Nat)} (h : fX7_tick L px1 V0 c0 = some res) : Met l yX7_tick wsX7_tick ({ frames := 8, cells := ((res.2.2.1 + res.2.2.2) / 64 - (c0.1 + c0.2) / 64), slots := (2 * (res.2.2.1 + res.2.2.2) - 2 * (c0.1 + c0.2)), locals := 185 } : Room) (va_Pc [.ref (ad 2 0), .int px1] (fun U => xM dC dI A ad cnt L cI cS cW q V0 c0 U)) (va_Qi (fun r9 (_ : Nat × Nat) => r9 = res.1) (fun u9 t9 => xM dC dI A ad cnt L cI cS cW u9 res.2.1 res.2.2 t9) A) ((res.2.2.1 + res.2.2.2) / 64 - (c0.1 + c0.2) / 64) (2 * (res.2.2.1 + res.2.2.2) - 2 * (c0.1 + c0.2)) A := by
  refine Met.ofW (cc := cX7_tick) (maxL := 3) (ret := (some .int)) (by decide) rfl ?_
  intro p e s m args below meth cd s₁ B hml hv
  obtain ⟨rfl, hM, hK, hW, hAs⟩ := hv
  have hx := B.exec
  have hb := B.bytes
  have hr := B.returns
  have hts := atoms_spec (ws := wsX7_tick) B.pre
  have hown : s.vm.findClass RX7 = some m.cls := findClass_of_methodNamed B.named
  have hlocks := B.notSynchronized
  have hS : va_S A s.heap s.heap [] := va_S.rf
  have hc1 : c0.1 + c0.2 ≤ c0.1 + c0.2 := Nat.le_refl _
  have k80 := hts (.fieldLink RX7 80 "StageDesk" "now" "I") (by decide +kernel)
  have inX7 : ∀ w ∈ u_ws RX7 TX7 7, w ∈ wsX7_tick := by decide +kernel
  have hb29 : ∀ (n9 : Nat), ∀ (x1 : Int32) (x2 : Int32) (V : mM) (c : Nat × Nat) (q : Nat × Nat), lpX7_tick_29 L n9 x1 x2 V c = some res → ∀ (H : Heap) (locs : List Loc), mP (dC, dI) vwCl A (xad ad q) (xce cI cS cW ad q L c) (xex cnt L) V H → xW cnt V → c0.1 + c0.2 ≤ c.1 + c.2 → va_S A s.heap H locs → ∀ (ls : Array Slot), lv_has ls 3 [(0, .ref (ad 2 0)), (1, .int x1), (2, .int x2)] → W p l e (headSpec wsX7_tick ({ frames := 8, cells := ((res.2.2.1 + res.2.2.2) / 64 - (c0.1 + c0.2) / 64), slots := (2 * (res.2.2.1 + res.2.2.2) - 2 * (c0.1 + c0.2)), locals := 185 } : Room)).room s m ([.ref (ad 2 0), .int px1] : List Value).toArray below meth cd H locs ((c.1 + c.2) / 64 - (c0.1 + c0.2) / 64) (2 * (c.1 + c.2) - 2 * (c0.1 + c0.2)) (MQ below (va_Qi (fun r9 (_ : Nat × Nat) => r9 = res.1) (fun u9 t9 => xM dC dI A ad cnt L cI cS cW u9 res.2.1 res.2.2 t9) A) ([.ref (ad 2 0), .int px1] : List Value).toArray s ((res.2.2.1 + res.2.2.2) / 64 - (c0.1 + c0.2) / 64) (2 * (res.2.2.1 + res.2.2.2) - 2 * (c0.1 + c0.2)) A) (F0 m 29 ls []) := by
    intro  n9
    induction n9 with
    | zero =>
      intro x1 x2 V c q h H locs hM hW hc1 hS ls hl
      rw [lpX7_tick_29] at h
      cases h
    | succ n9 ih =>
      intro x1 x2 V c q h H locs hM hW hc1 hS ls hl
      rw [lpX7_tick_29] at h
      have hmoi : ∀ (x1 : Int32) (x2 : Int32) (V : mM) (c : Nat × Nat), lpX7_tick_29 L n9 x1 x2 V c = some res → c.1 + c.2 ≤ res.2.2.1 + res.2.2.2 := fun _ _ _ _ h => molpX7_tick_29 h
      refine lv_iload_n hx hb dX7_tick_29 rfl (lv_at hl 2 rfl) ?_
      refine lv_iload_n hx hb dX7_tick_30 rfl (lv_at hl 1 rfl) ?_
      refine lv_icmp_ge (tgt := 44) hx hb dX7_tick_31 (by decide) (fun c_1 => ?_) (fun c_1 => ?_)
      · have h := iteT c_1 h
        refine lv_aload_n hx hb dX7_tick_44 rfl (lv_at hl 0 rfl) ?_
        refine mm_get (C := RX7) (T := TX7) (N := 7) (ci := 7) hx hb hts inX7 hown hK hM 2 0 xe2 rfl rfl 4 (by decide) k80 (fun _ h9 => h9) rfl dX7_tick_45 ?_
        have e9 : ((V 2 0 4), V, c) = res := Option.some.inj h
        subst e9
        exact W.iret (v := (V 2 0 4)) hx hb hr (fun t9 ht9 hW9 => ⟨⟨_, q, rfl, rfl, xM_of hM hK hW hAs hS.1 ht9 hW9⟩, hS.F ht9⟩) hS.2.2 dX7_tick_48
      · have h := iteF c_1 h
        refine lv_aload_n hx hb dX7_tick_34 rfl (lv_at hl 0 rfl) ?_
        obtain ⟨u_2, hu_2, h⟩ := bindS h
        have hz_3 : u_2.2.1 + u_2.2.2 ≤ res.2.2.1 + res.2.2.2 := by
          have := hmoi _ _ _ _ h
          first | assumption | omega
        have hz_3_m := moX7_passTick hu_2
        refine va_callv (va_runV (As := []) (rest := []) ⟨hx, hb, hml, hown, hts⟩ (kX7_passTick l hsh V c hu_2) (cwV 0 hts gX7_tick_X7_passTick rfl rfl rfl (by decide +kernel) ⟨Nat.le_of_ble_eq_true rfl, Nat.le_of_ble_eq_true rfl⟩) ⟨fun a U g9 mk w9 => ⟨w9.1, xM_calling w9.2⟩, mP_recv (q := (RX7, TX7, 7)) hK hM xe2 rfl rfl, fun U hU hWm => ⟨rfl, xM_of hM hK hW hAs hS.1 hU hWm⟩⟩ rfl rfl hl.1 rfl (lv_room (Nat.le_of_ble_eq_true rfl)) dX7_tick_35 ⟨(show ((c.1 + c.2) / 64 - (c0.1 + c0.2) / 64) + ((u_2.2.1 + u_2.2.2) / 64 - (c.1 + c.2) / 64) ≤ ((res.2.2.1 + res.2.2.2) / 64 - (c0.1 + c0.2) / 64) from by omega), (show (2 * (c.1 + c.2) - 2 * (c0.1 + c0.2)) + (2 * (u_2.2.1 + u_2.2.2) - 2 * (c.1 + c.2)) ≤ (2 * (res.2.2.1 + res.2.2.2) - 2 * (c0.1 + c0.2)) from by omega)⟩) hS (fun _ _ h9 => h9) (fun _ h9 => h9) (fun q_4 t9 H locs ht9 _ hw9 hB9 _ _ hS => ?_)
        obtain ⟨hM, -, hW, -⟩ := hB9
        rw [ht9] at hM
        refine W.widen (k := ((u_2.2.1 + u_2.2.2) / 64 - (c0.1 + c0.2) / 64)) (n := (2 * (u_2.2.1 + u_2.2.2) - 2 * (c0.1 + c0.2))) (by omega) (by omega) ?_
        have hc1 : c0.1 + c0.2 ≤ u_2.2.1 + u_2.2.2 := by omega
        refine lv_iinc (v := (x2 + 1)) (lv' := [(2, .int (x2 + 1)), (0, .ref (ad 2 0)), (1, .int x1)]) hx hb dX7_tick_38 hl (k := 2) rfl rfl (by decide) rfl (fun ls hl => ?_)
        refine lv_goto (tgt := 29) hx hb dX7_tick_41 (by decide) ?_
        exact ih _ _ _ _ _ h _ _  hM hW hc1 hS ls (lv_sub hl [1, 2, 0] rfl)
  have hl := lv_entry ([.ref (ad 2 0), .int px1]) (n := 3) (Nat.le_of_ble_eq_true rfl)
  rw [lg_entry_eq]
  generalize (lg_sl ([.ref (ad 2 0), .int px1]) ++ List.replicate (3 - (lg_sl ([.ref (ad 2 0), .int px1])).length) Slot.unset).toArray = ls at hl ⊢
  have hl : lv_has ls 3 [(0, .ref (ad 2 0)), (1, .int px1)] := hl
  unfold fX7_tick at h
  refine W.widen (k := ((c0.1 + c0.2) / 64 - (c0.1 + c0.2) / 64)) (n := (2 * (c0.1 + c0.2) - 2 * (c0.1 + c0.2))) (by omega) (by omega) ?_
  refine lv_iload_n hx hb dX7_tick_0 rfl (lv_at hl 1 rfl) ?_
  refine lv_iconst (v := 1) hx hb dX7_tick_1 (by decide) ?_
  refine lv_bipush (v := 50) hx hb dX7_tick_2 (by decide) ?_
  obtain ⟨u_5, hu_5, h⟩ := bindS h
  have hz_6 : c0.1 + c0.2 ≤ res.2.2.1 + res.2.2.2 := by
    by_cases m_507 : u_5 = 0
    · have h := iteT m_507 h
      have e9 := Option.some.inj h
      subst e9
      first | exact Nat.le_refl _ | assumption | (dsimp only at *; omega)
    · have h := iteF m_507 h
      by_cases m_508 : ((V0 2 0 4) + px1) ≤ (400 : Int32)
      · have h := iteT m_508 h
        have := molpX7_tick_29 h
        first | assumption | omega
      · have h := iteF m_508 h
        have e9 := Option.some.inj h
        subst e9
        first | exact Nat.le_refl _ | assumption | (dsimp only at *; omega)
  refine va_calli (va_runS (As := [.int px1, .int (1 : Int32), .int (50 : Int32)]) (rest := []) ⟨hx, hb, hml, hown, hts⟩ (kX7_within l hsh px1 (1 : Int32) (50 : Int32) V0 c0 hu_5) (va_cwS 3 hts gX7_tick_X7_within rfl rfl rfl (by decide +kernel) ⟨Nat.le_of_ble_eq_true rfl, Nat.le_of_ble_eq_true rfl⟩) ⟨fun a U g9 mk w9 => ⟨w9.1, xM_calling w9.2⟩, fun U hU hWm => ⟨rfl, xM_of hM hK hW hAs hS.1 hU hWm⟩⟩ rfl rfl hl.1 rfl (lv_room (Nat.le_of_ble_eq_true rfl)) dX7_tick_4 ⟨(show ((c0.1 + c0.2) / 64 - (c0.1 + c0.2) / 64) + 0 ≤ ((res.2.2.1 + res.2.2.2) / 64 - (c0.1 + c0.2) / 64) from by omega), (show (2 * (c0.1 + c0.2) - 2 * (c0.1 + c0.2)) + 0 ≤ (2 * (res.2.2.1 + res.2.2.2) - 2 * (c0.1 + c0.2)) from by omega)⟩) hS (fun _ _ h9 => h9) (fun _ h9 => h9) (fun r9 u9 t9 H locs ht9 _ hw9 hB9 _ _ hS => ?_)
  rw [show r9 = u_5 from hw9]
  obtain ⟨hM, -, hW, -⟩ := hB9
  rw [ht9] at hM
  refine lv_if_ne (tgt := 12) hx hb dX7_tick_7 (by decide) (fun c_7 => ?_) (fun c_7 => ?_)
  · have h := iteF c_7 h
    refine lv_aload_n hx hb dX7_tick_12 rfl (lv_at hl 0 rfl) ?_
    refine mm_get (C := RX7) (T := TX7) (N := 7) (ci := 7) hx hb hts inX7 hown hK hM 2 0 xe2 rfl rfl 4 (by decide) k80 (fun _ h9 => h9) rfl dX7_tick_13 ?_
    refine lv_iload_n hx hb dX7_tick_16 rfl (lv_at hl 1 rfl) ?_
    refine lv_iadd hx hb dX7_tick_17 ?_
    refine lv_sipush (v := 400) hx hb dX7_tick_18 (by decide) ?_
    refine lv_icmp_le (tgt := 27) hx hb dX7_tick_21 (by decide) (fun c_8 => ?_) (fun c_8 => ?_)
    · have h := iteT c_8 h
      refine lv_iconst (v := 0) hx hb dX7_tick_27 (by decide) ?_
      refine lv_istore_n (lv' := [(2, .int (0 : Int32)), (0, .ref (ad 2 0)), (1, .int px1)]) hx hb dX7_tick_28 rfl hl (by decide) rfl (fun ls hl => ?_)
      exact hb29 fu _ _ _ _ _ h _ _  hM hW hc1 hS ls (lv_sub hl [1, 2, 0] rfl)
    · have h := iteF c_8 h
      refine lv_bipush (v := (-2)) hx hb dX7_tick_24 (by decide) ?_
      have e9 : ((-2 : Int32), V0, c0) = res := Option.some.inj h
      subst e9
      exact W.iret (v := (-2 : Int32)) hx hb hr (fun t9 ht9 hW9 => ⟨⟨_, q, rfl, rfl, xM_of hM hK hW hAs hS.1 ht9 hW9⟩, hS.F ht9⟩) hS.2.2 dX7_tick_26
  · have h := iteT c_7 h
    refine lv_iconst (v := (-1)) hx hb dX7_tick_10 (by decide) ?_
    have e9 : ((-1 : Int32), V0, c0) = res := Option.some.inj h
    subst e9
    exact W.iret (v := (-1 : Int32)) hx hb hr (fun t9 ht9 hW9 => ⟨⟨_, q, rfl, rfl, xM_of hM hK hW hAs hS.1 ht9 hW9⟩, hS.F ht9⟩) hS.2.2 dX7_tick_11
