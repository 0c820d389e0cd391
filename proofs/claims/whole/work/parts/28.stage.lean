/-! stage(): a stage more -/
theorem va_nd_of : ∀ (l : List Nat), l.Nodup → va_nd l = true
  | [], _ => rfl
  | a :: l, h => by
    have h := List.nodup_cons.mp h
    simp only [va_nd, Bool.and_eq_true, decide_eq_true_eq]
    exact ⟨h.1, va_nd_of l h.2⟩
theorem jn_last {A0 : Nat → Prop} {D : va_G} {cl : List vw_C} {ws w1 : va_W} {x : Nat × va_E} {H H1 : Heap} (hP : va_P D cl (ws ++ [x]) H) (hD : va_D A0 (ws ++ [x])) (hk : ∀ q : Nat, q < H.size → ¬ va_A [x] H.size q → H1[q]? = H[q]?) (hF : ∀ q, va_A [x] H.size q → A0 q) (hP1 : va_P D cl w1 H1) (hD1 : va_D (va_A [x] H.size) w1) : va_P D cl (ws ++ w1) H1 ∧ va_D A0 (ws ++ w1) := by
  refine va_join (wc := [x]) (wr := ws) hP hD [ws.length] (List.range ws.length) (by simp) ?_ (va_nd_of _ List.nodup_range) (fun i hi => by have := List.mem_range.mp hi; simp; omega) hk hF hP1 hD1
  apply List.ext_getElem?
  intro i
  rw [List.getElem?_map, List.getElem?_map]
  by_cases hi : i < ws.length
  · rw [List.getElem?_range hi, List.getElem?_eq_getElem hi]
    show some ((ws ++ [x])[i]?) = some (some ws[i])
    rw [List.getElem?_append_left hi, List.getElem?_eq_getElem hi]
  · rw [List.getElem?_eq_none (by simpa using hi), List.getElem?_eq_none (by simpa using hi)]
    rfl
theorem sp_last {A0 : Nat → Prop} {D : va_G} {cl : List vw_C} {ws : va_W} {x : Nat × va_E} {H : Heap} (hP : va_P D cl (ws ++ [x]) H) (hD : va_D A0 (ws ++ [x])) : va_P D cl [x] H ∧ va_D A0 [x] := by
  have hx : (ws ++ [x])[ws.length]? = some x := by simp
  refine ⟨fun j z hz => ?_, fun i j y z hi hj _ => ?_, fun j z hz => ?_⟩
  · match j, hz with
    | 0, hz => cases hz; exact hP _ _ hx
    | j + 1, hz => simp at hz
  · match i, j, hi, hj with
    | 0, 0, _, _ => rfl
    | i + 1, _, hi, _ => simp at hi
    | 0, j + 1, _, hj => simp at hj
  · match j, hz with
    | 0, hz => cases hz; exact hD.2 _ _ hx
    | j + 1, hz => simp at hz
section STG
variable {ad : Nat → Nat → Nat} {cnt h0 : Nat} {u : Nat → Nat} {L : Nat → Nat → Nat} {V : mM} {s b co : Int32} {cI cS cW : ClassId} {q : Nat × Nat} {c : Nat × Nat} {cap bn : Nat}
theorem stage_made {A : Nat → Prop} {D : va_G} {H : Heap} (h8 : cnt < 8) (hsh : xSh cnt L) (hc : cap ≤ 4) (hW : xW cnt V) {os : List (Nat × Nat)} (ho : ∀ k n : Nat, xex cnt L k n ↔ (k, n) ∈ os) (hP : va_P D vwCl (mw (xad ad q) (xce cI cS cW ad q L c) V os ++ mw (xad (nad ad cnt h0 u) q) (xce cI cS cW (nad ad cnt h0 u) q (nL L cnt cap bn) c) (nV V cnt s b co) (newIds cnt cap)) H) (hD : va_D A (mw (xad ad q) (xce cI cS cW ad q L c) V os ++ mw (xad (nad ad cnt h0 u) q) (xce cI cS cW (nad ad cnt h0 u) q (nL L cnt cap bn) c) (nV V cnt s b co) (newIds cnt cap))) : mP D vwCl A (xad (nad ad cnt h0 u) q) (xce cI cS cW (nad ad cnt h0 u) q (nL L cnt cap bn) c) (xex (cnt + 1) (nL L cnt cap bn)) (nV V cnt s b co) H := by
  have e1 : mw (xad ad q) (xce cI cS cW ad q L c) V os = mw (xad (nad ad cnt h0 u) q) (xce cI cS cW (nad ad cnt h0 u) q (nL L cnt cap bn) c) (nV V cnt s b co) os := by
    unfold mw
    apply List.map_congr_left
    intro o ho'
    have hx := (ho o.1 o.2).mpr ho'
    rw [xad_old h8 hx, xce_old h8 hsh hx hW]
  have key : mw (xad (nad ad cnt h0 u) q) (xce cI cS cW (nad ad cnt h0 u) q (nL L cnt cap bn) c) (nV V cnt s b co) os ++ mw (xad (nad ad cnt h0 u) q) (xce cI cS cW (nad ad cnt h0 u) q (nL L cnt cap bn) c) (nV V cnt s b co) (newIds cnt cap) = mw (xad (nad ad cnt h0 u) q) (xce cI cS cW (nad ad cnt h0 u) q (nL L cnt cap bn) c) (nV V cnt s b co) (os ++ newIds cnt cap) := by
    unfold mw
    rw [List.map_append]
  rw [e1, key] at hP hD
  exact ⟨os ++ newIds cnt cap, nodup_of_D hD, fun k n => by rw [xex_new hc, List.mem_append, ho k n], hP, hD⟩
theorem xSh_new (h8 : cnt < 8) (hsh : xSh cnt L) (hc : cap ≤ 4) : xSh (cnt + 1) (nL L cnt cap bn) := by
  refine ⟨by omega, fun i hi => ?_⟩
  by_cases h : i = cnt
  · subst h
    rw [nL_w]
    exact hc
  · rw [nL_old15 (by omega)]
    exact hsh.2 i (by omega)
theorem okS_mono {e : Int32} (h : okS cnt e) : okS (cnt + 1) e := h.elim Or.inl (fun h => Or.inr (by omega))
theorem xW_new (hW : xW cnt V) : xW (cnt + 1) (nV V cnt s b co) := by
  intro k n t hr
  unfold nV
  by_cases ho : own cnt k n = true
  · rw [if_pos ho]
    have h1 : ini s b co k t = -1 ∨ own cnt k n = false := by
      simp only [xrs, Bool.or_eq_true, Bool.and_eq_true, beq_iff_eq] at hr
      rcases hr with rfl | rfl | rfl | ⟨rfl, rfl | rfl⟩
      · exact Or.inr (by simp [own, isStK, isRwK, isWkK])
      · exact Or.inr (by simp [own, isStK, isRwK, isWkK])
      · exact Or.inl rfl
      · exact Or.inl rfl
      · exact Or.inl rfl
    rcases h1 with h1 | h1
    · rw [h1]; exact okS_null
    · rw [h1] at ho; cases ho
  · rw [if_neg ho]
    exact okS_mono (hW k n t hr)
end STG
def stV (V : mM) (cnt : Nat) (s b co : Int32) : mM := mu (mu (nV V cnt s b co) 4 0 (V 2 0 3).toNatClampNeg (Int32.ofNat cnt)) 2 0 3 (((mu (nV V cnt s b co) 4 0 (V 2 0 3).toNatClampNeg (Int32.ofNat cnt)) 2 0 3) + (1 : Int32))

set_option maxHeartbeats 4000000 in
set_option maxRecDepth 100000 in
theorem stage_alloc_1 {p : Program} {l : Launch} {e : Env} {R : Room} {s : State} {m : MethodId} {args : Array Value} {below : List Frame} {meth : Method} {cd : Code} {H : Heap} {locs : List Loc} {Q : State → Prop} {dC : Nat → ClassId} {dI : Nat → Nat → Nat} {A : Nat → Prop} {ad : Nat → Nat → Nat} {cnt : Nat} {L : Nat → Nat → Nat} {cI cS cW : ClassId} {q : Nat × Nat} {V0 : mM} {c0 : Nat × Nat} {ls : Array Slot} {px1 px2 px4 : Int32} {bn : Nat}
    (hx : p.tables.exec = Jvm.exec) (hb : cd.code = cX7_stage) (hml : cd.maxLocals = 5) (hown : s.vm.findClass RX7 = some m.cls) (hts : ∀ w ∈ wsX7_stage, w.before args s = true) (hsh : xSh cnt L) (h8 : cnt < 8) (hcnt : V0 2 0 3 = Int32.ofNat cnt) (hx2a : ¬ px2 < 0) (hx2b : px2.toNatClampNeg = bn) (hx2c : bn ≤ 32)
    (hK : va_K (dC, dI) vwCl [(cI, .int), (cS, .object RX3), (cW, .object RX6)] s) (hN : iNw s) (hM : mP (dC, dI) vwCl A (xad ad q) (xce cI cS cW ad q L c0) (xex cnt L) V0 H) (hW : xW cnt V0) (hAs : ∀ z : Nat, s.heap.size ≤ z → A z) (hS : va_S A s.heap H locs) (hl : lv_has ls 5 [(0, .ref (ad 2 0)), (1, .int px1), (2, .int px2), (3, .int 1), (4, .int px4)])
    (hR : 4 ≤ R.frames ∧ 86 ≤ R.locals) (hf : 45 ≤ R.cells ∧ 600 ≤ R.slots)
    (kk : ∀ (h0 : Nat) (u : Nat → Nat) (H1 : Heap) (locs1 : List Loc) (ls1 : Array Slot), mP (dC, dI) vwCl A (xad (nad ad cnt h0 u) q) (xce cI cS cW (nad ad cnt h0 u) q (nL L cnt 1 bn) c0) (xex (cnt + 1) (nL L cnt 1 bn)) (stV V0 cnt px1 px2 px4) H1 → xW (cnt + 1) (stV V0 cnt px1 px2 px4) → va_S A s.heap H1 locs1 → W p l e R s m args below meth cd H1 locs1 45 600 Q (F0 m 90 ls1 [.int ((stV V0 cnt px1 px2 px4 2 0 3) - (1 : Int32))])) :
    W p l e R s m args below meth cd H locs 0 0 Q (F0 m 53 ls []) := by
  have k11 := hts (.fieldLink RX7 11 "StageDesk" "stages" "[LStageDesk$Stage;") (by decide +kernel)
  have k33 := hts (.fieldLink RX7 33 "StageDesk" "stageCount" "I") (by decide +kernel)
  have inX7 : ∀ w ∈ u_ws RX7 TX7 7, w ∈ wsX7_stage := by decide +kernel
  have inX3 : ∀ w ∈ u_ws RX3 TX3 19, w ∈ wsX7_stage := by decide +kernel
  refine lv_aload_n hx hb dX7_stage_53 rfl (lv_at hl 0 rfl) ?_
  refine mm_get (C := RX7) (T := TX7) (N := 7) (ci := 7) hx hb hts inX7 hown hK hM 2 0 xe2 rfl rfl 0 (by decide) k11 (fun _ h9 => h9) rfl dX7_stage_54 ?_
  refine lv_aload_n hx hb dX7_stage_57 rfl (lv_at hl 0 rfl) ?_
  refine mm_get (C := RX7) (T := TX7) (N := 7) (ci := 7) hx hb hts inX7 hown hK hM 2 0 xe2 rfl rfl 3 (by decide) k33 (fun _ h9 => h9) rfl dX7_stage_58 ?_
  obtain ⟨os, hno, ho, hP, hD⟩ := hM
  refine va_new (ci := 3) (fs := [.int 0, .int 0, .int 0, .null, .null, .null, .null, .null, .int 0, .int 0, .int 0, .int 0, .int 0, .int 0, .int 0, .int 0, .int 0, .int 0, .int 0]) (C := RX3) (T := TX3) (N := 19) hx hb hts inX3 tyX3 tyX3_ok hown (hts (.classLink RX7 9 RX3) (by decide +kernel)) (hts (.instantiable RX3 19) (by decide +kernel)) (hts (.initialized RX3) (by decide +kernel)) hK hP hD hS hAs rfl (fun j hj => by rcases (show j = 0 ∨ j = 1 ∨ j = 2 ∨ j = 3 ∨ j = 4 ∨ j = 5 ∨ j = 6 ∨ j = 7 ∨ j = 8 ∨ j = 9 ∨ j = 10 ∨ j = 11 ∨ j = 12 ∨ j = 13 ∨ j = 14 ∨ j = 15 ∨ j = 16 ∨ j = 17 ∨ j = 18 by omega) with rfl | rfl | rfl | rfl | rfl | rfl | rfl | rfl | rfl | rfl | rfl | rfl | rfl | rfl | rfl | rfl | rfl | rfl | rfl <;> rfl) (by omega) (by omega) dX7_stage_61 (fun h0 H hP hD hS => ?_)
  refine lv_dup hx hb dX7_stage_64 rfl ?_
  refine lv_iload_n hx hb dX7_stage_65 rfl (lv_at hl 1 rfl) ?_
  refine lv_iload_n hx hb dX7_stage_66 rfl (lv_at hl 2 rfl) ?_
  refine lv_iload_n hx hb dX7_stage_67 rfl (lv_at hl 3 rfl) ?_
  refine lv_iload hx hb dX7_stage_68 (lv_at hl 4 rfl) ?_
  obtain ⟨hPc, hDc⟩ := sp_last hP hD
  have hS0 := hS.1
  have hFc : ∀ z : Nat, va_A [(h0, .inr (3, [.int 0, .int 0, .int 0, .null, .null, .null, .null, .null, .int 0, .int 0, .int 0, .int 0, .int 0, .int 0, .int 0, .int 0, .int 0, .int 0, .int 0]))] H.size z → A z := by
    intro z hz
    rcases hz with ⟨j, e9, hz⟩ | hz
    · match j, hz with
      | 0, hz => cases hz; exact hDc.2 0 _ rfl
      | j + 1, hz => simp at hz
    · exact hAs z (Nat.le_trans hS0 hz)
  refine va_callv (va_runI (As := [.int px1, .int px2, .int 1, .int px4]) (rest := [.ref h0, .int (V0 2 0 3), .ref (ad 4 0)]) ⟨hx, hb, hml, hown, hts⟩ (kX3_init_1 l dC dI h0 H.size cI cS cW px1 px2 bn hx2a hx2b hx2c px4) (cwI 4 hts gX7_stage_X3_init rfl rfl rfl (hts (.initialized RX3) (by decide +kernel)) (hts (.methodLink RX7 37 yX3_init) (by decide +kernel)) (hts (.instanceMethod yX3_init) (by decide +kernel)) rfl (by decide +kernel) ⟨hR.1, hR.2⟩) ⟨fun a U g9 mk w9 => ⟨w9.1, iPc_calling w9.2⟩, fun U hU hWm => ⟨rfl, iPc_of hPc hDc hK hN hU hWm⟩⟩ rfl rfl hl.1 rfl (lv_room (Nat.le_of_ble_eq_true rfl)) dX7_stage_70 ⟨(by omega), (by omega)⟩) hS (fun z _ h => hFc z h) hFc (fun u t9 H1 locs ht9 hvm9 _ hB9 hz1 hk1 hS => ?_)
  obtain ⟨hP1, hD1⟩ := hB9
  rw [ht9] at hP1
  obtain ⟨hP, hD⟩ := jn_last hP hD hk1 hFc hP1 hD1
  rw [← newW_1 (ad := ad) (L := L) (V := V0) (q := q) (c := c0) (cS := cS) (b := px2) h8] at hP hD
  have hM := stage_made h8 hsh (by decide) hW ho hP hD
  have hW := xW_new (s := px1) (b := px2) (co := px4) hW
  have hsh2 := xSh_new (bn := bn) h8 hsh (show 1 ≤ 4 by decide)
  have e2 : nad ad cnt h0 u 2 0 = ad 2 0 := nad_old (L := L) h8 xe2
  have e3 : nad ad cnt h0 u 3 cnt = h0 := nad_st rfl
  have e4 : nad ad cnt h0 u 4 0 = ad 4 0 := nad_old (L := L) h8 xe4
  have hin : vp_in (V0 2 0 3) 8 := by rw [hcnt]; exact vp_in_nI (n := cnt) h8 (by decide)
  have hstk : ([.ref h0, .int (V0 2 0 3), .ref (ad 4 0)] : List Value) = [.ref (nad ad cnt h0 u 3 cnt), .int (V0 2 0 3), .ref (nad ad cnt h0 u 4 0)] := by rw [e3, e4]
  rw [hstk]
  refine xx_aastR hsh2 (n2 := cnt) (show cnt < cnt + 1 by omega) hx hb hK hM hS 4 0 xe4 (fun _ => rfl) hin dX7_stage_73 (fun H locs hM hS => ?_)
  have hW := xW_mu (k := 4) (n := 0) (t := (V0 2 0 3).toNatClampNeg) (x := Int32.ofNat cnt) hW (fun _ => okS_nI hsh2 (show cnt < cnt + 1 by omega))
  rw [← e2] at hl
  refine lv_aload_n hx hb dX7_stage_74 rfl (lv_at hl 0 rfl) ?_
  refine lv_dup hx hb dX7_stage_75 rfl ?_
  refine mm_get (C := RX7) (T := TX7) (N := 7) (ci := 7) hx hb hts inX7 hown hK hM 2 0 xe2 rfl rfl 3 (by decide) k33 (fun _ h9 => h9) rfl dX7_stage_76 ?_
  refine lv_iconst (v := 1) hx hb dX7_stage_79 (by decide) ?_
  refine lv_iadd hx hb dX7_stage_80 ?_
  refine mm_put (C := RX7) (T := TX7) (N := 7) (ci := 7) (ty := .int) hx hb hts inX7 tyX7 tyX7_ok nmX7 hown hK hM hS 2 0 xe2 rfl rfl 3 (by decide) k33 (fun _ h9 => h9) rfl (by decide +kernel) rfl rfl (Nat.le_of_ble_eq_true rfl) (((mu (nV V0 cnt px1 px2 px4) 4 0 (V0 2 0 3).toNatClampNeg (Int32.ofNat cnt)) 2 0 3) + (1 : Int32)) rfl dX7_stage_81 (fun H locs hM hS => ?_)
  have hW := xW_mu (k := 2) (n := 0) (t := 3) (x := ((mu (nV V0 cnt px1 px2 px4) 4 0 (V0 2 0 3).toNatClampNeg (Int32.ofNat cnt)) 2 0 3) + (1 : Int32)) hW (fun h9 => Bool.noConfusion (show false = true from h9))
  refine lv_aload_n hx hb dX7_stage_84 rfl (lv_at hl 0 rfl) ?_
  refine mm_get (C := RX7) (T := TX7) (N := 7) (ci := 7) hx hb hts inX7 hown hK hM 2 0 xe2 rfl rfl 3 (by decide) k33 (fun _ h9 => h9) rfl dX7_stage_85 ?_
  refine lv_iconst (v := 1) hx hb dX7_stage_88 (by decide) ?_
  refine lv_isub hx hb dX7_stage_89 ?_
  refine W.widen (k := 45) (n := 600) (by omega) (by omega) ?_
  exact kk h0 u H locs ls hM hW hS
set_option maxHeartbeats 4000000 in
set_option maxRecDepth 100000 in
theorem stage_alloc_2 {p : Program} {l : Launch} {e : Env} {R : Room} {s : State} {m : MethodId} {args : Array Value} {below : List Frame} {meth : Method} {cd : Code} {H : Heap} {locs : List Loc} {Q : State → Prop} {dC : Nat → ClassId} {dI : Nat → Nat → Nat} {A : Nat → Prop} {ad : Nat → Nat → Nat} {cnt : Nat} {L : Nat → Nat → Nat} {cI cS cW : ClassId} {q : Nat × Nat} {V0 : mM} {c0 : Nat × Nat} {ls : Array Slot} {px1 px2 px4 : Int32} {bn : Nat}
    (hx : p.tables.exec = Jvm.exec) (hb : cd.code = cX7_stage) (hml : cd.maxLocals = 5) (hown : s.vm.findClass RX7 = some m.cls) (hts : ∀ w ∈ wsX7_stage, w.before args s = true) (hsh : xSh cnt L) (h8 : cnt < 8) (hcnt : V0 2 0 3 = Int32.ofNat cnt) (hx2a : ¬ px2 < 0) (hx2b : px2.toNatClampNeg = bn) (hx2c : bn ≤ 32)
    (hK : va_K (dC, dI) vwCl [(cI, .int), (cS, .object RX3), (cW, .object RX6)] s) (hN : iNw s) (hM : mP (dC, dI) vwCl A (xad ad q) (xce cI cS cW ad q L c0) (xex cnt L) V0 H) (hW : xW cnt V0) (hAs : ∀ z : Nat, s.heap.size ≤ z → A z) (hS : va_S A s.heap H locs) (hl : lv_has ls 5 [(0, .ref (ad 2 0)), (1, .int px1), (2, .int px2), (3, .int 2), (4, .int px4)])
    (hR : 4 ≤ R.frames ∧ 86 ≤ R.locals) (hf : 45 ≤ R.cells ∧ 600 ≤ R.slots)
    (kk : ∀ (h0 : Nat) (u : Nat → Nat) (H1 : Heap) (locs1 : List Loc) (ls1 : Array Slot), mP (dC, dI) vwCl A (xad (nad ad cnt h0 u) q) (xce cI cS cW (nad ad cnt h0 u) q (nL L cnt 2 bn) c0) (xex (cnt + 1) (nL L cnt 2 bn)) (stV V0 cnt px1 px2 px4) H1 → xW (cnt + 1) (stV V0 cnt px1 px2 px4) → va_S A s.heap H1 locs1 → W p l e R s m args below meth cd H1 locs1 45 600 Q (F0 m 90 ls1 [.int ((stV V0 cnt px1 px2 px4 2 0 3) - (1 : Int32))])) :
    W p l e R s m args below meth cd H locs 0 0 Q (F0 m 53 ls []) := by
  have k11 := hts (.fieldLink RX7 11 "StageDesk" "stages" "[LStageDesk$Stage;") (by decide +kernel)
  have k33 := hts (.fieldLink RX7 33 "StageDesk" "stageCount" "I") (by decide +kernel)
  have inX7 : ∀ w ∈ u_ws RX7 TX7 7, w ∈ wsX7_stage := by decide +kernel
  have inX3 : ∀ w ∈ u_ws RX3 TX3 19, w ∈ wsX7_stage := by decide +kernel
  refine lv_aload_n hx hb dX7_stage_53 rfl (lv_at hl 0 rfl) ?_
  refine mm_get (C := RX7) (T := TX7) (N := 7) (ci := 7) hx hb hts inX7 hown hK hM 2 0 xe2 rfl rfl 0 (by decide) k11 (fun _ h9 => h9) rfl dX7_stage_54 ?_
  refine lv_aload_n hx hb dX7_stage_57 rfl (lv_at hl 0 rfl) ?_
  refine mm_get (C := RX7) (T := TX7) (N := 7) (ci := 7) hx hb hts inX7 hown hK hM 2 0 xe2 rfl rfl 3 (by decide) k33 (fun _ h9 => h9) rfl dX7_stage_58 ?_
  obtain ⟨os, hno, ho, hP, hD⟩ := hM
  refine va_new (ci := 3) (fs := [.int 0, .int 0, .int 0, .null, .null, .null, .null, .null, .int 0, .int 0, .int 0, .int 0, .int 0, .int 0, .int 0, .int 0, .int 0, .int 0, .int 0]) (C := RX3) (T := TX3) (N := 19) hx hb hts inX3 tyX3 tyX3_ok hown (hts (.classLink RX7 9 RX3) (by decide +kernel)) (hts (.instantiable RX3 19) (by decide +kernel)) (hts (.initialized RX3) (by decide +kernel)) hK hP hD hS hAs rfl (fun j hj => by rcases (show j = 0 ∨ j = 1 ∨ j = 2 ∨ j = 3 ∨ j = 4 ∨ j = 5 ∨ j = 6 ∨ j = 7 ∨ j = 8 ∨ j = 9 ∨ j = 10 ∨ j = 11 ∨ j = 12 ∨ j = 13 ∨ j = 14 ∨ j = 15 ∨ j = 16 ∨ j = 17 ∨ j = 18 by omega) with rfl | rfl | rfl | rfl | rfl | rfl | rfl | rfl | rfl | rfl | rfl | rfl | rfl | rfl | rfl | rfl | rfl | rfl | rfl <;> rfl) (by omega) (by omega) dX7_stage_61 (fun h0 H hP hD hS => ?_)
  refine lv_dup hx hb dX7_stage_64 rfl ?_
  refine lv_iload_n hx hb dX7_stage_65 rfl (lv_at hl 1 rfl) ?_
  refine lv_iload_n hx hb dX7_stage_66 rfl (lv_at hl 2 rfl) ?_
  refine lv_iload_n hx hb dX7_stage_67 rfl (lv_at hl 3 rfl) ?_
  refine lv_iload hx hb dX7_stage_68 (lv_at hl 4 rfl) ?_
  obtain ⟨hPc, hDc⟩ := sp_last hP hD
  have hS0 := hS.1
  have hFc : ∀ z : Nat, va_A [(h0, .inr (3, [.int 0, .int 0, .int 0, .null, .null, .null, .null, .null, .int 0, .int 0, .int 0, .int 0, .int 0, .int 0, .int 0, .int 0, .int 0, .int 0, .int 0]))] H.size z → A z := by
    intro z hz
    rcases hz with ⟨j, e9, hz⟩ | hz
    · match j, hz with
      | 0, hz => cases hz; exact hDc.2 0 _ rfl
      | j + 1, hz => simp at hz
    · exact hAs z (Nat.le_trans hS0 hz)
  refine va_callv (va_runI (As := [.int px1, .int px2, .int 2, .int px4]) (rest := [.ref h0, .int (V0 2 0 3), .ref (ad 4 0)]) ⟨hx, hb, hml, hown, hts⟩ (kX3_init_2 l dC dI h0 H.size cI cS cW px1 px2 bn hx2a hx2b hx2c px4) (cwI 4 hts gX7_stage_X3_init rfl rfl rfl (hts (.initialized RX3) (by decide +kernel)) (hts (.methodLink RX7 37 yX3_init) (by decide +kernel)) (hts (.instanceMethod yX3_init) (by decide +kernel)) rfl (by decide +kernel) ⟨hR.1, hR.2⟩) ⟨fun a U g9 mk w9 => ⟨w9.1, iPc_calling w9.2⟩, fun U hU hWm => ⟨rfl, iPc_of hPc hDc hK hN hU hWm⟩⟩ rfl rfl hl.1 rfl (lv_room (Nat.le_of_ble_eq_true rfl)) dX7_stage_70 ⟨(by omega), (by omega)⟩) hS (fun z _ h => hFc z h) hFc (fun u t9 H1 locs ht9 hvm9 _ hB9 hz1 hk1 hS => ?_)
  obtain ⟨hP1, hD1⟩ := hB9
  rw [ht9] at hP1
  obtain ⟨hP, hD⟩ := jn_last hP hD hk1 hFc hP1 hD1
  rw [← newW_2 (ad := ad) (L := L) (V := V0) (q := q) (c := c0) (cS := cS) (b := px2) h8] at hP hD
  have hM := stage_made h8 hsh (by decide) hW ho hP hD
  have hW := xW_new (s := px1) (b := px2) (co := px4) hW
  have hsh2 := xSh_new (bn := bn) h8 hsh (show 2 ≤ 4 by decide)
  have e2 : nad ad cnt h0 u 2 0 = ad 2 0 := nad_old (L := L) h8 xe2
  have e3 : nad ad cnt h0 u 3 cnt = h0 := nad_st rfl
  have e4 : nad ad cnt h0 u 4 0 = ad 4 0 := nad_old (L := L) h8 xe4
  have hin : vp_in (V0 2 0 3) 8 := by rw [hcnt]; exact vp_in_nI (n := cnt) h8 (by decide)
  have hstk : ([.ref h0, .int (V0 2 0 3), .ref (ad 4 0)] : List Value) = [.ref (nad ad cnt h0 u 3 cnt), .int (V0 2 0 3), .ref (nad ad cnt h0 u 4 0)] := by rw [e3, e4]
  rw [hstk]
  refine xx_aastR hsh2 (n2 := cnt) (show cnt < cnt + 1 by omega) hx hb hK hM hS 4 0 xe4 (fun _ => rfl) hin dX7_stage_73 (fun H locs hM hS => ?_)
  have hW := xW_mu (k := 4) (n := 0) (t := (V0 2 0 3).toNatClampNeg) (x := Int32.ofNat cnt) hW (fun _ => okS_nI hsh2 (show cnt < cnt + 1 by omega))
  rw [← e2] at hl
  refine lv_aload_n hx hb dX7_stage_74 rfl (lv_at hl 0 rfl) ?_
  refine lv_dup hx hb dX7_stage_75 rfl ?_
  refine mm_get (C := RX7) (T := TX7) (N := 7) (ci := 7) hx hb hts inX7 hown hK hM 2 0 xe2 rfl rfl 3 (by decide) k33 (fun _ h9 => h9) rfl dX7_stage_76 ?_
  refine lv_iconst (v := 1) hx hb dX7_stage_79 (by decide) ?_
  refine lv_iadd hx hb dX7_stage_80 ?_
  refine mm_put (C := RX7) (T := TX7) (N := 7) (ci := 7) (ty := .int) hx hb hts inX7 tyX7 tyX7_ok nmX7 hown hK hM hS 2 0 xe2 rfl rfl 3 (by decide) k33 (fun _ h9 => h9) rfl (by decide +kernel) rfl rfl (Nat.le_of_ble_eq_true rfl) (((mu (nV V0 cnt px1 px2 px4) 4 0 (V0 2 0 3).toNatClampNeg (Int32.ofNat cnt)) 2 0 3) + (1 : Int32)) rfl dX7_stage_81 (fun H locs hM hS => ?_)
  have hW := xW_mu (k := 2) (n := 0) (t := 3) (x := ((mu (nV V0 cnt px1 px2 px4) 4 0 (V0 2 0 3).toNatClampNeg (Int32.ofNat cnt)) 2 0 3) + (1 : Int32)) hW (fun h9 => Bool.noConfusion (show false = true from h9))
  refine lv_aload_n hx hb dX7_stage_84 rfl (lv_at hl 0 rfl) ?_
  refine mm_get (C := RX7) (T := TX7) (N := 7) (ci := 7) hx hb hts inX7 hown hK hM 2 0 xe2 rfl rfl 3 (by decide) k33 (fun _ h9 => h9) rfl dX7_stage_85 ?_
  refine lv_iconst (v := 1) hx hb dX7_stage_88 (by decide) ?_
  refine lv_isub hx hb dX7_stage_89 ?_
  refine W.widen (k := 45) (n := 600) (by omega) (by omega) ?_
  exact kk h0 u H locs ls hM hW hS
set_option maxHeartbeats 4000000 in
set_option maxRecDepth 100000 in
theorem stage_alloc_3 {p : Program} {l : Launch} {e : Env} {R : Room} {s : State} {m : MethodId} {args : Array Value} {below : List Frame} {meth : Method} {cd : Code} {H : Heap} {locs : List Loc} {Q : State → Prop} {dC : Nat → ClassId} {dI : Nat → Nat → Nat} {A : Nat → Prop} {ad : Nat → Nat → Nat} {cnt : Nat} {L : Nat → Nat → Nat} {cI cS cW : ClassId} {q : Nat × Nat} {V0 : mM} {c0 : Nat × Nat} {ls : Array Slot} {px1 px2 px4 : Int32} {bn : Nat}
    (hx : p.tables.exec = Jvm.exec) (hb : cd.code = cX7_stage) (hml : cd.maxLocals = 5) (hown : s.vm.findClass RX7 = some m.cls) (hts : ∀ w ∈ wsX7_stage, w.before args s = true) (hsh : xSh cnt L) (h8 : cnt < 8) (hcnt : V0 2 0 3 = Int32.ofNat cnt) (hx2a : ¬ px2 < 0) (hx2b : px2.toNatClampNeg = bn) (hx2c : bn ≤ 32)
    (hK : va_K (dC, dI) vwCl [(cI, .int), (cS, .object RX3), (cW, .object RX6)] s) (hN : iNw s) (hM : mP (dC, dI) vwCl A (xad ad q) (xce cI cS cW ad q L c0) (xex cnt L) V0 H) (hW : xW cnt V0) (hAs : ∀ z : Nat, s.heap.size ≤ z → A z) (hS : va_S A s.heap H locs) (hl : lv_has ls 5 [(0, .ref (ad 2 0)), (1, .int px1), (2, .int px2), (3, .int 3), (4, .int px4)])
    (hR : 4 ≤ R.frames ∧ 86 ≤ R.locals) (hf : 45 ≤ R.cells ∧ 600 ≤ R.slots)
    (kk : ∀ (h0 : Nat) (u : Nat → Nat) (H1 : Heap) (locs1 : List Loc) (ls1 : Array Slot), mP (dC, dI) vwCl A (xad (nad ad cnt h0 u) q) (xce cI cS cW (nad ad cnt h0 u) q (nL L cnt 3 bn) c0) (xex (cnt + 1) (nL L cnt 3 bn)) (stV V0 cnt px1 px2 px4) H1 → xW (cnt + 1) (stV V0 cnt px1 px2 px4) → va_S A s.heap H1 locs1 → W p l e R s m args below meth cd H1 locs1 45 600 Q (F0 m 90 ls1 [.int ((stV V0 cnt px1 px2 px4 2 0 3) - (1 : Int32))])) :
    W p l e R s m args below meth cd H locs 0 0 Q (F0 m 53 ls []) := by
  have k11 := hts (.fieldLink RX7 11 "StageDesk" "stages" "[LStageDesk$Stage;") (by decide +kernel)
  have k33 := hts (.fieldLink RX7 33 "StageDesk" "stageCount" "I") (by decide +kernel)
  have inX7 : ∀ w ∈ u_ws RX7 TX7 7, w ∈ wsX7_stage := by decide +kernel
  have inX3 : ∀ w ∈ u_ws RX3 TX3 19, w ∈ wsX7_stage := by decide +kernel
  refine lv_aload_n hx hb dX7_stage_53 rfl (lv_at hl 0 rfl) ?_
  refine mm_get (C := RX7) (T := TX7) (N := 7) (ci := 7) hx hb hts inX7 hown hK hM 2 0 xe2 rfl rfl 0 (by decide) k11 (fun _ h9 => h9) rfl dX7_stage_54 ?_
  refine lv_aload_n hx hb dX7_stage_57 rfl (lv_at hl 0 rfl) ?_
  refine mm_get (C := RX7) (T := TX7) (N := 7) (ci := 7) hx hb hts inX7 hown hK hM 2 0 xe2 rfl rfl 3 (by decide) k33 (fun _ h9 => h9) rfl dX7_stage_58 ?_
  obtain ⟨os, hno, ho, hP, hD⟩ := hM
  refine va_new (ci := 3) (fs := [.int 0, .int 0, .int 0, .null, .null, .null, .null, .null, .int 0, .int 0, .int 0, .int 0, .int 0, .int 0, .int 0, .int 0, .int 0, .int 0, .int 0]) (C := RX3) (T := TX3) (N := 19) hx hb hts inX3 tyX3 tyX3_ok hown (hts (.classLink RX7 9 RX3) (by decide +kernel)) (hts (.instantiable RX3 19) (by decide +kernel)) (hts (.initialized RX3) (by decide +kernel)) hK hP hD hS hAs rfl (fun j hj => by rcases (show j = 0 ∨ j = 1 ∨ j = 2 ∨ j = 3 ∨ j = 4 ∨ j = 5 ∨ j = 6 ∨ j = 7 ∨ j = 8 ∨ j = 9 ∨ j = 10 ∨ j = 11 ∨ j = 12 ∨ j = 13 ∨ j = 14 ∨ j = 15 ∨ j = 16 ∨ j = 17 ∨ j = 18 by omega) with rfl | rfl | rfl | rfl | rfl | rfl | rfl | rfl | rfl | rfl | rfl | rfl | rfl | rfl | rfl | rfl | rfl | rfl | rfl <;> rfl) (by omega) (by omega) dX7_stage_61 (fun h0 H hP hD hS => ?_)
  refine lv_dup hx hb dX7_stage_64 rfl ?_
  refine lv_iload_n hx hb dX7_stage_65 rfl (lv_at hl 1 rfl) ?_
  refine lv_iload_n hx hb dX7_stage_66 rfl (lv_at hl 2 rfl) ?_
  refine lv_iload_n hx hb dX7_stage_67 rfl (lv_at hl 3 rfl) ?_
  refine lv_iload hx hb dX7_stage_68 (lv_at hl 4 rfl) ?_
  obtain ⟨hPc, hDc⟩ := sp_last hP hD
  have hS0 := hS.1
  have hFc : ∀ z : Nat, va_A [(h0, .inr (3, [.int 0, .int 0, .int 0, .null, .null, .null, .null, .null, .int 0, .int 0, .int 0, .int 0, .int 0, .int 0, .int 0, .int 0, .int 0, .int 0, .int 0]))] H.size z → A z := by
    intro z hz
    rcases hz with ⟨j, e9, hz⟩ | hz
    · match j, hz with
      | 0, hz => cases hz; exact hDc.2 0 _ rfl
      | j + 1, hz => simp at hz
    · exact hAs z (Nat.le_trans hS0 hz)
  refine va_callv (va_runI (As := [.int px1, .int px2, .int 3, .int px4]) (rest := [.ref h0, .int (V0 2 0 3), .ref (ad 4 0)]) ⟨hx, hb, hml, hown, hts⟩ (kX3_init_3 l dC dI h0 H.size cI cS cW px1 px2 bn hx2a hx2b hx2c px4) (cwI 4 hts gX7_stage_X3_init rfl rfl rfl (hts (.initialized RX3) (by decide +kernel)) (hts (.methodLink RX7 37 yX3_init) (by decide +kernel)) (hts (.instanceMethod yX3_init) (by decide +kernel)) rfl (by decide +kernel) ⟨hR.1, hR.2⟩) ⟨fun a U g9 mk w9 => ⟨w9.1, iPc_calling w9.2⟩, fun U hU hWm => ⟨rfl, iPc_of hPc hDc hK hN hU hWm⟩⟩ rfl rfl hl.1 rfl (lv_room (Nat.le_of_ble_eq_true rfl)) dX7_stage_70 ⟨(by omega), (by omega)⟩) hS (fun z _ h => hFc z h) hFc (fun u t9 H1 locs ht9 hvm9 _ hB9 hz1 hk1 hS => ?_)
  obtain ⟨hP1, hD1⟩ := hB9
  rw [ht9] at hP1
  obtain ⟨hP, hD⟩ := jn_last hP hD hk1 hFc hP1 hD1
  rw [← newW_3 (ad := ad) (L := L) (V := V0) (q := q) (c := c0) (cS := cS) (b := px2) h8] at hP hD
  have hM := stage_made h8 hsh (by decide) hW ho hP hD
  have hW := xW_new (s := px1) (b := px2) (co := px4) hW
  have hsh2 := xSh_new (bn := bn) h8 hsh (show 3 ≤ 4 by decide)
  have e2 : nad ad cnt h0 u 2 0 = ad 2 0 := nad_old (L := L) h8 xe2
  have e3 : nad ad cnt h0 u 3 cnt = h0 := nad_st rfl
  have e4 : nad ad cnt h0 u 4 0 = ad 4 0 := nad_old (L := L) h8 xe4
  have hin : vp_in (V0 2 0 3) 8 := by rw [hcnt]; exact vp_in_nI (n := cnt) h8 (by decide)
  have hstk : ([.ref h0, .int (V0 2 0 3), .ref (ad 4 0)] : List Value) = [.ref (nad ad cnt h0 u 3 cnt), .int (V0 2 0 3), .ref (nad ad cnt h0 u 4 0)] := by rw [e3, e4]
  rw [hstk]
  refine xx_aastR hsh2 (n2 := cnt) (show cnt < cnt + 1 by omega) hx hb hK hM hS 4 0 xe4 (fun _ => rfl) hin dX7_stage_73 (fun H locs hM hS => ?_)
  have hW := xW_mu (k := 4) (n := 0) (t := (V0 2 0 3).toNatClampNeg) (x := Int32.ofNat cnt) hW (fun _ => okS_nI hsh2 (show cnt < cnt + 1 by omega))
  rw [← e2] at hl
  refine lv_aload_n hx hb dX7_stage_74 rfl (lv_at hl 0 rfl) ?_
  refine lv_dup hx hb dX7_stage_75 rfl ?_
  refine mm_get (C := RX7) (T := TX7) (N := 7) (ci := 7) hx hb hts inX7 hown hK hM 2 0 xe2 rfl rfl 3 (by decide) k33 (fun _ h9 => h9) rfl dX7_stage_76 ?_
  refine lv_iconst (v := 1) hx hb dX7_stage_79 (by decide) ?_
  refine lv_iadd hx hb dX7_stage_80 ?_
  refine mm_put (C := RX7) (T := TX7) (N := 7) (ci := 7) (ty := .int) hx hb hts inX7 tyX7 tyX7_ok nmX7 hown hK hM hS 2 0 xe2 rfl rfl 3 (by decide) k33 (fun _ h9 => h9) rfl (by decide +kernel) rfl rfl (Nat.le_of_ble_eq_true rfl) (((mu (nV V0 cnt px1 px2 px4) 4 0 (V0 2 0 3).toNatClampNeg (Int32.ofNat cnt)) 2 0 3) + (1 : Int32)) rfl dX7_stage_81 (fun H locs hM hS => ?_)
  have hW := xW_mu (k := 2) (n := 0) (t := 3) (x := ((mu (nV V0 cnt px1 px2 px4) 4 0 (V0 2 0 3).toNatClampNeg (Int32.ofNat cnt)) 2 0 3) + (1 : Int32)) hW (fun h9 => Bool.noConfusion (show false = true from h9))
  refine lv_aload_n hx hb dX7_stage_84 rfl (lv_at hl 0 rfl) ?_
  refine mm_get (C := RX7) (T := TX7) (N := 7) (ci := 7) hx hb hts inX7 hown hK hM 2 0 xe2 rfl rfl 3 (by decide) k33 (fun _ h9 => h9) rfl dX7_stage_85 ?_
  refine lv_iconst (v := 1) hx hb dX7_stage_88 (by decide) ?_
  refine lv_isub hx hb dX7_stage_89 ?_
  refine W.widen (k := 45) (n := 600) (by omega) (by omega) ?_
  exact kk h0 u H locs ls hM hW hS
set_option maxHeartbeats 4000000 in
set_option maxRecDepth 100000 in
theorem stage_alloc_4 {p : Program} {l : Launch} {e : Env} {R : Room} {s : State} {m : MethodId} {args : Array Value} {below : List Frame} {meth : Method} {cd : Code} {H : Heap} {locs : List Loc} {Q : State → Prop} {dC : Nat → ClassId} {dI : Nat → Nat → Nat} {A : Nat → Prop} {ad : Nat → Nat → Nat} {cnt : Nat} {L : Nat → Nat → Nat} {cI cS cW : ClassId} {q : Nat × Nat} {V0 : mM} {c0 : Nat × Nat} {ls : Array Slot} {px1 px2 px4 : Int32} {bn : Nat}
    (hx : p.tables.exec = Jvm.exec) (hb : cd.code = cX7_stage) (hml : cd.maxLocals = 5) (hown : s.vm.findClass RX7 = some m.cls) (hts : ∀ w ∈ wsX7_stage, w.before args s = true) (hsh : xSh cnt L) (h8 : cnt < 8) (hcnt : V0 2 0 3 = Int32.ofNat cnt) (hx2a : ¬ px2 < 0) (hx2b : px2.toNatClampNeg = bn) (hx2c : bn ≤ 32)
    (hK : va_K (dC, dI) vwCl [(cI, .int), (cS, .object RX3), (cW, .object RX6)] s) (hN : iNw s) (hM : mP (dC, dI) vwCl A (xad ad q) (xce cI cS cW ad q L c0) (xex cnt L) V0 H) (hW : xW cnt V0) (hAs : ∀ z : Nat, s.heap.size ≤ z → A z) (hS : va_S A s.heap H locs) (hl : lv_has ls 5 [(0, .ref (ad 2 0)), (1, .int px1), (2, .int px2), (3, .int 4), (4, .int px4)])
    (hR : 4 ≤ R.frames ∧ 86 ≤ R.locals) (hf : 45 ≤ R.cells ∧ 600 ≤ R.slots)
    (kk : ∀ (h0 : Nat) (u : Nat → Nat) (H1 : Heap) (locs1 : List Loc) (ls1 : Array Slot), mP (dC, dI) vwCl A (xad (nad ad cnt h0 u) q) (xce cI cS cW (nad ad cnt h0 u) q (nL L cnt 4 bn) c0) (xex (cnt + 1) (nL L cnt 4 bn)) (stV V0 cnt px1 px2 px4) H1 → xW (cnt + 1) (stV V0 cnt px1 px2 px4) → va_S A s.heap H1 locs1 → W p l e R s m args below meth cd H1 locs1 45 600 Q (F0 m 90 ls1 [.int ((stV V0 cnt px1 px2 px4 2 0 3) - (1 : Int32))])) :
    W p l e R s m args below meth cd H locs 0 0 Q (F0 m 53 ls []) := by
  have k11 := hts (.fieldLink RX7 11 "StageDesk" "stages" "[LStageDesk$Stage;") (by decide +kernel)
  have k33 := hts (.fieldLink RX7 33 "StageDesk" "stageCount" "I") (by decide +kernel)
  have inX7 : ∀ w ∈ u_ws RX7 TX7 7, w ∈ wsX7_stage := by decide +kernel
  have inX3 : ∀ w ∈ u_ws RX3 TX3 19, w ∈ wsX7_stage := by decide +kernel
  refine lv_aload_n hx hb dX7_stage_53 rfl (lv_at hl 0 rfl) ?_
  refine mm_get (C := RX7) (T := TX7) (N := 7) (ci := 7) hx hb hts inX7 hown hK hM 2 0 xe2 rfl rfl 0 (by decide) k11 (fun _ h9 => h9) rfl dX7_stage_54 ?_
  refine lv_aload_n hx hb dX7_stage_57 rfl (lv_at hl 0 rfl) ?_
  refine mm_get (C := RX7) (T := TX7) (N := 7) (ci := 7) hx hb hts inX7 hown hK hM 2 0 xe2 rfl rfl 3 (by decide) k33 (fun _ h9 => h9) rfl dX7_stage_58 ?_
  obtain ⟨os, hno, ho, hP, hD⟩ := hM
  refine va_new (ci := 3) (fs := [.int 0, .int 0, .int 0, .null, .null, .null, .null, .null, .int 0, .int 0, .int 0, .int 0, .int 0, .int 0, .int 0, .int 0, .int 0, .int 0, .int 0]) (C := RX3) (T := TX3) (N := 19) hx hb hts inX3 tyX3 tyX3_ok hown (hts (.classLink RX7 9 RX3) (by decide +kernel)) (hts (.instantiable RX3 19) (by decide +kernel)) (hts (.initialized RX3) (by decide +kernel)) hK hP hD hS hAs rfl (fun j hj => by rcases (show j = 0 ∨ j = 1 ∨ j = 2 ∨ j = 3 ∨ j = 4 ∨ j = 5 ∨ j = 6 ∨ j = 7 ∨ j = 8 ∨ j = 9 ∨ j = 10 ∨ j = 11 ∨ j = 12 ∨ j = 13 ∨ j = 14 ∨ j = 15 ∨ j = 16 ∨ j = 17 ∨ j = 18 by omega) with rfl | rfl | rfl | rfl | rfl | rfl | rfl | rfl | rfl | rfl | rfl | rfl | rfl | rfl | rfl | rfl | rfl | rfl | rfl <;> rfl) (by omega) (by omega) dX7_stage_61 (fun h0 H hP hD hS => ?_)
  refine lv_dup hx hb dX7_stage_64 rfl ?_
  refine lv_iload_n hx hb dX7_stage_65 rfl (lv_at hl 1 rfl) ?_
  refine lv_iload_n hx hb dX7_stage_66 rfl (lv_at hl 2 rfl) ?_
  refine lv_iload_n hx hb dX7_stage_67 rfl (lv_at hl 3 rfl) ?_
  refine lv_iload hx hb dX7_stage_68 (lv_at hl 4 rfl) ?_
  obtain ⟨hPc, hDc⟩ := sp_last hP hD
  have hS0 := hS.1
  have hFc : ∀ z : Nat, va_A [(h0, .inr (3, [.int 0, .int 0, .int 0, .null, .null, .null, .null, .null, .int 0, .int 0, .int 0, .int 0, .int 0, .int 0, .int 0, .int 0, .int 0, .int 0, .int 0]))] H.size z → A z := by
    intro z hz
    rcases hz with ⟨j, e9, hz⟩ | hz
    · match j, hz with
      | 0, hz => cases hz; exact hDc.2 0 _ rfl
      | j + 1, hz => simp at hz
    · exact hAs z (Nat.le_trans hS0 hz)
  refine va_callv (va_runI (As := [.int px1, .int px2, .int 4, .int px4]) (rest := [.ref h0, .int (V0 2 0 3), .ref (ad 4 0)]) ⟨hx, hb, hml, hown, hts⟩ (kX3_init_4 l dC dI h0 H.size cI cS cW px1 px2 bn hx2a hx2b hx2c px4) (cwI 4 hts gX7_stage_X3_init rfl rfl rfl (hts (.initialized RX3) (by decide +kernel)) (hts (.methodLink RX7 37 yX3_init) (by decide +kernel)) (hts (.instanceMethod yX3_init) (by decide +kernel)) rfl (by decide +kernel) ⟨hR.1, hR.2⟩) ⟨fun a U g9 mk w9 => ⟨w9.1, iPc_calling w9.2⟩, fun U hU hWm => ⟨rfl, iPc_of hPc hDc hK hN hU hWm⟩⟩ rfl rfl hl.1 rfl (lv_room (Nat.le_of_ble_eq_true rfl)) dX7_stage_70 ⟨(by omega), (by omega)⟩) hS (fun z _ h => hFc z h) hFc (fun u t9 H1 locs ht9 hvm9 _ hB9 hz1 hk1 hS => ?_)
  obtain ⟨hP1, hD1⟩ := hB9
  rw [ht9] at hP1
  obtain ⟨hP, hD⟩ := jn_last hP hD hk1 hFc hP1 hD1
  rw [← newW_4 (ad := ad) (L := L) (V := V0) (q := q) (c := c0) (cS := cS) (b := px2) h8] at hP hD
  have hM := stage_made h8 hsh (by decide) hW ho hP hD
  have hW := xW_new (s := px1) (b := px2) (co := px4) hW
  have hsh2 := xSh_new (bn := bn) h8 hsh (show 4 ≤ 4 by decide)
  have e2 : nad ad cnt h0 u 2 0 = ad 2 0 := nad_old (L := L) h8 xe2
  have e3 : nad ad cnt h0 u 3 cnt = h0 := nad_st rfl
  have e4 : nad ad cnt h0 u 4 0 = ad 4 0 := nad_old (L := L) h8 xe4
  have hin : vp_in (V0 2 0 3) 8 := by rw [hcnt]; exact vp_in_nI (n := cnt) h8 (by decide)
  have hstk : ([.ref h0, .int (V0 2 0 3), .ref (ad 4 0)] : List Value) = [.ref (nad ad cnt h0 u 3 cnt), .int (V0 2 0 3), .ref (nad ad cnt h0 u 4 0)] := by rw [e3, e4]
  rw [hstk]
  refine xx_aastR hsh2 (n2 := cnt) (show cnt < cnt + 1 by omega) hx hb hK hM hS 4 0 xe4 (fun _ => rfl) hin dX7_stage_73 (fun H locs hM hS => ?_)
  have hW := xW_mu (k := 4) (n := 0) (t := (V0 2 0 3).toNatClampNeg) (x := Int32.ofNat cnt) hW (fun _ => okS_nI hsh2 (show cnt < cnt + 1 by omega))
  rw [← e2] at hl
  refine lv_aload_n hx hb dX7_stage_74 rfl (lv_at hl 0 rfl) ?_
  refine lv_dup hx hb dX7_stage_75 rfl ?_
  refine mm_get (C := RX7) (T := TX7) (N := 7) (ci := 7) hx hb hts inX7 hown hK hM 2 0 xe2 rfl rfl 3 (by decide) k33 (fun _ h9 => h9) rfl dX7_stage_76 ?_
  refine lv_iconst (v := 1) hx hb dX7_stage_79 (by decide) ?_
  refine lv_iadd hx hb dX7_stage_80 ?_
  refine mm_put (C := RX7) (T := TX7) (N := 7) (ci := 7) (ty := .int) hx hb hts inX7 tyX7 tyX7_ok nmX7 hown hK hM hS 2 0 xe2 rfl rfl 3 (by decide) k33 (fun _ h9 => h9) rfl (by decide +kernel) rfl rfl (Nat.le_of_ble_eq_true rfl) (((mu (nV V0 cnt px1 px2 px4) 4 0 (V0 2 0 3).toNatClampNeg (Int32.ofNat cnt)) 2 0 3) + (1 : Int32)) rfl dX7_stage_81 (fun H locs hM hS => ?_)
  have hW := xW_mu (k := 2) (n := 0) (t := 3) (x := ((mu (nV V0 cnt px1 px2 px4) 4 0 (V0 2 0 3).toNatClampNeg (Int32.ofNat cnt)) 2 0 3) + (1 : Int32)) hW (fun h9 => Bool.noConfusion (show false = true from h9))
  refine lv_aload_n hx hb dX7_stage_84 rfl (lv_at hl 0 rfl) ?_
  refine mm_get (C := RX7) (T := TX7) (N := 7) (ci := 7) hx hb hts inX7 hown hK hM 2 0 xe2 rfl rfl 3 (by decide) k33 (fun _ h9 => h9) rfl dX7_stage_85 ?_
  refine lv_iconst (v := 1) hx hb dX7_stage_88 (by decide) ?_
  refine lv_isub hx hb dX7_stage_89 ?_
  refine W.widen (k := 45) (n := 600) (by omega) (by omega) ?_
  exact kk h0 u H locs ls hM hW hS
