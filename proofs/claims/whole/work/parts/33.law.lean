/-! THE CLAIM OUT OF ONE WALK OF THE LAW'S BODY. Your part is whole_start (and what it stands on); all else here is the same for every law, but numbers. -/
def R_law : String := "StageDeskLaw"
def lw_P (b : Addr) (xs : List Int32) (args : Array Value) (s : State) : Prop := args = #[.ref b] ∧ s.IntsAt b xs ∧ xs.length ≤ 2560 ∧ (Jvm.Cond.and given_1 narrow_1).before args s = true
def lw_Q (_ : Array Value) (s : State) (o : Outcome) (t : State) : Prop := o = .returned (some (.int 1)) ∧ Framed s o t [] 600000 7302250
def lw_Z (below : List Frame) (a : Array Value) (s : State) : State → Prop := fun t => ∃ o, t.status = .running ∧ Ended t below o ∧ lw_Q a s o t
/-- the law's own end, with 1 on the stack, nothing written that was there before, its room as the claim has it -/
theorem lw_ret {p : Program} {l : Launch} {e : Env} {s : State} {m : MethodId} {below : List Frame} {meth : Method} {c : Code} {b : Nat} (hx : p.tables.exec = Jvm.exec) (hb : c.code = code) (hr : meth.sig.returnType = ret) (hlocks : meth.locks = false) {pc : Nat} {H : Heap} {ls : Array Slot} (hdg : decode code pc = .ok (.ireturn, 1)) : W p l e room_1 s m #[Value.ref b] below meth c H [] 600000 7302250 (lw_Z below #[Value.ref b] s) (F0 m pc ls [.int 1]) := by
  intro T hT X
  obtain ⟨fs, hret, hrun, hended, hW, hframe⟩ := X.leave (v := some (.int 1)) (hlocks := hlocks) (fun h => by rw [hr] at h; cases h)
  have hmeth' : T.vm.method? m = some meth := X.method'
  refine ⟨T.setFrames fs, ?_, .returned (some (.int 1)), hrun, hended, rfl, ⟨_, rfl⟩, hW, hframe⟩
  jvm_step X.here [X.here.top, hx, hb, hdg, hmeth', hr, ret, narrow_b1]
  (try refine ⟨rfl, ?_⟩); (try refine ⟨rfl, ?_⟩)
  first | (intro acts; rw [hret _ acts rfl rfl rfl]) | rw [hret _ _ rfl rfl rfl]
  exact Steps.refl _
/-- what holds at the law's entry: the machine, the code, the tables' words (any of lw_tbl by 'hts w (by decide +kernel)'), the script of L ints xs at the cell b, what the Statement gives of the start (any of its parts by flat_of_before) -/
def lw_At (p : Program) (s : State) (m : MethodId) (meth : Method) (c : Code) (b L : Nat) (xs : Nat → Int32) : Prop :=
  p.tables.exec = Jvm.exec ∧ c.code = code ∧ meth.sig.returnType = ret ∧ c.maxLocals = 4 ∧ s.vm.findClass R_law = some m.cls ∧ (∀ w ∈ lw_tbl, w.before #[Value.ref b] s = true) ∧ va_X b L xs s s.heap ∧ b < s.heap.size ∧ meth.locks = false ∧ (Jvm.Cond.and given_1 narrow_1).before #[Value.ref b] s = true
set_option maxHeartbeats 8000000 in
set_option maxRecDepth 100000 in
/-- the law's loop, over what is wanted of the pure functions -/
theorem law_loop_open {R : RelT} (s_stage : sim_stage R) (s_targets : sim_targets R) (s_admit : sim_admit R) (s_put : sim_put R) (s_prepare : sim_prepare R) (s_commit : sim_commit R) (s_abort : sim_abort R) (s_timer : sim_timer R) (s_cancel : sim_cancel R) (s_close : sim_close R) (s_tick : sim_tick R) (s_told : sim_told R) (s_queued : sim_queued R) (s_worker : sim_worker R) (s_done : sim_done R) (s_value : sim_value R) (s_events : sim_events R) (s_ended : sim_ended R) (s_lost : sim_lost R) (s_clock : sim_clock R) (s_skip : sim_skip R) (s_has : sim_has R) {p : Program} {e : Env} {s : State} {m : MethodId} {below : List Frame} {meth : Method} {cd : Code} (l : Launch) {b Ln : Nat} {xs : Nat → Int32} (hLn : Ln ≤ 2560) (C0 : lw_At p s m meth cd b Ln xs) {dC : Nat → ClassId} {dI : Nat → Nat → Nat} {cI cS cW cZ : ClassId} (hKx : va_K (dC, dI) vwCl [(cI, .int), (cS, .object RX3), (cW, .object RX6)] s) (hKm : va_K (dC, dI) vwCl [(cI, .int), (cZ, .boolean)] s) (hN : iNw s) {am : Nat → Nat → Nat} (ham : ∀ k n, mex k n → s.heap.size ≤ am k n) :
    ∀ (fuel t : Nat), Ln + 4 < 5 * t + 5 * fuel → ∀ (ad : Nat → Nat → Nat) (cnt : Nat) (L : Nat → Nat → Nat) (q : Nat × Nat) (V : mM) (c : Nat × Nat) (G : mM) (H : Heap) (locs : List Loc) (ls : Array Slot), R t cnt L V c G → 5 * t ≤ Ln + 4 → mP (dC, dI) vwCl (Ax s am) (xad ad q) (xce cI cS cW ad q L c) (xex cnt L) V H → xW cnt V → mP (dC, dI) vwCl (Am am) am (mce cI cZ am) mex G H → va_S (fun z : Nat => s.heap.size ≤ z) s.heap H locs → lv_has ls 4 [(0, .ref b), (1, .ref (ad 2 0)), (2, .ref (am 0 0)), (3, .int (nI (5 * t)))] → W p l e room_1 s m #[Value.ref b] below meth cd H locs (100 + 45 * t + (c.1 + c.2) / 64) (400000 + 600 * t + 2 * (c.1 + c.2)) (lw_Z below #[Value.ref b] s) (F0 m 18 ls []) := by
  obtain ⟨hx, hb, hr, hml, hown, hts, hX, hbl, hlocks, hgv⟩ := id C0
  have hts := fun w h => hts w (wsL_law_in w h)
  have hown : s.vm.findClass RL = some m.cls := hown
  have hbA : ¬ (fun z : Nat => s.heap.size ≤ z) b := Nat.not_le.mpr hbl
  have hAxA : ∀ z : Nat, Ax s am z → s.heap.size ≤ z := fun z h => h.1
  intro fuel
  induction fuel with
  | zero =>
    intro t hf ad cnt L q V c G H locs ls hRel ht
    omega
  | succ fuel ih =>
    intro t hf ad cnt L q V c G H locs ls hRel ht hMx hW hMm hS hl
    obtain ⟨hsh, hcnt, hcc⟩ := s_has _ _ _ _ _ _ hRel
    refine lv_iload_n hx hb dL_law_18 rfl (lv_at hl 3 rfl) ?_
    refine lv_aload_n hx hb dL_law_19 rfl (lv_at hl 0 rfl) ?_
    refine va_slen hx hb hX hbl hbA hS dL_law_20 ?_
    refine lv_iconst (v := 5) hx hb dL_law_21 (by decide) ?_
    refine lv_isub hx hb dL_law_22 ?_
    have hsb : (Int32.ofNat Ln - (5 : Int32)).toInt = (Ln : Int) - 5 := pk_sub_toInt (a := Ln) (b := 5) (by omega) (by omega)
    have hti : (nI (5 * t)).toInt = ((5 * t : Nat) : Int) := nI_toInt (by omega)
    refine lv_icmp_gt (tgt := 724) hx hb dL_law_23 (by decide) (fun c_1 => ?_) (fun c_1 => ?_)
    · refine lv_iconst (v := 1) hx hb dL_law_724 (by decide) ?_
      refine va_forget (fun z hz => hS.2.2 z hz) ?_
      have hc512 : t ≤ 512 := by omega
      refine W.widen (k := 600000) (n := 7302250) (by omega) (by omega) ?_
      exact lw_ret hx hb hr hlocks dL_law_725
    have hlt : 5 * t + 5 ≤ Ln := by
      rw [Int32.lt_iff_toInt_lt, hsb, hti] at c_1
      omega
    have hk512 : t < 512 := by omega
    have i0 : vp_in (nI (5 * t)) Ln := vp_in_nI (by omega) (by omega)
    have i1 : vp_in (nI (5 * t) + (1 : Int32)) Ln := by rw [show nI (5 * t) + (1 : Int32) = nI (5 * t + 1) from nI_add _ 1]; exact vp_in_nI (by omega) (by omega)
    have i2 : vp_in (nI (5 * t) + (2 : Int32)) Ln := by rw [show nI (5 * t) + (2 : Int32) = nI (5 * t + 2) from nI_add _ 2]; exact vp_in_nI (by omega) (by omega)
    have i3 : vp_in (nI (5 * t) + (3 : Int32)) Ln := by rw [show nI (5 * t) + (3 : Int32) = nI (5 * t + 3) from nI_add _ 3]; exact vp_in_nI (by omega) (by omega)
    have i4 : vp_in (nI (5 * t) + (4 : Int32)) Ln := by rw [show nI (5 * t) + (4 : Int32) = nI (5 * t + 4) from nI_add _ 4]; exact vp_in_nI (by omega) (by omega)
    have hfr : ∀ (H1 : Heap), mP (dC, dI) vwCl (Am am) am (mce cI cZ am) mex G H1 → s.heap.size ≤ H1.size → ∀ z : Nat, H1.size ≤ z → Ax s am z := fun H1 h9 h8 z hz => ⟨by omega, fun k n hk e9 => by have := mP_lt h9 hk; omega⟩
    have hnext : ∀ (ad : Nat → Nat → Nat) (cnt : Nat) (L : Nat → Nat → Nat) (q : Nat × Nat) (V : mM) (c : Nat × Nat) (G : mM) (H : Heap) (locs : List Loc) (ls : Array Slot) (k9 n9 : Nat), R (t + 1) cnt L V c G → mP (dC, dI) vwCl (Ax s am) (xad ad q) (xce cI cS cW ad q L c) (xex cnt L) V H → xW cnt V → mP (dC, dI) vwCl (Am am) am (mce cI cZ am) mex G H → va_S (fun z : Nat => s.heap.size ≤ z) s.heap H locs → lv_has ls 4 [(0, .ref b), (1, .ref (ad 2 0)), (2, .ref (am 0 0)), (3, .int (nI (5 * t)))] → k9 ≤ (100 + 45 * (t + 1) + (c.1 + c.2) / 64) → n9 ≤ (400000 + 600 * (t + 1) + 2 * (c.1 + c.2)) → W p l e room_1 s m #[Value.ref b] below meth cd H locs k9 n9 (lw_Z below #[Value.ref b] s) (F0 m 718 ls []) := by
      intro ad cnt L q V c G H locs ls k9 n9 hRel hMx hW hMm hS hl hk9 hn9
      refine lv_iinc (v := nI (5 * (t + 1))) (lv' := [(3, .int (nI (5 * (t + 1)))), (0, .ref b), (1, .ref (ad 2 0)), (2, .ref (am 0 0))]) hx hb dL_law_718 hl (k := 3) rfl (show nI (5 * t) + nI 5 = nI (5 * (t + 1)) from nI_add _ _) (by decide) rfl (fun ls hl => ?_)
      refine lv_goto (tgt := 18) hx hb dL_law_721 (by decide) ?_
      refine W.widen (k := (100 + 45 * (t + 1) + (c.1 + c.2) / 64)) (n := (400000 + 600 * (t + 1) + 2 * (c.1 + c.2))) hk9 hn9 ?_
      exact ih (t + 1) (by omega) ad cnt L q V c G H locs ls hRel (by omega) hMx hW hMm hS (lv_sub hl [1, 2, 3, 0] rfl)
    refine lv_aload_n hx hb dL_law_26 rfl (lv_at hl 0 rfl) ?_
    refine lv_iload_n hx hb dL_law_27 rfl (lv_at hl 3 rfl) ?_
    refine va_sld hx hb hX hbl hbA hS i0 dL_law_28 ?_
    refine lv_bipush (v := 31) hx hb dL_law_29 (by decide) ?_
    refine lv_iand hx hb dL_law_31 ?_
    refine lv_topi (fun x9 ex9 => ?_)
    by_cases w0 : x9 = 0
    · refine lv_tableIn (off := 96) (tgt := 128) hx hb dL_law_32 (by rw [w0]; decide) (by rw [w0]; decide) (by rw [w0]; decide) (by decide) ?_
      obtain ⟨d, r, G2, hx1, hm1, hcase⟩ := s_stage t cnt L V c G (xs (nI (5 * t) + (1 : Int32)).toNatClampNeg) (xs (nI (5 * t) + (2 : Int32)).toNatClampNeg) (xs (nI (5 * t) + (3 : Int32)).toNatClampNeg) (xs (nI (5 * t) + (4 : Int32)).toNatClampNeg) hk512 hRel
      refine lv_aload_n hx hb dL_law_128 rfl (lv_at hl 1 rfl) ?_
      refine lv_aload_n hx hb dL_law_129 rfl (lv_at hl 0 rfl) ?_
      refine lv_iload_n hx hb dL_law_130 rfl (lv_at hl 3 rfl) ?_
      refine lv_iconst (v := 1) hx hb dL_law_131 (by decide) ?_
      refine lv_iadd hx hb dL_law_132 ?_
      refine va_sld hx hb hX hbl hbA hS i1 dL_law_133 ?_
      refine lv_aload_n hx hb dL_law_134 rfl (lv_at hl 0 rfl) ?_
      refine lv_iload_n hx hb dL_law_135 rfl (lv_at hl 3 rfl) ?_
      refine lv_iconst (v := 2) hx hb dL_law_136 (by decide) ?_
      refine lv_iadd hx hb dL_law_137 ?_
      refine va_sld hx hb hX hbl hbA hS i2 dL_law_138 ?_
      refine lv_aload_n hx hb dL_law_139 rfl (lv_at hl 0 rfl) ?_
      refine lv_iload_n hx hb dL_law_140 rfl (lv_at hl 3 rfl) ?_
      refine lv_iconst (v := 3) hx hb dL_law_141 (by decide) ?_
      refine lv_iadd hx hb dL_law_142 ?_
      refine va_sld hx hb hX hbl hbA hS i3 dL_law_143 ?_
      refine lv_aload_n hx hb dL_law_144 rfl (lv_at hl 0 rfl) ?_
      refine lv_iload_n hx hb dL_law_145 rfl (lv_at hl 3 rfl) ?_
      refine lv_iconst (v := 4) hx hb dL_law_146 (by decide) ?_
      refine lv_iadd hx hb dL_law_147 ?_
      refine va_sld hx hb hX hbl hbA hS i4 dL_law_148 ?_
      have hd : d = 1 → cnt < 8 ∧ ¬ (xs (nI (5 * t) + (2 : Int32)).toNatClampNeg) < 0 ∧ (xs (nI (5 * t) + (2 : Int32)).toNatClampNeg).toNatClampNeg ≤ 32 ∧ ((xs (nI (5 * t) + (3 : Int32)).toNatClampNeg) = 1 ∨ (xs (nI (5 * t) + (3 : Int32)).toNatClampNeg) = 2 ∨ (xs (nI (5 * t) + (3 : Int32)).toNatClampNeg) = 3 ∨ (xs (nI (5 * t) + (3 : Int32)).toNatClampNeg) = 4) := fun h9 => by
        rcases hcase with ⟨h8, -⟩ | ⟨-, -, h8, -⟩
        · exact absurd h9 h8
        · exact h8
      refine va_calli (va_runV (As := [.int (xs (nI (5 * t) + (1 : Int32)).toNatClampNeg), .int (xs (nI (5 * t) + (2 : Int32)).toNatClampNeg), .int (xs (nI (5 * t) + (3 : Int32)).toNatClampNeg), .int (xs (nI (5 * t) + (4 : Int32)).toNatClampNeg)]) (rest := []) ⟨hx, hb, hml, hown, hts⟩ (kX7_stage l (A := Ax s am) (ad := ad) (q := q) hsh (xs (nI (5 * t) + (1 : Int32)).toNatClampNeg) (xs (nI (5 * t) + (2 : Int32)).toNatClampNeg) (xs (nI (5 * t) + (3 : Int32)).toNatClampNeg) (xs (nI (5 * t) + (4 : Int32)).toNatClampNeg) V c hx1 hcnt hd) (cwV 4 hts gL_law_X7_stage rfl rfl rfl (by decide +kernel) ⟨Nat.le_of_ble_eq_true rfl, Nat.le_of_ble_eq_true rfl⟩) ⟨fun a U g9 mk w9 => ⟨w9.1, xM_calling w9.2.1, w9.2.2.calling⟩, mP_recv (q := (RX7, TX7, 7)) hKx hMx xe2 rfl rfl, fun U hU hWm => ⟨rfl, ⟨by rw [hU]; exact hMx, va_K.moved hWm.alike hKx, hW, fun z hz => hfr H hMm hS.1 z (by rw [hU] at hz; exact hz)⟩, hN.warm hWm⟩⟩ rfl rfl hl.1 rfl (lv_room (Nat.le_of_ble_eq_true rfl)) dL_law_149 ⟨(show (100 + 45 * t + (c.1 + c.2) / 64) + 45 ≤ 600000 from by omega), (show (400000 + 600 * t + 2 * (c.1 + c.2)) + 600 ≤ 7302250 from by omega)⟩) hS (fun z _ h9 => hAxA z h9) (fun z h9 => hAxA z h9) (fun r9 u9 t9 H1 locs ht9 _ hw9 hB9 hz1 hk1 hS => ?_)
      have hMm := mP_kept hMm (H1 := H1) (fun z hz h9 => hk1 z hz (fun h8 => by obtain ⟨k9, n9, hk9, e9⟩ := h9; exact h8.2 k9 n9 hk9 e9))
      rcases hcase with ⟨h9, h8, hRel⟩ | ⟨h9, h8, h7, hRel⟩
      · match u9, hw9, hB9 with
        | some _, hw9, _ => exact absurd hw9.1 h9
        | none, hw9, hB9 =>
          obtain ⟨hMx, -, hW, -⟩ := hB9
          rw [ht9] at hMx
          rw [show r9 = r from hw9.2.trans h8.symm]
          refine lv_aload_n hx hb dL_law_152 rfl (lv_at hl 2 rfl) ?_
          refine lv_aload_n hx hb dL_law_153 rfl (lv_at hl 0 rfl) ?_
          refine lv_iload_n hx hb dL_law_154 rfl (lv_at hl 3 rfl) ?_
          refine lv_iconst (v := 1) hx hb dL_law_155 (by decide) ?_
          refine lv_iadd hx hb dL_law_156 ?_
          refine va_sld hx hb hX hbl hbA hS i1 dL_law_157 ?_
          refine lv_aload_n hx hb dL_law_158 rfl (lv_at hl 0 rfl) ?_
          refine lv_iload_n hx hb dL_law_159 rfl (lv_at hl 3 rfl) ?_
          refine lv_iconst (v := 2) hx hb dL_law_160 (by decide) ?_
          refine lv_iadd hx hb dL_law_161 ?_
          refine va_sld hx hb hX hbl hbA hS i2 dL_law_162 ?_
          refine lv_aload_n hx hb dL_law_163 rfl (lv_at hl 0 rfl) ?_
          refine lv_iload_n hx hb dL_law_164 rfl (lv_at hl 3 rfl) ?_
          refine lv_iconst (v := 3) hx hb dL_law_165 (by decide) ?_
          refine lv_iadd hx hb dL_law_166 ?_
          refine va_sld hx hb hX hbl hbA hS i3 dL_law_167 ?_
          refine lv_aload_n hx hb dL_law_168 rfl (lv_at hl 0 rfl) ?_
          refine lv_iload_n hx hb dL_law_169 rfl (lv_at hl 3 rfl) ?_
          refine lv_iconst (v := 4) hx hb dL_law_170 (by decide) ?_
          refine lv_iadd hx hb dL_law_171 ?_
          refine va_sld hx hb hX hbl hbA hS i4 dL_law_172 ?_
          have hS1 := hS.1
          refine va_calli (va_runV (As := [.int (xs (nI (5 * t) + (1 : Int32)).toNatClampNeg), .int (xs (nI (5 * t) + (2 : Int32)).toNatClampNeg), .int (xs (nI (5 * t) + (3 : Int32)).toNatClampNeg), .int (xs (nI (5 * t) + (4 : Int32)).toNatClampNeg)]) (rest := [.int r]) ⟨hx, hb, hml, hown, hts⟩ (kX8_stage l (A := fun z => Am am z ∨ H1.size ≤ z) (xs (nI (5 * t) + (1 : Int32)).toNatClampNeg) (xs (nI (5 * t) + (2 : Int32)).toNatClampNeg) (xs (nI (5 * t) + (3 : Int32)).toNatClampNeg) (xs (nI (5 * t) + (4 : Int32)).toNatClampNeg) G hm1) (cwV 4 hts gL_law_X8_stage rfl rfl rfl (by decide +kernel) ⟨Nat.le_of_ble_eq_true rfl, Nat.le_of_ble_eq_true rfl⟩) ⟨fun a U g9 mk w9 => ⟨w9.1, mR_calling w9.2⟩, mP_recv (q := (RX8, TX8, 48)) hKm hMm me0 rfl rfl, fun U hU hWm => ⟨rfl, by rw [hU]; exact mP_w (fun k n hk => Or.inl ⟨k, n, hk, rfl⟩) hMm, va_K.moved hWm.alike hKm, fun z hz => Or.inr (by rw [hU] at hz; exact hz)⟩⟩ rfl rfl hl.1 rfl (lv_room (Nat.le_of_ble_eq_true rfl)) dL_law_173 ⟨(show ((100 + 45 * t + (c.1 + c.2) / 64) + 45) + 0 ≤ 600000 from by omega), (show ((400000 + 600 * t + 2 * (c.1 + c.2)) + 600) + 0 ≤ 7302250 from by omega)⟩) hS (fun z _ h9 => h9.elim (fun h8 => by obtain ⟨k9, n9, hk9, e9⟩ := h8; rw [← e9]; exact ham k9 n9 hk9) (fun h8 => Nat.le_trans hS1 h8)) (fun z h9 => h9.elim (fun h8 => by obtain ⟨k9, n9, hk9, e9⟩ := h8; rw [← e9]; exact ham k9 n9 hk9) (fun h8 => Nat.le_trans hS1 h8)) (fun r8 u8 t8 H2 locs ht8 _ hw8 hB8 hz2 hk2 hS => ?_)
          have hMx := mP_kept hMx (H1 := H2) (fun z hz h9 => hk2 z hz (fun h8 => h8.elim (fun h7 => by obtain ⟨k9, n9, hk9, e9⟩ := h7; exact h9.2 k9 n9 hk9 e9) (fun h7 => by omega)))
          obtain ⟨hMm, -, -⟩ := hB8
          rw [ht8] at hMm
          have hMm := mP_w (A2 := Am am) (fun k n hk => ⟨k, n, hk, rfl⟩) hMm
          rw [show r8 = r from hw8]
          refine lv_icmp_eq (tgt := 718) hx hb dL_law_176 (by decide) (fun _ => ?_) (fun c9 => absurd rfl c9)
          exact hnext ad cnt L q V c G2 H2 _ ls (((100 + 45 * t + (c.1 + c.2) / 64) + 45) + 0) (((400000 + 600 * t + 2 * (c.1 + c.2)) + 600) + 0) hRel hMx hW hMm hS (lv_sub hl [0, 1, 2, 3] rfl) (by omega) (by omega)
      · match u9, hw9, hB9 with
        | none, hw9, _ => exact absurd h9 hw9.1
        | some ad2, hw9, hB9 =>
          obtain ⟨hMx, -, hW, -⟩ := hB9
          rw [ht9] at hMx
          rw [show r9 = r from hw9.2.1.trans h8.symm]
          rw [← hw9.2.2] at hl
          refine lv_aload_n hx hb dL_law_152 rfl (lv_at hl 2 rfl) ?_
          refine lv_aload_n hx hb dL_law_153 rfl (lv_at hl 0 rfl) ?_
          refine lv_iload_n hx hb dL_law_154 rfl (lv_at hl 3 rfl) ?_
          refine lv_iconst (v := 1) hx hb dL_law_155 (by decide) ?_
          refine lv_iadd hx hb dL_law_156 ?_
          refine va_sld hx hb hX hbl hbA hS i1 dL_law_157 ?_
          refine lv_aload_n hx hb dL_law_158 rfl (lv_at hl 0 rfl) ?_
          refine lv_iload_n hx hb dL_law_159 rfl (lv_at hl 3 rfl) ?_
          refine lv_iconst (v := 2) hx hb dL_law_160 (by decide) ?_
          refine lv_iadd hx hb dL_law_161 ?_
          refine va_sld hx hb hX hbl hbA hS i2 dL_law_162 ?_
          refine lv_aload_n hx hb dL_law_163 rfl (lv_at hl 0 rfl) ?_
          refine lv_iload_n hx hb dL_law_164 rfl (lv_at hl 3 rfl) ?_
          refine lv_iconst (v := 3) hx hb dL_law_165 (by decide) ?_
          refine lv_iadd hx hb dL_law_166 ?_
          refine va_sld hx hb hX hbl hbA hS i3 dL_law_167 ?_
          refine lv_aload_n hx hb dL_law_168 rfl (lv_at hl 0 rfl) ?_
          refine lv_iload_n hx hb dL_law_169 rfl (lv_at hl 3 rfl) ?_
          refine lv_iconst (v := 4) hx hb dL_law_170 (by decide) ?_
          refine lv_iadd hx hb dL_law_171 ?_
          refine va_sld hx hb hX hbl hbA hS i4 dL_law_172 ?_
          have hS1 := hS.1
          refine va_calli (va_runV (As := [.int (xs (nI (5 * t) + (1 : Int32)).toNatClampNeg), .int (xs (nI (5 * t) + (2 : Int32)).toNatClampNeg), .int (xs (nI (5 * t) + (3 : Int32)).toNatClampNeg), .int (xs (nI (5 * t) + (4 : Int32)).toNatClampNeg)]) (rest := [.int r]) ⟨hx, hb, hml, hown, hts⟩ (kX8_stage l (A := fun z => Am am z ∨ H1.size ≤ z) (xs (nI (5 * t) + (1 : Int32)).toNatClampNeg) (xs (nI (5 * t) + (2 : Int32)).toNatClampNeg) (xs (nI (5 * t) + (3 : Int32)).toNatClampNeg) (xs (nI (5 * t) + (4 : Int32)).toNatClampNeg) G hm1) (cwV 4 hts gL_law_X8_stage rfl rfl rfl (by decide +kernel) ⟨Nat.le_of_ble_eq_true rfl, Nat.le_of_ble_eq_true rfl⟩) ⟨fun a U g9 mk w9 => ⟨w9.1, mR_calling w9.2⟩, mP_recv (q := (RX8, TX8, 48)) hKm hMm me0 rfl rfl, fun U hU hWm => ⟨rfl, by rw [hU]; exact mP_w (fun k n hk => Or.inl ⟨k, n, hk, rfl⟩) hMm, va_K.moved hWm.alike hKm, fun z hz => Or.inr (by rw [hU] at hz; exact hz)⟩⟩ rfl rfl hl.1 rfl (lv_room (Nat.le_of_ble_eq_true rfl)) dL_law_173 ⟨(show ((100 + 45 * t + (c.1 + c.2) / 64) + 45) + 0 ≤ 600000 from by omega), (show ((400000 + 600 * t + 2 * (c.1 + c.2)) + 600) + 0 ≤ 7302250 from by omega)⟩) hS (fun z _ h9 => h9.elim (fun h8 => by obtain ⟨k9, n9, hk9, e9⟩ := h8; rw [← e9]; exact ham k9 n9 hk9) (fun h8 => Nat.le_trans hS1 h8)) (fun z h9 => h9.elim (fun h8 => by obtain ⟨k9, n9, hk9, e9⟩ := h8; rw [← e9]; exact ham k9 n9 hk9) (fun h8 => Nat.le_trans hS1 h8)) (fun r8 u8 t8 H2 locs ht8 _ hw8 hB8 hz2 hk2 hS => ?_)
          have hMx := mP_kept hMx (H1 := H2) (fun z hz h9 => hk2 z hz (fun h8 => h8.elim (fun h7 => by obtain ⟨k9, n9, hk9, e9⟩ := h7; exact h9.2 k9 n9 hk9 e9) (fun h7 => by omega)))
          obtain ⟨hMm, -, -⟩ := hB8
          rw [ht8] at hMm
          have hMm := mP_w (A2 := Am am) (fun k n hk => ⟨k, n, hk, rfl⟩) hMm
          rw [show r8 = r from hw8]
          refine lv_icmp_eq (tgt := 718) hx hb dL_law_176 (by decide) (fun _ => ?_) (fun c9 => absurd rfl c9)
          exact hnext ad2 _ _ q _ c G2 H2 _ ls (((100 + 45 * t + (c.1 + c.2) / 64) + 45) + 0) (((400000 + 600 * t + 2 * (c.1 + c.2)) + 600) + 0) hRel hMx hW hMm hS (lv_sub hl [0, 1, 2, 3] rfl) (by omega) (by omega)
    by_cases w1 : x9 = 1
    · refine lv_tableIn (off := 149) (tgt := 181) hx hb dL_law_32 (by rw [w1]; decide) (by rw [w1]; decide) (by rw [w1]; decide) (by decide) ?_
      obtain ⟨r, V2, G2, hx1, hm1, hRel⟩ := s_targets t cnt L V c G (xs (nI (5 * t) + (1 : Int32)).toNatClampNeg) (xs (nI (5 * t) + (2 : Int32)).toNatClampNeg) (xs (nI (5 * t) + (3 : Int32)).toNatClampNeg) hk512 hRel
      refine lv_aload_n hx hb dL_law_181 rfl (lv_at hl 1 rfl) ?_
      refine lv_aload_n hx hb dL_law_182 rfl (lv_at hl 0 rfl) ?_
      refine lv_iload_n hx hb dL_law_183 rfl (lv_at hl 3 rfl) ?_
      refine lv_iconst (v := 1) hx hb dL_law_184 (by decide) ?_
      refine lv_iadd hx hb dL_law_185 ?_
      refine va_sld hx hb hX hbl hbA hS i1 dL_law_186 ?_
      refine lv_aload_n hx hb dL_law_187 rfl (lv_at hl 0 rfl) ?_
      refine lv_iload_n hx hb dL_law_188 rfl (lv_at hl 3 rfl) ?_
      refine lv_iconst (v := 2) hx hb dL_law_189 (by decide) ?_
      refine lv_iadd hx hb dL_law_190 ?_
      refine va_sld hx hb hX hbl hbA hS i2 dL_law_191 ?_
      refine lv_aload_n hx hb dL_law_192 rfl (lv_at hl 0 rfl) ?_
      refine lv_iload_n hx hb dL_law_193 rfl (lv_at hl 3 rfl) ?_
      refine lv_iconst (v := 3) hx hb dL_law_194 (by decide) ?_
      refine lv_iadd hx hb dL_law_195 ?_
      refine va_sld hx hb hX hbl hbA hS i3 dL_law_196 ?_
      refine va_calli (va_runV (As := [.int (xs (nI (5 * t) + (1 : Int32)).toNatClampNeg), .int (xs (nI (5 * t) + (2 : Int32)).toNatClampNeg), .int (xs (nI (5 * t) + (3 : Int32)).toNatClampNeg)]) (rest := []) ⟨hx, hb, hml, hown, hts⟩ (kX7_targets l (A := Ax s am) (ad := ad) (q := q) hsh (xs (nI (5 * t) + (1 : Int32)).toNatClampNeg) (xs (nI (5 * t) + (2 : Int32)).toNatClampNeg) (xs (nI (5 * t) + (3 : Int32)).toNatClampNeg) V c hx1) (cwV 3 hts gL_law_X7_targets rfl rfl rfl (by decide +kernel) ⟨Nat.le_of_ble_eq_true rfl, Nat.le_of_ble_eq_true rfl⟩) ⟨fun a U g9 mk w9 => ⟨w9.1, xM_calling w9.2⟩, mP_recv (q := (RX7, TX7, 7)) hKx hMx xe2 rfl rfl, fun U hU hWm => ⟨rfl, by rw [hU]; exact hMx, va_K.moved hWm.alike hKx, hW, fun z hz => hfr H hMm hS.1 z (by rw [hU] at hz; exact hz)⟩⟩ rfl rfl hl.1 rfl (lv_room (Nat.le_of_ble_eq_true rfl)) dL_law_197 ⟨(show (100 + 45 * t + (c.1 + c.2) / 64) + 0 ≤ 600000 from by omega), (show (400000 + 600 * t + 2 * (c.1 + c.2)) + 0 ≤ 7302250 from by omega)⟩) hS (fun z _ h9 => hAxA z h9) (fun z h9 => hAxA z h9) (fun r9 u9 t9 H1 locs ht9 _ hw9 hB9 hz1 hk1 hS => ?_)
      have hMm := mP_kept hMm (H1 := H1) (fun z hz h9 => hk1 z hz (fun h8 => by obtain ⟨k9, n9, hk9, e9⟩ := h9; exact h8.2 k9 n9 hk9 e9))
      obtain ⟨hMx, -, hW, -⟩ := hB9
      rw [ht9] at hMx
      rw [show r9 = r from hw9]
      refine lv_aload_n hx hb dL_law_200 rfl (lv_at hl 2 rfl) ?_
      refine lv_aload_n hx hb dL_law_201 rfl (lv_at hl 0 rfl) ?_
      refine lv_iload_n hx hb dL_law_202 rfl (lv_at hl 3 rfl) ?_
      refine lv_iconst (v := 1) hx hb dL_law_203 (by decide) ?_
      refine lv_iadd hx hb dL_law_204 ?_
      refine va_sld hx hb hX hbl hbA hS i1 dL_law_205 ?_
      refine lv_aload_n hx hb dL_law_206 rfl (lv_at hl 0 rfl) ?_
      refine lv_iload_n hx hb dL_law_207 rfl (lv_at hl 3 rfl) ?_
      refine lv_iconst (v := 2) hx hb dL_law_208 (by decide) ?_
      refine lv_iadd hx hb dL_law_209 ?_
      refine va_sld hx hb hX hbl hbA hS i2 dL_law_210 ?_
      refine lv_aload_n hx hb dL_law_211 rfl (lv_at hl 0 rfl) ?_
      refine lv_iload_n hx hb dL_law_212 rfl (lv_at hl 3 rfl) ?_
      refine lv_iconst (v := 3) hx hb dL_law_213 (by decide) ?_
      refine lv_iadd hx hb dL_law_214 ?_
      refine va_sld hx hb hX hbl hbA hS i3 dL_law_215 ?_
      have hS1 := hS.1
      refine va_calli (va_runV (As := [.int (xs (nI (5 * t) + (1 : Int32)).toNatClampNeg), .int (xs (nI (5 * t) + (2 : Int32)).toNatClampNeg), .int (xs (nI (5 * t) + (3 : Int32)).toNatClampNeg)]) (rest := [.int r]) ⟨hx, hb, hml, hown, hts⟩ (kX8_targets l (A := fun z => Am am z ∨ H1.size ≤ z) (xs (nI (5 * t) + (1 : Int32)).toNatClampNeg) (xs (nI (5 * t) + (2 : Int32)).toNatClampNeg) (xs (nI (5 * t) + (3 : Int32)).toNatClampNeg) G hm1) (cwV 3 hts gL_law_X8_targets rfl rfl rfl (by decide +kernel) ⟨Nat.le_of_ble_eq_true rfl, Nat.le_of_ble_eq_true rfl⟩) ⟨fun a U g9 mk w9 => ⟨w9.1, mR_calling w9.2⟩, mP_recv (q := (RX8, TX8, 48)) hKm hMm me0 rfl rfl, fun U hU hWm => ⟨rfl, by rw [hU]; exact mP_w (fun k n hk => Or.inl ⟨k, n, hk, rfl⟩) hMm, va_K.moved hWm.alike hKm, fun z hz => Or.inr (by rw [hU] at hz; exact hz)⟩⟩ rfl rfl hl.1 rfl (lv_room (Nat.le_of_ble_eq_true rfl)) dL_law_216 ⟨(show ((100 + 45 * t + (c.1 + c.2) / 64) + 0) + 0 ≤ 600000 from by omega), (show ((400000 + 600 * t + 2 * (c.1 + c.2)) + 0) + 0 ≤ 7302250 from by omega)⟩) hS (fun z _ h9 => h9.elim (fun h8 => by obtain ⟨k9, n9, hk9, e9⟩ := h8; rw [← e9]; exact ham k9 n9 hk9) (fun h8 => Nat.le_trans hS1 h8)) (fun z h9 => h9.elim (fun h8 => by obtain ⟨k9, n9, hk9, e9⟩ := h8; rw [← e9]; exact ham k9 n9 hk9) (fun h8 => Nat.le_trans hS1 h8)) (fun r8 u8 t8 H2 locs ht8 _ hw8 hB8 hz2 hk2 hS => ?_)
      have hMx := mP_kept hMx (H1 := H2) (fun z hz h9 => hk2 z hz (fun h8 => h8.elim (fun h7 => by obtain ⟨k9, n9, hk9, e9⟩ := h7; exact h9.2 k9 n9 hk9 e9) (fun h7 => by omega)))
      obtain ⟨hMm, -, -⟩ := hB8
      rw [ht8] at hMm
      have hMm := mP_w (A2 := Am am) (fun k n hk => ⟨k, n, hk, rfl⟩) hMm
      rw [show r8 = r from hw8]
      refine lv_icmp_eq (tgt := 718) hx hb dL_law_219 (by decide) (fun _ => ?_) (fun c9 => absurd rfl c9)
      exact hnext ad cnt L q V2 c G2 H2 _ ls (((100 + 45 * t + (c.1 + c.2) / 64) + 0) + 0) (((400000 + 600 * t + 2 * (c.1 + c.2)) + 0) + 0) hRel hMx hW hMm hS (lv_sub hl [0, 1, 2, 3] rfl) (by omega) (by omega)
    by_cases w2 : x9 = 2
    · refine lv_tableIn (off := 192) (tgt := 224) hx hb dL_law_32 (by rw [w2]; decide) (by rw [w2]; decide) (by rw [w2]; decide) (by decide) ?_
      obtain ⟨r, V2, G2, hx1, hm1, hRel⟩ := s_admit t cnt L V c G (xs (nI (5 * t) + (1 : Int32)).toNatClampNeg) (xs (nI (5 * t) + (2 : Int32)).toNatClampNeg) (xs (nI (5 * t) + (3 : Int32)).toNatClampNeg) (xs (nI (5 * t) + (4 : Int32)).toNatClampNeg) hk512 hRel
      refine lv_aload_n hx hb dL_law_224 rfl (lv_at hl 1 rfl) ?_
      refine lv_aload_n hx hb dL_law_225 rfl (lv_at hl 0 rfl) ?_
      refine lv_iload_n hx hb dL_law_226 rfl (lv_at hl 3 rfl) ?_
      refine lv_iconst (v := 1) hx hb dL_law_227 (by decide) ?_
      refine lv_iadd hx hb dL_law_228 ?_
      refine va_sld hx hb hX hbl hbA hS i1 dL_law_229 ?_
      refine lv_aload_n hx hb dL_law_230 rfl (lv_at hl 0 rfl) ?_
      refine lv_iload_n hx hb dL_law_231 rfl (lv_at hl 3 rfl) ?_
      refine lv_iconst (v := 2) hx hb dL_law_232 (by decide) ?_
      refine lv_iadd hx hb dL_law_233 ?_
      refine va_sld hx hb hX hbl hbA hS i2 dL_law_234 ?_
      refine lv_aload_n hx hb dL_law_235 rfl (lv_at hl 0 rfl) ?_
      refine lv_iload_n hx hb dL_law_236 rfl (lv_at hl 3 rfl) ?_
      refine lv_iconst (v := 3) hx hb dL_law_237 (by decide) ?_
      refine lv_iadd hx hb dL_law_238 ?_
      refine va_sld hx hb hX hbl hbA hS i3 dL_law_239 ?_
      refine lv_aload_n hx hb dL_law_240 rfl (lv_at hl 0 rfl) ?_
      refine lv_iload_n hx hb dL_law_241 rfl (lv_at hl 3 rfl) ?_
      refine lv_iconst (v := 4) hx hb dL_law_242 (by decide) ?_
      refine lv_iadd hx hb dL_law_243 ?_
      refine va_sld hx hb hX hbl hbA hS i4 dL_law_244 ?_
      refine va_calli (va_runV (As := [.int (xs (nI (5 * t) + (1 : Int32)).toNatClampNeg), .int (xs (nI (5 * t) + (2 : Int32)).toNatClampNeg), .int (xs (nI (5 * t) + (3 : Int32)).toNatClampNeg), .int (xs (nI (5 * t) + (4 : Int32)).toNatClampNeg)]) (rest := []) ⟨hx, hb, hml, hown, hts⟩ (kX7_admit l (A := Ax s am) (ad := ad) (q := q) hsh (xs (nI (5 * t) + (1 : Int32)).toNatClampNeg) (xs (nI (5 * t) + (2 : Int32)).toNatClampNeg) (xs (nI (5 * t) + (3 : Int32)).toNatClampNeg) (xs (nI (5 * t) + (4 : Int32)).toNatClampNeg) V c hx1) (cwV 4 hts gL_law_X7_admit rfl rfl rfl (by decide +kernel) ⟨Nat.le_of_ble_eq_true rfl, Nat.le_of_ble_eq_true rfl⟩) ⟨fun a U g9 mk w9 => ⟨w9.1, xM_calling w9.2⟩, mP_recv (q := (RX7, TX7, 7)) hKx hMx xe2 rfl rfl, fun U hU hWm => ⟨rfl, by rw [hU]; exact hMx, va_K.moved hWm.alike hKx, hW, fun z hz => hfr H hMm hS.1 z (by rw [hU] at hz; exact hz)⟩⟩ rfl rfl hl.1 rfl (lv_room (Nat.le_of_ble_eq_true rfl)) dL_law_245 ⟨(show (100 + 45 * t + (c.1 + c.2) / 64) + 0 ≤ 600000 from by omega), (show (400000 + 600 * t + 2 * (c.1 + c.2)) + 0 ≤ 7302250 from by omega)⟩) hS (fun z _ h9 => hAxA z h9) (fun z h9 => hAxA z h9) (fun r9 u9 t9 H1 locs ht9 _ hw9 hB9 hz1 hk1 hS => ?_)
      have hMm := mP_kept hMm (H1 := H1) (fun z hz h9 => hk1 z hz (fun h8 => by obtain ⟨k9, n9, hk9, e9⟩ := h9; exact h8.2 k9 n9 hk9 e9))
      obtain ⟨hMx, -, hW, -⟩ := hB9
      rw [ht9] at hMx
      rw [show r9 = r from hw9]
      refine lv_aload_n hx hb dL_law_248 rfl (lv_at hl 2 rfl) ?_
      refine lv_aload_n hx hb dL_law_249 rfl (lv_at hl 0 rfl) ?_
      refine lv_iload_n hx hb dL_law_250 rfl (lv_at hl 3 rfl) ?_
      refine lv_iconst (v := 1) hx hb dL_law_251 (by decide) ?_
      refine lv_iadd hx hb dL_law_252 ?_
      refine va_sld hx hb hX hbl hbA hS i1 dL_law_253 ?_
      refine lv_aload_n hx hb dL_law_254 rfl (lv_at hl 0 rfl) ?_
      refine lv_iload_n hx hb dL_law_255 rfl (lv_at hl 3 rfl) ?_
      refine lv_iconst (v := 2) hx hb dL_law_256 (by decide) ?_
      refine lv_iadd hx hb dL_law_257 ?_
      refine va_sld hx hb hX hbl hbA hS i2 dL_law_258 ?_
      refine lv_aload_n hx hb dL_law_259 rfl (lv_at hl 0 rfl) ?_
      refine lv_iload_n hx hb dL_law_260 rfl (lv_at hl 3 rfl) ?_
      refine lv_iconst (v := 3) hx hb dL_law_261 (by decide) ?_
      refine lv_iadd hx hb dL_law_262 ?_
      refine va_sld hx hb hX hbl hbA hS i3 dL_law_263 ?_
      refine lv_aload_n hx hb dL_law_264 rfl (lv_at hl 0 rfl) ?_
      refine lv_iload_n hx hb dL_law_265 rfl (lv_at hl 3 rfl) ?_
      refine lv_iconst (v := 4) hx hb dL_law_266 (by decide) ?_
      refine lv_iadd hx hb dL_law_267 ?_
      refine va_sld hx hb hX hbl hbA hS i4 dL_law_268 ?_
      have hS1 := hS.1
      refine va_calli (va_runV (As := [.int (xs (nI (5 * t) + (1 : Int32)).toNatClampNeg), .int (xs (nI (5 * t) + (2 : Int32)).toNatClampNeg), .int (xs (nI (5 * t) + (3 : Int32)).toNatClampNeg), .int (xs (nI (5 * t) + (4 : Int32)).toNatClampNeg)]) (rest := [.int r]) ⟨hx, hb, hml, hown, hts⟩ (kX8_admit l (A := fun z => Am am z ∨ H1.size ≤ z) (xs (nI (5 * t) + (1 : Int32)).toNatClampNeg) (xs (nI (5 * t) + (2 : Int32)).toNatClampNeg) (xs (nI (5 * t) + (3 : Int32)).toNatClampNeg) (xs (nI (5 * t) + (4 : Int32)).toNatClampNeg) G hm1) (cwV 4 hts gL_law_X8_admit rfl rfl rfl (by decide +kernel) ⟨Nat.le_of_ble_eq_true rfl, Nat.le_of_ble_eq_true rfl⟩) ⟨fun a U g9 mk w9 => ⟨w9.1, mR_calling w9.2⟩, mP_recv (q := (RX8, TX8, 48)) hKm hMm me0 rfl rfl, fun U hU hWm => ⟨rfl, by rw [hU]; exact mP_w (fun k n hk => Or.inl ⟨k, n, hk, rfl⟩) hMm, va_K.moved hWm.alike hKm, fun z hz => Or.inr (by rw [hU] at hz; exact hz)⟩⟩ rfl rfl hl.1 rfl (lv_room (Nat.le_of_ble_eq_true rfl)) dL_law_269 ⟨(show ((100 + 45 * t + (c.1 + c.2) / 64) + 0) + 0 ≤ 600000 from by omega), (show ((400000 + 600 * t + 2 * (c.1 + c.2)) + 0) + 0 ≤ 7302250 from by omega)⟩) hS (fun z _ h9 => h9.elim (fun h8 => by obtain ⟨k9, n9, hk9, e9⟩ := h8; rw [← e9]; exact ham k9 n9 hk9) (fun h8 => Nat.le_trans hS1 h8)) (fun z h9 => h9.elim (fun h8 => by obtain ⟨k9, n9, hk9, e9⟩ := h8; rw [← e9]; exact ham k9 n9 hk9) (fun h8 => Nat.le_trans hS1 h8)) (fun r8 u8 t8 H2 locs ht8 _ hw8 hB8 hz2 hk2 hS => ?_)
      have hMx := mP_kept hMx (H1 := H2) (fun z hz h9 => hk2 z hz (fun h8 => h8.elim (fun h7 => by obtain ⟨k9, n9, hk9, e9⟩ := h7; exact h9.2 k9 n9 hk9 e9) (fun h7 => by omega)))
      obtain ⟨hMm, -, -⟩ := hB8
      rw [ht8] at hMm
      have hMm := mP_w (A2 := Am am) (fun k n hk => ⟨k, n, hk, rfl⟩) hMm
      rw [show r8 = r from hw8]
      refine lv_icmp_eq (tgt := 718) hx hb dL_law_272 (by decide) (fun _ => ?_) (fun c9 => absurd rfl c9)
      exact hnext ad cnt L q V2 c G2 H2 _ ls (((100 + 45 * t + (c.1 + c.2) / 64) + 0) + 0) (((400000 + 600 * t + 2 * (c.1 + c.2)) + 0) + 0) hRel hMx hW hMm hS (lv_sub hl [0, 1, 2, 3] rfl) (by omega) (by omega)
    by_cases w3 : x9 = 3
    · refine lv_tableIn (off := 245) (tgt := 277) hx hb dL_law_32 (by rw [w3]; decide) (by rw [w3]; decide) (by rw [w3]; decide) (by decide) ?_
      obtain ⟨r, V2, G2, hx1, hm1, hRel⟩ := s_put t cnt L V c G (xs (nI (5 * t) + (1 : Int32)).toNatClampNeg) (xs (nI (5 * t) + (2 : Int32)).toNatClampNeg) hk512 hRel
      refine lv_aload_n hx hb dL_law_277 rfl (lv_at hl 1 rfl) ?_
      refine lv_aload_n hx hb dL_law_278 rfl (lv_at hl 0 rfl) ?_
      refine lv_iload_n hx hb dL_law_279 rfl (lv_at hl 3 rfl) ?_
      refine lv_iconst (v := 1) hx hb dL_law_280 (by decide) ?_
      refine lv_iadd hx hb dL_law_281 ?_
      refine va_sld hx hb hX hbl hbA hS i1 dL_law_282 ?_
      refine lv_aload_n hx hb dL_law_283 rfl (lv_at hl 0 rfl) ?_
      refine lv_iload_n hx hb dL_law_284 rfl (lv_at hl 3 rfl) ?_
      refine lv_iconst (v := 2) hx hb dL_law_285 (by decide) ?_
      refine lv_iadd hx hb dL_law_286 ?_
      refine va_sld hx hb hX hbl hbA hS i2 dL_law_287 ?_
      refine va_calli (va_runV (As := [.int (xs (nI (5 * t) + (1 : Int32)).toNatClampNeg), .int (xs (nI (5 * t) + (2 : Int32)).toNatClampNeg)]) (rest := []) ⟨hx, hb, hml, hown, hts⟩ (kX7_put l (A := Ax s am) (ad := ad) (q := q) hsh (xs (nI (5 * t) + (1 : Int32)).toNatClampNeg) (xs (nI (5 * t) + (2 : Int32)).toNatClampNeg) V c hx1) (cwV 2 hts gL_law_X7_put rfl rfl rfl (by decide +kernel) ⟨Nat.le_of_ble_eq_true rfl, Nat.le_of_ble_eq_true rfl⟩) ⟨fun a U g9 mk w9 => ⟨w9.1, xM_calling w9.2⟩, mP_recv (q := (RX7, TX7, 7)) hKx hMx xe2 rfl rfl, fun U hU hWm => ⟨rfl, by rw [hU]; exact hMx, va_K.moved hWm.alike hKx, hW, fun z hz => hfr H hMm hS.1 z (by rw [hU] at hz; exact hz)⟩⟩ rfl rfl hl.1 rfl (lv_room (Nat.le_of_ble_eq_true rfl)) dL_law_288 ⟨(show (100 + 45 * t + (c.1 + c.2) / 64) + 0 ≤ 600000 from by omega), (show (400000 + 600 * t + 2 * (c.1 + c.2)) + 0 ≤ 7302250 from by omega)⟩) hS (fun z _ h9 => hAxA z h9) (fun z h9 => hAxA z h9) (fun r9 u9 t9 H1 locs ht9 _ hw9 hB9 hz1 hk1 hS => ?_)
      have hMm := mP_kept hMm (H1 := H1) (fun z hz h9 => hk1 z hz (fun h8 => by obtain ⟨k9, n9, hk9, e9⟩ := h9; exact h8.2 k9 n9 hk9 e9))
      obtain ⟨hMx, -, hW, -⟩ := hB9
      rw [ht9] at hMx
      rw [show r9 = r from hw9]
      refine lv_aload_n hx hb dL_law_291 rfl (lv_at hl 2 rfl) ?_
      refine lv_aload_n hx hb dL_law_292 rfl (lv_at hl 0 rfl) ?_
      refine lv_iload_n hx hb dL_law_293 rfl (lv_at hl 3 rfl) ?_
      refine lv_iconst (v := 1) hx hb dL_law_294 (by decide) ?_
      refine lv_iadd hx hb dL_law_295 ?_
      refine va_sld hx hb hX hbl hbA hS i1 dL_law_296 ?_
      refine lv_aload_n hx hb dL_law_297 rfl (lv_at hl 0 rfl) ?_
      refine lv_iload_n hx hb dL_law_298 rfl (lv_at hl 3 rfl) ?_
      refine lv_iconst (v := 2) hx hb dL_law_299 (by decide) ?_
      refine lv_iadd hx hb dL_law_300 ?_
      refine va_sld hx hb hX hbl hbA hS i2 dL_law_301 ?_
      have hS1 := hS.1
      refine va_calli (va_runV (As := [.int (xs (nI (5 * t) + (1 : Int32)).toNatClampNeg), .int (xs (nI (5 * t) + (2 : Int32)).toNatClampNeg)]) (rest := [.int r]) ⟨hx, hb, hml, hown, hts⟩ (kX8_put l (A := fun z => Am am z ∨ H1.size ≤ z) (xs (nI (5 * t) + (1 : Int32)).toNatClampNeg) (xs (nI (5 * t) + (2 : Int32)).toNatClampNeg) G hm1) (cwV 2 hts gL_law_X8_put rfl rfl rfl (by decide +kernel) ⟨Nat.le_of_ble_eq_true rfl, Nat.le_of_ble_eq_true rfl⟩) ⟨fun a U g9 mk w9 => ⟨w9.1, mR_calling w9.2⟩, mP_recv (q := (RX8, TX8, 48)) hKm hMm me0 rfl rfl, fun U hU hWm => ⟨rfl, by rw [hU]; exact mP_w (fun k n hk => Or.inl ⟨k, n, hk, rfl⟩) hMm, va_K.moved hWm.alike hKm, fun z hz => Or.inr (by rw [hU] at hz; exact hz)⟩⟩ rfl rfl hl.1 rfl (lv_room (Nat.le_of_ble_eq_true rfl)) dL_law_302 ⟨(show ((100 + 45 * t + (c.1 + c.2) / 64) + 0) + 0 ≤ 600000 from by omega), (show ((400000 + 600 * t + 2 * (c.1 + c.2)) + 0) + 0 ≤ 7302250 from by omega)⟩) hS (fun z _ h9 => h9.elim (fun h8 => by obtain ⟨k9, n9, hk9, e9⟩ := h8; rw [← e9]; exact ham k9 n9 hk9) (fun h8 => Nat.le_trans hS1 h8)) (fun z h9 => h9.elim (fun h8 => by obtain ⟨k9, n9, hk9, e9⟩ := h8; rw [← e9]; exact ham k9 n9 hk9) (fun h8 => Nat.le_trans hS1 h8)) (fun r8 u8 t8 H2 locs ht8 _ hw8 hB8 hz2 hk2 hS => ?_)
      have hMx := mP_kept hMx (H1 := H2) (fun z hz h9 => hk2 z hz (fun h8 => h8.elim (fun h7 => by obtain ⟨k9, n9, hk9, e9⟩ := h7; exact h9.2 k9 n9 hk9 e9) (fun h7 => by omega)))
      obtain ⟨hMm, -, -⟩ := hB8
      rw [ht8] at hMm
      have hMm := mP_w (A2 := Am am) (fun k n hk => ⟨k, n, hk, rfl⟩) hMm
      rw [show r8 = r from hw8]
      refine lv_icmp_eq (tgt := 718) hx hb dL_law_305 (by decide) (fun _ => ?_) (fun c9 => absurd rfl c9)
      exact hnext ad cnt L q V2 c G2 H2 _ ls (((100 + 45 * t + (c.1 + c.2) / 64) + 0) + 0) (((400000 + 600 * t + 2 * (c.1 + c.2)) + 0) + 0) hRel hMx hW hMm hS (lv_sub hl [0, 1, 2, 3] rfl) (by omega) (by omega)
    by_cases w4 : x9 = 4
    · refine lv_tableIn (off := 278) (tgt := 310) hx hb dL_law_32 (by rw [w4]; decide) (by rw [w4]; decide) (by rw [w4]; decide) (by decide) ?_
      obtain ⟨r, V2, G2, hx1, hm1, hRel⟩ := s_prepare t cnt L V c G (xs (nI (5 * t) + (1 : Int32)).toNatClampNeg) (xs (nI (5 * t) + (2 : Int32)).toNatClampNeg) hk512 hRel
      refine lv_aload_n hx hb dL_law_310 rfl (lv_at hl 1 rfl) ?_
      refine lv_aload_n hx hb dL_law_311 rfl (lv_at hl 0 rfl) ?_
      refine lv_iload_n hx hb dL_law_312 rfl (lv_at hl 3 rfl) ?_
      refine lv_iconst (v := 1) hx hb dL_law_313 (by decide) ?_
      refine lv_iadd hx hb dL_law_314 ?_
      refine va_sld hx hb hX hbl hbA hS i1 dL_law_315 ?_
      refine lv_aload_n hx hb dL_law_316 rfl (lv_at hl 0 rfl) ?_
      refine lv_iload_n hx hb dL_law_317 rfl (lv_at hl 3 rfl) ?_
      refine lv_iconst (v := 2) hx hb dL_law_318 (by decide) ?_
      refine lv_iadd hx hb dL_law_319 ?_
      refine va_sld hx hb hX hbl hbA hS i2 dL_law_320 ?_
      refine va_calli (va_runV (As := [.int (xs (nI (5 * t) + (1 : Int32)).toNatClampNeg), .int (xs (nI (5 * t) + (2 : Int32)).toNatClampNeg)]) (rest := []) ⟨hx, hb, hml, hown, hts⟩ (kX7_prepare l (A := Ax s am) (ad := ad) (q := q) hsh (xs (nI (5 * t) + (1 : Int32)).toNatClampNeg) (xs (nI (5 * t) + (2 : Int32)).toNatClampNeg) V c hx1) (cwV 2 hts gL_law_X7_prepare rfl rfl rfl (by decide +kernel) ⟨Nat.le_of_ble_eq_true rfl, Nat.le_of_ble_eq_true rfl⟩) ⟨fun a U g9 mk w9 => ⟨w9.1, xM_calling w9.2⟩, mP_recv (q := (RX7, TX7, 7)) hKx hMx xe2 rfl rfl, fun U hU hWm => ⟨rfl, by rw [hU]; exact hMx, va_K.moved hWm.alike hKx, hW, fun z hz => hfr H hMm hS.1 z (by rw [hU] at hz; exact hz)⟩⟩ rfl rfl hl.1 rfl (lv_room (Nat.le_of_ble_eq_true rfl)) dL_law_321 ⟨(show (100 + 45 * t + (c.1 + c.2) / 64) + 0 ≤ 600000 from by omega), (show (400000 + 600 * t + 2 * (c.1 + c.2)) + 0 ≤ 7302250 from by omega)⟩) hS (fun z _ h9 => hAxA z h9) (fun z h9 => hAxA z h9) (fun r9 u9 t9 H1 locs ht9 _ hw9 hB9 hz1 hk1 hS => ?_)
      have hMm := mP_kept hMm (H1 := H1) (fun z hz h9 => hk1 z hz (fun h8 => by obtain ⟨k9, n9, hk9, e9⟩ := h9; exact h8.2 k9 n9 hk9 e9))
      obtain ⟨hMx, -, hW, -⟩ := hB9
      rw [ht9] at hMx
      rw [show r9 = r from hw9]
      refine lv_aload_n hx hb dL_law_324 rfl (lv_at hl 2 rfl) ?_
      refine lv_aload_n hx hb dL_law_325 rfl (lv_at hl 0 rfl) ?_
      refine lv_iload_n hx hb dL_law_326 rfl (lv_at hl 3 rfl) ?_
      refine lv_iconst (v := 1) hx hb dL_law_327 (by decide) ?_
      refine lv_iadd hx hb dL_law_328 ?_
      refine va_sld hx hb hX hbl hbA hS i1 dL_law_329 ?_
      refine lv_aload_n hx hb dL_law_330 rfl (lv_at hl 0 rfl) ?_
      refine lv_iload_n hx hb dL_law_331 rfl (lv_at hl 3 rfl) ?_
      refine lv_iconst (v := 2) hx hb dL_law_332 (by decide) ?_
      refine lv_iadd hx hb dL_law_333 ?_
      refine va_sld hx hb hX hbl hbA hS i2 dL_law_334 ?_
      have hS1 := hS.1
      refine va_calli (va_runV (As := [.int (xs (nI (5 * t) + (1 : Int32)).toNatClampNeg), .int (xs (nI (5 * t) + (2 : Int32)).toNatClampNeg)]) (rest := [.int r]) ⟨hx, hb, hml, hown, hts⟩ (kX8_prepare l (A := fun z => Am am z ∨ H1.size ≤ z) (xs (nI (5 * t) + (1 : Int32)).toNatClampNeg) (xs (nI (5 * t) + (2 : Int32)).toNatClampNeg) G hm1) (cwV 2 hts gL_law_X8_prepare rfl rfl rfl (by decide +kernel) ⟨Nat.le_of_ble_eq_true rfl, Nat.le_of_ble_eq_true rfl⟩) ⟨fun a U g9 mk w9 => ⟨w9.1, mR_calling w9.2⟩, mP_recv (q := (RX8, TX8, 48)) hKm hMm me0 rfl rfl, fun U hU hWm => ⟨rfl, by rw [hU]; exact mP_w (fun k n hk => Or.inl ⟨k, n, hk, rfl⟩) hMm, va_K.moved hWm.alike hKm, fun z hz => Or.inr (by rw [hU] at hz; exact hz)⟩⟩ rfl rfl hl.1 rfl (lv_room (Nat.le_of_ble_eq_true rfl)) dL_law_335 ⟨(show ((100 + 45 * t + (c.1 + c.2) / 64) + 0) + 0 ≤ 600000 from by omega), (show ((400000 + 600 * t + 2 * (c.1 + c.2)) + 0) + 0 ≤ 7302250 from by omega)⟩) hS (fun z _ h9 => h9.elim (fun h8 => by obtain ⟨k9, n9, hk9, e9⟩ := h8; rw [← e9]; exact ham k9 n9 hk9) (fun h8 => Nat.le_trans hS1 h8)) (fun z h9 => h9.elim (fun h8 => by obtain ⟨k9, n9, hk9, e9⟩ := h8; rw [← e9]; exact ham k9 n9 hk9) (fun h8 => Nat.le_trans hS1 h8)) (fun r8 u8 t8 H2 locs ht8 _ hw8 hB8 hz2 hk2 hS => ?_)
      have hMx := mP_kept hMx (H1 := H2) (fun z hz h9 => hk2 z hz (fun h8 => h8.elim (fun h7 => by obtain ⟨k9, n9, hk9, e9⟩ := h7; exact h9.2 k9 n9 hk9 e9) (fun h7 => by omega)))
      obtain ⟨hMm, -, -⟩ := hB8
      rw [ht8] at hMm
      have hMm := mP_w (A2 := Am am) (fun k n hk => ⟨k, n, hk, rfl⟩) hMm
      rw [show r8 = r from hw8]
      refine lv_icmp_eq (tgt := 718) hx hb dL_law_338 (by decide) (fun _ => ?_) (fun c9 => absurd rfl c9)
      exact hnext ad cnt L q V2 c G2 H2 _ ls (((100 + 45 * t + (c.1 + c.2) / 64) + 0) + 0) (((400000 + 600 * t + 2 * (c.1 + c.2)) + 0) + 0) hRel hMx hW hMm hS (lv_sub hl [0, 1, 2, 3] rfl) (by omega) (by omega)
    by_cases w5 : x9 = 5
    · refine lv_tableIn (off := 311) (tgt := 343) hx hb dL_law_32 (by rw [w5]; decide) (by rw [w5]; decide) (by rw [w5]; decide) (by decide) ?_
      obtain ⟨r, V2, G2, hx1, hm1, hRel⟩ := s_commit t cnt L V c G (xs (nI (5 * t) + (1 : Int32)).toNatClampNeg) (xs (nI (5 * t) + (2 : Int32)).toNatClampNeg) hk512 hRel
      refine lv_aload_n hx hb dL_law_343 rfl (lv_at hl 1 rfl) ?_
      refine lv_aload_n hx hb dL_law_344 rfl (lv_at hl 0 rfl) ?_
      refine lv_iload_n hx hb dL_law_345 rfl (lv_at hl 3 rfl) ?_
      refine lv_iconst (v := 1) hx hb dL_law_346 (by decide) ?_
      refine lv_iadd hx hb dL_law_347 ?_
      refine va_sld hx hb hX hbl hbA hS i1 dL_law_348 ?_
      refine lv_aload_n hx hb dL_law_349 rfl (lv_at hl 0 rfl) ?_
      refine lv_iload_n hx hb dL_law_350 rfl (lv_at hl 3 rfl) ?_
      refine lv_iconst (v := 2) hx hb dL_law_351 (by decide) ?_
      refine lv_iadd hx hb dL_law_352 ?_
      refine va_sld hx hb hX hbl hbA hS i2 dL_law_353 ?_
      refine va_calli (va_runV (As := [.int (xs (nI (5 * t) + (1 : Int32)).toNatClampNeg), .int (xs (nI (5 * t) + (2 : Int32)).toNatClampNeg)]) (rest := []) ⟨hx, hb, hml, hown, hts⟩ (kX7_commit l (A := Ax s am) (ad := ad) (q := q) hsh (xs (nI (5 * t) + (1 : Int32)).toNatClampNeg) (xs (nI (5 * t) + (2 : Int32)).toNatClampNeg) V c hx1) (cwV 2 hts gL_law_X7_commit rfl rfl rfl (by decide +kernel) ⟨Nat.le_of_ble_eq_true rfl, Nat.le_of_ble_eq_true rfl⟩) ⟨fun a U g9 mk w9 => ⟨w9.1, xM_calling w9.2⟩, mP_recv (q := (RX7, TX7, 7)) hKx hMx xe2 rfl rfl, fun U hU hWm => ⟨rfl, by rw [hU]; exact hMx, va_K.moved hWm.alike hKx, hW, fun z hz => hfr H hMm hS.1 z (by rw [hU] at hz; exact hz)⟩⟩ rfl rfl hl.1 rfl (lv_room (Nat.le_of_ble_eq_true rfl)) dL_law_354 ⟨(show (100 + 45 * t + (c.1 + c.2) / 64) + 0 ≤ 600000 from by omega), (show (400000 + 600 * t + 2 * (c.1 + c.2)) + 0 ≤ 7302250 from by omega)⟩) hS (fun z _ h9 => hAxA z h9) (fun z h9 => hAxA z h9) (fun r9 u9 t9 H1 locs ht9 _ hw9 hB9 hz1 hk1 hS => ?_)
      have hMm := mP_kept hMm (H1 := H1) (fun z hz h9 => hk1 z hz (fun h8 => by obtain ⟨k9, n9, hk9, e9⟩ := h9; exact h8.2 k9 n9 hk9 e9))
      obtain ⟨hMx, -, hW, -⟩ := hB9
      rw [ht9] at hMx
      rw [show r9 = r from hw9]
      refine lv_aload_n hx hb dL_law_357 rfl (lv_at hl 2 rfl) ?_
      refine lv_aload_n hx hb dL_law_358 rfl (lv_at hl 0 rfl) ?_
      refine lv_iload_n hx hb dL_law_359 rfl (lv_at hl 3 rfl) ?_
      refine lv_iconst (v := 1) hx hb dL_law_360 (by decide) ?_
      refine lv_iadd hx hb dL_law_361 ?_
      refine va_sld hx hb hX hbl hbA hS i1 dL_law_362 ?_
      refine lv_aload_n hx hb dL_law_363 rfl (lv_at hl 0 rfl) ?_
      refine lv_iload_n hx hb dL_law_364 rfl (lv_at hl 3 rfl) ?_
      refine lv_iconst (v := 2) hx hb dL_law_365 (by decide) ?_
      refine lv_iadd hx hb dL_law_366 ?_
      refine va_sld hx hb hX hbl hbA hS i2 dL_law_367 ?_
      have hS1 := hS.1
      refine va_calli (va_runV (As := [.int (xs (nI (5 * t) + (1 : Int32)).toNatClampNeg), .int (xs (nI (5 * t) + (2 : Int32)).toNatClampNeg)]) (rest := [.int r]) ⟨hx, hb, hml, hown, hts⟩ (kX8_commit l (A := fun z => Am am z ∨ H1.size ≤ z) (xs (nI (5 * t) + (1 : Int32)).toNatClampNeg) (xs (nI (5 * t) + (2 : Int32)).toNatClampNeg) G hm1) (cwV 2 hts gL_law_X8_commit rfl rfl rfl (by decide +kernel) ⟨Nat.le_of_ble_eq_true rfl, Nat.le_of_ble_eq_true rfl⟩) ⟨fun a U g9 mk w9 => ⟨w9.1, mR_calling w9.2⟩, mP_recv (q := (RX8, TX8, 48)) hKm hMm me0 rfl rfl, fun U hU hWm => ⟨rfl, by rw [hU]; exact mP_w (fun k n hk => Or.inl ⟨k, n, hk, rfl⟩) hMm, va_K.moved hWm.alike hKm, fun z hz => Or.inr (by rw [hU] at hz; exact hz)⟩⟩ rfl rfl hl.1 rfl (lv_room (Nat.le_of_ble_eq_true rfl)) dL_law_368 ⟨(show ((100 + 45 * t + (c.1 + c.2) / 64) + 0) + 0 ≤ 600000 from by omega), (show ((400000 + 600 * t + 2 * (c.1 + c.2)) + 0) + 0 ≤ 7302250 from by omega)⟩) hS (fun z _ h9 => h9.elim (fun h8 => by obtain ⟨k9, n9, hk9, e9⟩ := h8; rw [← e9]; exact ham k9 n9 hk9) (fun h8 => Nat.le_trans hS1 h8)) (fun z h9 => h9.elim (fun h8 => by obtain ⟨k9, n9, hk9, e9⟩ := h8; rw [← e9]; exact ham k9 n9 hk9) (fun h8 => Nat.le_trans hS1 h8)) (fun r8 u8 t8 H2 locs ht8 _ hw8 hB8 hz2 hk2 hS => ?_)
      have hMx := mP_kept hMx (H1 := H2) (fun z hz h9 => hk2 z hz (fun h8 => h8.elim (fun h7 => by obtain ⟨k9, n9, hk9, e9⟩ := h7; exact h9.2 k9 n9 hk9 e9) (fun h7 => by omega)))
      obtain ⟨hMm, -, -⟩ := hB8
      rw [ht8] at hMm
      have hMm := mP_w (A2 := Am am) (fun k n hk => ⟨k, n, hk, rfl⟩) hMm
      rw [show r8 = r from hw8]
      refine lv_icmp_eq (tgt := 718) hx hb dL_law_371 (by decide) (fun _ => ?_) (fun c9 => absurd rfl c9)
      exact hnext ad cnt L q V2 c G2 H2 _ ls (((100 + 45 * t + (c.1 + c.2) / 64) + 0) + 0) (((400000 + 600 * t + 2 * (c.1 + c.2)) + 0) + 0) hRel hMx hW hMm hS (lv_sub hl [0, 1, 2, 3] rfl) (by omega) (by omega)
    by_cases w6 : x9 = 6
    · refine lv_tableIn (off := 344) (tgt := 376) hx hb dL_law_32 (by rw [w6]; decide) (by rw [w6]; decide) (by rw [w6]; decide) (by decide) ?_
      obtain ⟨r, V2, G2, hx1, hm1, hRel⟩ := s_abort t cnt L V c G (xs (nI (5 * t) + (1 : Int32)).toNatClampNeg) hk512 hRel
      refine lv_aload_n hx hb dL_law_376 rfl (lv_at hl 1 rfl) ?_
      refine lv_aload_n hx hb dL_law_377 rfl (lv_at hl 0 rfl) ?_
      refine lv_iload_n hx hb dL_law_378 rfl (lv_at hl 3 rfl) ?_
      refine lv_iconst (v := 1) hx hb dL_law_379 (by decide) ?_
      refine lv_iadd hx hb dL_law_380 ?_
      refine va_sld hx hb hX hbl hbA hS i1 dL_law_381 ?_
      refine va_calli (va_runV (As := [.int (xs (nI (5 * t) + (1 : Int32)).toNatClampNeg)]) (rest := []) ⟨hx, hb, hml, hown, hts⟩ (kX7_abort l (A := Ax s am) (ad := ad) (q := q) hsh (xs (nI (5 * t) + (1 : Int32)).toNatClampNeg) V c hx1) (cwV 1 hts gL_law_X7_abort rfl rfl rfl (by decide +kernel) ⟨Nat.le_of_ble_eq_true rfl, Nat.le_of_ble_eq_true rfl⟩) ⟨fun a U g9 mk w9 => ⟨w9.1, xM_calling w9.2⟩, mP_recv (q := (RX7, TX7, 7)) hKx hMx xe2 rfl rfl, fun U hU hWm => ⟨rfl, by rw [hU]; exact hMx, va_K.moved hWm.alike hKx, hW, fun z hz => hfr H hMm hS.1 z (by rw [hU] at hz; exact hz)⟩⟩ rfl rfl hl.1 rfl (lv_room (Nat.le_of_ble_eq_true rfl)) dL_law_382 ⟨(show (100 + 45 * t + (c.1 + c.2) / 64) + 0 ≤ 600000 from by omega), (show (400000 + 600 * t + 2 * (c.1 + c.2)) + 0 ≤ 7302250 from by omega)⟩) hS (fun z _ h9 => hAxA z h9) (fun z h9 => hAxA z h9) (fun r9 u9 t9 H1 locs ht9 _ hw9 hB9 hz1 hk1 hS => ?_)
      have hMm := mP_kept hMm (H1 := H1) (fun z hz h9 => hk1 z hz (fun h8 => by obtain ⟨k9, n9, hk9, e9⟩ := h9; exact h8.2 k9 n9 hk9 e9))
      obtain ⟨hMx, -, hW, -⟩ := hB9
      rw [ht9] at hMx
      rw [show r9 = r from hw9]
      refine lv_aload_n hx hb dL_law_385 rfl (lv_at hl 2 rfl) ?_
      refine lv_aload_n hx hb dL_law_386 rfl (lv_at hl 0 rfl) ?_
      refine lv_iload_n hx hb dL_law_387 rfl (lv_at hl 3 rfl) ?_
      refine lv_iconst (v := 1) hx hb dL_law_388 (by decide) ?_
      refine lv_iadd hx hb dL_law_389 ?_
      refine va_sld hx hb hX hbl hbA hS i1 dL_law_390 ?_
      have hS1 := hS.1
      refine va_calli (va_runV (As := [.int (xs (nI (5 * t) + (1 : Int32)).toNatClampNeg)]) (rest := [.int r]) ⟨hx, hb, hml, hown, hts⟩ (kX8_abort l (A := fun z => Am am z ∨ H1.size ≤ z) (xs (nI (5 * t) + (1 : Int32)).toNatClampNeg) G hm1) (cwV 1 hts gL_law_X8_abort rfl rfl rfl (by decide +kernel) ⟨Nat.le_of_ble_eq_true rfl, Nat.le_of_ble_eq_true rfl⟩) ⟨fun a U g9 mk w9 => ⟨w9.1, mR_calling w9.2⟩, mP_recv (q := (RX8, TX8, 48)) hKm hMm me0 rfl rfl, fun U hU hWm => ⟨rfl, by rw [hU]; exact mP_w (fun k n hk => Or.inl ⟨k, n, hk, rfl⟩) hMm, va_K.moved hWm.alike hKm, fun z hz => Or.inr (by rw [hU] at hz; exact hz)⟩⟩ rfl rfl hl.1 rfl (lv_room (Nat.le_of_ble_eq_true rfl)) dL_law_391 ⟨(show ((100 + 45 * t + (c.1 + c.2) / 64) + 0) + 0 ≤ 600000 from by omega), (show ((400000 + 600 * t + 2 * (c.1 + c.2)) + 0) + 0 ≤ 7302250 from by omega)⟩) hS (fun z _ h9 => h9.elim (fun h8 => by obtain ⟨k9, n9, hk9, e9⟩ := h8; rw [← e9]; exact ham k9 n9 hk9) (fun h8 => Nat.le_trans hS1 h8)) (fun z h9 => h9.elim (fun h8 => by obtain ⟨k9, n9, hk9, e9⟩ := h8; rw [← e9]; exact ham k9 n9 hk9) (fun h8 => Nat.le_trans hS1 h8)) (fun r8 u8 t8 H2 locs ht8 _ hw8 hB8 hz2 hk2 hS => ?_)
      have hMx := mP_kept hMx (H1 := H2) (fun z hz h9 => hk2 z hz (fun h8 => h8.elim (fun h7 => by obtain ⟨k9, n9, hk9, e9⟩ := h7; exact h9.2 k9 n9 hk9 e9) (fun h7 => by omega)))
      obtain ⟨hMm, -, -⟩ := hB8
      rw [ht8] at hMm
      have hMm := mP_w (A2 := Am am) (fun k n hk => ⟨k, n, hk, rfl⟩) hMm
      rw [show r8 = r from hw8]
      refine lv_icmp_eq (tgt := 718) hx hb dL_law_394 (by decide) (fun _ => ?_) (fun c9 => absurd rfl c9)
      exact hnext ad cnt L q V2 c G2 H2 _ ls (((100 + 45 * t + (c.1 + c.2) / 64) + 0) + 0) (((400000 + 600 * t + 2 * (c.1 + c.2)) + 0) + 0) hRel hMx hW hMm hS (lv_sub hl [0, 1, 2, 3] rfl) (by omega) (by omega)
    by_cases w7 : x9 = 7
    · refine lv_tableIn (off := 367) (tgt := 399) hx hb dL_law_32 (by rw [w7]; decide) (by rw [w7]; decide) (by rw [w7]; decide) (by decide) ?_
      obtain ⟨r, V2, G2, hx1, hm1, hRel⟩ := s_timer t cnt L V c G (xs (nI (5 * t) + (1 : Int32)).toNatClampNeg) (xs (nI (5 * t) + (2 : Int32)).toNatClampNeg) (xs (nI (5 * t) + (3 : Int32)).toNatClampNeg) hk512 hRel
      refine lv_aload_n hx hb dL_law_399 rfl (lv_at hl 1 rfl) ?_
      refine lv_aload_n hx hb dL_law_400 rfl (lv_at hl 0 rfl) ?_
      refine lv_iload_n hx hb dL_law_401 rfl (lv_at hl 3 rfl) ?_
      refine lv_iconst (v := 1) hx hb dL_law_402 (by decide) ?_
      refine lv_iadd hx hb dL_law_403 ?_
      refine va_sld hx hb hX hbl hbA hS i1 dL_law_404 ?_
      refine lv_aload_n hx hb dL_law_405 rfl (lv_at hl 0 rfl) ?_
      refine lv_iload_n hx hb dL_law_406 rfl (lv_at hl 3 rfl) ?_
      refine lv_iconst (v := 2) hx hb dL_law_407 (by decide) ?_
      refine lv_iadd hx hb dL_law_408 ?_
      refine va_sld hx hb hX hbl hbA hS i2 dL_law_409 ?_
      refine lv_aload_n hx hb dL_law_410 rfl (lv_at hl 0 rfl) ?_
      refine lv_iload_n hx hb dL_law_411 rfl (lv_at hl 3 rfl) ?_
      refine lv_iconst (v := 3) hx hb dL_law_412 (by decide) ?_
      refine lv_iadd hx hb dL_law_413 ?_
      refine va_sld hx hb hX hbl hbA hS i3 dL_law_414 ?_
      refine va_calli (va_runV (As := [.int (xs (nI (5 * t) + (1 : Int32)).toNatClampNeg), .int (xs (nI (5 * t) + (2 : Int32)).toNatClampNeg), .int (xs (nI (5 * t) + (3 : Int32)).toNatClampNeg)]) (rest := []) ⟨hx, hb, hml, hown, hts⟩ (kX7_timer l (A := Ax s am) (ad := ad) (q := q) hsh (xs (nI (5 * t) + (1 : Int32)).toNatClampNeg) (xs (nI (5 * t) + (2 : Int32)).toNatClampNeg) (xs (nI (5 * t) + (3 : Int32)).toNatClampNeg) V c hx1) (cwV 3 hts gL_law_X7_timer rfl rfl rfl (by decide +kernel) ⟨Nat.le_of_ble_eq_true rfl, Nat.le_of_ble_eq_true rfl⟩) ⟨fun a U g9 mk w9 => ⟨w9.1, xM_calling w9.2⟩, mP_recv (q := (RX7, TX7, 7)) hKx hMx xe2 rfl rfl, fun U hU hWm => ⟨rfl, by rw [hU]; exact hMx, va_K.moved hWm.alike hKx, hW, fun z hz => hfr H hMm hS.1 z (by rw [hU] at hz; exact hz)⟩⟩ rfl rfl hl.1 rfl (lv_room (Nat.le_of_ble_eq_true rfl)) dL_law_415 ⟨(show (100 + 45 * t + (c.1 + c.2) / 64) + 0 ≤ 600000 from by omega), (show (400000 + 600 * t + 2 * (c.1 + c.2)) + 0 ≤ 7302250 from by omega)⟩) hS (fun z _ h9 => hAxA z h9) (fun z h9 => hAxA z h9) (fun r9 u9 t9 H1 locs ht9 _ hw9 hB9 hz1 hk1 hS => ?_)
      have hMm := mP_kept hMm (H1 := H1) (fun z hz h9 => hk1 z hz (fun h8 => by obtain ⟨k9, n9, hk9, e9⟩ := h9; exact h8.2 k9 n9 hk9 e9))
      obtain ⟨hMx, -, hW, -⟩ := hB9
      rw [ht9] at hMx
      rw [show r9 = r from hw9]
      refine lv_aload_n hx hb dL_law_418 rfl (lv_at hl 2 rfl) ?_
      refine lv_aload_n hx hb dL_law_419 rfl (lv_at hl 0 rfl) ?_
      refine lv_iload_n hx hb dL_law_420 rfl (lv_at hl 3 rfl) ?_
      refine lv_iconst (v := 1) hx hb dL_law_421 (by decide) ?_
      refine lv_iadd hx hb dL_law_422 ?_
      refine va_sld hx hb hX hbl hbA hS i1 dL_law_423 ?_
      refine lv_aload_n hx hb dL_law_424 rfl (lv_at hl 0 rfl) ?_
      refine lv_iload_n hx hb dL_law_425 rfl (lv_at hl 3 rfl) ?_
      refine lv_iconst (v := 2) hx hb dL_law_426 (by decide) ?_
      refine lv_iadd hx hb dL_law_427 ?_
      refine va_sld hx hb hX hbl hbA hS i2 dL_law_428 ?_
      refine lv_aload_n hx hb dL_law_429 rfl (lv_at hl 0 rfl) ?_
      refine lv_iload_n hx hb dL_law_430 rfl (lv_at hl 3 rfl) ?_
      refine lv_iconst (v := 3) hx hb dL_law_431 (by decide) ?_
      refine lv_iadd hx hb dL_law_432 ?_
      refine va_sld hx hb hX hbl hbA hS i3 dL_law_433 ?_
      have hS1 := hS.1
      refine va_calli (va_runV (As := [.int (xs (nI (5 * t) + (1 : Int32)).toNatClampNeg), .int (xs (nI (5 * t) + (2 : Int32)).toNatClampNeg), .int (xs (nI (5 * t) + (3 : Int32)).toNatClampNeg)]) (rest := [.int r]) ⟨hx, hb, hml, hown, hts⟩ (kX8_timer l (A := fun z => Am am z ∨ H1.size ≤ z) (xs (nI (5 * t) + (1 : Int32)).toNatClampNeg) (xs (nI (5 * t) + (2 : Int32)).toNatClampNeg) (xs (nI (5 * t) + (3 : Int32)).toNatClampNeg) G hm1) (cwV 3 hts gL_law_X8_timer rfl rfl rfl (by decide +kernel) ⟨Nat.le_of_ble_eq_true rfl, Nat.le_of_ble_eq_true rfl⟩) ⟨fun a U g9 mk w9 => ⟨w9.1, mR_calling w9.2⟩, mP_recv (q := (RX8, TX8, 48)) hKm hMm me0 rfl rfl, fun U hU hWm => ⟨rfl, by rw [hU]; exact mP_w (fun k n hk => Or.inl ⟨k, n, hk, rfl⟩) hMm, va_K.moved hWm.alike hKm, fun z hz => Or.inr (by rw [hU] at hz; exact hz)⟩⟩ rfl rfl hl.1 rfl (lv_room (Nat.le_of_ble_eq_true rfl)) dL_law_434 ⟨(show ((100 + 45 * t + (c.1 + c.2) / 64) + 0) + 0 ≤ 600000 from by omega), (show ((400000 + 600 * t + 2 * (c.1 + c.2)) + 0) + 0 ≤ 7302250 from by omega)⟩) hS (fun z _ h9 => h9.elim (fun h8 => by obtain ⟨k9, n9, hk9, e9⟩ := h8; rw [← e9]; exact ham k9 n9 hk9) (fun h8 => Nat.le_trans hS1 h8)) (fun z h9 => h9.elim (fun h8 => by obtain ⟨k9, n9, hk9, e9⟩ := h8; rw [← e9]; exact ham k9 n9 hk9) (fun h8 => Nat.le_trans hS1 h8)) (fun r8 u8 t8 H2 locs ht8 _ hw8 hB8 hz2 hk2 hS => ?_)
      have hMx := mP_kept hMx (H1 := H2) (fun z hz h9 => hk2 z hz (fun h8 => h8.elim (fun h7 => by obtain ⟨k9, n9, hk9, e9⟩ := h7; exact h9.2 k9 n9 hk9 e9) (fun h7 => by omega)))
      obtain ⟨hMm, -, -⟩ := hB8
      rw [ht8] at hMm
      have hMm := mP_w (A2 := Am am) (fun k n hk => ⟨k, n, hk, rfl⟩) hMm
      rw [show r8 = r from hw8]
      refine lv_icmp_eq (tgt := 718) hx hb dL_law_437 (by decide) (fun _ => ?_) (fun c9 => absurd rfl c9)
      exact hnext ad cnt L q V2 c G2 H2 _ ls (((100 + 45 * t + (c.1 + c.2) / 64) + 0) + 0) (((400000 + 600 * t + 2 * (c.1 + c.2)) + 0) + 0) hRel hMx hW hMm hS (lv_sub hl [0, 1, 2, 3] rfl) (by omega) (by omega)
    by_cases w8 : x9 = 8
    · refine lv_tableIn (off := 410) (tgt := 442) hx hb dL_law_32 (by rw [w8]; decide) (by rw [w8]; decide) (by rw [w8]; decide) (by decide) ?_
      obtain ⟨r, V2, G2, hx1, hm1, hRel⟩ := s_cancel t cnt L V c G (xs (nI (5 * t) + (1 : Int32)).toNatClampNeg) hk512 hRel
      refine lv_aload_n hx hb dL_law_442 rfl (lv_at hl 1 rfl) ?_
      refine lv_aload_n hx hb dL_law_443 rfl (lv_at hl 0 rfl) ?_
      refine lv_iload_n hx hb dL_law_444 rfl (lv_at hl 3 rfl) ?_
      refine lv_iconst (v := 1) hx hb dL_law_445 (by decide) ?_
      refine lv_iadd hx hb dL_law_446 ?_
      refine va_sld hx hb hX hbl hbA hS i1 dL_law_447 ?_
      refine va_calli (va_runV (As := [.int (xs (nI (5 * t) + (1 : Int32)).toNatClampNeg)]) (rest := []) ⟨hx, hb, hml, hown, hts⟩ (kX7_cancel l (A := Ax s am) (ad := ad) (q := q) hsh (xs (nI (5 * t) + (1 : Int32)).toNatClampNeg) V c hx1) (cwV 1 hts gL_law_X7_cancel rfl rfl rfl (by decide +kernel) ⟨Nat.le_of_ble_eq_true rfl, Nat.le_of_ble_eq_true rfl⟩) ⟨fun a U g9 mk w9 => ⟨w9.1, xM_calling w9.2⟩, mP_recv (q := (RX7, TX7, 7)) hKx hMx xe2 rfl rfl, fun U hU hWm => ⟨rfl, by rw [hU]; exact hMx, va_K.moved hWm.alike hKx, hW, fun z hz => hfr H hMm hS.1 z (by rw [hU] at hz; exact hz)⟩⟩ rfl rfl hl.1 rfl (lv_room (Nat.le_of_ble_eq_true rfl)) dL_law_448 ⟨(show (100 + 45 * t + (c.1 + c.2) / 64) + 0 ≤ 600000 from by omega), (show (400000 + 600 * t + 2 * (c.1 + c.2)) + 0 ≤ 7302250 from by omega)⟩) hS (fun z _ h9 => hAxA z h9) (fun z h9 => hAxA z h9) (fun r9 u9 t9 H1 locs ht9 _ hw9 hB9 hz1 hk1 hS => ?_)
      have hMm := mP_kept hMm (H1 := H1) (fun z hz h9 => hk1 z hz (fun h8 => by obtain ⟨k9, n9, hk9, e9⟩ := h9; exact h8.2 k9 n9 hk9 e9))
      obtain ⟨hMx, -, hW, -⟩ := hB9
      rw [ht9] at hMx
      rw [show r9 = r from hw9]
      refine lv_aload_n hx hb dL_law_451 rfl (lv_at hl 2 rfl) ?_
      refine lv_aload_n hx hb dL_law_452 rfl (lv_at hl 0 rfl) ?_
      refine lv_iload_n hx hb dL_law_453 rfl (lv_at hl 3 rfl) ?_
      refine lv_iconst (v := 1) hx hb dL_law_454 (by decide) ?_
      refine lv_iadd hx hb dL_law_455 ?_
      refine va_sld hx hb hX hbl hbA hS i1 dL_law_456 ?_
      have hS1 := hS.1
      refine va_calli (va_runV (As := [.int (xs (nI (5 * t) + (1 : Int32)).toNatClampNeg)]) (rest := [.int r]) ⟨hx, hb, hml, hown, hts⟩ (kX8_cancel l (A := fun z => Am am z ∨ H1.size ≤ z) (xs (nI (5 * t) + (1 : Int32)).toNatClampNeg) G hm1) (cwV 1 hts gL_law_X8_cancel rfl rfl rfl (by decide +kernel) ⟨Nat.le_of_ble_eq_true rfl, Nat.le_of_ble_eq_true rfl⟩) ⟨fun a U g9 mk w9 => ⟨w9.1, mR_calling w9.2⟩, mP_recv (q := (RX8, TX8, 48)) hKm hMm me0 rfl rfl, fun U hU hWm => ⟨rfl, by rw [hU]; exact mP_w (fun k n hk => Or.inl ⟨k, n, hk, rfl⟩) hMm, va_K.moved hWm.alike hKm, fun z hz => Or.inr (by rw [hU] at hz; exact hz)⟩⟩ rfl rfl hl.1 rfl (lv_room (Nat.le_of_ble_eq_true rfl)) dL_law_457 ⟨(show ((100 + 45 * t + (c.1 + c.2) / 64) + 0) + 0 ≤ 600000 from by omega), (show ((400000 + 600 * t + 2 * (c.1 + c.2)) + 0) + 0 ≤ 7302250 from by omega)⟩) hS (fun z _ h9 => h9.elim (fun h8 => by obtain ⟨k9, n9, hk9, e9⟩ := h8; rw [← e9]; exact ham k9 n9 hk9) (fun h8 => Nat.le_trans hS1 h8)) (fun z h9 => h9.elim (fun h8 => by obtain ⟨k9, n9, hk9, e9⟩ := h8; rw [← e9]; exact ham k9 n9 hk9) (fun h8 => Nat.le_trans hS1 h8)) (fun r8 u8 t8 H2 locs ht8 _ hw8 hB8 hz2 hk2 hS => ?_)
      have hMx := mP_kept hMx (H1 := H2) (fun z hz h9 => hk2 z hz (fun h8 => h8.elim (fun h7 => by obtain ⟨k9, n9, hk9, e9⟩ := h7; exact h9.2 k9 n9 hk9 e9) (fun h7 => by omega)))
      obtain ⟨hMm, -, -⟩ := hB8
      rw [ht8] at hMm
      have hMm := mP_w (A2 := Am am) (fun k n hk => ⟨k, n, hk, rfl⟩) hMm
      rw [show r8 = r from hw8]
      refine lv_icmp_eq (tgt := 718) hx hb dL_law_460 (by decide) (fun _ => ?_) (fun c9 => absurd rfl c9)
      exact hnext ad cnt L q V2 c G2 H2 _ ls (((100 + 45 * t + (c.1 + c.2) / 64) + 0) + 0) (((400000 + 600 * t + 2 * (c.1 + c.2)) + 0) + 0) hRel hMx hW hMm hS (lv_sub hl [0, 1, 2, 3] rfl) (by omega) (by omega)
    by_cases w9 : x9 = 9
    · refine lv_tableIn (off := 433) (tgt := 465) hx hb dL_law_32 (by rw [w9]; decide) (by rw [w9]; decide) (by rw [w9]; decide) (by decide) ?_
      obtain ⟨r, V2, G2, hx1, hm1, hRel⟩ := s_close t cnt L V c G (xs (nI (5 * t) + (1 : Int32)).toNatClampNeg) hk512 hRel
      refine lv_aload_n hx hb dL_law_465 rfl (lv_at hl 1 rfl) ?_
      refine lv_aload_n hx hb dL_law_466 rfl (lv_at hl 0 rfl) ?_
      refine lv_iload_n hx hb dL_law_467 rfl (lv_at hl 3 rfl) ?_
      refine lv_iconst (v := 1) hx hb dL_law_468 (by decide) ?_
      refine lv_iadd hx hb dL_law_469 ?_
      refine va_sld hx hb hX hbl hbA hS i1 dL_law_470 ?_
      refine va_calli (va_runV (As := [.int (xs (nI (5 * t) + (1 : Int32)).toNatClampNeg)]) (rest := []) ⟨hx, hb, hml, hown, hts⟩ (kX7_close l (A := Ax s am) (ad := ad) (q := q) hsh (xs (nI (5 * t) + (1 : Int32)).toNatClampNeg) V c hx1) (cwV 1 hts gL_law_X7_close rfl rfl rfl (by decide +kernel) ⟨Nat.le_of_ble_eq_true rfl, Nat.le_of_ble_eq_true rfl⟩) ⟨fun a U g9 mk w9 => ⟨w9.1, xM_calling w9.2⟩, mP_recv (q := (RX7, TX7, 7)) hKx hMx xe2 rfl rfl, fun U hU hWm => ⟨rfl, by rw [hU]; exact hMx, va_K.moved hWm.alike hKx, hW, fun z hz => hfr H hMm hS.1 z (by rw [hU] at hz; exact hz)⟩⟩ rfl rfl hl.1 rfl (lv_room (Nat.le_of_ble_eq_true rfl)) dL_law_471 ⟨(show (100 + 45 * t + (c.1 + c.2) / 64) + 0 ≤ 600000 from by omega), (show (400000 + 600 * t + 2 * (c.1 + c.2)) + 0 ≤ 7302250 from by omega)⟩) hS (fun z _ h9 => hAxA z h9) (fun z h9 => hAxA z h9) (fun r9 u9 t9 H1 locs ht9 _ hw9 hB9 hz1 hk1 hS => ?_)
      have hMm := mP_kept hMm (H1 := H1) (fun z hz h9 => hk1 z hz (fun h8 => by obtain ⟨k9, n9, hk9, e9⟩ := h9; exact h8.2 k9 n9 hk9 e9))
      obtain ⟨hMx, -, hW, -⟩ := hB9
      rw [ht9] at hMx
      rw [show r9 = r from hw9]
      refine lv_aload_n hx hb dL_law_474 rfl (lv_at hl 2 rfl) ?_
      refine lv_aload_n hx hb dL_law_475 rfl (lv_at hl 0 rfl) ?_
      refine lv_iload_n hx hb dL_law_476 rfl (lv_at hl 3 rfl) ?_
      refine lv_iconst (v := 1) hx hb dL_law_477 (by decide) ?_
      refine lv_iadd hx hb dL_law_478 ?_
      refine va_sld hx hb hX hbl hbA hS i1 dL_law_479 ?_
      have hS1 := hS.1
      refine va_calli (va_runV (As := [.int (xs (nI (5 * t) + (1 : Int32)).toNatClampNeg)]) (rest := [.int r]) ⟨hx, hb, hml, hown, hts⟩ (kX8_close l (A := fun z => Am am z ∨ H1.size ≤ z) (xs (nI (5 * t) + (1 : Int32)).toNatClampNeg) G hm1) (cwV 1 hts gL_law_X8_close rfl rfl rfl (by decide +kernel) ⟨Nat.le_of_ble_eq_true rfl, Nat.le_of_ble_eq_true rfl⟩) ⟨fun a U g9 mk w9 => ⟨w9.1, mR_calling w9.2⟩, mP_recv (q := (RX8, TX8, 48)) hKm hMm me0 rfl rfl, fun U hU hWm => ⟨rfl, by rw [hU]; exact mP_w (fun k n hk => Or.inl ⟨k, n, hk, rfl⟩) hMm, va_K.moved hWm.alike hKm, fun z hz => Or.inr (by rw [hU] at hz; exact hz)⟩⟩ rfl rfl hl.1 rfl (lv_room (Nat.le_of_ble_eq_true rfl)) dL_law_480 ⟨(show ((100 + 45 * t + (c.1 + c.2) / 64) + 0) + 0 ≤ 600000 from by omega), (show ((400000 + 600 * t + 2 * (c.1 + c.2)) + 0) + 0 ≤ 7302250 from by omega)⟩) hS (fun z _ h9 => h9.elim (fun h8 => by obtain ⟨k9, n9, hk9, e9⟩ := h8; rw [← e9]; exact ham k9 n9 hk9) (fun h8 => Nat.le_trans hS1 h8)) (fun z h9 => h9.elim (fun h8 => by obtain ⟨k9, n9, hk9, e9⟩ := h8; rw [← e9]; exact ham k9 n9 hk9) (fun h8 => Nat.le_trans hS1 h8)) (fun r8 u8 t8 H2 locs ht8 _ hw8 hB8 hz2 hk2 hS => ?_)
      have hMx := mP_kept hMx (H1 := H2) (fun z hz h9 => hk2 z hz (fun h8 => h8.elim (fun h7 => by obtain ⟨k9, n9, hk9, e9⟩ := h7; exact h9.2 k9 n9 hk9 e9) (fun h7 => by omega)))
      obtain ⟨hMm, -, -⟩ := hB8
      rw [ht8] at hMm
      have hMm := mP_w (A2 := Am am) (fun k n hk => ⟨k, n, hk, rfl⟩) hMm
      rw [show r8 = r from hw8]
      refine lv_icmp_eq (tgt := 718) hx hb dL_law_483 (by decide) (fun _ => ?_) (fun c9 => absurd rfl c9)
      exact hnext ad cnt L q V2 c G2 H2 _ ls (((100 + 45 * t + (c.1 + c.2) / 64) + 0) + 0) (((400000 + 600 * t + 2 * (c.1 + c.2)) + 0) + 0) hRel hMx hW hMm hS (lv_sub hl [0, 1, 2, 3] rfl) (by omega) (by omega)
    by_cases w10 : x9 = 10
    · refine lv_tableIn (off := 456) (tgt := 488) hx hb dL_law_32 (by rw [w10]; decide) (by rw [w10]; decide) (by rw [w10]; decide) (by decide) ?_
      obtain ⟨r, V2, c2, G2, hx1, hm1, hRel⟩ := s_tick t cnt L V c G (xs (nI (5 * t) + (1 : Int32)).toNatClampNeg) hk512 hRel
      obtain ⟨-, -, hcc2⟩ := s_has _ _ _ _ _ _ hRel
      have hmo := moX7_tick hx1
      dsimp only at hmo
      refine lv_aload_n hx hb dL_law_488 rfl (lv_at hl 1 rfl) ?_
      refine lv_aload_n hx hb dL_law_489 rfl (lv_at hl 0 rfl) ?_
      refine lv_iload_n hx hb dL_law_490 rfl (lv_at hl 3 rfl) ?_
      refine lv_iconst (v := 1) hx hb dL_law_491 (by decide) ?_
      refine lv_iadd hx hb dL_law_492 ?_
      refine va_sld hx hb hX hbl hbA hS i1 dL_law_493 ?_
      refine va_calli (va_runV (As := [.int (xs (nI (5 * t) + (1 : Int32)).toNatClampNeg)]) (rest := []) ⟨hx, hb, hml, hown, hts⟩ (kX7_tick l (A := Ax s am) (ad := ad) (q := q) hsh (xs (nI (5 * t) + (1 : Int32)).toNatClampNeg) V c hx1) (cwV 1 hts gL_law_X7_tick rfl rfl rfl (by decide +kernel) ⟨Nat.le_of_ble_eq_true rfl, Nat.le_of_ble_eq_true rfl⟩) ⟨fun a U g9 mk w9 => ⟨w9.1, xM_calling w9.2⟩, mP_recv (q := (RX7, TX7, 7)) hKx hMx xe2 rfl rfl, fun U hU hWm => ⟨rfl, by rw [hU]; exact hMx, va_K.moved hWm.alike hKx, hW, fun z hz => hfr H hMm hS.1 z (by rw [hU] at hz; exact hz)⟩⟩ rfl rfl hl.1 rfl (lv_room (Nat.le_of_ble_eq_true rfl)) dL_law_494 ⟨(show (100 + 45 * t + (c.1 + c.2) / 64) + ((c2.1 + c2.2) / 64 - (c.1 + c.2) / 64) ≤ 600000 from by omega), (show (400000 + 600 * t + 2 * (c.1 + c.2)) + (2 * (c2.1 + c2.2) - 2 * (c.1 + c.2)) ≤ 7302250 from by omega)⟩) hS (fun z _ h9 => hAxA z h9) (fun z h9 => hAxA z h9) (fun r9 u9 t9 H1 locs ht9 _ hw9 hB9 hz1 hk1 hS => ?_)
      have hMm := mP_kept hMm (H1 := H1) (fun z hz h9 => hk1 z hz (fun h8 => by obtain ⟨k9, n9, hk9, e9⟩ := h9; exact h8.2 k9 n9 hk9 e9))
      obtain ⟨hMx, -, hW, -⟩ := hB9
      rw [ht9] at hMx
      rw [show r9 = r from hw9]
      refine lv_aload_n hx hb dL_law_497 rfl (lv_at hl 2 rfl) ?_
      refine lv_aload_n hx hb dL_law_498 rfl (lv_at hl 0 rfl) ?_
      refine lv_iload_n hx hb dL_law_499 rfl (lv_at hl 3 rfl) ?_
      refine lv_iconst (v := 1) hx hb dL_law_500 (by decide) ?_
      refine lv_iadd hx hb dL_law_501 ?_
      refine va_sld hx hb hX hbl hbA hS i1 dL_law_502 ?_
      have hS1 := hS.1
      refine va_calli (va_runV (As := [.int (xs (nI (5 * t) + (1 : Int32)).toNatClampNeg)]) (rest := [.int r]) ⟨hx, hb, hml, hown, hts⟩ (kX8_tick l (A := fun z => Am am z ∨ H1.size ≤ z) (xs (nI (5 * t) + (1 : Int32)).toNatClampNeg) G hm1) (cwV 1 hts gL_law_X8_tick rfl rfl rfl (by decide +kernel) ⟨Nat.le_of_ble_eq_true rfl, Nat.le_of_ble_eq_true rfl⟩) ⟨fun a U g9 mk w9 => ⟨w9.1, mR_calling w9.2⟩, mP_recv (q := (RX8, TX8, 48)) hKm hMm me0 rfl rfl, fun U hU hWm => ⟨rfl, by rw [hU]; exact mP_w (fun k n hk => Or.inl ⟨k, n, hk, rfl⟩) hMm, va_K.moved hWm.alike hKm, fun z hz => Or.inr (by rw [hU] at hz; exact hz)⟩⟩ rfl rfl hl.1 rfl (lv_room (Nat.le_of_ble_eq_true rfl)) dL_law_503 ⟨(show ((100 + 45 * t + (c.1 + c.2) / 64) + ((c2.1 + c2.2) / 64 - (c.1 + c.2) / 64)) + 0 ≤ 600000 from by omega), (show ((400000 + 600 * t + 2 * (c.1 + c.2)) + (2 * (c2.1 + c2.2) - 2 * (c.1 + c.2))) + 0 ≤ 7302250 from by omega)⟩) hS (fun z _ h9 => h9.elim (fun h8 => by obtain ⟨k9, n9, hk9, e9⟩ := h8; rw [← e9]; exact ham k9 n9 hk9) (fun h8 => Nat.le_trans hS1 h8)) (fun z h9 => h9.elim (fun h8 => by obtain ⟨k9, n9, hk9, e9⟩ := h8; rw [← e9]; exact ham k9 n9 hk9) (fun h8 => Nat.le_trans hS1 h8)) (fun r8 u8 t8 H2 locs ht8 _ hw8 hB8 hz2 hk2 hS => ?_)
      have hMx := mP_kept hMx (H1 := H2) (fun z hz h9 => hk2 z hz (fun h8 => h8.elim (fun h7 => by obtain ⟨k9, n9, hk9, e9⟩ := h7; exact h9.2 k9 n9 hk9 e9) (fun h7 => by omega)))
      obtain ⟨hMm, -, -⟩ := hB8
      rw [ht8] at hMm
      have hMm := mP_w (A2 := Am am) (fun k n hk => ⟨k, n, hk, rfl⟩) hMm
      rw [show r8 = r from hw8]
      refine lv_icmp_eq (tgt := 718) hx hb dL_law_506 (by decide) (fun _ => ?_) (fun c9 => absurd rfl c9)
      exact hnext ad cnt L u9 V2 c2 G2 H2 _ ls (((100 + 45 * t + (c.1 + c.2) / 64) + ((c2.1 + c2.2) / 64 - (c.1 + c.2) / 64)) + 0) (((400000 + 600 * t + 2 * (c.1 + c.2)) + (2 * (c2.1 + c2.2) - 2 * (c.1 + c.2))) + 0) hRel hMx hW hMm hS (lv_sub hl [0, 1, 2, 3] rfl) (by omega) (by omega)
    by_cases w11 : x9 = 11
    · refine lv_tableIn (off := 479) (tgt := 511) hx hb dL_law_32 (by rw [w11]; decide) (by rw [w11]; decide) (by rw [w11]; decide) (by decide) ?_
      obtain ⟨r, V2, G2, hx1, hm1, hRel⟩ := s_told t cnt L V c G (xs (nI (5 * t) + (1 : Int32)).toNatClampNeg) (xs (nI (5 * t) + (2 : Int32)).toNatClampNeg) hk512 hRel
      refine lv_aload_n hx hb dL_law_511 rfl (lv_at hl 1 rfl) ?_
      refine lv_aload_n hx hb dL_law_512 rfl (lv_at hl 0 rfl) ?_
      refine lv_iload_n hx hb dL_law_513 rfl (lv_at hl 3 rfl) ?_
      refine lv_iconst (v := 1) hx hb dL_law_514 (by decide) ?_
      refine lv_iadd hx hb dL_law_515 ?_
      refine va_sld hx hb hX hbl hbA hS i1 dL_law_516 ?_
      refine lv_aload_n hx hb dL_law_517 rfl (lv_at hl 0 rfl) ?_
      refine lv_iload_n hx hb dL_law_518 rfl (lv_at hl 3 rfl) ?_
      refine lv_iconst (v := 2) hx hb dL_law_519 (by decide) ?_
      refine lv_iadd hx hb dL_law_520 ?_
      refine va_sld hx hb hX hbl hbA hS i2 dL_law_521 ?_
      refine va_calli (va_runV (As := [.int (xs (nI (5 * t) + (1 : Int32)).toNatClampNeg), .int (xs (nI (5 * t) + (2 : Int32)).toNatClampNeg)]) (rest := []) ⟨hx, hb, hml, hown, hts⟩ (kX7_told l (A := Ax s am) (ad := ad) (q := q) hsh (xs (nI (5 * t) + (1 : Int32)).toNatClampNeg) (xs (nI (5 * t) + (2 : Int32)).toNatClampNeg) V c hx1) (cwV 2 hts gL_law_X7_told rfl rfl rfl (by decide +kernel) ⟨Nat.le_of_ble_eq_true rfl, Nat.le_of_ble_eq_true rfl⟩) ⟨fun a U g9 mk w9 => ⟨w9.1, xM_calling w9.2⟩, mP_recv (q := (RX7, TX7, 7)) hKx hMx xe2 rfl rfl, fun U hU hWm => ⟨rfl, by rw [hU]; exact hMx, va_K.moved hWm.alike hKx, hW, fun z hz => hfr H hMm hS.1 z (by rw [hU] at hz; exact hz)⟩⟩ rfl rfl hl.1 rfl (lv_room (Nat.le_of_ble_eq_true rfl)) dL_law_522 ⟨(show (100 + 45 * t + (c.1 + c.2) / 64) + 0 ≤ 600000 from by omega), (show (400000 + 600 * t + 2 * (c.1 + c.2)) + 0 ≤ 7302250 from by omega)⟩) hS (fun z _ h9 => hAxA z h9) (fun z h9 => hAxA z h9) (fun r9 u9 t9 H1 locs ht9 _ hw9 hB9 hz1 hk1 hS => ?_)
      have hMm := mP_kept hMm (H1 := H1) (fun z hz h9 => hk1 z hz (fun h8 => by obtain ⟨k9, n9, hk9, e9⟩ := h9; exact h8.2 k9 n9 hk9 e9))
      obtain ⟨hMx, -, hW, -⟩ := hB9
      rw [ht9] at hMx
      rw [show r9 = r from hw9]
      refine lv_aload_n hx hb dL_law_525 rfl (lv_at hl 2 rfl) ?_
      refine lv_aload_n hx hb dL_law_526 rfl (lv_at hl 0 rfl) ?_
      refine lv_iload_n hx hb dL_law_527 rfl (lv_at hl 3 rfl) ?_
      refine lv_iconst (v := 1) hx hb dL_law_528 (by decide) ?_
      refine lv_iadd hx hb dL_law_529 ?_
      refine va_sld hx hb hX hbl hbA hS i1 dL_law_530 ?_
      refine lv_aload_n hx hb dL_law_531 rfl (lv_at hl 0 rfl) ?_
      refine lv_iload_n hx hb dL_law_532 rfl (lv_at hl 3 rfl) ?_
      refine lv_iconst (v := 2) hx hb dL_law_533 (by decide) ?_
      refine lv_iadd hx hb dL_law_534 ?_
      refine va_sld hx hb hX hbl hbA hS i2 dL_law_535 ?_
      have hS1 := hS.1
      refine va_calli (va_runV (As := [.int (xs (nI (5 * t) + (1 : Int32)).toNatClampNeg), .int (xs (nI (5 * t) + (2 : Int32)).toNatClampNeg)]) (rest := [.int r]) ⟨hx, hb, hml, hown, hts⟩ (kX8_told l (A := fun z => Am am z ∨ H1.size ≤ z) (xs (nI (5 * t) + (1 : Int32)).toNatClampNeg) (xs (nI (5 * t) + (2 : Int32)).toNatClampNeg) G hm1) (cwV 2 hts gL_law_X8_told rfl rfl rfl (by decide +kernel) ⟨Nat.le_of_ble_eq_true rfl, Nat.le_of_ble_eq_true rfl⟩) ⟨fun a U g9 mk w9 => ⟨w9.1, mR_calling w9.2⟩, mP_recv (q := (RX8, TX8, 48)) hKm hMm me0 rfl rfl, fun U hU hWm => ⟨rfl, by rw [hU]; exact mP_w (fun k n hk => Or.inl ⟨k, n, hk, rfl⟩) hMm, va_K.moved hWm.alike hKm, fun z hz => Or.inr (by rw [hU] at hz; exact hz)⟩⟩ rfl rfl hl.1 rfl (lv_room (Nat.le_of_ble_eq_true rfl)) dL_law_536 ⟨(show ((100 + 45 * t + (c.1 + c.2) / 64) + 0) + 0 ≤ 600000 from by omega), (show ((400000 + 600 * t + 2 * (c.1 + c.2)) + 0) + 0 ≤ 7302250 from by omega)⟩) hS (fun z _ h9 => h9.elim (fun h8 => by obtain ⟨k9, n9, hk9, e9⟩ := h8; rw [← e9]; exact ham k9 n9 hk9) (fun h8 => Nat.le_trans hS1 h8)) (fun z h9 => h9.elim (fun h8 => by obtain ⟨k9, n9, hk9, e9⟩ := h8; rw [← e9]; exact ham k9 n9 hk9) (fun h8 => Nat.le_trans hS1 h8)) (fun r8 u8 t8 H2 locs ht8 _ hw8 hB8 hz2 hk2 hS => ?_)
      have hMx := mP_kept hMx (H1 := H2) (fun z hz h9 => hk2 z hz (fun h8 => h8.elim (fun h7 => by obtain ⟨k9, n9, hk9, e9⟩ := h7; exact h9.2 k9 n9 hk9 e9) (fun h7 => by omega)))
      obtain ⟨hMm, -, -⟩ := hB8
      rw [ht8] at hMm
      have hMm := mP_w (A2 := Am am) (fun k n hk => ⟨k, n, hk, rfl⟩) hMm
      rw [show r8 = r from hw8]
      refine lv_icmp_eq (tgt := 718) hx hb dL_law_539 (by decide) (fun _ => ?_) (fun c9 => absurd rfl c9)
      exact hnext ad cnt L q V2 c G2 H2 _ ls (((100 + 45 * t + (c.1 + c.2) / 64) + 0) + 0) (((400000 + 600 * t + 2 * (c.1 + c.2)) + 0) + 0) hRel hMx hW hMm hS (lv_sub hl [0, 1, 2, 3] rfl) (by omega) (by omega)
    by_cases w12 : x9 = 12
    · refine lv_tableIn (off := 512) (tgt := 544) hx hb dL_law_32 (by rw [w12]; decide) (by rw [w12]; decide) (by rw [w12]; decide) (by decide) ?_
      obtain ⟨r, hx1, hm1, hRel⟩ := s_queued t cnt L V c G (xs (nI (5 * t) + (1 : Int32)).toNatClampNeg) (xs (nI (5 * t) + (2 : Int32)).toNatClampNeg) hk512 hRel
      refine lv_aload_n hx hb dL_law_544 rfl (lv_at hl 1 rfl) ?_
      refine lv_aload_n hx hb dL_law_545 rfl (lv_at hl 0 rfl) ?_
      refine lv_iload_n hx hb dL_law_546 rfl (lv_at hl 3 rfl) ?_
      refine lv_iconst (v := 1) hx hb dL_law_547 (by decide) ?_
      refine lv_iadd hx hb dL_law_548 ?_
      refine va_sld hx hb hX hbl hbA hS i1 dL_law_549 ?_
      refine lv_aload_n hx hb dL_law_550 rfl (lv_at hl 0 rfl) ?_
      refine lv_iload_n hx hb dL_law_551 rfl (lv_at hl 3 rfl) ?_
      refine lv_iconst (v := 2) hx hb dL_law_552 (by decide) ?_
      refine lv_iadd hx hb dL_law_553 ?_
      refine va_sld hx hb hX hbl hbA hS i2 dL_law_554 ?_
      refine va_calli (va_runV (As := [.int (xs (nI (5 * t) + (1 : Int32)).toNatClampNeg), .int (xs (nI (5 * t) + (2 : Int32)).toNatClampNeg)]) (rest := []) ⟨hx, hb, hml, hown, hts⟩ (kX7_queued l (A := Ax s am) (ad := ad) (q := q) hsh (xs (nI (5 * t) + (1 : Int32)).toNatClampNeg) (xs (nI (5 * t) + (2 : Int32)).toNatClampNeg) V c hx1) (cwV 2 hts gL_law_X7_queued rfl rfl rfl (by decide +kernel) ⟨Nat.le_of_ble_eq_true rfl, Nat.le_of_ble_eq_true rfl⟩) ⟨fun a U g9 mk w9 => ⟨w9.1, xM_calling w9.2⟩, mP_recv (q := (RX7, TX7, 7)) hKx hMx xe2 rfl rfl, fun U hU hWm => ⟨rfl, by rw [hU]; exact hMx, va_K.moved hWm.alike hKx, hW, fun z hz => hfr H hMm hS.1 z (by rw [hU] at hz; exact hz)⟩⟩ rfl rfl hl.1 rfl (lv_room (Nat.le_of_ble_eq_true rfl)) dL_law_555 ⟨(show (100 + 45 * t + (c.1 + c.2) / 64) + 0 ≤ 600000 from by omega), (show (400000 + 600 * t + 2 * (c.1 + c.2)) + 0 ≤ 7302250 from by omega)⟩) hS (fun z _ h9 => hAxA z h9) (fun z h9 => hAxA z h9) (fun r9 u9 t9 H1 locs ht9 _ hw9 hB9 hz1 hk1 hS => ?_)
      have hMm := mP_kept hMm (H1 := H1) (fun z hz h9 => hk1 z hz (fun h8 => by obtain ⟨k9, n9, hk9, e9⟩ := h9; exact h8.2 k9 n9 hk9 e9))
      obtain ⟨hMx, -, hW, -⟩ := hB9
      rw [ht9] at hMx
      rw [show r9 = r from hw9]
      refine lv_aload_n hx hb dL_law_558 rfl (lv_at hl 2 rfl) ?_
      refine lv_aload_n hx hb dL_law_559 rfl (lv_at hl 0 rfl) ?_
      refine lv_iload_n hx hb dL_law_560 rfl (lv_at hl 3 rfl) ?_
      refine lv_iconst (v := 1) hx hb dL_law_561 (by decide) ?_
      refine lv_iadd hx hb dL_law_562 ?_
      refine va_sld hx hb hX hbl hbA hS i1 dL_law_563 ?_
      refine lv_aload_n hx hb dL_law_564 rfl (lv_at hl 0 rfl) ?_
      refine lv_iload_n hx hb dL_law_565 rfl (lv_at hl 3 rfl) ?_
      refine lv_iconst (v := 2) hx hb dL_law_566 (by decide) ?_
      refine lv_iadd hx hb dL_law_567 ?_
      refine va_sld hx hb hX hbl hbA hS i2 dL_law_568 ?_
      have hS1 := hS.1
      refine va_calli (va_runV (As := [.int (xs (nI (5 * t) + (1 : Int32)).toNatClampNeg), .int (xs (nI (5 * t) + (2 : Int32)).toNatClampNeg)]) (rest := [.int r]) ⟨hx, hb, hml, hown, hts⟩ (kX8_queued l (A := fun z => Am am z ∨ H1.size ≤ z) (xs (nI (5 * t) + (1 : Int32)).toNatClampNeg) (xs (nI (5 * t) + (2 : Int32)).toNatClampNeg) G hm1) (cwV 2 hts gL_law_X8_queued rfl rfl rfl (by decide +kernel) ⟨Nat.le_of_ble_eq_true rfl, Nat.le_of_ble_eq_true rfl⟩) ⟨fun a U g9 mk w9 => ⟨w9.1, mR_calling w9.2⟩, mP_recv (q := (RX8, TX8, 48)) hKm hMm me0 rfl rfl, fun U hU hWm => ⟨rfl, by rw [hU]; exact mP_w (fun k n hk => Or.inl ⟨k, n, hk, rfl⟩) hMm, va_K.moved hWm.alike hKm, fun z hz => Or.inr (by rw [hU] at hz; exact hz)⟩⟩ rfl rfl hl.1 rfl (lv_room (Nat.le_of_ble_eq_true rfl)) dL_law_569 ⟨(show ((100 + 45 * t + (c.1 + c.2) / 64) + 0) + 0 ≤ 600000 from by omega), (show ((400000 + 600 * t + 2 * (c.1 + c.2)) + 0) + 0 ≤ 7302250 from by omega)⟩) hS (fun z _ h9 => h9.elim (fun h8 => by obtain ⟨k9, n9, hk9, e9⟩ := h8; rw [← e9]; exact ham k9 n9 hk9) (fun h8 => Nat.le_trans hS1 h8)) (fun z h9 => h9.elim (fun h8 => by obtain ⟨k9, n9, hk9, e9⟩ := h8; rw [← e9]; exact ham k9 n9 hk9) (fun h8 => Nat.le_trans hS1 h8)) (fun r8 u8 t8 H2 locs ht8 _ hw8 hB8 hz2 hk2 hS => ?_)
      have hMx := mP_kept hMx (H1 := H2) (fun z hz h9 => hk2 z hz (fun h8 => h8.elim (fun h7 => by obtain ⟨k9, n9, hk9, e9⟩ := h7; exact h9.2 k9 n9 hk9 e9) (fun h7 => by omega)))
      obtain ⟨hMm, -, -⟩ := hB8
      rw [ht8] at hMm
      have hMm := mP_w (A2 := Am am) (fun k n hk => ⟨k, n, hk, rfl⟩) hMm
      rw [show r8 = r from hw8]
      refine lv_icmp_eq (tgt := 718) hx hb dL_law_572 (by decide) (fun _ => ?_) (fun c9 => absurd rfl c9)
      exact hnext ad cnt L q V c G H2 _ ls (((100 + 45 * t + (c.1 + c.2) / 64) + 0) + 0) (((400000 + 600 * t + 2 * (c.1 + c.2)) + 0) + 0) hRel hMx hW hMm hS (lv_sub hl [0, 1, 2, 3] rfl) (by omega) (by omega)
    by_cases w13 : x9 = 13
    · refine lv_tableIn (off := 545) (tgt := 577) hx hb dL_law_32 (by rw [w13]; decide) (by rw [w13]; decide) (by rw [w13]; decide) (by decide) ?_
      obtain ⟨r, hx1, hm1, hRel⟩ := s_worker t cnt L V c G (xs (nI (5 * t) + (1 : Int32)).toNatClampNeg) (xs (nI (5 * t) + (2 : Int32)).toNatClampNeg) (xs (nI (5 * t) + (3 : Int32)).toNatClampNeg) hk512 hRel
      refine lv_aload_n hx hb dL_law_577 rfl (lv_at hl 1 rfl) ?_
      refine lv_aload_n hx hb dL_law_578 rfl (lv_at hl 0 rfl) ?_
      refine lv_iload_n hx hb dL_law_579 rfl (lv_at hl 3 rfl) ?_
      refine lv_iconst (v := 1) hx hb dL_law_580 (by decide) ?_
      refine lv_iadd hx hb dL_law_581 ?_
      refine va_sld hx hb hX hbl hbA hS i1 dL_law_582 ?_
      refine lv_aload_n hx hb dL_law_583 rfl (lv_at hl 0 rfl) ?_
      refine lv_iload_n hx hb dL_law_584 rfl (lv_at hl 3 rfl) ?_
      refine lv_iconst (v := 2) hx hb dL_law_585 (by decide) ?_
      refine lv_iadd hx hb dL_law_586 ?_
      refine va_sld hx hb hX hbl hbA hS i2 dL_law_587 ?_
      refine lv_aload_n hx hb dL_law_588 rfl (lv_at hl 0 rfl) ?_
      refine lv_iload_n hx hb dL_law_589 rfl (lv_at hl 3 rfl) ?_
      refine lv_iconst (v := 3) hx hb dL_law_590 (by decide) ?_
      refine lv_iadd hx hb dL_law_591 ?_
      refine va_sld hx hb hX hbl hbA hS i3 dL_law_592 ?_
      refine va_calli (va_runV (As := [.int (xs (nI (5 * t) + (1 : Int32)).toNatClampNeg), .int (xs (nI (5 * t) + (2 : Int32)).toNatClampNeg), .int (xs (nI (5 * t) + (3 : Int32)).toNatClampNeg)]) (rest := []) ⟨hx, hb, hml, hown, hts⟩ (kX7_worker l (A := Ax s am) (ad := ad) (q := q) hsh (xs (nI (5 * t) + (1 : Int32)).toNatClampNeg) (xs (nI (5 * t) + (2 : Int32)).toNatClampNeg) (xs (nI (5 * t) + (3 : Int32)).toNatClampNeg) V c hx1) (cwV 3 hts gL_law_X7_worker rfl rfl rfl (by decide +kernel) ⟨Nat.le_of_ble_eq_true rfl, Nat.le_of_ble_eq_true rfl⟩) ⟨fun a U g9 mk w9 => ⟨w9.1, xM_calling w9.2⟩, mP_recv (q := (RX7, TX7, 7)) hKx hMx xe2 rfl rfl, fun U hU hWm => ⟨rfl, by rw [hU]; exact hMx, va_K.moved hWm.alike hKx, hW, fun z hz => hfr H hMm hS.1 z (by rw [hU] at hz; exact hz)⟩⟩ rfl rfl hl.1 rfl (lv_room (Nat.le_of_ble_eq_true rfl)) dL_law_593 ⟨(show (100 + 45 * t + (c.1 + c.2) / 64) + 0 ≤ 600000 from by omega), (show (400000 + 600 * t + 2 * (c.1 + c.2)) + 0 ≤ 7302250 from by omega)⟩) hS (fun z _ h9 => hAxA z h9) (fun z h9 => hAxA z h9) (fun r9 u9 t9 H1 locs ht9 _ hw9 hB9 hz1 hk1 hS => ?_)
      have hMm := mP_kept hMm (H1 := H1) (fun z hz h9 => hk1 z hz (fun h8 => by obtain ⟨k9, n9, hk9, e9⟩ := h9; exact h8.2 k9 n9 hk9 e9))
      obtain ⟨hMx, -, hW, -⟩ := hB9
      rw [ht9] at hMx
      rw [show r9 = r from hw9]
      refine lv_aload_n hx hb dL_law_596 rfl (lv_at hl 2 rfl) ?_
      refine lv_aload_n hx hb dL_law_597 rfl (lv_at hl 0 rfl) ?_
      refine lv_iload_n hx hb dL_law_598 rfl (lv_at hl 3 rfl) ?_
      refine lv_iconst (v := 1) hx hb dL_law_599 (by decide) ?_
      refine lv_iadd hx hb dL_law_600 ?_
      refine va_sld hx hb hX hbl hbA hS i1 dL_law_601 ?_
      refine lv_aload_n hx hb dL_law_602 rfl (lv_at hl 0 rfl) ?_
      refine lv_iload_n hx hb dL_law_603 rfl (lv_at hl 3 rfl) ?_
      refine lv_iconst (v := 2) hx hb dL_law_604 (by decide) ?_
      refine lv_iadd hx hb dL_law_605 ?_
      refine va_sld hx hb hX hbl hbA hS i2 dL_law_606 ?_
      refine lv_aload_n hx hb dL_law_607 rfl (lv_at hl 0 rfl) ?_
      refine lv_iload_n hx hb dL_law_608 rfl (lv_at hl 3 rfl) ?_
      refine lv_iconst (v := 3) hx hb dL_law_609 (by decide) ?_
      refine lv_iadd hx hb dL_law_610 ?_
      refine va_sld hx hb hX hbl hbA hS i3 dL_law_611 ?_
      have hS1 := hS.1
      refine va_calli (va_runV (As := [.int (xs (nI (5 * t) + (1 : Int32)).toNatClampNeg), .int (xs (nI (5 * t) + (2 : Int32)).toNatClampNeg), .int (xs (nI (5 * t) + (3 : Int32)).toNatClampNeg)]) (rest := [.int r]) ⟨hx, hb, hml, hown, hts⟩ (kX8_worker l (A := fun z => Am am z ∨ H1.size ≤ z) (xs (nI (5 * t) + (1 : Int32)).toNatClampNeg) (xs (nI (5 * t) + (2 : Int32)).toNatClampNeg) (xs (nI (5 * t) + (3 : Int32)).toNatClampNeg) G hm1) (cwV 3 hts gL_law_X8_worker rfl rfl rfl (by decide +kernel) ⟨Nat.le_of_ble_eq_true rfl, Nat.le_of_ble_eq_true rfl⟩) ⟨fun a U g9 mk w9 => ⟨w9.1, mR_calling w9.2⟩, mP_recv (q := (RX8, TX8, 48)) hKm hMm me0 rfl rfl, fun U hU hWm => ⟨rfl, by rw [hU]; exact mP_w (fun k n hk => Or.inl ⟨k, n, hk, rfl⟩) hMm, va_K.moved hWm.alike hKm, fun z hz => Or.inr (by rw [hU] at hz; exact hz)⟩⟩ rfl rfl hl.1 rfl (lv_room (Nat.le_of_ble_eq_true rfl)) dL_law_612 ⟨(show ((100 + 45 * t + (c.1 + c.2) / 64) + 0) + 0 ≤ 600000 from by omega), (show ((400000 + 600 * t + 2 * (c.1 + c.2)) + 0) + 0 ≤ 7302250 from by omega)⟩) hS (fun z _ h9 => h9.elim (fun h8 => by obtain ⟨k9, n9, hk9, e9⟩ := h8; rw [← e9]; exact ham k9 n9 hk9) (fun h8 => Nat.le_trans hS1 h8)) (fun z h9 => h9.elim (fun h8 => by obtain ⟨k9, n9, hk9, e9⟩ := h8; rw [← e9]; exact ham k9 n9 hk9) (fun h8 => Nat.le_trans hS1 h8)) (fun r8 u8 t8 H2 locs ht8 _ hw8 hB8 hz2 hk2 hS => ?_)
      have hMx := mP_kept hMx (H1 := H2) (fun z hz h9 => hk2 z hz (fun h8 => h8.elim (fun h7 => by obtain ⟨k9, n9, hk9, e9⟩ := h7; exact h9.2 k9 n9 hk9 e9) (fun h7 => by omega)))
      obtain ⟨hMm, -, -⟩ := hB8
      rw [ht8] at hMm
      have hMm := mP_w (A2 := Am am) (fun k n hk => ⟨k, n, hk, rfl⟩) hMm
      rw [show r8 = r from hw8]
      refine lv_icmp_eq (tgt := 718) hx hb dL_law_615 (by decide) (fun _ => ?_) (fun c9 => absurd rfl c9)
      exact hnext ad cnt L q V c G H2 _ ls (((100 + 45 * t + (c.1 + c.2) / 64) + 0) + 0) (((400000 + 600 * t + 2 * (c.1 + c.2)) + 0) + 0) hRel hMx hW hMm hS (lv_sub hl [0, 1, 2, 3] rfl) (by omega) (by omega)
    by_cases w14 : x9 = 14
    · refine lv_tableIn (off := 588) (tgt := 620) hx hb dL_law_32 (by rw [w14]; decide) (by rw [w14]; decide) (by rw [w14]; decide) (by decide) ?_
      obtain ⟨r, hx1, hm1, hRel⟩ := s_done t cnt L V c G (xs (nI (5 * t) + (1 : Int32)).toNatClampNeg) hk512 hRel
      refine lv_aload_n hx hb dL_law_620 rfl (lv_at hl 1 rfl) ?_
      refine lv_aload_n hx hb dL_law_621 rfl (lv_at hl 0 rfl) ?_
      refine lv_iload_n hx hb dL_law_622 rfl (lv_at hl 3 rfl) ?_
      refine lv_iconst (v := 1) hx hb dL_law_623 (by decide) ?_
      refine lv_iadd hx hb dL_law_624 ?_
      refine va_sld hx hb hX hbl hbA hS i1 dL_law_625 ?_
      refine va_calli (va_runV (As := [.int (xs (nI (5 * t) + (1 : Int32)).toNatClampNeg)]) (rest := []) ⟨hx, hb, hml, hown, hts⟩ (kX7_done l (A := Ax s am) (ad := ad) (q := q) hsh (xs (nI (5 * t) + (1 : Int32)).toNatClampNeg) V c hx1) (cwV 1 hts gL_law_X7_done rfl rfl rfl (by decide +kernel) ⟨Nat.le_of_ble_eq_true rfl, Nat.le_of_ble_eq_true rfl⟩) ⟨fun a U g9 mk w9 => ⟨w9.1, xM_calling w9.2⟩, mP_recv (q := (RX7, TX7, 7)) hKx hMx xe2 rfl rfl, fun U hU hWm => ⟨rfl, by rw [hU]; exact hMx, va_K.moved hWm.alike hKx, hW, fun z hz => hfr H hMm hS.1 z (by rw [hU] at hz; exact hz)⟩⟩ rfl rfl hl.1 rfl (lv_room (Nat.le_of_ble_eq_true rfl)) dL_law_626 ⟨(show (100 + 45 * t + (c.1 + c.2) / 64) + 0 ≤ 600000 from by omega), (show (400000 + 600 * t + 2 * (c.1 + c.2)) + 0 ≤ 7302250 from by omega)⟩) hS (fun z _ h9 => hAxA z h9) (fun z h9 => hAxA z h9) (fun r9 u9 t9 H1 locs ht9 _ hw9 hB9 hz1 hk1 hS => ?_)
      have hMm := mP_kept hMm (H1 := H1) (fun z hz h9 => hk1 z hz (fun h8 => by obtain ⟨k9, n9, hk9, e9⟩ := h9; exact h8.2 k9 n9 hk9 e9))
      obtain ⟨hMx, -, hW, -⟩ := hB9
      rw [ht9] at hMx
      rw [show r9 = r from hw9]
      refine lv_aload_n hx hb dL_law_629 rfl (lv_at hl 2 rfl) ?_
      refine lv_aload_n hx hb dL_law_630 rfl (lv_at hl 0 rfl) ?_
      refine lv_iload_n hx hb dL_law_631 rfl (lv_at hl 3 rfl) ?_
      refine lv_iconst (v := 1) hx hb dL_law_632 (by decide) ?_
      refine lv_iadd hx hb dL_law_633 ?_
      refine va_sld hx hb hX hbl hbA hS i1 dL_law_634 ?_
      have hS1 := hS.1
      refine va_calli (va_runV (As := [.int (xs (nI (5 * t) + (1 : Int32)).toNatClampNeg)]) (rest := [.int r]) ⟨hx, hb, hml, hown, hts⟩ (kX8_done l (A := fun z => Am am z ∨ H1.size ≤ z) (xs (nI (5 * t) + (1 : Int32)).toNatClampNeg) G hm1) (cwV 1 hts gL_law_X8_done rfl rfl rfl (by decide +kernel) ⟨Nat.le_of_ble_eq_true rfl, Nat.le_of_ble_eq_true rfl⟩) ⟨fun a U g9 mk w9 => ⟨w9.1, mR_calling w9.2⟩, mP_recv (q := (RX8, TX8, 48)) hKm hMm me0 rfl rfl, fun U hU hWm => ⟨rfl, by rw [hU]; exact mP_w (fun k n hk => Or.inl ⟨k, n, hk, rfl⟩) hMm, va_K.moved hWm.alike hKm, fun z hz => Or.inr (by rw [hU] at hz; exact hz)⟩⟩ rfl rfl hl.1 rfl (lv_room (Nat.le_of_ble_eq_true rfl)) dL_law_635 ⟨(show ((100 + 45 * t + (c.1 + c.2) / 64) + 0) + 0 ≤ 600000 from by omega), (show ((400000 + 600 * t + 2 * (c.1 + c.2)) + 0) + 0 ≤ 7302250 from by omega)⟩) hS (fun z _ h9 => h9.elim (fun h8 => by obtain ⟨k9, n9, hk9, e9⟩ := h8; rw [← e9]; exact ham k9 n9 hk9) (fun h8 => Nat.le_trans hS1 h8)) (fun z h9 => h9.elim (fun h8 => by obtain ⟨k9, n9, hk9, e9⟩ := h8; rw [← e9]; exact ham k9 n9 hk9) (fun h8 => Nat.le_trans hS1 h8)) (fun r8 u8 t8 H2 locs ht8 _ hw8 hB8 hz2 hk2 hS => ?_)
      have hMx := mP_kept hMx (H1 := H2) (fun z hz h9 => hk2 z hz (fun h8 => h8.elim (fun h7 => by obtain ⟨k9, n9, hk9, e9⟩ := h7; exact h9.2 k9 n9 hk9 e9) (fun h7 => by omega)))
      obtain ⟨hMm, -, -⟩ := hB8
      rw [ht8] at hMm
      have hMm := mP_w (A2 := Am am) (fun k n hk => ⟨k, n, hk, rfl⟩) hMm
      rw [show r8 = r from hw8]
      refine lv_icmp_eq (tgt := 718) hx hb dL_law_638 (by decide) (fun _ => ?_) (fun c9 => absurd rfl c9)
      exact hnext ad cnt L q V c G H2 _ ls (((100 + 45 * t + (c.1 + c.2) / 64) + 0) + 0) (((400000 + 600 * t + 2 * (c.1 + c.2)) + 0) + 0) hRel hMx hW hMm hS (lv_sub hl [0, 1, 2, 3] rfl) (by omega) (by omega)
    by_cases w15 : x9 = 15
    · refine lv_tableIn (off := 611) (tgt := 643) hx hb dL_law_32 (by rw [w15]; decide) (by rw [w15]; decide) (by rw [w15]; decide) (by decide) ?_
      obtain ⟨r, hx1, hm1, hRel⟩ := s_value t cnt L V c G (xs (nI (5 * t) + (1 : Int32)).toNatClampNeg) hk512 hRel
      refine lv_aload_n hx hb dL_law_643 rfl (lv_at hl 1 rfl) ?_
      refine lv_aload_n hx hb dL_law_644 rfl (lv_at hl 0 rfl) ?_
      refine lv_iload_n hx hb dL_law_645 rfl (lv_at hl 3 rfl) ?_
      refine lv_iconst (v := 1) hx hb dL_law_646 (by decide) ?_
      refine lv_iadd hx hb dL_law_647 ?_
      refine va_sld hx hb hX hbl hbA hS i1 dL_law_648 ?_
      refine va_calli (va_runV (As := [.int (xs (nI (5 * t) + (1 : Int32)).toNatClampNeg)]) (rest := []) ⟨hx, hb, hml, hown, hts⟩ (kX7_value l (A := Ax s am) (ad := ad) (q := q) hsh (xs (nI (5 * t) + (1 : Int32)).toNatClampNeg) V c hx1) (cwV 1 hts gL_law_X7_value rfl rfl rfl (by decide +kernel) ⟨Nat.le_of_ble_eq_true rfl, Nat.le_of_ble_eq_true rfl⟩) ⟨fun a U g9 mk w9 => ⟨w9.1, xM_calling w9.2⟩, mP_recv (q := (RX7, TX7, 7)) hKx hMx xe2 rfl rfl, fun U hU hWm => ⟨rfl, by rw [hU]; exact hMx, va_K.moved hWm.alike hKx, hW, fun z hz => hfr H hMm hS.1 z (by rw [hU] at hz; exact hz)⟩⟩ rfl rfl hl.1 rfl (lv_room (Nat.le_of_ble_eq_true rfl)) dL_law_649 ⟨(show (100 + 45 * t + (c.1 + c.2) / 64) + 0 ≤ 600000 from by omega), (show (400000 + 600 * t + 2 * (c.1 + c.2)) + 0 ≤ 7302250 from by omega)⟩) hS (fun z _ h9 => hAxA z h9) (fun z h9 => hAxA z h9) (fun r9 u9 t9 H1 locs ht9 _ hw9 hB9 hz1 hk1 hS => ?_)
      have hMm := mP_kept hMm (H1 := H1) (fun z hz h9 => hk1 z hz (fun h8 => by obtain ⟨k9, n9, hk9, e9⟩ := h9; exact h8.2 k9 n9 hk9 e9))
      obtain ⟨hMx, -, hW, -⟩ := hB9
      rw [ht9] at hMx
      rw [show r9 = r from hw9]
      refine lv_aload_n hx hb dL_law_652 rfl (lv_at hl 2 rfl) ?_
      refine lv_aload_n hx hb dL_law_653 rfl (lv_at hl 0 rfl) ?_
      refine lv_iload_n hx hb dL_law_654 rfl (lv_at hl 3 rfl) ?_
      refine lv_iconst (v := 1) hx hb dL_law_655 (by decide) ?_
      refine lv_iadd hx hb dL_law_656 ?_
      refine va_sld hx hb hX hbl hbA hS i1 dL_law_657 ?_
      have hS1 := hS.1
      refine va_calli (va_runV (As := [.int (xs (nI (5 * t) + (1 : Int32)).toNatClampNeg)]) (rest := [.int r]) ⟨hx, hb, hml, hown, hts⟩ (kX8_value l (A := fun z => Am am z ∨ H1.size ≤ z) (xs (nI (5 * t) + (1 : Int32)).toNatClampNeg) G hm1) (cwV 1 hts gL_law_X8_value rfl rfl rfl (by decide +kernel) ⟨Nat.le_of_ble_eq_true rfl, Nat.le_of_ble_eq_true rfl⟩) ⟨fun a U g9 mk w9 => ⟨w9.1, mR_calling w9.2⟩, mP_recv (q := (RX8, TX8, 48)) hKm hMm me0 rfl rfl, fun U hU hWm => ⟨rfl, by rw [hU]; exact mP_w (fun k n hk => Or.inl ⟨k, n, hk, rfl⟩) hMm, va_K.moved hWm.alike hKm, fun z hz => Or.inr (by rw [hU] at hz; exact hz)⟩⟩ rfl rfl hl.1 rfl (lv_room (Nat.le_of_ble_eq_true rfl)) dL_law_658 ⟨(show ((100 + 45 * t + (c.1 + c.2) / 64) + 0) + 0 ≤ 600000 from by omega), (show ((400000 + 600 * t + 2 * (c.1 + c.2)) + 0) + 0 ≤ 7302250 from by omega)⟩) hS (fun z _ h9 => h9.elim (fun h8 => by obtain ⟨k9, n9, hk9, e9⟩ := h8; rw [← e9]; exact ham k9 n9 hk9) (fun h8 => Nat.le_trans hS1 h8)) (fun z h9 => h9.elim (fun h8 => by obtain ⟨k9, n9, hk9, e9⟩ := h8; rw [← e9]; exact ham k9 n9 hk9) (fun h8 => Nat.le_trans hS1 h8)) (fun r8 u8 t8 H2 locs ht8 _ hw8 hB8 hz2 hk2 hS => ?_)
      have hMx := mP_kept hMx (H1 := H2) (fun z hz h9 => hk2 z hz (fun h8 => h8.elim (fun h7 => by obtain ⟨k9, n9, hk9, e9⟩ := h7; exact h9.2 k9 n9 hk9 e9) (fun h7 => by omega)))
      obtain ⟨hMm, -, -⟩ := hB8
      rw [ht8] at hMm
      have hMm := mP_w (A2 := Am am) (fun k n hk => ⟨k, n, hk, rfl⟩) hMm
      rw [show r8 = r from hw8]
      refine lv_icmp_eq (tgt := 718) hx hb dL_law_661 (by decide) (fun _ => ?_) (fun c9 => absurd rfl c9)
      exact hnext ad cnt L q V c G H2 _ ls (((100 + 45 * t + (c.1 + c.2) / 64) + 0) + 0) (((400000 + 600 * t + 2 * (c.1 + c.2)) + 0) + 0) hRel hMx hW hMm hS (lv_sub hl [0, 1, 2, 3] rfl) (by omega) (by omega)
    by_cases w16 : x9 = 16
    · refine lv_tableIn (off := 634) (tgt := 666) hx hb dL_law_32 (by rw [w16]; decide) (by rw [w16]; decide) (by rw [w16]; decide) (by decide) ?_
      obtain ⟨r, hx1, hm1, hRel⟩ := s_events t cnt L V c G  hk512 hRel
      refine lv_aload_n hx hb dL_law_666 rfl (lv_at hl 1 rfl) ?_
      refine va_calli (va_runV (As := []) (rest := []) ⟨hx, hb, hml, hown, hts⟩ (kX7_events l (A := Ax s am) (ad := ad) (q := q) hsh  V c hx1) (cwV 0 hts gL_law_X7_events rfl rfl rfl (by decide +kernel) ⟨Nat.le_of_ble_eq_true rfl, Nat.le_of_ble_eq_true rfl⟩) ⟨fun a U g9 mk w9 => ⟨w9.1, xM_calling w9.2⟩, mP_recv (q := (RX7, TX7, 7)) hKx hMx xe2 rfl rfl, fun U hU hWm => ⟨rfl, by rw [hU]; exact hMx, va_K.moved hWm.alike hKx, hW, fun z hz => hfr H hMm hS.1 z (by rw [hU] at hz; exact hz)⟩⟩ rfl rfl hl.1 rfl (lv_room (Nat.le_of_ble_eq_true rfl)) dL_law_667 ⟨(show (100 + 45 * t + (c.1 + c.2) / 64) + 0 ≤ 600000 from by omega), (show (400000 + 600 * t + 2 * (c.1 + c.2)) + 0 ≤ 7302250 from by omega)⟩) hS (fun z _ h9 => hAxA z h9) (fun z h9 => hAxA z h9) (fun r9 u9 t9 H1 locs ht9 _ hw9 hB9 hz1 hk1 hS => ?_)
      have hMm := mP_kept hMm (H1 := H1) (fun z hz h9 => hk1 z hz (fun h8 => by obtain ⟨k9, n9, hk9, e9⟩ := h9; exact h8.2 k9 n9 hk9 e9))
      obtain ⟨hMx, -, hW, -⟩ := hB9
      rw [ht9] at hMx
      rw [show r9 = r from hw9]
      refine lv_aload_n hx hb dL_law_670 rfl (lv_at hl 2 rfl) ?_
      have hS1 := hS.1
      refine va_calli (va_runV (As := []) (rest := [.int r]) ⟨hx, hb, hml, hown, hts⟩ (kX8_events l (A := fun z => Am am z ∨ H1.size ≤ z)  G hm1) (cwV 0 hts gL_law_X8_events rfl rfl rfl (by decide +kernel) ⟨Nat.le_of_ble_eq_true rfl, Nat.le_of_ble_eq_true rfl⟩) ⟨fun a U g9 mk w9 => ⟨w9.1, mR_calling w9.2⟩, mP_recv (q := (RX8, TX8, 48)) hKm hMm me0 rfl rfl, fun U hU hWm => ⟨rfl, by rw [hU]; exact mP_w (fun k n hk => Or.inl ⟨k, n, hk, rfl⟩) hMm, va_K.moved hWm.alike hKm, fun z hz => Or.inr (by rw [hU] at hz; exact hz)⟩⟩ rfl rfl hl.1 rfl (lv_room (Nat.le_of_ble_eq_true rfl)) dL_law_671 ⟨(show ((100 + 45 * t + (c.1 + c.2) / 64) + 0) + 0 ≤ 600000 from by omega), (show ((400000 + 600 * t + 2 * (c.1 + c.2)) + 0) + 0 ≤ 7302250 from by omega)⟩) hS (fun z _ h9 => h9.elim (fun h8 => by obtain ⟨k9, n9, hk9, e9⟩ := h8; rw [← e9]; exact ham k9 n9 hk9) (fun h8 => Nat.le_trans hS1 h8)) (fun z h9 => h9.elim (fun h8 => by obtain ⟨k9, n9, hk9, e9⟩ := h8; rw [← e9]; exact ham k9 n9 hk9) (fun h8 => Nat.le_trans hS1 h8)) (fun r8 u8 t8 H2 locs ht8 _ hw8 hB8 hz2 hk2 hS => ?_)
      have hMx := mP_kept hMx (H1 := H2) (fun z hz h9 => hk2 z hz (fun h8 => h8.elim (fun h7 => by obtain ⟨k9, n9, hk9, e9⟩ := h7; exact h9.2 k9 n9 hk9 e9) (fun h7 => by omega)))
      obtain ⟨hMm, -, -⟩ := hB8
      rw [ht8] at hMm
      have hMm := mP_w (A2 := Am am) (fun k n hk => ⟨k, n, hk, rfl⟩) hMm
      rw [show r8 = r from hw8]
      refine lv_icmp_eq (tgt := 718) hx hb dL_law_674 (by decide) (fun _ => ?_) (fun c9 => absurd rfl c9)
      exact hnext ad cnt L q V c G H2 _ ls (((100 + 45 * t + (c.1 + c.2) / 64) + 0) + 0) (((400000 + 600 * t + 2 * (c.1 + c.2)) + 0) + 0) hRel hMx hW hMm hS (lv_sub hl [0, 1, 2, 3] rfl) (by omega) (by omega)
    by_cases w17 : x9 = 17
    · refine lv_tableIn (off := 647) (tgt := 679) hx hb dL_law_32 (by rw [w17]; decide) (by rw [w17]; decide) (by rw [w17]; decide) (by decide) ?_
      obtain ⟨r, hx1, hm1, hRel⟩ := s_ended t cnt L V c G  hk512 hRel
      refine lv_aload_n hx hb dL_law_679 rfl (lv_at hl 1 rfl) ?_
      refine va_calli (va_runV (As := []) (rest := []) ⟨hx, hb, hml, hown, hts⟩ (kX7_ended l (A := Ax s am) (ad := ad) (q := q) hsh  V c hx1) (cwV 0 hts gL_law_X7_ended rfl rfl rfl (by decide +kernel) ⟨Nat.le_of_ble_eq_true rfl, Nat.le_of_ble_eq_true rfl⟩) ⟨fun a U g9 mk w9 => ⟨w9.1, xM_calling w9.2⟩, mP_recv (q := (RX7, TX7, 7)) hKx hMx xe2 rfl rfl, fun U hU hWm => ⟨rfl, by rw [hU]; exact hMx, va_K.moved hWm.alike hKx, hW, fun z hz => hfr H hMm hS.1 z (by rw [hU] at hz; exact hz)⟩⟩ rfl rfl hl.1 rfl (lv_room (Nat.le_of_ble_eq_true rfl)) dL_law_680 ⟨(show (100 + 45 * t + (c.1 + c.2) / 64) + 0 ≤ 600000 from by omega), (show (400000 + 600 * t + 2 * (c.1 + c.2)) + 0 ≤ 7302250 from by omega)⟩) hS (fun z _ h9 => hAxA z h9) (fun z h9 => hAxA z h9) (fun r9 u9 t9 H1 locs ht9 _ hw9 hB9 hz1 hk1 hS => ?_)
      have hMm := mP_kept hMm (H1 := H1) (fun z hz h9 => hk1 z hz (fun h8 => by obtain ⟨k9, n9, hk9, e9⟩ := h9; exact h8.2 k9 n9 hk9 e9))
      obtain ⟨hMx, -, hW, -⟩ := hB9
      rw [ht9] at hMx
      rw [show r9 = r from hw9]
      refine lv_aload_n hx hb dL_law_683 rfl (lv_at hl 2 rfl) ?_
      have hS1 := hS.1
      refine va_calli (va_runV (As := []) (rest := [.int r]) ⟨hx, hb, hml, hown, hts⟩ (kX8_ended l (A := fun z => Am am z ∨ H1.size ≤ z)  G hm1) (cwV 0 hts gL_law_X8_ended rfl rfl rfl (by decide +kernel) ⟨Nat.le_of_ble_eq_true rfl, Nat.le_of_ble_eq_true rfl⟩) ⟨fun a U g9 mk w9 => ⟨w9.1, mR_calling w9.2⟩, mP_recv (q := (RX8, TX8, 48)) hKm hMm me0 rfl rfl, fun U hU hWm => ⟨rfl, by rw [hU]; exact mP_w (fun k n hk => Or.inl ⟨k, n, hk, rfl⟩) hMm, va_K.moved hWm.alike hKm, fun z hz => Or.inr (by rw [hU] at hz; exact hz)⟩⟩ rfl rfl hl.1 rfl (lv_room (Nat.le_of_ble_eq_true rfl)) dL_law_684 ⟨(show ((100 + 45 * t + (c.1 + c.2) / 64) + 0) + 0 ≤ 600000 from by omega), (show ((400000 + 600 * t + 2 * (c.1 + c.2)) + 0) + 0 ≤ 7302250 from by omega)⟩) hS (fun z _ h9 => h9.elim (fun h8 => by obtain ⟨k9, n9, hk9, e9⟩ := h8; rw [← e9]; exact ham k9 n9 hk9) (fun h8 => Nat.le_trans hS1 h8)) (fun z h9 => h9.elim (fun h8 => by obtain ⟨k9, n9, hk9, e9⟩ := h8; rw [← e9]; exact ham k9 n9 hk9) (fun h8 => Nat.le_trans hS1 h8)) (fun r8 u8 t8 H2 locs ht8 _ hw8 hB8 hz2 hk2 hS => ?_)
      have hMx := mP_kept hMx (H1 := H2) (fun z hz h9 => hk2 z hz (fun h8 => h8.elim (fun h7 => by obtain ⟨k9, n9, hk9, e9⟩ := h7; exact h9.2 k9 n9 hk9 e9) (fun h7 => by omega)))
      obtain ⟨hMm, -, -⟩ := hB8
      rw [ht8] at hMm
      have hMm := mP_w (A2 := Am am) (fun k n hk => ⟨k, n, hk, rfl⟩) hMm
      rw [show r8 = r from hw8]
      refine lv_icmp_eq (tgt := 718) hx hb dL_law_687 (by decide) (fun _ => ?_) (fun c9 => absurd rfl c9)
      exact hnext ad cnt L q V c G H2 _ ls (((100 + 45 * t + (c.1 + c.2) / 64) + 0) + 0) (((400000 + 600 * t + 2 * (c.1 + c.2)) + 0) + 0) hRel hMx hW hMm hS (lv_sub hl [0, 1, 2, 3] rfl) (by omega) (by omega)
    by_cases w18 : x9 = 18
    · refine lv_tableIn (off := 660) (tgt := 692) hx hb dL_law_32 (by rw [w18]; decide) (by rw [w18]; decide) (by rw [w18]; decide) (by decide) ?_
      obtain ⟨r, hx1, hm1, hRel⟩ := s_lost t cnt L V c G  hk512 hRel
      refine lv_aload_n hx hb dL_law_692 rfl (lv_at hl 1 rfl) ?_
      refine va_calli (va_runV (As := []) (rest := []) ⟨hx, hb, hml, hown, hts⟩ (kX7_lost l (A := Ax s am) (ad := ad) (q := q) hsh  V c hx1) (cwV 0 hts gL_law_X7_lost rfl rfl rfl (by decide +kernel) ⟨Nat.le_of_ble_eq_true rfl, Nat.le_of_ble_eq_true rfl⟩) ⟨fun a U g9 mk w9 => ⟨w9.1, xM_calling w9.2⟩, mP_recv (q := (RX7, TX7, 7)) hKx hMx xe2 rfl rfl, fun U hU hWm => ⟨rfl, by rw [hU]; exact hMx, va_K.moved hWm.alike hKx, hW, fun z hz => hfr H hMm hS.1 z (by rw [hU] at hz; exact hz)⟩⟩ rfl rfl hl.1 rfl (lv_room (Nat.le_of_ble_eq_true rfl)) dL_law_693 ⟨(show (100 + 45 * t + (c.1 + c.2) / 64) + 0 ≤ 600000 from by omega), (show (400000 + 600 * t + 2 * (c.1 + c.2)) + 0 ≤ 7302250 from by omega)⟩) hS (fun z _ h9 => hAxA z h9) (fun z h9 => hAxA z h9) (fun r9 u9 t9 H1 locs ht9 _ hw9 hB9 hz1 hk1 hS => ?_)
      have hMm := mP_kept hMm (H1 := H1) (fun z hz h9 => hk1 z hz (fun h8 => by obtain ⟨k9, n9, hk9, e9⟩ := h9; exact h8.2 k9 n9 hk9 e9))
      obtain ⟨hMx, -, hW, -⟩ := hB9
      rw [ht9] at hMx
      rw [show r9 = r from hw9]
      refine lv_aload_n hx hb dL_law_696 rfl (lv_at hl 2 rfl) ?_
      have hS1 := hS.1
      refine va_calli (va_runV (As := []) (rest := [.int r]) ⟨hx, hb, hml, hown, hts⟩ (kX8_lost l (A := fun z => Am am z ∨ H1.size ≤ z)  G hm1) (cwV 0 hts gL_law_X8_lost rfl rfl rfl (by decide +kernel) ⟨Nat.le_of_ble_eq_true rfl, Nat.le_of_ble_eq_true rfl⟩) ⟨fun a U g9 mk w9 => ⟨w9.1, mR_calling w9.2⟩, mP_recv (q := (RX8, TX8, 48)) hKm hMm me0 rfl rfl, fun U hU hWm => ⟨rfl, by rw [hU]; exact mP_w (fun k n hk => Or.inl ⟨k, n, hk, rfl⟩) hMm, va_K.moved hWm.alike hKm, fun z hz => Or.inr (by rw [hU] at hz; exact hz)⟩⟩ rfl rfl hl.1 rfl (lv_room (Nat.le_of_ble_eq_true rfl)) dL_law_697 ⟨(show ((100 + 45 * t + (c.1 + c.2) / 64) + 0) + 0 ≤ 600000 from by omega), (show ((400000 + 600 * t + 2 * (c.1 + c.2)) + 0) + 0 ≤ 7302250 from by omega)⟩) hS (fun z _ h9 => h9.elim (fun h8 => by obtain ⟨k9, n9, hk9, e9⟩ := h8; rw [← e9]; exact ham k9 n9 hk9) (fun h8 => Nat.le_trans hS1 h8)) (fun z h9 => h9.elim (fun h8 => by obtain ⟨k9, n9, hk9, e9⟩ := h8; rw [← e9]; exact ham k9 n9 hk9) (fun h8 => Nat.le_trans hS1 h8)) (fun r8 u8 t8 H2 locs ht8 _ hw8 hB8 hz2 hk2 hS => ?_)
      have hMx := mP_kept hMx (H1 := H2) (fun z hz h9 => hk2 z hz (fun h8 => h8.elim (fun h7 => by obtain ⟨k9, n9, hk9, e9⟩ := h7; exact h9.2 k9 n9 hk9 e9) (fun h7 => by omega)))
      obtain ⟨hMm, -, -⟩ := hB8
      rw [ht8] at hMm
      have hMm := mP_w (A2 := Am am) (fun k n hk => ⟨k, n, hk, rfl⟩) hMm
      rw [show r8 = r from hw8]
      refine lv_icmp_eq (tgt := 718) hx hb dL_law_700 (by decide) (fun _ => ?_) (fun c9 => absurd rfl c9)
      exact hnext ad cnt L q V c G H2 _ ls (((100 + 45 * t + (c.1 + c.2) / 64) + 0) + 0) (((400000 + 600 * t + 2 * (c.1 + c.2)) + 0) + 0) hRel hMx hW hMm hS (lv_sub hl [0, 1, 2, 3] rfl) (by omega) (by omega)
    by_cases w19 : x9 = 19
    · refine lv_tableIn (off := 673) (tgt := 705) hx hb dL_law_32 (by rw [w19]; decide) (by rw [w19]; decide) (by rw [w19]; decide) (by decide) ?_
      obtain ⟨r, hx1, hm1, hRel⟩ := s_clock t cnt L V c G  hk512 hRel
      refine lv_aload_n hx hb dL_law_705 rfl (lv_at hl 1 rfl) ?_
      refine va_calli (va_runV (As := []) (rest := []) ⟨hx, hb, hml, hown, hts⟩ (kX7_clock l (A := Ax s am) (ad := ad) (q := q) hsh  V c hx1) (cwV 0 hts gL_law_X7_clock rfl rfl rfl (by decide +kernel) ⟨Nat.le_of_ble_eq_true rfl, Nat.le_of_ble_eq_true rfl⟩) ⟨fun a U g9 mk w9 => ⟨w9.1, xM_calling w9.2⟩, mP_recv (q := (RX7, TX7, 7)) hKx hMx xe2 rfl rfl, fun U hU hWm => ⟨rfl, by rw [hU]; exact hMx, va_K.moved hWm.alike hKx, hW, fun z hz => hfr H hMm hS.1 z (by rw [hU] at hz; exact hz)⟩⟩ rfl rfl hl.1 rfl (lv_room (Nat.le_of_ble_eq_true rfl)) dL_law_706 ⟨(show (100 + 45 * t + (c.1 + c.2) / 64) + 0 ≤ 600000 from by omega), (show (400000 + 600 * t + 2 * (c.1 + c.2)) + 0 ≤ 7302250 from by omega)⟩) hS (fun z _ h9 => hAxA z h9) (fun z h9 => hAxA z h9) (fun r9 u9 t9 H1 locs ht9 _ hw9 hB9 hz1 hk1 hS => ?_)
      have hMm := mP_kept hMm (H1 := H1) (fun z hz h9 => hk1 z hz (fun h8 => by obtain ⟨k9, n9, hk9, e9⟩ := h9; exact h8.2 k9 n9 hk9 e9))
      obtain ⟨hMx, -, hW, -⟩ := hB9
      rw [ht9] at hMx
      rw [show r9 = r from hw9]
      refine lv_aload_n hx hb dL_law_709 rfl (lv_at hl 2 rfl) ?_
      have hS1 := hS.1
      refine va_calli (va_runV (As := []) (rest := [.int r]) ⟨hx, hb, hml, hown, hts⟩ (kX8_clock l (A := fun z => Am am z ∨ H1.size ≤ z)  G hm1) (cwV 0 hts gL_law_X8_clock rfl rfl rfl (by decide +kernel) ⟨Nat.le_of_ble_eq_true rfl, Nat.le_of_ble_eq_true rfl⟩) ⟨fun a U g9 mk w9 => ⟨w9.1, mR_calling w9.2⟩, mP_recv (q := (RX8, TX8, 48)) hKm hMm me0 rfl rfl, fun U hU hWm => ⟨rfl, by rw [hU]; exact mP_w (fun k n hk => Or.inl ⟨k, n, hk, rfl⟩) hMm, va_K.moved hWm.alike hKm, fun z hz => Or.inr (by rw [hU] at hz; exact hz)⟩⟩ rfl rfl hl.1 rfl (lv_room (Nat.le_of_ble_eq_true rfl)) dL_law_710 ⟨(show ((100 + 45 * t + (c.1 + c.2) / 64) + 0) + 0 ≤ 600000 from by omega), (show ((400000 + 600 * t + 2 * (c.1 + c.2)) + 0) + 0 ≤ 7302250 from by omega)⟩) hS (fun z _ h9 => h9.elim (fun h8 => by obtain ⟨k9, n9, hk9, e9⟩ := h8; rw [← e9]; exact ham k9 n9 hk9) (fun h8 => Nat.le_trans hS1 h8)) (fun z h9 => h9.elim (fun h8 => by obtain ⟨k9, n9, hk9, e9⟩ := h8; rw [← e9]; exact ham k9 n9 hk9) (fun h8 => Nat.le_trans hS1 h8)) (fun r8 u8 t8 H2 locs ht8 _ hw8 hB8 hz2 hk2 hS => ?_)
      have hMx := mP_kept hMx (H1 := H2) (fun z hz h9 => hk2 z hz (fun h8 => h8.elim (fun h7 => by obtain ⟨k9, n9, hk9, e9⟩ := h7; exact h9.2 k9 n9 hk9 e9) (fun h7 => by omega)))
      obtain ⟨hMm, -, -⟩ := hB8
      rw [ht8] at hMm
      have hMm := mP_w (A2 := Am am) (fun k n hk => ⟨k, n, hk, rfl⟩) hMm
      rw [show r8 = r from hw8]
      refine lv_icmp_eq (tgt := 718) hx hb dL_law_713 (by decide) (fun _ => ?_) (fun c9 => absurd rfl c9)
      exact hnext ad cnt L q V c G H2 _ ls (((100 + 45 * t + (c.1 + c.2) / 64) + 0) + 0) (((400000 + 600 * t + 2 * (c.1 + c.2)) + 0) + 0) hRel hMx hW hMm hS (lv_sub hl [0, 1, 2, 3] rfl) (by omega) (by omega)
    refine lv_tableOut (tgt := 718) hx hb dL_law_32 (sw_out19 w0 w1 w2 w3 w4 w5 w6 w7 w8 w9 w10 w11 w12 w13 w14 w15 w16 w17 w18 w19) (by decide) ?_
    exact hnext ad cnt L q V c G H locs ls _ _ (s_skip _ _ _ _ _ _ hk512 hRel) hMx hW hMm hS (lv_sub hl [0, 1, 2, 3] rfl) (by omega) (by omega)
