/-! X8_listGifts -/
def jnX8_listGifts_180  (ro26 : Int32 → Int32 → Int32 → Int32 → mM → Option (mM)) (x1 : Int32) (x2 : Int32) (x3 : Int32) (x4 : Int32) (V : mM) : Option (mM) := ro26 x1 x2 x3 (x4 + 1) V
def jnX8_listGifts_177  (ro26 : Int32 → Int32 → Int32 → Int32 → mM → Option (mM)) (x1 : Int32) (x2 : Int32) (x3 : Int32) (x4 : Int32) (xs1 : Int32) (xs2 : Int32) (xs3 : Int32) (xs4 : Int32) (V : mM) : Option (mM) := (fX8_gift xs1 xs2 xs3 xs4 V).bind fun u_1 => jnX8_listGifts_180 ro26 x1 x2 x3 x4 u_1
def jnX8_listGifts_134  (ro26 : Int32 → Int32 → Int32 → Int32 → mM → Option (mM)) (x1 : Int32) (x2 : Int32) (x3 : Int32) (x4 : Int32) (x5 : Int32) (x6 : Int32) (V : mM) : Option (mM) := if bin x1 8 = true then (if (V 9 0 (x1).toNatClampNeg) = (2 : Int32) then (if bin x5 124000 = true then (if (x6 - x6 / (2 : Int32) * (2 : Int32)) = 0 then (if bin x1 8 = true then (jnX8_listGifts_177 ro26 x1 x2 x3 x4 x2 x6 (V 4 0 (x5).toNatClampNeg) (V 10 0 (x1).toNatClampNeg) V) else none) else (if bin x1 8 = true then (jnX8_listGifts_177 ro26 x1 x2 x3 x4 x2 x6 (V 4 0 (x5).toNatClampNeg) (V 11 0 (x1).toNatClampNeg) V) else none)) else none) else (jnX8_listGifts_180 ro26 x1 x2 x3 x4 V)) else none
def jnX8_listGifts_104  (ro26 : Int32 → Int32 → Int32 → Int32 → mM → Option (mM)) (x1 : Int32) (x2 : Int32) (x3 : Int32) (x4 : Int32) (x5 : Int32) (x6 : Int32) (V : mM) : Option (mM) := if bin x1 8 = true then (if (V 9 0 (x1).toNatClampNeg) = (1 : Int32) then (if bin x5 124000 = true then (if bin x1 8 = true then ((fX8_gift x2 x6 (V 4 0 (x5).toNatClampNeg) (V 11 0 (x1).toNatClampNeg) V).bind fun u_12 => jnX8_listGifts_134 ro26 x1 x2 x3 x4 x5 x6 u_12) else none) else none) else (jnX8_listGifts_134 ro26 x1 x2 x3 x4 x5 x6 V)) else none
def jnX8_listGifts_84  (ro26 : Int32 → Int32 → Int32 → Int32 → mM → Option (mM)) (x1 : Int32) (x2 : Int32) (x3 : Int32) (x4 : Int32) (x5 : Int32) (x6 : Int32) (V : mM) : Option (mM) := if bin x5 124000 = true then (if bin x1 8 = true then ((fX8_gift x2 x6 (V 4 0 (x5).toNatClampNeg) (V 10 0 (x1).toNatClampNeg) V).bind fun u_15 => jnX8_listGifts_104 ro26 x1 x2 x3 x4 x5 x6 u_15) else none) else none
def lpX8_listGifts_26   : Nat → Int32 → Int32 → Int32 → Int32 → mM → Option (mM)
  | 0, _, _, _, _, _ => none
  | n9 + 1, x1, x2, x3, x4, V => if bin x2 32 = true then (if (V 31 0 (x2).toNatClampNeg) ≤ x4 then (if bin x1 8 = true then (if (V 9 0 (x1).toNatClampNeg) = (3 : Int32) then (if bin ((8 : Int32) * x2) 256 = true then (if bin (V 32 0 (((8 : Int32) * x2)).toNatClampNeg) 124000 = true then (if bin x1 8 = true then ((fX8_gift x2 x3 (V 4 0 ((V 32 0 (((8 : Int32) * x2)).toNatClampNeg)).toNatClampNeg) (V 10 0 (x1).toNatClampNeg) V).bind fun u_23 => some u_23) else none) else none) else none) else (some V)) else none) else (if bin (((8 : Int32) * x2) + x4) 256 = true then (if bin (V 32 0 ((((8 : Int32) * x2) + x4)).toNatClampNeg) 124000 = true then (if bin x1 8 = true then (if (V 9 0 (x1).toNatClampNeg) = 0 then (jnX8_listGifts_84 (lpX8_listGifts_26 n9) x1 x2 (x3 + (V 3 0 ((V 32 0 ((((8 : Int32) * x2) + x4)).toNatClampNeg)).toNatClampNeg)) x4 (V 32 0 ((((8 : Int32) * x2) + x4)).toNatClampNeg) (V 3 0 ((V 32 0 ((((8 : Int32) * x2) + x4)).toNatClampNeg)).toNatClampNeg) V) else (if bin x1 8 = true then (if (V 9 0 (x1).toNatClampNeg) = (1 : Int32) then (jnX8_listGifts_84 (lpX8_listGifts_26 n9) x1 x2 (x3 + (V 3 0 ((V 32 0 ((((8 : Int32) * x2) + x4)).toNatClampNeg)).toNatClampNeg)) x4 (V 32 0 ((((8 : Int32) * x2) + x4)).toNatClampNeg) (V 3 0 ((V 32 0 ((((8 : Int32) * x2) + x4)).toNatClampNeg)).toNatClampNeg) V) else (jnX8_listGifts_104 (lpX8_listGifts_26 n9) x1 x2 (x3 + (V 3 0 ((V 32 0 ((((8 : Int32) * x2) + x4)).toNatClampNeg)).toNatClampNeg)) x4 (V 32 0 ((((8 : Int32) * x2) + x4)).toNatClampNeg) (V 3 0 ((V 32 0 ((((8 : Int32) * x2) + x4)).toNatClampNeg)).toNatClampNeg) V)) else none)) else none) else none) else none)) else none
def fX8_listGifts  (px1 : Int32) (px2 : Int32) (V0 : mM) : Option (mM) := if bin px2 32 = true then (if bin px2 32 = true then (if bin px2 32 = true then (lpX8_listGifts_26 fu px1 px2 (0 : Int32) (0 : Int32) (mu (mu (mu V0 34 0 (px2).toNatClampNeg (1 : Int32)) 35 0 (px2).toNatClampNeg (0 : Int32)) 36 0 (px2).toNatClampNeg (0 : Int32))) else none) else none) else none
set_option maxHeartbeats 4000000 in
set_option maxRecDepth 100000 in
theorem kX8_listGifts (l : Launch) {dC : Nat → ClassId} {dI : Nat → Nat → Nat} {A : Nat → Prop} {ad : Nat → Nat → Nat} {cI cZ : ClassId}  (px1 : Int32) (px2 : Int32) (V0 : mM) {res : mM} (h : fX8_listGifts px1 px2 V0 = some res) : Met l yX8_listGifts wsX8_listGifts ({ frames := 1, cells := 0, slots := 0, locals := 25 } : Room) (va_Pc [.ref (ad 0 0), .int px1, .int px2] (fun U => mR dC dI A ad cI cZ V0 U)) (va_Qv (fun (_ : Unit) => True) (fun _ t9 => mR dC dI A ad cI cZ res t9) A) 0 0 A := by
  refine Met.ofW (cc := cX8_listGifts) (maxL := 7) (ret := none) (by decide) rfl ?_
  intro p e s m args below meth cd s₁ B hml hv
  obtain ⟨rfl, hM, hK, hAs⟩ := hv
  have hx := B.exec
  have hb := B.bytes
  have hr := B.returns
  have hts := atoms_spec (ws := wsX8_listGifts) B.pre
  have hown : s.vm.findClass RX8 = some m.cls := findClass_of_methodNamed B.named
  have hlocks := B.notSynchronized
  have hS : va_S A s.heap s.heap [] := va_S.rf
  have k21 := hts (.fieldLink RX8 21 "StageDeskModel" "sorts" "[I") (by decide +kernel)
  have k14 := hts (.fieldLink RX8 14 "StageDeskModel" "births" "[I") (by decide +kernel)
  have k27 := hts (.fieldLink RX8 27 "StageDeskModel" "second" "[I") (by decide +kernel)
  have k24 := hts (.fieldLink RX8 24 "StageDeskModel" "first" "[I") (by decide +kernel)
  have k88 := hts (.fieldLink RX8 88 "StageDeskModel" "size" "[I") (by decide +kernel)
  have k91 := hts (.fieldLink RX8 91 "StageDeskModel" "batch" "[I") (by decide +kernel)
  have k8 := hts (.fieldLink RX8 8 "StageDeskModel" "values" "[I") (by decide +kernel)
  have k97 := hts (.fieldLink RX8 97 "StageDeskModel" "offers" "[Z") (by decide +kernel)
  have k100 := hts (.fieldLink RX8 100 "StageDeskModel" "gifts" "[I") (by decide +kernel)
  have k103 := hts (.fieldLink RX8 103 "StageDeskModel" "given" "[I") (by decide +kernel)
  have inX8 : ∀ w ∈ u_ws RX8 TX8 48, w ∈ wsX8_listGifts := by decide +kernel
  have hb180 : ∀ (ro26 : Int32 → Int32 → Int32 → Int32 → mM → Option (mM)) (hro26 : ∀ (x1 : Int32) (x2 : Int32) (x3 : Int32) (x4 : Int32) (V : mM), ro26 x1 x2 x3 x4 V = some res → ∀ (H : Heap) (locs : List Loc), mP (dC, dI) vwCl A ad (mce cI cZ ad) mex V H → va_S A s.heap H locs → ∀ (ls : Array Slot), lv_has ls 7 [(0, .ref (ad 0 0)), (1, .int x1), (2, .int x2), (3, .int x3), (4, .int x4)] → W p l e (headSpec wsX8_listGifts ({ frames := 1, cells := 0, slots := 0, locals := 25 } : Room)).room s m ([.ref (ad 0 0), .int px1, .int px2] : List Value).toArray below meth cd H locs 0 0 (MQ below (va_Qv (fun (_ : Unit) => True) (fun _ t9 => mR dC dI A ad cI cZ res t9) A) ([.ref (ad 0 0), .int px1, .int px2] : List Value).toArray s 0 0 A) (F0 m 26 ls [])), ∀ (x1 : Int32) (x2 : Int32) (x3 : Int32) (x4 : Int32) (V : mM), jnX8_listGifts_180 ro26 x1 x2 x3 x4 V = some res → ∀ (H : Heap) (locs : List Loc), mP (dC, dI) vwCl A ad (mce cI cZ ad) mex V H → va_S A s.heap H locs → ∀ (ls : Array Slot), lv_has ls 7 [(0, .ref (ad 0 0)), (1, .int x1), (2, .int x2), (3, .int x3), (4, .int x4)] → W p l e (headSpec wsX8_listGifts ({ frames := 1, cells := 0, slots := 0, locals := 25 } : Room)).room s m ([.ref (ad 0 0), .int px1, .int px2] : List Value).toArray below meth cd H locs 0 0 (MQ below (va_Qv (fun (_ : Unit) => True) (fun _ t9 => mR dC dI A ad cI cZ res t9) A) ([.ref (ad 0 0), .int px1, .int px2] : List Value).toArray s 0 0 A) (F0 m 180 ls []) := by
    intro ro26 hro26 x1 x2 x3 x4 V h H locs hM hS ls hl
    unfold jnX8_listGifts_180 at h
    refine lv_iinc (v := (x4 + 1)) (lv' := [(4, .int (x4 + 1)), (0, .ref (ad 0 0)), (1, .int x1), (2, .int x2), (3, .int x3)]) hx hb dX8_listGifts_180 hl (k := 4) rfl rfl (by decide) rfl (fun ls hl => ?_)
    refine lv_goto (tgt := 26) hx hb dX8_listGifts_183 (by decide) ?_
    exact hro26 _ _ _ _ _ h _ _  hM hS ls (lv_sub hl [1, 2, 3, 4, 0] rfl)
  have hb177 : ∀ (ro26 : Int32 → Int32 → Int32 → Int32 → mM → Option (mM)) (hro26 : ∀ (x1 : Int32) (x2 : Int32) (x3 : Int32) (x4 : Int32) (V : mM), ro26 x1 x2 x3 x4 V = some res → ∀ (H : Heap) (locs : List Loc), mP (dC, dI) vwCl A ad (mce cI cZ ad) mex V H → va_S A s.heap H locs → ∀ (ls : Array Slot), lv_has ls 7 [(0, .ref (ad 0 0)), (1, .int x1), (2, .int x2), (3, .int x3), (4, .int x4)] → W p l e (headSpec wsX8_listGifts ({ frames := 1, cells := 0, slots := 0, locals := 25 } : Room)).room s m ([.ref (ad 0 0), .int px1, .int px2] : List Value).toArray below meth cd H locs 0 0 (MQ below (va_Qv (fun (_ : Unit) => True) (fun _ t9 => mR dC dI A ad cI cZ res t9) A) ([.ref (ad 0 0), .int px1, .int px2] : List Value).toArray s 0 0 A) (F0 m 26 ls [])), ∀ (x1 : Int32) (x2 : Int32) (x3 : Int32) (x4 : Int32) (xs1 : Int32) (xs2 : Int32) (xs3 : Int32) (xs4 : Int32) (V : mM), jnX8_listGifts_177 ro26 x1 x2 x3 x4 xs1 xs2 xs3 xs4 V = some res → ∀ (H : Heap) (locs : List Loc), mP (dC, dI) vwCl A ad (mce cI cZ ad) mex V H → va_S A s.heap H locs → ∀ (ls : Array Slot), lv_has ls 7 [(0, .ref (ad 0 0)), (1, .int x1), (2, .int x2), (3, .int x3), (4, .int x4)] → W p l e (headSpec wsX8_listGifts ({ frames := 1, cells := 0, slots := 0, locals := 25 } : Room)).room s m ([.ref (ad 0 0), .int px1, .int px2] : List Value).toArray below meth cd H locs 0 0 (MQ below (va_Qv (fun (_ : Unit) => True) (fun _ t9 => mR dC dI A ad cI cZ res t9) A) ([.ref (ad 0 0), .int px1, .int px2] : List Value).toArray s 0 0 A) (F0 m 177 ls [.int xs4, .int xs3, .int xs2, .int xs1, .ref (ad 0 0)]) := by
    intro ro26 hro26 x1 x2 x3 x4 xs1 xs2 xs3 xs4 V h H locs hM hS ls hl
    unfold jnX8_listGifts_177 at h
    obtain ⟨u_1, hu_1, h⟩ := bindS h
    refine va_callv (va_runV (As := [.int xs1, .int xs2, .int xs3, .int xs4]) (rest := []) ⟨hx, hb, hml, hown, hts⟩ (kX8_gift l xs1 xs2 xs3 xs4 V hu_1) (cwV 4 hts gX8_listGifts_X8_gift rfl rfl rfl (by decide +kernel) ⟨Nat.le_of_ble_eq_true rfl, Nat.le_of_ble_eq_true rfl⟩) ⟨fun a U g9 mk w9 => ⟨w9.1, mR_calling w9.2⟩, mP_recv (q := (RX8, TX8, 48)) hK hM me0 rfl rfl, fun U hU hWm => ⟨rfl, mR_of hM hK hAs hS.1 hU hWm⟩⟩ rfl rfl hl.1 rfl (lv_room (Nat.le_of_ble_eq_true rfl)) dX8_listGifts_177 ⟨Nat.le_of_ble_eq_true rfl, Nat.le_of_ble_eq_true rfl⟩) hS (fun _ _ h9 => h9) (fun _ h9 => h9) (fun u9 t9 H locs ht9 _ hw9 hB9 _ _ hS => ?_)
    obtain ⟨hM, -, -⟩ := hB9
    rw [ht9] at hM
    exact hb180 ro26 hro26 _ _ _ _ _ h _ _  hM hS ls (lv_sub hl [0, 1, 2, 3, 4] rfl)
  have hb134 : ∀ (ro26 : Int32 → Int32 → Int32 → Int32 → mM → Option (mM)) (hro26 : ∀ (x1 : Int32) (x2 : Int32) (x3 : Int32) (x4 : Int32) (V : mM), ro26 x1 x2 x3 x4 V = some res → ∀ (H : Heap) (locs : List Loc), mP (dC, dI) vwCl A ad (mce cI cZ ad) mex V H → va_S A s.heap H locs → ∀ (ls : Array Slot), lv_has ls 7 [(0, .ref (ad 0 0)), (1, .int x1), (2, .int x2), (3, .int x3), (4, .int x4)] → W p l e (headSpec wsX8_listGifts ({ frames := 1, cells := 0, slots := 0, locals := 25 } : Room)).room s m ([.ref (ad 0 0), .int px1, .int px2] : List Value).toArray below meth cd H locs 0 0 (MQ below (va_Qv (fun (_ : Unit) => True) (fun _ t9 => mR dC dI A ad cI cZ res t9) A) ([.ref (ad 0 0), .int px1, .int px2] : List Value).toArray s 0 0 A) (F0 m 26 ls [])), ∀ (x1 : Int32) (x2 : Int32) (x3 : Int32) (x4 : Int32) (x5 : Int32) (x6 : Int32) (V : mM), jnX8_listGifts_134 ro26 x1 x2 x3 x4 x5 x6 V = some res → ∀ (H : Heap) (locs : List Loc), mP (dC, dI) vwCl A ad (mce cI cZ ad) mex V H → va_S A s.heap H locs → ∀ (ls : Array Slot), lv_has ls 7 [(0, .ref (ad 0 0)), (1, .int x1), (2, .int x2), (3, .int x3), (4, .int x4), (5, .int x5), (6, .int x6)] → W p l e (headSpec wsX8_listGifts ({ frames := 1, cells := 0, slots := 0, locals := 25 } : Room)).room s m ([.ref (ad 0 0), .int px1, .int px2] : List Value).toArray below meth cd H locs 0 0 (MQ below (va_Qv (fun (_ : Unit) => True) (fun _ t9 => mR dC dI A ad cI cZ res t9) A) ([.ref (ad 0 0), .int px1, .int px2] : List Value).toArray s 0 0 A) (F0 m 134 ls []) := by
    intro ro26 hro26 x1 x2 x3 x4 x5 x6 V h H locs hM hS ls hl
    unfold jnX8_listGifts_134 at h
    refine lv_aload_n hx hb dX8_listGifts_134 rfl (lv_at hl 0 rfl) ?_
    refine mm_get (C := RX8) (T := TX8) (N := 48) (ci := 8) hx hb hts inX8 hown hK hM 0 0 me0 rfl rfl 8 (by decide) k21 (fun _ h9 => h9) rfl dX8_listGifts_135 ?_
    refine lv_iload_n hx hb dX8_listGifts_138 rfl (lv_at hl 1 rfl) ?_
    obtain ⟨b_2, h⟩ := iteS h
    refine mm_iald hx hb hK hM 9 0 (me (by decide)) 0 rfl rfl (bin_in b_2) dX8_listGifts_139 ?_
    refine lv_iconst (v := 2) hx hb dX8_listGifts_140 (by decide) ?_
    refine lv_icmp_ne (tgt := 180) hx hb dX8_listGifts_141 (by decide) (fun c_3 => ?_) (fun c_3 => ?_)
    · have h := iteF c_3 h
      exact hb180 ro26 hro26 _ _ _ _ _ h _ _  hM hS ls (lv_sub hl [0, 1, 2, 3, 4] rfl)
    · have h := iteT c_3 h
      refine lv_aload_n hx hb dX8_listGifts_144 rfl (lv_at hl 0 rfl) ?_
      refine lv_iload_n hx hb dX8_listGifts_145 rfl (lv_at hl 2 rfl) ?_
      refine lv_iload hx hb dX8_listGifts_146 (lv_at hl 6 rfl) ?_
      refine lv_aload_n hx hb dX8_listGifts_148 rfl (lv_at hl 0 rfl) ?_
      refine mm_get (C := RX8) (T := TX8) (N := 48) (ci := 8) hx hb hts inX8 hown hK hM 0 0 me0 rfl rfl 3 (by decide) k14 (fun _ h9 => h9) rfl dX8_listGifts_149 ?_
      refine lv_iload hx hb dX8_listGifts_152 (lv_at hl 5 rfl) ?_
      obtain ⟨b_4, h⟩ := iteS h
      refine mm_iald hx hb hK hM 4 0 (me (by decide)) 0 rfl rfl (bin_in b_4) dX8_listGifts_154 ?_
      refine lv_iload hx hb dX8_listGifts_155 (lv_at hl 6 rfl) ?_
      refine lv_iconst (v := 2) hx hb dX8_listGifts_157 (by decide) ?_
      refine lv_irem hx hb dX8_listGifts_158 (by decide) ?_
      refine lv_if_ne (tgt := 171) hx hb dX8_listGifts_159 (by decide) (fun c_5 => ?_) (fun c_5 => ?_)
      · have h := iteF c_5 h
        refine lv_aload_n hx hb dX8_listGifts_171 rfl (lv_at hl 0 rfl) ?_
        refine mm_get (C := RX8) (T := TX8) (N := 48) (ci := 8) hx hb hts inX8 hown hK hM 0 0 me0 rfl rfl 10 (by decide) k27 (fun _ h9 => h9) rfl dX8_listGifts_172 ?_
        refine lv_iload_n hx hb dX8_listGifts_175 rfl (lv_at hl 1 rfl) ?_
        obtain ⟨b_6, h⟩ := iteS h
        refine mm_iald hx hb hK hM 11 0 (me (by decide)) 0 rfl rfl (bin_in b_6) dX8_listGifts_176 ?_
        exact hb177 ro26 hro26 _ _ _ _ _ _ _ _ _ h _ _  hM hS ls (lv_sub hl [0, 1, 2, 3, 4] rfl)
      · have h := iteT c_5 h
        refine lv_aload_n hx hb dX8_listGifts_162 rfl (lv_at hl 0 rfl) ?_
        refine mm_get (C := RX8) (T := TX8) (N := 48) (ci := 8) hx hb hts inX8 hown hK hM 0 0 me0 rfl rfl 9 (by decide) k24 (fun _ h9 => h9) rfl dX8_listGifts_163 ?_
        refine lv_iload_n hx hb dX8_listGifts_166 rfl (lv_at hl 1 rfl) ?_
        obtain ⟨b_7, h⟩ := iteS h
        refine mm_iald hx hb hK hM 10 0 (me (by decide)) 0 rfl rfl (bin_in b_7) dX8_listGifts_167 ?_
        refine lv_goto (tgt := 177) hx hb dX8_listGifts_168 (by decide) ?_
        exact hb177 ro26 hro26 _ _ _ _ _ _ _ _ _ h _ _  hM hS ls (lv_sub hl [0, 1, 2, 3, 4] rfl)
  have hb104 : ∀ (ro26 : Int32 → Int32 → Int32 → Int32 → mM → Option (mM)) (hro26 : ∀ (x1 : Int32) (x2 : Int32) (x3 : Int32) (x4 : Int32) (V : mM), ro26 x1 x2 x3 x4 V = some res → ∀ (H : Heap) (locs : List Loc), mP (dC, dI) vwCl A ad (mce cI cZ ad) mex V H → va_S A s.heap H locs → ∀ (ls : Array Slot), lv_has ls 7 [(0, .ref (ad 0 0)), (1, .int x1), (2, .int x2), (3, .int x3), (4, .int x4)] → W p l e (headSpec wsX8_listGifts ({ frames := 1, cells := 0, slots := 0, locals := 25 } : Room)).room s m ([.ref (ad 0 0), .int px1, .int px2] : List Value).toArray below meth cd H locs 0 0 (MQ below (va_Qv (fun (_ : Unit) => True) (fun _ t9 => mR dC dI A ad cI cZ res t9) A) ([.ref (ad 0 0), .int px1, .int px2] : List Value).toArray s 0 0 A) (F0 m 26 ls [])), ∀ (x1 : Int32) (x2 : Int32) (x3 : Int32) (x4 : Int32) (x5 : Int32) (x6 : Int32) (V : mM), jnX8_listGifts_104 ro26 x1 x2 x3 x4 x5 x6 V = some res → ∀ (H : Heap) (locs : List Loc), mP (dC, dI) vwCl A ad (mce cI cZ ad) mex V H → va_S A s.heap H locs → ∀ (ls : Array Slot), lv_has ls 7 [(0, .ref (ad 0 0)), (1, .int x1), (2, .int x2), (3, .int x3), (4, .int x4), (5, .int x5), (6, .int x6)] → W p l e (headSpec wsX8_listGifts ({ frames := 1, cells := 0, slots := 0, locals := 25 } : Room)).room s m ([.ref (ad 0 0), .int px1, .int px2] : List Value).toArray below meth cd H locs 0 0 (MQ below (va_Qv (fun (_ : Unit) => True) (fun _ t9 => mR dC dI A ad cI cZ res t9) A) ([.ref (ad 0 0), .int px1, .int px2] : List Value).toArray s 0 0 A) (F0 m 104 ls []) := by
    intro ro26 hro26 x1 x2 x3 x4 x5 x6 V h H locs hM hS ls hl
    unfold jnX8_listGifts_104 at h
    refine lv_aload_n hx hb dX8_listGifts_104 rfl (lv_at hl 0 rfl) ?_
    refine mm_get (C := RX8) (T := TX8) (N := 48) (ci := 8) hx hb hts inX8 hown hK hM 0 0 me0 rfl rfl 8 (by decide) k21 (fun _ h9 => h9) rfl dX8_listGifts_105 ?_
    refine lv_iload_n hx hb dX8_listGifts_108 rfl (lv_at hl 1 rfl) ?_
    obtain ⟨b_8, h⟩ := iteS h
    refine mm_iald hx hb hK hM 9 0 (me (by decide)) 0 rfl rfl (bin_in b_8) dX8_listGifts_109 ?_
    refine lv_iconst (v := 1) hx hb dX8_listGifts_110 (by decide) ?_
    refine lv_icmp_ne (tgt := 134) hx hb dX8_listGifts_111 (by decide) (fun c_9 => ?_) (fun c_9 => ?_)
    · have h := iteF c_9 h
      exact hb134 ro26 hro26 _ _ _ _ _ _ _ h _ _  hM hS ls (lv_sub hl [0, 1, 2, 3, 4, 5, 6] rfl)
    · have h := iteT c_9 h
      refine lv_aload_n hx hb dX8_listGifts_114 rfl (lv_at hl 0 rfl) ?_
      refine lv_iload_n hx hb dX8_listGifts_115 rfl (lv_at hl 2 rfl) ?_
      refine lv_iload hx hb dX8_listGifts_116 (lv_at hl 6 rfl) ?_
      refine lv_aload_n hx hb dX8_listGifts_118 rfl (lv_at hl 0 rfl) ?_
      refine mm_get (C := RX8) (T := TX8) (N := 48) (ci := 8) hx hb hts inX8 hown hK hM 0 0 me0 rfl rfl 3 (by decide) k14 (fun _ h9 => h9) rfl dX8_listGifts_119 ?_
      refine lv_iload hx hb dX8_listGifts_122 (lv_at hl 5 rfl) ?_
      obtain ⟨b_10, h⟩ := iteS h
      refine mm_iald hx hb hK hM 4 0 (me (by decide)) 0 rfl rfl (bin_in b_10) dX8_listGifts_124 ?_
      refine lv_aload_n hx hb dX8_listGifts_125 rfl (lv_at hl 0 rfl) ?_
      refine mm_get (C := RX8) (T := TX8) (N := 48) (ci := 8) hx hb hts inX8 hown hK hM 0 0 me0 rfl rfl 10 (by decide) k27 (fun _ h9 => h9) rfl dX8_listGifts_126 ?_
      refine lv_iload_n hx hb dX8_listGifts_129 rfl (lv_at hl 1 rfl) ?_
      obtain ⟨b_11, h⟩ := iteS h
      refine mm_iald hx hb hK hM 11 0 (me (by decide)) 0 rfl rfl (bin_in b_11) dX8_listGifts_130 ?_
      obtain ⟨u_12, hu_12, h⟩ := bindS h
      refine va_callv (va_runV (As := [.int x2, .int x6, .int (V 4 0 (x5).toNatClampNeg), .int (V 11 0 (x1).toNatClampNeg)]) (rest := []) ⟨hx, hb, hml, hown, hts⟩ (kX8_gift l x2 x6 (V 4 0 (x5).toNatClampNeg) (V 11 0 (x1).toNatClampNeg) V hu_12) (cwV 4 hts gX8_listGifts_X8_gift rfl rfl rfl (by decide +kernel) ⟨Nat.le_of_ble_eq_true rfl, Nat.le_of_ble_eq_true rfl⟩) ⟨fun a U g9 mk w9 => ⟨w9.1, mR_calling w9.2⟩, mP_recv (q := (RX8, TX8, 48)) hK hM me0 rfl rfl, fun U hU hWm => ⟨rfl, mR_of hM hK hAs hS.1 hU hWm⟩⟩ rfl rfl hl.1 rfl (lv_room (Nat.le_of_ble_eq_true rfl)) dX8_listGifts_131 ⟨Nat.le_of_ble_eq_true rfl, Nat.le_of_ble_eq_true rfl⟩) hS (fun _ _ h9 => h9) (fun _ h9 => h9) (fun u9 t9 H locs ht9 _ hw9 hB9 _ _ hS => ?_)
      obtain ⟨hM, -, -⟩ := hB9
      rw [ht9] at hM
      exact hb134 ro26 hro26 _ _ _ _ _ _ _ h _ _  hM hS ls (lv_sub hl [0, 1, 2, 3, 4, 5, 6] rfl)
  have hb84 : ∀ (ro26 : Int32 → Int32 → Int32 → Int32 → mM → Option (mM)) (hro26 : ∀ (x1 : Int32) (x2 : Int32) (x3 : Int32) (x4 : Int32) (V : mM), ro26 x1 x2 x3 x4 V = some res → ∀ (H : Heap) (locs : List Loc), mP (dC, dI) vwCl A ad (mce cI cZ ad) mex V H → va_S A s.heap H locs → ∀ (ls : Array Slot), lv_has ls 7 [(0, .ref (ad 0 0)), (1, .int x1), (2, .int x2), (3, .int x3), (4, .int x4)] → W p l e (headSpec wsX8_listGifts ({ frames := 1, cells := 0, slots := 0, locals := 25 } : Room)).room s m ([.ref (ad 0 0), .int px1, .int px2] : List Value).toArray below meth cd H locs 0 0 (MQ below (va_Qv (fun (_ : Unit) => True) (fun _ t9 => mR dC dI A ad cI cZ res t9) A) ([.ref (ad 0 0), .int px1, .int px2] : List Value).toArray s 0 0 A) (F0 m 26 ls [])), ∀ (x1 : Int32) (x2 : Int32) (x3 : Int32) (x4 : Int32) (x5 : Int32) (x6 : Int32) (V : mM), jnX8_listGifts_84 ro26 x1 x2 x3 x4 x5 x6 V = some res → ∀ (H : Heap) (locs : List Loc), mP (dC, dI) vwCl A ad (mce cI cZ ad) mex V H → va_S A s.heap H locs → ∀ (ls : Array Slot), lv_has ls 7 [(0, .ref (ad 0 0)), (1, .int x1), (2, .int x2), (3, .int x3), (4, .int x4), (5, .int x5), (6, .int x6)] → W p l e (headSpec wsX8_listGifts ({ frames := 1, cells := 0, slots := 0, locals := 25 } : Room)).room s m ([.ref (ad 0 0), .int px1, .int px2] : List Value).toArray below meth cd H locs 0 0 (MQ below (va_Qv (fun (_ : Unit) => True) (fun _ t9 => mR dC dI A ad cI cZ res t9) A) ([.ref (ad 0 0), .int px1, .int px2] : List Value).toArray s 0 0 A) (F0 m 84 ls []) := by
    intro ro26 hro26 x1 x2 x3 x4 x5 x6 V h H locs hM hS ls hl
    unfold jnX8_listGifts_84 at h
    refine lv_aload_n hx hb dX8_listGifts_84 rfl (lv_at hl 0 rfl) ?_
    refine lv_iload_n hx hb dX8_listGifts_85 rfl (lv_at hl 2 rfl) ?_
    refine lv_iload hx hb dX8_listGifts_86 (lv_at hl 6 rfl) ?_
    refine lv_aload_n hx hb dX8_listGifts_88 rfl (lv_at hl 0 rfl) ?_
    refine mm_get (C := RX8) (T := TX8) (N := 48) (ci := 8) hx hb hts inX8 hown hK hM 0 0 me0 rfl rfl 3 (by decide) k14 (fun _ h9 => h9) rfl dX8_listGifts_89 ?_
    refine lv_iload hx hb dX8_listGifts_92 (lv_at hl 5 rfl) ?_
    obtain ⟨b_13, h⟩ := iteS h
    refine mm_iald hx hb hK hM 4 0 (me (by decide)) 0 rfl rfl (bin_in b_13) dX8_listGifts_94 ?_
    refine lv_aload_n hx hb dX8_listGifts_95 rfl (lv_at hl 0 rfl) ?_
    refine mm_get (C := RX8) (T := TX8) (N := 48) (ci := 8) hx hb hts inX8 hown hK hM 0 0 me0 rfl rfl 9 (by decide) k24 (fun _ h9 => h9) rfl dX8_listGifts_96 ?_
    refine lv_iload_n hx hb dX8_listGifts_99 rfl (lv_at hl 1 rfl) ?_
    obtain ⟨b_14, h⟩ := iteS h
    refine mm_iald hx hb hK hM 10 0 (me (by decide)) 0 rfl rfl (bin_in b_14) dX8_listGifts_100 ?_
    obtain ⟨u_15, hu_15, h⟩ := bindS h
    refine va_callv (va_runV (As := [.int x2, .int x6, .int (V 4 0 (x5).toNatClampNeg), .int (V 10 0 (x1).toNatClampNeg)]) (rest := []) ⟨hx, hb, hml, hown, hts⟩ (kX8_gift l x2 x6 (V 4 0 (x5).toNatClampNeg) (V 10 0 (x1).toNatClampNeg) V hu_15) (cwV 4 hts gX8_listGifts_X8_gift rfl rfl rfl (by decide +kernel) ⟨Nat.le_of_ble_eq_true rfl, Nat.le_of_ble_eq_true rfl⟩) ⟨fun a U g9 mk w9 => ⟨w9.1, mR_calling w9.2⟩, mP_recv (q := (RX8, TX8, 48)) hK hM me0 rfl rfl, fun U hU hWm => ⟨rfl, mR_of hM hK hAs hS.1 hU hWm⟩⟩ rfl rfl hl.1 rfl (lv_room (Nat.le_of_ble_eq_true rfl)) dX8_listGifts_101 ⟨Nat.le_of_ble_eq_true rfl, Nat.le_of_ble_eq_true rfl⟩) hS (fun _ _ h9 => h9) (fun _ h9 => h9) (fun u9 t9 H locs ht9 _ hw9 hB9 _ _ hS => ?_)
    obtain ⟨hM, -, -⟩ := hB9
    rw [ht9] at hM
    exact hb104 ro26 hro26 _ _ _ _ _ _ _ h _ _  hM hS ls (lv_sub hl [0, 1, 2, 3, 4, 5, 6] rfl)
  have hb26 : ∀ (n9 : Nat), ∀ (x1 : Int32) (x2 : Int32) (x3 : Int32) (x4 : Int32) (V : mM), lpX8_listGifts_26 n9 x1 x2 x3 x4 V = some res → ∀ (H : Heap) (locs : List Loc), mP (dC, dI) vwCl A ad (mce cI cZ ad) mex V H → va_S A s.heap H locs → ∀ (ls : Array Slot), lv_has ls 7 [(0, .ref (ad 0 0)), (1, .int x1), (2, .int x2), (3, .int x3), (4, .int x4)] → W p l e (headSpec wsX8_listGifts ({ frames := 1, cells := 0, slots := 0, locals := 25 } : Room)).room s m ([.ref (ad 0 0), .int px1, .int px2] : List Value).toArray below meth cd H locs 0 0 (MQ below (va_Qv (fun (_ : Unit) => True) (fun _ t9 => mR dC dI A ad cI cZ res t9) A) ([.ref (ad 0 0), .int px1, .int px2] : List Value).toArray s 0 0 A) (F0 m 26 ls []) := by
    intro  n9
    induction n9 with
    | zero =>
      intro x1 x2 x3 x4 V h H locs hM hS ls hl
      rw [lpX8_listGifts_26] at h
      cases h
    | succ n9 ih =>
      intro x1 x2 x3 x4 V h H locs hM hS ls hl
      rw [lpX8_listGifts_26] at h
      refine lv_iload hx hb dX8_listGifts_26 (lv_at hl 4 rfl) ?_
      refine lv_aload_n hx hb dX8_listGifts_28 rfl (lv_at hl 0 rfl) ?_
      refine mm_get (C := RX8) (T := TX8) (N := 48) (ci := 8) hx hb hts inX8 hown hK hM 0 0 me0 rfl rfl 30 (by decide) k88 (fun _ h9 => h9) rfl dX8_listGifts_29 ?_
      refine lv_iload_n hx hb dX8_listGifts_32 rfl (lv_at hl 2 rfl) ?_
      obtain ⟨b_16, h⟩ := iteS h
      refine mm_iald hx hb hK hM 31 0 (me (by decide)) 0 rfl rfl (bin_in b_16) dX8_listGifts_33 ?_
      refine lv_icmp_ge (tgt := 186) hx hb dX8_listGifts_34 (by decide) (fun c_17 => ?_) (fun c_17 => ?_)
      · have h := iteT c_17 h
        refine lv_aload_n hx hb dX8_listGifts_186 rfl (lv_at hl 0 rfl) ?_
        refine mm_get (C := RX8) (T := TX8) (N := 48) (ci := 8) hx hb hts inX8 hown hK hM 0 0 me0 rfl rfl 8 (by decide) k21 (fun _ h9 => h9) rfl dX8_listGifts_187 ?_
        refine lv_iload_n hx hb dX8_listGifts_190 rfl (lv_at hl 1 rfl) ?_
        obtain ⟨b_18, h⟩ := iteS h
        refine mm_iald hx hb hK hM 9 0 (me (by decide)) 0 rfl rfl (bin_in b_18) dX8_listGifts_191 ?_
        refine lv_iconst (v := 3) hx hb dX8_listGifts_192 (by decide) ?_
        refine lv_icmp_ne (tgt := 222) hx hb dX8_listGifts_193 (by decide) (fun c_19 => ?_) (fun c_19 => ?_)
        · have h := iteF c_19 h
          have e9 : V = res := Option.some.inj h
          subst e9
          exact W.vret hx hb hr (fun t9 ht9 hW9 => ⟨⟨(), rfl, trivial, mR_of hM hK hAs hS.1 ht9 hW9⟩, hS.F ht9⟩) hS.2.2 dX8_listGifts_222
        · have h := iteT c_19 h
          refine lv_aload_n hx hb dX8_listGifts_196 rfl (lv_at hl 0 rfl) ?_
          refine lv_iload_n hx hb dX8_listGifts_197 rfl (lv_at hl 2 rfl) ?_
          refine lv_iload_n hx hb dX8_listGifts_198 rfl (lv_at hl 3 rfl) ?_
          refine lv_aload_n hx hb dX8_listGifts_199 rfl (lv_at hl 0 rfl) ?_
          refine mm_get (C := RX8) (T := TX8) (N := 48) (ci := 8) hx hb hts inX8 hown hK hM 0 0 me0 rfl rfl 3 (by decide) k14 (fun _ h9 => h9) rfl dX8_listGifts_200 ?_
          refine lv_aload_n hx hb dX8_listGifts_203 rfl (lv_at hl 0 rfl) ?_
          refine mm_get (C := RX8) (T := TX8) (N := 48) (ci := 8) hx hb hts inX8 hown hK hM 0 0 me0 rfl rfl 31 (by decide) k91 (fun _ h9 => h9) rfl dX8_listGifts_204 ?_
          refine lv_bipush (v := 8) hx hb dX8_listGifts_207 (by decide) ?_
          refine lv_iload_n hx hb dX8_listGifts_209 rfl (lv_at hl 2 rfl) ?_
          refine lv_imul hx hb dX8_listGifts_210 ?_
          obtain ⟨b_20, h⟩ := iteS h
          refine mm_iald hx hb hK hM 32 0 (me (by decide)) 0 rfl rfl (bin_in b_20) dX8_listGifts_211 ?_
          obtain ⟨b_21, h⟩ := iteS h
          refine mm_iald hx hb hK hM 4 0 (me (by decide)) 0 rfl rfl (bin_in b_21) dX8_listGifts_212 ?_
          refine lv_aload_n hx hb dX8_listGifts_213 rfl (lv_at hl 0 rfl) ?_
          refine mm_get (C := RX8) (T := TX8) (N := 48) (ci := 8) hx hb hts inX8 hown hK hM 0 0 me0 rfl rfl 9 (by decide) k24 (fun _ h9 => h9) rfl dX8_listGifts_214 ?_
          refine lv_iload_n hx hb dX8_listGifts_217 rfl (lv_at hl 1 rfl) ?_
          obtain ⟨b_22, h⟩ := iteS h
          refine mm_iald hx hb hK hM 10 0 (me (by decide)) 0 rfl rfl (bin_in b_22) dX8_listGifts_218 ?_
          obtain ⟨u_23, hu_23, h⟩ := bindS h
          refine va_callv (va_runV (As := [.int x2, .int x3, .int (V 4 0 ((V 32 0 (((8 : Int32) * x2)).toNatClampNeg)).toNatClampNeg), .int (V 10 0 (x1).toNatClampNeg)]) (rest := []) ⟨hx, hb, hml, hown, hts⟩ (kX8_gift l x2 x3 (V 4 0 ((V 32 0 (((8 : Int32) * x2)).toNatClampNeg)).toNatClampNeg) (V 10 0 (x1).toNatClampNeg) V hu_23) (cwV 4 hts gX8_listGifts_X8_gift rfl rfl rfl (by decide +kernel) ⟨Nat.le_of_ble_eq_true rfl, Nat.le_of_ble_eq_true rfl⟩) ⟨fun a U g9 mk w9 => ⟨w9.1, mR_calling w9.2⟩, mP_recv (q := (RX8, TX8, 48)) hK hM me0 rfl rfl, fun U hU hWm => ⟨rfl, mR_of hM hK hAs hS.1 hU hWm⟩⟩ rfl rfl hl.1 rfl (lv_room (Nat.le_of_ble_eq_true rfl)) dX8_listGifts_219 ⟨Nat.le_of_ble_eq_true rfl, Nat.le_of_ble_eq_true rfl⟩) hS (fun _ _ h9 => h9) (fun _ h9 => h9) (fun u9 t9 H locs ht9 _ hw9 hB9 _ _ hS => ?_)
          obtain ⟨hM, -, -⟩ := hB9
          rw [ht9] at hM
          have e9 : u_23 = res := Option.some.inj h
          subst e9
          exact W.vret hx hb hr (fun t9 ht9 hW9 => ⟨⟨(), rfl, trivial, mR_of hM hK hAs hS.1 ht9 hW9⟩, hS.F ht9⟩) hS.2.2 dX8_listGifts_222
      · have h := iteF c_17 h
        refine lv_aload_n hx hb dX8_listGifts_37 rfl (lv_at hl 0 rfl) ?_
        refine mm_get (C := RX8) (T := TX8) (N := 48) (ci := 8) hx hb hts inX8 hown hK hM 0 0 me0 rfl rfl 31 (by decide) k91 (fun _ h9 => h9) rfl dX8_listGifts_38 ?_
        refine lv_bipush (v := 8) hx hb dX8_listGifts_41 (by decide) ?_
        refine lv_iload_n hx hb dX8_listGifts_43 rfl (lv_at hl 2 rfl) ?_
        refine lv_imul hx hb dX8_listGifts_44 ?_
        refine lv_iload hx hb dX8_listGifts_45 (lv_at hl 4 rfl) ?_
        refine lv_iadd hx hb dX8_listGifts_47 ?_
        obtain ⟨b_24, h⟩ := iteS h
        refine mm_iald hx hb hK hM 32 0 (me (by decide)) 0 rfl rfl (bin_in b_24) dX8_listGifts_48 ?_
        refine lv_istore (lv' := [(5, .int (V 32 0 ((((8 : Int32) * x2) + x4)).toNatClampNeg)), (0, .ref (ad 0 0)), (1, .int x1), (2, .int x2), (3, .int x3), (4, .int x4)]) hx hb dX8_listGifts_49 hl (by decide) rfl (fun ls hl => ?_)
        refine lv_aload_n hx hb dX8_listGifts_51 rfl (lv_at hl 1 rfl) ?_
        refine mm_get (C := RX8) (T := TX8) (N := 48) (ci := 8) hx hb hts inX8 hown hK hM 0 0 me0 rfl rfl 2 (by decide) k8 (fun _ h9 => h9) rfl dX8_listGifts_52 ?_
        refine lv_iload hx hb dX8_listGifts_55 (lv_at hl 0 rfl) ?_
        obtain ⟨b_25, h⟩ := iteS h
        refine mm_iald hx hb hK hM 3 0 (me (by decide)) 0 rfl rfl (bin_in b_25) dX8_listGifts_57 ?_
        refine lv_istore (lv' := [(6, .int (V 3 0 ((V 32 0 ((((8 : Int32) * x2) + x4)).toNatClampNeg)).toNatClampNeg)), (5, .int (V 32 0 ((((8 : Int32) * x2) + x4)).toNatClampNeg)), (0, .ref (ad 0 0)), (1, .int x1), (2, .int x2), (3, .int x3), (4, .int x4)]) hx hb dX8_listGifts_58 hl (by decide) rfl (fun ls hl => ?_)
        refine lv_iload_n hx hb dX8_listGifts_60 rfl (lv_at hl 5 rfl) ?_
        refine lv_iload hx hb dX8_listGifts_61 (lv_at hl 0 rfl) ?_
        refine lv_iadd hx hb dX8_listGifts_63 ?_
        refine lv_istore_n (lv' := [(3, .int (x3 + (V 3 0 ((V 32 0 ((((8 : Int32) * x2) + x4)).toNatClampNeg)).toNatClampNeg))), (6, .int (V 3 0 ((V 32 0 ((((8 : Int32) * x2) + x4)).toNatClampNeg)).toNatClampNeg)), (5, .int (V 32 0 ((((8 : Int32) * x2) + x4)).toNatClampNeg)), (0, .ref (ad 0 0)), (1, .int x1), (2, .int x2), (4, .int x4)]) hx hb dX8_listGifts_64 rfl hl (by decide) rfl (fun ls hl => ?_)
        refine lv_aload_n hx hb dX8_listGifts_65 rfl (lv_at hl 3 rfl) ?_
        refine mm_get (C := RX8) (T := TX8) (N := 48) (ci := 8) hx hb hts inX8 hown hK hM 0 0 me0 rfl rfl 8 (by decide) k21 (fun _ h9 => h9) rfl dX8_listGifts_66 ?_
        refine lv_iload_n hx hb dX8_listGifts_69 rfl (lv_at hl 4 rfl) ?_
        obtain ⟨b_26, h⟩ := iteS h
        refine mm_iald hx hb hK hM 9 0 (me (by decide)) 0 rfl rfl (bin_in b_26) dX8_listGifts_70 ?_
        refine lv_if_eq (tgt := 84) hx hb dX8_listGifts_71 (by decide) (fun c_27 => ?_) (fun c_27 => ?_)
        · have h := iteT c_27 h
          exact hb84 (lpX8_listGifts_26 n9) ih _ _ _ _ _ _ _ h _ _  hM hS ls (lv_sub hl [3, 4, 5, 0, 6, 2, 1] rfl)
        · have h := iteF c_27 h
          refine lv_aload_n hx hb dX8_listGifts_74 rfl (lv_at hl 3 rfl) ?_
          refine mm_get (C := RX8) (T := TX8) (N := 48) (ci := 8) hx hb hts inX8 hown hK hM 0 0 me0 rfl rfl 8 (by decide) k21 (fun _ h9 => h9) rfl dX8_listGifts_75 ?_
          refine lv_iload_n hx hb dX8_listGifts_78 rfl (lv_at hl 4 rfl) ?_
          obtain ⟨b_28, h⟩ := iteS h
          refine mm_iald hx hb hK hM 9 0 (me (by decide)) 0 rfl rfl (bin_in b_28) dX8_listGifts_79 ?_
          refine lv_iconst (v := 1) hx hb dX8_listGifts_80 (by decide) ?_
          refine lv_icmp_ne (tgt := 104) hx hb dX8_listGifts_81 (by decide) (fun c_29 => ?_) (fun c_29 => ?_)
          · have h := iteF c_29 h
            exact hb104 (lpX8_listGifts_26 n9) ih _ _ _ _ _ _ _ h _ _  hM hS ls (lv_sub hl [3, 4, 5, 0, 6, 2, 1] rfl)
          · have h := iteT c_29 h
            exact hb84 (lpX8_listGifts_26 n9) ih _ _ _ _ _ _ _ h _ _  hM hS ls (lv_sub hl [3, 4, 5, 0, 6, 2, 1] rfl)
  have hl := lv_entry ([.ref (ad 0 0), .int px1, .int px2]) (n := 7) (Nat.le_of_ble_eq_true rfl)
  rw [lg_entry_eq]
  generalize (lg_sl ([.ref (ad 0 0), .int px1, .int px2]) ++ List.replicate (7 - (lg_sl ([.ref (ad 0 0), .int px1, .int px2])).length) Slot.unset).toArray = ls at hl ⊢
  have hl : lv_has ls 7 [(0, .ref (ad 0 0)), (1, .int px1), (2, .int px2)] := hl
  unfold fX8_listGifts at h
  refine lv_aload_n hx hb dX8_listGifts_0 rfl (lv_at hl 0 rfl) ?_
  refine mm_get (C := RX8) (T := TX8) (N := 48) (ci := 8) hx hb hts inX8 hown hK hM 0 0 me0 rfl rfl 33 (by decide) k97 (fun _ h9 => h9) rfl dX8_listGifts_1 ?_
  refine lv_iload_n hx hb dX8_listGifts_4 rfl (lv_at hl 2 rfl) ?_
  refine lv_iconst (v := 1) hx hb dX8_listGifts_5 (by decide) ?_
  obtain ⟨b_30, h⟩ := iteS h
  refine mm_zast (y := (1 : Int32)) hx hb hK hM hS 34 0 (me (by decide)) 1 rfl rfl (by decide) (bin_in b_30) rfl dX8_listGifts_6 (fun H locs hM hS => ?_)
  refine lv_aload_n hx hb dX8_listGifts_7 rfl (lv_at hl 0 rfl) ?_
  refine mm_get (C := RX8) (T := TX8) (N := 48) (ci := 8) hx hb hts inX8 hown hK hM 0 0 me0 rfl rfl 34 (by decide) k100 (fun _ h9 => h9) rfl dX8_listGifts_8 ?_
  refine lv_iload_n hx hb dX8_listGifts_11 rfl (lv_at hl 2 rfl) ?_
  refine lv_iconst (v := 0) hx hb dX8_listGifts_12 (by decide) ?_
  obtain ⟨b_31, h⟩ := iteS h
  refine mm_iast hx hb hK hM hS 35 0 (me (by decide)) 0 rfl rfl (bin_in b_31) rfl dX8_listGifts_13 (fun H locs hM hS => ?_)
  refine lv_aload_n hx hb dX8_listGifts_14 rfl (lv_at hl 0 rfl) ?_
  refine mm_get (C := RX8) (T := TX8) (N := 48) (ci := 8) hx hb hts inX8 hown hK hM 0 0 me0 rfl rfl 35 (by decide) k103 (fun _ h9 => h9) rfl dX8_listGifts_15 ?_
  refine lv_iload_n hx hb dX8_listGifts_18 rfl (lv_at hl 2 rfl) ?_
  refine lv_iconst (v := 0) hx hb dX8_listGifts_19 (by decide) ?_
  obtain ⟨b_32, h⟩ := iteS h
  refine mm_iast hx hb hK hM hS 36 0 (me (by decide)) 0 rfl rfl (bin_in b_32) rfl dX8_listGifts_20 (fun H locs hM hS => ?_)
  refine lv_iconst (v := 0) hx hb dX8_listGifts_21 (by decide) ?_
  refine lv_istore_n (lv' := [(3, .int (0 : Int32)), (0, .ref (ad 0 0)), (1, .int px1), (2, .int px2)]) hx hb dX8_listGifts_22 rfl hl (by decide) rfl (fun ls hl => ?_)
  refine lv_iconst (v := 0) hx hb dX8_listGifts_23 (by decide) ?_
  refine lv_istore (lv' := [(4, .int (0 : Int32)), (3, .int (0 : Int32)), (0, .ref (ad 0 0)), (1, .int px1), (2, .int px2)]) hx hb dX8_listGifts_24 hl (by decide) rfl (fun ls hl => ?_)
  exact hb26 fu _ _ _ _ _ h _ _  hM hS ls (lv_sub hl [2, 3, 4, 1, 0] rfl)
/-! X8_finish -/
def jnX8_finish_144  (ro27 : Int32 → Int32 → Int32 → mM → Option (mM)) (x1 : Int32) (x2 : Int32) (x3 : Int32) (x4 : Int32) (V : mM) : Option (mM) := if bin x1 8 = true then (if bin x4 124000 = true then (if bin (((20 : Int32) * x1) + (V 28 0 (x1).toNatClampNeg)) 160 = true then (if bin x1 8 = true then (if bin x1 8 = true then (ro27 x1 x2 (x3 + 1) (mu (mu V 29 0 ((((20 : Int32) * x1) + (V 28 0 (x1).toNatClampNeg))).toNatClampNeg ((V 0 0 0) - (V 4 0 (x4).toNatClampNeg))) 28 0 (x1).toNatClampNeg (((mu V 29 0 ((((20 : Int32) * x1) + (V 28 0 (x1).toNatClampNeg))).toNatClampNeg ((V 0 0 0) - (V 4 0 (x4).toNatClampNeg))) 28 0 (x1).toNatClampNeg) + (1 : Int32)))) else none) else none) else none) else none) else none
def lpX8_finish_95  (ro27 : Int32 → Int32 → Int32 → mM → Option (mM)) : Nat → Int32 → Int32 → Int32 → Int32 → Int32 → mM → Option (mM)
  | 0, _, _, _, _, _, _ => none
  | n9 + 1, x1, x2, x3, x4, x5, V => if (20 : Int32) ≤ x5 then (if bin x1 8 = true then (if bin x1 8 = true then (jnX8_finish_144 ro27 x1 x2 x3 x4 (mu V 28 0 (x1).toNatClampNeg ((V 28 0 (x1).toNatClampNeg) - (1 : Int32)))) else none) else none) else (if bin (((20 : Int32) * x1) + x5) 160 = true then (if bin ((((20 : Int32) * x1) + x5) - (1 : Int32)) 160 = true then (lpX8_finish_95 ro27 n9 x1 x2 x3 x4 (x5 + 1) (mu V 29 0 (((((20 : Int32) * x1) + x5) - (1 : Int32))).toNatClampNeg (V 29 0 ((((20 : Int32) * x1) + x5)).toNatClampNeg))) else none) else none)
def lpX8_finish_27   : Nat → Int32 → Int32 → Int32 → mM → Option (mM)
  | 0, _, _, _, _ => none
  | n9 + 1, x1, x2, x3, V => if bin x2 32 = true then (if (V 31 0 (x2).toNatClampNeg) ≤ x3 then (if bin x2 32 = true then (if bin x2 32 = true then (some (mu (mu V 31 0 (x2).toNatClampNeg (0 : Int32)) 34 0 (x2).toNatClampNeg (0 : Int32))) else none) else none) else (if bin x1 8 = true then (if (V 9 0 (x1).toNatClampNeg) = (4 : Int32) then (if bin (((8 : Int32) * x2) + x3) 256 = true then (if bin (V 0 0 4) 103000 = true then (if bin x1 8 = true then (if ((mu (mu V 6 0 ((V 0 0 4)).toNatClampNeg (V 32 0 ((((8 : Int32) * x2) + x3)).toNatClampNeg)) 0 0 4 (((mu V 6 0 ((V 0 0 4)).toNatClampNeg (V 32 0 ((((8 : Int32) * x2) + x3)).toNatClampNeg)) 0 0 4) + (1 : Int32))) 28 0 (x1).toNatClampNeg) = (20 : Int32) then (lpX8_finish_95 (lpX8_finish_27 n9) fu x1 x2 x3 (V 32 0 ((((8 : Int32) * x2) + x3)).toNatClampNeg) (1 : Int32) (mu (mu V 6 0 ((V 0 0 4)).toNatClampNeg (V 32 0 ((((8 : Int32) * x2) + x3)).toNatClampNeg)) 0 0 4 (((mu V 6 0 ((V 0 0 4)).toNatClampNeg (V 32 0 ((((8 : Int32) * x2) + x3)).toNatClampNeg)) 0 0 4) + (1 : Int32)))) else (jnX8_finish_144 (lpX8_finish_27 n9) x1 x2 x3 (V 32 0 ((((8 : Int32) * x2) + x3)).toNatClampNeg) (mu (mu V 6 0 ((V 0 0 4)).toNatClampNeg (V 32 0 ((((8 : Int32) * x2) + x3)).toNatClampNeg)) 0 0 4 (((mu V 6 0 ((V 0 0 4)).toNatClampNeg (V 32 0 ((((8 : Int32) * x2) + x3)).toNatClampNeg)) 0 0 4) + (1 : Int32))))) else none) else none) else none) else (if bin x2 32 = true then (if bin x2 32 = true then (some (mu (mu V 31 0 (x2).toNatClampNeg (0 : Int32)) 34 0 (x2).toNatClampNeg (0 : Int32))) else none) else none)) else none)) else none
def fX8_finish  (px1 : Int32) (px2 : Int32) (V0 : mM) : Option (mM) := if bin px1 8 = true then (if bin px1 8 = true then (if bin px1 8 = true then (if bin px2 32 = true then (if bin px1 8 = true then (lpX8_finish_27 fu px1 px2 (0 : Int32) (mu (mu V0 24 0 (px1).toNatClampNeg ((V0 24 0 (px1).toNatClampNeg) + (1 : Int32))) 25 0 (px1).toNatClampNeg (((mu V0 24 0 (px1).toNatClampNeg ((V0 24 0 (px1).toNatClampNeg) + (1 : Int32))) 25 0 (px1).toNatClampNeg) + ((mu V0 24 0 (px1).toNatClampNeg ((V0 24 0 (px1).toNatClampNeg) + (1 : Int32))) 31 0 (px2).toNatClampNeg)))) else none) else none) else none) else none) else none
set_option maxHeartbeats 4000000 in
set_option maxRecDepth 100000 in
theorem kX8_finish (l : Launch) {dC : Nat → ClassId} {dI : Nat → Nat → Nat} {A : Nat → Prop} {ad : Nat → Nat → Nat} {cI cZ : ClassId}  (px1 : Int32) (px2 : Int32) (V0 : mM) {res : mM} (h : fX8_finish px1 px2 V0 = some res) : Met l yX8_finish wsX8_finish ({ frames := 0, cells := 0, slots := 0, locals := 0 } : Room) (va_Pc [.ref (ad 0 0), .int px1, .int px2] (fun U => mR dC dI A ad cI cZ V0 U)) (va_Qv (fun (_ : Unit) => True) (fun _ t9 => mR dC dI A ad cI cZ res t9) A) 0 0 A := by
  refine Met.ofW (cc := cX8_finish) (maxL := 6) (ret := none) (by decide) rfl ?_
  intro p e s m args below meth cd s₁ B hml hv
  obtain ⟨rfl, hM, hK, hAs⟩ := hv
  have hx := B.exec
  have hb := B.bytes
  have hr := B.returns
  have hts := atoms_spec (ws := wsX8_finish) B.pre
  have hown : s.vm.findClass RX8 = some m.cls := findClass_of_methodNamed B.named
  have hlocks := B.notSynchronized
  have hS : va_S A s.heap s.heap [] := va_S.rf
  have k82 := hts (.fieldLink RX8 82 "StageDeskModel" "times" "[I") (by decide +kernel)
  have k79 := hts (.fieldLink RX8 79 "StageDeskModel" "timeCount" "[I") (by decide +kernel)
  have k163 := hts (.fieldLink RX8 163 "StageDeskModel" "clock" "I") (by decide +kernel)
  have k14 := hts (.fieldLink RX8 14 "StageDeskModel" "births" "[I") (by decide +kernel)
  have k88 := hts (.fieldLink RX8 88 "StageDeskModel" "size" "[I") (by decide +kernel)
  have k97 := hts (.fieldLink RX8 97 "StageDeskModel" "offers" "[Z") (by decide +kernel)
  have k21 := hts (.fieldLink RX8 21 "StageDeskModel" "sorts" "[I") (by decide +kernel)
  have k91 := hts (.fieldLink RX8 91 "StageDeskModel" "batch" "[I") (by decide +kernel)
  have k18 := hts (.fieldLink RX8 18 "StageDeskModel" "done" "[I") (by decide +kernel)
  have k187 := hts (.fieldLink RX8 187 "StageDeskModel" "ended" "I") (by decide +kernel)
  have k67 := hts (.fieldLink RX8 67 "StageDeskModel" "handled" "[I") (by decide +kernel)
  have k70 := hts (.fieldLink RX8 70 "StageDeskModel" "stood" "[I") (by decide +kernel)
  have inX8 : ∀ w ∈ u_ws RX8 TX8 48, w ∈ wsX8_finish := by decide +kernel
  have hb144 : ∀ (ro27 : Int32 → Int32 → Int32 → mM → Option (mM)) (hro27 : ∀ (x1 : Int32) (x2 : Int32) (x3 : Int32) (V : mM), ro27 x1 x2 x3 V = some res → ∀ (H : Heap) (locs : List Loc), mP (dC, dI) vwCl A ad (mce cI cZ ad) mex V H → va_S A s.heap H locs → ∀ (ls : Array Slot), lv_has ls 6 [(0, .ref (ad 0 0)), (1, .int x1), (2, .int x2), (3, .int x3)] → W p l e (headSpec wsX8_finish ({ frames := 0, cells := 0, slots := 0, locals := 0 } : Room)).room s m ([.ref (ad 0 0), .int px1, .int px2] : List Value).toArray below meth cd H locs 0 0 (MQ below (va_Qv (fun (_ : Unit) => True) (fun _ t9 => mR dC dI A ad cI cZ res t9) A) ([.ref (ad 0 0), .int px1, .int px2] : List Value).toArray s 0 0 A) (F0 m 27 ls [])), ∀ (x1 : Int32) (x2 : Int32) (x3 : Int32) (x4 : Int32) (V : mM), jnX8_finish_144 ro27 x1 x2 x3 x4 V = some res → ∀ (H : Heap) (locs : List Loc), mP (dC, dI) vwCl A ad (mce cI cZ ad) mex V H → va_S A s.heap H locs → ∀ (ls : Array Slot), lv_has ls 6 [(0, .ref (ad 0 0)), (1, .int x1), (2, .int x2), (3, .int x3), (4, .int x4)] → W p l e (headSpec wsX8_finish ({ frames := 0, cells := 0, slots := 0, locals := 0 } : Room)).room s m ([.ref (ad 0 0), .int px1, .int px2] : List Value).toArray below meth cd H locs 0 0 (MQ below (va_Qv (fun (_ : Unit) => True) (fun _ t9 => mR dC dI A ad cI cZ res t9) A) ([.ref (ad 0 0), .int px1, .int px2] : List Value).toArray s 0 0 A) (F0 m 144 ls []) := by
    intro ro27 hro27 x1 x2 x3 x4 V h H locs hM hS ls hl
    unfold jnX8_finish_144 at h
    refine lv_aload_n hx hb dX8_finish_144 rfl (lv_at hl 0 rfl) ?_
    refine mm_get (C := RX8) (T := TX8) (N := 48) (ci := 8) hx hb hts inX8 hown hK hM 0 0 me0 rfl rfl 28 (by decide) k82 (fun _ h9 => h9) rfl dX8_finish_145 ?_
    refine lv_bipush (v := 20) hx hb dX8_finish_148 (by decide) ?_
    refine lv_iload_n hx hb dX8_finish_150 rfl (lv_at hl 1 rfl) ?_
    refine lv_imul hx hb dX8_finish_151 ?_
    refine lv_aload_n hx hb dX8_finish_152 rfl (lv_at hl 0 rfl) ?_
    refine mm_get (C := RX8) (T := TX8) (N := 48) (ci := 8) hx hb hts inX8 hown hK hM 0 0 me0 rfl rfl 27 (by decide) k79 (fun _ h9 => h9) rfl dX8_finish_153 ?_
    refine lv_iload_n hx hb dX8_finish_156 rfl (lv_at hl 1 rfl) ?_
    obtain ⟨b_1, h⟩ := iteS h
    refine mm_iald hx hb hK hM 28 0 (me (by decide)) 0 rfl rfl (bin_in b_1) dX8_finish_157 ?_
    refine lv_iadd hx hb dX8_finish_158 ?_
    refine lv_aload_n hx hb dX8_finish_159 rfl (lv_at hl 0 rfl) ?_
    refine mm_get (C := RX8) (T := TX8) (N := 48) (ci := 8) hx hb hts inX8 hown hK hM 0 0 me0 rfl rfl 0 (by decide) k163 (fun _ h9 => h9) rfl dX8_finish_160 ?_
    refine lv_aload_n hx hb dX8_finish_163 rfl (lv_at hl 0 rfl) ?_
    refine mm_get (C := RX8) (T := TX8) (N := 48) (ci := 8) hx hb hts inX8 hown hK hM 0 0 me0 rfl rfl 3 (by decide) k14 (fun _ h9 => h9) rfl dX8_finish_164 ?_
    refine lv_iload hx hb dX8_finish_167 (lv_at hl 4 rfl) ?_
    obtain ⟨b_2, h⟩ := iteS h
    refine mm_iald hx hb hK hM 4 0 (me (by decide)) 0 rfl rfl (bin_in b_2) dX8_finish_169 ?_
    refine lv_isub hx hb dX8_finish_170 ?_
    obtain ⟨b_3, h⟩ := iteS h
    refine mm_iast hx hb hK hM hS 29 0 (me (by decide)) 0 rfl rfl (bin_in b_3) rfl dX8_finish_171 (fun H locs hM hS => ?_)
    refine lv_aload_n hx hb dX8_finish_172 rfl (lv_at hl 0 rfl) ?_
    refine mm_get (C := RX8) (T := TX8) (N := 48) (ci := 8) hx hb hts inX8 hown hK hM 0 0 me0 rfl rfl 27 (by decide) k79 (fun _ h9 => h9) rfl dX8_finish_173 ?_
    refine lv_iload_n hx hb dX8_finish_176 rfl (lv_at hl 1 rfl) ?_
    refine lv_dup2_11 hx hb dX8_finish_177 rfl rfl ?_
    obtain ⟨b_4, h⟩ := iteS h
    refine mm_iald hx hb hK hM 28 0 (me (by decide)) 0 rfl rfl (bin_in b_4) dX8_finish_178 ?_
    refine lv_iconst (v := 1) hx hb dX8_finish_179 (by decide) ?_
    refine lv_iadd hx hb dX8_finish_180 ?_
    obtain ⟨b_5, h⟩ := iteS h
    refine mm_iast hx hb hK hM hS 28 0 (me (by decide)) 0 rfl rfl (bin_in b_5) rfl dX8_finish_181 (fun H locs hM hS => ?_)
    refine lv_iinc (v := (x3 + 1)) (lv' := [(3, .int (x3 + 1)), (0, .ref (ad 0 0)), (1, .int x1), (2, .int x2), (4, .int x4)]) hx hb dX8_finish_182 hl (k := 3) rfl rfl (by decide) rfl (fun ls hl => ?_)
    refine lv_goto (tgt := 27) hx hb dX8_finish_185 (by decide) ?_
    exact hro27 _ _ _ _ h _ _  hM hS ls (lv_sub hl [1, 2, 3, 0] rfl)
  have hb95 : ∀ (ro27 : Int32 → Int32 → Int32 → mM → Option (mM)) (hro27 : ∀ (x1 : Int32) (x2 : Int32) (x3 : Int32) (V : mM), ro27 x1 x2 x3 V = some res → ∀ (H : Heap) (locs : List Loc), mP (dC, dI) vwCl A ad (mce cI cZ ad) mex V H → va_S A s.heap H locs → ∀ (ls : Array Slot), lv_has ls 6 [(0, .ref (ad 0 0)), (1, .int x1), (2, .int x2), (3, .int x3)] → W p l e (headSpec wsX8_finish ({ frames := 0, cells := 0, slots := 0, locals := 0 } : Room)).room s m ([.ref (ad 0 0), .int px1, .int px2] : List Value).toArray below meth cd H locs 0 0 (MQ below (va_Qv (fun (_ : Unit) => True) (fun _ t9 => mR dC dI A ad cI cZ res t9) A) ([.ref (ad 0 0), .int px1, .int px2] : List Value).toArray s 0 0 A) (F0 m 27 ls [])) (n9 : Nat), ∀ (x1 : Int32) (x2 : Int32) (x3 : Int32) (x4 : Int32) (x5 : Int32) (V : mM), lpX8_finish_95 ro27 n9 x1 x2 x3 x4 x5 V = some res → ∀ (H : Heap) (locs : List Loc), mP (dC, dI) vwCl A ad (mce cI cZ ad) mex V H → va_S A s.heap H locs → ∀ (ls : Array Slot), lv_has ls 6 [(0, .ref (ad 0 0)), (1, .int x1), (2, .int x2), (3, .int x3), (4, .int x4), (5, .int x5)] → W p l e (headSpec wsX8_finish ({ frames := 0, cells := 0, slots := 0, locals := 0 } : Room)).room s m ([.ref (ad 0 0), .int px1, .int px2] : List Value).toArray below meth cd H locs 0 0 (MQ below (va_Qv (fun (_ : Unit) => True) (fun _ t9 => mR dC dI A ad cI cZ res t9) A) ([.ref (ad 0 0), .int px1, .int px2] : List Value).toArray s 0 0 A) (F0 m 95 ls []) := by
    intro ro27 hro27 n9
    induction n9 with
    | zero =>
      intro x1 x2 x3 x4 x5 V h H locs hM hS ls hl
      rw [lpX8_finish_95] at h
      cases h
    | succ n9 ih =>
      intro x1 x2 x3 x4 x5 V h H locs hM hS ls hl
      rw [lpX8_finish_95] at h
      refine lv_iload hx hb dX8_finish_95 (lv_at hl 5 rfl) ?_
      refine lv_bipush (v := 20) hx hb dX8_finish_97 (by decide) ?_
      refine lv_icmp_ge (tgt := 134) hx hb dX8_finish_99 (by decide) (fun c_6 => ?_) (fun c_6 => ?_)
      · have h := iteT c_6 h
        refine lv_aload_n hx hb dX8_finish_134 rfl (lv_at hl 0 rfl) ?_
        refine mm_get (C := RX8) (T := TX8) (N := 48) (ci := 8) hx hb hts inX8 hown hK hM 0 0 me0 rfl rfl 27 (by decide) k79 (fun _ h9 => h9) rfl dX8_finish_135 ?_
        refine lv_iload_n hx hb dX8_finish_138 rfl (lv_at hl 1 rfl) ?_
        refine lv_dup2_11 hx hb dX8_finish_139 rfl rfl ?_
        obtain ⟨b_7, h⟩ := iteS h
        refine mm_iald hx hb hK hM 28 0 (me (by decide)) 0 rfl rfl (bin_in b_7) dX8_finish_140 ?_
        refine lv_iconst (v := 1) hx hb dX8_finish_141 (by decide) ?_
        refine lv_isub hx hb dX8_finish_142 ?_
        obtain ⟨b_8, h⟩ := iteS h
        refine mm_iast hx hb hK hM hS 28 0 (me (by decide)) 0 rfl rfl (bin_in b_8) rfl dX8_finish_143 (fun H locs hM hS => ?_)
        exact hb144 ro27 hro27 _ _ _ _ _ h _ _  hM hS ls (lv_sub hl [0, 1, 2, 3, 4] rfl)
      · have h := iteF c_6 h
        refine lv_aload_n hx hb dX8_finish_102 rfl (lv_at hl 0 rfl) ?_
        refine mm_get (C := RX8) (T := TX8) (N := 48) (ci := 8) hx hb hts inX8 hown hK hM 0 0 me0 rfl rfl 28 (by decide) k82 (fun _ h9 => h9) rfl dX8_finish_103 ?_
        refine lv_bipush (v := 20) hx hb dX8_finish_106 (by decide) ?_
        refine lv_iload_n hx hb dX8_finish_108 rfl (lv_at hl 1 rfl) ?_
        refine lv_imul hx hb dX8_finish_109 ?_
        refine lv_iload hx hb dX8_finish_110 (lv_at hl 5 rfl) ?_
        refine lv_iadd hx hb dX8_finish_112 ?_
        refine lv_iconst (v := 1) hx hb dX8_finish_113 (by decide) ?_
        refine lv_isub hx hb dX8_finish_114 ?_
        refine lv_aload_n hx hb dX8_finish_115 rfl (lv_at hl 0 rfl) ?_
        refine mm_get (C := RX8) (T := TX8) (N := 48) (ci := 8) hx hb hts inX8 hown hK hM 0 0 me0 rfl rfl 28 (by decide) k82 (fun _ h9 => h9) rfl dX8_finish_116 ?_
        refine lv_bipush (v := 20) hx hb dX8_finish_119 (by decide) ?_
        refine lv_iload_n hx hb dX8_finish_121 rfl (lv_at hl 1 rfl) ?_
        refine lv_imul hx hb dX8_finish_122 ?_
        refine lv_iload hx hb dX8_finish_123 (lv_at hl 5 rfl) ?_
        refine lv_iadd hx hb dX8_finish_125 ?_
        obtain ⟨b_9, h⟩ := iteS h
        refine mm_iald hx hb hK hM 29 0 (me (by decide)) 0 rfl rfl (bin_in b_9) dX8_finish_126 ?_
        obtain ⟨b_10, h⟩ := iteS h
        refine mm_iast hx hb hK hM hS 29 0 (me (by decide)) 0 rfl rfl (bin_in b_10) rfl dX8_finish_127 (fun H locs hM hS => ?_)
        refine lv_iinc (v := (x5 + 1)) (lv' := [(5, .int (x5 + 1)), (0, .ref (ad 0 0)), (1, .int x1), (2, .int x2), (3, .int x3), (4, .int x4)]) hx hb dX8_finish_128 hl (k := 5) rfl rfl (by decide) rfl (fun ls hl => ?_)
        refine lv_goto (tgt := 95) hx hb dX8_finish_131 (by decide) ?_
        exact ih _ _ _ _ _ _ h _ _  hM hS ls (lv_sub hl [1, 2, 3, 4, 5, 0] rfl)
  have hb27 : ∀ (n9 : Nat), ∀ (x1 : Int32) (x2 : Int32) (x3 : Int32) (V : mM), lpX8_finish_27 n9 x1 x2 x3 V = some res → ∀ (H : Heap) (locs : List Loc), mP (dC, dI) vwCl A ad (mce cI cZ ad) mex V H → va_S A s.heap H locs → ∀ (ls : Array Slot), lv_has ls 6 [(0, .ref (ad 0 0)), (1, .int x1), (2, .int x2), (3, .int x3)] → W p l e (headSpec wsX8_finish ({ frames := 0, cells := 0, slots := 0, locals := 0 } : Room)).room s m ([.ref (ad 0 0), .int px1, .int px2] : List Value).toArray below meth cd H locs 0 0 (MQ below (va_Qv (fun (_ : Unit) => True) (fun _ t9 => mR dC dI A ad cI cZ res t9) A) ([.ref (ad 0 0), .int px1, .int px2] : List Value).toArray s 0 0 A) (F0 m 27 ls []) := by
    intro  n9
    induction n9 with
    | zero =>
      intro x1 x2 x3 V h H locs hM hS ls hl
      rw [lpX8_finish_27] at h
      cases h
    | succ n9 ih =>
      intro x1 x2 x3 V h H locs hM hS ls hl
      rw [lpX8_finish_27] at h
      refine lv_iload_n hx hb dX8_finish_27 rfl (lv_at hl 3 rfl) ?_
      refine lv_aload_n hx hb dX8_finish_28 rfl (lv_at hl 0 rfl) ?_
      refine mm_get (C := RX8) (T := TX8) (N := 48) (ci := 8) hx hb hts inX8 hown hK hM 0 0 me0 rfl rfl 30 (by decide) k88 (fun _ h9 => h9) rfl dX8_finish_29 ?_
      refine lv_iload_n hx hb dX8_finish_32 rfl (lv_at hl 2 rfl) ?_
      obtain ⟨b_11, h⟩ := iteS h
      refine mm_iald hx hb hK hM 31 0 (me (by decide)) 0 rfl rfl (bin_in b_11) dX8_finish_33 ?_
      refine lv_icmp_ge (tgt := 188) hx hb dX8_finish_34 (by decide) (fun c_12 => ?_) (fun c_12 => ?_)
      · have h := iteT c_12 h
        refine lv_aload_n hx hb dX8_finish_188 rfl (lv_at hl 0 rfl) ?_
        refine mm_get (C := RX8) (T := TX8) (N := 48) (ci := 8) hx hb hts inX8 hown hK hM 0 0 me0 rfl rfl 30 (by decide) k88 (fun _ h9 => h9) rfl dX8_finish_189 ?_
        refine lv_iload_n hx hb dX8_finish_192 rfl (lv_at hl 2 rfl) ?_
        refine lv_iconst (v := 0) hx hb dX8_finish_193 (by decide) ?_
        obtain ⟨b_13, h⟩ := iteS h
        refine mm_iast hx hb hK hM hS 31 0 (me (by decide)) 0 rfl rfl (bin_in b_13) rfl dX8_finish_194 (fun H locs hM hS => ?_)
        refine lv_aload_n hx hb dX8_finish_195 rfl (lv_at hl 0 rfl) ?_
        refine mm_get (C := RX8) (T := TX8) (N := 48) (ci := 8) hx hb hts inX8 hown hK hM 0 0 me0 rfl rfl 33 (by decide) k97 (fun _ h9 => h9) rfl dX8_finish_196 ?_
        refine lv_iload_n hx hb dX8_finish_199 rfl (lv_at hl 2 rfl) ?_
        refine lv_iconst (v := 0) hx hb dX8_finish_200 (by decide) ?_
        obtain ⟨b_14, h⟩ := iteS h
        refine mm_zast (y := (0 : Int32)) hx hb hK hM hS 34 0 (me (by decide)) 1 rfl rfl (by decide) (bin_in b_14) rfl dX8_finish_201 (fun H locs hM hS => ?_)
        have e9 : (mu (mu V 31 0 (x2).toNatClampNeg (0 : Int32)) 34 0 (x2).toNatClampNeg (0 : Int32)) = res := Option.some.inj h
        subst e9
        exact W.vret hx hb hr (fun t9 ht9 hW9 => ⟨⟨(), rfl, trivial, mR_of hM hK hAs hS.1 ht9 hW9⟩, hS.F ht9⟩) hS.2.2 dX8_finish_202
      · have h := iteF c_12 h
        refine lv_aload_n hx hb dX8_finish_37 rfl (lv_at hl 0 rfl) ?_
        refine mm_get (C := RX8) (T := TX8) (N := 48) (ci := 8) hx hb hts inX8 hown hK hM 0 0 me0 rfl rfl 8 (by decide) k21 (fun _ h9 => h9) rfl dX8_finish_38 ?_
        refine lv_iload_n hx hb dX8_finish_41 rfl (lv_at hl 1 rfl) ?_
        obtain ⟨b_15, h⟩ := iteS h
        refine mm_iald hx hb hK hM 9 0 (me (by decide)) 0 rfl rfl (bin_in b_15) dX8_finish_42 ?_
        refine lv_iconst (v := 4) hx hb dX8_finish_43 (by decide) ?_
        refine lv_icmp_ne (tgt := 188) hx hb dX8_finish_44 (by decide) (fun c_16 => ?_) (fun c_16 => ?_)
        · have h := iteF c_16 h
          refine lv_aload_n hx hb dX8_finish_188 rfl (lv_at hl 0 rfl) ?_
          refine mm_get (C := RX8) (T := TX8) (N := 48) (ci := 8) hx hb hts inX8 hown hK hM 0 0 me0 rfl rfl 30 (by decide) k88 (fun _ h9 => h9) rfl dX8_finish_189 ?_
          refine lv_iload_n hx hb dX8_finish_192 rfl (lv_at hl 2 rfl) ?_
          refine lv_iconst (v := 0) hx hb dX8_finish_193 (by decide) ?_
          obtain ⟨b_17, h⟩ := iteS h
          refine mm_iast hx hb hK hM hS 31 0 (me (by decide)) 0 rfl rfl (bin_in b_17) rfl dX8_finish_194 (fun H locs hM hS => ?_)
          refine lv_aload_n hx hb dX8_finish_195 rfl (lv_at hl 0 rfl) ?_
          refine mm_get (C := RX8) (T := TX8) (N := 48) (ci := 8) hx hb hts inX8 hown hK hM 0 0 me0 rfl rfl 33 (by decide) k97 (fun _ h9 => h9) rfl dX8_finish_196 ?_
          refine lv_iload_n hx hb dX8_finish_199 rfl (lv_at hl 2 rfl) ?_
          refine lv_iconst (v := 0) hx hb dX8_finish_200 (by decide) ?_
          obtain ⟨b_18, h⟩ := iteS h
          refine mm_zast (y := (0 : Int32)) hx hb hK hM hS 34 0 (me (by decide)) 1 rfl rfl (by decide) (bin_in b_18) rfl dX8_finish_201 (fun H locs hM hS => ?_)
          have e9 : (mu (mu V 31 0 (x2).toNatClampNeg (0 : Int32)) 34 0 (x2).toNatClampNeg (0 : Int32)) = res := Option.some.inj h
          subst e9
          exact W.vret hx hb hr (fun t9 ht9 hW9 => ⟨⟨(), rfl, trivial, mR_of hM hK hAs hS.1 ht9 hW9⟩, hS.F ht9⟩) hS.2.2 dX8_finish_202
        · have h := iteT c_16 h
          refine lv_aload_n hx hb dX8_finish_47 rfl (lv_at hl 0 rfl) ?_
          refine mm_get (C := RX8) (T := TX8) (N := 48) (ci := 8) hx hb hts inX8 hown hK hM 0 0 me0 rfl rfl 31 (by decide) k91 (fun _ h9 => h9) rfl dX8_finish_48 ?_
          refine lv_bipush (v := 8) hx hb dX8_finish_51 (by decide) ?_
          refine lv_iload_n hx hb dX8_finish_53 rfl (lv_at hl 2 rfl) ?_
          refine lv_imul hx hb dX8_finish_54 ?_
          refine lv_iload_n hx hb dX8_finish_55 rfl (lv_at hl 3 rfl) ?_
          refine lv_iadd hx hb dX8_finish_56 ?_
          obtain ⟨b_19, h⟩ := iteS h
          refine mm_iald hx hb hK hM 32 0 (me (by decide)) 0 rfl rfl (bin_in b_19) dX8_finish_57 ?_
          refine lv_istore (lv' := [(4, .int (V 32 0 ((((8 : Int32) * x2) + x3)).toNatClampNeg)), (0, .ref (ad 0 0)), (1, .int x1), (2, .int x2), (3, .int x3)]) hx hb dX8_finish_58 hl (by decide) rfl (fun ls hl => ?_)
          refine lv_aload_n hx hb dX8_finish_60 rfl (lv_at hl 1 rfl) ?_
          refine mm_get (C := RX8) (T := TX8) (N := 48) (ci := 8) hx hb hts inX8 hown hK hM 0 0 me0 rfl rfl 5 (by decide) k18 (fun _ h9 => h9) rfl dX8_finish_61 ?_
          refine lv_aload_n hx hb dX8_finish_64 rfl (lv_at hl 1 rfl) ?_
          refine mm_get (C := RX8) (T := TX8) (N := 48) (ci := 8) hx hb hts inX8 hown hK hM 0 0 me0 rfl rfl 4 (by decide) k187 (fun _ h9 => h9) rfl dX8_finish_65 ?_
          refine lv_iload hx hb dX8_finish_68 (lv_at hl 0 rfl) ?_
          obtain ⟨b_20, h⟩ := iteS h
          refine mm_iast hx hb hK hM hS 6 0 (me (by decide)) 0 rfl rfl (bin_in b_20) rfl dX8_finish_70 (fun H locs hM hS => ?_)
          refine lv_aload_n hx hb dX8_finish_71 rfl (lv_at hl 1 rfl) ?_
          refine lv_dup hx hb dX8_finish_72 rfl ?_
          refine mm_get (C := RX8) (T := TX8) (N := 48) (ci := 8) hx hb hts inX8 hown hK hM 0 0 me0 rfl rfl 4 (by decide) k187 (fun _ h9 => h9) rfl dX8_finish_73 ?_
          refine lv_iconst (v := 1) hx hb dX8_finish_76 (by decide) ?_
          refine lv_iadd hx hb dX8_finish_77 ?_
          refine mm_put (C := RX8) (T := TX8) (N := 48) (ci := 8) (ty := .int) hx hb hts inX8 tyX8 tyX8_ok nmX8 hown hK hM hS 0 0 me0 rfl rfl 4 (by decide) k187 (fun _ h9 => h9) rfl (by decide +kernel) rfl rfl (Nat.le_of_ble_eq_true rfl) (((mu V 6 0 ((V 0 0 4)).toNatClampNeg (V 32 0 ((((8 : Int32) * x2) + x3)).toNatClampNeg)) 0 0 4) + (1 : Int32)) rfl dX8_finish_78 (fun H locs hM hS => ?_)
          refine lv_aload_n hx hb dX8_finish_81 rfl (lv_at hl 1 rfl) ?_
          refine mm_get (C := RX8) (T := TX8) (N := 48) (ci := 8) hx hb hts inX8 hown hK hM 0 0 me0 rfl rfl 27 (by decide) k79 (fun _ h9 => h9) rfl dX8_finish_82 ?_
          refine lv_iload_n hx hb dX8_finish_85 rfl (lv_at hl 2 rfl) ?_
          obtain ⟨b_21, h⟩ := iteS h
          refine mm_iald hx hb hK hM 28 0 (me (by decide)) 0 rfl rfl (bin_in b_21) dX8_finish_86 ?_
          refine lv_bipush (v := 20) hx hb dX8_finish_87 (by decide) ?_
          refine lv_icmp_ne (tgt := 144) hx hb dX8_finish_89 (by decide) (fun c_22 => ?_) (fun c_22 => ?_)
          · have h := iteF c_22 h
            exact hb144 (lpX8_finish_27 n9) ih _ _ _ _ _ h _ _  hM hS ls (lv_sub hl [1, 2, 3, 4, 0] rfl)
          · have h := iteT c_22 h
            refine lv_iconst (v := 1) hx hb dX8_finish_92 (by decide) ?_
            refine lv_istore (lv' := [(5, .int (1 : Int32)), (4, .int (V 32 0 ((((8 : Int32) * x2) + x3)).toNatClampNeg)), (0, .ref (ad 0 0)), (1, .int x1), (2, .int x2), (3, .int x3)]) hx hb dX8_finish_93 hl (by decide) rfl (fun ls hl => ?_)
            exact hb95 (lpX8_finish_27 n9) ih fu _ _ _ _ _ _ h _ _  hM hS ls (lv_sub hl [2, 3, 4, 5, 1, 0] rfl)
  have hl := lv_entry ([.ref (ad 0 0), .int px1, .int px2]) (n := 6) (Nat.le_of_ble_eq_true rfl)
  rw [lg_entry_eq]
  generalize (lg_sl ([.ref (ad 0 0), .int px1, .int px2]) ++ List.replicate (6 - (lg_sl ([.ref (ad 0 0), .int px1, .int px2])).length) Slot.unset).toArray = ls at hl ⊢
  have hl : lv_has ls 6 [(0, .ref (ad 0 0)), (1, .int px1), (2, .int px2)] := hl
  unfold fX8_finish at h
  refine lv_aload_n hx hb dX8_finish_0 rfl (lv_at hl 0 rfl) ?_
  refine mm_get (C := RX8) (T := TX8) (N := 48) (ci := 8) hx hb hts inX8 hown hK hM 0 0 me0 rfl rfl 23 (by decide) k67 (fun _ h9 => h9) rfl dX8_finish_1 ?_
  refine lv_iload_n hx hb dX8_finish_4 rfl (lv_at hl 1 rfl) ?_
  refine lv_dup2_11 hx hb dX8_finish_5 rfl rfl ?_
  obtain ⟨b_23, h⟩ := iteS h
  refine mm_iald hx hb hK hM 24 0 (me (by decide)) 0 rfl rfl (bin_in b_23) dX8_finish_6 ?_
  refine lv_iconst (v := 1) hx hb dX8_finish_7 (by decide) ?_
  refine lv_iadd hx hb dX8_finish_8 ?_
  obtain ⟨b_24, h⟩ := iteS h
  refine mm_iast hx hb hK hM hS 24 0 (me (by decide)) 0 rfl rfl (bin_in b_24) rfl dX8_finish_9 (fun H locs hM hS => ?_)
  refine lv_aload_n hx hb dX8_finish_10 rfl (lv_at hl 0 rfl) ?_
  refine mm_get (C := RX8) (T := TX8) (N := 48) (ci := 8) hx hb hts inX8 hown hK hM 0 0 me0 rfl rfl 24 (by decide) k70 (fun _ h9 => h9) rfl dX8_finish_11 ?_
  refine lv_iload_n hx hb dX8_finish_14 rfl (lv_at hl 1 rfl) ?_
  refine lv_dup2_11 hx hb dX8_finish_15 rfl rfl ?_
  obtain ⟨b_25, h⟩ := iteS h
  refine mm_iald hx hb hK hM 25 0 (me (by decide)) 0 rfl rfl (bin_in b_25) dX8_finish_16 ?_
  refine lv_aload_n hx hb dX8_finish_17 rfl (lv_at hl 0 rfl) ?_
  refine mm_get (C := RX8) (T := TX8) (N := 48) (ci := 8) hx hb hts inX8 hown hK hM 0 0 me0 rfl rfl 30 (by decide) k88 (fun _ h9 => h9) rfl dX8_finish_18 ?_
  refine lv_iload_n hx hb dX8_finish_21 rfl (lv_at hl 2 rfl) ?_
  obtain ⟨b_26, h⟩ := iteS h
  refine mm_iald hx hb hK hM 31 0 (me (by decide)) 0 rfl rfl (bin_in b_26) dX8_finish_22 ?_
  refine lv_iadd hx hb dX8_finish_23 ?_
  obtain ⟨b_27, h⟩ := iteS h
  refine mm_iast hx hb hK hM hS 25 0 (me (by decide)) 0 rfl rfl (bin_in b_27) rfl dX8_finish_24 (fun H locs hM hS => ?_)
  refine lv_iconst (v := 0) hx hb dX8_finish_25 (by decide) ?_
  refine lv_istore_n (lv' := [(3, .int (0 : Int32)), (0, .ref (ad 0 0)), (1, .int px1), (2, .int px2)]) hx hb dX8_finish_26 rfl hl (by decide) rfl (fun ls hl => ?_)
  exact hb27 fu _ _ _ _ h _ _  hM hS ls (lv_sub hl [1, 2, 3, 0] rfl)
/-! X8_give -/
def jnX8_give_124   (x1 : Int32) (x2 : Int32) (V : mM) : Option (mM) := if bin x2 32 = true then (if bin x2 32 = true then (if (V 36 0 (x2).toNatClampNeg) = (V 35 0 (x2).toNatClampNeg) then ((fX8_finish x1 x2 V).bind fun u_4 => some u_4) else (some V)) else none) else none
def jnX8_give_119  (ro17 : Int32 → Int32 → Int32 → mM → Option (mM)) (x1 : Int32) (x2 : Int32) (x3 : Int32) (xs1 : Int32) (xs2 : Int32) (xs3 : Int32) (V : mM) : Option (mM) := if bin xs1 32 = true then (ro17 x1 x2 x3 (mu V 36 0 (xs1).toNatClampNeg (xs2 + xs3))) else none
def jnX8_give_84  (ro17 : Int32 → Int32 → Int32 → mM → Option (mM)) (x1 : Int32) (x2 : Int32) (x4 : Int32) (V : mM) : Option (mM) := if bin x4 512 = true then (if bin x4 512 = true then ((fX8_offer (V 39 0 (x4).toNatClampNeg) (V 40 0 (x4).toNatClampNeg) V).bind fun u_8 => if bin x2 32 = true then (if u_8.1 = 0 then (jnX8_give_119 ro17 x1 x2 u_8.1 x2 (u_8.2 36 0 (x2).toNatClampNeg) (0 : Int32) u_8.2) else (jnX8_give_119 ro17 x1 x2 u_8.1 x2 (u_8.2 36 0 (x2).toNatClampNeg) (1 : Int32) u_8.2)) else none) else none) else none
def lpX8_give_17   : Nat → Int32 → Int32 → Int32 → mM → Option (mM)
  | 0, _, _, _, _ => none
  | n9 + 1, x1, x2, x3, V => if x3 = 0 then (jnX8_give_124 x1 x2 V) else (if bin x2 32 = true then (if bin x2 32 = true then (if (V 35 0 (x2).toNatClampNeg) ≤ (V 36 0 (x2).toNatClampNeg) then (jnX8_give_124 x1 x2 V) else (if bin x2 32 = true then (if bin (((16 : Int32) * x2) + (V 36 0 (x2).toNatClampNeg)) 512 = true then (if 0 ≤ (V 40 0 ((((16 : Int32) * x2) + (V 36 0 (x2).toNatClampNeg))).toNatClampNeg) then (jnX8_give_84 (lpX8_give_17 n9) x1 x2 (((16 : Int32) * x2) + (V 36 0 (x2).toNatClampNeg)) V) else (if bin (((16 : Int32) * x2) + (V 36 0 (x2).toNatClampNeg)) 512 = true then (if bin (((16 : Int32) * x2) + (V 36 0 (x2).toNatClampNeg)) 512 = true then ((fX8_make (V 37 0 ((((16 : Int32) * x2) + (V 36 0 (x2).toNatClampNeg))).toNatClampNeg) (V 38 0 ((((16 : Int32) * x2) + (V 36 0 (x2).toNatClampNeg))).toNatClampNeg) V).bind fun u_20 => if bin (((16 : Int32) * x2) + (V 36 0 (x2).toNatClampNeg)) 512 = true then (jnX8_give_84 (lpX8_give_17 n9) x1 x2 (((16 : Int32) * x2) + (V 36 0 (x2).toNatClampNeg)) (mu u_20.2 40 0 ((((16 : Int32) * x2) + (V 36 0 (x2).toNatClampNeg))).toNatClampNeg u_20.1)) else none) else none) else none)) else none) else none)) else none) else none)
def jnX8_give_15   (x1 : Int32) (x2 : Int32) (V : mM) : Option (mM) := lpX8_give_17 fu x1 x2 (1 : Int32) V
def fX8_give  (px1 : Int32) (px2 : Int32) (V0 : mM) : Option (mM) := if bin px2 32 = true then (if (V0 34 0 (px2).toNatClampNeg) = 0 then ((fX8_listGifts px1 px2 V0).bind fun u_24 => jnX8_give_15 px1 px2 u_24) else (jnX8_give_15 px1 px2 V0)) else none
set_option maxHeartbeats 4000000 in
set_option maxRecDepth 100000 in
theorem kX8_give (l : Launch) {dC : Nat → ClassId} {dI : Nat → Nat → Nat} {A : Nat → Prop} {ad : Nat → Nat → Nat} {cI cZ : ClassId}  (px1 : Int32) (px2 : Int32) (V0 : mM) {res : mM} (h : fX8_give px1 px2 V0 = some res) : Met l yX8_give wsX8_give ({ frames := 2, cells := 0, slots := 0, locals := 51 } : Room) (va_Pc [.ref (ad 0 0), .int px1, .int px2] (fun U => mR dC dI A ad cI cZ V0 U)) (va_Qv (fun (_ : Unit) => True) (fun _ t9 => mR dC dI A ad cI cZ res t9) A) 0 0 A := by
  refine Met.ofW (cc := cX8_give) (maxL := 5) (ret := none) (by decide) rfl ?_
  intro p e s m args below meth cd s₁ B hml hv
  obtain ⟨rfl, hM, hK, hAs⟩ := hv
  have hx := B.exec
  have hb := B.bytes
  have hr := B.returns
  have hts := atoms_spec (ws := wsX8_give) B.pre
  have hown : s.vm.findClass RX8 = some m.cls := findClass_of_methodNamed B.named
  have hlocks := B.notSynchronized
  have hS : va_S A s.heap s.heap [] := va_S.rf
  have k103 := hts (.fieldLink RX8 103 "StageDeskModel" "given" "[I") (by decide +kernel)
  have k100 := hts (.fieldLink RX8 100 "StageDeskModel" "gifts" "[I") (by decide +kernel)
  have k112 := hts (.fieldLink RX8 112 "StageDeskModel" "giftTo" "[I") (by decide +kernel)
  have k115 := hts (.fieldLink RX8 115 "StageDeskModel" "giftEvent" "[I") (by decide +kernel)
  have k106 := hts (.fieldLink RX8 106 "StageDeskModel" "giftValue" "[I") (by decide +kernel)
  have k109 := hts (.fieldLink RX8 109 "StageDeskModel" "giftBirth" "[I") (by decide +kernel)
  have k97 := hts (.fieldLink RX8 97 "StageDeskModel" "offers" "[Z") (by decide +kernel)
  have inX8 : ∀ w ∈ u_ws RX8 TX8 48, w ∈ wsX8_give := by decide +kernel
  have hb124 : ∀ (x1 : Int32) (x2 : Int32) (V : mM), jnX8_give_124 x1 x2 V = some res → ∀ (H : Heap) (locs : List Loc), mP (dC, dI) vwCl A ad (mce cI cZ ad) mex V H → va_S A s.heap H locs → ∀ (ls : Array Slot), lv_has ls 5 [(0, .ref (ad 0 0)), (1, .int x1), (2, .int x2)] → W p l e (headSpec wsX8_give ({ frames := 2, cells := 0, slots := 0, locals := 51 } : Room)).room s m ([.ref (ad 0 0), .int px1, .int px2] : List Value).toArray below meth cd H locs 0 0 (MQ below (va_Qv (fun (_ : Unit) => True) (fun _ t9 => mR dC dI A ad cI cZ res t9) A) ([.ref (ad 0 0), .int px1, .int px2] : List Value).toArray s 0 0 A) (F0 m 124 ls []) := by
    intro  x1 x2 V h H locs hM hS ls hl
    unfold jnX8_give_124 at h
    refine lv_aload_n hx hb dX8_give_124 rfl (lv_at hl 0 rfl) ?_
    refine mm_get (C := RX8) (T := TX8) (N := 48) (ci := 8) hx hb hts inX8 hown hK hM 0 0 me0 rfl rfl 35 (by decide) k103 (fun _ h9 => h9) rfl dX8_give_125 ?_
    refine lv_iload_n hx hb dX8_give_128 rfl (lv_at hl 2 rfl) ?_
    obtain ⟨b_1, h⟩ := iteS h
    refine mm_iald hx hb hK hM 36 0 (me (by decide)) 0 rfl rfl (bin_in b_1) dX8_give_129 ?_
    refine lv_aload_n hx hb dX8_give_130 rfl (lv_at hl 0 rfl) ?_
    refine mm_get (C := RX8) (T := TX8) (N := 48) (ci := 8) hx hb hts inX8 hown hK hM 0 0 me0 rfl rfl 34 (by decide) k100 (fun _ h9 => h9) rfl dX8_give_131 ?_
    refine lv_iload_n hx hb dX8_give_134 rfl (lv_at hl 2 rfl) ?_
    obtain ⟨b_2, h⟩ := iteS h
    refine mm_iald hx hb hK hM 35 0 (me (by decide)) 0 rfl rfl (bin_in b_2) dX8_give_135 ?_
    refine lv_icmp_ne (tgt := 145) hx hb dX8_give_136 (by decide) (fun c_3 => ?_) (fun c_3 => ?_)
    · have h := iteF c_3 h
      have e9 : V = res := Option.some.inj h
      subst e9
      exact W.vret hx hb hr (fun t9 ht9 hW9 => ⟨⟨(), rfl, trivial, mR_of hM hK hAs hS.1 ht9 hW9⟩, hS.F ht9⟩) hS.2.2 dX8_give_145
    · have h := iteT c_3 h
      refine lv_aload_n hx hb dX8_give_139 rfl (lv_at hl 0 rfl) ?_
      refine lv_iload_n hx hb dX8_give_140 rfl (lv_at hl 1 rfl) ?_
      refine lv_iload_n hx hb dX8_give_141 rfl (lv_at hl 2 rfl) ?_
      obtain ⟨u_4, hu_4, h⟩ := bindS h
      refine va_callv (va_runV (As := [.int x1, .int x2]) (rest := []) ⟨hx, hb, hml, hown, hts⟩ (kX8_finish l x1 x2 V hu_4) (cwV 2 hts gX8_give_X8_finish rfl rfl rfl (by decide +kernel) ⟨Nat.le_of_ble_eq_true rfl, Nat.le_of_ble_eq_true rfl⟩) ⟨fun a U g9 mk w9 => ⟨w9.1, mR_calling w9.2⟩, mP_recv (q := (RX8, TX8, 48)) hK hM me0 rfl rfl, fun U hU hWm => ⟨rfl, mR_of hM hK hAs hS.1 hU hWm⟩⟩ rfl rfl hl.1 rfl (lv_room (Nat.le_of_ble_eq_true rfl)) dX8_give_142 ⟨Nat.le_of_ble_eq_true rfl, Nat.le_of_ble_eq_true rfl⟩) hS (fun _ _ h9 => h9) (fun _ h9 => h9) (fun u9 t9 H locs ht9 _ hw9 hB9 _ _ hS => ?_)
      obtain ⟨hM, -, -⟩ := hB9
      rw [ht9] at hM
      have e9 : u_4 = res := Option.some.inj h
      subst e9
      exact W.vret hx hb hr (fun t9 ht9 hW9 => ⟨⟨(), rfl, trivial, mR_of hM hK hAs hS.1 ht9 hW9⟩, hS.F ht9⟩) hS.2.2 dX8_give_145
  have hb119 : ∀ (ro17 : Int32 → Int32 → Int32 → mM → Option (mM)) (hro17 : ∀ (x1 : Int32) (x2 : Int32) (x3 : Int32) (V : mM), ro17 x1 x2 x3 V = some res → ∀ (H : Heap) (locs : List Loc), mP (dC, dI) vwCl A ad (mce cI cZ ad) mex V H → va_S A s.heap H locs → ∀ (ls : Array Slot), lv_has ls 5 [(0, .ref (ad 0 0)), (1, .int x1), (2, .int x2), (3, .int x3)] → W p l e (headSpec wsX8_give ({ frames := 2, cells := 0, slots := 0, locals := 51 } : Room)).room s m ([.ref (ad 0 0), .int px1, .int px2] : List Value).toArray below meth cd H locs 0 0 (MQ below (va_Qv (fun (_ : Unit) => True) (fun _ t9 => mR dC dI A ad cI cZ res t9) A) ([.ref (ad 0 0), .int px1, .int px2] : List Value).toArray s 0 0 A) (F0 m 17 ls [])), ∀ (x1 : Int32) (x2 : Int32) (x3 : Int32) (xs1 : Int32) (xs2 : Int32) (xs3 : Int32) (V : mM), jnX8_give_119 ro17 x1 x2 x3 xs1 xs2 xs3 V = some res → ∀ (H : Heap) (locs : List Loc), mP (dC, dI) vwCl A ad (mce cI cZ ad) mex V H → va_S A s.heap H locs → ∀ (ls : Array Slot), lv_has ls 5 [(0, .ref (ad 0 0)), (1, .int x1), (2, .int x2), (3, .int x3)] → W p l e (headSpec wsX8_give ({ frames := 2, cells := 0, slots := 0, locals := 51 } : Room)).room s m ([.ref (ad 0 0), .int px1, .int px2] : List Value).toArray below meth cd H locs 0 0 (MQ below (va_Qv (fun (_ : Unit) => True) (fun _ t9 => mR dC dI A ad cI cZ res t9) A) ([.ref (ad 0 0), .int px1, .int px2] : List Value).toArray s 0 0 A) (F0 m 119 ls [.int xs3, .int xs2, .int xs1, .ref (ad 36 0)]) := by
    intro ro17 hro17 x1 x2 x3 xs1 xs2 xs3 V h H locs hM hS ls hl
    unfold jnX8_give_119 at h
    refine lv_iadd hx hb dX8_give_119 ?_
    obtain ⟨b_5, h⟩ := iteS h
    refine mm_iast hx hb hK hM hS 36 0 (me (by decide)) 0 rfl rfl (bin_in b_5) rfl dX8_give_120 (fun H locs hM hS => ?_)
    refine lv_goto (tgt := 17) hx hb dX8_give_121 (by decide) ?_
    exact hro17 _ _ _ _ h _ _  hM hS ls (lv_sub hl [0, 1, 2, 3] rfl)
  have hb84 : ∀ (ro17 : Int32 → Int32 → Int32 → mM → Option (mM)) (hro17 : ∀ (x1 : Int32) (x2 : Int32) (x3 : Int32) (V : mM), ro17 x1 x2 x3 V = some res → ∀ (H : Heap) (locs : List Loc), mP (dC, dI) vwCl A ad (mce cI cZ ad) mex V H → va_S A s.heap H locs → ∀ (ls : Array Slot), lv_has ls 5 [(0, .ref (ad 0 0)), (1, .int x1), (2, .int x2), (3, .int x3)] → W p l e (headSpec wsX8_give ({ frames := 2, cells := 0, slots := 0, locals := 51 } : Room)).room s m ([.ref (ad 0 0), .int px1, .int px2] : List Value).toArray below meth cd H locs 0 0 (MQ below (va_Qv (fun (_ : Unit) => True) (fun _ t9 => mR dC dI A ad cI cZ res t9) A) ([.ref (ad 0 0), .int px1, .int px2] : List Value).toArray s 0 0 A) (F0 m 17 ls [])), ∀ (x1 : Int32) (x2 : Int32) (x4 : Int32) (V : mM), jnX8_give_84 ro17 x1 x2 x4 V = some res → ∀ (H : Heap) (locs : List Loc), mP (dC, dI) vwCl A ad (mce cI cZ ad) mex V H → va_S A s.heap H locs → ∀ (ls : Array Slot), lv_has ls 5 [(0, .ref (ad 0 0)), (1, .int x1), (2, .int x2), (4, .int x4)] → W p l e (headSpec wsX8_give ({ frames := 2, cells := 0, slots := 0, locals := 51 } : Room)).room s m ([.ref (ad 0 0), .int px1, .int px2] : List Value).toArray below meth cd H locs 0 0 (MQ below (va_Qv (fun (_ : Unit) => True) (fun _ t9 => mR dC dI A ad cI cZ res t9) A) ([.ref (ad 0 0), .int px1, .int px2] : List Value).toArray s 0 0 A) (F0 m 84 ls []) := by
    intro ro17 hro17 x1 x2 x4 V h H locs hM hS ls hl
    unfold jnX8_give_84 at h
    refine lv_aload_n hx hb dX8_give_84 rfl (lv_at hl 0 rfl) ?_
    refine lv_aload_n hx hb dX8_give_85 rfl (lv_at hl 0 rfl) ?_
    refine mm_get (C := RX8) (T := TX8) (N := 48) (ci := 8) hx hb hts inX8 hown hK hM 0 0 me0 rfl rfl 38 (by decide) k112 (fun _ h9 => h9) rfl dX8_give_86 ?_
    refine lv_iload hx hb dX8_give_89 (lv_at hl 3 rfl) ?_
    obtain ⟨b_6, h⟩ := iteS h
    refine mm_iald hx hb hK hM 39 0 (me (by decide)) 0 rfl rfl (bin_in b_6) dX8_give_91 ?_
    refine lv_aload_n hx hb dX8_give_92 rfl (lv_at hl 0 rfl) ?_
    refine mm_get (C := RX8) (T := TX8) (N := 48) (ci := 8) hx hb hts inX8 hown hK hM 0 0 me0 rfl rfl 39 (by decide) k115 (fun _ h9 => h9) rfl dX8_give_93 ?_
    refine lv_iload hx hb dX8_give_96 (lv_at hl 3 rfl) ?_
    obtain ⟨b_7, h⟩ := iteS h
    refine mm_iald hx hb hK hM 40 0 (me (by decide)) 0 rfl rfl (bin_in b_7) dX8_give_98 ?_
    obtain ⟨u_8, hu_8, h⟩ := bindS h
    refine va_calli (va_runV (As := [.int (V 39 0 (x4).toNatClampNeg), .int (V 40 0 (x4).toNatClampNeg)]) (rest := []) ⟨hx, hb, hml, hown, hts⟩ (kX8_offer l (V 39 0 (x4).toNatClampNeg) (V 40 0 (x4).toNatClampNeg) V hu_8) (cwV 2 hts gX8_give_X8_offer rfl rfl rfl (by decide +kernel) ⟨Nat.le_of_ble_eq_true rfl, Nat.le_of_ble_eq_true rfl⟩) ⟨fun a U g9 mk w9 => ⟨w9.1, mR_calling w9.2⟩, mP_recv (q := (RX8, TX8, 48)) hK hM me0 rfl rfl, fun U hU hWm => ⟨rfl, mR_of hM hK hAs hS.1 hU hWm⟩⟩ rfl rfl hl.1 rfl (lv_room (Nat.le_of_ble_eq_true rfl)) dX8_give_99 ⟨Nat.le_of_ble_eq_true rfl, Nat.le_of_ble_eq_true rfl⟩) hS (fun _ _ h9 => h9) (fun _ h9 => h9) (fun r9 u9 t9 H locs ht9 _ hw9 hB9 _ _ hS => ?_)
    rw [show r9 = u_8.1 from hw9]
    obtain ⟨hM, -, -⟩ := hB9
    rw [ht9] at hM
    refine lv_istore_n (lv' := [(3, .int u_8.1), (0, .ref (ad 0 0)), (1, .int x1), (2, .int x2), (4, .int x4)]) hx hb dX8_give_102 rfl hl (by decide) rfl (fun ls hl => ?_)
    refine lv_aload_n hx hb dX8_give_103 rfl (lv_at hl 1 rfl) ?_
    refine mm_get (C := RX8) (T := TX8) (N := 48) (ci := 8) hx hb hts inX8 hown hK hM 0 0 me0 rfl rfl 35 (by decide) k103 (fun _ h9 => h9) rfl dX8_give_104 ?_
    refine lv_iload_n hx hb dX8_give_107 rfl (lv_at hl 3 rfl) ?_
    refine lv_dup2_11 hx hb dX8_give_108 rfl rfl ?_
    obtain ⟨b_9, h⟩ := iteS h
    refine mm_iald hx hb hK hM 36 0 (me (by decide)) 0 rfl rfl (bin_in b_9) dX8_give_109 ?_
    refine lv_iload_n hx hb dX8_give_110 rfl (lv_at hl 0 rfl) ?_
    refine lv_if_eq (tgt := 118) hx hb dX8_give_111 (by decide) (fun c_10 => ?_) (fun c_10 => ?_)
    · have h := iteT c_10 h
      refine lv_iconst (v := 0) hx hb dX8_give_118 (by decide) ?_
      exact hb119 ro17 hro17 _ _ _ _ _ _ _ h _ _  hM hS ls (lv_sub hl [1, 2, 3, 0] rfl)
    · have h := iteF c_10 h
      refine lv_iconst (v := 1) hx hb dX8_give_114 (by decide) ?_
      refine lv_goto (tgt := 119) hx hb dX8_give_115 (by decide) ?_
      exact hb119 ro17 hro17 _ _ _ _ _ _ _ h _ _  hM hS ls (lv_sub hl [1, 2, 3, 0] rfl)
  have hb17 : ∀ (n9 : Nat), ∀ (x1 : Int32) (x2 : Int32) (x3 : Int32) (V : mM), lpX8_give_17 n9 x1 x2 x3 V = some res → ∀ (H : Heap) (locs : List Loc), mP (dC, dI) vwCl A ad (mce cI cZ ad) mex V H → va_S A s.heap H locs → ∀ (ls : Array Slot), lv_has ls 5 [(0, .ref (ad 0 0)), (1, .int x1), (2, .int x2), (3, .int x3)] → W p l e (headSpec wsX8_give ({ frames := 2, cells := 0, slots := 0, locals := 51 } : Room)).room s m ([.ref (ad 0 0), .int px1, .int px2] : List Value).toArray below meth cd H locs 0 0 (MQ below (va_Qv (fun (_ : Unit) => True) (fun _ t9 => mR dC dI A ad cI cZ res t9) A) ([.ref (ad 0 0), .int px1, .int px2] : List Value).toArray s 0 0 A) (F0 m 17 ls []) := by
    intro  n9
    induction n9 with
    | zero =>
      intro x1 x2 x3 V h H locs hM hS ls hl
      rw [lpX8_give_17] at h
      cases h
    | succ n9 ih =>
      intro x1 x2 x3 V h H locs hM hS ls hl
      rw [lpX8_give_17] at h
      refine lv_iload_n hx hb dX8_give_17 rfl (lv_at hl 3 rfl) ?_
      refine lv_if_eq (tgt := 124) hx hb dX8_give_18 (by decide) (fun c_11 => ?_) (fun c_11 => ?_)
      · have h := iteT c_11 h
        exact hb124 _ _ _ h _ _  hM hS ls (lv_sub hl [0, 1, 2] rfl)
      · have h := iteF c_11 h
        refine lv_aload_n hx hb dX8_give_21 rfl (lv_at hl 0 rfl) ?_
        refine mm_get (C := RX8) (T := TX8) (N := 48) (ci := 8) hx hb hts inX8 hown hK hM 0 0 me0 rfl rfl 35 (by decide) k103 (fun _ h9 => h9) rfl dX8_give_22 ?_
        refine lv_iload_n hx hb dX8_give_25 rfl (lv_at hl 2 rfl) ?_
        obtain ⟨b_12, h⟩ := iteS h
        refine mm_iald hx hb hK hM 36 0 (me (by decide)) 0 rfl rfl (bin_in b_12) dX8_give_26 ?_
        refine lv_aload_n hx hb dX8_give_27 rfl (lv_at hl 0 rfl) ?_
        refine mm_get (C := RX8) (T := TX8) (N := 48) (ci := 8) hx hb hts inX8 hown hK hM 0 0 me0 rfl rfl 34 (by decide) k100 (fun _ h9 => h9) rfl dX8_give_28 ?_
        refine lv_iload_n hx hb dX8_give_31 rfl (lv_at hl 2 rfl) ?_
        obtain ⟨b_13, h⟩ := iteS h
        refine mm_iald hx hb hK hM 35 0 (me (by decide)) 0 rfl rfl (bin_in b_13) dX8_give_32 ?_
        refine lv_icmp_ge (tgt := 124) hx hb dX8_give_33 (by decide) (fun c_14 => ?_) (fun c_14 => ?_)
        · have h := iteT c_14 h
          exact hb124 _ _ _ h _ _  hM hS ls (lv_sub hl [0, 1, 2] rfl)
        · have h := iteF c_14 h
          refine lv_bipush (v := 16) hx hb dX8_give_36 (by decide) ?_
          refine lv_iload_n hx hb dX8_give_38 rfl (lv_at hl 2 rfl) ?_
          refine lv_imul hx hb dX8_give_39 ?_
          refine lv_aload_n hx hb dX8_give_40 rfl (lv_at hl 0 rfl) ?_
          refine mm_get (C := RX8) (T := TX8) (N := 48) (ci := 8) hx hb hts inX8 hown hK hM 0 0 me0 rfl rfl 35 (by decide) k103 (fun _ h9 => h9) rfl dX8_give_41 ?_
          refine lv_iload_n hx hb dX8_give_44 rfl (lv_at hl 2 rfl) ?_
          obtain ⟨b_15, h⟩ := iteS h
          refine mm_iald hx hb hK hM 36 0 (me (by decide)) 0 rfl rfl (bin_in b_15) dX8_give_45 ?_
          refine lv_iadd hx hb dX8_give_46 ?_
          refine lv_istore (lv' := [(4, .int (((16 : Int32) * x2) + (V 36 0 (x2).toNatClampNeg))), (0, .ref (ad 0 0)), (1, .int x1), (2, .int x2), (3, .int x3)]) hx hb dX8_give_47 hl (by decide) rfl (fun ls hl => ?_)
          refine lv_aload_n hx hb dX8_give_49 rfl (lv_at hl 1 rfl) ?_
          refine mm_get (C := RX8) (T := TX8) (N := 48) (ci := 8) hx hb hts inX8 hown hK hM 0 0 me0 rfl rfl 39 (by decide) k115 (fun _ h9 => h9) rfl dX8_give_50 ?_
          refine lv_iload hx hb dX8_give_53 (lv_at hl 0 rfl) ?_
          obtain ⟨b_16, h⟩ := iteS h
          refine mm_iald hx hb hK hM 40 0 (me (by decide)) 0 rfl rfl (bin_in b_16) dX8_give_55 ?_
          refine lv_if_ge (tgt := 84) hx hb dX8_give_56 (by decide) (fun c_17 => ?_) (fun c_17 => ?_)
          · have h := iteT c_17 h
            exact hb84 (lpX8_give_17 n9) ih _ _ _ _ h _ _  hM hS ls (lv_sub hl [1, 2, 3, 0] rfl)
          · have h := iteF c_17 h
            refine lv_aload_n hx hb dX8_give_59 rfl (lv_at hl 1 rfl) ?_
            refine mm_get (C := RX8) (T := TX8) (N := 48) (ci := 8) hx hb hts inX8 hown hK hM 0 0 me0 rfl rfl 39 (by decide) k115 (fun _ h9 => h9) rfl dX8_give_60 ?_
            refine lv_iload hx hb dX8_give_63 (lv_at hl 0 rfl) ?_
            refine lv_aload_n hx hb dX8_give_65 rfl (lv_at hl 1 rfl) ?_
            refine lv_aload_n hx hb dX8_give_66 rfl (lv_at hl 1 rfl) ?_
            refine mm_get (C := RX8) (T := TX8) (N := 48) (ci := 8) hx hb hts inX8 hown hK hM 0 0 me0 rfl rfl 36 (by decide) k106 (fun _ h9 => h9) rfl dX8_give_67 ?_
            refine lv_iload hx hb dX8_give_70 (lv_at hl 0 rfl) ?_
            obtain ⟨b_18, h⟩ := iteS h
            refine mm_iald hx hb hK hM 37 0 (me (by decide)) 0 rfl rfl (bin_in b_18) dX8_give_72 ?_
            refine lv_aload_n hx hb dX8_give_73 rfl (lv_at hl 1 rfl) ?_
            refine mm_get (C := RX8) (T := TX8) (N := 48) (ci := 8) hx hb hts inX8 hown hK hM 0 0 me0 rfl rfl 37 (by decide) k109 (fun _ h9 => h9) rfl dX8_give_74 ?_
            refine lv_iload hx hb dX8_give_77 (lv_at hl 0 rfl) ?_
            obtain ⟨b_19, h⟩ := iteS h
            refine mm_iald hx hb hK hM 38 0 (me (by decide)) 0 rfl rfl (bin_in b_19) dX8_give_79 ?_
            obtain ⟨u_20, hu_20, h⟩ := bindS h
            refine va_calli (va_runV (As := [.int (V 37 0 ((((16 : Int32) * x2) + (V 36 0 (x2).toNatClampNeg))).toNatClampNeg), .int (V 38 0 ((((16 : Int32) * x2) + (V 36 0 (x2).toNatClampNeg))).toNatClampNeg)]) (rest := [.int (((16 : Int32) * x2) + (V 36 0 (x2).toNatClampNeg)), .ref (ad 40 0)]) ⟨hx, hb, hml, hown, hts⟩ (kX8_make l (V 37 0 ((((16 : Int32) * x2) + (V 36 0 (x2).toNatClampNeg))).toNatClampNeg) (V 38 0 ((((16 : Int32) * x2) + (V 36 0 (x2).toNatClampNeg))).toNatClampNeg) V hu_20) (cwV 2 hts gX8_give_X8_make rfl rfl rfl (by decide +kernel) ⟨Nat.le_of_ble_eq_true rfl, Nat.le_of_ble_eq_true rfl⟩) ⟨fun a U g9 mk w9 => ⟨w9.1, mR_calling w9.2⟩, mP_recv (q := (RX8, TX8, 48)) hK hM me0 rfl rfl, fun U hU hWm => ⟨rfl, mR_of hM hK hAs hS.1 hU hWm⟩⟩ rfl rfl hl.1 rfl (lv_room (Nat.le_of_ble_eq_true rfl)) dX8_give_80 ⟨Nat.le_of_ble_eq_true rfl, Nat.le_of_ble_eq_true rfl⟩) hS (fun _ _ h9 => h9) (fun _ h9 => h9) (fun r9 u9 t9 H locs ht9 _ hw9 hB9 _ _ hS => ?_)
            rw [show r9 = u_20.1 from hw9]
            obtain ⟨hM, -, -⟩ := hB9
            rw [ht9] at hM
            obtain ⟨b_21, h⟩ := iteS h
            refine mm_iast hx hb hK hM hS 40 0 (me (by decide)) 0 rfl rfl (bin_in b_21) rfl dX8_give_83 (fun H locs hM hS => ?_)
            exact hb84 (lpX8_give_17 n9) ih _ _ _ _ h _ _  hM hS ls (lv_sub hl [1, 2, 3, 0] rfl)
  have hb15 : ∀ (x1 : Int32) (x2 : Int32) (V : mM), jnX8_give_15 x1 x2 V = some res → ∀ (H : Heap) (locs : List Loc), mP (dC, dI) vwCl A ad (mce cI cZ ad) mex V H → va_S A s.heap H locs → ∀ (ls : Array Slot), lv_has ls 5 [(0, .ref (ad 0 0)), (1, .int x1), (2, .int x2)] → W p l e (headSpec wsX8_give ({ frames := 2, cells := 0, slots := 0, locals := 51 } : Room)).room s m ([.ref (ad 0 0), .int px1, .int px2] : List Value).toArray below meth cd H locs 0 0 (MQ below (va_Qv (fun (_ : Unit) => True) (fun _ t9 => mR dC dI A ad cI cZ res t9) A) ([.ref (ad 0 0), .int px1, .int px2] : List Value).toArray s 0 0 A) (F0 m 15 ls []) := by
    intro  x1 x2 V h H locs hM hS ls hl
    unfold jnX8_give_15 at h
    refine lv_iconst (v := 1) hx hb dX8_give_15 (by decide) ?_
    refine lv_istore_n (lv' := [(3, .int (1 : Int32)), (0, .ref (ad 0 0)), (1, .int x1), (2, .int x2)]) hx hb dX8_give_16 rfl hl (by decide) rfl (fun ls hl => ?_)
    exact hb17 fu _ _ _ _ h _ _  hM hS ls (lv_sub hl [1, 2, 3, 0] rfl)
  have hl := lv_entry ([.ref (ad 0 0), .int px1, .int px2]) (n := 5) (Nat.le_of_ble_eq_true rfl)
  rw [lg_entry_eq]
  generalize (lg_sl ([.ref (ad 0 0), .int px1, .int px2]) ++ List.replicate (5 - (lg_sl ([.ref (ad 0 0), .int px1, .int px2])).length) Slot.unset).toArray = ls at hl ⊢
  have hl : lv_has ls 5 [(0, .ref (ad 0 0)), (1, .int px1), (2, .int px2)] := hl
  unfold fX8_give at h
  refine lv_aload_n hx hb dX8_give_0 rfl (lv_at hl 0 rfl) ?_
  refine mm_get (C := RX8) (T := TX8) (N := 48) (ci := 8) hx hb hts inX8 hown hK hM 0 0 me0 rfl rfl 33 (by decide) k97 (fun _ h9 => h9) rfl dX8_give_1 ?_
  refine lv_iload_n hx hb dX8_give_4 rfl (lv_at hl 2 rfl) ?_
  obtain ⟨b_22, h⟩ := iteS h
  refine mm_zald hx hb hK hM 34 0 (me (by decide)) 1 rfl rfl (bin_in b_22) dX8_give_5 ?_
  refine lv_if_ne (tgt := 15) hx hb dX8_give_6 (by decide) (fun c_23 => ?_) (fun c_23 => ?_)
  · have h := iteF c_23 h
    exact hb15 _ _ _ h _ _  hM hS ls (lv_sub hl [0, 1, 2] rfl)
  · have h := iteT c_23 h
    refine lv_aload_n hx hb dX8_give_9 rfl (lv_at hl 0 rfl) ?_
    refine lv_iload_n hx hb dX8_give_10 rfl (lv_at hl 1 rfl) ?_
    refine lv_iload_n hx hb dX8_give_11 rfl (lv_at hl 2 rfl) ?_
    obtain ⟨u_24, hu_24, h⟩ := bindS h
    refine va_callv (va_runV (As := [.int px1, .int px2]) (rest := []) ⟨hx, hb, hml, hown, hts⟩ (kX8_listGifts l px1 px2 V0 hu_24) (cwV 2 hts gX8_give_X8_listGifts rfl rfl rfl (by decide +kernel) ⟨Nat.le_of_ble_eq_true rfl, Nat.le_of_ble_eq_true rfl⟩) ⟨fun a U g9 mk w9 => ⟨w9.1, mR_calling w9.2⟩, mP_recv (q := (RX8, TX8, 48)) hK hM me0 rfl rfl, fun U hU hWm => ⟨rfl, mR_of hM hK hAs hS.1 hU hWm⟩⟩ rfl rfl hl.1 rfl (lv_room (Nat.le_of_ble_eq_true rfl)) dX8_give_12 ⟨Nat.le_of_ble_eq_true rfl, Nat.le_of_ble_eq_true rfl⟩) hS (fun _ _ h9 => h9) (fun _ h9 => h9) (fun u9 t9 H locs ht9 _ hw9 hB9 _ _ hS => ?_)
    obtain ⟨hM, -, -⟩ := hB9
    rw [ht9] at hM
    exact hb15 _ _ _ h _ _  hM hS ls (lv_sub hl [0, 1, 2] rfl)
/-! X8_work -/
def jnX8_work_203   (x2 : Int32) (V : mM) : Option (mM) := if bin x2 32 = true then (if (V 31 0 (x2).toNatClampNeg) = 0 then (if bin x2 32 = true then (if bin x2 32 = true then (if bin x2 32 = true then (if bin x2 32 = true then (some (mu (mu V 41 0 (x2).toNatClampNeg ((V 41 0 (x2).toNatClampNeg) + (1 : Int32))) 42 0 (x2).toNatClampNeg (((mu V 41 0 (x2).toNatClampNeg ((V 41 0 (x2).toNatClampNeg) + (1 : Int32))) 42 0 (x2).toNatClampNeg) + (1 : Int32)))) else none) else none) else none) else none) else (if bin x2 32 = true then (if bin x2 32 = true then (if bin x2 32 = true then (some (mu (mu V 41 0 (x2).toNatClampNeg (0 : Int32)) 42 0 (x2).toNatClampNeg (((mu V 41 0 (x2).toNatClampNeg (0 : Int32)) 42 0 (x2).toNatClampNeg) + (1 : Int32)))) else none) else none) else none)) else none
def lpX8_work_139   : Nat → Int32 → Int32 → Int32 → Int32 → mM → Option (mM)
  | 0, _, _, _, _, _ => none
  | n9 + 1, x1, x2, x3, x4, V => if bin x1 8 = true then (if (V 26 0 (x1).toNatClampNeg) ≤ x4 then (if bin x2 32 = true then (if bin x1 8 = true then (if bin x2 32 = true then (jnX8_work_203 x2 (mu (mu V 31 0 (x2).toNatClampNeg x3) 33 0 (x2).toNatClampNeg (((mu V 31 0 (x2).toNatClampNeg x3) 21 0 (x1).toNatClampNeg) * x3))) else none) else none) else none) else (if bin ((((32 : Int32) * x1) + x4) + x3) 256 = true then (if bin (((32 : Int32) * x1) + x4) 256 = true then (lpX8_work_139 n9 x1 x2 x3 (x4 + 1) (mu V 27 0 ((((32 : Int32) * x1) + x4)).toNatClampNeg (V 27 0 (((((32 : Int32) * x1) + x4) + x3)).toNatClampNeg))) else none) else none)) else none
def lpX8_work_90   : Nat → Int32 → Int32 → Int32 → Int32 → mM → Option (mM)
  | 0, _, _, _, _, _ => none
  | n9 + 1, x1, x2, x3, x4, V => if x3 ≤ x4 then (if bin x1 8 = true then (if bin x1 8 = true then (lpX8_work_139 fu x1 x2 x3 (0 : Int32) (mu V 26 0 (x1).toNatClampNeg ((V 26 0 (x1).toNatClampNeg) - x3))) else none) else none) else (if bin (((32 : Int32) * x1) + x4) 256 = true then (if bin (((8 : Int32) * x2) + x4) 256 = true then (lpX8_work_90 n9 x1 x2 x3 (x4 + 1) (mu V 32 0 ((((8 : Int32) * x2) + x4)).toNatClampNeg (V 27 0 ((((32 : Int32) * x1) + x4)).toNatClampNeg))) else none) else none)
def jnX8_work_86   (x1 : Int32) (x2 : Int32) (xs0 : Int32) (V : mM) : Option (mM) := lpX8_work_90 fu x1 x2 xs0 (0 : Int32) V
def jnX8_work_47   (x1 : Int32) (x2 : Int32) (V : mM) : Option (mM) := if bin x2 32 = true then (if (V 31 0 (x2).toNatClampNeg) = 0 then (if bin x1 8 = true then (if bin x1 8 = true then (if (V 20 0 (x1).toNatClampNeg) ≤ (V 26 0 (x1).toNatClampNeg) then (if bin x1 8 = true then (jnX8_work_86 x1 x2 (V 20 0 (x1).toNatClampNeg) V) else none) else (if bin x1 8 = true then (jnX8_work_86 x1 x2 (V 26 0 (x1).toNatClampNeg) V) else none)) else none) else none) else (jnX8_work_203 x2 V)) else none
def jnX8_work_30   (x1 : Int32) (x2 : Int32) (xs1 : Int32) (xs2 : Int32) (xs3 : Int32) (V : mM) : Option (mM) := if bin xs1 32 = true then (if bin x2 32 = true then (if ((mu V 33 0 (xs1).toNatClampNeg (xs2 - xs3)) 33 0 (x2).toNatClampNeg) = 0 then ((fX8_give x1 x2 (mu V 33 0 (xs1).toNatClampNeg (xs2 - xs3))).bind fun u_32 => jnX8_work_47 x1 x2 u_32) else (jnX8_work_47 x1 x2 (mu V 33 0 (xs1).toNatClampNeg (xs2 - xs3)))) else none) else none
def fX8_work  (px1 : Int32) (px2 : Int32) (V0 : mM) : Option (mM) := if bin px2 32 = true then (if (V0 31 0 (px2).toNatClampNeg) ≤ 0 then (jnX8_work_47 px1 px2 V0) else (if bin px2 32 = true then (if bin px2 32 = true then (if (V0 33 0 (px2).toNatClampNeg) ≤ 0 then (jnX8_work_30 px1 px2 px2 (V0 33 0 (px2).toNatClampNeg) (0 : Int32) V0) else (jnX8_work_30 px1 px2 px2 (V0 33 0 (px2).toNatClampNeg) (1 : Int32) V0)) else none) else none)) else none
set_option maxHeartbeats 4000000 in
set_option maxRecDepth 100000 in
theorem kX8_work (l : Launch) {dC : Nat → ClassId} {dI : Nat → Nat → Nat} {A : Nat → Prop} {ad : Nat → Nat → Nat} {cI cZ : ClassId}  (px1 : Int32) (px2 : Int32) (V0 : mM) {res : mM} (h : fX8_work px1 px2 V0 = some res) : Met l yX8_work wsX8_work ({ frames := 3, cells := 0, slots := 0, locals := 75 } : Room) (va_Pc [.ref (ad 0 0), .int px1, .int px2] (fun U => mR dC dI A ad cI cZ V0 U)) (va_Qv (fun (_ : Unit) => True) (fun _ t9 => mR dC dI A ad cI cZ res t9) A) 0 0 A := by
  refine Met.ofW (cc := cX8_work) (maxL := 5) (ret := none) (by decide) rfl ?_
  intro p e s m args below meth cd s₁ B hml hv
  obtain ⟨rfl, hM, hK, hAs⟩ := hv
  have hx := B.exec
  have hb := B.bytes
  have hr := B.returns
  have hts := atoms_spec (ws := wsX8_work) B.pre
  have hown : s.vm.findClass RX8 = some m.cls := findClass_of_methodNamed B.named
  have hlocks := B.notSynchronized
  have hS : va_S A s.heap s.heap [] := va_S.rf
  have k118 := hts (.fieldLink RX8 118 "StageDeskModel" "idle" "[I") (by decide +kernel)
  have k88 := hts (.fieldLink RX8 88 "StageDeskModel" "size" "[I") (by decide +kernel)
  have k121 := hts (.fieldLink RX8 121 "StageDeskModel" "there" "[I") (by decide +kernel)
  have k73 := hts (.fieldLink RX8 73 "StageDeskModel" "waiting" "[I") (by decide +kernel)
  have k94 := hts (.fieldLink RX8 94 "StageDeskModel" "rest" "[I") (by decide +kernel)
  have k57 := hts (.fieldLink RX8 57 "StageDeskModel" "costs" "[I") (by decide +kernel)
  have k76 := hts (.fieldLink RX8 76 "StageDeskModel" "queue" "[I") (by decide +kernel)
  have k91 := hts (.fieldLink RX8 91 "StageDeskModel" "batch" "[I") (by decide +kernel)
  have k54 := hts (.fieldLink RX8 54 "StageDeskModel" "batches" "[I") (by decide +kernel)
  have inX8 : ∀ w ∈ u_ws RX8 TX8 48, w ∈ wsX8_work := by decide +kernel
  have hb203 : ∀ (x2 : Int32) (V : mM), jnX8_work_203 x2 V = some res → ∀ (H : Heap) (locs : List Loc), mP (dC, dI) vwCl A ad (mce cI cZ ad) mex V H → va_S A s.heap H locs → ∀ (ls : Array Slot), lv_has ls 5 [(0, .ref (ad 0 0)), (2, .int x2)] → W p l e (headSpec wsX8_work ({ frames := 3, cells := 0, slots := 0, locals := 75 } : Room)).room s m ([.ref (ad 0 0), .int px1, .int px2] : List Value).toArray below meth cd H locs 0 0 (MQ below (va_Qv (fun (_ : Unit) => True) (fun _ t9 => mR dC dI A ad cI cZ res t9) A) ([.ref (ad 0 0), .int px1, .int px2] : List Value).toArray s 0 0 A) (F0 m 203 ls []) := by
    intro  x2 V h H locs hM hS ls hl
    unfold jnX8_work_203 at h
    refine lv_aload_n hx hb dX8_work_203 rfl (lv_at hl 0 rfl) ?_
    refine mm_get (C := RX8) (T := TX8) (N := 48) (ci := 8) hx hb hts inX8 hown hK hM 0 0 me0 rfl rfl 40 (by decide) k118 (fun _ h9 => h9) rfl dX8_work_204 ?_
    refine lv_iload_n hx hb dX8_work_207 rfl (lv_at hl 1 rfl) ?_
    refine lv_aload_n hx hb dX8_work_208 rfl (lv_at hl 0 rfl) ?_
    refine mm_get (C := RX8) (T := TX8) (N := 48) (ci := 8) hx hb hts inX8 hown hK hM 0 0 me0 rfl rfl 30 (by decide) k88 (fun _ h9 => h9) rfl dX8_work_209 ?_
    refine lv_iload_n hx hb dX8_work_212 rfl (lv_at hl 1 rfl) ?_
    obtain ⟨b_1, h⟩ := iteS h
    refine mm_iald hx hb hK hM 31 0 (me (by decide)) 0 rfl rfl (bin_in b_1) dX8_work_213 ?_
    refine lv_if_ne (tgt := 228) hx hb dX8_work_214 (by decide) (fun c_2 => ?_) (fun c_2 => ?_)
    · have h := iteF c_2 h
      refine lv_iconst (v := 0) hx hb dX8_work_228 (by decide) ?_
      obtain ⟨b_3, h⟩ := iteS h
      refine mm_iast hx hb hK hM hS 41 0 (me (by decide)) 0 rfl rfl (bin_in b_3) rfl dX8_work_229 (fun H locs hM hS => ?_)
      refine lv_aload_n hx hb dX8_work_230 rfl (lv_at hl 0 rfl) ?_
      refine mm_get (C := RX8) (T := TX8) (N := 48) (ci := 8) hx hb hts inX8 hown hK hM 0 0 me0 rfl rfl 41 (by decide) k121 (fun _ h9 => h9) rfl dX8_work_231 ?_
      refine lv_iload_n hx hb dX8_work_234 rfl (lv_at hl 1 rfl) ?_
      refine lv_dup2_11 hx hb dX8_work_235 rfl rfl ?_
      obtain ⟨b_4, h⟩ := iteS h
      refine mm_iald hx hb hK hM 42 0 (me (by decide)) 0 rfl rfl (bin_in b_4) dX8_work_236 ?_
      refine lv_iconst (v := 1) hx hb dX8_work_237 (by decide) ?_
      refine lv_iadd hx hb dX8_work_238 ?_
      obtain ⟨b_5, h⟩ := iteS h
      refine mm_iast hx hb hK hM hS 42 0 (me (by decide)) 0 rfl rfl (bin_in b_5) rfl dX8_work_239 (fun H locs hM hS => ?_)
      have e9 : (mu (mu V 41 0 (x2).toNatClampNeg (0 : Int32)) 42 0 (x2).toNatClampNeg (((mu V 41 0 (x2).toNatClampNeg (0 : Int32)) 42 0 (x2).toNatClampNeg) + (1 : Int32))) = res := Option.some.inj h
      subst e9
      exact W.vret hx hb hr (fun t9 ht9 hW9 => ⟨⟨(), rfl, trivial, mR_of hM hK hAs hS.1 ht9 hW9⟩, hS.F ht9⟩) hS.2.2 dX8_work_240
    · have h := iteT c_2 h
      refine lv_aload_n hx hb dX8_work_217 rfl (lv_at hl 0 rfl) ?_
      refine mm_get (C := RX8) (T := TX8) (N := 48) (ci := 8) hx hb hts inX8 hown hK hM 0 0 me0 rfl rfl 40 (by decide) k118 (fun _ h9 => h9) rfl dX8_work_218 ?_
      refine lv_iload_n hx hb dX8_work_221 rfl (lv_at hl 1 rfl) ?_
      obtain ⟨b_6, h⟩ := iteS h
      refine mm_iald hx hb hK hM 41 0 (me (by decide)) 0 rfl rfl (bin_in b_6) dX8_work_222 ?_
      refine lv_iconst (v := 1) hx hb dX8_work_223 (by decide) ?_
      refine lv_iadd hx hb dX8_work_224 ?_
      refine lv_goto (tgt := 229) hx hb dX8_work_225 (by decide) ?_
      obtain ⟨b_7, h⟩ := iteS h
      refine mm_iast hx hb hK hM hS 41 0 (me (by decide)) 0 rfl rfl (bin_in b_7) rfl dX8_work_229 (fun H locs hM hS => ?_)
      refine lv_aload_n hx hb dX8_work_230 rfl (lv_at hl 0 rfl) ?_
      refine mm_get (C := RX8) (T := TX8) (N := 48) (ci := 8) hx hb hts inX8 hown hK hM 0 0 me0 rfl rfl 41 (by decide) k121 (fun _ h9 => h9) rfl dX8_work_231 ?_
      refine lv_iload_n hx hb dX8_work_234 rfl (lv_at hl 1 rfl) ?_
      refine lv_dup2_11 hx hb dX8_work_235 rfl rfl ?_
      obtain ⟨b_8, h⟩ := iteS h
      refine mm_iald hx hb hK hM 42 0 (me (by decide)) 0 rfl rfl (bin_in b_8) dX8_work_236 ?_
      refine lv_iconst (v := 1) hx hb dX8_work_237 (by decide) ?_
      refine lv_iadd hx hb dX8_work_238 ?_
      obtain ⟨b_9, h⟩ := iteS h
      refine mm_iast hx hb hK hM hS 42 0 (me (by decide)) 0 rfl rfl (bin_in b_9) rfl dX8_work_239 (fun H locs hM hS => ?_)
      have e9 : (mu (mu V 41 0 (x2).toNatClampNeg ((V 41 0 (x2).toNatClampNeg) + (1 : Int32))) 42 0 (x2).toNatClampNeg (((mu V 41 0 (x2).toNatClampNeg ((V 41 0 (x2).toNatClampNeg) + (1 : Int32))) 42 0 (x2).toNatClampNeg) + (1 : Int32))) = res := Option.some.inj h
      subst e9
      exact W.vret hx hb hr (fun t9 ht9 hW9 => ⟨⟨(), rfl, trivial, mR_of hM hK hAs hS.1 ht9 hW9⟩, hS.F ht9⟩) hS.2.2 dX8_work_240
  have hb139 : ∀ (n9 : Nat), ∀ (x1 : Int32) (x2 : Int32) (x3 : Int32) (x4 : Int32) (V : mM), lpX8_work_139 n9 x1 x2 x3 x4 V = some res → ∀ (H : Heap) (locs : List Loc), mP (dC, dI) vwCl A ad (mce cI cZ ad) mex V H → va_S A s.heap H locs → ∀ (ls : Array Slot), lv_has ls 5 [(0, .ref (ad 0 0)), (1, .int x1), (2, .int x2), (3, .int x3), (4, .int x4)] → W p l e (headSpec wsX8_work ({ frames := 3, cells := 0, slots := 0, locals := 75 } : Room)).room s m ([.ref (ad 0 0), .int px1, .int px2] : List Value).toArray below meth cd H locs 0 0 (MQ below (va_Qv (fun (_ : Unit) => True) (fun _ t9 => mR dC dI A ad cI cZ res t9) A) ([.ref (ad 0 0), .int px1, .int px2] : List Value).toArray s 0 0 A) (F0 m 139 ls []) := by
    intro  n9
    induction n9 with
    | zero =>
      intro x1 x2 x3 x4 V h H locs hM hS ls hl
      rw [lpX8_work_139] at h
      cases h
    | succ n9 ih =>
      intro x1 x2 x3 x4 V h H locs hM hS ls hl
      rw [lpX8_work_139] at h
      refine lv_iload hx hb dX8_work_139 (lv_at hl 4 rfl) ?_
      refine lv_aload_n hx hb dX8_work_141 rfl (lv_at hl 0 rfl) ?_
      refine mm_get (C := RX8) (T := TX8) (N := 48) (ci := 8) hx hb hts inX8 hown hK hM 0 0 me0 rfl rfl 25 (by decide) k73 (fun _ h9 => h9) rfl dX8_work_142 ?_
      refine lv_iload_n hx hb dX8_work_145 rfl (lv_at hl 1 rfl) ?_
      obtain ⟨b_10, h⟩ := iteS h
      refine mm_iald hx hb hK hM 26 0 (me (by decide)) 0 rfl rfl (bin_in b_10) dX8_work_146 ?_
      refine lv_icmp_ge (tgt := 182) hx hb dX8_work_147 (by decide) (fun c_11 => ?_) (fun c_11 => ?_)
      · have h := iteT c_11 h
        refine lv_aload_n hx hb dX8_work_182 rfl (lv_at hl 0 rfl) ?_
        refine mm_get (C := RX8) (T := TX8) (N := 48) (ci := 8) hx hb hts inX8 hown hK hM 0 0 me0 rfl rfl 30 (by decide) k88 (fun _ h9 => h9) rfl dX8_work_183 ?_
        refine lv_iload_n hx hb dX8_work_186 rfl (lv_at hl 2 rfl) ?_
        refine lv_iload_n hx hb dX8_work_187 rfl (lv_at hl 3 rfl) ?_
        obtain ⟨b_12, h⟩ := iteS h
        refine mm_iast hx hb hK hM hS 31 0 (me (by decide)) 0 rfl rfl (bin_in b_12) rfl dX8_work_188 (fun H locs hM hS => ?_)
        refine lv_aload_n hx hb dX8_work_189 rfl (lv_at hl 0 rfl) ?_
        refine mm_get (C := RX8) (T := TX8) (N := 48) (ci := 8) hx hb hts inX8 hown hK hM 0 0 me0 rfl rfl 32 (by decide) k94 (fun _ h9 => h9) rfl dX8_work_190 ?_
        refine lv_iload_n hx hb dX8_work_193 rfl (lv_at hl 2 rfl) ?_
        refine lv_aload_n hx hb dX8_work_194 rfl (lv_at hl 0 rfl) ?_
        refine mm_get (C := RX8) (T := TX8) (N := 48) (ci := 8) hx hb hts inX8 hown hK hM 0 0 me0 rfl rfl 20 (by decide) k57 (fun _ h9 => h9) rfl dX8_work_195 ?_
        refine lv_iload_n hx hb dX8_work_198 rfl (lv_at hl 1 rfl) ?_
        obtain ⟨b_13, h⟩ := iteS h
        refine mm_iald hx hb hK hM 21 0 (me (by decide)) 0 rfl rfl (bin_in b_13) dX8_work_199 ?_
        refine lv_iload_n hx hb dX8_work_200 rfl (lv_at hl 3 rfl) ?_
        refine lv_imul hx hb dX8_work_201 ?_
        obtain ⟨b_14, h⟩ := iteS h
        refine mm_iast hx hb hK hM hS 33 0 (me (by decide)) 0 rfl rfl (bin_in b_14) rfl dX8_work_202 (fun H locs hM hS => ?_)
        exact hb203 _ _ h _ _  hM hS ls (lv_sub hl [0, 2] rfl)
      · have h := iteF c_11 h
        refine lv_aload_n hx hb dX8_work_150 rfl (lv_at hl 0 rfl) ?_
        refine mm_get (C := RX8) (T := TX8) (N := 48) (ci := 8) hx hb hts inX8 hown hK hM 0 0 me0 rfl rfl 26 (by decide) k76 (fun _ h9 => h9) rfl dX8_work_151 ?_
        refine lv_bipush (v := 32) hx hb dX8_work_154 (by decide) ?_
        refine lv_iload_n hx hb dX8_work_156 rfl (lv_at hl 1 rfl) ?_
        refine lv_imul hx hb dX8_work_157 ?_
        refine lv_iload hx hb dX8_work_158 (lv_at hl 4 rfl) ?_
        refine lv_iadd hx hb dX8_work_160 ?_
        refine lv_aload_n hx hb dX8_work_161 rfl (lv_at hl 0 rfl) ?_
        refine mm_get (C := RX8) (T := TX8) (N := 48) (ci := 8) hx hb hts inX8 hown hK hM 0 0 me0 rfl rfl 26 (by decide) k76 (fun _ h9 => h9) rfl dX8_work_162 ?_
        refine lv_bipush (v := 32) hx hb dX8_work_165 (by decide) ?_
        refine lv_iload_n hx hb dX8_work_167 rfl (lv_at hl 1 rfl) ?_
        refine lv_imul hx hb dX8_work_168 ?_
        refine lv_iload hx hb dX8_work_169 (lv_at hl 4 rfl) ?_
        refine lv_iadd hx hb dX8_work_171 ?_
        refine lv_iload_n hx hb dX8_work_172 rfl (lv_at hl 3 rfl) ?_
        refine lv_iadd hx hb dX8_work_173 ?_
        obtain ⟨b_15, h⟩ := iteS h
        refine mm_iald hx hb hK hM 27 0 (me (by decide)) 0 rfl rfl (bin_in b_15) dX8_work_174 ?_
        obtain ⟨b_16, h⟩ := iteS h
        refine mm_iast hx hb hK hM hS 27 0 (me (by decide)) 0 rfl rfl (bin_in b_16) rfl dX8_work_175 (fun H locs hM hS => ?_)
        refine lv_iinc (v := (x4 + 1)) (lv' := [(4, .int (x4 + 1)), (0, .ref (ad 0 0)), (1, .int x1), (2, .int x2), (3, .int x3)]) hx hb dX8_work_176 hl (k := 4) rfl rfl (by decide) rfl (fun ls hl => ?_)
        refine lv_goto (tgt := 139) hx hb dX8_work_179 (by decide) ?_
        exact ih _ _ _ _ _ h _ _  hM hS ls (lv_sub hl [1, 2, 3, 4, 0] rfl)
  have hb90 : ∀ (n9 : Nat), ∀ (x1 : Int32) (x2 : Int32) (x3 : Int32) (x4 : Int32) (V : mM), lpX8_work_90 n9 x1 x2 x3 x4 V = some res → ∀ (H : Heap) (locs : List Loc), mP (dC, dI) vwCl A ad (mce cI cZ ad) mex V H → va_S A s.heap H locs → ∀ (ls : Array Slot), lv_has ls 5 [(0, .ref (ad 0 0)), (1, .int x1), (2, .int x2), (3, .int x3), (4, .int x4)] → W p l e (headSpec wsX8_work ({ frames := 3, cells := 0, slots := 0, locals := 75 } : Room)).room s m ([.ref (ad 0 0), .int px1, .int px2] : List Value).toArray below meth cd H locs 0 0 (MQ below (va_Qv (fun (_ : Unit) => True) (fun _ t9 => mR dC dI A ad cI cZ res t9) A) ([.ref (ad 0 0), .int px1, .int px2] : List Value).toArray s 0 0 A) (F0 m 90 ls []) := by
    intro  n9
    induction n9 with
    | zero =>
      intro x1 x2 x3 x4 V h H locs hM hS ls hl
      rw [lpX8_work_90] at h
      cases h
    | succ n9 ih =>
      intro x1 x2 x3 x4 V h H locs hM hS ls hl
      rw [lpX8_work_90] at h
      refine lv_iload hx hb dX8_work_90 (lv_at hl 4 rfl) ?_
      refine lv_iload_n hx hb dX8_work_92 rfl (lv_at hl 3 rfl) ?_
      refine lv_icmp_ge (tgt := 126) hx hb dX8_work_93 (by decide) (fun c_17 => ?_) (fun c_17 => ?_)
      · have h := iteT c_17 h
        refine lv_aload_n hx hb dX8_work_126 rfl (lv_at hl 0 rfl) ?_
        refine mm_get (C := RX8) (T := TX8) (N := 48) (ci := 8) hx hb hts inX8 hown hK hM 0 0 me0 rfl rfl 25 (by decide) k73 (fun _ h9 => h9) rfl dX8_work_127 ?_
        refine lv_iload_n hx hb dX8_work_130 rfl (lv_at hl 1 rfl) ?_
        refine lv_dup2_11 hx hb dX8_work_131 rfl rfl ?_
        obtain ⟨b_18, h⟩ := iteS h
        refine mm_iald hx hb hK hM 26 0 (me (by decide)) 0 rfl rfl (bin_in b_18) dX8_work_132 ?_
        refine lv_iload_n hx hb dX8_work_133 rfl (lv_at hl 3 rfl) ?_
        refine lv_isub hx hb dX8_work_134 ?_
        obtain ⟨b_19, h⟩ := iteS h
        refine mm_iast hx hb hK hM hS 26 0 (me (by decide)) 0 rfl rfl (bin_in b_19) rfl dX8_work_135 (fun H locs hM hS => ?_)
        refine lv_iconst (v := 0) hx hb dX8_work_136 (by decide) ?_
        refine lv_istore (lv' := [(4, .int (0 : Int32)), (0, .ref (ad 0 0)), (1, .int x1), (2, .int x2), (3, .int x3)]) hx hb dX8_work_137 hl (by decide) rfl (fun ls hl => ?_)
        exact hb139 fu _ _ _ _ _ h _ _  hM hS ls (lv_sub hl [1, 2, 3, 4, 0] rfl)
      · have h := iteF c_17 h
        refine lv_aload_n hx hb dX8_work_96 rfl (lv_at hl 0 rfl) ?_
        refine mm_get (C := RX8) (T := TX8) (N := 48) (ci := 8) hx hb hts inX8 hown hK hM 0 0 me0 rfl rfl 31 (by decide) k91 (fun _ h9 => h9) rfl dX8_work_97 ?_
        refine lv_bipush (v := 8) hx hb dX8_work_100 (by decide) ?_
        refine lv_iload_n hx hb dX8_work_102 rfl (lv_at hl 2 rfl) ?_
        refine lv_imul hx hb dX8_work_103 ?_
        refine lv_iload hx hb dX8_work_104 (lv_at hl 4 rfl) ?_
        refine lv_iadd hx hb dX8_work_106 ?_
        refine lv_aload_n hx hb dX8_work_107 rfl (lv_at hl 0 rfl) ?_
        refine mm_get (C := RX8) (T := TX8) (N := 48) (ci := 8) hx hb hts inX8 hown hK hM 0 0 me0 rfl rfl 26 (by decide) k76 (fun _ h9 => h9) rfl dX8_work_108 ?_
        refine lv_bipush (v := 32) hx hb dX8_work_111 (by decide) ?_
        refine lv_iload_n hx hb dX8_work_113 rfl (lv_at hl 1 rfl) ?_
        refine lv_imul hx hb dX8_work_114 ?_
        refine lv_iload hx hb dX8_work_115 (lv_at hl 4 rfl) ?_
        refine lv_iadd hx hb dX8_work_117 ?_
        obtain ⟨b_20, h⟩ := iteS h
        refine mm_iald hx hb hK hM 27 0 (me (by decide)) 0 rfl rfl (bin_in b_20) dX8_work_118 ?_
        obtain ⟨b_21, h⟩ := iteS h
        refine mm_iast hx hb hK hM hS 32 0 (me (by decide)) 0 rfl rfl (bin_in b_21) rfl dX8_work_119 (fun H locs hM hS => ?_)
        refine lv_iinc (v := (x4 + 1)) (lv' := [(4, .int (x4 + 1)), (0, .ref (ad 0 0)), (1, .int x1), (2, .int x2), (3, .int x3)]) hx hb dX8_work_120 hl (k := 4) rfl rfl (by decide) rfl (fun ls hl => ?_)
        refine lv_goto (tgt := 90) hx hb dX8_work_123 (by decide) ?_
        exact ih _ _ _ _ _ h _ _  hM hS ls (lv_sub hl [1, 2, 3, 4, 0] rfl)
  have hb86 : ∀ (x1 : Int32) (x2 : Int32) (xs0 : Int32) (V : mM), jnX8_work_86 x1 x2 xs0 V = some res → ∀ (H : Heap) (locs : List Loc), mP (dC, dI) vwCl A ad (mce cI cZ ad) mex V H → va_S A s.heap H locs → ∀ (ls : Array Slot), lv_has ls 5 [(0, .ref (ad 0 0)), (1, .int x1), (2, .int x2)] → W p l e (headSpec wsX8_work ({ frames := 3, cells := 0, slots := 0, locals := 75 } : Room)).room s m ([.ref (ad 0 0), .int px1, .int px2] : List Value).toArray below meth cd H locs 0 0 (MQ below (va_Qv (fun (_ : Unit) => True) (fun _ t9 => mR dC dI A ad cI cZ res t9) A) ([.ref (ad 0 0), .int px1, .int px2] : List Value).toArray s 0 0 A) (F0 m 86 ls [.int xs0]) := by
    intro  x1 x2 xs0 V h H locs hM hS ls hl
    unfold jnX8_work_86 at h
    refine lv_istore_n (lv' := [(3, .int xs0), (0, .ref (ad 0 0)), (1, .int x1), (2, .int x2)]) hx hb dX8_work_86 rfl hl (by decide) rfl (fun ls hl => ?_)
    refine lv_iconst (v := 0) hx hb dX8_work_87 (by decide) ?_
    refine lv_istore (lv' := [(4, .int (0 : Int32)), (3, .int xs0), (0, .ref (ad 0 0)), (1, .int x1), (2, .int x2)]) hx hb dX8_work_88 hl (by decide) rfl (fun ls hl => ?_)
    exact hb90 fu _ _ _ _ _ h _ _  hM hS ls (lv_sub hl [2, 3, 4, 1, 0] rfl)
  have hb47 : ∀ (x1 : Int32) (x2 : Int32) (V : mM), jnX8_work_47 x1 x2 V = some res → ∀ (H : Heap) (locs : List Loc), mP (dC, dI) vwCl A ad (mce cI cZ ad) mex V H → va_S A s.heap H locs → ∀ (ls : Array Slot), lv_has ls 5 [(0, .ref (ad 0 0)), (1, .int x1), (2, .int x2)] → W p l e (headSpec wsX8_work ({ frames := 3, cells := 0, slots := 0, locals := 75 } : Room)).room s m ([.ref (ad 0 0), .int px1, .int px2] : List Value).toArray below meth cd H locs 0 0 (MQ below (va_Qv (fun (_ : Unit) => True) (fun _ t9 => mR dC dI A ad cI cZ res t9) A) ([.ref (ad 0 0), .int px1, .int px2] : List Value).toArray s 0 0 A) (F0 m 47 ls []) := by
    intro  x1 x2 V h H locs hM hS ls hl
    unfold jnX8_work_47 at h
    refine lv_aload_n hx hb dX8_work_47 rfl (lv_at hl 0 rfl) ?_
    refine mm_get (C := RX8) (T := TX8) (N := 48) (ci := 8) hx hb hts inX8 hown hK hM 0 0 me0 rfl rfl 30 (by decide) k88 (fun _ h9 => h9) rfl dX8_work_48 ?_
    refine lv_iload_n hx hb dX8_work_51 rfl (lv_at hl 2 rfl) ?_
    obtain ⟨b_22, h⟩ := iteS h
    refine mm_iald hx hb hK hM 31 0 (me (by decide)) 0 rfl rfl (bin_in b_22) dX8_work_52 ?_
    refine lv_if_ne (tgt := 203) hx hb dX8_work_53 (by decide) (fun c_23 => ?_) (fun c_23 => ?_)
    · have h := iteF c_23 h
      exact hb203 _ _ h _ _  hM hS ls (lv_sub hl [0, 2] rfl)
    · have h := iteT c_23 h
      refine lv_aload_n hx hb dX8_work_56 rfl (lv_at hl 0 rfl) ?_
      refine mm_get (C := RX8) (T := TX8) (N := 48) (ci := 8) hx hb hts inX8 hown hK hM 0 0 me0 rfl rfl 25 (by decide) k73 (fun _ h9 => h9) rfl dX8_work_57 ?_
      refine lv_iload_n hx hb dX8_work_60 rfl (lv_at hl 1 rfl) ?_
      obtain ⟨b_24, h⟩ := iteS h
      refine mm_iald hx hb hK hM 26 0 (me (by decide)) 0 rfl rfl (bin_in b_24) dX8_work_61 ?_
      refine lv_aload_n hx hb dX8_work_62 rfl (lv_at hl 0 rfl) ?_
      refine mm_get (C := RX8) (T := TX8) (N := 48) (ci := 8) hx hb hts inX8 hown hK hM 0 0 me0 rfl rfl 19 (by decide) k54 (fun _ h9 => h9) rfl dX8_work_63 ?_
      refine lv_iload_n hx hb dX8_work_66 rfl (lv_at hl 1 rfl) ?_
      obtain ⟨b_25, h⟩ := iteS h
      refine mm_iald hx hb hK hM 20 0 (me (by decide)) 0 rfl rfl (bin_in b_25) dX8_work_67 ?_
      refine lv_icmp_ge (tgt := 80) hx hb dX8_work_68 (by decide) (fun c_26 => ?_) (fun c_26 => ?_)
      · have h := iteT c_26 h
        refine lv_aload_n hx hb dX8_work_80 rfl (lv_at hl 0 rfl) ?_
        refine mm_get (C := RX8) (T := TX8) (N := 48) (ci := 8) hx hb hts inX8 hown hK hM 0 0 me0 rfl rfl 19 (by decide) k54 (fun _ h9 => h9) rfl dX8_work_81 ?_
        refine lv_iload_n hx hb dX8_work_84 rfl (lv_at hl 1 rfl) ?_
        obtain ⟨b_27, h⟩ := iteS h
        refine mm_iald hx hb hK hM 20 0 (me (by decide)) 0 rfl rfl (bin_in b_27) dX8_work_85 ?_
        exact hb86 _ _ _ _ h _ _  hM hS ls (lv_sub hl [0, 1, 2] rfl)
      · have h := iteF c_26 h
        refine lv_aload_n hx hb dX8_work_71 rfl (lv_at hl 0 rfl) ?_
        refine mm_get (C := RX8) (T := TX8) (N := 48) (ci := 8) hx hb hts inX8 hown hK hM 0 0 me0 rfl rfl 25 (by decide) k73 (fun _ h9 => h9) rfl dX8_work_72 ?_
        refine lv_iload_n hx hb dX8_work_75 rfl (lv_at hl 1 rfl) ?_
        obtain ⟨b_28, h⟩ := iteS h
        refine mm_iald hx hb hK hM 26 0 (me (by decide)) 0 rfl rfl (bin_in b_28) dX8_work_76 ?_
        refine lv_goto (tgt := 86) hx hb dX8_work_77 (by decide) ?_
        exact hb86 _ _ _ _ h _ _  hM hS ls (lv_sub hl [0, 1, 2] rfl)
  have hb30 : ∀ (x1 : Int32) (x2 : Int32) (xs1 : Int32) (xs2 : Int32) (xs3 : Int32) (V : mM), jnX8_work_30 x1 x2 xs1 xs2 xs3 V = some res → ∀ (H : Heap) (locs : List Loc), mP (dC, dI) vwCl A ad (mce cI cZ ad) mex V H → va_S A s.heap H locs → ∀ (ls : Array Slot), lv_has ls 5 [(0, .ref (ad 0 0)), (1, .int x1), (2, .int x2)] → W p l e (headSpec wsX8_work ({ frames := 3, cells := 0, slots := 0, locals := 75 } : Room)).room s m ([.ref (ad 0 0), .int px1, .int px2] : List Value).toArray below meth cd H locs 0 0 (MQ below (va_Qv (fun (_ : Unit) => True) (fun _ t9 => mR dC dI A ad cI cZ res t9) A) ([.ref (ad 0 0), .int px1, .int px2] : List Value).toArray s 0 0 A) (F0 m 30 ls [.int xs3, .int xs2, .int xs1, .ref (ad 33 0)]) := by
    intro  x1 x2 xs1 xs2 xs3 V h H locs hM hS ls hl
    unfold jnX8_work_30 at h
    refine lv_isub hx hb dX8_work_30 ?_
    obtain ⟨b_29, h⟩ := iteS h
    refine mm_iast hx hb hK hM hS 33 0 (me (by decide)) 0 rfl rfl (bin_in b_29) rfl dX8_work_31 (fun H locs hM hS => ?_)
    refine lv_aload_n hx hb dX8_work_32 rfl (lv_at hl 0 rfl) ?_
    refine mm_get (C := RX8) (T := TX8) (N := 48) (ci := 8) hx hb hts inX8 hown hK hM 0 0 me0 rfl rfl 32 (by decide) k94 (fun _ h9 => h9) rfl dX8_work_33 ?_
    refine lv_iload_n hx hb dX8_work_36 rfl (lv_at hl 2 rfl) ?_
    obtain ⟨b_30, h⟩ := iteS h
    refine mm_iald hx hb hK hM 33 0 (me (by decide)) 0 rfl rfl (bin_in b_30) dX8_work_37 ?_
    refine lv_if_ne (tgt := 47) hx hb dX8_work_38 (by decide) (fun c_31 => ?_) (fun c_31 => ?_)
    · have h := iteF c_31 h
      exact hb47 _ _ _ h _ _  hM hS ls (lv_sub hl [0, 1, 2] rfl)
    · have h := iteT c_31 h
      refine lv_aload_n hx hb dX8_work_41 rfl (lv_at hl 0 rfl) ?_
      refine lv_iload_n hx hb dX8_work_42 rfl (lv_at hl 1 rfl) ?_
      refine lv_iload_n hx hb dX8_work_43 rfl (lv_at hl 2 rfl) ?_
      obtain ⟨u_32, hu_32, h⟩ := bindS h
      refine va_callv (va_runV (As := [.int x1, .int x2]) (rest := []) ⟨hx, hb, hml, hown, hts⟩ (kX8_give l x1 x2 (mu V 33 0 (xs1).toNatClampNeg (xs2 - xs3)) hu_32) (cwV 2 hts gX8_work_X8_give rfl rfl rfl (by decide +kernel) ⟨Nat.le_of_ble_eq_true rfl, Nat.le_of_ble_eq_true rfl⟩) ⟨fun a U g9 mk w9 => ⟨w9.1, mR_calling w9.2⟩, mP_recv (q := (RX8, TX8, 48)) hK hM me0 rfl rfl, fun U hU hWm => ⟨rfl, mR_of hM hK hAs hS.1 hU hWm⟩⟩ rfl rfl hl.1 rfl (lv_room (Nat.le_of_ble_eq_true rfl)) dX8_work_44 ⟨Nat.le_of_ble_eq_true rfl, Nat.le_of_ble_eq_true rfl⟩) hS (fun _ _ h9 => h9) (fun _ h9 => h9) (fun u9 t9 H locs ht9 _ hw9 hB9 _ _ hS => ?_)
      obtain ⟨hM, -, -⟩ := hB9
      rw [ht9] at hM
      exact hb47 _ _ _ h _ _  hM hS ls (lv_sub hl [0, 1, 2] rfl)
  have hl := lv_entry ([.ref (ad 0 0), .int px1, .int px2]) (n := 5) (Nat.le_of_ble_eq_true rfl)
  rw [lg_entry_eq]
  generalize (lg_sl ([.ref (ad 0 0), .int px1, .int px2]) ++ List.replicate (5 - (lg_sl ([.ref (ad 0 0), .int px1, .int px2])).length) Slot.unset).toArray = ls at hl ⊢
  have hl : lv_has ls 5 [(0, .ref (ad 0 0)), (1, .int px1), (2, .int px2)] := hl
  unfold fX8_work at h
  refine lv_aload_n hx hb dX8_work_0 rfl (lv_at hl 0 rfl) ?_
  refine mm_get (C := RX8) (T := TX8) (N := 48) (ci := 8) hx hb hts inX8 hown hK hM 0 0 me0 rfl rfl 30 (by decide) k88 (fun _ h9 => h9) rfl dX8_work_1 ?_
  refine lv_iload_n hx hb dX8_work_4 rfl (lv_at hl 2 rfl) ?_
  obtain ⟨b_33, h⟩ := iteS h
  refine mm_iald hx hb hK hM 31 0 (me (by decide)) 0 rfl rfl (bin_in b_33) dX8_work_5 ?_
  refine lv_if_le (tgt := 47) hx hb dX8_work_6 (by decide) (fun c_34 => ?_) (fun c_34 => ?_)
  · have h := iteT c_34 h
    exact hb47 _ _ _ h _ _  hM hS ls (lv_sub hl [0, 1, 2] rfl)
  · have h := iteF c_34 h
    refine lv_aload_n hx hb dX8_work_9 rfl (lv_at hl 0 rfl) ?_
    refine mm_get (C := RX8) (T := TX8) (N := 48) (ci := 8) hx hb hts inX8 hown hK hM 0 0 me0 rfl rfl 32 (by decide) k94 (fun _ h9 => h9) rfl dX8_work_10 ?_
    refine lv_iload_n hx hb dX8_work_13 rfl (lv_at hl 2 rfl) ?_
    refine lv_dup2_11 hx hb dX8_work_14 rfl rfl ?_
    obtain ⟨b_35, h⟩ := iteS h
    refine mm_iald hx hb hK hM 33 0 (me (by decide)) 0 rfl rfl (bin_in b_35) dX8_work_15 ?_
    refine lv_aload_n hx hb dX8_work_16 rfl (lv_at hl 0 rfl) ?_
    refine mm_get (C := RX8) (T := TX8) (N := 48) (ci := 8) hx hb hts inX8 hown hK hM 0 0 me0 rfl rfl 32 (by decide) k94 (fun _ h9 => h9) rfl dX8_work_17 ?_
    refine lv_iload_n hx hb dX8_work_20 rfl (lv_at hl 2 rfl) ?_
    obtain ⟨b_36, h⟩ := iteS h
    refine mm_iald hx hb hK hM 33 0 (me (by decide)) 0 rfl rfl (bin_in b_36) dX8_work_21 ?_
    refine lv_if_le (tgt := 29) hx hb dX8_work_22 (by decide) (fun c_37 => ?_) (fun c_37 => ?_)
    · have h := iteT c_37 h
      refine lv_iconst (v := 0) hx hb dX8_work_29 (by decide) ?_
      exact hb30 _ _ _ _ _ _ h _ _  hM hS ls (lv_sub hl [0, 1, 2] rfl)
    · have h := iteF c_37 h
      refine lv_iconst (v := 1) hx hb dX8_work_25 (by decide) ?_
      refine lv_goto (tgt := 30) hx hb dX8_work_26 (by decide) ?_
      exact hb30 _ _ _ _ _ _ h _ _  hM hS ls (lv_sub hl [0, 1, 2] rfl)
/-! X8_response -/
def jnX8_response_77  (ro15 : Int32 → Int32 → Int32 → mM → Option (Int32 × mM)) (x1 : Int32) (x2 : Int32) (x3 : Int32) (x4 : Int32) (x5 : Int32) (V : mM) : Option (Int32 × mM) := if bin x5 20 = true then (ro15 x1 x2 (x3 + 1) (mu V 30 0 (x5).toNatClampNeg x4)) else none
def lpX8_response_36  (ro15 : Int32 → Int32 → Int32 → mM → Option (Int32 × mM)) : Nat → Int32 → Int32 → Int32 → Int32 → Int32 → mM → Option (Int32 × mM)
  | 0, _, _, _, _, _, _ => none
  | n9 + 1, x1, x2, x3, x4, x5, V => if x5 ≤ 0 then (jnX8_response_77 ro15 x1 x2 x3 x4 x5 V) else (if bin (x5 - (1 : Int32)) 20 = true then (if (V 30 0 ((x5 - (1 : Int32))).toNatClampNeg) ≤ x4 then (jnX8_response_77 ro15 x1 x2 x3 x4 x5 V) else (if bin (x5 - (1 : Int32)) 20 = true then (if bin x5 20 = true then (lpX8_response_36 ro15 n9 x1 x2 x3 x4 (x5 + (-1)) (mu V 30 0 (x5).toNatClampNeg (V 30 0 ((x5 - (1 : Int32))).toNatClampNeg))) else none) else none)) else none)
def lpX8_response_15   : Nat → Int32 → Int32 → Int32 → mM → Option (Int32 × mM)
  | 0, _, _, _, _ => none
  | n9 + 1, x1, x2, x3, V => if x2 ≤ x3 then (if bin (((9 : Int32) * x2) / (10 : Int32)) 20 = true then (some ((V 30 0 ((((9 : Int32) * x2) / (10 : Int32))).toNatClampNeg), V)) else none) else (if bin (((20 : Int32) * x1) + x3) 160 = true then (lpX8_response_36 (lpX8_response_15 n9) fu x1 x2 x3 (V 29 0 ((((20 : Int32) * x1) + x3)).toNatClampNeg) x3 V) else none)
def fX8_response  (px1 : Int32) (V0 : mM) : Option (Int32 × mM) := if bin px1 8 = true then (if (V0 28 0 (px1).toNatClampNeg) = 0 then (some ((0 : Int32), V0)) else (lpX8_response_15 fu px1 (V0 28 0 (px1).toNatClampNeg) (0 : Int32) V0)) else none
set_option maxHeartbeats 4000000 in
set_option maxRecDepth 100000 in
theorem kX8_response (l : Launch) {dC : Nat → ClassId} {dI : Nat → Nat → Nat} {A : Nat → Prop} {ad : Nat → Nat → Nat} {cI cZ : ClassId}  (px1 : Int32) (V0 : mM) {res : Int32 × mM} (h : fX8_response px1 V0 = some res) : Met l yX8_response wsX8_response ({ frames := 0, cells := 0, slots := 0, locals := 0 } : Room) (va_Pc [.ref (ad 0 0), .int px1] (fun U => mR dC dI A ad cI cZ V0 U)) (va_Qi (fun r9 (_ : Unit) => r9 = res.1) (fun _ t9 => mR dC dI A ad cI cZ res.2 t9) A) 0 0 A := by
  refine Met.ofW (cc := cX8_response) (maxL := 6) (ret := (some .int)) (by decide) rfl ?_
  intro p e s m args below meth cd s₁ B hml hv
  obtain ⟨rfl, hM, hK, hAs⟩ := hv
  have hx := B.exec
  have hb := B.bytes
  have hr := B.returns
  have hts := atoms_spec (ws := wsX8_response) B.pre
  have hown : s.vm.findClass RX8 = some m.cls := findClass_of_methodNamed B.named
  have hlocks := B.notSynchronized
  have hS : va_S A s.heap s.heap [] := va_S.rf
  have k85 := hts (.fieldLink RX8 85 "StageDeskModel" "sorted" "[I") (by decide +kernel)
  have k82 := hts (.fieldLink RX8 82 "StageDeskModel" "times" "[I") (by decide +kernel)
  have k79 := hts (.fieldLink RX8 79 "StageDeskModel" "timeCount" "[I") (by decide +kernel)
  have inX8 : ∀ w ∈ u_ws RX8 TX8 48, w ∈ wsX8_response := by decide +kernel
  have hb77 : ∀ (ro15 : Int32 → Int32 → Int32 → mM → Option (Int32 × mM)) (hro15 : ∀ (x1 : Int32) (x2 : Int32) (x3 : Int32) (V : mM), ro15 x1 x2 x3 V = some res → ∀ (H : Heap) (locs : List Loc), mP (dC, dI) vwCl A ad (mce cI cZ ad) mex V H → va_S A s.heap H locs → ∀ (ls : Array Slot), lv_has ls 6 [(0, .ref (ad 0 0)), (1, .int x1), (2, .int x2), (3, .int x3)] → W p l e (headSpec wsX8_response ({ frames := 0, cells := 0, slots := 0, locals := 0 } : Room)).room s m ([.ref (ad 0 0), .int px1] : List Value).toArray below meth cd H locs 0 0 (MQ below (va_Qi (fun r9 (_ : Unit) => r9 = res.1) (fun _ t9 => mR dC dI A ad cI cZ res.2 t9) A) ([.ref (ad 0 0), .int px1] : List Value).toArray s 0 0 A) (F0 m 15 ls [])), ∀ (x1 : Int32) (x2 : Int32) (x3 : Int32) (x4 : Int32) (x5 : Int32) (V : mM), jnX8_response_77 ro15 x1 x2 x3 x4 x5 V = some res → ∀ (H : Heap) (locs : List Loc), mP (dC, dI) vwCl A ad (mce cI cZ ad) mex V H → va_S A s.heap H locs → ∀ (ls : Array Slot), lv_has ls 6 [(0, .ref (ad 0 0)), (1, .int x1), (2, .int x2), (3, .int x3), (4, .int x4), (5, .int x5)] → W p l e (headSpec wsX8_response ({ frames := 0, cells := 0, slots := 0, locals := 0 } : Room)).room s m ([.ref (ad 0 0), .int px1] : List Value).toArray below meth cd H locs 0 0 (MQ below (va_Qi (fun r9 (_ : Unit) => r9 = res.1) (fun _ t9 => mR dC dI A ad cI cZ res.2 t9) A) ([.ref (ad 0 0), .int px1] : List Value).toArray s 0 0 A) (F0 m 77 ls []) := by
    intro ro15 hro15 x1 x2 x3 x4 x5 V h H locs hM hS ls hl
    unfold jnX8_response_77 at h
    refine lv_aload_n hx hb dX8_response_77 rfl (lv_at hl 0 rfl) ?_
    refine mm_get (C := RX8) (T := TX8) (N := 48) (ci := 8) hx hb hts inX8 hown hK hM 0 0 me0 rfl rfl 29 (by decide) k85 (fun _ h9 => h9) rfl dX8_response_78 ?_
    refine lv_iload hx hb dX8_response_81 (lv_at hl 5 rfl) ?_
    refine lv_iload hx hb dX8_response_83 (lv_at hl 4 rfl) ?_
    obtain ⟨b_1, h⟩ := iteS h
    refine mm_iast hx hb hK hM hS 30 0 (me (by decide)) 0 rfl rfl (bin_in b_1) rfl dX8_response_85 (fun H locs hM hS => ?_)
    refine lv_iinc (v := (x3 + 1)) (lv' := [(3, .int (x3 + 1)), (0, .ref (ad 0 0)), (1, .int x1), (2, .int x2), (4, .int x4), (5, .int x5)]) hx hb dX8_response_86 hl (k := 3) rfl rfl (by decide) rfl (fun ls hl => ?_)
    refine lv_goto (tgt := 15) hx hb dX8_response_89 (by decide) ?_
    exact hro15 _ _ _ _ h _ _  hM hS ls (lv_sub hl [1, 2, 3, 0] rfl)
  have hb36 : ∀ (ro15 : Int32 → Int32 → Int32 → mM → Option (Int32 × mM)) (hro15 : ∀ (x1 : Int32) (x2 : Int32) (x3 : Int32) (V : mM), ro15 x1 x2 x3 V = some res → ∀ (H : Heap) (locs : List Loc), mP (dC, dI) vwCl A ad (mce cI cZ ad) mex V H → va_S A s.heap H locs → ∀ (ls : Array Slot), lv_has ls 6 [(0, .ref (ad 0 0)), (1, .int x1), (2, .int x2), (3, .int x3)] → W p l e (headSpec wsX8_response ({ frames := 0, cells := 0, slots := 0, locals := 0 } : Room)).room s m ([.ref (ad 0 0), .int px1] : List Value).toArray below meth cd H locs 0 0 (MQ below (va_Qi (fun r9 (_ : Unit) => r9 = res.1) (fun _ t9 => mR dC dI A ad cI cZ res.2 t9) A) ([.ref (ad 0 0), .int px1] : List Value).toArray s 0 0 A) (F0 m 15 ls [])) (n9 : Nat), ∀ (x1 : Int32) (x2 : Int32) (x3 : Int32) (x4 : Int32) (x5 : Int32) (V : mM), lpX8_response_36 ro15 n9 x1 x2 x3 x4 x5 V = some res → ∀ (H : Heap) (locs : List Loc), mP (dC, dI) vwCl A ad (mce cI cZ ad) mex V H → va_S A s.heap H locs → ∀ (ls : Array Slot), lv_has ls 6 [(0, .ref (ad 0 0)), (1, .int x1), (2, .int x2), (3, .int x3), (4, .int x4), (5, .int x5)] → W p l e (headSpec wsX8_response ({ frames := 0, cells := 0, slots := 0, locals := 0 } : Room)).room s m ([.ref (ad 0 0), .int px1] : List Value).toArray below meth cd H locs 0 0 (MQ below (va_Qi (fun r9 (_ : Unit) => r9 = res.1) (fun _ t9 => mR dC dI A ad cI cZ res.2 t9) A) ([.ref (ad 0 0), .int px1] : List Value).toArray s 0 0 A) (F0 m 36 ls []) := by
    intro ro15 hro15 n9
    induction n9 with
    | zero =>
      intro x1 x2 x3 x4 x5 V h H locs hM hS ls hl
      rw [lpX8_response_36] at h
      cases h
    | succ n9 ih =>
      intro x1 x2 x3 x4 x5 V h H locs hM hS ls hl
      rw [lpX8_response_36] at h
      refine lv_iload hx hb dX8_response_36 (lv_at hl 5 rfl) ?_
      refine lv_if_le (tgt := 77) hx hb dX8_response_38 (by decide) (fun c_2 => ?_) (fun c_2 => ?_)
      · have h := iteT c_2 h
        exact hb77 ro15 hro15 _ _ _ _ _ _ h _ _  hM hS ls (lv_sub hl [0, 1, 2, 3, 4, 5] rfl)
      · have h := iteF c_2 h
        refine lv_aload_n hx hb dX8_response_41 rfl (lv_at hl 0 rfl) ?_
        refine mm_get (C := RX8) (T := TX8) (N := 48) (ci := 8) hx hb hts inX8 hown hK hM 0 0 me0 rfl rfl 29 (by decide) k85 (fun _ h9 => h9) rfl dX8_response_42 ?_
        refine lv_iload hx hb dX8_response_45 (lv_at hl 5 rfl) ?_
        refine lv_iconst (v := 1) hx hb dX8_response_47 (by decide) ?_
        refine lv_isub hx hb dX8_response_48 ?_
        obtain ⟨b_3, h⟩ := iteS h
        refine mm_iald hx hb hK hM 30 0 (me (by decide)) 0 rfl rfl (bin_in b_3) dX8_response_49 ?_
        refine lv_iload hx hb dX8_response_50 (lv_at hl 4 rfl) ?_
        refine lv_icmp_le (tgt := 77) hx hb dX8_response_52 (by decide) (fun c_4 => ?_) (fun c_4 => ?_)
        · have h := iteT c_4 h
          exact hb77 ro15 hro15 _ _ _ _ _ _ h _ _  hM hS ls (lv_sub hl [0, 1, 2, 3, 4, 5] rfl)
        · have h := iteF c_4 h
          refine lv_aload_n hx hb dX8_response_55 rfl (lv_at hl 0 rfl) ?_
          refine mm_get (C := RX8) (T := TX8) (N := 48) (ci := 8) hx hb hts inX8 hown hK hM 0 0 me0 rfl rfl 29 (by decide) k85 (fun _ h9 => h9) rfl dX8_response_56 ?_
          refine lv_iload hx hb dX8_response_59 (lv_at hl 5 rfl) ?_
          refine lv_aload_n hx hb dX8_response_61 rfl (lv_at hl 0 rfl) ?_
          refine mm_get (C := RX8) (T := TX8) (N := 48) (ci := 8) hx hb hts inX8 hown hK hM 0 0 me0 rfl rfl 29 (by decide) k85 (fun _ h9 => h9) rfl dX8_response_62 ?_
          refine lv_iload hx hb dX8_response_65 (lv_at hl 5 rfl) ?_
          refine lv_iconst (v := 1) hx hb dX8_response_67 (by decide) ?_
          refine lv_isub hx hb dX8_response_68 ?_
          obtain ⟨b_5, h⟩ := iteS h
          refine mm_iald hx hb hK hM 30 0 (me (by decide)) 0 rfl rfl (bin_in b_5) dX8_response_69 ?_
          obtain ⟨b_6, h⟩ := iteS h
          refine mm_iast hx hb hK hM hS 30 0 (me (by decide)) 0 rfl rfl (bin_in b_6) rfl dX8_response_70 (fun H locs hM hS => ?_)
          refine lv_iinc (v := (x5 + (-1))) (lv' := [(5, .int (x5 + (-1))), (0, .ref (ad 0 0)), (1, .int x1), (2, .int x2), (3, .int x3), (4, .int x4)]) hx hb dX8_response_71 hl (k := 5) rfl rfl (by decide) rfl (fun ls hl => ?_)
          refine lv_goto (tgt := 36) hx hb dX8_response_74 (by decide) ?_
          exact ih _ _ _ _ _ _ h _ _  hM hS ls (lv_sub hl [1, 2, 3, 4, 5, 0] rfl)
  have hb15 : ∀ (n9 : Nat), ∀ (x1 : Int32) (x2 : Int32) (x3 : Int32) (V : mM), lpX8_response_15 n9 x1 x2 x3 V = some res → ∀ (H : Heap) (locs : List Loc), mP (dC, dI) vwCl A ad (mce cI cZ ad) mex V H → va_S A s.heap H locs → ∀ (ls : Array Slot), lv_has ls 6 [(0, .ref (ad 0 0)), (1, .int x1), (2, .int x2), (3, .int x3)] → W p l e (headSpec wsX8_response ({ frames := 0, cells := 0, slots := 0, locals := 0 } : Room)).room s m ([.ref (ad 0 0), .int px1] : List Value).toArray below meth cd H locs 0 0 (MQ below (va_Qi (fun r9 (_ : Unit) => r9 = res.1) (fun _ t9 => mR dC dI A ad cI cZ res.2 t9) A) ([.ref (ad 0 0), .int px1] : List Value).toArray s 0 0 A) (F0 m 15 ls []) := by
    intro  n9
    induction n9 with
    | zero =>
      intro x1 x2 x3 V h H locs hM hS ls hl
      rw [lpX8_response_15] at h
      cases h
    | succ n9 ih =>
      intro x1 x2 x3 V h H locs hM hS ls hl
      rw [lpX8_response_15] at h
      refine lv_iload_n hx hb dX8_response_15 rfl (lv_at hl 3 rfl) ?_
      refine lv_iload_n hx hb dX8_response_16 rfl (lv_at hl 2 rfl) ?_
      refine lv_icmp_ge (tgt := 92) hx hb dX8_response_17 (by decide) (fun c_7 => ?_) (fun c_7 => ?_)
      · have h := iteT c_7 h
        refine lv_aload_n hx hb dX8_response_92 rfl (lv_at hl 0 rfl) ?_
        refine mm_get (C := RX8) (T := TX8) (N := 48) (ci := 8) hx hb hts inX8 hown hK hM 0 0 me0 rfl rfl 29 (by decide) k85 (fun _ h9 => h9) rfl dX8_response_93 ?_
        refine lv_bipush (v := 9) hx hb dX8_response_96 (by decide) ?_
        refine lv_iload_n hx hb dX8_response_98 rfl (lv_at hl 2 rfl) ?_
        refine lv_imul hx hb dX8_response_99 ?_
        refine lv_bipush (v := 10) hx hb dX8_response_100 (by decide) ?_
        refine lv_idiv hx hb dX8_response_102 (by decide) ?_
        obtain ⟨b_8, h⟩ := iteS h
        refine mm_iald hx hb hK hM 30 0 (me (by decide)) 0 rfl rfl (bin_in b_8) dX8_response_103 ?_
        have e9 : ((V 30 0 ((((9 : Int32) * x2) / (10 : Int32))).toNatClampNeg), V) = res := Option.some.inj h
        subst e9
        exact W.iret (v := (V 30 0 ((((9 : Int32) * x2) / (10 : Int32))).toNatClampNeg)) hx hb hr (fun t9 ht9 hW9 => ⟨⟨_, (), rfl, rfl, mR_of hM hK hAs hS.1 ht9 hW9⟩, hS.F ht9⟩) hS.2.2 dX8_response_104
      · have h := iteF c_7 h
        refine lv_aload_n hx hb dX8_response_20 rfl (lv_at hl 0 rfl) ?_
        refine mm_get (C := RX8) (T := TX8) (N := 48) (ci := 8) hx hb hts inX8 hown hK hM 0 0 me0 rfl rfl 28 (by decide) k82 (fun _ h9 => h9) rfl dX8_response_21 ?_
        refine lv_bipush (v := 20) hx hb dX8_response_24 (by decide) ?_
        refine lv_iload_n hx hb dX8_response_26 rfl (lv_at hl 1 rfl) ?_
        refine lv_imul hx hb dX8_response_27 ?_
        refine lv_iload_n hx hb dX8_response_28 rfl (lv_at hl 3 rfl) ?_
        refine lv_iadd hx hb dX8_response_29 ?_
        obtain ⟨b_9, h⟩ := iteS h
        refine mm_iald hx hb hK hM 29 0 (me (by decide)) 0 rfl rfl (bin_in b_9) dX8_response_30 ?_
        refine lv_istore (lv' := [(4, .int (V 29 0 ((((20 : Int32) * x1) + x3)).toNatClampNeg)), (0, .ref (ad 0 0)), (1, .int x1), (2, .int x2), (3, .int x3)]) hx hb dX8_response_31 hl (by decide) rfl (fun ls hl => ?_)
        refine lv_iload_n hx hb dX8_response_33 rfl (lv_at hl 4 rfl) ?_
        refine lv_istore (lv' := [(5, .int x3), (4, .int (V 29 0 ((((20 : Int32) * x1) + x3)).toNatClampNeg)), (0, .ref (ad 0 0)), (1, .int x1), (2, .int x2), (3, .int x3)]) hx hb dX8_response_34 hl (by decide) rfl (fun ls hl => ?_)
        exact hb36 (lpX8_response_15 n9) ih fu _ _ _ _ _ _ h _ _  hM hS ls (lv_sub hl [2, 3, 4, 5, 1, 0] rfl)
  have hl := lv_entry ([.ref (ad 0 0), .int px1]) (n := 6) (Nat.le_of_ble_eq_true rfl)
  rw [lg_entry_eq]
  generalize (lg_sl ([.ref (ad 0 0), .int px1]) ++ List.replicate (6 - (lg_sl ([.ref (ad 0 0), .int px1])).length) Slot.unset).toArray = ls at hl ⊢
  have hl : lv_has ls 6 [(0, .ref (ad 0 0)), (1, .int px1)] := hl
  unfold fX8_response at h
  refine lv_aload_n hx hb dX8_response_0 rfl (lv_at hl 0 rfl) ?_
  refine mm_get (C := RX8) (T := TX8) (N := 48) (ci := 8) hx hb hts inX8 hown hK hM 0 0 me0 rfl rfl 27 (by decide) k79 (fun _ h9 => h9) rfl dX8_response_1 ?_
  refine lv_iload_n hx hb dX8_response_4 rfl (lv_at hl 1 rfl) ?_
  obtain ⟨b_10, h⟩ := iteS h
  refine mm_iald hx hb hK hM 28 0 (me (by decide)) 0 rfl rfl (bin_in b_10) dX8_response_5 ?_
  refine lv_istore_n (lv' := [(2, .int (V0 28 0 (px1).toNatClampNeg)), (0, .ref (ad 0 0)), (1, .int px1)]) hx hb dX8_response_6 rfl hl (by decide) rfl (fun ls hl => ?_)
  refine lv_iload_n hx hb dX8_response_7 rfl (lv_at hl 0 rfl) ?_
  refine lv_if_ne (tgt := 13) hx hb dX8_response_8 (by decide) (fun c_11 => ?_) (fun c_11 => ?_)
  · have h := iteF c_11 h
    refine lv_iconst (v := 0) hx hb dX8_response_13 (by decide) ?_
    refine lv_istore_n (lv' := [(3, .int (0 : Int32)), (2, .int (V0 28 0 (px1).toNatClampNeg)), (0, .ref (ad 0 0)), (1, .int px1)]) hx hb dX8_response_14 rfl hl (by decide) rfl (fun ls hl => ?_)
    exact hb15 fu _ _ _ _ h _ _  hM hS ls (lv_sub hl [2, 3, 1, 0] rfl)
  · have h := iteT c_11 h
    refine lv_iconst (v := 0) hx hb dX8_response_11 (by decide) ?_
    have e9 : ((0 : Int32), V0) = res := Option.some.inj h
    subst e9
    exact W.iret (v := (0 : Int32)) hx hb hr (fun t9 ht9 hW9 => ⟨⟨_, (), rfl, rfl, mR_of hM hK hAs hS.1 ht9 hW9⟩, hS.F ht9⟩) hS.2.2 dX8_response_12
/-! X8_control -/
def jnX8_control_244   (x1 : Int32) (V : mM) : Option (mM) := if bin x1 8 = true then (if (V 17 0 (x1).toNatClampNeg) ≤ 0 then (some V) else (if bin x1 8 = true then (if (V 28 0 (x1).toNatClampNeg) ≤ 0 then (some V) else ((fX8_response x1 V).bind fun u_5 => if bin x1 8 = true then (if u_5.1 ≤ (u_5.2 17 0 (x1).toNatClampNeg) then (if bin x1 8 = true then (if bin x1 8 = true then (if (100 : Int32) ≤ (u_5.2 16 0 (x1).toNatClampNeg) then (if bin x1 8 = true then (some (mu u_5.2 16 0 (x1).toNatClampNeg ((u_5.2 16 0 (x1).toNatClampNeg) + (0 : Int32)))) else none) else (if bin x1 8 = true then (some (mu u_5.2 16 0 (x1).toNatClampNeg ((u_5.2 16 0 (x1).toNatClampNeg) + (1 : Int32)))) else none)) else none) else none) else (if bin x1 8 = true then (if (1 : Int32) ≤ (((3 : Int32) * (u_5.2 16 0 (x1).toNatClampNeg)) / (4 : Int32)) then (if bin x1 8 = true then (if bin x1 8 = true then (some (mu u_5.2 16 0 (x1).toNatClampNeg (((3 : Int32) * (u_5.2 16 0 (x1).toNatClampNeg)) / (4 : Int32)))) else none) else none) else (if bin x1 8 = true then (some (mu u_5.2 16 0 (x1).toNatClampNeg (1 : Int32))) else none)) else none)) else none)) else none)) else none
def jnX8_control_242   (x1 : Int32) (xs1 : Int32) (xs2 : Int32) (xs3 : Int32) (V : mM) : Option (mM) := if bin xs1 8 = true then (jnX8_control_244 x1 (mu V 20 0 (xs1).toNatClampNeg (xs2 - xs3))) else none
def jnX8_control_206   (x1 : Int32) (xs1 : Int32) (xs2 : Int32) (xs3 : Int32) (V : mM) : Option (mM) := if bin xs1 8 = true then (jnX8_control_244 x1 (mu V 20 0 (xs1).toNatClampNeg (xs2 + xs3))) else none
def jnX8_control_158   (x1 : Int32) (V : mM) : Option (mM) := if bin x1 8 = true then (if (V 9 0 (x1).toNatClampNeg) = (4 : Int32) then (jnX8_control_244 x1 V) else (if bin x1 8 = true then (if bin x1 8 = true then (if (V 26 0 (x1).toNatClampNeg) ≤ (V 20 0 (x1).toNatClampNeg) then (if bin x1 8 = true then (if (V 26 0 (x1).toNatClampNeg) = 0 then (if bin x1 8 = true then (if bin x1 8 = true then (if (V 20 0 (x1).toNatClampNeg) ≤ (1 : Int32) then (jnX8_control_242 x1 x1 (V 20 0 (x1).toNatClampNeg) (0 : Int32) V) else (jnX8_control_242 x1 x1 (V 20 0 (x1).toNatClampNeg) (1 : Int32) V)) else none) else none) else (jnX8_control_244 x1 V)) else none) else (if bin x1 8 = true then (if bin x1 8 = true then (if (8 : Int32) ≤ (V 20 0 (x1).toNatClampNeg) then (jnX8_control_206 x1 x1 (V 20 0 (x1).toNatClampNeg) (0 : Int32) V) else (jnX8_control_206 x1 x1 (V 20 0 (x1).toNatClampNeg) (1 : Int32) V)) else none) else none)) else none) else none)) else none
def jnX8_control_148   (x1 : Int32) (V : mM) : Option (mM) := if bin x1 8 = true then (if bin x1 8 = true then (jnX8_control_158 x1 (mu V 18 0 (x1).toNatClampNeg ((V 18 0 (x1).toNatClampNeg) - (1 : Int32)))) else none) else none
def jnX8_control_103   (x1 : Int32) (x2 : Int32) (V : mM) : Option (mM) := if bin x1 8 = true then (if (V 18 0 (x1).toNatClampNeg) ≤ (1 : Int32) then (jnX8_control_158 x1 V) else (if bin x2 32 = true then (if (V 31 0 (x2).toNatClampNeg) = 0 then (if bin x2 32 = true then (if (10 : Int32) ≤ (V 41 0 (x2).toNatClampNeg) then (jnX8_control_148 x1 V) else (if bin x2 32 = true then (if bin x2 32 = true then (if (V 41 0 (x2).toNatClampNeg) < (V 42 0 (x2).toNatClampNeg) then (jnX8_control_158 x1 V) else (jnX8_control_148 x1 V)) else none) else none)) else none) else (jnX8_control_158 x1 V)) else none)) else none
def fX8_control  (px1 : Int32) (V0 : mM) : Option (mM) := if bin px1 8 = true then (if bin px1 8 = true then (if bin px1 8 = true then (if (V0 26 0 (px1).toNatClampNeg) ≤ ((V0 12 0 (px1).toNatClampNeg) / (2 : Int32)) then (jnX8_control_103 px1 ((((4 : Int32) * px1) + (V0 18 0 (px1).toNatClampNeg)) - (1 : Int32)) V0) else (if bin px1 8 = true then (if bin px1 8 = true then (if (V0 19 0 (px1).toNatClampNeg) ≤ (V0 18 0 (px1).toNatClampNeg) then (jnX8_control_103 px1 ((((4 : Int32) * px1) + (V0 18 0 (px1).toNatClampNeg)) - (1 : Int32)) V0) else (if bin (((((4 : Int32) * px1) + (V0 18 0 (px1).toNatClampNeg)) - (1 : Int32)) + (1 : Int32)) 32 = true then (if bin (((((4 : Int32) * px1) + (V0 18 0 (px1).toNatClampNeg)) - (1 : Int32)) + (1 : Int32)) 32 = true then (if bin (((((4 : Int32) * px1) + (V0 18 0 (px1).toNatClampNeg)) - (1 : Int32)) + (1 : Int32)) 32 = true then (if bin (((((4 : Int32) * px1) + (V0 18 0 (px1).toNatClampNeg)) - (1 : Int32)) + (1 : Int32)) 32 = true then (if bin (((((4 : Int32) * px1) + (V0 18 0 (px1).toNatClampNeg)) - (1 : Int32)) + (1 : Int32)) 32 = true then (if bin px1 8 = true then (if bin px1 8 = true then (jnX8_control_158 px1 (mu (mu (mu (mu (mu (mu V0 41 0 ((((((4 : Int32) * px1) + (V0 18 0 (px1).toNatClampNeg)) - (1 : Int32)) + (1 : Int32))).toNatClampNeg (0 : Int32)) 42 0 ((((((4 : Int32) * px1) + (V0 18 0 (px1).toNatClampNeg)) - (1 : Int32)) + (1 : Int32))).toNatClampNeg (0 : Int32)) 31 0 ((((((4 : Int32) * px1) + (V0 18 0 (px1).toNatClampNeg)) - (1 : Int32)) + (1 : Int32))).toNatClampNeg (0 : Int32)) 33 0 ((((((4 : Int32) * px1) + (V0 18 0 (px1).toNatClampNeg)) - (1 : Int32)) + (1 : Int32))).toNatClampNeg (0 : Int32)) 34 0 ((((((4 : Int32) * px1) + (V0 18 0 (px1).toNatClampNeg)) - (1 : Int32)) + (1 : Int32))).toNatClampNeg (0 : Int32)) 18 0 (px1).toNatClampNeg (((mu (mu (mu (mu (mu V0 41 0 ((((((4 : Int32) * px1) + (V0 18 0 (px1).toNatClampNeg)) - (1 : Int32)) + (1 : Int32))).toNatClampNeg (0 : Int32)) 42 0 ((((((4 : Int32) * px1) + (V0 18 0 (px1).toNatClampNeg)) - (1 : Int32)) + (1 : Int32))).toNatClampNeg (0 : Int32)) 31 0 ((((((4 : Int32) * px1) + (V0 18 0 (px1).toNatClampNeg)) - (1 : Int32)) + (1 : Int32))).toNatClampNeg (0 : Int32)) 33 0 ((((((4 : Int32) * px1) + (V0 18 0 (px1).toNatClampNeg)) - (1 : Int32)) + (1 : Int32))).toNatClampNeg (0 : Int32)) 34 0 ((((((4 : Int32) * px1) + (V0 18 0 (px1).toNatClampNeg)) - (1 : Int32)) + (1 : Int32))).toNatClampNeg (0 : Int32)) 18 0 (px1).toNatClampNeg) + (1 : Int32)))) else none) else none) else none) else none) else none) else none) else none)) else none) else none)) else none) else none) else none
set_option maxHeartbeats 4000000 in
set_option maxRecDepth 100000 in
theorem kX8_control (l : Launch) {dC : Nat → ClassId} {dI : Nat → Nat → Nat} {A : Nat → Prop} {ad : Nat → Nat → Nat} {cI cZ : ClassId}  (px1 : Int32) (V0 : mM) {res : mM} (h : fX8_control px1 V0 = some res) : Met l yX8_control wsX8_control ({ frames := 1, cells := 0, slots := 0, locals := 25 } : Room) (va_Pc [.ref (ad 0 0), .int px1] (fun U => mR dC dI A ad cI cZ V0 U)) (va_Qv (fun (_ : Unit) => True) (fun _ t9 => mR dC dI A ad cI cZ res t9) A) 0 0 A := by
  refine Met.ofW (cc := cX8_control) (maxL := 3) (ret := none) (by decide) rfl ?_
  intro p e s m args below meth cd s₁ B hml hv
  obtain ⟨rfl, hM, hK, hAs⟩ := hv
  have hx := B.exec
  have hb := B.bytes
  have hr := B.returns
  have hts := atoms_spec (ws := wsX8_control) B.pre
  have hown : s.vm.findClass RX8 = some m.cls := findClass_of_methodNamed B.named
  have hlocks := B.notSynchronized
  have hS : va_S A s.heap s.heap [] := va_S.rf
  have k45 := hts (.fieldLink RX8 45 "StageDeskModel" "goals" "[I") (by decide +kernel)
  have k79 := hts (.fieldLink RX8 79 "StageDeskModel" "timeCount" "[I") (by decide +kernel)
  have k42 := hts (.fieldLink RX8 42 "StageDeskModel" "rates" "[I") (by decide +kernel)
  have k21 := hts (.fieldLink RX8 21 "StageDeskModel" "sorts" "[I") (by decide +kernel)
  have k73 := hts (.fieldLink RX8 73 "StageDeskModel" "waiting" "[I") (by decide +kernel)
  have k54 := hts (.fieldLink RX8 54 "StageDeskModel" "batches" "[I") (by decide +kernel)
  have k48 := hts (.fieldLink RX8 48 "StageDeskModel" "workers" "[I") (by decide +kernel)
  have k88 := hts (.fieldLink RX8 88 "StageDeskModel" "size" "[I") (by decide +kernel)
  have k118 := hts (.fieldLink RX8 118 "StageDeskModel" "idle" "[I") (by decide +kernel)
  have k121 := hts (.fieldLink RX8 121 "StageDeskModel" "there" "[I") (by decide +kernel)
  have k30 := hts (.fieldLink RX8 30 "StageDeskModel" "bounds" "[I") (by decide +kernel)
  have k51 := hts (.fieldLink RX8 51 "StageDeskModel" "caps" "[I") (by decide +kernel)
  have k94 := hts (.fieldLink RX8 94 "StageDeskModel" "rest" "[I") (by decide +kernel)
  have k97 := hts (.fieldLink RX8 97 "StageDeskModel" "offers" "[Z") (by decide +kernel)
  have inX8 : ∀ w ∈ u_ws RX8 TX8 48, w ∈ wsX8_control := by decide +kernel
  have hb244 : ∀ (x1 : Int32) (V : mM), jnX8_control_244 x1 V = some res → ∀ (H : Heap) (locs : List Loc), mP (dC, dI) vwCl A ad (mce cI cZ ad) mex V H → va_S A s.heap H locs → ∀ (ls : Array Slot), lv_has ls 3 [(0, .ref (ad 0 0)), (1, .int x1)] → W p l e (headSpec wsX8_control ({ frames := 1, cells := 0, slots := 0, locals := 25 } : Room)).room s m ([.ref (ad 0 0), .int px1] : List Value).toArray below meth cd H locs 0 0 (MQ below (va_Qv (fun (_ : Unit) => True) (fun _ t9 => mR dC dI A ad cI cZ res t9) A) ([.ref (ad 0 0), .int px1] : List Value).toArray s 0 0 A) (F0 m 244 ls []) := by
    intro  x1 V h H locs hM hS ls hl
    unfold jnX8_control_244 at h
    refine lv_aload_n hx hb dX8_control_244 rfl (lv_at hl 0 rfl) ?_
    refine mm_get (C := RX8) (T := TX8) (N := 48) (ci := 8) hx hb hts inX8 hown hK hM 0 0 me0 rfl rfl 16 (by decide) k45 (fun _ h9 => h9) rfl dX8_control_245 ?_
    refine lv_iload_n hx hb dX8_control_248 rfl (lv_at hl 1 rfl) ?_
    obtain ⟨b_1, h⟩ := iteS h
    refine mm_iald hx hb hK hM 17 0 (me (by decide)) 0 rfl rfl (bin_in b_1) dX8_control_249 ?_
    refine lv_if_le (tgt := 338) hx hb dX8_control_250 (by decide) (fun c_2 => ?_) (fun c_2 => ?_)
    · have h := iteT c_2 h
      have e9 : V = res := Option.some.inj h
      subst e9
      exact W.vret hx hb hr (fun t9 ht9 hW9 => ⟨⟨(), rfl, trivial, mR_of hM hK hAs hS.1 ht9 hW9⟩, hS.F ht9⟩) hS.2.2 dX8_control_338
    · have h := iteF c_2 h
      refine lv_aload_n hx hb dX8_control_253 rfl (lv_at hl 0 rfl) ?_
      refine mm_get (C := RX8) (T := TX8) (N := 48) (ci := 8) hx hb hts inX8 hown hK hM 0 0 me0 rfl rfl 27 (by decide) k79 (fun _ h9 => h9) rfl dX8_control_254 ?_
      refine lv_iload_n hx hb dX8_control_257 rfl (lv_at hl 1 rfl) ?_
      obtain ⟨b_3, h⟩ := iteS h
      refine mm_iald hx hb hK hM 28 0 (me (by decide)) 0 rfl rfl (bin_in b_3) dX8_control_258 ?_
      refine lv_if_le (tgt := 338) hx hb dX8_control_259 (by decide) (fun c_4 => ?_) (fun c_4 => ?_)
      · have h := iteT c_4 h
        have e9 : V = res := Option.some.inj h
        subst e9
        exact W.vret hx hb hr (fun t9 ht9 hW9 => ⟨⟨(), rfl, trivial, mR_of hM hK hAs hS.1 ht9 hW9⟩, hS.F ht9⟩) hS.2.2 dX8_control_338
      · have h := iteF c_4 h
        refine lv_aload_n hx hb dX8_control_262 rfl (lv_at hl 0 rfl) ?_
        refine lv_iload_n hx hb dX8_control_263 rfl (lv_at hl 1 rfl) ?_
        obtain ⟨u_5, hu_5, h⟩ := bindS h
        refine va_calli (va_runV (As := [.int x1]) (rest := []) ⟨hx, hb, hml, hown, hts⟩ (kX8_response l x1 V hu_5) (cwV 1 hts gX8_control_X8_response rfl rfl rfl (by decide +kernel) ⟨Nat.le_of_ble_eq_true rfl, Nat.le_of_ble_eq_true rfl⟩) ⟨fun a U g9 mk w9 => ⟨w9.1, mR_calling w9.2⟩, mP_recv (q := (RX8, TX8, 48)) hK hM me0 rfl rfl, fun U hU hWm => ⟨rfl, mR_of hM hK hAs hS.1 hU hWm⟩⟩ rfl rfl hl.1 rfl (lv_room (Nat.le_of_ble_eq_true rfl)) dX8_control_264 ⟨Nat.le_of_ble_eq_true rfl, Nat.le_of_ble_eq_true rfl⟩) hS (fun _ _ h9 => h9) (fun _ h9 => h9) (fun r9 u9 t9 H locs ht9 _ hw9 hB9 _ _ hS => ?_)
        rw [show r9 = u_5.1 from hw9]
        obtain ⟨hM, -, -⟩ := hB9
        rw [ht9] at hM
        refine lv_aload_n hx hb dX8_control_267 rfl (lv_at hl 0 rfl) ?_
        refine mm_get (C := RX8) (T := TX8) (N := 48) (ci := 8) hx hb hts inX8 hown hK hM 0 0 me0 rfl rfl 16 (by decide) k45 (fun _ h9 => h9) rfl dX8_control_268 ?_
        refine lv_iload_n hx hb dX8_control_271 rfl (lv_at hl 1 rfl) ?_
        obtain ⟨b_6, h⟩ := iteS h
        refine mm_iald hx hb hK hM 17 0 (me (by decide)) 0 rfl rfl (bin_in b_6) dX8_control_272 ?_
        refine lv_icmp_le (tgt := 313) hx hb dX8_control_273 (by decide) (fun c_7 => ?_) (fun c_7 => ?_)
        · have h := iteT c_7 h
          refine lv_aload_n hx hb dX8_control_313 rfl (lv_at hl 0 rfl) ?_
          refine mm_get (C := RX8) (T := TX8) (N := 48) (ci := 8) hx hb hts inX8 hown hK hM 0 0 me0 rfl rfl 15 (by decide) k42 (fun _ h9 => h9) rfl dX8_control_314 ?_
          refine lv_iload_n hx hb dX8_control_317 rfl (lv_at hl 1 rfl) ?_
          refine lv_dup2_11 hx hb dX8_control_318 rfl rfl ?_
          obtain ⟨b_8, h⟩ := iteS h
          refine mm_iald hx hb hK hM 16 0 (me (by decide)) 0 rfl rfl (bin_in b_8) dX8_control_319 ?_
          refine lv_aload_n hx hb dX8_control_320 rfl (lv_at hl 0 rfl) ?_
          refine mm_get (C := RX8) (T := TX8) (N := 48) (ci := 8) hx hb hts inX8 hown hK hM 0 0 me0 rfl rfl 15 (by decide) k42 (fun _ h9 => h9) rfl dX8_control_321 ?_
          refine lv_iload_n hx hb dX8_control_324 rfl (lv_at hl 1 rfl) ?_
          obtain ⟨b_9, h⟩ := iteS h
          refine mm_iald hx hb hK hM 16 0 (me (by decide)) 0 rfl rfl (bin_in b_9) dX8_control_325 ?_
          refine lv_bipush (v := 100) hx hb dX8_control_326 (by decide) ?_
          refine lv_icmp_ge (tgt := 335) hx hb dX8_control_328 (by decide) (fun c_10 => ?_) (fun c_10 => ?_)
          · have h := iteT c_10 h
            refine lv_iconst (v := 0) hx hb dX8_control_335 (by decide) ?_
            refine lv_iadd hx hb dX8_control_336 ?_
            obtain ⟨b_11, h⟩ := iteS h
            refine mm_iast hx hb hK hM hS 16 0 (me (by decide)) 0 rfl rfl (bin_in b_11) rfl dX8_control_337 (fun H locs hM hS => ?_)
            have e9 : (mu u_5.2 16 0 (x1).toNatClampNeg ((u_5.2 16 0 (x1).toNatClampNeg) + (0 : Int32))) = res := Option.some.inj h
            subst e9
            exact W.vret hx hb hr (fun t9 ht9 hW9 => ⟨⟨(), rfl, trivial, mR_of hM hK hAs hS.1 ht9 hW9⟩, hS.F ht9⟩) hS.2.2 dX8_control_338
          · have h := iteF c_10 h
            refine lv_iconst (v := 1) hx hb dX8_control_331 (by decide) ?_
            refine lv_goto (tgt := 336) hx hb dX8_control_332 (by decide) ?_
            refine lv_iadd hx hb dX8_control_336 ?_
            obtain ⟨b_12, h⟩ := iteS h
            refine mm_iast hx hb hK hM hS 16 0 (me (by decide)) 0 rfl rfl (bin_in b_12) rfl dX8_control_337 (fun H locs hM hS => ?_)
            have e9 : (mu u_5.2 16 0 (x1).toNatClampNeg ((u_5.2 16 0 (x1).toNatClampNeg) + (1 : Int32))) = res := Option.some.inj h
            subst e9
            exact W.vret hx hb hr (fun t9 ht9 hW9 => ⟨⟨(), rfl, trivial, mR_of hM hK hAs hS.1 ht9 hW9⟩, hS.F ht9⟩) hS.2.2 dX8_control_338
        · have h := iteF c_7 h
          refine lv_aload_n hx hb dX8_control_276 rfl (lv_at hl 0 rfl) ?_
          refine mm_get (C := RX8) (T := TX8) (N := 48) (ci := 8) hx hb hts inX8 hown hK hM 0 0 me0 rfl rfl 15 (by decide) k42 (fun _ h9 => h9) rfl dX8_control_277 ?_
          refine lv_iload_n hx hb dX8_control_280 rfl (lv_at hl 1 rfl) ?_
          refine lv_iconst (v := 3) hx hb dX8_control_281 (by decide) ?_
          refine lv_aload_n hx hb dX8_control_282 rfl (lv_at hl 0 rfl) ?_
          refine mm_get (C := RX8) (T := TX8) (N := 48) (ci := 8) hx hb hts inX8 hown hK hM 0 0 me0 rfl rfl 15 (by decide) k42 (fun _ h9 => h9) rfl dX8_control_283 ?_
          refine lv_iload_n hx hb dX8_control_286 rfl (lv_at hl 1 rfl) ?_
          obtain ⟨b_13, h⟩ := iteS h
          refine mm_iald hx hb hK hM 16 0 (me (by decide)) 0 rfl rfl (bin_in b_13) dX8_control_287 ?_
          refine lv_imul hx hb dX8_control_288 ?_
          refine lv_iconst (v := 4) hx hb dX8_control_289 (by decide) ?_
          refine lv_idiv hx hb dX8_control_290 (by decide) ?_
          refine lv_iconst (v := 1) hx hb dX8_control_291 (by decide) ?_
          refine lv_icmp_ge (tgt := 299) hx hb dX8_control_292 (by decide) (fun c_14 => ?_) (fun c_14 => ?_)
          · have h := iteT c_14 h
            refine lv_iconst (v := 3) hx hb dX8_control_299 (by decide) ?_
            refine lv_aload_n hx hb dX8_control_300 rfl (lv_at hl 0 rfl) ?_
            refine mm_get (C := RX8) (T := TX8) (N := 48) (ci := 8) hx hb hts inX8 hown hK hM 0 0 me0 rfl rfl 15 (by decide) k42 (fun _ h9 => h9) rfl dX8_control_301 ?_
            refine lv_iload_n hx hb dX8_control_304 rfl (lv_at hl 1 rfl) ?_
            obtain ⟨b_15, h⟩ := iteS h
            refine mm_iald hx hb hK hM 16 0 (me (by decide)) 0 rfl rfl (bin_in b_15) dX8_control_305 ?_
            refine lv_imul hx hb dX8_control_306 ?_
            refine lv_iconst (v := 4) hx hb dX8_control_307 (by decide) ?_
            refine lv_idiv hx hb dX8_control_308 (by decide) ?_
            obtain ⟨b_16, h⟩ := iteS h
            refine mm_iast hx hb hK hM hS 16 0 (me (by decide)) 0 rfl rfl (bin_in b_16) rfl dX8_control_309 (fun H locs hM hS => ?_)
            refine lv_goto (tgt := 338) hx hb dX8_control_310 (by decide) ?_
            have e9 : (mu u_5.2 16 0 (x1).toNatClampNeg (((3 : Int32) * (u_5.2 16 0 (x1).toNatClampNeg)) / (4 : Int32))) = res := Option.some.inj h
            subst e9
            exact W.vret hx hb hr (fun t9 ht9 hW9 => ⟨⟨(), rfl, trivial, mR_of hM hK hAs hS.1 ht9 hW9⟩, hS.F ht9⟩) hS.2.2 dX8_control_338
          · have h := iteF c_14 h
            refine lv_iconst (v := 1) hx hb dX8_control_295 (by decide) ?_
            refine lv_goto (tgt := 309) hx hb dX8_control_296 (by decide) ?_
            obtain ⟨b_17, h⟩ := iteS h
            refine mm_iast hx hb hK hM hS 16 0 (me (by decide)) 0 rfl rfl (bin_in b_17) rfl dX8_control_309 (fun H locs hM hS => ?_)
            refine lv_goto (tgt := 338) hx hb dX8_control_310 (by decide) ?_
            have e9 : (mu u_5.2 16 0 (x1).toNatClampNeg (1 : Int32)) = res := Option.some.inj h
            subst e9
            exact W.vret hx hb hr (fun t9 ht9 hW9 => ⟨⟨(), rfl, trivial, mR_of hM hK hAs hS.1 ht9 hW9⟩, hS.F ht9⟩) hS.2.2 dX8_control_338
  have hb242 : ∀ (x1 : Int32) (xs1 : Int32) (xs2 : Int32) (xs3 : Int32) (V : mM), jnX8_control_242 x1 xs1 xs2 xs3 V = some res → ∀ (H : Heap) (locs : List Loc), mP (dC, dI) vwCl A ad (mce cI cZ ad) mex V H → va_S A s.heap H locs → ∀ (ls : Array Slot), lv_has ls 3 [(0, .ref (ad 0 0)), (1, .int x1)] → W p l e (headSpec wsX8_control ({ frames := 1, cells := 0, slots := 0, locals := 25 } : Room)).room s m ([.ref (ad 0 0), .int px1] : List Value).toArray below meth cd H locs 0 0 (MQ below (va_Qv (fun (_ : Unit) => True) (fun _ t9 => mR dC dI A ad cI cZ res t9) A) ([.ref (ad 0 0), .int px1] : List Value).toArray s 0 0 A) (F0 m 242 ls [.int xs3, .int xs2, .int xs1, .ref (ad 20 0)]) := by
    intro  x1 xs1 xs2 xs3 V h H locs hM hS ls hl
    unfold jnX8_control_242 at h
    refine lv_isub hx hb dX8_control_242 ?_
    obtain ⟨b_18, h⟩ := iteS h
    refine mm_iast hx hb hK hM hS 20 0 (me (by decide)) 0 rfl rfl (bin_in b_18) rfl dX8_control_243 (fun H locs hM hS => ?_)
    exact hb244 _ _ h _ _  hM hS ls (lv_sub hl [0, 1] rfl)
  have hb206 : ∀ (x1 : Int32) (xs1 : Int32) (xs2 : Int32) (xs3 : Int32) (V : mM), jnX8_control_206 x1 xs1 xs2 xs3 V = some res → ∀ (H : Heap) (locs : List Loc), mP (dC, dI) vwCl A ad (mce cI cZ ad) mex V H → va_S A s.heap H locs → ∀ (ls : Array Slot), lv_has ls 3 [(0, .ref (ad 0 0)), (1, .int x1)] → W p l e (headSpec wsX8_control ({ frames := 1, cells := 0, slots := 0, locals := 25 } : Room)).room s m ([.ref (ad 0 0), .int px1] : List Value).toArray below meth cd H locs 0 0 (MQ below (va_Qv (fun (_ : Unit) => True) (fun _ t9 => mR dC dI A ad cI cZ res t9) A) ([.ref (ad 0 0), .int px1] : List Value).toArray s 0 0 A) (F0 m 206 ls [.int xs3, .int xs2, .int xs1, .ref (ad 20 0)]) := by
    intro  x1 xs1 xs2 xs3 V h H locs hM hS ls hl
    unfold jnX8_control_206 at h
    refine lv_iadd hx hb dX8_control_206 ?_
    obtain ⟨b_19, h⟩ := iteS h
    refine mm_iast hx hb hK hM hS 20 0 (me (by decide)) 0 rfl rfl (bin_in b_19) rfl dX8_control_207 (fun H locs hM hS => ?_)
    refine lv_goto (tgt := 244) hx hb dX8_control_208 (by decide) ?_
    exact hb244 _ _ h _ _  hM hS ls (lv_sub hl [0, 1] rfl)
  have hb158 : ∀ (x1 : Int32) (V : mM), jnX8_control_158 x1 V = some res → ∀ (H : Heap) (locs : List Loc), mP (dC, dI) vwCl A ad (mce cI cZ ad) mex V H → va_S A s.heap H locs → ∀ (ls : Array Slot), lv_has ls 3 [(0, .ref (ad 0 0)), (1, .int x1)] → W p l e (headSpec wsX8_control ({ frames := 1, cells := 0, slots := 0, locals := 25 } : Room)).room s m ([.ref (ad 0 0), .int px1] : List Value).toArray below meth cd H locs 0 0 (MQ below (va_Qv (fun (_ : Unit) => True) (fun _ t9 => mR dC dI A ad cI cZ res t9) A) ([.ref (ad 0 0), .int px1] : List Value).toArray s 0 0 A) (F0 m 158 ls []) := by
    intro  x1 V h H locs hM hS ls hl
    unfold jnX8_control_158 at h
    refine lv_aload_n hx hb dX8_control_158 rfl (lv_at hl 0 rfl) ?_
    refine mm_get (C := RX8) (T := TX8) (N := 48) (ci := 8) hx hb hts inX8 hown hK hM 0 0 me0 rfl rfl 8 (by decide) k21 (fun _ h9 => h9) rfl dX8_control_159 ?_
    refine lv_iload_n hx hb dX8_control_162 rfl (lv_at hl 1 rfl) ?_
    obtain ⟨b_20, h⟩ := iteS h
    refine mm_iald hx hb hK hM 9 0 (me (by decide)) 0 rfl rfl (bin_in b_20) dX8_control_163 ?_
    refine lv_iconst (v := 4) hx hb dX8_control_164 (by decide) ?_
    refine lv_icmp_eq (tgt := 244) hx hb dX8_control_165 (by decide) (fun c_21 => ?_) (fun c_21 => ?_)
    · have h := iteT c_21 h
      exact hb244 _ _ h _ _  hM hS ls (lv_sub hl [0, 1] rfl)
    · have h := iteF c_21 h
      refine lv_aload_n hx hb dX8_control_168 rfl (lv_at hl 0 rfl) ?_
      refine mm_get (C := RX8) (T := TX8) (N := 48) (ci := 8) hx hb hts inX8 hown hK hM 0 0 me0 rfl rfl 25 (by decide) k73 (fun _ h9 => h9) rfl dX8_control_169 ?_
      refine lv_iload_n hx hb dX8_control_172 rfl (lv_at hl 1 rfl) ?_
      obtain ⟨b_22, h⟩ := iteS h
      refine mm_iald hx hb hK hM 26 0 (me (by decide)) 0 rfl rfl (bin_in b_22) dX8_control_173 ?_
      refine lv_aload_n hx hb dX8_control_174 rfl (lv_at hl 0 rfl) ?_
      refine mm_get (C := RX8) (T := TX8) (N := 48) (ci := 8) hx hb hts inX8 hown hK hM 0 0 me0 rfl rfl 19 (by decide) k54 (fun _ h9 => h9) rfl dX8_control_175 ?_
      refine lv_iload_n hx hb dX8_control_178 rfl (lv_at hl 1 rfl) ?_
      obtain ⟨b_23, h⟩ := iteS h
      refine mm_iald hx hb hK hM 20 0 (me (by decide)) 0 rfl rfl (bin_in b_23) dX8_control_179 ?_
      refine lv_icmp_le (tgt := 211) hx hb dX8_control_180 (by decide) (fun c_24 => ?_) (fun c_24 => ?_)
      · have h := iteT c_24 h
        refine lv_aload_n hx hb dX8_control_211 rfl (lv_at hl 0 rfl) ?_
        refine mm_get (C := RX8) (T := TX8) (N := 48) (ci := 8) hx hb hts inX8 hown hK hM 0 0 me0 rfl rfl 25 (by decide) k73 (fun _ h9 => h9) rfl dX8_control_212 ?_
        refine lv_iload_n hx hb dX8_control_215 rfl (lv_at hl 1 rfl) ?_
        obtain ⟨b_25, h⟩ := iteS h
        refine mm_iald hx hb hK hM 26 0 (me (by decide)) 0 rfl rfl (bin_in b_25) dX8_control_216 ?_
        refine lv_if_ne (tgt := 244) hx hb dX8_control_217 (by decide) (fun c_26 => ?_) (fun c_26 => ?_)
        · have h := iteF c_26 h
          exact hb244 _ _ h _ _  hM hS ls (lv_sub hl [0, 1] rfl)
        · have h := iteT c_26 h
          refine lv_aload_n hx hb dX8_control_220 rfl (lv_at hl 0 rfl) ?_
          refine mm_get (C := RX8) (T := TX8) (N := 48) (ci := 8) hx hb hts inX8 hown hK hM 0 0 me0 rfl rfl 19 (by decide) k54 (fun _ h9 => h9) rfl dX8_control_221 ?_
          refine lv_iload_n hx hb dX8_control_224 rfl (lv_at hl 1 rfl) ?_
          refine lv_dup2_11 hx hb dX8_control_225 rfl rfl ?_
          obtain ⟨b_27, h⟩ := iteS h
          refine mm_iald hx hb hK hM 20 0 (me (by decide)) 0 rfl rfl (bin_in b_27) dX8_control_226 ?_
          refine lv_aload_n hx hb dX8_control_227 rfl (lv_at hl 0 rfl) ?_
          refine mm_get (C := RX8) (T := TX8) (N := 48) (ci := 8) hx hb hts inX8 hown hK hM 0 0 me0 rfl rfl 19 (by decide) k54 (fun _ h9 => h9) rfl dX8_control_228 ?_
          refine lv_iload_n hx hb dX8_control_231 rfl (lv_at hl 1 rfl) ?_
          obtain ⟨b_28, h⟩ := iteS h
          refine mm_iald hx hb hK hM 20 0 (me (by decide)) 0 rfl rfl (bin_in b_28) dX8_control_232 ?_
          refine lv_iconst (v := 1) hx hb dX8_control_233 (by decide) ?_
          refine lv_icmp_le (tgt := 241) hx hb dX8_control_234 (by decide) (fun c_29 => ?_) (fun c_29 => ?_)
          · have h := iteT c_29 h
            refine lv_iconst (v := 0) hx hb dX8_control_241 (by decide) ?_
            exact hb242 _ _ _ _ _ h _ _  hM hS ls (lv_sub hl [0, 1] rfl)
          · have h := iteF c_29 h
            refine lv_iconst (v := 1) hx hb dX8_control_237 (by decide) ?_
            refine lv_goto (tgt := 242) hx hb dX8_control_238 (by decide) ?_
            exact hb242 _ _ _ _ _ h _ _  hM hS ls (lv_sub hl [0, 1] rfl)
      · have h := iteF c_24 h
        refine lv_aload_n hx hb dX8_control_183 rfl (lv_at hl 0 rfl) ?_
        refine mm_get (C := RX8) (T := TX8) (N := 48) (ci := 8) hx hb hts inX8 hown hK hM 0 0 me0 rfl rfl 19 (by decide) k54 (fun _ h9 => h9) rfl dX8_control_184 ?_
        refine lv_iload_n hx hb dX8_control_187 rfl (lv_at hl 1 rfl) ?_
        refine lv_dup2_11 hx hb dX8_control_188 rfl rfl ?_
        obtain ⟨b_30, h⟩ := iteS h
        refine mm_iald hx hb hK hM 20 0 (me (by decide)) 0 rfl rfl (bin_in b_30) dX8_control_189 ?_
        refine lv_aload_n hx hb dX8_control_190 rfl (lv_at hl 0 rfl) ?_
        refine mm_get (C := RX8) (T := TX8) (N := 48) (ci := 8) hx hb hts inX8 hown hK hM 0 0 me0 rfl rfl 19 (by decide) k54 (fun _ h9 => h9) rfl dX8_control_191 ?_
        refine lv_iload_n hx hb dX8_control_194 rfl (lv_at hl 1 rfl) ?_
        obtain ⟨b_31, h⟩ := iteS h
        refine mm_iald hx hb hK hM 20 0 (me (by decide)) 0 rfl rfl (bin_in b_31) dX8_control_195 ?_
        refine lv_bipush (v := 8) hx hb dX8_control_196 (by decide) ?_
        refine lv_icmp_ge (tgt := 205) hx hb dX8_control_198 (by decide) (fun c_32 => ?_) (fun c_32 => ?_)
        · have h := iteT c_32 h
          refine lv_iconst (v := 0) hx hb dX8_control_205 (by decide) ?_
          exact hb206 _ _ _ _ _ h _ _  hM hS ls (lv_sub hl [0, 1] rfl)
        · have h := iteF c_32 h
          refine lv_iconst (v := 1) hx hb dX8_control_201 (by decide) ?_
          refine lv_goto (tgt := 206) hx hb dX8_control_202 (by decide) ?_
          exact hb206 _ _ _ _ _ h _ _  hM hS ls (lv_sub hl [0, 1] rfl)
  have hb148 : ∀ (x1 : Int32) (V : mM), jnX8_control_148 x1 V = some res → ∀ (H : Heap) (locs : List Loc), mP (dC, dI) vwCl A ad (mce cI cZ ad) mex V H → va_S A s.heap H locs → ∀ (ls : Array Slot), lv_has ls 3 [(0, .ref (ad 0 0)), (1, .int x1)] → W p l e (headSpec wsX8_control ({ frames := 1, cells := 0, slots := 0, locals := 25 } : Room)).room s m ([.ref (ad 0 0), .int px1] : List Value).toArray below meth cd H locs 0 0 (MQ below (va_Qv (fun (_ : Unit) => True) (fun _ t9 => mR dC dI A ad cI cZ res t9) A) ([.ref (ad 0 0), .int px1] : List Value).toArray s 0 0 A) (F0 m 148 ls []) := by
    intro  x1 V h H locs hM hS ls hl
    unfold jnX8_control_148 at h
    refine lv_aload_n hx hb dX8_control_148 rfl (lv_at hl 0 rfl) ?_
    refine mm_get (C := RX8) (T := TX8) (N := 48) (ci := 8) hx hb hts inX8 hown hK hM 0 0 me0 rfl rfl 17 (by decide) k48 (fun _ h9 => h9) rfl dX8_control_149 ?_
    refine lv_iload_n hx hb dX8_control_152 rfl (lv_at hl 1 rfl) ?_
    refine lv_dup2_11 hx hb dX8_control_153 rfl rfl ?_
    obtain ⟨b_33, h⟩ := iteS h
    refine mm_iald hx hb hK hM 18 0 (me (by decide)) 0 rfl rfl (bin_in b_33) dX8_control_154 ?_
    refine lv_iconst (v := 1) hx hb dX8_control_155 (by decide) ?_
    refine lv_isub hx hb dX8_control_156 ?_
    obtain ⟨b_34, h⟩ := iteS h
    refine mm_iast hx hb hK hM hS 18 0 (me (by decide)) 0 rfl rfl (bin_in b_34) rfl dX8_control_157 (fun H locs hM hS => ?_)
    exact hb158 _ _ h _ _  hM hS ls (lv_sub hl [0, 1] rfl)
  have hb103 : ∀ (x1 : Int32) (x2 : Int32) (V : mM), jnX8_control_103 x1 x2 V = some res → ∀ (H : Heap) (locs : List Loc), mP (dC, dI) vwCl A ad (mce cI cZ ad) mex V H → va_S A s.heap H locs → ∀ (ls : Array Slot), lv_has ls 3 [(0, .ref (ad 0 0)), (1, .int x1), (2, .int x2)] → W p l e (headSpec wsX8_control ({ frames := 1, cells := 0, slots := 0, locals := 25 } : Room)).room s m ([.ref (ad 0 0), .int px1] : List Value).toArray below meth cd H locs 0 0 (MQ below (va_Qv (fun (_ : Unit) => True) (fun _ t9 => mR dC dI A ad cI cZ res t9) A) ([.ref (ad 0 0), .int px1] : List Value).toArray s 0 0 A) (F0 m 103 ls []) := by
    intro  x1 x2 V h H locs hM hS ls hl
    unfold jnX8_control_103 at h
    refine lv_aload_n hx hb dX8_control_103 rfl (lv_at hl 0 rfl) ?_
    refine mm_get (C := RX8) (T := TX8) (N := 48) (ci := 8) hx hb hts inX8 hown hK hM 0 0 me0 rfl rfl 17 (by decide) k48 (fun _ h9 => h9) rfl dX8_control_104 ?_
    refine lv_iload_n hx hb dX8_control_107 rfl (lv_at hl 1 rfl) ?_
    obtain ⟨b_35, h⟩ := iteS h
    refine mm_iald hx hb hK hM 18 0 (me (by decide)) 0 rfl rfl (bin_in b_35) dX8_control_108 ?_
    refine lv_iconst (v := 1) hx hb dX8_control_109 (by decide) ?_
    refine lv_icmp_le (tgt := 158) hx hb dX8_control_110 (by decide) (fun c_36 => ?_) (fun c_36 => ?_)
    · have h := iteT c_36 h
      exact hb158 _ _ h _ _  hM hS ls (lv_sub hl [0, 1] rfl)
    · have h := iteF c_36 h
      refine lv_aload_n hx hb dX8_control_113 rfl (lv_at hl 0 rfl) ?_
      refine mm_get (C := RX8) (T := TX8) (N := 48) (ci := 8) hx hb hts inX8 hown hK hM 0 0 me0 rfl rfl 30 (by decide) k88 (fun _ h9 => h9) rfl dX8_control_114 ?_
      refine lv_iload_n hx hb dX8_control_117 rfl (lv_at hl 2 rfl) ?_
      obtain ⟨b_37, h⟩ := iteS h
      refine mm_iald hx hb hK hM 31 0 (me (by decide)) 0 rfl rfl (bin_in b_37) dX8_control_118 ?_
      refine lv_if_ne (tgt := 158) hx hb dX8_control_119 (by decide) (fun c_38 => ?_) (fun c_38 => ?_)
      · have h := iteF c_38 h
        exact hb158 _ _ h _ _  hM hS ls (lv_sub hl [0, 1] rfl)
      · have h := iteT c_38 h
        refine lv_aload_n hx hb dX8_control_122 rfl (lv_at hl 0 rfl) ?_
        refine mm_get (C := RX8) (T := TX8) (N := 48) (ci := 8) hx hb hts inX8 hown hK hM 0 0 me0 rfl rfl 40 (by decide) k118 (fun _ h9 => h9) rfl dX8_control_123 ?_
        refine lv_iload_n hx hb dX8_control_126 rfl (lv_at hl 2 rfl) ?_
        obtain ⟨b_39, h⟩ := iteS h
        refine mm_iald hx hb hK hM 41 0 (me (by decide)) 0 rfl rfl (bin_in b_39) dX8_control_127 ?_
        refine lv_bipush (v := 10) hx hb dX8_control_128 (by decide) ?_
        refine lv_icmp_ge (tgt := 148) hx hb dX8_control_130 (by decide) (fun c_40 => ?_) (fun c_40 => ?_)
        · have h := iteT c_40 h
          exact hb148 _ _ h _ _  hM hS ls (lv_sub hl [0, 1] rfl)
        · have h := iteF c_40 h
          refine lv_aload_n hx hb dX8_control_133 rfl (lv_at hl 0 rfl) ?_
          refine mm_get (C := RX8) (T := TX8) (N := 48) (ci := 8) hx hb hts inX8 hown hK hM 0 0 me0 rfl rfl 40 (by decide) k118 (fun _ h9 => h9) rfl dX8_control_134 ?_
          refine lv_iload_n hx hb dX8_control_137 rfl (lv_at hl 2 rfl) ?_
          obtain ⟨b_41, h⟩ := iteS h
          refine mm_iald hx hb hK hM 41 0 (me (by decide)) 0 rfl rfl (bin_in b_41) dX8_control_138 ?_
          refine lv_aload_n hx hb dX8_control_139 rfl (lv_at hl 0 rfl) ?_
          refine mm_get (C := RX8) (T := TX8) (N := 48) (ci := 8) hx hb hts inX8 hown hK hM 0 0 me0 rfl rfl 41 (by decide) k121 (fun _ h9 => h9) rfl dX8_control_140 ?_
          refine lv_iload_n hx hb dX8_control_143 rfl (lv_at hl 2 rfl) ?_
          obtain ⟨b_42, h⟩ := iteS h
          refine mm_iald hx hb hK hM 42 0 (me (by decide)) 0 rfl rfl (bin_in b_42) dX8_control_144 ?_
          refine lv_icmp_lt (tgt := 158) hx hb dX8_control_145 (by decide) (fun c_43 => ?_) (fun c_43 => ?_)
          · have h := iteT c_43 h
            exact hb158 _ _ h _ _  hM hS ls (lv_sub hl [0, 1] rfl)
          · have h := iteF c_43 h
            exact hb148 _ _ h _ _  hM hS ls (lv_sub hl [0, 1] rfl)
  have hl := lv_entry ([.ref (ad 0 0), .int px1]) (n := 3) (Nat.le_of_ble_eq_true rfl)
  rw [lg_entry_eq]
  generalize (lg_sl ([.ref (ad 0 0), .int px1]) ++ List.replicate (3 - (lg_sl ([.ref (ad 0 0), .int px1])).length) Slot.unset).toArray = ls at hl ⊢
  have hl : lv_has ls 3 [(0, .ref (ad 0 0)), (1, .int px1)] := hl
  unfold fX8_control at h
  refine lv_iconst (v := 4) hx hb dX8_control_0 (by decide) ?_
  refine lv_iload_n hx hb dX8_control_1 rfl (lv_at hl 1 rfl) ?_
  refine lv_imul hx hb dX8_control_2 ?_
  refine lv_aload_n hx hb dX8_control_3 rfl (lv_at hl 0 rfl) ?_
  refine mm_get (C := RX8) (T := TX8) (N := 48) (ci := 8) hx hb hts inX8 hown hK hM 0 0 me0 rfl rfl 17 (by decide) k48 (fun _ h9 => h9) rfl dX8_control_4 ?_
  refine lv_iload_n hx hb dX8_control_7 rfl (lv_at hl 1 rfl) ?_
  obtain ⟨b_44, h⟩ := iteS h
  refine mm_iald hx hb hK hM 18 0 (me (by decide)) 0 rfl rfl (bin_in b_44) dX8_control_8 ?_
  refine lv_iadd hx hb dX8_control_9 ?_
  refine lv_iconst (v := 1) hx hb dX8_control_10 (by decide) ?_
  refine lv_isub hx hb dX8_control_11 ?_
  refine lv_istore_n (lv' := [(2, .int ((((4 : Int32) * px1) + (V0 18 0 (px1).toNatClampNeg)) - (1 : Int32))), (0, .ref (ad 0 0)), (1, .int px1)]) hx hb dX8_control_12 rfl hl (by decide) rfl (fun ls hl => ?_)
  refine lv_aload_n hx hb dX8_control_13 rfl (lv_at hl 1 rfl) ?_
  refine mm_get (C := RX8) (T := TX8) (N := 48) (ci := 8) hx hb hts inX8 hown hK hM 0 0 me0 rfl rfl 25 (by decide) k73 (fun _ h9 => h9) rfl dX8_control_14 ?_
  refine lv_iload_n hx hb dX8_control_17 rfl (lv_at hl 2 rfl) ?_
  obtain ⟨b_45, h⟩ := iteS h
  refine mm_iald hx hb hK hM 26 0 (me (by decide)) 0 rfl rfl (bin_in b_45) dX8_control_18 ?_
  refine lv_aload_n hx hb dX8_control_19 rfl (lv_at hl 1 rfl) ?_
  refine mm_get (C := RX8) (T := TX8) (N := 48) (ci := 8) hx hb hts inX8 hown hK hM 0 0 me0 rfl rfl 11 (by decide) k30 (fun _ h9 => h9) rfl dX8_control_20 ?_
  refine lv_iload_n hx hb dX8_control_23 rfl (lv_at hl 2 rfl) ?_
  obtain ⟨b_46, h⟩ := iteS h
  refine mm_iald hx hb hK hM 12 0 (me (by decide)) 0 rfl rfl (bin_in b_46) dX8_control_24 ?_
  refine lv_iconst (v := 2) hx hb dX8_control_25 (by decide) ?_
  refine lv_idiv hx hb dX8_control_26 (by decide) ?_
  refine lv_icmp_le (tgt := 103) hx hb dX8_control_27 (by decide) (fun c_47 => ?_) (fun c_47 => ?_)
  · have h := iteT c_47 h
    exact hb103 _ _ _ h _ _  hM hS ls (lv_sub hl [1, 2, 0] rfl)
  · have h := iteF c_47 h
    refine lv_aload_n hx hb dX8_control_30 rfl (lv_at hl 1 rfl) ?_
    refine mm_get (C := RX8) (T := TX8) (N := 48) (ci := 8) hx hb hts inX8 hown hK hM 0 0 me0 rfl rfl 17 (by decide) k48 (fun _ h9 => h9) rfl dX8_control_31 ?_
    refine lv_iload_n hx hb dX8_control_34 rfl (lv_at hl 2 rfl) ?_
    obtain ⟨b_48, h⟩ := iteS h
    refine mm_iald hx hb hK hM 18 0 (me (by decide)) 0 rfl rfl (bin_in b_48) dX8_control_35 ?_
    refine lv_aload_n hx hb dX8_control_36 rfl (lv_at hl 1 rfl) ?_
    refine mm_get (C := RX8) (T := TX8) (N := 48) (ci := 8) hx hb hts inX8 hown hK hM 0 0 me0 rfl rfl 18 (by decide) k51 (fun _ h9 => h9) rfl dX8_control_37 ?_
    refine lv_iload_n hx hb dX8_control_40 rfl (lv_at hl 2 rfl) ?_
    obtain ⟨b_49, h⟩ := iteS h
    refine mm_iald hx hb hK hM 19 0 (me (by decide)) 0 rfl rfl (bin_in b_49) dX8_control_41 ?_
    refine lv_icmp_ge (tgt := 103) hx hb dX8_control_42 (by decide) (fun c_50 => ?_) (fun c_50 => ?_)
    · have h := iteT c_50 h
      exact hb103 _ _ _ h _ _  hM hS ls (lv_sub hl [1, 2, 0] rfl)
    · have h := iteF c_50 h
      refine lv_aload_n hx hb dX8_control_45 rfl (lv_at hl 1 rfl) ?_
      refine mm_get (C := RX8) (T := TX8) (N := 48) (ci := 8) hx hb hts inX8 hown hK hM 0 0 me0 rfl rfl 40 (by decide) k118 (fun _ h9 => h9) rfl dX8_control_46 ?_
      refine lv_iload_n hx hb dX8_control_49 rfl (lv_at hl 0 rfl) ?_
      refine lv_iconst (v := 1) hx hb dX8_control_50 (by decide) ?_
      refine lv_iadd hx hb dX8_control_51 ?_
      refine lv_iconst (v := 0) hx hb dX8_control_52 (by decide) ?_
      obtain ⟨b_51, h⟩ := iteS h
      refine mm_iast hx hb hK hM hS 41 0 (me (by decide)) 0 rfl rfl (bin_in b_51) rfl dX8_control_53 (fun H locs hM hS => ?_)
      refine lv_aload_n hx hb dX8_control_54 rfl (lv_at hl 1 rfl) ?_
      refine mm_get (C := RX8) (T := TX8) (N := 48) (ci := 8) hx hb hts inX8 hown hK hM 0 0 me0 rfl rfl 41 (by decide) k121 (fun _ h9 => h9) rfl dX8_control_55 ?_
      refine lv_iload_n hx hb dX8_control_58 rfl (lv_at hl 0 rfl) ?_
      refine lv_iconst (v := 1) hx hb dX8_control_59 (by decide) ?_
      refine lv_iadd hx hb dX8_control_60 ?_
      refine lv_iconst (v := 0) hx hb dX8_control_61 (by decide) ?_
      obtain ⟨b_52, h⟩ := iteS h
      refine mm_iast hx hb hK hM hS 42 0 (me (by decide)) 0 rfl rfl (bin_in b_52) rfl dX8_control_62 (fun H locs hM hS => ?_)
      refine lv_aload_n hx hb dX8_control_63 rfl (lv_at hl 1 rfl) ?_
      refine mm_get (C := RX8) (T := TX8) (N := 48) (ci := 8) hx hb hts inX8 hown hK hM 0 0 me0 rfl rfl 30 (by decide) k88 (fun _ h9 => h9) rfl dX8_control_64 ?_
      refine lv_iload_n hx hb dX8_control_67 rfl (lv_at hl 0 rfl) ?_
      refine lv_iconst (v := 1) hx hb dX8_control_68 (by decide) ?_
      refine lv_iadd hx hb dX8_control_69 ?_
      refine lv_iconst (v := 0) hx hb dX8_control_70 (by decide) ?_
      obtain ⟨b_53, h⟩ := iteS h
      refine mm_iast hx hb hK hM hS 31 0 (me (by decide)) 0 rfl rfl (bin_in b_53) rfl dX8_control_71 (fun H locs hM hS => ?_)
      refine lv_aload_n hx hb dX8_control_72 rfl (lv_at hl 1 rfl) ?_
      refine mm_get (C := RX8) (T := TX8) (N := 48) (ci := 8) hx hb hts inX8 hown hK hM 0 0 me0 rfl rfl 32 (by decide) k94 (fun _ h9 => h9) rfl dX8_control_73 ?_
      refine lv_iload_n hx hb dX8_control_76 rfl (lv_at hl 0 rfl) ?_
      refine lv_iconst (v := 1) hx hb dX8_control_77 (by decide) ?_
      refine lv_iadd hx hb dX8_control_78 ?_
      refine lv_iconst (v := 0) hx hb dX8_control_79 (by decide) ?_
      obtain ⟨b_54, h⟩ := iteS h
      refine mm_iast hx hb hK hM hS 33 0 (me (by decide)) 0 rfl rfl (bin_in b_54) rfl dX8_control_80 (fun H locs hM hS => ?_)
      refine lv_aload_n hx hb dX8_control_81 rfl (lv_at hl 1 rfl) ?_
      refine mm_get (C := RX8) (T := TX8) (N := 48) (ci := 8) hx hb hts inX8 hown hK hM 0 0 me0 rfl rfl 33 (by decide) k97 (fun _ h9 => h9) rfl dX8_control_82 ?_
      refine lv_iload_n hx hb dX8_control_85 rfl (lv_at hl 0 rfl) ?_
      refine lv_iconst (v := 1) hx hb dX8_control_86 (by decide) ?_
      refine lv_iadd hx hb dX8_control_87 ?_
      refine lv_iconst (v := 0) hx hb dX8_control_88 (by decide) ?_
      obtain ⟨b_55, h⟩ := iteS h
      refine mm_zast (y := (0 : Int32)) hx hb hK hM hS 34 0 (me (by decide)) 1 rfl rfl (by decide) (bin_in b_55) rfl dX8_control_89 (fun H locs hM hS => ?_)
      refine lv_aload_n hx hb dX8_control_90 rfl (lv_at hl 1 rfl) ?_
      refine mm_get (C := RX8) (T := TX8) (N := 48) (ci := 8) hx hb hts inX8 hown hK hM 0 0 me0 rfl rfl 17 (by decide) k48 (fun _ h9 => h9) rfl dX8_control_91 ?_
      refine lv_iload_n hx hb dX8_control_94 rfl (lv_at hl 2 rfl) ?_
      refine lv_dup2_11 hx hb dX8_control_95 rfl rfl ?_
      obtain ⟨b_56, h⟩ := iteS h
      refine mm_iald hx hb hK hM 18 0 (me (by decide)) 0 rfl rfl (bin_in b_56) dX8_control_96 ?_
      refine lv_iconst (v := 1) hx hb dX8_control_97 (by decide) ?_
      refine lv_iadd hx hb dX8_control_98 ?_
      obtain ⟨b_57, h⟩ := iteS h
      refine mm_iast hx hb hK hM hS 18 0 (me (by decide)) 0 rfl rfl (bin_in b_57) rfl dX8_control_99 (fun H locs hM hS => ?_)
      refine lv_goto (tgt := 158) hx hb dX8_control_100 (by decide) ?_
      exact hb158 _ _ h _ _  hM hS ls (lv_sub hl [1, 2] rfl)
/-! X8_oneTick -/
def lpX8_oneTick_126   : Nat → Int32 → mM → Option (mM)
  | 0, _, _ => none
  | n9 + 1, x1, V => if (V 0 0 7) ≤ x1 then (some V) else (if ((V 0 0 0) - (V 0 0 0) / (10 : Int32) * (10 : Int32)) = 0 then ((fX8_control x1 V).bind fun u_3 => lpX8_oneTick_126 n9 (x1 + 1) u_3) else (some V))
def lpX8_oneTick_92  (ro82 : Int32 → mM → Option (mM)) : Nat → Int32 → Int32 → mM → Option (mM)
  | 0, _, _, _ => none
  | n9 + 1, x1, x2, V => if bin x1 8 = true then (if (V 18 0 (x1).toNatClampNeg) ≤ x2 then (ro82 (x1 + 1) V) else ((fX8_work x1 (((4 : Int32) * x1) + x2) V).bind fun u_6 => lpX8_oneTick_92 ro82 n9 x1 (x2 + 1) u_6)) else none
def lpX8_oneTick_82   : Nat → Int32 → mM → Option (mM)
  | 0, _, _ => none
  | n9 + 1, x1, V => if (V 0 0 7) ≤ x1 then (lpX8_oneTick_126 fu (0 : Int32) V) else (lpX8_oneTick_92 (lpX8_oneTick_82 n9) fu x1 (0 : Int32) V)
def jnX8_oneTick_69  (ro12 : Int32 → mM → Option (mM)) (x1 : Int32) (xs1 : Int32) (xs2 : Int32) (V : mM) : Option (mM) := if bin xs1 8 = true then (ro12 (x1 + 1) (mu V 14 0 (xs1).toNatClampNeg xs2)) else none
def lpX8_oneTick_12   : Nat → Int32 → mM → Option (mM)
  | 0, _, _ => none
  | n9 + 1, x1, V => if (V 0 0 7) ≤ x1 then ((fX8_ring V).bind fun u_10 => lpX8_oneTick_82 fu (0 : Int32) u_10) else (if bin x1 8 = true then (if bin x1 8 = true then (if bin x1 8 = true then (if ((V 14 0 (x1).toNatClampNeg) + (V 16 0 (x1).toNatClampNeg)) ≤ (V 15 0 (x1).toNatClampNeg) then (if bin x1 8 = true then (if bin x1 8 = true then (jnX8_oneTick_69 (lpX8_oneTick_12 n9) x1 x1 ((V 14 0 (x1).toNatClampNeg) + (V 16 0 (x1).toNatClampNeg)) V) else none) else none) else (if bin x1 8 = true then (jnX8_oneTick_69 (lpX8_oneTick_12 n9) x1 x1 (V 15 0 (x1).toNatClampNeg) V) else none)) else none) else none) else none)
def fX8_oneTick   (V0 : mM) : Option (mM) := lpX8_oneTick_12 fu (0 : Int32) (mu V0 0 0 0 ((V0 0 0 0) + (1 : Int32)))
set_option maxHeartbeats 4000000 in
set_option maxRecDepth 100000 in
theorem kX8_oneTick (l : Launch) {dC : Nat → ClassId} {dI : Nat → Nat → Nat} {A : Nat → Prop} {ad : Nat → Nat → Nat} {cI cZ : ClassId}   (V0 : mM) {res : mM} (h : fX8_oneTick V0 = some res) : Met l yX8_oneTick wsX8_oneTick ({ frames := 4, cells := 0, slots := 0, locals := 99 } : Room) (va_Pc [.ref (ad 0 0)] (fun U => mR dC dI A ad cI cZ V0 U)) (va_Qv (fun (_ : Unit) => True) (fun _ t9 => mR dC dI A ad cI cZ res t9) A) 0 0 A := by
  refine Met.ofW (cc := cX8_oneTick) (maxL := 3) (ret := none) (by decide) rfl ?_
  intro p e s m args below meth cd s₁ B hml hv
  obtain ⟨rfl, hM, hK, hAs⟩ := hv
  have hx := B.exec
  have hb := B.bytes
  have hr := B.returns
  have hts := atoms_spec (ws := wsX8_oneTick) B.pre
  have hown : s.vm.findClass RX8 = some m.cls := findClass_of_methodNamed B.named
  have hlocks := B.notSynchronized
  have hS : va_S A s.heap s.heap [] := va_S.rf
  have k136 := hts (.fieldLink RX8 136 "StageDeskModel" "stages" "I") (by decide +kernel)
  have k163 := hts (.fieldLink RX8 163 "StageDeskModel" "clock" "I") (by decide +kernel)
  have k48 := hts (.fieldLink RX8 48 "StageDeskModel" "workers" "[I") (by decide +kernel)
  have k36 := hts (.fieldLink RX8 36 "StageDeskModel" "tokens" "[I") (by decide +kernel)
  have k42 := hts (.fieldLink RX8 42 "StageDeskModel" "rates" "[I") (by decide +kernel)
  have k39 := hts (.fieldLink RX8 39 "StageDeskModel" "depths" "[I") (by decide +kernel)
  have inX8 : ∀ w ∈ u_ws RX8 TX8 48, w ∈ wsX8_oneTick := by decide +kernel
  have hb126 : ∀ (n9 : Nat), ∀ (x1 : Int32) (V : mM), lpX8_oneTick_126 n9 x1 V = some res → ∀ (H : Heap) (locs : List Loc), mP (dC, dI) vwCl A ad (mce cI cZ ad) mex V H → va_S A s.heap H locs → ∀ (ls : Array Slot), lv_has ls 3 [(0, .ref (ad 0 0)), (1, .int x1)] → W p l e (headSpec wsX8_oneTick ({ frames := 4, cells := 0, slots := 0, locals := 99 } : Room)).room s m ([.ref (ad 0 0)] : List Value).toArray below meth cd H locs 0 0 (MQ below (va_Qv (fun (_ : Unit) => True) (fun _ t9 => mR dC dI A ad cI cZ res t9) A) ([.ref (ad 0 0)] : List Value).toArray s 0 0 A) (F0 m 126 ls []) := by
    intro  n9
    induction n9 with
    | zero =>
      intro x1 V h H locs hM hS ls hl
      rw [lpX8_oneTick_126] at h
      cases h
    | succ n9 ih =>
      intro x1 V h H locs hM hS ls hl
      rw [lpX8_oneTick_126] at h
      refine lv_iload_n hx hb dX8_oneTick_126 rfl (lv_at hl 1 rfl) ?_
      refine lv_aload_n hx hb dX8_oneTick_127 rfl (lv_at hl 0 rfl) ?_
      refine mm_get (C := RX8) (T := TX8) (N := 48) (ci := 8) hx hb hts inX8 hown hK hM 0 0 me0 rfl rfl 7 (by decide) k136 (fun _ h9 => h9) rfl dX8_oneTick_128 ?_
      refine lv_icmp_ge (tgt := 155) hx hb dX8_oneTick_131 (by decide) (fun c_1 => ?_) (fun c_1 => ?_)
      · have h := iteT c_1 h
        have e9 : V = res := Option.some.inj h
        subst e9
        exact W.vret hx hb hr (fun t9 ht9 hW9 => ⟨⟨(), rfl, trivial, mR_of hM hK hAs hS.1 ht9 hW9⟩, hS.F ht9⟩) hS.2.2 dX8_oneTick_155
      · have h := iteF c_1 h
        refine lv_aload_n hx hb dX8_oneTick_134 rfl (lv_at hl 0 rfl) ?_
        refine mm_get (C := RX8) (T := TX8) (N := 48) (ci := 8) hx hb hts inX8 hown hK hM 0 0 me0 rfl rfl 0 (by decide) k163 (fun _ h9 => h9) rfl dX8_oneTick_135 ?_
        refine lv_bipush (v := 10) hx hb dX8_oneTick_138 (by decide) ?_
        refine lv_irem hx hb dX8_oneTick_140 (by decide) ?_
        refine lv_if_ne (tgt := 155) hx hb dX8_oneTick_141 (by decide) (fun c_2 => ?_) (fun c_2 => ?_)
        · have h := iteF c_2 h
          have e9 : V = res := Option.some.inj h
          subst e9
          exact W.vret hx hb hr (fun t9 ht9 hW9 => ⟨⟨(), rfl, trivial, mR_of hM hK hAs hS.1 ht9 hW9⟩, hS.F ht9⟩) hS.2.2 dX8_oneTick_155
        · have h := iteT c_2 h
          refine lv_aload_n hx hb dX8_oneTick_144 rfl (lv_at hl 0 rfl) ?_
          refine lv_iload_n hx hb dX8_oneTick_145 rfl (lv_at hl 1 rfl) ?_
          obtain ⟨u_3, hu_3, h⟩ := bindS h
          refine va_callv (va_runV (As := [.int x1]) (rest := []) ⟨hx, hb, hml, hown, hts⟩ (kX8_control l x1 V hu_3) (cwV 1 hts gX8_oneTick_X8_control rfl rfl rfl (by decide +kernel) ⟨Nat.le_of_ble_eq_true rfl, Nat.le_of_ble_eq_true rfl⟩) ⟨fun a U g9 mk w9 => ⟨w9.1, mR_calling w9.2⟩, mP_recv (q := (RX8, TX8, 48)) hK hM me0 rfl rfl, fun U hU hWm => ⟨rfl, mR_of hM hK hAs hS.1 hU hWm⟩⟩ rfl rfl hl.1 rfl (lv_room (Nat.le_of_ble_eq_true rfl)) dX8_oneTick_146 ⟨Nat.le_of_ble_eq_true rfl, Nat.le_of_ble_eq_true rfl⟩) hS (fun _ _ h9 => h9) (fun _ h9 => h9) (fun u9 t9 H locs ht9 _ hw9 hB9 _ _ hS => ?_)
          obtain ⟨hM, -, -⟩ := hB9
          rw [ht9] at hM
          refine lv_iinc (v := (x1 + 1)) (lv' := [(1, .int (x1 + 1)), (0, .ref (ad 0 0))]) hx hb dX8_oneTick_149 hl (k := 1) rfl rfl (by decide) rfl (fun ls hl => ?_)
          refine lv_goto (tgt := 126) hx hb dX8_oneTick_152 (by decide) ?_
          exact ih _ _ h _ _  hM hS ls (lv_sub hl [1, 0] rfl)
  have hb92 : ∀ (ro82 : Int32 → mM → Option (mM)) (hro82 : ∀ (x1 : Int32) (V : mM), ro82 x1 V = some res → ∀ (H : Heap) (locs : List Loc), mP (dC, dI) vwCl A ad (mce cI cZ ad) mex V H → va_S A s.heap H locs → ∀ (ls : Array Slot), lv_has ls 3 [(0, .ref (ad 0 0)), (1, .int x1)] → W p l e (headSpec wsX8_oneTick ({ frames := 4, cells := 0, slots := 0, locals := 99 } : Room)).room s m ([.ref (ad 0 0)] : List Value).toArray below meth cd H locs 0 0 (MQ below (va_Qv (fun (_ : Unit) => True) (fun _ t9 => mR dC dI A ad cI cZ res t9) A) ([.ref (ad 0 0)] : List Value).toArray s 0 0 A) (F0 m 82 ls [])) (n9 : Nat), ∀ (x1 : Int32) (x2 : Int32) (V : mM), lpX8_oneTick_92 ro82 n9 x1 x2 V = some res → ∀ (H : Heap) (locs : List Loc), mP (dC, dI) vwCl A ad (mce cI cZ ad) mex V H → va_S A s.heap H locs → ∀ (ls : Array Slot), lv_has ls 3 [(0, .ref (ad 0 0)), (1, .int x1), (2, .int x2)] → W p l e (headSpec wsX8_oneTick ({ frames := 4, cells := 0, slots := 0, locals := 99 } : Room)).room s m ([.ref (ad 0 0)] : List Value).toArray below meth cd H locs 0 0 (MQ below (va_Qv (fun (_ : Unit) => True) (fun _ t9 => mR dC dI A ad cI cZ res t9) A) ([.ref (ad 0 0)] : List Value).toArray s 0 0 A) (F0 m 92 ls []) := by
    intro ro82 hro82 n9
    induction n9 with
    | zero =>
      intro x1 x2 V h H locs hM hS ls hl
      rw [lpX8_oneTick_92] at h
      cases h
    | succ n9 ih =>
      intro x1 x2 V h H locs hM hS ls hl
      rw [lpX8_oneTick_92] at h
      refine lv_iload_n hx hb dX8_oneTick_92 rfl (lv_at hl 2 rfl) ?_
      refine lv_aload_n hx hb dX8_oneTick_93 rfl (lv_at hl 0 rfl) ?_
      refine mm_get (C := RX8) (T := TX8) (N := 48) (ci := 8) hx hb hts inX8 hown hK hM 0 0 me0 rfl rfl 17 (by decide) k48 (fun _ h9 => h9) rfl dX8_oneTick_94 ?_
      refine lv_iload_n hx hb dX8_oneTick_97 rfl (lv_at hl 1 rfl) ?_
      obtain ⟨b_4, h⟩ := iteS h
      refine mm_iald hx hb hK hM 18 0 (me (by decide)) 0 rfl rfl (bin_in b_4) dX8_oneTick_98 ?_
      refine lv_icmp_ge (tgt := 118) hx hb dX8_oneTick_99 (by decide) (fun c_5 => ?_) (fun c_5 => ?_)
      · have h := iteT c_5 h
        refine lv_iinc (v := (x1 + 1)) (lv' := [(1, .int (x1 + 1)), (0, .ref (ad 0 0)), (2, .int x2)]) hx hb dX8_oneTick_118 hl (k := 1) rfl rfl (by decide) rfl (fun ls hl => ?_)
        refine lv_goto (tgt := 82) hx hb dX8_oneTick_121 (by decide) ?_
        exact hro82 _ _ h _ _  hM hS ls (lv_sub hl [1, 0] rfl)
      · have h := iteF c_5 h
        refine lv_aload_n hx hb dX8_oneTick_102 rfl (lv_at hl 0 rfl) ?_
        refine lv_iload_n hx hb dX8_oneTick_103 rfl (lv_at hl 1 rfl) ?_
        refine lv_iconst (v := 4) hx hb dX8_oneTick_104 (by decide) ?_
        refine lv_iload_n hx hb dX8_oneTick_105 rfl (lv_at hl 1 rfl) ?_
        refine lv_imul hx hb dX8_oneTick_106 ?_
        refine lv_iload_n hx hb dX8_oneTick_107 rfl (lv_at hl 2 rfl) ?_
        refine lv_iadd hx hb dX8_oneTick_108 ?_
        obtain ⟨u_6, hu_6, h⟩ := bindS h
        refine va_callv (va_runV (As := [.int x1, .int (((4 : Int32) * x1) + x2)]) (rest := []) ⟨hx, hb, hml, hown, hts⟩ (kX8_work l x1 (((4 : Int32) * x1) + x2) V hu_6) (cwV 2 hts gX8_oneTick_X8_work rfl rfl rfl (by decide +kernel) ⟨Nat.le_of_ble_eq_true rfl, Nat.le_of_ble_eq_true rfl⟩) ⟨fun a U g9 mk w9 => ⟨w9.1, mR_calling w9.2⟩, mP_recv (q := (RX8, TX8, 48)) hK hM me0 rfl rfl, fun U hU hWm => ⟨rfl, mR_of hM hK hAs hS.1 hU hWm⟩⟩ rfl rfl hl.1 rfl (lv_room (Nat.le_of_ble_eq_true rfl)) dX8_oneTick_109 ⟨Nat.le_of_ble_eq_true rfl, Nat.le_of_ble_eq_true rfl⟩) hS (fun _ _ h9 => h9) (fun _ h9 => h9) (fun u9 t9 H locs ht9 _ hw9 hB9 _ _ hS => ?_)
        obtain ⟨hM, -, -⟩ := hB9
        rw [ht9] at hM
        refine lv_iinc (v := (x2 + 1)) (lv' := [(2, .int (x2 + 1)), (0, .ref (ad 0 0)), (1, .int x1)]) hx hb dX8_oneTick_112 hl (k := 2) rfl rfl (by decide) rfl (fun ls hl => ?_)
        refine lv_goto (tgt := 92) hx hb dX8_oneTick_115 (by decide) ?_
        exact ih _ _ _ h _ _  hM hS ls (lv_sub hl [1, 2, 0] rfl)
  have hb82 : ∀ (n9 : Nat), ∀ (x1 : Int32) (V : mM), lpX8_oneTick_82 n9 x1 V = some res → ∀ (H : Heap) (locs : List Loc), mP (dC, dI) vwCl A ad (mce cI cZ ad) mex V H → va_S A s.heap H locs → ∀ (ls : Array Slot), lv_has ls 3 [(0, .ref (ad 0 0)), (1, .int x1)] → W p l e (headSpec wsX8_oneTick ({ frames := 4, cells := 0, slots := 0, locals := 99 } : Room)).room s m ([.ref (ad 0 0)] : List Value).toArray below meth cd H locs 0 0 (MQ below (va_Qv (fun (_ : Unit) => True) (fun _ t9 => mR dC dI A ad cI cZ res t9) A) ([.ref (ad 0 0)] : List Value).toArray s 0 0 A) (F0 m 82 ls []) := by
    intro  n9
    induction n9 with
    | zero =>
      intro x1 V h H locs hM hS ls hl
      rw [lpX8_oneTick_82] at h
      cases h
    | succ n9 ih =>
      intro x1 V h H locs hM hS ls hl
      rw [lpX8_oneTick_82] at h
      refine lv_iload_n hx hb dX8_oneTick_82 rfl (lv_at hl 1 rfl) ?_
      refine lv_aload_n hx hb dX8_oneTick_83 rfl (lv_at hl 0 rfl) ?_
      refine mm_get (C := RX8) (T := TX8) (N := 48) (ci := 8) hx hb hts inX8 hown hK hM 0 0 me0 rfl rfl 7 (by decide) k136 (fun _ h9 => h9) rfl dX8_oneTick_84 ?_
      refine lv_icmp_ge (tgt := 124) hx hb dX8_oneTick_87 (by decide) (fun c_7 => ?_) (fun c_7 => ?_)
      · have h := iteT c_7 h
        refine lv_iconst (v := 0) hx hb dX8_oneTick_124 (by decide) ?_
        refine lv_istore_n (lv' := [(1, .int (0 : Int32)), (0, .ref (ad 0 0))]) hx hb dX8_oneTick_125 rfl hl (by decide) rfl (fun ls hl => ?_)
        exact hb126 fu _ _ h _ _  hM hS ls (lv_sub hl [1, 0] rfl)
      · have h := iteF c_7 h
        refine lv_iconst (v := 0) hx hb dX8_oneTick_90 (by decide) ?_
        refine lv_istore_n (lv' := [(2, .int (0 : Int32)), (0, .ref (ad 0 0)), (1, .int x1)]) hx hb dX8_oneTick_91 rfl hl (by decide) rfl (fun ls hl => ?_)
        exact hb92 (lpX8_oneTick_82 n9) ih fu _ _ _ h _ _  hM hS ls (lv_sub hl [1, 2, 0] rfl)
  have hb69 : ∀ (ro12 : Int32 → mM → Option (mM)) (hro12 : ∀ (x1 : Int32) (V : mM), ro12 x1 V = some res → ∀ (H : Heap) (locs : List Loc), mP (dC, dI) vwCl A ad (mce cI cZ ad) mex V H → va_S A s.heap H locs → ∀ (ls : Array Slot), lv_has ls 3 [(0, .ref (ad 0 0)), (1, .int x1)] → W p l e (headSpec wsX8_oneTick ({ frames := 4, cells := 0, slots := 0, locals := 99 } : Room)).room s m ([.ref (ad 0 0)] : List Value).toArray below meth cd H locs 0 0 (MQ below (va_Qv (fun (_ : Unit) => True) (fun _ t9 => mR dC dI A ad cI cZ res t9) A) ([.ref (ad 0 0)] : List Value).toArray s 0 0 A) (F0 m 12 ls [])), ∀ (x1 : Int32) (xs1 : Int32) (xs2 : Int32) (V : mM), jnX8_oneTick_69 ro12 x1 xs1 xs2 V = some res → ∀ (H : Heap) (locs : List Loc), mP (dC, dI) vwCl A ad (mce cI cZ ad) mex V H → va_S A s.heap H locs → ∀ (ls : Array Slot), lv_has ls 3 [(0, .ref (ad 0 0)), (1, .int x1)] → W p l e (headSpec wsX8_oneTick ({ frames := 4, cells := 0, slots := 0, locals := 99 } : Room)).room s m ([.ref (ad 0 0)] : List Value).toArray below meth cd H locs 0 0 (MQ below (va_Qv (fun (_ : Unit) => True) (fun _ t9 => mR dC dI A ad cI cZ res t9) A) ([.ref (ad 0 0)] : List Value).toArray s 0 0 A) (F0 m 69 ls [.int xs2, .int xs1, .ref (ad 14 0)]) := by
    intro ro12 hro12 x1 xs1 xs2 V h H locs hM hS ls hl
    unfold jnX8_oneTick_69 at h
    obtain ⟨b_8, h⟩ := iteS h
    refine mm_iast hx hb hK hM hS 14 0 (me (by decide)) 0 rfl rfl (bin_in b_8) rfl dX8_oneTick_69 (fun H locs hM hS => ?_)
    refine lv_iinc (v := (x1 + 1)) (lv' := [(1, .int (x1 + 1)), (0, .ref (ad 0 0))]) hx hb dX8_oneTick_70 hl (k := 1) rfl rfl (by decide) rfl (fun ls hl => ?_)
    refine lv_goto (tgt := 12) hx hb dX8_oneTick_73 (by decide) ?_
    exact hro12 _ _ h _ _  hM hS ls (lv_sub hl [1, 0] rfl)
  have hb12 : ∀ (n9 : Nat), ∀ (x1 : Int32) (V : mM), lpX8_oneTick_12 n9 x1 V = some res → ∀ (H : Heap) (locs : List Loc), mP (dC, dI) vwCl A ad (mce cI cZ ad) mex V H → va_S A s.heap H locs → ∀ (ls : Array Slot), lv_has ls 3 [(0, .ref (ad 0 0)), (1, .int x1)] → W p l e (headSpec wsX8_oneTick ({ frames := 4, cells := 0, slots := 0, locals := 99 } : Room)).room s m ([.ref (ad 0 0)] : List Value).toArray below meth cd H locs 0 0 (MQ below (va_Qv (fun (_ : Unit) => True) (fun _ t9 => mR dC dI A ad cI cZ res t9) A) ([.ref (ad 0 0)] : List Value).toArray s 0 0 A) (F0 m 12 ls []) := by
    intro  n9
    induction n9 with
    | zero =>
      intro x1 V h H locs hM hS ls hl
      rw [lpX8_oneTick_12] at h
      cases h
    | succ n9 ih =>
      intro x1 V h H locs hM hS ls hl
      rw [lpX8_oneTick_12] at h
      refine lv_iload_n hx hb dX8_oneTick_12 rfl (lv_at hl 1 rfl) ?_
      refine lv_aload_n hx hb dX8_oneTick_13 rfl (lv_at hl 0 rfl) ?_
      refine mm_get (C := RX8) (T := TX8) (N := 48) (ci := 8) hx hb hts inX8 hown hK hM 0 0 me0 rfl rfl 7 (by decide) k136 (fun _ h9 => h9) rfl dX8_oneTick_14 ?_
      refine lv_icmp_ge (tgt := 76) hx hb dX8_oneTick_17 (by decide) (fun c_9 => ?_) (fun c_9 => ?_)
      · have h := iteT c_9 h
        refine lv_aload_n hx hb dX8_oneTick_76 rfl (lv_at hl 0 rfl) ?_
        obtain ⟨u_10, hu_10, h⟩ := bindS h
        refine va_callv (va_runV (As := []) (rest := []) ⟨hx, hb, hml, hown, hts⟩ (kX8_ring l V hu_10) (cwV 0 hts gX8_oneTick_X8_ring rfl rfl rfl (by decide +kernel) ⟨Nat.le_of_ble_eq_true rfl, Nat.le_of_ble_eq_true rfl⟩) ⟨fun a U g9 mk w9 => ⟨w9.1, mR_calling w9.2⟩, mP_recv (q := (RX8, TX8, 48)) hK hM me0 rfl rfl, fun U hU hWm => ⟨rfl, mR_of hM hK hAs hS.1 hU hWm⟩⟩ rfl rfl hl.1 rfl (lv_room (Nat.le_of_ble_eq_true rfl)) dX8_oneTick_77 ⟨Nat.le_of_ble_eq_true rfl, Nat.le_of_ble_eq_true rfl⟩) hS (fun _ _ h9 => h9) (fun _ h9 => h9) (fun u9 t9 H locs ht9 _ hw9 hB9 _ _ hS => ?_)
        obtain ⟨hM, -, -⟩ := hB9
        rw [ht9] at hM
        refine lv_iconst (v := 0) hx hb dX8_oneTick_80 (by decide) ?_
        refine lv_istore_n (lv' := [(1, .int (0 : Int32)), (0, .ref (ad 0 0))]) hx hb dX8_oneTick_81 rfl hl (by decide) rfl (fun ls hl => ?_)
        exact hb82 fu _ _ h _ _  hM hS ls (lv_sub hl [1, 0] rfl)
      · have h := iteF c_9 h
        refine lv_aload_n hx hb dX8_oneTick_20 rfl (lv_at hl 0 rfl) ?_
        refine mm_get (C := RX8) (T := TX8) (N := 48) (ci := 8) hx hb hts inX8 hown hK hM 0 0 me0 rfl rfl 13 (by decide) k36 (fun _ h9 => h9) rfl dX8_oneTick_21 ?_
        refine lv_iload_n hx hb dX8_oneTick_24 rfl (lv_at hl 1 rfl) ?_
        refine lv_aload_n hx hb dX8_oneTick_25 rfl (lv_at hl 0 rfl) ?_
        refine mm_get (C := RX8) (T := TX8) (N := 48) (ci := 8) hx hb hts inX8 hown hK hM 0 0 me0 rfl rfl 13 (by decide) k36 (fun _ h9 => h9) rfl dX8_oneTick_26 ?_
        refine lv_iload_n hx hb dX8_oneTick_29 rfl (lv_at hl 1 rfl) ?_
        obtain ⟨b_11, h⟩ := iteS h
        refine mm_iald hx hb hK hM 14 0 (me (by decide)) 0 rfl rfl (bin_in b_11) dX8_oneTick_30 ?_
        refine lv_aload_n hx hb dX8_oneTick_31 rfl (lv_at hl 0 rfl) ?_
        refine mm_get (C := RX8) (T := TX8) (N := 48) (ci := 8) hx hb hts inX8 hown hK hM 0 0 me0 rfl rfl 15 (by decide) k42 (fun _ h9 => h9) rfl dX8_oneTick_32 ?_
        refine lv_iload_n hx hb dX8_oneTick_35 rfl (lv_at hl 1 rfl) ?_
        obtain ⟨b_12, h⟩ := iteS h
        refine mm_iald hx hb hK hM 16 0 (me (by decide)) 0 rfl rfl (bin_in b_12) dX8_oneTick_36 ?_
        refine lv_iadd hx hb dX8_oneTick_37 ?_
        refine lv_aload_n hx hb dX8_oneTick_38 rfl (lv_at hl 0 rfl) ?_
        refine mm_get (C := RX8) (T := TX8) (N := 48) (ci := 8) hx hb hts inX8 hown hK hM 0 0 me0 rfl rfl 14 (by decide) k39 (fun _ h9 => h9) rfl dX8_oneTick_39 ?_
        refine lv_iload_n hx hb dX8_oneTick_42 rfl (lv_at hl 1 rfl) ?_
        obtain ⟨b_13, h⟩ := iteS h
        refine mm_iald hx hb hK hM 15 0 (me (by decide)) 0 rfl rfl (bin_in b_13) dX8_oneTick_43 ?_
        refine lv_icmp_le (tgt := 56) hx hb dX8_oneTick_44 (by decide) (fun c_14 => ?_) (fun c_14 => ?_)
        · have h := iteT c_14 h
          refine lv_aload_n hx hb dX8_oneTick_56 rfl (lv_at hl 0 rfl) ?_
          refine mm_get (C := RX8) (T := TX8) (N := 48) (ci := 8) hx hb hts inX8 hown hK hM 0 0 me0 rfl rfl 13 (by decide) k36 (fun _ h9 => h9) rfl dX8_oneTick_57 ?_
          refine lv_iload_n hx hb dX8_oneTick_60 rfl (lv_at hl 1 rfl) ?_
          obtain ⟨b_15, h⟩ := iteS h
          refine mm_iald hx hb hK hM 14 0 (me (by decide)) 0 rfl rfl (bin_in b_15) dX8_oneTick_61 ?_
          refine lv_aload_n hx hb dX8_oneTick_62 rfl (lv_at hl 0 rfl) ?_
          refine mm_get (C := RX8) (T := TX8) (N := 48) (ci := 8) hx hb hts inX8 hown hK hM 0 0 me0 rfl rfl 15 (by decide) k42 (fun _ h9 => h9) rfl dX8_oneTick_63 ?_
          refine lv_iload_n hx hb dX8_oneTick_66 rfl (lv_at hl 1 rfl) ?_
          obtain ⟨b_16, h⟩ := iteS h
          refine mm_iald hx hb hK hM 16 0 (me (by decide)) 0 rfl rfl (bin_in b_16) dX8_oneTick_67 ?_
          refine lv_iadd hx hb dX8_oneTick_68 ?_
          exact hb69 (lpX8_oneTick_12 n9) ih _ _ _ _ h _ _  hM hS ls (lv_sub hl [0, 1] rfl)
        · have h := iteF c_14 h
          refine lv_aload_n hx hb dX8_oneTick_47 rfl (lv_at hl 0 rfl) ?_
          refine mm_get (C := RX8) (T := TX8) (N := 48) (ci := 8) hx hb hts inX8 hown hK hM 0 0 me0 rfl rfl 14 (by decide) k39 (fun _ h9 => h9) rfl dX8_oneTick_48 ?_
          refine lv_iload_n hx hb dX8_oneTick_51 rfl (lv_at hl 1 rfl) ?_
          obtain ⟨b_17, h⟩ := iteS h
          refine mm_iald hx hb hK hM 15 0 (me (by decide)) 0 rfl rfl (bin_in b_17) dX8_oneTick_52 ?_
          refine lv_goto (tgt := 69) hx hb dX8_oneTick_53 (by decide) ?_
          exact hb69 (lpX8_oneTick_12 n9) ih _ _ _ _ h _ _  hM hS ls (lv_sub hl [0, 1] rfl)
  have hl := lv_entry ([.ref (ad 0 0)]) (n := 3) (Nat.le_of_ble_eq_true rfl)
  rw [lg_entry_eq]
  generalize (lg_sl ([.ref (ad 0 0)]) ++ List.replicate (3 - (lg_sl ([.ref (ad 0 0)])).length) Slot.unset).toArray = ls at hl ⊢
  have hl : lv_has ls 3 [(0, .ref (ad 0 0))] := hl
  unfold fX8_oneTick at h
  refine lv_aload_n hx hb dX8_oneTick_0 rfl (lv_at hl 0 rfl) ?_
  refine lv_dup hx hb dX8_oneTick_1 rfl ?_
  refine mm_get (C := RX8) (T := TX8) (N := 48) (ci := 8) hx hb hts inX8 hown hK hM 0 0 me0 rfl rfl 0 (by decide) k163 (fun _ h9 => h9) rfl dX8_oneTick_2 ?_
  refine lv_iconst (v := 1) hx hb dX8_oneTick_5 (by decide) ?_
  refine lv_iadd hx hb dX8_oneTick_6 ?_
  refine mm_put (C := RX8) (T := TX8) (N := 48) (ci := 8) (ty := .int) hx hb hts inX8 tyX8 tyX8_ok nmX8 hown hK hM hS 0 0 me0 rfl rfl 0 (by decide) k163 (fun _ h9 => h9) rfl (by decide +kernel) rfl rfl (Nat.le_of_ble_eq_true rfl) ((V0 0 0 0) + (1 : Int32)) rfl dX8_oneTick_7 (fun H locs hM hS => ?_)
  refine lv_iconst (v := 0) hx hb dX8_oneTick_10 (by decide) ?_
  refine lv_istore_n (lv' := [(1, .int (0 : Int32)), (0, .ref (ad 0 0))]) hx hb dX8_oneTick_11 rfl hl (by decide) rfl (fun ls hl => ?_)
  exact hb12 fu _ _ h _ _  hM hS ls (lv_sub hl [1, 0] rfl)
/-! X8_tick -/
def lpX8_tick_29   : Nat → Int32 → Int32 → mM → Option (Int32 × mM)
  | 0, _, _, _ => none
  | n9 + 1, x1, x2, V => if x1 ≤ x2 then (some ((V 0 0 0), V)) else ((fX8_oneTick V).bind fun u_2 => lpX8_tick_29 n9 x1 (x2 + 1) u_2)
def fX8_tick  (px1 : Int32) (V0 : mM) : Option (Int32 × mM) := (fX8_in px1 (1 : Int32) (50 : Int32) V0).bind fun u_3 => if u_3 = 0 then (some ((-1 : Int32), V0)) else (if ((V0 0 0 0) + px1) ≤ (400 : Int32) then (lpX8_tick_29 fu px1 (0 : Int32) V0) else (some ((-2 : Int32), V0)))
set_option maxHeartbeats 4000000 in
set_option maxRecDepth 100000 in
theorem kX8_tick (l : Launch) {dC : Nat → ClassId} {dI : Nat → Nat → Nat} {A : Nat → Prop} {ad : Nat → Nat → Nat} {cI cZ : ClassId}  (px1 : Int32) (V0 : mM) {res : Int32 × mM} (h : fX8_tick px1 V0 = some res) : Met l yX8_tick wsX8_tick ({ frames := 5, cells := 0, slots := 0, locals := 121 } : Room) (va_Pc [.ref (ad 0 0), .int px1] (fun U => mR dC dI A ad cI cZ V0 U)) (va_Qi (fun r9 (_ : Unit) => r9 = res.1) (fun _ t9 => mR dC dI A ad cI cZ res.2 t9) A) 0 0 A := by
  refine Met.ofW (cc := cX8_tick) (maxL := 3) (ret := (some .int)) (by decide) rfl ?_
  intro p e s m args below meth cd s₁ B hml hv
  obtain ⟨rfl, hM, hK, hAs⟩ := hv
  have hx := B.exec
  have hb := B.bytes
  have hr := B.returns
  have hts := atoms_spec (ws := wsX8_tick) B.pre
  have hown : s.vm.findClass RX8 = some m.cls := findClass_of_methodNamed B.named
  have hlocks := B.notSynchronized
  have hS : va_S A s.heap s.heap [] := va_S.rf
  have k163 := hts (.fieldLink RX8 163 "StageDeskModel" "clock" "I") (by decide +kernel)
  have inX8 : ∀ w ∈ u_ws RX8 TX8 48, w ∈ wsX8_tick := by decide +kernel
  have hb29 : ∀ (n9 : Nat), ∀ (x1 : Int32) (x2 : Int32) (V : mM), lpX8_tick_29 n9 x1 x2 V = some res → ∀ (H : Heap) (locs : List Loc), mP (dC, dI) vwCl A ad (mce cI cZ ad) mex V H → va_S A s.heap H locs → ∀ (ls : Array Slot), lv_has ls 3 [(0, .ref (ad 0 0)), (1, .int x1), (2, .int x2)] → W p l e (headSpec wsX8_tick ({ frames := 5, cells := 0, slots := 0, locals := 121 } : Room)).room s m ([.ref (ad 0 0), .int px1] : List Value).toArray below meth cd H locs 0 0 (MQ below (va_Qi (fun r9 (_ : Unit) => r9 = res.1) (fun _ t9 => mR dC dI A ad cI cZ res.2 t9) A) ([.ref (ad 0 0), .int px1] : List Value).toArray s 0 0 A) (F0 m 29 ls []) := by
    intro  n9
    induction n9 with
    | zero =>
      intro x1 x2 V h H locs hM hS ls hl
      rw [lpX8_tick_29] at h
      cases h
    | succ n9 ih =>
      intro x1 x2 V h H locs hM hS ls hl
      rw [lpX8_tick_29] at h
      refine lv_iload_n hx hb dX8_tick_29 rfl (lv_at hl 2 rfl) ?_
      refine lv_iload_n hx hb dX8_tick_30 rfl (lv_at hl 1 rfl) ?_
      refine lv_icmp_ge (tgt := 44) hx hb dX8_tick_31 (by decide) (fun c_1 => ?_) (fun c_1 => ?_)
      · have h := iteT c_1 h
        refine lv_aload_n hx hb dX8_tick_44 rfl (lv_at hl 0 rfl) ?_
        refine mm_get (C := RX8) (T := TX8) (N := 48) (ci := 8) hx hb hts inX8 hown hK hM 0 0 me0 rfl rfl 0 (by decide) k163 (fun _ h9 => h9) rfl dX8_tick_45 ?_
        have e9 : ((V 0 0 0), V) = res := Option.some.inj h
        subst e9
        exact W.iret (v := (V 0 0 0)) hx hb hr (fun t9 ht9 hW9 => ⟨⟨_, (), rfl, rfl, mR_of hM hK hAs hS.1 ht9 hW9⟩, hS.F ht9⟩) hS.2.2 dX8_tick_48
      · have h := iteF c_1 h
        refine lv_aload_n hx hb dX8_tick_34 rfl (lv_at hl 0 rfl) ?_
        obtain ⟨u_2, hu_2, h⟩ := bindS h
        refine va_callv (va_runV (As := []) (rest := []) ⟨hx, hb, hml, hown, hts⟩ (kX8_oneTick l V hu_2) (cwV 0 hts gX8_tick_X8_oneTick rfl rfl rfl (by decide +kernel) ⟨Nat.le_of_ble_eq_true rfl, Nat.le_of_ble_eq_true rfl⟩) ⟨fun a U g9 mk w9 => ⟨w9.1, mR_calling w9.2⟩, mP_recv (q := (RX8, TX8, 48)) hK hM me0 rfl rfl, fun U hU hWm => ⟨rfl, mR_of hM hK hAs hS.1 hU hWm⟩⟩ rfl rfl hl.1 rfl (lv_room (Nat.le_of_ble_eq_true rfl)) dX8_tick_35 ⟨Nat.le_of_ble_eq_true rfl, Nat.le_of_ble_eq_true rfl⟩) hS (fun _ _ h9 => h9) (fun _ h9 => h9) (fun u9 t9 H locs ht9 _ hw9 hB9 _ _ hS => ?_)
        obtain ⟨hM, -, -⟩ := hB9
        rw [ht9] at hM
        refine lv_iinc (v := (x2 + 1)) (lv' := [(2, .int (x2 + 1)), (0, .ref (ad 0 0)), (1, .int x1)]) hx hb dX8_tick_38 hl (k := 2) rfl rfl (by decide) rfl (fun ls hl => ?_)
        refine lv_goto (tgt := 29) hx hb dX8_tick_41 (by decide) ?_
        exact ih _ _ _ h _ _  hM hS ls (lv_sub hl [1, 2, 0] rfl)
  have hl := lv_entry ([.ref (ad 0 0), .int px1]) (n := 3) (Nat.le_of_ble_eq_true rfl)
  rw [lg_entry_eq]
  generalize (lg_sl ([.ref (ad 0 0), .int px1]) ++ List.replicate (3 - (lg_sl ([.ref (ad 0 0), .int px1])).length) Slot.unset).toArray = ls at hl ⊢
  have hl : lv_has ls 3 [(0, .ref (ad 0 0)), (1, .int px1)] := hl
  unfold fX8_tick at h
  refine lv_iload_n hx hb dX8_tick_0 rfl (lv_at hl 1 rfl) ?_
  refine lv_iconst (v := 1) hx hb dX8_tick_1 (by decide) ?_
  refine lv_bipush (v := 50) hx hb dX8_tick_2 (by decide) ?_
  obtain ⟨u_3, hu_3, h⟩ := bindS h
  refine va_calli (va_runS (As := [.int px1, .int (1 : Int32), .int (50 : Int32)]) (rest := []) ⟨hx, hb, hml, hown, hts⟩ (kX8_in l px1 (1 : Int32) (50 : Int32) V0 hu_3) (va_cwS 3 hts gX8_tick_X8_in rfl rfl rfl (by decide +kernel) ⟨Nat.le_of_ble_eq_true rfl, Nat.le_of_ble_eq_true rfl⟩) ⟨fun a U g9 mk w9 => ⟨w9.1, mR_calling w9.2⟩, fun U hU hWm => ⟨rfl, mR_of hM hK hAs hS.1 hU hWm⟩⟩ rfl rfl hl.1 rfl (lv_room (Nat.le_of_ble_eq_true rfl)) dX8_tick_4 ⟨Nat.le_of_ble_eq_true rfl, Nat.le_of_ble_eq_true rfl⟩) hS (fun _ _ h9 => h9) (fun _ h9 => h9) (fun r9 u9 t9 H locs ht9 _ hw9 hB9 _ _ hS => ?_)
  rw [show r9 = u_3 from hw9]
  obtain ⟨hM, -, -⟩ := hB9
  rw [ht9] at hM
  refine lv_if_ne (tgt := 12) hx hb dX8_tick_7 (by decide) (fun c_4 => ?_) (fun c_4 => ?_)
  · have h := iteF c_4 h
    refine lv_aload_n hx hb dX8_tick_12 rfl (lv_at hl 0 rfl) ?_
    refine mm_get (C := RX8) (T := TX8) (N := 48) (ci := 8) hx hb hts inX8 hown hK hM 0 0 me0 rfl rfl 0 (by decide) k163 (fun _ h9 => h9) rfl dX8_tick_13 ?_
    refine lv_iload_n hx hb dX8_tick_16 rfl (lv_at hl 1 rfl) ?_
    refine lv_iadd hx hb dX8_tick_17 ?_
    refine lv_sipush (v := 400) hx hb dX8_tick_18 (by decide) ?_
    refine lv_icmp_le (tgt := 27) hx hb dX8_tick_21 (by decide) (fun c_5 => ?_) (fun c_5 => ?_)
    · have h := iteT c_5 h
      refine lv_iconst (v := 0) hx hb dX8_tick_27 (by decide) ?_
      refine lv_istore_n (lv' := [(2, .int (0 : Int32)), (0, .ref (ad 0 0)), (1, .int px1)]) hx hb dX8_tick_28 rfl hl (by decide) rfl (fun ls hl => ?_)
      exact hb29 fu _ _ _ h _ _  hM hS ls (lv_sub hl [1, 2, 0] rfl)
    · have h := iteF c_5 h
      refine lv_bipush (v := (-2)) hx hb dX8_tick_24 (by decide) ?_
      have e9 : ((-2 : Int32), V0) = res := Option.some.inj h
      subst e9
      exact W.iret (v := (-2 : Int32)) hx hb hr (fun t9 ht9 hW9 => ⟨⟨_, (), rfl, rfl, mR_of hM hK hAs hS.1 ht9 hW9⟩, hS.F ht9⟩) hS.2.2 dX8_tick_26
  · have h := iteT c_4 h
    refine lv_iconst (v := (-1)) hx hb dX8_tick_10 (by decide) ?_
    have e9 : ((-1 : Int32), V0) = res := Option.some.inj h
    subst e9
    exact W.iret (v := (-1 : Int32)) hx hb hr (fun t9 ht9 hW9 => ⟨⟨_, (), rfl, rfl, mR_of hM hK hAs hS.1 ht9 hW9⟩, hS.F ht9⟩) hS.2.2 dX8_tick_11
/-! X8_told -/
def fX8_told  (px1 : Int32) (px2 : Int32) (V0 : mM) : Option (Int32 × mM) := (fX8_isStage px1 V0).bind fun u_1 => if u_1 = 0 then (some ((-1 : Int32), V0)) else (if px2 = 0 then (if bin px1 8 = true then (some ((V0 26 0 (px1).toNatClampNeg), V0)) else none) else if px2 = 1 then (if bin px1 8 = true then (some ((V0 13 0 (px1).toNatClampNeg), V0)) else none) else if px2 = 2 then (if bin px1 8 = true then (some ((V0 18 0 (px1).toNatClampNeg), V0)) else none) else if px2 = 3 then (if bin px1 8 = true then (some ((V0 20 0 (px1).toNatClampNeg), V0)) else none) else if px2 = 4 then (if bin px1 8 = true then (some ((V0 16 0 (px1).toNatClampNeg), V0)) else none) else if px2 = 5 then (if bin px1 8 = true then (some ((V0 14 0 (px1).toNatClampNeg), V0)) else none) else if px2 = 6 then (if bin px1 8 = true then (some ((V0 23 0 (px1).toNatClampNeg), V0)) else none) else if px2 = 7 then (if bin px1 8 = true then (some ((V0 24 0 (px1).toNatClampNeg), V0)) else none) else if px2 = 8 then (if bin px1 8 = true then (some ((V0 25 0 (px1).toNatClampNeg), V0)) else none) else if px2 = 9 then ((fX8_response px1 V0).bind fun u_22 => some (u_22.1, u_22.2)) else (some ((-1 : Int32), V0)))
set_option maxHeartbeats 4000000 in
set_option maxRecDepth 100000 in
theorem kX8_told (l : Launch) {dC : Nat → ClassId} {dI : Nat → Nat → Nat} {A : Nat → Prop} {ad : Nat → Nat → Nat} {cI cZ : ClassId}  (px1 : Int32) (px2 : Int32) (V0 : mM) {res : Int32 × mM} (h : fX8_told px1 px2 V0 = some res) : Met l yX8_told wsX8_told ({ frames := 1, cells := 0, slots := 0, locals := 25 } : Room) (va_Pc [.ref (ad 0 0), .int px1, .int px2] (fun U => mR dC dI A ad cI cZ V0 U)) (va_Qi (fun r9 (_ : Unit) => r9 = res.1) (fun _ t9 => mR dC dI A ad cI cZ res.2 t9) A) 0 0 A := by
  refine Met.ofW (cc := cX8_told) (maxL := 3) (ret := (some .int)) (by decide) rfl ?_
  intro p e s m args below meth cd s₁ B hml hv
  obtain ⟨rfl, hM, hK, hAs⟩ := hv
  have hx := B.exec
  have hb := B.bytes
  have hr := B.returns
  have hts := atoms_spec (ws := wsX8_told) B.pre
  have hown : s.vm.findClass RX8 = some m.cls := findClass_of_methodNamed B.named
  have hlocks := B.notSynchronized
  have hS : va_S A s.heap s.heap [] := va_S.rf
  have k73 := hts (.fieldLink RX8 73 "StageDeskModel" "waiting" "[I") (by decide +kernel)
  have k33 := hts (.fieldLink RX8 33 "StageDeskModel" "reserved" "[I") (by decide +kernel)
  have k48 := hts (.fieldLink RX8 48 "StageDeskModel" "workers" "[I") (by decide +kernel)
  have k54 := hts (.fieldLink RX8 54 "StageDeskModel" "batches" "[I") (by decide +kernel)
  have k42 := hts (.fieldLink RX8 42 "StageDeskModel" "rates" "[I") (by decide +kernel)
  have k36 := hts (.fieldLink RX8 36 "StageDeskModel" "tokens" "[I") (by decide +kernel)
  have k64 := hts (.fieldLink RX8 64 "StageDeskModel" "refusals" "[I") (by decide +kernel)
  have k67 := hts (.fieldLink RX8 67 "StageDeskModel" "handled" "[I") (by decide +kernel)
  have k70 := hts (.fieldLink RX8 70 "StageDeskModel" "stood" "[I") (by decide +kernel)
  have inX8 : ∀ w ∈ u_ws RX8 TX8 48, w ∈ wsX8_told := by decide +kernel
  have hl := lv_entry ([.ref (ad 0 0), .int px1, .int px2]) (n := 3) (Nat.le_of_ble_eq_true rfl)
  rw [lg_entry_eq]
  generalize (lg_sl ([.ref (ad 0 0), .int px1, .int px2]) ++ List.replicate (3 - (lg_sl ([.ref (ad 0 0), .int px1, .int px2])).length) Slot.unset).toArray = ls at hl ⊢
  have hl : lv_has ls 3 [(0, .ref (ad 0 0)), (1, .int px1), (2, .int px2)] := hl
  unfold fX8_told at h
  refine lv_aload_n hx hb dX8_told_0 rfl (lv_at hl 0 rfl) ?_
  refine lv_iload_n hx hb dX8_told_1 rfl (lv_at hl 1 rfl) ?_
  obtain ⟨u_1, hu_1, h⟩ := bindS h
  refine va_calli (va_runV (As := [.int px1]) (rest := []) ⟨hx, hb, hml, hown, hts⟩ (kX8_isStage l px1 V0 hu_1) (cwV 1 hts gX8_told_X8_isStage rfl rfl rfl (by decide +kernel) ⟨Nat.le_of_ble_eq_true rfl, Nat.le_of_ble_eq_true rfl⟩) ⟨fun a U g9 mk w9 => ⟨w9.1, mR_calling w9.2⟩, mP_recv (q := (RX8, TX8, 48)) hK hM me0 rfl rfl, fun U hU hWm => ⟨rfl, mR_of hM hK hAs hS.1 hU hWm⟩⟩ rfl rfl hl.1 rfl (lv_room (Nat.le_of_ble_eq_true rfl)) dX8_told_2 ⟨Nat.le_of_ble_eq_true rfl, Nat.le_of_ble_eq_true rfl⟩) hS (fun _ _ h9 => h9) (fun _ h9 => h9) (fun r9 u9 t9 H locs ht9 _ hw9 hB9 _ _ hS => ?_)
  rw [show r9 = u_1 from hw9]
  obtain ⟨hM, -, -⟩ := hB9
  rw [ht9] at hM
  refine lv_if_ne (tgt := 10) hx hb dX8_told_5 (by decide) (fun c_2 => ?_) (fun c_2 => ?_)
  · have h := iteF c_2 h
    refine lv_iload_n hx hb dX8_told_10 rfl (lv_at hl 2 rfl) ?_
    by_cases w_3 : px2 = 0
    · have h := iteT w_3 h
      refine lv_tableIn (off := 53) (tgt := 64) hx hb dX8_told_11 (by rw [w_3]; decide) (by rw [w_3]; decide) (by rw [w_3]; decide) (by decide) ?_
      refine lv_aload_n hx hb dX8_told_64 rfl (lv_at hl 0 rfl) ?_
      refine mm_get (C := RX8) (T := TX8) (N := 48) (ci := 8) hx hb hts inX8 hown hK hM 0 0 me0 rfl rfl 25 (by decide) k73 (fun _ h9 => h9) rfl dX8_told_65 ?_
      refine lv_iload_n hx hb dX8_told_68 rfl (lv_at hl 1 rfl) ?_
      obtain ⟨b_4, h⟩ := iteS h
      refine mm_iald hx hb hK hM 26 0 (me (by decide)) 0 rfl rfl (bin_in b_4) dX8_told_69 ?_
      have e9 : ((V0 26 0 (px1).toNatClampNeg), V0) = res := Option.some.inj h
      subst e9
      exact W.iret (v := (V0 26 0 (px1).toNatClampNeg)) hx hb hr (fun t9 ht9 hW9 => ⟨⟨_, (), rfl, rfl, mR_of hM hK hAs hS.1 ht9 hW9⟩, hS.F ht9⟩) hS.2.2 dX8_told_70
    have h := iteF w_3 h
    by_cases w_5 : px2 = 1
    · have h := iteT w_5 h
      refine lv_tableIn (off := 60) (tgt := 71) hx hb dX8_told_11 (by rw [w_5]; decide) (by rw [w_5]; decide) (by rw [w_5]; decide) (by decide) ?_
      refine lv_aload_n hx hb dX8_told_71 rfl (lv_at hl 0 rfl) ?_
      refine mm_get (C := RX8) (T := TX8) (N := 48) (ci := 8) hx hb hts inX8 hown hK hM 0 0 me0 rfl rfl 12 (by decide) k33 (fun _ h9 => h9) rfl dX8_told_72 ?_
      refine lv_iload_n hx hb dX8_told_75 rfl (lv_at hl 1 rfl) ?_
      obtain ⟨b_6, h⟩ := iteS h
      refine mm_iald hx hb hK hM 13 0 (me (by decide)) 0 rfl rfl (bin_in b_6) dX8_told_76 ?_
      have e9 : ((V0 13 0 (px1).toNatClampNeg), V0) = res := Option.some.inj h
      subst e9
      exact W.iret (v := (V0 13 0 (px1).toNatClampNeg)) hx hb hr (fun t9 ht9 hW9 => ⟨⟨_, (), rfl, rfl, mR_of hM hK hAs hS.1 ht9 hW9⟩, hS.F ht9⟩) hS.2.2 dX8_told_77
    have h := iteF w_5 h
    by_cases w_7 : px2 = 2
    · have h := iteT w_7 h
      refine lv_tableIn (off := 67) (tgt := 78) hx hb dX8_told_11 (by rw [w_7]; decide) (by rw [w_7]; decide) (by rw [w_7]; decide) (by decide) ?_
      refine lv_aload_n hx hb dX8_told_78 rfl (lv_at hl 0 rfl) ?_
      refine mm_get (C := RX8) (T := TX8) (N := 48) (ci := 8) hx hb hts inX8 hown hK hM 0 0 me0 rfl rfl 17 (by decide) k48 (fun _ h9 => h9) rfl dX8_told_79 ?_
      refine lv_iload_n hx hb dX8_told_82 rfl (lv_at hl 1 rfl) ?_
      obtain ⟨b_8, h⟩ := iteS h
      refine mm_iald hx hb hK hM 18 0 (me (by decide)) 0 rfl rfl (bin_in b_8) dX8_told_83 ?_
      have e9 : ((V0 18 0 (px1).toNatClampNeg), V0) = res := Option.some.inj h
      subst e9
      exact W.iret (v := (V0 18 0 (px1).toNatClampNeg)) hx hb hr (fun t9 ht9 hW9 => ⟨⟨_, (), rfl, rfl, mR_of hM hK hAs hS.1 ht9 hW9⟩, hS.F ht9⟩) hS.2.2 dX8_told_84
    have h := iteF w_7 h
    by_cases w_9 : px2 = 3
    · have h := iteT w_9 h
      refine lv_tableIn (off := 74) (tgt := 85) hx hb dX8_told_11 (by rw [w_9]; decide) (by rw [w_9]; decide) (by rw [w_9]; decide) (by decide) ?_
      refine lv_aload_n hx hb dX8_told_85 rfl (lv_at hl 0 rfl) ?_
      refine mm_get (C := RX8) (T := TX8) (N := 48) (ci := 8) hx hb hts inX8 hown hK hM 0 0 me0 rfl rfl 19 (by decide) k54 (fun _ h9 => h9) rfl dX8_told_86 ?_
      refine lv_iload_n hx hb dX8_told_89 rfl (lv_at hl 1 rfl) ?_
      obtain ⟨b_10, h⟩ := iteS h
      refine mm_iald hx hb hK hM 20 0 (me (by decide)) 0 rfl rfl (bin_in b_10) dX8_told_90 ?_
      have e9 : ((V0 20 0 (px1).toNatClampNeg), V0) = res := Option.some.inj h
      subst e9
      exact W.iret (v := (V0 20 0 (px1).toNatClampNeg)) hx hb hr (fun t9 ht9 hW9 => ⟨⟨_, (), rfl, rfl, mR_of hM hK hAs hS.1 ht9 hW9⟩, hS.F ht9⟩) hS.2.2 dX8_told_91
    have h := iteF w_9 h
    by_cases w_11 : px2 = 4
    · have h := iteT w_11 h
      refine lv_tableIn (off := 81) (tgt := 92) hx hb dX8_told_11 (by rw [w_11]; decide) (by rw [w_11]; decide) (by rw [w_11]; decide) (by decide) ?_
      refine lv_aload_n hx hb dX8_told_92 rfl (lv_at hl 0 rfl) ?_
      refine mm_get (C := RX8) (T := TX8) (N := 48) (ci := 8) hx hb hts inX8 hown hK hM 0 0 me0 rfl rfl 15 (by decide) k42 (fun _ h9 => h9) rfl dX8_told_93 ?_
      refine lv_iload_n hx hb dX8_told_96 rfl (lv_at hl 1 rfl) ?_
      obtain ⟨b_12, h⟩ := iteS h
      refine mm_iald hx hb hK hM 16 0 (me (by decide)) 0 rfl rfl (bin_in b_12) dX8_told_97 ?_
      have e9 : ((V0 16 0 (px1).toNatClampNeg), V0) = res := Option.some.inj h
      subst e9
      exact W.iret (v := (V0 16 0 (px1).toNatClampNeg)) hx hb hr (fun t9 ht9 hW9 => ⟨⟨_, (), rfl, rfl, mR_of hM hK hAs hS.1 ht9 hW9⟩, hS.F ht9⟩) hS.2.2 dX8_told_98
    have h := iteF w_11 h
    by_cases w_13 : px2 = 5
    · have h := iteT w_13 h
      refine lv_tableIn (off := 88) (tgt := 99) hx hb dX8_told_11 (by rw [w_13]; decide) (by rw [w_13]; decide) (by rw [w_13]; decide) (by decide) ?_
      refine lv_aload_n hx hb dX8_told_99 rfl (lv_at hl 0 rfl) ?_
      refine mm_get (C := RX8) (T := TX8) (N := 48) (ci := 8) hx hb hts inX8 hown hK hM 0 0 me0 rfl rfl 13 (by decide) k36 (fun _ h9 => h9) rfl dX8_told_100 ?_
      refine lv_iload_n hx hb dX8_told_103 rfl (lv_at hl 1 rfl) ?_
      obtain ⟨b_14, h⟩ := iteS h
      refine mm_iald hx hb hK hM 14 0 (me (by decide)) 0 rfl rfl (bin_in b_14) dX8_told_104 ?_
      have e9 : ((V0 14 0 (px1).toNatClampNeg), V0) = res := Option.some.inj h
      subst e9
      exact W.iret (v := (V0 14 0 (px1).toNatClampNeg)) hx hb hr (fun t9 ht9 hW9 => ⟨⟨_, (), rfl, rfl, mR_of hM hK hAs hS.1 ht9 hW9⟩, hS.F ht9⟩) hS.2.2 dX8_told_105
    have h := iteF w_13 h
    by_cases w_15 : px2 = 6
    · have h := iteT w_15 h
      refine lv_tableIn (off := 95) (tgt := 106) hx hb dX8_told_11 (by rw [w_15]; decide) (by rw [w_15]; decide) (by rw [w_15]; decide) (by decide) ?_
      refine lv_aload_n hx hb dX8_told_106 rfl (lv_at hl 0 rfl) ?_
      refine mm_get (C := RX8) (T := TX8) (N := 48) (ci := 8) hx hb hts inX8 hown hK hM 0 0 me0 rfl rfl 22 (by decide) k64 (fun _ h9 => h9) rfl dX8_told_107 ?_
      refine lv_iload_n hx hb dX8_told_110 rfl (lv_at hl 1 rfl) ?_
      obtain ⟨b_16, h⟩ := iteS h
      refine mm_iald hx hb hK hM 23 0 (me (by decide)) 0 rfl rfl (bin_in b_16) dX8_told_111 ?_
      have e9 : ((V0 23 0 (px1).toNatClampNeg), V0) = res := Option.some.inj h
      subst e9
      exact W.iret (v := (V0 23 0 (px1).toNatClampNeg)) hx hb hr (fun t9 ht9 hW9 => ⟨⟨_, (), rfl, rfl, mR_of hM hK hAs hS.1 ht9 hW9⟩, hS.F ht9⟩) hS.2.2 dX8_told_112
    have h := iteF w_15 h
    by_cases w_17 : px2 = 7
    · have h := iteT w_17 h
      refine lv_tableIn (off := 102) (tgt := 113) hx hb dX8_told_11 (by rw [w_17]; decide) (by rw [w_17]; decide) (by rw [w_17]; decide) (by decide) ?_
      refine lv_aload_n hx hb dX8_told_113 rfl (lv_at hl 0 rfl) ?_
      refine mm_get (C := RX8) (T := TX8) (N := 48) (ci := 8) hx hb hts inX8 hown hK hM 0 0 me0 rfl rfl 23 (by decide) k67 (fun _ h9 => h9) rfl dX8_told_114 ?_
      refine lv_iload_n hx hb dX8_told_117 rfl (lv_at hl 1 rfl) ?_
      obtain ⟨b_18, h⟩ := iteS h
      refine mm_iald hx hb hK hM 24 0 (me (by decide)) 0 rfl rfl (bin_in b_18) dX8_told_118 ?_
      have e9 : ((V0 24 0 (px1).toNatClampNeg), V0) = res := Option.some.inj h
      subst e9
      exact W.iret (v := (V0 24 0 (px1).toNatClampNeg)) hx hb hr (fun t9 ht9 hW9 => ⟨⟨_, (), rfl, rfl, mR_of hM hK hAs hS.1 ht9 hW9⟩, hS.F ht9⟩) hS.2.2 dX8_told_119
    have h := iteF w_17 h
    by_cases w_19 : px2 = 8
    · have h := iteT w_19 h
      refine lv_tableIn (off := 109) (tgt := 120) hx hb dX8_told_11 (by rw [w_19]; decide) (by rw [w_19]; decide) (by rw [w_19]; decide) (by decide) ?_
      refine lv_aload_n hx hb dX8_told_120 rfl (lv_at hl 0 rfl) ?_
      refine mm_get (C := RX8) (T := TX8) (N := 48) (ci := 8) hx hb hts inX8 hown hK hM 0 0 me0 rfl rfl 24 (by decide) k70 (fun _ h9 => h9) rfl dX8_told_121 ?_
      refine lv_iload_n hx hb dX8_told_124 rfl (lv_at hl 1 rfl) ?_
      obtain ⟨b_20, h⟩ := iteS h
      refine mm_iald hx hb hK hM 25 0 (me (by decide)) 0 rfl rfl (bin_in b_20) dX8_told_125 ?_
      have e9 : ((V0 25 0 (px1).toNatClampNeg), V0) = res := Option.some.inj h
      subst e9
      exact W.iret (v := (V0 25 0 (px1).toNatClampNeg)) hx hb hr (fun t9 ht9 hW9 => ⟨⟨_, (), rfl, rfl, mR_of hM hK hAs hS.1 ht9 hW9⟩, hS.F ht9⟩) hS.2.2 dX8_told_126
    have h := iteF w_19 h
    by_cases w_21 : px2 = 9
    · have h := iteT w_21 h
      refine lv_tableIn (off := 116) (tgt := 127) hx hb dX8_told_11 (by rw [w_21]; decide) (by rw [w_21]; decide) (by rw [w_21]; decide) (by decide) ?_
      refine lv_aload_n hx hb dX8_told_127 rfl (lv_at hl 0 rfl) ?_
      refine lv_iload_n hx hb dX8_told_128 rfl (lv_at hl 1 rfl) ?_
      obtain ⟨u_22, hu_22, h⟩ := bindS h
      refine va_calli (va_runV (As := [.int px1]) (rest := []) ⟨hx, hb, hml, hown, hts⟩ (kX8_response l px1 V0 hu_22) (cwV 1 hts gX8_told_X8_response rfl rfl rfl (by decide +kernel) ⟨Nat.le_of_ble_eq_true rfl, Nat.le_of_ble_eq_true rfl⟩) ⟨fun a U g9 mk w9 => ⟨w9.1, mR_calling w9.2⟩, mP_recv (q := (RX8, TX8, 48)) hK hM me0 rfl rfl, fun U hU hWm => ⟨rfl, mR_of hM hK hAs hS.1 hU hWm⟩⟩ rfl rfl hl.1 rfl (lv_room (Nat.le_of_ble_eq_true rfl)) dX8_told_129 ⟨Nat.le_of_ble_eq_true rfl, Nat.le_of_ble_eq_true rfl⟩) hS (fun _ _ h9 => h9) (fun _ h9 => h9) (fun r9 u9 t9 H locs ht9 _ hw9 hB9 _ _ hS => ?_)
      rw [show r9 = u_22.1 from hw9]
      obtain ⟨hM, -, -⟩ := hB9
      rw [ht9] at hM
      have e9 : (u_22.1, u_22.2) = res := Option.some.inj h
      subst e9
      exact W.iret (v := u_22.1) hx hb hr (fun t9 ht9 hW9 => ⟨⟨_, (), rfl, rfl, mR_of hM hK hAs hS.1 ht9 hW9⟩, hS.F ht9⟩) hS.2.2 dX8_told_132
    have h := iteF w_21 h
    refine lv_tableOut (tgt := 133) hx hb dX8_told_11 (sw_out9 w_3 w_5 w_7 w_9 w_11 w_13 w_15 w_17 w_19 w_21) (by decide) ?_
    refine lv_iconst (v := (-1)) hx hb dX8_told_133 (by decide) ?_
    have e9 : ((-1 : Int32), V0) = res := Option.some.inj h
    subst e9
    exact W.iret (v := (-1 : Int32)) hx hb hr (fun t9 ht9 hW9 => ⟨⟨_, (), rfl, rfl, mR_of hM hK hAs hS.1 ht9 hW9⟩, hS.F ht9⟩) hS.2.2 dX8_told_134
  · have h := iteT c_2 h
    refine lv_iconst (v := (-1)) hx hb dX8_told_8 (by decide) ?_
    have e9 : ((-1 : Int32), V0) = res := Option.some.inj h
    subst e9
    exact W.iret (v := (-1 : Int32)) hx hb hr (fun t9 ht9 hW9 => ⟨⟨_, (), rfl, rfl, mR_of hM hK hAs hS.1 ht9 hW9⟩, hS.F ht9⟩) hS.2.2 dX8_told_9
