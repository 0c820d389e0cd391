/-! memory by object numbers: kind k, number n, slot t; the world is the list of all cells, each at the address that 'ad' gives it -/
abbrev mM : Type := Nat → Nat → Nat → Int32
abbrev mC : Type := Nat → Nat → (Nat → Int32) → va_E
def mw (ad : Nat → Nat → Nat) (ce : mC) (V : mM) (os : List (Nat × Nat)) : va_W := os.map fun o => (ad o.1 o.2, ce o.1 o.2 (V o.1 o.2))
def mv (V : mM) (k n : Nat) (v : Nat → Int32) : mM := fun k' n' => if k' = k ∧ n' = n then v else V k' n'
def mu (V : mM) (k n t : Nat) (x : Int32) : mM := mv V k n (upd (V k n) t x)
def mP (D : va_G) (cl : List vw_C) (A : Nat → Prop) (ad : Nat → Nat → Nat) (ce : mC) (ex : Nat → Nat → Prop) (V : mM) (H : Heap) : Prop :=
  ∃ os : List (Nat × Nat), os.Nodup ∧ (∀ k n : Nat, ex k n ↔ (k, n) ∈ os) ∧ va_P D cl (mw ad ce V os) H ∧ va_D A (mw ad ce V os)
theorem mw_get {ad : Nat → Nat → Nat} {ce : mC} {V : mM} {os : List (Nat × Nat)} {k n : Nat} (h : (k, n) ∈ os) : ∃ q : Nat, os[q]? = some (k, n) ∧ (mw ad ce V os)[q]? = some (ad k n, ce k n (V k n)) := by
  obtain ⟨q, hq⟩ := List.getElem?_of_mem h
  exact ⟨q, hq, by simp [mw, hq]⟩
theorem mw_set {ad : Nat → Nat → Nat} {ce : mC} {V : mM} {os : List (Nat × Nat)} {k n q : Nat} (hn : os.Nodup) (hq : os[q]? = some (k, n)) (v : Nat → Int32) : (mw ad ce V os).set q (ad k n, ce k n v) = mw ad ce (mv V k n v) os := by
  apply List.ext_getElem?
  intro i
  by_cases hi : i = q
  · subst hi
    have hl : i < (mw ad ce V os).length := by
      simp only [mw, List.length_map]
      exact (List.getElem?_eq_some_iff.mp hq).1
    rw [List.getElem?_set_self hl]
    simp [mw, hq, mv]
  · rw [List.getElem?_set_ne (Ne.symm hi)]
    simp only [mw, List.getElem?_map]
    cases ho : os[i]? with
    | none => rfl
    | some o =>
      obtain ⟨k', n'⟩ := o
      have hne : ¬ (k' = k ∧ n' = n) := by
        rintro ⟨rfl, rfl⟩
        exact hi ((List.getElem?_inj (List.getElem?_eq_some_iff.mp ho).1 hn).mp (ho.trans hq.symm))
      simp [mv, hne]
theorem mP_ad {D : va_G} {cl : List vw_C} {A : Nat → Prop} {ad : Nat → Nat → Nat} {ce : mC} {ex : Nat → Nat → Prop} {V : mM} {H : Heap} (hM : mP D cl A ad ce ex V H) {k n : Nat} (hx : ex k n) : A (ad k n) ∧ va_at D cl (ad k n, ce k n (V k n)) H := by
  obtain ⟨os, hn, ho, hP, hD⟩ := hM
  obtain ⟨q, hq, hw⟩ := mw_get (ad := ad) (ce := ce) (V := V) ((ho k n).mp hx)
  exact ⟨hD.2 q _ hw, hP q _ hw⟩
/-- what a later heap keeps -/
theorem mP_kept {D : va_G} {cl : List vw_C} {A : Nat → Prop} {ad : Nat → Nat → Nat} {ce : mC} {ex : Nat → Nat → Prop} {V : mM} {H H1 : Heap} (hM : mP D cl A ad ce ex V H) (hq : ∀ q : Nat, q < H.size → A q → H1[q]? = H[q]?) : mP D cl A ad ce ex V H1 := by
  obtain ⟨os, hn, ho, hP, hD⟩ := hM
  exact ⟨os, hn, ho, hP.kept (fun k q hk => hq q.1 ((hP k q hk).lt) (hD.2 k q hk)), hD⟩
theorem mP_recv {D : va_G} {cl : List vw_C} {A : Nat → Prop} {ad : Nat → Nat → Nat} {ce : mC} {ex : Nat → Nat → Prop} {V : mM} {H : Heap} {s : State} {tys : List (ClassId × FieldType)} (hK : va_K D cl tys s) (hM : mP D cl A ad ce ex V H) {k n : Nat} (hx : ex k n) {ci : Nat} {fs : List Value} (he : ce k n (V k n) = .inr (ci, fs)) {q : vw_C} (hc : cl[ci]? = some q) : ∃ cell : Cell, H[ad k n]? = some cell ∧ cell.vm.isStatics = false ∧ s.vm.findClass q.1 = some cell.cls := by
  obtain ⟨os, hn, ho, hP, hD⟩ := hM
  obtain ⟨q0, hq, hw⟩ := mw_get (ad := ad) (ce := ce) (V := V) ((ho k n).mp hx)
  rw [he] at hw
  exact va_recv hK hP hc hw
section MM
variable {p : Program} {l : Launch} {e : Env} {R : Room} {s : State} {m : MethodId} {args : Array Value} {below : List Frame} {meth : Method} {c : Code} {H : Heap} {locs : List Loc} {cells slots : Nat} {Q : State → Prop}
variable {cc : ByteArray} {pc : Nat} {ls : Array Slot} {rest : List Value} {D : va_G} {cl : List vw_C} {A : Nat → Prop} {tys : List (ClassId × FieldType)} {H0 : Heap} {ad : Nat → Nat → Nat} {ce : mC} {ex : Nat → Nat → Prop} {V : mM}
theorem mm_get (hexec : p.tables.exec = Jvm.exec) (hb : c.code = cc) {own ref C : String} {T : u_T} {N ci index : Nat} {Ts : List Cond} (hts : ∀ w ∈ Ts, w.before args s = true) (hin : ∀ w ∈ u_ws C T N, w ∈ Ts) (hown : s.vm.findClass own = some m.cls) (hK : va_K D cl tys s) (hM : mP D cl A ad ce ex V H) (k n : Nat) (hx : ex k n) {fs : List Value} (he : ce k n (V k n) = .inr (ci, fs)) (hc : cl[ci]? = some (C, T, N)) (t : Nat) (ht : t < N) (hlink : (Cond.fieldLink own index ref (T t).2.1 (T t).2.2.1).before args s = true) (hsame : ∀ x, s.fieldFound? (T t).1 (T t).2.1 (T t).2.2.1 = some x → s.fieldFound? ref (T t).2.1 (T t).2.2.1 = some x) {v : Value} (hv : fs[t]? = some v) (hdg : decode cc pc = .ok (.getfield index, 3))
    (kk : W p l e R s m args below meth c H locs cells slots Q (F0 m (pc + 3) ls (v :: rest))) : W p l e R s m args below meth c H locs cells slots Q (F0 m pc ls (.ref (ad k n) :: rest)) := by
  obtain ⟨os, hn, ho, hP, hD⟩ := hM
  obtain ⟨q, hq, hw⟩ := mw_get (ad := ad) (ce := ce) (V := V) ((ho k n).mp hx)
  rw [he] at hw
  exact va_get hexec hb hts hin hown hK hP q hw hc t ht hlink hsame hv hdg kk
theorem mm_put (hexec : p.tables.exec = Jvm.exec) (hb : c.code = cc) {own ref C : String} {T : u_T} {N ci index : Nat} {Ts : List Cond} (hts : ∀ w ∈ Ts, w.before args s = true) (hin : ∀ w ∈ u_ws C T N, w ∈ Ts) (ty0 : Nat → FieldType) (hty : ∀ k, k < N → parseFieldDescriptor (T k).2.2.1 = some (ty0 k)) (hnm : ∀ a, a < N → ∀ b, b < N → a ≠ b → (T a).2.1 ≠ (T b).2.1) (hown : s.vm.findClass own = some m.cls) (hK : va_K D cl tys s) (hM : mP D cl A ad ce ex V H) (hS0 : va_S A H0 H locs) (k n : Nat) (hx : ex k n) {fs : List Value} (he : ce k n (V k n) = .inr (ci, fs)) (hc : cl[ci]? = some (C, T, N)) (t : Nat) (ht : t < N) (hlink : (Cond.fieldLink own index ref (T t).2.1 (T t).2.2.1).before args s = true) (hsame : ∀ x, s.fieldFound? (T t).1 (T t).2.1 (T t).2.2.1 = some x → s.fieldFound? ref (T t).2.1 (T t).2.2.1 = some x) (hfin : (T t).2.2.2 = false) {ty : FieldType} {v : Value} (hd : parseFieldDescriptor (T t).2.2.1 = some ty) (hn : narrow ty v = v) (hfit : fits ty v = true) (hl : t < fs.length) (x : Int32) (he' : ce k n (upd (V k n) t x) = .inr (ci, fs.set t v))
    (hdg : decode cc pc = .ok (.putfield index, 3)) (kk : ∀ (H1 : Heap) (locs1 : List Loc), mP D cl A ad ce ex (mu V k n t x) H1 → va_S A H0 H1 locs1 → W p l e R s m args below meth c H1 locs1 cells slots Q (F0 m (pc + 3) ls rest)) : W p l e R s m args below meth c H locs cells slots Q (F0 m pc ls (v :: .ref (ad k n) :: rest)) := by
  obtain ⟨os, hno, ho, hP, hD⟩ := hM
  obtain ⟨q, hq, hw⟩ := mw_get (ad := ad) (ce := ce) (V := V) ((ho k n).mp hx)
  rw [he] at hw
  refine va_put hexec hb hts hin ty0 hty hnm hown hK hP hD hS0 q hw hc t ht hlink hsame hfin hd hn hfit hl hdg (fun H1 locs1 hP1 hD1 hS1 => ?_)
  rw [← he', mw_set hno hq] at hP1 hD1
  exact kk H1 locs1 ⟨os, hno, ho, hP1, hD1⟩ hS1
theorem mm_iald (hexec : p.tables.exec = Jvm.exec) (hb : c.code = cc) (hK : va_K D cl tys s) (hM : mP D cl A ad ce ex V H) (k n : Nat) (hx : ex k n) (t0 : Nat) {cA : ClassId} {N : Nat} {f : Nat → Int32} (he : ce k n (V k n) = .inl (cA, N, .inl f)) (ht : tys[t0]? = some (cA, .int)) {i : Int32} (hin : vp_in i N) (hdg : decode cc pc = .ok (.iaload, 1))
    (kk : W p l e R s m args below meth c H locs cells slots Q (F0 m (pc + 1) ls (.int (f i.toNatClampNeg) :: rest))) : W p l e R s m args below meth c H locs cells slots Q (F0 m pc ls (.int i :: .ref (ad k n) :: rest)) := by
  obtain ⟨os, hno, ho, hP, hD⟩ := hM
  obtain ⟨q, hq, hw⟩ := mw_get (ad := ad) (ce := ce) (V := V) ((ho k n).mp hx)
  rw [he] at hw
  exact va_iald hexec hb hK hP q t0 hw ht hin hdg kk
theorem mm_zald (hexec : p.tables.exec = Jvm.exec) (hb : c.code = cc) (hK : va_K D cl tys s) (hM : mP D cl A ad ce ex V H) (k n : Nat) (hx : ex k n) (t0 : Nat) {cA : ClassId} {N : Nat} {f : Nat → Int32} (he : ce k n (V k n) = .inl (cA, N, .inl f)) (ht : tys[t0]? = some (cA, .boolean)) {i : Int32} (hin : vp_in i N) (hdg : decode cc pc = .ok (.baload, 1))
    (kk : W p l e R s m args below meth c H locs cells slots Q (F0 m (pc + 1) ls (.int (f i.toNatClampNeg) :: rest))) : W p l e R s m args below meth c H locs cells slots Q (F0 m pc ls (.int i :: .ref (ad k n) :: rest)) := by
  obtain ⟨os, hno, ho, hP, hD⟩ := hM
  obtain ⟨q, hq, hw⟩ := mw_get (ad := ad) (ce := ce) (V := V) ((ho k n).mp hx)
  rw [he] at hw
  exact va_zald hexec hb hK hP q t0 hw ht hin hdg kk
theorem mm_aald (hexec : p.tables.exec = Jvm.exec) (hb : c.code = cc) (hK : va_K D cl tys s) (hM : mP D cl A ad ce ex V H) (k n : Nat) (hx : ex k n) (t0 : Nat) {cA : ClassId} {C : String} {N : Nat} {f : Nat → Option Nat} (he : ce k n (V k n) = .inl (cA, N, .inr (.inr (.inr (.inr f))))) (ht : tys[t0]? = some (cA, .object C)) {i : Int32} (hin : vp_in i N) (hdg : decode cc pc = .ok (.aaload, 1))
    (kk : W p l e R s m args below meth c H locs cells slots Q (F0 m (pc + 1) ls (va_rf (f i.toNatClampNeg) :: rest))) : W p l e R s m args below meth c H locs cells slots Q (F0 m pc ls (.int i :: .ref (ad k n) :: rest)) := by
  obtain ⟨os, hno, ho, hP, hD⟩ := hM
  obtain ⟨q, hq, hw⟩ := mw_get (ad := ad) (ce := ce) (V := V) ((ho k n).mp hx)
  rw [he] at hw
  exact va_aldq hexec hb hK hP q t0 hw ht hin hdg kk
theorem mm_iast (hexec : p.tables.exec = Jvm.exec) (hb : c.code = cc) (hK : va_K D cl tys s) (hM : mP D cl A ad ce ex V H) (hS : va_S A H0 H locs) (k n : Nat) (hx : ex k n) (t0 : Nat) {cA : ClassId} {N : Nat} {f : Nat → Int32} (he : ce k n (V k n) = .inl (cA, N, .inl f)) (ht : tys[t0]? = some (cA, .int)) {i x : Int32} (hin : vp_in i N) (he' : ce k n (upd (V k n) i.toNatClampNeg x) = .inl (cA, N, .inl (upd f i.toNatClampNeg x))) (hdg : decode cc pc = .ok (.iastore, 1))
    (kk : ∀ (H1 : Heap) (locs1 : List Loc), mP D cl A ad ce ex (mu V k n i.toNatClampNeg x) H1 → va_S A H0 H1 locs1 → W p l e R s m args below meth c H1 locs1 cells slots Q (F0 m (pc + 1) ls rest)) : W p l e R s m args below meth c H locs cells slots Q (F0 m pc ls (.int x :: .int i :: .ref (ad k n) :: rest)) := by
  obtain ⟨os, hno, ho, hP, hD⟩ := hM
  obtain ⟨q, hq, hw⟩ := mw_get (ad := ad) (ce := ce) (V := V) ((ho k n).mp hx)
  rw [he] at hw
  refine va_iast hexec hb hK hP hD hS q t0 hw ht hin hdg (fun H1 locs1 hP1 hD1 hS1 => ?_)
  rw [← he', mw_set hno hq] at hP1 hD1
  exact kk H1 locs1 ⟨os, hno, ho, hP1, hD1⟩ hS1
theorem mm_zast (hexec : p.tables.exec = Jvm.exec) (hb : c.code = cc) (hK : va_K D cl tys s) (hM : mP D cl A ad ce ex V H) (hS : va_S A H0 H locs) (k n : Nat) (hx : ex k n) (t0 : Nat) {cA : ClassId} {N : Nat} {f : Nat → Int32} (he : ce k n (V k n) = .inl (cA, N, .inl f)) (ht : tys[t0]? = some (cA, .boolean)) {i x y : Int32} (hy : vp_nar .boolean x = y) (hin : vp_in i N) (he' : ce k n (upd (V k n) i.toNatClampNeg y) = .inl (cA, N, .inl (upd f i.toNatClampNeg y))) (hdg : decode cc pc = .ok (.bastore, 1))
    (kk : ∀ (H1 : Heap) (locs1 : List Loc), mP D cl A ad ce ex (mu V k n i.toNatClampNeg y) H1 → va_S A H0 H1 locs1 → W p l e R s m args below meth c H1 locs1 cells slots Q (F0 m (pc + 1) ls rest)) : W p l e R s m args below meth c H locs cells slots Q (F0 m pc ls (.int x :: .int i :: .ref (ad k n) :: rest)) := by
  subst hy
  obtain ⟨os, hno, ho, hP, hD⟩ := hM
  obtain ⟨q, hq, hw⟩ := mw_get (ad := ad) (ce := ce) (V := V) ((ho k n).mp hx)
  rw [he] at hw
  refine va_zast hexec hb hK hP hD hS q t0 hw ht hin hdg (fun H1 locs1 hP1 hD1 hS1 => ?_)
  rw [← he', mw_set hno hq] at hP1 hD1
  exact kk H1 locs1 ⟨os, hno, ho, hP1, hD1⟩ hS1
/-- a reference into an array: to the object (k2, n2) of the world -/
theorem mm_aast (hexec : p.tables.exec = Jvm.exec) (hb : c.code = cc) (hK : va_K D cl tys s) (hM : mP D cl A ad ce ex V H) (hS : va_S A H0 H locs) (k n : Nat) (hx : ex k n) (t0 : Nat) {cA : ClassId} {r : vw_C} {N : Nat} {f : Nat → Option Nat} (he : ce k n (V k n) = .inl (cA, N, .inr (.inr (.inr (.inr f))))) (ht : tys[t0]? = some (cA, .object r.1)) (k2 n2 : Nat) (hx2 : ex k2 n2) {ci : Nat} {vs : List Value} (he2 : ce k2 n2 (V k2 n2) = .inr (ci, vs)) (hc : cl[ci]? = some r) {i : Int32} (x : Int32) (hin : vp_in i N) (he' : ce k n (upd (V k n) i.toNatClampNeg x) = .inl (cA, N, .inr (.inr (.inr (.inr (va_up f i.toNatClampNeg (some (ad k2 n2)))))))) (hdg : decode cc pc = .ok (.aastore, 1))
    (kk : ∀ (H1 : Heap) (locs1 : List Loc), mP D cl A ad ce ex (mu V k n i.toNatClampNeg x) H1 → va_S A H0 H1 locs1 → W p l e R s m args below meth c H1 locs1 cells slots Q (F0 m (pc + 1) ls rest)) : W p l e R s m args below meth c H locs cells slots Q (F0 m pc ls (.ref (ad k2 n2) :: .int i :: .ref (ad k n) :: rest)) := by
  obtain ⟨os, hno, ho, hP, hD⟩ := hM
  obtain ⟨q, hq, hw⟩ := mw_get (ad := ad) (ce := ce) (V := V) ((ho k n).mp hx)
  obtain ⟨q2, hq2, hw2⟩ := mw_get (ad := ad) (ce := ce) (V := V) ((ho k2 n2).mp hx2)
  rw [he] at hw
  rw [he2] at hw2
  refine va_astq hexec hb hK hP hD hS q t0 q2 ci hw ht hw2 hc hin hdg (fun H1 locs1 hP1 hD1 hS1 => ?_)
  rw [← he', mw_set hno hq] at hP1 hD1
  exact kk H1 locs1 ⟨os, hno, ho, hP1, hD1⟩ hS1
theorem mm_aastN (hexec : p.tables.exec = Jvm.exec) (hb : c.code = cc) (hK : va_K D cl tys s) (hM : mP D cl A ad ce ex V H) (hS : va_S A H0 H locs) (k n : Nat) (hx : ex k n) (t0 : Nat) {cA : ClassId} {C : String} {N : Nat} {f : Nat → Option Nat} (he : ce k n (V k n) = .inl (cA, N, .inr (.inr (.inr (.inr f))))) (ht : tys[t0]? = some (cA, .object C)) {i : Int32} (x : Int32) (hin : vp_in i N) (he' : ce k n (upd (V k n) i.toNatClampNeg x) = .inl (cA, N, .inr (.inr (.inr (.inr (va_up f i.toNatClampNeg none)))))) (hdg : decode cc pc = .ok (.aastore, 1))
    (kk : ∀ (H1 : Heap) (locs1 : List Loc), mP D cl A ad ce ex (mu V k n i.toNatClampNeg x) H1 → va_S A H0 H1 locs1 → W p l e R s m args below meth c H1 locs1 cells slots Q (F0 m (pc + 1) ls rest)) : W p l e R s m args below meth c H locs cells slots Q (F0 m pc ls (.null :: .int i :: .ref (ad k n) :: rest)) := by
  obtain ⟨os, hno, ho, hP, hD⟩ := hM
  obtain ⟨q, hq, hw⟩ := mw_get (ad := ad) (ce := ce) (V := V) ((ho k n).mp hx)
  rw [he] at hw
  refine va_astqN hexec hb hK hP hD hS q t0 hw ht hin hdg (fun H1 locs1 hP1 hD1 hS1 => ?_)
  rw [← he', mw_set hno hq] at hP1 hD1
  exact kk H1 locs1 ⟨os, hno, ho, hP1, hD1⟩ hS1
theorem mm_alen (hexec : p.tables.exec = Jvm.exec) (hb : c.code = cc) (hK : va_K D cl tys s) (hM : mP D cl A ad ce ex V H) (k n : Nat) (hx : ex k n) (t0 : Nat) {cA : ClassId} {x : vp_A} (he : ce k n (V k n) = .inl (cA, x)) {ty : FieldType} (ht : tys[t0]? = some (cA, ty)) {v : Int32} (hv : Int32.ofNat x.1 = v) (hdg : decode cc pc = .ok (.arraylength, 1))
    (kk : W p l e R s m args below meth c H locs cells slots Q (F0 m (pc + 1) ls (.int v :: rest))) : W p l e R s m args below meth c H locs cells slots Q (F0 m pc ls (.ref (ad k n) :: rest)) := by
  obtain ⟨os, hno, ho, hP, hD⟩ := hM
  obtain ⟨q, hq, hw⟩ := mw_get (ad := ad) (ce := ce) (V := V) ((ho k n).mp hx)
  rw [he] at hw
  exact va_alen hexec hb hK hP q t0 hw ht hv hdg kk
theorem mm_copyi (hexec : p.tables.exec = Jvm.exec) (hb : c.code = cc) (hml : c.maxLocals = ls.size) {own : String} {index : Nat} (hown : s.vm.findClass own = some m.cls) (hlink : (Cond.methodLink own index arraycopyName).before args s = true) (hnat : (Cond.native arraycopyName).before args s = true) (hstat : (Cond.static arraycopyName).before args s = true) (hini : (Cond.initialized "java/lang/System").before args s = true)
    (hK : va_K D cl tys s) (hM : mP D cl A ad ce ex V H) (hS : va_S A H0 H locs) (k n : Nat) (hx : ex k n) (k2 n2 : Nat) (hx2 : ex k2 n2) (t0 : Nat) {cA : ClassId} {N N2 : Nat} {f g : Nat → Int32} (he : ce k n (V k n) = .inl (cA, N, .inl f)) (he2 : ce k2 n2 (V k2 n2) = .inl (cA, N2, .inl g)) (ht : tys[t0]? = some (cA, .int))
    {sp dp z : Int32} (h1 : ¬ sp < 0) (h2 : ¬ dp < 0) (h3 : ¬ z < 0) (h4 : sp.toNatClampNeg + z.toNatClampNeg ≤ N) (h5 : dp.toNatClampNeg + z.toNatClampNeg ≤ N2) (v2 : Nat → Int32) (he' : ce k2 n2 v2 = .inl (cA, N2, .inl (va_cpy f g sp.toNatClampNeg dp.toNatClampNeg z.toNatClampNeg)))
    (hframes : 1 ≤ R.frames) (hlocals : (rest.map fun v => v.category).sum + (nativeFrameWords "java/lang/System" "arraycopy" 5 + 11) ≤ R.locals) (hdg : decode cc pc = .ok (.invokestatic index, 3))
    (kk : ∀ (H1 : Heap) (locs1 : List Loc), mP D cl A ad ce ex (mv V k2 n2 v2) H1 → va_S A H0 H1 locs1 → W p l e R s m args below meth c H1 locs1 cells slots Q (F0 m (pc + 3) ls rest)) : W p l e R s m args below meth c H locs cells slots Q (F0 m pc ls (.int z :: .int dp :: .ref (ad k2 n2) :: .int sp :: .ref (ad k n) :: rest)) := by
  obtain ⟨os, hno, ho, hP, hD⟩ := hM
  obtain ⟨q, hq, hw⟩ := mw_get (ad := ad) (ce := ce) (V := V) ((ho k n).mp hx)
  obtain ⟨q2, hq2, hw2⟩ := mw_get (ad := ad) (ce := ce) (V := V) ((ho k2 n2).mp hx2)
  rw [he] at hw
  rw [he2] at hw2
  refine va_copyi hexec hb hml hown hlink hnat hstat hini hK hP hD hS q q2 t0 t0 hw hw2 ht ht rfl h1 h2 h3 h4 h5 (fun _ _ => rfl) hframes hlocals hdg (fun H1 locs1 hP1 hD1 hS1 => ?_)
  rw [← he', mw_set hno hq2] at hP1 hD1
  exact kk H1 locs1 ⟨os, hno, ho, hP1, hD1⟩ hS1
/-! locals and branches of a reference that may be null -/
theorem mm_aload_n (hexec : p.tables.exec = Jvm.exec) (hb : c.code = cc) {k : Fin 4} {i : Nat} {r : Option Nat} (hdg : decode cc pc = .ok (.aload_n k, 1)) (hi : (k : Nat) = i) (hl : ls[i]? = some (.val (va_rf r)))
    (kk : W p l e R s m args below meth c H locs cells slots Q (F0 m (pc + 1) ls (va_rf r :: rest))) : W p l e R s m args below meth c H locs cells slots Q (F0 m pc ls rest) := by
  cases r with
  | none => exact lv_aload_nN hexec hb hdg hi hl kk
  | some a => exact lv_aload_n hexec hb hdg hi hl kk
theorem mm_aload (hexec : p.tables.exec = Jvm.exec) (hb : c.code = cc) {i : Nat} {r : Option Nat} (hdg : decode cc pc = .ok (.aload i, 2)) (hl : ls[i]? = some (.val (va_rf r)))
    (kk : W p l e R s m args below meth c H locs cells slots Q (F0 m (pc + 2) ls (va_rf r :: rest))) : W p l e R s m args below meth c H locs cells slots Q (F0 m pc ls rest) := by
  cases r with
  | none => exact lv_aloadN hexec hb hdg hl kk
  | some a => exact lv_aload hexec hb hdg hl kk
theorem mm_astore_n (hexec : p.tables.exec = Jvm.exec) (hb : c.code = cc) {k : Fin 4} {i nL : Nat} {r : Option Nat} {lv lv' : List (Nat × Value)} (hdg : decode cc pc = .ok (.astore_n k, 1)) (hi : (k : Nat) = i) (h : lv_has ls nL lv) (hn : i < nL) (hl : (i, va_rf r) :: lv.filter (fun q => !(q.1 == i) && !(q.1 + 1 == i && q.2.category == 2)) = lv')
    (kk : ∀ ls' : Array Slot, lv_has ls' nL lv' → W p l e R s m args below meth c H locs cells slots Q (F0 m (pc + 1) ls' rest)) : W p l e R s m args below meth c H locs cells slots Q (F0 m pc ls (va_rf r :: rest)) := by
  cases r with
  | none => exact lv_astore_nN hexec hb hdg hi h hn hl kk
  | some a => exact lv_astore_n hexec hb hdg hi h hn hl kk
theorem mm_astore (hexec : p.tables.exec = Jvm.exec) (hb : c.code = cc) {i nL : Nat} {r : Option Nat} {lv lv' : List (Nat × Value)} (hdg : decode cc pc = .ok (.astore i, 2)) (h : lv_has ls nL lv) (hn : i < nL) (hl : (i, va_rf r) :: lv.filter (fun q => !(q.1 == i) && !(q.1 + 1 == i && q.2.category == 2)) = lv')
    (kk : ∀ ls' : Array Slot, lv_has ls' nL lv' → W p l e R s m args below meth c H locs cells slots Q (F0 m (pc + 2) ls' rest)) : W p l e R s m args below meth c H locs cells slots Q (F0 m pc ls (va_rf r :: rest)) := by
  cases r with
  | none => exact lv_astoreN hexec hb hdg h hn hl kk
  | some a => exact lv_astore hexec hb hdg h hn hl kk
end MM
