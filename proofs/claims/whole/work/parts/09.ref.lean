/-! the reference's objects: 0 itself; t + 1 the array of its field t -/
def marr (k : Nat) : Bool := (k == 3) || ((k == 4) || ((k == 6) || ((k == 9) || ((k == 10) || ((k == 11) || ((k == 12) || ((k == 13) || ((k == 14) || ((k == 15) || ((k == 16) || ((k == 17) || ((k == 18) || ((k == 19) || ((k == 20) || ((k == 21) || ((k == 22) || ((k == 23) || ((k == 24) || ((k == 25) || ((k == 26) || ((k == 27) || ((k == 28) || ((k == 29) || ((k == 30) || ((k == 31) || ((k == 32) || ((k == 33) || ((k == 34) || ((k == 35) || ((k == 36) || ((k == 37) || ((k == 38) || ((k == 39) || ((k == 40) || ((k == 41) || ((k == 42) || ((k == 45) || ((k == 46) || ((k == 47) || ((k == 48)))))))))))))))))))))))))))))))))))))))))
def mex (k n : Nat) : Prop := n = 0 ∧ ((k == 0) || marr k) = true
theorem me0 : mex 0 0 := ⟨rfl, rfl⟩
theorem me {k : Nat} (h : marr k = true) : mex k 0 := ⟨rfl, by rw [h, Bool.or_true]⟩
def mce (cI cZ : ClassId) (ad : Nat → Nat → Nat) : mC := fun k n v => match k with
  | 0 => .inr (8, [.int (v 0), .int (v 1), .ref (ad 3 0), .ref (ad 4 0), .int (v 4), .ref (ad 6 0), .int (v 6), .int (v 7), .ref (ad 9 0), .ref (ad 10 0), .ref (ad 11 0), .ref (ad 12 0), .ref (ad 13 0), .ref (ad 14 0), .ref (ad 15 0), .ref (ad 16 0), .ref (ad 17 0), .ref (ad 18 0), .ref (ad 19 0), .ref (ad 20 0), .ref (ad 21 0), .ref (ad 22 0), .ref (ad 23 0), .ref (ad 24 0), .ref (ad 25 0), .ref (ad 26 0), .ref (ad 27 0), .ref (ad 28 0), .ref (ad 29 0), .ref (ad 30 0), .ref (ad 31 0), .ref (ad 32 0), .ref (ad 33 0), .ref (ad 34 0), .ref (ad 35 0), .ref (ad 36 0), .ref (ad 37 0), .ref (ad 38 0), .ref (ad 39 0), .ref (ad 40 0), .ref (ad 41 0), .ref (ad 42 0), .int (v 42), .int (v 43), .ref (ad 45 0), .ref (ad 46 0), .ref (ad 47 0), .ref (ad 48 0)])
  | 3 => .inl (cI, 124000, .inl v)
  | 4 => .inl (cI, 124000, .inl v)
  | 6 => .inl (cI, 103000, .inl v)
  | 9 => .inl (cI, 8, .inl v)
  | 10 => .inl (cI, 8, .inl v)
  | 11 => .inl (cI, 8, .inl v)
  | 12 => .inl (cI, 8, .inl v)
  | 13 => .inl (cI, 8, .inl v)
  | 14 => .inl (cI, 8, .inl v)
  | 15 => .inl (cI, 8, .inl v)
  | 16 => .inl (cI, 8, .inl v)
  | 17 => .inl (cI, 8, .inl v)
  | 18 => .inl (cI, 8, .inl v)
  | 19 => .inl (cI, 8, .inl v)
  | 20 => .inl (cI, 8, .inl v)
  | 21 => .inl (cI, 8, .inl v)
  | 22 => .inl (cZ, 8, .inl v)
  | 23 => .inl (cI, 8, .inl v)
  | 24 => .inl (cI, 8, .inl v)
  | 25 => .inl (cI, 8, .inl v)
  | 26 => .inl (cI, 8, .inl v)
  | 27 => .inl (cI, 256, .inl v)
  | 28 => .inl (cI, 8, .inl v)
  | 29 => .inl (cI, 160, .inl v)
  | 30 => .inl (cI, 20, .inl v)
  | 31 => .inl (cI, 32, .inl v)
  | 32 => .inl (cI, 256, .inl v)
  | 33 => .inl (cI, 32, .inl v)
  | 34 => .inl (cZ, 32, .inl v)
  | 35 => .inl (cI, 32, .inl v)
  | 36 => .inl (cI, 32, .inl v)
  | 37 => .inl (cI, 512, .inl v)
  | 38 => .inl (cI, 512, .inl v)
  | 39 => .inl (cI, 512, .inl v)
  | 40 => .inl (cI, 512, .inl v)
  | 41 => .inl (cI, 32, .inl v)
  | 42 => .inl (cI, 32, .inl v)
  | 45 => .inl (cI, 50, .inl v)
  | 46 => .inl (cI, 50, .inl v)
  | 47 => .inl (cI, 50, .inl v)
  | 48 => .inl (cI, 50, .inl v)
  | _ => .inl (cI, n, .inl v)
def mR (dC : Nat → ClassId) (dI : Nat → Nat → Nat) (A : Nat → Prop) (ad : Nat → Nat → Nat) (cI cZ : ClassId) (V : mM) (U : State) : Prop :=
  mP (dC, dI) vwCl A ad (mce cI cZ ad) mex V U.heap ∧ va_K (dC, dI) vwCl [(cI, .int), (cZ, .boolean)] U ∧ ∀ z : Nat, U.heap.size ≤ z → A z
section MR
variable {dC : Nat → ClassId} {dI : Nat → Nat → Nat} {A : Nat → Prop} {ad : Nat → Nat → Nat} {cI cZ : ClassId} {V : mM}
theorem mR_of {s t : State} {H : Heap} (hM : mP (dC, dI) vwCl A ad (mce cI cZ ad) mex V H) (hK : va_K (dC, dI) vwCl [(cI, .int), (cZ, .boolean)] s) (hAs : ∀ z : Nat, s.heap.size ≤ z → A z) (hz : s.heap.size ≤ H.size) (ht : t.heap = H) (hWm : s.WarmedH t.vm) : mR dC dI A ad cI cZ V t :=
  ⟨by rw [ht]; exact hM, va_K.moved hWm.alike hK, fun z h => hAs z (by rw [ht] at h; omega)⟩
theorem mR_calling {U : State} {g : JFrame} {mk : MethodId} {a : Array Value} (h : mR dC dI A ad cI cZ V U) : mR dC dI A ad cI cZ V (U.calling g mk a) :=
  ⟨h.1, va_K.moved (u := U) (U := U.calling g mk a) (Vm.Alike.refl U.vm) h.2.1, h.2.2⟩
end MR
