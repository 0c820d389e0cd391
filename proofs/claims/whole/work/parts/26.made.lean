/-! what the constructors made, as memory -/
def isStK (k : Nat) : Bool := (k == 3) || ((k == 15) || ((k == 21) || ((k == 22) || (k == 23))))
def isRwK (k : Nat) : Bool := (k == 11) || ((k == 12) || ((k == 13) || (k == 14)))
def isWkK (k : Nat) : Bool := (k == 11) || ((k == 12) || ((k == 13) || ((k == 14) || ((k == 16) || ((k == 17) || ((k == 18) || ((k == 19) || (k == 20))))))))
def stix (k : Nat) : Nat := match k with
  | 22 => 1
  | 23 => 2
  | 15 => 7
  | _ => 0
def wix (k : Nat) : Nat := match k with
  | 11 => 1
  | 12 => 2
  | 13 => 3
  | 14 => 4
  | 17 => 5
  | 18 => 6
  | 19 => 7
  | 20 => 8
  | _ => 0
def own (cnt k n : Nat) : Bool := (isStK k && (n == cnt)) || ((isRwK k && (n == 32 + cnt)) || (isWkK k && (n / 4 == cnt)))
def nad (ad : Nat → Nat → Nat) (cnt h0 : Nat) (u : Nat → Nat) (k n : Nat) : Nat :=
  if (isStK k && (n == cnt)) = true then (if k = 3 then h0 else u (stix k)) else if (isRwK k && (n == 32 + cnt)) = true then u (k - 8) else if (isWkK k && (n / 4 == cnt)) = true then u (8 + 9 * (n % 4) + wix k) else ad k n
def ini (s b co : Int32) (k t : Nat) : Int32 := match k with
  | 3 => (match t with
    | 0 => s
    | 1 => b
    | 2 => co
    | 6 => -1
    | 7 => -1
    | 10 => 100
    | 11 => 100
    | 12 => 100
    | 14 => 1
    | 15 => 1
    | _ => 0)
  | 17 => (match t with
    | 5 => -1
    | _ => 0)
  | 18 => -1
  | _ => 0
def nV (V : mM) (cnt : Nat) (s b co : Int32) (k n t : Nat) : Int32 := if own cnt k n = true then ini s b co k t else V k n t
def nL (L : Nat → Nat → Nat) (cnt cap b : Nat) (k n : Nat) : Nat := if k = 15 then (if n = cnt then cap else L 15 n) else if k = 11 then (if n = 32 + cnt then b else if n / 4 = cnt then 8 else L 11 n) else L k n
def stIds (cnt : Nat) : List (Nat × Nat) := [(3, cnt), (21, cnt), (22, cnt), (23, cnt), (11, 32 + cnt), (12, 32 + cnt), (13, 32 + cnt), (14, 32 + cnt), (15, cnt)]
def wkIds (w : Nat) : List (Nat × Nat) := [(16, w), (11, w), (12, w), (13, w), (14, w), (17, w), (18, w), (19, w), (20, w)]
section MADE
variable {ad : Nat → Nat → Nat} {cnt h0 : Nat} {u : Nat → Nat} {L : Nat → Nat → Nat} {k n : Nat} {V : mM} {s b co : Int32} {cI cS cW : ClassId} {q : Nat × Nat} {c : Nat × Nat} {cap bn : Nat}
theorem nad_of (h : own cnt k n = false) : nad ad cnt h0 u k n = ad k n := by
  unfold own at h
  simp only [Bool.or_eq_false_iff] at h
  unfold nad
  rw [if_neg (by rw [h.1]; decide), if_neg (by rw [h.2.1]; decide), if_neg (by rw [h.2.2]; decide)]
theorem nV_of (h : own cnt k n = false) : nV V cnt s b co k n = V k n := by
  funext t
  unfold nV
  rw [if_neg (by rw [h]; decide)]
theorem own_old (h8 : cnt < 8) (h : xex cnt L k n) : own cnt k n = false := by
  match k, h with
  | 0, _ => rfl
  | 1, _ => rfl
  | 2, _ => rfl
  | 3, h =>
    have h : n < cnt := h
    simp [own, isStK, isRwK, isWkK]
    omega
  | 4, _ => rfl
  | 5, _ => rfl
  | 6, _ => rfl
  | 7, _ => rfl
  | 8, _ => rfl
  | 9, _ => rfl
  | 10, _ => rfl
  | 11, h =>
    have h : (32 ≤ n ∧ n - 32 < cnt) ∨ (n / 4 < cnt ∧ n % 4 < L 15 (n / 4)) := h
    simp [own, isStK, isRwK, isWkK]
    omega
  | 12, h =>
    have h : (32 ≤ n ∧ n - 32 < cnt) ∨ (n / 4 < cnt ∧ n % 4 < L 15 (n / 4)) := h
    simp [own, isStK, isRwK, isWkK]
    omega
  | 13, h =>
    have h : (32 ≤ n ∧ n - 32 < cnt) ∨ (n / 4 < cnt ∧ n % 4 < L 15 (n / 4)) := h
    simp [own, isStK, isRwK, isWkK]
    omega
  | 14, h =>
    have h : (32 ≤ n ∧ n - 32 < cnt) ∨ (n / 4 < cnt ∧ n % 4 < L 15 (n / 4)) := h
    simp [own, isStK, isRwK, isWkK]
    omega
  | 15, h =>
    have h : n < cnt := h
    simp [own, isStK, isRwK, isWkK]
    omega
  | 16, h =>
    have h : n / 4 < cnt ∧ n % 4 < L 15 (n / 4) := h
    simp [own, isStK, isRwK, isWkK]
    omega
  | 17, h =>
    have h : n / 4 < cnt ∧ n % 4 < L 15 (n / 4) := h
    simp [own, isStK, isRwK, isWkK]
    omega
  | 18, h =>
    have h : n / 4 < cnt ∧ n % 4 < L 15 (n / 4) := h
    simp [own, isStK, isRwK, isWkK]
    omega
  | 19, h =>
    have h : n / 4 < cnt ∧ n % 4 < L 15 (n / 4) := h
    simp [own, isStK, isRwK, isWkK]
    omega
  | 20, h =>
    have h : n / 4 < cnt ∧ n % 4 < L 15 (n / 4) := h
    simp [own, isStK, isRwK, isWkK]
    omega
  | 21, h =>
    have h : n < cnt := h
    simp [own, isStK, isRwK, isWkK]
    omega
  | 22, h =>
    have h : n < cnt := h
    simp [own, isStK, isRwK, isWkK]
    omega
  | 23, h =>
    have h : n < cnt := h
    simp [own, isStK, isRwK, isWkK]
    omega
  | k + 24, h => exact absurd h (by intro h; exact h)
theorem nad_old (h8 : cnt < 8) (h : xex cnt L k n) : nad ad cnt h0 u k n = ad k n := nad_of (own_old h8 h)
theorem xad_old (h8 : cnt < 8) (h : xex cnt L k n) : xad (nad ad cnt h0 u) q k n = xad ad q k n := by
  match k, h with
  | 0, _ => rfl
  | 1, _ => rfl
  | k + 2, h => exact nad_old h8 h
theorem rO_old {e : Int32} (h8 : cnt < 8) (h : okS cnt e) : rO (nad ad cnt h0 u) e = rO ad e := by
  unfold rO
  by_cases hz : e < 0
  · rw [if_pos hz, if_pos hz]
  · rw [if_neg hz, if_neg hz, nad_old (L := fun _ _ => 0) h8 (show xex cnt (fun _ _ => 0) 3 e.toNatClampNeg from h.resolve_left hz)]
theorem nL_old15 (h : n < cnt) : nL L cnt cap bn 15 n = L 15 n := by
  unfold nL
  rw [if_pos rfl, if_neg (by omega)]
theorem nL_old11 (h8 : cnt < 8) (h : rex cnt L n) : nL L cnt cap bn 11 n = L 11 n := by
  have h : (32 ≤ n ∧ n - 32 < cnt) ∨ (n / 4 < cnt ∧ n % 4 < L 15 (n / 4)) := h
  unfold nL
  rw [if_neg (by decide), if_pos rfl, if_neg (by omega), if_neg (by omega)]
theorem xce_old (h8 : cnt < 8) (hsh : xSh cnt L) (h : xex cnt L k n) (hW : xW cnt V) : xce cI cS cW (nad ad cnt h0 u) q (nL L cnt cap bn) c k n (nV V cnt s b co k n) = xce cI cS cW ad q L c k n (V k n) := by
  rw [nV_of (own_old h8 h)]
  match k, h with
  | 0, _ => rfl
  | 1, _ => rfl
  | 2, _ =>
    unfold xce
    simp only [nad_old (L := L) h8 xe4, nad_old (L := L) h8 xe5, nad_old (L := L) h8 xe10]
  | 3, h =>
    unfold xce
    simp only [nad_old (L := L) h8 (xe3_q h), nad_old (L := L) h8 (xe3_w h), nad_old (L := L) h8 (xe3_t h), rO_old h8 (hW 3 n 6 rfl), rO_old h8 (hW 3 n 7 rfl)]
  | 4, _ =>
    unfold xce
    have e9 : (fun j => rO (nad ad cnt h0 u) (V 4 n j)) = fun j => rO ad (V 4 n j) := funext fun j => rO_old h8 (hW 4 n j rfl)
    simp only [e9]
  | 5, _ =>
    unfold xce
    simp only [nad_old (L := L) h8 xe6, nad_old (L := L) h8 xe7, nad_old (L := L) h8 xe8, nad_old (L := L) h8 xe9]
  | 6, _ => rfl
  | 7, _ =>
    unfold xce
    have e9 : (fun j => rO (nad ad cnt h0 u) (V 7 n j)) = fun j => rO ad (V 7 n j) := funext fun j => rO_old h8 (hW 7 n j rfl)
    simp only [e9]
  | 8, _ => rfl
  | 9, _ => rfl
  | 10, _ => rfl
  | 11, h =>
    unfold xce
    simp only [nad_old (L := L) h8 (xe11_n h), nad_old (L := L) h8 (xe11_v h), nad_old (L := L) h8 (xe11_b h)]
  | 12, h =>
    unfold xce
    simp only [nL_old11 (cap := cap) (bn := bn) h8 (show rex cnt L n from h)]
  | 13, h =>
    unfold xce
    simp only [nL_old11 (cap := cap) (bn := bn) h8 (show rex cnt L n from h)]
  | 14, h =>
    unfold xce
    simp only [nL_old11 (cap := cap) (bn := bn) h8 (show rex cnt L n from h)]
  | 15, h =>
    have hn : n < cnt := h
    unfold xce
    have e9 : (fun j => if j < L 15 n then some (nad ad cnt h0 u 16 (4 * n + j)) else none) = fun j => if j < L 15 n then some (ad 16 (4 * n + j)) else none := by
      funext j
      by_cases hj : j < L 15 n
      · have h4 := hsh.2 n hn
        have hx : xex cnt L 16 (4 * n + j) := by
          show wex cnt L (4 * n + j)
          unfold wex
          rw [show (4 * n + j) / 4 = n by omega, show (4 * n + j) % 4 = j by omega]
          exact ⟨hn, hj⟩
        rw [if_pos hj, if_pos hj, nad_old h8 hx]
      · rw [if_neg hj, if_neg hj]
    simp only [nL_old15 (L := L) (cap := cap) (bn := bn) hn, e9]
  | 16, h =>
    unfold xce
    simp only [nad_old (L := L) h8 (xe16_b h), nad_old (L := L) h8 (xe16_g h)]
  | 17, h =>
    unfold xce
    simp only [nad_old (L := L) h8 (xe17_t h), nad_old (L := L) h8 (xe17_v h), nad_old (L := L) h8 (xe17_b h)]
  | 18, _ =>
    unfold xce
    have e9 : (fun j => rO (nad ad cnt h0 u) (V 18 n j)) = fun j => rO ad (V 18 n j) := funext fun j => rO_old h8 (hW 18 n j rfl)
    simp only [e9]
  | 19, _ => rfl
  | 20, _ => rfl
  | 21, h =>
    unfold xce
    simp only [nad_old (L := L) h8 (xe21_k h), nad_old (L := L) h8 (xe21_s h)]
  | 22, _ => rfl
  | 23, _ => rfl
  | k + 24, h => exact absurd h (by intro h; exact h)
theorem nV_own (h : own cnt k n = true) : nV V cnt s b co k n = ini s b co k := by
  funext t
  unfold nV
  rw [if_pos h]
theorem own_st (h : isStK k = true) : own cnt k cnt = true := by simp [own, h]
theorem own_rw (h : isRwK k = true) : own cnt k (32 + cnt) = true := by simp [own, h]
theorem own_wk {j : Nat} (h : isWkK k = true) (hj : j < 4) : own cnt k (4 * cnt + j) = true := by
  have : (4 * cnt + j) / 4 = cnt := by omega
  simp [own, h, this]
theorem nad_st (h : isStK k = true) : nad ad cnt h0 u k cnt = if k = 3 then h0 else u (stix k) := by simp [nad, h]
theorem nad_rw (h : isRwK k = true) (h2 : isStK k = false) : nad ad cnt h0 u k (32 + cnt) = u (k - 8) := by simp [nad, h, h2]
theorem nad_wk {j : Nat} (h8 : cnt < 8) (h : isWkK k = true) (h2 : isStK k = false) (hj : j < 4) : nad ad cnt h0 u k (4 * cnt + j) = u (8 + 9 * j + wix k) := by
  have e1 : (4 * cnt + j) / 4 = cnt := by omega
  have e2 : (4 * cnt + j) % 4 = j := by omega
  have e3 : ¬ 4 * cnt + j = 32 + cnt := by omega
  simp [nad, h, h2, e1, e2, e3]
theorem nodup_of_D {A : Nat → Prop} {ad : Nat → Nat → Nat} {ce : mC} {V : mM} {os : List (Nat × Nat)} (h : va_D A (mw ad ce V os)) : os.Nodup := by
  rw [List.nodup_iff_pairwise_ne, List.pairwise_iff_getElem]
  intro i j hi hj hij e9
  have h1 : (mw ad ce V os)[i]? = some (ad os[i].1 os[i].2, ce os[i].1 os[i].2 (V os[i].1 os[i].2)) := by simp [mw, hi]
  have h2 : (mw ad ce V os)[j]? = some (ad os[j].1 os[j].2, ce os[j].1 os[j].2 (V os[j].1 os[j].2)) := by simp [mw, hj]
  have := h.1 i j _ _ h1 h2 (by rw [e9])
  omega
end MADE
