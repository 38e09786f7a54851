-- WHAT A CITY IS: pure functions over its numbers
def bread (T : zT) (c : Nat) : Int32 := if T 7 4 = 1 then T 1 c else 2 * T 1 c
def lw (T : zT) (c : Nat) : Int32 := if T 0 c = 4 then bread T c + 4 else if T 0 c = 5 then 3 else if T 0 c = 6 then 4 else bread T c
def sw (T : zT) (c : Nat) : Int32 := if T 0 c = 1 then 0 else if T 0 c = 2 then (if T 2 c = T 7 3 then 12 else 1) else if T 0 c = 3 then (if T 2 c = T 7 3 then 12 else 5) else if T 0 c = 4 then 0 else if T 0 c = 5 then 3 else if T 0 c = 6 then 4 else (if T 2 c = T 7 3 then 6 else 2)
def wo (T : zT) (c : Nat) : Bool := if T 5 c = 1 then decide (lw T c < sw T c) else if T 5 c = 2 then decide (sw T c < lw T c) else false
def tw (T : zT) (c : Nat) (t : Int32) : Int32 := if t = 1 then lw T c else if t = 2 then sw T c else 0
/-- is it a citizen's number -/
def hs (T : zT) (c : Int32) : Bool := !decide (c < 0) && !decide (T 7 8 ≤ c)
def isK (x : Int32) : Bool := !decide (x < 0) && !decide (7 ≤ x)
def inR (x lo hi : Int32) : Bool := !decide (x < lo) && !decide (hi < x)
/-- a trait's range, a rule's range -/
def okT (w v : Int32) : Bool := if w = 0 then isK v else if w = 1 then inR v 0 9 else if w = 2 then inR v 0 3 else if w = 3 then inR v 0 9999 else if w = 5 then inR v 0 2 else false
def okR (w v : Int32) : Bool := if w = 0 then inR v 0 10 else if w = 1 then inR v 0 10 else if w = 2 then inR v 1 10 else if w = 3 then inR v 0 3 else if w = 4 then (v = 0 ∨ v = 1) else false
def rulF (w : Int32) : Nat := if w = 0 then 0 else if w = 1 then 1 else if w = 2 then 2 else if w = 3 then 3 else 4
def traF (w : Int32) : Nat := if w = 0 then 0 else if w = 1 then 1 else if w = 2 then 2 else if w = 3 then 3 else 5
def wN (T : zT) (N : Nat) : Prop := T 7 8 = nI N ∧ N ≤ 10
def wH (T : zT) (N : Nat) : Prop := ∀ c, c < N → ∃ h : Nat, h ≤ 9 ∧ T 1 c = nI h
def wTk (T : zT) (N : Nat) : Prop := ∀ c, c < N → T 5 c = 0 ∨ T 5 c = 1 ∨ T 5 c = 2
theorem hs_in {T : zT} {N : Nat} {c : Int32} (hN : wN T N) (h : hs T c = true) : ∃ j : Nat, j < N ∧ c = nI j := by
  simp only [hs, Bool.and_eq_true, Bool.not_eq_true', decide_eq_false_iff_not] at h
  obtain ⟨j, hj, rfl⟩ := nI_of h.1
  have h2 := h.2
  rw [hN.1] at h2
  exact ⟨j, z_nle h2 (by have := hN.2; omega) (by omega), rfl⟩
theorem hs_of {T : zT} {N j : Nat} (hN : wN T N) (h : j < N) : hs T (nI j) = true := by
  have := hN.2
  simp only [hs, Bool.and_eq_true, Bool.not_eq_true', decide_eq_false_iff_not, hN.1]
  exact ⟨nI_pos (by omega), nI_ge (by omega) (by omega)⟩
/-- settle: a new citizen's numbers -/
def seT (T : zT) (N : Nat) (kd : Int32) : zT := ts (ts (ts (ts (ts (ts (ts T 0 N kd) 1 N 3) 2 N 0) 3 N 10) 4 N 0) 5 N 0) 7 8 (nI (N + 1))
def exT (T : zT) (a b : Nat) : zT := ts (ts T 5 a (T 5 b)) 5 b (T 5 a)
def znx (z : Int32) : Int32 := z * 1103515245 + 12345
def zdr (z : Int32) : Int32 := ((znx z).toUInt32 >>> ((8 : Int32).toUInt32 &&& Int32.toUInt32 31)).toInt32
def drT (T : zT) : zT := ts T 7 7 (znx (T 7 7))
def zrem (x y : Int32) : Int32 := x - x / y * y
def setW (T : zT) (t : Int32) : Nat → Int32
  | 0 => 0
  | c + 1 => if T 5 c = t then setW T t c ||| ((1 : Int32) <<< (nI c &&& 31)) else setW T t c
def hunW (T : zT) : Nat → Int32
  | 0 => 0
  | c + 1 => if T 1 c < 7 then hunW T c else hunW T c ||| ((1 : Int32) <<< (nI c &&& 31))
def sumW (f : Nat → Int32) : Nat → Int32
  | 0 => 0
  | c + 1 => sumW f c + f c
def many (x : Int32) : Int32 := sumW (fun k => (x >>> (nI k &&& 31)) &&& 1) 10
def zbc (x : Int32) : Int32 :=
  let us := fun (x y : Int32) => (x.toUInt32 >>> (y.toUInt32 &&& Int32.toUInt32 31)).toInt32
  let a := x - (us x 1 &&& 1431655765)
  let b := (a &&& 858993459) + (us a 2 &&& 858993459)
  let c := (b + us b 4) &&& 252645135
  let d := c + us c 8
  let e := d + us d 16
  e &&& 63
theorem zbc_many : ∀ k, k < 1024 → zbc (nI k) = many (nI k) := by decide +kernel
theorem bits_or : ∀ c, c < 10 → ∀ k, k < 2 ^ c → nI k ||| ((1 : Int32) <<< (nI c &&& 31)) = nI (k + 2 ^ c) := by decide +kernel
theorem setW_lt (T : zT) (t : Int32) : ∀ c, c ≤ 10 → ∃ k, k < 2 ^ c ∧ setW T t c = nI k := by
  intro c
  induction c with
  | zero => intro _; exact ⟨0, by decide, rfl⟩
  | succ c ih =>
    intro hc
    obtain ⟨k, hk, e⟩ := ih (by omega)
    rw [setW, e]
    by_cases h : T 5 c = t
    · rw [if_pos h, bits_or c (by omega) k hk]
      exact ⟨_, by rw [Nat.pow_succ]; omega, rfl⟩
    · rw [if_neg h]
      exact ⟨k, by rw [Nat.pow_succ]; omega, rfl⟩
theorem hunW_lt (T : zT) : ∀ c, c ≤ 10 → ∃ k, k < 2 ^ c ∧ hunW T c = nI k := by
  intro c
  induction c with
  | zero => intro _; exact ⟨0, by decide, rfl⟩
  | succ c ih =>
    intro hc
    obtain ⟨k, hk, e⟩ := ih (by omega)
    rw [hunW, e]
    by_cases h : T 1 c < 7
    · rw [if_pos h]
      exact ⟨k, by rw [Nat.pow_succ]; omega, rfl⟩
    · rw [if_neg h, bits_or c (by omega) k hk]
      exact ⟨_, by rw [Nat.pow_succ]; omega, rfl⟩
theorem p2_le {c : Nat} (h : c ≤ 10) {k : Nat} (hk : k < 2 ^ c) : k < 1024 := Nat.lt_of_lt_of_le hk (Nat.pow_le_pow_right (by decide) h)
theorem zsi {x y : Int32} (h : x = y) : some (Value.int x) = some (Value.int y) := by rw [h]
theorem bread_nI {T : zT} {c h : Nat} (e : T 1 c = nI h) (hh : h ≤ 9) : ∃ l, l ≤ 18 ∧ bread T c = nI l := by
  unfold bread
  by_cases h1 : T 7 4 = 1
  · rw [if_pos h1, e]; exact ⟨h, by omega, rfl⟩
  · rw [if_neg h1, e]; exact ⟨2 * h, by omega, pk_mul 2 h⟩
theorem lw_nI {T : zT} {c h : Nat} (e : T 1 c = nI h) (hh : h ≤ 9) : ∃ l, l ≤ 22 ∧ lw T c = nI l := by
  obtain ⟨l, hl, el⟩ := bread_nI e hh
  unfold lw
  by_cases h4 : T 0 c = 4
  · rw [if_pos h4, el]; exact ⟨l + 4, by omega, nI_add l 4⟩
  · rw [if_neg h4]
    by_cases h5 : T 0 c = 5
    · rw [if_pos h5]; exact ⟨3, by omega, rfl⟩
    · rw [if_neg h5]
      by_cases h6 : T 0 c = 6
      · rw [if_pos h6]; exact ⟨4, by omega, rfl⟩
      · rw [if_neg h6, el]; exact ⟨l, by omega, rfl⟩
theorem sw_nI (T : zT) (c : Nat) : ∃ s, s ≤ 12 ∧ sw T c = nI s := by
  unfold sw
  repeat' split
  · exact ⟨0, by omega, rfl⟩
  · exact ⟨12, by omega, rfl⟩
  · exact ⟨1, by omega, rfl⟩
  · exact ⟨12, by omega, rfl⟩
  · exact ⟨5, by omega, rfl⟩
  · exact ⟨0, by omega, rfl⟩
  · exact ⟨3, by omega, rfl⟩
  · exact ⟨4, by omega, rfl⟩
  · exact ⟨6, by omega, rfl⟩
  · exact ⟨2, by omega, rfl⟩
theorem gain_le {T : zT} {c h : Nat} (e : T 1 c = nI h) (hh : h ≤ 9) : (sw T c - lw T c ≤ 0 ↔ ¬ lw T c < sw T c) ∧ (0 ≤ sw T c - lw T c ↔ ¬ sw T c < lw T c) := by
  obtain ⟨l, hl, el⟩ := lw_nI e hh
  obtain ⟨s, hs, es⟩ := sw_nI T c
  rw [el, es, nI_ltI (by omega) (by omega), nI_ltI (by omega) (by omega), Int32.le_iff_toInt_le, Int32.le_iff_toInt_le, pk_sub_toInt (by omega) (by omega), zlt_0]
  omega
/-- the weeks' steps -/
def dtk (T : zT) : Nat → zT × Int32 × Int32
  | 0 => (T, T 7 0, T 7 1)
  | c + 1 =>
    let s := dtk T c
    if 0 < s.2.1 + s.2.2 then
      (if s.2.1 ≤ zrem (zdr (s.1 7 7)) (s.2.1 + s.2.2) then (ts (drT s.1) 5 c 2, s.2.1, s.2.2 + (-1)) else (ts (drT s.1) 5 c 1, s.2.1 + (-1), s.2.2))
    else (ts s.1 5 c 0, s.2.1, s.2.2)
def eaH (T : zT) (c : Nat) : Int32 :=
  let x := T 1 c + (if T 5 c = 1 then (if T 7 4 = 1 then -2 else -3) else 1)
  if 0 ≤ x then (if x ≤ 9 then x else 9) else 0
def eaJ (T : zT) (c : Nat) : Int32 := if T 5 c = 2 then T 4 c + sw T c else T 4 c
def eaT (T : zT) : Nat → zT
  | 0 => T
  | c + 1 => ts (ts (eaT T c) 1 c (eaH (eaT T c) c)) 4 c (eaJ (eaT T c) c)
def rio (T : zT) : Nat → zT
  | 0 => T
  | c + 1 => ts (rio T c) 1 c (if 5 < rio T c 1 c then 5 else rio T c 1 c)
def mrT (T : zT) (N : Nat) : zT := if T 7 2 ≤ many (hunW T N) then rio (ts T 7 6 (T 7 6 + 1)) N else T
def clT (T : zT) : Nat → zT
  | 0 => T
  | c + 1 => ts (clT T c) 5 c 0
def skp (U : zT) : Nat → Nat → Nat
  | 0, p => p
  | k + 1, p => if U 5 p = 2 ∧ wo U p = true then p else skp U k (p + 1)
/-- the gates as the class walks them -/
def ogS (T : zT) (N : Nat) : Nat → zT × Nat × Nat
  | 0 => (T, 0, 0)
  | c + 1 =>
    let s := ogS T N c
    if s.1 5 c = 1 ∧ wo s.1 c = true then
      (if skp s.1 (N - s.2.1) s.2.1 < N then (exT s.1 c (skp s.1 (N - s.2.1) s.2.1), skp s.1 (N - s.2.1) s.2.1, s.2.2 + 1) else (s.1, skp s.1 (N - s.2.1) s.2.1, s.2.2))
    else s
theorem ts_self {T : zT} {j i : Nat} : ts T j i (T j i) = T := by
  funext a c
  by_cases ha : a = j
  · subst ha
    by_cases hc : c = i
    · subst hc; rw [ts_s]
    · rw [ts_i hc]
  · rw [ts_n ha]
theorem ts_sv {T : zT} {j i : Nat} {v : Int32} (h : T j i = v) : ts T j i v = T := by rw [← h, ts_self]
theorem ts_comm {T : zT} {j k i c : Nat} {v w : Int32} (h : j ≠ k) : ts (ts T j i v) k c w = ts (ts T k c w) j i v := by
  funext a x
  by_cases ha : a = j
  · subst ha
    rw [ts_n h]
    by_cases hx : x = i
    · subst hx; rw [ts_s, ts_s]
    · rw [ts_i hx, ts_i hx, ts_n h]
  · by_cases hb : a = k
    · subst hb
      rw [ts_n (j := j) ha]
      by_cases hx : x = c
      · subst hx; rw [ts_s, ts_s]
      · rw [ts_i hx, ts_i hx, ts_n ha]
    · rw [ts_n hb, ts_n ha, ts_n ha, ts_n hb]
theorem sw_ts {T : zT} {j i c : Nat} {v : Int32} (h0 : 0 ≠ j) (h2 : 2 ≠ j) (h7 : 7 ≠ j) : sw (ts T j i v) c = sw T c := by
  unfold sw
  rw [ts_n h0, ts_n h2, ts_n h7]
theorem eat_a : ∀ h, h ≤ 9 → ((if (0 : Int32) < nI h - 2 then nI h - 2 else 0) = (if 0 ≤ nI h + (-2) then (if nI h + (-2) ≤ 9 then nI h + (-2) else 9) else 0)) ∧ ((if (0 : Int32) < nI h - 3 then nI h - 3 else 0) = (if 0 ≤ nI h + (-3) then (if nI h + (-3) ≤ 9 then nI h + (-3) else 9) else 0)) ∧ ((if nI h + 1 < 9 then nI h + 1 else (9 : Int32)) = (if 0 ≤ nI h + 1 then (if nI h + 1 ≤ 9 then nI h + 1 else 9) else 0)) := by
  intro h hh
  have : ∀ h : Fin 10, ((if (0 : Int32) < nI h - 2 then nI h - 2 else 0) = (if 0 ≤ nI h + (-2) then (if nI h + (-2) ≤ 9 then nI h + (-2) else 9) else 0)) ∧ ((if (0 : Int32) < nI h - 3 then nI h - 3 else 0) = (if 0 ≤ nI h + (-3) then (if nI h + (-3) ≤ 9 then nI h + (-3) else 9) else 0)) ∧ ((if nI h + 1 < 9 then nI h + 1 else (9 : Int32)) = (if 0 ≤ nI h + 1 then (if nI h + 1 ≤ 9 then nI h + 1 else 9) else 0)) := by decide +kernel
  exact this ⟨h, by omega⟩
