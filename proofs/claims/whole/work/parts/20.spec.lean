-- WHAT A CITY IS: pure functions over its numbers
def bread (T : zT) (c : Nat) : Int32 := if T 7 4 = 1 then T 1 c else 2 * T 1 c
def lw (T : zT) (c : Nat) : Int32 := if T 0 c = 4 then bread T c + 4 else if T 0 c = 5 then 3 else if T 0 c = 6 then 4 else bread T c
def sw (T : zT) (c : Nat) : Int32 := if T 0 c = 1 then 0 else if T 0 c = 2 then (if T 2 c = T 7 3 then 12 else 1) else if T 0 c = 3 then (if T 2 c = T 7 3 then 12 else 5) else if T 0 c = 4 then 0 else if T 0 c = 5 then 3 else if T 0 c = 6 then 4 else (if T 2 c = T 7 3 then 6 else 2)
def wo (T : zT) (c : Nat) : Bool := if T 5 c = 1 then decide (lw T c < sw T c) else if T 5 c = 2 then decide (sw T c < lw T c) else false
def tw (T : zT) (c : Nat) (t : Int32) : Int32 := if t = 1 then lw T c else if t = 2 then sw T c else 0
/-- is it a citizen's number -/
def hs (T : zT) (c : Int32) : Bool := !decide (c < 0) && !decide (T 7 8 ≤ c)
def isK (x : Int32) : Bool := !decide (x < 0) && !decide (7 ≤ x)
def inR (x lo hi : Int32) : Bool := !decide (x < lo) && !decide (hi < x)
/-- a trait's range, a rule's range -/
def okT (w v : Int32) : Bool := if w = 0 then isK v else if w = 1 then inR v 0 9 else if w = 2 then inR v 0 3 else if w = 3 then inR v 0 9999 else if w = 5 then inR v 0 2 else false
def okR (w v : Int32) : Bool := if w = 0 then inR v 0 10 else if w = 1 then inR v 0 10 else if w = 2 then inR v 1 10 else if w = 3 then inR v 0 3 else if w = 4 then (v = 0 ∨ v = 1) else false
def rulF (w : Int32) : Nat := if w = 0 then 0 else if w = 1 then 1 else if w = 2 then 2 else if w = 3 then 3 else 4
def traF (w : Int32) : Nat := if w = 0 then 0 else if w = 1 then 1 else if w = 2 then 2 else if w = 3 then 3 else 5
def wN (T : zT) (N : Nat) : Prop := T 7 8 = nI N ∧ N ≤ 10
def wH (T : zT) (N : Nat) : Prop := ∀ c, c < N → ∃ h : Nat, h ≤ 9 ∧ T 1 c = nI h
def wTk (T : zT) (N : Nat) : Prop := ∀ c, c < N → T 5 c = 0 ∨ T 5 c = 1 ∨ T 5 c = 2
theorem hs_in {T : zT} {N : Nat} {c : Int32} (hN : wN T N) (h : hs T c = true) : ∃ j : Nat, j < N ∧ c = nI j := by
  simp only [hs, Bool.and_eq_true, Bool.not_eq_true', decide_eq_false_iff_not] at h
  obtain ⟨j, hj, rfl⟩ := nI_of h.1
  have h2 := h.2
  rw [hN.1] at h2
  exact ⟨j, z_nle h2 (by have := hN.2; omega) (by omega), rfl⟩
theorem hs_of {T : zT} {N j : Nat} (hN : wN T N) (h : j < N) : hs T (nI j) = true := by
  have := hN.2
  simp only [hs, Bool.and_eq_true, Bool.not_eq_true', decide_eq_false_iff_not, hN.1]
  exact ⟨nI_pos (by omega), nI_ge (by omega) (by omega)⟩
/-- settle: a new citizen's numbers -/
def seT (T : zT) (N : Nat) (kd : Int32) : zT := ts (ts (ts (ts (ts (ts (ts T 0 N kd) 1 N 3) 2 N 0) 3 N 10) 4 N 0) 5 N 0) 7 8 (nI (N + 1))
def exT (T : zT) (a b : Nat) : zT := ts (ts T 5 a (T 5 b)) 5 b (T 5 a)
def znx (z : Int32) : Int32 := z * 1103515245 + 12345
def zdr (z : Int32) : Int32 := ((znx z).toUInt32 >>> ((8 : Int32).toUInt32 &&& Int32.toUInt32 31)).toInt32
def drT (T : zT) : zT := ts T 7 7 (znx (T 7 7))
