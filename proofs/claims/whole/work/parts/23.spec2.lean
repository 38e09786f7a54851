theorem drT_n {T : zT} {a : Nat} (h : a ≠ 7) : drT T a = T a := ts_n h
theorem drT_7 {T : zT} {k : Nat} (h : k ≠ 7) : drT T 7 k = T 7 k := ts_i h
theorem ush8 (x : Int32) : ∃ k, k < 2 ^ 24 ∧ (x.toUInt32 >>> ((8 : Int32).toUInt32 &&& Int32.toUInt32 31)).toInt32 = nI k := by
  have h := pk_ushr x 8 8 (by decide)
  refine ⟨x.toBitVec.toNat / 2 ^ 8, ?_, ?_⟩
  · have := x.toBitVec.isLt
    omega
  · refine Int32.toBitVec_inj.mp (BitVec.eq_of_toNat_eq ?_)
    rw [h, pk_tn (by have := x.toBitVec.isLt; omega)]
theorem zdr_nI (z : Int32) : ∃ k, k < 2 ^ 24 ∧ zdr z = nI k := ush8 (znx z)
theorem zrem_nI {k N : Nat} (hk : k < 2 ^ 31) (h0 : 0 < N) (hN : N < 2 ^ 31) : zrem (nI k) (nI N) = nI (k % N) := pk_rem hk h0 hN
theorem zrem_in (z : Int32) {N : Nat} (h0 : 0 < N) (hN : N < 2 ^ 31) : ∃ j, j < N ∧ zrem (zdr z) (nI N) = nI j := by
  obtain ⟨k, hk, e⟩ := zdr_nI z
  exact ⟨k % N, Nat.mod_lt _ h0, by rw [e, zrem_nI (by omega) h0 hN]⟩
theorem dtk_n (T : zT) (a : Nat) (h5 : a ≠ 5) (h7 : a ≠ 7) : ∀ c, (dtk T c).1 a = T a := by
  intro c
  induction c with
  | zero => rfl
  | succ c ih =>
    simp only [dtk]
    split
    · split <;> (dsimp only; rw [ts_n h5, drT_n h7, ih])
    · dsimp only; rw [ts_n h5, ih]
theorem dtk_7 (T : zT) (k : Nat) (h : k ≠ 7) : ∀ c, (dtk T c).1 7 k = T 7 k := by
  intro c
  induction c with
  | zero => rfl
  | succ c ih =>
    simp only [dtk]
    split
    · split <;> (dsimp only; rw [ts_n (by decide), drT_7 h, ih])
    · dsimp only; rw [ts_n (by decide), ih]
theorem eaT_n (T : zT) (a : Nat) (h1 : a ≠ 1) (h4 : a ≠ 4) : ∀ c, eaT T c a = T a := by
  intro c
  induction c with
  | zero => rfl
  | succ c ih => rw [eaT, ts_n h4, ts_n h1, ih]
theorem eaT_i (T : zT) (a i : Nat) : ∀ c, c ≤ i → eaT T c a i = T a i := by
  intro c
  induction c with
  | zero => intro _; rfl
  | succ c ih =>
    intro h
    rw [eaT]
    by_cases h4 : a = 4
    · subst h4
      rw [ts_i (by omega), ts_n (by decide), ih (by omega)]
    · rw [ts_n h4]
      by_cases h1 : a = 1
      · subst h1
        rw [ts_i (by omega), ih (by omega)]
      · rw [ts_n h1, ih (by omega)]
theorem rio_n (T : zT) (a : Nat) (h1 : a ≠ 1) : ∀ c, rio T c a = T a := by
  intro c
  induction c with
  | zero => rfl
  | succ c ih => rw [rio, ts_n h1, ih]
theorem clT_n (T : zT) (a : Nat) (h : a ≠ 5) : ∀ c, clT T c a = T a := by
  intro c
  induction c with
  | zero => rfl
  | succ c ih => rw [clT, ts_n h, ih]
theorem exT_n {T : zT} {x y a : Nat} (h : a ≠ 5) : exT T x y a = T a := by rw [exT, ts_n h, ts_n h]
theorem ogS_n (T : zT) (N a : Nat) (h : a ≠ 5) : ∀ c, (ogS T N c).1 a = T a := by
  intro c
  induction c with
  | zero => rfl
  | succ c ih =>
    simp only [ogS]
    split
    · split
      · dsimp only; rw [exT_n h, ih]
      · exact ih
    · exact ih
theorem skp_ge (U : zT) : ∀ k p, p ≤ skp U k p ∧ skp U k p ≤ p + k := by
  intro k
  induction k with
  | zero => intro p; exact ⟨Nat.le_refl _, Nat.le_refl _⟩
  | succ k ih =>
    intro p
    rw [skp]
    split
    · omega
    · have := ih (p + 1)
      omega
theorem ogS_le (T : zT) (N : Nat) : ∀ c, (ogS T N c).2.1 ≤ N ∧ (ogS T N c).2.2 ≤ c := by
  intro c
  induction c with
  | zero => exact ⟨Nat.zero_le _, Nat.le_refl _⟩
  | succ c ih =>
    have := skp_ge (ogS T N c).1 (N - (ogS T N c).2.1) (ogS T N c).2.1
    simp only [ogS]
    split
    · split <;> simp only <;> omega
    · omega
theorem eaH_1 {U : zT} {c h : Nat} (h5 : U 5 c = 1) (e : U 1 c = nI h) (hh : h ≤ 9) {ml : Int32} (hm : ml = if U 7 4 = 1 then 2 else 3) : (if (0 : Int32) < U 1 c - ml then U 1 c - ml else 0) = eaH U c := by
  subst hm
  unfold eaH
  rw [e]
  by_cases h4 : U 7 4 = 1
  · simp only [h4, h5, if_true]
    exact (eat_a h hh).1
  · simp only [h4, h5, if_true, if_false]
    exact (eat_a h hh).2.1
theorem eaH_2 {U : zT} {c h : Nat} (h5 : ¬ U 5 c = 1) (e : U 1 c = nI h) (hh : h ≤ 9) : (if U 1 c + 1 < 9 then U 1 c + 1 else (9 : Int32)) = eaH U c := by
  unfold eaH
  rw [e]
  simp only [h5, if_false]
  exact (eat_a h hh).2.2
theorem min5 (x : Int32) : (if x < 5 then x else (5 : Int32)) = if 5 < x then 5 else x := by
  by_cases h : x < 5
  · have h2 : ¬ (5 : Int32) < x := by
      simp only [Int32.lt_iff_toInt_lt, zlt_5] at *
      omega
    rw [if_pos h, if_neg h2]
  · rw [if_neg h]
    by_cases h2 : (5 : Int32) < x
    · rw [if_pos h2]
    · rw [if_neg h2]
      refine Int32.toInt_inj.mp ?_
      simp only [Int32.lt_iff_toInt_lt, zlt_5] at *
      omega
def dra (T : zT) : Int32 := if T 7 0 + T 7 1 < T 7 8 then T 7 0 + T 7 1 else T 7 8
def cdl (T : zT) (x : Int32) : Bool := !decide (T 7 0 < many x) && !decide (T 7 1 < dra T - many x)
def dlT (T : zT) (x : Int32) : Nat → zT
  | 0 => T
  | c + 1 => ts (dlT T x c) 5 c (if nI c < dra T then (if (x >>> (nI c &&& 31)) &&& 1 = 1 then 1 else 2) else 0)
theorem dlT_n (T : zT) (x : Int32) (a : Nat) (h : a ≠ 5) : ∀ c, dlT T x c a = T a := by
  intro c
  induction c with
  | zero => rfl
  | succ c ih => rw [dlT, ts_n h, ih]
/-- a week of the class: its gates as the class walks them -/
def wkT1 (T : zT) (N : Nat) : zT := (dtk T N).1
def wkT2 (T : zT) (N : Nat) : zT := (ogS (wkT1 T N) N N).1
def wkN (T : zT) (N : Nat) : Nat := (ogS (wkT1 T N) N N).2.2
def wkT3 (T : zT) (N : Nat) : zT := mrT (eaT (wkT2 T N) N) N
def wkT4 (U : zT) (N : Nat) : zT :=
  let V := clT (ts (drT U) 7 3 (zrem (zdr (U 7 7)) 4)) N
  ts V 7 5 (V 7 5 + 1)
def wkT (T : zT) (N : Nat) : zT := wkT4 (wkT3 T N) N
def wks (N : Nat) : Nat → zT → zT
  | 0, T => T
  | k + 1, T => wkT (wks N k T) N
def wkc (N : Nat) (T : zT) : Nat → Int32
  | 0 => 0
  | k + 1 => wkc N T k + nI (wkN (wks N k T) N)
def cwk (N : Nat) (r : Int32) : Nat → zT → Nat → Nat × zT
  | 0, U, i => (i, U)
  | k + 1, U, i => if wkT U N 7 6 = r then cwk N r k (wkT U N) (i + 1) else (i, wkT U N)
theorem mrT_n (T : zT) (N a : Nat) (h1 : a ≠ 1) (h7 : a ≠ 7) : mrT T N a = T a := by
  unfold mrT
  split
  · rw [rio_n _ _ h1, ts_n h7]
  · rfl
theorem mrT_7 (T : zT) (N k : Nat) (h : k ≠ 6) : mrT T N 7 k = T 7 k := by
  unfold mrT
  split
  · rw [rio_n _ _ (by decide), ts_i h]
  · rfl
theorem wN_of {T U : zT} {N : Nat} (h : U 7 8 = T 7 8) (hN : wN T N) : wN U N := ⟨h.trans hN.1, hN.2⟩
theorem wH_of {T U : zT} {N : Nat} (h : U 1 = T 1) (hH : wH T N) : wH U N := fun c hc => by rw [h]; exact hH c hc
theorem eaH_in {U : zT} {c h : Nat} (e : U 1 c = nI h) (hh : h ≤ 9) : ∃ k, k ≤ 9 ∧ eaH U c = nI k := by
  have key : ∀ h : Fin 10, ∀ v : Fin 3, ∃ k : Fin 10, (let x := nI h + (if v.val = 0 then -2 else if v.val = 1 then -3 else 1); if 0 ≤ x then (if x ≤ 9 then x else 9) else 0) = nI k := by decide +kernel
  unfold eaH
  rw [e]
  by_cases h5 : U 5 c = 1
  · by_cases h4 : U 7 4 = 1
    · obtain ⟨k, hk⟩ := key ⟨h, by omega⟩ 0
      exact ⟨k.val, by omega, by simp only [h5, h4, if_true]; exact hk⟩
    · obtain ⟨k, hk⟩ := key ⟨h, by omega⟩ 1
      exact ⟨k.val, by omega, by simp only [h5, h4, if_true, if_false]; exact hk⟩
  · obtain ⟨k, hk⟩ := key ⟨h, by omega⟩ 2
    exact ⟨k.val, by omega, by simp only [h5, if_false]; exact hk⟩
theorem eaT_1 {T : zT} {N : Nat} (hH : wH T N) : ∀ c, c ≤ N → wH (eaT T c) N := by
  intro c
  induction c with
  | zero => intro _; exact hH
  | succ c ih =>
    intro hc i hi
    rw [eaT, ts_n (by decide)]
    by_cases hic : i = c
    · subst hic
      rw [ts_s]
      obtain ⟨h, hh, e⟩ := ih (by omega) i hi
      exact eaH_in e hh
    · rw [ts_i hic]
      exact ih (by omega) i hi
theorem rio_1 {T : zT} {N : Nat} (hH : wH T N) : ∀ c, c ≤ N → wH (rio T c) N := by
  intro c
  induction c with
  | zero => intro _; exact hH
  | succ c ih =>
    intro hc i hi
    rw [rio]
    by_cases hic : i = c
    · subst hic
      rw [ts_s]
      split
      · exact ⟨5, by omega, rfl⟩
      · exact ih (by omega) i hi
    · rw [ts_i hic]
      exact ih (by omega) i hi
theorem wk1_N {T : zT} {N : Nat} (hN : wN T N) : wN (wkT1 T N) N := wN_of (dtk_7 T 8 (by decide) N) hN
theorem wk1_H {T : zT} {N : Nat} (hH : wH T N) : wH (wkT1 T N) N := wH_of (dtk_n T 1 (by decide) (by decide) N) hH
theorem wk2_N {T : zT} {N : Nat} (hN : wN T N) : wN (wkT2 T N) N := wN_of (by rw [wkT2, ogS_n _ _ _ (by decide)]) (wk1_N hN)
theorem wk2_H {T : zT} {N : Nat} (hH : wH T N) : wH (wkT2 T N) N := wH_of (by rw [wkT2, ogS_n _ _ _ (by decide)]) (wk1_H hH)
theorem eaT_N {T : zT} {N : Nat} (hN : wN T N) (c : Nat) : wN (eaT T c) N := wN_of (by rw [eaT_n _ _ (by decide) (by decide)]) hN
theorem wk3_N {T : zT} {N : Nat} (hN : wN T N) : wN (wkT3 T N) N := wN_of (by rw [wkT3, mrT_7 _ _ _ (by decide), eaT_n _ _ (by decide) (by decide)]) (wk2_N hN)
theorem mrT_H {T : zT} {N : Nat} (hH : wH T N) : wH (mrT T N) N := by
  unfold mrT
  split
  · exact rio_1 (wH_of (ts_n (by decide)) hH) N (Nat.le_refl _)
  · exact hH
theorem wk3_H {T : zT} {N : Nat} (hH : wH T N) : wH (wkT3 T N) N := mrT_H (eaT_1 (wk2_H hH) N (Nat.le_refl _))
theorem wk4_n {U : zT} {N a : Nat} (h5 : a ≠ 5) (h7 : a ≠ 7) : wkT4 U N a = U a := by
  simp only [wkT4]
  rw [ts_n h7, clT_n _ _ h5, ts_n h7, drT_n h7]
theorem wk4_7 {U : zT} {N k : Nat} (h3 : k ≠ 3) (h5 : k ≠ 5) (h7 : k ≠ 7) : wkT4 U N 7 k = U 7 k := by
  simp only [wkT4]
  rw [ts_i h5, clT_n _ _ (by decide), ts_i h3, drT_7 h7]
theorem wk_N {T : zT} {N : Nat} (hN : wN T N) : wN (wkT T N) N := wN_of (wk4_7 (by decide) (by decide) (by decide)) (wk3_N hN)
theorem wk_H {T : zT} {N : Nat} (hH : wH T N) : wH (wkT T N) N := wH_of (wk4_n (by decide) (by decide)) (wk3_H hH)
theorem wks_N {T : zT} {N : Nat} (hN : wN T N) : ∀ k, wN (wks N k T) N := by
  intro k
  induction k with
  | zero => exact hN
  | succ k ih => exact wk_N ih
theorem wks_H {T : zT} {N : Nat} (hH : wH T N) : ∀ k, wH (wks N k T) N := by
  intro k
  induction k with
  | zero => exact hH
  | succ k ih => exact wk_H ih
