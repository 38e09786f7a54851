-- THE CLASS'S WORLD, told by the reference's numbers R (rows 2 found, 3 tape, 4 bits, 5 sizes, 6 numbers; 7: 0 kept, 3 taped) and X: start, end, sort, value of the tape's reader
def shF (R : zT) (j : Nat) : Nat → Int32 := fun i => if i < 40 then R 6 (40 * j + i) else 0
def kE (R : zT) (X : Nat → Int32) (q : Nat) : zE := match q with
  | 0 => zO 3 [.ref 1, .ref 9, .ref 17, .ref 25, .ref 27, .ref 36, .int (R 7 0)]
  | 25 => zO 2 [.ref 26, .int (R 7 3), .int (X 0), .int (X 1), .int (X 2), .int (X 3)]
  | 26 => zI 120 (R 3)
  | 27 => zR 4 (fun i => some (28 + 2 * i))
  | 28 => zO 1 [.ref 29, .int (R 4 0), .int (R 5 0)]
  | 29 => zI 40 (shF R 0)
  | 30 => zO 1 [.ref 31, .int (R 4 1), .int (R 5 1)]
  | 31 => zI 40 (shF R 1)
  | 32 => zO 1 [.ref 33, .int (R 4 2), .int (R 5 2)]
  | 33 => zI 40 (shF R 2)
  | 34 => zO 1 [.ref 35, .int (R 4 3), .int (R 5 3)]
  | 35 => zI 40 (shF R 3)
  | _ => zI 7 (R 2)
def kU (g : Nat → zE) (R : zT) (X : Nat → Int32) : Nat → zE := fun q => bif Nat.ble q 0 || (Nat.ble 25 q && Nat.ble q 36) then kE R X q else g q
def cW (g : Nat → zE) (T T2 T3 R : zT) (X : Nat → Int32) : Nat → zE := hC (hC (hC (kU g R X) 1 T) 9 T2) 17 T3
theorem hC_comm {g : Nat → zE} {b c : Nat} {T S : zT} (h : b + 7 < c ∨ c + 7 < b) : hC (hC g b T) c S = hC (hC g c S) b T := by
  funext q
  by_cases hb : q < b ∨ b + 7 < q
  · rw [hC_out (b := b) hb]
    by_cases hc : q < c ∨ c + 7 < q
    · rw [hC_out hc, hC_out hc, hC_out hb]
    · obtain ⟨a, rfl⟩ : ∃ a, q = c + a := ⟨q - c, by omega⟩
      rw [hC_in (by omega), hC_in (by omega)]
  · obtain ⟨a, rfl⟩ : ∃ a, q = b + a := ⟨q - b, by omega⟩
    rw [hC_in (b := b) (by omega), hC_out (b := c) (by omega), hC_in (by omega)]
section CWS
variable {g : Nat → zE} {T T2 T3 R R' S : zT} {X X' : Nat → Int32}
theorem cW_1 : hC (cW g T T2 T3 R X) 1 S = cW g S T2 T3 R X := by
  unfold cW
  rw [hC_comm (b := 17) (c := 1) (by omega), hC_comm (b := 9) (c := 1) (by omega), hC_hC]
theorem cW_9 : hC (cW g T T2 T3 R X) 9 S = cW g T S T3 R X := by
  unfold cW
  rw [hC_comm (b := 17) (c := 9) (by omega), hC_hC]
theorem cW_17 : hC (cW g T T2 T3 R X) 17 S = cW g T T2 S R X := by
  unfold cW
  rw [hC_hC]
/-- a city's contract, in the class's world -/
theorem cM1 {d : Nat} {M : zY} {as : List Value} {r : Option Value} (h : zM d M as (hC (cW g T T2 T3 R X) 1 T) 46 r (hC (cW g T T2 T3 R X) 1 S) 46 0 0) : zM d M as (cW g T T2 T3 R X) 46 r (cW g S T2 T3 R X) 46 0 0 := by
  rw [cW_1, cW_1] at h
  exact h
theorem cM9 {d : Nat} {M : zY} {as : List Value} {r : Option Value} (h : zM d M as (hC (cW g T T2 T3 R X) 9 T2) 46 r (hC (cW g T T2 T3 R X) 9 S) 46 0 0) : zM d M as (cW g T T2 T3 R X) 46 r (cW g T S T3 R X) 46 0 0 := by
  rw [cW_9, cW_9] at h
  exact h
theorem bec91 : zM 1 M_X0_become [.ref 9, .ref 1] (cW g T T2 T3 R X) 46 none (cW g T T T3 R X) 46 0 0 := by
  have h := m_X0_become (g := cW g T T2 T3 R X) (b := 9) (b2 := 1) (T := T2) (U := T) (by omega) (by omega) (by omega)
  rw [cW_1, cW_9, cW_9] at h
  exact h
theorem bec19 : zM 1 M_X0_become [.ref 1, .ref 9] (cW g T T2 T3 R X) 46 none (cW g T2 T2 T3 R X) 46 0 0 := by
  have h := m_X0_become (g := cW g T T2 T3 R X) (b := 1) (b2 := 9) (T := T) (U := T2) (by omega) (by omega) (by omega)
  rw [cW_9, cW_1, cW_1] at h
  exact h
theorem bec171 : zM 1 M_X0_become [.ref 17, .ref 1] (cW g T T2 T3 R X) 46 none (cW g T T2 T R X) 46 0 0 := by
  have h := m_X0_become (g := cW g T T2 T3 R X) (b := 17) (b2 := 1) (T := T3) (U := T) (by omega) (by omega) (by omega)
  rw [cW_1, cW_17, cW_17] at h
  exact h
theorem bec117 : zM 1 M_X0_become [.ref 1, .ref 17] (cW g T T2 T3 R X) 46 none (cW g T3 T2 T3 R X) 46 0 0 := by
  have h := m_X0_become (g := cW g T T2 T3 R X) (b := 1) (b2 := 17) (T := T) (U := T3) (by omega) (by omega) (by omega)
  rw [cW_17, cW_1, cW_1] at h
  exact h
theorem cW_o {q : Nat} (h : q = 0 ∨ 25 ≤ q) : cW g T T2 T3 R X q = kU g R X q := by
  unfold cW
  rw [hC_out (by omega), hC_out (by omega), hC_out (by omega)]
theorem kU_in {q : Nat} (h : q = 0 ∨ (25 ≤ q ∧ q ≤ 36)) : kU g R X q = kE R X q := by
  unfold kU
  have e : (Nat.ble q 0 || (Nat.ble 25 q && Nat.ble q 36)) = true := by
    rcases h with rfl | ⟨h1, h2⟩
    · rfl
    · rw [Nat.ble_eq.mpr h1, Nat.ble_eq.mpr h2, Bool.and_self, Bool.or_true]
  rw [e]
  rfl
theorem kU_out {q : Nat} (h : q ≠ 0 ∧ (q < 25 ∨ 36 < q)) : kU g R X q = g q := by
  unfold kU
  have e : (Nat.ble q 0 || (Nat.ble 25 q && Nat.ble q 36)) = false := by
    rw [show Nat.ble q 0 = false from Bool.eq_false_iff.mpr (fun z => by have := Nat.le_of_ble_eq_true z; omega)]
    rcases h.2 with h1 | h1
    · rw [show Nat.ble 25 q = false from Bool.eq_false_iff.mpr (fun z => by have := Nat.le_of_ble_eq_true z; omega)]
      rfl
    · rw [show Nat.ble q 36 = false from Bool.eq_false_iff.mpr (fun z => by have := Nat.le_of_ble_eq_true z; omega), Bool.and_false]
      rfl
  rw [e]
  rfl
theorem cW_i {q : Nat} (h : 25 ≤ q ∧ q ≤ 36) : cW g T T2 T3 R X q = kE R X q := by
  rw [cW_o (by omega), kU_in (by omega)]
theorem cW_out {q : Nat} (h : 36 < q) : cW g T T2 T3 R X q = g q := by
  rw [cW_o (by omega), kU_out (by omega)]
theorem hC_cg {g g' : Nat → zE} {b q : Nat} {T : zT} (h : q < b ∨ b + 7 < q → g q = g' q) : hC g b T q = hC g' b T q := by
  by_cases hb : q < b ∨ b + 7 < q
  · rw [hC_out hb, hC_out hb, h hb]
  · obtain ⟨x, rfl⟩ : ∃ x, q = b + x := ⟨q - b, by omega⟩
    rw [hC_in (by omega), hC_in (by omega)]
theorem cW_ext (h : ∀ a, (a = 0 ∨ (25 ≤ a ∧ a ≤ 36)) → kE R' X' a = kE R X a) : cW g T T2 T3 R' X' = cW g T T2 T3 R X := by
  funext q
  unfold cW
  refine hC_cg (fun _ => hC_cg (fun _ => hC_cg (fun _ => ?_)))
  by_cases h1 : q = 0 ∨ (25 ≤ q ∧ q ≤ 36)
  · rw [kU_in h1, kU_in h1, h q h1]
  · rw [kU_out (by omega), kU_out (by omega)]
theorem cW_up {j : Nat} {e : zE} (hj : j = 0 ∨ (25 ≤ j ∧ j ≤ 36)) (he : kE R' X' j = e) (ho : ∀ a, (a = 0 ∨ (25 ≤ a ∧ a ≤ 36)) → a ≠ j → kE R' X' a = kE R X a) : zup (cW g T T2 T3 R X) j e = cW g T T2 T3 R' X' := by
  funext q
  by_cases hq : q = j
  · subst hq
    rw [zup_s, cW_o (by omega), kU_in hj, he]
  · rw [zup_n hq]
    unfold cW
    refine hC_cg (fun _ => hC_cg (fun _ => hC_cg (fun _ => ?_)))
    by_cases h1 : q = 0 ∨ (25 ≤ q ∧ q ≤ 36)
    · rw [kU_in h1, kU_in h1, ho q h1 hq]
    · rw [kU_out (by omega), kU_out (by omega)]
theorem kE_c {P : Nat → Prop} (h0 : P 0) (h25 : P 25) (h26 : P 26) (h27 : P 27) (h28 : P 28) (h29 : P 29) (h30 : P 30) (h31 : P 31) (h32 : P 32) (h33 : P 33) (h34 : P 34) (h35 : P 35) (h36 : P 36) : ∀ a, (a = 0 ∨ (25 ≤ a ∧ a ≤ 36)) → P a := by
  intro a ha
  rcases (show a = 0 ∨ a = 25 ∨ a = 26 ∨ a = 27 ∨ a = 28 ∨ a = 29 ∨ a = 30 ∨ a = 31 ∨ a = 32 ∨ a = 33 ∨ a = 34 ∨ a = 35 ∨ a = 36 by omega) with rfl | rfl | rfl | rfl | rfl | rfl | rfl | rfl | rfl | rfl | rfl | rfl | rfl <;> assumption
theorem kE_s0 {j : Nat} (hj : j < 4) : kE R X (28 + 2 * j) = zO 1 [.ref (29 + 2 * j), .int (R 4 j), .int (R 5 j)] := by
  match j, hj with
  | 0, _ => rfl
  | 1, _ => rfl
  | 2, _ => rfl
  | 3, _ => rfl
theorem kE_s1 {j : Nat} (hj : j < 4) : kE R X (29 + 2 * j) = zI 40 (shF R j) := by
  match j, hj with
  | 0, _ => rfl
  | 1, _ => rfl
  | 2, _ => rfl
  | 3, _ => rfl
theorem kE_0 (h : R' 7 0 = R 7 0) : kE R' X' 0 = kE R X 0 := by
  show zO 3 [.ref 1, .ref 9, .ref 17, .ref 25, .ref 27, .ref 36, .int (R' 7 0)] = zO 3 [.ref 1, .ref 9, .ref 17, .ref 25, .ref 27, .ref 36, .int (R 7 0)]
  rw [h]
theorem kE_25 (h : R' 7 3 = R 7 3 ∧ X' = X) : kE R' X' 25 = kE R X 25 := by
  rw [h.2]
  show zO 2 [.ref 26, .int (R' 7 3), .int (X 0), .int (X 1), .int (X 2), .int (X 3)] = zO 2 [.ref 26, .int (R 7 3), .int (X 0), .int (X 1), .int (X 2), .int (X 3)]
  rw [h.1]
theorem kE_26 (h : R' 3 = R 3) : kE R' X' 26 = kE R X 26 := by
  show zI 120 (R' 3) = zI 120 (R 3)
  rw [h]
theorem kE_36 (h : R' 2 = R 2) : kE R' X' 36 = kE R X 36 := by
  show zI 7 (R' 2) = zI 7 (R 2)
  rw [h]
theorem kE_t0 {j : Nat} (hj : j < 4) (h : R' 4 j = R 4 j ∧ R' 5 j = R 5 j) : kE R' X' (28 + 2 * j) = kE R X (28 + 2 * j) := by
  rw [kE_s0 hj, kE_s0 hj, h.1, h.2]
theorem kE_t1 {j : Nat} (hj : j < 4) (h : shF R' j = shF R j) : kE R' X' (29 + 2 * j) = kE R X (29 + 2 * j) := by
  rw [kE_s1 hj, kE_s1 hj, h]
theorem kE_all (p : Nat) (h0 : p ≠ 0 → R' 7 0 = R 7 0) (h25 : p ≠ 25 → R' 7 3 = R 7 3 ∧ X' = X) (h26 : p ≠ 26 → R' 3 = R 3) (hs0 : ∀ j, j < 4 → p ≠ 28 + 2 * j → R' 4 j = R 4 j ∧ R' 5 j = R 5 j) (hs1 : ∀ j, j < 4 → p ≠ 29 + 2 * j → shF R' j = shF R j) (h36 : p ≠ 36 → R' 2 = R 2) : ∀ a, (a = 0 ∨ (25 ≤ a ∧ a ≤ 36)) → a ≠ p → kE R' X' a = kE R X a :=
  kE_c (P := fun a => a ≠ p → kE R' X' a = kE R X a) (fun h => kE_0 (h0 h.symm)) (fun h => kE_25 (h25 h.symm)) (fun h => kE_26 (h26 h.symm)) (fun _ => rfl)
    (fun h => kE_t0 (j := 0) (by decide) (hs0 0 (by decide) h.symm)) (fun h => kE_t1 (j := 0) (by decide) (hs1 0 (by decide) h.symm))
    (fun h => kE_t0 (j := 1) (by decide) (hs0 1 (by decide) h.symm)) (fun h => kE_t1 (j := 1) (by decide) (hs1 1 (by decide) h.symm))
    (fun h => kE_t0 (j := 2) (by decide) (hs0 2 (by decide) h.symm)) (fun h => kE_t1 (j := 2) (by decide) (hs1 2 (by decide) h.symm))
    (fun h => kE_t0 (j := 3) (by decide) (hs0 3 (by decide) h.symm)) (fun h => kE_t1 (j := 3) (by decide) (hs1 3 (by decide) h.symm))
    (fun h => kE_36 (h36 h.symm))
theorem shF_e (h : R' 6 = R 6) {j : Nat} : shF R' j = shF R j := by
  unfold shF
  rw [h]
/-- what the class shows of R -/
def visR (R R' : zT) : Prop := (∀ a, 2 ≤ a → a ≤ 6 → R a = R' a) ∧ R 7 0 = R' 7 0 ∧ R 7 3 = R' 7 3
theorem cW_vis (h : visR R' R) : cW g T T2 T3 R' X = cW g T T2 T3 R X :=
  cW_ext (fun a ha => kE_all 1000 (fun _ => h.2.1) (fun _ => ⟨h.2.2, rfl⟩) (fun _ => h.1 3 (by omega) (by omega)) (fun j _ _ => ⟨congrFun (h.1 4 (by omega) (by omega)) j, congrFun (h.1 5 (by omega) (by omega)) j⟩) (fun j _ _ => shF_e (h.1 6 (by omega) (by omega))) (fun _ => h.1 2 (by omega) (by omega)) a ha (by omega))
theorem cW_f {i : Nat} {v : Int32} : zup (cW g T T2 T3 R X) 36 (zI 7 (upd (R 2) i v)) = cW g T T2 T3 (ts R 2 i v) X :=
  cW_up (by omega) (by show zI 7 (ts R 2 i v 2) = _; rw [ts, tr_s]) (kE_all 36 (fun _ => by rw [ts_n (by decide)]) (fun _ => ⟨by rw [ts_n (by decide)], rfl⟩) (fun _ => ts_n (by decide)) (fun j _ _ => ⟨by rw [ts_n (by decide)], by rw [ts_n (by decide)]⟩) (fun j _ _ => shF_e (ts_n (by decide))) (fun h => absurd rfl h))
theorem cW_k {v : Int32} : zup (cW g T T2 T3 R X) 0 (zO 3 [.ref 1, .ref 9, .ref 17, .ref 25, .ref 27, .ref 36, .int v]) = cW g T T2 T3 (ts R 7 0 v) X :=
  cW_up (by omega) (by show zO 3 [.ref 1, .ref 9, .ref 17, .ref 25, .ref 27, .ref 36, .int (ts R 7 0 v 7 0)] = _; rw [ts_s]) (kE_all 0 (fun h => absurd rfl h) (fun _ => ⟨ts_i (by decide), rfl⟩) (fun _ => ts_n (by decide)) (fun j _ _ => ⟨by rw [ts_n (by decide)], by rw [ts_n (by decide)]⟩) (fun j _ _ => shF_e (ts_n (by decide))) (fun _ => ts_n (by decide)))
theorem cW_l {v : Int32} : zup (cW g T T2 T3 R X) 25 (zO 2 [.ref 26, .int v, .int (X 0), .int (X 1), .int (X 2), .int (X 3)]) = cW g T T2 T3 (ts R 7 3 v) X :=
  cW_up (by omega) (by show zO 2 [.ref 26, .int (ts R 7 3 v 7 3), .int (X 0), .int (X 1), .int (X 2), .int (X 3)] = _; rw [ts_s]) (kE_all 25 (fun _ => ts_i (by decide)) (fun h => absurd rfl h) (fun _ => ts_n (by decide)) (fun j _ _ => ⟨by rw [ts_n (by decide)], by rw [ts_n (by decide)]⟩) (fun j _ _ => shF_e (ts_n (by decide))) (fun _ => ts_n (by decide)))
theorem cW_x {fs : List Value} {Y : Nat → Int32} (h : [.ref 26, .int (R 7 3), .int (Y 0), .int (Y 1), .int (Y 2), .int (Y 3)] = fs) : zup (cW g T T2 T3 R X) 25 (zO 2 fs) = cW g T T2 T3 R Y :=
  cW_up (by omega) (by rw [← h]; rfl) (kE_all 25 (fun _ => rfl) (fun h => absurd rfl h) (fun _ => rfl) (fun j _ _ => ⟨rfl, rfl⟩) (fun j _ _ => rfl) (fun _ => rfl))
theorem cW_b {i : Nat} {v : Int32} : zup (cW g T T2 T3 R X) 26 (zI 120 (upd (R 3) i v)) = cW g T T2 T3 (ts R 3 i v) X :=
  cW_up (by omega) (by show zI 120 (ts R 3 i v 3) = _; rw [ts, tr_s]) (kE_all 26 (fun _ => by rw [ts_n (by decide)]) (fun _ => ⟨by rw [ts_n (by decide)], rfl⟩) (fun h => absurd rfl h) (fun j _ _ => ⟨by rw [ts_n (by decide)], by rw [ts_n (by decide)]⟩) (fun j _ _ => shF_e (ts_n (by decide))) (fun _ => ts_n (by decide)))
theorem cW_s0 {j : Nat} (hj : j < 4) : cW g T T2 T3 R X (28 + 2 * j) = zO 1 [.ref (29 + 2 * j), .int (R 4 j), .int (R 5 j)] := by
  rw [cW_i (by omega), kE_s0 hj]
theorem cW_s1 {j : Nat} (hj : j < 4) : cW g T T2 T3 R X (29 + 2 * j) = zI 40 (shF R j) := by
  rw [cW_i (by omega), kE_s1 hj]
theorem cW_sb {j : Nat} {v : Int32} (hj : j < 4) : zup (cW g T T2 T3 R X) (28 + 2 * j) (zO 1 [.ref (29 + 2 * j), .int v, .int (R 5 j)]) = cW g T T2 T3 (ts R 4 j v) X :=
  cW_up (by omega) (by rw [kE_s0 hj, ts_s, ts_n (by decide)]) (kE_all (28 + 2 * j) (fun _ => by rw [ts_n (by decide)]) (fun _ => ⟨by rw [ts_n (by decide)], rfl⟩) (fun _ => ts_n (by decide)) (fun i _ h => ⟨ts_i (by omega), by rw [ts_n (by decide)]⟩) (fun j _ _ => shF_e (ts_n (by decide))) (fun _ => ts_n (by decide)))
theorem cW_ss {j : Nat} {v : Int32} (hj : j < 4) : zup (cW g T T2 T3 R X) (28 + 2 * j) (zO 1 [.ref (29 + 2 * j), .int (R 4 j), .int v]) = cW g T T2 T3 (ts R 5 j v) X :=
  cW_up (by omega) (by rw [kE_s0 hj, ts_s, ts_n (by decide)]) (kE_all (28 + 2 * j) (fun _ => by rw [ts_n (by decide)]) (fun _ => ⟨by rw [ts_n (by decide)], rfl⟩) (fun _ => ts_n (by decide)) (fun i _ h => ⟨by rw [ts_n (by decide)], ts_i (by omega)⟩) (fun j _ _ => shF_e (ts_n (by decide))) (fun _ => ts_n (by decide)))
theorem shF_u {j i : Nat} {v : Int32} (hi : i < 40) : upd (shF R j) i v = shF (ts R 6 (40 * j + i) v) j := by
  funext k
  by_cases hk : k = i
  · subst hk
    rw [upd_s, shF, if_pos hi, ts_s]
  · rw [upd_n hk]
    unfold shF
    by_cases h4 : k < 40
    · rw [if_pos h4, if_pos h4, ts_i (by omega)]
    · rw [if_neg h4, if_neg h4]
theorem shF_o {j j2 i : Nat} {v : Int32} (hi : i < 40) (h : j2 ≠ j) : shF (ts R 6 (40 * j + i) v) j2 = shF R j2 := by
  funext k
  unfold shF
  by_cases h4 : k < 40
  · rw [if_pos h4, if_pos h4, ts_i (by omega)]
  · rw [if_neg h4, if_neg h4]
theorem cW_sn {j i : Nat} {v : Int32} (hj : j < 4) (hi : i < 40) : zup (cW g T T2 T3 R X) (29 + 2 * j) (zI 40 (upd (shF R j) i v)) = cW g T T2 T3 (ts R 6 (40 * j + i) v) X :=
  cW_up (by omega) (by rw [kE_s1 hj, shF_u hi]) (kE_all (29 + 2 * j) (fun _ => by rw [ts_n (by decide)]) (fun _ => ⟨by rw [ts_n (by decide)], rfl⟩) (fun _ => ts_n (by decide)) (fun i _ h => ⟨by rw [ts_n (by decide)], by rw [ts_n (by decide)]⟩) (fun j2 _ h => shF_o hi (by omega)) (fun _ => ts_n (by decide)))
theorem cW_sr {j : Nat} {F : Nat → Int32} {R2 : zT} (hj : j < 4) (h6 : ∀ a, a ≠ 6 → R2 a = R a) (hF : shF R2 j = F) (ho : ∀ j2, j2 < 4 → j2 ≠ j → shF R2 j2 = shF R j2) : zup (cW g T T2 T3 R X) (29 + 2 * j) (zI 40 F) = cW g T T2 T3 R2 X :=
  cW_up (by omega) (by rw [kE_s1 hj, hF]) (kE_all (29 + 2 * j) (fun _ => by rw [h6 7 (by decide)]) (fun _ => ⟨by rw [h6 7 (by decide)], rfl⟩) (fun _ => h6 3 (by decide)) (fun i _ h => ⟨by rw [h6 4 (by decide)], by rw [h6 5 (by decide)]⟩) (fun j2 hj2 h => ho j2 hj2 (by omega)) (fun _ => h6 2 (by decide)))
/-- a number of a city replaced, in the class's world -/
theorem cW_p1 {k : Nat} {v : Int32} {fs : List Value} (hf : cyO 1 (ts T 7 k v) = fs) : zup (cW g T T2 T3 R X) 1 (zO 0 fs) = cW g (ts T 7 k v) T2 T3 R X := by
  have h := hC_uO (g := cW g T T2 T3 R X) (b := 1) (T := T) hf
  rw [cW_1, cW_1] at h
  exact h
theorem cW_p9 {k : Nat} {v : Int32} {fs : List Value} (hf : cyO 9 (ts T2 7 k v) = fs) : zup (cW g T T2 T3 R X) 9 (zO 0 fs) = cW g T (ts T2 7 k v) T3 R X := by
  have h := hC_uO (g := cW g T T2 T3 R X) (b := 9) (T := T2) hf
  rw [cW_9, cW_9] at h
  exact h
theorem cW_a1 {j i : Nat} {v : Int32} (hj : j < 7) : zup (cW g T T2 T3 R X) (1 + (j + 1)) (zI 10 (upd (T j) i v)) = cW g (ts T j i v) T2 T3 R X := by
  have h := hC_uA (g := cW g T T2 T3 R X) (b := 1) (T := T) (i := i) (v := v) hj
  rw [cW_1, cW_1] at h
  exact h
theorem cW_a9 {j i : Nat} {v : Int32} (hj : j < 7) : zup (cW g T T2 T3 R X) (9 + (j + 1)) (zI 10 (upd (T2 j) i v)) = cW g T (ts T2 j i v) T3 R X := by
  have h := hC_uA (g := cW g T T2 T3 R X) (b := 9) (T := T2) (i := i) (v := v) hj
  rw [cW_9, cW_9] at h
  exact h
end CWS
