-- THE REFERENCE'S WORLD: all numbers of a city in one row
def mr (T : zT) (k : Nat) : Int32 := if k < 9 then T 7 k else if k < 69 then T ((k - 9) % 6) ((k - 9) / 6) else T 6 (k - 69)
/-- R: rows kept 0, was 1, found 2, tape 3, bits 4, size 5, number 6; 7: isKept, riotsThen, joyThen, taped, sort, from, to, value, bad -/
def moO (R : zT) : List Value := [.ref 38, .ref 39, .ref 40, .int (R 7 0), .ref 41, .int (R 7 1), .int (R 7 2), .ref 42, .int (R 7 3), .int (R 7 4), .int (R 7 5), .int (R 7 6), .int (R 7 7), .int (R 7 8), .ref 43, .ref 44, .ref 45]
def moE (T R : zT) (j : Nat) : zE := match j with
  | 0 => zO 4 (moO R)
  | 1 => zI 79 (mr T)
  | 2 => zI 79 (R 0)
  | 3 => zI 79 (R 1)
  | 4 => zI 7 (R 2)
  | 5 => zI 120 (R 3)
  | 6 => zI 4 (R 4)
  | 7 => zI 4 (R 5)
  | _ => zI 160 (R 6)
def hR (g : Nat → zE) (T R : zT) : Nat → zE := fun q => bif Nat.ble 37 q && Nat.ble q 45 then moE T R (q - 37) else g q
theorem hR_in {g : Nat → zE} {T R : zT} {j : Nat} (h : j ≤ 8) : hR g T R (37 + j) = moE T R j := by
  unfold hR
  rw [show Nat.ble 37 (37 + j) = true from Nat.ble_eq.mpr (by omega), show Nat.ble (37 + j) 45 = true from Nat.ble_eq.mpr (by omega), Nat.add_sub_cancel_left]
  rfl
theorem hR_out {g : Nat → zE} {T R : zT} {q : Nat} (h : q < 37 ∨ 45 < q) : hR g T R q = g q := by
  unfold hR
  have e : (Nat.ble 37 q && Nat.ble q 45) = false := by
    rcases h with h | h
    · rw [show Nat.ble 37 q = false from Bool.eq_false_iff.mpr (fun z => by have := Nat.le_of_ble_eq_true z; omega)]
      rfl
    · rw [show Nat.ble q 45 = false from Bool.eq_false_iff.mpr (fun z => by have := Nat.le_of_ble_eq_true z; omega), Bool.and_false]
  rw [e]
  rfl
theorem hR_ext {g : Nat → zE} {T R T' R' : zT} {j : Nat} {e : zE} (hj : j ≤ 8) (he : moE T' R' j = e) (ho : ∀ a, a ≤ 8 → a ≠ j → moE T' R' a = moE T R a) : zup (hR g T R) (37 + j) e = hR g T' R' := by
  funext q
  by_cases hq : q = 37 + j
  · subst hq
    rw [zup_s, hR_in hj, he]
  · rw [zup_n hq]
    by_cases hi : q < 37 ∨ 45 < q
    · rw [hR_out hi, hR_out hi]
    · obtain ⟨a, rfl⟩ : ∃ a, q = 37 + a := ⟨q - 37, by omega⟩
      rw [hR_in (by omega), hR_in (by omega), ho a (by omega) (by omega)]
theorem hR_mu {g : Nat → zE} {T R T' : zT} {x : Nat → Int32} (hT : mr T' = x) : zup (hR g T R) 38 (zI 79 x) = hR g T' R := by
  refine hR_ext (j := 1) (by omega) (by show zI 79 (mr T') = _; rw [hT]) (fun a ha hne => ?_)
  match a, ha, hne with
  | 0, _, _ => rfl
  | 1, _, h => exact absurd rfl h
  | 2, _, _ => rfl
  | 3, _, _ => rfl
  | 4, _, _ => rfl
  | 5, _, _ => rfl
  | 6, _, _ => rfl
  | 7, _, _ => rfl
  | 8, _, _ => rfl
theorem mr_s {T : zT} {k : Nat} (h : k < 9) : mr T k = T 7 k := if_pos h
theorem mr_c {T : zT} {c w : Nat} (hw : w < 6) (hc : c < 10) : mr T (9 + 6 * c + w) = T w c := by
  unfold mr
  rw [if_neg (by omega), if_pos (by omega), show (9 + 6 * c + w - 9) % 6 = w by omega, show (9 + 6 * c + w - 9) / 6 = c by omega]
theorem mr_p {T : zT} {i : Nat} : mr T (69 + i) = T 6 i := by
  unfold mr
  rw [if_neg (by omega), if_neg (by omega), Nat.add_sub_cancel_left]
theorem mr_us {T : zT} {k : Nat} {v : Int32} (h : k < 9) : mr (ts T 7 k v) = upd (mr T) k v := by
  funext q
  by_cases hq : q = k
  · subst hq
    rw [upd_s, mr_s h, ts_s]
  · rw [upd_n hq]
    by_cases h9 : q < 9
    · rw [mr_s h9, mr_s h9, ts_i hq]
    · simp only [mr, h9, if_false]
      split
      · rw [ts_n (by omega)]
      · rw [ts_n (by decide)]
theorem mr_uc {T : zT} {c w : Nat} {v : Int32} (hw : w < 6) (hc : c < 10) : mr (ts T w c v) = upd (mr T) (9 + 6 * c + w) v := by
  funext q
  by_cases hq : q = 9 + 6 * c + w
  · subst hq
    rw [upd_s, mr_c hw hc, ts_s]
  · rw [upd_n hq]
    unfold mr
    by_cases h9 : q < 9
    · rw [if_pos h9, if_pos h9, ts_n (by omega)]
    · rw [if_neg h9, if_neg h9]
      by_cases h69 : q < 69
      · rw [if_pos h69, if_pos h69]
        by_cases hw2 : (q - 9) % 6 = w
        · rw [hw2, ts_i (by omega)]
        · rw [ts_n hw2]
      · rw [if_neg h69, if_neg h69, ts_n (by omega)]
theorem mr_up {T : zT} {i : Nat} {v : Int32} : mr (ts T 6 i v) = upd (mr T) (69 + i) v := by
  funext q
  by_cases hq : q = 69 + i
  · subst hq
    rw [upd_s, mr_p, ts_s]
  · rw [upd_n hq]
    unfold mr
    by_cases h9 : q < 9
    · rw [if_pos h9, if_pos h9, ts_n (by decide)]
    · rw [if_neg h9, if_neg h9]
      by_cases h69 : q < 69
      · rw [if_pos h69, if_pos h69, ts_n (by omega)]
      · rw [if_neg h69, if_neg h69, ts_i (by omega)]
theorem hR_ms {g : Nat → zE} {T R : zT} {k : Nat} {v : Int32} (h : k < 9) : zup (hR g T R) 38 (zI 79 (upd (mr T) k v)) = hR g (ts T 7 k v) R := hR_mu (mr_us h)
theorem hR_mc {g : Nat → zE} {T R : zT} {c w : Nat} {v : Int32} (hw : w < 6) (hc : c < 10) : zup (hR g T R) 38 (zI 79 (upd (mr T) (9 + 6 * c + w) v)) = hR g (ts T w c v) R := hR_mu (mr_uc hw hc)
theorem hR_mp {g : Nat → zE} {T R : zT} {i : Nat} {v : Int32} : zup (hR g T R) 38 (zI 79 (upd (mr T) (69 + i) v)) = hR g (ts T 6 i v) R := hR_mu mr_up
theorem ixc (c w : Nat) : (9 : Int32) + 6 * nI c + nI w = nI (9 + 6 * c + w) := by
  rw [show (6 : Int32) = nI 6 from rfl, show (9 : Int32) = nI 9 from rfl, pk_mul, nI_add, nI_add]
/-- the rows behind -/
theorem hR_u {g : Nat → zE} {T R : zT} {j i : Nat} {v : Int32} {n : Nat} (hj : j < 7) (hn : moE T R (j + 2) = zI n (R j)) (hn2 : moE T (ts R j i v) (j + 2) = zI n (ts R j i v j)) : zup (hR g T R) (37 + (j + 2)) (zI n (upd (R j) i v)) = hR g T (ts R j i v) := by
  refine hR_ext (by omega) (by rw [hn2, ts, tr_s]) (fun a ha hne => ?_)
  match a, ha, hne with
  | 0, _, _ => simp only [moE, moO, ts_n (show 7 ≠ j by omega)]
  | 1, _, _ => rfl
  | 2, _, h => simp only [moE]; rw [ts_n (by omega)]
  | 3, _, h => simp only [moE]; rw [ts_n (by omega)]
  | 4, _, h => simp only [moE]; rw [ts_n (by omega)]
  | 5, _, h => simp only [moE]; rw [ts_n (by omega)]
  | 6, _, h => simp only [moE]; rw [ts_n (by omega)]
  | 7, _, h => simp only [moE]; rw [ts_n (by omega)]
  | 8, _, h => simp only [moE]; rw [ts_n (by omega)]
theorem hR_u2 {g : Nat → zE} {T R : zT} {i : Nat} {v : Int32} : zup (hR g T R) 41 (zI 7 (upd (R 2) i v)) = hR g T (ts R 2 i v) := hR_u (j := 2) (by omega) rfl rfl
theorem hR_u3 {g : Nat → zE} {T R : zT} {i : Nat} {v : Int32} : zup (hR g T R) 42 (zI 120 (upd (R 3) i v)) = hR g T (ts R 3 i v) := hR_u (j := 3) (by omega) rfl rfl
theorem hR_u4 {g : Nat → zE} {T R : zT} {i : Nat} {v : Int32} : zup (hR g T R) 43 (zI 4 (upd (R 4) i v)) = hR g T (ts R 4 i v) := hR_u (j := 4) (by omega) rfl rfl
theorem hR_u5 {g : Nat → zE} {T R : zT} {i : Nat} {v : Int32} : zup (hR g T R) 44 (zI 4 (upd (R 5) i v)) = hR g T (ts R 5 i v) := hR_u (j := 5) (by omega) rfl rfl
theorem hR_u6 {g : Nat → zE} {T R : zT} {i : Nat} {v : Int32} : zup (hR g T R) 45 (zI 160 (upd (R 6) i v)) = hR g T (ts R 6 i v) := hR_u (j := 6) (by omega) rfl rfl
theorem hR_uO {g : Nat → zE} {T R : zT} {k : Nat} {v : Int32} {fs : List Value} (hf : moO (ts R 7 k v) = fs) : zup (hR g T R) 37 (zO 4 fs) = hR g T (ts R 7 k v) := by
  refine hR_ext (j := 0) (by omega) (by rw [← hf]; rfl) (fun a ha hne => ?_)
  match a, ha, hne with
  | 0, _, h => exact absurd rfl h
  | 1, _, _ => rfl
  | 2, _, _ => simp only [moE]; rw [ts_n (by decide)]
  | 3, _, _ => simp only [moE]; rw [ts_n (by decide)]
  | 4, _, _ => simp only [moE]; rw [ts_n (by decide)]
  | 5, _, _ => simp only [moE]; rw [ts_n (by decide)]
  | 6, _, _ => simp only [moE]; rw [ts_n (by decide)]
  | 7, _, _ => simp only [moE]; rw [ts_n (by decide)]
  | 8, _, _ => simp only [moE]; rw [ts_n (by decide)]
theorem hR_row {g : Nat → zE} {T R : zT} {j : Nat} {x : Nat → Int32} {n : Nat} (hj : j < 7) (hn2 : moE T (tr R j x) (j + 2) = zI n (tr R j x j)) : zup (hR g T R) (37 + (j + 2)) (zI n x) = hR g T (tr R j x) := by
  refine hR_ext (by omega) (by rw [hn2, tr_s]) (fun a ha hne => ?_)
  match a, ha, hne with
  | 0, _, _ => simp only [moE, moO, tr_n (show 7 ≠ j by omega)]
  | 1, _, _ => rfl
  | 2, _, h => simp only [moE]; rw [tr_n (by omega)]
  | 3, _, h => simp only [moE]; rw [tr_n (by omega)]
  | 4, _, h => simp only [moE]; rw [tr_n (by omega)]
  | 5, _, h => simp only [moE]; rw [tr_n (by omega)]
  | 6, _, h => simp only [moE]; rw [tr_n (by omega)]
  | 7, _, h => simp only [moE]; rw [tr_n (by omega)]
  | 8, _, h => simp only [moE]; rw [tr_n (by omega)]
def inI (x lo hi : Int) : Bool := decide (lo ≤ x) && decide (x ≤ hi)
theorem lgc_lt {x y : Int64} : lg_cmp x y < 0 ↔ x.toInt < y.toInt := by
  rw [← Int32.not_le, lg_cmp_ge, Int64.le_iff_toInt_le]
  omega
theorem lgc_gt {x y : Int64} : 0 < lg_cmp x y ↔ y.toInt < x.toInt := by
  unfold lg_cmp
  simp only [gt_iff_lt, Int64.lt_iff_toInt_lt, ← Int64.toInt_inj]
  repeat' split
  · exact ⟨fun _ => by assumption, fun _ => by decide⟩
  · exact ⟨fun h => absurd h (by decide), fun h => absurd h (by assumption)⟩
  · exact ⟨fun h => absurd h (by decide), fun h => absurd h (by assumption)⟩
theorem inI_isK {x : Int32} : inI x.toInt 0 6 = isK x := by
  unfold inI isK
  rw [Bool.eq_iff_iff]
  simp only [Bool.and_eq_true, Bool.not_eq_true', decide_eq_true_eq, decide_eq_false_iff_not, Int32.lt_iff_toInt_lt, Int32.le_iff_toInt_le, zlt_0, zlt_7]
  omega
theorem inI_inR {x lo hi : Int32} : inI x.toInt lo.toInt hi.toInt = inR x lo hi := by
  unfold inI inR
  rw [Bool.eq_iff_iff]
  simp only [Bool.and_eq_true, Bool.not_eq_true', decide_eq_true_eq, decide_eq_false_iff_not, Int32.lt_iff_toInt_lt]
  omega
theorem inI_hs {T : zT} {N : Nat} (hN : wN T N) {x : Int32} : inI x.toInt 0 ((T 7 8 - 1).toInt) = hs T x := by
  have e : (T 7 8 - 1).toInt = (N : Int) - 1 := by
    rw [hN.1, show (1 : Int32) = nI 1 from rfl, pk_sub_toInt (by have := hN.2; omega) (by omega)]
    rfl
  have e2 : (nI N).toInt = N := nI_toInt (by have := hN.2; omega)
  unfold inI hs
  rw [Bool.eq_iff_iff, e, hN.1]
  simp only [Bool.and_eq_true, Bool.not_eq_true', decide_eq_true_eq, decide_eq_false_iff_not, Int32.lt_iff_toInt_lt, Int32.le_iff_toInt_le, zlt_0, e2]
  omega
def fwA (T : zT) (t : Int32) : Nat → Nat → Option Nat
  | 0, _ => none
  | k + 1, c => if T 5 c = t ∧ wo T c = true then some c else fwA T t k (c + 1)
def fwI (o : Option Nat) : Int32 := match o with
  | some c => nI c
  | none => -1
def opn (N : Nat) : Nat → zT → Nat × zT
  | 0, T => (0, T)
  | k + 1, T => match fwA T 1 N 0, fwA T 2 N 0 with
    | some a, some b => ((opn N k (exT T a b)).1 + 1, (opn N k (exT T a b)).2)
    | _, _ => (0, T)
