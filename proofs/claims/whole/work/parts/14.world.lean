-- WORLDS: what the cells hold
def zb (p : Bool) : Int32 := if p = true then 1 else 0
theorem zb_0 {p : Bool} : zb p = 0 ↔ p = false := by cases p <;> simp [zb]
theorem zb_n0 {p : Bool} : ¬ zb p = 0 ↔ p = true := by cases p <;> simp [zb]
theorem zb_and (p : Bool) : zb p &&& 1 = zb p := by cases p <;> rfl
theorem zb_nz (p : Bool) : narrow .boolean (.int (zb p)) = .int (zb p) := by cases p <;> rfl
theorem zn0 : narrow .boolean (.int 0) = .int 0 := rfl
theorem zn1 : narrow .boolean (.int 1) = .int 1 := rfl
abbrev zT : Type := Nat → Nat → Int32
/-- a row replaced; a number replaced -/
def tr (T : zT) (j : Nat) (x : Nat → Int32) : zT := fun a => if a = j then x else T a
def ts (T : zT) (j i : Nat) (v : Int32) : zT := tr T j (upd (T j) i v)
theorem upd_s {f : Nat → Int32} {k : Nat} {x : Int32} : upd f k x k = x := if_pos rfl
theorem upd_n {f : Nat → Int32} {k j : Nat} {x : Int32} (h : j ≠ k) : upd f k x j = f j := if_neg h
theorem tr_s {T : zT} {j : Nat} {x : Nat → Int32} : tr T j x j = x := if_pos rfl
theorem tr_n {T : zT} {j a : Nat} {x : Nat → Int32} (h : a ≠ j) : tr T j x a = T a := if_neg h
theorem ts_s {T : zT} {j i : Nat} {v : Int32} : ts T j i v j i = v := by rw [ts, tr_s, upd_s]
theorem ts_n {T : zT} {j i a : Nat} {v : Int32} (h : a ≠ j) : ts T j i v a = T a := tr_n h
theorem ts_i {T : zT} {j i c : Nat} {v : Int32} (h : c ≠ i) : ts T j i v j c = T j c := by rw [ts, tr_s, upd_n h]
/-- a city: rows 0 to 6 (kind, hunger, colour, coin, joy, token, spot) and row 7: loaves, seats, bound, leads, stale, week, riots, z, people -/
def cyO (b : Nat) (T : zT) : List Value := [.ref (b + 1), .ref (b + 2), .ref (b + 3), .ref (b + 4), .ref (b + 5), .ref (b + 6), .ref (b + 7), .int (T 7 8), .int (T 7 3), .int (T 7 0), .int (T 7 1), .int (T 7 2), .int (T 7 4), .int (T 7 5), .int (T 7 6), .int (T 7 7)]
def cyE (b : Nat) (T : zT) (j : Nat) : zE := match j with
  | 0 => zO 0 (cyO b T)
  | j + 1 => zI 10 (T j)
def hC (g : Nat → zE) (b : Nat) (T : zT) : Nat → zE := fun q => bif Nat.ble b q && Nat.ble q (b + 7) then cyE b T (q - b) else g q
theorem hC_in {g : Nat → zE} {b : Nat} {T : zT} {j : Nat} (h : j ≤ 7) : hC g b T (b + j) = cyE b T j := by
  unfold hC
  rw [show Nat.ble b (b + j) = true from Nat.ble_eq.mpr (by omega), show Nat.ble (b + j) (b + 7) = true from Nat.ble_eq.mpr (by omega), Nat.add_sub_cancel_left]
  rfl
theorem hC_out {g : Nat → zE} {b q : Nat} {T : zT} (h : q < b ∨ b + 7 < q) : hC g b T q = g q := by
  unfold hC
  have e : (Nat.ble b q && Nat.ble q (b + 7)) = false := by
    rcases h with h | h
    · rw [show Nat.ble b q = false from Bool.eq_false_iff.mpr (fun z => by have := Nat.le_of_ble_eq_true z; omega)]
      rfl
    · rw [show Nat.ble q (b + 7) = false from Bool.eq_false_iff.mpr (fun z => by have := Nat.le_of_ble_eq_true z; omega), Bool.and_false]
  rw [e]
  rfl
theorem hC_o {g : Nat → zE} {b : Nat} {T : zT} : hC g b T b = zO 0 (cyO b T) := hC_in (j := 0) (by omega)
theorem hC_0 {g : Nat → zE} {b : Nat} {T : zT} : hC g b T (b + 1) = zI 10 (T 0) := hC_in (j := 1) (by omega)
theorem hC_1 {g : Nat → zE} {b : Nat} {T : zT} : hC g b T (b + 2) = zI 10 (T 1) := hC_in (j := 2) (by omega)
theorem hC_2 {g : Nat → zE} {b : Nat} {T : zT} : hC g b T (b + 3) = zI 10 (T 2) := hC_in (j := 3) (by omega)
theorem hC_3 {g : Nat → zE} {b : Nat} {T : zT} : hC g b T (b + 4) = zI 10 (T 3) := hC_in (j := 4) (by omega)
theorem hC_4 {g : Nat → zE} {b : Nat} {T : zT} : hC g b T (b + 5) = zI 10 (T 4) := hC_in (j := 5) (by omega)
theorem hC_5 {g : Nat → zE} {b : Nat} {T : zT} : hC g b T (b + 6) = zI 10 (T 5) := hC_in (j := 6) (by omega)
theorem hC_6 {g : Nat → zE} {b : Nat} {T : zT} : hC g b T (b + 7) = zI 10 (T 6) := hC_in (j := 7) (by omega)
theorem zup_s {h : Nat → zE} {q : Nat} {e : zE} : zup h q e q = e := by simp [zup]
theorem zup_n {h : Nat → zE} {q j : Nat} {e : zE} (hj : j ≠ q) : zup h q e j = h j := by
  show (bif j == q then e else h j) = h j
  rw [show (j == q) = false by simpa using hj]
  rfl
theorem hC_ext {g : Nat → zE} {b : Nat} {T T' : zT} {j : Nat} {e : zE} (hj : j ≤ 7) (he : cyE b T' j = e) (ho : ∀ a, a ≤ 7 → a ≠ j → cyE b T' a = cyE b T a) : zup (hC g b T) (b + j) e = hC g b T' := by
  funext q
  by_cases hq : q = b + j
  · subst hq
    rw [zup_s, hC_in hj, he]
  · rw [zup_n hq]
    by_cases hi : q < b ∨ b + 7 < q
    · rw [hC_out hi, hC_out hi]
    · obtain ⟨a, rfl⟩ : ∃ a, q = b + a := ⟨q - b, by omega⟩
      rw [hC_in (by omega), hC_in (by omega), ho a (by omega) (by omega)]
theorem hC_uA {g : Nat → zE} {b : Nat} {T : zT} {j i : Nat} {v : Int32} (hj : j < 7) : zup (hC g b T) (b + (j + 1)) (zI 10 (upd (T j) i v)) = hC g b (ts T j i v) := by
  refine hC_ext (by omega) (by show zI 10 (ts T j i v j) = _; rw [ts, tr_s]) (fun a ha hne => ?_)
  cases a with
  | zero => simp only [cyE, cyO, ts_n (show 7 ≠ j by omega)]
  | succ a => simp only [cyE, ts_n (show a ≠ j by omega)]
theorem hC_u0 {g : Nat → zE} {b : Nat} {T : zT} {i : Nat} {v : Int32} : zup (hC g b T) (b + 1) (zI 10 (upd (T 0) i v)) = hC g b (ts T 0 i v) := hC_uA (j := 0) (by omega)
theorem hC_u1 {g : Nat → zE} {b : Nat} {T : zT} {i : Nat} {v : Int32} : zup (hC g b T) (b + 2) (zI 10 (upd (T 1) i v)) = hC g b (ts T 1 i v) := hC_uA (j := 1) (by omega)
theorem hC_u2 {g : Nat → zE} {b : Nat} {T : zT} {i : Nat} {v : Int32} : zup (hC g b T) (b + 3) (zI 10 (upd (T 2) i v)) = hC g b (ts T 2 i v) := hC_uA (j := 2) (by omega)
theorem hC_u3 {g : Nat → zE} {b : Nat} {T : zT} {i : Nat} {v : Int32} : zup (hC g b T) (b + 4) (zI 10 (upd (T 3) i v)) = hC g b (ts T 3 i v) := hC_uA (j := 3) (by omega)
theorem hC_u4 {g : Nat → zE} {b : Nat} {T : zT} {i : Nat} {v : Int32} : zup (hC g b T) (b + 5) (zI 10 (upd (T 4) i v)) = hC g b (ts T 4 i v) := hC_uA (j := 4) (by omega)
theorem hC_u5 {g : Nat → zE} {b : Nat} {T : zT} {i : Nat} {v : Int32} : zup (hC g b T) (b + 6) (zI 10 (upd (T 5) i v)) = hC g b (ts T 5 i v) := hC_uA (j := 5) (by omega)
theorem hC_u6 {g : Nat → zE} {b : Nat} {T : zT} {i : Nat} {v : Int32} : zup (hC g b T) (b + 7) (zI 10 (upd (T 6) i v)) = hC g b (ts T 6 i v) := hC_uA (j := 6) (by omega)
theorem hC_uO {g : Nat → zE} {b : Nat} {T : zT} {k : Nat} {v : Int32} {fs : List Value} (hf : cyO b (ts T 7 k v) = fs) : zup (hC g b T) b (zO 0 fs) = hC g b (ts T 7 k v) := by
  refine hC_ext (j := 0) (by omega) (by rw [← hf]; rfl) (fun a ha hne => ?_)
  cases a with
  | zero => exact absurd rfl hne
  | succ a => simp only [cyE, ts_n (show a ≠ 7 by omega)]
theorem hC_f7 {g : Nat → zE} {b : Nat} {T : zT} {v : Int32} : zup (hC g b T) b (zO 0 ((cyO b T).set 7 (.int v))) = hC g b (ts T 7 8 v) := hC_uO rfl
theorem hC_f8 {g : Nat → zE} {b : Nat} {T : zT} {v : Int32} : zup (hC g b T) b (zO 0 ((cyO b T).set 8 (.int v))) = hC g b (ts T 7 3 v) := hC_uO rfl
theorem hC_f9 {g : Nat → zE} {b : Nat} {T : zT} {v : Int32} : zup (hC g b T) b (zO 0 ((cyO b T).set 9 (.int v))) = hC g b (ts T 7 0 v) := hC_uO rfl
theorem hC_f10 {g : Nat → zE} {b : Nat} {T : zT} {v : Int32} : zup (hC g b T) b (zO 0 ((cyO b T).set 10 (.int v))) = hC g b (ts T 7 1 v) := hC_uO rfl
theorem hC_f11 {g : Nat → zE} {b : Nat} {T : zT} {v : Int32} : zup (hC g b T) b (zO 0 ((cyO b T).set 11 (.int v))) = hC g b (ts T 7 2 v) := hC_uO rfl
theorem hC_f12 {g : Nat → zE} {b : Nat} {T : zT} {v : Int32} : zup (hC g b T) b (zO 0 ((cyO b T).set 12 (.int v))) = hC g b (ts T 7 4 v) := hC_uO rfl
theorem hC_f13 {g : Nat → zE} {b : Nat} {T : zT} {v : Int32} : zup (hC g b T) b (zO 0 ((cyO b T).set 13 (.int v))) = hC g b (ts T 7 5 v) := hC_uO rfl
theorem hC_f14 {g : Nat → zE} {b : Nat} {T : zT} {v : Int32} : zup (hC g b T) b (zO 0 ((cyO b T).set 14 (.int v))) = hC g b (ts T 7 6 v) := hC_uO rfl
theorem hC_f15 {g : Nat → zE} {b : Nat} {T : zT} {v : Int32} : zup (hC g b T) b (zO 0 ((cyO b T).set 15 (.int v))) = hC g b (ts T 7 7 v) := hC_uO rfl
/-- what a city holds, it holds -/
theorem hC_self {h : Nat → zE} {b : Nat} {T : zT} (hh : ∀ j, j ≤ 7 → h (b + j) = cyE b T j) : hC h b T = h := by
  funext q
  by_cases hi : q < b ∨ b + 7 < q
  · exact hC_out hi
  · obtain ⟨a, rfl⟩ : ∃ a, q = b + a := ⟨q - b, by omega⟩
    rw [hC_in (by omega), hh a (by omega)]
theorem hC_hC {g : Nat → zE} {b : Nat} {T T' : zT} : hC (hC g b T) b T' = hC g b T' := by
  funext q
  by_cases hi : q < b ∨ b + 7 < q
  · rw [hC_out hi, hC_out hi, hC_out hi]
  · obtain ⟨a, rfl⟩ : ∃ a, q = b + a := ⟨q - b, by omega⟩
    rw [hC_in (by omega), hC_in (by omega)]
theorem zinc (i : Nat) : nI i + Int32.ofInt 1 = nI (i + 1) := nI_1 i
theorem z_le {a b : Nat} (h : nI a ≤ nI b) (ha : a < 2 ^ 31) (hb : b < 2 ^ 31) : a ≤ b := (nI_leI ha hb).mp h
theorem z_nle {a b : Nat} (h : ¬ nI a ≤ nI b) (ha : a < 2 ^ 31) (hb : b < 2 ^ 31) : b < a := Nat.not_le.mp (fun q => h ((nI_leI ha hb).mpr q))
theorem z_lt {a b : Nat} (h : nI a < nI b) (ha : a < 2 ^ 31) (hb : b < 2 ^ 31) : a < b := (nI_ltI ha hb).mp h
theorem z_nlt {a b : Nat} (h : ¬ nI a < nI b) (ha : a < 2 ^ 31) (hb : b < 2 ^ 31) : b ≤ a := Nat.not_lt.mp (fun q => h ((nI_ltI ha hb).mpr q))
theorem zlt_0 : (0 : Int32).toInt = 0 := rfl
theorem zlt_1 : (1 : Int32).toInt = 1 := rfl
theorem zlt_2 : (2 : Int32).toInt = 2 := rfl
theorem zlt_3 : (3 : Int32).toInt = 3 := rfl
theorem zlt_4 : (4 : Int32).toInt = 4 := rfl
theorem zlt_5 : (5 : Int32).toInt = 5 := rfl
theorem zlt_6 : (6 : Int32).toInt = 6 := rfl
theorem zlt_7 : (7 : Int32).toInt = 7 := rfl
theorem zlt_8 : (8 : Int32).toInt = 8 := rfl
theorem zlt_9 : (9 : Int32).toInt = 9 := rfl
theorem zlt_10 : (10 : Int32).toInt = 10 := rfl
theorem zlt_11 : (11 : Int32).toInt = 11 := rfl
theorem zlt_12 : (12 : Int32).toInt = 12 := rfl
theorem zlt_30 : (30 : Int32).toInt = 30 := rfl
theorem zlt_39 : (39 : Int32).toInt = 39 := rfl
theorem zlt_40 : (40 : Int32).toInt = 40 := rfl
theorem zlt_59 : (59 : Int32).toInt = 59 := rfl
theorem zlt_60 : (60 : Int32).toInt = 60 := rfl
theorem zlt_61 : (61 : Int32).toInt = 61 := rfl
theorem zlt_98 : (98 : Int32).toInt = 98 := rfl
theorem zlt_99 : (99 : Int32).toInt = 99 := rfl
theorem zlt_100 : (100 : Int32).toInt = 100 := rfl
theorem zlt_119 : (119 : Int32).toInt = 119 := rfl
theorem zlt_120 : (120 : Int32).toInt = 120 := rfl
theorem zlt_998 : (998 : Int32).toInt = 998 := rfl
theorem zlt_999 : (999 : Int32).toInt = 999 := rfl
theorem zlt_9998 : (9998 : Int32).toInt = 9998 := rfl
theorem zlt_9999 : (9999 : Int32).toInt = 9999 := rfl
theorem zlt_m1 : (-1 : Int32).toInt = -1 := rfl
