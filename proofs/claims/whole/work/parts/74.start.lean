-- THE STATEMENT'S PREMISES
def kFL : List Cond := flatC (Jvm.Cond.and given_1 narrow_1)
theorem tb_1 {w : Cond} (h : w ∈ tables_1_1) : w ∈ lw_tbl := List.mem_append_right _ (List.mem_append_left _ h)
theorem tb_2 {w : Cond} (h : w ∈ tables_1_2) : w ∈ lw_tbl := List.mem_append_right _ (List.mem_append_right _ (List.mem_append_left _ h))
theorem tb_3 {w : Cond} (h : w ∈ tables_1_3) : w ∈ lw_tbl := List.mem_append_right _ (List.mem_append_right _ (List.mem_append_right _ (List.mem_append_left _ h)))
theorem tb_4 {w : Cond} (h : w ∈ tables_1_4) : w ∈ lw_tbl := List.mem_append_right _ (List.mem_append_right _ (List.mem_append_right _ (List.mem_append_right _ (List.mem_append_left _ h))))
theorem tb_5 {w : Cond} (h : w ∈ tables_1_5) : w ∈ lw_tbl := List.mem_append_right _ (List.mem_append_right _ (List.mem_append_right _ (List.mem_append_right _ (List.mem_append_right _ h))))
def kS (own : String) (k : Nat) (bs : List Int32) : List Cond := Cond.exactly (.string own k) "java/lang/String" :: Cond.eq (.field (.string own k) "java/lang/String" "coder" "B") (.int 0) :: Cond.arrayOf (.field (.string own k) "java/lang/String" "value" "[B") .byte :: Cond.eq (.length (.field (.string own k) "java/lang/String" "value" "[B")) (.int (Int32.ofNat bs.length)) :: (List.range bs.length).map (fun j => Cond.eq (.elem (.field (.string own k) "java/lang/String" "value" "[B") (.int (Int32.ofNat j))) (.int (bs.getD j 0)))
def kP (q : String × Nat × String × List Int32) : Prop := q.2.2.2.length < 2 ^ 31 ∧ Cond.stringRef q.1 q.2.1 q.2.2.1 ∈ lw_tbl ∧ ∀ w ∈ kS q.1 q.2.1 q.2.2.2, w ∈ kFL
theorem kS_in {own : String} {k p : Nat} {bs : List Int32} (h : kS own k bs = (kFL.drop p).take (4 + bs.length)) : ∀ w ∈ kS own k bs, w ∈ kFL := fun w hw => List.mem_of_mem_drop (List.mem_of_mem_take (h ▸ hw))
theorem kP_0 : kP (RX2, 67, "widow", [119, 105, 100, 111, 119]) := ⟨Nat.le_of_ble_eq_true rfl, tb_3 (List.mem_of_getElem? (i := 62) (by decide +kernel)), kS_in (p := 19) (by decide +kernel)⟩
theorem kP_1 : kP (RX2, 69, "fan", [102, 97, 110]) := ⟨Nat.le_of_ble_eq_true rfl, tb_3 (List.mem_of_getElem? (i := 63) (by decide +kernel)), kS_in (p := 28) (by decide +kernel)⟩
theorem kP_2 : kP (RX2, 71, "claque", [99, 108, 97, 113, 117, 101]) := ⟨Nat.le_of_ble_eq_true rfl, tb_3 (List.mem_of_getElem? (i := 64) (by decide +kernel)), kS_in (p := 35) (by decide +kernel)⟩
theorem kP_3 : kP (RX2, 73, "hungry", [104, 117, 110, 103, 114, 121]) := ⟨Nat.le_of_ble_eq_true rfl, tb_3 (List.mem_of_getElem? (i := 65) (by decide +kernel)), kS_in (p := 45) (by decide +kernel)⟩
theorem kP_4 : kP (RX2, 75, "seller", [115, 101, 108, 108, 101, 114]) := ⟨Nat.le_of_ble_eq_true rfl, tb_3 (List.mem_of_getElem? (i := 66) (by decide +kernel)), kS_in (p := 55) (by decide +kernel)⟩
theorem kP_5 : kP (RX2, 77, "boy", [98, 111, 121]) := ⟨Nat.le_of_ble_eq_true rfl, tb_3 (List.mem_of_getElem? (i := 67) (by decide +kernel)), kS_in (p := 65) (by decide +kernel)⟩
theorem kP_6 : kP (RX2, 79, "citizen", [99, 105, 116, 105, 122, 101, 110]) := ⟨Nat.le_of_ble_eq_true rfl, tb_3 (List.mem_of_getElem? (i := 68) (by decide +kernel)), kS_in (p := 72) (by decide +kernel)⟩
theorem kP_7 : kP (RX3, 317, "hunger", [104, 117, 110, 103, 101, 114]) := ⟨Nat.le_of_ble_eq_true rfl, tb_3 (List.mem_of_getElem? (i := 125) (by decide +kernel)), kS_in (p := 83) (by decide +kernel)⟩
theorem kP_8 : kP (RX3, 322, "colour", [99, 111, 108, 111, 117, 114]) := ⟨Nat.le_of_ble_eq_true rfl, tb_3 (List.mem_of_getElem? (i := 131) (by decide +kernel)), kS_in (p := 93) (by decide +kernel)⟩
theorem kP_9 : kP (RX3, 324, "coin", [99, 111, 105, 110]) := ⟨Nat.le_of_ble_eq_true rfl, tb_3 (List.mem_of_getElem? (i := 132) (by decide +kernel)), kS_in (p := 103) (by decide +kernel)⟩
theorem kP_10 : kP (RX3, 325, "loaf", [108, 111, 97, 102]) := ⟨Nat.le_of_ble_eq_true rfl, tb_3 (List.mem_of_getElem? (i := 133) (by decide +kernel)), kS_in (p := 111) (by decide +kernel)⟩
theorem kP_11 : kP (RX3, 327, "seat", [115, 101, 97, 116]) := ⟨Nat.le_of_ble_eq_true rfl, tb_3 (List.mem_of_getElem? (i := 134) (by decide +kernel)), kS_in (p := 119) (by decide +kernel)⟩
theorem kP_12 : kP (RX3, 302, "loaves", [108, 111, 97, 118, 101, 115]) := ⟨Nat.le_of_ble_eq_true rfl, tb_3 (List.mem_of_getElem? (i := 135) (by decide +kernel)), kS_in (p := 127) (by decide +kernel)⟩
theorem kP_13 : kP (RX3, 310, "seats", [115, 101, 97, 116, 115]) := ⟨Nat.le_of_ble_eq_true rfl, tb_3 (List.mem_of_getElem? (i := 140) (by decide +kernel)), kS_in (p := 137) (by decide +kernel)⟩
theorem kP_14 : kP (RX3, 311, "bound", [98, 111, 117, 110, 100]) := ⟨Nat.le_of_ble_eq_true rfl, tb_3 (List.mem_of_getElem? (i := 141) (by decide +kernel)), kS_in (p := 146) (by decide +kernel)⟩
theorem kP_15 : kP (RX3, 313, "leads", [108, 101, 97, 100, 115]) := ⟨Nat.le_of_ble_eq_true rfl, tb_3 (List.mem_of_getElem? (i := 142) (by decide +kernel)), kS_in (p := 155) (by decide +kernel)⟩
theorem kP_16 : kP (RX3, 314, "stale", [115, 116, 97, 108, 101]) := ⟨Nat.le_of_ble_eq_true rfl, tb_3 (List.mem_of_getElem? (i := 143) (by decide +kernel)), kS_in (p := 164) (by decide +kernel)⟩
theorem kP_17 : kP (RX3, 315, "fresh", [102, 114, 101, 115, 104]) := ⟨Nat.le_of_ble_eq_true rfl, tb_3 (List.mem_of_getElem? (i := 144) (by decide +kernel)), kS_in (p := 173) (by decide +kernel)⟩
theorem kP_18 : kP (RX4, 235, "citizen", [99, 105, 116, 105, 122, 101, 110]) := ⟨Nat.le_of_ble_eq_true rfl, tb_5 (List.mem_of_getElem? (i := 116) (by decide +kernel)), kS_in (p := 182) (by decide +kernel)⟩
theorem kP_19 : kP (RX4, 237, "widow", [119, 105, 100, 111, 119]) := ⟨Nat.le_of_ble_eq_true rfl, tb_5 (List.mem_of_getElem? (i := 123) (by decide +kernel)), kS_in (p := 194) (by decide +kernel)⟩
theorem kP_20 : kP (RX4, 239, "fan", [102, 97, 110]) := ⟨Nat.le_of_ble_eq_true rfl, tb_5 (List.mem_of_getElem? (i := 124) (by decide +kernel)), kS_in (p := 204) (by decide +kernel)⟩
theorem kP_21 : kP (RX4, 241, "claque", [99, 108, 97, 113, 117, 101]) := ⟨Nat.le_of_ble_eq_true rfl, tb_5 (List.mem_of_getElem? (i := 125) (by decide +kernel)), kS_in (p := 212) (by decide +kernel)⟩
theorem kP_22 : kP (RX4, 243, "hungry", [104, 117, 110, 103, 114, 121]) := ⟨Nat.le_of_ble_eq_true rfl, tb_5 (List.mem_of_getElem? (i := 126) (by decide +kernel)), kS_in (p := 223) (by decide +kernel)⟩
theorem kP_23 : kP (RX4, 244, "seller", [115, 101, 108, 108, 101, 114]) := ⟨Nat.le_of_ble_eq_true rfl, tb_5 (List.mem_of_getElem? (i := 127) (by decide +kernel)), kS_in (p := 234) (by decide +kernel)⟩
theorem kP_24 : kP (RX4, 246, "boy", [98, 111, 121]) := ⟨Nat.le_of_ble_eq_true rfl, tb_5 (List.mem_of_getElem? (i := 128) (by decide +kernel)), kS_in (p := 245) (by decide +kernel)⟩
theorem kP_25 : kP (RX4, 248, "hunger", [104, 117, 110, 103, 101, 114]) := ⟨Nat.le_of_ble_eq_true rfl, tb_5 (List.mem_of_getElem? (i := 133) (by decide +kernel)), kS_in (p := 253) (by decide +kernel)⟩
theorem kP_26 : kP (RX4, 255, "colour", [99, 111, 108, 111, 117, 114]) := ⟨Nat.le_of_ble_eq_true rfl, tb_5 (List.mem_of_getElem? (i := 142) (by decide +kernel)), kS_in (p := 264) (by decide +kernel)⟩
theorem kP_27 : kP (RX4, 257, "coin", [99, 111, 105, 110]) := ⟨Nat.le_of_ble_eq_true rfl, tb_5 (List.mem_of_getElem? (i := 143) (by decide +kernel)), kS_in (p := 275) (by decide +kernel)⟩
theorem kP_28 : kP (RX4, 259, "loaf", [108, 111, 97, 102]) := ⟨Nat.le_of_ble_eq_true rfl, tb_5 (List.mem_of_getElem? (i := 144) (by decide +kernel)), kS_in (p := 284) (by decide +kernel)⟩
theorem kP_29 : kP (RX4, 261, "seat", [115, 101, 97, 116]) := ⟨Nat.le_of_ble_eq_true rfl, tb_5 (List.mem_of_getElem? (i := 145) (by decide +kernel)), kS_in (p := 293) (by decide +kernel)⟩
theorem kP_30 : kP (RX4, 277, "stale", [115, 116, 97, 108, 101]) := ⟨Nat.le_of_ble_eq_true rfl, tb_5 (List.mem_of_getElem? (i := 146) (by decide +kernel)), kS_in (p := 302) (by decide +kernel)⟩
theorem kP_31 : kP (RX4, 279, "fresh", [102, 114, 101, 115, 104]) := ⟨Nat.le_of_ble_eq_true rfl, tb_5 (List.mem_of_getElem? (i := 147) (by decide +kernel)), kS_in (p := 312) (by decide +kernel)⟩
theorem kP_32 : kP (RX4, 263, "loaves", [108, 111, 97, 118, 101, 115]) := ⟨Nat.le_of_ble_eq_true rfl, tb_5 (List.mem_of_getElem? (i := 152) (by decide +kernel)), kS_in (p := 322) (by decide +kernel)⟩
theorem kP_33 : kP (RX4, 265, "seats", [115, 101, 97, 116, 115]) := ⟨Nat.le_of_ble_eq_true rfl, tb_5 (List.mem_of_getElem? (i := 153) (by decide +kernel)), kS_in (p := 333) (by decide +kernel)⟩
theorem kP_34 : kP (RX4, 267, "bound", [98, 111, 117, 110, 100]) := ⟨Nat.le_of_ble_eq_true rfl, tb_5 (List.mem_of_getElem? (i := 154) (by decide +kernel)), kS_in (p := 343) (by decide +kernel)⟩
theorem kP_35 : kP (RX4, 269, "leads", [108, 101, 97, 100, 115]) := ⟨Nat.le_of_ble_eq_true rfl, tb_5 (List.mem_of_getElem? (i := 155) (by decide +kernel)), kS_in (p := 353) (by decide +kernel)⟩
theorem kP_all : ∀ q ∈ zTx, kP q := List.forall_mem_cons.mpr ⟨kP_0, List.forall_mem_cons.mpr ⟨kP_1, List.forall_mem_cons.mpr ⟨kP_2, List.forall_mem_cons.mpr ⟨kP_3, List.forall_mem_cons.mpr ⟨kP_4, List.forall_mem_cons.mpr ⟨kP_5, List.forall_mem_cons.mpr ⟨kP_6, List.forall_mem_cons.mpr ⟨kP_7, List.forall_mem_cons.mpr ⟨kP_8, List.forall_mem_cons.mpr ⟨kP_9, List.forall_mem_cons.mpr ⟨kP_10, List.forall_mem_cons.mpr ⟨kP_11, List.forall_mem_cons.mpr ⟨kP_12, List.forall_mem_cons.mpr ⟨kP_13, List.forall_mem_cons.mpr ⟨kP_14, List.forall_mem_cons.mpr ⟨kP_15, List.forall_mem_cons.mpr ⟨kP_16, List.forall_mem_cons.mpr ⟨kP_17, List.forall_mem_cons.mpr ⟨kP_18, List.forall_mem_cons.mpr ⟨kP_19, List.forall_mem_cons.mpr ⟨kP_20, List.forall_mem_cons.mpr ⟨kP_21, List.forall_mem_cons.mpr ⟨kP_22, List.forall_mem_cons.mpr ⟨kP_23, List.forall_mem_cons.mpr ⟨kP_24, List.forall_mem_cons.mpr ⟨kP_25, List.forall_mem_cons.mpr ⟨kP_26, List.forall_mem_cons.mpr ⟨kP_27, List.forall_mem_cons.mpr ⟨kP_28, List.forall_mem_cons.mpr ⟨kP_29, List.forall_mem_cons.mpr ⟨kP_30, List.forall_mem_cons.mpr ⟨kP_31, List.forall_mem_cons.mpr ⟨kP_32, List.forall_mem_cons.mpr ⟨kP_33, List.forall_mem_cons.mpr ⟨kP_34, List.forall_mem_cons.mpr ⟨kP_35, fun _ hz => absurd hz List.not_mem_nil⟩⟩⟩⟩⟩⟩⟩⟩⟩⟩⟩⟩⟩⟩⟩⟩⟩⟩⟩⟩⟩⟩⟩⟩⟩⟩⟩⟩⟩⟩⟩⟩⟩⟩⟩⟩
theorem kA_in : ∀ j, j < 7 → Cond.eq (.elem (.static "BreadGames" "KIND_ABOVE" "[I") (.int (Int32.ofNat j))) (.int (zKA j)) ∈ kFL := fun j hj => by
  match j, hj with
  | 0, _ => exact List.mem_of_getElem? (i := 12) (by decide +kernel)
  | 1, _ => exact List.mem_of_getElem? (i := 13) (by decide +kernel)
  | 2, _ => exact List.mem_of_getElem? (i := 14) (by decide +kernel)
  | 3, _ => exact List.mem_of_getElem? (i := 15) (by decide +kernel)
  | 4, _ => exact List.mem_of_getElem? (i := 16) (by decide +kernel)
  | 5, _ => exact List.mem_of_getElem? (i := 17) (by decide +kernel)
  | 6, _ => exact List.mem_of_getElem? (i := 18) (by decide +kernel)
  | j + 7, hj => exact absurd hj (by omega)
/-- a string of the Statement's premises -/
theorem zS_of {s : State} {b : Nat} {A : Nat → Prop} (hts : ∀ w ∈ lw_tbl, w.before #[Value.ref b] s = true) (hs : ∀ w ∈ kFL, w.before #[Value.ref b] s = true) (hA : ∀ a : Nat, a < s.heap.size → ¬ A a) {q : String × Nat × String × List Int32} (hq : q ∈ zTx) : ∃ a t : Nat, zS A q a t s := by
  obtain ⟨h0, h1, h⟩ := kP_all q hq
  obtain ⟨a, c, cA, kA, q1, q2, q3, q4, q5, q6, -⟩ := Cond.exactly_spec (args := #[Value.ref b]) (first := s) (o := none) (s := s) (idx := []) (t := .string q.1 q.2.1) (cls := "java/lang/String") (hs _ (h _ List.mem_cons_self))
  obtain ⟨t, ht, hT⟩ := va_Tof (f := fun j => .int (q.2.2.2.getD j 0)) (A := A) h0 (hs _ (h _ (List.mem_cons_of_mem _ (List.mem_cons_of_mem _ List.mem_cons_self)))) (va_eqt (hs _ (h _ (List.mem_cons_of_mem _ (List.mem_cons_of_mem _ (List.mem_cons_of_mem _ List.mem_cons_self)))))) (fun j hj => va_eqt (hs _ (h _ (List.mem_cons_of_mem _ (List.mem_cons_of_mem _ (List.mem_cons_of_mem _ (List.mem_cons_of_mem _ (List.mem_map.mpr ⟨j, List.mem_range.mpr hj, rfl⟩)))))))) hA
  exact ⟨a, t, vk_R.of (hts _ h1) q1, ⟨cA, q3, q5, by rw [q6]; exact q2, hA a (Array.getElem?_eq_some_iff.mp q3).1⟩, vk_OFof q1 (va_eqt (hs _ (h _ (List.mem_cons_of_mem _ List.mem_cons_self)))) hA, vk_OFof q1 ht hA, hT⟩
def zad (aS bS : Nat → Nat) (ka sf b : Nat) (k : Nat) : Nat := if k < 2000 then aS (k - 1000) else if k < 3000 then bS (k - 2000) else if k < 4000 then ka else if k < 5000 then sf else b
theorem zTx_len : zTx.length = 36 := by decide +kernel
set_option maxRecDepth 100000 in
set_option maxHeartbeats 4000000 in
theorem zK_of {s : State} {b : Nat} (hts : ∀ w ∈ lw_tbl, w.before #[Value.ref b] s = true) (hgv : (Jvm.Cond.and given_1 narrow_1).before #[Value.ref b] s = true) : ∃ V : zG, V.1 = s.heap.size ∧ V.2.1 5000 = b ∧ zK V s := by
  have hs : ∀ w ∈ kFL, w.before #[Value.ref b] s = true := flat_of_before _ hgv
  have hz : ∀ w ∈ zw, w.before #[Value.ref b] s = true := fun w hw => hts w (zw_tbl w hw)
  have hA : ∀ q : Nat, q < s.heap.size → ¬ (fun q : Nat => s.heap.size ≤ q) q := fun _ h => Nat.not_le.mpr h
  obtain ⟨c0, i0, k0⟩ := u_known (C := RX0) (T := TX0) (N := 16) (n := 16) hz wu_X0 (hz _ wins_X0)
  obtain ⟨c1, i1, k1⟩ := u_known (C := RX1) (T := TX1) (N := 3) (n := 3) hz wu_X1 (hz _ wins_X1)
  obtain ⟨c2, i2, k2⟩ := u_known (C := RX2) (T := TX2) (N := 6) (n := 6) hz wu_X2 (hz _ wins_X2)
  obtain ⟨c3, i3, k3⟩ := u_known (C := RX3) (T := TX3) (N := 7) (n := 7) hz wu_X3 (hz _ wins_X3)
  obtain ⟨c4, i4, k4⟩ := u_known (C := RX4) (T := TX4) (N := 17) (n := 17) hz wu_X4 (hz _ wins_X4)
  obtain ⟨dC, dI, hKc⟩ : ∃ (dC : Nat → ClassId) (dI : Nat → Nat → Nat), ∀ (k : Nat) (q : vw_C), vwCl[k]? = some q → u_Kn s q.1 q.2.1 q.2.2 (dC k) (dI k) := by
    refine ⟨fun k => if k = 0 then c0 else if k = 1 then c1 else if k = 2 then c2 else if k = 3 then c3 else c4, fun k => if k = 0 then i0 else if k = 1 then i1 else if k = 2 then i2 else if k = 3 then i3 else i4, ?_⟩
    intro k q hq
    match k, hq with
    | 0, hq => cases hq; exact k0
    | 1, hq => cases hq; exact k1
    | 2, hq => cases hq; exact k2
    | 3, hq => cases hq; exact k3
    | 4, hq => cases hq; exact k4
    | k + 5, hq => simp at hq
  obtain ⟨aS, bS, hS⟩ : ∃ aS bS : Nat → Nat, ∀ i q, zTx[i]? = some q → zS (fun q : Nat => s.heap.size ≤ q) q (aS i) (bS i) s := by
    have h0 : ∀ i : Nat, ∃ x : Nat × Nat, ∀ q, zTx[i]? = some q → zS (fun q : Nat => s.heap.size ≤ q) q x.1 x.2 s := by
      intro i
      cases e : zTx[i]? with
      | none => exact ⟨(0, 0), fun q h => by cases h⟩
      | some q =>
        obtain ⟨a, t, h⟩ := zS_of (A := fun q : Nat => s.heap.size ≤ q) hts hs hA (List.mem_of_getElem? e)
        exact ⟨(a, t), fun q' h' => by cases h'; exact h⟩
    obtain ⟨ad, had⟩ := Classical.axiomOfChoice h0
    exact ⟨fun i => (ad i).1, fun i => (ad i).2, had⟩
  obtain ⟨ka, hka, hkT⟩ := va_Tof (tm := .static "BreadGames" "KIND_ABOVE" "[I") (ty := .int) (N := 7) (f := fun j => .int (zKA j)) (A := fun q : Nat => s.heap.size ≤ q) (by omega) (hs _ (List.mem_of_getElem? (i := 10) (by decide +kernel))) (va_eqt (hs _ (List.mem_of_getElem? (i := 11) (by decide +kernel)))) (fun j hj => va_eqt (hs _ (kA_in j hj))) hA
  have hkZ := va_Zref (C := "BreadGames") (n := "KIND_ABOVE") (d := "[I") (A := fun q : Nat => s.heap.size ≤ q) (hts _ (tb_3 (List.mem_of_getElem? (i := 161) (by decide +kernel)))) (hz _ wn_X3) hka hA
  have hcZ := va_Zof (C := "java/lang/String") (n := "COMPACT_STRINGS") (d := "Z") (A := fun q : Nat => s.heap.size ≤ q) (hts _ (tb_3 (List.mem_of_getElem? (i := 82) (by decide +kernel)))) (hts _ (tb_1 (List.mem_of_getElem? (i := 9) (by decide +kernel)))) (va_eqt (z := 1) (hs _ (List.mem_of_getElem? (i := 4) (by decide +kernel)))) hA
  have hfZ := va_Zqof (C := "jdk/internal/util/Preconditions") (n := "SIOOBE_FORMATTER") (d := "Ljava/util/function/BiFunction;") (A := fun q : Nat => s.heap.size ≤ q) (hts _ (tb_3 (List.mem_of_getElem? (i := 98) (by decide +kernel)))) (hts _ (tb_1 (List.mem_of_getElem? (i := 11) (by decide +kernel)))) (hs _ (List.mem_of_getElem? (i := 5) (by decide +kernel))) hA
  obtain ⟨sf, hsf⟩ : ∃ sf : Nat, va_Z "jdk/internal/util/Preconditions" "SIOOBE_FORMATTER" "Ljava/util/function/BiFunction;" .null (fun q : Nat => s.heap.size ≤ q) s s.heap ∨ va_Z "jdk/internal/util/Preconditions" "SIOOBE_FORMATTER" "Ljava/util/function/BiFunction;" (.ref sf) (fun q : Nat => s.heap.size ≤ q) s s.heap := by
    rcases hfZ with z | ⟨t, z⟩
    · exact ⟨0, Or.inl z⟩
    · exact ⟨t, Or.inr z⟩
  have hao : (Cond.arrayOver (.object RX1)).before #[Value.ref b] s = true := hts _ (tb_1 (List.mem_of_getElem? (i := 121) (by decide +kernel)))
  obtain ⟨cI, kI, cpI, a1, a2, a3⟩ := Cond.arrayClass_spec (hz _ warr_int)
  obtain ⟨cpR, cR, kR, r1, r2, r3, r4, r5⟩ := Cond.arrayOver_spec hao
  refine ⟨(s.heap.size, zad aS bS ka sf b, (dC, dI), cI, cR), rfl, rfl, ⟨hKc, fun k q hk => ?_⟩, Nat.le_refl _, ?_⟩
  · match k, hk with
    | 0, hk => cases hk; exact ⟨fun n z => ⟨fun k h => (by cases h), kI, a2, cpI, a3⟩, a1⟩
    | 1, hk => cases hk; exact ⟨fun n z => ⟨fun k h => (by cases h), kR, r3, cpR, r4⟩, kR, cpR, r3, r4, r1, r5⟩
    | k + 2, hk => simp at hk
  · refine ⟨fun i q hi => ?_, hkZ, hkT, hcZ, va_Nw.of (A := #[Value.ref b]) rfl (hts _ (tb_1 (List.mem_of_getElem? (i := 93) (by decide +kernel)))), va_Nw.of (A := #[Value.ref b]) rfl (hts _ (tb_1 (List.mem_of_getElem? (i := 123) (by decide +kernel)))), va_Nw.of (A := #[Value.ref b]) rfl (hts _ (tb_1 (List.mem_of_getElem? (i := 210) (by decide +kernel)))), va_AO.of hao, hsf⟩
    have h36 : i < 36 := by
      rw [← zTx_len]
      exact (List.getElem?_eq_some_iff.mp hi).1
    have e1 : zad aS bS ka sf b (1000 + i) = aS i := by
      unfold zad
      rw [if_pos (by omega), Nat.add_sub_cancel_left]
    have e2 : zad aS bS ka sf b (2000 + i) = bS i := by
      unfold zad
      rw [if_neg (by omega), if_pos (by omega), Nat.add_sub_cancel_left]
    show zS (fun q : Nat => s.heap.size ≤ q) q (zad aS bS ka sf b (1000 + i)) (zad aS bS ka sf b (2000 + i)) s
    rw [e1, e2]
    exact hS i q hi
