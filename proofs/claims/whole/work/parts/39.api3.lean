def zI9 (x : Int32) : Bool := inR x 0 9
def fHol (T : zT) (s c : Int32) : Nat := if inR s 0 9 = true ∧ (c = -1 ∨ hs T c = true) then 7 else 0
def tHol (T : zT) (s c : Int32) : zT := if fHol T s c = 7 then ts T 6 (ci s) c else T
theorem ix69 (i : Nat) : (69 : Int32) + nI i = nI (69 + i) := nI_add 69 i
def rCnt (T R : zT) (N : Nat) (w : Int32) : Int32 := if w = 0 then T 7 5 else if w = 1 then T 7 8 else if w = 2 then sumW (T 1) N else if w = 3 then sumW (T 3) N else if w = 4 then sumW (T 4) N else if w = 5 then R 7 3 else if w = 6 then T 7 7 else sumW (fun i => if T 6 i < 0 then 0 else 1) 10
def fCnt (w : Int32) : Nat := if inR w 0 7 = true then 7 else 0
theorem in7_no {x : Int32} (h0 : ¬ x = 0) (h1 : ¬ x = 1) (h2 : ¬ x = 2) (h3 : ¬ x = 3) (h4 : ¬ x = 4) (h5 : ¬ x = 5) (h6 : ¬ x = 6) (h7 : ¬ x = 7) : inR x 0 7 = false := by
  refine Bool.eq_false_iff.mpr (fun z => ?_)
  obtain ⟨j, hj, rfl⟩ := inR_nI (n := 7) z rfl (by omega)
  match j, hj with
  | 0, _ => exact h0 rfl
  | 1, _ => exact h1 rfl
  | 2, _ => exact h2 rfl
  | 3, _ => exact h3 rfl
  | 4, _ => exact h4 rfl
  | 5, _ => exact h5 rfl
  | 6, _ => exact h6 rfl
  | 7, _ => exact h7 rfl
def fUnd (R : zT) : Nat := if R 7 0 = 0 then 3 else 7
def fSta (w : Int32) : Nat := if inR w (-1) 6 = true then 7 else 0
def rSta (R : zT) (w : Int32) : Int32 := sumW (fun k => if w < 0 ∨ w = nI k then R 2 k else 0) 7
def famT (T : zT) (N : Nat) : Nat → zT
  | 0 => T
  | i + 1 =>
    let U := famT T N i
    ts (drT (drT U)) 1 (zrem (zdr (U 7 7)) (nI N)).toNatClampNeg (zrem (zdr (drT U 7 7)) 10)
def fFam (N : Nat) (n : Int32) : Nat := if inR n 1 12 = true then (if N = 0 then 4 else 7) else 0
def tFam (T : zT) (N : Nat) (n : Int32) : zT := if fFam N n = 7 then famT T N (ci n) else T
theorem famT_7 (T : zT) (N k : Nat) (h : k ≠ 7) : ∀ i, famT T N i 7 k = T 7 k := by
  intro i
  induction i with
  | zero => rfl
  | succ i ih =>
    simp only [famT]
    rw [ts_n (by decide), drT_7 h, drT_7 h, ih]

set_option maxRecDepth 100000 in
set_option maxHeartbeats 4000000 in
theorem m_X4_seed {g : Nat → zE} {T R : zT} (v : Int32) : zM 1 M_X4_seed [.ref 37, .int v] (hR g T R) 46 (some (.int (T 7 7))) (hR g (ts T 7 7 v) R) 46 0 0 := by
  refine zM.intro (by decide) (Nat.le_of_ble_eq_true rfl) ?_
  intro Wf V m H0 Γ ρ
  replace Γ : zC Wf V m 2 H0 cX4_seed RX4 1 0 0 := Γ
  show zX Wf V m 2 H0 0 (zls [(0, .ref 37), (1, .int v)]) [] (hR g T R) 46 0 0
  refine x_aload_n Γ dX4_seed_0 rfl ?_
  refine x_bipush Γ (v := 7) dX4_seed_1 rfl ?_
  refine x_iload_n Γ dX4_seed_3 rfl ?_
  refine x_callV Γ calv_X4_becomes wl_X4_91 dX4_seed_4 (m_X4_becomes (g := g) (T := T) (R := R) (T2 := ts T 7 7 v) (k := 7) (by decide) (mr_us (by decide))) rfl (by decide) (by decide) rfl rfl rfl rfl (Nat.le_of_ble_eq_true rfl) (Nat.le_refl _) (Nat.le_refl _) ?_
  exact x_iret ρ rfl dX4_seed_7 rfl (rfl) rfl (zH.rf)

set_option maxRecDepth 100000 in
set_option maxHeartbeats 4000000 in
theorem m_X4_wipe {g : Nat → zE} {T R : zT} : zM 0 M_X4_wipe [.ref 37] (hR g T R) 46 (some (.int (R 7 3))) (hR g T (ts R 7 3 0)) 46 0 0 := by
  refine zM.intro (by decide) (Nat.le_of_ble_eq_true rfl) ?_
  intro Wf V m H0 Γ ρ
  replace Γ : zC Wf V m 2 H0 cX4_wipe RX4 0 0 0 := Γ
  show zX Wf V m 2 H0 0 (zls [(0, .ref 37)]) [] (hR g T R) 46 0 0
  refine x_aload_n Γ dX4_wipe_0 rfl ?_
  refine gf_X4_197 Γ dX4_wipe_1 (by decide) rfl rfl ?_
  refine x_istore_n Γ dX4_wipe_4 (by decide) ?_
  refine x_aload_n Γ dX4_wipe_5 rfl ?_
  refine x_iconst Γ (v := 0) dX4_wipe_6 rfl ?_
  refine pf_X4_197 Γ dX4_wipe_7 (by decide) rfl (Nat.le_of_ble_eq_true rfl) (hR_uO (k := 3) rfl) ?_
  refine x_iload_n Γ dX4_wipe_10 rfl ?_
  exact x_iret ρ rfl dX4_wipe_11 rfl (rfl) rfl (zH.rf)

set_option maxRecDepth 100000 in
set_option maxHeartbeats 4000000 in
theorem m_X4_hold {g : Nat → zE} {T R : zT} {N : Nat} (hN : wN T N) (s c : Int32) : zM 2 M_X4_hold [.ref 37, .int s, .int c] (hR g T R) 46 (some (.int (fr (fHol T s c) (1)))) (hR g (tHol T s c) (fR R (fHol T s c))) 46 0 0 := by
  refine zM.intro (by decide) (Nat.le_of_ble_eq_true rfl) ?_
  intro Wf V m H0 Γ ρ
  replace Γ : zC Wf V m 3 H0 cX4_hold RX4 2 0 0 := Γ
  show zX Wf V m 3 H0 0 (zls [(0, .ref 37), (1, .int s), (2, .int c)]) [] (hR g T R) 46 0 0
  have hN2 := hN.2
  refine x_iload_n Γ dX4_hold_0 rfl ?_
  refine x_i2l Γ dX4_hold_1 ?_
  refine x_lconst Γ (v := 0) dX4_hold_2 rfl ?_
  refine x_ldc2 Γ wl_X4_46 dX4_hold_3 ?_
  refine x_callS Γ cals_X4_in wl_X4_40 dX4_hold_6 (m_in s 0 9 0 9 rfl rfl) rfl (by decide) rfl (Nat.le_of_ble_eq_true rfl) (Nat.le_refl _) (Nat.le_refl _) ?_
  refine x_if_eq Γ (tgt := 25) dX4_hold_9 (by decide) (fun c_1 => ?_) (fun c_1 => ?_)
  · have c_1 := zb_0.mp c_1
    refine x_aload_n Γ dX4_hold_25 rfl ?_
    refine x_ldc Γ wl_X4_34 dX4_hold_26 ?_
    refine x_callV Γ calv_X4_finds wl_X4_36 dX4_hold_28 (m_X4_finds (f := -1000001) (k := 0) (by decide) (by decide)) rfl (by decide) (by decide) rfl rfl rfl rfl (Nat.le_of_ble_eq_true rfl) (Nat.le_refl _) (Nat.le_refl _) ?_
    exact x_iret ρ rfl dX4_hold_31 rfl (by simp [fr, fHol, *]; try rfl) rfl (by simp [fR, fHol, tHol, *]; exact zH.rf)
  · have c_1 := zb_n0.mp c_1
    obtain ⟨j, hj, rfl⟩ := inR_nI (n := 9) c_1 rfl (by omega)
    have ej : ci (nI j) = j := nI_clamp (by omega)
    refine x_iload_n Γ dX4_hold_12 rfl ?_
    refine x_iconst Γ (v := -1) dX4_hold_13 rfl ?_
    refine x_icmp_eq Γ (tgt := 32) dX4_hold_14 (by decide) (fun c_2 => ?_) (fun c_2 => ?_)
    · refine x_aload_n Γ dX4_hold_32 rfl ?_
      refine gf_X4_9 Γ dX4_hold_33 (by decide) rfl rfl ?_
      refine x_bipush Γ (v := 69) dX4_hold_36 rfl ?_
      refine x_iload_n Γ dX4_hold_38 rfl ?_
      refine x_iadd Γ dX4_hold_39 ?_
      refine x_iload_n Γ dX4_hold_40 rfl ?_
      refine x_iast Γ dX4_hold_41 (by decide) (by rfl) (ix69 j) (by omega) (by decide) hR_mp ?_
      refine x_iconst Γ (v := 1) dX4_hold_42 rfl ?_
      exact x_iret ρ rfl dX4_hold_43 rfl (by simp [fr, fHol, *]; try rfl) rfl (by simp [fR, fHol, tHol, *]; exact zH.rf)
    · refine x_aload_n Γ dX4_hold_17 rfl ?_
      refine x_iload_n Γ dX4_hold_18 rfl ?_
      refine x_callV Γ calv_X4_isOne wl_X4_67 dX4_hold_19 (m_X4_isOne (g := g) (T := T) (R := R) hN c) rfl (by decide) (by decide) rfl rfl rfl rfl (Nat.le_of_ble_eq_true rfl) (Nat.le_refl _) (Nat.le_refl _) ?_
      refine x_if_ne Γ (tgt := 32) dX4_hold_22 (by decide) (fun c_3 => ?_) (fun c_3 => ?_)
      · have c_3 := zb_n0.mp c_3
        refine x_aload_n Γ dX4_hold_32 rfl ?_
        refine gf_X4_9 Γ dX4_hold_33 (by decide) rfl rfl ?_
        refine x_bipush Γ (v := 69) dX4_hold_36 rfl ?_
        refine x_iload_n Γ dX4_hold_38 rfl ?_
        refine x_iadd Γ dX4_hold_39 ?_
        refine x_iload_n Γ dX4_hold_40 rfl ?_
        refine x_iast Γ dX4_hold_41 (by decide) (by rfl) (ix69 j) (by omega) (by decide) hR_mp ?_
        refine x_iconst Γ (v := 1) dX4_hold_42 rfl ?_
        exact x_iret ρ rfl dX4_hold_43 rfl (by simp [fr, fHol, *]; try rfl) rfl (by simp [fR, fHol, tHol, *]; exact zH.rf)
      · have c_3 := zb_0.mp c_3
        refine x_aload_n Γ dX4_hold_25 rfl ?_
        refine x_ldc Γ wl_X4_34 dX4_hold_26 ?_
        refine x_callV Γ calv_X4_finds wl_X4_36 dX4_hold_28 (m_X4_finds (f := -1000001) (k := 0) (by decide) (by decide)) rfl (by decide) (by decide) rfl rfl rfl rfl (Nat.le_of_ble_eq_true rfl) (Nat.le_refl _) (Nat.le_refl _) ?_
        exact x_iret ρ rfl dX4_hold_31 rfl (by simp [fr, fHol, *]; try rfl) rfl (by simp [fR, fHol, tHol, *]; exact zH.rf)

set_option maxRecDepth 100000 in
set_option maxHeartbeats 4000000 in
theorem m_X4_holding {g : Nat → zE} {T R : zT} : zM 0 M_X4_holding [.ref 37] (hR g T R) 46 (some (.int (sumW (fun i => if T 6 i < 0 then 0 else 1) 10))) (hR g T R) 46 0 0 := by
  refine zM.intro (by decide) (Nat.le_of_ble_eq_true rfl) ?_
  intro Wf V m H0 Γ ρ
  replace Γ : zC Wf V m 3 H0 cX4_holding RX4 0 0 0 := Γ
  show zX Wf V m 3 H0 0 (zls [(0, .ref 37)]) [] (hR g T R) 46 0 0
  refine x_iconst Γ (v := 0) dX4_holding_0 rfl ?_
  refine x_istore_n Γ dX4_holding_1 (by decide) ?_
  refine x_iconst Γ (v := 0) dX4_holding_2 rfl ?_
  refine x_istore_n Γ dX4_holding_3 (by decide) ?_
  suffices L_4 : ∀ (k c : Nat), c ≤ 10 → 10 - c < k → zX Wf V m 3 H0 4 (zls [(0, .ref 37), (1, .int (sumW (fun i => if T 6 i < 0 then 0 else 1) c)), (2, .int (nI c))]) [] (hR g T R) 46 0 0 by
    exact x_subl [(0, .ref 37), (1, .int (sumW (fun i => if T 6 i < 0 then 0 else 1) 0)), (2, .int (nI 0))] (List.forall_mem_cons.mpr ⟨rfl, List.forall_mem_cons.mpr ⟨rfl, List.forall_mem_cons.mpr ⟨rfl, fun _ hz => absurd hz List.not_mem_nil⟩⟩⟩) (x_heap (rfl) (L_4 (10 + 1) 0 (by omega) (by omega)))
  intro k
  induction k with
  | zero => intro c h1 h2; omega
  | succ k ih =>
    intro c h1 h2
    refine x_iload_n Γ dX4_holding_4 rfl ?_
    refine x_bipush Γ (v := 10) dX4_holding_5 rfl ?_
    refine x_icmp_ge Γ (tgt := 36) dX4_holding_7 (by decide) (fun c_1 => ?_) (fun c_1 => ?_)
    · have c_1 := z_le (a := 10) c_1 (by omega) (by omega)
      obtain rfl : c = 10 := by omega
      refine x_iload_n Γ dX4_holding_36 rfl ?_
      exact x_iret ρ rfl dX4_holding_37 rfl (rfl) rfl (zH.rf)
    · have c_1 := z_nle (a := 10) c_1 (by omega) (by omega)
      refine x_iload_n Γ dX4_holding_10 rfl ?_
      refine x_aload_n Γ dX4_holding_11 rfl ?_
      refine gf_X4_9 Γ dX4_holding_12 (by decide) rfl rfl ?_
      refine x_bipush Γ (v := 69) dX4_holding_15 rfl ?_
      refine x_iload_n Γ dX4_holding_17 rfl ?_
      refine x_iadd Γ dX4_holding_18 ?_
      refine x_iald Γ dX4_holding_19 (by decide) (by rfl) (ix69 c) (by omega) (by decide) mr_p ?_
      refine x_if_ge Γ (tgt := 27) dX4_holding_20 (by decide) (fun c_2 => ?_) (fun c_2 => ?_)
      · have hnl := Int32.not_lt.mpr c_2
        refine x_iconst Γ (v := 1) dX4_holding_27 rfl ?_
        refine x_iadd Γ dX4_holding_28 ?_
        refine x_istore_n Γ dX4_holding_29 (by decide) ?_
        refine x_iinc Γ dX4_holding_30 rfl (by first | exact zinc _ | rfl) (by decide) ?_
        refine x_goto Γ (tgt := 4) dX4_holding_33 (by decide) ?_
        exact x_subl [(0, .ref 37), (1, .int (sumW (fun i => if T 6 i < 0 then 0 else 1) (c + 1))), (2, .int (nI (c + 1)))] (List.forall_mem_cons.mpr ⟨rfl, List.forall_mem_cons.mpr ⟨zsi (by simp [sumW, hnl]), List.forall_mem_cons.mpr ⟨rfl, fun _ hz => absurd hz List.not_mem_nil⟩⟩⟩) (x_heap (rfl) (ih (c + 1) (by omega) (by omega)))
      · have hnl := Int32.not_le.mp c_2
        refine x_iconst Γ (v := 0) dX4_holding_23 rfl ?_
        refine x_goto Γ (tgt := 28) dX4_holding_24 (by decide) ?_
        refine x_iadd Γ dX4_holding_28 ?_
        refine x_istore_n Γ dX4_holding_29 (by decide) ?_
        refine x_iinc Γ dX4_holding_30 rfl (by first | exact zinc _ | rfl) (by decide) ?_
        refine x_goto Γ (tgt := 4) dX4_holding_33 (by decide) ?_
        exact x_subl [(0, .ref 37), (1, .int (sumW (fun i => if T 6 i < 0 then 0 else 1) (c + 1))), (2, .int (nI (c + 1)))] (List.forall_mem_cons.mpr ⟨rfl, List.forall_mem_cons.mpr ⟨zsi (by simp [sumW, hnl]), List.forall_mem_cons.mpr ⟨rfl, fun _ hz => absurd hz List.not_mem_nil⟩⟩⟩) (x_heap (rfl) (ih (c + 1) (by omega) (by omega)))

set_option maxRecDepth 100000 in
set_option maxHeartbeats 4000000 in
theorem m_X4_image {g : Nat → zE} {T R : zT} : zM 1 M_X4_image [.ref 37] (hR g T R) 46 (some (.int 1)) (hR g T (ts (tr R 0 (mr T)) 7 0 1)) 46 0 0 := by
  refine zM.intro (by decide) (Nat.le_of_ble_eq_true rfl) ?_
  intro Wf V m H0 Γ ρ
  replace Γ : zC Wf V m 1 H0 cX4_image RX4 1 0 0 := Γ
  show zX Wf V m 1 H0 0 (zls [(0, .ref 37)]) [] (hR g T R) 46 0 0
  refine x_aload_n Γ dX4_image_0 rfl ?_
  refine gf_X4_9 Γ dX4_image_1 (by decide) rfl rfl ?_
  refine x_aload_n Γ dX4_image_4 rfl ?_
  refine gf_X4_13 Γ dX4_image_5 (by decide) rfl rfl ?_
  refine x_callSv Γ cals_X4_row wl_X4_123 dX4_image_8 (row_mk (g := g) (T := T) (R := R)) rfl (by decide) rfl (Nat.le_of_ble_eq_true rfl) (Nat.le_refl _) (Nat.le_refl _) ?_
  refine x_aload_n Γ dX4_image_11 rfl ?_
  refine x_iconst Γ (v := 1) dX4_image_12 rfl ?_
  refine pf_X4_302 Γ (hx := by first | rfl | exact zb_and _) dX4_image_13 (by decide) rfl (Nat.le_of_ble_eq_true rfl) (hR_uO (k := 0) rfl) ?_
  refine x_iconst Γ (v := 1) dX4_image_16 rfl ?_
  exact x_iret ρ rfl dX4_image_17 rfl (rfl) rfl (zH.rf)

set_option maxRecDepth 100000 in
set_option maxHeartbeats 4000000 in
theorem m_X4_undo {g : Nat → zE} {T R : zT} {U : zT} (hU : R 7 0 ≠ 0 → R 0 = mr U) : zM 1 M_X4_undo [.ref 37] (hR g T R) 46 (some (.int (if R 7 0 = 0 then -1000004 else U 7 5))) (hR g (if R 7 0 = 0 then T else U) (if R 7 0 = 0 then ts R 2 3 (R 2 3 + 1) else R)) 46 0 0 := by
  refine zM.intro (by decide) (Nat.le_of_ble_eq_true rfl) ?_
  intro Wf V m H0 Γ ρ
  replace Γ : zC Wf V m 1 H0 cX4_undo RX4 1 0 0 := Γ
  show zX Wf V m 1 H0 0 (zls [(0, .ref 37)]) [] (hR g T R) 46 0 0
  refine x_aload_n Γ dX4_undo_0 rfl ?_
  refine gf_X4_302 Γ dX4_undo_1 (by decide) rfl rfl ?_
  refine x_if_ne Γ (tgt := 14) dX4_undo_4 (by decide) (fun c_1 => ?_) (fun c_1 => ?_)
  · refine x_aload_n Γ dX4_undo_14 rfl ?_
    refine gf_X4_13 Γ dX4_undo_15 (by decide) rfl rfl ?_
    refine x_aload_n Γ dX4_undo_18 rfl ?_
    refine gf_X4_9 Γ dX4_undo_19 (by decide) rfl rfl ?_
    refine x_callSv Γ cals_X4_row wl_X4_123 dX4_undo_22 (row_km (g := g) (T := U) (U := T) (R := R) (hU (by assumption))) rfl (by decide) rfl (Nat.le_of_ble_eq_true rfl) (Nat.le_refl _) (Nat.le_refl _) ?_
    refine x_aload_n Γ dX4_undo_25 rfl ?_
    refine gf_X4_9 Γ dX4_undo_26 (by decide) rfl rfl ?_
    refine x_iconst Γ (v := 5) dX4_undo_29 rfl ?_
    refine x_iald Γ dX4_undo_30 (by decide) (by rfl) (j := 5) rfl (by decide) (by decide) (mr_s (by decide)) ?_
    exact x_iret ρ rfl dX4_undo_31 rfl (by simp [*]) rfl (by simp [*]; exact zH.rf)
  · refine x_aload_n Γ dX4_undo_7 rfl ?_
    refine x_ldc Γ wl_X4_35 dX4_undo_8 ?_
    refine x_callV Γ calv_X4_finds wl_X4_36 dX4_undo_10 (m_X4_finds (f := -1000004) (k := 3) (by decide) (by decide)) rfl (by decide) (by decide) rfl rfl rfl rfl (Nat.le_of_ble_eq_true rfl) (Nat.le_refl _) (Nat.le_refl _) ?_
    exact x_iret ρ rfl dX4_undo_13 rfl (by simp [*]) rfl (by simp [*]; exact zH.rf)

set_option maxRecDepth 100000 in
set_option maxHeartbeats 4000000 in
theorem m_X4_tear {g : Nat → zE} {T R : zT} : zM 0 M_X4_tear [.ref 37] (hR g T R) 46 (some (.int (if R 7 0 = 0 then 0 else 1))) (hR g T (ts R 7 0 0)) 46 0 0 := by
  refine zM.intro (by decide) (Nat.le_of_ble_eq_true rfl) ?_
  intro Wf V m H0 Γ ρ
  replace Γ : zC Wf V m 2 H0 cX4_tear RX4 0 0 0 := Γ
  show zX Wf V m 2 H0 0 (zls [(0, .ref 37)]) [] (hR g T R) 46 0 0
  refine x_aload_n Γ dX4_tear_0 rfl ?_
  refine gf_X4_302 Γ dX4_tear_1 (by decide) rfl rfl ?_
  refine x_if_eq Γ (tgt := 11) dX4_tear_4 (by decide) (fun c_1 => ?_) (fun c_1 => ?_)
  · refine x_iconst Γ (v := 0) dX4_tear_11 rfl ?_
    refine x_istore_n Γ dX4_tear_12 (by decide) ?_
    refine x_aload_n Γ dX4_tear_13 rfl ?_
    refine x_iconst Γ (v := 0) dX4_tear_14 rfl ?_
    refine pf_X4_302 Γ (hx := by first | rfl | exact zb_and _) dX4_tear_15 (by decide) rfl (Nat.le_of_ble_eq_true rfl) (hR_uO (k := 0) rfl) ?_
    refine x_iload_n Γ dX4_tear_18 rfl ?_
    exact x_iret ρ rfl dX4_tear_19 rfl (by simp [*]) rfl (zH.rf)
  · refine x_iconst Γ (v := 1) dX4_tear_7 rfl ?_
    refine x_goto Γ (tgt := 12) dX4_tear_8 (by decide) ?_
    refine x_istore_n Γ dX4_tear_12 (by decide) ?_
    refine x_aload_n Γ dX4_tear_13 rfl ?_
    refine x_iconst Γ (v := 0) dX4_tear_14 rfl ?_
    refine pf_X4_302 Γ (hx := by first | rfl | exact zb_and _) dX4_tear_15 (by decide) rfl (Nat.le_of_ble_eq_true rfl) (hR_uO (k := 0) rfl) ?_
    refine x_iload_n Γ dX4_tear_18 rfl ?_
    exact x_iret ρ rfl dX4_tear_19 rfl (by simp [*]) rfl (zH.rf)

set_option maxRecDepth 100000 in
set_option maxHeartbeats 4000000 in
theorem m_X4_count {g : Nat → zE} {T R : zT} {N : Nat} (hN : wN T N) (w : Int32) : zM 2 M_X4_count [.ref 37, .int w] (hR g T R) 46 (some (.int (fr (fCnt w) (rCnt T R N w)))) (hR g (T) (fR R (fCnt w))) 46 0 0 := by
  refine zM.intro (by decide) (Nat.le_of_ble_eq_true rfl) ?_
  intro Wf V m H0 Γ ρ
  replace Γ : zC Wf V m 2 H0 cX4_count RX4 2 0 0 := Γ
  show zX Wf V m 2 H0 0 (zls [(0, .ref 37), (1, .int w)]) [] (hR g T R) 46 0 0
  have hN2 := hN.2
  refine x_iload_n Γ dX4_count_0 rfl ?_
  refine x_tab8 Γ (a0 := 0) (a1 := 1) (a2 := 2) (a3 := 3) (a4 := 4) (a5 := 5) (a6 := 6) (a7 := 7) (t0 := 48) (t1 := 55) (t2 := 63) (t3 := 69) (t4 := 75) (t5 := 81) (t6 := 86) (t7 := 94) (td := 99) dX4_count_1 (by decide +kernel) (fun c_1 => ?_) (fun c_1 => ?_) (fun c_1 => ?_) (fun c_1 => ?_) (fun c_1 => ?_) (fun c_1 => ?_) (fun c_1 => ?_) (fun c_1 => ?_) (fun c_1_0 c_1_1 c_1_2 c_1_3 c_1_4 c_1_5 c_1_6 c_1_7 => ?_)
  · refine x_aload_n Γ dX4_count_48 rfl ?_
    refine gf_X4_9 Γ dX4_count_49 (by decide) rfl rfl ?_
    refine x_iconst Γ (v := 5) dX4_count_52 rfl ?_
    refine x_iald Γ dX4_count_53 (by decide) (by rfl) (j := 5) rfl (by decide) (by decide) (mr_s (by decide)) ?_
    exact x_iret ρ rfl dX4_count_54 rfl (by simp [fr, fCnt, rCnt, inR, *]; try rfl) rfl (by simp [fR, fCnt, inR, *]; exact zH.rf)
  · refine x_aload_n Γ dX4_count_55 rfl ?_
    refine gf_X4_9 Γ dX4_count_56 (by decide) rfl rfl ?_
    refine x_bipush Γ (v := 8) dX4_count_59 rfl ?_
    refine x_iald Γ dX4_count_61 (by decide) (by rfl) (j := 8) rfl (by decide) (by decide) (mr_s (by decide)) ?_
    exact x_iret ρ rfl dX4_count_62 rfl (by simp [fr, fCnt, rCnt, inR, *]; try rfl) rfl (by simp [fR, fCnt, inR, *]; exact zH.rf)
  · refine x_aload_n Γ dX4_count_63 rfl ?_
    refine x_iconst Γ (v := 1) dX4_count_64 rfl ?_
    refine x_callV Γ calv_X4_sum wl_X4_161 dX4_count_65 (m_X4_sum (g := g) (T := T) (R := R) (w := 1) hN (by decide)) rfl (by decide) (by decide) rfl rfl rfl rfl (Nat.le_of_ble_eq_true rfl) (Nat.le_refl _) (Nat.le_refl _) ?_
    exact x_iret ρ rfl dX4_count_68 rfl (by simp [fr, fCnt, rCnt, inR, *]; try rfl) rfl (by simp [fR, fCnt, inR, *]; exact zH.rf)
  · refine x_aload_n Γ dX4_count_69 rfl ?_
    refine x_iconst Γ (v := 3) dX4_count_70 rfl ?_
    refine x_callV Γ calv_X4_sum wl_X4_161 dX4_count_71 (m_X4_sum (g := g) (T := T) (R := R) (w := 3) hN (by decide)) rfl (by decide) (by decide) rfl rfl rfl rfl (Nat.le_of_ble_eq_true rfl) (Nat.le_refl _) (Nat.le_refl _) ?_
    exact x_iret ρ rfl dX4_count_74 rfl (by simp [fr, fCnt, rCnt, inR, *]; try rfl) rfl (by simp [fR, fCnt, inR, *]; exact zH.rf)
  · refine x_aload_n Γ dX4_count_75 rfl ?_
    refine x_iconst Γ (v := 4) dX4_count_76 rfl ?_
    refine x_callV Γ calv_X4_sum wl_X4_161 dX4_count_77 (m_X4_sum (g := g) (T := T) (R := R) (w := 4) hN (by decide)) rfl (by decide) (by decide) rfl rfl rfl rfl (Nat.le_of_ble_eq_true rfl) (Nat.le_refl _) (Nat.le_refl _) ?_
    exact x_iret ρ rfl dX4_count_80 rfl (by simp [fr, fCnt, rCnt, inR, *]; try rfl) rfl (by simp [fR, fCnt, inR, *]; exact zH.rf)
  · refine x_aload_n Γ dX4_count_81 rfl ?_
    refine gf_X4_197 Γ dX4_count_82 (by decide) rfl rfl ?_
    exact x_iret ρ rfl dX4_count_85 rfl (by simp [fr, fCnt, rCnt, inR, *]; try rfl) rfl (by simp [fR, fCnt, inR, *]; exact zH.rf)
  · refine x_aload_n Γ dX4_count_86 rfl ?_
    refine gf_X4_9 Γ dX4_count_87 (by decide) rfl rfl ?_
    refine x_bipush Γ (v := 7) dX4_count_90 rfl ?_
    refine x_iald Γ dX4_count_92 (by decide) (by rfl) (j := 7) rfl (by decide) (by decide) (mr_s (by decide)) ?_
    exact x_iret ρ rfl dX4_count_93 rfl (by simp [fr, fCnt, rCnt, inR, *]; try rfl) rfl (by simp [fR, fCnt, inR, *]; exact zH.rf)
  · refine x_aload_n Γ dX4_count_94 rfl ?_
    refine x_callV Γ calv_X4_holding wl_X4_305 dX4_count_95 (m_X4_holding (g := g) (T := T) (R := R)) rfl (by decide) (by decide) rfl rfl rfl rfl (Nat.le_of_ble_eq_true rfl) (Nat.le_refl _) (Nat.le_refl _) ?_
    exact x_iret ρ rfl dX4_count_98 rfl (by simp [fr, fCnt, rCnt, inR, *]; try rfl) rfl (by simp [fR, fCnt, inR, *]; exact zH.rf)
  · have hnk := in7_no c_1_0 c_1_1 c_1_2 c_1_3 c_1_4 c_1_5 c_1_6 c_1_7
    refine x_aload_n Γ dX4_count_99 rfl ?_
    refine x_ldc Γ wl_X4_34 dX4_count_100 ?_
    refine x_callV Γ calv_X4_finds wl_X4_36 dX4_count_102 (m_X4_finds (f := -1000001) (k := 0) (by decide) (by decide)) rfl (by decide) (by decide) rfl rfl rfl rfl (Nat.le_of_ble_eq_true rfl) (Nat.le_refl _) (Nat.le_refl _) ?_
    exact x_iret ρ rfl dX4_count_105 rfl (by simp [fCnt, fr, hnk]; try rfl) rfl (by simp [fCnt, fR, hnk]; exact zH.rf)

set_option maxRecDepth 100000 in
set_option maxHeartbeats 4000000 in
theorem m_X4_status {g : Nat → zE} {T R : zT} (w : Int32) : zM 1 M_X4_status [.ref 37, .int w] (hR g T R) 46 (some (.int (fr (fSta w) (rSta R w)))) (hR g (T) (fR R (fSta w))) 46 0 0 := by
  refine zM.intro (by decide) (Nat.le_of_ble_eq_true rfl) ?_
  intro Wf V m H0 Γ ρ
  replace Γ : zC Wf V m 4 H0 cX4_status RX4 1 0 0 := Γ
  show zX Wf V m 4 H0 0 (zls [(0, .ref 37), (1, .int w)]) [] (hR g T R) 46 0 0
  refine x_iload_n Γ dX4_status_0 rfl ?_
  refine x_i2l Γ dX4_status_1 ?_
  refine x_ldc2 Γ wl_X4_308 dX4_status_2 ?_
  refine x_ldc2 Γ wl_X4_44 dX4_status_5 ?_
  refine x_callS Γ cals_X4_in wl_X4_40 dX4_status_8 (m_in w (-1) 6 (-1) 6 rfl rfl) rfl (by decide) rfl (Nat.le_of_ble_eq_true rfl) (Nat.le_refl _) (Nat.le_refl _) ?_
  refine x_if_ne Γ (tgt := 21) dX4_status_11 (by decide) (fun c_1 => ?_) (fun c_1 => ?_)
  · have c_1 := zb_n0.mp c_1
    refine x_iconst Γ (v := 0) dX4_status_21 rfl ?_
    refine x_istore_n Γ dX4_status_22 (by decide) ?_
    refine x_iconst Γ (v := 0) dX4_status_23 rfl ?_
    refine x_istore_n Γ dX4_status_24 (by decide) ?_
    suffices L_25 : ∀ (k c : Nat), c ≤ 7 → 7 - c < k → zX Wf V m 4 H0 25 (zls [(0, .ref 37), (1, .int w), (2, .int (sumW (fun k => if w < 0 ∨ w = nI k then R 2 k else 0) c)), (3, .int (nI c))]) [] (hR g T R) 46 0 0 by
      exact x_subl [(0, .ref 37), (1, .int w), (2, .int (sumW (fun k => if w < 0 ∨ w = nI k then R 2 k else 0) 0)), (3, .int (nI 0))] (List.forall_mem_cons.mpr ⟨rfl, List.forall_mem_cons.mpr ⟨rfl, List.forall_mem_cons.mpr ⟨rfl, List.forall_mem_cons.mpr ⟨rfl, fun _ hz => absurd hz List.not_mem_nil⟩⟩⟩⟩) (x_heap (rfl) (L_25 (7 + 1) 0 (by omega) (by omega)))
    intro k
    induction k with
    | zero => intro c h1 h2; omega
    | succ k ih =>
      intro c h1 h2
      refine x_iload_n Γ dX4_status_25 rfl ?_
      refine x_bipush Γ (v := 7) dX4_status_26 rfl ?_
      refine x_icmp_ge Γ (tgt := 59) dX4_status_28 (by decide) (fun c_2 => ?_) (fun c_2 => ?_)
      · have c_2 := z_le (a := 7) c_2 (by omega) (by omega)
        obtain rfl : c = 7 := by omega
        refine x_iload_n Γ dX4_status_59 rfl ?_
        exact x_iret ρ rfl dX4_status_60 rfl (by simp [fr, fSta, rSta, *]; try rfl) rfl (by simp [fR, fSta, *]; exact zH.rf)
      · have c_2 := z_nle (a := 7) c_2 (by omega) (by omega)
        refine x_iload_n Γ dX4_status_31 rfl ?_
        refine x_iload_n Γ dX4_status_32 rfl ?_
        refine x_if_lt Γ (tgt := 41) dX4_status_33 (by decide) (fun c_3 => ?_) (fun c_3 => ?_)
        · refine x_aload_n Γ dX4_status_41 rfl ?_
          refine gf_X4_19 Γ dX4_status_42 (by decide) rfl rfl ?_
          refine x_iload_n Γ dX4_status_45 rfl ?_
          refine x_iald Γ dX4_status_46 (by decide) (by rfl) rfl (by first | assumption | omega) (by decide) rfl ?_
          refine x_goto Γ (tgt := 51) dX4_status_47 (by decide) ?_
          refine x_iadd Γ dX4_status_51 ?_
          refine x_istore_n Γ dX4_status_52 (by decide) ?_
          refine x_iinc Γ dX4_status_53 rfl (by first | exact zinc _ | rfl) (by decide) ?_
          refine x_goto Γ (tgt := 25) dX4_status_56 (by decide) ?_
          exact x_subl [(0, .ref 37), (1, .int w), (2, .int (sumW (fun k => if w < 0 ∨ w = nI k then R 2 k else 0) (c + 1))), (3, .int (nI (c + 1)))] (List.forall_mem_cons.mpr ⟨rfl, List.forall_mem_cons.mpr ⟨rfl, List.forall_mem_cons.mpr ⟨zsi (by simp [sumW, *]), List.forall_mem_cons.mpr ⟨rfl, fun _ hz => absurd hz List.not_mem_nil⟩⟩⟩⟩) (x_heap (rfl) (ih (c + 1) (by omega) (by omega)))
        · refine x_iload_n Γ dX4_status_36 rfl ?_
          refine x_iload_n Γ dX4_status_37 rfl ?_
          refine x_icmp_ne Γ (tgt := 50) dX4_status_38 (by decide) (fun c_4 => ?_) (fun c_4 => ?_)
          · refine x_iconst Γ (v := 0) dX4_status_50 rfl ?_
            refine x_iadd Γ dX4_status_51 ?_
            refine x_istore_n Γ dX4_status_52 (by decide) ?_
            refine x_iinc Γ dX4_status_53 rfl (by first | exact zinc _ | rfl) (by decide) ?_
            refine x_goto Γ (tgt := 25) dX4_status_56 (by decide) ?_
            exact x_subl [(0, .ref 37), (1, .int w), (2, .int (sumW (fun k => if w < 0 ∨ w = nI k then R 2 k else 0) (c + 1))), (3, .int (nI (c + 1)))] (List.forall_mem_cons.mpr ⟨rfl, List.forall_mem_cons.mpr ⟨rfl, List.forall_mem_cons.mpr ⟨zsi (by simp [sumW, *]), List.forall_mem_cons.mpr ⟨rfl, fun _ hz => absurd hz List.not_mem_nil⟩⟩⟩⟩) (x_heap (rfl) (ih (c + 1) (by omega) (by omega)))
          · refine x_aload_n Γ dX4_status_41 rfl ?_
            refine gf_X4_19 Γ dX4_status_42 (by decide) rfl rfl ?_
            refine x_iload_n Γ dX4_status_45 rfl ?_
            refine x_iald Γ dX4_status_46 (by decide) (by rfl) rfl (by first | assumption | omega) (by decide) rfl ?_
            refine x_goto Γ (tgt := 51) dX4_status_47 (by decide) ?_
            refine x_iadd Γ dX4_status_51 ?_
            refine x_istore_n Γ dX4_status_52 (by decide) ?_
            refine x_iinc Γ dX4_status_53 rfl (by first | exact zinc _ | rfl) (by decide) ?_
            refine x_goto Γ (tgt := 25) dX4_status_56 (by decide) ?_
            exact x_subl [(0, .ref 37), (1, .int w), (2, .int (sumW (fun k => if w < 0 ∨ w = nI k then R 2 k else 0) (c + 1))), (3, .int (nI (c + 1)))] (List.forall_mem_cons.mpr ⟨rfl, List.forall_mem_cons.mpr ⟨rfl, List.forall_mem_cons.mpr ⟨zsi (by simp [sumW, *]), List.forall_mem_cons.mpr ⟨rfl, fun _ hz => absurd hz List.not_mem_nil⟩⟩⟩⟩) (x_heap (rfl) (ih (c + 1) (by omega) (by omega)))
  · have c_1 := zb_0.mp c_1
    refine x_aload_n Γ dX4_status_14 rfl ?_
    refine x_ldc Γ wl_X4_34 dX4_status_15 ?_
    refine x_callV Γ calv_X4_finds wl_X4_36 dX4_status_17 (m_X4_finds (f := -1000001) (k := 0) (by decide) (by decide)) rfl (by decide) (by decide) rfl rfl rfl rfl (Nat.le_of_ble_eq_true rfl) (Nat.le_refl _) (Nat.le_refl _) ?_
    exact x_iret ρ rfl dX4_status_20 rfl (by simp [fr, fSta, rSta, *]; try rfl) rfl (by simp [fR, fSta, *]; exact zH.rf)

set_option maxRecDepth 100000 in
set_option maxHeartbeats 4000000 in
theorem m_X4_famine {g : Nat → zE} {T R : zT} {N : Nat} (hN : wN T N) (n : Int32) : zM 2 M_X4_famine [.ref 37, .int n] (hR g T R) 46 (some (.int (fr (fFam N n) (many (hunW (famT T N (ci n)) N))))) (hR g (tFam T N n) (fR R (fFam N n))) 46 0 0 := by
  refine zM.intro (by decide) (Nat.le_of_ble_eq_true rfl) ?_
  intro Wf V m H0 Γ ρ
  replace Γ : zC Wf V m 4 H0 cX4_famine RX4 2 0 0 := Γ
  show zX Wf V m 4 H0 0 (zls [(0, .ref 37), (1, .int n)]) [] (hR g T R) 46 0 0
  have hN2 := hN.2
  refine x_iload_n Γ dX4_famine_0 rfl ?_
  refine x_i2l Γ dX4_famine_1 ?_
  refine x_lconst Γ (v := 1) dX4_famine_2 rfl ?_
  refine x_ldc2 Γ wl_X4_193 dX4_famine_3 ?_
  refine x_callS Γ cals_X4_in wl_X4_40 dX4_famine_6 (m_in n 1 12 1 12 rfl rfl) rfl (by decide) rfl (Nat.le_of_ble_eq_true rfl) (Nat.le_refl _) (Nat.le_refl _) ?_
  refine x_if_ne Γ (tgt := 19) dX4_famine_9 (by decide) (fun c_1 => ?_) (fun c_1 => ?_)
  · have c_1 := zb_n0.mp c_1
    obtain ⟨K, hK1, hK, rfl⟩ := inR_nI1 (n := 12) c_1 rfl (by omega)
    have eK : ci (nI K) = K := nI_clamp (by omega)
    refine x_aload_n Γ dX4_famine_19 rfl ?_
    refine gf_X4_9 Γ dX4_famine_20 (by decide) rfl rfl ?_
    refine x_bipush Γ (v := 8) dX4_famine_23 rfl ?_
    refine x_iald Γ dX4_famine_25 (by decide) (by rfl) (j := 8) rfl (by decide) (by decide) (mr_s (by decide)) ?_
    refine x_if_ne Γ (tgt := 36) dX4_famine_26 (by decide) (fun c_2 => ?_) (fun c_2 => ?_)
    · have hN0 : ¬ N = 0 := fun z => c_2 (by rw [hN.1, z]; rfl)
      refine x_iconst Γ (v := 0) dX4_famine_36 rfl ?_
      refine x_istore_n Γ dX4_famine_37 (by decide) ?_
      suffices L_38 : ∀ (k c : Nat), c ≤ K → K - c < k → zX Wf V m 4 H0 38 (zls [(0, .ref 37), (1, .int (nI K)), (2, .int (nI c))]) [] (hR g (famT T N c) R) 46 0 0 by
        exact x_subl [(0, .ref 37), (1, .int (nI K)), (2, .int (nI 0))] (List.forall_mem_cons.mpr ⟨rfl, List.forall_mem_cons.mpr ⟨rfl, List.forall_mem_cons.mpr ⟨rfl, fun _ hz => absurd hz List.not_mem_nil⟩⟩⟩) (x_heap (rfl) (L_38 (K + 1) 0 (by omega) (by omega)))
      intro k
      induction k with
      | zero => intro c h1 h2; omega
      | succ k ih =>
        intro c h1 h2
        refine x_iload_n Γ dX4_famine_38 rfl ?_
        refine x_iload_n Γ dX4_famine_39 rfl ?_
        refine x_icmp_ge Γ (tgt := 75) dX4_famine_40 (by decide) (fun c_3 => ?_) (fun c_3 => ?_)
        · have c_3 := z_le c_3 (by omega) (by omega)
          obtain rfl : K = c := by omega
          refine x_aload_n Γ dX4_famine_75 rfl ?_
          refine x_callV Γ calv_X4_hungry wl_X4_102 dX4_famine_76 (m_X4_hungry (g := g) (T := famT T N K) (R := R) (wN_of (famT_7 T N 8 (by decide) K) hN)) rfl (by decide) (by decide) rfl rfl rfl rfl (Nat.le_of_ble_eq_true rfl) (Nat.le_refl _) (Nat.le_refl _) ?_
          refine x_callS Γ cals_X4_many wl_X4_136 dX4_famine_79 (m_X4_many (hunW (famT T N K) N)) rfl (by decide) rfl (Nat.le_of_ble_eq_true rfl) (Nat.le_refl _) (Nat.le_refl _) ?_
          exact x_iret ρ rfl dX4_famine_82 rfl (by simp [fr, fFam, *]; try rfl) rfl (by simp [fR, fFam, tFam, *]; exact zH.rf)
        · have c_3 := z_nle c_3 (by omega) (by omega)
          obtain ⟨j, hj, ej⟩ := zrem_in (famT T N c 7 7) (N := N) (by omega) (by omega)
          refine x_aload_n Γ dX4_famine_43 rfl ?_
          refine x_callV Γ calv_X4_draw wl_X4_140 dX4_famine_44 (m_X4_draw (g := g) (T := (famT T N c)) (R := R)) rfl (by decide) (by decide) rfl rfl rfl rfl (Nat.le_of_ble_eq_true rfl) (Nat.le_refl _) (Nat.le_refl _) ?_
          refine x_aload_n Γ dX4_famine_47 rfl ?_
          refine gf_X4_9 Γ dX4_famine_48 (by decide) rfl rfl ?_
          refine x_bipush Γ (v := 8) dX4_famine_51 rfl ?_
          refine x_iald Γ dX4_famine_53 (by decide) (by rfl) (j := 8) rfl (by decide) (by decide) (mr_s (by decide)) ?_
          refine x_irem Γ dX4_famine_54 (by rw [drT_7 (k := 8) (by decide), famT_7 T N 8 (by decide) c, hN.1]; exact nI_ne0 (by omega) (by omega)) ?_
          rw [drT_7 (k := 8) (by decide), famT_7 T N 8 (by decide) c, hN.1]
          refine x_st (show _ = (Value.int (nI j) :: []) by rw [← ej]; rfl) ?_
          refine x_istore_n Γ dX4_famine_55 (by decide) ?_
          refine x_aload_n Γ dX4_famine_56 rfl ?_
          refine x_iload_n Γ dX4_famine_57 rfl ?_
          refine x_iconst Γ (v := 1) dX4_famine_58 rfl ?_
          refine x_aload_n Γ dX4_famine_59 rfl ?_
          refine x_callV Γ calv_X4_draw wl_X4_140 dX4_famine_60 (m_X4_draw (g := g) (T := drT (famT T N c)) (R := R)) rfl (by decide) (by decide) rfl rfl rfl rfl (Nat.le_of_ble_eq_true rfl) (Nat.le_refl _) (Nat.le_refl _) ?_
          refine x_bipush Γ (v := 10) dX4_famine_63 rfl ?_
          refine x_irem Γ dX4_famine_65 (by decide) ?_
          refine x_callVv Γ calv_X4_makes wl_X4_50 dX4_famine_66 (m_X4_makes (c := j) (w := 1) (by omega) (by decide) _) rfl (by decide) (by decide) rfl rfl rfl rfl (Nat.le_of_ble_eq_true rfl) (Nat.le_refl _) (Nat.le_refl _) ?_
          refine x_iinc Γ dX4_famine_69 rfl (by first | exact zinc _ | rfl) (by decide) ?_
          refine x_goto Γ (tgt := 38) dX4_famine_72 (by decide) ?_
          exact x_subl [(0, .ref 37), (1, .int (nI K)), (2, .int (nI (c + 1)))] (List.forall_mem_cons.mpr ⟨rfl, List.forall_mem_cons.mpr ⟨rfl, List.forall_mem_cons.mpr ⟨rfl, fun _ hz => absurd hz List.not_mem_nil⟩⟩⟩) (x_heap (by simp only [famT]; rw [ej, nI_clamp (by omega)]; rfl) (ih (c + 1) (by omega) (by omega)))
    · have hN0 : N = 0 := (nI_eq (b := 0) (by omega) (by omega)).mp (hN.1.symm.trans c_2)
      refine x_aload_n Γ dX4_famine_29 rfl ?_
      refine x_ldc Γ wl_X4_109 dX4_famine_30 ?_
      refine x_callV Γ calv_X4_finds wl_X4_36 dX4_famine_32 (m_X4_finds (f := -1000005) (k := 4) (by decide) (by decide)) rfl (by decide) (by decide) rfl rfl rfl rfl (Nat.le_of_ble_eq_true rfl) (Nat.le_refl _) (Nat.le_refl _) ?_
      exact x_iret ρ rfl dX4_famine_35 rfl (by simp [fr, fFam, *]; try rfl) rfl (by simp [fR, fFam, tFam, *]; exact zH.rf)
  · have c_1 := zb_0.mp c_1
    refine x_aload_n Γ dX4_famine_12 rfl ?_
    refine x_ldc Γ wl_X4_34 dX4_famine_13 ?_
    refine x_callV Γ calv_X4_finds wl_X4_36 dX4_famine_15 (m_X4_finds (f := -1000001) (k := 0) (by decide) (by decide)) rfl (by decide) (by decide) rfl rfl rfl rfl (Nat.le_of_ble_eq_true rfl) (Nat.le_refl _) (Nat.le_refl _) ?_
    exact x_iret ρ rfl dX4_famine_18 rfl (by simp [fr, fFam, *]; try rfl) rfl (by simp [fR, fFam, tFam, *]; exact zH.rf)
