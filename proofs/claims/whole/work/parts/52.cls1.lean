def hdI (f : Nat) : Int32 := if f = 7 then -1 else nI f
theorem hdI_n {f : Nat} (h : f ≠ 7) : hdI f = nI f := if_neg h
theorem hdI_7 {f : Nat} (hf : f < 8) (h : hdI f = -1) : f = 7 := by
  have key : ∀ f : Fin 8, hdI f.val = -1 → f.val = 7 := by decide +kernel
  exact key ⟨f, hf⟩ h
theorem hdI_8 {f : Nat} (h : ¬ hdI f = -1) : f ≠ 7 := fun z => h (if_pos z)
theorem ge_s {x a b : Int32} (h : b.toInt = a.toInt + 1) : b ≤ x ↔ a < x := by
  rw [Int32.le_iff_toInt_le, Int32.lt_iff_toInt_lt]
  omega
theorem fr_n {f : Nat} {r : Int32} (h : f < 7) : fr f r = -1000001 - nI f := if_pos h
theorem zKA_abv : ∀ j, j < 7 → zKA j = abv (nI j) := by decide +kernel
theorem abv_k : ∀ j, j < 7 → (abv (nI j) = -1 ∨ isK (abv (nI j)) = true) := by decide +kernel
theorem fWk_lt {T : zT} {n : Int32} : fWk T n < 8 := by
  unfold fWk
  split
  · split <;> omega
  · omega
theorem fSb_lt {R : zT} {s : Int32} : fSb R s < 8 := by
  unfold fSb
  split
  · split <;> omega
  · omega

set_option maxRecDepth 100000 in
set_option maxHeartbeats 4000000 in
theorem m_X3_finding {g : Nat → zE} {T T2 T3 R : zT} {X : Nat → Int32} {f : Nat} (hf : f < 7) : zM 0 M_X3_finding [.ref 0, .int (nI f)] (cW g T T2 T3 R X) 46 (some (.int (-1000001 - nI f))) (cW g T T2 T3 (fR R f) X) 46 0 0 := by
  refine zM.intro (by decide) (Nat.le_of_ble_eq_true rfl) ?_
  intro Wf V m H0 Γ ρ
  replace Γ : zC Wf V m 2 H0 cX3_finding RX3 0 0 0 := Γ
  show zX Wf V m 2 H0 0 (zls [(0, .ref 0), (1, .int (nI f))]) [] (cW g T T2 T3 R X) 46 0 0
  refine x_iload_n Γ dX3_finding_0 rfl ?_
  refine x_if_lt Γ (tgt := 20) dX3_finding_1 (by decide) (fun c_1 => ?_) (fun c_1 => ?_)
  · exact absurd c_1 (nI_pos (by omega))
  · refine x_iload_n Γ dX3_finding_4 rfl ?_
    refine x_bipush Γ (v := 7) dX3_finding_5 rfl ?_
    refine x_icmp_ge Γ (tgt := 20) dX3_finding_7 (by decide) (fun c_2 => ?_) (fun c_2 => ?_)
    · exact absurd c_2 (nI_ge (a := f) (b := 7) (by omega) (by omega))
    · refine x_aload_n Γ dX3_finding_10 rfl ?_
      refine gf_X3_36 Γ dX3_finding_11 (by decide) (by rfl) rfl ?_
      refine x_iload_n Γ dX3_finding_14 rfl ?_
      refine x_dup2 Γ dX3_finding_15 rfl rfl ?_
      refine x_iald Γ dX3_finding_16 (by decide) (by rfl) rfl (by first | assumption | omega) (by decide) rfl ?_
      refine x_iconst Γ (v := 1) dX3_finding_17 rfl ?_
      refine x_iadd Γ dX3_finding_18 ?_
      refine x_iast Γ dX3_finding_19 (by decide) (by rfl) rfl (by first | assumption | omega) (by decide) cW_f ?_
      refine x_ldcw Γ wl_X3_276 dX3_finding_20 ?_
      refine x_iload_n Γ dX3_finding_23 rfl ?_
      refine x_isub Γ dX3_finding_24 ?_
      exact x_iret ρ rfl dX3_finding_25 rfl (rfl) rfl (by simp only [fR, hf, if_true]; exact zH.rf)

set_option maxRecDepth 100000 in
set_option maxHeartbeats 4000000 in
theorem m_X3_hindrance {g : Nat → zE} {T T2 T3 R : zT} {X : Nat → Int32} (n : Int32) : zM 0 M_X3_hindrance [.ref 0, .int n] (cW g T T2 T3 R X) 46 (some (.int (hdI (fWk T n)))) (cW g T T2 T3 R X) 46 0 0 := by
  refine zM.intro (by decide) (Nat.le_of_ble_eq_true rfl) ?_
  intro Wf V m H0 Γ ρ
  replace Γ : zC Wf V m 2 H0 cX3_hindrance RX3 0 0 0 := Γ
  show zX Wf V m 2 H0 0 (zls [(0, .ref 0), (1, .int n)]) [] (cW g T T2 T3 R X) 46 0 0
  refine x_iload_n Γ dX3_hindrance_0 rfl ?_
  refine x_iconst Γ (v := 1) dX3_hindrance_1 rfl ?_
  refine x_icmp_lt Γ (tgt := 11) dX3_hindrance_2 (by decide) (fun c_1 => ?_) (fun c_1 => ?_)
  · refine x_iconst Γ (v := 0) dX3_hindrance_11 rfl ?_
    exact x_iret ρ rfl dX3_hindrance_12 rfl (by simp [hdI, fWk, inR, *]; try rfl) rfl (zH.rf)
  · refine x_iload_n Γ dX3_hindrance_5 rfl ?_
    refine x_bipush Γ (v := 60) dX3_hindrance_6 rfl ?_
    refine x_icmp_le Γ (tgt := 13) dX3_hindrance_8 (by decide) (fun c_2 => ?_) (fun c_2 => ?_)
    · have c_2 := Int32.not_lt.mpr c_2
      refine x_aload_n Γ dX3_hindrance_13 rfl ?_
      refine gf_X3_10 Γ dX3_hindrance_14 (by decide) (by rfl) rfl ?_
      refine gf_X3_97 Γ dX3_hindrance_17 (by decide) (by rfl) rfl ?_
      refine x_iload_n Γ dX3_hindrance_20 rfl ?_
      refine x_iadd Γ dX3_hindrance_21 ?_
      refine x_sipush Γ (v := 999) dX3_hindrance_22 rfl ?_
      refine x_icmp_le Γ (tgt := 32) dX3_hindrance_25 (by decide) (fun c_3 => ?_) (fun c_3 => ?_)
      · have c_3 := Int32.not_lt.mpr c_3
        refine x_iconst Γ (v := -1) dX3_hindrance_32 rfl ?_
        exact x_iret ρ rfl dX3_hindrance_33 rfl (by simp [hdI, fWk, inR, *]; try rfl) rfl (zH.rf)
      · have c_3 := Int32.not_le.mp c_3
        refine x_iconst Γ (v := 4) dX3_hindrance_28 rfl ?_
        refine x_goto Γ (tgt := 33) dX3_hindrance_29 (by decide) ?_
        exact x_iret ρ rfl dX3_hindrance_33 rfl (by simp [hdI, fWk, inR, *]; try rfl) rfl (zH.rf)
    · have c_2 := Int32.not_le.mp c_2
      refine x_iconst Γ (v := 0) dX3_hindrance_11 rfl ?_
      exact x_iret ρ rfl dX3_hindrance_12 rfl (by simp [hdI, fWk, inR, *]; try rfl) rfl (zH.rf)

set_option maxRecDepth 100000 in
set_option maxHeartbeats 4000000 in
theorem m_X3_isSpot {h : Nat → zE} (x : Int32) : zM 0 M_X3_isSpot [.int x] (h) 46 (some (.int (zb (inR x 0 9)))) (h) 46 0 0 := by
  refine zM.intro (by decide) (Nat.le_of_ble_eq_true rfl) ?_
  intro Wf V m H0 Γ ρ
  replace Γ : zC Wf V m 1 H0 cX3_isSpot RX3 0 0 0 := Γ
  show zX Wf V m 1 H0 0 (zls [(0, .int x)]) [] (h) 46 0 0
  refine x_iload_n Γ dX3_isSpot_0 rfl ?_
  refine x_if_lt Γ (tgt := 14) dX3_isSpot_1 (by decide) (fun c_1 => ?_) (fun c_1 => ?_)
  · refine x_iconst Γ (v := 0) dX3_isSpot_14 rfl ?_
    exact x_iret ρ rfl dX3_isSpot_15 (by first | exact zb_nz _ | rfl) (by simp [inR, zb, *]) rfl (zH.rf)
  · refine x_iload_n Γ dX3_isSpot_4 rfl ?_
    refine x_bipush Γ (v := 10) dX3_isSpot_5 rfl ?_
    refine x_icmp_ge Γ (tgt := 14) dX3_isSpot_7 (by decide) (fun c_2 => ?_) (fun c_2 => ?_)
    · have c_2 := (ge_s (a := 9) (b := 10) rfl).mp c_2
      refine x_iconst Γ (v := 0) dX3_isSpot_14 rfl ?_
      exact x_iret ρ rfl dX3_isSpot_15 (by first | exact zb_nz _ | rfl) (by simp [inR, zb, *]) rfl (zH.rf)
    · have c_2 : ¬ 9 < x := fun z => c_2 ((ge_s (a := 9) (b := 10) rfl).mpr z)
      refine x_iconst Γ (v := 1) dX3_isSpot_10 rfl ?_
      refine x_goto Γ (tgt := 15) dX3_isSpot_11 (by decide) ?_
      exact x_iret ρ rfl dX3_isSpot_15 (by first | exact zb_nz _ | rfl) (by simp [inR, zb, *]) rfl (zH.rf)

set_option maxRecDepth 100000 in
set_option maxHeartbeats 4000000 in
theorem m_X3_isSheet {h : Nat → zE} (x : Int32) : zM 0 M_X3_isSheet [.int x] (h) 46 (some (.int (zb (inR x 0 3)))) (h) 46 0 0 := by
  refine zM.intro (by decide) (Nat.le_of_ble_eq_true rfl) ?_
  intro Wf V m H0 Γ ρ
  replace Γ : zC Wf V m 1 H0 cX3_isSheet RX3 0 0 0 := Γ
  show zX Wf V m 1 H0 0 (zls [(0, .int x)]) [] (h) 46 0 0
  refine x_iload_n Γ dX3_isSheet_0 rfl ?_
  refine x_if_lt Γ (tgt := 13) dX3_isSheet_1 (by decide) (fun c_1 => ?_) (fun c_1 => ?_)
  · refine x_iconst Γ (v := 0) dX3_isSheet_13 rfl ?_
    exact x_iret ρ rfl dX3_isSheet_14 (by first | exact zb_nz _ | rfl) (by simp [inR, zb, *]) rfl (zH.rf)
  · refine x_iload_n Γ dX3_isSheet_4 rfl ?_
    refine x_iconst Γ (v := 4) dX3_isSheet_5 rfl ?_
    refine x_icmp_ge Γ (tgt := 13) dX3_isSheet_6 (by decide) (fun c_2 => ?_) (fun c_2 => ?_)
    · have c_2 := (ge_s (a := 3) (b := 4) rfl).mp c_2
      refine x_iconst Γ (v := 0) dX3_isSheet_13 rfl ?_
      exact x_iret ρ rfl dX3_isSheet_14 (by first | exact zb_nz _ | rfl) (by simp [inR, zb, *]) rfl (zH.rf)
    · have c_2 : ¬ 3 < x := fun z => c_2 ((ge_s (a := 3) (b := 4) rfl).mpr z)
      refine x_iconst Γ (v := 1) dX3_isSheet_9 rfl ?_
      refine x_goto Γ (tgt := 14) dX3_isSheet_10 (by decide) ?_
      exact x_iret ρ rfl dX3_isSheet_14 (by first | exact zb_nz _ | rfl) (by simp [inR, zb, *]) rfl (zH.rf)

set_option maxRecDepth 100000 in
set_option maxHeartbeats 4000000 in
theorem m_X3_sheetHindrance {g : Nat → zE} {T T2 T3 R : zT} {X : Nat → Int32} (s : Int32) : zM 1 M_X3_sheetHindrance [.ref 0, .int s] (cW g T T2 T3 R X) 46 (some (.int (hdI (fSb R s)))) (cW g T T2 T3 R X) 46 0 0 := by
  refine zM.intro (by decide) (Nat.le_of_ble_eq_true rfl) ?_
  intro Wf V m H0 Γ ρ
  replace Γ : zC Wf V m 2 H0 cX3_sheetHindrance RX3 1 0 0 := Γ
  show zX Wf V m 2 H0 0 (zls [(0, .ref 0), (1, .int s)]) [] (cW g T T2 T3 R X) 46 0 0
  refine x_iload_n Γ dX3_sheetHindrance_0 rfl ?_
  refine x_callS Γ cals_X3_isSheet wl_X3_235 dX3_sheetHindrance_1 (m_X3_isSheet s) rfl (by decide) rfl (Nat.le_of_ble_eq_true rfl) (Nat.le_refl _) (Nat.le_refl _) ?_
  refine x_if_ne Γ (tgt := 9) dX3_sheetHindrance_4 (by decide) (fun c_1 => ?_) (fun c_1 => ?_)
  · have c_1 := zb_n0.mp c_1
    obtain ⟨j, hj, rfl⟩ := inR_nI (n := 3) c_1 rfl (by omega)
    have ej : ci (nI j) = j := nI_clamp (by omega)
    have hj4 : j < 4 := by omega
    refine x_aload_n Γ dX3_sheetHindrance_9 rfl ?_
    refine gf_X3_31 Γ dX3_sheetHindrance_10 (by decide) (by rfl) rfl ?_
    refine x_iload_n Γ dX3_sheetHindrance_13 rfl ?_
    refine x_aald Γ dX3_sheetHindrance_14 (by decide) (show _ = zR 4 (fun i => some (28 + 2 * i)) from rfl) rfl (by assumption) (by decide) rfl ?_
    refine gf_X3_250 Γ dX3_sheetHindrance_15 (by omega) (cW_s0 hj4) rfl ?_
    refine x_if_ne Γ (tgt := 25) dX3_sheetHindrance_18 (by decide) (fun c_2 => ?_) (fun c_2 => ?_)
    · refine x_iconst Γ (v := -1) dX3_sheetHindrance_25 rfl ?_
      exact x_iret ρ rfl dX3_sheetHindrance_26 rfl (by simp [hdI, fSb, *]; try rfl) rfl (zH.rf)
    · refine x_iconst Γ (v := 5) dX3_sheetHindrance_21 rfl ?_
      refine x_goto Γ (tgt := 26) dX3_sheetHindrance_22 (by decide) ?_
      exact x_iret ρ rfl dX3_sheetHindrance_26 rfl (by simp [hdI, fSb, *]; try rfl) rfl (zH.rf)
  · have c_1 := zb_0.mp c_1
    refine x_iconst Γ (v := 0) dX3_sheetHindrance_7 rfl ?_
    exact x_iret ρ rfl dX3_sheetHindrance_8 rfl (by simp [hdI, fSb, *]; try rfl) rfl (zH.rf)

set_option maxRecDepth 100000 in
set_option maxHeartbeats 4000000 in
theorem m_X3_isUnder {h : Nat → zE} {k0 v : Int32} (hk0 : isK k0 = true) : zM 1 M_X3_isUnder [.int k0, .int v] (h) 46 (some (.int (zb (asS v 4 k0)))) (h) 46 0 0 := by
  refine zM.intro (by decide) (Nat.le_of_ble_eq_true rfl) ?_
  intro Wf V m H0 Γ ρ
  replace Γ : zC Wf V m 4 H0 cX3_isUnder RX3 1 0 0 := Γ
  show zX Wf V m 4 H0 0 (zls [(0, .int k0), (1, .int v)]) [] (h) 46 0 0
  refine x_iload_n Γ dX3_isUnder_0 rfl ?_
  refine x_istore_n Γ dX3_isUnder_1 (by decide) ?_
  refine x_iconst Γ (v := 0) dX3_isUnder_2 rfl ?_
  refine x_istore_n Γ dX3_isUnder_3 (by decide) ?_
  suffices L_4 : ∀ (f e l : Nat) (a : Int32), e < f → dk e a → (a = -1 ∨ isK a = true) → asS v e a = asS v 4 k0 → e + l = 4 → zX Wf V m 4 H0 4 (zls [(0, .int k0), (1, .int v), (2, .int a), (3, .int (nI l))]) [] (h) 46 0 0 by
    exact x_subl [(0, .int k0), (1, .int v), (2, .int k0), (3, .int (nI 0))] (List.forall_mem_cons.mpr ⟨rfl, List.forall_mem_cons.mpr ⟨rfl, List.forall_mem_cons.mpr ⟨rfl, List.forall_mem_cons.mpr ⟨rfl, fun _ hz => absurd hz List.not_mem_nil⟩⟩⟩⟩) (L_4 5 4 0 k0 (by omega) (dk4 k0) (Or.inr hk0) rfl rfl)
  intro f
  induction f with
  | zero => intro e l a h0; omega
  | succ f ih =>
    intro e l a h0 h1 h2 h3 h4
    refine x_iload_n Γ dX3_isUnder_4 rfl ?_
    refine x_bipush Γ (v := 7) dX3_isUnder_5 rfl ?_
    refine x_icmp_ge Γ (tgt := 36) dX3_isUnder_7 (by decide) (fun c_1 => ?_) (fun c_1 => ?_)
    · have c_1 := z_le (a := 7) c_1 (by omega) (by omega)
      exfalso
      omega
    · refine x_iload_n Γ dX3_isUnder_10 rfl ?_
      refine x_callS Γ cals_X3_isKind wl_X3_44 dX3_isUnder_11 (m_X3_isKind a) rfl (by decide) rfl (Nat.le_of_ble_eq_true rfl) (Nat.le_refl _) (Nat.le_refl _) ?_
      refine x_if_eq Γ (tgt := 36) dX3_isUnder_14 (by decide) (fun c_2 => ?_) (fun c_2 => ?_)
      · have c_2 := zb_0.mp c_2
        have h7 : asS v e a = false := asS_n (h2.elim (fun z => by rw [z]; decide) (fun z => by rw [c_2] at z; cases z))
        refine x_iconst Γ (v := 0) dX3_isUnder_36 rfl ?_
        exact x_iret ρ rfl dX3_isUnder_37 (by first | exact zb_nz _ | rfl) (by rw [← h3, h7]; rfl) rfl (zH.rf)
      · have c_2 := zb_n0.mp c_2
        have hnn : ¬ a < 0 := fun z => by simp [isK, z] at c_2
        obtain ⟨e1, rfl, h5⟩ := dk_s h1 hnn
        obtain ⟨j, hj, rfl⟩ := isK_nI c_2
        refine x_iload_n Γ dX3_isUnder_17 rfl ?_
        refine x_iload_n Γ dX3_isUnder_18 rfl ?_
        refine x_icmp_ne Γ (tgt := 24) dX3_isUnder_19 (by decide) (fun c_3 => ?_) (fun c_3 => ?_)
        · have h6 : asS v (e1 + 1) (nI j) = asS v e1 (abv (nI j)) := by rw [asS, if_neg hnn, if_neg c_3]
          refine x_kabove Γ dX3_isUnder_24 ?_
          refine x_iload_n Γ dX3_isUnder_27 rfl ?_
          refine x_kald Γ dX3_isUnder_28 rfl hj ?_
          rw [zKA_abv j hj]
          refine x_istore_n Γ dX3_isUnder_29 (by decide) ?_
          refine x_iinc Γ dX3_isUnder_30 rfl (by first | exact zinc _ | rfl) (by decide) ?_
          refine x_goto Γ (tgt := 4) dX3_isUnder_33 (by decide) ?_
          exact x_subl [(0, .int k0), (1, .int v), (2, .int (abv (nI j))), (3, .int (nI (l + 1)))] (List.forall_mem_cons.mpr ⟨rfl, List.forall_mem_cons.mpr ⟨rfl, List.forall_mem_cons.mpr ⟨rfl, List.forall_mem_cons.mpr ⟨rfl, fun _ hz => absurd hz List.not_mem_nil⟩⟩⟩⟩) (ih e1 (l + 1) (abv (nI j)) (by omega) h5 (abv_k j hj) (h6.symm.trans h3) (by omega))
        · have h6 : asS v (e1 + 1) (nI j) = true := by rw [asS, if_neg hnn, if_pos c_3]
          refine x_iconst Γ (v := 1) dX3_isUnder_22 rfl ?_
          exact x_iret ρ rfl dX3_isUnder_23 (by first | exact zb_nz _ | rfl) (by rw [← h3, h6]; rfl) rfl (zH.rf)

set_option maxRecDepth 100000 in
set_option maxHeartbeats 4000000 in
theorem m_X3_citizen {g : Nat → zE} {T T2 T3 R : zT} {X : Nat → Int32} {N : Nat} (hN : wN T N) (x : Int32) : zMx 1 M_X3_citizen [.ref 0, .int x] (cW g T T2 T3 R X) 46 (some (.int (fr (fCit N x) (nI N)))) (cQ g (tCit T N x) (T3) (fR R (fCit N x))) := by
  refine zMx.intro (by decide) (Nat.le_of_ble_eq_true rfl) ?_
  intro Wf V m H0 Γ ρ
  replace Γ : zC Wf V m 2 H0 cX3_citizen RX3 1 0 0 := Γ
  show zX Wf V m 2 H0 0 (zls [(0, .ref 0), (1, .int x)]) [] (cW g T T2 T3 R X) 46 0 0
  have hN2 := hN.2
  refine x_iload_n Γ dX3_citizen_0 rfl ?_
  refine x_callS Γ cals_X3_isKind wl_X3_44 dX3_citizen_1 (m_X3_isKind x) rfl (by decide) rfl (Nat.le_of_ble_eq_true rfl) (Nat.le_refl _) (Nat.le_refl _) ?_
  refine x_if_ne Γ (tgt := 13) dX3_citizen_4 (by decide) (fun c_1 => ?_) (fun c_1 => ?_)
  · have c_1 := zb_n0.mp c_1
    refine x_aload_n Γ dX3_citizen_13 rfl ?_
    refine gf_X3_10 Γ dX3_citizen_14 (by decide) (by rfl) rfl ?_
    refine gf_X3_52 Γ dX3_citizen_17 (by decide) (by rfl) rfl ?_
    refine x_bipush Γ (v := 10) dX3_citizen_20 rfl ?_
    refine x_icmp_lt Γ (tgt := 31) dX3_citizen_22 (by decide) (fun c_2 => ?_) (fun c_2 => ?_)
    · rw [hN.1] at c_2
      have c_2 := z_lt (b := 10) c_2 (by omega) (by omega)
      have hne : ¬ N = 10 := by omega
      refine x_aload_n Γ dX3_citizen_31 rfl ?_
      refine gf_X3_10 Γ dX3_citizen_32 (by decide) (by rfl) rfl ?_
      refine x_iload_n Γ dX3_citizen_35 rfl ?_
      refine x_callVv Γ calv_X0_settle wl_X3_56 dX3_citizen_36 (cM1 (m_X0_settle (g := cW g T T2 T3 R X) (b := 1) (T := T) (by omega) hN (by omega) x)) rfl (by decide) (by decide) (by rfl) rfl rfl rfl (Nat.le_of_ble_eq_true rfl) (Nat.le_refl _) (Nat.le_refl _) ?_
      refine x_aload_n Γ dX3_citizen_39 rfl ?_
      refine gf_X3_10 Γ dX3_citizen_40 (by decide) (by rfl) rfl ?_
      refine gf_X3_52 Γ dX3_citizen_43 (by decide) (by rfl) rfl ?_
      refine x_iconst Γ (v := 1) dX3_citizen_46 rfl ?_
      rw [show seT T N x 7 8 = nI (N + 1) from ts_s]
      refine x_isub Γ dX3_citizen_47 ?_
      exact x_iretx ρ rfl dX3_citizen_48 rfl (by rw [show nI (N + 1) - 1 = nI N from pk_sub (b := 1) (by omega)]; simp [fr, fCit, *]) (cQ_i (by simp [fCit, tCit, *]) rfl (vis_e (by simp [fR, fCit, *])))
    · rw [hN.1] at c_2
      have c_2 := z_nlt (b := 10) c_2 (by omega) (by omega)
      have h10 : N = 10 := by omega
      refine x_aload_n Γ dX3_citizen_25 rfl ?_
      refine x_iconst Γ (v := 1) dX3_citizen_26 rfl ?_
      refine x_callV Γ calv_X3_finding wl_X3_48 dX3_citizen_27 (m_X3_finding (g := g) (T := T) (T2 := T2) (T3 := T3) (R := R) (X := X) (f := 1) (by decide)) rfl (by decide) (by decide) (by rfl) rfl rfl rfl (Nat.le_of_ble_eq_true rfl) (Nat.le_refl _) (Nat.le_refl _) ?_
      exact x_iretx ρ rfl dX3_citizen_30 rfl (by simp [fr, fCit, *]; try rfl) (cQ_i (by simp [fCit, tCit, *]) rfl (vis_tr (vis_e (by simp [fR, fCit, tCit, *])) vis_rf))
  · have c_1 := zb_0.mp c_1
    refine x_aload_n Γ dX3_citizen_7 rfl ?_
    refine x_iconst Γ (v := 0) dX3_citizen_8 rfl ?_
    refine x_callV Γ calv_X3_finding wl_X3_48 dX3_citizen_9 (m_X3_finding (g := g) (T := T) (T2 := T2) (T3 := T3) (R := R) (X := X) (f := 0) (by decide)) rfl (by decide) (by decide) (by rfl) rfl rfl rfl (Nat.le_of_ble_eq_true rfl) (Nat.le_refl _) (Nat.le_refl _) ?_
    exact x_iretx ρ rfl dX3_citizen_12 rfl (by simp [fr, fCit, *]; try rfl) (cQ_i (by simp [fCit, tCit, *]) rfl (vis_tr (vis_e (by simp [fR, fCit, tCit, *])) vis_rf))

theorem traF_k : ∀ k, k < 6 → k ≠ 4 → traF (nI k) = k := by decide +kernel
theorem inR_k {k n : Nat} (h : k ≤ n) (hn : n < 2 ^ 31) : inR (nI k) 0 (nI n) = true := by
  simp only [inR, Bool.and_eq_true, Bool.not_eq_true', decide_eq_false_iff_not]
  exact ⟨nI_pos (by omega), fun z => by have := z_lt z hn (by omega); omega⟩
theorem ht_in {w : Int32} (h : (!decide (w < 0) && !decide (5 < w) && !decide (w = 4)) = true) : ∃ k, k < 6 ∧ k ≠ 4 ∧ w = nI k := by
  simp only [Bool.and_eq_true, Bool.not_eq_true', decide_eq_false_iff_not] at h
  obtain ⟨k, hk, rfl⟩ := nI_of h.1.1
  have h5 := z_nlt (a := 5) h.1.2 (by omega) hk
  exact ⟨k, by omega, fun z => h.2 (by rw [z]; rfl), rfl⟩
theorem ht_no {w : Int32} (h : (!decide (w < 0) && !decide (5 < w) && !decide (w = 4)) = false) (h4 : ¬ w = 4) (h6 : ¬ w = 6) (h7 : ¬ w = 7) : inR w 0 7 = false := by
  refine Bool.eq_false_iff.mpr (fun z => ?_)
  obtain ⟨k, hk, rfl⟩ := inR_nI (n := 7) z rfl (by omega)
  have hk6 : k ≠ 6 := fun e => h6 (by rw [e]; rfl)
  have hk7 : k ≠ 7 := fun e => h7 (by rw [e]; rfl)
  have hk4 : k ≠ 4 := fun e => h4 (by rw [e]; rfl)
  have key : ∀ k, k < 6 → k ≠ 4 → ¬ ((!decide (nI k < 0) && !decide (5 < nI k) && !decide (nI k = 4)) = false) := by decide +kernel
  exact key k (by omega) hk4 h

set_option maxRecDepth 100000 in
set_option maxHeartbeats 4000000 in
theorem m_X3_of {g : Nat → zE} {T T2 T3 R : zT} {X : Nat → Int32} {N : Nat} (hN : wN T N) (c w : Int32) : zMx 1 M_X3_of [.ref 0, .int c, .int w] (cW g T T2 T3 R X) 46 (some (.int (fr (fOf T c w) (rOf T (ci c) (ci w))))) (cQ g (T) (T3) (fR R (fOf T c w))) := by
  refine zMx.intro (by decide) (Nat.le_of_ble_eq_true rfl) ?_
  intro Wf V m H0 Γ ρ
  replace Γ : zC Wf V m 3 H0 cX3_of RX3 1 0 0 := Γ
  show zX Wf V m 3 H0 0 (zls [(0, .ref 0), (1, .int c), (2, .int w)]) [] (cW g T T2 T3 R X) 46 0 0
  have hN2 := hN.2
  refine x_aload_n Γ dX3_of_0 rfl ?_
  refine gf_X3_10 Γ dX3_of_1 (by decide) (by rfl) rfl ?_
  refine x_iload_n Γ dX3_of_4 rfl ?_
  refine x_callV Γ calv_X0_houses wl_X3_60 dX3_of_5 (cM1 (m_X0_houses (g := cW g T T2 T3 R X) (b := 1) (T := T) (by omega) c)) rfl (by decide) (by decide) (by rfl) rfl rfl rfl (Nat.le_of_ble_eq_true rfl) (Nat.le_refl _) (Nat.le_refl _) ?_
  refine x_if_ne Γ (tgt := 17) dX3_of_8 (by decide) (fun c_1 => ?_) (fun c_1 => ?_)
  · have c_1 := zb_n0.mp c_1
    obtain ⟨j, hj, rfl⟩ := hs_in hN c_1
    have ej : ci (nI j) = j := nI_clamp (by omega)
    have hsj := c_1
    refine x_iload_n Γ dX3_of_17 rfl ?_
    refine x_tab4 Γ (a0 := 4) (a1 := 5) (a2 := 6) (a3 := 7) (t0 := 48) (t1 := 76) (t2 := 58) (t3 := 67) (td := 76) dX3_of_18 (by decide +kernel) (fun c_2 => ?_) (fun c_2 => ?_) (fun c_2 => ?_) (fun c_2 => ?_) (fun c_2_0 c_2_1 c_2_2 c_2_3 => ?_)
    · have hw := c_2
      have ew : ci w = 4 := by rw [hw]; decide
      have iw : inR w 0 7 = true := by rw [hw]; decide
      have hf : fOf T (nI j) w = 7 := if_pos ⟨hsj, iw⟩
      refine x_aload_n Γ dX3_of_48 rfl ?_
      refine gf_X3_10 Γ dX3_of_49 (by decide) (by rfl) rfl ?_
      refine gf_X3_63 Γ dX3_of_52 (by decide) (by rfl) rfl ?_
      refine x_iload_n Γ dX3_of_55 rfl ?_
      refine x_iald Γ dX3_of_56 (by decide) (by rfl) rfl (by first | assumption | omega) (by decide) rfl ?_
      exact x_iretx ρ rfl dX3_of_57 rfl (by rw [hf, ej, ew]; try rfl) (cQ_i rfl rfl (vis_e (by rw [hf]; try rfl)))
    · have hw := c_2
      refine x_iload_n Γ dX3_of_76 rfl ?_
      refine x_callS Γ cals_X0_hasTrait wl_X3_72 dX3_of_77 (m_X0_hasTrait w) rfl (by decide) rfl (Nat.le_of_ble_eq_true rfl) (Nat.le_refl _) (Nat.le_refl _) ?_
      refine x_if_eq Γ (tgt := 95) dX3_of_80 (by decide) (fun c_3 => ?_) (fun c_3 => ?_)
      · have c_3 := zb_0.mp c_3
        have hno : inR w 0 7 = false := by first | (exfalso; rw [hw] at c_3; revert c_3; decide) | exact ht_no c_3 hn4 hn6 hn7
        have hf : fOf T (nI j) w = 0 := if_neg (fun z => by rw [hno] at z; cases z.2)
        refine x_aload_n Γ dX3_of_95 rfl ?_
        refine x_iconst Γ (v := 0) dX3_of_96 rfl ?_
        refine x_callV Γ calv_X3_finding wl_X3_48 dX3_of_97 (m_X3_finding (g := g) (T := T) (T2 := T2) (T3 := T3) (R := R) (X := X) (f := 0) (by decide)) rfl (by decide) (by decide) (by rfl) rfl rfl rfl (Nat.le_of_ble_eq_true rfl) (Nat.le_refl _) (Nat.le_refl _) ?_
        exact x_iretx ρ rfl dX3_of_100 rfl (by first | (rw [hf, ej, ew, et]; exact zsi (if_pos hk)) | (rw [hf]; try rfl)) (cQ_i rfl rfl (vis_e (by rw [hf]; try rfl)))
      · have c_3 := zb_n0.mp c_3
        obtain ⟨k, hk, hk4, ew2⟩ := ht_in c_3
        have ew : ci w = k := by rw [ew2]; exact nI_clamp (by omega)
        have et : traF w = k := by rw [ew2]; exact traF_k k hk hk4
        have iw : inR w 0 7 = true := by rw [ew2]; exact inR_k (n := 7) (by omega) (by omega)
        have hf : fOf T (nI j) w = 7 := if_pos ⟨hsj, iw⟩
        refine x_aload_n Γ dX3_of_83 rfl ?_
        refine gf_X3_10 Γ dX3_of_84 (by decide) (by rfl) rfl ?_
        refine x_iload_n Γ dX3_of_87 rfl ?_
        refine x_iload_n Γ dX3_of_88 rfl ?_
        refine x_callV Γ calv_X0_trait wl_X3_75 dX3_of_89 (cM1 (m_X0_trait (g := cW g T T2 T3 R X) (b := 1) (T := T) (by omega) j (by omega) w)) rfl (by decide) (by decide) (by rfl) rfl rfl rfl (Nat.le_of_ble_eq_true rfl) (Nat.le_refl _) (Nat.le_refl _) ?_
        refine x_goto Γ (tgt := 100) dX3_of_92 (by decide) ?_
        exact x_iretx ρ rfl dX3_of_100 rfl (by first | (rw [hf, ej, ew, et]; exact zsi (if_pos hk)) | (rw [hf]; try rfl)) (cQ_i rfl rfl (vis_e (by rw [hf]; try rfl)))
    · have hw := c_2
      have ew : ci w = 6 := by rw [hw]; decide
      have iw : inR w 0 7 = true := by rw [hw]; decide
      have hf : fOf T (nI j) w = 7 := if_pos ⟨hsj, iw⟩
      refine x_aload_n Γ dX3_of_58 rfl ?_
      refine gf_X3_10 Γ dX3_of_59 (by decide) (by rfl) rfl ?_
      refine x_iload_n Γ dX3_of_62 rfl ?_
      refine x_callV Γ calv_X0_loafWorth wl_X3_66 dX3_of_63 (cM1 (m_X0_loafWorth (g := cW g T T2 T3 R X) (b := 1) (T := T) (by omega) j (by omega))) rfl (by decide) (by decide) (by rfl) rfl rfl rfl (Nat.le_of_ble_eq_true rfl) (Nat.le_refl _) (Nat.le_refl _) ?_
      exact x_iretx ρ rfl dX3_of_66 rfl (by rw [hf, ej, ew]; try rfl) (cQ_i rfl rfl (vis_e (by rw [hf]; try rfl)))
    · have hw := c_2
      have ew : ci w = 7 := by rw [hw]; decide
      have iw : inR w 0 7 = true := by rw [hw]; decide
      have hf : fOf T (nI j) w = 7 := if_pos ⟨hsj, iw⟩
      refine x_aload_n Γ dX3_of_67 rfl ?_
      refine gf_X3_10 Γ dX3_of_68 (by decide) (by rfl) rfl ?_
      refine x_iload_n Γ dX3_of_71 rfl ?_
      refine x_callV Γ calv_X0_seatWorth wl_X3_69 dX3_of_72 (cM1 (m_X0_seatWorth (g := cW g T T2 T3 R X) (b := 1) (T := T) (by omega) j (by omega))) rfl (by decide) (by decide) (by rfl) rfl rfl rfl (Nat.le_of_ble_eq_true rfl) (Nat.le_refl _) (Nat.le_refl _) ?_
      exact x_iretx ρ rfl dX3_of_75 rfl (by rw [hf, ej, ew]; try rfl) (cQ_i rfl rfl (vis_e (by rw [hf]; try rfl)))
    · have hn4 := c_2_0
      have hn6 := c_2_2
      have hn7 := c_2_3
      refine x_iload_n Γ dX3_of_76 rfl ?_
      refine x_callS Γ cals_X0_hasTrait wl_X3_72 dX3_of_77 (m_X0_hasTrait w) rfl (by decide) rfl (Nat.le_of_ble_eq_true rfl) (Nat.le_refl _) (Nat.le_refl _) ?_
      refine x_if_eq Γ (tgt := 95) dX3_of_80 (by decide) (fun c_4 => ?_) (fun c_4 => ?_)
      · have c_4 := zb_0.mp c_4
        have hno : inR w 0 7 = false := by first | (exfalso; rw [hw] at c_4; revert c_4; decide) | exact ht_no c_4 hn4 hn6 hn7
        have hf : fOf T (nI j) w = 0 := if_neg (fun z => by rw [hno] at z; cases z.2)
        refine x_aload_n Γ dX3_of_95 rfl ?_
        refine x_iconst Γ (v := 0) dX3_of_96 rfl ?_
        refine x_callV Γ calv_X3_finding wl_X3_48 dX3_of_97 (m_X3_finding (g := g) (T := T) (T2 := T2) (T3 := T3) (R := R) (X := X) (f := 0) (by decide)) rfl (by decide) (by decide) (by rfl) rfl rfl rfl (Nat.le_of_ble_eq_true rfl) (Nat.le_refl _) (Nat.le_refl _) ?_
        exact x_iretx ρ rfl dX3_of_100 rfl (by first | (rw [hf, ej, ew, et]; exact zsi (if_pos hk)) | (rw [hf]; try rfl)) (cQ_i rfl rfl (vis_e (by rw [hf]; try rfl)))
      · have c_4 := zb_n0.mp c_4
        obtain ⟨k, hk, hk4, ew2⟩ := ht_in c_4
        have ew : ci w = k := by rw [ew2]; exact nI_clamp (by omega)
        have et : traF w = k := by rw [ew2]; exact traF_k k hk hk4
        have iw : inR w 0 7 = true := by rw [ew2]; exact inR_k (n := 7) (by omega) (by omega)
        have hf : fOf T (nI j) w = 7 := if_pos ⟨hsj, iw⟩
        refine x_aload_n Γ dX3_of_83 rfl ?_
        refine gf_X3_10 Γ dX3_of_84 (by decide) (by rfl) rfl ?_
        refine x_iload_n Γ dX3_of_87 rfl ?_
        refine x_iload_n Γ dX3_of_88 rfl ?_
        refine x_callV Γ calv_X0_trait wl_X3_75 dX3_of_89 (cM1 (m_X0_trait (g := cW g T T2 T3 R X) (b := 1) (T := T) (by omega) j (by omega) w)) rfl (by decide) (by decide) (by rfl) rfl rfl rfl (Nat.le_of_ble_eq_true rfl) (Nat.le_refl _) (Nat.le_refl _) ?_
        refine x_goto Γ (tgt := 100) dX3_of_92 (by decide) ?_
        exact x_iretx ρ rfl dX3_of_100 rfl (by first | (rw [hf, ej, ew, et]; exact zsi (if_pos hk)) | (rw [hf]; try rfl)) (cQ_i rfl rfl (vis_e (by rw [hf]; try rfl)))
  · have c_1 := zb_0.mp c_1
    have hf : fOf T c w = 0 := if_neg (fun z => by rw [c_1] at z; cases z.1)
    refine x_aload_n Γ dX3_of_11 rfl ?_
    refine x_iconst Γ (v := 0) dX3_of_12 rfl ?_
    refine x_callV Γ calv_X3_finding wl_X3_48 dX3_of_13 (m_X3_finding (g := g) (T := T) (T2 := T2) (T3 := T3) (R := R) (X := X) (f := 0) (by decide)) rfl (by decide) (by decide) (by rfl) rfl rfl rfl (Nat.le_of_ble_eq_true rfl) (Nat.le_refl _) (Nat.le_refl _) ?_
    exact x_iretx ρ rfl dX3_of_16 rfl (by rw [hf]; try rfl) (cQ_i rfl rfl (vis_e (by rw [hf]; try rfl)))

set_option maxRecDepth 100000 in
set_option maxHeartbeats 4000000 in
theorem m_X3_change {g : Nat → zE} {T T2 T3 R : zT} {X : Nat → Int32} {N : Nat} (hN : wN T N) (c w v : Int32) : zMx 2 M_X3_change [.ref 0, .int c, .int w, .int v] (cW g T T2 T3 R X) 46 (some (.int (fr (fChg T c w v) (T (traF w) (ci c))))) (cQ g (tChg T c w v) (T3) (fR R (fChg T c w v))) := by
  refine zMx.intro (by decide) (Nat.le_of_ble_eq_true rfl) ?_
  intro Wf V m H0 Γ ρ
  replace Γ : zC Wf V m 5 H0 cX3_change RX3 2 0 0 := Γ
  show zX Wf V m 5 H0 0 (zls [(0, .ref 0), (1, .int c), (2, .int w), (3, .int v)]) [] (cW g T T2 T3 R X) 46 0 0
  have hN2 := hN.2
  refine x_aload_n Γ dX3_change_0 rfl ?_
  refine gf_X3_10 Γ dX3_change_1 (by decide) (by rfl) rfl ?_
  refine x_iload_n Γ dX3_change_4 rfl ?_
  refine x_callV Γ calv_X0_houses wl_X3_60 dX3_change_5 (cM1 (m_X0_houses (g := cW g T T2 T3 R X) (b := 1) (T := T) (by omega) c)) rfl (by decide) (by decide) (by rfl) rfl rfl rfl (Nat.le_of_ble_eq_true rfl) (Nat.le_refl _) (Nat.le_refl _) ?_
  refine x_if_eq Γ (tgt := 19) dX3_change_8 (by decide) (fun c_1 => ?_) (fun c_1 => ?_)
  · have c_1 := zb_0.mp c_1
    refine x_aload_n Γ dX3_change_19 rfl ?_
    refine x_iconst Γ (v := 0) dX3_change_20 rfl ?_
    refine x_callV Γ calv_X3_finding wl_X3_48 dX3_change_21 (m_X3_finding (g := g) (T := T) (T2 := T2) (T3 := T3) (R := R) (X := X) (f := 0) (by decide)) rfl (by decide) (by decide) (by rfl) rfl rfl rfl (Nat.le_of_ble_eq_true rfl) (Nat.le_refl _) (Nat.le_refl _) ?_
    exact x_iretx ρ rfl dX3_change_24 rfl (by simp [fr, fChg, *]; try rfl) (cQ_i (by simp [fChg, tChg, *]) rfl (vis_tr (vis_e (by simp [fR, fChg, tChg, *])) vis_rf))
  · have c_1 := zb_n0.mp c_1
    obtain ⟨j, hj, rfl⟩ := hs_in hN c_1
    have ej : ci (nI j) = j := nI_clamp (by omega)
    refine x_iload_n Γ dX3_change_11 rfl ?_
    refine x_iload_n Γ dX3_change_12 rfl ?_
    refine x_callS Γ cals_X0_allowsTrait wl_X3_79 dX3_change_13 (m_X0_allowsTrait w v) rfl (by decide) rfl (Nat.le_of_ble_eq_true rfl) (Nat.le_refl _) (Nat.le_refl _) ?_
    refine x_if_ne Γ (tgt := 25) dX3_change_16 (by decide) (fun c_2 => ?_) (fun c_2 => ?_)
    · have c_2 := zb_n0.mp c_2
      refine x_aload_n Γ dX3_change_25 rfl ?_
      refine gf_X3_10 Γ dX3_change_26 (by decide) (by rfl) rfl ?_
      refine x_iload_n Γ dX3_change_29 rfl ?_
      refine x_iload_n Γ dX3_change_30 rfl ?_
      refine x_callV Γ calv_X0_trait wl_X3_75 dX3_change_31 (cM1 (m_X0_trait (g := cW g T T2 T3 R X) (b := 1) (T := T) (by omega) j (by omega) w)) rfl (by decide) (by decide) (by rfl) rfl rfl rfl (Nat.le_of_ble_eq_true rfl) (Nat.le_refl _) (Nat.le_refl _) ?_
      refine x_istore Γ dX3_change_34 (by decide) ?_
      refine x_aload_n Γ dX3_change_36 rfl ?_
      refine gf_X3_10 Γ dX3_change_37 (by decide) (by rfl) rfl ?_
      refine x_iload_n Γ dX3_change_40 rfl ?_
      refine x_iload_n Γ dX3_change_41 rfl ?_
      refine x_iload_n Γ dX3_change_42 rfl ?_
      refine x_callVv Γ calv_X0_setTrait wl_X3_83 dX3_change_43 (cM1 (m_X0_setTrait (g := cW g T T2 T3 R X) (b := 1) (T := T) (by omega) hN j hj w v)) rfl (by decide) (by decide) (by rfl) rfl rfl rfl (Nat.le_of_ble_eq_true rfl) (Nat.le_refl _) (Nat.le_refl _) ?_
      refine x_iload Γ dX3_change_46 rfl ?_
      exact x_iretx ρ rfl dX3_change_48 rfl (by simp [fr, fChg, *]; try rfl) (cQ_i (by simp [fChg, tChg, *]) rfl (vis_tr (vis_e (by simp [fR, fChg, tChg, *])) vis_rf))
    · have c_2 := zb_0.mp c_2
      refine x_aload_n Γ dX3_change_19 rfl ?_
      refine x_iconst Γ (v := 0) dX3_change_20 rfl ?_
      refine x_callV Γ calv_X3_finding wl_X3_48 dX3_change_21 (m_X3_finding (g := g) (T := T) (T2 := T2) (T3 := T3) (R := R) (X := X) (f := 0) (by decide)) rfl (by decide) (by decide) (by rfl) rfl rfl rfl (Nat.le_of_ble_eq_true rfl) (Nat.le_refl _) (Nat.le_refl _) ?_
      exact x_iretx ρ rfl dX3_change_24 rfl (by simp [fr, fChg, *]; try rfl) (cQ_i (by simp [fChg, tChg, *]) rfl (vis_tr (vis_e (by simp [fR, fChg, tChg, *])) vis_rf))

set_option maxRecDepth 100000 in
set_option maxHeartbeats 4000000 in
theorem m_X3_rule {g : Nat → zE} {T T2 T3 R : zT} {X : Nat → Int32} (w v : Int32) : zMx 1 M_X3_rule [.ref 0, .int w, .int v] (cW g T T2 T3 R X) 46 (some (.int (fr (fRul w v) (T 7 (rulF w))))) (cQ g (tRul T w v) (T3) (fR R (fRul w v))) := by
  refine zMx.intro (by decide) (Nat.le_of_ble_eq_true rfl) ?_
  intro Wf V m H0 Γ ρ
  replace Γ : zC Wf V m 4 H0 cX3_rule RX3 1 0 0 := Γ
  show zX Wf V m 4 H0 0 (zls [(0, .ref 0), (1, .int w), (2, .int v)]) [] (cW g T T2 T3 R X) 46 0 0
  refine x_iload_n Γ dX3_rule_0 rfl ?_
  refine x_iload_n Γ dX3_rule_1 rfl ?_
  refine x_callS Γ cals_X0_allowsRule wl_X3_87 dX3_rule_2 (m_X0_allowsRule w v) rfl (by decide) rfl (Nat.le_of_ble_eq_true rfl) (Nat.le_refl _) (Nat.le_refl _) ?_
  refine x_if_ne Γ (tgt := 14) dX3_rule_5 (by decide) (fun c_1 => ?_) (fun c_1 => ?_)
  · have c_1 := zb_n0.mp c_1
    refine x_aload_n Γ dX3_rule_14 rfl ?_
    refine gf_X3_10 Γ dX3_rule_15 (by decide) (by rfl) rfl ?_
    refine x_iload_n Γ dX3_rule_18 rfl ?_
    refine x_callV Γ calv_X0_ruling wl_X3_90 dX3_rule_19 (cM1 (m_X0_ruling (g := cW g T T2 T3 R X) (b := 1) (T := T) (by omega) w)) rfl (by decide) (by decide) (by rfl) rfl rfl rfl (Nat.le_of_ble_eq_true rfl) (Nat.le_refl _) (Nat.le_refl _) ?_
    refine x_istore_n Γ dX3_rule_22 (by decide) ?_
    refine x_aload_n Γ dX3_rule_23 rfl ?_
    refine gf_X3_10 Γ dX3_rule_24 (by decide) (by rfl) rfl ?_
    refine x_iload_n Γ dX3_rule_27 rfl ?_
    refine x_iload_n Γ dX3_rule_28 rfl ?_
    refine x_callVv Γ calv_X0_setRuling wl_X3_93 dX3_rule_29 (cM1 (m_X0_setRuling (g := cW g T T2 T3 R X) (b := 1) (T := T) (by omega) w v)) rfl (by decide) (by decide) (by rfl) rfl rfl rfl (Nat.le_of_ble_eq_true rfl) (Nat.le_refl _) (Nat.le_refl _) ?_
    refine x_iload_n Γ dX3_rule_32 rfl ?_
    exact x_iretx ρ rfl dX3_rule_33 rfl (by simp [fr, fRul, *]; try rfl) (cQ_i (by simp [fRul, tRul, *]) rfl (vis_tr (vis_e (by simp [fR, fRul, tRul, *])) vis_rf))
  · have c_1 := zb_0.mp c_1
    refine x_aload_n Γ dX3_rule_8 rfl ?_
    refine x_iconst Γ (v := 0) dX3_rule_9 rfl ?_
    refine x_callV Γ calv_X3_finding wl_X3_48 dX3_rule_10 (m_X3_finding (g := g) (T := T) (T2 := T2) (T3 := T3) (R := R) (X := X) (f := 0) (by decide)) rfl (by decide) (by decide) (by rfl) rfl rfl rfl (Nat.le_of_ble_eq_true rfl) (Nat.le_refl _) (Nat.le_refl _) ?_
    exact x_iretx ρ rfl dX3_rule_13 rfl (by simp [fr, fRul, *]; try rfl) (cQ_i (by simp [fRul, tRul, *]) rfl (vis_tr (vis_e (by simp [fR, fRul, tRul, *])) vis_rf))

set_option maxRecDepth 100000 in
set_option maxHeartbeats 4000000 in
theorem m_X3_now {g : Nat → zE} {T T2 T3 R : zT} {X : Nat → Int32} {N : Nat} (hN : wN T N) (w : Int32) : zMx 1 M_X3_now [.ref 0, .int w] (cW g T T2 T3 R X) 46 (some (.int (fr (fNow w) (rNow T N w)))) (cQ g (T) (T3) (fR R (fNow w))) := by
  refine zMx.intro (by decide) (Nat.le_of_ble_eq_true rfl) ?_
  intro Wf V m H0 Γ ρ
  replace Γ : zC Wf V m 2 H0 cX3_now RX3 1 0 0 := Γ
  show zX Wf V m 2 H0 0 (zls [(0, .ref 0), (1, .int w)]) [] (cW g T T2 T3 R X) 46 0 0
  have hN2 := hN.2
  refine x_iload_n Γ dX3_now_0 rfl ?_
  refine x_tab7 Γ (a0 := 0) (a1 := 1) (a2 := 2) (a3 := 3) (a4 := 4) (a5 := 5) (a6 := 6) (t0 := 44) (t1 := 52) (t2 := 60) (t3 := 68) (t4 := 77) (t5 := 86) (t6 := 94) (td := 114) dX3_now_1 (by decide +kernel) (fun c_1 => ?_) (fun c_1 => ?_) (fun c_1 => ?_) (fun c_1 => ?_) (fun c_1 => ?_) (fun c_1 => ?_) (fun c_1 => ?_) (fun c_1_0 c_1_1 c_1_2 c_1_3 c_1_4 c_1_5 c_1_6 => ?_)
  · refine x_aload_n Γ dX3_now_44 rfl ?_
    refine gf_X3_10 Γ dX3_now_45 (by decide) (by rfl) rfl ?_
    refine gf_X3_97 Γ dX3_now_48 (by decide) (by rfl) rfl ?_
    exact x_iretx ρ rfl dX3_now_51 rfl (by simp [fr, fNow, rNow, isK, *]; try rfl) (cQ_i (by simp [fNow, isK, *]) rfl (vis_tr (vis_e (by simp [fR, fNow, isK, *])) vis_rf))
  · refine x_aload_n Γ dX3_now_52 rfl ?_
    refine gf_X3_10 Γ dX3_now_53 (by decide) (by rfl) rfl ?_
    refine gf_X3_100 Γ dX3_now_56 (by decide) (by rfl) rfl ?_
    exact x_iretx ρ rfl dX3_now_59 rfl (by simp [fr, fNow, rNow, isK, *]; try rfl) (cQ_i (by simp [fNow, isK, *]) rfl (vis_tr (vis_e (by simp [fR, fNow, isK, *])) vis_rf))
  · refine x_aload_n Γ dX3_now_60 rfl ?_
    refine gf_X3_10 Γ dX3_now_61 (by decide) (by rfl) rfl ?_
    refine gf_X3_103 Γ dX3_now_64 (by decide) (by rfl) rfl ?_
    exact x_iretx ρ rfl dX3_now_67 rfl (by simp [fr, fNow, rNow, isK, *]; try rfl) (cQ_i (by simp [fNow, isK, *]) rfl (vis_tr (vis_e (by simp [fR, fNow, isK, *])) vis_rf))
  · refine x_aload_n Γ dX3_now_68 rfl ?_
    refine gf_X3_10 Γ dX3_now_69 (by decide) (by rfl) rfl ?_
    refine x_iconst Γ (v := 1) dX3_now_72 rfl ?_
    refine x_callV Γ calv_X0_holders wl_X3_106 dX3_now_73 (cM1 (m_X0_holders (g := cW g T T2 T3 R X) (b := 1) (T := T) (by omega) hN 1)) rfl (by decide) (by decide) (by rfl) rfl rfl rfl (Nat.le_of_ble_eq_true rfl) (Nat.le_refl _) (Nat.le_refl _) ?_
    exact x_iretx ρ rfl dX3_now_76 rfl (by simp [fr, fNow, rNow, isK, *]; try rfl) (cQ_i (by simp [fNow, isK, *]) rfl (vis_tr (vis_e (by simp [fR, fNow, isK, *])) vis_rf))
  · refine x_aload_n Γ dX3_now_77 rfl ?_
    refine gf_X3_10 Γ dX3_now_78 (by decide) (by rfl) rfl ?_
    refine x_iconst Γ (v := 2) dX3_now_81 rfl ?_
    refine x_callV Γ calv_X0_holders wl_X3_106 dX3_now_82 (cM1 (m_X0_holders (g := cW g T T2 T3 R X) (b := 1) (T := T) (by omega) hN 2)) rfl (by decide) (by decide) (by rfl) rfl rfl rfl (Nat.le_of_ble_eq_true rfl) (Nat.le_refl _) (Nat.le_refl _) ?_
    exact x_iretx ρ rfl dX3_now_85 rfl (by simp [fr, fNow, rNow, isK, *]; try rfl) (cQ_i (by simp [fNow, isK, *]) rfl (vis_tr (vis_e (by simp [fR, fNow, isK, *])) vis_rf))
  · refine x_aload_n Γ dX3_now_86 rfl ?_
    refine gf_X3_10 Γ dX3_now_87 (by decide) (by rfl) rfl ?_
    refine x_callV Γ calv_X0_starving wl_X3_109 dX3_now_90 (cM1 (m_X0_starving (g := cW g T T2 T3 R X) (b := 1) (T := T) (by omega) hN)) rfl (by decide) (by decide) (by rfl) rfl rfl rfl (Nat.le_of_ble_eq_true rfl) (Nat.le_refl _) (Nat.le_refl _) ?_
    exact x_iretx ρ rfl dX3_now_93 rfl (by simp [fr, fNow, rNow, isK, *]; try rfl) (cQ_i (by simp [fNow, isK, *]) rfl (vis_tr (vis_e (by simp [fR, fNow, isK, *])) vis_rf))
  · refine x_iconst Γ (v := 3) dX3_now_94 rfl ?_
    refine x_aload_n Γ dX3_now_95 rfl ?_
    refine gf_X3_10 Γ dX3_now_96 (by decide) (by rfl) rfl ?_
    refine gf_X3_113 Γ dX3_now_99 (by decide) (by rfl) rfl ?_
    refine x_imul Γ dX3_now_102 ?_
    refine x_iconst Γ (v := 2) dX3_now_103 rfl ?_
    refine x_aload_n Γ dX3_now_104 rfl ?_
    refine gf_X3_10 Γ dX3_now_105 (by decide) (by rfl) rfl ?_
    refine gf_X3_116 Γ dX3_now_108 (by decide) (by rfl) rfl ?_
    refine x_imul Γ dX3_now_111 ?_
    refine x_iadd Γ dX3_now_112 ?_
    exact x_iretx ρ rfl dX3_now_113 rfl (by simp [fr, fNow, rNow, isK, *]; try rfl) (cQ_i (by simp [fNow, isK, *]) rfl (vis_tr (vis_e (by simp [fR, fNow, isK, *])) vis_rf))
  · have hnk := isK_no c_1_0 c_1_1 c_1_2 c_1_3 c_1_4 c_1_5 c_1_6
    refine x_aload_n Γ dX3_now_114 rfl ?_
    refine x_iconst Γ (v := 0) dX3_now_115 rfl ?_
    refine x_callV Γ calv_X3_finding wl_X3_48 dX3_now_116 (m_X3_finding (g := g) (T := T) (T2 := T2) (T3 := T3) (R := R) (X := X) (f := 0) (by decide)) rfl (by decide) (by decide) (by rfl) rfl rfl rfl (Nat.le_of_ble_eq_true rfl) (Nat.le_refl _) (Nat.le_refl _) ?_
    exact x_iretx ρ rfl dX3_now_119 rfl (by simp [fNow, fr, hnk]; try rfl) (cQ_i rfl rfl (vis_e (by simp [fNow, fR, hnk])))

set_option maxRecDepth 100000 in
set_option maxHeartbeats 4000000 in
theorem m_X3_wants {g : Nat → zE} {T T2 T3 R : zT} {X : Nat → Int32} {N : Nat} (hN : wN T N) (hH : wH T N) (c : Int32) : zMx 2 M_X3_wants [.ref 0, .int c] (cW g T T2 T3 R X) 46 (some (.int (fr (fWan T c) (zb (wo T (ci c)))))) (cQ g (T) (T3) (fR R (fWan T c))) := by
  refine zMx.intro (by decide) (Nat.le_of_ble_eq_true rfl) ?_
  intro Wf V m H0 Γ ρ
  replace Γ : zC Wf V m 2 H0 cX3_wants RX3 2 0 0 := Γ
  show zX Wf V m 2 H0 0 (zls [(0, .ref 0), (1, .int c)]) [] (cW g T T2 T3 R X) 46 0 0
  have hN2 := hN.2
  refine x_aload_n Γ dX3_wants_0 rfl ?_
  refine gf_X3_10 Γ dX3_wants_1 (by decide) (by rfl) rfl ?_
  refine x_iload_n Γ dX3_wants_4 rfl ?_
  refine x_callV Γ calv_X0_houses wl_X3_60 dX3_wants_5 (cM1 (m_X0_houses (g := cW g T T2 T3 R X) (b := 1) (T := T) (by omega) c)) rfl (by decide) (by decide) (by rfl) rfl rfl rfl (Nat.le_of_ble_eq_true rfl) (Nat.le_refl _) (Nat.le_refl _) ?_
  refine x_if_ne Γ (tgt := 17) dX3_wants_8 (by decide) (fun c_1 => ?_) (fun c_1 => ?_)
  · have c_1 := zb_n0.mp c_1
    obtain ⟨j, hj, rfl⟩ := hs_in hN c_1
    have ej : ci (nI j) = j := nI_clamp (by omega)
    obtain ⟨hh, hh9, eh⟩ := hH j hj
    refine x_aload_n Γ dX3_wants_17 rfl ?_
    refine gf_X3_10 Γ dX3_wants_18 (by decide) (by rfl) rfl ?_
    refine gf_X3_119 Γ dX3_wants_21 (by decide) (by rfl) rfl ?_
    refine x_iload_n Γ dX3_wants_24 rfl ?_
    refine x_iald Γ dX3_wants_25 (by decide) (by rfl) rfl (by first | assumption | omega) (by decide) rfl ?_
    refine x_if_ne Γ (tgt := 35) dX3_wants_26 (by decide) (fun c_2 => ?_) (fun c_2 => ?_)
    · refine x_aload_n Γ dX3_wants_35 rfl ?_
      refine gf_X3_10 Γ dX3_wants_36 (by decide) (by rfl) rfl ?_
      refine x_iload_n Γ dX3_wants_39 rfl ?_
      refine x_callV Γ calv_X0_wantsOther wl_X3_122 dX3_wants_40 (cM1 (m_X0_wantsOther (g := cW g T T2 T3 R X) (b := 1) (T := T) (by omega) j (by omega) eh hh9)) rfl (by decide) (by decide) (by rfl) rfl rfl rfl (Nat.le_of_ble_eq_true rfl) (Nat.le_refl _) (Nat.le_refl _) ?_
      refine x_if_eq Γ (tgt := 50) dX3_wants_43 (by decide) (fun c_3 => ?_) (fun c_3 => ?_)
      · have c_3 := zb_0.mp c_3
        refine x_iconst Γ (v := 0) dX3_wants_50 rfl ?_
        exact x_iretx ρ rfl dX3_wants_51 rfl (by simp [fr, fWan, zb, *]; try rfl) (cQ_i (by simp [fWan, *]) rfl (vis_tr (vis_e (by simp [fR, fWan, *])) vis_rf))
      · have c_3 := zb_n0.mp c_3
        refine x_iconst Γ (v := 1) dX3_wants_46 rfl ?_
        refine x_goto Γ (tgt := 51) dX3_wants_47 (by decide) ?_
        exact x_iretx ρ rfl dX3_wants_51 rfl (by simp [fr, fWan, zb, *]; try rfl) (cQ_i (by simp [fWan, *]) rfl (vis_tr (vis_e (by simp [fR, fWan, *])) vis_rf))
    · refine x_aload_n Γ dX3_wants_29 rfl ?_
      refine x_iconst Γ (v := 4) dX3_wants_30 rfl ?_
      refine x_callV Γ calv_X3_finding wl_X3_48 dX3_wants_31 (m_X3_finding (g := g) (T := T) (T2 := T2) (T3 := T3) (R := R) (X := X) (f := 4) (by decide)) rfl (by decide) (by decide) (by rfl) rfl rfl rfl (Nat.le_of_ble_eq_true rfl) (Nat.le_refl _) (Nat.le_refl _) ?_
      exact x_iretx ρ rfl dX3_wants_34 rfl (by simp [fr, fWan, zb, *]; try rfl) (cQ_i (by simp [fWan, *]) rfl (vis_tr (vis_e (by simp [fR, fWan, *])) vis_rf))
  · have c_1 := zb_0.mp c_1
    refine x_aload_n Γ dX3_wants_11 rfl ?_
    refine x_iconst Γ (v := 0) dX3_wants_12 rfl ?_
    refine x_callV Γ calv_X3_finding wl_X3_48 dX3_wants_13 (m_X3_finding (g := g) (T := T) (T2 := T2) (T3 := T3) (R := R) (X := X) (f := 0) (by decide)) rfl (by decide) (by decide) (by rfl) rfl rfl rfl (Nat.le_of_ble_eq_true rfl) (Nat.le_refl _) (Nat.le_refl _) ?_
    exact x_iretx ρ rfl dX3_wants_16 rfl (by simp [fr, fWan, zb, *]; try rfl) (cQ_i (by simp [fWan, *]) rfl (vis_tr (vis_e (by simp [fR, fWan, *])) vis_rf))

theorem sw3 {a b : Int32} (ha : a = 0 ∨ a = 1 ∨ a = 2) (hb : b = 0 ∨ b = 1 ∨ b = 2) (h1 : ¬ (a = 1 ∧ b = 2)) (h2 : ¬ (a = 2 ∧ b = 1)) : ¬ a + b = 3 := by
  rcases ha with rfl | rfl | rfl <;> rcases hb with rfl | rfl | rfl <;> revert h1 h2 <;> decide
theorem swA : (1 : Int32) + 2 = 3 := by decide
theorem swB : (2 : Int32) + 1 = 3 := by decide

set_option maxRecDepth 100000 in
set_option maxHeartbeats 4000000 in
theorem m_X3_swap {g : Nat → zE} {T T2 T3 R : zT} {X : Nat → Int32} {N : Nat} (hN : wN T N) (hH : wH T N) (hT : wTk T N) (x y : Int32) : zMx 2 M_X3_swap [.ref 0, .int x, .int y] (cW g T T2 T3 R X) 46 (some (.int (fr (fSwp T x y) (1)))) (cQ g (tSwp T x y) (T3) (fR R (fSwp T x y))) := by
  refine zMx.intro (by decide) (Nat.le_of_ble_eq_true rfl) ?_
  intro Wf V m H0 Γ ρ
  replace Γ : zC Wf V m 4 H0 cX3_swap RX3 2 0 0 := Γ
  show zX Wf V m 4 H0 0 (zls [(0, .ref 0), (1, .int x), (2, .int y)]) [] (cW g T T2 T3 R X) 46 0 0
  have hN2 := hN.2
  refine x_aload_n Γ dX3_swap_0 rfl ?_
  refine gf_X3_10 Γ dX3_swap_1 (by decide) (by rfl) rfl ?_
  refine x_iload_n Γ dX3_swap_4 rfl ?_
  refine x_callV Γ calv_X0_houses wl_X3_60 dX3_swap_5 (cM1 (m_X0_houses (g := cW g T T2 T3 R X) (b := 1) (T := T) (by omega) x)) rfl (by decide) (by decide) (by rfl) rfl rfl rfl (Nat.le_of_ble_eq_true rfl) (Nat.le_refl _) (Nat.le_refl _) ?_
  refine x_if_eq Γ (tgt := 27) dX3_swap_8 (by decide) (fun c_1 => ?_) (fun c_1 => ?_)
  · have c_1 := zb_0.mp c_1
    have hf : fSwp T x y = 0 := if_neg (fun z => by rw [c_1] at z; cases z.1)
    refine x_aload_n Γ dX3_swap_27 rfl ?_
    refine x_iconst Γ (v := 0) dX3_swap_28 rfl ?_
    refine x_callV Γ calv_X3_finding wl_X3_48 dX3_swap_29 (m_X3_finding (g := g) (T := T) (T2 := T2) (T3 := T3) (R := R) (X := X) (f := 0) (by decide)) rfl (by decide) (by decide) (by rfl) rfl rfl rfl (Nat.le_of_ble_eq_true rfl) (Nat.le_refl _) (Nat.le_refl _) ?_
    exact x_iretx ρ rfl dX3_swap_32 rfl (by rw [hf]; try rfl) (cQ_i (by rw [tSwp, hf]; try rfl) rfl (vis_e (by rw [hf]; try rfl)))
  · have c_1 := zb_n0.mp c_1
    obtain ⟨j, hj, rfl⟩ := hs_in hN c_1
    have ej : ci (nI j) = j := nI_clamp (by omega)
    have hsj := c_1
    obtain ⟨hh, hh9, eh⟩ := hH j hj
    refine x_aload_n Γ dX3_swap_11 rfl ?_
    refine gf_X3_10 Γ dX3_swap_12 (by decide) (by rfl) rfl ?_
    refine x_iload_n Γ dX3_swap_15 rfl ?_
    refine x_callV Γ calv_X0_houses wl_X3_60 dX3_swap_16 (cM1 (m_X0_houses (g := cW g T T2 T3 R X) (b := 1) (T := T) (by omega) y)) rfl (by decide) (by decide) (by rfl) rfl rfl rfl (Nat.le_of_ble_eq_true rfl) (Nat.le_refl _) (Nat.le_refl _) ?_
    refine x_if_eq Γ (tgt := 27) dX3_swap_19 (by decide) (fun c_2 => ?_) (fun c_2 => ?_)
    · have c_2 := zb_0.mp c_2
      have hf : fSwp T (nI j) y = 0 := if_neg (fun z => by rw [c_2] at z; cases z.2.1)
      refine x_aload_n Γ dX3_swap_27 rfl ?_
      refine x_iconst Γ (v := 0) dX3_swap_28 rfl ?_
      refine x_callV Γ calv_X3_finding wl_X3_48 dX3_swap_29 (m_X3_finding (g := g) (T := T) (T2 := T2) (T3 := T3) (R := R) (X := X) (f := 0) (by decide)) rfl (by decide) (by decide) (by rfl) rfl rfl rfl (Nat.le_of_ble_eq_true rfl) (Nat.le_refl _) (Nat.le_refl _) ?_
      exact x_iretx ρ rfl dX3_swap_32 rfl (by rw [hf]; try rfl) (cQ_i (by rw [tSwp, hf]; try rfl) rfl (vis_e (by rw [hf]; try rfl)))
    · have c_2 := zb_n0.mp c_2
      obtain ⟨i, hi, rfl⟩ := hs_in hN c_2
      have ei : ci (nI i) = i := nI_clamp (by omega)
      have hsi := c_2
      obtain ⟨ii, ii9, ehi⟩ := hH i hi
      refine x_iload_n Γ dX3_swap_22 rfl ?_
      refine x_iload_n Γ dX3_swap_23 rfl ?_
      refine x_icmp_ne Γ (tgt := 33) dX3_swap_24 (by decide) (fun c_3 => ?_) (fun c_3 => ?_)
      · have hxy := c_3
        refine x_aload_n Γ dX3_swap_33 rfl ?_
        refine gf_X3_10 Γ dX3_swap_34 (by decide) (by rfl) rfl ?_
        refine gf_X3_119 Γ dX3_swap_37 (by decide) (by rfl) rfl ?_
        refine x_iload_n Γ dX3_swap_40 rfl ?_
        refine x_iald Γ dX3_swap_41 (by decide) (by rfl) rfl (by first | assumption | omega) (by decide) rfl ?_
        refine x_iconst Γ (v := 1) dX3_swap_42 rfl ?_
        refine x_icmp_ne Γ (tgt := 59) dX3_swap_43 (by decide) (fun c_4 => ?_) (fun c_4 => ?_)
        · have n1 : ¬ (T 5 j = 1 ∧ T 5 i = 2) := fun z => c_4 z.1
          refine x_aload_n Γ dX3_swap_59 rfl ?_
          refine gf_X3_10 Γ dX3_swap_60 (by decide) (by rfl) rfl ?_
          refine gf_X3_119 Γ dX3_swap_63 (by decide) (by rfl) rfl ?_
          refine x_iload_n Γ dX3_swap_66 rfl ?_
          refine x_iald Γ dX3_swap_67 (by decide) (by rfl) rfl (by first | assumption | omega) (by decide) rfl ?_
          refine x_iconst Γ (v := 2) dX3_swap_68 rfl ?_
          refine x_icmp_ne Γ (tgt := 89) dX3_swap_69 (by decide) (fun c_5 => ?_) (fun c_5 => ?_)
          · have n2 := sw3 (hT j hj) (hT i hi) n1 (fun z => c_5 z.1)
            refine x_iconst Γ (v := 0) dX3_swap_89 rfl ?_
            refine x_istore_n Γ dX3_swap_90 (by decide) ?_
            refine x_iload_n Γ dX3_swap_91 rfl ?_
            refine x_if_eq Γ (tgt := 117) dX3_swap_92 (by decide) (fun c_6 => ?_) (fun c_6 => ?_)
            · have hno : ¬ (T 5 j + T 5 i = 3 ∧ wo T j = true ∧ wo T i = true) := fun z => n2 z.1
              have hf : fSwp T (nI j) (nI i) = 4 := by rw [fSwp, if_pos ⟨hsj, hsi, hxy⟩, ej, ei, if_neg hno]
              refine x_aload_n Γ dX3_swap_117 rfl ?_
              refine x_iconst Γ (v := 4) dX3_swap_118 rfl ?_
              refine x_callV Γ calv_X3_finding wl_X3_48 dX3_swap_119 (m_X3_finding (g := g) (T := T) (T2 := T2) (T3 := T3) (R := R) (X := X) (f := 4) (by decide)) rfl (by decide) (by decide) (by rfl) rfl rfl rfl (Nat.le_of_ble_eq_true rfl) (Nat.le_refl _) (Nat.le_refl _) ?_
              exact x_iretx ρ rfl dX3_swap_122 rfl (by rw [hf]; try rfl) (cQ_i (by rw [tSwp, hf]; try rfl) rfl (vis_e (by rw [hf]; try rfl)))
            · exact absurd rfl c_6
          · have q1 := c_5
            refine x_aload_n Γ dX3_swap_72 rfl ?_
            refine gf_X3_10 Γ dX3_swap_73 (by decide) (by rfl) rfl ?_
            refine gf_X3_119 Γ dX3_swap_76 (by decide) (by rfl) rfl ?_
            refine x_iload_n Γ dX3_swap_79 rfl ?_
            refine x_iald Γ dX3_swap_80 (by decide) (by rfl) rfl (by first | assumption | omega) (by decide) rfl ?_
            refine x_iconst Γ (v := 1) dX3_swap_81 rfl ?_
            refine x_icmp_ne Γ (tgt := 89) dX3_swap_82 (by decide) (fun c_7 => ?_) (fun c_7 => ?_)
            · have n2 := sw3 (hT j hj) (hT i hi) n1 (fun z => c_7 z.2)
              refine x_iconst Γ (v := 0) dX3_swap_89 rfl ?_
              refine x_istore_n Γ dX3_swap_90 (by decide) ?_
              refine x_iload_n Γ dX3_swap_91 rfl ?_
              refine x_if_eq Γ (tgt := 117) dX3_swap_92 (by decide) (fun c_8 => ?_) (fun c_8 => ?_)
              · have hno : ¬ (T 5 j + T 5 i = 3 ∧ wo T j = true ∧ wo T i = true) := fun z => n2 z.1
                have hf : fSwp T (nI j) (nI i) = 4 := by rw [fSwp, if_pos ⟨hsj, hsi, hxy⟩, ej, ei, if_neg hno]
                refine x_aload_n Γ dX3_swap_117 rfl ?_
                refine x_iconst Γ (v := 4) dX3_swap_118 rfl ?_
                refine x_callV Γ calv_X3_finding wl_X3_48 dX3_swap_119 (m_X3_finding (g := g) (T := T) (T2 := T2) (T3 := T3) (R := R) (X := X) (f := 4) (by decide)) rfl (by decide) (by decide) (by rfl) rfl rfl rfl (Nat.le_of_ble_eq_true rfl) (Nat.le_refl _) (Nat.le_refl _) ?_
                exact x_iretx ρ rfl dX3_swap_122 rfl (by rw [hf]; try rfl) (cQ_i (by rw [tSwp, hf]; try rfl) rfl (vis_e (by rw [hf]; try rfl)))
              · exact absurd rfl c_8
            · have h3 : T 5 j + T 5 i = 3 := by rw [q1, c_7]; decide
              refine x_iconst Γ (v := 1) dX3_swap_85 rfl ?_
              refine x_goto Γ (tgt := 90) dX3_swap_86 (by decide) ?_
              refine x_istore_n Γ dX3_swap_90 (by decide) ?_
              refine x_iload_n Γ dX3_swap_91 rfl ?_
              refine x_if_eq Γ (tgt := 117) dX3_swap_92 (by decide) (fun c_9 => ?_) (fun c_9 => ?_)
              · exact absurd c_9 (by decide)
              · refine x_aload_n Γ dX3_swap_95 rfl ?_
                refine gf_X3_10 Γ dX3_swap_96 (by decide) (by rfl) rfl ?_
                refine x_iload_n Γ dX3_swap_99 rfl ?_
                refine x_callV Γ calv_X0_wantsOther wl_X3_122 dX3_swap_100 (cM1 (m_X0_wantsOther (g := cW g T T2 T3 R X) (b := 1) (T := T) (by omega) j (by omega) eh hh9)) rfl (by decide) (by decide) (by rfl) rfl rfl rfl (Nat.le_of_ble_eq_true rfl) (Nat.le_refl _) (Nat.le_refl _) ?_
                refine x_if_eq Γ (tgt := 117) dX3_swap_103 (by decide) (fun c_10 => ?_) (fun c_10 => ?_)
                · have c_10 := zb_0.mp c_10
                  have hno : ¬ (T 5 j + T 5 i = 3 ∧ wo T j = true ∧ wo T i = true) := fun z => by rw [c_10] at z; cases z.2.1
                  have hf : fSwp T (nI j) (nI i) = 4 := by rw [fSwp, if_pos ⟨hsj, hsi, hxy⟩, ej, ei, if_neg hno]
                  refine x_aload_n Γ dX3_swap_117 rfl ?_
                  refine x_iconst Γ (v := 4) dX3_swap_118 rfl ?_
                  refine x_callV Γ calv_X3_finding wl_X3_48 dX3_swap_119 (m_X3_finding (g := g) (T := T) (T2 := T2) (T3 := T3) (R := R) (X := X) (f := 4) (by decide)) rfl (by decide) (by decide) (by rfl) rfl rfl rfl (Nat.le_of_ble_eq_true rfl) (Nat.le_refl _) (Nat.le_refl _) ?_
                  exact x_iretx ρ rfl dX3_swap_122 rfl (by rw [hf]; try rfl) (cQ_i (by rw [tSwp, hf]; try rfl) rfl (vis_e (by rw [hf]; try rfl)))
                · have c_10 := zb_n0.mp c_10
                  have hwj := c_10
                  refine x_aload_n Γ dX3_swap_106 rfl ?_
                  refine gf_X3_10 Γ dX3_swap_107 (by decide) (by rfl) rfl ?_
                  refine x_iload_n Γ dX3_swap_110 rfl ?_
                  refine x_callV Γ calv_X0_wantsOther wl_X3_122 dX3_swap_111 (cM1 (m_X0_wantsOther (g := cW g T T2 T3 R X) (b := 1) (T := T) (by omega) i (by omega) ehi ii9)) rfl (by decide) (by decide) (by rfl) rfl rfl rfl (Nat.le_of_ble_eq_true rfl) (Nat.le_refl _) (Nat.le_refl _) ?_
                  refine x_if_ne Γ (tgt := 123) dX3_swap_114 (by decide) (fun c_11 => ?_) (fun c_11 => ?_)
                  · have c_11 := zb_n0.mp c_11
                    have hwi := c_11
                    have hf : fSwp T (nI j) (nI i) = 7 := by rw [fSwp, if_pos ⟨hsj, hsi, hxy⟩, ej, ei, if_pos ⟨h3, hwj, hwi⟩]
                    refine x_aload_n Γ dX3_swap_123 rfl ?_
                    refine gf_X3_10 Γ dX3_swap_124 (by decide) (by rfl) rfl ?_
                    refine x_iload_n Γ dX3_swap_127 rfl ?_
                    refine x_iload_n Γ dX3_swap_128 rfl ?_
                    refine x_callVv Γ calv_X0_exchange wl_X3_125 dX3_swap_129 (cM1 (m_X0_exchange (g := cW g T T2 T3 R X) (b := 1) (T := T) (by omega) j i (by omega) (by omega))) rfl (by decide) (by decide) (by rfl) rfl rfl rfl (Nat.le_of_ble_eq_true rfl) (Nat.le_refl _) (Nat.le_refl _) ?_
                    refine x_iconst Γ (v := 1) dX3_swap_132 rfl ?_
                    exact x_iretx ρ rfl dX3_swap_133 rfl (by rw [hf]; try rfl) (cQ_i (by rw [tSwp, if_pos hf, ej, ei]) rfl (vis_e (by rw [hf]; try rfl)))
                  · have c_11 := zb_0.mp c_11
                    have hno : ¬ (T 5 j + T 5 i = 3 ∧ wo T j = true ∧ wo T i = true) := fun z => by rw [c_11] at z; cases z.2.2
                    have hf : fSwp T (nI j) (nI i) = 4 := by rw [fSwp, if_pos ⟨hsj, hsi, hxy⟩, ej, ei, if_neg hno]
                    refine x_aload_n Γ dX3_swap_117 rfl ?_
                    refine x_iconst Γ (v := 4) dX3_swap_118 rfl ?_
                    refine x_callV Γ calv_X3_finding wl_X3_48 dX3_swap_119 (m_X3_finding (g := g) (T := T) (T2 := T2) (T3 := T3) (R := R) (X := X) (f := 4) (by decide)) rfl (by decide) (by decide) (by rfl) rfl rfl rfl (Nat.le_of_ble_eq_true rfl) (Nat.le_refl _) (Nat.le_refl _) ?_
                    exact x_iretx ρ rfl dX3_swap_122 rfl (by rw [hf]; try rfl) (cQ_i (by rw [tSwp, hf]; try rfl) rfl (vis_e (by rw [hf]; try rfl)))
        · have q1 := c_4
          refine x_aload_n Γ dX3_swap_46 rfl ?_
          refine gf_X3_10 Γ dX3_swap_47 (by decide) (by rfl) rfl ?_
          refine gf_X3_119 Γ dX3_swap_50 (by decide) (by rfl) rfl ?_
          refine x_iload_n Γ dX3_swap_53 rfl ?_
          refine x_iald Γ dX3_swap_54 (by decide) (by rfl) rfl (by first | assumption | omega) (by decide) rfl ?_
          refine x_iconst Γ (v := 2) dX3_swap_55 rfl ?_
          refine x_icmp_eq Γ (tgt := 85) dX3_swap_56 (by decide) (fun c_12 => ?_) (fun c_12 => ?_)
          · have h3 : T 5 j + T 5 i = 3 := by rw [q1, c_12]; decide
            refine x_iconst Γ (v := 1) dX3_swap_85 rfl ?_
            refine x_goto Γ (tgt := 90) dX3_swap_86 (by decide) ?_
            refine x_istore_n Γ dX3_swap_90 (by decide) ?_
            refine x_iload_n Γ dX3_swap_91 rfl ?_
            refine x_if_eq Γ (tgt := 117) dX3_swap_92 (by decide) (fun c_13 => ?_) (fun c_13 => ?_)
            · exact absurd c_13 (by decide)
            · refine x_aload_n Γ dX3_swap_95 rfl ?_
              refine gf_X3_10 Γ dX3_swap_96 (by decide) (by rfl) rfl ?_
              refine x_iload_n Γ dX3_swap_99 rfl ?_
              refine x_callV Γ calv_X0_wantsOther wl_X3_122 dX3_swap_100 (cM1 (m_X0_wantsOther (g := cW g T T2 T3 R X) (b := 1) (T := T) (by omega) j (by omega) eh hh9)) rfl (by decide) (by decide) (by rfl) rfl rfl rfl (Nat.le_of_ble_eq_true rfl) (Nat.le_refl _) (Nat.le_refl _) ?_
              refine x_if_eq Γ (tgt := 117) dX3_swap_103 (by decide) (fun c_14 => ?_) (fun c_14 => ?_)
              · have c_14 := zb_0.mp c_14
                have hno : ¬ (T 5 j + T 5 i = 3 ∧ wo T j = true ∧ wo T i = true) := fun z => by rw [c_14] at z; cases z.2.1
                have hf : fSwp T (nI j) (nI i) = 4 := by rw [fSwp, if_pos ⟨hsj, hsi, hxy⟩, ej, ei, if_neg hno]
                refine x_aload_n Γ dX3_swap_117 rfl ?_
                refine x_iconst Γ (v := 4) dX3_swap_118 rfl ?_
                refine x_callV Γ calv_X3_finding wl_X3_48 dX3_swap_119 (m_X3_finding (g := g) (T := T) (T2 := T2) (T3 := T3) (R := R) (X := X) (f := 4) (by decide)) rfl (by decide) (by decide) (by rfl) rfl rfl rfl (Nat.le_of_ble_eq_true rfl) (Nat.le_refl _) (Nat.le_refl _) ?_
                exact x_iretx ρ rfl dX3_swap_122 rfl (by rw [hf]; try rfl) (cQ_i (by rw [tSwp, hf]; try rfl) rfl (vis_e (by rw [hf]; try rfl)))
              · have c_14 := zb_n0.mp c_14
                have hwj := c_14
                refine x_aload_n Γ dX3_swap_106 rfl ?_
                refine gf_X3_10 Γ dX3_swap_107 (by decide) (by rfl) rfl ?_
                refine x_iload_n Γ dX3_swap_110 rfl ?_
                refine x_callV Γ calv_X0_wantsOther wl_X3_122 dX3_swap_111 (cM1 (m_X0_wantsOther (g := cW g T T2 T3 R X) (b := 1) (T := T) (by omega) i (by omega) ehi ii9)) rfl (by decide) (by decide) (by rfl) rfl rfl rfl (Nat.le_of_ble_eq_true rfl) (Nat.le_refl _) (Nat.le_refl _) ?_
                refine x_if_ne Γ (tgt := 123) dX3_swap_114 (by decide) (fun c_15 => ?_) (fun c_15 => ?_)
                · have c_15 := zb_n0.mp c_15
                  have hwi := c_15
                  have hf : fSwp T (nI j) (nI i) = 7 := by rw [fSwp, if_pos ⟨hsj, hsi, hxy⟩, ej, ei, if_pos ⟨h3, hwj, hwi⟩]
                  refine x_aload_n Γ dX3_swap_123 rfl ?_
                  refine gf_X3_10 Γ dX3_swap_124 (by decide) (by rfl) rfl ?_
                  refine x_iload_n Γ dX3_swap_127 rfl ?_
                  refine x_iload_n Γ dX3_swap_128 rfl ?_
                  refine x_callVv Γ calv_X0_exchange wl_X3_125 dX3_swap_129 (cM1 (m_X0_exchange (g := cW g T T2 T3 R X) (b := 1) (T := T) (by omega) j i (by omega) (by omega))) rfl (by decide) (by decide) (by rfl) rfl rfl rfl (Nat.le_of_ble_eq_true rfl) (Nat.le_refl _) (Nat.le_refl _) ?_
                  refine x_iconst Γ (v := 1) dX3_swap_132 rfl ?_
                  exact x_iretx ρ rfl dX3_swap_133 rfl (by rw [hf]; try rfl) (cQ_i (by rw [tSwp, if_pos hf, ej, ei]) rfl (vis_e (by rw [hf]; try rfl)))
                · have c_15 := zb_0.mp c_15
                  have hno : ¬ (T 5 j + T 5 i = 3 ∧ wo T j = true ∧ wo T i = true) := fun z => by rw [c_15] at z; cases z.2.2
                  have hf : fSwp T (nI j) (nI i) = 4 := by rw [fSwp, if_pos ⟨hsj, hsi, hxy⟩, ej, ei, if_neg hno]
                  refine x_aload_n Γ dX3_swap_117 rfl ?_
                  refine x_iconst Γ (v := 4) dX3_swap_118 rfl ?_
                  refine x_callV Γ calv_X3_finding wl_X3_48 dX3_swap_119 (m_X3_finding (g := g) (T := T) (T2 := T2) (T3 := T3) (R := R) (X := X) (f := 4) (by decide)) rfl (by decide) (by decide) (by rfl) rfl rfl rfl (Nat.le_of_ble_eq_true rfl) (Nat.le_refl _) (Nat.le_refl _) ?_
                  exact x_iretx ρ rfl dX3_swap_122 rfl (by rw [hf]; try rfl) (cQ_i (by rw [tSwp, hf]; try rfl) rfl (vis_e (by rw [hf]; try rfl)))
          · have n1 : ¬ (T 5 j = 1 ∧ T 5 i = 2) := fun z => c_12 z.2
            refine x_aload_n Γ dX3_swap_59 rfl ?_
            refine gf_X3_10 Γ dX3_swap_60 (by decide) (by rfl) rfl ?_
            refine gf_X3_119 Γ dX3_swap_63 (by decide) (by rfl) rfl ?_
            refine x_iload_n Γ dX3_swap_66 rfl ?_
            refine x_iald Γ dX3_swap_67 (by decide) (by rfl) rfl (by first | assumption | omega) (by decide) rfl ?_
            refine x_iconst Γ (v := 2) dX3_swap_68 rfl ?_
            refine x_icmp_ne Γ (tgt := 89) dX3_swap_69 (by decide) (fun c_16 => ?_) (fun c_16 => ?_)
            · have n2 := sw3 (hT j hj) (hT i hi) n1 (fun z => c_16 z.1)
              refine x_iconst Γ (v := 0) dX3_swap_89 rfl ?_
              refine x_istore_n Γ dX3_swap_90 (by decide) ?_
              refine x_iload_n Γ dX3_swap_91 rfl ?_
              refine x_if_eq Γ (tgt := 117) dX3_swap_92 (by decide) (fun c_17 => ?_) (fun c_17 => ?_)
              · have hno : ¬ (T 5 j + T 5 i = 3 ∧ wo T j = true ∧ wo T i = true) := fun z => n2 z.1
                have hf : fSwp T (nI j) (nI i) = 4 := by rw [fSwp, if_pos ⟨hsj, hsi, hxy⟩, ej, ei, if_neg hno]
                refine x_aload_n Γ dX3_swap_117 rfl ?_
                refine x_iconst Γ (v := 4) dX3_swap_118 rfl ?_
                refine x_callV Γ calv_X3_finding wl_X3_48 dX3_swap_119 (m_X3_finding (g := g) (T := T) (T2 := T2) (T3 := T3) (R := R) (X := X) (f := 4) (by decide)) rfl (by decide) (by decide) (by rfl) rfl rfl rfl (Nat.le_of_ble_eq_true rfl) (Nat.le_refl _) (Nat.le_refl _) ?_
                exact x_iretx ρ rfl dX3_swap_122 rfl (by rw [hf]; try rfl) (cQ_i (by rw [tSwp, hf]; try rfl) rfl (vis_e (by rw [hf]; try rfl)))
              · exact absurd rfl c_17
            · have q1 := c_16
              refine x_aload_n Γ dX3_swap_72 rfl ?_
              refine gf_X3_10 Γ dX3_swap_73 (by decide) (by rfl) rfl ?_
              refine gf_X3_119 Γ dX3_swap_76 (by decide) (by rfl) rfl ?_
              refine x_iload_n Γ dX3_swap_79 rfl ?_
              refine x_iald Γ dX3_swap_80 (by decide) (by rfl) rfl (by first | assumption | omega) (by decide) rfl ?_
              refine x_iconst Γ (v := 1) dX3_swap_81 rfl ?_
              refine x_icmp_ne Γ (tgt := 89) dX3_swap_82 (by decide) (fun c_18 => ?_) (fun c_18 => ?_)
              · have n2 := sw3 (hT j hj) (hT i hi) n1 (fun z => c_18 z.2)
                refine x_iconst Γ (v := 0) dX3_swap_89 rfl ?_
                refine x_istore_n Γ dX3_swap_90 (by decide) ?_
                refine x_iload_n Γ dX3_swap_91 rfl ?_
                refine x_if_eq Γ (tgt := 117) dX3_swap_92 (by decide) (fun c_19 => ?_) (fun c_19 => ?_)
                · have hno : ¬ (T 5 j + T 5 i = 3 ∧ wo T j = true ∧ wo T i = true) := fun z => n2 z.1
                  have hf : fSwp T (nI j) (nI i) = 4 := by rw [fSwp, if_pos ⟨hsj, hsi, hxy⟩, ej, ei, if_neg hno]
                  refine x_aload_n Γ dX3_swap_117 rfl ?_
                  refine x_iconst Γ (v := 4) dX3_swap_118 rfl ?_
                  refine x_callV Γ calv_X3_finding wl_X3_48 dX3_swap_119 (m_X3_finding (g := g) (T := T) (T2 := T2) (T3 := T3) (R := R) (X := X) (f := 4) (by decide)) rfl (by decide) (by decide) (by rfl) rfl rfl rfl (Nat.le_of_ble_eq_true rfl) (Nat.le_refl _) (Nat.le_refl _) ?_
                  exact x_iretx ρ rfl dX3_swap_122 rfl (by rw [hf]; try rfl) (cQ_i (by rw [tSwp, hf]; try rfl) rfl (vis_e (by rw [hf]; try rfl)))
                · exact absurd rfl c_19
              · have h3 : T 5 j + T 5 i = 3 := by rw [q1, c_18]; decide
                refine x_iconst Γ (v := 1) dX3_swap_85 rfl ?_
                refine x_goto Γ (tgt := 90) dX3_swap_86 (by decide) ?_
                refine x_istore_n Γ dX3_swap_90 (by decide) ?_
                refine x_iload_n Γ dX3_swap_91 rfl ?_
                refine x_if_eq Γ (tgt := 117) dX3_swap_92 (by decide) (fun c_20 => ?_) (fun c_20 => ?_)
                · exact absurd c_20 (by decide)
                · refine x_aload_n Γ dX3_swap_95 rfl ?_
                  refine gf_X3_10 Γ dX3_swap_96 (by decide) (by rfl) rfl ?_
                  refine x_iload_n Γ dX3_swap_99 rfl ?_
                  refine x_callV Γ calv_X0_wantsOther wl_X3_122 dX3_swap_100 (cM1 (m_X0_wantsOther (g := cW g T T2 T3 R X) (b := 1) (T := T) (by omega) j (by omega) eh hh9)) rfl (by decide) (by decide) (by rfl) rfl rfl rfl (Nat.le_of_ble_eq_true rfl) (Nat.le_refl _) (Nat.le_refl _) ?_
                  refine x_if_eq Γ (tgt := 117) dX3_swap_103 (by decide) (fun c_21 => ?_) (fun c_21 => ?_)
                  · have c_21 := zb_0.mp c_21
                    have hno : ¬ (T 5 j + T 5 i = 3 ∧ wo T j = true ∧ wo T i = true) := fun z => by rw [c_21] at z; cases z.2.1
                    have hf : fSwp T (nI j) (nI i) = 4 := by rw [fSwp, if_pos ⟨hsj, hsi, hxy⟩, ej, ei, if_neg hno]
                    refine x_aload_n Γ dX3_swap_117 rfl ?_
                    refine x_iconst Γ (v := 4) dX3_swap_118 rfl ?_
                    refine x_callV Γ calv_X3_finding wl_X3_48 dX3_swap_119 (m_X3_finding (g := g) (T := T) (T2 := T2) (T3 := T3) (R := R) (X := X) (f := 4) (by decide)) rfl (by decide) (by decide) (by rfl) rfl rfl rfl (Nat.le_of_ble_eq_true rfl) (Nat.le_refl _) (Nat.le_refl _) ?_
                    exact x_iretx ρ rfl dX3_swap_122 rfl (by rw [hf]; try rfl) (cQ_i (by rw [tSwp, hf]; try rfl) rfl (vis_e (by rw [hf]; try rfl)))
                  · have c_21 := zb_n0.mp c_21
                    have hwj := c_21
                    refine x_aload_n Γ dX3_swap_106 rfl ?_
                    refine gf_X3_10 Γ dX3_swap_107 (by decide) (by rfl) rfl ?_
                    refine x_iload_n Γ dX3_swap_110 rfl ?_
                    refine x_callV Γ calv_X0_wantsOther wl_X3_122 dX3_swap_111 (cM1 (m_X0_wantsOther (g := cW g T T2 T3 R X) (b := 1) (T := T) (by omega) i (by omega) ehi ii9)) rfl (by decide) (by decide) (by rfl) rfl rfl rfl (Nat.le_of_ble_eq_true rfl) (Nat.le_refl _) (Nat.le_refl _) ?_
                    refine x_if_ne Γ (tgt := 123) dX3_swap_114 (by decide) (fun c_22 => ?_) (fun c_22 => ?_)
                    · have c_22 := zb_n0.mp c_22
                      have hwi := c_22
                      have hf : fSwp T (nI j) (nI i) = 7 := by rw [fSwp, if_pos ⟨hsj, hsi, hxy⟩, ej, ei, if_pos ⟨h3, hwj, hwi⟩]
                      refine x_aload_n Γ dX3_swap_123 rfl ?_
                      refine gf_X3_10 Γ dX3_swap_124 (by decide) (by rfl) rfl ?_
                      refine x_iload_n Γ dX3_swap_127 rfl ?_
                      refine x_iload_n Γ dX3_swap_128 rfl ?_
                      refine x_callVv Γ calv_X0_exchange wl_X3_125 dX3_swap_129 (cM1 (m_X0_exchange (g := cW g T T2 T3 R X) (b := 1) (T := T) (by omega) j i (by omega) (by omega))) rfl (by decide) (by decide) (by rfl) rfl rfl rfl (Nat.le_of_ble_eq_true rfl) (Nat.le_refl _) (Nat.le_refl _) ?_
                      refine x_iconst Γ (v := 1) dX3_swap_132 rfl ?_
                      exact x_iretx ρ rfl dX3_swap_133 rfl (by rw [hf]; try rfl) (cQ_i (by rw [tSwp, if_pos hf, ej, ei]) rfl (vis_e (by rw [hf]; try rfl)))
                    · have c_22 := zb_0.mp c_22
                      have hno : ¬ (T 5 j + T 5 i = 3 ∧ wo T j = true ∧ wo T i = true) := fun z => by rw [c_22] at z; cases z.2.2
                      have hf : fSwp T (nI j) (nI i) = 4 := by rw [fSwp, if_pos ⟨hsj, hsi, hxy⟩, ej, ei, if_neg hno]
                      refine x_aload_n Γ dX3_swap_117 rfl ?_
                      refine x_iconst Γ (v := 4) dX3_swap_118 rfl ?_
                      refine x_callV Γ calv_X3_finding wl_X3_48 dX3_swap_119 (m_X3_finding (g := g) (T := T) (T2 := T2) (T3 := T3) (R := R) (X := X) (f := 4) (by decide)) rfl (by decide) (by decide) (by rfl) rfl rfl rfl (Nat.le_of_ble_eq_true rfl) (Nat.le_refl _) (Nat.le_refl _) ?_
                      exact x_iretx ρ rfl dX3_swap_122 rfl (by rw [hf]; try rfl) (cQ_i (by rw [tSwp, hf]; try rfl) rfl (vis_e (by rw [hf]; try rfl)))
      · have hf : fSwp T (nI j) (nI i) = 0 := if_neg (fun z => z.2.2 c_3)
        refine x_aload_n Γ dX3_swap_27 rfl ?_
        refine x_iconst Γ (v := 0) dX3_swap_28 rfl ?_
        refine x_callV Γ calv_X3_finding wl_X3_48 dX3_swap_29 (m_X3_finding (g := g) (T := T) (T2 := T2) (T3 := T3) (R := R) (X := X) (f := 0) (by decide)) rfl (by decide) (by decide) (by rfl) rfl rfl rfl (Nat.le_of_ble_eq_true rfl) (Nat.le_refl _) (Nat.le_refl _) ?_
        exact x_iretx ρ rfl dX3_swap_32 rfl (by rw [hf]; try rfl) (cQ_i (by rw [tSwp, hf]; try rfl) rfl (vis_e (by rw [hf]; try rfl)))

set_option maxRecDepth 100000 in
set_option maxHeartbeats 4000000 in
theorem m_X3_gates {g : Nat → zE} {T T2 T3 R : zT} {X : Nat → Int32} {N : Nat} (hN : wN T N) (hH : wH T N) : zMx 3 M_X3_gates [.ref 0] (cW g T T2 T3 R X) 46 (some (.int (nI (ogS T N N).2.2))) (cQ g (ogS T N N).1 T3 R) := by
  refine zMx.intro (by decide) (Nat.le_of_ble_eq_true rfl) ?_
  intro Wf V m H0 Γ ρ
  replace Γ : zC Wf V m 1 H0 cX3_gates RX3 3 0 0 := Γ
  show zX Wf V m 1 H0 0 (zls [(0, .ref 0)]) [] (cW g T T2 T3 R X) 46 0 0
  refine x_aload_n Γ dX3_gates_0 rfl ?_
  refine gf_X3_10 Γ dX3_gates_1 (by decide) (by rfl) rfl ?_
  refine x_callV Γ calv_X0_openGates wl_X3_128 dX3_gates_4 (cM1 (m_X0_openGates (g := cW g T T2 T3 R X) (b := 1) (T := T) (by omega) hN hH)) rfl (by decide) (by decide) (by rfl) rfl rfl rfl (Nat.le_of_ble_eq_true rfl) (Nat.le_refl _) (Nat.le_refl _) ?_
  exact x_iretx ρ rfl dX3_gates_7 rfl (rfl) (cQ_i rfl rfl vis_rf)

set_option maxRecDepth 100000 in
set_option maxHeartbeats 4000000 in
theorem m_X3_changes {g : Nat → zE} {T T2 T3 R : zT} {X : Nat → Int32} {N : Nat} (hN : wN T N) (hH : wH T N) : zMx 3 M_X3_changes [.ref 0] (cW g T T2 T3 R X) 46 (some (.int (nI (ogS T N N).2.2))) (cQ g T T3 (tr R 1 (mr T))) := by
  refine zMx.intro (by decide) (Nat.le_of_ble_eq_true rfl) ?_
  intro Wf V m H0 Γ ρ
  replace Γ : zC Wf V m 1 H0 cX3_changes RX3 3 0 0 := Γ
  show zX Wf V m 1 H0 0 (zls [(0, .ref 0)]) [] (cW g T T2 T3 R X) 46 0 0
  refine x_aload_n Γ dX3_changes_0 rfl ?_
  refine gf_X3_16 Γ dX3_changes_1 (by decide) (by rfl) rfl ?_
  refine x_aload_n Γ dX3_changes_4 rfl ?_
  refine gf_X3_10 Γ dX3_changes_5 (by decide) (by rfl) rfl ?_
  refine x_callVv Γ calv_X0_become wl_X3_131 dX3_changes_8 (bec91) rfl (by decide) (by decide) (by rfl) rfl rfl rfl (Nat.le_of_ble_eq_true rfl) (Nat.le_refl _) (Nat.le_refl _) ?_
  refine x_aload_n Γ dX3_changes_11 rfl ?_
  refine gf_X3_16 Γ dX3_changes_12 (by decide) (by rfl) rfl ?_
  refine x_callV Γ calv_X0_openGates wl_X3_128 dX3_changes_15 (cM9 (m_X0_openGates (g := cW g T T T3 R X) (b := 9) (T := T) (by omega) hN hH)) rfl (by decide) (by decide) (by rfl) rfl rfl rfl (Nat.le_of_ble_eq_true rfl) (Nat.le_refl _) (Nat.le_refl _) ?_
  exact x_iretx ρ rfl dX3_changes_18 rfl (rfl) (cQ_i rfl rfl vis_1)

set_option maxRecDepth 100000 in
set_option maxHeartbeats 4000000 in
theorem m_X3_buy {g : Nat → zE} {T T2 T3 R : zT} {X : Nat → Int32} {N : Nat} (hN : wN T N) (x y v : Int32) : zMx 3 M_X3_buy [.ref 0, .int x, .int y, .int v] (cW g T T2 T3 R X) 46 (some (.int (fr (fBuy T x y v) (tBuy T x y v 3 (ci x))))) (cQ g (tBuy T x y v) (T3) (fR R (fBuy T x y v))) := by
  refine zMx.intro (by decide) (Nat.le_of_ble_eq_true rfl) ?_
  intro Wf V m H0 Γ ρ
  replace Γ : zC Wf V m 5 H0 cX3_buy RX3 3 0 0 := Γ
  show zX Wf V m 5 H0 0 (zls [(0, .ref 0), (1, .int x), (2, .int y), (3, .int v)]) [] (cW g T T2 T3 R X) 46 0 0
  have hN2 := hN.2
  refine x_aload_n Γ dX3_buy_0 rfl ?_
  refine gf_X3_10 Γ dX3_buy_1 (by decide) (by rfl) rfl ?_
  refine x_iload_n Γ dX3_buy_4 rfl ?_
  refine x_callV Γ calv_X0_houses wl_X3_60 dX3_buy_5 (cM1 (m_X0_houses (g := cW g T T2 T3 R X) (b := 1) (T := T) (by omega) x)) rfl (by decide) (by decide) (by rfl) rfl rfl rfl (Nat.le_of_ble_eq_true rfl) (Nat.le_refl _) (Nat.le_refl _) ?_
  refine x_if_eq Γ (tgt := 31) dX3_buy_8 (by decide) (fun c_1 => ?_) (fun c_1 => ?_)
  · have c_1 := zb_0.mp c_1
    refine x_iconst Γ (v := 0) dX3_buy_31 rfl ?_
    refine x_istore Γ dX3_buy_32 (by decide) ?_
    refine x_iload Γ dX3_buy_34 rfl ?_
    refine x_if_eq Γ (tgt := 50) dX3_buy_36 (by decide) (fun c_2 => ?_) (fun c_2 => ?_)
    · refine x_aload_n Γ dX3_buy_50 rfl ?_
      refine x_iconst Γ (v := 0) dX3_buy_51 rfl ?_
      refine x_callV Γ calv_X3_finding wl_X3_48 dX3_buy_52 (m_X3_finding (g := g) (T := T) (T2 := T2) (T3 := T3) (R := R) (X := X) (f := 0) (by decide)) rfl (by decide) (by decide) (by rfl) rfl rfl rfl (Nat.le_of_ble_eq_true rfl) (Nat.le_refl _) (Nat.le_refl _) ?_
      exact x_iretx ρ rfl dX3_buy_55 rfl (by simp [fr, fBuy, inR, *]; try rfl) (cQ_i (by simp [fBuy, tBuy, inR, *]) rfl (vis_tr (vis_e (by simp [fR, fBuy, tBuy, inR, *])) vis_rf))
    · exact absurd rfl c_2
  · have c_1 := zb_n0.mp c_1
    obtain ⟨j, hj, rfl⟩ := hs_in hN c_1
    have ej : ci (nI j) = j := nI_clamp (by omega)
    refine x_aload_n Γ dX3_buy_11 rfl ?_
    refine gf_X3_10 Γ dX3_buy_12 (by decide) (by rfl) rfl ?_
    refine x_iload_n Γ dX3_buy_15 rfl ?_
    refine x_callV Γ calv_X0_houses wl_X3_60 dX3_buy_16 (cM1 (m_X0_houses (g := cW g T T2 T3 R X) (b := 1) (T := T) (by omega) y)) rfl (by decide) (by decide) (by rfl) rfl rfl rfl (Nat.le_of_ble_eq_true rfl) (Nat.le_refl _) (Nat.le_refl _) ?_
    refine x_if_eq Γ (tgt := 31) dX3_buy_19 (by decide) (fun c_3 => ?_) (fun c_3 => ?_)
    · have c_3 := zb_0.mp c_3
      refine x_iconst Γ (v := 0) dX3_buy_31 rfl ?_
      refine x_istore Γ dX3_buy_32 (by decide) ?_
      refine x_iload Γ dX3_buy_34 rfl ?_
      refine x_if_eq Γ (tgt := 50) dX3_buy_36 (by decide) (fun c_4 => ?_) (fun c_4 => ?_)
      · refine x_aload_n Γ dX3_buy_50 rfl ?_
        refine x_iconst Γ (v := 0) dX3_buy_51 rfl ?_
        refine x_callV Γ calv_X3_finding wl_X3_48 dX3_buy_52 (m_X3_finding (g := g) (T := T) (T2 := T2) (T3 := T3) (R := R) (X := X) (f := 0) (by decide)) rfl (by decide) (by decide) (by rfl) rfl rfl rfl (Nat.le_of_ble_eq_true rfl) (Nat.le_refl _) (Nat.le_refl _) ?_
        exact x_iretx ρ rfl dX3_buy_55 rfl (by simp [fr, fBuy, inR, *]; try rfl) (cQ_i (by simp [fBuy, tBuy, inR, *]) rfl (vis_tr (vis_e (by simp [fR, fBuy, tBuy, inR, *])) vis_rf))
      · exact absurd rfl c_4
    · have c_3 := zb_n0.mp c_3
      obtain ⟨i, hi, rfl⟩ := hs_in hN c_3
      have ei : ci (nI i) = i := nI_clamp (by omega)
      refine x_iload_n Γ dX3_buy_22 rfl ?_
      refine x_iload_n Γ dX3_buy_23 rfl ?_
      refine x_icmp_eq Γ (tgt := 31) dX3_buy_24 (by decide) (fun c_5 => ?_) (fun c_5 => ?_)
      · have hxy := c_5
        refine x_iconst Γ (v := 0) dX3_buy_31 rfl ?_
        refine x_istore Γ dX3_buy_32 (by decide) ?_
        refine x_iload Γ dX3_buy_34 rfl ?_
        refine x_if_eq Γ (tgt := 50) dX3_buy_36 (by decide) (fun c_6 => ?_) (fun c_6 => ?_)
        · refine x_aload_n Γ dX3_buy_50 rfl ?_
          refine x_iconst Γ (v := 0) dX3_buy_51 rfl ?_
          refine x_callV Γ calv_X3_finding wl_X3_48 dX3_buy_52 (m_X3_finding (g := g) (T := T) (T2 := T2) (T3 := T3) (R := R) (X := X) (f := 0) (by decide)) rfl (by decide) (by decide) (by rfl) rfl rfl rfl (Nat.le_of_ble_eq_true rfl) (Nat.le_refl _) (Nat.le_refl _) ?_
          exact x_iretx ρ rfl dX3_buy_55 rfl (by simp [fr, fBuy, inR, *]; try rfl) (cQ_i (by simp [fBuy, tBuy, inR, *]) rfl (vis_tr (vis_e (by simp [fR, fBuy, tBuy, inR, *])) vis_rf))
        · exact absurd rfl c_6
      · have hxy := c_5
        refine x_iconst Γ (v := 1) dX3_buy_27 rfl ?_
        refine x_goto Γ (tgt := 32) dX3_buy_28 (by decide) ?_
        refine x_istore Γ dX3_buy_32 (by decide) ?_
        refine x_iload Γ dX3_buy_34 rfl ?_
        refine x_if_eq Γ (tgt := 50) dX3_buy_36 (by decide) (fun c_7 => ?_) (fun c_7 => ?_)
        · exact absurd c_7 (by decide)
        · refine x_iload_n Γ dX3_buy_39 rfl ?_
          refine x_iconst Γ (v := 1) dX3_buy_40 rfl ?_
          refine x_icmp_lt Γ (tgt := 50) dX3_buy_41 (by decide) (fun c_8 => ?_) (fun c_8 => ?_)
          · refine x_aload_n Γ dX3_buy_50 rfl ?_
            refine x_iconst Γ (v := 0) dX3_buy_51 rfl ?_
            refine x_callV Γ calv_X3_finding wl_X3_48 dX3_buy_52 (m_X3_finding (g := g) (T := T) (T2 := T2) (T3 := T3) (R := R) (X := X) (f := 0) (by decide)) rfl (by decide) (by decide) (by rfl) rfl rfl rfl (Nat.le_of_ble_eq_true rfl) (Nat.le_refl _) (Nat.le_refl _) ?_
            exact x_iretx ρ rfl dX3_buy_55 rfl (by simp [fr, fBuy, inR, *]; try rfl) (cQ_i (by simp [fBuy, tBuy, inR, *]) rfl (vis_tr (vis_e (by simp [fR, fBuy, tBuy, inR, *])) vis_rf))
          · refine x_iload_n Γ dX3_buy_44 rfl ?_
            refine x_bipush Γ (v := 99) dX3_buy_45 rfl ?_
            refine x_icmp_le Γ (tgt := 56) dX3_buy_47 (by decide) (fun c_9 => ?_) (fun c_9 => ?_)
            · have c_9 := Int32.not_lt.mpr c_9
              refine x_aload_n Γ dX3_buy_56 rfl ?_
              refine gf_X3_10 Γ dX3_buy_57 (by decide) (by rfl) rfl ?_
              refine x_iload_n Γ dX3_buy_60 rfl ?_
              refine x_iload_n Γ dX3_buy_61 rfl ?_
              refine x_iload_n Γ dX3_buy_62 rfl ?_
              refine x_callV Γ calv_X0_wouldTrade wl_X3_135 dX3_buy_63 (cM1 (m_X0_wouldTrade (g := cW g T T2 T3 R X) (b := 1) (T := T) (by omega) j i (by omega) (by omega) v)) rfl (by decide) (by decide) (by rfl) rfl rfl rfl (Nat.le_of_ble_eq_true rfl) (Nat.le_refl _) (Nat.le_refl _) ?_
              refine x_if_ne Γ (tgt := 75) dX3_buy_66 (by decide) (fun c_10 => ?_) (fun c_10 => ?_)
              · have c_10 := zb_n0.mp c_10
                refine x_aload_n Γ dX3_buy_75 rfl ?_
                refine gf_X3_10 Γ dX3_buy_76 (by decide) (by rfl) rfl ?_
                refine x_iload_n Γ dX3_buy_79 rfl ?_
                refine x_iload_n Γ dX3_buy_80 rfl ?_
                refine x_iload_n Γ dX3_buy_81 rfl ?_
                refine x_callVv Γ calv_X0_trade wl_X3_139 dX3_buy_82 (cM1 (m_X0_trade (g := cW g T T2 T3 R X) (b := 1) (T := T) (by omega) j i (by omega) (by omega) v)) rfl (by decide) (by decide) (by rfl) rfl rfl rfl (Nat.le_of_ble_eq_true rfl) (Nat.le_refl _) (Nat.le_refl _) ?_
                refine x_aload_n Γ dX3_buy_85 rfl ?_
                refine gf_X3_10 Γ dX3_buy_86 (by decide) (by rfl) rfl ?_
                refine gf_X3_142 Γ dX3_buy_89 (by decide) (by rfl) rfl ?_
                refine x_iload_n Γ dX3_buy_92 rfl ?_
                refine x_iald Γ dX3_buy_93 (by decide) (by rfl) rfl (by first | assumption | omega) (by decide) rfl ?_
                exact x_iretx ρ rfl dX3_buy_94 rfl (by simp [fr, fBuy, tBuy, inR, *]; try rfl) (cQ_i (by simp [fBuy, tBuy, inR, *]) rfl (vis_e (by simp [fR, fBuy, inR, *])))
              · have c_10 := zb_0.mp c_10
                refine x_aload_n Γ dX3_buy_69 rfl ?_
                refine x_iconst Γ (v := 4) dX3_buy_70 rfl ?_
                refine x_callV Γ calv_X3_finding wl_X3_48 dX3_buy_71 (m_X3_finding (g := g) (T := T) (T2 := T2) (T3 := T3) (R := R) (X := X) (f := 4) (by decide)) rfl (by decide) (by decide) (by rfl) rfl rfl rfl (Nat.le_of_ble_eq_true rfl) (Nat.le_refl _) (Nat.le_refl _) ?_
                exact x_iretx ρ rfl dX3_buy_74 rfl (by simp [fr, fBuy, inR, *]; try rfl) (cQ_i (by simp [fBuy, tBuy, inR, *]) rfl (vis_tr (vis_e (by simp [fR, fBuy, tBuy, inR, *])) vis_rf))
            · have c_9 := Int32.not_le.mp c_9
              refine x_aload_n Γ dX3_buy_50 rfl ?_
              refine x_iconst Γ (v := 0) dX3_buy_51 rfl ?_
              refine x_callV Γ calv_X3_finding wl_X3_48 dX3_buy_52 (m_X3_finding (g := g) (T := T) (T2 := T2) (T3 := T3) (R := R) (X := X) (f := 0) (by decide)) rfl (by decide) (by decide) (by rfl) rfl rfl rfl (Nat.le_of_ble_eq_true rfl) (Nat.le_refl _) (Nat.le_refl _) ?_
              exact x_iretx ρ rfl dX3_buy_55 rfl (by simp [fr, fBuy, inR, *]; try rfl) (cQ_i (by simp [fBuy, tBuy, inR, *]) rfl (vis_tr (vis_e (by simp [fR, fBuy, tBuy, inR, *])) vis_rf))

set_option maxRecDepth 100000 in
set_option maxHeartbeats 4000000 in
theorem m_X3_welfare {g : Nat → zE} {T T2 T3 R : zT} {X : Nat → Int32} {N : Nat} (hN : wN T N) : zMx 3 M_X3_welfare [.ref 0] (cW g T T2 T3 R X) 46 (some (.int (sumW (fun c => tw T c (T 5 c)) N))) (cQ g T T3 R) := by
  refine zMx.intro (by decide) (Nat.le_of_ble_eq_true rfl) ?_
  intro Wf V m H0 Γ ρ
  replace Γ : zC Wf V m 1 H0 cX3_welfare RX3 3 0 0 := Γ
  show zX Wf V m 1 H0 0 (zls [(0, .ref 0)]) [] (cW g T T2 T3 R X) 46 0 0
  refine x_aload_n Γ dX3_welfare_0 rfl ?_
  refine gf_X3_10 Γ dX3_welfare_1 (by decide) (by rfl) rfl ?_
  refine x_callV Γ calv_X0_allWorth wl_X3_145 dX3_welfare_4 (cM1 (m_X0_allWorth (g := cW g T T2 T3 R X) (b := 1) (T := T) (by omega) hN)) rfl (by decide) (by decide) (by rfl) rfl rfl rfl (Nat.le_of_ble_eq_true rfl) (Nat.le_refl _) (Nat.le_refl _) ?_
  exact x_iretx ρ rfl dX3_welfare_7 rfl (rfl) (cQ_i rfl rfl vis_rf)

set_option maxRecDepth 100000 in
set_option maxHeartbeats 4000000 in
theorem m_X3_price {g : Nat → zE} {T T2 T3 R : zT} {X : Nat → Int32} {N : Nat} (hN : wN T N) : zMx 2 M_X3_price [.ref 0] (cW g T T2 T3 R X) 46 (some (.int (fr (fPri T N) (rPri T N)))) (cQ g (T) (T3) (fR R (fPri T N))) := by
  refine zMx.intro (by decide) (Nat.le_of_ble_eq_true rfl) ?_
  intro Wf V m H0 Γ ρ
  replace Γ : zC Wf V m 3 H0 cX3_price RX3 2 0 0 := Γ
  show zX Wf V m 3 H0 0 (zls [(0, .ref 0)]) [] (cW g T T2 T3 R X) 46 0 0
  have hN2 := hN.2
  obtain ⟨kk, hkk, ekk⟩ := setW_lt T 1 N hN2
  refine x_aload_n Γ dX3_price_0 rfl ?_
  refine gf_X3_10 Γ dX3_price_1 (by decide) (by rfl) rfl ?_
  refine x_iconst Γ (v := 2) dX3_price_4 rfl ?_
  refine x_callV Γ calv_X0_holders wl_X3_106 dX3_price_5 (cM1 (m_X0_holders (g := cW g T T2 T3 R X) (b := 1) (T := T) (by omega) hN 2)) rfl (by decide) (by decide) (by rfl) rfl rfl rfl (Nat.le_of_ble_eq_true rfl) (Nat.le_refl _) (Nat.le_refl _) ?_
  refine x_if_ne Γ (tgt := 17) dX3_price_8 (by decide) (fun c_1 => ?_) (fun c_1 => ?_)
  · refine x_aload_n Γ dX3_price_17 rfl ?_
    refine gf_X3_10 Γ dX3_price_18 (by decide) (by rfl) rfl ?_
    refine x_iconst Γ (v := 1) dX3_price_21 rfl ?_
    refine x_callV Γ calv_X0_holders wl_X3_106 dX3_price_22 (cM1 (m_X0_holders (g := cW g T T2 T3 R X) (b := 1) (T := T) (by omega) hN 1)) rfl (by decide) (by decide) (by rfl) rfl rfl rfl (Nat.le_of_ble_eq_true rfl) (Nat.le_refl _) (Nat.le_refl _) ?_
    rw [ekk]
    refine x_callS Γ cals_J6_bitCount_0f7a4 wl_X3_151 dX3_price_25 (m_bitCount (p2_le hN2 hkk)) rfl (by decide) rfl (Nat.le_of_ble_eq_true rfl) (Nat.le_refl _) (Nat.le_refl _) ?_
    rw [← ekk]
    refine x_istore_n Γ dX3_price_28 (by decide) ?_
    refine x_iconst Γ (v := 0) dX3_price_29 rfl ?_
    refine x_istore_n Γ dX3_price_30 (by decide) ?_
    suffices L_31 : ∀ (f k c : Nat), k < f → c + k = 100 → prS T N (many (setW T 1 N)) k c = prS T N (many (setW T 1 N)) 100 0 → zX Wf V m 3 H0 31 (zls [(0, .ref 0), (1, .int (many (setW T 1 N))), (2, .int (nI c))]) [] (cW g T T2 T3 R X) 46 0 0 by
      exact x_subl [(0, .ref 0), (1, .int (many (setW T 1 N))), (2, .int (nI 0))] (List.forall_mem_cons.mpr ⟨rfl, List.forall_mem_cons.mpr ⟨rfl, List.forall_mem_cons.mpr ⟨rfl, fun _ hz => absurd hz List.not_mem_nil⟩⟩⟩) (L_31 101 100 0 (by omega) (by omega) rfl)
    intro f
    induction f with
    | zero => intro k c q1; omega
    | succ f ih =>
      intro k c q1 q2 q3
      refine x_iload_n Γ dX3_price_31 rfl ?_
      refine x_bipush Γ (v := 99) dX3_price_32 rfl ?_
      refine x_icmp_gt Γ (tgt := 57) dX3_price_34 (by decide) (fun c_2 => ?_) (fun c_2 => ?_)
      · have c_2 := z_lt (a := 99) c_2 (by omega) (by omega)
        obtain rfl : k = 0 := by omega
        have h5 : prS T N (many (setW T 1 N)) 100 0 = none := q3.symm
        clear q3
        refine x_aload_n Γ dX3_price_57 rfl ?_
        refine x_iconst Γ (v := 3) dX3_price_58 rfl ?_
        refine x_callV Γ calv_X3_finding wl_X3_48 dX3_price_59 (m_X3_finding (g := g) (T := T) (T2 := T2) (T3 := T3) (R := R) (X := X) (f := 3) (by decide)) rfl (by decide) (by decide) (by rfl) rfl rfl rfl (Nat.le_of_ble_eq_true rfl) (Nat.le_refl _) (Nat.le_refl _) ?_
        exact x_iretx ρ rfl dX3_price_62 rfl (by clear ekk; simp [fr, fPri, rPri, oF, oR, *]; try rfl) (cQ_i rfl rfl (vis_e (by clear ekk; simp [fR, fPri, oF, *])))
      · have c_2 := z_nlt (a := 99) c_2 (by omega) (by omega)
        obtain ⟨k1, rfl⟩ : ∃ k1, k = k1 + 1 := ⟨k - 1, by omega⟩
        refine x_aload_n Γ dX3_price_37 rfl ?_
        refine gf_X3_10 Γ dX3_price_38 (by decide) (by rfl) rfl ?_
        refine x_iload_n Γ dX3_price_41 rfl ?_
        refine x_callV Γ calv_X0_preferLoafAt wl_X3_156 dX3_price_42 (cM1 (m_X0_preferLoafAt (g := cW g T T2 T3 R X) (b := 1) (T := T) (by omega) hN (nI c))) rfl (by decide) (by decide) (by rfl) rfl rfl rfl (Nat.le_of_ble_eq_true rfl) (Nat.le_refl _) (Nat.le_refl _) ?_
        refine x_iload_n Γ dX3_price_45 rfl ?_
        refine x_icmp_lt Γ (tgt := 51) dX3_price_46 (by decide) (fun c_3 => ?_) (fun c_3 => ?_)
        · have q4 : prS T N (many (setW T 1 N)) (k1 + 1) c = prS T N (many (setW T 1 N)) k1 (c + 1) := if_pos c_3
          refine x_iinc Γ dX3_price_51 rfl (by first | exact zinc _ | rfl) (by decide) ?_
          refine x_goto Γ (tgt := 31) dX3_price_54 (by decide) ?_
          exact x_subl [(0, .ref 0), (1, .int (many (setW T 1 N))), (2, .int (nI (c + 1)))] (List.forall_mem_cons.mpr ⟨rfl, List.forall_mem_cons.mpr ⟨rfl, List.forall_mem_cons.mpr ⟨rfl, fun _ hz => absurd hz List.not_mem_nil⟩⟩⟩) (ih k1 (c + 1) (by omega) (by omega) (q4.symm.trans q3))
        · have q4 : prS T N (many (setW T 1 N)) (k1 + 1) c = some c := if_neg c_3
          have h5 : prS T N (many (setW T 1 N)) 100 0 = some c := q3.symm.trans q4
          clear q3 q4
          refine x_iload_n Γ dX3_price_49 rfl ?_
          exact x_iretx ρ rfl dX3_price_50 rfl (by clear ekk; simp [fr, fPri, rPri, oF, oR, *]; try rfl) (cQ_i rfl rfl (vis_e (by clear ekk; simp [fR, fPri, oF, *])))
  · refine x_aload_n Γ dX3_price_11 rfl ?_
    refine x_iconst Γ (v := 3) dX3_price_12 rfl ?_
    refine x_callV Γ calv_X3_finding wl_X3_48 dX3_price_13 (m_X3_finding (g := g) (T := T) (T2 := T2) (T3 := T3) (R := R) (X := X) (f := 3) (by decide)) rfl (by decide) (by decide) (by rfl) rfl rfl rfl (Nat.le_of_ble_eq_true rfl) (Nat.le_refl _) (Nat.le_refl _) ?_
    exact x_iretx ρ rfl dX3_price_16 rfl (by clear ekk; simp [fr, fPri, rPri, oF, oR, *]; try rfl) (cQ_i rfl rfl (vis_e (by clear ekk; simp [fR, fPri, oF, *])))
