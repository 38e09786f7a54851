set_option maxRecDepth 100000 in
set_option maxHeartbeats 4000000 in
theorem m_X4_finds {g : Nat → zE} {T R : zT} {f : Int32} {k : Nat} (hf : -1000001 - f = nI k) (hk : k < 7) : zM 0 M_X4_finds [.ref 37, .int f] (hR g T R) 46 (some (.int f)) (hR g T (ts R 2 k (R 2 k + 1))) 46 0 0 := by
  refine zM.intro (by decide) (Nat.le_of_ble_eq_true rfl) ?_
  intro Wf V m H0 Γ ρ
  replace Γ : zC Wf V m 2 H0 cX4_finds RX4 0 0 0 := Γ
  show zX Wf V m 2 H0 0 (zls [(0, .ref 37), (1, .int f)]) [] (hR g T R) 46 0 0
  refine x_aload_n Γ dX4_finds_0 rfl ?_
  refine gf_X4_19 Γ dX4_finds_1 (by decide) rfl rfl ?_
  refine x_ldc Γ wl_X4_34 dX4_finds_4 ?_
  refine x_iload_n Γ dX4_finds_6 rfl ?_
  refine x_isub Γ dX4_finds_7 ?_
  refine x_dup2 Γ dX4_finds_8 rfl rfl ?_
  refine x_iald Γ dX4_finds_9 (by decide) (by rfl) hf hk (by decide) rfl ?_
  refine x_iconst Γ (v := 1) dX4_finds_10 rfl ?_
  refine x_iadd Γ dX4_finds_11 ?_
  refine x_iast Γ dX4_finds_12 (by decide) (by rfl) hf hk (by decide) hR_u2 ?_
  refine x_iload_n Γ dX4_finds_13 rfl ?_
  exact x_iret ρ rfl dX4_finds_14 rfl (rfl) rfl (zH.rf)

set_option maxRecDepth 100000 in
set_option maxHeartbeats 4000000 in
theorem m_X4_in {h : Nat → zE} (x lo hi : Int64) : zM 0 M_X4_in [.long x, .long lo, .long hi] (h) 46 (some (.int (zb (inI x.toInt lo.toInt hi.toInt)))) (h) 46 0 0 := by
  refine zM.intro (by decide) (Nat.le_of_ble_eq_true rfl) ?_
  intro Wf V m H0 Γ ρ
  replace Γ : zC Wf V m 6 H0 cX4_in RX4 0 0 0 := Γ
  show zX Wf V m 6 H0 0 (zls [(0, .long x), (2, .long lo), (4, .long hi)]) [] (h) 46 0 0
  refine x_lload_n Γ dX4_in_0 rfl ?_
  refine x_lload_n Γ dX4_in_1 rfl ?_
  refine x_lcmp Γ dX4_in_2 ?_
  refine x_if_lt Γ (tgt := 17) dX4_in_3 (by decide) (fun c_1 => ?_) (fun c_1 => ?_)
  · have c_1 := lgc_lt.mp c_1
    refine x_iconst Γ (v := 0) dX4_in_17 rfl ?_
    exact x_iret ρ rfl dX4_in_18 (by first | exact zb_nz _ | rfl) (by first | (rw [show inI x.toInt lo.toInt hi.toInt = false from Bool.eq_false_iff.mpr (fun z => by simp only [inI, Bool.and_eq_true, decide_eq_true_eq] at z; omega)]; rfl) | (rw [show inI x.toInt lo.toInt hi.toInt = true from by simp only [inI, Bool.and_eq_true, decide_eq_true_eq]; omega]; rfl)) rfl (zH.rf)
  · have c_1 : ¬ x.toInt < lo.toInt := fun z => c_1 (lgc_lt.mpr z)
    refine x_lload_n Γ dX4_in_6 rfl ?_
    refine x_lload Γ dX4_in_7 rfl ?_
    refine x_lcmp Γ dX4_in_9 ?_
    refine x_if_gt Γ (tgt := 17) dX4_in_10 (by decide) (fun c_2 => ?_) (fun c_2 => ?_)
    · have c_2 := lgc_gt.mp c_2
      refine x_iconst Γ (v := 0) dX4_in_17 rfl ?_
      exact x_iret ρ rfl dX4_in_18 (by first | exact zb_nz _ | rfl) (by first | (rw [show inI x.toInt lo.toInt hi.toInt = false from Bool.eq_false_iff.mpr (fun z => by simp only [inI, Bool.and_eq_true, decide_eq_true_eq] at z; omega)]; rfl) | (rw [show inI x.toInt lo.toInt hi.toInt = true from by simp only [inI, Bool.and_eq_true, decide_eq_true_eq]; omega]; rfl)) rfl (zH.rf)
    · have c_2 : ¬ hi.toInt < x.toInt := fun z => c_2 (lgc_gt.mpr z)
      refine x_iconst Γ (v := 1) dX4_in_13 rfl ?_
      refine x_goto Γ (tgt := 18) dX4_in_14 (by decide) ?_
      exact x_iret ρ rfl dX4_in_18 (by first | exact zb_nz _ | rfl) (by first | (rw [show inI x.toInt lo.toInt hi.toInt = false from Bool.eq_false_iff.mpr (fun z => by simp only [inI, Bool.and_eq_true, decide_eq_true_eq] at z; omega)]; rfl) | (rw [show inI x.toInt lo.toInt hi.toInt = true from by simp only [inI, Bool.and_eq_true, decide_eq_true_eq]; omega]; rfl)) rfl (zH.rf)

set_option maxRecDepth 100000 in
set_option maxHeartbeats 4000000 in
theorem m_X4_isKind {h : Nat → zE} (x : Int32) : zM 1 M_X4_isKind [.int x] (h) 46 (some (.int (zb (isK x)))) (h) 46 0 0 := by
  refine zM.intro (by decide) (Nat.le_of_ble_eq_true rfl) ?_
  intro Wf V m H0 Γ ρ
  replace Γ : zC Wf V m 1 H0 cX4_isKind RX4 1 0 0 := Γ
  show zX Wf V m 1 H0 0 (zls [(0, .int x)]) [] (h) 46 0 0
  refine x_iload_n Γ dX4_isKind_0 rfl ?_
  refine x_i2l Γ dX4_isKind_1 ?_
  refine x_lconst Γ (v := 0) dX4_isKind_2 rfl ?_
  refine x_ldc2 Γ wl_X4_44 dX4_isKind_3 ?_
  refine x_callS Γ cals_X4_in wl_X4_40 dX4_isKind_6 (m_X4_in x.toInt64 0 6) rfl (by decide) rfl (Nat.le_of_ble_eq_true rfl) (Nat.le_refl _) (Nat.le_refl _) ?_
  exact x_iret ρ rfl dX4_isKind_9 (by first | exact zb_nz _ | rfl) (congrArg (fun p => some (Value.int (zb p))) (by rw [Int32.toInt_toInt64]; exact inI_isK.symm)) rfl (zH.rf)

set_option maxRecDepth 100000 in
set_option maxHeartbeats 4000000 in
theorem m_X4_isHunger {h : Nat → zE} (x : Int32) : zM 1 M_X4_isHunger [.int x] (h) 46 (some (.int (zb (inR x 0 9)))) (h) 46 0 0 := by
  refine zM.intro (by decide) (Nat.le_of_ble_eq_true rfl) ?_
  intro Wf V m H0 Γ ρ
  replace Γ : zC Wf V m 1 H0 cX4_isHunger RX4 1 0 0 := Γ
  show zX Wf V m 1 H0 0 (zls [(0, .int x)]) [] (h) 46 0 0
  refine x_iload_n Γ dX4_isHunger_0 rfl ?_
  refine x_i2l Γ dX4_isHunger_1 ?_
  refine x_lconst Γ (v := 0) dX4_isHunger_2 rfl ?_
  refine x_ldc2 Γ wl_X4_46 dX4_isHunger_3 ?_
  refine x_callS Γ cals_X4_in wl_X4_40 dX4_isHunger_6 (m_X4_in x.toInt64 0 9) rfl (by decide) rfl (Nat.le_of_ble_eq_true rfl) (Nat.le_refl _) (Nat.le_refl _) ?_
  exact x_iret ρ rfl dX4_isHunger_9 (by first | exact zb_nz _ | rfl) (congrArg (fun p => some (Value.int (zb p))) (by rw [Int32.toInt_toInt64]; exact inI_inR.symm)) rfl (zH.rf)

set_option maxRecDepth 100000 in
set_option maxHeartbeats 4000000 in
theorem m_X4_areWeeks {h : Nat → zE} (x : Int32) : zM 1 M_X4_areWeeks [.int x] (h) 46 (some (.int (zb (inR x 1 60)))) (h) 46 0 0 := by
  refine zM.intro (by decide) (Nat.le_of_ble_eq_true rfl) ?_
  intro Wf V m H0 Γ ρ
  replace Γ : zC Wf V m 1 H0 cX4_areWeeks RX4 1 0 0 := Γ
  show zX Wf V m 1 H0 0 (zls [(0, .int x)]) [] (h) 46 0 0
  refine x_iload_n Γ dX4_areWeeks_0 rfl ?_
  refine x_i2l Γ dX4_areWeeks_1 ?_
  refine x_lconst Γ (v := 1) dX4_areWeeks_2 rfl ?_
  refine x_ldc2 Γ wl_X4_48 dX4_areWeeks_3 ?_
  refine x_callS Γ cals_X4_in wl_X4_40 dX4_areWeeks_6 (m_X4_in x.toInt64 1 60) rfl (by decide) rfl (Nat.le_of_ble_eq_true rfl) (Nat.le_refl _) (Nat.le_refl _) ?_
  exact x_iret ρ rfl dX4_areWeeks_9 (by first | exact zb_nz _ | rfl) (congrArg (fun p => some (Value.int (zb p))) (by rw [Int32.toInt_toInt64]; exact inI_inR.symm)) rfl (zH.rf)

set_option maxRecDepth 100000 in
set_option maxHeartbeats 4000000 in
theorem m_X4_isSheet {h : Nat → zE} (x : Int32) : zM 1 M_X4_isSheet [.int x] (h) 46 (some (.int (zb (inR x 0 3)))) (h) 46 0 0 := by
  refine zM.intro (by decide) (Nat.le_of_ble_eq_true rfl) ?_
  intro Wf V m H0 Γ ρ
  replace Γ : zC Wf V m 1 H0 cX4_isSheet RX4 1 0 0 := Γ
  show zX Wf V m 1 H0 0 (zls [(0, .int x)]) [] (h) 46 0 0
  refine x_iload_n Γ dX4_isSheet_0 rfl ?_
  refine x_i2l Γ dX4_isSheet_1 ?_
  refine x_lconst Γ (v := 0) dX4_isSheet_2 rfl ?_
  refine x_ldc2 Γ wl_X4_81 dX4_isSheet_3 ?_
  refine x_callS Γ cals_X4_in wl_X4_40 dX4_isSheet_6 (m_X4_in x.toInt64 0 3) rfl (by decide) rfl (Nat.le_of_ble_eq_true rfl) (Nat.le_refl _) (Nat.le_refl _) ?_
  exact x_iret ρ rfl dX4_isSheet_9 (by first | exact zb_nz _ | rfl) (congrArg (fun p => some (Value.int (zb p))) (by rw [Int32.toInt_toInt64]; exact inI_inR.symm)) rfl (zH.rf)

set_option maxRecDepth 100000 in
set_option maxHeartbeats 4000000 in
theorem m_X4_isOne {g : Nat → zE} {T R : zT} {N : Nat} (hN : wN T N) (x : Int32) : zM 1 M_X4_isOne [.ref 37, .int x] (hR g T R) 46 (some (.int (zb (hs T x)))) (hR g T R) 46 0 0 := by
  refine zM.intro (by decide) (Nat.le_of_ble_eq_true rfl) ?_
  intro Wf V m H0 Γ ρ
  replace Γ : zC Wf V m 2 H0 cX4_isOne RX4 1 0 0 := Γ
  show zX Wf V m 2 H0 0 (zls [(0, .ref 37), (1, .int x)]) [] (hR g T R) 46 0 0
  refine x_iload_n Γ dX4_isOne_0 rfl ?_
  refine x_i2l Γ dX4_isOne_1 ?_
  refine x_lconst Γ (v := 0) dX4_isOne_2 rfl ?_
  refine x_aload_n Γ dX4_isOne_3 rfl ?_
  refine gf_X4_9 Γ dX4_isOne_4 (by decide) rfl rfl ?_
  refine x_bipush Γ (v := 8) dX4_isOne_7 rfl ?_
  refine x_iald Γ dX4_isOne_9 (by decide) (by rfl) (j := 8) rfl (by decide) (by decide) (mr_s (by decide)) ?_
  refine x_iconst Γ (v := 1) dX4_isOne_10 rfl ?_
  refine x_isub Γ dX4_isOne_11 ?_
  refine x_i2l Γ dX4_isOne_12 ?_
  refine x_callS Γ cals_X4_in wl_X4_40 dX4_isOne_13 (m_X4_in x.toInt64 0 ((T 7 8 - 1).toInt64)) rfl (by decide) rfl (Nat.le_of_ble_eq_true rfl) (Nat.le_refl _) (Nat.le_refl _) ?_
  exact x_iret ρ rfl dX4_isOne_16 (by first | exact zb_nz _ | rfl) (congrArg (fun p => some (Value.int (zb p))) (by rw [Int32.toInt_toInt64, Int32.toInt_toInt64]; exact (inI_hs hN).symm)) rfl (zH.rf)

set_option maxRecDepth 100000 in
set_option maxHeartbeats 4000000 in
theorem m_X4_isLate {g : Nat → zE} {T R : zT} (x : Int32) : zM 0 M_X4_isLate [.ref 37, .int x] (hR g T R) 46 (some (.int (zb (decide (999 < T 7 5 + x))))) (hR g T R) 46 0 0 := by
  refine zM.intro (by decide) (Nat.le_of_ble_eq_true rfl) ?_
  intro Wf V m H0 Γ ρ
  replace Γ : zC Wf V m 2 H0 cX4_isLate RX4 0 0 0 := Γ
  show zX Wf V m 2 H0 0 (zls [(0, .ref 37), (1, .int x)]) [] (hR g T R) 46 0 0
  refine x_aload_n Γ dX4_isLate_0 rfl ?_
  refine gf_X4_9 Γ dX4_isLate_1 (by decide) rfl rfl ?_
  refine x_iconst Γ (v := 5) dX4_isLate_4 rfl ?_
  refine x_iald Γ dX4_isLate_5 (by decide) (by rfl) (j := 5) rfl (by decide) (by decide) (mr_s (by decide)) ?_
  refine x_iload_n Γ dX4_isLate_6 rfl ?_
  refine x_iadd Γ dX4_isLate_7 ?_
  refine x_sipush Γ (v := 999) dX4_isLate_8 rfl ?_
  refine x_icmp_le Γ (tgt := 18) dX4_isLate_11 (by decide) (fun c_1 => ?_) (fun c_1 => ?_)
  · refine x_iconst Γ (v := 0) dX4_isLate_18 rfl ?_
    exact x_iret ρ rfl dX4_isLate_19 (by first | exact zb_nz _ | rfl) (by first | (simp [zb_0, zb, *]; done) | (exfalso; simp_all; done) | (simp [zb_0, zb, *]; simp only [Int32.lt_iff_toInt_lt, Int32.le_iff_toInt_le, zlt_0, zlt_1, zlt_2, zlt_3, zlt_4, zlt_5, zlt_6, zlt_7, zlt_8, zlt_9, zlt_10, zlt_11, zlt_12, zlt_30, zlt_39, zlt_40, zlt_59, zlt_60, zlt_61, zlt_98, zlt_99, zlt_100, zlt_119, zlt_120, zlt_998, zlt_999, zlt_9998, zlt_9999, zlt_m1] at *; omega)) rfl (zH.rf)
  · refine x_iconst Γ (v := 1) dX4_isLate_14 rfl ?_
    refine x_goto Γ (tgt := 19) dX4_isLate_15 (by decide) ?_
    exact x_iret ρ rfl dX4_isLate_19 (by first | exact zb_nz _ | rfl) (by first | (simp [zb_0, zb, *]; done) | (exfalso; simp_all; done) | (simp [zb_0, zb, *]; simp only [Int32.lt_iff_toInt_lt, Int32.le_iff_toInt_le, zlt_0, zlt_1, zlt_2, zlt_3, zlt_4, zlt_5, zlt_6, zlt_7, zlt_8, zlt_9, zlt_10, zlt_11, zlt_12, zlt_30, zlt_39, zlt_40, zlt_59, zlt_60, zlt_61, zlt_98, zlt_99, zlt_100, zlt_119, zlt_120, zlt_998, zlt_999, zlt_9998, zlt_9999, zlt_m1] at *; omega)) rfl (zH.rf)

set_option maxRecDepth 100000 in
set_option maxHeartbeats 4000000 in
theorem m_X4_is {g : Nat → zE} {T R : zT} {c w : Nat} (hc : c < 10) (hw : w < 6) : zM 0 M_X4_is [.ref 37, .int (nI c), .int (nI w)] (hR g T R) 46 (some (.int (T w c))) (hR g T R) 46 0 0 := by
  refine zM.intro (by decide) (Nat.le_of_ble_eq_true rfl) ?_
  intro Wf V m H0 Γ ρ
  replace Γ : zC Wf V m 3 H0 cX4_is RX4 0 0 0 := Γ
  show zX Wf V m 3 H0 0 (zls [(0, .ref 37), (1, .int (nI c)), (2, .int (nI w))]) [] (hR g T R) 46 0 0
  refine x_aload_n Γ dX4_is_0 rfl ?_
  refine gf_X4_9 Γ dX4_is_1 (by decide) rfl rfl ?_
  refine x_bipush Γ (v := 9) dX4_is_4 rfl ?_
  refine x_bipush Γ (v := 6) dX4_is_6 rfl ?_
  refine x_iload_n Γ dX4_is_8 rfl ?_
  refine x_imul Γ dX4_is_9 ?_
  refine x_iadd Γ dX4_is_10 ?_
  refine x_iload_n Γ dX4_is_11 rfl ?_
  refine x_iadd Γ dX4_is_12 ?_
  refine x_iald Γ dX4_is_13 (by decide) (by rfl) (ixc c w) (by omega) (by decide) (mr_c hw hc) ?_
  exact x_iret ρ rfl dX4_is_14 rfl (rfl) rfl (zH.rf)

set_option maxRecDepth 100000 in
set_option maxHeartbeats 4000000 in
theorem m_X4_makes {g : Nat → zE} {T R : zT} {c w : Nat} (hc : c < 10) (hw : w < 6) (v : Int32) : zM 0 M_X4_makes [.ref 37, .int (nI c), .int (nI w), .int v] (hR g T R) 46 (none) (hR g (ts T w c v) R) 46 0 0 := by
  refine zM.intro (by decide) (Nat.le_of_ble_eq_true rfl) ?_
  intro Wf V m H0 Γ ρ
  replace Γ : zC Wf V m 4 H0 cX4_makes RX4 0 0 0 := Γ
  show zX Wf V m 4 H0 0 (zls [(0, .ref 37), (1, .int (nI c)), (2, .int (nI w)), (3, .int v)]) [] (hR g T R) 46 0 0
  refine x_aload_n Γ dX4_makes_0 rfl ?_
  refine gf_X4_9 Γ dX4_makes_1 (by decide) rfl rfl ?_
  refine x_bipush Γ (v := 9) dX4_makes_4 rfl ?_
  refine x_bipush Γ (v := 6) dX4_makes_6 rfl ?_
  refine x_iload_n Γ dX4_makes_8 rfl ?_
  refine x_imul Γ dX4_makes_9 ?_
  refine x_iadd Γ dX4_makes_10 ?_
  refine x_iload_n Γ dX4_makes_11 rfl ?_
  refine x_iadd Γ dX4_makes_12 ?_
  refine x_iload_n Γ dX4_makes_13 rfl ?_
  refine x_iast Γ dX4_makes_14 (by decide) (by rfl) (ixc c w) (by omega) (by decide) (hR_mc hw hc) ?_
  exact x_vret ρ dX4_makes_15 (rfl) rfl (zH.rf)

set_option maxRecDepth 100000 in
set_option maxHeartbeats 4000000 in
theorem m_X4_becomes {g : Nat → zE} {T R : zT} {T2 : zT} {k : Nat} {v : Int32} (hk : k < 79) (hT : mr T2 = upd (mr T) k v) : zM 0 M_X4_becomes [.ref 37, .int (nI k), .int v] (hR g T R) 46 (some (.int (mr T k))) (hR g T2 R) 46 0 0 := by
  refine zM.intro (by decide) (Nat.le_of_ble_eq_true rfl) ?_
  intro Wf V m H0 Γ ρ
  replace Γ : zC Wf V m 4 H0 cX4_becomes RX4 0 0 0 := Γ
  show zX Wf V m 4 H0 0 (zls [(0, .ref 37), (1, .int (nI k)), (2, .int v)]) [] (hR g T R) 46 0 0
  refine x_aload_n Γ dX4_becomes_0 rfl ?_
  refine gf_X4_9 Γ dX4_becomes_1 (by decide) rfl rfl ?_
  refine x_iload_n Γ dX4_becomes_4 rfl ?_
  refine x_iald Γ dX4_becomes_5 (by decide) (by rfl) rfl (by first | assumption | omega) (by decide) rfl ?_
  refine x_istore_n Γ dX4_becomes_6 (by decide) ?_
  refine x_aload_n Γ dX4_becomes_7 rfl ?_
  refine gf_X4_9 Γ dX4_becomes_8 (by decide) rfl rfl ?_
  refine x_iload_n Γ dX4_becomes_11 rfl ?_
  refine x_iload_n Γ dX4_becomes_12 rfl ?_
  refine x_iast Γ dX4_becomes_13 (by decide) (by rfl) rfl (by first | assumption | omega) (by decide) (hR_mu hT) ?_
  refine x_iload_n Γ dX4_becomes_14 rfl ?_
  exact x_iret ρ rfl dX4_becomes_15 rfl (rfl) rfl (zH.rf)

set_option maxRecDepth 100000 in
set_option maxHeartbeats 4000000 in
theorem m_X4_loafWorth {g : Nat → zE} {T R : zT} {c : Nat} (hc : c < 10) : zM 1 M_X4_loafWorth [.ref 37, .int (nI c)] (hR g T R) 46 (some (.int (lw T c))) (hR g T R) 46 0 0 := by
  refine zM.intro (by decide) (Nat.le_of_ble_eq_true rfl) ?_
  intro Wf V m H0 Γ ρ
  replace Γ : zC Wf V m 4 H0 cX4_loafWorth RX4 1 0 0 := Γ
  show zX Wf V m 4 H0 0 (zls [(0, .ref 37), (1, .int (nI c))]) [] (hR g T R) 46 0 0
  refine x_aload_n Γ dX4_loafWorth_0 rfl ?_
  refine x_iload_n Γ dX4_loafWorth_1 rfl ?_
  refine x_iconst Γ (v := 1) dX4_loafWorth_2 rfl ?_
  refine x_callV Γ calv_X4_is wl_X4_63 dX4_loafWorth_3 (m_X4_is (g := g) (T := T) (R := R) (c := c) (w := 1) (by omega) (by decide)) rfl (by decide) (by decide) rfl rfl rfl rfl (Nat.le_of_ble_eq_true rfl) (Nat.le_refl _) (Nat.le_refl _) ?_
  refine x_istore_n Γ dX4_loafWorth_6 (by decide) ?_
  refine x_aload_n Γ dX4_loafWorth_7 rfl ?_
  refine gf_X4_9 Γ dX4_loafWorth_8 (by decide) rfl rfl ?_
  refine x_iconst Γ (v := 4) dX4_loafWorth_11 rfl ?_
  refine x_iald Γ dX4_loafWorth_12 (by decide) (by rfl) (j := 4) rfl (by decide) (by decide) (mr_s (by decide)) ?_
  refine x_iconst Γ (v := 1) dX4_loafWorth_13 rfl ?_
  refine x_icmp_ne Γ (tgt := 21) dX4_loafWorth_14 (by decide) (fun c_1 => ?_) (fun c_1 => ?_)
  · refine x_iconst Γ (v := 2) dX4_loafWorth_21 rfl ?_
    refine x_iload_n Γ dX4_loafWorth_22 rfl ?_
    refine x_imul Γ dX4_loafWorth_23 ?_
    refine x_istore_n Γ dX4_loafWorth_24 (by decide) ?_
    refine x_aload_n Γ dX4_loafWorth_25 rfl ?_
    refine x_iload_n Γ dX4_loafWorth_26 rfl ?_
    refine x_iconst Γ (v := 0) dX4_loafWorth_27 rfl ?_
    refine x_callV Γ calv_X4_is wl_X4_63 dX4_loafWorth_28 (m_X4_is (g := g) (T := T) (R := R) (c := c) (w := 0) (by omega) (by decide)) rfl (by decide) (by decide) rfl rfl rfl rfl (Nat.le_of_ble_eq_true rfl) (Nat.le_refl _) (Nat.le_refl _) ?_
    refine x_tab3 Γ (a0 := 4) (a1 := 5) (a2 := 6) (t0 := 56) (t1 := 60) (t2 := 62) (td := 64) dX4_loafWorth_31 (by decide +kernel) (fun c_2 => ?_) (fun c_2 => ?_) (fun c_2 => ?_) (fun c_2_0 c_2_1 c_2_2 => ?_)
    · refine x_iload_n Γ dX4_loafWorth_56 rfl ?_
      refine x_iconst Γ (v := 4) dX4_loafWorth_57 rfl ?_
      refine x_iadd Γ dX4_loafWorth_58 ?_
      exact x_iret ρ rfl dX4_loafWorth_59 rfl (by first | (simp [lw, bread, zb, *]; done) | (exfalso; simp_all; done) | (simp [lw, bread, zb, *]; simp only [Int32.lt_iff_toInt_lt, Int32.le_iff_toInt_le, zlt_0, zlt_1, zlt_2, zlt_3, zlt_4, zlt_5, zlt_6, zlt_7, zlt_8, zlt_9, zlt_10, zlt_11, zlt_12, zlt_30, zlt_39, zlt_40, zlt_59, zlt_60, zlt_61, zlt_98, zlt_99, zlt_100, zlt_119, zlt_120, zlt_998, zlt_999, zlt_9998, zlt_9999, zlt_m1] at *; omega)) rfl (zH.rf)
    · refine x_iconst Γ (v := 3) dX4_loafWorth_60 rfl ?_
      exact x_iret ρ rfl dX4_loafWorth_61 rfl (by first | (simp [lw, bread, zb, *]; done) | (exfalso; simp_all; done) | (simp [lw, bread, zb, *]; simp only [Int32.lt_iff_toInt_lt, Int32.le_iff_toInt_le, zlt_0, zlt_1, zlt_2, zlt_3, zlt_4, zlt_5, zlt_6, zlt_7, zlt_8, zlt_9, zlt_10, zlt_11, zlt_12, zlt_30, zlt_39, zlt_40, zlt_59, zlt_60, zlt_61, zlt_98, zlt_99, zlt_100, zlt_119, zlt_120, zlt_998, zlt_999, zlt_9998, zlt_9999, zlt_m1] at *; omega)) rfl (zH.rf)
    · refine x_iconst Γ (v := 4) dX4_loafWorth_62 rfl ?_
      exact x_iret ρ rfl dX4_loafWorth_63 rfl (by first | (simp [lw, bread, zb, *]; done) | (exfalso; simp_all; done) | (simp [lw, bread, zb, *]; simp only [Int32.lt_iff_toInt_lt, Int32.le_iff_toInt_le, zlt_0, zlt_1, zlt_2, zlt_3, zlt_4, zlt_5, zlt_6, zlt_7, zlt_8, zlt_9, zlt_10, zlt_11, zlt_12, zlt_30, zlt_39, zlt_40, zlt_59, zlt_60, zlt_61, zlt_98, zlt_99, zlt_100, zlt_119, zlt_120, zlt_998, zlt_999, zlt_9998, zlt_9999, zlt_m1] at *; omega)) rfl (zH.rf)
    · refine x_iload_n Γ dX4_loafWorth_64 rfl ?_
      exact x_iret ρ rfl dX4_loafWorth_65 rfl (by first | (simp [lw, bread, zb, *]; done) | (exfalso; simp_all; done) | (simp [lw, bread, zb, *]; simp only [Int32.lt_iff_toInt_lt, Int32.le_iff_toInt_le, zlt_0, zlt_1, zlt_2, zlt_3, zlt_4, zlt_5, zlt_6, zlt_7, zlt_8, zlt_9, zlt_10, zlt_11, zlt_12, zlt_30, zlt_39, zlt_40, zlt_59, zlt_60, zlt_61, zlt_98, zlt_99, zlt_100, zlt_119, zlt_120, zlt_998, zlt_999, zlt_9998, zlt_9999, zlt_m1] at *; omega)) rfl (zH.rf)
  · refine x_iload_n Γ dX4_loafWorth_17 rfl ?_
    refine x_goto Γ (tgt := 24) dX4_loafWorth_18 (by decide) ?_
    refine x_istore_n Γ dX4_loafWorth_24 (by decide) ?_
    refine x_aload_n Γ dX4_loafWorth_25 rfl ?_
    refine x_iload_n Γ dX4_loafWorth_26 rfl ?_
    refine x_iconst Γ (v := 0) dX4_loafWorth_27 rfl ?_
    refine x_callV Γ calv_X4_is wl_X4_63 dX4_loafWorth_28 (m_X4_is (g := g) (T := T) (R := R) (c := c) (w := 0) (by omega) (by decide)) rfl (by decide) (by decide) rfl rfl rfl rfl (Nat.le_of_ble_eq_true rfl) (Nat.le_refl _) (Nat.le_refl _) ?_
    refine x_tab3 Γ (a0 := 4) (a1 := 5) (a2 := 6) (t0 := 56) (t1 := 60) (t2 := 62) (td := 64) dX4_loafWorth_31 (by decide +kernel) (fun c_3 => ?_) (fun c_3 => ?_) (fun c_3 => ?_) (fun c_3_0 c_3_1 c_3_2 => ?_)
    · refine x_iload_n Γ dX4_loafWorth_56 rfl ?_
      refine x_iconst Γ (v := 4) dX4_loafWorth_57 rfl ?_
      refine x_iadd Γ dX4_loafWorth_58 ?_
      exact x_iret ρ rfl dX4_loafWorth_59 rfl (by first | (simp [lw, bread, zb, *]; done) | (exfalso; simp_all; done) | (simp [lw, bread, zb, *]; simp only [Int32.lt_iff_toInt_lt, Int32.le_iff_toInt_le, zlt_0, zlt_1, zlt_2, zlt_3, zlt_4, zlt_5, zlt_6, zlt_7, zlt_8, zlt_9, zlt_10, zlt_11, zlt_12, zlt_30, zlt_39, zlt_40, zlt_59, zlt_60, zlt_61, zlt_98, zlt_99, zlt_100, zlt_119, zlt_120, zlt_998, zlt_999, zlt_9998, zlt_9999, zlt_m1] at *; omega)) rfl (zH.rf)
    · refine x_iconst Γ (v := 3) dX4_loafWorth_60 rfl ?_
      exact x_iret ρ rfl dX4_loafWorth_61 rfl (by first | (simp [lw, bread, zb, *]; done) | (exfalso; simp_all; done) | (simp [lw, bread, zb, *]; simp only [Int32.lt_iff_toInt_lt, Int32.le_iff_toInt_le, zlt_0, zlt_1, zlt_2, zlt_3, zlt_4, zlt_5, zlt_6, zlt_7, zlt_8, zlt_9, zlt_10, zlt_11, zlt_12, zlt_30, zlt_39, zlt_40, zlt_59, zlt_60, zlt_61, zlt_98, zlt_99, zlt_100, zlt_119, zlt_120, zlt_998, zlt_999, zlt_9998, zlt_9999, zlt_m1] at *; omega)) rfl (zH.rf)
    · refine x_iconst Γ (v := 4) dX4_loafWorth_62 rfl ?_
      exact x_iret ρ rfl dX4_loafWorth_63 rfl (by first | (simp [lw, bread, zb, *]; done) | (exfalso; simp_all; done) | (simp [lw, bread, zb, *]; simp only [Int32.lt_iff_toInt_lt, Int32.le_iff_toInt_le, zlt_0, zlt_1, zlt_2, zlt_3, zlt_4, zlt_5, zlt_6, zlt_7, zlt_8, zlt_9, zlt_10, zlt_11, zlt_12, zlt_30, zlt_39, zlt_40, zlt_59, zlt_60, zlt_61, zlt_98, zlt_99, zlt_100, zlt_119, zlt_120, zlt_998, zlt_999, zlt_9998, zlt_9999, zlt_m1] at *; omega)) rfl (zH.rf)
    · refine x_iload_n Γ dX4_loafWorth_64 rfl ?_
      exact x_iret ρ rfl dX4_loafWorth_65 rfl (by first | (simp [lw, bread, zb, *]; done) | (exfalso; simp_all; done) | (simp [lw, bread, zb, *]; simp only [Int32.lt_iff_toInt_lt, Int32.le_iff_toInt_le, zlt_0, zlt_1, zlt_2, zlt_3, zlt_4, zlt_5, zlt_6, zlt_7, zlt_8, zlt_9, zlt_10, zlt_11, zlt_12, zlt_30, zlt_39, zlt_40, zlt_59, zlt_60, zlt_61, zlt_98, zlt_99, zlt_100, zlt_119, zlt_120, zlt_998, zlt_999, zlt_9998, zlt_9999, zlt_m1] at *; omega)) rfl (zH.rf)

set_option maxRecDepth 100000 in
set_option maxHeartbeats 4000000 in
theorem m_X4_seatWorth {g : Nat → zE} {T R : zT} {c : Nat} (hc : c < 10) : zM 1 M_X4_seatWorth [.ref 37, .int (nI c)] (hR g T R) 46 (some (.int (sw T c))) (hR g T R) 46 0 0 := by
  refine zM.intro (by decide) (Nat.le_of_ble_eq_true rfl) ?_
  intro Wf V m H0 Γ ρ
  replace Γ : zC Wf V m 3 H0 cX4_seatWorth RX4 1 0 0 := Γ
  show zX Wf V m 3 H0 0 (zls [(0, .ref 37), (1, .int (nI c))]) [] (hR g T R) 46 0 0
  refine x_aload_n Γ dX4_seatWorth_0 rfl ?_
  refine x_iload_n Γ dX4_seatWorth_1 rfl ?_
  refine x_iconst Γ (v := 2) dX4_seatWorth_2 rfl ?_
  refine x_callV Γ calv_X4_is wl_X4_63 dX4_seatWorth_3 (m_X4_is (g := g) (T := T) (R := R) (c := c) (w := 2) (by omega) (by decide)) rfl (by decide) (by decide) rfl rfl rfl rfl (Nat.le_of_ble_eq_true rfl) (Nat.le_refl _) (Nat.le_refl _) ?_
  refine x_aload_n Γ dX4_seatWorth_6 rfl ?_
  refine gf_X4_9 Γ dX4_seatWorth_7 (by decide) rfl rfl ?_
  refine x_iconst Γ (v := 3) dX4_seatWorth_10 rfl ?_
  refine x_iald Γ dX4_seatWorth_11 (by decide) (by rfl) (j := 3) rfl (by decide) (by decide) (mr_s (by decide)) ?_
  refine x_icmp_ne Γ (tgt := 19) dX4_seatWorth_12 (by decide) (fun c_1 => ?_) (fun c_1 => ?_)
  · refine x_iconst Γ (v := 0) dX4_seatWorth_19 rfl ?_
    refine x_istore_n Γ dX4_seatWorth_20 (by decide) ?_
    refine x_aload_n Γ dX4_seatWorth_21 rfl ?_
    refine x_iload_n Γ dX4_seatWorth_22 rfl ?_
    refine x_iconst Γ (v := 0) dX4_seatWorth_23 rfl ?_
    refine x_callV Γ calv_X4_is wl_X4_63 dX4_seatWorth_24 (m_X4_is (g := g) (T := T) (R := R) (c := c) (w := 0) (by omega) (by decide)) rfl (by decide) (by decide) rfl rfl rfl rfl (Nat.le_of_ble_eq_true rfl) (Nat.le_refl _) (Nat.le_refl _) ?_
    refine x_tab6 Γ (a0 := 1) (a1 := 2) (a2 := 3) (a3 := 4) (a4 := 5) (a5 := 6) (t0 := 64) (t1 := 66) (t2 := 77) (t3 := 64) (t4 := 88) (t5 := 90) (td := 92) dX4_seatWorth_27 (by decide +kernel) (fun c_2 => ?_) (fun c_2 => ?_) (fun c_2 => ?_) (fun c_2 => ?_) (fun c_2 => ?_) (fun c_2 => ?_) (fun c_2_0 c_2_1 c_2_2 c_2_3 c_2_4 c_2_5 => ?_)
    · refine x_iconst Γ (v := 0) dX4_seatWorth_64 rfl ?_
      exact x_iret ρ rfl dX4_seatWorth_65 rfl (by first | (simp [sw, zb, *]; done) | (exfalso; simp_all; done) | (simp [sw, zb, *]; simp only [Int32.lt_iff_toInt_lt, Int32.le_iff_toInt_le, zlt_0, zlt_1, zlt_2, zlt_3, zlt_4, zlt_5, zlt_6, zlt_7, zlt_8, zlt_9, zlt_10, zlt_11, zlt_12, zlt_30, zlt_39, zlt_40, zlt_59, zlt_60, zlt_61, zlt_98, zlt_99, zlt_100, zlt_119, zlt_120, zlt_998, zlt_999, zlt_9998, zlt_9999, zlt_m1] at *; omega)) rfl (zH.rf)
    · refine x_iload_n Γ dX4_seatWorth_66 rfl ?_
      refine x_if_eq Γ (tgt := 75) dX4_seatWorth_67 (by decide) (fun c_3 => ?_) (fun c_3 => ?_)
      · refine x_iconst Γ (v := 1) dX4_seatWorth_75 rfl ?_
        exact x_iret ρ rfl dX4_seatWorth_76 rfl (by first | (simp [sw, zb, *]; done) | (exfalso; simp_all; done) | (simp [sw, zb, *]; simp only [Int32.lt_iff_toInt_lt, Int32.le_iff_toInt_le, zlt_0, zlt_1, zlt_2, zlt_3, zlt_4, zlt_5, zlt_6, zlt_7, zlt_8, zlt_9, zlt_10, zlt_11, zlt_12, zlt_30, zlt_39, zlt_40, zlt_59, zlt_60, zlt_61, zlt_98, zlt_99, zlt_100, zlt_119, zlt_120, zlt_998, zlt_999, zlt_9998, zlt_9999, zlt_m1] at *; omega)) rfl (zH.rf)
      · refine x_bipush Γ (v := 12) dX4_seatWorth_70 rfl ?_
        refine x_goto Γ (tgt := 76) dX4_seatWorth_72 (by decide) ?_
        exact x_iret ρ rfl dX4_seatWorth_76 rfl (by first | (simp [sw, zb, *]; done) | (exfalso; simp_all; done) | (simp [sw, zb, *]; simp only [Int32.lt_iff_toInt_lt, Int32.le_iff_toInt_le, zlt_0, zlt_1, zlt_2, zlt_3, zlt_4, zlt_5, zlt_6, zlt_7, zlt_8, zlt_9, zlt_10, zlt_11, zlt_12, zlt_30, zlt_39, zlt_40, zlt_59, zlt_60, zlt_61, zlt_98, zlt_99, zlt_100, zlt_119, zlt_120, zlt_998, zlt_999, zlt_9998, zlt_9999, zlt_m1] at *; omega)) rfl (zH.rf)
    · refine x_iload_n Γ dX4_seatWorth_77 rfl ?_
      refine x_if_eq Γ (tgt := 86) dX4_seatWorth_78 (by decide) (fun c_4 => ?_) (fun c_4 => ?_)
      · refine x_iconst Γ (v := 5) dX4_seatWorth_86 rfl ?_
        exact x_iret ρ rfl dX4_seatWorth_87 rfl (by first | (simp [sw, zb, *]; done) | (exfalso; simp_all; done) | (simp [sw, zb, *]; simp only [Int32.lt_iff_toInt_lt, Int32.le_iff_toInt_le, zlt_0, zlt_1, zlt_2, zlt_3, zlt_4, zlt_5, zlt_6, zlt_7, zlt_8, zlt_9, zlt_10, zlt_11, zlt_12, zlt_30, zlt_39, zlt_40, zlt_59, zlt_60, zlt_61, zlt_98, zlt_99, zlt_100, zlt_119, zlt_120, zlt_998, zlt_999, zlt_9998, zlt_9999, zlt_m1] at *; omega)) rfl (zH.rf)
      · refine x_bipush Γ (v := 12) dX4_seatWorth_81 rfl ?_
        refine x_goto Γ (tgt := 87) dX4_seatWorth_83 (by decide) ?_
        exact x_iret ρ rfl dX4_seatWorth_87 rfl (by first | (simp [sw, zb, *]; done) | (exfalso; simp_all; done) | (simp [sw, zb, *]; simp only [Int32.lt_iff_toInt_lt, Int32.le_iff_toInt_le, zlt_0, zlt_1, zlt_2, zlt_3, zlt_4, zlt_5, zlt_6, zlt_7, zlt_8, zlt_9, zlt_10, zlt_11, zlt_12, zlt_30, zlt_39, zlt_40, zlt_59, zlt_60, zlt_61, zlt_98, zlt_99, zlt_100, zlt_119, zlt_120, zlt_998, zlt_999, zlt_9998, zlt_9999, zlt_m1] at *; omega)) rfl (zH.rf)
    · refine x_iconst Γ (v := 0) dX4_seatWorth_64 rfl ?_
      exact x_iret ρ rfl dX4_seatWorth_65 rfl (by first | (simp [sw, zb, *]; done) | (exfalso; simp_all; done) | (simp [sw, zb, *]; simp only [Int32.lt_iff_toInt_lt, Int32.le_iff_toInt_le, zlt_0, zlt_1, zlt_2, zlt_3, zlt_4, zlt_5, zlt_6, zlt_7, zlt_8, zlt_9, zlt_10, zlt_11, zlt_12, zlt_30, zlt_39, zlt_40, zlt_59, zlt_60, zlt_61, zlt_98, zlt_99, zlt_100, zlt_119, zlt_120, zlt_998, zlt_999, zlt_9998, zlt_9999, zlt_m1] at *; omega)) rfl (zH.rf)
    · refine x_iconst Γ (v := 3) dX4_seatWorth_88 rfl ?_
      exact x_iret ρ rfl dX4_seatWorth_89 rfl (by first | (simp [sw, zb, *]; done) | (exfalso; simp_all; done) | (simp [sw, zb, *]; simp only [Int32.lt_iff_toInt_lt, Int32.le_iff_toInt_le, zlt_0, zlt_1, zlt_2, zlt_3, zlt_4, zlt_5, zlt_6, zlt_7, zlt_8, zlt_9, zlt_10, zlt_11, zlt_12, zlt_30, zlt_39, zlt_40, zlt_59, zlt_60, zlt_61, zlt_98, zlt_99, zlt_100, zlt_119, zlt_120, zlt_998, zlt_999, zlt_9998, zlt_9999, zlt_m1] at *; omega)) rfl (zH.rf)
    · refine x_iconst Γ (v := 4) dX4_seatWorth_90 rfl ?_
      exact x_iret ρ rfl dX4_seatWorth_91 rfl (by first | (simp [sw, zb, *]; done) | (exfalso; simp_all; done) | (simp [sw, zb, *]; simp only [Int32.lt_iff_toInt_lt, Int32.le_iff_toInt_le, zlt_0, zlt_1, zlt_2, zlt_3, zlt_4, zlt_5, zlt_6, zlt_7, zlt_8, zlt_9, zlt_10, zlt_11, zlt_12, zlt_30, zlt_39, zlt_40, zlt_59, zlt_60, zlt_61, zlt_98, zlt_99, zlt_100, zlt_119, zlt_120, zlt_998, zlt_999, zlt_9998, zlt_9999, zlt_m1] at *; omega)) rfl (zH.rf)
    · refine x_iload_n Γ dX4_seatWorth_92 rfl ?_
      refine x_if_eq Γ (tgt := 101) dX4_seatWorth_93 (by decide) (fun c_5 => ?_) (fun c_5 => ?_)
      · refine x_iconst Γ (v := 2) dX4_seatWorth_101 rfl ?_
        exact x_iret ρ rfl dX4_seatWorth_102 rfl (by first | (simp [sw, zb, *]; done) | (exfalso; simp_all; done) | (simp [sw, zb, *]; simp only [Int32.lt_iff_toInt_lt, Int32.le_iff_toInt_le, zlt_0, zlt_1, zlt_2, zlt_3, zlt_4, zlt_5, zlt_6, zlt_7, zlt_8, zlt_9, zlt_10, zlt_11, zlt_12, zlt_30, zlt_39, zlt_40, zlt_59, zlt_60, zlt_61, zlt_98, zlt_99, zlt_100, zlt_119, zlt_120, zlt_998, zlt_999, zlt_9998, zlt_9999, zlt_m1] at *; omega)) rfl (zH.rf)
      · refine x_bipush Γ (v := 6) dX4_seatWorth_96 rfl ?_
        refine x_goto Γ (tgt := 102) dX4_seatWorth_98 (by decide) ?_
        exact x_iret ρ rfl dX4_seatWorth_102 rfl (by first | (simp [sw, zb, *]; done) | (exfalso; simp_all; done) | (simp [sw, zb, *]; simp only [Int32.lt_iff_toInt_lt, Int32.le_iff_toInt_le, zlt_0, zlt_1, zlt_2, zlt_3, zlt_4, zlt_5, zlt_6, zlt_7, zlt_8, zlt_9, zlt_10, zlt_11, zlt_12, zlt_30, zlt_39, zlt_40, zlt_59, zlt_60, zlt_61, zlt_98, zlt_99, zlt_100, zlt_119, zlt_120, zlt_998, zlt_999, zlt_9998, zlt_9999, zlt_m1] at *; omega)) rfl (zH.rf)
  · refine x_iconst Γ (v := 1) dX4_seatWorth_15 rfl ?_
    refine x_goto Γ (tgt := 20) dX4_seatWorth_16 (by decide) ?_
    refine x_istore_n Γ dX4_seatWorth_20 (by decide) ?_
    refine x_aload_n Γ dX4_seatWorth_21 rfl ?_
    refine x_iload_n Γ dX4_seatWorth_22 rfl ?_
    refine x_iconst Γ (v := 0) dX4_seatWorth_23 rfl ?_
    refine x_callV Γ calv_X4_is wl_X4_63 dX4_seatWorth_24 (m_X4_is (g := g) (T := T) (R := R) (c := c) (w := 0) (by omega) (by decide)) rfl (by decide) (by decide) rfl rfl rfl rfl (Nat.le_of_ble_eq_true rfl) (Nat.le_refl _) (Nat.le_refl _) ?_
    refine x_tab6 Γ (a0 := 1) (a1 := 2) (a2 := 3) (a3 := 4) (a4 := 5) (a5 := 6) (t0 := 64) (t1 := 66) (t2 := 77) (t3 := 64) (t4 := 88) (t5 := 90) (td := 92) dX4_seatWorth_27 (by decide +kernel) (fun c_6 => ?_) (fun c_6 => ?_) (fun c_6 => ?_) (fun c_6 => ?_) (fun c_6 => ?_) (fun c_6 => ?_) (fun c_6_0 c_6_1 c_6_2 c_6_3 c_6_4 c_6_5 => ?_)
    · refine x_iconst Γ (v := 0) dX4_seatWorth_64 rfl ?_
      exact x_iret ρ rfl dX4_seatWorth_65 rfl (by first | (simp [sw, zb, *]; done) | (exfalso; simp_all; done) | (simp [sw, zb, *]; simp only [Int32.lt_iff_toInt_lt, Int32.le_iff_toInt_le, zlt_0, zlt_1, zlt_2, zlt_3, zlt_4, zlt_5, zlt_6, zlt_7, zlt_8, zlt_9, zlt_10, zlt_11, zlt_12, zlt_30, zlt_39, zlt_40, zlt_59, zlt_60, zlt_61, zlt_98, zlt_99, zlt_100, zlt_119, zlt_120, zlt_998, zlt_999, zlt_9998, zlt_9999, zlt_m1] at *; omega)) rfl (zH.rf)
    · refine x_iload_n Γ dX4_seatWorth_66 rfl ?_
      refine x_if_eq Γ (tgt := 75) dX4_seatWorth_67 (by decide) (fun c_7 => ?_) (fun c_7 => ?_)
      · refine x_iconst Γ (v := 1) dX4_seatWorth_75 rfl ?_
        exact x_iret ρ rfl dX4_seatWorth_76 rfl (by first | (simp [sw, zb, *]; done) | (exfalso; simp_all; done) | (simp [sw, zb, *]; simp only [Int32.lt_iff_toInt_lt, Int32.le_iff_toInt_le, zlt_0, zlt_1, zlt_2, zlt_3, zlt_4, zlt_5, zlt_6, zlt_7, zlt_8, zlt_9, zlt_10, zlt_11, zlt_12, zlt_30, zlt_39, zlt_40, zlt_59, zlt_60, zlt_61, zlt_98, zlt_99, zlt_100, zlt_119, zlt_120, zlt_998, zlt_999, zlt_9998, zlt_9999, zlt_m1] at *; omega)) rfl (zH.rf)
      · refine x_bipush Γ (v := 12) dX4_seatWorth_70 rfl ?_
        refine x_goto Γ (tgt := 76) dX4_seatWorth_72 (by decide) ?_
        exact x_iret ρ rfl dX4_seatWorth_76 rfl (by first | (simp [sw, zb, *]; done) | (exfalso; simp_all; done) | (simp [sw, zb, *]; simp only [Int32.lt_iff_toInt_lt, Int32.le_iff_toInt_le, zlt_0, zlt_1, zlt_2, zlt_3, zlt_4, zlt_5, zlt_6, zlt_7, zlt_8, zlt_9, zlt_10, zlt_11, zlt_12, zlt_30, zlt_39, zlt_40, zlt_59, zlt_60, zlt_61, zlt_98, zlt_99, zlt_100, zlt_119, zlt_120, zlt_998, zlt_999, zlt_9998, zlt_9999, zlt_m1] at *; omega)) rfl (zH.rf)
    · refine x_iload_n Γ dX4_seatWorth_77 rfl ?_
      refine x_if_eq Γ (tgt := 86) dX4_seatWorth_78 (by decide) (fun c_8 => ?_) (fun c_8 => ?_)
      · refine x_iconst Γ (v := 5) dX4_seatWorth_86 rfl ?_
        exact x_iret ρ rfl dX4_seatWorth_87 rfl (by first | (simp [sw, zb, *]; done) | (exfalso; simp_all; done) | (simp [sw, zb, *]; simp only [Int32.lt_iff_toInt_lt, Int32.le_iff_toInt_le, zlt_0, zlt_1, zlt_2, zlt_3, zlt_4, zlt_5, zlt_6, zlt_7, zlt_8, zlt_9, zlt_10, zlt_11, zlt_12, zlt_30, zlt_39, zlt_40, zlt_59, zlt_60, zlt_61, zlt_98, zlt_99, zlt_100, zlt_119, zlt_120, zlt_998, zlt_999, zlt_9998, zlt_9999, zlt_m1] at *; omega)) rfl (zH.rf)
      · refine x_bipush Γ (v := 12) dX4_seatWorth_81 rfl ?_
        refine x_goto Γ (tgt := 87) dX4_seatWorth_83 (by decide) ?_
        exact x_iret ρ rfl dX4_seatWorth_87 rfl (by first | (simp [sw, zb, *]; done) | (exfalso; simp_all; done) | (simp [sw, zb, *]; simp only [Int32.lt_iff_toInt_lt, Int32.le_iff_toInt_le, zlt_0, zlt_1, zlt_2, zlt_3, zlt_4, zlt_5, zlt_6, zlt_7, zlt_8, zlt_9, zlt_10, zlt_11, zlt_12, zlt_30, zlt_39, zlt_40, zlt_59, zlt_60, zlt_61, zlt_98, zlt_99, zlt_100, zlt_119, zlt_120, zlt_998, zlt_999, zlt_9998, zlt_9999, zlt_m1] at *; omega)) rfl (zH.rf)
    · refine x_iconst Γ (v := 0) dX4_seatWorth_64 rfl ?_
      exact x_iret ρ rfl dX4_seatWorth_65 rfl (by first | (simp [sw, zb, *]; done) | (exfalso; simp_all; done) | (simp [sw, zb, *]; simp only [Int32.lt_iff_toInt_lt, Int32.le_iff_toInt_le, zlt_0, zlt_1, zlt_2, zlt_3, zlt_4, zlt_5, zlt_6, zlt_7, zlt_8, zlt_9, zlt_10, zlt_11, zlt_12, zlt_30, zlt_39, zlt_40, zlt_59, zlt_60, zlt_61, zlt_98, zlt_99, zlt_100, zlt_119, zlt_120, zlt_998, zlt_999, zlt_9998, zlt_9999, zlt_m1] at *; omega)) rfl (zH.rf)
    · refine x_iconst Γ (v := 3) dX4_seatWorth_88 rfl ?_
      exact x_iret ρ rfl dX4_seatWorth_89 rfl (by first | (simp [sw, zb, *]; done) | (exfalso; simp_all; done) | (simp [sw, zb, *]; simp only [Int32.lt_iff_toInt_lt, Int32.le_iff_toInt_le, zlt_0, zlt_1, zlt_2, zlt_3, zlt_4, zlt_5, zlt_6, zlt_7, zlt_8, zlt_9, zlt_10, zlt_11, zlt_12, zlt_30, zlt_39, zlt_40, zlt_59, zlt_60, zlt_61, zlt_98, zlt_99, zlt_100, zlt_119, zlt_120, zlt_998, zlt_999, zlt_9998, zlt_9999, zlt_m1] at *; omega)) rfl (zH.rf)
    · refine x_iconst Γ (v := 4) dX4_seatWorth_90 rfl ?_
      exact x_iret ρ rfl dX4_seatWorth_91 rfl (by first | (simp [sw, zb, *]; done) | (exfalso; simp_all; done) | (simp [sw, zb, *]; simp only [Int32.lt_iff_toInt_lt, Int32.le_iff_toInt_le, zlt_0, zlt_1, zlt_2, zlt_3, zlt_4, zlt_5, zlt_6, zlt_7, zlt_8, zlt_9, zlt_10, zlt_11, zlt_12, zlt_30, zlt_39, zlt_40, zlt_59, zlt_60, zlt_61, zlt_98, zlt_99, zlt_100, zlt_119, zlt_120, zlt_998, zlt_999, zlt_9998, zlt_9999, zlt_m1] at *; omega)) rfl (zH.rf)
    · refine x_iload_n Γ dX4_seatWorth_92 rfl ?_
      refine x_if_eq Γ (tgt := 101) dX4_seatWorth_93 (by decide) (fun c_9 => ?_) (fun c_9 => ?_)
      · refine x_iconst Γ (v := 2) dX4_seatWorth_101 rfl ?_
        exact x_iret ρ rfl dX4_seatWorth_102 rfl (by first | (simp [sw, zb, *]; done) | (exfalso; simp_all; done) | (simp [sw, zb, *]; simp only [Int32.lt_iff_toInt_lt, Int32.le_iff_toInt_le, zlt_0, zlt_1, zlt_2, zlt_3, zlt_4, zlt_5, zlt_6, zlt_7, zlt_8, zlt_9, zlt_10, zlt_11, zlt_12, zlt_30, zlt_39, zlt_40, zlt_59, zlt_60, zlt_61, zlt_98, zlt_99, zlt_100, zlt_119, zlt_120, zlt_998, zlt_999, zlt_9998, zlt_9999, zlt_m1] at *; omega)) rfl (zH.rf)
      · refine x_bipush Γ (v := 6) dX4_seatWorth_96 rfl ?_
        refine x_goto Γ (tgt := 102) dX4_seatWorth_98 (by decide) ?_
        exact x_iret ρ rfl dX4_seatWorth_102 rfl (by first | (simp [sw, zb, *]; done) | (exfalso; simp_all; done) | (simp [sw, zb, *]; simp only [Int32.lt_iff_toInt_lt, Int32.le_iff_toInt_le, zlt_0, zlt_1, zlt_2, zlt_3, zlt_4, zlt_5, zlt_6, zlt_7, zlt_8, zlt_9, zlt_10, zlt_11, zlt_12, zlt_30, zlt_39, zlt_40, zlt_59, zlt_60, zlt_61, zlt_98, zlt_99, zlt_100, zlt_119, zlt_120, zlt_998, zlt_999, zlt_9998, zlt_9999, zlt_m1] at *; omega)) rfl (zH.rf)

set_option maxRecDepth 100000 in
set_option maxHeartbeats 4000000 in
theorem m_X4_with {g : Nat → zE} {T R : zT} {N : Nat} (hN : wN T N) (t : Int32) : zM 1 M_X4_with [.ref 37, .int t] (hR g T R) 46 (some (.int (setW T t N))) (hR g T R) 46 0 0 := by
  refine zM.intro (by decide) (Nat.le_of_ble_eq_true rfl) ?_
  intro Wf V m H0 Γ ρ
  replace Γ : zC Wf V m 4 H0 cX4_with RX4 1 0 0 := Γ
  show zX Wf V m 4 H0 0 (zls [(0, .ref 37), (1, .int t)]) [] (hR g T R) 46 0 0
  have hN2 := hN.2
  refine x_iconst Γ (v := 0) dX4_with_0 rfl ?_
  refine x_istore_n Γ dX4_with_1 (by decide) ?_
  refine x_iconst Γ (v := 0) dX4_with_2 rfl ?_
  refine x_istore_n Γ dX4_with_3 (by decide) ?_
  suffices L_4 : ∀ (k c : Nat), c ≤ N → N - c < k → zX Wf V m 4 H0 4 (zls [(0, .ref 37), (1, .int t), (2, .int (setW T t c)), (3, .int (nI c))]) [] (hR g T R) 46 0 0 by
    exact x_subl [(0, .ref 37), (1, .int t), (2, .int (setW T t 0)), (3, .int (nI 0))] (List.forall_mem_cons.mpr ⟨rfl, List.forall_mem_cons.mpr ⟨rfl, List.forall_mem_cons.mpr ⟨rfl, List.forall_mem_cons.mpr ⟨rfl, fun _ hz => absurd hz List.not_mem_nil⟩⟩⟩⟩) (x_heap (rfl) (L_4 (N + 1) 0 (by omega) (by omega)))
  intro k
  induction k with
  | zero => intro c h1 h2; omega
  | succ k ih =>
    intro c h1 h2
    refine x_iload_n Γ dX4_with_4 rfl ?_
    refine x_aload_n Γ dX4_with_5 rfl ?_
    refine gf_X4_9 Γ dX4_with_6 (by decide) rfl rfl ?_
    refine x_bipush Γ (v := 8) dX4_with_9 rfl ?_
    refine x_iald Γ dX4_with_11 (by decide) (by rfl) (j := 8) rfl (by decide) (by decide) (mr_s (by decide)) ?_
    refine x_icmp_ge Γ (tgt := 41) dX4_with_12 (by decide) (fun c_1 => ?_) (fun c_1 => ?_)
    · rw [hN.1] at c_1
      have c_1 := z_le c_1 (by omega) (by omega)
      obtain rfl : c = N := by omega
      refine x_iload_n Γ dX4_with_41 rfl ?_
      exact x_iret ρ rfl dX4_with_42 rfl (rfl) rfl (zH.rf)
    · rw [hN.1] at c_1
      have c_1 := z_nle c_1 (by omega) (by omega)
      refine x_iload_n Γ dX4_with_15 rfl ?_
      refine x_aload_n Γ dX4_with_16 rfl ?_
      refine x_iload_n Γ dX4_with_17 rfl ?_
      refine x_iconst Γ (v := 5) dX4_with_18 rfl ?_
      refine x_callV Γ calv_X4_is wl_X4_63 dX4_with_19 (m_X4_is (g := g) (T := T) (R := R) (c := c) (w := 5) (by omega) (by decide)) rfl (by decide) (by decide) rfl rfl rfl rfl (Nat.le_of_ble_eq_true rfl) (Nat.le_refl _) (Nat.le_refl _) ?_
      refine x_iload_n Γ dX4_with_22 rfl ?_
      refine x_icmp_ne Γ (tgt := 32) dX4_with_23 (by decide) (fun c_2 => ?_) (fun c_2 => ?_)
      · refine x_iconst Γ (v := 0) dX4_with_32 rfl ?_
        refine x_ior Γ dX4_with_33 ?_
        refine x_istore_n Γ dX4_with_34 (by decide) ?_
        refine x_iinc Γ dX4_with_35 rfl (by first | exact zinc _ | rfl) (by decide) ?_
        refine x_goto Γ (tgt := 4) dX4_with_38 (by decide) ?_
        exact x_subl [(0, .ref 37), (1, .int t), (2, .int (setW T t (c + 1))), (3, .int (nI (c + 1)))] (List.forall_mem_cons.mpr ⟨rfl, List.forall_mem_cons.mpr ⟨rfl, List.forall_mem_cons.mpr ⟨zsi (by simp [setW, *]), List.forall_mem_cons.mpr ⟨rfl, fun _ hz => absurd hz List.not_mem_nil⟩⟩⟩⟩) (x_heap (rfl) (ih (c + 1) (by omega) (by omega)))
      · refine x_iconst Γ (v := 1) dX4_with_26 rfl ?_
        refine x_iload_n Γ dX4_with_27 rfl ?_
        refine x_ishl Γ dX4_with_28 ?_
        refine x_goto Γ (tgt := 33) dX4_with_29 (by decide) ?_
        refine x_ior Γ dX4_with_33 ?_
        refine x_istore_n Γ dX4_with_34 (by decide) ?_
        refine x_iinc Γ dX4_with_35 rfl (by first | exact zinc _ | rfl) (by decide) ?_
        refine x_goto Γ (tgt := 4) dX4_with_38 (by decide) ?_
        exact x_subl [(0, .ref 37), (1, .int t), (2, .int (setW T t (c + 1))), (3, .int (nI (c + 1)))] (List.forall_mem_cons.mpr ⟨rfl, List.forall_mem_cons.mpr ⟨rfl, List.forall_mem_cons.mpr ⟨zsi (by simp [setW, *]), List.forall_mem_cons.mpr ⟨rfl, fun _ hz => absurd hz List.not_mem_nil⟩⟩⟩⟩) (x_heap (rfl) (ih (c + 1) (by omega) (by omega)))

set_option maxRecDepth 100000 in
set_option maxHeartbeats 4000000 in
theorem m_X4_hungry {g : Nat → zE} {T R : zT} {N : Nat} (hN : wN T N) : zM 1 M_X4_hungry [.ref 37] (hR g T R) 46 (some (.int (hunW T N))) (hR g T R) 46 0 0 := by
  refine zM.intro (by decide) (Nat.le_of_ble_eq_true rfl) ?_
  intro Wf V m H0 Γ ρ
  replace Γ : zC Wf V m 3 H0 cX4_hungry RX4 1 0 0 := Γ
  show zX Wf V m 3 H0 0 (zls [(0, .ref 37)]) [] (hR g T R) 46 0 0
  have hN2 := hN.2
  refine x_iconst Γ (v := 0) dX4_hungry_0 rfl ?_
  refine x_istore_n Γ dX4_hungry_1 (by decide) ?_
  refine x_iconst Γ (v := 0) dX4_hungry_2 rfl ?_
  refine x_istore_n Γ dX4_hungry_3 (by decide) ?_
  suffices L_4 : ∀ (k c : Nat), c ≤ N → N - c < k → zX Wf V m 3 H0 4 (zls [(0, .ref 37), (1, .int (hunW T c)), (2, .int (nI c))]) [] (hR g T R) 46 0 0 by
    exact x_subl [(0, .ref 37), (1, .int (hunW T 0)), (2, .int (nI 0))] (List.forall_mem_cons.mpr ⟨rfl, List.forall_mem_cons.mpr ⟨rfl, List.forall_mem_cons.mpr ⟨rfl, fun _ hz => absurd hz List.not_mem_nil⟩⟩⟩) (x_heap (rfl) (L_4 (N + 1) 0 (by omega) (by omega)))
  intro k
  induction k with
  | zero => intro c h1 h2; omega
  | succ k ih =>
    intro c h1 h2
    refine x_iload_n Γ dX4_hungry_4 rfl ?_
    refine x_aload_n Γ dX4_hungry_5 rfl ?_
    refine gf_X4_9 Γ dX4_hungry_6 (by decide) rfl rfl ?_
    refine x_bipush Γ (v := 8) dX4_hungry_9 rfl ?_
    refine x_iald Γ dX4_hungry_11 (by decide) (by rfl) (j := 8) rfl (by decide) (by decide) (mr_s (by decide)) ?_
    refine x_icmp_ge Γ (tgt := 42) dX4_hungry_12 (by decide) (fun c_1 => ?_) (fun c_1 => ?_)
    · rw [hN.1] at c_1
      have c_1 := z_le c_1 (by omega) (by omega)
      obtain rfl : c = N := by omega
      refine x_iload_n Γ dX4_hungry_42 rfl ?_
      exact x_iret ρ rfl dX4_hungry_43 rfl (rfl) rfl (zH.rf)
    · rw [hN.1] at c_1
      have c_1 := z_nle c_1 (by omega) (by omega)
      refine x_iload_n Γ dX4_hungry_15 rfl ?_
      refine x_aload_n Γ dX4_hungry_16 rfl ?_
      refine x_iload_n Γ dX4_hungry_17 rfl ?_
      refine x_iconst Γ (v := 1) dX4_hungry_18 rfl ?_
      refine x_callV Γ calv_X4_is wl_X4_63 dX4_hungry_19 (m_X4_is (g := g) (T := T) (R := R) (c := c) (w := 1) (by omega) (by decide)) rfl (by decide) (by decide) rfl rfl rfl rfl (Nat.le_of_ble_eq_true rfl) (Nat.le_refl _) (Nat.le_refl _) ?_
      refine x_bipush Γ (v := 7) dX4_hungry_22 rfl ?_
      refine x_icmp_lt Γ (tgt := 33) dX4_hungry_24 (by decide) (fun c_2 => ?_) (fun c_2 => ?_)
      · refine x_iconst Γ (v := 0) dX4_hungry_33 rfl ?_
        refine x_ior Γ dX4_hungry_34 ?_
        refine x_istore_n Γ dX4_hungry_35 (by decide) ?_
        refine x_iinc Γ dX4_hungry_36 rfl (by first | exact zinc _ | rfl) (by decide) ?_
        refine x_goto Γ (tgt := 4) dX4_hungry_39 (by decide) ?_
        exact x_subl [(0, .ref 37), (1, .int (hunW T (c + 1))), (2, .int (nI (c + 1)))] (List.forall_mem_cons.mpr ⟨rfl, List.forall_mem_cons.mpr ⟨zsi (by simp [hunW, *]), List.forall_mem_cons.mpr ⟨rfl, fun _ hz => absurd hz List.not_mem_nil⟩⟩⟩) (x_heap (rfl) (ih (c + 1) (by omega) (by omega)))
      · refine x_iconst Γ (v := 1) dX4_hungry_27 rfl ?_
        refine x_iload_n Γ dX4_hungry_28 rfl ?_
        refine x_ishl Γ dX4_hungry_29 ?_
        refine x_goto Γ (tgt := 34) dX4_hungry_30 (by decide) ?_
        refine x_ior Γ dX4_hungry_34 ?_
        refine x_istore_n Γ dX4_hungry_35 (by decide) ?_
        refine x_iinc Γ dX4_hungry_36 rfl (by first | exact zinc _ | rfl) (by decide) ?_
        refine x_goto Γ (tgt := 4) dX4_hungry_39 (by decide) ?_
        exact x_subl [(0, .ref 37), (1, .int (hunW T (c + 1))), (2, .int (nI (c + 1)))] (List.forall_mem_cons.mpr ⟨rfl, List.forall_mem_cons.mpr ⟨zsi (by simp [hunW, *]), List.forall_mem_cons.mpr ⟨rfl, fun _ hz => absurd hz List.not_mem_nil⟩⟩⟩) (x_heap (rfl) (ih (c + 1) (by omega) (by omega)))

set_option maxRecDepth 100000 in
set_option maxHeartbeats 4000000 in
theorem m_X4_many {h : Nat → zE} (x : Int32) : zM 0 M_X4_many [.int x] (h) 46 (some (.int (many x))) (h) 46 0 0 := by
  refine zM.intro (by decide) (Nat.le_of_ble_eq_true rfl) ?_
  intro Wf V m H0 Γ ρ
  replace Γ : zC Wf V m 3 H0 cX4_many RX4 0 0 0 := Γ
  show zX Wf V m 3 H0 0 (zls [(0, .int x)]) [] (h) 46 0 0
  refine x_iconst Γ (v := 0) dX4_many_0 rfl ?_
  refine x_istore_n Γ dX4_many_1 (by decide) ?_
  refine x_iconst Γ (v := 0) dX4_many_2 rfl ?_
  refine x_istore_n Γ dX4_many_3 (by decide) ?_
  suffices L_4 : ∀ (k c : Nat), c ≤ 10 → 10 - c < k → zX Wf V m 3 H0 4 (zls [(0, .int x), (1, .int (sumW (fun k => (x >>> (nI k &&& 31)) &&& 1) c)), (2, .int (nI c))]) [] (h) 46 0 0 by
    exact x_subl [(0, .int x), (1, .int (sumW (fun k => (x >>> (nI k &&& 31)) &&& 1) 0)), (2, .int (nI 0))] (List.forall_mem_cons.mpr ⟨rfl, List.forall_mem_cons.mpr ⟨rfl, List.forall_mem_cons.mpr ⟨rfl, fun _ hz => absurd hz List.not_mem_nil⟩⟩⟩) (x_heap (rfl) (L_4 (10 + 1) 0 (by omega) (by omega)))
  intro k
  induction k with
  | zero => intro c h1 h2; omega
  | succ k ih =>
    intro c h1 h2
    refine x_iload_n Γ dX4_many_4 rfl ?_
    refine x_bipush Γ (v := 10) dX4_many_5 rfl ?_
    refine x_icmp_ge Γ (tgt := 24) dX4_many_7 (by decide) (fun c_1 => ?_) (fun c_1 => ?_)
    · have c_1 := z_le (a := 10) c_1 (by omega) (by omega)
      obtain rfl : c = 10 := by omega
      refine x_iload_n Γ dX4_many_24 rfl ?_
      exact x_iret ρ rfl dX4_many_25 rfl (rfl) rfl (zH.rf)
    · have c_1 := z_nle (a := 10) c_1 (by omega) (by omega)
      refine x_iload_n Γ dX4_many_10 rfl ?_
      refine x_iload_n Γ dX4_many_11 rfl ?_
      refine x_iload_n Γ dX4_many_12 rfl ?_
      refine x_ishr Γ dX4_many_13 ?_
      refine x_iconst Γ (v := 1) dX4_many_14 rfl ?_
      refine x_iand Γ dX4_many_15 ?_
      refine x_iadd Γ dX4_many_16 ?_
      refine x_istore_n Γ dX4_many_17 (by decide) ?_
      refine x_iinc Γ dX4_many_18 rfl (by first | exact zinc _ | rfl) (by decide) ?_
      refine x_goto Γ (tgt := 4) dX4_many_21 (by decide) ?_
      exact x_subl [(0, .int x), (1, .int (sumW (fun k => (x >>> (nI k &&& 31)) &&& 1) (c + 1))), (2, .int (nI (c + 1)))] (List.forall_mem_cons.mpr ⟨rfl, List.forall_mem_cons.mpr ⟨rfl, List.forall_mem_cons.mpr ⟨rfl, fun _ hz => absurd hz List.not_mem_nil⟩⟩⟩) (x_heap (rfl) (ih (c + 1) (by omega) (by omega)))

set_option maxRecDepth 100000 in
set_option maxHeartbeats 4000000 in
theorem m_X4_cost {g : Nat → zE} {T R : zT} : zM 0 M_X4_cost [.ref 37] (hR g T R) 46 (some (.int (3 * T 7 0 + 2 * T 7 1))) (hR g T R) 46 0 0 := by
  refine zM.intro (by decide) (Nat.le_of_ble_eq_true rfl) ?_
  intro Wf V m H0 Γ ρ
  replace Γ : zC Wf V m 1 H0 cX4_cost RX4 0 0 0 := Γ
  show zX Wf V m 1 H0 0 (zls [(0, .ref 37)]) [] (hR g T R) 46 0 0
  refine x_iconst Γ (v := 3) dX4_cost_0 rfl ?_
  refine x_aload_n Γ dX4_cost_1 rfl ?_
  refine gf_X4_9 Γ dX4_cost_2 (by decide) rfl rfl ?_
  refine x_iconst Γ (v := 0) dX4_cost_5 rfl ?_
  refine x_iald Γ dX4_cost_6 (by decide) (by rfl) (j := 0) rfl (by decide) (by decide) (mr_s (by decide)) ?_
  refine x_imul Γ dX4_cost_7 ?_
  refine x_iconst Γ (v := 2) dX4_cost_8 rfl ?_
  refine x_aload_n Γ dX4_cost_9 rfl ?_
  refine gf_X4_9 Γ dX4_cost_10 (by decide) rfl rfl ?_
  refine x_iconst Γ (v := 1) dX4_cost_13 rfl ?_
  refine x_iald Γ dX4_cost_14 (by decide) (by rfl) (j := 1) rfl (by decide) (by decide) (mr_s (by decide)) ?_
  refine x_imul Γ dX4_cost_15 ?_
  refine x_iadd Γ dX4_cost_16 ?_
  exact x_iret ρ rfl dX4_cost_17 rfl (rfl) rfl (zH.rf)

set_option maxRecDepth 100000 in
set_option maxHeartbeats 4000000 in
theorem m_X4_wantsOther {g : Nat → zE} {T R : zT} {c : Nat} (hc : c < 10) : zM 2 M_X4_wantsOther [.ref 37, .int (nI c)] (hR g T R) 46 (some (.int (zb (wo T c)))) (hR g T R) 46 0 0 := by
  refine zM.intro (by decide) (Nat.le_of_ble_eq_true rfl) ?_
  intro Wf V m H0 Γ ρ
  replace Γ : zC Wf V m 3 H0 cX4_wantsOther RX4 2 0 0 := Γ
  show zX Wf V m 3 H0 0 (zls [(0, .ref 37), (1, .int (nI c))]) [] (hR g T R) 46 0 0
  refine x_aload_n Γ dX4_wantsOther_0 rfl ?_
  refine x_iload_n Γ dX4_wantsOther_1 rfl ?_
  refine x_iconst Γ (v := 5) dX4_wantsOther_2 rfl ?_
  refine x_callV Γ calv_X4_is wl_X4_63 dX4_wantsOther_3 (m_X4_is (g := g) (T := T) (R := R) (c := c) (w := 5) (by omega) (by decide)) rfl (by decide) (by decide) rfl rfl rfl rfl (Nat.le_of_ble_eq_true rfl) (Nat.le_refl _) (Nat.le_refl _) ?_
  refine x_istore_n Γ dX4_wantsOther_6 (by decide) ?_
  refine x_iload_n Γ dX4_wantsOther_7 rfl ?_
  refine x_iconst Γ (v := 1) dX4_wantsOther_8 rfl ?_
  refine x_icmp_ne Γ (tgt := 25) dX4_wantsOther_9 (by decide) (fun c_1 => ?_) (fun c_1 => ?_)
  · refine x_iload_n Γ dX4_wantsOther_25 rfl ?_
    refine x_iconst Γ (v := 2) dX4_wantsOther_26 rfl ?_
    refine x_icmp_ne Γ (tgt := 47) dX4_wantsOther_27 (by decide) (fun c_2 => ?_) (fun c_2 => ?_)
    · refine x_iconst Γ (v := 0) dX4_wantsOther_47 rfl ?_
      exact x_iret ρ rfl dX4_wantsOther_48 (by first | exact zb_nz _ | rfl) (by first | (simp [wo, zb, *]; done) | (exfalso; simp_all; done) | (simp [wo, zb, *]; simp only [Int32.lt_iff_toInt_lt, Int32.le_iff_toInt_le, zlt_0, zlt_1, zlt_2, zlt_3, zlt_4, zlt_5, zlt_6, zlt_7, zlt_8, zlt_9, zlt_10, zlt_11, zlt_12, zlt_30, zlt_39, zlt_40, zlt_59, zlt_60, zlt_61, zlt_98, zlt_99, zlt_100, zlt_119, zlt_120, zlt_998, zlt_999, zlt_9998, zlt_9999, zlt_m1] at *; omega)) rfl (zH.rf)
    · refine x_aload_n Γ dX4_wantsOther_30 rfl ?_
      refine x_iload_n Γ dX4_wantsOther_31 rfl ?_
      refine x_callV Γ calv_X4_loafWorth wl_X4_72 dX4_wantsOther_32 (m_X4_loafWorth (g := g) (T := T) (R := R) (c := c) (by omega)) rfl (by decide) (by decide) rfl rfl rfl rfl (Nat.le_of_ble_eq_true rfl) (Nat.le_refl _) (Nat.le_refl _) ?_
      refine x_aload_n Γ dX4_wantsOther_35 rfl ?_
      refine x_iload_n Γ dX4_wantsOther_36 rfl ?_
      refine x_callV Γ calv_X4_seatWorth wl_X4_75 dX4_wantsOther_37 (m_X4_seatWorth (g := g) (T := T) (R := R) (c := c) (by omega)) rfl (by decide) (by decide) rfl rfl rfl rfl (Nat.le_of_ble_eq_true rfl) (Nat.le_refl _) (Nat.le_refl _) ?_
      refine x_icmp_le Γ (tgt := 47) dX4_wantsOther_40 (by decide) (fun c_3 => ?_) (fun c_3 => ?_)
      · refine x_iconst Γ (v := 0) dX4_wantsOther_47 rfl ?_
        exact x_iret ρ rfl dX4_wantsOther_48 (by first | exact zb_nz _ | rfl) (by first | (simp [wo, zb, *]; done) | (exfalso; simp_all; done) | (simp [wo, zb, *]; simp only [Int32.lt_iff_toInt_lt, Int32.le_iff_toInt_le, zlt_0, zlt_1, zlt_2, zlt_3, zlt_4, zlt_5, zlt_6, zlt_7, zlt_8, zlt_9, zlt_10, zlt_11, zlt_12, zlt_30, zlt_39, zlt_40, zlt_59, zlt_60, zlt_61, zlt_98, zlt_99, zlt_100, zlt_119, zlt_120, zlt_998, zlt_999, zlt_9998, zlt_9999, zlt_m1] at *; omega)) rfl (zH.rf)
      · refine x_iconst Γ (v := 1) dX4_wantsOther_43 rfl ?_
        refine x_goto Γ (tgt := 48) dX4_wantsOther_44 (by decide) ?_
        exact x_iret ρ rfl dX4_wantsOther_48 (by first | exact zb_nz _ | rfl) (by first | (simp [wo, zb, *]; done) | (exfalso; simp_all; done) | (simp [wo, zb, *]; simp only [Int32.lt_iff_toInt_lt, Int32.le_iff_toInt_le, zlt_0, zlt_1, zlt_2, zlt_3, zlt_4, zlt_5, zlt_6, zlt_7, zlt_8, zlt_9, zlt_10, zlt_11, zlt_12, zlt_30, zlt_39, zlt_40, zlt_59, zlt_60, zlt_61, zlt_98, zlt_99, zlt_100, zlt_119, zlt_120, zlt_998, zlt_999, zlt_9998, zlt_9999, zlt_m1] at *; omega)) rfl (zH.rf)
  · refine x_aload_n Γ dX4_wantsOther_12 rfl ?_
    refine x_iload_n Γ dX4_wantsOther_13 rfl ?_
    refine x_callV Γ calv_X4_seatWorth wl_X4_75 dX4_wantsOther_14 (m_X4_seatWorth (g := g) (T := T) (R := R) (c := c) (by omega)) rfl (by decide) (by decide) rfl rfl rfl rfl (Nat.le_of_ble_eq_true rfl) (Nat.le_refl _) (Nat.le_refl _) ?_
    refine x_aload_n Γ dX4_wantsOther_17 rfl ?_
    refine x_iload_n Γ dX4_wantsOther_18 rfl ?_
    refine x_callV Γ calv_X4_loafWorth wl_X4_72 dX4_wantsOther_19 (m_X4_loafWorth (g := g) (T := T) (R := R) (c := c) (by omega)) rfl (by decide) (by decide) rfl rfl rfl rfl (Nat.le_of_ble_eq_true rfl) (Nat.le_refl _) (Nat.le_refl _) ?_
    refine x_icmp_gt Γ (tgt := 43) dX4_wantsOther_22 (by decide) (fun c_4 => ?_) (fun c_4 => ?_)
    · refine x_iconst Γ (v := 1) dX4_wantsOther_43 rfl ?_
      refine x_goto Γ (tgt := 48) dX4_wantsOther_44 (by decide) ?_
      exact x_iret ρ rfl dX4_wantsOther_48 (by first | exact zb_nz _ | rfl) (by first | (simp [wo, zb, *]; done) | (exfalso; simp_all; done) | (simp [wo, zb, *]; simp only [Int32.lt_iff_toInt_lt, Int32.le_iff_toInt_le, zlt_0, zlt_1, zlt_2, zlt_3, zlt_4, zlt_5, zlt_6, zlt_7, zlt_8, zlt_9, zlt_10, zlt_11, zlt_12, zlt_30, zlt_39, zlt_40, zlt_59, zlt_60, zlt_61, zlt_98, zlt_99, zlt_100, zlt_119, zlt_120, zlt_998, zlt_999, zlt_9998, zlt_9999, zlt_m1] at *; omega)) rfl (zH.rf)
    · refine x_iload_n Γ dX4_wantsOther_25 rfl ?_
      refine x_iconst Γ (v := 2) dX4_wantsOther_26 rfl ?_
      refine x_icmp_ne Γ (tgt := 47) dX4_wantsOther_27 (by decide) (fun c_5 => ?_) (fun c_5 => ?_)
      · refine x_iconst Γ (v := 0) dX4_wantsOther_47 rfl ?_
        exact x_iret ρ rfl dX4_wantsOther_48 (by first | exact zb_nz _ | rfl) (by first | (simp [wo, zb, *]; done) | (exfalso; simp_all; done) | (simp [wo, zb, *]; simp only [Int32.lt_iff_toInt_lt, Int32.le_iff_toInt_le, zlt_0, zlt_1, zlt_2, zlt_3, zlt_4, zlt_5, zlt_6, zlt_7, zlt_8, zlt_9, zlt_10, zlt_11, zlt_12, zlt_30, zlt_39, zlt_40, zlt_59, zlt_60, zlt_61, zlt_98, zlt_99, zlt_100, zlt_119, zlt_120, zlt_998, zlt_999, zlt_9998, zlt_9999, zlt_m1] at *; omega)) rfl (zH.rf)
      · refine x_aload_n Γ dX4_wantsOther_30 rfl ?_
        refine x_iload_n Γ dX4_wantsOther_31 rfl ?_
        refine x_callV Γ calv_X4_loafWorth wl_X4_72 dX4_wantsOther_32 (m_X4_loafWorth (g := g) (T := T) (R := R) (c := c) (by omega)) rfl (by decide) (by decide) rfl rfl rfl rfl (Nat.le_of_ble_eq_true rfl) (Nat.le_refl _) (Nat.le_refl _) ?_
        refine x_aload_n Γ dX4_wantsOther_35 rfl ?_
        refine x_iload_n Γ dX4_wantsOther_36 rfl ?_
        refine x_callV Γ calv_X4_seatWorth wl_X4_75 dX4_wantsOther_37 (m_X4_seatWorth (g := g) (T := T) (R := R) (c := c) (by omega)) rfl (by decide) (by decide) rfl rfl rfl rfl (Nat.le_of_ble_eq_true rfl) (Nat.le_refl _) (Nat.le_refl _) ?_
        refine x_icmp_le Γ (tgt := 47) dX4_wantsOther_40 (by decide) (fun c_6 => ?_) (fun c_6 => ?_)
        · refine x_iconst Γ (v := 0) dX4_wantsOther_47 rfl ?_
          exact x_iret ρ rfl dX4_wantsOther_48 (by first | exact zb_nz _ | rfl) (by first | (simp [wo, zb, *]; done) | (exfalso; simp_all; done) | (simp [wo, zb, *]; simp only [Int32.lt_iff_toInt_lt, Int32.le_iff_toInt_le, zlt_0, zlt_1, zlt_2, zlt_3, zlt_4, zlt_5, zlt_6, zlt_7, zlt_8, zlt_9, zlt_10, zlt_11, zlt_12, zlt_30, zlt_39, zlt_40, zlt_59, zlt_60, zlt_61, zlt_98, zlt_99, zlt_100, zlt_119, zlt_120, zlt_998, zlt_999, zlt_9998, zlt_9999, zlt_m1] at *; omega)) rfl (zH.rf)
        · refine x_iconst Γ (v := 1) dX4_wantsOther_43 rfl ?_
          refine x_goto Γ (tgt := 48) dX4_wantsOther_44 (by decide) ?_
          exact x_iret ρ rfl dX4_wantsOther_48 (by first | exact zb_nz _ | rfl) (by first | (simp [wo, zb, *]; done) | (exfalso; simp_all; done) | (simp [wo, zb, *]; simp only [Int32.lt_iff_toInt_lt, Int32.le_iff_toInt_le, zlt_0, zlt_1, zlt_2, zlt_3, zlt_4, zlt_5, zlt_6, zlt_7, zlt_8, zlt_9, zlt_10, zlt_11, zlt_12, zlt_30, zlt_39, zlt_40, zlt_59, zlt_60, zlt_61, zlt_98, zlt_99, zlt_100, zlt_119, zlt_120, zlt_998, zlt_999, zlt_9998, zlt_9999, zlt_m1] at *; omega)) rfl (zH.rf)

set_option maxRecDepth 100000 in
set_option maxHeartbeats 4000000 in
theorem m_X4_changeTokens {g : Nat → zE} {T R : zT} {x y : Nat} (hx : x < 10) (hy : y < 10) : zM 1 M_X4_changeTokens [.ref 37, .int (nI x), .int (nI y)] (hR g T R) 46 (none) (hR g (exT T x y) R) 46 0 0 := by
  refine zM.intro (by decide) (Nat.le_of_ble_eq_true rfl) ?_
  intro Wf V m H0 Γ ρ
  replace Γ : zC Wf V m 4 H0 cX4_changeTokens RX4 1 0 0 := Γ
  show zX Wf V m 4 H0 0 (zls [(0, .ref 37), (1, .int (nI x)), (2, .int (nI y))]) [] (hR g T R) 46 0 0
  refine x_aload_n Γ dX4_changeTokens_0 rfl ?_
  refine x_iload_n Γ dX4_changeTokens_1 rfl ?_
  refine x_iconst Γ (v := 5) dX4_changeTokens_2 rfl ?_
  refine x_callV Γ calv_X4_is wl_X4_63 dX4_changeTokens_3 (m_X4_is (g := g) (T := T) (R := R) (c := x) (w := 5) (by omega) (by decide)) rfl (by decide) (by decide) rfl rfl rfl rfl (Nat.le_of_ble_eq_true rfl) (Nat.le_refl _) (Nat.le_refl _) ?_
  refine x_istore_n Γ dX4_changeTokens_6 (by decide) ?_
  refine x_aload_n Γ dX4_changeTokens_7 rfl ?_
  refine x_iload_n Γ dX4_changeTokens_8 rfl ?_
  refine x_iconst Γ (v := 5) dX4_changeTokens_9 rfl ?_
  refine x_aload_n Γ dX4_changeTokens_10 rfl ?_
  refine x_iload_n Γ dX4_changeTokens_11 rfl ?_
  refine x_iconst Γ (v := 5) dX4_changeTokens_12 rfl ?_
  refine x_callV Γ calv_X4_is wl_X4_63 dX4_changeTokens_13 (m_X4_is (g := g) (T := T) (R := R) (c := y) (w := 5) (by omega) (by decide)) rfl (by decide) (by decide) rfl rfl rfl rfl (Nat.le_of_ble_eq_true rfl) (Nat.le_refl _) (Nat.le_refl _) ?_
  refine x_callVv Γ calv_X4_makes wl_X4_50 dX4_changeTokens_16 (m_X4_makes (g := g) (T := T) (R := R) (c := x) (w := 5) (by omega) (by decide) (T 5 y)) rfl (by decide) (by decide) rfl rfl rfl rfl (Nat.le_of_ble_eq_true rfl) (Nat.le_refl _) (Nat.le_refl _) ?_
  refine x_aload_n Γ dX4_changeTokens_19 rfl ?_
  refine x_iload_n Γ dX4_changeTokens_20 rfl ?_
  refine x_iconst Γ (v := 5) dX4_changeTokens_21 rfl ?_
  refine x_iload_n Γ dX4_changeTokens_22 rfl ?_
  refine x_callVv Γ calv_X4_makes wl_X4_50 dX4_changeTokens_23 (m_X4_makes (g := g) (T := ts T 5 x (T 5 y)) (R := R) (c := y) (w := 5) (by omega) (by decide) (T 5 x)) rfl (by decide) (by decide) rfl rfl rfl rfl (Nat.le_of_ble_eq_true rfl) (Nat.le_refl _) (Nat.le_refl _) ?_
  exact x_vret ρ dX4_changeTokens_26 (rfl) rfl (by rw [exT]; exact zH.rf)

set_option maxRecDepth 100000 in
set_option maxHeartbeats 4000000 in
theorem m_X4_worth {g : Nat → zE} {T R : zT} {c : Nat} (hc : c < 10) (t : Int32) : zM 2 M_X4_worth [.ref 37, .int (nI c), .int t] (hR g T R) 46 (some (.int (tw T c t))) (hR g T R) 46 0 0 := by
  refine zM.intro (by decide) (Nat.le_of_ble_eq_true rfl) ?_
  intro Wf V m H0 Γ ρ
  replace Γ : zC Wf V m 3 H0 cX4_worth RX4 2 0 0 := Γ
  show zX Wf V m 3 H0 0 (zls [(0, .ref 37), (1, .int (nI c)), (2, .int t)]) [] (hR g T R) 46 0 0
  refine x_iload_n Γ dX4_worth_0 rfl ?_
  refine x_iconst Γ (v := 1) dX4_worth_1 rfl ?_
  refine x_icmp_ne Γ (tgt := 13) dX4_worth_2 (by decide) (fun c_1 => ?_) (fun c_1 => ?_)
  · refine x_iload_n Γ dX4_worth_13 rfl ?_
    refine x_iconst Γ (v := 2) dX4_worth_14 rfl ?_
    refine x_icmp_ne Γ (tgt := 26) dX4_worth_15 (by decide) (fun c_2 => ?_) (fun c_2 => ?_)
    · refine x_iconst Γ (v := 0) dX4_worth_26 rfl ?_
      exact x_iret ρ rfl dX4_worth_27 rfl (by first | (simp [tw, zb, *]; done) | (exfalso; simp_all; done) | (simp [tw, zb, *]; simp only [Int32.lt_iff_toInt_lt, Int32.le_iff_toInt_le, zlt_0, zlt_1, zlt_2, zlt_3, zlt_4, zlt_5, zlt_6, zlt_7, zlt_8, zlt_9, zlt_10, zlt_11, zlt_12, zlt_30, zlt_39, zlt_40, zlt_59, zlt_60, zlt_61, zlt_98, zlt_99, zlt_100, zlt_119, zlt_120, zlt_998, zlt_999, zlt_9998, zlt_9999, zlt_m1] at *; omega)) rfl (zH.rf)
    · refine x_aload_n Γ dX4_worth_18 rfl ?_
      refine x_iload_n Γ dX4_worth_19 rfl ?_
      refine x_callV Γ calv_X4_seatWorth wl_X4_75 dX4_worth_20 (m_X4_seatWorth (g := g) (T := T) (R := R) (c := c) (by omega)) rfl (by decide) (by decide) rfl rfl rfl rfl (Nat.le_of_ble_eq_true rfl) (Nat.le_refl _) (Nat.le_refl _) ?_
      refine x_goto Γ (tgt := 27) dX4_worth_23 (by decide) ?_
      exact x_iret ρ rfl dX4_worth_27 rfl (by first | (simp [tw, zb, *]; done) | (exfalso; simp_all; done) | (simp [tw, zb, *]; simp only [Int32.lt_iff_toInt_lt, Int32.le_iff_toInt_le, zlt_0, zlt_1, zlt_2, zlt_3, zlt_4, zlt_5, zlt_6, zlt_7, zlt_8, zlt_9, zlt_10, zlt_11, zlt_12, zlt_30, zlt_39, zlt_40, zlt_59, zlt_60, zlt_61, zlt_98, zlt_99, zlt_100, zlt_119, zlt_120, zlt_998, zlt_999, zlt_9998, zlt_9999, zlt_m1] at *; omega)) rfl (zH.rf)
  · refine x_aload_n Γ dX4_worth_5 rfl ?_
    refine x_iload_n Γ dX4_worth_6 rfl ?_
    refine x_callV Γ calv_X4_loafWorth wl_X4_72 dX4_worth_7 (m_X4_loafWorth (g := g) (T := T) (R := R) (c := c) (by omega)) rfl (by decide) (by decide) rfl rfl rfl rfl (Nat.le_of_ble_eq_true rfl) (Nat.le_refl _) (Nat.le_refl _) ?_
    refine x_goto Γ (tgt := 27) dX4_worth_10 (by decide) ?_
    exact x_iret ρ rfl dX4_worth_27 rfl (by first | (simp [tw, zb, *]; done) | (exfalso; simp_all; done) | (simp [tw, zb, *]; simp only [Int32.lt_iff_toInt_lt, Int32.le_iff_toInt_le, zlt_0, zlt_1, zlt_2, zlt_3, zlt_4, zlt_5, zlt_6, zlt_7, zlt_8, zlt_9, zlt_10, zlt_11, zlt_12, zlt_30, zlt_39, zlt_40, zlt_59, zlt_60, zlt_61, zlt_98, zlt_99, zlt_100, zlt_119, zlt_120, zlt_998, zlt_999, zlt_9998, zlt_9999, zlt_m1] at *; omega)) rfl (zH.rf)

set_option maxRecDepth 100000 in
set_option maxHeartbeats 4000000 in
theorem m_X4_draw {g : Nat → zE} {T R : zT} : zM 0 M_X4_draw [.ref 37] (hR g T R) 46 (some (.int (zdr (T 7 7)))) (hR g (drT T) R) 46 0 0 := by
  refine zM.intro (by decide) (Nat.le_of_ble_eq_true rfl) ?_
  intro Wf V m H0 Γ ρ
  replace Γ : zC Wf V m 1 H0 cX4_draw RX4 0 0 0 := Γ
  show zX Wf V m 1 H0 0 (zls [(0, .ref 37)]) [] (hR g T R) 46 0 0
  refine x_aload_n Γ dX4_draw_0 rfl ?_
  refine gf_X4_9 Γ dX4_draw_1 (by decide) rfl rfl ?_
  refine x_bipush Γ (v := 7) dX4_draw_4 rfl ?_
  refine x_aload_n Γ dX4_draw_6 rfl ?_
  refine gf_X4_9 Γ dX4_draw_7 (by decide) rfl rfl ?_
  refine x_bipush Γ (v := 7) dX4_draw_10 rfl ?_
  refine x_iald Γ dX4_draw_12 (by decide) (by rfl) (j := 7) rfl (by decide) (by decide) (mr_s (by decide)) ?_
  refine x_ldc Γ wl_X4_139 dX4_draw_13 ?_
  refine x_imul Γ dX4_draw_15 ?_
  refine x_sipush Γ (v := 12345) dX4_draw_16 rfl ?_
  refine x_iadd Γ dX4_draw_19 ?_
  refine x_iast Γ dX4_draw_20 (by decide) (by rfl) (j := 7) rfl (by decide) (by decide) (hR_ms (by decide)) ?_
  refine x_aload_n Γ dX4_draw_21 rfl ?_
  refine gf_X4_9 Γ dX4_draw_22 (by decide) rfl rfl ?_
  refine x_bipush Γ (v := 7) dX4_draw_25 rfl ?_
  refine x_iald Γ dX4_draw_27 (by decide) (by rfl) (j := 7) rfl (by decide) (by decide) ((mr_s (by decide)).trans ts_s) ?_
  refine x_bipush Γ (v := 8) dX4_draw_28 rfl ?_
  refine x_iushr Γ dX4_draw_30 ?_
  exact x_iret ρ rfl dX4_draw_31 rfl (rfl) rfl (zH.rf)

set_option maxRecDepth 100000 in
set_option maxHeartbeats 4000000 in
theorem m_X4_sum {g : Nat → zE} {T R : zT} {N w : Nat} (hN : wN T N) (hw : w < 6) : zM 1 M_X4_sum [.ref 37, .int (nI w)] (hR g T R) 46 (some (.int (sumW (T w) N))) (hR g T R) 46 0 0 := by
  refine zM.intro (by decide) (Nat.le_of_ble_eq_true rfl) ?_
  intro Wf V m H0 Γ ρ
  replace Γ : zC Wf V m 4 H0 cX4_sum RX4 1 0 0 := Γ
  show zX Wf V m 4 H0 0 (zls [(0, .ref 37), (1, .int (nI w))]) [] (hR g T R) 46 0 0
  have hN2 := hN.2
  refine x_iconst Γ (v := 0) dX4_sum_0 rfl ?_
  refine x_istore_n Γ dX4_sum_1 (by decide) ?_
  refine x_iconst Γ (v := 0) dX4_sum_2 rfl ?_
  refine x_istore_n Γ dX4_sum_3 (by decide) ?_
  suffices L_4 : ∀ (k c : Nat), c ≤ N → N - c < k → zX Wf V m 4 H0 4 (zls [(0, .ref 37), (1, .int (nI w)), (2, .int (sumW (T w) c)), (3, .int (nI c))]) [] (hR g T R) 46 0 0 by
    exact x_subl [(0, .ref 37), (1, .int (nI w)), (2, .int (sumW (T w) 0)), (3, .int (nI 0))] (List.forall_mem_cons.mpr ⟨rfl, List.forall_mem_cons.mpr ⟨rfl, List.forall_mem_cons.mpr ⟨rfl, List.forall_mem_cons.mpr ⟨rfl, fun _ hz => absurd hz List.not_mem_nil⟩⟩⟩⟩) (x_heap (rfl) (L_4 (N + 1) 0 (by omega) (by omega)))
  intro k
  induction k with
  | zero => intro c h1 h2; omega
  | succ k ih =>
    intro c h1 h2
    refine x_iload_n Γ dX4_sum_4 rfl ?_
    refine x_aload_n Γ dX4_sum_5 rfl ?_
    refine gf_X4_9 Γ dX4_sum_6 (by decide) rfl rfl ?_
    refine x_bipush Γ (v := 8) dX4_sum_9 rfl ?_
    refine x_iald Γ dX4_sum_11 (by decide) (by rfl) (j := 8) rfl (by decide) (by decide) (mr_s (by decide)) ?_
    refine x_icmp_ge Γ (tgt := 30) dX4_sum_12 (by decide) (fun c_1 => ?_) (fun c_1 => ?_)
    · rw [hN.1] at c_1
      have c_1 := z_le c_1 (by omega) (by omega)
      obtain rfl : c = N := by omega
      refine x_iload_n Γ dX4_sum_30 rfl ?_
      exact x_iret ρ rfl dX4_sum_31 rfl (rfl) rfl (zH.rf)
    · rw [hN.1] at c_1
      have c_1 := z_nle c_1 (by omega) (by omega)
      refine x_iload_n Γ dX4_sum_15 rfl ?_
      refine x_aload_n Γ dX4_sum_16 rfl ?_
      refine x_iload_n Γ dX4_sum_17 rfl ?_
      refine x_iload_n Γ dX4_sum_18 rfl ?_
      refine x_callV Γ calv_X4_is wl_X4_63 dX4_sum_19 (m_X4_is (g := g) (T := T) (R := R) (c := c) (w := w) (by omega) hw) rfl (by decide) (by decide) rfl rfl rfl rfl (Nat.le_of_ble_eq_true rfl) (Nat.le_refl _) (Nat.le_refl _) ?_
      refine x_iadd Γ dX4_sum_22 ?_
      refine x_istore_n Γ dX4_sum_23 (by decide) ?_
      refine x_iinc Γ dX4_sum_24 rfl (by first | exact zinc _ | rfl) (by decide) ?_
      refine x_goto Γ (tgt := 4) dX4_sum_27 (by decide) ?_
      exact x_subl [(0, .ref 37), (1, .int (nI w)), (2, .int (sumW (T w) (c + 1))), (3, .int (nI (c + 1)))] (List.forall_mem_cons.mpr ⟨rfl, List.forall_mem_cons.mpr ⟨rfl, List.forall_mem_cons.mpr ⟨rfl, List.forall_mem_cons.mpr ⟨rfl, fun _ hz => absurd hz List.not_mem_nil⟩⟩⟩⟩) (x_heap (rfl) (ih (c + 1) (by omega) (by omega)))

set_option maxRecDepth 100000 in
set_option maxHeartbeats 4000000 in
theorem m_X4_comes {g : Nat → zE} {T R : zT} {N : Nat} (hN : wN T N) (hN9 : N < 10) (a1 a2 a3 a4 a5 : Int32) : zM 1 M_X4_comes [.ref 37, .int a1, .int a2, .int a3, .int a4, .int a5] (hR g T R) 46 (some (.int (nI N))) (hR g (ts (ts (ts (ts (ts (ts (ts T 7 8 (nI N + 1)) 0 N a1) 1 N a2) 2 N a3) 3 N a4) 4 N 0) 5 N a5) R) 46 0 0 := by
  refine zM.intro (by decide) (Nat.le_of_ble_eq_true rfl) ?_
  intro Wf V m H0 Γ ρ
  replace Γ : zC Wf V m 7 H0 cX4_comes RX4 1 0 0 := Γ
  show zX Wf V m 7 H0 0 (zls [(0, .ref 37), (1, .int a1), (2, .int a2), (3, .int a3), (4, .int a4), (5, .int a5)]) [] (hR g T R) 46 0 0
  have hN2 := hN.2
  refine x_aload_n Γ dX4_comes_0 rfl ?_
  refine gf_X4_9 Γ dX4_comes_1 (by decide) rfl rfl ?_
  refine x_bipush Γ (v := 8) dX4_comes_4 rfl ?_
  refine x_iald Γ dX4_comes_6 (by decide) (by rfl) (j := 8) rfl (by decide) (by decide) (mr_s (by decide)) ?_
  refine x_istore Γ dX4_comes_7 (by decide) ?_
  refine x_aload_n Γ dX4_comes_9 rfl ?_
  refine gf_X4_9 Γ dX4_comes_10 (by decide) rfl rfl ?_
  refine x_bipush Γ (v := 8) dX4_comes_13 rfl ?_
  refine x_dup2 Γ dX4_comes_15 rfl rfl ?_
  refine x_iald Γ dX4_comes_16 (by decide) (by rfl) (j := 8) rfl (by decide) (by decide) (mr_s (by decide)) ?_
  refine x_iconst Γ (v := 1) dX4_comes_17 rfl ?_
  refine x_iadd Γ dX4_comes_18 ?_
  refine x_iast Γ dX4_comes_19 (by decide) (by rfl) (j := 8) rfl (by decide) (by decide) (hR_ms (by decide)) ?_
  rw [hN.1]
  refine x_aload_n Γ dX4_comes_20 rfl ?_
  refine x_iload Γ dX4_comes_21 rfl ?_
  refine x_iconst Γ (v := 0) dX4_comes_23 rfl ?_
  refine x_iload_n Γ dX4_comes_24 rfl ?_
  refine x_callVv Γ calv_X4_makes wl_X4_50 dX4_comes_25 (m_X4_makes (g := g) (R := R) (c := N) (w := 0) (by omega) (by decide) a1) rfl (by decide) (by decide) rfl rfl rfl rfl (Nat.le_of_ble_eq_true rfl) (Nat.le_refl _) (Nat.le_refl _) ?_
  refine x_aload_n Γ dX4_comes_28 rfl ?_
  refine x_iload Γ dX4_comes_29 rfl ?_
  refine x_iconst Γ (v := 1) dX4_comes_31 rfl ?_
  refine x_iload_n Γ dX4_comes_32 rfl ?_
  refine x_callVv Γ calv_X4_makes wl_X4_50 dX4_comes_33 (m_X4_makes (g := g) (R := R) (c := N) (w := 1) (by omega) (by decide) a2) rfl (by decide) (by decide) rfl rfl rfl rfl (Nat.le_of_ble_eq_true rfl) (Nat.le_refl _) (Nat.le_refl _) ?_
  refine x_aload_n Γ dX4_comes_36 rfl ?_
  refine x_iload Γ dX4_comes_37 rfl ?_
  refine x_iconst Γ (v := 2) dX4_comes_39 rfl ?_
  refine x_iload_n Γ dX4_comes_40 rfl ?_
  refine x_callVv Γ calv_X4_makes wl_X4_50 dX4_comes_41 (m_X4_makes (g := g) (R := R) (c := N) (w := 2) (by omega) (by decide) a3) rfl (by decide) (by decide) rfl rfl rfl rfl (Nat.le_of_ble_eq_true rfl) (Nat.le_refl _) (Nat.le_refl _) ?_
  refine x_aload_n Γ dX4_comes_44 rfl ?_
  refine x_iload Γ dX4_comes_45 rfl ?_
  refine x_iconst Γ (v := 3) dX4_comes_47 rfl ?_
  refine x_iload Γ dX4_comes_48 rfl ?_
  refine x_callVv Γ calv_X4_makes wl_X4_50 dX4_comes_50 (m_X4_makes (g := g) (R := R) (c := N) (w := 3) (by omega) (by decide) a4) rfl (by decide) (by decide) rfl rfl rfl rfl (Nat.le_of_ble_eq_true rfl) (Nat.le_refl _) (Nat.le_refl _) ?_
  refine x_aload_n Γ dX4_comes_53 rfl ?_
  refine x_iload Γ dX4_comes_54 rfl ?_
  refine x_iconst Γ (v := 4) dX4_comes_56 rfl ?_
  refine x_iconst Γ (v := 0) dX4_comes_57 rfl ?_
  refine x_callVv Γ calv_X4_makes wl_X4_50 dX4_comes_58 (m_X4_makes (g := g) (R := R) (c := N) (w := 4) (by omega) (by decide) 0) rfl (by decide) (by decide) rfl rfl rfl rfl (Nat.le_of_ble_eq_true rfl) (Nat.le_refl _) (Nat.le_refl _) ?_
  refine x_aload_n Γ dX4_comes_61 rfl ?_
  refine x_iload Γ dX4_comes_62 rfl ?_
  refine x_iconst Γ (v := 5) dX4_comes_64 rfl ?_
  refine x_iload Γ dX4_comes_65 rfl ?_
  refine x_callVv Γ calv_X4_makes wl_X4_50 dX4_comes_67 (m_X4_makes (g := g) (R := R) (c := N) (w := 5) (by omega) (by decide) a5) rfl (by decide) (by decide) rfl rfl rfl rfl (Nat.le_of_ble_eq_true rfl) (Nat.le_refl _) (Nat.le_refl _) ?_
  refine x_iload Γ dX4_comes_70 rfl ?_
  exact x_iret ρ rfl dX4_comes_72 rfl (rfl) rfl (zH.rf)
