set_option maxRecDepth 100000 in
set_option maxHeartbeats 4000000 in
theorem m_X3_isKind {h : Nat → zE} (x : Int32) : zM 0 M_X3_isKind [.int x] (h) 46 (some (.int (zb (isK x)))) (h) 46 0 0 := by
  refine zM.intro (by decide) (Nat.le_of_ble_eq_true rfl) ?_
  intro Wf V m H0 Γ ρ
  replace Γ : zC Wf V m 1 H0 cX3_isKind RX3 0 0 0 := Γ
  show zX Wf V m 1 H0 0 (zls [(0, .int x)]) [] (h) 46 0 0
  refine x_iload_n Γ dX3_isKind_0 rfl ?_
  refine x_if_lt Γ (tgt := 14) dX3_isKind_1 (by decide) (fun c_1 => ?_) (fun c_1 => ?_)
  · refine x_iconst Γ (v := 0) dX3_isKind_14 rfl ?_
    exact x_iret ρ rfl dX3_isKind_15 (by first | exact zb_nz _ | rfl) (by first | (simp [isK, zb, *]; done) | (exfalso; simp_all; done) | (simp [isK, zb, *]; simp only [Int32.lt_iff_toInt_lt, Int32.le_iff_toInt_le, zlt_0, zlt_1, zlt_2, zlt_3, zlt_4, zlt_5, zlt_6, zlt_7, zlt_8, zlt_9, zlt_10, zlt_11, zlt_12, zlt_30, zlt_39, zlt_40, zlt_59, zlt_60, zlt_61, zlt_98, zlt_99, zlt_100, zlt_119, zlt_120, zlt_998, zlt_999, zlt_9998, zlt_9999, zlt_m1] at *; omega)) rfl (zH.rf)
  · refine x_iload_n Γ dX3_isKind_4 rfl ?_
    refine x_bipush Γ (v := 7) dX3_isKind_5 rfl ?_
    refine x_icmp_ge Γ (tgt := 14) dX3_isKind_7 (by decide) (fun c_2 => ?_) (fun c_2 => ?_)
    · refine x_iconst Γ (v := 0) dX3_isKind_14 rfl ?_
      exact x_iret ρ rfl dX3_isKind_15 (by first | exact zb_nz _ | rfl) (by first | (simp [isK, zb, *]; done) | (exfalso; simp_all; done) | (simp [isK, zb, *]; simp only [Int32.lt_iff_toInt_lt, Int32.le_iff_toInt_le, zlt_0, zlt_1, zlt_2, zlt_3, zlt_4, zlt_5, zlt_6, zlt_7, zlt_8, zlt_9, zlt_10, zlt_11, zlt_12, zlt_30, zlt_39, zlt_40, zlt_59, zlt_60, zlt_61, zlt_98, zlt_99, zlt_100, zlt_119, zlt_120, zlt_998, zlt_999, zlt_9998, zlt_9999, zlt_m1] at *; omega)) rfl (zH.rf)
    · refine x_iconst Γ (v := 1) dX3_isKind_10 rfl ?_
      refine x_goto Γ (tgt := 15) dX3_isKind_11 (by decide) ?_
      exact x_iret ρ rfl dX3_isKind_15 (by first | exact zb_nz _ | rfl) (by first | (simp [isK, zb, *]; done) | (exfalso; simp_all; done) | (simp [isK, zb, *]; simp only [Int32.lt_iff_toInt_lt, Int32.le_iff_toInt_le, zlt_0, zlt_1, zlt_2, zlt_3, zlt_4, zlt_5, zlt_6, zlt_7, zlt_8, zlt_9, zlt_10, zlt_11, zlt_12, zlt_30, zlt_39, zlt_40, zlt_59, zlt_60, zlt_61, zlt_98, zlt_99, zlt_100, zlt_119, zlt_120, zlt_998, zlt_999, zlt_9998, zlt_9999, zlt_m1] at *; omega)) rfl (zH.rf)

set_option maxRecDepth 100000 in
set_option maxHeartbeats 4000000 in
theorem m_X0_houses {g : Nat → zE} {b : Nat} {T : zT} (hb : b + 7 < 46) (c : Int32) : zM 0 M_X0_houses [.ref b, .int c] (hC g b T) 46 (some (.int (zb (hs T c)))) (hC g b T) 46 0 0 := by
  refine zM.intro (by decide) (Nat.le_of_ble_eq_true rfl) ?_
  intro Wf V m H0 Γ ρ
  replace Γ : zC Wf V m 2 H0 cX0_houses RX0 0 0 0 := Γ
  show zX Wf V m 2 H0 0 (zls [(0, .ref b), (1, .int c)]) [] (hC g b T) 46 0 0
  have hb0 : b < 46 := by omega
  have hb1 : b + 1 < 46 := by omega
  have hb2 : b + 2 < 46 := by omega
  have hb3 : b + 3 < 46 := by omega
  have hb4 : b + 4 < 46 := by omega
  have hb5 : b + 5 < 46 := by omega
  have hb6 : b + 6 < 46 := by omega
  have hb7 : b + 7 < 46 := by omega
  refine x_iload_n Γ dX0_houses_0 rfl ?_
  refine x_if_lt Γ (tgt := 16) dX0_houses_1 (by decide) (fun c_1 => ?_) (fun c_1 => ?_)
  · refine x_iconst Γ (v := 0) dX0_houses_16 rfl ?_
    exact x_iret ρ rfl dX0_houses_17 (by first | exact zb_nz _ | rfl) (by first | (simp [hs, zb, *]; done) | (exfalso; simp_all; done) | (simp [hs, zb, *]; simp only [Int32.lt_iff_toInt_lt, Int32.le_iff_toInt_le, zlt_0, zlt_1, zlt_2, zlt_3, zlt_4, zlt_5, zlt_6, zlt_7, zlt_8, zlt_9, zlt_10, zlt_11, zlt_12, zlt_30, zlt_39, zlt_40, zlt_59, zlt_60, zlt_61, zlt_98, zlt_99, zlt_100, zlt_119, zlt_120, zlt_998, zlt_999, zlt_9998, zlt_9999, zlt_m1] at *; omega)) rfl (zH.rf)
  · refine x_iload_n Γ dX0_houses_4 rfl ?_
    refine x_aload_n Γ dX0_houses_5 rfl ?_
    refine gf_X0_33 Γ dX0_houses_6 hb0 hC_o rfl ?_
    refine x_icmp_ge Γ (tgt := 16) dX0_houses_9 (by decide) (fun c_2 => ?_) (fun c_2 => ?_)
    · refine x_iconst Γ (v := 0) dX0_houses_16 rfl ?_
      exact x_iret ρ rfl dX0_houses_17 (by first | exact zb_nz _ | rfl) (by first | (simp [hs, zb, *]; done) | (exfalso; simp_all; done) | (simp [hs, zb, *]; simp only [Int32.lt_iff_toInt_lt, Int32.le_iff_toInt_le, zlt_0, zlt_1, zlt_2, zlt_3, zlt_4, zlt_5, zlt_6, zlt_7, zlt_8, zlt_9, zlt_10, zlt_11, zlt_12, zlt_30, zlt_39, zlt_40, zlt_59, zlt_60, zlt_61, zlt_98, zlt_99, zlt_100, zlt_119, zlt_120, zlt_998, zlt_999, zlt_9998, zlt_9999, zlt_m1] at *; omega)) rfl (zH.rf)
    · refine x_iconst Γ (v := 1) dX0_houses_12 rfl ?_
      refine x_goto Γ (tgt := 17) dX0_houses_13 (by decide) ?_
      exact x_iret ρ rfl dX0_houses_17 (by first | exact zb_nz _ | rfl) (by first | (simp [hs, zb, *]; done) | (exfalso; simp_all; done) | (simp [hs, zb, *]; simp only [Int32.lt_iff_toInt_lt, Int32.le_iff_toInt_le, zlt_0, zlt_1, zlt_2, zlt_3, zlt_4, zlt_5, zlt_6, zlt_7, zlt_8, zlt_9, zlt_10, zlt_11, zlt_12, zlt_30, zlt_39, zlt_40, zlt_59, zlt_60, zlt_61, zlt_98, zlt_99, zlt_100, zlt_119, zlt_120, zlt_998, zlt_999, zlt_9998, zlt_9999, zlt_m1] at *; omega)) rfl (zH.rf)

set_option maxRecDepth 100000 in
set_option maxHeartbeats 4000000 in
theorem m_X0_hasTrait {h : Nat → zE} (x : Int32) : zM 0 M_X0_hasTrait [.int x] (h) 46 (some (.int (zb (!decide (x < 0) && !decide (5 < x) && !decide (x = 4))))) (h) 46 0 0 := by
  refine zM.intro (by decide) (Nat.le_of_ble_eq_true rfl) ?_
  intro Wf V m H0 Γ ρ
  replace Γ : zC Wf V m 1 H0 cX0_hasTrait RX0 0 0 0 := Γ
  show zX Wf V m 1 H0 0 (zls [(0, .int x)]) [] (h) 46 0 0
  refine x_iload_n Γ dX0_hasTrait_0 rfl ?_
  refine x_if_lt Γ (tgt := 18) dX0_hasTrait_1 (by decide) (fun c_1 => ?_) (fun c_1 => ?_)
  · refine x_iconst Γ (v := 0) dX0_hasTrait_18 rfl ?_
    exact x_iret ρ rfl dX0_hasTrait_19 (by first | exact zb_nz _ | rfl) (by first | (simp [zb_0, zb, *]; done) | (exfalso; simp_all; done) | (simp [zb_0, zb, *]; simp only [Int32.lt_iff_toInt_lt, Int32.le_iff_toInt_le, zlt_0, zlt_1, zlt_2, zlt_3, zlt_4, zlt_5, zlt_6, zlt_7, zlt_8, zlt_9, zlt_10, zlt_11, zlt_12, zlt_30, zlt_39, zlt_40, zlt_59, zlt_60, zlt_61, zlt_98, zlt_99, zlt_100, zlt_119, zlt_120, zlt_998, zlt_999, zlt_9998, zlt_9999, zlt_m1] at *; omega)) rfl (zH.rf)
  · refine x_iload_n Γ dX0_hasTrait_4 rfl ?_
    refine x_iconst Γ (v := 5) dX0_hasTrait_5 rfl ?_
    refine x_icmp_gt Γ (tgt := 18) dX0_hasTrait_6 (by decide) (fun c_2 => ?_) (fun c_2 => ?_)
    · refine x_iconst Γ (v := 0) dX0_hasTrait_18 rfl ?_
      exact x_iret ρ rfl dX0_hasTrait_19 (by first | exact zb_nz _ | rfl) (by first | (simp [zb_0, zb, *]; done) | (exfalso; simp_all; done) | (simp [zb_0, zb, *]; simp only [Int32.lt_iff_toInt_lt, Int32.le_iff_toInt_le, zlt_0, zlt_1, zlt_2, zlt_3, zlt_4, zlt_5, zlt_6, zlt_7, zlt_8, zlt_9, zlt_10, zlt_11, zlt_12, zlt_30, zlt_39, zlt_40, zlt_59, zlt_60, zlt_61, zlt_98, zlt_99, zlt_100, zlt_119, zlt_120, zlt_998, zlt_999, zlt_9998, zlt_9999, zlt_m1] at *; omega)) rfl (zH.rf)
    · refine x_iload_n Γ dX0_hasTrait_9 rfl ?_
      refine x_iconst Γ (v := 4) dX0_hasTrait_10 rfl ?_
      refine x_icmp_eq Γ (tgt := 18) dX0_hasTrait_11 (by decide) (fun c_3 => ?_) (fun c_3 => ?_)
      · refine x_iconst Γ (v := 0) dX0_hasTrait_18 rfl ?_
        exact x_iret ρ rfl dX0_hasTrait_19 (by first | exact zb_nz _ | rfl) (by first | (simp [zb_0, zb, *]; done) | (exfalso; simp_all; done) | (simp [zb_0, zb, *]; simp only [Int32.lt_iff_toInt_lt, Int32.le_iff_toInt_le, zlt_0, zlt_1, zlt_2, zlt_3, zlt_4, zlt_5, zlt_6, zlt_7, zlt_8, zlt_9, zlt_10, zlt_11, zlt_12, zlt_30, zlt_39, zlt_40, zlt_59, zlt_60, zlt_61, zlt_98, zlt_99, zlt_100, zlt_119, zlt_120, zlt_998, zlt_999, zlt_9998, zlt_9999, zlt_m1] at *; omega)) rfl (zH.rf)
      · refine x_iconst Γ (v := 1) dX0_hasTrait_14 rfl ?_
        refine x_goto Γ (tgt := 19) dX0_hasTrait_15 (by decide) ?_
        exact x_iret ρ rfl dX0_hasTrait_19 (by first | exact zb_nz _ | rfl) (by first | (simp [zb_0, zb, *]; done) | (exfalso; simp_all; done) | (simp [zb_0, zb, *]; simp only [Int32.lt_iff_toInt_lt, Int32.le_iff_toInt_le, zlt_0, zlt_1, zlt_2, zlt_3, zlt_4, zlt_5, zlt_6, zlt_7, zlt_8, zlt_9, zlt_10, zlt_11, zlt_12, zlt_30, zlt_39, zlt_40, zlt_59, zlt_60, zlt_61, zlt_98, zlt_99, zlt_100, zlt_119, zlt_120, zlt_998, zlt_999, zlt_9998, zlt_9999, zlt_m1] at *; omega)) rfl (zH.rf)

set_option maxRecDepth 100000 in
set_option maxHeartbeats 4000000 in
theorem m_X0_allowsTrait {h : Nat → zE} (w v : Int32) : zM 1 M_X0_allowsTrait [.int w, .int v] (h) 46 (some (.int (zb (okT w v)))) (h) 46 0 0 := by
  refine zM.intro (by decide) (Nat.le_of_ble_eq_true rfl) ?_
  intro Wf V m H0 Γ ρ
  replace Γ : zC Wf V m 2 H0 cX0_allowsTrait RX0 1 0 0 := Γ
  show zX Wf V m 2 H0 0 (zls [(0, .int w), (1, .int v)]) [] (h) 46 0 0
  refine x_iload_n Γ dX0_allowsTrait_0 rfl ?_
  refine x_tab6 Γ (a0 := 0) (a1 := 1) (a2 := 2) (a3 := 3) (a4 := 4) (a5 := 5) (t0 := 40) (t1 := 45) (t2 := 61) (t3 := 76) (t4 := 108) (t5 := 93) (td := 108) dX0_allowsTrait_1 (by decide +kernel) (fun c_1 => ?_) (fun c_1 => ?_) (fun c_1 => ?_) (fun c_1 => ?_) (fun c_1 => ?_) (fun c_1 => ?_) (fun c_1_0 c_1_1 c_1_2 c_1_3 c_1_4 c_1_5 => ?_)
  · refine x_iload_n Γ dX0_allowsTrait_40 rfl ?_
    refine x_callNS Γ cals_X3_isKind dX0_allowsTrait_41 (m_X3_isKind v) rfl (by decide) rfl (Nat.le_of_ble_eq_true rfl) (Nat.le_refl _) (Nat.le_refl _) ?_
    exact x_iret ρ rfl dX0_allowsTrait_44 (by first | exact zb_nz _ | rfl) (by first | (simp [okT, inR, zb, *]; done) | (exfalso; simp_all; done) | (simp [okT, inR, zb, *]; simp only [Int32.lt_iff_toInt_lt, Int32.le_iff_toInt_le, zlt_0, zlt_1, zlt_2, zlt_3, zlt_4, zlt_5, zlt_6, zlt_7, zlt_8, zlt_9, zlt_10, zlt_11, zlt_12, zlt_30, zlt_39, zlt_40, zlt_59, zlt_60, zlt_61, zlt_98, zlt_99, zlt_100, zlt_119, zlt_120, zlt_998, zlt_999, zlt_9998, zlt_9999, zlt_m1] at *; omega)) rfl (zH.rf)
  · refine x_iload_n Γ dX0_allowsTrait_45 rfl ?_
    refine x_if_lt Γ (tgt := 59) dX0_allowsTrait_46 (by decide) (fun c_2 => ?_) (fun c_2 => ?_)
    · refine x_iconst Γ (v := 0) dX0_allowsTrait_59 rfl ?_
      exact x_iret ρ rfl dX0_allowsTrait_60 (by first | exact zb_nz _ | rfl) (by first | (simp [okT, inR, zb, *]; done) | (exfalso; simp_all; done) | (simp [okT, inR, zb, *]; simp only [Int32.lt_iff_toInt_lt, Int32.le_iff_toInt_le, zlt_0, zlt_1, zlt_2, zlt_3, zlt_4, zlt_5, zlt_6, zlt_7, zlt_8, zlt_9, zlt_10, zlt_11, zlt_12, zlt_30, zlt_39, zlt_40, zlt_59, zlt_60, zlt_61, zlt_98, zlt_99, zlt_100, zlt_119, zlt_120, zlt_998, zlt_999, zlt_9998, zlt_9999, zlt_m1] at *; omega)) rfl (zH.rf)
    · refine x_iload_n Γ dX0_allowsTrait_49 rfl ?_
      refine x_bipush Γ (v := 9) dX0_allowsTrait_50 rfl ?_
      refine x_icmp_gt Γ (tgt := 59) dX0_allowsTrait_52 (by decide) (fun c_3 => ?_) (fun c_3 => ?_)
      · refine x_iconst Γ (v := 0) dX0_allowsTrait_59 rfl ?_
        exact x_iret ρ rfl dX0_allowsTrait_60 (by first | exact zb_nz _ | rfl) (by first | (simp [okT, inR, zb, *]; done) | (exfalso; simp_all; done) | (simp [okT, inR, zb, *]; simp only [Int32.lt_iff_toInt_lt, Int32.le_iff_toInt_le, zlt_0, zlt_1, zlt_2, zlt_3, zlt_4, zlt_5, zlt_6, zlt_7, zlt_8, zlt_9, zlt_10, zlt_11, zlt_12, zlt_30, zlt_39, zlt_40, zlt_59, zlt_60, zlt_61, zlt_98, zlt_99, zlt_100, zlt_119, zlt_120, zlt_998, zlt_999, zlt_9998, zlt_9999, zlt_m1] at *; omega)) rfl (zH.rf)
      · refine x_iconst Γ (v := 1) dX0_allowsTrait_55 rfl ?_
        refine x_goto Γ (tgt := 60) dX0_allowsTrait_56 (by decide) ?_
        exact x_iret ρ rfl dX0_allowsTrait_60 (by first | exact zb_nz _ | rfl) (by first | (simp [okT, inR, zb, *]; done) | (exfalso; simp_all; done) | (simp [okT, inR, zb, *]; simp only [Int32.lt_iff_toInt_lt, Int32.le_iff_toInt_le, zlt_0, zlt_1, zlt_2, zlt_3, zlt_4, zlt_5, zlt_6, zlt_7, zlt_8, zlt_9, zlt_10, zlt_11, zlt_12, zlt_30, zlt_39, zlt_40, zlt_59, zlt_60, zlt_61, zlt_98, zlt_99, zlt_100, zlt_119, zlt_120, zlt_998, zlt_999, zlt_9998, zlt_9999, zlt_m1] at *; omega)) rfl (zH.rf)
  · refine x_iload_n Γ dX0_allowsTrait_61 rfl ?_
    refine x_if_lt Γ (tgt := 74) dX0_allowsTrait_62 (by decide) (fun c_4 => ?_) (fun c_4 => ?_)
    · refine x_iconst Γ (v := 0) dX0_allowsTrait_74 rfl ?_
      exact x_iret ρ rfl dX0_allowsTrait_75 (by first | exact zb_nz _ | rfl) (by first | (simp [okT, inR, zb, *]; done) | (exfalso; simp_all; done) | (simp [okT, inR, zb, *]; simp only [Int32.lt_iff_toInt_lt, Int32.le_iff_toInt_le, zlt_0, zlt_1, zlt_2, zlt_3, zlt_4, zlt_5, zlt_6, zlt_7, zlt_8, zlt_9, zlt_10, zlt_11, zlt_12, zlt_30, zlt_39, zlt_40, zlt_59, zlt_60, zlt_61, zlt_98, zlt_99, zlt_100, zlt_119, zlt_120, zlt_998, zlt_999, zlt_9998, zlt_9999, zlt_m1] at *; omega)) rfl (zH.rf)
    · refine x_iload_n Γ dX0_allowsTrait_65 rfl ?_
      refine x_iconst Γ (v := 4) dX0_allowsTrait_66 rfl ?_
      refine x_icmp_ge Γ (tgt := 74) dX0_allowsTrait_67 (by decide) (fun c_5 => ?_) (fun c_5 => ?_)
      · refine x_iconst Γ (v := 0) dX0_allowsTrait_74 rfl ?_
        exact x_iret ρ rfl dX0_allowsTrait_75 (by first | exact zb_nz _ | rfl) (by first | (simp [okT, inR, zb, *]; done) | (exfalso; simp_all; done) | (simp [okT, inR, zb, *]; simp only [Int32.lt_iff_toInt_lt, Int32.le_iff_toInt_le, zlt_0, zlt_1, zlt_2, zlt_3, zlt_4, zlt_5, zlt_6, zlt_7, zlt_8, zlt_9, zlt_10, zlt_11, zlt_12, zlt_30, zlt_39, zlt_40, zlt_59, zlt_60, zlt_61, zlt_98, zlt_99, zlt_100, zlt_119, zlt_120, zlt_998, zlt_999, zlt_9998, zlt_9999, zlt_m1] at *; omega)) rfl (zH.rf)
      · refine x_iconst Γ (v := 1) dX0_allowsTrait_70 rfl ?_
        refine x_goto Γ (tgt := 75) dX0_allowsTrait_71 (by decide) ?_
        exact x_iret ρ rfl dX0_allowsTrait_75 (by first | exact zb_nz _ | rfl) (by first | (simp [okT, inR, zb, *]; done) | (exfalso; simp_all; done) | (simp [okT, inR, zb, *]; simp only [Int32.lt_iff_toInt_lt, Int32.le_iff_toInt_le, zlt_0, zlt_1, zlt_2, zlt_3, zlt_4, zlt_5, zlt_6, zlt_7, zlt_8, zlt_9, zlt_10, zlt_11, zlt_12, zlt_30, zlt_39, zlt_40, zlt_59, zlt_60, zlt_61, zlt_98, zlt_99, zlt_100, zlt_119, zlt_120, zlt_998, zlt_999, zlt_9998, zlt_9999, zlt_m1] at *; omega)) rfl (zH.rf)
  · refine x_iload_n Γ dX0_allowsTrait_76 rfl ?_
    refine x_if_lt Γ (tgt := 91) dX0_allowsTrait_77 (by decide) (fun c_6 => ?_) (fun c_6 => ?_)
    · refine x_iconst Γ (v := 0) dX0_allowsTrait_91 rfl ?_
      exact x_iret ρ rfl dX0_allowsTrait_92 (by first | exact zb_nz _ | rfl) (by first | (simp [okT, inR, zb, *]; done) | (exfalso; simp_all; done) | (simp [okT, inR, zb, *]; simp only [Int32.lt_iff_toInt_lt, Int32.le_iff_toInt_le, zlt_0, zlt_1, zlt_2, zlt_3, zlt_4, zlt_5, zlt_6, zlt_7, zlt_8, zlt_9, zlt_10, zlt_11, zlt_12, zlt_30, zlt_39, zlt_40, zlt_59, zlt_60, zlt_61, zlt_98, zlt_99, zlt_100, zlt_119, zlt_120, zlt_998, zlt_999, zlt_9998, zlt_9999, zlt_m1] at *; omega)) rfl (zH.rf)
    · refine x_iload_n Γ dX0_allowsTrait_80 rfl ?_
      refine x_sipush Γ (v := 9999) dX0_allowsTrait_81 rfl ?_
      refine x_icmp_gt Γ (tgt := 91) dX0_allowsTrait_84 (by decide) (fun c_7 => ?_) (fun c_7 => ?_)
      · refine x_iconst Γ (v := 0) dX0_allowsTrait_91 rfl ?_
        exact x_iret ρ rfl dX0_allowsTrait_92 (by first | exact zb_nz _ | rfl) (by first | (simp [okT, inR, zb, *]; done) | (exfalso; simp_all; done) | (simp [okT, inR, zb, *]; simp only [Int32.lt_iff_toInt_lt, Int32.le_iff_toInt_le, zlt_0, zlt_1, zlt_2, zlt_3, zlt_4, zlt_5, zlt_6, zlt_7, zlt_8, zlt_9, zlt_10, zlt_11, zlt_12, zlt_30, zlt_39, zlt_40, zlt_59, zlt_60, zlt_61, zlt_98, zlt_99, zlt_100, zlt_119, zlt_120, zlt_998, zlt_999, zlt_9998, zlt_9999, zlt_m1] at *; omega)) rfl (zH.rf)
      · refine x_iconst Γ (v := 1) dX0_allowsTrait_87 rfl ?_
        refine x_goto Γ (tgt := 92) dX0_allowsTrait_88 (by decide) ?_
        exact x_iret ρ rfl dX0_allowsTrait_92 (by first | exact zb_nz _ | rfl) (by first | (simp [okT, inR, zb, *]; done) | (exfalso; simp_all; done) | (simp [okT, inR, zb, *]; simp only [Int32.lt_iff_toInt_lt, Int32.le_iff_toInt_le, zlt_0, zlt_1, zlt_2, zlt_3, zlt_4, zlt_5, zlt_6, zlt_7, zlt_8, zlt_9, zlt_10, zlt_11, zlt_12, zlt_30, zlt_39, zlt_40, zlt_59, zlt_60, zlt_61, zlt_98, zlt_99, zlt_100, zlt_119, zlt_120, zlt_998, zlt_999, zlt_9998, zlt_9999, zlt_m1] at *; omega)) rfl (zH.rf)
  · refine x_iconst Γ (v := 0) dX0_allowsTrait_108 rfl ?_
    exact x_iret ρ rfl dX0_allowsTrait_109 (by first | exact zb_nz _ | rfl) (by first | (simp [okT, inR, zb, *]; done) | (exfalso; simp_all; done) | (simp [okT, inR, zb, *]; simp only [Int32.lt_iff_toInt_lt, Int32.le_iff_toInt_le, zlt_0, zlt_1, zlt_2, zlt_3, zlt_4, zlt_5, zlt_6, zlt_7, zlt_8, zlt_9, zlt_10, zlt_11, zlt_12, zlt_30, zlt_39, zlt_40, zlt_59, zlt_60, zlt_61, zlt_98, zlt_99, zlt_100, zlt_119, zlt_120, zlt_998, zlt_999, zlt_9998, zlt_9999, zlt_m1] at *; omega)) rfl (zH.rf)
  · refine x_iload_n Γ dX0_allowsTrait_93 rfl ?_
    refine x_if_lt Γ (tgt := 106) dX0_allowsTrait_94 (by decide) (fun c_8 => ?_) (fun c_8 => ?_)
    · refine x_iconst Γ (v := 0) dX0_allowsTrait_106 rfl ?_
      exact x_iret ρ rfl dX0_allowsTrait_107 (by first | exact zb_nz _ | rfl) (by first | (simp [okT, inR, zb, *]; done) | (exfalso; simp_all; done) | (simp [okT, inR, zb, *]; simp only [Int32.lt_iff_toInt_lt, Int32.le_iff_toInt_le, zlt_0, zlt_1, zlt_2, zlt_3, zlt_4, zlt_5, zlt_6, zlt_7, zlt_8, zlt_9, zlt_10, zlt_11, zlt_12, zlt_30, zlt_39, zlt_40, zlt_59, zlt_60, zlt_61, zlt_98, zlt_99, zlt_100, zlt_119, zlt_120, zlt_998, zlt_999, zlt_9998, zlt_9999, zlt_m1] at *; omega)) rfl (zH.rf)
    · refine x_iload_n Γ dX0_allowsTrait_97 rfl ?_
      refine x_iconst Γ (v := 2) dX0_allowsTrait_98 rfl ?_
      refine x_icmp_gt Γ (tgt := 106) dX0_allowsTrait_99 (by decide) (fun c_9 => ?_) (fun c_9 => ?_)
      · refine x_iconst Γ (v := 0) dX0_allowsTrait_106 rfl ?_
        exact x_iret ρ rfl dX0_allowsTrait_107 (by first | exact zb_nz _ | rfl) (by first | (simp [okT, inR, zb, *]; done) | (exfalso; simp_all; done) | (simp [okT, inR, zb, *]; simp only [Int32.lt_iff_toInt_lt, Int32.le_iff_toInt_le, zlt_0, zlt_1, zlt_2, zlt_3, zlt_4, zlt_5, zlt_6, zlt_7, zlt_8, zlt_9, zlt_10, zlt_11, zlt_12, zlt_30, zlt_39, zlt_40, zlt_59, zlt_60, zlt_61, zlt_98, zlt_99, zlt_100, zlt_119, zlt_120, zlt_998, zlt_999, zlt_9998, zlt_9999, zlt_m1] at *; omega)) rfl (zH.rf)
      · refine x_iconst Γ (v := 1) dX0_allowsTrait_102 rfl ?_
        refine x_goto Γ (tgt := 107) dX0_allowsTrait_103 (by decide) ?_
        exact x_iret ρ rfl dX0_allowsTrait_107 (by first | exact zb_nz _ | rfl) (by first | (simp [okT, inR, zb, *]; done) | (exfalso; simp_all; done) | (simp [okT, inR, zb, *]; simp only [Int32.lt_iff_toInt_lt, Int32.le_iff_toInt_le, zlt_0, zlt_1, zlt_2, zlt_3, zlt_4, zlt_5, zlt_6, zlt_7, zlt_8, zlt_9, zlt_10, zlt_11, zlt_12, zlt_30, zlt_39, zlt_40, zlt_59, zlt_60, zlt_61, zlt_98, zlt_99, zlt_100, zlt_119, zlt_120, zlt_998, zlt_999, zlt_9998, zlt_9999, zlt_m1] at *; omega)) rfl (zH.rf)
  · refine x_iconst Γ (v := 0) dX0_allowsTrait_108 rfl ?_
    exact x_iret ρ rfl dX0_allowsTrait_109 (by first | exact zb_nz _ | rfl) (by first | (simp [okT, inR, zb, *]; done) | (exfalso; simp_all; done) | (simp [okT, inR, zb, *]; simp only [Int32.lt_iff_toInt_lt, Int32.le_iff_toInt_le, zlt_0, zlt_1, zlt_2, zlt_3, zlt_4, zlt_5, zlt_6, zlt_7, zlt_8, zlt_9, zlt_10, zlt_11, zlt_12, zlt_30, zlt_39, zlt_40, zlt_59, zlt_60, zlt_61, zlt_98, zlt_99, zlt_100, zlt_119, zlt_120, zlt_998, zlt_999, zlt_9998, zlt_9999, zlt_m1] at *; omega)) rfl (zH.rf)

set_option maxRecDepth 100000 in
set_option maxHeartbeats 4000000 in
theorem m_X0_allowsRule {h : Nat → zE} (w v : Int32) : zM 0 M_X0_allowsRule [.int w, .int v] (h) 46 (some (.int (zb (okR w v)))) (h) 46 0 0 := by
  refine zM.intro (by decide) (Nat.le_of_ble_eq_true rfl) ?_
  intro Wf V m H0 Γ ρ
  replace Γ : zC Wf V m 2 H0 cX0_allowsRule RX0 0 0 0 := Γ
  show zX Wf V m 2 H0 0 (zls [(0, .int w), (1, .int v)]) [] (h) 46 0 0
  refine x_iload_n Γ dX0_allowsRule_0 rfl ?_
  refine x_tab5 Γ (a0 := 0) (a1 := 1) (a2 := 2) (a3 := 3) (a4 := 4) (t0 := 36) (t1 := 36) (t2 := 52) (t3 := 69) (t4 := 84) (td := 99) dX0_allowsRule_1 (by decide +kernel) (fun c_1 => ?_) (fun c_1 => ?_) (fun c_1 => ?_) (fun c_1 => ?_) (fun c_1 => ?_) (fun c_1_0 c_1_1 c_1_2 c_1_3 c_1_4 => ?_)
  · refine x_iload_n Γ dX0_allowsRule_36 rfl ?_
    refine x_if_lt Γ (tgt := 50) dX0_allowsRule_37 (by decide) (fun c_2 => ?_) (fun c_2 => ?_)
    · refine x_iconst Γ (v := 0) dX0_allowsRule_50 rfl ?_
      exact x_iret ρ rfl dX0_allowsRule_51 (by first | exact zb_nz _ | rfl) (by first | (simp [okR, inR, zb, *]; done) | (exfalso; simp_all; done) | (simp [okR, inR, zb, *]; simp only [Int32.lt_iff_toInt_lt, Int32.le_iff_toInt_le, zlt_0, zlt_1, zlt_2, zlt_3, zlt_4, zlt_5, zlt_6, zlt_7, zlt_8, zlt_9, zlt_10, zlt_11, zlt_12, zlt_30, zlt_39, zlt_40, zlt_59, zlt_60, zlt_61, zlt_98, zlt_99, zlt_100, zlt_119, zlt_120, zlt_998, zlt_999, zlt_9998, zlt_9999, zlt_m1] at *; omega)) rfl (zH.rf)
    · refine x_iload_n Γ dX0_allowsRule_40 rfl ?_
      refine x_bipush Γ (v := 10) dX0_allowsRule_41 rfl ?_
      refine x_icmp_gt Γ (tgt := 50) dX0_allowsRule_43 (by decide) (fun c_3 => ?_) (fun c_3 => ?_)
      · refine x_iconst Γ (v := 0) dX0_allowsRule_50 rfl ?_
        exact x_iret ρ rfl dX0_allowsRule_51 (by first | exact zb_nz _ | rfl) (by first | (simp [okR, inR, zb, *]; done) | (exfalso; simp_all; done) | (simp [okR, inR, zb, *]; simp only [Int32.lt_iff_toInt_lt, Int32.le_iff_toInt_le, zlt_0, zlt_1, zlt_2, zlt_3, zlt_4, zlt_5, zlt_6, zlt_7, zlt_8, zlt_9, zlt_10, zlt_11, zlt_12, zlt_30, zlt_39, zlt_40, zlt_59, zlt_60, zlt_61, zlt_98, zlt_99, zlt_100, zlt_119, zlt_120, zlt_998, zlt_999, zlt_9998, zlt_9999, zlt_m1] at *; omega)) rfl (zH.rf)
      · refine x_iconst Γ (v := 1) dX0_allowsRule_46 rfl ?_
        refine x_goto Γ (tgt := 51) dX0_allowsRule_47 (by decide) ?_
        exact x_iret ρ rfl dX0_allowsRule_51 (by first | exact zb_nz _ | rfl) (by first | (simp [okR, inR, zb, *]; done) | (exfalso; simp_all; done) | (simp [okR, inR, zb, *]; simp only [Int32.lt_iff_toInt_lt, Int32.le_iff_toInt_le, zlt_0, zlt_1, zlt_2, zlt_3, zlt_4, zlt_5, zlt_6, zlt_7, zlt_8, zlt_9, zlt_10, zlt_11, zlt_12, zlt_30, zlt_39, zlt_40, zlt_59, zlt_60, zlt_61, zlt_98, zlt_99, zlt_100, zlt_119, zlt_120, zlt_998, zlt_999, zlt_9998, zlt_9999, zlt_m1] at *; omega)) rfl (zH.rf)
  · refine x_iload_n Γ dX0_allowsRule_36 rfl ?_
    refine x_if_lt Γ (tgt := 50) dX0_allowsRule_37 (by decide) (fun c_4 => ?_) (fun c_4 => ?_)
    · refine x_iconst Γ (v := 0) dX0_allowsRule_50 rfl ?_
      exact x_iret ρ rfl dX0_allowsRule_51 (by first | exact zb_nz _ | rfl) (by first | (simp [okR, inR, zb, *]; done) | (exfalso; simp_all; done) | (simp [okR, inR, zb, *]; simp only [Int32.lt_iff_toInt_lt, Int32.le_iff_toInt_le, zlt_0, zlt_1, zlt_2, zlt_3, zlt_4, zlt_5, zlt_6, zlt_7, zlt_8, zlt_9, zlt_10, zlt_11, zlt_12, zlt_30, zlt_39, zlt_40, zlt_59, zlt_60, zlt_61, zlt_98, zlt_99, zlt_100, zlt_119, zlt_120, zlt_998, zlt_999, zlt_9998, zlt_9999, zlt_m1] at *; omega)) rfl (zH.rf)
    · refine x_iload_n Γ dX0_allowsRule_40 rfl ?_
      refine x_bipush Γ (v := 10) dX0_allowsRule_41 rfl ?_
      refine x_icmp_gt Γ (tgt := 50) dX0_allowsRule_43 (by decide) (fun c_5 => ?_) (fun c_5 => ?_)
      · refine x_iconst Γ (v := 0) dX0_allowsRule_50 rfl ?_
        exact x_iret ρ rfl dX0_allowsRule_51 (by first | exact zb_nz _ | rfl) (by first | (simp [okR, inR, zb, *]; done) | (exfalso; simp_all; done) | (simp [okR, inR, zb, *]; simp only [Int32.lt_iff_toInt_lt, Int32.le_iff_toInt_le, zlt_0, zlt_1, zlt_2, zlt_3, zlt_4, zlt_5, zlt_6, zlt_7, zlt_8, zlt_9, zlt_10, zlt_11, zlt_12, zlt_30, zlt_39, zlt_40, zlt_59, zlt_60, zlt_61, zlt_98, zlt_99, zlt_100, zlt_119, zlt_120, zlt_998, zlt_999, zlt_9998, zlt_9999, zlt_m1] at *; omega)) rfl (zH.rf)
      · refine x_iconst Γ (v := 1) dX0_allowsRule_46 rfl ?_
        refine x_goto Γ (tgt := 51) dX0_allowsRule_47 (by decide) ?_
        exact x_iret ρ rfl dX0_allowsRule_51 (by first | exact zb_nz _ | rfl) (by first | (simp [okR, inR, zb, *]; done) | (exfalso; simp_all; done) | (simp [okR, inR, zb, *]; simp only [Int32.lt_iff_toInt_lt, Int32.le_iff_toInt_le, zlt_0, zlt_1, zlt_2, zlt_3, zlt_4, zlt_5, zlt_6, zlt_7, zlt_8, zlt_9, zlt_10, zlt_11, zlt_12, zlt_30, zlt_39, zlt_40, zlt_59, zlt_60, zlt_61, zlt_98, zlt_99, zlt_100, zlt_119, zlt_120, zlt_998, zlt_999, zlt_9998, zlt_9999, zlt_m1] at *; omega)) rfl (zH.rf)
  · refine x_iload_n Γ dX0_allowsRule_52 rfl ?_
    refine x_iconst Γ (v := 1) dX0_allowsRule_53 rfl ?_
    refine x_icmp_lt Γ (tgt := 67) dX0_allowsRule_54 (by decide) (fun c_6 => ?_) (fun c_6 => ?_)
    · refine x_iconst Γ (v := 0) dX0_allowsRule_67 rfl ?_
      exact x_iret ρ rfl dX0_allowsRule_68 (by first | exact zb_nz _ | rfl) (by first | (simp [okR, inR, zb, *]; done) | (exfalso; simp_all; done) | (simp [okR, inR, zb, *]; simp only [Int32.lt_iff_toInt_lt, Int32.le_iff_toInt_le, zlt_0, zlt_1, zlt_2, zlt_3, zlt_4, zlt_5, zlt_6, zlt_7, zlt_8, zlt_9, zlt_10, zlt_11, zlt_12, zlt_30, zlt_39, zlt_40, zlt_59, zlt_60, zlt_61, zlt_98, zlt_99, zlt_100, zlt_119, zlt_120, zlt_998, zlt_999, zlt_9998, zlt_9999, zlt_m1] at *; omega)) rfl (zH.rf)
    · refine x_iload_n Γ dX0_allowsRule_57 rfl ?_
      refine x_bipush Γ (v := 10) dX0_allowsRule_58 rfl ?_
      refine x_icmp_gt Γ (tgt := 67) dX0_allowsRule_60 (by decide) (fun c_7 => ?_) (fun c_7 => ?_)
      · refine x_iconst Γ (v := 0) dX0_allowsRule_67 rfl ?_
        exact x_iret ρ rfl dX0_allowsRule_68 (by first | exact zb_nz _ | rfl) (by first | (simp [okR, inR, zb, *]; done) | (exfalso; simp_all; done) | (simp [okR, inR, zb, *]; simp only [Int32.lt_iff_toInt_lt, Int32.le_iff_toInt_le, zlt_0, zlt_1, zlt_2, zlt_3, zlt_4, zlt_5, zlt_6, zlt_7, zlt_8, zlt_9, zlt_10, zlt_11, zlt_12, zlt_30, zlt_39, zlt_40, zlt_59, zlt_60, zlt_61, zlt_98, zlt_99, zlt_100, zlt_119, zlt_120, zlt_998, zlt_999, zlt_9998, zlt_9999, zlt_m1] at *; omega)) rfl (zH.rf)
      · refine x_iconst Γ (v := 1) dX0_allowsRule_63 rfl ?_
        refine x_goto Γ (tgt := 68) dX0_allowsRule_64 (by decide) ?_
        exact x_iret ρ rfl dX0_allowsRule_68 (by first | exact zb_nz _ | rfl) (by first | (simp [okR, inR, zb, *]; done) | (exfalso; simp_all; done) | (simp [okR, inR, zb, *]; simp only [Int32.lt_iff_toInt_lt, Int32.le_iff_toInt_le, zlt_0, zlt_1, zlt_2, zlt_3, zlt_4, zlt_5, zlt_6, zlt_7, zlt_8, zlt_9, zlt_10, zlt_11, zlt_12, zlt_30, zlt_39, zlt_40, zlt_59, zlt_60, zlt_61, zlt_98, zlt_99, zlt_100, zlt_119, zlt_120, zlt_998, zlt_999, zlt_9998, zlt_9999, zlt_m1] at *; omega)) rfl (zH.rf)
  · refine x_iload_n Γ dX0_allowsRule_69 rfl ?_
    refine x_if_lt Γ (tgt := 82) dX0_allowsRule_70 (by decide) (fun c_8 => ?_) (fun c_8 => ?_)
    · refine x_iconst Γ (v := 0) dX0_allowsRule_82 rfl ?_
      exact x_iret ρ rfl dX0_allowsRule_83 (by first | exact zb_nz _ | rfl) (by first | (simp [okR, inR, zb, *]; done) | (exfalso; simp_all; done) | (simp [okR, inR, zb, *]; simp only [Int32.lt_iff_toInt_lt, Int32.le_iff_toInt_le, zlt_0, zlt_1, zlt_2, zlt_3, zlt_4, zlt_5, zlt_6, zlt_7, zlt_8, zlt_9, zlt_10, zlt_11, zlt_12, zlt_30, zlt_39, zlt_40, zlt_59, zlt_60, zlt_61, zlt_98, zlt_99, zlt_100, zlt_119, zlt_120, zlt_998, zlt_999, zlt_9998, zlt_9999, zlt_m1] at *; omega)) rfl (zH.rf)
    · refine x_iload_n Γ dX0_allowsRule_73 rfl ?_
      refine x_iconst Γ (v := 4) dX0_allowsRule_74 rfl ?_
      refine x_icmp_ge Γ (tgt := 82) dX0_allowsRule_75 (by decide) (fun c_9 => ?_) (fun c_9 => ?_)
      · refine x_iconst Γ (v := 0) dX0_allowsRule_82 rfl ?_
        exact x_iret ρ rfl dX0_allowsRule_83 (by first | exact zb_nz _ | rfl) (by first | (simp [okR, inR, zb, *]; done) | (exfalso; simp_all; done) | (simp [okR, inR, zb, *]; simp only [Int32.lt_iff_toInt_lt, Int32.le_iff_toInt_le, zlt_0, zlt_1, zlt_2, zlt_3, zlt_4, zlt_5, zlt_6, zlt_7, zlt_8, zlt_9, zlt_10, zlt_11, zlt_12, zlt_30, zlt_39, zlt_40, zlt_59, zlt_60, zlt_61, zlt_98, zlt_99, zlt_100, zlt_119, zlt_120, zlt_998, zlt_999, zlt_9998, zlt_9999, zlt_m1] at *; omega)) rfl (zH.rf)
      · refine x_iconst Γ (v := 1) dX0_allowsRule_78 rfl ?_
        refine x_goto Γ (tgt := 83) dX0_allowsRule_79 (by decide) ?_
        exact x_iret ρ rfl dX0_allowsRule_83 (by first | exact zb_nz _ | rfl) (by first | (simp [okR, inR, zb, *]; done) | (exfalso; simp_all; done) | (simp [okR, inR, zb, *]; simp only [Int32.lt_iff_toInt_lt, Int32.le_iff_toInt_le, zlt_0, zlt_1, zlt_2, zlt_3, zlt_4, zlt_5, zlt_6, zlt_7, zlt_8, zlt_9, zlt_10, zlt_11, zlt_12, zlt_30, zlt_39, zlt_40, zlt_59, zlt_60, zlt_61, zlt_98, zlt_99, zlt_100, zlt_119, zlt_120, zlt_998, zlt_999, zlt_9998, zlt_9999, zlt_m1] at *; omega)) rfl (zH.rf)
  · refine x_iload_n Γ dX0_allowsRule_84 rfl ?_
    refine x_if_eq Γ (tgt := 93) dX0_allowsRule_85 (by decide) (fun c_10 => ?_) (fun c_10 => ?_)
    · refine x_iconst Γ (v := 1) dX0_allowsRule_93 rfl ?_
      refine x_goto Γ (tgt := 98) dX0_allowsRule_94 (by decide) ?_
      exact x_iret ρ rfl dX0_allowsRule_98 (by first | exact zb_nz _ | rfl) (by first | (simp [okR, inR, zb, *]; done) | (exfalso; simp_all; done) | (simp [okR, inR, zb, *]; simp only [Int32.lt_iff_toInt_lt, Int32.le_iff_toInt_le, zlt_0, zlt_1, zlt_2, zlt_3, zlt_4, zlt_5, zlt_6, zlt_7, zlt_8, zlt_9, zlt_10, zlt_11, zlt_12, zlt_30, zlt_39, zlt_40, zlt_59, zlt_60, zlt_61, zlt_98, zlt_99, zlt_100, zlt_119, zlt_120, zlt_998, zlt_999, zlt_9998, zlt_9999, zlt_m1] at *; omega)) rfl (zH.rf)
    · refine x_iload_n Γ dX0_allowsRule_88 rfl ?_
      refine x_iconst Γ (v := 1) dX0_allowsRule_89 rfl ?_
      refine x_icmp_ne Γ (tgt := 97) dX0_allowsRule_90 (by decide) (fun c_11 => ?_) (fun c_11 => ?_)
      · refine x_iconst Γ (v := 0) dX0_allowsRule_97 rfl ?_
        exact x_iret ρ rfl dX0_allowsRule_98 (by first | exact zb_nz _ | rfl) (by first | (simp [okR, inR, zb, *]; done) | (exfalso; simp_all; done) | (simp [okR, inR, zb, *]; simp only [Int32.lt_iff_toInt_lt, Int32.le_iff_toInt_le, zlt_0, zlt_1, zlt_2, zlt_3, zlt_4, zlt_5, zlt_6, zlt_7, zlt_8, zlt_9, zlt_10, zlt_11, zlt_12, zlt_30, zlt_39, zlt_40, zlt_59, zlt_60, zlt_61, zlt_98, zlt_99, zlt_100, zlt_119, zlt_120, zlt_998, zlt_999, zlt_9998, zlt_9999, zlt_m1] at *; omega)) rfl (zH.rf)
      · refine x_iconst Γ (v := 1) dX0_allowsRule_93 rfl ?_
        refine x_goto Γ (tgt := 98) dX0_allowsRule_94 (by decide) ?_
        exact x_iret ρ rfl dX0_allowsRule_98 (by first | exact zb_nz _ | rfl) (by first | (simp [okR, inR, zb, *]; done) | (exfalso; simp_all; done) | (simp [okR, inR, zb, *]; simp only [Int32.lt_iff_toInt_lt, Int32.le_iff_toInt_le, zlt_0, zlt_1, zlt_2, zlt_3, zlt_4, zlt_5, zlt_6, zlt_7, zlt_8, zlt_9, zlt_10, zlt_11, zlt_12, zlt_30, zlt_39, zlt_40, zlt_59, zlt_60, zlt_61, zlt_98, zlt_99, zlt_100, zlt_119, zlt_120, zlt_998, zlt_999, zlt_9998, zlt_9999, zlt_m1] at *; omega)) rfl (zH.rf)
  · refine x_iconst Γ (v := 0) dX0_allowsRule_99 rfl ?_
    exact x_iret ρ rfl dX0_allowsRule_100 (by first | exact zb_nz _ | rfl) (by first | (simp [okR, inR, zb, *]; done) | (exfalso; simp_all; done) | (simp [okR, inR, zb, *]; simp only [Int32.lt_iff_toInt_lt, Int32.le_iff_toInt_le, zlt_0, zlt_1, zlt_2, zlt_3, zlt_4, zlt_5, zlt_6, zlt_7, zlt_8, zlt_9, zlt_10, zlt_11, zlt_12, zlt_30, zlt_39, zlt_40, zlt_59, zlt_60, zlt_61, zlt_98, zlt_99, zlt_100, zlt_119, zlt_120, zlt_998, zlt_999, zlt_9998, zlt_9999, zlt_m1] at *; omega)) rfl (zH.rf)

set_option maxRecDepth 100000 in
set_option maxHeartbeats 4000000 in
theorem m_X0_loafWorth {g : Nat → zE} {b : Nat} {T : zT} (hb : b + 7 < 46) (c : Nat) (hc : c < 10) : zM 0 M_X0_loafWorth [.ref b, .int (nI c)] (hC g b T) 46 (some (.int (lw T c))) (hC g b T) 46 0 0 := by
  refine zM.intro (by decide) (Nat.le_of_ble_eq_true rfl) ?_
  intro Wf V m H0 Γ ρ
  replace Γ : zC Wf V m 3 H0 cX0_loafWorth RX0 0 0 0 := Γ
  show zX Wf V m 3 H0 0 (zls [(0, .ref b), (1, .int (nI c))]) [] (hC g b T) 46 0 0
  have hb0 : b < 46 := by omega
  have hb1 : b + 1 < 46 := by omega
  have hb2 : b + 2 < 46 := by omega
  have hb3 : b + 3 < 46 := by omega
  have hb4 : b + 4 < 46 := by omega
  have hb5 : b + 5 < 46 := by omega
  have hb6 : b + 6 < 46 := by omega
  have hb7 : b + 7 < 46 := by omega
  refine x_aload_n Γ dX0_loafWorth_0 rfl ?_
  refine gf_X0_49 Γ dX0_loafWorth_1 hb0 hC_o rfl ?_
  refine x_iconst Γ (v := 1) dX0_loafWorth_4 rfl ?_
  refine x_icmp_ne Γ (tgt := 17) dX0_loafWorth_5 (by decide) (fun c_1 => ?_) (fun c_1 => ?_)
  · refine x_iconst Γ (v := 2) dX0_loafWorth_17 rfl ?_
    refine x_aload_n Γ dX0_loafWorth_18 rfl ?_
    refine gf_X0_15 Γ dX0_loafWorth_19 hb0 hC_o rfl ?_
    refine x_iload_n Γ dX0_loafWorth_22 rfl ?_
    refine x_iald Γ dX0_loafWorth_23 hb2 hC_1 rfl (by first | assumption | omega) (by decide) rfl ?_
    refine x_imul Γ dX0_loafWorth_24 ?_
    refine x_istore_n Γ dX0_loafWorth_25 (by decide) ?_
    refine x_aload_n Γ dX0_loafWorth_26 rfl ?_
    refine gf_X0_9 Γ dX0_loafWorth_27 hb0 hC_o rfl ?_
    refine x_iload_n Γ dX0_loafWorth_30 rfl ?_
    refine x_iald Γ dX0_loafWorth_31 hb1 hC_0 rfl (by first | assumption | omega) (by decide) rfl ?_
    refine x_tab3 Γ (a0 := 4) (a1 := 5) (a2 := 6) (t0 := 60) (t1 := 64) (t2 := 66) (td := 68) dX0_loafWorth_32 (by decide +kernel) (fun c_2 => ?_) (fun c_2 => ?_) (fun c_2 => ?_) (fun c_2_0 c_2_1 c_2_2 => ?_)
    · refine x_iload_n Γ dX0_loafWorth_60 rfl ?_
      refine x_iconst Γ (v := 4) dX0_loafWorth_61 rfl ?_
      refine x_iadd Γ dX0_loafWorth_62 ?_
      exact x_iret ρ rfl dX0_loafWorth_63 rfl (by first | (simp [lw, bread, zb, *]; done) | (exfalso; simp_all; done) | (simp [lw, bread, zb, *]; simp only [Int32.lt_iff_toInt_lt, Int32.le_iff_toInt_le, zlt_0, zlt_1, zlt_2, zlt_3, zlt_4, zlt_5, zlt_6, zlt_7, zlt_8, zlt_9, zlt_10, zlt_11, zlt_12, zlt_30, zlt_39, zlt_40, zlt_59, zlt_60, zlt_61, zlt_98, zlt_99, zlt_100, zlt_119, zlt_120, zlt_998, zlt_999, zlt_9998, zlt_9999, zlt_m1] at *; omega)) rfl (zH.rf)
    · refine x_iconst Γ (v := 3) dX0_loafWorth_64 rfl ?_
      exact x_iret ρ rfl dX0_loafWorth_65 rfl (by first | (simp [lw, bread, zb, *]; done) | (exfalso; simp_all; done) | (simp [lw, bread, zb, *]; simp only [Int32.lt_iff_toInt_lt, Int32.le_iff_toInt_le, zlt_0, zlt_1, zlt_2, zlt_3, zlt_4, zlt_5, zlt_6, zlt_7, zlt_8, zlt_9, zlt_10, zlt_11, zlt_12, zlt_30, zlt_39, zlt_40, zlt_59, zlt_60, zlt_61, zlt_98, zlt_99, zlt_100, zlt_119, zlt_120, zlt_998, zlt_999, zlt_9998, zlt_9999, zlt_m1] at *; omega)) rfl (zH.rf)
    · refine x_iconst Γ (v := 4) dX0_loafWorth_66 rfl ?_
      exact x_iret ρ rfl dX0_loafWorth_67 rfl (by first | (simp [lw, bread, zb, *]; done) | (exfalso; simp_all; done) | (simp [lw, bread, zb, *]; simp only [Int32.lt_iff_toInt_lt, Int32.le_iff_toInt_le, zlt_0, zlt_1, zlt_2, zlt_3, zlt_4, zlt_5, zlt_6, zlt_7, zlt_8, zlt_9, zlt_10, zlt_11, zlt_12, zlt_30, zlt_39, zlt_40, zlt_59, zlt_60, zlt_61, zlt_98, zlt_99, zlt_100, zlt_119, zlt_120, zlt_998, zlt_999, zlt_9998, zlt_9999, zlt_m1] at *; omega)) rfl (zH.rf)
    · refine x_iload_n Γ dX0_loafWorth_68 rfl ?_
      exact x_iret ρ rfl dX0_loafWorth_69 rfl (by first | (simp [lw, bread, zb, *]; done) | (exfalso; simp_all; done) | (simp [lw, bread, zb, *]; simp only [Int32.lt_iff_toInt_lt, Int32.le_iff_toInt_le, zlt_0, zlt_1, zlt_2, zlt_3, zlt_4, zlt_5, zlt_6, zlt_7, zlt_8, zlt_9, zlt_10, zlt_11, zlt_12, zlt_30, zlt_39, zlt_40, zlt_59, zlt_60, zlt_61, zlt_98, zlt_99, zlt_100, zlt_119, zlt_120, zlt_998, zlt_999, zlt_9998, zlt_9999, zlt_m1] at *; omega)) rfl (zH.rf)
  · refine x_aload_n Γ dX0_loafWorth_8 rfl ?_
    refine gf_X0_15 Γ dX0_loafWorth_9 hb0 hC_o rfl ?_
    refine x_iload_n Γ dX0_loafWorth_12 rfl ?_
    refine x_iald Γ dX0_loafWorth_13 hb2 hC_1 rfl (by first | assumption | omega) (by decide) rfl ?_
    refine x_goto Γ (tgt := 25) dX0_loafWorth_14 (by decide) ?_
    refine x_istore_n Γ dX0_loafWorth_25 (by decide) ?_
    refine x_aload_n Γ dX0_loafWorth_26 rfl ?_
    refine gf_X0_9 Γ dX0_loafWorth_27 hb0 hC_o rfl ?_
    refine x_iload_n Γ dX0_loafWorth_30 rfl ?_
    refine x_iald Γ dX0_loafWorth_31 hb1 hC_0 rfl (by first | assumption | omega) (by decide) rfl ?_
    refine x_tab3 Γ (a0 := 4) (a1 := 5) (a2 := 6) (t0 := 60) (t1 := 64) (t2 := 66) (td := 68) dX0_loafWorth_32 (by decide +kernel) (fun c_3 => ?_) (fun c_3 => ?_) (fun c_3 => ?_) (fun c_3_0 c_3_1 c_3_2 => ?_)
    · refine x_iload_n Γ dX0_loafWorth_60 rfl ?_
      refine x_iconst Γ (v := 4) dX0_loafWorth_61 rfl ?_
      refine x_iadd Γ dX0_loafWorth_62 ?_
      exact x_iret ρ rfl dX0_loafWorth_63 rfl (by first | (simp [lw, bread, zb, *]; done) | (exfalso; simp_all; done) | (simp [lw, bread, zb, *]; simp only [Int32.lt_iff_toInt_lt, Int32.le_iff_toInt_le, zlt_0, zlt_1, zlt_2, zlt_3, zlt_4, zlt_5, zlt_6, zlt_7, zlt_8, zlt_9, zlt_10, zlt_11, zlt_12, zlt_30, zlt_39, zlt_40, zlt_59, zlt_60, zlt_61, zlt_98, zlt_99, zlt_100, zlt_119, zlt_120, zlt_998, zlt_999, zlt_9998, zlt_9999, zlt_m1] at *; omega)) rfl (zH.rf)
    · refine x_iconst Γ (v := 3) dX0_loafWorth_64 rfl ?_
      exact x_iret ρ rfl dX0_loafWorth_65 rfl (by first | (simp [lw, bread, zb, *]; done) | (exfalso; simp_all; done) | (simp [lw, bread, zb, *]; simp only [Int32.lt_iff_toInt_lt, Int32.le_iff_toInt_le, zlt_0, zlt_1, zlt_2, zlt_3, zlt_4, zlt_5, zlt_6, zlt_7, zlt_8, zlt_9, zlt_10, zlt_11, zlt_12, zlt_30, zlt_39, zlt_40, zlt_59, zlt_60, zlt_61, zlt_98, zlt_99, zlt_100, zlt_119, zlt_120, zlt_998, zlt_999, zlt_9998, zlt_9999, zlt_m1] at *; omega)) rfl (zH.rf)
    · refine x_iconst Γ (v := 4) dX0_loafWorth_66 rfl ?_
      exact x_iret ρ rfl dX0_loafWorth_67 rfl (by first | (simp [lw, bread, zb, *]; done) | (exfalso; simp_all; done) | (simp [lw, bread, zb, *]; simp only [Int32.lt_iff_toInt_lt, Int32.le_iff_toInt_le, zlt_0, zlt_1, zlt_2, zlt_3, zlt_4, zlt_5, zlt_6, zlt_7, zlt_8, zlt_9, zlt_10, zlt_11, zlt_12, zlt_30, zlt_39, zlt_40, zlt_59, zlt_60, zlt_61, zlt_98, zlt_99, zlt_100, zlt_119, zlt_120, zlt_998, zlt_999, zlt_9998, zlt_9999, zlt_m1] at *; omega)) rfl (zH.rf)
    · refine x_iload_n Γ dX0_loafWorth_68 rfl ?_
      exact x_iret ρ rfl dX0_loafWorth_69 rfl (by first | (simp [lw, bread, zb, *]; done) | (exfalso; simp_all; done) | (simp [lw, bread, zb, *]; simp only [Int32.lt_iff_toInt_lt, Int32.le_iff_toInt_le, zlt_0, zlt_1, zlt_2, zlt_3, zlt_4, zlt_5, zlt_6, zlt_7, zlt_8, zlt_9, zlt_10, zlt_11, zlt_12, zlt_30, zlt_39, zlt_40, zlt_59, zlt_60, zlt_61, zlt_98, zlt_99, zlt_100, zlt_119, zlt_120, zlt_998, zlt_999, zlt_9998, zlt_9999, zlt_m1] at *; omega)) rfl (zH.rf)

set_option maxRecDepth 100000 in
set_option maxHeartbeats 4000000 in
theorem m_X0_seatWorth {g : Nat → zE} {b : Nat} {T : zT} (hb : b + 7 < 46) (c : Nat) (hc : c < 10) : zM 0 M_X0_seatWorth [.ref b, .int (nI c)] (hC g b T) 46 (some (.int (sw T c))) (hC g b T) 46 0 0 := by
  refine zM.intro (by decide) (Nat.le_of_ble_eq_true rfl) ?_
  intro Wf V m H0 Γ ρ
  replace Γ : zC Wf V m 3 H0 cX0_seatWorth RX0 0 0 0 := Γ
  show zX Wf V m 3 H0 0 (zls [(0, .ref b), (1, .int (nI c))]) [] (hC g b T) 46 0 0
  have hb0 : b < 46 := by omega
  have hb1 : b + 1 < 46 := by omega
  have hb2 : b + 2 < 46 := by omega
  have hb3 : b + 3 < 46 := by omega
  have hb4 : b + 4 < 46 := by omega
  have hb5 : b + 5 < 46 := by omega
  have hb6 : b + 6 < 46 := by omega
  have hb7 : b + 7 < 46 := by omega
  refine x_aload_n Γ dX0_seatWorth_0 rfl ?_
  refine gf_X0_18 Γ dX0_seatWorth_1 hb0 hC_o rfl ?_
  refine x_iload_n Γ dX0_seatWorth_4 rfl ?_
  refine x_iald Γ dX0_seatWorth_5 hb3 hC_2 rfl (by first | assumption | omega) (by decide) rfl ?_
  refine x_aload_n Γ dX0_seatWorth_6 rfl ?_
  refine gf_X0_37 Γ dX0_seatWorth_7 hb0 hC_o rfl ?_
  refine x_icmp_ne Γ (tgt := 17) dX0_seatWorth_10 (by decide) (fun c_1 => ?_) (fun c_1 => ?_)
  · refine x_iconst Γ (v := 0) dX0_seatWorth_17 rfl ?_
    refine x_istore_n Γ dX0_seatWorth_18 (by decide) ?_
    refine x_aload_n Γ dX0_seatWorth_19 rfl ?_
    refine gf_X0_9 Γ dX0_seatWorth_20 hb0 hC_o rfl ?_
    refine x_iload_n Γ dX0_seatWorth_23 rfl ?_
    refine x_iald Γ dX0_seatWorth_24 hb1 hC_0 rfl (by first | assumption | omega) (by decide) rfl ?_
    refine x_tab6 Γ (a0 := 1) (a1 := 2) (a2 := 3) (a3 := 4) (a4 := 5) (a5 := 6) (t0 := 64) (t1 := 66) (t2 := 77) (t3 := 64) (t4 := 88) (t5 := 90) (td := 92) dX0_seatWorth_25 (by decide +kernel) (fun c_2 => ?_) (fun c_2 => ?_) (fun c_2 => ?_) (fun c_2 => ?_) (fun c_2 => ?_) (fun c_2 => ?_) (fun c_2_0 c_2_1 c_2_2 c_2_3 c_2_4 c_2_5 => ?_)
    · refine x_iconst Γ (v := 0) dX0_seatWorth_64 rfl ?_
      exact x_iret ρ rfl dX0_seatWorth_65 rfl (by first | (simp [sw, zb, *]; done) | (exfalso; simp_all; done) | (simp [sw, zb, *]; simp only [Int32.lt_iff_toInt_lt, Int32.le_iff_toInt_le, zlt_0, zlt_1, zlt_2, zlt_3, zlt_4, zlt_5, zlt_6, zlt_7, zlt_8, zlt_9, zlt_10, zlt_11, zlt_12, zlt_30, zlt_39, zlt_40, zlt_59, zlt_60, zlt_61, zlt_98, zlt_99, zlt_100, zlt_119, zlt_120, zlt_998, zlt_999, zlt_9998, zlt_9999, zlt_m1] at *; omega)) rfl (zH.rf)
    · refine x_iload_n Γ dX0_seatWorth_66 rfl ?_
      refine x_if_eq Γ (tgt := 75) dX0_seatWorth_67 (by decide) (fun c_3 => ?_) (fun c_3 => ?_)
      · refine x_iconst Γ (v := 1) dX0_seatWorth_75 rfl ?_
        exact x_iret ρ rfl dX0_seatWorth_76 rfl (by first | (simp [sw, zb, *]; done) | (exfalso; simp_all; done) | (simp [sw, zb, *]; simp only [Int32.lt_iff_toInt_lt, Int32.le_iff_toInt_le, zlt_0, zlt_1, zlt_2, zlt_3, zlt_4, zlt_5, zlt_6, zlt_7, zlt_8, zlt_9, zlt_10, zlt_11, zlt_12, zlt_30, zlt_39, zlt_40, zlt_59, zlt_60, zlt_61, zlt_98, zlt_99, zlt_100, zlt_119, zlt_120, zlt_998, zlt_999, zlt_9998, zlt_9999, zlt_m1] at *; omega)) rfl (zH.rf)
      · refine x_bipush Γ (v := 12) dX0_seatWorth_70 rfl ?_
        refine x_goto Γ (tgt := 76) dX0_seatWorth_72 (by decide) ?_
        exact x_iret ρ rfl dX0_seatWorth_76 rfl (by first | (simp [sw, zb, *]; done) | (exfalso; simp_all; done) | (simp [sw, zb, *]; simp only [Int32.lt_iff_toInt_lt, Int32.le_iff_toInt_le, zlt_0, zlt_1, zlt_2, zlt_3, zlt_4, zlt_5, zlt_6, zlt_7, zlt_8, zlt_9, zlt_10, zlt_11, zlt_12, zlt_30, zlt_39, zlt_40, zlt_59, zlt_60, zlt_61, zlt_98, zlt_99, zlt_100, zlt_119, zlt_120, zlt_998, zlt_999, zlt_9998, zlt_9999, zlt_m1] at *; omega)) rfl (zH.rf)
    · refine x_iload_n Γ dX0_seatWorth_77 rfl ?_
      refine x_if_eq Γ (tgt := 86) dX0_seatWorth_78 (by decide) (fun c_4 => ?_) (fun c_4 => ?_)
      · refine x_iconst Γ (v := 5) dX0_seatWorth_86 rfl ?_
        exact x_iret ρ rfl dX0_seatWorth_87 rfl (by first | (simp [sw, zb, *]; done) | (exfalso; simp_all; done) | (simp [sw, zb, *]; simp only [Int32.lt_iff_toInt_lt, Int32.le_iff_toInt_le, zlt_0, zlt_1, zlt_2, zlt_3, zlt_4, zlt_5, zlt_6, zlt_7, zlt_8, zlt_9, zlt_10, zlt_11, zlt_12, zlt_30, zlt_39, zlt_40, zlt_59, zlt_60, zlt_61, zlt_98, zlt_99, zlt_100, zlt_119, zlt_120, zlt_998, zlt_999, zlt_9998, zlt_9999, zlt_m1] at *; omega)) rfl (zH.rf)
      · refine x_bipush Γ (v := 12) dX0_seatWorth_81 rfl ?_
        refine x_goto Γ (tgt := 87) dX0_seatWorth_83 (by decide) ?_
        exact x_iret ρ rfl dX0_seatWorth_87 rfl (by first | (simp [sw, zb, *]; done) | (exfalso; simp_all; done) | (simp [sw, zb, *]; simp only [Int32.lt_iff_toInt_lt, Int32.le_iff_toInt_le, zlt_0, zlt_1, zlt_2, zlt_3, zlt_4, zlt_5, zlt_6, zlt_7, zlt_8, zlt_9, zlt_10, zlt_11, zlt_12, zlt_30, zlt_39, zlt_40, zlt_59, zlt_60, zlt_61, zlt_98, zlt_99, zlt_100, zlt_119, zlt_120, zlt_998, zlt_999, zlt_9998, zlt_9999, zlt_m1] at *; omega)) rfl (zH.rf)
    · refine x_iconst Γ (v := 0) dX0_seatWorth_64 rfl ?_
      exact x_iret ρ rfl dX0_seatWorth_65 rfl (by first | (simp [sw, zb, *]; done) | (exfalso; simp_all; done) | (simp [sw, zb, *]; simp only [Int32.lt_iff_toInt_lt, Int32.le_iff_toInt_le, zlt_0, zlt_1, zlt_2, zlt_3, zlt_4, zlt_5, zlt_6, zlt_7, zlt_8, zlt_9, zlt_10, zlt_11, zlt_12, zlt_30, zlt_39, zlt_40, zlt_59, zlt_60, zlt_61, zlt_98, zlt_99, zlt_100, zlt_119, zlt_120, zlt_998, zlt_999, zlt_9998, zlt_9999, zlt_m1] at *; omega)) rfl (zH.rf)
    · refine x_iconst Γ (v := 3) dX0_seatWorth_88 rfl ?_
      exact x_iret ρ rfl dX0_seatWorth_89 rfl (by first | (simp [sw, zb, *]; done) | (exfalso; simp_all; done) | (simp [sw, zb, *]; simp only [Int32.lt_iff_toInt_lt, Int32.le_iff_toInt_le, zlt_0, zlt_1, zlt_2, zlt_3, zlt_4, zlt_5, zlt_6, zlt_7, zlt_8, zlt_9, zlt_10, zlt_11, zlt_12, zlt_30, zlt_39, zlt_40, zlt_59, zlt_60, zlt_61, zlt_98, zlt_99, zlt_100, zlt_119, zlt_120, zlt_998, zlt_999, zlt_9998, zlt_9999, zlt_m1] at *; omega)) rfl (zH.rf)
    · refine x_iconst Γ (v := 4) dX0_seatWorth_90 rfl ?_
      exact x_iret ρ rfl dX0_seatWorth_91 rfl (by first | (simp [sw, zb, *]; done) | (exfalso; simp_all; done) | (simp [sw, zb, *]; simp only [Int32.lt_iff_toInt_lt, Int32.le_iff_toInt_le, zlt_0, zlt_1, zlt_2, zlt_3, zlt_4, zlt_5, zlt_6, zlt_7, zlt_8, zlt_9, zlt_10, zlt_11, zlt_12, zlt_30, zlt_39, zlt_40, zlt_59, zlt_60, zlt_61, zlt_98, zlt_99, zlt_100, zlt_119, zlt_120, zlt_998, zlt_999, zlt_9998, zlt_9999, zlt_m1] at *; omega)) rfl (zH.rf)
    · refine x_iload_n Γ dX0_seatWorth_92 rfl ?_
      refine x_if_eq Γ (tgt := 101) dX0_seatWorth_93 (by decide) (fun c_5 => ?_) (fun c_5 => ?_)
      · refine x_iconst Γ (v := 2) dX0_seatWorth_101 rfl ?_
        exact x_iret ρ rfl dX0_seatWorth_102 rfl (by first | (simp [sw, zb, *]; done) | (exfalso; simp_all; done) | (simp [sw, zb, *]; simp only [Int32.lt_iff_toInt_lt, Int32.le_iff_toInt_le, zlt_0, zlt_1, zlt_2, zlt_3, zlt_4, zlt_5, zlt_6, zlt_7, zlt_8, zlt_9, zlt_10, zlt_11, zlt_12, zlt_30, zlt_39, zlt_40, zlt_59, zlt_60, zlt_61, zlt_98, zlt_99, zlt_100, zlt_119, zlt_120, zlt_998, zlt_999, zlt_9998, zlt_9999, zlt_m1] at *; omega)) rfl (zH.rf)
      · refine x_bipush Γ (v := 6) dX0_seatWorth_96 rfl ?_
        refine x_goto Γ (tgt := 102) dX0_seatWorth_98 (by decide) ?_
        exact x_iret ρ rfl dX0_seatWorth_102 rfl (by first | (simp [sw, zb, *]; done) | (exfalso; simp_all; done) | (simp [sw, zb, *]; simp only [Int32.lt_iff_toInt_lt, Int32.le_iff_toInt_le, zlt_0, zlt_1, zlt_2, zlt_3, zlt_4, zlt_5, zlt_6, zlt_7, zlt_8, zlt_9, zlt_10, zlt_11, zlt_12, zlt_30, zlt_39, zlt_40, zlt_59, zlt_60, zlt_61, zlt_98, zlt_99, zlt_100, zlt_119, zlt_120, zlt_998, zlt_999, zlt_9998, zlt_9999, zlt_m1] at *; omega)) rfl (zH.rf)
  · refine x_iconst Γ (v := 1) dX0_seatWorth_13 rfl ?_
    refine x_goto Γ (tgt := 18) dX0_seatWorth_14 (by decide) ?_
    refine x_istore_n Γ dX0_seatWorth_18 (by decide) ?_
    refine x_aload_n Γ dX0_seatWorth_19 rfl ?_
    refine gf_X0_9 Γ dX0_seatWorth_20 hb0 hC_o rfl ?_
    refine x_iload_n Γ dX0_seatWorth_23 rfl ?_
    refine x_iald Γ dX0_seatWorth_24 hb1 hC_0 rfl (by first | assumption | omega) (by decide) rfl ?_
    refine x_tab6 Γ (a0 := 1) (a1 := 2) (a2 := 3) (a3 := 4) (a4 := 5) (a5 := 6) (t0 := 64) (t1 := 66) (t2 := 77) (t3 := 64) (t4 := 88) (t5 := 90) (td := 92) dX0_seatWorth_25 (by decide +kernel) (fun c_6 => ?_) (fun c_6 => ?_) (fun c_6 => ?_) (fun c_6 => ?_) (fun c_6 => ?_) (fun c_6 => ?_) (fun c_6_0 c_6_1 c_6_2 c_6_3 c_6_4 c_6_5 => ?_)
    · refine x_iconst Γ (v := 0) dX0_seatWorth_64 rfl ?_
      exact x_iret ρ rfl dX0_seatWorth_65 rfl (by first | (simp [sw, zb, *]; done) | (exfalso; simp_all; done) | (simp [sw, zb, *]; simp only [Int32.lt_iff_toInt_lt, Int32.le_iff_toInt_le, zlt_0, zlt_1, zlt_2, zlt_3, zlt_4, zlt_5, zlt_6, zlt_7, zlt_8, zlt_9, zlt_10, zlt_11, zlt_12, zlt_30, zlt_39, zlt_40, zlt_59, zlt_60, zlt_61, zlt_98, zlt_99, zlt_100, zlt_119, zlt_120, zlt_998, zlt_999, zlt_9998, zlt_9999, zlt_m1] at *; omega)) rfl (zH.rf)
    · refine x_iload_n Γ dX0_seatWorth_66 rfl ?_
      refine x_if_eq Γ (tgt := 75) dX0_seatWorth_67 (by decide) (fun c_7 => ?_) (fun c_7 => ?_)
      · refine x_iconst Γ (v := 1) dX0_seatWorth_75 rfl ?_
        exact x_iret ρ rfl dX0_seatWorth_76 rfl (by first | (simp [sw, zb, *]; done) | (exfalso; simp_all; done) | (simp [sw, zb, *]; simp only [Int32.lt_iff_toInt_lt, Int32.le_iff_toInt_le, zlt_0, zlt_1, zlt_2, zlt_3, zlt_4, zlt_5, zlt_6, zlt_7, zlt_8, zlt_9, zlt_10, zlt_11, zlt_12, zlt_30, zlt_39, zlt_40, zlt_59, zlt_60, zlt_61, zlt_98, zlt_99, zlt_100, zlt_119, zlt_120, zlt_998, zlt_999, zlt_9998, zlt_9999, zlt_m1] at *; omega)) rfl (zH.rf)
      · refine x_bipush Γ (v := 12) dX0_seatWorth_70 rfl ?_
        refine x_goto Γ (tgt := 76) dX0_seatWorth_72 (by decide) ?_
        exact x_iret ρ rfl dX0_seatWorth_76 rfl (by first | (simp [sw, zb, *]; done) | (exfalso; simp_all; done) | (simp [sw, zb, *]; simp only [Int32.lt_iff_toInt_lt, Int32.le_iff_toInt_le, zlt_0, zlt_1, zlt_2, zlt_3, zlt_4, zlt_5, zlt_6, zlt_7, zlt_8, zlt_9, zlt_10, zlt_11, zlt_12, zlt_30, zlt_39, zlt_40, zlt_59, zlt_60, zlt_61, zlt_98, zlt_99, zlt_100, zlt_119, zlt_120, zlt_998, zlt_999, zlt_9998, zlt_9999, zlt_m1] at *; omega)) rfl (zH.rf)
    · refine x_iload_n Γ dX0_seatWorth_77 rfl ?_
      refine x_if_eq Γ (tgt := 86) dX0_seatWorth_78 (by decide) (fun c_8 => ?_) (fun c_8 => ?_)
      · refine x_iconst Γ (v := 5) dX0_seatWorth_86 rfl ?_
        exact x_iret ρ rfl dX0_seatWorth_87 rfl (by first | (simp [sw, zb, *]; done) | (exfalso; simp_all; done) | (simp [sw, zb, *]; simp only [Int32.lt_iff_toInt_lt, Int32.le_iff_toInt_le, zlt_0, zlt_1, zlt_2, zlt_3, zlt_4, zlt_5, zlt_6, zlt_7, zlt_8, zlt_9, zlt_10, zlt_11, zlt_12, zlt_30, zlt_39, zlt_40, zlt_59, zlt_60, zlt_61, zlt_98, zlt_99, zlt_100, zlt_119, zlt_120, zlt_998, zlt_999, zlt_9998, zlt_9999, zlt_m1] at *; omega)) rfl (zH.rf)
      · refine x_bipush Γ (v := 12) dX0_seatWorth_81 rfl ?_
        refine x_goto Γ (tgt := 87) dX0_seatWorth_83 (by decide) ?_
        exact x_iret ρ rfl dX0_seatWorth_87 rfl (by first | (simp [sw, zb, *]; done) | (exfalso; simp_all; done) | (simp [sw, zb, *]; simp only [Int32.lt_iff_toInt_lt, Int32.le_iff_toInt_le, zlt_0, zlt_1, zlt_2, zlt_3, zlt_4, zlt_5, zlt_6, zlt_7, zlt_8, zlt_9, zlt_10, zlt_11, zlt_12, zlt_30, zlt_39, zlt_40, zlt_59, zlt_60, zlt_61, zlt_98, zlt_99, zlt_100, zlt_119, zlt_120, zlt_998, zlt_999, zlt_9998, zlt_9999, zlt_m1] at *; omega)) rfl (zH.rf)
    · refine x_iconst Γ (v := 0) dX0_seatWorth_64 rfl ?_
      exact x_iret ρ rfl dX0_seatWorth_65 rfl (by first | (simp [sw, zb, *]; done) | (exfalso; simp_all; done) | (simp [sw, zb, *]; simp only [Int32.lt_iff_toInt_lt, Int32.le_iff_toInt_le, zlt_0, zlt_1, zlt_2, zlt_3, zlt_4, zlt_5, zlt_6, zlt_7, zlt_8, zlt_9, zlt_10, zlt_11, zlt_12, zlt_30, zlt_39, zlt_40, zlt_59, zlt_60, zlt_61, zlt_98, zlt_99, zlt_100, zlt_119, zlt_120, zlt_998, zlt_999, zlt_9998, zlt_9999, zlt_m1] at *; omega)) rfl (zH.rf)
    · refine x_iconst Γ (v := 3) dX0_seatWorth_88 rfl ?_
      exact x_iret ρ rfl dX0_seatWorth_89 rfl (by first | (simp [sw, zb, *]; done) | (exfalso; simp_all; done) | (simp [sw, zb, *]; simp only [Int32.lt_iff_toInt_lt, Int32.le_iff_toInt_le, zlt_0, zlt_1, zlt_2, zlt_3, zlt_4, zlt_5, zlt_6, zlt_7, zlt_8, zlt_9, zlt_10, zlt_11, zlt_12, zlt_30, zlt_39, zlt_40, zlt_59, zlt_60, zlt_61, zlt_98, zlt_99, zlt_100, zlt_119, zlt_120, zlt_998, zlt_999, zlt_9998, zlt_9999, zlt_m1] at *; omega)) rfl (zH.rf)
    · refine x_iconst Γ (v := 4) dX0_seatWorth_90 rfl ?_
      exact x_iret ρ rfl dX0_seatWorth_91 rfl (by first | (simp [sw, zb, *]; done) | (exfalso; simp_all; done) | (simp [sw, zb, *]; simp only [Int32.lt_iff_toInt_lt, Int32.le_iff_toInt_le, zlt_0, zlt_1, zlt_2, zlt_3, zlt_4, zlt_5, zlt_6, zlt_7, zlt_8, zlt_9, zlt_10, zlt_11, zlt_12, zlt_30, zlt_39, zlt_40, zlt_59, zlt_60, zlt_61, zlt_98, zlt_99, zlt_100, zlt_119, zlt_120, zlt_998, zlt_999, zlt_9998, zlt_9999, zlt_m1] at *; omega)) rfl (zH.rf)
    · refine x_iload_n Γ dX0_seatWorth_92 rfl ?_
      refine x_if_eq Γ (tgt := 101) dX0_seatWorth_93 (by decide) (fun c_9 => ?_) (fun c_9 => ?_)
      · refine x_iconst Γ (v := 2) dX0_seatWorth_101 rfl ?_
        exact x_iret ρ rfl dX0_seatWorth_102 rfl (by first | (simp [sw, zb, *]; done) | (exfalso; simp_all; done) | (simp [sw, zb, *]; simp only [Int32.lt_iff_toInt_lt, Int32.le_iff_toInt_le, zlt_0, zlt_1, zlt_2, zlt_3, zlt_4, zlt_5, zlt_6, zlt_7, zlt_8, zlt_9, zlt_10, zlt_11, zlt_12, zlt_30, zlt_39, zlt_40, zlt_59, zlt_60, zlt_61, zlt_98, zlt_99, zlt_100, zlt_119, zlt_120, zlt_998, zlt_999, zlt_9998, zlt_9999, zlt_m1] at *; omega)) rfl (zH.rf)
      · refine x_bipush Γ (v := 6) dX0_seatWorth_96 rfl ?_
        refine x_goto Γ (tgt := 102) dX0_seatWorth_98 (by decide) ?_
        exact x_iret ρ rfl dX0_seatWorth_102 rfl (by first | (simp [sw, zb, *]; done) | (exfalso; simp_all; done) | (simp [sw, zb, *]; simp only [Int32.lt_iff_toInt_lt, Int32.le_iff_toInt_le, zlt_0, zlt_1, zlt_2, zlt_3, zlt_4, zlt_5, zlt_6, zlt_7, zlt_8, zlt_9, zlt_10, zlt_11, zlt_12, zlt_30, zlt_39, zlt_40, zlt_59, zlt_60, zlt_61, zlt_98, zlt_99, zlt_100, zlt_119, zlt_120, zlt_998, zlt_999, zlt_9998, zlt_9999, zlt_m1] at *; omega)) rfl (zH.rf)

set_option maxRecDepth 100000 in
set_option maxHeartbeats 4000000 in
theorem m_X0_ruling {g : Nat → zE} {b : Nat} {T : zT} (hb : b + 7 < 46) (w : Int32) : zM 0 M_X0_ruling [.ref b, .int w] (hC g b T) 46 (some (.int (T 7 (rulF w)))) (hC g b T) 46 0 0 := by
  refine zM.intro (by decide) (Nat.le_of_ble_eq_true rfl) ?_
  intro Wf V m H0 Γ ρ
  replace Γ : zC Wf V m 2 H0 cX0_ruling RX0 0 0 0 := Γ
  show zX Wf V m 2 H0 0 (zls [(0, .ref b), (1, .int w)]) [] (hC g b T) 46 0 0
  have hb0 : b < 46 := by omega
  have hb1 : b + 1 < 46 := by omega
  have hb2 : b + 2 < 46 := by omega
  have hb3 : b + 3 < 46 := by omega
  have hb4 : b + 4 < 46 := by omega
  have hb5 : b + 5 < 46 := by omega
  have hb6 : b + 6 < 46 := by omega
  have hb7 : b + 7 < 46 := by omega
  refine x_iload_n Γ dX0_ruling_0 rfl ?_
  refine x_tab4 Γ (a0 := 0) (a1 := 1) (a2 := 2) (a3 := 3) (t0 := 32) (t1 := 37) (t2 := 42) (t3 := 47) (td := 52) dX0_ruling_1 (by decide +kernel) (fun c_1 => ?_) (fun c_1 => ?_) (fun c_1 => ?_) (fun c_1 => ?_) (fun c_1_0 c_1_1 c_1_2 c_1_3 => ?_)
  · refine x_aload_n Γ dX0_ruling_32 rfl ?_
    refine gf_X0_40 Γ dX0_ruling_33 hb0 hC_o rfl ?_
    exact x_iret ρ rfl dX0_ruling_36 rfl (by first | (simp [rulF, zb, *]; done) | (exfalso; simp_all; done) | (simp [rulF, zb, *]; simp only [Int32.lt_iff_toInt_lt, Int32.le_iff_toInt_le, zlt_0, zlt_1, zlt_2, zlt_3, zlt_4, zlt_5, zlt_6, zlt_7, zlt_8, zlt_9, zlt_10, zlt_11, zlt_12, zlt_30, zlt_39, zlt_40, zlt_59, zlt_60, zlt_61, zlt_98, zlt_99, zlt_100, zlt_119, zlt_120, zlt_998, zlt_999, zlt_9998, zlt_9999, zlt_m1] at *; omega)) rfl (zH.rf)
  · refine x_aload_n Γ dX0_ruling_37 rfl ?_
    refine gf_X0_43 Γ dX0_ruling_38 hb0 hC_o rfl ?_
    exact x_iret ρ rfl dX0_ruling_41 rfl (by first | (simp [rulF, zb, *]; done) | (exfalso; simp_all; done) | (simp [rulF, zb, *]; simp only [Int32.lt_iff_toInt_lt, Int32.le_iff_toInt_le, zlt_0, zlt_1, zlt_2, zlt_3, zlt_4, zlt_5, zlt_6, zlt_7, zlt_8, zlt_9, zlt_10, zlt_11, zlt_12, zlt_30, zlt_39, zlt_40, zlt_59, zlt_60, zlt_61, zlt_98, zlt_99, zlt_100, zlt_119, zlt_120, zlt_998, zlt_999, zlt_9998, zlt_9999, zlt_m1] at *; omega)) rfl (zH.rf)
  · refine x_aload_n Γ dX0_ruling_42 rfl ?_
    refine gf_X0_46 Γ dX0_ruling_43 hb0 hC_o rfl ?_
    exact x_iret ρ rfl dX0_ruling_46 rfl (by first | (simp [rulF, zb, *]; done) | (exfalso; simp_all; done) | (simp [rulF, zb, *]; simp only [Int32.lt_iff_toInt_lt, Int32.le_iff_toInt_le, zlt_0, zlt_1, zlt_2, zlt_3, zlt_4, zlt_5, zlt_6, zlt_7, zlt_8, zlt_9, zlt_10, zlt_11, zlt_12, zlt_30, zlt_39, zlt_40, zlt_59, zlt_60, zlt_61, zlt_98, zlt_99, zlt_100, zlt_119, zlt_120, zlt_998, zlt_999, zlt_9998, zlt_9999, zlt_m1] at *; omega)) rfl (zH.rf)
  · refine x_aload_n Γ dX0_ruling_47 rfl ?_
    refine gf_X0_37 Γ dX0_ruling_48 hb0 hC_o rfl ?_
    exact x_iret ρ rfl dX0_ruling_51 rfl (by first | (simp [rulF, zb, *]; done) | (exfalso; simp_all; done) | (simp [rulF, zb, *]; simp only [Int32.lt_iff_toInt_lt, Int32.le_iff_toInt_le, zlt_0, zlt_1, zlt_2, zlt_3, zlt_4, zlt_5, zlt_6, zlt_7, zlt_8, zlt_9, zlt_10, zlt_11, zlt_12, zlt_30, zlt_39, zlt_40, zlt_59, zlt_60, zlt_61, zlt_98, zlt_99, zlt_100, zlt_119, zlt_120, zlt_998, zlt_999, zlt_9998, zlt_9999, zlt_m1] at *; omega)) rfl (zH.rf)
  · refine x_aload_n Γ dX0_ruling_52 rfl ?_
    refine gf_X0_49 Γ dX0_ruling_53 hb0 hC_o rfl ?_
    exact x_iret ρ rfl dX0_ruling_56 rfl (by first | (simp [rulF, zb, *]; done) | (exfalso; simp_all; done) | (simp [rulF, zb, *]; simp only [Int32.lt_iff_toInt_lt, Int32.le_iff_toInt_le, zlt_0, zlt_1, zlt_2, zlt_3, zlt_4, zlt_5, zlt_6, zlt_7, zlt_8, zlt_9, zlt_10, zlt_11, zlt_12, zlt_30, zlt_39, zlt_40, zlt_59, zlt_60, zlt_61, zlt_98, zlt_99, zlt_100, zlt_119, zlt_120, zlt_998, zlt_999, zlt_9998, zlt_9999, zlt_m1] at *; omega)) rfl (zH.rf)

set_option maxRecDepth 100000 in
set_option maxHeartbeats 4000000 in
theorem m_X0_draw {g : Nat → zE} {b : Nat} {T : zT} (hb : b + 7 < 46) : zM 0 M_X0_draw [.ref b] (hC g b T) 46 (some (.int (zdr (T 7 7)))) (hC g b (drT T)) 46 0 0 := by
  refine zM.intro (by decide) (Nat.le_of_ble_eq_true rfl) ?_
  intro Wf V m H0 Γ ρ
  replace Γ : zC Wf V m 1 H0 cX0_draw RX0 0 0 0 := Γ
  show zX Wf V m 1 H0 0 (zls [(0, .ref b)]) [] (hC g b T) 46 0 0
  have hb0 : b < 46 := by omega
  have hb1 : b + 1 < 46 := by omega
  have hb2 : b + 2 < 46 := by omega
  have hb3 : b + 3 < 46 := by omega
  have hb4 : b + 4 < 46 := by omega
  have hb5 : b + 5 < 46 := by omega
  have hb6 : b + 6 < 46 := by omega
  have hb7 : b + 7 < 46 := by omega
  refine x_aload_n Γ dX0_draw_0 rfl ?_
  refine x_aload_n Γ dX0_draw_1 rfl ?_
  refine gf_X0_58 Γ dX0_draw_2 hb0 hC_o rfl ?_
  refine x_ldc Γ wl_X0_103 dX0_draw_5 ?_
  refine x_imul Γ dX0_draw_7 ?_
  refine x_sipush Γ (v := 12345) dX0_draw_8 rfl ?_
  refine x_iadd Γ dX0_draw_11 ?_
  refine pf_X0_58 Γ dX0_draw_12 hb0 hC_o (Nat.le_of_ble_eq_true rfl) hC_f15 ?_
  refine x_aload_n Γ dX0_draw_15 rfl ?_
  refine gf_X0_58 Γ dX0_draw_16 hb0 hC_o rfl ?_
  refine x_bipush Γ (v := 8) dX0_draw_19 rfl ?_
  refine x_iushr Γ dX0_draw_21 ?_
  exact x_iret ρ rfl dX0_draw_22 rfl (by rfl) rfl (zH.rf)

set_option maxRecDepth 100000 in
set_option maxHeartbeats 4000000 in
theorem m_X0_trait {g : Nat → zE} {b : Nat} {T : zT} (hb : b + 7 < 46) (c : Nat) (hc : c < 10) (w : Int32) : zM 0 M_X0_trait [.ref b, .int (nI c), .int w] (hC g b T) 46 (some (.int (T (traF w) c))) (hC g b T) 46 0 0 := by
  refine zM.intro (by decide) (Nat.le_of_ble_eq_true rfl) ?_
  intro Wf V m H0 Γ ρ
  replace Γ : zC Wf V m 3 H0 cX0_trait RX0 0 0 0 := Γ
  show zX Wf V m 3 H0 0 (zls [(0, .ref b), (1, .int (nI c)), (2, .int w)]) [] (hC g b T) 46 0 0
  have hb0 : b < 46 := by omega
  have hb1 : b + 1 < 46 := by omega
  have hb2 : b + 2 < 46 := by omega
  have hb3 : b + 3 < 46 := by omega
  have hb4 : b + 4 < 46 := by omega
  have hb5 : b + 5 < 46 := by omega
  have hb6 : b + 6 < 46 := by omega
  have hb7 : b + 7 < 46 := by omega
  refine x_iload_n Γ dX0_trait_0 rfl ?_
  refine x_tab4 Γ (a0 := 0) (a1 := 1) (a2 := 2) (a3 := 3) (t0 := 32) (t1 := 39) (t2 := 46) (t3 := 53) (td := 60) dX0_trait_1 (by decide +kernel) (fun c_1 => ?_) (fun c_1 => ?_) (fun c_1 => ?_) (fun c_1 => ?_) (fun c_1_0 c_1_1 c_1_2 c_1_3 => ?_)
  · refine x_aload_n Γ dX0_trait_32 rfl ?_
    refine gf_X0_9 Γ dX0_trait_33 hb0 hC_o rfl ?_
    refine x_iload_n Γ dX0_trait_36 rfl ?_
    refine x_iald Γ dX0_trait_37 hb1 hC_0 rfl (by first | assumption | omega) (by decide) rfl ?_
    exact x_iret ρ rfl dX0_trait_38 rfl (by first | (simp [traF, zb, *]; done) | (exfalso; simp_all; done) | (simp [traF, zb, *]; simp only [Int32.lt_iff_toInt_lt, Int32.le_iff_toInt_le, zlt_0, zlt_1, zlt_2, zlt_3, zlt_4, zlt_5, zlt_6, zlt_7, zlt_8, zlt_9, zlt_10, zlt_11, zlt_12, zlt_30, zlt_39, zlt_40, zlt_59, zlt_60, zlt_61, zlt_98, zlt_99, zlt_100, zlt_119, zlt_120, zlt_998, zlt_999, zlt_9998, zlt_9999, zlt_m1] at *; omega)) rfl (zH.rf)
  · refine x_aload_n Γ dX0_trait_39 rfl ?_
    refine gf_X0_15 Γ dX0_trait_40 hb0 hC_o rfl ?_
    refine x_iload_n Γ dX0_trait_43 rfl ?_
    refine x_iald Γ dX0_trait_44 hb2 hC_1 rfl (by first | assumption | omega) (by decide) rfl ?_
    exact x_iret ρ rfl dX0_trait_45 rfl (by first | (simp [traF, zb, *]; done) | (exfalso; simp_all; done) | (simp [traF, zb, *]; simp only [Int32.lt_iff_toInt_lt, Int32.le_iff_toInt_le, zlt_0, zlt_1, zlt_2, zlt_3, zlt_4, zlt_5, zlt_6, zlt_7, zlt_8, zlt_9, zlt_10, zlt_11, zlt_12, zlt_30, zlt_39, zlt_40, zlt_59, zlt_60, zlt_61, zlt_98, zlt_99, zlt_100, zlt_119, zlt_120, zlt_998, zlt_999, zlt_9998, zlt_9999, zlt_m1] at *; omega)) rfl (zH.rf)
  · refine x_aload_n Γ dX0_trait_46 rfl ?_
    refine gf_X0_18 Γ dX0_trait_47 hb0 hC_o rfl ?_
    refine x_iload_n Γ dX0_trait_50 rfl ?_
    refine x_iald Γ dX0_trait_51 hb3 hC_2 rfl (by first | assumption | omega) (by decide) rfl ?_
    exact x_iret ρ rfl dX0_trait_52 rfl (by first | (simp [traF, zb, *]; done) | (exfalso; simp_all; done) | (simp [traF, zb, *]; simp only [Int32.lt_iff_toInt_lt, Int32.le_iff_toInt_le, zlt_0, zlt_1, zlt_2, zlt_3, zlt_4, zlt_5, zlt_6, zlt_7, zlt_8, zlt_9, zlt_10, zlt_11, zlt_12, zlt_30, zlt_39, zlt_40, zlt_59, zlt_60, zlt_61, zlt_98, zlt_99, zlt_100, zlt_119, zlt_120, zlt_998, zlt_999, zlt_9998, zlt_9999, zlt_m1] at *; omega)) rfl (zH.rf)
  · refine x_aload_n Γ dX0_trait_53 rfl ?_
    refine gf_X0_21 Γ dX0_trait_54 hb0 hC_o rfl ?_
    refine x_iload_n Γ dX0_trait_57 rfl ?_
    refine x_iald Γ dX0_trait_58 hb4 hC_3 rfl (by first | assumption | omega) (by decide) rfl ?_
    exact x_iret ρ rfl dX0_trait_59 rfl (by first | (simp [traF, zb, *]; done) | (exfalso; simp_all; done) | (simp [traF, zb, *]; simp only [Int32.lt_iff_toInt_lt, Int32.le_iff_toInt_le, zlt_0, zlt_1, zlt_2, zlt_3, zlt_4, zlt_5, zlt_6, zlt_7, zlt_8, zlt_9, zlt_10, zlt_11, zlt_12, zlt_30, zlt_39, zlt_40, zlt_59, zlt_60, zlt_61, zlt_98, zlt_99, zlt_100, zlt_119, zlt_120, zlt_998, zlt_999, zlt_9998, zlt_9999, zlt_m1] at *; omega)) rfl (zH.rf)
  · refine x_aload_n Γ dX0_trait_60 rfl ?_
    refine gf_X0_27 Γ dX0_trait_61 hb0 hC_o rfl ?_
    refine x_iload_n Γ dX0_trait_64 rfl ?_
    refine x_iald Γ dX0_trait_65 hb6 hC_5 rfl (by first | assumption | omega) (by decide) rfl ?_
    exact x_iret ρ rfl dX0_trait_66 rfl (by first | (simp [traF, zb, *]; done) | (exfalso; simp_all; done) | (simp [traF, zb, *]; simp only [Int32.lt_iff_toInt_lt, Int32.le_iff_toInt_le, zlt_0, zlt_1, zlt_2, zlt_3, zlt_4, zlt_5, zlt_6, zlt_7, zlt_8, zlt_9, zlt_10, zlt_11, zlt_12, zlt_30, zlt_39, zlt_40, zlt_59, zlt_60, zlt_61, zlt_98, zlt_99, zlt_100, zlt_119, zlt_120, zlt_998, zlt_999, zlt_9998, zlt_9999, zlt_m1] at *; omega)) rfl (zH.rf)

set_option maxRecDepth 100000 in
set_option maxHeartbeats 4000000 in
theorem m_X0_exchange {g : Nat → zE} {b : Nat} {T : zT} (hb : b + 7 < 46) (x y : Nat) (hx : x < 10) (hy : y < 10) : zM 0 M_X0_exchange [.ref b, .int (nI x), .int (nI y)] (hC g b T) 46 (none) (hC g b (exT T x y)) 46 0 0 := by
  refine zM.intro (by decide) (Nat.le_of_ble_eq_true rfl) ?_
  intro Wf V m H0 Γ ρ
  replace Γ : zC Wf V m 4 H0 cX0_exchange RX0 0 0 0 := Γ
  show zX Wf V m 4 H0 0 (zls [(0, .ref b), (1, .int (nI x)), (2, .int (nI y))]) [] (hC g b T) 46 0 0
  have hb0 : b < 46 := by omega
  have hb1 : b + 1 < 46 := by omega
  have hb2 : b + 2 < 46 := by omega
  have hb3 : b + 3 < 46 := by omega
  have hb4 : b + 4 < 46 := by omega
  have hb5 : b + 5 < 46 := by omega
  have hb6 : b + 6 < 46 := by omega
  have hb7 : b + 7 < 46 := by omega
  refine x_aload_n Γ dX0_exchange_0 rfl ?_
  refine gf_X0_27 Γ dX0_exchange_1 hb0 hC_o rfl ?_
  refine x_iload_n Γ dX0_exchange_4 rfl ?_
  refine x_iald Γ dX0_exchange_5 hb6 hC_5 rfl (by first | assumption | omega) (by decide) rfl ?_
  refine x_istore_n Γ dX0_exchange_6 (by decide) ?_
  refine x_aload_n Γ dX0_exchange_7 rfl ?_
  refine gf_X0_27 Γ dX0_exchange_8 hb0 hC_o rfl ?_
  refine x_iload_n Γ dX0_exchange_11 rfl ?_
  refine x_aload_n Γ dX0_exchange_12 rfl ?_
  refine gf_X0_27 Γ dX0_exchange_13 hb0 hC_o rfl ?_
  refine x_iload_n Γ dX0_exchange_16 rfl ?_
  refine x_iald Γ dX0_exchange_17 hb6 hC_5 rfl (by first | assumption | omega) (by decide) rfl ?_
  refine x_iast Γ dX0_exchange_18 hb6 hC_5 rfl (by first | assumption | omega) (by decide) hC_u5 ?_
  refine x_aload_n Γ dX0_exchange_19 rfl ?_
  refine gf_X0_27 Γ dX0_exchange_20 hb0 hC_o rfl ?_
  refine x_iload_n Γ dX0_exchange_23 rfl ?_
  refine x_iload_n Γ dX0_exchange_24 rfl ?_
  refine x_iast Γ dX0_exchange_25 hb6 hC_5 rfl (by first | assumption | omega) (by decide) hC_u5 ?_
  exact x_vret ρ dX0_exchange_26 (rfl) rfl (by rw [exT]; exact zH.rf)
