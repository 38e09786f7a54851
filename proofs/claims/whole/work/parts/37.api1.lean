def ci (x : Int32) : Nat := x.toNatClampNeg
theorem m_in {h : Nat → zE} (x lo hi : Int32) (L H : Int64) (hL : L.toInt = lo.toInt) (hH : H.toInt = hi.toInt) : zM 0 M_X4_in [.long x.toInt64, .long L, .long H] h 46 (some (.int (zb (inR x lo hi)))) h 46 0 0 := by
  have := m_X4_in (h := h) x.toInt64 L H
  rw [Int32.toInt_toInt64, hL, hH, inI_inR] at this
  exact this
theorem inR_nI {x hi : Int32} {n : Nat} (h : inR x 0 hi = true) (hn : hi = nI n) (hn2 : n < 2 ^ 31) : ∃ j, j ≤ n ∧ x = nI j := by
  simp only [inR, Bool.and_eq_true, Bool.not_eq_true', decide_eq_false_iff_not] at h
  obtain ⟨j, hj, rfl⟩ := nI_of h.1
  rw [hn] at h
  exact ⟨j, z_nlt h.2 hn2 hj, rfl⟩
theorem isK_nI {x : Int32} (h : isK x = true) : ∃ j, j < 7 ∧ x = nI j := by
  simp only [isK, Bool.and_eq_true, Bool.not_eq_true', decide_eq_false_iff_not] at h
  obtain ⟨j, hj, rfl⟩ := nI_of h.1
  exact ⟨j, z_nle (a := 7) h.2 (by omega) hj, rfl⟩
theorem isK_no {x : Int32} (h0 : ¬ x = 0) (h1 : ¬ x = 1) (h2 : ¬ x = 2) (h3 : ¬ x = 3) (h4 : ¬ x = 4) (h5 : ¬ x = 5) (h6 : ¬ x = 6) : isK x = false := by
  refine Bool.eq_false_iff.mpr (fun z => ?_)
  obtain ⟨j, hj, rfl⟩ := isK_nI z
  match j, hj with
  | 0, _ => exact h0 rfl
  | 1, _ => exact h1 rfl
  | 2, _ => exact h2 rfl
  | 3, _ => exact h3 rfl
  | 4, _ => exact h4 rfl
  | 5, _ => exact h5 rfl
  | 6, _ => exact h6 rfl
theorem okT_nI {w v : Int32} (h : okT w v = true) : ∃ k, k < 6 ∧ w = nI k ∧ traF w = k := by
  unfold okT at h
  by_cases h0 : w = 0
  · exact ⟨0, by omega, h0, by simp [traF, h0]⟩
  · by_cases h1 : w = 1
    · exact ⟨1, by omega, h1, by simp [traF, h1]⟩
    · by_cases h2 : w = 2
      · exact ⟨2, by omega, h2, by simp [traF, h2]⟩
      · by_cases h3 : w = 3
        · exact ⟨3, by omega, h3, by simp [traF, h3]⟩
        · by_cases h5 : w = 5
          · exact ⟨5, by omega, h5, by simp [traF, h5]⟩
          · simp [h0, h1, h2, h3, h5] at h
theorem okR_nI {w v : Int32} (h : okR w v = true) : ∃ k, k < 5 ∧ w = nI k ∧ rulF w = k := by
  unfold okR at h
  by_cases h0 : w = 0
  · exact ⟨0, by omega, h0, by simp [rulF, h0]⟩
  · by_cases h1 : w = 1
    · exact ⟨1, by omega, h1, by simp [rulF, h1]⟩
    · by_cases h2 : w = 2
      · exact ⟨2, by omega, h2, by simp [rulF, h2]⟩
      · by_cases h3 : w = 3
        · exact ⟨3, by omega, h3, by simp [rulF, h3]⟩
        · by_cases h4 : w = 4
          · exact ⟨4, by omega, h4, by simp [rulF, h4]⟩
          · simp [h0, h1, h2, h3, h4] at h
theorem inR01 {v : Int32} : inR v 0 1 = decide (v = 0 ∨ v = 1) := by
  rw [Bool.eq_iff_iff]
  simp only [inR, Bool.and_eq_true, Bool.not_eq_true', decide_eq_false_iff_not, decide_eq_true_eq, Int32.lt_iff_toInt_lt, ← Int32.toInt_inj, zlt_0, zlt_1]
  omega
theorem tr_self {T : zT} {j : Nat} : tr T j (T j) = T := by
  funext a
  by_cases h : a = j
  · subst h; exact tr_s
  · exact tr_n h
def fChg (T : zT) (c w v : Int32) : Nat := if hs T c = true ∧ okT w v = true then 7 else 0
def tChg (T : zT) (c w v : Int32) : zT := if fChg T c w v = 7 then ts T (traF w) (ci c) v else T
def fRul (w v : Int32) : Nat := if okR w v = true then 7 else 0
def tRul (T : zT) (w v : Int32) : zT := if fRul w v = 7 then ts T 7 (rulF w) v else T
def rNow (T : zT) (N : Nat) (w : Int32) : Int32 := if w = 0 then T 7 5 else if w = 1 then T 7 6 else if w = 2 then T 7 3 else if w = 3 then setW T 1 N else if w = 4 then setW T 2 N else if w = 5 then hunW T N else 3 * T 7 0 + 2 * T 7 1
def fNow (w : Int32) : Nat := if isK w = true then 7 else 0
def fWan (T : zT) (c : Int32) : Nat := if hs T c = true then (if T 5 (ci c) = 0 then 4 else 7) else 0
def fSwp (T : zT) (x y : Int32) : Nat := if hs T x = true ∧ hs T y = true ∧ ¬ x = y then (if T 5 (ci x) + T 5 (ci y) = 3 ∧ wo T (ci x) = true ∧ wo T (ci y) = true then 7 else 4) else 0
def tSwp (T : zT) (x y : Int32) : zT := if fSwp T x y = 7 then exT T (ci x) (ci y) else T

set_option maxRecDepth 100000 in
set_option maxHeartbeats 4000000 in
theorem m_X4_isPart {h : Nat → zE} (w v : Int32) : zM 2 M_X4_isPart [.int w, .int v] (h) 46 (some (.int (zb (okT w v)))) (h) 46 0 0 := by
  refine zM.intro (by decide) (Nat.le_of_ble_eq_true rfl) ?_
  intro Wf V m H0 Γ ρ
  replace Γ : zC Wf V m 2 H0 cX4_isPart RX4 2 0 0 := Γ
  show zX Wf V m 2 H0 0 (zls [(0, .int w), (1, .int v)]) [] (h) 46 0 0
  refine x_iload_n Γ dX4_isPart_0 rfl ?_
  refine x_tab4 Γ (a0 := 0) (a1 := 1) (a2 := 2) (a3 := 3) (t0 := 32) (t1 := 37) (t2 := 42) (t3 := 52) (td := 62) dX4_isPart_1 (by decide +kernel) (fun c_1 => ?_) (fun c_1 => ?_) (fun c_1 => ?_) (fun c_1 => ?_) (fun c_1_0 c_1_1 c_1_2 c_1_3 => ?_)
  · refine x_iload_n Γ dX4_isPart_32 rfl ?_
    refine x_callS Γ cals_X4_isKind wl_X4_54 dX4_isPart_33 (m_X4_isKind v) rfl (by decide) rfl (Nat.le_of_ble_eq_true rfl) (Nat.le_refl _) (Nat.le_refl _) ?_
    exact x_iret ρ rfl dX4_isPart_36 (by first | exact zb_nz _ | rfl) (by simp [okT, zb, *]) rfl (zH.rf)
  · refine x_iload_n Γ dX4_isPart_37 rfl ?_
    refine x_callS Γ cals_X4_isHunger wl_X4_78 dX4_isPart_38 (m_X4_isHunger v) rfl (by decide) rfl (Nat.le_of_ble_eq_true rfl) (Nat.le_refl _) (Nat.le_refl _) ?_
    exact x_iret ρ rfl dX4_isPart_41 (by first | exact zb_nz _ | rfl) (by simp [okT, zb, *]) rfl (zH.rf)
  · refine x_iload_n Γ dX4_isPart_42 rfl ?_
    refine x_i2l Γ dX4_isPart_43 ?_
    refine x_lconst Γ (v := 0) dX4_isPart_44 rfl ?_
    refine x_ldc2 Γ wl_X4_81 dX4_isPart_45 ?_
    refine x_callS Γ cals_X4_in wl_X4_40 dX4_isPart_48 (m_in v 0 3 0 3 rfl rfl) rfl (by decide) rfl (Nat.le_of_ble_eq_true rfl) (Nat.le_refl _) (Nat.le_refl _) ?_
    exact x_iret ρ rfl dX4_isPart_51 (by first | exact zb_nz _ | rfl) (by simp [okT, zb, *]) rfl (zH.rf)
  · refine x_iload_n Γ dX4_isPart_52 rfl ?_
    refine x_i2l Γ dX4_isPart_53 ?_
    refine x_lconst Γ (v := 0) dX4_isPart_54 rfl ?_
    refine x_ldc2 Γ wl_X4_83 dX4_isPart_55 ?_
    refine x_callS Γ cals_X4_in wl_X4_40 dX4_isPart_58 (m_in v 0 9999 0 9999 rfl rfl) rfl (by decide) rfl (Nat.le_of_ble_eq_true rfl) (Nat.le_refl _) (Nat.le_refl _) ?_
    exact x_iret ρ rfl dX4_isPart_61 (by first | exact zb_nz _ | rfl) (by simp [okT, zb, *]) rfl (zH.rf)
  · refine x_iload_n Γ dX4_isPart_62 rfl ?_
    refine x_iconst Γ (v := 5) dX4_isPart_63 rfl ?_
    refine x_icmp_ne Γ (tgt := 83) dX4_isPart_64 (by decide) (fun c_2 => ?_) (fun c_2 => ?_)
    · refine x_iconst Γ (v := 0) dX4_isPart_83 rfl ?_
      exact x_iret ρ rfl dX4_isPart_84 (by first | exact zb_nz _ | rfl) (by simp [okT, zb, *]) rfl (zH.rf)
    · refine x_iload_n Γ dX4_isPart_67 rfl ?_
      refine x_i2l Γ dX4_isPart_68 ?_
      refine x_lconst Γ (v := 0) dX4_isPart_69 rfl ?_
      refine x_ldc2 Γ wl_X4_85 dX4_isPart_70 ?_
      refine x_callS Γ cals_X4_in wl_X4_40 dX4_isPart_73 (m_in v 0 2 0 2 rfl rfl) rfl (by decide) rfl (Nat.le_of_ble_eq_true rfl) (Nat.le_refl _) (Nat.le_refl _) ?_
      refine x_if_eq Γ (tgt := 83) dX4_isPart_76 (by decide) (fun c_3 => ?_) (fun c_3 => ?_)
      · have c_3 := zb_0.mp c_3
        refine x_iconst Γ (v := 0) dX4_isPart_83 rfl ?_
        exact x_iret ρ rfl dX4_isPart_84 (by first | exact zb_nz _ | rfl) (by simp [okT, zb, *]) rfl (zH.rf)
      · have c_3 := zb_n0.mp c_3
        refine x_iconst Γ (v := 1) dX4_isPart_79 rfl ?_
        refine x_goto Γ (tgt := 84) dX4_isPart_80 (by decide) ?_
        exact x_iret ρ rfl dX4_isPart_84 (by first | exact zb_nz _ | rfl) (by simp [okT, zb, *]) rfl (zH.rf)

set_option maxRecDepth 100000 in
set_option maxHeartbeats 4000000 in
theorem m_X4_isRule {h : Nat → zE} (w v : Int32) : zM 1 M_X4_isRule [.int w, .int v] (h) 46 (some (.int (zb (okR w v)))) (h) 46 0 0 := by
  refine zM.intro (by decide) (Nat.le_of_ble_eq_true rfl) ?_
  intro Wf V m H0 Γ ρ
  replace Γ : zC Wf V m 2 H0 cX4_isRule RX4 1 0 0 := Γ
  show zX Wf V m 2 H0 0 (zls [(0, .int w), (1, .int v)]) [] (h) 46 0 0
  refine x_iload_n Γ dX4_isRule_0 rfl ?_
  refine x_tab4 Γ (a0 := 0) (a1 := 1) (a2 := 2) (a3 := 3) (t0 := 32) (t1 := 32) (t2 := 42) (t3 := 52) (td := 62) dX4_isRule_1 (by decide +kernel) (fun c_1 => ?_) (fun c_1 => ?_) (fun c_1 => ?_) (fun c_1 => ?_) (fun c_1_0 c_1_1 c_1_2 c_1_3 => ?_)
  · refine x_iload_n Γ dX4_isRule_32 rfl ?_
    refine x_i2l Γ dX4_isRule_33 ?_
    refine x_lconst Γ (v := 0) dX4_isRule_34 rfl ?_
    refine x_ldc2 Γ wl_X4_94 dX4_isRule_35 ?_
    refine x_callS Γ cals_X4_in wl_X4_40 dX4_isRule_38 (m_in v 0 10 0 10 rfl rfl) rfl (by decide) rfl (Nat.le_of_ble_eq_true rfl) (Nat.le_refl _) (Nat.le_refl _) ?_
    exact x_iret ρ rfl dX4_isRule_41 (by first | exact zb_nz _ | rfl) (by simp [okR, zb, *]) rfl (zH.rf)
  · refine x_iload_n Γ dX4_isRule_32 rfl ?_
    refine x_i2l Γ dX4_isRule_33 ?_
    refine x_lconst Γ (v := 0) dX4_isRule_34 rfl ?_
    refine x_ldc2 Γ wl_X4_94 dX4_isRule_35 ?_
    refine x_callS Γ cals_X4_in wl_X4_40 dX4_isRule_38 (m_in v 0 10 0 10 rfl rfl) rfl (by decide) rfl (Nat.le_of_ble_eq_true rfl) (Nat.le_refl _) (Nat.le_refl _) ?_
    exact x_iret ρ rfl dX4_isRule_41 (by first | exact zb_nz _ | rfl) (by simp [okR, zb, *]) rfl (zH.rf)
  · refine x_iload_n Γ dX4_isRule_42 rfl ?_
    refine x_i2l Γ dX4_isRule_43 ?_
    refine x_lconst Γ (v := 1) dX4_isRule_44 rfl ?_
    refine x_ldc2 Γ wl_X4_94 dX4_isRule_45 ?_
    refine x_callS Γ cals_X4_in wl_X4_40 dX4_isRule_48 (m_in v 1 10 1 10 rfl rfl) rfl (by decide) rfl (Nat.le_of_ble_eq_true rfl) (Nat.le_refl _) (Nat.le_refl _) ?_
    exact x_iret ρ rfl dX4_isRule_51 (by first | exact zb_nz _ | rfl) (by simp [okR, zb, *]) rfl (zH.rf)
  · refine x_iload_n Γ dX4_isRule_52 rfl ?_
    refine x_i2l Γ dX4_isRule_53 ?_
    refine x_lconst Γ (v := 0) dX4_isRule_54 rfl ?_
    refine x_ldc2 Γ wl_X4_81 dX4_isRule_55 ?_
    refine x_callS Γ cals_X4_in wl_X4_40 dX4_isRule_58 (m_in v 0 3 0 3 rfl rfl) rfl (by decide) rfl (Nat.le_of_ble_eq_true rfl) (Nat.le_refl _) (Nat.le_refl _) ?_
    exact x_iret ρ rfl dX4_isRule_61 (by first | exact zb_nz _ | rfl) (by simp [okR, zb, *]) rfl (zH.rf)
  · refine x_iload_n Γ dX4_isRule_62 rfl ?_
    refine x_iconst Γ (v := 4) dX4_isRule_63 rfl ?_
    refine x_icmp_ne Γ (tgt := 81) dX4_isRule_64 (by decide) (fun c_2 => ?_) (fun c_2 => ?_)
    · refine x_iconst Γ (v := 0) dX4_isRule_81 rfl ?_
      exact x_iret ρ rfl dX4_isRule_82 (by first | exact zb_nz _ | rfl) (by simp [okR, zb, *]) rfl (zH.rf)
    · refine x_iload_n Γ dX4_isRule_67 rfl ?_
      refine x_i2l Γ dX4_isRule_68 ?_
      refine x_lconst Γ (v := 0) dX4_isRule_69 rfl ?_
      refine x_lconst Γ (v := 1) dX4_isRule_70 rfl ?_
      refine x_callS Γ cals_X4_in wl_X4_40 dX4_isRule_71 (m_in v 0 1 0 1 rfl rfl) rfl (by decide) rfl (Nat.le_of_ble_eq_true rfl) (Nat.le_refl _) (Nat.le_refl _) ?_
      refine x_if_eq Γ (tgt := 81) dX4_isRule_74 (by decide) (fun c_3 => ?_) (fun c_3 => ?_)
      · have c_3 := zb_0.mp c_3
        rw [inR01] at c_3
        replace c_3 := of_decide_eq_false c_3
        refine x_iconst Γ (v := 0) dX4_isRule_81 rfl ?_
        exact x_iret ρ rfl dX4_isRule_82 (by first | exact zb_nz _ | rfl) (by simp [okR, zb, *]) rfl (zH.rf)
      · have c_3 := zb_n0.mp c_3
        rw [inR01] at c_3
        replace c_3 := of_decide_eq_true c_3
        refine x_iconst Γ (v := 1) dX4_isRule_77 rfl ?_
        refine x_goto Γ (tgt := 82) dX4_isRule_78 (by decide) ?_
        exact x_iret ρ rfl dX4_isRule_82 (by first | exact zb_nz _ | rfl) (by simp [okR, zb, *]) rfl (zH.rf)

set_option maxRecDepth 100000 in
set_option maxHeartbeats 4000000 in
theorem m_X4_of {g : Nat → zE} {T R : zT} {N : Nat} (hN : wN T N) (c w : Int32) : zM 2 M_X4_of [.ref 37, .int c, .int w] (hR g T R) 46 (some (.int (fr (fOf T c w) (rOf T (ci c) (ci w))))) (hR g (T) (fR R (fOf T c w))) 46 0 0 := by
  refine zM.intro (by decide) (Nat.le_of_ble_eq_true rfl) ?_
  intro Wf V m H0 Γ ρ
  replace Γ : zC Wf V m 3 H0 cX4_of RX4 2 0 0 := Γ
  show zX Wf V m 3 H0 0 (zls [(0, .ref 37), (1, .int c), (2, .int w)]) [] (hR g T R) 46 0 0
  have hN2 := hN.2
  refine x_aload_n Γ dX4_of_0 rfl ?_
  refine x_iload_n Γ dX4_of_1 rfl ?_
  refine x_callV Γ calv_X4_isOne wl_X4_67 dX4_of_2 (m_X4_isOne (g := g) (T := T) (R := R) hN c) rfl (by decide) (by decide) rfl rfl rfl rfl (Nat.le_of_ble_eq_true rfl) (Nat.le_refl _) (Nat.le_refl _) ?_
  refine x_if_eq Γ (tgt := 20) dX4_of_5 (by decide) (fun c_1 => ?_) (fun c_1 => ?_)
  · have c_1 := zb_0.mp c_1
    refine x_aload_n Γ dX4_of_20 rfl ?_
    refine x_ldc Γ wl_X4_34 dX4_of_21 ?_
    refine x_callV Γ calv_X4_finds wl_X4_36 dX4_of_23 (m_X4_finds (f := -1000001) (k := 0) (by decide) (by decide)) rfl (by decide) (by decide) rfl rfl rfl rfl (Nat.le_of_ble_eq_true rfl) (Nat.le_refl _) (Nat.le_refl _) ?_
    exact x_iret ρ rfl dX4_of_26 rfl (by simp [fr, fOf, rOf, *]; try rfl) rfl (by simp [fR, fOf, *]; exact zH.rf)
  · have c_1 := zb_n0.mp c_1
    obtain ⟨j, hj, rfl⟩ := hs_in hN c_1
    have ej : ci (nI j) = j := nI_clamp (by omega)
    refine x_iload_n Γ dX4_of_8 rfl ?_
    refine x_i2l Γ dX4_of_9 ?_
    refine x_lconst Γ (v := 0) dX4_of_10 rfl ?_
    refine x_ldc2 Γ wl_X4_70 dX4_of_11 ?_
    refine x_callS Γ cals_X4_in wl_X4_40 dX4_of_14 (m_in w 0 7 0 7 rfl rfl) rfl (by decide) rfl (Nat.le_of_ble_eq_true rfl) (Nat.le_refl _) (Nat.le_refl _) ?_
    refine x_if_ne Γ (tgt := 27) dX4_of_17 (by decide) (fun c_2 => ?_) (fun c_2 => ?_)
    · have c_2 := zb_n0.mp c_2
      obtain ⟨k, hk, rfl⟩ := inR_nI (n := 7) c_2 rfl (by omega)
      have ek : ci (nI k) = k := nI_clamp (by omega)
      refine x_iload_n Γ dX4_of_27 rfl ?_
      refine x_bipush Γ (v := 6) dX4_of_28 rfl ?_
      refine x_icmp_ge Γ (tgt := 42) dX4_of_30 (by decide) (fun c_3 => ?_) (fun c_3 => ?_)
      · have c_3 := z_le (a := 6) c_3 (by omega) (by omega)
        have hk6 : ¬ k < 6 := by omega
        refine x_iload_n Γ dX4_of_42 rfl ?_
        refine x_bipush Γ (v := 6) dX4_of_43 rfl ?_
        refine x_icmp_ne Γ (tgt := 56) dX4_of_45 (by decide) (fun c_4 => ?_) (fun c_4 => ?_)
        · have hke : ¬ k = 6 := fun z => c_4 (by rw [z]; rfl)
          refine x_aload_n Γ dX4_of_56 rfl ?_
          refine x_iload_n Γ dX4_of_57 rfl ?_
          refine x_callV Γ calv_X4_seatWorth wl_X4_75 dX4_of_58 (m_X4_seatWorth (g := g) (T := T) (R := R) (c := j) (by omega)) rfl (by decide) (by decide) rfl rfl rfl rfl (Nat.le_of_ble_eq_true rfl) (Nat.le_refl _) (Nat.le_refl _) ?_
          exact x_iret ρ rfl dX4_of_61 rfl (by simp [fr, fOf, rOf, *]; try rfl) rfl (by simp [fR, fOf, *]; exact zH.rf)
        · have hke : k = 6 := (nI_eq (b := 6) (by omega) (by omega)).mp c_4
          refine x_aload_n Γ dX4_of_48 rfl ?_
          refine x_iload_n Γ dX4_of_49 rfl ?_
          refine x_callV Γ calv_X4_loafWorth wl_X4_72 dX4_of_50 (m_X4_loafWorth (g := g) (T := T) (R := R) (c := j) (by omega)) rfl (by decide) (by decide) rfl rfl rfl rfl (Nat.le_of_ble_eq_true rfl) (Nat.le_refl _) (Nat.le_refl _) ?_
          refine x_goto Γ (tgt := 61) dX4_of_53 (by decide) ?_
          exact x_iret ρ rfl dX4_of_61 rfl (by simp [fr, fOf, rOf, *]; try rfl) rfl (by simp [fR, fOf, *]; exact zH.rf)
      · have c_3 := z_nle (a := 6) c_3 (by omega) (by omega)
        refine x_aload_n Γ dX4_of_33 rfl ?_
        refine x_iload_n Γ dX4_of_34 rfl ?_
        refine x_iload_n Γ dX4_of_35 rfl ?_
        refine x_callV Γ calv_X4_is wl_X4_63 dX4_of_36 (m_X4_is (g := g) (T := T) (R := R) (c := j) (w := k) (by omega) (by omega)) rfl (by decide) (by decide) rfl rfl rfl rfl (Nat.le_of_ble_eq_true rfl) (Nat.le_refl _) (Nat.le_refl _) ?_
        refine x_goto Γ (tgt := 61) dX4_of_39 (by decide) ?_
        exact x_iret ρ rfl dX4_of_61 rfl (by simp [fr, fOf, rOf, *]; try rfl) rfl (by simp [fR, fOf, *]; exact zH.rf)
    · have c_2 := zb_0.mp c_2
      refine x_aload_n Γ dX4_of_20 rfl ?_
      refine x_ldc Γ wl_X4_34 dX4_of_21 ?_
      refine x_callV Γ calv_X4_finds wl_X4_36 dX4_of_23 (m_X4_finds (f := -1000001) (k := 0) (by decide) (by decide)) rfl (by decide) (by decide) rfl rfl rfl rfl (Nat.le_of_ble_eq_true rfl) (Nat.le_refl _) (Nat.le_refl _) ?_
      exact x_iret ρ rfl dX4_of_26 rfl (by simp [fr, fOf, rOf, *]; try rfl) rfl (by simp [fR, fOf, *]; exact zH.rf)

set_option maxRecDepth 100000 in
set_option maxHeartbeats 4000000 in
theorem m_X4_change {g : Nat → zE} {T R : zT} {N : Nat} (hN : wN T N) (c w v : Int32) : zM 3 M_X4_change [.ref 37, .int c, .int w, .int v] (hR g T R) 46 (some (.int (fr (fChg T c w v) (T (traF w) (ci c))))) (hR g (tChg T c w v) (fR R (fChg T c w v))) 46 0 0 := by
  refine zM.intro (by decide) (Nat.le_of_ble_eq_true rfl) ?_
  intro Wf V m H0 Γ ρ
  replace Γ : zC Wf V m 4 H0 cX4_change RX4 3 0 0 := Γ
  show zX Wf V m 4 H0 0 (zls [(0, .ref 37), (1, .int c), (2, .int w), (3, .int v)]) [] (hR g T R) 46 0 0
  have hN2 := hN.2
  refine x_aload_n Γ dX4_change_0 rfl ?_
  refine x_iload_n Γ dX4_change_1 rfl ?_
  refine x_callV Γ calv_X4_isOne wl_X4_67 dX4_change_2 (m_X4_isOne (g := g) (T := T) (R := R) hN c) rfl (by decide) (by decide) rfl rfl rfl rfl (Nat.le_of_ble_eq_true rfl) (Nat.le_refl _) (Nat.le_refl _) ?_
  refine x_if_eq Γ (tgt := 33) dX4_change_5 (by decide) (fun c_1 => ?_) (fun c_1 => ?_)
  · have c_1 := zb_0.mp c_1
    refine x_aload_n Γ dX4_change_33 rfl ?_
    refine x_ldc Γ wl_X4_34 dX4_change_34 ?_
    refine x_callV Γ calv_X4_finds wl_X4_36 dX4_change_36 (m_X4_finds (f := -1000001) (k := 0) (by decide) (by decide)) rfl (by decide) (by decide) rfl rfl rfl rfl (Nat.le_of_ble_eq_true rfl) (Nat.le_refl _) (Nat.le_refl _) ?_
    exact x_iret ρ rfl dX4_change_39 rfl (by simp [fr, fChg, *]; try rfl) rfl (by simp [fR, fChg, tChg, *]; exact zH.rf)
  · have c_1 := zb_n0.mp c_1
    obtain ⟨j, hj, rfl⟩ := hs_in hN c_1
    have ej : ci (nI j) = j := nI_clamp (by omega)
    refine x_iload_n Γ dX4_change_8 rfl ?_
    refine x_iload_n Γ dX4_change_9 rfl ?_
    refine x_callS Γ cals_X4_isPart wl_X4_87 dX4_change_10 (m_X4_isPart w v) rfl (by decide) rfl (Nat.le_of_ble_eq_true rfl) (Nat.le_refl _) (Nat.le_refl _) ?_
    refine x_if_eq Γ (tgt := 33) dX4_change_13 (by decide) (fun c_2 => ?_) (fun c_2 => ?_)
    · have c_2 := zb_0.mp c_2
      refine x_aload_n Γ dX4_change_33 rfl ?_
      refine x_ldc Γ wl_X4_34 dX4_change_34 ?_
      refine x_callV Γ calv_X4_finds wl_X4_36 dX4_change_36 (m_X4_finds (f := -1000001) (k := 0) (by decide) (by decide)) rfl (by decide) (by decide) rfl rfl rfl rfl (Nat.le_of_ble_eq_true rfl) (Nat.le_refl _) (Nat.le_refl _) ?_
      exact x_iret ρ rfl dX4_change_39 rfl (by simp [fr, fChg, *]; try rfl) rfl (by simp [fR, fChg, tChg, *]; exact zH.rf)
    · have c_2 := zb_n0.mp c_2
      obtain ⟨k, hk, rfl, etk⟩ := okT_nI c_2
      refine x_aload_n Γ dX4_change_16 rfl ?_
      refine x_bipush Γ (v := 9) dX4_change_17 rfl ?_
      refine x_bipush Γ (v := 6) dX4_change_19 rfl ?_
      refine x_iload_n Γ dX4_change_21 rfl ?_
      refine x_imul Γ dX4_change_22 ?_
      refine x_iadd Γ dX4_change_23 ?_
      refine x_iload_n Γ dX4_change_24 rfl ?_
      refine x_iadd Γ dX4_change_25 ?_
      rw [ixc]
      refine x_iload_n Γ dX4_change_26 rfl ?_
      refine x_callV Γ calv_X4_becomes wl_X4_91 dX4_change_27 (m_X4_becomes (g := g) (T := T) (R := R) (T2 := ts T k j v) (k := 9 + 6 * j + k) (by omega) (mr_uc hk (by omega))) rfl (by decide) (by decide) rfl rfl rfl rfl (Nat.le_of_ble_eq_true rfl) (Nat.le_refl _) (Nat.le_refl _) ?_
      rw [mr_c hk (by omega)]
      refine x_goto Γ (tgt := 39) dX4_change_30 (by decide) ?_
      exact x_iret ρ rfl dX4_change_39 rfl (by simp [fr, fChg, *]; try rfl) rfl (by simp [fR, fChg, tChg, *]; exact zH.rf)

set_option maxRecDepth 100000 in
set_option maxHeartbeats 4000000 in
theorem m_X4_rule {g : Nat → zE} {T R : zT} (w v : Int32) : zM 2 M_X4_rule [.ref 37, .int w, .int v] (hR g T R) 46 (some (.int (fr (fRul w v) (T 7 (rulF w))))) (hR g (tRul T w v) (fR R (fRul w v))) 46 0 0 := by
  refine zM.intro (by decide) (Nat.le_of_ble_eq_true rfl) ?_
  intro Wf V m H0 Γ ρ
  replace Γ : zC Wf V m 3 H0 cX4_rule RX4 2 0 0 := Γ
  show zX Wf V m 3 H0 0 (zls [(0, .ref 37), (1, .int w), (2, .int v)]) [] (hR g T R) 46 0 0
  refine x_iload_n Γ dX4_rule_0 rfl ?_
  refine x_iload_n Γ dX4_rule_1 rfl ?_
  refine x_callS Γ cals_X4_isRule wl_X4_96 dX4_rule_2 (m_X4_isRule w v) rfl (by decide) rfl (Nat.le_of_ble_eq_true rfl) (Nat.le_refl _) (Nat.le_refl _) ?_
  refine x_if_eq Γ (tgt := 17) dX4_rule_5 (by decide) (fun c_1 => ?_) (fun c_1 => ?_)
  · have c_1 := zb_0.mp c_1
    refine x_aload_n Γ dX4_rule_17 rfl ?_
    refine x_ldc Γ wl_X4_34 dX4_rule_18 ?_
    refine x_callV Γ calv_X4_finds wl_X4_36 dX4_rule_20 (m_X4_finds (f := -1000001) (k := 0) (by decide) (by decide)) rfl (by decide) (by decide) rfl rfl rfl rfl (Nat.le_of_ble_eq_true rfl) (Nat.le_refl _) (Nat.le_refl _) ?_
    exact x_iret ρ rfl dX4_rule_23 rfl (by simp [fr, fRul, *]; try rfl) rfl (by simp [fR, fRul, tRul, *]; exact zH.rf)
  · have c_1 := zb_n0.mp c_1
    obtain ⟨k, hk, rfl, etk⟩ := okR_nI c_1
    refine x_aload_n Γ dX4_rule_8 rfl ?_
    refine x_iload_n Γ dX4_rule_9 rfl ?_
    refine x_iload_n Γ dX4_rule_10 rfl ?_
    refine x_callV Γ calv_X4_becomes wl_X4_91 dX4_rule_11 (m_X4_becomes (g := g) (T := T) (R := R) (T2 := ts T 7 k v) (k := k) (by omega) (mr_us (by omega))) rfl (by decide) (by decide) rfl rfl rfl rfl (Nat.le_of_ble_eq_true rfl) (Nat.le_refl _) (Nat.le_refl _) ?_
    rw [mr_s (by omega)]
    refine x_goto Γ (tgt := 23) dX4_rule_14 (by decide) ?_
    exact x_iret ρ rfl dX4_rule_23 rfl (by simp [fr, fRul, *]; try rfl) rfl (by simp [fR, fRul, tRul, *]; exact zH.rf)

set_option maxRecDepth 100000 in
set_option maxHeartbeats 4000000 in
theorem m_X4_now {g : Nat → zE} {T R : zT} {N : Nat} (hN : wN T N) (w : Int32) : zM 2 M_X4_now [.ref 37, .int w] (hR g T R) 46 (some (.int (fr (fNow w) (rNow T N w)))) (hR g (T) (fR R (fNow w))) 46 0 0 := by
  refine zM.intro (by decide) (Nat.le_of_ble_eq_true rfl) ?_
  intro Wf V m H0 Γ ρ
  replace Γ : zC Wf V m 2 H0 cX4_now RX4 2 0 0 := Γ
  show zX Wf V m 2 H0 0 (zls [(0, .ref 37), (1, .int w)]) [] (hR g T R) 46 0 0
  have hN2 := hN.2
  refine x_iload_n Γ dX4_now_0 rfl ?_
  refine x_tab7 Γ (a0 := 0) (a1 := 1) (a2 := 2) (a3 := 3) (a4 := 4) (a5 := 5) (a6 := 6) (t0 := 44) (t1 := 51) (t2 := 59) (t3 := 66) (t4 := 72) (t5 := 78) (t6 := 83) (td := 88) dX4_now_1 (by decide +kernel) (fun c_1 => ?_) (fun c_1 => ?_) (fun c_1 => ?_) (fun c_1 => ?_) (fun c_1 => ?_) (fun c_1 => ?_) (fun c_1 => ?_) (fun c_1_0 c_1_1 c_1_2 c_1_3 c_1_4 c_1_5 c_1_6 => ?_)
  · refine x_aload_n Γ dX4_now_44 rfl ?_
    refine gf_X4_9 Γ dX4_now_45 (by decide) rfl rfl ?_
    refine x_iconst Γ (v := 5) dX4_now_48 rfl ?_
    refine x_iald Γ dX4_now_49 (by decide) (by rfl) (j := 5) rfl (by decide) (by decide) (mr_s (by decide)) ?_
    exact x_iret ρ rfl dX4_now_50 rfl (by simp [fr, fNow, rNow, isK, *]; try rfl) rfl (by simp [fR, fNow, isK, *]; exact zH.rf)
  · refine x_aload_n Γ dX4_now_51 rfl ?_
    refine gf_X4_9 Γ dX4_now_52 (by decide) rfl rfl ?_
    refine x_bipush Γ (v := 6) dX4_now_55 rfl ?_
    refine x_iald Γ dX4_now_57 (by decide) (by rfl) (j := 6) rfl (by decide) (by decide) (mr_s (by decide)) ?_
    exact x_iret ρ rfl dX4_now_58 rfl (by simp [fr, fNow, rNow, isK, *]; try rfl) rfl (by simp [fR, fNow, isK, *]; exact zH.rf)
  · refine x_aload_n Γ dX4_now_59 rfl ?_
    refine gf_X4_9 Γ dX4_now_60 (by decide) rfl rfl ?_
    refine x_iconst Γ (v := 3) dX4_now_63 rfl ?_
    refine x_iald Γ dX4_now_64 (by decide) (by rfl) (j := 3) rfl (by decide) (by decide) (mr_s (by decide)) ?_
    exact x_iret ρ rfl dX4_now_65 rfl (by simp [fr, fNow, rNow, isK, *]; try rfl) rfl (by simp [fR, fNow, isK, *]; exact zH.rf)
  · refine x_aload_n Γ dX4_now_66 rfl ?_
    refine x_iconst Γ (v := 1) dX4_now_67 rfl ?_
    refine x_callV Γ calv_X4_with wl_X4_99 dX4_now_68 (m_X4_with (g := g) (T := T) (R := R) hN 1) rfl (by decide) (by decide) rfl rfl rfl rfl (Nat.le_of_ble_eq_true rfl) (Nat.le_refl _) (Nat.le_refl _) ?_
    exact x_iret ρ rfl dX4_now_71 rfl (by simp [fr, fNow, rNow, isK, *]; try rfl) rfl (by simp [fR, fNow, isK, *]; exact zH.rf)
  · refine x_aload_n Γ dX4_now_72 rfl ?_
    refine x_iconst Γ (v := 2) dX4_now_73 rfl ?_
    refine x_callV Γ calv_X4_with wl_X4_99 dX4_now_74 (m_X4_with (g := g) (T := T) (R := R) hN 2) rfl (by decide) (by decide) rfl rfl rfl rfl (Nat.le_of_ble_eq_true rfl) (Nat.le_refl _) (Nat.le_refl _) ?_
    exact x_iret ρ rfl dX4_now_77 rfl (by simp [fr, fNow, rNow, isK, *]; try rfl) rfl (by simp [fR, fNow, isK, *]; exact zH.rf)
  · refine x_aload_n Γ dX4_now_78 rfl ?_
    refine x_callV Γ calv_X4_hungry wl_X4_102 dX4_now_79 (m_X4_hungry (g := g) (T := T) (R := R) hN) rfl (by decide) (by decide) rfl rfl rfl rfl (Nat.le_of_ble_eq_true rfl) (Nat.le_refl _) (Nat.le_refl _) ?_
    exact x_iret ρ rfl dX4_now_82 rfl (by simp [fr, fNow, rNow, isK, *]; try rfl) rfl (by simp [fR, fNow, isK, *]; exact zH.rf)
  · refine x_aload_n Γ dX4_now_83 rfl ?_
    refine x_callV Γ calv_X4_cost wl_X4_106 dX4_now_84 (m_X4_cost (g := g) (T := T) (R := R)) rfl (by decide) (by decide) rfl rfl rfl rfl (Nat.le_of_ble_eq_true rfl) (Nat.le_refl _) (Nat.le_refl _) ?_
    exact x_iret ρ rfl dX4_now_87 rfl (by simp [fr, fNow, rNow, isK, *]; try rfl) rfl (by simp [fR, fNow, isK, *]; exact zH.rf)
  · have hnk := isK_no c_1_0 c_1_1 c_1_2 c_1_3 c_1_4 c_1_5 c_1_6
    refine x_aload_n Γ dX4_now_88 rfl ?_
    refine x_ldc Γ wl_X4_34 dX4_now_89 ?_
    refine x_callV Γ calv_X4_finds wl_X4_36 dX4_now_91 (m_X4_finds (f := -1000001) (k := 0) (by decide) (by decide)) rfl (by decide) (by decide) rfl rfl rfl rfl (Nat.le_of_ble_eq_true rfl) (Nat.le_refl _) (Nat.le_refl _) ?_
    exact x_iret ρ rfl dX4_now_94 rfl (by simp [fNow, fr, hnk]; try rfl) rfl (by simp [fNow, fR, hnk]; exact zH.rf)

set_option maxRecDepth 100000 in
set_option maxHeartbeats 4000000 in
theorem m_X4_wants {g : Nat → zE} {T R : zT} {N : Nat} (hN : wN T N) (c : Int32) : zM 3 M_X4_wants [.ref 37, .int c] (hR g T R) 46 (some (.int (fr (fWan T c) (zb (wo T (ci c)))))) (hR g (T) (fR R (fWan T c))) 46 0 0 := by
  refine zM.intro (by decide) (Nat.le_of_ble_eq_true rfl) ?_
  intro Wf V m H0 Γ ρ
  replace Γ : zC Wf V m 2 H0 cX4_wants RX4 3 0 0 := Γ
  show zX Wf V m 2 H0 0 (zls [(0, .ref 37), (1, .int c)]) [] (hR g T R) 46 0 0
  have hN2 := hN.2
  refine x_aload_n Γ dX4_wants_0 rfl ?_
  refine x_iload_n Γ dX4_wants_1 rfl ?_
  refine x_callV Γ calv_X4_isOne wl_X4_67 dX4_wants_2 (m_X4_isOne (g := g) (T := T) (R := R) hN c) rfl (by decide) (by decide) rfl rfl rfl rfl (Nat.le_of_ble_eq_true rfl) (Nat.le_refl _) (Nat.le_refl _) ?_
  refine x_if_ne Γ (tgt := 15) dX4_wants_5 (by decide) (fun c_1 => ?_) (fun c_1 => ?_)
  · have c_1 := zb_n0.mp c_1
    obtain ⟨j, hj, rfl⟩ := hs_in hN c_1
    have ej : ci (nI j) = j := nI_clamp (by omega)
    refine x_aload_n Γ dX4_wants_15 rfl ?_
    refine x_iload_n Γ dX4_wants_16 rfl ?_
    refine x_iconst Γ (v := 5) dX4_wants_17 rfl ?_
    refine x_callV Γ calv_X4_is wl_X4_63 dX4_wants_18 (m_X4_is (g := g) (T := T) (R := R) (c := j) (w := 5) (by omega) (by decide)) rfl (by decide) (by decide) rfl rfl rfl rfl (Nat.le_of_ble_eq_true rfl) (Nat.le_refl _) (Nat.le_refl _) ?_
    refine x_if_ne Γ (tgt := 31) dX4_wants_21 (by decide) (fun c_2 => ?_) (fun c_2 => ?_)
    · refine x_aload_n Γ dX4_wants_31 rfl ?_
      refine x_iload_n Γ dX4_wants_32 rfl ?_
      refine x_callV Γ calv_X4_wantsOther wl_X4_110 dX4_wants_33 (m_X4_wantsOther (g := g) (T := T) (R := R) (c := j) (by omega)) rfl (by decide) (by decide) rfl rfl rfl rfl (Nat.le_of_ble_eq_true rfl) (Nat.le_refl _) (Nat.le_refl _) ?_
      refine x_if_eq Γ (tgt := 43) dX4_wants_36 (by decide) (fun c_3 => ?_) (fun c_3 => ?_)
      · have c_3 := zb_0.mp c_3
        refine x_iconst Γ (v := 0) dX4_wants_43 rfl ?_
        exact x_iret ρ rfl dX4_wants_44 rfl (by simp [fr, fWan, zb, *]; try rfl) rfl (by simp [fR, fWan, *]; exact zH.rf)
      · have c_3 := zb_n0.mp c_3
        refine x_iconst Γ (v := 1) dX4_wants_39 rfl ?_
        refine x_goto Γ (tgt := 44) dX4_wants_40 (by decide) ?_
        exact x_iret ρ rfl dX4_wants_44 rfl (by simp [fr, fWan, zb, *]; try rfl) rfl (by simp [fR, fWan, *]; exact zH.rf)
    · refine x_aload_n Γ dX4_wants_24 rfl ?_
      refine x_ldc Γ wl_X4_109 dX4_wants_25 ?_
      refine x_callV Γ calv_X4_finds wl_X4_36 dX4_wants_27 (m_X4_finds (f := -1000005) (k := 4) (by decide) (by decide)) rfl (by decide) (by decide) rfl rfl rfl rfl (Nat.le_of_ble_eq_true rfl) (Nat.le_refl _) (Nat.le_refl _) ?_
      exact x_iret ρ rfl dX4_wants_30 rfl (by simp [fr, fWan, zb, *]; try rfl) rfl (by simp [fR, fWan, *]; exact zH.rf)
  · have c_1 := zb_0.mp c_1
    refine x_aload_n Γ dX4_wants_8 rfl ?_
    refine x_ldc Γ wl_X4_34 dX4_wants_9 ?_
    refine x_callV Γ calv_X4_finds wl_X4_36 dX4_wants_11 (m_X4_finds (f := -1000001) (k := 0) (by decide) (by decide)) rfl (by decide) (by decide) rfl rfl rfl rfl (Nat.le_of_ble_eq_true rfl) (Nat.le_refl _) (Nat.le_refl _) ?_
    exact x_iret ρ rfl dX4_wants_14 rfl (by simp [fr, fWan, zb, *]; try rfl) rfl (by simp [fR, fWan, *]; exact zH.rf)
