set_option maxRecDepth 100000 in
set_option maxHeartbeats 4000000 in
theorem m_X0_strike {g : Nat → zE} {b : Nat} {T : zT} (hb : b + 7 < 46) {N : Nat} (hN : wN T N) {j : Nat} (hj : zrem (zdr (T 7 7)) (T 7 8) = nI j) (hjN : j < N) : zM 1 M_X0_strike [.ref b] (hC g b T) 46 (none) (hC g b (ts (drT (drT T)) 1 j (zrem (zdr (drT T 7 7)) 10))) 46 0 0 := by
  refine zM.intro (by decide) (Nat.le_of_ble_eq_true rfl) ?_
  intro Wf V m H0 Γ ρ
  replace Γ : zC Wf V m 2 H0 cX0_strike RX0 1 0 0 := Γ
  show zX Wf V m 2 H0 0 (zls [(0, .ref b)]) [] (hC g b T) 46 0 0
  have hb0 : b < 46 := by omega
  have hb1 : b + 1 < 46 := by omega
  have hb2 : b + 2 < 46 := by omega
  have hb3 : b + 3 < 46 := by omega
  have hb4 : b + 4 < 46 := by omega
  have hb5 : b + 5 < 46 := by omega
  have hb6 : b + 6 < 46 := by omega
  have hb7 : b + 7 < 46 := by omega
  have hN2 := hN.2
  refine x_aload_n Γ dX0_strike_0 rfl ?_
  refine gf_X0_33 Γ dX0_strike_1 hb0 hC_o rfl ?_
  refine x_if_gt Γ (tgt := 8) dX0_strike_4 (by decide) (fun c_1 => ?_) (fun c_1 => ?_)
  · refine x_aload_n Γ dX0_strike_8 rfl ?_
    refine x_callV Γ calv_X0_draw wl_X0_104 dX0_strike_9 (m_X0_draw (g := g) (T := T) hb) rfl (by decide) hb0 hC_o rfl rfl rfl (Nat.le_of_ble_eq_true rfl) (Nat.le_refl _) (Nat.le_refl _) ?_
    refine x_aload_n Γ dX0_strike_12 rfl ?_
    refine gf_X0_33 Γ dX0_strike_13 hb0 hC_o rfl ?_
    refine x_irem Γ dX0_strike_16 (by rw [drT_7 (by decide), hN.1]; exact nI_ne0 (by omega) (by omega)) ?_
    refine x_istore_n Γ dX0_strike_17 (by decide) ?_
    refine x_aload_n Γ dX0_strike_18 rfl ?_
    refine gf_X0_15 Γ dX0_strike_19 hb0 hC_o rfl ?_
    refine x_iload_n Γ dX0_strike_22 rfl ?_
    refine x_aload_n Γ dX0_strike_23 rfl ?_
    refine x_callV Γ calv_X0_draw wl_X0_104 dX0_strike_24 (m_X0_draw (g := g) (T := drT T) hb) rfl (by decide) hb0 hC_o rfl rfl rfl (Nat.le_of_ble_eq_true rfl) (Nat.le_refl _) (Nat.le_refl _) ?_
    refine x_bipush Γ (v := 10) dX0_strike_27 rfl ?_
    refine x_irem Γ dX0_strike_29 (by decide) ?_
    refine x_iast Γ dX0_strike_30 hb2 hC_1 (by show zrem _ _ = _; rw [drT_7 (by decide)]; exact hj) (by omega) (by decide) hC_u1 ?_
    exact x_vret ρ dX0_strike_31 (rfl) rfl (zH.rf)
  · rw [hN.1] at c_1
    exact absurd (nI_lt (a := 0) (b := N) (by omega) (by omega)) c_1

set_option maxRecDepth 100000 in
set_option maxHeartbeats 4000000 in
theorem m_X0_canDeal {g : Nat → zE} {b : Nat} {T : zT} (hb : b + 7 < 46) {k : Nat} (hk : k < 1024) : zM 2 M_X0_canDeal [.ref b, .int (nI k)] (hC g b T) 46 (some (.int (zb (cdl T (nI k))))) (hC g b T) 46 0 0 := by
  refine zM.intro (by decide) (Nat.le_of_ble_eq_true rfl) ?_
  intro Wf V m H0 Γ ρ
  replace Γ : zC Wf V m 3 H0 cX0_canDeal RX0 2 0 0 := Γ
  show zX Wf V m 3 H0 0 (zls [(0, .ref b), (1, .int (nI k))]) [] (hC g b T) 46 0 0
  have hb0 : b < 46 := by omega
  have hb1 : b + 1 < 46 := by omega
  have hb2 : b + 2 < 46 := by omega
  have hb3 : b + 3 < 46 := by omega
  have hb4 : b + 4 < 46 := by omega
  have hb5 : b + 5 < 46 := by omega
  have hb6 : b + 6 < 46 := by omega
  have hb7 : b + 7 < 46 := by omega
  refine x_iload_n Γ dX0_canDeal_0 rfl ?_
  refine x_callS Γ cals_J6_bitCount_0f7a4 wl_X0_95 dX0_canDeal_1 (m_bitCount hk) rfl (by decide) rfl (Nat.le_of_ble_eq_true rfl) (Nat.le_refl _) (Nat.le_refl _) ?_
  refine x_istore_n Γ dX0_canDeal_4 (by decide) ?_
  refine x_iload_n Γ dX0_canDeal_5 rfl ?_
  refine x_aload_n Γ dX0_canDeal_6 rfl ?_
  refine gf_X0_40 Γ dX0_canDeal_7 hb0 hC_o rfl ?_
  refine x_icmp_gt Γ (tgt := 30) dX0_canDeal_10 (by decide) (fun c_1 => ?_) (fun c_1 => ?_)
  · refine x_iconst Γ (v := 0) dX0_canDeal_30 rfl ?_
    exact x_iret ρ rfl dX0_canDeal_31 (by first | exact zb_nz _ | rfl) (by first | (simp [cdl, dra, zb, *]; done) | (exfalso; simp_all; done) | (simp [cdl, dra, zb, *]; simp only [Int32.lt_iff_toInt_lt, Int32.le_iff_toInt_le, zlt_0, zlt_1, zlt_2, zlt_3, zlt_4, zlt_5, zlt_6, zlt_7, zlt_8, zlt_9, zlt_10, zlt_11, zlt_12, zlt_30, zlt_39, zlt_40, zlt_59, zlt_60, zlt_61, zlt_98, zlt_99, zlt_100, zlt_119, zlt_120, zlt_998, zlt_999, zlt_9998, zlt_9999, zlt_m1] at *; omega)) rfl (zH.rf)
  · refine x_aload_n Γ dX0_canDeal_13 rfl ?_
    refine x_callV Γ calv_X0_drawers wl_X0_134 dX0_canDeal_14 (m_X0_drawers (g := g) (T := T) hb) rfl (by decide) hb0 hC_o rfl rfl rfl (Nat.le_of_ble_eq_true rfl) (Nat.le_refl _) (Nat.le_refl _) ?_
    refine x_iload_n Γ dX0_canDeal_17 rfl ?_
    refine x_isub Γ dX0_canDeal_18 ?_
    refine x_aload_n Γ dX0_canDeal_19 rfl ?_
    refine gf_X0_43 Γ dX0_canDeal_20 hb0 hC_o rfl ?_
    refine x_icmp_gt Γ (tgt := 30) dX0_canDeal_23 (by decide) (fun c_2 => ?_) (fun c_2 => ?_)
    · refine x_iconst Γ (v := 0) dX0_canDeal_30 rfl ?_
      exact x_iret ρ rfl dX0_canDeal_31 (by first | exact zb_nz _ | rfl) (by first | (simp [cdl, dra, zb, *]; done) | (exfalso; simp_all; done) | (simp [cdl, dra, zb, *]; simp only [Int32.lt_iff_toInt_lt, Int32.le_iff_toInt_le, zlt_0, zlt_1, zlt_2, zlt_3, zlt_4, zlt_5, zlt_6, zlt_7, zlt_8, zlt_9, zlt_10, zlt_11, zlt_12, zlt_30, zlt_39, zlt_40, zlt_59, zlt_60, zlt_61, zlt_98, zlt_99, zlt_100, zlt_119, zlt_120, zlt_998, zlt_999, zlt_9998, zlt_9999, zlt_m1] at *; omega)) rfl (zH.rf)
    · refine x_iconst Γ (v := 1) dX0_canDeal_26 rfl ?_
      refine x_goto Γ (tgt := 31) dX0_canDeal_27 (by decide) ?_
      exact x_iret ρ rfl dX0_canDeal_31 (by first | exact zb_nz _ | rfl) (by first | (simp [cdl, dra, zb, *]; done) | (exfalso; simp_all; done) | (simp [cdl, dra, zb, *]; simp only [Int32.lt_iff_toInt_lt, Int32.le_iff_toInt_le, zlt_0, zlt_1, zlt_2, zlt_3, zlt_4, zlt_5, zlt_6, zlt_7, zlt_8, zlt_9, zlt_10, zlt_11, zlt_12, zlt_30, zlt_39, zlt_40, zlt_59, zlt_60, zlt_61, zlt_98, zlt_99, zlt_100, zlt_119, zlt_120, zlt_998, zlt_999, zlt_9998, zlt_9999, zlt_m1] at *; omega)) rfl (zH.rf)

set_option maxRecDepth 100000 in
set_option maxHeartbeats 4000000 in
theorem m_X0_deal {g : Nat → zE} {b : Nat} {T : zT} (hb : b + 7 < 46) {N : Nat} (hN : wN T N) (x : Int32) : zM 2 M_X0_deal [.ref b, .int x] (hC g b T) 46 (none) (hC g b (dlT T x N)) 46 0 0 := by
  refine zM.intro (by decide) (Nat.le_of_ble_eq_true rfl) ?_
  intro Wf V m H0 Γ ρ
  replace Γ : zC Wf V m 4 H0 cX0_deal RX0 2 0 0 := Γ
  show zX Wf V m 4 H0 0 (zls [(0, .ref b), (1, .int x)]) [] (hC g b T) 46 0 0
  have hb0 : b < 46 := by omega
  have hb1 : b + 1 < 46 := by omega
  have hb2 : b + 2 < 46 := by omega
  have hb3 : b + 3 < 46 := by omega
  have hb4 : b + 4 < 46 := by omega
  have hb5 : b + 5 < 46 := by omega
  have hb6 : b + 6 < 46 := by omega
  have hb7 : b + 7 < 46 := by omega
  have hN2 := hN.2
  refine x_aload_n Γ dX0_deal_0 rfl ?_
  refine x_callV Γ calv_X0_drawers wl_X0_134 dX0_deal_1 (m_X0_drawers (g := g) (T := T) hb) rfl (by decide) hb0 hC_o rfl rfl rfl (Nat.le_of_ble_eq_true rfl) (Nat.le_refl _) (Nat.le_refl _) ?_
  refine x_istore_n Γ dX0_deal_4 (by decide) ?_
  refine x_iconst Γ (v := 0) dX0_deal_5 rfl ?_
  refine x_istore_n Γ dX0_deal_6 (by decide) ?_
  suffices L_7 : ∀ (k c : Nat), c ≤ N → N - c < k → zX Wf V m 4 H0 7 (zls [(0, .ref b), (1, .int x), (2, .int (dra T)), (3, .int (nI c))]) [] (hC g b (dlT T x c)) 46 0 0 by
    exact x_subl [(0, .ref b), (1, .int x), (2, .int (dra T)), (3, .int (nI 0))] (List.forall_mem_cons.mpr ⟨rfl, List.forall_mem_cons.mpr ⟨rfl, List.forall_mem_cons.mpr ⟨rfl, List.forall_mem_cons.mpr ⟨rfl, fun _ hz => absurd hz List.not_mem_nil⟩⟩⟩⟩) (x_heap (rfl) (L_7 (N + 1) 0 (by omega) (by omega)))
  intro k
  induction k with
  | zero => intro c h1 h2; omega
  | succ k ih =>
    intro c h1 h2
    refine x_iload_n Γ dX0_deal_7 rfl ?_
    refine x_aload_n Γ dX0_deal_8 rfl ?_
    refine gf_X0_33 Γ dX0_deal_9 hb0 hC_o rfl ?_
    refine x_icmp_ge Γ (tgt := 56) dX0_deal_12 (by decide) (fun c_1 => ?_) (fun c_1 => ?_)
    · rw [dlT_n _ _ _ (by decide), hN.1] at c_1
      have c_1 := z_le c_1 (by omega) (by omega)
      obtain rfl : c = N := by omega
      exact x_vret ρ dX0_deal_56 (rfl) rfl (zH.rf)
    · rw [dlT_n _ _ _ (by decide), hN.1] at c_1
      have c_1 := z_nle c_1 (by omega) (by omega)
      refine x_iload_n Γ dX0_deal_15 rfl ?_
      refine x_iload_n Γ dX0_deal_16 rfl ?_
      refine x_icmp_lt Γ (tgt := 30) dX0_deal_17 (by decide) (fun c_2 => ?_) (fun c_2 => ?_)
      · refine x_aload_n Γ dX0_deal_30 rfl ?_
        refine gf_X0_27 Γ dX0_deal_31 hb0 hC_o rfl ?_
        refine x_iload_n Γ dX0_deal_34 rfl ?_
        refine x_iload_n Γ dX0_deal_35 rfl ?_
        refine x_iload_n Γ dX0_deal_36 rfl ?_
        refine x_ishr Γ dX0_deal_37 ?_
        refine x_iconst Γ (v := 1) dX0_deal_38 rfl ?_
        refine x_iand Γ dX0_deal_39 ?_
        refine x_iconst Γ (v := 1) dX0_deal_40 rfl ?_
        refine x_icmp_ne Γ (tgt := 48) dX0_deal_41 (by decide) (fun c_3 => ?_) (fun c_3 => ?_)
        · refine x_iconst Γ (v := 2) dX0_deal_48 rfl ?_
          refine x_iast Γ dX0_deal_49 hb6 hC_5 rfl (by first | assumption | omega) (by decide) hC_u5 ?_
          refine x_iinc Γ dX0_deal_50 rfl (by first | exact zinc _ | rfl) (by decide) ?_
          refine x_goto Γ (tgt := 7) dX0_deal_53 (by decide) ?_
          exact x_subl [(0, .ref b), (1, .int x), (2, .int (dra T)), (3, .int (nI (c + 1)))] (List.forall_mem_cons.mpr ⟨rfl, List.forall_mem_cons.mpr ⟨rfl, List.forall_mem_cons.mpr ⟨rfl, List.forall_mem_cons.mpr ⟨rfl, fun _ hz => absurd hz List.not_mem_nil⟩⟩⟩⟩) (x_heap (by simp [dlT, *]) (ih (c + 1) (by omega) (by omega)))
        · refine x_iconst Γ (v := 1) dX0_deal_44 rfl ?_
          refine x_goto Γ (tgt := 49) dX0_deal_45 (by decide) ?_
          refine x_iast Γ dX0_deal_49 hb6 hC_5 rfl (by first | assumption | omega) (by decide) hC_u5 ?_
          refine x_iinc Γ dX0_deal_50 rfl (by first | exact zinc _ | rfl) (by decide) ?_
          refine x_goto Γ (tgt := 7) dX0_deal_53 (by decide) ?_
          exact x_subl [(0, .ref b), (1, .int x), (2, .int (dra T)), (3, .int (nI (c + 1)))] (List.forall_mem_cons.mpr ⟨rfl, List.forall_mem_cons.mpr ⟨rfl, List.forall_mem_cons.mpr ⟨rfl, List.forall_mem_cons.mpr ⟨rfl, fun _ hz => absurd hz List.not_mem_nil⟩⟩⟩⟩) (x_heap (by simp [dlT, *]) (ih (c + 1) (by omega) (by omega)))
      · refine x_aload_n Γ dX0_deal_20 rfl ?_
        refine gf_X0_27 Γ dX0_deal_21 hb0 hC_o rfl ?_
        refine x_iload_n Γ dX0_deal_24 rfl ?_
        refine x_iconst Γ (v := 0) dX0_deal_25 rfl ?_
        refine x_iast Γ dX0_deal_26 hb6 hC_5 rfl (by first | assumption | omega) (by decide) hC_u5 ?_
        refine x_goto Γ (tgt := 50) dX0_deal_27 (by decide) ?_
        refine x_iinc Γ dX0_deal_50 rfl (by first | exact zinc _ | rfl) (by decide) ?_
        refine x_goto Γ (tgt := 7) dX0_deal_53 (by decide) ?_
        exact x_subl [(0, .ref b), (1, .int x), (2, .int (dra T)), (3, .int (nI (c + 1)))] (List.forall_mem_cons.mpr ⟨rfl, List.forall_mem_cons.mpr ⟨rfl, List.forall_mem_cons.mpr ⟨rfl, List.forall_mem_cons.mpr ⟨rfl, fun _ hz => absurd hz List.not_mem_nil⟩⟩⟩⟩) (x_heap (by simp [dlT, *]) (ih (c + 1) (by omega) (by omega)))

set_option maxRecDepth 100000 in
set_option maxHeartbeats 4000000 in
theorem m_X0_drawTokens {g : Nat → zE} {b : Nat} {T : zT} (hb : b + 7 < 46) {N : Nat} (hN : wN T N) : zM 1 M_X0_drawTokens [.ref b] (hC g b T) 46 (none) (hC g b (dtk T N).1) 46 0 0 := by
  refine zM.intro (by decide) (Nat.le_of_ble_eq_true rfl) ?_
  intro Wf V m H0 Γ ρ
  replace Γ : zC Wf V m 5 H0 cX0_drawTokens RX0 1 0 0 := Γ
  show zX Wf V m 5 H0 0 (zls [(0, .ref b)]) [] (hC g b T) 46 0 0
  have hb0 : b < 46 := by omega
  have hb1 : b + 1 < 46 := by omega
  have hb2 : b + 2 < 46 := by omega
  have hb3 : b + 3 < 46 := by omega
  have hb4 : b + 4 < 46 := by omega
  have hb5 : b + 5 < 46 := by omega
  have hb6 : b + 6 < 46 := by omega
  have hb7 : b + 7 < 46 := by omega
  have hN2 := hN.2
  refine x_aload_n Γ dX0_drawTokens_0 rfl ?_
  refine gf_X0_40 Γ dX0_drawTokens_1 hb0 hC_o rfl ?_
  refine x_istore_n Γ dX0_drawTokens_4 (by decide) ?_
  refine x_aload_n Γ dX0_drawTokens_5 rfl ?_
  refine gf_X0_43 Γ dX0_drawTokens_6 hb0 hC_o rfl ?_
  refine x_istore_n Γ dX0_drawTokens_9 (by decide) ?_
  refine x_iconst Γ (v := 0) dX0_drawTokens_10 rfl ?_
  refine x_istore_n Γ dX0_drawTokens_11 (by decide) ?_
  suffices L_12 : ∀ (k c : Nat), c ≤ N → N - c < k → zX Wf V m 5 H0 12 (zls [(0, .ref b), (1, .int (dtk T c).2.1), (2, .int (dtk T c).2.2), (3, .int (nI c))]) [] (hC g b (dtk T c).1) 46 0 0 by
    exact x_subl [(0, .ref b), (1, .int (dtk T 0).2.1), (2, .int (dtk T 0).2.2), (3, .int (nI 0))] (List.forall_mem_cons.mpr ⟨rfl, List.forall_mem_cons.mpr ⟨rfl, List.forall_mem_cons.mpr ⟨rfl, List.forall_mem_cons.mpr ⟨rfl, fun _ hz => absurd hz List.not_mem_nil⟩⟩⟩⟩) (x_heap (rfl) (L_12 (N + 1) 0 (by omega) (by omega)))
  intro k
  induction k with
  | zero => intro c h1 h2; omega
  | succ k ih =>
    intro c h1 h2
    refine x_iload_n Γ dX0_drawTokens_12 rfl ?_
    refine x_aload_n Γ dX0_drawTokens_13 rfl ?_
    refine gf_X0_33 Γ dX0_drawTokens_14 hb0 hC_o rfl ?_
    refine x_icmp_ge Γ (tgt := 80) dX0_drawTokens_17 (by decide) (fun c_1 => ?_) (fun c_1 => ?_)
    · rw [dtk_7 _ _ (by decide), hN.1] at c_1
      have c_1 := z_le c_1 (by omega) (by omega)
      obtain rfl : c = N := by omega
      exact x_vret ρ dX0_drawTokens_80 (rfl) rfl (zH.rf)
    · rw [dtk_7 _ _ (by decide), hN.1] at c_1
      have c_1 := z_nle c_1 (by omega) (by omega)
      refine x_iload_n Γ dX0_drawTokens_20 rfl ?_
      refine x_iload_n Γ dX0_drawTokens_21 rfl ?_
      refine x_iadd Γ dX0_drawTokens_22 ?_
      refine x_istore Γ dX0_drawTokens_23 (by decide) ?_
      refine x_iload Γ dX0_drawTokens_25 rfl ?_
      refine x_if_gt Γ (tgt := 40) dX0_drawTokens_27 (by decide) (fun c_2 => ?_) (fun c_2 => ?_)
      · refine x_aload_n Γ dX0_drawTokens_40 rfl ?_
        refine x_callV Γ calv_X0_draw wl_X0_104 dX0_drawTokens_41 (m_X0_draw (g := g) (T := (dtk T c).1) hb) rfl (by decide) hb0 hC_o rfl rfl rfl (Nat.le_of_ble_eq_true rfl) (Nat.le_refl _) (Nat.le_refl _) ?_
        refine x_iload Γ dX0_drawTokens_44 rfl ?_
        refine x_irem Γ dX0_drawTokens_46 (fun z => by rw [z] at c_2; exact absurd c_2 (by decide)) ?_
        refine x_iload_n Γ dX0_drawTokens_47 rfl ?_
        refine x_icmp_ge Γ (tgt := 64) dX0_drawTokens_48 (by decide) (fun c_3 => ?_) (fun c_3 => ?_)
        · refine x_aload_n Γ dX0_drawTokens_64 rfl ?_
          refine gf_X0_27 Γ dX0_drawTokens_65 hb0 hC_o rfl ?_
          refine x_iload_n Γ dX0_drawTokens_68 rfl ?_
          refine x_iconst Γ (v := 2) dX0_drawTokens_69 rfl ?_
          refine x_iast Γ dX0_drawTokens_70 hb6 hC_5 rfl (by first | assumption | omega) (by decide) hC_u5 ?_
          refine x_iinc Γ dX0_drawTokens_71 rfl rfl (by decide) ?_
          refine x_iinc Γ dX0_drawTokens_74 rfl (by first | exact zinc _ | rfl) (by decide) ?_
          refine x_goto Γ (tgt := 12) dX0_drawTokens_77 (by decide) ?_
          exact x_subl [(0, .ref b), (1, .int (dtk T (c + 1)).2.1), (2, .int (dtk T (c + 1)).2.2), (3, .int (nI (c + 1)))] (List.forall_mem_cons.mpr ⟨rfl, List.forall_mem_cons.mpr ⟨zsi (by simp [dtk, zrem, *]), List.forall_mem_cons.mpr ⟨zsi (by simp [dtk, zrem, *]), List.forall_mem_cons.mpr ⟨rfl, fun _ hz => absurd hz List.not_mem_nil⟩⟩⟩⟩) (x_heap (by simp [dtk, zrem, *]) (ih (c + 1) (by omega) (by omega)))
        · refine x_aload_n Γ dX0_drawTokens_51 rfl ?_
          refine gf_X0_27 Γ dX0_drawTokens_52 hb0 hC_o rfl ?_
          refine x_iload_n Γ dX0_drawTokens_55 rfl ?_
          refine x_iconst Γ (v := 1) dX0_drawTokens_56 rfl ?_
          refine x_iast Γ dX0_drawTokens_57 hb6 hC_5 rfl (by first | assumption | omega) (by decide) hC_u5 ?_
          refine x_iinc Γ dX0_drawTokens_58 rfl rfl (by decide) ?_
          refine x_goto Γ (tgt := 74) dX0_drawTokens_61 (by decide) ?_
          refine x_iinc Γ dX0_drawTokens_74 rfl (by first | exact zinc _ | rfl) (by decide) ?_
          refine x_goto Γ (tgt := 12) dX0_drawTokens_77 (by decide) ?_
          exact x_subl [(0, .ref b), (1, .int (dtk T (c + 1)).2.1), (2, .int (dtk T (c + 1)).2.2), (3, .int (nI (c + 1)))] (List.forall_mem_cons.mpr ⟨rfl, List.forall_mem_cons.mpr ⟨zsi (by simp [dtk, zrem, *]), List.forall_mem_cons.mpr ⟨zsi (by simp [dtk, zrem, *]), List.forall_mem_cons.mpr ⟨rfl, fun _ hz => absurd hz List.not_mem_nil⟩⟩⟩⟩) (x_heap (by simp [dtk, zrem, *]) (ih (c + 1) (by omega) (by omega)))
      · refine x_aload_n Γ dX0_drawTokens_30 rfl ?_
        refine gf_X0_27 Γ dX0_drawTokens_31 hb0 hC_o rfl ?_
        refine x_iload_n Γ dX0_drawTokens_34 rfl ?_
        refine x_iconst Γ (v := 0) dX0_drawTokens_35 rfl ?_
        refine x_iast Γ dX0_drawTokens_36 hb6 hC_5 rfl (by first | assumption | omega) (by decide) hC_u5 ?_
        refine x_goto Γ (tgt := 74) dX0_drawTokens_37 (by decide) ?_
        refine x_iinc Γ dX0_drawTokens_74 rfl (by first | exact zinc _ | rfl) (by decide) ?_
        refine x_goto Γ (tgt := 12) dX0_drawTokens_77 (by decide) ?_
        exact x_subl [(0, .ref b), (1, .int (dtk T (c + 1)).2.1), (2, .int (dtk T (c + 1)).2.2), (3, .int (nI (c + 1)))] (List.forall_mem_cons.mpr ⟨rfl, List.forall_mem_cons.mpr ⟨zsi (by simp [dtk, zrem, *]), List.forall_mem_cons.mpr ⟨zsi (by simp [dtk, zrem, *]), List.forall_mem_cons.mpr ⟨rfl, fun _ hz => absurd hz List.not_mem_nil⟩⟩⟩⟩) (x_heap (by simp [dtk, zrem, *]) (ih (c + 1) (by omega) (by omega)))

set_option maxRecDepth 100000 in
set_option maxHeartbeats 4000000 in
theorem m_X0_eatAndSee {g : Nat → zE} {b : Nat} {T : zT} (hb : b + 7 < 46) {N : Nat} (hN : wN T N) (hH : wH T N) : zM 1 M_X0_eatAndSee [.ref b] (hC g b T) 46 (none) (hC g b (eaT T N)) 46 0 0 := by
  refine zM.intro (by decide) (Nat.le_of_ble_eq_true rfl) ?_
  intro Wf V m H0 Γ ρ
  replace Γ : zC Wf V m 3 H0 cX0_eatAndSee RX0 1 0 0 := Γ
  show zX Wf V m 3 H0 0 (zls [(0, .ref b)]) [] (hC g b T) 46 0 0
  have hb0 : b < 46 := by omega
  have hb1 : b + 1 < 46 := by omega
  have hb2 : b + 2 < 46 := by omega
  have hb3 : b + 3 < 46 := by omega
  have hb4 : b + 4 < 46 := by omega
  have hb5 : b + 5 < 46 := by omega
  have hb6 : b + 6 < 46 := by omega
  have hb7 : b + 7 < 46 := by omega
  have hN2 := hN.2
  refine x_aload_n Γ dX0_eatAndSee_0 rfl ?_
  refine gf_X0_49 Γ dX0_eatAndSee_1 hb0 hC_o rfl ?_
  refine x_iconst Γ (v := 1) dX0_eatAndSee_4 rfl ?_
  refine x_icmp_ne Γ (tgt := 12) dX0_eatAndSee_5 (by decide) (fun c_1 => ?_) (fun c_1 => ?_)
  · refine x_iconst Γ (v := 3) dX0_eatAndSee_12 rfl ?_
    refine x_istore_n Γ dX0_eatAndSee_13 (by decide) ?_
    refine x_iconst Γ (v := 0) dX0_eatAndSee_14 rfl ?_
    refine x_istore_n Γ dX0_eatAndSee_15 (by decide) ?_
    suffices L_16 : ∀ (k c : Nat), c ≤ N → N - c < k → zX Wf V m 3 H0 16 (zls [(0, .ref b), (1, .int (if T 7 4 = 1 then 2 else 3)), (2, .int (nI c))]) [] (hC g b (eaT T c)) 46 0 0 by
      exact x_subl [(0, .ref b), (1, .int (if T 7 4 = 1 then 2 else 3)), (2, .int (nI 0))] (List.forall_mem_cons.mpr ⟨rfl, List.forall_mem_cons.mpr ⟨zsi (by simp [*]), List.forall_mem_cons.mpr ⟨rfl, fun _ hz => absurd hz List.not_mem_nil⟩⟩⟩) (x_heap (rfl) (L_16 (N + 1) 0 (by omega) (by omega)))
    intro k
    induction k with
    | zero => intro c h1 h2; omega
    | succ k ih =>
      intro c h1 h2
      refine x_iload_n Γ dX0_eatAndSee_16 rfl ?_
      refine x_aload_n Γ dX0_eatAndSee_17 rfl ?_
      refine gf_X0_33 Γ dX0_eatAndSee_18 hb0 hC_o rfl ?_
      refine x_icmp_ge Γ (tgt := 104) dX0_eatAndSee_21 (by decide) (fun c_2 => ?_) (fun c_2 => ?_)
      · rw [eaT_n _ _ (by decide) (by decide), hN.1] at c_2
        have c_2 := z_le c_2 (by omega) (by omega)
        obtain rfl : c = N := by omega
        exact x_vret ρ dX0_eatAndSee_104 (rfl) rfl (zH.rf)
      · rw [eaT_n _ _ (by decide) (by decide), hN.1] at c_2
        have c_2 := z_nle c_2 (by omega) (by omega)
        obtain ⟨hh, hh9, eh⟩ := hH c c_2
        have eU : eaT T c 1 c = nI hh := (eaT_i T 1 c c (Nat.le_refl _)).trans eh
        refine x_aload_n Γ dX0_eatAndSee_24 rfl ?_
        refine gf_X0_27 Γ dX0_eatAndSee_25 hb0 hC_o rfl ?_
        refine x_iload_n Γ dX0_eatAndSee_28 rfl ?_
        refine x_iald Γ dX0_eatAndSee_29 hb6 hC_5 rfl (by first | assumption | omega) (by decide) rfl ?_
        refine x_iconst Γ (v := 1) dX0_eatAndSee_30 rfl ?_
        refine x_icmp_ne Γ (tgt := 55) dX0_eatAndSee_31 (by decide) (fun c_3 => ?_) (fun c_3 => ?_)
        · refine x_aload_n Γ dX0_eatAndSee_55 rfl ?_
          refine gf_X0_15 Γ dX0_eatAndSee_56 hb0 hC_o rfl ?_
          refine x_iload_n Γ dX0_eatAndSee_59 rfl ?_
          refine x_bipush Γ (v := 9) dX0_eatAndSee_60 rfl ?_
          refine x_aload_n Γ dX0_eatAndSee_62 rfl ?_
          refine gf_X0_15 Γ dX0_eatAndSee_63 hb0 hC_o rfl ?_
          refine x_iload_n Γ dX0_eatAndSee_66 rfl ?_
          refine x_iald Γ dX0_eatAndSee_67 hb2 hC_1 rfl (by first | assumption | omega) (by decide) rfl ?_
          refine x_iconst Γ (v := 1) dX0_eatAndSee_68 rfl ?_
          refine x_iadd Γ dX0_eatAndSee_69 ?_
          refine x_mmin Γ (by decide) wl_X0_113 dX0_eatAndSee_70 (Nat.le_of_ble_eq_true rfl) (Nat.le_refl _) (Nat.le_refl _) ?_
          refine x_iast Γ dX0_eatAndSee_73 hb2 hC_1 rfl (by first | assumption | omega) (by decide) hC_u1 ?_
          first | rw [eaH_1 (by assumption) eU hh9 (by rw [eaT_n _ _ (by decide) (by decide)])] | rw [eaH_2 (by assumption) eU hh9]
          refine x_aload_n Γ dX0_eatAndSee_74 rfl ?_
          refine gf_X0_27 Γ dX0_eatAndSee_75 hb0 hC_o rfl ?_
          refine x_iload_n Γ dX0_eatAndSee_78 rfl ?_
          refine x_iald Γ dX0_eatAndSee_79 hb6 hC_5 rfl (by first | assumption | omega) (by decide) rfl ?_
          refine x_iconst Γ (v := 2) dX0_eatAndSee_80 rfl ?_
          refine x_icmp_ne Γ (tgt := 98) dX0_eatAndSee_81 (by decide) (fun c_4 => ?_) (fun c_4 => ?_)
          · rw [ts_n (by decide)] at c_4
            refine x_iinc Γ dX0_eatAndSee_98 rfl (by first | exact zinc _ | rfl) (by decide) ?_
            refine x_goto Γ (tgt := 16) dX0_eatAndSee_101 (by decide) ?_
            exact x_subl [(0, .ref b), (1, .int (if T 7 4 = 1 then 2 else 3)), (2, .int (nI (c + 1)))] (List.forall_mem_cons.mpr ⟨rfl, List.forall_mem_cons.mpr ⟨rfl, List.forall_mem_cons.mpr ⟨rfl, fun _ hz => absurd hz List.not_mem_nil⟩⟩⟩) (x_heap (by first | (rw [eaT, eaJ, if_neg (by assumption)]; exact congrArg (hC g b) (ts_sv (by rw [ts_n (by decide)])).symm) | (rw [eaT, eaJ, if_pos (by assumption), ts_n (by decide), sw_ts (by decide) (by decide) (by decide)]; done)) (ih (c + 1) (by omega) (by omega)))
          · rw [ts_n (by decide)] at c_4
            refine x_aload_n Γ dX0_eatAndSee_84 rfl ?_
            refine gf_X0_24 Γ dX0_eatAndSee_85 hb0 hC_o rfl ?_
            refine x_iload_n Γ dX0_eatAndSee_88 rfl ?_
            refine x_dup2 Γ dX0_eatAndSee_89 rfl rfl ?_
            refine x_iald Γ dX0_eatAndSee_90 hb5 hC_4 rfl (by first | assumption | omega) (by decide) rfl ?_
            refine x_aload_n Γ dX0_eatAndSee_91 rfl ?_
            refine x_iload_n Γ dX0_eatAndSee_92 rfl ?_
            refine x_callV Γ calv_X0_seatWorth wl_X0_78 dX0_eatAndSee_93 (m_X0_seatWorth (g := g) (T := ts (eaT T c) 1 c (eaH (eaT T c) c)) hb c (by omega)) rfl (by decide) hb0 hC_o rfl rfl rfl (Nat.le_of_ble_eq_true rfl) (Nat.le_refl _) (Nat.le_refl _) ?_
            refine x_iadd Γ dX0_eatAndSee_96 ?_
            refine x_iast Γ dX0_eatAndSee_97 hb5 hC_4 rfl (by first | assumption | omega) (by decide) hC_u4 ?_
            refine x_iinc Γ dX0_eatAndSee_98 rfl (by first | exact zinc _ | rfl) (by decide) ?_
            refine x_goto Γ (tgt := 16) dX0_eatAndSee_101 (by decide) ?_
            exact x_subl [(0, .ref b), (1, .int (if T 7 4 = 1 then 2 else 3)), (2, .int (nI (c + 1)))] (List.forall_mem_cons.mpr ⟨rfl, List.forall_mem_cons.mpr ⟨rfl, List.forall_mem_cons.mpr ⟨rfl, fun _ hz => absurd hz List.not_mem_nil⟩⟩⟩) (x_heap (by first | (rw [eaT, eaJ, if_neg (by assumption)]; exact congrArg (hC g b) (ts_sv (by rw [ts_n (by decide)])).symm) | (rw [eaT, eaJ, if_pos (by assumption), ts_n (by decide), sw_ts (by decide) (by decide) (by decide)]; done)) (ih (c + 1) (by omega) (by omega)))
        · refine x_aload_n Γ dX0_eatAndSee_34 rfl ?_
          refine gf_X0_15 Γ dX0_eatAndSee_35 hb0 hC_o rfl ?_
          refine x_iload_n Γ dX0_eatAndSee_38 rfl ?_
          refine x_iconst Γ (v := 0) dX0_eatAndSee_39 rfl ?_
          refine x_aload_n Γ dX0_eatAndSee_40 rfl ?_
          refine gf_X0_15 Γ dX0_eatAndSee_41 hb0 hC_o rfl ?_
          refine x_iload_n Γ dX0_eatAndSee_44 rfl ?_
          refine x_iald Γ dX0_eatAndSee_45 hb2 hC_1 rfl (by first | assumption | omega) (by decide) rfl ?_
          refine x_iload_n Γ dX0_eatAndSee_46 rfl ?_
          refine x_isub Γ dX0_eatAndSee_47 ?_
          refine x_mmax Γ (by decide) wl_X0_108 dX0_eatAndSee_48 (Nat.le_of_ble_eq_true rfl) (Nat.le_refl _) (Nat.le_refl _) ?_
          refine x_iast Γ dX0_eatAndSee_51 hb2 hC_1 rfl (by first | assumption | omega) (by decide) hC_u1 ?_
          refine x_goto Γ (tgt := 74) dX0_eatAndSee_52 (by decide) ?_
          first | rw [eaH_1 (by assumption) eU hh9 (by rw [eaT_n _ _ (by decide) (by decide)])] | rw [eaH_2 (by assumption) eU hh9]
          refine x_aload_n Γ dX0_eatAndSee_74 rfl ?_
          refine gf_X0_27 Γ dX0_eatAndSee_75 hb0 hC_o rfl ?_
          refine x_iload_n Γ dX0_eatAndSee_78 rfl ?_
          refine x_iald Γ dX0_eatAndSee_79 hb6 hC_5 rfl (by first | assumption | omega) (by decide) rfl ?_
          refine x_iconst Γ (v := 2) dX0_eatAndSee_80 rfl ?_
          refine x_icmp_ne Γ (tgt := 98) dX0_eatAndSee_81 (by decide) (fun c_5 => ?_) (fun c_5 => ?_)
          · rw [ts_n (by decide)] at c_5
            refine x_iinc Γ dX0_eatAndSee_98 rfl (by first | exact zinc _ | rfl) (by decide) ?_
            refine x_goto Γ (tgt := 16) dX0_eatAndSee_101 (by decide) ?_
            exact x_subl [(0, .ref b), (1, .int (if T 7 4 = 1 then 2 else 3)), (2, .int (nI (c + 1)))] (List.forall_mem_cons.mpr ⟨rfl, List.forall_mem_cons.mpr ⟨rfl, List.forall_mem_cons.mpr ⟨rfl, fun _ hz => absurd hz List.not_mem_nil⟩⟩⟩) (x_heap (by first | (rw [eaT, eaJ, if_neg (by assumption)]; exact congrArg (hC g b) (ts_sv (by rw [ts_n (by decide)])).symm) | (rw [eaT, eaJ, if_pos (by assumption), ts_n (by decide), sw_ts (by decide) (by decide) (by decide)]; done)) (ih (c + 1) (by omega) (by omega)))
          · rw [ts_n (by decide)] at c_5
            refine x_aload_n Γ dX0_eatAndSee_84 rfl ?_
            refine gf_X0_24 Γ dX0_eatAndSee_85 hb0 hC_o rfl ?_
            refine x_iload_n Γ dX0_eatAndSee_88 rfl ?_
            refine x_dup2 Γ dX0_eatAndSee_89 rfl rfl ?_
            refine x_iald Γ dX0_eatAndSee_90 hb5 hC_4 rfl (by first | assumption | omega) (by decide) rfl ?_
            refine x_aload_n Γ dX0_eatAndSee_91 rfl ?_
            refine x_iload_n Γ dX0_eatAndSee_92 rfl ?_
            refine x_callV Γ calv_X0_seatWorth wl_X0_78 dX0_eatAndSee_93 (m_X0_seatWorth (g := g) (T := ts (eaT T c) 1 c (eaH (eaT T c) c)) hb c (by omega)) rfl (by decide) hb0 hC_o rfl rfl rfl (Nat.le_of_ble_eq_true rfl) (Nat.le_refl _) (Nat.le_refl _) ?_
            refine x_iadd Γ dX0_eatAndSee_96 ?_
            refine x_iast Γ dX0_eatAndSee_97 hb5 hC_4 rfl (by first | assumption | omega) (by decide) hC_u4 ?_
            refine x_iinc Γ dX0_eatAndSee_98 rfl (by first | exact zinc _ | rfl) (by decide) ?_
            refine x_goto Γ (tgt := 16) dX0_eatAndSee_101 (by decide) ?_
            exact x_subl [(0, .ref b), (1, .int (if T 7 4 = 1 then 2 else 3)), (2, .int (nI (c + 1)))] (List.forall_mem_cons.mpr ⟨rfl, List.forall_mem_cons.mpr ⟨rfl, List.forall_mem_cons.mpr ⟨rfl, fun _ hz => absurd hz List.not_mem_nil⟩⟩⟩) (x_heap (by first | (rw [eaT, eaJ, if_neg (by assumption)]; exact congrArg (hC g b) (ts_sv (by rw [ts_n (by decide)])).symm) | (rw [eaT, eaJ, if_pos (by assumption), ts_n (by decide), sw_ts (by decide) (by decide) (by decide)]; done)) (ih (c + 1) (by omega) (by omega)))
  · refine x_iconst Γ (v := 2) dX0_eatAndSee_8 rfl ?_
    refine x_goto Γ (tgt := 13) dX0_eatAndSee_9 (by decide) ?_
    refine x_istore_n Γ dX0_eatAndSee_13 (by decide) ?_
    refine x_iconst Γ (v := 0) dX0_eatAndSee_14 rfl ?_
    refine x_istore_n Γ dX0_eatAndSee_15 (by decide) ?_
    suffices L_16 : ∀ (k c : Nat), c ≤ N → N - c < k → zX Wf V m 3 H0 16 (zls [(0, .ref b), (1, .int (if T 7 4 = 1 then 2 else 3)), (2, .int (nI c))]) [] (hC g b (eaT T c)) 46 0 0 by
      exact x_subl [(0, .ref b), (1, .int (if T 7 4 = 1 then 2 else 3)), (2, .int (nI 0))] (List.forall_mem_cons.mpr ⟨rfl, List.forall_mem_cons.mpr ⟨zsi (by simp [*]), List.forall_mem_cons.mpr ⟨rfl, fun _ hz => absurd hz List.not_mem_nil⟩⟩⟩) (x_heap (rfl) (L_16 (N + 1) 0 (by omega) (by omega)))
    intro k
    induction k with
    | zero => intro c h1 h2; omega
    | succ k ih =>
      intro c h1 h2
      refine x_iload_n Γ dX0_eatAndSee_16 rfl ?_
      refine x_aload_n Γ dX0_eatAndSee_17 rfl ?_
      refine gf_X0_33 Γ dX0_eatAndSee_18 hb0 hC_o rfl ?_
      refine x_icmp_ge Γ (tgt := 104) dX0_eatAndSee_21 (by decide) (fun c_6 => ?_) (fun c_6 => ?_)
      · rw [eaT_n _ _ (by decide) (by decide), hN.1] at c_6
        have c_6 := z_le c_6 (by omega) (by omega)
        obtain rfl : c = N := by omega
        exact x_vret ρ dX0_eatAndSee_104 (rfl) rfl (zH.rf)
      · rw [eaT_n _ _ (by decide) (by decide), hN.1] at c_6
        have c_6 := z_nle c_6 (by omega) (by omega)
        obtain ⟨hh, hh9, eh⟩ := hH c c_6
        have eU : eaT T c 1 c = nI hh := (eaT_i T 1 c c (Nat.le_refl _)).trans eh
        refine x_aload_n Γ dX0_eatAndSee_24 rfl ?_
        refine gf_X0_27 Γ dX0_eatAndSee_25 hb0 hC_o rfl ?_
        refine x_iload_n Γ dX0_eatAndSee_28 rfl ?_
        refine x_iald Γ dX0_eatAndSee_29 hb6 hC_5 rfl (by first | assumption | omega) (by decide) rfl ?_
        refine x_iconst Γ (v := 1) dX0_eatAndSee_30 rfl ?_
        refine x_icmp_ne Γ (tgt := 55) dX0_eatAndSee_31 (by decide) (fun c_7 => ?_) (fun c_7 => ?_)
        · refine x_aload_n Γ dX0_eatAndSee_55 rfl ?_
          refine gf_X0_15 Γ dX0_eatAndSee_56 hb0 hC_o rfl ?_
          refine x_iload_n Γ dX0_eatAndSee_59 rfl ?_
          refine x_bipush Γ (v := 9) dX0_eatAndSee_60 rfl ?_
          refine x_aload_n Γ dX0_eatAndSee_62 rfl ?_
          refine gf_X0_15 Γ dX0_eatAndSee_63 hb0 hC_o rfl ?_
          refine x_iload_n Γ dX0_eatAndSee_66 rfl ?_
          refine x_iald Γ dX0_eatAndSee_67 hb2 hC_1 rfl (by first | assumption | omega) (by decide) rfl ?_
          refine x_iconst Γ (v := 1) dX0_eatAndSee_68 rfl ?_
          refine x_iadd Γ dX0_eatAndSee_69 ?_
          refine x_mmin Γ (by decide) wl_X0_113 dX0_eatAndSee_70 (Nat.le_of_ble_eq_true rfl) (Nat.le_refl _) (Nat.le_refl _) ?_
          refine x_iast Γ dX0_eatAndSee_73 hb2 hC_1 rfl (by first | assumption | omega) (by decide) hC_u1 ?_
          first | rw [eaH_1 (by assumption) eU hh9 (by rw [eaT_n _ _ (by decide) (by decide)])] | rw [eaH_2 (by assumption) eU hh9]
          refine x_aload_n Γ dX0_eatAndSee_74 rfl ?_
          refine gf_X0_27 Γ dX0_eatAndSee_75 hb0 hC_o rfl ?_
          refine x_iload_n Γ dX0_eatAndSee_78 rfl ?_
          refine x_iald Γ dX0_eatAndSee_79 hb6 hC_5 rfl (by first | assumption | omega) (by decide) rfl ?_
          refine x_iconst Γ (v := 2) dX0_eatAndSee_80 rfl ?_
          refine x_icmp_ne Γ (tgt := 98) dX0_eatAndSee_81 (by decide) (fun c_8 => ?_) (fun c_8 => ?_)
          · rw [ts_n (by decide)] at c_8
            refine x_iinc Γ dX0_eatAndSee_98 rfl (by first | exact zinc _ | rfl) (by decide) ?_
            refine x_goto Γ (tgt := 16) dX0_eatAndSee_101 (by decide) ?_
            exact x_subl [(0, .ref b), (1, .int (if T 7 4 = 1 then 2 else 3)), (2, .int (nI (c + 1)))] (List.forall_mem_cons.mpr ⟨rfl, List.forall_mem_cons.mpr ⟨rfl, List.forall_mem_cons.mpr ⟨rfl, fun _ hz => absurd hz List.not_mem_nil⟩⟩⟩) (x_heap (by first | (rw [eaT, eaJ, if_neg (by assumption)]; exact congrArg (hC g b) (ts_sv (by rw [ts_n (by decide)])).symm) | (rw [eaT, eaJ, if_pos (by assumption), ts_n (by decide), sw_ts (by decide) (by decide) (by decide)]; done)) (ih (c + 1) (by omega) (by omega)))
          · rw [ts_n (by decide)] at c_8
            refine x_aload_n Γ dX0_eatAndSee_84 rfl ?_
            refine gf_X0_24 Γ dX0_eatAndSee_85 hb0 hC_o rfl ?_
            refine x_iload_n Γ dX0_eatAndSee_88 rfl ?_
            refine x_dup2 Γ dX0_eatAndSee_89 rfl rfl ?_
            refine x_iald Γ dX0_eatAndSee_90 hb5 hC_4 rfl (by first | assumption | omega) (by decide) rfl ?_
            refine x_aload_n Γ dX0_eatAndSee_91 rfl ?_
            refine x_iload_n Γ dX0_eatAndSee_92 rfl ?_
            refine x_callV Γ calv_X0_seatWorth wl_X0_78 dX0_eatAndSee_93 (m_X0_seatWorth (g := g) (T := ts (eaT T c) 1 c (eaH (eaT T c) c)) hb c (by omega)) rfl (by decide) hb0 hC_o rfl rfl rfl (Nat.le_of_ble_eq_true rfl) (Nat.le_refl _) (Nat.le_refl _) ?_
            refine x_iadd Γ dX0_eatAndSee_96 ?_
            refine x_iast Γ dX0_eatAndSee_97 hb5 hC_4 rfl (by first | assumption | omega) (by decide) hC_u4 ?_
            refine x_iinc Γ dX0_eatAndSee_98 rfl (by first | exact zinc _ | rfl) (by decide) ?_
            refine x_goto Γ (tgt := 16) dX0_eatAndSee_101 (by decide) ?_
            exact x_subl [(0, .ref b), (1, .int (if T 7 4 = 1 then 2 else 3)), (2, .int (nI (c + 1)))] (List.forall_mem_cons.mpr ⟨rfl, List.forall_mem_cons.mpr ⟨rfl, List.forall_mem_cons.mpr ⟨rfl, fun _ hz => absurd hz List.not_mem_nil⟩⟩⟩) (x_heap (by first | (rw [eaT, eaJ, if_neg (by assumption)]; exact congrArg (hC g b) (ts_sv (by rw [ts_n (by decide)])).symm) | (rw [eaT, eaJ, if_pos (by assumption), ts_n (by decide), sw_ts (by decide) (by decide) (by decide)]; done)) (ih (c + 1) (by omega) (by omega)))
        · refine x_aload_n Γ dX0_eatAndSee_34 rfl ?_
          refine gf_X0_15 Γ dX0_eatAndSee_35 hb0 hC_o rfl ?_
          refine x_iload_n Γ dX0_eatAndSee_38 rfl ?_
          refine x_iconst Γ (v := 0) dX0_eatAndSee_39 rfl ?_
          refine x_aload_n Γ dX0_eatAndSee_40 rfl ?_
          refine gf_X0_15 Γ dX0_eatAndSee_41 hb0 hC_o rfl ?_
          refine x_iload_n Γ dX0_eatAndSee_44 rfl ?_
          refine x_iald Γ dX0_eatAndSee_45 hb2 hC_1 rfl (by first | assumption | omega) (by decide) rfl ?_
          refine x_iload_n Γ dX0_eatAndSee_46 rfl ?_
          refine x_isub Γ dX0_eatAndSee_47 ?_
          refine x_mmax Γ (by decide) wl_X0_108 dX0_eatAndSee_48 (Nat.le_of_ble_eq_true rfl) (Nat.le_refl _) (Nat.le_refl _) ?_
          refine x_iast Γ dX0_eatAndSee_51 hb2 hC_1 rfl (by first | assumption | omega) (by decide) hC_u1 ?_
          refine x_goto Γ (tgt := 74) dX0_eatAndSee_52 (by decide) ?_
          first | rw [eaH_1 (by assumption) eU hh9 (by rw [eaT_n _ _ (by decide) (by decide)])] | rw [eaH_2 (by assumption) eU hh9]
          refine x_aload_n Γ dX0_eatAndSee_74 rfl ?_
          refine gf_X0_27 Γ dX0_eatAndSee_75 hb0 hC_o rfl ?_
          refine x_iload_n Γ dX0_eatAndSee_78 rfl ?_
          refine x_iald Γ dX0_eatAndSee_79 hb6 hC_5 rfl (by first | assumption | omega) (by decide) rfl ?_
          refine x_iconst Γ (v := 2) dX0_eatAndSee_80 rfl ?_
          refine x_icmp_ne Γ (tgt := 98) dX0_eatAndSee_81 (by decide) (fun c_9 => ?_) (fun c_9 => ?_)
          · rw [ts_n (by decide)] at c_9
            refine x_iinc Γ dX0_eatAndSee_98 rfl (by first | exact zinc _ | rfl) (by decide) ?_
            refine x_goto Γ (tgt := 16) dX0_eatAndSee_101 (by decide) ?_
            exact x_subl [(0, .ref b), (1, .int (if T 7 4 = 1 then 2 else 3)), (2, .int (nI (c + 1)))] (List.forall_mem_cons.mpr ⟨rfl, List.forall_mem_cons.mpr ⟨rfl, List.forall_mem_cons.mpr ⟨rfl, fun _ hz => absurd hz List.not_mem_nil⟩⟩⟩) (x_heap (by first | (rw [eaT, eaJ, if_neg (by assumption)]; exact congrArg (hC g b) (ts_sv (by rw [ts_n (by decide)])).symm) | (rw [eaT, eaJ, if_pos (by assumption), ts_n (by decide), sw_ts (by decide) (by decide) (by decide)]; done)) (ih (c + 1) (by omega) (by omega)))
          · rw [ts_n (by decide)] at c_9
            refine x_aload_n Γ dX0_eatAndSee_84 rfl ?_
            refine gf_X0_24 Γ dX0_eatAndSee_85 hb0 hC_o rfl ?_
            refine x_iload_n Γ dX0_eatAndSee_88 rfl ?_
            refine x_dup2 Γ dX0_eatAndSee_89 rfl rfl ?_
            refine x_iald Γ dX0_eatAndSee_90 hb5 hC_4 rfl (by first | assumption | omega) (by decide) rfl ?_
            refine x_aload_n Γ dX0_eatAndSee_91 rfl ?_
            refine x_iload_n Γ dX0_eatAndSee_92 rfl ?_
            refine x_callV Γ calv_X0_seatWorth wl_X0_78 dX0_eatAndSee_93 (m_X0_seatWorth (g := g) (T := ts (eaT T c) 1 c (eaH (eaT T c) c)) hb c (by omega)) rfl (by decide) hb0 hC_o rfl rfl rfl (Nat.le_of_ble_eq_true rfl) (Nat.le_refl _) (Nat.le_refl _) ?_
            refine x_iadd Γ dX0_eatAndSee_96 ?_
            refine x_iast Γ dX0_eatAndSee_97 hb5 hC_4 rfl (by first | assumption | omega) (by decide) hC_u4 ?_
            refine x_iinc Γ dX0_eatAndSee_98 rfl (by first | exact zinc _ | rfl) (by decide) ?_
            refine x_goto Γ (tgt := 16) dX0_eatAndSee_101 (by decide) ?_
            exact x_subl [(0, .ref b), (1, .int (if T 7 4 = 1 then 2 else 3)), (2, .int (nI (c + 1)))] (List.forall_mem_cons.mpr ⟨rfl, List.forall_mem_cons.mpr ⟨rfl, List.forall_mem_cons.mpr ⟨rfl, fun _ hz => absurd hz List.not_mem_nil⟩⟩⟩) (x_heap (by first | (rw [eaT, eaJ, if_neg (by assumption)]; exact congrArg (hC g b) (ts_sv (by rw [ts_n (by decide)])).symm) | (rw [eaT, eaJ, if_pos (by assumption), ts_n (by decide), sw_ts (by decide) (by decide) (by decide)]; done)) (ih (c + 1) (by omega) (by omega)))

set_option maxRecDepth 100000 in
set_option maxHeartbeats 4000000 in
theorem m_X0_maybeRiot {g : Nat → zE} {b : Nat} {T : zT} (hb : b + 7 < 46) {N : Nat} (hN : wN T N) : zM 1 M_X0_maybeRiot [.ref b] (hC g b T) 46 (none) (hC g b (mrT T N)) 46 0 0 := by
  refine zM.intro (by decide) (Nat.le_of_ble_eq_true rfl) ?_
  intro Wf V m H0 Γ ρ
  replace Γ : zC Wf V m 2 H0 cX0_maybeRiot RX0 1 0 0 := Γ
  show zX Wf V m 2 H0 0 (zls [(0, .ref b)]) [] (hC g b T) 46 0 0
  have hb0 : b < 46 := by omega
  have hb1 : b + 1 < 46 := by omega
  have hb2 : b + 2 < 46 := by omega
  have hb3 : b + 3 < 46 := by omega
  have hb4 : b + 4 < 46 := by omega
  have hb5 : b + 5 < 46 := by omega
  have hb6 : b + 6 < 46 := by omega
  have hb7 : b + 7 < 46 := by omega
  have hN2 := hN.2
  obtain ⟨k, hk, ek⟩ := hunW_lt T N hN2
  refine x_aload_n Γ dX0_maybeRiot_0 rfl ?_
  refine x_callV Γ calv_X0_starving wl_X0_116 dX0_maybeRiot_1 (m_X0_starving (g := g) (T := T) hb hN) rfl (by decide) hb0 hC_o rfl rfl rfl (Nat.le_of_ble_eq_true rfl) (Nat.le_refl _) (Nat.le_refl _) ?_
  rw [ek]
  refine x_callS Γ cals_J6_bitCount_0f7a4 wl_X0_95 dX0_maybeRiot_4 (m_bitCount (p2_le hN2 hk)) rfl (by decide) rfl (Nat.le_of_ble_eq_true rfl) (Nat.le_refl _) (Nat.le_refl _) ?_
  rw [← ek]
  refine x_aload_n Γ dX0_maybeRiot_7 rfl ?_
  refine gf_X0_46 Γ dX0_maybeRiot_8 hb0 hC_o rfl ?_
  refine x_icmp_ge Γ (tgt := 15) dX0_maybeRiot_11 (by decide) (fun c_1 => ?_) (fun c_1 => ?_)
  · refine x_aload_n Γ dX0_maybeRiot_15 rfl ?_
    refine x_dup Γ dX0_maybeRiot_16 rfl ?_
    refine gf_X0_55 Γ dX0_maybeRiot_17 hb0 hC_o rfl ?_
    refine x_iconst Γ (v := 1) dX0_maybeRiot_20 rfl ?_
    refine x_iadd Γ dX0_maybeRiot_21 ?_
    refine pf_X0_55 Γ dX0_maybeRiot_22 hb0 hC_o (Nat.le_of_ble_eq_true rfl) hC_f14 ?_
    refine x_iconst Γ (v := 0) dX0_maybeRiot_25 rfl ?_
    refine x_istore_n Γ dX0_maybeRiot_26 (by decide) ?_
    suffices L_27 : ∀ (k c : Nat), c ≤ N → N - c < k → zX Wf V m 2 H0 27 (zls [(0, .ref b), (1, .int (nI c))]) [] (hC g b (rio (ts T 7 6 (T 7 6 + 1)) c)) 46 0 0 by
      exact x_subl [(0, .ref b), (1, .int (nI 0))] (List.forall_mem_cons.mpr ⟨rfl, List.forall_mem_cons.mpr ⟨rfl, fun _ hz => absurd hz List.not_mem_nil⟩⟩) (x_heap (rfl) (L_27 (N + 1) 0 (by omega) (by omega)))
    intro k
    induction k with
    | zero => intro c h1 h2; omega
    | succ k ih =>
      intro c h1 h2
      refine x_iload_n Γ dX0_maybeRiot_27 rfl ?_
      refine x_aload_n Γ dX0_maybeRiot_28 rfl ?_
      refine gf_X0_33 Γ dX0_maybeRiot_29 hb0 hC_o rfl ?_
      refine x_icmp_ge Γ (tgt := 57) dX0_maybeRiot_32 (by decide) (fun c_2 => ?_) (fun c_2 => ?_)
      · rw [rio_n _ _ (by decide), ts_i (by decide), hN.1] at c_2
        have c_2 := z_le c_2 (by omega) (by omega)
        obtain rfl : c = N := by omega
        exact x_vret ρ dX0_maybeRiot_57 (rfl) rfl (by rw [mrT, if_pos (by assumption)]; exact zH.rf)
      · rw [rio_n _ _ (by decide), ts_i (by decide), hN.1] at c_2
        have c_2 := z_nle c_2 (by omega) (by omega)
        refine x_aload_n Γ dX0_maybeRiot_35 rfl ?_
        refine gf_X0_15 Γ dX0_maybeRiot_36 hb0 hC_o rfl ?_
        refine x_iload_n Γ dX0_maybeRiot_39 rfl ?_
        refine x_iconst Γ (v := 5) dX0_maybeRiot_40 rfl ?_
        refine x_aload_n Γ dX0_maybeRiot_41 rfl ?_
        refine gf_X0_15 Γ dX0_maybeRiot_42 hb0 hC_o rfl ?_
        refine x_iload_n Γ dX0_maybeRiot_45 rfl ?_
        refine x_iald Γ dX0_maybeRiot_46 hb2 hC_1 rfl (by first | assumption | omega) (by decide) rfl ?_
        refine x_mmin Γ (by decide) wl_X0_113 dX0_maybeRiot_47 (Nat.le_of_ble_eq_true rfl) (Nat.le_refl _) (Nat.le_refl _) ?_
        refine x_iast Γ dX0_maybeRiot_50 hb2 hC_1 rfl (by first | assumption | omega) (by decide) hC_u1 ?_
        refine x_iinc Γ dX0_maybeRiot_51 rfl (by first | exact zinc _ | rfl) (by decide) ?_
        refine x_goto Γ (tgt := 27) dX0_maybeRiot_54 (by decide) ?_
        exact x_subl [(0, .ref b), (1, .int (nI (c + 1)))] (List.forall_mem_cons.mpr ⟨rfl, List.forall_mem_cons.mpr ⟨rfl, fun _ hz => absurd hz List.not_mem_nil⟩⟩) (x_heap (by rw [rio, min5]) (ih (c + 1) (by omega) (by omega)))
  · exact x_vret ρ dX0_maybeRiot_14 (rfl) rfl (by rw [mrT, if_neg (by assumption)]; exact zH.rf)

theorem wtr0 : True := trivial
