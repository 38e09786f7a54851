set_option maxRecDepth 100000 in
set_option maxHeartbeats 4000000 in
theorem m_X4_lies {g : Nat → zE} {T R : zT} {N : Nat} (hN : wN T N) (x : Int32) : zM 1 M_X4_lies [.ref 37, .int x] (hR g T R) 46 (none) (hR g (dlT T x N) R) 46 0 0 := by
  refine zM.intro (by decide) (Nat.le_of_ble_eq_true rfl) ?_
  intro Wf V m H0 Γ ρ
  replace Γ : zC Wf V m 3 H0 cX4_lies RX4 1 0 0 := Γ
  show zX Wf V m 3 H0 0 (zls [(0, .ref 37), (1, .int x)]) [] (hR g T R) 46 0 0
  have hN2 := hN.2
  refine x_iconst Γ (v := 0) dX4_lies_0 rfl ?_
  refine x_istore_n Γ dX4_lies_1 (by decide) ?_
  suffices L_2 : ∀ (k c : Nat), c ≤ N → N - c < k → zX Wf V m 3 H0 2 (zls [(0, .ref 37), (1, .int x), (2, .int (nI c))]) [] (hR g (dlT T x c) R) 46 0 0 by
    exact x_subl [(0, .ref 37), (1, .int x), (2, .int (nI 0))] (List.forall_mem_cons.mpr ⟨rfl, List.forall_mem_cons.mpr ⟨rfl, List.forall_mem_cons.mpr ⟨rfl, fun _ hz => absurd hz List.not_mem_nil⟩⟩⟩) (x_heap (rfl) (L_2 (N + 1) 0 (by omega) (by omega)))
  intro k
  induction k with
  | zero => intro c h1 h2; omega
  | succ k ih =>
    intro c h1 h2
    refine x_iload_n Γ dX4_lies_2 rfl ?_
    refine x_aload_n Γ dX4_lies_3 rfl ?_
    refine gf_X4_9 Γ dX4_lies_4 (by decide) rfl rfl ?_
    refine x_bipush Γ (v := 8) dX4_lies_7 rfl ?_
    refine x_iald Γ dX4_lies_9 (by decide) (by rfl) (j := 8) rfl (by decide) (by decide) (mr_s (by decide)) ?_
    refine x_icmp_ge Γ (tgt := 51) dX4_lies_10 (by decide) (fun c_1 => ?_) (fun c_1 => ?_)
    · rw [dlT_n _ _ _ (by decide), hN.1] at c_1
      have c_1 := z_le c_1 (by omega) (by omega)
      obtain rfl : N = c := by omega
      exact x_vret ρ dX4_lies_51 (rfl) rfl (zH.rf)
    · rw [dlT_n _ _ _ (by decide), hN.1] at c_1
      have c_1 := z_nle c_1 (by omega) (by omega)
      refine x_aload_n Γ dX4_lies_13 rfl ?_
      refine x_iload_n Γ dX4_lies_14 rfl ?_
      refine x_iconst Γ (v := 5) dX4_lies_15 rfl ?_
      refine x_iload_n Γ dX4_lies_16 rfl ?_
      refine x_aload_n Γ dX4_lies_17 rfl ?_
      refine x_callV Γ calv_X4_drawing wl_X4_181 dX4_lies_18 (m_X4_drawing (g := g) (T := dlT T x c) (R := R)) rfl (by decide) (by decide) rfl rfl rfl rfl (Nat.le_of_ble_eq_true rfl) (Nat.le_refl _) (Nat.le_refl _) ?_
      rw [dra_dl]
      refine x_icmp_lt Γ (tgt := 28) dX4_lies_21 (by decide) (fun c_2 => ?_) (fun c_2 => ?_)
      · refine x_iload_n Γ dX4_lies_28 rfl ?_
        refine x_iload_n Γ dX4_lies_29 rfl ?_
        refine x_ishr Γ dX4_lies_30 ?_
        refine x_iconst Γ (v := 1) dX4_lies_31 rfl ?_
        refine x_iand Γ dX4_lies_32 ?_
        refine x_iconst Γ (v := 1) dX4_lies_33 rfl ?_
        refine x_icmp_ne Γ (tgt := 41) dX4_lies_34 (by decide) (fun c_3 => ?_) (fun c_3 => ?_)
        · refine x_iconst Γ (v := 2) dX4_lies_41 rfl ?_
          refine x_callVv Γ calv_X4_makes wl_X4_50 dX4_lies_42 (m_X4_makes (c := c) (w := 5) (by omega) (by decide) _) rfl (by decide) (by decide) rfl rfl rfl rfl (Nat.le_of_ble_eq_true rfl) (Nat.le_refl _) (Nat.le_refl _) ?_
          refine x_iinc Γ dX4_lies_45 rfl (by first | exact zinc _ | rfl) (by decide) ?_
          refine x_goto Γ (tgt := 2) dX4_lies_48 (by decide) ?_
          exact x_subl [(0, .ref 37), (1, .int x), (2, .int (nI (c + 1)))] (List.forall_mem_cons.mpr ⟨rfl, List.forall_mem_cons.mpr ⟨rfl, List.forall_mem_cons.mpr ⟨rfl, fun _ hz => absurd hz List.not_mem_nil⟩⟩⟩) (x_heap (by simp [dlT, *]) (ih (c + 1) (by omega) (by omega)))
        · refine x_iconst Γ (v := 1) dX4_lies_37 rfl ?_
          refine x_goto Γ (tgt := 42) dX4_lies_38 (by decide) ?_
          refine x_callVv Γ calv_X4_makes wl_X4_50 dX4_lies_42 (m_X4_makes (c := c) (w := 5) (by omega) (by decide) _) rfl (by decide) (by decide) rfl rfl rfl rfl (Nat.le_of_ble_eq_true rfl) (Nat.le_refl _) (Nat.le_refl _) ?_
          refine x_iinc Γ dX4_lies_45 rfl (by first | exact zinc _ | rfl) (by decide) ?_
          refine x_goto Γ (tgt := 2) dX4_lies_48 (by decide) ?_
          exact x_subl [(0, .ref 37), (1, .int x), (2, .int (nI (c + 1)))] (List.forall_mem_cons.mpr ⟨rfl, List.forall_mem_cons.mpr ⟨rfl, List.forall_mem_cons.mpr ⟨rfl, fun _ hz => absurd hz List.not_mem_nil⟩⟩⟩) (x_heap (by simp [dlT, *]) (ih (c + 1) (by omega) (by omega)))
      · refine x_iconst Γ (v := 0) dX4_lies_24 rfl ?_
        refine x_goto Γ (tgt := 42) dX4_lies_25 (by decide) ?_
        refine x_callVv Γ calv_X4_makes wl_X4_50 dX4_lies_42 (m_X4_makes (c := c) (w := 5) (by omega) (by decide) _) rfl (by decide) (by decide) rfl rfl rfl rfl (Nat.le_of_ble_eq_true rfl) (Nat.le_refl _) (Nat.le_refl _) ?_
        refine x_iinc Γ dX4_lies_45 rfl (by first | exact zinc _ | rfl) (by decide) ?_
        refine x_goto Γ (tgt := 2) dX4_lies_48 (by decide) ?_
        exact x_subl [(0, .ref 37), (1, .int x), (2, .int (nI (c + 1)))] (List.forall_mem_cons.mpr ⟨rfl, List.forall_mem_cons.mpr ⟨rfl, List.forall_mem_cons.mpr ⟨rfl, fun _ hz => absurd hz List.not_mem_nil⟩⟩⟩) (x_heap (by simp [dlT, *]) (ih (c + 1) (by omega) (by omega)))


set_option maxRecDepth 100000 in
set_option maxHeartbeats 4000000 in
theorem m_X4_aWeek {g : Nat → zE} {T R : zT} {N : Nat} (hN : wN T N) (hL : wL T) : zM 5 M_X4_aWeek [.ref 37] (hR g T R) 46 (some (.int (nI (wkN T N)))) (hR g (wkT T N) R) 46 0 0 := by
  refine zM.intro (by decide) (Nat.le_of_ble_eq_true rfl) ?_
  intro Wf V m H0 Γ ρ
  replace Γ : zC Wf V m 3 H0 cX4_aWeek RX4 5 0 0 := Γ
  show zX Wf V m 3 H0 0 (zls [(0, .ref 37)]) [] (hR g T R) 46 0 0
  have hN2 := hN.2
  refine x_aload_n Γ dX4_aWeek_0 rfl ?_
  refine x_callVv Γ calv_X4_drawsTokens wl_X4_143 dX4_aWeek_1 (m_X4_drawsTokens (g := g) (T := T) (R := R) hN hL) rfl (by decide) (by decide) rfl rfl rfl rfl (Nat.le_of_ble_eq_true rfl) (Nat.le_refl _) (Nat.le_refl _) ?_
  refine x_aload_n Γ dX4_aWeek_4 rfl ?_
  refine x_callV Γ calv_X4_opens wl_X4_120 dX4_aWeek_5 (m_X4_opens (g := g) (T := wkT1 T N) (R := R) (wk1_N hN)) rfl (by decide) (by decide) rfl rfl rfl rfl (Nat.le_of_ble_eq_true rfl) (Nat.le_refl _) (Nat.le_refl _) ?_
  refine x_istore_n Γ dX4_aWeek_8 (by decide) ?_
  refine x_aload_n Γ dX4_aWeek_9 rfl ?_
  refine x_callVv Γ calv_X4_eatAndSee wl_X4_146 dX4_aWeek_10 (m_X4_eatAndSee (g := g) (T := wkT2 T N) (R := R) (wk2_N hN)) rfl (by decide) (by decide) rfl rfl rfl rfl (Nat.le_of_ble_eq_true rfl) (Nat.le_refl _) (Nat.le_refl _) ?_
  refine x_aload_n Γ dX4_aWeek_13 rfl ?_
  refine x_callV Γ calv_X4_hungry wl_X4_102 dX4_aWeek_14 (m_X4_hungry (g := g) (T := eaT (wkT2 T N) N) (R := R) (eaT_N (wk2_N hN) N)) rfl (by decide) (by decide) rfl rfl rfl rfl (Nat.le_of_ble_eq_true rfl) (Nat.le_refl _) (Nat.le_refl _) ?_
  refine x_callS Γ cals_X4_many wl_X4_136 dX4_aWeek_17 (m_X4_many (hunW (eaT (wkT2 T N) N) N)) rfl (by decide) rfl (Nat.le_of_ble_eq_true rfl) (Nat.le_refl _) (Nat.le_refl _) ?_
  refine x_aload_n Γ dX4_aWeek_20 rfl ?_
  refine gf_X4_9 Γ dX4_aWeek_21 (by decide) rfl rfl ?_
  refine x_iconst Γ (v := 2) dX4_aWeek_24 rfl ?_
  refine x_iald Γ dX4_aWeek_25 (by decide) (by rfl) (j := 2) rfl (by decide) (by decide) (mr_s (by decide)) ?_
  refine x_icmp_lt Γ (tgt := 76) dX4_aWeek_26 (by decide) (fun c_1 => ?_) (fun c_1 => ?_)
  · have hb := Int32.not_le.mpr c_1
    refine x_heap (h' := hR g (wkT3 T N) R) (by rw [wkT3, mrT]; first | rw [if_pos hb] | rw [if_neg hb]) ?_
    refine x_aload_n Γ dX4_aWeek_76 rfl ?_
    refine gf_X4_9 Γ dX4_aWeek_77 (by decide) rfl rfl ?_
    refine x_iconst Γ (v := 3) dX4_aWeek_80 rfl ?_
    refine x_aload_n Γ dX4_aWeek_81 rfl ?_
    refine x_callV Γ calv_X4_draw wl_X4_140 dX4_aWeek_82 (m_X4_draw (g := g) (T := wkT3 T N) (R := R)) rfl (by decide) (by decide) rfl rfl rfl rfl (Nat.le_of_ble_eq_true rfl) (Nat.le_refl _) (Nat.le_refl _) ?_
    refine x_iconst Γ (v := 4) dX4_aWeek_85 rfl ?_
    refine x_irem Γ dX4_aWeek_86 (by decide) ?_
    refine x_iast Γ dX4_aWeek_87 (by decide) (by rfl) (j := 3) rfl (by decide) (by decide) (hR_ms (by decide)) ?_
    refine x_iconst Γ (v := 0) dX4_aWeek_88 rfl ?_
    refine x_istore_n Γ dX4_aWeek_89 (by decide) ?_
    suffices L_90 : ∀ (k c : Nat), c ≤ N → N - c < k → zX Wf V m 3 H0 90 (zls [(0, .ref 37), (1, .int (nI (wkN T N))), (2, .int (nI c))]) [] (hR g (clT (ts (drT (wkT3 T N)) 7 3 (zrem (zdr (wkT3 T N 7 7)) 4)) c) R) 46 0 0 by
      exact x_subl [(0, .ref 37), (1, .int (nI (wkN T N))), (2, .int (nI 0))] (List.forall_mem_cons.mpr ⟨rfl, List.forall_mem_cons.mpr ⟨rfl, List.forall_mem_cons.mpr ⟨rfl, fun _ hz => absurd hz List.not_mem_nil⟩⟩⟩) (x_heap (rfl) (L_90 (N + 1) 0 (by omega) (by omega)))
    intro k
    induction k with
    | zero => intro c h1 h2; omega
    | succ k ih =>
      intro c h1 h2
      refine x_iload_n Γ dX4_aWeek_90 rfl ?_
      refine x_aload_n Γ dX4_aWeek_91 rfl ?_
      refine gf_X4_9 Γ dX4_aWeek_92 (by decide) rfl rfl ?_
      refine x_bipush Γ (v := 8) dX4_aWeek_95 rfl ?_
      refine x_iald Γ dX4_aWeek_97 (by decide) (by rfl) (j := 8) rfl (by decide) (by decide) (mr_s (by decide)) ?_
      refine x_icmp_ge Γ (tgt := 114) dX4_aWeek_98 (by decide) (fun c_2 => ?_) (fun c_2 => ?_)
      · rw [clT_n _ _ (by decide), ts_i (by decide), drT_7 (by decide), (wk3_N hN).1] at c_2
        have c_2 := z_le c_2 (by omega) (by omega)
        obtain rfl : N = c := by omega
        refine x_aload_n Γ dX4_aWeek_114 rfl ?_
        refine gf_X4_9 Γ dX4_aWeek_115 (by decide) rfl rfl ?_
        refine x_iconst Γ (v := 5) dX4_aWeek_118 rfl ?_
        refine x_dup2 Γ dX4_aWeek_119 rfl rfl ?_
        refine x_iald Γ dX4_aWeek_120 (by decide) (by rfl) (j := 5) rfl (by decide) (by decide) (mr_s (by decide)) ?_
        refine x_iconst Γ (v := 1) dX4_aWeek_121 rfl ?_
        refine x_iadd Γ dX4_aWeek_122 ?_
        refine x_iast Γ dX4_aWeek_123 (by decide) (by rfl) (j := 5) rfl (by decide) (by decide) (hR_ms (by decide)) ?_
        refine x_iload_n Γ dX4_aWeek_124 rfl ?_
        exact x_iret ρ rfl dX4_aWeek_125 rfl (rfl) rfl (zH.rf)
      · rw [clT_n _ _ (by decide), ts_i (by decide), drT_7 (by decide), (wk3_N hN).1] at c_2
        have c_2 := z_nle c_2 (by omega) (by omega)
        refine x_aload_n Γ dX4_aWeek_101 rfl ?_
        refine x_iload_n Γ dX4_aWeek_102 rfl ?_
        refine x_iconst Γ (v := 5) dX4_aWeek_103 rfl ?_
        refine x_iconst Γ (v := 0) dX4_aWeek_104 rfl ?_
        refine x_callVv Γ calv_X4_makes wl_X4_50 dX4_aWeek_105 (m_X4_makes (c := c) (w := 5) (by omega) (by decide) _) rfl (by decide) (by decide) rfl rfl rfl rfl (Nat.le_of_ble_eq_true rfl) (Nat.le_refl _) (Nat.le_refl _) ?_
        refine x_iinc Γ dX4_aWeek_108 rfl (by first | exact zinc _ | rfl) (by decide) ?_
        refine x_goto Γ (tgt := 90) dX4_aWeek_111 (by decide) ?_
        exact x_subl [(0, .ref 37), (1, .int (nI (wkN T N))), (2, .int (nI (c + 1)))] (List.forall_mem_cons.mpr ⟨rfl, List.forall_mem_cons.mpr ⟨rfl, List.forall_mem_cons.mpr ⟨rfl, fun _ hz => absurd hz List.not_mem_nil⟩⟩⟩) (x_heap (rfl) (ih (c + 1) (by omega) (by omega)))
  · have hb := Int32.not_lt.mp c_1
    refine x_aload_n Γ dX4_aWeek_29 rfl ?_
    refine gf_X4_9 Γ dX4_aWeek_30 (by decide) rfl rfl ?_
    refine x_bipush Γ (v := 6) dX4_aWeek_33 rfl ?_
    refine x_dup2 Γ dX4_aWeek_35 rfl rfl ?_
    refine x_iald Γ dX4_aWeek_36 (by decide) (by rfl) (j := 6) rfl (by decide) (by decide) (mr_s (by decide)) ?_
    refine x_iconst Γ (v := 1) dX4_aWeek_37 rfl ?_
    refine x_iadd Γ dX4_aWeek_38 ?_
    refine x_iast Γ dX4_aWeek_39 (by decide) (by rfl) (j := 6) rfl (by decide) (by decide) (hR_ms (by decide)) ?_
    refine x_iconst Γ (v := 0) dX4_aWeek_40 rfl ?_
    refine x_istore_n Γ dX4_aWeek_41 (by decide) ?_
    suffices L_42 : ∀ (k c : Nat), c ≤ N → N - c < k → zX Wf V m 3 H0 42 (zls [(0, .ref 37), (1, .int (nI (wkN T N))), (2, .int (nI c))]) [] (hR g (rio (ts (eaT (wkT2 T N) N) 7 6 ((eaT (wkT2 T N) N) 7 6 + 1)) c) R) 46 0 0 by
      exact x_subl [(0, .ref 37), (1, .int (nI (wkN T N))), (2, .int (nI 0))] (List.forall_mem_cons.mpr ⟨rfl, List.forall_mem_cons.mpr ⟨rfl, List.forall_mem_cons.mpr ⟨rfl, fun _ hz => absurd hz List.not_mem_nil⟩⟩⟩) (x_heap (rfl) (L_42 (N + 1) 0 (by omega) (by omega)))
    intro k
    induction k with
    | zero => intro c h1 h2; omega
    | succ k ih =>
      intro c h1 h2
      refine x_iload_n Γ dX4_aWeek_42 rfl ?_
      refine x_aload_n Γ dX4_aWeek_43 rfl ?_
      refine gf_X4_9 Γ dX4_aWeek_44 (by decide) rfl rfl ?_
      refine x_bipush Γ (v := 8) dX4_aWeek_47 rfl ?_
      refine x_iald Γ dX4_aWeek_49 (by decide) (by rfl) (j := 8) rfl (by decide) (by decide) (mr_s (by decide)) ?_
      refine x_icmp_ge Γ (tgt := 76) dX4_aWeek_50 (by decide) (fun c_3 => ?_) (fun c_3 => ?_)
      · rw [rio_n _ _ (by decide), ts_i (by decide), (eaT_N (wk2_N hN) N).1] at c_3
        have c_3 := z_le c_3 (by omega) (by omega)
        obtain rfl : N = c := by omega
        refine x_heap (h' := hR g (wkT3 T N) R) (by rw [wkT3, mrT]; first | rw [if_pos hb] | rw [if_neg hb]) ?_
        refine x_aload_n Γ dX4_aWeek_76 rfl ?_
        refine gf_X4_9 Γ dX4_aWeek_77 (by decide) rfl rfl ?_
        refine x_iconst Γ (v := 3) dX4_aWeek_80 rfl ?_
        refine x_aload_n Γ dX4_aWeek_81 rfl ?_
        refine x_callV Γ calv_X4_draw wl_X4_140 dX4_aWeek_82 (m_X4_draw (g := g) (T := wkT3 T N) (R := R)) rfl (by decide) (by decide) rfl rfl rfl rfl (Nat.le_of_ble_eq_true rfl) (Nat.le_refl _) (Nat.le_refl _) ?_
        refine x_iconst Γ (v := 4) dX4_aWeek_85 rfl ?_
        refine x_irem Γ dX4_aWeek_86 (by decide) ?_
        refine x_iast Γ dX4_aWeek_87 (by decide) (by rfl) (j := 3) rfl (by decide) (by decide) (hR_ms (by decide)) ?_
        refine x_iconst Γ (v := 0) dX4_aWeek_88 rfl ?_
        refine x_istore_n Γ dX4_aWeek_89 (by decide) ?_
        suffices L_90 : ∀ (k c : Nat), c ≤ N → N - c < k → zX Wf V m 3 H0 90 (zls [(0, .ref 37), (1, .int (nI (wkN T N))), (2, .int (nI c))]) [] (hR g (clT (ts (drT (wkT3 T N)) 7 3 (zrem (zdr (wkT3 T N 7 7)) 4)) c) R) 46 0 0 by
          exact x_subl [(0, .ref 37), (1, .int (nI (wkN T N))), (2, .int (nI 0))] (List.forall_mem_cons.mpr ⟨rfl, List.forall_mem_cons.mpr ⟨rfl, List.forall_mem_cons.mpr ⟨rfl, fun _ hz => absurd hz List.not_mem_nil⟩⟩⟩) (x_heap (rfl) (L_90 (N + 1) 0 (by omega) (by omega)))
        intro k
        induction k with
        | zero => intro c h1 h2; omega
        | succ k ih =>
          intro c h1 h2
          refine x_iload_n Γ dX4_aWeek_90 rfl ?_
          refine x_aload_n Γ dX4_aWeek_91 rfl ?_
          refine gf_X4_9 Γ dX4_aWeek_92 (by decide) rfl rfl ?_
          refine x_bipush Γ (v := 8) dX4_aWeek_95 rfl ?_
          refine x_iald Γ dX4_aWeek_97 (by decide) (by rfl) (j := 8) rfl (by decide) (by decide) (mr_s (by decide)) ?_
          refine x_icmp_ge Γ (tgt := 114) dX4_aWeek_98 (by decide) (fun c_4 => ?_) (fun c_4 => ?_)
          · rw [clT_n _ _ (by decide), ts_i (by decide), drT_7 (by decide), (wk3_N hN).1] at c_4
            have c_4 := z_le c_4 (by omega) (by omega)
            obtain rfl : N = c := by omega
            refine x_aload_n Γ dX4_aWeek_114 rfl ?_
            refine gf_X4_9 Γ dX4_aWeek_115 (by decide) rfl rfl ?_
            refine x_iconst Γ (v := 5) dX4_aWeek_118 rfl ?_
            refine x_dup2 Γ dX4_aWeek_119 rfl rfl ?_
            refine x_iald Γ dX4_aWeek_120 (by decide) (by rfl) (j := 5) rfl (by decide) (by decide) (mr_s (by decide)) ?_
            refine x_iconst Γ (v := 1) dX4_aWeek_121 rfl ?_
            refine x_iadd Γ dX4_aWeek_122 ?_
            refine x_iast Γ dX4_aWeek_123 (by decide) (by rfl) (j := 5) rfl (by decide) (by decide) (hR_ms (by decide)) ?_
            refine x_iload_n Γ dX4_aWeek_124 rfl ?_
            exact x_iret ρ rfl dX4_aWeek_125 rfl (rfl) rfl (zH.rf)
          · rw [clT_n _ _ (by decide), ts_i (by decide), drT_7 (by decide), (wk3_N hN).1] at c_4
            have c_4 := z_nle c_4 (by omega) (by omega)
            refine x_aload_n Γ dX4_aWeek_101 rfl ?_
            refine x_iload_n Γ dX4_aWeek_102 rfl ?_
            refine x_iconst Γ (v := 5) dX4_aWeek_103 rfl ?_
            refine x_iconst Γ (v := 0) dX4_aWeek_104 rfl ?_
            refine x_callVv Γ calv_X4_makes wl_X4_50 dX4_aWeek_105 (m_X4_makes (c := c) (w := 5) (by omega) (by decide) _) rfl (by decide) (by decide) rfl rfl rfl rfl (Nat.le_of_ble_eq_true rfl) (Nat.le_refl _) (Nat.le_refl _) ?_
            refine x_iinc Γ dX4_aWeek_108 rfl (by first | exact zinc _ | rfl) (by decide) ?_
            refine x_goto Γ (tgt := 90) dX4_aWeek_111 (by decide) ?_
            exact x_subl [(0, .ref 37), (1, .int (nI (wkN T N))), (2, .int (nI (c + 1)))] (List.forall_mem_cons.mpr ⟨rfl, List.forall_mem_cons.mpr ⟨rfl, List.forall_mem_cons.mpr ⟨rfl, fun _ hz => absurd hz List.not_mem_nil⟩⟩⟩) (x_heap (rfl) (ih (c + 1) (by omega) (by omega)))
      · rw [rio_n _ _ (by decide), ts_i (by decide), (eaT_N (wk2_N hN) N).1] at c_3
        have c_3 := z_nle c_3 (by omega) (by omega)
        refine x_aload_n Γ dX4_aWeek_53 rfl ?_
        refine x_iload_n Γ dX4_aWeek_54 rfl ?_
        refine x_iconst Γ (v := 1) dX4_aWeek_55 rfl ?_
        refine x_callV Γ calv_X4_is wl_X4_63 dX4_aWeek_56 (m_X4_is (g := g) (T := rio (ts (eaT (wkT2 T N) N) 7 6 ((eaT (wkT2 T N) N) 7 6 + 1)) c) (R := R) (c := c) (w := 1) (by omega) (by decide)) rfl (by decide) (by decide) rfl rfl rfl rfl (Nat.le_of_ble_eq_true rfl) (Nat.le_refl _) (Nat.le_refl _) ?_
        refine x_iconst Γ (v := 5) dX4_aWeek_59 rfl ?_
        refine x_icmp_le Γ (tgt := 70) dX4_aWeek_60 (by decide) (fun c_5 => ?_) (fun c_5 => ?_)
        · refine x_iinc Γ dX4_aWeek_70 rfl (by first | exact zinc _ | rfl) (by decide) ?_
          refine x_goto Γ (tgt := 42) dX4_aWeek_73 (by decide) ?_
          exact x_subl [(0, .ref 37), (1, .int (nI (wkN T N))), (2, .int (nI (c + 1)))] (List.forall_mem_cons.mpr ⟨rfl, List.forall_mem_cons.mpr ⟨rfl, List.forall_mem_cons.mpr ⟨rfl, fun _ hz => absurd hz List.not_mem_nil⟩⟩⟩) (x_heap (by first | (rw [rio, if_pos (Int32.not_le.mp (by assumption))]; done) | (rw [rio, if_neg (Int32.not_lt.mpr (by assumption)), ts_self])) (ih (c + 1) (by omega) (by omega)))
        · refine x_aload_n Γ dX4_aWeek_63 rfl ?_
          refine x_iload_n Γ dX4_aWeek_64 rfl ?_
          refine x_iconst Γ (v := 1) dX4_aWeek_65 rfl ?_
          refine x_iconst Γ (v := 5) dX4_aWeek_66 rfl ?_
          refine x_callVv Γ calv_X4_makes wl_X4_50 dX4_aWeek_67 (m_X4_makes (c := c) (w := 1) (by omega) (by decide) _) rfl (by decide) (by decide) rfl rfl rfl rfl (Nat.le_of_ble_eq_true rfl) (Nat.le_refl _) (Nat.le_refl _) ?_
          refine x_iinc Γ dX4_aWeek_70 rfl (by first | exact zinc _ | rfl) (by decide) ?_
          refine x_goto Γ (tgt := 42) dX4_aWeek_73 (by decide) ?_
          exact x_subl [(0, .ref 37), (1, .int (nI (wkN T N))), (2, .int (nI (c + 1)))] (List.forall_mem_cons.mpr ⟨rfl, List.forall_mem_cons.mpr ⟨rfl, List.forall_mem_cons.mpr ⟨rfl, fun _ hz => absurd hz List.not_mem_nil⟩⟩⟩) (x_heap (by first | (rw [rio, if_pos (Int32.not_le.mp (by assumption))]; done) | (rw [rio, if_neg (Int32.not_lt.mpr (by assumption)), ts_self])) (ih (c + 1) (by omega) (by omega)))

theorem wk_L {T : zT} {N : Nat} (h : wL T) : wL (wkT T N) := wL_of (by rw [wkT, wk4_7 (by decide) (by decide) (by decide), wkT3, mrT_7 _ _ _ (by decide), eaT_n _ _ (by decide) (by decide), wkT2, ogS_n _ _ _ (by decide), wkT1, dtk_7 _ _ (by decide)]) (by rw [wkT, wk4_7 (by decide) (by decide) (by decide), wkT3, mrT_7 _ _ _ (by decide), eaT_n _ _ (by decide) (by decide), wkT2, ogS_n _ _ _ (by decide), wkT1, dtk_7 _ _ (by decide)]) h
theorem wks_L {T : zT} {N : Nat} (h : wL T) : ∀ k, wL (wks N k T) := by
  intro k
  induction k with
  | zero => exact h
  | succ k ih => exact wk_L ih

set_option maxRecDepth 100000 in
set_option maxHeartbeats 4000000 in
theorem m_X4_goes {g : Nat → zE} {T R : zT} {N : Nat} (hN : wN T N) (hL : wL T) {K : Nat} (hK : K ≤ 60) : zM 6 M_X4_goes [.ref 37, .int (nI K)] (hR g T R) 46 (some (.int (wkc N T K))) (hR g (wks N K T) R) 46 0 0 := by
  refine zM.intro (by decide) (Nat.le_of_ble_eq_true rfl) ?_
  intro Wf V m H0 Γ ρ
  replace Γ : zC Wf V m 4 H0 cX4_goes RX4 6 0 0 := Γ
  show zX Wf V m 4 H0 0 (zls [(0, .ref 37), (1, .int (nI K))]) [] (hR g T R) 46 0 0
  have hN2 := hN.2
  refine x_iconst Γ (v := 0) dX4_goes_0 rfl ?_
  refine x_istore_n Γ dX4_goes_1 (by decide) ?_
  refine x_iconst Γ (v := 0) dX4_goes_2 rfl ?_
  refine x_istore_n Γ dX4_goes_3 (by decide) ?_
  suffices L_4 : ∀ (k c : Nat), c ≤ K → K - c < k → zX Wf V m 4 H0 4 (zls [(0, .ref 37), (1, .int (nI K)), (2, .int (wkc N T c)), (3, .int (nI c))]) [] (hR g (wks N c T) R) 46 0 0 by
    exact x_subl [(0, .ref 37), (1, .int (nI K)), (2, .int (wkc N T 0)), (3, .int (nI 0))] (List.forall_mem_cons.mpr ⟨rfl, List.forall_mem_cons.mpr ⟨rfl, List.forall_mem_cons.mpr ⟨rfl, List.forall_mem_cons.mpr ⟨rfl, fun _ hz => absurd hz List.not_mem_nil⟩⟩⟩⟩) (x_heap (rfl) (L_4 (K + 1) 0 (by omega) (by omega)))
  intro k
  induction k with
  | zero => intro c h1 h2; omega
  | succ k ih =>
    intro c h1 h2
    refine x_iload_n Γ dX4_goes_4 rfl ?_
    refine x_iload_n Γ dX4_goes_5 rfl ?_
    refine x_icmp_ge Γ (tgt := 22) dX4_goes_6 (by decide) (fun c_1 => ?_) (fun c_1 => ?_)
    · have c_1 := z_le c_1 (by omega) (by omega)
      obtain rfl : c = K := by omega
      refine x_iload_n Γ dX4_goes_22 rfl ?_
      exact x_iret ρ rfl dX4_goes_23 rfl (rfl) rfl (zH.rf)
    · have c_1 := z_nle c_1 (by omega) (by omega)
      refine x_iload_n Γ dX4_goes_9 rfl ?_
      refine x_aload_n Γ dX4_goes_10 rfl ?_
      refine x_callV Γ calv_X4_aWeek wl_X4_149 dX4_goes_11 (m_X4_aWeek (g := g) (T := wks N c T) (R := R) (wks_N hN c) (wks_L hL c)) rfl (by decide) (by decide) rfl rfl rfl rfl (Nat.le_of_ble_eq_true rfl) (Nat.le_refl _) (Nat.le_refl _) ?_
      refine x_iadd Γ dX4_goes_14 ?_
      refine x_istore_n Γ dX4_goes_15 (by decide) ?_
      refine x_iinc Γ dX4_goes_16 rfl (by first | exact zinc _ | rfl) (by decide) ?_
      refine x_goto Γ (tgt := 4) dX4_goes_19 (by decide) ?_
      exact x_subl [(0, .ref 37), (1, .int (nI K)), (2, .int (wkc N T (c + 1))), (3, .int (nI (c + 1)))] (List.forall_mem_cons.mpr ⟨rfl, List.forall_mem_cons.mpr ⟨rfl, List.forall_mem_cons.mpr ⟨rfl, List.forall_mem_cons.mpr ⟨rfl, fun _ hz => absurd hz List.not_mem_nil⟩⟩⟩⟩) (x_heap (rfl) (ih (c + 1) (by omega) (by omega)))

def cpK (F G : Nat → Int32) (k : Nat) : Nat → Int32 := fun i => if i < k then F i else G i
theorem cpK_0 {F G : Nat → Int32} : cpK F G 0 = G := by
  funext i
  exact if_neg (Nat.not_lt_zero _)
theorem cpK_s {F G : Nat → Int32} {c : Nat} : upd (cpK F G c) c (F c) = cpK F G (c + 1) := by
  funext i
  by_cases h : i = c
  · subst h
    rw [upd_s]
    exact (if_pos (Nat.lt_succ_self _)).symm
  · rw [upd_n h]
    unfold cpK
    by_cases h2 : i < c
    · rw [if_pos h2, if_pos (by omega)]
    · rw [if_neg h2, if_neg (by omega)]
theorem zup_zup {h : Nat → zE} {q : Nat} {e e' : zE} : zup (zup h q e) q e' = zup h q e' := by
  funext j
  by_cases hj : j = q
  · subst hj; rw [zup_s, zup_s]
  · rw [zup_n hj, zup_n hj, zup_n hj]
theorem zup_self {h : Nat → zE} {q : Nat} {e : zE} (hq : h q = e) : zup h q e = h := by
  funext j
  by_cases hj : j = q
  · subst hj; rw [zup_s, hq]
  · rw [zup_n hj]
theorem zH_zup {h : Nat → zE} {n q N : Nat} {F G : Nat → Int32} (hF : ∀ i, i < N → F i = G i) : zH n (zup h q (zI N F)) (zup h q (zI N G)) := fun j hj => by
  by_cases hjq : j = q
  · subst hjq; rw [zup_s, zup_s]; exact Or.inr ⟨N, F, G, rfl, rfl, hF⟩
  · rw [zup_n hjq, zup_n hjq]; exact Or.inl rfl

set_option maxRecDepth 100000 in
set_option maxHeartbeats 4000000 in
theorem m_X4_row {h h2 : Nat → zE} {p q : Nat} {F G : Nat → Int32} (hp : p < 46) (hq : q < 46) (hpq : p ≠ q) (eF : h p = zI 79 F) (eG : h q = zI 79 G) (hh : zH 46 (zup h q (zI 79 F)) h2) : zM 0 M_X4_row [.ref p, .ref q] (h) 46 (none) (h2) 46 0 0 := by
  refine zM.intro (by decide) (Nat.le_of_ble_eq_true rfl) ?_
  intro Wf V m H0 Γ ρ
  replace Γ : zC Wf V m 3 H0 cX4_row RX4 0 0 0 := Γ
  show zX Wf V m 3 H0 0 (zls [(0, .ref p), (1, .ref q)]) [] (h) 46 0 0
  refine x_iconst Γ (v := 0) dX4_row_0 rfl ?_
  refine x_istore_n Γ dX4_row_1 (by decide) ?_
  suffices L_2 : ∀ (k c : Nat), c ≤ 79 → 79 - c < k → zX Wf V m 3 H0 2 (zls [(0, .ref p), (1, .ref q), (2, .int (nI c))]) [] (zup h q (zI 79 (cpK F G c))) 46 0 0 by
    exact x_subl [(0, .ref p), (1, .ref q), (2, .int (nI 0))] (List.forall_mem_cons.mpr ⟨rfl, List.forall_mem_cons.mpr ⟨rfl, List.forall_mem_cons.mpr ⟨rfl, fun _ hz => absurd hz List.not_mem_nil⟩⟩⟩) (x_heap (by rw [cpK_0, zup_self eG]) (L_2 (79 + 1) 0 (by omega) (by omega)))
  intro k
  induction k with
  | zero => intro c h1 h2; omega
  | succ k ih =>
    intro c h1 h2
    refine x_iload_n Γ dX4_row_2 rfl ?_
    refine x_bipush Γ (v := 79) dX4_row_3 rfl ?_
    refine x_icmp_ge Γ (tgt := 20) dX4_row_5 (by decide) (fun c_1 => ?_) (fun c_1 => ?_)
    · have c_1 := z_le (a := 79) c_1 (by omega) (by omega)
      obtain rfl : c = 79 := by omega
      exact x_vret ρ dX4_row_20 (rfl) rfl ((zH_zup (fun i hi => if_pos hi)).trans hh)
    · have c_1 := z_nle (a := 79) c_1 (by omega) (by omega)
      refine x_aload_n Γ dX4_row_8 rfl ?_
      refine x_iload_n Γ dX4_row_9 rfl ?_
      refine x_aload_n Γ dX4_row_10 rfl ?_
      refine x_iload_n Γ dX4_row_11 rfl ?_
      refine x_iald Γ dX4_row_12 hp ((zup_n hpq).trans eF) rfl (by first | assumption | omega) (by decide) rfl ?_
      refine x_iast Γ dX4_row_13 hq zup_s rfl (by first | assumption | omega) (by decide) (by rw [zup_zup, cpK_s]) ?_
      refine x_iinc Γ dX4_row_14 rfl (by first | exact zinc _ | rfl) (by decide) ?_
      refine x_goto Γ (tgt := 2) dX4_row_17 (by decide) ?_
      exact x_subl [(0, .ref p), (1, .ref q), (2, .int (nI (c + 1)))] (List.forall_mem_cons.mpr ⟨rfl, List.forall_mem_cons.mpr ⟨rfl, List.forall_mem_cons.mpr ⟨rfl, fun _ hz => absurd hz List.not_mem_nil⟩⟩⟩) (x_heap (rfl) (ih (c + 1) (by omega) (by omega)))
