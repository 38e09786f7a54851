set_option maxRecDepth 100000 in
set_option maxHeartbeats 4000000 in
theorem m_X4_firstWanting {g : Nat → zE} {T R : zT} {N : Nat} (hN : wN T N) (t : Int32) : zM 3 M_X4_firstWanting [.ref 37, .int t] (hR g T R) 46 (some (.int (fwI (fwA T t N 0)))) (hR g T R) 46 0 0 := by
  refine zM.intro (by decide) (Nat.le_of_ble_eq_true rfl) ?_
  intro Wf V m H0 Γ ρ
  replace Γ : zC Wf V m 3 H0 cX4_firstWanting RX4 3 0 0 := Γ
  show zX Wf V m 3 H0 0 (zls [(0, .ref 37), (1, .int t)]) [] (hR g T R) 46 0 0
  have hN2 := hN.2
  refine x_iconst Γ (v := 0) dX4_firstWanting_0 rfl ?_
  refine x_istore_n Γ dX4_firstWanting_1 (by decide) ?_
  suffices L_2 : ∀ (f k c : Nat), k < f → c + k = N → fwA T t k c = fwA T t N 0 → zX Wf V m 3 H0 2 (zls [(0, .ref 37), (1, .int t), (2, .int (nI c))]) [] (hR g T R) 46 0 0 by
    exact x_subl [(0, .ref 37), (1, .int t), (2, .int (nI 0))] (List.forall_mem_cons.mpr ⟨rfl, List.forall_mem_cons.mpr ⟨rfl, List.forall_mem_cons.mpr ⟨rfl, fun _ hz => absurd hz List.not_mem_nil⟩⟩⟩) (L_2 (N + 1) N 0 (by omega) (by omega) rfl)
  intro f
  induction f with
  | zero => intro k c h1; omega
  | succ f ih =>
    intro k c h1 h2 h3
    refine x_iload_n Γ dX4_firstWanting_2 rfl ?_
    refine x_aload_n Γ dX4_firstWanting_3 rfl ?_
    refine gf_X4_9 Γ dX4_firstWanting_4 (by decide) rfl rfl ?_
    refine x_bipush Γ (v := 8) dX4_firstWanting_7 rfl ?_
    refine x_iald Γ dX4_firstWanting_9 (by decide) (by rfl) (j := 8) rfl (by decide) (by decide) (mr_s (by decide)) ?_
    refine x_icmp_ge Γ (tgt := 39) dX4_firstWanting_10 (by decide) (fun c_1 => ?_) (fun c_1 => ?_)
    · rw [hN.1] at c_1
      have c_1 := z_le c_1 (by omega) (by omega)
      obtain rfl : k = 0 := by omega
      refine x_iconst Γ (v := -1) dX4_firstWanting_39 rfl ?_
      exact x_iret ρ rfl dX4_firstWanting_40 rfl (by rw [← h3]; rfl) rfl (zH.rf)
    · rw [hN.1] at c_1
      have c_1 := z_nle c_1 (by omega) (by omega)
      obtain ⟨k1, rfl⟩ : ∃ k1, k = k1 + 1 := ⟨k - 1, by omega⟩
      refine x_aload_n Γ dX4_firstWanting_13 rfl ?_
      refine x_iload_n Γ dX4_firstWanting_14 rfl ?_
      refine x_iconst Γ (v := 5) dX4_firstWanting_15 rfl ?_
      refine x_callV Γ calv_X4_is wl_X4_63 dX4_firstWanting_16 (m_X4_is (g := g) (T := T) (R := R) (c := c) (w := 5) (by omega) (by decide)) rfl (by decide) (by decide) rfl rfl rfl rfl (Nat.le_of_ble_eq_true rfl) (Nat.le_refl _) (Nat.le_refl _) ?_
      refine x_iload_n Γ dX4_firstWanting_19 rfl ?_
      refine x_icmp_ne Γ (tgt := 33) dX4_firstWanting_20 (by decide) (fun c_2 => ?_) (fun c_2 => ?_)
      · have h4 := h3
        rw [fwA, if_neg (fun z => c_2 z.1)] at h4
        refine x_iinc Γ dX4_firstWanting_33 rfl (by first | exact zinc _ | rfl) (by decide) ?_
        refine x_goto Γ (tgt := 2) dX4_firstWanting_36 (by decide) ?_
        exact x_subl [(0, .ref 37), (1, .int t), (2, .int (nI (c + 1)))] (List.forall_mem_cons.mpr ⟨rfl, List.forall_mem_cons.mpr ⟨rfl, List.forall_mem_cons.mpr ⟨rfl, fun _ hz => absurd hz List.not_mem_nil⟩⟩⟩) (ih k1 (c + 1) (by omega) (by omega) h4)
      · have htk := c_2
        refine x_aload_n Γ dX4_firstWanting_23 rfl ?_
        refine x_iload_n Γ dX4_firstWanting_24 rfl ?_
        refine x_callV Γ calv_X4_wantsOther wl_X4_110 dX4_firstWanting_25 (m_X4_wantsOther (g := g) (T := T) (R := R) (c := c) (by omega)) rfl (by decide) (by decide) rfl rfl rfl rfl (Nat.le_of_ble_eq_true rfl) (Nat.le_refl _) (Nat.le_refl _) ?_
        refine x_if_eq Γ (tgt := 33) dX4_firstWanting_28 (by decide) (fun c_3 => ?_) (fun c_3 => ?_)
        · have c_3 := zb_0.mp c_3
          have h4 := h3
          rw [fwA, if_neg (fun z => by rw [c_3] at z; cases z.2)] at h4
          refine x_iinc Γ dX4_firstWanting_33 rfl (by first | exact zinc _ | rfl) (by decide) ?_
          refine x_goto Γ (tgt := 2) dX4_firstWanting_36 (by decide) ?_
          exact x_subl [(0, .ref 37), (1, .int t), (2, .int (nI (c + 1)))] (List.forall_mem_cons.mpr ⟨rfl, List.forall_mem_cons.mpr ⟨rfl, List.forall_mem_cons.mpr ⟨rfl, fun _ hz => absurd hz List.not_mem_nil⟩⟩⟩) (ih k1 (c + 1) (by omega) (by omega) h4)
        · have c_3 := zb_n0.mp c_3
          have h4 := h3
          rw [fwA, if_pos ⟨htk, c_3⟩] at h4
          refine x_iload_n Γ dX4_firstWanting_31 rfl ?_
          exact x_iret ρ rfl dX4_firstWanting_32 rfl (by rw [← h4]; rfl) rfl (zH.rf)

set_option maxRecDepth 100000 in
set_option maxHeartbeats 4000000 in
theorem m_X4_opens {g : Nat → zE} {T R : zT} {N : Nat} (hN : wN T N) : zM 4 M_X4_opens [.ref 37] (hR g T R) 46 (some (.int (nI (ogS T N N).2.2))) (hR g (ogS T N N).1 R) 46 0 0 := by
  refine zM.intro (by decide) (Nat.le_of_ble_eq_true rfl) ?_
  intro Wf V m H0 Γ ρ
  replace Γ : zC Wf V m 4 H0 cX4_opens RX4 4 0 0 := Γ
  show zX Wf V m 4 H0 0 (zls [(0, .ref 37)]) [] (hR g T R) 46 0 0
  have hN2 := hN.2
  refine x_iconst Γ (v := 0) dX4_opens_0 rfl ?_
  refine x_istore_n Γ dX4_opens_1 (by decide) ?_
  refine x_aload_n Γ dX4_opens_2 rfl ?_
  refine x_iconst Γ (v := 1) dX4_opens_3 rfl ?_
  refine x_callV Γ calv_X4_firstWanting wl_X4_117 dX4_opens_4 (m_X4_firstWanting (g := g) (T := T) (R := R) hN 1) rfl (by decide) (by decide) rfl rfl rfl rfl (Nat.le_of_ble_eq_true rfl) (Nat.le_refl _) (Nat.le_refl _) ?_
  refine x_istore_n Γ dX4_opens_7 (by decide) ?_
  refine x_aload_n Γ dX4_opens_8 rfl ?_
  refine x_iconst Γ (v := 2) dX4_opens_9 rfl ?_
  refine x_callV Γ calv_X4_firstWanting wl_X4_117 dX4_opens_10 (m_X4_firstWanting (g := g) (T := T) (R := R) hN 2) rfl (by decide) (by decide) rfl rfl rfl rfl (Nat.le_of_ble_eq_true rfl) (Nat.le_refl _) (Nat.le_refl _) ?_
  refine x_istore_n Γ dX4_opens_13 (by decide) ?_
  suffices L_14 : ∀ (f k n : Nat) (U : zT), k < f → wN U N → (opn N k U).1 < k → (opn N k U).1 + n = (ogS T N N).2.2 → (opn N k U).2 = (ogS T N N).1 → zX Wf V m 4 H0 14 (zls [(0, .ref 37), (1, .int (nI n)), (2, .int (fwI (fwA U 1 N 0))), (3, .int (fwI (fwA U 2 N 0)))]) [] (hR g U R) 46 0 0 by
    exact x_subl [(0, .ref 37), (1, .int (nI 0)), (2, .int (fwI (fwA T 1 N 0))), (3, .int (fwI (fwA T 2 N 0)))] (List.forall_mem_cons.mpr ⟨rfl, List.forall_mem_cons.mpr ⟨rfl, List.forall_mem_cons.mpr ⟨rfl, List.forall_mem_cons.mpr ⟨rfl, fun _ hz => absurd hz List.not_mem_nil⟩⟩⟩⟩) (L_14 (N + 2) (N + 1) 0 T (by omega) hN (by rw [og_opn]; have := (ogS_le T N N).2; dsimp only; omega) (by rw [og_opn]; rfl) (by rw [og_opn]))
  intro f
  induction f with
  | zero => intro k n U h1; omega
  | succ f ih =>
    intro k n U h0 hNU h1 h2 h3
    refine x_iload_n Γ dX4_opens_14 rfl ?_
    refine x_if_lt Γ (tgt := 46) dX4_opens_15 (by decide) (fun c_1 => ?_) (fun c_1 => ?_)
    · have h4 := fwI_n c_1 (fun i hi => by have := fwA_some hi; omega)
      rw [opn_a h4] at h2 h3
      refine x_iload_n Γ dX4_opens_46 rfl ?_
      exact x_iret ρ rfl dX4_opens_47 rfl (by rw [← h2]; simp) rfl (by rw [← h3]; exact zH.rf)
    · obtain ⟨a, ea⟩ := fwI_s c_1
      have la := (fwA_some ea).2.1
      refine x_iload_n Γ dX4_opens_18 rfl ?_
      refine x_if_lt Γ (tgt := 46) dX4_opens_19 (by decide) (fun c_2 => ?_) (fun c_2 => ?_)
      · have h4 := fwI_n c_2 (fun i hi => by have := fwA_some hi; omega)
        rw [opn_b h4] at h2 h3
        refine x_iload_n Γ dX4_opens_46 rfl ?_
        exact x_iret ρ rfl dX4_opens_47 rfl (by rw [← h2]; simp) rfl (by rw [← h3]; exact zH.rf)
      · obtain ⟨b, eb⟩ := fwI_s c_2
        have lb := (fwA_some eb).2.1
        obtain ⟨k1, rfl⟩ : ∃ k1, k = k1 + 1 := ⟨k - 1, by omega⟩
        rw [opn_1 ea eb] at h1 h2 h3
        dsimp only at h1 h2 h3
        rw [ea, eb]
        refine x_aload_n Γ dX4_opens_22 rfl ?_
        refine x_iload_n Γ dX4_opens_23 rfl ?_
        refine x_iload_n Γ dX4_opens_24 rfl ?_
        refine x_callVv Γ calv_X4_changeTokens wl_X4_113 dX4_opens_25 (m_X4_changeTokens (g := g) (T := U) (R := R) (x := a) (y := b) (by omega) (by omega)) rfl (by decide) (by decide) rfl rfl rfl rfl (Nat.le_of_ble_eq_true rfl) (Nat.le_refl _) (Nat.le_refl _) ?_
        refine x_iinc Γ dX4_opens_28 rfl (by first | exact zinc _ | rfl) (by decide) ?_
        refine x_aload_n Γ dX4_opens_31 rfl ?_
        refine x_iconst Γ (v := 1) dX4_opens_32 rfl ?_
        refine x_callV Γ calv_X4_firstWanting wl_X4_117 dX4_opens_33 (m_X4_firstWanting (g := g) (T := exT U a b) (R := R) (wN_of (by rw [exT_n (by decide)]) hNU) 1) rfl (by decide) (by decide) rfl rfl rfl rfl (Nat.le_of_ble_eq_true rfl) (Nat.le_refl _) (Nat.le_refl _) ?_
        refine x_istore_n Γ dX4_opens_36 (by decide) ?_
        refine x_aload_n Γ dX4_opens_37 rfl ?_
        refine x_iconst Γ (v := 2) dX4_opens_38 rfl ?_
        refine x_callV Γ calv_X4_firstWanting wl_X4_117 dX4_opens_39 (m_X4_firstWanting (g := g) (T := exT U a b) (R := R) (wN_of (by rw [exT_n (by decide)]) hNU) 2) rfl (by decide) (by decide) rfl rfl rfl rfl (Nat.le_of_ble_eq_true rfl) (Nat.le_refl _) (Nat.le_refl _) ?_
        refine x_istore_n Γ dX4_opens_42 (by decide) ?_
        refine x_goto Γ (tgt := 14) dX4_opens_43 (by decide) ?_
        exact x_subl [(0, .ref 37), (1, .int (nI (n + 1))), (2, .int (fwI (fwA (exT U a b) 1 N 0))), (3, .int (fwI (fwA (exT U a b) 2 N 0)))] (List.forall_mem_cons.mpr ⟨rfl, List.forall_mem_cons.mpr ⟨rfl, List.forall_mem_cons.mpr ⟨rfl, List.forall_mem_cons.mpr ⟨rfl, fun _ hz => absurd hz List.not_mem_nil⟩⟩⟩⟩) (ih k1 (n + 1) (exT U a b) (by omega) (wN_of (by rw [exT_n (by decide)]) hNU) (by omega) (by omega) h3)

set_option maxRecDepth 100000 in
set_option maxHeartbeats 4000000 in
theorem m_X4_drawsTokens {g : Nat → zE} {T R : zT} {N : Nat} (hN : wN T N) (hL : wL T) : zM 1 M_X4_drawsTokens [.ref 37] (hR g T R) 46 (none) (hR g (dtk T N).1 R) 46 0 0 := by
  refine zM.intro (by decide) (Nat.le_of_ble_eq_true rfl) ?_
  intro Wf V m H0 Γ ρ
  replace Γ : zC Wf V m 6 H0 cX4_drawsTokens RX4 1 0 0 := Γ
  show zX Wf V m 6 H0 0 (zls [(0, .ref 37)]) [] (hR g T R) 46 0 0
  have hN2 := hN.2
  refine x_aload_n Γ dX4_drawsTokens_0 rfl ?_
  refine gf_X4_9 Γ dX4_drawsTokens_1 (by decide) rfl rfl ?_
  refine x_iconst Γ (v := 0) dX4_drawsTokens_4 rfl ?_
  refine x_iald Γ dX4_drawsTokens_5 (by decide) (by rfl) (j := 0) rfl (by decide) (by decide) (mr_s (by decide)) ?_
  refine x_istore_n Γ dX4_drawsTokens_6 (by decide) ?_
  refine x_aload_n Γ dX4_drawsTokens_7 rfl ?_
  refine gf_X4_9 Γ dX4_drawsTokens_8 (by decide) rfl rfl ?_
  refine x_iconst Γ (v := 1) dX4_drawsTokens_11 rfl ?_
  refine x_iald Γ dX4_drawsTokens_12 (by decide) (by rfl) (j := 1) rfl (by decide) (by decide) (mr_s (by decide)) ?_
  refine x_istore_n Γ dX4_drawsTokens_13 (by decide) ?_
  refine x_iconst Γ (v := 0) dX4_drawsTokens_14 rfl ?_
  refine x_istore_n Γ dX4_drawsTokens_15 (by decide) ?_
  suffices L_16 : ∀ (k c : Nat), c ≤ N → N - c < k → zX Wf V m 6 H0 16 (zls [(0, .ref 37), (1, .int (dtk T c).2.1), (2, .int (dtk T c).2.2), (3, .int (nI c))]) [] (hR g (dtk T c).1 R) 46 0 0 by
    exact x_subl [(0, .ref 37), (1, .int (dtk T 0).2.1), (2, .int (dtk T 0).2.2), (3, .int (nI 0))] (List.forall_mem_cons.mpr ⟨rfl, List.forall_mem_cons.mpr ⟨rfl, List.forall_mem_cons.mpr ⟨rfl, List.forall_mem_cons.mpr ⟨rfl, fun _ hz => absurd hz List.not_mem_nil⟩⟩⟩⟩) (x_heap (rfl) (L_16 (N + 1) 0 (by omega) (by omega)))
  intro k
  induction k with
  | zero => intro c h1 h2; omega
  | succ k ih =>
    intro c h1 h2
    refine x_iload_n Γ dX4_drawsTokens_16 rfl ?_
    refine x_aload_n Γ dX4_drawsTokens_17 rfl ?_
    refine gf_X4_9 Γ dX4_drawsTokens_18 (by decide) rfl rfl ?_
    refine x_bipush Γ (v := 8) dX4_drawsTokens_21 rfl ?_
    refine x_iald Γ dX4_drawsTokens_23 (by decide) (by rfl) (j := 8) rfl (by decide) (by decide) (mr_s (by decide)) ?_
    refine x_icmp_ge Γ (tgt := 122) dX4_drawsTokens_24 (by decide) (fun c_1 => ?_) (fun c_1 => ?_)
    · rw [dtk_7 _ _ (by decide), hN.1] at c_1
      have c_1 := z_le c_1 (by omega) (by omega)
      obtain rfl : N = c := by omega
      exact x_vret ρ dX4_drawsTokens_122 (rfl) rfl (zH.rf)
    · rw [dtk_7 _ _ (by decide), hN.1] at c_1
      have c_1 := z_nle c_1 (by omega) (by omega)
      refine x_iload_n Γ dX4_drawsTokens_27 rfl ?_
      refine x_iload_n Γ dX4_drawsTokens_28 rfl ?_
      refine x_iadd Γ dX4_drawsTokens_29 ?_
      refine x_istore Γ dX4_drawsTokens_30 (by decide) ?_
      refine x_iload Γ dX4_drawsTokens_32 rfl ?_
      refine x_if_le Γ (tgt := 52) dX4_drawsTokens_34 (by decide) (fun c_2 => ?_) (fun c_2 => ?_)
      · have hz0 := dtk_z hL c c_2
        have hG := dtk_A (T := T) (c := c) (by rw [hz0]; decide)
        refine x_iconst Γ (v := 0) dX4_drawsTokens_52 rfl ?_
        refine x_istore Γ dX4_drawsTokens_53 (by decide) ?_
        refine x_aload_n Γ dX4_drawsTokens_55 rfl ?_
        refine x_iload_n Γ dX4_drawsTokens_56 rfl ?_
        refine x_iconst Γ (v := 5) dX4_drawsTokens_57 rfl ?_
        refine x_iload Γ dX4_drawsTokens_58 rfl ?_
        refine x_if_ne Γ (tgt := 67) dX4_drawsTokens_60 (by decide) (fun c_3 => ?_) (fun c_3 => ?_)
        · exact absurd hz0 c_3
        · refine x_iconst Γ (v := 0) dX4_drawsTokens_63 rfl ?_
          refine x_goto Γ (tgt := 77) dX4_drawsTokens_64 (by decide) ?_
          refine x_callVv Γ calv_X4_makes wl_X4_50 dX4_drawsTokens_77 (m_X4_makes (c := c) (w := 5) (by omega) (by decide) _) rfl (by decide) (by decide) rfl rfl rfl rfl (Nat.le_of_ble_eq_true rfl) (Nat.le_refl _) (Nat.le_refl _) ?_
          refine x_iload_n Γ dX4_drawsTokens_80 rfl ?_
          refine x_iload Γ dX4_drawsTokens_81 rfl ?_
          refine x_if_le Γ (tgt := 95) dX4_drawsTokens_83 (by decide) (fun c_4 => ?_) (fun c_4 => ?_)
          · refine x_iconst Γ (v := 0) dX4_drawsTokens_95 rfl ?_
            refine x_isub Γ dX4_drawsTokens_96 ?_
            refine x_istore_n Γ dX4_drawsTokens_97 (by decide) ?_
            refine x_iload_n Γ dX4_drawsTokens_98 rfl ?_
            refine x_iload Γ dX4_drawsTokens_99 rfl ?_
            refine x_if_le Γ (tgt := 113) dX4_drawsTokens_101 (by decide) (fun c_5 => ?_) (fun c_5 => ?_)
            · refine x_iconst Γ (v := 0) dX4_drawsTokens_113 rfl ?_
              refine x_isub Γ dX4_drawsTokens_114 ?_
              refine x_istore_n Γ dX4_drawsTokens_115 (by decide) ?_
              refine x_iinc Γ dX4_drawsTokens_116 rfl (by first | exact zinc _ | rfl) (by decide) ?_
              refine x_goto Γ (tgt := 16) dX4_drawsTokens_119 (by decide) ?_
              exact x_subl [(0, .ref 37), (1, .int (dtk T (c + 1)).2.1), (2, .int (dtk T (c + 1)).2.2), (3, .int (nI (c + 1)))] (List.forall_mem_cons.mpr ⟨rfl, List.forall_mem_cons.mpr ⟨zsi (by rw [p_21 hG]; simp [Int32.sub_eq_add_neg]), List.forall_mem_cons.mpr ⟨zsi (by rw [p_22 hG]; simp [Int32.sub_eq_add_neg]), List.forall_mem_cons.mpr ⟨rfl, fun _ hz => absurd hz List.not_mem_nil⟩⟩⟩⟩) (x_heap (by rw [p_1 hG]) (ih (c + 1) (by omega) (by omega)))
            · exact absurd (by rw [hz0]; decide) c_5
          · exact absurd (by rw [hz0]; decide) c_4
      · have hnl := c_2
        have h00 := Int32.not_le.mp c_2
        have hnz : ¬ (dtk T c).2.1 + (dtk T c).2.2 = 0 := fun z => c_2 (by rw [z]; decide)
        refine x_aload_n Γ dX4_drawsTokens_37 rfl ?_
        refine x_callV Γ calv_X4_draw wl_X4_140 dX4_drawsTokens_38 (m_X4_draw (g := g) (T := (dtk T c).1) (R := R)) rfl (by decide) (by decide) rfl rfl rfl rfl (Nat.le_of_ble_eq_true rfl) (Nat.le_refl _) (Nat.le_refl _) ?_
        refine x_iload Γ dX4_drawsTokens_41 rfl ?_
        refine x_irem Γ dX4_drawsTokens_43 (hnz) ?_
        refine x_iload_n Γ dX4_drawsTokens_44 rfl ?_
        refine x_icmp_ge Γ (tgt := 52) dX4_drawsTokens_45 (by decide) (fun c_6 => ?_) (fun c_6 => ?_)
        · have hG := dtk_B h00 c_6
          refine x_iconst Γ (v := 0) dX4_drawsTokens_52 rfl ?_
          refine x_istore Γ dX4_drawsTokens_53 (by decide) ?_
          refine x_aload_n Γ dX4_drawsTokens_55 rfl ?_
          refine x_iload_n Γ dX4_drawsTokens_56 rfl ?_
          refine x_iconst Γ (v := 5) dX4_drawsTokens_57 rfl ?_
          refine x_iload Γ dX4_drawsTokens_58 rfl ?_
          refine x_if_ne Γ (tgt := 67) dX4_drawsTokens_60 (by decide) (fun c_7 => ?_) (fun c_7 => ?_)
          · refine x_iload Γ dX4_drawsTokens_67 rfl ?_
            refine x_if_eq Γ (tgt := 76) dX4_drawsTokens_69 (by decide) (fun c_8 => ?_) (fun c_8 => ?_)
            · refine x_iconst Γ (v := 2) dX4_drawsTokens_76 rfl ?_
              refine x_callVv Γ calv_X4_makes wl_X4_50 dX4_drawsTokens_77 (m_X4_makes (c := c) (w := 5) (by omega) (by decide) _) rfl (by decide) (by decide) rfl rfl rfl rfl (Nat.le_of_ble_eq_true rfl) (Nat.le_refl _) (Nat.le_refl _) ?_
              refine x_iload_n Γ dX4_drawsTokens_80 rfl ?_
              refine x_iload Γ dX4_drawsTokens_81 rfl ?_
              refine x_if_le Γ (tgt := 95) dX4_drawsTokens_83 (by decide) (fun c_9 => ?_) (fun c_9 => ?_)
              · exact absurd c_9 hnl
              · refine x_iload Γ dX4_drawsTokens_86 rfl ?_
                refine x_if_eq Γ (tgt := 95) dX4_drawsTokens_88 (by decide) (fun c_10 => ?_) (fun c_10 => ?_)
                · refine x_iconst Γ (v := 0) dX4_drawsTokens_95 rfl ?_
                  refine x_isub Γ dX4_drawsTokens_96 ?_
                  refine x_istore_n Γ dX4_drawsTokens_97 (by decide) ?_
                  refine x_iload_n Γ dX4_drawsTokens_98 rfl ?_
                  refine x_iload Γ dX4_drawsTokens_99 rfl ?_
                  refine x_if_le Γ (tgt := 113) dX4_drawsTokens_101 (by decide) (fun c_11 => ?_) (fun c_11 => ?_)
                  · exact absurd c_11 hnl
                  · refine x_iload Γ dX4_drawsTokens_104 rfl ?_
                    refine x_if_ne Γ (tgt := 113) dX4_drawsTokens_106 (by decide) (fun c_12 => ?_) (fun c_12 => ?_)
                    · exact absurd rfl c_12
                    · refine x_iconst Γ (v := 1) dX4_drawsTokens_109 rfl ?_
                      refine x_goto Γ (tgt := 114) dX4_drawsTokens_110 (by decide) ?_
                      refine x_isub Γ dX4_drawsTokens_114 ?_
                      refine x_istore_n Γ dX4_drawsTokens_115 (by decide) ?_
                      refine x_iinc Γ dX4_drawsTokens_116 rfl (by first | exact zinc _ | rfl) (by decide) ?_
                      refine x_goto Γ (tgt := 16) dX4_drawsTokens_119 (by decide) ?_
                      exact x_subl [(0, .ref 37), (1, .int (dtk T (c + 1)).2.1), (2, .int (dtk T (c + 1)).2.2), (3, .int (nI (c + 1)))] (List.forall_mem_cons.mpr ⟨rfl, List.forall_mem_cons.mpr ⟨zsi (by rw [p_21 hG]; simp [Int32.sub_eq_add_neg]), List.forall_mem_cons.mpr ⟨zsi (by rw [p_22 hG]; simp [Int32.sub_eq_add_neg]), List.forall_mem_cons.mpr ⟨rfl, fun _ hz => absurd hz List.not_mem_nil⟩⟩⟩⟩) (x_heap (by rw [p_1 hG]) (ih (c + 1) (by omega) (by omega)))
                · exact absurd rfl c_10
            · exact absurd rfl c_8
          · exact absurd c_7 hnz
        · have hG := dtk_C h00 c_6
          refine x_iconst Γ (v := 1) dX4_drawsTokens_48 rfl ?_
          refine x_goto Γ (tgt := 53) dX4_drawsTokens_49 (by decide) ?_
          refine x_istore Γ dX4_drawsTokens_53 (by decide) ?_
          refine x_aload_n Γ dX4_drawsTokens_55 rfl ?_
          refine x_iload_n Γ dX4_drawsTokens_56 rfl ?_
          refine x_iconst Γ (v := 5) dX4_drawsTokens_57 rfl ?_
          refine x_iload Γ dX4_drawsTokens_58 rfl ?_
          refine x_if_ne Γ (tgt := 67) dX4_drawsTokens_60 (by decide) (fun c_13 => ?_) (fun c_13 => ?_)
          · refine x_iload Γ dX4_drawsTokens_67 rfl ?_
            refine x_if_eq Γ (tgt := 76) dX4_drawsTokens_69 (by decide) (fun c_14 => ?_) (fun c_14 => ?_)
            · exact absurd c_14 (by decide)
            · refine x_iconst Γ (v := 1) dX4_drawsTokens_72 rfl ?_
              refine x_goto Γ (tgt := 77) dX4_drawsTokens_73 (by decide) ?_
              refine x_callVv Γ calv_X4_makes wl_X4_50 dX4_drawsTokens_77 (m_X4_makes (c := c) (w := 5) (by omega) (by decide) _) rfl (by decide) (by decide) rfl rfl rfl rfl (Nat.le_of_ble_eq_true rfl) (Nat.le_refl _) (Nat.le_refl _) ?_
              refine x_iload_n Γ dX4_drawsTokens_80 rfl ?_
              refine x_iload Γ dX4_drawsTokens_81 rfl ?_
              refine x_if_le Γ (tgt := 95) dX4_drawsTokens_83 (by decide) (fun c_15 => ?_) (fun c_15 => ?_)
              · exact absurd c_15 hnl
              · refine x_iload Γ dX4_drawsTokens_86 rfl ?_
                refine x_if_eq Γ (tgt := 95) dX4_drawsTokens_88 (by decide) (fun c_16 => ?_) (fun c_16 => ?_)
                · exact absurd c_16 (by decide)
                · refine x_iconst Γ (v := 1) dX4_drawsTokens_91 rfl ?_
                  refine x_goto Γ (tgt := 96) dX4_drawsTokens_92 (by decide) ?_
                  refine x_isub Γ dX4_drawsTokens_96 ?_
                  refine x_istore_n Γ dX4_drawsTokens_97 (by decide) ?_
                  refine x_iload_n Γ dX4_drawsTokens_98 rfl ?_
                  refine x_iload Γ dX4_drawsTokens_99 rfl ?_
                  refine x_if_le Γ (tgt := 113) dX4_drawsTokens_101 (by decide) (fun c_17 => ?_) (fun c_17 => ?_)
                  · exact absurd c_17 hnl
                  · refine x_iload Γ dX4_drawsTokens_104 rfl ?_
                    refine x_if_ne Γ (tgt := 113) dX4_drawsTokens_106 (by decide) (fun c_18 => ?_) (fun c_18 => ?_)
                    · refine x_iconst Γ (v := 0) dX4_drawsTokens_113 rfl ?_
                      refine x_isub Γ dX4_drawsTokens_114 ?_
                      refine x_istore_n Γ dX4_drawsTokens_115 (by decide) ?_
                      refine x_iinc Γ dX4_drawsTokens_116 rfl (by first | exact zinc _ | rfl) (by decide) ?_
                      refine x_goto Γ (tgt := 16) dX4_drawsTokens_119 (by decide) ?_
                      exact x_subl [(0, .ref 37), (1, .int (dtk T (c + 1)).2.1), (2, .int (dtk T (c + 1)).2.2), (3, .int (nI (c + 1)))] (List.forall_mem_cons.mpr ⟨rfl, List.forall_mem_cons.mpr ⟨zsi (by rw [p_21 hG]; simp [Int32.sub_eq_add_neg]), List.forall_mem_cons.mpr ⟨zsi (by rw [p_22 hG]; simp [Int32.sub_eq_add_neg]), List.forall_mem_cons.mpr ⟨rfl, fun _ hz => absurd hz List.not_mem_nil⟩⟩⟩⟩) (x_heap (by rw [p_1 hG]) (ih (c + 1) (by omega) (by omega)))
                    · exact absurd c_18 (by decide)
          · exact absurd c_13 hnz

set_option maxRecDepth 100000 in
set_option maxHeartbeats 4000000 in
theorem m_X4_eatAndSee {g : Nat → zE} {T R : zT} {N : Nat} (hN : wN T N) : zM 2 M_X4_eatAndSee [.ref 37] (hR g T R) 46 (none) (hR g (eaT T N) R) 46 0 0 := by
  refine zM.intro (by decide) (Nat.le_of_ble_eq_true rfl) ?_
  intro Wf V m H0 Γ ρ
  replace Γ : zC Wf V m 4 H0 cX4_eatAndSee RX4 2 0 0 := Γ
  show zX Wf V m 4 H0 0 (zls [(0, .ref 37)]) [] (hR g T R) 46 0 0
  have hN2 := hN.2
  refine x_iconst Γ (v := 0) dX4_eatAndSee_0 rfl ?_
  refine x_istore_n Γ dX4_eatAndSee_1 (by decide) ?_
  suffices L_2 : ∀ (k c : Nat), c ≤ N → N - c < k → zX Wf V m 4 H0 2 (zls [(0, .ref 37), (1, .int (nI c))]) [] (hR g (eaT T c) R) 46 0 0 by
    exact x_subl [(0, .ref 37), (1, .int (nI 0))] (List.forall_mem_cons.mpr ⟨rfl, List.forall_mem_cons.mpr ⟨rfl, fun _ hz => absurd hz List.not_mem_nil⟩⟩) (x_heap (rfl) (L_2 (N + 1) 0 (by omega) (by omega)))
  intro k
  induction k with
  | zero => intro c h1 h2; omega
  | succ k ih =>
    intro c h1 h2
    refine x_iload_n Γ dX4_eatAndSee_2 rfl ?_
    refine x_aload_n Γ dX4_eatAndSee_3 rfl ?_
    refine gf_X4_9 Γ dX4_eatAndSee_4 (by decide) rfl rfl ?_
    refine x_bipush Γ (v := 8) dX4_eatAndSee_7 rfl ?_
    refine x_iald Γ dX4_eatAndSee_9 (by decide) (by rfl) (j := 8) rfl (by decide) (by decide) (mr_s (by decide)) ?_
    refine x_icmp_ge Γ (tgt := 113) dX4_eatAndSee_10 (by decide) (fun c_1 => ?_) (fun c_1 => ?_)
    · rw [eaT_n _ _ (by decide) (by decide), hN.1] at c_1
      have c_1 := z_le c_1 (by omega) (by omega)
      obtain rfl : N = c := by omega
      exact x_vret ρ dX4_eatAndSee_113 (rfl) rfl (zH.rf)
    · rw [eaT_n _ _ (by decide) (by decide), hN.1] at c_1
      have c_1 := z_nle c_1 (by omega) (by omega)
      refine x_aload_n Γ dX4_eatAndSee_13 rfl ?_
      refine x_iload_n Γ dX4_eatAndSee_14 rfl ?_
      refine x_iconst Γ (v := 5) dX4_eatAndSee_15 rfl ?_
      refine x_callV Γ calv_X4_is wl_X4_63 dX4_eatAndSee_16 (m_X4_is (g := g) (T := eaT T c) (R := R) (c := c) (w := 5) (by omega) (by decide)) rfl (by decide) (by decide) rfl rfl rfl rfl (Nat.le_of_ble_eq_true rfl) (Nat.le_refl _) (Nat.le_refl _) ?_
      refine x_istore_n Γ dX4_eatAndSee_19 (by decide) ?_
      refine x_aload_n Γ dX4_eatAndSee_20 rfl ?_
      refine x_iload_n Γ dX4_eatAndSee_21 rfl ?_
      refine x_iconst Γ (v := 1) dX4_eatAndSee_22 rfl ?_
      refine x_callV Γ calv_X4_is wl_X4_63 dX4_eatAndSee_23 (m_X4_is (g := g) (T := eaT T c) (R := R) (c := c) (w := 1) (by omega) (by decide)) rfl (by decide) (by decide) rfl rfl rfl rfl (Nat.le_of_ble_eq_true rfl) (Nat.le_refl _) (Nat.le_refl _) ?_
      refine x_iload_n Γ dX4_eatAndSee_26 rfl ?_
      refine x_iconst Γ (v := 1) dX4_eatAndSee_27 rfl ?_
      refine x_icmp_eq Γ (tgt := 35) dX4_eatAndSee_28 (by decide) (fun c_2 => ?_) (fun c_2 => ?_)
      · have htk1 := c_2
        refine x_aload_n Γ dX4_eatAndSee_35 rfl ?_
        refine gf_X4_9 Γ dX4_eatAndSee_36 (by decide) rfl rfl ?_
        refine x_iconst Γ (v := 4) dX4_eatAndSee_39 rfl ?_
        refine x_iald Γ dX4_eatAndSee_40 (by decide) (by rfl) (j := 4) rfl (by decide) (by decide) (mr_s (by decide)) ?_
        refine x_iconst Γ (v := 1) dX4_eatAndSee_41 rfl ?_
        refine x_icmp_ne Γ (tgt := 50) dX4_eatAndSee_42 (by decide) (fun c_3 => ?_) (fun c_3 => ?_)
        · refine x_bipush Γ (v := -3) dX4_eatAndSee_50 rfl ?_
          refine x_iadd Γ dX4_eatAndSee_52 ?_
          refine x_istore_n Γ dX4_eatAndSee_53 (by decide) ?_
          refine x_aload_n Γ dX4_eatAndSee_54 rfl ?_
          refine x_iload_n Γ dX4_eatAndSee_55 rfl ?_
          refine x_iconst Γ (v := 4) dX4_eatAndSee_56 rfl ?_
          refine x_aload_n Γ dX4_eatAndSee_57 rfl ?_
          refine x_iload_n Γ dX4_eatAndSee_58 rfl ?_
          refine x_iconst Γ (v := 4) dX4_eatAndSee_59 rfl ?_
          refine x_callV Γ calv_X4_is wl_X4_63 dX4_eatAndSee_60 (m_X4_is (g := g) (T := eaT T c) (R := R) (c := c) (w := 4) (by omega) (by decide)) rfl (by decide) (by decide) rfl rfl rfl rfl (Nat.le_of_ble_eq_true rfl) (Nat.le_refl _) (Nat.le_refl _) ?_
          refine x_iload_n Γ dX4_eatAndSee_63 rfl ?_
          refine x_iconst Γ (v := 2) dX4_eatAndSee_64 rfl ?_
          refine x_icmp_ne Γ (tgt := 76) dX4_eatAndSee_65 (by decide) (fun c_4 => ?_) (fun c_4 => ?_)
          · refine x_iconst Γ (v := 0) dX4_eatAndSee_76 rfl ?_
            refine x_iadd Γ dX4_eatAndSee_77 ?_
            refine x_callVv Γ calv_X4_makes wl_X4_50 dX4_eatAndSee_78 (m_X4_makes (c := c) (w := 4) (by omega) (by decide) _) rfl (by decide) (by decide) rfl rfl rfl rfl (Nat.le_of_ble_eq_true rfl) (Nat.le_refl _) (Nat.le_refl _) ?_
            refine x_aload_n Γ dX4_eatAndSee_81 rfl ?_
            refine x_iload_n Γ dX4_eatAndSee_82 rfl ?_
            refine x_iconst Γ (v := 1) dX4_eatAndSee_83 rfl ?_
            refine x_iload_n Γ dX4_eatAndSee_84 rfl ?_
            refine x_if_ge Γ (tgt := 92) dX4_eatAndSee_85 (by decide) (fun c_5 => ?_) (fun c_5 => ?_)
            · refine x_iload_n Γ dX4_eatAndSee_92 rfl ?_
              refine x_bipush Γ (v := 9) dX4_eatAndSee_93 rfl ?_
              refine x_icmp_le Γ (tgt := 103) dX4_eatAndSee_95 (by decide) (fun c_6 => ?_) (fun c_6 => ?_)
              · refine x_iload_n Γ dX4_eatAndSee_103 rfl ?_
                refine x_callVv Γ calv_X4_makes wl_X4_50 dX4_eatAndSee_104 (m_X4_makes (c := c) (w := 1) (by omega) (by decide) _) rfl (by decide) (by decide) rfl rfl rfl rfl (Nat.le_of_ble_eq_true rfl) (Nat.le_refl _) (Nat.le_refl _) ?_
                refine x_iinc Γ dX4_eatAndSee_107 rfl (by first | exact zinc _ | rfl) (by decide) ?_
                refine x_goto Γ (tgt := 2) dX4_eatAndSee_110 (by decide) ?_
                exact x_subl [(0, .ref 37), (1, .int (nI (c + 1)))] (List.forall_mem_cons.mpr ⟨rfl, List.forall_mem_cons.mpr ⟨rfl, fun _ hz => absurd hz List.not_mem_nil⟩⟩) (x_heap (by rw [eaT, ts_comm (by decide)]; simp [eaH, eaJ, *]) (ih (c + 1) (by omega) (by omega)))
              · refine x_bipush Γ (v := 9) dX4_eatAndSee_98 rfl ?_
                refine x_goto Γ (tgt := 104) dX4_eatAndSee_100 (by decide) ?_
                refine x_callVv Γ calv_X4_makes wl_X4_50 dX4_eatAndSee_104 (m_X4_makes (c := c) (w := 1) (by omega) (by decide) _) rfl (by decide) (by decide) rfl rfl rfl rfl (Nat.le_of_ble_eq_true rfl) (Nat.le_refl _) (Nat.le_refl _) ?_
                refine x_iinc Γ dX4_eatAndSee_107 rfl (by first | exact zinc _ | rfl) (by decide) ?_
                refine x_goto Γ (tgt := 2) dX4_eatAndSee_110 (by decide) ?_
                exact x_subl [(0, .ref 37), (1, .int (nI (c + 1)))] (List.forall_mem_cons.mpr ⟨rfl, List.forall_mem_cons.mpr ⟨rfl, fun _ hz => absurd hz List.not_mem_nil⟩⟩) (x_heap (by rw [eaT, ts_comm (by decide)]; simp [eaH, eaJ, *]) (ih (c + 1) (by omega) (by omega)))
            · refine x_iconst Γ (v := 0) dX4_eatAndSee_88 rfl ?_
              refine x_goto Γ (tgt := 104) dX4_eatAndSee_89 (by decide) ?_
              refine x_callVv Γ calv_X4_makes wl_X4_50 dX4_eatAndSee_104 (m_X4_makes (c := c) (w := 1) (by omega) (by decide) _) rfl (by decide) (by decide) rfl rfl rfl rfl (Nat.le_of_ble_eq_true rfl) (Nat.le_refl _) (Nat.le_refl _) ?_
              refine x_iinc Γ dX4_eatAndSee_107 rfl (by first | exact zinc _ | rfl) (by decide) ?_
              refine x_goto Γ (tgt := 2) dX4_eatAndSee_110 (by decide) ?_
              exact x_subl [(0, .ref 37), (1, .int (nI (c + 1)))] (List.forall_mem_cons.mpr ⟨rfl, List.forall_mem_cons.mpr ⟨rfl, fun _ hz => absurd hz List.not_mem_nil⟩⟩) (x_heap (by rw [eaT, ts_comm (by decide)]; simp [eaH, eaJ, *]) (ih (c + 1) (by omega) (by omega)))
          · exact absurd (htk1.symm.trans c_4) i12
        · refine x_bipush Γ (v := -2) dX4_eatAndSee_45 rfl ?_
          refine x_goto Γ (tgt := 52) dX4_eatAndSee_47 (by decide) ?_
          refine x_iadd Γ dX4_eatAndSee_52 ?_
          refine x_istore_n Γ dX4_eatAndSee_53 (by decide) ?_
          refine x_aload_n Γ dX4_eatAndSee_54 rfl ?_
          refine x_iload_n Γ dX4_eatAndSee_55 rfl ?_
          refine x_iconst Γ (v := 4) dX4_eatAndSee_56 rfl ?_
          refine x_aload_n Γ dX4_eatAndSee_57 rfl ?_
          refine x_iload_n Γ dX4_eatAndSee_58 rfl ?_
          refine x_iconst Γ (v := 4) dX4_eatAndSee_59 rfl ?_
          refine x_callV Γ calv_X4_is wl_X4_63 dX4_eatAndSee_60 (m_X4_is (g := g) (T := eaT T c) (R := R) (c := c) (w := 4) (by omega) (by decide)) rfl (by decide) (by decide) rfl rfl rfl rfl (Nat.le_of_ble_eq_true rfl) (Nat.le_refl _) (Nat.le_refl _) ?_
          refine x_iload_n Γ dX4_eatAndSee_63 rfl ?_
          refine x_iconst Γ (v := 2) dX4_eatAndSee_64 rfl ?_
          refine x_icmp_ne Γ (tgt := 76) dX4_eatAndSee_65 (by decide) (fun c_7 => ?_) (fun c_7 => ?_)
          · refine x_iconst Γ (v := 0) dX4_eatAndSee_76 rfl ?_
            refine x_iadd Γ dX4_eatAndSee_77 ?_
            refine x_callVv Γ calv_X4_makes wl_X4_50 dX4_eatAndSee_78 (m_X4_makes (c := c) (w := 4) (by omega) (by decide) _) rfl (by decide) (by decide) rfl rfl rfl rfl (Nat.le_of_ble_eq_true rfl) (Nat.le_refl _) (Nat.le_refl _) ?_
            refine x_aload_n Γ dX4_eatAndSee_81 rfl ?_
            refine x_iload_n Γ dX4_eatAndSee_82 rfl ?_
            refine x_iconst Γ (v := 1) dX4_eatAndSee_83 rfl ?_
            refine x_iload_n Γ dX4_eatAndSee_84 rfl ?_
            refine x_if_ge Γ (tgt := 92) dX4_eatAndSee_85 (by decide) (fun c_8 => ?_) (fun c_8 => ?_)
            · refine x_iload_n Γ dX4_eatAndSee_92 rfl ?_
              refine x_bipush Γ (v := 9) dX4_eatAndSee_93 rfl ?_
              refine x_icmp_le Γ (tgt := 103) dX4_eatAndSee_95 (by decide) (fun c_9 => ?_) (fun c_9 => ?_)
              · refine x_iload_n Γ dX4_eatAndSee_103 rfl ?_
                refine x_callVv Γ calv_X4_makes wl_X4_50 dX4_eatAndSee_104 (m_X4_makes (c := c) (w := 1) (by omega) (by decide) _) rfl (by decide) (by decide) rfl rfl rfl rfl (Nat.le_of_ble_eq_true rfl) (Nat.le_refl _) (Nat.le_refl _) ?_
                refine x_iinc Γ dX4_eatAndSee_107 rfl (by first | exact zinc _ | rfl) (by decide) ?_
                refine x_goto Γ (tgt := 2) dX4_eatAndSee_110 (by decide) ?_
                exact x_subl [(0, .ref 37), (1, .int (nI (c + 1)))] (List.forall_mem_cons.mpr ⟨rfl, List.forall_mem_cons.mpr ⟨rfl, fun _ hz => absurd hz List.not_mem_nil⟩⟩) (x_heap (by rw [eaT, ts_comm (by decide)]; simp [eaH, eaJ, *]) (ih (c + 1) (by omega) (by omega)))
              · refine x_bipush Γ (v := 9) dX4_eatAndSee_98 rfl ?_
                refine x_goto Γ (tgt := 104) dX4_eatAndSee_100 (by decide) ?_
                refine x_callVv Γ calv_X4_makes wl_X4_50 dX4_eatAndSee_104 (m_X4_makes (c := c) (w := 1) (by omega) (by decide) _) rfl (by decide) (by decide) rfl rfl rfl rfl (Nat.le_of_ble_eq_true rfl) (Nat.le_refl _) (Nat.le_refl _) ?_
                refine x_iinc Γ dX4_eatAndSee_107 rfl (by first | exact zinc _ | rfl) (by decide) ?_
                refine x_goto Γ (tgt := 2) dX4_eatAndSee_110 (by decide) ?_
                exact x_subl [(0, .ref 37), (1, .int (nI (c + 1)))] (List.forall_mem_cons.mpr ⟨rfl, List.forall_mem_cons.mpr ⟨rfl, fun _ hz => absurd hz List.not_mem_nil⟩⟩) (x_heap (by rw [eaT, ts_comm (by decide)]; simp [eaH, eaJ, *]) (ih (c + 1) (by omega) (by omega)))
            · refine x_iconst Γ (v := 0) dX4_eatAndSee_88 rfl ?_
              refine x_goto Γ (tgt := 104) dX4_eatAndSee_89 (by decide) ?_
              refine x_callVv Γ calv_X4_makes wl_X4_50 dX4_eatAndSee_104 (m_X4_makes (c := c) (w := 1) (by omega) (by decide) _) rfl (by decide) (by decide) rfl rfl rfl rfl (Nat.le_of_ble_eq_true rfl) (Nat.le_refl _) (Nat.le_refl _) ?_
              refine x_iinc Γ dX4_eatAndSee_107 rfl (by first | exact zinc _ | rfl) (by decide) ?_
              refine x_goto Γ (tgt := 2) dX4_eatAndSee_110 (by decide) ?_
              exact x_subl [(0, .ref 37), (1, .int (nI (c + 1)))] (List.forall_mem_cons.mpr ⟨rfl, List.forall_mem_cons.mpr ⟨rfl, fun _ hz => absurd hz List.not_mem_nil⟩⟩) (x_heap (by rw [eaT, ts_comm (by decide)]; simp [eaH, eaJ, *]) (ih (c + 1) (by omega) (by omega)))
          · exact absurd (htk1.symm.trans c_7) i12
      · refine x_iconst Γ (v := 1) dX4_eatAndSee_31 rfl ?_
        refine x_goto Γ (tgt := 52) dX4_eatAndSee_32 (by decide) ?_
        refine x_iadd Γ dX4_eatAndSee_52 ?_
        refine x_istore_n Γ dX4_eatAndSee_53 (by decide) ?_
        refine x_aload_n Γ dX4_eatAndSee_54 rfl ?_
        refine x_iload_n Γ dX4_eatAndSee_55 rfl ?_
        refine x_iconst Γ (v := 4) dX4_eatAndSee_56 rfl ?_
        refine x_aload_n Γ dX4_eatAndSee_57 rfl ?_
        refine x_iload_n Γ dX4_eatAndSee_58 rfl ?_
        refine x_iconst Γ (v := 4) dX4_eatAndSee_59 rfl ?_
        refine x_callV Γ calv_X4_is wl_X4_63 dX4_eatAndSee_60 (m_X4_is (g := g) (T := eaT T c) (R := R) (c := c) (w := 4) (by omega) (by decide)) rfl (by decide) (by decide) rfl rfl rfl rfl (Nat.le_of_ble_eq_true rfl) (Nat.le_refl _) (Nat.le_refl _) ?_
        refine x_iload_n Γ dX4_eatAndSee_63 rfl ?_
        refine x_iconst Γ (v := 2) dX4_eatAndSee_64 rfl ?_
        refine x_icmp_ne Γ (tgt := 76) dX4_eatAndSee_65 (by decide) (fun c_10 => ?_) (fun c_10 => ?_)
        · refine x_iconst Γ (v := 0) dX4_eatAndSee_76 rfl ?_
          refine x_iadd Γ dX4_eatAndSee_77 ?_
          refine x_callVv Γ calv_X4_makes wl_X4_50 dX4_eatAndSee_78 (m_X4_makes (c := c) (w := 4) (by omega) (by decide) _) rfl (by decide) (by decide) rfl rfl rfl rfl (Nat.le_of_ble_eq_true rfl) (Nat.le_refl _) (Nat.le_refl _) ?_
          refine x_aload_n Γ dX4_eatAndSee_81 rfl ?_
          refine x_iload_n Γ dX4_eatAndSee_82 rfl ?_
          refine x_iconst Γ (v := 1) dX4_eatAndSee_83 rfl ?_
          refine x_iload_n Γ dX4_eatAndSee_84 rfl ?_
          refine x_if_ge Γ (tgt := 92) dX4_eatAndSee_85 (by decide) (fun c_11 => ?_) (fun c_11 => ?_)
          · refine x_iload_n Γ dX4_eatAndSee_92 rfl ?_
            refine x_bipush Γ (v := 9) dX4_eatAndSee_93 rfl ?_
            refine x_icmp_le Γ (tgt := 103) dX4_eatAndSee_95 (by decide) (fun c_12 => ?_) (fun c_12 => ?_)
            · refine x_iload_n Γ dX4_eatAndSee_103 rfl ?_
              refine x_callVv Γ calv_X4_makes wl_X4_50 dX4_eatAndSee_104 (m_X4_makes (c := c) (w := 1) (by omega) (by decide) _) rfl (by decide) (by decide) rfl rfl rfl rfl (Nat.le_of_ble_eq_true rfl) (Nat.le_refl _) (Nat.le_refl _) ?_
              refine x_iinc Γ dX4_eatAndSee_107 rfl (by first | exact zinc _ | rfl) (by decide) ?_
              refine x_goto Γ (tgt := 2) dX4_eatAndSee_110 (by decide) ?_
              exact x_subl [(0, .ref 37), (1, .int (nI (c + 1)))] (List.forall_mem_cons.mpr ⟨rfl, List.forall_mem_cons.mpr ⟨rfl, fun _ hz => absurd hz List.not_mem_nil⟩⟩) (x_heap (by rw [eaT, ts_comm (by decide)]; simp [eaH, eaJ, *]) (ih (c + 1) (by omega) (by omega)))
            · refine x_bipush Γ (v := 9) dX4_eatAndSee_98 rfl ?_
              refine x_goto Γ (tgt := 104) dX4_eatAndSee_100 (by decide) ?_
              refine x_callVv Γ calv_X4_makes wl_X4_50 dX4_eatAndSee_104 (m_X4_makes (c := c) (w := 1) (by omega) (by decide) _) rfl (by decide) (by decide) rfl rfl rfl rfl (Nat.le_of_ble_eq_true rfl) (Nat.le_refl _) (Nat.le_refl _) ?_
              refine x_iinc Γ dX4_eatAndSee_107 rfl (by first | exact zinc _ | rfl) (by decide) ?_
              refine x_goto Γ (tgt := 2) dX4_eatAndSee_110 (by decide) ?_
              exact x_subl [(0, .ref 37), (1, .int (nI (c + 1)))] (List.forall_mem_cons.mpr ⟨rfl, List.forall_mem_cons.mpr ⟨rfl, fun _ hz => absurd hz List.not_mem_nil⟩⟩) (x_heap (by rw [eaT, ts_comm (by decide)]; simp [eaH, eaJ, *]) (ih (c + 1) (by omega) (by omega)))
          · refine x_iconst Γ (v := 0) dX4_eatAndSee_88 rfl ?_
            refine x_goto Γ (tgt := 104) dX4_eatAndSee_89 (by decide) ?_
            refine x_callVv Γ calv_X4_makes wl_X4_50 dX4_eatAndSee_104 (m_X4_makes (c := c) (w := 1) (by omega) (by decide) _) rfl (by decide) (by decide) rfl rfl rfl rfl (Nat.le_of_ble_eq_true rfl) (Nat.le_refl _) (Nat.le_refl _) ?_
            refine x_iinc Γ dX4_eatAndSee_107 rfl (by first | exact zinc _ | rfl) (by decide) ?_
            refine x_goto Γ (tgt := 2) dX4_eatAndSee_110 (by decide) ?_
            exact x_subl [(0, .ref 37), (1, .int (nI (c + 1)))] (List.forall_mem_cons.mpr ⟨rfl, List.forall_mem_cons.mpr ⟨rfl, fun _ hz => absurd hz List.not_mem_nil⟩⟩) (x_heap (by rw [eaT, ts_comm (by decide)]; simp [eaH, eaJ, *]) (ih (c + 1) (by omega) (by omega)))
        · refine x_aload_n Γ dX4_eatAndSee_68 rfl ?_
          refine x_iload_n Γ dX4_eatAndSee_69 rfl ?_
          refine x_callV Γ calv_X4_seatWorth wl_X4_75 dX4_eatAndSee_70 (m_X4_seatWorth (g := g) (T := eaT T c) (R := R) (c := c) (by omega)) rfl (by decide) (by decide) rfl rfl rfl rfl (Nat.le_of_ble_eq_true rfl) (Nat.le_refl _) (Nat.le_refl _) ?_
          refine x_goto Γ (tgt := 77) dX4_eatAndSee_73 (by decide) ?_
          refine x_iadd Γ dX4_eatAndSee_77 ?_
          refine x_callVv Γ calv_X4_makes wl_X4_50 dX4_eatAndSee_78 (m_X4_makes (c := c) (w := 4) (by omega) (by decide) _) rfl (by decide) (by decide) rfl rfl rfl rfl (Nat.le_of_ble_eq_true rfl) (Nat.le_refl _) (Nat.le_refl _) ?_
          refine x_aload_n Γ dX4_eatAndSee_81 rfl ?_
          refine x_iload_n Γ dX4_eatAndSee_82 rfl ?_
          refine x_iconst Γ (v := 1) dX4_eatAndSee_83 rfl ?_
          refine x_iload_n Γ dX4_eatAndSee_84 rfl ?_
          refine x_if_ge Γ (tgt := 92) dX4_eatAndSee_85 (by decide) (fun c_13 => ?_) (fun c_13 => ?_)
          · refine x_iload_n Γ dX4_eatAndSee_92 rfl ?_
            refine x_bipush Γ (v := 9) dX4_eatAndSee_93 rfl ?_
            refine x_icmp_le Γ (tgt := 103) dX4_eatAndSee_95 (by decide) (fun c_14 => ?_) (fun c_14 => ?_)
            · refine x_iload_n Γ dX4_eatAndSee_103 rfl ?_
              refine x_callVv Γ calv_X4_makes wl_X4_50 dX4_eatAndSee_104 (m_X4_makes (c := c) (w := 1) (by omega) (by decide) _) rfl (by decide) (by decide) rfl rfl rfl rfl (Nat.le_of_ble_eq_true rfl) (Nat.le_refl _) (Nat.le_refl _) ?_
              refine x_iinc Γ dX4_eatAndSee_107 rfl (by first | exact zinc _ | rfl) (by decide) ?_
              refine x_goto Γ (tgt := 2) dX4_eatAndSee_110 (by decide) ?_
              exact x_subl [(0, .ref 37), (1, .int (nI (c + 1)))] (List.forall_mem_cons.mpr ⟨rfl, List.forall_mem_cons.mpr ⟨rfl, fun _ hz => absurd hz List.not_mem_nil⟩⟩) (x_heap (by rw [eaT, ts_comm (by decide)]; simp [eaH, eaJ, *]) (ih (c + 1) (by omega) (by omega)))
            · refine x_bipush Γ (v := 9) dX4_eatAndSee_98 rfl ?_
              refine x_goto Γ (tgt := 104) dX4_eatAndSee_100 (by decide) ?_
              refine x_callVv Γ calv_X4_makes wl_X4_50 dX4_eatAndSee_104 (m_X4_makes (c := c) (w := 1) (by omega) (by decide) _) rfl (by decide) (by decide) rfl rfl rfl rfl (Nat.le_of_ble_eq_true rfl) (Nat.le_refl _) (Nat.le_refl _) ?_
              refine x_iinc Γ dX4_eatAndSee_107 rfl (by first | exact zinc _ | rfl) (by decide) ?_
              refine x_goto Γ (tgt := 2) dX4_eatAndSee_110 (by decide) ?_
              exact x_subl [(0, .ref 37), (1, .int (nI (c + 1)))] (List.forall_mem_cons.mpr ⟨rfl, List.forall_mem_cons.mpr ⟨rfl, fun _ hz => absurd hz List.not_mem_nil⟩⟩) (x_heap (by rw [eaT, ts_comm (by decide)]; simp [eaH, eaJ, *]) (ih (c + 1) (by omega) (by omega)))
          · refine x_iconst Γ (v := 0) dX4_eatAndSee_88 rfl ?_
            refine x_goto Γ (tgt := 104) dX4_eatAndSee_89 (by decide) ?_
            refine x_callVv Γ calv_X4_makes wl_X4_50 dX4_eatAndSee_104 (m_X4_makes (c := c) (w := 1) (by omega) (by decide) _) rfl (by decide) (by decide) rfl rfl rfl rfl (Nat.le_of_ble_eq_true rfl) (Nat.le_refl _) (Nat.le_refl _) ?_
            refine x_iinc Γ dX4_eatAndSee_107 rfl (by first | exact zinc _ | rfl) (by decide) ?_
            refine x_goto Γ (tgt := 2) dX4_eatAndSee_110 (by decide) ?_
            exact x_subl [(0, .ref 37), (1, .int (nI (c + 1)))] (List.forall_mem_cons.mpr ⟨rfl, List.forall_mem_cons.mpr ⟨rfl, fun _ hz => absurd hz List.not_mem_nil⟩⟩) (x_heap (by rw [eaT, ts_comm (by decide)]; simp [eaH, eaJ, *]) (ih (c + 1) (by omega) (by omega)))

set_option maxRecDepth 100000 in
set_option maxHeartbeats 4000000 in
theorem m_X4_drawing {g : Nat → zE} {T R : zT} : zM 0 M_X4_drawing [.ref 37] (hR g T R) 46 (some (.int (dra T))) (hR g T R) 46 0 0 := by
  refine zM.intro (by decide) (Nat.le_of_ble_eq_true rfl) ?_
  intro Wf V m H0 Γ ρ
  replace Γ : zC Wf V m 2 H0 cX4_drawing RX4 0 0 0 := Γ
  show zX Wf V m 2 H0 0 (zls [(0, .ref 37)]) [] (hR g T R) 46 0 0
  refine x_aload_n Γ dX4_drawing_0 rfl ?_
  refine gf_X4_9 Γ dX4_drawing_1 (by decide) rfl rfl ?_
  refine x_iconst Γ (v := 0) dX4_drawing_4 rfl ?_
  refine x_iald Γ dX4_drawing_5 (by decide) (by rfl) (j := 0) rfl (by decide) (by decide) (mr_s (by decide)) ?_
  refine x_aload_n Γ dX4_drawing_6 rfl ?_
  refine gf_X4_9 Γ dX4_drawing_7 (by decide) rfl rfl ?_
  refine x_iconst Γ (v := 1) dX4_drawing_10 rfl ?_
  refine x_iald Γ dX4_drawing_11 (by decide) (by rfl) (j := 1) rfl (by decide) (by decide) (mr_s (by decide)) ?_
  refine x_iadd Γ dX4_drawing_12 ?_
  refine x_istore_n Γ dX4_drawing_13 (by decide) ?_
  refine x_iload_n Γ dX4_drawing_14 rfl ?_
  refine x_aload_n Γ dX4_drawing_15 rfl ?_
  refine gf_X4_9 Γ dX4_drawing_16 (by decide) rfl rfl ?_
  refine x_bipush Γ (v := 8) dX4_drawing_19 rfl ?_
  refine x_iald Γ dX4_drawing_21 (by decide) (by rfl) (j := 8) rfl (by decide) (by decide) (mr_s (by decide)) ?_
  refine x_icmp_ge Γ (tgt := 29) dX4_drawing_22 (by decide) (fun c_1 => ?_) (fun c_1 => ?_)
  · refine x_aload_n Γ dX4_drawing_29 rfl ?_
    refine gf_X4_9 Γ dX4_drawing_30 (by decide) rfl rfl ?_
    refine x_bipush Γ (v := 8) dX4_drawing_33 rfl ?_
    refine x_iald Γ dX4_drawing_35 (by decide) (by rfl) (j := 8) rfl (by decide) (by decide) (mr_s (by decide)) ?_
    exact x_iret ρ rfl dX4_drawing_36 rfl (by first | (simp [dra, zb, *]; done) | (exfalso; simp_all; done) | (simp [dra, zb, *]; simp only [Int32.lt_iff_toInt_lt, Int32.le_iff_toInt_le, zlt_0, zlt_1, zlt_2, zlt_3, zlt_4, zlt_5, zlt_6, zlt_7, zlt_8, zlt_9, zlt_10, zlt_11, zlt_12, zlt_30, zlt_39, zlt_40, zlt_59, zlt_60, zlt_61, zlt_98, zlt_99, zlt_100, zlt_119, zlt_120, zlt_998, zlt_999, zlt_9998, zlt_9999, zlt_m1] at *; omega)) rfl (zH.rf)
  · refine x_iload_n Γ dX4_drawing_25 rfl ?_
    refine x_goto Γ (tgt := 36) dX4_drawing_26 (by decide) ?_
    exact x_iret ρ rfl dX4_drawing_36 rfl (by first | (simp [dra, zb, *]; done) | (exfalso; simp_all; done) | (simp [dra, zb, *]; simp only [Int32.lt_iff_toInt_lt, Int32.le_iff_toInt_le, zlt_0, zlt_1, zlt_2, zlt_3, zlt_4, zlt_5, zlt_6, zlt_7, zlt_8, zlt_9, zlt_10, zlt_11, zlt_12, zlt_30, zlt_39, zlt_40, zlt_59, zlt_60, zlt_61, zlt_98, zlt_99, zlt_100, zlt_119, zlt_120, zlt_998, zlt_999, zlt_9998, zlt_9999, zlt_m1] at *; omega)) rfl (zH.rf)

set_option maxRecDepth 100000 in
set_option maxHeartbeats 4000000 in
theorem m_X4_isWay {g : Nat → zE} {T R : zT} (x : Int32) : zM 1 M_X4_isWay [.ref 37, .int x] (hR g T R) 46 (some (.int (zb (cdl T x)))) (hR g T R) 46 0 0 := by
  refine zM.intro (by decide) (Nat.le_of_ble_eq_true rfl) ?_
  intro Wf V m H0 Γ ρ
  replace Γ : zC Wf V m 3 H0 cX4_isWay RX4 1 0 0 := Γ
  show zX Wf V m 3 H0 0 (zls [(0, .ref 37), (1, .int x)]) [] (hR g T R) 46 0 0
  refine x_iload_n Γ dX4_isWay_0 rfl ?_
  refine x_callS Γ cals_X4_many wl_X4_136 dX4_isWay_1 (m_X4_many x) rfl (by decide) rfl (Nat.le_of_ble_eq_true rfl) (Nat.le_refl _) (Nat.le_refl _) ?_
  refine x_istore_n Γ dX4_isWay_4 (by decide) ?_
  refine x_iload_n Γ dX4_isWay_5 rfl ?_
  refine x_aload_n Γ dX4_isWay_6 rfl ?_
  refine gf_X4_9 Γ dX4_isWay_7 (by decide) rfl rfl ?_
  refine x_iconst Γ (v := 0) dX4_isWay_10 rfl ?_
  refine x_iald Γ dX4_isWay_11 (by decide) (by rfl) (j := 0) rfl (by decide) (by decide) (mr_s (by decide)) ?_
  refine x_icmp_gt Γ (tgt := 34) dX4_isWay_12 (by decide) (fun c_1 => ?_) (fun c_1 => ?_)
  · refine x_iconst Γ (v := 0) dX4_isWay_34 rfl ?_
    exact x_iret ρ rfl dX4_isWay_35 (by first | exact zb_nz _ | rfl) (by first | (simp [cdl, zb, *]; done) | (exfalso; simp_all; done) | (simp [cdl, zb, *]; simp only [Int32.lt_iff_toInt_lt, Int32.le_iff_toInt_le, zlt_0, zlt_1, zlt_2, zlt_3, zlt_4, zlt_5, zlt_6, zlt_7, zlt_8, zlt_9, zlt_10, zlt_11, zlt_12, zlt_30, zlt_39, zlt_40, zlt_59, zlt_60, zlt_61, zlt_98, zlt_99, zlt_100, zlt_119, zlt_120, zlt_998, zlt_999, zlt_9998, zlt_9999, zlt_m1] at *; omega)) rfl (zH.rf)
  · refine x_aload_n Γ dX4_isWay_15 rfl ?_
    refine x_callV Γ calv_X4_drawing wl_X4_181 dX4_isWay_16 (m_X4_drawing (g := g) (T := T) (R := R)) rfl (by decide) (by decide) rfl rfl rfl rfl (Nat.le_of_ble_eq_true rfl) (Nat.le_refl _) (Nat.le_refl _) ?_
    refine x_iload_n Γ dX4_isWay_19 rfl ?_
    refine x_isub Γ dX4_isWay_20 ?_
    refine x_aload_n Γ dX4_isWay_21 rfl ?_
    refine gf_X4_9 Γ dX4_isWay_22 (by decide) rfl rfl ?_
    refine x_iconst Γ (v := 1) dX4_isWay_25 rfl ?_
    refine x_iald Γ dX4_isWay_26 (by decide) (by rfl) (j := 1) rfl (by decide) (by decide) (mr_s (by decide)) ?_
    refine x_icmp_gt Γ (tgt := 34) dX4_isWay_27 (by decide) (fun c_2 => ?_) (fun c_2 => ?_)
    · refine x_iconst Γ (v := 0) dX4_isWay_34 rfl ?_
      exact x_iret ρ rfl dX4_isWay_35 (by first | exact zb_nz _ | rfl) (by first | (simp [cdl, zb, *]; done) | (exfalso; simp_all; done) | (simp [cdl, zb, *]; simp only [Int32.lt_iff_toInt_lt, Int32.le_iff_toInt_le, zlt_0, zlt_1, zlt_2, zlt_3, zlt_4, zlt_5, zlt_6, zlt_7, zlt_8, zlt_9, zlt_10, zlt_11, zlt_12, zlt_30, zlt_39, zlt_40, zlt_59, zlt_60, zlt_61, zlt_98, zlt_99, zlt_100, zlt_119, zlt_120, zlt_998, zlt_999, zlt_9998, zlt_9999, zlt_m1] at *; omega)) rfl (zH.rf)
    · refine x_iconst Γ (v := 1) dX4_isWay_30 rfl ?_
      refine x_goto Γ (tgt := 35) dX4_isWay_31 (by decide) ?_
      exact x_iret ρ rfl dX4_isWay_35 (by first | exact zb_nz _ | rfl) (by first | (simp [cdl, zb, *]; done) | (exfalso; simp_all; done) | (simp [cdl, zb, *]; simp only [Int32.lt_iff_toInt_lt, Int32.le_iff_toInt_le, zlt_0, zlt_1, zlt_2, zlt_3, zlt_4, zlt_5, zlt_6, zlt_7, zlt_8, zlt_9, zlt_10, zlt_11, zlt_12, zlt_30, zlt_39, zlt_40, zlt_59, zlt_60, zlt_61, zlt_98, zlt_99, zlt_100, zlt_119, zlt_120, zlt_998, zlt_999, zlt_9998, zlt_9999, zlt_m1] at *; omega)) rfl (zH.rf)
