theorem ogS_a {T : zT} {N c : Nat} (h : ¬ ((ogS T N c).1 5 c = 1 ∧ wo (ogS T N c).1 c = true)) : ogS T N (c + 1) = ogS T N c := by
  simp only [ogS]
  rw [if_neg h]
theorem ogS_b {T : zT} {N c : Nat} (h : (ogS T N c).1 5 c = 1 ∧ wo (ogS T N c).1 c = true) {p : Nat} (hp : skp (ogS T N c).1 (N - (ogS T N c).2.1) (ogS T N c).2.1 = p) (hpN : ¬ p < N) : ogS T N (c + 1) = ((ogS T N c).1, p, (ogS T N c).2.2) := by
  simp only [ogS]
  rw [if_pos h, hp, if_neg hpN]
theorem ogS_c {T : zT} {N c : Nat} (h : (ogS T N c).1 5 c = 1 ∧ wo (ogS T N c).1 c = true) {p : Nat} (hp : skp (ogS T N c).1 (N - (ogS T N c).2.1) (ogS T N c).2.1 = p) (hpN : p < N) : ogS T N (c + 1) = (exT (ogS T N c).1 c p, p, (ogS T N c).2.2 + 1) := by
  simp only [ogS]
  rw [if_pos h, hp, if_pos hpN]
theorem skp_a {U : zT} {N p : Nat} {Q : Nat} (h : skp U (N - p) p = Q) (hp : p < N) (hn : ¬ (U 5 p = 2 ∧ wo U p = true)) : skp U (N - (p + 1)) (p + 1) = Q := by
  rw [show N - p = N - (p + 1) + 1 by omega, skp, if_neg hn] at h
  exact h
theorem skp_b {U : zT} {N p : Nat} {Q : Nat} (h : skp U (N - p) p = Q) (hp : p < N) (hy : U 5 p = 2 ∧ wo U p = true) : Q = p := by
  rw [show N - p = N - (p + 1) + 1 by omega, skp, if_pos hy] at h
  exact h.symm
theorem skp_c {U : zT} {N p : Nat} {Q : Nat} (h : skp U (N - p) p = Q) (hp : ¬ p < N) : Q = p := by
  rw [show N - p = 0 by omega, skp] at h
  exact h.symm

set_option maxRecDepth 100000 in
set_option maxHeartbeats 4000000 in
theorem m_X0_openGates {g : Nat → zE} {b : Nat} {T : zT} (hb : b + 7 < 46) {N : Nat} (hN : wN T N) (hH : wH T N) : zM 2 M_X0_openGates [.ref b] (hC g b T) 46 (some (.int (nI (ogS T N N).2.2))) (hC g b (ogS T N N).1) 46 0 0 := by
  refine zM.intro (by decide) (Nat.le_of_ble_eq_true rfl) ?_
  intro Wf V m H0 Γ ρ
  replace Γ : zC Wf V m 4 H0 cX0_openGates RX0 2 0 0 := Γ
  show zX Wf V m 4 H0 0 (zls [(0, .ref b)]) [] (hC g b T) 46 0 0
  have hb0 : b < 46 := by omega
  have hb1 : b + 1 < 46 := by omega
  have hb2 : b + 2 < 46 := by omega
  have hb3 : b + 3 < 46 := by omega
  have hb4 : b + 4 < 46 := by omega
  have hb5 : b + 5 < 46 := by omega
  have hb6 : b + 6 < 46 := by omega
  have hb7 : b + 7 < 46 := by omega
  have hN2 := hN.2
  refine x_iconst Γ (v := 0) dX0_openGates_0 rfl ?_
  refine x_istore_n Γ dX0_openGates_1 (by decide) ?_
  refine x_iconst Γ (v := 0) dX0_openGates_2 rfl ?_
  refine x_istore_n Γ dX0_openGates_3 (by decide) ?_
  refine x_iconst Γ (v := 0) dX0_openGates_4 rfl ?_
  refine x_istore_n Γ dX0_openGates_5 (by decide) ?_
  suffices L_6 : ∀ (k c : Nat), c ≤ N → N - c < k → zX Wf V m 4 H0 6 (zls [(0, .ref b), (1, .int (nI (ogS T N c).2.2)), (2, .int (nI (ogS T N c).2.1)), (3, .int (nI c))]) [] (hC g b (ogS T N c).1) 46 0 0 by
    exact x_subl [(0, .ref b), (1, .int (nI (ogS T N 0).2.2)), (2, .int (nI (ogS T N 0).2.1)), (3, .int (nI 0))] (List.forall_mem_cons.mpr ⟨rfl, List.forall_mem_cons.mpr ⟨rfl, List.forall_mem_cons.mpr ⟨rfl, List.forall_mem_cons.mpr ⟨rfl, fun _ hz => absurd hz List.not_mem_nil⟩⟩⟩⟩) (x_heap (rfl) (L_6 (N + 1) 0 (by omega) (by omega)))
  intro k
  induction k with
  | zero => intro c h1 h2; omega
  | succ k ih =>
    intro c h1 h2
    refine x_iload_n Γ dX0_openGates_6 rfl ?_
    refine x_aload_n Γ dX0_openGates_7 rfl ?_
    refine gf_X0_33 Γ dX0_openGates_8 hb0 hC_o rfl ?_
    refine x_icmp_ge Γ (tgt := 87) dX0_openGates_11 (by decide) (fun c_1 => ?_) (fun c_1 => ?_)
    · rw [ogS_n _ _ _ (by decide), hN.1] at c_1
      have c_1 := z_le c_1 (by omega) (by omega)
      obtain rfl : c = N := by omega
      refine x_iload_n Γ dX0_openGates_87 rfl ?_
      exact x_iret ρ rfl dX0_openGates_88 rfl (rfl) rfl (zH.rf)
    · rw [ogS_n _ _ _ (by decide), hN.1] at c_1
      have c_1 := z_nle c_1 (by omega) (by omega)
      refine x_aload_n Γ dX0_openGates_14 rfl ?_
      refine gf_X0_27 Γ dX0_openGates_15 hb0 hC_o rfl ?_
      refine x_iload_n Γ dX0_openGates_18 rfl ?_
      refine x_iald Γ dX0_openGates_19 hb6 hC_5 rfl (by first | assumption | omega) (by decide) rfl ?_
      refine x_iconst Γ (v := 1) dX0_openGates_20 rfl ?_
      refine x_icmp_ne Γ (tgt := 81) dX0_openGates_21 (by decide) (fun c_2 => ?_) (fun c_2 => ?_)
      · have hG := ogS_a (T := T) (N := N) (c := c) (fun z => c_2 z.1)
        refine x_iinc Γ dX0_openGates_81 rfl (by first | exact zinc _ | rfl) (by decide) ?_
        refine x_goto Γ (tgt := 6) dX0_openGates_84 (by decide) ?_
        exact x_subl [(0, .ref b), (1, .int (nI (ogS T N (c + 1)).2.2)), (2, .int (nI (ogS T N (c + 1)).2.1)), (3, .int (nI (c + 1)))] (List.forall_mem_cons.mpr ⟨rfl, List.forall_mem_cons.mpr ⟨zsi (by rw [hG]), List.forall_mem_cons.mpr ⟨zsi (by rw [hG]), List.forall_mem_cons.mpr ⟨rfl, fun _ hz => absurd hz List.not_mem_nil⟩⟩⟩⟩) (x_heap (by rw [hG]) (ih (c + 1) (by omega) (by omega)))
      · obtain ⟨hh, hh9, eh⟩ := hH c (by assumption)
        have eU : (ogS T N c).1 1 c = nI hh := by rw [ogS_n _ _ _ (by decide)]; exact eh
        have hcl := c_2
        refine x_aload_n Γ dX0_openGates_24 rfl ?_
        refine x_iload_n Γ dX0_openGates_25 rfl ?_
        refine x_callV Γ calv_X0_wantsOther wl_X0_81 dX0_openGates_26 (m_X0_wantsOther (g := g) (T := (ogS T N c).1) hb c (by omega) eU hh9) rfl (by decide) hb0 hC_o rfl rfl rfl (Nat.le_of_ble_eq_true rfl) (Nat.le_refl _) (Nat.le_refl _) ?_
        refine x_if_eq Γ (tgt := 81) dX0_openGates_29 (by decide) (fun c_3 => ?_) (fun c_3 => ?_)
        · have c_3 := zb_0.mp c_3
          have hG := ogS_a (T := T) (N := N) (c := c) (fun z => by rw [c_3] at z; cases z.2)
          refine x_iinc Γ dX0_openGates_81 rfl (by first | exact zinc _ | rfl) (by decide) ?_
          refine x_goto Γ (tgt := 6) dX0_openGates_84 (by decide) ?_
          exact x_subl [(0, .ref b), (1, .int (nI (ogS T N (c + 1)).2.2)), (2, .int (nI (ogS T N (c + 1)).2.1)), (3, .int (nI (c + 1)))] (List.forall_mem_cons.mpr ⟨rfl, List.forall_mem_cons.mpr ⟨zsi (by rw [hG]), List.forall_mem_cons.mpr ⟨zsi (by rw [hG]), List.forall_mem_cons.mpr ⟨rfl, fun _ hz => absurd hz List.not_mem_nil⟩⟩⟩⟩) (x_heap (by rw [hG]) (ih (c + 1) (by omega) (by omega)))
        · have c_3 := zb_n0.mp c_3
          have hcw : (ogS T N c).1 5 c = 1 ∧ wo (ogS T N c).1 c = true := ⟨hcl, c_3⟩
          suffices L_32 : ∀ (k2 p : Nat), p ≤ N → N - p < k2 → skp (ogS T N c).1 (N - p) p = skp (ogS T N c).1 (N - (ogS T N c).2.1) (ogS T N c).2.1 → zX Wf V m 4 H0 32 (zls [(0, .ref b), (1, .int (nI (ogS T N c).2.2)), (2, .int (nI p)), (3, .int (nI c))]) [] (hC g b (ogS T N c).1) 46 0 0 by
            exact x_subl [(0, .ref b), (1, .int (nI (ogS T N c).2.2)), (2, .int (nI (ogS T N c).2.1)), (3, .int (nI c))] (List.forall_mem_cons.mpr ⟨rfl, List.forall_mem_cons.mpr ⟨rfl, List.forall_mem_cons.mpr ⟨rfl, List.forall_mem_cons.mpr ⟨rfl, fun _ hz => absurd hz List.not_mem_nil⟩⟩⟩⟩) (L_32 (N + 1) _ (ogS_le T N c).1 (by omega) rfl)
          intro k2
          induction k2 with
          | zero => intro p h3 h4; omega
          | succ k2 ih2 =>
            intro p h3 h4 h5
            refine x_iload_n Γ dX0_openGates_32 rfl ?_
            refine x_aload_n Γ dX0_openGates_33 rfl ?_
            refine gf_X0_33 Γ dX0_openGates_34 hb0 hC_o rfl ?_
            refine x_icmp_ge Γ (tgt := 64) dX0_openGates_37 (by decide) (fun c_4 => ?_) (fun c_4 => ?_)
            · rw [ogS_n _ _ _ (by decide), hN.1] at c_4
              have c_4 := z_le c_4 (by omega) (by omega)
              have hQ := skp_c h5 (by omega)
              refine x_iload_n Γ dX0_openGates_64 rfl ?_
              refine x_aload_n Γ dX0_openGates_65 rfl ?_
              refine gf_X0_33 Γ dX0_openGates_66 hb0 hC_o rfl ?_
              refine x_icmp_ge Γ (tgt := 81) dX0_openGates_69 (by decide) (fun c_5 => ?_) (fun c_5 => ?_)
              · have hG := ogS_b hcw hQ (by omega)
                refine x_iinc Γ dX0_openGates_81 rfl (by first | exact zinc _ | rfl) (by decide) ?_
                refine x_goto Γ (tgt := 6) dX0_openGates_84 (by decide) ?_
                exact x_subl [(0, .ref b), (1, .int (nI (ogS T N (c + 1)).2.2)), (2, .int (nI (ogS T N (c + 1)).2.1)), (3, .int (nI (c + 1)))] (List.forall_mem_cons.mpr ⟨rfl, List.forall_mem_cons.mpr ⟨zsi (by rw [hG]), List.forall_mem_cons.mpr ⟨zsi (by rw [hG]), List.forall_mem_cons.mpr ⟨rfl, fun _ hz => absurd hz List.not_mem_nil⟩⟩⟩⟩) (x_heap (by rw [hG]) (ih (c + 1) (by omega) (by omega)))
              · rw [ogS_n _ _ _ (by decide), hN.1] at c_5
                exact absurd (z_nle c_5 (by omega) (by omega)) (by omega)
            · rw [ogS_n _ _ _ (by decide), hN.1] at c_4
              have c_4 := z_nle c_4 (by omega) (by omega)
              refine x_aload_n Γ dX0_openGates_40 rfl ?_
              refine gf_X0_27 Γ dX0_openGates_41 hb0 hC_o rfl ?_
              refine x_iload_n Γ dX0_openGates_44 rfl ?_
              refine x_iald Γ dX0_openGates_45 hb6 hC_5 rfl (by first | assumption | omega) (by decide) rfl ?_
              refine x_iconst Γ (v := 2) dX0_openGates_46 rfl ?_
              refine x_icmp_ne Γ (tgt := 58) dX0_openGates_47 (by decide) (fun c_6 => ?_) (fun c_6 => ?_)
              · have hS := skp_a h5 (by omega) (fun z => c_6 z.1)
                refine x_iinc Γ dX0_openGates_58 rfl (by first | exact zinc _ | rfl) (by decide) ?_
                refine x_goto Γ (tgt := 32) dX0_openGates_61 (by decide) ?_
                exact x_subl [(0, .ref b), (1, .int (nI (ogS T N c).2.2)), (2, .int (nI (p + 1))), (3, .int (nI c))] (List.forall_mem_cons.mpr ⟨rfl, List.forall_mem_cons.mpr ⟨rfl, List.forall_mem_cons.mpr ⟨rfl, List.forall_mem_cons.mpr ⟨rfl, fun _ hz => absurd hz List.not_mem_nil⟩⟩⟩⟩) (ih2 (p + 1) (by omega) (by omega) hS)
              · obtain ⟨gg, gg9, eg⟩ := hH p (by assumption)
                have eV : (ogS T N c).1 1 p = nI gg := by rw [ogS_n _ _ _ (by decide)]; exact eg
                have hpl := c_6
                refine x_aload_n Γ dX0_openGates_50 rfl ?_
                refine x_iload_n Γ dX0_openGates_51 rfl ?_
                refine x_callV Γ calv_X0_wantsOther wl_X0_81 dX0_openGates_52 (m_X0_wantsOther (g := g) (T := (ogS T N c).1) hb p (by omega) eV gg9) rfl (by decide) hb0 hC_o rfl rfl rfl (Nat.le_of_ble_eq_true rfl) (Nat.le_refl _) (Nat.le_refl _) ?_
                refine x_if_ne Γ (tgt := 64) dX0_openGates_55 (by decide) (fun c_7 => ?_) (fun c_7 => ?_)
                · have c_7 := zb_n0.mp c_7
                  have hQ := skp_b h5 (by omega) ⟨hpl, c_7⟩
                  refine x_iload_n Γ dX0_openGates_64 rfl ?_
                  refine x_aload_n Γ dX0_openGates_65 rfl ?_
                  refine gf_X0_33 Γ dX0_openGates_66 hb0 hC_o rfl ?_
                  refine x_icmp_ge Γ (tgt := 81) dX0_openGates_69 (by decide) (fun c_8 => ?_) (fun c_8 => ?_)
                  · rw [ogS_n _ _ _ (by decide), hN.1] at c_8
                    exact absurd (z_le c_8 (by omega) (by omega)) (by omega)
                  · have hG := ogS_c hcw hQ (by omega)
                    refine x_aload_n Γ dX0_openGates_72 rfl ?_
                    refine x_iload_n Γ dX0_openGates_73 rfl ?_
                    refine x_iload_n Γ dX0_openGates_74 rfl ?_
                    refine x_callVv Γ calv_X0_exchange wl_X0_84 dX0_openGates_75 (m_X0_exchange (g := g) (T := (ogS T N c).1) hb c p (by omega) (by omega)) rfl (by decide) hb0 hC_o rfl rfl rfl (Nat.le_of_ble_eq_true rfl) (Nat.le_refl _) (Nat.le_refl _) ?_
                    refine x_iinc Γ dX0_openGates_78 rfl (by first | exact zinc _ | rfl) (by decide) ?_
                    refine x_iinc Γ dX0_openGates_81 rfl (by first | exact zinc _ | rfl) (by decide) ?_
                    refine x_goto Γ (tgt := 6) dX0_openGates_84 (by decide) ?_
                    exact x_subl [(0, .ref b), (1, .int (nI (ogS T N (c + 1)).2.2)), (2, .int (nI (ogS T N (c + 1)).2.1)), (3, .int (nI (c + 1)))] (List.forall_mem_cons.mpr ⟨rfl, List.forall_mem_cons.mpr ⟨zsi (by rw [hG]), List.forall_mem_cons.mpr ⟨zsi (by rw [hG]), List.forall_mem_cons.mpr ⟨rfl, fun _ hz => absurd hz List.not_mem_nil⟩⟩⟩⟩) (x_heap (by rw [hG]) (ih (c + 1) (by omega) (by omega)))
                · have c_7 := zb_0.mp c_7
                  have hS := skp_a h5 (by omega) (fun z => by rw [c_7] at z; cases z.2)
                  refine x_iinc Γ dX0_openGates_58 rfl (by first | exact zinc _ | rfl) (by decide) ?_
                  refine x_goto Γ (tgt := 32) dX0_openGates_61 (by decide) ?_
                  exact x_subl [(0, .ref b), (1, .int (nI (ogS T N c).2.2)), (2, .int (nI (p + 1))), (3, .int (nI c))] (List.forall_mem_cons.mpr ⟨rfl, List.forall_mem_cons.mpr ⟨rfl, List.forall_mem_cons.mpr ⟨rfl, List.forall_mem_cons.mpr ⟨rfl, fun _ hz => absurd hz List.not_mem_nil⟩⟩⟩⟩) (ih2 (p + 1) (by omega) (by omega) hS)

set_option maxRecDepth 100000 in
set_option maxHeartbeats 4000000 in
theorem m_X0_passWeek {g : Nat → zE} {b : Nat} {T : zT} (hb : b + 7 < 46) {N : Nat} (hN : wN T N) (hH : wH T N) : zM 3 M_X0_passWeek [.ref b] (hC g b T) 46 (some (.int (nI (wkN T N)))) (hC g b (wkT T N)) 46 0 0 := by
  refine zM.intro (by decide) (Nat.le_of_ble_eq_true rfl) ?_
  intro Wf V m H0 Γ ρ
  replace Γ : zC Wf V m 3 H0 cX0_passWeek RX0 3 0 0 := Γ
  show zX Wf V m 3 H0 0 (zls [(0, .ref b)]) [] (hC g b T) 46 0 0
  have hb0 : b < 46 := by omega
  have hb1 : b + 1 < 46 := by omega
  have hb2 : b + 2 < 46 := by omega
  have hb3 : b + 3 < 46 := by omega
  have hb4 : b + 4 < 46 := by omega
  have hb5 : b + 5 < 46 := by omega
  have hb6 : b + 6 < 46 := by omega
  have hb7 : b + 7 < 46 := by omega
  have hN2 := hN.2
  refine x_aload_n Γ dX0_passWeek_0 rfl ?_
  refine x_callVv Γ calv_X0_drawTokens wl_X0_119 dX0_passWeek_1 (m_X0_drawTokens (g := g) (T := T) hb hN) rfl (by decide) hb0 hC_o rfl rfl rfl (Nat.le_of_ble_eq_true rfl) (Nat.le_refl _) (Nat.le_refl _) ?_
  refine x_aload_n Γ dX0_passWeek_4 rfl ?_
  refine x_callV Γ calv_X0_openGates wl_X0_122 dX0_passWeek_5 (m_X0_openGates (g := g) (T := wkT1 T N) hb (wk1_N hN) (wk1_H hH)) rfl (by decide) hb0 hC_o rfl rfl rfl (Nat.le_of_ble_eq_true rfl) (Nat.le_refl _) (Nat.le_refl _) ?_
  refine x_istore_n Γ dX0_passWeek_8 (by decide) ?_
  refine x_aload_n Γ dX0_passWeek_9 rfl ?_
  refine x_callVv Γ calv_X0_eatAndSee wl_X0_125 dX0_passWeek_10 (m_X0_eatAndSee (g := g) (T := wkT2 T N) hb (wk2_N hN) (wk2_H hH)) rfl (by decide) hb0 hC_o rfl rfl rfl (Nat.le_of_ble_eq_true rfl) (Nat.le_refl _) (Nat.le_refl _) ?_
  refine x_aload_n Γ dX0_passWeek_13 rfl ?_
  refine x_callVv Γ calv_X0_maybeRiot wl_X0_128 dX0_passWeek_14 (m_X0_maybeRiot (g := g) (T := eaT (wkT2 T N) N) hb (eaT_N (wk2_N hN) N)) rfl (by decide) hb0 hC_o rfl rfl rfl (Nat.le_of_ble_eq_true rfl) (Nat.le_refl _) (Nat.le_refl _) ?_
  refine x_aload_n Γ dX0_passWeek_17 rfl ?_
  refine x_aload_n Γ dX0_passWeek_18 rfl ?_
  refine x_callV Γ calv_X0_draw wl_X0_104 dX0_passWeek_19 (m_X0_draw (g := g) (T := wkT3 T N) hb) rfl (by decide) hb0 hC_o rfl rfl rfl (Nat.le_of_ble_eq_true rfl) (Nat.le_refl _) (Nat.le_refl _) ?_
  refine x_iconst Γ (v := 4) dX0_passWeek_22 rfl ?_
  refine x_irem Γ dX0_passWeek_23 (by decide) ?_
  refine pf_X0_37 Γ dX0_passWeek_24 hb0 hC_o (Nat.le_of_ble_eq_true rfl) hC_f8 ?_
  refine x_iconst Γ (v := 0) dX0_passWeek_27 rfl ?_
  refine x_istore_n Γ dX0_passWeek_28 (by decide) ?_
  suffices L_29 : ∀ (k c : Nat), c ≤ N → N - c < k → zX Wf V m 3 H0 29 (zls [(0, .ref b), (1, .int (nI (wkN T N))), (2, .int (nI c))]) [] (hC g b (clT (ts (drT (wkT3 T N)) 7 3 (zrem (zdr (wkT3 T N 7 7)) 4)) c)) 46 0 0 by
    exact x_subl [(0, .ref b), (1, .int (nI (wkN T N))), (2, .int (nI 0))] (List.forall_mem_cons.mpr ⟨rfl, List.forall_mem_cons.mpr ⟨rfl, List.forall_mem_cons.mpr ⟨rfl, fun _ hz => absurd hz List.not_mem_nil⟩⟩⟩) (x_heap (rfl) (L_29 (N + 1) 0 (by omega) (by omega)))
  intro k
  induction k with
  | zero => intro c h1 h2; omega
  | succ k ih =>
    intro c h1 h2
    refine x_iload_n Γ dX0_passWeek_29 rfl ?_
    refine x_aload_n Γ dX0_passWeek_30 rfl ?_
    refine gf_X0_33 Γ dX0_passWeek_31 hb0 hC_o rfl ?_
    refine x_icmp_ge Γ (tgt := 50) dX0_passWeek_34 (by decide) (fun c_1 => ?_) (fun c_1 => ?_)
    · rw [clT_n _ _ (by decide), ts_i (by decide), drT_7 (by decide), (wk3_N hN).1] at c_1
      have c_1 := z_le c_1 (by omega) (by omega)
      obtain rfl : c = N := by omega
      refine x_aload_n Γ dX0_passWeek_50 rfl ?_
      refine x_dup Γ dX0_passWeek_51 rfl ?_
      refine gf_X0_52 Γ dX0_passWeek_52 hb0 hC_o rfl ?_
      refine x_iconst Γ (v := 1) dX0_passWeek_55 rfl ?_
      refine x_iadd Γ dX0_passWeek_56 ?_
      refine pf_X0_52 Γ dX0_passWeek_57 hb0 hC_o (Nat.le_of_ble_eq_true rfl) hC_f13 ?_
      refine x_iload_n Γ dX0_passWeek_60 rfl ?_
      exact x_iret ρ rfl dX0_passWeek_61 rfl (rfl) rfl (zH.rf)
    · rw [clT_n _ _ (by decide), ts_i (by decide), drT_7 (by decide), (wk3_N hN).1] at c_1
      have c_1 := z_nle c_1 (by omega) (by omega)
      refine x_aload_n Γ dX0_passWeek_37 rfl ?_
      refine gf_X0_27 Γ dX0_passWeek_38 hb0 hC_o rfl ?_
      refine x_iload_n Γ dX0_passWeek_41 rfl ?_
      refine x_iconst Γ (v := 0) dX0_passWeek_42 rfl ?_
      refine x_iast Γ dX0_passWeek_43 hb6 hC_5 rfl (by first | assumption | omega) (by decide) hC_u5 ?_
      refine x_iinc Γ dX0_passWeek_44 rfl (by first | exact zinc _ | rfl) (by decide) ?_
      refine x_goto Γ (tgt := 29) dX0_passWeek_47 (by decide) ?_
      exact x_subl [(0, .ref b), (1, .int (nI (wkN T N))), (2, .int (nI (c + 1)))] (List.forall_mem_cons.mpr ⟨rfl, List.forall_mem_cons.mpr ⟨rfl, List.forall_mem_cons.mpr ⟨rfl, fun _ hz => absurd hz List.not_mem_nil⟩⟩⟩) (x_heap (rfl) (ih (c + 1) (by omega) (by omega)))

set_option maxRecDepth 100000 in
set_option maxHeartbeats 4000000 in
theorem m_X0_passWeeks {g : Nat → zE} {b : Nat} {T : zT} (hb : b + 7 < 46) {N : Nat} (hN : wN T N) (hH : wH T N) {K : Nat} (hK : K ≤ 60) : zM 4 M_X0_passWeeks [.ref b, .int (nI K)] (hC g b T) 46 (some (.int (wkc N T K))) (hC g b (wks N K T)) 46 0 0 := by
  refine zM.intro (by decide) (Nat.le_of_ble_eq_true rfl) ?_
  intro Wf V m H0 Γ ρ
  replace Γ : zC Wf V m 4 H0 cX0_passWeeks RX0 4 0 0 := Γ
  show zX Wf V m 4 H0 0 (zls [(0, .ref b), (1, .int (nI K))]) [] (hC g b T) 46 0 0
  have hb0 : b < 46 := by omega
  have hb1 : b + 1 < 46 := by omega
  have hb2 : b + 2 < 46 := by omega
  have hb3 : b + 3 < 46 := by omega
  have hb4 : b + 4 < 46 := by omega
  have hb5 : b + 5 < 46 := by omega
  have hb6 : b + 6 < 46 := by omega
  have hb7 : b + 7 < 46 := by omega
  have hN2 := hN.2
  refine x_iconst Γ (v := 0) dX0_passWeeks_0 rfl ?_
  refine x_istore_n Γ dX0_passWeeks_1 (by decide) ?_
  refine x_iconst Γ (v := 0) dX0_passWeeks_2 rfl ?_
  refine x_istore_n Γ dX0_passWeeks_3 (by decide) ?_
  suffices L_4 : ∀ (k c : Nat), c ≤ K → K - c < k → zX Wf V m 4 H0 4 (zls [(0, .ref b), (1, .int (nI K)), (2, .int (wkc N T c)), (3, .int (nI c))]) [] (hC g b (wks N c T)) 46 0 0 by
    exact x_subl [(0, .ref b), (1, .int (nI K)), (2, .int (wkc N T 0)), (3, .int (nI 0))] (List.forall_mem_cons.mpr ⟨rfl, List.forall_mem_cons.mpr ⟨rfl, List.forall_mem_cons.mpr ⟨rfl, List.forall_mem_cons.mpr ⟨rfl, fun _ hz => absurd hz List.not_mem_nil⟩⟩⟩⟩) (x_heap (rfl) (L_4 (K + 1) 0 (by omega) (by omega)))
  intro k
  induction k with
  | zero => intro c h1 h2; omega
  | succ k ih =>
    intro c h1 h2
    refine x_iload_n Γ dX0_passWeeks_4 rfl ?_
    refine x_iload_n Γ dX0_passWeeks_5 rfl ?_
    refine x_icmp_ge Γ (tgt := 22) dX0_passWeeks_6 (by decide) (fun c_1 => ?_) (fun c_1 => ?_)
    · have c_1 := z_le c_1 (by omega) (by omega)
      obtain rfl : c = K := by omega
      refine x_iload_n Γ dX0_passWeeks_22 rfl ?_
      exact x_iret ρ rfl dX0_passWeeks_23 rfl (rfl) rfl (zH.rf)
    · have c_1 := z_nle c_1 (by omega) (by omega)
      refine x_iload_n Γ dX0_passWeeks_9 rfl ?_
      refine x_aload_n Γ dX0_passWeeks_10 rfl ?_
      refine x_callV Γ calv_X0_passWeek wl_X0_131 dX0_passWeeks_11 (m_X0_passWeek (g := g) (T := wks N c T) hb (wks_N hN c) (wks_H hH c)) rfl (by decide) hb0 hC_o rfl rfl rfl (Nat.le_of_ble_eq_true rfl) (Nat.le_refl _) (Nat.le_refl _) ?_
      refine x_iadd Γ dX0_passWeeks_14 ?_
      refine x_istore_n Γ dX0_passWeeks_15 (by decide) ?_
      refine x_iinc Γ dX0_passWeeks_16 rfl (by first | exact zinc _ | rfl) (by decide) ?_
      refine x_goto Γ (tgt := 4) dX0_passWeeks_19 (by decide) ?_
      exact x_subl [(0, .ref b), (1, .int (nI K)), (2, .int (wkc N T (c + 1))), (3, .int (nI (c + 1)))] (List.forall_mem_cons.mpr ⟨rfl, List.forall_mem_cons.mpr ⟨rfl, List.forall_mem_cons.mpr ⟨rfl, List.forall_mem_cons.mpr ⟨rfl, fun _ hz => absurd hz List.not_mem_nil⟩⟩⟩⟩) (x_heap (rfl) (ih (c + 1) (by omega) (by omega)))

set_option maxRecDepth 100000 in
set_option maxHeartbeats 4000000 in
theorem m_X0_calmWeeks {g : Nat → zE} {b : Nat} {T : zT} (hb : b + 7 < 46) {N : Nat} (hN : wN T N) (hH : wH T N) {K : Nat} (hK : K ≤ 60) : zM 4 M_X0_calmWeeks [.ref b, .int (nI K)] (hC g b T) 46 (some (.int (nI (cwk N (T 7 6) K T 0).1))) (hC g b (cwk N (T 7 6) K T 0).2) 46 0 0 := by
  refine zM.intro (by decide) (Nat.le_of_ble_eq_true rfl) ?_
  intro Wf V m H0 Γ ρ
  replace Γ : zC Wf V m 4 H0 cX0_calmWeeks RX0 4 0 0 := Γ
  show zX Wf V m 4 H0 0 (zls [(0, .ref b), (1, .int (nI K))]) [] (hC g b T) 46 0 0
  have hb0 : b < 46 := by omega
  have hb1 : b + 1 < 46 := by omega
  have hb2 : b + 2 < 46 := by omega
  have hb3 : b + 3 < 46 := by omega
  have hb4 : b + 4 < 46 := by omega
  have hb5 : b + 5 < 46 := by omega
  have hb6 : b + 6 < 46 := by omega
  have hb7 : b + 7 < 46 := by omega
  have hN2 := hN.2
  refine x_aload_n Γ dX0_calmWeeks_0 rfl ?_
  refine gf_X0_55 Γ dX0_calmWeeks_1 hb0 hC_o rfl ?_
  refine x_istore_n Γ dX0_calmWeeks_4 (by decide) ?_
  refine x_iconst Γ (v := 0) dX0_calmWeeks_5 rfl ?_
  refine x_istore_n Γ dX0_calmWeeks_6 (by decide) ?_
  suffices L_7 : ∀ (f k i : Nat) (U : zT), k < f → i + k = K → wN U N → wH U N → cwk N (T 7 6) k U i = cwk N (T 7 6) K T 0 → zX Wf V m 4 H0 7 (zls [(0, .ref b), (1, .int (nI K)), (2, .int (T 7 6)), (3, .int (nI i))]) [] (hC g b U) 46 0 0 by
    exact x_subl [(0, .ref b), (1, .int (nI K)), (2, .int (T 7 6)), (3, .int (nI 0))] (List.forall_mem_cons.mpr ⟨rfl, List.forall_mem_cons.mpr ⟨rfl, List.forall_mem_cons.mpr ⟨rfl, List.forall_mem_cons.mpr ⟨rfl, fun _ hz => absurd hz List.not_mem_nil⟩⟩⟩⟩) (L_7 (K + 1) K 0 T (by omega) (by omega) hN hH rfl)
  intro f
  induction f with
  | zero => intro k i U h1; omega
  | succ f ih =>
    intro k i U h1 h2 hNU hHU h3
    refine x_iload_n Γ dX0_calmWeeks_7 rfl ?_
    refine x_iload_n Γ dX0_calmWeeks_8 rfl ?_
    refine x_icmp_ge Γ (tgt := 33) dX0_calmWeeks_9 (by decide) (fun c_1 => ?_) (fun c_1 => ?_)
    · have c_1 := z_le c_1 (by omega) (by omega)
      obtain rfl : k = 0 := by omega
      obtain rfl : i = K := by omega
      refine x_iload_n Γ dX0_calmWeeks_33 rfl ?_
      exact x_iret ρ rfl dX0_calmWeeks_34 rfl (by rw [← h3]; rfl) rfl (by rw [← h3]; exact zH.rf)
    · have c_1 := z_nle c_1 (by omega) (by omega)
      obtain ⟨k1, rfl⟩ : ∃ k1, k = k1 + 1 := ⟨k - 1, by omega⟩
      refine x_aload_n Γ dX0_calmWeeks_12 rfl ?_
      refine x_callV Γ calv_X0_passWeek wl_X0_131 dX0_calmWeeks_13 (m_X0_passWeek (g := g) (T := U) hb hNU hHU) rfl (by decide) hb0 hC_o rfl rfl rfl (Nat.le_of_ble_eq_true rfl) (Nat.le_refl _) (Nat.le_refl _) ?_
      refine x_pop Γ dX0_calmWeeks_16 rfl ?_
      refine x_aload_n Γ dX0_calmWeeks_17 rfl ?_
      refine gf_X0_55 Γ dX0_calmWeeks_18 hb0 hC_o rfl ?_
      refine x_iload_n Γ dX0_calmWeeks_21 rfl ?_
      refine x_icmp_eq Γ (tgt := 27) dX0_calmWeeks_22 (by decide) (fun c_2 => ?_) (fun c_2 => ?_)
      · have h4 := h3
        rw [cwk, if_pos c_2] at h4
        refine x_iinc Γ dX0_calmWeeks_27 rfl (by first | exact zinc _ | rfl) (by decide) ?_
        refine x_goto Γ (tgt := 7) dX0_calmWeeks_30 (by decide) ?_
        exact x_subl [(0, .ref b), (1, .int (nI K)), (2, .int (T 7 6)), (3, .int (nI (i + 1)))] (List.forall_mem_cons.mpr ⟨rfl, List.forall_mem_cons.mpr ⟨rfl, List.forall_mem_cons.mpr ⟨rfl, List.forall_mem_cons.mpr ⟨rfl, fun _ hz => absurd hz List.not_mem_nil⟩⟩⟩⟩) (ih k1 (i + 1) _ (by omega) (by omega) (wk_N hNU) (wk_H hHU) h4)
      · have h4 := h3
        rw [cwk, if_neg c_2] at h4
        refine x_iload_n Γ dX0_calmWeeks_25 rfl ?_
        exact x_iret ρ rfl dX0_calmWeeks_26 rfl (by rw [← h4]) rfl (by rw [← h4]; exact zH.rf)
