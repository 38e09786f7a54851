theorem okT_1 {v : Int32} : okT 1 v = inR v 0 9 := rfl
theorem mn_zN {z N : Nat} (hz : z ≤ 40) (hN : N ≤ 10) : (if nI N < nI z then nI N else nI z) = nI (min z N) := by
  by_cases h : N < z
  · rw [if_pos ((nI_ltI (by omega) (by omega)).mpr h), show min z N = N by omega]
  · rw [if_neg (fun w => h ((nI_ltI (by omega) (by omega)).mp w)), show min z N = z by omega]
theorem vis_cf7 {T R : zT} {f : Nat} (h : f = 7) : visR R (gCf T R f) := by
  rw [gCf, if_pos h]
  exact vis_1

set_option maxRecDepth 100000 in
set_option maxHeartbeats 4000000 in
theorem m_X3_load {g : Nat → zE} {T T2 T3 R : zT} {X : Nat → Int32} {N : Nat} (hN : wN T N) (hS : wS R) (s : Int32) : zMx 2 M_X3_load [.ref 0, .int s] (cW g T T2 T3 R X) 46 (some (.int (fr (fSb R s) (nI (rLd R N s))))) (cQ g (tLd T R N s) (T3) (fR R (fSb R s))) := by
  refine zMx.intro (by decide) (Nat.le_of_ble_eq_true rfl) ?_
  intro Wf V m H0 Γ ρ
  replace Γ : zC Wf V m 6 H0 cX3_load RX3 2 0 0 := Γ
  show zX Wf V m 6 H0 0 (zls [(0, .ref 0), (1, .int s)]) [] (cW g T T2 T3 R X) 46 0 0
  have hN2 := hN.2
  refine x_aload_n Γ dX3_load_0 rfl ?_
  refine x_iload_n Γ dX3_load_1 rfl ?_
  refine x_callV Γ calv_X3_sheetHindrance wl_X3_244 dX3_load_2 (m_X3_sheetHindrance (g := g) (T := T) (T2 := T2) (T3 := T3) (R := R) (X := X) s) rfl (by decide) (by decide) (by rfl) rfl rfl rfl (Nat.le_of_ble_eq_true rfl) (Nat.le_refl _) (Nat.le_refl _) ?_
  refine x_istore_n Γ dX3_load_5 (by decide) ?_
  refine x_iload_n Γ dX3_load_6 rfl ?_
  refine x_iconst Γ (v := -1) dX3_load_7 rfl ?_
  refine x_icmp_eq Γ (tgt := 17) dX3_load_8 (by decide) (fun c_1 => ?_) (fun c_1 => ?_)
  · have h7 := hdI_7 fSb_lt c_1
    obtain ⟨j, hj, rfl⟩ := inR_nI (n := 3) (fSb_7 h7).1 rfl (by omega)
    have ej : ci (nI j) = j := nI_clamp (by omega)
    have hj4 : j < 4 := by omega
    obtain ⟨z, hz, ez⟩ := hS j hj4
    have ezz : ci (R 5 j) = z := by rw [ez]; exact nI_clamp (by omega)
    have hsj := (fSb_7 h7).1
    have hb0 := (fSb_7 h7).2
    rw [ej] at hb0
    refine x_aload_n Γ dX3_load_17 rfl ?_
    refine gf_X3_31 Γ dX3_load_18 (by decide) (by rfl) rfl ?_
    refine x_iload_n Γ dX3_load_21 rfl ?_
    refine x_aald Γ dX3_load_22 (by decide) (show _ = zR 4 (fun i => some (28 + 2 * i)) from rfl) rfl (by omega) (by decide) rfl ?_
    refine x_astore_n Γ dX3_load_23 (by decide) ?_
    refine x_aload_n Γ dX3_load_24 rfl ?_
    refine gf_X3_241 Γ dX3_load_25 (by omega) (cW_s0 hj4) rfl ?_
    refine x_aload_n Γ dX3_load_28 rfl ?_
    refine gf_X3_10 Γ dX3_load_29 (by decide) (by rfl) rfl ?_
    refine gf_X3_52 Γ dX3_load_32 (by decide) (by rfl) rfl ?_
    refine x_mmin Γ (by decide) wl_X3_265 dX3_load_35 (Nat.le_of_ble_eq_true rfl) (Nat.le_refl _) (Nat.le_refl _) ?_
    rw [ez, hN.1, mn_zN hz hN2]
    refine x_istore Γ dX3_load_38 (by decide) ?_
    refine x_iconst Γ (v := 0) dX3_load_40 rfl ?_
    refine x_istore Γ dX3_load_41 (by decide) ?_
    suffices L_43 : ∀ (f k n : Nat), k < f → n + k = 11 → n ≤ min z N → ldn R j z N k n = ldn R j z N 11 0 → zX Wf V m 6 H0 43 (zls [(0, .ref 0), (1, .int (nI j)), (3, .ref (28 + 2 * j)), (4, .int (nI (min z N))), (5, .int (nI n))]) [] (cW g (ldT T R j n) T2 T3 R X) 46 0 0 by
      exact x_subl [(0, .ref 0), (1, .int (nI j)), (3, .ref (28 + 2 * j)), (4, .int (nI (min z N))), (5, .int (nI 0))] (List.forall_mem_cons.mpr ⟨rfl, List.forall_mem_cons.mpr ⟨rfl, List.forall_mem_cons.mpr ⟨rfl, List.forall_mem_cons.mpr ⟨rfl, List.forall_mem_cons.mpr ⟨rfl, fun _ hz => absurd hz List.not_mem_nil⟩⟩⟩⟩⟩) (L_43 12 11 0 (by omega) (by omega) (by omega) rfl)
    intro f
    induction f with
    | zero => intro k n q1; omega
    | succ f ih =>
      intro k n q1 q2 q6 q3
      refine x_iload Γ dX3_load_43 rfl ?_
      refine x_iload Γ dX3_load_45 rfl ?_
      refine x_icmp_ge Γ (tgt := 90) dX3_load_47 (by decide) (fun c_2 => ?_) (fun c_2 => ?_)
      · have c_2 := z_le c_2 (by omega) (by omega)
        obtain rfl : n = min z N := by omega
        have hr : ldn R j z N 11 0 = min z N := q3.symm.trans (ldn_n (by omega))
        refine x_iload Γ dX3_load_90 rfl ?_
        exact x_iretx ρ rfl dX3_load_92 rfl (by rw [h7, rLd, ej, ezz, hr]; try rfl) (cQ_i (by rw [tLd, if_pos h7, rLd, ej, ezz, hr]) rfl (vis_e (by rw [h7]; try rfl)))
      · have c_2 := z_nle c_2 (by omega) (by omega)
        refine x_iconst Γ (v := 1) dX3_load_50 rfl ?_
        refine x_aload_n Γ dX3_load_51 rfl ?_
        refine gf_X3_256 Γ dX3_load_52 (by omega) (cW_s0 hj4) rfl ?_
        refine x_iload Γ dX3_load_55 rfl ?_
        refine x_iald Γ dX3_load_57 (by omega) (cW_s1 hj4) rfl (by first | assumption | omega) (by decide) (if_pos (by omega)) ?_
        refine x_callS Γ cals_X0_allowsTrait wl_X3_79 dX3_load_58 (m_X0_allowsTrait 1 (R 6 (40 * j + n))) rfl (by decide) rfl (Nat.le_of_ble_eq_true rfl) (Nat.le_refl _) (Nat.le_refl _) ?_
        rw [okT_1]
        refine x_if_ne Γ (tgt := 67) dX3_load_61 (by decide) (fun c_3 => ?_) (fun c_3 => ?_)
        · have c_3 := zb_n0.mp c_3
          obtain ⟨k1, rfl⟩ : ∃ k1, k = k1 + 1 := ⟨k - 1, by omega⟩
          have q5 : ldn R j z N k1 (n + 1) = ldn R j z N 11 0 := (if_pos ⟨by omega, by omega, c_3⟩).symm.trans q3
          refine x_aload_n Γ dX3_load_67 rfl ?_
          refine gf_X3_10 Γ dX3_load_68 (by decide) (by rfl) rfl ?_
          refine gf_X3_165 Γ dX3_load_71 (by decide) (by rfl) rfl ?_
          refine x_iload Γ dX3_load_74 rfl ?_
          refine x_aload_n Γ dX3_load_76 rfl ?_
          refine gf_X3_256 Γ dX3_load_77 (by omega) (cW_s0 hj4) rfl ?_
          refine x_iload Γ dX3_load_80 rfl ?_
          refine x_iald Γ dX3_load_82 (by omega) (cW_s1 hj4) rfl (by first | assumption | omega) (by decide) (if_pos (by omega)) ?_
          refine x_iast Γ dX3_load_83 (by decide) (by rfl) rfl (by first | assumption | omega) (by decide) (cW_a1 (j := 1) (by decide)) ?_
          refine x_iinc Γ dX3_load_84 rfl (by first | exact zinc _ | rfl) (by decide) ?_
          refine x_goto Γ (tgt := 43) dX3_load_87 (by decide) ?_
          exact x_subl [(0, .ref 0), (1, .int (nI j)), (3, .ref (28 + 2 * j)), (4, .int (nI (min z N))), (5, .int (nI (n + 1)))] (List.forall_mem_cons.mpr ⟨rfl, List.forall_mem_cons.mpr ⟨rfl, List.forall_mem_cons.mpr ⟨rfl, List.forall_mem_cons.mpr ⟨rfl, List.forall_mem_cons.mpr ⟨rfl, fun _ hz => absurd hz List.not_mem_nil⟩⟩⟩⟩⟩) (ih k1 (n + 1) (by omega) (by omega) (by omega) q5)
        · have c_3 := zb_0.mp c_3
          have hr : ldn R j z N 11 0 = n := q3.symm.trans (ldn_n (fun w => by rw [c_3] at w; cases w.2.2))
          refine x_iload Γ dX3_load_64 rfl ?_
          exact x_iretx ρ rfl dX3_load_66 rfl (by rw [h7, rLd, ej, ezz, hr]; try rfl) (cQ_i (by rw [tLd, if_pos h7, rLd, ej, ezz, hr]) rfl (vis_e (by rw [h7]; try rfl)))
  · have h8 := hdI_8 c_1
    rw [hdI_n h8]
    have h9 : fSb R s < 7 := by have := fSb_lt (R := R) (s := s); omega
    refine x_aload_n Γ dX3_load_11 rfl ?_
    refine x_iload_n Γ dX3_load_12 rfl ?_
    refine x_callV Γ calv_X3_finding wl_X3_48 dX3_load_13 (m_X3_finding (g := g) (T := T) (T2 := T2) (T3 := T3) (R := R) (X := X) (f := fSb R s) (h9)) rfl (by decide) (by decide) (by rfl) rfl rfl rfl (Nat.le_of_ble_eq_true rfl) (Nat.le_refl _) (Nat.le_refl _) ?_
    exact x_iretx ρ rfl dX3_load_16 rfl (zsi (fr_n h9)) (cQ_i (by rw [tLd, if_neg h8]) rfl vis_rf)

set_option maxRecDepth 100000 in
set_option maxHeartbeats 4000000 in
theorem m_X3_tally {g : Nat → zE} {T T2 T3 R : zT} {X : Nat → Int32} {N : Nat} (hN : wN T N) (hH : wH T N) (hL : wL T) (hS : wS R) (s : Int32) : zMx 4 M_X3_tally [.ref 0, .int s] (cW g T T2 T3 R X) 46 (some (.long (rTy T R N s))) (cQ g T T3 (gCf T R (fSb R s))) := by
  refine zMx.intro (by decide) (Nat.le_of_ble_eq_true rfl) ?_
  intro Wf V m H0 Γ ρ
  replace Γ : zC Wf V m 3 H0 cX3_tally RX3 4 0 0 := Γ
  show zX Wf V m 3 H0 0 (zls [(0, .ref 0), (1, .int s)]) [] (cW g T T2 T3 R X) 46 0 0
  have hN2 := hN.2
  refine x_aload_n Γ dX3_tally_0 rfl ?_
  refine x_iload_n Γ dX3_tally_1 rfl ?_
  refine x_callV Γ calv_X3_sheetHindrance wl_X3_244 dX3_tally_2 (m_X3_sheetHindrance (g := g) (T := T) (T2 := T2) (T3 := T3) (R := R) (X := X) s) rfl (by decide) (by decide) (by rfl) rfl rfl rfl (Nat.le_of_ble_eq_true rfl) (Nat.le_refl _) (Nat.le_refl _) ?_
  refine x_istore_n Γ dX3_tally_5 (by decide) ?_
  refine x_iload_n Γ dX3_tally_6 rfl ?_
  refine x_iconst Γ (v := -1) dX3_tally_7 rfl ?_
  refine x_icmp_eq Γ (tgt := 18) dX3_tally_8 (by decide) (fun c_1 => ?_) (fun c_1 => ?_)
  · have h7 := hdI_7 fSb_lt c_1
    obtain ⟨j, hj, rfl⟩ := inR_nI (n := 3) (fSb_7 h7).1 rfl (by omega)
    have ej : ci (nI j) = j := nI_clamp (by omega)
    have hj4 : j < 4 := by omega
    obtain ⟨z, hz, ez⟩ := hS j hj4
    have ezz : ci (R 5 j) = z := by rw [ez]; exact nI_clamp (by omega)
    have hsj := (fSb_7 h7).1
    have hb0 := (fSb_7 h7).2
    rw [ej] at hb0
    refine x_aload_n Γ dX3_tally_18 rfl ?_
    refine x_iconst Γ (v := 3) dX3_tally_19 rfl ?_
    refine x_iload_n Γ dX3_tally_20 rfl ?_
    refine x_callVx Γ calv_X3_waysThat wl_X3_194 dX3_tally_21 (m_X3_waysThat (g := g) (T := T) (T2 := T2) (T3 := T3) (R := R) (X := X) hN hH hL (p := pTy T R N j z) (q := fun W _ => tyS W R j (min N z)) 3 (nI j) (fun i => rfl) (fun W mk hW => m_X3_isSo_3 hW hj4 hz ez mk)) rfl (by decide) (by decide) (by rfl) rfl rfl rfl (Nat.le_of_ble_eq_true rfl) (Nat.le_refl _) (Nat.le_refl _) (fun h_x hQ_x => ?_)
    obtain ⟨T2x, Xx, rfl⟩ := hQ_x
    exact x_lretx ρ dX3_tally_24 (by rw [rTy, if_pos h7, ej, ezz]) (cQ_i rfl rfl (vis_cf7 h7))
  · have h8 := hdI_8 c_1
    rw [hdI_n h8]
    have h9 : fSb R s < 7 := by have := fSb_lt (R := R) (s := s); omega
    refine x_aload_n Γ dX3_tally_11 rfl ?_
    refine x_iload_n Γ dX3_tally_12 rfl ?_
    refine x_callV Γ calv_X3_finding wl_X3_48 dX3_tally_13 (m_X3_finding (g := g) (T := T) (T2 := T2) (T3 := T3) (R := R) (X := X) (f := fSb R s) (h9)) rfl (by decide) (by decide) (by rfl) rfl rfl rfl (Nat.le_of_ble_eq_true rfl) (Nat.le_refl _) (Nat.le_refl _) ?_
    refine x_i2l Γ dX3_tally_16 ?_
    exact x_lretx ρ dX3_tally_17 (by rw [rTy, if_neg h8]) (cQ_i rfl rfl (by rw [gCf, if_neg h8]; exact vis_rf))

set_option maxRecDepth 100000 in
set_option maxHeartbeats 4000000 in
theorem m_X3_judge {g : Nat → zE} {T T2 T3 R : zT} {X : Nat → Int32} {N : Nat} (hN : wN T N) (hH : wH T N) (hS : wS R) (s : Int32) : zMx 4 M_X3_judge [.ref 0, .int s] (cW g T T2 T3 R X) 46 (some (.int (fr (fJu T R s) (rJu T R N s)))) (cQ g (T) (T3) (gCf T R (fJu T R s))) := by
  refine zMx.intro (by decide) (Nat.le_of_ble_eq_true rfl) ?_
  intro Wf V m H0 Γ ρ
  replace Γ : zC Wf V m 5 H0 cX3_judge RX3 4 0 0 := Γ
  show zX Wf V m 5 H0 0 (zls [(0, .ref 0), (1, .int s)]) [] (cW g T T2 T3 R X) 46 0 0
  have hN2 := hN.2
  refine x_aload_n Γ dX3_judge_0 rfl ?_
  refine x_iload_n Γ dX3_judge_1 rfl ?_
  refine x_callV Γ calv_X3_sheetHindrance wl_X3_244 dX3_judge_2 (m_X3_sheetHindrance (g := g) (T := T) (T2 := T2) (T3 := T3) (R := R) (X := X) s) rfl (by decide) (by decide) (by rfl) rfl rfl rfl (Nat.le_of_ble_eq_true rfl) (Nat.le_refl _) (Nat.le_refl _) ?_
  refine x_istore_n Γ dX3_judge_5 (by decide) ?_
  refine x_iload_n Γ dX3_judge_6 rfl ?_
  refine x_iconst Γ (v := -1) dX3_judge_7 rfl ?_
  refine x_icmp_eq Γ (tgt := 17) dX3_judge_8 (by decide) (fun c_1 => ?_) (fun c_1 => ?_)
  · have h7 := hdI_7 fSb_lt c_1
    obtain ⟨j, hj, rfl⟩ := inR_nI (n := 3) (fSb_7 h7).1 rfl (by omega)
    have ej : ci (nI j) = j := nI_clamp (by omega)
    have hj4 : j < 4 := by omega
    obtain ⟨z, hz, ez⟩ := hS j hj4
    have ezz : ci (R 5 j) = z := by rw [ez]; exact nI_clamp (by omega)
    have hsj := (fSb_7 h7).1
    have hb0 := (fSb_7 h7).2
    rw [ej] at hb0
    refine x_aload_n Γ dX3_judge_17 rfl ?_
    refine gf_X3_31 Γ dX3_judge_18 (by decide) (by rfl) rfl ?_
    refine x_iload_n Γ dX3_judge_21 rfl ?_
    refine x_aald Γ dX3_judge_22 (by decide) (show _ = zR 4 (fun i => some (28 + 2 * i)) from rfl) rfl (by omega) (by decide) rfl ?_
    refine x_astore_n Γ dX3_judge_23 (by decide) ?_
    refine x_aload_n Γ dX3_judge_24 rfl ?_
    refine gf_X3_10 Γ dX3_judge_25 (by decide) (by rfl) rfl ?_
    refine gf_X3_97 Γ dX3_judge_28 (by decide) (by rfl) rfl ?_
    refine x_aload_n Γ dX3_judge_31 rfl ?_
    refine gf_X3_241 Γ dX3_judge_32 (by omega) (cW_s0 hj4) rfl ?_
    refine x_iadd Γ dX3_judge_35 ?_
    refine x_sipush Γ (v := 999) dX3_judge_36 rfl ?_
    refine x_icmp_le Γ (tgt := 48) dX3_judge_39 (by decide) (fun c_2 => ?_) (fun c_2 => ?_)
    · have hF : fJu T R (nI j) = 7 := by rw [fJu, if_pos hsj, ej, if_neg hb0, if_neg (Int32.not_lt.mpr c_2)]
      refine x_aload_n Γ dX3_judge_48 rfl ?_
      refine gf_X3_16 Γ dX3_judge_49 (by decide) (by rfl) rfl ?_
      refine x_aload_n Γ dX3_judge_52 rfl ?_
      refine gf_X3_10 Γ dX3_judge_53 (by decide) (by rfl) rfl ?_
      refine x_callVv Γ calv_X0_become wl_X3_131 dX3_judge_56 (bec91) rfl (by decide) (by decide) (by rfl) rfl rfl rfl (Nat.le_of_ble_eq_true rfl) (Nat.le_refl _) (Nat.le_refl _) ?_
      refine x_iconst Γ (v := 0) dX3_judge_59 rfl ?_
      refine x_istore Γ dX3_judge_60 (by decide) ?_
      suffices L_62 : ∀ (f k i : Nat), k < f → i + k = z → jdS T R N j k i = jdS T R N j z 0 → zX Wf V m 5 H0 62 (zls [(0, .ref 0), (3, .ref (28 + 2 * j)), (4, .int (nI i))]) [] (cW g T (wks N i T) T3 R X) 46 0 0 by
        exact x_subl [(0, .ref 0), (3, .ref (28 + 2 * j)), (4, .int (nI 0))] (List.forall_mem_cons.mpr ⟨rfl, List.forall_mem_cons.mpr ⟨rfl, List.forall_mem_cons.mpr ⟨rfl, fun _ hz => absurd hz List.not_mem_nil⟩⟩⟩) (L_62 (z + 1) z 0 (by omega) (by omega) rfl)
      intro f
      induction f with
      | zero => intro k i q1; omega
      | succ f ih =>
        intro k i q1 q2 q3
        refine x_iload Γ dX3_judge_62 rfl ?_
        refine x_aload_n Γ dX3_judge_64 rfl ?_
        refine gf_X3_241 Γ dX3_judge_65 (by omega) (cW_s0 hj4) rfl ?_
        refine x_icmp_ge Γ (tgt := 107) dX3_judge_68 (by decide) (fun c_3 => ?_) (fun c_3 => ?_)
        · rw [ez] at c_3
          have c_3 := z_le c_3 (by omega) (by omega)
          obtain rfl : k = 0 := by omega
          have hr : jdS T R N j z 0 = 0 := q3.symm
          refine x_iconst Γ (v := 0) dX3_judge_107 rfl ?_
          exact x_iretx ρ rfl dX3_judge_108 rfl (by rw [hF, rJu, ej, ezz, hr]; try rfl) (cQ_i (rfl) rfl (vis_tr (vis_e (by rw [hF]; try rfl)) vis_Cf))
        · rw [ez] at c_3
          have c_3 := z_nle c_3 (by omega) (by omega)
          obtain ⟨k1, rfl⟩ : ∃ k1, k = k1 + 1 := ⟨k - 1, by omega⟩
          refine x_aload_n Γ dX3_judge_71 rfl ?_
          refine gf_X3_16 Γ dX3_judge_72 (by decide) (by rfl) rfl ?_
          refine x_callV Γ calv_X0_passWeek wl_X3_270 dX3_judge_75 (cM9 (m_X0_passWeek (g := cW g T (wks N i T) T3 R X) (b := 9) (T := wks N i T) (by omega) (wks_N hN i) (wks_H hH i))) rfl (by decide) (by decide) (by rfl) rfl rfl rfl (Nat.le_of_ble_eq_true rfl) (Nat.le_refl _) (Nat.le_refl _) ?_
          refine x_pop Γ dX3_judge_78 rfl ?_
          refine x_aload_n Γ dX3_judge_79 rfl ?_
          refine gf_X3_16 Γ dX3_judge_80 (by decide) (by rfl) rfl ?_
          refine gf_X3_100 Γ dX3_judge_83 (by decide) (by rfl) rfl ?_
          refine x_aload_n Γ dX3_judge_86 rfl ?_
          refine gf_X3_256 Γ dX3_judge_87 (by omega) (cW_s0 hj4) rfl ?_
          refine x_iload Γ dX3_judge_90 rfl ?_
          refine x_iald Γ dX3_judge_92 (by omega) (cW_s1 hj4) rfl (by first | assumption | omega) (by decide) (if_pos (by omega)) ?_
          refine x_icmp_eq Γ (tgt := 101) dX3_judge_93 (by decide) (fun c_4 => ?_) (fun c_4 => ?_)
          · have q5 : jdS T R N j k1 (i + 1) = jdS T R N j z 0 := (if_pos c_4.symm).symm.trans q3
            refine x_iinc Γ dX3_judge_101 rfl (by first | exact zinc _ | rfl) (by decide) ?_
            refine x_goto Γ (tgt := 62) dX3_judge_104 (by decide) ?_
            exact x_subl [(0, .ref 0), (3, .ref (28 + 2 * j)), (4, .int (nI (i + 1)))] (List.forall_mem_cons.mpr ⟨rfl, List.forall_mem_cons.mpr ⟨rfl, List.forall_mem_cons.mpr ⟨rfl, fun _ hz => absurd hz List.not_mem_nil⟩⟩⟩) (ih k1 (i + 1) (by omega) (by omega) q5)
          · have hr : jdS T R N j z 0 = nI (i + 1) := q3.symm.trans (if_neg (fun w => c_4 w.symm))
            refine x_iconst Γ (v := 1) dX3_judge_96 rfl ?_
            refine x_iload Γ dX3_judge_97 rfl ?_
            refine x_iadd Γ dX3_judge_99 ?_
            exact x_iretx ρ rfl dX3_judge_100 rfl (by rw [hF, rJu, ej, ezz, hr]; exact zsi (by rw [fr_7, Int32.add_comm, nI_1])) (cQ_i (rfl) rfl (vis_tr (vis_e (by rw [hF]; try rfl)) vis_Cf))
    · have hF : fJu T R (nI j) = 4 := by rw [fJu, if_pos hsj, ej, if_neg hb0, if_pos (Int32.not_le.mp c_2)]
      refine x_aload_n Γ dX3_judge_42 rfl ?_
      refine x_iconst Γ (v := 4) dX3_judge_43 rfl ?_
      refine x_callV Γ calv_X3_finding wl_X3_48 dX3_judge_44 (m_X3_finding (g := g) (T := T) (T2 := T2) (T3 := T3) (R := R) (X := X) (f := 4) (by decide)) rfl (by decide) (by decide) (by rfl) rfl rfl rfl (Nat.le_of_ble_eq_true rfl) (Nat.le_refl _) (Nat.le_refl _) ?_
      exact x_iretx ρ rfl dX3_judge_47 rfl (by rw [hF]; try rfl) (cQ_i (rfl) rfl (vis_tr (vis_e (by rw [hF])) vis_Cf))
  · have h8 := hdI_8 c_1
    rw [hdI_n h8]
    have h9 : fSb R s < 7 := by have := fSb_lt (R := R) (s := s); omega
    refine x_aload_n Γ dX3_judge_11 rfl ?_
    refine x_iload_n Γ dX3_judge_12 rfl ?_
    refine x_callV Γ calv_X3_finding wl_X3_48 dX3_judge_13 (m_X3_finding (g := g) (T := T) (T2 := T2) (T3 := T3) (R := R) (X := X) (f := fSb R s) (h9)) rfl (by decide) (by decide) (by rfl) rfl rfl rfl (Nat.le_of_ble_eq_true rfl) (Nat.le_refl _) (Nat.le_refl _) ?_
    exact x_iretx ρ rfl dX3_judge_16 rfl (by rw [fJu_n h8]; exact zsi (fr_n h9)) (cQ_i (rfl) rfl (vis_tr (vis_e (by rw [fJu_n h8])) vis_Cf))

theorem vis_im {R : zT} {x : Nat → Int32} {v : Int32} : visR (ts R 7 0 v) (ts (tr R 1 x) 7 0 v) := ⟨fun a h1 h2 => by rw [ts_n (by omega), ts_n (by omega), tr_n (by omega)], by rw [ts_s, ts_s], by rw [ts_i (by decide), ts_i (by decide), tr_n (by decide)]⟩
theorem vis_im0 {R : zT} {x : Nat → Int32} {v : Int32} : visR (ts R 7 0 v) (ts (tr R 0 x) 7 0 v) := ⟨fun a h1 h2 => by rw [ts_n (by omega), ts_n (by omega), tr_n (by omega)], by rw [ts_s, ts_s], by rw [ts_i (by decide), ts_i (by decide), tr_n (by decide)]⟩

set_option maxRecDepth 100000 in
set_option maxHeartbeats 4000000 in
theorem m_X3_image {g : Nat → zE} {T T2 T3 R : zT} {X : Nat → Int32}  : zMx 2 M_X3_image [.ref 0] (cW g T T2 T3 R X) 46 (some (.int 1)) (cQ g T T (ts (tr R 0 (mr T)) 7 0 1)) := by
  refine zMx.intro (by decide) (Nat.le_of_ble_eq_true rfl) ?_
  intro Wf V m H0 Γ ρ
  replace Γ : zC Wf V m 1 H0 cX3_image RX3 2 0 0 := Γ
  show zX Wf V m 1 H0 0 (zls [(0, .ref 0)]) [] (cW g T T2 T3 R X) 46 0 0
  refine x_aload_n Γ dX3_image_0 rfl ?_
  refine gf_X3_19 Γ dX3_image_1 (by decide) (by rfl) rfl ?_
  refine x_aload_n Γ dX3_image_4 rfl ?_
  refine gf_X3_10 Γ dX3_image_5 (by decide) (by rfl) rfl ?_
  refine x_callVv Γ calv_X0_become wl_X3_131 dX3_image_8 (bec171) rfl (by decide) (by decide) (by rfl) rfl rfl rfl (Nat.le_of_ble_eq_true rfl) (Nat.le_refl _) (Nat.le_refl _) ?_
  refine x_aload_n Γ dX3_image_11 rfl ?_
  refine x_iconst Γ (v := 1) dX3_image_12 rfl ?_
  refine pf_X3_40 Γ (hx := rfl) dX3_image_13 (by decide) (by rfl) (Nat.le_of_ble_eq_true rfl) cW_k ?_
  refine x_iconst Γ (v := 1) dX3_image_16 rfl ?_
  exact x_iretx ρ rfl dX3_image_17 rfl (rfl) (cQ_i rfl rfl vis_im0)

set_option maxRecDepth 100000 in
set_option maxHeartbeats 4000000 in
theorem m_X3_undo {g : Nat → zE} {T T2 T3 R : zT} {X : Nat → Int32}  : zMx 2 M_X3_undo [.ref 0] (cW g T T2 T3 R X) 46 (some (.int (if R 7 0 = 0 then -1000004 else T3 7 5))) (cQ g (if R 7 0 = 0 then T else T3) T3 (if R 7 0 = 0 then ts R 2 3 (R 2 3 + 1) else R)) := by
  refine zMx.intro (by decide) (Nat.le_of_ble_eq_true rfl) ?_
  intro Wf V m H0 Γ ρ
  replace Γ : zC Wf V m 1 H0 cX3_undo RX3 2 0 0 := Γ
  show zX Wf V m 1 H0 0 (zls [(0, .ref 0)]) [] (cW g T T2 T3 R X) 46 0 0
  refine x_aload_n Γ dX3_undo_0 rfl ?_
  refine gf_X3_40 Γ dX3_undo_1 (by decide) (by rfl) rfl ?_
  refine x_if_ne Γ (tgt := 13) dX3_undo_4 (by decide) (fun c_1 => ?_) (fun c_1 => ?_)
  · have h0 := c_1
    refine x_aload_n Γ dX3_undo_13 rfl ?_
    refine gf_X3_10 Γ dX3_undo_14 (by decide) (by rfl) rfl ?_
    refine x_aload_n Γ dX3_undo_17 rfl ?_
    refine gf_X3_19 Γ dX3_undo_18 (by decide) (by rfl) rfl ?_
    refine x_callVv Γ calv_X0_become wl_X3_131 dX3_undo_21 (bec117) rfl (by decide) (by decide) (by rfl) rfl rfl rfl (Nat.le_of_ble_eq_true rfl) (Nat.le_refl _) (Nat.le_refl _) ?_
    refine x_aload_n Γ dX3_undo_24 rfl ?_
    refine gf_X3_10 Γ dX3_undo_25 (by decide) (by rfl) rfl ?_
    refine gf_X3_97 Γ dX3_undo_28 (by decide) (by rfl) rfl ?_
    exact x_iretx ρ rfl dX3_undo_31 rfl (by rw [if_neg h0]) (cQ_i (if_neg h0).symm rfl (vis_e (if_neg h0).symm))
  · have h0 := c_1
    refine x_aload_n Γ dX3_undo_7 rfl ?_
    refine x_iconst Γ (v := 3) dX3_undo_8 rfl ?_
    refine x_callV Γ calv_X3_finding wl_X3_48 dX3_undo_9 (m_X3_finding (g := g) (T := T) (T2 := T2) (T3 := T3) (R := R) (X := X) (f := 3) (by decide)) rfl (by decide) (by decide) (by rfl) rfl rfl rfl (Nat.le_of_ble_eq_true rfl) (Nat.le_refl _) (Nat.le_refl _) ?_
    exact x_iretx ρ rfl dX3_undo_12 rfl (by rw [if_pos h0]; try rfl) (cQ_i (if_pos h0).symm rfl (vis_e (by rw [if_pos h0]; try rfl)))

set_option maxRecDepth 100000 in
set_option maxHeartbeats 4000000 in
theorem m_X3_tear {g : Nat → zE} {T T2 T3 R : zT} {X : Nat → Int32}  : zMx 0 M_X3_tear [.ref 0] (cW g T T2 T3 R X) 46 (some (.int (if R 7 0 = 0 then 0 else 1))) (cQ g T T3 (ts R 7 0 0)) := by
  refine zMx.intro (by decide) (Nat.le_of_ble_eq_true rfl) ?_
  intro Wf V m H0 Γ ρ
  replace Γ : zC Wf V m 2 H0 cX3_tear RX3 0 0 0 := Γ
  show zX Wf V m 2 H0 0 (zls [(0, .ref 0)]) [] (cW g T T2 T3 R X) 46 0 0
  refine x_aload_n Γ dX3_tear_0 rfl ?_
  refine gf_X3_40 Γ dX3_tear_1 (by decide) (by rfl) rfl ?_
  refine x_if_eq Γ (tgt := 11) dX3_tear_4 (by decide) (fun c_1 => ?_) (fun c_1 => ?_)
  · have h0 : (if R 7 0 = 0 then (0 : Int32) else 1) = 0 := if_pos c_1
    refine x_iconst Γ (v := 0) dX3_tear_11 rfl ?_
    refine x_istore_n Γ dX3_tear_12 (by decide) ?_
    refine x_aload_n Γ dX3_tear_13 rfl ?_
    refine x_iconst Γ (v := 0) dX3_tear_14 rfl ?_
    refine pf_X3_40 Γ (hx := rfl) dX3_tear_15 (by decide) (by rfl) (Nat.le_of_ble_eq_true rfl) cW_k ?_
    refine x_iload_n Γ dX3_tear_18 rfl ?_
    exact x_iretx ρ rfl dX3_tear_19 rfl (by rw [h0]) (cQ_i rfl rfl vis_rf)
  · have h0 : (if R 7 0 = 0 then (0 : Int32) else 1) = 1 := if_neg c_1
    refine x_iconst Γ (v := 1) dX3_tear_7 rfl ?_
    refine x_goto Γ (tgt := 12) dX3_tear_8 (by decide) ?_
    refine x_istore_n Γ dX3_tear_12 (by decide) ?_
    refine x_aload_n Γ dX3_tear_13 rfl ?_
    refine x_iconst Γ (v := 0) dX3_tear_14 rfl ?_
    refine pf_X3_40 Γ (hx := rfl) dX3_tear_15 (by decide) (by rfl) (Nat.le_of_ble_eq_true rfl) cW_k ?_
    refine x_iload_n Γ dX3_tear_18 rfl ?_
    exact x_iretx ρ rfl dX3_tear_19 rfl (by rw [h0]) (cQ_i rfl rfl vis_rf)

set_option maxRecDepth 100000 in
set_option maxHeartbeats 4000000 in
theorem m_X3_count {g : Nat → zE} {T T2 T3 R : zT} {X : Nat → Int32} {N : Nat} (hN : wN T N) (w : Int32) : zMx 1 M_X3_count [.ref 0, .int w] (cW g T T2 T3 R X) 46 (some (.int (fr (fCnt w) (rCnt T R N w)))) (cQ g (T) (T3) (fR R (fCnt w))) := by
  refine zMx.intro (by decide) (Nat.le_of_ble_eq_true rfl) ?_
  intro Wf V m H0 Γ ρ
  replace Γ : zC Wf V m 2 H0 cX3_count RX3 1 0 0 := Γ
  show zX Wf V m 2 H0 0 (zls [(0, .ref 0), (1, .int w)]) [] (cW g T T2 T3 R X) 46 0 0
  have hN2 := hN.2
  refine x_iload_n Γ dX3_count_0 rfl ?_
  refine x_tab8 Γ (a0 := 0) (a1 := 1) (a2 := 2) (a3 := 3) (a4 := 4) (a5 := 5) (a6 := 6) (a7 := 7) (t0 := 48) (t1 := 56) (t2 := 64) (t3 := 79) (t4 := 94) (t5 := 109) (t6 := 117) (t7 := 125) (td := 133) dX3_count_1 (by decide +kernel) (fun c_1 => ?_) (fun c_1 => ?_) (fun c_1 => ?_) (fun c_1 => ?_) (fun c_1 => ?_) (fun c_1 => ?_) (fun c_1 => ?_) (fun c_1 => ?_) (fun c_1_0 c_1_1 c_1_2 c_1_3 c_1_4 c_1_5 c_1_6 c_1_7 => ?_)
  · have hw := c_1
    have hF : fCnt w = 7 := by rw [fCnt, hw]; decide
    refine x_aload_n Γ dX3_count_48 rfl ?_
    refine gf_X3_10 Γ dX3_count_49 (by decide) (by rfl) rfl ?_
    refine gf_X3_97 Γ dX3_count_52 (by decide) (by rfl) rfl ?_
    exact x_iretx ρ rfl dX3_count_55 rfl (by rw [hF, rCnt, hw]; try rfl) (cQ_i (rfl) rfl (vis_tr (vis_e (by rw [hF]; try rfl)) vis_rf))
  · have hw := c_1
    have hF : fCnt w = 7 := by rw [fCnt, hw]; decide
    refine x_aload_n Γ dX3_count_56 rfl ?_
    refine gf_X3_10 Γ dX3_count_57 (by decide) (by rfl) rfl ?_
    refine gf_X3_52 Γ dX3_count_60 (by decide) (by rfl) rfl ?_
    exact x_iretx ρ rfl dX3_count_63 rfl (by rw [hF, rCnt, hw]; try rfl) (cQ_i (rfl) rfl (vis_tr (vis_e (by rw [hF]; try rfl)) vis_rf))
  · have hw := c_1
    have hF : fCnt w = 7 := by rw [fCnt, hw]; decide
    refine x_aload_n Γ dX3_count_64 rfl ?_
    refine gf_X3_10 Γ dX3_count_65 (by decide) (by rfl) rfl ?_
    refine x_aload_n Γ dX3_count_68 rfl ?_
    refine gf_X3_10 Γ dX3_count_69 (by decide) (by rfl) rfl ?_
    refine gf_X3_165 Γ dX3_count_72 (by decide) (by rfl) rfl ?_
    refine x_callV Γ calv_X0_allOf wl_X3_168 dX3_count_75 (cM1 (m_X0_allOf (g := cW g T T2 T3 R X) (b := 1) (T := T) (by omega) hN (q := 1 + 2) (F := T 1) (by decide) rfl)) rfl (by decide) (by decide) (by rfl) rfl rfl rfl (Nat.le_of_ble_eq_true rfl) (Nat.le_refl _) (Nat.le_refl _) ?_
    exact x_iretx ρ rfl dX3_count_78 rfl (by rw [hF, rCnt, hw]; try rfl) (cQ_i (rfl) rfl (vis_tr (vis_e (by rw [hF]; try rfl)) vis_rf))
  · have hw := c_1
    have hF : fCnt w = 7 := by rw [fCnt, hw]; decide
    refine x_aload_n Γ dX3_count_79 rfl ?_
    refine gf_X3_10 Γ dX3_count_80 (by decide) (by rfl) rfl ?_
    refine x_aload_n Γ dX3_count_83 rfl ?_
    refine gf_X3_10 Γ dX3_count_84 (by decide) (by rfl) rfl ?_
    refine gf_X3_142 Γ dX3_count_87 (by decide) (by rfl) rfl ?_
    refine x_callV Γ calv_X0_allOf wl_X3_168 dX3_count_90 (cM1 (m_X0_allOf (g := cW g T T2 T3 R X) (b := 1) (T := T) (by omega) hN (q := 1 + 4) (F := T 3) (by decide) rfl)) rfl (by decide) (by decide) (by rfl) rfl rfl rfl (Nat.le_of_ble_eq_true rfl) (Nat.le_refl _) (Nat.le_refl _) ?_
    exact x_iretx ρ rfl dX3_count_93 rfl (by rw [hF, rCnt, hw]; try rfl) (cQ_i (rfl) rfl (vis_tr (vis_e (by rw [hF]; try rfl)) vis_rf))
  · have hw := c_1
    have hF : fCnt w = 7 := by rw [fCnt, hw]; decide
    refine x_aload_n Γ dX3_count_94 rfl ?_
    refine gf_X3_10 Γ dX3_count_95 (by decide) (by rfl) rfl ?_
    refine x_aload_n Γ dX3_count_98 rfl ?_
    refine gf_X3_10 Γ dX3_count_99 (by decide) (by rfl) rfl ?_
    refine gf_X3_63 Γ dX3_count_102 (by decide) (by rfl) rfl ?_
    refine x_callV Γ calv_X0_allOf wl_X3_168 dX3_count_105 (cM1 (m_X0_allOf (g := cW g T T2 T3 R X) (b := 1) (T := T) (by omega) hN (q := 1 + 5) (F := T 4) (by decide) rfl)) rfl (by decide) (by decide) (by rfl) rfl rfl rfl (Nat.le_of_ble_eq_true rfl) (Nat.le_refl _) (Nat.le_refl _) ?_
    exact x_iretx ρ rfl dX3_count_108 rfl (by rw [hF, rCnt, hw]; try rfl) (cQ_i (rfl) rfl (vis_tr (vis_e (by rw [hF]; try rfl)) vis_rf))
  · have hw := c_1
    have hF : fCnt w = 7 := by rw [fCnt, hw]; decide
    refine x_aload_n Γ dX3_count_109 rfl ?_
    refine gf_X3_25 Γ dX3_count_110 (by decide) (by rfl) rfl ?_
    refine gf_X3_204 Γ dX3_count_113 (by decide) (by rfl) rfl ?_
    exact x_iretx ρ rfl dX3_count_116 rfl (by rw [hF, rCnt, hw]; try rfl) (cQ_i (rfl) rfl (vis_tr (vis_e (by rw [hF]; try rfl)) vis_rf))
  · have hw := c_1
    have hF : fCnt w = 7 := by rw [fCnt, hw]; decide
    refine x_aload_n Γ dX3_count_117 rfl ?_
    refine gf_X3_10 Γ dX3_count_118 (by decide) (by rfl) rfl ?_
    refine gf_X3_201 Γ dX3_count_121 (by decide) (by rfl) rfl ?_
    exact x_iretx ρ rfl dX3_count_124 rfl (by rw [hF, rCnt, hw]; try rfl) (cQ_i (rfl) rfl (vis_tr (vis_e (by rw [hF]; try rfl)) vis_rf))
  · have hw := c_1
    have hF : fCnt w = 7 := by rw [fCnt, hw]; decide
    refine x_aload_n Γ dX3_count_125 rfl ?_
    refine gf_X3_10 Γ dX3_count_126 (by decide) (by rfl) rfl ?_
    refine x_callV Γ calv_X0_heldSpots wl_X3_273 dX3_count_129 (cM1 (m_X0_heldSpots (g := cW g T T2 T3 R X) (b := 1) (T := T) (by omega) )) rfl (by decide) (by decide) (by rfl) rfl rfl rfl (Nat.le_of_ble_eq_true rfl) (Nat.le_refl _) (Nat.le_refl _) ?_
    exact x_iretx ρ rfl dX3_count_132 rfl (by rw [hF, rCnt, hw]; try rfl) (cQ_i (rfl) rfl (vis_tr (vis_e (by rw [hF]; try rfl)) vis_rf))
  · have hF : fCnt w = 0 := if_neg (by rw [in7_no c_1_0 c_1_1 c_1_2 c_1_3 c_1_4 c_1_5 c_1_6 c_1_7]; decide)
    refine x_aload_n Γ dX3_count_133 rfl ?_
    refine x_iconst Γ (v := 0) dX3_count_134 rfl ?_
    refine x_callV Γ calv_X3_finding wl_X3_48 dX3_count_135 (m_X3_finding (g := g) (T := T) (T2 := T2) (T3 := T3) (R := R) (X := X) (f := 0) (by decide)) rfl (by decide) (by decide) (by rfl) rfl rfl rfl (Nat.le_of_ble_eq_true rfl) (Nat.le_refl _) (Nat.le_refl _) ?_
    exact x_iretx ρ rfl dX3_count_138 rfl (by rw [hF]; try rfl) (cQ_i (rfl) rfl (vis_tr (vis_e (by rw [hF])) vis_rf))

theorem sum7 (F : Nat → Int32) : ∀ j, j < 7 → sumW (fun k => if nI j < 0 ∨ nI j = nI k then F k else 0) 7 = F j := by
  intro j hj
  have h0 : ¬ nI j < 0 := nI_pos (by omega)
  have e : ∀ k, k < 7 → ((nI j < 0 ∨ nI j = nI k) ↔ j = k) := fun k hk => ⟨fun z => z.elim (fun y => absurd y h0) (fun y => (nI_eq (by omega) (by omega)).mp y), fun z => Or.inr (by rw [z])⟩
  simp only [sumW, e 0 (by omega), e 1 (by omega), e 2 (by omega), e 3 (by omega), e 4 (by omega), e 5 (by omega), e 6 (by omega)]
  match j, hj with
  | 0, _ => simp
  | 1, _ => simp
  | 2, _ => simp
  | 3, _ => simp
  | 4, _ => simp
  | 5, _ => simp
  | 6, _ => simp
theorem sum7n (F : Nat → Int32) {w : Int32} (h : w < 0) : sumW (fun k => if w < 0 ∨ w = nI k then F k else 0) 7 = sumW F 7 := by
  congr 1
  funext k
  exact if_pos (Or.inl h)
theorem in_m1 {w : Int32} : inR w (-1) 6 = (!decide (w < -1) && !decide (7 ≤ w)) := by
  rw [inR, show decide (6 < w) = decide (7 ≤ w) from by rw [Bool.eq_iff_iff, decide_eq_true_eq, decide_eq_true_eq]; exact (ge_t rfl).symm]

set_option maxRecDepth 100000 in
set_option maxHeartbeats 4000000 in
theorem m_X3_status {g : Nat → zE} {T T2 T3 R : zT} {X : Nat → Int32} (w : Int32) : zMx 1 M_X3_status [.ref 0, .int w] (cW g T T2 T3 R X) 46 (some (.int (fr (fSta w) (rSta R w)))) (cQ g (T) (T3) (fR R (fSta w))) := by
  refine zMx.intro (by decide) (Nat.le_of_ble_eq_true rfl) ?_
  intro Wf V m H0 Γ ρ
  replace Γ : zC Wf V m 4 H0 cX3_status RX3 1 0 0 := Γ
  show zX Wf V m 4 H0 0 (zls [(0, .ref 0), (1, .int w)]) [] (cW g T T2 T3 R X) 46 0 0
  refine x_iload_n Γ dX3_status_0 rfl ?_
  refine x_iconst Γ (v := -1) dX3_status_1 rfl ?_
  refine x_icmp_lt Γ (tgt := 11) dX3_status_2 (by decide) (fun c_1 => ?_) (fun c_1 => ?_)
  · have hF : fSta w = 0 := if_neg (by rw [in_m1, decide_eq_true c_1]; simp)
    refine x_aload_n Γ dX3_status_11 rfl ?_
    refine x_iconst Γ (v := 0) dX3_status_12 rfl ?_
    refine x_callV Γ calv_X3_finding wl_X3_48 dX3_status_13 (m_X3_finding (g := g) (T := T) (T2 := T2) (T3 := T3) (R := R) (X := X) (f := 0) (by decide)) rfl (by decide) (by decide) (by rfl) rfl rfl rfl (Nat.le_of_ble_eq_true rfl) (Nat.le_refl _) (Nat.le_refl _) ?_
    exact x_iretx ρ rfl dX3_status_16 rfl (by rw [hF]; try rfl) (cQ_i (rfl) rfl (vis_tr (vis_e (by rw [hF])) vis_rf))
  · have q1 := c_1
    refine x_iload_n Γ dX3_status_5 rfl ?_
    refine x_bipush Γ (v := 7) dX3_status_6 rfl ?_
    refine x_icmp_lt Γ (tgt := 17) dX3_status_8 (by decide) (fun c_2 => ?_) (fun c_2 => ?_)
    · have q2 := c_2
      refine x_iload_n Γ dX3_status_17 rfl ?_
      refine x_if_lt Γ (tgt := 28) dX3_status_18 (by decide) (fun c_3 => ?_) (fun c_3 => ?_)
      · have hF : fSta w = 7 := if_pos (by rw [in_m1, decide_eq_false q1, decide_eq_false (Int32.not_le.mpr q2)]; rfl)
        have hneg := c_3
        refine x_iconst Γ (v := 0) dX3_status_28 rfl ?_
        refine x_istore_n Γ dX3_status_29 (by decide) ?_
        refine x_iconst Γ (v := 0) dX3_status_30 rfl ?_
        refine x_istore_n Γ dX3_status_31 (by decide) ?_
        suffices L_32 : ∀ (k c : Nat), c ≤ 7 → 7 - c < k → zX Wf V m 4 H0 32 (zls [(0, .ref 0), (1, .int w), (2, .int (sumW (R 2) c)), (3, .int (nI c))]) [] (cW g T T2 T3 R X) 46 0 0 by
          exact x_subl [(0, .ref 0), (1, .int w), (2, .int (sumW (R 2) 0)), (3, .int (nI 0))] (List.forall_mem_cons.mpr ⟨rfl, List.forall_mem_cons.mpr ⟨rfl, List.forall_mem_cons.mpr ⟨rfl, List.forall_mem_cons.mpr ⟨rfl, fun _ hz => absurd hz List.not_mem_nil⟩⟩⟩⟩) (x_heap (rfl) (L_32 (7 + 1) 0  (by omega) (by omega)))
        intro k
        induction k with
        | zero => intro c  h1 h2; omega
        | succ k ih =>
          intro c  h1 h2
          refine x_iload_n Γ dX3_status_32 rfl ?_
          refine x_bipush Γ (v := 7) dX3_status_33 rfl ?_
          refine x_icmp_ge Γ (tgt := 53) dX3_status_35 (by decide) (fun c_4 => ?_) (fun c_4 => ?_)
          · have c_4 := z_le (a := 7) c_4 (by omega) (by omega)
            obtain rfl : c = 7 := by omega
            refine x_iload_n Γ dX3_status_53 rfl ?_
            exact x_iretx ρ rfl dX3_status_54 rfl (by rw [hF, rSta, sum7n (R 2) hneg]; try rfl) (cQ_i (rfl) rfl (vis_tr (vis_e (by rw [hF]; try rfl)) vis_rf))
          · have c_4 := z_nle (a := 7) c_4 (by omega) (by omega)
            refine x_iload_n Γ dX3_status_38 rfl ?_
            refine x_aload_n Γ dX3_status_39 rfl ?_
            refine gf_X3_36 Γ dX3_status_40 (by decide) (by rfl) rfl ?_
            refine x_iload_n Γ dX3_status_43 rfl ?_
            refine x_iald Γ dX3_status_44 (by decide) (by rfl) rfl (by first | assumption | omega) (by decide) rfl ?_
            refine x_iadd Γ dX3_status_45 ?_
            refine x_istore_n Γ dX3_status_46 (by decide) ?_
            refine x_iinc Γ dX3_status_47 rfl (by first | exact zinc _ | rfl) (by decide) ?_
            refine x_goto Γ (tgt := 32) dX3_status_50 (by decide) ?_
            exact x_subl [(0, .ref 0), (1, .int w), (2, .int (sumW (R 2) (c + 1))), (3, .int (nI (c + 1)))] (List.forall_mem_cons.mpr ⟨rfl, List.forall_mem_cons.mpr ⟨rfl, List.forall_mem_cons.mpr ⟨rfl, List.forall_mem_cons.mpr ⟨rfl, fun _ hz => absurd hz List.not_mem_nil⟩⟩⟩⟩) (x_heap (rfl) (ih (c + 1) (by omega) (by omega)))
      · have hF : fSta w = 7 := if_pos (by rw [in_m1, decide_eq_false q1, decide_eq_false (Int32.not_le.mpr q2)]; rfl)
        obtain ⟨j, hj0, rfl⟩ := nI_of c_3
        have hj : j < 7 := z_lt (b := 7) q2 (by omega) (by omega)
        refine x_aload_n Γ dX3_status_21 rfl ?_
        refine gf_X3_36 Γ dX3_status_22 (by decide) (by rfl) rfl ?_
        refine x_iload_n Γ dX3_status_25 rfl ?_
        refine x_iald Γ dX3_status_26 (by decide) (by rfl) rfl (by first | assumption | omega) (by decide) rfl ?_
        exact x_iretx ρ rfl dX3_status_27 rfl (by rw [hF, rSta, sum7 (R 2) j hj]; try rfl) (cQ_i (rfl) rfl (vis_tr (vis_e (by rw [hF]; try rfl)) vis_rf))
    · have hF : fSta w = 0 := if_neg (by rw [in_m1, decide_eq_true (Int32.not_lt.mp c_2)]; simp)
      refine x_aload_n Γ dX3_status_11 rfl ?_
      refine x_iconst Γ (v := 0) dX3_status_12 rfl ?_
      refine x_callV Γ calv_X3_finding wl_X3_48 dX3_status_13 (m_X3_finding (g := g) (T := T) (T2 := T2) (T3 := T3) (R := R) (X := X) (f := 0) (by decide)) rfl (by decide) (by decide) (by rfl) rfl rfl rfl (Nat.le_of_ble_eq_true rfl) (Nat.le_refl _) (Nat.le_refl _) ?_
      exact x_iretx ρ rfl dX3_status_16 rfl (by rw [hF]; try rfl) (cQ_i (rfl) rfl (vis_tr (vis_e (by rw [hF])) vis_rf))
