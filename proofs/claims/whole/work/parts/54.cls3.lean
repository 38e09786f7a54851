theorem cW_x0 {g : Nat → zE} {T T2 T3 R : zT} {X : Nat → Int32} {v : Int32} : zup (cW g T T2 T3 R X) 25 (zO 2 [.ref 26, .int (R 7 3), .int v, .int (X 1), .int (X 2), .int (X 3)]) = cW g T T2 T3 R (upd X 0 v) := cW_x (Y := upd X 0 v) rfl
theorem cW_x1 {g : Nat → zE} {T T2 T3 R : zT} {X : Nat → Int32} {v : Int32} : zup (cW g T T2 T3 R X) 25 (zO 2 [.ref 26, .int (R 7 3), .int (X 0), .int v, .int (X 2), .int (X 3)]) = cW g T T2 T3 R (upd X 1 v) := cW_x (Y := upd X 1 v) rfl
theorem cW_x2 {g : Nat → zE} {T T2 T3 R : zT} {X : Nat → Int32} {v : Int32} : zup (cW g T T2 T3 R X) 25 (zO 2 [.ref 26, .int (R 7 3), .int (X 0), .int (X 1), .int v, .int (X 3)]) = cW g T T2 T3 R (upd X 2 v) := cW_x (Y := upd X 2 v) rfl
theorem cW_x3 {g : Nat → zE} {T T2 T3 R : zT} {X : Nat → Int32} {v : Int32} : zup (cW g T T2 T3 R X) 25 (zO 2 [.ref 26, .int (R 7 3), .int (X 0), .int (X 1), .int (X 2), .int v]) = cW g T T2 T3 R (upd X 3 v) := cW_x (Y := upd X 3 v) rfl
theorem s64_f {p : Nat → Bool} {c : Nat} (h : p c = false) : s64 p (c + 1) = s64 p c := by
  rw [s64, h]
  simp
theorem s64_t {p : Nat → Bool} {c : Nat} (h : p c = true) : s64 p (c + 1) = s64 p c + 1 := by
  rw [s64, if_pos h]
theorem ty_iff {W R : zT} {j : Nat} : ∀ n, tyS W R j n = true ↔ ∀ i, i < n → W 5 i = R 6 (40 * j + i) := by
  intro n
  induction n with
  | zero => exact ⟨fun _ i hi => absurd hi (Nat.not_lt_zero _), fun _ => rfl⟩
  | succ n ih =>
    rw [tyS, Bool.and_eq_true, ih, decide_eq_true_eq]
    constructor
    · intro h i hi
      by_cases hn : i = n
      · rw [hn]; exact h.2
      · exact h.1 i (by omega)
    · intro h
      exact ⟨fun i hi => h i (by omega), h n (by omega)⟩
theorem ty_fit {W R : zT} {j z N : Nat} (hz : z ≤ 40) : tyS W R j (min N z) = true ↔ fitD W (shF R j) z N := by
  rw [ty_iff]
  constructor
  · intro h c h1 h2
    rw [shF, if_pos (by omega)]
    exact h c (by omega)
  · intro h i hi
    have := h i (by omega) (by omega)
    rw [shF, if_pos (by omega)] at this
    exact this

set_option maxRecDepth 100000 in
set_option maxHeartbeats 4000000 in
theorem m_X3_isSo_0 {g : Nat → zE} {T W T3 R : zT} {X : Nat → Int32} (v mk : Int32) : zM 1 M_X3_isSo [.ref 0, .int 0, .int v, .int mk] (cW g T W T3 R X) 46 (some (.int (zb true))) (cW g T W T3 R X) 46 0 0 := by
  refine zM.intro (by decide) (Nat.le_of_ble_eq_true rfl) ?_
  intro Wf V m H0 Γ ρ
  replace Γ : zC Wf V m 4 H0 cX3_isSo RX3 1 0 0 := Γ
  show zX Wf V m 4 H0 0 (zls [(0, .ref 0), (1, .int 0), (2, .int v), (3, .int mk)]) [] (cW g T W T3 R X) 46 0 0
  refine x_iload_n Γ dX3_isSo_0 rfl ?_
  refine x_tab3 Γ (a0 := 1) (a1 := 2) (a2 := 3) (t0 := 28) (t1 := 58) (t2 := 69) (td := 98) dX3_isSo_1 (by decide +kernel) (fun c_1 => ?_) (fun c_1 => ?_) (fun c_1 => ?_) (fun c_1_0 c_1_1 c_1_2 => ?_)
  · exact absurd c_1 (by decide)
  · exact absurd c_1 (by decide)
  · exact absurd c_1 (by decide)
  · refine x_iconst Γ (v := 1) dX3_isSo_98 rfl ?_
    exact x_iret ρ rfl dX3_isSo_99 (by first | exact zb_nz _ | rfl) (rfl) rfl (zH.rf)

set_option maxRecDepth 100000 in
set_option maxHeartbeats 4000000 in
theorem m_X3_isSo_1 {g : Nat → zE} {T W T3 R : zT} {X : Nat → Int32} {N j : Nat} (hN : wN W N) (hj : j < N) (mk : Int32) : zM 1 M_X3_isSo [.ref 0, .int 1, .int (nI j), .int mk] (cW g T W T3 R X) 46 (some (.int (zb (decide (W 5 j = 1))))) (cW g T W T3 R X) 46 0 0 := by
  refine zM.intro (by decide) (Nat.le_of_ble_eq_true rfl) ?_
  intro Wf V m H0 Γ ρ
  replace Γ : zC Wf V m 4 H0 cX3_isSo RX3 1 0 0 := Γ
  show zX Wf V m 4 H0 0 (zls [(0, .ref 0), (1, .int 1), (2, .int (nI j)), (3, .int mk)]) [] (cW g T W T3 R X) 46 0 0
  have hN2 := hN.2
  refine x_iload_n Γ dX3_isSo_0 rfl ?_
  refine x_tab3 Γ (a0 := 1) (a1 := 2) (a2 := 3) (t0 := 28) (t1 := 58) (t2 := 69) (td := 98) dX3_isSo_1 (by decide +kernel) (fun c_1 => ?_) (fun c_1 => ?_) (fun c_1 => ?_) (fun c_1_0 c_1_1 c_1_2 => ?_)
  · refine x_aload_n Γ dX3_isSo_28 rfl ?_
    refine gf_X3_16 Γ dX3_isSo_29 (by decide) (by rfl) rfl ?_
    refine x_iload_n Γ dX3_isSo_32 rfl ?_
    refine x_callV Γ calv_X0_houses wl_X3_60 dX3_isSo_33 (cM9 (m_X0_houses (g := cW g T W T3 R X) (b := 9) (T := W) (by omega) (nI j))) rfl (by decide) (by decide) (by rfl) rfl rfl rfl (Nat.le_of_ble_eq_true rfl) (Nat.le_refl _) (Nat.le_refl _) ?_
    refine x_if_eq Γ (tgt := 56) dX3_isSo_36 (by decide) (fun c_2 => ?_) (fun c_2 => ?_)
    · have c_2 := zb_0.mp c_2
      rw [hs_of hN hj] at c_2
      cases c_2
    · have c_2 := zb_n0.mp c_2
      refine x_aload_n Γ dX3_isSo_39 rfl ?_
      refine gf_X3_16 Γ dX3_isSo_40 (by decide) (by rfl) rfl ?_
      refine gf_X3_119 Γ dX3_isSo_43 (by decide) (by rfl) rfl ?_
      refine x_iload_n Γ dX3_isSo_46 rfl ?_
      refine x_iald Γ dX3_isSo_47 (by decide) (by rfl) rfl (by first | assumption | omega) (by decide) rfl ?_
      refine x_iconst Γ (v := 1) dX3_isSo_48 rfl ?_
      refine x_icmp_ne Γ (tgt := 56) dX3_isSo_49 (by decide) (fun c_3 => ?_) (fun c_3 => ?_)
      · have hf := decide_eq_false c_3
        refine x_iconst Γ (v := 0) dX3_isSo_56 rfl ?_
        exact x_iret ρ rfl dX3_isSo_57 (by first | exact zb_nz _ | rfl) (by rw [hf]; try rfl) rfl (zH.rf)
      · have hf := decide_eq_true c_3
        refine x_iconst Γ (v := 1) dX3_isSo_52 rfl ?_
        refine x_goto Γ (tgt := 57) dX3_isSo_53 (by decide) ?_
        exact x_iret ρ rfl dX3_isSo_57 (by first | exact zb_nz _ | rfl) (by rw [hf]; try rfl) rfl (zH.rf)
  · exact absurd c_1 (by decide)
  · exact absurd c_1 (by decide)
  · exact absurd rfl c_1_0

set_option maxRecDepth 100000 in
set_option maxHeartbeats 4000000 in
theorem m_X3_isSo_2 {g : Nat → zE} {T W T3 R : zT} {X : Nat → Int32} (v mk : Int32) : zM 1 M_X3_isSo [.ref 0, .int 2, .int v, .int mk] (cW g T W T3 R X) 46 (some (.int (zb (decide (mk = v))))) (cW g T W T3 R X) 46 0 0 := by
  refine zM.intro (by decide) (Nat.le_of_ble_eq_true rfl) ?_
  intro Wf V m H0 Γ ρ
  replace Γ : zC Wf V m 4 H0 cX3_isSo RX3 1 0 0 := Γ
  show zX Wf V m 4 H0 0 (zls [(0, .ref 0), (1, .int 2), (2, .int v), (3, .int mk)]) [] (cW g T W T3 R X) 46 0 0
  refine x_iload_n Γ dX3_isSo_0 rfl ?_
  refine x_tab3 Γ (a0 := 1) (a1 := 2) (a2 := 3) (t0 := 28) (t1 := 58) (t2 := 69) (td := 98) dX3_isSo_1 (by decide +kernel) (fun c_1 => ?_) (fun c_1 => ?_) (fun c_1 => ?_) (fun c_1_0 c_1_1 c_1_2 => ?_)
  · exact absurd c_1 (by decide)
  · refine x_iload_n Γ dX3_isSo_58 rfl ?_
    refine x_iload_n Γ dX3_isSo_59 rfl ?_
    refine x_icmp_ne Γ (tgt := 67) dX3_isSo_60 (by decide) (fun c_2 => ?_) (fun c_2 => ?_)
    · have hf := decide_eq_false c_2
      refine x_iconst Γ (v := 0) dX3_isSo_67 rfl ?_
      exact x_iret ρ rfl dX3_isSo_68 (by first | exact zb_nz _ | rfl) (by rw [hf]; try rfl) rfl (zH.rf)
    · have hf := decide_eq_true c_2
      refine x_iconst Γ (v := 1) dX3_isSo_63 rfl ?_
      refine x_goto Γ (tgt := 68) dX3_isSo_64 (by decide) ?_
      exact x_iret ρ rfl dX3_isSo_68 (by first | exact zb_nz _ | rfl) (by rw [hf]; try rfl) rfl (zH.rf)
  · exact absurd c_1 (by decide)
  · exact absurd rfl c_1_1

set_option maxRecDepth 100000 in
set_option maxHeartbeats 4000000 in
theorem m_X3_isSo_3 {g : Nat → zE} {T W T3 R : zT} {X : Nat → Int32} {N j z : Nat} (hN : wN W N) (hj4 : j < 4) (hz : z ≤ 40) (ez : R 5 j = nI z) (mk : Int32) : zM 1 M_X3_isSo [.ref 0, .int 3, .int (nI j), .int mk] (cW g T W T3 R X) 46 (some (.int (zb (tyS W R j (min N z))))) (cW g T W T3 R X) 46 0 0 := by
  refine zM.intro (by decide) (Nat.le_of_ble_eq_true rfl) ?_
  intro Wf V m H0 Γ ρ
  replace Γ : zC Wf V m 4 H0 cX3_isSo RX3 1 0 0 := Γ
  show zX Wf V m 4 H0 0 (zls [(0, .ref 0), (1, .int 3), (2, .int (nI j)), (3, .int mk)]) [] (cW g T W T3 R X) 46 0 0
  have hN2 := hN.2
  refine x_iload_n Γ dX3_isSo_0 rfl ?_
  refine x_tab3 Γ (a0 := 1) (a1 := 2) (a2 := 3) (t0 := 28) (t1 := 58) (t2 := 69) (td := 98) dX3_isSo_1 (by decide +kernel) (fun c_1 => ?_) (fun c_1 => ?_) (fun c_1 => ?_) (fun c_1_0 c_1_1 c_1_2 => ?_)
  · exact absurd c_1 (by decide)
  · exact absurd c_1 (by decide)
  · refine x_iload_n Γ dX3_isSo_69 rfl ?_
    refine x_callS Γ cals_X3_isSheet wl_X3_235 dX3_isSo_70 (m_X3_isSheet (nI j)) rfl (by decide) rfl (Nat.le_of_ble_eq_true rfl) (Nat.le_refl _) (Nat.le_refl _) ?_
    refine x_if_eq Γ (tgt := 96) dX3_isSo_73 (by decide) (fun c_2 => ?_) (fun c_2 => ?_)
    · have c_2 := zb_0.mp c_2
      rw [show inR (nI j) 0 3 = true from inR_k (n := 3) (by omega) (by omega)] at c_2
      cases c_2
    · have c_2 := zb_n0.mp c_2
      refine x_aload_n Γ dX3_isSo_76 rfl ?_
      refine gf_X3_16 Γ dX3_isSo_77 (by decide) (by rfl) rfl ?_
      refine x_aload_n Γ dX3_isSo_80 rfl ?_
      refine gf_X3_31 Γ dX3_isSo_81 (by decide) (by rfl) rfl ?_
      refine x_iload_n Γ dX3_isSo_84 rfl ?_
      refine x_aald Γ dX3_isSo_85 (by decide) (show _ = zR 4 (fun i => some (28 + 2 * i)) from rfl) rfl (by omega) (by decide) rfl ?_
      refine x_callV Γ calv_X0_fits wl_X3_292 dX3_isSo_86 (cM9 (m_X0_fits (g := cW g T W T3 R X) (b := 9) (T := W) (by omega) hN (q := 28 + 2 * j) (q1 := 29 + 2 * j) (sz := z) (F := shF R j) (bt := R 4 j) (ok := tyS W R j (min N z)) (by omega) (by rw [hC_out (by omega), cW_s0 hj4, ez]) (by omega) (by rw [hC_out (by omega), cW_s1 hj4]) hz (ty_fit hz))) rfl (by decide) (by decide) (by rfl) rfl rfl rfl (Nat.le_of_ble_eq_true rfl) (Nat.le_refl _) (Nat.le_refl _) ?_
      refine x_if_eq Γ (tgt := 96) dX3_isSo_89 (by decide) (fun c_3 => ?_) (fun c_3 => ?_)
      · have c_3 := zb_0.mp c_3
        refine x_iconst Γ (v := 0) dX3_isSo_96 rfl ?_
        exact x_iret ρ rfl dX3_isSo_97 (by first | exact zb_nz _ | rfl) (by rw [c_3]; try rfl) rfl (zH.rf)
      · have c_3 := zb_n0.mp c_3
        refine x_iconst Γ (v := 1) dX3_isSo_92 rfl ?_
        refine x_goto Γ (tgt := 97) dX3_isSo_93 (by decide) ?_
        exact x_iret ρ rfl dX3_isSo_97 (by first | exact zb_nz _ | rfl) (by rw [c_3]; try rfl) rfl (zH.rf)
  · exact absurd rfl c_1_2

set_option maxRecDepth 100000 in
set_option maxHeartbeats 4000000 in
theorem m_X3_waysThat {g : Nat → zE} {T T2 T3 R : zT} {X : Nat → Int32} {N : Nat} (hN : wN T N) (hH : wH T N) (hL : wL T) {p : Nat → Bool} {q : zT → Int32 → Bool} (a v : Int32) (hp : ∀ i, p i = (cdl T (nI i) && q (ogS (dlT T (nI i) N) N N).1 (nI (ogS (dlT T (nI i) N) N N).2.2))) (hso : ∀ (W : zT) (mk : Int32), wN W N → zM 1 M_X3_isSo [.ref 0, .int a, .int v, .int mk] (cW g T W T3 R X) 46 (some (.int (zb (q W mk)))) (cW g T W T3 R X) 46 0 0) : zMx 3 M_X3_waysThat [.ref 0, .int a, .int v] (cW g T T2 T3 R X) 46 (some (.long (s64 p (dN T)))) (cQ g T T3 R) := by
  refine zMx.intro (by decide) (Nat.le_of_ble_eq_true rfl) ?_
  intro Wf V m H0 Γ ρ
  replace Γ : zC Wf V m 8 H0 cX3_waysThat RX3 3 0 0 := Γ
  show zX Wf V m 8 H0 0 (zls [(0, .ref 0), (1, .int a), (2, .int v)]) [] (cW g T T2 T3 R X) 46 0 0
  have hN2 := hN.2
  obtain ⟨M, hM, eM, edN⟩ := dra_M hN hL
  refine x_aload_n Γ dX3_waysThat_0 rfl ?_
  refine gf_X3_16 Γ dX3_waysThat_1 (by decide) (by rfl) rfl ?_
  refine x_aload_n Γ dX3_waysThat_4 rfl ?_
  refine gf_X3_10 Γ dX3_waysThat_5 (by decide) (by rfl) rfl ?_
  refine x_callVv Γ calv_X0_become wl_X3_131 dX3_waysThat_8 (bec91) rfl (by decide) (by decide) (by rfl) rfl rfl rfl (Nat.le_of_ble_eq_true rfl) (Nat.le_refl _) (Nat.le_refl _) ?_
  refine x_lconst Γ (v := 0) dX3_waysThat_11 rfl ?_
  refine x_lstore_n Γ dX3_waysThat_12 (by decide) ?_
  refine x_iconst Γ (v := 1) dX3_waysThat_13 rfl ?_
  refine x_aload_n Γ dX3_waysThat_14 rfl ?_
  refine gf_X3_16 Γ dX3_waysThat_15 (by decide) (by rfl) rfl ?_
  refine x_callV Γ calv_X0_drawers wl_X3_280 dX3_waysThat_18 (cM9 (m_X0_drawers (g := cW g T T T3 R X) (b := 9) (T := T) (by omega) )) rfl (by decide) (by decide) (by rfl) rfl rfl rfl (Nat.le_of_ble_eq_true rfl) (Nat.le_refl _) (Nat.le_refl _) ?_
  refine x_ishl Γ dX3_waysThat_21 ?_
  rw [show (1 : Int32) <<< ((if T 7 0 + T 7 1 < T 7 8 then T 7 0 + T 7 1 else T 7 8) &&& 31) = nI M from eM]
  refine x_istore Γ dX3_waysThat_22 (by decide) ?_
  refine x_iconst Γ (v := 0) dX3_waysThat_24 rfl ?_
  refine x_istore Γ dX3_waysThat_25 (by decide) ?_
  suffices L_27 : ∀ (k c : Nat) (U : zT), c ≤ M → M - c < k → agU U T N → zX Wf V m 8 H0 27 (zls [(0, .ref 0), (1, .int a), (2, .int v), (3, .long (s64 p c)), (5, .int (nI M)), (6, .int (nI c))]) [] (cW g T U T3 R X) 46 0 0 by
    exact x_subl [(0, .ref 0), (1, .int a), (2, .int v), (3, .long (s64 p 0)), (5, .int (nI M)), (6, .int (nI 0))] (List.forall_mem_cons.mpr ⟨rfl, List.forall_mem_cons.mpr ⟨rfl, List.forall_mem_cons.mpr ⟨rfl, List.forall_mem_cons.mpr ⟨rfl, List.forall_mem_cons.mpr ⟨rfl, List.forall_mem_cons.mpr ⟨rfl, fun _ hz => absurd hz List.not_mem_nil⟩⟩⟩⟩⟩⟩) (L_27 (M + 1) 0 T (by omega) (by omega) ag_rf)
  intro k
  induction k with
  | zero => intro c U q1 q2; omega
  | succ k ih =>
    intro c U q1 q2 q3
    refine x_iload Γ dX3_waysThat_27 rfl ?_
    refine x_iload Γ dX3_waysThat_29 rfl ?_
    refine x_icmp_ge Γ (tgt := 85) dX3_waysThat_31 (by decide) (fun c_1 => ?_) (fun c_1 => ?_)
    · have c_1 := z_le c_1 (by omega) (by omega)
      obtain rfl : M = c := by omega
      refine x_lload_n Γ dX3_waysThat_85 rfl ?_
      exact x_lretx ρ dX3_waysThat_86 (by rw [edN]) (cQ_i rfl rfl vis_rf)
    · have c_1 := z_nle c_1 (by omega) (by omega)
      refine x_aload_n Γ dX3_waysThat_34 rfl ?_
      refine gf_X3_16 Γ dX3_waysThat_35 (by decide) (by rfl) rfl ?_
      refine x_iload Γ dX3_waysThat_38 rfl ?_
      refine x_callV Γ calv_X0_canDeal wl_X3_283 dX3_waysThat_40 (cM9 (m_X0_canDeal (g := cW g T U T3 R X) (b := 9) (T := U) (by omega) (k := c) (by omega))) rfl (by decide) (by decide) (by rfl) rfl rfl rfl (Nat.le_of_ble_eq_true rfl) (Nat.le_refl _) (Nat.le_refl _) ?_
      rw [cdl_ag q3]
      refine x_if_eq Γ (tgt := 79) dX3_waysThat_43 (by decide) (fun c_2 => ?_) (fun c_2 => ?_)
      · have c_2 := zb_0.mp c_2
        have hG := s64_f (p := p) (c := c) (by rw [hp, c_2]; rfl)
        refine x_iinc Γ dX3_waysThat_79 rfl (by first | exact zinc _ | rfl) (by decide) ?_
        refine x_goto Γ (tgt := 27) dX3_waysThat_82 (by decide) ?_
        first
        | exact x_subl [(0, .ref 0), (1, .int a), (2, .int v), (3, .long (s64 p (c + 1))), (5, .int (nI M)), (6, .int (nI (c + 1)))] (List.forall_mem_cons.mpr ⟨rfl, List.forall_mem_cons.mpr ⟨rfl, List.forall_mem_cons.mpr ⟨rfl, List.forall_mem_cons.mpr ⟨zsl hG.symm, List.forall_mem_cons.mpr ⟨rfl, List.forall_mem_cons.mpr ⟨rfl, fun _ hz => absurd hz List.not_mem_nil⟩⟩⟩⟩⟩⟩) (ih (c + 1) U (by omega) (by omega) q3)
        | exact x_subl [(0, .ref 0), (1, .int a), (2, .int v), (3, .long (s64 p (c + 1))), (5, .int (nI M)), (6, .int (nI (c + 1)))] (List.forall_mem_cons.mpr ⟨rfl, List.forall_mem_cons.mpr ⟨rfl, List.forall_mem_cons.mpr ⟨rfl, List.forall_mem_cons.mpr ⟨zsl hG.symm, List.forall_mem_cons.mpr ⟨rfl, List.forall_mem_cons.mpr ⟨rfl, fun _ hz => absurd hz List.not_mem_nil⟩⟩⟩⟩⟩⟩) (ih (c + 1) _ (by omega) (by omega) ag_st)
      · have c_2 := zb_n0.mp c_2
        have hcd := c_2
        refine x_aload_n Γ dX3_waysThat_46 rfl ?_
        refine gf_X3_16 Γ dX3_waysThat_47 (by decide) (by rfl) rfl ?_
        refine x_iload Γ dX3_waysThat_50 rfl ?_
        refine x_callVv Γ calv_X0_deal wl_X3_286 dX3_waysThat_52 (cM9 (m_X0_deal (g := cW g T U T3 R X) (b := 9) (T := U) (by omega) (N := N) (wN_of (by rw [q3.1 7 (by decide)]) hN) (nI c))) rfl (by decide) (by decide) (by rfl) rfl rfl rfl (Nat.le_of_ble_eq_true rfl) (Nat.le_refl _) (Nat.le_refl _) ?_
        rw [dlT_ag q3]
        refine x_aload_n Γ dX3_waysThat_55 rfl ?_
        refine gf_X3_16 Γ dX3_waysThat_56 (by decide) (by rfl) rfl ?_
        refine x_callV Γ calv_X0_openGates wl_X3_128 dX3_waysThat_59 (cM9 (m_X0_openGates (g := cW g T (dlT T (nI c) N) T3 R X) (b := 9) (T := dlT T (nI c) N) (by omega) (N := N) (wN_of (by rw [dlT_n _ _ _ (by decide)]) hN) (wH_of (by rw [dlT_n _ _ _ (by decide)]) hH))) rfl (by decide) (by decide) (by rfl) rfl rfl rfl (Nat.le_of_ble_eq_true rfl) (Nat.le_refl _) (Nat.le_refl _) ?_
        refine x_istore Γ dX3_waysThat_62 (by decide) ?_
        refine x_aload_n Γ dX3_waysThat_64 rfl ?_
        refine x_iload_n Γ dX3_waysThat_65 rfl ?_
        refine x_iload_n Γ dX3_waysThat_66 rfl ?_
        refine x_iload Γ dX3_waysThat_67 rfl ?_
        refine x_callV Γ calv_X3_isSo wl_X3_289 dX3_waysThat_69 (hso (ogS (dlT T (nI c) N) N N).1 (nI (ogS (dlT T (nI c) N) N N).2.2) (wN_of (by rw [ogS_n _ _ _ (by decide), dlT_n _ _ _ (by decide)]) hN)) rfl (by decide) (by decide) (by rfl) rfl rfl rfl (Nat.le_of_ble_eq_true rfl) (Nat.le_refl _) (Nat.le_refl _) ?_
        refine x_if_eq Γ (tgt := 79) dX3_waysThat_72 (by decide) (fun c_3 => ?_) (fun c_3 => ?_)
        · have c_3 := zb_0.mp c_3
          have hG := s64_f (p := p) (c := c) (by rw [hp, hcd, c_3]; rfl)
          refine x_iinc Γ dX3_waysThat_79 rfl (by first | exact zinc _ | rfl) (by decide) ?_
          refine x_goto Γ (tgt := 27) dX3_waysThat_82 (by decide) ?_
          first
          | exact x_subl [(0, .ref 0), (1, .int a), (2, .int v), (3, .long (s64 p (c + 1))), (5, .int (nI M)), (6, .int (nI (c + 1)))] (List.forall_mem_cons.mpr ⟨rfl, List.forall_mem_cons.mpr ⟨rfl, List.forall_mem_cons.mpr ⟨rfl, List.forall_mem_cons.mpr ⟨zsl hG.symm, List.forall_mem_cons.mpr ⟨rfl, List.forall_mem_cons.mpr ⟨rfl, fun _ hz => absurd hz List.not_mem_nil⟩⟩⟩⟩⟩⟩) (ih (c + 1) U (by omega) (by omega) q3)
          | exact x_subl [(0, .ref 0), (1, .int a), (2, .int v), (3, .long (s64 p (c + 1))), (5, .int (nI M)), (6, .int (nI (c + 1)))] (List.forall_mem_cons.mpr ⟨rfl, List.forall_mem_cons.mpr ⟨rfl, List.forall_mem_cons.mpr ⟨rfl, List.forall_mem_cons.mpr ⟨zsl hG.symm, List.forall_mem_cons.mpr ⟨rfl, List.forall_mem_cons.mpr ⟨rfl, fun _ hz => absurd hz List.not_mem_nil⟩⟩⟩⟩⟩⟩) (ih (c + 1) _ (by omega) (by omega) ag_st)
        · have c_3 := zb_n0.mp c_3
          have hG := s64_t (p := p) (c := c) (by rw [hp, hcd, c_3]; rfl)
          refine x_lload_n Γ dX3_waysThat_75 rfl ?_
          refine x_lconst Γ (v := 1) dX3_waysThat_76 rfl ?_
          refine x_ladd Γ dX3_waysThat_77 ?_
          refine x_lstore_n Γ dX3_waysThat_78 (by decide) ?_
          refine x_iinc Γ dX3_waysThat_79 rfl (by first | exact zinc _ | rfl) (by decide) ?_
          refine x_goto Γ (tgt := 27) dX3_waysThat_82 (by decide) ?_
          first
          | exact x_subl [(0, .ref 0), (1, .int a), (2, .int v), (3, .long (s64 p (c + 1))), (5, .int (nI M)), (6, .int (nI (c + 1)))] (List.forall_mem_cons.mpr ⟨rfl, List.forall_mem_cons.mpr ⟨rfl, List.forall_mem_cons.mpr ⟨rfl, List.forall_mem_cons.mpr ⟨zsl hG.symm, List.forall_mem_cons.mpr ⟨rfl, List.forall_mem_cons.mpr ⟨rfl, fun _ hz => absurd hz List.not_mem_nil⟩⟩⟩⟩⟩⟩) (ih (c + 1) U (by omega) (by omega) q3)
          | exact x_subl [(0, .ref 0), (1, .int a), (2, .int v), (3, .long (s64 p (c + 1))), (5, .int (nI M)), (6, .int (nI (c + 1)))] (List.forall_mem_cons.mpr ⟨rfl, List.forall_mem_cons.mpr ⟨rfl, List.forall_mem_cons.mpr ⟨rfl, List.forall_mem_cons.mpr ⟨zsl hG.symm, List.forall_mem_cons.mpr ⟨rfl, List.forall_mem_cons.mpr ⟨rfl, fun _ hz => absurd hz List.not_mem_nil⟩⟩⟩⟩⟩⟩) (ih (c + 1) _ (by omega) (by omega) ag_st)

set_option maxRecDepth 100000 in
set_option maxHeartbeats 4000000 in
theorem m_X3_ways {g : Nat → zE} {T T2 T3 R : zT} {X : Nat → Int32} {N : Nat} (hN : wN T N) (hH : wH T N) (hL : wL T) : zMx 4 M_X3_ways [.ref 0] (cW g T T2 T3 R X) 46 (some (.long (s64 (pWa T) (dN T)))) (cQ g T T3 R) := by
  refine zMx.intro (by decide) (Nat.le_of_ble_eq_true rfl) ?_
  intro Wf V m H0 Γ ρ
  replace Γ : zC Wf V m 1 H0 cX3_ways RX3 4 0 0 := Γ
  show zX Wf V m 1 H0 0 (zls [(0, .ref 0)]) [] (cW g T T2 T3 R X) 46 0 0
  refine x_aload_n Γ dX3_ways_0 rfl ?_
  refine x_iconst Γ (v := 0) dX3_ways_1 rfl ?_
  refine x_iconst Γ (v := 0) dX3_ways_2 rfl ?_
  refine x_callVx Γ calv_X3_waysThat wl_X3_194 dX3_ways_3 (m_X3_waysThat (g := g) (T := T) (T2 := T2) (T3 := T3) (R := R) (X := X) hN hH hL (p := pWa T) (q := fun _ _ => true) 0 0 (fun i => (Bool.and_true _).symm) (fun W mk _ => m_X3_isSo_0 0 mk)) rfl (by decide) (by decide) (by rfl) rfl rfl rfl (Nat.le_of_ble_eq_true rfl) (Nat.le_refl _) (Nat.le_refl _) (fun h_x hQ_x => ?_)
  obtain ⟨T2x, Xx, rfl⟩ := hQ_x
  exact x_lretx ρ dX3_ways_6 (rfl) (cQ_i rfl rfl vis_rf)

set_option maxRecDepth 100000 in
set_option maxHeartbeats 4000000 in
theorem m_X3_eats {g : Nat → zE} {T T2 T3 R : zT} {X : Nat → Int32} {N : Nat} (hN : wN T N) (hH : wH T N) (hL : wL T) (x : Int32) : zMx 4 M_X3_eats [.ref 0, .int x] (cW g T T2 T3 R X) 46 (some (.long (if hs T x = true then s64 (pEa T N (ci x)) (dN T) else (-1000001 : Int32).toInt64))) (cQ g T T3 (if hs T x = true then tr R 1 (mr T) else fR R 0)) := by
  refine zMx.intro (by decide) (Nat.le_of_ble_eq_true rfl) ?_
  intro Wf V m H0 Γ ρ
  replace Γ : zC Wf V m 2 H0 cX3_eats RX3 4 0 0 := Γ
  show zX Wf V m 2 H0 0 (zls [(0, .ref 0), (1, .int x)]) [] (cW g T T2 T3 R X) 46 0 0
  have hN2 := hN.2
  refine x_aload_n Γ dX3_eats_0 rfl ?_
  refine gf_X3_10 Γ dX3_eats_1 (by decide) (by rfl) rfl ?_
  refine x_iload_n Γ dX3_eats_4 rfl ?_
  refine x_callV Γ calv_X0_houses wl_X3_60 dX3_eats_5 (cM1 (m_X0_houses (g := cW g T T2 T3 R X) (b := 1) (T := T) (by omega) x)) rfl (by decide) (by decide) (by rfl) rfl rfl rfl (Nat.le_of_ble_eq_true rfl) (Nat.le_refl _) (Nat.le_refl _) ?_
  refine x_if_eq Γ (tgt := 20) dX3_eats_8 (by decide) (fun c_1 => ?_) (fun c_1 => ?_)
  · have c_1 := zb_0.mp c_1
    have hsf : ¬ hs T x = true := fun z => by rw [c_1] at z; cases z
    refine x_aload_n Γ dX3_eats_20 rfl ?_
    refine x_iconst Γ (v := 0) dX3_eats_21 rfl ?_
    refine x_callV Γ calv_X3_finding wl_X3_48 dX3_eats_22 (m_X3_finding (g := g) (T := T) (T2 := T2) (T3 := T3) (R := R) (X := X) (f := 0) (by decide)) rfl (by decide) (by decide) (by rfl) rfl rfl rfl (Nat.le_of_ble_eq_true rfl) (Nat.le_refl _) (Nat.le_refl _) ?_
    refine x_i2l Γ dX3_eats_25 ?_
    exact x_lretx ρ dX3_eats_26 (by rw [if_neg hsf]; try rfl) (cQ_i rfl rfl (by rw [if_neg hsf]; exact vis_rf))
  · have c_1 := zb_n0.mp c_1
    obtain ⟨j, hj, rfl⟩ := hs_in hN c_1
    have ej : ci (nI j) = j := nI_clamp (by omega)
    have hsj := c_1
    refine x_aload_n Γ dX3_eats_11 rfl ?_
    refine x_iconst Γ (v := 1) dX3_eats_12 rfl ?_
    refine x_iload_n Γ dX3_eats_13 rfl ?_
    refine x_callVx Γ calv_X3_waysThat wl_X3_194 dX3_eats_14 (m_X3_waysThat (g := g) (T := T) (T2 := T2) (T3 := T3) (R := R) (X := X) hN hH hL (p := pEa T N j) (q := fun W _ => decide (W 5 j = 1)) 1 (nI j) (fun i => rfl) (fun W mk hW => m_X3_isSo_1 hW hj mk)) rfl (by decide) (by decide) (by rfl) rfl rfl rfl (Nat.le_of_ble_eq_true rfl) (Nat.le_refl _) (Nat.le_refl _) (fun h_x hQ_x => ?_)
    obtain ⟨T2x, Xx, rfl⟩ := hQ_x
    refine x_goto Γ (tgt := 26) dX3_eats_17 (by decide) ?_
    exact x_lretx ρ dX3_eats_26 (by rw [if_pos hsj, ej]) (cQ_i rfl rfl (by rw [if_pos hsj]; exact vis_1))

set_option maxRecDepth 100000 in
set_option maxHeartbeats 4000000 in
theorem m_X3_busy {g : Nat → zE} {T T2 T3 R : zT} {X : Nat → Int32} {N : Nat} (hN : wN T N) (hH : wH T N) (hL : wL T) (n : Int32) : zMx 4 M_X3_busy [.ref 0, .int n] (cW g T T2 T3 R X) 46 (some (.long (if inR n 0 30 = true then s64 (pBu T N n) (dN T) else (-1000001 : Int32).toInt64))) (cQ g T T3 (if inR n 0 30 = true then tr R 1 (mr T) else fR R 0)) := by
  refine zMx.intro (by decide) (Nat.le_of_ble_eq_true rfl) ?_
  intro Wf V m H0 Γ ρ
  replace Γ : zC Wf V m 2 H0 cX3_busy RX3 4 0 0 := Γ
  show zX Wf V m 2 H0 0 (zls [(0, .ref 0), (1, .int n)]) [] (cW g T T2 T3 R X) 46 0 0
  have hN2 := hN.2
  refine x_iload_n Γ dX3_busy_0 rfl ?_
  refine x_if_lt Γ (tgt := 19) dX3_busy_1 (by decide) (fun c_1 => ?_) (fun c_1 => ?_)
  · have hsf : ¬ inR n 0 30 = true := by rw [inR, decide_eq_true c_1]; simp
    refine x_aload_n Γ dX3_busy_19 rfl ?_
    refine x_iconst Γ (v := 0) dX3_busy_20 rfl ?_
    refine x_callV Γ calv_X3_finding wl_X3_48 dX3_busy_21 (m_X3_finding (g := g) (T := T) (T2 := T2) (T3 := T3) (R := R) (X := X) (f := 0) (by decide)) rfl (by decide) (by decide) (by rfl) rfl rfl rfl (Nat.le_of_ble_eq_true rfl) (Nat.le_refl _) (Nat.le_refl _) ?_
    refine x_i2l Γ dX3_busy_24 ?_
    exact x_lretx ρ dX3_busy_25 (by rw [if_neg hsf]; try rfl) (cQ_i rfl rfl (by rw [if_neg hsf]; exact vis_rf))
  · have q1 := c_1
    refine x_iload_n Γ dX3_busy_4 rfl ?_
    refine x_bipush Γ (v := 30) dX3_busy_5 rfl ?_
    refine x_icmp_gt Γ (tgt := 19) dX3_busy_7 (by decide) (fun c_2 => ?_) (fun c_2 => ?_)
    · have hsf : ¬ inR n 0 30 = true := by rw [inR, decide_eq_true c_2, Bool.not_true, Bool.and_false]; simp
      refine x_aload_n Γ dX3_busy_19 rfl ?_
      refine x_iconst Γ (v := 0) dX3_busy_20 rfl ?_
      refine x_callV Γ calv_X3_finding wl_X3_48 dX3_busy_21 (m_X3_finding (g := g) (T := T) (T2 := T2) (T3 := T3) (R := R) (X := X) (f := 0) (by decide)) rfl (by decide) (by decide) (by rfl) rfl rfl rfl (Nat.le_of_ble_eq_true rfl) (Nat.le_refl _) (Nat.le_refl _) ?_
      refine x_i2l Γ dX3_busy_24 ?_
      exact x_lretx ρ dX3_busy_25 (by rw [if_neg hsf]; try rfl) (cQ_i rfl rfl (by rw [if_neg hsf]; exact vis_rf))
    · have hsj : inR n 0 30 = true := by rw [inR, decide_eq_false q1, decide_eq_false c_2]; rfl
      refine x_aload_n Γ dX3_busy_10 rfl ?_
      refine x_iconst Γ (v := 2) dX3_busy_11 rfl ?_
      refine x_iload_n Γ dX3_busy_12 rfl ?_
      refine x_callVx Γ calv_X3_waysThat wl_X3_194 dX3_busy_13 (m_X3_waysThat (g := g) (T := T) (T2 := T2) (T3 := T3) (R := R) (X := X) hN hH hL (p := pBu T N n) (q := fun _ mk => decide (mk = n)) 2 n (fun i => rfl) (fun W mk _ => m_X3_isSo_2 n mk)) rfl (by decide) (by decide) (by rfl) rfl rfl rfl (Nat.le_of_ble_eq_true rfl) (Nat.le_refl _) (Nat.le_refl _) (fun h_x hQ_x => ?_)
      obtain ⟨T2x, Xx, rfl⟩ := hQ_x
      refine x_goto Γ (tgt := 25) dX3_busy_16 (by decide) ?_
      exact x_lretx ρ dX3_busy_25 (by rw [if_pos hsj]) (cQ_i rfl rfl (by rw [if_pos hsj]; exact vis_1))

set_option maxRecDepth 100000 in
set_option maxHeartbeats 4000000 in
theorem m_X3_famine {g : Nat → zE} {T T2 T3 R : zT} {X : Nat → Int32} {N : Nat} (hN : wN T N) (n : Int32) : zMx 2 M_X3_famine [.ref 0, .int n] (cW g T T2 T3 R X) 46 (some (.int (fr (fFam N n) (many (hunW (famT T N (ci n)) N))))) (cQ g (tFam T N n) (T3) (fR R (fFam N n))) := by
  refine zMx.intro (by decide) (Nat.le_of_ble_eq_true rfl) ?_
  intro Wf V m H0 Γ ρ
  replace Γ : zC Wf V m 3 H0 cX3_famine RX3 2 0 0 := Γ
  show zX Wf V m 3 H0 0 (zls [(0, .ref 0), (1, .int n)]) [] (cW g T T2 T3 R X) 46 0 0
  have hN2 := hN.2
  refine x_iload_n Γ dX3_famine_0 rfl ?_
  refine x_iconst Γ (v := 1) dX3_famine_1 rfl ?_
  refine x_icmp_lt Γ (tgt := 11) dX3_famine_2 (by decide) (fun c_1 => ?_) (fun c_1 => ?_)
  · have hi : ¬ inR n 1 12 = true := by rw [inR, decide_eq_true c_1]; simp
    have hF : fFam N n = 0 := if_neg hi
    refine x_aload_n Γ dX3_famine_11 rfl ?_
    refine x_iconst Γ (v := 0) dX3_famine_12 rfl ?_
    refine x_callV Γ calv_X3_finding wl_X3_48 dX3_famine_13 (m_X3_finding (g := g) (T := T) (T2 := T2) (T3 := T3) (R := R) (X := X) (f := 0) (by decide)) rfl (by decide) (by decide) (by rfl) rfl rfl rfl (Nat.le_of_ble_eq_true rfl) (Nat.le_refl _) (Nat.le_refl _) ?_
    exact x_iretx ρ rfl dX3_famine_16 rfl (by rw [hF]; try rfl) (cQ_i (by rw [tFam, hF]; try rfl) rfl (vis_e (by rw [hF])))
  · have q1 := c_1
    refine x_iload_n Γ dX3_famine_5 rfl ?_
    refine x_bipush Γ (v := 12) dX3_famine_6 rfl ?_
    refine x_icmp_le Γ (tgt := 17) dX3_famine_8 (by decide) (fun c_2 => ?_) (fun c_2 => ?_)
    · have hi : inR n 1 12 = true := by rw [inR, decide_eq_false q1, decide_eq_false (Int32.not_lt.mpr c_2)]; rfl
      obtain ⟨K, hK1, hK, rfl⟩ := inR_nI1 (n := 12) hi rfl (by omega)
      have eK : ci (nI K) = K := nI_clamp (by omega)
      refine x_aload_n Γ dX3_famine_17 rfl ?_
      refine gf_X3_10 Γ dX3_famine_18 (by decide) (by rfl) rfl ?_
      refine gf_X3_52 Γ dX3_famine_21 (by decide) (by rfl) rfl ?_
      refine x_if_ne Γ (tgt := 33) dX3_famine_24 (by decide) (fun c_3 => ?_) (fun c_3 => ?_)
      · have hN0 : ¬ N = 0 := fun z => c_3 (by rw [hN.1, z]; rfl)
        have hF : fFam N (nI K) = 7 := by rw [fFam, if_pos hi, if_neg hN0]
        refine x_iconst Γ (v := 0) dX3_famine_33 rfl ?_
        refine x_istore_n Γ dX3_famine_34 (by decide) ?_
        suffices L_35 : ∀ (k c : Nat), c ≤ K → K - c < k → zX Wf V m 3 H0 35 (zls [(0, .ref 0), (1, .int (nI K)), (2, .int (nI c))]) [] (cW g (famT T N c) T2 T3 R X) 46 0 0 by
          exact x_subl [(0, .ref 0), (1, .int (nI K)), (2, .int (nI 0))] (List.forall_mem_cons.mpr ⟨rfl, List.forall_mem_cons.mpr ⟨rfl, List.forall_mem_cons.mpr ⟨rfl, fun _ hz => absurd hz List.not_mem_nil⟩⟩⟩) (x_heap (rfl) (L_35 (K + 1) 0  (by omega) (by omega)))
        intro k
        induction k with
        | zero => intro c  h1 h2; omega
        | succ k ih =>
          intro c  h1 h2
          refine x_iload_n Γ dX3_famine_35 rfl ?_
          refine x_iload_n Γ dX3_famine_36 rfl ?_
          refine x_icmp_ge Γ (tgt := 53) dX3_famine_37 (by decide) (fun c_4 => ?_) (fun c_4 => ?_)
          · have c_4 := z_le c_4 (by omega) (by omega)
            obtain rfl : K = c := by omega
            obtain ⟨kk, hkk, ekk⟩ := hunW_lt (famT T N K) N hN2
            refine x_aload_n Γ dX3_famine_53 rfl ?_
            refine gf_X3_10 Γ dX3_famine_54 (by decide) (by rfl) rfl ?_
            refine x_callV Γ calv_X0_starving wl_X3_109 dX3_famine_57 (cM1 (m_X0_starving (g := cW g (famT T N K) T2 T3 R X) (b := 1) (T := famT T N K) (by omega) (wN_of (famT_7 T N 8 (by decide) K) hN))) rfl (by decide) (by decide) (by rfl) rfl rfl rfl (Nat.le_of_ble_eq_true rfl) (Nat.le_refl _) (Nat.le_refl _) ?_
            rw [ekk]
            refine x_callS Γ cals_J6_bitCount_0f7a4 wl_X3_151 dX3_famine_60 (m_bitCount (p2_le hN2 hkk)) rfl (by decide) rfl (Nat.le_of_ble_eq_true rfl) (Nat.le_refl _) (Nat.le_refl _) ?_
            rw [← ekk]
            exact x_iretx ρ rfl dX3_famine_63 rfl (by rw [hF, eK, fr_7]) (cQ_i (by rw [tFam, if_pos hF, eK]) rfl (vis_e (by rw [hF]; try rfl)))
          · have c_4 := z_nle c_4 (by omega) (by omega)
            obtain ⟨j, hj, ej⟩ := zrem_in (famT T N c 7 7) (N := N) (by omega) (by omega)
            refine x_aload_n Γ dX3_famine_40 rfl ?_
            refine gf_X3_10 Γ dX3_famine_41 (by decide) (by rfl) rfl ?_
            refine x_callVv Γ calv_X0_strike wl_X3_198 dX3_famine_44 (cM1 (m_X0_strike (g := cW g (famT T N c) T2 T3 R X) (b := 1) (T := (famT T N c)) (by omega) (wN_of (famT_7 T N 8 (by decide) c) hN) (j := j) (by rw [famT_7 T N 8 (by decide) c, hN.1]; exact ej) hj)) rfl (by decide) (by decide) (by rfl) rfl rfl rfl (Nat.le_of_ble_eq_true rfl) (Nat.le_refl _) (Nat.le_refl _) ?_
            refine x_iinc Γ dX3_famine_47 rfl (by first | exact zinc _ | rfl) (by decide) ?_
            refine x_goto Γ (tgt := 35) dX3_famine_50 (by decide) ?_
            exact x_subl [(0, .ref 0), (1, .int (nI K)), (2, .int (nI (c + 1)))] (List.forall_mem_cons.mpr ⟨rfl, List.forall_mem_cons.mpr ⟨rfl, List.forall_mem_cons.mpr ⟨rfl, fun _ hz => absurd hz List.not_mem_nil⟩⟩⟩) (x_heap (by simp only [famT]; rw [ej, nI_clamp (by omega)]) (ih (c + 1) (by omega) (by omega)))
      · have hN0 : N = 0 := (nI_eq (b := 0) (by omega) (by omega)).mp (hN.1.symm.trans c_3)
        have hF : fFam N (nI K) = 4 := by rw [fFam, if_pos hi, if_pos hN0]
        refine x_aload_n Γ dX3_famine_27 rfl ?_
        refine x_iconst Γ (v := 4) dX3_famine_28 rfl ?_
        refine x_callV Γ calv_X3_finding wl_X3_48 dX3_famine_29 (m_X3_finding (g := g) (T := T) (T2 := T2) (T3 := T3) (R := R) (X := X) (f := 4) (by decide)) rfl (by decide) (by decide) (by rfl) rfl rfl rfl (Nat.le_of_ble_eq_true rfl) (Nat.le_refl _) (Nat.le_refl _) ?_
        exact x_iretx ρ rfl dX3_famine_32 rfl (by rw [hF]; try rfl) (cQ_i (by rw [tFam, hF]; try rfl) rfl (vis_e (by rw [hF])))
    · have hi : ¬ inR n 1 12 = true := by rw [inR, decide_eq_true (Int32.not_le.mp c_2), Bool.not_true, Bool.and_false]; simp
      have hF : fFam N n = 0 := if_neg hi
      refine x_aload_n Γ dX3_famine_11 rfl ?_
      refine x_iconst Γ (v := 0) dX3_famine_12 rfl ?_
      refine x_callV Γ calv_X3_finding wl_X3_48 dX3_famine_13 (m_X3_finding (g := g) (T := T) (T2 := T2) (T3 := T3) (R := R) (X := X) (f := 0) (by decide)) rfl (by decide) (by decide) (by rfl) rfl rfl rfl (Nat.le_of_ble_eq_true rfl) (Nat.le_refl _) (Nat.le_refl _) ?_
      exact x_iretx ρ rfl dX3_famine_16 rfl (by rw [hF]; try rfl) (cQ_i (by rw [tFam, hF]; try rfl) rfl (vis_e (by rw [hF])))

set_option maxRecDepth 100000 in
set_option maxHeartbeats 4000000 in
theorem m_X3_seed {g : Nat → zE} {T T2 T3 R : zT} {X : Nat → Int32} (v : Int32) : zMx 0 M_X3_seed [.ref 0, .int v] (cW g T T2 T3 R X) 46 (some (.int (T 7 7))) (cQ g (ts T 7 7 v) T3 R) := by
  refine zMx.intro (by decide) (Nat.le_of_ble_eq_true rfl) ?_
  intro Wf V m H0 Γ ρ
  replace Γ : zC Wf V m 3 H0 cX3_seed RX3 0 0 0 := Γ
  show zX Wf V m 3 H0 0 (zls [(0, .ref 0), (1, .int v)]) [] (cW g T T2 T3 R X) 46 0 0
  refine x_aload_n Γ dX3_seed_0 rfl ?_
  refine gf_X3_10 Γ dX3_seed_1 (by decide) (by rfl) rfl ?_
  refine gf_X3_201 Γ dX3_seed_4 (by decide) (by rfl) rfl ?_
  refine x_istore_n Γ dX3_seed_7 (by decide) ?_
  refine x_aload_n Γ dX3_seed_8 rfl ?_
  refine gf_X3_10 Γ dX3_seed_9 (by decide) (by rfl) rfl ?_
  refine x_iload_n Γ dX3_seed_12 rfl ?_
  refine pf_X3_201 Γ dX3_seed_13 (by decide) (by rfl) (Nat.le_of_ble_eq_true rfl) (cW_p1 (k := 7) rfl) ?_
  refine x_iload_n Γ dX3_seed_16 rfl ?_
  exact x_iretx ρ rfl dX3_seed_17 rfl (rfl) (cQ_i rfl rfl vis_rf)

theorem sh255 (b : BitVec 32) {s : Nat} (hs : s ≤ 24) : (b >>> s) &&& 255#32 = (b.sshiftRight s) &&& 255#32 := by
  apply BitVec.eq_of_getLsbD_eq
  intro i hi
  rw [BitVec.getLsbD_and, BitVec.getLsbD_and, BitVec.getLsbD_ushiftRight, BitVec.getLsbD_sshiftRight]
  by_cases h8 : i < 8
  · have e1 : decide (32 ≤ i) = false := decide_eq_false (by omega)
    have e2 : s + i < 32 := by omega
    rw [e1, if_pos e2]
    rfl
  · have e3 : (255#32).getLsbD i = false := by
      have key : ∀ i : Fin 32, 8 ≤ i.val → (255#32).getLsbD i.val = false := by decide
      exact key ⟨i, hi⟩ (show 8 ≤ i by omega)
    rw [e3, Bool.and_false, Bool.and_false]

set_option maxRecDepth 100000 in
set_option maxHeartbeats 4000000 in
theorem m_X2_append {g : Nat → zE} {T T2 T3 R : zT} {X : Nat → Int32} {t : Nat} (ht : t < 120) (et : R 7 3 = nI t) (v : Int32) : zM 0 M_X2_append [.ref 25, .int v] (cW g T T2 T3 R X) 46 (none) (cW g T T2 T3 (ts (ts R 3 t v) 7 3 (nI (t + 1))) X) 46 0 0 := by
  refine zM.intro (by decide) (Nat.le_of_ble_eq_true rfl) ?_
  intro Wf V m H0 Γ ρ
  replace Γ : zC Wf V m 2 H0 cX2_append RX2 0 0 0 := Γ
  show zX Wf V m 2 H0 0 (zls [(0, .ref 25), (1, .int v)]) [] (cW g T T2 T3 R X) 46 0 0
  refine x_aload_n Γ dX2_append_0 rfl ?_
  refine gf_X2_15 Γ dX2_append_1 (by decide) (by rfl) rfl ?_
  refine x_bipush Γ (v := 120) dX2_append_4 rfl ?_
  refine x_icmp_ge Γ (tgt := 29) dX2_append_6 (by decide) (fun c_1 => ?_) (fun c_1 => ?_)
  · rw [et] at c_1
    exact absurd (z_le (a := 120) c_1 (by omega) (by omega)) (by omega)
  · refine x_aload_n Γ dX2_append_9 rfl ?_
    refine gf_X2_9 Γ dX2_append_10 (by decide) (by rfl) rfl ?_
    refine x_aload_n Γ dX2_append_13 rfl ?_
    refine gf_X2_15 Γ dX2_append_14 (by decide) (by rfl) rfl ?_
    refine x_iload_n Γ dX2_append_17 rfl ?_
    refine x_iast Γ dX2_append_18 (by decide) (by rfl) et ht (by decide) cW_b ?_
    refine x_aload_n Γ dX2_append_19 rfl ?_
    refine x_dup Γ dX2_append_20 rfl ?_
    refine gf_X2_15 Γ dX2_append_21 (by decide) (by rfl) rfl ?_
    refine x_iconst Γ (v := 1) dX2_append_24 rfl ?_
    refine x_iadd Γ dX2_append_25 ?_
    rw [ts_n (show 7 ≠ 3 by decide), et, nI_1]
    refine pf_X2_15 Γ dX2_append_26 (by decide) (by rfl) (Nat.le_of_ble_eq_true rfl) cW_l ?_
    exact x_vret ρ dX2_append_29 (rfl) rfl (zH.rf)

set_option maxRecDepth 100000 in
set_option maxHeartbeats 4000000 in
theorem m_X2_rewind {g : Nat → zE} {T T2 T3 R : zT} {X : Nat → Int32} : zM 0 M_X2_rewind [.ref 25] (cW g T T2 T3 R X) 46 (none) (cW g T T2 T3 R (upd (upd (upd X 0 0) 1 0) 2 0)) 46 0 0 := by
  refine zM.intro (by decide) (Nat.le_of_ble_eq_true rfl) ?_
  intro Wf V m H0 Γ ρ
  replace Γ : zC Wf V m 1 H0 cX2_rewind RX2 0 0 0 := Γ
  show zX Wf V m 1 H0 0 (zls [(0, .ref 25)]) [] (cW g T T2 T3 R X) 46 0 0
  refine x_aload_n Γ dX2_rewind_0 rfl ?_
  refine x_iconst Γ (v := 0) dX2_rewind_1 rfl ?_
  refine pf_X2_19 Γ dX2_rewind_2 (by decide) (by rfl) (Nat.le_of_ble_eq_true rfl) cW_x0 ?_
  refine x_aload_n Γ dX2_rewind_5 rfl ?_
  refine x_iconst Γ (v := 0) dX2_rewind_6 rfl ?_
  refine pf_X2_22 Γ dX2_rewind_7 (by decide) (by rfl) (Nat.le_of_ble_eq_true rfl) cW_x1 ?_
  refine x_aload_n Γ dX2_rewind_10 rfl ?_
  refine x_iconst Γ (v := 0) dX2_rewind_11 rfl ?_
  refine pf_X2_25 Γ dX2_rewind_12 (by decide) (by rfl) (Nat.le_of_ble_eq_true rfl) cW_x2 ?_
  exact x_vret ρ dX2_rewind_15 (rfl) rfl (zH.rf)
