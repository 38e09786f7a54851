theorem fCf_h {T : zT} {x n : Int32} (h : hs T x = true) : fCf T x n = fWk T n := by
  unfold fCf fWk
  by_cases h1 : inR n 1 60 = true
  · rw [if_pos ⟨h, h1⟩, if_pos h1]
  · rw [if_neg (fun z => h1 z.2), if_neg h1]
theorem fLaw_h {T : zT} {x n : Int32} (h : isK x = true) : fLaw T x n = fWk T n := by
  unfold fLaw fWk
  by_cases h1 : inR n 1 60 = true
  · rw [if_pos ⟨h, h1⟩, if_pos h1]
  · rw [if_neg (fun z => h1 z.2), if_neg h1]
theorem fr_7 {r : Int32} : fr 7 r = r := rfl
theorem cfB_0 {T : zT} {j N K : Nat} : cfB T j N K 0 = 0 := rfl
theorem cfM_0 {T : zT} {j N K : Nat} : cfM T j N K 0 = 0 := if_pos rfl
theorem kfB_0 {T : zT} {j N K : Nat} : kfB T j N K 0 = 0 := rfl
theorem kfM_0 {T : zT} {j N K : Nat} : kfM T j N K 0 = 0 := if_pos rfl
theorem cfB_4 {T : zT} {j N K : Nat} : cfS T j N K 3 = cfB T j N K 4 := rfl
theorem kfB_7 {T : zT} {j N K : Nat} : kfS T j N K 6 = kfB T j N K 7 := rfl
theorem ok_0 : ∀ c, c ≤ 10 → okR 0 (nI c) = decide (0 ≤ c) := by
  have key : ∀ c : Fin 11, okR 0 (nI c.val) = decide (0 ≤ c.val) := by decide +kernel
  exact fun c hc => key ⟨c, by omega⟩
theorem ok_2 : ∀ c, c ≤ 10 → okR 2 (nI c) = decide (1 ≤ c) := by
  have key : ∀ c : Fin 11, okR 2 (nI c.val) = decide (1 ≤ c.val) := by decide +kernel
  exact fun c hc => key ⟨c, by omega⟩
theorem pk_rem2 {d : Nat} (h : d < 2 ^ 31) : nI d - nI d / 2 * 2 = nI (d % 2) := pk_rem (d := 2) h (by decide) (by decide)
theorem pk_div2 {d : Nat} (h : d < 2 ^ 31) : nI d / 2 = nI (d / 2) := pk_div (d := 2) h (by decide) (by decide)
theorem lft_lt {c b : Nat} (hc : c ≤ 51) (hb : b ≤ 11) : nI c - 3 * nI b < 0 ↔ c < 3 * b := by
  rw [show (3 : Int32) = nI 3 from rfl, pk_mul, Int32.lt_iff_toInt_lt, pk_sub_toInt (by omega) (by omega), zlt_0]
  omega

set_option maxRecDepth 100000 in
set_option maxHeartbeats 4000000 in
theorem m_X3_weeks {g : Nat → zE} {T T2 T3 R : zT} {X : Nat → Int32} {N : Nat} (hN : wN T N) (hH : wH T N) (n : Int32) : zMx 5 M_X3_weeks [.ref 0, .int n] (cW g T T2 T3 R X) 46 (some (.int (fr (fWk T n) (wks N (ci n) T 7 6 - T 7 6)))) (cQ g (tWk T N n) (T3) (fR R (fWk T n))) := by
  refine zMx.intro (by decide) (Nat.le_of_ble_eq_true rfl) ?_
  intro Wf V m H0 Γ ρ
  replace Γ : zC Wf V m 4 H0 cX3_weeks RX3 5 0 0 := Γ
  show zX Wf V m 4 H0 0 (zls [(0, .ref 0), (1, .int n)]) [] (cW g T T2 T3 R X) 46 0 0
  have hN2 := hN.2
  refine x_aload_n Γ dX3_weeks_0 rfl ?_
  refine x_iload_n Γ dX3_weeks_1 rfl ?_
  refine x_callV Γ calv_X3_hindrance wl_X3_159 dX3_weeks_2 (m_X3_hindrance (g := g) (T := T) (T2 := T2) (T3 := T3) (R := R) (X := X) n) rfl (by decide) (by decide) (by rfl) rfl rfl rfl (Nat.le_of_ble_eq_true rfl) (Nat.le_refl _) (Nat.le_refl _) ?_
  refine x_istore_n Γ dX3_weeks_5 (by decide) ?_
  refine x_iload_n Γ dX3_weeks_6 rfl ?_
  refine x_iconst Γ (v := -1) dX3_weeks_7 rfl ?_
  refine x_icmp_eq Γ (tgt := 17) dX3_weeks_8 (by decide) (fun c_1 => ?_) (fun c_1 => ?_)
  · have h7 := hdI_7 fWk_lt c_1
    obtain ⟨K, hK1, hK, rfl⟩ := fWk_K h7
    have eK : ci (nI K) = K := nI_clamp (by omega)
    refine x_aload_n Γ dX3_weeks_17 rfl ?_
    refine gf_X3_10 Γ dX3_weeks_18 (by decide) (by rfl) rfl ?_
    refine gf_X3_100 Γ dX3_weeks_21 (by decide) (by rfl) rfl ?_
    refine x_istore_n Γ dX3_weeks_24 (by decide) ?_
    refine x_aload_n Γ dX3_weeks_25 rfl ?_
    refine gf_X3_10 Γ dX3_weeks_26 (by decide) (by rfl) rfl ?_
    refine x_iload_n Γ dX3_weeks_29 rfl ?_
    refine x_callV Γ calv_X0_passWeeks wl_X3_162 dX3_weeks_30 (cM1 (m_X0_passWeeks (g := cW g T T2 T3 R X) (b := 1) (T := T) (by omega) hN hH (K := K) hK)) rfl (by decide) (by decide) (by rfl) rfl rfl rfl (Nat.le_of_ble_eq_true rfl) (Nat.le_refl _) (Nat.le_refl _) ?_
    refine x_pop Γ dX3_weeks_33 rfl ?_
    refine x_aload_n Γ dX3_weeks_34 rfl ?_
    refine gf_X3_10 Γ dX3_weeks_35 (by decide) (by rfl) rfl ?_
    refine gf_X3_100 Γ dX3_weeks_38 (by decide) (by rfl) rfl ?_
    refine x_iload_n Γ dX3_weeks_41 rfl ?_
    refine x_isub Γ dX3_weeks_42 ?_
    exact x_iretx ρ rfl dX3_weeks_43 rfl (by rw [h7, eK]; try rfl) (cQ_i (by rw [tWk, if_pos h7, eK]) rfl (vis_tr (vis_e (by rw [h7]; try rfl)) vis_rf))
  · have h8 := hdI_8 c_1
    rw [hdI_n h8]
    have h9 : fWk T n < 7 := by have := fWk_lt (T := T) (n := n); omega
    refine x_aload_n Γ dX3_weeks_11 rfl ?_
    refine x_iload_n Γ dX3_weeks_12 rfl ?_
    refine x_callV Γ calv_X3_finding wl_X3_48 dX3_weeks_13 (m_X3_finding (g := g) (T := T) (T2 := T2) (T3 := T3) (R := R) (X := X) (f := fWk T n) (h9)) rfl (by decide) (by decide) (by rfl) rfl rfl rfl (Nat.le_of_ble_eq_true rfl) (Nat.le_refl _) (Nat.le_refl _) ?_
    exact x_iretx ρ rfl dX3_weeks_16 rfl (zsi (fr_n h9)) (cQ_i (by rw [tWk, if_neg h8]) rfl vis_rf)

set_option maxRecDepth 100000 in
set_option maxHeartbeats 4000000 in
theorem m_X3_ahead {g : Nat → zE} {T T2 T3 R : zT} {X : Nat → Int32} {N : Nat} (hN : wN T N) (hH : wH T N) (n w : Int32) : zMx 5 M_X3_ahead [.ref 0, .int n, .int w] (cW g T T2 T3 R X) 46 (some (.int (fr (fAhd T n w) (rAhd T N n w)))) (cQ g (T) (T3) (fW T R (fAhd T n w))) := by
  refine zMx.intro (by decide) (Nat.le_of_ble_eq_true rfl) ?_
  intro Wf V m H0 Γ ρ
  replace Γ : zC Wf V m 5 H0 cX3_ahead RX3 5 0 0 := Γ
  show zX Wf V m 5 H0 0 (zls [(0, .ref 0), (1, .int n), (2, .int w)]) [] (cW g T T2 T3 R X) 46 0 0
  have hN2 := hN.2
  refine x_iload_n Γ dX3_ahead_0 rfl ?_
  refine x_if_lt Γ (tgt := 21) dX3_ahead_1 (by decide) (fun c_1 => ?_) (fun c_1 => ?_)
  · have ht : inR w 0 (3 + T 7 8) = false := by rw [told_in hN]; rw [decide_eq_true c_1]; rfl
    refine x_iconst Γ (v := 0) dX3_ahead_21 rfl ?_
    refine x_istore_n Γ dX3_ahead_22 (by decide) ?_
    refine x_iload_n Γ dX3_ahead_23 rfl ?_
    refine x_if_lt Γ (tgt := 37) dX3_ahead_24 (by decide) (fun c_2 => ?_) (fun c_2 => ?_)
    · have hn : inR n 0 60 = false := by rw [inR, decide_eq_true c_2]; rfl
      have hF : fAhd T n w = 0 := if_neg (fun z => by first | (rw [hn] at z; cases z.1) | (rw [ht] at z; cases z.2))
      refine x_aload_n Γ dX3_ahead_37 rfl ?_
      refine x_iconst Γ (v := 0) dX3_ahead_38 rfl ?_
      refine x_callV Γ calv_X3_finding wl_X3_48 dX3_ahead_39 (m_X3_finding (g := g) (T := T) (T2 := T2) (T3 := T3) (R := R) (X := X) (f := 0) (by decide)) rfl (by decide) (by decide) (by rfl) rfl rfl rfl (Nat.le_of_ble_eq_true rfl) (Nat.le_refl _) (Nat.le_refl _) ?_
      exact x_iretx ρ rfl dX3_ahead_42 rfl (by rw [hF]; try rfl) (cQ_i (rfl) rfl (vis_tr (vis_e (by rw [hF])) vis_W))
    · have q2 := c_2
      refine x_iload_n Γ dX3_ahead_27 rfl ?_
      refine x_bipush Γ (v := 60) dX3_ahead_28 rfl ?_
      refine x_icmp_gt Γ (tgt := 37) dX3_ahead_30 (by decide) (fun c_3 => ?_) (fun c_3 => ?_)
      · have hn : inR n 0 60 = false := by rw [inR, decide_eq_true c_3, Bool.not_true, Bool.and_false]
        have hF : fAhd T n w = 0 := if_neg (fun z => by first | (rw [hn] at z; cases z.1) | (rw [ht] at z; cases z.2))
        refine x_aload_n Γ dX3_ahead_37 rfl ?_
        refine x_iconst Γ (v := 0) dX3_ahead_38 rfl ?_
        refine x_callV Γ calv_X3_finding wl_X3_48 dX3_ahead_39 (m_X3_finding (g := g) (T := T) (T2 := T2) (T3 := T3) (R := R) (X := X) (f := 0) (by decide)) rfl (by decide) (by decide) (by rfl) rfl rfl rfl (Nat.le_of_ble_eq_true rfl) (Nat.le_refl _) (Nat.le_refl _) ?_
        exact x_iretx ρ rfl dX3_ahead_42 rfl (by rw [hF]; try rfl) (cQ_i (rfl) rfl (vis_tr (vis_e (by rw [hF])) vis_W))
      · have q3 := c_3
        refine x_iload_n Γ dX3_ahead_33 rfl ?_
        refine x_if_ne Γ (tgt := 43) dX3_ahead_34 (by decide) (fun c_4 => ?_) (fun c_4 => ?_)
        · exact absurd rfl c_4
        · have hF : fAhd T n w = 0 := if_neg (fun z => by first | (rw [hn] at z; cases z.1) | (rw [ht] at z; cases z.2))
          refine x_aload_n Γ dX3_ahead_37 rfl ?_
          refine x_iconst Γ (v := 0) dX3_ahead_38 rfl ?_
          refine x_callV Γ calv_X3_finding wl_X3_48 dX3_ahead_39 (m_X3_finding (g := g) (T := T) (T2 := T2) (T3 := T3) (R := R) (X := X) (f := 0) (by decide)) rfl (by decide) (by decide) (by rfl) rfl rfl rfl (Nat.le_of_ble_eq_true rfl) (Nat.le_refl _) (Nat.le_refl _) ?_
          exact x_iretx ρ rfl dX3_ahead_42 rfl (by rw [hF]; try rfl) (cQ_i (rfl) rfl (vis_tr (vis_e (by rw [hF])) vis_W))
  · have q1 := c_1
    refine x_iload_n Γ dX3_ahead_4 rfl ?_
    refine x_iconst Γ (v := 4) dX3_ahead_5 rfl ?_
    refine x_aload_n Γ dX3_ahead_6 rfl ?_
    refine gf_X3_10 Γ dX3_ahead_7 (by decide) (by rfl) rfl ?_
    refine gf_X3_52 Γ dX3_ahead_10 (by decide) (by rfl) rfl ?_
    refine x_iadd Γ dX3_ahead_13 ?_
    refine x_icmp_ge Γ (tgt := 21) dX3_ahead_14 (by decide) (fun c_5 => ?_) (fun c_5 => ?_)
    · have ht : inR w 0 (3 + T 7 8) = false := by rw [told_in hN]; rw [decide_eq_true c_5, Bool.not_true, Bool.and_false]
      refine x_iconst Γ (v := 0) dX3_ahead_21 rfl ?_
      refine x_istore_n Γ dX3_ahead_22 (by decide) ?_
      refine x_iload_n Γ dX3_ahead_23 rfl ?_
      refine x_if_lt Γ (tgt := 37) dX3_ahead_24 (by decide) (fun c_6 => ?_) (fun c_6 => ?_)
      · have hn : inR n 0 60 = false := by rw [inR, decide_eq_true c_6]; rfl
        have hF : fAhd T n w = 0 := if_neg (fun z => by first | (rw [hn] at z; cases z.1) | (rw [ht] at z; cases z.2))
        refine x_aload_n Γ dX3_ahead_37 rfl ?_
        refine x_iconst Γ (v := 0) dX3_ahead_38 rfl ?_
        refine x_callV Γ calv_X3_finding wl_X3_48 dX3_ahead_39 (m_X3_finding (g := g) (T := T) (T2 := T2) (T3 := T3) (R := R) (X := X) (f := 0) (by decide)) rfl (by decide) (by decide) (by rfl) rfl rfl rfl (Nat.le_of_ble_eq_true rfl) (Nat.le_refl _) (Nat.le_refl _) ?_
        exact x_iretx ρ rfl dX3_ahead_42 rfl (by rw [hF]; try rfl) (cQ_i (rfl) rfl (vis_tr (vis_e (by rw [hF])) vis_W))
      · have q2 := c_6
        refine x_iload_n Γ dX3_ahead_27 rfl ?_
        refine x_bipush Γ (v := 60) dX3_ahead_28 rfl ?_
        refine x_icmp_gt Γ (tgt := 37) dX3_ahead_30 (by decide) (fun c_7 => ?_) (fun c_7 => ?_)
        · have hn : inR n 0 60 = false := by rw [inR, decide_eq_true c_7, Bool.not_true, Bool.and_false]
          have hF : fAhd T n w = 0 := if_neg (fun z => by first | (rw [hn] at z; cases z.1) | (rw [ht] at z; cases z.2))
          refine x_aload_n Γ dX3_ahead_37 rfl ?_
          refine x_iconst Γ (v := 0) dX3_ahead_38 rfl ?_
          refine x_callV Γ calv_X3_finding wl_X3_48 dX3_ahead_39 (m_X3_finding (g := g) (T := T) (T2 := T2) (T3 := T3) (R := R) (X := X) (f := 0) (by decide)) rfl (by decide) (by decide) (by rfl) rfl rfl rfl (Nat.le_of_ble_eq_true rfl) (Nat.le_refl _) (Nat.le_refl _) ?_
          exact x_iretx ρ rfl dX3_ahead_42 rfl (by rw [hF]; try rfl) (cQ_i (rfl) rfl (vis_tr (vis_e (by rw [hF])) vis_W))
        · have q3 := c_7
          refine x_iload_n Γ dX3_ahead_33 rfl ?_
          refine x_if_ne Γ (tgt := 43) dX3_ahead_34 (by decide) (fun c_8 => ?_) (fun c_8 => ?_)
          · exact absurd rfl c_8
          · have hF : fAhd T n w = 0 := if_neg (fun z => by first | (rw [hn] at z; cases z.1) | (rw [ht] at z; cases z.2))
            refine x_aload_n Γ dX3_ahead_37 rfl ?_
            refine x_iconst Γ (v := 0) dX3_ahead_38 rfl ?_
            refine x_callV Γ calv_X3_finding wl_X3_48 dX3_ahead_39 (m_X3_finding (g := g) (T := T) (T2 := T2) (T3 := T3) (R := R) (X := X) (f := 0) (by decide)) rfl (by decide) (by decide) (by rfl) rfl rfl rfl (Nat.le_of_ble_eq_true rfl) (Nat.le_refl _) (Nat.le_refl _) ?_
            exact x_iretx ρ rfl dX3_ahead_42 rfl (by rw [hF]; try rfl) (cQ_i (rfl) rfl (vis_tr (vis_e (by rw [hF])) vis_W))
    · have ht : inR w 0 (3 + T 7 8) = true := by rw [told_in hN]; rw [decide_eq_false q1, decide_eq_false c_5]; rfl
      refine x_iconst Γ (v := 1) dX3_ahead_17 rfl ?_
      refine x_goto Γ (tgt := 22) dX3_ahead_18 (by decide) ?_
      refine x_istore_n Γ dX3_ahead_22 (by decide) ?_
      refine x_iload_n Γ dX3_ahead_23 rfl ?_
      refine x_if_lt Γ (tgt := 37) dX3_ahead_24 (by decide) (fun c_9 => ?_) (fun c_9 => ?_)
      · have hn : inR n 0 60 = false := by rw [inR, decide_eq_true c_9]; rfl
        have hF : fAhd T n w = 0 := if_neg (fun z => by first | (rw [hn] at z; cases z.1) | (rw [ht] at z; cases z.2))
        refine x_aload_n Γ dX3_ahead_37 rfl ?_
        refine x_iconst Γ (v := 0) dX3_ahead_38 rfl ?_
        refine x_callV Γ calv_X3_finding wl_X3_48 dX3_ahead_39 (m_X3_finding (g := g) (T := T) (T2 := T2) (T3 := T3) (R := R) (X := X) (f := 0) (by decide)) rfl (by decide) (by decide) (by rfl) rfl rfl rfl (Nat.le_of_ble_eq_true rfl) (Nat.le_refl _) (Nat.le_refl _) ?_
        exact x_iretx ρ rfl dX3_ahead_42 rfl (by rw [hF]; try rfl) (cQ_i (rfl) rfl (vis_tr (vis_e (by rw [hF])) vis_W))
      · have q2 := c_9
        refine x_iload_n Γ dX3_ahead_27 rfl ?_
        refine x_bipush Γ (v := 60) dX3_ahead_28 rfl ?_
        refine x_icmp_gt Γ (tgt := 37) dX3_ahead_30 (by decide) (fun c_10 => ?_) (fun c_10 => ?_)
        · have hn : inR n 0 60 = false := by rw [inR, decide_eq_true c_10, Bool.not_true, Bool.and_false]
          have hF : fAhd T n w = 0 := if_neg (fun z => by first | (rw [hn] at z; cases z.1) | (rw [ht] at z; cases z.2))
          refine x_aload_n Γ dX3_ahead_37 rfl ?_
          refine x_iconst Γ (v := 0) dX3_ahead_38 rfl ?_
          refine x_callV Γ calv_X3_finding wl_X3_48 dX3_ahead_39 (m_X3_finding (g := g) (T := T) (T2 := T2) (T3 := T3) (R := R) (X := X) (f := 0) (by decide)) rfl (by decide) (by decide) (by rfl) rfl rfl rfl (Nat.le_of_ble_eq_true rfl) (Nat.le_refl _) (Nat.le_refl _) ?_
          exact x_iretx ρ rfl dX3_ahead_42 rfl (by rw [hF]; try rfl) (cQ_i (rfl) rfl (vis_tr (vis_e (by rw [hF])) vis_W))
        · have q3 := c_10
          refine x_iload_n Γ dX3_ahead_33 rfl ?_
          refine x_if_ne Γ (tgt := 43) dX3_ahead_34 (by decide) (fun c_11 => ?_) (fun c_11 => ?_)
          · have hn : inR n 0 60 = true := by rw [inR, decide_eq_false q2, decide_eq_false q3]; rfl
            obtain ⟨K, hK, rfl⟩ := inR_nI (n := 60) hn rfl (by omega)
            have eK : ci (nI K) = K := nI_clamp (by omega)
            obtain ⟨q, hq, rfl⟩ := inR_nI (n := 3 + N) ht (by rw [hN.1, show (3 : Int32) = nI 3 from rfl, nI_add]) (by omega)
            have eq : ci (nI q) = q := nI_clamp (by omega)
            refine x_aload_n Γ dX3_ahead_43 rfl ?_
            refine gf_X3_10 Γ dX3_ahead_44 (by decide) (by rfl) rfl ?_
            refine gf_X3_97 Γ dX3_ahead_47 (by decide) (by rfl) rfl ?_
            refine x_iload_n Γ dX3_ahead_50 rfl ?_
            refine x_iadd Γ dX3_ahead_51 ?_
            refine x_sipush Γ (v := 999) dX3_ahead_52 rfl ?_
            refine x_icmp_le Γ (tgt := 64) dX3_ahead_55 (by decide) (fun c_12 => ?_) (fun c_12 => ?_)
            · have hF : fAhd T (nI K) (nI q) = 7 := by rw [fAhd, if_pos ⟨hn, ht⟩, if_neg (Int32.not_lt.mpr c_12)]
              refine x_aload_n Γ dX3_ahead_64 rfl ?_
              refine gf_X3_16 Γ dX3_ahead_65 (by decide) (by rfl) rfl ?_
              refine x_aload_n Γ dX3_ahead_68 rfl ?_
              refine gf_X3_10 Γ dX3_ahead_69 (by decide) (by rfl) rfl ?_
              refine x_callVv Γ calv_X0_become wl_X3_131 dX3_ahead_72 (bec91) rfl (by decide) (by decide) (by rfl) rfl rfl rfl (Nat.le_of_ble_eq_true rfl) (Nat.le_refl _) (Nat.le_refl _) ?_
              refine x_aload_n Γ dX3_ahead_75 rfl ?_
              refine gf_X3_16 Γ dX3_ahead_76 (by decide) (by rfl) rfl ?_
              refine x_iload_n Γ dX3_ahead_79 rfl ?_
              refine x_callV Γ calv_X0_passWeeks wl_X3_162 dX3_ahead_80 (cM9 (m_X0_passWeeks (g := cW g T T T3 R X) (b := 9) (T := T) (by omega) hN hH (K := K) hK)) rfl (by decide) (by decide) (by rfl) rfl rfl rfl (Nat.le_of_ble_eq_true rfl) (Nat.le_refl _) (Nat.le_refl _) ?_
              refine x_istore Γ dX3_ahead_83 (by decide) ?_
              refine x_iload_n Γ dX3_ahead_85 rfl ?_
              refine x_tab4 Γ (a0 := 0) (a1 := 1) (a2 := 2) (a3 := 3) (t0 := 116) (t1 := 132) (t2 := 147) (t3 := 177) (td := 180) dX3_ahead_86 (by decide +kernel) (fun c_13 => ?_) (fun c_13 => ?_) (fun c_13 => ?_) (fun c_13 => ?_) (fun c_13_0 c_13_1 c_13_2 c_13_3 => ?_)
              · have hw := c_13
                refine x_aload_n Γ dX3_ahead_116 rfl ?_
                refine gf_X3_16 Γ dX3_ahead_117 (by decide) (by rfl) rfl ?_
                refine gf_X3_100 Γ dX3_ahead_120 (by decide) (by rfl) rfl ?_
                refine x_aload_n Γ dX3_ahead_123 rfl ?_
                refine gf_X3_10 Γ dX3_ahead_124 (by decide) (by rfl) rfl ?_
                refine gf_X3_100 Γ dX3_ahead_127 (by decide) (by rfl) rfl ?_
                refine x_isub Γ dX3_ahead_130 ?_
                exact x_iretx ρ rfl dX3_ahead_131 rfl (by rw [hF, rAhd, if_pos hw, eK]; try rfl) (cQ_i (rfl) rfl (vis_tr (vis_e (by rw [hF]; try rfl)) vis_W))
              · have hw := c_13
                refine x_aload_n Γ dX3_ahead_132 rfl ?_
                refine gf_X3_16 Γ dX3_ahead_133 (by decide) (by rfl) rfl ?_
                refine x_aload_n Γ dX3_ahead_136 rfl ?_
                refine gf_X3_16 Γ dX3_ahead_137 (by decide) (by rfl) rfl ?_
                refine gf_X3_165 Γ dX3_ahead_140 (by decide) (by rfl) rfl ?_
                refine x_callV Γ calv_X0_allOf wl_X3_168 dX3_ahead_143 (cM9 (m_X0_allOf (g := cW g T (wks N K T) T3 R X) (b := 9) (T := wks N K T) (by omega) (wks_N hN K) (q := 9 + 2) (F := wks N K T 1) (by decide) rfl)) rfl (by decide) (by decide) (by rfl) rfl rfl rfl (Nat.le_of_ble_eq_true rfl) (Nat.le_refl _) (Nat.le_refl _) ?_
                exact x_iretx ρ rfl dX3_ahead_146 rfl (by rw [hF, rAhd, hw, if_neg (by decide), if_pos rfl, eK]; try rfl) (cQ_i (rfl) rfl (vis_tr (vis_e (by rw [hF]; try rfl)) vis_W))
              · have hw := c_13
                refine x_aload_n Γ dX3_ahead_147 rfl ?_
                refine gf_X3_16 Γ dX3_ahead_148 (by decide) (by rfl) rfl ?_
                refine x_aload_n Γ dX3_ahead_151 rfl ?_
                refine gf_X3_16 Γ dX3_ahead_152 (by decide) (by rfl) rfl ?_
                refine gf_X3_63 Γ dX3_ahead_155 (by decide) (by rfl) rfl ?_
                refine x_callV Γ calv_X0_allOf wl_X3_168 dX3_ahead_158 (cM9 (m_X0_allOf (g := cW g T (wks N K T) T3 R X) (b := 9) (T := wks N K T) (by omega) (wks_N hN K) (q := 9 + 5) (F := wks N K T 4) (by decide) rfl)) rfl (by decide) (by decide) (by rfl) rfl rfl rfl (Nat.le_of_ble_eq_true rfl) (Nat.le_refl _) (Nat.le_refl _) ?_
                refine x_aload_n Γ dX3_ahead_161 rfl ?_
                refine gf_X3_10 Γ dX3_ahead_162 (by decide) (by rfl) rfl ?_
                refine x_aload_n Γ dX3_ahead_165 rfl ?_
                refine gf_X3_10 Γ dX3_ahead_166 (by decide) (by rfl) rfl ?_
                refine gf_X3_63 Γ dX3_ahead_169 (by decide) (by rfl) rfl ?_
                refine x_callV Γ calv_X0_allOf wl_X3_168 dX3_ahead_172 (cM1 (m_X0_allOf (g := cW g T (wks N K T) T3 R X) (b := 1) (T := T) (by omega) hN (q := 1 + 5) (F := T 4) (by decide) rfl)) rfl (by decide) (by decide) (by rfl) rfl rfl rfl (Nat.le_of_ble_eq_true rfl) (Nat.le_refl _) (Nat.le_refl _) ?_
                refine x_isub Γ dX3_ahead_175 ?_
                exact x_iretx ρ rfl dX3_ahead_176 rfl (by rw [hF, rAhd, hw, if_neg (by decide), if_neg (by decide), if_pos rfl, eK]; try rfl) (cQ_i (rfl) rfl (vis_tr (vis_e (by rw [hF]; try rfl)) vis_W))
              · have hw := c_13
                refine x_iload Γ dX3_ahead_177 rfl ?_
                exact x_iretx ρ rfl dX3_ahead_179 rfl (by rw [hF, rAhd, hw, if_neg (by decide), if_neg (by decide), if_neg (by decide), if_pos rfl, eK]; try rfl) (cQ_i (rfl) rfl (vis_tr (vis_e (by rw [hF]; try rfl)) vis_W))
              · have hq4 : 4 ≤ q := by
                  rcases (show q = 0 ∨ q = 1 ∨ q = 2 ∨ q = 3 ∨ 4 ≤ q by omega) with rfl | rfl | rfl | rfl | h
                  · exact absurd rfl c_13_0
                  · exact absurd rfl c_13_1
                  · exact absurd rfl c_13_2
                  · exact absurd rfl c_13_3
                  · exact h
                have hq5 : nI q - 4 = nI (q - 4) := pk_sub (b := 4) hq4
                refine x_aload_n Γ dX3_ahead_180 rfl ?_
                refine gf_X3_16 Γ dX3_ahead_181 (by decide) (by rfl) rfl ?_
                refine gf_X3_165 Γ dX3_ahead_184 (by decide) (by rfl) rfl ?_
                refine x_iload_n Γ dX3_ahead_187 rfl ?_
                refine x_iconst Γ (v := 4) dX3_ahead_188 rfl ?_
                refine x_isub Γ dX3_ahead_189 ?_
                rw [hq5]
                refine x_iald Γ dX3_ahead_190 (by decide) (by rfl) rfl (by first | assumption | omega) (by decide) rfl ?_
                exact x_iretx ρ rfl dX3_ahead_191 rfl (by rw [hF, rAhd, if_neg c_13_0, if_neg c_13_1, if_neg c_13_2, if_neg c_13_3, eK, eq]; try rfl) (cQ_i (rfl) rfl (vis_tr (vis_e (by rw [hF]; try rfl)) vis_W))
            · have hF : fAhd T (nI K) (nI q) = 4 := by rw [fAhd, if_pos ⟨hn, ht⟩, if_pos (Int32.not_le.mp c_12)]
              refine x_aload_n Γ dX3_ahead_58 rfl ?_
              refine x_iconst Γ (v := 4) dX3_ahead_59 rfl ?_
              refine x_callV Γ calv_X3_finding wl_X3_48 dX3_ahead_60 (m_X3_finding (g := g) (T := T) (T2 := T2) (T3 := T3) (R := R) (X := X) (f := 4) (by decide)) rfl (by decide) (by decide) (by rfl) rfl rfl rfl (Nat.le_of_ble_eq_true rfl) (Nat.le_refl _) (Nat.le_refl _) ?_
              exact x_iretx ρ rfl dX3_ahead_63 rfl (by rw [hF]; try rfl) (cQ_i (rfl) rfl (vis_tr (vis_e (by rw [hF])) vis_W))
          · exact absurd c_11 (by decide)

set_option maxRecDepth 100000 in
set_option maxHeartbeats 4000000 in
theorem m_X3_riot {g : Nat → zE} {T T2 T3 R : zT} {X : Nat → Int32} {N : Nat} (hN : wN T N) (hH : wH T N) (hB : wB T N) : zMx 5 M_X3_riot [.ref 0] (cW g T T2 T3 R X) 46 (some (.int (fr (fRio T N) (rRio T N)))) (cQ g (T) (T3) (gRio T R N)) := by
  refine zMx.intro (by decide) (Nat.le_of_ble_eq_true rfl) ?_
  intro Wf V m H0 Γ ρ
  replace Γ : zC Wf V m 2 H0 cX3_riot RX3 5 0 0 := Γ
  show zX Wf V m 2 H0 0 (zls [(0, .ref 0)]) [] (cW g T T2 T3 R X) 46 0 0
  have hN2 := hN.2
  have hcw := cw_rio hB
  refine x_aload_n Γ dX3_riot_0 rfl ?_
  refine gf_X3_10 Γ dX3_riot_1 (by decide) (by rfl) rfl ?_
  refine gf_X3_97 Γ dX3_riot_4 (by decide) (by rfl) rfl ?_
  refine x_bipush Γ (v := 60) dX3_riot_7 rfl ?_
  refine x_iadd Γ dX3_riot_9 ?_
  refine x_sipush Γ (v := 999) dX3_riot_10 rfl ?_
  refine x_icmp_le Γ (tgt := 22) dX3_riot_13 (by decide) (fun c_1 => ?_) (fun c_1 => ?_)
  · have hl := Int32.not_lt.mpr c_1
    refine x_aload_n Γ dX3_riot_22 rfl ?_
    refine gf_X3_16 Γ dX3_riot_23 (by decide) (by rfl) rfl ?_
    refine x_aload_n Γ dX3_riot_26 rfl ?_
    refine gf_X3_10 Γ dX3_riot_27 (by decide) (by rfl) rfl ?_
    refine x_callVv Γ calv_X0_become wl_X3_131 dX3_riot_30 (bec91) rfl (by decide) (by decide) (by rfl) rfl rfl rfl (Nat.le_of_ble_eq_true rfl) (Nat.le_refl _) (Nat.le_refl _) ?_
    refine x_aload_n Γ dX3_riot_33 rfl ?_
    refine gf_X3_16 Γ dX3_riot_34 (by decide) (by rfl) rfl ?_
    refine x_bipush Γ (v := 60) dX3_riot_37 rfl ?_
    refine x_callV Γ calv_X0_calmWeeks wl_X3_172 dX3_riot_39 (cM9 (m_X0_calmWeeks (g := cW g T T T3 R X) (b := 9) (T := T) (by omega) hN hH (K := 60) (by omega))) rfl (by decide) (by decide) (by rfl) rfl rfl rfl (Nat.le_of_ble_eq_true rfl) (Nat.le_refl _) (Nat.le_refl _) ?_
    refine x_istore_n Γ dX3_riot_42 (by decide) ?_
    refine x_iload_n Γ dX3_riot_43 rfl ?_
    refine x_bipush Γ (v := 60) dX3_riot_44 rfl ?_
    refine x_icmp_ge Γ (tgt := 55) dX3_riot_46 (by decide) (fun c_2 => ?_) (fun c_2 => ?_)
    · have hr : rioS T N 60 0 = none := by
        rcases hcw with ⟨p1, p2⟩ | ⟨c, p1, p2, p3⟩
        · exact p2
        · rw [p2] at c_2
          have := z_le (a := 60) c_2 (by omega) (by omega)
          omega
      have hF : fRio T N = 3 := by rw [fRio, if_neg hl, hr]; rfl
      refine x_aload_n Γ dX3_riot_55 rfl ?_
      refine x_iconst Γ (v := 3) dX3_riot_56 rfl ?_
      refine x_callV Γ calv_X3_finding wl_X3_48 dX3_riot_57 (m_X3_finding (g := g) (T := T) (T2 := (cwk N (T 7 6) 60 T 0).2) (T3 := T3) (R := R) (X := X) (f := 3) (by decide)) rfl (by decide) (by decide) (by rfl) rfl rfl rfl (Nat.le_of_ble_eq_true rfl) (Nat.le_refl _) (Nat.le_refl _) ?_
      exact x_iretx ρ rfl dX3_riot_60 rfl (by rw [hF]; try rfl) (cQ_i (rfl) rfl (vis_tr (vis_e (by rw [hF])) vis_Rio))
    · obtain ⟨c, hc, hc2, hr⟩ : ∃ c, c < 60 ∧ (cwk N (T 7 6) 60 T 0).1 = c ∧ rioS T N 60 0 = some (c + 1) := by
        rcases hcw with ⟨p1, p2⟩ | p3
        · rw [p1] at c_2
          exact absurd (Int32.le_refl _) c_2
        · exact p3
      have hF : fRio T N = 7 := by rw [fRio, if_neg hl, hr]; rfl
      refine x_iload_n Γ dX3_riot_49 rfl ?_
      refine x_iconst Γ (v := 1) dX3_riot_50 rfl ?_
      refine x_iadd Γ dX3_riot_51 ?_
      refine x_goto Γ (tgt := 60) dX3_riot_52 (by decide) ?_
      exact x_iretx ρ rfl dX3_riot_60 rfl (by rw [hF, rRio, hr, hc2]; exact zsi (nI_1 c).symm) (cQ_i (rfl) rfl (vis_tr (vis_e (by rw [hF]; try rfl)) vis_Rio))
  · have hF : fRio T N = 4 := if_pos (Int32.not_le.mp c_1)
    refine x_aload_n Γ dX3_riot_16 rfl ?_
    refine x_iconst Γ (v := 4) dX3_riot_17 rfl ?_
    refine x_callV Γ calv_X3_finding wl_X3_48 dX3_riot_18 (m_X3_finding (g := g) (T := T) (T2 := T2) (T3 := T3) (R := R) (X := X) (f := 4) (by decide)) rfl (by decide) (by decide) (by rfl) rfl rfl rfl (Nat.le_of_ble_eq_true rfl) (Nat.le_refl _) (Nat.le_refl _) ?_
    exact x_iretx ρ rfl dX3_riot_21 rfl (by rw [hF]; try rfl) (cQ_i (rfl) rfl (vis_tr (vis_e (by rw [hF])) vis_Rio))

set_option maxRecDepth 100000 in
set_option maxHeartbeats 4000000 in
theorem m_X3_next {g : Nat → zE} {T T2 T3 R : zT} {X : Nat → Int32} {N : Nat} (hN : wN T N) (hH : wH T N) (hB : wB T N) (c : Int32) : zMx 3 M_X3_next [.ref 0, .int c] (cW g T T2 T3 R X) 46 (some (.int (fr (fNxt T c) (wkT2 T N 5 (ci c))))) (cQ g (T) (T3) (fW T R (fNxt T c))) := by
  refine zMx.intro (by decide) (Nat.le_of_ble_eq_true rfl) ?_
  intro Wf V m H0 Γ ρ
  replace Γ : zC Wf V m 2 H0 cX3_next RX3 3 0 0 := Γ
  show zX Wf V m 2 H0 0 (zls [(0, .ref 0), (1, .int c)]) [] (cW g T T2 T3 R X) 46 0 0
  have hN2 := hN.2
  refine x_aload_n Γ dX3_next_0 rfl ?_
  refine gf_X3_10 Γ dX3_next_1 (by decide) (by rfl) rfl ?_
  refine x_iload_n Γ dX3_next_4 rfl ?_
  refine x_callV Γ calv_X0_houses wl_X3_60 dX3_next_5 (cM1 (m_X0_houses (g := cW g T T2 T3 R X) (b := 1) (T := T) (by omega) c)) rfl (by decide) (by decide) (by rfl) rfl rfl rfl (Nat.le_of_ble_eq_true rfl) (Nat.le_refl _) (Nat.le_refl _) ?_
  refine x_if_ne Γ (tgt := 17) dX3_next_8 (by decide) (fun c_1 => ?_) (fun c_1 => ?_)
  · have c_1 := zb_n0.mp c_1
    obtain ⟨j, hj, rfl⟩ := hs_in hN c_1
    have ej : ci (nI j) = j := nI_clamp (by omega)
    have hsj := c_1
    refine x_aload_n Γ dX3_next_17 rfl ?_
    refine gf_X3_10 Γ dX3_next_18 (by decide) (by rfl) rfl ?_
    refine gf_X3_97 Γ dX3_next_21 (by decide) (by rfl) rfl ?_
    refine x_sipush Γ (v := 999) dX3_next_24 rfl ?_
    refine x_icmp_lt Γ (tgt := 36) dX3_next_27 (by decide) (fun c_2 => ?_) (fun c_2 => ?_)
    · have hF : fNxt T (nI j) = 7 := by rw [fNxt, if_pos hsj, if_neg ((nx_w hB).mp c_2)]
      refine x_aload_n Γ dX3_next_36 rfl ?_
      refine gf_X3_16 Γ dX3_next_37 (by decide) (by rfl) rfl ?_
      refine x_aload_n Γ dX3_next_40 rfl ?_
      refine gf_X3_10 Γ dX3_next_41 (by decide) (by rfl) rfl ?_
      refine x_callVv Γ calv_X0_become wl_X3_131 dX3_next_44 (bec91) rfl (by decide) (by decide) (by rfl) rfl rfl rfl (Nat.le_of_ble_eq_true rfl) (Nat.le_refl _) (Nat.le_refl _) ?_
      refine x_aload_n Γ dX3_next_47 rfl ?_
      refine gf_X3_16 Γ dX3_next_48 (by decide) (by rfl) rfl ?_
      refine x_callVv Γ calv_X0_drawTokens wl_X3_175 dX3_next_51 (cM9 (m_X0_drawTokens (g := cW g T T T3 R X) (b := 9) (T := T) (by omega) hN)) rfl (by decide) (by decide) (by rfl) rfl rfl rfl (Nat.le_of_ble_eq_true rfl) (Nat.le_refl _) (Nat.le_refl _) ?_
      refine x_aload_n Γ dX3_next_54 rfl ?_
      refine gf_X3_16 Γ dX3_next_55 (by decide) (by rfl) rfl ?_
      refine x_callV Γ calv_X0_openGates wl_X3_128 dX3_next_58 (cM9 (m_X0_openGates (g := cW g T (wkT1 T N) T3 R X) (b := 9) (T := wkT1 T N) (by omega) (wk1_N hN) (wk1_H hH))) rfl (by decide) (by decide) (by rfl) rfl rfl rfl (Nat.le_of_ble_eq_true rfl) (Nat.le_refl _) (Nat.le_refl _) ?_
      refine x_pop Γ dX3_next_61 rfl ?_
      refine x_aload_n Γ dX3_next_62 rfl ?_
      refine gf_X3_16 Γ dX3_next_63 (by decide) (by rfl) rfl ?_
      refine gf_X3_119 Γ dX3_next_66 (by decide) (by rfl) rfl ?_
      refine x_iload_n Γ dX3_next_69 rfl ?_
      refine x_iald Γ dX3_next_70 (by decide) (by rfl) rfl (by first | assumption | omega) (by decide) rfl ?_
      exact x_iretx ρ rfl dX3_next_71 rfl (by rw [hF, ej]; try rfl) (cQ_i (rfl) rfl (vis_tr (vis_e (by rw [hF]; try rfl)) vis_W))
    · have hF : fNxt T (nI j) = 4 := by rw [fNxt, if_pos hsj, if_pos (Classical.not_not.mp (fun z => c_2 ((nx_w hB).mpr z)))]
      refine x_aload_n Γ dX3_next_30 rfl ?_
      refine x_iconst Γ (v := 4) dX3_next_31 rfl ?_
      refine x_callV Γ calv_X3_finding wl_X3_48 dX3_next_32 (m_X3_finding (g := g) (T := T) (T2 := T2) (T3 := T3) (R := R) (X := X) (f := 4) (by decide)) rfl (by decide) (by decide) (by rfl) rfl rfl rfl (Nat.le_of_ble_eq_true rfl) (Nat.le_refl _) (Nat.le_refl _) ?_
      exact x_iretx ρ rfl dX3_next_35 rfl (by rw [hF]; try rfl) (cQ_i (rfl) rfl (vis_tr (vis_e (by rw [hF])) vis_W))
  · have c_1 := zb_0.mp c_1
    have hF : fNxt T c = 0 := if_neg (fun z => by rw [c_1] at z; cases z)
    refine x_aload_n Γ dX3_next_11 rfl ?_
    refine x_iconst Γ (v := 0) dX3_next_12 rfl ?_
    refine x_callV Γ calv_X3_finding wl_X3_48 dX3_next_13 (m_X3_finding (g := g) (T := T) (T2 := T2) (T3 := T3) (R := R) (X := X) (f := 0) (by decide)) rfl (by decide) (by decide) (by rfl) rfl rfl rfl (Nat.le_of_ble_eq_true rfl) (Nat.le_refl _) (Nat.le_refl _) ?_
    exact x_iretx ρ rfl dX3_next_16 rfl (by rw [hF]; try rfl) (cQ_i (rfl) rfl (vis_tr (vis_e (by rw [hF])) vis_W))

set_option maxRecDepth 100000 in
set_option maxHeartbeats 4000000 in
theorem m_X3_leastCalmRuling {g : Nat → zE} {T T2 T3 R : zT} {X : Nat → Int32} {N : Nat} (hN : wN T N) (hH : wH T N) {w : Int32} {j v0 a : Nat} (hrj : rulF w = j) (hj6 : j ≠ 6) (hj8 : j ≠ 8) (hv0 : v0 ≤ 1) (ha : a + v0 = 11) (hok : ∀ c, c ≤ 10 → okR w (nI c) = decide (v0 ≤ c)) (n : Int32) : zMx 5 M_X3_leastCalmRuling [.ref 0, .int w, .int n] (cW g T T2 T3 R X) 46 (some (.int (fr (fRp T j N n a v0) (rRp T j N n a v0)))) (cQ g (T) (T3) (gRp T R j N n a v0)) := by
  refine zMx.intro (by decide) (Nat.le_of_ble_eq_true rfl) ?_
  intro Wf V m H0 Γ ρ
  replace Γ : zC Wf V m 5 H0 cX3_leastCalmRuling RX3 5 0 0 := Γ
  show zX Wf V m 5 H0 0 (zls [(0, .ref 0), (1, .int w), (2, .int n)]) [] (cW g T T2 T3 R X) 46 0 0
  have hN2 := hN.2
  refine x_aload_n Γ dX3_leastCalmRuling_0 rfl ?_
  refine x_iload_n Γ dX3_leastCalmRuling_1 rfl ?_
  refine x_callV Γ calv_X3_hindrance wl_X3_159 dX3_leastCalmRuling_2 (m_X3_hindrance (g := g) (T := T) (T2 := T2) (T3 := T3) (R := R) (X := X) n) rfl (by decide) (by decide) (by rfl) rfl rfl rfl (Nat.le_of_ble_eq_true rfl) (Nat.le_refl _) (Nat.le_refl _) ?_
  refine x_istore_n Γ dX3_leastCalmRuling_5 (by decide) ?_
  refine x_iload_n Γ dX3_leastCalmRuling_6 rfl ?_
  refine x_iconst Γ (v := -1) dX3_leastCalmRuling_7 rfl ?_
  refine x_icmp_eq Γ (tgt := 17) dX3_leastCalmRuling_8 (by decide) (fun c_1 => ?_) (fun c_1 => ?_)
  · have h7 := hdI_7 fWk_lt c_1
    obtain ⟨K, hK1, hK, rfl⟩ := fWk_K h7
    have eK : ci (nI K) = K := nI_clamp (by omega)
    refine x_iconst Γ (v := 0) dX3_leastCalmRuling_17 rfl ?_
    refine x_istore Γ dX3_leastCalmRuling_18 (by decide) ?_
    suffices L_20 : ∀ (k c : Nat) (W : zT), c ≤ 11 → 11 - c < k → rpS T j N K (11 - max c v0) (max c v0) = rpS T j N K a v0 → zX Wf V m 5 H0 20 (zls [(0, .ref 0), (1, .int w), (2, .int (nI K)), (4, .int (nI c))]) [] (cW g T W T3 R X) 46 0 0 by
      exact x_subl [(0, .ref 0), (1, .int w), (2, .int (nI K)), (4, .int (nI 0))] (List.forall_mem_cons.mpr ⟨rfl, List.forall_mem_cons.mpr ⟨rfl, List.forall_mem_cons.mpr ⟨rfl, List.forall_mem_cons.mpr ⟨rfl, fun _ hz => absurd hz List.not_mem_nil⟩⟩⟩⟩) (L_20 12 0 T2 (by omega) (by omega) (by rw [show max 0 v0 = v0 by omega, show 11 - v0 = a by omega]))
    intro k
    induction k with
    | zero => intro c W q1 q2; omega
    | succ k ih =>
      intro c W q1 q2 q3
      refine x_iload Γ dX3_leastCalmRuling_20 rfl ?_
      refine x_bipush Γ (v := 10) dX3_leastCalmRuling_22 rfl ?_
      refine x_icmp_gt Γ (tgt := 78) dX3_leastCalmRuling_24 (by decide) (fun c_2 => ?_) (fun c_2 => ?_)
      · have c_2 := z_lt (a := 10) c_2 (by omega) (by omega)
        obtain rfl : c = 11 := by omega
        have hr : rpS T j N K a v0 = none := by rw [← q3, show max 11 v0 = 11 by omega]; rfl
        have hF : fRp T j N (nI K) a v0 = 3 := by rw [fRp_7 h7, eK, hr]; rfl
        refine x_aload_n Γ dX3_leastCalmRuling_78 rfl ?_
        refine x_iconst Γ (v := 3) dX3_leastCalmRuling_79 rfl ?_
        refine x_callV Γ calv_X3_finding wl_X3_48 dX3_leastCalmRuling_80 (m_X3_finding (g := g) (T := T) (T2 := W) (T3 := T3) (R := R) (X := X) (f := 3) (by decide)) rfl (by decide) (by decide) (by rfl) rfl rfl rfl (Nat.le_of_ble_eq_true rfl) (Nat.le_refl _) (Nat.le_refl _) ?_
        exact x_iretx ρ rfl dX3_leastCalmRuling_83 rfl (by rw [hF]; try rfl) (cQ_i (rfl) rfl (vis_tr (vis_e (by rw [hF])) vis_Rp))
      · have c_2 := z_nlt (a := 10) c_2 (by omega) (by omega)
        refine x_iload_n Γ dX3_leastCalmRuling_27 rfl ?_
        refine x_iload Γ dX3_leastCalmRuling_28 rfl ?_
        refine x_callS Γ cals_X0_allowsRule wl_X3_87 dX3_leastCalmRuling_30 (m_X0_allowsRule w (nI c)) rfl (by decide) rfl (Nat.le_of_ble_eq_true rfl) (Nat.le_refl _) (Nat.le_refl _) ?_
        refine x_if_eq Γ (tgt := 72) dX3_leastCalmRuling_33 (by decide) (fun c_3 => ?_) (fun c_3 => ?_)
        · have c_3 := zb_0.mp c_3
          rw [hok c (by omega)] at c_3
          have c_3 := of_decide_eq_false c_3
          have q5 : rpS T j N K (11 - max (c + 1) v0) (max (c + 1) v0) = rpS T j N K a v0 := by rw [show max (c + 1) v0 = max c v0 by omega]; exact q3
          refine x_iinc Γ dX3_leastCalmRuling_72 rfl (by first | exact zinc _ | rfl) (by decide) ?_
          refine x_goto Γ (tgt := 20) dX3_leastCalmRuling_75 (by decide) ?_
          exact x_subl [(0, .ref 0), (1, .int w), (2, .int (nI K)), (4, .int (nI (c + 1)))] (List.forall_mem_cons.mpr ⟨rfl, List.forall_mem_cons.mpr ⟨rfl, List.forall_mem_cons.mpr ⟨rfl, List.forall_mem_cons.mpr ⟨rfl, fun _ hz => absurd hz List.not_mem_nil⟩⟩⟩⟩) (ih (c + 1) _ (by omega) (by omega) q5)
        · have c_3 := zb_n0.mp c_3
          rw [hok c (by omega)] at c_3
          have c_3 := of_decide_eq_true c_3
          rw [show max c v0 = c by omega, show 11 - c = 10 - c + 1 by omega] at q3
          refine x_aload_n Γ dX3_leastCalmRuling_36 rfl ?_
          refine gf_X3_16 Γ dX3_leastCalmRuling_37 (by decide) (by rfl) rfl ?_
          refine x_aload_n Γ dX3_leastCalmRuling_40 rfl ?_
          refine gf_X3_10 Γ dX3_leastCalmRuling_41 (by decide) (by rfl) rfl ?_
          refine x_callVv Γ calv_X0_become wl_X3_131 dX3_leastCalmRuling_44 (bec91) rfl (by decide) (by decide) (by rfl) rfl rfl rfl (Nat.le_of_ble_eq_true rfl) (Nat.le_refl _) (Nat.le_refl _) ?_
          refine x_aload_n Γ dX3_leastCalmRuling_47 rfl ?_
          refine gf_X3_16 Γ dX3_leastCalmRuling_48 (by decide) (by rfl) rfl ?_
          refine x_iload_n Γ dX3_leastCalmRuling_51 rfl ?_
          refine x_iload Γ dX3_leastCalmRuling_52 rfl ?_
          refine x_callVv Γ calv_X0_setRuling wl_X3_93 dX3_leastCalmRuling_54 (cM9 (m_X0_setRuling (g := cW g T T T3 R X) (b := 9) (T := T) (by omega) w (nI c))) rfl (by decide) (by decide) (by rfl) rfl rfl rfl (Nat.le_of_ble_eq_true rfl) (Nat.le_refl _) (Nat.le_refl _) ?_
          rw [hrj]
          refine x_aload_n Γ dX3_leastCalmRuling_57 rfl ?_
          refine gf_X3_16 Γ dX3_leastCalmRuling_58 (by decide) (by rfl) rfl ?_
          refine x_iload_n Γ dX3_leastCalmRuling_61 rfl ?_
          refine x_callV Γ calv_X0_calmWeeks wl_X3_172 dX3_leastCalmRuling_62 (cM9 (m_X0_calmWeeks (g := cW g T (ts T 7 j (nI c)) T3 R X) (b := 9) (T := ts T 7 j (nI c)) (by omega) (wN_of (ts_i hj8.symm) hN) (wH_of (ts_n (by decide)) hH) (K := K) hK)) rfl (by decide) (by decide) (by rfl) rfl rfl rfl (Nat.le_of_ble_eq_true rfl) (Nat.le_refl _) (Nat.le_refl _) ?_
          refine x_iload_n Γ dX3_leastCalmRuling_65 rfl ?_
          refine x_icmp_ne Γ (tgt := 72) dX3_leastCalmRuling_66 (by decide) (fun c_4 => ?_) (fun c_4 => ?_)
          · have c_4 := fun z => c_4 ((cw_cal hj6 hK).mpr z)
            have q5 : rpS T j N K (11 - max (c + 1) v0) (max (c + 1) v0) = rpS T j N K a v0 := by rw [show max (c + 1) v0 = c + 1 by omega, show 11 - (c + 1) = 10 - c by omega]; exact (if_neg c_4).symm.trans q3
            refine x_iinc Γ dX3_leastCalmRuling_72 rfl (by first | exact zinc _ | rfl) (by decide) ?_
            refine x_goto Γ (tgt := 20) dX3_leastCalmRuling_75 (by decide) ?_
            exact x_subl [(0, .ref 0), (1, .int w), (2, .int (nI K)), (4, .int (nI (c + 1)))] (List.forall_mem_cons.mpr ⟨rfl, List.forall_mem_cons.mpr ⟨rfl, List.forall_mem_cons.mpr ⟨rfl, List.forall_mem_cons.mpr ⟨rfl, fun _ hz => absurd hz List.not_mem_nil⟩⟩⟩⟩) (ih (c + 1) _ (by omega) (by omega) q5)
          · have c_4 := (cw_cal hj6 hK).mp c_4
            have hr : rpS T j N K a v0 = some c := q3.symm.trans (if_pos c_4)
            have hF : fRp T j N (nI K) a v0 = 7 := by rw [fRp_7 h7, eK, hr]; rfl
            refine x_iload Γ dX3_leastCalmRuling_69 rfl ?_
            exact x_iretx ρ rfl dX3_leastCalmRuling_71 rfl (by rw [hF, rRp, eK, hr]; try rfl) (cQ_i (rfl) rfl (vis_tr (vis_e (by rw [hF]; try rfl)) vis_Rp))
  · have h8 := hdI_8 c_1
    rw [hdI_n h8]
    have h9 : fWk T n < 7 := by have := fWk_lt (T := T) (n := n); omega
    refine x_aload_n Γ dX3_leastCalmRuling_11 rfl ?_
    refine x_iload_n Γ dX3_leastCalmRuling_12 rfl ?_
    refine x_callV Γ calv_X3_finding wl_X3_48 dX3_leastCalmRuling_13 (m_X3_finding (g := g) (T := T) (T2 := T2) (T3 := T3) (R := R) (X := X) (f := fWk T n) (h9)) rfl (by decide) (by decide) (by rfl) rfl rfl rfl (Nat.le_of_ble_eq_true rfl) (Nat.le_refl _) (Nat.le_refl _) ?_
    exact x_iretx ρ rfl dX3_leastCalmRuling_16 rfl (by rw [fRp_n h8]; exact zsi (fr_n h9)) (cQ_i (rfl) rfl (vis_tr (vis_e (by rw [fRp_n h8])) vis_Rp))

set_option maxRecDepth 100000 in
set_option maxHeartbeats 4000000 in
theorem m_X3_loaves {g : Nat → zE} {T T2 T3 R : zT} {X : Nat → Int32} {N : Nat} (hN : wN T N) (hH : wH T N) (n : Int32) : zMx 6 M_X3_loaves [.ref 0, .int n] (cW g T T2 T3 R X) 46 (some (.int (fr (fRp T 0 N n 11 0) (rRp T 0 N n 11 0)))) (cQ g (T) (T3) (gRp T R 0 N n 11 0)) := by
  refine zMx.intro (by decide) (Nat.le_of_ble_eq_true rfl) ?_
  intro Wf V m H0 Γ ρ
  replace Γ : zC Wf V m 2 H0 cX3_loaves RX3 6 0 0 := Γ
  show zX Wf V m 2 H0 0 (zls [(0, .ref 0), (1, .int n)]) [] (cW g T T2 T3 R X) 46 0 0
  refine x_aload_n Γ dX3_loaves_0 rfl ?_
  refine x_iconst Γ (v := 0) dX3_loaves_1 rfl ?_
  refine x_iload_n Γ dX3_loaves_2 rfl ?_
  refine x_callVx Γ calv_X3_leastCalmRuling wl_X3_178 dX3_loaves_3 (m_X3_leastCalmRuling (g := g) (T := T) (T2 := T2) (T3 := T3) (R := R) (X := X) hN hH (w := 0) (j := 0) (v0 := 0) (a := 11) rfl (by decide) (by decide) (by decide) rfl ok_0 n) rfl (by decide) (by decide) (by rfl) rfl rfl rfl (Nat.le_of_ble_eq_true rfl) (Nat.le_refl _) (Nat.le_refl _) (fun h_x hQ_x => ?_)
  obtain ⟨T2x, Xx, rfl⟩ := hQ_x
  exact x_iretx ρ rfl dX3_loaves_6 rfl (rfl) (cQ_i rfl rfl vis_rf)

set_option maxRecDepth 100000 in
set_option maxHeartbeats 4000000 in
theorem m_X3_bound {g : Nat → zE} {T T2 T3 R : zT} {X : Nat → Int32} {N : Nat} (hN : wN T N) (hH : wH T N) (n : Int32) : zMx 6 M_X3_bound [.ref 0, .int n] (cW g T T2 T3 R X) 46 (some (.int (fr (fRp T 2 N n 10 1) (rRp T 2 N n 10 1)))) (cQ g (T) (T3) (gRp T R 2 N n 10 1)) := by
  refine zMx.intro (by decide) (Nat.le_of_ble_eq_true rfl) ?_
  intro Wf V m H0 Γ ρ
  replace Γ : zC Wf V m 2 H0 cX3_bound RX3 6 0 0 := Γ
  show zX Wf V m 2 H0 0 (zls [(0, .ref 0), (1, .int n)]) [] (cW g T T2 T3 R X) 46 0 0
  refine x_aload_n Γ dX3_bound_0 rfl ?_
  refine x_iconst Γ (v := 2) dX3_bound_1 rfl ?_
  refine x_iload_n Γ dX3_bound_2 rfl ?_
  refine x_callVx Γ calv_X3_leastCalmRuling wl_X3_178 dX3_bound_3 (m_X3_leastCalmRuling (g := g) (T := T) (T2 := T2) (T3 := T3) (R := R) (X := X) hN hH (w := 2) (j := 2) (v0 := 1) (a := 10) rfl (by decide) (by decide) (by decide) rfl ok_2 n) rfl (by decide) (by decide) (by rfl) rfl rfl rfl (Nat.le_of_ble_eq_true rfl) (Nat.le_refl _) (Nat.le_refl _) (fun h_x hQ_x => ?_)
  obtain ⟨T2x, Xx, rfl⟩ := hQ_x
  exact x_iretx ρ rfl dX3_bound_6 rfl (rfl) (cQ_i rfl rfl vis_rf)

set_option maxRecDepth 100000 in
set_option maxHeartbeats 4000000 in
theorem m_X3_isCalmWith {g : Nat → zE} {T T2 T3 R : zT} {X : Nat → Int32} {N : Nat} (hN : wN T N) (hH : wH T N) (b s : Int32) {K : Nat} (hK : K ≤ 60) : zM 5 M_X3_isCalmWith [.ref 0, .int b, .int s, .int (nI K)] (cW g T T2 T3 R X) 46 (some (.int (zb (decide (trd (ts T 7 1 s) 0 b N K = 0))))) (cW g T (cwk N ((ts (ts T 7 1 s) 7 0 b) 7 6) K (ts (ts T 7 1 s) 7 0 b) 0).2 T3 R X) 46 0 0 := by
  refine zM.intro (by decide) (Nat.le_of_ble_eq_true rfl) ?_
  intro Wf V m H0 Γ ρ
  replace Γ : zC Wf V m 4 H0 cX3_isCalmWith RX3 5 0 0 := Γ
  show zX Wf V m 4 H0 0 (zls [(0, .ref 0), (1, .int b), (2, .int s), (3, .int (nI K))]) [] (cW g T T2 T3 R X) 46 0 0
  have hN2 := hN.2
  refine x_aload_n Γ dX3_isCalmWith_0 rfl ?_
  refine gf_X3_16 Γ dX3_isCalmWith_1 (by decide) (by rfl) rfl ?_
  refine x_aload_n Γ dX3_isCalmWith_4 rfl ?_
  refine gf_X3_10 Γ dX3_isCalmWith_5 (by decide) (by rfl) rfl ?_
  refine x_callVv Γ calv_X0_become wl_X3_131 dX3_isCalmWith_8 (bec91) rfl (by decide) (by decide) (by rfl) rfl rfl rfl (Nat.le_of_ble_eq_true rfl) (Nat.le_refl _) (Nat.le_refl _) ?_
  refine x_aload_n Γ dX3_isCalmWith_11 rfl ?_
  refine gf_X3_16 Γ dX3_isCalmWith_12 (by decide) (by rfl) rfl ?_
  refine x_iload_n Γ dX3_isCalmWith_15 rfl ?_
  refine pf_X3_113 Γ dX3_isCalmWith_16 (by decide) (by rfl) (Nat.le_of_ble_eq_true rfl) (cW_p9 (k := 0) rfl) ?_
  refine x_aload_n Γ dX3_isCalmWith_19 rfl ?_
  refine gf_X3_16 Γ dX3_isCalmWith_20 (by decide) (by rfl) rfl ?_
  refine x_iload_n Γ dX3_isCalmWith_23 rfl ?_
  refine pf_X3_116 Γ dX3_isCalmWith_24 (by decide) (by rfl) (Nat.le_of_ble_eq_true rfl) (cW_p9 (k := 1) rfl) ?_
  rw [ts_c2 (show 0 ≠ 1 by decide)]
  refine x_aload_n Γ dX3_isCalmWith_27 rfl ?_
  refine gf_X3_16 Γ dX3_isCalmWith_28 (by decide) (by rfl) rfl ?_
  refine x_iload_n Γ dX3_isCalmWith_31 rfl ?_
  refine x_callV Γ calv_X0_calmWeeks wl_X3_172 dX3_isCalmWith_32 (cM9 (m_X0_calmWeeks (g := cW g T (ts (ts T 7 1 s) 7 0 b) T3 R X) (b := 9) (T := (ts (ts T 7 1 s) 7 0 b)) (by omega) (wN_of (by rw [ts_i (by decide), ts_i (by decide)]) hN) (wH_of (by rw [ts_n (by decide), ts_n (by decide)]) hH) (K := K) hK)) rfl (by decide) (by decide) (by rfl) rfl rfl rfl (Nat.le_of_ble_eq_true rfl) (Nat.le_refl _) (Nat.le_refl _) ?_
  refine x_iload_n Γ dX3_isCalmWith_35 rfl ?_
  refine x_icmp_ne Γ (tgt := 43) dX3_isCalmWith_36 (by decide) (fun c_1 => ?_) (fun c_1 => ?_)
  · have c_1 : ¬ trd (ts T 7 1 s) 0 b N K = 0 := fun z => c_1 ((cw_cal (by decide) hK).mpr z)
    refine x_iconst Γ (v := 0) dX3_isCalmWith_43 rfl ?_
    exact x_iret ρ rfl dX3_isCalmWith_44 (by first | exact zb_nz _ | rfl) (by simp only [c_1, decide_true, decide_false, zb]; try rfl) rfl (zH.rf)
  · have c_1 : trd (ts T 7 1 s) 0 b N K = 0 := (cw_cal (by decide) hK).mp c_1
    refine x_iconst Γ (v := 1) dX3_isCalmWith_39 rfl ?_
    refine x_goto Γ (tgt := 44) dX3_isCalmWith_40 (by decide) ?_
    exact x_iret ρ rfl dX3_isCalmWith_44 (by first | exact zb_nz _ | rfl) (by simp only [c_1, decide_true, decide_false, zb]; try rfl) rfl (zH.rf)

set_option maxRecDepth 100000 in
set_option maxHeartbeats 4000000 in
theorem m_X3_cheapest {g : Nat → zE} {T T2 T3 R : zT} {X : Nat → Int32} {N : Nat} (hN : wN T N) (hH : wH T N) (n : Int32) : zMx 6 M_X3_cheapest [.ref 0, .int n] (cW g T T2 T3 R X) 46 (some (.int (fr (fChe T N n) ((chS T N (ci n) 121).1)))) (cQ g (T) (T3) (gChe T R N n)) := by
  refine zMx.intro (by decide) (Nat.le_of_ble_eq_true rfl) ?_
  intro Wf V m H0 Γ ρ
  replace Γ : zC Wf V m 8 H0 cX3_cheapest RX3 6 0 0 := Γ
  show zX Wf V m 8 H0 0 (zls [(0, .ref 0), (1, .int n)]) [] (cW g T T2 T3 R X) 46 0 0
  have hN2 := hN.2
  refine x_aload_n Γ dX3_cheapest_0 rfl ?_
  refine x_iload_n Γ dX3_cheapest_1 rfl ?_
  refine x_callV Γ calv_X3_hindrance wl_X3_159 dX3_cheapest_2 (m_X3_hindrance (g := g) (T := T) (T2 := T2) (T3 := T3) (R := R) (X := X) n) rfl (by decide) (by decide) (by rfl) rfl rfl rfl (Nat.le_of_ble_eq_true rfl) (Nat.le_refl _) (Nat.le_refl _) ?_
  refine x_istore_n Γ dX3_cheapest_5 (by decide) ?_
  refine x_iload_n Γ dX3_cheapest_6 rfl ?_
  refine x_iconst Γ (v := -1) dX3_cheapest_7 rfl ?_
  refine x_icmp_eq Γ (tgt := 17) dX3_cheapest_8 (by decide) (fun c_1 => ?_) (fun c_1 => ?_)
  · have h7 := hdI_7 fWk_lt c_1
    obtain ⟨K, hK1, hK, rfl⟩ := fWk_K h7
    have eK : ci (nI K) = K := nI_clamp (by omega)
    refine x_bipush Γ (v := 50) dX3_cheapest_17 rfl ?_
    refine x_istore_n Γ dX3_cheapest_19 (by decide) ?_
    refine x_iconst Γ (v := 0) dX3_cheapest_20 rfl ?_
    refine x_istore Γ dX3_cheapest_21 (by decide) ?_
    suffices L_23 : ∀ (ko c : Nat) (W : zT), c ≤ 51 → 51 - c < ko → chI T N K c 0 → zX Wf V m 8 H0 23 (zls [(0, .ref 0), (1, .int (nI K)), (3, .int 50), (4, .int (nI c))]) [] (cW g T W T3 R X) 46 0 0 by
      exact x_subl [(0, .ref 0), (1, .int (nI K)), (3, .int 50), (4, .int (nI 0))] (List.forall_mem_cons.mpr ⟨rfl, List.forall_mem_cons.mpr ⟨rfl, List.forall_mem_cons.mpr ⟨rfl, List.forall_mem_cons.mpr ⟨rfl, fun _ hz => absurd hz List.not_mem_nil⟩⟩⟩⟩) (L_23 52 0 T2 (by omega) (by omega) chI_0)
    intro ko
    induction ko with
    | zero => intro c W q1o q2o; omega
    | succ ko iho =>
      intro c W q1o q2o q3o
      refine x_iload Γ dX3_cheapest_23 rfl ?_
      refine x_iload_n Γ dX3_cheapest_25 rfl ?_
      refine x_icmp_gt Γ (tgt := 118) dX3_cheapest_26 (by decide) (fun c_2 => ?_) (fun c_2 => ?_)
      · have c_2 := z_lt (a := 50) c_2 (by omega) (by omega)
        obtain rfl : c = 51 := by omega
        have hF : fChe T N (nI K) = 3 := by rw [fChe_7 h7, eK, ch_none hK q3o, if_neg (by decide)]
        refine x_aload_n Γ dX3_cheapest_118 rfl ?_
        refine x_iconst Γ (v := 3) dX3_cheapest_119 rfl ?_
        refine x_callV Γ calv_X3_finding wl_X3_48 dX3_cheapest_120 (m_X3_finding (g := g) (T := T) (T2 := W) (T3 := T3) (R := R) (X := X) (f := 3) (by decide)) rfl (by decide) (by decide) (by rfl) rfl rfl rfl (Nat.le_of_ble_eq_true rfl) (Nat.le_refl _) (Nat.le_refl _) ?_
        exact x_iretx ρ rfl dX3_cheapest_123 rfl (by rw [hF]; try rfl) (cQ_i (rfl) rfl (vis_tr (vis_e (by rw [hF])) vis_Che))
      · have c_2 := z_nlt (a := 50) c_2 (by omega) (by omega)
        refine x_iconst Γ (v := 0) dX3_cheapest_29 rfl ?_
        refine x_istore Γ dX3_cheapest_30 (by decide) ?_
        suffices L_32 : ∀ (ki b : Nat) (W2 : zT), b ≤ 11 → 11 - b < ki → chI T N K c b → zX Wf V m 8 H0 32 (zls [(0, .ref 0), (1, .int (nI K)), (3, .int 50), (4, .int (nI c)), (5, .int (nI b))]) [] (cW g T W2 T3 R X) 46 0 0 by
          exact x_subl [(0, .ref 0), (1, .int (nI K)), (3, .int 50), (4, .int (nI c)), (5, .int (nI 0))] (List.forall_mem_cons.mpr ⟨rfl, List.forall_mem_cons.mpr ⟨rfl, List.forall_mem_cons.mpr ⟨rfl, List.forall_mem_cons.mpr ⟨rfl, List.forall_mem_cons.mpr ⟨rfl, fun _ hz => absurd hz List.not_mem_nil⟩⟩⟩⟩⟩) (L_32 12 0 W (by omega) (by omega) q3o)
        intro ki
        induction ki with
        | zero => intro b W2 q1 q2; omega
        | succ ki ihi =>
          intro b W2 q1 q2 q3
          refine x_iload Γ dX3_cheapest_32 rfl ?_
          refine x_bipush Γ (v := 10) dX3_cheapest_34 rfl ?_
          refine x_icmp_gt Γ (tgt := 112) dX3_cheapest_36 (by decide) (fun c_3 => ?_) (fun c_3 => ?_)
          · have c_3 := z_lt (a := 10) c_3 (by omega) (by omega)
            obtain rfl : b = 11 := by omega
            refine x_iinc Γ dX3_cheapest_112 rfl (by first | exact zinc _ | rfl) (by decide) ?_
            refine x_goto Γ (tgt := 23) dX3_cheapest_115 (by decide) ?_
            exact x_subl [(0, .ref 0), (1, .int (nI K)), (3, .int 50), (4, .int (nI (c + 1)))] (List.forall_mem_cons.mpr ⟨rfl, List.forall_mem_cons.mpr ⟨rfl, List.forall_mem_cons.mpr ⟨rfl, List.forall_mem_cons.mpr ⟨rfl, fun _ hz => absurd hz List.not_mem_nil⟩⟩⟩⟩) (iho (c + 1) _ (by omega) (by omega) (chI_c q3))
          · have c_3 := z_nlt (a := 10) c_3 (by omega) (by omega)
            refine x_iload Γ dX3_cheapest_39 rfl ?_
            refine x_iconst Γ (v := 3) dX3_cheapest_41 rfl ?_
            refine x_iload Γ dX3_cheapest_42 rfl ?_
            refine x_imul Γ dX3_cheapest_44 ?_
            refine x_isub Γ dX3_cheapest_45 ?_
            refine x_istore Γ dX3_cheapest_46 (by decide) ?_
            refine x_iload Γ dX3_cheapest_48 rfl ?_
            refine x_if_lt Γ (tgt := 73) dX3_cheapest_50 (by decide) (fun c_4 => ?_) (fun c_4 => ?_)
            · have c_4 := (lft_lt (by omega) (by omega)).mp c_4
              have hI : chI T N K c (b + 1) := chI_b q3 (fun s hs e => by omega)
              refine x_iconst Γ (v := 0) dX3_cheapest_73 rfl ?_
              refine x_istore Γ dX3_cheapest_74 (by decide) ?_
              refine x_iload Γ dX3_cheapest_76 rfl ?_
              refine x_if_eq Γ (tgt := 106) dX3_cheapest_78 (by decide) (fun c_5 => ?_) (fun c_5 => ?_)
              · refine x_iinc Γ dX3_cheapest_106 rfl (by first | exact zinc _ | rfl) (by decide) ?_
                refine x_goto Γ (tgt := 32) dX3_cheapest_109 (by decide) ?_
                exact x_subl [(0, .ref 0), (1, .int (nI K)), (3, .int 50), (4, .int (nI c)), (5, .int (nI (b + 1)))] (List.forall_mem_cons.mpr ⟨rfl, List.forall_mem_cons.mpr ⟨rfl, List.forall_mem_cons.mpr ⟨rfl, List.forall_mem_cons.mpr ⟨rfl, List.forall_mem_cons.mpr ⟨rfl, fun _ hz => absurd hz List.not_mem_nil⟩⟩⟩⟩⟩) (ihi (b + 1) _ (by omega) (by omega) hI)
              · exact absurd rfl c_5
            · have c_4 : 3 * b ≤ c := Nat.not_lt.mp (fun z => c_4 ((lft_lt (by omega) (by omega)).mpr z))
              obtain ⟨d, hd⟩ : ∃ d, c = 3 * b + d := ⟨c - 3 * b, by omega⟩
              have hdl : nI c - 3 * nI b = nI d := by rw [show (3 : Int32) = nI 3 from rfl, pk_mul, pk_sub c_4, show c - 3 * b = d by omega]
              rw [hdl]
              refine x_iload Γ dX3_cheapest_53 rfl ?_
              refine x_iconst Γ (v := 2) dX3_cheapest_55 rfl ?_
              refine x_irem Γ dX3_cheapest_56 (by decide) ?_
              refine x_if_ne Γ (tgt := 73) dX3_cheapest_57 (by decide) (fun c_6 => ?_) (fun c_6 => ?_)
              · rw [pk_rem2 (by omega)] at c_6
                have c_6 : d % 2 ≠ 0 := fun z => c_6 (by rw [z]; exact nI_0)
                have hI : chI T N K c (b + 1) := chI_b q3 (fun s hs e => by omega)
                refine x_iconst Γ (v := 0) dX3_cheapest_73 rfl ?_
                refine x_istore Γ dX3_cheapest_74 (by decide) ?_
                refine x_iload Γ dX3_cheapest_76 rfl ?_
                refine x_if_eq Γ (tgt := 106) dX3_cheapest_78 (by decide) (fun c_7 => ?_) (fun c_7 => ?_)
                · refine x_iinc Γ dX3_cheapest_106 rfl (by first | exact zinc _ | rfl) (by decide) ?_
                  refine x_goto Γ (tgt := 32) dX3_cheapest_109 (by decide) ?_
                  exact x_subl [(0, .ref 0), (1, .int (nI K)), (3, .int 50), (4, .int (nI c)), (5, .int (nI (b + 1)))] (List.forall_mem_cons.mpr ⟨rfl, List.forall_mem_cons.mpr ⟨rfl, List.forall_mem_cons.mpr ⟨rfl, List.forall_mem_cons.mpr ⟨rfl, List.forall_mem_cons.mpr ⟨rfl, fun _ hz => absurd hz List.not_mem_nil⟩⟩⟩⟩⟩) (ihi (b + 1) _ (by omega) (by omega) hI)
                · exact absurd rfl c_7
              · rw [pk_rem2 (by omega), ← nI_0] at c_6
                have hd2 := (nI_eq (by omega) (by omega)).mp c_6
                refine x_iload Γ dX3_cheapest_60 rfl ?_
                refine x_iconst Γ (v := 2) dX3_cheapest_62 rfl ?_
                refine x_idiv Γ dX3_cheapest_63 (by decide) ?_
                refine x_bipush Γ (v := 10) dX3_cheapest_64 rfl ?_
                refine x_icmp_gt Γ (tgt := 73) dX3_cheapest_66 (by decide) (fun c_8 => ?_) (fun c_8 => ?_)
                · rw [pk_div2 (by omega)] at c_8
                  have c_8 := z_lt (a := 10) c_8 (by omega) (by omega)
                  have hI : chI T N K c (b + 1) := chI_b q3 (fun s hs e => by omega)
                  refine x_iconst Γ (v := 0) dX3_cheapest_73 rfl ?_
                  refine x_istore Γ dX3_cheapest_74 (by decide) ?_
                  refine x_iload Γ dX3_cheapest_76 rfl ?_
                  refine x_if_eq Γ (tgt := 106) dX3_cheapest_78 (by decide) (fun c_9 => ?_) (fun c_9 => ?_)
                  · refine x_iinc Γ dX3_cheapest_106 rfl (by first | exact zinc _ | rfl) (by decide) ?_
                    refine x_goto Γ (tgt := 32) dX3_cheapest_109 (by decide) ?_
                    exact x_subl [(0, .ref 0), (1, .int (nI K)), (3, .int 50), (4, .int (nI c)), (5, .int (nI (b + 1)))] (List.forall_mem_cons.mpr ⟨rfl, List.forall_mem_cons.mpr ⟨rfl, List.forall_mem_cons.mpr ⟨rfl, List.forall_mem_cons.mpr ⟨rfl, List.forall_mem_cons.mpr ⟨rfl, fun _ hz => absurd hz List.not_mem_nil⟩⟩⟩⟩⟩) (ihi (b + 1) _ (by omega) (by omega) hI)
                  · exact absurd rfl c_9
                · rw [pk_div2 (by omega)] at c_8
                  have hd10 := z_nlt (a := 10) c_8 (by omega) (by omega)
                  refine x_iconst Γ (v := 1) dX3_cheapest_69 rfl ?_
                  refine x_goto Γ (tgt := 74) dX3_cheapest_70 (by decide) ?_
                  refine x_istore Γ dX3_cheapest_74 (by decide) ?_
                  refine x_iload Γ dX3_cheapest_76 rfl ?_
                  refine x_if_eq Γ (tgt := 106) dX3_cheapest_78 (by decide) (fun c_10 => ?_) (fun c_10 => ?_)
                  · exact absurd c_10 (by decide)
                  · refine x_aload_n Γ dX3_cheapest_81 rfl ?_
                    refine x_iload Γ dX3_cheapest_82 rfl ?_
                    refine x_iload Γ dX3_cheapest_84 rfl ?_
                    refine x_iconst Γ (v := 2) dX3_cheapest_86 rfl ?_
                    refine x_idiv Γ dX3_cheapest_87 (by decide) ?_
                    rw [pk_div2 (by omega)]
                    refine x_iload_n Γ dX3_cheapest_88 rfl ?_
                    refine x_callV Γ calv_X3_isCalmWith wl_X3_181 dX3_cheapest_89 (m_X3_isCalmWith (g := g) (T := T) (T2 := W2) (T3 := T3) (R := R) (X := X) hN hH (nI b) (nI (d / 2)) hK) rfl (by decide) (by decide) (by rfl) rfl rfl rfl (Nat.le_of_ble_eq_true rfl) (Nat.le_refl _) (Nat.le_refl _) ?_
                    refine x_if_eq Γ (tgt := 106) dX3_cheapest_92 (by decide) (fun c_11 => ?_) (fun c_11 => ?_)
                    · have c_11 := zb_0.mp c_11
                      have c_11 := of_decide_eq_false c_11
                      have hI : chI T N K c (b + 1) := chI_b q3 (fun s hs e z => by rw [show s = d / 2 by omega] at z; exact c_11 z)
                      refine x_iinc Γ dX3_cheapest_106 rfl (by first | exact zinc _ | rfl) (by decide) ?_
                      refine x_goto Γ (tgt := 32) dX3_cheapest_109 (by decide) ?_
                      exact x_subl [(0, .ref 0), (1, .int (nI K)), (3, .int 50), (4, .int (nI c)), (5, .int (nI (b + 1)))] (List.forall_mem_cons.mpr ⟨rfl, List.forall_mem_cons.mpr ⟨rfl, List.forall_mem_cons.mpr ⟨rfl, List.forall_mem_cons.mpr ⟨rfl, List.forall_mem_cons.mpr ⟨rfl, fun _ hz => absurd hz List.not_mem_nil⟩⟩⟩⟩⟩) (ihi (b + 1) _ (by omega) (by omega) hI)
                    · have c_11 := zb_n0.mp c_11
                      have hcal0 := of_decide_eq_true c_11
                      have hcal : calW T N K b (d / 2) := hcal0
                      have hfin : (chS T N K 121).1 = nI (100 * b + d / 2) := ch_fin hK (by omega) (by omega) hcal (by rw [show 3 * b + 2 * (d / 2) = c by omega]; exact q3)
                      have hF : fChe T N (nI K) = 7 := by rw [fChe_7 h7, eK, hfin, if_pos (nI_nn (by omega))]
                      refine x_bipush Γ (v := 100) dX3_cheapest_95 rfl ?_
                      refine x_iload Γ dX3_cheapest_97 rfl ?_
                      refine x_imul Γ dX3_cheapest_99 ?_
                      refine x_iload Γ dX3_cheapest_100 rfl ?_
                      refine x_iconst Γ (v := 2) dX3_cheapest_102 rfl ?_
                      refine x_idiv Γ dX3_cheapest_103 (by decide) ?_
                      refine x_iadd Γ dX3_cheapest_104 ?_
                      rw [pk_div2 (by omega), hun_nI]
                      exact x_iretx ρ rfl dX3_cheapest_105 rfl (by rw [hF, eK, hfin]; try rfl) (cQ_i (rfl) rfl (vis_tr (vis_e (by rw [hF]; try rfl)) vis_Che))
  · have h8 := hdI_8 c_1
    rw [hdI_n h8]
    have h9 : fWk T n < 7 := by have := fWk_lt (T := T) (n := n); omega
    refine x_aload_n Γ dX3_cheapest_11 rfl ?_
    refine x_iload_n Γ dX3_cheapest_12 rfl ?_
    refine x_callV Γ calv_X3_finding wl_X3_48 dX3_cheapest_13 (m_X3_finding (g := g) (T := T) (T2 := T2) (T3 := T3) (R := R) (X := X) (f := fWk T n) (h9)) rfl (by decide) (by decide) (by rfl) rfl rfl rfl (Nat.le_of_ble_eq_true rfl) (Nat.le_refl _) (Nat.le_refl _) ?_
    exact x_iretx ρ rfl dX3_cheapest_16 rfl (by rw [fChe_n h8]; exact zsi (fr_n h9)) (cQ_i (rfl) rfl (vis_tr (vis_e (by rw [fChe_n h8])) vis_Che))

set_option maxRecDepth 100000 in
set_option maxHeartbeats 4000000 in
theorem m_X3_leader {g : Nat → zE} {T T2 T3 R : zT} {X : Nat → Int32} {N : Nat} (hN : wN T N) (hH : wH T N) (hB : wB T N) (n : Int32) : zMx 5 M_X3_leader [.ref 0, .int n] (cW g T T2 T3 R X) 46 (some (.int (fr (fWk T n) ((ldS T N (ci n) 4).1)))) (cQ g (T) (T3) (gLd T R N (fWk T n) n)) := by
  refine zMx.intro (by decide) (Nat.le_of_ble_eq_true rfl) ?_
  intro Wf V m H0 Γ ρ
  replace Γ : zC Wf V m 7 H0 cX3_leader RX3 5 0 0 := Γ
  show zX Wf V m 7 H0 0 (zls [(0, .ref 0), (1, .int n)]) [] (cW g T T2 T3 R X) 46 0 0
  have hN2 := hN.2
  refine x_aload_n Γ dX3_leader_0 rfl ?_
  refine x_iload_n Γ dX3_leader_1 rfl ?_
  refine x_callV Γ calv_X3_hindrance wl_X3_159 dX3_leader_2 (m_X3_hindrance (g := g) (T := T) (T2 := T2) (T3 := T3) (R := R) (X := X) n) rfl (by decide) (by decide) (by rfl) rfl rfl rfl (Nat.le_of_ble_eq_true rfl) (Nat.le_refl _) (Nat.le_refl _) ?_
  refine x_istore_n Γ dX3_leader_5 (by decide) ?_
  refine x_iload_n Γ dX3_leader_6 rfl ?_
  refine x_iconst Γ (v := -1) dX3_leader_7 rfl ?_
  refine x_icmp_eq Γ (tgt := 17) dX3_leader_8 (by decide) (fun c_1 => ?_) (fun c_1 => ?_)
  · have h7 := hdI_7 fWk_lt c_1
    obtain ⟨K, hK1, hK, rfl⟩ := fWk_K h7
    have eK : ci (nI K) = K := nI_clamp (by omega)
    refine x_iconst Γ (v := 0) dX3_leader_17 rfl ?_
    refine x_istore_n Γ dX3_leader_18 (by decide) ?_
    refine x_iconst Γ (v := -1) dX3_leader_19 rfl ?_
    refine x_istore Γ dX3_leader_20 (by decide) ?_
    refine x_iconst Γ (v := 0) dX3_leader_22 rfl ?_
    refine x_istore Γ dX3_leader_23 (by decide) ?_
    suffices L_25 : ∀ (k c : Nat) (W : zT), c ≤ 4 → 4 - c < k → zX Wf V m 7 H0 25 (zls [(0, .ref 0), (1, .int (nI K)), (3, .int (ldS T N K c).1), (4, .int (ldM T N K c)), (5, .int (nI c))]) [] (cW g T W T3 R X) 46 0 0 by
      exact x_subl [(0, .ref 0), (1, .int (nI K)), (3, .int (ldS T N K 0).1), (4, .int (ldM T N K 0)), (5, .int (nI 0))] (List.forall_mem_cons.mpr ⟨rfl, List.forall_mem_cons.mpr ⟨rfl, List.forall_mem_cons.mpr ⟨rfl, List.forall_mem_cons.mpr ⟨rfl, List.forall_mem_cons.mpr ⟨rfl, fun _ hz => absurd hz List.not_mem_nil⟩⟩⟩⟩⟩) (x_heap (rfl) (L_25 (4 + 1) 0 T2 (by omega) (by omega)))
    intro k
    induction k with
    | zero => intro c W h1 h2; omega
    | succ k ih =>
      intro c W h1 h2
      refine x_iload Γ dX3_leader_25 rfl ?_
      refine x_iconst Γ (v := 4) dX3_leader_27 rfl ?_
      refine x_icmp_ge Γ (tgt := 96) dX3_leader_28 (by decide) (fun c_2 => ?_) (fun c_2 => ?_)
      · have c_2 := z_le (a := 4) c_2 (by omega) (by omega)
        obtain rfl : c = 4 := by omega
        refine x_iload_n Γ dX3_leader_96 rfl ?_
        exact x_iretx ρ rfl dX3_leader_97 rfl (by rw [h7, eK]; try rfl) (cQ_i (rfl) rfl (vis_tr (vis_e (by rw [h7]; try rfl)) vis_Ld))
      · have c_2 := z_nle (a := 4) c_2 (by omega) (by omega)
        refine x_aload_n Γ dX3_leader_31 rfl ?_
        refine gf_X3_16 Γ dX3_leader_32 (by decide) (by rfl) rfl ?_
        refine x_aload_n Γ dX3_leader_35 rfl ?_
        refine gf_X3_10 Γ dX3_leader_36 (by decide) (by rfl) rfl ?_
        refine x_callVv Γ calv_X0_become wl_X3_131 dX3_leader_39 (bec91) rfl (by decide) (by decide) (by rfl) rfl rfl rfl (Nat.le_of_ble_eq_true rfl) (Nat.le_refl _) (Nat.le_refl _) ?_
        refine x_aload_n Γ dX3_leader_42 rfl ?_
        refine gf_X3_16 Γ dX3_leader_43 (by decide) (by rfl) rfl ?_
        refine x_iload Γ dX3_leader_46 rfl ?_
        refine pf_X3_103 Γ dX3_leader_48 (by decide) (by rfl) (Nat.le_of_ble_eq_true rfl) (cW_p9 (k := 3) rfl) ?_
        refine x_aload_n Γ dX3_leader_51 rfl ?_
        refine gf_X3_16 Γ dX3_leader_52 (by decide) (by rfl) rfl ?_
        refine x_iload_n Γ dX3_leader_55 rfl ?_
        refine x_callV Γ calv_X0_passWeeks wl_X3_162 dX3_leader_56 (cM9 (m_X0_passWeeks (g := cW g T (ts T 7 3 (nI c)) T3 R X) (b := 9) (T := ts T 7 3 (nI c)) (by omega) (wN_of (ts_i (by decide)) hN) (wH_of (ts_n (by decide)) hH) (K := K) hK)) rfl (by decide) (by decide) (by rfl) rfl rfl rfl (Nat.le_of_ble_eq_true rfl) (Nat.le_refl _) (Nat.le_refl _) ?_
        refine x_pop Γ dX3_leader_59 rfl ?_
        refine x_aload_n Γ dX3_leader_60 rfl ?_
        refine gf_X3_16 Γ dX3_leader_61 (by decide) (by rfl) rfl ?_
        refine x_aload_n Γ dX3_leader_64 rfl ?_
        refine gf_X3_16 Γ dX3_leader_65 (by decide) (by rfl) rfl ?_
        refine gf_X3_63 Γ dX3_leader_68 (by decide) (by rfl) rfl ?_
        refine x_callV Γ calv_X0_allOf wl_X3_168 dX3_leader_71 (cM9 (m_X0_allOf (g := cW g T (wks N K (ts T 7 3 (nI c))) T3 R X) (b := 9) (T := wks N K (ts T 7 3 (nI c))) (by omega) (wks_N (wN_of (ts_i (by decide)) hN) K) (q := 9 + 5) (F := wks N K (ts T 7 3 (nI c)) 4) (by decide) rfl)) rfl (by decide) (by decide) (by rfl) rfl rfl rfl (Nat.le_of_ble_eq_true rfl) (Nat.le_refl _) (Nat.le_refl _) ?_
        refine x_istore Γ dX3_leader_74 (by decide) ?_
        refine x_iload Γ dX3_leader_76 rfl ?_
        refine x_iload Γ dX3_leader_78 rfl ?_
        refine x_icmp_le Γ (tgt := 90) dX3_leader_80 (by decide) (fun c_3 => ?_) (fun c_3 => ?_)
        · have hf := (ld_cmp hN2 hK hB c).1.mp c_3
          have hc0 : c ≠ 0 := fun z => hf (by rw [z]; exact ld_0 hN2 hK)
          have hG := congrArg Prod.fst (ldS_f hf)
          have hM := ldM_f hc0 hf
          refine x_iinc Γ dX3_leader_90 rfl (by first | exact zinc _ | rfl) (by decide) ?_
          refine x_goto Γ (tgt := 25) dX3_leader_93 (by decide) ?_
          exact x_subl [(0, .ref 0), (1, .int (nI K)), (3, .int (ldS T N K (c + 1)).1), (4, .int (ldM T N K (c + 1))), (5, .int (nI (c + 1)))] (List.forall_mem_cons.mpr ⟨rfl, List.forall_mem_cons.mpr ⟨rfl, List.forall_mem_cons.mpr ⟨zsi hG.symm, List.forall_mem_cons.mpr ⟨zsi hM.symm, List.forall_mem_cons.mpr ⟨rfl, fun _ hz => absurd hz List.not_mem_nil⟩⟩⟩⟩⟩) (x_heap (rfl) (ih (c + 1) _ (by omega) (by omega)))
        · have hf := Classical.not_not.mp (fun z => c_3 ((ld_cmp hN2 hK hB c).1.mpr z))
          have hG := congrArg Prod.fst (ldS_t hf)
          have hM := (ldM_t hf).trans (ld_cmp hN2 hK hB c).2
          refine x_iload Γ dX3_leader_83 rfl ?_
          refine x_istore Γ dX3_leader_85 (by decide) ?_
          refine x_iload Γ dX3_leader_87 rfl ?_
          refine x_istore_n Γ dX3_leader_89 (by decide) ?_
          refine x_iinc Γ dX3_leader_90 rfl (by first | exact zinc _ | rfl) (by decide) ?_
          refine x_goto Γ (tgt := 25) dX3_leader_93 (by decide) ?_
          exact x_subl [(0, .ref 0), (1, .int (nI K)), (3, .int (ldS T N K (c + 1)).1), (4, .int (ldM T N K (c + 1))), (5, .int (nI (c + 1)))] (List.forall_mem_cons.mpr ⟨rfl, List.forall_mem_cons.mpr ⟨rfl, List.forall_mem_cons.mpr ⟨zsi hG.symm, List.forall_mem_cons.mpr ⟨zsi hM.symm, List.forall_mem_cons.mpr ⟨rfl, fun _ hz => absurd hz List.not_mem_nil⟩⟩⟩⟩⟩) (x_heap (rfl) (ih (c + 1) _ (by omega) (by omega)))
  · have h8 := hdI_8 c_1
    rw [hdI_n h8]
    have h9 : fWk T n < 7 := by have := fWk_lt (T := T) (n := n); omega
    refine x_aload_n Γ dX3_leader_11 rfl ?_
    refine x_iload_n Γ dX3_leader_12 rfl ?_
    refine x_callV Γ calv_X3_finding wl_X3_48 dX3_leader_13 (m_X3_finding (g := g) (T := T) (T2 := T2) (T3 := T3) (R := R) (X := X) (f := fWk T n) (h9)) rfl (by decide) (by decide) (by rfl) rfl rfl rfl (Nat.le_of_ble_eq_true rfl) (Nat.le_refl _) (Nat.le_refl _) ?_
    exact x_iretx ρ rfl dX3_leader_16 rfl (zsi (fr_n h9)) (cQ_i (rfl) rfl (vis_tr (vis_e (rfl)) vis_Ld))

set_option maxRecDepth 100000 in
set_option maxHeartbeats 4000000 in
theorem m_X3_bestColour {g : Nat → zE} {T T2 T3 R : zT} {X : Nat → Int32} {N : Nat} (hN : wN T N) (hH : wH T N) (x n : Int32) : zMx 5 M_X3_bestTrait [.ref 0, .int x, .int 2, .int 4, .int n] (cW g T T2 T3 R X) 46 (some (.int (fr (fCf T x n) (cfS T (ci x) N (ci n) 3)))) (cQ g (T) (T3) (gCf T R (fCf T x n))) := by
  refine zMx.intro (by decide) (Nat.le_of_ble_eq_true rfl) ?_
  intro Wf V m H0 Γ ρ
  replace Γ : zC Wf V m 10 H0 cX3_bestTrait RX3 5 0 0 := Γ
  show zX Wf V m 10 H0 0 (zls [(0, .ref 0), (1, .int x), (2, .int 2), (3, .int 4), (4, .int n)]) [] (cW g T T2 T3 R X) 46 0 0
  have hN2 := hN.2
  refine x_aload_n Γ dX3_bestTrait_0 rfl ?_
  refine gf_X3_10 Γ dX3_bestTrait_1 (by decide) (by rfl) rfl ?_
  refine x_iload_n Γ dX3_bestTrait_4 rfl ?_
  refine x_callV Γ calv_X0_houses wl_X3_60 dX3_bestTrait_5 (cM1 (m_X0_houses (g := cW g T T2 T3 R X) (b := 1) (T := T) (by omega) x)) rfl (by decide) (by decide) (by rfl) rfl rfl rfl (Nat.le_of_ble_eq_true rfl) (Nat.le_refl _) (Nat.le_refl _) ?_
  refine x_if_eq Γ (tgt := 20) dX3_bestTrait_8 (by decide) (fun c_1 => ?_) (fun c_1 => ?_)
  · have c_1 := zb_0.mp c_1
    have hF : fCf T x n = 0 := if_neg (fun z => by rw [c_1] at z; cases z.1)
    refine x_iconst Γ (v := 0) dX3_bestTrait_20 rfl ?_
    refine x_istore Γ dX3_bestTrait_21 (by decide) ?_
    refine x_iload Γ dX3_bestTrait_23 rfl ?_
    refine x_iconst Γ (v := -1) dX3_bestTrait_25 rfl ?_
    refine x_icmp_eq Γ (tgt := 36) dX3_bestTrait_26 (by decide) (fun c_2 => ?_) (fun c_2 => ?_)
    · exact absurd c_2 (by decide)
    · refine x_aload_n Γ dX3_bestTrait_29 rfl ?_
      refine x_iload Γ dX3_bestTrait_30 rfl ?_
      refine x_callV Γ calv_X3_finding wl_X3_48 dX3_bestTrait_32 (m_X3_finding (g := g) (T := T) (T2 := T2) (T3 := T3) (R := R) (X := X) (f := 0) (by decide)) rfl (by decide) (by decide) (by rfl) rfl rfl rfl (Nat.le_of_ble_eq_true rfl) (Nat.le_refl _) (Nat.le_refl _) ?_
      exact x_iretx ρ rfl dX3_bestTrait_35 rfl (by rw [hF]; try rfl) (cQ_i (rfl) rfl (vis_tr (vis_e (by rw [hF])) vis_Cf))
  · have c_1 := zb_n0.mp c_1
    obtain ⟨j, hj, rfl⟩ := hs_in hN c_1
    have ej : ci (nI j) = j := nI_clamp (by omega)
    have hsj := c_1
    refine x_aload_n Γ dX3_bestTrait_11 rfl ?_
    refine x_iload Γ dX3_bestTrait_12 rfl ?_
    refine x_callV Γ calv_X3_hindrance wl_X3_159 dX3_bestTrait_14 (m_X3_hindrance (g := g) (T := T) (T2 := T2) (T3 := T3) (R := R) (X := X) n) rfl (by decide) (by decide) (by rfl) rfl rfl rfl (Nat.le_of_ble_eq_true rfl) (Nat.le_refl _) (Nat.le_refl _) ?_
    refine x_goto Γ (tgt := 21) dX3_bestTrait_17 (by decide) ?_
    refine x_istore Γ dX3_bestTrait_21 (by decide) ?_
    refine x_iload Γ dX3_bestTrait_23 rfl ?_
    refine x_iconst Γ (v := -1) dX3_bestTrait_25 rfl ?_
    refine x_icmp_eq Γ (tgt := 36) dX3_bestTrait_26 (by decide) (fun c_3 => ?_) (fun c_3 => ?_)
    · have h7 := hdI_7 fWk_lt c_3
      obtain ⟨K, hK1, hK, rfl⟩ := fWk_K h7
      have eK : ci (nI K) = K := nI_clamp (by omega)
      have hF : fCf T (nI j) (nI K) = 7 := (fCf_h hsj).trans h7
      refine x_iconst Γ (v := 0) dX3_bestTrait_36 rfl ?_
      refine x_istore Γ dX3_bestTrait_37 (by decide) ?_
      refine x_iconst Γ (v := 0) dX3_bestTrait_39 rfl ?_
      refine x_istore Γ dX3_bestTrait_40 (by decide) ?_
      refine x_iconst Γ (v := 0) dX3_bestTrait_42 rfl ?_
      refine x_istore Γ dX3_bestTrait_43 (by decide) ?_
      suffices L_45 : ∀ (k c : Nat) (W : zT), c ≤ 4 → 4 - c < k → zX Wf V m 10 H0 45 (zls [(0, .ref 0), (1, .int (nI j)), (2, .int 2), (3, .int 4), (4, .int (nI K)), (6, .int (cfB T j N K c)), (7, .int (cfM T j N K c)), (8, .int (nI c))]) [] (cW g T W T3 R X) 46 0 0 by
        exact x_subl [(0, .ref 0), (1, .int (nI j)), (2, .int 2), (3, .int 4), (4, .int (nI K)), (6, .int (cfB T j N K 0)), (7, .int (cfM T j N K 0)), (8, .int (nI 0))] (List.forall_mem_cons.mpr ⟨rfl, List.forall_mem_cons.mpr ⟨rfl, List.forall_mem_cons.mpr ⟨rfl, List.forall_mem_cons.mpr ⟨rfl, List.forall_mem_cons.mpr ⟨rfl, List.forall_mem_cons.mpr ⟨zsi cfB_0.symm, List.forall_mem_cons.mpr ⟨zsi cfM_0.symm, List.forall_mem_cons.mpr ⟨rfl, fun _ hz => absurd hz List.not_mem_nil⟩⟩⟩⟩⟩⟩⟩⟩) (x_heap (rfl) (L_45 (4 + 1) 0 T2 (by omega) (by omega)))
      intro k
      induction k with
      | zero => intro c W h1 h2; omega
      | succ k ih =>
        intro c W h1 h2
        refine x_iload Γ dX3_bestTrait_45 rfl ?_
        refine x_iload_n Γ dX3_bestTrait_47 rfl ?_
        refine x_icmp_ge Γ (tgt := 138) dX3_bestTrait_48 (by decide) (fun c_4 => ?_) (fun c_4 => ?_)
        · have c_4 := z_le (a := 4) c_4 (by omega) (by omega)
          obtain rfl : c = 4 := by omega
          refine x_iload Γ dX3_bestTrait_138 rfl ?_
          exact x_iretx ρ rfl dX3_bestTrait_140 rfl (by rw [hF, ej, eK, fr_7]; exact zsi cfB_4) (cQ_i (rfl) rfl (vis_tr (vis_e (by rw [hF]; try rfl)) vis_Cf))
        · have c_4 := z_nle (a := 4) c_4 (by omega) (by omega)
          refine x_aload_n Γ dX3_bestTrait_51 rfl ?_
          refine gf_X3_16 Γ dX3_bestTrait_52 (by decide) (by rfl) rfl ?_
          refine x_aload_n Γ dX3_bestTrait_55 rfl ?_
          refine gf_X3_10 Γ dX3_bestTrait_56 (by decide) (by rfl) rfl ?_
          refine x_callVv Γ calv_X0_become wl_X3_131 dX3_bestTrait_59 (bec91) rfl (by decide) (by decide) (by rfl) rfl rfl rfl (Nat.le_of_ble_eq_true rfl) (Nat.le_refl _) (Nat.le_refl _) ?_
          refine x_aload_n Γ dX3_bestTrait_62 rfl ?_
          refine gf_X3_16 Γ dX3_bestTrait_63 (by decide) (by rfl) rfl ?_
          refine x_iload_n Γ dX3_bestTrait_66 rfl ?_
          refine x_iload_n Γ dX3_bestTrait_67 rfl ?_
          refine x_iload Γ dX3_bestTrait_68 rfl ?_
          refine x_callVv Γ calv_X0_setTrait wl_X3_83 dX3_bestTrait_70 (cM9 (m_X0_setTrait (g := cW g T T T3 R X) (b := 9) (T := T) (by omega) hN j hj 2 (nI c))) rfl (by decide) (by decide) (by rfl) rfl rfl rfl (Nat.le_of_ble_eq_true rfl) (Nat.le_refl _) (Nat.le_refl _) ?_
          rw [show traF 2 = 2 from rfl]
          refine x_aload_n Γ dX3_bestTrait_73 rfl ?_
          refine gf_X3_16 Γ dX3_bestTrait_74 (by decide) (by rfl) rfl ?_
          refine x_iload Γ dX3_bestTrait_77 rfl ?_
          refine x_callV Γ calv_X0_passWeeks wl_X3_162 dX3_bestTrait_79 (cM9 (m_X0_passWeeks (g := cW g T (ts T 2 j (nI c)) T3 R X) (b := 9) (T := ts T 2 j (nI c)) (by omega) (wN_of (by rw [ts_n (by decide)]) hN) (wH_of (ts_n (by decide)) hH) (K := K) hK)) rfl (by decide) (by decide) (by rfl) rfl rfl rfl (Nat.le_of_ble_eq_true rfl) (Nat.le_refl _) (Nat.le_refl _) ?_
          refine x_pop Γ dX3_bestTrait_82 rfl ?_
          refine x_iload_n Γ dX3_bestTrait_83 rfl ?_
          refine x_iconst Γ (v := 2) dX3_bestTrait_84 rfl ?_
          refine x_icmp_ne Γ (tgt := 100) dX3_bestTrait_85 (by decide) (fun c_5 => ?_) (fun c_5 => ?_)
          · exact absurd rfl c_5
          · refine x_aload_n Γ dX3_bestTrait_88 rfl ?_
            refine gf_X3_16 Γ dX3_bestTrait_89 (by decide) (by rfl) rfl ?_
            refine gf_X3_63 Γ dX3_bestTrait_92 (by decide) (by rfl) rfl ?_
            refine x_iload_n Γ dX3_bestTrait_95 rfl ?_
            refine x_iald Γ dX3_bestTrait_96 (by decide) (by rfl) rfl (by first | assumption | omega) (by decide) rfl ?_
            refine x_goto Γ (tgt := 110) dX3_bestTrait_97 (by decide) ?_
            refine x_istore Γ dX3_bestTrait_110 (by decide) ?_
            refine x_iload Γ dX3_bestTrait_112 rfl ?_
            refine x_if_eq Γ (tgt := 124) dX3_bestTrait_114 (by decide) (fun c_6 => ?_) (fun c_6 => ?_)
            · rw [← nI_0] at c_6
              have hc0 : c = 0 := (nI_eq (by omega) (by omega)).mp c_6
              have hG : cfB T j N K (c + 1) = nI c ∧ cfM T j N K (c + 1) = (wks N K (ts T 2 j (nI c)) 4 j) := by rw [hc0]; exact cf_0
              refine x_iload Γ dX3_bestTrait_124 rfl ?_
              refine x_istore Γ dX3_bestTrait_126 (by decide) ?_
              refine x_iload Γ dX3_bestTrait_128 rfl ?_
              refine x_istore Γ dX3_bestTrait_130 (by decide) ?_
              refine x_iinc Γ dX3_bestTrait_132 rfl (by first | exact zinc _ | rfl) (by decide) ?_
              refine x_goto Γ (tgt := 45) dX3_bestTrait_135 (by decide) ?_
              exact x_subl [(0, .ref 0), (1, .int (nI j)), (2, .int 2), (3, .int 4), (4, .int (nI K)), (6, .int (cfB T j N K (c + 1))), (7, .int (cfM T j N K (c + 1))), (8, .int (nI (c + 1)))] (List.forall_mem_cons.mpr ⟨rfl, List.forall_mem_cons.mpr ⟨rfl, List.forall_mem_cons.mpr ⟨rfl, List.forall_mem_cons.mpr ⟨rfl, List.forall_mem_cons.mpr ⟨rfl, List.forall_mem_cons.mpr ⟨zsi hG.1.symm, List.forall_mem_cons.mpr ⟨zsi hG.2.symm, List.forall_mem_cons.mpr ⟨rfl, fun _ hz => absurd hz List.not_mem_nil⟩⟩⟩⟩⟩⟩⟩⟩) (x_heap (rfl) (ih (c + 1) _ (by omega) (by omega)))
            · have hc0 : c ≠ 0 := fun z => c_6 (by rw [z]; exact nI_0)
              refine x_iload Γ dX3_bestTrait_117 rfl ?_
              refine x_iload Γ dX3_bestTrait_119 rfl ?_
              refine x_icmp_le Γ (tgt := 132) dX3_bestTrait_121 (by decide) (fun c_7 => ?_) (fun c_7 => ?_)
              · have hG := cf_k hc0 c_7
                refine x_iinc Γ dX3_bestTrait_132 rfl (by first | exact zinc _ | rfl) (by decide) ?_
                refine x_goto Γ (tgt := 45) dX3_bestTrait_135 (by decide) ?_
                exact x_subl [(0, .ref 0), (1, .int (nI j)), (2, .int 2), (3, .int 4), (4, .int (nI K)), (6, .int (cfB T j N K (c + 1))), (7, .int (cfM T j N K (c + 1))), (8, .int (nI (c + 1)))] (List.forall_mem_cons.mpr ⟨rfl, List.forall_mem_cons.mpr ⟨rfl, List.forall_mem_cons.mpr ⟨rfl, List.forall_mem_cons.mpr ⟨rfl, List.forall_mem_cons.mpr ⟨rfl, List.forall_mem_cons.mpr ⟨zsi hG.1.symm, List.forall_mem_cons.mpr ⟨zsi hG.2.symm, List.forall_mem_cons.mpr ⟨rfl, fun _ hz => absurd hz List.not_mem_nil⟩⟩⟩⟩⟩⟩⟩⟩) (x_heap (rfl) (ih (c + 1) _ (by omega) (by omega)))
              · have hG := cf_n hc0 c_7
                refine x_iload Γ dX3_bestTrait_124 rfl ?_
                refine x_istore Γ dX3_bestTrait_126 (by decide) ?_
                refine x_iload Γ dX3_bestTrait_128 rfl ?_
                refine x_istore Γ dX3_bestTrait_130 (by decide) ?_
                refine x_iinc Γ dX3_bestTrait_132 rfl (by first | exact zinc _ | rfl) (by decide) ?_
                refine x_goto Γ (tgt := 45) dX3_bestTrait_135 (by decide) ?_
                exact x_subl [(0, .ref 0), (1, .int (nI j)), (2, .int 2), (3, .int 4), (4, .int (nI K)), (6, .int (cfB T j N K (c + 1))), (7, .int (cfM T j N K (c + 1))), (8, .int (nI (c + 1)))] (List.forall_mem_cons.mpr ⟨rfl, List.forall_mem_cons.mpr ⟨rfl, List.forall_mem_cons.mpr ⟨rfl, List.forall_mem_cons.mpr ⟨rfl, List.forall_mem_cons.mpr ⟨rfl, List.forall_mem_cons.mpr ⟨zsi hG.1.symm, List.forall_mem_cons.mpr ⟨zsi hG.2.symm, List.forall_mem_cons.mpr ⟨rfl, fun _ hz => absurd hz List.not_mem_nil⟩⟩⟩⟩⟩⟩⟩⟩) (x_heap (rfl) (ih (c + 1) _ (by omega) (by omega)))
    · have h8 := hdI_8 c_3
      rw [hdI_n h8]
      have h9 : fWk T n < 7 := by have := fWk_lt (T := T) (n := n); omega
      have hF : fCf T (nI j) n = fWk T n := fCf_h hsj
      refine x_aload_n Γ dX3_bestTrait_29 rfl ?_
      refine x_iload Γ dX3_bestTrait_30 rfl ?_
      refine x_callV Γ calv_X3_finding wl_X3_48 dX3_bestTrait_32 (m_X3_finding (g := g) (T := T) (T2 := T2) (T3 := T3) (R := R) (X := X) (f := fWk T n) (h9)) rfl (by decide) (by decide) (by rfl) rfl rfl rfl (Nat.le_of_ble_eq_true rfl) (Nat.le_refl _) (Nat.le_refl _) ?_
      exact x_iretx ρ rfl dX3_bestTrait_35 rfl (by rw [hF]; exact zsi (fr_n h9)) (cQ_i (rfl) rfl (vis_tr (vis_e (by rw [hF])) vis_Cf))

set_option maxRecDepth 100000 in
set_option maxHeartbeats 4000000 in
theorem m_X3_bestKind {g : Nat → zE} {T T2 T3 R : zT} {X : Nat → Int32} {N : Nat} (hN : wN T N) (hH : wH T N) (x n : Int32) : zMx 5 M_X3_bestTrait [.ref 0, .int x, .int 0, .int 7, .int n] (cW g T T2 T3 R X) 46 (some (.int (fr (fCf T x n) (kfS T (ci x) N (ci n) 6)))) (cQ g (T) (T3) (gCf T R (fCf T x n))) := by
  refine zMx.intro (by decide) (Nat.le_of_ble_eq_true rfl) ?_
  intro Wf V m H0 Γ ρ
  replace Γ : zC Wf V m 10 H0 cX3_bestTrait RX3 5 0 0 := Γ
  show zX Wf V m 10 H0 0 (zls [(0, .ref 0), (1, .int x), (2, .int 0), (3, .int 7), (4, .int n)]) [] (cW g T T2 T3 R X) 46 0 0
  have hN2 := hN.2
  refine x_aload_n Γ dX3_bestTrait_0 rfl ?_
  refine gf_X3_10 Γ dX3_bestTrait_1 (by decide) (by rfl) rfl ?_
  refine x_iload_n Γ dX3_bestTrait_4 rfl ?_
  refine x_callV Γ calv_X0_houses wl_X3_60 dX3_bestTrait_5 (cM1 (m_X0_houses (g := cW g T T2 T3 R X) (b := 1) (T := T) (by omega) x)) rfl (by decide) (by decide) (by rfl) rfl rfl rfl (Nat.le_of_ble_eq_true rfl) (Nat.le_refl _) (Nat.le_refl _) ?_
  refine x_if_eq Γ (tgt := 20) dX3_bestTrait_8 (by decide) (fun c_1 => ?_) (fun c_1 => ?_)
  · have c_1 := zb_0.mp c_1
    have hF : fCf T x n = 0 := if_neg (fun z => by rw [c_1] at z; cases z.1)
    refine x_iconst Γ (v := 0) dX3_bestTrait_20 rfl ?_
    refine x_istore Γ dX3_bestTrait_21 (by decide) ?_
    refine x_iload Γ dX3_bestTrait_23 rfl ?_
    refine x_iconst Γ (v := -1) dX3_bestTrait_25 rfl ?_
    refine x_icmp_eq Γ (tgt := 36) dX3_bestTrait_26 (by decide) (fun c_2 => ?_) (fun c_2 => ?_)
    · exact absurd c_2 (by decide)
    · refine x_aload_n Γ dX3_bestTrait_29 rfl ?_
      refine x_iload Γ dX3_bestTrait_30 rfl ?_
      refine x_callV Γ calv_X3_finding wl_X3_48 dX3_bestTrait_32 (m_X3_finding (g := g) (T := T) (T2 := T2) (T3 := T3) (R := R) (X := X) (f := 0) (by decide)) rfl (by decide) (by decide) (by rfl) rfl rfl rfl (Nat.le_of_ble_eq_true rfl) (Nat.le_refl _) (Nat.le_refl _) ?_
      exact x_iretx ρ rfl dX3_bestTrait_35 rfl (by rw [hF]; try rfl) (cQ_i (rfl) rfl (vis_tr (vis_e (by rw [hF])) vis_Cf))
  · have c_1 := zb_n0.mp c_1
    obtain ⟨j, hj, rfl⟩ := hs_in hN c_1
    have ej : ci (nI j) = j := nI_clamp (by omega)
    have hsj := c_1
    refine x_aload_n Γ dX3_bestTrait_11 rfl ?_
    refine x_iload Γ dX3_bestTrait_12 rfl ?_
    refine x_callV Γ calv_X3_hindrance wl_X3_159 dX3_bestTrait_14 (m_X3_hindrance (g := g) (T := T) (T2 := T2) (T3 := T3) (R := R) (X := X) n) rfl (by decide) (by decide) (by rfl) rfl rfl rfl (Nat.le_of_ble_eq_true rfl) (Nat.le_refl _) (Nat.le_refl _) ?_
    refine x_goto Γ (tgt := 21) dX3_bestTrait_17 (by decide) ?_
    refine x_istore Γ dX3_bestTrait_21 (by decide) ?_
    refine x_iload Γ dX3_bestTrait_23 rfl ?_
    refine x_iconst Γ (v := -1) dX3_bestTrait_25 rfl ?_
    refine x_icmp_eq Γ (tgt := 36) dX3_bestTrait_26 (by decide) (fun c_3 => ?_) (fun c_3 => ?_)
    · have h7 := hdI_7 fWk_lt c_3
      obtain ⟨K, hK1, hK, rfl⟩ := fWk_K h7
      have eK : ci (nI K) = K := nI_clamp (by omega)
      have hF : fCf T (nI j) (nI K) = 7 := (fCf_h hsj).trans h7
      refine x_iconst Γ (v := 0) dX3_bestTrait_36 rfl ?_
      refine x_istore Γ dX3_bestTrait_37 (by decide) ?_
      refine x_iconst Γ (v := 0) dX3_bestTrait_39 rfl ?_
      refine x_istore Γ dX3_bestTrait_40 (by decide) ?_
      refine x_iconst Γ (v := 0) dX3_bestTrait_42 rfl ?_
      refine x_istore Γ dX3_bestTrait_43 (by decide) ?_
      suffices L_45 : ∀ (k c : Nat) (W : zT), c ≤ 7 → 7 - c < k → zX Wf V m 10 H0 45 (zls [(0, .ref 0), (1, .int (nI j)), (2, .int 0), (3, .int 7), (4, .int (nI K)), (6, .int (kfB T j N K c)), (7, .int (kfM T j N K c)), (8, .int (nI c))]) [] (cW g T W T3 R X) 46 0 0 by
        exact x_subl [(0, .ref 0), (1, .int (nI j)), (2, .int 0), (3, .int 7), (4, .int (nI K)), (6, .int (kfB T j N K 0)), (7, .int (kfM T j N K 0)), (8, .int (nI 0))] (List.forall_mem_cons.mpr ⟨rfl, List.forall_mem_cons.mpr ⟨rfl, List.forall_mem_cons.mpr ⟨rfl, List.forall_mem_cons.mpr ⟨rfl, List.forall_mem_cons.mpr ⟨rfl, List.forall_mem_cons.mpr ⟨zsi kfB_0.symm, List.forall_mem_cons.mpr ⟨zsi kfM_0.symm, List.forall_mem_cons.mpr ⟨rfl, fun _ hz => absurd hz List.not_mem_nil⟩⟩⟩⟩⟩⟩⟩⟩) (x_heap (rfl) (L_45 (7 + 1) 0 T2 (by omega) (by omega)))
      intro k
      induction k with
      | zero => intro c W h1 h2; omega
      | succ k ih =>
        intro c W h1 h2
        refine x_iload Γ dX3_bestTrait_45 rfl ?_
        refine x_iload_n Γ dX3_bestTrait_47 rfl ?_
        refine x_icmp_ge Γ (tgt := 138) dX3_bestTrait_48 (by decide) (fun c_4 => ?_) (fun c_4 => ?_)
        · have c_4 := z_le (a := 7) c_4 (by omega) (by omega)
          obtain rfl : c = 7 := by omega
          refine x_iload Γ dX3_bestTrait_138 rfl ?_
          exact x_iretx ρ rfl dX3_bestTrait_140 rfl (by rw [hF, ej, eK, fr_7]; exact zsi kfB_7) (cQ_i (rfl) rfl (vis_tr (vis_e (by rw [hF]; try rfl)) vis_Cf))
        · have c_4 := z_nle (a := 7) c_4 (by omega) (by omega)
          refine x_aload_n Γ dX3_bestTrait_51 rfl ?_
          refine gf_X3_16 Γ dX3_bestTrait_52 (by decide) (by rfl) rfl ?_
          refine x_aload_n Γ dX3_bestTrait_55 rfl ?_
          refine gf_X3_10 Γ dX3_bestTrait_56 (by decide) (by rfl) rfl ?_
          refine x_callVv Γ calv_X0_become wl_X3_131 dX3_bestTrait_59 (bec91) rfl (by decide) (by decide) (by rfl) rfl rfl rfl (Nat.le_of_ble_eq_true rfl) (Nat.le_refl _) (Nat.le_refl _) ?_
          refine x_aload_n Γ dX3_bestTrait_62 rfl ?_
          refine gf_X3_16 Γ dX3_bestTrait_63 (by decide) (by rfl) rfl ?_
          refine x_iload_n Γ dX3_bestTrait_66 rfl ?_
          refine x_iload_n Γ dX3_bestTrait_67 rfl ?_
          refine x_iload Γ dX3_bestTrait_68 rfl ?_
          refine x_callVv Γ calv_X0_setTrait wl_X3_83 dX3_bestTrait_70 (cM9 (m_X0_setTrait (g := cW g T T T3 R X) (b := 9) (T := T) (by omega) hN j hj 0 (nI c))) rfl (by decide) (by decide) (by rfl) rfl rfl rfl (Nat.le_of_ble_eq_true rfl) (Nat.le_refl _) (Nat.le_refl _) ?_
          rw [show traF 0 = 0 from rfl]
          refine x_aload_n Γ dX3_bestTrait_73 rfl ?_
          refine gf_X3_16 Γ dX3_bestTrait_74 (by decide) (by rfl) rfl ?_
          refine x_iload Γ dX3_bestTrait_77 rfl ?_
          refine x_callV Γ calv_X0_passWeeks wl_X3_162 dX3_bestTrait_79 (cM9 (m_X0_passWeeks (g := cW g T (ts T 0 j (nI c)) T3 R X) (b := 9) (T := ts T 0 j (nI c)) (by omega) (wN_of (by rw [ts_n (by decide)]) hN) (wH_of (ts_n (by decide)) hH) (K := K) hK)) rfl (by decide) (by decide) (by rfl) rfl rfl rfl (Nat.le_of_ble_eq_true rfl) (Nat.le_refl _) (Nat.le_refl _) ?_
          refine x_pop Γ dX3_bestTrait_82 rfl ?_
          refine x_iload_n Γ dX3_bestTrait_83 rfl ?_
          refine x_iconst Γ (v := 2) dX3_bestTrait_84 rfl ?_
          refine x_icmp_ne Γ (tgt := 100) dX3_bestTrait_85 (by decide) (fun c_5 => ?_) (fun c_5 => ?_)
          · refine x_aload_n Γ dX3_bestTrait_100 rfl ?_
            refine gf_X3_16 Γ dX3_bestTrait_101 (by decide) (by rfl) rfl ?_
            refine gf_X3_165 Γ dX3_bestTrait_104 (by decide) (by rfl) rfl ?_
            refine x_iload_n Γ dX3_bestTrait_107 rfl ?_
            refine x_iald Γ dX3_bestTrait_108 (by decide) (by rfl) rfl (by first | assumption | omega) (by decide) rfl ?_
            refine x_ineg Γ dX3_bestTrait_109 ?_
            refine x_istore Γ dX3_bestTrait_110 (by decide) ?_
            refine x_iload Γ dX3_bestTrait_112 rfl ?_
            refine x_if_eq Γ (tgt := 124) dX3_bestTrait_114 (by decide) (fun c_6 => ?_) (fun c_6 => ?_)
            · rw [← nI_0] at c_6
              have hc0 : c = 0 := (nI_eq (by omega) (by omega)).mp c_6
              have hG : kfB T j N K (c + 1) = nI c ∧ kfM T j N K (c + 1) = (-(wks N K (ts T 0 j (nI c)) 1 j)) := by rw [hc0]; exact kf_0
              refine x_iload Γ dX3_bestTrait_124 rfl ?_
              refine x_istore Γ dX3_bestTrait_126 (by decide) ?_
              refine x_iload Γ dX3_bestTrait_128 rfl ?_
              refine x_istore Γ dX3_bestTrait_130 (by decide) ?_
              refine x_iinc Γ dX3_bestTrait_132 rfl (by first | exact zinc _ | rfl) (by decide) ?_
              refine x_goto Γ (tgt := 45) dX3_bestTrait_135 (by decide) ?_
              exact x_subl [(0, .ref 0), (1, .int (nI j)), (2, .int 0), (3, .int 7), (4, .int (nI K)), (6, .int (kfB T j N K (c + 1))), (7, .int (kfM T j N K (c + 1))), (8, .int (nI (c + 1)))] (List.forall_mem_cons.mpr ⟨rfl, List.forall_mem_cons.mpr ⟨rfl, List.forall_mem_cons.mpr ⟨rfl, List.forall_mem_cons.mpr ⟨rfl, List.forall_mem_cons.mpr ⟨rfl, List.forall_mem_cons.mpr ⟨zsi hG.1.symm, List.forall_mem_cons.mpr ⟨zsi hG.2.symm, List.forall_mem_cons.mpr ⟨rfl, fun _ hz => absurd hz List.not_mem_nil⟩⟩⟩⟩⟩⟩⟩⟩) (x_heap (rfl) (ih (c + 1) _ (by omega) (by omega)))
            · have hc0 : c ≠ 0 := fun z => c_6 (by rw [z]; exact nI_0)
              refine x_iload Γ dX3_bestTrait_117 rfl ?_
              refine x_iload Γ dX3_bestTrait_119 rfl ?_
              refine x_icmp_le Γ (tgt := 132) dX3_bestTrait_121 (by decide) (fun c_7 => ?_) (fun c_7 => ?_)
              · have hG := kf_k hH hj hc0 c_7
                refine x_iinc Γ dX3_bestTrait_132 rfl (by first | exact zinc _ | rfl) (by decide) ?_
                refine x_goto Γ (tgt := 45) dX3_bestTrait_135 (by decide) ?_
                exact x_subl [(0, .ref 0), (1, .int (nI j)), (2, .int 0), (3, .int 7), (4, .int (nI K)), (6, .int (kfB T j N K (c + 1))), (7, .int (kfM T j N K (c + 1))), (8, .int (nI (c + 1)))] (List.forall_mem_cons.mpr ⟨rfl, List.forall_mem_cons.mpr ⟨rfl, List.forall_mem_cons.mpr ⟨rfl, List.forall_mem_cons.mpr ⟨rfl, List.forall_mem_cons.mpr ⟨rfl, List.forall_mem_cons.mpr ⟨zsi hG.1.symm, List.forall_mem_cons.mpr ⟨zsi hG.2.symm, List.forall_mem_cons.mpr ⟨rfl, fun _ hz => absurd hz List.not_mem_nil⟩⟩⟩⟩⟩⟩⟩⟩) (x_heap (rfl) (ih (c + 1) _ (by omega) (by omega)))
              · have hG := kf_n hH hj hc0 c_7
                refine x_iload Γ dX3_bestTrait_124 rfl ?_
                refine x_istore Γ dX3_bestTrait_126 (by decide) ?_
                refine x_iload Γ dX3_bestTrait_128 rfl ?_
                refine x_istore Γ dX3_bestTrait_130 (by decide) ?_
                refine x_iinc Γ dX3_bestTrait_132 rfl (by first | exact zinc _ | rfl) (by decide) ?_
                refine x_goto Γ (tgt := 45) dX3_bestTrait_135 (by decide) ?_
                exact x_subl [(0, .ref 0), (1, .int (nI j)), (2, .int 0), (3, .int 7), (4, .int (nI K)), (6, .int (kfB T j N K (c + 1))), (7, .int (kfM T j N K (c + 1))), (8, .int (nI (c + 1)))] (List.forall_mem_cons.mpr ⟨rfl, List.forall_mem_cons.mpr ⟨rfl, List.forall_mem_cons.mpr ⟨rfl, List.forall_mem_cons.mpr ⟨rfl, List.forall_mem_cons.mpr ⟨rfl, List.forall_mem_cons.mpr ⟨zsi hG.1.symm, List.forall_mem_cons.mpr ⟨zsi hG.2.symm, List.forall_mem_cons.mpr ⟨rfl, fun _ hz => absurd hz List.not_mem_nil⟩⟩⟩⟩⟩⟩⟩⟩) (x_heap (rfl) (ih (c + 1) _ (by omega) (by omega)))
          · exact absurd c_5 (by decide)
    · have h8 := hdI_8 c_3
      rw [hdI_n h8]
      have h9 : fWk T n < 7 := by have := fWk_lt (T := T) (n := n); omega
      have hF : fCf T (nI j) n = fWk T n := fCf_h hsj
      refine x_aload_n Γ dX3_bestTrait_29 rfl ?_
      refine x_iload Γ dX3_bestTrait_30 rfl ?_
      refine x_callV Γ calv_X3_finding wl_X3_48 dX3_bestTrait_32 (m_X3_finding (g := g) (T := T) (T2 := T2) (T3 := T3) (R := R) (X := X) (f := fWk T n) (h9)) rfl (by decide) (by decide) (by rfl) rfl rfl rfl (Nat.le_of_ble_eq_true rfl) (Nat.le_refl _) (Nat.le_refl _) ?_
      exact x_iretx ρ rfl dX3_bestTrait_35 rfl (by rw [hF]; exact zsi (fr_n h9)) (cQ_i (rfl) rfl (vis_tr (vis_e (by rw [hF])) vis_Cf))

set_option maxRecDepth 100000 in
set_option maxHeartbeats 4000000 in
theorem m_X3_colourFor {g : Nat → zE} {T T2 T3 R : zT} {X : Nat → Int32} {N : Nat} (hN : wN T N) (hH : wH T N) (x n : Int32) : zMx 6 M_X3_colourFor [.ref 0, .int x, .int n] (cW g T T2 T3 R X) 46 (some (.int (fr (fCf T x n) (cfS T (ci x) N (ci n) 3)))) (cQ g (T) (T3) (gCf T R (fCf T x n))) := by
  refine zMx.intro (by decide) (Nat.le_of_ble_eq_true rfl) ?_
  intro Wf V m H0 Γ ρ
  replace Γ : zC Wf V m 3 H0 cX3_colourFor RX3 6 0 0 := Γ
  show zX Wf V m 3 H0 0 (zls [(0, .ref 0), (1, .int x), (2, .int n)]) [] (cW g T T2 T3 R X) 46 0 0
  refine x_aload_n Γ dX3_colourFor_0 rfl ?_
  refine x_iload_n Γ dX3_colourFor_1 rfl ?_
  refine x_iconst Γ (v := 2) dX3_colourFor_2 rfl ?_
  refine x_iconst Γ (v := 4) dX3_colourFor_3 rfl ?_
  refine x_iload_n Γ dX3_colourFor_4 rfl ?_
  refine x_callVx Γ calv_X3_bestTrait wl_X3_184 dX3_colourFor_5 (m_X3_bestColour (g := g) (T := T) (T2 := T2) (T3 := T3) (R := R) (X := X) hN hH x n) rfl (by decide) (by decide) (by rfl) rfl rfl rfl (Nat.le_of_ble_eq_true rfl) (Nat.le_refl _) (Nat.le_refl _) (fun h_x hQ_x => ?_)
  obtain ⟨T2x, Xx, rfl⟩ := hQ_x
  exact x_iretx ρ rfl dX3_colourFor_8 rfl (rfl) (cQ_i rfl rfl vis_rf)

set_option maxRecDepth 100000 in
set_option maxHeartbeats 4000000 in
theorem m_X3_kindFor {g : Nat → zE} {T T2 T3 R : zT} {X : Nat → Int32} {N : Nat} (hN : wN T N) (hH : wH T N) (x n : Int32) : zMx 6 M_X3_kindFor [.ref 0, .int x, .int n] (cW g T T2 T3 R X) 46 (some (.int (fr (fCf T x n) (kfS T (ci x) N (ci n) 6)))) (cQ g (T) (T3) (gCf T R (fCf T x n))) := by
  refine zMx.intro (by decide) (Nat.le_of_ble_eq_true rfl) ?_
  intro Wf V m H0 Γ ρ
  replace Γ : zC Wf V m 3 H0 cX3_kindFor RX3 6 0 0 := Γ
  show zX Wf V m 3 H0 0 (zls [(0, .ref 0), (1, .int x), (2, .int n)]) [] (cW g T T2 T3 R X) 46 0 0
  refine x_aload_n Γ dX3_kindFor_0 rfl ?_
  refine x_iload_n Γ dX3_kindFor_1 rfl ?_
  refine x_iconst Γ (v := 0) dX3_kindFor_2 rfl ?_
  refine x_bipush Γ (v := 7) dX3_kindFor_3 rfl ?_
  refine x_iload_n Γ dX3_kindFor_5 rfl ?_
  refine x_callVx Γ calv_X3_bestTrait wl_X3_184 dX3_kindFor_6 (m_X3_bestKind (g := g) (T := T) (T2 := T2) (T3 := T3) (R := R) (X := X) hN hH x n) rfl (by decide) (by decide) (by rfl) rfl rfl rfl (Nat.le_of_ble_eq_true rfl) (Nat.le_refl _) (Nat.le_refl _) (fun h_x hQ_x => ?_)
  obtain ⟨T2x, Xx, rfl⟩ := hQ_x
  exact x_iretx ρ rfl dX3_kindFor_9 rfl (rfl) (cQ_i rfl rfl vis_rf)

set_option maxRecDepth 100000 in
set_option maxHeartbeats 4000000 in
theorem m_X3_stale {g : Nat → zE} {T T2 T3 R : zT} {X : Nat → Int32} {N : Nat} (hN : wN T N) (hH : wH T N) (n : Int32) : zMx 5 M_X3_stale [.ref 0, .int n] (cW g T T2 T3 R X) 46 (some (.int (fr (fWk T n) (rStl T N n)))) (cQ g (T) (T3) (gSta T R N (fWk T n) n)) := by
  refine zMx.intro (by decide) (Nat.le_of_ble_eq_true rfl) ?_
  intro Wf V m H0 Γ ρ
  replace Γ : zC Wf V m 4 H0 cX3_stale RX3 5 0 0 := Γ
  show zX Wf V m 4 H0 0 (zls [(0, .ref 0), (1, .int n)]) [] (cW g T T2 T3 R X) 46 0 0
  have hN2 := hN.2
  refine x_aload_n Γ dX3_stale_0 rfl ?_
  refine x_iload_n Γ dX3_stale_1 rfl ?_
  refine x_callV Γ calv_X3_hindrance wl_X3_159 dX3_stale_2 (m_X3_hindrance (g := g) (T := T) (T2 := T2) (T3 := T3) (R := R) (X := X) n) rfl (by decide) (by decide) (by rfl) rfl rfl rfl (Nat.le_of_ble_eq_true rfl) (Nat.le_refl _) (Nat.le_refl _) ?_
  refine x_istore_n Γ dX3_stale_5 (by decide) ?_
  refine x_iload_n Γ dX3_stale_6 rfl ?_
  refine x_iconst Γ (v := -1) dX3_stale_7 rfl ?_
  refine x_icmp_eq Γ (tgt := 17) dX3_stale_8 (by decide) (fun c_1 => ?_) (fun c_1 => ?_)
  · have h7 := hdI_7 fWk_lt c_1
    obtain ⟨K, hK1, hK, rfl⟩ := fWk_K h7
    have eK : ci (nI K) = K := nI_clamp (by omega)
    refine x_aload_n Γ dX3_stale_17 rfl ?_
    refine gf_X3_16 Γ dX3_stale_18 (by decide) (by rfl) rfl ?_
    refine x_aload_n Γ dX3_stale_21 rfl ?_
    refine gf_X3_10 Γ dX3_stale_22 (by decide) (by rfl) rfl ?_
    refine x_callVv Γ calv_X0_become wl_X3_131 dX3_stale_25 (bec91) rfl (by decide) (by decide) (by rfl) rfl rfl rfl (Nat.le_of_ble_eq_true rfl) (Nat.le_refl _) (Nat.le_refl _) ?_
    refine x_aload_n Γ dX3_stale_28 rfl ?_
    refine gf_X3_16 Γ dX3_stale_29 (by decide) (by rfl) rfl ?_
    refine x_iload_n Γ dX3_stale_32 rfl ?_
    refine x_callV Γ calv_X0_passWeeks wl_X3_162 dX3_stale_33 (cM9 (m_X0_passWeeks (g := cW g T T T3 R X) (b := 9) (T := T) (by omega) hN hH (K := K) hK)) rfl (by decide) (by decide) (by rfl) rfl rfl rfl (Nat.le_of_ble_eq_true rfl) (Nat.le_refl _) (Nat.le_refl _) ?_
    refine x_pop Γ dX3_stale_36 rfl ?_
    refine x_aload_n Γ dX3_stale_37 rfl ?_
    refine gf_X3_16 Γ dX3_stale_38 (by decide) (by rfl) rfl ?_
    refine gf_X3_100 Γ dX3_stale_41 (by decide) (by rfl) rfl ?_
    refine x_istore_n Γ dX3_stale_44 (by decide) ?_
    refine x_aload_n Γ dX3_stale_45 rfl ?_
    refine gf_X3_16 Γ dX3_stale_46 (by decide) (by rfl) rfl ?_
    refine x_aload_n Γ dX3_stale_49 rfl ?_
    refine gf_X3_10 Γ dX3_stale_50 (by decide) (by rfl) rfl ?_
    refine x_callVv Γ calv_X0_become wl_X3_131 dX3_stale_53 (bec91) rfl (by decide) (by decide) (by rfl) rfl rfl rfl (Nat.le_of_ble_eq_true rfl) (Nat.le_refl _) (Nat.le_refl _) ?_
    refine x_aload_n Γ dX3_stale_56 rfl ?_
    refine gf_X3_16 Γ dX3_stale_57 (by decide) (by rfl) rfl ?_
    refine x_iconst Γ (v := 1) dX3_stale_60 rfl ?_
    refine x_aload_n Γ dX3_stale_61 rfl ?_
    refine gf_X3_10 Γ dX3_stale_62 (by decide) (by rfl) rfl ?_
    refine gf_X3_188 Γ dX3_stale_65 (by decide) (by rfl) rfl ?_
    refine x_isub Γ dX3_stale_68 ?_
    refine pf_X3_188 Γ dX3_stale_69 (by decide) (by rfl) (Nat.le_of_ble_eq_true rfl) (cW_p9 (k := 4) rfl) ?_
    refine x_aload_n Γ dX3_stale_72 rfl ?_
    refine gf_X3_16 Γ dX3_stale_73 (by decide) (by rfl) rfl ?_
    refine x_iload_n Γ dX3_stale_76 rfl ?_
    refine x_callV Γ calv_X0_passWeeks wl_X3_162 dX3_stale_77 (cM9 (m_X0_passWeeks (g := cW g T (ts T 7 4 (1 - T 7 4)) T3 R X) (b := 9) (T := ts T 7 4 (1 - T 7 4)) (by omega) (wN_of (ts_i (by decide)) hN) (wH_of (ts_n (by decide)) hH) (K := K) hK)) rfl (by decide) (by decide) (by rfl) rfl rfl rfl (Nat.le_of_ble_eq_true rfl) (Nat.le_refl _) (Nat.le_refl _) ?_
    refine x_pop Γ dX3_stale_80 rfl ?_
    refine x_aload_n Γ dX3_stale_81 rfl ?_
    refine gf_X3_16 Γ dX3_stale_82 (by decide) (by rfl) rfl ?_
    refine gf_X3_100 Γ dX3_stale_85 (by decide) (by rfl) rfl ?_
    refine x_iload_n Γ dX3_stale_88 rfl ?_
    refine x_isub Γ dX3_stale_89 ?_
    exact x_iretx ρ rfl dX3_stale_90 rfl (by rw [h7, ← rStl_e, eK]; try rfl) (cQ_i (rfl) rfl (vis_tr (vis_e (by rw [h7]; try rfl)) vis_Sta))
  · have h8 := hdI_8 c_1
    rw [hdI_n h8]
    have h9 : fWk T n < 7 := by have := fWk_lt (T := T) (n := n); omega
    refine x_aload_n Γ dX3_stale_11 rfl ?_
    refine x_iload_n Γ dX3_stale_12 rfl ?_
    refine x_callV Γ calv_X3_finding wl_X3_48 dX3_stale_13 (m_X3_finding (g := g) (T := T) (T2 := T2) (T3 := T3) (R := R) (X := X) (f := fWk T n) (h9)) rfl (by decide) (by decide) (by rfl) rfl rfl rfl (Nat.le_of_ble_eq_true rfl) (Nat.le_refl _) (Nat.le_refl _) ?_
    exact x_iretx ρ rfl dX3_stale_16 rfl (zsi (fr_n h9)) (cQ_i (rfl) rfl (vis_tr (vis_e (rfl)) vis_Sta))

set_option maxRecDepth 100000 in
set_option maxHeartbeats 4000000 in
theorem m_X3_law {g : Nat → zE} {T T2 T3 R : zT} {X : Nat → Int32} {N : Nat} (hN : wN T N) (hH : wH T N) (x n : Int32) : zMx 5 M_X3_law [.ref 0, .int x, .int n] (cW g T T2 T3 R X) 46 (some (.int (fr (fLaw T x n) (rLaw T N x n)))) (cQ g (T) (T3) (gLaw T R N (fLaw T x n) n)) := by
  refine zMx.intro (by decide) (Nat.le_of_ble_eq_true rfl) ?_
  intro Wf V m H0 Γ ρ
  replace Γ : zC Wf V m 6 H0 cX3_law RX3 5 0 0 := Γ
  show zX Wf V m 6 H0 0 (zls [(0, .ref 0), (1, .int x), (2, .int n)]) [] (cW g T T2 T3 R X) 46 0 0
  have hN2 := hN.2
  refine x_iload_n Γ dX3_law_0 rfl ?_
  refine x_callS Γ cals_X3_isKind wl_X3_44 dX3_law_1 (m_X3_isKind x) rfl (by decide) rfl (Nat.le_of_ble_eq_true rfl) (Nat.le_refl _) (Nat.le_refl _) ?_
  refine x_if_eq Γ (tgt := 15) dX3_law_4 (by decide) (fun c_1 => ?_) (fun c_1 => ?_)
  · have c_1 := zb_0.mp c_1
    have hF : fLaw T x n = 0 := if_neg (fun z => by rw [c_1] at z; cases z.1)
    refine x_iconst Γ (v := 0) dX3_law_15 rfl ?_
    refine x_istore_n Γ dX3_law_16 (by decide) ?_
    refine x_iload_n Γ dX3_law_17 rfl ?_
    refine x_iconst Γ (v := -1) dX3_law_18 rfl ?_
    refine x_icmp_eq Γ (tgt := 28) dX3_law_19 (by decide) (fun c_2 => ?_) (fun c_2 => ?_)
    · exact absurd c_2 (by decide)
    · refine x_aload_n Γ dX3_law_22 rfl ?_
      refine x_iload_n Γ dX3_law_23 rfl ?_
      refine x_callV Γ calv_X3_finding wl_X3_48 dX3_law_24 (m_X3_finding (g := g) (T := T) (T2 := T2) (T3 := T3) (R := R) (X := X) (f := 0) (by decide)) rfl (by decide) (by decide) (by rfl) rfl rfl rfl (Nat.le_of_ble_eq_true rfl) (Nat.le_refl _) (Nat.le_refl _) ?_
      exact x_iretx ρ rfl dX3_law_27 rfl (by rw [hF]; try rfl) (cQ_i (rfl) rfl (vis_tr (vis_e (by rw [hF])) vis_Law))
  · have c_1 := zb_n0.mp c_1
    have hsj := c_1
    refine x_aload_n Γ dX3_law_7 rfl ?_
    refine x_iload_n Γ dX3_law_8 rfl ?_
    refine x_callV Γ calv_X3_hindrance wl_X3_159 dX3_law_9 (m_X3_hindrance (g := g) (T := T) (T2 := T2) (T3 := T3) (R := R) (X := X) n) rfl (by decide) (by decide) (by rfl) rfl rfl rfl (Nat.le_of_ble_eq_true rfl) (Nat.le_refl _) (Nat.le_refl _) ?_
    refine x_goto Γ (tgt := 16) dX3_law_12 (by decide) ?_
    refine x_istore_n Γ dX3_law_16 (by decide) ?_
    refine x_iload_n Γ dX3_law_17 rfl ?_
    refine x_iconst Γ (v := -1) dX3_law_18 rfl ?_
    refine x_icmp_eq Γ (tgt := 28) dX3_law_19 (by decide) (fun c_3 => ?_) (fun c_3 => ?_)
    · have h7 := hdI_7 fWk_lt c_3
      obtain ⟨K, hK1, hK, rfl⟩ := fWk_K h7
      have eK : ci (nI K) = K := nI_clamp (by omega)
      have hF : fLaw T x (nI K) = 7 := (fLaw_h hsj).trans h7
      refine x_aload_n Γ dX3_law_28 rfl ?_
      refine gf_X3_16 Γ dX3_law_29 (by decide) (by rfl) rfl ?_
      refine x_aload_n Γ dX3_law_32 rfl ?_
      refine gf_X3_10 Γ dX3_law_33 (by decide) (by rfl) rfl ?_
      refine x_callVv Γ calv_X0_become wl_X3_131 dX3_law_36 (bec91) rfl (by decide) (by decide) (by rfl) rfl rfl rfl (Nat.le_of_ble_eq_true rfl) (Nat.le_refl _) (Nat.le_refl _) ?_
      refine x_aload_n Γ dX3_law_39 rfl ?_
      refine gf_X3_16 Γ dX3_law_40 (by decide) (by rfl) rfl ?_
      refine x_iload_n Γ dX3_law_43 rfl ?_
      refine x_callV Γ calv_X0_passWeeks wl_X3_162 dX3_law_44 (cM9 (m_X0_passWeeks (g := cW g T T T3 R X) (b := 9) (T := T) (by omega) hN hH (K := K) hK)) rfl (by decide) (by decide) (by rfl) rfl rfl rfl (Nat.le_of_ble_eq_true rfl) (Nat.le_refl _) (Nat.le_refl _) ?_
      refine x_istore Γ dX3_law_47 (by decide) ?_
      refine x_aload_n Γ dX3_law_49 rfl ?_
      refine gf_X3_16 Γ dX3_law_50 (by decide) (by rfl) rfl ?_
      refine x_aload_n Γ dX3_law_53 rfl ?_
      refine gf_X3_10 Γ dX3_law_54 (by decide) (by rfl) rfl ?_
      refine x_callVv Γ calv_X0_become wl_X3_131 dX3_law_57 (bec91) rfl (by decide) (by decide) (by rfl) rfl rfl rfl (Nat.le_of_ble_eq_true rfl) (Nat.le_refl _) (Nat.le_refl _) ?_
      refine x_iconst Γ (v := 0) dX3_law_60 rfl ?_
      refine x_istore Γ dX3_law_61 (by decide) ?_
      suffices L_63 : ∀ (k c : Nat), c ≤ N → N - c < k → zX Wf V m 6 H0 63 (zls [(0, .ref 0), (1, .int x), (2, .int (nI K)), (4, .int (wkc N T K)), (5, .int (nI c))]) [] (cW g T (kdT T x c) T3 R X) 46 0 0 by
        exact x_subl [(0, .ref 0), (1, .int x), (2, .int (nI K)), (4, .int (wkc N T K)), (5, .int (nI 0))] (List.forall_mem_cons.mpr ⟨rfl, List.forall_mem_cons.mpr ⟨rfl, List.forall_mem_cons.mpr ⟨rfl, List.forall_mem_cons.mpr ⟨rfl, List.forall_mem_cons.mpr ⟨rfl, fun _ hz => absurd hz List.not_mem_nil⟩⟩⟩⟩⟩) (x_heap (rfl) (L_63 (N + 1) 0  (by omega) (by omega)))
      intro k
      induction k with
      | zero => intro c  h1 h2; omega
      | succ k ih =>
        intro c  h1 h2
        refine x_iload Γ dX3_law_63 rfl ?_
        refine x_aload_n Γ dX3_law_65 rfl ?_
        refine gf_X3_16 Γ dX3_law_66 (by decide) (by rfl) rfl ?_
        refine gf_X3_52 Γ dX3_law_69 (by decide) (by rfl) rfl ?_
        refine x_icmp_ge Γ (tgt := 92) dX3_law_72 (by decide) (fun c_4 => ?_) (fun c_4 => ?_)
        · rw [kdT_n (a := 7) (by decide) c, hN.1] at c_4
          have c_4 := z_le c_4 (by omega) (by omega)
          obtain rfl : N = c := by omega
          refine x_iload Γ dX3_law_92 rfl ?_
          refine x_aload_n Γ dX3_law_94 rfl ?_
          refine gf_X3_16 Γ dX3_law_95 (by decide) (by rfl) rfl ?_
          refine x_iload_n Γ dX3_law_98 rfl ?_
          refine x_callV Γ calv_X0_passWeeks wl_X3_162 dX3_law_99 (cM9 (m_X0_passWeeks (g := cW g T (kdT T x N) T3 R X) (b := 9) (T := kdT T x N) (by omega) (wN_of (by rw [kdT_n (by decide) N]) hN) (wH_of (kdT_n (by decide) N) hH) (K := K) hK)) rfl (by decide) (by decide) (by rfl) rfl rfl rfl (Nat.le_of_ble_eq_true rfl) (Nat.le_refl _) (Nat.le_refl _) ?_
          refine x_isub Γ dX3_law_102 ?_
          exact x_iretx ρ rfl dX3_law_103 rfl (by rw [hF, rLaw, eK]; try rfl) (cQ_i (rfl) rfl (vis_tr (vis_e (by rw [hF]; try rfl)) vis_Law))
        · rw [kdT_n (a := 7) (by decide) c, hN.1] at c_4
          have c_4 := z_nle c_4 (by omega) (by omega)
          refine x_aload_n Γ dX3_law_75 rfl ?_
          refine gf_X3_16 Γ dX3_law_76 (by decide) (by rfl) rfl ?_
          refine gf_X3_191 Γ dX3_law_79 (by decide) (by rfl) rfl ?_
          refine x_iload Γ dX3_law_82 rfl ?_
          refine x_iload_n Γ dX3_law_84 rfl ?_
          refine x_iast Γ dX3_law_85 (by decide) (by rfl) rfl (by first | assumption | omega) (by decide) (cW_a9 (j := 0) (by decide)) ?_
          refine x_iinc Γ dX3_law_86 rfl (by first | exact zinc _ | rfl) (by decide) ?_
          refine x_goto Γ (tgt := 63) dX3_law_89 (by decide) ?_
          exact x_subl [(0, .ref 0), (1, .int x), (2, .int (nI K)), (4, .int (wkc N T K)), (5, .int (nI (c + 1)))] (List.forall_mem_cons.mpr ⟨rfl, List.forall_mem_cons.mpr ⟨rfl, List.forall_mem_cons.mpr ⟨rfl, List.forall_mem_cons.mpr ⟨rfl, List.forall_mem_cons.mpr ⟨rfl, fun _ hz => absurd hz List.not_mem_nil⟩⟩⟩⟩⟩) (x_heap (rfl) (ih (c + 1) (by omega) (by omega)))
    · have h8 := hdI_8 c_3
      rw [hdI_n h8]
      have h9 : fWk T n < 7 := by have := fWk_lt (T := T) (n := n); omega
      have hF : fLaw T x n = fWk T n := fLaw_h hsj
      refine x_aload_n Γ dX3_law_22 rfl ?_
      refine x_iload_n Γ dX3_law_23 rfl ?_
      refine x_callV Γ calv_X3_finding wl_X3_48 dX3_law_24 (m_X3_finding (g := g) (T := T) (T2 := T2) (T3 := T3) (R := R) (X := X) (f := fWk T n) (h9)) rfl (by decide) (by decide) (by rfl) rfl rfl rfl (Nat.le_of_ble_eq_true rfl) (Nat.le_refl _) (Nat.le_refl _) ?_
      exact x_iretx ρ rfl dX3_law_27 rfl (by rw [hF]; exact zsi (fr_n h9)) (cQ_i (rfl) rfl (vis_tr (vis_e (by rw [hF])) vis_Law))
