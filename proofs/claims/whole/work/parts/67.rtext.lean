theorem bn_t {a : Bool} (h : (!a) = true) : a = false := by
  cases a with
  | false => rfl
  | true => cases h
theorem bn_f {a : Bool} (h : (!a) = false) : a = true := by
  cases a with
  | true => rfl
  | false => cases h

set_option maxRecDepth 100000 in
set_option maxHeartbeats 4000000 in
theorem m_X4_ruleItem_0 {g : Nat → zE} {T R : zT} {b : Nat → Int32} {L p : Nat} (hL : L ≤ 120) (hp : p ≤ L) (h3 : R 3 = b) (eL : R 7 3 = nI L) (hk : tkR b L p R) (hbad : R 7 8 = zb false) : zMx 4 M_X4_ruleItem [.ref 37, .int 0] (hR g T R) 46 (none) (iQ g R b L (rulP b L T 0 p)) := by
  refine zMx.intro (by decide) (Nat.le_of_ble_eq_true rfl) ?_
  intro Wf V m H0 Γ ρ
  replace Γ : zC Wf V m 3 H0 cX4_ruleItem RX4 4 0 0 := Γ
  show zX Wf V m 3 H0 0 (zls [(0, .ref 37), (1, .int 0)]) [] (hR g T R) 46 0 0
  have hel := tE_le (b := b) hp
  have htv : inR (tV b L (tE b L p)) 0 10 = inR (tC b L (tE b L p)) 0 10 ∧ (inR (tC b L (tE b L p)) 0 10 = true → tV b L (tE b L p) = tC b L (tE b L p)) := tv_in (b := b) (L := L) (p := tE b L p) (lo := 0) (hi := 10) (by omega) (by omega)
  refine x_aload_n Γ dX4_ruleItem_0 rfl ?_
  refine x_aload_n Γ dX4_ruleItem_1 rfl ?_
  refine gf_X4_215 Γ dX4_ruleItem_2 (by decide) rfl rfl ?_
  refine x_if_ne Γ (tgt := 12) dX4_ruleItem_5 (by decide) (fun c_1 => ?_) (fun c_1 => ?_)
  · rw [hbad] at c_1
    exact absurd rfl c_1
  · refine x_iload_n Γ dX4_ruleItem_8 rfl ?_
    refine x_if_ge Γ (tgt := 16) dX4_ruleItem_9 (by decide) (fun c_2 => ?_) (fun c_2 => ?_)
    · refine x_iconst Γ (v := 0) dX4_ruleItem_16 rfl ?_
      refine pf_X4_215 Γ (hx := rfl) dX4_ruleItem_17 (by decide) rfl (Nat.le_of_ble_eq_true rfl) (hR_uO (k := 8) rfl) ?_
      refine x_aload_n Γ dX4_ruleItem_20 rfl ?_
      refine gf_X4_215 Γ dX4_ruleItem_21 (by decide) rfl rfl ?_
      refine x_if_eq Γ (tgt := 28) dX4_ruleItem_24 (by decide) (fun c_3 => ?_) (fun c_3 => ?_)
      · refine x_aload_n Γ dX4_ruleItem_28 rfl ?_
        refine x_callVxv Γ calv_X4_token wl_X4_232 dX4_ruleItem_29 (m_tok (g := g) (T := T) (R := ts R 7 8 0) (p := tE b L p) (bad := false) hL hel ((ts_n (by decide)).trans h3) ((ts_i (by decide)).trans eL) ((ts_i (by decide)).trans hk.2.1) ts_s) rfl (by decide) (by decide) rfl rfl rfl rfl (Nat.le_of_ble_eq_true rfl) (Nat.le_refl _) (Nat.le_refl _) (fun h_x hQ_x => ?_)
        obtain ⟨Q0, rfl, r0a, k0, b0⟩ := hQ_x
        have r0 := rl_tr (rl_ts (v := 0) (show 4 ≤ 8 by omega) (rl_rf (R := R))) r0a
        refine x_aload_n Γ dX4_ruleItem_32 rfl ?_
        refine x_iload_n Γ dX4_ruleItem_33 rfl ?_
        refine x_iconst Γ (v := 2) dX4_ruleItem_34 rfl ?_
        refine x_icmp_ne Γ (tgt := 42) dX4_ruleItem_35 (by decide) (fun c_4 => ?_) (fun c_4 => ?_)
        · refine x_iconst Γ (v := 0) dX4_ruleItem_42 rfl ?_
          refine x_iload_n Γ dX4_ruleItem_43 rfl ?_
          refine x_iconst Γ (v := 3) dX4_ruleItem_44 rfl ?_
          refine x_icmp_ne Γ (tgt := 52) dX4_ruleItem_45 (by decide) (fun c_5 => ?_) (fun c_5 => ?_)
          · refine x_bipush Γ (v := 10) dX4_ruleItem_52 rfl ?_
            refine x_callVx Γ calv_X4_number wl_X4_253 dX4_ruleItem_54 (m_X4_number (g := g) (T := T) (R := Q0) (b := b) (L := L) (p := tE b L p) (bad := false) hL hel (((r0).1 3 (by decide)).trans h3) (((r0).2 3 (by omega)).trans eL) k0 b0 0 10) rfl (by decide) (by decide) rfl rfl rfl rfl (Nat.le_of_ble_eq_true rfl) (Nat.le_refl _) (Nat.le_refl _) (fun h_x hQ_x => ?_)
            obtain ⟨Q1, rfl, r1, k1, b1⟩ := hQ_x
            refine x_istore_n Γ dX4_ruleItem_57 (by decide) ?_
            refine x_aload_n Γ dX4_ruleItem_58 rfl ?_
            refine gf_X4_215 Γ dX4_ruleItem_59 (by decide) rfl rfl ?_
            refine x_if_ne Γ (tgt := 72) dX4_ruleItem_62 (by decide) (fun c_6 => ?_) (fun c_6 => ?_)
            · rw [b1] at c_6
              have hno : (!false && decide (tK b L (tE b L p) = 2) && inR (Q0 7 7) 0 10) = false := bn_t (zb_n0.mp c_6)
              have hG : rulP b L T 0 p = (T, tE b L p, false) := if_neg (fun z => by
                have y : (!false && decide (tK b L (tE b L p) = 2) && inR (Q0 7 7) 0 10) = true := by rw [k0.2.2.2 z.1, decide_eq_true z.1, htv.1]; exact z.2
                rw [hno] at y
                cases y)
              exact x_vretx ρ dX4_ruleItem_72 (by rw [hG]; exact ⟨T, Q1, rfl, rl_tr r0 r1, by rw [hno] at k1; exact k1, by rw [b1, hno], fun z => by cases z⟩)
            · rw [b1] at c_6
              have hyes : (!false && decide (tK b L (tE b L p) = 2) && inR (Q0 7 7) 0 10) = true := bn_f (zb_0.mp c_6)
              have h2 : tK b L (tE b L p) = 2 := by
                simp only [Bool.and_eq_true, decide_eq_true_eq] at hyes
                exact hyes.1.2
              have hin : inR (tC b L (tE b L p)) 0 10 = true := by
                rw [k0.2.2.2 h2, htv.1, Bool.and_eq_true] at hyes
                exact hyes.2
              have hG : rulP b L T 0 p = (ts T 7 0 (tC b L (tE b L p)), tE b L (tE b L p), true) := if_pos ⟨h2, hin⟩
              refine x_aload_n Γ dX4_ruleItem_65 rfl ?_
              refine gf_X4_9 Γ dX4_ruleItem_66 (by decide) rfl rfl ?_
              refine x_iload_n Γ dX4_ruleItem_69 rfl ?_
              refine x_iload_n Γ dX4_ruleItem_70 rfl ?_
              refine x_iast Γ dX4_ruleItem_71 (by decide) (by rfl) (j := 0) rfl (by decide) (by decide) (hR_ms (by decide)) ?_
              exact x_vretx ρ dX4_ruleItem_72 (by rw [hG]; exact ⟨_, Q1, rfl, rl_tr r0 r1, by rw [hyes] at k1; exact k1, by rw [b1, hyes], fun _ => by rw [k0.2.2.2 h2, htv.2 hin]⟩)
          · exact absurd c_5 (by decide)
        · exact absurd c_4 (by decide)
      · rw [ts_s] at c_3
        exact absurd rfl c_3
    · exact absurd (by decide) c_2

set_option maxRecDepth 100000 in
set_option maxHeartbeats 4000000 in
theorem m_X4_ruleItem_1 {g : Nat → zE} {T R : zT} {b : Nat → Int32} {L p : Nat} (hL : L ≤ 120) (hp : p ≤ L) (h3 : R 3 = b) (eL : R 7 3 = nI L) (hk : tkR b L p R) (hbad : R 7 8 = zb false) : zMx 4 M_X4_ruleItem [.ref 37, .int 1] (hR g T R) 46 (none) (iQ g R b L (rulP b L T 1 p)) := by
  refine zMx.intro (by decide) (Nat.le_of_ble_eq_true rfl) ?_
  intro Wf V m H0 Γ ρ
  replace Γ : zC Wf V m 3 H0 cX4_ruleItem RX4 4 0 0 := Γ
  show zX Wf V m 3 H0 0 (zls [(0, .ref 37), (1, .int 1)]) [] (hR g T R) 46 0 0
  have hel := tE_le (b := b) hp
  have htv : inR (tV b L (tE b L p)) 0 10 = inR (tC b L (tE b L p)) 0 10 ∧ (inR (tC b L (tE b L p)) 0 10 = true → tV b L (tE b L p) = tC b L (tE b L p)) := tv_in (b := b) (L := L) (p := tE b L p) (lo := 0) (hi := 10) (by omega) (by omega)
  refine x_aload_n Γ dX4_ruleItem_0 rfl ?_
  refine x_aload_n Γ dX4_ruleItem_1 rfl ?_
  refine gf_X4_215 Γ dX4_ruleItem_2 (by decide) rfl rfl ?_
  refine x_if_ne Γ (tgt := 12) dX4_ruleItem_5 (by decide) (fun c_1 => ?_) (fun c_1 => ?_)
  · rw [hbad] at c_1
    exact absurd rfl c_1
  · refine x_iload_n Γ dX4_ruleItem_8 rfl ?_
    refine x_if_ge Γ (tgt := 16) dX4_ruleItem_9 (by decide) (fun c_2 => ?_) (fun c_2 => ?_)
    · refine x_iconst Γ (v := 0) dX4_ruleItem_16 rfl ?_
      refine pf_X4_215 Γ (hx := rfl) dX4_ruleItem_17 (by decide) rfl (Nat.le_of_ble_eq_true rfl) (hR_uO (k := 8) rfl) ?_
      refine x_aload_n Γ dX4_ruleItem_20 rfl ?_
      refine gf_X4_215 Γ dX4_ruleItem_21 (by decide) rfl rfl ?_
      refine x_if_eq Γ (tgt := 28) dX4_ruleItem_24 (by decide) (fun c_3 => ?_) (fun c_3 => ?_)
      · refine x_aload_n Γ dX4_ruleItem_28 rfl ?_
        refine x_callVxv Γ calv_X4_token wl_X4_232 dX4_ruleItem_29 (m_tok (g := g) (T := T) (R := ts R 7 8 0) (p := tE b L p) (bad := false) hL hel ((ts_n (by decide)).trans h3) ((ts_i (by decide)).trans eL) ((ts_i (by decide)).trans hk.2.1) ts_s) rfl (by decide) (by decide) rfl rfl rfl rfl (Nat.le_of_ble_eq_true rfl) (Nat.le_refl _) (Nat.le_refl _) (fun h_x hQ_x => ?_)
        obtain ⟨Q0, rfl, r0a, k0, b0⟩ := hQ_x
        have r0 := rl_tr (rl_ts (v := 0) (show 4 ≤ 8 by omega) (rl_rf (R := R))) r0a
        refine x_aload_n Γ dX4_ruleItem_32 rfl ?_
        refine x_iload_n Γ dX4_ruleItem_33 rfl ?_
        refine x_iconst Γ (v := 2) dX4_ruleItem_34 rfl ?_
        refine x_icmp_ne Γ (tgt := 42) dX4_ruleItem_35 (by decide) (fun c_4 => ?_) (fun c_4 => ?_)
        · refine x_iconst Γ (v := 0) dX4_ruleItem_42 rfl ?_
          refine x_iload_n Γ dX4_ruleItem_43 rfl ?_
          refine x_iconst Γ (v := 3) dX4_ruleItem_44 rfl ?_
          refine x_icmp_ne Γ (tgt := 52) dX4_ruleItem_45 (by decide) (fun c_5 => ?_) (fun c_5 => ?_)
          · refine x_bipush Γ (v := 10) dX4_ruleItem_52 rfl ?_
            refine x_callVx Γ calv_X4_number wl_X4_253 dX4_ruleItem_54 (m_X4_number (g := g) (T := T) (R := Q0) (b := b) (L := L) (p := tE b L p) (bad := false) hL hel (((r0).1 3 (by decide)).trans h3) (((r0).2 3 (by omega)).trans eL) k0 b0 0 10) rfl (by decide) (by decide) rfl rfl rfl rfl (Nat.le_of_ble_eq_true rfl) (Nat.le_refl _) (Nat.le_refl _) (fun h_x hQ_x => ?_)
            obtain ⟨Q1, rfl, r1, k1, b1⟩ := hQ_x
            refine x_istore_n Γ dX4_ruleItem_57 (by decide) ?_
            refine x_aload_n Γ dX4_ruleItem_58 rfl ?_
            refine gf_X4_215 Γ dX4_ruleItem_59 (by decide) rfl rfl ?_
            refine x_if_ne Γ (tgt := 72) dX4_ruleItem_62 (by decide) (fun c_6 => ?_) (fun c_6 => ?_)
            · rw [b1] at c_6
              have hno : (!false && decide (tK b L (tE b L p) = 2) && inR (Q0 7 7) 0 10) = false := bn_t (zb_n0.mp c_6)
              have hG : rulP b L T 1 p = (T, tE b L p, false) := if_neg (fun z => by
                have y : (!false && decide (tK b L (tE b L p) = 2) && inR (Q0 7 7) 0 10) = true := by rw [k0.2.2.2 z.1, decide_eq_true z.1, htv.1]; exact z.2
                rw [hno] at y
                cases y)
              exact x_vretx ρ dX4_ruleItem_72 (by rw [hG]; exact ⟨T, Q1, rfl, rl_tr r0 r1, by rw [hno] at k1; exact k1, by rw [b1, hno], fun z => by cases z⟩)
            · rw [b1] at c_6
              have hyes : (!false && decide (tK b L (tE b L p) = 2) && inR (Q0 7 7) 0 10) = true := bn_f (zb_0.mp c_6)
              have h2 : tK b L (tE b L p) = 2 := by
                simp only [Bool.and_eq_true, decide_eq_true_eq] at hyes
                exact hyes.1.2
              have hin : inR (tC b L (tE b L p)) 0 10 = true := by
                rw [k0.2.2.2 h2, htv.1, Bool.and_eq_true] at hyes
                exact hyes.2
              have hG : rulP b L T 1 p = (ts T 7 1 (tC b L (tE b L p)), tE b L (tE b L p), true) := if_pos ⟨h2, hin⟩
              refine x_aload_n Γ dX4_ruleItem_65 rfl ?_
              refine gf_X4_9 Γ dX4_ruleItem_66 (by decide) rfl rfl ?_
              refine x_iload_n Γ dX4_ruleItem_69 rfl ?_
              refine x_iload_n Γ dX4_ruleItem_70 rfl ?_
              refine x_iast Γ dX4_ruleItem_71 (by decide) (by rfl) (j := 1) rfl (by decide) (by decide) (hR_ms (by decide)) ?_
              exact x_vretx ρ dX4_ruleItem_72 (by rw [hG]; exact ⟨_, Q1, rfl, rl_tr r0 r1, by rw [hyes] at k1; exact k1, by rw [b1, hyes], fun _ => by rw [k0.2.2.2 h2, htv.2 hin]⟩)
          · exact absurd c_5 (by decide)
        · exact absurd c_4 (by decide)
      · rw [ts_s] at c_3
        exact absurd rfl c_3
    · exact absurd (by decide) c_2

set_option maxRecDepth 100000 in
set_option maxHeartbeats 4000000 in
theorem m_X4_ruleItem_2 {g : Nat → zE} {T R : zT} {b : Nat → Int32} {L p : Nat} (hL : L ≤ 120) (hp : p ≤ L) (h3 : R 3 = b) (eL : R 7 3 = nI L) (hk : tkR b L p R) (hbad : R 7 8 = zb false) : zMx 4 M_X4_ruleItem [.ref 37, .int 2] (hR g T R) 46 (none) (iQ g R b L (rulP b L T 2 p)) := by
  refine zMx.intro (by decide) (Nat.le_of_ble_eq_true rfl) ?_
  intro Wf V m H0 Γ ρ
  replace Γ : zC Wf V m 3 H0 cX4_ruleItem RX4 4 0 0 := Γ
  show zX Wf V m 3 H0 0 (zls [(0, .ref 37), (1, .int 2)]) [] (hR g T R) 46 0 0
  have hel := tE_le (b := b) hp
  have htv : inR (tV b L (tE b L p)) 1 10 = inR (tC b L (tE b L p)) 1 10 ∧ (inR (tC b L (tE b L p)) 1 10 = true → tV b L (tE b L p) = tC b L (tE b L p)) := tv_in (b := b) (L := L) (p := tE b L p) (lo := 1) (hi := 10) (by omega) (by omega)
  refine x_aload_n Γ dX4_ruleItem_0 rfl ?_
  refine x_aload_n Γ dX4_ruleItem_1 rfl ?_
  refine gf_X4_215 Γ dX4_ruleItem_2 (by decide) rfl rfl ?_
  refine x_if_ne Γ (tgt := 12) dX4_ruleItem_5 (by decide) (fun c_1 => ?_) (fun c_1 => ?_)
  · rw [hbad] at c_1
    exact absurd rfl c_1
  · refine x_iload_n Γ dX4_ruleItem_8 rfl ?_
    refine x_if_ge Γ (tgt := 16) dX4_ruleItem_9 (by decide) (fun c_2 => ?_) (fun c_2 => ?_)
    · refine x_iconst Γ (v := 0) dX4_ruleItem_16 rfl ?_
      refine pf_X4_215 Γ (hx := rfl) dX4_ruleItem_17 (by decide) rfl (Nat.le_of_ble_eq_true rfl) (hR_uO (k := 8) rfl) ?_
      refine x_aload_n Γ dX4_ruleItem_20 rfl ?_
      refine gf_X4_215 Γ dX4_ruleItem_21 (by decide) rfl rfl ?_
      refine x_if_eq Γ (tgt := 28) dX4_ruleItem_24 (by decide) (fun c_3 => ?_) (fun c_3 => ?_)
      · refine x_aload_n Γ dX4_ruleItem_28 rfl ?_
        refine x_callVxv Γ calv_X4_token wl_X4_232 dX4_ruleItem_29 (m_tok (g := g) (T := T) (R := ts R 7 8 0) (p := tE b L p) (bad := false) hL hel ((ts_n (by decide)).trans h3) ((ts_i (by decide)).trans eL) ((ts_i (by decide)).trans hk.2.1) ts_s) rfl (by decide) (by decide) rfl rfl rfl rfl (Nat.le_of_ble_eq_true rfl) (Nat.le_refl _) (Nat.le_refl _) (fun h_x hQ_x => ?_)
        obtain ⟨Q0, rfl, r0a, k0, b0⟩ := hQ_x
        have r0 := rl_tr (rl_ts (v := 0) (show 4 ≤ 8 by omega) (rl_rf (R := R))) r0a
        refine x_aload_n Γ dX4_ruleItem_32 rfl ?_
        refine x_iload_n Γ dX4_ruleItem_33 rfl ?_
        refine x_iconst Γ (v := 2) dX4_ruleItem_34 rfl ?_
        refine x_icmp_ne Γ (tgt := 42) dX4_ruleItem_35 (by decide) (fun c_4 => ?_) (fun c_4 => ?_)
        · exact absurd rfl c_4
        · refine x_iconst Γ (v := 1) dX4_ruleItem_38 rfl ?_
          refine x_goto Γ (tgt := 43) dX4_ruleItem_39 (by decide) ?_
          refine x_iload_n Γ dX4_ruleItem_43 rfl ?_
          refine x_iconst Γ (v := 3) dX4_ruleItem_44 rfl ?_
          refine x_icmp_ne Γ (tgt := 52) dX4_ruleItem_45 (by decide) (fun c_5 => ?_) (fun c_5 => ?_)
          · refine x_bipush Γ (v := 10) dX4_ruleItem_52 rfl ?_
            refine x_callVx Γ calv_X4_number wl_X4_253 dX4_ruleItem_54 (m_X4_number (g := g) (T := T) (R := Q0) (b := b) (L := L) (p := tE b L p) (bad := false) hL hel (((r0).1 3 (by decide)).trans h3) (((r0).2 3 (by omega)).trans eL) k0 b0 1 10) rfl (by decide) (by decide) rfl rfl rfl rfl (Nat.le_of_ble_eq_true rfl) (Nat.le_refl _) (Nat.le_refl _) (fun h_x hQ_x => ?_)
            obtain ⟨Q1, rfl, r1, k1, b1⟩ := hQ_x
            refine x_istore_n Γ dX4_ruleItem_57 (by decide) ?_
            refine x_aload_n Γ dX4_ruleItem_58 rfl ?_
            refine gf_X4_215 Γ dX4_ruleItem_59 (by decide) rfl rfl ?_
            refine x_if_ne Γ (tgt := 72) dX4_ruleItem_62 (by decide) (fun c_6 => ?_) (fun c_6 => ?_)
            · rw [b1] at c_6
              have hno : (!false && decide (tK b L (tE b L p) = 2) && inR (Q0 7 7) 1 10) = false := bn_t (zb_n0.mp c_6)
              have hG : rulP b L T 2 p = (T, tE b L p, false) := if_neg (fun z => by
                have y : (!false && decide (tK b L (tE b L p) = 2) && inR (Q0 7 7) 1 10) = true := by rw [k0.2.2.2 z.1, decide_eq_true z.1, htv.1]; exact z.2
                rw [hno] at y
                cases y)
              exact x_vretx ρ dX4_ruleItem_72 (by rw [hG]; exact ⟨T, Q1, rfl, rl_tr r0 r1, by rw [hno] at k1; exact k1, by rw [b1, hno], fun z => by cases z⟩)
            · rw [b1] at c_6
              have hyes : (!false && decide (tK b L (tE b L p) = 2) && inR (Q0 7 7) 1 10) = true := bn_f (zb_0.mp c_6)
              have h2 : tK b L (tE b L p) = 2 := by
                simp only [Bool.and_eq_true, decide_eq_true_eq] at hyes
                exact hyes.1.2
              have hin : inR (tC b L (tE b L p)) 1 10 = true := by
                rw [k0.2.2.2 h2, htv.1, Bool.and_eq_true] at hyes
                exact hyes.2
              have hG : rulP b L T 2 p = (ts T 7 2 (tC b L (tE b L p)), tE b L (tE b L p), true) := if_pos ⟨h2, hin⟩
              refine x_aload_n Γ dX4_ruleItem_65 rfl ?_
              refine gf_X4_9 Γ dX4_ruleItem_66 (by decide) rfl rfl ?_
              refine x_iload_n Γ dX4_ruleItem_69 rfl ?_
              refine x_iload_n Γ dX4_ruleItem_70 rfl ?_
              refine x_iast Γ dX4_ruleItem_71 (by decide) (by rfl) (j := 2) rfl (by decide) (by decide) (hR_ms (by decide)) ?_
              exact x_vretx ρ dX4_ruleItem_72 (by rw [hG]; exact ⟨_, Q1, rfl, rl_tr r0 r1, by rw [hyes] at k1; exact k1, by rw [b1, hyes], fun _ => by rw [k0.2.2.2 h2, htv.2 hin]⟩)
          · exact absurd c_5 (by decide)
      · rw [ts_s] at c_3
        exact absurd rfl c_3
    · exact absurd (by decide) c_2

set_option maxRecDepth 100000 in
set_option maxHeartbeats 4000000 in
theorem m_X4_ruleItem_3 {g : Nat → zE} {T R : zT} {b : Nat → Int32} {L p : Nat} (hL : L ≤ 120) (hp : p ≤ L) (h3 : R 3 = b) (eL : R 7 3 = nI L) (hk : tkR b L p R) (hbad : R 7 8 = zb false) : zMx 4 M_X4_ruleItem [.ref 37, .int 3] (hR g T R) 46 (none) (iQ g R b L (rulP b L T 3 p)) := by
  refine zMx.intro (by decide) (Nat.le_of_ble_eq_true rfl) ?_
  intro Wf V m H0 Γ ρ
  replace Γ : zC Wf V m 3 H0 cX4_ruleItem RX4 4 0 0 := Γ
  show zX Wf V m 3 H0 0 (zls [(0, .ref 37), (1, .int 3)]) [] (hR g T R) 46 0 0
  have hel := tE_le (b := b) hp
  have htv : inR (tV b L (tE b L p)) 0 3 = inR (tC b L (tE b L p)) 0 3 ∧ (inR (tC b L (tE b L p)) 0 3 = true → tV b L (tE b L p) = tC b L (tE b L p)) := tv_in (b := b) (L := L) (p := tE b L p) (lo := 0) (hi := 3) (by omega) (by omega)
  refine x_aload_n Γ dX4_ruleItem_0 rfl ?_
  refine x_aload_n Γ dX4_ruleItem_1 rfl ?_
  refine gf_X4_215 Γ dX4_ruleItem_2 (by decide) rfl rfl ?_
  refine x_if_ne Γ (tgt := 12) dX4_ruleItem_5 (by decide) (fun c_1 => ?_) (fun c_1 => ?_)
  · rw [hbad] at c_1
    exact absurd rfl c_1
  · refine x_iload_n Γ dX4_ruleItem_8 rfl ?_
    refine x_if_ge Γ (tgt := 16) dX4_ruleItem_9 (by decide) (fun c_2 => ?_) (fun c_2 => ?_)
    · refine x_iconst Γ (v := 0) dX4_ruleItem_16 rfl ?_
      refine pf_X4_215 Γ (hx := rfl) dX4_ruleItem_17 (by decide) rfl (Nat.le_of_ble_eq_true rfl) (hR_uO (k := 8) rfl) ?_
      refine x_aload_n Γ dX4_ruleItem_20 rfl ?_
      refine gf_X4_215 Γ dX4_ruleItem_21 (by decide) rfl rfl ?_
      refine x_if_eq Γ (tgt := 28) dX4_ruleItem_24 (by decide) (fun c_3 => ?_) (fun c_3 => ?_)
      · refine x_aload_n Γ dX4_ruleItem_28 rfl ?_
        refine x_callVxv Γ calv_X4_token wl_X4_232 dX4_ruleItem_29 (m_tok (g := g) (T := T) (R := ts R 7 8 0) (p := tE b L p) (bad := false) hL hel ((ts_n (by decide)).trans h3) ((ts_i (by decide)).trans eL) ((ts_i (by decide)).trans hk.2.1) ts_s) rfl (by decide) (by decide) rfl rfl rfl rfl (Nat.le_of_ble_eq_true rfl) (Nat.le_refl _) (Nat.le_refl _) (fun h_x hQ_x => ?_)
        obtain ⟨Q0, rfl, r0a, k0, b0⟩ := hQ_x
        have r0 := rl_tr (rl_ts (v := 0) (show 4 ≤ 8 by omega) (rl_rf (R := R))) r0a
        refine x_aload_n Γ dX4_ruleItem_32 rfl ?_
        refine x_iload_n Γ dX4_ruleItem_33 rfl ?_
        refine x_iconst Γ (v := 2) dX4_ruleItem_34 rfl ?_
        refine x_icmp_ne Γ (tgt := 42) dX4_ruleItem_35 (by decide) (fun c_4 => ?_) (fun c_4 => ?_)
        · refine x_iconst Γ (v := 0) dX4_ruleItem_42 rfl ?_
          refine x_iload_n Γ dX4_ruleItem_43 rfl ?_
          refine x_iconst Γ (v := 3) dX4_ruleItem_44 rfl ?_
          refine x_icmp_ne Γ (tgt := 52) dX4_ruleItem_45 (by decide) (fun c_5 => ?_) (fun c_5 => ?_)
          · exact absurd rfl c_5
          · refine x_iconst Γ (v := 3) dX4_ruleItem_48 rfl ?_
            refine x_goto Γ (tgt := 54) dX4_ruleItem_49 (by decide) ?_
            refine x_callVx Γ calv_X4_number wl_X4_253 dX4_ruleItem_54 (m_X4_number (g := g) (T := T) (R := Q0) (b := b) (L := L) (p := tE b L p) (bad := false) hL hel (((r0).1 3 (by decide)).trans h3) (((r0).2 3 (by omega)).trans eL) k0 b0 0 3) rfl (by decide) (by decide) rfl rfl rfl rfl (Nat.le_of_ble_eq_true rfl) (Nat.le_refl _) (Nat.le_refl _) (fun h_x hQ_x => ?_)
            obtain ⟨Q1, rfl, r1, k1, b1⟩ := hQ_x
            refine x_istore_n Γ dX4_ruleItem_57 (by decide) ?_
            refine x_aload_n Γ dX4_ruleItem_58 rfl ?_
            refine gf_X4_215 Γ dX4_ruleItem_59 (by decide) rfl rfl ?_
            refine x_if_ne Γ (tgt := 72) dX4_ruleItem_62 (by decide) (fun c_6 => ?_) (fun c_6 => ?_)
            · rw [b1] at c_6
              have hno : (!false && decide (tK b L (tE b L p) = 2) && inR (Q0 7 7) 0 3) = false := bn_t (zb_n0.mp c_6)
              have hG : rulP b L T 3 p = (T, tE b L p, false) := if_neg (fun z => by
                have y : (!false && decide (tK b L (tE b L p) = 2) && inR (Q0 7 7) 0 3) = true := by rw [k0.2.2.2 z.1, decide_eq_true z.1, htv.1]; exact z.2
                rw [hno] at y
                cases y)
              exact x_vretx ρ dX4_ruleItem_72 (by rw [hG]; exact ⟨T, Q1, rfl, rl_tr r0 r1, by rw [hno] at k1; exact k1, by rw [b1, hno], fun z => by cases z⟩)
            · rw [b1] at c_6
              have hyes : (!false && decide (tK b L (tE b L p) = 2) && inR (Q0 7 7) 0 3) = true := bn_f (zb_0.mp c_6)
              have h2 : tK b L (tE b L p) = 2 := by
                simp only [Bool.and_eq_true, decide_eq_true_eq] at hyes
                exact hyes.1.2
              have hin : inR (tC b L (tE b L p)) 0 3 = true := by
                rw [k0.2.2.2 h2, htv.1, Bool.and_eq_true] at hyes
                exact hyes.2
              have hG : rulP b L T 3 p = (ts T 7 3 (tC b L (tE b L p)), tE b L (tE b L p), true) := if_pos ⟨h2, hin⟩
              refine x_aload_n Γ dX4_ruleItem_65 rfl ?_
              refine gf_X4_9 Γ dX4_ruleItem_66 (by decide) rfl rfl ?_
              refine x_iload_n Γ dX4_ruleItem_69 rfl ?_
              refine x_iload_n Γ dX4_ruleItem_70 rfl ?_
              refine x_iast Γ dX4_ruleItem_71 (by decide) (by rfl) (j := 3) rfl (by decide) (by decide) (hR_ms (by decide)) ?_
              exact x_vretx ρ dX4_ruleItem_72 (by rw [hG]; exact ⟨_, Q1, rfl, rl_tr r0 r1, by rw [hyes] at k1; exact k1, by rw [b1, hyes], fun _ => by rw [k0.2.2.2 h2, htv.2 hin]⟩)
        · exact absurd c_4 (by decide)
      · rw [ts_s] at c_3
        exact absurd rfl c_3
    · exact absurd (by decide) c_2

set_option maxRecDepth 100000 in
set_option maxHeartbeats 4000000 in
theorem m_X4_ruleItem_n {g : Nat → zE} {T R : zT} {b : Nat → Int32} {L p : Nat} (hL : L ≤ 120) (hp : p ≤ L) (h3 : R 3 = b) (eL : R 7 3 = nI L) (hk : tkR b L p R) (hbad : R 7 8 = zb false) : zMx 4 M_X4_ruleItem [.ref 37, .int (-1)] (hR g T R) 46 (none) (iQ g R b L (T, p, false)) := by
  refine zMx.intro (by decide) (Nat.le_of_ble_eq_true rfl) ?_
  intro Wf V m H0 Γ ρ
  replace Γ : zC Wf V m 3 H0 cX4_ruleItem RX4 4 0 0 := Γ
  show zX Wf V m 3 H0 0 (zls [(0, .ref 37), (1, .int (-1))]) [] (hR g T R) 46 0 0
  refine x_aload_n Γ dX4_ruleItem_0 rfl ?_
  refine x_aload_n Γ dX4_ruleItem_1 rfl ?_
  refine gf_X4_215 Γ dX4_ruleItem_2 (by decide) rfl rfl ?_
  refine x_if_ne Γ (tgt := 12) dX4_ruleItem_5 (by decide) (fun c_1 => ?_) (fun c_1 => ?_)
  · rw [hbad] at c_1
    exact absurd rfl c_1
  · refine x_iload_n Γ dX4_ruleItem_8 rfl ?_
    refine x_if_ge Γ (tgt := 16) dX4_ruleItem_9 (by decide) (fun c_2 => ?_) (fun c_2 => ?_)
    · exact absurd c_2 (by decide)
    · refine x_iconst Γ (v := 1) dX4_ruleItem_12 rfl ?_
      refine x_goto Γ (tgt := 17) dX4_ruleItem_13 (by decide) ?_
      refine pf_X4_215 Γ (hx := rfl) dX4_ruleItem_17 (by decide) rfl (Nat.le_of_ble_eq_true rfl) (hR_uO (k := 8) rfl) ?_
      refine x_aload_n Γ dX4_ruleItem_20 rfl ?_
      refine gf_X4_215 Γ dX4_ruleItem_21 (by decide) rfl rfl ?_
      refine x_if_eq Γ (tgt := 28) dX4_ruleItem_24 (by decide) (fun c_3 => ?_) (fun c_3 => ?_)
      · rw [ts_s] at c_3
        exact absurd c_3 (by decide)
      · exact x_vretx ρ dX4_ruleItem_27 (⟨T, _, rfl, rl_ts (by omega) rl_rf, tkR_8 hk, ts_s, fun z => by cases z⟩)

def r5P (b : Nat → Int32) (L : Nat) (T : zT) (p : Nat) : zT × Nat × Bool := if isWd b L p (byt 12) = true then rulP b L T 0 p else if isWd b L p (byt 13) = true then rulP b L T 1 p else if isWd b L p (byt 14) = true then rulP b L T 2 p else if isWd b L p (byt 15) = true then rulP b L T 3 p else (T, p, false)
theorem m_rul_all {g : Nat → zE} {T R : zT} {b : Nat → Int32} {L p : Nat} (hL : L ≤ 120) (hp : p ≤ L) (h3 : R 3 = b) (eL : R 7 3 = nI L) (hk : tkR b L p R) (hbad : R 7 8 = zb false) : zMx 4 M_X4_ruleItem [.ref 37, .int (rhF b L p)] (hR g T R) 46 none (iQ g R b L (r5P b L T p)) := by
  unfold rhF r5P
  by_cases w0 : isWd b L p (byt 12) = true
  · rw [if_pos w0, if_pos w0]
    exact m_X4_ruleItem_0 hL hp h3 eL hk hbad
  · rw [if_neg w0, if_neg w0]
    by_cases w1 : isWd b L p (byt 13) = true
    · rw [if_pos w1, if_pos w1]
      exact m_X4_ruleItem_1 hL hp h3 eL hk hbad
    · rw [if_neg w1, if_neg w1]
      by_cases w2 : isWd b L p (byt 14) = true
      · rw [if_pos w2, if_pos w2]
        exact m_X4_ruleItem_2 hL hp h3 eL hk hbad
      · rw [if_neg w2, if_neg w2]
        by_cases w3 : isWd b L p (byt 15) = true
        · rw [if_pos w3, if_pos w3]
          exact m_X4_ruleItem_3 hL hp h3 eL hk hbad
        · rw [if_neg w3, if_neg w3]
          exact m_X4_ruleItem_n hL hp h3 eL hk hbad
theorem itm_st {b : Nat → Int32} {L : Nat} {T : zT} {N p : Nat} (hneg : kdF b L p 7 0 < 0) (h : isWd b L p (byt 16) = true) : itmP b L T N p = (ts T 7 4 1, tE b L p, true) := by
  rw [itmP, if_pos hneg, if_neg (by rw [wd_dis h (w2 := byt 12) (by decide)]; decide), if_neg (by rw [wd_dis h (w2 := byt 13) (by decide)]; decide), if_neg (by rw [wd_dis h (w2 := byt 14) (by decide)]; decide), if_neg (by rw [wd_dis h (w2 := byt 15) (by decide)]; decide), if_pos h]
theorem itm_fr {b : Nat → Int32} {L : Nat} {T : zT} {N p : Nat} (hneg : kdF b L p 7 0 < 0) (h : isWd b L p (byt 17) = true) : itmP b L T N p = (ts T 7 4 0, tE b L p, true) := by
  rw [itmP, if_pos hneg, if_neg (by rw [wd_dis h (w2 := byt 12) (by decide)]; decide), if_neg (by rw [wd_dis h (w2 := byt 13) (by decide)]; decide), if_neg (by rw [wd_dis h (w2 := byt 14) (by decide)]; decide), if_neg (by rw [wd_dis h (w2 := byt 15) (by decide)]; decide), if_neg (by rw [wd_dis h (w2 := byt 16) (by decide)]; decide), if_pos h]
theorem itm_r5 {b : Nat → Int32} {L : Nat} {T : zT} {N p : Nat} (hneg : kdF b L p 7 0 < 0) (h1 : isWd b L p (byt 16) = false) (h2 : isWd b L p (byt 17) = false) : itmP b L T N p = r5P b L T p := by
  rw [itmP, if_pos hneg, r5P, if_neg (c := isWd b L p (byt 16) = true) (by rw [h1]; decide), if_neg (c := isWd b L p (byt 17) = true) (by rw [h2]; decide)]

set_option maxRecDepth 100000 in
set_option maxHeartbeats 4000000 in
theorem m_X4_item {g : Nat → zE} {T R : zT} {b : Nat → Int32} {L p : Nat} (hL : L ≤ 120) (hp : p ≤ L) (h3 : R 3 = b) (eL : R 7 3 = nI L) (hk : tkR b L p R) (hbad : R 7 8 = zb false) {N : Nat} (hN : wN T N) : zMx 9 M_X4_item [.ref 37] (hR g T R) 46 (none) (iQ g R b L (itmP b L T N p)) := by
  refine zMx.intro (by decide) (Nat.le_of_ble_eq_true rfl) ?_
  intro Wf V m H0 Γ ρ
  replace Γ : zC Wf V m 2 H0 cX4_item RX4 9 0 0 := Γ
  show zX Wf V m 2 H0 0 (zls [(0, .ref 37)]) [] (hR g T R) 46 0 0
  have hN2 := hN.2
  have hel := tE_le (b := b) hp
  refine x_aload_n Γ dX4_item_0 rfl ?_
  refine x_callV Γ calv_X4_kindHere wl_X4_271 dX4_item_1 (m_X4_kindHere (g := g) (T := T) (R := R) hL hp h3 eL hk hbad) rfl (by decide) (by decide) rfl rfl rfl rfl (Nat.le_of_ble_eq_true rfl) (Nat.le_refl _) (Nat.le_refl _) ?_
  refine x_istore_n Γ dX4_item_4 (by decide) ?_
  refine x_iload_n Γ dX4_item_5 rfl ?_
  refine x_if_lt Γ (tgt := 17) dX4_item_6 (by decide) (fun c_1 => ?_) (fun c_1 => ?_)
  · have hneg := c_1
    refine x_aload_n Γ dX4_item_17 rfl ?_
    refine x_ldsw Γ (i := 30) (by decide) rfl rfl dX4_item_18 ?_
    refine x_callVx Γ calv_X4_takes wl_X4_250 dX4_item_21 (m_X4_takes (g := g) (T := T) (R := R) (b := b) (L := L) (p := p) (bad := false) hL (hp) (h3) (eL) hk hbad (i := 30) (by decide)) rfl (by decide) (by decide) rfl rfl rfl rfl (Nat.le_of_ble_eq_true rfl) (Nat.le_refl _) (Nat.le_refl _) (fun h_x hQ_x => ?_)
    obtain ⟨Q1, rfl, r1, k1, b1⟩ := hQ_x
    refine x_if_eq Γ (tgt := 37) dX4_item_24 (by decide) (fun c_2 => ?_) (fun c_2 => ?_)
    · have c_2 := zb_0.mp c_2
      have k1x := k1
      rw [c_2, if_neg (by decide)] at k1x
      have ws : isWd b L p (byt 16) = false := c_2
      refine x_aload_n Γ dX4_item_37 rfl ?_
      refine x_ldsw Γ (i := 31) (by decide) rfl rfl dX4_item_38 ?_
      refine x_callVx Γ calv_X4_takes wl_X4_250 dX4_item_41 (m_X4_takes (g := g) (T := T) (R := Q1) (b := b) (L := L) (p := p) (bad := false) hL (hp) (((r1).1 3 (by decide)).trans h3) (((r1).2 3 (by omega)).trans eL) k1x b1 (i := 31) (by decide)) rfl (by decide) (by decide) rfl rfl rfl rfl (Nat.le_of_ble_eq_true rfl) (Nat.le_refl _) (Nat.le_refl _) (fun h_x hQ_x => ?_)
      obtain ⟨Q2, rfl, r2, k2, b2⟩ := hQ_x
      refine x_if_eq Γ (tgt := 57) dX4_item_44 (by decide) (fun c_3 => ?_) (fun c_3 => ?_)
      · have c_3 := zb_0.mp c_3
        have k2x := k2
        rw [c_3, if_neg (by decide)] at k2x
        have hG := itm_r5 (T := T) (N := N) hneg ws (show isWd b L p (byt 17) = false from c_3)
        refine x_aload_n Γ dX4_item_57 rfl ?_
        refine x_aload_n Γ dX4_item_58 rfl ?_
        refine x_callV Γ calv_X4_ruleHere wl_X4_281 dX4_item_59 (m_X4_ruleHere (g := g) (T := T) (R := Q2) hL hp ((((rl_tr r1 r2).1 3 (by decide)).trans h3)) ((((rl_tr r1 r2).2 3 (by omega)).trans eL)) k2x b2) rfl (by decide) (by decide) rfl rfl rfl rfl (Nat.le_of_ble_eq_true rfl) (Nat.le_refl _) (Nat.le_refl _) ?_
        refine x_callVxv Γ calv_X4_ruleItem wl_X4_284 dX4_item_62 (m_rul_all (g := g) (T := T) (R := Q2) hL hp ((((rl_tr r1 r2).1 3 (by decide)).trans h3)) ((((rl_tr r1 r2).2 3 (by omega)).trans eL)) k2x b2) rfl (by decide) (by decide) rfl rfl rfl rfl (Nat.le_of_ble_eq_true rfl) (Nat.le_refl _) (Nat.le_refl _) (fun h_x hQ_x => ?_)
        obtain ⟨U, Q3, rfl, r3, k3, b3, t3⟩ := hQ_x
        exact x_vretx ρ dX4_item_65 (by rw [hG]; exact ⟨U, Q3, rfl, rl_tr (rl_tr r1 r2) r3, k3, b3, t3⟩)
      · have c_3 := zb_n0.mp c_3
        have k2x := k2
        rw [c_3, if_pos rfl] at k2x
        have hG : itmP b L T N p = (ts T 7 4 0, tE b L p, true) := itm_fr hneg c_3
        refine x_aload_n Γ dX4_item_47 rfl ?_
        refine gf_X4_9 Γ dX4_item_48 (by decide) rfl rfl ?_
        refine x_iconst Γ (v := 4) dX4_item_51 rfl ?_
        refine x_iconst Γ (v := 0) dX4_item_52 rfl ?_
        refine x_iast Γ dX4_item_53 (by decide) (by rfl) (j := 4) rfl (by decide) (by decide) (hR_ms (by decide)) ?_
        refine x_goto Γ (tgt := 65) dX4_item_54 (by decide) ?_
        exact x_vretx ρ dX4_item_65 (by rw [hG]; exact ⟨_, Q2, rfl, rl_tr r1 r2, k2x, b2, fun _ => rfl⟩)
    · have c_2 := zb_n0.mp c_2
      have k1x := k1
      rw [c_2, if_pos rfl] at k1x
      have hG : itmP b L T N p = (ts T 7 4 1, tE b L p, true) := itm_st hneg c_2
      refine x_aload_n Γ dX4_item_27 rfl ?_
      refine gf_X4_9 Γ dX4_item_28 (by decide) rfl rfl ?_
      refine x_iconst Γ (v := 4) dX4_item_31 rfl ?_
      refine x_iconst Γ (v := 1) dX4_item_32 rfl ?_
      refine x_iast Γ dX4_item_33 (by decide) (by rfl) (j := 4) rfl (by decide) (by decide) (hR_ms (by decide)) ?_
      refine x_goto Γ (tgt := 65) dX4_item_34 (by decide) ?_
      exact x_vretx ρ dX4_item_65 (by rw [hG]; exact ⟨_, Q1, rfl, r1, k1x, b1, fun _ => rfl⟩)
  · have hG : itmP b L T N p = citP b L T N (kdF b L p 7 0) p := if_neg c_1
    refine x_aload_n Γ dX4_item_9 rfl ?_
    refine x_iload_n Γ dX4_item_10 rfl ?_
    refine x_callVxv Γ calv_X4_citizenItem wl_X4_274 dX4_item_11 (m_X4_citizenItem (g := g) (T := T) (R := R) hL hp h3 eL hk hbad hN (kdF b L p 7 0)) rfl (by decide) (by decide) rfl rfl rfl rfl (Nat.le_of_ble_eq_true rfl) (Nat.le_refl _) (Nat.le_refl _) (fun h_x hQ_x => ?_)
    obtain ⟨U, Q1, rfl, r1, k1, b1, t1⟩ := hQ_x
    refine x_goto Γ (tgt := 65) dX4_item_14 (by decide) ?_
    exact x_vretx ρ dX4_item_65 (by rw [hG]; exact ⟨U, Q1, rfl, r1, k1, b1, t1⟩)

def tQ (g : Nat → zE) (T R T2 : zT) (h : Nat → zE) : Prop := ∃ Q : zT, h = hR g T2 Q ∧ visR (ts R 7 3 0) Q ∧ Q 0 = R 0
theorem tQ_v {R Q : zT} {x : Nat → Int32} {v : Int32} (h : rlR (tr R 1 x) Q) : visR (ts R 7 3 0) (ts (ts Q 7 8 v) 7 3 0) :=
  ⟨fun a h1 h2 => by rw [ts_n (by omega), ts_n (by omega), ts_n (by omega), h.1 a (by omega), tr_n (by omega)], by rw [ts_i (by decide), ts_i (by decide), ts_i (by decide), h.2 0 (by omega), tr_n (by decide)], by rw [ts_s, ts_s]⟩

set_option maxRecDepth 100000 in
set_option maxHeartbeats 4000000 in
theorem m_X4_text {g : Nat → zE} {T R : zT} {b : Nat → Int32} {L : Nat} (hL : L ≤ 120) (h3 : R 3 = b) (eL : R 7 3 = nI L) {N : Nat} (hN : wN T N) : zMx 10 M_X4_text [.ref 37] (hR g T R) 46 (some (.int (rTx (txP b L 121 T 0 0)))) (tQ g T R (tTx T (txP b L 121 T 0 0))) := by
  refine zMx.intro (by decide) (Nat.le_of_ble_eq_true rfl) ?_
  intro Wf V m H0 Γ ρ
  replace Γ : zC Wf V m 4 H0 cX4_text RX4 10 0 0 := Γ
  show zX Wf V m 4 H0 0 (zls [(0, .ref 37)]) [] (hR g T R) 46 0 0
  have h3b : (tr R 1 (mr T)) 3 = b := (tr_n (by decide)).trans h3
  have eLb : (tr R 1 (mr T)) 7 3 = nI L := (congrFun (tr_n (by decide)) 3).trans eL
  refine x_aload_n Γ dX4_text_0 rfl ?_
  refine gf_X4_9 Γ dX4_text_1 (by decide) rfl rfl ?_
  refine x_aload_n Γ dX4_text_4 rfl ?_
  refine gf_X4_16 Γ dX4_text_5 (by decide) rfl rfl ?_
  refine x_callSv Γ cals_X4_row wl_X4_123 dX4_text_8 (row_mw (g := g) (T := T) (R := R)) rfl (by decide) rfl (Nat.le_of_ble_eq_true rfl) (Nat.le_refl _) (Nat.le_refl _) ?_
  refine x_aload_n Γ dX4_text_11 rfl ?_
  refine x_iconst Γ (v := 0) dX4_text_12 rfl ?_
  refine pf_X4_200 Γ dX4_text_13 (by decide) rfl (Nat.le_of_ble_eq_true rfl) (hR_uO (k := 6) rfl) ?_
  refine x_aload_n Γ dX4_text_16 rfl ?_
  refine x_iconst Γ (v := 0) dX4_text_17 rfl ?_
  refine pf_X4_215 Γ (hx := rfl) dX4_text_18 (by decide) rfl (Nat.le_of_ble_eq_true rfl) (hR_uO (k := 8) rfl) ?_
  refine x_aload_n Γ dX4_text_21 rfl ?_
  refine x_callVxv Γ calv_X4_token wl_X4_232 dX4_text_22 (m_tok (g := g) (T := T) (R := ts (ts (tr R 1 (mr T)) 7 6 0) 7 8 0) (p := 0) (bad := false) hL (Nat.zero_le _) (((ts_n (by decide)).trans (ts_n (by decide))).trans h3b) (((ts_i (by decide)).trans (ts_i (by decide))).trans eLb) ((ts_i (by decide)).trans (ts_s.trans nI_0.symm)) ts_s) rfl (by decide) (by decide) rfl rfl rfl rfl (Nat.le_of_ble_eq_true rfl) (Nat.le_refl _) (Nat.le_refl _) (fun h_x hQ_x => ?_)
  obtain ⟨Q0, rfl, r0, k0, b0⟩ := hQ_x
  refine x_iconst Γ (v := 0) dX4_text_25 rfl ?_
  refine x_istore_n Γ dX4_text_26 (by decide) ?_
  refine x_iconst Γ (v := 1) dX4_text_27 rfl ?_
  refine x_istore_n Γ dX4_text_28 (by decide) ?_
  suffices L_29 : ∀ (k it p : Nat) (U Q : zT), 121 - it < k → it ≤ p → p ≤ L → (∃ M, wN U M) → rlR (tr R 1 (mr T)) Q → tkR b L p Q → Q 7 8 = zb false → txP b L (121 - it) U p it = txP b L 121 T 0 0 → zX Wf V m 4 H0 29 (zls [(0, .ref 37), (1, .int (nI it)), (2, .int 1)]) [] (hR g U Q) 46 0 0 by
    exact x_subl [(0, .ref 37), (1, .int (nI 0)), (2, .int 1)] (List.forall_mem_cons.mpr ⟨rfl, List.forall_mem_cons.mpr ⟨rfl, List.forall_mem_cons.mpr ⟨rfl, fun _ hz => absurd hz List.not_mem_nil⟩⟩⟩) (L_29 122 0 0 T Q0 (by omega) (Nat.le_refl _) (Nat.zero_le _) ⟨N, hN⟩ (rl_tr (rl_ts (by omega) (rl_ts (by omega) rl_rf)) r0) k0 b0 rfl)
  clear r0 k0 b0
  intro k
  induction k with
  | zero => intro it p U Q q1; omega
  | succ k ih =>
    intro it p U Q q1 q2 q3 q4 rq kq bq q5
    obtain ⟨M, hM⟩ := q4
    have hcM := ci_N hM
    refine x_iload_n Γ dX4_text_29 rfl ?_
    refine x_if_eq Γ (tgt := 58) dX4_text_30 (by decide) (fun c_1 => ?_) (fun c_1 => ?_)
    · exact absurd c_1 (by decide)
    · refine x_aload_n Γ dX4_text_33 rfl ?_
      refine x_callVxv Γ calv_X4_item wl_X4_287 dX4_text_34 (m_X4_item (g := g) (T := U) (R := Q) (b := b) (L := L) (p := p) hL q3 ((rq.1 3 (by decide)).trans h3b) ((rq.2 3 (by omega)).trans eLb) kq bq (N := ci (U 7 8)) (hcM ▸ hM)) rfl (by decide) (by decide) rfl rfl rfl rfl (Nat.le_of_ble_eq_true rfl) (Nat.le_refl _) (Nat.le_refl _) (fun h_x hQ_x => ?_)
      obtain ⟨U2, Q2, rfl, r2, k2, b2, t2⟩ := hQ_x
      have hip := itm_p (b := b) (L := L) (T := U) (N := ci (U 7 8)) (p := p) q3
      have hsg := tS_ge (b := b) (L := L) (p := (itmP b L U (ci (U 7 8)) p).2.1)
      have hk5 := tK_lt (b := b) (L := L) (p := (itmP b L U (ci (U 7 8)) p).2.1)
      refine x_iinc Γ dX4_text_37 rfl (by first | exact zinc _ | rfl) (by decide) ?_
      refine x_aload_n Γ dX4_text_40 rfl ?_
      refine x_bipush Γ (v := 59) dX4_text_41 rfl ?_
      refine x_callV Γ calv_X4_isSign wl_X4_290 dX4_text_43 (m_X4_isSign (g := g) (T := U2) (R := Q2) (b := b) (L := L) (p := (itmP b L U (ci (U 7 8)) p).2.1) (bad := !(itmP b L U (ci (U 7 8)) p).2.2) hL hip.1 (((rl_tr rq r2).1 3 (by decide)).trans h3b) (((rl_tr rq r2).2 3 (by omega)).trans eLb) k2 b2) rfl (by decide) (by decide) rfl rfl rfl rfl (Nat.le_of_ble_eq_true rfl) (Nat.le_refl _) (Nat.le_refl _) ?_
      refine x_istore_n Γ dX4_text_46 (by decide) ?_
      refine x_iload_n Γ dX4_text_47 rfl ?_
      refine x_if_eq Γ (tgt := 29) dX4_text_48 (by decide) (fun c_2 => ?_) (fun c_2 => ?_)
      · have c_2 := zb_0.mp c_2
        have hc : (!!(itmP b L U (ci (U 7 8)) p).2.2 && decide (tK b L (itmP b L U (ci (U 7 8)) p).2.1 = 3)) = false := c_2
        refine x_iload_n Γ dX4_text_29 rfl ?_
        refine x_if_eq Γ (tgt := 58) dX4_text_30 (by decide) (fun c_3 => ?_) (fun c_3 => ?_)
        · have c_3 := zb_0.mp c_3
          refine x_aload_n Γ dX4_text_58 rfl ?_
          refine x_aload_n Γ dX4_text_59 rfl ?_
          refine gf_X4_215 Γ dX4_text_60 (by decide) rfl rfl ?_
          refine x_if_ne Γ (tgt := 73) dX4_text_63 (by decide) (fun c_4 => ?_) (fun c_4 => ?_)
          · rw [b2] at c_4
            have hno : (itmP b L U (ci (U 7 8)) p).2.2 = false := bn_t (zb_n0.mp c_4)
            have hT : txP b L 121 T 0 0 = (none, tS b L (itmP b L U (ci (U 7 8)) p).2.1) := by
              rw [← q5, show 121 - it = (120 - it) + 1 by omega]
              exact if_neg (by rw [hno]; decide)
            refine x_iconst Γ (v := 1) dX4_text_73 rfl ?_
            refine x_goto Γ (tgt := 78) dX4_text_74 (by decide) ?_
            refine pf_X4_215 Γ (hx := rfl) dX4_text_78 (by decide) rfl (Nat.le_of_ble_eq_true rfl) (hR_uO (k := 8) rfl) ?_
            refine x_aload_n Γ dX4_text_81 rfl ?_
            refine gf_X4_203 Γ dX4_text_82 (by decide) rfl rfl ?_
            refine x_istore_n Γ dX4_text_85 (by decide) ?_
            refine x_aload_n Γ dX4_text_86 rfl ?_
            refine x_iconst Γ (v := 0) dX4_text_87 rfl ?_
            refine pf_X4_197 Γ dX4_text_88 (by decide) rfl (Nat.le_of_ble_eq_true rfl) (hR_uO (k := 3) rfl) ?_
            refine x_aload_n Γ dX4_text_91 rfl ?_
            refine gf_X4_215 Γ dX4_text_92 (by decide) rfl rfl ?_
            refine x_if_ne Γ (tgt := 100) dX4_text_95 (by decide) (fun c_5 => ?_) (fun c_5 => ?_)
            · refine x_aload_n Γ dX4_text_100 rfl ?_
              refine gf_X4_16 Γ dX4_text_101 (by decide) rfl rfl ?_
              refine x_aload_n Γ dX4_text_104 rfl ?_
              refine gf_X4_9 Γ dX4_text_105 (by decide) rfl rfl ?_
              refine x_callSv Γ cals_X4_row wl_X4_123 dX4_text_108 (row_wm (g := g) (T := T) (U := U2) (R := (ts (ts Q2 7 8 1) 7 3 0)) (((ts_n (by decide)).trans (ts_n (by decide))).trans (((rl_tr rq r2).1 1 (by decide)).trans tr_s))) rfl (by decide) rfl (Nat.le_of_ble_eq_true rfl) (Nat.le_refl _) (Nat.le_refl _) ?_
              refine x_iconst Γ (v := -1) dX4_text_111 rfl ?_
              refine x_iload_n Γ dX4_text_112 rfl ?_
              refine x_isub Γ dX4_text_113 ?_
              exact x_iretx ρ rfl dX4_text_114 rfl (by rw [hT, show ts Q2 7 8 1 7 5 = nI (tS b L (itmP b L U (ci (U 7 8)) p).2.1) from (ts_i (by decide)).trans k2.1]; try rfl) (by rw [hT]; exact ⟨_, rfl, tQ_v (rl_tr rq r2), ((ts_n (by decide)).trans (ts_n (by decide))).trans (((rl_tr rq r2).1 0 (by decide)).trans (tr_n (by decide)))⟩)
            · rw [ts_i (by decide), ts_s] at c_5
              exact absurd c_5 (by decide)
          · rw [b2] at c_4
            have hok : (itmP b L U (ci (U 7 8)) p).2.2 = true := bn_f (zb_0.mp c_4)
            have hk3 : ¬ tK b L (itmP b L U (ci (U 7 8)) p).2.1 = 3 := fun z => by rw [hok, decide_eq_true z] at hc; cases hc
            refine x_aload_n Γ dX4_text_66 rfl ?_
            refine gf_X4_212 Γ dX4_text_67 (by decide) rfl rfl ?_
            refine x_if_eq Γ (tgt := 77) dX4_text_70 (by decide) (fun c_6 => ?_) (fun c_6 => ?_)
            · rw [k2.2.2.1] at c_6
              have hk0 := (tm_e _ hk5).2.2.1.mp c_6
              have hT : txP b L 121 T 0 0 = (some U2, it + 1) := by
                rw [← q5, t2 hok, show 121 - it = (120 - it) + 1 by omega]
                exact ((if_pos hok).trans (if_neg hk3)).trans (if_pos hk0)
              refine x_iconst Γ (v := 0) dX4_text_77 rfl ?_
              refine pf_X4_215 Γ (hx := rfl) dX4_text_78 (by decide) rfl (Nat.le_of_ble_eq_true rfl) (hR_uO (k := 8) rfl) ?_
              refine x_aload_n Γ dX4_text_81 rfl ?_
              refine gf_X4_203 Γ dX4_text_82 (by decide) rfl rfl ?_
              refine x_istore_n Γ dX4_text_85 (by decide) ?_
              refine x_aload_n Γ dX4_text_86 rfl ?_
              refine x_iconst Γ (v := 0) dX4_text_87 rfl ?_
              refine pf_X4_197 Γ dX4_text_88 (by decide) rfl (Nat.le_of_ble_eq_true rfl) (hR_uO (k := 3) rfl) ?_
              refine x_aload_n Γ dX4_text_91 rfl ?_
              refine gf_X4_215 Γ dX4_text_92 (by decide) rfl rfl ?_
              refine x_if_ne Γ (tgt := 100) dX4_text_95 (by decide) (fun c_7 => ?_) (fun c_7 => ?_)
              · rw [ts_i (by decide), ts_s] at c_7
                exact absurd rfl c_7
              · refine x_iload_n Γ dX4_text_98 rfl ?_
                exact x_iretx ρ rfl dX4_text_99 rfl (by rw [hT]; try rfl) (by rw [hT]; exact ⟨_, rfl, tQ_v (rl_tr rq r2), ((ts_n (by decide)).trans (ts_n (by decide))).trans (((rl_tr rq r2).1 0 (by decide)).trans (tr_n (by decide)))⟩)
            · rw [k2.2.2.1] at c_6
              have hk0 : ¬ tK b L (itmP b L U (ci (U 7 8)) p).2.1 = 0 := fun z => c_6 ((tm_e _ hk5).2.2.1.mpr z)
              have hT : txP b L 121 T 0 0 = (none, tS b L (itmP b L U (ci (U 7 8)) p).2.1) := by
                rw [← q5, show 121 - it = (120 - it) + 1 by omega]
                exact ((if_pos hok).trans (if_neg hk3)).trans (if_neg hk0)
              refine x_iconst Γ (v := 1) dX4_text_73 rfl ?_
              refine x_goto Γ (tgt := 78) dX4_text_74 (by decide) ?_
              refine pf_X4_215 Γ (hx := rfl) dX4_text_78 (by decide) rfl (Nat.le_of_ble_eq_true rfl) (hR_uO (k := 8) rfl) ?_
              refine x_aload_n Γ dX4_text_81 rfl ?_
              refine gf_X4_203 Γ dX4_text_82 (by decide) rfl rfl ?_
              refine x_istore_n Γ dX4_text_85 (by decide) ?_
              refine x_aload_n Γ dX4_text_86 rfl ?_
              refine x_iconst Γ (v := 0) dX4_text_87 rfl ?_
              refine pf_X4_197 Γ dX4_text_88 (by decide) rfl (Nat.le_of_ble_eq_true rfl) (hR_uO (k := 3) rfl) ?_
              refine x_aload_n Γ dX4_text_91 rfl ?_
              refine gf_X4_215 Γ dX4_text_92 (by decide) rfl rfl ?_
              refine x_if_ne Γ (tgt := 100) dX4_text_95 (by decide) (fun c_8 => ?_) (fun c_8 => ?_)
              · refine x_aload_n Γ dX4_text_100 rfl ?_
                refine gf_X4_16 Γ dX4_text_101 (by decide) rfl rfl ?_
                refine x_aload_n Γ dX4_text_104 rfl ?_
                refine gf_X4_9 Γ dX4_text_105 (by decide) rfl rfl ?_
                refine x_callSv Γ cals_X4_row wl_X4_123 dX4_text_108 (row_wm (g := g) (T := T) (U := U2) (R := (ts (ts Q2 7 8 1) 7 3 0)) (((ts_n (by decide)).trans (ts_n (by decide))).trans (((rl_tr rq r2).1 1 (by decide)).trans tr_s))) rfl (by decide) rfl (Nat.le_of_ble_eq_true rfl) (Nat.le_refl _) (Nat.le_refl _) ?_
                refine x_iconst Γ (v := -1) dX4_text_111 rfl ?_
                refine x_iload_n Γ dX4_text_112 rfl ?_
                refine x_isub Γ dX4_text_113 ?_
                exact x_iretx ρ rfl dX4_text_114 rfl (by rw [hT, show ts Q2 7 8 1 7 5 = nI (tS b L (itmP b L U (ci (U 7 8)) p).2.1) from (ts_i (by decide)).trans k2.1]; try rfl) (by rw [hT]; exact ⟨_, rfl, tQ_v (rl_tr rq r2), ((ts_n (by decide)).trans (ts_n (by decide))).trans (((rl_tr rq r2).1 0 (by decide)).trans (tr_n (by decide)))⟩)
              · rw [ts_i (by decide), ts_s] at c_8
                exact absurd c_8 (by decide)
        · have c_3 := zb_n0.mp c_3
          rw [hc] at c_3
          exact absurd c_3 (by decide)
      · have c_2 := zb_n0.mp c_2
        have hc : (!!(itmP b L U (ci (U 7 8)) p).2.2 && decide (tK b L (itmP b L U (ci (U 7 8)) p).2.1 = 3)) = true := c_2
        have hc2 := hc
        rw [Bool.not_not, Bool.and_eq_true, decide_eq_true_eq] at hc2
        have hok := hc2.1
        have hk3 := hc2.2
        have hgt := tE_gt (b := b) (L := L) (p := (itmP b L U (ci (U 7 8)) p).2.1) (by omega)
        have hS : txP b L (121 - it) U p it = txP b L (121 - (it + 1)) U2 (tE b L (itmP b L U (ci (U 7 8)) p).2.1) (it + 1) := by
          rw [t2 hok, show 121 - it = (120 - it) + 1 by omega, show 121 - (it + 1) = 120 - it by omega]
          exact (if_pos hok).trans (if_pos hk3)
        refine x_aload_n Γ dX4_text_51 rfl ?_
        refine x_callVxv Γ calv_X4_token wl_X4_232 dX4_text_52 (m_tok (g := g) (T := U2) (R := Q2) (p := tE b L (itmP b L U (ci (U 7 8)) p).2.1) (bad := false) hL (tE_le hip.1) (((rl_tr rq r2).1 3 (by decide)).trans h3b) (((rl_tr rq r2).2 3 (by omega)).trans eLb) k2.2.1 (by rw [b2, hok]; rfl)) rfl (by decide) (by decide) rfl rfl rfl rfl (Nat.le_of_ble_eq_true rfl) (Nat.le_refl _) (Nat.le_refl _) (fun h_x hQ_x => ?_)
        obtain ⟨Q3, rfl, r3, k3, b3⟩ := hQ_x
        have hUN : ∃ M, wN U2 M := by rw [t2 hok]; exact itm_N (hcM ▸ hM)
        refine x_goto Γ (tgt := 29) dX4_text_55 (by decide) ?_
        exact x_subl [(0, .ref 37), (1, .int (nI (it + 1))), (2, .int 1)] (List.forall_mem_cons.mpr ⟨rfl, List.forall_mem_cons.mpr ⟨rfl, List.forall_mem_cons.mpr ⟨(zsi (by rw [hc]; rfl)), fun _ hz => absurd hz List.not_mem_nil⟩⟩⟩) (ih (it + 1) _ _ _ (by omega) (by omega) (tE_le hip.1) hUN (rl_tr (rl_tr rq r2) r3) k3 b3 (hS.symm.trans q5))
