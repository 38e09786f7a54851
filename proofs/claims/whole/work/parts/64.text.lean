def txP (b : Nat → Int32) (L : Nat) : Nat → zT → Nat → Nat → Option zT × Nat
  | 0, _, _, _ => (none, 0)
  | f + 1, T, p, it =>
    if (itmP b L T (ci (T 7 8)) p).2.2 = true then (if tK b L (itmP b L T (ci (T 7 8)) p).2.1 = 3 then txP b L f (itmP b L T (ci (T 7 8)) p).1 (tE b L (itmP b L T (ci (T 7 8)) p).2.1) (it + 1) else if tK b L (itmP b L T (ci (T 7 8)) p).2.1 = 0 then (some (itmP b L T (ci (T 7 8)) p).1, it + 1) else (none, tS b L (itmP b L T (ci (T 7 8)) p).2.1)) else (none, tS b L (itmP b L T (ci (T 7 8)) p).2.1)
def rTx (q : Option zT × Nat) : Int32 := match q.1 with
  | some _ => nI q.2
  | none => -1 - nI q.2
def tTx (T : zT) (q : Option zT × Nat) : zT := q.1.getD T
theorem ci_N {T : zT} {N : Nat} (hN : wN T N) : ci (T 7 8) = N := by
  rw [hN.1]
  exact nI_clamp (by have := hN.2; omega)
theorem rul_N {b : Nat → Int32} {L : Nat} {T : zT} {w p : Nat} (hw : w ≠ 8) : (rulP b L T w p).1 7 8 = T 7 8 := by
  unfold rulP
  split
  · show ts T 7 w _ 7 8 = T 7 8
    exact ts_i hw.symm
  · rfl
theorem c4_N {b : Nat → Int32} {L : Nat} {T : zT} {N p : Nat} : (c4P b L T N p).1 7 = T 7 := by
  unfold c4P
  repeat' split
  · show ts T 5 N 1 7 = T 7
    exact ts_n (by decide)
  · show ts T 5 N 2 7 = T 7
    exact ts_n (by decide)
  · rfl
theorem cit_N {b : Nat → Int32} {L : Nat} {T : zT} {N : Nat} {kd : Int32} {p : Nat} (hN : wN T N) : ∃ M, wN (citP b L T N kd p).1 M := by
  have h2 := hN.2
  by_cases h : N = 10
  · exact ⟨N, by rw [citP, if_pos h]; exact hN⟩
  · have h1 := seT_N (kd := kd) hN (by omega)
    have e1 : (c1P b L T N kd p).1 7 8 = seT T N kd 7 8 := congrFun (rt_T (by decide)) 8
    have e2 : (c2P b L T N kd p).1 7 8 = seT T N kd 7 8 := (congrFun (rt_T (by decide)) 8).trans e1
    have e3 : (c3P b L T N kd p).1 7 8 = seT T N kd 7 8 := (congrFun (rt_T (by decide)) 8).trans e2
    refine ⟨N + 1, ?_⟩
    rw [citP, if_neg h]
    repeat' split
    · exact wN_of ((congrFun c4_N 8).trans e3) h1
    · exact wN_of e3 h1
    · exact wN_of e2 h1
    · exact wN_of e1 h1
theorem itm_N {b : Nat → Int32} {L : Nat} {T : zT} {N p : Nat} (hN : wN T N) : ∃ M, wN (itmP b L T N p).1 M := by
  unfold itmP
  repeat' split
  · exact ⟨N, wN_of (rul_N (by decide)) hN⟩
  · exact ⟨N, wN_of (rul_N (by decide)) hN⟩
  · exact ⟨N, wN_of (rul_N (by decide)) hN⟩
  · exact ⟨N, wN_of (rul_N (by decide)) hN⟩
  · exact ⟨N, wN_of (show ts T 7 4 1 7 8 = T 7 8 from ts_i (by decide)) hN⟩
  · exact ⟨N, wN_of (show ts T 7 4 0 7 8 = T 7 8 from ts_i (by decide)) hN⟩
  · exact ⟨N, hN⟩
  · exact cit_N hN

set_option maxRecDepth 100000 in
set_option maxHeartbeats 4000000 in
theorem m_X3_readItem {g : Nat → zE} {T T2 T3 R : zT} {X : Nat → Int32} {L p : Nat} (hL : L ≤ 120) (hp : p ≤ L) (eL : R 7 3 = nI L) (hX : tkX (R 3) L p X) {N : Nat} (hN : wN T2 N) : zMx 9 M_X3_readItem [.ref 0] (cW g T T2 T3 R X) 46 (some (.int (zb (itmP (R 3) L T2 N p).2.2))) (bQ g T (itmP (R 3) L T2 N p).1 T3 R L (itmP (R 3) L T2 N p).2.1) := by
  refine zMx.intro (by decide) (Nat.le_of_ble_eq_true rfl) ?_
  intro Wf V m H0 Γ ρ
  replace Γ : zC Wf V m 3 H0 cX3_readItem RX3 9 0 0 := Γ
  show zX Wf V m 3 H0 0 (zls [(0, .ref 0)]) [] (cW g T T2 T3 R X) 46 0 0
  have hN2 := hN.2
  refine x_aload_n Γ dX3_readItem_0 rfl ?_
  refine gf_X3_25 Γ dX3_readItem_1 (by decide) (by rfl) rfl ?_
  refine x_callV Γ calv_X2_kindTold wl_X3_296 dX3_readItem_4 (m_X2_kindTold (g := g) (T := T) (T2 := T2) (T3 := T3) (R := R) (X := X) hL hp hX) rfl (by decide) (by decide) (by rfl) rfl rfl rfl (Nat.le_of_ble_eq_true rfl) (Nat.le_refl _) (Nat.le_refl _) ?_
  refine x_istore_n Γ dX3_readItem_7 (by decide) ?_
  refine x_iload_n Γ dX3_readItem_8 rfl ?_
  refine x_callS Γ cals_X3_isKind wl_X3_44 dX3_readItem_9 (m_X3_isKind (kdF (R 3) L p 7 0)) rfl (by decide) rfl (Nat.le_of_ble_eq_true rfl) (Nat.le_refl _) (Nat.le_refl _) ?_
  rw [kd_K]
  refine x_if_eq Γ (tgt := 21) dX3_readItem_12 (by decide) (fun c_1 => ?_) (fun c_1 => ?_)
  · have c_1 := zb_0.mp c_1
    have hneg : kdF (R 3) L p 7 0 < 0 := by simpa using c_1
    refine x_aload_n Γ dX3_readItem_21 rfl ?_
    refine gf_X3_25 Γ dX3_readItem_22 (by decide) (by rfl) rfl ?_
    refine x_ldsw Γ (i := 12) (by decide) rfl rfl dX3_readItem_25 ?_
    refine x_callV Γ calv_X2_isWord wl_X3_303 dX3_readItem_28 (m_X2_isWord (g := g) (T := T) (T2 := T2) (T3 := T3) (R := R) (X := X) hL (hp) (hX) (i := 12) (by decide)) rfl (by decide) (by decide) (by rfl) rfl rfl rfl (Nat.le_of_ble_eq_true rfl) (Nat.le_refl _) (Nat.le_refl _) ?_
    refine x_if_eq Γ (tgt := 40) dX3_readItem_31 (by decide) (fun c_2 => ?_) (fun c_2 => ?_)
    · have c_2 := zb_0.mp c_2
      have w0 := c_2
      refine x_aload_n Γ dX3_readItem_40 rfl ?_
      refine gf_X3_25 Γ dX3_readItem_41 (by decide) (by rfl) rfl ?_
      refine x_ldsw Γ (i := 13) (by decide) rfl rfl dX3_readItem_44 ?_
      refine x_callV Γ calv_X2_isWord wl_X3_303 dX3_readItem_47 (m_X2_isWord (g := g) (T := T) (T2 := T2) (T3 := T3) (R := R) (X := X) hL (hp) (hX) (i := 13) (by decide)) rfl (by decide) (by decide) (by rfl) rfl rfl rfl (Nat.le_of_ble_eq_true rfl) (Nat.le_refl _) (Nat.le_refl _) ?_
      refine x_if_eq Γ (tgt := 59) dX3_readItem_50 (by decide) (fun c_3 => ?_) (fun c_3 => ?_)
      · have c_3 := zb_0.mp c_3
        have w1 := c_3
        refine x_aload_n Γ dX3_readItem_59 rfl ?_
        refine gf_X3_25 Γ dX3_readItem_60 (by decide) (by rfl) rfl ?_
        refine x_ldsw Γ (i := 14) (by decide) rfl rfl dX3_readItem_63 ?_
        refine x_callV Γ calv_X2_isWord wl_X3_303 dX3_readItem_66 (m_X2_isWord (g := g) (T := T) (T2 := T2) (T3 := T3) (R := R) (X := X) hL (hp) (hX) (i := 14) (by decide)) rfl (by decide) (by decide) (by rfl) rfl rfl rfl (Nat.le_of_ble_eq_true rfl) (Nat.le_refl _) (Nat.le_refl _) ?_
        refine x_if_eq Γ (tgt := 78) dX3_readItem_69 (by decide) (fun c_4 => ?_) (fun c_4 => ?_)
        · have c_4 := zb_0.mp c_4
          have w2 := c_4
          refine x_aload_n Γ dX3_readItem_78 rfl ?_
          refine gf_X3_25 Γ dX3_readItem_79 (by decide) (by rfl) rfl ?_
          refine x_ldsw Γ (i := 15) (by decide) rfl rfl dX3_readItem_82 ?_
          refine x_callV Γ calv_X2_isWord wl_X3_303 dX3_readItem_85 (m_X2_isWord (g := g) (T := T) (T2 := T2) (T3 := T3) (R := R) (X := X) hL (hp) (hX) (i := 15) (by decide)) rfl (by decide) (by decide) (by rfl) rfl rfl rfl (Nat.le_of_ble_eq_true rfl) (Nat.le_refl _) (Nat.le_refl _) ?_
          refine x_if_eq Γ (tgt := 97) dX3_readItem_88 (by decide) (fun c_5 => ?_) (fun c_5 => ?_)
          · have c_5 := zb_0.mp c_5
            have w3 := c_5
            refine x_aload_n Γ dX3_readItem_97 rfl ?_
            refine gf_X3_25 Γ dX3_readItem_98 (by decide) (by rfl) rfl ?_
            refine x_ldsw Γ (i := 16) (by decide) rfl rfl dX3_readItem_101 ?_
            refine x_callV Γ calv_X2_isWord wl_X3_303 dX3_readItem_104 (m_X2_isWord (g := g) (T := T) (T2 := T2) (T3 := T3) (R := R) (X := X) hL (hp) (hX) (i := 16) (by decide)) rfl (by decide) (by decide) (by rfl) rfl rfl rfl (Nat.le_of_ble_eq_true rfl) (Nat.le_refl _) (Nat.le_refl _) ?_
            refine x_istore_n Γ dX3_readItem_107 (by decide) ?_
            refine x_iload_n Γ dX3_readItem_108 rfl ?_
            refine x_if_ne Γ (tgt := 127) dX3_readItem_109 (by decide) (fun c_6 => ?_) (fun c_6 => ?_)
            · have c_6 := zb_n0.mp c_6
              have ws := c_6
              have hG : itmP (R 3) L T2 N p = (ts T2 7 4 1, (tE (R 3) L p), true) := (((((if_pos hneg).trans (if_neg (by rw [w0]; decide))).trans (if_neg (by rw [w1]; decide))).trans (if_neg (by rw [w2]; decide))).trans (if_neg (by rw [w3]; decide))).trans (if_pos c_6)
              refine x_aload_n Γ dX3_readItem_127 rfl ?_
              refine gf_X3_16 Γ dX3_readItem_128 (by decide) (by rfl) rfl ?_
              refine x_iload_n Γ dX3_readItem_131 rfl ?_
              refine x_if_eq Γ (tgt := 139) dX3_readItem_132 (by decide) (fun c_7 => ?_) (fun c_7 => ?_)
              · have c_7 := zb_0.mp c_7
                exact absurd (ws.symm.trans c_7) (by decide)
              · have c_7 := zb_n0.mp c_7
                refine x_iconst Γ (v := 1) dX3_readItem_135 rfl ?_
                refine x_goto Γ (tgt := 140) dX3_readItem_136 (by decide) ?_
                refine pf_X3_188 Γ dX3_readItem_140 (by decide) (by rfl) (Nat.le_of_ble_eq_true rfl) (cW_p9 (k := 4) rfl) ?_
                refine x_aload_n Γ dX3_readItem_143 rfl ?_
                refine gf_X3_25 Γ dX3_readItem_144 (by decide) (by rfl) rfl ?_
                refine x_callVxv Γ calv_X2_advance wl_X3_213 dX3_readItem_147 (m_X2_advance (g := g) (T := T) (T2 := ts T2 7 4 1) (T3 := T3) (R := R) hL eL (p := (tE (R 3) L p)) (tE_le hp) hX.2.1) rfl (by decide) (by decide) (by rfl) rfl rfl rfl (Nat.le_of_ble_eq_true rfl) (Nat.le_refl _) (Nat.le_refl _) (fun h_x hQ_x => ?_)
                obtain ⟨X1, rfl, hX1⟩ := hQ_x
                refine x_iconst Γ (v := 1) dX3_readItem_150 rfl ?_
                exact x_iretx ρ rfl dX3_readItem_151 (by first | exact zb_nz _ | rfl) (by rw [hG]; try rfl) (by rw [hG]; exact ⟨X1, rfl, hX1⟩)
            · have c_6 := zb_0.mp c_6
              have ws := c_6
              refine x_aload_n Γ dX3_readItem_112 rfl ?_
              refine gf_X3_25 Γ dX3_readItem_113 (by decide) (by rfl) rfl ?_
              refine x_ldsw Γ (i := 17) (by decide) rfl rfl dX3_readItem_116 ?_
              refine x_callV Γ calv_X2_isWord wl_X3_303 dX3_readItem_119 (m_X2_isWord (g := g) (T := T) (T2 := T2) (T3 := T3) (R := R) (X := X) hL (hp) (hX) (i := 17) (by decide)) rfl (by decide) (by decide) (by rfl) rfl rfl rfl (Nat.le_of_ble_eq_true rfl) (Nat.le_refl _) (Nat.le_refl _) ?_
              refine x_if_ne Γ (tgt := 127) dX3_readItem_122 (by decide) (fun c_8 => ?_) (fun c_8 => ?_)
              · have c_8 := zb_n0.mp c_8
                have hG : itmP (R 3) L T2 N p = (ts T2 7 4 0, (tE (R 3) L p), true) := ((((((if_pos hneg).trans (if_neg (by rw [w0]; decide))).trans (if_neg (by rw [w1]; decide))).trans (if_neg (by rw [w2]; decide))).trans (if_neg (by rw [w3]; decide))).trans (if_neg (by rw [ws]; decide))).trans (if_pos c_8)
                refine x_aload_n Γ dX3_readItem_127 rfl ?_
                refine gf_X3_16 Γ dX3_readItem_128 (by decide) (by rfl) rfl ?_
                refine x_iload_n Γ dX3_readItem_131 rfl ?_
                refine x_if_eq Γ (tgt := 139) dX3_readItem_132 (by decide) (fun c_9 => ?_) (fun c_9 => ?_)
                · have c_9 := zb_0.mp c_9
                  refine x_iconst Γ (v := 0) dX3_readItem_139 rfl ?_
                  refine pf_X3_188 Γ dX3_readItem_140 (by decide) (by rfl) (Nat.le_of_ble_eq_true rfl) (cW_p9 (k := 4) rfl) ?_
                  refine x_aload_n Γ dX3_readItem_143 rfl ?_
                  refine gf_X3_25 Γ dX3_readItem_144 (by decide) (by rfl) rfl ?_
                  refine x_callVxv Γ calv_X2_advance wl_X3_213 dX3_readItem_147 (m_X2_advance (g := g) (T := T) (T2 := ts T2 7 4 0) (T3 := T3) (R := R) hL eL (p := (tE (R 3) L p)) (tE_le hp) hX.2.1) rfl (by decide) (by decide) (by rfl) rfl rfl rfl (Nat.le_of_ble_eq_true rfl) (Nat.le_refl _) (Nat.le_refl _) (fun h_x hQ_x => ?_)
                  obtain ⟨X1, rfl, hX1⟩ := hQ_x
                  refine x_iconst Γ (v := 1) dX3_readItem_150 rfl ?_
                  exact x_iretx ρ rfl dX3_readItem_151 (by first | exact zb_nz _ | rfl) (by rw [hG]; try rfl) (by rw [hG]; exact ⟨X1, rfl, hX1⟩)
                · have c_9 := zb_n0.mp c_9
                  exact absurd (ws.symm.trans c_9) (by decide)
              · have c_8 := zb_0.mp c_8
                have hG : itmP (R 3) L T2 N p = (T2, p, false) := ((((((if_pos hneg).trans (if_neg (by rw [w0]; decide))).trans (if_neg (by rw [w1]; decide))).trans (if_neg (by rw [w2]; decide))).trans (if_neg (by rw [w3]; decide))).trans (if_neg (by rw [ws]; decide))).trans (if_neg (by rw [c_8]; decide))
                refine x_iconst Γ (v := 0) dX3_readItem_125 rfl ?_
                exact x_iretx ρ rfl dX3_readItem_126 (by first | exact zb_nz _ | rfl) (by rw [hG]; try rfl) (by rw [hG]; exact ⟨X, rfl, hX⟩)
          · have c_5 := zb_n0.mp c_5
            have hG : itmP (R 3) L T2 N p = rulP (R 3) L T2 3 p := ((((if_pos hneg).trans (if_neg (by rw [w0]; decide))).trans (if_neg (by rw [w1]; decide))).trans (if_neg (by rw [w2]; decide))).trans (if_pos c_5)
            refine x_aload_n Γ dX3_readItem_91 rfl ?_
            refine x_iconst Γ (v := 3) dX3_readItem_92 rfl ?_
            refine x_callVx Γ calv_X3_readRuling wl_X3_307 dX3_readItem_93 (m_X3_readRuling (g := g) (T := T) (T2 := T2) (T3 := T3) (R := R) (X := X) hL hp eL hX (w := 3) rfl) rfl (by decide) (by decide) (by rfl) rfl rfl rfl (Nat.le_of_ble_eq_true rfl) (Nat.le_refl _) (Nat.le_refl _) (fun h_x hQ_x => ?_)
            obtain ⟨X1, rfl, hX1⟩ := hQ_x
            exact x_iretx ρ rfl dX3_readItem_96 (by first | exact zb_nz _ | rfl) (by rw [hG]) (by rw [hG]; exact ⟨X1, rfl, hX1⟩)
        · have c_4 := zb_n0.mp c_4
          have hG : itmP (R 3) L T2 N p = rulP (R 3) L T2 2 p := (((if_pos hneg).trans (if_neg (by rw [w0]; decide))).trans (if_neg (by rw [w1]; decide))).trans (if_pos c_4)
          refine x_aload_n Γ dX3_readItem_72 rfl ?_
          refine x_iconst Γ (v := 2) dX3_readItem_73 rfl ?_
          refine x_callVx Γ calv_X3_readRuling wl_X3_307 dX3_readItem_74 (m_X3_readRuling (g := g) (T := T) (T2 := T2) (T3 := T3) (R := R) (X := X) hL hp eL hX (w := 2) rfl) rfl (by decide) (by decide) (by rfl) rfl rfl rfl (Nat.le_of_ble_eq_true rfl) (Nat.le_refl _) (Nat.le_refl _) (fun h_x hQ_x => ?_)
          obtain ⟨X1, rfl, hX1⟩ := hQ_x
          exact x_iretx ρ rfl dX3_readItem_77 (by first | exact zb_nz _ | rfl) (by rw [hG]) (by rw [hG]; exact ⟨X1, rfl, hX1⟩)
      · have c_3 := zb_n0.mp c_3
        have hG : itmP (R 3) L T2 N p = rulP (R 3) L T2 1 p := ((if_pos hneg).trans (if_neg (by rw [w0]; decide))).trans (if_pos c_3)
        refine x_aload_n Γ dX3_readItem_53 rfl ?_
        refine x_iconst Γ (v := 1) dX3_readItem_54 rfl ?_
        refine x_callVx Γ calv_X3_readRuling wl_X3_307 dX3_readItem_55 (m_X3_readRuling (g := g) (T := T) (T2 := T2) (T3 := T3) (R := R) (X := X) hL hp eL hX (w := 1) rfl) rfl (by decide) (by decide) (by rfl) rfl rfl rfl (Nat.le_of_ble_eq_true rfl) (Nat.le_refl _) (Nat.le_refl _) (fun h_x hQ_x => ?_)
        obtain ⟨X1, rfl, hX1⟩ := hQ_x
        exact x_iretx ρ rfl dX3_readItem_58 (by first | exact zb_nz _ | rfl) (by rw [hG]) (by rw [hG]; exact ⟨X1, rfl, hX1⟩)
    · have c_2 := zb_n0.mp c_2
      have hG : itmP (R 3) L T2 N p = rulP (R 3) L T2 0 p := (if_pos hneg).trans (if_pos c_2)
      refine x_aload_n Γ dX3_readItem_34 rfl ?_
      refine x_iconst Γ (v := 0) dX3_readItem_35 rfl ?_
      refine x_callVx Γ calv_X3_readRuling wl_X3_307 dX3_readItem_36 (m_X3_readRuling (g := g) (T := T) (T2 := T2) (T3 := T3) (R := R) (X := X) hL hp eL hX (w := 0) rfl) rfl (by decide) (by decide) (by rfl) rfl rfl rfl (Nat.le_of_ble_eq_true rfl) (Nat.le_refl _) (Nat.le_refl _) (fun h_x hQ_x => ?_)
      obtain ⟨X1, rfl, hX1⟩ := hQ_x
      exact x_iretx ρ rfl dX3_readItem_39 (by first | exact zb_nz _ | rfl) (by rw [hG]) (by rw [hG]; exact ⟨X1, rfl, hX1⟩)
  · have c_1 := zb_n0.mp c_1
    have hnn : ¬ kdF (R 3) L p 7 0 < 0 := by simpa using c_1
    have hG : itmP (R 3) L T2 N p = citP (R 3) L T2 N (kdF (R 3) L p 7 0) p := if_neg hnn
    refine x_aload_n Γ dX3_readItem_15 rfl ?_
    refine x_iload_n Γ dX3_readItem_16 rfl ?_
    refine x_callVx Γ calv_X3_readCitizen wl_X3_299 dX3_readItem_17 (m_X3_readCitizen (g := g) (T := T) (T2 := T2) (T3 := T3) (R := R) (X := X) hL hp eL hX hN (kdF (R 3) L p 7 0)) rfl (by decide) (by decide) (by rfl) rfl rfl rfl (Nat.le_of_ble_eq_true rfl) (Nat.le_refl _) (Nat.le_refl _) (fun h_x hQ_x => ?_)
    obtain ⟨X1, rfl, hX1⟩ := hQ_x
    exact x_iretx ρ rfl dX3_readItem_20 (by first | exact zb_nz _ | rfl) (by rw [hG]) (by rw [hG]; exact ⟨X1, rfl, hX1⟩)

set_option maxRecDepth 100000 in
set_option maxHeartbeats 4000000 in
theorem m_X3_text {g : Nat → zE} {T T2 T3 R : zT} {X : Nat → Int32} {L : Nat} (hL : L ≤ 120) (eL : R 7 3 = nI L) {N : Nat} (hN : wN T N) : zMx 10 M_X3_text [.ref 0] (cW g T T2 T3 R X) 46 (some (.int (rTx (txP (R 3) L 121 T 0 0)))) (cQ g (tTx T (txP (R 3) L 121 T 0 0)) T3 (ts R 7 3 0)) := by
  refine zMx.intro (by decide) (Nat.le_of_ble_eq_true rfl) ?_
  intro Wf V m H0 Γ ρ
  replace Γ : zC Wf V m 5 H0 cX3_text RX3 10 0 0 := Γ
  show zX Wf V m 5 H0 0 (zls [(0, .ref 0)]) [] (cW g T T2 T3 R X) 46 0 0
  refine x_aload_n Γ dX3_text_0 rfl ?_
  refine gf_X3_16 Γ dX3_text_1 (by decide) (by rfl) rfl ?_
  refine x_aload_n Γ dX3_text_4 rfl ?_
  refine gf_X3_10 Γ dX3_text_5 (by decide) (by rfl) rfl ?_
  refine x_callVv Γ calv_X0_become wl_X3_131 dX3_text_8 (bec91) rfl (by decide) (by decide) (by rfl) rfl rfl rfl (Nat.le_of_ble_eq_true rfl) (Nat.le_refl _) (Nat.le_refl _) ?_
  refine x_aload_n Γ dX3_text_11 rfl ?_
  refine gf_X3_25 Γ dX3_text_12 (by decide) (by rfl) rfl ?_
  refine x_callVv Γ calv_X2_rewind wl_X3_210 dX3_text_15 (m_X2_rewind (g := g) (T := T) (T2 := T) (T3 := T3) (R := R) (X := X)) rfl (by decide) (by decide) (by rfl) rfl rfl rfl (Nat.le_of_ble_eq_true rfl) (Nat.le_refl _) (Nat.le_refl _) ?_
  refine x_iconst Γ (v := 0) dX3_text_18 rfl ?_
  refine x_istore_n Γ dX3_text_19 (by decide) ?_
  refine x_iconst Γ (v := 1) dX3_text_20 rfl ?_
  refine x_istore_n Γ dX3_text_21 (by decide) ?_
  refine x_iconst Γ (v := 1) dX3_text_22 rfl ?_
  refine x_istore_n Γ dX3_text_23 (by decide) ?_
  refine x_iconst Γ (v := 0) dX3_text_24 rfl ?_
  refine x_istore Γ dX3_text_25 (by decide) ?_
  suffices L_27 : ∀ (k it p : Nat) (U : zT) (Y : Nat → Int32), 121 - it < k → it ≤ p → p ≤ L → (∃ M, wN U M) → Y 1 = nI p → txP (R 3) L (121 - it) U p it = txP (R 3) L 121 T 0 0 → zX Wf V m 5 H0 27 (zls [(0, .ref 0), (1, .int (nI it)), (2, .int 1), (3, .int 1), (4, .int (nI it))]) [] (cW g T U T3 R Y) 46 0 0 by
    exact x_subl [(0, .ref 0), (1, .int (nI 0)), (2, .int 1), (3, .int 1), (4, .int (nI 0))] (List.forall_mem_cons.mpr ⟨rfl, List.forall_mem_cons.mpr ⟨rfl, List.forall_mem_cons.mpr ⟨rfl, List.forall_mem_cons.mpr ⟨rfl, List.forall_mem_cons.mpr ⟨rfl, fun _ hz => absurd hz List.not_mem_nil⟩⟩⟩⟩⟩) (L_27 122 0 0 T _ (by omega) (Nat.le_refl _) (Nat.zero_le _) ⟨N, hN⟩ (by rw [upd_n (by decide), upd_s]; exact nI_0.symm) rfl)
  intro k
  induction k with
  | zero => intro it p U Y q1; omega
  | succ k ih =>
    intro it p U Y q1 q2 q3 q4 y1 q5
    obtain ⟨M, hM⟩ := q4
    have hcM := ci_N hM
    refine x_iload Γ dX3_text_27 rfl ?_
    refine x_bipush Γ (v := 120) dX3_text_29 rfl ?_
    refine x_icmp_gt Γ (tgt := 84) dX3_text_31 (by decide) (fun c_1 => ?_) (fun c_1 => ?_)
    · have c_1 := z_lt (a := 120) c_1 (by omega) (by omega)
      exfalso
      omega
    · refine x_iload_n Γ dX3_text_34 rfl ?_
      refine x_if_eq Γ (tgt := 84) dX3_text_35 (by decide) (fun c_2 => ?_) (fun c_2 => ?_)
      · exact absurd c_2 (by decide)
      · refine x_iload_n Γ dX3_text_38 rfl ?_
        refine x_if_eq Γ (tgt := 84) dX3_text_39 (by decide) (fun c_3 => ?_) (fun c_3 => ?_)
        · exact absurd c_3 (by decide)
        · refine x_aload_n Γ dX3_text_42 rfl ?_
          refine gf_X3_25 Γ dX3_text_43 (by decide) (by rfl) rfl ?_
          refine x_callVxv Γ calv_X2_advance wl_X3_213 dX3_text_46 (m_X2_advance (g := g) (T := T) (T2 := U) (T3 := T3) (R := R) (X := Y) hL eL (p := p) q3 y1) rfl (by decide) (by decide) (by rfl) rfl rfl rfl (Nat.le_of_ble_eq_true rfl) (Nat.le_refl _) (Nat.le_refl _) (fun h_x hQ_x => ?_)
          obtain ⟨X1, rfl, hX1⟩ := hQ_x
          refine x_aload_n Γ dX3_text_49 rfl ?_
          refine x_callVx Γ calv_X3_readItem wl_X3_216 dX3_text_50 (m_X3_readItem (g := g) (T := T) (T2 := U) (T3 := T3) (R := R) (X := X1) hL q3 eL hX1 (N := ci (U 7 8)) (hcM ▸ hM)) rfl (by decide) (by decide) (by rfl) rfl rfl rfl (Nat.le_of_ble_eq_true rfl) (Nat.le_refl _) (Nat.le_refl _) (fun h_x hQ_x => ?_)
          obtain ⟨X2, rfl, hX2⟩ := hQ_x
          have hip := itm_p (b := R 3) (L := L) (T := U) (N := ci (U 7 8)) (p := p) q3
          have hsg := tS_ge (b := R 3) (L := L) (p := (itmP (R 3) L U (ci (U 7 8)) p).2.1)
          refine x_istore_n Γ dX3_text_53 (by decide) ?_
          refine x_iinc Γ dX3_text_54 rfl (by first | exact zinc _ | rfl) (by decide) ?_
          refine x_iload_n Γ dX3_text_57 rfl ?_
          refine x_if_eq Γ (tgt := 76) dX3_text_58 (by decide) (fun c_4 => ?_) (fun c_4 => ?_)
          · have c_4 := zb_0.mp c_4
            have hok : (itmP (R 3) L U (ci (U 7 8)) p).2.2 = false := c_4
            have hT : txP (R 3) L 121 T 0 0 = (none, tS (R 3) L (itmP (R 3) L U (ci (U 7 8)) p).2.1) := by
              rw [← q5, show 121 - it = (120 - it) + 1 by omega]
              exact if_neg (by rw [hok]; decide)
            refine x_iconst Γ (v := 0) dX3_text_76 rfl ?_
            refine x_istore_n Γ dX3_text_77 (by decide) ?_
            refine x_iinc Γ dX3_text_78 rfl (by first | exact zinc _ | rfl) (by decide) ?_
            refine x_goto Γ (tgt := 27) dX3_text_81 (by decide) ?_
            refine x_iload Γ dX3_text_27 rfl ?_
            refine x_bipush Γ (v := 120) dX3_text_29 rfl ?_
            refine x_icmp_gt Γ (tgt := 84) dX3_text_31 (by decide) (fun c_5 => ?_) (fun c_5 => ?_)
            · refine x_aload_n Γ dX3_text_84 rfl ?_
              refine gf_X3_25 Γ dX3_text_85 (by decide) (by rfl) rfl ?_
              
              refine gf_X3_223 Γ dX3_text_88 (by decide) (by rfl) rfl ?_
              refine x_istore Γ dX3_text_91 (by decide) ?_
              refine x_iload_n Γ dX3_text_93 rfl ?_
              refine x_if_eq Γ (tgt := 111) dX3_text_94 (by decide) (fun c_6 => ?_) (fun c_6 => ?_)
              · have c_6 := zb_0.mp c_6
                refine x_iconst Γ (v := 0) dX3_text_111 rfl ?_
                refine x_istore_n Γ dX3_text_112 (by decide) ?_
                refine x_aload_n Γ dX3_text_113 rfl ?_
                refine gf_X3_25 Γ dX3_text_114 (by decide) (by rfl) rfl ?_
                refine x_iconst Γ (v := 0) dX3_text_117 rfl ?_
                refine pf_X3_204 Γ dX3_text_118 (by decide) (by rfl) (Nat.le_of_ble_eq_true rfl) cW_l ?_
                refine x_iload_n Γ dX3_text_121 rfl ?_
                refine x_if_ne Γ (tgt := 130) dX3_text_122 (by decide) (fun c_7 => ?_) (fun c_7 => ?_)
                · exact absurd rfl c_7
                · refine x_iconst Γ (v := -1) dX3_text_125 rfl ?_
                  refine x_iload Γ dX3_text_126 rfl ?_
                  refine x_isub Γ dX3_text_128 ?_
                  exact x_iretx ρ rfl dX3_text_129 rfl (by rw [hT, hX2.1]; try rfl) (by rw [hT]; exact cQ_i rfl rfl vis_rf)
              · have c_6 := zb_n0.mp c_6
                rw [hok] at c_6
                exact absurd c_6 (by decide)
            · refine x_iload_n Γ dX3_text_34 rfl ?_
              refine x_if_eq Γ (tgt := 84) dX3_text_35 (by decide) (fun c_8 => ?_) (fun c_8 => ?_)
              · have c_8 := zb_0.mp c_8
                refine x_aload_n Γ dX3_text_84 rfl ?_
                refine gf_X3_25 Γ dX3_text_85 (by decide) (by rfl) rfl ?_
                
                refine gf_X3_223 Γ dX3_text_88 (by decide) (by rfl) rfl ?_
                refine x_istore Γ dX3_text_91 (by decide) ?_
                refine x_iload_n Γ dX3_text_93 rfl ?_
                refine x_if_eq Γ (tgt := 111) dX3_text_94 (by decide) (fun c_9 => ?_) (fun c_9 => ?_)
                · have c_9 := zb_0.mp c_9
                  refine x_iconst Γ (v := 0) dX3_text_111 rfl ?_
                  refine x_istore_n Γ dX3_text_112 (by decide) ?_
                  refine x_aload_n Γ dX3_text_113 rfl ?_
                  refine gf_X3_25 Γ dX3_text_114 (by decide) (by rfl) rfl ?_
                  refine x_iconst Γ (v := 0) dX3_text_117 rfl ?_
                  refine pf_X3_204 Γ dX3_text_118 (by decide) (by rfl) (Nat.le_of_ble_eq_true rfl) cW_l ?_
                  refine x_iload_n Γ dX3_text_121 rfl ?_
                  refine x_if_ne Γ (tgt := 130) dX3_text_122 (by decide) (fun c_10 => ?_) (fun c_10 => ?_)
                  · exact absurd rfl c_10
                  · refine x_iconst Γ (v := -1) dX3_text_125 rfl ?_
                    refine x_iload Γ dX3_text_126 rfl ?_
                    refine x_isub Γ dX3_text_128 ?_
                    exact x_iretx ρ rfl dX3_text_129 rfl (by rw [hT, hX2.1]; try rfl) (by rw [hT]; exact cQ_i rfl rfl vis_rf)
                · have c_9 := zb_n0.mp c_9
                  rw [hok] at c_9
                  exact absurd c_9 (by decide)
              · have c_8 := zb_n0.mp c_8
                rw [hok] at c_8
                exact absurd c_8 (by decide)
          · have c_4 := zb_n0.mp c_4
            have hok : (itmP (R 3) L U (ci (U 7 8)) p).2.2 = true := c_4
            refine x_aload_n Γ dX3_text_61 rfl ?_
            refine gf_X3_25 Γ dX3_text_62 (by decide) (by rfl) rfl ?_
            refine gf_X3_220 Γ dX3_text_65 (by decide) (by rfl) rfl ?_
            refine x_iconst Γ (v := 3) dX3_text_68 rfl ?_
            refine x_icmp_ne Γ (tgt := 76) dX3_text_69 (by decide) (fun c_11 => ?_) (fun c_11 => ?_)
            · rw [hX2.2.2.1] at c_11
              have h3 : ¬ tK (R 3) L (itmP (R 3) L U (ci (U 7 8)) p).2.1 = 3 := fun z => c_11 ((tk_eq (k := 3) (by omega)).mpr z)
              refine x_iconst Γ (v := 0) dX3_text_76 rfl ?_
              refine x_istore_n Γ dX3_text_77 (by decide) ?_
              refine x_iinc Γ dX3_text_78 rfl (by first | exact zinc _ | rfl) (by decide) ?_
              refine x_goto Γ (tgt := 27) dX3_text_81 (by decide) ?_
              refine x_iload Γ dX3_text_27 rfl ?_
              refine x_bipush Γ (v := 120) dX3_text_29 rfl ?_
              refine x_icmp_gt Γ (tgt := 84) dX3_text_31 (by decide) (fun c_12 => ?_) (fun c_12 => ?_)
              · refine x_aload_n Γ dX3_text_84 rfl ?_
                refine gf_X3_25 Γ dX3_text_85 (by decide) (by rfl) rfl ?_
                
                refine gf_X3_223 Γ dX3_text_88 (by decide) (by rfl) rfl ?_
                refine x_istore Γ dX3_text_91 (by decide) ?_
                refine x_iload_n Γ dX3_text_93 rfl ?_
                refine x_if_eq Γ (tgt := 111) dX3_text_94 (by decide) (fun c_13 => ?_) (fun c_13 => ?_)
                · have c_13 := zb_0.mp c_13
                  rw [hok] at c_13
                  exact absurd c_13 (by decide)
                · have c_13 := zb_n0.mp c_13
                  refine x_aload_n Γ dX3_text_97 rfl ?_
                  refine gf_X3_25 Γ dX3_text_98 (by decide) (by rfl) rfl ?_
                  refine gf_X3_220 Γ dX3_text_101 (by decide) (by rfl) rfl ?_
                  refine x_if_ne Γ (tgt := 111) dX3_text_104 (by decide) (fun c_14 => ?_) (fun c_14 => ?_)
                  · rw [hX2.2.2.1] at c_14
                    have h0 : ¬ tK (R 3) L (itmP (R 3) L U (ci (U 7 8)) p).2.1 = 0 := fun z => c_14 ((tk_eq (k := 0) (by omega)).mpr z)
                    have hT : txP (R 3) L 121 T 0 0 = (none, tS (R 3) L (itmP (R 3) L U (ci (U 7 8)) p).2.1) := by
                      rw [← q5, show 121 - it = (120 - it) + 1 by omega]
                      exact ((if_pos hok).trans (if_neg h3)).trans (if_neg h0)
                    refine x_iconst Γ (v := 0) dX3_text_111 rfl ?_
                    refine x_istore_n Γ dX3_text_112 (by decide) ?_
                    refine x_aload_n Γ dX3_text_113 rfl ?_
                    refine gf_X3_25 Γ dX3_text_114 (by decide) (by rfl) rfl ?_
                    refine x_iconst Γ (v := 0) dX3_text_117 rfl ?_
                    refine pf_X3_204 Γ dX3_text_118 (by decide) (by rfl) (Nat.le_of_ble_eq_true rfl) cW_l ?_
                    refine x_iload_n Γ dX3_text_121 rfl ?_
                    refine x_if_ne Γ (tgt := 130) dX3_text_122 (by decide) (fun c_15 => ?_) (fun c_15 => ?_)
                    · exact absurd rfl c_15
                    · refine x_iconst Γ (v := -1) dX3_text_125 rfl ?_
                      refine x_iload Γ dX3_text_126 rfl ?_
                      refine x_isub Γ dX3_text_128 ?_
                      exact x_iretx ρ rfl dX3_text_129 rfl (by rw [hT, hX2.1]; try rfl) (by rw [hT]; exact cQ_i rfl rfl vis_rf)
                  · rw [hX2.2.2.1] at c_14
                    have h0 := (tk_eq (k := 0) (by omega)).mp c_14
                    have hT : txP (R 3) L 121 T 0 0 = (some (itmP (R 3) L U (ci (U 7 8)) p).1, it + 1) := by
                      rw [← q5, show 121 - it = (120 - it) + 1 by omega]
                      exact ((if_pos hok).trans (if_neg h3)).trans (if_pos h0)
                    refine x_iconst Γ (v := 1) dX3_text_107 rfl ?_
                    refine x_goto Γ (tgt := 112) dX3_text_108 (by decide) ?_
                    refine x_istore_n Γ dX3_text_112 (by decide) ?_
                    refine x_aload_n Γ dX3_text_113 rfl ?_
                    refine gf_X3_25 Γ dX3_text_114 (by decide) (by rfl) rfl ?_
                    refine x_iconst Γ (v := 0) dX3_text_117 rfl ?_
                    refine pf_X3_204 Γ dX3_text_118 (by decide) (by rfl) (Nat.le_of_ble_eq_true rfl) cW_l ?_
                    refine x_iload_n Γ dX3_text_121 rfl ?_
                    refine x_if_ne Γ (tgt := 130) dX3_text_122 (by decide) (fun c_16 => ?_) (fun c_16 => ?_)
                    · refine x_aload_n Γ dX3_text_130 rfl ?_
                      refine gf_X3_10 Γ dX3_text_131 (by decide) (by rfl) rfl ?_
                      refine x_aload_n Γ dX3_text_134 rfl ?_
                      refine gf_X3_16 Γ dX3_text_135 (by decide) (by rfl) rfl ?_
                      refine x_callVv Γ calv_X0_become wl_X3_131 dX3_text_138 (bec19) rfl (by decide) (by decide) (by rfl) rfl rfl rfl (Nat.le_of_ble_eq_true rfl) (Nat.le_refl _) (Nat.le_refl _) ?_
                      refine x_iload_n Γ dX3_text_141 rfl ?_
                      exact x_iretx ρ rfl dX3_text_142 rfl (by rw [hT]; try rfl) (by rw [hT]; exact cQ_i rfl rfl vis_rf)
                    · exact absurd c_16 (by decide)
              · refine x_iload_n Γ dX3_text_34 rfl ?_
                refine x_if_eq Γ (tgt := 84) dX3_text_35 (by decide) (fun c_17 => ?_) (fun c_17 => ?_)
                · have c_17 := zb_0.mp c_17
                  rw [hok] at c_17
                  exact absurd c_17 (by decide)
                · have c_17 := zb_n0.mp c_17
                  refine x_iload_n Γ dX3_text_38 rfl ?_
                  refine x_if_eq Γ (tgt := 84) dX3_text_39 (by decide) (fun c_18 => ?_) (fun c_18 => ?_)
                  · refine x_aload_n Γ dX3_text_84 rfl ?_
                    refine gf_X3_25 Γ dX3_text_85 (by decide) (by rfl) rfl ?_
                    
                    refine gf_X3_223 Γ dX3_text_88 (by decide) (by rfl) rfl ?_
                    refine x_istore Γ dX3_text_91 (by decide) ?_
                    refine x_iload_n Γ dX3_text_93 rfl ?_
                    refine x_if_eq Γ (tgt := 111) dX3_text_94 (by decide) (fun c_19 => ?_) (fun c_19 => ?_)
                    · have c_19 := zb_0.mp c_19
                      rw [hok] at c_19
                      exact absurd c_19 (by decide)
                    · have c_19 := zb_n0.mp c_19
                      refine x_aload_n Γ dX3_text_97 rfl ?_
                      refine gf_X3_25 Γ dX3_text_98 (by decide) (by rfl) rfl ?_
                      refine gf_X3_220 Γ dX3_text_101 (by decide) (by rfl) rfl ?_
                      refine x_if_ne Γ (tgt := 111) dX3_text_104 (by decide) (fun c_20 => ?_) (fun c_20 => ?_)
                      · rw [hX2.2.2.1] at c_20
                        have h0 : ¬ tK (R 3) L (itmP (R 3) L U (ci (U 7 8)) p).2.1 = 0 := fun z => c_20 ((tk_eq (k := 0) (by omega)).mpr z)
                        have hT : txP (R 3) L 121 T 0 0 = (none, tS (R 3) L (itmP (R 3) L U (ci (U 7 8)) p).2.1) := by
                          rw [← q5, show 121 - it = (120 - it) + 1 by omega]
                          exact ((if_pos hok).trans (if_neg h3)).trans (if_neg h0)
                        refine x_iconst Γ (v := 0) dX3_text_111 rfl ?_
                        refine x_istore_n Γ dX3_text_112 (by decide) ?_
                        refine x_aload_n Γ dX3_text_113 rfl ?_
                        refine gf_X3_25 Γ dX3_text_114 (by decide) (by rfl) rfl ?_
                        refine x_iconst Γ (v := 0) dX3_text_117 rfl ?_
                        refine pf_X3_204 Γ dX3_text_118 (by decide) (by rfl) (Nat.le_of_ble_eq_true rfl) cW_l ?_
                        refine x_iload_n Γ dX3_text_121 rfl ?_
                        refine x_if_ne Γ (tgt := 130) dX3_text_122 (by decide) (fun c_21 => ?_) (fun c_21 => ?_)
                        · exact absurd rfl c_21
                        · refine x_iconst Γ (v := -1) dX3_text_125 rfl ?_
                          refine x_iload Γ dX3_text_126 rfl ?_
                          refine x_isub Γ dX3_text_128 ?_
                          exact x_iretx ρ rfl dX3_text_129 rfl (by rw [hT, hX2.1]; try rfl) (by rw [hT]; exact cQ_i rfl rfl vis_rf)
                      · rw [hX2.2.2.1] at c_20
                        have h0 := (tk_eq (k := 0) (by omega)).mp c_20
                        have hT : txP (R 3) L 121 T 0 0 = (some (itmP (R 3) L U (ci (U 7 8)) p).1, it + 1) := by
                          rw [← q5, show 121 - it = (120 - it) + 1 by omega]
                          exact ((if_pos hok).trans (if_neg h3)).trans (if_pos h0)
                        refine x_iconst Γ (v := 1) dX3_text_107 rfl ?_
                        refine x_goto Γ (tgt := 112) dX3_text_108 (by decide) ?_
                        refine x_istore_n Γ dX3_text_112 (by decide) ?_
                        refine x_aload_n Γ dX3_text_113 rfl ?_
                        refine gf_X3_25 Γ dX3_text_114 (by decide) (by rfl) rfl ?_
                        refine x_iconst Γ (v := 0) dX3_text_117 rfl ?_
                        refine pf_X3_204 Γ dX3_text_118 (by decide) (by rfl) (Nat.le_of_ble_eq_true rfl) cW_l ?_
                        refine x_iload_n Γ dX3_text_121 rfl ?_
                        refine x_if_ne Γ (tgt := 130) dX3_text_122 (by decide) (fun c_22 => ?_) (fun c_22 => ?_)
                        · refine x_aload_n Γ dX3_text_130 rfl ?_
                          refine gf_X3_10 Γ dX3_text_131 (by decide) (by rfl) rfl ?_
                          refine x_aload_n Γ dX3_text_134 rfl ?_
                          refine gf_X3_16 Γ dX3_text_135 (by decide) (by rfl) rfl ?_
                          refine x_callVv Γ calv_X0_become wl_X3_131 dX3_text_138 (bec19) rfl (by decide) (by decide) (by rfl) rfl rfl rfl (Nat.le_of_ble_eq_true rfl) (Nat.le_refl _) (Nat.le_refl _) ?_
                          refine x_iload_n Γ dX3_text_141 rfl ?_
                          exact x_iretx ρ rfl dX3_text_142 rfl (by rw [hT]; try rfl) (by rw [hT]; exact cQ_i rfl rfl vis_rf)
                        · exact absurd c_22 (by decide)
                  · exact absurd rfl c_18
            · rw [hX2.2.2.1] at c_11
              have h3 := (tk_eq (k := 3) (by omega)).mp c_11
              have hgt := tE_gt (b := R 3) (L := L) (p := (itmP (R 3) L U (ci (U 7 8)) p).2.1) (by omega)
              have hS : txP (R 3) L (121 - it) U p it = txP (R 3) L (121 - (it + 1)) (itmP (R 3) L U (ci (U 7 8)) p).1 (tE (R 3) L (itmP (R 3) L U (ci (U 7 8)) p).2.1) (it + 1) := by
                rw [show 121 - it = (120 - it) + 1 by omega, show 121 - (it + 1) = 120 - it by omega]
                exact (if_pos hok).trans (if_pos h3)
              refine x_iconst Γ (v := 1) dX3_text_72 rfl ?_
              refine x_goto Γ (tgt := 77) dX3_text_73 (by decide) ?_
              refine x_istore_n Γ dX3_text_77 (by decide) ?_
              refine x_iinc Γ dX3_text_78 rfl (by first | exact zinc _ | rfl) (by decide) ?_
              refine x_goto Γ (tgt := 27) dX3_text_81 (by decide) ?_
              exact x_subl [(0, .ref 0), (1, .int (nI (it + 1))), (2, .int 1), (3, .int 1), (4, .int (nI (it + 1)))] (List.forall_mem_cons.mpr ⟨rfl, List.forall_mem_cons.mpr ⟨rfl, List.forall_mem_cons.mpr ⟨(zsi (by rw [hok]; rfl)), List.forall_mem_cons.mpr ⟨rfl, List.forall_mem_cons.mpr ⟨rfl, fun _ hz => absurd hz List.not_mem_nil⟩⟩⟩⟩⟩) (ih (it + 1) _ _ _ (by omega) (by omega) (tE_le hip.1) (hcM ▸ itm_N hM) hX2.2.1 (hS.symm.trans q5))
