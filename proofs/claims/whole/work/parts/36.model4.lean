/-- what a finding does: to the counts, to the answer -/
def fR (R : zT) (f : Nat) : zT := if f < 7 then ts R 2 f (R 2 f + 1) else R
def fr (f : Nat) (r : Int32) : Int32 := if f < 7 then -1000001 - nI f else r
theorem row_mw {g : Nat → zE} {T R : zT} : zM 0 M_X4_row [.ref 38, .ref 40] (hR g T R) 46 none (hR g T (tr R 1 (mr T))) 46 0 0 := m_X4_row (by decide) (by decide) (by decide) rfl rfl (by rw [show zup (hR g T R) 40 (zI 79 (mr T)) = hR g T (tr R 1 (mr T)) from hR_row (j := 1) (by omega) rfl]; exact zH.rf)
theorem row_wm {g : Nat → zE} {T U R : zT} (h : R 1 = mr T) : zM 0 M_X4_row [.ref 40, .ref 38] (hR g U R) 46 none (hR g T R) 46 0 0 := m_X4_row (by decide) (by decide) (by decide) rfl rfl (by rw [hR_mu h.symm]; exact zH.rf)
theorem row_mk {g : Nat → zE} {T R : zT} : zM 0 M_X4_row [.ref 38, .ref 39] (hR g T R) 46 none (hR g T (tr R 0 (mr T))) 46 0 0 := m_X4_row (by decide) (by decide) (by decide) rfl rfl (by rw [show zup (hR g T R) 39 (zI 79 (mr T)) = hR g T (tr R 0 (mr T)) from hR_row (j := 0) (by omega) rfl]; exact zH.rf)
theorem row_km {g : Nat → zE} {T U R : zT} (h : R 0 = mr T) : zM 0 M_X4_row [.ref 39, .ref 38] (hR g U R) 46 none (hR g T R) 46 0 0 := m_X4_row (by decide) (by decide) (by decide) rfl rfl (by rw [hR_mu h.symm]; exact zH.rf)
/-- tries: with one rule otherwise -/
def trU (T : zT) (k : Nat) (v : Int32) (N K : Nat) : zT := wks N K (ts T 7 k v)
def trR (T R : zT) (k : Nat) (v : Int32) (N K : Nat) : zT := ts (ts (tr R 1 (mr T)) 7 1 (trU T k v N K 7 6 - mr T 6)) 7 2 (sumW (trU T k v N K 4) N - sumW (T 4) N)

set_option maxRecDepth 100000 in
set_option maxHeartbeats 4000000 in
theorem m_X4_tries {g : Nat → zE} {T R : zT} {N : Nat} (hN : wN T N) {k : Nat} (hk : k < 8) {v : Int32} (hL : wL (ts T 7 k v)) {K : Nat} (hK : K ≤ 60) : zM 7 M_X4_tries [.ref 37, .int (nI K), .int (nI k), .int v] (hR g T R) 46 (some (.int (wkc N (ts T 7 k v) K))) (hR g T (trR T R k v N K)) 46 0 0 := by
  refine zM.intro (by decide) (Nat.le_of_ble_eq_true rfl) ?_
  intro Wf V m H0 Γ ρ
  replace Γ : zC Wf V m 6 H0 cX4_tries RX4 7 0 0 := Γ
  show zX Wf V m 6 H0 0 (zls [(0, .ref 37), (1, .int (nI K)), (2, .int (nI k)), (3, .int v)]) [] (hR g T R) 46 0 0
  have hN2 := hN.2
  have hN3 : wN (ts T 7 k v) N := wN_of (ts_i (by omega)) hN
  refine x_aload_n Γ dX4_tries_0 rfl ?_
  refine gf_X4_9 Γ dX4_tries_1 (by decide) rfl rfl ?_
  refine x_aload_n Γ dX4_tries_4 rfl ?_
  refine gf_X4_16 Γ dX4_tries_5 (by decide) rfl rfl ?_
  refine x_callSv Γ cals_X4_row wl_X4_123 dX4_tries_8 (row_mw (g := g) (T := T) (R := R)) rfl (by decide) rfl (Nat.le_of_ble_eq_true rfl) (Nat.le_refl _) (Nat.le_refl _) ?_
  refine x_aload_n Γ dX4_tries_11 rfl ?_
  refine gf_X4_9 Γ dX4_tries_12 (by decide) rfl rfl ?_
  refine x_iload_n Γ dX4_tries_15 rfl ?_
  refine x_iload_n Γ dX4_tries_16 rfl ?_
  refine x_iast Γ dX4_tries_17 (by decide) (by rfl) rfl (by first | assumption | omega) (by decide) (hR_ms (by omega)) ?_
  refine x_aload_n Γ dX4_tries_18 rfl ?_
  refine x_iconst Γ (v := 4) dX4_tries_19 rfl ?_
  refine x_callV Γ calv_X4_sum wl_X4_161 dX4_tries_20 (m_X4_sum (g := g) (T := ts T 7 k v) (R := tr R 1 (mr T)) (w := 4) hN3 (by decide)) rfl (by decide) (by decide) rfl rfl rfl rfl (Nat.le_of_ble_eq_true rfl) (Nat.le_refl _) (Nat.le_refl _) ?_
  rw [ts_n (show 4 ≠ 7 by decide)]
  refine x_istore Γ dX4_tries_23 (by decide) ?_
  refine x_aload_n Γ dX4_tries_25 rfl ?_
  refine x_iload_n Γ dX4_tries_26 rfl ?_
  refine x_callV Γ calv_X4_goes wl_X4_158 dX4_tries_27 (m_X4_goes (g := g) (T := ts T 7 k v) (R := tr R 1 (mr T)) hN3 hL hK) rfl (by decide) (by decide) rfl rfl rfl rfl (Nat.le_of_ble_eq_true rfl) (Nat.le_refl _) (Nat.le_refl _) ?_
  refine x_istore Γ dX4_tries_30 (by decide) ?_
  refine x_aload_n Γ dX4_tries_32 rfl ?_
  refine x_aload_n Γ dX4_tries_33 rfl ?_
  refine gf_X4_9 Γ dX4_tries_34 (by decide) rfl rfl ?_
  refine x_bipush Γ (v := 6) dX4_tries_37 rfl ?_
  refine x_iald Γ dX4_tries_39 (by decide) (by rfl) (j := 6) rfl (by decide) (by decide) (mr_s (by decide)) ?_
  refine x_aload_n Γ dX4_tries_40 rfl ?_
  refine gf_X4_16 Γ dX4_tries_41 (by decide) rfl rfl ?_
  refine x_bipush Γ (v := 6) dX4_tries_44 rfl ?_
  refine x_iald Γ dX4_tries_46 (by decide) (by rfl) (j := 6) rfl (by decide) (by decide) rfl ?_
  refine x_isub Γ dX4_tries_47 ?_
  refine pf_X4_167 Γ dX4_tries_48 (by decide) rfl (Nat.le_of_ble_eq_true rfl) (hR_uO (k := 1) rfl) ?_
  refine x_aload_n Γ dX4_tries_51 rfl ?_
  refine x_aload_n Γ dX4_tries_52 rfl ?_
  refine x_iconst Γ (v := 4) dX4_tries_53 rfl ?_
  refine x_callV Γ calv_X4_sum wl_X4_161 dX4_tries_54 (m_X4_sum (g := g) (T := (wks N K (ts T 7 k v))) (R := ts (tr R 1 (mr T)) 7 1 ((wks N K (ts T 7 k v)) 7 6 - mr T 6)) (w := 4) (wks_N hN3 K) (by decide)) rfl (by decide) (by decide) rfl rfl rfl rfl (Nat.le_of_ble_eq_true rfl) (Nat.le_refl _) (Nat.le_refl _) ?_
  refine x_iload Γ dX4_tries_57 rfl ?_
  refine x_isub Γ dX4_tries_59 ?_
  refine pf_X4_171 Γ dX4_tries_60 (by decide) rfl (Nat.le_of_ble_eq_true rfl) (hR_uO (k := 2) rfl) ?_
  refine x_aload_n Γ dX4_tries_63 rfl ?_
  refine gf_X4_16 Γ dX4_tries_64 (by decide) rfl rfl ?_
  refine x_aload_n Γ dX4_tries_67 rfl ?_
  refine gf_X4_9 Γ dX4_tries_68 (by decide) rfl rfl ?_
  refine x_callSv Γ cals_X4_row wl_X4_123 dX4_tries_71 (row_wm (g := g) (T := T) (U := (wks N K (ts T 7 k v))) (R := trR T R k v N K) (by rw [trR, ts_n (by decide), ts_n (by decide), tr_s])) rfl (by decide) rfl (Nat.le_of_ble_eq_true rfl) (Nat.le_refl _) (Nat.le_refl _) ?_
  refine x_iload Γ dX4_tries_74 rfl ?_
  exact x_iret ρ rfl dX4_tries_76 rfl (rfl) rfl (zH.rf)

set_option maxRecDepth 100000 in
set_option maxHeartbeats 4000000 in
theorem m_X4_ofThen {g : Nat → zE} {T R : zT} {N : Nat} (hN : wN T N) {c w e : Nat} (hc : c < N) (hw : w < 6) (he : e < 6) {v : Int32} (hL : wL T) {K : Nat} (hK : K ≤ 60) : zM 7 M_X4_ofThen [.ref 37, .int (nI c), .int (nI K), .int (nI w), .int v, .int (nI e)] (hR g T R) 46 (some (.int ((wks N K (ts T w c v)) e c))) (hR g T (tr R 1 (mr T))) 46 0 0 := by
  refine zM.intro (by decide) (Nat.le_of_ble_eq_true rfl) ?_
  intro Wf V m H0 Γ ρ
  replace Γ : zC Wf V m 7 H0 cX4_ofThen RX4 7 0 0 := Γ
  show zX Wf V m 7 H0 0 (zls [(0, .ref 37), (1, .int (nI c)), (2, .int (nI K)), (3, .int (nI w)), (4, .int v), (5, .int (nI e))]) [] (hR g T R) 46 0 0
  have hN2 := hN.2
  have hN3 : wN (ts T w c v) N := wN_of (by rw [ts_n (by omega)]) hN
  have hL3 : wL (ts T w c v) := wL_of (by rw [ts_n (by omega)]) (by rw [ts_n (by omega)]) hL
  refine x_aload_n Γ dX4_ofThen_0 rfl ?_
  refine gf_X4_9 Γ dX4_ofThen_1 (by decide) rfl rfl ?_
  refine x_aload_n Γ dX4_ofThen_4 rfl ?_
  refine gf_X4_16 Γ dX4_ofThen_5 (by decide) rfl rfl ?_
  refine x_callSv Γ cals_X4_row wl_X4_123 dX4_ofThen_8 (row_mw (g := g) (T := T) (R := R)) rfl (by decide) rfl (Nat.le_of_ble_eq_true rfl) (Nat.le_refl _) (Nat.le_refl _) ?_
  refine x_aload_n Γ dX4_ofThen_11 rfl ?_
  refine x_iload_n Γ dX4_ofThen_12 rfl ?_
  refine x_iload_n Γ dX4_ofThen_13 rfl ?_
  refine x_iload Γ dX4_ofThen_14 rfl ?_
  refine x_callVv Γ calv_X4_makes wl_X4_50 dX4_ofThen_16 (m_X4_makes (g := g) (T := T) (R := tr R 1 (mr T)) (c := c) (w := w) (by omega) hw v) rfl (by decide) (by decide) rfl rfl rfl rfl (Nat.le_of_ble_eq_true rfl) (Nat.le_refl _) (Nat.le_refl _) ?_
  refine x_aload_n Γ dX4_ofThen_19 rfl ?_
  refine x_iload_n Γ dX4_ofThen_20 rfl ?_
  refine x_callV Γ calv_X4_goes wl_X4_158 dX4_ofThen_21 (m_X4_goes (g := g) (T := ts T w c v) (R := tr R 1 (mr T)) hN3 hL3 hK) rfl (by decide) (by decide) rfl rfl rfl rfl (Nat.le_of_ble_eq_true rfl) (Nat.le_refl _) (Nat.le_refl _) ?_
  refine x_pop Γ dX4_ofThen_24 rfl ?_
  refine x_aload_n Γ dX4_ofThen_25 rfl ?_
  refine x_iload_n Γ dX4_ofThen_26 rfl ?_
  refine x_iload Γ dX4_ofThen_27 rfl ?_
  refine x_callV Γ calv_X4_is wl_X4_63 dX4_ofThen_29 (m_X4_is (g := g) (T := (wks N K (ts T w c v))) (R := tr R 1 (mr T)) (c := c) (w := e) (by omega) he) rfl (by decide) (by decide) rfl rfl rfl rfl (Nat.le_of_ble_eq_true rfl) (Nat.le_refl _) (Nat.le_refl _) ?_
  refine x_istore Γ dX4_ofThen_32 (by decide) ?_
  refine x_aload_n Γ dX4_ofThen_34 rfl ?_
  refine gf_X4_16 Γ dX4_ofThen_35 (by decide) rfl rfl ?_
  refine x_aload_n Γ dX4_ofThen_38 rfl ?_
  refine gf_X4_9 Γ dX4_ofThen_39 (by decide) rfl rfl ?_
  refine x_callSv Γ cals_X4_row wl_X4_123 dX4_ofThen_42 (row_wm (g := g) (T := T) (U := (wks N K (ts T w c v))) (R := tr R 1 (mr T)) tr_s) rfl (by decide) rfl (Nat.le_of_ble_eq_true rfl) (Nat.le_refl _) (Nat.le_refl _) ?_
  refine x_iload Γ dX4_ofThen_45 rfl ?_
  exact x_iret ρ rfl dX4_ofThen_47 rfl (rfl) rfl (zH.rf)

set_option maxRecDepth 100000 in
set_option maxHeartbeats 4000000 in
theorem m_X4_orNone {g : Nat → zE} {T R : zT} (v : Int32) : zM 1 M_X4_orNone [.ref 37, .int v] (hR g T R) 46 (some (.int (if 0 ≤ v then v else -1000004))) (hR g T (if 0 ≤ v then R else fR R 3)) 46 0 0 := by
  refine zM.intro (by decide) (Nat.le_of_ble_eq_true rfl) ?_
  intro Wf V m H0 Γ ρ
  replace Γ : zC Wf V m 2 H0 cX4_orNone RX4 1 0 0 := Γ
  show zX Wf V m 2 H0 0 (zls [(0, .ref 37), (1, .int v)]) [] (hR g T R) 46 0 0
  refine x_iload_n Γ dX4_orNone_0 rfl ?_
  refine x_if_ge Γ (tgt := 13) dX4_orNone_1 (by decide) (fun c_1 => ?_) (fun c_1 => ?_)
  · refine x_iload_n Γ dX4_orNone_13 rfl ?_
    exact x_iret ρ rfl dX4_orNone_14 rfl (by simp [*]) rfl (by simp [fR, *]; exact zH.rf)
  · refine x_aload_n Γ dX4_orNone_4 rfl ?_
    refine x_ldc Γ wl_X4_35 dX4_orNone_5 ?_
    refine x_callV Γ calv_X4_finds wl_X4_36 dX4_orNone_7 (m_X4_finds (f := -1000004) (k := 3) (by decide) (by decide)) rfl (by decide) (by decide) rfl rfl rfl rfl (Nat.le_of_ble_eq_true rfl) (Nat.le_refl _) (Nat.le_refl _) ?_
    refine x_goto Γ (tgt := 14) dX4_orNone_10 (by decide) ?_
    exact x_iret ρ rfl dX4_orNone_14 rfl (by simp [*]) rfl (by simp [fR, *]; exact zH.rf)

def fCit (N : Nat) (x : Int32) : Nat := if isK x = false then 0 else if N = 10 then 1 else 7
def tCit (T : zT) (N : Nat) (x : Int32) : zT := if fCit N x = 7 then seT T N x else T
theorem se_co {T : zT} {N : Nat} {x : Int32} : ts (ts (ts (ts (ts (ts (ts T 7 8 (nI N + 1)) 0 N x) 1 N 3) 2 N 0) 3 N 10) 4 N 0) 5 N 0 = seT T N x := by
  unfold seT
  rw [nI_1, ts_comm (j := 7) (k := 0) (by decide), ts_comm (j := 7) (k := 1) (by decide), ts_comm (j := 7) (k := 2) (by decide), ts_comm (j := 7) (k := 3) (by decide), ts_comm (j := 7) (k := 4) (by decide), ts_comm (j := 7) (k := 5) (by decide)]

set_option maxRecDepth 100000 in
set_option maxHeartbeats 4000000 in
theorem m_X4_citizen {g : Nat → zE} {T R : zT} {N : Nat} (hN : wN T N) (x : Int32) : zM 2 M_X4_citizen [.ref 37, .int x] (hR g T R) 46 (some (.int (fr (fCit N x) (nI N)))) (hR g (tCit T N x) (fR R (fCit N x))) 46 0 0 := by
  refine zM.intro (by decide) (Nat.le_of_ble_eq_true rfl) ?_
  intro Wf V m H0 Γ ρ
  replace Γ : zC Wf V m 2 H0 cX4_citizen RX4 2 0 0 := Γ
  show zX Wf V m 2 H0 0 (zls [(0, .ref 37), (1, .int x)]) [] (hR g T R) 46 0 0
  have hN2 := hN.2
  refine x_iload_n Γ dX4_citizen_0 rfl ?_
  refine x_callS Γ cals_X4_isKind wl_X4_54 dX4_citizen_1 (m_X4_isKind x) rfl (by decide) rfl (Nat.le_of_ble_eq_true rfl) (Nat.le_refl _) (Nat.le_refl _) ?_
  refine x_if_ne Γ (tgt := 14) dX4_citizen_4 (by decide) (fun c_1 => ?_) (fun c_1 => ?_)
  · have c_1 := zb_n0.mp c_1
    refine x_aload_n Γ dX4_citizen_14 rfl ?_
    refine gf_X4_9 Γ dX4_citizen_15 (by decide) rfl rfl ?_
    refine x_bipush Γ (v := 8) dX4_citizen_18 rfl ?_
    refine x_iald Γ dX4_citizen_20 (by decide) (by rfl) (j := 8) rfl (by decide) (by decide) (mr_s (by decide)) ?_
    refine x_bipush Γ (v := 10) dX4_citizen_21 rfl ?_
    refine x_icmp_ne Γ (tgt := 35) dX4_citizen_23 (by decide) (fun c_2 => ?_) (fun c_2 => ?_)
    · have hNe : ¬ N = 10 := fun z => c_2 (by rw [hN.1, z]; rfl)
      refine x_aload_n Γ dX4_citizen_35 rfl ?_
      refine x_iload_n Γ dX4_citizen_36 rfl ?_
      refine x_iconst Γ (v := 3) dX4_citizen_37 rfl ?_
      refine x_iconst Γ (v := 0) dX4_citizen_38 rfl ?_
      refine x_bipush Γ (v := 10) dX4_citizen_39 rfl ?_
      refine x_iconst Γ (v := 0) dX4_citizen_41 rfl ?_
      refine x_callV Γ calv_X4_comes wl_X4_59 dX4_citizen_42 (m_X4_comes (g := g) (T := T) (R := R) hN (by omega) x 3 0 10 0) rfl (by decide) (by decide) rfl rfl rfl rfl (Nat.le_of_ble_eq_true rfl) (Nat.le_refl _) (Nat.le_refl _) ?_
      exact x_iret ρ rfl dX4_citizen_45 rfl (by simp [fCit, fr, *]; try rfl) rfl (by simp [fCit, tCit, fR, se_co, *]; exact zH.rf)
    · have hNe : N = 10 := (nI_eq (b := 10) (by omega) (by omega)).mp (hN.1.symm.trans c_2)
      refine x_aload_n Γ dX4_citizen_26 rfl ?_
      refine x_ldc Γ wl_X4_58 dX4_citizen_27 ?_
      refine x_callV Γ calv_X4_finds wl_X4_36 dX4_citizen_29 (m_X4_finds (f := -1000002) (k := 1) (by decide) (by decide)) rfl (by decide) (by decide) rfl rfl rfl rfl (Nat.le_of_ble_eq_true rfl) (Nat.le_refl _) (Nat.le_refl _) ?_
      refine x_goto Γ (tgt := 45) dX4_citizen_32 (by decide) ?_
      exact x_iret ρ rfl dX4_citizen_45 rfl (by simp [fCit, fr, *]; try rfl) rfl (by simp [fCit, tCit, fR, se_co, *]; exact zH.rf)
  · have c_1 := zb_0.mp c_1
    refine x_aload_n Γ dX4_citizen_7 rfl ?_
    refine x_ldc Γ wl_X4_34 dX4_citizen_8 ?_
    refine x_callV Γ calv_X4_finds wl_X4_36 dX4_citizen_10 (m_X4_finds (f := -1000001) (k := 0) (by decide) (by decide)) rfl (by decide) (by decide) rfl rfl rfl rfl (Nat.le_of_ble_eq_true rfl) (Nat.le_refl _) (Nat.le_refl _) ?_
    exact x_iret ρ rfl dX4_citizen_13 rfl (by simp [fCit, fr, *]; try rfl) rfl (by simp [fCit, tCit, fR, *]; exact zH.rf)

def fOne (T : zT) (c : Int32) : Nat := if hs T c = false then 0 else 7
def fOf (T : zT) (c w : Int32) : Nat := if hs T c = true ∧ inR w 0 7 = true then 7 else 0
def rOf (T : zT) (c w : Nat) : Int32 := if w < 6 then T w c else if w = 6 then lw T c else sw T c
