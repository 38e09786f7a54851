def fBuy (T : zT) (x y v : Int32) : Nat := if hs T x = true ∧ hs T y = true ∧ ¬ x = y ∧ inR v 1 99 = true then (if wtr T (ci x) (ci y) v = true then 7 else 4) else 0
def tBuy (T : zT) (x y v : Int32) : zT := if fBuy T x y v = 7 then trT T (ci x) (ci y) v else T
def prf (T : zT) (v : Int32) : Nat → Int32 := sumW (fun c => if T 5 c ≠ 0 ∧ sw T c < lw T c + v then 1 else 0)
/-- the least v from v0 on at which the price rests -/
def prS (T : zT) (N : Nat) (L : Int32) : Nat → Nat → Option Nat
  | 0, _ => none
  | k + 1, v => if prf T (nI v) N < L then prS T N L k (v + 1) else some v
def oR (o : Option Nat) : Int32 := match o with
  | some v => nI v
  | none => 0
def oF (o : Option Nat) (f : Nat) : Nat := match o with
  | some _ => 7
  | none => f
def fPri (T : zT) (N : Nat) : Nat := if setW T 2 N = 0 then 3 else oF (prS T N (many (setW T 1 N)) 100 0) 3
def rPri (T : zT) (N : Nat) : Int32 := oR (prS T N (many (setW T 1 N)) 100 0)
/-- weeks: what hinders -/
def fWk (T : zT) (n : Int32) : Nat := if inR n 1 60 = true then (if 999 < T 7 5 + n then 4 else 7) else 0

set_option maxRecDepth 100000 in
set_option maxHeartbeats 4000000 in
theorem m_X4_swap {g : Nat → zE} {T R : zT} {N : Nat} (hN : wN T N) (x y : Int32) : zM 3 M_X4_swap [.ref 37, .int x, .int y] (hR g T R) 46 (some (.int (fr (fSwp T x y) (1)))) (hR g (tSwp T x y) (fR R (fSwp T x y))) 46 0 0 := by
  refine zM.intro (by decide) (Nat.le_of_ble_eq_true rfl) ?_
  intro Wf V m H0 Γ ρ
  replace Γ : zC Wf V m 4 H0 cX4_swap RX4 3 0 0 := Γ
  show zX Wf V m 4 H0 0 (zls [(0, .ref 37), (1, .int x), (2, .int y)]) [] (hR g T R) 46 0 0
  have hN2 := hN.2
  refine x_aload_n Γ dX4_swap_0 rfl ?_
  refine x_iload_n Γ dX4_swap_1 rfl ?_
  refine x_callV Γ calv_X4_isOne wl_X4_67 dX4_swap_2 (m_X4_isOne (g := g) (T := T) (R := R) hN x) rfl (by decide) (by decide) rfl rfl rfl rfl (Nat.le_of_ble_eq_true rfl) (Nat.le_refl _) (Nat.le_refl _) ?_
  refine x_if_eq Γ (tgt := 21) dX4_swap_5 (by decide) (fun c_1 => ?_) (fun c_1 => ?_)
  · have c_1 := zb_0.mp c_1
    refine x_aload_n Γ dX4_swap_21 rfl ?_
    refine x_ldc Γ wl_X4_34 dX4_swap_22 ?_
    refine x_callV Γ calv_X4_finds wl_X4_36 dX4_swap_24 (m_X4_finds (f := -1000001) (k := 0) (by decide) (by decide)) rfl (by decide) (by decide) rfl rfl rfl rfl (Nat.le_of_ble_eq_true rfl) (Nat.le_refl _) (Nat.le_refl _) ?_
    exact x_iret ρ rfl dX4_swap_27 rfl (by simp [fr, fSwp, *]; try rfl) rfl (by simp [fR, fSwp, tSwp, *]; exact zH.rf)
  · have c_1 := zb_n0.mp c_1
    obtain ⟨j, hj, rfl⟩ := hs_in hN c_1
    have ej : ci (nI j) = j := nI_clamp (by omega)
    refine x_aload_n Γ dX4_swap_8 rfl ?_
    refine x_iload_n Γ dX4_swap_9 rfl ?_
    refine x_callV Γ calv_X4_isOne wl_X4_67 dX4_swap_10 (m_X4_isOne (g := g) (T := T) (R := R) hN y) rfl (by decide) (by decide) rfl rfl rfl rfl (Nat.le_of_ble_eq_true rfl) (Nat.le_refl _) (Nat.le_refl _) ?_
    refine x_if_eq Γ (tgt := 21) dX4_swap_13 (by decide) (fun c_2 => ?_) (fun c_2 => ?_)
    · have c_2 := zb_0.mp c_2
      refine x_aload_n Γ dX4_swap_21 rfl ?_
      refine x_ldc Γ wl_X4_34 dX4_swap_22 ?_
      refine x_callV Γ calv_X4_finds wl_X4_36 dX4_swap_24 (m_X4_finds (f := -1000001) (k := 0) (by decide) (by decide)) rfl (by decide) (by decide) rfl rfl rfl rfl (Nat.le_of_ble_eq_true rfl) (Nat.le_refl _) (Nat.le_refl _) ?_
      exact x_iret ρ rfl dX4_swap_27 rfl (by simp [fr, fSwp, *]; try rfl) rfl (by simp [fR, fSwp, tSwp, *]; exact zH.rf)
    · have c_2 := zb_n0.mp c_2
      obtain ⟨i, hi, rfl⟩ := hs_in hN c_2
      have ei : ci (nI i) = i := nI_clamp (by omega)
      refine x_iload_n Γ dX4_swap_16 rfl ?_
      refine x_iload_n Γ dX4_swap_17 rfl ?_
      refine x_icmp_ne Γ (tgt := 28) dX4_swap_18 (by decide) (fun c_3 => ?_) (fun c_3 => ?_)
      · refine x_aload_n Γ dX4_swap_28 rfl ?_
        refine x_iload_n Γ dX4_swap_29 rfl ?_
        refine x_iconst Γ (v := 5) dX4_swap_30 rfl ?_
        refine x_callV Γ calv_X4_is wl_X4_63 dX4_swap_31 (m_X4_is (g := g) (T := T) (R := R) (c := j) (w := 5) (by omega) (by decide)) rfl (by decide) (by decide) rfl rfl rfl rfl (Nat.le_of_ble_eq_true rfl) (Nat.le_refl _) (Nat.le_refl _) ?_
        refine x_aload_n Γ dX4_swap_34 rfl ?_
        refine x_iload_n Γ dX4_swap_35 rfl ?_
        refine x_iconst Γ (v := 5) dX4_swap_36 rfl ?_
        refine x_callV Γ calv_X4_is wl_X4_63 dX4_swap_37 (m_X4_is (g := g) (T := T) (R := R) (c := i) (w := 5) (by omega) (by decide)) rfl (by decide) (by decide) rfl rfl rfl rfl (Nat.le_of_ble_eq_true rfl) (Nat.le_refl _) (Nat.le_refl _) ?_
        refine x_iadd Γ dX4_swap_40 ?_
        refine x_iconst Γ (v := 3) dX4_swap_41 rfl ?_
        refine x_icmp_ne Γ (tgt := 65) dX4_swap_42 (by decide) (fun c_4 => ?_) (fun c_4 => ?_)
        · refine x_iconst Γ (v := 0) dX4_swap_65 rfl ?_
          refine x_istore_n Γ dX4_swap_66 (by decide) ?_
          refine x_iload_n Γ dX4_swap_67 rfl ?_
          refine x_if_ne Γ (tgt := 78) dX4_swap_68 (by decide) (fun c_5 => ?_) (fun c_5 => ?_)
          · exact absurd rfl c_5
          · refine x_aload_n Γ dX4_swap_71 rfl ?_
            refine x_ldc Γ wl_X4_109 dX4_swap_72 ?_
            refine x_callV Γ calv_X4_finds wl_X4_36 dX4_swap_74 (m_X4_finds (f := -1000005) (k := 4) (by decide) (by decide)) rfl (by decide) (by decide) rfl rfl rfl rfl (Nat.le_of_ble_eq_true rfl) (Nat.le_refl _) (Nat.le_refl _) ?_
            exact x_iret ρ rfl dX4_swap_77 rfl (by simp [fr, fSwp, *]; try rfl) rfl (by simp [fR, fSwp, tSwp, *]; exact zH.rf)
        · refine x_aload_n Γ dX4_swap_45 rfl ?_
          refine x_iload_n Γ dX4_swap_46 rfl ?_
          refine x_callV Γ calv_X4_wantsOther wl_X4_110 dX4_swap_47 (m_X4_wantsOther (g := g) (T := T) (R := R) (c := j) (by omega)) rfl (by decide) (by decide) rfl rfl rfl rfl (Nat.le_of_ble_eq_true rfl) (Nat.le_refl _) (Nat.le_refl _) ?_
          refine x_if_eq Γ (tgt := 65) dX4_swap_50 (by decide) (fun c_6 => ?_) (fun c_6 => ?_)
          · have c_6 := zb_0.mp c_6
            refine x_iconst Γ (v := 0) dX4_swap_65 rfl ?_
            refine x_istore_n Γ dX4_swap_66 (by decide) ?_
            refine x_iload_n Γ dX4_swap_67 rfl ?_
            refine x_if_ne Γ (tgt := 78) dX4_swap_68 (by decide) (fun c_7 => ?_) (fun c_7 => ?_)
            · exact absurd rfl c_7
            · refine x_aload_n Γ dX4_swap_71 rfl ?_
              refine x_ldc Γ wl_X4_109 dX4_swap_72 ?_
              refine x_callV Γ calv_X4_finds wl_X4_36 dX4_swap_74 (m_X4_finds (f := -1000005) (k := 4) (by decide) (by decide)) rfl (by decide) (by decide) rfl rfl rfl rfl (Nat.le_of_ble_eq_true rfl) (Nat.le_refl _) (Nat.le_refl _) ?_
              exact x_iret ρ rfl dX4_swap_77 rfl (by simp [fr, fSwp, *]; try rfl) rfl (by simp [fR, fSwp, tSwp, *]; exact zH.rf)
          · have c_6 := zb_n0.mp c_6
            refine x_aload_n Γ dX4_swap_53 rfl ?_
            refine x_iload_n Γ dX4_swap_54 rfl ?_
            refine x_callV Γ calv_X4_wantsOther wl_X4_110 dX4_swap_55 (m_X4_wantsOther (g := g) (T := T) (R := R) (c := i) (by omega)) rfl (by decide) (by decide) rfl rfl rfl rfl (Nat.le_of_ble_eq_true rfl) (Nat.le_refl _) (Nat.le_refl _) ?_
            refine x_if_eq Γ (tgt := 65) dX4_swap_58 (by decide) (fun c_8 => ?_) (fun c_8 => ?_)
            · have c_8 := zb_0.mp c_8
              refine x_iconst Γ (v := 0) dX4_swap_65 rfl ?_
              refine x_istore_n Γ dX4_swap_66 (by decide) ?_
              refine x_iload_n Γ dX4_swap_67 rfl ?_
              refine x_if_ne Γ (tgt := 78) dX4_swap_68 (by decide) (fun c_9 => ?_) (fun c_9 => ?_)
              · exact absurd rfl c_9
              · refine x_aload_n Γ dX4_swap_71 rfl ?_
                refine x_ldc Γ wl_X4_109 dX4_swap_72 ?_
                refine x_callV Γ calv_X4_finds wl_X4_36 dX4_swap_74 (m_X4_finds (f := -1000005) (k := 4) (by decide) (by decide)) rfl (by decide) (by decide) rfl rfl rfl rfl (Nat.le_of_ble_eq_true rfl) (Nat.le_refl _) (Nat.le_refl _) ?_
                exact x_iret ρ rfl dX4_swap_77 rfl (by simp [fr, fSwp, *]; try rfl) rfl (by simp [fR, fSwp, tSwp, *]; exact zH.rf)
            · have c_8 := zb_n0.mp c_8
              refine x_iconst Γ (v := 1) dX4_swap_61 rfl ?_
              refine x_goto Γ (tgt := 66) dX4_swap_62 (by decide) ?_
              refine x_istore_n Γ dX4_swap_66 (by decide) ?_
              refine x_iload_n Γ dX4_swap_67 rfl ?_
              refine x_if_ne Γ (tgt := 78) dX4_swap_68 (by decide) (fun c_10 => ?_) (fun c_10 => ?_)
              · refine x_aload_n Γ dX4_swap_78 rfl ?_
                refine x_iload_n Γ dX4_swap_79 rfl ?_
                refine x_iload_n Γ dX4_swap_80 rfl ?_
                refine x_callVv Γ calv_X4_changeTokens wl_X4_113 dX4_swap_81 (m_X4_changeTokens (g := g) (T := T) (R := R) (x := j) (y := i) (by omega) (by omega)) rfl (by decide) (by decide) rfl rfl rfl rfl (Nat.le_of_ble_eq_true rfl) (Nat.le_refl _) (Nat.le_refl _) ?_
                refine x_iconst Γ (v := 1) dX4_swap_84 rfl ?_
                exact x_iret ρ rfl dX4_swap_85 rfl (by simp [fr, fSwp, *]; try rfl) rfl (by simp [fR, fSwp, tSwp, *]; exact zH.rf)
              · exact absurd c_10 (by decide)
      · refine x_aload_n Γ dX4_swap_21 rfl ?_
        refine x_ldc Γ wl_X4_34 dX4_swap_22 ?_
        refine x_callV Γ calv_X4_finds wl_X4_36 dX4_swap_24 (m_X4_finds (f := -1000001) (k := 0) (by decide) (by decide)) rfl (by decide) (by decide) rfl rfl rfl rfl (Nat.le_of_ble_eq_true rfl) (Nat.le_refl _) (Nat.le_refl _) ?_
        exact x_iret ρ rfl dX4_swap_27 rfl (by simp [fr, fSwp, *]; try rfl) rfl (by simp [fR, fSwp, tSwp, *]; exact zH.rf)

def fW (T R : zT) (f : Nat) : zT := if f = 7 then tr R 1 (mr T) else fR R f
def fNxt (T : zT) (c : Int32) : Nat := if hs T c = true then (if 999 < T 7 5 + 1 then 4 else 7) else 0
def tWk (T : zT) (N : Nat) (n : Int32) : zT := if fWk T n = 7 then wks N (ci n) T else T
def fAhd (T : zT) (n w : Int32) : Nat := if inR n 0 60 = true ∧ inR w 0 (3 + T 7 8) = true then (if 999 < T 7 5 + n then 4 else 7) else 0
def rAhd (T : zT) (N : Nat) (n w : Int32) : Int32 := if w = 0 then wks N (ci n) T 7 6 - T 7 6 else if w = 1 then sumW (wks N (ci n) T 1) N else if w = 2 then sumW (wks N (ci n) T 4) N - sumW (T 4) N else if w = 3 then wkc N T (ci n) else wks N (ci n) T 1 (ci w - 4)
theorem inR_nI1 {x hi : Int32} {n : Nat} (h : inR x 1 hi = true) (hn : hi = nI n) (hn2 : n < 2 ^ 31) : ∃ j, 1 ≤ j ∧ j ≤ n ∧ x = nI j := by
  simp only [inR, Bool.and_eq_true, Bool.not_eq_true', decide_eq_false_iff_not] at h
  have h0 : ¬ x < 0 := fun z => h.1 (by
    simp only [Int32.lt_iff_toInt_lt, zlt_0, zlt_1] at z ⊢
    omega)
  obtain ⟨j, hj, rfl⟩ := nI_of h0
  rw [hn] at h
  exact ⟨j, z_nlt (b := 1) h.1 hj (by omega), z_nlt h.2 hn2 hj, rfl⟩

set_option maxRecDepth 100000 in
set_option maxHeartbeats 4000000 in
theorem m_X4_gates {g : Nat → zE} {T R : zT} {N : Nat} (hN : wN T N) : zM 5 M_X4_gates [.ref 37] (hR g T R) 46 (some (.int (nI (ogS T N N).2.2))) (hR g (ogS T N N).1 R) 46 0 0 := by
  refine zM.intro (by decide) (Nat.le_of_ble_eq_true rfl) ?_
  intro Wf V m H0 Γ ρ
  replace Γ : zC Wf V m 1 H0 cX4_gates RX4 5 0 0 := Γ
  show zX Wf V m 1 H0 0 (zls [(0, .ref 37)]) [] (hR g T R) 46 0 0
  refine x_aload_n Γ dX4_gates_0 rfl ?_
  refine x_callV Γ calv_X4_opens wl_X4_120 dX4_gates_1 (m_X4_opens (g := g) (T := T) (R := R) hN) rfl (by decide) (by decide) rfl rfl rfl rfl (Nat.le_of_ble_eq_true rfl) (Nat.le_refl _) (Nat.le_refl _) ?_
  exact x_iret ρ rfl dX4_gates_4 rfl (rfl) rfl (zH.rf)

set_option maxRecDepth 100000 in
set_option maxHeartbeats 4000000 in
theorem m_X4_changes {g : Nat → zE} {T R : zT} {N : Nat} (hN : wN T N) : zM 5 M_X4_changes [.ref 37] (hR g T R) 46 (some (.int (nI (ogS T N N).2.2))) (hR g T (tr R 1 (mr T))) 46 0 0 := by
  refine zM.intro (by decide) (Nat.le_of_ble_eq_true rfl) ?_
  intro Wf V m H0 Γ ρ
  replace Γ : zC Wf V m 2 H0 cX4_changes RX4 5 0 0 := Γ
  show zX Wf V m 2 H0 0 (zls [(0, .ref 37)]) [] (hR g T R) 46 0 0
  refine x_aload_n Γ dX4_changes_0 rfl ?_
  refine gf_X4_9 Γ dX4_changes_1 (by decide) rfl rfl ?_
  refine x_aload_n Γ dX4_changes_4 rfl ?_
  refine gf_X4_16 Γ dX4_changes_5 (by decide) rfl rfl ?_
  refine x_callSv Γ cals_X4_row wl_X4_123 dX4_changes_8 (row_mw (g := g) (T := T) (R := R)) rfl (by decide) rfl (Nat.le_of_ble_eq_true rfl) (Nat.le_refl _) (Nat.le_refl _) ?_
  refine x_aload_n Γ dX4_changes_11 rfl ?_
  refine x_callV Γ calv_X4_opens wl_X4_120 dX4_changes_12 (m_X4_opens (g := g) (T := T) (R := tr R 1 (mr T)) hN) rfl (by decide) (by decide) rfl rfl rfl rfl (Nat.le_of_ble_eq_true rfl) (Nat.le_refl _) (Nat.le_refl _) ?_
  refine x_istore_n Γ dX4_changes_15 (by decide) ?_
  refine x_aload_n Γ dX4_changes_16 rfl ?_
  refine gf_X4_16 Γ dX4_changes_17 (by decide) rfl rfl ?_
  refine x_aload_n Γ dX4_changes_20 rfl ?_
  refine gf_X4_9 Γ dX4_changes_21 (by decide) rfl rfl ?_
  refine x_callSv Γ cals_X4_row wl_X4_123 dX4_changes_24 (row_wm (g := g) (T := T) (U := (ogS T N N).1) (R := tr R 1 (mr T)) tr_s) rfl (by decide) rfl (Nat.le_of_ble_eq_true rfl) (Nat.le_refl _) (Nat.le_refl _) ?_
  refine x_iload_n Γ dX4_changes_27 rfl ?_
  exact x_iret ρ rfl dX4_changes_28 rfl (rfl) rfl (zH.rf)

set_option maxRecDepth 100000 in
set_option maxHeartbeats 4000000 in
theorem m_X4_mayBuy {g : Nat → zE} {T R : zT} {x y : Nat} (hx : x < 10) (hy : y < 10) (v : Int32) : zM 3 M_X4_mayBuy [.ref 37, .int (nI x), .int (nI y), .int v] (hR g T R) 46 (some (.int (zb (wtr T x y v)))) (hR g T R) 46 0 0 := by
  refine zM.intro (by decide) (Nat.le_of_ble_eq_true rfl) ?_
  intro Wf V m H0 Γ ρ
  replace Γ : zC Wf V m 5 H0 cX4_mayBuy RX4 3 0 0 := Γ
  show zX Wf V m 5 H0 0 (zls [(0, .ref 37), (1, .int (nI x)), (2, .int (nI y)), (3, .int v)]) [] (hR g T R) 46 0 0
  refine x_aload_n Γ dX4_mayBuy_0 rfl ?_
  refine x_iload_n Γ dX4_mayBuy_1 rfl ?_
  refine x_iconst Γ (v := 5) dX4_mayBuy_2 rfl ?_
  refine x_callV Γ calv_X4_is wl_X4_63 dX4_mayBuy_3 (m_X4_is (g := g) (T := T) (R := R) (c := y) (w := 5) (by omega) (by decide)) rfl (by decide) (by decide) rfl rfl rfl rfl (Nat.le_of_ble_eq_true rfl) (Nat.le_refl _) (Nat.le_refl _) ?_
  refine x_istore Γ dX4_mayBuy_6 (by decide) ?_
  refine x_aload_n Γ dX4_mayBuy_8 rfl ?_
  refine x_iload_n Γ dX4_mayBuy_9 rfl ?_
  refine x_iconst Γ (v := 5) dX4_mayBuy_10 rfl ?_
  refine x_callV Γ calv_X4_is wl_X4_63 dX4_mayBuy_11 (m_X4_is (g := g) (T := T) (R := R) (c := x) (w := 5) (by omega) (by decide)) rfl (by decide) (by decide) rfl rfl rfl rfl (Nat.le_of_ble_eq_true rfl) (Nat.le_refl _) (Nat.le_refl _) ?_
  refine x_if_ne Γ (tgt := 46) dX4_mayBuy_14 (by decide) (fun c_1 => ?_) (fun c_1 => ?_)
  · refine x_iconst Γ (v := 0) dX4_mayBuy_46 rfl ?_
    exact x_iret ρ rfl dX4_mayBuy_47 (by first | exact zb_nz _ | rfl) (by first | (simp [wtr, zb, *]; done) | (exfalso; simp_all; done) | (simp [wtr, zb, *]; simp only [Int32.lt_iff_toInt_lt, Int32.le_iff_toInt_le, zlt_0, zlt_1, zlt_2, zlt_3, zlt_4, zlt_5, zlt_6, zlt_7, zlt_8, zlt_9, zlt_10, zlt_11, zlt_12, zlt_30, zlt_39, zlt_40, zlt_59, zlt_60, zlt_61, zlt_98, zlt_99, zlt_100, zlt_119, zlt_120, zlt_998, zlt_999, zlt_9998, zlt_9999, zlt_m1] at *; omega)) rfl (zH.rf)
  · refine x_iload Γ dX4_mayBuy_17 rfl ?_
    refine x_if_eq Γ (tgt := 46) dX4_mayBuy_19 (by decide) (fun c_2 => ?_) (fun c_2 => ?_)
    · refine x_iconst Γ (v := 0) dX4_mayBuy_46 rfl ?_
      exact x_iret ρ rfl dX4_mayBuy_47 (by first | exact zb_nz _ | rfl) (by first | (simp [wtr, zb, *]; done) | (exfalso; simp_all; done) | (simp [wtr, zb, *]; simp only [Int32.lt_iff_toInt_lt, Int32.le_iff_toInt_le, zlt_0, zlt_1, zlt_2, zlt_3, zlt_4, zlt_5, zlt_6, zlt_7, zlt_8, zlt_9, zlt_10, zlt_11, zlt_12, zlt_30, zlt_39, zlt_40, zlt_59, zlt_60, zlt_61, zlt_98, zlt_99, zlt_100, zlt_119, zlt_120, zlt_998, zlt_999, zlt_9998, zlt_9999, zlt_m1] at *; omega)) rfl (zH.rf)
    · refine x_aload_n Γ dX4_mayBuy_22 rfl ?_
      refine x_iload_n Γ dX4_mayBuy_23 rfl ?_
      refine x_iconst Γ (v := 3) dX4_mayBuy_24 rfl ?_
      refine x_callV Γ calv_X4_is wl_X4_63 dX4_mayBuy_25 (m_X4_is (g := g) (T := T) (R := R) (c := x) (w := 3) (by omega) (by decide)) rfl (by decide) (by decide) rfl rfl rfl rfl (Nat.le_of_ble_eq_true rfl) (Nat.le_refl _) (Nat.le_refl _) ?_
      refine x_iload_n Γ dX4_mayBuy_28 rfl ?_
      refine x_icmp_lt Γ (tgt := 46) dX4_mayBuy_29 (by decide) (fun c_3 => ?_) (fun c_3 => ?_)
      · refine x_iconst Γ (v := 0) dX4_mayBuy_46 rfl ?_
        exact x_iret ρ rfl dX4_mayBuy_47 (by first | exact zb_nz _ | rfl) (by first | (simp [wtr, zb, *]; done) | (exfalso; simp_all; done) | (simp [wtr, zb, *]; simp only [Int32.lt_iff_toInt_lt, Int32.le_iff_toInt_le, zlt_0, zlt_1, zlt_2, zlt_3, zlt_4, zlt_5, zlt_6, zlt_7, zlt_8, zlt_9, zlt_10, zlt_11, zlt_12, zlt_30, zlt_39, zlt_40, zlt_59, zlt_60, zlt_61, zlt_98, zlt_99, zlt_100, zlt_119, zlt_120, zlt_998, zlt_999, zlt_9998, zlt_9999, zlt_m1] at *; omega)) rfl (zH.rf)
      · refine x_aload_n Γ dX4_mayBuy_32 rfl ?_
        refine x_iload_n Γ dX4_mayBuy_33 rfl ?_
        refine x_iconst Γ (v := 3) dX4_mayBuy_34 rfl ?_
        refine x_callV Γ calv_X4_is wl_X4_63 dX4_mayBuy_35 (m_X4_is (g := g) (T := T) (R := R) (c := y) (w := 3) (by omega) (by decide)) rfl (by decide) (by decide) rfl rfl rfl rfl (Nat.le_of_ble_eq_true rfl) (Nat.le_refl _) (Nat.le_refl _) ?_
        refine x_iload_n Γ dX4_mayBuy_38 rfl ?_
        refine x_iadd Γ dX4_mayBuy_39 ?_
        refine x_sipush Γ (v := 9999) dX4_mayBuy_40 rfl ?_
        refine x_icmp_le Γ (tgt := 48) dX4_mayBuy_43 (by decide) (fun c_4 => ?_) (fun c_4 => ?_)
        · refine x_aload_n Γ dX4_mayBuy_48 rfl ?_
          refine x_iload_n Γ dX4_mayBuy_49 rfl ?_
          refine x_iload Γ dX4_mayBuy_50 rfl ?_
          refine x_callV Γ calv_X4_worth wl_X4_127 dX4_mayBuy_52 (m_X4_worth (g := g) (T := T) (R := R) (c := y) (by omega) (T 5 y)) rfl (by decide) (by decide) rfl rfl rfl rfl (Nat.le_of_ble_eq_true rfl) (Nat.le_refl _) (Nat.le_refl _) ?_
          refine x_iload_n Γ dX4_mayBuy_55 rfl ?_
          refine x_icmp_ge Γ (tgt := 74) dX4_mayBuy_56 (by decide) (fun c_5 => ?_) (fun c_5 => ?_)
          · refine x_iconst Γ (v := 0) dX4_mayBuy_74 rfl ?_
            exact x_iret ρ rfl dX4_mayBuy_75 (by first | exact zb_nz _ | rfl) (by first | (simp [wtr, zb, *]; done) | (exfalso; simp_all; done) | (simp [wtr, zb, *]; simp only [Int32.lt_iff_toInt_lt, Int32.le_iff_toInt_le, zlt_0, zlt_1, zlt_2, zlt_3, zlt_4, zlt_5, zlt_6, zlt_7, zlt_8, zlt_9, zlt_10, zlt_11, zlt_12, zlt_30, zlt_39, zlt_40, zlt_59, zlt_60, zlt_61, zlt_98, zlt_99, zlt_100, zlt_119, zlt_120, zlt_998, zlt_999, zlt_9998, zlt_9999, zlt_m1] at *; omega)) rfl (zH.rf)
          · refine x_iload_n Γ dX4_mayBuy_59 rfl ?_
            refine x_aload_n Γ dX4_mayBuy_60 rfl ?_
            refine x_iload_n Γ dX4_mayBuy_61 rfl ?_
            refine x_iload Γ dX4_mayBuy_62 rfl ?_
            refine x_callV Γ calv_X4_worth wl_X4_127 dX4_mayBuy_64 (m_X4_worth (g := g) (T := T) (R := R) (c := x) (by omega) (T 5 y)) rfl (by decide) (by decide) rfl rfl rfl rfl (Nat.le_of_ble_eq_true rfl) (Nat.le_refl _) (Nat.le_refl _) ?_
            refine x_icmp_gt Γ (tgt := 74) dX4_mayBuy_67 (by decide) (fun c_6 => ?_) (fun c_6 => ?_)
            · refine x_iconst Γ (v := 0) dX4_mayBuy_74 rfl ?_
              exact x_iret ρ rfl dX4_mayBuy_75 (by first | exact zb_nz _ | rfl) (by first | (simp [wtr, zb, *]; done) | (exfalso; simp_all; done) | (simp [wtr, zb, *]; simp only [Int32.lt_iff_toInt_lt, Int32.le_iff_toInt_le, zlt_0, zlt_1, zlt_2, zlt_3, zlt_4, zlt_5, zlt_6, zlt_7, zlt_8, zlt_9, zlt_10, zlt_11, zlt_12, zlt_30, zlt_39, zlt_40, zlt_59, zlt_60, zlt_61, zlt_98, zlt_99, zlt_100, zlt_119, zlt_120, zlt_998, zlt_999, zlt_9998, zlt_9999, zlt_m1] at *; omega)) rfl (zH.rf)
            · refine x_iconst Γ (v := 1) dX4_mayBuy_70 rfl ?_
              refine x_goto Γ (tgt := 75) dX4_mayBuy_71 (by decide) ?_
              exact x_iret ρ rfl dX4_mayBuy_75 (by first | exact zb_nz _ | rfl) (by first | (simp [wtr, zb, *]; done) | (exfalso; simp_all; done) | (simp [wtr, zb, *]; simp only [Int32.lt_iff_toInt_lt, Int32.le_iff_toInt_le, zlt_0, zlt_1, zlt_2, zlt_3, zlt_4, zlt_5, zlt_6, zlt_7, zlt_8, zlt_9, zlt_10, zlt_11, zlt_12, zlt_30, zlt_39, zlt_40, zlt_59, zlt_60, zlt_61, zlt_98, zlt_99, zlt_100, zlt_119, zlt_120, zlt_998, zlt_999, zlt_9998, zlt_9999, zlt_m1] at *; omega)) rfl (zH.rf)
        · refine x_iconst Γ (v := 0) dX4_mayBuy_46 rfl ?_
          exact x_iret ρ rfl dX4_mayBuy_47 (by first | exact zb_nz _ | rfl) (by first | (simp [wtr, zb, *]; done) | (exfalso; simp_all; done) | (simp [wtr, zb, *]; simp only [Int32.lt_iff_toInt_lt, Int32.le_iff_toInt_le, zlt_0, zlt_1, zlt_2, zlt_3, zlt_4, zlt_5, zlt_6, zlt_7, zlt_8, zlt_9, zlt_10, zlt_11, zlt_12, zlt_30, zlt_39, zlt_40, zlt_59, zlt_60, zlt_61, zlt_98, zlt_99, zlt_100, zlt_119, zlt_120, zlt_998, zlt_999, zlt_9998, zlt_9999, zlt_m1] at *; omega)) rfl (zH.rf)

set_option maxRecDepth 100000 in
set_option maxHeartbeats 4000000 in
theorem m_X4_buy {g : Nat → zE} {T R : zT} {N : Nat} (hN : wN T N) (x y v : Int32) : zM 4 M_X4_buy [.ref 37, .int x, .int y, .int v] (hR g T R) 46 (some (.int (fr (fBuy T x y v) (tBuy T x y v 3 (ci x))))) (hR g (tBuy T x y v) (fR R (fBuy T x y v))) 46 0 0 := by
  refine zM.intro (by decide) (Nat.le_of_ble_eq_true rfl) ?_
  intro Wf V m H0 Γ ρ
  replace Γ : zC Wf V m 4 H0 cX4_buy RX4 4 0 0 := Γ
  show zX Wf V m 4 H0 0 (zls [(0, .ref 37), (1, .int x), (2, .int y), (3, .int v)]) [] (hR g T R) 46 0 0
  have hN2 := hN.2
  refine x_aload_n Γ dX4_buy_0 rfl ?_
  refine x_iload_n Γ dX4_buy_1 rfl ?_
  refine x_callV Γ calv_X4_isOne wl_X4_67 dX4_buy_2 (m_X4_isOne (g := g) (T := T) (R := R) hN x) rfl (by decide) (by decide) rfl rfl rfl rfl (Nat.le_of_ble_eq_true rfl) (Nat.le_refl _) (Nat.le_refl _) ?_
  refine x_if_eq Γ (tgt := 33) dX4_buy_5 (by decide) (fun c_1 => ?_) (fun c_1 => ?_)
  · have c_1 := zb_0.mp c_1
    refine x_aload_n Γ dX4_buy_33 rfl ?_
    refine x_ldc Γ wl_X4_34 dX4_buy_34 ?_
    refine x_callV Γ calv_X4_finds wl_X4_36 dX4_buy_36 (m_X4_finds (f := -1000001) (k := 0) (by decide) (by decide)) rfl (by decide) (by decide) rfl rfl rfl rfl (Nat.le_of_ble_eq_true rfl) (Nat.le_refl _) (Nat.le_refl _) ?_
    exact x_iret ρ rfl dX4_buy_39 rfl (by simp [fr, fBuy, *]; try rfl) rfl (by simp [fR, fBuy, tBuy, trT, *]; exact zH.rf)
  · have c_1 := zb_n0.mp c_1
    obtain ⟨j, hj, rfl⟩ := hs_in hN c_1
    have ej : ci (nI j) = j := nI_clamp (by omega)
    refine x_aload_n Γ dX4_buy_8 rfl ?_
    refine x_iload_n Γ dX4_buy_9 rfl ?_
    refine x_callV Γ calv_X4_isOne wl_X4_67 dX4_buy_10 (m_X4_isOne (g := g) (T := T) (R := R) hN y) rfl (by decide) (by decide) rfl rfl rfl rfl (Nat.le_of_ble_eq_true rfl) (Nat.le_refl _) (Nat.le_refl _) ?_
    refine x_if_eq Γ (tgt := 33) dX4_buy_13 (by decide) (fun c_2 => ?_) (fun c_2 => ?_)
    · have c_2 := zb_0.mp c_2
      refine x_aload_n Γ dX4_buy_33 rfl ?_
      refine x_ldc Γ wl_X4_34 dX4_buy_34 ?_
      refine x_callV Γ calv_X4_finds wl_X4_36 dX4_buy_36 (m_X4_finds (f := -1000001) (k := 0) (by decide) (by decide)) rfl (by decide) (by decide) rfl rfl rfl rfl (Nat.le_of_ble_eq_true rfl) (Nat.le_refl _) (Nat.le_refl _) ?_
      exact x_iret ρ rfl dX4_buy_39 rfl (by simp [fr, fBuy, *]; try rfl) rfl (by simp [fR, fBuy, tBuy, trT, *]; exact zH.rf)
    · have c_2 := zb_n0.mp c_2
      obtain ⟨i, hi, rfl⟩ := hs_in hN c_2
      have ei : ci (nI i) = i := nI_clamp (by omega)
      refine x_iload_n Γ dX4_buy_16 rfl ?_
      refine x_iload_n Γ dX4_buy_17 rfl ?_
      refine x_icmp_eq Γ (tgt := 33) dX4_buy_18 (by decide) (fun c_3 => ?_) (fun c_3 => ?_)
      · refine x_aload_n Γ dX4_buy_33 rfl ?_
        refine x_ldc Γ wl_X4_34 dX4_buy_34 ?_
        refine x_callV Γ calv_X4_finds wl_X4_36 dX4_buy_36 (m_X4_finds (f := -1000001) (k := 0) (by decide) (by decide)) rfl (by decide) (by decide) rfl rfl rfl rfl (Nat.le_of_ble_eq_true rfl) (Nat.le_refl _) (Nat.le_refl _) ?_
        exact x_iret ρ rfl dX4_buy_39 rfl (by simp [fr, fBuy, *]; try rfl) rfl (by simp [fR, fBuy, tBuy, trT, *]; exact zH.rf)
      · refine x_iload_n Γ dX4_buy_21 rfl ?_
        refine x_i2l Γ dX4_buy_22 ?_
        refine x_lconst Γ (v := 1) dX4_buy_23 rfl ?_
        refine x_ldc2 Γ wl_X4_130 dX4_buy_24 ?_
        refine x_callS Γ cals_X4_in wl_X4_40 dX4_buy_27 (m_in v 1 99 1 99 rfl rfl) rfl (by decide) rfl (Nat.le_of_ble_eq_true rfl) (Nat.le_refl _) (Nat.le_refl _) ?_
        refine x_if_ne Γ (tgt := 40) dX4_buy_30 (by decide) (fun c_4 => ?_) (fun c_4 => ?_)
        · have c_4 := zb_n0.mp c_4
          refine x_aload_n Γ dX4_buy_40 rfl ?_
          refine x_iload_n Γ dX4_buy_41 rfl ?_
          refine x_iload_n Γ dX4_buy_42 rfl ?_
          refine x_iload_n Γ dX4_buy_43 rfl ?_
          refine x_callV Γ calv_X4_mayBuy wl_X4_132 dX4_buy_44 (m_X4_mayBuy (g := g) (T := T) (R := R) (x := j) (y := i) (by omega) (by omega) v) rfl (by decide) (by decide) rfl rfl rfl rfl (Nat.le_of_ble_eq_true rfl) (Nat.le_refl _) (Nat.le_refl _) ?_
          refine x_if_ne Γ (tgt := 57) dX4_buy_47 (by decide) (fun c_5 => ?_) (fun c_5 => ?_)
          · have c_5 := zb_n0.mp c_5
            refine x_aload_n Γ dX4_buy_57 rfl ?_
            refine x_iload_n Γ dX4_buy_58 rfl ?_
            refine x_iload_n Γ dX4_buy_59 rfl ?_
            refine x_callVv Γ calv_X4_changeTokens wl_X4_113 dX4_buy_60 (m_X4_changeTokens (g := g) (T := T) (R := R) (x := j) (y := i) (by omega) (by omega)) rfl (by decide) (by decide) rfl rfl rfl rfl (Nat.le_of_ble_eq_true rfl) (Nat.le_refl _) (Nat.le_refl _) ?_
            refine x_aload_n Γ dX4_buy_63 rfl ?_
            refine x_iload_n Γ dX4_buy_64 rfl ?_
            refine x_iconst Γ (v := 3) dX4_buy_65 rfl ?_
            refine x_aload_n Γ dX4_buy_66 rfl ?_
            refine x_iload_n Γ dX4_buy_67 rfl ?_
            refine x_iconst Γ (v := 3) dX4_buy_68 rfl ?_
            refine x_callV Γ calv_X4_is wl_X4_63 dX4_buy_69 (m_X4_is (g := g) (T := exT T j i) (R := R) (c := j) (w := 3) (by omega) (by decide)) rfl (by decide) (by decide) rfl rfl rfl rfl (Nat.le_of_ble_eq_true rfl) (Nat.le_refl _) (Nat.le_refl _) ?_
            refine x_iload_n Γ dX4_buy_72 rfl ?_
            refine x_isub Γ dX4_buy_73 ?_
            refine x_callVv Γ calv_X4_makes wl_X4_50 dX4_buy_74 (m_X4_makes (c := j) (w := 3) (by omega) (by decide) _) rfl (by decide) (by decide) rfl rfl rfl rfl (Nat.le_of_ble_eq_true rfl) (Nat.le_refl _) (Nat.le_refl _) ?_
            refine x_aload_n Γ dX4_buy_77 rfl ?_
            refine x_iload_n Γ dX4_buy_78 rfl ?_
            refine x_iconst Γ (v := 3) dX4_buy_79 rfl ?_
            refine x_aload_n Γ dX4_buy_80 rfl ?_
            refine x_iload_n Γ dX4_buy_81 rfl ?_
            refine x_iconst Γ (v := 3) dX4_buy_82 rfl ?_
            refine x_callV Γ calv_X4_is wl_X4_63 dX4_buy_83 (m_X4_is (g := g) (T := ts (exT T j i) 3 j ((exT T j i) 3 j - v)) (R := R) (c := i) (w := 3) (by omega) (by decide)) rfl (by decide) (by decide) rfl rfl rfl rfl (Nat.le_of_ble_eq_true rfl) (Nat.le_refl _) (Nat.le_refl _) ?_
            refine x_iload_n Γ dX4_buy_86 rfl ?_
            refine x_iadd Γ dX4_buy_87 ?_
            refine x_callVv Γ calv_X4_makes wl_X4_50 dX4_buy_88 (m_X4_makes (c := i) (w := 3) (by omega) (by decide) _) rfl (by decide) (by decide) rfl rfl rfl rfl (Nat.le_of_ble_eq_true rfl) (Nat.le_refl _) (Nat.le_refl _) ?_
            refine x_aload_n Γ dX4_buy_91 rfl ?_
            refine x_iload_n Γ dX4_buy_92 rfl ?_
            refine x_iconst Γ (v := 3) dX4_buy_93 rfl ?_
            refine x_callV Γ calv_X4_is wl_X4_63 dX4_buy_94 (m_X4_is (g := g) (T := trT T j i v) (R := R) (c := j) (w := 3) (by omega) (by decide)) rfl (by decide) (by decide) rfl rfl rfl rfl (Nat.le_of_ble_eq_true rfl) (Nat.le_refl _) (Nat.le_refl _) ?_
            exact x_iret ρ rfl dX4_buy_97 rfl (by simp [fr, fBuy, tBuy, *]; try rfl) rfl (by simp [fR, fBuy, tBuy, trT, *]; exact zH.rf)
          · have c_5 := zb_0.mp c_5
            refine x_aload_n Γ dX4_buy_50 rfl ?_
            refine x_ldc Γ wl_X4_109 dX4_buy_51 ?_
            refine x_callV Γ calv_X4_finds wl_X4_36 dX4_buy_53 (m_X4_finds (f := -1000005) (k := 4) (by decide) (by decide)) rfl (by decide) (by decide) rfl rfl rfl rfl (Nat.le_of_ble_eq_true rfl) (Nat.le_refl _) (Nat.le_refl _) ?_
            exact x_iret ρ rfl dX4_buy_56 rfl (by simp [fr, fBuy, *]; try rfl) rfl (by simp [fR, fBuy, tBuy, trT, *]; exact zH.rf)
        · have c_4 := zb_0.mp c_4
          refine x_aload_n Γ dX4_buy_33 rfl ?_
          refine x_ldc Γ wl_X4_34 dX4_buy_34 ?_
          refine x_callV Γ calv_X4_finds wl_X4_36 dX4_buy_36 (m_X4_finds (f := -1000001) (k := 0) (by decide) (by decide)) rfl (by decide) (by decide) rfl rfl rfl rfl (Nat.le_of_ble_eq_true rfl) (Nat.le_refl _) (Nat.le_refl _) ?_
          exact x_iret ρ rfl dX4_buy_39 rfl (by simp [fr, fBuy, *]; try rfl) rfl (by simp [fR, fBuy, tBuy, trT, *]; exact zH.rf)

set_option maxRecDepth 100000 in
set_option maxHeartbeats 4000000 in
theorem m_X4_welfare {g : Nat → zE} {T R : zT} {N : Nat} (hN : wN T N) : zM 3 M_X4_welfare [.ref 37] (hR g T R) 46 (some (.int (sumW (fun c => tw T c (T 5 c)) N))) (hR g T R) 46 0 0 := by
  refine zM.intro (by decide) (Nat.le_of_ble_eq_true rfl) ?_
  intro Wf V m H0 Γ ρ
  replace Γ : zC Wf V m 3 H0 cX4_welfare RX4 3 0 0 := Γ
  show zX Wf V m 3 H0 0 (zls [(0, .ref 37)]) [] (hR g T R) 46 0 0
  have hN2 := hN.2
  refine x_iconst Γ (v := 0) dX4_welfare_0 rfl ?_
  refine x_istore_n Γ dX4_welfare_1 (by decide) ?_
  refine x_iconst Γ (v := 0) dX4_welfare_2 rfl ?_
  refine x_istore_n Γ dX4_welfare_3 (by decide) ?_
  suffices L_4 : ∀ (k c : Nat), c ≤ N → N - c < k → zX Wf V m 3 H0 4 (zls [(0, .ref 37), (1, .int (sumW (fun c => tw T c (T 5 c)) c)), (2, .int (nI c))]) [] (hR g T R) 46 0 0 by
    exact x_subl [(0, .ref 37), (1, .int (sumW (fun c => tw T c (T 5 c)) 0)), (2, .int (nI 0))] (List.forall_mem_cons.mpr ⟨rfl, List.forall_mem_cons.mpr ⟨rfl, List.forall_mem_cons.mpr ⟨rfl, fun _ hz => absurd hz List.not_mem_nil⟩⟩⟩) (x_heap (rfl) (L_4 (N + 1) 0 (by omega) (by omega)))
  intro k
  induction k with
  | zero => intro c h1 h2; omega
  | succ k ih =>
    intro c h1 h2
    refine x_iload_n Γ dX4_welfare_4 rfl ?_
    refine x_aload_n Γ dX4_welfare_5 rfl ?_
    refine gf_X4_9 Γ dX4_welfare_6 (by decide) rfl rfl ?_
    refine x_bipush Γ (v := 8) dX4_welfare_9 rfl ?_
    refine x_iald Γ dX4_welfare_11 (by decide) (by rfl) (j := 8) rfl (by decide) (by decide) (mr_s (by decide)) ?_
    refine x_icmp_ge Γ (tgt := 35) dX4_welfare_12 (by decide) (fun c_1 => ?_) (fun c_1 => ?_)
    · rw [hN.1] at c_1
      have c_1 := z_le c_1 (by omega) (by omega)
      obtain rfl : N = c := by omega
      refine x_iload_n Γ dX4_welfare_35 rfl ?_
      exact x_iret ρ rfl dX4_welfare_36 rfl (rfl) rfl (zH.rf)
    · rw [hN.1] at c_1
      have c_1 := z_nle c_1 (by omega) (by omega)
      refine x_iload_n Γ dX4_welfare_15 rfl ?_
      refine x_aload_n Γ dX4_welfare_16 rfl ?_
      refine x_iload_n Γ dX4_welfare_17 rfl ?_
      refine x_aload_n Γ dX4_welfare_18 rfl ?_
      refine x_iload_n Γ dX4_welfare_19 rfl ?_
      refine x_iconst Γ (v := 5) dX4_welfare_20 rfl ?_
      refine x_callV Γ calv_X4_is wl_X4_63 dX4_welfare_21 (m_X4_is (g := g) (T := T) (R := R) (c := c) (w := 5) (by omega) (by decide)) rfl (by decide) (by decide) rfl rfl rfl rfl (Nat.le_of_ble_eq_true rfl) (Nat.le_refl _) (Nat.le_refl _) ?_
      refine x_callV Γ calv_X4_worth wl_X4_127 dX4_welfare_24 (m_X4_worth (g := g) (T := T) (R := R) (c := c) (by omega) (T 5 c)) rfl (by decide) (by decide) rfl rfl rfl rfl (Nat.le_of_ble_eq_true rfl) (Nat.le_refl _) (Nat.le_refl _) ?_
      refine x_iadd Γ dX4_welfare_27 ?_
      refine x_istore_n Γ dX4_welfare_28 (by decide) ?_
      refine x_iinc Γ dX4_welfare_29 rfl (by first | exact zinc _ | rfl) (by decide) ?_
      refine x_goto Γ (tgt := 4) dX4_welfare_32 (by decide) ?_
      exact x_subl [(0, .ref 37), (1, .int (sumW (fun c => tw T c (T 5 c)) (c + 1))), (2, .int (nI (c + 1)))] (List.forall_mem_cons.mpr ⟨rfl, List.forall_mem_cons.mpr ⟨rfl, List.forall_mem_cons.mpr ⟨rfl, fun _ hz => absurd hz List.not_mem_nil⟩⟩⟩) (x_heap (rfl) (ih (c + 1) (by omega) (by omega)))

set_option maxRecDepth 100000 in
set_option maxHeartbeats 4000000 in
theorem m_X4_weeks {g : Nat → zE} {T R : zT} {N : Nat} (hN : wN T N) (hL : wL T) (n : Int32) : zM 7 M_X4_weeks [.ref 37, .int n] (hR g T R) 46 (some (.int (fr (fWk T n) (wks N (ci n) T 7 6 - T 7 6)))) (hR g (tWk T N n) (fR R (fWk T n))) 46 0 0 := by
  refine zM.intro (by decide) (Nat.le_of_ble_eq_true rfl) ?_
  intro Wf V m H0 Γ ρ
  replace Γ : zC Wf V m 3 H0 cX4_weeks RX4 7 0 0 := Γ
  show zX Wf V m 3 H0 0 (zls [(0, .ref 37), (1, .int n)]) [] (hR g T R) 46 0 0
  have hN2 := hN.2
  refine x_iload_n Γ dX4_weeks_0 rfl ?_
  refine x_callS Γ cals_X4_areWeeks wl_X4_152 dX4_weeks_1 (m_X4_areWeeks n) rfl (by decide) rfl (Nat.le_of_ble_eq_true rfl) (Nat.le_refl _) (Nat.le_refl _) ?_
  refine x_if_ne Γ (tgt := 14) dX4_weeks_4 (by decide) (fun c_1 => ?_) (fun c_1 => ?_)
  · have c_1 := zb_n0.mp c_1
    obtain ⟨K, hK1, hK, rfl⟩ := inR_nI1 (n := 60) c_1 rfl (by omega)
    have eK : ci (nI K) = K := nI_clamp (by omega)
    refine x_aload_n Γ dX4_weeks_14 rfl ?_
    refine x_iload_n Γ dX4_weeks_15 rfl ?_
    refine x_callV Γ calv_X4_isLate wl_X4_155 dX4_weeks_16 (m_X4_isLate (g := g) (T := T) (R := R) (nI K)) rfl (by decide) (by decide) rfl rfl rfl rfl (Nat.le_of_ble_eq_true rfl) (Nat.le_refl _) (Nat.le_refl _) ?_
    refine x_if_eq Γ (tgt := 29) dX4_weeks_19 (by decide) (fun c_2 => ?_) (fun c_2 => ?_)
    · have c_2 := zb_0.mp c_2
      replace c_2 := of_decide_eq_false c_2
      refine x_aload_n Γ dX4_weeks_29 rfl ?_
      refine gf_X4_9 Γ dX4_weeks_30 (by decide) rfl rfl ?_
      refine x_bipush Γ (v := 6) dX4_weeks_33 rfl ?_
      refine x_iald Γ dX4_weeks_35 (by decide) (by rfl) (j := 6) rfl (by decide) (by decide) (mr_s (by decide)) ?_
      refine x_istore_n Γ dX4_weeks_36 (by decide) ?_
      refine x_aload_n Γ dX4_weeks_37 rfl ?_
      refine x_iload_n Γ dX4_weeks_38 rfl ?_
      refine x_callV Γ calv_X4_goes wl_X4_158 dX4_weeks_39 (m_X4_goes (g := g) (T := T) (R := R) hN hL (K := K) hK) rfl (by decide) (by decide) rfl rfl rfl rfl (Nat.le_of_ble_eq_true rfl) (Nat.le_refl _) (Nat.le_refl _) ?_
      refine x_pop Γ dX4_weeks_42 rfl ?_
      refine x_aload_n Γ dX4_weeks_43 rfl ?_
      refine gf_X4_9 Γ dX4_weeks_44 (by decide) rfl rfl ?_
      refine x_bipush Γ (v := 6) dX4_weeks_47 rfl ?_
      refine x_iald Γ dX4_weeks_49 (by decide) (by rfl) (j := 6) rfl (by decide) (by decide) (mr_s (by decide)) ?_
      refine x_iload_n Γ dX4_weeks_50 rfl ?_
      refine x_isub Γ dX4_weeks_51 ?_
      exact x_iret ρ rfl dX4_weeks_52 rfl (by simp [fr, fWk, *]; try rfl) rfl (by simp [fR, fWk, tWk, *]; exact zH.rf)
    · have c_2 := zb_n0.mp c_2
      replace c_2 := of_decide_eq_true c_2
      refine x_aload_n Γ dX4_weeks_22 rfl ?_
      refine x_ldc Γ wl_X4_109 dX4_weeks_23 ?_
      refine x_callV Γ calv_X4_finds wl_X4_36 dX4_weeks_25 (m_X4_finds (f := -1000005) (k := 4) (by decide) (by decide)) rfl (by decide) (by decide) rfl rfl rfl rfl (Nat.le_of_ble_eq_true rfl) (Nat.le_refl _) (Nat.le_refl _) ?_
      exact x_iret ρ rfl dX4_weeks_28 rfl (by simp [fr, fWk, *]; try rfl) rfl (by simp [fR, fWk, tWk, *]; exact zH.rf)
  · have c_1 := zb_0.mp c_1
    refine x_aload_n Γ dX4_weeks_7 rfl ?_
    refine x_ldc Γ wl_X4_34 dX4_weeks_8 ?_
    refine x_callV Γ calv_X4_finds wl_X4_36 dX4_weeks_10 (m_X4_finds (f := -1000001) (k := 0) (by decide) (by decide)) rfl (by decide) (by decide) rfl rfl rfl rfl (Nat.le_of_ble_eq_true rfl) (Nat.le_refl _) (Nat.le_refl _) ?_
    exact x_iret ρ rfl dX4_weeks_13 rfl (by simp [fr, fWk, *]; try rfl) rfl (by simp [fR, fWk, tWk, *]; exact zH.rf)

set_option maxRecDepth 100000 in
set_option maxHeartbeats 4000000 in
theorem m_X4_next {g : Nat → zE} {T R : zT} {N : Nat} (hN : wN T N) (hL : wL T) (c : Int32) : zM 5 M_X4_next [.ref 37, .int c] (hR g T R) 46 (some (.int (fr (fNxt T c) (wkT2 T N 5 (ci c))))) (hR g (T) (fW T R (fNxt T c))) 46 0 0 := by
  refine zM.intro (by decide) (Nat.le_of_ble_eq_true rfl) ?_
  intro Wf V m H0 Γ ρ
  replace Γ : zC Wf V m 3 H0 cX4_next RX4 5 0 0 := Γ
  show zX Wf V m 3 H0 0 (zls [(0, .ref 37), (1, .int c)]) [] (hR g T R) 46 0 0
  have hN2 := hN.2
  refine x_aload_n Γ dX4_next_0 rfl ?_
  refine x_iload_n Γ dX4_next_1 rfl ?_
  refine x_callV Γ calv_X4_isOne wl_X4_67 dX4_next_2 (m_X4_isOne (g := g) (T := T) (R := R) hN c) rfl (by decide) (by decide) rfl rfl rfl rfl (Nat.le_of_ble_eq_true rfl) (Nat.le_refl _) (Nat.le_refl _) ?_
  refine x_if_ne Γ (tgt := 15) dX4_next_5 (by decide) (fun c_1 => ?_) (fun c_1 => ?_)
  · have c_1 := zb_n0.mp c_1
    obtain ⟨j, hj, rfl⟩ := hs_in hN c_1
    have ej : ci (nI j) = j := nI_clamp (by omega)
    refine x_aload_n Γ dX4_next_15 rfl ?_
    refine x_iconst Γ (v := 1) dX4_next_16 rfl ?_
    refine x_callV Γ calv_X4_isLate wl_X4_155 dX4_next_17 (m_X4_isLate (g := g) (T := T) (R := R) (1)) rfl (by decide) (by decide) rfl rfl rfl rfl (Nat.le_of_ble_eq_true rfl) (Nat.le_refl _) (Nat.le_refl _) ?_
    refine x_if_eq Γ (tgt := 30) dX4_next_20 (by decide) (fun c_2 => ?_) (fun c_2 => ?_)
    · have c_2 := zb_0.mp c_2
      replace c_2 := of_decide_eq_false c_2
      refine x_aload_n Γ dX4_next_30 rfl ?_
      refine gf_X4_9 Γ dX4_next_31 (by decide) rfl rfl ?_
      refine x_aload_n Γ dX4_next_34 rfl ?_
      refine gf_X4_16 Γ dX4_next_35 (by decide) rfl rfl ?_
      refine x_callSv Γ cals_X4_row wl_X4_123 dX4_next_38 (row_mw (g := g) (T := T) (R := R)) rfl (by decide) rfl (Nat.le_of_ble_eq_true rfl) (Nat.le_refl _) (Nat.le_refl _) ?_
      refine x_aload_n Γ dX4_next_41 rfl ?_
      refine x_callVv Γ calv_X4_drawsTokens wl_X4_143 dX4_next_42 (m_X4_drawsTokens (g := g) (T := T) (R := tr R 1 (mr T)) hN hL) rfl (by decide) (by decide) rfl rfl rfl rfl (Nat.le_of_ble_eq_true rfl) (Nat.le_refl _) (Nat.le_refl _) ?_
      refine x_aload_n Γ dX4_next_45 rfl ?_
      refine x_callV Γ calv_X4_opens wl_X4_120 dX4_next_46 (m_X4_opens (g := g) (T := wkT1 T N) (R := tr R 1 (mr T)) (wk1_N hN)) rfl (by decide) (by decide) rfl rfl rfl rfl (Nat.le_of_ble_eq_true rfl) (Nat.le_refl _) (Nat.le_refl _) ?_
      refine x_pop Γ dX4_next_49 rfl ?_
      refine x_aload_n Γ dX4_next_50 rfl ?_
      refine x_iload_n Γ dX4_next_51 rfl ?_
      refine x_iconst Γ (v := 5) dX4_next_52 rfl ?_
      refine x_callV Γ calv_X4_is wl_X4_63 dX4_next_53 (m_X4_is (g := g) (T := wkT2 T N) (R := tr R 1 (mr T)) (c := j) (w := 5) (by omega) (by decide)) rfl (by decide) (by decide) rfl rfl rfl rfl (Nat.le_of_ble_eq_true rfl) (Nat.le_refl _) (Nat.le_refl _) ?_
      refine x_istore_n Γ dX4_next_56 (by decide) ?_
      refine x_aload_n Γ dX4_next_57 rfl ?_
      refine gf_X4_16 Γ dX4_next_58 (by decide) rfl rfl ?_
      refine x_aload_n Γ dX4_next_61 rfl ?_
      refine gf_X4_9 Γ dX4_next_62 (by decide) rfl rfl ?_
      refine x_callSv Γ cals_X4_row wl_X4_123 dX4_next_65 (row_wm (g := g) (T := T) (U := wkT2 T N) (R := tr R 1 (mr T)) tr_s) rfl (by decide) rfl (Nat.le_of_ble_eq_true rfl) (Nat.le_refl _) (Nat.le_refl _) ?_
      refine x_iload_n Γ dX4_next_68 rfl ?_
      exact x_iret ρ rfl dX4_next_69 rfl (by simp [fr, fNxt, *]; try rfl) rfl (by simp [fR, fNxt, fW, *]; exact zH.rf)
    · have c_2 := zb_n0.mp c_2
      replace c_2 := of_decide_eq_true c_2
      refine x_aload_n Γ dX4_next_23 rfl ?_
      refine x_ldc Γ wl_X4_109 dX4_next_24 ?_
      refine x_callV Γ calv_X4_finds wl_X4_36 dX4_next_26 (m_X4_finds (f := -1000005) (k := 4) (by decide) (by decide)) rfl (by decide) (by decide) rfl rfl rfl rfl (Nat.le_of_ble_eq_true rfl) (Nat.le_refl _) (Nat.le_refl _) ?_
      exact x_iret ρ rfl dX4_next_29 rfl (by simp [fr, fNxt, *]; try rfl) rfl (by simp [fR, fNxt, fW, *]; exact zH.rf)
  · have c_1 := zb_0.mp c_1
    refine x_aload_n Γ dX4_next_8 rfl ?_
    refine x_ldc Γ wl_X4_34 dX4_next_9 ?_
    refine x_callV Γ calv_X4_finds wl_X4_36 dX4_next_11 (m_X4_finds (f := -1000001) (k := 0) (by decide) (by decide)) rfl (by decide) (by decide) rfl rfl rfl rfl (Nat.le_of_ble_eq_true rfl) (Nat.le_refl _) (Nat.le_refl _) ?_
    exact x_iret ρ rfl dX4_next_14 rfl (by simp [fr, fNxt, *]; try rfl) rfl (by simp [fR, fNxt, fW, *]; exact zH.rf)

set_option maxRecDepth 100000 in
set_option maxHeartbeats 4000000 in
theorem m_X4_ahead {g : Nat → zE} {T R : zT} {N : Nat} (hN : wN T N) (hL : wL T) (n w : Int32) : zM 7 M_X4_ahead [.ref 37, .int n, .int w] (hR g T R) 46 (some (.int (fr (fAhd T n w) (rAhd T N n w)))) (hR g (T) (fW T R (fAhd T n w))) 46 0 0 := by
  refine zM.intro (by decide) (Nat.le_of_ble_eq_true rfl) ?_
  intro Wf V m H0 Γ ρ
  replace Γ : zC Wf V m 6 H0 cX4_ahead RX4 7 0 0 := Γ
  show zX Wf V m 6 H0 0 (zls [(0, .ref 37), (1, .int n), (2, .int w)]) [] (hR g T R) 46 0 0
  have hN2 := hN.2
  refine x_iload_n Γ dX4_ahead_0 rfl ?_
  refine x_i2l Γ dX4_ahead_1 ?_
  refine x_lconst Γ (v := 0) dX4_ahead_2 rfl ?_
  refine x_ldc2 Γ wl_X4_48 dX4_ahead_3 ?_
  refine x_callS Γ cals_X4_in wl_X4_40 dX4_ahead_6 (m_in n 0 60 0 60 rfl rfl) rfl (by decide) rfl (Nat.le_of_ble_eq_true rfl) (Nat.le_refl _) (Nat.le_refl _) ?_
  refine x_if_eq Γ (tgt := 31) dX4_ahead_9 (by decide) (fun c_1 => ?_) (fun c_1 => ?_)
  · have c_1 := zb_0.mp c_1
    refine x_aload_n Γ dX4_ahead_31 rfl ?_
    refine x_ldc Γ wl_X4_34 dX4_ahead_32 ?_
    refine x_callV Γ calv_X4_finds wl_X4_36 dX4_ahead_34 (m_X4_finds (f := -1000001) (k := 0) (by decide) (by decide)) rfl (by decide) (by decide) rfl rfl rfl rfl (Nat.le_of_ble_eq_true rfl) (Nat.le_refl _) (Nat.le_refl _) ?_
    exact x_iret ρ rfl dX4_ahead_37 rfl (by simp [fr, fAhd, rAhd, *]; try rfl) rfl (by simp [fR, fAhd, fW, *]; exact zH.rf)
  · have c_1 := zb_n0.mp c_1
    obtain ⟨K, hK, rfl⟩ := inR_nI (n := 60) c_1 rfl (by omega)
    have eK : ci (nI K) = K := nI_clamp (by omega)
    refine x_iload_n Γ dX4_ahead_12 rfl ?_
    refine x_i2l Γ dX4_ahead_13 ?_
    refine x_lconst Γ (v := 0) dX4_ahead_14 rfl ?_
    refine x_iconst Γ (v := 3) dX4_ahead_15 rfl ?_
    refine x_aload_n Γ dX4_ahead_16 rfl ?_
    refine gf_X4_9 Γ dX4_ahead_17 (by decide) rfl rfl ?_
    refine x_bipush Γ (v := 8) dX4_ahead_20 rfl ?_
    refine x_iald Γ dX4_ahead_22 (by decide) (by rfl) (j := 8) rfl (by decide) (by decide) (mr_s (by decide)) ?_
    refine x_iadd Γ dX4_ahead_23 ?_
    refine x_i2l Γ dX4_ahead_24 ?_
    refine x_callS Γ cals_X4_in wl_X4_40 dX4_ahead_25 (m_in w 0 (3 + T 7 8) 0 ((3 + T 7 8).toInt64) rfl (Int32.toInt_toInt64 _)) rfl (by decide) rfl (Nat.le_of_ble_eq_true rfl) (Nat.le_refl _) (Nat.le_refl _) ?_
    refine x_if_ne Γ (tgt := 38) dX4_ahead_28 (by decide) (fun c_2 => ?_) (fun c_2 => ?_)
    · have c_2 := zb_n0.mp c_2
      obtain ⟨q, hq, rfl⟩ := inR_nI (n := 3 + N) c_2 (by rw [hN.1, show (3 : Int32) = nI 3 from rfl, nI_add]) (by omega)
      have eq : ci (nI q) = q := nI_clamp (by omega)
      refine x_aload_n Γ dX4_ahead_38 rfl ?_
      refine x_iload_n Γ dX4_ahead_39 rfl ?_
      refine x_callV Γ calv_X4_isLate wl_X4_155 dX4_ahead_40 (m_X4_isLate (g := g) (T := T) (R := R) (nI K)) rfl (by decide) (by decide) rfl rfl rfl rfl (Nat.le_of_ble_eq_true rfl) (Nat.le_refl _) (Nat.le_refl _) ?_
      refine x_if_eq Γ (tgt := 53) dX4_ahead_43 (by decide) (fun c_3 => ?_) (fun c_3 => ?_)
      · have c_3 := zb_0.mp c_3
        replace c_3 := of_decide_eq_false c_3
        have hf7 : fAhd T (nI K) (nI q) = 7 := by simp [fAhd, *]
        refine x_aload_n Γ dX4_ahead_53 rfl ?_
        refine gf_X4_9 Γ dX4_ahead_54 (by decide) rfl rfl ?_
        refine x_aload_n Γ dX4_ahead_57 rfl ?_
        refine gf_X4_16 Γ dX4_ahead_58 (by decide) rfl rfl ?_
        refine x_callSv Γ cals_X4_row wl_X4_123 dX4_ahead_61 (row_mw (g := g) (T := T) (R := R)) rfl (by decide) rfl (Nat.le_of_ble_eq_true rfl) (Nat.le_refl _) (Nat.le_refl _) ?_
        refine x_aload_n Γ dX4_ahead_64 rfl ?_
        refine x_iconst Γ (v := 4) dX4_ahead_65 rfl ?_
        refine x_callV Γ calv_X4_sum wl_X4_161 dX4_ahead_66 (m_X4_sum (g := g) (T := T) (R := tr R 1 (mr T)) (w := 4) (hN) (by decide)) rfl (by decide) (by decide) rfl rfl rfl rfl (Nat.le_of_ble_eq_true rfl) (Nat.le_refl _) (Nat.le_refl _) ?_
        refine x_istore_n Γ dX4_ahead_69 (by decide) ?_
        refine x_aload_n Γ dX4_ahead_70 rfl ?_
        refine x_iload_n Γ dX4_ahead_71 rfl ?_
        refine x_callV Γ calv_X4_goes wl_X4_158 dX4_ahead_72 (m_X4_goes (g := g) (T := T) (R := tr R 1 (mr T)) hN hL (K := K) hK) rfl (by decide) (by decide) rfl rfl rfl rfl (Nat.le_of_ble_eq_true rfl) (Nat.le_refl _) (Nat.le_refl _) ?_
        refine x_istore Γ dX4_ahead_75 (by decide) ?_
        refine x_iload_n Γ dX4_ahead_77 rfl ?_
        refine x_tab4 Γ (a0 := 0) (a1 := 1) (a2 := 2) (a3 := 3) (t0 := 108) (t1 := 128) (t2 := 138) (t3 := 150) (td := 157) dX4_ahead_78 (by decide +kernel) (fun c_4 => ?_) (fun c_4 => ?_) (fun c_4 => ?_) (fun c_4 => ?_) (fun c_4_0 c_4_1 c_4_2 c_4_3 => ?_)
        · have hq4 := c_4
          refine x_aload_n Γ dX4_ahead_108 rfl ?_
          refine gf_X4_9 Γ dX4_ahead_109 (by decide) rfl rfl ?_
          refine x_bipush Γ (v := 6) dX4_ahead_112 rfl ?_
          refine x_iald Γ dX4_ahead_114 (by decide) (by rfl) (j := 6) rfl (by decide) (by decide) (mr_s (by decide)) ?_
          refine x_aload_n Γ dX4_ahead_115 rfl ?_
          refine gf_X4_16 Γ dX4_ahead_116 (by decide) rfl rfl ?_
          refine x_bipush Γ (v := 6) dX4_ahead_119 rfl ?_
          refine x_iald Γ dX4_ahead_121 (by decide) (by rfl) (j := 6) rfl (by decide) (by decide) (congrFun tr_s 6) ?_
          refine x_isub Γ dX4_ahead_122 ?_
          refine x_istore Γ dX4_ahead_123 (by decide) ?_
          refine x_goto Γ (tgt := 167) dX4_ahead_125 (by decide) ?_
          refine x_aload_n Γ dX4_ahead_167 rfl ?_
          refine gf_X4_16 Γ dX4_ahead_168 (by decide) rfl rfl ?_
          refine x_aload_n Γ dX4_ahead_171 rfl ?_
          refine gf_X4_9 Γ dX4_ahead_172 (by decide) rfl rfl ?_
          refine x_callSv Γ cals_X4_row wl_X4_123 dX4_ahead_175 (row_wm (g := g) (T := T) (U := (wks N K T)) (R := tr R 1 (mr T)) tr_s) rfl (by decide) rfl (Nat.le_of_ble_eq_true rfl) (Nat.le_refl _) (Nat.le_refl _) ?_
          refine x_iload Γ dX4_ahead_178 rfl ?_
          exact x_iret ρ rfl dX4_ahead_180 rfl (by rw [hf7]; simp [fr, rAhd, *]; try rfl) rfl (by rw [hf7, fW, if_pos rfl]; exact zH.rf)
        · have hq4 := c_4
          refine x_aload_n Γ dX4_ahead_128 rfl ?_
          refine x_iconst Γ (v := 1) dX4_ahead_129 rfl ?_
          refine x_callV Γ calv_X4_sum wl_X4_161 dX4_ahead_130 (m_X4_sum (g := g) (T := (wks N K T)) (R := tr R 1 (mr T)) (w := 1) (wks_N hN K) (by decide)) rfl (by decide) (by decide) rfl rfl rfl rfl (Nat.le_of_ble_eq_true rfl) (Nat.le_refl _) (Nat.le_refl _) ?_
          refine x_istore Γ dX4_ahead_133 (by decide) ?_
          refine x_goto Γ (tgt := 167) dX4_ahead_135 (by decide) ?_
          refine x_aload_n Γ dX4_ahead_167 rfl ?_
          refine gf_X4_16 Γ dX4_ahead_168 (by decide) rfl rfl ?_
          refine x_aload_n Γ dX4_ahead_171 rfl ?_
          refine gf_X4_9 Γ dX4_ahead_172 (by decide) rfl rfl ?_
          refine x_callSv Γ cals_X4_row wl_X4_123 dX4_ahead_175 (row_wm (g := g) (T := T) (U := (wks N K T)) (R := tr R 1 (mr T)) tr_s) rfl (by decide) rfl (Nat.le_of_ble_eq_true rfl) (Nat.le_refl _) (Nat.le_refl _) ?_
          refine x_iload Γ dX4_ahead_178 rfl ?_
          exact x_iret ρ rfl dX4_ahead_180 rfl (by rw [hf7]; simp [fr, rAhd, *]; try rfl) rfl (by rw [hf7, fW, if_pos rfl]; exact zH.rf)
        · have hq4 := c_4
          refine x_aload_n Γ dX4_ahead_138 rfl ?_
          refine x_iconst Γ (v := 4) dX4_ahead_139 rfl ?_
          refine x_callV Γ calv_X4_sum wl_X4_161 dX4_ahead_140 (m_X4_sum (g := g) (T := (wks N K T)) (R := tr R 1 (mr T)) (w := 4) (wks_N hN K) (by decide)) rfl (by decide) (by decide) rfl rfl rfl rfl (Nat.le_of_ble_eq_true rfl) (Nat.le_refl _) (Nat.le_refl _) ?_
          refine x_iload_n Γ dX4_ahead_143 rfl ?_
          refine x_isub Γ dX4_ahead_144 ?_
          refine x_istore Γ dX4_ahead_145 (by decide) ?_
          refine x_goto Γ (tgt := 167) dX4_ahead_147 (by decide) ?_
          refine x_aload_n Γ dX4_ahead_167 rfl ?_
          refine gf_X4_16 Γ dX4_ahead_168 (by decide) rfl rfl ?_
          refine x_aload_n Γ dX4_ahead_171 rfl ?_
          refine gf_X4_9 Γ dX4_ahead_172 (by decide) rfl rfl ?_
          refine x_callSv Γ cals_X4_row wl_X4_123 dX4_ahead_175 (row_wm (g := g) (T := T) (U := (wks N K T)) (R := tr R 1 (mr T)) tr_s) rfl (by decide) rfl (Nat.le_of_ble_eq_true rfl) (Nat.le_refl _) (Nat.le_refl _) ?_
          refine x_iload Γ dX4_ahead_178 rfl ?_
          exact x_iret ρ rfl dX4_ahead_180 rfl (by rw [hf7]; simp [fr, rAhd, *]; try rfl) rfl (by rw [hf7, fW, if_pos rfl]; exact zH.rf)
        · have hq4 := c_4
          refine x_iload Γ dX4_ahead_150 rfl ?_
          refine x_istore Γ dX4_ahead_152 (by decide) ?_
          refine x_goto Γ (tgt := 167) dX4_ahead_154 (by decide) ?_
          refine x_aload_n Γ dX4_ahead_167 rfl ?_
          refine gf_X4_16 Γ dX4_ahead_168 (by decide) rfl rfl ?_
          refine x_aload_n Γ dX4_ahead_171 rfl ?_
          refine gf_X4_9 Γ dX4_ahead_172 (by decide) rfl rfl ?_
          refine x_callSv Γ cals_X4_row wl_X4_123 dX4_ahead_175 (row_wm (g := g) (T := T) (U := (wks N K T)) (R := tr R 1 (mr T)) tr_s) rfl (by decide) rfl (Nat.le_of_ble_eq_true rfl) (Nat.le_refl _) (Nat.le_refl _) ?_
          refine x_iload Γ dX4_ahead_178 rfl ?_
          exact x_iret ρ rfl dX4_ahead_180 rfl (by rw [hf7]; simp [fr, rAhd, *]; try rfl) rfl (by rw [hf7, fW, if_pos rfl]; exact zH.rf)
        · have hq4 : 4 ≤ q := by
            rcases (show q = 0 ∨ q = 1 ∨ q = 2 ∨ q = 3 ∨ 4 ≤ q by omega) with rfl | rfl | rfl | rfl | h
            · exact absurd rfl c_4_0
            · exact absurd rfl c_4_1
            · exact absurd rfl c_4_2
            · exact absurd rfl c_4_3
            · exact h
          have hq5 : nI q - 4 = nI (q - 4) := pk_sub (b := 4) hq4
          refine x_aload_n Γ dX4_ahead_157 rfl ?_
          refine x_iload_n Γ dX4_ahead_158 rfl ?_
          refine x_iconst Γ (v := 4) dX4_ahead_159 rfl ?_
          refine x_isub Γ dX4_ahead_160 ?_
          rw [hq5]
          refine x_iconst Γ (v := 1) dX4_ahead_161 rfl ?_
          refine x_callV Γ calv_X4_is wl_X4_63 dX4_ahead_162 (m_X4_is (g := g) (T := (wks N K T)) (R := tr R 1 (mr T)) (c := q - 4) (w := 1) (by omega) (by decide)) rfl (by decide) (by decide) rfl rfl rfl rfl (Nat.le_of_ble_eq_true rfl) (Nat.le_refl _) (Nat.le_refl _) ?_
          refine x_istore Γ dX4_ahead_165 (by decide) ?_
          refine x_aload_n Γ dX4_ahead_167 rfl ?_
          refine gf_X4_16 Γ dX4_ahead_168 (by decide) rfl rfl ?_
          refine x_aload_n Γ dX4_ahead_171 rfl ?_
          refine gf_X4_9 Γ dX4_ahead_172 (by decide) rfl rfl ?_
          refine x_callSv Γ cals_X4_row wl_X4_123 dX4_ahead_175 (row_wm (g := g) (T := T) (U := (wks N K T)) (R := tr R 1 (mr T)) tr_s) rfl (by decide) rfl (Nat.le_of_ble_eq_true rfl) (Nat.le_refl _) (Nat.le_refl _) ?_
          refine x_iload Γ dX4_ahead_178 rfl ?_
          exact x_iret ρ rfl dX4_ahead_180 rfl (by rw [hf7]; simp [fr, rAhd, *]; try rfl) rfl (by rw [hf7, fW, if_pos rfl]; exact zH.rf)
      · have c_3 := zb_n0.mp c_3
        replace c_3 := of_decide_eq_true c_3
        refine x_aload_n Γ dX4_ahead_46 rfl ?_
        refine x_ldc Γ wl_X4_109 dX4_ahead_47 ?_
        refine x_callV Γ calv_X4_finds wl_X4_36 dX4_ahead_49 (m_X4_finds (f := -1000005) (k := 4) (by decide) (by decide)) rfl (by decide) (by decide) rfl rfl rfl rfl (Nat.le_of_ble_eq_true rfl) (Nat.le_refl _) (Nat.le_refl _) ?_
        exact x_iret ρ rfl dX4_ahead_52 rfl (by simp [fr, fAhd, rAhd, *]; try rfl) rfl (by simp [fR, fAhd, fW, *]; exact zH.rf)
    · have c_2 := zb_0.mp c_2
      refine x_aload_n Γ dX4_ahead_31 rfl ?_
      refine x_ldc Γ wl_X4_34 dX4_ahead_32 ?_
      refine x_callV Γ calv_X4_finds wl_X4_36 dX4_ahead_34 (m_X4_finds (f := -1000001) (k := 0) (by decide) (by decide)) rfl (by decide) (by decide) rfl rfl rfl rfl (Nat.le_of_ble_eq_true rfl) (Nat.le_refl _) (Nat.le_refl _) ?_
      exact x_iret ρ rfl dX4_ahead_37 rfl (by simp [fr, fAhd, rAhd, *]; try rfl) rfl (by simp [fR, fAhd, fW, *]; exact zH.rf)
