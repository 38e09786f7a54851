def wS (R : zT) : Prop := ∀ j, j < 4 → ∃ z, z ≤ 40 ∧ R 5 j = nI z
theorem in_lt {x y : Int32} {z : Nat} (hz : z ≤ 40) (ey : y = nI z) (h : inR x 0 (y - 1) = true) : ∃ a, a < z ∧ x = nI a := by
  subst ey
  cases z with
  | zero =>
    exfalso
    simp only [inR, Bool.and_eq_true, Bool.not_eq_true', decide_eq_false_iff_not] at h
    obtain ⟨j, hj, rfl⟩ := nI_of h.1
    refine h.2 (Int32.lt_iff_toInt_lt.mpr ?_)
    have h0 : (0 : Int32) ≤ nI j := (nI_leI (a := 0) (by omega) hj).mpr (Nat.zero_le _)
    rw [Int32.le_iff_toInt_le] at h0
    have h1 : (nI 0 - 1 : Int32).toInt = -1 := by decide
    rw [h1]
    have h2 : (0 : Int32).toInt = 0 := by decide
    omega
  | succ z =>
    rw [show nI (z + 1) - 1 = nI z from pk_sub (b := 1) (by omega)] at h
    obtain ⟨j, hj, rfl⟩ := inR_nI (n := z) h rfl (by omega)
    exact ⟨j, by omega, rfl⟩
theorem ix40 (s i : Nat) : (40 : Int32) * nI s + nI i = nI (40 * s + i) := by
  rw [show (40 : Int32) = nI 40 from rfl, pk_mul, nI_add]
def zwr (b v : Int32) : Int32 := if b = 8 then v.toInt8.toInt32 else if b = 16 then v.toInt16.toInt32 else v
def fWr (R : zT) (s i : Int32) : Nat := if inR s 0 3 = true then (if R 4 (ci s) = 0 then 5 else if inR i 0 (R 5 (ci s) - 1) = true then 7 else 0) else 0
def gWr (R : zT) (s i v : Int32) : zT := if fWr R s i = 7 then ts R 6 (40 * ci s + ci i) (zwr (R 4 (ci s)) v) else fR R (fWr R s i)

set_option maxRecDepth 100000 in
set_option maxHeartbeats 4000000 in
theorem m_X4_write {g : Nat → zE} {T R : zT} (hS : wS R) (s i v : Int32) : zM 2 M_X4_write [.ref 37, .int s, .int i, .int v] (hR g T R) 46 (some (.int (fr (fWr R s i) (1)))) (hR g (T) (gWr R s i v)) 46 0 0 := by
  refine zM.intro (by decide) (Nat.le_of_ble_eq_true rfl) ?_
  intro Wf V m H0 Γ ρ
  replace Γ : zC Wf V m 4 H0 cX4_write RX4 2 0 0 := Γ
  show zX Wf V m 4 H0 0 (zls [(0, .ref 37), (1, .int s), (2, .int i), (3, .int v)]) [] (hR g T R) 46 0 0
  refine x_iload_n Γ dX4_write_0 rfl ?_
  refine x_callS Γ cals_X4_isSheet wl_X4_298 dX4_write_1 (m_X4_isSheet s) rfl (by decide) rfl (Nat.le_of_ble_eq_true rfl) (Nat.le_refl _) (Nat.le_refl _) ?_
  refine x_if_ne Γ (tgt := 14) dX4_write_4 (by decide) (fun c_1 => ?_) (fun c_1 => ?_)
  · have c_1 := zb_n0.mp c_1
    obtain ⟨j, hj, rfl⟩ := inR_nI (n := 3) c_1 rfl (by omega)
    have ej : ci (nI j) = j := nI_clamp (by omega)
    obtain ⟨z, hz, ez⟩ := hS j (by omega)
    refine x_aload_n Γ dX4_write_14 rfl ?_
    refine gf_X4_25 Γ dX4_write_15 (by decide) rfl rfl ?_
    refine x_iload_n Γ dX4_write_18 rfl ?_
    refine x_iald Γ dX4_write_19 (by decide) (by rfl) rfl (by first | assumption | omega) (by decide) rfl ?_
    refine x_if_ne Γ (tgt := 31) dX4_write_20 (by decide) (fun c_2 => ?_) (fun c_2 => ?_)
    · refine x_iload_n Γ dX4_write_31 rfl ?_
      refine x_i2l Γ dX4_write_32 ?_
      refine x_lconst Γ (v := 0) dX4_write_33 rfl ?_
      refine x_aload_n Γ dX4_write_34 rfl ?_
      refine gf_X4_28 Γ dX4_write_35 (by decide) rfl rfl ?_
      refine x_iload_n Γ dX4_write_38 rfl ?_
      refine x_iald Γ dX4_write_39 (by decide) (by rfl) rfl (by first | assumption | omega) (by decide) rfl ?_
      refine x_iconst Γ (v := 1) dX4_write_40 rfl ?_
      refine x_isub Γ dX4_write_41 ?_
      refine x_i2l Γ dX4_write_42 ?_
      refine x_callS Γ cals_X4_in wl_X4_40 dX4_write_43 (m_in i 0 (R 5 j - 1) 0 ((R 5 j - 1).toInt64) rfl (Int32.toInt_toInt64 _)) rfl (by decide) rfl (Nat.le_of_ble_eq_true rfl) (Nat.le_refl _) (Nat.le_refl _) ?_
      refine x_if_ne Γ (tgt := 56) dX4_write_46 (by decide) (fun c_3 => ?_) (fun c_3 => ?_)
      · have c_3 := zb_n0.mp c_3
        obtain ⟨a, ha, rfl⟩ := in_lt hz ez c_3
        have ea : ci (nI a) = a := nI_clamp (by omega)
        clear ez
        refine x_aload_n Γ dX4_write_56 rfl ?_
        refine gf_X4_31 Γ dX4_write_57 (by decide) rfl rfl ?_
        refine x_bipush Γ (v := 40) dX4_write_60 rfl ?_
        refine x_iload_n Γ dX4_write_62 rfl ?_
        refine x_imul Γ dX4_write_63 ?_
        refine x_iload_n Γ dX4_write_64 rfl ?_
        refine x_iadd Γ dX4_write_65 ?_
        refine x_aload_n Γ dX4_write_66 rfl ?_
        refine gf_X4_25 Γ dX4_write_67 (by decide) rfl rfl ?_
        refine x_iload_n Γ dX4_write_70 rfl ?_
        refine x_iald Γ dX4_write_71 (by decide) (by rfl) rfl (by first | assumption | omega) (by decide) rfl ?_
        refine x_bipush Γ (v := 8) dX4_write_72 rfl ?_
        refine x_icmp_ne Γ (tgt := 82) dX4_write_74 (by decide) (fun c_4 => ?_) (fun c_4 => ?_)
        · refine x_aload_n Γ dX4_write_82 rfl ?_
          refine gf_X4_25 Γ dX4_write_83 (by decide) rfl rfl ?_
          refine x_iload_n Γ dX4_write_86 rfl ?_
          refine x_iald Γ dX4_write_87 (by decide) (by rfl) rfl (by first | assumption | omega) (by decide) rfl ?_
          refine x_bipush Γ (v := 16) dX4_write_88 rfl ?_
          refine x_icmp_ne Γ (tgt := 98) dX4_write_90 (by decide) (fun c_5 => ?_) (fun c_5 => ?_)
          · refine x_iload_n Γ dX4_write_98 rfl ?_
            refine x_iast Γ dX4_write_99 (by decide) (by rfl) (ix40 j a) (by omega) (by decide) hR_u6 ?_
            refine x_iconst Γ (v := 1) dX4_write_100 rfl ?_
            exact x_iret ρ rfl dX4_write_101 rfl (by simp [fr, fWr, *]; try rfl) rfl (by simp [fR, fWr, gWr, zwr, *]; exact zH.rf)
          · refine x_iload_n Γ dX4_write_93 rfl ?_
            refine x_i2s Γ dX4_write_94 ?_
            refine x_goto Γ (tgt := 99) dX4_write_95 (by decide) ?_
            refine x_iast Γ dX4_write_99 (by decide) (by rfl) (ix40 j a) (by omega) (by decide) hR_u6 ?_
            refine x_iconst Γ (v := 1) dX4_write_100 rfl ?_
            exact x_iret ρ rfl dX4_write_101 rfl (by simp [fr, fWr, *]; try rfl) rfl (by simp [fR, fWr, gWr, zwr, *]; exact zH.rf)
        · refine x_iload_n Γ dX4_write_77 rfl ?_
          refine x_i2b Γ dX4_write_78 ?_
          refine x_goto Γ (tgt := 99) dX4_write_79 (by decide) ?_
          refine x_iast Γ dX4_write_99 (by decide) (by rfl) (ix40 j a) (by omega) (by decide) hR_u6 ?_
          refine x_iconst Γ (v := 1) dX4_write_100 rfl ?_
          exact x_iret ρ rfl dX4_write_101 rfl (by simp [fr, fWr, *]; try rfl) rfl (by simp [fR, fWr, gWr, zwr, *]; exact zH.rf)
      · have c_3 := zb_0.mp c_3
        clear ez
        refine x_aload_n Γ dX4_write_49 rfl ?_
        refine x_ldc Γ wl_X4_34 dX4_write_50 ?_
        refine x_callV Γ calv_X4_finds wl_X4_36 dX4_write_52 (m_X4_finds (f := -1000001) (k := 0) (by decide) (by decide)) rfl (by decide) (by decide) rfl rfl rfl rfl (Nat.le_of_ble_eq_true rfl) (Nat.le_refl _) (Nat.le_refl _) ?_
        exact x_iret ρ rfl dX4_write_55 rfl (by simp [fr, fWr, *]; try rfl) rfl (by simp [fR, fWr, gWr, zwr, *]; exact zH.rf)
    · refine x_aload_n Γ dX4_write_23 rfl ?_
      refine x_ldcw Γ wl_X4_293 dX4_write_24 ?_
      refine x_callV Γ calv_X4_finds wl_X4_36 dX4_write_27 (m_X4_finds (f := -1000006) (k := 5) (by decide) (by decide)) rfl (by decide) (by decide) rfl rfl rfl rfl (Nat.le_of_ble_eq_true rfl) (Nat.le_refl _) (Nat.le_refl _) ?_
      exact x_iret ρ rfl dX4_write_30 rfl (by simp [fr, fWr, *]; try rfl) rfl (by simp [fR, fWr, gWr, zwr, *]; exact zH.rf)
  · have c_1 := zb_0.mp c_1
    refine x_aload_n Γ dX4_write_7 rfl ?_
    refine x_ldc Γ wl_X4_34 dX4_write_8 ?_
    refine x_callV Γ calv_X4_finds wl_X4_36 dX4_write_10 (m_X4_finds (f := -1000001) (k := 0) (by decide) (by decide)) rfl (by decide) (by decide) rfl rfl rfl rfl (Nat.le_of_ble_eq_true rfl) (Nat.le_refl _) (Nat.le_refl _) ?_
    exact x_iret ρ rfl dX4_write_13 rfl (by simp [fr, fWr, *]; try rfl) rfl (by simp [fR, fWr, gWr, zwr, *]; exact zH.rf)

def zeR (R : zT) (s : Nat) : Nat → zT
  | 0 => R
  | k + 1 => ts (zeR R s k) 6 (40 * s + k) 0
def shR (R : zT) (s : Nat) (b n : Int32) : zT := zeR (ts (ts R 4 s b) 5 s (if b = 0 then 0 else n)) s 40
theorem zeR_n {R : zT} {s a : Nat} (h : a ≠ 6) : ∀ k, zeR R s k a = R a := by
  intro k
  induction k with
  | zero => rfl
  | succ k ih => rw [zeR, ts_n h, ih]
def isB (b : Int32) : Bool := decide (b = 0) || decide (b = 8) || decide (b = 16) || decide (b = 32)
def fSh (s b n : Int32) : Nat := if inR s 0 3 = true ∧ isB b = true then (if n < 0 then 6 else if 40 < n then 0 else 7) else 0
def gSh (R : zT) (s b n : Int32) : zT := if fSh s b n = 7 then shR R (ci s) b n else fR R (fSh s b n)

set_option maxRecDepth 100000 in
set_option maxHeartbeats 4000000 in
theorem m_X4_sheet {g : Nat → zE} {T R : zT} (s b n : Int32) : zM 2 M_X4_sheet [.ref 37, .int s, .int b, .int n] (hR g T R) 46 (some (.int (fr (fSh s b n) (if b = 0 then 0 else n)))) (hR g (T) (gSh R s b n)) 46 0 0 := by
  refine zM.intro (by decide) (Nat.le_of_ble_eq_true rfl) ?_
  intro Wf V m H0 Γ ρ
  replace Γ : zC Wf V m 5 H0 cX4_sheet RX4 2 0 0 := Γ
  show zX Wf V m 5 H0 0 (zls [(0, .ref 37), (1, .int s), (2, .int b), (3, .int n)]) [] (hR g T R) 46 0 0
  refine x_iload_n Γ dX4_sheet_0 rfl ?_
  refine x_callS Γ cals_X4_isSheet wl_X4_298 dX4_sheet_1 (m_X4_isSheet s) rfl (by decide) rfl (Nat.le_of_ble_eq_true rfl) (Nat.le_refl _) (Nat.le_refl _) ?_
  refine x_if_eq Γ (tgt := 29) dX4_sheet_4 (by decide) (fun c_1 => ?_) (fun c_1 => ?_)
  · have c_1 := zb_0.mp c_1
    refine x_aload_n Γ dX4_sheet_29 rfl ?_
    refine x_ldc Γ wl_X4_34 dX4_sheet_30 ?_
    refine x_callV Γ calv_X4_finds wl_X4_36 dX4_sheet_32 (m_X4_finds (f := -1000001) (k := 0) (by decide) (by decide)) rfl (by decide) (by decide) rfl rfl rfl rfl (Nat.le_of_ble_eq_true rfl) (Nat.le_refl _) (Nat.le_refl _) ?_
    exact x_iret ρ rfl dX4_sheet_35 rfl (by simp [fr, fSh, isB, *]; try rfl) rfl (by simp [fR, fSh, gSh, shR, isB, *]; exact zH.rf)
  · have c_1 := zb_n0.mp c_1
    obtain ⟨j, hj, rfl⟩ := inR_nI (n := 3) c_1 rfl (by omega)
    have ej : ci (nI j) = j := nI_clamp (by omega)
    refine x_iload_n Γ dX4_sheet_7 rfl ?_
    refine x_if_eq Γ (tgt := 36) dX4_sheet_8 (by decide) (fun c_2 => ?_) (fun c_2 => ?_)
    · refine x_iload_n Γ dX4_sheet_36 rfl ?_
      refine x_if_ge Γ (tgt := 48) dX4_sheet_37 (by decide) (fun c_3 => ?_) (fun c_3 => ?_)
      · have c_3 := Int32.not_lt.mpr c_3
        refine x_iload_n Γ dX4_sheet_48 rfl ?_
        refine x_bipush Γ (v := 40) dX4_sheet_49 rfl ?_
        refine x_icmp_le Γ (tgt := 61) dX4_sheet_51 (by decide) (fun c_4 => ?_) (fun c_4 => ?_)
        · have c_4 := Int32.not_lt.mpr c_4
          refine x_aload_n Γ dX4_sheet_61 rfl ?_
          refine gf_X4_25 Γ dX4_sheet_62 (by decide) rfl rfl ?_
          refine x_iload_n Γ dX4_sheet_65 rfl ?_
          refine x_iload_n Γ dX4_sheet_66 rfl ?_
          refine x_iast Γ dX4_sheet_67 (by decide) (by rfl) rfl (by first | assumption | omega) (by decide) hR_u4 ?_
          refine x_aload_n Γ dX4_sheet_68 rfl ?_
          refine gf_X4_28 Γ dX4_sheet_69 (by decide) rfl rfl ?_
          refine x_iload_n Γ dX4_sheet_72 rfl ?_
          refine x_iload_n Γ dX4_sheet_73 rfl ?_
          refine x_if_ne Γ (tgt := 81) dX4_sheet_74 (by decide) (fun c_5 => ?_) (fun c_5 => ?_)
          · refine x_iload_n Γ dX4_sheet_81 rfl ?_
            refine x_iast Γ dX4_sheet_82 (by decide) (by rfl) rfl (by first | assumption | omega) (by decide) hR_u5 ?_
            refine x_iconst Γ (v := 0) dX4_sheet_83 rfl ?_
            refine x_istore Γ dX4_sheet_84 (by decide) ?_
            refine x_heap (h' := hR g T (zeR (ts (ts R 4 j b) 5 j (if b = 0 then 0 else n)) j 0)) (by first | (simp [zeR, *]; done) | (exfalso; simp_all; done)) ?_
            suffices L_86 : ∀ (k c : Nat), c ≤ 40 → 40 - c < k → zX Wf V m 5 H0 86 (zls [(0, .ref 37), (1, .int (nI j)), (4, .int (nI c))]) [] (hR g T (zeR (ts (ts R 4 j b) 5 j (if b = 0 then 0 else n)) j c)) 46 0 0 by
              exact x_subl [(0, .ref 37), (1, .int (nI j)), (4, .int (nI 0))] (List.forall_mem_cons.mpr ⟨rfl, List.forall_mem_cons.mpr ⟨rfl, List.forall_mem_cons.mpr ⟨rfl, fun _ hz => absurd hz List.not_mem_nil⟩⟩⟩) (L_86 41 0 (by omega) (by omega))
            intro k
            induction k with
            | zero => intro c q1 q2; omega
            | succ k ih =>
              intro c q1 q2
              refine x_iload Γ dX4_sheet_86 rfl ?_
              refine x_bipush Γ (v := 40) dX4_sheet_88 rfl ?_
              refine x_icmp_ge Γ (tgt := 112) dX4_sheet_90 (by decide) (fun c_6 => ?_) (fun c_6 => ?_)
              · have c_6 := z_le (a := 40) c_6 (by omega) (by omega)
                obtain rfl : c = 40 := by omega
                refine x_aload_n Γ dX4_sheet_112 rfl ?_
                refine gf_X4_28 Γ dX4_sheet_113 (by decide) rfl rfl ?_
                refine x_iload_n Γ dX4_sheet_116 rfl ?_
                refine x_iald Γ dX4_sheet_117 (by decide) (by rfl) rfl (by first | assumption | omega) (by decide) rfl ?_
                rw [zeR_n (by decide), ts_s]
                exact x_iret ρ rfl dX4_sheet_118 rfl (by simp [fr, fSh, isB, *]; try rfl) rfl (by simp [fSh, gSh, shR, isB, *]; exact zH.rf)
              · have c_6 := z_nle (a := 40) c_6 (by omega) (by omega)
                refine x_aload_n Γ dX4_sheet_93 rfl ?_
                refine gf_X4_31 Γ dX4_sheet_94 (by decide) rfl rfl ?_
                refine x_bipush Γ (v := 40) dX4_sheet_97 rfl ?_
                refine x_iload_n Γ dX4_sheet_99 rfl ?_
                refine x_imul Γ dX4_sheet_100 ?_
                refine x_iload Γ dX4_sheet_101 rfl ?_
                refine x_iadd Γ dX4_sheet_103 ?_
                refine x_iconst Γ (v := 0) dX4_sheet_104 rfl ?_
                refine x_iast Γ dX4_sheet_105 (by decide) (by rfl) (ix40 j c) (by omega) (by decide) hR_u6 ?_
                refine x_iinc Γ dX4_sheet_106 rfl (by first | exact zinc _ | rfl) (by decide) ?_
                refine x_goto Γ (tgt := 86) dX4_sheet_109 (by decide) ?_
                exact x_subl [(0, .ref 37), (1, .int (nI j)), (4, .int (nI (c + 1)))] (List.forall_mem_cons.mpr ⟨rfl, List.forall_mem_cons.mpr ⟨rfl, List.forall_mem_cons.mpr ⟨rfl, fun _ hz => absurd hz List.not_mem_nil⟩⟩⟩) (ih (c + 1) (by omega) (by omega))
          · refine x_iconst Γ (v := 0) dX4_sheet_77 rfl ?_
            refine x_goto Γ (tgt := 82) dX4_sheet_78 (by decide) ?_
            refine x_iast Γ dX4_sheet_82 (by decide) (by rfl) rfl (by first | assumption | omega) (by decide) hR_u5 ?_
            refine x_iconst Γ (v := 0) dX4_sheet_83 rfl ?_
            refine x_istore Γ dX4_sheet_84 (by decide) ?_
            refine x_heap (h' := hR g T (zeR (ts (ts R 4 j b) 5 j (if b = 0 then 0 else n)) j 0)) (by first | (simp [zeR, *]; done) | (exfalso; simp_all; done)) ?_
            suffices L_86 : ∀ (k c : Nat), c ≤ 40 → 40 - c < k → zX Wf V m 5 H0 86 (zls [(0, .ref 37), (1, .int (nI j)), (4, .int (nI c))]) [] (hR g T (zeR (ts (ts R 4 j b) 5 j (if b = 0 then 0 else n)) j c)) 46 0 0 by
              exact x_subl [(0, .ref 37), (1, .int (nI j)), (4, .int (nI 0))] (List.forall_mem_cons.mpr ⟨rfl, List.forall_mem_cons.mpr ⟨rfl, List.forall_mem_cons.mpr ⟨rfl, fun _ hz => absurd hz List.not_mem_nil⟩⟩⟩) (L_86 41 0 (by omega) (by omega))
            intro k
            induction k with
            | zero => intro c q1 q2; omega
            | succ k ih =>
              intro c q1 q2
              refine x_iload Γ dX4_sheet_86 rfl ?_
              refine x_bipush Γ (v := 40) dX4_sheet_88 rfl ?_
              refine x_icmp_ge Γ (tgt := 112) dX4_sheet_90 (by decide) (fun c_7 => ?_) (fun c_7 => ?_)
              · have c_7 := z_le (a := 40) c_7 (by omega) (by omega)
                obtain rfl : c = 40 := by omega
                refine x_aload_n Γ dX4_sheet_112 rfl ?_
                refine gf_X4_28 Γ dX4_sheet_113 (by decide) rfl rfl ?_
                refine x_iload_n Γ dX4_sheet_116 rfl ?_
                refine x_iald Γ dX4_sheet_117 (by decide) (by rfl) rfl (by first | assumption | omega) (by decide) rfl ?_
                rw [zeR_n (by decide), ts_s]
                exact x_iret ρ rfl dX4_sheet_118 rfl (by simp [fr, fSh, isB, *]; try rfl) rfl (by simp [fSh, gSh, shR, isB, *]; exact zH.rf)
              · have c_7 := z_nle (a := 40) c_7 (by omega) (by omega)
                refine x_aload_n Γ dX4_sheet_93 rfl ?_
                refine gf_X4_31 Γ dX4_sheet_94 (by decide) rfl rfl ?_
                refine x_bipush Γ (v := 40) dX4_sheet_97 rfl ?_
                refine x_iload_n Γ dX4_sheet_99 rfl ?_
                refine x_imul Γ dX4_sheet_100 ?_
                refine x_iload Γ dX4_sheet_101 rfl ?_
                refine x_iadd Γ dX4_sheet_103 ?_
                refine x_iconst Γ (v := 0) dX4_sheet_104 rfl ?_
                refine x_iast Γ dX4_sheet_105 (by decide) (by rfl) (ix40 j c) (by omega) (by decide) hR_u6 ?_
                refine x_iinc Γ dX4_sheet_106 rfl (by first | exact zinc _ | rfl) (by decide) ?_
                refine x_goto Γ (tgt := 86) dX4_sheet_109 (by decide) ?_
                exact x_subl [(0, .ref 37), (1, .int (nI j)), (4, .int (nI (c + 1)))] (List.forall_mem_cons.mpr ⟨rfl, List.forall_mem_cons.mpr ⟨rfl, List.forall_mem_cons.mpr ⟨rfl, fun _ hz => absurd hz List.not_mem_nil⟩⟩⟩) (ih (c + 1) (by omega) (by omega))
        · have c_4 := Int32.not_le.mp c_4
          refine x_aload_n Γ dX4_sheet_54 rfl ?_
          refine x_ldc Γ wl_X4_34 dX4_sheet_55 ?_
          refine x_callV Γ calv_X4_finds wl_X4_36 dX4_sheet_57 (m_X4_finds (f := -1000001) (k := 0) (by decide) (by decide)) rfl (by decide) (by decide) rfl rfl rfl rfl (Nat.le_of_ble_eq_true rfl) (Nat.le_refl _) (Nat.le_refl _) ?_
          exact x_iret ρ rfl dX4_sheet_60 rfl (by simp [fr, fSh, isB, *]; try rfl) rfl (by simp [fR, fSh, gSh, shR, isB, *]; exact zH.rf)
      · have c_3 := Int32.not_le.mp c_3
        refine x_aload_n Γ dX4_sheet_40 rfl ?_
        refine x_ldcw Γ wl_X4_301 dX4_sheet_41 ?_
        refine x_callV Γ calv_X4_finds wl_X4_36 dX4_sheet_44 (m_X4_finds (f := -1000007) (k := 6) (by decide) (by decide)) rfl (by decide) (by decide) rfl rfl rfl rfl (Nat.le_of_ble_eq_true rfl) (Nat.le_refl _) (Nat.le_refl _) ?_
        exact x_iret ρ rfl dX4_sheet_47 rfl (by simp [fr, fSh, isB, *]; try rfl) rfl (by simp [fR, fSh, gSh, shR, isB, *]; exact zH.rf)
    · refine x_iload_n Γ dX4_sheet_11 rfl ?_
      refine x_bipush Γ (v := 8) dX4_sheet_12 rfl ?_
      refine x_icmp_eq Γ (tgt := 36) dX4_sheet_14 (by decide) (fun c_8 => ?_) (fun c_8 => ?_)
      · refine x_iload_n Γ dX4_sheet_36 rfl ?_
        refine x_if_ge Γ (tgt := 48) dX4_sheet_37 (by decide) (fun c_9 => ?_) (fun c_9 => ?_)
        · have c_9 := Int32.not_lt.mpr c_9
          refine x_iload_n Γ dX4_sheet_48 rfl ?_
          refine x_bipush Γ (v := 40) dX4_sheet_49 rfl ?_
          refine x_icmp_le Γ (tgt := 61) dX4_sheet_51 (by decide) (fun c_10 => ?_) (fun c_10 => ?_)
          · have c_10 := Int32.not_lt.mpr c_10
            refine x_aload_n Γ dX4_sheet_61 rfl ?_
            refine gf_X4_25 Γ dX4_sheet_62 (by decide) rfl rfl ?_
            refine x_iload_n Γ dX4_sheet_65 rfl ?_
            refine x_iload_n Γ dX4_sheet_66 rfl ?_
            refine x_iast Γ dX4_sheet_67 (by decide) (by rfl) rfl (by first | assumption | omega) (by decide) hR_u4 ?_
            refine x_aload_n Γ dX4_sheet_68 rfl ?_
            refine gf_X4_28 Γ dX4_sheet_69 (by decide) rfl rfl ?_
            refine x_iload_n Γ dX4_sheet_72 rfl ?_
            refine x_iload_n Γ dX4_sheet_73 rfl ?_
            refine x_if_ne Γ (tgt := 81) dX4_sheet_74 (by decide) (fun c_11 => ?_) (fun c_11 => ?_)
            · refine x_iload_n Γ dX4_sheet_81 rfl ?_
              refine x_iast Γ dX4_sheet_82 (by decide) (by rfl) rfl (by first | assumption | omega) (by decide) hR_u5 ?_
              refine x_iconst Γ (v := 0) dX4_sheet_83 rfl ?_
              refine x_istore Γ dX4_sheet_84 (by decide) ?_
              refine x_heap (h' := hR g T (zeR (ts (ts R 4 j b) 5 j (if b = 0 then 0 else n)) j 0)) (by first | (simp [zeR, *]; done) | (exfalso; simp_all; done)) ?_
              suffices L_86 : ∀ (k c : Nat), c ≤ 40 → 40 - c < k → zX Wf V m 5 H0 86 (zls [(0, .ref 37), (1, .int (nI j)), (4, .int (nI c))]) [] (hR g T (zeR (ts (ts R 4 j b) 5 j (if b = 0 then 0 else n)) j c)) 46 0 0 by
                exact x_subl [(0, .ref 37), (1, .int (nI j)), (4, .int (nI 0))] (List.forall_mem_cons.mpr ⟨rfl, List.forall_mem_cons.mpr ⟨rfl, List.forall_mem_cons.mpr ⟨rfl, fun _ hz => absurd hz List.not_mem_nil⟩⟩⟩) (L_86 41 0 (by omega) (by omega))
              intro k
              induction k with
              | zero => intro c q1 q2; omega
              | succ k ih =>
                intro c q1 q2
                refine x_iload Γ dX4_sheet_86 rfl ?_
                refine x_bipush Γ (v := 40) dX4_sheet_88 rfl ?_
                refine x_icmp_ge Γ (tgt := 112) dX4_sheet_90 (by decide) (fun c_12 => ?_) (fun c_12 => ?_)
                · have c_12 := z_le (a := 40) c_12 (by omega) (by omega)
                  obtain rfl : c = 40 := by omega
                  refine x_aload_n Γ dX4_sheet_112 rfl ?_
                  refine gf_X4_28 Γ dX4_sheet_113 (by decide) rfl rfl ?_
                  refine x_iload_n Γ dX4_sheet_116 rfl ?_
                  refine x_iald Γ dX4_sheet_117 (by decide) (by rfl) rfl (by first | assumption | omega) (by decide) rfl ?_
                  rw [zeR_n (by decide), ts_s]
                  exact x_iret ρ rfl dX4_sheet_118 rfl (by simp [fr, fSh, isB, *]; try rfl) rfl (by simp [fSh, gSh, shR, isB, *]; exact zH.rf)
                · have c_12 := z_nle (a := 40) c_12 (by omega) (by omega)
                  refine x_aload_n Γ dX4_sheet_93 rfl ?_
                  refine gf_X4_31 Γ dX4_sheet_94 (by decide) rfl rfl ?_
                  refine x_bipush Γ (v := 40) dX4_sheet_97 rfl ?_
                  refine x_iload_n Γ dX4_sheet_99 rfl ?_
                  refine x_imul Γ dX4_sheet_100 ?_
                  refine x_iload Γ dX4_sheet_101 rfl ?_
                  refine x_iadd Γ dX4_sheet_103 ?_
                  refine x_iconst Γ (v := 0) dX4_sheet_104 rfl ?_
                  refine x_iast Γ dX4_sheet_105 (by decide) (by rfl) (ix40 j c) (by omega) (by decide) hR_u6 ?_
                  refine x_iinc Γ dX4_sheet_106 rfl (by first | exact zinc _ | rfl) (by decide) ?_
                  refine x_goto Γ (tgt := 86) dX4_sheet_109 (by decide) ?_
                  exact x_subl [(0, .ref 37), (1, .int (nI j)), (4, .int (nI (c + 1)))] (List.forall_mem_cons.mpr ⟨rfl, List.forall_mem_cons.mpr ⟨rfl, List.forall_mem_cons.mpr ⟨rfl, fun _ hz => absurd hz List.not_mem_nil⟩⟩⟩) (ih (c + 1) (by omega) (by omega))
            · refine x_iconst Γ (v := 0) dX4_sheet_77 rfl ?_
              refine x_goto Γ (tgt := 82) dX4_sheet_78 (by decide) ?_
              refine x_iast Γ dX4_sheet_82 (by decide) (by rfl) rfl (by first | assumption | omega) (by decide) hR_u5 ?_
              refine x_iconst Γ (v := 0) dX4_sheet_83 rfl ?_
              refine x_istore Γ dX4_sheet_84 (by decide) ?_
              refine x_heap (h' := hR g T (zeR (ts (ts R 4 j b) 5 j (if b = 0 then 0 else n)) j 0)) (by first | (simp [zeR, *]; done) | (exfalso; simp_all; done)) ?_
              suffices L_86 : ∀ (k c : Nat), c ≤ 40 → 40 - c < k → zX Wf V m 5 H0 86 (zls [(0, .ref 37), (1, .int (nI j)), (4, .int (nI c))]) [] (hR g T (zeR (ts (ts R 4 j b) 5 j (if b = 0 then 0 else n)) j c)) 46 0 0 by
                exact x_subl [(0, .ref 37), (1, .int (nI j)), (4, .int (nI 0))] (List.forall_mem_cons.mpr ⟨rfl, List.forall_mem_cons.mpr ⟨rfl, List.forall_mem_cons.mpr ⟨rfl, fun _ hz => absurd hz List.not_mem_nil⟩⟩⟩) (L_86 41 0 (by omega) (by omega))
              intro k
              induction k with
              | zero => intro c q1 q2; omega
              | succ k ih =>
                intro c q1 q2
                refine x_iload Γ dX4_sheet_86 rfl ?_
                refine x_bipush Γ (v := 40) dX4_sheet_88 rfl ?_
                refine x_icmp_ge Γ (tgt := 112) dX4_sheet_90 (by decide) (fun c_13 => ?_) (fun c_13 => ?_)
                · have c_13 := z_le (a := 40) c_13 (by omega) (by omega)
                  obtain rfl : c = 40 := by omega
                  refine x_aload_n Γ dX4_sheet_112 rfl ?_
                  refine gf_X4_28 Γ dX4_sheet_113 (by decide) rfl rfl ?_
                  refine x_iload_n Γ dX4_sheet_116 rfl ?_
                  refine x_iald Γ dX4_sheet_117 (by decide) (by rfl) rfl (by first | assumption | omega) (by decide) rfl ?_
                  rw [zeR_n (by decide), ts_s]
                  exact x_iret ρ rfl dX4_sheet_118 rfl (by simp [fr, fSh, isB, *]; try rfl) rfl (by simp [fSh, gSh, shR, isB, *]; exact zH.rf)
                · have c_13 := z_nle (a := 40) c_13 (by omega) (by omega)
                  refine x_aload_n Γ dX4_sheet_93 rfl ?_
                  refine gf_X4_31 Γ dX4_sheet_94 (by decide) rfl rfl ?_
                  refine x_bipush Γ (v := 40) dX4_sheet_97 rfl ?_
                  refine x_iload_n Γ dX4_sheet_99 rfl ?_
                  refine x_imul Γ dX4_sheet_100 ?_
                  refine x_iload Γ dX4_sheet_101 rfl ?_
                  refine x_iadd Γ dX4_sheet_103 ?_
                  refine x_iconst Γ (v := 0) dX4_sheet_104 rfl ?_
                  refine x_iast Γ dX4_sheet_105 (by decide) (by rfl) (ix40 j c) (by omega) (by decide) hR_u6 ?_
                  refine x_iinc Γ dX4_sheet_106 rfl (by first | exact zinc _ | rfl) (by decide) ?_
                  refine x_goto Γ (tgt := 86) dX4_sheet_109 (by decide) ?_
                  exact x_subl [(0, .ref 37), (1, .int (nI j)), (4, .int (nI (c + 1)))] (List.forall_mem_cons.mpr ⟨rfl, List.forall_mem_cons.mpr ⟨rfl, List.forall_mem_cons.mpr ⟨rfl, fun _ hz => absurd hz List.not_mem_nil⟩⟩⟩) (ih (c + 1) (by omega) (by omega))
          · have c_10 := Int32.not_le.mp c_10
            refine x_aload_n Γ dX4_sheet_54 rfl ?_
            refine x_ldc Γ wl_X4_34 dX4_sheet_55 ?_
            refine x_callV Γ calv_X4_finds wl_X4_36 dX4_sheet_57 (m_X4_finds (f := -1000001) (k := 0) (by decide) (by decide)) rfl (by decide) (by decide) rfl rfl rfl rfl (Nat.le_of_ble_eq_true rfl) (Nat.le_refl _) (Nat.le_refl _) ?_
            exact x_iret ρ rfl dX4_sheet_60 rfl (by simp [fr, fSh, isB, *]; try rfl) rfl (by simp [fR, fSh, gSh, shR, isB, *]; exact zH.rf)
        · have c_9 := Int32.not_le.mp c_9
          refine x_aload_n Γ dX4_sheet_40 rfl ?_
          refine x_ldcw Γ wl_X4_301 dX4_sheet_41 ?_
          refine x_callV Γ calv_X4_finds wl_X4_36 dX4_sheet_44 (m_X4_finds (f := -1000007) (k := 6) (by decide) (by decide)) rfl (by decide) (by decide) rfl rfl rfl rfl (Nat.le_of_ble_eq_true rfl) (Nat.le_refl _) (Nat.le_refl _) ?_
          exact x_iret ρ rfl dX4_sheet_47 rfl (by simp [fr, fSh, isB, *]; try rfl) rfl (by simp [fR, fSh, gSh, shR, isB, *]; exact zH.rf)
      · refine x_iload_n Γ dX4_sheet_17 rfl ?_
        refine x_bipush Γ (v := 16) dX4_sheet_18 rfl ?_
        refine x_icmp_eq Γ (tgt := 36) dX4_sheet_20 (by decide) (fun c_14 => ?_) (fun c_14 => ?_)
        · refine x_iload_n Γ dX4_sheet_36 rfl ?_
          refine x_if_ge Γ (tgt := 48) dX4_sheet_37 (by decide) (fun c_15 => ?_) (fun c_15 => ?_)
          · have c_15 := Int32.not_lt.mpr c_15
            refine x_iload_n Γ dX4_sheet_48 rfl ?_
            refine x_bipush Γ (v := 40) dX4_sheet_49 rfl ?_
            refine x_icmp_le Γ (tgt := 61) dX4_sheet_51 (by decide) (fun c_16 => ?_) (fun c_16 => ?_)
            · have c_16 := Int32.not_lt.mpr c_16
              refine x_aload_n Γ dX4_sheet_61 rfl ?_
              refine gf_X4_25 Γ dX4_sheet_62 (by decide) rfl rfl ?_
              refine x_iload_n Γ dX4_sheet_65 rfl ?_
              refine x_iload_n Γ dX4_sheet_66 rfl ?_
              refine x_iast Γ dX4_sheet_67 (by decide) (by rfl) rfl (by first | assumption | omega) (by decide) hR_u4 ?_
              refine x_aload_n Γ dX4_sheet_68 rfl ?_
              refine gf_X4_28 Γ dX4_sheet_69 (by decide) rfl rfl ?_
              refine x_iload_n Γ dX4_sheet_72 rfl ?_
              refine x_iload_n Γ dX4_sheet_73 rfl ?_
              refine x_if_ne Γ (tgt := 81) dX4_sheet_74 (by decide) (fun c_17 => ?_) (fun c_17 => ?_)
              · refine x_iload_n Γ dX4_sheet_81 rfl ?_
                refine x_iast Γ dX4_sheet_82 (by decide) (by rfl) rfl (by first | assumption | omega) (by decide) hR_u5 ?_
                refine x_iconst Γ (v := 0) dX4_sheet_83 rfl ?_
                refine x_istore Γ dX4_sheet_84 (by decide) ?_
                refine x_heap (h' := hR g T (zeR (ts (ts R 4 j b) 5 j (if b = 0 then 0 else n)) j 0)) (by first | (simp [zeR, *]; done) | (exfalso; simp_all; done)) ?_
                suffices L_86 : ∀ (k c : Nat), c ≤ 40 → 40 - c < k → zX Wf V m 5 H0 86 (zls [(0, .ref 37), (1, .int (nI j)), (4, .int (nI c))]) [] (hR g T (zeR (ts (ts R 4 j b) 5 j (if b = 0 then 0 else n)) j c)) 46 0 0 by
                  exact x_subl [(0, .ref 37), (1, .int (nI j)), (4, .int (nI 0))] (List.forall_mem_cons.mpr ⟨rfl, List.forall_mem_cons.mpr ⟨rfl, List.forall_mem_cons.mpr ⟨rfl, fun _ hz => absurd hz List.not_mem_nil⟩⟩⟩) (L_86 41 0 (by omega) (by omega))
                intro k
                induction k with
                | zero => intro c q1 q2; omega
                | succ k ih =>
                  intro c q1 q2
                  refine x_iload Γ dX4_sheet_86 rfl ?_
                  refine x_bipush Γ (v := 40) dX4_sheet_88 rfl ?_
                  refine x_icmp_ge Γ (tgt := 112) dX4_sheet_90 (by decide) (fun c_18 => ?_) (fun c_18 => ?_)
                  · have c_18 := z_le (a := 40) c_18 (by omega) (by omega)
                    obtain rfl : c = 40 := by omega
                    refine x_aload_n Γ dX4_sheet_112 rfl ?_
                    refine gf_X4_28 Γ dX4_sheet_113 (by decide) rfl rfl ?_
                    refine x_iload_n Γ dX4_sheet_116 rfl ?_
                    refine x_iald Γ dX4_sheet_117 (by decide) (by rfl) rfl (by first | assumption | omega) (by decide) rfl ?_
                    rw [zeR_n (by decide), ts_s]
                    exact x_iret ρ rfl dX4_sheet_118 rfl (by simp [fr, fSh, isB, *]; try rfl) rfl (by simp [fSh, gSh, shR, isB, *]; exact zH.rf)
                  · have c_18 := z_nle (a := 40) c_18 (by omega) (by omega)
                    refine x_aload_n Γ dX4_sheet_93 rfl ?_
                    refine gf_X4_31 Γ dX4_sheet_94 (by decide) rfl rfl ?_
                    refine x_bipush Γ (v := 40) dX4_sheet_97 rfl ?_
                    refine x_iload_n Γ dX4_sheet_99 rfl ?_
                    refine x_imul Γ dX4_sheet_100 ?_
                    refine x_iload Γ dX4_sheet_101 rfl ?_
                    refine x_iadd Γ dX4_sheet_103 ?_
                    refine x_iconst Γ (v := 0) dX4_sheet_104 rfl ?_
                    refine x_iast Γ dX4_sheet_105 (by decide) (by rfl) (ix40 j c) (by omega) (by decide) hR_u6 ?_
                    refine x_iinc Γ dX4_sheet_106 rfl (by first | exact zinc _ | rfl) (by decide) ?_
                    refine x_goto Γ (tgt := 86) dX4_sheet_109 (by decide) ?_
                    exact x_subl [(0, .ref 37), (1, .int (nI j)), (4, .int (nI (c + 1)))] (List.forall_mem_cons.mpr ⟨rfl, List.forall_mem_cons.mpr ⟨rfl, List.forall_mem_cons.mpr ⟨rfl, fun _ hz => absurd hz List.not_mem_nil⟩⟩⟩) (ih (c + 1) (by omega) (by omega))
              · refine x_iconst Γ (v := 0) dX4_sheet_77 rfl ?_
                refine x_goto Γ (tgt := 82) dX4_sheet_78 (by decide) ?_
                refine x_iast Γ dX4_sheet_82 (by decide) (by rfl) rfl (by first | assumption | omega) (by decide) hR_u5 ?_
                refine x_iconst Γ (v := 0) dX4_sheet_83 rfl ?_
                refine x_istore Γ dX4_sheet_84 (by decide) ?_
                refine x_heap (h' := hR g T (zeR (ts (ts R 4 j b) 5 j (if b = 0 then 0 else n)) j 0)) (by first | (simp [zeR, *]; done) | (exfalso; simp_all; done)) ?_
                suffices L_86 : ∀ (k c : Nat), c ≤ 40 → 40 - c < k → zX Wf V m 5 H0 86 (zls [(0, .ref 37), (1, .int (nI j)), (4, .int (nI c))]) [] (hR g T (zeR (ts (ts R 4 j b) 5 j (if b = 0 then 0 else n)) j c)) 46 0 0 by
                  exact x_subl [(0, .ref 37), (1, .int (nI j)), (4, .int (nI 0))] (List.forall_mem_cons.mpr ⟨rfl, List.forall_mem_cons.mpr ⟨rfl, List.forall_mem_cons.mpr ⟨rfl, fun _ hz => absurd hz List.not_mem_nil⟩⟩⟩) (L_86 41 0 (by omega) (by omega))
                intro k
                induction k with
                | zero => intro c q1 q2; omega
                | succ k ih =>
                  intro c q1 q2
                  refine x_iload Γ dX4_sheet_86 rfl ?_
                  refine x_bipush Γ (v := 40) dX4_sheet_88 rfl ?_
                  refine x_icmp_ge Γ (tgt := 112) dX4_sheet_90 (by decide) (fun c_19 => ?_) (fun c_19 => ?_)
                  · have c_19 := z_le (a := 40) c_19 (by omega) (by omega)
                    obtain rfl : c = 40 := by omega
                    refine x_aload_n Γ dX4_sheet_112 rfl ?_
                    refine gf_X4_28 Γ dX4_sheet_113 (by decide) rfl rfl ?_
                    refine x_iload_n Γ dX4_sheet_116 rfl ?_
                    refine x_iald Γ dX4_sheet_117 (by decide) (by rfl) rfl (by first | assumption | omega) (by decide) rfl ?_
                    rw [zeR_n (by decide), ts_s]
                    exact x_iret ρ rfl dX4_sheet_118 rfl (by simp [fr, fSh, isB, *]; try rfl) rfl (by simp [fSh, gSh, shR, isB, *]; exact zH.rf)
                  · have c_19 := z_nle (a := 40) c_19 (by omega) (by omega)
                    refine x_aload_n Γ dX4_sheet_93 rfl ?_
                    refine gf_X4_31 Γ dX4_sheet_94 (by decide) rfl rfl ?_
                    refine x_bipush Γ (v := 40) dX4_sheet_97 rfl ?_
                    refine x_iload_n Γ dX4_sheet_99 rfl ?_
                    refine x_imul Γ dX4_sheet_100 ?_
                    refine x_iload Γ dX4_sheet_101 rfl ?_
                    refine x_iadd Γ dX4_sheet_103 ?_
                    refine x_iconst Γ (v := 0) dX4_sheet_104 rfl ?_
                    refine x_iast Γ dX4_sheet_105 (by decide) (by rfl) (ix40 j c) (by omega) (by decide) hR_u6 ?_
                    refine x_iinc Γ dX4_sheet_106 rfl (by first | exact zinc _ | rfl) (by decide) ?_
                    refine x_goto Γ (tgt := 86) dX4_sheet_109 (by decide) ?_
                    exact x_subl [(0, .ref 37), (1, .int (nI j)), (4, .int (nI (c + 1)))] (List.forall_mem_cons.mpr ⟨rfl, List.forall_mem_cons.mpr ⟨rfl, List.forall_mem_cons.mpr ⟨rfl, fun _ hz => absurd hz List.not_mem_nil⟩⟩⟩) (ih (c + 1) (by omega) (by omega))
            · have c_16 := Int32.not_le.mp c_16
              refine x_aload_n Γ dX4_sheet_54 rfl ?_
              refine x_ldc Γ wl_X4_34 dX4_sheet_55 ?_
              refine x_callV Γ calv_X4_finds wl_X4_36 dX4_sheet_57 (m_X4_finds (f := -1000001) (k := 0) (by decide) (by decide)) rfl (by decide) (by decide) rfl rfl rfl rfl (Nat.le_of_ble_eq_true rfl) (Nat.le_refl _) (Nat.le_refl _) ?_
              exact x_iret ρ rfl dX4_sheet_60 rfl (by simp [fr, fSh, isB, *]; try rfl) rfl (by simp [fR, fSh, gSh, shR, isB, *]; exact zH.rf)
          · have c_15 := Int32.not_le.mp c_15
            refine x_aload_n Γ dX4_sheet_40 rfl ?_
            refine x_ldcw Γ wl_X4_301 dX4_sheet_41 ?_
            refine x_callV Γ calv_X4_finds wl_X4_36 dX4_sheet_44 (m_X4_finds (f := -1000007) (k := 6) (by decide) (by decide)) rfl (by decide) (by decide) rfl rfl rfl rfl (Nat.le_of_ble_eq_true rfl) (Nat.le_refl _) (Nat.le_refl _) ?_
            exact x_iret ρ rfl dX4_sheet_47 rfl (by simp [fr, fSh, isB, *]; try rfl) rfl (by simp [fR, fSh, gSh, shR, isB, *]; exact zH.rf)
        · refine x_iload_n Γ dX4_sheet_23 rfl ?_
          refine x_bipush Γ (v := 32) dX4_sheet_24 rfl ?_
          refine x_icmp_eq Γ (tgt := 36) dX4_sheet_26 (by decide) (fun c_20 => ?_) (fun c_20 => ?_)
          · refine x_iload_n Γ dX4_sheet_36 rfl ?_
            refine x_if_ge Γ (tgt := 48) dX4_sheet_37 (by decide) (fun c_21 => ?_) (fun c_21 => ?_)
            · have c_21 := Int32.not_lt.mpr c_21
              refine x_iload_n Γ dX4_sheet_48 rfl ?_
              refine x_bipush Γ (v := 40) dX4_sheet_49 rfl ?_
              refine x_icmp_le Γ (tgt := 61) dX4_sheet_51 (by decide) (fun c_22 => ?_) (fun c_22 => ?_)
              · have c_22 := Int32.not_lt.mpr c_22
                refine x_aload_n Γ dX4_sheet_61 rfl ?_
                refine gf_X4_25 Γ dX4_sheet_62 (by decide) rfl rfl ?_
                refine x_iload_n Γ dX4_sheet_65 rfl ?_
                refine x_iload_n Γ dX4_sheet_66 rfl ?_
                refine x_iast Γ dX4_sheet_67 (by decide) (by rfl) rfl (by first | assumption | omega) (by decide) hR_u4 ?_
                refine x_aload_n Γ dX4_sheet_68 rfl ?_
                refine gf_X4_28 Γ dX4_sheet_69 (by decide) rfl rfl ?_
                refine x_iload_n Γ dX4_sheet_72 rfl ?_
                refine x_iload_n Γ dX4_sheet_73 rfl ?_
                refine x_if_ne Γ (tgt := 81) dX4_sheet_74 (by decide) (fun c_23 => ?_) (fun c_23 => ?_)
                · refine x_iload_n Γ dX4_sheet_81 rfl ?_
                  refine x_iast Γ dX4_sheet_82 (by decide) (by rfl) rfl (by first | assumption | omega) (by decide) hR_u5 ?_
                  refine x_iconst Γ (v := 0) dX4_sheet_83 rfl ?_
                  refine x_istore Γ dX4_sheet_84 (by decide) ?_
                  refine x_heap (h' := hR g T (zeR (ts (ts R 4 j b) 5 j (if b = 0 then 0 else n)) j 0)) (by first | (simp [zeR, *]; done) | (exfalso; simp_all; done)) ?_
                  suffices L_86 : ∀ (k c : Nat), c ≤ 40 → 40 - c < k → zX Wf V m 5 H0 86 (zls [(0, .ref 37), (1, .int (nI j)), (4, .int (nI c))]) [] (hR g T (zeR (ts (ts R 4 j b) 5 j (if b = 0 then 0 else n)) j c)) 46 0 0 by
                    exact x_subl [(0, .ref 37), (1, .int (nI j)), (4, .int (nI 0))] (List.forall_mem_cons.mpr ⟨rfl, List.forall_mem_cons.mpr ⟨rfl, List.forall_mem_cons.mpr ⟨rfl, fun _ hz => absurd hz List.not_mem_nil⟩⟩⟩) (L_86 41 0 (by omega) (by omega))
                  intro k
                  induction k with
                  | zero => intro c q1 q2; omega
                  | succ k ih =>
                    intro c q1 q2
                    refine x_iload Γ dX4_sheet_86 rfl ?_
                    refine x_bipush Γ (v := 40) dX4_sheet_88 rfl ?_
                    refine x_icmp_ge Γ (tgt := 112) dX4_sheet_90 (by decide) (fun c_24 => ?_) (fun c_24 => ?_)
                    · have c_24 := z_le (a := 40) c_24 (by omega) (by omega)
                      obtain rfl : c = 40 := by omega
                      refine x_aload_n Γ dX4_sheet_112 rfl ?_
                      refine gf_X4_28 Γ dX4_sheet_113 (by decide) rfl rfl ?_
                      refine x_iload_n Γ dX4_sheet_116 rfl ?_
                      refine x_iald Γ dX4_sheet_117 (by decide) (by rfl) rfl (by first | assumption | omega) (by decide) rfl ?_
                      rw [zeR_n (by decide), ts_s]
                      exact x_iret ρ rfl dX4_sheet_118 rfl (by simp [fr, fSh, isB, *]; try rfl) rfl (by simp [fSh, gSh, shR, isB, *]; exact zH.rf)
                    · have c_24 := z_nle (a := 40) c_24 (by omega) (by omega)
                      refine x_aload_n Γ dX4_sheet_93 rfl ?_
                      refine gf_X4_31 Γ dX4_sheet_94 (by decide) rfl rfl ?_
                      refine x_bipush Γ (v := 40) dX4_sheet_97 rfl ?_
                      refine x_iload_n Γ dX4_sheet_99 rfl ?_
                      refine x_imul Γ dX4_sheet_100 ?_
                      refine x_iload Γ dX4_sheet_101 rfl ?_
                      refine x_iadd Γ dX4_sheet_103 ?_
                      refine x_iconst Γ (v := 0) dX4_sheet_104 rfl ?_
                      refine x_iast Γ dX4_sheet_105 (by decide) (by rfl) (ix40 j c) (by omega) (by decide) hR_u6 ?_
                      refine x_iinc Γ dX4_sheet_106 rfl (by first | exact zinc _ | rfl) (by decide) ?_
                      refine x_goto Γ (tgt := 86) dX4_sheet_109 (by decide) ?_
                      exact x_subl [(0, .ref 37), (1, .int (nI j)), (4, .int (nI (c + 1)))] (List.forall_mem_cons.mpr ⟨rfl, List.forall_mem_cons.mpr ⟨rfl, List.forall_mem_cons.mpr ⟨rfl, fun _ hz => absurd hz List.not_mem_nil⟩⟩⟩) (ih (c + 1) (by omega) (by omega))
                · refine x_iconst Γ (v := 0) dX4_sheet_77 rfl ?_
                  refine x_goto Γ (tgt := 82) dX4_sheet_78 (by decide) ?_
                  refine x_iast Γ dX4_sheet_82 (by decide) (by rfl) rfl (by first | assumption | omega) (by decide) hR_u5 ?_
                  refine x_iconst Γ (v := 0) dX4_sheet_83 rfl ?_
                  refine x_istore Γ dX4_sheet_84 (by decide) ?_
                  refine x_heap (h' := hR g T (zeR (ts (ts R 4 j b) 5 j (if b = 0 then 0 else n)) j 0)) (by first | (simp [zeR, *]; done) | (exfalso; simp_all; done)) ?_
                  suffices L_86 : ∀ (k c : Nat), c ≤ 40 → 40 - c < k → zX Wf V m 5 H0 86 (zls [(0, .ref 37), (1, .int (nI j)), (4, .int (nI c))]) [] (hR g T (zeR (ts (ts R 4 j b) 5 j (if b = 0 then 0 else n)) j c)) 46 0 0 by
                    exact x_subl [(0, .ref 37), (1, .int (nI j)), (4, .int (nI 0))] (List.forall_mem_cons.mpr ⟨rfl, List.forall_mem_cons.mpr ⟨rfl, List.forall_mem_cons.mpr ⟨rfl, fun _ hz => absurd hz List.not_mem_nil⟩⟩⟩) (L_86 41 0 (by omega) (by omega))
                  intro k
                  induction k with
                  | zero => intro c q1 q2; omega
                  | succ k ih =>
                    intro c q1 q2
                    refine x_iload Γ dX4_sheet_86 rfl ?_
                    refine x_bipush Γ (v := 40) dX4_sheet_88 rfl ?_
                    refine x_icmp_ge Γ (tgt := 112) dX4_sheet_90 (by decide) (fun c_25 => ?_) (fun c_25 => ?_)
                    · have c_25 := z_le (a := 40) c_25 (by omega) (by omega)
                      obtain rfl : c = 40 := by omega
                      refine x_aload_n Γ dX4_sheet_112 rfl ?_
                      refine gf_X4_28 Γ dX4_sheet_113 (by decide) rfl rfl ?_
                      refine x_iload_n Γ dX4_sheet_116 rfl ?_
                      refine x_iald Γ dX4_sheet_117 (by decide) (by rfl) rfl (by first | assumption | omega) (by decide) rfl ?_
                      rw [zeR_n (by decide), ts_s]
                      exact x_iret ρ rfl dX4_sheet_118 rfl (by simp [fr, fSh, isB, *]; try rfl) rfl (by simp [fSh, gSh, shR, isB, *]; exact zH.rf)
                    · have c_25 := z_nle (a := 40) c_25 (by omega) (by omega)
                      refine x_aload_n Γ dX4_sheet_93 rfl ?_
                      refine gf_X4_31 Γ dX4_sheet_94 (by decide) rfl rfl ?_
                      refine x_bipush Γ (v := 40) dX4_sheet_97 rfl ?_
                      refine x_iload_n Γ dX4_sheet_99 rfl ?_
                      refine x_imul Γ dX4_sheet_100 ?_
                      refine x_iload Γ dX4_sheet_101 rfl ?_
                      refine x_iadd Γ dX4_sheet_103 ?_
                      refine x_iconst Γ (v := 0) dX4_sheet_104 rfl ?_
                      refine x_iast Γ dX4_sheet_105 (by decide) (by rfl) (ix40 j c) (by omega) (by decide) hR_u6 ?_
                      refine x_iinc Γ dX4_sheet_106 rfl (by first | exact zinc _ | rfl) (by decide) ?_
                      refine x_goto Γ (tgt := 86) dX4_sheet_109 (by decide) ?_
                      exact x_subl [(0, .ref 37), (1, .int (nI j)), (4, .int (nI (c + 1)))] (List.forall_mem_cons.mpr ⟨rfl, List.forall_mem_cons.mpr ⟨rfl, List.forall_mem_cons.mpr ⟨rfl, fun _ hz => absurd hz List.not_mem_nil⟩⟩⟩) (ih (c + 1) (by omega) (by omega))
              · have c_22 := Int32.not_le.mp c_22
                refine x_aload_n Γ dX4_sheet_54 rfl ?_
                refine x_ldc Γ wl_X4_34 dX4_sheet_55 ?_
                refine x_callV Γ calv_X4_finds wl_X4_36 dX4_sheet_57 (m_X4_finds (f := -1000001) (k := 0) (by decide) (by decide)) rfl (by decide) (by decide) rfl rfl rfl rfl (Nat.le_of_ble_eq_true rfl) (Nat.le_refl _) (Nat.le_refl _) ?_
                exact x_iret ρ rfl dX4_sheet_60 rfl (by simp [fr, fSh, isB, *]; try rfl) rfl (by simp [fR, fSh, gSh, shR, isB, *]; exact zH.rf)
            · have c_21 := Int32.not_le.mp c_21
              refine x_aload_n Γ dX4_sheet_40 rfl ?_
              refine x_ldcw Γ wl_X4_301 dX4_sheet_41 ?_
              refine x_callV Γ calv_X4_finds wl_X4_36 dX4_sheet_44 (m_X4_finds (f := -1000007) (k := 6) (by decide) (by decide)) rfl (by decide) (by decide) rfl rfl rfl rfl (Nat.le_of_ble_eq_true rfl) (Nat.le_refl _) (Nat.le_refl _) ?_
              exact x_iret ρ rfl dX4_sheet_47 rfl (by simp [fr, fSh, isB, *]; try rfl) rfl (by simp [fR, fSh, gSh, shR, isB, *]; exact zH.rf)
          · refine x_aload_n Γ dX4_sheet_29 rfl ?_
            refine x_ldc Γ wl_X4_34 dX4_sheet_30 ?_
            refine x_callV Γ calv_X4_finds wl_X4_36 dX4_sheet_32 (m_X4_finds (f := -1000001) (k := 0) (by decide) (by decide)) rfl (by decide) (by decide) rfl rfl rfl rfl (Nat.le_of_ble_eq_true rfl) (Nat.le_refl _) (Nat.le_refl _) ?_
            exact x_iret ρ rfl dX4_sheet_35 rfl (by simp [fr, fSh, isB, *]; try rfl) rfl (by simp [fR, fSh, gSh, shR, isB, *]; exact zH.rf)
