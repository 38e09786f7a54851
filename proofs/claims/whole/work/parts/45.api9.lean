def fSb (R : zT) (s : Int32) : Nat := if inR s 0 3 = true then (if R 4 (ci s) = 0 then 5 else 7) else 0
def ldT (T R : zT) (s : Nat) : Nat → zT
  | 0 => T
  | n + 1 => ts (ldT T R s n) 1 n (R 6 (40 * s + n))
theorem ldT_n {T R : zT} {s a : Nat} (h : a ≠ 1) : ∀ k, ldT T R s k a = T a := by
  intro k
  induction k with
  | zero => rfl
  | succ k ih => rw [ldT, ts_n h, ih]
def ldn (R : zT) (s z N : Nat) : Nat → Nat → Nat
  | 0, n => n
  | k + 1, n => if n < z ∧ n < N ∧ inR (R 6 (40 * s + n)) 0 9 = true then ldn R s z N k (n + 1) else n
theorem ldn_n {R : zT} {s z N k n : Nat} (h : ¬ (n < z ∧ n < N ∧ inR (R 6 (40 * s + n)) 0 9 = true)) : ldn R s z N k n = n := by
  cases k with
  | zero => rfl
  | succ k => exact if_neg h
def rLd (R : zT) (N : Nat) (s : Int32) : Nat := ldn R (ci s) (ci (R 5 (ci s))) N 11 0
def tLd (T R : zT) (N : Nat) (s : Int32) : zT := if fSb R s = 7 then ldT T R (ci s) (rLd R N s) else T
def jdS (T R : zT) (N s : Nat) : Nat → Nat → Int32
  | 0, _ => 0
  | k + 1, i => if R 6 (40 * s + i) = wks N (i + 1) T 7 6 then jdS T R N s k (i + 1) else nI (i + 1)
def fJu (T R : zT) (s : Int32) : Nat := if inR s 0 3 = true then (if R 4 (ci s) = 0 then 5 else if 999 < T 7 5 + R 5 (ci s) then 4 else 7) else 0
def rJu (T R : zT) (N : Nat) (s : Int32) : Int32 := jdS T R N (ci s) (ci (R 5 (ci s))) 0

set_option maxRecDepth 100000 in
set_option maxHeartbeats 4000000 in
theorem m_X4_load {g : Nat → zE} {T R : zT} {N : Nat} (hN : wN T N) (hS : wS R) (s : Int32) : zM 2 M_X4_load [.ref 37, .int s] (hR g T R) 46 (some (.int (fr (fSb R s) (nI (rLd R N s))))) (hR g (tLd T R N s) (fR R (fSb R s))) 46 0 0 := by
  refine zM.intro (by decide) (Nat.le_of_ble_eq_true rfl) ?_
  intro Wf V m H0 Γ ρ
  replace Γ : zC Wf V m 3 H0 cX4_load RX4 2 0 0 := Γ
  show zX Wf V m 3 H0 0 (zls [(0, .ref 37), (1, .int s)]) [] (hR g T R) 46 0 0
  have hN2 := hN.2
  refine x_iload_n Γ dX4_load_0 rfl ?_
  refine x_callS Γ cals_X4_isSheet wl_X4_298 dX4_load_1 (m_X4_isSheet s) rfl (by decide) rfl (Nat.le_of_ble_eq_true rfl) (Nat.le_refl _) (Nat.le_refl _) ?_
  refine x_if_ne Γ (tgt := 14) dX4_load_4 (by decide) (fun c_1 => ?_) (fun c_1 => ?_)
  · have c_1 := zb_n0.mp c_1
    obtain ⟨j, hj, rfl⟩ := inR_nI (n := 3) c_1 rfl (by omega)
    have ej : ci (nI j) = j := nI_clamp (by omega)
    obtain ⟨z, hz, ez⟩ := hS j (by omega)
    have ezz : ci (R 5 j) = z := by rw [ez]; exact nI_clamp (by omega)
    refine x_aload_n Γ dX4_load_14 rfl ?_
    refine gf_X4_25 Γ dX4_load_15 (by decide) rfl rfl ?_
    refine x_iload_n Γ dX4_load_18 rfl ?_
    refine x_iald Γ dX4_load_19 (by decide) (by rfl) rfl (by first | assumption | omega) (by decide) rfl ?_
    refine x_if_ne Γ (tgt := 31) dX4_load_20 (by decide) (fun c_2 => ?_) (fun c_2 => ?_)
    · refine x_iconst Γ (v := 0) dX4_load_31 rfl ?_
      refine x_istore_n Γ dX4_load_32 (by decide) ?_
      suffices L_33 : ∀ (f k n : Nat), k < f → n + k = 11 → ldn R j z N k n = ldn R j z N 11 0 → zX Wf V m 3 H0 33 (zls [(0, .ref 37), (1, .int (nI j)), (2, .int (nI n))]) [] (hR g (ldT T R j n) R) 46 0 0 by
        exact x_subl [(0, .ref 37), (1, .int (nI j)), (2, .int (nI 0))] (List.forall_mem_cons.mpr ⟨rfl, List.forall_mem_cons.mpr ⟨rfl, List.forall_mem_cons.mpr ⟨rfl, fun _ hz => absurd hz List.not_mem_nil⟩⟩⟩) (L_33 12 11 0 (by omega) (by omega) rfl)
      intro f
      induction f with
      | zero => intro k n q1; omega
      | succ f ih =>
        intro k n q1 q2 q3
        refine x_iload_n Γ dX4_load_33 rfl ?_
        refine x_aload_n Γ dX4_load_34 rfl ?_
        refine gf_X4_28 Γ dX4_load_35 (by decide) rfl rfl ?_
        refine x_iload_n Γ dX4_load_38 rfl ?_
        refine x_iald Γ dX4_load_39 (by decide) (by rfl) rfl (by first | assumption | omega) (by decide) rfl ?_
        refine x_icmp_ge Γ (tgt := 94) dX4_load_40 (by decide) (fun c_3 => ?_) (fun c_3 => ?_)
        · rw [ez] at c_3
          have c_3 := z_le c_3 (by omega) (by omega)
          clear ez
          have h7 : ldn R j z N 11 0 = n := q3.symm.trans (ldn_n (fun w => by omega))
          clear q3
          refine x_iload_n Γ dX4_load_94 rfl ?_
          exact x_iret ρ rfl dX4_load_95 rfl (by simp [fr, fSb, rLd, *]; try rfl) rfl (by simp [fR, fSb, tLd, rLd, *]; exact zH.rf)
        · rw [ez] at c_3
          have c_3 := z_nle c_3 (by omega) (by omega)
          refine x_iload_n Γ dX4_load_43 rfl ?_
          refine x_aload_n Γ dX4_load_44 rfl ?_
          refine gf_X4_9 Γ dX4_load_45 (by decide) rfl rfl ?_
          refine x_bipush Γ (v := 8) dX4_load_48 rfl ?_
          refine x_iald Γ dX4_load_50 (by decide) (by rfl) (j := 8) rfl (by decide) (by decide) (mr_s (by decide)) ?_
          refine x_icmp_ge Γ (tgt := 94) dX4_load_51 (by decide) (fun c_4 => ?_) (fun c_4 => ?_)
          · rw [ldT_n (a := 7) (by decide), hN.1] at c_4
            have c_4 := z_le c_4 (by omega) (by omega)
            clear ez
            have h7 : ldn R j z N 11 0 = n := q3.symm.trans (ldn_n (fun w => by omega))
            clear q3
            refine x_iload_n Γ dX4_load_94 rfl ?_
            exact x_iret ρ rfl dX4_load_95 rfl (by simp [fr, fSb, rLd, *]; try rfl) rfl (by simp [fR, fSb, tLd, rLd, *]; exact zH.rf)
          · rw [ldT_n (a := 7) (by decide), hN.1] at c_4
            have c_4 := z_nle c_4 (by omega) (by omega)
            refine x_aload_n Γ dX4_load_54 rfl ?_
            refine gf_X4_31 Γ dX4_load_55 (by decide) rfl rfl ?_
            refine x_bipush Γ (v := 40) dX4_load_58 rfl ?_
            refine x_iload_n Γ dX4_load_60 rfl ?_
            refine x_imul Γ dX4_load_61 ?_
            refine x_iload_n Γ dX4_load_62 rfl ?_
            refine x_iadd Γ dX4_load_63 ?_
            refine x_iald Γ dX4_load_64 (by decide) (by rfl) (ix40 j n) (by omega) (by decide) rfl ?_
            refine x_callS Γ cals_X4_isHunger wl_X4_78 dX4_load_65 (m_X4_isHunger (R 6 (40 * j + n))) rfl (by decide) rfl (Nat.le_of_ble_eq_true rfl) (Nat.le_refl _) (Nat.le_refl _) ?_
            refine x_if_eq Γ (tgt := 94) dX4_load_68 (by decide) (fun c_5 => ?_) (fun c_5 => ?_)
            · have c_5 := zb_0.mp c_5
              clear ez
              have h7 : ldn R j z N 11 0 = n := q3.symm.trans (ldn_n (fun w => by rw [w.2.2] at c_5; cases c_5))
              clear q3
              refine x_iload_n Γ dX4_load_94 rfl ?_
              exact x_iret ρ rfl dX4_load_95 rfl (by simp [fr, fSb, rLd, *]; try rfl) rfl (by simp [fR, fSb, tLd, rLd, *]; exact zH.rf)
            · have c_5 := zb_n0.mp c_5
              obtain ⟨k1, rfl⟩ : ∃ k1, k = k1 + 1 := ⟨k - 1, by omega⟩
              have q5 : ldn R j z N k1 (n + 1) = ldn R j z N 11 0 := (if_pos ⟨by omega, by omega, c_5⟩).symm.trans q3
              refine x_aload_n Γ dX4_load_71 rfl ?_
              refine x_iload_n Γ dX4_load_72 rfl ?_
              refine x_iconst Γ (v := 1) dX4_load_73 rfl ?_
              refine x_aload_n Γ dX4_load_74 rfl ?_
              refine gf_X4_31 Γ dX4_load_75 (by decide) rfl rfl ?_
              refine x_bipush Γ (v := 40) dX4_load_78 rfl ?_
              refine x_iload_n Γ dX4_load_80 rfl ?_
              refine x_imul Γ dX4_load_81 ?_
              refine x_iload_n Γ dX4_load_82 rfl ?_
              refine x_iadd Γ dX4_load_83 ?_
              refine x_iald Γ dX4_load_84 (by decide) (by rfl) (ix40 j n) (by omega) (by decide) rfl ?_
              refine x_callVv Γ calv_X4_makes wl_X4_50 dX4_load_85 (m_X4_makes (g := g) (T := ldT T R j n) (R := R) (c := n) (w := 1) (by omega) (by decide) (R 6 (40 * j + n))) rfl (by decide) (by decide) rfl rfl rfl rfl (Nat.le_of_ble_eq_true rfl) (Nat.le_refl _) (Nat.le_refl _) ?_
              refine x_iinc Γ dX4_load_88 rfl (by first | exact zinc _ | rfl) (by decide) ?_
              refine x_goto Γ (tgt := 33) dX4_load_91 (by decide) ?_
              exact x_subl [(0, .ref 37), (1, .int (nI j)), (2, .int (nI (n + 1)))] (List.forall_mem_cons.mpr ⟨rfl, List.forall_mem_cons.mpr ⟨rfl, List.forall_mem_cons.mpr ⟨rfl, fun _ hz => absurd hz List.not_mem_nil⟩⟩⟩) (ih k1 (n + 1) (by omega) (by omega) q5)
    · refine x_aload_n Γ dX4_load_23 rfl ?_
      refine x_ldcw Γ wl_X4_293 dX4_load_24 ?_
      refine x_callV Γ calv_X4_finds wl_X4_36 dX4_load_27 (m_X4_finds (f := -1000006) (k := 5) (by decide) (by decide)) rfl (by decide) (by decide) rfl rfl rfl rfl (Nat.le_of_ble_eq_true rfl) (Nat.le_refl _) (Nat.le_refl _) ?_
      exact x_iret ρ rfl dX4_load_30 rfl (by simp [fr, fSb, rLd, *]; try rfl) rfl (by simp [fR, fSb, tLd, rLd, *]; exact zH.rf)
  · have c_1 := zb_0.mp c_1
    refine x_aload_n Γ dX4_load_7 rfl ?_
    refine x_ldc Γ wl_X4_34 dX4_load_8 ?_
    refine x_callV Γ calv_X4_finds wl_X4_36 dX4_load_10 (m_X4_finds (f := -1000001) (k := 0) (by decide) (by decide)) rfl (by decide) (by decide) rfl rfl rfl rfl (Nat.le_of_ble_eq_true rfl) (Nat.le_refl _) (Nat.le_refl _) ?_
    exact x_iret ρ rfl dX4_load_13 rfl (by simp [fr, fSb, rLd, *]; try rfl) rfl (by simp [fR, fSb, tLd, rLd, *]; exact zH.rf)

set_option maxRecDepth 100000 in
set_option maxHeartbeats 4000000 in
theorem m_X4_judge {g : Nat → zE} {T R : zT} {N : Nat} (hN : wN T N) (hL : wL T) (hS : wS R) (s : Int32) : zM 6 M_X4_judge [.ref 37, .int s] (hR g T R) 46 (some (.int (fr (fJu T R s) (rJu T R N s)))) (hR g (T) (gCf T R (fJu T R s))) 46 0 0 := by
  refine zM.intro (by decide) (Nat.le_of_ble_eq_true rfl) ?_
  intro Wf V m H0 Γ ρ
  replace Γ : zC Wf V m 4 H0 cX4_judge RX4 6 0 0 := Γ
  show zX Wf V m 4 H0 0 (zls [(0, .ref 37), (1, .int s)]) [] (hR g T R) 46 0 0
  have hN2 := hN.2
  refine x_iload_n Γ dX4_judge_0 rfl ?_
  refine x_callS Γ cals_X4_isSheet wl_X4_298 dX4_judge_1 (m_X4_isSheet s) rfl (by decide) rfl (Nat.le_of_ble_eq_true rfl) (Nat.le_refl _) (Nat.le_refl _) ?_
  refine x_if_ne Γ (tgt := 14) dX4_judge_4 (by decide) (fun c_1 => ?_) (fun c_1 => ?_)
  · have c_1 := zb_n0.mp c_1
    obtain ⟨j, hj, rfl⟩ := inR_nI (n := 3) c_1 rfl (by omega)
    have ej : ci (nI j) = j := nI_clamp (by omega)
    obtain ⟨z, hz, ez⟩ := hS j (by omega)
    have ezz : ci (R 5 j) = z := by rw [ez]; exact nI_clamp (by omega)
    refine x_aload_n Γ dX4_judge_14 rfl ?_
    refine gf_X4_25 Γ dX4_judge_15 (by decide) rfl rfl ?_
    refine x_iload_n Γ dX4_judge_18 rfl ?_
    refine x_iald Γ dX4_judge_19 (by decide) (by rfl) rfl (by first | assumption | omega) (by decide) rfl ?_
    refine x_if_ne Γ (tgt := 31) dX4_judge_20 (by decide) (fun c_2 => ?_) (fun c_2 => ?_)
    · refine x_aload_n Γ dX4_judge_31 rfl ?_
      refine x_aload_n Γ dX4_judge_32 rfl ?_
      refine gf_X4_28 Γ dX4_judge_33 (by decide) rfl rfl ?_
      refine x_iload_n Γ dX4_judge_36 rfl ?_
      refine x_iald Γ dX4_judge_37 (by decide) (by rfl) rfl (by first | assumption | omega) (by decide) rfl ?_
      refine x_callV Γ calv_X4_isLate wl_X4_155 dX4_judge_38 (m_X4_isLate (g := g) (T := T) (R := R) (R 5 j)) rfl (by decide) (by decide) rfl rfl rfl rfl (Nat.le_of_ble_eq_true rfl) (Nat.le_refl _) (Nat.le_refl _) ?_
      refine x_if_eq Γ (tgt := 51) dX4_judge_41 (by decide) (fun c_3 => ?_) (fun c_3 => ?_)
      · have c_3 := zb_0.mp c_3
        replace c_3 := of_decide_eq_false c_3
        refine x_aload_n Γ dX4_judge_51 rfl ?_
        refine gf_X4_9 Γ dX4_judge_52 (by decide) rfl rfl ?_
        refine x_aload_n Γ dX4_judge_55 rfl ?_
        refine gf_X4_16 Γ dX4_judge_56 (by decide) rfl rfl ?_
        refine x_callSv Γ cals_X4_row wl_X4_123 dX4_judge_59 (row_mw (g := g) (T := T) (R := R)) rfl (by decide) rfl (Nat.le_of_ble_eq_true rfl) (Nat.le_refl _) (Nat.le_refl _) ?_
        refine x_iconst Γ (v := 0) dX4_judge_62 rfl ?_
        refine x_istore_n Γ dX4_judge_63 (by decide) ?_
        refine x_iconst Γ (v := 1) dX4_judge_64 rfl ?_
        refine x_istore_n Γ dX4_judge_65 (by decide) ?_
        suffices L_66 : ∀ (f k i : Nat) (b : Int32) (W : zT), k < f → ((b = 1 ∧ W = wks N i T ∧ k + i = z ∧ jdS T R N j k i = jdS T R N j z 0) ∨ (b = 0 ∧ jdS T R N j z 0 = nI (i + 1))) → zX Wf V m 4 H0 66 (zls [(0, .ref 37), (1, .int (nI j)), (2, .int (nI i)), (3, .int b)]) [] (hR g W (tr R 1 (mr T))) 46 0 0 by
          exact x_subl [(0, .ref 37), (1, .int (nI j)), (2, .int (nI 0)), (3, .int 1)] (List.forall_mem_cons.mpr ⟨rfl, List.forall_mem_cons.mpr ⟨rfl, List.forall_mem_cons.mpr ⟨rfl, List.forall_mem_cons.mpr ⟨rfl, fun _ hz => absurd hz List.not_mem_nil⟩⟩⟩⟩) (L_66 (z + 1) z 0 1 T (by omega) (Or.inl ⟨rfl, rfl, rfl, rfl⟩))
        intro f
        induction f with
        | zero => intro k i b W q1; omega
        | succ f ih =>
          intro k i b W q1 q3
          refine x_iload_n Γ dX4_judge_66 rfl ?_
          refine x_if_eq Γ (tgt := 127) dX4_judge_67 (by decide) (fun c_4 => ?_) (fun c_4 => ?_)
          · obtain ⟨rfl, q4⟩ := q3.resolve_left (fun w => absurd (w.1.symm.trans c_4) (by decide))
            have hsum : (1 : Int32) + nI i = nI (i + 1) := by rw [Int32.add_comm]; exact nI_1 i
            clear q3
            clear ez
            refine x_aload_n Γ dX4_judge_127 rfl ?_
            refine gf_X4_16 Γ dX4_judge_128 (by decide) rfl rfl ?_
            refine x_aload_n Γ dX4_judge_131 rfl ?_
            refine gf_X4_9 Γ dX4_judge_132 (by decide) rfl rfl ?_
            refine x_callSv Γ cals_X4_row wl_X4_123 dX4_judge_135 (row_wm (g := g) (T := T) (R := (tr R 1 (mr T))) tr_s) rfl (by decide) rfl (Nat.le_of_ble_eq_true rfl) (Nat.le_refl _) (Nat.le_refl _) ?_
            refine x_iload_n Γ dX4_judge_138 rfl ?_
            refine x_if_eq Γ (tgt := 146) dX4_judge_139 (by decide) (fun c_5 => ?_) (fun c_5 => ?_)
            · refine x_iconst Γ (v := 1) dX4_judge_146 rfl ?_
              refine x_iload_n Γ dX4_judge_147 rfl ?_
              refine x_iadd Γ dX4_judge_148 ?_
              exact x_iret ρ rfl dX4_judge_149 rfl (by simp [fr, fJu, rJu, *]; try rfl) rfl (by simp [fR, fJu, gCf, *]; exact zH.rf)
            · exact absurd rfl c_5
          · obtain ⟨rfl, rfl, q5, q4⟩ := q3.resolve_right (fun w => c_4 w.1)
            refine x_iload_n Γ dX4_judge_70 rfl ?_
            refine x_aload_n Γ dX4_judge_71 rfl ?_
            refine gf_X4_28 Γ dX4_judge_72 (by decide) rfl rfl ?_
            refine x_iload_n Γ dX4_judge_75 rfl ?_
            refine x_iald Γ dX4_judge_76 (by decide) (by rfl) rfl (by first | assumption | omega) (by decide) rfl ?_
            refine x_icmp_ge Γ (tgt := 127) dX4_judge_77 (by decide) (fun c_6 => ?_) (fun c_6 => ?_)
            · rw [show tr R 1 (mr T) 5 j = R 5 j by rw [tr_n (by decide)], ez] at c_6
              have c_6 := z_le c_6 (by omega) (by omega)
              obtain rfl : k = 0 := by omega
              have h7 : jdS T R N j z 0 = 0 := q4.symm
              clear q4 q3
              clear ez
              refine x_aload_n Γ dX4_judge_127 rfl ?_
              refine gf_X4_16 Γ dX4_judge_128 (by decide) rfl rfl ?_
              refine x_aload_n Γ dX4_judge_131 rfl ?_
              refine gf_X4_9 Γ dX4_judge_132 (by decide) rfl rfl ?_
              refine x_callSv Γ cals_X4_row wl_X4_123 dX4_judge_135 (row_wm (g := g) (T := T) (R := (tr R 1 (mr T))) tr_s) rfl (by decide) rfl (Nat.le_of_ble_eq_true rfl) (Nat.le_refl _) (Nat.le_refl _) ?_
              refine x_iload_n Γ dX4_judge_138 rfl ?_
              refine x_if_eq Γ (tgt := 146) dX4_judge_139 (by decide) (fun c_7 => ?_) (fun c_7 => ?_)
              · exact absurd c_7 (by decide)
              · refine x_iconst Γ (v := 0) dX4_judge_142 rfl ?_
                refine x_goto Γ (tgt := 149) dX4_judge_143 (by decide) ?_
                exact x_iret ρ rfl dX4_judge_149 rfl (by simp [fr, fJu, rJu, *]; try rfl) rfl (by simp [fR, fJu, gCf, *]; exact zH.rf)
            · rw [show tr R 1 (mr T) 5 j = R 5 j by rw [tr_n (by decide)], ez] at c_6
              have c_6 := z_nle c_6 (by omega) (by omega)
              obtain ⟨k1, rfl⟩ : ∃ k1, k = k1 + 1 := ⟨k - 1, by omega⟩
              refine x_aload_n Γ dX4_judge_80 rfl ?_
              refine x_callV Γ calv_X4_aWeek wl_X4_149 dX4_judge_81 (m_X4_aWeek (g := g) (T := wks N i T) (R := (tr R 1 (mr T))) (wks_N hN i) (wks_L hL i)) rfl (by decide) (by decide) rfl rfl rfl rfl (Nat.le_of_ble_eq_true rfl) (Nat.le_refl _) (Nat.le_refl _) ?_
              refine x_pop Γ dX4_judge_84 rfl ?_
              refine x_aload_n Γ dX4_judge_85 rfl ?_
              refine gf_X4_31 Γ dX4_judge_86 (by decide) rfl rfl ?_
              refine x_bipush Γ (v := 40) dX4_judge_89 rfl ?_
              refine x_iload_n Γ dX4_judge_91 rfl ?_
              refine x_imul Γ dX4_judge_92 ?_
              refine x_iload_n Γ dX4_judge_93 rfl ?_
              refine x_iadd Γ dX4_judge_94 ?_
              refine x_iald Γ dX4_judge_95 (by decide) (by rfl) (ix40 j i) (by omega) (by decide) rfl ?_
              refine x_aload_n Γ dX4_judge_96 rfl ?_
              refine gf_X4_9 Γ dX4_judge_97 (by decide) rfl rfl ?_
              refine x_bipush Γ (v := 6) dX4_judge_100 rfl ?_
              refine x_iald Γ dX4_judge_102 (by decide) (by rfl) (j := 6) rfl (by decide) (by decide) (mr_s (by decide)) ?_
              refine x_icmp_ne Γ (tgt := 110) dX4_judge_103 (by decide) (fun c_8 => ?_) (fun c_8 => ?_)
              · rw [show tr R 1 (mr T) 6 (40 * j + i) = R 6 (40 * j + i) by rw [tr_n (by decide)]] at c_8
                have q6 : jdS T R N j z 0 = nI (i + 1) := q4.symm.trans (if_neg c_8)
                refine x_iconst Γ (v := 0) dX4_judge_110 rfl ?_
                refine x_istore_n Γ dX4_judge_111 (by decide) ?_
                refine x_iload_n Γ dX4_judge_112 rfl ?_
                refine x_iload_n Γ dX4_judge_113 rfl ?_
                refine x_if_eq Γ (tgt := 121) dX4_judge_114 (by decide) (fun c_9 => ?_) (fun c_9 => ?_)
                · refine x_iconst Γ (v := 0) dX4_judge_121 rfl ?_
                  refine x_iadd Γ dX4_judge_122 ?_
                  refine x_istore_n Γ dX4_judge_123 (by decide) ?_
                  refine x_goto Γ (tgt := 66) dX4_judge_124 (by decide) ?_
                  first
                  | exact x_subl [(0, .ref 37), (1, .int (nI j)), (2, .int (nI (i + 1))), (3, .int 1)] (List.forall_mem_cons.mpr ⟨rfl, List.forall_mem_cons.mpr ⟨rfl, List.forall_mem_cons.mpr ⟨(zsi (nI_1 i)), List.forall_mem_cons.mpr ⟨rfl, fun _ hz => absurd hz List.not_mem_nil⟩⟩⟩⟩) (ih k1 (i + 1) 1 _ (by omega) (Or.inl ⟨rfl, rfl, by omega, q6⟩))
                  | exact x_subl [(0, .ref 37), (1, .int (nI j)), (2, .int (nI i)), (3, .int 0)] (List.forall_mem_cons.mpr ⟨rfl, List.forall_mem_cons.mpr ⟨rfl, List.forall_mem_cons.mpr ⟨(zsi (by simp)), List.forall_mem_cons.mpr ⟨rfl, fun _ hz => absurd hz List.not_mem_nil⟩⟩⟩⟩) (ih 0 i 0 _ (by omega) (Or.inr ⟨rfl, q6⟩))
                · exact absurd rfl c_9
              · rw [show tr R 1 (mr T) 6 (40 * j + i) = R 6 (40 * j + i) by rw [tr_n (by decide)]] at c_8
                have q6 : jdS T R N j k1 (i + 1) = jdS T R N j z 0 := (if_pos c_8).symm.trans q4
                refine x_iconst Γ (v := 1) dX4_judge_106 rfl ?_
                refine x_goto Γ (tgt := 111) dX4_judge_107 (by decide) ?_
                refine x_istore_n Γ dX4_judge_111 (by decide) ?_
                refine x_iload_n Γ dX4_judge_112 rfl ?_
                refine x_iload_n Γ dX4_judge_113 rfl ?_
                refine x_if_eq Γ (tgt := 121) dX4_judge_114 (by decide) (fun c_10 => ?_) (fun c_10 => ?_)
                · exact absurd c_10 (by decide)
                · refine x_iconst Γ (v := 1) dX4_judge_117 rfl ?_
                  refine x_goto Γ (tgt := 122) dX4_judge_118 (by decide) ?_
                  refine x_iadd Γ dX4_judge_122 ?_
                  refine x_istore_n Γ dX4_judge_123 (by decide) ?_
                  refine x_goto Γ (tgt := 66) dX4_judge_124 (by decide) ?_
                  first
                  | exact x_subl [(0, .ref 37), (1, .int (nI j)), (2, .int (nI (i + 1))), (3, .int 1)] (List.forall_mem_cons.mpr ⟨rfl, List.forall_mem_cons.mpr ⟨rfl, List.forall_mem_cons.mpr ⟨(zsi (nI_1 i)), List.forall_mem_cons.mpr ⟨rfl, fun _ hz => absurd hz List.not_mem_nil⟩⟩⟩⟩) (ih k1 (i + 1) 1 _ (by omega) (Or.inl ⟨rfl, rfl, by omega, q6⟩))
                  | exact x_subl [(0, .ref 37), (1, .int (nI j)), (2, .int (nI i)), (3, .int 0)] (List.forall_mem_cons.mpr ⟨rfl, List.forall_mem_cons.mpr ⟨rfl, List.forall_mem_cons.mpr ⟨(zsi (by simp)), List.forall_mem_cons.mpr ⟨rfl, fun _ hz => absurd hz List.not_mem_nil⟩⟩⟩⟩) (ih 0 i 0 _ (by omega) (Or.inr ⟨rfl, q6⟩))
      · have c_3 := zb_n0.mp c_3
        replace c_3 := of_decide_eq_true c_3
        clear ez
        refine x_aload_n Γ dX4_judge_44 rfl ?_
        refine x_ldc Γ wl_X4_109 dX4_judge_45 ?_
        refine x_callV Γ calv_X4_finds wl_X4_36 dX4_judge_47 (m_X4_finds (f := -1000005) (k := 4) (by decide) (by decide)) rfl (by decide) (by decide) rfl rfl rfl rfl (Nat.le_of_ble_eq_true rfl) (Nat.le_refl _) (Nat.le_refl _) ?_
        exact x_iret ρ rfl dX4_judge_50 rfl (by simp [fr, fJu, rJu, *]; try rfl) rfl (by simp [fR, fJu, gCf, *]; exact zH.rf)
    · refine x_aload_n Γ dX4_judge_23 rfl ?_
      refine x_ldcw Γ wl_X4_293 dX4_judge_24 ?_
      refine x_callV Γ calv_X4_finds wl_X4_36 dX4_judge_27 (m_X4_finds (f := -1000006) (k := 5) (by decide) (by decide)) rfl (by decide) (by decide) rfl rfl rfl rfl (Nat.le_of_ble_eq_true rfl) (Nat.le_refl _) (Nat.le_refl _) ?_
      exact x_iret ρ rfl dX4_judge_30 rfl (by simp [fr, fJu, rJu, *]; try rfl) rfl (by simp [fR, fJu, gCf, *]; exact zH.rf)
  · have c_1 := zb_0.mp c_1
    refine x_aload_n Γ dX4_judge_7 rfl ?_
    refine x_ldc Γ wl_X4_34 dX4_judge_8 ?_
    refine x_callV Γ calv_X4_finds wl_X4_36 dX4_judge_10 (m_X4_finds (f := -1000001) (k := 0) (by decide) (by decide)) rfl (by decide) (by decide) rfl rfl rfl rfl (Nat.le_of_ble_eq_true rfl) (Nat.le_refl _) (Nat.le_refl _) ?_
    exact x_iret ρ rfl dX4_judge_13 rfl (by simp [fr, fJu, rJu, *]; try rfl) rfl (by simp [fR, fJu, gCf, *]; exact zH.rf)
