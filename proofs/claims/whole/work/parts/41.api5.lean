def trj (T : zT) (k : Nat) (v : Int32) (N K : Nat) : Int32 := sumW (trU T k v N K 4) N - sumW (T 4) N
theorem rpH_2 {T R : zT} {j N K v0 c : Nat} (h : v0 ≤ c) : rpH T R j N K v0 (c + 1) 7 2 = trj T j (nI c) N K := by
  rw [rpH, if_neg (show ¬ c + 1 = v0 by omega), Nat.add_sub_cancel, trR_2]
  rfl
def ldS (T : zT) (N K : Nat) : Nat → Int32 × Int32
  | 0 => (0, -1)
  | c + 1 => if (ldS T N K c).2 < trj T 3 (nI c) N K then (nI c, trj T 3 (nI c) N K) else ldS T N K c
theorem ldS_t {T : zT} {N K c : Nat} (h : (ldS T N K c).2 < trj T 3 (nI c) N K) : ldS T N K (c + 1) = (nI c, trj T 3 (nI c) N K) := if_pos h
theorem ldS_f {T : zT} {N K c : Nat} (h : ¬ (ldS T N K c).2 < trj T 3 (nI c) N K) : ldS T N K (c + 1) = ldS T N K c := if_neg h
def gLd (T R : zT) (N : Nat) (f : Nat) (n : Int32) : zT := if f = 7 then rpH T R 3 N (ci n) 0 4 else fR R f
def fCf (T : zT) (x n : Int32) : Nat := if hs T x = true ∧ inR n 1 60 = true then (if 999 < T 7 5 + n then 4 else 7) else 0
def rqH (T R : zT) (c : Nat) : zT := if c = 0 then R else tr R 1 (mr T)
theorem tr_tr {T : zT} {j : Nat} {x y : Nat → Int32} : tr (tr T j x) j y = tr T j y := by
  funext a
  by_cases h : a = j
  · subst h; rw [tr_s, tr_s]
  · rw [tr_n h, tr_n h, tr_n h]
theorem rqH_tr {T R : zT} {c : Nat} : tr (rqH T R c) 1 (mr T) = tr R 1 (mr T) := by
  unfold rqH
  by_cases h : c = 0
  · rw [if_pos h]
  · rw [if_neg h, tr_tr]
def gCf (T R : zT) (f : Nat) : zT := if f = 7 then tr R 1 (mr T) else fR R f
def rioS (T : zT) (N : Nat) : Nat → Nat → Option Nat
  | 0, _ => none
  | f + 1, c => if T 7 6 < wks N (c + 1) T 7 6 then some (c + 1) else rioS T N f (c + 1)
def fRio (T : zT) (N : Nat) : Nat := if 999 < T 7 5 + 60 then 4 else oF (rioS T N 60 0) 3
def rRio (T : zT) (N : Nat) : Int32 := oR (rioS T N 60 0)
def gRio (T R : zT) (N : Nat) : zT := if fRio T N = 4 then fR R 4 else fR (tr R 1 (mr T)) (fRio T N)
theorem nI_nn {c : Nat} (h : c < 2 ^ 31) : (0 : Int32) ≤ nI c := (nI_leI (a := 0) (by omega) h).mpr (Nat.zero_le _)
def cfS (T : zT) (j N K : Nat) : Nat → Int32
  | 0 => 0
  | i + 1 => if (wks N K (ts T 2 j (cfS T j N K i))) 4 j < (wks N K (ts T 2 j (nI (i + 1)))) 4 j then nI (i + 1) else cfS T j N K i
def kfS (T : zT) (j N K : Nat) : Nat → Int32
  | 0 => 0
  | i + 1 => if (wks N K (ts T 0 j (nI (i + 1)))) 1 j < (wks N K (ts T 0 j (kfS T j N K i))) 1 j then nI (i + 1) else kfS T j N K i

set_option maxRecDepth 100000 in
set_option maxHeartbeats 4000000 in
theorem m_X4_leader {g : Nat → zE} {T R : zT} {N : Nat} (hN : wN T N) (hL : wL T) (n : Int32) : zM 8 M_X4_leader [.ref 37, .int n] (hR g T R) 46 (some (.int (fr (fWk T n) ((ldS T N (ci n) 4).1)))) (hR g (T) (gLd T R N (fWk T n) n)) 46 0 0 := by
  refine zM.intro (by decide) (Nat.le_of_ble_eq_true rfl) ?_
  intro Wf V m H0 Γ ρ
  replace Γ : zC Wf V m 5 H0 cX4_leader RX4 8 0 0 := Γ
  show zX Wf V m 5 H0 0 (zls [(0, .ref 37), (1, .int n)]) [] (hR g T R) 46 0 0
  have hN2 := hN.2
  refine x_iload_n Γ dX4_leader_0 rfl ?_
  refine x_callS Γ cals_X4_areWeeks wl_X4_152 dX4_leader_1 (m_X4_areWeeks n) rfl (by decide) rfl (Nat.le_of_ble_eq_true rfl) (Nat.le_refl _) (Nat.le_refl _) ?_
  refine x_if_ne Γ (tgt := 14) dX4_leader_4 (by decide) (fun c_1 => ?_) (fun c_1 => ?_)
  · have c_1 := zb_n0.mp c_1
    obtain ⟨K, hK1, hK, rfl⟩ := inR_nI1 (n := 60) c_1 rfl (by omega)
    have eK : ci (nI K) = K := nI_clamp (by omega)
    refine x_aload_n Γ dX4_leader_14 rfl ?_
    refine x_iload_n Γ dX4_leader_15 rfl ?_
    refine x_callV Γ calv_X4_isLate wl_X4_155 dX4_leader_16 (m_X4_isLate (g := g) (T := T) (R := R) (nI K)) rfl (by decide) (by decide) rfl rfl rfl rfl (Nat.le_of_ble_eq_true rfl) (Nat.le_refl _) (Nat.le_refl _) ?_
    refine x_if_eq Γ (tgt := 29) dX4_leader_19 (by decide) (fun c_2 => ?_) (fun c_2 => ?_)
    · have c_2 := zb_0.mp c_2
      replace c_2 := of_decide_eq_false c_2
      refine x_iconst Γ (v := 0) dX4_leader_29 rfl ?_
      refine x_istore_n Γ dX4_leader_30 (by decide) ?_
      refine x_iconst Γ (v := -1) dX4_leader_31 rfl ?_
      refine x_istore_n Γ dX4_leader_32 (by decide) ?_
      refine x_iconst Γ (v := 0) dX4_leader_33 rfl ?_
      refine x_istore Γ dX4_leader_34 (by decide) ?_
      suffices L_36 : ∀ (k c : Nat), c ≤ 4 → 4 - c < k → zX Wf V m 5 H0 36 (zls [(0, .ref 37), (1, .int (nI K)), (2, .int (ldS T N K c).1), (3, .int (ldS T N K c).2), (4, .int (nI c))]) [] (hR g T (rpH T R 3 N K 0 c)) 46 0 0 by
        exact x_subl [(0, .ref 37), (1, .int (nI K)), (2, .int (ldS T N K 0).1), (3, .int (ldS T N K 0).2), (4, .int (nI 0))] (List.forall_mem_cons.mpr ⟨rfl, List.forall_mem_cons.mpr ⟨rfl, List.forall_mem_cons.mpr ⟨rfl, List.forall_mem_cons.mpr ⟨rfl, List.forall_mem_cons.mpr ⟨rfl, fun _ hz => absurd hz List.not_mem_nil⟩⟩⟩⟩⟩) (x_heap (rfl) (L_36 (4 + 1) 0 (by omega) (by omega)))
      intro k
      induction k with
      | zero => intro c h1 h2; omega
      | succ k ih =>
        intro c h1 h2
        refine x_iload Γ dX4_leader_36 rfl ?_
        refine x_iconst Γ (v := 4) dX4_leader_38 rfl ?_
        refine x_icmp_ge Γ (tgt := 89) dX4_leader_39 (by decide) (fun c_3 => ?_) (fun c_3 => ?_)
        · have c_3 := z_le (a := 4) c_3 (by omega) (by omega)
          obtain rfl : c = 4 := by omega
          refine x_iload_n Γ dX4_leader_89 rfl ?_
          exact x_iret ρ rfl dX4_leader_90 rfl (by simp [fr, fWk, *]; try rfl) rfl (by simp [fR, fWk, gLd, *]; exact zH.rf)
        · have c_3 := z_nle (a := 4) c_3 (by omega) (by omega)
          refine x_aload_n Γ dX4_leader_42 rfl ?_
          refine x_iload_n Γ dX4_leader_43 rfl ?_
          refine x_iconst Γ (v := 3) dX4_leader_44 rfl ?_
          refine x_iload Γ dX4_leader_45 rfl ?_
          refine x_callV Γ calv_X4_tries wl_X4_174 dX4_leader_47 (m_X4_tries (g := g) (T := T) (R := rpH T R 3 N K 0 c) hN (k := 3) (by decide) (v := nI c) (wL_k (by decide) (by decide) hL) (K := K) hK) rfl (by decide) (by decide) rfl rfl rfl rfl (Nat.le_of_ble_eq_true rfl) (Nat.le_refl _) (Nat.le_refl _) ?_
          rw [rpH_tr (Nat.zero_le c)]
          refine x_pop Γ dX4_leader_50 rfl ?_
          refine x_aload_n Γ dX4_leader_51 rfl ?_
          refine gf_X4_171 Γ dX4_leader_52 (by decide) rfl rfl ?_
          rw [rpH_2 (Nat.zero_le c)]
          refine x_iload_n Γ dX4_leader_55 rfl ?_
          refine x_icmp_le Γ (tgt := 64) dX4_leader_56 (by decide) (fun c_4 => ?_) (fun c_4 => ?_)
          · refine x_iload_n Γ dX4_leader_64 rfl ?_
            refine x_istore_n Γ dX4_leader_65 (by decide) ?_
            refine x_aload_n Γ dX4_leader_66 rfl ?_
            refine gf_X4_171 Γ dX4_leader_67 (by decide) rfl rfl ?_
            rw [rpH_2 (Nat.zero_le c)]
            refine x_iload_n Γ dX4_leader_70 rfl ?_
            refine x_icmp_le Γ (tgt := 81) dX4_leader_71 (by decide) (fun c_5 => ?_) (fun c_5 => ?_)
            · refine x_iload_n Γ dX4_leader_81 rfl ?_
              refine x_istore_n Γ dX4_leader_82 (by decide) ?_
              refine x_iinc Γ dX4_leader_83 rfl (by first | exact zinc _ | rfl) (by decide) ?_
              refine x_goto Γ (tgt := 36) dX4_leader_86 (by decide) ?_
              exact x_subl [(0, .ref 37), (1, .int (nI K)), (2, .int (ldS T N K (c + 1)).1), (3, .int (ldS T N K (c + 1)).2), (4, .int (nI (c + 1)))] (List.forall_mem_cons.mpr ⟨rfl, List.forall_mem_cons.mpr ⟨rfl, List.forall_mem_cons.mpr ⟨(zsi (by first | rw [ldS_t (Int32.not_le.mp (by assumption))] | rw [ldS_f (Int32.not_lt.mpr (by assumption))])), List.forall_mem_cons.mpr ⟨(zsi (by first | rw [ldS_t (Int32.not_le.mp (by assumption))] | rw [ldS_f (Int32.not_lt.mpr (by assumption))])), List.forall_mem_cons.mpr ⟨rfl, fun _ hz => absurd hz List.not_mem_nil⟩⟩⟩⟩⟩) (x_heap (rfl) (ih (c + 1) (by omega) (by omega)))
            · exact absurd (by assumption) c_5
          · refine x_iload Γ dX4_leader_59 rfl ?_
            refine x_goto Γ (tgt := 65) dX4_leader_61 (by decide) ?_
            refine x_istore_n Γ dX4_leader_65 (by decide) ?_
            refine x_aload_n Γ dX4_leader_66 rfl ?_
            refine gf_X4_171 Γ dX4_leader_67 (by decide) rfl rfl ?_
            rw [rpH_2 (Nat.zero_le c)]
            refine x_iload_n Γ dX4_leader_70 rfl ?_
            refine x_icmp_le Γ (tgt := 81) dX4_leader_71 (by decide) (fun c_6 => ?_) (fun c_6 => ?_)
            · exact absurd c_6 (by assumption)
            · refine x_aload_n Γ dX4_leader_74 rfl ?_
              refine gf_X4_171 Γ dX4_leader_75 (by decide) rfl rfl ?_
              rw [rpH_2 (Nat.zero_le c)]
              refine x_goto Γ (tgt := 82) dX4_leader_78 (by decide) ?_
              refine x_istore_n Γ dX4_leader_82 (by decide) ?_
              refine x_iinc Γ dX4_leader_83 rfl (by first | exact zinc _ | rfl) (by decide) ?_
              refine x_goto Γ (tgt := 36) dX4_leader_86 (by decide) ?_
              exact x_subl [(0, .ref 37), (1, .int (nI K)), (2, .int (ldS T N K (c + 1)).1), (3, .int (ldS T N K (c + 1)).2), (4, .int (nI (c + 1)))] (List.forall_mem_cons.mpr ⟨rfl, List.forall_mem_cons.mpr ⟨rfl, List.forall_mem_cons.mpr ⟨(zsi (by first | rw [ldS_t (Int32.not_le.mp (by assumption))] | rw [ldS_f (Int32.not_lt.mpr (by assumption))])), List.forall_mem_cons.mpr ⟨(zsi (by first | rw [ldS_t (Int32.not_le.mp (by assumption))] | rw [ldS_f (Int32.not_lt.mpr (by assumption))])), List.forall_mem_cons.mpr ⟨rfl, fun _ hz => absurd hz List.not_mem_nil⟩⟩⟩⟩⟩) (x_heap (rfl) (ih (c + 1) (by omega) (by omega)))
    · have c_2 := zb_n0.mp c_2
      replace c_2 := of_decide_eq_true c_2
      refine x_aload_n Γ dX4_leader_22 rfl ?_
      refine x_ldc Γ wl_X4_109 dX4_leader_23 ?_
      refine x_callV Γ calv_X4_finds wl_X4_36 dX4_leader_25 (m_X4_finds (f := -1000005) (k := 4) (by decide) (by decide)) rfl (by decide) (by decide) rfl rfl rfl rfl (Nat.le_of_ble_eq_true rfl) (Nat.le_refl _) (Nat.le_refl _) ?_
      exact x_iret ρ rfl dX4_leader_28 rfl (by simp [fr, fWk, *]; try rfl) rfl (by simp [fR, fWk, gLd, *]; exact zH.rf)
  · have c_1 := zb_0.mp c_1
    refine x_aload_n Γ dX4_leader_7 rfl ?_
    refine x_ldc Γ wl_X4_34 dX4_leader_8 ?_
    refine x_callV Γ calv_X4_finds wl_X4_36 dX4_leader_10 (m_X4_finds (f := -1000001) (k := 0) (by decide) (by decide)) rfl (by decide) (by decide) rfl rfl rfl rfl (Nat.le_of_ble_eq_true rfl) (Nat.le_refl _) (Nat.le_refl _) ?_
    exact x_iret ρ rfl dX4_leader_13 rfl (by simp [fr, fWk, *]; try rfl) rfl (by simp [fR, fWk, gLd, *]; exact zH.rf)

set_option maxRecDepth 100000 in
set_option maxHeartbeats 4000000 in
theorem m_X4_colourFor {g : Nat → zE} {T R : zT} {N : Nat} (hN : wN T N) (hL : wL T) (x n : Int32) : zM 8 M_X4_colourFor [.ref 37, .int x, .int n] (hR g T R) 46 (some (.int (fr (fCf T x n) (cfS T (ci x) N (ci n) 3)))) (hR g (T) (gCf T R (fCf T x n))) 46 0 0 := by
  refine zM.intro (by decide) (Nat.le_of_ble_eq_true rfl) ?_
  intro Wf V m H0 Γ ρ
  replace Γ : zC Wf V m 5 H0 cX4_colourFor RX4 8 0 0 := Γ
  show zX Wf V m 5 H0 0 (zls [(0, .ref 37), (1, .int x), (2, .int n)]) [] (hR g T R) 46 0 0
  have hN2 := hN.2
  refine x_aload_n Γ dX4_colourFor_0 rfl ?_
  refine x_iload_n Γ dX4_colourFor_1 rfl ?_
  refine x_callV Γ calv_X4_isOne wl_X4_67 dX4_colourFor_2 (m_X4_isOne (g := g) (T := T) (R := R) hN x) rfl (by decide) (by decide) rfl rfl rfl rfl (Nat.le_of_ble_eq_true rfl) (Nat.le_refl _) (Nat.le_refl _) ?_
  refine x_if_eq Γ (tgt := 15) dX4_colourFor_5 (by decide) (fun c_1 => ?_) (fun c_1 => ?_)
  · have c_1 := zb_0.mp c_1
    refine x_aload_n Γ dX4_colourFor_15 rfl ?_
    refine x_ldc Γ wl_X4_34 dX4_colourFor_16 ?_
    refine x_callV Γ calv_X4_finds wl_X4_36 dX4_colourFor_18 (m_X4_finds (f := -1000001) (k := 0) (by decide) (by decide)) rfl (by decide) (by decide) rfl rfl rfl rfl (Nat.le_of_ble_eq_true rfl) (Nat.le_refl _) (Nat.le_refl _) ?_
    exact x_iret ρ rfl dX4_colourFor_21 rfl (by simp [fr, fCf, *]; try rfl) rfl (by simp [fR, fCf, gCf, *]; exact zH.rf)
  · have c_1 := zb_n0.mp c_1
    obtain ⟨j, hj, rfl⟩ := hs_in hN c_1
    have ej : ci (nI j) = j := nI_clamp (by omega)
    refine x_iload_n Γ dX4_colourFor_8 rfl ?_
    refine x_callS Γ cals_X4_areWeeks wl_X4_152 dX4_colourFor_9 (m_X4_areWeeks n) rfl (by decide) rfl (Nat.le_of_ble_eq_true rfl) (Nat.le_refl _) (Nat.le_refl _) ?_
    refine x_if_ne Γ (tgt := 22) dX4_colourFor_12 (by decide) (fun c_2 => ?_) (fun c_2 => ?_)
    · have c_2 := zb_n0.mp c_2
      obtain ⟨K, hK1, hK, rfl⟩ := inR_nI1 (n := 60) c_2 rfl (by omega)
      have eK : ci (nI K) = K := nI_clamp (by omega)
      refine x_aload_n Γ dX4_colourFor_22 rfl ?_
      refine x_iload_n Γ dX4_colourFor_23 rfl ?_
      refine x_callV Γ calv_X4_isLate wl_X4_155 dX4_colourFor_24 (m_X4_isLate (g := g) (T := T) (R := R) (nI K)) rfl (by decide) (by decide) rfl rfl rfl rfl (Nat.le_of_ble_eq_true rfl) (Nat.le_refl _) (Nat.le_refl _) ?_
      refine x_if_eq Γ (tgt := 37) dX4_colourFor_27 (by decide) (fun c_3 => ?_) (fun c_3 => ?_)
      · have c_3 := zb_0.mp c_3
        replace c_3 := of_decide_eq_false c_3
        refine x_iconst Γ (v := 0) dX4_colourFor_37 rfl ?_
        refine x_istore_n Γ dX4_colourFor_38 (by decide) ?_
        refine x_iconst Γ (v := 1) dX4_colourFor_39 rfl ?_
        refine x_istore Γ dX4_colourFor_40 (by decide) ?_
        suffices L_42 : ∀ (k c : Nat), c ≤ 3 → 3 - c < k → zX Wf V m 5 H0 42 (zls [(0, .ref 37), (1, .int (nI j)), (2, .int (nI K)), (3, .int (cfS T j N K c)), (4, .int (nI (c + 1)))]) [] (hR g T (rqH T R c)) 46 0 0 by
          exact x_subl [(0, .ref 37), (1, .int (nI j)), (2, .int (nI K)), (3, .int (cfS T j N K 0)), (4, .int (nI (0 + 1)))] (List.forall_mem_cons.mpr ⟨rfl, List.forall_mem_cons.mpr ⟨rfl, List.forall_mem_cons.mpr ⟨rfl, List.forall_mem_cons.mpr ⟨rfl, List.forall_mem_cons.mpr ⟨rfl, fun _ hz => absurd hz List.not_mem_nil⟩⟩⟩⟩⟩) (x_heap (by rw [rqH, if_pos rfl]) (L_42 (3 + 1) 0 (by omega) (by omega)))
        intro k
        induction k with
        | zero => intro c h1 h2; omega
        | succ k ih =>
          intro c h1 h2
          refine x_iload Γ dX4_colourFor_42 rfl ?_
          refine x_iconst Γ (v := 4) dX4_colourFor_44 rfl ?_
          refine x_icmp_ge Γ (tgt := 79) dX4_colourFor_45 (by decide) (fun c_4 => ?_) (fun c_4 => ?_)
          · have c_4 := z_le (a := 4) c_4 (by omega) (by omega)
            obtain rfl : c = 3 := by omega
            refine x_iload_n Γ dX4_colourFor_79 rfl ?_
            exact x_iret ρ rfl dX4_colourFor_80 rfl (by simp [fr, fCf, *]; try rfl) rfl (by rw [rqH, if_neg (by decide)]; simp [fCf, gCf, *]; exact zH.rf)
          · have c_4 := z_nle (a := 4) c_4 (by omega) (by omega)
            refine x_aload_n Γ dX4_colourFor_48 rfl ?_
            refine x_iload_n Γ dX4_colourFor_49 rfl ?_
            refine x_iload_n Γ dX4_colourFor_50 rfl ?_
            refine x_iconst Γ (v := 2) dX4_colourFor_51 rfl ?_
            refine x_iload Γ dX4_colourFor_52 rfl ?_
            refine x_iconst Γ (v := 4) dX4_colourFor_54 rfl ?_
            refine x_callV Γ calv_X4_ofThen wl_X4_178 dX4_colourFor_55 (m_X4_ofThen (g := g) (T := T) (R := rqH T R c) hN (c := j) (w := 2) (e := 4) hj (by decide) (by decide) (v := nI (c + 1)) hL (K := K) hK) rfl (by decide) (by decide) rfl rfl rfl rfl (Nat.le_of_ble_eq_true rfl) (Nat.le_refl _) (Nat.le_refl _) ?_
            rw [rqH_tr]
            refine x_aload_n Γ dX4_colourFor_58 rfl ?_
            refine x_iload_n Γ dX4_colourFor_59 rfl ?_
            refine x_iload_n Γ dX4_colourFor_60 rfl ?_
            refine x_iconst Γ (v := 2) dX4_colourFor_61 rfl ?_
            refine x_iload_n Γ dX4_colourFor_62 rfl ?_
            refine x_iconst Γ (v := 4) dX4_colourFor_63 rfl ?_
            refine x_callV Γ calv_X4_ofThen wl_X4_178 dX4_colourFor_64 (m_X4_ofThen (g := g) (T := T) (R := tr R 1 (mr T)) hN (c := j) (w := 2) (e := 4) hj (by decide) (by decide) (v := cfS T j N K c) hL (K := K) hK) rfl (by decide) (by decide) rfl rfl rfl rfl (Nat.le_of_ble_eq_true rfl) (Nat.le_refl _) (Nat.le_refl _) ?_
            rw [tr_tr]
            refine x_icmp_le Γ (tgt := 73) dX4_colourFor_67 (by decide) (fun c_5 => ?_) (fun c_5 => ?_)
            · refine x_iinc Γ dX4_colourFor_73 rfl (by first | exact zinc _ | rfl) (by decide) ?_
              refine x_goto Γ (tgt := 42) dX4_colourFor_76 (by decide) ?_
              exact x_subl [(0, .ref 37), (1, .int (nI j)), (2, .int (nI K)), (3, .int (cfS T j N K (c + 1))), (4, .int (nI ((c + 1) + 1)))] (List.forall_mem_cons.mpr ⟨rfl, List.forall_mem_cons.mpr ⟨rfl, List.forall_mem_cons.mpr ⟨rfl, List.forall_mem_cons.mpr ⟨(zsi (by first | rw [cfS, if_pos (Int32.not_le.mp (by assumption))] | rw [cfS, if_neg (Int32.not_lt.mpr (by assumption))])), List.forall_mem_cons.mpr ⟨rfl, fun _ hz => absurd hz List.not_mem_nil⟩⟩⟩⟩⟩) (x_heap (by rw [rqH, if_neg (Nat.succ_ne_zero c)]) (ih (c + 1) (by omega) (by omega)))
            · refine x_iload Γ dX4_colourFor_70 rfl ?_
              refine x_istore_n Γ dX4_colourFor_72 (by decide) ?_
              refine x_iinc Γ dX4_colourFor_73 rfl (by first | exact zinc _ | rfl) (by decide) ?_
              refine x_goto Γ (tgt := 42) dX4_colourFor_76 (by decide) ?_
              exact x_subl [(0, .ref 37), (1, .int (nI j)), (2, .int (nI K)), (3, .int (cfS T j N K (c + 1))), (4, .int (nI ((c + 1) + 1)))] (List.forall_mem_cons.mpr ⟨rfl, List.forall_mem_cons.mpr ⟨rfl, List.forall_mem_cons.mpr ⟨rfl, List.forall_mem_cons.mpr ⟨(zsi (by first | rw [cfS, if_pos (Int32.not_le.mp (by assumption))] | rw [cfS, if_neg (Int32.not_lt.mpr (by assumption))])), List.forall_mem_cons.mpr ⟨rfl, fun _ hz => absurd hz List.not_mem_nil⟩⟩⟩⟩⟩) (x_heap (by rw [rqH, if_neg (Nat.succ_ne_zero c)]) (ih (c + 1) (by omega) (by omega)))
      · have c_3 := zb_n0.mp c_3
        replace c_3 := of_decide_eq_true c_3
        refine x_aload_n Γ dX4_colourFor_30 rfl ?_
        refine x_ldc Γ wl_X4_109 dX4_colourFor_31 ?_
        refine x_callV Γ calv_X4_finds wl_X4_36 dX4_colourFor_33 (m_X4_finds (f := -1000005) (k := 4) (by decide) (by decide)) rfl (by decide) (by decide) rfl rfl rfl rfl (Nat.le_of_ble_eq_true rfl) (Nat.le_refl _) (Nat.le_refl _) ?_
        exact x_iret ρ rfl dX4_colourFor_36 rfl (by simp [fr, fCf, *]; try rfl) rfl (by simp [fR, fCf, gCf, *]; exact zH.rf)
    · have c_2 := zb_0.mp c_2
      refine x_aload_n Γ dX4_colourFor_15 rfl ?_
      refine x_ldc Γ wl_X4_34 dX4_colourFor_16 ?_
      refine x_callV Γ calv_X4_finds wl_X4_36 dX4_colourFor_18 (m_X4_finds (f := -1000001) (k := 0) (by decide) (by decide)) rfl (by decide) (by decide) rfl rfl rfl rfl (Nat.le_of_ble_eq_true rfl) (Nat.le_refl _) (Nat.le_refl _) ?_
      exact x_iret ρ rfl dX4_colourFor_21 rfl (by simp [fr, fCf, *]; try rfl) rfl (by simp [fR, fCf, gCf, *]; exact zH.rf)

set_option maxRecDepth 100000 in
set_option maxHeartbeats 4000000 in
theorem m_X4_kindFor {g : Nat → zE} {T R : zT} {N : Nat} (hN : wN T N) (hL : wL T) (x n : Int32) : zM 8 M_X4_kindFor [.ref 37, .int x, .int n] (hR g T R) 46 (some (.int (fr (fCf T x n) (kfS T (ci x) N (ci n) 6)))) (hR g (T) (gCf T R (fCf T x n))) 46 0 0 := by
  refine zM.intro (by decide) (Nat.le_of_ble_eq_true rfl) ?_
  intro Wf V m H0 Γ ρ
  replace Γ : zC Wf V m 5 H0 cX4_kindFor RX4 8 0 0 := Γ
  show zX Wf V m 5 H0 0 (zls [(0, .ref 37), (1, .int x), (2, .int n)]) [] (hR g T R) 46 0 0
  have hN2 := hN.2
  refine x_aload_n Γ dX4_kindFor_0 rfl ?_
  refine x_iload_n Γ dX4_kindFor_1 rfl ?_
  refine x_callV Γ calv_X4_isOne wl_X4_67 dX4_kindFor_2 (m_X4_isOne (g := g) (T := T) (R := R) hN x) rfl (by decide) (by decide) rfl rfl rfl rfl (Nat.le_of_ble_eq_true rfl) (Nat.le_refl _) (Nat.le_refl _) ?_
  refine x_if_eq Γ (tgt := 15) dX4_kindFor_5 (by decide) (fun c_1 => ?_) (fun c_1 => ?_)
  · have c_1 := zb_0.mp c_1
    refine x_aload_n Γ dX4_kindFor_15 rfl ?_
    refine x_ldc Γ wl_X4_34 dX4_kindFor_16 ?_
    refine x_callV Γ calv_X4_finds wl_X4_36 dX4_kindFor_18 (m_X4_finds (f := -1000001) (k := 0) (by decide) (by decide)) rfl (by decide) (by decide) rfl rfl rfl rfl (Nat.le_of_ble_eq_true rfl) (Nat.le_refl _) (Nat.le_refl _) ?_
    exact x_iret ρ rfl dX4_kindFor_21 rfl (by simp [fr, fCf, *]; try rfl) rfl (by simp [fR, fCf, gCf, *]; exact zH.rf)
  · have c_1 := zb_n0.mp c_1
    obtain ⟨j, hj, rfl⟩ := hs_in hN c_1
    have ej : ci (nI j) = j := nI_clamp (by omega)
    refine x_iload_n Γ dX4_kindFor_8 rfl ?_
    refine x_callS Γ cals_X4_areWeeks wl_X4_152 dX4_kindFor_9 (m_X4_areWeeks n) rfl (by decide) rfl (Nat.le_of_ble_eq_true rfl) (Nat.le_refl _) (Nat.le_refl _) ?_
    refine x_if_ne Γ (tgt := 22) dX4_kindFor_12 (by decide) (fun c_2 => ?_) (fun c_2 => ?_)
    · have c_2 := zb_n0.mp c_2
      obtain ⟨K, hK1, hK, rfl⟩ := inR_nI1 (n := 60) c_2 rfl (by omega)
      have eK : ci (nI K) = K := nI_clamp (by omega)
      refine x_aload_n Γ dX4_kindFor_22 rfl ?_
      refine x_iload_n Γ dX4_kindFor_23 rfl ?_
      refine x_callV Γ calv_X4_isLate wl_X4_155 dX4_kindFor_24 (m_X4_isLate (g := g) (T := T) (R := R) (nI K)) rfl (by decide) (by decide) rfl rfl rfl rfl (Nat.le_of_ble_eq_true rfl) (Nat.le_refl _) (Nat.le_refl _) ?_
      refine x_if_eq Γ (tgt := 37) dX4_kindFor_27 (by decide) (fun c_3 => ?_) (fun c_3 => ?_)
      · have c_3 := zb_0.mp c_3
        replace c_3 := of_decide_eq_false c_3
        refine x_iconst Γ (v := 0) dX4_kindFor_37 rfl ?_
        refine x_istore_n Γ dX4_kindFor_38 (by decide) ?_
        refine x_iconst Γ (v := 1) dX4_kindFor_39 rfl ?_
        refine x_istore Γ dX4_kindFor_40 (by decide) ?_
        suffices L_42 : ∀ (k c : Nat), c ≤ 6 → 6 - c < k → zX Wf V m 5 H0 42 (zls [(0, .ref 37), (1, .int (nI j)), (2, .int (nI K)), (3, .int (kfS T j N K c)), (4, .int (nI (c + 1)))]) [] (hR g T (rqH T R c)) 46 0 0 by
          exact x_subl [(0, .ref 37), (1, .int (nI j)), (2, .int (nI K)), (3, .int (kfS T j N K 0)), (4, .int (nI (0 + 1)))] (List.forall_mem_cons.mpr ⟨rfl, List.forall_mem_cons.mpr ⟨rfl, List.forall_mem_cons.mpr ⟨rfl, List.forall_mem_cons.mpr ⟨rfl, List.forall_mem_cons.mpr ⟨rfl, fun _ hz => absurd hz List.not_mem_nil⟩⟩⟩⟩⟩) (x_heap (by rw [rqH, if_pos rfl]) (L_42 (6 + 1) 0 (by omega) (by omega)))
        intro k
        induction k with
        | zero => intro c h1 h2; omega
        | succ k ih =>
          intro c h1 h2
          refine x_iload Γ dX4_kindFor_42 rfl ?_
          refine x_bipush Γ (v := 6) dX4_kindFor_44 rfl ?_
          refine x_icmp_gt Γ (tgt := 80) dX4_kindFor_46 (by decide) (fun c_4 => ?_) (fun c_4 => ?_)
          · have c_4 := z_lt (a := 6) c_4 (by omega) (by omega)
            obtain rfl : c = 6 := by omega
            refine x_iload_n Γ dX4_kindFor_80 rfl ?_
            exact x_iret ρ rfl dX4_kindFor_81 rfl (by simp [fr, fCf, *]; try rfl) rfl (by rw [rqH, if_neg (by decide)]; simp [fCf, gCf, *]; exact zH.rf)
          · have c_4 := z_nlt (a := 6) c_4 (by omega) (by omega)
            refine x_aload_n Γ dX4_kindFor_49 rfl ?_
            refine x_iload_n Γ dX4_kindFor_50 rfl ?_
            refine x_iload_n Γ dX4_kindFor_51 rfl ?_
            refine x_iconst Γ (v := 0) dX4_kindFor_52 rfl ?_
            refine x_iload Γ dX4_kindFor_53 rfl ?_
            refine x_iconst Γ (v := 1) dX4_kindFor_55 rfl ?_
            refine x_callV Γ calv_X4_ofThen wl_X4_178 dX4_kindFor_56 (m_X4_ofThen (g := g) (T := T) (R := rqH T R c) hN (c := j) (w := 0) (e := 1) hj (by decide) (by decide) (v := nI (c + 1)) hL (K := K) hK) rfl (by decide) (by decide) rfl rfl rfl rfl (Nat.le_of_ble_eq_true rfl) (Nat.le_refl _) (Nat.le_refl _) ?_
            rw [rqH_tr]
            refine x_aload_n Γ dX4_kindFor_59 rfl ?_
            refine x_iload_n Γ dX4_kindFor_60 rfl ?_
            refine x_iload_n Γ dX4_kindFor_61 rfl ?_
            refine x_iconst Γ (v := 0) dX4_kindFor_62 rfl ?_
            refine x_iload_n Γ dX4_kindFor_63 rfl ?_
            refine x_iconst Γ (v := 1) dX4_kindFor_64 rfl ?_
            refine x_callV Γ calv_X4_ofThen wl_X4_178 dX4_kindFor_65 (m_X4_ofThen (g := g) (T := T) (R := tr R 1 (mr T)) hN (c := j) (w := 0) (e := 1) hj (by decide) (by decide) (v := kfS T j N K c) hL (K := K) hK) rfl (by decide) (by decide) rfl rfl rfl rfl (Nat.le_of_ble_eq_true rfl) (Nat.le_refl _) (Nat.le_refl _) ?_
            rw [tr_tr]
            refine x_icmp_ge Γ (tgt := 74) dX4_kindFor_68 (by decide) (fun c_5 => ?_) (fun c_5 => ?_)
            · refine x_iinc Γ dX4_kindFor_74 rfl (by first | exact zinc _ | rfl) (by decide) ?_
              refine x_goto Γ (tgt := 42) dX4_kindFor_77 (by decide) ?_
              exact x_subl [(0, .ref 37), (1, .int (nI j)), (2, .int (nI K)), (3, .int (kfS T j N K (c + 1))), (4, .int (nI ((c + 1) + 1)))] (List.forall_mem_cons.mpr ⟨rfl, List.forall_mem_cons.mpr ⟨rfl, List.forall_mem_cons.mpr ⟨rfl, List.forall_mem_cons.mpr ⟨(zsi (by first | rw [kfS, if_pos (Int32.not_le.mp (by assumption))] | rw [kfS, if_neg (Int32.not_lt.mpr (by assumption))])), List.forall_mem_cons.mpr ⟨rfl, fun _ hz => absurd hz List.not_mem_nil⟩⟩⟩⟩⟩) (x_heap (by rw [rqH, if_neg (Nat.succ_ne_zero c)]) (ih (c + 1) (by omega) (by omega)))
            · refine x_iload Γ dX4_kindFor_71 rfl ?_
              refine x_istore_n Γ dX4_kindFor_73 (by decide) ?_
              refine x_iinc Γ dX4_kindFor_74 rfl (by first | exact zinc _ | rfl) (by decide) ?_
              refine x_goto Γ (tgt := 42) dX4_kindFor_77 (by decide) ?_
              exact x_subl [(0, .ref 37), (1, .int (nI j)), (2, .int (nI K)), (3, .int (kfS T j N K (c + 1))), (4, .int (nI ((c + 1) + 1)))] (List.forall_mem_cons.mpr ⟨rfl, List.forall_mem_cons.mpr ⟨rfl, List.forall_mem_cons.mpr ⟨rfl, List.forall_mem_cons.mpr ⟨(zsi (by first | rw [kfS, if_pos (Int32.not_le.mp (by assumption))] | rw [kfS, if_neg (Int32.not_lt.mpr (by assumption))])), List.forall_mem_cons.mpr ⟨rfl, fun _ hz => absurd hz List.not_mem_nil⟩⟩⟩⟩⟩) (x_heap (by rw [rqH, if_neg (Nat.succ_ne_zero c)]) (ih (c + 1) (by omega) (by omega)))
      · have c_3 := zb_n0.mp c_3
        replace c_3 := of_decide_eq_true c_3
        refine x_aload_n Γ dX4_kindFor_30 rfl ?_
        refine x_ldc Γ wl_X4_109 dX4_kindFor_31 ?_
        refine x_callV Γ calv_X4_finds wl_X4_36 dX4_kindFor_33 (m_X4_finds (f := -1000005) (k := 4) (by decide) (by decide)) rfl (by decide) (by decide) rfl rfl rfl rfl (Nat.le_of_ble_eq_true rfl) (Nat.le_refl _) (Nat.le_refl _) ?_
        exact x_iret ρ rfl dX4_kindFor_36 rfl (by simp [fr, fCf, *]; try rfl) rfl (by simp [fR, fCf, gCf, *]; exact zH.rf)
    · have c_2 := zb_0.mp c_2
      refine x_aload_n Γ dX4_kindFor_15 rfl ?_
      refine x_ldc Γ wl_X4_34 dX4_kindFor_16 ?_
      refine x_callV Γ calv_X4_finds wl_X4_36 dX4_kindFor_18 (m_X4_finds (f := -1000001) (k := 0) (by decide) (by decide)) rfl (by decide) (by decide) rfl rfl rfl rfl (Nat.le_of_ble_eq_true rfl) (Nat.le_refl _) (Nat.le_refl _) ?_
      exact x_iret ρ rfl dX4_kindFor_21 rfl (by simp [fr, fCf, *]; try rfl) rfl (by simp [fR, fCf, gCf, *]; exact zH.rf)

set_option maxRecDepth 100000 in
set_option maxHeartbeats 4000000 in
theorem m_X4_riot {g : Nat → zE} {T R : zT} {N : Nat} (hN : wN T N) (hL : wL T) : zM 6 M_X4_riot [.ref 37] (hR g T R) 46 (some (.int (fr (fRio T N) (rRio T N)))) (hR g (T) (gRio T R N)) 46 0 0 := by
  refine zM.intro (by decide) (Nat.le_of_ble_eq_true rfl) ?_
  intro Wf V m H0 Γ ρ
  replace Γ : zC Wf V m 3 H0 cX4_riot RX4 6 0 0 := Γ
  show zX Wf V m 3 H0 0 (zls [(0, .ref 37)]) [] (hR g T R) 46 0 0
  have hN2 := hN.2
  refine x_aload_n Γ dX4_riot_0 rfl ?_
  refine x_bipush Γ (v := 60) dX4_riot_1 rfl ?_
  refine x_callV Γ calv_X4_isLate wl_X4_155 dX4_riot_3 (m_X4_isLate (g := g) (T := T) (R := R) (60)) rfl (by decide) (by decide) rfl rfl rfl rfl (Nat.le_of_ble_eq_true rfl) (Nat.le_refl _) (Nat.le_refl _) ?_
  refine x_if_eq Γ (tgt := 16) dX4_riot_6 (by decide) (fun c_1 => ?_) (fun c_1 => ?_)
  · have c_1 := zb_0.mp c_1
    replace c_1 := of_decide_eq_false c_1
    refine x_aload_n Γ dX4_riot_16 rfl ?_
    refine gf_X4_9 Γ dX4_riot_17 (by decide) rfl rfl ?_
    refine x_aload_n Γ dX4_riot_20 rfl ?_
    refine gf_X4_16 Γ dX4_riot_21 (by decide) rfl rfl ?_
    refine x_callSv Γ cals_X4_row wl_X4_123 dX4_riot_24 (row_mw (g := g) (T := T) (R := R)) rfl (by decide) rfl (Nat.le_of_ble_eq_true rfl) (Nat.le_refl _) (Nat.le_refl _) ?_
    refine x_iconst Γ (v := -1) dX4_riot_27 rfl ?_
    refine x_istore_n Γ dX4_riot_28 (by decide) ?_
    refine x_iconst Γ (v := 1) dX4_riot_29 rfl ?_
    refine x_istore_n Γ dX4_riot_30 (by decide) ?_
    suffices L_31 : ∀ (f k c : Nat) (a : Int32), k < f → c + k = 60 → ((a = -1 ∧ rioS T N k c = rioS T N 60 0) ∨ (a = nI c ∧ rioS T N 60 0 = some c)) → zX Wf V m 3 H0 31 (zls [(0, .ref 37), (1, .int a), (2, .int (nI (c + 1)))]) [] (hR g (wks N c T) (tr R 1 (mr T))) 46 0 0 by
      exact x_subl [(0, .ref 37), (1, .int (-1)), (2, .int (nI (0 + 1)))] (List.forall_mem_cons.mpr ⟨rfl, List.forall_mem_cons.mpr ⟨rfl, List.forall_mem_cons.mpr ⟨rfl, fun _ hz => absurd hz List.not_mem_nil⟩⟩⟩) (L_31 61 60 0 (-1) (by omega) (by omega) (Or.inl ⟨rfl, rfl⟩))
    intro f
    induction f with
    | zero => intro k c a q1; omega
    | succ f ih =>
      intro k c a q1 q2 q3
      refine x_iload_n Γ dX4_riot_31 rfl ?_
      refine x_bipush Γ (v := 60) dX4_riot_32 rfl ?_
      refine x_icmp_gt Γ (tgt := 75) dX4_riot_34 (by decide) (fun c_2 => ?_) (fun c_2 => ?_)
      · have c_2 := z_lt (a := 60) c_2 (by omega) (by omega)
        obtain rfl : k = 0 := by omega
        have hfin : (a = -1 ∧ rioS T N 60 0 = none) ∨ (a = nI c ∧ rioS T N 60 0 = some c ∧ 0 ≤ nI c) := by
          rcases q3 with ⟨ea, q4⟩ | ⟨ea, q4⟩
          · exact Or.inl ⟨ea, q4.symm⟩
          · exact Or.inr ⟨ea, q4, nI_nn (by omega)⟩
        clear q3
        refine x_aload_n Γ dX4_riot_75 rfl ?_
        refine gf_X4_16 Γ dX4_riot_76 (by decide) rfl rfl ?_
        refine x_aload_n Γ dX4_riot_79 rfl ?_
        refine gf_X4_9 Γ dX4_riot_80 (by decide) rfl rfl ?_
        refine x_callSv Γ cals_X4_row wl_X4_123 dX4_riot_83 (row_wm (g := g) (T := T) (U := wks N c T) (R := (tr R 1 (mr T))) tr_s) rfl (by decide) rfl (Nat.le_of_ble_eq_true rfl) (Nat.le_refl _) (Nat.le_refl _) ?_
        refine x_aload_n Γ dX4_riot_86 rfl ?_
        refine x_iload_n Γ dX4_riot_87 rfl ?_
        refine x_callV Γ calv_X4_orNone wl_X4_164 dX4_riot_88 (m_X4_orNone (g := g) (T := T) (R := (tr R 1 (mr T))) a) rfl (by decide) (by decide) rfl rfl rfl rfl (Nat.le_of_ble_eq_true rfl) (Nat.le_refl _) (Nat.le_refl _) ?_
        exact x_iret ρ rfl dX4_riot_91 rfl (by rcases hfin with ⟨rfl, hf⟩ | ⟨rfl, hf, h0⟩ <;> (simp [fr, fRio, rRio, oF, oR, *]; try rfl)) rfl (by rcases hfin with ⟨rfl, hf⟩ | ⟨rfl, hf, h0⟩ <;> (simp [fR, fRio, gRio, oF, *]; exact zH.rf))
      · have c_2 := z_nlt (a := 60) c_2 (by omega) (by omega)
        obtain ⟨k1, rfl⟩ : ∃ k1, k = k1 + 1 := ⟨k - 1, by omega⟩
        refine x_iload_n Γ dX4_riot_37 rfl ?_
        refine x_if_ge Γ (tgt := 75) dX4_riot_38 (by decide) (fun c_3 => ?_) (fun c_3 => ?_)
        · have hfin : (a = -1 ∧ rioS T N 60 0 = none) ∨ (a = nI c ∧ rioS T N 60 0 = some c ∧ 0 ≤ nI c) := by
            rcases q3 with ⟨ea, q4⟩ | ⟨ea, q4⟩
            · exact absurd (ea ▸ c_3) (by decide)
            · exact Or.inr ⟨ea, q4, nI_nn (by omega)⟩
          clear q3 c_3
          refine x_aload_n Γ dX4_riot_75 rfl ?_
          refine gf_X4_16 Γ dX4_riot_76 (by decide) rfl rfl ?_
          refine x_aload_n Γ dX4_riot_79 rfl ?_
          refine gf_X4_9 Γ dX4_riot_80 (by decide) rfl rfl ?_
          refine x_callSv Γ cals_X4_row wl_X4_123 dX4_riot_83 (row_wm (g := g) (T := T) (U := wks N c T) (R := (tr R 1 (mr T))) tr_s) rfl (by decide) rfl (Nat.le_of_ble_eq_true rfl) (Nat.le_refl _) (Nat.le_refl _) ?_
          refine x_aload_n Γ dX4_riot_86 rfl ?_
          refine x_iload_n Γ dX4_riot_87 rfl ?_
          refine x_callV Γ calv_X4_orNone wl_X4_164 dX4_riot_88 (m_X4_orNone (g := g) (T := T) (R := (tr R 1 (mr T))) a) rfl (by decide) (by decide) rfl rfl rfl rfl (Nat.le_of_ble_eq_true rfl) (Nat.le_refl _) (Nat.le_refl _) ?_
          exact x_iret ρ rfl dX4_riot_91 rfl (by rcases hfin with ⟨rfl, hf⟩ | ⟨rfl, hf, h0⟩ <;> (simp [fr, fRio, rRio, oF, oR, *]; try rfl)) rfl (by rcases hfin with ⟨rfl, hf⟩ | ⟨rfl, hf, h0⟩ <;> (simp [fR, fRio, gRio, oF, *]; exact zH.rf))
        · have q5 : rioS T N (k1 + 1) c = rioS T N 60 0 := by
            rcases q3 with ⟨ea, q4⟩ | ⟨ea, q4⟩
            · exact q4
            · exact absurd (ea ▸ nI_nn (by omega)) c_3
          refine x_aload_n Γ dX4_riot_41 rfl ?_
          refine x_callV Γ calv_X4_aWeek wl_X4_149 dX4_riot_42 (m_X4_aWeek (g := g) (T := wks N c T) (R := (tr R 1 (mr T))) (wks_N hN c) (wks_L hL c)) rfl (by decide) (by decide) rfl rfl rfl rfl (Nat.le_of_ble_eq_true rfl) (Nat.le_refl _) (Nat.le_refl _) ?_
          refine x_pop Γ dX4_riot_45 rfl ?_
          refine x_aload_n Γ dX4_riot_46 rfl ?_
          refine gf_X4_9 Γ dX4_riot_47 (by decide) rfl rfl ?_
          refine x_bipush Γ (v := 6) dX4_riot_50 rfl ?_
          refine x_iald Γ dX4_riot_52 (by decide) (by rfl) (j := 6) rfl (by decide) (by decide) (mr_s (by decide)) ?_
          refine x_aload_n Γ dX4_riot_53 rfl ?_
          refine gf_X4_16 Γ dX4_riot_54 (by decide) rfl rfl ?_
          refine x_bipush Γ (v := 6) dX4_riot_57 rfl ?_
          refine x_iald Γ dX4_riot_59 (by decide) (by rfl) (j := 6) rfl (by decide) (by decide) ((congrFun tr_s 6).trans (mr_s (by decide))) ?_
          refine x_icmp_le Γ (tgt := 67) dX4_riot_60 (by decide) (fun c_4 => ?_) (fun c_4 => ?_)
          · refine x_iconst Γ (v := -1) dX4_riot_67 rfl ?_
            refine x_istore_n Γ dX4_riot_68 (by decide) ?_
            refine x_iinc Γ dX4_riot_69 rfl (by first | exact zinc _ | rfl) (by decide) ?_
            refine x_goto Γ (tgt := 31) dX4_riot_72 (by decide) ?_
            first
            | exact x_subl [(0, .ref 37), (1, .int (-1)), (2, .int (nI ((c + 1) + 1)))] (List.forall_mem_cons.mpr ⟨rfl, List.forall_mem_cons.mpr ⟨rfl, List.forall_mem_cons.mpr ⟨rfl, fun _ hz => absurd hz List.not_mem_nil⟩⟩⟩) (ih k1 (c + 1) (-1) (by omega) (by omega) (Or.inl ⟨rfl, (if_neg (Int32.not_lt.mpr (by assumption))).symm.trans q5⟩))
            | exact x_subl [(0, .ref 37), (1, .int (nI (c + 1))), (2, .int (nI ((c + 1) + 1)))] (List.forall_mem_cons.mpr ⟨rfl, List.forall_mem_cons.mpr ⟨rfl, List.forall_mem_cons.mpr ⟨rfl, fun _ hz => absurd hz List.not_mem_nil⟩⟩⟩) (ih k1 (c + 1) (nI (c + 1)) (by omega) (by omega) (Or.inr ⟨rfl, q5.symm.trans (if_pos (Int32.not_le.mp (by assumption)))⟩))
          · refine x_iload_n Γ dX4_riot_63 rfl ?_
            refine x_goto Γ (tgt := 68) dX4_riot_64 (by decide) ?_
            refine x_istore_n Γ dX4_riot_68 (by decide) ?_
            refine x_iinc Γ dX4_riot_69 rfl (by first | exact zinc _ | rfl) (by decide) ?_
            refine x_goto Γ (tgt := 31) dX4_riot_72 (by decide) ?_
            first
            | exact x_subl [(0, .ref 37), (1, .int (-1)), (2, .int (nI ((c + 1) + 1)))] (List.forall_mem_cons.mpr ⟨rfl, List.forall_mem_cons.mpr ⟨rfl, List.forall_mem_cons.mpr ⟨rfl, fun _ hz => absurd hz List.not_mem_nil⟩⟩⟩) (ih k1 (c + 1) (-1) (by omega) (by omega) (Or.inl ⟨rfl, (if_neg (Int32.not_lt.mpr (by assumption))).symm.trans q5⟩))
            | exact x_subl [(0, .ref 37), (1, .int (nI (c + 1))), (2, .int (nI ((c + 1) + 1)))] (List.forall_mem_cons.mpr ⟨rfl, List.forall_mem_cons.mpr ⟨rfl, List.forall_mem_cons.mpr ⟨rfl, fun _ hz => absurd hz List.not_mem_nil⟩⟩⟩) (ih k1 (c + 1) (nI (c + 1)) (by omega) (by omega) (Or.inr ⟨rfl, q5.symm.trans (if_pos (Int32.not_le.mp (by assumption)))⟩))
  · have c_1 := zb_n0.mp c_1
    replace c_1 := of_decide_eq_true c_1
    refine x_aload_n Γ dX4_riot_9 rfl ?_
    refine x_ldc Γ wl_X4_109 dX4_riot_10 ?_
    refine x_callV Γ calv_X4_finds wl_X4_36 dX4_riot_12 (m_X4_finds (f := -1000005) (k := 4) (by decide) (by decide)) rfl (by decide) (by decide) rfl rfl rfl rfl (Nat.le_of_ble_eq_true rfl) (Nat.le_refl _) (Nat.le_refl _) ?_
    exact x_iret ρ rfl dX4_riot_15 rfl (by simp [fr, fRio, *]; try rfl) rfl (by simp [fR, fRio, gRio, *]; exact zH.rf)
