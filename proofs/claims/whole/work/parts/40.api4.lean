/-- tries: the riots told -/
def trd (T : zT) (k : Nat) (v : Int32) (N K : Nat) : Int32 := trU T k v N K 7 6 - T 7 6
theorem trR_1 {T R : zT} {k N K : Nat} {v : Int32} : trR T R k v N K 7 1 = trd T k v N K := by
  rw [trR, ts_i (by decide), ts_s, mr_s (by decide)]
  rfl
theorem trR_2 {T R : zT} {k N K : Nat} {v : Int32} : trR T R k v N K 7 2 = sumW (trU T k v N K 4) N - sumW (T 4) N := by
  rw [trR, ts_s]
theorem trR_tr {T R : zT} {k j N K : Nat} {v w : Int32} : trR T (trR T R k v N K) j w N K = trR T R j w N K := by
  funext a i
  simp only [trR, ts, tr, upd]
  by_cases h1 : a = 1
  · subst h1; simp
  · by_cases h7 : a = 7
    · subst h7
      by_cases i1 : i = 1
      · subst i1; simp [upd]
      · by_cases i2 : i = 2
        · subst i2; simp [upd]
        · simp [upd, i1, i2]
    · simp [h1, h7]
def rpS (T : zT) (j N K : Nat) : Nat → Nat → Option Nat
  | 0, _ => none
  | f + 1, v => if trd T j (nI v) N K = 0 then some v else rpS T j N K f (v + 1)
def rpH (T R : zT) (j N K v0 c : Nat) : zT := if c = v0 then R else trR T R j (nI (c - 1)) N K
theorem rpH_tr {T R : zT} {j N K v0 c : Nat} (h : v0 ≤ c) : trR T (rpH T R j N K v0 c) j (nI c) N K = rpH T R j N K v0 (c + 1) := by
  rw [rpH, rpH, if_neg (show ¬ c + 1 = v0 by omega), Nat.add_sub_cancel]
  by_cases hc : c = v0
  · rw [if_pos hc]
  · rw [if_neg hc, trR_tr]
theorem rpH_1 {T R : zT} {j N K v0 c : Nat} (h : v0 ≤ c) : rpH T R j N K v0 (c + 1) 7 1 = trd T j (nI c) N K := by
  rw [rpH, if_neg (show ¬ c + 1 = v0 by omega), Nat.add_sub_cancel, trR_1]
def fRp (T : zT) (j N : Nat) (n : Int32) (a v0 : Nat) : Nat := if inR n 1 60 = true then (if 999 < T 7 5 + n then 4 else oF (rpS T j N (ci n) a v0) 3) else 0
def rRp (T : zT) (j N : Nat) (n : Int32) (a v0 : Nat) : Int32 := oR (rpS T j N (ci n) a v0)
def gRp (T R : zT) (j N : Nat) (n : Int32) (a v0 : Nat) : zT :=
  if fRp T j N n a v0 = 7 then rpH T R j N (ci n) v0 ((rpS T j N (ci n) a v0).getD 0 + 1)
  else if fRp T j N n a v0 = 3 then fR (rpH T R j N (ci n) v0 11) 3 else fR R (fRp T j N n a v0)
theorem wL_0 {T : zT} {c : Nat} (hc : c ≤ 10) (h : wL T) : wL (ts T 7 0 (nI c)) := by
  obtain ⟨l, s, _, hs, _, es⟩ := h
  exact ⟨c, s, hc, hs, ts_s, by rw [ts_i (by decide)]; exact es⟩
theorem wL_k {T : zT} {k : Nat} {v : Int32} (h0 : k ≠ 0) (h1 : k ≠ 1) (h : wL T) : wL (ts T 7 k v) := wL_of (ts_i h0.symm) (ts_i h1.symm) h
def kdT (T : zT) (x : Int32) : Nat → zT
  | 0 => T
  | c + 1 => ts (kdT T x c) 0 c x
theorem kdT_n {T : zT} {x : Int32} {a : Nat} (h : a ≠ 0) : ∀ c, kdT T x c a = T a := by
  intro c
  induction c with
  | zero => rfl
  | succ c ih => rw [kdT, ts_n h, ih]
def fLaw (T : zT) (x n : Int32) : Nat := if isK x = true ∧ inR n 1 60 = true then (if 999 < T 7 5 + n then 4 else 7) else 0
def rLaw (T : zT) (N : Nat) (x n : Int32) : Int32 := wkc N T (ci n) - wkc N (kdT T x N) (ci n)
def gLaw (T R : zT) (N : Nat) (f : Nat) (n : Int32) : zT := if f = 7 then tr (trR T R 4 (T 7 4) N (ci n)) 1 (mr T) else fR R f
def gSta (T R : zT) (N : Nat) (f : Nat) (n : Int32) : zT := if f = 7 then trR T (trR T R 4 (T 7 4) N (ci n)) 4 (1 - T 7 4) N (ci n) else fR R f
def rStl (T : zT) (N : Nat) (n : Int32) : Int32 := trd T 4 (1 - T 7 4) N (ci n) - trd T 4 (T 7 4) N (ci n)

set_option maxRecDepth 100000 in
set_option maxHeartbeats 4000000 in
theorem m_X4_stale {g : Nat → zE} {T R : zT} {N : Nat} (hN : wN T N) (hL : wL T) (n : Int32) : zM 8 M_X4_stale [.ref 37, .int n] (hR g T R) 46 (some (.int (fr (fWk T n) (rStl T N n)))) (hR g (T) (gSta T R N (fWk T n) n)) 46 0 0 := by
  refine zM.intro (by decide) (Nat.le_of_ble_eq_true rfl) ?_
  intro Wf V m H0 Γ ρ
  replace Γ : zC Wf V m 3 H0 cX4_stale RX4 8 0 0 := Γ
  show zX Wf V m 3 H0 0 (zls [(0, .ref 37), (1, .int n)]) [] (hR g T R) 46 0 0
  have hN2 := hN.2
  refine x_iload_n Γ dX4_stale_0 rfl ?_
  refine x_callS Γ cals_X4_areWeeks wl_X4_152 dX4_stale_1 (m_X4_areWeeks n) rfl (by decide) rfl (Nat.le_of_ble_eq_true rfl) (Nat.le_refl _) (Nat.le_refl _) ?_
  refine x_if_ne Γ (tgt := 14) dX4_stale_4 (by decide) (fun c_1 => ?_) (fun c_1 => ?_)
  · have c_1 := zb_n0.mp c_1
    obtain ⟨K, hK1, hK, rfl⟩ := inR_nI1 (n := 60) c_1 rfl (by omega)
    have eK : ci (nI K) = K := nI_clamp (by omega)
    refine x_aload_n Γ dX4_stale_14 rfl ?_
    refine x_iload_n Γ dX4_stale_15 rfl ?_
    refine x_callV Γ calv_X4_isLate wl_X4_155 dX4_stale_16 (m_X4_isLate (g := g) (T := T) (R := R) (nI K)) rfl (by decide) (by decide) rfl rfl rfl rfl (Nat.le_of_ble_eq_true rfl) (Nat.le_refl _) (Nat.le_refl _) ?_
    refine x_if_eq Γ (tgt := 29) dX4_stale_19 (by decide) (fun c_2 => ?_) (fun c_2 => ?_)
    · have c_2 := zb_0.mp c_2
      replace c_2 := of_decide_eq_false c_2
      refine x_aload_n Γ dX4_stale_29 rfl ?_
      refine x_iload_n Γ dX4_stale_30 rfl ?_
      refine x_iconst Γ (v := 4) dX4_stale_31 rfl ?_
      refine x_aload_n Γ dX4_stale_32 rfl ?_
      refine gf_X4_9 Γ dX4_stale_33 (by decide) rfl rfl ?_
      refine x_iconst Γ (v := 4) dX4_stale_36 rfl ?_
      refine x_iald Γ dX4_stale_37 (by decide) (by rfl) (j := 4) rfl (by decide) (by decide) (mr_s (by decide)) ?_
      refine x_callV Γ calv_X4_tries wl_X4_174 dX4_stale_38 (m_X4_tries (g := g) (T := T) (R := R) hN (k := 4) (by decide) (v := T 7 4) (wL_k (by decide) (by decide) hL) (K := K) hK) rfl (by decide) (by decide) rfl rfl rfl rfl (Nat.le_of_ble_eq_true rfl) (Nat.le_refl _) (Nat.le_refl _) ?_
      refine x_pop Γ dX4_stale_41 rfl ?_
      refine x_aload_n Γ dX4_stale_42 rfl ?_
      refine gf_X4_167 Γ dX4_stale_43 (by decide) rfl rfl ?_
      refine x_istore_n Γ dX4_stale_46 (by decide) ?_
      refine x_aload_n Γ dX4_stale_47 rfl ?_
      refine x_iload_n Γ dX4_stale_48 rfl ?_
      refine x_iconst Γ (v := 4) dX4_stale_49 rfl ?_
      refine x_iconst Γ (v := 1) dX4_stale_50 rfl ?_
      refine x_aload_n Γ dX4_stale_51 rfl ?_
      refine gf_X4_9 Γ dX4_stale_52 (by decide) rfl rfl ?_
      refine x_iconst Γ (v := 4) dX4_stale_55 rfl ?_
      refine x_iald Γ dX4_stale_56 (by decide) (by rfl) (j := 4) rfl (by decide) (by decide) (mr_s (by decide)) ?_
      refine x_isub Γ dX4_stale_57 ?_
      refine x_callV Γ calv_X4_tries wl_X4_174 dX4_stale_58 (m_X4_tries (g := g) (T := T) (R := (trR T R 4 (T 7 4) N K)) hN (k := 4) (by decide) (v := 1 - T 7 4) (wL_k (by decide) (by decide) hL) (K := K) hK) rfl (by decide) (by decide) rfl rfl rfl rfl (Nat.le_of_ble_eq_true rfl) (Nat.le_refl _) (Nat.le_refl _) ?_
      refine x_pop Γ dX4_stale_61 rfl ?_
      refine x_aload_n Γ dX4_stale_62 rfl ?_
      refine gf_X4_167 Γ dX4_stale_63 (by decide) rfl rfl ?_
      refine x_iload_n Γ dX4_stale_66 rfl ?_
      refine x_isub Γ dX4_stale_67 ?_
      exact x_iret ρ rfl dX4_stale_68 rfl (by rw [trR_1, trR_1]; simp [fr, fWk, rStl, *]; try rfl) rfl (by simp [gSta, fWk, *]; exact zH.rf)
    · have c_2 := zb_n0.mp c_2
      replace c_2 := of_decide_eq_true c_2
      refine x_aload_n Γ dX4_stale_22 rfl ?_
      refine x_ldc Γ wl_X4_109 dX4_stale_23 ?_
      refine x_callV Γ calv_X4_finds wl_X4_36 dX4_stale_25 (m_X4_finds (f := -1000005) (k := 4) (by decide) (by decide)) rfl (by decide) (by decide) rfl rfl rfl rfl (Nat.le_of_ble_eq_true rfl) (Nat.le_refl _) (Nat.le_refl _) ?_
      exact x_iret ρ rfl dX4_stale_28 rfl (by simp [fr, fWk, rStl, *]; try rfl) rfl (by simp [fR, fWk, gSta, *]; exact zH.rf)
  · have c_1 := zb_0.mp c_1
    refine x_aload_n Γ dX4_stale_7 rfl ?_
    refine x_ldc Γ wl_X4_34 dX4_stale_8 ?_
    refine x_callV Γ calv_X4_finds wl_X4_36 dX4_stale_10 (m_X4_finds (f := -1000001) (k := 0) (by decide) (by decide)) rfl (by decide) (by decide) rfl rfl rfl rfl (Nat.le_of_ble_eq_true rfl) (Nat.le_refl _) (Nat.le_refl _) ?_
    exact x_iret ρ rfl dX4_stale_13 rfl (by simp [fr, fWk, rStl, *]; try rfl) rfl (by simp [fR, fWk, gSta, *]; exact zH.rf)

set_option maxRecDepth 100000 in
set_option maxHeartbeats 4000000 in
theorem m_X4_law {g : Nat → zE} {T R : zT} {N : Nat} (hN : wN T N) (hL : wL T) (x n : Int32) : zM 8 M_X4_law [.ref 37, .int x, .int n] (hR g T R) 46 (some (.int (fr (fLaw T x n) (rLaw T N x n)))) (hR g (T) (gLaw T R N (fLaw T x n) n)) 46 0 0 := by
  refine zM.intro (by decide) (Nat.le_of_ble_eq_true rfl) ?_
  intro Wf V m H0 Γ ρ
  replace Γ : zC Wf V m 5 H0 cX4_law RX4 8 0 0 := Γ
  show zX Wf V m 5 H0 0 (zls [(0, .ref 37), (1, .int x), (2, .int n)]) [] (hR g T R) 46 0 0
  have hN2 := hN.2
  refine x_iload_n Γ dX4_law_0 rfl ?_
  refine x_callS Γ cals_X4_isKind wl_X4_54 dX4_law_1 (m_X4_isKind x) rfl (by decide) rfl (Nat.le_of_ble_eq_true rfl) (Nat.le_refl _) (Nat.le_refl _) ?_
  refine x_if_eq Γ (tgt := 14) dX4_law_4 (by decide) (fun c_1 => ?_) (fun c_1 => ?_)
  · have c_1 := zb_0.mp c_1
    refine x_aload_n Γ dX4_law_14 rfl ?_
    refine x_ldc Γ wl_X4_34 dX4_law_15 ?_
    refine x_callV Γ calv_X4_finds wl_X4_36 dX4_law_17 (m_X4_finds (f := -1000001) (k := 0) (by decide) (by decide)) rfl (by decide) (by decide) rfl rfl rfl rfl (Nat.le_of_ble_eq_true rfl) (Nat.le_refl _) (Nat.le_refl _) ?_
    exact x_iret ρ rfl dX4_law_20 rfl (by simp [fr, fLaw, rLaw, *]; try rfl) rfl (by simp [fR, fLaw, gLaw, *]; exact zH.rf)
  · have c_1 := zb_n0.mp c_1
    refine x_iload_n Γ dX4_law_7 rfl ?_
    refine x_callS Γ cals_X4_areWeeks wl_X4_152 dX4_law_8 (m_X4_areWeeks n) rfl (by decide) rfl (Nat.le_of_ble_eq_true rfl) (Nat.le_refl _) (Nat.le_refl _) ?_
    refine x_if_ne Γ (tgt := 21) dX4_law_11 (by decide) (fun c_2 => ?_) (fun c_2 => ?_)
    · have c_2 := zb_n0.mp c_2
      obtain ⟨K, hK1, hK, rfl⟩ := inR_nI1 (n := 60) c_2 rfl (by omega)
      have eK : ci (nI K) = K := nI_clamp (by omega)
      refine x_aload_n Γ dX4_law_21 rfl ?_
      refine x_iload_n Γ dX4_law_22 rfl ?_
      refine x_callV Γ calv_X4_isLate wl_X4_155 dX4_law_23 (m_X4_isLate (g := g) (T := T) (R := R) (nI K)) rfl (by decide) (by decide) rfl rfl rfl rfl (Nat.le_of_ble_eq_true rfl) (Nat.le_refl _) (Nat.le_refl _) ?_
      refine x_if_eq Γ (tgt := 36) dX4_law_26 (by decide) (fun c_3 => ?_) (fun c_3 => ?_)
      · have c_3 := zb_0.mp c_3
        replace c_3 := of_decide_eq_false c_3
        refine x_aload_n Γ dX4_law_36 rfl ?_
        refine x_iload_n Γ dX4_law_37 rfl ?_
        refine x_iconst Γ (v := 4) dX4_law_38 rfl ?_
        refine x_aload_n Γ dX4_law_39 rfl ?_
        refine gf_X4_9 Γ dX4_law_40 (by decide) rfl rfl ?_
        refine x_iconst Γ (v := 4) dX4_law_43 rfl ?_
        refine x_iald Γ dX4_law_44 (by decide) (by rfl) (j := 4) rfl (by decide) (by decide) (mr_s (by decide)) ?_
        refine x_callV Γ calv_X4_tries wl_X4_174 dX4_law_45 (m_X4_tries (g := g) (T := T) (R := R) hN (k := 4) (by decide) (v := T 7 4) (wL_k (by decide) (by decide) hL) (K := K) hK) rfl (by decide) (by decide) rfl rfl rfl rfl (Nat.le_of_ble_eq_true rfl) (Nat.le_refl _) (Nat.le_refl _) ?_
        rw [ts_self]
        refine x_istore_n Γ dX4_law_48 (by decide) ?_
        refine x_aload_n Γ dX4_law_49 rfl ?_
        refine gf_X4_9 Γ dX4_law_50 (by decide) rfl rfl ?_
        refine x_aload_n Γ dX4_law_53 rfl ?_
        refine gf_X4_16 Γ dX4_law_54 (by decide) rfl rfl ?_
        refine x_callSv Γ cals_X4_row wl_X4_123 dX4_law_57 (row_mw (g := g) (T := T) (R := (trR T R 4 (T 7 4) N K))) rfl (by decide) rfl (Nat.le_of_ble_eq_true rfl) (Nat.le_refl _) (Nat.le_refl _) ?_
        refine x_iconst Γ (v := 0) dX4_law_60 rfl ?_
        refine x_istore Γ dX4_law_61 (by decide) ?_
        suffices L_63 : ∀ (k c : Nat), c ≤ N → N - c < k → zX Wf V m 5 H0 63 (zls [(0, .ref 37), (1, .int x), (2, .int (nI K)), (3, .int (wkc N T K)), (4, .int (nI c))]) [] (hR g (kdT T x c) (tr (trR T R 4 (T 7 4) N K) 1 (mr T))) 46 0 0 by
          exact x_subl [(0, .ref 37), (1, .int x), (2, .int (nI K)), (3, .int (wkc N T K)), (4, .int (nI 0))] (List.forall_mem_cons.mpr ⟨rfl, List.forall_mem_cons.mpr ⟨rfl, List.forall_mem_cons.mpr ⟨rfl, List.forall_mem_cons.mpr ⟨rfl, List.forall_mem_cons.mpr ⟨rfl, fun _ hz => absurd hz List.not_mem_nil⟩⟩⟩⟩⟩) (x_heap (rfl) (L_63 (N + 1) 0 (by omega) (by omega)))
        intro k
        induction k with
        | zero => intro c h1 h2; omega
        | succ k ih =>
          intro c h1 h2
          refine x_iload Γ dX4_law_63 rfl ?_
          refine x_aload_n Γ dX4_law_65 rfl ?_
          refine gf_X4_9 Γ dX4_law_66 (by decide) rfl rfl ?_
          refine x_bipush Γ (v := 8) dX4_law_69 rfl ?_
          refine x_iald Γ dX4_law_71 (by decide) (by rfl) (j := 8) rfl (by decide) (by decide) (mr_s (by decide)) ?_
          refine x_icmp_ge Γ (tgt := 89) dX4_law_72 (by decide) (fun c_4 => ?_) (fun c_4 => ?_)
          · rw [kdT_n (a := 7) (by decide) c, hN.1] at c_4
            have c_4 := z_le c_4 (by omega) (by omega)
            obtain rfl : N = c := by omega
            refine x_aload_n Γ dX4_law_89 rfl ?_
            refine x_iload_n Γ dX4_law_90 rfl ?_
            refine x_callV Γ calv_X4_goes wl_X4_158 dX4_law_91 (m_X4_goes (g := g) (T := kdT T x N) (R := (tr (trR T R 4 (T 7 4) N K) 1 (mr T))) (wN_of (by rw [kdT_n (by decide) N]) hN) (wL_of (by rw [kdT_n (by decide) N]) (by rw [kdT_n (by decide) N]) hL) (K := K) hK) rfl (by decide) (by decide) rfl rfl rfl rfl (Nat.le_of_ble_eq_true rfl) (Nat.le_refl _) (Nat.le_refl _) ?_
            refine x_istore Γ dX4_law_94 (by decide) ?_
            refine x_aload_n Γ dX4_law_96 rfl ?_
            refine gf_X4_16 Γ dX4_law_97 (by decide) rfl rfl ?_
            refine x_aload_n Γ dX4_law_100 rfl ?_
            refine gf_X4_9 Γ dX4_law_101 (by decide) rfl rfl ?_
            refine x_callSv Γ cals_X4_row wl_X4_123 dX4_law_104 (row_wm (g := g) (T := T) (U := wks N K (kdT T x N)) (R := (tr (trR T R 4 (T 7 4) N K) 1 (mr T))) tr_s) rfl (by decide) rfl (Nat.le_of_ble_eq_true rfl) (Nat.le_refl _) (Nat.le_refl _) ?_
            refine x_iload_n Γ dX4_law_107 rfl ?_
            refine x_iload Γ dX4_law_108 rfl ?_
            refine x_isub Γ dX4_law_110 ?_
            exact x_iret ρ rfl dX4_law_111 rfl (by simp [fr, fLaw, rLaw, *]; try rfl) rfl (by simp [fR, fLaw, gLaw, *]; exact zH.rf)
          · rw [kdT_n (a := 7) (by decide) c, hN.1] at c_4
            have c_4 := z_nle c_4 (by omega) (by omega)
            refine x_aload_n Γ dX4_law_75 rfl ?_
            refine x_iload Γ dX4_law_76 rfl ?_
            refine x_iconst Γ (v := 0) dX4_law_78 rfl ?_
            refine x_iload_n Γ dX4_law_79 rfl ?_
            refine x_callVv Γ calv_X4_makes wl_X4_50 dX4_law_80 (m_X4_makes (g := g) (T := kdT T x c) (R := (tr (trR T R 4 (T 7 4) N K) 1 (mr T))) (c := c) (w := 0) (by omega) (by decide) x) rfl (by decide) (by decide) rfl rfl rfl rfl (Nat.le_of_ble_eq_true rfl) (Nat.le_refl _) (Nat.le_refl _) ?_
            refine x_iinc Γ dX4_law_83 rfl (by first | exact zinc _ | rfl) (by decide) ?_
            refine x_goto Γ (tgt := 63) dX4_law_86 (by decide) ?_
            exact x_subl [(0, .ref 37), (1, .int x), (2, .int (nI K)), (3, .int (wkc N T K)), (4, .int (nI (c + 1)))] (List.forall_mem_cons.mpr ⟨rfl, List.forall_mem_cons.mpr ⟨rfl, List.forall_mem_cons.mpr ⟨rfl, List.forall_mem_cons.mpr ⟨rfl, List.forall_mem_cons.mpr ⟨rfl, fun _ hz => absurd hz List.not_mem_nil⟩⟩⟩⟩⟩) (x_heap (rfl) (ih (c + 1) (by omega) (by omega)))
      · have c_3 := zb_n0.mp c_3
        replace c_3 := of_decide_eq_true c_3
        refine x_aload_n Γ dX4_law_29 rfl ?_
        refine x_ldc Γ wl_X4_109 dX4_law_30 ?_
        refine x_callV Γ calv_X4_finds wl_X4_36 dX4_law_32 (m_X4_finds (f := -1000005) (k := 4) (by decide) (by decide)) rfl (by decide) (by decide) rfl rfl rfl rfl (Nat.le_of_ble_eq_true rfl) (Nat.le_refl _) (Nat.le_refl _) ?_
        exact x_iret ρ rfl dX4_law_35 rfl (by simp [fr, fLaw, rLaw, *]; try rfl) rfl (by simp [fR, fLaw, gLaw, *]; exact zH.rf)
    · have c_2 := zb_0.mp c_2
      refine x_aload_n Γ dX4_law_14 rfl ?_
      refine x_ldc Γ wl_X4_34 dX4_law_15 ?_
      refine x_callV Γ calv_X4_finds wl_X4_36 dX4_law_17 (m_X4_finds (f := -1000001) (k := 0) (by decide) (by decide)) rfl (by decide) (by decide) rfl rfl rfl rfl (Nat.le_of_ble_eq_true rfl) (Nat.le_refl _) (Nat.le_refl _) ?_
      exact x_iret ρ rfl dX4_law_20 rfl (by simp [fr, fLaw, rLaw, *]; try rfl) rfl (by simp [fR, fLaw, gLaw, *]; exact zH.rf)

set_option maxRecDepth 100000 in
set_option maxHeartbeats 4000000 in
theorem m_X4_loaves {g : Nat → zE} {T R : zT} {N : Nat} (hN : wN T N) (hL : wL T) (n : Int32) : zM 8 M_X4_loaves [.ref 37, .int n] (hR g T R) 46 (some (.int (fr (fRp T 0 N n 11 0) (rRp T 0 N n 11 0)))) (hR g (T) (gRp T R 0 N n 11 0)) 46 0 0 := by
  refine zM.intro (by decide) (Nat.le_of_ble_eq_true rfl) ?_
  intro Wf V m H0 Γ ρ
  replace Γ : zC Wf V m 3 H0 cX4_loaves RX4 8 0 0 := Γ
  show zX Wf V m 3 H0 0 (zls [(0, .ref 37), (1, .int n)]) [] (hR g T R) 46 0 0
  have hN2 := hN.2
  refine x_iload_n Γ dX4_loaves_0 rfl ?_
  refine x_callS Γ cals_X4_areWeeks wl_X4_152 dX4_loaves_1 (m_X4_areWeeks n) rfl (by decide) rfl (Nat.le_of_ble_eq_true rfl) (Nat.le_refl _) (Nat.le_refl _) ?_
  refine x_if_ne Γ (tgt := 14) dX4_loaves_4 (by decide) (fun c_1 => ?_) (fun c_1 => ?_)
  · have c_1 := zb_n0.mp c_1
    obtain ⟨K, hK1, hK, rfl⟩ := inR_nI1 (n := 60) c_1 rfl (by omega)
    have eK : ci (nI K) = K := nI_clamp (by omega)
    refine x_aload_n Γ dX4_loaves_14 rfl ?_
    refine x_iload_n Γ dX4_loaves_15 rfl ?_
    refine x_callV Γ calv_X4_isLate wl_X4_155 dX4_loaves_16 (m_X4_isLate (g := g) (T := T) (R := R) (nI K)) rfl (by decide) (by decide) rfl rfl rfl rfl (Nat.le_of_ble_eq_true rfl) (Nat.le_refl _) (Nat.le_refl _) ?_
    refine x_if_eq Γ (tgt := 29) dX4_loaves_19 (by decide) (fun c_2 => ?_) (fun c_2 => ?_)
    · have c_2 := zb_0.mp c_2
      replace c_2 := of_decide_eq_false c_2
      refine x_iconst Γ (v := 0) dX4_loaves_29 rfl ?_
      refine x_istore_n Γ dX4_loaves_30 (by decide) ?_
      suffices L_31 : ∀ (f k c : Nat), k < f → 0 ≤ c → c + k = 11 → rpS T 0 N K k c = rpS T 0 N K 11 0 → zX Wf V m 3 H0 31 (zls [(0, .ref 37), (1, .int (nI K)), (2, .int (nI c))]) [] (hR g T (rpH T R 0 N K 0 c)) 46 0 0 by
        exact x_subl [(0, .ref 37), (1, .int (nI K)), (2, .int (nI 0))] (List.forall_mem_cons.mpr ⟨rfl, List.forall_mem_cons.mpr ⟨rfl, List.forall_mem_cons.mpr ⟨rfl, fun _ hz => absurd hz List.not_mem_nil⟩⟩⟩) (x_heap (by rw [rpH, if_pos rfl]) (L_31 12 11 0 (by omega) (by omega) (by omega) rfl))
      intro f
      induction f with
      | zero => intro k c h1; omega
      | succ f ih =>
        intro k c h1 h2 h3 h4
        refine x_iload_n Γ dX4_loaves_31 rfl ?_
        refine x_bipush Γ (v := 10) dX4_loaves_32 rfl ?_
        refine x_icmp_gt Γ (tgt := 60) dX4_loaves_34 (by decide) (fun c_3 => ?_) (fun c_3 => ?_)
        · have c_3 := z_lt (a := 10) c_3 (by omega) (by omega)
          obtain rfl : k = 0 := by omega
          obtain rfl : c = 11 := by omega
          have h5 : rpS T 0 N K 11 0 = none := h4.symm
          refine x_aload_n Γ dX4_loaves_60 rfl ?_
          refine x_ldc Γ wl_X4_35 dX4_loaves_61 ?_
          refine x_callV Γ calv_X4_finds wl_X4_36 dX4_loaves_63 (m_X4_finds (f := -1000004) (k := 3) (by decide) (by decide)) rfl (by decide) (by decide) rfl rfl rfl rfl (Nat.le_of_ble_eq_true rfl) (Nat.le_refl _) (Nat.le_refl _) ?_
          exact x_iret ρ rfl dX4_loaves_66 rfl (by clear h4; simp [fr, fRp, rRp, oF, oR, *]; try rfl) rfl (by clear h4; simp [fRp, gRp, oF, fR, *]; exact zH.rf)
        · have c_3 := z_nlt (a := 10) c_3 (by omega) (by omega)
          obtain ⟨k1, rfl⟩ : ∃ k1, k = k1 + 1 := ⟨k - 1, by omega⟩
          refine x_aload_n Γ dX4_loaves_37 rfl ?_
          refine x_iload_n Γ dX4_loaves_38 rfl ?_
          refine x_iconst Γ (v := 0) dX4_loaves_39 rfl ?_
          refine x_iload_n Γ dX4_loaves_40 rfl ?_
          refine x_callV Γ calv_X4_tries wl_X4_174 dX4_loaves_41 (m_X4_tries (g := g) (T := T) (R := rpH T R 0 N K 0 c) hN (k := 0) (by decide) (v := nI c) (wL_0 (by omega) hL) (K := K) hK) rfl (by decide) (by decide) rfl rfl rfl rfl (Nat.le_of_ble_eq_true rfl) (Nat.le_refl _) (Nat.le_refl _) ?_
          rw [rpH_tr h2]
          refine x_pop Γ dX4_loaves_44 rfl ?_
          refine x_aload_n Γ dX4_loaves_45 rfl ?_
          refine gf_X4_167 Γ dX4_loaves_46 (by decide) rfl rfl ?_
          refine x_if_ne Γ (tgt := 54) dX4_loaves_49 (by decide) (fun c_4 => ?_) (fun c_4 => ?_)
          · rw [rpH_1 h2] at c_4
            have h5 : rpS T 0 N K k1 (c + 1) = rpS T 0 N K 11 0 := (if_neg c_4).symm.trans h4
            refine x_iinc Γ dX4_loaves_54 rfl (by first | exact zinc _ | rfl) (by decide) ?_
            refine x_goto Γ (tgt := 31) dX4_loaves_57 (by decide) ?_
            exact x_subl [(0, .ref 37), (1, .int (nI K)), (2, .int (nI (c + 1)))] (List.forall_mem_cons.mpr ⟨rfl, List.forall_mem_cons.mpr ⟨rfl, List.forall_mem_cons.mpr ⟨rfl, fun _ hz => absurd hz List.not_mem_nil⟩⟩⟩) (ih k1 (c + 1) (by omega) (by omega) (by omega) h5)
          · rw [rpH_1 h2] at c_4
            have h5 : rpS T 0 N K 11 0 = some c := h4.symm.trans (if_pos c_4)
            refine x_iload_n Γ dX4_loaves_52 rfl ?_
            exact x_iret ρ rfl dX4_loaves_53 rfl (by clear h4; simp [fr, fRp, rRp, oF, oR, *]; try rfl) rfl (by clear h4; simp [fRp, gRp, oF, *]; exact zH.rf)
    · have c_2 := zb_n0.mp c_2
      replace c_2 := of_decide_eq_true c_2
      refine x_aload_n Γ dX4_loaves_22 rfl ?_
      refine x_ldc Γ wl_X4_109 dX4_loaves_23 ?_
      refine x_callV Γ calv_X4_finds wl_X4_36 dX4_loaves_25 (m_X4_finds (f := -1000005) (k := 4) (by decide) (by decide)) rfl (by decide) (by decide) rfl rfl rfl rfl (Nat.le_of_ble_eq_true rfl) (Nat.le_refl _) (Nat.le_refl _) ?_
      exact x_iret ρ rfl dX4_loaves_28 rfl (by simp [fr, fRp, rRp, oF, oR, *]; try rfl) rfl (by simp [fR, fRp, gRp, oF, *]; exact zH.rf)
  · have c_1 := zb_0.mp c_1
    refine x_aload_n Γ dX4_loaves_7 rfl ?_
    refine x_ldc Γ wl_X4_34 dX4_loaves_8 ?_
    refine x_callV Γ calv_X4_finds wl_X4_36 dX4_loaves_10 (m_X4_finds (f := -1000001) (k := 0) (by decide) (by decide)) rfl (by decide) (by decide) rfl rfl rfl rfl (Nat.le_of_ble_eq_true rfl) (Nat.le_refl _) (Nat.le_refl _) ?_
    exact x_iret ρ rfl dX4_loaves_13 rfl (by simp [fr, fRp, rRp, oF, oR, *]; try rfl) rfl (by simp [fR, fRp, gRp, oF, *]; exact zH.rf)

set_option maxRecDepth 100000 in
set_option maxHeartbeats 4000000 in
theorem m_X4_bound {g : Nat → zE} {T R : zT} {N : Nat} (hN : wN T N) (hL : wL T) (n : Int32) : zM 8 M_X4_bound [.ref 37, .int n] (hR g T R) 46 (some (.int (fr (fRp T 2 N n 10 1) (rRp T 2 N n 10 1)))) (hR g (T) (gRp T R 2 N n 10 1)) 46 0 0 := by
  refine zM.intro (by decide) (Nat.le_of_ble_eq_true rfl) ?_
  intro Wf V m H0 Γ ρ
  replace Γ : zC Wf V m 3 H0 cX4_bound RX4 8 0 0 := Γ
  show zX Wf V m 3 H0 0 (zls [(0, .ref 37), (1, .int n)]) [] (hR g T R) 46 0 0
  have hN2 := hN.2
  refine x_iload_n Γ dX4_bound_0 rfl ?_
  refine x_callS Γ cals_X4_areWeeks wl_X4_152 dX4_bound_1 (m_X4_areWeeks n) rfl (by decide) rfl (Nat.le_of_ble_eq_true rfl) (Nat.le_refl _) (Nat.le_refl _) ?_
  refine x_if_ne Γ (tgt := 14) dX4_bound_4 (by decide) (fun c_1 => ?_) (fun c_1 => ?_)
  · have c_1 := zb_n0.mp c_1
    obtain ⟨K, hK1, hK, rfl⟩ := inR_nI1 (n := 60) c_1 rfl (by omega)
    have eK : ci (nI K) = K := nI_clamp (by omega)
    refine x_aload_n Γ dX4_bound_14 rfl ?_
    refine x_iload_n Γ dX4_bound_15 rfl ?_
    refine x_callV Γ calv_X4_isLate wl_X4_155 dX4_bound_16 (m_X4_isLate (g := g) (T := T) (R := R) (nI K)) rfl (by decide) (by decide) rfl rfl rfl rfl (Nat.le_of_ble_eq_true rfl) (Nat.le_refl _) (Nat.le_refl _) ?_
    refine x_if_eq Γ (tgt := 29) dX4_bound_19 (by decide) (fun c_2 => ?_) (fun c_2 => ?_)
    · have c_2 := zb_0.mp c_2
      replace c_2 := of_decide_eq_false c_2
      refine x_iconst Γ (v := 1) dX4_bound_29 rfl ?_
      refine x_istore_n Γ dX4_bound_30 (by decide) ?_
      suffices L_31 : ∀ (f k c : Nat), k < f → 1 ≤ c → c + k = 11 → rpS T 2 N K k c = rpS T 2 N K 10 1 → zX Wf V m 3 H0 31 (zls [(0, .ref 37), (1, .int (nI K)), (2, .int (nI c))]) [] (hR g T (rpH T R 2 N K 1 c)) 46 0 0 by
        exact x_subl [(0, .ref 37), (1, .int (nI K)), (2, .int (nI 1))] (List.forall_mem_cons.mpr ⟨rfl, List.forall_mem_cons.mpr ⟨rfl, List.forall_mem_cons.mpr ⟨rfl, fun _ hz => absurd hz List.not_mem_nil⟩⟩⟩) (x_heap (by rw [rpH, if_pos rfl]) (L_31 12 10 1 (by omega) (by omega) (by omega) rfl))
      intro f
      induction f with
      | zero => intro k c h1; omega
      | succ f ih =>
        intro k c h1 h2 h3 h4
        refine x_iload_n Γ dX4_bound_31 rfl ?_
        refine x_bipush Γ (v := 10) dX4_bound_32 rfl ?_
        refine x_icmp_gt Γ (tgt := 60) dX4_bound_34 (by decide) (fun c_3 => ?_) (fun c_3 => ?_)
        · have c_3 := z_lt (a := 10) c_3 (by omega) (by omega)
          obtain rfl : k = 0 := by omega
          obtain rfl : c = 11 := by omega
          have h5 : rpS T 2 N K 10 1 = none := h4.symm
          refine x_aload_n Γ dX4_bound_60 rfl ?_
          refine x_ldc Γ wl_X4_35 dX4_bound_61 ?_
          refine x_callV Γ calv_X4_finds wl_X4_36 dX4_bound_63 (m_X4_finds (f := -1000004) (k := 3) (by decide) (by decide)) rfl (by decide) (by decide) rfl rfl rfl rfl (Nat.le_of_ble_eq_true rfl) (Nat.le_refl _) (Nat.le_refl _) ?_
          exact x_iret ρ rfl dX4_bound_66 rfl (by clear h4; simp [fr, fRp, rRp, oF, oR, *]; try rfl) rfl (by clear h4; simp [fRp, gRp, oF, fR, *]; exact zH.rf)
        · have c_3 := z_nlt (a := 10) c_3 (by omega) (by omega)
          obtain ⟨k1, rfl⟩ : ∃ k1, k = k1 + 1 := ⟨k - 1, by omega⟩
          refine x_aload_n Γ dX4_bound_37 rfl ?_
          refine x_iload_n Γ dX4_bound_38 rfl ?_
          refine x_iconst Γ (v := 2) dX4_bound_39 rfl ?_
          refine x_iload_n Γ dX4_bound_40 rfl ?_
          refine x_callV Γ calv_X4_tries wl_X4_174 dX4_bound_41 (m_X4_tries (g := g) (T := T) (R := rpH T R 2 N K 1 c) hN (k := 2) (by decide) (v := nI c) (wL_k (by decide) (by decide) hL) (K := K) hK) rfl (by decide) (by decide) rfl rfl rfl rfl (Nat.le_of_ble_eq_true rfl) (Nat.le_refl _) (Nat.le_refl _) ?_
          rw [rpH_tr h2]
          refine x_pop Γ dX4_bound_44 rfl ?_
          refine x_aload_n Γ dX4_bound_45 rfl ?_
          refine gf_X4_167 Γ dX4_bound_46 (by decide) rfl rfl ?_
          refine x_if_ne Γ (tgt := 54) dX4_bound_49 (by decide) (fun c_4 => ?_) (fun c_4 => ?_)
          · rw [rpH_1 h2] at c_4
            have h5 : rpS T 2 N K k1 (c + 1) = rpS T 2 N K 10 1 := (if_neg c_4).symm.trans h4
            refine x_iinc Γ dX4_bound_54 rfl (by first | exact zinc _ | rfl) (by decide) ?_
            refine x_goto Γ (tgt := 31) dX4_bound_57 (by decide) ?_
            exact x_subl [(0, .ref 37), (1, .int (nI K)), (2, .int (nI (c + 1)))] (List.forall_mem_cons.mpr ⟨rfl, List.forall_mem_cons.mpr ⟨rfl, List.forall_mem_cons.mpr ⟨rfl, fun _ hz => absurd hz List.not_mem_nil⟩⟩⟩) (ih k1 (c + 1) (by omega) (by omega) (by omega) h5)
          · rw [rpH_1 h2] at c_4
            have h5 : rpS T 2 N K 10 1 = some c := h4.symm.trans (if_pos c_4)
            refine x_iload_n Γ dX4_bound_52 rfl ?_
            exact x_iret ρ rfl dX4_bound_53 rfl (by clear h4; simp [fr, fRp, rRp, oF, oR, *]; try rfl) rfl (by clear h4; simp [fRp, gRp, oF, *]; exact zH.rf)
    · have c_2 := zb_n0.mp c_2
      replace c_2 := of_decide_eq_true c_2
      refine x_aload_n Γ dX4_bound_22 rfl ?_
      refine x_ldc Γ wl_X4_109 dX4_bound_23 ?_
      refine x_callV Γ calv_X4_finds wl_X4_36 dX4_bound_25 (m_X4_finds (f := -1000005) (k := 4) (by decide) (by decide)) rfl (by decide) (by decide) rfl rfl rfl rfl (Nat.le_of_ble_eq_true rfl) (Nat.le_refl _) (Nat.le_refl _) ?_
      exact x_iret ρ rfl dX4_bound_28 rfl (by simp [fr, fRp, rRp, oF, oR, *]; try rfl) rfl (by simp [fR, fRp, gRp, oF, *]; exact zH.rf)
  · have c_1 := zb_0.mp c_1
    refine x_aload_n Γ dX4_bound_7 rfl ?_
    refine x_ldc Γ wl_X4_34 dX4_bound_8 ?_
    refine x_callV Γ calv_X4_finds wl_X4_36 dX4_bound_10 (m_X4_finds (f := -1000001) (k := 0) (by decide) (by decide)) rfl (by decide) (by decide) rfl rfl rfl rfl (Nat.le_of_ble_eq_true rfl) (Nat.le_refl _) (Nat.le_refl _) ?_
    exact x_iret ρ rfl dX4_bound_13 rfl (by simp [fr, fRp, rRp, oF, oR, *]; try rfl) rfl (by simp [fR, fRp, gRp, oF, *]; exact zH.rf)

set_option maxRecDepth 100000 in
set_option maxHeartbeats 4000000 in
theorem m_X4_price {g : Nat → zE} {T R : zT} {N : Nat} (hN : wN T N) : zM 2 M_X4_price [.ref 37] (hR g T R) 46 (some (.int (fr (fPri T N) (rPri T N)))) (hR g (T) (fR R (fPri T N))) 46 0 0 := by
  refine zM.intro (by decide) (Nat.le_of_ble_eq_true rfl) ?_
  intro Wf V m H0 Γ ρ
  replace Γ : zC Wf V m 5 H0 cX4_price RX4 2 0 0 := Γ
  show zX Wf V m 5 H0 0 (zls [(0, .ref 37)]) [] (hR g T R) 46 0 0
  have hN2 := hN.2
  refine x_aload_n Γ dX4_price_0 rfl ?_
  refine x_iconst Γ (v := 2) dX4_price_1 rfl ?_
  refine x_callV Γ calv_X4_with wl_X4_99 dX4_price_2 (m_X4_with (g := g) (T := T) (R := R) hN 2) rfl (by decide) (by decide) rfl rfl rfl rfl (Nat.le_of_ble_eq_true rfl) (Nat.le_refl _) (Nat.le_refl _) ?_
  refine x_if_ne Γ (tgt := 15) dX4_price_5 (by decide) (fun c_1 => ?_) (fun c_1 => ?_)
  · refine x_aload_n Γ dX4_price_15 rfl ?_
    refine x_iconst Γ (v := 1) dX4_price_16 rfl ?_
    refine x_callV Γ calv_X4_with wl_X4_99 dX4_price_17 (m_X4_with (g := g) (T := T) (R := R) hN 1) rfl (by decide) (by decide) rfl rfl rfl rfl (Nat.le_of_ble_eq_true rfl) (Nat.le_refl _) (Nat.le_refl _) ?_
    refine x_callS Γ cals_X4_many wl_X4_136 dX4_price_20 (m_X4_many (setW T 1 N)) rfl (by decide) rfl (Nat.le_of_ble_eq_true rfl) (Nat.le_refl _) (Nat.le_refl _) ?_
    refine x_istore_n Γ dX4_price_23 (by decide) ?_
    refine x_iconst Γ (v := 0) dX4_price_24 rfl ?_
    refine x_istore_n Γ dX4_price_25 (by decide) ?_
    suffices L_26 : ∀ (f k v : Nat), k < f → v + k = 100 → prS T N (many (setW T 1 N)) k v = prS T N (many (setW T 1 N)) 100 0 → zX Wf V m 5 H0 26 (zls [(0, .ref 37), (1, .int (many (setW T 1 N))), (2, .int (nI v))]) [] (hR g T R) 46 0 0 by
      exact x_subl [(0, .ref 37), (1, .int (many (setW T 1 N))), (2, .int (nI 0))] (List.forall_mem_cons.mpr ⟨rfl, List.forall_mem_cons.mpr ⟨rfl, List.forall_mem_cons.mpr ⟨rfl, fun _ hz => absurd hz List.not_mem_nil⟩⟩⟩) (L_26 101 100 0 (by omega) (by omega) rfl)
    intro f
    induction f with
    | zero => intro k v q1; omega
    | succ f iho =>
      intro k v q1 q2 q3
      refine x_iload_n Γ dX4_price_26 rfl ?_
      refine x_bipush Γ (v := 100) dX4_price_27 rfl ?_
      refine x_icmp_ge Γ (tgt := 103) dX4_price_29 (by decide) (fun c_2 => ?_) (fun c_2 => ?_)
      · have c_2 := z_le (a := 100) c_2 (by omega) (by omega)
        obtain rfl : k = 0 := by omega
        have h5 : prS T N (many (setW T 1 N)) 100 0 = none := q3.symm
        clear q3
        refine x_aload_n Γ dX4_price_103 rfl ?_
        refine x_ldc Γ wl_X4_35 dX4_price_104 ?_
        refine x_callV Γ calv_X4_finds wl_X4_36 dX4_price_106 (m_X4_finds (f := -1000004) (k := 3) (by decide) (by decide)) rfl (by decide) (by decide) rfl rfl rfl rfl (Nat.le_of_ble_eq_true rfl) (Nat.le_refl _) (Nat.le_refl _) ?_
        exact x_iret ρ rfl dX4_price_109 rfl (by simp [fr, fPri, rPri, oF, oR, *]; try rfl) rfl (by simp [fR, fPri, oF, *]; exact zH.rf)
      · have c_2 := z_nle (a := 100) c_2 (by omega) (by omega)
        obtain ⟨k1, rfl⟩ : ∃ k1, k = k1 + 1 := ⟨k - 1, by omega⟩
        refine x_iconst Γ (v := 0) dX4_price_32 rfl ?_
        refine x_istore_n Γ dX4_price_33 (by decide) ?_
        refine x_iconst Γ (v := 0) dX4_price_34 rfl ?_
        refine x_istore Γ dX4_price_35 (by decide) ?_
        suffices L_37 : ∀ (k c : Nat), c ≤ N → N - c < k → zX Wf V m 5 H0 37 (zls [(0, .ref 37), (1, .int (many (setW T 1 N))), (2, .int (nI v)), (3, .int (prf T (nI v) c)), (4, .int (nI c))]) [] (hR g T R) 46 0 0 by
          exact x_subl [(0, .ref 37), (1, .int (many (setW T 1 N))), (2, .int (nI v)), (3, .int (prf T (nI v) 0)), (4, .int (nI 0))] (List.forall_mem_cons.mpr ⟨rfl, List.forall_mem_cons.mpr ⟨rfl, List.forall_mem_cons.mpr ⟨rfl, List.forall_mem_cons.mpr ⟨rfl, List.forall_mem_cons.mpr ⟨rfl, fun _ hz => absurd hz List.not_mem_nil⟩⟩⟩⟩⟩) (x_heap (rfl) (L_37 (N + 1) 0 (by omega) (by omega)))
        intro k
        induction k with
        | zero => intro c h1 h2; omega
        | succ k ih =>
          intro c h1 h2
          refine x_iload Γ dX4_price_37 rfl ?_
          refine x_aload_n Γ dX4_price_39 rfl ?_
          refine gf_X4_9 Γ dX4_price_40 (by decide) rfl rfl ?_
          refine x_bipush Γ (v := 8) dX4_price_43 rfl ?_
          refine x_iald Γ dX4_price_45 (by decide) (by rfl) (j := 8) rfl (by decide) (by decide) (mr_s (by decide)) ?_
          refine x_icmp_ge Γ (tgt := 90) dX4_price_46 (by decide) (fun c_3 => ?_) (fun c_3 => ?_)
          · rw [hN.1] at c_3
            have c_3 := z_le c_3 (by omega) (by omega)
            obtain rfl : N = c := by omega
            refine x_iload_n Γ dX4_price_90 rfl ?_
            refine x_iload_n Γ dX4_price_91 rfl ?_
            refine x_icmp_lt Γ (tgt := 97) dX4_price_92 (by decide) (fun c_4 => ?_) (fun c_4 => ?_)
            · have h5 : prS T N (many (setW T 1 N)) k1 (v + 1) = prS T N (many (setW T 1 N)) 100 0 := (if_pos c_4).symm.trans q3
              refine x_iinc Γ dX4_price_97 rfl (by first | exact zinc _ | rfl) (by decide) ?_
              refine x_goto Γ (tgt := 26) dX4_price_100 (by decide) ?_
              exact x_subl [(0, .ref 37), (1, .int (many (setW T 1 N))), (2, .int (nI (v + 1)))] (List.forall_mem_cons.mpr ⟨rfl, List.forall_mem_cons.mpr ⟨rfl, List.forall_mem_cons.mpr ⟨rfl, fun _ hz => absurd hz List.not_mem_nil⟩⟩⟩) (iho k1 (v + 1) (by omega) (by omega) h5)
            · have h5 : prS T N (many (setW T 1 N)) 100 0 = some v := q3.symm.trans (if_neg c_4)
              clear q3
              refine x_iload_n Γ dX4_price_95 rfl ?_
              exact x_iret ρ rfl dX4_price_96 rfl (by simp [fr, fPri, rPri, oF, oR, *]; try rfl) rfl (by simp [fR, fPri, oF, *]; exact zH.rf)
          · rw [hN.1] at c_3
            have c_3 := z_nle c_3 (by omega) (by omega)
            refine x_iload_n Γ dX4_price_49 rfl ?_
            refine x_aload_n Γ dX4_price_50 rfl ?_
            refine x_iload Γ dX4_price_51 rfl ?_
            refine x_iconst Γ (v := 5) dX4_price_53 rfl ?_
            refine x_callV Γ calv_X4_is wl_X4_63 dX4_price_54 (m_X4_is (g := g) (T := T) (R := R) (c := c) (w := 5) (by omega) (by decide)) rfl (by decide) (by decide) rfl rfl rfl rfl (Nat.le_of_ble_eq_true rfl) (Nat.le_refl _) (Nat.le_refl _) ?_
            refine x_if_eq Γ (tgt := 81) dX4_price_57 (by decide) (fun c_5 => ?_) (fun c_5 => ?_)
            · refine x_iconst Γ (v := 0) dX4_price_81 rfl ?_
              refine x_iadd Γ dX4_price_82 ?_
              refine x_istore_n Γ dX4_price_83 (by decide) ?_
              refine x_iinc Γ dX4_price_84 rfl (by first | exact zinc _ | rfl) (by decide) ?_
              refine x_goto Γ (tgt := 37) dX4_price_87 (by decide) ?_
              exact x_subl [(0, .ref 37), (1, .int (many (setW T 1 N))), (2, .int (nI v)), (3, .int (prf T (nI v) (c + 1))), (4, .int (nI (c + 1)))] (List.forall_mem_cons.mpr ⟨rfl, List.forall_mem_cons.mpr ⟨rfl, List.forall_mem_cons.mpr ⟨rfl, List.forall_mem_cons.mpr ⟨zsi (by simp [prf, sumW, *]), List.forall_mem_cons.mpr ⟨rfl, fun _ hz => absurd hz List.not_mem_nil⟩⟩⟩⟩⟩) (x_heap (rfl) (ih (c + 1) (by omega) (by omega)))
            · refine x_aload_n Γ dX4_price_60 rfl ?_
              refine x_iload Γ dX4_price_61 rfl ?_
              refine x_callV Γ calv_X4_loafWorth wl_X4_72 dX4_price_63 (m_X4_loafWorth (g := g) (T := T) (R := R) (c := c) (by omega)) rfl (by decide) (by decide) rfl rfl rfl rfl (Nat.le_of_ble_eq_true rfl) (Nat.le_refl _) (Nat.le_refl _) ?_
              refine x_iload_n Γ dX4_price_66 rfl ?_
              refine x_iadd Γ dX4_price_67 ?_
              refine x_aload_n Γ dX4_price_68 rfl ?_
              refine x_iload Γ dX4_price_69 rfl ?_
              refine x_callV Γ calv_X4_seatWorth wl_X4_75 dX4_price_71 (m_X4_seatWorth (g := g) (T := T) (R := R) (c := c) (by omega)) rfl (by decide) (by decide) rfl rfl rfl rfl (Nat.le_of_ble_eq_true rfl) (Nat.le_refl _) (Nat.le_refl _) ?_
              refine x_icmp_le Γ (tgt := 81) dX4_price_74 (by decide) (fun c_6 => ?_) (fun c_6 => ?_)
              · have hnl := Int32.not_lt.mpr c_6
                refine x_iconst Γ (v := 0) dX4_price_81 rfl ?_
                refine x_iadd Γ dX4_price_82 ?_
                refine x_istore_n Γ dX4_price_83 (by decide) ?_
                refine x_iinc Γ dX4_price_84 rfl (by first | exact zinc _ | rfl) (by decide) ?_
                refine x_goto Γ (tgt := 37) dX4_price_87 (by decide) ?_
                exact x_subl [(0, .ref 37), (1, .int (many (setW T 1 N))), (2, .int (nI v)), (3, .int (prf T (nI v) (c + 1))), (4, .int (nI (c + 1)))] (List.forall_mem_cons.mpr ⟨rfl, List.forall_mem_cons.mpr ⟨rfl, List.forall_mem_cons.mpr ⟨rfl, List.forall_mem_cons.mpr ⟨zsi (by simp [prf, sumW, *]), List.forall_mem_cons.mpr ⟨rfl, fun _ hz => absurd hz List.not_mem_nil⟩⟩⟩⟩⟩) (x_heap (rfl) (ih (c + 1) (by omega) (by omega)))
              · have hnl := Int32.not_le.mp c_6
                refine x_iconst Γ (v := 1) dX4_price_77 rfl ?_
                refine x_goto Γ (tgt := 82) dX4_price_78 (by decide) ?_
                refine x_iadd Γ dX4_price_82 ?_
                refine x_istore_n Γ dX4_price_83 (by decide) ?_
                refine x_iinc Γ dX4_price_84 rfl (by first | exact zinc _ | rfl) (by decide) ?_
                refine x_goto Γ (tgt := 37) dX4_price_87 (by decide) ?_
                exact x_subl [(0, .ref 37), (1, .int (many (setW T 1 N))), (2, .int (nI v)), (3, .int (prf T (nI v) (c + 1))), (4, .int (nI (c + 1)))] (List.forall_mem_cons.mpr ⟨rfl, List.forall_mem_cons.mpr ⟨rfl, List.forall_mem_cons.mpr ⟨rfl, List.forall_mem_cons.mpr ⟨zsi (by simp [prf, sumW, *]), List.forall_mem_cons.mpr ⟨rfl, fun _ hz => absurd hz List.not_mem_nil⟩⟩⟩⟩⟩) (x_heap (rfl) (ih (c + 1) (by omega) (by omega)))
  · refine x_aload_n Γ dX4_price_8 rfl ?_
    refine x_ldc Γ wl_X4_35 dX4_price_9 ?_
    refine x_callV Γ calv_X4_finds wl_X4_36 dX4_price_11 (m_X4_finds (f := -1000004) (k := 3) (by decide) (by decide)) rfl (by decide) (by decide) rfl rfl rfl rfl (Nat.le_of_ble_eq_true rfl) (Nat.le_refl _) (Nat.le_refl _) ?_
    exact x_iret ρ rfl dX4_price_14 rfl (by simp [fr, fPri, rPri, oF, oR, *]; try rfl) rfl (by simp [fR, fPri, oF, *]; exact zH.rf)
