def s64 (p : Nat → Bool) : Nat → Int64
  | 0 => 0
  | i + 1 => s64 p i + (if p i = true then 1 else 0)
def dN (T : zT) : Nat := ci ((1 : Int32) <<< (dra T &&& 31))
theorem shl_d : ∀ d, d < 11 → ∃ M, M ≤ 1024 ∧ (1 : Int32) <<< (nI d &&& 31) = nI M := by
  intro d hd
  match d, hd with
  | 0, _ => exact ⟨1, by omega, rfl⟩
  | 1, _ => exact ⟨2, by omega, rfl⟩
  | 2, _ => exact ⟨4, by omega, rfl⟩
  | 3, _ => exact ⟨8, by omega, rfl⟩
  | 4, _ => exact ⟨16, by omega, rfl⟩
  | 5, _ => exact ⟨32, by omega, rfl⟩
  | 6, _ => exact ⟨64, by omega, rfl⟩
  | 7, _ => exact ⟨128, by omega, rfl⟩
  | 8, _ => exact ⟨256, by omega, rfl⟩
  | 9, _ => exact ⟨512, by omega, rfl⟩
  | 10, _ => exact ⟨1024, by omega, rfl⟩
theorem dra_in {T : zT} {N : Nat} (hN : wN T N) (hL : wL T) : ∃ d, d < 11 ∧ dra T = nI d := by
  obtain ⟨l, s, hl, hs, el, es⟩ := hL
  have h8 := hN.1
  have h10 := hN.2
  unfold dra
  rw [el, es, h8, nI_add]
  by_cases h : nI (l + s) < nI N
  · rw [if_pos h]
    have := z_lt h (by omega) (by omega)
    exact ⟨l + s, by omega, rfl⟩
  · rw [if_neg h]
    exact ⟨N, by omega, rfl⟩
theorem dra_M {T : zT} {N : Nat} (hN : wN T N) (hL : wL T) : ∃ M, M ≤ 1024 ∧ (1 : Int32) <<< (dra T &&& 31) = nI M ∧ dN T = M := by
  obtain ⟨d, hd, e⟩ := dra_in hN hL
  obtain ⟨M, hM, eM⟩ := shl_d d hd
  rw [← e] at eM
  exact ⟨M, hM, eM, by rw [dN, eM]; exact nI_clamp (by omega)⟩
def agU (U T : zT) (N : Nat) : Prop := (∀ a, a ≠ 5 → U a = T a) ∧ (∀ c, N ≤ c → U 5 c = T 5 c)
theorem ag_rf {T : zT} {N : Nat} : agU T T N := ⟨fun _ _ => rfl, fun _ _ => rfl⟩
theorem dra_ag {U T : zT} {N : Nat} (h : agU U T N) : dra U = dra T := by
  unfold dra
  rw [h.1 7 (by decide)]
theorem cdl_ag {U T : zT} {N : Nat} (h : agU U T N) {x : Int32} : cdl U x = cdl T x := by
  unfold cdl
  rw [h.1 7 (by decide), dra_ag h]
theorem dlT_5 (T : zT) (x : Int32) (c : Nat) : ∀ k, dlT T x k 5 c = if c < k then (if nI c < dra T then (if (x >>> (nI c &&& 31)) &&& 1 = 1 then 1 else 2) else 0) else T 5 c := by
  intro k
  induction k with
  | zero => rfl
  | succ k ih =>
    rw [dlT]
    by_cases h : c = k
    · subst h
      rw [ts_s, if_pos (Nat.lt_succ_self _)]
    · rw [ts_i h, ih]
      by_cases h2 : c < k
      · rw [if_pos h2, if_pos (show c < k + 1 by omega)]
      · rw [if_neg h2, if_neg (show ¬ c < k + 1 by omega)]
theorem dlT_ag {U T : zT} {N : Nat} (h : agU U T N) {x : Int32} : dlT U x N = dlT T x N := by
  funext a c
  by_cases ha : a = 5
  · subst ha
    rw [dlT_5, dlT_5, dra_ag h]
    by_cases hc : c < N
    · rw [if_pos hc, if_pos hc]
    · rw [if_neg hc, if_neg hc]
      exact h.2 c (by omega)
  · rw [dlT_n _ _ _ ha, dlT_n _ _ _ ha, h.1 a ha]
theorem exT_5 {T : zT} {a b e : Nat} (ha : e ≠ a) (hb : e ≠ b) : exT T a b 5 e = T 5 e := by
  rw [exT, ts_i hb, ts_i ha]
theorem ogS_5 (T : zT) (N e : Nat) (he : N ≤ e) : ∀ c, c ≤ N → (ogS T N c).1 5 e = T 5 e := by
  intro c
  induction c with
  | zero => intro _; rfl
  | succ c ih =>
    intro hc
    have ih := ih (by omega)
    simp only [ogS]
    split
    · split
      · dsimp only
        rw [exT_5 (by omega) (by omega), ih]
      · exact ih
    · exact ih
theorem ag_st {T : zT} {N : Nat} {x : Int32} : agU (ogS (dlT T x N) N N).1 T N := by
  refine ⟨fun a ha => ?_, fun c hc => ?_⟩
  · rw [ogS_n _ _ _ ha, dlT_n _ _ _ ha]
  · rw [ogS_5 _ _ _ hc _ (Nat.le_refl _), dlT_5, if_neg (by omega)]
theorem zsl {x y : Int64} (h : x = y) : some (Value.long x) = some (Value.long y) := by rw [h]
def pEa (T : zT) (N j : Nat) (i : Nat) : Bool := cdl T (nI i) && decide ((ogS (dlT T (nI i) N) N N).1 5 j = 1)
def pBu (T : zT) (N : Nat) (n : Int32) (i : Nat) : Bool := cdl T (nI i) && decide (nI (ogS (dlT T (nI i) N) N N).2.2 = n)
def pWa (T : zT) (i : Nat) : Bool := cdl T (nI i)

set_option maxRecDepth 100000 in
set_option maxHeartbeats 4000000 in
theorem m_X4_ways {g : Nat → zE} {T R : zT} {N : Nat} (hN : wN T N) (hL : wL T) : zM 2 M_X4_ways [.ref 37] (hR g T R) 46 (some (.long (s64 (pWa T) (dN T)))) (hR g T R) 46 0 0 := by
  refine zM.intro (by decide) (Nat.le_of_ble_eq_true rfl) ?_
  intro Wf V m H0 Γ ρ
  replace Γ : zC Wf V m 4 H0 cX4_ways RX4 2 0 0 := Γ
  show zX Wf V m 4 H0 0 (zls [(0, .ref 37)]) [] (hR g T R) 46 0 0
  have hN2 := hN.2
  obtain ⟨M, hM, eM, edN⟩ := dra_M hN hL
  refine x_lconst Γ (v := 0) dX4_ways_0 rfl ?_
  refine x_lstore_n Γ dX4_ways_1 (by decide) ?_
  refine x_iconst Γ (v := 0) dX4_ways_2 rfl ?_
  refine x_istore_n Γ dX4_ways_3 (by decide) ?_
  suffices L_4 : ∀ (k c : Nat), c ≤ M → M - c < k → zX Wf V m 4 H0 4 (zls [(0, .ref 37), (1, .long (s64 (pWa T) c)), (3, .int (nI c))]) [] (hR g T R) 46 0 0 by
    exact x_subl [(0, .ref 37), (1, .long (s64 (pWa T) 0)), (3, .int (nI 0))] (List.forall_mem_cons.mpr ⟨rfl, List.forall_mem_cons.mpr ⟨rfl, List.forall_mem_cons.mpr ⟨rfl, fun _ hz => absurd hz List.not_mem_nil⟩⟩⟩) (x_heap (rfl) (L_4 (M + 1) 0 (by omega) (by omega)))
  intro k
  induction k with
  | zero => intro c h1 h2; omega
  | succ k ih =>
    intro c h1 h2
    refine x_iload_n Γ dX4_ways_4 rfl ?_
    refine x_iconst Γ (v := 1) dX4_ways_5 rfl ?_
    refine x_aload_n Γ dX4_ways_6 rfl ?_
    refine x_callV Γ calv_X4_drawing wl_X4_181 dX4_ways_7 (m_X4_drawing (g := g) (T := T) (R := R)) rfl (by decide) (by decide) rfl rfl rfl rfl (Nat.le_of_ble_eq_true rfl) (Nat.le_refl _) (Nat.le_refl _) ?_
    refine x_ishl Γ dX4_ways_10 ?_
    refine x_icmp_ge Γ (tgt := 36) dX4_ways_11 (by decide) (fun c_1 => ?_) (fun c_1 => ?_)
    · rw [eM] at c_1
      have c_1 := z_le c_1 (by omega) (by omega)
      obtain rfl : c = M := by omega
      refine x_lload_n Γ dX4_ways_36 rfl ?_
      exact x_lret ρ dX4_ways_37 (by rw [edN]) rfl (zH.rf)
    · rw [eM] at c_1
      have c_1 := z_nle c_1 (by omega) (by omega)
      refine x_lload_n Γ dX4_ways_14 rfl ?_
      refine x_aload_n Γ dX4_ways_15 rfl ?_
      refine x_iload_n Γ dX4_ways_16 rfl ?_
      refine x_callV Γ calv_X4_isWay wl_X4_184 dX4_ways_17 (m_X4_isWay (g := g) (T := T) (R := R) (nI c)) rfl (by decide) (by decide) rfl rfl rfl rfl (Nat.le_of_ble_eq_true rfl) (Nat.le_refl _) (Nat.le_refl _) ?_
      refine x_if_eq Γ (tgt := 27) dX4_ways_20 (by decide) (fun c_2 => ?_) (fun c_2 => ?_)
      · have c_2 := zb_0.mp c_2
        refine x_lconst Γ (v := 0) dX4_ways_27 rfl ?_
        refine x_ladd Γ dX4_ways_28 ?_
        refine x_lstore_n Γ dX4_ways_29 (by decide) ?_
        refine x_iinc Γ dX4_ways_30 rfl (by first | exact zinc _ | rfl) (by decide) ?_
        refine x_goto Γ (tgt := 4) dX4_ways_33 (by decide) ?_
        exact x_subl [(0, .ref 37), (1, .long (s64 (pWa T) (c + 1))), (3, .int (nI (c + 1)))] (List.forall_mem_cons.mpr ⟨rfl, List.forall_mem_cons.mpr ⟨zsl (by simp [s64, pWa, *]), List.forall_mem_cons.mpr ⟨rfl, fun _ hz => absurd hz List.not_mem_nil⟩⟩⟩) (x_heap (rfl) (ih (c + 1) (by omega) (by omega)))
      · have c_2 := zb_n0.mp c_2
        refine x_lconst Γ (v := 1) dX4_ways_23 rfl ?_
        refine x_goto Γ (tgt := 28) dX4_ways_24 (by decide) ?_
        refine x_ladd Γ dX4_ways_28 ?_
        refine x_lstore_n Γ dX4_ways_29 (by decide) ?_
        refine x_iinc Γ dX4_ways_30 rfl (by first | exact zinc _ | rfl) (by decide) ?_
        refine x_goto Γ (tgt := 4) dX4_ways_33 (by decide) ?_
        exact x_subl [(0, .ref 37), (1, .long (s64 (pWa T) (c + 1))), (3, .int (nI (c + 1)))] (List.forall_mem_cons.mpr ⟨rfl, List.forall_mem_cons.mpr ⟨zsl (by simp [s64, pWa, *]), List.forall_mem_cons.mpr ⟨rfl, fun _ hz => absurd hz List.not_mem_nil⟩⟩⟩) (x_heap (rfl) (ih (c + 1) (by omega) (by omega)))

set_option maxRecDepth 100000 in
set_option maxHeartbeats 4000000 in
theorem m_X4_eats {g : Nat → zE} {T R : zT} {N : Nat} (hN : wN T N) (hL : wL T) (x : Int32) : zM 5 M_X4_eats [.ref 37, .int x] (hR g T R) 46 (some (.long (if hs T x = true then s64 (pEa T N (ci x)) (dN T) else (-1000001 : Int32).toInt64))) (hR g T (if hs T x = true then tr R 1 (mr T) else fR R 0)) 46 0 0 := by
  refine zM.intro (by decide) (Nat.le_of_ble_eq_true rfl) ?_
  intro Wf V m H0 Γ ρ
  replace Γ : zC Wf V m 5 H0 cX4_eats RX4 5 0 0 := Γ
  show zX Wf V m 5 H0 0 (zls [(0, .ref 37), (1, .int x)]) [] (hR g T R) 46 0 0
  have hN2 := hN.2
  obtain ⟨M, hM, eM, edN⟩ := dra_M hN hL
  refine x_aload_n Γ dX4_eats_0 rfl ?_
  refine x_iload_n Γ dX4_eats_1 rfl ?_
  refine x_callV Γ calv_X4_isOne wl_X4_67 dX4_eats_2 (m_X4_isOne (g := g) (T := T) (R := R) hN x) rfl (by decide) (by decide) rfl rfl rfl rfl (Nat.le_of_ble_eq_true rfl) (Nat.le_refl _) (Nat.le_refl _) ?_
  refine x_if_ne Γ (tgt := 16) dX4_eats_5 (by decide) (fun c_1 => ?_) (fun c_1 => ?_)
  · have c_1 := zb_n0.mp c_1
    obtain ⟨j, hj, rfl⟩ := hs_in hN c_1
    have ej : ci (nI j) = j := nI_clamp (by omega)
    refine x_aload_n Γ dX4_eats_16 rfl ?_
    refine gf_X4_9 Γ dX4_eats_17 (by decide) rfl rfl ?_
    refine x_aload_n Γ dX4_eats_20 rfl ?_
    refine gf_X4_16 Γ dX4_eats_21 (by decide) rfl rfl ?_
    refine x_callSv Γ cals_X4_row wl_X4_123 dX4_eats_24 (row_mw (g := g) (T := T) (R := R)) rfl (by decide) rfl (Nat.le_of_ble_eq_true rfl) (Nat.le_refl _) (Nat.le_refl _) ?_
    refine x_lconst Γ (v := 0) dX4_eats_27 rfl ?_
    refine x_lstore_n Γ dX4_eats_28 (by decide) ?_
    refine x_iconst Γ (v := 0) dX4_eats_29 rfl ?_
    refine x_istore Γ dX4_eats_30 (by decide) ?_
    suffices L_0 : ∀ (k c : Nat) (U : zT), c ≤ M → M - c < k → agU U T N → zX Wf V m 5 H0 32 (zls [(0, .ref 37), (1, .int (nI j)), (2, .long (s64 (pEa T N j) c)), (4, .int (nI c))]) [] (hR g U (tr R 1 (mr T))) 46 0 0 by
      exact x_subl [(0, .ref 37), (1, .int (nI j)), (2, .long (s64 (pEa T N j) 0)), (4, .int (nI 0))] (List.forall_mem_cons.mpr ⟨rfl, List.forall_mem_cons.mpr ⟨rfl, List.forall_mem_cons.mpr ⟨rfl, List.forall_mem_cons.mpr ⟨rfl, fun _ hz => absurd hz List.not_mem_nil⟩⟩⟩⟩) (L_0 (M + 1) 0 T (by omega) (by omega) ag_rf)
    intro k
    induction k with
    | zero => intro c U q1 q2; omega
    | succ k ih =>
      intro c U q1 q2 q3
      refine x_iload Γ dX4_eats_32 rfl ?_
      refine x_iconst Γ (v := 1) dX4_eats_34 rfl ?_
      refine x_aload_n Γ dX4_eats_35 rfl ?_
      refine x_callV Γ calv_X4_drawing wl_X4_181 dX4_eats_36 (m_X4_drawing (g := g) (T := U) (R := (tr R 1 (mr T)))) rfl (by decide) (by decide) rfl rfl rfl rfl (Nat.le_of_ble_eq_true rfl) (Nat.le_refl _) (Nat.le_refl _) ?_
      rw [dra_ag q3]
      refine x_ishl Γ dX4_eats_39 ?_
      refine x_icmp_ge Γ (tgt := 90) dX4_eats_40 (by decide) (fun c_2 => ?_) (fun c_2 => ?_)
      · rw [eM] at c_2
        have c_2 := z_le c_2 (by omega) (by omega)
        obtain rfl : c = M := by omega
        refine x_aload_n Γ dX4_eats_90 rfl ?_
        refine gf_X4_16 Γ dX4_eats_91 (by decide) rfl rfl ?_
        refine x_aload_n Γ dX4_eats_94 rfl ?_
        refine gf_X4_9 Γ dX4_eats_95 (by decide) rfl rfl ?_
        refine x_callSv Γ cals_X4_row wl_X4_123 dX4_eats_98 (row_wm (g := g) (T := T) (U := U) (R := (tr R 1 (mr T))) tr_s) rfl (by decide) rfl (Nat.le_of_ble_eq_true rfl) (Nat.le_refl _) (Nat.le_refl _) ?_
        refine x_lload_n Γ dX4_eats_101 rfl ?_
        exact x_lret ρ dX4_eats_102 (by simp [*]; try rfl) rfl (by simp [*]; exact zH.rf)
      · rw [eM] at c_2
        have c_2 := z_nle c_2 (by omega) (by omega)
        refine x_aload_n Γ dX4_eats_43 rfl ?_
        refine x_iload Γ dX4_eats_44 rfl ?_
        refine x_callV Γ calv_X4_isWay wl_X4_184 dX4_eats_46 (m_X4_isWay (g := g) (T := U) (R := (tr R 1 (mr T))) (nI c)) rfl (by decide) (by decide) rfl rfl rfl rfl (Nat.le_of_ble_eq_true rfl) (Nat.le_refl _) (Nat.le_refl _) ?_
        rw [cdl_ag q3]
        refine x_if_ne Γ (tgt := 55) dX4_eats_49 (by decide) (fun c_3 => ?_) (fun c_3 => ?_)
        · have c_3 := zb_n0.mp c_3
          refine x_aload_n Γ dX4_eats_55 rfl ?_
          refine x_iload Γ dX4_eats_56 rfl ?_
          refine x_callVv Γ calv_X4_lies wl_X4_187 dX4_eats_58 (m_X4_lies (g := g) (T := U) (R := (tr R 1 (mr T))) (N := N) (wN_of (by rw [q3.1 7 (by decide)]) hN) (nI c)) rfl (by decide) (by decide) rfl rfl rfl rfl (Nat.le_of_ble_eq_true rfl) (Nat.le_refl _) (Nat.le_refl _) ?_
          rw [dlT_ag q3]
          refine x_aload_n Γ dX4_eats_61 rfl ?_
          refine x_callV Γ calv_X4_opens wl_X4_120 dX4_eats_62 (m_X4_opens (g := g) (T := dlT T (nI c) N) (R := (tr R 1 (mr T))) (wN_of (by rw [dlT_n _ _ _ (by decide)]) hN)) rfl (by decide) (by decide) rfl rfl rfl rfl (Nat.le_of_ble_eq_true rfl) (Nat.le_refl _) (Nat.le_refl _) ?_
          refine x_pop Γ dX4_eats_65 rfl ?_
          refine x_lload_n Γ dX4_eats_66 rfl ?_
          refine x_aload_n Γ dX4_eats_67 rfl ?_
          refine x_iload_n Γ dX4_eats_68 rfl ?_
          refine x_iconst Γ (v := 5) dX4_eats_69 rfl ?_
          refine x_callV Γ calv_X4_is wl_X4_63 dX4_eats_70 (m_X4_is (g := g) (T := (ogS (dlT T (nI c) N) N N).1) (R := (tr R 1 (mr T))) (c := j) (w := 5) (by omega) (by decide)) rfl (by decide) (by decide) rfl rfl rfl rfl (Nat.le_of_ble_eq_true rfl) (Nat.le_refl _) (Nat.le_refl _) ?_
          refine x_iconst Γ (v := 1) dX4_eats_73 rfl ?_
          refine x_icmp_ne Γ (tgt := 81) dX4_eats_74 (by decide) (fun c_4 => ?_) (fun c_4 => ?_)
          · refine x_lconst Γ (v := 0) dX4_eats_81 rfl ?_
            refine x_ladd Γ dX4_eats_82 ?_
            refine x_lstore_n Γ dX4_eats_83 (by decide) ?_
            refine x_iinc Γ dX4_eats_84 rfl (by first | exact zinc _ | rfl) (by decide) ?_
            refine x_goto Γ (tgt := 32) dX4_eats_87 (by decide) ?_
            first
            | exact x_subl [(0, .ref 37), (1, .int (nI j)), (2, .long (s64 (pEa T N j) (c + 1))), (4, .int (nI (c + 1)))] (List.forall_mem_cons.mpr ⟨rfl, List.forall_mem_cons.mpr ⟨rfl, List.forall_mem_cons.mpr ⟨zsl (by simp [s64, pEa, *]), List.forall_mem_cons.mpr ⟨rfl, fun _ hz => absurd hz List.not_mem_nil⟩⟩⟩⟩) (ih (c + 1) U (by omega) (by omega) q3)
            | exact x_subl [(0, .ref 37), (1, .int (nI j)), (2, .long (s64 (pEa T N j) (c + 1))), (4, .int (nI (c + 1)))] (List.forall_mem_cons.mpr ⟨rfl, List.forall_mem_cons.mpr ⟨rfl, List.forall_mem_cons.mpr ⟨zsl (by simp [s64, pEa, *]), List.forall_mem_cons.mpr ⟨rfl, fun _ hz => absurd hz List.not_mem_nil⟩⟩⟩⟩) (ih (c + 1) _ (by omega) (by omega) ag_st)
          · refine x_lconst Γ (v := 1) dX4_eats_77 rfl ?_
            refine x_goto Γ (tgt := 82) dX4_eats_78 (by decide) ?_
            refine x_ladd Γ dX4_eats_82 ?_
            refine x_lstore_n Γ dX4_eats_83 (by decide) ?_
            refine x_iinc Γ dX4_eats_84 rfl (by first | exact zinc _ | rfl) (by decide) ?_
            refine x_goto Γ (tgt := 32) dX4_eats_87 (by decide) ?_
            first
            | exact x_subl [(0, .ref 37), (1, .int (nI j)), (2, .long (s64 (pEa T N j) (c + 1))), (4, .int (nI (c + 1)))] (List.forall_mem_cons.mpr ⟨rfl, List.forall_mem_cons.mpr ⟨rfl, List.forall_mem_cons.mpr ⟨zsl (by simp [s64, pEa, *]), List.forall_mem_cons.mpr ⟨rfl, fun _ hz => absurd hz List.not_mem_nil⟩⟩⟩⟩) (ih (c + 1) U (by omega) (by omega) q3)
            | exact x_subl [(0, .ref 37), (1, .int (nI j)), (2, .long (s64 (pEa T N j) (c + 1))), (4, .int (nI (c + 1)))] (List.forall_mem_cons.mpr ⟨rfl, List.forall_mem_cons.mpr ⟨rfl, List.forall_mem_cons.mpr ⟨zsl (by simp [s64, pEa, *]), List.forall_mem_cons.mpr ⟨rfl, fun _ hz => absurd hz List.not_mem_nil⟩⟩⟩⟩) (ih (c + 1) _ (by omega) (by omega) ag_st)
        · have c_3 := zb_0.mp c_3
          refine x_goto Γ (tgt := 84) dX4_eats_52 (by decide) ?_
          refine x_iinc Γ dX4_eats_84 rfl (by first | exact zinc _ | rfl) (by decide) ?_
          refine x_goto Γ (tgt := 32) dX4_eats_87 (by decide) ?_
          first
          | exact x_subl [(0, .ref 37), (1, .int (nI j)), (2, .long (s64 (pEa T N j) (c + 1))), (4, .int (nI (c + 1)))] (List.forall_mem_cons.mpr ⟨rfl, List.forall_mem_cons.mpr ⟨rfl, List.forall_mem_cons.mpr ⟨zsl (by simp [s64, pEa, *]), List.forall_mem_cons.mpr ⟨rfl, fun _ hz => absurd hz List.not_mem_nil⟩⟩⟩⟩) (ih (c + 1) U (by omega) (by omega) q3)
          | exact x_subl [(0, .ref 37), (1, .int (nI j)), (2, .long (s64 (pEa T N j) (c + 1))), (4, .int (nI (c + 1)))] (List.forall_mem_cons.mpr ⟨rfl, List.forall_mem_cons.mpr ⟨rfl, List.forall_mem_cons.mpr ⟨zsl (by simp [s64, pEa, *]), List.forall_mem_cons.mpr ⟨rfl, fun _ hz => absurd hz List.not_mem_nil⟩⟩⟩⟩) (ih (c + 1) _ (by omega) (by omega) ag_st)
  · have c_1 := zb_0.mp c_1
    refine x_aload_n Γ dX4_eats_8 rfl ?_
    refine x_ldc Γ wl_X4_34 dX4_eats_9 ?_
    refine x_callV Γ calv_X4_finds wl_X4_36 dX4_eats_11 (m_X4_finds (f := -1000001) (k := 0) (by decide) (by decide)) rfl (by decide) (by decide) rfl rfl rfl rfl (Nat.le_of_ble_eq_true rfl) (Nat.le_refl _) (Nat.le_refl _) ?_
    refine x_i2l Γ dX4_eats_14 ?_
    exact x_lret ρ dX4_eats_15 (by simp [*]; try rfl) rfl (by simp [fR, *]; exact zH.rf)

set_option maxRecDepth 100000 in
set_option maxHeartbeats 4000000 in
theorem m_X4_busy {g : Nat → zE} {T R : zT} {N : Nat} (hN : wN T N) (hL : wL T) (n : Int32) : zM 5 M_X4_busy [.ref 37, .int n] (hR g T R) 46 (some (.long (if inR n 0 30 = true then s64 (pBu T N n) (dN T) else (-1000001 : Int32).toInt64))) (hR g T (if inR n 0 30 = true then tr R 1 (mr T) else fR R 0)) 46 0 0 := by
  refine zM.intro (by decide) (Nat.le_of_ble_eq_true rfl) ?_
  intro Wf V m H0 Γ ρ
  replace Γ : zC Wf V m 5 H0 cX4_busy RX4 5 0 0 := Γ
  show zX Wf V m 5 H0 0 (zls [(0, .ref 37), (1, .int n)]) [] (hR g T R) 46 0 0
  have hN2 := hN.2
  obtain ⟨M, hM, eM, edN⟩ := dra_M hN hL
  refine x_iload_n Γ dX4_busy_0 rfl ?_
  refine x_i2l Γ dX4_busy_1 ?_
  refine x_lconst Γ (v := 0) dX4_busy_2 rfl ?_
  refine x_ldc2 Γ wl_X4_191 dX4_busy_3 ?_
  refine x_callS Γ cals_X4_in wl_X4_40 dX4_busy_6 (m_in n 0 30 0 30 rfl rfl) rfl (by decide) rfl (Nat.le_of_ble_eq_true rfl) (Nat.le_refl _) (Nat.le_refl _) ?_
  refine x_if_ne Γ (tgt := 20) dX4_busy_9 (by decide) (fun c_1 => ?_) (fun c_1 => ?_)
  · have c_1 := zb_n0.mp c_1
    refine x_aload_n Γ dX4_busy_20 rfl ?_
    refine gf_X4_9 Γ dX4_busy_21 (by decide) rfl rfl ?_
    refine x_aload_n Γ dX4_busy_24 rfl ?_
    refine gf_X4_16 Γ dX4_busy_25 (by decide) rfl rfl ?_
    refine x_callSv Γ cals_X4_row wl_X4_123 dX4_busy_28 (row_mw (g := g) (T := T) (R := R)) rfl (by decide) rfl (Nat.le_of_ble_eq_true rfl) (Nat.le_refl _) (Nat.le_refl _) ?_
    refine x_lconst Γ (v := 0) dX4_busy_31 rfl ?_
    refine x_lstore_n Γ dX4_busy_32 (by decide) ?_
    refine x_iconst Γ (v := 0) dX4_busy_33 rfl ?_
    refine x_istore Γ dX4_busy_34 (by decide) ?_
    suffices L_0 : ∀ (k c : Nat) (U : zT), c ≤ M → M - c < k → agU U T N → zX Wf V m 5 H0 36 (zls [(0, .ref 37), (1, .int n), (2, .long (s64 (pBu T N n) c)), (4, .int (nI c))]) [] (hR g U (tr R 1 (mr T))) 46 0 0 by
      exact x_subl [(0, .ref 37), (1, .int n), (2, .long (s64 (pBu T N n) 0)), (4, .int (nI 0))] (List.forall_mem_cons.mpr ⟨rfl, List.forall_mem_cons.mpr ⟨rfl, List.forall_mem_cons.mpr ⟨rfl, List.forall_mem_cons.mpr ⟨rfl, fun _ hz => absurd hz List.not_mem_nil⟩⟩⟩⟩) (L_0 (M + 1) 0 T (by omega) (by omega) ag_rf)
    intro k
    induction k with
    | zero => intro c U q1 q2; omega
    | succ k ih =>
      intro c U q1 q2 q3
      refine x_iload Γ dX4_busy_36 rfl ?_
      refine x_iconst Γ (v := 1) dX4_busy_38 rfl ?_
      refine x_aload_n Γ dX4_busy_39 rfl ?_
      refine x_callV Γ calv_X4_drawing wl_X4_181 dX4_busy_40 (m_X4_drawing (g := g) (T := U) (R := (tr R 1 (mr T)))) rfl (by decide) (by decide) rfl rfl rfl rfl (Nat.le_of_ble_eq_true rfl) (Nat.le_refl _) (Nat.le_refl _) ?_
      rw [dra_ag q3]
      refine x_ishl Γ dX4_busy_43 ?_
      refine x_icmp_ge Γ (tgt := 87) dX4_busy_44 (by decide) (fun c_2 => ?_) (fun c_2 => ?_)
      · rw [eM] at c_2
        have c_2 := z_le c_2 (by omega) (by omega)
        obtain rfl : c = M := by omega
        refine x_aload_n Γ dX4_busy_87 rfl ?_
        refine gf_X4_16 Γ dX4_busy_88 (by decide) rfl rfl ?_
        refine x_aload_n Γ dX4_busy_91 rfl ?_
        refine gf_X4_9 Γ dX4_busy_92 (by decide) rfl rfl ?_
        refine x_callSv Γ cals_X4_row wl_X4_123 dX4_busy_95 (row_wm (g := g) (T := T) (U := U) (R := (tr R 1 (mr T))) tr_s) rfl (by decide) rfl (Nat.le_of_ble_eq_true rfl) (Nat.le_refl _) (Nat.le_refl _) ?_
        refine x_lload_n Γ dX4_busy_98 rfl ?_
        exact x_lret ρ dX4_busy_99 (by simp [*]; try rfl) rfl (by simp [*]; exact zH.rf)
      · rw [eM] at c_2
        have c_2 := z_nle c_2 (by omega) (by omega)
        refine x_aload_n Γ dX4_busy_47 rfl ?_
        refine x_iload Γ dX4_busy_48 rfl ?_
        refine x_callV Γ calv_X4_isWay wl_X4_184 dX4_busy_50 (m_X4_isWay (g := g) (T := U) (R := (tr R 1 (mr T))) (nI c)) rfl (by decide) (by decide) rfl rfl rfl rfl (Nat.le_of_ble_eq_true rfl) (Nat.le_refl _) (Nat.le_refl _) ?_
        rw [cdl_ag q3]
        refine x_if_ne Γ (tgt := 59) dX4_busy_53 (by decide) (fun c_3 => ?_) (fun c_3 => ?_)
        · have c_3 := zb_n0.mp c_3
          refine x_aload_n Γ dX4_busy_59 rfl ?_
          refine x_iload Γ dX4_busy_60 rfl ?_
          refine x_callVv Γ calv_X4_lies wl_X4_187 dX4_busy_62 (m_X4_lies (g := g) (T := U) (R := (tr R 1 (mr T))) (N := N) (wN_of (by rw [q3.1 7 (by decide)]) hN) (nI c)) rfl (by decide) (by decide) rfl rfl rfl rfl (Nat.le_of_ble_eq_true rfl) (Nat.le_refl _) (Nat.le_refl _) ?_
          rw [dlT_ag q3]
          refine x_lload_n Γ dX4_busy_65 rfl ?_
          refine x_aload_n Γ dX4_busy_66 rfl ?_
          refine x_callV Γ calv_X4_opens wl_X4_120 dX4_busy_67 (m_X4_opens (g := g) (T := dlT T (nI c) N) (R := (tr R 1 (mr T))) (wN_of (by rw [dlT_n _ _ _ (by decide)]) hN)) rfl (by decide) (by decide) rfl rfl rfl rfl (Nat.le_of_ble_eq_true rfl) (Nat.le_refl _) (Nat.le_refl _) ?_
          refine x_iload_n Γ dX4_busy_70 rfl ?_
          refine x_icmp_ne Γ (tgt := 78) dX4_busy_71 (by decide) (fun c_4 => ?_) (fun c_4 => ?_)
          · refine x_lconst Γ (v := 0) dX4_busy_78 rfl ?_
            refine x_ladd Γ dX4_busy_79 ?_
            refine x_lstore_n Γ dX4_busy_80 (by decide) ?_
            refine x_iinc Γ dX4_busy_81 rfl (by first | exact zinc _ | rfl) (by decide) ?_
            refine x_goto Γ (tgt := 36) dX4_busy_84 (by decide) ?_
            first
            | exact x_subl [(0, .ref 37), (1, .int n), (2, .long (s64 (pBu T N n) (c + 1))), (4, .int (nI (c + 1)))] (List.forall_mem_cons.mpr ⟨rfl, List.forall_mem_cons.mpr ⟨rfl, List.forall_mem_cons.mpr ⟨zsl (by simp [s64, pBu, *]), List.forall_mem_cons.mpr ⟨rfl, fun _ hz => absurd hz List.not_mem_nil⟩⟩⟩⟩) (ih (c + 1) U (by omega) (by omega) q3)
            | exact x_subl [(0, .ref 37), (1, .int n), (2, .long (s64 (pBu T N n) (c + 1))), (4, .int (nI (c + 1)))] (List.forall_mem_cons.mpr ⟨rfl, List.forall_mem_cons.mpr ⟨rfl, List.forall_mem_cons.mpr ⟨zsl (by simp [s64, pBu, *]), List.forall_mem_cons.mpr ⟨rfl, fun _ hz => absurd hz List.not_mem_nil⟩⟩⟩⟩) (ih (c + 1) _ (by omega) (by omega) ag_st)
          · refine x_lconst Γ (v := 1) dX4_busy_74 rfl ?_
            refine x_goto Γ (tgt := 79) dX4_busy_75 (by decide) ?_
            refine x_ladd Γ dX4_busy_79 ?_
            refine x_lstore_n Γ dX4_busy_80 (by decide) ?_
            refine x_iinc Γ dX4_busy_81 rfl (by first | exact zinc _ | rfl) (by decide) ?_
            refine x_goto Γ (tgt := 36) dX4_busy_84 (by decide) ?_
            first
            | exact x_subl [(0, .ref 37), (1, .int n), (2, .long (s64 (pBu T N n) (c + 1))), (4, .int (nI (c + 1)))] (List.forall_mem_cons.mpr ⟨rfl, List.forall_mem_cons.mpr ⟨rfl, List.forall_mem_cons.mpr ⟨zsl (by simp [s64, pBu, *]), List.forall_mem_cons.mpr ⟨rfl, fun _ hz => absurd hz List.not_mem_nil⟩⟩⟩⟩) (ih (c + 1) U (by omega) (by omega) q3)
            | exact x_subl [(0, .ref 37), (1, .int n), (2, .long (s64 (pBu T N n) (c + 1))), (4, .int (nI (c + 1)))] (List.forall_mem_cons.mpr ⟨rfl, List.forall_mem_cons.mpr ⟨rfl, List.forall_mem_cons.mpr ⟨zsl (by simp [s64, pBu, *]), List.forall_mem_cons.mpr ⟨rfl, fun _ hz => absurd hz List.not_mem_nil⟩⟩⟩⟩) (ih (c + 1) _ (by omega) (by omega) ag_st)
        · have c_3 := zb_0.mp c_3
          refine x_goto Γ (tgt := 81) dX4_busy_56 (by decide) ?_
          refine x_iinc Γ dX4_busy_81 rfl (by first | exact zinc _ | rfl) (by decide) ?_
          refine x_goto Γ (tgt := 36) dX4_busy_84 (by decide) ?_
          first
          | exact x_subl [(0, .ref 37), (1, .int n), (2, .long (s64 (pBu T N n) (c + 1))), (4, .int (nI (c + 1)))] (List.forall_mem_cons.mpr ⟨rfl, List.forall_mem_cons.mpr ⟨rfl, List.forall_mem_cons.mpr ⟨zsl (by simp [s64, pBu, *]), List.forall_mem_cons.mpr ⟨rfl, fun _ hz => absurd hz List.not_mem_nil⟩⟩⟩⟩) (ih (c + 1) U (by omega) (by omega) q3)
          | exact x_subl [(0, .ref 37), (1, .int n), (2, .long (s64 (pBu T N n) (c + 1))), (4, .int (nI (c + 1)))] (List.forall_mem_cons.mpr ⟨rfl, List.forall_mem_cons.mpr ⟨rfl, List.forall_mem_cons.mpr ⟨zsl (by simp [s64, pBu, *]), List.forall_mem_cons.mpr ⟨rfl, fun _ hz => absurd hz List.not_mem_nil⟩⟩⟩⟩) (ih (c + 1) _ (by omega) (by omega) ag_st)
  · have c_1 := zb_0.mp c_1
    refine x_aload_n Γ dX4_busy_12 rfl ?_
    refine x_ldc Γ wl_X4_34 dX4_busy_13 ?_
    refine x_callV Γ calv_X4_finds wl_X4_36 dX4_busy_15 (m_X4_finds (f := -1000001) (k := 0) (by decide) (by decide)) rfl (by decide) (by decide) rfl rfl rfl rfl (Nat.le_of_ble_eq_true rfl) (Nat.le_refl _) (Nat.le_refl _) ?_
    refine x_i2l Γ dX4_busy_18 ?_
    exact x_lret ρ dX4_busy_19 (by simp [*]; try rfl) rfl (by simp [fR, *]; exact zH.rf)
