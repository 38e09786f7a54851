set_option maxRecDepth 100000 in
set_option maxHeartbeats 4000000 in
theorem m_X0_holders {g : Nat → zE} {b : Nat} {T : zT} (hb : b + 7 < 46) {N : Nat} (hN : wN T N) (t : Int32) : zM 0 M_X0_holders [.ref b, .int t] (hC g b T) 46 (some (.int (setW T t N))) (hC g b T) 46 0 0 := by
  refine zM.intro (by decide) (Nat.le_of_ble_eq_true rfl) ?_
  intro Wf V m H0 Γ ρ
  replace Γ : zC Wf V m 4 H0 cX0_holders RX0 0 0 0 := Γ
  show zX Wf V m 4 H0 0 (zls [(0, .ref b), (1, .int t)]) [] (hC g b T) 46 0 0
  have hb0 : b < 46 := by omega
  have hb1 : b + 1 < 46 := by omega
  have hb2 : b + 2 < 46 := by omega
  have hb3 : b + 3 < 46 := by omega
  have hb4 : b + 4 < 46 := by omega
  have hb5 : b + 5 < 46 := by omega
  have hb6 : b + 6 < 46 := by omega
  have hb7 : b + 7 < 46 := by omega
  have hN2 := hN.2
  refine x_iconst Γ (v := 0) dX0_holders_0 rfl ?_
  refine x_istore_n Γ dX0_holders_1 (by decide) ?_
  refine x_iconst Γ (v := 0) dX0_holders_2 rfl ?_
  refine x_istore_n Γ dX0_holders_3 (by decide) ?_
  suffices L_4 : ∀ (k c : Nat), c ≤ N → N - c < k → zX Wf V m 4 H0 4 (zls [(0, .ref b), (1, .int t), (2, .int (setW T t c)), (3, .int (nI c))]) [] (hC g b T) 46 0 0 by
    exact x_subl [(0, .ref b), (1, .int t), (2, .int (setW T t 0)), (3, .int (nI 0))] (List.forall_mem_cons.mpr ⟨rfl, List.forall_mem_cons.mpr ⟨rfl, List.forall_mem_cons.mpr ⟨rfl, List.forall_mem_cons.mpr ⟨rfl, fun _ hz => absurd hz List.not_mem_nil⟩⟩⟩⟩) (x_heap (rfl) (L_4 (N + 1) 0 (by omega) (by omega)))
  intro k
  induction k with
  | zero => intro c h1 h2; omega
  | succ k ih =>
    intro c h1 h2
    refine x_iload_n Γ dX0_holders_4 rfl ?_
    refine x_aload_n Γ dX0_holders_5 rfl ?_
    refine gf_X0_33 Γ dX0_holders_6 hb0 hC_o rfl ?_
    refine x_icmp_ge Γ (tgt := 34) dX0_holders_9 (by decide) (fun c_1 => ?_) (fun c_1 => ?_)
    · rw [hN.1] at c_1
      have c_1 := z_le c_1 (by omega) (by omega)
      obtain rfl : c = N := by omega
      refine x_iload_n Γ dX0_holders_34 rfl ?_
      exact x_iret ρ rfl dX0_holders_35 rfl (rfl) rfl (zH.rf)
    · rw [hN.1] at c_1
      have c_1 := z_nle c_1 (by omega) (by omega)
      refine x_aload_n Γ dX0_holders_12 rfl ?_
      refine gf_X0_27 Γ dX0_holders_13 hb0 hC_o rfl ?_
      refine x_iload_n Γ dX0_holders_16 rfl ?_
      refine x_iald Γ dX0_holders_17 hb6 hC_5 rfl (by first | assumption | omega) (by decide) rfl ?_
      refine x_iload_n Γ dX0_holders_18 rfl ?_
      refine x_icmp_ne Γ (tgt := 28) dX0_holders_19 (by decide) (fun c_2 => ?_) (fun c_2 => ?_)
      · refine x_iinc Γ dX0_holders_28 rfl (by first | exact zinc _ | rfl) (by decide) ?_
        refine x_goto Γ (tgt := 4) dX0_holders_31 (by decide) ?_
        exact x_subl [(0, .ref b), (1, .int t), (2, .int (setW T t (c + 1))), (3, .int (nI (c + 1)))] (List.forall_mem_cons.mpr ⟨rfl, List.forall_mem_cons.mpr ⟨rfl, List.forall_mem_cons.mpr ⟨zsi (by simp [setW, *]), List.forall_mem_cons.mpr ⟨rfl, fun _ hz => absurd hz List.not_mem_nil⟩⟩⟩⟩) (x_heap (rfl) (ih (c + 1) (by omega) (by omega)))
      · refine x_iload_n Γ dX0_holders_22 rfl ?_
        refine x_iconst Γ (v := 1) dX0_holders_23 rfl ?_
        refine x_iload_n Γ dX0_holders_24 rfl ?_
        refine x_ishl Γ dX0_holders_25 ?_
        refine x_ior Γ dX0_holders_26 ?_
        refine x_istore_n Γ dX0_holders_27 (by decide) ?_
        refine x_iinc Γ dX0_holders_28 rfl (by first | exact zinc _ | rfl) (by decide) ?_
        refine x_goto Γ (tgt := 4) dX0_holders_31 (by decide) ?_
        exact x_subl [(0, .ref b), (1, .int t), (2, .int (setW T t (c + 1))), (3, .int (nI (c + 1)))] (List.forall_mem_cons.mpr ⟨rfl, List.forall_mem_cons.mpr ⟨rfl, List.forall_mem_cons.mpr ⟨zsi (by simp [setW, *]), List.forall_mem_cons.mpr ⟨rfl, fun _ hz => absurd hz List.not_mem_nil⟩⟩⟩⟩) (x_heap (rfl) (ih (c + 1) (by omega) (by omega)))

set_option maxRecDepth 100000 in
set_option maxHeartbeats 4000000 in
theorem m_X0_starving {g : Nat → zE} {b : Nat} {T : zT} (hb : b + 7 < 46) {N : Nat} (hN : wN T N) : zM 0 M_X0_starving [.ref b] (hC g b T) 46 (some (.int (hunW T N))) (hC g b T) 46 0 0 := by
  refine zM.intro (by decide) (Nat.le_of_ble_eq_true rfl) ?_
  intro Wf V m H0 Γ ρ
  replace Γ : zC Wf V m 3 H0 cX0_starving RX0 0 0 0 := Γ
  show zX Wf V m 3 H0 0 (zls [(0, .ref b)]) [] (hC g b T) 46 0 0
  have hb0 : b < 46 := by omega
  have hb1 : b + 1 < 46 := by omega
  have hb2 : b + 2 < 46 := by omega
  have hb3 : b + 3 < 46 := by omega
  have hb4 : b + 4 < 46 := by omega
  have hb5 : b + 5 < 46 := by omega
  have hb6 : b + 6 < 46 := by omega
  have hb7 : b + 7 < 46 := by omega
  have hN2 := hN.2
  refine x_iconst Γ (v := 0) dX0_starving_0 rfl ?_
  refine x_istore_n Γ dX0_starving_1 (by decide) ?_
  refine x_iconst Γ (v := 0) dX0_starving_2 rfl ?_
  refine x_istore_n Γ dX0_starving_3 (by decide) ?_
  suffices L_4 : ∀ (k c : Nat), c ≤ N → N - c < k → zX Wf V m 3 H0 4 (zls [(0, .ref b), (1, .int (hunW T c)), (2, .int (nI c))]) [] (hC g b T) 46 0 0 by
    exact x_subl [(0, .ref b), (1, .int (hunW T 0)), (2, .int (nI 0))] (List.forall_mem_cons.mpr ⟨rfl, List.forall_mem_cons.mpr ⟨rfl, List.forall_mem_cons.mpr ⟨rfl, fun _ hz => absurd hz List.not_mem_nil⟩⟩⟩) (x_heap (rfl) (L_4 (N + 1) 0 (by omega) (by omega)))
  intro k
  induction k with
  | zero => intro c h1 h2; omega
  | succ k ih =>
    intro c h1 h2
    refine x_iload_n Γ dX0_starving_4 rfl ?_
    refine x_aload_n Γ dX0_starving_5 rfl ?_
    refine gf_X0_33 Γ dX0_starving_6 hb0 hC_o rfl ?_
    refine x_icmp_ge Γ (tgt := 35) dX0_starving_9 (by decide) (fun c_1 => ?_) (fun c_1 => ?_)
    · rw [hN.1] at c_1
      have c_1 := z_le c_1 (by omega) (by omega)
      obtain rfl : c = N := by omega
      refine x_iload_n Γ dX0_starving_35 rfl ?_
      exact x_iret ρ rfl dX0_starving_36 rfl (rfl) rfl (zH.rf)
    · rw [hN.1] at c_1
      have c_1 := z_nle c_1 (by omega) (by omega)
      refine x_aload_n Γ dX0_starving_12 rfl ?_
      refine gf_X0_15 Γ dX0_starving_13 hb0 hC_o rfl ?_
      refine x_iload_n Γ dX0_starving_16 rfl ?_
      refine x_iald Γ dX0_starving_17 hb2 hC_1 rfl (by first | assumption | omega) (by decide) rfl ?_
      refine x_bipush Γ (v := 7) dX0_starving_18 rfl ?_
      refine x_icmp_lt Γ (tgt := 29) dX0_starving_20 (by decide) (fun c_2 => ?_) (fun c_2 => ?_)
      · refine x_iinc Γ dX0_starving_29 rfl (by first | exact zinc _ | rfl) (by decide) ?_
        refine x_goto Γ (tgt := 4) dX0_starving_32 (by decide) ?_
        exact x_subl [(0, .ref b), (1, .int (hunW T (c + 1))), (2, .int (nI (c + 1)))] (List.forall_mem_cons.mpr ⟨rfl, List.forall_mem_cons.mpr ⟨zsi (by simp [hunW, *]), List.forall_mem_cons.mpr ⟨rfl, fun _ hz => absurd hz List.not_mem_nil⟩⟩⟩) (x_heap (rfl) (ih (c + 1) (by omega) (by omega)))
      · refine x_iload_n Γ dX0_starving_23 rfl ?_
        refine x_iconst Γ (v := 1) dX0_starving_24 rfl ?_
        refine x_iload_n Γ dX0_starving_25 rfl ?_
        refine x_ishl Γ dX0_starving_26 ?_
        refine x_ior Γ dX0_starving_27 ?_
        refine x_istore_n Γ dX0_starving_28 (by decide) ?_
        refine x_iinc Γ dX0_starving_29 rfl (by first | exact zinc _ | rfl) (by decide) ?_
        refine x_goto Γ (tgt := 4) dX0_starving_32 (by decide) ?_
        exact x_subl [(0, .ref b), (1, .int (hunW T (c + 1))), (2, .int (nI (c + 1)))] (List.forall_mem_cons.mpr ⟨rfl, List.forall_mem_cons.mpr ⟨zsi (by simp [hunW, *]), List.forall_mem_cons.mpr ⟨rfl, fun _ hz => absurd hz List.not_mem_nil⟩⟩⟩) (x_heap (rfl) (ih (c + 1) (by omega) (by omega)))

set_option maxRecDepth 100000 in
set_option maxHeartbeats 4000000 in
theorem m_X0_allOf {g : Nat → zE} {b : Nat} {T : zT} (hb : b + 7 < 46) {N : Nat} (hN : wN T N) {q : Nat} {F : Nat → Int32} (hq : q < 46) (hR : hC g b T q = zI 10 F) : zM 0 M_X0_allOf [.ref b, .ref q] (hC g b T) 46 (some (.int (sumW F N))) (hC g b T) 46 0 0 := by
  refine zM.intro (by decide) (Nat.le_of_ble_eq_true rfl) ?_
  intro Wf V m H0 Γ ρ
  replace Γ : zC Wf V m 4 H0 cX0_allOf RX0 0 0 0 := Γ
  show zX Wf V m 4 H0 0 (zls [(0, .ref b), (1, .ref q)]) [] (hC g b T) 46 0 0
  have hb0 : b < 46 := by omega
  have hb1 : b + 1 < 46 := by omega
  have hb2 : b + 2 < 46 := by omega
  have hb3 : b + 3 < 46 := by omega
  have hb4 : b + 4 < 46 := by omega
  have hb5 : b + 5 < 46 := by omega
  have hb6 : b + 6 < 46 := by omega
  have hb7 : b + 7 < 46 := by omega
  have hN2 := hN.2
  refine x_iconst Γ (v := 0) dX0_allOf_0 rfl ?_
  refine x_istore_n Γ dX0_allOf_1 (by decide) ?_
  refine x_iconst Γ (v := 0) dX0_allOf_2 rfl ?_
  refine x_istore_n Γ dX0_allOf_3 (by decide) ?_
  suffices L_4 : ∀ (k c : Nat), c ≤ N → N - c < k → zX Wf V m 4 H0 4 (zls [(0, .ref b), (1, .ref q), (2, .int (sumW F c)), (3, .int (nI c))]) [] (hC g b T) 46 0 0 by
    exact x_subl [(0, .ref b), (1, .ref q), (2, .int (sumW F 0)), (3, .int (nI 0))] (List.forall_mem_cons.mpr ⟨rfl, List.forall_mem_cons.mpr ⟨rfl, List.forall_mem_cons.mpr ⟨rfl, List.forall_mem_cons.mpr ⟨rfl, fun _ hz => absurd hz List.not_mem_nil⟩⟩⟩⟩) (x_heap (rfl) (L_4 (N + 1) 0 (by omega) (by omega)))
  intro k
  induction k with
  | zero => intro c h1 h2; omega
  | succ k ih =>
    intro c h1 h2
    refine x_iload_n Γ dX0_allOf_4 rfl ?_
    refine x_aload_n Γ dX0_allOf_5 rfl ?_
    refine gf_X0_33 Γ dX0_allOf_6 hb0 hC_o rfl ?_
    refine x_icmp_ge Γ (tgt := 30) dX0_allOf_9 (by decide) (fun c_1 => ?_) (fun c_1 => ?_)
    · rw [hN.1] at c_1
      have c_1 := z_le c_1 (by omega) (by omega)
      obtain rfl : c = N := by omega
      refine x_iload_n Γ dX0_allOf_30 rfl ?_
      exact x_iret ρ rfl dX0_allOf_31 rfl (rfl) rfl (zH.rf)
    · rw [hN.1] at c_1
      have c_1 := z_nle c_1 (by omega) (by omega)
      refine x_iload_n Γ dX0_allOf_12 rfl ?_
      refine x_aload_n Γ dX0_allOf_13 rfl ?_
      refine x_alen Γ dX0_allOf_14 hq hR ?_
      refine x_icmp_ge Γ (tgt := 30) dX0_allOf_15 (by decide) (fun c_2 => ?_) (fun c_2 => ?_)
      · exact absurd (z_le c_2 (by omega) (by omega)) (by omega)
      · refine x_iload_n Γ dX0_allOf_18 rfl ?_
        refine x_aload_n Γ dX0_allOf_19 rfl ?_
        refine x_iload_n Γ dX0_allOf_20 rfl ?_
        refine x_iald Γ dX0_allOf_21 hq hR rfl (by first | assumption | omega) (by decide) rfl ?_
        refine x_iadd Γ dX0_allOf_22 ?_
        refine x_istore_n Γ dX0_allOf_23 (by decide) ?_
        refine x_iinc Γ dX0_allOf_24 rfl (by first | exact zinc _ | rfl) (by decide) ?_
        refine x_goto Γ (tgt := 4) dX0_allOf_27 (by decide) ?_
        exact x_subl [(0, .ref b), (1, .ref q), (2, .int (sumW F (c + 1))), (3, .int (nI (c + 1)))] (List.forall_mem_cons.mpr ⟨rfl, List.forall_mem_cons.mpr ⟨rfl, List.forall_mem_cons.mpr ⟨rfl, List.forall_mem_cons.mpr ⟨rfl, fun _ hz => absurd hz List.not_mem_nil⟩⟩⟩⟩) (x_heap (rfl) (ih (c + 1) (by omega) (by omega)))

set_option maxRecDepth 100000 in
set_option maxHeartbeats 4000000 in
theorem m_X0_heldSpots {g : Nat → zE} {b : Nat} {T : zT} (hb : b + 7 < 46) : zM 0 M_X0_heldSpots [.ref b] (hC g b T) 46 (some (.int (sumW (fun i => if T 6 i < 0 then 0 else 1) 10))) (hC g b T) 46 0 0 := by
  refine zM.intro (by decide) (Nat.le_of_ble_eq_true rfl) ?_
  intro Wf V m H0 Γ ρ
  replace Γ : zC Wf V m 3 H0 cX0_heldSpots RX0 0 0 0 := Γ
  show zX Wf V m 3 H0 0 (zls [(0, .ref b)]) [] (hC g b T) 46 0 0
  have hb0 : b < 46 := by omega
  have hb1 : b + 1 < 46 := by omega
  have hb2 : b + 2 < 46 := by omega
  have hb3 : b + 3 < 46 := by omega
  have hb4 : b + 4 < 46 := by omega
  have hb5 : b + 5 < 46 := by omega
  have hb6 : b + 6 < 46 := by omega
  have hb7 : b + 7 < 46 := by omega
  refine x_iconst Γ (v := 0) dX0_heldSpots_0 rfl ?_
  refine x_istore_n Γ dX0_heldSpots_1 (by decide) ?_
  refine x_iconst Γ (v := 0) dX0_heldSpots_2 rfl ?_
  refine x_istore_n Γ dX0_heldSpots_3 (by decide) ?_
  suffices L_4 : ∀ (k c : Nat), c ≤ 10 → 10 - c < k → zX Wf V m 3 H0 4 (zls [(0, .ref b), (1, .int (sumW (fun i => if T 6 i < 0 then 0 else 1) c)), (2, .int (nI c))]) [] (hC g b T) 46 0 0 by
    exact x_subl [(0, .ref b), (1, .int (sumW (fun i => if T 6 i < 0 then 0 else 1) 0)), (2, .int (nI 0))] (List.forall_mem_cons.mpr ⟨rfl, List.forall_mem_cons.mpr ⟨rfl, List.forall_mem_cons.mpr ⟨rfl, fun _ hz => absurd hz List.not_mem_nil⟩⟩⟩) (x_heap (rfl) (L_4 (10 + 1) 0 (by omega) (by omega)))
  intro k
  induction k with
  | zero => intro c h1 h2; omega
  | succ k ih =>
    intro c h1 h2
    refine x_iload_n Γ dX0_heldSpots_4 rfl ?_
    refine x_bipush Γ (v := 10) dX0_heldSpots_5 rfl ?_
    refine x_icmp_ge Γ (tgt := 28) dX0_heldSpots_7 (by decide) (fun c_1 => ?_) (fun c_1 => ?_)
    · have c_1 := z_le (a := 10) c_1 (by omega) (by omega)
      obtain rfl : c = 10 := by omega
      refine x_iload_n Γ dX0_heldSpots_28 rfl ?_
      exact x_iret ρ rfl dX0_heldSpots_29 rfl (rfl) rfl (zH.rf)
    · have c_1 := z_nle (a := 10) c_1 (by omega) (by omega)
      refine x_aload_n Γ dX0_heldSpots_10 rfl ?_
      refine gf_X0_30 Γ dX0_heldSpots_11 hb0 hC_o rfl ?_
      refine x_iload_n Γ dX0_heldSpots_14 rfl ?_
      refine x_iald Γ dX0_heldSpots_15 hb7 hC_6 rfl (by first | assumption | omega) (by decide) rfl ?_
      refine x_if_lt Γ (tgt := 22) dX0_heldSpots_16 (by decide) (fun c_2 => ?_) (fun c_2 => ?_)
      · refine x_iinc Γ dX0_heldSpots_22 rfl (by first | exact zinc _ | rfl) (by decide) ?_
        refine x_goto Γ (tgt := 4) dX0_heldSpots_25 (by decide) ?_
        exact x_subl [(0, .ref b), (1, .int (sumW (fun i => if T 6 i < 0 then 0 else 1) (c + 1))), (2, .int (nI (c + 1)))] (List.forall_mem_cons.mpr ⟨rfl, List.forall_mem_cons.mpr ⟨zsi (by simp [sumW, *]), List.forall_mem_cons.mpr ⟨rfl, fun _ hz => absurd hz List.not_mem_nil⟩⟩⟩) (x_heap (rfl) (ih (c + 1) (by omega) (by omega)))
      · refine x_iinc Γ dX0_heldSpots_19 rfl (by first | exact zinc _ | rfl) (by decide) ?_
        refine x_iinc Γ dX0_heldSpots_22 rfl (by first | exact zinc _ | rfl) (by decide) ?_
        refine x_goto Γ (tgt := 4) dX0_heldSpots_25 (by decide) ?_
        exact x_subl [(0, .ref b), (1, .int (sumW (fun i => if T 6 i < 0 then 0 else 1) (c + 1))), (2, .int (nI (c + 1)))] (List.forall_mem_cons.mpr ⟨rfl, List.forall_mem_cons.mpr ⟨zsi (by simp [sumW, *]), List.forall_mem_cons.mpr ⟨rfl, fun _ hz => absurd hz List.not_mem_nil⟩⟩⟩) (x_heap (rfl) (ih (c + 1) (by omega) (by omega)))

set_option maxRecDepth 100000 in
set_option maxHeartbeats 4000000 in
theorem m_X0_tokenWorth {g : Nat → zE} {b : Nat} {T : zT} (hb : b + 7 < 46) (c : Nat) (hc : c < 10) (t : Int32) : zM 1 M_X0_tokenWorth [.ref b, .int (nI c), .int t] (hC g b T) 46 (some (.int (tw T c t))) (hC g b T) 46 0 0 := by
  refine zM.intro (by decide) (Nat.le_of_ble_eq_true rfl) ?_
  intro Wf V m H0 Γ ρ
  replace Γ : zC Wf V m 3 H0 cX0_tokenWorth RX0 1 0 0 := Γ
  show zX Wf V m 3 H0 0 (zls [(0, .ref b), (1, .int (nI c)), (2, .int t)]) [] (hC g b T) 46 0 0
  have hb0 : b < 46 := by omega
  have hb1 : b + 1 < 46 := by omega
  have hb2 : b + 2 < 46 := by omega
  have hb3 : b + 3 < 46 := by omega
  have hb4 : b + 4 < 46 := by omega
  have hb5 : b + 5 < 46 := by omega
  have hb6 : b + 6 < 46 := by omega
  have hb7 : b + 7 < 46 := by omega
  refine x_iload_n Γ dX0_tokenWorth_0 rfl ?_
  refine x_iconst Γ (v := 1) dX0_tokenWorth_1 rfl ?_
  refine x_icmp_ne Γ (tgt := 11) dX0_tokenWorth_2 (by decide) (fun c_1 => ?_) (fun c_1 => ?_)
  · refine x_iload_n Γ dX0_tokenWorth_11 rfl ?_
    refine x_iconst Γ (v := 2) dX0_tokenWorth_12 rfl ?_
    refine x_icmp_ne Γ (tgt := 24) dX0_tokenWorth_13 (by decide) (fun c_2 => ?_) (fun c_2 => ?_)
    · refine x_iconst Γ (v := 0) dX0_tokenWorth_24 rfl ?_
      exact x_iret ρ rfl dX0_tokenWorth_25 rfl (by first | (simp [tw, zb, *]; done) | (exfalso; simp_all; done) | (simp [tw, zb, *]; simp only [Int32.lt_iff_toInt_lt, Int32.le_iff_toInt_le, zlt_0, zlt_1, zlt_2, zlt_3, zlt_4, zlt_5, zlt_6, zlt_7, zlt_8, zlt_9, zlt_10, zlt_11, zlt_12, zlt_30, zlt_39, zlt_40, zlt_59, zlt_60, zlt_61, zlt_98, zlt_99, zlt_100, zlt_119, zlt_120, zlt_998, zlt_999, zlt_9998, zlt_9999, zlt_m1] at *; omega)) rfl (zH.rf)
    · refine x_aload_n Γ dX0_tokenWorth_16 rfl ?_
      refine x_iload_n Γ dX0_tokenWorth_17 rfl ?_
      refine x_callV Γ calv_X0_seatWorth wl_X0_78 dX0_tokenWorth_18 (m_X0_seatWorth (g := g) (T := T) hb c (by omega)) rfl (by decide) hb0 hC_o rfl rfl rfl (Nat.le_of_ble_eq_true rfl) (Nat.le_refl _) (Nat.le_refl _) ?_
      refine x_goto Γ (tgt := 25) dX0_tokenWorth_21 (by decide) ?_
      exact x_iret ρ rfl dX0_tokenWorth_25 rfl (by first | (simp [tw, zb, *]; done) | (exfalso; simp_all; done) | (simp [tw, zb, *]; simp only [Int32.lt_iff_toInt_lt, Int32.le_iff_toInt_le, zlt_0, zlt_1, zlt_2, zlt_3, zlt_4, zlt_5, zlt_6, zlt_7, zlt_8, zlt_9, zlt_10, zlt_11, zlt_12, zlt_30, zlt_39, zlt_40, zlt_59, zlt_60, zlt_61, zlt_98, zlt_99, zlt_100, zlt_119, zlt_120, zlt_998, zlt_999, zlt_9998, zlt_9999, zlt_m1] at *; omega)) rfl (zH.rf)
  · refine x_aload_n Γ dX0_tokenWorth_5 rfl ?_
    refine x_iload_n Γ dX0_tokenWorth_6 rfl ?_
    refine x_callV Γ calv_X0_loafWorth wl_X0_74 dX0_tokenWorth_7 (m_X0_loafWorth (g := g) (T := T) hb c (by omega)) rfl (by decide) hb0 hC_o rfl rfl rfl (Nat.le_of_ble_eq_true rfl) (Nat.le_refl _) (Nat.le_refl _) ?_
    exact x_iret ρ rfl dX0_tokenWorth_10 rfl (by first | (simp [tw, zb, *]; done) | (exfalso; simp_all; done) | (simp [tw, zb, *]; simp only [Int32.lt_iff_toInt_lt, Int32.le_iff_toInt_le, zlt_0, zlt_1, zlt_2, zlt_3, zlt_4, zlt_5, zlt_6, zlt_7, zlt_8, zlt_9, zlt_10, zlt_11, zlt_12, zlt_30, zlt_39, zlt_40, zlt_59, zlt_60, zlt_61, zlt_98, zlt_99, zlt_100, zlt_119, zlt_120, zlt_998, zlt_999, zlt_9998, zlt_9999, zlt_m1] at *; omega)) rfl (zH.rf)

set_option maxRecDepth 100000 in
set_option maxHeartbeats 4000000 in
theorem m_X0_wantsOther {g : Nat → zE} {b : Nat} {T : zT} (hb : b + 7 < 46) (c : Nat) (hc : c < 10) {hh : Nat} (eh : T 1 c = nI hh) (hh9 : hh ≤ 9) : zM 1 M_X0_wantsOther [.ref b, .int (nI c)] (hC g b T) 46 (some (.int (zb (wo T c)))) (hC g b T) 46 0 0 := by
  refine zM.intro (by decide) (Nat.le_of_ble_eq_true rfl) ?_
  intro Wf V m H0 Γ ρ
  replace Γ : zC Wf V m 3 H0 cX0_wantsOther RX0 1 0 0 := Γ
  show zX Wf V m 3 H0 0 (zls [(0, .ref b), (1, .int (nI c))]) [] (hC g b T) 46 0 0
  have hb0 : b < 46 := by omega
  have hb1 : b + 1 < 46 := by omega
  have hb2 : b + 2 < 46 := by omega
  have hb3 : b + 3 < 46 := by omega
  have hb4 : b + 4 < 46 := by omega
  have hb5 : b + 5 < 46 := by omega
  have hb6 : b + 6 < 46 := by omega
  have hb7 : b + 7 < 46 := by omega
  refine x_aload_n Γ dX0_wantsOther_0 rfl ?_
  refine x_iload_n Γ dX0_wantsOther_1 rfl ?_
  refine x_callV Γ calv_X0_seatWorth wl_X0_78 dX0_wantsOther_2 (m_X0_seatWorth (g := g) (T := T) hb c (by omega)) rfl (by decide) hb0 hC_o rfl rfl rfl (Nat.le_of_ble_eq_true rfl) (Nat.le_refl _) (Nat.le_refl _) ?_
  refine x_aload_n Γ dX0_wantsOther_5 rfl ?_
  refine x_iload_n Γ dX0_wantsOther_6 rfl ?_
  refine x_callV Γ calv_X0_loafWorth wl_X0_74 dX0_wantsOther_7 (m_X0_loafWorth (g := g) (T := T) hb c (by omega)) rfl (by decide) hb0 hC_o rfl rfl rfl (Nat.le_of_ble_eq_true rfl) (Nat.le_refl _) (Nat.le_refl _) ?_
  refine x_isub Γ dX0_wantsOther_10 ?_
  refine x_istore_n Γ dX0_wantsOther_11 (by decide) ?_
  refine x_aload_n Γ dX0_wantsOther_12 rfl ?_
  refine gf_X0_27 Γ dX0_wantsOther_13 hb0 hC_o rfl ?_
  refine x_iload_n Γ dX0_wantsOther_16 rfl ?_
  refine x_iald Γ dX0_wantsOther_17 hb6 hC_5 rfl (by first | assumption | omega) (by decide) rfl ?_
  refine x_iconst Γ (v := 1) dX0_wantsOther_18 rfl ?_
  refine x_icmp_ne Γ (tgt := 34) dX0_wantsOther_19 (by decide) (fun c_1 => ?_) (fun c_1 => ?_)
  · refine x_aload_n Γ dX0_wantsOther_34 rfl ?_
    refine gf_X0_27 Γ dX0_wantsOther_35 hb0 hC_o rfl ?_
    refine x_iload_n Γ dX0_wantsOther_38 rfl ?_
    refine x_iald Γ dX0_wantsOther_39 hb6 hC_5 rfl (by first | assumption | omega) (by decide) rfl ?_
    refine x_iconst Γ (v := 2) dX0_wantsOther_40 rfl ?_
    refine x_icmp_ne Γ (tgt := 52) dX0_wantsOther_41 (by decide) (fun c_2 => ?_) (fun c_2 => ?_)
    · refine x_iconst Γ (v := 0) dX0_wantsOther_52 rfl ?_
      exact x_iret ρ rfl dX0_wantsOther_53 (by first | exact zb_nz _ | rfl) (by first | (simp [wo, zb, *]; done) | (exfalso; simp_all; done) | (simp [wo, zb, *]; simp only [Int32.lt_iff_toInt_lt, Int32.le_iff_toInt_le, zlt_0, zlt_1, zlt_2, zlt_3, zlt_4, zlt_5, zlt_6, zlt_7, zlt_8, zlt_9, zlt_10, zlt_11, zlt_12, zlt_30, zlt_39, zlt_40, zlt_59, zlt_60, zlt_61, zlt_98, zlt_99, zlt_100, zlt_119, zlt_120, zlt_998, zlt_999, zlt_9998, zlt_9999, zlt_m1] at *; omega)) rfl (zH.rf)
    · refine x_iload_n Γ dX0_wantsOther_44 rfl ?_
      refine x_if_ge Γ (tgt := 52) dX0_wantsOther_45 (by decide) (fun c_3 => ?_) (fun c_3 => ?_)
      · have c_3 := (gain_le eh hh9).2.mp c_3
        refine x_iconst Γ (v := 0) dX0_wantsOther_52 rfl ?_
        exact x_iret ρ rfl dX0_wantsOther_53 (by first | exact zb_nz _ | rfl) (by first | (simp [wo, zb, *]; done) | (exfalso; simp_all; done) | (simp [wo, zb, *]; simp only [Int32.lt_iff_toInt_lt, Int32.le_iff_toInt_le, zlt_0, zlt_1, zlt_2, zlt_3, zlt_4, zlt_5, zlt_6, zlt_7, zlt_8, zlt_9, zlt_10, zlt_11, zlt_12, zlt_30, zlt_39, zlt_40, zlt_59, zlt_60, zlt_61, zlt_98, zlt_99, zlt_100, zlt_119, zlt_120, zlt_998, zlt_999, zlt_9998, zlt_9999, zlt_m1] at *; omega)) rfl (zH.rf)
      · have c_3 := Decidable.not_not.mp (fun z => c_3 ((gain_le eh hh9).2.mpr z))
        refine x_iconst Γ (v := 1) dX0_wantsOther_48 rfl ?_
        refine x_goto Γ (tgt := 53) dX0_wantsOther_49 (by decide) ?_
        exact x_iret ρ rfl dX0_wantsOther_53 (by first | exact zb_nz _ | rfl) (by first | (simp [wo, zb, *]; done) | (exfalso; simp_all; done) | (simp [wo, zb, *]; simp only [Int32.lt_iff_toInt_lt, Int32.le_iff_toInt_le, zlt_0, zlt_1, zlt_2, zlt_3, zlt_4, zlt_5, zlt_6, zlt_7, zlt_8, zlt_9, zlt_10, zlt_11, zlt_12, zlt_30, zlt_39, zlt_40, zlt_59, zlt_60, zlt_61, zlt_98, zlt_99, zlt_100, zlt_119, zlt_120, zlt_998, zlt_999, zlt_9998, zlt_9999, zlt_m1] at *; omega)) rfl (zH.rf)
  · refine x_iload_n Γ dX0_wantsOther_22 rfl ?_
    refine x_if_le Γ (tgt := 30) dX0_wantsOther_23 (by decide) (fun c_4 => ?_) (fun c_4 => ?_)
    · have c_4 := (gain_le eh hh9).1.mp c_4
      refine x_iconst Γ (v := 0) dX0_wantsOther_30 rfl ?_
      refine x_goto Γ (tgt := 53) dX0_wantsOther_31 (by decide) ?_
      exact x_iret ρ rfl dX0_wantsOther_53 (by first | exact zb_nz _ | rfl) (by first | (simp [wo, zb, *]; done) | (exfalso; simp_all; done) | (simp [wo, zb, *]; simp only [Int32.lt_iff_toInt_lt, Int32.le_iff_toInt_le, zlt_0, zlt_1, zlt_2, zlt_3, zlt_4, zlt_5, zlt_6, zlt_7, zlt_8, zlt_9, zlt_10, zlt_11, zlt_12, zlt_30, zlt_39, zlt_40, zlt_59, zlt_60, zlt_61, zlt_98, zlt_99, zlt_100, zlt_119, zlt_120, zlt_998, zlt_999, zlt_9998, zlt_9999, zlt_m1] at *; omega)) rfl (zH.rf)
    · have c_4 := Decidable.not_not.mp (fun z => c_4 ((gain_le eh hh9).1.mpr z))
      refine x_iconst Γ (v := 1) dX0_wantsOther_26 rfl ?_
      refine x_goto Γ (tgt := 53) dX0_wantsOther_27 (by decide) ?_
      exact x_iret ρ rfl dX0_wantsOther_53 (by first | exact zb_nz _ | rfl) (by first | (simp [wo, zb, *]; done) | (exfalso; simp_all; done) | (simp [wo, zb, *]; simp only [Int32.lt_iff_toInt_lt, Int32.le_iff_toInt_le, zlt_0, zlt_1, zlt_2, zlt_3, zlt_4, zlt_5, zlt_6, zlt_7, zlt_8, zlt_9, zlt_10, zlt_11, zlt_12, zlt_30, zlt_39, zlt_40, zlt_59, zlt_60, zlt_61, zlt_98, zlt_99, zlt_100, zlt_119, zlt_120, zlt_998, zlt_999, zlt_9998, zlt_9999, zlt_m1] at *; omega)) rfl (zH.rf)

set_option maxRecDepth 100000 in
set_option maxHeartbeats 4000000 in
theorem m_X0_allWorth {g : Nat → zE} {b : Nat} {T : zT} (hb : b + 7 < 46) {N : Nat} (hN : wN T N) : zM 2 M_X0_allWorth [.ref b] (hC g b T) 46 (some (.int (sumW (fun c => tw T c (T 5 c)) N))) (hC g b T) 46 0 0 := by
  refine zM.intro (by decide) (Nat.le_of_ble_eq_true rfl) ?_
  intro Wf V m H0 Γ ρ
  replace Γ : zC Wf V m 3 H0 cX0_allWorth RX0 2 0 0 := Γ
  show zX Wf V m 3 H0 0 (zls [(0, .ref b)]) [] (hC g b T) 46 0 0
  have hb0 : b < 46 := by omega
  have hb1 : b + 1 < 46 := by omega
  have hb2 : b + 2 < 46 := by omega
  have hb3 : b + 3 < 46 := by omega
  have hb4 : b + 4 < 46 := by omega
  have hb5 : b + 5 < 46 := by omega
  have hb6 : b + 6 < 46 := by omega
  have hb7 : b + 7 < 46 := by omega
  have hN2 := hN.2
  refine x_iconst Γ (v := 0) dX0_allWorth_0 rfl ?_
  refine x_istore_n Γ dX0_allWorth_1 (by decide) ?_
  refine x_iconst Γ (v := 0) dX0_allWorth_2 rfl ?_
  refine x_istore_n Γ dX0_allWorth_3 (by decide) ?_
  suffices L_4 : ∀ (k c : Nat), c ≤ N → N - c < k → zX Wf V m 3 H0 4 (zls [(0, .ref b), (1, .int (sumW (fun c => tw T c (T 5 c)) c)), (2, .int (nI c))]) [] (hC g b T) 46 0 0 by
    exact x_subl [(0, .ref b), (1, .int (sumW (fun c => tw T c (T 5 c)) 0)), (2, .int (nI 0))] (List.forall_mem_cons.mpr ⟨rfl, List.forall_mem_cons.mpr ⟨rfl, List.forall_mem_cons.mpr ⟨rfl, fun _ hz => absurd hz List.not_mem_nil⟩⟩⟩) (x_heap (rfl) (L_4 (N + 1) 0 (by omega) (by omega)))
  intro k
  induction k with
  | zero => intro c h1 h2; omega
  | succ k ih =>
    intro c h1 h2
    refine x_iload_n Γ dX0_allWorth_4 rfl ?_
    refine x_aload_n Γ dX0_allWorth_5 rfl ?_
    refine gf_X0_33 Γ dX0_allWorth_6 hb0 hC_o rfl ?_
    refine x_icmp_ge Γ (tgt := 32) dX0_allWorth_9 (by decide) (fun c_1 => ?_) (fun c_1 => ?_)
    · rw [hN.1] at c_1
      have c_1 := z_le c_1 (by omega) (by omega)
      obtain rfl : c = N := by omega
      refine x_iload_n Γ dX0_allWorth_32 rfl ?_
      exact x_iret ρ rfl dX0_allWorth_33 rfl (rfl) rfl (zH.rf)
    · rw [hN.1] at c_1
      have c_1 := z_nle c_1 (by omega) (by omega)
      refine x_iload_n Γ dX0_allWorth_12 rfl ?_
      refine x_aload_n Γ dX0_allWorth_13 rfl ?_
      refine x_iload_n Γ dX0_allWorth_14 rfl ?_
      refine x_aload_n Γ dX0_allWorth_15 rfl ?_
      refine gf_X0_27 Γ dX0_allWorth_16 hb0 hC_o rfl ?_
      refine x_iload_n Γ dX0_allWorth_19 rfl ?_
      refine x_iald Γ dX0_allWorth_20 hb6 hC_5 rfl (by first | assumption | omega) (by decide) rfl ?_
      refine x_callV Γ calv_X0_tokenWorth wl_X0_88 dX0_allWorth_21 (m_X0_tokenWorth (g := g) (T := T) hb c (by omega) (T 5 c)) rfl (by decide) hb0 hC_o rfl rfl rfl (Nat.le_of_ble_eq_true rfl) (Nat.le_refl _) (Nat.le_refl _) ?_
      refine x_iadd Γ dX0_allWorth_24 ?_
      refine x_istore_n Γ dX0_allWorth_25 (by decide) ?_
      refine x_iinc Γ dX0_allWorth_26 rfl (by first | exact zinc _ | rfl) (by decide) ?_
      refine x_goto Γ (tgt := 4) dX0_allWorth_29 (by decide) ?_
      exact x_subl [(0, .ref b), (1, .int (sumW (fun c => tw T c (T 5 c)) (c + 1))), (2, .int (nI (c + 1)))] (List.forall_mem_cons.mpr ⟨rfl, List.forall_mem_cons.mpr ⟨rfl, List.forall_mem_cons.mpr ⟨rfl, fun _ hz => absurd hz List.not_mem_nil⟩⟩⟩) (x_heap (rfl) (ih (c + 1) (by omega) (by omega)))

set_option maxRecDepth 100000 in
set_option maxHeartbeats 4000000 in
theorem m_X0_preferLoafAt {g : Nat → zE} {b : Nat} {T : zT} (hb : b + 7 < 46) {N : Nat} (hN : wN T N) (v : Int32) : zM 1 M_X0_preferLoafAt [.ref b, .int v] (hC g b T) 46 (some (.int (sumW (fun c => if T 5 c ≠ 0 ∧ sw T c < lw T c + v then 1 else 0) N))) (hC g b T) 46 0 0 := by
  refine zM.intro (by decide) (Nat.le_of_ble_eq_true rfl) ?_
  intro Wf V m H0 Γ ρ
  replace Γ : zC Wf V m 4 H0 cX0_preferLoafAt RX0 1 0 0 := Γ
  show zX Wf V m 4 H0 0 (zls [(0, .ref b), (1, .int v)]) [] (hC g b T) 46 0 0
  have hb0 : b < 46 := by omega
  have hb1 : b + 1 < 46 := by omega
  have hb2 : b + 2 < 46 := by omega
  have hb3 : b + 3 < 46 := by omega
  have hb4 : b + 4 < 46 := by omega
  have hb5 : b + 5 < 46 := by omega
  have hb6 : b + 6 < 46 := by omega
  have hb7 : b + 7 < 46 := by omega
  have hN2 := hN.2
  refine x_iconst Γ (v := 0) dX0_preferLoafAt_0 rfl ?_
  refine x_istore_n Γ dX0_preferLoafAt_1 (by decide) ?_
  refine x_iconst Γ (v := 0) dX0_preferLoafAt_2 rfl ?_
  refine x_istore_n Γ dX0_preferLoafAt_3 (by decide) ?_
  suffices L_4 : ∀ (k c : Nat), c ≤ N → N - c < k → zX Wf V m 4 H0 4 (zls [(0, .ref b), (1, .int v), (2, .int (sumW (fun c => if T 5 c ≠ 0 ∧ sw T c < lw T c + v then 1 else 0) c)), (3, .int (nI c))]) [] (hC g b T) 46 0 0 by
    exact x_subl [(0, .ref b), (1, .int v), (2, .int (sumW (fun c => if T 5 c ≠ 0 ∧ sw T c < lw T c + v then 1 else 0) 0)), (3, .int (nI 0))] (List.forall_mem_cons.mpr ⟨rfl, List.forall_mem_cons.mpr ⟨rfl, List.forall_mem_cons.mpr ⟨rfl, List.forall_mem_cons.mpr ⟨rfl, fun _ hz => absurd hz List.not_mem_nil⟩⟩⟩⟩) (x_heap (rfl) (L_4 (N + 1) 0 (by omega) (by omega)))
  intro k
  induction k with
  | zero => intro c h1 h2; omega
  | succ k ih =>
    intro c h1 h2
    refine x_iload_n Γ dX0_preferLoafAt_4 rfl ?_
    refine x_aload_n Γ dX0_preferLoafAt_5 rfl ?_
    refine gf_X0_33 Γ dX0_preferLoafAt_6 hb0 hC_o rfl ?_
    refine x_icmp_ge Γ (tgt := 45) dX0_preferLoafAt_9 (by decide) (fun c_1 => ?_) (fun c_1 => ?_)
    · rw [hN.1] at c_1
      have c_1 := z_le c_1 (by omega) (by omega)
      obtain rfl : c = N := by omega
      refine x_iload_n Γ dX0_preferLoafAt_45 rfl ?_
      exact x_iret ρ rfl dX0_preferLoafAt_46 rfl (rfl) rfl (zH.rf)
    · rw [hN.1] at c_1
      have c_1 := z_nle c_1 (by omega) (by omega)
      refine x_aload_n Γ dX0_preferLoafAt_12 rfl ?_
      refine gf_X0_27 Γ dX0_preferLoafAt_13 hb0 hC_o rfl ?_
      refine x_iload_n Γ dX0_preferLoafAt_16 rfl ?_
      refine x_iald Γ dX0_preferLoafAt_17 hb6 hC_5 rfl (by first | assumption | omega) (by decide) rfl ?_
      refine x_if_eq Γ (tgt := 39) dX0_preferLoafAt_18 (by decide) (fun c_2 => ?_) (fun c_2 => ?_)
      · refine x_iinc Γ dX0_preferLoafAt_39 rfl (by first | exact zinc _ | rfl) (by decide) ?_
        refine x_goto Γ (tgt := 4) dX0_preferLoafAt_42 (by decide) ?_
        exact x_subl [(0, .ref b), (1, .int v), (2, .int (sumW (fun c => if T 5 c ≠ 0 ∧ sw T c < lw T c + v then 1 else 0) (c + 1))), (3, .int (nI (c + 1)))] (List.forall_mem_cons.mpr ⟨rfl, List.forall_mem_cons.mpr ⟨rfl, List.forall_mem_cons.mpr ⟨zsi (by simp_all [sumW]), List.forall_mem_cons.mpr ⟨rfl, fun _ hz => absurd hz List.not_mem_nil⟩⟩⟩⟩) (x_heap (rfl) (ih (c + 1) (by omega) (by omega)))
      · refine x_aload_n Γ dX0_preferLoafAt_21 rfl ?_
        refine x_iload_n Γ dX0_preferLoafAt_22 rfl ?_
        refine x_callV Γ calv_X0_loafWorth wl_X0_74 dX0_preferLoafAt_23 (m_X0_loafWorth (g := g) (T := T) hb c (by omega)) rfl (by decide) hb0 hC_o rfl rfl rfl (Nat.le_of_ble_eq_true rfl) (Nat.le_refl _) (Nat.le_refl _) ?_
        refine x_iload_n Γ dX0_preferLoafAt_26 rfl ?_
        refine x_iadd Γ dX0_preferLoafAt_27 ?_
        refine x_aload_n Γ dX0_preferLoafAt_28 rfl ?_
        refine x_iload_n Γ dX0_preferLoafAt_29 rfl ?_
        refine x_callV Γ calv_X0_seatWorth wl_X0_78 dX0_preferLoafAt_30 (m_X0_seatWorth (g := g) (T := T) hb c (by omega)) rfl (by decide) hb0 hC_o rfl rfl rfl (Nat.le_of_ble_eq_true rfl) (Nat.le_refl _) (Nat.le_refl _) ?_
        refine x_icmp_le Γ (tgt := 39) dX0_preferLoafAt_33 (by decide) (fun c_3 => ?_) (fun c_3 => ?_)
        · refine x_iinc Γ dX0_preferLoafAt_39 rfl (by first | exact zinc _ | rfl) (by decide) ?_
          refine x_goto Γ (tgt := 4) dX0_preferLoafAt_42 (by decide) ?_
          exact x_subl [(0, .ref b), (1, .int v), (2, .int (sumW (fun c => if T 5 c ≠ 0 ∧ sw T c < lw T c + v then 1 else 0) (c + 1))), (3, .int (nI (c + 1)))] (List.forall_mem_cons.mpr ⟨rfl, List.forall_mem_cons.mpr ⟨rfl, List.forall_mem_cons.mpr ⟨zsi (by simp_all [sumW]), List.forall_mem_cons.mpr ⟨rfl, fun _ hz => absurd hz List.not_mem_nil⟩⟩⟩⟩) (x_heap (rfl) (ih (c + 1) (by omega) (by omega)))
        · refine x_iinc Γ dX0_preferLoafAt_36 rfl (by first | exact zinc _ | rfl) (by decide) ?_
          refine x_iinc Γ dX0_preferLoafAt_39 rfl (by first | exact zinc _ | rfl) (by decide) ?_
          refine x_goto Γ (tgt := 4) dX0_preferLoafAt_42 (by decide) ?_
          exact x_subl [(0, .ref b), (1, .int v), (2, .int (sumW (fun c => if T 5 c ≠ 0 ∧ sw T c < lw T c + v then 1 else 0) (c + 1))), (3, .int (nI (c + 1)))] (List.forall_mem_cons.mpr ⟨rfl, List.forall_mem_cons.mpr ⟨rfl, List.forall_mem_cons.mpr ⟨zsi (by simp_all [sumW]), List.forall_mem_cons.mpr ⟨rfl, fun _ hz => absurd hz List.not_mem_nil⟩⟩⟩⟩) (x_heap (rfl) (ih (c + 1) (by omega) (by omega)))

set_option maxRecDepth 100000 in
set_option maxHeartbeats 4000000 in
theorem m_X0_drawers {g : Nat → zE} {b : Nat} {T : zT} (hb : b + 7 < 46) : zM 1 M_X0_drawers [.ref b] (hC g b T) 46 (some (.int (if T 7 0 + T 7 1 < T 7 8 then T 7 0 + T 7 1 else T 7 8))) (hC g b T) 46 0 0 := by
  refine zM.intro (by decide) (Nat.le_of_ble_eq_true rfl) ?_
  intro Wf V m H0 Γ ρ
  replace Γ : zC Wf V m 1 H0 cX0_drawers RX0 1 0 0 := Γ
  show zX Wf V m 1 H0 0 (zls [(0, .ref b)]) [] (hC g b T) 46 0 0
  have hb0 : b < 46 := by omega
  have hb1 : b + 1 < 46 := by omega
  have hb2 : b + 2 < 46 := by omega
  have hb3 : b + 3 < 46 := by omega
  have hb4 : b + 4 < 46 := by omega
  have hb5 : b + 5 < 46 := by omega
  have hb6 : b + 6 < 46 := by omega
  have hb7 : b + 7 < 46 := by omega
  refine x_aload_n Γ dX0_drawers_0 rfl ?_
  refine gf_X0_33 Γ dX0_drawers_1 hb0 hC_o rfl ?_
  refine x_aload_n Γ dX0_drawers_4 rfl ?_
  refine gf_X0_40 Γ dX0_drawers_5 hb0 hC_o rfl ?_
  refine x_aload_n Γ dX0_drawers_8 rfl ?_
  refine gf_X0_43 Γ dX0_drawers_9 hb0 hC_o rfl ?_
  refine x_iadd Γ dX0_drawers_12 ?_
  refine x_mmin Γ (by decide) wl_X0_113 dX0_drawers_13 (Nat.le_of_ble_eq_true rfl) (Nat.le_refl _) (Nat.le_refl _) ?_
  exact x_iret ρ rfl dX0_drawers_16 rfl (rfl) rfl (zH.rf)

set_option maxRecDepth 100000 in
set_option maxHeartbeats 4000000 in
theorem m_X0_setRuling {g : Nat → zE} {b : Nat} {T : zT} (hb : b + 7 < 46) (w v : Int32) : zM 0 M_X0_setRuling [.ref b, .int w, .int v] (hC g b T) 46 (none) (hC g b (ts T 7 (rulF w) v)) 46 0 0 := by
  refine zM.intro (by decide) (Nat.le_of_ble_eq_true rfl) ?_
  intro Wf V m H0 Γ ρ
  replace Γ : zC Wf V m 3 H0 cX0_setRuling RX0 0 0 0 := Γ
  show zX Wf V m 3 H0 0 (zls [(0, .ref b), (1, .int w), (2, .int v)]) [] (hC g b T) 46 0 0
  have hb0 : b < 46 := by omega
  have hb1 : b + 1 < 46 := by omega
  have hb2 : b + 2 < 46 := by omega
  have hb3 : b + 3 < 46 := by omega
  have hb4 : b + 4 < 46 := by omega
  have hb5 : b + 5 < 46 := by omega
  have hb6 : b + 6 < 46 := by omega
  have hb7 : b + 7 < 46 := by omega
  refine x_iload_n Γ dX0_setRuling_0 rfl ?_
  refine x_tab4 Γ (a0 := 0) (a1 := 1) (a2 := 2) (a3 := 3) (t0 := 32) (t1 := 40) (t2 := 48) (t3 := 56) (td := 64) dX0_setRuling_1 (by decide +kernel) (fun c_1 => ?_) (fun c_1 => ?_) (fun c_1 => ?_) (fun c_1 => ?_) (fun c_1_0 c_1_1 c_1_2 c_1_3 => ?_)
  · refine x_aload_n Γ dX0_setRuling_32 rfl ?_
    refine x_iload_n Γ dX0_setRuling_33 rfl ?_
    refine pf_X0_40 Γ dX0_setRuling_34 hb0 hC_o (Nat.le_of_ble_eq_true rfl) hC_f9 ?_
    refine x_goto Γ (tgt := 69) dX0_setRuling_37 (by decide) ?_
    exact x_vret ρ dX0_setRuling_69 (rfl) rfl (by simp [rulF, *]; exact zH.rf)
  · refine x_aload_n Γ dX0_setRuling_40 rfl ?_
    refine x_iload_n Γ dX0_setRuling_41 rfl ?_
    refine pf_X0_43 Γ dX0_setRuling_42 hb0 hC_o (Nat.le_of_ble_eq_true rfl) hC_f10 ?_
    refine x_goto Γ (tgt := 69) dX0_setRuling_45 (by decide) ?_
    exact x_vret ρ dX0_setRuling_69 (rfl) rfl (by simp [rulF, *]; exact zH.rf)
  · refine x_aload_n Γ dX0_setRuling_48 rfl ?_
    refine x_iload_n Γ dX0_setRuling_49 rfl ?_
    refine pf_X0_46 Γ dX0_setRuling_50 hb0 hC_o (Nat.le_of_ble_eq_true rfl) hC_f11 ?_
    refine x_goto Γ (tgt := 69) dX0_setRuling_53 (by decide) ?_
    exact x_vret ρ dX0_setRuling_69 (rfl) rfl (by simp [rulF, *]; exact zH.rf)
  · refine x_aload_n Γ dX0_setRuling_56 rfl ?_
    refine x_iload_n Γ dX0_setRuling_57 rfl ?_
    refine pf_X0_37 Γ dX0_setRuling_58 hb0 hC_o (Nat.le_of_ble_eq_true rfl) hC_f8 ?_
    refine x_goto Γ (tgt := 69) dX0_setRuling_61 (by decide) ?_
    exact x_vret ρ dX0_setRuling_69 (rfl) rfl (by simp [rulF, *]; exact zH.rf)
  · refine x_aload_n Γ dX0_setRuling_64 rfl ?_
    refine x_iload_n Γ dX0_setRuling_65 rfl ?_
    refine pf_X0_49 Γ dX0_setRuling_66 hb0 hC_o (Nat.le_of_ble_eq_true rfl) hC_f12 ?_
    exact x_vret ρ dX0_setRuling_69 (rfl) rfl (by simp [rulF, *]; exact zH.rf)

set_option maxRecDepth 100000 in
set_option maxHeartbeats 4000000 in
theorem m_X0_setTrait {g : Nat → zE} {b : Nat} {T : zT} (hb : b + 7 < 46) {N : Nat} (hN : wN T N) (c : Nat) (hc : c < N) (w v : Int32) : zM 1 M_X0_setTrait [.ref b, .int (nI c), .int w, .int v] (hC g b T) 46 (none) (hC g b (ts T (traF w) c v)) 46 0 0 := by
  refine zM.intro (by decide) (Nat.le_of_ble_eq_true rfl) ?_
  intro Wf V m H0 Γ ρ
  replace Γ : zC Wf V m 4 H0 cX0_setTrait RX0 1 0 0 := Γ
  show zX Wf V m 4 H0 0 (zls [(0, .ref b), (1, .int (nI c)), (2, .int w), (3, .int v)]) [] (hC g b T) 46 0 0
  have hb0 : b < 46 := by omega
  have hb1 : b + 1 < 46 := by omega
  have hb2 : b + 2 < 46 := by omega
  have hb3 : b + 3 < 46 := by omega
  have hb4 : b + 4 < 46 := by omega
  have hb5 : b + 5 < 46 := by omega
  have hb6 : b + 6 < 46 := by omega
  have hb7 : b + 7 < 46 := by omega
  have hN2 := hN.2
  refine x_aload_n Γ dX0_setTrait_0 rfl ?_
  refine x_iload_n Γ dX0_setTrait_1 rfl ?_
  refine x_callV Γ calv_X0_houses wl_X0_71 dX0_setTrait_2 (m_X0_houses (g := g) (T := T) hb (nI c)) rfl (by decide) hb0 hC_o rfl rfl rfl (Nat.le_of_ble_eq_true rfl) (Nat.le_refl _) (Nat.le_refl _) ?_
  refine x_if_ne Γ (tgt := 9) dX0_setTrait_5 (by decide) (fun c_1 => ?_) (fun c_1 => ?_)
  · have c_1 := zb_n0.mp c_1
    refine x_iload_n Γ dX0_setTrait_9 rfl ?_
    refine x_tab4 Γ (a0 := 0) (a1 := 1) (a2 := 2) (a3 := 3) (t0 := 40) (t1 := 50) (t2 := 60) (t3 := 70) (td := 80) dX0_setTrait_10 (by decide +kernel) (fun c_2 => ?_) (fun c_2 => ?_) (fun c_2 => ?_) (fun c_2 => ?_) (fun c_2_0 c_2_1 c_2_2 c_2_3 => ?_)
    · refine x_aload_n Γ dX0_setTrait_40 rfl ?_
      refine gf_X0_9 Γ dX0_setTrait_41 hb0 hC_o rfl ?_
      refine x_iload_n Γ dX0_setTrait_44 rfl ?_
      refine x_iload_n Γ dX0_setTrait_45 rfl ?_
      refine x_iast Γ dX0_setTrait_46 hb1 hC_0 rfl (by first | assumption | omega) (by decide) hC_u0 ?_
      refine x_goto Γ (tgt := 87) dX0_setTrait_47 (by decide) ?_
      exact x_vret ρ dX0_setTrait_87 (rfl) rfl (by simp [traF, *]; exact zH.rf)
    · refine x_aload_n Γ dX0_setTrait_50 rfl ?_
      refine gf_X0_15 Γ dX0_setTrait_51 hb0 hC_o rfl ?_
      refine x_iload_n Γ dX0_setTrait_54 rfl ?_
      refine x_iload_n Γ dX0_setTrait_55 rfl ?_
      refine x_iast Γ dX0_setTrait_56 hb2 hC_1 rfl (by first | assumption | omega) (by decide) hC_u1 ?_
      refine x_goto Γ (tgt := 87) dX0_setTrait_57 (by decide) ?_
      exact x_vret ρ dX0_setTrait_87 (rfl) rfl (by simp [traF, *]; exact zH.rf)
    · refine x_aload_n Γ dX0_setTrait_60 rfl ?_
      refine gf_X0_18 Γ dX0_setTrait_61 hb0 hC_o rfl ?_
      refine x_iload_n Γ dX0_setTrait_64 rfl ?_
      refine x_iload_n Γ dX0_setTrait_65 rfl ?_
      refine x_iast Γ dX0_setTrait_66 hb3 hC_2 rfl (by first | assumption | omega) (by decide) hC_u2 ?_
      refine x_goto Γ (tgt := 87) dX0_setTrait_67 (by decide) ?_
      exact x_vret ρ dX0_setTrait_87 (rfl) rfl (by simp [traF, *]; exact zH.rf)
    · refine x_aload_n Γ dX0_setTrait_70 rfl ?_
      refine gf_X0_21 Γ dX0_setTrait_71 hb0 hC_o rfl ?_
      refine x_iload_n Γ dX0_setTrait_74 rfl ?_
      refine x_iload_n Γ dX0_setTrait_75 rfl ?_
      refine x_iast Γ dX0_setTrait_76 hb4 hC_3 rfl (by first | assumption | omega) (by decide) hC_u3 ?_
      refine x_goto Γ (tgt := 87) dX0_setTrait_77 (by decide) ?_
      exact x_vret ρ dX0_setTrait_87 (rfl) rfl (by simp [traF, *]; exact zH.rf)
    · refine x_aload_n Γ dX0_setTrait_80 rfl ?_
      refine gf_X0_27 Γ dX0_setTrait_81 hb0 hC_o rfl ?_
      refine x_iload_n Γ dX0_setTrait_84 rfl ?_
      refine x_iload_n Γ dX0_setTrait_85 rfl ?_
      refine x_iast Γ dX0_setTrait_86 hb6 hC_5 rfl (by first | assumption | omega) (by decide) hC_u5 ?_
      exact x_vret ρ dX0_setTrait_87 (rfl) rfl (by simp [traF, *]; exact zH.rf)
  · have c_1 := zb_0.mp c_1
    rw [hs_of hN hc] at c_1
    cases c_1

set_option maxRecDepth 100000 in
set_option maxHeartbeats 4000000 in
theorem m_X0_settle {g : Nat → zE} {b : Nat} {T : zT} (hb : b + 7 < 46) {N : Nat} (hN : wN T N) (hN9 : N < 10) (kd : Int32) : zM 0 M_X0_settle [.ref b, .int kd] (hC g b T) 46 (none) (hC g b (seT T N kd)) 46 0 0 := by
  refine zM.intro (by decide) (Nat.le_of_ble_eq_true rfl) ?_
  intro Wf V m H0 Γ ρ
  replace Γ : zC Wf V m 3 H0 cX0_settle RX0 0 0 0 := Γ
  show zX Wf V m 3 H0 0 (zls [(0, .ref b), (1, .int kd)]) [] (hC g b T) 46 0 0
  have hb0 : b < 46 := by omega
  have hb1 : b + 1 < 46 := by omega
  have hb2 : b + 2 < 46 := by omega
  have hb3 : b + 3 < 46 := by omega
  have hb4 : b + 4 < 46 := by omega
  have hb5 : b + 5 < 46 := by omega
  have hb6 : b + 6 < 46 := by omega
  have hb7 : b + 7 < 46 := by omega
  have hN2 := hN.2
  refine x_aload_n Γ dX0_settle_0 rfl ?_
  refine gf_X0_33 Γ dX0_settle_1 hb0 hC_o rfl ?_
  refine x_istore_n Γ dX0_settle_4 (by decide) ?_
  refine x_iload_n Γ dX0_settle_5 rfl ?_
  refine x_bipush Γ (v := 10) dX0_settle_6 rfl ?_
  refine x_icmp_lt Γ (tgt := 12) dX0_settle_8 (by decide) (fun c_1 => ?_) (fun c_1 => ?_)
  · refine x_aload_n Γ dX0_settle_12 rfl ?_
    refine gf_X0_9 Γ dX0_settle_13 hb0 hC_o rfl ?_
    refine x_iload_n Γ dX0_settle_16 rfl ?_
    refine x_iload_n Γ dX0_settle_17 rfl ?_
    refine x_iast Γ dX0_settle_18 hb1 hC_0 hN.1 (by omega) (by decide) hC_u0 ?_
    refine x_aload_n Γ dX0_settle_19 rfl ?_
    refine gf_X0_15 Γ dX0_settle_20 hb0 hC_o rfl ?_
    refine x_iload_n Γ dX0_settle_23 rfl ?_
    refine x_iconst Γ (v := 3) dX0_settle_24 rfl ?_
    refine x_iast Γ dX0_settle_25 hb2 hC_1 hN.1 (by omega) (by decide) hC_u1 ?_
    refine x_aload_n Γ dX0_settle_26 rfl ?_
    refine gf_X0_18 Γ dX0_settle_27 hb0 hC_o rfl ?_
    refine x_iload_n Γ dX0_settle_30 rfl ?_
    refine x_iconst Γ (v := 0) dX0_settle_31 rfl ?_
    refine x_iast Γ dX0_settle_32 hb3 hC_2 hN.1 (by omega) (by decide) hC_u2 ?_
    refine x_aload_n Γ dX0_settle_33 rfl ?_
    refine gf_X0_21 Γ dX0_settle_34 hb0 hC_o rfl ?_
    refine x_iload_n Γ dX0_settle_37 rfl ?_
    refine x_bipush Γ (v := 10) dX0_settle_38 rfl ?_
    refine x_iast Γ dX0_settle_40 hb4 hC_3 hN.1 (by omega) (by decide) hC_u3 ?_
    refine x_aload_n Γ dX0_settle_41 rfl ?_
    refine gf_X0_24 Γ dX0_settle_42 hb0 hC_o rfl ?_
    refine x_iload_n Γ dX0_settle_45 rfl ?_
    refine x_iconst Γ (v := 0) dX0_settle_46 rfl ?_
    refine x_iast Γ dX0_settle_47 hb5 hC_4 hN.1 (by omega) (by decide) hC_u4 ?_
    refine x_aload_n Γ dX0_settle_48 rfl ?_
    refine gf_X0_27 Γ dX0_settle_49 hb0 hC_o rfl ?_
    refine x_iload_n Γ dX0_settle_52 rfl ?_
    refine x_iconst Γ (v := 0) dX0_settle_53 rfl ?_
    refine x_iast Γ dX0_settle_54 hb6 hC_5 hN.1 (by omega) (by decide) hC_u5 ?_
    refine x_aload_n Γ dX0_settle_55 rfl ?_
    refine x_iload_n Γ dX0_settle_56 rfl ?_
    refine x_iconst Γ (v := 1) dX0_settle_57 rfl ?_
    refine x_iadd Γ dX0_settle_58 ?_
    refine pf_X0_33 Γ dX0_settle_59 hb0 hC_o (Nat.le_of_ble_eq_true rfl) hC_f7 ?_
    exact x_vret ρ dX0_settle_62 (rfl) rfl (by rw [seT, ← nI_1, ← hN.1]; exact zH.rf)
  · rw [hN.1] at c_1
    exact absurd (z_nlt (b := 10) c_1 (by omega) (by omega)) (by omega)

def wtr (T : zT) (x y : Nat) (v : Int32) : Bool := T 5 x = 0 ∧ ¬ T 5 y = 0 ∧ ¬ T 3 x < v ∧ T 3 y + v ≤ 9999 ∧ tw T y (T 5 y) < v ∧ ¬ tw T x (T 5 y) < v
def trT (T : zT) (x y : Nat) (v : Int32) : zT := ts (ts (exT T x y) 3 x (exT T x y 3 x - v)) 3 y (ts (exT T x y) 3 x (exT T x y 3 x - v) 3 y + v)

set_option maxRecDepth 100000 in
set_option maxHeartbeats 4000000 in
theorem m_X0_wouldTrade {g : Nat → zE} {b : Nat} {T : zT} (hb : b + 7 < 46) (x y : Nat) (hx : x < 10) (hy : y < 10) (v : Int32) : zM 2 M_X0_wouldTrade [.ref b, .int (nI x), .int (nI y), .int v] (hC g b T) 46 (some (.int (zb (wtr T x y v)))) (hC g b T) 46 0 0 := by
  refine zM.intro (by decide) (Nat.le_of_ble_eq_true rfl) ?_
  intro Wf V m H0 Γ ρ
  replace Γ : zC Wf V m 4 H0 cX0_wouldTrade RX0 2 0 0 := Γ
  show zX Wf V m 4 H0 0 (zls [(0, .ref b), (1, .int (nI x)), (2, .int (nI y)), (3, .int v)]) [] (hC g b T) 46 0 0
  have hb0 : b < 46 := by omega
  have hb1 : b + 1 < 46 := by omega
  have hb2 : b + 2 < 46 := by omega
  have hb3 : b + 3 < 46 := by omega
  have hb4 : b + 4 < 46 := by omega
  have hb5 : b + 5 < 46 := by omega
  have hb6 : b + 6 < 46 := by omega
  have hb7 : b + 7 < 46 := by omega
  refine x_aload_n Γ dX0_wouldTrade_0 rfl ?_
  refine gf_X0_27 Γ dX0_wouldTrade_1 hb0 hC_o rfl ?_
  refine x_iload_n Γ dX0_wouldTrade_4 rfl ?_
  refine x_iald Γ dX0_wouldTrade_5 hb6 hC_5 rfl (by first | assumption | omega) (by decide) rfl ?_
  refine x_if_ne Γ (tgt := 18) dX0_wouldTrade_6 (by decide) (fun c_1 => ?_) (fun c_1 => ?_)
  · refine x_iconst Γ (v := 0) dX0_wouldTrade_18 rfl ?_
    exact x_iret ρ rfl dX0_wouldTrade_19 (by first | exact zb_nz _ | rfl) (by first | (simp [wtr, zb, *]; done) | (exfalso; simp_all; done) | (simp [wtr, zb, *]; simp only [Int32.lt_iff_toInt_lt, Int32.le_iff_toInt_le, zlt_0, zlt_1, zlt_2, zlt_3, zlt_4, zlt_5, zlt_6, zlt_7, zlt_8, zlt_9, zlt_10, zlt_11, zlt_12, zlt_30, zlt_39, zlt_40, zlt_59, zlt_60, zlt_61, zlt_98, zlt_99, zlt_100, zlt_119, zlt_120, zlt_998, zlt_999, zlt_9998, zlt_9999, zlt_m1] at *; omega)) rfl (zH.rf)
  · refine x_aload_n Γ dX0_wouldTrade_9 rfl ?_
    refine gf_X0_27 Γ dX0_wouldTrade_10 hb0 hC_o rfl ?_
    refine x_iload_n Γ dX0_wouldTrade_13 rfl ?_
    refine x_iald Γ dX0_wouldTrade_14 hb6 hC_5 rfl (by first | assumption | omega) (by decide) rfl ?_
    refine x_if_ne Γ (tgt := 20) dX0_wouldTrade_15 (by decide) (fun c_2 => ?_) (fun c_2 => ?_)
    · refine x_aload_n Γ dX0_wouldTrade_20 rfl ?_
      refine gf_X0_21 Γ dX0_wouldTrade_21 hb0 hC_o rfl ?_
      refine x_iload_n Γ dX0_wouldTrade_24 rfl ?_
      refine x_iald Γ dX0_wouldTrade_25 hb4 hC_3 rfl (by first | assumption | omega) (by decide) rfl ?_
      refine x_iload_n Γ dX0_wouldTrade_26 rfl ?_
      refine x_icmp_lt Γ (tgt := 44) dX0_wouldTrade_27 (by decide) (fun c_3 => ?_) (fun c_3 => ?_)
      · refine x_iconst Γ (v := 0) dX0_wouldTrade_44 rfl ?_
        exact x_iret ρ rfl dX0_wouldTrade_45 (by first | exact zb_nz _ | rfl) (by first | (simp [wtr, zb, *]; done) | (exfalso; simp_all; done) | (simp [wtr, zb, *]; simp only [Int32.lt_iff_toInt_lt, Int32.le_iff_toInt_le, zlt_0, zlt_1, zlt_2, zlt_3, zlt_4, zlt_5, zlt_6, zlt_7, zlt_8, zlt_9, zlt_10, zlt_11, zlt_12, zlt_30, zlt_39, zlt_40, zlt_59, zlt_60, zlt_61, zlt_98, zlt_99, zlt_100, zlt_119, zlt_120, zlt_998, zlt_999, zlt_9998, zlt_9999, zlt_m1] at *; omega)) rfl (zH.rf)
      · refine x_aload_n Γ dX0_wouldTrade_30 rfl ?_
        refine gf_X0_21 Γ dX0_wouldTrade_31 hb0 hC_o rfl ?_
        refine x_iload_n Γ dX0_wouldTrade_34 rfl ?_
        refine x_iald Γ dX0_wouldTrade_35 hb4 hC_3 rfl (by first | assumption | omega) (by decide) rfl ?_
        refine x_iload_n Γ dX0_wouldTrade_36 rfl ?_
        refine x_iadd Γ dX0_wouldTrade_37 ?_
        refine x_sipush Γ (v := 9999) dX0_wouldTrade_38 rfl ?_
        refine x_icmp_le Γ (tgt := 46) dX0_wouldTrade_41 (by decide) (fun c_4 => ?_) (fun c_4 => ?_)
        · refine x_aload_n Γ dX0_wouldTrade_46 rfl ?_
          refine x_iload_n Γ dX0_wouldTrade_47 rfl ?_
          refine x_aload_n Γ dX0_wouldTrade_48 rfl ?_
          refine gf_X0_27 Γ dX0_wouldTrade_49 hb0 hC_o rfl ?_
          refine x_iload_n Γ dX0_wouldTrade_52 rfl ?_
          refine x_iald Γ dX0_wouldTrade_53 hb6 hC_5 rfl (by first | assumption | omega) (by decide) rfl ?_
          refine x_callV Γ calv_X0_tokenWorth wl_X0_88 dX0_wouldTrade_54 (m_X0_tokenWorth (g := g) (T := T) hb y (by omega) (T 5 y)) rfl (by decide) hb0 hC_o rfl rfl rfl (Nat.le_of_ble_eq_true rfl) (Nat.le_refl _) (Nat.le_refl _) ?_
          refine x_iload_n Γ dX0_wouldTrade_57 rfl ?_
          refine x_icmp_ge Γ (tgt := 80) dX0_wouldTrade_58 (by decide) (fun c_5 => ?_) (fun c_5 => ?_)
          · refine x_iconst Γ (v := 0) dX0_wouldTrade_80 rfl ?_
            exact x_iret ρ rfl dX0_wouldTrade_81 (by first | exact zb_nz _ | rfl) (by first | (simp [wtr, zb, *]; done) | (exfalso; simp_all; done) | (simp [wtr, zb, *]; simp only [Int32.lt_iff_toInt_lt, Int32.le_iff_toInt_le, zlt_0, zlt_1, zlt_2, zlt_3, zlt_4, zlt_5, zlt_6, zlt_7, zlt_8, zlt_9, zlt_10, zlt_11, zlt_12, zlt_30, zlt_39, zlt_40, zlt_59, zlt_60, zlt_61, zlt_98, zlt_99, zlt_100, zlt_119, zlt_120, zlt_998, zlt_999, zlt_9998, zlt_9999, zlt_m1] at *; omega)) rfl (zH.rf)
          · refine x_iload_n Γ dX0_wouldTrade_61 rfl ?_
            refine x_aload_n Γ dX0_wouldTrade_62 rfl ?_
            refine x_iload_n Γ dX0_wouldTrade_63 rfl ?_
            refine x_aload_n Γ dX0_wouldTrade_64 rfl ?_
            refine gf_X0_27 Γ dX0_wouldTrade_65 hb0 hC_o rfl ?_
            refine x_iload_n Γ dX0_wouldTrade_68 rfl ?_
            refine x_iald Γ dX0_wouldTrade_69 hb6 hC_5 rfl (by first | assumption | omega) (by decide) rfl ?_
            refine x_callV Γ calv_X0_tokenWorth wl_X0_88 dX0_wouldTrade_70 (m_X0_tokenWorth (g := g) (T := T) hb x (by omega) (T 5 y)) rfl (by decide) hb0 hC_o rfl rfl rfl (Nat.le_of_ble_eq_true rfl) (Nat.le_refl _) (Nat.le_refl _) ?_
            refine x_icmp_gt Γ (tgt := 80) dX0_wouldTrade_73 (by decide) (fun c_6 => ?_) (fun c_6 => ?_)
            · refine x_iconst Γ (v := 0) dX0_wouldTrade_80 rfl ?_
              exact x_iret ρ rfl dX0_wouldTrade_81 (by first | exact zb_nz _ | rfl) (by first | (simp [wtr, zb, *]; done) | (exfalso; simp_all; done) | (simp [wtr, zb, *]; simp only [Int32.lt_iff_toInt_lt, Int32.le_iff_toInt_le, zlt_0, zlt_1, zlt_2, zlt_3, zlt_4, zlt_5, zlt_6, zlt_7, zlt_8, zlt_9, zlt_10, zlt_11, zlt_12, zlt_30, zlt_39, zlt_40, zlt_59, zlt_60, zlt_61, zlt_98, zlt_99, zlt_100, zlt_119, zlt_120, zlt_998, zlt_999, zlt_9998, zlt_9999, zlt_m1] at *; omega)) rfl (zH.rf)
            · refine x_iconst Γ (v := 1) dX0_wouldTrade_76 rfl ?_
              refine x_goto Γ (tgt := 81) dX0_wouldTrade_77 (by decide) ?_
              exact x_iret ρ rfl dX0_wouldTrade_81 (by first | exact zb_nz _ | rfl) (by first | (simp [wtr, zb, *]; done) | (exfalso; simp_all; done) | (simp [wtr, zb, *]; simp only [Int32.lt_iff_toInt_lt, Int32.le_iff_toInt_le, zlt_0, zlt_1, zlt_2, zlt_3, zlt_4, zlt_5, zlt_6, zlt_7, zlt_8, zlt_9, zlt_10, zlt_11, zlt_12, zlt_30, zlt_39, zlt_40, zlt_59, zlt_60, zlt_61, zlt_98, zlt_99, zlt_100, zlt_119, zlt_120, zlt_998, zlt_999, zlt_9998, zlt_9999, zlt_m1] at *; omega)) rfl (zH.rf)
        · refine x_iconst Γ (v := 0) dX0_wouldTrade_44 rfl ?_
          exact x_iret ρ rfl dX0_wouldTrade_45 (by first | exact zb_nz _ | rfl) (by first | (simp [wtr, zb, *]; done) | (exfalso; simp_all; done) | (simp [wtr, zb, *]; simp only [Int32.lt_iff_toInt_lt, Int32.le_iff_toInt_le, zlt_0, zlt_1, zlt_2, zlt_3, zlt_4, zlt_5, zlt_6, zlt_7, zlt_8, zlt_9, zlt_10, zlt_11, zlt_12, zlt_30, zlt_39, zlt_40, zlt_59, zlt_60, zlt_61, zlt_98, zlt_99, zlt_100, zlt_119, zlt_120, zlt_998, zlt_999, zlt_9998, zlt_9999, zlt_m1] at *; omega)) rfl (zH.rf)
    · refine x_iconst Γ (v := 0) dX0_wouldTrade_18 rfl ?_
      exact x_iret ρ rfl dX0_wouldTrade_19 (by first | exact zb_nz _ | rfl) (by first | (simp [wtr, zb, *]; done) | (exfalso; simp_all; done) | (simp [wtr, zb, *]; simp only [Int32.lt_iff_toInt_lt, Int32.le_iff_toInt_le, zlt_0, zlt_1, zlt_2, zlt_3, zlt_4, zlt_5, zlt_6, zlt_7, zlt_8, zlt_9, zlt_10, zlt_11, zlt_12, zlt_30, zlt_39, zlt_40, zlt_59, zlt_60, zlt_61, zlt_98, zlt_99, zlt_100, zlt_119, zlt_120, zlt_998, zlt_999, zlt_9998, zlt_9999, zlt_m1] at *; omega)) rfl (zH.rf)

set_option maxRecDepth 100000 in
set_option maxHeartbeats 4000000 in
theorem m_X0_trade {g : Nat → zE} {b : Nat} {T : zT} (hb : b + 7 < 46) (x y : Nat) (hx : x < 10) (hy : y < 10) (v : Int32) : zM 1 M_X0_trade [.ref b, .int (nI x), .int (nI y), .int v] (hC g b T) 46 (none) (hC g b (trT T x y v)) 46 0 0 := by
  refine zM.intro (by decide) (Nat.le_of_ble_eq_true rfl) ?_
  intro Wf V m H0 Γ ρ
  replace Γ : zC Wf V m 4 H0 cX0_trade RX0 1 0 0 := Γ
  show zX Wf V m 4 H0 0 (zls [(0, .ref b), (1, .int (nI x)), (2, .int (nI y)), (3, .int v)]) [] (hC g b T) 46 0 0
  have hb0 : b < 46 := by omega
  have hb1 : b + 1 < 46 := by omega
  have hb2 : b + 2 < 46 := by omega
  have hb3 : b + 3 < 46 := by omega
  have hb4 : b + 4 < 46 := by omega
  have hb5 : b + 5 < 46 := by omega
  have hb6 : b + 6 < 46 := by omega
  have hb7 : b + 7 < 46 := by omega
  refine x_aload_n Γ dX0_trade_0 rfl ?_
  refine x_iload_n Γ dX0_trade_1 rfl ?_
  refine x_iload_n Γ dX0_trade_2 rfl ?_
  refine x_callVv Γ calv_X0_exchange wl_X0_84 dX0_trade_3 (m_X0_exchange (g := g) (T := T) hb x y hx hy) rfl (by decide) hb0 hC_o rfl rfl rfl (Nat.le_of_ble_eq_true rfl) (Nat.le_refl _) (Nat.le_refl _) ?_
  refine x_aload_n Γ dX0_trade_6 rfl ?_
  refine gf_X0_21 Γ dX0_trade_7 hb0 hC_o rfl ?_
  refine x_iload_n Γ dX0_trade_10 rfl ?_
  refine x_dup2 Γ dX0_trade_11 rfl rfl ?_
  refine x_iald Γ dX0_trade_12 hb4 hC_3 rfl (by first | assumption | omega) (by decide) rfl ?_
  refine x_iload_n Γ dX0_trade_13 rfl ?_
  refine x_isub Γ dX0_trade_14 ?_
  refine x_iast Γ dX0_trade_15 hb4 hC_3 rfl (by first | assumption | omega) (by decide) hC_u3 ?_
  refine x_aload_n Γ dX0_trade_16 rfl ?_
  refine gf_X0_21 Γ dX0_trade_17 hb0 hC_o rfl ?_
  refine x_iload_n Γ dX0_trade_20 rfl ?_
  refine x_dup2 Γ dX0_trade_21 rfl rfl ?_
  refine x_iald Γ dX0_trade_22 hb4 hC_3 rfl (by first | assumption | omega) (by decide) rfl ?_
  refine x_iload_n Γ dX0_trade_23 rfl ?_
  refine x_iadd Γ dX0_trade_24 ?_
  refine x_iast Γ dX0_trade_25 hb4 hC_3 rfl (by first | assumption | omega) (by decide) hC_u3 ?_
  exact x_vret ρ dX0_trade_26 (rfl) rfl (by rw [trT]; exact zH.rf)

set_option maxRecDepth 100000 in
set_option maxHeartbeats 4000000 in
theorem m_bitCount {h : Nat → zE} {k : Nat} (hk : k < 1024) : zM 0 M_J6_bitCount_0f7a4 [.int (nI k)] (h) 46 (some (.int (many (nI k)))) (h) 46 0 0 := by
  refine zM.intro (by decide) (Nat.le_of_ble_eq_true rfl) ?_
  intro Wf V m H0 Γ ρ
  replace Γ : zC Wf V m 1 H0 cJ6_bitCount_0f7a4 RJ6 0 0 0 := Γ
  show zX Wf V m 1 H0 0 (zls [(0, .int (nI k))]) [] (h) 46 0 0
  refine x_iload_n Γ dJ6_bitCount_0f7a4_0 rfl ?_
  refine x_iload_n Γ dJ6_bitCount_0f7a4_1 rfl ?_
  refine x_iconst Γ (v := 1) dJ6_bitCount_0f7a4_2 rfl ?_
  refine x_iushr Γ dJ6_bitCount_0f7a4_3 ?_
  refine x_ldcw Γ wl_J6_265 dJ6_bitCount_0f7a4_4 ?_
  refine x_iand Γ dJ6_bitCount_0f7a4_7 ?_
  refine x_isub Γ dJ6_bitCount_0f7a4_8 ?_
  refine x_istore_n Γ dJ6_bitCount_0f7a4_9 (by decide) ?_
  refine x_iload_n Γ dJ6_bitCount_0f7a4_10 rfl ?_
  refine x_ldcw Γ wl_J6_266 dJ6_bitCount_0f7a4_11 ?_
  refine x_iand Γ dJ6_bitCount_0f7a4_14 ?_
  refine x_iload_n Γ dJ6_bitCount_0f7a4_15 rfl ?_
  refine x_iconst Γ (v := 2) dJ6_bitCount_0f7a4_16 rfl ?_
  refine x_iushr Γ dJ6_bitCount_0f7a4_17 ?_
  refine x_ldcw Γ wl_J6_266 dJ6_bitCount_0f7a4_18 ?_
  refine x_iand Γ dJ6_bitCount_0f7a4_21 ?_
  refine x_iadd Γ dJ6_bitCount_0f7a4_22 ?_
  refine x_istore_n Γ dJ6_bitCount_0f7a4_23 (by decide) ?_
  refine x_iload_n Γ dJ6_bitCount_0f7a4_24 rfl ?_
  refine x_iload_n Γ dJ6_bitCount_0f7a4_25 rfl ?_
  refine x_iconst Γ (v := 4) dJ6_bitCount_0f7a4_26 rfl ?_
  refine x_iushr Γ dJ6_bitCount_0f7a4_27 ?_
  refine x_iadd Γ dJ6_bitCount_0f7a4_28 ?_
  refine x_ldcw Γ wl_J6_267 dJ6_bitCount_0f7a4_29 ?_
  refine x_iand Γ dJ6_bitCount_0f7a4_32 ?_
  refine x_istore_n Γ dJ6_bitCount_0f7a4_33 (by decide) ?_
  refine x_iload_n Γ dJ6_bitCount_0f7a4_34 rfl ?_
  refine x_iload_n Γ dJ6_bitCount_0f7a4_35 rfl ?_
  refine x_bipush Γ (v := 8) dJ6_bitCount_0f7a4_36 rfl ?_
  refine x_iushr Γ dJ6_bitCount_0f7a4_38 ?_
  refine x_iadd Γ dJ6_bitCount_0f7a4_39 ?_
  refine x_istore_n Γ dJ6_bitCount_0f7a4_40 (by decide) ?_
  refine x_iload_n Γ dJ6_bitCount_0f7a4_41 rfl ?_
  refine x_iload_n Γ dJ6_bitCount_0f7a4_42 rfl ?_
  refine x_bipush Γ (v := 16) dJ6_bitCount_0f7a4_43 rfl ?_
  refine x_iushr Γ dJ6_bitCount_0f7a4_45 ?_
  refine x_iadd Γ dJ6_bitCount_0f7a4_46 ?_
  refine x_istore_n Γ dJ6_bitCount_0f7a4_47 (by decide) ?_
  refine x_iload_n Γ dJ6_bitCount_0f7a4_48 rfl ?_
  refine x_bipush Γ (v := 63) dJ6_bitCount_0f7a4_49 rfl ?_
  refine x_iand Γ dJ6_bitCount_0f7a4_51 ?_
  exact x_iret ρ rfl dJ6_bitCount_0f7a4_52 rfl (by rw [← zbc_many k hk]; rfl) rfl (zH.rf)
