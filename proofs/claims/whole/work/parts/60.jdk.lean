set_option maxRecDepth 100000 in
set_option maxHeartbeats 4000000 in
theorem m_J0_coder_7d493 {h : Nat → zE} {i : Nat} (hi : i < 36) : zM 0 M_J0_coder_7d493 [.ref (1000 + i)] (h) 46 (some (.int 0)) (h) 46 0 0 := by
  refine zM.intro (by decide) (Nat.le_of_ble_eq_true rfl) ?_
  intro Wf V m H0 Γ ρ
  replace Γ : zC Wf V m 1 H0 cJ0_coder_7d493 RJ0 0 0 0 := Γ
  show zX Wf V m 1 H0 0 (zls [(0, .ref (1000 + i))]) [] (h) 46 0 0
  refine x_cmp1 Γ dJ0_coder_7d493_0 ?_
  refine x_if_eq Γ (tgt := 13) dJ0_coder_7d493_3 (by decide) (fun c_1 => ?_) (fun c_1 => ?_)
  · exact absurd c_1 (by decide)
  · refine x_aload_n Γ dJ0_coder_7d493_6 rfl ?_
    refine x_sgc Γ hi dJ0_coder_7d493_7 ?_
    refine x_goto Γ (tgt := 14) dJ0_coder_7d493_10 (by decide) ?_
    exact x_iret ρ rfl dJ0_coder_7d493_14 rfl (rfl) rfl (zH.rf)

set_option maxRecDepth 100000 in
set_option maxHeartbeats 4000000 in
theorem m_J0_isLatin1_aae02 {h : Nat → zE} {i : Nat} (hi : i < 36) : zM 0 M_J0_isLatin1_aae02 [.ref (1000 + i)] (h) 46 (some (.int 1)) (h) 46 0 0 := by
  refine zM.intro (by decide) (Nat.le_of_ble_eq_true rfl) ?_
  intro Wf V m H0 Γ ρ
  replace Γ : zC Wf V m 1 H0 cJ0_isLatin1_aae02 RJ0 0 0 0 := Γ
  show zX Wf V m 1 H0 0 (zls [(0, .ref (1000 + i))]) [] (h) 46 0 0
  refine x_cmp1 Γ dJ0_isLatin1_aae02_0 ?_
  refine x_if_eq Γ (tgt := 17) dJ0_isLatin1_aae02_3 (by decide) (fun c_1 => ?_) (fun c_1 => ?_)
  · exact absurd c_1 (by decide)
  · refine x_aload_n Γ dJ0_isLatin1_aae02_6 rfl ?_
    refine x_sgc Γ hi dJ0_isLatin1_aae02_7 ?_
    refine x_if_ne Γ (tgt := 17) dJ0_isLatin1_aae02_10 (by decide) (fun c_2 => ?_) (fun c_2 => ?_)
    · exact absurd rfl c_2
    · refine x_iconst Γ (v := 1) dJ0_isLatin1_aae02_13 rfl ?_
      refine x_goto Γ (tgt := 18) dJ0_isLatin1_aae02_14 (by decide) ?_
      exact x_iret ρ rfl dJ0_isLatin1_aae02_18 (by first | exact zb_nz _ | rfl) (rfl) rfl (zH.rf)

set_option maxRecDepth 100000 in
set_option maxHeartbeats 4000000 in
theorem m_J0_length_8abf5 {h : Nat → zE} {i : Nat} (hi : i < 36) : zM 1 M_J0_length_8abf5 [.ref (1000 + i)] (h) 46 (some (.int (nI (byt i).length))) (h) 46 0 0 := by
  refine zM.intro (by decide) (Nat.le_of_ble_eq_true rfl) ?_
  intro Wf V m H0 Γ ρ
  replace Γ : zC Wf V m 1 H0 cJ0_length_8abf5 RJ0 1 0 0 := Γ
  show zX Wf V m 1 H0 0 (zls [(0, .ref (1000 + i))]) [] (h) 46 0 0
  have hlen : (byt i).length < 8 := byt_len ⟨i, hi⟩
  refine x_aload_n Γ dJ0_length_8abf5_0 rfl ?_
  refine x_sgv Γ hi dJ0_length_8abf5_1 ?_
  refine x_sln Γ hi dJ0_length_8abf5_4 ?_
  refine x_aload_n Γ dJ0_length_8abf5_5 rfl ?_
  refine x_callVs Γ calv_J0_coder_7d493 wl_J0_335 dJ0_length_8abf5_6 (m_J0_coder_7d493 hi) rfl (by decide) hi rfl rfl (Nat.le_of_ble_eq_true rfl) (Nat.le_refl _) (Nat.le_refl _) ?_
  refine x_ishr Γ dJ0_length_8abf5_9 ?_
  exact x_iret ρ rfl dJ0_length_8abf5_10 rfl (by rw [pk_shrN (by omega) _ 0 (by decide)]; simp) rfl (zH.rf)

set_option maxRecDepth 100000 in
set_option maxHeartbeats 4000000 in
theorem m_J3_chk_n {h : Nat → zE} {j N : Nat} (hj : j < N) (hN : N < 2 ^ 31) : zM 1 M_J3_checkIndex_8e157 [.int (nI j), .int (nI N), .null] (h) 46 (some (.int (nI j))) (h) 46 0 0 := by
  refine zM.intro (by decide) (Nat.le_of_ble_eq_true rfl) ?_
  intro Wf V m H0 Γ ρ
  replace Γ : zC Wf V m 3 H0 cJ3_checkIndex_8e157 RJ3 1 0 0 := Γ
  show zX Wf V m 3 H0 0 (zls [(0, .int (nI j)), (1, .int (nI N)), (2, .null)]) [] (h) 46 0 0
  refine x_iload_n Γ dJ3_checkIndex_8e157_0 rfl ?_
  refine x_if_lt Γ (tgt := 9) dJ3_checkIndex_8e157_1 (by decide) (fun c_1 => ?_) (fun c_1 => ?_)
  · exact absurd c_1 (nI_pos (by omega))
  · refine x_iload_n Γ dJ3_checkIndex_8e157_4 rfl ?_
    refine x_iload_n Γ dJ3_checkIndex_8e157_5 rfl ?_
    refine x_icmp_lt Γ (tgt := 16) dJ3_checkIndex_8e157_6 (by decide) (fun c_2 => ?_) (fun c_2 => ?_)
    · refine x_iload_n Γ dJ3_checkIndex_8e157_16 rfl ?_
      exact x_iret ρ rfl dJ3_checkIndex_8e157_17 rfl (rfl) rfl (zH.rf)
    · exact absurd ((nI_ltI (by omega) (by omega)).mpr hj) c_2

set_option maxRecDepth 100000 in
set_option maxHeartbeats 4000000 in
theorem m_J3_chk_r {h : Nat → zE} {j N : Nat} (hj : j < N) (hN : N < 2 ^ 31) : zM 1 M_J3_checkIndex_8e157 [.int (nI j), .int (nI N), .ref 4000] (h) 46 (some (.int (nI j))) (h) 46 0 0 := by
  refine zM.intro (by decide) (Nat.le_of_ble_eq_true rfl) ?_
  intro Wf V m H0 Γ ρ
  replace Γ : zC Wf V m 3 H0 cJ3_checkIndex_8e157 RJ3 1 0 0 := Γ
  show zX Wf V m 3 H0 0 (zls [(0, .int (nI j)), (1, .int (nI N)), (2, .ref 4000)]) [] (h) 46 0 0
  refine x_iload_n Γ dJ3_checkIndex_8e157_0 rfl ?_
  refine x_if_lt Γ (tgt := 9) dJ3_checkIndex_8e157_1 (by decide) (fun c_1 => ?_) (fun c_1 => ?_)
  · exact absurd c_1 (nI_pos (by omega))
  · refine x_iload_n Γ dJ3_checkIndex_8e157_4 rfl ?_
    refine x_iload_n Γ dJ3_checkIndex_8e157_5 rfl ?_
    refine x_icmp_lt Γ (tgt := 16) dJ3_checkIndex_8e157_6 (by decide) (fun c_2 => ?_) (fun c_2 => ?_)
    · refine x_iload_n Γ dJ3_checkIndex_8e157_16 rfl ?_
      exact x_iret ρ rfl dJ3_checkIndex_8e157_17 rfl (rfl) rfl (zH.rf)
    · exact absurd ((nI_ltI (by omega) (by omega)).mpr hj) c_2

set_option maxRecDepth 100000 in
set_option maxHeartbeats 4000000 in
theorem m_J0_checkIndex_df160 {h : Nat → zE} {j N : Nat} (hj : j < N) (hN : N < 2 ^ 31) : zM 2 M_J0_checkIndex_df160 [.int (nI j), .int (nI N)] (h) 46 (none) (h) 46 0 0 := by
  refine zM.intro (by decide) (Nat.le_of_ble_eq_true rfl) ?_
  intro Wf V m H0 Γ ρ
  replace Γ : zC Wf V m 2 H0 cJ0_checkIndex_df160 RJ0 2 0 0 := Γ
  show zX Wf V m 2 H0 0 (zls [(0, .int (nI j)), (1, .int (nI N))]) [] (h) 46 0 0
  refine x_iload_n Γ dJ0_checkIndex_df160_0 rfl ?_
  refine x_iload_n Γ dJ0_checkIndex_df160_1 rfl ?_
  refine x_sio Γ dJ0_checkIndex_df160_2 ?_ ?_
  · refine x_callS Γ cals_J3_checkIndex_8e157 wl_J0_1059 dJ0_checkIndex_df160_5 (m_J3_chk_n hj hN) rfl (by decide) rfl (Nat.le_of_ble_eq_true rfl) (Nat.le_refl _) (Nat.le_refl _) ?_
    refine x_pop Γ dJ0_checkIndex_df160_8 rfl ?_
    exact x_vret ρ dJ0_checkIndex_df160_9 rfl rfl zH.rf
  · refine x_callS Γ cals_J3_checkIndex_8e157 wl_J0_1059 dJ0_checkIndex_df160_5 (m_J3_chk_r hj hN) rfl (by decide) rfl (Nat.le_of_ble_eq_true rfl) (Nat.le_refl _) (Nat.le_refl _) ?_
    refine x_pop Γ dJ0_checkIndex_df160_8 rfl ?_
    exact x_vret ρ dJ0_checkIndex_df160_9 rfl rfl zH.rf

set_option maxRecDepth 100000 in
set_option maxHeartbeats 4000000 in
theorem m_J1_charAt_3b067 {h : Nat → zE} {i j : Nat} (hi : i < 36) (hj : j < (byt i).length) : zM 3 M_J1_charAt_3b067 [.ref (2000 + i), .int (nI j)] (h) 46 (some (.int ((byt i).getD j 0))) (h) 46 0 0 := by
  refine zM.intro (by decide) (Nat.le_of_ble_eq_true rfl) ?_
  intro Wf V m H0 Γ ρ
  replace Γ : zC Wf V m 2 H0 cJ1_charAt_3b067 RJ1 3 0 0 := Γ
  show zX Wf V m 2 H0 0 (zls [(0, .ref (2000 + i)), (1, .int (nI j))]) [] (h) 46 0 0
  have hlen : (byt i).length < 8 := byt_len ⟨i, hi⟩
  have hok := byt_ok ⟨i, hi⟩ ⟨j, by omega⟩ hj
  refine x_iload_n Γ dJ1_charAt_3b067_0 rfl ?_
  refine x_aload_n Γ dJ1_charAt_3b067_1 rfl ?_
  refine x_sln Γ hi dJ1_charAt_3b067_2 ?_
  refine x_callSv Γ cals_J0_checkIndex_df160 wl_J1_9 dJ1_charAt_3b067_3 (m_J0_checkIndex_df160 hj (by omega)) rfl (by decide) rfl (Nat.le_of_ble_eq_true rfl) (Nat.le_refl _) (Nat.le_refl _) ?_
  refine x_aload_n Γ dJ1_charAt_3b067_6 rfl ?_
  refine x_iload_n Γ dJ1_charAt_3b067_7 rfl ?_
  refine x_sbald Γ hi hj dJ1_charAt_3b067_8 ?_
  refine x_sipush Γ (v := 255) dJ1_charAt_3b067_9 rfl ?_
  refine x_iand Γ dJ1_charAt_3b067_12 ?_
  refine x_i2c Γ dJ1_charAt_3b067_13 ?_
  exact x_iret ρ rfl dJ1_charAt_3b067_14 (by rw [hok.1]; exact hok.2) (zsi hok.1.symm) rfl zH.rf

set_option maxRecDepth 100000 in
set_option maxHeartbeats 4000000 in
theorem m_J0_charAt_5068e {h : Nat → zE} {i j : Nat} (hi : i < 36) (hj : j < (byt i).length) : zM 5 M_J0_charAt_5068e [.ref (1000 + i), .int (nI j)] (h) 46 (some (.int ((byt i).getD j 0))) (h) 46 0 0 := by
  refine zM.intro (by decide) (Nat.le_of_ble_eq_true rfl) ?_
  intro Wf V m H0 Γ ρ
  replace Γ : zC Wf V m 2 H0 cJ0_charAt_5068e RJ0 5 0 0 := Γ
  show zX Wf V m 2 H0 0 (zls [(0, .ref (1000 + i)), (1, .int (nI j))]) [] (h) 46 0 0
  have hlen : (byt i).length < 8 := byt_len ⟨i, hi⟩
  have hok := byt_ok ⟨i, hi⟩ ⟨j, by omega⟩ hj
  refine x_aload_n Γ dJ0_charAt_5068e_0 rfl ?_
  refine x_callVs Γ calv_J0_isLatin1_aae02 wl_J0_492 dJ0_charAt_5068e_1 (m_J0_isLatin1_aae02 hi) rfl (by decide) hi rfl rfl (Nat.le_of_ble_eq_true rfl) (Nat.le_refl _) (Nat.le_refl _) ?_
  refine x_if_eq Γ (tgt := 16) dJ0_charAt_5068e_4 (by decide) (fun c_1 => ?_) (fun c_1 => ?_)
  · exact absurd c_1 (by decide)
  · refine x_aload_n Γ dJ0_charAt_5068e_7 rfl ?_
    refine x_sgv Γ hi dJ0_charAt_5068e_8 ?_
    refine x_iload_n Γ dJ0_charAt_5068e_11 rfl ?_
    refine x_callS Γ cals_J1_charAt_3b067 wl_J0_495 dJ0_charAt_5068e_12 (m_J1_charAt_3b067 hi hj) rfl (by decide) rfl (Nat.le_of_ble_eq_true rfl) (Nat.le_refl _) (Nat.le_refl _) ?_
    exact x_iret ρ rfl dJ0_charAt_5068e_15 hok.2 rfl rfl zH.rf
