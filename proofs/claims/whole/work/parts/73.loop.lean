section ZLX
variable {Wf : zW} {V : zG} {m : MethodId} {H0 : Heap} {L : Nat} {xs : Nat → Int32} {g : Nat → zE}
theorem sw_in (y : Int32) : (y.toInt < 0 ∨ 45 < y.toInt) ∨ ∃ j, j < 46 ∧ y = nI j := by
  by_cases h : y.toInt < 0 ∨ 45 < y.toInt
  · exact Or.inl h
  · refine Or.inr ?_
    have h0 : ¬ y < 0 := fun z => h (Or.inl (by rw [Int32.lt_iff_toInt_lt, zlt_0] at z; exact z))
    obtain ⟨j, hj, rfl⟩ := nI_of h0
    rw [nI_toInt hj] at h
    exact ⟨j, by omega, rfl⟩
theorem len_6 {L i : Nat} (hL : L ≤ 3072) (hi : i ≤ L) (h : nI i ≤ nI L - 6) : i + 6 ≤ L := by
  by_cases h6 : 6 ≤ L
  · obtain ⟨K, rfl⟩ : ∃ K, L = K + 6 := ⟨L - 6, by omega⟩
    have e : nI (K + 6) - 6 = nI K := by
      rw [← nI_add K 6]
      exact Int32.add_sub_cancel (nI K) 6
    rw [e] at h
    have := z_le h (by omega) (by omega)
    omega
  · exfalso
    have h0 : 0 ≤ nI i := nI_pos' (by omega)
    have h1 : ¬ (0 : Int32) ≤ nI L - 6 := by
      match L, h6 with
      | 0, _ => decide
      | 1, _ => decide
      | 2, _ => decide
      | 3, _ => decide
      | 4, _ => decide
      | 5, _ => decide
      | L + 6, h6 => exact absurd (by omega) h6
    exact h1 (Int32.le_trans h0 h)

set_option maxRecDepth 100000 in
set_option maxHeartbeats 4000000 in
theorem la_loop (Γl : zCl Wf V m H0 L xs) (hL : L ≤ 3072) (hend : ∀ (f : Nat → Option Value) (h : Nat → zE), zX Wf V m 4 H0 1401 f [.int 1] h 46 46 1123) : ∀ (k i : Nat) (h : Nat → zE), i ≤ L → L - i < k → wQ g h → zX Wf V m 4 H0 18 (zls [(0, .ref 5000), (1, .ref 0), (2, .ref 37), (3, .int (nI i))]) [] h 46 46 1123 := by
  have Γ := Γl.z
  intro k
  induction k with
  | zero => intro i h h1 h2; omega
  | succ k ih =>
    intro i h h1 h2 hq
    refine x_iload_n Γ dL_law_18 rfl ?_
    refine x_aload_n Γ dL_law_19 rfl ?_
    refine x_slen Γl dL_law_20 ?_
    refine x_bipush Γ (v := 6) dL_law_21 rfl ?_
    refine x_isub Γ dL_law_23 ?_
    refine x_icmp_gt Γ (tgt := 1400) dL_law_24 (by decide) (fun _ => ?_) (fun c => ?_)
    · refine x_iconst Γ (v := 1) dL_law_1400 rfl ?_
      exact hend _ _
    have hi : i + 6 ≤ L := len_6 hL h1 (Int32.not_lt.mp c)
    refine x_aload_n Γ dL_law_27 rfl ?_
    refine x_iload_n Γ dL_law_28 rfl ?_
    refine x_sld Γl (j := i) hL dL_law_29 rfl (by omega) ?_
    refine x_bipush Γ (v := 63) dL_law_30 rfl ?_
    refine x_iand Γ dL_law_32 ?_
    have kk : ∀ h', wQ g h' → zX Wf V m 4 H0 1394 (zls [(0, .ref 5000), (1, .ref 0), (2, .ref 37), (3, .int (nI i))]) [] h' 46 46 1123 := by
      intro h' hq'
      refine x_iinc Γ (v := nI (i + 6)) dL_law_1394 rfl (nI_add i 6) (by decide) ?_
      refine x_goto Γ (tgt := 18) dL_law_1397 (by decide) ?_
      exact x_subl [(0, .ref 5000), (1, .ref 0), (2, .ref 37), (3, .int (nI (i + 6)))] (List.forall_mem_cons.mpr ⟨rfl, List.forall_mem_cons.mpr ⟨rfl, List.forall_mem_cons.mpr ⟨rfl, List.forall_mem_cons.mpr ⟨rfl, fun _ hz => absurd hz List.not_mem_nil⟩⟩⟩⟩) (ih (i + 6) h' (by omega) (by omega) hq')
    generalize xs i &&& 63 = y
    rcases sw_in y with z | ⟨j, hj, rfl⟩
    · exact x_tout Γ (tgt := 1394) dL_law_33 z (by decide) (kk h hq)
    · match j, hj with
      | 0, _ => exact x_tin Γ (off := 199) (tgt := 232) dL_law_33 (by decide) (by decide) rfl (by decide) (la_0 Γl hL hi hq kk)
      | 1, _ => exact x_tin Γ (off := 222) (tgt := 255) dL_law_33 (by decide) (by decide) rfl (by decide) (la_1 Γl hL hi hq kk)
      | 2, _ => exact x_tin Γ (off := 255) (tgt := 288) dL_law_33 (by decide) (by decide) rfl (by decide) (la_2 Γl hL hi hq kk)
      | 3, _ => exact x_tin Γ (off := 298) (tgt := 331) dL_law_33 (by decide) (by decide) rfl (by decide) (la_3 Γl hL hi hq kk)
      | 4, _ => exact x_tin Γ (off := 331) (tgt := 364) dL_law_33 (by decide) (by decide) rfl (by decide) (la_4 Γl hL hi hq kk)
      | 5, _ => exact x_tin Γ (off := 354) (tgt := 387) dL_law_33 (by decide) (by decide) rfl (by decide) (la_5 Γl hL hi hq kk)
      | 6, _ => exact x_tin Γ (off := 377) (tgt := 410) dL_law_33 (by decide) (by decide) rfl (by decide) (la_6 Γl hL hi hq kk)
      | 7, _ => exact x_tin Γ (off := 410) (tgt := 443) dL_law_33 (by decide) (by decide) rfl (by decide) (la_7 Γl hL hi hq kk)
      | 8, _ => exact x_tin Γ (off := 423) (tgt := 456) dL_law_33 (by decide) (by decide) rfl (by decide) (la_8 Γl hL hi hq kk)
      | 9, _ => exact x_tin Γ (off := 436) (tgt := 469) dL_law_33 (by decide) (by decide) rfl (by decide) (la_9 Γl hL hi hq kk)
      | 10, _ => exact x_tin Γ (off := 479) (tgt := 512) dL_law_33 (by decide) (by decide) rfl (by decide) (la_10 Γl hL hi hq kk)
      | 11, _ => exact x_tin Γ (off := 492) (tgt := 525) dL_law_33 (by decide) (by decide) rfl (by decide) (la_11 Γl hL hi hq kk)
      | 12, _ => exact x_tin Γ (off := 505) (tgt := 538) dL_law_33 (by decide) (by decide) rfl (by decide) (la_12 Γl hL hi hq kk)
      | 13, _ => exact x_tin Γ (off := 518) (tgt := 551) dL_law_33 (by decide) (by decide) rfl (by decide) (la_13 Γl hL hi hq kk)
      | 14, _ => exact x_tin Γ (off := 541) (tgt := 574) dL_law_33 (by decide) (by decide) rfl (by decide) (la_14 Γl hL hi hq kk)
      | 15, _ => exact x_tin Γ (off := 574) (tgt := 607) dL_law_33 (by decide) (by decide) rfl (by decide) (la_15 Γl hL hi hq kk)
      | 16, _ => exact x_tin Γ (off := 587) (tgt := 620) dL_law_33 (by decide) (by decide) rfl (by decide) (la_16 Γl hL hi hq kk)
      | 17, _ => exact x_tin Γ (off := 610) (tgt := 643) dL_law_33 (by decide) (by decide) rfl (by decide) (la_17 Γl hL hi hq kk)
      | 18, _ => exact x_tin Γ (off := 633) (tgt := 666) dL_law_33 (by decide) (by decide) rfl (by decide) (la_18 Γl hL hi hq kk)
      | 19, _ => exact x_tin Γ (off := 656) (tgt := 689) dL_law_33 (by decide) (by decide) rfl (by decide) (la_19 Γl hL hi hq kk)
      | 20, _ => exact x_tin Γ (off := 679) (tgt := 712) dL_law_33 (by decide) (by decide) rfl (by decide) (la_20 Γl hL hi hq kk)
      | 21, _ => exact x_tin Γ (off := 712) (tgt := 745) dL_law_33 (by decide) (by decide) rfl (by decide) (la_21 Γl hL hi hq kk)
      | 22, _ => exact x_tin Γ (off := 745) (tgt := 778) dL_law_33 (by decide) (by decide) rfl (by decide) (la_22 Γl hL hi hq kk)
      | 23, _ => exact x_tin Γ (off := 768) (tgt := 801) dL_law_33 (by decide) (by decide) rfl (by decide) (la_23 Γl hL hi hq kk)
      | 24, _ => exact x_tin Γ (off := 791) (tgt := 824) dL_law_33 (by decide) (by decide) rfl (by decide) (la_24 Γl hL hi hq kk)
      | 25, _ => exact x_tin Γ (off := 824) (tgt := 857) dL_law_33 (by decide) (by decide) rfl (by decide) (la_25 Γl hL hi hq kk)
      | 26, _ => exact x_tin Γ (off := 838) (tgt := 871) dL_law_33 (by decide) (by decide) rfl (by decide) (la_26 Γl hL hi hq kk)
      | 27, _ => exact x_tin Γ (off := 862) (tgt := 895) dL_law_33 (by decide) (by decide) rfl (by decide) (la_27 Γl hL hi hq kk)
      | 28, _ => exact x_tin Γ (off := 886) (tgt := 919) dL_law_33 (by decide) (by decide) rfl (by decide) (la_28 Γl hL hi hq kk)
      | 29, _ => exact x_tin Γ (off := 909) (tgt := 942) dL_law_33 (by decide) (by decide) rfl (by decide) (la_29 Γl hL hi hq kk)
      | 30, _ => exact x_tin Γ (off := 932) (tgt := 965) dL_law_33 (by decide) (by decide) rfl (by decide) (la_30 Γl hL hi hq kk)
      | 31, _ => exact x_tin Γ (off := 965) (tgt := 998) dL_law_33 (by decide) (by decide) rfl (by decide) (la_31 Γl hL hi hq kk)
      | 32, _ => exact x_tin Γ (off := 978) (tgt := 1011) dL_law_33 (by decide) (by decide) rfl (by decide) (la_32 Γl hL hi hq kk)
      | 33, _ => exact x_tin Γ (off := 991) (tgt := 1024) dL_law_33 (by decide) (by decide) rfl (by decide) (la_33 Γl hL hi hq kk)
      | 34, _ => exact x_tin Γ (off := 1024) (tgt := 1057) dL_law_33 (by decide) (by decide) rfl (by decide) (la_34 Γl hL hi hq kk)
      | 35, _ => exact x_tin Γ (off := 1057) (tgt := 1090) dL_law_33 (by decide) (by decide) rfl (by decide) (la_35 Γl hL hi hq kk)
      | 36, _ => exact x_tin Γ (off := 1100) (tgt := 1133) dL_law_33 (by decide) (by decide) rfl (by decide) (la_36 Γl hL hi hq kk)
      | 37, _ => exact x_tin Γ (off := 1143) (tgt := 1176) dL_law_33 (by decide) (by decide) rfl (by decide) (la_37 Γl hL hi hq kk)
      | 38, _ => exact x_tin Γ (off := 1206) (tgt := 1239) dL_law_33 (by decide) (by decide) rfl (by decide) (la_38 Γl hL hi hq kk)
      | 39, _ => exact x_tin Γ (off := 1229) (tgt := 1262) dL_law_33 (by decide) (by decide) rfl (by decide) (la_39 Γl hL hi hq kk)
      | 40, _ => exact x_tin Γ (off := 1253) (tgt := 1286) dL_law_33 (by decide) (by decide) rfl (by decide) (la_40 Γl hL hi hq kk)
      | 41, _ => exact x_tin Γ (off := 1276) (tgt := 1309) dL_law_33 (by decide) (by decide) rfl (by decide) (la_41 Γl hL hi hq kk)
      | 42, _ => exact x_tin Γ (off := 1289) (tgt := 1322) dL_law_33 (by decide) (by decide) rfl (by decide) (la_42 Γl hL hi hq kk)
      | 43, _ => exact x_tin Γ (off := 1302) (tgt := 1335) dL_law_33 (by decide) (by decide) rfl (by decide) (la_43 Γl hL hi hq kk)
      | 44, _ => exact x_tin Γ (off := 1315) (tgt := 1348) dL_law_33 (by decide) (by decide) rfl (by decide) (la_44 Γl hL hi hq kk)
      | 45, _ => exact x_tin Γ (off := 1338) (tgt := 1371) dL_law_33 (by decide) (by decide) rfl (by decide) (la_45 Γl hL hi hq kk)
      | q + 46, hj => exact absurd hj (by omega)

set_option maxRecDepth 100000 in
set_option maxHeartbeats 4000000 in
theorem la_start (Γl : zCl Wf V m H0 L xs) (hL3 : L ≤ 3072) (hend : ∀ (f : Nat → Option Value) (h : Nat → zE), zX Wf V m 4 H0 1401 f [.int 1] h 46 46 1123) (h : Nat → zE) : zX Wf V m 4 H0 0 (zls [(0, .ref 5000)]) [] h 0 0 0 := by
  have Γ := Γl.z
  refine x_new Γ (ci := 3) (fs := [.null, .null, .null, .null, .null, .null, .int 0]) wu_X3 tyX3 tyX3_ok rfl wl_L_7 wins_X3 wn_X3 (fun _ => rfl) dL_law_0 (by omega) (Nat.le_of_ble_eq_true rfl) (Nat.le_of_ble_eq_true rfl) rfl ?_
  refine x_congr (h' := hL (pE ++ [zO 3 [.null, .null, .null, .null, .null, .null, .int 0]])) (fun q hq => ?_) ?_
  · obtain rfl : q = 0 := by omega
    exact Or.inl rfl
  refine x_dup Γ dL_law_3 rfl ?_
  refine x_callI Γ cal_X3_init rfl wi_X3_init wl_L_9 dL_law_4 m_X3_init (Nat.le_of_ble_eq_true rfl) (Nat.le_of_ble_eq_true rfl) (Nat.le_of_ble_eq_true rfl) (Nat.le_of_ble_eq_true rfl) ?_
  refine x_astore_n Γ dL_law_7 (by decide) ?_
  refine x_heap (h' := hL (L37 ++ [])) rfl ?_
  refine x_new Γ (ci := 4) (fs := [.null, .null, .null, .int 0, .null, .int 0, .int 0, .null, .int 0, .int 0, .int 0, .int 0, .int 0, .int 0, .null, .null, .null]) wu_X4 tyX4 tyX4_ok rfl wl_L_10 wins_X4 wn_X4 (fun _ => rfl) dL_law_8 (by omega) (Nat.le_of_ble_eq_true rfl) (Nat.le_of_ble_eq_true rfl) (hL_push (j := 0) (b := 37) rfl rfl) ?_
  refine x_dup Γ dL_law_11 rfl ?_
  refine x_callI Γ cal_X4_init rfl wi_X4_init wl_L_12 dL_law_12 (m_X4_init (b := 37) (p := L37) rfl (by decide)) (Nat.le_of_ble_eq_true rfl) (Nat.le_of_ble_eq_true rfl) (Nat.le_of_ble_eq_true rfl) (Nat.le_of_ble_eq_true rfl) ?_
  refine x_astore_n Γ dL_law_15 (by decide) ?_
  refine x_iconst Γ (v := 0) dL_law_16 rfl ?_
  refine x_istore_n Γ dL_law_17 (by decide) ?_
  refine x_congr (wQ_0 (g := fun _ => zI 0 (fun _ => 0))) ?_
  exact x_subl [(0, .ref 5000), (1, .ref 0), (2, .ref 37), (3, .int (nI 0))] (List.forall_mem_cons.mpr ⟨rfl, List.forall_mem_cons.mpr ⟨rfl, List.forall_mem_cons.mpr ⟨rfl, List.forall_mem_cons.mpr ⟨rfl, fun _ hz => absurd hz List.not_mem_nil⟩⟩⟩⟩) (la_loop Γl hL3 hend (L + 1) 0 _ (Nat.zero_le _) (by omega) ⟨_, _, _, _, _, rfl, wI_0⟩)
end ZLX
