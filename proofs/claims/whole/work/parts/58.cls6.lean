set_option maxRecDepth 100000 in
set_option maxHeartbeats 4000000 in
theorem m_X3_most {g : Nat → zE} {T T2 T3 R : zT} {X : Nat → Int32} {N : Nat} (hN : wN T N) (hH : wH T N) (hT : wTk T N) : zMx 3 M_X3_most [.ref 0] (cW g T T2 T3 R X) 46 (some (.int (moS T N (setW T 1 N ||| setW T 2 N) (many (setW T 1 N)) (2 ^ N)))) (cQ g T T3 R) := by
  refine zMx.intro (by decide) (Nat.le_of_ble_eq_true rfl) ?_
  intro Wf V m H0 Γ ρ
  replace Γ : zC Wf V m 1 H0 cX3_most RX3 3 0 0 := Γ
  show zX Wf V m 1 H0 0 (zls [(0, .ref 0)]) [] (cW g T T2 T3 R X) 46 0 0
  obtain ⟨L, hL11, hL, hmo⟩ := bw_mo hN hH hT
  generalize 2 ^ N = M at hmo ρ
  refine x_aload_n Γ dX3_most_0 rfl ?_
  refine gf_X3_10 Γ dX3_most_1 (by decide) (by rfl) rfl ?_
  refine x_callV Γ calv_X0_bestWorth wl_X3_148 dX3_most_4 (cM1 (m_X0_bestWorth (g := cW g T T2 T3 R X) (b := 1) (T := T) (by omega) hN (L := L) hL hL11 rfl)) rfl (by decide) (by decide) (by rfl) rfl rfl rfl (Nat.le_of_ble_eq_true rfl) (Nat.le_refl _) (Nat.le_refl _) ?_
  exact x_iretx ρ rfl dX3_most_7 rfl (by rw [hmo]) (cQ_i rfl rfl vis_rf)
