/-- feed: so many bytes on the tape -/
def fdS (R : zT) (x : Int32) (K t : Nat) : Nat → zT
  | 0 => R
  | i + 1 => ts (ts (fdS R x K t i) 3 (t + i) ((x >>> ((8 * (nI K - nI (i + 1))) &&& 31)) &&& 255)) 7 3 (nI (t + i + 1))
theorem fd_7 {R : zT} {x : Int32} {K t : Nat} (h : R 7 3 = nI t) : ∀ i, fdS R x K t i 7 3 = nI (t + i)
  | 0 => h
  | i + 1 => ts_s
theorem kst (a b : Int32) : a - b + (-1) = a - (b + 1) := by
  simp [Int32.sub_eq_add_neg, Int32.neg_add, Int32.add_assoc]
theorem kx_in {K i : Nat} (h : i < K) (hK : K ≤ 4) : (0 : Int32) ≤ nI K - nI (i + 1) := by
  rw [pk_sub (b := i + 1) h]
  exact nI_nn (by omega)
theorem kx_no {K : Nat} (hK : K ≤ 4) : nI K - nI (K + 1) < 0 := by
  match K, hK with
  | 0, _ => decide
  | 1, _ => decide
  | 2, _ => decide
  | 3, _ => decide
  | 4, _ => decide
def wTp (R : zT) : Prop := ∃ t, t ≤ 120 ∧ R 7 3 = nI t
def fFd (R : zT) (n : Int32) : Nat := if inR n 1 4 = true then (if 120 < R 7 3 + n then 1 else 7) else 0
def gFd (R : zT) (x n : Int32) : zT := if fFd R n = 7 then fdS R x (ci n) (ci (R 7 3)) (ci n) else fR R (fFd R n)

set_option maxRecDepth 100000 in
set_option maxHeartbeats 4000000 in
theorem m_X4_feed {g : Nat → zE} {T R : zT} (hT : wTp R) (x n : Int32) : zM 1 M_X4_feed [.ref 37, .int x, .int n] (hR g T R) 46 (some (.int (fr (fFd R n) (R 7 3 + n)))) (hR g (T) (gFd R x n)) 46 0 0 := by
  refine zM.intro (by decide) (Nat.le_of_ble_eq_true rfl) ?_
  intro Wf V m H0 Γ ρ
  replace Γ : zC Wf V m 4 H0 cX4_feed RX4 1 0 0 := Γ
  show zX Wf V m 4 H0 0 (zls [(0, .ref 37), (1, .int x), (2, .int n)]) [] (hR g T R) 46 0 0
  obtain ⟨t, ht, et⟩ := hT
  have ett : ci (nI t) = t := nI_clamp (by omega)
  refine x_iload_n Γ dX4_feed_0 rfl ?_
  refine x_i2l Γ dX4_feed_1 ?_
  refine x_lconst Γ (v := 1) dX4_feed_2 rfl ?_
  refine x_ldc2 Γ wl_X4_195 dX4_feed_3 ?_
  refine x_callS Γ cals_X4_in wl_X4_40 dX4_feed_6 (m_in n 1 4 1 4 rfl rfl) rfl (by decide) rfl (Nat.le_of_ble_eq_true rfl) (Nat.le_refl _) (Nat.le_refl _) ?_
  refine x_if_ne Γ (tgt := 19) dX4_feed_9 (by decide) (fun c_1 => ?_) (fun c_1 => ?_)
  · have c_1 := zb_n0.mp c_1
    obtain ⟨K, hK1, hK, rfl⟩ := inR_nI1 (n := 4) c_1 rfl (by omega)
    have eK : ci (nI K) = K := nI_clamp (by omega)
    refine x_aload_n Γ dX4_feed_19 rfl ?_
    refine gf_X4_197 Γ dX4_feed_20 (by decide) rfl rfl ?_
    refine x_iload_n Γ dX4_feed_23 rfl ?_
    refine x_iadd Γ dX4_feed_24 ?_
    refine x_bipush Γ (v := 120) dX4_feed_25 rfl ?_
    refine x_icmp_le Γ (tgt := 37) dX4_feed_27 (by decide) (fun c_2 => ?_) (fun c_2 => ?_)
    · have hle : t + K ≤ 120 := by
        have w := c_2
        rw [et, nI_add] at w
        exact z_le (a := t + K) (b := 120) w (by omega) (by omega)
      have c_2 := Int32.not_lt.mpr c_2
      rw [et] at c_2
      have hadd : nI (t + K) = nI t + nI K := (nI_add t K).symm
      refine x_iload_n Γ dX4_feed_37 rfl ?_
      refine x_iconst Γ (v := 1) dX4_feed_38 rfl ?_
      refine x_isub Γ dX4_feed_39 ?_
      refine x_istore_n Γ dX4_feed_40 (by decide) ?_
      suffices L_41 : ∀ (k i : Nat), i ≤ K → K - i < k → zX Wf V m 4 H0 41 (zls [(0, .ref 37), (1, .int x), (3, .int (nI K - nI (i + 1)))]) [] (hR g T (fdS R x K t i)) 46 0 0 by
        exact x_subl [(0, .ref 37), (1, .int x), (3, .int (nI K - nI (0 + 1)))] (List.forall_mem_cons.mpr ⟨rfl, List.forall_mem_cons.mpr ⟨rfl, List.forall_mem_cons.mpr ⟨rfl, fun _ hz => absurd hz List.not_mem_nil⟩⟩⟩) (L_41 (K + 1) 0 (by omega) (by omega))
      intro k
      induction k with
      | zero => intro i q1 q2; omega
      | succ k ih =>
        intro i q1 q2
        refine x_iload_n Γ dX4_feed_41 rfl ?_
        refine x_if_lt Γ (tgt := 80) dX4_feed_42 (by decide) (fun c_3 => ?_) (fun c_3 => ?_)
        · obtain rfl : K = i := by
            rcases Nat.lt_or_ge i K with h | h
            · exact absurd c_3 (Int32.not_lt.mpr (kx_in h hK))
            · omega
          refine x_aload_n Γ dX4_feed_80 rfl ?_
          refine gf_X4_197 Γ dX4_feed_81 (by decide) rfl rfl ?_
          exact x_iret ρ rfl dX4_feed_84 rfl (by rw [fd_7 et]; simp [fr, fFd, *]; try rfl) rfl (by simp [fFd, gFd, *]; exact zH.rf)
        · have hi : i < K := by
            rcases Nat.lt_or_ge i K with h | h
            · exact h
            · obtain rfl : K = i := by omega
              exact absurd (kx_no hK) c_3
          refine x_aload_n Γ dX4_feed_45 rfl ?_
          refine gf_X4_22 Γ dX4_feed_46 (by decide) rfl rfl ?_
          refine x_aload_n Γ dX4_feed_49 rfl ?_
          refine gf_X4_197 Γ dX4_feed_50 (by decide) rfl rfl ?_
          refine x_iload_n Γ dX4_feed_53 rfl ?_
          refine x_bipush Γ (v := 8) dX4_feed_54 rfl ?_
          refine x_iload_n Γ dX4_feed_56 rfl ?_
          refine x_imul Γ dX4_feed_57 ?_
          refine x_ishr Γ dX4_feed_58 ?_
          refine x_sipush Γ (v := 255) dX4_feed_59 rfl ?_
          refine x_iand Γ dX4_feed_62 ?_
          refine x_iast Γ dX4_feed_63 (by decide) (by rfl) (fd_7 et i) (by omega) (by decide) hR_u3 ?_
          refine x_aload_n Γ dX4_feed_64 rfl ?_
          refine x_dup Γ dX4_feed_65 rfl ?_
          refine gf_X4_197 Γ dX4_feed_66 (by decide) rfl rfl ?_
          refine x_iconst Γ (v := 1) dX4_feed_69 rfl ?_
          refine x_iadd Γ dX4_feed_70 ?_
          refine pf_X4_197 Γ dX4_feed_71 (by decide) rfl (Nat.le_of_ble_eq_true rfl) (hR_uO (k := 3) rfl) ?_
          refine x_iinc Γ dX4_feed_74 rfl rfl (by decide) ?_
          refine x_goto Γ (tgt := 41) dX4_feed_77 (by decide) ?_
          exact x_subl [(0, .ref 37), (1, .int x), (3, .int (nI K - nI ((i + 1) + 1)))] (List.forall_mem_cons.mpr ⟨rfl, List.forall_mem_cons.mpr ⟨rfl, List.forall_mem_cons.mpr ⟨(zsi ((kst _ _).trans (by rw [nI_1]))), fun _ hz => absurd hz List.not_mem_nil⟩⟩⟩) (x_heap (by simp only [fdS]; rw [ts_n (show 7 ≠ 3 by decide), fd_7 et i, nI_1]; try rfl) (ih (i + 1) (by omega) (by omega)))
    · have c_2 := Int32.not_le.mp c_2
      rw [et] at c_2
      refine x_aload_n Γ dX4_feed_30 rfl ?_
      refine x_ldc Γ wl_X4_58 dX4_feed_31 ?_
      refine x_callV Γ calv_X4_finds wl_X4_36 dX4_feed_33 (m_X4_finds (f := -1000002) (k := 1) (by decide) (by decide)) rfl (by decide) (by decide) rfl rfl rfl rfl (Nat.le_of_ble_eq_true rfl) (Nat.le_refl _) (Nat.le_refl _) ?_
      exact x_iret ρ rfl dX4_feed_36 rfl (by simp [fr, fFd, *]; try rfl) rfl (by simp [fR, fFd, gFd, *]; exact zH.rf)
  · have c_1 := zb_0.mp c_1
    refine x_aload_n Γ dX4_feed_12 rfl ?_
    refine x_ldc Γ wl_X4_34 dX4_feed_13 ?_
    refine x_callV Γ calv_X4_finds wl_X4_36 dX4_feed_15 (m_X4_finds (f := -1000001) (k := 0) (by decide) (by decide)) rfl (by decide) (by decide) rfl rfl rfl rfl (Nat.le_of_ble_eq_true rfl) (Nat.le_refl _) (Nat.le_refl _) ?_
    exact x_iret ρ rfl dX4_feed_18 rfl (by simp [fr, fFd, *]; try rfl) rfl (by simp [fR, fFd, gFd, *]; exact zH.rf)
