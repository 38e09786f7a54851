theorem ush_k (x s : Int32) (k : Nat) (hk : k ≤ 24) (h1 : ((s.toUInt32 &&& Int32.toUInt32 31).toBitVec % 32).toNat = k) (h2 : ((s &&& 31).toBitVec.smod 32).toNat = k) : (x.toUInt32 >>> (s.toUInt32 &&& Int32.toUInt32 31)).toInt32 &&& 255 = (x >>> (s &&& 31)) &&& 255 := by
  apply Int32.toBitVec_inj.mp
  have e1 : (x.toUInt32 >>> (s.toUInt32 &&& Int32.toUInt32 31)).toInt32.toBitVec = x.toBitVec >>> k := by
    apply BitVec.eq_of_toNat_eq
    rw [pk_ushr x s k h1, BitVec.toNat_ushiftRight, Nat.shiftRight_eq_div_pow]
  have e2 : (x >>> (s &&& 31)).toBitVec = x.toBitVec.sshiftRight k := by
    apply BitVec.eq_of_toInt_eq
    rw [BitVec.toInt_sshiftRight]
    exact pk_shr x (s &&& 31) k h2
  rw [Int32.toBitVec_and, Int32.toBitVec_and, e1, e2]
  exact sh255 x.toBitVec hk
theorem ush255 (x : Int32) {K i : Nat} (hi : i < K) (hK : K ≤ 4) : (x.toUInt32 >>> ((8 * (nI K - nI (i + 1))).toUInt32 &&& Int32.toUInt32 31)).toInt32 &&& 255 = (x >>> ((8 * (nI K - nI (i + 1))) &&& 31)) &&& 255 := by
  have key : ∀ m : Fin 4, (((8 * nI m.val).toUInt32 &&& Int32.toUInt32 31).toBitVec % 32).toNat = 8 * m.val ∧ (((8 * nI m.val) &&& 31).toBitVec.smod 32).toNat = 8 * m.val := by decide +kernel
  rw [pk_sub (b := i + 1) hi]
  have h := key ⟨K - (i + 1), by omega⟩
  exact ush_k x _ (8 * (K - (i + 1))) (by omega) h.1 h.2

set_option maxRecDepth 100000 in
set_option maxHeartbeats 4000000 in
theorem m_X3_feed {g : Nat → zE} {T T2 T3 R : zT} {X : Nat → Int32} (hT : wTp R) (x n : Int32) : zMx 1 M_X3_feed [.ref 0, .int x, .int n] (cW g T T2 T3 R X) 46 (some (.int (fr (fFd R n) (R 7 3 + n)))) (cQ g (T) (T3) (gFd R x n)) := by
  refine zMx.intro (by decide) (Nat.le_of_ble_eq_true rfl) ?_
  intro Wf V m H0 Γ ρ
  replace Γ : zC Wf V m 4 H0 cX3_feed RX3 1 0 0 := Γ
  show zX Wf V m 4 H0 0 (zls [(0, .ref 0), (1, .int x), (2, .int n)]) [] (cW g T T2 T3 R X) 46 0 0
  obtain ⟨t, ht, et⟩ := hT
  have ett : ci (nI t) = t := nI_clamp (by omega)
  refine x_iload_n Γ dX3_feed_0 rfl ?_
  refine x_iconst Γ (v := 1) dX3_feed_1 rfl ?_
  refine x_icmp_lt Γ (tgt := 10) dX3_feed_2 (by decide) (fun c_1 => ?_) (fun c_1 => ?_)
  · have hi : ¬ inR n 1 4 = true := by rw [inR, decide_eq_true c_1]; simp
    have hF : fFd R n = 0 := if_neg hi
    refine x_aload_n Γ dX3_feed_10 rfl ?_
    refine x_iconst Γ (v := 0) dX3_feed_11 rfl ?_
    refine x_callV Γ calv_X3_finding wl_X3_48 dX3_feed_12 (m_X3_finding (g := g) (T := T) (T2 := T2) (T3 := T3) (R := R) (X := X) (f := 0) (by decide)) rfl (by decide) (by decide) (by rfl) rfl rfl rfl (Nat.le_of_ble_eq_true rfl) (Nat.le_refl _) (Nat.le_refl _) ?_
    exact x_iretx ρ rfl dX3_feed_15 rfl (by rw [hF]; try rfl) (cQ_i (rfl) rfl (vis_tr (vis_e (by rw [gFd, if_neg (by rw [hF]; decide), hF])) vis_rf))
  · have q1 := c_1
    refine x_iload_n Γ dX3_feed_5 rfl ?_
    refine x_iconst Γ (v := 4) dX3_feed_6 rfl ?_
    refine x_icmp_le Γ (tgt := 16) dX3_feed_7 (by decide) (fun c_2 => ?_) (fun c_2 => ?_)
    · have hi : inR n 1 4 = true := by rw [inR, decide_eq_false q1, decide_eq_false (Int32.not_lt.mpr c_2)]; rfl
      obtain ⟨K, hK1, hK, rfl⟩ := inR_nI1 (n := 4) hi rfl (by omega)
      have eK : ci (nI K) = K := nI_clamp (by omega)
      refine x_aload_n Γ dX3_feed_16 rfl ?_
      refine gf_X3_25 Γ dX3_feed_17 (by decide) (by rfl) rfl ?_
      refine gf_X3_204 Γ dX3_feed_20 (by decide) (by rfl) rfl ?_
      refine x_iload_n Γ dX3_feed_23 rfl ?_
      refine x_iadd Γ dX3_feed_24 ?_
      refine x_bipush Γ (v := 120) dX3_feed_25 rfl ?_
      refine x_icmp_le Γ (tgt := 36) dX3_feed_27 (by decide) (fun c_3 => ?_) (fun c_3 => ?_)
      · have hF : fFd R (nI K) = 7 := by rw [fFd, if_pos hi, if_neg (Int32.not_lt.mpr c_3)]
        have hle : t + K ≤ 120 := by
          have w := c_3
          rw [et, nI_add] at w
          exact z_le (a := t + K) (b := 120) w (by omega) (by omega)
        refine x_iload_n Γ dX3_feed_36 rfl ?_
        refine x_iconst Γ (v := 1) dX3_feed_37 rfl ?_
        refine x_isub Γ dX3_feed_38 ?_
        refine x_istore_n Γ dX3_feed_39 (by decide) ?_
        suffices L_40 : ∀ (k i : Nat), i ≤ K → K - i < k → zX Wf V m 4 H0 40 (zls [(0, .ref 0), (1, .int x), (3, .int (nI K - nI (i + 1)))]) [] (cW g T T2 T3 (fdS R x K t i) X) 46 0 0 by
          exact x_subl [(0, .ref 0), (1, .int x), (3, .int (nI K - nI (0 + 1)))] (List.forall_mem_cons.mpr ⟨rfl, List.forall_mem_cons.mpr ⟨rfl, List.forall_mem_cons.mpr ⟨rfl, fun _ hz => absurd hz List.not_mem_nil⟩⟩⟩) (L_40 (K + 1) 0 (by omega) (by omega))
        intro k
        induction k with
        | zero => intro i q1 q2; omega
        | succ k ih =>
          intro i q1 q2
          refine x_iload_n Γ dX3_feed_40 rfl ?_
          refine x_if_lt Γ (tgt := 67) dX3_feed_41 (by decide) (fun c_4 => ?_) (fun c_4 => ?_)
          · obtain rfl : K = i := by
              rcases Nat.lt_or_ge i K with h | h
              · exact absurd c_4 (Int32.not_lt.mpr (kx_in h hK))
              · omega
            refine x_aload_n Γ dX3_feed_67 rfl ?_
            refine gf_X3_25 Γ dX3_feed_68 (by decide) (by rfl) rfl ?_
            refine gf_X3_204 Γ dX3_feed_71 (by decide) (by rfl) rfl ?_
            exact x_iretx ρ rfl dX3_feed_74 rfl (by rw [hF, fr_7]; exact zsi (by rw [fd_7 et, et, nI_add])) (cQ_i (rfl) rfl (vis_tr (vis_e (by rw [gFd, if_pos hF, eK, et, ett])) vis_rf))
          · have hik : i < K := by
              rcases Nat.lt_or_ge i K with h | h
              · exact h
              · obtain rfl : K = i := by omega
                exact absurd (kx_no hK) c_4
            refine x_aload_n Γ dX3_feed_44 rfl ?_
            refine gf_X3_25 Γ dX3_feed_45 (by decide) (by rfl) rfl ?_
            refine x_iload_n Γ dX3_feed_48 rfl ?_
            refine x_bipush Γ (v := 8) dX3_feed_49 rfl ?_
            refine x_iload_n Γ dX3_feed_51 rfl ?_
            refine x_imul Γ dX3_feed_52 ?_
            refine x_iushr Γ dX3_feed_53 ?_
            refine x_sipush Γ (v := 255) dX3_feed_54 rfl ?_
            refine x_iand Γ dX3_feed_57 ?_
            rw [ush255 x hik hK]
            refine x_callVv Γ calv_X2_append wl_X3_207 dX3_feed_58 (m_X2_append (g := g) (T := T) (T2 := T2) (T3 := T3) (R := fdS R x K t i) (X := X) (t := t + i) (by omega) (fd_7 et i) _) rfl (by decide) (by decide) (by rfl) rfl rfl rfl (Nat.le_of_ble_eq_true rfl) (Nat.le_refl _) (Nat.le_refl _) ?_
            refine x_iinc Γ dX3_feed_61 rfl rfl (by decide) ?_
            refine x_goto Γ (tgt := 40) dX3_feed_64 (by decide) ?_
            exact x_subl [(0, .ref 0), (1, .int x), (3, .int (nI K - nI ((i + 1) + 1)))] (List.forall_mem_cons.mpr ⟨rfl, List.forall_mem_cons.mpr ⟨rfl, List.forall_mem_cons.mpr ⟨(zsi ((kst _ _).trans (by rw [nI_1]))), fun _ hz => absurd hz List.not_mem_nil⟩⟩⟩) (ih (i + 1) (by omega) (by omega))
      · have hF : fFd R (nI K) = 1 := by rw [fFd, if_pos hi, if_pos (Int32.not_le.mp c_3)]
        refine x_aload_n Γ dX3_feed_30 rfl ?_
        refine x_iconst Γ (v := 1) dX3_feed_31 rfl ?_
        refine x_callV Γ calv_X3_finding wl_X3_48 dX3_feed_32 (m_X3_finding (g := g) (T := T) (T2 := T2) (T3 := T3) (R := R) (X := X) (f := 1) (by decide)) rfl (by decide) (by decide) (by rfl) rfl rfl rfl (Nat.le_of_ble_eq_true rfl) (Nat.le_refl _) (Nat.le_refl _) ?_
        exact x_iretx ρ rfl dX3_feed_35 rfl (by rw [hF]; try rfl) (cQ_i (rfl) rfl (vis_tr (vis_e (by rw [gFd, if_neg (by rw [hF]; decide), hF])) vis_rf))
    · have hi : ¬ inR n 1 4 = true := by rw [inR, decide_eq_true (Int32.not_le.mp c_2), Bool.not_true, Bool.and_false]; simp
      have hF : fFd R n = 0 := if_neg hi
      refine x_aload_n Γ dX3_feed_10 rfl ?_
      refine x_iconst Γ (v := 0) dX3_feed_11 rfl ?_
      refine x_callV Γ calv_X3_finding wl_X3_48 dX3_feed_12 (m_X3_finding (g := g) (T := T) (T2 := T2) (T3 := T3) (R := R) (X := X) (f := 0) (by decide)) rfl (by decide) (by decide) (by rfl) rfl rfl rfl (Nat.le_of_ble_eq_true rfl) (Nat.le_refl _) (Nat.le_refl _) ?_
      exact x_iretx ρ rfl dX3_feed_15 rfl (by rw [hF]; try rfl) (cQ_i (rfl) rfl (vis_tr (vis_e (by rw [gFd, if_neg (by rw [hF]; decide), hF])) vis_rf))

set_option maxRecDepth 100000 in
set_option maxHeartbeats 4000000 in
theorem m_X3_wipe {g : Nat → zE} {T T2 T3 R : zT} {X : Nat → Int32}  : zMx 0 M_X3_wipe [.ref 0] (cW g T T2 T3 R X) 46 (some (.int (R 7 3))) (cQ g T T3 (ts R 7 3 0)) := by
  refine zMx.intro (by decide) (Nat.le_of_ble_eq_true rfl) ?_
  intro Wf V m H0 Γ ρ
  replace Γ : zC Wf V m 2 H0 cX3_wipe RX3 0 0 0 := Γ
  show zX Wf V m 2 H0 0 (zls [(0, .ref 0)]) [] (cW g T T2 T3 R X) 46 0 0
  refine x_aload_n Γ dX3_wipe_0 rfl ?_
  refine gf_X3_25 Γ dX3_wipe_1 (by decide) (by rfl) rfl ?_
  refine gf_X3_204 Γ dX3_wipe_4 (by decide) (by rfl) rfl ?_
  refine x_istore_n Γ dX3_wipe_7 (by decide) ?_
  refine x_aload_n Γ dX3_wipe_8 rfl ?_
  refine gf_X3_25 Γ dX3_wipe_9 (by decide) (by rfl) rfl ?_
  refine x_iconst Γ (v := 0) dX3_wipe_12 rfl ?_
  refine pf_X3_204 Γ dX3_wipe_13 (by decide) (by rfl) (Nat.le_of_ble_eq_true rfl) cW_l ?_
  refine x_iload_n Γ dX3_wipe_16 rfl ?_
  exact x_iretx ρ rfl dX3_wipe_17 rfl (rfl) (cQ_i rfl rfl vis_rf)

set_option maxRecDepth 100000 in
set_option maxHeartbeats 4000000 in
theorem m_X3_hold {g : Nat → zE} {T T2 T3 R : zT} {X : Nat → Int32} {N : Nat} (hN : wN T N) (s c : Int32) : zMx 1 M_X3_hold [.ref 0, .int s, .int c] (cW g T T2 T3 R X) 46 (some (.int (fr (fHol T s c) (1)))) (cQ g (tHol T s c) (T3) (fR R (fHol T s c))) := by
  refine zMx.intro (by decide) (Nat.le_of_ble_eq_true rfl) ?_
  intro Wf V m H0 Γ ρ
  replace Γ : zC Wf V m 3 H0 cX3_hold RX3 1 0 0 := Γ
  show zX Wf V m 3 H0 0 (zls [(0, .ref 0), (1, .int s), (2, .int c)]) [] (cW g T T2 T3 R X) 46 0 0
  have hN2 := hN.2
  refine x_iload_n Γ dX3_hold_0 rfl ?_
  refine x_callS Γ cals_X3_isSpot wl_X3_226 dX3_hold_1 (m_X3_isSpot s) rfl (by decide) rfl (Nat.le_of_ble_eq_true rfl) (Nat.le_refl _) (Nat.le_refl _) ?_
  refine x_if_eq Γ (tgt := 23) dX3_hold_4 (by decide) (fun c_1 => ?_) (fun c_1 => ?_)
  · have c_1 := zb_0.mp c_1
    have hF : fHol T s c = 0 := if_neg (fun z => by rw [c_1] at z; cases z.1)
    refine x_aload_n Γ dX3_hold_23 rfl ?_
    refine x_iconst Γ (v := 0) dX3_hold_24 rfl ?_
    refine x_callV Γ calv_X3_finding wl_X3_48 dX3_hold_25 (m_X3_finding (g := g) (T := T) (T2 := T2) (T3 := T3) (R := R) (X := X) (f := 0) (by decide)) rfl (by decide) (by decide) (by rfl) rfl rfl rfl (Nat.le_of_ble_eq_true rfl) (Nat.le_refl _) (Nat.le_refl _) ?_
    exact x_iretx ρ rfl dX3_hold_28 rfl (by rw [hF]; try rfl) (cQ_i (by rw [tHol, hF]; try rfl) rfl (vis_e (by rw [hF])))
  · have c_1 := zb_n0.mp c_1
    obtain ⟨j, hj, rfl⟩ := inR_nI (n := 9) c_1 rfl (by omega)
    have ej : ci (nI j) = j := nI_clamp (by omega)
    have hsj := c_1
    refine x_iload_n Γ dX3_hold_7 rfl ?_
    refine x_iconst Γ (v := -1) dX3_hold_8 rfl ?_
    refine x_icmp_eq Γ (tgt := 29) dX3_hold_9 (by decide) (fun c_2 => ?_) (fun c_2 => ?_)
    · have hF : fHol T (nI j) c = 7 := if_pos ⟨hsj, Or.inl c_2⟩
      refine x_aload_n Γ dX3_hold_29 rfl ?_
      refine gf_X3_10 Γ dX3_hold_30 (by decide) (by rfl) rfl ?_
      refine gf_X3_229 Γ dX3_hold_33 (by decide) (by rfl) rfl ?_
      refine x_iload_n Γ dX3_hold_36 rfl ?_
      refine x_iload_n Γ dX3_hold_37 rfl ?_
      refine x_iast Γ dX3_hold_38 (by decide) (by rfl) rfl (by first | assumption | omega) (by decide) (cW_a1 (j := 6) (by decide)) ?_
      refine x_iconst Γ (v := 1) dX3_hold_39 rfl ?_
      exact x_iretx ρ rfl dX3_hold_40 rfl (by rw [hF]; try rfl) (cQ_i (by rw [tHol, if_pos hF, ej]) rfl (vis_e (by rw [hF]; try rfl)))
    · have hc1 := c_2
      refine x_aload_n Γ dX3_hold_12 rfl ?_
      refine gf_X3_10 Γ dX3_hold_13 (by decide) (by rfl) rfl ?_
      refine x_iload_n Γ dX3_hold_16 rfl ?_
      refine x_callV Γ calv_X0_houses wl_X3_60 dX3_hold_17 (cM1 (m_X0_houses (g := cW g T T2 T3 R X) (b := 1) (T := T) (by omega) c)) rfl (by decide) (by decide) (by rfl) rfl rfl rfl (Nat.le_of_ble_eq_true rfl) (Nat.le_refl _) (Nat.le_refl _) ?_
      refine x_if_ne Γ (tgt := 29) dX3_hold_20 (by decide) (fun c_3 => ?_) (fun c_3 => ?_)
      · have c_3 := zb_n0.mp c_3
        have hF : fHol T (nI j) c = 7 := if_pos ⟨hsj, Or.inr c_3⟩
        refine x_aload_n Γ dX3_hold_29 rfl ?_
        refine gf_X3_10 Γ dX3_hold_30 (by decide) (by rfl) rfl ?_
        refine gf_X3_229 Γ dX3_hold_33 (by decide) (by rfl) rfl ?_
        refine x_iload_n Γ dX3_hold_36 rfl ?_
        refine x_iload_n Γ dX3_hold_37 rfl ?_
        refine x_iast Γ dX3_hold_38 (by decide) (by rfl) rfl (by first | assumption | omega) (by decide) (cW_a1 (j := 6) (by decide)) ?_
        refine x_iconst Γ (v := 1) dX3_hold_39 rfl ?_
        exact x_iretx ρ rfl dX3_hold_40 rfl (by rw [hF]; try rfl) (cQ_i (by rw [tHol, if_pos hF, ej]) rfl (vis_e (by rw [hF]; try rfl)))
      · have c_3 := zb_0.mp c_3
        have hF : fHol T (nI j) c = 0 := if_neg (fun z => z.2.elim hc1 (fun y => by rw [c_3] at y; cases y))
        refine x_aload_n Γ dX3_hold_23 rfl ?_
        refine x_iconst Γ (v := 0) dX3_hold_24 rfl ?_
        refine x_callV Γ calv_X3_finding wl_X3_48 dX3_hold_25 (m_X3_finding (g := g) (T := T) (T2 := T2) (T3 := T3) (R := R) (X := X) (f := 0) (by decide)) rfl (by decide) (by decide) (by rfl) rfl rfl rfl (Nat.le_of_ble_eq_true rfl) (Nat.le_refl _) (Nat.le_refl _) ?_
        exact x_iretx ρ rfl dX3_hold_28 rfl (by rw [hF]; try rfl) (cQ_i (by rw [tHol, hF]; try rfl) rfl (vis_e (by rw [hF])))

/-- all are of a kind -/
def wKd (T : zT) (N : Nat) : Prop := ∀ c, c < N → isK (T 0 c) = true
theorem hs_m1 {T : zT} : hs T (-1) = false := rfl

set_option maxRecDepth 100000 in
set_option maxHeartbeats 4000000 in
theorem m_X3_as {g : Nat → zE} {T T2 T3 R : zT} {X : Nat → Int32} {N : Nat} (hN : wN T N) (hP : wP T N) (hKd : wKd T N) (s v : Int32) : zMx 2 M_X3_as [.ref 0, .int s, .int v] (cW g T T2 T3 R X) 46 (some (.int (fr (fAs T s v) (T 6 (ci s))))) (cQ g (T) (T3) (fR R (fAs T s v))) := by
  refine zMx.intro (by decide) (Nat.le_of_ble_eq_true rfl) ?_
  intro Wf V m H0 Γ ρ
  replace Γ : zC Wf V m 4 H0 cX3_as RX3 2 0 0 := Γ
  show zX Wf V m 4 H0 0 (zls [(0, .ref 0), (1, .int s), (2, .int v)]) [] (cW g T T2 T3 R X) 46 0 0
  have hN2 := hN.2
  refine x_iload_n Γ dX3_as_0 rfl ?_
  refine x_callS Γ cals_X3_isSpot wl_X3_226 dX3_as_1 (m_X3_isSpot s) rfl (by decide) rfl (Nat.le_of_ble_eq_true rfl) (Nat.le_refl _) (Nat.le_refl _) ?_
  refine x_if_eq Γ (tgt := 14) dX3_as_4 (by decide) (fun c_1 => ?_) (fun c_1 => ?_)
  · have c_1 := zb_0.mp c_1
    have hF : fAs T s v = 0 := if_neg (fun z => by rw [c_1] at z; cases z.1)
    refine x_aload_n Γ dX3_as_14 rfl ?_
    refine x_iconst Γ (v := 0) dX3_as_15 rfl ?_
    refine x_callV Γ calv_X3_finding wl_X3_48 dX3_as_16 (m_X3_finding (g := g) (T := T) (T2 := T2) (T3 := T3) (R := R) (X := X) (f := 0) (by decide)) rfl (by decide) (by decide) (by rfl) rfl rfl rfl (Nat.le_of_ble_eq_true rfl) (Nat.le_refl _) (Nat.le_refl _) ?_
    exact x_iretx ρ rfl dX3_as_19 rfl (by rw [hF]; try rfl) (cQ_i (rfl) rfl (vis_tr (vis_e (by rw [hF])) vis_rf))
  · have c_1 := zb_n0.mp c_1
    obtain ⟨j, hj, rfl⟩ := inR_nI (n := 9) c_1 rfl (by omega)
    have ej : ci (nI j) = j := nI_clamp (by omega)
    have hsj := c_1
    refine x_iload_n Γ dX3_as_7 rfl ?_
    refine x_callS Γ cals_X3_isKind wl_X3_44 dX3_as_8 (m_X3_isKind v) rfl (by decide) rfl (Nat.le_of_ble_eq_true rfl) (Nat.le_refl _) (Nat.le_refl _) ?_
    refine x_if_ne Γ (tgt := 20) dX3_as_11 (by decide) (fun c_2 => ?_) (fun c_2 => ?_)
    · have c_2 := zb_n0.mp c_2
      have hvk := c_2
      refine x_aload_n Γ dX3_as_20 rfl ?_
      refine gf_X3_10 Γ dX3_as_21 (by decide) (by rfl) rfl ?_
      refine gf_X3_229 Γ dX3_as_24 (by decide) (by rfl) rfl ?_
      refine x_iload_n Γ dX3_as_27 rfl ?_
      refine x_iald Γ dX3_as_28 (by decide) (by rfl) rfl (by first | assumption | omega) (by decide) rfl ?_
      refine x_istore_n Γ dX3_as_29 (by decide) ?_
      refine x_aload_n Γ dX3_as_30 rfl ?_
      refine gf_X3_10 Γ dX3_as_31 (by decide) (by rfl) rfl ?_
      refine x_iload_n Γ dX3_as_34 rfl ?_
      refine x_callV Γ calv_X0_houses wl_X3_60 dX3_as_35 (cM1 (m_X0_houses (g := cW g T T2 T3 R X) (b := 1) (T := T) (by omega) (T 6 j))) rfl (by decide) (by decide) (by rfl) rfl rfl rfl (Nat.le_of_ble_eq_true rfl) (Nat.le_refl _) (Nat.le_refl _) ?_
      refine x_if_ne Γ (tgt := 47) dX3_as_38 (by decide) (fun c_3 => ?_) (fun c_3 => ?_)
      · have c_3 := zb_n0.mp c_3
        obtain ⟨c, hc, ec⟩ : ∃ c, c < N ∧ T 6 j = nI c := by
          rcases hP j (by omega) with h | h
          · rw [h, hs_m1] at c_3
            cases c_3
          · exact h
        have ecc : ci (nI c) = c := nI_clamp (by omega)
        have hnn : ¬ T 6 j < 0 := by rw [ec]; exact nI_pos (by omega)
        refine x_aload_n Γ dX3_as_47 rfl ?_
        refine gf_X3_10 Γ dX3_as_48 (by decide) (by rfl) rfl ?_
        refine gf_X3_191 Γ dX3_as_51 (by decide) (by rfl) rfl ?_
        refine x_iload_n Γ dX3_as_54 rfl ?_
        refine x_iald Γ dX3_as_55 (by decide) (by rfl) ec (by omega) (by decide) rfl ?_
        refine x_iload_n Γ dX3_as_56 rfl ?_
        refine x_callS Γ cals_X3_isUnder wl_X3_232 dX3_as_57 (m_X3_isUnder (v := v) (hKd c hc)) rfl (by decide) rfl (Nat.le_of_ble_eq_true rfl) (Nat.le_refl _) (Nat.le_refl _) ?_
        refine x_if_eq Γ (tgt := 67) dX3_as_60 (by decide) (fun c_4 => ?_) (fun c_4 => ?_)
        · have c_4 := zb_0.mp c_4
          have hF : fAs T (nI j) v = 2 := by rw [fAs, if_pos ⟨hsj, hvk⟩, ej, if_neg hnn, ec, ecc, if_neg (by rw [c_4]; decide)]
          refine x_aload_n Γ dX3_as_67 rfl ?_
          refine x_iconst Γ (v := 2) dX3_as_68 rfl ?_
          refine x_callV Γ calv_X3_finding wl_X3_48 dX3_as_69 (m_X3_finding (g := g) (T := T) (T2 := T2) (T3 := T3) (R := R) (X := X) (f := 2) (by decide)) rfl (by decide) (by decide) (by rfl) rfl rfl rfl (Nat.le_of_ble_eq_true rfl) (Nat.le_refl _) (Nat.le_refl _) ?_
          exact x_iretx ρ rfl dX3_as_72 rfl (by rw [hF]; try rfl) (cQ_i (rfl) rfl (vis_tr (vis_e (by rw [hF])) vis_rf))
        · have c_4 := zb_n0.mp c_4
          have hF : fAs T (nI j) v = 7 := by rw [fAs, if_pos ⟨hsj, hvk⟩, ej, if_neg hnn, ec, ecc, if_pos c_4]
          refine x_iload_n Γ dX3_as_63 rfl ?_
          refine x_goto Γ (tgt := 72) dX3_as_64 (by decide) ?_
          exact x_iretx ρ rfl dX3_as_72 rfl (by rw [hF, ej]; try rfl) (cQ_i (rfl) rfl (vis_tr (vis_e (by rw [hF]; try rfl)) vis_rf))
      · have c_3 := zb_0.mp c_3
        have hneg : T 6 j < 0 := by
          rcases hP j (by omega) with h | ⟨c, hc, ec⟩
          · rw [h]; decide
          · rw [ec, hs_of hN hc] at c_3
            cases c_3
        have hF : fAs T (nI j) v = 5 := by rw [fAs, if_pos ⟨hsj, hvk⟩, ej, if_pos hneg]
        refine x_aload_n Γ dX3_as_41 rfl ?_
        refine x_iconst Γ (v := 5) dX3_as_42 rfl ?_
        refine x_callV Γ calv_X3_finding wl_X3_48 dX3_as_43 (m_X3_finding (g := g) (T := T) (T2 := T2) (T3 := T3) (R := R) (X := X) (f := 5) (by decide)) rfl (by decide) (by decide) (by rfl) rfl rfl rfl (Nat.le_of_ble_eq_true rfl) (Nat.le_refl _) (Nat.le_refl _) ?_
        exact x_iretx ρ rfl dX3_as_46 rfl (by rw [hF]; try rfl) (cQ_i (rfl) rfl (vis_tr (vis_e (by rw [hF])) vis_rf))
    · have c_2 := zb_0.mp c_2
      have hF : fAs T (nI j) v = 0 := if_neg (fun z => by rw [c_2] at z; cases z.2)
      refine x_aload_n Γ dX3_as_14 rfl ?_
      refine x_iconst Γ (v := 0) dX3_as_15 rfl ?_
      refine x_callV Γ calv_X3_finding wl_X3_48 dX3_as_16 (m_X3_finding (g := g) (T := T) (T2 := T2) (T3 := T3) (R := R) (X := X) (f := 0) (by decide)) rfl (by decide) (by decide) (by rfl) rfl rfl rfl (Nat.le_of_ble_eq_true rfl) (Nat.le_refl _) (Nat.le_refl _) ?_
      exact x_iretx ρ rfl dX3_as_19 rfl (by rw [hF]; try rfl) (cQ_i (rfl) rfl (vis_tr (vis_e (by rw [hF])) vis_rf))

set_option maxRecDepth 100000 in
set_option maxHeartbeats 4000000 in
theorem m_X1_renew {g : Nat → zE} {T T2 T3 R : zT} {X : Nat → Int32} {j : Nat} (hj4 : j < 4) (b n : Int32) : zM 0 M_X1_renew [.ref (28 + 2 * j), .int b, .int n] (cW g T T2 T3 R X) 46 (none) (cW g T T2 T3 (zeR (ts (ts R 4 j b) 5 j n) j 40) X) 46 0 0 := by
  refine zM.intro (by decide) (Nat.le_of_ble_eq_true rfl) ?_
  intro Wf V m H0 Γ ρ
  replace Γ : zC Wf V m 4 H0 cX1_renew RX1 0 0 0 := Γ
  show zX Wf V m 4 H0 0 (zls [(0, .ref (28 + 2 * j)), (1, .int b), (2, .int n)]) [] (cW g T T2 T3 R X) 46 0 0
  refine x_aload_n Γ dX1_renew_0 rfl ?_
  refine x_iload_n Γ dX1_renew_1 rfl ?_
  refine pf_X1_15 Γ dX1_renew_2 (by omega) (cW_s0 hj4) (Nat.le_of_ble_eq_true rfl) (cW_sb hj4) ?_
  refine x_aload_n Γ dX1_renew_5 rfl ?_
  refine x_iload_n Γ dX1_renew_6 rfl ?_
  refine pf_X1_19 Γ dX1_renew_7 (by omega) (cW_s0 hj4) (Nat.le_of_ble_eq_true rfl) (cW_ss hj4) ?_
  refine x_iconst Γ (v := 0) dX1_renew_10 rfl ?_
  refine x_istore_n Γ dX1_renew_11 (by decide) ?_
  suffices L_12 : ∀ (k c : Nat), c ≤ 40 → 40 - c < k → zX Wf V m 4 H0 12 (zls [(0, .ref (28 + 2 * j)), (3, .int (nI c))]) [] (cW g T T2 T3 (zeR (ts (ts R 4 j b) 5 j n) j c) X) 46 0 0 by
    exact x_subl [(0, .ref (28 + 2 * j)), (3, .int (nI 0))] (List.forall_mem_cons.mpr ⟨rfl, List.forall_mem_cons.mpr ⟨rfl, fun _ hz => absurd hz List.not_mem_nil⟩⟩) (x_heap (rfl) (L_12 (40 + 1) 0  (by omega) (by omega)))
  intro k
  induction k with
  | zero => intro c  h1 h2; omega
  | succ k ih =>
    intro c  h1 h2
    refine x_iload_n Γ dX1_renew_12 rfl ?_
    refine x_bipush Γ (v := 40) dX1_renew_13 rfl ?_
    refine x_icmp_ge Γ (tgt := 31) dX1_renew_15 (by decide) (fun c_1 => ?_) (fun c_1 => ?_)
    · have c_1 := z_le (a := 40) c_1 (by omega) (by omega)
      obtain rfl : c = 40 := by omega
      exact x_vret ρ dX1_renew_31 (rfl) rfl (zH.rf)
    · have c_1 := z_nle (a := 40) c_1 (by omega) (by omega)
      refine x_aload_n Γ dX1_renew_18 rfl ?_
      refine gf_X1_9 Γ dX1_renew_19 (by omega) (cW_s0 hj4) rfl ?_
      refine x_iload_n Γ dX1_renew_22 rfl ?_
      refine x_iconst Γ (v := 0) dX1_renew_23 rfl ?_
      refine x_iast Γ dX1_renew_24 (by omega) (cW_s1 hj4) rfl (by first | assumption | omega) (by decide) (cW_sn hj4 (by omega)) ?_
      refine x_iinc Γ dX1_renew_25 rfl (by first | exact zinc _ | rfl) (by decide) ?_
      refine x_goto Γ (tgt := 12) dX1_renew_28 (by decide) ?_
      exact x_subl [(0, .ref (28 + 2 * j)), (3, .int (nI (c + 1)))] (List.forall_mem_cons.mpr ⟨rfl, List.forall_mem_cons.mpr ⟨rfl, fun _ hz => absurd hz List.not_mem_nil⟩⟩) (x_heap (rfl) (ih (c + 1) (by omega) (by omega)))

set_option maxRecDepth 100000 in
set_option maxHeartbeats 4000000 in
theorem m_X1_put {g : Nat → zE} {T T2 T3 R : zT} {X : Nat → Int32} {j : Nat} (hj4 : j < 4) {a z : Nat} (ha : a < z) (hz : z ≤ 40) (ez : R 5 j = nI z) (v : Int32) : zM 0 M_X1_put [.ref (28 + 2 * j), .int (nI a), .int v] (cW g T T2 T3 R X) 46 (none) (cW g T T2 T3 (ts R 6 (40 * j + a) (zwr (R 4 j) v)) X) 46 0 0 := by
  refine zM.intro (by decide) (Nat.le_of_ble_eq_true rfl) ?_
  intro Wf V m H0 Γ ρ
  replace Γ : zC Wf V m 3 H0 cX1_put RX1 0 0 0 := Γ
  show zX Wf V m 3 H0 0 (zls [(0, .ref (28 + 2 * j)), (1, .int (nI a)), (2, .int v)]) [] (cW g T T2 T3 R X) 46 0 0
  refine x_iload_n Γ dX1_put_0 rfl ?_
  refine x_if_lt Γ (tgt := 12) dX1_put_1 (by decide) (fun c_1 => ?_) (fun c_1 => ?_)
  · exact absurd c_1 (nI_pos (by omega))
  · refine x_iload_n Γ dX1_put_4 rfl ?_
    refine x_aload_n Γ dX1_put_5 rfl ?_
    refine gf_X1_19 Γ dX1_put_6 (by omega) (cW_s0 hj4) rfl ?_
    refine x_icmp_lt Γ (tgt := 13) dX1_put_9 (by decide) (fun c_2 => ?_) (fun c_2 => ?_)
    · refine x_aload_n Γ dX1_put_13 rfl ?_
      refine gf_X1_15 Γ dX1_put_14 (by omega) (cW_s0 hj4) rfl ?_
      by_cases c_3_0 : R 4 j = 8
      · refine x_lookup Γ (off := 27) (tgt := 44) dX1_put_17 (by decide) (by rw [c_3_0]; rfl) (by decide) ?_
        refine x_aload_n Γ dX1_put_44 rfl ?_
        refine gf_X1_9 Γ dX1_put_45 (by omega) (cW_s0 hj4) rfl ?_
        refine x_iload_n Γ dX1_put_48 rfl ?_
        refine x_iload_n Γ dX1_put_49 rfl ?_
        refine x_i2b Γ dX1_put_50 ?_
        refine x_iast Γ dX1_put_51 (by omega) (cW_s1 hj4) rfl (by first | assumption | omega) (by decide) (cW_sn hj4 (by omega)) ?_
        refine x_goto Γ (tgt := 73) dX1_put_52 (by decide) ?_
        exact x_vret ρ dX1_put_73 (rfl) rfl (by simp [zwr, *]; exact zH.rf)
      · by_cases c_3_1 : R 4 j = 16
        · refine x_lookup Γ (off := 38) (tgt := 55) dX1_put_17 (by decide) (by rw [c_3_1]; rfl) (by decide) ?_
          refine x_aload_n Γ dX1_put_55 rfl ?_
          refine gf_X1_9 Γ dX1_put_56 (by omega) (cW_s0 hj4) rfl ?_
          refine x_iload_n Γ dX1_put_59 rfl ?_
          refine x_iload_n Γ dX1_put_60 rfl ?_
          refine x_i2s Γ dX1_put_61 ?_
          refine x_iast Γ dX1_put_62 (by omega) (cW_s1 hj4) rfl (by first | assumption | omega) (by decide) (cW_sn hj4 (by omega)) ?_
          refine x_goto Γ (tgt := 73) dX1_put_63 (by decide) ?_
          exact x_vret ρ dX1_put_73 (rfl) rfl (by simp [zwr, *]; exact zH.rf)
        · refine x_lookup Γ (off := 49) (tgt := 66) dX1_put_17 (by decide) (by show (if (8 : Int) = _ then _ else (if (16 : Int) = _ then _ else _)) = _; rw [if_neg (fun z => c_3_0 (Int32.toInt_inj.mp (z.symm.trans (show (8 : Int) = (8 : Int32).toInt from rfl)))), if_neg (fun z => c_3_1 (Int32.toInt_inj.mp (z.symm.trans (show (16 : Int) = (16 : Int32).toInt from rfl))))]; rfl) (by decide) ?_
          refine x_aload_n Γ dX1_put_66 rfl ?_
          refine gf_X1_9 Γ dX1_put_67 (by omega) (cW_s0 hj4) rfl ?_
          refine x_iload_n Γ dX1_put_70 rfl ?_
          refine x_iload_n Γ dX1_put_71 rfl ?_
          refine x_iast Γ dX1_put_72 (by omega) (cW_s1 hj4) rfl (by first | assumption | omega) (by decide) (cW_sn hj4 (by omega)) ?_
          exact x_vret ρ dX1_put_73 (rfl) rfl (by simp [zwr, *]; exact zH.rf)
    · rw [ez] at c_2
      exact absurd ((nI_ltI (by omega) (by omega)).mpr ha) c_2

def spB (x a n : Int32) : Bool := !decide (a < 0) && !decide (n < 0) && decide (n ≤ x) && decide (a ≤ x - n)
theorem sp_co {x a n : Int32} {z : Nat} (hz : z ≤ 40) (ez : x = nI z) : spB x a n = true ↔ ¬ n < 0 ∧ ¬ a < 0 ∧ ¬ x - a < n := by
  subst ez
  unfold spB
  simp only [Bool.and_eq_true, Bool.not_eq_true', decide_eq_true_eq, decide_eq_false_iff_not]
  by_cases ha : a < 0
  · simp [ha]
  · by_cases hn : n < 0
    · simp [hn]
    · obtain ⟨A, hA, rfl⟩ := nI_of ha
      obtain ⟨K, hK, rfl⟩ := nI_of hn
      have e1 : (nI z - nI A).toInt = (z : Int) - A := by
        rw [Int32.toInt_sub, nI_toInt hA, nI_toInt (by omega)]
        exact Int.bmod_eq_of_le (by omega) (by omega)
      have e2 : (nI z - nI K).toInt = (z : Int) - K := by
        rw [Int32.toInt_sub, nI_toInt hK, nI_toInt (by omega)]
        exact Int.bmod_eq_of_le (by omega) (by omega)
      simp only [ha, hn, not_false_eq_true, true_and]
      rw [Int32.le_iff_toInt_le, Int32.le_iff_toInt_le, Int32.lt_iff_toInt_lt, e1, e2, nI_toInt hA, nI_toInt hK, nI_toInt (by omega)]
      omega

set_option maxRecDepth 100000 in
set_option maxHeartbeats 4000000 in
theorem m_X1_spans {g : Nat → zE} {T T2 T3 R : zT} {X : Nat → Int32} {j : Nat} (hj4 : j < 4) (a n : Int32) : zM 0 M_X1_spans [.ref (28 + 2 * j), .int a, .int n] (cW g T T2 T3 R X) 46 (some (.int (zb (spB (R 5 j) a n)))) (cW g T T2 T3 R X) 46 0 0 := by
  refine zM.intro (by decide) (Nat.le_of_ble_eq_true rfl) ?_
  intro Wf V m H0 Γ ρ
  replace Γ : zC Wf V m 3 H0 cX1_spans RX1 0 0 0 := Γ
  show zX Wf V m 3 H0 0 (zls [(0, .ref (28 + 2 * j)), (1, .int a), (2, .int n)]) [] (cW g T T2 T3 R X) 46 0 0
  refine x_iload_n Γ dX1_spans_0 rfl ?_
  refine x_if_lt Γ (tgt := 30) dX1_spans_1 (by decide) (fun c_1 => ?_) (fun c_1 => ?_)
  · have hs_ : spB (R 5 j) a n = false := by rw [spB, decide_eq_true c_1]; rfl
    refine x_iconst Γ (v := 0) dX1_spans_30 rfl ?_
    exact x_iret ρ rfl dX1_spans_31 (by first | exact zb_nz _ | rfl) (by rw [hs_]; try rfl) rfl (zH.rf)
  · have q1 := c_1
    refine x_iload_n Γ dX1_spans_4 rfl ?_
    refine x_if_lt Γ (tgt := 30) dX1_spans_5 (by decide) (fun c_2 => ?_) (fun c_2 => ?_)
    · have hs_ : spB (R 5 j) a n = false := by rw [spB, decide_eq_true c_2]; simp
      refine x_iconst Γ (v := 0) dX1_spans_30 rfl ?_
      exact x_iret ρ rfl dX1_spans_31 (by first | exact zb_nz _ | rfl) (by rw [hs_]; try rfl) rfl (zH.rf)
    · have q2 := c_2
      refine x_iload_n Γ dX1_spans_8 rfl ?_
      refine x_aload_n Γ dX1_spans_9 rfl ?_
      refine gf_X1_19 Γ dX1_spans_10 (by omega) (cW_s0 hj4) rfl ?_
      refine x_icmp_gt Γ (tgt := 30) dX1_spans_13 (by decide) (fun c_3 => ?_) (fun c_3 => ?_)
      · have hs_ : spB (R 5 j) a n = false := by rw [spB, decide_eq_false (fun z => absurd c_3 (Int32.not_lt.mpr z))]; simp
        refine x_iconst Γ (v := 0) dX1_spans_30 rfl ?_
        exact x_iret ρ rfl dX1_spans_31 (by first | exact zb_nz _ | rfl) (by rw [hs_]; try rfl) rfl (zH.rf)
      · have q3 := Int32.not_lt.mp c_3
        refine x_iload_n Γ dX1_spans_16 rfl ?_
        refine x_aload_n Γ dX1_spans_17 rfl ?_
        refine gf_X1_19 Γ dX1_spans_18 (by omega) (cW_s0 hj4) rfl ?_
        refine x_iload_n Γ dX1_spans_21 rfl ?_
        refine x_isub Γ dX1_spans_22 ?_
        refine x_icmp_gt Γ (tgt := 30) dX1_spans_23 (by decide) (fun c_4 => ?_) (fun c_4 => ?_)
        · have hs_ : spB (R 5 j) a n = false := by rw [spB, decide_eq_false (p := a ≤ R 5 j - n) (fun z => absurd c_4 (Int32.not_lt.mpr z))]; simp
          refine x_iconst Γ (v := 0) dX1_spans_30 rfl ?_
          exact x_iret ρ rfl dX1_spans_31 (by first | exact zb_nz _ | rfl) (by rw [hs_]; try rfl) rfl (zH.rf)
        · have hs_ : spB (R 5 j) a n = true := by rw [spB, decide_eq_false q1, decide_eq_false q2, decide_eq_true q3, decide_eq_true (Int32.not_lt.mp c_4)]; rfl
          refine x_iconst Γ (v := 1) dX1_spans_26 rfl ?_
          refine x_goto Γ (tgt := 31) dX1_spans_27 (by decide) ?_
          exact x_iret ρ rfl dX1_spans_31 (by first | exact zb_nz _ | rfl) (by rw [hs_]; try rfl) rfl (zH.rf)

set_option maxRecDepth 100000 in
set_option maxHeartbeats 4000000 in
theorem m_X3_sheet {g : Nat → zE} {T T2 T3 R : zT} {X : Nat → Int32} (s b n : Int32) : zMx 1 M_X3_sheet [.ref 0, .int s, .int b, .int n] (cW g T T2 T3 R X) 46 (some (.int (fr (fSh s b n) (if b = 0 then 0 else n)))) (cQ g (T) (T3) (gSh R s b n)) := by
  refine zMx.intro (by decide) (Nat.le_of_ble_eq_true rfl) ?_
  intro Wf V m H0 Γ ρ
  replace Γ : zC Wf V m 5 H0 cX3_sheet RX3 1 0 0 := Γ
  show zX Wf V m 5 H0 0 (zls [(0, .ref 0), (1, .int s), (2, .int b), (3, .int n)]) [] (cW g T T2 T3 R X) 46 0 0
  refine x_iload_n Γ dX3_sheet_0 rfl ?_
  refine x_if_eq Γ (tgt := 22) dX3_sheet_1 (by decide) (fun c_1 => ?_) (fun c_1 => ?_)
  · have hB : isB b = true := by rw [isB, decide_eq_true c_1]; rfl
    refine x_iconst Γ (v := 1) dX3_sheet_22 rfl ?_
    refine x_goto Γ (tgt := 27) dX3_sheet_23 (by decide) ?_
    refine x_istore Γ dX3_sheet_27 (by decide) ?_
    refine x_iload_n Γ dX3_sheet_29 rfl ?_
    refine x_callS Γ cals_X3_isSheet wl_X3_235 dX3_sheet_30 (m_X3_isSheet s) rfl (by decide) rfl (Nat.le_of_ble_eq_true rfl) (Nat.le_refl _) (Nat.le_refl _) ?_
    refine x_if_eq Γ (tgt := 41) dX3_sheet_33 (by decide) (fun c_2 => ?_) (fun c_2 => ?_)
    · have c_2 := zb_0.mp c_2
      have hF : fSh s b n = 0 := if_neg (fun z => by rw [c_2] at z; cases z.1)
      refine x_aload_n Γ dX3_sheet_41 rfl ?_
      refine x_iconst Γ (v := 0) dX3_sheet_42 rfl ?_
      refine x_callV Γ calv_X3_finding wl_X3_48 dX3_sheet_43 (m_X3_finding (g := g) (T := T) (T2 := T2) (T3 := T3) (R := R) (X := X) (f := 0) (by decide)) rfl (by decide) (by decide) (by rfl) rfl rfl rfl (Nat.le_of_ble_eq_true rfl) (Nat.le_refl _) (Nat.le_refl _) ?_
      exact x_iretx ρ rfl dX3_sheet_46 rfl (by rw [hF]; try rfl) (cQ_i (rfl) rfl (vis_tr (vis_e (by rw [gSh, if_neg (by rw [hF]; decide), hF])) vis_rf))
    · have c_2 := zb_n0.mp c_2
      obtain ⟨j, hj, rfl⟩ := inR_nI (n := 3) c_2 rfl (by omega)
      have ej : ci (nI j) = j := nI_clamp (by omega)
      have hj4 : j < 4 := by omega
      have hsj := c_2
      refine x_iload Γ dX3_sheet_36 rfl ?_
      refine x_if_ne Γ (tgt := 47) dX3_sheet_38 (by decide) (fun c_3 => ?_) (fun c_3 => ?_)
      · refine x_iload_n Γ dX3_sheet_47 rfl ?_
        refine x_if_ge Γ (tgt := 58) dX3_sheet_48 (by decide) (fun c_4 => ?_) (fun c_4 => ?_)
        · have n1 := Int32.not_lt.mpr c_4
          refine x_iload_n Γ dX3_sheet_58 rfl ?_
          refine x_bipush Γ (v := 40) dX3_sheet_59 rfl ?_
          refine x_icmp_le Γ (tgt := 70) dX3_sheet_61 (by decide) (fun c_5 => ?_) (fun c_5 => ?_)
          · have hF : fSh (nI j) b n = 7 := by rw [fSh, if_pos ⟨hsj, hB⟩, if_neg n1, if_neg (Int32.not_lt.mpr c_5)]
            refine x_aload_n Γ dX3_sheet_70 rfl ?_
            refine gf_X3_31 Γ dX3_sheet_71 (by decide) (by rfl) rfl ?_
            refine x_iload_n Γ dX3_sheet_74 rfl ?_
            refine x_aald Γ dX3_sheet_75 (by decide) (show _ = zR 4 (fun i => some (28 + 2 * i)) from rfl) rfl (by omega) (by decide) rfl ?_
            refine x_iload_n Γ dX3_sheet_76 rfl ?_
            refine x_iload_n Γ dX3_sheet_77 rfl ?_
            refine x_if_ne Γ (tgt := 85) dX3_sheet_78 (by decide) (fun c_6 => ?_) (fun c_6 => ?_)
            · have e0 : (n = if b = 0 then 0 else n) := (if_neg c_6).symm
              refine x_iload_n Γ dX3_sheet_85 rfl ?_
              refine x_st (show _ = (.int (if b = 0 then 0 else n) :: .int b :: .ref (28 + 2 * j) :: []) by rw [← e0]) ?_
              refine x_callVv Γ calv_X1_renew wl_X3_238 dX3_sheet_86 (m_X1_renew (g := g) (T := T) (T2 := T2) (T3 := T3) (R := R) (X := X) hj4 b (if b = 0 then 0 else n)) rfl (by decide) (by omega) (cW_s0 hj4) rfl rfl rfl (Nat.le_of_ble_eq_true rfl) (Nat.le_refl _) (Nat.le_refl _) ?_
              refine x_aload_n Γ dX3_sheet_89 rfl ?_
              refine gf_X3_31 Γ dX3_sheet_90 (by decide) (by rfl) rfl ?_
              refine x_iload_n Γ dX3_sheet_93 rfl ?_
              refine x_aald Γ dX3_sheet_94 (by decide) (show _ = zR 4 (fun i => some (28 + 2 * i)) from rfl) rfl (by omega) (by decide) rfl ?_
              refine gf_X3_241 Γ dX3_sheet_95 (by omega) (cW_s0 hj4) rfl ?_
              rw [zeR_n (by decide), ts_s]
              exact x_iretx ρ rfl dX3_sheet_98 rfl (by rw [hF]; try rfl) (cQ_i (rfl) rfl (vis_tr (vis_e (by rw [gSh, if_pos hF, ej, shR])) vis_rf))
            · have e0 : ((0 : Int32) = if b = 0 then 0 else n) := (if_pos c_6).symm
              refine x_iconst Γ (v := 0) dX3_sheet_81 rfl ?_
              refine x_goto Γ (tgt := 86) dX3_sheet_82 (by decide) ?_
              refine x_st (show _ = (.int (if b = 0 then 0 else n) :: .int b :: .ref (28 + 2 * j) :: []) by rw [← e0]) ?_
              refine x_callVv Γ calv_X1_renew wl_X3_238 dX3_sheet_86 (m_X1_renew (g := g) (T := T) (T2 := T2) (T3 := T3) (R := R) (X := X) hj4 b (if b = 0 then 0 else n)) rfl (by decide) (by omega) (cW_s0 hj4) rfl rfl rfl (Nat.le_of_ble_eq_true rfl) (Nat.le_refl _) (Nat.le_refl _) ?_
              refine x_aload_n Γ dX3_sheet_89 rfl ?_
              refine gf_X3_31 Γ dX3_sheet_90 (by decide) (by rfl) rfl ?_
              refine x_iload_n Γ dX3_sheet_93 rfl ?_
              refine x_aald Γ dX3_sheet_94 (by decide) (show _ = zR 4 (fun i => some (28 + 2 * i)) from rfl) rfl (by omega) (by decide) rfl ?_
              refine gf_X3_241 Γ dX3_sheet_95 (by omega) (cW_s0 hj4) rfl ?_
              rw [zeR_n (by decide), ts_s]
              exact x_iretx ρ rfl dX3_sheet_98 rfl (by rw [hF]; try rfl) (cQ_i (rfl) rfl (vis_tr (vis_e (by rw [gSh, if_pos hF, ej, shR])) vis_rf))
          · have hF : fSh (nI j) b n = 0 := by rw [fSh, if_pos ⟨hsj, hB⟩, if_neg n1, if_pos (Int32.not_le.mp c_5)]
            refine x_aload_n Γ dX3_sheet_64 rfl ?_
            refine x_iconst Γ (v := 0) dX3_sheet_65 rfl ?_
            refine x_callV Γ calv_X3_finding wl_X3_48 dX3_sheet_66 (m_X3_finding (g := g) (T := T) (T2 := T2) (T3 := T3) (R := R) (X := X) (f := 0) (by decide)) rfl (by decide) (by decide) (by rfl) rfl rfl rfl (Nat.le_of_ble_eq_true rfl) (Nat.le_refl _) (Nat.le_refl _) ?_
            exact x_iretx ρ rfl dX3_sheet_69 rfl (by rw [hF]; try rfl) (cQ_i (rfl) rfl (vis_tr (vis_e (by rw [gSh, if_neg (by rw [hF]; decide), hF])) vis_rf))
        · have hF : fSh (nI j) b n = 6 := by rw [fSh, if_pos ⟨hsj, hB⟩, if_pos (Int32.not_le.mp c_4)]
          refine x_aload_n Γ dX3_sheet_51 rfl ?_
          refine x_bipush Γ (v := 6) dX3_sheet_52 rfl ?_
          refine x_callV Γ calv_X3_finding wl_X3_48 dX3_sheet_54 (m_X3_finding (g := g) (T := T) (T2 := T2) (T3 := T3) (R := R) (X := X) (f := 6) (by decide)) rfl (by decide) (by decide) (by rfl) rfl rfl rfl (Nat.le_of_ble_eq_true rfl) (Nat.le_refl _) (Nat.le_refl _) ?_
          exact x_iretx ρ rfl dX3_sheet_57 rfl (by rw [hF]; try rfl) (cQ_i (rfl) rfl (vis_tr (vis_e (by rw [gSh, if_neg (by rw [hF]; decide), hF])) vis_rf))
      · exact absurd c_3 (by decide)
  · have b1 := c_1
    refine x_iload_n Γ dX3_sheet_4 rfl ?_
    refine x_bipush Γ (v := 8) dX3_sheet_5 rfl ?_
    refine x_icmp_eq Γ (tgt := 22) dX3_sheet_7 (by decide) (fun c_7 => ?_) (fun c_7 => ?_)
    · have hB : isB b = true := by rw [isB, decide_eq_true (p := b = 8) c_7]; simp
      refine x_iconst Γ (v := 1) dX3_sheet_22 rfl ?_
      refine x_goto Γ (tgt := 27) dX3_sheet_23 (by decide) ?_
      refine x_istore Γ dX3_sheet_27 (by decide) ?_
      refine x_iload_n Γ dX3_sheet_29 rfl ?_
      refine x_callS Γ cals_X3_isSheet wl_X3_235 dX3_sheet_30 (m_X3_isSheet s) rfl (by decide) rfl (Nat.le_of_ble_eq_true rfl) (Nat.le_refl _) (Nat.le_refl _) ?_
      refine x_if_eq Γ (tgt := 41) dX3_sheet_33 (by decide) (fun c_8 => ?_) (fun c_8 => ?_)
      · have c_8 := zb_0.mp c_8
        have hF : fSh s b n = 0 := if_neg (fun z => by rw [c_8] at z; cases z.1)
        refine x_aload_n Γ dX3_sheet_41 rfl ?_
        refine x_iconst Γ (v := 0) dX3_sheet_42 rfl ?_
        refine x_callV Γ calv_X3_finding wl_X3_48 dX3_sheet_43 (m_X3_finding (g := g) (T := T) (T2 := T2) (T3 := T3) (R := R) (X := X) (f := 0) (by decide)) rfl (by decide) (by decide) (by rfl) rfl rfl rfl (Nat.le_of_ble_eq_true rfl) (Nat.le_refl _) (Nat.le_refl _) ?_
        exact x_iretx ρ rfl dX3_sheet_46 rfl (by rw [hF]; try rfl) (cQ_i (rfl) rfl (vis_tr (vis_e (by rw [gSh, if_neg (by rw [hF]; decide), hF])) vis_rf))
      · have c_8 := zb_n0.mp c_8
        obtain ⟨j, hj, rfl⟩ := inR_nI (n := 3) c_8 rfl (by omega)
        have ej : ci (nI j) = j := nI_clamp (by omega)
        have hj4 : j < 4 := by omega
        have hsj := c_8
        refine x_iload Γ dX3_sheet_36 rfl ?_
        refine x_if_ne Γ (tgt := 47) dX3_sheet_38 (by decide) (fun c_9 => ?_) (fun c_9 => ?_)
        · refine x_iload_n Γ dX3_sheet_47 rfl ?_
          refine x_if_ge Γ (tgt := 58) dX3_sheet_48 (by decide) (fun c_10 => ?_) (fun c_10 => ?_)
          · have n1 := Int32.not_lt.mpr c_10
            refine x_iload_n Γ dX3_sheet_58 rfl ?_
            refine x_bipush Γ (v := 40) dX3_sheet_59 rfl ?_
            refine x_icmp_le Γ (tgt := 70) dX3_sheet_61 (by decide) (fun c_11 => ?_) (fun c_11 => ?_)
            · have hF : fSh (nI j) b n = 7 := by rw [fSh, if_pos ⟨hsj, hB⟩, if_neg n1, if_neg (Int32.not_lt.mpr c_11)]
              refine x_aload_n Γ dX3_sheet_70 rfl ?_
              refine gf_X3_31 Γ dX3_sheet_71 (by decide) (by rfl) rfl ?_
              refine x_iload_n Γ dX3_sheet_74 rfl ?_
              refine x_aald Γ dX3_sheet_75 (by decide) (show _ = zR 4 (fun i => some (28 + 2 * i)) from rfl) rfl (by omega) (by decide) rfl ?_
              refine x_iload_n Γ dX3_sheet_76 rfl ?_
              refine x_iload_n Γ dX3_sheet_77 rfl ?_
              refine x_if_ne Γ (tgt := 85) dX3_sheet_78 (by decide) (fun c_12 => ?_) (fun c_12 => ?_)
              · have e0 : (n = if b = 0 then 0 else n) := (if_neg c_12).symm
                refine x_iload_n Γ dX3_sheet_85 rfl ?_
                refine x_st (show _ = (.int (if b = 0 then 0 else n) :: .int b :: .ref (28 + 2 * j) :: []) by rw [← e0]) ?_
                refine x_callVv Γ calv_X1_renew wl_X3_238 dX3_sheet_86 (m_X1_renew (g := g) (T := T) (T2 := T2) (T3 := T3) (R := R) (X := X) hj4 b (if b = 0 then 0 else n)) rfl (by decide) (by omega) (cW_s0 hj4) rfl rfl rfl (Nat.le_of_ble_eq_true rfl) (Nat.le_refl _) (Nat.le_refl _) ?_
                refine x_aload_n Γ dX3_sheet_89 rfl ?_
                refine gf_X3_31 Γ dX3_sheet_90 (by decide) (by rfl) rfl ?_
                refine x_iload_n Γ dX3_sheet_93 rfl ?_
                refine x_aald Γ dX3_sheet_94 (by decide) (show _ = zR 4 (fun i => some (28 + 2 * i)) from rfl) rfl (by omega) (by decide) rfl ?_
                refine gf_X3_241 Γ dX3_sheet_95 (by omega) (cW_s0 hj4) rfl ?_
                rw [zeR_n (by decide), ts_s]
                exact x_iretx ρ rfl dX3_sheet_98 rfl (by rw [hF]; try rfl) (cQ_i (rfl) rfl (vis_tr (vis_e (by rw [gSh, if_pos hF, ej, shR])) vis_rf))
              · have e0 : ((0 : Int32) = if b = 0 then 0 else n) := (if_pos c_12).symm
                refine x_iconst Γ (v := 0) dX3_sheet_81 rfl ?_
                refine x_goto Γ (tgt := 86) dX3_sheet_82 (by decide) ?_
                refine x_st (show _ = (.int (if b = 0 then 0 else n) :: .int b :: .ref (28 + 2 * j) :: []) by rw [← e0]) ?_
                refine x_callVv Γ calv_X1_renew wl_X3_238 dX3_sheet_86 (m_X1_renew (g := g) (T := T) (T2 := T2) (T3 := T3) (R := R) (X := X) hj4 b (if b = 0 then 0 else n)) rfl (by decide) (by omega) (cW_s0 hj4) rfl rfl rfl (Nat.le_of_ble_eq_true rfl) (Nat.le_refl _) (Nat.le_refl _) ?_
                refine x_aload_n Γ dX3_sheet_89 rfl ?_
                refine gf_X3_31 Γ dX3_sheet_90 (by decide) (by rfl) rfl ?_
                refine x_iload_n Γ dX3_sheet_93 rfl ?_
                refine x_aald Γ dX3_sheet_94 (by decide) (show _ = zR 4 (fun i => some (28 + 2 * i)) from rfl) rfl (by omega) (by decide) rfl ?_
                refine gf_X3_241 Γ dX3_sheet_95 (by omega) (cW_s0 hj4) rfl ?_
                rw [zeR_n (by decide), ts_s]
                exact x_iretx ρ rfl dX3_sheet_98 rfl (by rw [hF]; try rfl) (cQ_i (rfl) rfl (vis_tr (vis_e (by rw [gSh, if_pos hF, ej, shR])) vis_rf))
            · have hF : fSh (nI j) b n = 0 := by rw [fSh, if_pos ⟨hsj, hB⟩, if_neg n1, if_pos (Int32.not_le.mp c_11)]
              refine x_aload_n Γ dX3_sheet_64 rfl ?_
              refine x_iconst Γ (v := 0) dX3_sheet_65 rfl ?_
              refine x_callV Γ calv_X3_finding wl_X3_48 dX3_sheet_66 (m_X3_finding (g := g) (T := T) (T2 := T2) (T3 := T3) (R := R) (X := X) (f := 0) (by decide)) rfl (by decide) (by decide) (by rfl) rfl rfl rfl (Nat.le_of_ble_eq_true rfl) (Nat.le_refl _) (Nat.le_refl _) ?_
              exact x_iretx ρ rfl dX3_sheet_69 rfl (by rw [hF]; try rfl) (cQ_i (rfl) rfl (vis_tr (vis_e (by rw [gSh, if_neg (by rw [hF]; decide), hF])) vis_rf))
          · have hF : fSh (nI j) b n = 6 := by rw [fSh, if_pos ⟨hsj, hB⟩, if_pos (Int32.not_le.mp c_10)]
            refine x_aload_n Γ dX3_sheet_51 rfl ?_
            refine x_bipush Γ (v := 6) dX3_sheet_52 rfl ?_
            refine x_callV Γ calv_X3_finding wl_X3_48 dX3_sheet_54 (m_X3_finding (g := g) (T := T) (T2 := T2) (T3 := T3) (R := R) (X := X) (f := 6) (by decide)) rfl (by decide) (by decide) (by rfl) rfl rfl rfl (Nat.le_of_ble_eq_true rfl) (Nat.le_refl _) (Nat.le_refl _) ?_
            exact x_iretx ρ rfl dX3_sheet_57 rfl (by rw [hF]; try rfl) (cQ_i (rfl) rfl (vis_tr (vis_e (by rw [gSh, if_neg (by rw [hF]; decide), hF])) vis_rf))
        · exact absurd c_9 (by decide)
    · have b2 := c_7
      refine x_iload_n Γ dX3_sheet_10 rfl ?_
      refine x_bipush Γ (v := 16) dX3_sheet_11 rfl ?_
      refine x_icmp_eq Γ (tgt := 22) dX3_sheet_13 (by decide) (fun c_13 => ?_) (fun c_13 => ?_)
      · have hB : isB b = true := by rw [isB, decide_eq_true (p := b = 16) c_13]; simp
        refine x_iconst Γ (v := 1) dX3_sheet_22 rfl ?_
        refine x_goto Γ (tgt := 27) dX3_sheet_23 (by decide) ?_
        refine x_istore Γ dX3_sheet_27 (by decide) ?_
        refine x_iload_n Γ dX3_sheet_29 rfl ?_
        refine x_callS Γ cals_X3_isSheet wl_X3_235 dX3_sheet_30 (m_X3_isSheet s) rfl (by decide) rfl (Nat.le_of_ble_eq_true rfl) (Nat.le_refl _) (Nat.le_refl _) ?_
        refine x_if_eq Γ (tgt := 41) dX3_sheet_33 (by decide) (fun c_14 => ?_) (fun c_14 => ?_)
        · have c_14 := zb_0.mp c_14
          have hF : fSh s b n = 0 := if_neg (fun z => by rw [c_14] at z; cases z.1)
          refine x_aload_n Γ dX3_sheet_41 rfl ?_
          refine x_iconst Γ (v := 0) dX3_sheet_42 rfl ?_
          refine x_callV Γ calv_X3_finding wl_X3_48 dX3_sheet_43 (m_X3_finding (g := g) (T := T) (T2 := T2) (T3 := T3) (R := R) (X := X) (f := 0) (by decide)) rfl (by decide) (by decide) (by rfl) rfl rfl rfl (Nat.le_of_ble_eq_true rfl) (Nat.le_refl _) (Nat.le_refl _) ?_
          exact x_iretx ρ rfl dX3_sheet_46 rfl (by rw [hF]; try rfl) (cQ_i (rfl) rfl (vis_tr (vis_e (by rw [gSh, if_neg (by rw [hF]; decide), hF])) vis_rf))
        · have c_14 := zb_n0.mp c_14
          obtain ⟨j, hj, rfl⟩ := inR_nI (n := 3) c_14 rfl (by omega)
          have ej : ci (nI j) = j := nI_clamp (by omega)
          have hj4 : j < 4 := by omega
          have hsj := c_14
          refine x_iload Γ dX3_sheet_36 rfl ?_
          refine x_if_ne Γ (tgt := 47) dX3_sheet_38 (by decide) (fun c_15 => ?_) (fun c_15 => ?_)
          · refine x_iload_n Γ dX3_sheet_47 rfl ?_
            refine x_if_ge Γ (tgt := 58) dX3_sheet_48 (by decide) (fun c_16 => ?_) (fun c_16 => ?_)
            · have n1 := Int32.not_lt.mpr c_16
              refine x_iload_n Γ dX3_sheet_58 rfl ?_
              refine x_bipush Γ (v := 40) dX3_sheet_59 rfl ?_
              refine x_icmp_le Γ (tgt := 70) dX3_sheet_61 (by decide) (fun c_17 => ?_) (fun c_17 => ?_)
              · have hF : fSh (nI j) b n = 7 := by rw [fSh, if_pos ⟨hsj, hB⟩, if_neg n1, if_neg (Int32.not_lt.mpr c_17)]
                refine x_aload_n Γ dX3_sheet_70 rfl ?_
                refine gf_X3_31 Γ dX3_sheet_71 (by decide) (by rfl) rfl ?_
                refine x_iload_n Γ dX3_sheet_74 rfl ?_
                refine x_aald Γ dX3_sheet_75 (by decide) (show _ = zR 4 (fun i => some (28 + 2 * i)) from rfl) rfl (by omega) (by decide) rfl ?_
                refine x_iload_n Γ dX3_sheet_76 rfl ?_
                refine x_iload_n Γ dX3_sheet_77 rfl ?_
                refine x_if_ne Γ (tgt := 85) dX3_sheet_78 (by decide) (fun c_18 => ?_) (fun c_18 => ?_)
                · have e0 : (n = if b = 0 then 0 else n) := (if_neg c_18).symm
                  refine x_iload_n Γ dX3_sheet_85 rfl ?_
                  refine x_st (show _ = (.int (if b = 0 then 0 else n) :: .int b :: .ref (28 + 2 * j) :: []) by rw [← e0]) ?_
                  refine x_callVv Γ calv_X1_renew wl_X3_238 dX3_sheet_86 (m_X1_renew (g := g) (T := T) (T2 := T2) (T3 := T3) (R := R) (X := X) hj4 b (if b = 0 then 0 else n)) rfl (by decide) (by omega) (cW_s0 hj4) rfl rfl rfl (Nat.le_of_ble_eq_true rfl) (Nat.le_refl _) (Nat.le_refl _) ?_
                  refine x_aload_n Γ dX3_sheet_89 rfl ?_
                  refine gf_X3_31 Γ dX3_sheet_90 (by decide) (by rfl) rfl ?_
                  refine x_iload_n Γ dX3_sheet_93 rfl ?_
                  refine x_aald Γ dX3_sheet_94 (by decide) (show _ = zR 4 (fun i => some (28 + 2 * i)) from rfl) rfl (by omega) (by decide) rfl ?_
                  refine gf_X3_241 Γ dX3_sheet_95 (by omega) (cW_s0 hj4) rfl ?_
                  rw [zeR_n (by decide), ts_s]
                  exact x_iretx ρ rfl dX3_sheet_98 rfl (by rw [hF]; try rfl) (cQ_i (rfl) rfl (vis_tr (vis_e (by rw [gSh, if_pos hF, ej, shR])) vis_rf))
                · have e0 : ((0 : Int32) = if b = 0 then 0 else n) := (if_pos c_18).symm
                  refine x_iconst Γ (v := 0) dX3_sheet_81 rfl ?_
                  refine x_goto Γ (tgt := 86) dX3_sheet_82 (by decide) ?_
                  refine x_st (show _ = (.int (if b = 0 then 0 else n) :: .int b :: .ref (28 + 2 * j) :: []) by rw [← e0]) ?_
                  refine x_callVv Γ calv_X1_renew wl_X3_238 dX3_sheet_86 (m_X1_renew (g := g) (T := T) (T2 := T2) (T3 := T3) (R := R) (X := X) hj4 b (if b = 0 then 0 else n)) rfl (by decide) (by omega) (cW_s0 hj4) rfl rfl rfl (Nat.le_of_ble_eq_true rfl) (Nat.le_refl _) (Nat.le_refl _) ?_
                  refine x_aload_n Γ dX3_sheet_89 rfl ?_
                  refine gf_X3_31 Γ dX3_sheet_90 (by decide) (by rfl) rfl ?_
                  refine x_iload_n Γ dX3_sheet_93 rfl ?_
                  refine x_aald Γ dX3_sheet_94 (by decide) (show _ = zR 4 (fun i => some (28 + 2 * i)) from rfl) rfl (by omega) (by decide) rfl ?_
                  refine gf_X3_241 Γ dX3_sheet_95 (by omega) (cW_s0 hj4) rfl ?_
                  rw [zeR_n (by decide), ts_s]
                  exact x_iretx ρ rfl dX3_sheet_98 rfl (by rw [hF]; try rfl) (cQ_i (rfl) rfl (vis_tr (vis_e (by rw [gSh, if_pos hF, ej, shR])) vis_rf))
              · have hF : fSh (nI j) b n = 0 := by rw [fSh, if_pos ⟨hsj, hB⟩, if_neg n1, if_pos (Int32.not_le.mp c_17)]
                refine x_aload_n Γ dX3_sheet_64 rfl ?_
                refine x_iconst Γ (v := 0) dX3_sheet_65 rfl ?_
                refine x_callV Γ calv_X3_finding wl_X3_48 dX3_sheet_66 (m_X3_finding (g := g) (T := T) (T2 := T2) (T3 := T3) (R := R) (X := X) (f := 0) (by decide)) rfl (by decide) (by decide) (by rfl) rfl rfl rfl (Nat.le_of_ble_eq_true rfl) (Nat.le_refl _) (Nat.le_refl _) ?_
                exact x_iretx ρ rfl dX3_sheet_69 rfl (by rw [hF]; try rfl) (cQ_i (rfl) rfl (vis_tr (vis_e (by rw [gSh, if_neg (by rw [hF]; decide), hF])) vis_rf))
            · have hF : fSh (nI j) b n = 6 := by rw [fSh, if_pos ⟨hsj, hB⟩, if_pos (Int32.not_le.mp c_16)]
              refine x_aload_n Γ dX3_sheet_51 rfl ?_
              refine x_bipush Γ (v := 6) dX3_sheet_52 rfl ?_
              refine x_callV Γ calv_X3_finding wl_X3_48 dX3_sheet_54 (m_X3_finding (g := g) (T := T) (T2 := T2) (T3 := T3) (R := R) (X := X) (f := 6) (by decide)) rfl (by decide) (by decide) (by rfl) rfl rfl rfl (Nat.le_of_ble_eq_true rfl) (Nat.le_refl _) (Nat.le_refl _) ?_
              exact x_iretx ρ rfl dX3_sheet_57 rfl (by rw [hF]; try rfl) (cQ_i (rfl) rfl (vis_tr (vis_e (by rw [gSh, if_neg (by rw [hF]; decide), hF])) vis_rf))
          · exact absurd c_15 (by decide)
      · have b3 := c_13
        refine x_iload_n Γ dX3_sheet_16 rfl ?_
        refine x_bipush Γ (v := 32) dX3_sheet_17 rfl ?_
        refine x_icmp_ne Γ (tgt := 26) dX3_sheet_19 (by decide) (fun c_19 => ?_) (fun c_19 => ?_)
        · have hB : isB b = false := by rw [isB, decide_eq_false b1, decide_eq_false b2, decide_eq_false b3, decide_eq_false c_19]; rfl
          refine x_iconst Γ (v := 0) dX3_sheet_26 rfl ?_
          refine x_istore Γ dX3_sheet_27 (by decide) ?_
          refine x_iload_n Γ dX3_sheet_29 rfl ?_
          refine x_callS Γ cals_X3_isSheet wl_X3_235 dX3_sheet_30 (m_X3_isSheet s) rfl (by decide) rfl (Nat.le_of_ble_eq_true rfl) (Nat.le_refl _) (Nat.le_refl _) ?_
          refine x_if_eq Γ (tgt := 41) dX3_sheet_33 (by decide) (fun c_20 => ?_) (fun c_20 => ?_)
          · have c_20 := zb_0.mp c_20
            have hF : fSh s b n = 0 := if_neg (fun z => by rw [c_20] at z; cases z.1)
            refine x_aload_n Γ dX3_sheet_41 rfl ?_
            refine x_iconst Γ (v := 0) dX3_sheet_42 rfl ?_
            refine x_callV Γ calv_X3_finding wl_X3_48 dX3_sheet_43 (m_X3_finding (g := g) (T := T) (T2 := T2) (T3 := T3) (R := R) (X := X) (f := 0) (by decide)) rfl (by decide) (by decide) (by rfl) rfl rfl rfl (Nat.le_of_ble_eq_true rfl) (Nat.le_refl _) (Nat.le_refl _) ?_
            exact x_iretx ρ rfl dX3_sheet_46 rfl (by rw [hF]; try rfl) (cQ_i (rfl) rfl (vis_tr (vis_e (by rw [gSh, if_neg (by rw [hF]; decide), hF])) vis_rf))
          · have c_20 := zb_n0.mp c_20
            obtain ⟨j, hj, rfl⟩ := inR_nI (n := 3) c_20 rfl (by omega)
            have ej : ci (nI j) = j := nI_clamp (by omega)
            have hj4 : j < 4 := by omega
            have hsj := c_20
            refine x_iload Γ dX3_sheet_36 rfl ?_
            refine x_if_ne Γ (tgt := 47) dX3_sheet_38 (by decide) (fun c_21 => ?_) (fun c_21 => ?_)
            · exact absurd rfl c_21
            · have hF : fSh (nI j) b n = 0 := if_neg (fun z => by rw [hB] at z; cases z.2)
              refine x_aload_n Γ dX3_sheet_41 rfl ?_
              refine x_iconst Γ (v := 0) dX3_sheet_42 rfl ?_
              refine x_callV Γ calv_X3_finding wl_X3_48 dX3_sheet_43 (m_X3_finding (g := g) (T := T) (T2 := T2) (T3 := T3) (R := R) (X := X) (f := 0) (by decide)) rfl (by decide) (by decide) (by rfl) rfl rfl rfl (Nat.le_of_ble_eq_true rfl) (Nat.le_refl _) (Nat.le_refl _) ?_
              exact x_iretx ρ rfl dX3_sheet_46 rfl (by rw [hF]; try rfl) (cQ_i (rfl) rfl (vis_tr (vis_e (by rw [gSh, if_neg (by rw [hF]; decide), hF])) vis_rf))
        · have hB : isB b = true := by rw [isB, decide_eq_true (p := b = 32) c_19]; simp
          refine x_iconst Γ (v := 1) dX3_sheet_22 rfl ?_
          refine x_goto Γ (tgt := 27) dX3_sheet_23 (by decide) ?_
          refine x_istore Γ dX3_sheet_27 (by decide) ?_
          refine x_iload_n Γ dX3_sheet_29 rfl ?_
          refine x_callS Γ cals_X3_isSheet wl_X3_235 dX3_sheet_30 (m_X3_isSheet s) rfl (by decide) rfl (Nat.le_of_ble_eq_true rfl) (Nat.le_refl _) (Nat.le_refl _) ?_
          refine x_if_eq Γ (tgt := 41) dX3_sheet_33 (by decide) (fun c_22 => ?_) (fun c_22 => ?_)
          · have c_22 := zb_0.mp c_22
            have hF : fSh s b n = 0 := if_neg (fun z => by rw [c_22] at z; cases z.1)
            refine x_aload_n Γ dX3_sheet_41 rfl ?_
            refine x_iconst Γ (v := 0) dX3_sheet_42 rfl ?_
            refine x_callV Γ calv_X3_finding wl_X3_48 dX3_sheet_43 (m_X3_finding (g := g) (T := T) (T2 := T2) (T3 := T3) (R := R) (X := X) (f := 0) (by decide)) rfl (by decide) (by decide) (by rfl) rfl rfl rfl (Nat.le_of_ble_eq_true rfl) (Nat.le_refl _) (Nat.le_refl _) ?_
            exact x_iretx ρ rfl dX3_sheet_46 rfl (by rw [hF]; try rfl) (cQ_i (rfl) rfl (vis_tr (vis_e (by rw [gSh, if_neg (by rw [hF]; decide), hF])) vis_rf))
          · have c_22 := zb_n0.mp c_22
            obtain ⟨j, hj, rfl⟩ := inR_nI (n := 3) c_22 rfl (by omega)
            have ej : ci (nI j) = j := nI_clamp (by omega)
            have hj4 : j < 4 := by omega
            have hsj := c_22
            refine x_iload Γ dX3_sheet_36 rfl ?_
            refine x_if_ne Γ (tgt := 47) dX3_sheet_38 (by decide) (fun c_23 => ?_) (fun c_23 => ?_)
            · refine x_iload_n Γ dX3_sheet_47 rfl ?_
              refine x_if_ge Γ (tgt := 58) dX3_sheet_48 (by decide) (fun c_24 => ?_) (fun c_24 => ?_)
              · have n1 := Int32.not_lt.mpr c_24
                refine x_iload_n Γ dX3_sheet_58 rfl ?_
                refine x_bipush Γ (v := 40) dX3_sheet_59 rfl ?_
                refine x_icmp_le Γ (tgt := 70) dX3_sheet_61 (by decide) (fun c_25 => ?_) (fun c_25 => ?_)
                · have hF : fSh (nI j) b n = 7 := by rw [fSh, if_pos ⟨hsj, hB⟩, if_neg n1, if_neg (Int32.not_lt.mpr c_25)]
                  refine x_aload_n Γ dX3_sheet_70 rfl ?_
                  refine gf_X3_31 Γ dX3_sheet_71 (by decide) (by rfl) rfl ?_
                  refine x_iload_n Γ dX3_sheet_74 rfl ?_
                  refine x_aald Γ dX3_sheet_75 (by decide) (show _ = zR 4 (fun i => some (28 + 2 * i)) from rfl) rfl (by omega) (by decide) rfl ?_
                  refine x_iload_n Γ dX3_sheet_76 rfl ?_
                  refine x_iload_n Γ dX3_sheet_77 rfl ?_
                  refine x_if_ne Γ (tgt := 85) dX3_sheet_78 (by decide) (fun c_26 => ?_) (fun c_26 => ?_)
                  · have e0 : (n = if b = 0 then 0 else n) := (if_neg c_26).symm
                    refine x_iload_n Γ dX3_sheet_85 rfl ?_
                    refine x_st (show _ = (.int (if b = 0 then 0 else n) :: .int b :: .ref (28 + 2 * j) :: []) by rw [← e0]) ?_
                    refine x_callVv Γ calv_X1_renew wl_X3_238 dX3_sheet_86 (m_X1_renew (g := g) (T := T) (T2 := T2) (T3 := T3) (R := R) (X := X) hj4 b (if b = 0 then 0 else n)) rfl (by decide) (by omega) (cW_s0 hj4) rfl rfl rfl (Nat.le_of_ble_eq_true rfl) (Nat.le_refl _) (Nat.le_refl _) ?_
                    refine x_aload_n Γ dX3_sheet_89 rfl ?_
                    refine gf_X3_31 Γ dX3_sheet_90 (by decide) (by rfl) rfl ?_
                    refine x_iload_n Γ dX3_sheet_93 rfl ?_
                    refine x_aald Γ dX3_sheet_94 (by decide) (show _ = zR 4 (fun i => some (28 + 2 * i)) from rfl) rfl (by omega) (by decide) rfl ?_
                    refine gf_X3_241 Γ dX3_sheet_95 (by omega) (cW_s0 hj4) rfl ?_
                    rw [zeR_n (by decide), ts_s]
                    exact x_iretx ρ rfl dX3_sheet_98 rfl (by rw [hF]; try rfl) (cQ_i (rfl) rfl (vis_tr (vis_e (by rw [gSh, if_pos hF, ej, shR])) vis_rf))
                  · have e0 : ((0 : Int32) = if b = 0 then 0 else n) := (if_pos c_26).symm
                    refine x_iconst Γ (v := 0) dX3_sheet_81 rfl ?_
                    refine x_goto Γ (tgt := 86) dX3_sheet_82 (by decide) ?_
                    refine x_st (show _ = (.int (if b = 0 then 0 else n) :: .int b :: .ref (28 + 2 * j) :: []) by rw [← e0]) ?_
                    refine x_callVv Γ calv_X1_renew wl_X3_238 dX3_sheet_86 (m_X1_renew (g := g) (T := T) (T2 := T2) (T3 := T3) (R := R) (X := X) hj4 b (if b = 0 then 0 else n)) rfl (by decide) (by omega) (cW_s0 hj4) rfl rfl rfl (Nat.le_of_ble_eq_true rfl) (Nat.le_refl _) (Nat.le_refl _) ?_
                    refine x_aload_n Γ dX3_sheet_89 rfl ?_
                    refine gf_X3_31 Γ dX3_sheet_90 (by decide) (by rfl) rfl ?_
                    refine x_iload_n Γ dX3_sheet_93 rfl ?_
                    refine x_aald Γ dX3_sheet_94 (by decide) (show _ = zR 4 (fun i => some (28 + 2 * i)) from rfl) rfl (by omega) (by decide) rfl ?_
                    refine gf_X3_241 Γ dX3_sheet_95 (by omega) (cW_s0 hj4) rfl ?_
                    rw [zeR_n (by decide), ts_s]
                    exact x_iretx ρ rfl dX3_sheet_98 rfl (by rw [hF]; try rfl) (cQ_i (rfl) rfl (vis_tr (vis_e (by rw [gSh, if_pos hF, ej, shR])) vis_rf))
                · have hF : fSh (nI j) b n = 0 := by rw [fSh, if_pos ⟨hsj, hB⟩, if_neg n1, if_pos (Int32.not_le.mp c_25)]
                  refine x_aload_n Γ dX3_sheet_64 rfl ?_
                  refine x_iconst Γ (v := 0) dX3_sheet_65 rfl ?_
                  refine x_callV Γ calv_X3_finding wl_X3_48 dX3_sheet_66 (m_X3_finding (g := g) (T := T) (T2 := T2) (T3 := T3) (R := R) (X := X) (f := 0) (by decide)) rfl (by decide) (by decide) (by rfl) rfl rfl rfl (Nat.le_of_ble_eq_true rfl) (Nat.le_refl _) (Nat.le_refl _) ?_
                  exact x_iretx ρ rfl dX3_sheet_69 rfl (by rw [hF]; try rfl) (cQ_i (rfl) rfl (vis_tr (vis_e (by rw [gSh, if_neg (by rw [hF]; decide), hF])) vis_rf))
              · have hF : fSh (nI j) b n = 6 := by rw [fSh, if_pos ⟨hsj, hB⟩, if_pos (Int32.not_le.mp c_24)]
                refine x_aload_n Γ dX3_sheet_51 rfl ?_
                refine x_bipush Γ (v := 6) dX3_sheet_52 rfl ?_
                refine x_callV Γ calv_X3_finding wl_X3_48 dX3_sheet_54 (m_X3_finding (g := g) (T := T) (T2 := T2) (T3 := T3) (R := R) (X := X) (f := 6) (by decide)) rfl (by decide) (by decide) (by rfl) rfl rfl rfl (Nat.le_of_ble_eq_true rfl) (Nat.le_refl _) (Nat.le_refl _) ?_
                exact x_iretx ρ rfl dX3_sheet_57 rfl (by rw [hF]; try rfl) (cQ_i (rfl) rfl (vis_tr (vis_e (by rw [gSh, if_neg (by rw [hF]; decide), hF])) vis_rf))
            · exact absurd c_23 (by decide)

theorem fSb_7 {R : zT} {s : Int32} (h : fSb R s = 7) : inR s 0 3 = true ∧ ¬ R 4 (ci s) = 0 := by
  unfold fSb at h
  by_cases h1 : inR s 0 3 = true
  · rw [if_pos h1] at h
    by_cases h2 : R 4 (ci s) = 0
    · rw [if_pos h2] at h; omega
    · exact ⟨h1, h2⟩
  · rw [if_neg h1] at h; omega
theorem fSb_c {R : zT} {s : Int32} (h : fSb R s ≠ 7) : (inR s 0 3 = true ∧ R 4 (ci s) = 0 ∧ fSb R s = 5) ∨ (¬ inR s 0 3 = true ∧ fSb R s = 0) := by
  unfold fSb at h ⊢
  by_cases h1 : inR s 0 3 = true
  · rw [if_pos h1] at h ⊢
    by_cases h2 : R 4 (ci s) = 0
    · rw [if_pos h2]; exact Or.inl ⟨h1, h2, rfl⟩
    · rw [if_neg h2] at h; exact absurd rfl h
  · rw [if_neg h1]; exact Or.inr ⟨h1, rfl⟩
theorem fWr_n {R : zT} {s i : Int32} (h : fSb R s ≠ 7) : fWr R s i = fSb R s := by
  rcases fSb_c h with ⟨h1, h2, h3⟩ | ⟨h1, h3⟩
  · rw [fWr, if_pos h1, if_pos h2, h3]
  · rw [fWr, if_neg h1, h3]
theorem fJu_n {T R : zT} {s : Int32} (h : fSb R s ≠ 7) : fJu T R s = fSb R s := by
  rcases fSb_c h with ⟨h1, h2, h3⟩ | ⟨h1, h3⟩
  · rw [fJu, if_pos h1, if_pos h2, h3]
  · rw [fJu, if_neg h1, h3]
theorem lt_in {x y : Int32} {z : Nat} (hz : z ≤ 40) (ey : y = nI z) (h0 : ¬ x < 0) (h : x < y) : inR x 0 (y - 1) = true := by
  subst ey
  obtain ⟨a, ha, rfl⟩ := nI_of h0
  have h1 := z_lt h ha (by omega)
  rw [show nI z - 1 = nI (z - 1) from pk_sub (b := 1) (by omega)]
  exact inR_k (n := z - 1) (by omega) (by omega)

set_option maxRecDepth 100000 in
set_option maxHeartbeats 4000000 in
theorem m_X3_write {g : Nat → zE} {T T2 T3 R : zT} {X : Nat → Int32} (hS : wS R) (s i v : Int32) : zMx 2 M_X3_write [.ref 0, .int s, .int i, .int v] (cW g T T2 T3 R X) 46 (some (.int (fr (fWr R s i) (1)))) (cQ g (T) (T3) (gWr R s i v)) := by
  refine zMx.intro (by decide) (Nat.le_of_ble_eq_true rfl) ?_
  intro Wf V m H0 Γ ρ
  replace Γ : zC Wf V m 5 H0 cX3_write RX3 2 0 0 := Γ
  show zX Wf V m 5 H0 0 (zls [(0, .ref 0), (1, .int s), (2, .int i), (3, .int v)]) [] (cW g T T2 T3 R X) 46 0 0
  refine x_aload_n Γ dX3_write_0 rfl ?_
  refine x_iload_n Γ dX3_write_1 rfl ?_
  refine x_callV Γ calv_X3_sheetHindrance wl_X3_244 dX3_write_2 (m_X3_sheetHindrance (g := g) (T := T) (T2 := T2) (T3 := T3) (R := R) (X := X) s) rfl (by decide) (by decide) (by rfl) rfl rfl rfl (Nat.le_of_ble_eq_true rfl) (Nat.le_refl _) (Nat.le_refl _) ?_
  refine x_istore Γ dX3_write_5 (by decide) ?_
  refine x_iload Γ dX3_write_7 rfl ?_
  refine x_iconst Γ (v := -1) dX3_write_9 rfl ?_
  refine x_icmp_eq Γ (tgt := 20) dX3_write_10 (by decide) (fun c_1 => ?_) (fun c_1 => ?_)
  · have h7 := hdI_7 fSb_lt c_1
    obtain ⟨j, hj, rfl⟩ := inR_nI (n := 3) (fSb_7 h7).1 rfl (by omega)
    have ej : ci (nI j) = j := nI_clamp (by omega)
    have hj4 : j < 4 := by omega
    obtain ⟨z, hz, ez⟩ := hS j hj4
    have ezz : ci (R 5 j) = z := by rw [ez]; exact nI_clamp (by omega)
    have hsj := (fSb_7 h7).1
    have hb0 := (fSb_7 h7).2
    rw [ej] at hb0
    refine x_iload_n Γ dX3_write_20 rfl ?_
    refine x_if_lt Γ (tgt := 37) dX3_write_21 (by decide) (fun c_2 => ?_) (fun c_2 => ?_)
    · have hF : fWr R (nI j) i = 0 := by rw [fWr, if_pos hsj, ej, if_neg hb0, if_neg (by rw [inR, decide_eq_true c_2]; simp)]
      refine x_aload_n Γ dX3_write_37 rfl ?_
      refine x_iconst Γ (v := 0) dX3_write_38 rfl ?_
      refine x_callV Γ calv_X3_finding wl_X3_48 dX3_write_39 (m_X3_finding (g := g) (T := T) (T2 := T2) (T3 := T3) (R := R) (X := X) (f := 0) (by decide)) rfl (by decide) (by decide) (by rfl) rfl rfl rfl (Nat.le_of_ble_eq_true rfl) (Nat.le_refl _) (Nat.le_refl _) ?_
      exact x_iretx ρ rfl dX3_write_42 rfl (by rw [hF]; try rfl) (cQ_i (rfl) rfl (vis_tr (vis_e (by rw [gWr, if_neg (by rw [hF]; decide), hF])) vis_rf))
    · have i0 := c_2
      refine x_iload_n Γ dX3_write_24 rfl ?_
      refine x_aload_n Γ dX3_write_25 rfl ?_
      refine gf_X3_31 Γ dX3_write_26 (by decide) (by rfl) rfl ?_
      refine x_iload_n Γ dX3_write_29 rfl ?_
      refine x_aald Γ dX3_write_30 (by decide) (show _ = zR 4 (fun i => some (28 + 2 * i)) from rfl) rfl (by omega) (by decide) rfl ?_
      refine gf_X3_241 Γ dX3_write_31 (by omega) (cW_s0 hj4) rfl ?_
      refine x_icmp_lt Γ (tgt := 43) dX3_write_34 (by decide) (fun c_3 => ?_) (fun c_3 => ?_)
      · have hi := lt_in hz ez i0 c_3
        obtain ⟨a, ha, rfl⟩ := in_lt hz ez hi
        have ea : ci (nI a) = a := nI_clamp (by omega)
        have hF : fWr R (nI j) (nI a) = 7 := by rw [fWr, if_pos hsj, ej, if_neg hb0, if_pos hi]
        refine x_aload_n Γ dX3_write_43 rfl ?_
        refine gf_X3_31 Γ dX3_write_44 (by decide) (by rfl) rfl ?_
        refine x_iload_n Γ dX3_write_47 rfl ?_
        refine x_aald Γ dX3_write_48 (by decide) (show _ = zR 4 (fun i => some (28 + 2 * i)) from rfl) rfl (by omega) (by decide) rfl ?_
        refine x_iload_n Γ dX3_write_49 rfl ?_
        refine x_iload_n Γ dX3_write_50 rfl ?_
        refine x_callVv Γ calv_X1_put wl_X3_247 dX3_write_51 (m_X1_put (g := g) (T := T) (T2 := T2) (T3 := T3) (R := R) (X := X) hj4 (a := a) ha hz ez v) rfl (by decide) (by omega) (cW_s0 hj4) rfl rfl rfl (Nat.le_of_ble_eq_true rfl) (Nat.le_refl _) (Nat.le_refl _) ?_
        refine x_iconst Γ (v := 1) dX3_write_54 rfl ?_
        exact x_iretx ρ rfl dX3_write_55 rfl (by rw [hF]; try rfl) (cQ_i (rfl) rfl (vis_tr (vis_e (by rw [gWr, if_pos hF, ej, ea])) vis_rf))
      · have hF : fWr R (nI j) i = 0 := by rw [fWr, if_pos hsj, ej, if_neg hb0, if_neg (fun w => by obtain ⟨a, ha, rfl⟩ := in_lt hz ez w; exact c_3 (by rw [ez]; exact (nI_ltI (by omega) (by omega)).mpr ha))]
        refine x_aload_n Γ dX3_write_37 rfl ?_
        refine x_iconst Γ (v := 0) dX3_write_38 rfl ?_
        refine x_callV Γ calv_X3_finding wl_X3_48 dX3_write_39 (m_X3_finding (g := g) (T := T) (T2 := T2) (T3 := T3) (R := R) (X := X) (f := 0) (by decide)) rfl (by decide) (by decide) (by rfl) rfl rfl rfl (Nat.le_of_ble_eq_true rfl) (Nat.le_refl _) (Nat.le_refl _) ?_
        exact x_iretx ρ rfl dX3_write_42 rfl (by rw [hF]; try rfl) (cQ_i (rfl) rfl (vis_tr (vis_e (by rw [gWr, if_neg (by rw [hF]; decide), hF])) vis_rf))
  · have h8 := hdI_8 c_1
    rw [hdI_n h8]
    have h9 : fSb R s < 7 := by have := fSb_lt (R := R) (s := s); omega
    refine x_aload_n Γ dX3_write_13 rfl ?_
    refine x_iload Γ dX3_write_14 rfl ?_
    refine x_callV Γ calv_X3_finding wl_X3_48 dX3_write_16 (m_X3_finding (g := g) (T := T) (T2 := T2) (T3 := T3) (R := R) (X := X) (f := fSb R s) (h9)) rfl (by decide) (by decide) (by rfl) rfl rfl rfl (Nat.le_of_ble_eq_true rfl) (Nat.le_refl _) (Nat.le_refl _) ?_
    exact x_iretx ρ rfl dX3_write_19 rfl (by rw [fWr_n h8]; exact zsi (fr_n h9)) (cQ_i (rfl) rfl (vis_tr (vis_e (by rw [gWr, if_neg (by rw [fWr_n h8]; exact h8), fWr_n h8])) vis_rf))

theorem sh_co {R : zT} {j A e B K : Nat} (hA : A + K ≤ 40) (hB : B + K ≤ 40) : shF (coR R j A e B K) e = va_cpy (shF R j) (shF R e) A B K := by
  funext i
  show _ = if B ≤ i ∧ i < B + K then shF R j (A + (i - B)) else shF R e i
  unfold shF
  by_cases hi : i < 40
  · rw [if_pos hi, coR, tr_s]
    by_cases hb : B ≤ i ∧ i < B + K
    · rw [if_pos hb, if_pos (by omega), if_pos (by omega)]
      congr 1
      omega
    · rw [if_neg hb, if_neg (by omega), if_pos hi]
  · rw [if_neg hi, if_neg (by omega), if_neg hi]
theorem sh_cn {R : zT} {j A e B K e2 : Nat} (hB : B + K ≤ 40) (h : e2 ≠ e) : shF (coR R j A e B K) e2 = shF R e2 := by
  funext i
  unfold shF
  by_cases hi : i < 40
  · rw [if_pos hi, if_pos hi, coR, tr_s, if_neg (by omega)]
  · rw [if_neg hi, if_neg hi]

set_option maxRecDepth 100000 in
set_option maxHeartbeats 4000000 in
theorem m_X3_copy {g : Nat → zE} {T T2 T3 R : zT} {X : Nat → Int32} (hS : wS R) (s a t b n : Int32) : zMx 1 M_X3_copy [.ref 0, .int s, .int a, .int t, .int b, .int n] (cW g T T2 T3 R X) 46 (some (.int (fr (fCo R s a t b n) (n)))) (cQ g (T) (T3) (gCo R s a t b n)) := by
  refine zMx.intro (by decide) (Nat.le_of_ble_eq_true rfl) ?_
  intro Wf V m H0 Γ ρ
  replace Γ : zC Wf V m 8 H0 cX3_copy RX3 1 0 0 := Γ
  show zX Wf V m 8 H0 0 (zls [(0, .ref 0), (1, .int s), (2, .int a), (3, .int t), (4, .int b), (5, .int n)]) [] (cW g T T2 T3 R X) 46 0 0
  refine x_iload_n Γ dX3_copy_0 rfl ?_
  refine x_callS Γ cals_X3_isSheet wl_X3_235 dX3_copy_1 (m_X3_isSheet s) rfl (by decide) rfl (Nat.le_of_ble_eq_true rfl) (Nat.le_refl _) (Nat.le_refl _) ?_
  refine x_if_eq Γ (tgt := 14) dX3_copy_4 (by decide) (fun c_1 => ?_) (fun c_1 => ?_)
  · have c_1 := zb_0.mp c_1
    have hF : fCo R s a t b n = 0 := if_neg (fun z => by rw [c_1] at z; cases z.1)
    refine x_aload_n Γ dX3_copy_14 rfl ?_
    refine x_iconst Γ (v := 0) dX3_copy_15 rfl ?_
    refine x_callV Γ calv_X3_finding wl_X3_48 dX3_copy_16 (m_X3_finding (g := g) (T := T) (T2 := T2) (T3 := T3) (R := R) (X := X) (f := 0) (by decide)) rfl (by decide) (by decide) (by rfl) rfl rfl rfl (Nat.le_of_ble_eq_true rfl) (Nat.le_refl _) (Nat.le_refl _) ?_
    exact x_iretx ρ rfl dX3_copy_19 rfl (by rw [hF]; try rfl) (cQ_i (rfl) rfl (vis_tr (vis_e (by rw [gCo, if_neg (by rw [hF]; decide), hF])) vis_rf))
  · have c_1 := zb_n0.mp c_1
    obtain ⟨j, hj, rfl⟩ := inR_nI (n := 3) c_1 rfl (by omega)
    have ej : ci (nI j) = j := nI_clamp (by omega)
    have hj4 : j < 4 := by omega
    obtain ⟨z, hz, ez⟩ := hS j hj4
    have hsj := c_1
    refine x_iload_n Γ dX3_copy_7 rfl ?_
    refine x_callS Γ cals_X3_isSheet wl_X3_235 dX3_copy_8 (m_X3_isSheet t) rfl (by decide) rfl (Nat.le_of_ble_eq_true rfl) (Nat.le_refl _) (Nat.le_refl _) ?_
    refine x_if_ne Γ (tgt := 20) dX3_copy_11 (by decide) (fun c_2 => ?_) (fun c_2 => ?_)
    · have c_2 := zb_n0.mp c_2
      obtain ⟨e, he, rfl⟩ := inR_nI (n := 3) c_2 rfl (by omega)
      have ee : ci (nI e) = e := nI_clamp (by omega)
      have he4 : e < 4 := by omega
      obtain ⟨y, hy, ey⟩ := hS e he4
      have hse := c_2
      refine x_aload_n Γ dX3_copy_20 rfl ?_
      refine gf_X3_31 Γ dX3_copy_21 (by decide) (by rfl) rfl ?_
      refine x_iload_n Γ dX3_copy_24 rfl ?_
      refine x_aald Γ dX3_copy_25 (by decide) (show _ = zR 4 (fun i => some (28 + 2 * i)) from rfl) rfl (by omega) (by decide) rfl ?_
      refine x_astore Γ dX3_copy_26 (by decide) ?_
      refine x_aload_n Γ dX3_copy_28 rfl ?_
      refine gf_X3_31 Γ dX3_copy_29 (by decide) (by rfl) rfl ?_
      refine x_iload_n Γ dX3_copy_32 rfl ?_
      refine x_aald Γ dX3_copy_33 (by decide) (show _ = zR 4 (fun i => some (28 + 2 * i)) from rfl) rfl (by omega) (by decide) rfl ?_
      refine x_astore Γ dX3_copy_34 (by decide) ?_
      refine x_aload Γ dX3_copy_36 rfl ?_
      refine gf_X3_250 Γ dX3_copy_38 (by omega) (cW_s0 hj4) rfl ?_
      refine x_if_eq Γ (tgt := 52) dX3_copy_41 (by decide) (fun c_3 => ?_) (fun c_3 => ?_)
      · have hb0 : R 4 j = 0 ∨ R 4 e = 0 := Or.inl c_3
        have hF : fCo R (nI j) a (nI e) b n = 5 := by rw [fCo, if_pos ⟨hsj, hse⟩, ej, ee, if_pos hb0]
        refine x_aload_n Γ dX3_copy_52 rfl ?_
        refine x_iconst Γ (v := 5) dX3_copy_53 rfl ?_
        refine x_callV Γ calv_X3_finding wl_X3_48 dX3_copy_54 (m_X3_finding (g := g) (T := T) (T2 := T2) (T3 := T3) (R := R) (X := X) (f := 5) (by decide)) rfl (by decide) (by decide) (by rfl) rfl rfl rfl (Nat.le_of_ble_eq_true rfl) (Nat.le_refl _) (Nat.le_refl _) ?_
        exact x_iretx ρ rfl dX3_copy_57 rfl (by rw [hF]; try rfl) (cQ_i (rfl) rfl (vis_tr (vis_e (by rw [gCo, if_neg (by rw [hF]; decide), hF])) vis_rf))
      · have b1 := c_3
        refine x_aload Γ dX3_copy_44 rfl ?_
        refine gf_X3_250 Γ dX3_copy_46 (by omega) (cW_s0 he4) rfl ?_
        refine x_if_ne Γ (tgt := 58) dX3_copy_49 (by decide) (fun c_4 => ?_) (fun c_4 => ?_)
        · have hb0 : ¬ (R 4 j = 0 ∨ R 4 e = 0) := fun z => z.elim b1 c_4
          refine x_aload Γ dX3_copy_58 rfl ?_
          refine gf_X3_250 Γ dX3_copy_60 (by omega) (cW_s0 hj4) rfl ?_
          refine x_aload Γ dX3_copy_63 rfl ?_
          refine gf_X3_250 Γ dX3_copy_65 (by omega) (cW_s0 he4) rfl ?_
          refine x_icmp_eq Γ (tgt := 77) dX3_copy_68 (by decide) (fun c_5 => ?_) (fun c_5 => ?_)
          · have hbb := c_5
            refine x_aload Γ dX3_copy_77 rfl ?_
            refine x_iload_n Γ dX3_copy_79 rfl ?_
            refine x_iload Γ dX3_copy_80 rfl ?_
            refine x_callV Γ calv_X1_spans wl_X3_253 dX3_copy_82 (m_X1_spans (g := g) (T := T) (T2 := T2) (T3 := T3) (R := R) (X := X) hj4 a n) rfl (by decide) (by omega) (cW_s0 hj4) rfl rfl rfl (Nat.le_of_ble_eq_true rfl) (Nat.le_refl _) (Nat.le_refl _) ?_
            refine x_if_eq Γ (tgt := 100) dX3_copy_85 (by decide) (fun c_6 => ?_) (fun c_6 => ?_)
            · have c_6 := zb_0.mp c_6
              have hq : n < 0 ∨ a < 0 ∨ b < 0 ∨ R 5 j - a < n ∨ ¬ n ≤ R 5 e - b := Classical.byContradiction (fun w => by
                have := (sp_co (a := a) (n := n) hz ez).mpr ⟨fun y => w (Or.inl y), fun y => w (Or.inr (Or.inl y)), fun y => w (Or.inr (Or.inr (Or.inr (Or.inl y))))⟩
                rw [c_6] at this
                cases this)
              have hF : fCo R (nI j) a (nI e) b n = 0 := by rw [fCo, if_pos ⟨hsj, hse⟩, ej, ee, if_neg hb0, if_pos hbb, if_pos hq]
              refine x_aload_n Γ dX3_copy_100 rfl ?_
              refine x_iconst Γ (v := 0) dX3_copy_101 rfl ?_
              refine x_callV Γ calv_X3_finding wl_X3_48 dX3_copy_102 (m_X3_finding (g := g) (T := T) (T2 := T2) (T3 := T3) (R := R) (X := X) (f := 0) (by decide)) rfl (by decide) (by decide) (by rfl) rfl rfl rfl (Nat.le_of_ble_eq_true rfl) (Nat.le_refl _) (Nat.le_refl _) ?_
              exact x_iretx ρ rfl dX3_copy_105 rfl (by rw [hF]; try rfl) (cQ_i (rfl) rfl (vis_tr (vis_e (by rw [gCo, if_neg (by rw [hF]; decide), hF])) vis_rf))
            · have c_6 := zb_n0.mp c_6
              have s1 := (sp_co hz ez).mp c_6
              refine x_aload Γ dX3_copy_88 rfl ?_
              refine x_iload Γ dX3_copy_90 rfl ?_
              refine x_iload Γ dX3_copy_92 rfl ?_
              refine x_callV Γ calv_X1_spans wl_X3_253 dX3_copy_94 (m_X1_spans (g := g) (T := T) (T2 := T2) (T3 := T3) (R := R) (X := X) he4 b n) rfl (by decide) (by omega) (cW_s0 he4) rfl rfl rfl (Nat.le_of_ble_eq_true rfl) (Nat.le_refl _) (Nat.le_refl _) ?_
              refine x_if_ne Γ (tgt := 106) dX3_copy_97 (by decide) (fun c_7 => ?_) (fun c_7 => ?_)
              · have c_7 := zb_n0.mp c_7
                have s2 := (sp_co hy ey).mp c_7
                have hF : fCo R (nI j) a (nI e) b n = 7 := by rw [fCo, if_pos ⟨hsj, hse⟩, ej, ee, if_neg hb0, if_pos hbb, if_neg (fun w => w.elim s1.1 (fun w => w.elim s1.2.1 (fun w => w.elim s2.2.1 (fun w => w.elim s1.2.2 (fun w => w (Int32.not_lt.mp s2.2.2))))))]
                obtain ⟨K, hK0, rfl⟩ := nI_of s1.1
                obtain ⟨A, hA0, rfl⟩ := nI_of s1.2.1
                obtain ⟨B, hB0, rfl⟩ := nI_of s2.2.1
                have hA := co_le hz ez hA0 hK0 (Int32.not_lt.mp s1.2.2)
                have hB := co_le hy ey hB0 hK0 (Int32.not_lt.mp s2.2.2)
                have eK : ci (nI K) = K := nI_clamp (by omega)
                have eA : ci (nI A) = A := nI_clamp (by omega)
                have eB : ci (nI B) = B := nI_clamp (by omega)
                refine x_aload Γ dX3_copy_106 rfl ?_
                refine gf_X3_256 Γ dX3_copy_108 (by omega) (cW_s0 hj4) rfl ?_
                refine x_iload_n Γ dX3_copy_111 rfl ?_
                refine x_aload Γ dX3_copy_112 rfl ?_
                refine gf_X3_256 Γ dX3_copy_114 (by omega) (cW_s0 he4) rfl ?_
                refine x_iload Γ dX3_copy_117 rfl ?_
                refine x_iload Γ dX3_copy_119 rfl ?_
                refine x_acopy Γ (a := A) (b := B) (d := K) (by decide) wl_X3_259 dX3_copy_121 (by omega) (cW_s1 hj4) (by omega) (cW_s1 he4) rfl rfl rfl (by omega) (by omega) (by decide) (by decide) (Nat.le_of_ble_eq_true rfl) (cW_sr he4 (R2 := coR R j A e B K) (fun a ha => by rw [coR, tr_n ha]) (sh_co (by omega) (by omega)) (fun e2 _ h2 => sh_cn (by omega) h2)) ?_
                refine x_iload Γ dX3_copy_124 rfl ?_
                exact x_iretx ρ rfl dX3_copy_126 rfl (by rw [hF]; try rfl) (cQ_i (rfl) rfl (vis_tr (vis_e (by rw [gCo, if_pos hF, ej, ee, eA, eB, eK])) vis_rf))
              · have c_7 := zb_0.mp c_7
                have hq : n < 0 ∨ a < 0 ∨ b < 0 ∨ R 5 j - a < n ∨ ¬ n ≤ R 5 e - b := Classical.byContradiction (fun w => by
                  have := (sp_co (a := b) (n := n) hy ey).mpr ⟨fun y => w (Or.inl y), fun y => w (Or.inr (Or.inr (Or.inl y))), fun y => w (Or.inr (Or.inr (Or.inr (Or.inr (Int32.not_le.mpr y)))))⟩
                  rw [c_7] at this
                  cases this)
                have hF : fCo R (nI j) a (nI e) b n = 0 := by rw [fCo, if_pos ⟨hsj, hse⟩, ej, ee, if_neg hb0, if_pos hbb, if_pos hq]
                refine x_aload_n Γ dX3_copy_100 rfl ?_
                refine x_iconst Γ (v := 0) dX3_copy_101 rfl ?_
                refine x_callV Γ calv_X3_finding wl_X3_48 dX3_copy_102 (m_X3_finding (g := g) (T := T) (T2 := T2) (T3 := T3) (R := R) (X := X) (f := 0) (by decide)) rfl (by decide) (by decide) (by rfl) rfl rfl rfl (Nat.le_of_ble_eq_true rfl) (Nat.le_refl _) (Nat.le_refl _) ?_
                exact x_iretx ρ rfl dX3_copy_105 rfl (by rw [hF]; try rfl) (cQ_i (rfl) rfl (vis_tr (vis_e (by rw [gCo, if_neg (by rw [hF]; decide), hF])) vis_rf))
          · have hF : fCo R (nI j) a (nI e) b n = 2 := by rw [fCo, if_pos ⟨hsj, hse⟩, ej, ee, if_neg hb0, if_neg c_5]
            refine x_aload_n Γ dX3_copy_71 rfl ?_
            refine x_iconst Γ (v := 2) dX3_copy_72 rfl ?_
            refine x_callV Γ calv_X3_finding wl_X3_48 dX3_copy_73 (m_X3_finding (g := g) (T := T) (T2 := T2) (T3 := T3) (R := R) (X := X) (f := 2) (by decide)) rfl (by decide) (by decide) (by rfl) rfl rfl rfl (Nat.le_of_ble_eq_true rfl) (Nat.le_refl _) (Nat.le_refl _) ?_
            exact x_iretx ρ rfl dX3_copy_76 rfl (by rw [hF]; try rfl) (cQ_i (rfl) rfl (vis_tr (vis_e (by rw [gCo, if_neg (by rw [hF]; decide), hF])) vis_rf))
        · have hb0 : R 4 j = 0 ∨ R 4 e = 0 := Or.inr c_4
          have hF : fCo R (nI j) a (nI e) b n = 5 := by rw [fCo, if_pos ⟨hsj, hse⟩, ej, ee, if_pos hb0]
          refine x_aload_n Γ dX3_copy_52 rfl ?_
          refine x_iconst Γ (v := 5) dX3_copy_53 rfl ?_
          refine x_callV Γ calv_X3_finding wl_X3_48 dX3_copy_54 (m_X3_finding (g := g) (T := T) (T2 := T2) (T3 := T3) (R := R) (X := X) (f := 5) (by decide)) rfl (by decide) (by decide) (by rfl) rfl rfl rfl (Nat.le_of_ble_eq_true rfl) (Nat.le_refl _) (Nat.le_refl _) ?_
          exact x_iretx ρ rfl dX3_copy_57 rfl (by rw [hF]; try rfl) (cQ_i (rfl) rfl (vis_tr (vis_e (by rw [gCo, if_neg (by rw [hF]; decide), hF])) vis_rf))
    · have c_2 := zb_0.mp c_2
      have hF : fCo R (nI j) a t b n = 0 := if_neg (fun z => by rw [c_2] at z; cases z.2)
      refine x_aload_n Γ dX3_copy_14 rfl ?_
      refine x_iconst Γ (v := 0) dX3_copy_15 rfl ?_
      refine x_callV Γ calv_X3_finding wl_X3_48 dX3_copy_16 (m_X3_finding (g := g) (T := T) (T2 := T2) (T3 := T3) (R := R) (X := X) (f := 0) (by decide)) rfl (by decide) (by decide) (by rfl) rfl rfl rfl (Nat.le_of_ble_eq_true rfl) (Nat.le_refl _) (Nat.le_refl _) ?_
      exact x_iretx ρ rfl dX3_copy_19 rfl (by rw [hF]; try rfl) (cQ_i (rfl) rfl (vis_tr (vis_e (by rw [gCo, if_neg (by rw [hF]; decide), hF])) vis_rf))
