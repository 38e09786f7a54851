def moV (T : zT) (h x : Int32) : Nat → Int32
  | 0 => 0
  | c + 1 => moV T h x c + (if (h >>> (nI c &&& 31)) &&& 1 = 0 then 0 else if (x >>> (nI c &&& 31)) &&& 1 = 1 then lw T c else sw T c)
def moS (T : zT) (N : Nat) (h L : Int32) : Nat → Int32
  | 0 => 0
  | i + 1 => if nI i &&& (h ^^^ (-1)) = 0 ∧ many (nI i) = L then (if moS T N h L i < moV T h (nI i) N then moV T h (nI i) N else moS T N h L i) else moS T N h L i
theorem shl_2 : ∀ d, d < 11 → (1 : Int32) <<< (nI d &&& 31) = nI (2 ^ d) := by decide +kernel
theorem p2_N {N : Nat} (h : N ≤ 10) : 2 ^ N ≤ 1024 := Nat.pow_le_pow_right (by decide) h
theorem moS_a {T : zT} {N c : Nat} {h L : Int32} (q : ¬ nI c &&& (h ^^^ (-1)) = 0) : moS T N h L (c + 1) = moS T N h L c := if_neg (fun z => q z.1)
theorem moS_b {T : zT} {N c : Nat} {h L : Int32} (q : ¬ many (nI c) = L) : moS T N h L (c + 1) = moS T N h L c := if_neg (fun z => q z.2)
theorem moS_c {T : zT} {N c : Nat} {h L : Int32} (q1 : nI c &&& (h ^^^ (-1)) = 0) (q2 : many (nI c) = L) (q : moV T h (nI c) N ≤ moS T N h L c) : moS T N h L (c + 1) = moS T N h L c := (if_pos ⟨q1, q2⟩).trans (if_neg (Int32.not_lt.mpr q))
theorem moS_d {T : zT} {N c : Nat} {h L : Int32} (q1 : nI c &&& (h ^^^ (-1)) = 0) (q2 : many (nI c) = L) (q : ¬ moV T h (nI c) N ≤ moS T N h L c) : moS T N h L (c + 1) = moV T h (nI c) N := (if_pos ⟨q1, q2⟩).trans (if_pos (Int32.not_le.mp q))

set_option maxRecDepth 100000 in
set_option maxHeartbeats 4000000 in
theorem m_X4_most {g : Nat → zE} {T R : zT} {N : Nat} (hN : wN T N) {M : Nat} (hM : 2 ^ N = M) : zM 2 M_X4_most [.ref 37] (hR g T R) 46 (some (.int (moS T N (setW T 1 N ||| setW T 2 N) (many (setW T 1 N)) M))) (hR g T R) 46 0 0 := by
  refine zM.intro (by decide) (Nat.le_of_ble_eq_true rfl) ?_
  intro Wf V m H0 Γ ρ
  replace Γ : zC Wf V m 7 H0 cX4_most RX4 2 0 0 := Γ
  show zX Wf V m 7 H0 0 (zls [(0, .ref 37)]) [] (hR g T R) 46 0 0
  have hN2 := hN.2
  have hN3 := p2_N hN2
  rw [hM] at hN3
  refine x_aload_n Γ dX4_most_0 rfl ?_
  refine x_iconst Γ (v := 1) dX4_most_1 rfl ?_
  refine x_callV Γ calv_X4_with wl_X4_99 dX4_most_2 (m_X4_with (g := g) (T := T) (R := R) hN 1) rfl (by decide) (by decide) rfl rfl rfl rfl (Nat.le_of_ble_eq_true rfl) (Nat.le_refl _) (Nat.le_refl _) ?_
  refine x_aload_n Γ dX4_most_5 rfl ?_
  refine x_iconst Γ (v := 2) dX4_most_6 rfl ?_
  refine x_callV Γ calv_X4_with wl_X4_99 dX4_most_7 (m_X4_with (g := g) (T := T) (R := R) hN 2) rfl (by decide) (by decide) rfl rfl rfl rfl (Nat.le_of_ble_eq_true rfl) (Nat.le_refl _) (Nat.le_refl _) ?_
  refine x_ior Γ dX4_most_10 ?_
  refine x_istore_n Γ dX4_most_11 (by decide) ?_
  refine x_aload_n Γ dX4_most_12 rfl ?_
  refine x_iconst Γ (v := 1) dX4_most_13 rfl ?_
  refine x_callV Γ calv_X4_with wl_X4_99 dX4_most_14 (m_X4_with (g := g) (T := T) (R := R) hN 1) rfl (by decide) (by decide) rfl rfl rfl rfl (Nat.le_of_ble_eq_true rfl) (Nat.le_refl _) (Nat.le_refl _) ?_
  refine x_callS Γ cals_X4_many wl_X4_136 dX4_most_17 (m_X4_many (setW T 1 N)) rfl (by decide) rfl (Nat.le_of_ble_eq_true rfl) (Nat.le_refl _) (Nat.le_refl _) ?_
  refine x_istore_n Γ dX4_most_20 (by decide) ?_
  refine x_iconst Γ (v := 0) dX4_most_21 rfl ?_
  refine x_istore_n Γ dX4_most_22 (by decide) ?_
  refine x_iconst Γ (v := 0) dX4_most_23 rfl ?_
  refine x_istore Γ dX4_most_24 (by decide) ?_
  suffices L_26 : ∀ (ko c : Nat), c ≤ M → M - c < ko → zX Wf V m 7 H0 26 (zls [(0, .ref 37), (1, .int (setW T 1 N ||| setW T 2 N)), (2, .int (many (setW T 1 N))), (3, .int (moS T N (setW T 1 N ||| setW T 2 N) (many (setW T 1 N)) c)), (4, .int (nI c))]) [] (hR g T R) 46 0 0 by
    exact x_subl [(0, .ref 37), (1, .int (setW T 1 N ||| setW T 2 N)), (2, .int (many (setW T 1 N))), (3, .int (moS T N (setW T 1 N ||| setW T 2 N) (many (setW T 1 N)) 0)), (4, .int (nI 0))] (List.forall_mem_cons.mpr ⟨rfl, List.forall_mem_cons.mpr ⟨rfl, List.forall_mem_cons.mpr ⟨rfl, List.forall_mem_cons.mpr ⟨rfl, List.forall_mem_cons.mpr ⟨rfl, fun _ hz => absurd hz List.not_mem_nil⟩⟩⟩⟩⟩) (x_heap (rfl) (L_26 (M + 1) 0 (by omega) (by omega)))
  intro ko
  induction ko with
  | zero => intro c h1o h2o; omega
  | succ ko iho =>
    intro c h1o h2o
    refine x_iload Γ dX4_most_26 rfl ?_
    refine x_iconst Γ (v := 1) dX4_most_28 rfl ?_
    refine x_aload_n Γ dX4_most_29 rfl ?_
    refine gf_X4_9 Γ dX4_most_30 (by decide) rfl rfl ?_
    refine x_bipush Γ (v := 8) dX4_most_33 rfl ?_
    refine x_iald Γ dX4_most_35 (by decide) (by rfl) (j := 8) rfl (by decide) (by decide) (mr_s (by decide)) ?_
    refine x_ishl Γ dX4_most_36 ?_
    refine x_icmp_ge Γ (tgt := 148) dX4_most_37 (by decide) (fun c_1 => ?_) (fun c_1 => ?_)
    · rw [hN.1, shl_2 N (by omega), hM] at c_1
      have c_1 := z_le c_1 (by omega) (by omega)
      obtain rfl : M = c := by omega
      refine x_iload_n Γ dX4_most_148 rfl ?_
      exact x_iret ρ rfl dX4_most_149 rfl (rfl) rfl (zH.rf)
    · rw [hN.1, shl_2 N (by omega), hM] at c_1
      have c_1 := z_nle c_1 (by omega) (by omega)
      refine x_iload Γ dX4_most_40 rfl ?_
      refine x_iload_n Γ dX4_most_42 rfl ?_
      refine x_iconst Γ (v := -1) dX4_most_43 rfl ?_
      refine x_ixor Γ dX4_most_44 ?_
      refine x_iand Γ dX4_most_45 ?_
      refine x_if_ne Γ (tgt := 142) dX4_most_46 (by decide) (fun c_2 => ?_) (fun c_2 => ?_)
      · have hG := moS_a (T := T) (N := N) (L := (many (setW T 1 N))) c_2
        refine x_iinc Γ dX4_most_142 rfl (by first | exact zinc _ | rfl) (by decide) ?_
        refine x_goto Γ (tgt := 26) dX4_most_145 (by decide) ?_
        exact x_subl [(0, .ref 37), (1, .int (setW T 1 N ||| setW T 2 N)), (2, .int (many (setW T 1 N))), (3, .int (moS T N (setW T 1 N ||| setW T 2 N) (many (setW T 1 N)) (c + 1))), (4, .int (nI (c + 1)))] (List.forall_mem_cons.mpr ⟨rfl, List.forall_mem_cons.mpr ⟨rfl, List.forall_mem_cons.mpr ⟨rfl, List.forall_mem_cons.mpr ⟨zsi hG.symm, List.forall_mem_cons.mpr ⟨rfl, fun _ hz => absurd hz List.not_mem_nil⟩⟩⟩⟩⟩) (x_heap (rfl) (iho (c + 1) (by omega) (by omega)))
      · have hA1 := c_2
        refine x_iload Γ dX4_most_49 rfl ?_
        refine x_callS Γ cals_X4_many wl_X4_136 dX4_most_51 (m_X4_many (nI c)) rfl (by decide) rfl (Nat.le_of_ble_eq_true rfl) (Nat.le_refl _) (Nat.le_refl _) ?_
        refine x_iload_n Γ dX4_most_54 rfl ?_
        refine x_icmp_eq Γ (tgt := 61) dX4_most_55 (by decide) (fun c_3 => ?_) (fun c_3 => ?_)
        · have hA2 := c_3
          refine x_iconst Γ (v := 0) dX4_most_61 rfl ?_
          refine x_istore Γ dX4_most_62 (by decide) ?_
          refine x_iconst Γ (v := 0) dX4_most_64 rfl ?_
          refine x_istore Γ dX4_most_65 (by decide) ?_
          suffices L_67 : ∀ (ki i : Nat), i ≤ N → N - i < ki → zX Wf V m 7 H0 67 (zls [(0, .ref 37), (1, .int (setW T 1 N ||| setW T 2 N)), (2, .int (many (setW T 1 N))), (3, .int (moS T N (setW T 1 N ||| setW T 2 N) (many (setW T 1 N)) c)), (4, .int (nI c)), (5, .int (moV T (setW T 1 N ||| setW T 2 N) (nI c) i)), (6, .int (nI i))]) [] (hR g T R) 46 0 0 by
            exact x_subl [(0, .ref 37), (1, .int (setW T 1 N ||| setW T 2 N)), (2, .int (many (setW T 1 N))), (3, .int (moS T N (setW T 1 N ||| setW T 2 N) (many (setW T 1 N)) c)), (4, .int (nI c)), (5, .int (moV T (setW T 1 N ||| setW T 2 N) (nI c) 0)), (6, .int (nI 0))] (List.forall_mem_cons.mpr ⟨rfl, List.forall_mem_cons.mpr ⟨rfl, List.forall_mem_cons.mpr ⟨rfl, List.forall_mem_cons.mpr ⟨rfl, List.forall_mem_cons.mpr ⟨rfl, List.forall_mem_cons.mpr ⟨rfl, List.forall_mem_cons.mpr ⟨rfl, fun _ hz => absurd hz List.not_mem_nil⟩⟩⟩⟩⟩⟩⟩) (x_heap (rfl) (L_67 (N + 1) 0 (by omega) (by omega)))
          intro ki
          induction ki with
          | zero => intro i h1i h2i; omega
          | succ ki ihi =>
            intro i h1i h2i
            refine x_iload Γ dX4_most_67 rfl ?_
            refine x_aload_n Γ dX4_most_69 rfl ?_
            refine gf_X4_9 Γ dX4_most_70 (by decide) rfl rfl ?_
            refine x_bipush Γ (v := 8) dX4_most_73 rfl ?_
            refine x_iald Γ dX4_most_75 (by decide) (by rfl) (j := 8) rfl (by decide) (by decide) (mr_s (by decide)) ?_
            refine x_icmp_ge Γ (tgt := 129) dX4_most_76 (by decide) (fun c_4 => ?_) (fun c_4 => ?_)
            · rw [hN.1] at c_4
              have c_4 := z_le c_4 (by omega) (by omega)
              obtain rfl : N = i := by omega
              refine x_iload Γ dX4_most_129 rfl ?_
              refine x_iload_n Γ dX4_most_131 rfl ?_
              refine x_icmp_le Γ (tgt := 140) dX4_most_132 (by decide) (fun c_5 => ?_) (fun c_5 => ?_)
              · have hG := moS_c hA1 hA2 c_5
                refine x_iload_n Γ dX4_most_140 rfl ?_
                refine x_istore_n Γ dX4_most_141 (by decide) ?_
                refine x_iinc Γ dX4_most_142 rfl (by first | exact zinc _ | rfl) (by decide) ?_
                refine x_goto Γ (tgt := 26) dX4_most_145 (by decide) ?_
                exact x_subl [(0, .ref 37), (1, .int (setW T 1 N ||| setW T 2 N)), (2, .int (many (setW T 1 N))), (3, .int (moS T N (setW T 1 N ||| setW T 2 N) (many (setW T 1 N)) (c + 1))), (4, .int (nI (c + 1)))] (List.forall_mem_cons.mpr ⟨rfl, List.forall_mem_cons.mpr ⟨rfl, List.forall_mem_cons.mpr ⟨rfl, List.forall_mem_cons.mpr ⟨zsi hG.symm, List.forall_mem_cons.mpr ⟨rfl, fun _ hz => absurd hz List.not_mem_nil⟩⟩⟩⟩⟩) (x_heap (rfl) (iho (c + 1) (by omega) (by omega)))
              · have hG := moS_d hA1 hA2 c_5
                refine x_iload Γ dX4_most_135 rfl ?_
                refine x_goto Γ (tgt := 141) dX4_most_137 (by decide) ?_
                refine x_istore_n Γ dX4_most_141 (by decide) ?_
                refine x_iinc Γ dX4_most_142 rfl (by first | exact zinc _ | rfl) (by decide) ?_
                refine x_goto Γ (tgt := 26) dX4_most_145 (by decide) ?_
                exact x_subl [(0, .ref 37), (1, .int (setW T 1 N ||| setW T 2 N)), (2, .int (many (setW T 1 N))), (3, .int (moS T N (setW T 1 N ||| setW T 2 N) (many (setW T 1 N)) (c + 1))), (4, .int (nI (c + 1)))] (List.forall_mem_cons.mpr ⟨rfl, List.forall_mem_cons.mpr ⟨rfl, List.forall_mem_cons.mpr ⟨rfl, List.forall_mem_cons.mpr ⟨zsi hG.symm, List.forall_mem_cons.mpr ⟨rfl, fun _ hz => absurd hz List.not_mem_nil⟩⟩⟩⟩⟩) (x_heap (rfl) (iho (c + 1) (by omega) (by omega)))
            · rw [hN.1] at c_4
              have c_4 := z_nle c_4 (by omega) (by omega)
              refine x_iload Γ dX4_most_79 rfl ?_
              refine x_iload_n Γ dX4_most_81 rfl ?_
              refine x_iload Γ dX4_most_82 rfl ?_
              refine x_ishr Γ dX4_most_84 ?_
              refine x_iconst Γ (v := 1) dX4_most_85 rfl ?_
              refine x_iand Γ dX4_most_86 ?_
              refine x_if_ne Γ (tgt := 94) dX4_most_87 (by decide) (fun c_6 => ?_) (fun c_6 => ?_)
              · refine x_iload Γ dX4_most_94 rfl ?_
                refine x_iload Γ dX4_most_96 rfl ?_
                refine x_ishr Γ dX4_most_98 ?_
                refine x_iconst Γ (v := 1) dX4_most_99 rfl ?_
                refine x_iand Γ dX4_most_100 ?_
                refine x_iconst Γ (v := 1) dX4_most_101 rfl ?_
                refine x_icmp_ne Γ (tgt := 114) dX4_most_102 (by decide) (fun c_7 => ?_) (fun c_7 => ?_)
                · refine x_aload_n Γ dX4_most_114 rfl ?_
                  refine x_iload Γ dX4_most_115 rfl ?_
                  refine x_callV Γ calv_X4_seatWorth wl_X4_75 dX4_most_117 (m_X4_seatWorth (g := g) (T := T) (R := R) (c := i) (by omega)) rfl (by decide) (by decide) rfl rfl rfl rfl (Nat.le_of_ble_eq_true rfl) (Nat.le_refl _) (Nat.le_refl _) ?_
                  refine x_iadd Γ dX4_most_120 ?_
                  refine x_istore Γ dX4_most_121 (by decide) ?_
                  refine x_iinc Γ dX4_most_123 rfl (by first | exact zinc _ | rfl) (by decide) ?_
                  refine x_goto Γ (tgt := 67) dX4_most_126 (by decide) ?_
                  exact x_subl [(0, .ref 37), (1, .int (setW T 1 N ||| setW T 2 N)), (2, .int (many (setW T 1 N))), (3, .int (moS T N (setW T 1 N ||| setW T 2 N) (many (setW T 1 N)) c)), (4, .int (nI c)), (5, .int (moV T (setW T 1 N ||| setW T 2 N) (nI c) (i + 1))), (6, .int (nI (i + 1)))] (List.forall_mem_cons.mpr ⟨rfl, List.forall_mem_cons.mpr ⟨rfl, List.forall_mem_cons.mpr ⟨rfl, List.forall_mem_cons.mpr ⟨rfl, List.forall_mem_cons.mpr ⟨rfl, List.forall_mem_cons.mpr ⟨zsi (by simp [moV, *]), List.forall_mem_cons.mpr ⟨rfl, fun _ hz => absurd hz List.not_mem_nil⟩⟩⟩⟩⟩⟩⟩) (x_heap (rfl) (ihi (i + 1) (by omega) (by omega)))
                · refine x_aload_n Γ dX4_most_105 rfl ?_
                  refine x_iload Γ dX4_most_106 rfl ?_
                  refine x_callV Γ calv_X4_loafWorth wl_X4_72 dX4_most_108 (m_X4_loafWorth (g := g) (T := T) (R := R) (c := i) (by omega)) rfl (by decide) (by decide) rfl rfl rfl rfl (Nat.le_of_ble_eq_true rfl) (Nat.le_refl _) (Nat.le_refl _) ?_
                  refine x_goto Γ (tgt := 120) dX4_most_111 (by decide) ?_
                  refine x_iadd Γ dX4_most_120 ?_
                  refine x_istore Γ dX4_most_121 (by decide) ?_
                  refine x_iinc Γ dX4_most_123 rfl (by first | exact zinc _ | rfl) (by decide) ?_
                  refine x_goto Γ (tgt := 67) dX4_most_126 (by decide) ?_
                  exact x_subl [(0, .ref 37), (1, .int (setW T 1 N ||| setW T 2 N)), (2, .int (many (setW T 1 N))), (3, .int (moS T N (setW T 1 N ||| setW T 2 N) (many (setW T 1 N)) c)), (4, .int (nI c)), (5, .int (moV T (setW T 1 N ||| setW T 2 N) (nI c) (i + 1))), (6, .int (nI (i + 1)))] (List.forall_mem_cons.mpr ⟨rfl, List.forall_mem_cons.mpr ⟨rfl, List.forall_mem_cons.mpr ⟨rfl, List.forall_mem_cons.mpr ⟨rfl, List.forall_mem_cons.mpr ⟨rfl, List.forall_mem_cons.mpr ⟨zsi (by simp [moV, *]), List.forall_mem_cons.mpr ⟨rfl, fun _ hz => absurd hz List.not_mem_nil⟩⟩⟩⟩⟩⟩⟩) (x_heap (rfl) (ihi (i + 1) (by omega) (by omega)))
              · refine x_iconst Γ (v := 0) dX4_most_90 rfl ?_
                refine x_goto Γ (tgt := 120) dX4_most_91 (by decide) ?_
                refine x_iadd Γ dX4_most_120 ?_
                refine x_istore Γ dX4_most_121 (by decide) ?_
                refine x_iinc Γ dX4_most_123 rfl (by first | exact zinc _ | rfl) (by decide) ?_
                refine x_goto Γ (tgt := 67) dX4_most_126 (by decide) ?_
                exact x_subl [(0, .ref 37), (1, .int (setW T 1 N ||| setW T 2 N)), (2, .int (many (setW T 1 N))), (3, .int (moS T N (setW T 1 N ||| setW T 2 N) (many (setW T 1 N)) c)), (4, .int (nI c)), (5, .int (moV T (setW T 1 N ||| setW T 2 N) (nI c) (i + 1))), (6, .int (nI (i + 1)))] (List.forall_mem_cons.mpr ⟨rfl, List.forall_mem_cons.mpr ⟨rfl, List.forall_mem_cons.mpr ⟨rfl, List.forall_mem_cons.mpr ⟨rfl, List.forall_mem_cons.mpr ⟨rfl, List.forall_mem_cons.mpr ⟨zsi (by simp [moV, *]), List.forall_mem_cons.mpr ⟨rfl, fun _ hz => absurd hz List.not_mem_nil⟩⟩⟩⟩⟩⟩⟩) (x_heap (rfl) (ihi (i + 1) (by omega) (by omega)))
        · have hG := moS_b (T := T) (N := N) (h := (setW T 1 N ||| setW T 2 N)) c_3
          refine x_goto Γ (tgt := 142) dX4_most_58 (by decide) ?_
          refine x_iinc Γ dX4_most_142 rfl (by first | exact zinc _ | rfl) (by decide) ?_
          refine x_goto Γ (tgt := 26) dX4_most_145 (by decide) ?_
          exact x_subl [(0, .ref 37), (1, .int (setW T 1 N ||| setW T 2 N)), (2, .int (many (setW T 1 N))), (3, .int (moS T N (setW T 1 N ||| setW T 2 N) (many (setW T 1 N)) (c + 1))), (4, .int (nI (c + 1)))] (List.forall_mem_cons.mpr ⟨rfl, List.forall_mem_cons.mpr ⟨rfl, List.forall_mem_cons.mpr ⟨rfl, List.forall_mem_cons.mpr ⟨zsi hG.symm, List.forall_mem_cons.mpr ⟨rfl, fun _ hz => absurd hz List.not_mem_nil⟩⟩⟩⟩⟩) (x_heap (rfl) (iho (c + 1) (by omega) (by omega)))

def chS (T : zT) (N K : Nat) : Nat → Int32 × Int32
  | 0 => (-1, 0)
  | i + 1 => if 0 ≤ (chS T N K i).1 ∧ (chS T N K i).2 ≤ 3 * nI (i / 11) + 2 * nI (i % 11) then chS T N K i else if 0 < trd (ts T 7 1 (nI (i % 11))) 0 (nI (i / 11)) N K then chS T N K i else (100 * nI (i / 11) + nI (i % 11), 3 * nI (i / 11) + 2 * nI (i % 11))
def chR (T R : zT) (N K : Nat) : Nat → zT
  | 0 => R
  | i + 1 => if 0 ≤ (chS T N K i).1 ∧ (chS T N K i).2 ≤ 3 * nI (i / 11) + 2 * nI (i % 11) then chR T R N K i else trR (ts T 7 1 (nI (i % 11))) (chR T R N K i) 0 (nI (i / 11)) N K
theorem d11 {l s : Nat} (hs : s < 11) : (11 * l + s) / 11 = l ∧ (11 * l + s) % 11 = s := by omega
theorem chS_e (T : zT) (N K : Nat) {l s : Nat} (hs : s < 11) : chS T N K (11 * l + s + 1) = if 0 ≤ (chS T N K (11 * l + s)).1 ∧ (chS T N K (11 * l + s)).2 ≤ 3 * nI l + 2 * nI s then chS T N K (11 * l + s) else if 0 < trd (ts T 7 1 (nI s)) 0 (nI l) N K then chS T N K (11 * l + s) else (100 * nI l + nI s, 3 * nI l + 2 * nI s) := by
  rw [chS, (d11 hs).1, (d11 hs).2]
theorem chR_e (T R : zT) (N K : Nat) {l s : Nat} (hs : s < 11) : chR T R N K (11 * l + s + 1) = if 0 ≤ (chS T N K (11 * l + s)).1 ∧ (chS T N K (11 * l + s)).2 ≤ 3 * nI l + 2 * nI s then chR T R N K (11 * l + s) else trR (ts T 7 1 (nI s)) (chR T R N K (11 * l + s)) 0 (nI l) N K := by
  rw [chR, (d11 hs).1, (d11 hs).2]
theorem ts_tt {T : zT} {j i : Nat} {v w : Int32} : ts (ts T j i v) j i w = ts T j i w := by
  funext a c
  by_cases ha : a = j
  · subst ha
    by_cases hc : c = i
    · subst hc; rw [ts_s, ts_s]
    · rw [ts_i hc, ts_i hc, ts_i hc]
  · rw [ts_n ha, ts_n ha, ts_n ha]
def fChe (T : zT) (N : Nat) (n : Int32) : Nat := if inR n 1 60 = true then (if 999 < T 7 5 + n then 4 else if 0 ≤ (chS T N (ci n) 121).1 then 7 else 3) else 0
def gChe (T R : zT) (N : Nat) (n : Int32) : zT := if inR n 1 60 = true ∧ ¬ 999 < T 7 5 + n then (if 0 ≤ (chS T N (ci n) 121).1 then chR T R N (ci n) 121 else fR (chR T R N (ci n) 121) 3) else fR R (fChe T N n)

set_option maxRecDepth 100000 in
set_option maxHeartbeats 4000000 in
theorem m_X4_cheapest {g : Nat → zE} {T R : zT} {N : Nat} (hN : wN T N) (hL : wL T) (n : Int32) : zM 8 M_X4_cheapest [.ref 37, .int n] (hR g T R) 46 (some (.int (fr (fChe T N n) ((chS T N (ci n) 121).1)))) (hR g (T) (gChe T R N n)) 46 0 0 := by
  refine zM.intro (by decide) (Nat.le_of_ble_eq_true rfl) ?_
  intro Wf V m H0 Γ ρ
  replace Γ : zC Wf V m 7 H0 cX4_cheapest RX4 8 0 0 := Γ
  show zX Wf V m 7 H0 0 (zls [(0, .ref 37), (1, .int n)]) [] (hR g T R) 46 0 0
  have hN2 := hN.2
  refine x_iload_n Γ dX4_cheapest_0 rfl ?_
  refine x_callS Γ cals_X4_areWeeks wl_X4_152 dX4_cheapest_1 (m_X4_areWeeks n) rfl (by decide) rfl (Nat.le_of_ble_eq_true rfl) (Nat.le_refl _) (Nat.le_refl _) ?_
  refine x_if_ne Γ (tgt := 14) dX4_cheapest_4 (by decide) (fun c_1 => ?_) (fun c_1 => ?_)
  · have c_1 := zb_n0.mp c_1
    obtain ⟨K, hK1, hK, rfl⟩ := inR_nI1 (n := 60) c_1 rfl (by omega)
    have eK : ci (nI K) = K := nI_clamp (by omega)
    refine x_aload_n Γ dX4_cheapest_14 rfl ?_
    refine x_iload_n Γ dX4_cheapest_15 rfl ?_
    refine x_callV Γ calv_X4_isLate wl_X4_155 dX4_cheapest_16 (m_X4_isLate (g := g) (T := T) (R := R) (nI K)) rfl (by decide) (by decide) rfl rfl rfl rfl (Nat.le_of_ble_eq_true rfl) (Nat.le_refl _) (Nat.le_refl _) ?_
    refine x_if_eq Γ (tgt := 29) dX4_cheapest_19 (by decide) (fun c_2 => ?_) (fun c_2 => ?_)
    · have c_2 := zb_0.mp c_2
      replace c_2 := of_decide_eq_false c_2
      refine x_aload_n Γ dX4_cheapest_29 rfl ?_
      refine gf_X4_9 Γ dX4_cheapest_30 (by decide) rfl rfl ?_
      refine x_iconst Γ (v := 1) dX4_cheapest_33 rfl ?_
      refine x_iald Γ dX4_cheapest_34 (by decide) (by rfl) (j := 1) rfl (by decide) (by decide) (mr_s (by decide)) ?_
      refine x_istore_n Γ dX4_cheapest_35 (by decide) ?_
      refine x_iconst Γ (v := -1) dX4_cheapest_36 rfl ?_
      refine x_istore_n Γ dX4_cheapest_37 (by decide) ?_
      refine x_iconst Γ (v := 0) dX4_cheapest_38 rfl ?_
      refine x_istore Γ dX4_cheapest_39 (by decide) ?_
      refine x_iconst Γ (v := 0) dX4_cheapest_41 rfl ?_
      refine x_istore Γ dX4_cheapest_42 (by decide) ?_
      suffices L_44 : ∀ (ko l : Nat), l ≤ 11 → 11 - l < ko → zX Wf V m 7 H0 44 (zls [(0, .ref 37), (1, .int (nI K)), (2, .int (T 7 1)), (3, .int (chS T N K (11 * l)).1), (4, .int (chS T N K (11 * l)).2), (5, .int (nI l))]) [] (hR g T (chR T R N K (11 * l))) 46 0 0 by
        exact x_subl [(0, .ref 37), (1, .int (nI K)), (2, .int (T 7 1)), (3, .int (chS T N K (11 * 0)).1), (4, .int (chS T N K (11 * 0)).2), (5, .int (nI 0))] (List.forall_mem_cons.mpr ⟨rfl, List.forall_mem_cons.mpr ⟨rfl, List.forall_mem_cons.mpr ⟨rfl, List.forall_mem_cons.mpr ⟨rfl, List.forall_mem_cons.mpr ⟨rfl, List.forall_mem_cons.mpr ⟨rfl, fun _ hz => absurd hz List.not_mem_nil⟩⟩⟩⟩⟩⟩) (x_heap (rfl) (L_44 (11 + 1) 0 (by omega) (by omega)))
      intro ko
      induction ko with
      | zero => intro l h1o h2o; omega
      | succ ko iho =>
        intro l h1o h2o
        refine x_iload Γ dX4_cheapest_44 rfl ?_
        refine x_bipush Γ (v := 10) dX4_cheapest_46 rfl ?_
        refine x_icmp_gt Γ (tgt := 148) dX4_cheapest_48 (by decide) (fun c_3 => ?_) (fun c_3 => ?_)
        · have c_3 := z_lt (a := 10) c_3 (by omega) (by omega)
          obtain rfl : l = 11 := by omega
          refine x_aload_n Γ dX4_cheapest_148 rfl ?_
          refine x_iload_n Γ dX4_cheapest_149 rfl ?_
          refine x_callV Γ calv_X4_orNone wl_X4_164 dX4_cheapest_150 (m_X4_orNone (g := g) (T := T) (R := chR T R N K 121) (chS T N K 121).1) rfl (by decide) (by decide) rfl rfl rfl rfl (Nat.le_of_ble_eq_true rfl) (Nat.le_refl _) (Nat.le_refl _) ?_
          exact x_iret ρ rfl dX4_cheapest_153 rfl (by clear h1o h2o hL; by_cases h0 : (0 : Int32) ≤ (chS T N K 121).1 <;> (simp [fr, fChe, h0, *]; try rfl)) rfl (by clear h1o h2o hL; by_cases h0 : (0 : Int32) ≤ (chS T N K 121).1 <;> (simp [gChe, h0, *]; exact zH.rf))
        · have c_3 := z_nlt (a := 10) c_3 (by omega) (by omega)
          refine x_iconst Γ (v := 0) dX4_cheapest_51 rfl ?_
          refine x_istore Γ dX4_cheapest_52 (by decide) ?_
          suffices L_54 : ∀ (ki s : Nat), s ≤ 11 → 11 - s < ki → zX Wf V m 7 H0 54 (zls [(0, .ref 37), (1, .int (nI K)), (2, .int (T 7 1)), (3, .int (chS T N K (11 * l + s)).1), (4, .int (chS T N K (11 * l + s)).2), (5, .int (nI l)), (6, .int (nI s))]) [] (hR g T (chR T R N K (11 * l + s))) 46 0 0 by
            exact x_subl [(0, .ref 37), (1, .int (nI K)), (2, .int (T 7 1)), (3, .int (chS T N K (11 * l + 0)).1), (4, .int (chS T N K (11 * l + 0)).2), (5, .int (nI l)), (6, .int (nI 0))] (List.forall_mem_cons.mpr ⟨rfl, List.forall_mem_cons.mpr ⟨rfl, List.forall_mem_cons.mpr ⟨rfl, List.forall_mem_cons.mpr ⟨rfl, List.forall_mem_cons.mpr ⟨rfl, List.forall_mem_cons.mpr ⟨rfl, List.forall_mem_cons.mpr ⟨rfl, fun _ hz => absurd hz List.not_mem_nil⟩⟩⟩⟩⟩⟩⟩) (x_heap (rfl) (L_54 (11 + 1) 0 (by omega) (by omega)))
          intro ki
          induction ki with
          | zero => intro s h1i h2i; omega
          | succ ki ihi =>
            intro s h1i h2i
            refine x_iload Γ dX4_cheapest_54 rfl ?_
            refine x_bipush Γ (v := 10) dX4_cheapest_56 rfl ?_
            refine x_icmp_gt Γ (tgt := 142) dX4_cheapest_58 (by decide) (fun c_4 => ?_) (fun c_4 => ?_)
            · have c_4 := z_lt (a := 10) c_4 (by omega) (by omega)
              obtain rfl : s = 11 := by omega
              refine x_iinc Γ dX4_cheapest_142 rfl (by first | exact zinc _ | rfl) (by decide) ?_
              refine x_goto Γ (tgt := 44) dX4_cheapest_145 (by decide) ?_
              exact x_subl [(0, .ref 37), (1, .int (nI K)), (2, .int (T 7 1)), (3, .int (chS T N K (11 * (l + 1))).1), (4, .int (chS T N K (11 * (l + 1))).2), (5, .int (nI (l + 1)))] (List.forall_mem_cons.mpr ⟨rfl, List.forall_mem_cons.mpr ⟨rfl, List.forall_mem_cons.mpr ⟨rfl, List.forall_mem_cons.mpr ⟨rfl, List.forall_mem_cons.mpr ⟨rfl, List.forall_mem_cons.mpr ⟨rfl, fun _ hz => absurd hz List.not_mem_nil⟩⟩⟩⟩⟩⟩) (x_heap (rfl) (iho (l + 1) (by omega) (by omega)))
            · have c_4 := z_nlt (a := 10) c_4 (by omega) (by omega)
              refine x_iload_n Γ dX4_cheapest_61 rfl ?_
              refine x_if_lt Γ (tgt := 82) dX4_cheapest_62 (by decide) (fun c_5 => ?_) (fun c_5 => ?_)
              · have hno : ¬ (0 ≤ (chS T N K (11 * l + s)).1 ∧ (chS T N K (11 * l + s)).2 ≤ 3 * nI l + 2 * nI s) := fun z => Int32.not_lt.mpr z.1 c_5
                refine x_aload_n Γ dX4_cheapest_82 rfl ?_
                refine gf_X4_9 Γ dX4_cheapest_83 (by decide) rfl rfl ?_
                refine x_iconst Γ (v := 1) dX4_cheapest_86 rfl ?_
                refine x_iload Γ dX4_cheapest_87 rfl ?_
                refine x_iast Γ dX4_cheapest_89 (by decide) (by rfl) (j := 1) rfl (by decide) (by decide) (hR_ms (by decide)) ?_
                refine x_aload_n Γ dX4_cheapest_90 rfl ?_
                refine x_iload_n Γ dX4_cheapest_91 rfl ?_
                refine x_iconst Γ (v := 0) dX4_cheapest_92 rfl ?_
                refine x_iload Γ dX4_cheapest_93 rfl ?_
                refine x_callV Γ calv_X4_tries wl_X4_174 dX4_cheapest_95 (m_X4_tries (g := g) (T := ts T 7 1 (nI s)) (R := (chR T R N K (11 * l + s))) (wN_of (ts_i (by decide)) hN) (k := 0) (by decide) (v := nI l) ⟨l, s, by omega, by omega, ts_s, by rw [ts_i (by decide), ts_s]⟩ (K := K) hK) rfl (by decide) (by decide) rfl rfl rfl rfl (Nat.le_of_ble_eq_true rfl) (Nat.le_refl _) (Nat.le_refl _) ?_
                refine x_pop Γ dX4_cheapest_98 rfl ?_
                refine x_aload_n Γ dX4_cheapest_99 rfl ?_
                refine gf_X4_9 Γ dX4_cheapest_100 (by decide) rfl rfl ?_
                refine x_iconst Γ (v := 1) dX4_cheapest_103 rfl ?_
                refine x_iload_n Γ dX4_cheapest_104 rfl ?_
                refine x_iast Γ dX4_cheapest_105 (by decide) (by rfl) (j := 1) rfl (by decide) (by decide) (hR_ms (by decide)) ?_
                rw [ts_tt, ts_self]
                have hH := ((chR_e T R N K (l := l) (s := s) (by omega)).trans (if_neg hno)).symm
                refine x_aload_n Γ dX4_cheapest_106 rfl ?_
                refine gf_X4_167 Γ dX4_cheapest_107 (by decide) rfl rfl ?_
                refine x_if_le Γ (tgt := 116) dX4_cheapest_110 (by decide) (fun c_6 => ?_) (fun c_6 => ?_)
                · rw [trR_1] at c_6
                  have hG := ((chS_e T N K (l := l) (s := s) (by omega)).trans (if_neg hno)).trans (if_neg (Int32.not_lt.mpr c_6))
                  refine x_bipush Γ (v := 100) dX4_cheapest_116 rfl ?_
                  refine x_iload Γ dX4_cheapest_118 rfl ?_
                  refine x_imul Γ dX4_cheapest_120 ?_
                  refine x_iload Γ dX4_cheapest_121 rfl ?_
                  refine x_iadd Γ dX4_cheapest_123 ?_
                  refine x_istore_n Γ dX4_cheapest_124 (by decide) ?_
                  refine x_iconst Γ (v := 3) dX4_cheapest_125 rfl ?_
                  refine x_iload Γ dX4_cheapest_126 rfl ?_
                  refine x_imul Γ dX4_cheapest_128 ?_
                  refine x_iconst Γ (v := 2) dX4_cheapest_129 rfl ?_
                  refine x_iload Γ dX4_cheapest_130 rfl ?_
                  refine x_imul Γ dX4_cheapest_132 ?_
                  refine x_iadd Γ dX4_cheapest_133 ?_
                  refine x_istore Γ dX4_cheapest_134 (by decide) ?_
                  refine x_iinc Γ dX4_cheapest_136 rfl (by first | exact zinc _ | rfl) (by decide) ?_
                  refine x_goto Γ (tgt := 54) dX4_cheapest_139 (by decide) ?_
                  exact x_subl [(0, .ref 37), (1, .int (nI K)), (2, .int (T 7 1)), (3, .int (chS T N K (11 * l + (s + 1))).1), (4, .int (chS T N K (11 * l + (s + 1))).2), (5, .int (nI l)), (6, .int (nI (s + 1)))] (List.forall_mem_cons.mpr ⟨rfl, List.forall_mem_cons.mpr ⟨rfl, List.forall_mem_cons.mpr ⟨rfl, List.forall_mem_cons.mpr ⟨zsi (congrArg Prod.fst hG).symm, List.forall_mem_cons.mpr ⟨zsi (congrArg Prod.snd hG).symm, List.forall_mem_cons.mpr ⟨rfl, List.forall_mem_cons.mpr ⟨rfl, fun _ hz => absurd hz List.not_mem_nil⟩⟩⟩⟩⟩⟩⟩) (x_heap (congrArg (fun r => hR g T r) hH) (ihi (s + 1) (by omega) (by omega)))
                · rw [trR_1] at c_6
                  have hG := ((chS_e T N K (l := l) (s := s) (by omega)).trans (if_neg hno)).trans (if_pos (Int32.not_le.mp c_6))
                  refine x_goto Γ (tgt := 136) dX4_cheapest_113 (by decide) ?_
                  refine x_iinc Γ dX4_cheapest_136 rfl (by first | exact zinc _ | rfl) (by decide) ?_
                  refine x_goto Γ (tgt := 54) dX4_cheapest_139 (by decide) ?_
                  exact x_subl [(0, .ref 37), (1, .int (nI K)), (2, .int (T 7 1)), (3, .int (chS T N K (11 * l + (s + 1))).1), (4, .int (chS T N K (11 * l + (s + 1))).2), (5, .int (nI l)), (6, .int (nI (s + 1)))] (List.forall_mem_cons.mpr ⟨rfl, List.forall_mem_cons.mpr ⟨rfl, List.forall_mem_cons.mpr ⟨rfl, List.forall_mem_cons.mpr ⟨zsi (congrArg Prod.fst hG).symm, List.forall_mem_cons.mpr ⟨zsi (congrArg Prod.snd hG).symm, List.forall_mem_cons.mpr ⟨rfl, List.forall_mem_cons.mpr ⟨rfl, fun _ hz => absurd hz List.not_mem_nil⟩⟩⟩⟩⟩⟩⟩) (x_heap (congrArg (fun r => hR g T r) hH) (ihi (s + 1) (by omega) (by omega)))
              · have hb0 := Int32.not_lt.mp c_5
                refine x_iconst Γ (v := 3) dX4_cheapest_65 rfl ?_
                refine x_iload Γ dX4_cheapest_66 rfl ?_
                refine x_imul Γ dX4_cheapest_68 ?_
                refine x_iconst Γ (v := 2) dX4_cheapest_69 rfl ?_
                refine x_iload Γ dX4_cheapest_70 rfl ?_
                refine x_imul Γ dX4_cheapest_72 ?_
                refine x_iadd Γ dX4_cheapest_73 ?_
                refine x_iload Γ dX4_cheapest_74 rfl ?_
                refine x_icmp_lt Γ (tgt := 82) dX4_cheapest_76 (by decide) (fun c_7 => ?_) (fun c_7 => ?_)
                · have hno : ¬ (0 ≤ (chS T N K (11 * l + s)).1 ∧ (chS T N K (11 * l + s)).2 ≤ 3 * nI l + 2 * nI s) := fun z => Int32.not_le.mpr c_7 z.2
                  refine x_aload_n Γ dX4_cheapest_82 rfl ?_
                  refine gf_X4_9 Γ dX4_cheapest_83 (by decide) rfl rfl ?_
                  refine x_iconst Γ (v := 1) dX4_cheapest_86 rfl ?_
                  refine x_iload Γ dX4_cheapest_87 rfl ?_
                  refine x_iast Γ dX4_cheapest_89 (by decide) (by rfl) (j := 1) rfl (by decide) (by decide) (hR_ms (by decide)) ?_
                  refine x_aload_n Γ dX4_cheapest_90 rfl ?_
                  refine x_iload_n Γ dX4_cheapest_91 rfl ?_
                  refine x_iconst Γ (v := 0) dX4_cheapest_92 rfl ?_
                  refine x_iload Γ dX4_cheapest_93 rfl ?_
                  refine x_callV Γ calv_X4_tries wl_X4_174 dX4_cheapest_95 (m_X4_tries (g := g) (T := ts T 7 1 (nI s)) (R := (chR T R N K (11 * l + s))) (wN_of (ts_i (by decide)) hN) (k := 0) (by decide) (v := nI l) ⟨l, s, by omega, by omega, ts_s, by rw [ts_i (by decide), ts_s]⟩ (K := K) hK) rfl (by decide) (by decide) rfl rfl rfl rfl (Nat.le_of_ble_eq_true rfl) (Nat.le_refl _) (Nat.le_refl _) ?_
                  refine x_pop Γ dX4_cheapest_98 rfl ?_
                  refine x_aload_n Γ dX4_cheapest_99 rfl ?_
                  refine gf_X4_9 Γ dX4_cheapest_100 (by decide) rfl rfl ?_
                  refine x_iconst Γ (v := 1) dX4_cheapest_103 rfl ?_
                  refine x_iload_n Γ dX4_cheapest_104 rfl ?_
                  refine x_iast Γ dX4_cheapest_105 (by decide) (by rfl) (j := 1) rfl (by decide) (by decide) (hR_ms (by decide)) ?_
                  rw [ts_tt, ts_self]
                  have hH := ((chR_e T R N K (l := l) (s := s) (by omega)).trans (if_neg hno)).symm
                  refine x_aload_n Γ dX4_cheapest_106 rfl ?_
                  refine gf_X4_167 Γ dX4_cheapest_107 (by decide) rfl rfl ?_
                  refine x_if_le Γ (tgt := 116) dX4_cheapest_110 (by decide) (fun c_8 => ?_) (fun c_8 => ?_)
                  · rw [trR_1] at c_8
                    have hG := ((chS_e T N K (l := l) (s := s) (by omega)).trans (if_neg hno)).trans (if_neg (Int32.not_lt.mpr c_8))
                    refine x_bipush Γ (v := 100) dX4_cheapest_116 rfl ?_
                    refine x_iload Γ dX4_cheapest_118 rfl ?_
                    refine x_imul Γ dX4_cheapest_120 ?_
                    refine x_iload Γ dX4_cheapest_121 rfl ?_
                    refine x_iadd Γ dX4_cheapest_123 ?_
                    refine x_istore_n Γ dX4_cheapest_124 (by decide) ?_
                    refine x_iconst Γ (v := 3) dX4_cheapest_125 rfl ?_
                    refine x_iload Γ dX4_cheapest_126 rfl ?_
                    refine x_imul Γ dX4_cheapest_128 ?_
                    refine x_iconst Γ (v := 2) dX4_cheapest_129 rfl ?_
                    refine x_iload Γ dX4_cheapest_130 rfl ?_
                    refine x_imul Γ dX4_cheapest_132 ?_
                    refine x_iadd Γ dX4_cheapest_133 ?_
                    refine x_istore Γ dX4_cheapest_134 (by decide) ?_
                    refine x_iinc Γ dX4_cheapest_136 rfl (by first | exact zinc _ | rfl) (by decide) ?_
                    refine x_goto Γ (tgt := 54) dX4_cheapest_139 (by decide) ?_
                    exact x_subl [(0, .ref 37), (1, .int (nI K)), (2, .int (T 7 1)), (3, .int (chS T N K (11 * l + (s + 1))).1), (4, .int (chS T N K (11 * l + (s + 1))).2), (5, .int (nI l)), (6, .int (nI (s + 1)))] (List.forall_mem_cons.mpr ⟨rfl, List.forall_mem_cons.mpr ⟨rfl, List.forall_mem_cons.mpr ⟨rfl, List.forall_mem_cons.mpr ⟨zsi (congrArg Prod.fst hG).symm, List.forall_mem_cons.mpr ⟨zsi (congrArg Prod.snd hG).symm, List.forall_mem_cons.mpr ⟨rfl, List.forall_mem_cons.mpr ⟨rfl, fun _ hz => absurd hz List.not_mem_nil⟩⟩⟩⟩⟩⟩⟩) (x_heap (congrArg (fun r => hR g T r) hH) (ihi (s + 1) (by omega) (by omega)))
                  · rw [trR_1] at c_8
                    have hG := ((chS_e T N K (l := l) (s := s) (by omega)).trans (if_neg hno)).trans (if_pos (Int32.not_le.mp c_8))
                    refine x_goto Γ (tgt := 136) dX4_cheapest_113 (by decide) ?_
                    refine x_iinc Γ dX4_cheapest_136 rfl (by first | exact zinc _ | rfl) (by decide) ?_
                    refine x_goto Γ (tgt := 54) dX4_cheapest_139 (by decide) ?_
                    exact x_subl [(0, .ref 37), (1, .int (nI K)), (2, .int (T 7 1)), (3, .int (chS T N K (11 * l + (s + 1))).1), (4, .int (chS T N K (11 * l + (s + 1))).2), (5, .int (nI l)), (6, .int (nI (s + 1)))] (List.forall_mem_cons.mpr ⟨rfl, List.forall_mem_cons.mpr ⟨rfl, List.forall_mem_cons.mpr ⟨rfl, List.forall_mem_cons.mpr ⟨zsi (congrArg Prod.fst hG).symm, List.forall_mem_cons.mpr ⟨zsi (congrArg Prod.snd hG).symm, List.forall_mem_cons.mpr ⟨rfl, List.forall_mem_cons.mpr ⟨rfl, fun _ hz => absurd hz List.not_mem_nil⟩⟩⟩⟩⟩⟩⟩) (x_heap (congrArg (fun r => hR g T r) hH) (ihi (s + 1) (by omega) (by omega)))
                · have hy := Int32.not_lt.mp c_7
                  have hG := (chS_e T N K (l := l) (s := s) (by omega)).trans (if_pos ⟨hb0, hy⟩)
                  have hH := ((chR_e T R N K (l := l) (s := s) (by omega)).trans (if_pos ⟨hb0, hy⟩)).symm
                  refine x_goto Γ (tgt := 136) dX4_cheapest_79 (by decide) ?_
                  refine x_iinc Γ dX4_cheapest_136 rfl (by first | exact zinc _ | rfl) (by decide) ?_
                  refine x_goto Γ (tgt := 54) dX4_cheapest_139 (by decide) ?_
                  exact x_subl [(0, .ref 37), (1, .int (nI K)), (2, .int (T 7 1)), (3, .int (chS T N K (11 * l + (s + 1))).1), (4, .int (chS T N K (11 * l + (s + 1))).2), (5, .int (nI l)), (6, .int (nI (s + 1)))] (List.forall_mem_cons.mpr ⟨rfl, List.forall_mem_cons.mpr ⟨rfl, List.forall_mem_cons.mpr ⟨rfl, List.forall_mem_cons.mpr ⟨zsi (congrArg Prod.fst hG).symm, List.forall_mem_cons.mpr ⟨zsi (congrArg Prod.snd hG).symm, List.forall_mem_cons.mpr ⟨rfl, List.forall_mem_cons.mpr ⟨rfl, fun _ hz => absurd hz List.not_mem_nil⟩⟩⟩⟩⟩⟩⟩) (x_heap (congrArg (fun r => hR g T r) hH) (ihi (s + 1) (by omega) (by omega)))
    · have c_2 := zb_n0.mp c_2
      replace c_2 := of_decide_eq_true c_2
      refine x_aload_n Γ dX4_cheapest_22 rfl ?_
      refine x_ldc Γ wl_X4_109 dX4_cheapest_23 ?_
      refine x_callV Γ calv_X4_finds wl_X4_36 dX4_cheapest_25 (m_X4_finds (f := -1000005) (k := 4) (by decide) (by decide)) rfl (by decide) (by decide) rfl rfl rfl rfl (Nat.le_of_ble_eq_true rfl) (Nat.le_refl _) (Nat.le_refl _) ?_
      exact x_iret ρ rfl dX4_cheapest_28 rfl (by simp [fr, fChe, *]; try rfl) rfl (by simp [fR, fChe, gChe, *]; exact zH.rf)
  · have c_1 := zb_0.mp c_1
    refine x_aload_n Γ dX4_cheapest_7 rfl ?_
    refine x_ldc Γ wl_X4_34 dX4_cheapest_8 ?_
    refine x_callV Γ calv_X4_finds wl_X4_36 dX4_cheapest_10 (m_X4_finds (f := -1000001) (k := 0) (by decide) (by decide)) rfl (by decide) (by decide) rfl rfl rfl rfl (Nat.le_of_ble_eq_true rfl) (Nat.le_refl _) (Nat.le_refl _) ?_
    exact x_iret ρ rfl dX4_cheapest_13 rfl (by simp [fr, fChe, *]; try rfl) rfl (by simp [fR, fChe, gChe, *]; exact zH.rf)

def coP (up : Bool) (j e A B : Nat) : Prop := (up = true ∧ j = e ∧ A < B) ∨ (up = false ∧ (j ≠ e ∨ B ≤ A))
def coK (R : zT) (j A e B K : Nat) (up : Bool) (c : Nat) : zT := tr R 6 (fun i => if 40 * e + B + (bif up then K - c else 0) ≤ i ∧ i < 40 * e + B + (bif up then K else c) then R 6 (i + (40 * j + A) - (40 * e + B)) else R 6 i)
def coR (R : zT) (j A e B K : Nat) : zT := tr R 6 (fun i => if 40 * e + B ≤ i ∧ i < 40 * e + B + K then R 6 (i + (40 * j + A) - (40 * e + B)) else R 6 i)
theorem co_0 {R : zT} {j A e B K : Nat} {up : Bool} : R = coK R j A e B K up 0 := by
  funext a i
  by_cases ha : a = 6
  · subst ha
    rw [coK, tr_s, if_neg]
    cases up <;> simp only [cond_true, cond_false] <;> omega
  · rw [coK, tr_n ha]
theorem co_K {R : zT} {j A e B K : Nat} {up : Bool} : coK R j A e B K up K = coR R j A e B K := by
  unfold coK coR
  cases up <;> simp
theorem ts_ext {T U : zT} {j i : Nat} {v : Int32} (h : ∀ a, a ≠ j → T a = U a) (h2 : v = U j i) (h3 : ∀ c, c ≠ i → T j c = U j c) : ts T j i v = U := by
  funext a c
  by_cases ha : a = j
  · subst ha
    by_cases hc : c = i
    · subst hc; rw [ts_s]; exact h2
    · rw [ts_i hc]; exact h3 c hc
  · rw [ts_n ha, h a ha]
theorem co_s {R : zT} {j A e B K c : Nat} (hp : coP false j e A B) (hc : c < K) (hA : A + K ≤ 40) (hB : B + K ≤ 40) : ts (coK R j A e B K false c) 6 (40 * e + B + c) (coK R j A e B K false c 6 (40 * j + A + c)) = coK R j A e B K false (c + 1) := by
  have hp2 : j ≠ e ∨ B ≤ A := hp.elim (fun z => by cases z.1) (fun z => z.2)
  refine ts_ext (fun a ha => by rw [coK, coK, tr_n ha, tr_n ha]) ?_ (fun i hi => ?_)
  · simp only [coK, tr_s, cond_false, Nat.add_zero]
    rw [if_neg (by omega), if_pos (by omega)]
    congr 1
    omega
  · simp only [coK, tr_s, cond_false, Nat.add_zero]
    by_cases h : 40 * e + B ≤ i ∧ i < 40 * e + B + c
    · rw [if_pos h, if_pos (by omega)]
    · rw [if_neg h, if_neg (by omega)]
theorem co_t {R : zT} {j A e B K c : Nat} (hp : coP true j e A B) (hc : c < K) (hA : A + K ≤ 40) (hB : B + K ≤ 40) : ts (coK R j A e B K true c) 6 (40 * e + B + (K - 1 - c)) (coK R j A e B K true c 6 (40 * j + A + (K - 1 - c))) = coK R j A e B K true (c + 1) := by
  have hp2 : j = e ∧ A < B := hp.elim (fun z => z.2) (fun z => by cases z.1)
  refine ts_ext (fun a ha => by rw [coK, coK, tr_n ha, tr_n ha]) ?_ (fun i hi => ?_)
  · simp only [coK, tr_s, cond_true]
    rw [if_neg (by omega), if_pos (by omega)]
    congr 1
    omega
  · simp only [coK, tr_s, cond_true]
    by_cases h : 40 * e + B + (K - c) ≤ i ∧ i < 40 * e + B + K
    · rw [if_pos h, if_pos (by omega)]
    · rw [if_neg h, if_neg (by omega)]
theorem ix3 (s a k : Nat) : (40 : Int32) * nI s + nI a + nI k = nI (40 * s + a + k) := by
  rw [ix40, nI_add]
def fCo (R : zT) (s a t b n : Int32) : Nat := if inR s 0 3 = true ∧ inR t 0 3 = true then (if R 4 (ci s) = 0 ∨ R 4 (ci t) = 0 then 5 else if R 4 (ci s) = R 4 (ci t) then (if n < 0 ∨ a < 0 ∨ b < 0 ∨ R 5 (ci s) - a < n ∨ ¬ n ≤ R 5 (ci t) - b then 0 else 7) else 2) else 0
def gCo (R : zT) (s a t b n : Int32) : zT := if fCo R s a t b n = 7 then coR R (ci s) (ci a) (ci t) (ci b) (ci n) else fR R (fCo R s a t b n)
theorem co_le {z A K : Nat} {x : Int32} (hz : z ≤ 40) (hx : x = nI z) (hA : A < 2 ^ 31) (hK : K < 2 ^ 31) (h : nI K ≤ x - nI A) : A + K ≤ z := by
  subst hx
  have h1 := Int32.le_iff_toInt_le.mp h
  rw [nI_toInt hK, Int32.toInt_sub, nI_toInt hA, nI_toInt (by omega)] at h1
  rw [Int.bmod_eq_of_le (by omega) (by omega)] at h1
  omega

set_option maxRecDepth 100000 in
set_option maxHeartbeats 4000000 in
theorem m_X4_copy {g : Nat → zE} {T R : zT} (hS : wS R) (s a t b n : Int32) : zM 2 M_X4_copy [.ref 37, .int s, .int a, .int t, .int b, .int n] (hR g T R) 46 (some (.int (fr (fCo R s a t b n) (n)))) (hR g (T) (gCo R s a t b n)) 46 0 0 := by
  refine zM.intro (by decide) (Nat.le_of_ble_eq_true rfl) ?_
  intro Wf V m H0 Γ ρ
  replace Γ : zC Wf V m 9 H0 cX4_copy RX4 2 0 0 := Γ
  show zX Wf V m 9 H0 0 (zls [(0, .ref 37), (1, .int s), (2, .int a), (3, .int t), (4, .int b), (5, .int n)]) [] (hR g T R) 46 0 0
  refine x_iload_n Γ dX4_copy_0 rfl ?_
  refine x_callS Γ cals_X4_isSheet wl_X4_298 dX4_copy_1 (m_X4_isSheet s) rfl (by decide) rfl (Nat.le_of_ble_eq_true rfl) (Nat.le_refl _) (Nat.le_refl _) ?_
  refine x_if_eq Γ (tgt := 14) dX4_copy_4 (by decide) (fun c_1 => ?_) (fun c_1 => ?_)
  · have c_1 := zb_0.mp c_1
    refine x_aload_n Γ dX4_copy_14 rfl ?_
    refine x_ldc Γ wl_X4_34 dX4_copy_15 ?_
    refine x_callV Γ calv_X4_finds wl_X4_36 dX4_copy_17 (m_X4_finds (f := -1000001) (k := 0) (by decide) (by decide)) rfl (by decide) (by decide) rfl rfl rfl rfl (Nat.le_of_ble_eq_true rfl) (Nat.le_refl _) (Nat.le_refl _) ?_
    exact x_iret ρ rfl dX4_copy_20 rfl (by simp [fr, fCo, *]; try rfl) rfl (by simp [fR, fCo, gCo, *]; exact zH.rf)
  · have c_1 := zb_n0.mp c_1
    obtain ⟨j, hj, rfl⟩ := inR_nI (n := 3) c_1 rfl (by omega)
    have ej : ci (nI j) = j := nI_clamp (by omega)
    obtain ⟨z, hz, ez⟩ := hS j (by omega)
    refine x_iload_n Γ dX4_copy_7 rfl ?_
    refine x_callS Γ cals_X4_isSheet wl_X4_298 dX4_copy_8 (m_X4_isSheet t) rfl (by decide) rfl (Nat.le_of_ble_eq_true rfl) (Nat.le_refl _) (Nat.le_refl _) ?_
    refine x_if_ne Γ (tgt := 21) dX4_copy_11 (by decide) (fun c_2 => ?_) (fun c_2 => ?_)
    · have c_2 := zb_n0.mp c_2
      obtain ⟨e, he, rfl⟩ := inR_nI (n := 3) c_2 rfl (by omega)
      have ee : ci (nI e) = e := nI_clamp (by omega)
      obtain ⟨y, hy, ey⟩ := hS e (by omega)
      refine x_aload_n Γ dX4_copy_21 rfl ?_
      refine gf_X4_25 Γ dX4_copy_22 (by decide) rfl rfl ?_
      refine x_iload_n Γ dX4_copy_25 rfl ?_
      refine x_iald Γ dX4_copy_26 (by decide) (by rfl) rfl (by first | assumption | omega) (by decide) rfl ?_
      refine x_if_eq Γ (tgt := 39) dX4_copy_27 (by decide) (fun c_3 => ?_) (fun c_3 => ?_)
      · refine x_aload_n Γ dX4_copy_39 rfl ?_
        refine x_ldcw Γ wl_X4_293 dX4_copy_40 ?_
        refine x_callV Γ calv_X4_finds wl_X4_36 dX4_copy_43 (m_X4_finds (f := -1000006) (k := 5) (by decide) (by decide)) rfl (by decide) (by decide) rfl rfl rfl rfl (Nat.le_of_ble_eq_true rfl) (Nat.le_refl _) (Nat.le_refl _) ?_
        exact x_iret ρ rfl dX4_copy_46 rfl (by clear ez ey; simp [fr, fCo, *]; try rfl) rfl (by clear ez ey; simp [fR, fCo, gCo, *]; exact zH.rf)
      · refine x_aload_n Γ dX4_copy_30 rfl ?_
        refine gf_X4_25 Γ dX4_copy_31 (by decide) rfl rfl ?_
        refine x_iload_n Γ dX4_copy_34 rfl ?_
        refine x_iald Γ dX4_copy_35 (by decide) (by rfl) rfl (by first | assumption | omega) (by decide) rfl ?_
        refine x_if_ne Γ (tgt := 47) dX4_copy_36 (by decide) (fun c_4 => ?_) (fun c_4 => ?_)
        · refine x_aload_n Γ dX4_copy_47 rfl ?_
          refine gf_X4_25 Γ dX4_copy_48 (by decide) rfl rfl ?_
          refine x_iload_n Γ dX4_copy_51 rfl ?_
          refine x_iald Γ dX4_copy_52 (by decide) (by rfl) rfl (by first | assumption | omega) (by decide) rfl ?_
          refine x_aload_n Γ dX4_copy_53 rfl ?_
          refine gf_X4_25 Γ dX4_copy_54 (by decide) rfl rfl ?_
          refine x_iload_n Γ dX4_copy_57 rfl ?_
          refine x_iald Γ dX4_copy_58 (by decide) (by rfl) rfl (by first | assumption | omega) (by decide) rfl ?_
          refine x_icmp_eq Γ (tgt := 70) dX4_copy_59 (by decide) (fun c_5 => ?_) (fun c_5 => ?_)
          · refine x_iload Γ dX4_copy_70 rfl ?_
            refine x_if_lt Γ (tgt := 111) dX4_copy_72 (by decide) (fun c_6 => ?_) (fun c_6 => ?_)
            · refine x_aload_n Γ dX4_copy_111 rfl ?_
              refine x_ldc Γ wl_X4_34 dX4_copy_112 ?_
              refine x_callV Γ calv_X4_finds wl_X4_36 dX4_copy_114 (m_X4_finds (f := -1000001) (k := 0) (by decide) (by decide)) rfl (by decide) (by decide) rfl rfl rfl rfl (Nat.le_of_ble_eq_true rfl) (Nat.le_refl _) (Nat.le_refl _) ?_
              exact x_iret ρ rfl dX4_copy_117 rfl (by clear ez ey; simp [fr, fCo, *]; try rfl) rfl (by clear ez ey; simp [fR, fCo, gCo, *]; exact zH.rf)
            · have q1 := c_6
              refine x_iload_n Γ dX4_copy_75 rfl ?_
              refine x_if_lt Γ (tgt := 111) dX4_copy_76 (by decide) (fun c_7 => ?_) (fun c_7 => ?_)
              · refine x_aload_n Γ dX4_copy_111 rfl ?_
                refine x_ldc Γ wl_X4_34 dX4_copy_112 ?_
                refine x_callV Γ calv_X4_finds wl_X4_36 dX4_copy_114 (m_X4_finds (f := -1000001) (k := 0) (by decide) (by decide)) rfl (by decide) (by decide) rfl rfl rfl rfl (Nat.le_of_ble_eq_true rfl) (Nat.le_refl _) (Nat.le_refl _) ?_
                exact x_iret ρ rfl dX4_copy_117 rfl (by clear ez ey; simp [fr, fCo, *]; try rfl) rfl (by clear ez ey; simp [fR, fCo, gCo, *]; exact zH.rf)
              · have q2 := c_7
                refine x_iload Γ dX4_copy_79 rfl ?_
                refine x_if_lt Γ (tgt := 111) dX4_copy_81 (by decide) (fun c_8 => ?_) (fun c_8 => ?_)
                · refine x_aload_n Γ dX4_copy_111 rfl ?_
                  refine x_ldc Γ wl_X4_34 dX4_copy_112 ?_
                  refine x_callV Γ calv_X4_finds wl_X4_36 dX4_copy_114 (m_X4_finds (f := -1000001) (k := 0) (by decide) (by decide)) rfl (by decide) (by decide) rfl rfl rfl rfl (Nat.le_of_ble_eq_true rfl) (Nat.le_refl _) (Nat.le_refl _) ?_
                  exact x_iret ρ rfl dX4_copy_117 rfl (by clear ez ey; simp [fr, fCo, *]; try rfl) rfl (by clear ez ey; simp [fR, fCo, gCo, *]; exact zH.rf)
                · have q3 := c_8
                  refine x_iload Γ dX4_copy_84 rfl ?_
                  refine x_aload_n Γ dX4_copy_86 rfl ?_
                  refine gf_X4_28 Γ dX4_copy_87 (by decide) rfl rfl ?_
                  refine x_iload_n Γ dX4_copy_90 rfl ?_
                  refine x_iald Γ dX4_copy_91 (by decide) (by rfl) rfl (by first | assumption | omega) (by decide) rfl ?_
                  refine x_iload_n Γ dX4_copy_92 rfl ?_
                  refine x_isub Γ dX4_copy_93 ?_
                  refine x_icmp_gt Γ (tgt := 111) dX4_copy_94 (by decide) (fun c_9 => ?_) (fun c_9 => ?_)
                  · refine x_aload_n Γ dX4_copy_111 rfl ?_
                    refine x_ldc Γ wl_X4_34 dX4_copy_112 ?_
                    refine x_callV Γ calv_X4_finds wl_X4_36 dX4_copy_114 (m_X4_finds (f := -1000001) (k := 0) (by decide) (by decide)) rfl (by decide) (by decide) rfl rfl rfl rfl (Nat.le_of_ble_eq_true rfl) (Nat.le_refl _) (Nat.le_refl _) ?_
                    exact x_iret ρ rfl dX4_copy_117 rfl (by clear ez ey; simp [fr, fCo, *]; try rfl) rfl (by clear ez ey; simp [fR, fCo, gCo, *]; exact zH.rf)
                  · have q4 := c_9
                    refine x_iload Γ dX4_copy_97 rfl ?_
                    refine x_aload_n Γ dX4_copy_99 rfl ?_
                    refine gf_X4_28 Γ dX4_copy_100 (by decide) rfl rfl ?_
                    refine x_iload_n Γ dX4_copy_103 rfl ?_
                    refine x_iald Γ dX4_copy_104 (by decide) (by rfl) rfl (by first | assumption | omega) (by decide) rfl ?_
                    refine x_iload Γ dX4_copy_105 rfl ?_
                    refine x_isub Γ dX4_copy_107 ?_
                    refine x_icmp_le Γ (tgt := 118) dX4_copy_108 (by decide) (fun c_10 => ?_) (fun c_10 => ?_)
                    · have h7 : fCo R (nI j) a (nI e) b n = 7 := by clear ez ey; simp [fCo, *]
                      obtain ⟨K, hK0, rfl⟩ := nI_of q1
                      obtain ⟨A, hA0, rfl⟩ := nI_of q2
                      obtain ⟨B, hB0, rfl⟩ := nI_of q3
                      have hA := co_le hz ez hA0 hK0 (Int32.not_lt.mp q4)
                      have hB := co_le hy ey hB0 hK0 c_10
                      have eK : ci (nI K) = K := nI_clamp (by omega)
                      have eA : ci (nI A) = A := nI_clamp (by omega)
                      have eB : ci (nI B) = B := nI_clamp (by omega)
                      refine x_iload_n Γ dX4_copy_118 rfl ?_
                      refine x_iload_n Γ dX4_copy_119 rfl ?_
                      refine x_icmp_ne Γ (tgt := 133) dX4_copy_120 (by decide) (fun c_11 => ?_) (fun c_11 => ?_)
                      · obtain ⟨up, eup, hup⟩ : ∃ up : Bool, up = false ∧ coP up j e A B := ⟨false, rfl, Or.inr ⟨rfl, Or.inl (fun z => c_11 (by rw [z]))⟩⟩
                        refine x_iconst Γ (v := 0) dX4_copy_133 rfl ?_
                        refine x_istore Γ dX4_copy_134 (by decide) ?_
                        refine x_iconst Γ (v := 0) dX4_copy_136 rfl ?_
                        refine x_istore Γ dX4_copy_137 (by decide) ?_
                        suffices L_139 : ∀ (k c : Nat), c ≤ K → K - c < k → zX Wf V m 9 H0 139 (zls [(0, .ref 37), (1, .int (nI j)), (2, .int (nI A)), (3, .int (nI e)), (4, .int (nI B)), (5, .int (nI K)), (6, .int (zb up)), (7, .int (nI c))]) [] (hR g T (coK R j A e B K up c)) 46 0 0 by
                          exact x_subl [(0, .ref 37), (1, .int (nI j)), (2, .int (nI A)), (3, .int (nI e)), (4, .int (nI B)), (5, .int (nI K)), (6, .int (zb up)), (7, .int (nI 0))] (List.forall_mem_cons.mpr ⟨rfl, List.forall_mem_cons.mpr ⟨rfl, List.forall_mem_cons.mpr ⟨rfl, List.forall_mem_cons.mpr ⟨rfl, List.forall_mem_cons.mpr ⟨rfl, List.forall_mem_cons.mpr ⟨rfl, List.forall_mem_cons.mpr ⟨zsi (by rw [eup]; rfl), List.forall_mem_cons.mpr ⟨rfl, fun _ hz => absurd hz List.not_mem_nil⟩⟩⟩⟩⟩⟩⟩⟩) (x_heap (congrArg (hR g T) co_0) (L_139 (K + 1) 0 (by omega) (by omega)))
                        intro k
                        induction k with
                        | zero => intro c h1 h2; omega
                        | succ k ih =>
                          intro c h1 h2
                          refine x_iload Γ dX4_copy_139 rfl ?_
                          refine x_iload Γ dX4_copy_141 rfl ?_
                          refine x_icmp_ge Γ (tgt := 200) dX4_copy_143 (by decide) (fun c_12 => ?_) (fun c_12 => ?_)
                          · have c_12 := z_le c_12 (by omega) (by omega)
                            obtain rfl : K = c := by omega
                            refine x_iload Γ dX4_copy_200 rfl ?_
                            rw [co_K]
                            exact x_iret ρ rfl dX4_copy_202 rfl (by rw [h7]; rfl) rfl (by rw [gCo, if_pos h7, ej, eA, ee, eB, eK]; exact zH.rf)
                          · have c_12 := z_nle c_12 (by omega) (by omega)
                            refine x_iload Γ dX4_copy_146 rfl ?_
                            refine x_if_eq Γ (tgt := 161) dX4_copy_148 (by decide) (fun c_13 => ?_) (fun c_13 => ?_)
                            · have c_13 := zb_0.mp c_13
                              rw [c_13] at hup
                              have hG := co_s (R := R) hup (by omega) (by omega) (by omega)
                              rw [← c_13] at hG
                              refine x_iload Γ dX4_copy_161 rfl ?_
                              refine x_istore Γ dX4_copy_163 (by decide) ?_
                              refine x_aload_n Γ dX4_copy_165 rfl ?_
                              refine gf_X4_31 Γ dX4_copy_166 (by decide) rfl rfl ?_
                              refine x_bipush Γ (v := 40) dX4_copy_169 rfl ?_
                              refine x_iload_n Γ dX4_copy_171 rfl ?_
                              refine x_imul Γ dX4_copy_172 ?_
                              refine x_iload Γ dX4_copy_173 rfl ?_
                              refine x_iadd Γ dX4_copy_175 ?_
                              refine x_iload Γ dX4_copy_176 rfl ?_
                              refine x_iadd Γ dX4_copy_178 ?_
                              refine x_aload_n Γ dX4_copy_179 rfl ?_
                              refine gf_X4_31 Γ dX4_copy_180 (by decide) rfl rfl ?_
                              refine x_bipush Γ (v := 40) dX4_copy_183 rfl ?_
                              refine x_iload_n Γ dX4_copy_185 rfl ?_
                              refine x_imul Γ dX4_copy_186 ?_
                              refine x_iload_n Γ dX4_copy_187 rfl ?_
                              refine x_iadd Γ dX4_copy_188 ?_
                              refine x_iload Γ dX4_copy_189 rfl ?_
                              refine x_iadd Γ dX4_copy_191 ?_
                              refine x_iald Γ dX4_copy_192 (by decide) (by rfl) (ix3 j A _) (by omega) (by decide) rfl ?_
                              refine x_iast Γ dX4_copy_193 (by decide) (by rfl) (ix3 e B _) (by omega) (by decide) hR_u6 ?_
                              refine x_iinc Γ dX4_copy_194 rfl (by first | exact zinc _ | rfl) (by decide) ?_
                              refine x_goto Γ (tgt := 139) dX4_copy_197 (by decide) ?_
                              exact x_subl [(0, .ref 37), (1, .int (nI j)), (2, .int (nI A)), (3, .int (nI e)), (4, .int (nI B)), (5, .int (nI K)), (6, .int (zb up)), (7, .int (nI (c + 1)))] (List.forall_mem_cons.mpr ⟨rfl, List.forall_mem_cons.mpr ⟨rfl, List.forall_mem_cons.mpr ⟨rfl, List.forall_mem_cons.mpr ⟨rfl, List.forall_mem_cons.mpr ⟨rfl, List.forall_mem_cons.mpr ⟨rfl, List.forall_mem_cons.mpr ⟨rfl, List.forall_mem_cons.mpr ⟨rfl, fun _ hz => absurd hz List.not_mem_nil⟩⟩⟩⟩⟩⟩⟩⟩) (x_heap (congrArg (hR g T) hG) (ih (c + 1) (by omega) (by omega)))
                            · have c_13 := zb_n0.mp c_13
                              rw [c_13] at hup
                              have hG := co_t (R := R) hup (by omega) (by omega) (by omega)
                              rw [← c_13] at hG
                              refine x_iload Γ dX4_copy_151 rfl ?_
                              refine x_iconst Γ (v := 1) dX4_copy_153 rfl ?_
                              refine x_isub Γ dX4_copy_154 ?_
                              refine x_iload Γ dX4_copy_155 rfl ?_
                              refine x_isub Γ dX4_copy_157 ?_
                              rw [show nI K - 1 - nI c = nI (K - 1 - c) by rw [show (1 : Int32) = nI 1 from rfl, pk_sub (by omega), pk_sub (by omega)]]
                              refine x_goto Γ (tgt := 163) dX4_copy_158 (by decide) ?_
                              refine x_istore Γ dX4_copy_163 (by decide) ?_
                              refine x_aload_n Γ dX4_copy_165 rfl ?_
                              refine gf_X4_31 Γ dX4_copy_166 (by decide) rfl rfl ?_
                              refine x_bipush Γ (v := 40) dX4_copy_169 rfl ?_
                              refine x_iload_n Γ dX4_copy_171 rfl ?_
                              refine x_imul Γ dX4_copy_172 ?_
                              refine x_iload Γ dX4_copy_173 rfl ?_
                              refine x_iadd Γ dX4_copy_175 ?_
                              refine x_iload Γ dX4_copy_176 rfl ?_
                              refine x_iadd Γ dX4_copy_178 ?_
                              refine x_aload_n Γ dX4_copy_179 rfl ?_
                              refine gf_X4_31 Γ dX4_copy_180 (by decide) rfl rfl ?_
                              refine x_bipush Γ (v := 40) dX4_copy_183 rfl ?_
                              refine x_iload_n Γ dX4_copy_185 rfl ?_
                              refine x_imul Γ dX4_copy_186 ?_
                              refine x_iload_n Γ dX4_copy_187 rfl ?_
                              refine x_iadd Γ dX4_copy_188 ?_
                              refine x_iload Γ dX4_copy_189 rfl ?_
                              refine x_iadd Γ dX4_copy_191 ?_
                              refine x_iald Γ dX4_copy_192 (by decide) (by rfl) (ix3 j A _) (by omega) (by decide) rfl ?_
                              refine x_iast Γ dX4_copy_193 (by decide) (by rfl) (ix3 e B _) (by omega) (by decide) hR_u6 ?_
                              refine x_iinc Γ dX4_copy_194 rfl (by first | exact zinc _ | rfl) (by decide) ?_
                              refine x_goto Γ (tgt := 139) dX4_copy_197 (by decide) ?_
                              exact x_subl [(0, .ref 37), (1, .int (nI j)), (2, .int (nI A)), (3, .int (nI e)), (4, .int (nI B)), (5, .int (nI K)), (6, .int (zb up)), (7, .int (nI (c + 1)))] (List.forall_mem_cons.mpr ⟨rfl, List.forall_mem_cons.mpr ⟨rfl, List.forall_mem_cons.mpr ⟨rfl, List.forall_mem_cons.mpr ⟨rfl, List.forall_mem_cons.mpr ⟨rfl, List.forall_mem_cons.mpr ⟨rfl, List.forall_mem_cons.mpr ⟨rfl, List.forall_mem_cons.mpr ⟨rfl, fun _ hz => absurd hz List.not_mem_nil⟩⟩⟩⟩⟩⟩⟩⟩) (x_heap (congrArg (hR g T) hG) (ih (c + 1) (by omega) (by omega)))
                      · have hje := (nI_eq (by omega) (by omega)).mp c_11
                        refine x_iload_n Γ dX4_copy_123 rfl ?_
                        refine x_iload Γ dX4_copy_124 rfl ?_
                        refine x_icmp_ge Γ (tgt := 133) dX4_copy_126 (by decide) (fun c_14 => ?_) (fun c_14 => ?_)
                        · have c_14 := z_le c_14 (by omega) (by omega)
                          obtain ⟨up, eup, hup⟩ : ∃ up : Bool, up = false ∧ coP up j e A B := ⟨false, rfl, Or.inr ⟨rfl, Or.inr c_14⟩⟩
                          refine x_iconst Γ (v := 0) dX4_copy_133 rfl ?_
                          refine x_istore Γ dX4_copy_134 (by decide) ?_
                          refine x_iconst Γ (v := 0) dX4_copy_136 rfl ?_
                          refine x_istore Γ dX4_copy_137 (by decide) ?_
                          suffices L_139 : ∀ (k c : Nat), c ≤ K → K - c < k → zX Wf V m 9 H0 139 (zls [(0, .ref 37), (1, .int (nI j)), (2, .int (nI A)), (3, .int (nI e)), (4, .int (nI B)), (5, .int (nI K)), (6, .int (zb up)), (7, .int (nI c))]) [] (hR g T (coK R j A e B K up c)) 46 0 0 by
                            exact x_subl [(0, .ref 37), (1, .int (nI j)), (2, .int (nI A)), (3, .int (nI e)), (4, .int (nI B)), (5, .int (nI K)), (6, .int (zb up)), (7, .int (nI 0))] (List.forall_mem_cons.mpr ⟨rfl, List.forall_mem_cons.mpr ⟨rfl, List.forall_mem_cons.mpr ⟨rfl, List.forall_mem_cons.mpr ⟨rfl, List.forall_mem_cons.mpr ⟨rfl, List.forall_mem_cons.mpr ⟨rfl, List.forall_mem_cons.mpr ⟨zsi (by rw [eup]; rfl), List.forall_mem_cons.mpr ⟨rfl, fun _ hz => absurd hz List.not_mem_nil⟩⟩⟩⟩⟩⟩⟩⟩) (x_heap (congrArg (hR g T) co_0) (L_139 (K + 1) 0 (by omega) (by omega)))
                          intro k
                          induction k with
                          | zero => intro c h1 h2; omega
                          | succ k ih =>
                            intro c h1 h2
                            refine x_iload Γ dX4_copy_139 rfl ?_
                            refine x_iload Γ dX4_copy_141 rfl ?_
                            refine x_icmp_ge Γ (tgt := 200) dX4_copy_143 (by decide) (fun c_15 => ?_) (fun c_15 => ?_)
                            · have c_15 := z_le c_15 (by omega) (by omega)
                              obtain rfl : K = c := by omega
                              refine x_iload Γ dX4_copy_200 rfl ?_
                              rw [co_K]
                              exact x_iret ρ rfl dX4_copy_202 rfl (by rw [h7]; rfl) rfl (by rw [gCo, if_pos h7, ej, eA, ee, eB, eK]; exact zH.rf)
                            · have c_15 := z_nle c_15 (by omega) (by omega)
                              refine x_iload Γ dX4_copy_146 rfl ?_
                              refine x_if_eq Γ (tgt := 161) dX4_copy_148 (by decide) (fun c_16 => ?_) (fun c_16 => ?_)
                              · have c_16 := zb_0.mp c_16
                                rw [c_16] at hup
                                have hG := co_s (R := R) hup (by omega) (by omega) (by omega)
                                rw [← c_16] at hG
                                refine x_iload Γ dX4_copy_161 rfl ?_
                                refine x_istore Γ dX4_copy_163 (by decide) ?_
                                refine x_aload_n Γ dX4_copy_165 rfl ?_
                                refine gf_X4_31 Γ dX4_copy_166 (by decide) rfl rfl ?_
                                refine x_bipush Γ (v := 40) dX4_copy_169 rfl ?_
                                refine x_iload_n Γ dX4_copy_171 rfl ?_
                                refine x_imul Γ dX4_copy_172 ?_
                                refine x_iload Γ dX4_copy_173 rfl ?_
                                refine x_iadd Γ dX4_copy_175 ?_
                                refine x_iload Γ dX4_copy_176 rfl ?_
                                refine x_iadd Γ dX4_copy_178 ?_
                                refine x_aload_n Γ dX4_copy_179 rfl ?_
                                refine gf_X4_31 Γ dX4_copy_180 (by decide) rfl rfl ?_
                                refine x_bipush Γ (v := 40) dX4_copy_183 rfl ?_
                                refine x_iload_n Γ dX4_copy_185 rfl ?_
                                refine x_imul Γ dX4_copy_186 ?_
                                refine x_iload_n Γ dX4_copy_187 rfl ?_
                                refine x_iadd Γ dX4_copy_188 ?_
                                refine x_iload Γ dX4_copy_189 rfl ?_
                                refine x_iadd Γ dX4_copy_191 ?_
                                refine x_iald Γ dX4_copy_192 (by decide) (by rfl) (ix3 j A _) (by omega) (by decide) rfl ?_
                                refine x_iast Γ dX4_copy_193 (by decide) (by rfl) (ix3 e B _) (by omega) (by decide) hR_u6 ?_
                                refine x_iinc Γ dX4_copy_194 rfl (by first | exact zinc _ | rfl) (by decide) ?_
                                refine x_goto Γ (tgt := 139) dX4_copy_197 (by decide) ?_
                                exact x_subl [(0, .ref 37), (1, .int (nI j)), (2, .int (nI A)), (3, .int (nI e)), (4, .int (nI B)), (5, .int (nI K)), (6, .int (zb up)), (7, .int (nI (c + 1)))] (List.forall_mem_cons.mpr ⟨rfl, List.forall_mem_cons.mpr ⟨rfl, List.forall_mem_cons.mpr ⟨rfl, List.forall_mem_cons.mpr ⟨rfl, List.forall_mem_cons.mpr ⟨rfl, List.forall_mem_cons.mpr ⟨rfl, List.forall_mem_cons.mpr ⟨rfl, List.forall_mem_cons.mpr ⟨rfl, fun _ hz => absurd hz List.not_mem_nil⟩⟩⟩⟩⟩⟩⟩⟩) (x_heap (congrArg (hR g T) hG) (ih (c + 1) (by omega) (by omega)))
                              · have c_16 := zb_n0.mp c_16
                                rw [c_16] at hup
                                have hG := co_t (R := R) hup (by omega) (by omega) (by omega)
                                rw [← c_16] at hG
                                refine x_iload Γ dX4_copy_151 rfl ?_
                                refine x_iconst Γ (v := 1) dX4_copy_153 rfl ?_
                                refine x_isub Γ dX4_copy_154 ?_
                                refine x_iload Γ dX4_copy_155 rfl ?_
                                refine x_isub Γ dX4_copy_157 ?_
                                rw [show nI K - 1 - nI c = nI (K - 1 - c) by rw [show (1 : Int32) = nI 1 from rfl, pk_sub (by omega), pk_sub (by omega)]]
                                refine x_goto Γ (tgt := 163) dX4_copy_158 (by decide) ?_
                                refine x_istore Γ dX4_copy_163 (by decide) ?_
                                refine x_aload_n Γ dX4_copy_165 rfl ?_
                                refine gf_X4_31 Γ dX4_copy_166 (by decide) rfl rfl ?_
                                refine x_bipush Γ (v := 40) dX4_copy_169 rfl ?_
                                refine x_iload_n Γ dX4_copy_171 rfl ?_
                                refine x_imul Γ dX4_copy_172 ?_
                                refine x_iload Γ dX4_copy_173 rfl ?_
                                refine x_iadd Γ dX4_copy_175 ?_
                                refine x_iload Γ dX4_copy_176 rfl ?_
                                refine x_iadd Γ dX4_copy_178 ?_
                                refine x_aload_n Γ dX4_copy_179 rfl ?_
                                refine gf_X4_31 Γ dX4_copy_180 (by decide) rfl rfl ?_
                                refine x_bipush Γ (v := 40) dX4_copy_183 rfl ?_
                                refine x_iload_n Γ dX4_copy_185 rfl ?_
                                refine x_imul Γ dX4_copy_186 ?_
                                refine x_iload_n Γ dX4_copy_187 rfl ?_
                                refine x_iadd Γ dX4_copy_188 ?_
                                refine x_iload Γ dX4_copy_189 rfl ?_
                                refine x_iadd Γ dX4_copy_191 ?_
                                refine x_iald Γ dX4_copy_192 (by decide) (by rfl) (ix3 j A _) (by omega) (by decide) rfl ?_
                                refine x_iast Γ dX4_copy_193 (by decide) (by rfl) (ix3 e B _) (by omega) (by decide) hR_u6 ?_
                                refine x_iinc Γ dX4_copy_194 rfl (by first | exact zinc _ | rfl) (by decide) ?_
                                refine x_goto Γ (tgt := 139) dX4_copy_197 (by decide) ?_
                                exact x_subl [(0, .ref 37), (1, .int (nI j)), (2, .int (nI A)), (3, .int (nI e)), (4, .int (nI B)), (5, .int (nI K)), (6, .int (zb up)), (7, .int (nI (c + 1)))] (List.forall_mem_cons.mpr ⟨rfl, List.forall_mem_cons.mpr ⟨rfl, List.forall_mem_cons.mpr ⟨rfl, List.forall_mem_cons.mpr ⟨rfl, List.forall_mem_cons.mpr ⟨rfl, List.forall_mem_cons.mpr ⟨rfl, List.forall_mem_cons.mpr ⟨rfl, List.forall_mem_cons.mpr ⟨rfl, fun _ hz => absurd hz List.not_mem_nil⟩⟩⟩⟩⟩⟩⟩⟩) (x_heap (congrArg (hR g T) hG) (ih (c + 1) (by omega) (by omega)))
                        · have c_14 := z_nle c_14 (by omega) (by omega)
                          obtain ⟨up, eup, hup⟩ : ∃ up : Bool, up = true ∧ coP up j e A B := ⟨true, rfl, Or.inl ⟨rfl, hje, c_14⟩⟩
                          refine x_iconst Γ (v := 1) dX4_copy_129 rfl ?_
                          refine x_goto Γ (tgt := 134) dX4_copy_130 (by decide) ?_
                          refine x_istore Γ dX4_copy_134 (by decide) ?_
                          refine x_iconst Γ (v := 0) dX4_copy_136 rfl ?_
                          refine x_istore Γ dX4_copy_137 (by decide) ?_
                          suffices L_139 : ∀ (k c : Nat), c ≤ K → K - c < k → zX Wf V m 9 H0 139 (zls [(0, .ref 37), (1, .int (nI j)), (2, .int (nI A)), (3, .int (nI e)), (4, .int (nI B)), (5, .int (nI K)), (6, .int (zb up)), (7, .int (nI c))]) [] (hR g T (coK R j A e B K up c)) 46 0 0 by
                            exact x_subl [(0, .ref 37), (1, .int (nI j)), (2, .int (nI A)), (3, .int (nI e)), (4, .int (nI B)), (5, .int (nI K)), (6, .int (zb up)), (7, .int (nI 0))] (List.forall_mem_cons.mpr ⟨rfl, List.forall_mem_cons.mpr ⟨rfl, List.forall_mem_cons.mpr ⟨rfl, List.forall_mem_cons.mpr ⟨rfl, List.forall_mem_cons.mpr ⟨rfl, List.forall_mem_cons.mpr ⟨rfl, List.forall_mem_cons.mpr ⟨zsi (by rw [eup]; rfl), List.forall_mem_cons.mpr ⟨rfl, fun _ hz => absurd hz List.not_mem_nil⟩⟩⟩⟩⟩⟩⟩⟩) (x_heap (congrArg (hR g T) co_0) (L_139 (K + 1) 0 (by omega) (by omega)))
                          intro k
                          induction k with
                          | zero => intro c h1 h2; omega
                          | succ k ih =>
                            intro c h1 h2
                            refine x_iload Γ dX4_copy_139 rfl ?_
                            refine x_iload Γ dX4_copy_141 rfl ?_
                            refine x_icmp_ge Γ (tgt := 200) dX4_copy_143 (by decide) (fun c_17 => ?_) (fun c_17 => ?_)
                            · have c_17 := z_le c_17 (by omega) (by omega)
                              obtain rfl : K = c := by omega
                              refine x_iload Γ dX4_copy_200 rfl ?_
                              rw [co_K]
                              exact x_iret ρ rfl dX4_copy_202 rfl (by rw [h7]; rfl) rfl (by rw [gCo, if_pos h7, ej, eA, ee, eB, eK]; exact zH.rf)
                            · have c_17 := z_nle c_17 (by omega) (by omega)
                              refine x_iload Γ dX4_copy_146 rfl ?_
                              refine x_if_eq Γ (tgt := 161) dX4_copy_148 (by decide) (fun c_18 => ?_) (fun c_18 => ?_)
                              · have c_18 := zb_0.mp c_18
                                rw [c_18] at hup
                                have hG := co_s (R := R) hup (by omega) (by omega) (by omega)
                                rw [← c_18] at hG
                                refine x_iload Γ dX4_copy_161 rfl ?_
                                refine x_istore Γ dX4_copy_163 (by decide) ?_
                                refine x_aload_n Γ dX4_copy_165 rfl ?_
                                refine gf_X4_31 Γ dX4_copy_166 (by decide) rfl rfl ?_
                                refine x_bipush Γ (v := 40) dX4_copy_169 rfl ?_
                                refine x_iload_n Γ dX4_copy_171 rfl ?_
                                refine x_imul Γ dX4_copy_172 ?_
                                refine x_iload Γ dX4_copy_173 rfl ?_
                                refine x_iadd Γ dX4_copy_175 ?_
                                refine x_iload Γ dX4_copy_176 rfl ?_
                                refine x_iadd Γ dX4_copy_178 ?_
                                refine x_aload_n Γ dX4_copy_179 rfl ?_
                                refine gf_X4_31 Γ dX4_copy_180 (by decide) rfl rfl ?_
                                refine x_bipush Γ (v := 40) dX4_copy_183 rfl ?_
                                refine x_iload_n Γ dX4_copy_185 rfl ?_
                                refine x_imul Γ dX4_copy_186 ?_
                                refine x_iload_n Γ dX4_copy_187 rfl ?_
                                refine x_iadd Γ dX4_copy_188 ?_
                                refine x_iload Γ dX4_copy_189 rfl ?_
                                refine x_iadd Γ dX4_copy_191 ?_
                                refine x_iald Γ dX4_copy_192 (by decide) (by rfl) (ix3 j A _) (by omega) (by decide) rfl ?_
                                refine x_iast Γ dX4_copy_193 (by decide) (by rfl) (ix3 e B _) (by omega) (by decide) hR_u6 ?_
                                refine x_iinc Γ dX4_copy_194 rfl (by first | exact zinc _ | rfl) (by decide) ?_
                                refine x_goto Γ (tgt := 139) dX4_copy_197 (by decide) ?_
                                exact x_subl [(0, .ref 37), (1, .int (nI j)), (2, .int (nI A)), (3, .int (nI e)), (4, .int (nI B)), (5, .int (nI K)), (6, .int (zb up)), (7, .int (nI (c + 1)))] (List.forall_mem_cons.mpr ⟨rfl, List.forall_mem_cons.mpr ⟨rfl, List.forall_mem_cons.mpr ⟨rfl, List.forall_mem_cons.mpr ⟨rfl, List.forall_mem_cons.mpr ⟨rfl, List.forall_mem_cons.mpr ⟨rfl, List.forall_mem_cons.mpr ⟨rfl, List.forall_mem_cons.mpr ⟨rfl, fun _ hz => absurd hz List.not_mem_nil⟩⟩⟩⟩⟩⟩⟩⟩) (x_heap (congrArg (hR g T) hG) (ih (c + 1) (by omega) (by omega)))
                              · have c_18 := zb_n0.mp c_18
                                rw [c_18] at hup
                                have hG := co_t (R := R) hup (by omega) (by omega) (by omega)
                                rw [← c_18] at hG
                                refine x_iload Γ dX4_copy_151 rfl ?_
                                refine x_iconst Γ (v := 1) dX4_copy_153 rfl ?_
                                refine x_isub Γ dX4_copy_154 ?_
                                refine x_iload Γ dX4_copy_155 rfl ?_
                                refine x_isub Γ dX4_copy_157 ?_
                                rw [show nI K - 1 - nI c = nI (K - 1 - c) by rw [show (1 : Int32) = nI 1 from rfl, pk_sub (by omega), pk_sub (by omega)]]
                                refine x_goto Γ (tgt := 163) dX4_copy_158 (by decide) ?_
                                refine x_istore Γ dX4_copy_163 (by decide) ?_
                                refine x_aload_n Γ dX4_copy_165 rfl ?_
                                refine gf_X4_31 Γ dX4_copy_166 (by decide) rfl rfl ?_
                                refine x_bipush Γ (v := 40) dX4_copy_169 rfl ?_
                                refine x_iload_n Γ dX4_copy_171 rfl ?_
                                refine x_imul Γ dX4_copy_172 ?_
                                refine x_iload Γ dX4_copy_173 rfl ?_
                                refine x_iadd Γ dX4_copy_175 ?_
                                refine x_iload Γ dX4_copy_176 rfl ?_
                                refine x_iadd Γ dX4_copy_178 ?_
                                refine x_aload_n Γ dX4_copy_179 rfl ?_
                                refine gf_X4_31 Γ dX4_copy_180 (by decide) rfl rfl ?_
                                refine x_bipush Γ (v := 40) dX4_copy_183 rfl ?_
                                refine x_iload_n Γ dX4_copy_185 rfl ?_
                                refine x_imul Γ dX4_copy_186 ?_
                                refine x_iload_n Γ dX4_copy_187 rfl ?_
                                refine x_iadd Γ dX4_copy_188 ?_
                                refine x_iload Γ dX4_copy_189 rfl ?_
                                refine x_iadd Γ dX4_copy_191 ?_
                                refine x_iald Γ dX4_copy_192 (by decide) (by rfl) (ix3 j A _) (by omega) (by decide) rfl ?_
                                refine x_iast Γ dX4_copy_193 (by decide) (by rfl) (ix3 e B _) (by omega) (by decide) hR_u6 ?_
                                refine x_iinc Γ dX4_copy_194 rfl (by first | exact zinc _ | rfl) (by decide) ?_
                                refine x_goto Γ (tgt := 139) dX4_copy_197 (by decide) ?_
                                exact x_subl [(0, .ref 37), (1, .int (nI j)), (2, .int (nI A)), (3, .int (nI e)), (4, .int (nI B)), (5, .int (nI K)), (6, .int (zb up)), (7, .int (nI (c + 1)))] (List.forall_mem_cons.mpr ⟨rfl, List.forall_mem_cons.mpr ⟨rfl, List.forall_mem_cons.mpr ⟨rfl, List.forall_mem_cons.mpr ⟨rfl, List.forall_mem_cons.mpr ⟨rfl, List.forall_mem_cons.mpr ⟨rfl, List.forall_mem_cons.mpr ⟨rfl, List.forall_mem_cons.mpr ⟨rfl, fun _ hz => absurd hz List.not_mem_nil⟩⟩⟩⟩⟩⟩⟩⟩) (x_heap (congrArg (hR g T) hG) (ih (c + 1) (by omega) (by omega)))
                    · refine x_aload_n Γ dX4_copy_111 rfl ?_
                      refine x_ldc Γ wl_X4_34 dX4_copy_112 ?_
                      refine x_callV Γ calv_X4_finds wl_X4_36 dX4_copy_114 (m_X4_finds (f := -1000001) (k := 0) (by decide) (by decide)) rfl (by decide) (by decide) rfl rfl rfl rfl (Nat.le_of_ble_eq_true rfl) (Nat.le_refl _) (Nat.le_refl _) ?_
                      exact x_iret ρ rfl dX4_copy_117 rfl (by clear ez ey; simp [fr, fCo, *]; try rfl) rfl (by clear ez ey; simp [fR, fCo, gCo, *]; exact zH.rf)
          · refine x_aload_n Γ dX4_copy_62 rfl ?_
            refine x_ldcw Γ wl_X4_297 dX4_copy_63 ?_
            refine x_callV Γ calv_X4_finds wl_X4_36 dX4_copy_66 (m_X4_finds (f := -1000003) (k := 2) (by decide) (by decide)) rfl (by decide) (by decide) rfl rfl rfl rfl (Nat.le_of_ble_eq_true rfl) (Nat.le_refl _) (Nat.le_refl _) ?_
            exact x_iret ρ rfl dX4_copy_69 rfl (by clear ez ey; simp [fr, fCo, *]; try rfl) rfl (by clear ez ey; simp [fR, fCo, gCo, *]; exact zH.rf)
        · refine x_aload_n Γ dX4_copy_39 rfl ?_
          refine x_ldcw Γ wl_X4_293 dX4_copy_40 ?_
          refine x_callV Γ calv_X4_finds wl_X4_36 dX4_copy_43 (m_X4_finds (f := -1000006) (k := 5) (by decide) (by decide)) rfl (by decide) (by decide) rfl rfl rfl rfl (Nat.le_of_ble_eq_true rfl) (Nat.le_refl _) (Nat.le_refl _) ?_
          exact x_iret ρ rfl dX4_copy_46 rfl (by clear ez ey; simp [fr, fCo, *]; try rfl) rfl (by clear ez ey; simp [fR, fCo, gCo, *]; exact zH.rf)
    · have c_2 := zb_0.mp c_2
      refine x_aload_n Γ dX4_copy_14 rfl ?_
      refine x_ldc Γ wl_X4_34 dX4_copy_15 ?_
      refine x_callV Γ calv_X4_finds wl_X4_36 dX4_copy_17 (m_X4_finds (f := -1000001) (k := 0) (by decide) (by decide)) rfl (by decide) (by decide) rfl rfl rfl rfl (Nat.le_of_ble_eq_true rfl) (Nat.le_refl _) (Nat.le_refl _) ?_
      exact x_iret ρ rfl dX4_copy_20 rfl (by simp [fr, fCo, *]; try rfl) rfl (by simp [fR, fCo, gCo, *]; exact zH.rf)
