/-- tally: does what is held fit the sheet -/
def tyS (W R : zT) (j : Nat) : Nat → Bool
  | 0 => true
  | i + 1 => tyS W R j i && decide (W 5 i = R 6 (40 * j + i))
def pTy (T R : zT) (N j z : Nat) (i : Nat) : Bool := cdl T (nI i) && tyS (ogS (dlT T (nI i) N) N N).1 R j (min N z)
def fTy (R : zT) (s : Int32) : Nat := fSb R s
def rTy (T R : zT) (N : Nat) (s : Int32) : Int64 := if fSb R s = 7 then s64 (pTy T R N (ci s) (ci (R 5 (ci s)))) (dN T) else (-1000001 - nI (fSb R s)).toInt64

set_option maxRecDepth 100000 in
set_option maxHeartbeats 4000000 in
theorem m_X4_tally {g : Nat → zE} {T R : zT} {N : Nat} (hN : wN T N) (hL : wL T) (hS : wS R) (s : Int32) : zM 5 M_X4_tally [.ref 37, .int s] (hR g T R) 46 (some (.long (rTy T R N s))) (hR g T (gCf T R (fSb R s))) 46 0 0 := by
  refine zM.intro (by decide) (Nat.le_of_ble_eq_true rfl) ?_
  intro Wf V m H0 Γ ρ
  replace Γ : zC Wf V m 7 H0 cX4_tally RX4 5 0 0 := Γ
  show zX Wf V m 7 H0 0 (zls [(0, .ref 37), (1, .int s)]) [] (hR g T R) 46 0 0
  have hN2 := hN.2
  obtain ⟨M, hM, eM, edN⟩ := dra_M hN hL
  refine x_iload_n Γ dX4_tally_0 rfl ?_
  refine x_callS Γ cals_X4_isSheet wl_X4_298 dX4_tally_1 (m_X4_isSheet s) rfl (by decide) rfl (Nat.le_of_ble_eq_true rfl) (Nat.le_refl _) (Nat.le_refl _) ?_
  refine x_if_ne Γ (tgt := 15) dX4_tally_4 (by decide) (fun c_1 => ?_) (fun c_1 => ?_)
  · have c_1 := zb_n0.mp c_1
    obtain ⟨j, hj, rfl⟩ := inR_nI (n := 3) c_1 rfl (by omega)
    have ej : ci (nI j) = j := nI_clamp (by omega)
    obtain ⟨z, hz, ez⟩ := hS j (by omega)
    have ezz : ci (R 5 j) = z := by rw [ez]; exact nI_clamp (by omega)
    refine x_aload_n Γ dX4_tally_15 rfl ?_
    refine gf_X4_25 Γ dX4_tally_16 (by decide) rfl rfl ?_
    refine x_iload_n Γ dX4_tally_19 rfl ?_
    refine x_iald Γ dX4_tally_20 (by decide) (by rfl) rfl (by first | assumption | omega) (by decide) rfl ?_
    refine x_if_ne Γ (tgt := 33) dX4_tally_21 (by decide) (fun c_2 => ?_) (fun c_2 => ?_)
    · refine x_aload_n Γ dX4_tally_33 rfl ?_
      refine gf_X4_9 Γ dX4_tally_34 (by decide) rfl rfl ?_
      refine x_aload_n Γ dX4_tally_37 rfl ?_
      refine gf_X4_16 Γ dX4_tally_38 (by decide) rfl rfl ?_
      refine x_callSv Γ cals_X4_row wl_X4_123 dX4_tally_41 (row_mw (g := g) (T := T) (R := R)) rfl (by decide) rfl (Nat.le_of_ble_eq_true rfl) (Nat.le_refl _) (Nat.le_refl _) ?_
      refine x_lconst Γ (v := 0) dX4_tally_44 rfl ?_
      refine x_lstore_n Γ dX4_tally_45 (by decide) ?_
      refine x_iconst Γ (v := 0) dX4_tally_46 rfl ?_
      refine x_istore Γ dX4_tally_47 (by decide) ?_
      suffices L_49 : ∀ (k c : Nat) (U : zT), c ≤ M → M - c < k → agU U T N → zX Wf V m 7 H0 49 (zls [(0, .ref 37), (1, .int (nI j)), (2, .long (s64 (pTy T R N j z) c)), (4, .int (nI c))]) [] (hR g U (tr R 1 (mr T))) 46 0 0 by
        exact x_subl [(0, .ref 37), (1, .int (nI j)), (2, .long (s64 (pTy T R N j z) 0)), (4, .int (nI 0))] (List.forall_mem_cons.mpr ⟨rfl, List.forall_mem_cons.mpr ⟨rfl, List.forall_mem_cons.mpr ⟨rfl, List.forall_mem_cons.mpr ⟨rfl, fun _ hz => absurd hz List.not_mem_nil⟩⟩⟩⟩) (L_49 (M + 1) 0 T (by omega) (by omega) ag_rf)
      intro k0
      induction k0 with
      | zero => intro c U q1 q2; omega
      | succ k0 iho =>
        intro c U q1 q2 q3
        refine x_iload Γ dX4_tally_49 rfl ?_
        refine x_iconst Γ (v := 1) dX4_tally_51 rfl ?_
        refine x_aload_n Γ dX4_tally_52 rfl ?_
        refine x_callV Γ calv_X4_drawing wl_X4_181 dX4_tally_53 (m_X4_drawing (g := g) (T := U) (R := (tr R 1 (mr T)))) rfl (by decide) (by decide) rfl rfl rfl rfl (Nat.le_of_ble_eq_true rfl) (Nat.le_refl _) (Nat.le_refl _) ?_
        rw [dra_ag q3]
        refine x_ishl Γ dX4_tally_56 ?_
        refine x_icmp_ge Γ (tgt := 171) dX4_tally_57 (by decide) (fun c_3 => ?_) (fun c_3 => ?_)
        · rw [eM] at c_3
          have c_3 := z_le c_3 (by omega) (by omega)
          obtain rfl : c = M := by omega
          refine x_aload_n Γ dX4_tally_171 rfl ?_
          refine gf_X4_16 Γ dX4_tally_172 (by decide) rfl rfl ?_
          refine x_aload_n Γ dX4_tally_175 rfl ?_
          refine gf_X4_9 Γ dX4_tally_176 (by decide) rfl rfl ?_
          refine x_callSv Γ cals_X4_row wl_X4_123 dX4_tally_179 (row_wm (g := g) (T := T) (U := U) (R := (tr R 1 (mr T))) tr_s) rfl (by decide) rfl (Nat.le_of_ble_eq_true rfl) (Nat.le_refl _) (Nat.le_refl _) ?_
          refine x_lload_n Γ dX4_tally_182 rfl ?_
          exact x_lret ρ dX4_tally_183 (by clear ez; simp [rTy, fSb, *]; try rfl) rfl (by simp [gCf, fSb, *]; exact zH.rf)
        · rw [eM] at c_3
          have c_3 := z_nle c_3 (by omega) (by omega)
          refine x_aload_n Γ dX4_tally_60 rfl ?_
          refine x_iload Γ dX4_tally_61 rfl ?_
          refine x_callV Γ calv_X4_isWay wl_X4_184 dX4_tally_63 (m_X4_isWay (g := g) (T := U) (R := (tr R 1 (mr T))) (nI c)) rfl (by decide) (by decide) rfl rfl rfl rfl (Nat.le_of_ble_eq_true rfl) (Nat.le_refl _) (Nat.le_refl _) ?_
          rw [cdl_ag q3]
          refine x_if_ne Γ (tgt := 72) dX4_tally_66 (by decide) (fun c_4 => ?_) (fun c_4 => ?_)
          · have c_4 := zb_n0.mp c_4
            refine x_aload_n Γ dX4_tally_72 rfl ?_
            refine x_iload Γ dX4_tally_73 rfl ?_
            refine x_callVv Γ calv_X4_lies wl_X4_187 dX4_tally_75 (m_X4_lies (g := g) (T := U) (R := (tr R 1 (mr T))) (N := N) (wN_of (by rw [q3.1 7 (by decide)]) hN) (nI c)) rfl (by decide) (by decide) rfl rfl rfl rfl (Nat.le_of_ble_eq_true rfl) (Nat.le_refl _) (Nat.le_refl _) ?_
            rw [dlT_ag q3]
            refine x_aload_n Γ dX4_tally_78 rfl ?_
            refine x_callV Γ calv_X4_opens wl_X4_120 dX4_tally_79 (m_X4_opens (g := g) (T := dlT T (nI c) N) (R := (tr R 1 (mr T))) (wN_of (by rw [dlT_n _ _ _ (by decide)]) hN)) rfl (by decide) (by decide) rfl rfl rfl rfl (Nat.le_of_ble_eq_true rfl) (Nat.le_refl _) (Nat.le_refl _) ?_
            refine x_pop Γ dX4_tally_82 rfl ?_
            refine x_iconst Γ (v := 1) dX4_tally_83 rfl ?_
            refine x_istore Γ dX4_tally_84 (by decide) ?_
            refine x_iconst Γ (v := 0) dX4_tally_86 rfl ?_
            refine x_istore Γ dX4_tally_87 (by decide) ?_
            suffices L_89 : ∀ (k i : Nat), i ≤ (min N z) → (min N z) - i < k → zX Wf V m 7 H0 89 (zls [(0, .ref 37), (1, .int (nI j)), (2, .long (s64 (pTy T R N j z) c)), (4, .int (nI c)), (5, .int (zb (tyS (ogS (dlT T (nI c) N) N N).1 R j i))), (6, .int (nI i))]) [] (hR g (ogS (dlT T (nI c) N) N N).1 (tr R 1 (mr T))) 46 0 0 by
              exact x_subl [(0, .ref 37), (1, .int (nI j)), (2, .long (s64 (pTy T R N j z) c)), (4, .int (nI c)), (5, .int (zb (tyS (ogS (dlT T (nI c) N) N N).1 R j 0))), (6, .int (nI 0))] (List.forall_mem_cons.mpr ⟨rfl, List.forall_mem_cons.mpr ⟨rfl, List.forall_mem_cons.mpr ⟨rfl, List.forall_mem_cons.mpr ⟨rfl, List.forall_mem_cons.mpr ⟨rfl, List.forall_mem_cons.mpr ⟨rfl, fun _ hz => absurd hz List.not_mem_nil⟩⟩⟩⟩⟩⟩) (x_heap (rfl) (L_89 ((min N z) + 1) 0 (by omega) (by omega)))
            intro k
            induction k with
            | zero => intro i h1 h2; omega
            | succ k ih =>
              intro i h1 h2
              refine x_iload Γ dX4_tally_89 rfl ?_
              refine x_aload_n Γ dX4_tally_91 rfl ?_
              refine gf_X4_9 Γ dX4_tally_92 (by decide) rfl rfl ?_
              refine x_bipush Γ (v := 8) dX4_tally_95 rfl ?_
              refine x_iald Γ dX4_tally_97 (by decide) (by rfl) (j := 8) rfl (by decide) (by decide) (mr_s (by decide)) ?_
              refine x_icmp_ge Γ (tgt := 152) dX4_tally_98 (by decide) (fun c_5 => ?_) (fun c_5 => ?_)
              · rw [ogS_n _ _ _ (by decide), dlT_n _ _ _ (by decide), hN.1] at c_5
                have c_5 := z_le c_5 (by omega) (by omega)
                obtain hi : i = min N z := by omega
                clear h1 h2
                refine x_lload_n Γ dX4_tally_152 rfl ?_
                refine x_iload Γ dX4_tally_153 rfl ?_
                refine x_if_eq Γ (tgt := 162) dX4_tally_155 (by decide) (fun c_6 => ?_) (fun c_6 => ?_)
                · subst hi
                  have c_6 := zb_0.mp c_6
                  refine x_lconst Γ (v := 0) dX4_tally_162 rfl ?_
                  refine x_ladd Γ dX4_tally_163 ?_
                  refine x_lstore_n Γ dX4_tally_164 (by decide) ?_
                  refine x_iinc Γ dX4_tally_165 rfl (by first | exact zinc _ | rfl) (by decide) ?_
                  refine x_goto Γ (tgt := 49) dX4_tally_168 (by decide) ?_
                  first
                  | exact x_subl [(0, .ref 37), (1, .int (nI j)), (2, .long (s64 (pTy T R N j z) (c + 1))), (4, .int (nI (c + 1)))] (List.forall_mem_cons.mpr ⟨rfl, List.forall_mem_cons.mpr ⟨rfl, List.forall_mem_cons.mpr ⟨zsl (by simp [s64, pTy, *]), List.forall_mem_cons.mpr ⟨rfl, fun _ hz => absurd hz List.not_mem_nil⟩⟩⟩⟩) (iho (c + 1) U (by omega) (by omega) q3)
                  | exact x_subl [(0, .ref 37), (1, .int (nI j)), (2, .long (s64 (pTy T R N j z) (c + 1))), (4, .int (nI (c + 1)))] (List.forall_mem_cons.mpr ⟨rfl, List.forall_mem_cons.mpr ⟨rfl, List.forall_mem_cons.mpr ⟨zsl (by simp [s64, pTy, *]), List.forall_mem_cons.mpr ⟨rfl, fun _ hz => absurd hz List.not_mem_nil⟩⟩⟩⟩) (iho (c + 1) _ (by omega) (by omega) ag_st)
                · subst hi
                  have c_6 := zb_n0.mp c_6
                  refine x_lconst Γ (v := 1) dX4_tally_158 rfl ?_
                  refine x_goto Γ (tgt := 163) dX4_tally_159 (by decide) ?_
                  refine x_ladd Γ dX4_tally_163 ?_
                  refine x_lstore_n Γ dX4_tally_164 (by decide) ?_
                  refine x_iinc Γ dX4_tally_165 rfl (by first | exact zinc _ | rfl) (by decide) ?_
                  refine x_goto Γ (tgt := 49) dX4_tally_168 (by decide) ?_
                  first
                  | exact x_subl [(0, .ref 37), (1, .int (nI j)), (2, .long (s64 (pTy T R N j z) (c + 1))), (4, .int (nI (c + 1)))] (List.forall_mem_cons.mpr ⟨rfl, List.forall_mem_cons.mpr ⟨rfl, List.forall_mem_cons.mpr ⟨zsl (by simp [s64, pTy, *]), List.forall_mem_cons.mpr ⟨rfl, fun _ hz => absurd hz List.not_mem_nil⟩⟩⟩⟩) (iho (c + 1) U (by omega) (by omega) q3)
                  | exact x_subl [(0, .ref 37), (1, .int (nI j)), (2, .long (s64 (pTy T R N j z) (c + 1))), (4, .int (nI (c + 1)))] (List.forall_mem_cons.mpr ⟨rfl, List.forall_mem_cons.mpr ⟨rfl, List.forall_mem_cons.mpr ⟨zsl (by simp [s64, pTy, *]), List.forall_mem_cons.mpr ⟨rfl, fun _ hz => absurd hz List.not_mem_nil⟩⟩⟩⟩) (iho (c + 1) _ (by omega) (by omega) ag_st)
              · rw [ogS_n _ _ _ (by decide), dlT_n _ _ _ (by decide), hN.1] at c_5
                have c_5 := z_nle c_5 (by omega) (by omega)
                refine x_iload Γ dX4_tally_101 rfl ?_
                refine x_aload_n Γ dX4_tally_103 rfl ?_
                refine gf_X4_28 Γ dX4_tally_104 (by decide) rfl rfl ?_
                refine x_iload_n Γ dX4_tally_107 rfl ?_
                refine x_iald Γ dX4_tally_108 (by decide) (by rfl) rfl (by first | assumption | omega) (by decide) rfl ?_
                refine x_icmp_ge Γ (tgt := 152) dX4_tally_109 (by decide) (fun c_7 => ?_) (fun c_7 => ?_)
                · rw [show tr R 1 (mr T) 5 j = R 5 j by rw [tr_n (by decide)], ez] at c_7
                  have c_7 := z_le c_7 (by omega) (by omega)
                  obtain hi : i = min N z := by omega
                  clear h1 h2
                  refine x_lload_n Γ dX4_tally_152 rfl ?_
                  refine x_iload Γ dX4_tally_153 rfl ?_
                  refine x_if_eq Γ (tgt := 162) dX4_tally_155 (by decide) (fun c_8 => ?_) (fun c_8 => ?_)
                  · subst hi
                    have c_8 := zb_0.mp c_8
                    refine x_lconst Γ (v := 0) dX4_tally_162 rfl ?_
                    refine x_ladd Γ dX4_tally_163 ?_
                    refine x_lstore_n Γ dX4_tally_164 (by decide) ?_
                    refine x_iinc Γ dX4_tally_165 rfl (by first | exact zinc _ | rfl) (by decide) ?_
                    refine x_goto Γ (tgt := 49) dX4_tally_168 (by decide) ?_
                    first
                    | exact x_subl [(0, .ref 37), (1, .int (nI j)), (2, .long (s64 (pTy T R N j z) (c + 1))), (4, .int (nI (c + 1)))] (List.forall_mem_cons.mpr ⟨rfl, List.forall_mem_cons.mpr ⟨rfl, List.forall_mem_cons.mpr ⟨zsl (by simp [s64, pTy, *]), List.forall_mem_cons.mpr ⟨rfl, fun _ hz => absurd hz List.not_mem_nil⟩⟩⟩⟩) (iho (c + 1) U (by omega) (by omega) q3)
                    | exact x_subl [(0, .ref 37), (1, .int (nI j)), (2, .long (s64 (pTy T R N j z) (c + 1))), (4, .int (nI (c + 1)))] (List.forall_mem_cons.mpr ⟨rfl, List.forall_mem_cons.mpr ⟨rfl, List.forall_mem_cons.mpr ⟨zsl (by simp [s64, pTy, *]), List.forall_mem_cons.mpr ⟨rfl, fun _ hz => absurd hz List.not_mem_nil⟩⟩⟩⟩) (iho (c + 1) _ (by omega) (by omega) ag_st)
                  · subst hi
                    have c_8 := zb_n0.mp c_8
                    refine x_lconst Γ (v := 1) dX4_tally_158 rfl ?_
                    refine x_goto Γ (tgt := 163) dX4_tally_159 (by decide) ?_
                    refine x_ladd Γ dX4_tally_163 ?_
                    refine x_lstore_n Γ dX4_tally_164 (by decide) ?_
                    refine x_iinc Γ dX4_tally_165 rfl (by first | exact zinc _ | rfl) (by decide) ?_
                    refine x_goto Γ (tgt := 49) dX4_tally_168 (by decide) ?_
                    first
                    | exact x_subl [(0, .ref 37), (1, .int (nI j)), (2, .long (s64 (pTy T R N j z) (c + 1))), (4, .int (nI (c + 1)))] (List.forall_mem_cons.mpr ⟨rfl, List.forall_mem_cons.mpr ⟨rfl, List.forall_mem_cons.mpr ⟨zsl (by simp [s64, pTy, *]), List.forall_mem_cons.mpr ⟨rfl, fun _ hz => absurd hz List.not_mem_nil⟩⟩⟩⟩) (iho (c + 1) U (by omega) (by omega) q3)
                    | exact x_subl [(0, .ref 37), (1, .int (nI j)), (2, .long (s64 (pTy T R N j z) (c + 1))), (4, .int (nI (c + 1)))] (List.forall_mem_cons.mpr ⟨rfl, List.forall_mem_cons.mpr ⟨rfl, List.forall_mem_cons.mpr ⟨zsl (by simp [s64, pTy, *]), List.forall_mem_cons.mpr ⟨rfl, fun _ hz => absurd hz List.not_mem_nil⟩⟩⟩⟩) (iho (c + 1) _ (by omega) (by omega) ag_st)
                · rw [show tr R 1 (mr T) 5 j = R 5 j by rw [tr_n (by decide)], ez] at c_7
                  have c_7 := z_nle c_7 (by omega) (by omega)
                  refine x_iload Γ dX4_tally_112 rfl ?_
                  refine x_if_eq Γ (tgt := 143) dX4_tally_114 (by decide) (fun c_9 => ?_) (fun c_9 => ?_)
                  · have c_9 := zb_0.mp c_9
                    refine x_iconst Γ (v := 0) dX4_tally_143 rfl ?_
                    refine x_istore Γ dX4_tally_144 (by decide) ?_
                    refine x_iinc Γ dX4_tally_146 rfl (by first | exact zinc _ | rfl) (by decide) ?_
                    refine x_goto Γ (tgt := 89) dX4_tally_149 (by decide) ?_
                    exact x_subl [(0, .ref 37), (1, .int (nI j)), (2, .long (s64 (pTy T R N j z) c)), (4, .int (nI c)), (5, .int (zb (tyS (ogS (dlT T (nI c) N) N N).1 R j (i + 1)))), (6, .int (nI (i + 1)))] (List.forall_mem_cons.mpr ⟨rfl, List.forall_mem_cons.mpr ⟨rfl, List.forall_mem_cons.mpr ⟨rfl, List.forall_mem_cons.mpr ⟨rfl, List.forall_mem_cons.mpr ⟨(zsi (by simp [tyS, zb, tr_n, *])), List.forall_mem_cons.mpr ⟨rfl, fun _ hz => absurd hz List.not_mem_nil⟩⟩⟩⟩⟩⟩) (x_heap (rfl) (ih (i + 1) (by omega) (by omega)))
                  · have c_9 := zb_n0.mp c_9
                    refine x_aload_n Γ dX4_tally_117 rfl ?_
                    refine x_iload Γ dX4_tally_118 rfl ?_
                    refine x_iconst Γ (v := 5) dX4_tally_120 rfl ?_
                    refine x_callV Γ calv_X4_is wl_X4_63 dX4_tally_121 (m_X4_is (g := g) (T := (ogS (dlT T (nI c) N) N N).1) (R := (tr R 1 (mr T))) (c := i) (w := 5) (by omega) (by decide)) rfl (by decide) (by decide) rfl rfl rfl rfl (Nat.le_of_ble_eq_true rfl) (Nat.le_refl _) (Nat.le_refl _) ?_
                    refine x_aload_n Γ dX4_tally_124 rfl ?_
                    refine gf_X4_31 Γ dX4_tally_125 (by decide) rfl rfl ?_
                    refine x_bipush Γ (v := 40) dX4_tally_128 rfl ?_
                    refine x_iload_n Γ dX4_tally_130 rfl ?_
                    refine x_imul Γ dX4_tally_131 ?_
                    refine x_iload Γ dX4_tally_132 rfl ?_
                    refine x_iadd Γ dX4_tally_134 ?_
                    refine x_iald Γ dX4_tally_135 (by decide) (by rfl) (ix40 j i) (by omega) (by decide) rfl ?_
                    refine x_icmp_ne Γ (tgt := 143) dX4_tally_136 (by decide) (fun c_10 => ?_) (fun c_10 => ?_)
                    · rw [show tr R 1 (mr T) 6 (40 * j + i) = R 6 (40 * j + i) by rw [tr_n (by decide)]] at c_10
                      refine x_iconst Γ (v := 0) dX4_tally_143 rfl ?_
                      refine x_istore Γ dX4_tally_144 (by decide) ?_
                      refine x_iinc Γ dX4_tally_146 rfl (by first | exact zinc _ | rfl) (by decide) ?_
                      refine x_goto Γ (tgt := 89) dX4_tally_149 (by decide) ?_
                      exact x_subl [(0, .ref 37), (1, .int (nI j)), (2, .long (s64 (pTy T R N j z) c)), (4, .int (nI c)), (5, .int (zb (tyS (ogS (dlT T (nI c) N) N N).1 R j (i + 1)))), (6, .int (nI (i + 1)))] (List.forall_mem_cons.mpr ⟨rfl, List.forall_mem_cons.mpr ⟨rfl, List.forall_mem_cons.mpr ⟨rfl, List.forall_mem_cons.mpr ⟨rfl, List.forall_mem_cons.mpr ⟨(zsi (by simp [tyS, zb, tr_n, *])), List.forall_mem_cons.mpr ⟨rfl, fun _ hz => absurd hz List.not_mem_nil⟩⟩⟩⟩⟩⟩) (x_heap (rfl) (ih (i + 1) (by omega) (by omega)))
                    · rw [show tr R 1 (mr T) 6 (40 * j + i) = R 6 (40 * j + i) by rw [tr_n (by decide)]] at c_10
                      refine x_iconst Γ (v := 1) dX4_tally_139 rfl ?_
                      refine x_goto Γ (tgt := 144) dX4_tally_140 (by decide) ?_
                      refine x_istore Γ dX4_tally_144 (by decide) ?_
                      refine x_iinc Γ dX4_tally_146 rfl (by first | exact zinc _ | rfl) (by decide) ?_
                      refine x_goto Γ (tgt := 89) dX4_tally_149 (by decide) ?_
                      exact x_subl [(0, .ref 37), (1, .int (nI j)), (2, .long (s64 (pTy T R N j z) c)), (4, .int (nI c)), (5, .int (zb (tyS (ogS (dlT T (nI c) N) N N).1 R j (i + 1)))), (6, .int (nI (i + 1)))] (List.forall_mem_cons.mpr ⟨rfl, List.forall_mem_cons.mpr ⟨rfl, List.forall_mem_cons.mpr ⟨rfl, List.forall_mem_cons.mpr ⟨rfl, List.forall_mem_cons.mpr ⟨(zsi (by simp [tyS, zb, tr_n, *])), List.forall_mem_cons.mpr ⟨rfl, fun _ hz => absurd hz List.not_mem_nil⟩⟩⟩⟩⟩⟩) (x_heap (rfl) (ih (i + 1) (by omega) (by omega)))
          · have c_4 := zb_0.mp c_4
            refine x_goto Γ (tgt := 165) dX4_tally_69 (by decide) ?_
            refine x_iinc Γ dX4_tally_165 rfl (by first | exact zinc _ | rfl) (by decide) ?_
            refine x_goto Γ (tgt := 49) dX4_tally_168 (by decide) ?_
            first
            | exact x_subl [(0, .ref 37), (1, .int (nI j)), (2, .long (s64 (pTy T R N j z) (c + 1))), (4, .int (nI (c + 1)))] (List.forall_mem_cons.mpr ⟨rfl, List.forall_mem_cons.mpr ⟨rfl, List.forall_mem_cons.mpr ⟨zsl (by simp [s64, pTy, *]), List.forall_mem_cons.mpr ⟨rfl, fun _ hz => absurd hz List.not_mem_nil⟩⟩⟩⟩) (iho (c + 1) U (by omega) (by omega) q3)
            | exact x_subl [(0, .ref 37), (1, .int (nI j)), (2, .long (s64 (pTy T R N j z) (c + 1))), (4, .int (nI (c + 1)))] (List.forall_mem_cons.mpr ⟨rfl, List.forall_mem_cons.mpr ⟨rfl, List.forall_mem_cons.mpr ⟨zsl (by simp [s64, pTy, *]), List.forall_mem_cons.mpr ⟨rfl, fun _ hz => absurd hz List.not_mem_nil⟩⟩⟩⟩) (iho (c + 1) _ (by omega) (by omega) ag_st)
    · refine x_aload_n Γ dX4_tally_24 rfl ?_
      refine x_ldcw Γ wl_X4_293 dX4_tally_25 ?_
      refine x_callV Γ calv_X4_finds wl_X4_36 dX4_tally_28 (m_X4_finds (f := -1000006) (k := 5) (by decide) (by decide)) rfl (by decide) (by decide) rfl rfl rfl rfl (Nat.le_of_ble_eq_true rfl) (Nat.le_refl _) (Nat.le_refl _) ?_
      refine x_i2l Γ dX4_tally_31 ?_
      exact x_lret ρ dX4_tally_32 (by clear ez; simp [rTy, fSb, *]; try rfl) rfl (by simp [fR, gCf, fSb, *]; exact zH.rf)
  · have c_1 := zb_0.mp c_1
    refine x_aload_n Γ dX4_tally_7 rfl ?_
    refine x_ldc Γ wl_X4_34 dX4_tally_8 ?_
    refine x_callV Γ calv_X4_finds wl_X4_36 dX4_tally_10 (m_X4_finds (f := -1000001) (k := 0) (by decide) (by decide)) rfl (by decide) (by decide) rfl rfl rfl rfl (Nat.le_of_ble_eq_true rfl) (Nat.le_refl _) (Nat.le_refl _) ?_
    refine x_i2l Γ dX4_tally_13 ?_
    exact x_lret ρ dX4_tally_14 (by simp [rTy, fSb, *]; try rfl) rfl (by simp [fR, gCf, fSb, *]; exact zH.rf)
