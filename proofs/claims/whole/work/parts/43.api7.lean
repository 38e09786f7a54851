def abv (x : Int32) : Int32 := if x = 0 then -1 else if x = 3 then 2 else if x = 4 then 1 else if x = 6 then 5 else 0
/-- is a kind under another, behind so many steps -/
def asS (v : Int32) : Nat → Int32 → Bool
  | 0, _ => false
  | f + 1, k => if k < 0 then false else if k = v then true else asS v f (abv k)
def dk : Nat → Int32 → Prop
  | 0, k => k < 0
  | f + 1, k => k < 0 ∨ dk f (abv k)
theorem dk_s {e : Nat} {k : Int32} (h : dk e k) (hk : ¬ k < 0) : ∃ e1, e = e1 + 1 ∧ dk e1 (abv k) := by
  cases e with
  | zero => exact absurd h hk
  | succ e => exact ⟨e, rfl, h.resolve_left hk⟩
theorem asS_n {v : Int32} {e : Nat} {k : Int32} (hk : k < 0) : asS v e k = false := by
  cases e with
  | zero => rfl
  | succ e => exact if_pos hk
theorem dk4 (k : Int32) : dk 4 k := by
  refine Or.inr ?_
  unfold abv
  by_cases h0 : k = 0
  · rw [if_pos h0]; exact Or.inl (by decide)
  · rw [if_neg h0]
    by_cases h3 : k = 3
    · rw [if_pos h3]; exact Or.inr (Or.inr (Or.inl (by decide)))
    · rw [if_neg h3]
      by_cases h4 : k = 4
      · rw [if_pos h4]; exact Or.inr (Or.inr (Or.inl (by decide)))
      · rw [if_neg h4]
        by_cases h6 : k = 6
        · rw [if_pos h6]; exact Or.inr (Or.inr (Or.inl (by decide)))
        · rw [if_neg h6]; exact Or.inr (Or.inl (by decide))
/-- who the spots hold -/
def wP (T : zT) (N : Nat) : Prop := ∀ i, i < 10 → T 6 i = -1 ∨ ∃ c, c < N ∧ T 6 i = nI c
def fAs (T : zT) (s v : Int32) : Nat := if inR s 0 9 = true ∧ isK v = true then (if T 6 (ci s) < 0 then 5 else if asS v 4 (T 0 (ci (T 6 (ci s)))) = true then 7 else 2) else 0

set_option maxRecDepth 100000 in
set_option maxHeartbeats 4000000 in
theorem m_X4_above {h : Nat → zE} (x : Int32) : zM 0 M_X4_above [.int x] (h) 46 (some (.int (abv x))) (h) 46 0 0 := by
  refine zM.intro (by decide) (Nat.le_of_ble_eq_true rfl) ?_
  intro Wf V m H0 Γ ρ
  replace Γ : zC Wf V m 1 H0 cX4_above RX4 0 0 0 := Γ
  show zX Wf V m 1 H0 0 (zls [(0, .int x)]) [] (h) 46 0 0
  refine x_iload_n Γ dX4_above_0 rfl ?_
  refine x_tab7 Γ (a0 := 0) (a1 := 1) (a2 := 2) (a3 := 3) (a4 := 4) (a5 := 5) (a6 := 6) (t0 := 44) (t1 := 52) (t2 := 52) (t3 := 46) (t4 := 48) (t5 := 52) (t6 := 50) (td := 52) dX4_above_1 (by decide +kernel) (fun c_1 => ?_) (fun c_1 => ?_) (fun c_1 => ?_) (fun c_1 => ?_) (fun c_1 => ?_) (fun c_1 => ?_) (fun c_1 => ?_) (fun c_1_0 c_1_1 c_1_2 c_1_3 c_1_4 c_1_5 c_1_6 => ?_)
  · refine x_iconst Γ (v := -1) dX4_above_44 rfl ?_
    exact x_iret ρ rfl dX4_above_45 rfl (by simp [abv, *]) rfl (zH.rf)
  · refine x_iconst Γ (v := 0) dX4_above_52 rfl ?_
    exact x_iret ρ rfl dX4_above_53 rfl (by simp [abv, *]) rfl (zH.rf)
  · refine x_iconst Γ (v := 0) dX4_above_52 rfl ?_
    exact x_iret ρ rfl dX4_above_53 rfl (by simp [abv, *]) rfl (zH.rf)
  · refine x_iconst Γ (v := 2) dX4_above_46 rfl ?_
    exact x_iret ρ rfl dX4_above_47 rfl (by simp [abv, *]) rfl (zH.rf)
  · refine x_iconst Γ (v := 1) dX4_above_48 rfl ?_
    exact x_iret ρ rfl dX4_above_49 rfl (by simp [abv, *]) rfl (zH.rf)
  · refine x_iconst Γ (v := 0) dX4_above_52 rfl ?_
    exact x_iret ρ rfl dX4_above_53 rfl (by simp [abv, *]) rfl (zH.rf)
  · refine x_iconst Γ (v := 5) dX4_above_50 rfl ?_
    exact x_iret ρ rfl dX4_above_51 rfl (by simp [abv, *]) rfl (zH.rf)
  · refine x_iconst Γ (v := 0) dX4_above_52 rfl ?_
    exact x_iret ρ rfl dX4_above_53 rfl (by simp [abv, *]) rfl (zH.rf)

set_option maxRecDepth 100000 in
set_option maxHeartbeats 4000000 in
theorem m_X4_as {g : Nat → zE} {T R : zT} {N : Nat} (hN : wN T N) (hP : wP T N) (s v : Int32) : zM 2 M_X4_as [.ref 37, .int s, .int v] (hR g T R) 46 (some (.int (fr (fAs T s v) (T 6 (ci s))))) (hR g (T) (fR R (fAs T s v))) 46 0 0 := by
  refine zM.intro (by decide) (Nat.le_of_ble_eq_true rfl) ?_
  intro Wf V m H0 Γ ρ
  replace Γ : zC Wf V m 5 H0 cX4_as RX4 2 0 0 := Γ
  show zX Wf V m 5 H0 0 (zls [(0, .ref 37), (1, .int s), (2, .int v)]) [] (hR g T R) 46 0 0
  have hN2 := hN.2
  refine x_iload_n Γ dX4_as_0 rfl ?_
  refine x_i2l Γ dX4_as_1 ?_
  refine x_lconst Γ (v := 0) dX4_as_2 rfl ?_
  refine x_ldc2 Γ wl_X4_46 dX4_as_3 ?_
  refine x_callS Γ cals_X4_in wl_X4_40 dX4_as_6 (m_in s 0 9 0 9 rfl rfl) rfl (by decide) rfl (Nat.le_of_ble_eq_true rfl) (Nat.le_refl _) (Nat.le_refl _) ?_
  refine x_if_eq Γ (tgt := 19) dX4_as_9 (by decide) (fun c_1 => ?_) (fun c_1 => ?_)
  · have c_1 := zb_0.mp c_1
    refine x_aload_n Γ dX4_as_19 rfl ?_
    refine x_ldc Γ wl_X4_34 dX4_as_20 ?_
    refine x_callV Γ calv_X4_finds wl_X4_36 dX4_as_22 (m_X4_finds (f := -1000001) (k := 0) (by decide) (by decide)) rfl (by decide) (by decide) rfl rfl rfl rfl (Nat.le_of_ble_eq_true rfl) (Nat.le_refl _) (Nat.le_refl _) ?_
    exact x_iret ρ rfl dX4_as_25 rfl (by simp [fr, fAs, *]; try rfl) rfl (by simp [fR, fAs, *]; exact zH.rf)
  · have c_1 := zb_n0.mp c_1
    obtain ⟨j, hj, rfl⟩ := inR_nI (n := 9) c_1 rfl (by omega)
    have ej : ci (nI j) = j := nI_clamp (by omega)
    refine x_iload_n Γ dX4_as_12 rfl ?_
    refine x_callS Γ cals_X4_isKind wl_X4_54 dX4_as_13 (m_X4_isKind v) rfl (by decide) rfl (Nat.le_of_ble_eq_true rfl) (Nat.le_refl _) (Nat.le_refl _) ?_
    refine x_if_ne Γ (tgt := 26) dX4_as_16 (by decide) (fun c_2 => ?_) (fun c_2 => ?_)
    · have c_2 := zb_n0.mp c_2
      refine x_aload_n Γ dX4_as_26 rfl ?_
      refine gf_X4_9 Γ dX4_as_27 (by decide) rfl rfl ?_
      refine x_bipush Γ (v := 69) dX4_as_30 rfl ?_
      refine x_iload_n Γ dX4_as_32 rfl ?_
      refine x_iadd Γ dX4_as_33 ?_
      refine x_iald Γ dX4_as_34 (by decide) (by rfl) (ix69 j) (by omega) (by decide) mr_p ?_
      refine x_istore_n Γ dX4_as_35 (by decide) ?_
      refine x_iload_n Γ dX4_as_36 rfl ?_
      refine x_if_ge Γ (tgt := 48) dX4_as_37 (by decide) (fun c_3 => ?_) (fun c_3 => ?_)
      · have h60 : ¬ T 6 j < 0 := Int32.not_lt.mpr c_3
        obtain ⟨c, hc, ec⟩ : ∃ c, c < N ∧ T 6 j = nI c := by
          rcases hP j (by omega) with h | h
          · exact absurd (h ▸ c_3) (by decide)
          · exact h
        have ek : ci (nI c) = c := nI_clamp (by omega)
        rw [ec] at h60
        clear c_3
        rw [ec]
        refine x_aload_n Γ dX4_as_48 rfl ?_
        refine x_iload_n Γ dX4_as_49 rfl ?_
        refine x_iconst Γ (v := 0) dX4_as_50 rfl ?_
        refine x_callV Γ calv_X4_is wl_X4_63 dX4_as_51 (m_X4_is (g := g) (T := T) (R := R) (c := c) (w := 0) (by omega) (by decide)) rfl (by decide) (by decide) rfl rfl rfl rfl (Nat.le_of_ble_eq_true rfl) (Nat.le_refl _) (Nat.le_refl _) ?_
        refine x_istore Γ dX4_as_54 (by decide) ?_
        suffices L_56 : ∀ (f e : Nat) (k : Int32), e < f → dk e k → asS v e k = asS v 4 (T 0 c) → zX Wf V m 5 H0 56 (zls [(0, .ref 37), (2, .int v), (3, .int (nI c)), (4, .int k)]) [] (hR g T R) 46 0 0 by
          exact x_subl [(0, .ref 37), (2, .int v), (3, .int (nI c)), (4, .int (T 0 c))] (List.forall_mem_cons.mpr ⟨rfl, List.forall_mem_cons.mpr ⟨rfl, List.forall_mem_cons.mpr ⟨rfl, List.forall_mem_cons.mpr ⟨rfl, fun _ hz => absurd hz List.not_mem_nil⟩⟩⟩⟩) (L_56 5 4 (T 0 c) (by omega) (dk4 _) rfl)
        intro f
        induction f with
        | zero => intro e k q1; omega
        | succ f ih =>
          intro e k q1 q2 q3
          refine x_iload Γ dX4_as_56 rfl ?_
          refine x_if_lt Γ (tgt := 79) dX4_as_58 (by decide) (fun c_4 => ?_) (fun c_4 => ?_)
          · have h7 : asS v 4 (T 0 c) = false := q3.symm.trans (asS_n c_4)
            clear q3
            refine x_aload_n Γ dX4_as_79 rfl ?_
            refine x_ldcw Γ wl_X4_297 dX4_as_80 ?_
            refine x_callV Γ calv_X4_finds wl_X4_36 dX4_as_83 (m_X4_finds (f := -1000003) (k := 2) (by decide) (by decide)) rfl (by decide) (by decide) rfl rfl rfl rfl (Nat.le_of_ble_eq_true rfl) (Nat.le_refl _) (Nat.le_refl _) ?_
            exact x_iret ρ rfl dX4_as_86 rfl (by simp [fr, fAs, *]; try rfl) rfl (by simp [fR, fAs, *]; exact zH.rf)
          · obtain ⟨e, rfl, q4⟩ := dk_s q2 c_4
            refine x_iload Γ dX4_as_61 rfl ?_
            refine x_iload_n Γ dX4_as_63 rfl ?_
            refine x_icmp_ne Γ (tgt := 69) dX4_as_64 (by decide) (fun c_5 => ?_) (fun c_5 => ?_)
            · have q5 : asS v e (abv k) = asS v 4 (T 0 c) := by rw [← q3, asS, if_neg (by assumption), if_neg c_5]
              refine x_iload Γ dX4_as_69 rfl ?_
              refine x_callS Γ cals_X4_above wl_X4_294 dX4_as_71 (m_X4_above k) rfl (by decide) rfl (Nat.le_of_ble_eq_true rfl) (Nat.le_refl _) (Nat.le_refl _) ?_
              refine x_istore Γ dX4_as_74 (by decide) ?_
              refine x_goto Γ (tgt := 56) dX4_as_76 (by decide) ?_
              exact x_subl [(0, .ref 37), (2, .int v), (3, .int (nI c)), (4, .int (abv k))] (List.forall_mem_cons.mpr ⟨rfl, List.forall_mem_cons.mpr ⟨rfl, List.forall_mem_cons.mpr ⟨rfl, List.forall_mem_cons.mpr ⟨rfl, fun _ hz => absurd hz List.not_mem_nil⟩⟩⟩⟩) (ih e (abv k) (by omega) q4 q5)
            · have h7 : asS v 4 (T 0 c) = true := by rw [← q3, asS, if_neg (by assumption), if_pos c_5]
              clear q3
              refine x_iload_n Γ dX4_as_67 rfl ?_
              exact x_iret ρ rfl dX4_as_68 rfl (by simp [fr, fAs, *]; try rfl) rfl (by simp [fR, fAs, *]; exact zH.rf)
      · have h60 : T 6 j < 0 := Int32.not_le.mp c_3
        refine x_aload_n Γ dX4_as_40 rfl ?_
        refine x_ldcw Γ wl_X4_293 dX4_as_41 ?_
        refine x_callV Γ calv_X4_finds wl_X4_36 dX4_as_44 (m_X4_finds (f := -1000006) (k := 5) (by decide) (by decide)) rfl (by decide) (by decide) rfl rfl rfl rfl (Nat.le_of_ble_eq_true rfl) (Nat.le_refl _) (Nat.le_refl _) ?_
        exact x_iret ρ rfl dX4_as_47 rfl (by simp [fr, fAs, *]; try rfl) rfl (by simp [fR, fAs, *]; exact zH.rf)
    · have c_2 := zb_0.mp c_2
      refine x_aload_n Γ dX4_as_19 rfl ?_
      refine x_ldc Γ wl_X4_34 dX4_as_20 ?_
      refine x_callV Γ calv_X4_finds wl_X4_36 dX4_as_22 (m_X4_finds (f := -1000001) (k := 0) (by decide) (by decide)) rfl (by decide) (by decide) rfl rfl rfl rfl (Nat.le_of_ble_eq_true rfl) (Nat.le_refl _) (Nat.le_refl _) ?_
      exact x_iret ρ rfl dX4_as_25 rfl (by simp [fr, fAs, *]; try rfl) rfl (by simp [fR, fAs, *]; exact zH.rf)
