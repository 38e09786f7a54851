def fitD (T : zT) (F : Nat → Int32) (sz N : Nat) : Prop := ∀ c, c < N → c < sz → T 5 c = F c
theorem fit_s {T : zT} {F : Nat → Int32} {sz c : Nat} (h : fitD T F sz c) (e : T 5 c = F c) : fitD T F sz (c + 1) := fun i hi hs => by
  by_cases hic : i = c
  · rw [hic]; exact e
  · exact h i (by omega) hs

set_option maxRecDepth 100000 in
set_option maxHeartbeats 4000000 in
theorem m_X0_fits {g : Nat → zE} {b : Nat} {T : zT} (hb : b + 7 < 46) {N : Nat} (hN : wN T N) {q q1 sz : Nat} {F : Nat → Int32} {bt : Int32} {ok : Bool} (hq : q < 46) (hR1 : hC g b T q = zO 1 [.ref q1, .int bt, .int (nI sz)]) (hq1 : q1 < 46) (hR2 : hC g b T q1 = zI 40 F) (hsz : sz ≤ 40) (hok : ok = true ↔ fitD T F sz N) : zM 0 M_X0_fits [.ref b, .ref q] (hC g b T) 46 (some (.int (zb ok))) (hC g b T) 46 0 0 := by
  refine zM.intro (by decide) (Nat.le_of_ble_eq_true rfl) ?_
  intro Wf V m H0 Γ ρ
  replace Γ : zC Wf V m 3 H0 cX0_fits RX0 0 0 0 := Γ
  show zX Wf V m 3 H0 0 (zls [(0, .ref b), (1, .ref q)]) [] (hC g b T) 46 0 0
  have hb0 : b < 46 := by omega
  have hb1 : b + 1 < 46 := by omega
  have hb2 : b + 2 < 46 := by omega
  have hb3 : b + 3 < 46 := by omega
  have hb4 : b + 4 < 46 := by omega
  have hb5 : b + 5 < 46 := by omega
  have hb6 : b + 6 < 46 := by omega
  have hb7 : b + 7 < 46 := by omega
  have hN2 := hN.2
  refine x_iconst Γ (v := 0) dX0_fits_0 rfl ?_
  refine x_istore_n Γ dX0_fits_1 (by decide) ?_
  suffices L_2 : ∀ (k c : Nat), c ≤ N → N - c < k → fitD T F sz c → zX Wf V m 3 H0 2 (zls [(0, .ref b), (1, .ref q), (2, .int (nI c))]) [] (hC g b T) 46 0 0 by
    exact x_subl [(0, .ref b), (1, .ref q), (2, .int (nI 0))] (List.forall_mem_cons.mpr ⟨rfl, List.forall_mem_cons.mpr ⟨rfl, List.forall_mem_cons.mpr ⟨rfl, fun _ hz => absurd hz List.not_mem_nil⟩⟩⟩) (L_2 (N + 1) 0 (by omega) (by omega) (fun i hi => absurd hi (Nat.not_lt_zero _)))
  intro k
  induction k with
  | zero => intro c h1 h2; omega
  | succ k ih =>
    intro c h1 h2 h3
    refine x_iload_n Γ dX0_fits_2 rfl ?_
    refine x_aload_n Γ dX0_fits_3 rfl ?_
    refine gf_X0_33 Γ dX0_fits_4 hb0 hC_o rfl ?_
    refine x_icmp_ge Γ (tgt := 41) dX0_fits_7 (by decide) (fun c_1 => ?_) (fun c_1 => ?_)
    · rw [hN.1] at c_1
      have c_1 := z_le c_1 (by omega) (by omega)
      obtain rfl : N = c := by omega
      refine x_iconst Γ (v := 1) dX0_fits_41 rfl ?_
      exact x_iret ρ rfl dX0_fits_42 (by first | exact zb_nz _ | rfl) (by first | (rw [show ok = true from hok.mpr h4]; rfl) | (rw [show ok = true from hok.mpr h3]; rfl)) rfl (zH.rf)
    · rw [hN.1] at c_1
      have c_1 := z_nle c_1 (by omega) (by omega)
      refine x_iload_n Γ dX0_fits_10 rfl ?_
      refine x_aload_n Γ dX0_fits_11 rfl ?_
      refine gf_X0_137 Γ dX0_fits_12 hq hR1 rfl ?_
      refine x_icmp_ge Γ (tgt := 41) dX0_fits_15 (by decide) (fun c_2 => ?_) (fun c_2 => ?_)
      · have c_2 := z_le c_2 (by omega) (by omega)
        have h4 : fitD T F sz N := fun i hi hs => h3 i (by omega) hs
        refine x_iconst Γ (v := 1) dX0_fits_41 rfl ?_
        exact x_iret ρ rfl dX0_fits_42 (by first | exact zb_nz _ | rfl) (by first | (rw [show ok = true from hok.mpr h4]; rfl) | (rw [show ok = true from hok.mpr h3]; rfl)) rfl (zH.rf)
      · have c_2 := z_nle c_2 (by omega) (by omega)
        refine x_aload_n Γ dX0_fits_18 rfl ?_
        refine gf_X0_27 Γ dX0_fits_19 hb0 hC_o rfl ?_
        refine x_iload_n Γ dX0_fits_22 rfl ?_
        refine x_iald Γ dX0_fits_23 hb6 hC_5 rfl (by first | assumption | omega) (by decide) rfl ?_
        refine x_aload_n Γ dX0_fits_24 rfl ?_
        refine gf_X0_142 Γ dX0_fits_25 hq hR1 rfl ?_
        refine x_iload_n Γ dX0_fits_28 rfl ?_
        refine x_iald Γ dX0_fits_29 hq1 hR2 rfl (by first | assumption | omega) (by decide) rfl ?_
        refine x_icmp_eq Γ (tgt := 35) dX0_fits_30 (by decide) (fun c_3 => ?_) (fun c_3 => ?_)
        · refine x_iinc Γ dX0_fits_35 rfl (by first | exact zinc _ | rfl) (by decide) ?_
          refine x_goto Γ (tgt := 2) dX0_fits_38 (by decide) ?_
          exact x_subl [(0, .ref b), (1, .ref q), (2, .int (nI (c + 1)))] (List.forall_mem_cons.mpr ⟨rfl, List.forall_mem_cons.mpr ⟨rfl, List.forall_mem_cons.mpr ⟨rfl, fun _ hz => absurd hz List.not_mem_nil⟩⟩⟩) (ih (c + 1) (by omega) (by omega) (fit_s h3 (by assumption)))
        · have h4 : ¬ fitD T F sz N := fun z => c_3 (z c (by assumption) (by assumption))
          refine x_iconst Γ (v := 0) dX0_fits_33 rfl ?_
          exact x_iret ρ rfl dX0_fits_34 (by first | exact zb_nz _ | rfl) (by rw [show ok = false from Bool.eq_false_iff.mpr (fun z => h4 (hok.mp z))]; rfl) rfl (zH.rf)

def keS (T : zT) (N : Nat) (x : Int32) : Nat → Nat × Int32
  | 0 => (N, 0)
  | c + 1 =>
    let s := keS T N x c
    if (x >>> (nI c &&& 31)) &&& 1 = 1 ∧ (s.1 = N ∨ s.2 < lw T c - sw T c) then (c, lw T c - sw T c) else s
theorem keS_le (T : zT) (N : Nat) (x : Int32) : ∀ c, c ≤ N → (keS T N x c).1 ≤ N := by
  intro c
  induction c with
  | zero => intro _; exact Nat.le_refl _
  | succ c ih =>
    intro h
    simp only [keS]
    split
    · dsimp only; omega
    · exact ih (by omega)
def hldW (T : zT) : Nat → Int32
  | 0 => 0
  | c + 1 => if T 5 c = 0 then hldW T c else hldW T c ||| ((1 : Int32) <<< (nI c &&& 31))
def bwS (T : zT) (N : Nat) (s x : Int32) : Nat → Int32 × Int32
  | 0 => (s, x)
  | i + 1 =>
    let q := bwS T N s x i
    let k := (keS T N q.2 N).1
    if k < N then (q.1 + (lw T k - sw T k), q.2 &&& (((1 : Int32) <<< (nI k &&& 31)) ^^^ (-1))) else q
theorem many_nI : ∀ k, k < 1024 → ∃ L, L < 11 ∧ many (nI k) = nI L := by
  have : ∀ k, k < 1024 → ((List.range 11).any fun L => many (nI k) == nI L) = true := by decide +kernel
  intro k hk
  obtain ⟨L, hL, e⟩ := List.any_eq_true.mp (this k hk)
  exact ⟨L, List.mem_range.mp hL, eq_of_beq e⟩

set_option maxRecDepth 100000 in
set_option maxHeartbeats 4000000 in
theorem m_X0_keenestOnLoaf {g : Nat → zE} {b : Nat} {T : zT} (hb : b + 7 < 46) {N : Nat} (hN : wN T N) (x : Int32) : zM 1 M_X0_keenestOnLoaf [.ref b, .int x] (hC g b T) 46 (some (.int (nI (keS T N x N).1))) (hC g b T) 46 0 0 := by
  refine zM.intro (by decide) (Nat.le_of_ble_eq_true rfl) ?_
  intro Wf V m H0 Γ ρ
  replace Γ : zC Wf V m 6 H0 cX0_keenestOnLoaf RX0 1 0 0 := Γ
  show zX Wf V m 6 H0 0 (zls [(0, .ref b), (1, .int x)]) [] (hC g b T) 46 0 0
  have hb0 : b < 46 := by omega
  have hb1 : b + 1 < 46 := by omega
  have hb2 : b + 2 < 46 := by omega
  have hb3 : b + 3 < 46 := by omega
  have hb4 : b + 4 < 46 := by omega
  have hb5 : b + 5 < 46 := by omega
  have hb6 : b + 6 < 46 := by omega
  have hb7 : b + 7 < 46 := by omega
  have hN2 := hN.2
  refine x_aload_n Γ dX0_keenestOnLoaf_0 rfl ?_
  refine gf_X0_33 Γ dX0_keenestOnLoaf_1 hb0 hC_o rfl ?_
  refine x_istore_n Γ dX0_keenestOnLoaf_4 (by decide) ?_
  refine x_iconst Γ (v := 0) dX0_keenestOnLoaf_5 rfl ?_
  refine x_istore_n Γ dX0_keenestOnLoaf_6 (by decide) ?_
  refine x_iconst Γ (v := 0) dX0_keenestOnLoaf_7 rfl ?_
  refine x_istore Γ dX0_keenestOnLoaf_8 (by decide) ?_
  suffices L_10 : ∀ (k c : Nat), c ≤ N → N - c < k → zX Wf V m 6 H0 10 (zls [(0, .ref b), (1, .int x), (2, .int (nI (keS T N x c).1)), (3, .int (keS T N x c).2), (4, .int (nI c))]) [] (hC g b T) 46 0 0 by
    exact x_subl [(0, .ref b), (1, .int x), (2, .int (nI (keS T N x 0).1)), (3, .int (keS T N x 0).2), (4, .int (nI 0))] (List.forall_mem_cons.mpr ⟨rfl, List.forall_mem_cons.mpr ⟨rfl, List.forall_mem_cons.mpr ⟨zsi hN.1, List.forall_mem_cons.mpr ⟨rfl, List.forall_mem_cons.mpr ⟨rfl, fun _ hz => absurd hz List.not_mem_nil⟩⟩⟩⟩⟩) (x_heap (rfl) (L_10 (N + 1) 0 (by omega) (by omega)))
  intro k
  induction k with
  | zero => intro c h1 h2; omega
  | succ k ih =>
    intro c h1 h2
    refine x_iload Γ dX0_keenestOnLoaf_10 rfl ?_
    refine x_aload_n Γ dX0_keenestOnLoaf_12 rfl ?_
    refine gf_X0_33 Γ dX0_keenestOnLoaf_13 hb0 hC_o rfl ?_
    refine x_icmp_ge Γ (tgt := 70) dX0_keenestOnLoaf_16 (by decide) (fun c_1 => ?_) (fun c_1 => ?_)
    · rw [hN.1] at c_1
      have c_1 := z_le c_1 (by omega) (by omega)
      obtain rfl : N = c := by omega
      refine x_iload_n Γ dX0_keenestOnLoaf_70 rfl ?_
      exact x_iret ρ rfl dX0_keenestOnLoaf_71 rfl (rfl) rfl (zH.rf)
    · rw [hN.1] at c_1
      have c_1 := z_nle c_1 (by omega) (by omega)
      have hkl := keS_le T N x c (by omega)
      refine x_aload_n Γ dX0_keenestOnLoaf_19 rfl ?_
      refine x_iload Γ dX0_keenestOnLoaf_20 rfl ?_
      refine x_callV Γ calv_X0_loafWorth wl_X0_74 dX0_keenestOnLoaf_22 (m_X0_loafWorth (g := g) (T := T) hb c (by omega)) rfl (by decide) hb0 hC_o rfl rfl rfl (Nat.le_of_ble_eq_true rfl) (Nat.le_refl _) (Nat.le_refl _) ?_
      refine x_aload_n Γ dX0_keenestOnLoaf_25 rfl ?_
      refine x_iload Γ dX0_keenestOnLoaf_26 rfl ?_
      refine x_callV Γ calv_X0_seatWorth wl_X0_78 dX0_keenestOnLoaf_28 (m_X0_seatWorth (g := g) (T := T) hb c (by omega)) rfl (by decide) hb0 hC_o rfl rfl rfl (Nat.le_of_ble_eq_true rfl) (Nat.le_refl _) (Nat.le_refl _) ?_
      refine x_isub Γ dX0_keenestOnLoaf_31 ?_
      refine x_istore Γ dX0_keenestOnLoaf_32 (by decide) ?_
      refine x_iload_n Γ dX0_keenestOnLoaf_34 rfl ?_
      refine x_iload Γ dX0_keenestOnLoaf_35 rfl ?_
      refine x_ishr Γ dX0_keenestOnLoaf_37 ?_
      refine x_iconst Γ (v := 1) dX0_keenestOnLoaf_38 rfl ?_
      refine x_iand Γ dX0_keenestOnLoaf_39 ?_
      refine x_iconst Γ (v := 1) dX0_keenestOnLoaf_40 rfl ?_
      refine x_icmp_ne Γ (tgt := 64) dX0_keenestOnLoaf_41 (by decide) (fun c_2 => ?_) (fun c_2 => ?_)
      · have hG : keS T N x (c + 1) = keS T N x c := by simp only [keS]; rw [if_neg (fun z => c_2 z.1)]
        refine x_iinc Γ dX0_keenestOnLoaf_64 rfl (by first | exact zinc _ | rfl) (by decide) ?_
        refine x_goto Γ (tgt := 10) dX0_keenestOnLoaf_67 (by decide) ?_
        exact x_subl [(0, .ref b), (1, .int x), (2, .int (nI (keS T N x (c + 1)).1)), (3, .int (keS T N x (c + 1)).2), (4, .int (nI (c + 1)))] (List.forall_mem_cons.mpr ⟨rfl, List.forall_mem_cons.mpr ⟨rfl, List.forall_mem_cons.mpr ⟨zsi (by rw [hG]), List.forall_mem_cons.mpr ⟨zsi (by rw [hG]), List.forall_mem_cons.mpr ⟨rfl, fun _ hz => absurd hz List.not_mem_nil⟩⟩⟩⟩⟩) (x_heap (rfl) (ih (c + 1) (by omega) (by omega)))
      · have hbit := c_2
        refine x_iload_n Γ dX0_keenestOnLoaf_44 rfl ?_
        refine x_aload_n Γ dX0_keenestOnLoaf_45 rfl ?_
        refine gf_X0_33 Γ dX0_keenestOnLoaf_46 hb0 hC_o rfl ?_
        refine x_icmp_eq Γ (tgt := 58) dX0_keenestOnLoaf_49 (by decide) (fun c_3 => ?_) (fun c_3 => ?_)
        · rw [hN.1] at c_3
          have c_3 := (nI_eq (by omega) (by omega)).mp c_3
          have hG : keS T N x (c + 1) = (c, lw T c - sw T c) := by simp only [keS]; rw [if_pos ⟨hbit, Or.inl c_3⟩]
          refine x_iload Γ dX0_keenestOnLoaf_58 rfl ?_
          refine x_istore_n Γ dX0_keenestOnLoaf_60 (by decide) ?_
          refine x_iload Γ dX0_keenestOnLoaf_61 rfl ?_
          refine x_istore_n Γ dX0_keenestOnLoaf_63 (by decide) ?_
          refine x_iinc Γ dX0_keenestOnLoaf_64 rfl (by first | exact zinc _ | rfl) (by decide) ?_
          refine x_goto Γ (tgt := 10) dX0_keenestOnLoaf_67 (by decide) ?_
          exact x_subl [(0, .ref b), (1, .int x), (2, .int (nI (keS T N x (c + 1)).1)), (3, .int (keS T N x (c + 1)).2), (4, .int (nI (c + 1)))] (List.forall_mem_cons.mpr ⟨rfl, List.forall_mem_cons.mpr ⟨rfl, List.forall_mem_cons.mpr ⟨zsi (by rw [hG]), List.forall_mem_cons.mpr ⟨zsi (by rw [hG]), List.forall_mem_cons.mpr ⟨rfl, fun _ hz => absurd hz List.not_mem_nil⟩⟩⟩⟩⟩) (x_heap (rfl) (ih (c + 1) (by omega) (by omega)))
        · rw [hN.1] at c_3
          have hne : ¬ (keS T N x c).1 = N := fun z => c_3 (by rw [z])
          refine x_iload Γ dX0_keenestOnLoaf_52 rfl ?_
          refine x_iload_n Γ dX0_keenestOnLoaf_54 rfl ?_
          refine x_icmp_le Γ (tgt := 64) dX0_keenestOnLoaf_55 (by decide) (fun c_4 => ?_) (fun c_4 => ?_)
          · have hG : keS T N x (c + 1) = keS T N x c := by simp only [keS]; rw [if_neg (fun z => z.2.elim hne (fun y => absurd y (Int32.not_lt.mpr c_4)))]
            refine x_iinc Γ dX0_keenestOnLoaf_64 rfl (by first | exact zinc _ | rfl) (by decide) ?_
            refine x_goto Γ (tgt := 10) dX0_keenestOnLoaf_67 (by decide) ?_
            exact x_subl [(0, .ref b), (1, .int x), (2, .int (nI (keS T N x (c + 1)).1)), (3, .int (keS T N x (c + 1)).2), (4, .int (nI (c + 1)))] (List.forall_mem_cons.mpr ⟨rfl, List.forall_mem_cons.mpr ⟨rfl, List.forall_mem_cons.mpr ⟨zsi (by rw [hG]), List.forall_mem_cons.mpr ⟨zsi (by rw [hG]), List.forall_mem_cons.mpr ⟨rfl, fun _ hz => absurd hz List.not_mem_nil⟩⟩⟩⟩⟩) (x_heap (rfl) (ih (c + 1) (by omega) (by omega)))
          · have hG : keS T N x (c + 1) = (c, lw T c - sw T c) := by simp only [keS]; rw [if_pos ⟨hbit, Or.inr (Int32.not_le.mp c_4)⟩]
            refine x_iload Γ dX0_keenestOnLoaf_58 rfl ?_
            refine x_istore_n Γ dX0_keenestOnLoaf_60 (by decide) ?_
            refine x_iload Γ dX0_keenestOnLoaf_61 rfl ?_
            refine x_istore_n Γ dX0_keenestOnLoaf_63 (by decide) ?_
            refine x_iinc Γ dX0_keenestOnLoaf_64 rfl (by first | exact zinc _ | rfl) (by decide) ?_
            refine x_goto Γ (tgt := 10) dX0_keenestOnLoaf_67 (by decide) ?_
            exact x_subl [(0, .ref b), (1, .int x), (2, .int (nI (keS T N x (c + 1)).1)), (3, .int (keS T N x (c + 1)).2), (4, .int (nI (c + 1)))] (List.forall_mem_cons.mpr ⟨rfl, List.forall_mem_cons.mpr ⟨rfl, List.forall_mem_cons.mpr ⟨zsi (by rw [hG]), List.forall_mem_cons.mpr ⟨zsi (by rw [hG]), List.forall_mem_cons.mpr ⟨rfl, fun _ hz => absurd hz List.not_mem_nil⟩⟩⟩⟩⟩) (x_heap (rfl) (ih (c + 1) (by omega) (by omega)))

set_option maxRecDepth 100000 in
set_option maxHeartbeats 4000000 in
theorem m_X0_bestWorth {g : Nat → zE} {b : Nat} {T : zT} (hb : b + 7 < 46) {N : Nat} (hN : wN T N) {L : Nat} {S0 : Int32} (hL : many (setW T 1 N) = nI L) (hL10 : L < 11) (hS0 : S0 = (sumW (fun c => if T 5 c = 0 then 0 else sw T c) N)) : zM 2 M_X0_bestWorth [.ref b] (hC g b T) 46 (some (.int (bwS T N S0 (hldW T N) L).1)) (hC g b T) 46 0 0 := by
  refine zM.intro (by decide) (Nat.le_of_ble_eq_true rfl) ?_
  intro Wf V m H0 Γ ρ
  replace Γ : zC Wf V m 6 H0 cX0_bestWorth RX0 2 0 0 := Γ
  show zX Wf V m 6 H0 0 (zls [(0, .ref b)]) [] (hC g b T) 46 0 0
  have hb0 : b < 46 := by omega
  have hb1 : b + 1 < 46 := by omega
  have hb2 : b + 2 < 46 := by omega
  have hb3 : b + 3 < 46 := by omega
  have hb4 : b + 4 < 46 := by omega
  have hb5 : b + 5 < 46 := by omega
  have hb6 : b + 6 < 46 := by omega
  have hb7 : b + 7 < 46 := by omega
  have hN2 := hN.2
  obtain ⟨kk, hkk, ekk⟩ := setW_lt T 1 N hN2
  refine x_iconst Γ (v := 0) dX0_bestWorth_0 rfl ?_
  refine x_istore_n Γ dX0_bestWorth_1 (by decide) ?_
  refine x_iconst Γ (v := 0) dX0_bestWorth_2 rfl ?_
  refine x_istore_n Γ dX0_bestWorth_3 (by decide) ?_
  refine x_iconst Γ (v := 0) dX0_bestWorth_4 rfl ?_
  refine x_istore_n Γ dX0_bestWorth_5 (by decide) ?_
  suffices L_6 : ∀ (k c : Nat), c ≤ N → N - c < k → zX Wf V m 6 H0 6 (zls [(0, .ref b), (1, .int (sumW (fun c => if T 5 c = 0 then 0 else sw T c) c)), (2, .int (hldW T c)), (3, .int (nI c))]) [] (hC g b T) 46 0 0 by
    exact x_subl [(0, .ref b), (1, .int (sumW (fun c => if T 5 c = 0 then 0 else sw T c) 0)), (2, .int (hldW T 0)), (3, .int (nI 0))] (List.forall_mem_cons.mpr ⟨rfl, List.forall_mem_cons.mpr ⟨rfl, List.forall_mem_cons.mpr ⟨rfl, List.forall_mem_cons.mpr ⟨rfl, fun _ hz => absurd hz List.not_mem_nil⟩⟩⟩⟩) (x_heap (rfl) (L_6 (N + 1) 0 (by omega) (by omega)))
  intro k
  induction k with
  | zero => intro c h1 h2; omega
  | succ k ih =>
    intro c h1 h2
    refine x_iload_n Γ dX0_bestWorth_6 rfl ?_
    refine x_aload_n Γ dX0_bestWorth_7 rfl ?_
    refine gf_X0_33 Γ dX0_bestWorth_8 hb0 hC_o rfl ?_
    refine x_icmp_ge Γ (tgt := 43) dX0_bestWorth_11 (by decide) (fun c_1 => ?_) (fun c_1 => ?_)
    · rw [hN.1] at c_1
      have c_1 := z_le c_1 (by omega) (by omega)
      obtain rfl : N = c := by omega
      refine x_aload_n Γ dX0_bestWorth_43 rfl ?_
      refine x_iconst Γ (v := 1) dX0_bestWorth_44 rfl ?_
      refine x_callV Γ calv_X0_holders wl_X0_92 dX0_bestWorth_45 (m_X0_holders (g := g) (T := T) hb hN 1) rfl (by decide) hb0 hC_o rfl rfl rfl (Nat.le_of_ble_eq_true rfl) (Nat.le_refl _) (Nat.le_refl _) ?_
      rw [ekk]
      refine x_callS Γ cals_J6_bitCount_0f7a4 wl_X0_95 dX0_bestWorth_48 (m_bitCount (p2_le hN2 hkk)) rfl (by decide) rfl (Nat.le_of_ble_eq_true rfl) (Nat.le_refl _) (Nat.le_refl _) ?_
      rw [← ekk, hL]
      refine x_istore_n Γ dX0_bestWorth_51 (by decide) ?_
      refine x_iconst Γ (v := 0) dX0_bestWorth_52 rfl ?_
      refine x_istore Γ dX0_bestWorth_53 (by decide) ?_
      suffices L_55 : ∀ (k c : Nat), c ≤ L → L - c < k → zX Wf V m 6 H0 55 (zls [(0, .ref b), (1, .int (bwS T N S0 (hldW T N) c).1), (2, .int (bwS T N S0 (hldW T N) c).2), (3, .int (nI L)), (4, .int (nI c))]) [] (hC g b T) 46 0 0 by
        exact x_subl [(0, .ref b), (1, .int (bwS T N S0 (hldW T N) 0).1), (2, .int (bwS T N S0 (hldW T N) 0).2), (3, .int (nI L)), (4, .int (nI 0))] (List.forall_mem_cons.mpr ⟨rfl, List.forall_mem_cons.mpr ⟨zsi hS0.symm, List.forall_mem_cons.mpr ⟨rfl, List.forall_mem_cons.mpr ⟨rfl, List.forall_mem_cons.mpr ⟨rfl, fun _ hz => absurd hz List.not_mem_nil⟩⟩⟩⟩⟩) (x_heap (rfl) (L_55 (L + 1) 0 (by omega) (by omega)))
      intro k
      induction k with
      | zero => intro c h1 h2; omega
      | succ k ih =>
        intro c h1 h2
        refine x_iload Γ dX0_bestWorth_55 rfl ?_
        refine x_iload_n Γ dX0_bestWorth_57 rfl ?_
        refine x_icmp_ge Γ (tgt := 108) dX0_bestWorth_58 (by decide) (fun c_2 => ?_) (fun c_2 => ?_)
        · have c_2 := z_le c_2 (by omega) (by omega)
          obtain rfl : L = c := by omega
          refine x_iload_n Γ dX0_bestWorth_108 rfl ?_
          exact x_iret ρ rfl dX0_bestWorth_109 rfl (rfl) rfl (zH.rf)
        · have c_2 := z_nle c_2 (by omega) (by omega)
          have hkl := keS_le T N (bwS T N S0 (hldW T N) c).2 N (Nat.le_refl _)
          refine x_aload_n Γ dX0_bestWorth_61 rfl ?_
          refine x_iload_n Γ dX0_bestWorth_62 rfl ?_
          refine x_callV Γ calv_X0_keenestOnLoaf wl_X0_100 dX0_bestWorth_63 (m_X0_keenestOnLoaf (g := g) (T := T) hb hN (bwS T N S0 (hldW T N) c).2) rfl (by decide) hb0 hC_o rfl rfl rfl (Nat.le_of_ble_eq_true rfl) (Nat.le_refl _) (Nat.le_refl _) ?_
          refine x_istore Γ dX0_bestWorth_66 (by decide) ?_
          refine x_iload Γ dX0_bestWorth_68 rfl ?_
          refine x_aload_n Γ dX0_bestWorth_70 rfl ?_
          refine gf_X0_33 Γ dX0_bestWorth_71 hb0 hC_o rfl ?_
          refine x_icmp_ge Γ (tgt := 102) dX0_bestWorth_74 (by decide) (fun c_3 => ?_) (fun c_3 => ?_)
          · rw [hN.1] at c_3
            have c_3 := z_le c_3 (by omega) (by omega)
            have hG : bwS T N S0 (hldW T N) (c + 1) = bwS T N S0 (hldW T N) c := by simp only [bwS]; rw [if_neg (by omega)]
            refine x_iinc Γ dX0_bestWorth_102 rfl (by first | exact zinc _ | rfl) (by decide) ?_
            refine x_goto Γ (tgt := 55) dX0_bestWorth_105 (by decide) ?_
            exact x_subl [(0, .ref b), (1, .int (bwS T N S0 (hldW T N) (c + 1)).1), (2, .int (bwS T N S0 (hldW T N) (c + 1)).2), (3, .int (nI L)), (4, .int (nI (c + 1)))] (List.forall_mem_cons.mpr ⟨rfl, List.forall_mem_cons.mpr ⟨zsi (by rw [hG]), List.forall_mem_cons.mpr ⟨zsi (by rw [hG]), List.forall_mem_cons.mpr ⟨rfl, List.forall_mem_cons.mpr ⟨rfl, fun _ hz => absurd hz List.not_mem_nil⟩⟩⟩⟩⟩) (x_heap (rfl) (ih (c + 1) (by omega) (by omega)))
          · rw [hN.1] at c_3
            have c_3 := z_nle c_3 (by omega) (by omega)
            have hG : bwS T N S0 (hldW T N) (c + 1) = ((bwS T N S0 (hldW T N) c).1 + (lw T (keS T N (bwS T N S0 (hldW T N) c).2 N).1 - sw T (keS T N (bwS T N S0 (hldW T N) c).2 N).1), (bwS T N S0 (hldW T N) c).2 &&& (((1 : Int32) <<< (nI (keS T N (bwS T N S0 (hldW T N) c).2 N).1 &&& 31)) ^^^ (-1))) := by simp only [bwS]; rw [if_pos c_3]
            refine x_iload_n Γ dX0_bestWorth_77 rfl ?_
            refine x_aload_n Γ dX0_bestWorth_78 rfl ?_
            refine x_iload Γ dX0_bestWorth_79 rfl ?_
            refine x_callV Γ calv_X0_loafWorth wl_X0_74 dX0_bestWorth_81 (m_X0_loafWorth (g := g) (T := T) hb (keS T N (bwS T N S0 (hldW T N) c).2 N).1 (by omega)) rfl (by decide) hb0 hC_o rfl rfl rfl (Nat.le_of_ble_eq_true rfl) (Nat.le_refl _) (Nat.le_refl _) ?_
            refine x_aload_n Γ dX0_bestWorth_84 rfl ?_
            refine x_iload Γ dX0_bestWorth_85 rfl ?_
            refine x_callV Γ calv_X0_seatWorth wl_X0_78 dX0_bestWorth_87 (m_X0_seatWorth (g := g) (T := T) hb (keS T N (bwS T N S0 (hldW T N) c).2 N).1 (by omega)) rfl (by decide) hb0 hC_o rfl rfl rfl (Nat.le_of_ble_eq_true rfl) (Nat.le_refl _) (Nat.le_refl _) ?_
            refine x_isub Γ dX0_bestWorth_90 ?_
            refine x_iadd Γ dX0_bestWorth_91 ?_
            refine x_istore_n Γ dX0_bestWorth_92 (by decide) ?_
            refine x_iload_n Γ dX0_bestWorth_93 rfl ?_
            refine x_iconst Γ (v := 1) dX0_bestWorth_94 rfl ?_
            refine x_iload Γ dX0_bestWorth_95 rfl ?_
            refine x_ishl Γ dX0_bestWorth_97 ?_
            refine x_iconst Γ (v := -1) dX0_bestWorth_98 rfl ?_
            refine x_ixor Γ dX0_bestWorth_99 ?_
            refine x_iand Γ dX0_bestWorth_100 ?_
            refine x_istore_n Γ dX0_bestWorth_101 (by decide) ?_
            refine x_iinc Γ dX0_bestWorth_102 rfl (by first | exact zinc _ | rfl) (by decide) ?_
            refine x_goto Γ (tgt := 55) dX0_bestWorth_105 (by decide) ?_
            exact x_subl [(0, .ref b), (1, .int (bwS T N S0 (hldW T N) (c + 1)).1), (2, .int (bwS T N S0 (hldW T N) (c + 1)).2), (3, .int (nI L)), (4, .int (nI (c + 1)))] (List.forall_mem_cons.mpr ⟨rfl, List.forall_mem_cons.mpr ⟨zsi (by rw [hG]), List.forall_mem_cons.mpr ⟨zsi (by rw [hG]), List.forall_mem_cons.mpr ⟨rfl, List.forall_mem_cons.mpr ⟨rfl, fun _ hz => absurd hz List.not_mem_nil⟩⟩⟩⟩⟩) (x_heap (rfl) (ih (c + 1) (by omega) (by omega)))
    · rw [hN.1] at c_1
      have c_1 := z_nle c_1 (by omega) (by omega)
      refine x_aload_n Γ dX0_bestWorth_14 rfl ?_
      refine gf_X0_27 Γ dX0_bestWorth_15 hb0 hC_o rfl ?_
      refine x_iload_n Γ dX0_bestWorth_18 rfl ?_
      refine x_iald Γ dX0_bestWorth_19 hb6 hC_5 rfl (by first | assumption | omega) (by decide) rfl ?_
      refine x_if_eq Γ (tgt := 37) dX0_bestWorth_20 (by decide) (fun c_4 => ?_) (fun c_4 => ?_)
      · refine x_iinc Γ dX0_bestWorth_37 rfl (by first | exact zinc _ | rfl) (by decide) ?_
        refine x_goto Γ (tgt := 6) dX0_bestWorth_40 (by decide) ?_
        exact x_subl [(0, .ref b), (1, .int (sumW (fun c => if T 5 c = 0 then 0 else sw T c) (c + 1))), (2, .int (hldW T (c + 1))), (3, .int (nI (c + 1)))] (List.forall_mem_cons.mpr ⟨rfl, List.forall_mem_cons.mpr ⟨zsi (by simp [sumW, *]), List.forall_mem_cons.mpr ⟨zsi (by simp [hldW, *]), List.forall_mem_cons.mpr ⟨rfl, fun _ hz => absurd hz List.not_mem_nil⟩⟩⟩⟩) (x_heap (rfl) (ih (c + 1) (by omega) (by omega)))
      · refine x_iload_n Γ dX0_bestWorth_23 rfl ?_
        refine x_aload_n Γ dX0_bestWorth_24 rfl ?_
        refine x_iload_n Γ dX0_bestWorth_25 rfl ?_
        refine x_callV Γ calv_X0_seatWorth wl_X0_78 dX0_bestWorth_26 (m_X0_seatWorth (g := g) (T := T) hb c (by omega)) rfl (by decide) hb0 hC_o rfl rfl rfl (Nat.le_of_ble_eq_true rfl) (Nat.le_refl _) (Nat.le_refl _) ?_
        refine x_iadd Γ dX0_bestWorth_29 ?_
        refine x_istore_n Γ dX0_bestWorth_30 (by decide) ?_
        refine x_iload_n Γ dX0_bestWorth_31 rfl ?_
        refine x_iconst Γ (v := 1) dX0_bestWorth_32 rfl ?_
        refine x_iload_n Γ dX0_bestWorth_33 rfl ?_
        refine x_ishl Γ dX0_bestWorth_34 ?_
        refine x_ior Γ dX0_bestWorth_35 ?_
        refine x_istore_n Γ dX0_bestWorth_36 (by decide) ?_
        refine x_iinc Γ dX0_bestWorth_37 rfl (by first | exact zinc _ | rfl) (by decide) ?_
        refine x_goto Γ (tgt := 6) dX0_bestWorth_40 (by decide) ?_
        exact x_subl [(0, .ref b), (1, .int (sumW (fun c => if T 5 c = 0 then 0 else sw T c) (c + 1))), (2, .int (hldW T (c + 1))), (3, .int (nI (c + 1)))] (List.forall_mem_cons.mpr ⟨rfl, List.forall_mem_cons.mpr ⟨zsi (by simp [sumW, *]), List.forall_mem_cons.mpr ⟨zsi (by simp [hldW, *]), List.forall_mem_cons.mpr ⟨rfl, fun _ hz => absurd hz List.not_mem_nil⟩⟩⟩⟩) (x_heap (rfl) (ih (c + 1) (by omega) (by omega)))

theorem hC_ext2 {g : Nat → zE} {b : Nat} {T : zT} {j : Nat} {x : Nat → Int32} (hj : j < 7) : zup (hC g b T) (b + (j + 1)) (zI 10 x) = hC g b (tr T j x) := by
  refine hC_ext (by omega) (by show zI 10 (tr T j x j) = _; rw [tr_s]) (fun a ha hne => ?_)
  cases a with
  | zero => simp only [cyE, cyO, tr_n (show 7 ≠ j by omega)]
  | succ a => simp only [cyE, tr_n (show a ≠ j by omega)]
theorem hC_zH {g : Nat → zE} {b n : Nat} {T U : zT} (h1 : ∀ j, j < 7 → ∀ i, i < 10 → T j i = U j i) (h2 : ∀ k, k < 9 → T 7 k = U 7 k) : zH n (hC g b T) (hC g b U) := by
  intro q hq
  by_cases hi : q < b ∨ b + 7 < q
  · rw [hC_out hi, hC_out hi]; exact Or.inl rfl
  · obtain ⟨a, rfl⟩ : ∃ a, q = b + a := ⟨q - b, by omega⟩
    rw [hC_in (by omega), hC_in (by omega)]
    cases a with
    | zero =>
      refine Or.inl ?_
      simp only [cyE, cyO, h2 0 (by omega), h2 1 (by omega), h2 2 (by omega), h2 3 (by omega), h2 4 (by omega), h2 5 (by omega), h2 6 (by omega), h2 7 (by omega), h2 8 (by omega)]
    | succ a => exact Or.inr ⟨10, T a, U a, rfl, rfl, fun i hi => h1 a (by omega) i hi⟩

theorem hC_t0 {g : Nat → zE} {b : Nat} {T : zT} {x : Nat → Int32} : zup (hC g b T) (b + 1) (zI 10 x) = hC g b (tr T 0 x) := hC_ext2 (j := 0) (by omega)
theorem hC_t1 {g : Nat → zE} {b : Nat} {T : zT} {x : Nat → Int32} : zup (hC g b T) (b + 2) (zI 10 x) = hC g b (tr T 1 x) := hC_ext2 (j := 1) (by omega)
theorem hC_t2 {g : Nat → zE} {b : Nat} {T : zT} {x : Nat → Int32} : zup (hC g b T) (b + 3) (zI 10 x) = hC g b (tr T 2 x) := hC_ext2 (j := 2) (by omega)
theorem hC_t3 {g : Nat → zE} {b : Nat} {T : zT} {x : Nat → Int32} : zup (hC g b T) (b + 4) (zI 10 x) = hC g b (tr T 3 x) := hC_ext2 (j := 3) (by omega)
theorem hC_t4 {g : Nat → zE} {b : Nat} {T : zT} {x : Nat → Int32} : zup (hC g b T) (b + 5) (zI 10 x) = hC g b (tr T 4 x) := hC_ext2 (j := 4) (by omega)
theorem hC_t5 {g : Nat → zE} {b : Nat} {T : zT} {x : Nat → Int32} : zup (hC g b T) (b + 6) (zI 10 x) = hC g b (tr T 5 x) := hC_ext2 (j := 5) (by omega)
theorem hC_t6 {g : Nat → zE} {b : Nat} {T : zT} {x : Nat → Int32} : zup (hC g b T) (b + 7) (zI 10 x) = hC g b (tr T 6 x) := hC_ext2 (j := 6) (by omega)
theorem cpy10 {f g : Nat → Int32} {i : Nat} (h : i < 10) : va_cpy f g 0 0 10 i = f i := by
  show (if 0 ≤ i ∧ i < 0 + 10 then f (0 + (i - 0)) else g i) = f i
  rw [if_pos ⟨Nat.zero_le _, by omega⟩]
  congr 1
  omega
set_option maxRecDepth 100000 in
set_option maxHeartbeats 4000000 in
theorem m_X0_become {g : Nat → zE} {b b2 : Nat} {T U : zT} (hb : b + 7 < 46) (hb2 : b2 + 7 < 46) (hd : b2 + 7 < b ∨ b + 7 < b2) : zM 1 M_X0_become [.ref b, .ref b2] (hC (hC g b2 U) b T) 46 (none) (hC (hC g b2 U) b U) 46 0 0 := by
  refine zM.intro (by decide) (Nat.le_of_ble_eq_true rfl) ?_
  intro Wf V m H0 Γ ρ
  replace Γ : zC Wf V m 2 H0 cX0_become RX0 1 0 0 := Γ
  show zX Wf V m 2 H0 0 (zls [(0, .ref b), (1, .ref b2)]) [] (hC (hC g b2 U) b T) 46 0 0
  have hb0 : b < 46 := by omega
  have hb1 : b + 1 < 46 := by omega
  have hb2 : b + 2 < 46 := by omega
  have hb3 : b + 3 < 46 := by omega
  have hb4 : b + 4 < 46 := by omega
  have hb5 : b + 5 < 46 := by omega
  have hb6 : b + 6 < 46 := by omega
  have hb7 : b + 7 < 46 := by omega
  refine x_aload_n Γ dX0_become_0 rfl ?_
  refine gf_X0_9 Γ dX0_become_1 (by omega) ((hC_out (by omega)).trans hC_o) rfl ?_
  refine x_iconst Γ (v := 0) dX0_become_4 rfl ?_
  refine x_aload_n Γ dX0_become_5 rfl ?_
  refine gf_X0_9 Γ dX0_become_6 hb0 hC_o rfl ?_
  refine x_iconst Γ (v := 0) dX0_become_9 rfl ?_
  refine x_bipush Γ (v := 10) dX0_become_10 rfl ?_
  refine x_acopy Γ (a := 0) (b := 0) (d := 10) (by decide) wl_X0_61 dX0_become_12 (by omega) ((hC_out (by omega)).trans hC_0) hb1 hC_0 rfl rfl rfl (by decide) (by decide) (by decide) (by decide) (Nat.le_of_ble_eq_true rfl) hC_t0 ?_
  refine x_aload_n Γ dX0_become_15 rfl ?_
  refine gf_X0_15 Γ dX0_become_16 (by omega) ((hC_out (by omega)).trans hC_o) rfl ?_
  refine x_iconst Γ (v := 0) dX0_become_19 rfl ?_
  refine x_aload_n Γ dX0_become_20 rfl ?_
  refine gf_X0_15 Γ dX0_become_21 hb0 hC_o rfl ?_
  refine x_iconst Γ (v := 0) dX0_become_24 rfl ?_
  refine x_bipush Γ (v := 10) dX0_become_25 rfl ?_
  refine x_acopy Γ (a := 0) (b := 0) (d := 10) (by decide) wl_X0_61 dX0_become_27 (by omega) ((hC_out (by omega)).trans hC_1) hb2 hC_1 rfl rfl rfl (by decide) (by decide) (by decide) (by decide) (Nat.le_of_ble_eq_true rfl) hC_t1 ?_
  refine x_aload_n Γ dX0_become_30 rfl ?_
  refine gf_X0_18 Γ dX0_become_31 (by omega) ((hC_out (by omega)).trans hC_o) rfl ?_
  refine x_iconst Γ (v := 0) dX0_become_34 rfl ?_
  refine x_aload_n Γ dX0_become_35 rfl ?_
  refine gf_X0_18 Γ dX0_become_36 hb0 hC_o rfl ?_
  refine x_iconst Γ (v := 0) dX0_become_39 rfl ?_
  refine x_bipush Γ (v := 10) dX0_become_40 rfl ?_
  refine x_acopy Γ (a := 0) (b := 0) (d := 10) (by decide) wl_X0_61 dX0_become_42 (by omega) ((hC_out (by omega)).trans hC_2) hb3 hC_2 rfl rfl rfl (by decide) (by decide) (by decide) (by decide) (Nat.le_of_ble_eq_true rfl) hC_t2 ?_
  refine x_aload_n Γ dX0_become_45 rfl ?_
  refine gf_X0_21 Γ dX0_become_46 (by omega) ((hC_out (by omega)).trans hC_o) rfl ?_
  refine x_iconst Γ (v := 0) dX0_become_49 rfl ?_
  refine x_aload_n Γ dX0_become_50 rfl ?_
  refine gf_X0_21 Γ dX0_become_51 hb0 hC_o rfl ?_
  refine x_iconst Γ (v := 0) dX0_become_54 rfl ?_
  refine x_bipush Γ (v := 10) dX0_become_55 rfl ?_
  refine x_acopy Γ (a := 0) (b := 0) (d := 10) (by decide) wl_X0_61 dX0_become_57 (by omega) ((hC_out (by omega)).trans hC_3) hb4 hC_3 rfl rfl rfl (by decide) (by decide) (by decide) (by decide) (Nat.le_of_ble_eq_true rfl) hC_t3 ?_
  refine x_aload_n Γ dX0_become_60 rfl ?_
  refine gf_X0_24 Γ dX0_become_61 (by omega) ((hC_out (by omega)).trans hC_o) rfl ?_
  refine x_iconst Γ (v := 0) dX0_become_64 rfl ?_
  refine x_aload_n Γ dX0_become_65 rfl ?_
  refine gf_X0_24 Γ dX0_become_66 hb0 hC_o rfl ?_
  refine x_iconst Γ (v := 0) dX0_become_69 rfl ?_
  refine x_bipush Γ (v := 10) dX0_become_70 rfl ?_
  refine x_acopy Γ (a := 0) (b := 0) (d := 10) (by decide) wl_X0_61 dX0_become_72 (by omega) ((hC_out (by omega)).trans hC_4) hb5 hC_4 rfl rfl rfl (by decide) (by decide) (by decide) (by decide) (Nat.le_of_ble_eq_true rfl) hC_t4 ?_
  refine x_aload_n Γ dX0_become_75 rfl ?_
  refine gf_X0_27 Γ dX0_become_76 (by omega) ((hC_out (by omega)).trans hC_o) rfl ?_
  refine x_iconst Γ (v := 0) dX0_become_79 rfl ?_
  refine x_aload_n Γ dX0_become_80 rfl ?_
  refine gf_X0_27 Γ dX0_become_81 hb0 hC_o rfl ?_
  refine x_iconst Γ (v := 0) dX0_become_84 rfl ?_
  refine x_bipush Γ (v := 10) dX0_become_85 rfl ?_
  refine x_acopy Γ (a := 0) (b := 0) (d := 10) (by decide) wl_X0_61 dX0_become_87 (by omega) ((hC_out (by omega)).trans hC_5) hb6 hC_5 rfl rfl rfl (by decide) (by decide) (by decide) (by decide) (Nat.le_of_ble_eq_true rfl) hC_t5 ?_
  refine x_aload_n Γ dX0_become_90 rfl ?_
  refine gf_X0_30 Γ dX0_become_91 (by omega) ((hC_out (by omega)).trans hC_o) rfl ?_
  refine x_iconst Γ (v := 0) dX0_become_94 rfl ?_
  refine x_aload_n Γ dX0_become_95 rfl ?_
  refine gf_X0_30 Γ dX0_become_96 hb0 hC_o rfl ?_
  refine x_iconst Γ (v := 0) dX0_become_99 rfl ?_
  refine x_bipush Γ (v := 10) dX0_become_100 rfl ?_
  refine x_acopy Γ (a := 0) (b := 0) (d := 10) (by decide) wl_X0_61 dX0_become_102 (by omega) ((hC_out (by omega)).trans hC_6) hb7 hC_6 rfl rfl rfl (by decide) (by decide) (by decide) (by decide) (Nat.le_of_ble_eq_true rfl) hC_t6 ?_
  refine x_aload_n Γ dX0_become_105 rfl ?_
  refine x_aload_n Γ dX0_become_106 rfl ?_
  refine gf_X0_33 Γ dX0_become_107 (by omega) ((hC_out (by omega)).trans hC_o) rfl ?_
  refine pf_X0_33 Γ dX0_become_110 hb0 hC_o (Nat.le_of_ble_eq_true rfl) hC_f7 ?_
  refine x_aload_n Γ dX0_become_113 rfl ?_
  refine x_aload_n Γ dX0_become_114 rfl ?_
  refine gf_X0_37 Γ dX0_become_115 (by omega) ((hC_out (by omega)).trans hC_o) rfl ?_
  refine pf_X0_37 Γ dX0_become_118 hb0 hC_o (Nat.le_of_ble_eq_true rfl) hC_f8 ?_
  refine x_aload_n Γ dX0_become_121 rfl ?_
  refine x_aload_n Γ dX0_become_122 rfl ?_
  refine gf_X0_40 Γ dX0_become_123 (by omega) ((hC_out (by omega)).trans hC_o) rfl ?_
  refine pf_X0_40 Γ dX0_become_126 hb0 hC_o (Nat.le_of_ble_eq_true rfl) hC_f9 ?_
  refine x_aload_n Γ dX0_become_129 rfl ?_
  refine x_aload_n Γ dX0_become_130 rfl ?_
  refine gf_X0_43 Γ dX0_become_131 (by omega) ((hC_out (by omega)).trans hC_o) rfl ?_
  refine pf_X0_43 Γ dX0_become_134 hb0 hC_o (Nat.le_of_ble_eq_true rfl) hC_f10 ?_
  refine x_aload_n Γ dX0_become_137 rfl ?_
  refine x_aload_n Γ dX0_become_138 rfl ?_
  refine gf_X0_46 Γ dX0_become_139 (by omega) ((hC_out (by omega)).trans hC_o) rfl ?_
  refine pf_X0_46 Γ dX0_become_142 hb0 hC_o (Nat.le_of_ble_eq_true rfl) hC_f11 ?_
  refine x_aload_n Γ dX0_become_145 rfl ?_
  refine x_aload_n Γ dX0_become_146 rfl ?_
  refine gf_X0_49 Γ dX0_become_147 (by omega) ((hC_out (by omega)).trans hC_o) rfl ?_
  refine pf_X0_49 Γ dX0_become_150 hb0 hC_o (Nat.le_of_ble_eq_true rfl) hC_f12 ?_
  refine x_aload_n Γ dX0_become_153 rfl ?_
  refine x_aload_n Γ dX0_become_154 rfl ?_
  refine gf_X0_52 Γ dX0_become_155 (by omega) ((hC_out (by omega)).trans hC_o) rfl ?_
  refine pf_X0_52 Γ dX0_become_158 hb0 hC_o (Nat.le_of_ble_eq_true rfl) hC_f13 ?_
  refine x_aload_n Γ dX0_become_161 rfl ?_
  refine x_aload_n Γ dX0_become_162 rfl ?_
  refine gf_X0_55 Γ dX0_become_163 (by omega) ((hC_out (by omega)).trans hC_o) rfl ?_
  refine pf_X0_55 Γ dX0_become_166 hb0 hC_o (Nat.le_of_ble_eq_true rfl) hC_f14 ?_
  refine x_aload_n Γ dX0_become_169 rfl ?_
  refine x_aload_n Γ dX0_become_170 rfl ?_
  refine gf_X0_58 Γ dX0_become_171 (by omega) ((hC_out (by omega)).trans hC_o) rfl ?_
  refine pf_X0_58 Γ dX0_become_174 hb0 hC_o (Nat.le_of_ble_eq_true rfl) hC_f15 ?_
  exact x_vret ρ dX0_become_177 (rfl) rfl (hC_zH (fun j hj i hi => by
      have : j = 0 ∨ j = 1 ∨ j = 2 ∨ j = 3 ∨ j = 4 ∨ j = 5 ∨ j = 6 := by omega
      rcases this with rfl | rfl | rfl | rfl | rfl | rfl | rfl <;> simp [ts, tr, cpy10 hi]) (fun k hk => by
      have : k = 0 ∨ k = 1 ∨ k = 2 ∨ k = 3 ∨ k = 4 ∨ k = 5 ∨ k = 6 ∨ k = 7 ∨ k = 8 := by omega
      rcases this with rfl | rfl | rfl | rfl | rfl | rfl | rfl | rfl | rfl <;> simp [ts, tr, upd]))
