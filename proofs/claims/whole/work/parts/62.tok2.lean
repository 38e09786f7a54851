-- WORDS
def mtW (b : Nat → Int32) (s : Nat) (w : List Int32) : Nat → Bool
  | 0 => true
  | k + 1 => mtW b s w k && decide (b (s + k) = w.getD k 0)
theorem mt_f {b : Nat → Int32} {s c : Nat} {w : List Int32} (h : mtW b s w c = false) : ∀ n, c ≤ n → mtW b s w n = false := by
  intro n
  induction n with
  | zero => intro hn; rw [show (0 : Nat) = c by omega]; exact h
  | succ n ih =>
    intro hn
    by_cases hc : c = n + 1
    · rw [← hc]; exact h
    · rw [mtW, ih (by omega), Bool.false_and]
def isWd (b : Nat → Int32) (L p : Nat) (w : List Int32) : Bool := decide (tK b L p = 1) && decide (tE b L p - tS b L p = w.length) && mtW b (tS b L p) w w.length
theorem wd_1 {b : Nat → Int32} {L p : Nat} {w : List Int32} (h : ¬ tK b L p = 1) : isWd b L p w = false := by
  rw [isWd, decide_eq_false h]; rfl
theorem wd_2 {b : Nat → Int32} {L p : Nat} {w : List Int32} (h : ¬ tE b L p - tS b L p = w.length) : isWd b L p w = false := by
  rw [isWd, decide_eq_false h, Bool.and_false]; rfl
theorem wd_3 {b : Nat → Int32} {L p : Nat} {w : List Int32} (h1 : tK b L p = 1) (h2 : tE b L p - tS b L p = w.length) : isWd b L p w = mtW b (tS b L p) w w.length := by
  rw [isWd, decide_eq_true h1, decide_eq_true h2]; rfl
theorem wd_t {b : Nat → Int32} {L p : Nat} {w : List Int32} (h : isWd b L p w = true) : tK b L p = 1 ∧ tE b L p - tS b L p = w.length ∧ mtW b (tS b L p) w w.length = true := by
  unfold isWd at h
  simp only [Bool.and_eq_true, decide_eq_true_eq] at h
  exact ⟨h.1.1, h.1.2, h.2⟩
theorem tk_eq {b : Nat → Int32} {L p k : Nat} (hk : k < 5) : nI (tK b L p) = nI k ↔ tK b L p = k := nI_eq (by have := tK_lt (b := b) (L := L) (p := p); omega) (by omega)
theorem ln_eq {b : Nat → Int32} {L p n : Nat} (hL : L ≤ 120) (hp : p ≤ L) (hn : n < 8) : nI (tE b L p) - nI (tS b L p) = nI n ↔ tE b L p - tS b L p = n := by
  have h1 := tE_le (b := b) hp
  have h2 := tE_ge (b := b) (L := L) (p := p)
  rw [pk_sub h2]
  exact nI_eq (by omega) (by omega)
/-- the kinds' words among the strings -/
def kwI (k : Nat) : Nat := if k = 0 then 6 else k - 1
theorem kwI_lt {k : Nat} (h : k < 7) : kwI k < 36 := by
  unfold kwI
  split <;> omega
def kdF (b : Nat → Int32) (L p : Nat) : Nat → Nat → Int32
  | 0, _ => -1
  | f + 1, k => if isWd b L p (byt (kwI k)) = true then nI k else kdF b L p f (k + 1)

set_option maxRecDepth 100000 in
set_option maxHeartbeats 4000000 in
theorem m_X2_isWord {g : Nat → zE} {T T2 T3 R : zT} {X : Nat → Int32} {L p : Nat} (hL : L ≤ 120) (hp : p ≤ L) (hX : tkX (R 3) L p X) {i : Nat} (hi : i < 36) : zM 6 M_X2_isWord [.ref 25, .ref (1000 + i)] (cW g T T2 T3 R X) 46 (some (.int (zb (isWd (R 3) L p (byt i))))) (cW g T T2 T3 R X) 46 0 0 := by
  refine zM.intro (by decide) (Nat.le_of_ble_eq_true rfl) ?_
  intro Wf V m H0 Γ ρ
  replace Γ : zC Wf V m 3 H0 cX2_isWord RX2 6 0 0 := Γ
  show zX Wf V m 3 H0 0 (zls [(0, .ref 25), (1, .ref (1000 + i))]) [] (cW g T T2 T3 R X) 46 0 0
  have hlen : (byt i).length < 8 := byt_len ⟨i, hi⟩
  have hel := tE_le (b := R 3) hp
  have hge := tE_ge (b := R 3) (L := L) (p := p)
  refine x_aload_n Γ dX2_isWord_0 rfl ?_
  refine gf_X2_25 Γ dX2_isWord_1 (by decide) (by rfl) rfl ?_
  refine x_iconst Γ (v := 1) dX2_isWord_4 rfl ?_
  refine x_icmp_ne Γ (tgt := 24) dX2_isWord_5 (by decide) (fun c_1 => ?_) (fun c_1 => ?_)
  · rw [hX.2.2.1] at c_1
    have hw := wd_1 (w := byt i) (fun z => c_1 ((tk_eq (k := 1) (by omega)).mpr z))
    refine x_iconst Γ (v := 0) dX2_isWord_24 rfl ?_
    exact x_iret ρ rfl dX2_isWord_25 (by first | exact zb_nz _ | rfl) (by rw [hw]; try rfl) rfl (zH.rf)
  · rw [hX.2.2.1] at c_1
    have h1 := (tk_eq (k := 1) (by omega)).mp c_1
    refine x_aload_n Γ dX2_isWord_8 rfl ?_
    refine gf_X2_22 Γ dX2_isWord_9 (by decide) (by rfl) rfl ?_
    refine x_aload_n Γ dX2_isWord_12 rfl ?_
    refine gf_X2_19 Γ dX2_isWord_13 (by decide) (by rfl) rfl ?_
    refine x_isub Γ dX2_isWord_16 ?_
    refine x_aload_n Γ dX2_isWord_17 rfl ?_
    refine x_callVs Γ calv_J0_length_8abf5 wl_X2_50 dX2_isWord_18 (m_J0_length_8abf5 hi) rfl (by decide) hi rfl rfl (Nat.le_of_ble_eq_true rfl) (Nat.le_refl _) (Nat.le_refl _) ?_
    refine x_icmp_eq Γ (tgt := 26) dX2_isWord_21 (by decide) (fun c_2 => ?_) (fun c_2 => ?_)
    · rw [hX.1, hX.2.1] at c_2
      have h2 := (ln_eq hL hp hlen).mp c_2
      refine x_iconst Γ (v := 0) dX2_isWord_26 rfl ?_
      refine x_istore_n Γ dX2_isWord_27 (by decide) ?_
      suffices L_28 : ∀ (k c : Nat), c ≤ (byt i).length → (byt i).length - c < k → mtW (R 3) (tS (R 3) L p) (byt i) c = true → zX Wf V m 3 H0 28 (zls [(0, .ref 25), (1, .ref (1000 + i)), (2, .int (nI c))]) [] (cW g T T2 T3 R X) 46 0 0 by
        exact x_subl [(0, .ref 25), (1, .ref (1000 + i)), (2, .int (nI 0))] (List.forall_mem_cons.mpr ⟨rfl, List.forall_mem_cons.mpr ⟨rfl, List.forall_mem_cons.mpr ⟨rfl, fun _ hz => absurd hz List.not_mem_nil⟩⟩⟩) (L_28 9 0 (by omega) (by omega) rfl)
      intro k
      induction k with
      | zero => intro c q1 q2; omega
      | succ k ih =>
        intro c q1 q2 q3
        refine x_iload_n Γ dX2_isWord_28 rfl ?_
        refine x_aload_n Γ dX2_isWord_29 rfl ?_
        refine x_callVs Γ calv_J0_length_8abf5 wl_X2_50 dX2_isWord_30 (m_J0_length_8abf5 hi) rfl (by decide) hi rfl rfl (Nat.le_of_ble_eq_true rfl) (Nat.le_refl _) (Nat.le_refl _) ?_
        refine x_icmp_ge Γ (tgt := 63) dX2_isWord_33 (by decide) (fun c_3 => ?_) (fun c_3 => ?_)
        · have c_3 := z_le c_3 (by omega) (by omega)
          have hcl : c = (byt i).length := by omega
          rw [hcl] at q3
          refine x_iconst Γ (v := 1) dX2_isWord_63 rfl ?_
          exact x_iret ρ rfl dX2_isWord_64 (by first | exact zb_nz _ | rfl) (by rw [wd_3 h1 h2, q3]; try rfl) rfl (zH.rf)
        · have c_3 := z_nle c_3 (by omega) (by omega)
          refine x_aload_n Γ dX2_isWord_36 rfl ?_
          refine gf_X2_9 Γ dX2_isWord_37 (by decide) (by rfl) rfl ?_
          refine x_aload_n Γ dX2_isWord_40 rfl ?_
          refine gf_X2_19 Γ dX2_isWord_41 (by decide) (by rfl) rfl ?_
          refine x_iload_n Γ dX2_isWord_44 rfl ?_
          refine x_iadd Γ dX2_isWord_45 ?_
          refine x_iald Γ dX2_isWord_46 (by decide) (by rfl) (show _ = nI ((tS (R 3) L p) + c) by rw [hX.1, nI_add]) (by omega) (by decide) rfl ?_
          refine x_aload_n Γ dX2_isWord_47 rfl ?_
          refine x_iload_n Γ dX2_isWord_48 rfl ?_
          refine x_callVs Γ calv_J0_charAt_5068e wl_X2_55 dX2_isWord_49 (m_J0_charAt_5068e hi (by omega)) rfl (by decide) hi rfl rfl (Nat.le_of_ble_eq_true rfl) (Nat.le_refl _) (Nat.le_refl _) ?_
          refine x_icmp_eq Γ (tgt := 57) dX2_isWord_52 (by decide) (fun c_4 => ?_) (fun c_4 => ?_)
          · have hm : mtW (R 3) (tS (R 3) L p) (byt i) (c + 1) = true := by rw [mtW, q3, decide_eq_true c_4]; rfl
            refine x_iinc Γ dX2_isWord_57 rfl (by first | exact zinc _ | rfl) (by decide) ?_
            refine x_goto Γ (tgt := 28) dX2_isWord_60 (by decide) ?_
            exact x_subl [(0, .ref 25), (1, .ref (1000 + i)), (2, .int (nI (c + 1)))] (List.forall_mem_cons.mpr ⟨rfl, List.forall_mem_cons.mpr ⟨rfl, List.forall_mem_cons.mpr ⟨rfl, fun _ hz => absurd hz List.not_mem_nil⟩⟩⟩) (ih (c + 1) (by omega) (by omega) hm)
          · have hm : mtW (R 3) (tS (R 3) L p) (byt i) (c + 1) = false := by rw [mtW, decide_eq_false c_4, Bool.and_false]
            refine x_iconst Γ (v := 0) dX2_isWord_55 rfl ?_
            exact x_iret ρ rfl dX2_isWord_56 (by first | exact zb_nz _ | rfl) (by rw [wd_3 h1 h2, mt_f hm _ (by omega)]; try rfl) rfl (zH.rf)
    · rw [hX.1, hX.2.1] at c_2
      have hw := wd_2 (w := byt i) (fun z => c_2 ((ln_eq hL hp hlen).mpr z))
      refine x_iconst Γ (v := 0) dX2_isWord_24 rfl ?_
      exact x_iret ρ rfl dX2_isWord_25 (by first | exact zb_nz _ | rfl) (by rw [hw]; try rfl) rfl (zH.rf)

set_option maxRecDepth 100000 in
set_option maxHeartbeats 4000000 in
theorem m_X2_kindWord {h : Nat → zE} {k : Nat} (hk : k < 7) : zM 0 M_X2_kindWord [.int (nI k)] (h) 46 (some (.ref (1000 + kwI k))) (h) 46 0 0 := by
  refine zM.intro (by decide) (Nat.le_of_ble_eq_true rfl) ?_
  intro Wf V m H0 Γ ρ
  replace Γ : zC Wf V m 1 H0 cX2_kindWord RX2 0 0 0 := Γ
  show zX Wf V m 1 H0 0 (zls [(0, .int (nI k))]) [] (h) 46 0 0
  refine x_iload_n Γ dX2_kindWord_0 rfl ?_
  refine x_tab6 Γ (a0 := 1) (a1 := 2) (a2 := 3) (a3 := 4) (a4 := 5) (a5 := 6) (t0 := 40) (t1 := 43) (t2 := 46) (t3 := 49) (t4 := 52) (t5 := 55) (td := 58) dX2_kindWord_1 (by decide +kernel) (fun c_1 => ?_) (fun c_1 => ?_) (fun c_1 => ?_) (fun c_1 => ?_) (fun c_1 => ?_) (fun c_1 => ?_) (fun c_1_0 c_1_1 c_1_2 c_1_3 c_1_4 c_1_5 => ?_)
  · obtain rfl : k = 1 := (nI_eq (b := 1) (by omega) (by omega)).mp c_1
    refine x_lds Γ (i := 0) (by decide) rfl rfl dX2_kindWord_40 ?_
    exact x_aret ρ (Or.inl ⟨_, rfl⟩) dX2_kindWord_42 (rfl) rfl (zH.rf)
  · obtain rfl : k = 2 := (nI_eq (b := 2) (by omega) (by omega)).mp c_1
    refine x_lds Γ (i := 1) (by decide) rfl rfl dX2_kindWord_43 ?_
    exact x_aret ρ (Or.inl ⟨_, rfl⟩) dX2_kindWord_45 (rfl) rfl (zH.rf)
  · obtain rfl : k = 3 := (nI_eq (b := 3) (by omega) (by omega)).mp c_1
    refine x_lds Γ (i := 2) (by decide) rfl rfl dX2_kindWord_46 ?_
    exact x_aret ρ (Or.inl ⟨_, rfl⟩) dX2_kindWord_48 (rfl) rfl (zH.rf)
  · obtain rfl : k = 4 := (nI_eq (b := 4) (by omega) (by omega)).mp c_1
    refine x_lds Γ (i := 3) (by decide) rfl rfl dX2_kindWord_49 ?_
    exact x_aret ρ (Or.inl ⟨_, rfl⟩) dX2_kindWord_51 (rfl) rfl (zH.rf)
  · obtain rfl : k = 5 := (nI_eq (b := 5) (by omega) (by omega)).mp c_1
    refine x_lds Γ (i := 4) (by decide) rfl rfl dX2_kindWord_52 ?_
    exact x_aret ρ (Or.inl ⟨_, rfl⟩) dX2_kindWord_54 (rfl) rfl (zH.rf)
  · obtain rfl : k = 6 := (nI_eq (b := 6) (by omega) (by omega)).mp c_1
    refine x_lds Γ (i := 5) (by decide) rfl rfl dX2_kindWord_55 ?_
    exact x_aret ρ (Or.inl ⟨_, rfl⟩) dX2_kindWord_57 (rfl) rfl (zH.rf)
  · obtain rfl : k = 0 := by
      rcases (show k = 0 ∨ k = 1 ∨ k = 2 ∨ k = 3 ∨ k = 4 ∨ k = 5 ∨ k = 6 by omega) with rfl | rfl | rfl | rfl | rfl | rfl | rfl
      · rfl
      · exact absurd rfl c_1_0
      · exact absurd rfl c_1_1
      · exact absurd rfl c_1_2
      · exact absurd rfl c_1_3
      · exact absurd rfl c_1_4
      · exact absurd rfl c_1_5
    refine x_lds Γ (i := 6) (by decide) rfl rfl dX2_kindWord_58 ?_
    exact x_aret ρ (Or.inl ⟨_, rfl⟩) dX2_kindWord_60 (rfl) rfl (zH.rf)

set_option maxRecDepth 100000 in
set_option maxHeartbeats 4000000 in
theorem m_X2_kindTold {g : Nat → zE} {T T2 T3 R : zT} {X : Nat → Int32} {L p : Nat} (hL : L ≤ 120) (hp : p ≤ L) (hX : tkX (R 3) L p X) : zM 7 M_X2_kindTold [.ref 25] (cW g T T2 T3 R X) 46 (some (.int (kdF (R 3) L p 7 0))) (cW g T T2 T3 R X) 46 0 0 := by
  refine zM.intro (by decide) (Nat.le_of_ble_eq_true rfl) ?_
  intro Wf V m H0 Γ ρ
  replace Γ : zC Wf V m 2 H0 cX2_kindTold RX2 7 0 0 := Γ
  show zX Wf V m 2 H0 0 (zls [(0, .ref 25)]) [] (cW g T T2 T3 R X) 46 0 0
  refine x_iconst Γ (v := 0) dX2_kindTold_0 rfl ?_
  refine x_istore_n Γ dX2_kindTold_1 (by decide) ?_
  suffices L_2 : ∀ (k f c : Nat), f < k → c + f = 7 → kdF (R 3) L p f c = kdF (R 3) L p 7 0 → zX Wf V m 2 H0 2 (zls [(0, .ref 25), (1, .int (nI c))]) [] (cW g T T2 T3 R X) 46 0 0 by
    exact x_subl [(0, .ref 25), (1, .int (nI 0))] (List.forall_mem_cons.mpr ⟨rfl, List.forall_mem_cons.mpr ⟨rfl, fun _ hz => absurd hz List.not_mem_nil⟩⟩) (L_2 8 7 0 (by omega) (by omega) rfl)
  intro k
  induction k with
  | zero => intro f c q1; omega
  | succ k ih =>
    intro f c q1 q2 q3
    refine x_iload_n Γ dX2_kindTold_2 rfl ?_
    refine x_bipush Γ (v := 7) dX2_kindTold_3 rfl ?_
    refine x_icmp_ge Γ (tgt := 27) dX2_kindTold_5 (by decide) (fun c_1 => ?_) (fun c_1 => ?_)
    · have c_1 := z_le (a := 7) c_1 (by omega) (by omega)
      obtain rfl : f = 0 := by omega
      refine x_iconst Γ (v := -1) dX2_kindTold_27 rfl ?_
      exact x_iret ρ rfl dX2_kindTold_28 rfl (zsi q3.symm) rfl (zH.rf)
    · have c_1 := z_nle (a := 7) c_1 (by omega) (by omega)
      obtain ⟨f1, rfl⟩ : ∃ f1, f = f1 + 1 := ⟨f - 1, by omega⟩
      refine x_aload_n Γ dX2_kindTold_8 rfl ?_
      refine x_iload_n Γ dX2_kindTold_9 rfl ?_
      refine x_callS Γ cals_X2_kindWord wl_X2_59 dX2_kindTold_10 (m_X2_kindWord (k := c) (by omega)) rfl (by decide) rfl (Nat.le_of_ble_eq_true rfl) (Nat.le_refl _) (Nat.le_refl _) ?_
      refine x_callV Γ calv_X2_isWord wl_X2_63 dX2_kindTold_13 (m_X2_isWord (g := g) (T := T) (T2 := T2) (T3 := T3) (R := R) (X := X) hL hp hX (kwI_lt (k := c) (by omega))) rfl (by decide) (by decide) (by rfl) rfl rfl rfl (Nat.le_of_ble_eq_true rfl) (Nat.le_refl _) (Nat.le_refl _) ?_
      refine x_if_eq Γ (tgt := 21) dX2_kindTold_16 (by decide) (fun c_2 => ?_) (fun c_2 => ?_)
      · have c_2 := zb_0.mp c_2
        have q5 : kdF (R 3) L p f1 (c + 1) = kdF (R 3) L p 7 0 := (if_neg (by rw [c_2]; decide)).symm.trans q3
        refine x_iinc Γ dX2_kindTold_21 rfl (by first | exact zinc _ | rfl) (by decide) ?_
        refine x_goto Γ (tgt := 2) dX2_kindTold_24 (by decide) ?_
        exact x_subl [(0, .ref 25), (1, .int (nI (c + 1)))] (List.forall_mem_cons.mpr ⟨rfl, List.forall_mem_cons.mpr ⟨rfl, fun _ hz => absurd hz List.not_mem_nil⟩⟩) (ih f1 (c + 1) (by omega) (by omega) q5)
      · have c_2 := zb_n0.mp c_2
        have q5 : nI c = kdF (R 3) L p 7 0 := (if_pos c_2).symm.trans q3
        refine x_iload_n Γ dX2_kindTold_19 rfl ?_
        exact x_iret ρ rfl dX2_kindTold_20 rfl (zsi q5.symm) rfl (zH.rf)

def rlR (R Q : zT) : Prop := (∀ a, a ≠ 7 → Q a = R a) ∧ ∀ k, k < 4 → Q 7 k = R 7 k
theorem rl_rf {R : zT} : rlR R R := ⟨fun _ _ => rfl, fun _ _ => rfl⟩
theorem rl_ts {R Q : zT} {k : Nat} {v : Int32} (hk : 4 ≤ k) (h : rlR R Q) : rlR R (ts Q 7 k v) := ⟨fun a ha => (ts_n ha).trans (h.1 a ha), fun i hi => (ts_i (by omega)).trans (h.2 i hi)⟩
theorem rl_tr {R Q S : zT} (h : rlR R Q) (h2 : rlR Q S) : rlR R S := ⟨fun a ha => (h2.1 a ha).trans (h.1 a ha), fun i hi => (h2.2 i hi).trans (h.2 i hi)⟩
def tM (k : Nat) : Nat := min k 3
def tkR (b : Nat → Int32) (L p : Nat) (R : zT) : Prop := R 7 5 = nI (tS b L p) ∧ R 7 6 = nI (tE b L p) ∧ R 7 4 = nI (tM (tK b L p)) ∧ (tK b L p = 2 → R 7 7 = tV b L p)
def mQ (g : Nat → zE) (T R : zT) (L p : Nat) (bad : Bool) (h : Nat → zE) : Prop := ∃ Q : zT, h = hR g T Q ∧ rlR R Q ∧ tkR (R 3) L p Q ∧ Q 7 8 = zb bad

set_option maxRecDepth 100000 in
set_option maxHeartbeats 4000000 in
theorem m_X4_isByte {g : Nat → zE} {T R : zT} {L k : Nat} (hL : L ≤ 120) (hk : k ≤ L) (eL : R 7 3 = nI L) (lo hi : Int32) : zM 1 M_X4_isByte [.ref 37, .int (nI k), .int lo, .int hi] (hR g T R) 46 (some (.int (zb (decide (k < L) && inR (R 3 k) lo hi)))) (hR g T R) 46 0 0 := by
  refine zM.intro (by decide) (Nat.le_of_ble_eq_true rfl) ?_
  intro Wf V m H0 Γ ρ
  replace Γ : zC Wf V m 4 H0 cX4_isByte RX4 1 0 0 := Γ
  show zX Wf V m 4 H0 0 (zls [(0, .ref 37), (1, .int (nI k)), (2, .int lo), (3, .int hi)]) [] (hR g T R) 46 0 0
  refine x_iload_n Γ dX4_isByte_0 rfl ?_
  refine x_aload_n Γ dX4_isByte_1 rfl ?_
  refine gf_X4_197 Γ dX4_isByte_2 (by decide) rfl rfl ?_
  refine x_icmp_ge Γ (tgt := 29) dX4_isByte_5 (by decide) (fun c_1 => ?_) (fun c_1 => ?_)
  · rw [eL] at c_1
    have c_1 := z_le c_1 (by omega) (by omega)
    have hv : (decide (k < L) && inR (R 3 k) lo hi) = false := by rw [decide_eq_false (by omega)]; rfl
    refine x_iconst Γ (v := 0) dX4_isByte_29 rfl ?_
    exact x_iret ρ rfl dX4_isByte_30 (by first | exact zb_nz _ | rfl) (by rw [hv]; try rfl) rfl (zH.rf)
  · rw [eL] at c_1
    have hkl := z_nle c_1 (by omega) (by omega)
    refine x_aload_n Γ dX4_isByte_8 rfl ?_
    refine gf_X4_22 Γ dX4_isByte_9 (by decide) rfl rfl ?_
    refine x_iload_n Γ dX4_isByte_12 rfl ?_
    refine x_iald Γ dX4_isByte_13 (by decide) (by rfl) rfl (by omega) (by decide) rfl ?_
    refine x_i2l Γ dX4_isByte_14 ?_
    refine x_iload_n Γ dX4_isByte_15 rfl ?_
    refine x_i2l Γ dX4_isByte_16 ?_
    refine x_iload_n Γ dX4_isByte_17 rfl ?_
    refine x_i2l Γ dX4_isByte_18 ?_
    refine x_callS Γ cals_X4_in wl_X4_40 dX4_isByte_19 (m_in (R 3 k) lo hi lo.toInt64 hi.toInt64 (Int32.toInt_toInt64 _) (Int32.toInt_toInt64 _)) rfl (by decide) rfl (Nat.le_of_ble_eq_true rfl) (Nat.le_refl _) (Nat.le_refl _) ?_
    refine x_if_eq Γ (tgt := 29) dX4_isByte_22 (by decide) (fun c_2 => ?_) (fun c_2 => ?_)
    · have c_2 := zb_0.mp c_2
      have hv : (decide (k < L) && inR (R 3 k) lo hi) = false := by rw [c_2, Bool.and_false]
      refine x_iconst Γ (v := 0) dX4_isByte_29 rfl ?_
      exact x_iret ρ rfl dX4_isByte_30 (by first | exact zb_nz _ | rfl) (by rw [hv]; try rfl) rfl (zH.rf)
    · have c_2 := zb_n0.mp c_2
      have hv : (decide (k < L) && inR (R 3 k) lo hi) = true := by rw [c_2, decide_eq_true hkl]; rfl
      refine x_iconst Γ (v := 1) dX4_isByte_25 rfl ?_
      refine x_goto Γ (tgt := 30) dX4_isByte_26 (by decide) ?_
      exact x_iret ρ rfl dX4_isByte_30 (by first | exact zb_nz _ | rfl) (by rw [hv]; try rfl) rfl (zH.rf)

set_option maxRecDepth 100000 in
set_option maxHeartbeats 4000000 in
theorem m_X4_token {g : Nat → zE} {T R : zT} {L p : Nat} {bad : Bool} (hL : L ≤ 120) (hp : p ≤ L) (eL : R 7 3 = nI L) (e6 : R 7 6 = nI p) (hbad : R 7 8 = zb bad) : zMx 2 M_X4_token [.ref 37] (hR g T R) 46 (none) (mQ g T R L p bad) := by
  refine zMx.intro (by decide) (Nat.le_of_ble_eq_true rfl) ?_
  intro Wf V m H0 Γ ρ
  replace Γ : zC Wf V m 1 H0 cX4_token RX4 2 0 0 := Γ
  show zX Wf V m 1 H0 0 (zls [(0, .ref 37)]) [] (hR g T R) 46 0 0
  have hsl := tS_le (b := R 3) hp
  refine x_aload_n Γ dX4_token_0 rfl ?_
  refine x_aload_n Γ dX4_token_1 rfl ?_
  refine gf_X4_200 Γ dX4_token_2 (by decide) rfl rfl ?_
  refine pf_X4_203 Γ dX4_token_5 (by decide) rfl (Nat.le_of_ble_eq_true rfl) (hR_uO (k := 5) rfl) ?_
  suffices L_8 : ∀ (k q : Nat) (Q : zT), q ≤ L → L - q < k → rlR R Q → Q 7 8 = R 7 8 → Q 7 5 = nI q → sk isBlk (R 3) L q = (tS (R 3) L p) → zX Wf V m 1 H0 8 (zls [(0, .ref 37)]) [] (hR g T Q) 46 0 0 by
    exact x_subl [(0, .ref 37)] (List.forall_mem_cons.mpr ⟨rfl, fun _ hz => absurd hz List.not_mem_nil⟩) (L_8 (L + 1) p _ hp (by omega) (rl_ts (by omega) rl_rf) (ts_i (by decide)) (ts_s.trans e6) rfl)
  intro k
  induction k with
  | zero => intro q Q q1 q2; omega
  | succ k ih =>
    intro q Q q1 q2 qL q8 q5 q7
    refine x_aload_n Γ dX4_token_8 rfl ?_
    refine x_aload_n Γ dX4_token_9 rfl ?_
    refine gf_X4_203 Γ dX4_token_10 (by decide) rfl rfl ?_
    refine x_bipush Γ (v := 32) dX4_token_13 rfl ?_
    refine x_bipush Γ (v := 32) dX4_token_15 rfl ?_
    rw [q5]
    refine x_callV Γ calv_X4_isByte wl_X4_206 dX4_token_17 (m_X4_isByte (g := g) (T := T) (R := Q) (L := L) (k := q) hL (by omega) (by rw [qL.2 3 (by omega)]; exact eL) 32 32) rfl (by decide) (by decide) rfl rfl rfl rfl (Nat.le_of_ble_eq_true rfl) (Nat.le_refl _) (Nat.le_refl _) ?_
    refine x_if_eq Γ (tgt := 36) dX4_token_20 (by decide) (fun c_1 => ?_) (fun c_1 => ?_)
    · have c_1 := zb_0.mp c_1
      rw [qL.1 3 (by omega)] at c_1
      have hq := (sk_b (P := isBlk) (b := R 3) (L := L) (p := q) (fun z => by rw [decide_eq_true z.1] at c_1; exact absurd (z.2.symm.trans c_1) (by decide))).symm.trans q7
      subst hq
      refine x_aload_n Γ dX4_token_36 rfl ?_
      refine x_aload_n Γ dX4_token_37 rfl ?_
      refine gf_X4_203 Γ dX4_token_38 (by decide) rfl rfl ?_
      refine pf_X4_200 Γ dX4_token_41 (by decide) rfl (Nat.le_of_ble_eq_true rfl) (hR_uO (k := 6) rfl) ?_
      refine x_aload_n Γ dX4_token_44 rfl ?_
      refine x_iconst Γ (v := 0) dX4_token_45 rfl ?_
      refine pf_X4_209 Γ dX4_token_46 (by decide) rfl (Nat.le_of_ble_eq_true rfl) (hR_uO (k := 7) rfl) ?_
      refine x_aload_n Γ dX4_token_49 rfl ?_
      refine x_aload_n Γ dX4_token_50 rfl ?_
      refine gf_X4_203 Γ dX4_token_51 (by decide) rfl rfl ?_
      refine x_aload_n Γ dX4_token_54 rfl ?_
      refine gf_X4_197 Γ dX4_token_55 (by decide) rfl rfl ?_
      refine x_icmp_ne Γ (tgt := 65) dX4_token_58 (by decide) (fun c_2 => ?_) (fun c_2 => ?_)
      · have htL : (tS (R 3) L p) < L := by
          rcases Nat.lt_or_ge (tS (R 3) L p) L with h | h
          · exact h
          · exact absurd (by rw [ts_i (by decide), ts_i (by decide), ts_i (by decide), ts_i (by decide), q5, qL.2 3 (by omega), eL, show (tS (R 3) L p) = L by omega]) c_2
        refine x_aload_n Γ dX4_token_65 rfl ?_
        refine x_aload_n Γ dX4_token_66 rfl ?_
        refine gf_X4_203 Γ dX4_token_67 (by decide) rfl rfl ?_
        refine x_bipush Γ (v := 97) dX4_token_70 rfl ?_
        refine x_bipush Γ (v := 122) dX4_token_72 rfl ?_
        rw [show ts (ts Q 7 6 (Q 7 5)) 7 7 0 7 5 = nI (tS (R 3) L p) by rw [ts_i (by decide), ts_i (by decide)]; exact q5]
        refine x_callV Γ calv_X4_isByte wl_X4_206 dX4_token_74 (m_X4_isByte (g := g) (T := T) (R := (ts (ts Q 7 6 (Q 7 5)) 7 7 0)) (L := L) (k := (tS (R 3) L p)) hL (by omega) (by rw [ts_i (by decide), ts_i (by decide), qL.2 3 (by omega)]; exact eL) 97 122) rfl (by decide) (by decide) rfl rfl rfl rfl (Nat.le_of_ble_eq_true rfl) (Nat.le_refl _) (Nat.le_refl _) ?_
        refine x_if_eq Γ (tgt := 84) dX4_token_77 (by decide) (fun c_3 => ?_) (fun c_3 => ?_)
        · have c_3 := zb_0.mp c_3
          rw [show ts (ts Q 7 6 (Q 7 5)) 7 7 0 3 = R 3 by rw [ts_n (by decide), ts_n (by decide)]; exact qL.1 3 (by omega), decide_eq_true htL] at c_3
          have hlf : ¬ isLet (R 3 (tS (R 3) L p)) = true := fun z => absurd (z.symm.trans c_3) (by decide)
          refine x_aload_n Γ dX4_token_84 rfl ?_
          refine x_aload_n Γ dX4_token_85 rfl ?_
          refine gf_X4_203 Γ dX4_token_86 (by decide) rfl rfl ?_
          refine x_bipush Γ (v := 48) dX4_token_89 rfl ?_
          refine x_bipush Γ (v := 57) dX4_token_91 rfl ?_
          rw [show ts (ts Q 7 6 (Q 7 5)) 7 7 0 7 5 = nI (tS (R 3) L p) by rw [ts_i (by decide), ts_i (by decide)]; exact q5]
          refine x_callV Γ calv_X4_isByte wl_X4_206 dX4_token_93 (m_X4_isByte (g := g) (T := T) (R := (ts (ts Q 7 6 (Q 7 5)) 7 7 0)) (L := L) (k := (tS (R 3) L p)) hL (by omega) (by rw [ts_i (by decide), ts_i (by decide), qL.2 3 (by omega)]; exact eL) 48 57) rfl (by decide) (by decide) rfl rfl rfl rfl (Nat.le_of_ble_eq_true rfl) (Nat.le_refl _) (Nat.le_refl _) ?_
          refine x_if_eq Γ (tgt := 103) dX4_token_96 (by decide) (fun c_4 => ?_) (fun c_4 => ?_)
          · have c_4 := zb_0.mp c_4
            rw [show ts (ts Q 7 6 (Q 7 5)) 7 7 0 3 = R 3 by rw [ts_n (by decide), ts_n (by decide)]; exact qL.1 3 (by omega), decide_eq_true htL] at c_4
            have hdf : ¬ isDig (R 3 (tS (R 3) L p)) = true := fun z => absurd (z.symm.trans c_4) (by decide)
            refine x_iconst Γ (v := 3) dX4_token_103 rfl ?_
            refine pf_X4_212 Γ dX4_token_104 (by decide) rfl (Nat.le_of_ble_eq_true rfl) (hR_uO (k := 4) rfl) ?_
            suffices G_107 : ∀ Q : zT, rlR R Q → Q 7 8 = R 7 8 → Q 7 4 = 3 → Q 7 5 = nI (tS (R 3) L p) → Q 7 6 = nI (tS (R 3) L p) → Q 7 7 = 0 → zX Wf V m 1 H0 107 (zls [(0, .ref 37)]) [] (hR g T Q) 46 0 0 by
              exact x_subl [(0, .ref 37)] (List.forall_mem_cons.mpr ⟨rfl, fun _ hz => absurd hz List.not_mem_nil⟩) (G_107 _ (rl_ts (by omega) (rl_ts (by omega) (rl_ts (by omega) qL))) (by simp [ts, tr, upd, q8]) (by simp [ts, tr, upd]) (by simp [ts, tr, upd, q5]) (by simp [ts, tr, upd, q5]) (by simp [ts, tr, upd]))
            clear qL q8 q5
            intro Q qL q8 q4 q5 q6 q7
            refine x_aload_n Γ dX4_token_107 rfl ?_
            refine gf_X4_212 Γ dX4_token_108 (by decide) rfl rfl ?_
            refine x_iconst Γ (v := 3) dX4_token_111 rfl ?_
            refine x_icmp_ne Γ (tgt := 125) dX4_token_112 (by decide) (fun c_5 => ?_) (fun c_5 => ?_)
            · exact absurd q4 c_5
            · refine x_aload_n Γ dX4_token_115 rfl ?_
              refine x_dup Γ dX4_token_116 rfl ?_
              refine gf_X4_200 Γ dX4_token_117 (by decide) rfl rfl ?_
              refine x_iconst Γ (v := 1) dX4_token_120 rfl ?_
              refine x_iadd Γ dX4_token_121 ?_
              refine pf_X4_200 Γ dX4_token_122 (by decide) rfl (Nat.le_of_ble_eq_true rfl) (hR_uO (k := 6) rfl) ?_
              refine x_aload_n Γ dX4_token_125 rfl ?_
              refine gf_X4_212 Γ dX4_token_126 (by decide) rfl rfl ?_
              refine x_iconst Γ (v := 1) dX4_token_129 rfl ?_
              refine x_icmp_ne Γ (tgt := 161) dX4_token_130 (by decide) (fun c_6 => ?_) (fun c_6 => ?_)
              · refine x_aload_n Γ dX4_token_161 rfl ?_
                refine gf_X4_212 Γ dX4_token_162 (by decide) rfl rfl ?_
                refine x_iconst Γ (v := 2) dX4_token_165 rfl ?_
                refine x_icmp_ne Γ (tgt := 238) dX4_token_166 (by decide) (fun c_7 => ?_) (fun c_7 => ?_)
                · exact x_vretx ρ dX4_token_238 (⟨_, rfl, rl_ts (by omega) qL, ⟨(ts_i (by decide)).trans q5, by rw [ts_s, q6, nI_1, tE, if_pos htL, if_neg hlf, if_neg hdf], by rw [ts_i (by decide), q4, tK, if_pos htL, if_neg hlf, if_neg hdf]; split <;> rfl, fun w => by rw [tK, if_pos htL, if_neg hlf, if_neg hdf] at w; split at w <;> omega⟩, (ts_i (by decide)).trans (q8.trans hbad)⟩)
                · rw [ts_i (by decide), q4] at c_7
                  exact absurd c_7 (by decide)
              · rw [ts_i (by decide), q4] at c_6
                exact absurd c_6 (by decide)
          · have c_4 := zb_n0.mp c_4
            rw [show ts (ts Q 7 6 (Q 7 5)) 7 7 0 3 = R 3 by rw [ts_n (by decide), ts_n (by decide)]; exact qL.1 3 (by omega), decide_eq_true htL] at c_4
            have hdt : isDig (R 3 (tS (R 3) L p)) = true := c_4
            refine x_iconst Γ (v := 2) dX4_token_99 rfl ?_
            refine x_goto Γ (tgt := 104) dX4_token_100 (by decide) ?_
            refine pf_X4_212 Γ dX4_token_104 (by decide) rfl (Nat.le_of_ble_eq_true rfl) (hR_uO (k := 4) rfl) ?_
            suffices G_107 : ∀ Q : zT, rlR R Q → Q 7 8 = R 7 8 → Q 7 4 = 2 → Q 7 5 = nI (tS (R 3) L p) → Q 7 6 = nI (tS (R 3) L p) → Q 7 7 = 0 → zX Wf V m 1 H0 107 (zls [(0, .ref 37)]) [] (hR g T Q) 46 0 0 by
              exact x_subl [(0, .ref 37)] (List.forall_mem_cons.mpr ⟨rfl, fun _ hz => absurd hz List.not_mem_nil⟩) (G_107 _ (rl_ts (by omega) (rl_ts (by omega) (rl_ts (by omega) qL))) (by simp [ts, tr, upd, q8]) (by simp [ts, tr, upd]) (by simp [ts, tr, upd, q5]) (by simp [ts, tr, upd, q5]) (by simp [ts, tr, upd]))
            clear qL q8 q5
            intro Q qL q8 q4 q5 q6 q7
            refine x_aload_n Γ dX4_token_107 rfl ?_
            refine gf_X4_212 Γ dX4_token_108 (by decide) rfl rfl ?_
            refine x_iconst Γ (v := 3) dX4_token_111 rfl ?_
            refine x_icmp_ne Γ (tgt := 125) dX4_token_112 (by decide) (fun c_8 => ?_) (fun c_8 => ?_)
            · refine x_aload_n Γ dX4_token_125 rfl ?_
              refine gf_X4_212 Γ dX4_token_126 (by decide) rfl rfl ?_
              refine x_iconst Γ (v := 1) dX4_token_129 rfl ?_
              refine x_icmp_ne Γ (tgt := 161) dX4_token_130 (by decide) (fun c_9 => ?_) (fun c_9 => ?_)
              · suffices L_161 : ∀ (k c : Nat) (Q : zT), (tS (R 3) L p) + c ≤ L → L - ((tS (R 3) L p) + c) < k → rlR R Q → Q 7 8 = R 7 8 → Q 7 4 = 2 → Q 7 5 = nI (tS (R 3) L p) → Q 7 6 = nI ((tS (R 3) L p) + c) → sk isDig (R 3) L ((tS (R 3) L p) + c) = sk isDig (R 3) L (tS (R 3) L p) → Q 7 7 = nvR (R 3) (tS (R 3) L p) c → zX Wf V m 1 H0 161 (zls [(0, .ref 37)]) [] (hR g T Q) 46 0 0 by
                  exact x_subl [(0, .ref 37)] (List.forall_mem_cons.mpr ⟨rfl, fun _ hz => absurd hz List.not_mem_nil⟩) (L_161 (L + 1) 0 _ hsl (by omega) qL q8 q4 q5 q6 rfl q7)
                clear qL q8 q4 q5 q6 q7
                intro k
                induction k with
                | zero => intro c Q q1 q2; omega
                | succ k ih =>
                  intro c Q q1 q2 qL q8 q4 q5 q6 q9 q7
                  refine x_aload_n Γ dX4_token_161 rfl ?_
                  refine gf_X4_212 Γ dX4_token_162 (by decide) rfl rfl ?_
                  refine x_iconst Γ (v := 2) dX4_token_165 rfl ?_
                  refine x_icmp_ne Γ (tgt := 238) dX4_token_166 (by decide) (fun c_10 => ?_) (fun c_10 => ?_)
                  · exact absurd q4 c_10
                  · refine x_aload_n Γ dX4_token_169 rfl ?_
                    refine x_aload_n Γ dX4_token_170 rfl ?_
                    refine gf_X4_200 Γ dX4_token_171 (by decide) rfl rfl ?_
                    refine x_bipush Γ (v := 48) dX4_token_174 rfl ?_
                    refine x_bipush Γ (v := 57) dX4_token_176 rfl ?_
                    rw [q6]
                    refine x_callV Γ calv_X4_isByte wl_X4_206 dX4_token_178 (m_X4_isByte (g := g) (T := T) (R := Q) (L := L) (k := ((tS (R 3) L p) + c)) hL (by omega) (by rw [qL.2 3 (by omega)]; exact eL) 48 57) rfl (by decide) (by decide) rfl rfl rfl rfl (Nat.le_of_ble_eq_true rfl) (Nat.le_refl _) (Nat.le_refl _) ?_
                    refine x_if_eq Γ (tgt := 238) dX4_token_181 (by decide) (fun c_11 => ?_) (fun c_11 => ?_)
                    · have c_11 := zb_0.mp c_11
                      rw [qL.1 3 (by omega)] at c_11
                      have hq := sk_b (P := isDig) (b := R 3) (L := L) (p := (tS (R 3) L p) + c) (fun z => by rw [decide_eq_true z.1] at c_11; exact absurd (z.2.symm.trans c_11) (by decide))
                      exact x_vretx ρ dX4_token_238 (⟨Q, rfl, qL, ⟨q5, by rw [tE, if_pos htL, if_neg hlf, if_pos hdt, ← q9, hq]; exact q6, by rw [tK, if_pos htL, if_neg hlf, if_pos hdt]; exact q4, fun w => by rw [tV, ← q9, hq, Nat.add_sub_cancel_left]; exact q7⟩, q8.trans hbad⟩)
                    · have c_11 := zb_n0.mp c_11
                      rw [qL.1 3 (by omega), Bool.and_eq_true, decide_eq_true_eq] at c_11
                      have hq := sk_a (P := isDig) (b := R 3) (L := L) (p := (tS (R 3) L p) + c) c_11.1 c_11.2
                      refine x_aload_n Γ dX4_token_184 rfl ?_
                      refine x_aload_n Γ dX4_token_185 rfl ?_
                      refine gf_X4_209 Γ dX4_token_186 (by decide) rfl rfl ?_
                      refine x_sipush Γ (v := 9999) dX4_token_189 rfl ?_
                      refine x_icmp_le Γ (tgt := 202) dX4_token_192 (by decide) (fun c_12 => ?_) (fun c_12 => ?_)
                      · rw [q7] at c_12
                        have hv : 10 * Q 7 7 + Q 3 ((tS (R 3) L p) + c) - 48 = nvR (R 3) (tS (R 3) L p) (c + 1) := by rw [nvR, if_neg (Int32.not_lt.mpr c_12), q7, qL.1 3 (by omega)]
                        refine x_bipush Γ (v := 10) dX4_token_202 rfl ?_
                        refine x_aload_n Γ dX4_token_204 rfl ?_
                        refine gf_X4_209 Γ dX4_token_205 (by decide) rfl rfl ?_
                        refine x_imul Γ dX4_token_208 ?_
                        refine x_aload_n Γ dX4_token_209 rfl ?_
                        refine gf_X4_22 Γ dX4_token_210 (by decide) rfl rfl ?_
                        refine x_aload_n Γ dX4_token_213 rfl ?_
                        refine gf_X4_200 Γ dX4_token_214 (by decide) rfl rfl ?_
                        refine x_iald Γ dX4_token_217 (by decide) (by rfl) q6 (by omega) (by decide) rfl ?_
                        refine x_iadd Γ dX4_token_218 ?_
                        refine x_bipush Γ (v := 48) dX4_token_219 rfl ?_
                        refine x_isub Γ dX4_token_221 ?_
                        refine pf_X4_209 Γ dX4_token_222 (by decide) rfl (Nat.le_of_ble_eq_true rfl) (hR_uO (k := 7) rfl) ?_
                        refine x_aload_n Γ dX4_token_225 rfl ?_
                        refine x_dup Γ dX4_token_226 rfl ?_
                        refine gf_X4_200 Γ dX4_token_227 (by decide) rfl rfl ?_
                        refine x_iconst Γ (v := 1) dX4_token_230 rfl ?_
                        refine x_iadd Γ dX4_token_231 ?_
                        refine pf_X4_200 Γ dX4_token_232 (by decide) rfl (Nat.le_of_ble_eq_true rfl) (hR_uO (k := 6) rfl) ?_
                        refine x_goto Γ (tgt := 161) dX4_token_235 (by decide) ?_
                        exact x_subl [(0, .ref 37)] (List.forall_mem_cons.mpr ⟨rfl, fun _ hz => absurd hz List.not_mem_nil⟩) (ih (c + 1) _ (by omega) (by omega) (rl_ts (by omega) (rl_ts (by omega) qL)) (((ts_i (by decide)).trans (ts_i (by decide))).trans q8) (((ts_i (by decide)).trans (ts_i (by decide))).trans q4) (((ts_i (by decide)).trans (ts_i (by decide))).trans q5) (ts_s.trans (by rw [ts_i (by decide), q6, nI_1]; rfl)) (hq.symm.trans q9) ((ts_i (by decide)).trans (ts_s.trans hv)))
                      · rw [q7] at c_12
                        have hv : Q 7 7 = nvR (R 3) (tS (R 3) L p) (c + 1) := by rw [nvR, if_pos (Int32.not_le.mp c_12)]; exact q7
                        refine x_aload_n Γ dX4_token_195 rfl ?_
                        refine gf_X4_209 Γ dX4_token_196 (by decide) rfl rfl ?_
                        refine x_goto Γ (tgt := 222) dX4_token_199 (by decide) ?_
                        refine pf_X4_209 Γ dX4_token_222 (by decide) rfl (Nat.le_of_ble_eq_true rfl) (hR_uO (k := 7) rfl) ?_
                        refine x_aload_n Γ dX4_token_225 rfl ?_
                        refine x_dup Γ dX4_token_226 rfl ?_
                        refine gf_X4_200 Γ dX4_token_227 (by decide) rfl rfl ?_
                        refine x_iconst Γ (v := 1) dX4_token_230 rfl ?_
                        refine x_iadd Γ dX4_token_231 ?_
                        refine pf_X4_200 Γ dX4_token_232 (by decide) rfl (Nat.le_of_ble_eq_true rfl) (hR_uO (k := 6) rfl) ?_
                        refine x_goto Γ (tgt := 161) dX4_token_235 (by decide) ?_
                        exact x_subl [(0, .ref 37)] (List.forall_mem_cons.mpr ⟨rfl, fun _ hz => absurd hz List.not_mem_nil⟩) (ih (c + 1) _ (by omega) (by omega) (rl_ts (by omega) (rl_ts (by omega) qL)) (((ts_i (by decide)).trans (ts_i (by decide))).trans q8) (((ts_i (by decide)).trans (ts_i (by decide))).trans q4) (((ts_i (by decide)).trans (ts_i (by decide))).trans q5) (ts_s.trans (by rw [ts_i (by decide), q6, nI_1]; rfl)) (hq.symm.trans q9) ((ts_i (by decide)).trans (ts_s.trans hv)))
              · rw [q4] at c_9
                exact absurd c_9 (by decide)
            · rw [q4] at c_8
              exact absurd c_8 (by decide)
        · have c_3 := zb_n0.mp c_3
          rw [show ts (ts Q 7 6 (Q 7 5)) 7 7 0 3 = R 3 by rw [ts_n (by decide), ts_n (by decide)]; exact qL.1 3 (by omega), decide_eq_true htL] at c_3
          have hlt : isLet (R 3 (tS (R 3) L p)) = true := c_3
          refine x_iconst Γ (v := 1) dX4_token_80 rfl ?_
          refine x_goto Γ (tgt := 104) dX4_token_81 (by decide) ?_
          refine pf_X4_212 Γ dX4_token_104 (by decide) rfl (Nat.le_of_ble_eq_true rfl) (hR_uO (k := 4) rfl) ?_
          suffices G_107 : ∀ Q : zT, rlR R Q → Q 7 8 = R 7 8 → Q 7 4 = 1 → Q 7 5 = nI (tS (R 3) L p) → Q 7 6 = nI (tS (R 3) L p) → Q 7 7 = 0 → zX Wf V m 1 H0 107 (zls [(0, .ref 37)]) [] (hR g T Q) 46 0 0 by
            exact x_subl [(0, .ref 37)] (List.forall_mem_cons.mpr ⟨rfl, fun _ hz => absurd hz List.not_mem_nil⟩) (G_107 _ (rl_ts (by omega) (rl_ts (by omega) (rl_ts (by omega) qL))) (by simp [ts, tr, upd, q8]) (by simp [ts, tr, upd]) (by simp [ts, tr, upd, q5]) (by simp [ts, tr, upd, q5]) (by simp [ts, tr, upd]))
          clear qL q8 q5
          intro Q qL q8 q4 q5 q6 q7
          refine x_aload_n Γ dX4_token_107 rfl ?_
          refine gf_X4_212 Γ dX4_token_108 (by decide) rfl rfl ?_
          refine x_iconst Γ (v := 3) dX4_token_111 rfl ?_
          refine x_icmp_ne Γ (tgt := 125) dX4_token_112 (by decide) (fun c_13 => ?_) (fun c_13 => ?_)
          · suffices L_125 : ∀ (k q : Nat) (Q : zT), q ≤ L → L - q < k → rlR R Q → Q 7 8 = R 7 8 → Q 7 4 = 1 → Q 7 5 = nI (tS (R 3) L p) → Q 7 6 = nI q → sk isLet (R 3) L q = sk isLet (R 3) L (tS (R 3) L p) → zX Wf V m 1 H0 125 (zls [(0, .ref 37)]) [] (hR g T Q) 46 0 0 by
              exact x_subl [(0, .ref 37)] (List.forall_mem_cons.mpr ⟨rfl, fun _ hz => absurd hz List.not_mem_nil⟩) (L_125 (L + 1) (tS (R 3) L p) _ hsl (by omega) qL q8 q4 q5 q6 rfl)
            clear qL q8 q4 q5 q6 q7
            intro k
            induction k with
            | zero => intro q Q q1 q2; omega
            | succ k ih =>
              intro q Q q1 q2 qL q8 q4 q5 q6 q7
              refine x_aload_n Γ dX4_token_125 rfl ?_
              refine gf_X4_212 Γ dX4_token_126 (by decide) rfl rfl ?_
              refine x_iconst Γ (v := 1) dX4_token_129 rfl ?_
              refine x_icmp_ne Γ (tgt := 161) dX4_token_130 (by decide) (fun c_14 => ?_) (fun c_14 => ?_)
              · exact absurd q4 c_14
              · refine x_aload_n Γ dX4_token_133 rfl ?_
                refine x_aload_n Γ dX4_token_134 rfl ?_
                refine gf_X4_200 Γ dX4_token_135 (by decide) rfl rfl ?_
                refine x_bipush Γ (v := 97) dX4_token_138 rfl ?_
                refine x_bipush Γ (v := 122) dX4_token_140 rfl ?_
                rw [q6]
                refine x_callV Γ calv_X4_isByte wl_X4_206 dX4_token_142 (m_X4_isByte (g := g) (T := T) (R := Q) (L := L) (k := q) hL (by omega) (by rw [qL.2 3 (by omega)]; exact eL) 97 122) rfl (by decide) (by decide) rfl rfl rfl rfl (Nat.le_of_ble_eq_true rfl) (Nat.le_refl _) (Nat.le_refl _) ?_
                refine x_if_eq Γ (tgt := 161) dX4_token_145 (by decide) (fun c_15 => ?_) (fun c_15 => ?_)
                · have c_15 := zb_0.mp c_15
                  rw [qL.1 3 (by omega)] at c_15
                  have hq := sk_b (P := isLet) (b := R 3) (L := L) (p := q) (fun z => by rw [decide_eq_true z.1] at c_15; exact absurd (z.2.symm.trans c_15) (by decide))
                  refine x_aload_n Γ dX4_token_161 rfl ?_
                  refine gf_X4_212 Γ dX4_token_162 (by decide) rfl rfl ?_
                  refine x_iconst Γ (v := 2) dX4_token_165 rfl ?_
                  refine x_icmp_ne Γ (tgt := 238) dX4_token_166 (by decide) (fun c_16 => ?_) (fun c_16 => ?_)
                  · exact x_vretx ρ dX4_token_238 (⟨Q, rfl, qL, ⟨q5, by rw [tE, if_pos htL, if_pos hlt, ← q7, hq]; exact q6, by rw [tK, if_pos htL, if_pos hlt]; exact q4, fun w => by rw [tK, if_pos htL, if_pos hlt] at w; omega⟩, q8.trans hbad⟩)
                  · rw [q4] at c_16
                    exact absurd c_16 (by decide)
                · have c_15 := zb_n0.mp c_15
                  rw [qL.1 3 (by omega), Bool.and_eq_true, decide_eq_true_eq] at c_15
                  have hq := sk_a (P := isLet) (b := R 3) (L := L) (p := q) c_15.1 c_15.2
                  refine x_aload_n Γ dX4_token_148 rfl ?_
                  refine x_dup Γ dX4_token_149 rfl ?_
                  refine gf_X4_200 Γ dX4_token_150 (by decide) rfl rfl ?_
                  refine x_iconst Γ (v := 1) dX4_token_153 rfl ?_
                  refine x_iadd Γ dX4_token_154 ?_
                  refine pf_X4_200 Γ dX4_token_155 (by decide) rfl (Nat.le_of_ble_eq_true rfl) (hR_uO (k := 6) rfl) ?_
                  refine x_goto Γ (tgt := 125) dX4_token_158 (by decide) ?_
                  exact x_subl [(0, .ref 37)] (List.forall_mem_cons.mpr ⟨rfl, fun _ hz => absurd hz List.not_mem_nil⟩) (ih (q + 1) _ (by omega) (by omega) (rl_ts (by omega) qL) ((ts_i (by decide)).trans q8) ((ts_i (by decide)).trans q4) ((ts_i (by decide)).trans q5) (ts_s.trans (by rw [q6, nI_1])) (hq.symm.trans q7))
          · rw [q4] at c_13
            exact absurd c_13 (by decide)
      · rw [ts_i (by decide), ts_i (by decide), ts_i (by decide), ts_i (by decide), q5, qL.2 3 (by omega), eL] at c_2
        have htL := (nI_eq (by omega) (by omega)).mp c_2
        refine x_iconst Γ (v := 0) dX4_token_61 rfl ?_
        refine x_goto Γ (tgt := 104) dX4_token_62 (by decide) ?_
        refine pf_X4_212 Γ dX4_token_104 (by decide) rfl (Nat.le_of_ble_eq_true rfl) (hR_uO (k := 4) rfl) ?_
        suffices G_107 : ∀ Q : zT, rlR R Q → Q 7 8 = R 7 8 → Q 7 4 = 0 → Q 7 5 = nI (tS (R 3) L p) → Q 7 6 = nI (tS (R 3) L p) → Q 7 7 = 0 → zX Wf V m 1 H0 107 (zls [(0, .ref 37)]) [] (hR g T Q) 46 0 0 by
          exact x_subl [(0, .ref 37)] (List.forall_mem_cons.mpr ⟨rfl, fun _ hz => absurd hz List.not_mem_nil⟩) (G_107 _ (rl_ts (by omega) (rl_ts (by omega) (rl_ts (by omega) qL))) (by simp [ts, tr, upd, q8]) (by simp [ts, tr, upd]) (by simp [ts, tr, upd, q5]) (by simp [ts, tr, upd, q5]) (by simp [ts, tr, upd]))
        clear qL q8 q5
        intro Q qL q8 q4 q5 q6 q7
        refine x_aload_n Γ dX4_token_107 rfl ?_
        refine gf_X4_212 Γ dX4_token_108 (by decide) rfl rfl ?_
        refine x_iconst Γ (v := 3) dX4_token_111 rfl ?_
        refine x_icmp_ne Γ (tgt := 125) dX4_token_112 (by decide) (fun c_17 => ?_) (fun c_17 => ?_)
        · refine x_aload_n Γ dX4_token_125 rfl ?_
          refine gf_X4_212 Γ dX4_token_126 (by decide) rfl rfl ?_
          refine x_iconst Γ (v := 1) dX4_token_129 rfl ?_
          refine x_icmp_ne Γ (tgt := 161) dX4_token_130 (by decide) (fun c_18 => ?_) (fun c_18 => ?_)
          · refine x_aload_n Γ dX4_token_161 rfl ?_
            refine gf_X4_212 Γ dX4_token_162 (by decide) rfl rfl ?_
            refine x_iconst Γ (v := 2) dX4_token_165 rfl ?_
            refine x_icmp_ne Γ (tgt := 238) dX4_token_166 (by decide) (fun c_19 => ?_) (fun c_19 => ?_)
            · exact x_vretx ρ dX4_token_238 (⟨Q, rfl, qL, ⟨q5, by rw [tE, if_neg (by omega)]; exact q6, by rw [tK, if_neg (by omega)]; exact q4, fun w => by rw [tK, if_neg (by omega)] at w; omega⟩, q8.trans hbad⟩)
            · rw [q4] at c_19
              exact absurd c_19 (by decide)
          · rw [q4] at c_18
            exact absurd c_18 (by decide)
        · rw [q4] at c_17
          exact absurd c_17 (by decide)
    · have c_1 := zb_n0.mp c_1
      rw [qL.1 3 (by omega), Bool.and_eq_true, decide_eq_true_eq] at c_1
      have hq := sk_a (P := isBlk) (b := R 3) (L := L) (p := q) c_1.1 c_1.2
      refine x_aload_n Γ dX4_token_23 rfl ?_
      refine x_dup Γ dX4_token_24 rfl ?_
      refine gf_X4_203 Γ dX4_token_25 (by decide) rfl rfl ?_
      refine x_iconst Γ (v := 1) dX4_token_28 rfl ?_
      refine x_iadd Γ dX4_token_29 ?_
      refine pf_X4_203 Γ dX4_token_30 (by decide) rfl (Nat.le_of_ble_eq_true rfl) (hR_uO (k := 5) rfl) ?_
      refine x_goto Γ (tgt := 8) dX4_token_33 (by decide) ?_
      exact x_subl [(0, .ref 37)] (List.forall_mem_cons.mpr ⟨rfl, fun _ hz => absurd hz List.not_mem_nil⟩) (ih (q + 1) _ (by omega) (by omega) (rl_ts (by omega) qL) ((ts_i (by decide)).trans q8) (ts_s.trans (by rw [q5, nI_1])) (hq.symm.trans q7))
