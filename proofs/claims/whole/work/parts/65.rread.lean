-- THE REFERENCE READS
theorem sk_all {P : Int32 → Bool} {b : Nat → Int32} {L : Nat} : ∀ k p, L - p ≤ k → ∀ i, p ≤ i → i < sk P b L p → P (b i) = true := by
  intro k
  induction k with
  | zero =>
    intro p h i h1 h2
    rw [sk_b (fun z => by omega)] at h2
    omega
  | succ k ih =>
    intro p h i h1 h2
    by_cases hp : p < L ∧ P (b p) = true
    · by_cases hi : i = p
      · rw [hi]; exact hp.2
      · rw [sk_a hp.1 hp.2] at h2
        exact ih (p + 1) (by omega) i (by omega) h2
    · rw [sk_b hp] at h2
      omega
theorem num_eq {b : Nat → Int32} {s : Nat} : ∀ k, (∀ i, i < k → isDig (b (s + i)) = true) → ∃ n, n ≤ 100000 ∧ nvR b s k = nI n ∧ nvC b s k = nI (min n 10000) := by
  intro k
  induction k with
  | zero => intro _; exact ⟨0, by omega, nI_0.symm, nI_0.symm⟩
  | succ k ih =>
    intro h
    obtain ⟨n, hn, e1, e2⟩ := ih (fun i hi => h i (by omega))
    have hd := h k (by omega)
    unfold isDig at hd
    simp only [inR, Bool.and_eq_true, Bool.not_eq_true', decide_eq_false_iff_not] at hd
    have hd0 : ¬ b (s + k) < 0 := fun z => hd.1 (by
      simp only [Int32.lt_iff_toInt_lt, zlt_0] at z ⊢
      have : (48 : Int32).toInt = 48 := rfl
      omega)
    obtain ⟨d, hdd, ed⟩ := nI_of hd0
    rw [ed] at hd
    have h48 := z_nlt (b := 48) hd.1 hdd (by omega)
    have h57 := z_nlt (a := 57) hd.2 (by omega) hdd
    have hx : ∀ m, m ≤ 10000 → 10 * nI m + nI d - 48 = nI (10 * m + d - 48) := fun m hm => by
      rw [show (10 : Int32) = nI 10 from rfl, show (48 : Int32) = nI 48 from rfl, pk_mul, nI_add, pk_sub (by omega)]
    have h1 : nvR b s (k + 1) = if 9999 < nI n then nI n else nI (10 * n + d - 48) := by
      rw [nvR, e1, ed]
      by_cases h9 : 9999 < nI n
      · rw [if_pos h9, if_pos h9]
      · have := z_nlt (a := 9999) h9 (by omega) (by omega)
        rw [if_neg h9, if_neg h9, hx n (by omega)]
    have h2 : nvC b s (k + 1) = if nI (10 * min n 10000 + d - 48) < 10000 then nI (10 * min n 10000 + d - 48) else 10000 := by
      rw [nvC, e2, ed, hx _ (by omega)]
    by_cases h9 : 9999 < n
    · refine ⟨n, hn, by rw [h1, if_pos (show (9999 : Int32) < nI n from (nI_ltI (a := 9999) (by omega) (by omega)).mpr h9)], ?_⟩
      rw [h2, show min n 10000 = 10000 by omega, if_neg (show ¬ nI (10 * 10000 + d - 48) < (10000 : Int32) from fun z => by have := z_lt (b := 10000) z (by omega) (by omega); omega)]
      rfl
    · refine ⟨10 * n + d - 48, by omega, by rw [h1, if_neg (show ¬ (9999 : Int32) < nI n from fun z => h9 (z_lt (a := 9999) z (by omega) (by omega)))], ?_⟩
      rw [h2, show min n 10000 = n by omega]
      by_cases h4 : 10 * n + d - 48 < 10000
      · rw [if_pos (show nI (10 * n + d - 48) < (10000 : Int32) from (nI_ltI (b := 10000) (by omega) (by omega)).mpr h4), show min (10 * n + d - 48) 10000 = 10 * n + d - 48 by omega]
      · rw [if_neg (show ¬ nI (10 * n + d - 48) < (10000 : Int32) from fun z => h4 (z_lt (b := 10000) z (by omega) (by omega))), show min (10 * n + d - 48) 10000 = 10000 by omega]
        rfl
theorem tv_tc (b : Nat → Int32) (L p : Nat) : ∃ n, n ≤ 100000 ∧ tV b L p = nI n ∧ tC b L p = nI (min n 10000) := by
  unfold tV tC
  exact num_eq _ (fun i hi => sk_all (L - tS b L p) (tS b L p) (Nat.le_refl _) _ (by omega) (by omega))
theorem tv_in {b : Nat → Int32} {L p lo hi : Nat} (hlo : lo ≤ 9999) (hhi : hi ≤ 9999) : inR (tV b L p) (nI lo) (nI hi) = inR (tC b L p) (nI lo) (nI hi) ∧ (inR (tC b L p) (nI lo) (nI hi) = true → tV b L p = tC b L p) := by
  obtain ⟨n, hn, e1, e2⟩ := tv_tc b L p
  rw [e1, e2]
  by_cases h : n ≤ 9999
  · rw [show min n 10000 = n by omega]
    exact ⟨rfl, fun _ => rfl⟩
  · rw [show min n 10000 = 10000 by omega]
    have f1 : inR (nI n) (nI lo) (nI hi) = false := by
      rw [inR, decide_eq_true (p := nI hi < nI n) ((nI_ltI (by omega) (by omega)).mpr (by omega)), Bool.not_true, Bool.and_false]
    have f2 : inR (nI 10000) (nI lo) (nI hi) = false := by
      rw [inR, decide_eq_true (p := nI hi < nI 10000) ((nI_ltI (by omega) (by omega)).mpr (by omega)), Bool.not_true, Bool.and_false]
    rw [f1, f2]
    exact ⟨rfl, fun z => by cases z⟩
theorem tm_e : ∀ k, k < 5 → ((nI (tM k) = 1 ↔ k = 1) ∧ (nI (tM k) = 2 ↔ k = 2) ∧ (nI (tM k) = 0 ↔ k = 0) ∧ (nI (tM k) = 3 ↔ (k = 3 ∨ k = 4))) := by decide +kernel
theorem tk_b {b : Nat → Int32} {L p : Nat} : (tK b L p = 3 → tS b L p < L ∧ b (tS b L p) = 59) ∧ (tK b L p = 4 → tS b L p < L ∧ ¬ b (tS b L p) = 59) := by
  unfold tK
  by_cases h : tS b L p < L
  · rw [if_pos h]
    repeat' split
    · exact ⟨fun z => by omega, fun z => by omega⟩
    · exact ⟨fun z => by omega, fun z => by omega⟩
    · exact ⟨fun _ => ⟨h, by assumption⟩, fun z => by omega⟩
    · exact ⟨fun z => by omega, fun _ => ⟨h, by assumption⟩⟩
  · rw [if_neg h]
    exact ⟨fun z => by omega, fun z => by omega⟩
theorem mt_g {b : Nat → Int32} {s : Nat} {w : List Int32} : ∀ n, mtW b s w n = true → ∀ k, k < n → b (s + k) = w.getD k 0 := by
  intro n
  induction n with
  | zero => intro _ k hk; omega
  | succ n ih =>
    intro h k hk
    rw [mtW, Bool.and_eq_true, decide_eq_true_eq] at h
    by_cases hn : k = n
    · rw [hn]; exact h.2
    · exact ih h.1 k (by omega)
theorem wd_inj {b : Nat → Int32} {L p : Nat} {w1 w2 : List Int32} (h1 : isWd b L p w1 = true) (h2 : isWd b L p w2 = true) : w1 = w2 := by
  have a1 := wd_t h1
  have a2 := wd_t h2
  refine List.ext_getElem (by omega) (fun i hi1 hi2 => ?_)
  have e1 := mt_g _ a1.2.2 i hi1
  have e2 := mt_g _ a2.2.2 i hi2
  rw [List.getD_eq_getElem?_getD, List.getElem?_eq_getElem hi1] at e1
  rw [List.getD_eq_getElem?_getD, List.getElem?_eq_getElem hi2] at e2
  exact e1.symm.trans e2
theorem wd_dis {b : Nat → Int32} {L p : Nat} {w1 w2 : List Int32} (h1 : isWd b L p w1 = true) (h : w1 ≠ w2) : isWd b L p w2 = false := Bool.eq_false_iff.mpr (fun z => h (wd_inj h1 z))
theorem kd_f {b : Nat → Int32} {L p f k : Nat} (h : isWd b L p (byt (kwI k)) = false) : kdF b L p (f + 1) k = kdF b L p f (k + 1) := if_neg (by rw [h]; decide)
theorem kd_t {b : Nat → Int32} {L p f k : Nat} (h : isWd b L p (byt (kwI k)) = true) : kdF b L p (f + 1) k = nI k := if_pos h
def rhF (b : Nat → Int32) (L p : Nat) : Int32 := if isWd b L p (byt 12) = true then 0 else if isWd b L p (byt 13) = true then 1 else if isWd b L p (byt 14) = true then 2 else if isWd b L p (byt 15) = true then 3 else -1
def mB (g : Nat → zE) (T R : zT) (b : Nat → Int32) (L p : Nat) (bad : Bool) (h : Nat → zE) : Prop := ∃ Q : zT, h = hR g T Q ∧ rlR R Q ∧ tkR b L p Q ∧ Q 7 8 = zb bad
def iQ (g : Nat → zE) (R : zT) (b : Nat → Int32) (L : Nat) (res : zT × Nat × Bool) (h : Nat → zE) : Prop := ∃ T2 Q : zT, h = hR g T2 Q ∧ rlR R Q ∧ tkR b L res.2.1 Q ∧ Q 7 8 = zb (!res.2.2) ∧ (res.2.2 = true → T2 = res.1)
theorem m_tok {g : Nat → zE} {T R : zT} {b : Nat → Int32} {L p : Nat} {bad : Bool} (hL : L ≤ 120) (hp : p ≤ L) (h3 : R 3 = b) (eL : R 7 3 = nI L) (e6 : R 7 6 = nI p) (hbad : R 7 8 = zb bad) : zMx 2 M_X4_token [.ref 37] (hR g T R) 46 none (mB g T R b L p bad) := by
  subst h3
  exact m_X4_token hL hp eL e6 hbad

set_option maxRecDepth 100000 in
set_option maxHeartbeats 4000000 in
theorem m_X4_isWord {g : Nat → zE} {T R : zT} {b : Nat → Int32} {L p : Nat} {bad : Bool} (hL : L ≤ 120) (hp : p ≤ L) (h3 : R 3 = b) (eL : R 7 3 = nI L) (hk : tkR b L p R) (hbad : R 7 8 = zb bad) {i : Nat} (hi : i < 36) : zM 6 M_X4_isWord [.ref 37, .ref (1000 + i)] (hR g T R) 46 (some (.int (zb (!bad && isWd b L p (byt i))))) (hR g T R) 46 0 0 := by
  refine zM.intro (by decide) (Nat.le_of_ble_eq_true rfl) ?_
  intro Wf V m H0 Γ ρ
  replace Γ : zC Wf V m 4 H0 cX4_isWord RX4 6 0 0 := Γ
  show zX Wf V m 4 H0 0 (zls [(0, .ref 37), (1, .ref (1000 + i))]) [] (hR g T R) 46 0 0
  have hlen : (byt i).length < 8 := byt_len ⟨i, hi⟩
  have hel := tE_le (b := b) hp
  have hge := tE_ge (b := b) (L := L) (p := p)
  have hk5 := tK_lt (b := b) (L := L) (p := p)
  refine x_aload_n Γ dX4_isWord_0 rfl ?_
  refine gf_X4_215 Γ dX4_isWord_1 (by decide) rfl rfl ?_
  refine x_if_ne Γ (tgt := 35) dX4_isWord_4 (by decide) (fun c_1 => ?_) (fun c_1 => ?_)
  · rw [hbad] at c_1
    have c_1 := zb_n0.mp c_1
    have hw : (!bad && isWd b L p (byt i)) = false := by rw [c_1]; rfl
    refine x_iconst Γ (v := 0) dX4_isWord_35 rfl ?_
    refine x_istore_n Γ dX4_isWord_36 (by decide) ?_
    refine x_iconst Γ (v := 0) dX4_isWord_37 rfl ?_
    refine x_istore_n Γ dX4_isWord_38 (by decide) ?_
    refine x_iload_n Γ dX4_isWord_39 rfl ?_
    refine x_if_eq Γ (tgt := 82) dX4_isWord_40 (by decide) (fun c_2 => ?_) (fun c_2 => ?_)
    · refine x_iload_n Γ dX4_isWord_82 rfl ?_
      exact x_iret ρ rfl dX4_isWord_83 (by first | exact zb_nz _ | rfl) (by rw [hw]; try rfl) rfl (zH.rf)
    · exact absurd rfl c_2
  · rw [hbad] at c_1
    have hbf := zb_0.mp c_1
    refine x_aload_n Γ dX4_isWord_7 rfl ?_
    refine gf_X4_212 Γ dX4_isWord_8 (by decide) rfl rfl ?_
    refine x_iconst Γ (v := 1) dX4_isWord_11 rfl ?_
    refine x_icmp_ne Γ (tgt := 35) dX4_isWord_12 (by decide) (fun c_3 => ?_) (fun c_3 => ?_)
    · rw [hk.2.2.1] at c_3
      have hw : (!bad && isWd b L p (byt i)) = false := by rw [wd_1 (fun z => c_3 ((tm_e _ hk5).1.mpr z)), Bool.and_false]
      refine x_iconst Γ (v := 0) dX4_isWord_35 rfl ?_
      refine x_istore_n Γ dX4_isWord_36 (by decide) ?_
      refine x_iconst Γ (v := 0) dX4_isWord_37 rfl ?_
      refine x_istore_n Γ dX4_isWord_38 (by decide) ?_
      refine x_iload_n Γ dX4_isWord_39 rfl ?_
      refine x_if_eq Γ (tgt := 82) dX4_isWord_40 (by decide) (fun c_4 => ?_) (fun c_4 => ?_)
      · refine x_iload_n Γ dX4_isWord_82 rfl ?_
        exact x_iret ρ rfl dX4_isWord_83 (by first | exact zb_nz _ | rfl) (by rw [hw]; try rfl) rfl (zH.rf)
      · exact absurd rfl c_4
    · rw [hk.2.2.1] at c_3
      have h1 := (tm_e _ hk5).1.mp c_3
      refine x_aload_n Γ dX4_isWord_15 rfl ?_
      refine gf_X4_200 Γ dX4_isWord_16 (by decide) rfl rfl ?_
      refine x_aload_n Γ dX4_isWord_19 rfl ?_
      refine gf_X4_203 Γ dX4_isWord_20 (by decide) rfl rfl ?_
      refine x_isub Γ dX4_isWord_23 ?_
      refine x_aload_n Γ dX4_isWord_24 rfl ?_
      refine x_callVs Γ calv_J0_length_8abf5 wl_X4_219 dX4_isWord_25 (m_J0_length_8abf5 hi) rfl (by decide) hi rfl rfl (Nat.le_of_ble_eq_true rfl) (Nat.le_refl _) (Nat.le_refl _) ?_
      refine x_icmp_ne Γ (tgt := 35) dX4_isWord_28 (by decide) (fun c_5 => ?_) (fun c_5 => ?_)
      · rw [hk.1, hk.2.1] at c_5
        have hw : (!bad && isWd b L p (byt i)) = false := by rw [wd_2 (fun z => c_5 ((ln_eq hL hp hlen).mpr z)), Bool.and_false]
        refine x_iconst Γ (v := 0) dX4_isWord_35 rfl ?_
        refine x_istore_n Γ dX4_isWord_36 (by decide) ?_
        refine x_iconst Γ (v := 0) dX4_isWord_37 rfl ?_
        refine x_istore_n Γ dX4_isWord_38 (by decide) ?_
        refine x_iload_n Γ dX4_isWord_39 rfl ?_
        refine x_if_eq Γ (tgt := 82) dX4_isWord_40 (by decide) (fun c_6 => ?_) (fun c_6 => ?_)
        · refine x_iload_n Γ dX4_isWord_82 rfl ?_
          exact x_iret ρ rfl dX4_isWord_83 (by first | exact zb_nz _ | rfl) (by rw [hw]; try rfl) rfl (zH.rf)
        · exact absurd rfl c_6
      · rw [hk.1, hk.2.1] at c_5
        have h2 := (ln_eq hL hp hlen).mp c_5
        have hW : (!bad && isWd b L p (byt i)) = mtW b (tS b L p) (byt i) (byt i).length := by rw [hbf, wd_3 h1 h2]; rfl
        refine x_iconst Γ (v := 1) dX4_isWord_31 rfl ?_
        refine x_goto Γ (tgt := 36) dX4_isWord_32 (by decide) ?_
        refine x_istore_n Γ dX4_isWord_36 (by decide) ?_
        refine x_iconst Γ (v := 0) dX4_isWord_37 rfl ?_
        refine x_istore_n Γ dX4_isWord_38 (by decide) ?_
        suffices L_39 : ∀ (k c : Nat), c ≤ (byt i).length → (byt i).length - c < k → zX Wf V m 4 H0 39 (zls [(0, .ref 37), (1, .ref (1000 + i)), (2, .int (zb (mtW b (tS b L p) (byt i) c))), (3, .int (nI c))]) [] (hR g T R) 46 0 0 by
          exact x_subl [(0, .ref 37), (1, .ref (1000 + i)), (2, .int (zb (mtW b (tS b L p) (byt i) 0))), (3, .int (nI 0))] (List.forall_mem_cons.mpr ⟨rfl, List.forall_mem_cons.mpr ⟨rfl, List.forall_mem_cons.mpr ⟨rfl, List.forall_mem_cons.mpr ⟨rfl, fun _ hz => absurd hz List.not_mem_nil⟩⟩⟩⟩) (L_39 9 0 (by omega) (by omega))
        intro k
        induction k with
        | zero => intro c q1 q2; omega
        | succ k ih =>
          intro c q1 q2
          refine x_iload_n Γ dX4_isWord_39 rfl ?_
          refine x_if_eq Γ (tgt := 82) dX4_isWord_40 (by decide) (fun c_7 => ?_) (fun c_7 => ?_)
          · have hm := zb_0.mp c_7
            refine x_iload_n Γ dX4_isWord_82 rfl ?_
            exact x_iret ρ rfl dX4_isWord_83 (by first | exact zb_nz _ | rfl) (by rw [hW, mt_f hm _ (by omega), hm]) rfl (zH.rf)
          · have hm := zb_n0.mp c_7
            refine x_iload_n Γ dX4_isWord_43 rfl ?_
            refine x_aload_n Γ dX4_isWord_44 rfl ?_
            refine x_callVs Γ calv_J0_length_8abf5 wl_X4_219 dX4_isWord_45 (m_J0_length_8abf5 hi) rfl (by decide) hi rfl rfl (Nat.le_of_ble_eq_true rfl) (Nat.le_refl _) (Nat.le_refl _) ?_
            refine x_icmp_ge Γ (tgt := 82) dX4_isWord_48 (by decide) (fun c_8 => ?_) (fun c_8 => ?_)
            · have c_8 := z_le c_8 (by omega) (by omega)
              have hcl : c = (byt i).length := by omega
              refine x_iload_n Γ dX4_isWord_82 rfl ?_
              exact x_iret ρ rfl dX4_isWord_83 (by first | exact zb_nz _ | rfl) (by rw [hW, ← hcl]) rfl (zH.rf)
            · have c_8 := z_nle c_8 (by omega) (by omega)
              refine x_aload_n Γ dX4_isWord_51 rfl ?_
              refine gf_X4_22 Γ dX4_isWord_52 (by decide) rfl rfl ?_
              refine x_aload_n Γ dX4_isWord_55 rfl ?_
              refine gf_X4_203 Γ dX4_isWord_56 (by decide) rfl rfl ?_
              refine x_iload_n Γ dX4_isWord_59 rfl ?_
              refine x_iadd Γ dX4_isWord_60 ?_
              refine x_iald Γ dX4_isWord_61 (by decide) (by rfl) (show _ = nI ((tS b L p) + c) by rw [hk.1, nI_add]) (by omega) (by decide) rfl ?_
              refine x_aload_n Γ dX4_isWord_62 rfl ?_
              refine x_iload_n Γ dX4_isWord_63 rfl ?_
              refine x_callVs Γ calv_J0_charAt_5068e wl_X4_224 dX4_isWord_64 (m_J0_charAt_5068e hi (by omega)) rfl (by decide) hi rfl rfl (Nat.le_of_ble_eq_true rfl) (Nat.le_refl _) (Nat.le_refl _) ?_
              refine x_icmp_ne Γ (tgt := 74) dX4_isWord_67 (by decide) (fun c_9 => ?_) (fun c_9 => ?_)
              · rw [h3] at c_9
                have hm2 : zb (mtW b (tS b L p) (byt i) (c + 1)) = 0 := by rw [mtW, decide_eq_false c_9, Bool.and_false]; rfl
                refine x_iconst Γ (v := 0) dX4_isWord_74 rfl ?_
                refine x_istore_n Γ dX4_isWord_75 (by decide) ?_
                refine x_iinc Γ dX4_isWord_76 rfl (by first | exact zinc _ | rfl) (by decide) ?_
                refine x_goto Γ (tgt := 39) dX4_isWord_79 (by decide) ?_
                exact x_subl [(0, .ref 37), (1, .ref (1000 + i)), (2, .int (zb (mtW b (tS b L p) (byt i) (c + 1)))), (3, .int (nI (c + 1)))] (List.forall_mem_cons.mpr ⟨rfl, List.forall_mem_cons.mpr ⟨rfl, List.forall_mem_cons.mpr ⟨(zsi hm2.symm), List.forall_mem_cons.mpr ⟨rfl, fun _ hz => absurd hz List.not_mem_nil⟩⟩⟩⟩) (ih (c + 1) (by omega) (by omega))
              · rw [h3] at c_9
                have hm2 : zb (mtW b (tS b L p) (byt i) (c + 1)) = 1 := by rw [mtW, hm, decide_eq_true c_9]; rfl
                refine x_iconst Γ (v := 1) dX4_isWord_70 rfl ?_
                refine x_goto Γ (tgt := 75) dX4_isWord_71 (by decide) ?_
                refine x_istore_n Γ dX4_isWord_75 (by decide) ?_
                refine x_iinc Γ dX4_isWord_76 rfl (by first | exact zinc _ | rfl) (by decide) ?_
                refine x_goto Γ (tgt := 39) dX4_isWord_79 (by decide) ?_
                exact x_subl [(0, .ref 37), (1, .ref (1000 + i)), (2, .int (zb (mtW b (tS b L p) (byt i) (c + 1)))), (3, .int (nI (c + 1)))] (List.forall_mem_cons.mpr ⟨rfl, List.forall_mem_cons.mpr ⟨rfl, List.forall_mem_cons.mpr ⟨(zsi hm2.symm), List.forall_mem_cons.mpr ⟨rfl, fun _ hz => absurd hz List.not_mem_nil⟩⟩⟩⟩) (ih (c + 1) (by omega) (by omega))

set_option maxRecDepth 100000 in
set_option maxHeartbeats 4000000 in
theorem m_X4_takes {g : Nat → zE} {T R : zT} {b : Nat → Int32} {L p : Nat} {bad : Bool} (hL : L ≤ 120) (hp : p ≤ L) (h3 : R 3 = b) (eL : R 7 3 = nI L) (hk : tkR b L p R) (hbad : R 7 8 = zb bad) {i : Nat} (hi : i < 36) : zMx 7 M_X4_takes [.ref 37, .ref (1000 + i)] (hR g T R) 46 (some (.int (zb (!bad && isWd b L p (byt i))))) (mB g T R b L (if (!bad && isWd b L p (byt i)) = true then tE b L p else p) bad) := by
  refine zMx.intro (by decide) (Nat.le_of_ble_eq_true rfl) ?_
  intro Wf V m H0 Γ ρ
  replace Γ : zC Wf V m 2 H0 cX4_takes RX4 7 0 0 := Γ
  show zX Wf V m 2 H0 0 (zls [(0, .ref 37), (1, .ref (1000 + i))]) [] (hR g T R) 46 0 0
  have hel := tE_le (b := b) hp
  refine x_aload_n Γ dX4_takes_0 rfl ?_
  refine x_aload_n Γ dX4_takes_1 rfl ?_
  refine x_callV Γ calv_X4_isWord wl_X4_228 dX4_takes_2 (m_X4_isWord (g := g) (T := T) (R := R) hL (hp) (h3) (eL) (hk) (hbad) (i := i) hi) rfl (by decide) (by decide) rfl rfl rfl rfl (Nat.le_of_ble_eq_true rfl) (Nat.le_refl _) (Nat.le_refl _) ?_
  refine x_if_ne Γ (tgt := 10) dX4_takes_5 (by decide) (fun c_1 => ?_) (fun c_1 => ?_)
  · have c_1 := zb_n0.mp c_1
    refine x_aload_n Γ dX4_takes_10 rfl ?_
    refine x_callVxv Γ calv_X4_token wl_X4_232 dX4_takes_11 (m_tok (g := g) (T := T) (R := R) (p := tE b L p) hL hel h3 eL hk.2.1 hbad) rfl (by decide) (by decide) rfl rfl rfl rfl (Nat.le_of_ble_eq_true rfl) (Nat.le_refl _) (Nat.le_refl _) (fun h_x hQ_x => ?_)
    obtain ⟨Q, rfl, q1, q2, q3⟩ := hQ_x
    refine x_iconst Γ (v := 1) dX4_takes_14 rfl ?_
    exact x_iretx ρ rfl dX4_takes_15 (by first | exact zb_nz _ | rfl) (by rw [c_1]; try rfl) (⟨Q, rfl, q1, by rw [c_1]; exact q2, q3⟩)
  · have c_1 := zb_0.mp c_1
    refine x_iconst Γ (v := 0) dX4_takes_8 rfl ?_
    exact x_iretx ρ rfl dX4_takes_9 (by first | exact zb_nz _ | rfl) (by rw [c_1]; try rfl) (⟨R, rfl, rl_rf, by rw [c_1]; exact hk, hbad⟩)

set_option maxRecDepth 100000 in
set_option maxHeartbeats 4000000 in
theorem m_X4_isSign {g : Nat → zE} {T R : zT} {b : Nat → Int32} {L p : Nat} {bad : Bool} (hL : L ≤ 120) (hp : p ≤ L) (h3 : R 3 = b) (eL : R 7 3 = nI L) (hk : tkR b L p R) (hbad : R 7 8 = zb bad) : zM 0 M_X4_isSign [.ref 37, .int 59] (hR g T R) 46 (some (.int (zb (!bad && decide (tK b L p = 3))))) (hR g T R) 46 0 0 := by
  refine zM.intro (by decide) (Nat.le_of_ble_eq_true rfl) ?_
  intro Wf V m H0 Γ ρ
  replace Γ : zC Wf V m 2 H0 cX4_isSign RX4 0 0 0 := Γ
  show zX Wf V m 2 H0 0 (zls [(0, .ref 37), (1, .int 59)]) [] (hR g T R) 46 0 0
  have hk5 := tK_lt (b := b) (L := L) (p := p)
  have htb := tk_b (b := b) (L := L) (p := p)
  refine x_aload_n Γ dX4_isSign_0 rfl ?_
  refine gf_X4_215 Γ dX4_isSign_1 (by decide) rfl rfl ?_
  refine x_if_ne Γ (tgt := 32) dX4_isSign_4 (by decide) (fun c_1 => ?_) (fun c_1 => ?_)
  · rw [hbad] at c_1
    have c_1 := zb_n0.mp c_1
    have hw : (!bad && decide (tK b L p = 3)) = false := by rw [c_1]; rfl
    refine x_iconst Γ (v := 0) dX4_isSign_32 rfl ?_
    exact x_iret ρ rfl dX4_isSign_33 (by first | exact zb_nz _ | rfl) (by rw [hw]; try rfl) rfl (zH.rf)
  · rw [hbad] at c_1
    have hbf := zb_0.mp c_1
    refine x_aload_n Γ dX4_isSign_7 rfl ?_
    refine gf_X4_212 Γ dX4_isSign_8 (by decide) rfl rfl ?_
    refine x_iconst Γ (v := 3) dX4_isSign_11 rfl ?_
    refine x_icmp_ne Γ (tgt := 32) dX4_isSign_12 (by decide) (fun c_2 => ?_) (fun c_2 => ?_)
    · rw [hk.2.2.1] at c_2
      have hw : (!bad && decide (tK b L p = 3)) = false := by rw [decide_eq_false (fun z => c_2 ((tm_e _ hk5).2.2.2.mpr (Or.inl z))), Bool.and_false]
      refine x_iconst Γ (v := 0) dX4_isSign_32 rfl ?_
      exact x_iret ρ rfl dX4_isSign_33 (by first | exact zb_nz _ | rfl) (by rw [hw]; try rfl) rfl (zH.rf)
    · rw [hk.2.2.1] at c_2
      have h34 := (tm_e _ hk5).2.2.2.mp c_2
      have htL : tS b L p < L := h34.elim (fun z => (htb.1 z).1) (fun z => (htb.2 z).1)
      refine x_aload_n Γ dX4_isSign_15 rfl ?_
      refine gf_X4_22 Γ dX4_isSign_16 (by decide) rfl rfl ?_
      refine x_aload_n Γ dX4_isSign_19 rfl ?_
      refine gf_X4_203 Γ dX4_isSign_20 (by decide) rfl rfl ?_
      refine x_iald Γ dX4_isSign_23 (by decide) (by rfl) hk.1 (by omega) (by decide) rfl ?_
      refine x_iload_n Γ dX4_isSign_24 rfl ?_
      refine x_icmp_ne Γ (tgt := 32) dX4_isSign_25 (by decide) (fun c_3 => ?_) (fun c_3 => ?_)
      · rw [h3] at c_3
        have hw : (!bad && decide (tK b L p = 3)) = false := by rw [decide_eq_false (fun z => c_3 (htb.1 z).2), Bool.and_false]
        refine x_iconst Γ (v := 0) dX4_isSign_32 rfl ?_
        exact x_iret ρ rfl dX4_isSign_33 (by first | exact zb_nz _ | rfl) (by rw [hw]; try rfl) rfl (zH.rf)
      · rw [h3] at c_3
        have hw : (!bad && decide (tK b L p = 3)) = true := by rw [hbf, decide_eq_true (h34.elim id (fun z => absurd c_3 (htb.2 z).2))]; rfl
        refine x_iconst Γ (v := 1) dX4_isSign_28 rfl ?_
        refine x_goto Γ (tgt := 33) dX4_isSign_29 (by decide) ?_
        exact x_iret ρ rfl dX4_isSign_33 (by first | exact zb_nz _ | rfl) (by rw [hw]; try rfl) rfl (zH.rf)

set_option maxRecDepth 100000 in
set_option maxHeartbeats 4000000 in
theorem m_X4_number {g : Nat → zE} {T R : zT} {b : Nat → Int32} {L p : Nat} {bad : Bool} (hL : L ≤ 120) (hp : p ≤ L) (h3 : R 3 = b) (eL : R 7 3 = nI L) (hk : tkR b L p R) (hbad : R 7 8 = zb bad) (lo hi : Int32) : zMx 3 M_X4_number [.ref 37, .int lo, .int hi] (hR g T R) 46 (some (.int (R 7 7))) (mB g T R b L (if (!bad && decide (tK b L p = 2) && inR (R 7 7) lo hi) = true then tE b L p else p) (!(!bad && decide (tK b L p = 2) && inR (R 7 7) lo hi))) := by
  refine zMx.intro (by decide) (Nat.le_of_ble_eq_true rfl) ?_
  intro Wf V m H0 Γ ρ
  replace Γ : zC Wf V m 4 H0 cX4_number RX4 3 0 0 := Γ
  show zX Wf V m 4 H0 0 (zls [(0, .ref 37), (1, .int lo), (2, .int hi)]) [] (hR g T R) 46 0 0
  have hk5 := tK_lt (b := b) (L := L) (p := p)
  have hel := tE_le (b := b) hp
  refine x_aload_n Γ dX4_number_0 rfl ?_
  refine x_aload_n Γ dX4_number_1 rfl ?_
  refine gf_X4_215 Γ dX4_number_2 (by decide) rfl rfl ?_
  refine x_if_ne Γ (tgt := 31) dX4_number_5 (by decide) (fun c_1 => ?_) (fun c_1 => ?_)
  · rw [hbad] at c_1
    have c_1 := zb_n0.mp c_1
    have hw : (!bad && decide (tK b L p = 2) && inR (R 7 7) lo hi) = false := by rw [c_1]; rfl
    refine x_iconst Γ (v := 1) dX4_number_31 rfl ?_
    refine x_goto Γ (tgt := 36) dX4_number_32 (by decide) ?_
    refine pf_X4_215 Γ (hx := rfl) dX4_number_36 (by decide) rfl (Nat.le_of_ble_eq_true rfl) (hR_uO (k := 8) rfl) ?_
    refine x_aload_n Γ dX4_number_39 rfl ?_
    refine gf_X4_209 Γ dX4_number_40 (by decide) rfl rfl ?_
    refine x_istore_n Γ dX4_number_43 (by decide) ?_
    refine x_aload_n Γ dX4_number_44 rfl ?_
    refine gf_X4_215 Γ dX4_number_45 (by decide) rfl rfl ?_
    refine x_if_ne Γ (tgt := 55) dX4_number_48 (by decide) (fun c_2 => ?_) (fun c_2 => ?_)
    · refine x_iload_n Γ dX4_number_55 rfl ?_
      exact x_iretx ρ rfl dX4_number_56 rfl (zsi (ts_i (by decide)).symm) (⟨_, rfl, rl_ts (by omega) rl_rf, by rw [hw]; exact ⟨(ts_i (by decide)).trans hk.1, (ts_i (by decide)).trans hk.2.1, (ts_i (by decide)).trans hk.2.2.1, fun z => (ts_i (by decide)).trans (hk.2.2.2 z)⟩, by rw [hw]; exact ts_s⟩)
    · rw [ts_s] at c_2
      exact absurd c_2 (by decide)
  · rw [hbad] at c_1
    have hbf := zb_0.mp c_1
    refine x_aload_n Γ dX4_number_8 rfl ?_
    refine gf_X4_212 Γ dX4_number_9 (by decide) rfl rfl ?_
    refine x_iconst Γ (v := 2) dX4_number_12 rfl ?_
    refine x_icmp_ne Γ (tgt := 31) dX4_number_13 (by decide) (fun c_3 => ?_) (fun c_3 => ?_)
    · rw [hk.2.2.1] at c_3
      have hw : (!bad && decide (tK b L p = 2) && inR (R 7 7) lo hi) = false := by rw [decide_eq_false (fun z => c_3 ((tm_e _ hk5).2.1.mpr z)), Bool.and_false]; rfl
      refine x_iconst Γ (v := 1) dX4_number_31 rfl ?_
      refine x_goto Γ (tgt := 36) dX4_number_32 (by decide) ?_
      refine pf_X4_215 Γ (hx := rfl) dX4_number_36 (by decide) rfl (Nat.le_of_ble_eq_true rfl) (hR_uO (k := 8) rfl) ?_
      refine x_aload_n Γ dX4_number_39 rfl ?_
      refine gf_X4_209 Γ dX4_number_40 (by decide) rfl rfl ?_
      refine x_istore_n Γ dX4_number_43 (by decide) ?_
      refine x_aload_n Γ dX4_number_44 rfl ?_
      refine gf_X4_215 Γ dX4_number_45 (by decide) rfl rfl ?_
      refine x_if_ne Γ (tgt := 55) dX4_number_48 (by decide) (fun c_4 => ?_) (fun c_4 => ?_)
      · refine x_iload_n Γ dX4_number_55 rfl ?_
        exact x_iretx ρ rfl dX4_number_56 rfl (zsi (ts_i (by decide)).symm) (⟨_, rfl, rl_ts (by omega) rl_rf, by rw [hw]; exact ⟨(ts_i (by decide)).trans hk.1, (ts_i (by decide)).trans hk.2.1, (ts_i (by decide)).trans hk.2.2.1, fun z => (ts_i (by decide)).trans (hk.2.2.2 z)⟩, by rw [hw]; exact ts_s⟩)
      · rw [ts_s] at c_4
        exact absurd c_4 (by decide)
    · rw [hk.2.2.1] at c_3
      have h2 := (tm_e _ hk5).2.1.mp c_3
      refine x_aload_n Γ dX4_number_16 rfl ?_
      refine gf_X4_209 Γ dX4_number_17 (by decide) rfl rfl ?_
      refine x_i2l Γ dX4_number_20 ?_
      refine x_iload_n Γ dX4_number_21 rfl ?_
      refine x_i2l Γ dX4_number_22 ?_
      refine x_iload_n Γ dX4_number_23 rfl ?_
      refine x_i2l Γ dX4_number_24 ?_
      refine x_callS Γ cals_X4_in wl_X4_40 dX4_number_25 (m_in (R 7 7) lo hi lo.toInt64 hi.toInt64 (Int32.toInt_toInt64 _) (Int32.toInt_toInt64 _)) rfl (by decide) rfl (Nat.le_of_ble_eq_true rfl) (Nat.le_refl _) (Nat.le_refl _) ?_
      refine x_if_ne Γ (tgt := 35) dX4_number_28 (by decide) (fun c_5 => ?_) (fun c_5 => ?_)
      · have c_5 := zb_n0.mp c_5
        have hw : (!bad && decide (tK b L p = 2) && inR (R 7 7) lo hi) = true := by rw [hbf, decide_eq_true h2, c_5]; rfl
        refine x_iconst Γ (v := 0) dX4_number_35 rfl ?_
        refine pf_X4_215 Γ (hx := rfl) dX4_number_36 (by decide) rfl (Nat.le_of_ble_eq_true rfl) (hR_uO (k := 8) rfl) ?_
        refine x_aload_n Γ dX4_number_39 rfl ?_
        refine gf_X4_209 Γ dX4_number_40 (by decide) rfl rfl ?_
        refine x_istore_n Γ dX4_number_43 (by decide) ?_
        refine x_aload_n Γ dX4_number_44 rfl ?_
        refine gf_X4_215 Γ dX4_number_45 (by decide) rfl rfl ?_
        refine x_if_ne Γ (tgt := 55) dX4_number_48 (by decide) (fun c_6 => ?_) (fun c_6 => ?_)
        · rw [ts_s] at c_6
          exact absurd rfl c_6
        · refine x_aload_n Γ dX4_number_51 rfl ?_
          refine x_callVxv Γ calv_X4_token wl_X4_232 dX4_number_52 (m_tok (g := g) (T := T) (R := ts R 7 8 0) (p := tE b L p) (bad := false) hL hel ((ts_n (by decide)).trans h3) ((ts_i (by decide)).trans eL) ((ts_i (by decide)).trans hk.2.1) ts_s) rfl (by decide) (by decide) rfl rfl rfl rfl (Nat.le_of_ble_eq_true rfl) (Nat.le_refl _) (Nat.le_refl _) (fun h_x hQ_x => ?_)
          obtain ⟨Q, rfl, q1, q2, q3⟩ := hQ_x
          refine x_iload_n Γ dX4_number_55 rfl ?_
          exact x_iretx ρ rfl dX4_number_56 rfl (zsi (ts_i (by decide)).symm) (⟨Q, rfl, rl_tr (rl_ts (by omega) rl_rf) q1, by rw [hw]; exact q2, by rw [hw]; exact q3⟩)
      · have c_5 := zb_0.mp c_5
        have hw : (!bad && decide (tK b L p = 2) && inR (R 7 7) lo hi) = false := by rw [c_5, Bool.and_false]
        refine x_iconst Γ (v := 1) dX4_number_31 rfl ?_
        refine x_goto Γ (tgt := 36) dX4_number_32 (by decide) ?_
        refine pf_X4_215 Γ (hx := rfl) dX4_number_36 (by decide) rfl (Nat.le_of_ble_eq_true rfl) (hR_uO (k := 8) rfl) ?_
        refine x_aload_n Γ dX4_number_39 rfl ?_
        refine gf_X4_209 Γ dX4_number_40 (by decide) rfl rfl ?_
        refine x_istore_n Γ dX4_number_43 (by decide) ?_
        refine x_aload_n Γ dX4_number_44 rfl ?_
        refine gf_X4_215 Γ dX4_number_45 (by decide) rfl rfl ?_
        refine x_if_ne Γ (tgt := 55) dX4_number_48 (by decide) (fun c_7 => ?_) (fun c_7 => ?_)
        · refine x_iload_n Γ dX4_number_55 rfl ?_
          exact x_iretx ρ rfl dX4_number_56 rfl (zsi (ts_i (by decide)).symm) (⟨_, rfl, rl_ts (by omega) rl_rf, by rw [hw]; exact ⟨(ts_i (by decide)).trans hk.1, (ts_i (by decide)).trans hk.2.1, (ts_i (by decide)).trans hk.2.2.1, fun z => (ts_i (by decide)).trans (hk.2.2.2 z)⟩, by rw [hw]; exact ts_s⟩)
        · rw [ts_s] at c_7
          exact absurd c_7 (by decide)

set_option maxRecDepth 100000 in
set_option maxHeartbeats 4000000 in
theorem m_X4_kindHere {g : Nat → zE} {T R : zT} {b : Nat → Int32} {L p : Nat} (hL : L ≤ 120) (hp : p ≤ L) (h3 : R 3 = b) (eL : R 7 3 = nI L) (hk : tkR b L p R) (hbad : R 7 8 = zb false) : zM 7 M_X4_kindHere [.ref 37] (hR g T R) 46 (some (.int (kdF b L p 7 0))) (hR g T R) 46 0 0 := by
  refine zM.intro (by decide) (Nat.le_of_ble_eq_true rfl) ?_
  intro Wf V m H0 Γ ρ
  replace Γ : zC Wf V m 1 H0 cX4_kindHere RX4 7 0 0 := Γ
  show zX Wf V m 1 H0 0 (zls [(0, .ref 37)]) [] (hR g T R) 46 0 0
  refine x_aload_n Γ dX4_kindHere_0 rfl ?_
  refine x_lds Γ (i := 18) (by decide) rfl rfl dX4_kindHere_1 ?_
  refine x_callV Γ calv_X4_isWord wl_X4_228 dX4_kindHere_3 (m_X4_isWord (g := g) (T := T) (R := R) hL (hp) (h3) (eL) (hk) (hbad) (i := 18) (by decide)) rfl (by decide) (by decide) rfl rfl rfl rfl (Nat.le_of_ble_eq_true rfl) (Nat.le_refl _) (Nat.le_refl _) ?_
  rw [show (!false && isWd b L p (byt 18)) = isWd b L p (byt (kwI 0)) from rfl]
  refine x_if_eq Γ (tgt := 11) dX4_kindHere_6 (by decide) (fun c_1 => ?_) (fun c_1 => ?_)
  · have c_1 := zb_0.mp c_1
    have w0 := c_1
    refine x_aload_n Γ dX4_kindHere_11 rfl ?_
    refine x_lds Γ (i := 19) (by decide) rfl rfl dX4_kindHere_12 ?_
    refine x_callV Γ calv_X4_isWord wl_X4_228 dX4_kindHere_14 (m_X4_isWord (g := g) (T := T) (R := R) hL (hp) (h3) (eL) (hk) (hbad) (i := 19) (by decide)) rfl (by decide) (by decide) rfl rfl rfl rfl (Nat.le_of_ble_eq_true rfl) (Nat.le_refl _) (Nat.le_refl _) ?_
    rw [show (!false && isWd b L p (byt 19)) = isWd b L p (byt (kwI 1)) from rfl]
    refine x_if_eq Γ (tgt := 22) dX4_kindHere_17 (by decide) (fun c_2 => ?_) (fun c_2 => ?_)
    · have c_2 := zb_0.mp c_2
      have w1 := c_2
      refine x_aload_n Γ dX4_kindHere_22 rfl ?_
      refine x_lds Γ (i := 20) (by decide) rfl rfl dX4_kindHere_23 ?_
      refine x_callV Γ calv_X4_isWord wl_X4_228 dX4_kindHere_25 (m_X4_isWord (g := g) (T := T) (R := R) hL (hp) (h3) (eL) (hk) (hbad) (i := 20) (by decide)) rfl (by decide) (by decide) rfl rfl rfl rfl (Nat.le_of_ble_eq_true rfl) (Nat.le_refl _) (Nat.le_refl _) ?_
      rw [show (!false && isWd b L p (byt 20)) = isWd b L p (byt (kwI 2)) from rfl]
      refine x_if_eq Γ (tgt := 33) dX4_kindHere_28 (by decide) (fun c_3 => ?_) (fun c_3 => ?_)
      · have c_3 := zb_0.mp c_3
        have w2 := c_3
        refine x_aload_n Γ dX4_kindHere_33 rfl ?_
        refine x_lds Γ (i := 21) (by decide) rfl rfl dX4_kindHere_34 ?_
        refine x_callV Γ calv_X4_isWord wl_X4_228 dX4_kindHere_36 (m_X4_isWord (g := g) (T := T) (R := R) hL (hp) (h3) (eL) (hk) (hbad) (i := 21) (by decide)) rfl (by decide) (by decide) rfl rfl rfl rfl (Nat.le_of_ble_eq_true rfl) (Nat.le_refl _) (Nat.le_refl _) ?_
        rw [show (!false && isWd b L p (byt 21)) = isWd b L p (byt (kwI 3)) from rfl]
        refine x_if_eq Γ (tgt := 44) dX4_kindHere_39 (by decide) (fun c_4 => ?_) (fun c_4 => ?_)
        · have c_4 := zb_0.mp c_4
          have w3 := c_4
          refine x_aload_n Γ dX4_kindHere_44 rfl ?_
          refine x_lds Γ (i := 22) (by decide) rfl rfl dX4_kindHere_45 ?_
          refine x_callV Γ calv_X4_isWord wl_X4_228 dX4_kindHere_47 (m_X4_isWord (g := g) (T := T) (R := R) hL (hp) (h3) (eL) (hk) (hbad) (i := 22) (by decide)) rfl (by decide) (by decide) rfl rfl rfl rfl (Nat.le_of_ble_eq_true rfl) (Nat.le_refl _) (Nat.le_refl _) ?_
          rw [show (!false && isWd b L p (byt 22)) = isWd b L p (byt (kwI 4)) from rfl]
          refine x_if_eq Γ (tgt := 55) dX4_kindHere_50 (by decide) (fun c_5 => ?_) (fun c_5 => ?_)
          · have c_5 := zb_0.mp c_5
            have w4 := c_5
            refine x_aload_n Γ dX4_kindHere_55 rfl ?_
            refine x_lds Γ (i := 23) (by decide) rfl rfl dX4_kindHere_56 ?_
            refine x_callV Γ calv_X4_isWord wl_X4_228 dX4_kindHere_58 (m_X4_isWord (g := g) (T := T) (R := R) hL (hp) (h3) (eL) (hk) (hbad) (i := 23) (by decide)) rfl (by decide) (by decide) rfl rfl rfl rfl (Nat.le_of_ble_eq_true rfl) (Nat.le_refl _) (Nat.le_refl _) ?_
            rw [show (!false && isWd b L p (byt 23)) = isWd b L p (byt (kwI 5)) from rfl]
            refine x_if_eq Γ (tgt := 68) dX4_kindHere_61 (by decide) (fun c_6 => ?_) (fun c_6 => ?_)
            · have c_6 := zb_0.mp c_6
              have w5 := c_6
              refine x_aload_n Γ dX4_kindHere_68 rfl ?_
              refine x_lds Γ (i := 24) (by decide) rfl rfl dX4_kindHere_69 ?_
              refine x_callV Γ calv_X4_isWord wl_X4_228 dX4_kindHere_71 (m_X4_isWord (g := g) (T := T) (R := R) hL (hp) (h3) (eL) (hk) (hbad) (i := 24) (by decide)) rfl (by decide) (by decide) rfl rfl rfl rfl (Nat.le_of_ble_eq_true rfl) (Nat.le_refl _) (Nat.le_refl _) ?_
              rw [show (!false && isWd b L p (byt 24)) = isWd b L p (byt (kwI 6)) from rfl]
              refine x_if_eq Γ (tgt := 82) dX4_kindHere_74 (by decide) (fun c_7 => ?_) (fun c_7 => ?_)
              · have c_7 := zb_0.mp c_7
                have w6 := c_7
                have hr : kdF b L p 7 0 = -1 := (kd_f w0).trans ((kd_f w1).trans ((kd_f w2).trans ((kd_f w3).trans ((kd_f w4).trans ((kd_f w5).trans (kd_f c_7))))))
                refine x_iconst Γ (v := -1) dX4_kindHere_82 rfl ?_
                exact x_iret ρ rfl dX4_kindHere_83 rfl (by rw [hr]; try rfl) rfl (zH.rf)
              · have c_7 := zb_n0.mp c_7
                have hr : kdF b L p 7 0 = nI 6 := (kd_f w0).trans ((kd_f w1).trans ((kd_f w2).trans ((kd_f w3).trans ((kd_f w4).trans ((kd_f w5).trans (kd_t c_7))))))
                refine x_bipush Γ (v := 6) dX4_kindHere_77 rfl ?_
                refine x_goto Γ (tgt := 83) dX4_kindHere_79 (by decide) ?_
                exact x_iret ρ rfl dX4_kindHere_83 rfl (by rw [hr]; try rfl) rfl (zH.rf)
            · have c_6 := zb_n0.mp c_6
              have hr : kdF b L p 7 0 = nI 5 := (kd_f w0).trans ((kd_f w1).trans ((kd_f w2).trans ((kd_f w3).trans ((kd_f w4).trans (kd_t c_6)))))
              refine x_iconst Γ (v := 5) dX4_kindHere_64 rfl ?_
              refine x_goto Γ (tgt := 83) dX4_kindHere_65 (by decide) ?_
              exact x_iret ρ rfl dX4_kindHere_83 rfl (by rw [hr]; try rfl) rfl (zH.rf)
          · have c_5 := zb_n0.mp c_5
            have hr : kdF b L p 7 0 = nI 4 := (kd_f w0).trans ((kd_f w1).trans ((kd_f w2).trans ((kd_f w3).trans (kd_t c_5))))
            refine x_iconst Γ (v := 4) dX4_kindHere_53 rfl ?_
            exact x_iret ρ rfl dX4_kindHere_54 rfl (by rw [hr]; try rfl) rfl (zH.rf)
        · have c_4 := zb_n0.mp c_4
          have hr : kdF b L p 7 0 = nI 3 := (kd_f w0).trans ((kd_f w1).trans ((kd_f w2).trans (kd_t c_4)))
          refine x_iconst Γ (v := 3) dX4_kindHere_42 rfl ?_
          exact x_iret ρ rfl dX4_kindHere_43 rfl (by rw [hr]; try rfl) rfl (zH.rf)
      · have c_3 := zb_n0.mp c_3
        have hr : kdF b L p 7 0 = nI 2 := (kd_f w0).trans ((kd_f w1).trans (kd_t c_3))
        refine x_iconst Γ (v := 2) dX4_kindHere_31 rfl ?_
        exact x_iret ρ rfl dX4_kindHere_32 rfl (by rw [hr]; try rfl) rfl (zH.rf)
    · have c_2 := zb_n0.mp c_2
      have hr : kdF b L p 7 0 = nI 1 := (kd_f w0).trans (kd_t c_2)
      refine x_iconst Γ (v := 1) dX4_kindHere_20 rfl ?_
      exact x_iret ρ rfl dX4_kindHere_21 rfl (by rw [hr]; try rfl) rfl (zH.rf)
  · have c_1 := zb_n0.mp c_1
    have hr : kdF b L p 7 0 = nI 0 := kd_t c_1
    refine x_iconst Γ (v := 0) dX4_kindHere_9 rfl ?_
    exact x_iret ρ rfl dX4_kindHere_10 rfl (by rw [hr]; try rfl) rfl (zH.rf)

set_option maxRecDepth 100000 in
set_option maxHeartbeats 4000000 in
theorem m_X4_ruleHere {g : Nat → zE} {T R : zT} {b : Nat → Int32} {L p : Nat} (hL : L ≤ 120) (hp : p ≤ L) (h3 : R 3 = b) (eL : R 7 3 = nI L) (hk : tkR b L p R) (hbad : R 7 8 = zb false) : zM 7 M_X4_ruleHere [.ref 37] (hR g T R) 46 (some (.int (rhF b L p))) (hR g T R) 46 0 0 := by
  refine zM.intro (by decide) (Nat.le_of_ble_eq_true rfl) ?_
  intro Wf V m H0 Γ ρ
  replace Γ : zC Wf V m 1 H0 cX4_ruleHere RX4 7 0 0 := Γ
  show zX Wf V m 1 H0 0 (zls [(0, .ref 37)]) [] (hR g T R) 46 0 0
  refine x_aload_n Γ dX4_ruleHere_0 rfl ?_
  refine x_ldsw Γ (i := 32) (by decide) rfl rfl dX4_ruleHere_1 ?_
  refine x_callV Γ calv_X4_isWord wl_X4_228 dX4_ruleHere_4 (m_X4_isWord (g := g) (T := T) (R := R) hL (hp) (h3) (eL) (hk) (hbad) (i := 32) (by decide)) rfl (by decide) (by decide) rfl rfl rfl rfl (Nat.le_of_ble_eq_true rfl) (Nat.le_refl _) (Nat.le_refl _) ?_
  rw [show (!false && isWd b L p (byt 32)) = isWd b L p (byt 12) from rfl]
  refine x_if_eq Γ (tgt := 12) dX4_ruleHere_7 (by decide) (fun c_1 => ?_) (fun c_1 => ?_)
  · have c_1 := zb_0.mp c_1
    have w0 := c_1
    refine x_aload_n Γ dX4_ruleHere_12 rfl ?_
    refine x_ldsw Γ (i := 33) (by decide) rfl rfl dX4_ruleHere_13 ?_
    refine x_callV Γ calv_X4_isWord wl_X4_228 dX4_ruleHere_16 (m_X4_isWord (g := g) (T := T) (R := R) hL (hp) (h3) (eL) (hk) (hbad) (i := 33) (by decide)) rfl (by decide) (by decide) rfl rfl rfl rfl (Nat.le_of_ble_eq_true rfl) (Nat.le_refl _) (Nat.le_refl _) ?_
    rw [show (!false && isWd b L p (byt 33)) = isWd b L p (byt 13) from rfl]
    refine x_if_eq Γ (tgt := 24) dX4_ruleHere_19 (by decide) (fun c_2 => ?_) (fun c_2 => ?_)
    · have c_2 := zb_0.mp c_2
      have w1 := c_2
      refine x_aload_n Γ dX4_ruleHere_24 rfl ?_
      refine x_ldsw Γ (i := 34) (by decide) rfl rfl dX4_ruleHere_25 ?_
      refine x_callV Γ calv_X4_isWord wl_X4_228 dX4_ruleHere_28 (m_X4_isWord (g := g) (T := T) (R := R) hL (hp) (h3) (eL) (hk) (hbad) (i := 34) (by decide)) rfl (by decide) (by decide) rfl rfl rfl rfl (Nat.le_of_ble_eq_true rfl) (Nat.le_refl _) (Nat.le_refl _) ?_
      rw [show (!false && isWd b L p (byt 34)) = isWd b L p (byt 14) from rfl]
      refine x_if_eq Γ (tgt := 38) dX4_ruleHere_31 (by decide) (fun c_3 => ?_) (fun c_3 => ?_)
      · have c_3 := zb_0.mp c_3
        have w2 := c_3
        refine x_aload_n Γ dX4_ruleHere_38 rfl ?_
        refine x_ldsw Γ (i := 35) (by decide) rfl rfl dX4_ruleHere_39 ?_
        refine x_callV Γ calv_X4_isWord wl_X4_228 dX4_ruleHere_42 (m_X4_isWord (g := g) (T := T) (R := R) hL (hp) (h3) (eL) (hk) (hbad) (i := 35) (by decide)) rfl (by decide) (by decide) rfl rfl rfl rfl (Nat.le_of_ble_eq_true rfl) (Nat.le_refl _) (Nat.le_refl _) ?_
        rw [show (!false && isWd b L p (byt 35)) = isWd b L p (byt 15) from rfl]
        refine x_if_eq Γ (tgt := 52) dX4_ruleHere_45 (by decide) (fun c_4 => ?_) (fun c_4 => ?_)
        · have c_4 := zb_0.mp c_4
          have w3 := c_4
          have hr : rhF b L p = -1 := (if_neg (by rw [w0]; decide)).trans ((if_neg (by rw [w1]; decide)).trans ((if_neg (by rw [w2]; decide)).trans (if_neg (by rw [c_4]; decide))))
          refine x_iconst Γ (v := -1) dX4_ruleHere_52 rfl ?_
          exact x_iret ρ rfl dX4_ruleHere_53 rfl (by rw [hr]; try rfl) rfl (zH.rf)
        · have c_4 := zb_n0.mp c_4
          have hr : rhF b L p = 3 := (if_neg (by rw [w0]; decide)).trans ((if_neg (by rw [w1]; decide)).trans ((if_neg (by rw [w2]; decide)).trans (if_pos c_4)))
          refine x_iconst Γ (v := 3) dX4_ruleHere_48 rfl ?_
          refine x_goto Γ (tgt := 53) dX4_ruleHere_49 (by decide) ?_
          exact x_iret ρ rfl dX4_ruleHere_53 rfl (by rw [hr]; try rfl) rfl (zH.rf)
      · have c_3 := zb_n0.mp c_3
        have hr : rhF b L p = 2 := (if_neg (by rw [w0]; decide)).trans ((if_neg (by rw [w1]; decide)).trans (if_pos c_3))
        refine x_iconst Γ (v := 2) dX4_ruleHere_34 rfl ?_
        refine x_goto Γ (tgt := 53) dX4_ruleHere_35 (by decide) ?_
        exact x_iret ρ rfl dX4_ruleHere_53 rfl (by rw [hr]; try rfl) rfl (zH.rf)
    · have c_2 := zb_n0.mp c_2
      have hr : rhF b L p = 1 := (if_neg (by rw [w0]; decide)).trans (if_pos c_2)
      refine x_iconst Γ (v := 1) dX4_ruleHere_22 rfl ?_
      exact x_iret ρ rfl dX4_ruleHere_23 rfl (by rw [hr]; try rfl) rfl (zH.rf)
  · have c_1 := zb_n0.mp c_1
    have hr : rhF b L p = 0 := if_pos c_1
    refine x_iconst Γ (v := 0) dX4_ruleHere_10 rfl ?_
    exact x_iret ρ rfl dX4_ruleHere_11 rfl (by rw [hr]; try rfl) rfl (zH.rf)
