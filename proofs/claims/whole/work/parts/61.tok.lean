-- TOKENS OF A TEXT over bytes b, so many of them L
def isLet (x : Int32) : Bool := inR x 97 122
def isDig (x : Int32) : Bool := inR x 48 57
def isBlk (x : Int32) : Bool := inR x 32 32
def skP (P : Int32 → Bool) (b : Nat → Int32) (L : Nat) : Nat → Nat → Nat
  | 0, p => p
  | k + 1, p => if p < L ∧ P (b p) = true then skP P b L k (p + 1) else p
def sk (P : Int32 → Bool) (b : Nat → Int32) (L p : Nat) : Nat := skP P b L (L - p) p
theorem sk_a {P : Int32 → Bool} {b : Nat → Int32} {L p : Nat} (h : p < L) (h2 : P (b p) = true) : sk P b L p = sk P b L (p + 1) := by
  unfold sk
  rw [show L - p = L - (p + 1) + 1 by omega, skP, if_pos ⟨h, h2⟩]
theorem sk_b {P : Int32 → Bool} {b : Nat → Int32} {L p : Nat} (h : ¬ (p < L ∧ P (b p) = true)) : sk P b L p = p := by
  unfold sk
  cases L - p with
  | zero => rfl
  | succ k => rw [skP, if_neg h]
theorem sk_in {P : Int32 → Bool} {b : Nat → Int32} {L : Nat} : ∀ k p, L - p ≤ k → p ≤ sk P b L p ∧ (p ≤ L → sk P b L p ≤ L) := by
  intro k
  induction k with
  | zero =>
    intro p h
    rw [sk_b (fun z => by omega)]
    exact ⟨Nat.le_refl _, fun z => z⟩
  | succ k ih =>
    intro p h
    by_cases hp : p < L ∧ P (b p) = true
    · rw [sk_a hp.1 hp.2]
      have := ih (p + 1) (by omega)
      exact ⟨by omega, fun _ => this.2 (by omega)⟩
    · rw [sk_b hp]
      exact ⟨Nat.le_refl _, fun z => z⟩
theorem sk_ge {P : Int32 → Bool} {b : Nat → Int32} {L p : Nat} : p ≤ sk P b L p := (sk_in (L - p) p (Nat.le_refl _)).1
theorem sk_le {P : Int32 → Bool} {b : Nat → Int32} {L p : Nat} (h : p ≤ L) : sk P b L p ≤ L := (sk_in (L - p) p (Nat.le_refl _)).2 h
def tS (b : Nat → Int32) (L p : Nat) : Nat := sk isBlk b L p
def tK (b : Nat → Int32) (L p : Nat) : Nat := if tS b L p < L then (if isLet (b (tS b L p)) = true then 1 else if isDig (b (tS b L p)) = true then 2 else if b (tS b L p) = 59 then 3 else 4) else 0
def tE (b : Nat → Int32) (L p : Nat) : Nat := if tS b L p < L then (if isLet (b (tS b L p)) = true then sk isLet b L (tS b L p) else if isDig (b (tS b L p)) = true then sk isDig b L (tS b L p) else tS b L p + 1) else tS b L p
def nvC (b : Nat → Int32) (s : Nat) : Nat → Int32
  | 0 => 0
  | k + 1 => if 10 * nvC b s k + b (s + k) - 48 < 10000 then 10 * nvC b s k + b (s + k) - 48 else 10000
def nvR (b : Nat → Int32) (s : Nat) : Nat → Int32
  | 0 => 0
  | k + 1 => if 9999 < nvR b s k then nvR b s k else 10 * nvR b s k + b (s + k) - 48
def tC (b : Nat → Int32) (L p : Nat) : Int32 := nvC b (tS b L p) (sk isDig b L (tS b L p) - tS b L p)
def tV (b : Nat → Int32) (L p : Nat) : Int32 := nvR b (tS b L p) (sk isDig b L (tS b L p) - tS b L p)
theorem tS_ge {b : Nat → Int32} {L p : Nat} : p ≤ tS b L p := sk_ge
theorem tS_le {b : Nat → Int32} {L p : Nat} (h : p ≤ L) : tS b L p ≤ L := sk_le h
theorem tE_ge {b : Nat → Int32} {L p : Nat} : tS b L p ≤ tE b L p := by
  unfold tE
  repeat' split
  · exact sk_ge
  · exact sk_ge
  · exact Nat.le_succ _
  · exact Nat.le_refl _
theorem tE_le {b : Nat → Int32} {L p : Nat} (h : p ≤ L) : tE b L p ≤ L := by
  have := tS_le (b := b) h
  unfold tE
  repeat' split
  · exact sk_le this
  · exact sk_le this
  · omega
  · exact this
theorem tE_gt {b : Nat → Int32} {L p : Nat} (h : tK b L p ≠ 0) : tS b L p < tE b L p := by
  unfold tK at h
  unfold tE
  by_cases hs : tS b L p < L
  · rw [if_pos hs] at h ⊢
    by_cases h1 : isLet (b (tS b L p)) = true
    · rw [if_pos h1, sk_a hs h1]
      exact sk_ge
    · rw [if_neg h1]
      by_cases h2 : isDig (b (tS b L p)) = true
      · rw [if_pos h2, sk_a hs h2]
        exact sk_ge
      · rw [if_neg h2]
        exact Nat.lt_succ_self _
  · rw [if_neg hs] at h
    exact absurd rfl h
theorem tK_lt {b : Nat → Int32} {L p : Nat} : tK b L p < 5 := by
  unfold tK
  repeat' split
  all_goals omega
/-- the reader's numbers behind a token -/
def tkX (b : Nat → Int32) (L p : Nat) (X : Nat → Int32) : Prop := X 0 = nI (tS b L p) ∧ X 1 = nI (tE b L p) ∧ X 2 = nI (tK b L p) ∧ (tK b L p = 2 → X 3 = tC b L p)
def bQ (g : Nat → zE) (T T2 T3 R : zT) (L p : Nat) (h : Nat → zE) : Prop := ∃ X : Nat → Int32, h = cW g T T2 T3 R X ∧ tkX (R 3) L p X
section ZV
variable {Wf : zW} {V : zG} {m : MethodId} {nL : Nat} {H0 : Heap} {cc : ByteArray} {own : String} {lv Rc Rs : Nat} {pc : Nat} {f : Nat → Option Value} {st : List Value} {h : Nat → zE} {n k sl : Nat}
theorem x_callVxv (Γ : zC Wf V m nL H0 cc own lv Rc Rs) {M : zY} {na d i b ci : Nat} {As fs st0 : List Value} {P : (Nat → zE) → Prop} {q : vw_C} (cal : zCalV M na) (wl : Cond.methodLink own i M.1 ∈ zw) (hd : decode cc pc = .ok (.invokevirtual i, 3)) (hM : zMx d M (.ref b :: As) h n none P) (hna : As.length = na) (hlv2 : d + 1 ≤ lv)
    (hq : b < n) (he : h b = zO ci fs) (hC : vwCl[ci]? = some q) (hCn : q.1 = M.1.cls) (hst : st0 = As.reverse ++ .ref b :: st) (hroom : (st.map fun v => v.category).sum ≤ 8) (hk : k ≤ Rc) (hs : sl ≤ Rs) (kk : ∀ h' : Nat → zE, P h' → zX Wf V m nL H0 (pc + 3) f st h' n k sl) : zX Wf V m nL H0 pc f st0 h n k sl := x_callVxr Γ cal wl hd hM hna hlv2 hq he hC hCn hst hroom hk hs kk
end ZV

theorem blk_32 {x : Int32} (h : isBlk x = true) : x = 32 := by
  unfold isBlk at h
  simp only [inR, Bool.and_eq_true, Bool.not_eq_true', decide_eq_false_iff_not] at h
  exact Int32.le_antisymm (Int32.not_lt.mp h.2) (Int32.not_lt.mp h.1)

set_option maxRecDepth 100000 in
set_option maxHeartbeats 4000000 in
theorem m_X2_isLetter {h : Nat → zE} (x : Int32) : zM 0 M_X2_isLetter [.int x] (h) 46 (some (.int (zb (isLet x)))) (h) 46 0 0 := by
  refine zM.intro (by decide) (Nat.le_of_ble_eq_true rfl) ?_
  intro Wf V m H0 Γ ρ
  replace Γ : zC Wf V m 1 H0 cX2_isLetter RX2 0 0 0 := Γ
  show zX Wf V m 1 H0 0 (zls [(0, .int x)]) [] (h) 46 0 0
  refine x_iload_n Γ dX2_isLetter_0 rfl ?_
  refine x_bipush Γ (v := 97) dX2_isLetter_1 rfl ?_
  refine x_icmp_lt Γ (tgt := 16) dX2_isLetter_3 (by decide) (fun c_1 => ?_) (fun c_1 => ?_)
  · refine x_iconst Γ (v := 0) dX2_isLetter_16 rfl ?_
    exact x_iret ρ rfl dX2_isLetter_17 (by first | exact zb_nz _ | rfl) (by simp only [isLet, inR]; first | (rw [decide_eq_true (by assumption)]; rfl) | (rw [decide_eq_false (by assumption), decide_eq_true (by assumption)]; rfl) | (rw [decide_eq_false (by assumption), decide_eq_false (by assumption)]; rfl)) rfl (zH.rf)
  · refine x_iload_n Γ dX2_isLetter_6 rfl ?_
    refine x_bipush Γ (v := 122) dX2_isLetter_7 rfl ?_
    refine x_icmp_gt Γ (tgt := 16) dX2_isLetter_9 (by decide) (fun c_2 => ?_) (fun c_2 => ?_)
    · refine x_iconst Γ (v := 0) dX2_isLetter_16 rfl ?_
      exact x_iret ρ rfl dX2_isLetter_17 (by first | exact zb_nz _ | rfl) (by simp only [isLet, inR]; first | (rw [decide_eq_true (by assumption)]; rfl) | (rw [decide_eq_false (by assumption), decide_eq_true (by assumption)]; rfl) | (rw [decide_eq_false (by assumption), decide_eq_false (by assumption)]; rfl)) rfl (zH.rf)
    · refine x_iconst Γ (v := 1) dX2_isLetter_12 rfl ?_
      refine x_goto Γ (tgt := 17) dX2_isLetter_13 (by decide) ?_
      exact x_iret ρ rfl dX2_isLetter_17 (by first | exact zb_nz _ | rfl) (by simp only [isLet, inR]; first | (rw [decide_eq_true (by assumption)]; rfl) | (rw [decide_eq_false (by assumption), decide_eq_true (by assumption)]; rfl) | (rw [decide_eq_false (by assumption), decide_eq_false (by assumption)]; rfl)) rfl (zH.rf)

set_option maxRecDepth 100000 in
set_option maxHeartbeats 4000000 in
theorem m_X2_isDigit {h : Nat → zE} (x : Int32) : zM 0 M_X2_isDigit [.int x] (h) 46 (some (.int (zb (isDig x)))) (h) 46 0 0 := by
  refine zM.intro (by decide) (Nat.le_of_ble_eq_true rfl) ?_
  intro Wf V m H0 Γ ρ
  replace Γ : zC Wf V m 1 H0 cX2_isDigit RX2 0 0 0 := Γ
  show zX Wf V m 1 H0 0 (zls [(0, .int x)]) [] (h) 46 0 0
  refine x_iload_n Γ dX2_isDigit_0 rfl ?_
  refine x_bipush Γ (v := 48) dX2_isDigit_1 rfl ?_
  refine x_icmp_lt Γ (tgt := 16) dX2_isDigit_3 (by decide) (fun c_1 => ?_) (fun c_1 => ?_)
  · refine x_iconst Γ (v := 0) dX2_isDigit_16 rfl ?_
    exact x_iret ρ rfl dX2_isDigit_17 (by first | exact zb_nz _ | rfl) (by simp only [isDig, inR]; first | (rw [decide_eq_true (by assumption)]; rfl) | (rw [decide_eq_false (by assumption), decide_eq_true (by assumption)]; rfl) | (rw [decide_eq_false (by assumption), decide_eq_false (by assumption)]; rfl)) rfl (zH.rf)
  · refine x_iload_n Γ dX2_isDigit_6 rfl ?_
    refine x_bipush Γ (v := 57) dX2_isDigit_7 rfl ?_
    refine x_icmp_gt Γ (tgt := 16) dX2_isDigit_9 (by decide) (fun c_2 => ?_) (fun c_2 => ?_)
    · refine x_iconst Γ (v := 0) dX2_isDigit_16 rfl ?_
      exact x_iret ρ rfl dX2_isDigit_17 (by first | exact zb_nz _ | rfl) (by simp only [isDig, inR]; first | (rw [decide_eq_true (by assumption)]; rfl) | (rw [decide_eq_false (by assumption), decide_eq_true (by assumption)]; rfl) | (rw [decide_eq_false (by assumption), decide_eq_false (by assumption)]; rfl)) rfl (zH.rf)
    · refine x_iconst Γ (v := 1) dX2_isDigit_12 rfl ?_
      refine x_goto Γ (tgt := 17) dX2_isDigit_13 (by decide) ?_
      exact x_iret ρ rfl dX2_isDigit_17 (by first | exact zb_nz _ | rfl) (by simp only [isDig, inR]; first | (rw [decide_eq_true (by assumption)]; rfl) | (rw [decide_eq_false (by assumption), decide_eq_true (by assumption)]; rfl) | (rw [decide_eq_false (by assumption), decide_eq_false (by assumption)]; rfl)) rfl (zH.rf)

set_option maxRecDepth 100000 in
set_option maxHeartbeats 4000000 in
theorem m_X2_readWord {g : Nat → zE} {T T2 T3 R : zT} {X : Nat → Int32} {L : Nat} (hL : L ≤ 120) (eL : R 7 3 = nI L) {e : Nat} (he : e ≤ L) (e1 : X 1 = nI e) : zMx 1 M_X2_readWord [.ref 25] (cW g T T2 T3 R X) 46 (none) (fun h_ => ∃ Y : Nat → Int32, h_ = cW g T T2 T3 R Y ∧ Y 0 = X 0 ∧ Y 1 = nI (sk isLet (R 3) L e) ∧ Y 2 = 1) := by
  refine zMx.intro (by decide) (Nat.le_of_ble_eq_true rfl) ?_
  intro Wf V m H0 Γ ρ
  replace Γ : zC Wf V m 1 H0 cX2_readWord RX2 1 0 0 := Γ
  show zX Wf V m 1 H0 0 (zls [(0, .ref 25)]) [] (cW g T T2 T3 R X) 46 0 0
  refine x_aload_n Γ dX2_readWord_0 rfl ?_
  refine x_iconst Γ (v := 1) dX2_readWord_1 rfl ?_
  refine pf_X2_25 Γ dX2_readWord_2 (by decide) (by rfl) (Nat.le_of_ble_eq_true rfl) cW_x2 ?_
  suffices L_5 : ∀ (k q : Nat) (Y : Nat → Int32), q ≤ L → L - q < k → Y 0 = X 0 → Y 1 = nI q → Y 2 = 1 → sk isLet (R 3) L q = sk isLet (R 3) L e → zX Wf V m 1 H0 5 (zls [(0, .ref 25)]) [] (cW g T T2 T3 R Y) 46 0 0 by
    exact x_subl [(0, .ref 25)] (List.forall_mem_cons.mpr ⟨rfl, fun _ hz => absurd hz List.not_mem_nil⟩) (L_5 (L + 1) e _ he (by omega) (upd_n (by decide)) ((upd_n (by decide)).trans e1) upd_s rfl)
  intro k
  induction k with
  | zero => intro q Y q1 q2; omega
  | succ k ih =>
    intro q Y q1 q2 y0 y1 y2 y3
    refine x_aload_n Γ dX2_readWord_5 rfl ?_
    refine gf_X2_22 Γ dX2_readWord_6 (by decide) (by rfl) rfl ?_
    refine x_aload_n Γ dX2_readWord_9 rfl ?_
    refine gf_X2_15 Γ dX2_readWord_10 (by decide) (by rfl) rfl ?_
    refine x_icmp_ge Γ (tgt := 44) dX2_readWord_13 (by decide) (fun c_1 => ?_) (fun c_1 => ?_)
    · rw [y1, eL] at c_1
      have c_1 := z_le c_1 (by omega) (by omega)
      have hq := sk_b (P := isLet) (b := R 3) (L := L) (p := q) (fun z => absurd z.1 (by omega))
      exact x_vretx ρ dX2_readWord_44 (⟨Y, rfl, y0, by rw [← y3, hq]; exact y1, y2⟩)
    · rw [y1, eL] at c_1
      have c_1 := z_nle c_1 (by omega) (by omega)
      refine x_aload_n Γ dX2_readWord_16 rfl ?_
      refine gf_X2_9 Γ dX2_readWord_17 (by decide) (by rfl) rfl ?_
      refine x_aload_n Γ dX2_readWord_20 rfl ?_
      refine gf_X2_22 Γ dX2_readWord_21 (by decide) (by rfl) rfl ?_
      refine x_iald Γ dX2_readWord_24 (by decide) (by rfl) y1 (by omega) (by decide) rfl ?_
      refine x_callS Γ cals_X2_isLetter wl_X2_31 dX2_readWord_25 (m_X2_isLetter (R 3 q)) rfl (by decide) rfl (Nat.le_of_ble_eq_true rfl) (Nat.le_refl _) (Nat.le_refl _) ?_
      refine x_if_eq Γ (tgt := 44) dX2_readWord_28 (by decide) (fun c_2 => ?_) (fun c_2 => ?_)
      · have c_2 := zb_0.mp c_2
        have hq := sk_b (P := isLet) (b := R 3) (L := L) (p := q) (fun z => by rw [c_2] at z; cases z.2)
        exact x_vretx ρ dX2_readWord_44 (⟨Y, rfl, y0, by rw [← y3, hq]; exact y1, y2⟩)
      · have c_2 := zb_n0.mp c_2
        have hq := sk_a (P := isLet) (b := R 3) (L := L) (p := q) (by omega) c_2
        refine x_aload_n Γ dX2_readWord_31 rfl ?_
        refine x_dup Γ dX2_readWord_32 rfl ?_
        refine gf_X2_22 Γ dX2_readWord_33 (by decide) (by rfl) rfl ?_
        refine x_iconst Γ (v := 1) dX2_readWord_36 rfl ?_
        refine x_iadd Γ dX2_readWord_37 ?_
        refine pf_X2_22 Γ dX2_readWord_38 (by decide) (by rfl) (Nat.le_of_ble_eq_true rfl) cW_x1 ?_
        refine x_goto Γ (tgt := 5) dX2_readWord_41 (by decide) ?_
        exact x_subl [(0, .ref 25)] (List.forall_mem_cons.mpr ⟨rfl, fun _ hz => absurd hz List.not_mem_nil⟩) (ih (q + 1) _ (by omega) (by omega) ((upd_n (by decide)).trans y0) (upd_s.trans (by rw [y1, nI_1])) ((upd_n (by decide)).trans y2) (hq.symm.trans y3))

set_option maxRecDepth 100000 in
set_option maxHeartbeats 4000000 in
theorem m_X2_readNumber {g : Nat → zE} {T T2 T3 R : zT} {X : Nat → Int32} {L : Nat} (hL : L ≤ 120) (eL : R 7 3 = nI L) {e : Nat} (he : e ≤ L) (e1 : X 1 = nI e) : zMx 1 M_X2_readNumber [.ref 25] (cW g T T2 T3 R X) 46 (none) (fun h_ => ∃ Y : Nat → Int32, h_ = cW g T T2 T3 R Y ∧ Y 0 = X 0 ∧ Y 1 = nI (sk isDig (R 3) L e) ∧ Y 2 = 2 ∧ Y 3 = nvC (R 3) e (sk isDig (R 3) L e - e)) := by
  refine zMx.intro (by decide) (Nat.le_of_ble_eq_true rfl) ?_
  intro Wf V m H0 Γ ρ
  replace Γ : zC Wf V m 1 H0 cX2_readNumber RX2 1 0 0 := Γ
  show zX Wf V m 1 H0 0 (zls [(0, .ref 25)]) [] (cW g T T2 T3 R X) 46 0 0
  refine x_aload_n Γ dX2_readNumber_0 rfl ?_
  refine x_iconst Γ (v := 2) dX2_readNumber_1 rfl ?_
  refine pf_X2_25 Γ dX2_readNumber_2 (by decide) (by rfl) (Nat.le_of_ble_eq_true rfl) cW_x2 ?_
  refine x_aload_n Γ dX2_readNumber_5 rfl ?_
  refine x_iconst Γ (v := 0) dX2_readNumber_6 rfl ?_
  refine pf_X2_28 Γ dX2_readNumber_7 (by decide) (by rfl) (Nat.le_of_ble_eq_true rfl) cW_x3 ?_
  suffices L_10 : ∀ (k c : Nat) (Y : Nat → Int32), e + c ≤ L → L - (e + c) < k → Y 0 = X 0 → Y 1 = nI (e + c) → Y 2 = 2 → sk isDig (R 3) L (e + c) = sk isDig (R 3) L e → Y 3 = nvC (R 3) e c → zX Wf V m 1 H0 10 (zls [(0, .ref 25)]) [] (cW g T T2 T3 R Y) 46 0 0 by
    exact x_subl [(0, .ref 25)] (List.forall_mem_cons.mpr ⟨rfl, fun _ hz => absurd hz List.not_mem_nil⟩) (L_10 (L + 1) 0 _ he (by omega) ((upd_n (by decide)).trans (upd_n (by decide))) (((upd_n (by decide)).trans (upd_n (by decide))).trans e1) ((upd_n (by decide)).trans upd_s) rfl upd_s)
  intro k
  induction k with
  | zero => intro c Y q1 q2; omega
  | succ k ih =>
    intro c Y q1 q2 y0 y1 y2 y3 y4
    refine x_aload_n Γ dX2_readNumber_10 rfl ?_
    refine gf_X2_22 Γ dX2_readNumber_11 (by decide) (by rfl) rfl ?_
    refine x_aload_n Γ dX2_readNumber_14 rfl ?_
    refine gf_X2_15 Γ dX2_readNumber_15 (by decide) (by rfl) rfl ?_
    refine x_icmp_ge Γ (tgt := 79) dX2_readNumber_18 (by decide) (fun c_1 => ?_) (fun c_1 => ?_)
    · rw [y1, eL] at c_1
      have c_1 := z_le c_1 (by omega) (by omega)
      have hq := sk_b (P := isDig) (b := R 3) (L := L) (p := e + c) (fun z => absurd z.1 (by omega))
      exact x_vretx ρ dX2_readNumber_79 (⟨Y, rfl, y0, by rw [← y3, hq]; exact y1, y2, by rw [← y3, hq, show e + c - e = c by omega]; exact y4⟩)
    · rw [y1, eL] at c_1
      have c_1 := z_nle c_1 (by omega) (by omega)
      refine x_aload_n Γ dX2_readNumber_21 rfl ?_
      refine gf_X2_9 Γ dX2_readNumber_22 (by decide) (by rfl) rfl ?_
      refine x_aload_n Γ dX2_readNumber_25 rfl ?_
      refine gf_X2_22 Γ dX2_readNumber_26 (by decide) (by rfl) rfl ?_
      refine x_iald Γ dX2_readNumber_29 (by decide) (by rfl) y1 (by omega) (by decide) rfl ?_
      refine x_callS Γ cals_X2_isDigit wl_X2_38 dX2_readNumber_30 (m_X2_isDigit (R 3 (e + c))) rfl (by decide) rfl (Nat.le_of_ble_eq_true rfl) (Nat.le_refl _) (Nat.le_refl _) ?_
      refine x_if_eq Γ (tgt := 79) dX2_readNumber_33 (by decide) (fun c_2 => ?_) (fun c_2 => ?_)
      · have c_2 := zb_0.mp c_2
        have hq := sk_b (P := isDig) (b := R 3) (L := L) (p := e + c) (fun z => by rw [c_2] at z; cases z.2)
        exact x_vretx ρ dX2_readNumber_79 (⟨Y, rfl, y0, by rw [← y3, hq]; exact y1, y2, by rw [← y3, hq, show e + c - e = c by omega]; exact y4⟩)
      · have c_2 := zb_n0.mp c_2
        have hq := sk_a (P := isDig) (b := R 3) (L := L) (p := e + c) (by omega) c_2
        refine x_aload_n Γ dX2_readNumber_36 rfl ?_
        refine x_sipush Γ (v := 10000) dX2_readNumber_37 rfl ?_
        refine x_bipush Γ (v := 10) dX2_readNumber_40 rfl ?_
        refine x_aload_n Γ dX2_readNumber_42 rfl ?_
        refine gf_X2_28 Γ dX2_readNumber_43 (by decide) (by rfl) rfl ?_
        refine x_imul Γ dX2_readNumber_46 ?_
        refine x_aload_n Γ dX2_readNumber_47 rfl ?_
        refine gf_X2_9 Γ dX2_readNumber_48 (by decide) (by rfl) rfl ?_
        refine x_aload_n Γ dX2_readNumber_51 rfl ?_
        refine gf_X2_22 Γ dX2_readNumber_52 (by decide) (by rfl) rfl ?_
        refine x_iald Γ dX2_readNumber_55 (by decide) (by rfl) y1 (by omega) (by decide) rfl ?_
        refine x_iadd Γ dX2_readNumber_56 ?_
        refine x_bipush Γ (v := 48) dX2_readNumber_57 rfl ?_
        refine x_isub Γ dX2_readNumber_59 ?_
        refine x_mmin Γ (by decide) wl_X2_44 dX2_readNumber_60 (Nat.le_of_ble_eq_true rfl) (Nat.le_refl _) (Nat.le_refl _) ?_
        refine pf_X2_28 Γ dX2_readNumber_63 (by decide) (by rfl) (Nat.le_of_ble_eq_true rfl) cW_x3 ?_
        refine x_aload_n Γ dX2_readNumber_66 rfl ?_
        refine x_dup Γ dX2_readNumber_67 rfl ?_
        refine gf_X2_22 Γ dX2_readNumber_68 (by decide) (by rfl) rfl ?_
        refine x_iconst Γ (v := 1) dX2_readNumber_71 rfl ?_
        refine x_iadd Γ dX2_readNumber_72 ?_
        refine pf_X2_22 Γ dX2_readNumber_73 (by decide) (by rfl) (Nat.le_of_ble_eq_true rfl) cW_x1 ?_
        refine x_goto Γ (tgt := 10) dX2_readNumber_76 (by decide) ?_
        exact x_subl [(0, .ref 25)] (List.forall_mem_cons.mpr ⟨rfl, fun _ hz => absurd hz List.not_mem_nil⟩) (ih (c + 1) _ (by omega) (by omega) (((upd_n (by decide)).trans (upd_n (by decide))).trans y0) (upd_s.trans (by rw [upd_n (by decide), y1, nI_1]; rfl)) (((upd_n (by decide)).trans (upd_n (by decide))).trans y2) (hq.symm.trans y3) ((upd_n (by decide)).trans (upd_s.trans (by rw [y4, nvC]))))

set_option maxRecDepth 100000 in
set_option maxHeartbeats 4000000 in
theorem m_X2_advance {g : Nat → zE} {T T2 T3 R : zT} {X : Nat → Int32} {L : Nat} (hL : L ≤ 120) (eL : R 7 3 = nI L) {p : Nat} (hp : p ≤ L) (e1 : X 1 = nI p) : zMx 2 M_X2_advance [.ref 25] (cW g T T2 T3 R X) 46 (none) (bQ g T T2 T3 R L p) := by
  refine zMx.intro (by decide) (Nat.le_of_ble_eq_true rfl) ?_
  intro Wf V m H0 Γ ρ
  replace Γ : zC Wf V m 1 H0 cX2_advance RX2 2 0 0 := Γ
  show zX Wf V m 1 H0 0 (zls [(0, .ref 25)]) [] (cW g T T2 T3 R X) 46 0 0
  have hsl := tS_le (b := R 3) hp
  refine x_aload_n Γ dX2_advance_0 rfl ?_
  refine x_aload_n Γ dX2_advance_1 rfl ?_
  refine gf_X2_22 Γ dX2_advance_2 (by decide) (by rfl) rfl ?_
  refine pf_X2_19 Γ dX2_advance_5 (by decide) (by rfl) (Nat.le_of_ble_eq_true rfl) cW_x0 ?_
  suffices L_8 : ∀ (k q : Nat) (Y : Nat → Int32), q ≤ L → L - q < k → Y 0 = nI q → sk isBlk (R 3) L q = tS (R 3) L p → zX Wf V m 1 H0 8 (zls [(0, .ref 25)]) [] (cW g T T2 T3 R Y) 46 0 0 by
    exact x_subl [(0, .ref 25)] (List.forall_mem_cons.mpr ⟨rfl, fun _ hz => absurd hz List.not_mem_nil⟩) (L_8 (L + 1) p _ hp (by omega) (upd_s.trans e1) rfl)
  intro k
  induction k with
  | zero => intro q Y q1 q2; omega
  | succ k ih =>
    intro q Y q1 q2 y0 y3
    refine x_aload_n Γ dX2_advance_8 rfl ?_
    refine gf_X2_19 Γ dX2_advance_9 (by decide) (by rfl) rfl ?_
    refine x_aload_n Γ dX2_advance_12 rfl ?_
    refine gf_X2_15 Γ dX2_advance_13 (by decide) (by rfl) rfl ?_
    refine x_icmp_ge Γ (tgt := 46) dX2_advance_16 (by decide) (fun c_1 => ?_) (fun c_1 => ?_)
    · rw [y0, eL] at c_1
      have c_1 := z_le c_1 (by omega) (by omega)
      have hq := (sk_b (P := isBlk) (b := R 3) (L := L) (p := q) (fun z => absurd z.1 (by omega))).symm.trans y3
      subst hq
      refine x_aload_n Γ dX2_advance_46 rfl ?_
      refine x_aload_n Γ dX2_advance_47 rfl ?_
      refine gf_X2_19 Γ dX2_advance_48 (by decide) (by rfl) rfl ?_
      refine pf_X2_22 Γ dX2_advance_51 (by decide) (by rfl) (Nat.le_of_ble_eq_true rfl) cW_x1 ?_
      refine x_aload_n Γ dX2_advance_54 rfl ?_
      refine gf_X2_19 Γ dX2_advance_55 (by decide) (by rfl) rfl ?_
      refine x_aload_n Γ dX2_advance_58 rfl ?_
      refine gf_X2_15 Γ dX2_advance_59 (by decide) (by rfl) rfl ?_
      refine x_icmp_lt Γ (tgt := 73) dX2_advance_62 (by decide) (fun c_2 => ?_) (fun c_2 => ?_)
      · rw [show upd Y 1 (Y 0) 0 = nI (tS (R 3) L p) from (upd_n (by decide)).trans y0, eL] at c_2
        have htL := z_lt c_2 (by omega) (by omega)
        refine x_aload_n Γ dX2_advance_73 rfl ?_
        refine gf_X2_9 Γ dX2_advance_74 (by decide) (by rfl) rfl ?_
        refine x_aload_n Γ dX2_advance_77 rfl ?_
        refine gf_X2_19 Γ dX2_advance_78 (by decide) (by rfl) rfl ?_
        refine x_iald Γ dX2_advance_81 (by decide) (by rfl) ((upd_n (by decide)).trans y0) (by omega) (by decide) rfl ?_
        refine x_callS Γ cals_X2_isLetter wl_X2_31 dX2_advance_82 (m_X2_isLetter (R 3 (tS (R 3) L p))) rfl (by decide) rfl (Nat.le_of_ble_eq_true rfl) (Nat.le_refl _) (Nat.le_refl _) ?_
        refine x_if_eq Γ (tgt := 95) dX2_advance_85 (by decide) (fun c_3 => ?_) (fun c_3 => ?_)
        · have c_3 := zb_0.mp c_3
          have hlf : ¬ isLet (R 3 (tS (R 3) L p)) = true := fun z => by rw [c_3] at z; cases z
          refine x_aload_n Γ dX2_advance_95 rfl ?_
          refine gf_X2_9 Γ dX2_advance_96 (by decide) (by rfl) rfl ?_
          refine x_aload_n Γ dX2_advance_99 rfl ?_
          refine gf_X2_19 Γ dX2_advance_100 (by decide) (by rfl) rfl ?_
          refine x_iald Γ dX2_advance_103 (by decide) (by rfl) ((upd_n (by decide)).trans y0) (by omega) (by decide) rfl ?_
          refine x_callS Γ cals_X2_isDigit wl_X2_38 dX2_advance_104 (m_X2_isDigit (R 3 (tS (R 3) L p))) rfl (by decide) rfl (Nat.le_of_ble_eq_true rfl) (Nat.le_refl _) (Nat.le_refl _) ?_
          refine x_if_eq Γ (tgt := 117) dX2_advance_107 (by decide) (fun c_4 => ?_) (fun c_4 => ?_)
          · have c_4 := zb_0.mp c_4
            have hdf : ¬ isDig (R 3 (tS (R 3) L p)) = true := fun z => by rw [c_4] at z; cases z
            refine x_aload_n Γ dX2_advance_117 rfl ?_
            refine x_aload_n Γ dX2_advance_118 rfl ?_
            refine gf_X2_9 Γ dX2_advance_119 (by decide) (by rfl) rfl ?_
            refine x_aload_n Γ dX2_advance_122 rfl ?_
            refine gf_X2_19 Γ dX2_advance_123 (by decide) (by rfl) rfl ?_
            refine x_iald Γ dX2_advance_126 (by decide) (by rfl) ((upd_n (by decide)).trans y0) (by omega) (by decide) rfl ?_
            refine x_bipush Γ (v := 59) dX2_advance_127 rfl ?_
            refine x_icmp_ne Γ (tgt := 136) dX2_advance_129 (by decide) (fun c_5 => ?_) (fun c_5 => ?_)
            · have h59 := c_5
              refine x_iconst Γ (v := 4) dX2_advance_136 rfl ?_
              refine pf_X2_25 Γ dX2_advance_137 (by decide) (by rfl) (Nat.le_of_ble_eq_true rfl) cW_x2 ?_
              refine x_aload_n Γ dX2_advance_140 rfl ?_
              refine x_aload_n Γ dX2_advance_141 rfl ?_
              refine gf_X2_19 Γ dX2_advance_142 (by decide) (by rfl) rfl ?_
              refine x_iconst Γ (v := 1) dX2_advance_145 rfl ?_
              refine x_iadd Γ dX2_advance_146 ?_
              refine pf_X2_22 Γ dX2_advance_147 (by decide) (by rfl) (Nat.le_of_ble_eq_true rfl) cW_x1 ?_
              exact x_vretx ρ dX2_advance_150 (⟨_, rfl, by rw [upd_n (by decide), upd_n (by decide), upd_n (by decide)]; exact y0, by rw [upd_s, upd_n (by decide), upd_n (by decide), y0, nI_1, tE, if_pos htL, if_neg hlf, if_neg hdf], by rw [upd_n (by decide), upd_s, tK, if_pos htL, if_neg hlf, if_neg hdf]; first | (rw [if_pos h59]; rfl) | (rw [if_neg h59]; rfl), fun w => by rw [tK, if_pos htL, if_neg hlf, if_neg hdf] at w; split at w <;> omega⟩)
            · have h59 := c_5
              refine x_iconst Γ (v := 3) dX2_advance_132 rfl ?_
              refine x_goto Γ (tgt := 137) dX2_advance_133 (by decide) ?_
              refine pf_X2_25 Γ dX2_advance_137 (by decide) (by rfl) (Nat.le_of_ble_eq_true rfl) cW_x2 ?_
              refine x_aload_n Γ dX2_advance_140 rfl ?_
              refine x_aload_n Γ dX2_advance_141 rfl ?_
              refine gf_X2_19 Γ dX2_advance_142 (by decide) (by rfl) rfl ?_
              refine x_iconst Γ (v := 1) dX2_advance_145 rfl ?_
              refine x_iadd Γ dX2_advance_146 ?_
              refine pf_X2_22 Γ dX2_advance_147 (by decide) (by rfl) (Nat.le_of_ble_eq_true rfl) cW_x1 ?_
              exact x_vretx ρ dX2_advance_150 (⟨_, rfl, by rw [upd_n (by decide), upd_n (by decide), upd_n (by decide)]; exact y0, by rw [upd_s, upd_n (by decide), upd_n (by decide), y0, nI_1, tE, if_pos htL, if_neg hlf, if_neg hdf], by rw [upd_n (by decide), upd_s, tK, if_pos htL, if_neg hlf, if_neg hdf]; first | (rw [if_pos h59]; rfl) | (rw [if_neg h59]; rfl), fun w => by rw [tK, if_pos htL, if_neg hlf, if_neg hdf] at w; split at w <;> omega⟩)
          · have c_4 := zb_n0.mp c_4
            have hdt := c_4
            refine x_aload_n Γ dX2_advance_110 rfl ?_
            refine x_callVxv Γ calv_X2_readNumber wl_X2_41 dX2_advance_111 (m_X2_readNumber (g := g) (T := T) (T2 := T2) (T3 := T3) (R := R) hL eL (e := tS (R 3) L p) hsl (upd_s.trans y0)) rfl (by decide) (by decide) (by rfl) rfl rfl rfl (Nat.le_of_ble_eq_true rfl) (Nat.le_refl _) (Nat.le_refl _) (fun h_x hQ_x => ?_)
            obtain ⟨Z, rfl, z0, z1, z2, z3⟩ := hQ_x
            rw [upd_n (by decide), y0] at z0
            refine x_goto Γ (tgt := 150) dX2_advance_114 (by decide) ?_
            exact x_vretx ρ dX2_advance_150 (⟨Z, rfl, z0, by rw [z1, tE, if_pos htL, if_neg hlf, if_pos hdt], by rw [z2, tK, if_pos htL, if_neg hlf, if_pos hdt]; rfl, fun w => z3⟩)
        · have c_3 := zb_n0.mp c_3
          have hlt := c_3
          refine x_aload_n Γ dX2_advance_88 rfl ?_
          refine x_callVxv Γ calv_X2_readWord wl_X2_35 dX2_advance_89 (m_X2_readWord (g := g) (T := T) (T2 := T2) (T3 := T3) (R := R) hL eL (e := tS (R 3) L p) hsl (upd_s.trans y0)) rfl (by decide) (by decide) (by rfl) rfl rfl rfl (Nat.le_of_ble_eq_true rfl) (Nat.le_refl _) (Nat.le_refl _) (fun h_x hQ_x => ?_)
          obtain ⟨Z, rfl, z0, z1, z2⟩ := hQ_x
          rw [upd_n (by decide), y0] at z0
          refine x_goto Γ (tgt := 150) dX2_advance_92 (by decide) ?_
          exact x_vretx ρ dX2_advance_150 (⟨Z, rfl, z0, by rw [z1, tE, if_pos htL, if_pos hlt], by rw [z2, tK, if_pos htL, if_pos hlt]; rfl, fun w => by rw [tK, if_pos htL, if_pos hlt] at w; omega⟩)
      · rw [show upd Y 1 (Y 0) 0 = nI (tS (R 3) L p) from (upd_n (by decide)).trans y0, eL] at c_2
        have htL := z_nlt c_2 (by omega) (by omega)
        refine x_aload_n Γ dX2_advance_65 rfl ?_
        refine x_iconst Γ (v := 0) dX2_advance_66 rfl ?_
        refine pf_X2_25 Γ dX2_advance_67 (by decide) (by rfl) (Nat.le_of_ble_eq_true rfl) cW_x2 ?_
        refine x_goto Γ (tgt := 150) dX2_advance_70 (by decide) ?_
        exact x_vretx ρ dX2_advance_150 (⟨_, rfl, by rw [upd_n (by decide), upd_n (by decide)]; exact y0, by rw [upd_n (by decide), upd_s, tE, if_neg (by omega)]; exact y0, by rw [upd_s, tK, if_neg (by omega)]; rfl, fun w => by rw [tK, if_neg (by omega)] at w; omega⟩)
    · rw [y0, eL] at c_1
      have hqL := z_nle c_1 (by omega) (by omega)
      refine x_aload_n Γ dX2_advance_19 rfl ?_
      refine gf_X2_9 Γ dX2_advance_20 (by decide) (by rfl) rfl ?_
      refine x_aload_n Γ dX2_advance_23 rfl ?_
      refine gf_X2_19 Γ dX2_advance_24 (by decide) (by rfl) rfl ?_
      refine x_iald Γ dX2_advance_27 (by decide) (by rfl) y0 (by omega) (by decide) rfl ?_
      refine x_bipush Γ (v := 32) dX2_advance_28 rfl ?_
      refine x_icmp_ne Γ (tgt := 46) dX2_advance_30 (by decide) (fun c_6 => ?_) (fun c_6 => ?_)
      · have hq := (sk_b (P := isBlk) (b := R 3) (L := L) (p := q) (fun z => c_6 (blk_32 z.2))).symm.trans y3
        subst hq
        refine x_aload_n Γ dX2_advance_46 rfl ?_
        refine x_aload_n Γ dX2_advance_47 rfl ?_
        refine gf_X2_19 Γ dX2_advance_48 (by decide) (by rfl) rfl ?_
        refine pf_X2_22 Γ dX2_advance_51 (by decide) (by rfl) (Nat.le_of_ble_eq_true rfl) cW_x1 ?_
        refine x_aload_n Γ dX2_advance_54 rfl ?_
        refine gf_X2_19 Γ dX2_advance_55 (by decide) (by rfl) rfl ?_
        refine x_aload_n Γ dX2_advance_58 rfl ?_
        refine gf_X2_15 Γ dX2_advance_59 (by decide) (by rfl) rfl ?_
        refine x_icmp_lt Γ (tgt := 73) dX2_advance_62 (by decide) (fun c_7 => ?_) (fun c_7 => ?_)
        · rw [show upd Y 1 (Y 0) 0 = nI (tS (R 3) L p) from (upd_n (by decide)).trans y0, eL] at c_7
          have htL := z_lt c_7 (by omega) (by omega)
          refine x_aload_n Γ dX2_advance_73 rfl ?_
          refine gf_X2_9 Γ dX2_advance_74 (by decide) (by rfl) rfl ?_
          refine x_aload_n Γ dX2_advance_77 rfl ?_
          refine gf_X2_19 Γ dX2_advance_78 (by decide) (by rfl) rfl ?_
          refine x_iald Γ dX2_advance_81 (by decide) (by rfl) ((upd_n (by decide)).trans y0) (by omega) (by decide) rfl ?_
          refine x_callS Γ cals_X2_isLetter wl_X2_31 dX2_advance_82 (m_X2_isLetter (R 3 (tS (R 3) L p))) rfl (by decide) rfl (Nat.le_of_ble_eq_true rfl) (Nat.le_refl _) (Nat.le_refl _) ?_
          refine x_if_eq Γ (tgt := 95) dX2_advance_85 (by decide) (fun c_8 => ?_) (fun c_8 => ?_)
          · have c_8 := zb_0.mp c_8
            have hlf : ¬ isLet (R 3 (tS (R 3) L p)) = true := fun z => by rw [c_8] at z; cases z
            refine x_aload_n Γ dX2_advance_95 rfl ?_
            refine gf_X2_9 Γ dX2_advance_96 (by decide) (by rfl) rfl ?_
            refine x_aload_n Γ dX2_advance_99 rfl ?_
            refine gf_X2_19 Γ dX2_advance_100 (by decide) (by rfl) rfl ?_
            refine x_iald Γ dX2_advance_103 (by decide) (by rfl) ((upd_n (by decide)).trans y0) (by omega) (by decide) rfl ?_
            refine x_callS Γ cals_X2_isDigit wl_X2_38 dX2_advance_104 (m_X2_isDigit (R 3 (tS (R 3) L p))) rfl (by decide) rfl (Nat.le_of_ble_eq_true rfl) (Nat.le_refl _) (Nat.le_refl _) ?_
            refine x_if_eq Γ (tgt := 117) dX2_advance_107 (by decide) (fun c_9 => ?_) (fun c_9 => ?_)
            · have c_9 := zb_0.mp c_9
              have hdf : ¬ isDig (R 3 (tS (R 3) L p)) = true := fun z => by rw [c_9] at z; cases z
              refine x_aload_n Γ dX2_advance_117 rfl ?_
              refine x_aload_n Γ dX2_advance_118 rfl ?_
              refine gf_X2_9 Γ dX2_advance_119 (by decide) (by rfl) rfl ?_
              refine x_aload_n Γ dX2_advance_122 rfl ?_
              refine gf_X2_19 Γ dX2_advance_123 (by decide) (by rfl) rfl ?_
              refine x_iald Γ dX2_advance_126 (by decide) (by rfl) ((upd_n (by decide)).trans y0) (by omega) (by decide) rfl ?_
              refine x_bipush Γ (v := 59) dX2_advance_127 rfl ?_
              refine x_icmp_ne Γ (tgt := 136) dX2_advance_129 (by decide) (fun c_10 => ?_) (fun c_10 => ?_)
              · have h59 := c_10
                refine x_iconst Γ (v := 4) dX2_advance_136 rfl ?_
                refine pf_X2_25 Γ dX2_advance_137 (by decide) (by rfl) (Nat.le_of_ble_eq_true rfl) cW_x2 ?_
                refine x_aload_n Γ dX2_advance_140 rfl ?_
                refine x_aload_n Γ dX2_advance_141 rfl ?_
                refine gf_X2_19 Γ dX2_advance_142 (by decide) (by rfl) rfl ?_
                refine x_iconst Γ (v := 1) dX2_advance_145 rfl ?_
                refine x_iadd Γ dX2_advance_146 ?_
                refine pf_X2_22 Γ dX2_advance_147 (by decide) (by rfl) (Nat.le_of_ble_eq_true rfl) cW_x1 ?_
                exact x_vretx ρ dX2_advance_150 (⟨_, rfl, by rw [upd_n (by decide), upd_n (by decide), upd_n (by decide)]; exact y0, by rw [upd_s, upd_n (by decide), upd_n (by decide), y0, nI_1, tE, if_pos htL, if_neg hlf, if_neg hdf], by rw [upd_n (by decide), upd_s, tK, if_pos htL, if_neg hlf, if_neg hdf]; first | (rw [if_pos h59]; rfl) | (rw [if_neg h59]; rfl), fun w => by rw [tK, if_pos htL, if_neg hlf, if_neg hdf] at w; split at w <;> omega⟩)
              · have h59 := c_10
                refine x_iconst Γ (v := 3) dX2_advance_132 rfl ?_
                refine x_goto Γ (tgt := 137) dX2_advance_133 (by decide) ?_
                refine pf_X2_25 Γ dX2_advance_137 (by decide) (by rfl) (Nat.le_of_ble_eq_true rfl) cW_x2 ?_
                refine x_aload_n Γ dX2_advance_140 rfl ?_
                refine x_aload_n Γ dX2_advance_141 rfl ?_
                refine gf_X2_19 Γ dX2_advance_142 (by decide) (by rfl) rfl ?_
                refine x_iconst Γ (v := 1) dX2_advance_145 rfl ?_
                refine x_iadd Γ dX2_advance_146 ?_
                refine pf_X2_22 Γ dX2_advance_147 (by decide) (by rfl) (Nat.le_of_ble_eq_true rfl) cW_x1 ?_
                exact x_vretx ρ dX2_advance_150 (⟨_, rfl, by rw [upd_n (by decide), upd_n (by decide), upd_n (by decide)]; exact y0, by rw [upd_s, upd_n (by decide), upd_n (by decide), y0, nI_1, tE, if_pos htL, if_neg hlf, if_neg hdf], by rw [upd_n (by decide), upd_s, tK, if_pos htL, if_neg hlf, if_neg hdf]; first | (rw [if_pos h59]; rfl) | (rw [if_neg h59]; rfl), fun w => by rw [tK, if_pos htL, if_neg hlf, if_neg hdf] at w; split at w <;> omega⟩)
            · have c_9 := zb_n0.mp c_9
              have hdt := c_9
              refine x_aload_n Γ dX2_advance_110 rfl ?_
              refine x_callVxv Γ calv_X2_readNumber wl_X2_41 dX2_advance_111 (m_X2_readNumber (g := g) (T := T) (T2 := T2) (T3 := T3) (R := R) hL eL (e := tS (R 3) L p) hsl (upd_s.trans y0)) rfl (by decide) (by decide) (by rfl) rfl rfl rfl (Nat.le_of_ble_eq_true rfl) (Nat.le_refl _) (Nat.le_refl _) (fun h_x hQ_x => ?_)
              obtain ⟨Z, rfl, z0, z1, z2, z3⟩ := hQ_x
              rw [upd_n (by decide), y0] at z0
              refine x_goto Γ (tgt := 150) dX2_advance_114 (by decide) ?_
              exact x_vretx ρ dX2_advance_150 (⟨Z, rfl, z0, by rw [z1, tE, if_pos htL, if_neg hlf, if_pos hdt], by rw [z2, tK, if_pos htL, if_neg hlf, if_pos hdt]; rfl, fun w => z3⟩)
          · have c_8 := zb_n0.mp c_8
            have hlt := c_8
            refine x_aload_n Γ dX2_advance_88 rfl ?_
            refine x_callVxv Γ calv_X2_readWord wl_X2_35 dX2_advance_89 (m_X2_readWord (g := g) (T := T) (T2 := T2) (T3 := T3) (R := R) hL eL (e := tS (R 3) L p) hsl (upd_s.trans y0)) rfl (by decide) (by decide) (by rfl) rfl rfl rfl (Nat.le_of_ble_eq_true rfl) (Nat.le_refl _) (Nat.le_refl _) (fun h_x hQ_x => ?_)
            obtain ⟨Z, rfl, z0, z1, z2⟩ := hQ_x
            rw [upd_n (by decide), y0] at z0
            refine x_goto Γ (tgt := 150) dX2_advance_92 (by decide) ?_
            exact x_vretx ρ dX2_advance_150 (⟨Z, rfl, z0, by rw [z1, tE, if_pos htL, if_pos hlt], by rw [z2, tK, if_pos htL, if_pos hlt]; rfl, fun w => by rw [tK, if_pos htL, if_pos hlt] at w; omega⟩)
        · rw [show upd Y 1 (Y 0) 0 = nI (tS (R 3) L p) from (upd_n (by decide)).trans y0, eL] at c_7
          have htL := z_nlt c_7 (by omega) (by omega)
          refine x_aload_n Γ dX2_advance_65 rfl ?_
          refine x_iconst Γ (v := 0) dX2_advance_66 rfl ?_
          refine pf_X2_25 Γ dX2_advance_67 (by decide) (by rfl) (Nat.le_of_ble_eq_true rfl) cW_x2 ?_
          refine x_goto Γ (tgt := 150) dX2_advance_70 (by decide) ?_
          exact x_vretx ρ dX2_advance_150 (⟨_, rfl, by rw [upd_n (by decide), upd_n (by decide)]; exact y0, by rw [upd_n (by decide), upd_s, tE, if_neg (by omega)]; exact y0, by rw [upd_s, tK, if_neg (by omega)]; rfl, fun w => by rw [tK, if_neg (by omega)] at w; omega⟩)
      · have hq := sk_a (P := isBlk) (b := R 3) (L := L) (p := q) (by omega) (by rw [c_6]; decide)
        refine x_aload_n Γ dX2_advance_33 rfl ?_
        refine x_dup Γ dX2_advance_34 rfl ?_
        refine gf_X2_19 Γ dX2_advance_35 (by decide) (by rfl) rfl ?_
        refine x_iconst Γ (v := 1) dX2_advance_38 rfl ?_
        refine x_iadd Γ dX2_advance_39 ?_
        refine pf_X2_19 Γ dX2_advance_40 (by decide) (by rfl) (Nat.le_of_ble_eq_true rfl) cW_x0 ?_
        refine x_goto Γ (tgt := 8) dX2_advance_43 (by decide) ?_
        exact x_subl [(0, .ref 25)] (List.forall_mem_cons.mpr ⟨rfl, fun _ hz => absurd hz List.not_mem_nil⟩) (ih (q + 1) _ (by omega) (by omega) (upd_s.trans (by rw [y0, nI_1])) (hq.symm.trans y3))
