-- ITEMS OF A TEXT: what is read, from the token at p on
def rtP (b : Nat → Int32) (L : Nat) (T : zT) (N w : Nat) (ws : List Int32) (p : Nat) : zT × Nat × Bool :=
  if isWd b L p ws = true then (if tK b L (tE b L p) = 2 ∧ okT (nI w) (tC b L (tE b L p)) = true then (ts T w N (tC b L (tE b L p)), tE b L (tE b L p), true) else (T, tE b L p, false)) else (T, p, true)
def c1P (b : Nat → Int32) (L : Nat) (T : zT) (N : Nat) (kd : Int32) (p : Nat) : zT × Nat × Bool := rtP b L (seT T N kd) N 1 (byt 7) (tE b L p)
def c2P (b : Nat → Int32) (L : Nat) (T : zT) (N : Nat) (kd : Int32) (p : Nat) : zT × Nat × Bool := rtP b L (c1P b L T N kd p).1 N 2 (byt 8) (c1P b L T N kd p).2.1
def c3P (b : Nat → Int32) (L : Nat) (T : zT) (N : Nat) (kd : Int32) (p : Nat) : zT × Nat × Bool := rtP b L (c2P b L T N kd p).1 N 3 (byt 9) (c2P b L T N kd p).2.1
def c4P (b : Nat → Int32) (L : Nat) (T : zT) (N p : Nat) : zT × Nat × Bool := if isWd b L p (byt 10) = true then (ts T 5 N 1, tE b L p, true) else if isWd b L p (byt 11) = true then (ts T 5 N 2, tE b L p, true) else (T, p, true)
def citP (b : Nat → Int32) (L : Nat) (T : zT) (N : Nat) (kd : Int32) (p : Nat) : zT × Nat × Bool :=
  if N = 10 then (T, p, false) else if (c1P b L T N kd p).2.2 = true then (if (c2P b L T N kd p).2.2 = true then (if (c3P b L T N kd p).2.2 = true then c4P b L (c3P b L T N kd p).1 N (c3P b L T N kd p).2.1 else c3P b L T N kd p) else c2P b L T N kd p) else c1P b L T N kd p
def rulP (b : Nat → Int32) (L : Nat) (T : zT) (w p : Nat) : zT × Nat × Bool := if tK b L (tE b L p) = 2 ∧ okR (nI w) (tC b L (tE b L p)) = true then (ts T 7 w (tC b L (tE b L p)), tE b L (tE b L p), true) else (T, tE b L p, false)
def itmP (b : Nat → Int32) (L : Nat) (T : zT) (N p : Nat) : zT × Nat × Bool :=
  if kdF b L p 7 0 < 0 then (if isWd b L p (byt 12) = true then rulP b L T 0 p else if isWd b L p (byt 13) = true then rulP b L T 1 p else if isWd b L p (byt 14) = true then rulP b L T 2 p else if isWd b L p (byt 15) = true then rulP b L T 3 p else if isWd b L p (byt 16) = true then (ts T 7 4 1, tE b L p, true) else if isWd b L p (byt 17) = true then (ts T 7 4 0, tE b L p, true) else (T, p, false)) else citP b L T N (kdF b L p 7 0) p
theorem rt_0 {b : Nat → Int32} {L : Nat} {T : zT} {N w : Nat} {ws : List Int32} {p : Nat} (h : isWd b L p ws = false) : rtP b L T N w ws p = (T, p, true) := if_neg (by rw [h]; decide)
theorem rt_1 {b : Nat → Int32} {L : Nat} {T : zT} {N w : Nat} {ws : List Int32} {p : Nat} (h : isWd b L p ws = true) (h2 : tK b L (tE b L p) = 2) (h3 : okT (nI w) (tC b L (tE b L p)) = true) : rtP b L T N w ws p = (ts T w N (tC b L (tE b L p)), tE b L (tE b L p), true) := (if_pos h).trans (if_pos ⟨h2, h3⟩)
theorem rt_2 {b : Nat → Int32} {L : Nat} {T : zT} {N w : Nat} {ws : List Int32} {p : Nat} (h : isWd b L p ws = true) (h2 : ¬ (tK b L (tE b L p) = 2 ∧ okT (nI w) (tC b L (tE b L p)) = true)) : rtP b L T N w ws p = (T, tE b L p, false) := (if_pos h).trans (if_neg h2)
theorem rt_p {b : Nat → Int32} {L : Nat} {T : zT} {N w : Nat} {ws : List Int32} {p : Nat} (hp : p ≤ L) : (rtP b L T N w ws p).2.1 ≤ L ∧ p ≤ (rtP b L T N w ws p).2.1 := by
  have h1 := tE_le (b := b) hp
  have h2 := tE_le (b := b) h1
  have h3 := tS_ge (b := b) (L := L) (p := p)
  have h4 := tE_ge (b := b) (L := L) (p := p)
  have h5 := tS_ge (b := b) (L := L) (p := tE b L p)
  have h6 := tE_ge (b := b) (L := L) (p := tE b L p)
  unfold rtP
  repeat' split
  · dsimp only; omega
  · dsimp only; omega
  · dsimp only; omega
theorem rt_T {b : Nat → Int32} {L : Nat} {T : zT} {N w : Nat} {ws : List Int32} {p a : Nat} (ha : a ≠ w) : (rtP b L T N w ws p).1 a = T a := by
  unfold rtP
  repeat' split
  · exact ts_n ha
  · rfl
  · rfl
theorem c4_p {b : Nat → Int32} {L : Nat} {T : zT} {N p : Nat} (hp : p ≤ L) : (c4P b L T N p).2.1 ≤ L ∧ p ≤ (c4P b L T N p).2.1 := by
  have h1 := tE_le (b := b) hp
  have h3 := tS_ge (b := b) (L := L) (p := p)
  have h4 := tE_ge (b := b) (L := L) (p := p)
  unfold c4P
  repeat' split
  · dsimp only; omega
  · dsimp only; omega
  · dsimp only; omega
theorem c1_p {b : Nat → Int32} {L : Nat} {T : zT} {N : Nat} {kd : Int32} {p : Nat} (hp : p ≤ L) : (c1P b L T N kd p).2.1 ≤ L ∧ p ≤ (c1P b L T N kd p).2.1 := by
  have h := rt_p (b := b) (T := seT T N kd) (N := N) (w := 1) (ws := byt 7) (tE_le (b := b) hp)
  have h3 := tS_ge (b := b) (L := L) (p := p)
  have h4 := tE_ge (b := b) (L := L) (p := p)
  unfold c1P
  omega
theorem c2_p {b : Nat → Int32} {L : Nat} {T : zT} {N : Nat} {kd : Int32} {p : Nat} (hp : p ≤ L) : (c2P b L T N kd p).2.1 ≤ L ∧ p ≤ (c2P b L T N kd p).2.1 := by
  have h1 := c1_p (b := b) (T := T) (N := N) (kd := kd) hp
  have h := rt_p (b := b) (T := (c1P b L T N kd p).1) (N := N) (w := 2) (ws := byt 8) h1.1
  unfold c2P
  omega
theorem c3_p {b : Nat → Int32} {L : Nat} {T : zT} {N : Nat} {kd : Int32} {p : Nat} (hp : p ≤ L) : (c3P b L T N kd p).2.1 ≤ L ∧ p ≤ (c3P b L T N kd p).2.1 := by
  have h1 := c2_p (b := b) (T := T) (N := N) (kd := kd) hp
  have h := rt_p (b := b) (T := (c2P b L T N kd p).1) (N := N) (w := 3) (ws := byt 9) h1.1
  unfold c3P
  omega
theorem cit_p {b : Nat → Int32} {L : Nat} {T : zT} {N : Nat} {kd : Int32} {p : Nat} (hp : p ≤ L) : (citP b L T N kd p).2.1 ≤ L ∧ p ≤ (citP b L T N kd p).2.1 := by
  have h1 := c1_p (b := b) (T := T) (N := N) (kd := kd) hp
  have h2 := c2_p (b := b) (T := T) (N := N) (kd := kd) hp
  have h3 := c3_p (b := b) (T := T) (N := N) (kd := kd) hp
  have h4 := c4_p (b := b) (T := (c3P b L T N kd p).1) (N := N) h3.1
  unfold citP
  repeat' split
  · exact ⟨hp, Nat.le_refl _⟩
  · omega
  · exact h3
  · exact h2
  · exact h1
theorem rul_p {b : Nat → Int32} {L : Nat} {T : zT} {w p : Nat} (hp : p ≤ L) : (rulP b L T w p).2.1 ≤ L ∧ p ≤ (rulP b L T w p).2.1 := by
  have h1 := tE_le (b := b) hp
  have h2 := tE_le (b := b) h1
  have h3 := tS_ge (b := b) (L := L) (p := p)
  have h4 := tE_ge (b := b) (L := L) (p := p)
  have h5 := tS_ge (b := b) (L := L) (p := tE b L p)
  have h6 := tE_ge (b := b) (L := L) (p := tE b L p)
  unfold rulP
  split
  · dsimp only; omega
  · dsimp only; omega
theorem itm_p {b : Nat → Int32} {L : Nat} {T : zT} {N p : Nat} (hp : p ≤ L) : (itmP b L T N p).2.1 ≤ L ∧ p ≤ (itmP b L T N p).2.1 := by
  have h1 := tE_le (b := b) hp
  have h3 := tS_ge (b := b) (L := L) (p := p)
  have h4 := tE_ge (b := b) (L := L) (p := p)
  unfold itmP
  repeat' split
  · exact rul_p hp
  · exact rul_p hp
  · exact rul_p hp
  · exact rul_p hp
  · dsimp only; omega
  · dsimp only; omega
  · exact ⟨hp, Nat.le_refl _⟩
  · exact cit_p hp
theorem kd_in {b : Nat → Int32} {L p : Nat} : ∀ f k, f + k = 7 → kdF b L p f k = -1 ∨ ∃ j, j < 7 ∧ kdF b L p f k = nI j := by
  intro f
  induction f with
  | zero => intro k _; exact Or.inl rfl
  | succ f ih =>
    intro k h
    rw [kdF]
    split
    · exact Or.inr ⟨k, by omega, rfl⟩
    · exact ih (k + 1) (by omega)
theorem kd_K {b : Nat → Int32} {L p : Nat} : isK (kdF b L p 7 0) = !decide (kdF b L p 7 0 < 0) := by
  rcases kd_in (b := b) (L := L) (p := p) 7 0 rfl with h | ⟨j, hj, h⟩
  · rw [h]; decide
  · rw [h, isK, decide_eq_false (nI_pos (n := j) (by omega)), show decide (7 ≤ nI j) = false from decide_eq_false (nI_ge (a := j) (b := 7) (by omega) (by omega))]
    rfl
theorem seT_N {T : zT} {N : Nat} {kd : Int32} (hN : wN T N) (h : N < 10) : wN (seT T N kd) (N + 1) := ⟨ts_s, by omega⟩

set_option maxRecDepth 100000 in
set_option maxHeartbeats 4000000 in
theorem m_X3_readTrait {g : Nat → zE} {T T2 T3 R : zT} {X : Nat → Int32} {L p : Nat} (hL : L ≤ 120) (hp : p ≤ L) (eL : R 7 3 = nI L) (hX : tkX (R 3) L p X) {N w i : Nat} (hN : wN T2 (N + 1)) (hw : traF (nI w) = w) (hi : i < 36) : zMx 7 M_X3_readTrait [.ref 0, .ref (1000 + i), .int (nI w)] (cW g T T2 T3 R X) 46 (some (.int (zb (rtP (R 3) L T2 N w (byt i) p).2.2))) (bQ g T (rtP (R 3) L T2 N w (byt i) p).1 T3 R L (rtP (R 3) L T2 N w (byt i) p).2.1) := by
  refine zMx.intro (by decide) (Nat.le_of_ble_eq_true rfl) ?_
  intro Wf V m H0 Γ ρ
  replace Γ : zC Wf V m 3 H0 cX3_readTrait RX3 7 0 0 := Γ
  show zX Wf V m 3 H0 0 (zls [(0, .ref 0), (1, .ref (1000 + i)), (2, .int (nI w))]) [] (cW g T T2 T3 R X) 46 0 0
  have hN2 := hN.2
  refine x_aload_n Γ dX3_readTrait_0 rfl ?_
  refine gf_X3_25 Γ dX3_readTrait_1 (by decide) (by rfl) rfl ?_
  refine x_aload_n Γ dX3_readTrait_4 rfl ?_
  refine x_callV Γ calv_X2_isWord wl_X3_303 dX3_readTrait_5 (m_X2_isWord (g := g) (T := T) (T2 := T2) (T3 := T3) (R := R) (X := X) hL (hp) (hX) (i := i) hi) rfl (by decide) (by decide) (by rfl) rfl rfl rfl (Nat.le_of_ble_eq_true rfl) (Nat.le_refl _) (Nat.le_refl _) ?_
  refine x_if_ne Γ (tgt := 13) dX3_readTrait_8 (by decide) (fun c_1 => ?_) (fun c_1 => ?_)
  · have c_1 := zb_n0.mp c_1
    have hwd := c_1
    refine x_aload_n Γ dX3_readTrait_13 rfl ?_
    refine gf_X3_25 Γ dX3_readTrait_14 (by decide) (by rfl) rfl ?_
    refine x_callVxv Γ calv_X2_advance wl_X3_213 dX3_readTrait_17 (m_X2_advance (g := g) (T := T) (T2 := T2) (T3 := T3) (R := R) hL eL (p := (tE (R 3) L p)) (tE_le hp) hX.2.1) rfl (by decide) (by decide) (by rfl) rfl rfl rfl (Nat.le_of_ble_eq_true rfl) (Nat.le_refl _) (Nat.le_refl _) (fun h_x hQ_x => ?_)
    obtain ⟨X1, rfl, hX1⟩ := hQ_x
    refine x_aload_n Γ dX3_readTrait_20 rfl ?_
    refine gf_X3_25 Γ dX3_readTrait_21 (by decide) (by rfl) rfl ?_
    refine gf_X3_220 Γ dX3_readTrait_24 (by decide) (by rfl) rfl ?_
    refine x_iconst Γ (v := 2) dX3_readTrait_27 rfl ?_
    refine x_icmp_ne Γ (tgt := 45) dX3_readTrait_28 (by decide) (fun c_2 => ?_) (fun c_2 => ?_)
    · rw [hX1.2.2.1] at c_2
      have hG := rt_2 (T := T2) (N := N) (w := w) hwd (fun z => c_2 ((tk_eq (k := 2) (by omega)).mpr z.1))
      refine x_iconst Γ (v := 0) dX3_readTrait_45 rfl ?_
      exact x_iretx ρ rfl dX3_readTrait_46 (by first | exact zb_nz _ | rfl) (by rw [hG]; try rfl) (by rw [hG]; exact ⟨X1, rfl, hX1⟩)
    · rw [hX1.2.2.1] at c_2
      have h2 := (tk_eq (k := 2) (by omega)).mp c_2
      refine x_iload_n Γ dX3_readTrait_31 rfl ?_
      refine x_aload_n Γ dX3_readTrait_32 rfl ?_
      refine gf_X3_25 Γ dX3_readTrait_33 (by decide) (by rfl) rfl ?_
      refine gf_X3_329 Γ dX3_readTrait_36 (by decide) (by rfl) rfl ?_
      rw [hX1.2.2.2 h2]
      refine x_callS Γ cals_X0_allowsTrait wl_X3_79 dX3_readTrait_39 (m_X0_allowsTrait (nI w) (tC (R 3) L (tE (R 3) L p))) rfl (by decide) rfl (Nat.le_of_ble_eq_true rfl) (Nat.le_refl _) (Nat.le_refl _) ?_
      refine x_if_ne Γ (tgt := 47) dX3_readTrait_42 (by decide) (fun c_3 => ?_) (fun c_3 => ?_)
      · have c_3 := zb_n0.mp c_3
        have hG := rt_1 (T := T2) (N := N) (w := w) hwd h2 c_3
        refine x_aload_n Γ dX3_readTrait_47 rfl ?_
        refine gf_X3_16 Γ dX3_readTrait_48 (by decide) (by rfl) rfl ?_
        refine x_aload_n Γ dX3_readTrait_51 rfl ?_
        refine gf_X3_16 Γ dX3_readTrait_52 (by decide) (by rfl) rfl ?_
        refine gf_X3_52 Γ dX3_readTrait_55 (by decide) (by rfl) rfl ?_
        refine x_iconst Γ (v := 1) dX3_readTrait_58 rfl ?_
        refine x_isub Γ dX3_readTrait_59 ?_
        rw [hN.1, show nI (N + 1) - 1 = nI N from pk_sub (b := 1) (by omega)]
        refine x_iload_n Γ dX3_readTrait_60 rfl ?_
        refine x_aload_n Γ dX3_readTrait_61 rfl ?_
        refine gf_X3_25 Γ dX3_readTrait_62 (by decide) (by rfl) rfl ?_
        refine gf_X3_329 Γ dX3_readTrait_65 (by decide) (by rfl) rfl ?_
        rw [hX1.2.2.2 h2]
        refine x_callVv Γ calv_X0_setTrait wl_X3_83 dX3_readTrait_68 (cM9 (m_X0_setTrait (g := cW g T T2 T3 R X1) (b := 9) (T := T2) (by omega) hN N (by omega) (nI w) (tC (R 3) L (tE (R 3) L p)))) rfl (by decide) (by decide) (by rfl) rfl rfl rfl (Nat.le_of_ble_eq_true rfl) (Nat.le_refl _) (Nat.le_refl _) ?_
        rw [hw]
        refine x_aload_n Γ dX3_readTrait_71 rfl ?_
        refine gf_X3_25 Γ dX3_readTrait_72 (by decide) (by rfl) rfl ?_
        refine x_callVxv Γ calv_X2_advance wl_X3_213 dX3_readTrait_75 (m_X2_advance (g := g) (T := T) (T2 := ts T2 w N (tC (R 3) L (tE (R 3) L p))) (T3 := T3) (R := R) hL eL (p := (tE (R 3) L (tE (R 3) L p))) (tE_le (tE_le hp)) hX1.2.1) rfl (by decide) (by decide) (by rfl) rfl rfl rfl (Nat.le_of_ble_eq_true rfl) (Nat.le_refl _) (Nat.le_refl _) (fun h_x hQ_x => ?_)
        obtain ⟨X2, rfl, hX2⟩ := hQ_x
        refine x_iconst Γ (v := 1) dX3_readTrait_78 rfl ?_
        exact x_iretx ρ rfl dX3_readTrait_79 (by first | exact zb_nz _ | rfl) (by rw [hG]; try rfl) (by rw [hG]; exact ⟨X2, rfl, hX2⟩)
      · have c_3 := zb_0.mp c_3
        have hG := rt_2 (T := T2) (N := N) (w := w) hwd (fun z => by rw [c_3] at z; cases z.2)
        refine x_iconst Γ (v := 0) dX3_readTrait_45 rfl ?_
        exact x_iretx ρ rfl dX3_readTrait_46 (by first | exact zb_nz _ | rfl) (by rw [hG]; try rfl) (by rw [hG]; exact ⟨X1, rfl, hX1⟩)
  · have c_1 := zb_0.mp c_1
    have hG := rt_0 (b := R 3) (L := L) (T := T2) (N := N) (w := w) c_1
    refine x_iconst Γ (v := 1) dX3_readTrait_11 rfl ?_
    exact x_iretx ρ rfl dX3_readTrait_12 (by first | exact zb_nz _ | rfl) (by rw [hG]; try rfl) (by rw [hG]; exact ⟨X, rfl, hX⟩)

set_option maxRecDepth 100000 in
set_option maxHeartbeats 4000000 in
theorem m_X3_readRuling {g : Nat → zE} {T T2 T3 R : zT} {X : Nat → Int32} {L p : Nat} (hL : L ≤ 120) (hp : p ≤ L) (eL : R 7 3 = nI L) (hX : tkX (R 3) L p X) {w : Nat} (hw : rulF (nI w) = w) : zMx 3 M_X3_readRuling [.ref 0, .int (nI w)] (cW g T T2 T3 R X) 46 (some (.int (zb (rulP (R 3) L T2 w p).2.2))) (bQ g T (rulP (R 3) L T2 w p).1 T3 R L (rulP (R 3) L T2 w p).2.1) := by
  refine zMx.intro (by decide) (Nat.le_of_ble_eq_true rfl) ?_
  intro Wf V m H0 Γ ρ
  replace Γ : zC Wf V m 2 H0 cX3_readRuling RX3 3 0 0 := Γ
  show zX Wf V m 2 H0 0 (zls [(0, .ref 0), (1, .int (nI w))]) [] (cW g T T2 T3 R X) 46 0 0
  refine x_aload_n Γ dX3_readRuling_0 rfl ?_
  refine gf_X3_25 Γ dX3_readRuling_1 (by decide) (by rfl) rfl ?_
  refine x_callVxv Γ calv_X2_advance wl_X3_213 dX3_readRuling_4 (m_X2_advance (g := g) (T := T) (T2 := T2) (T3 := T3) (R := R) hL eL (p := (tE (R 3) L p)) (tE_le hp) hX.2.1) rfl (by decide) (by decide) (by rfl) rfl rfl rfl (Nat.le_of_ble_eq_true rfl) (Nat.le_refl _) (Nat.le_refl _) (fun h_x hQ_x => ?_)
  obtain ⟨X1, rfl, hX1⟩ := hQ_x
  refine x_aload_n Γ dX3_readRuling_7 rfl ?_
  refine gf_X3_25 Γ dX3_readRuling_8 (by decide) (by rfl) rfl ?_
  refine gf_X3_220 Γ dX3_readRuling_11 (by decide) (by rfl) rfl ?_
  refine x_iconst Γ (v := 2) dX3_readRuling_14 rfl ?_
  refine x_icmp_ne Γ (tgt := 32) dX3_readRuling_15 (by decide) (fun c_1 => ?_) (fun c_1 => ?_)
  · rw [hX1.2.2.1] at c_1
    have hG : rulP (R 3) L T2 w p = (T2, (tE (R 3) L p), false) := if_neg (fun z => c_1 ((tk_eq (k := 2) (by omega)).mpr z.1))
    refine x_iconst Γ (v := 0) dX3_readRuling_32 rfl ?_
    exact x_iretx ρ rfl dX3_readRuling_33 (by first | exact zb_nz _ | rfl) (by rw [hG]; try rfl) (by rw [hG]; exact ⟨X1, rfl, hX1⟩)
  · rw [hX1.2.2.1] at c_1
    have h2 := (tk_eq (k := 2) (by omega)).mp c_1
    refine x_iload_n Γ dX3_readRuling_18 rfl ?_
    refine x_aload_n Γ dX3_readRuling_19 rfl ?_
    refine gf_X3_25 Γ dX3_readRuling_20 (by decide) (by rfl) rfl ?_
    refine gf_X3_329 Γ dX3_readRuling_23 (by decide) (by rfl) rfl ?_
    rw [hX1.2.2.2 h2]
    refine x_callS Γ cals_X0_allowsRule wl_X3_87 dX3_readRuling_26 (m_X0_allowsRule (nI w) (tC (R 3) L (tE (R 3) L p))) rfl (by decide) rfl (Nat.le_of_ble_eq_true rfl) (Nat.le_refl _) (Nat.le_refl _) ?_
    refine x_if_ne Γ (tgt := 34) dX3_readRuling_29 (by decide) (fun c_2 => ?_) (fun c_2 => ?_)
    · have c_2 := zb_n0.mp c_2
      have hG : rulP (R 3) L T2 w p = (ts T2 7 w (tC (R 3) L (tE (R 3) L p)), (tE (R 3) L (tE (R 3) L p)), true) := if_pos ⟨h2, c_2⟩
      refine x_aload_n Γ dX3_readRuling_34 rfl ?_
      refine gf_X3_16 Γ dX3_readRuling_35 (by decide) (by rfl) rfl ?_
      refine x_iload_n Γ dX3_readRuling_38 rfl ?_
      refine x_aload_n Γ dX3_readRuling_39 rfl ?_
      refine gf_X3_25 Γ dX3_readRuling_40 (by decide) (by rfl) rfl ?_
      refine gf_X3_329 Γ dX3_readRuling_43 (by decide) (by rfl) rfl ?_
      rw [hX1.2.2.2 h2]
      refine x_callVv Γ calv_X0_setRuling wl_X3_93 dX3_readRuling_46 (cM9 (m_X0_setRuling (g := cW g T T2 T3 R X1) (b := 9) (T := T2) (by omega) (nI w) (tC (R 3) L (tE (R 3) L p)))) rfl (by decide) (by decide) (by rfl) rfl rfl rfl (Nat.le_of_ble_eq_true rfl) (Nat.le_refl _) (Nat.le_refl _) ?_
      rw [hw]
      refine x_aload_n Γ dX3_readRuling_49 rfl ?_
      refine gf_X3_25 Γ dX3_readRuling_50 (by decide) (by rfl) rfl ?_
      refine x_callVxv Γ calv_X2_advance wl_X3_213 dX3_readRuling_53 (m_X2_advance (g := g) (T := T) (T2 := ts T2 7 w (tC (R 3) L (tE (R 3) L p))) (T3 := T3) (R := R) hL eL (p := (tE (R 3) L (tE (R 3) L p))) (tE_le (tE_le hp)) hX1.2.1) rfl (by decide) (by decide) (by rfl) rfl rfl rfl (Nat.le_of_ble_eq_true rfl) (Nat.le_refl _) (Nat.le_refl _) (fun h_x hQ_x => ?_)
      obtain ⟨X2, rfl, hX2⟩ := hQ_x
      refine x_iconst Γ (v := 1) dX3_readRuling_56 rfl ?_
      exact x_iretx ρ rfl dX3_readRuling_57 (by first | exact zb_nz _ | rfl) (by rw [hG]; try rfl) (by rw [hG]; exact ⟨X2, rfl, hX2⟩)
    · have c_2 := zb_0.mp c_2
      have hG : rulP (R 3) L T2 w p = (T2, (tE (R 3) L p), false) := if_neg (fun z => by rw [c_2] at z; cases z.2)
      refine x_iconst Γ (v := 0) dX3_readRuling_32 rfl ?_
      exact x_iretx ρ rfl dX3_readRuling_33 (by first | exact zb_nz _ | rfl) (by rw [hG]; try rfl) (by rw [hG]; exact ⟨X1, rfl, hX1⟩)

set_option maxRecDepth 100000 in
set_option maxHeartbeats 4000000 in
theorem m_X3_readCitizen {g : Nat → zE} {T T2 T3 R : zT} {X : Nat → Int32} {L p : Nat} (hL : L ≤ 120) (hp : p ≤ L) (eL : R 7 3 = nI L) (hX : tkX (R 3) L p X) {N : Nat} (hN : wN T2 N) (kd : Int32) : zMx 8 M_X3_readCitizen [.ref 0, .int kd] (cW g T T2 T3 R X) 46 (some (.int (zb (citP (R 3) L T2 N kd p).2.2))) (bQ g T (citP (R 3) L T2 N kd p).1 T3 R L (citP (R 3) L T2 N kd p).2.1) := by
  refine zMx.intro (by decide) (Nat.le_of_ble_eq_true rfl) ?_
  intro Wf V m H0 Γ ρ
  replace Γ : zC Wf V m 3 H0 cX3_readCitizen RX3 8 0 0 := Γ
  show zX Wf V m 3 H0 0 (zls [(0, .ref 0), (1, .int kd)]) [] (cW g T T2 T3 R X) 46 0 0
  have hN2 := hN.2
  refine x_aload_n Γ dX3_readCitizen_0 rfl ?_
  refine gf_X3_16 Γ dX3_readCitizen_1 (by decide) (by rfl) rfl ?_
  refine gf_X3_52 Γ dX3_readCitizen_4 (by decide) (by rfl) rfl ?_
  refine x_bipush Γ (v := 10) dX3_readCitizen_7 rfl ?_
  refine x_icmp_lt Γ (tgt := 14) dX3_readCitizen_9 (by decide) (fun c_1 => ?_) (fun c_1 => ?_)
  · rw [hN.1] at c_1
    have hn10 := z_lt (b := 10) c_1 (by omega) (by omega)
    refine x_aload_n Γ dX3_readCitizen_14 rfl ?_
    refine gf_X3_16 Γ dX3_readCitizen_15 (by decide) (by rfl) rfl ?_
    refine x_iload_n Γ dX3_readCitizen_18 rfl ?_
    refine x_callVv Γ calv_X0_settle wl_X3_56 dX3_readCitizen_19 (cM9 (m_X0_settle (g := cW g T T2 T3 R X) (b := 9) (T := T2) (by omega) hN (by omega) kd)) rfl (by decide) (by decide) (by rfl) rfl rfl rfl (Nat.le_of_ble_eq_true rfl) (Nat.le_refl _) (Nat.le_refl _) ?_
    refine x_aload_n Γ dX3_readCitizen_22 rfl ?_
    refine gf_X3_25 Γ dX3_readCitizen_23 (by decide) (by rfl) rfl ?_
    refine x_callVxv Γ calv_X2_advance wl_X3_213 dX3_readCitizen_26 (m_X2_advance (g := g) (T := T) (T2 := seT T2 N kd) (T3 := T3) (R := R) hL eL (p := (tE (R 3) L p)) (tE_le hp) hX.2.1) rfl (by decide) (by decide) (by rfl) rfl rfl rfl (Nat.le_of_ble_eq_true rfl) (Nat.le_refl _) (Nat.le_refl _) (fun h_x hQ_x => ?_)
    obtain ⟨X1, rfl, hX1⟩ := hQ_x
    refine x_aload_n Γ dX3_readCitizen_29 rfl ?_
    refine x_ldsw Γ (i := 7) (by decide) rfl rfl dX3_readCitizen_30 ?_
    refine x_iconst Γ (v := 1) dX3_readCitizen_33 rfl ?_
    refine x_callVx Γ calv_X3_readTrait wl_X3_318 dX3_readCitizen_34 (m_X3_readTrait (g := g) (T := T) (T2 := seT T2 N kd) (T3 := T3) (R := R) (X := X1) hL (tE_le hp) eL hX1 (N := N) (w := 1) (i := 7) (seT_N hN (by omega)) rfl (by decide)) rfl (by decide) (by decide) (by rfl) rfl rfl rfl (Nat.le_of_ble_eq_true rfl) (Nat.le_refl _) (Nat.le_refl _) (fun h_x hQ_x => ?_)
    obtain ⟨X2, rfl, hX2⟩ := hQ_x
    refine x_if_eq Γ (tgt := 62) dX3_readCitizen_37 (by decide) (fun c_2 => ?_) (fun c_2 => ?_)
    · have c_2 := zb_0.mp c_2
      have c_2 : (c1P (R 3) L T2 N kd p).2.2 = false := c_2
      have hG : citP (R 3) L T2 N kd p = (c1P (R 3) L T2 N kd p) := (if_neg (by omega)).trans (if_neg (by rw [c_2]; decide))
      refine x_iconst Γ (v := 0) dX3_readCitizen_62 rfl ?_
      exact x_iretx ρ rfl dX3_readCitizen_63 (by first | exact zb_nz _ | rfl) (by rw [hG, c_2]; try rfl) (by rw [hG]; exact ⟨X2, rfl, hX2⟩)
    · have c_2 := zb_n0.mp c_2
      have k1 : (c1P (R 3) L T2 N kd p).2.2 = true := c_2
      refine x_aload_n Γ dX3_readCitizen_40 rfl ?_
      refine x_ldsw Γ (i := 8) (by decide) rfl rfl dX3_readCitizen_41 ?_
      refine x_iconst Γ (v := 2) dX3_readCitizen_44 rfl ?_
      refine x_callVx Γ calv_X3_readTrait wl_X3_318 dX3_readCitizen_45 (m_X3_readTrait (g := g) (T := T) (T2 := (c1P (R 3) L T2 N kd p).1) (T3 := T3) (R := R) (X := X2) hL ((c1_p hp).1) eL hX2 (N := N) (w := 2) (i := 8) (wN_of (congrFun (rt_T (by decide)) 8) (seT_N hN (by omega))) rfl (by decide)) rfl (by decide) (by decide) (by rfl) rfl rfl rfl (Nat.le_of_ble_eq_true rfl) (Nat.le_refl _) (Nat.le_refl _) (fun h_x hQ_x => ?_)
      obtain ⟨X3, rfl, hX3⟩ := hQ_x
      refine x_if_eq Γ (tgt := 62) dX3_readCitizen_48 (by decide) (fun c_3 => ?_) (fun c_3 => ?_)
      · have c_3 := zb_0.mp c_3
        have c_3 : (c2P (R 3) L T2 N kd p).2.2 = false := c_3
        have hG : citP (R 3) L T2 N kd p = (c2P (R 3) L T2 N kd p) := ((if_neg (by omega)).trans (if_pos k1)).trans (if_neg (by rw [c_3]; decide))
        refine x_iconst Γ (v := 0) dX3_readCitizen_62 rfl ?_
        exact x_iretx ρ rfl dX3_readCitizen_63 (by first | exact zb_nz _ | rfl) (by rw [hG, c_3]; try rfl) (by rw [hG]; exact ⟨X3, rfl, hX3⟩)
      · have c_3 := zb_n0.mp c_3
        have k2 : (c2P (R 3) L T2 N kd p).2.2 = true := c_3
        refine x_aload_n Γ dX3_readCitizen_51 rfl ?_
        refine x_ldsw Γ (i := 9) (by decide) rfl rfl dX3_readCitizen_52 ?_
        refine x_iconst Γ (v := 3) dX3_readCitizen_55 rfl ?_
        refine x_callVx Γ calv_X3_readTrait wl_X3_318 dX3_readCitizen_56 (m_X3_readTrait (g := g) (T := T) (T2 := (c2P (R 3) L T2 N kd p).1) (T3 := T3) (R := R) (X := X3) hL ((c2_p hp).1) eL hX3 (N := N) (w := 3) (i := 9) (wN_of ((congrFun (rt_T (by decide)) 8).trans (congrFun (rt_T (by decide)) 8)) (seT_N hN (by omega))) rfl (by decide)) rfl (by decide) (by decide) (by rfl) rfl rfl rfl (Nat.le_of_ble_eq_true rfl) (Nat.le_refl _) (Nat.le_refl _) (fun h_x hQ_x => ?_)
        obtain ⟨X4, rfl, hX4⟩ := hQ_x
        refine x_if_ne Γ (tgt := 64) dX3_readCitizen_59 (by decide) (fun c_4 => ?_) (fun c_4 => ?_)
        · have c_4 := zb_n0.mp c_4
          have k3 : (c3P (R 3) L T2 N kd p).2.2 = true := c_4
          have hC : citP (R 3) L T2 N kd p = c4P (R 3) L (c3P (R 3) L T2 N kd p).1 N (c3P (R 3) L T2 N kd p).2.1 := (((if_neg (by omega)).trans (if_pos k1)).trans (if_pos k2)).trans (if_pos k3)
          refine x_aload_n Γ dX3_readCitizen_64 rfl ?_
          refine gf_X3_25 Γ dX3_readCitizen_65 (by decide) (by rfl) rfl ?_
          refine x_ldsw Γ (i := 10) (by decide) rfl rfl dX3_readCitizen_68 ?_
          refine x_callV Γ calv_X2_isWord wl_X3_303 dX3_readCitizen_71 (m_X2_isWord (g := g) (T := T) (T2 := (c3P (R 3) L T2 N kd p).1) (T3 := T3) (R := R) (X := X4) hL ((c3_p hp).1) (hX4) (i := 10) (by decide)) rfl (by decide) (by decide) (by rfl) rfl rfl rfl (Nat.le_of_ble_eq_true rfl) (Nat.le_refl _) (Nat.le_refl _) ?_
          refine x_istore_n Γ dX3_readCitizen_74 (by decide) ?_
          refine x_iload_n Γ dX3_readCitizen_75 rfl ?_
          refine x_if_ne Γ (tgt := 92) dX3_readCitizen_76 (by decide) (fun c_5 => ?_) (fun c_5 => ?_)
          · have c_5 := zb_n0.mp c_5
            have hlf := c_5
            have hG : citP (R 3) L T2 N kd p = (ts (c3P (R 3) L T2 N kd p).1 5 N 1, tE (R 3) L (c3P (R 3) L T2 N kd p).2.1, true) := hC.trans (if_pos hlf)
            refine x_aload_n Γ dX3_readCitizen_92 rfl ?_
            refine gf_X3_16 Γ dX3_readCitizen_93 (by decide) (by rfl) rfl ?_
            refine x_aload_n Γ dX3_readCitizen_96 rfl ?_
            refine gf_X3_16 Γ dX3_readCitizen_97 (by decide) (by rfl) rfl ?_
            refine gf_X3_52 Γ dX3_readCitizen_100 (by decide) (by rfl) rfl ?_
            refine x_iconst Γ (v := 1) dX3_readCitizen_103 rfl ?_
            refine x_isub Γ dX3_readCitizen_104 ?_
            rw [show (c3P (R 3) L T2 N kd p).1 7 8 = nI (N + 1) from (wN_of (((congrFun (rt_T (by decide)) 8).trans (congrFun (rt_T (by decide)) 8)).trans (congrFun (rt_T (by decide)) 8)) (seT_N hN (by omega))).1, show nI (N + 1) - 1 = nI N from pk_sub (b := 1) (by omega)]
            refine x_iconst Γ (v := 5) dX3_readCitizen_105 rfl ?_
            refine x_iload_n Γ dX3_readCitizen_106 rfl ?_
            refine x_if_eq Γ (tgt := 114) dX3_readCitizen_107 (by decide) (fun c_6 => ?_) (fun c_6 => ?_)
            · have c_6 := zb_0.mp c_6
              rw [hlf] at c_6
              exact absurd c_6 (by decide)
            · have c_6 := zb_n0.mp c_6
              refine x_iconst Γ (v := 1) dX3_readCitizen_110 rfl ?_
              refine x_goto Γ (tgt := 115) dX3_readCitizen_111 (by decide) ?_
              refine x_callVv Γ calv_X0_setTrait wl_X3_83 dX3_readCitizen_115 (cM9 (m_X0_setTrait (g := cW g T (c3P (R 3) L T2 N kd p).1 T3 R X4) (b := 9) (T := (c3P (R 3) L T2 N kd p).1) (by omega) (wN_of (((congrFun (rt_T (by decide)) 8).trans (congrFun (rt_T (by decide)) 8)).trans (congrFun (rt_T (by decide)) 8)) (seT_N hN (by omega))) N (by omega) 5 1)) rfl (by decide) (by decide) (by rfl) rfl rfl rfl (Nat.le_of_ble_eq_true rfl) (Nat.le_refl _) (Nat.le_refl _) ?_
              rw [show traF 5 = 5 from rfl]
              refine x_aload_n Γ dX3_readCitizen_118 rfl ?_
              refine gf_X3_25 Γ dX3_readCitizen_119 (by decide) (by rfl) rfl ?_
              refine x_callVxv Γ calv_X2_advance wl_X3_213 dX3_readCitizen_122 (m_X2_advance (g := g) (T := T) (T2 := ts (c3P (R 3) L T2 N kd p).1 5 N 1) (T3 := T3) (R := R) hL eL (p := tE (R 3) L (c3P (R 3) L T2 N kd p).2.1) (tE_le (c3_p hp).1) hX4.2.1) rfl (by decide) (by decide) (by rfl) rfl rfl rfl (Nat.le_of_ble_eq_true rfl) (Nat.le_refl _) (Nat.le_refl _) (fun h_x hQ_x => ?_)
              obtain ⟨X5, rfl, hX5⟩ := hQ_x
              refine x_iconst Γ (v := 1) dX3_readCitizen_125 rfl ?_
              exact x_iretx ρ rfl dX3_readCitizen_126 (by first | exact zb_nz _ | rfl) (by rw [hG]; try rfl) (by rw [hG]; exact ⟨X5, rfl, hX5⟩)
          · have c_5 := zb_0.mp c_5
            have hlf := c_5
            refine x_aload_n Γ dX3_readCitizen_79 rfl ?_
            refine gf_X3_25 Γ dX3_readCitizen_80 (by decide) (by rfl) rfl ?_
            refine x_ldsw Γ (i := 11) (by decide) rfl rfl dX3_readCitizen_83 ?_
            refine x_callV Γ calv_X2_isWord wl_X3_303 dX3_readCitizen_86 (m_X2_isWord (g := g) (T := T) (T2 := (c3P (R 3) L T2 N kd p).1) (T3 := T3) (R := R) (X := X4) hL ((c3_p hp).1) (hX4) (i := 11) (by decide)) rfl (by decide) (by decide) (by rfl) rfl rfl rfl (Nat.le_of_ble_eq_true rfl) (Nat.le_refl _) (Nat.le_refl _) ?_
            refine x_if_eq Γ (tgt := 125) dX3_readCitizen_89 (by decide) (fun c_7 => ?_) (fun c_7 => ?_)
            · have c_7 := zb_0.mp c_7
              have hG : citP (R 3) L T2 N kd p = ((c3P (R 3) L T2 N kd p).1, (c3P (R 3) L T2 N kd p).2.1, true) := (hC.trans (if_neg (by rw [hlf]; decide))).trans (if_neg (by rw [c_7]; decide))
              refine x_iconst Γ (v := 1) dX3_readCitizen_125 rfl ?_
              exact x_iretx ρ rfl dX3_readCitizen_126 (by first | exact zb_nz _ | rfl) (by rw [hG]; try rfl) (by rw [hG]; exact ⟨X4, rfl, hX4⟩)
            · have c_7 := zb_n0.mp c_7
              have hG : citP (R 3) L T2 N kd p = (ts (c3P (R 3) L T2 N kd p).1 5 N 2, tE (R 3) L (c3P (R 3) L T2 N kd p).2.1, true) := (hC.trans (if_neg (by rw [hlf]; decide))).trans (if_pos c_7)
              refine x_aload_n Γ dX3_readCitizen_92 rfl ?_
              refine gf_X3_16 Γ dX3_readCitizen_93 (by decide) (by rfl) rfl ?_
              refine x_aload_n Γ dX3_readCitizen_96 rfl ?_
              refine gf_X3_16 Γ dX3_readCitizen_97 (by decide) (by rfl) rfl ?_
              refine gf_X3_52 Γ dX3_readCitizen_100 (by decide) (by rfl) rfl ?_
              refine x_iconst Γ (v := 1) dX3_readCitizen_103 rfl ?_
              refine x_isub Γ dX3_readCitizen_104 ?_
              rw [show (c3P (R 3) L T2 N kd p).1 7 8 = nI (N + 1) from (wN_of (((congrFun (rt_T (by decide)) 8).trans (congrFun (rt_T (by decide)) 8)).trans (congrFun (rt_T (by decide)) 8)) (seT_N hN (by omega))).1, show nI (N + 1) - 1 = nI N from pk_sub (b := 1) (by omega)]
              refine x_iconst Γ (v := 5) dX3_readCitizen_105 rfl ?_
              refine x_iload_n Γ dX3_readCitizen_106 rfl ?_
              refine x_if_eq Γ (tgt := 114) dX3_readCitizen_107 (by decide) (fun c_8 => ?_) (fun c_8 => ?_)
              · have c_8 := zb_0.mp c_8
                refine x_iconst Γ (v := 2) dX3_readCitizen_114 rfl ?_
                refine x_callVv Γ calv_X0_setTrait wl_X3_83 dX3_readCitizen_115 (cM9 (m_X0_setTrait (g := cW g T (c3P (R 3) L T2 N kd p).1 T3 R X4) (b := 9) (T := (c3P (R 3) L T2 N kd p).1) (by omega) (wN_of (((congrFun (rt_T (by decide)) 8).trans (congrFun (rt_T (by decide)) 8)).trans (congrFun (rt_T (by decide)) 8)) (seT_N hN (by omega))) N (by omega) 5 2)) rfl (by decide) (by decide) (by rfl) rfl rfl rfl (Nat.le_of_ble_eq_true rfl) (Nat.le_refl _) (Nat.le_refl _) ?_
                rw [show traF 5 = 5 from rfl]
                refine x_aload_n Γ dX3_readCitizen_118 rfl ?_
                refine gf_X3_25 Γ dX3_readCitizen_119 (by decide) (by rfl) rfl ?_
                refine x_callVxv Γ calv_X2_advance wl_X3_213 dX3_readCitizen_122 (m_X2_advance (g := g) (T := T) (T2 := ts (c3P (R 3) L T2 N kd p).1 5 N 2) (T3 := T3) (R := R) hL eL (p := tE (R 3) L (c3P (R 3) L T2 N kd p).2.1) (tE_le (c3_p hp).1) hX4.2.1) rfl (by decide) (by decide) (by rfl) rfl rfl rfl (Nat.le_of_ble_eq_true rfl) (Nat.le_refl _) (Nat.le_refl _) (fun h_x hQ_x => ?_)
                obtain ⟨X5, rfl, hX5⟩ := hQ_x
                refine x_iconst Γ (v := 1) dX3_readCitizen_125 rfl ?_
                exact x_iretx ρ rfl dX3_readCitizen_126 (by first | exact zb_nz _ | rfl) (by rw [hG]; try rfl) (by rw [hG]; exact ⟨X5, rfl, hX5⟩)
              · have c_8 := zb_n0.mp c_8
                rw [hlf] at c_8
                exact absurd c_8 (by decide)
        · have c_4 := zb_0.mp c_4
          have c_4 : (c3P (R 3) L T2 N kd p).2.2 = false := c_4
          have hG : citP (R 3) L T2 N kd p = (c3P (R 3) L T2 N kd p) := (((if_neg (by omega)).trans (if_pos k1)).trans (if_pos k2)).trans (if_neg (by rw [c_4]; decide))
          refine x_iconst Γ (v := 0) dX3_readCitizen_62 rfl ?_
          exact x_iretx ρ rfl dX3_readCitizen_63 (by first | exact zb_nz _ | rfl) (by rw [hG, c_4]; try rfl) (by rw [hG]; exact ⟨X4, rfl, hX4⟩)
  · rw [hN.1] at c_1
    have c_1 := z_nlt (b := 10) c_1 (by omega) (by omega)
    have hG : citP (R 3) L T2 N kd p = (T2, p, false) := if_pos (by omega)
    refine x_iconst Γ (v := 0) dX3_readCitizen_12 rfl ?_
    exact x_iretx ρ rfl dX3_readCitizen_13 (by first | exact zb_nz _ | rfl) (by rw [hG]; try rfl) (by rw [hG]; exact ⟨X, rfl, hX⟩)
