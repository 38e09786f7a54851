-- ITEMS, AS THE REFERENCE READS THEM
def cmT (T : zT) (N : Nat) (kd h co cn tk : Int32) : zT := ts (ts (ts (ts (ts (ts (ts T 7 8 (nI N + 1)) 0 N kd) 1 N h) 2 N co) 3 N cn) 4 N 0) 5 N tk
theorem se_cm {T : zT} {N : Nat} {kd : Int32} : seT T N kd = cmT T N kd 3 0 10 0 := by
  unfold seT cmT
  rw [ts_comm (j := 7) (k := 0) (by decide), ts_comm (j := 7) (k := 1) (by decide), ts_comm (j := 7) (k := 2) (by decide), ts_comm (j := 7) (k := 3) (by decide), ts_comm (j := 7) (k := 4) (by decide), ts_comm (j := 7) (k := 5) (by decide), nI_1]
theorem cm_1 {T : zT} {N : Nat} {kd h co cn tk v : Int32} : ts (cmT T N kd h co cn tk) 1 N v = cmT T N kd v co cn tk := by
  unfold cmT
  rw [ts_comm (j := 5) (k := 1) (by decide), ts_comm (j := 4) (k := 1) (by decide), ts_comm (j := 3) (k := 1) (by decide), ts_comm (j := 2) (k := 1) (by decide), ts_tt]
theorem cm_2 {T : zT} {N : Nat} {kd h co cn tk v : Int32} : ts (cmT T N kd h co cn tk) 2 N v = cmT T N kd h v cn tk := by
  unfold cmT
  rw [ts_comm (j := 5) (k := 2) (by decide), ts_comm (j := 4) (k := 2) (by decide), ts_comm (j := 3) (k := 2) (by decide), ts_tt]
theorem cm_3 {T : zT} {N : Nat} {kd h co cn tk v : Int32} : ts (cmT T N kd h co cn tk) 3 N v = cmT T N kd h co v tk := by
  unfold cmT
  rw [ts_comm (j := 5) (k := 3) (by decide), ts_comm (j := 4) (k := 3) (by decide), ts_tt]
theorem cm_5 {T : zT} {N : Nat} {kd h co cn tk v : Int32} : ts (cmT T N kd h co cn tk) 5 N v = cmT T N kd h co cn v := by
  unfold cmT
  rw [ts_tt]
def stP (b : Nat → Int32) (L : Nat) (T : zT) (N w : Nat) (ws : List Int32) (p : Nat) (ok : Bool) : zT × Nat × Bool := if ok = true then rtP b L T N w ws p else (T, p, ok)
theorem st_no {b : Nat → Int32} {L : Nat} {T : zT} {N w : Nat} {ws : List Int32} {p : Nat} {ok : Bool} (h : (ok && isWd b L p ws) = false) : stP b L T N w ws p ok = (T, p, ok) := by
  unfold stP
  cases ok with
  | false => rfl
  | true => rw [if_pos rfl]; exact rt_0 h
theorem st_num {b : Nat → Int32} {L : Nat} {T : zT} {N w : Nat} {ws : List Int32} {p : Nat} {v lo hi : Int32} (htv : inR (tV b L (tE b L p)) lo hi = inR (tC b L (tE b L p)) lo hi ∧ (inR (tC b L (tE b L p)) lo hi = true → tV b L (tE b L p) = tC b L (tE b L p))) (hw : okT (nI w) (tC b L (tE b L p)) = inR (tC b L (tE b L p)) lo hi) (h : isWd b L p ws = true) (hv : tK b L (tE b L p) = 2 → v = tV b L (tE b L p)) :
    (stP b L T N w ws p true).2.1 = (if (!false && decide (tK b L (tE b L p) = 2) && inR v lo hi) = true then tE b L (tE b L p) else tE b L p) ∧ (stP b L T N w ws p true).2.2 = (!false && decide (tK b L (tE b L p) = 2) && inR v lo hi) ∧ ((stP b L T N w ws p true).2.2 = true → (stP b L T N w ws p true).1 = ts T w N v) := by
  have e : stP b L T N w ws p true = rtP b L T N w ws p := if_pos rfl
  rw [e]
  by_cases h2 : tK b L (tE b L p) = 2
  · rw [hv h2, htv.1, decide_eq_true h2]
    cases hi2 : inR (tC b L (tE b L p)) lo hi with
    | true =>
      rw [rt_1 h h2 (hw.trans hi2), htv.2 hi2]
      exact ⟨rfl, rfl, fun _ => rfl⟩
    | false =>
      rw [rt_2 h (fun z => by rw [hw, hi2] at z; cases z.2)]
      exact ⟨rfl, rfl, fun z => by cases z⟩
  · rw [rt_2 h (fun z => h2 z.1), decide_eq_false h2]
    exact ⟨rfl, rfl, fun z => by cases z⟩
def d1P (b : Nat → Int32) (L : Nat) (T : zT) (N : Nat) (kd : Int32) (p : Nat) : zT × Nat × Bool := stP b L (seT T N kd) N 1 (byt 7) (tE b L p) true
def d2P (b : Nat → Int32) (L : Nat) (T : zT) (N : Nat) (kd : Int32) (p : Nat) : zT × Nat × Bool := stP b L (d1P b L T N kd p).1 N 2 (byt 8) (d1P b L T N kd p).2.1 (d1P b L T N kd p).2.2
def d3P (b : Nat → Int32) (L : Nat) (T : zT) (N : Nat) (kd : Int32) (p : Nat) : zT × Nat × Bool := stP b L (d2P b L T N kd p).1 N 3 (byt 9) (d2P b L T N kd p).2.1 (d2P b L T N kd p).2.2
def d4P (b : Nat → Int32) (L : Nat) (T : zT) (N : Nat) (kd : Int32) (p : Nat) : zT × Nat × Bool := if (d3P b L T N kd p).2.2 = true then c4P b L (d3P b L T N kd p).1 N (d3P b L T N kd p).2.1 else d3P b L T N kd p
theorem cit_d {b : Nat → Int32} {L : Nat} {T : zT} {N : Nat} {kd : Int32} {p : Nat} (h : ¬ N = 10) : citP b L T N kd p = d4P b L T N kd p := by
  have e1 : d1P b L T N kd p = c1P b L T N kd p := by rw [d1P, stP, if_pos rfl, c1P]
  rw [citP, if_neg h]
  by_cases h1 : (c1P b L T N kd p).2.2 = true
  · have e2 : d2P b L T N kd p = c2P b L T N kd p := by rw [d2P, e1, stP, if_pos h1]; rfl
    rw [if_pos h1]
    by_cases h2 : (c2P b L T N kd p).2.2 = true
    · have e3 : d3P b L T N kd p = c3P b L T N kd p := by rw [d3P, e2, stP, if_pos h2]; rfl
      rw [if_pos h2, d4P, e3]
    · have e3 : d3P b L T N kd p = c2P b L T N kd p := by rw [d3P, e2, stP, if_neg h2]
      rw [if_neg h2, d4P, e3, if_neg h2]
  · have e2 : d2P b L T N kd p = c1P b L T N kd p := by rw [d2P, e1, stP, if_neg h1]
    have e3 : d3P b L T N kd p = c1P b L T N kd p := by rw [d3P, e2, stP, if_neg h1]
    rw [if_neg h1, d4P, e3, if_neg h1]
theorem st_p {b : Nat → Int32} {L : Nat} {T : zT} {N w : Nat} {ws : List Int32} {p : Nat} {ok : Bool} (hp : p ≤ L) : (stP b L T N w ws p ok).2.1 ≤ L := by
  unfold stP
  split
  · exact (rt_p hp).1
  · exact hp
theorem d1_p {b : Nat → Int32} {L : Nat} {T : zT} {N : Nat} {kd : Int32} {p : Nat} (hp : p ≤ L) : (d1P b L T N kd p).2.1 ≤ L := st_p (tE_le hp)
theorem d2_p {b : Nat → Int32} {L : Nat} {T : zT} {N : Nat} {kd : Int32} {p : Nat} (hp : p ≤ L) : (d2P b L T N kd p).2.1 ≤ L := st_p (d1_p hp)
theorem d3_p {b : Nat → Int32} {L : Nat} {T : zT} {N : Nat} {kd : Int32} {p : Nat} (hp : p ≤ L) : (d3P b L T N kd p).2.1 ≤ L := st_p (d2_p hp)
theorem tkR_8 {b : Nat → Int32} {L p : Nat} {R : zT} {v : Int32} (h : tkR b L p R) : tkR b L p (ts R 7 8 v) := ⟨(ts_i (by decide)).trans h.1, (ts_i (by decide)).trans h.2.1, (ts_i (by decide)).trans h.2.2.1, fun z => (ts_i (by decide)).trans (h.2.2.2 z)⟩

theorem d4_no {b : Nat → Int32} {L : Nat} {T : zT} {N : Nat} {kd : Int32} {p : Nat} (h1 : ((d3P b L T N kd p).2.2 && isWd b L (d3P b L T N kd p).2.1 (byt 10)) = false) (h2 : ((d3P b L T N kd p).2.2 && isWd b L (d3P b L T N kd p).2.1 (byt 11)) = false) : d4P b L T N kd p = ((d3P b L T N kd p).1, (d3P b L T N kd p).2.1, (d3P b L T N kd p).2.2) := by
  unfold d4P
  cases h : (d3P b L T N kd p).2.2 with
  | false => rw [if_neg (by decide), ← h]
  | true =>
    rw [h, Bool.true_and] at h1 h2
    rw [if_pos rfl, c4P, if_neg (by rw [h1]; decide), if_neg (by rw [h2]; decide)]

set_option maxRecDepth 100000 in
set_option maxHeartbeats 4000000 in
theorem m_X4_citizenItem {g : Nat → zE} {T R : zT} {b : Nat → Int32} {L p : Nat} (hL : L ≤ 120) (hp : p ≤ L) (h3 : R 3 = b) (eL : R 7 3 = nI L) (hk : tkR b L p R) (hbad : R 7 8 = zb false) {N : Nat} (hN : wN T N) (kd : Int32) : zMx 8 M_X4_citizenItem [.ref 37, .int kd] (hR g T R) 46 (none) (iQ g R b L (citP b L T N kd p)) := by
  refine zMx.intro (by decide) (Nat.le_of_ble_eq_true rfl) ?_
  intro Wf V m H0 Γ ρ
  replace Γ : zC Wf V m 6 H0 cX4_citizenItem RX4 8 0 0 := Γ
  show zX Wf V m 6 H0 0 (zls [(0, .ref 37), (1, .int kd)]) [] (hR g T R) 46 0 0
  have hN2 := hN.2
  have hel := tE_le (b := b) hp
  refine x_aload_n Γ dX4_citizenItem_0 rfl ?_
  refine x_aload_n Γ dX4_citizenItem_1 rfl ?_
  refine gf_X4_215 Γ dX4_citizenItem_2 (by decide) rfl rfl ?_
  refine x_if_ne Γ (tgt := 20) dX4_citizenItem_5 (by decide) (fun c_1 => ?_) (fun c_1 => ?_)
  · rw [hbad] at c_1
    exact absurd rfl c_1
  · refine x_aload_n Γ dX4_citizenItem_8 rfl ?_
    refine gf_X4_9 Γ dX4_citizenItem_9 (by decide) rfl rfl ?_
    refine x_bipush Γ (v := 8) dX4_citizenItem_12 rfl ?_
    refine x_iald Γ dX4_citizenItem_14 (by decide) (by rfl) (j := 8) rfl (by decide) (by decide) (mr_s (by decide)) ?_
    refine x_bipush Γ (v := 10) dX4_citizenItem_15 rfl ?_
    refine x_icmp_ne Γ (tgt := 24) dX4_citizenItem_17 (by decide) (fun c_2 => ?_) (fun c_2 => ?_)
    · rw [hN.1] at c_2
      have hne : ¬ N = 10 := fun z => c_2 (by rw [z]; rfl)
      refine x_iconst Γ (v := 0) dX4_citizenItem_24 rfl ?_
      refine pf_X4_215 Γ (hx := rfl) dX4_citizenItem_25 (by decide) rfl (Nat.le_of_ble_eq_true rfl) (hR_uO (k := 8) rfl) ?_
      refine x_aload_n Γ dX4_citizenItem_28 rfl ?_
      refine gf_X4_215 Γ dX4_citizenItem_29 (by decide) rfl rfl ?_
      refine x_if_eq Γ (tgt := 36) dX4_citizenItem_32 (by decide) (fun c_3 => ?_) (fun c_3 => ?_)
      · refine x_aload_n Γ dX4_citizenItem_36 rfl ?_
        refine x_callVxv Γ calv_X4_token wl_X4_232 dX4_citizenItem_37 (m_tok (g := g) (T := T) (R := ts R 7 8 0) (p := tE b L p) (bad := false) hL hel ((ts_n (by decide)).trans h3) ((ts_i (by decide)).trans eL) ((ts_i (by decide)).trans hk.2.1) ts_s) rfl (by decide) (by decide) rfl rfl rfl rfl (Nat.le_of_ble_eq_true rfl) (Nat.le_refl _) (Nat.le_refl _) (fun h_x hQ_x => ?_)
        obtain ⟨Q0, rfl, r0a, k0, b0⟩ := hQ_x
        have r0 := rl_tr (rl_ts (v := 0) (show 4 ≤ 8 by omega) (rl_rf (R := R))) r0a
        have G_61 : ∀ (Q1 : zT) (v : Int32), rlR R Q1 → tkR b L (d1P b L T N kd p).2.1 Q1 → Q1 7 8 = zb (!(d1P b L T N kd p).2.2) → ((d1P b L T N kd p).2.2 = true → (d1P b L T N kd p).1 = cmT T N kd v 0 10 0) → zX Wf V m 6 H0 61 (zls [(0, .ref 37), (1, .int kd), (2, .int v)]) [] (hR g T Q1) 46 0 0 := by
          intro Q1 h r1 k1 b1 t1
          have G_81 : ∀ (Q2 : zT) (v : Int32), rlR R Q2 → tkR b L (d2P b L T N kd p).2.1 Q2 → Q2 7 8 = zb (!(d2P b L T N kd p).2.2) → ((d2P b L T N kd p).2.2 = true → (d2P b L T N kd p).1 = cmT T N kd h v 10 0) → zX Wf V m 6 H0 81 (zls [(0, .ref 37), (1, .int kd), (2, .int h), (3, .int v)]) [] (hR g T Q2) 46 0 0 := by
            intro Q2 co r2 k2 b2 t2
            have G_106 : ∀ (Q3 : zT) (v : Int32), rlR R Q3 → tkR b L (d3P b L T N kd p).2.1 Q3 → Q3 7 8 = zb (!(d3P b L T N kd p).2.2) → ((d3P b L T N kd p).2.2 = true → (d3P b L T N kd p).1 = cmT T N kd h co v 0) → zX Wf V m 6 H0 106 (zls [(0, .ref 37), (1, .int kd), (2, .int h), (3, .int co), (4, .int v)]) [] (hR g T Q3) 46 0 0 := by
              intro Q3 cn r3 k3 b3 t3
              have G_137 : ∀ (Q4 : zT) (v : Int32), rlR R Q4 → tkR b L (d4P b L T N kd p).2.1 Q4 → Q4 7 8 = zb (!(d4P b L T N kd p).2.2) → ((d4P b L T N kd p).2.2 = true → (d4P b L T N kd p).1 = cmT T N kd h co cn v) → zX Wf V m 6 H0 137 (zls [(0, .ref 37), (1, .int kd), (2, .int h), (3, .int co), (4, .int cn), (5, .int v)]) [] (hR g T Q4) 46 0 0 := by
                intro Q4 tk r4 k4 b4 t4
                refine x_aload_n Γ dX4_citizenItem_137 rfl ?_
                refine gf_X4_215 Γ dX4_citizenItem_138 (by decide) rfl rfl ?_
                refine x_if_ne Γ (tgt := 156) dX4_citizenItem_141 (by decide) (fun c_4 => ?_) (fun c_4 => ?_)
                · have hG := cit_d (b := b) (L := L) (T := T) (kd := kd) (p := p) hne
                  rw [b4] at c_4
                  have hno : (d4P b L T N kd p).2.2 = false := by
                    have := zb_n0.mp c_4
                    simpa using this
                  exact x_vretx ρ dX4_citizenItem_156 (by rw [hG]; exact ⟨T, Q4, rfl, r4, k4, b4, fun z => by rw [hno] at z; cases z⟩)
                · have hG := cit_d (b := b) (L := L) (T := T) (kd := kd) (p := p) hne
                  rw [b4] at c_4
                  have hyes : (d4P b L T N kd p).2.2 = true := by
                    have := zb_0.mp c_4
                    simpa using this
                  refine x_aload_n Γ dX4_citizenItem_144 rfl ?_
                  refine x_iload_n Γ dX4_citizenItem_145 rfl ?_
                  refine x_iload_n Γ dX4_citizenItem_146 rfl ?_
                  refine x_iload_n Γ dX4_citizenItem_147 rfl ?_
                  refine x_iload Γ dX4_citizenItem_148 rfl ?_
                  refine x_iload Γ dX4_citizenItem_150 rfl ?_
                  refine x_callV Γ calv_X4_comes wl_X4_59 dX4_citizenItem_152 (m_X4_comes (g := g) (T := T) (R := Q4) hN (by omega) kd h co cn tk) rfl (by decide) (by decide) rfl rfl rfl rfl (Nat.le_of_ble_eq_true rfl) (Nat.le_refl _) (Nat.le_refl _) ?_
                  refine x_pop Γ dX4_citizenItem_155 rfl ?_
                  exact x_vretx ρ dX4_citizenItem_156 (by rw [hG]; exact ⟨_, Q4, rfl, r4, k4, b4, fun z => (t4 z).symm⟩)
              refine x_aload_n Γ dX4_citizenItem_106 rfl ?_
              refine x_ldsw Γ (i := 28) (by decide) rfl rfl dX4_citizenItem_107 ?_
              refine x_callVx Γ calv_X4_takes wl_X4_250 dX4_citizenItem_110 (m_X4_takes (g := g) (T := T) (R := Q3) (b := b) (L := L) (p := (d3P b L T N kd p).2.1) (bad := (!(d3P b L T N kd p).2.2)) hL (d3_p hp) (((r3).1 3 (by decide)).trans h3) (((r3).2 3 (by omega)).trans eL) k3 b3 (i := 28) (by decide)) rfl (by decide) (by decide) rfl rfl rfl rfl (Nat.le_of_ble_eq_true rfl) (Nat.le_refl _) (Nat.le_refl _) (fun h_x hQ_x => ?_)
              obtain ⟨S3, rfl, rs3, ks3, bs3⟩ := hQ_x
              refine x_if_eq Γ (tgt := 120) dX4_citizenItem_113 (by decide) (fun c_5 => ?_) (fun c_5 => ?_)
              · have c_5 := zb_0.mp c_5
                have ks3x := ks3
                rw [c_5, if_neg (by decide)] at ks3x
                have tf3 : ((d3P b L T N kd p).2.2 && isWd b L (d3P b L T N kd p).2.1 (byt 10)) = false := by first | exact c_5 | (rw [Bool.not_not] at c_5; exact c_5)
                refine x_aload_n Γ dX4_citizenItem_120 rfl ?_
                refine x_ldsw Γ (i := 29) (by decide) rfl rfl dX4_citizenItem_121 ?_
                refine x_callVx Γ calv_X4_takes wl_X4_250 dX4_citizenItem_124 (m_X4_takes (g := g) (T := T) (R := S3) (b := b) (L := L) (p := (d3P b L T N kd p).2.1) (bad := (!(d3P b L T N kd p).2.2)) hL (d3_p hp) (((rl_tr r3 rs3).1 3 (by decide)).trans h3) (((rl_tr r3 rs3).2 3 (by omega)).trans eL) ks3x bs3 (i := 29) (by decide)) rfl (by decide) (by decide) rfl rfl rfl rfl (Nat.le_of_ble_eq_true rfl) (Nat.le_refl _) (Nat.le_refl _) (fun h_x hQ_x => ?_)
                obtain ⟨S4, rfl, rs4, ks4, bs4⟩ := hQ_x
                refine x_if_eq Γ (tgt := 134) dX4_citizenItem_127 (by decide) (fun c_6 => ?_) (fun c_6 => ?_)
                · have c_6 := zb_0.mp c_6
                  have ks4x := ks4
                  rw [c_6, if_neg (by decide)] at ks4x
                  have tf4 : ((d3P b L T N kd p).2.2 && isWd b L (d3P b L T N kd p).2.1 (byt 11)) = false := by first | exact c_6 | (rw [Bool.not_not] at c_6; exact c_6)
                  have e4 : (d4P b L T N kd p) = ((d3P b L T N kd p).1, (d3P b L T N kd p).2.1, (d3P b L T N kd p).2.2) := d4_no tf3 tf4
                  refine x_iconst Γ (v := 0) dX4_citizenItem_134 rfl ?_
                  refine x_istore Γ dX4_citizenItem_135 (by decide) ?_
                  exact x_subl [(0, .ref 37), (1, .int kd), (2, .int h), (3, .int co), (4, .int cn), (5, .int 0)] (List.forall_mem_cons.mpr ⟨rfl, List.forall_mem_cons.mpr ⟨rfl, List.forall_mem_cons.mpr ⟨rfl, List.forall_mem_cons.mpr ⟨rfl, List.forall_mem_cons.mpr ⟨rfl, List.forall_mem_cons.mpr ⟨rfl, fun _ hz => absurd hz List.not_mem_nil⟩⟩⟩⟩⟩⟩) (G_137 S4 0 (rl_tr (rl_tr r3 rs3) rs4) (by rw [e4]; exact ks4x) (by rw [e4]; exact bs4) (by rw [e4]; exact t3))
                · have c_6 := zb_n0.mp c_6
                  have ks4x := ks4
                  rw [c_6, if_pos rfl] at ks4x
                  have tt4 : ((d3P b L T N kd p).2.2 && isWd b L (d3P b L T N kd p).2.1 (byt 11)) = true := by first | exact c_6 | (rw [Bool.not_not] at c_6; exact c_6)
                  have to4 := (Bool.and_eq_true_iff.mp tt4).1
                  have tw4 := (Bool.and_eq_true_iff.mp tt4).2
                  have tf3b : isWd b L (d3P b L T N kd p).2.1 (byt 10) = false := by rw [to4] at tf3; exact tf3
                  have e4 : (d4P b L T N kd p) = (ts (d3P b L T N kd p).1 5 N 2, tE b L (d3P b L T N kd p).2.1, true) := ((if_pos to4).trans (if_neg (by rw [tf3b]; decide))).trans (if_pos tw4)
                  refine x_iconst Γ (v := 2) dX4_citizenItem_130 rfl ?_
                  refine x_goto Γ (tgt := 135) dX4_citizenItem_131 (by decide) ?_
                  refine x_istore Γ dX4_citizenItem_135 (by decide) ?_
                  exact x_subl [(0, .ref 37), (1, .int kd), (2, .int h), (3, .int co), (4, .int cn), (5, .int 2)] (List.forall_mem_cons.mpr ⟨rfl, List.forall_mem_cons.mpr ⟨rfl, List.forall_mem_cons.mpr ⟨rfl, List.forall_mem_cons.mpr ⟨rfl, List.forall_mem_cons.mpr ⟨rfl, List.forall_mem_cons.mpr ⟨rfl, fun _ hz => absurd hz List.not_mem_nil⟩⟩⟩⟩⟩⟩) (G_137 S4 2 (rl_tr (rl_tr r3 rs3) rs4) (by rw [e4]; exact ks4x) (by rw [e4]; exact (by rw [bs4, to4])) (by rw [e4]; exact fun _ => by rw [t3 to4, cm_5]))
              · have c_5 := zb_n0.mp c_5
                have ks3x := ks3
                rw [c_5, if_pos rfl] at ks3x
                have tt3 : ((d3P b L T N kd p).2.2 && isWd b L (d3P b L T N kd p).2.1 (byt 10)) = true := by first | exact c_5 | (rw [Bool.not_not] at c_5; exact c_5)
                have to3 := (Bool.and_eq_true_iff.mp tt3).1
                have tw3 := (Bool.and_eq_true_iff.mp tt3).2
                have e4 : (d4P b L T N kd p) = (ts (d3P b L T N kd p).1 5 N 1, tE b L (d3P b L T N kd p).2.1, true) := (if_pos to3).trans (if_pos tw3)
                refine x_iconst Γ (v := 1) dX4_citizenItem_116 rfl ?_
                refine x_goto Γ (tgt := 135) dX4_citizenItem_117 (by decide) ?_
                refine x_istore Γ dX4_citizenItem_135 (by decide) ?_
                exact x_subl [(0, .ref 37), (1, .int kd), (2, .int h), (3, .int co), (4, .int cn), (5, .int 1)] (List.forall_mem_cons.mpr ⟨rfl, List.forall_mem_cons.mpr ⟨rfl, List.forall_mem_cons.mpr ⟨rfl, List.forall_mem_cons.mpr ⟨rfl, List.forall_mem_cons.mpr ⟨rfl, List.forall_mem_cons.mpr ⟨rfl, fun _ hz => absurd hz List.not_mem_nil⟩⟩⟩⟩⟩⟩) (G_137 S3 1 (rl_tr r3 rs3) (by rw [e4]; exact ks3x) (by rw [e4]; exact (by rw [bs3, to3])) (by rw [e4]; exact fun _ => by rw [t3 to3, cm_5]))
            refine x_aload_n Γ dX4_citizenItem_81 rfl ?_
            refine x_ldsw Γ (i := 27) (by decide) rfl rfl dX4_citizenItem_82 ?_
            refine x_callVx Γ calv_X4_takes wl_X4_250 dX4_citizenItem_85 (m_X4_takes (g := g) (T := T) (R := Q2) (b := b) (L := L) (p := (d2P b L T N kd p).2.1) (bad := (!(d2P b L T N kd p).2.2)) hL (d2_p hp) (((r2).1 3 (by decide)).trans h3) (((r2).2 3 (by omega)).trans eL) k2 b2 (i := 27) (by decide)) rfl (by decide) (by decide) rfl rfl rfl rfl (Nat.le_of_ble_eq_true rfl) (Nat.le_refl _) (Nat.le_refl _) (fun h_x hQ_x => ?_)
            obtain ⟨S2, rfl, rs2, ks2, bs2⟩ := hQ_x
            refine x_if_eq Γ (tgt := 102) dX4_citizenItem_88 (by decide) (fun c_7 => ?_) (fun c_7 => ?_)
            · have c_7 := zb_0.mp c_7
              have ks2x := ks2
              rw [c_7, if_neg (by decide)] at ks2x
              have tf2 : ((d2P b L T N kd p).2.2 && isWd b L (d2P b L T N kd p).2.1 (byt 9)) = false := by first | exact c_7 | (rw [Bool.not_not] at c_7; exact c_7)
              refine x_bipush Γ (v := 10) dX4_citizenItem_102 rfl ?_
              refine x_istore Γ dX4_citizenItem_104 (by decide) ?_
              exact x_subl [(0, .ref 37), (1, .int kd), (2, .int h), (3, .int co), (4, .int 10)] (List.forall_mem_cons.mpr ⟨rfl, List.forall_mem_cons.mpr ⟨rfl, List.forall_mem_cons.mpr ⟨rfl, List.forall_mem_cons.mpr ⟨rfl, List.forall_mem_cons.mpr ⟨rfl, fun _ hz => absurd hz List.not_mem_nil⟩⟩⟩⟩⟩) (G_106 S2 10 (rl_tr r2 rs2) (by rw [(show (d3P b L T N kd p) = ((d2P b L T N kd p).1, _, (d2P b L T N kd p).2.2) from st_no tf2)]; exact ks2x) (by rw [(show (d3P b L T N kd p) = ((d2P b L T N kd p).1, _, (d2P b L T N kd p).2.2) from st_no tf2)]; exact bs2) (by rw [(show (d3P b L T N kd p) = ((d2P b L T N kd p).1, _, (d2P b L T N kd p).2.2) from st_no tf2)]; exact t2))
            · have c_7 := zb_n0.mp c_7
              have ks2x := ks2
              rw [c_7, if_pos rfl] at ks2x
              have tt2 : ((d2P b L T N kd p).2.2 && isWd b L (d2P b L T N kd p).2.1 (byt 9)) = true := by first | exact c_7 | (rw [Bool.not_not] at c_7; exact c_7)
              have to2 := (Bool.and_eq_true_iff.mp tt2).1
              have tw2 := (Bool.and_eq_true_iff.mp tt2).2
              have bs2x : S2 7 8 = zb false := by rw [bs2, to2]; try rfl
              refine x_aload_n Γ dX4_citizenItem_91 rfl ?_
              refine x_iconst Γ (v := 0) dX4_citizenItem_92 rfl ?_
              refine x_sipush Γ (v := 9999) dX4_citizenItem_93 rfl ?_
              refine x_callVx Γ calv_X4_number wl_X4_253 dX4_citizenItem_96 (m_X4_number (g := g) (T := T) (R := S2) (b := b) (L := L) (p := (tE b L (d2P b L T N kd p).2.1)) (bad := false) hL (tE_le (d2_p hp)) (((rl_tr r2 rs2).1 3 (by decide)).trans h3) (((rl_tr r2 rs2).2 3 (by omega)).trans eL) ks2x (bs2x) 0 9999) rfl (by decide) (by decide) rfl rfl rfl rfl (Nat.le_of_ble_eq_true rfl) (Nat.le_refl _) (Nat.le_refl _) (fun h_x hQ_x => ?_)
              obtain ⟨W2, rfl, rw2, kw2, bw2⟩ := hQ_x
              have sn2 := st_num (T := (d2P b L T N kd p).1) (N := N) (w := 3) (tv_in (b := b) (L := L) (p := tE b L (d2P b L T N kd p).2.1) (lo := 0) (hi := 9999) (by omega) (by omega)) rfl tw2 (fun z => ks2x.2.2.2 z)
              refine x_goto Γ (tgt := 104) dX4_citizenItem_99 (by decide) ?_
              refine x_istore Γ dX4_citizenItem_104 (by decide) ?_
              exact x_subl [(0, .ref 37), (1, .int kd), (2, .int h), (3, .int co), (4, .int (S2 7 7))] (List.forall_mem_cons.mpr ⟨rfl, List.forall_mem_cons.mpr ⟨rfl, List.forall_mem_cons.mpr ⟨rfl, List.forall_mem_cons.mpr ⟨rfl, List.forall_mem_cons.mpr ⟨rfl, fun _ hz => absurd hz List.not_mem_nil⟩⟩⟩⟩⟩) (G_106 W2 (S2 7 7) (rl_tr (rl_tr r2 rs2) rw2) (by rw [d3P, to2]; rw [sn2.1]; exact kw2) (by rw [d3P, to2]; rw [sn2.2.1]; exact bw2) (by rw [d3P, to2]; exact fun z => (sn2.2.2 z).trans (by rw [(t2 to2), cm_3])))
          refine x_aload_n Γ dX4_citizenItem_61 rfl ?_
          refine x_lds Γ (i := 26) (by decide) rfl rfl dX4_citizenItem_62 ?_
          refine x_callVx Γ calv_X4_takes wl_X4_250 dX4_citizenItem_64 (m_X4_takes (g := g) (T := T) (R := Q1) (b := b) (L := L) (p := (d1P b L T N kd p).2.1) (bad := (!(d1P b L T N kd p).2.2)) hL (d1_p hp) (((r1).1 3 (by decide)).trans h3) (((r1).2 3 (by omega)).trans eL) k1 b1 (i := 26) (by decide)) rfl (by decide) (by decide) rfl rfl rfl rfl (Nat.le_of_ble_eq_true rfl) (Nat.le_refl _) (Nat.le_refl _) (fun h_x hQ_x => ?_)
          obtain ⟨S1, rfl, rs1, ks1, bs1⟩ := hQ_x
          refine x_if_eq Γ (tgt := 79) dX4_citizenItem_67 (by decide) (fun c_8 => ?_) (fun c_8 => ?_)
          · have c_8 := zb_0.mp c_8
            have ks1x := ks1
            rw [c_8, if_neg (by decide)] at ks1x
            have tf1 : ((d1P b L T N kd p).2.2 && isWd b L (d1P b L T N kd p).2.1 (byt 8)) = false := by first | exact c_8 | (rw [Bool.not_not] at c_8; exact c_8)
            refine x_iconst Γ (v := 0) dX4_citizenItem_79 rfl ?_
            refine x_istore_n Γ dX4_citizenItem_80 (by decide) ?_
            exact x_subl [(0, .ref 37), (1, .int kd), (2, .int h), (3, .int 0)] (List.forall_mem_cons.mpr ⟨rfl, List.forall_mem_cons.mpr ⟨rfl, List.forall_mem_cons.mpr ⟨rfl, List.forall_mem_cons.mpr ⟨rfl, fun _ hz => absurd hz List.not_mem_nil⟩⟩⟩⟩) (G_81 S1 0 (rl_tr r1 rs1) (by rw [(show (d2P b L T N kd p) = ((d1P b L T N kd p).1, _, (d1P b L T N kd p).2.2) from st_no tf1)]; exact ks1x) (by rw [(show (d2P b L T N kd p) = ((d1P b L T N kd p).1, _, (d1P b L T N kd p).2.2) from st_no tf1)]; exact bs1) (by rw [(show (d2P b L T N kd p) = ((d1P b L T N kd p).1, _, (d1P b L T N kd p).2.2) from st_no tf1)]; exact t1))
          · have c_8 := zb_n0.mp c_8
            have ks1x := ks1
            rw [c_8, if_pos rfl] at ks1x
            have tt1 : ((d1P b L T N kd p).2.2 && isWd b L (d1P b L T N kd p).2.1 (byt 8)) = true := by first | exact c_8 | (rw [Bool.not_not] at c_8; exact c_8)
            have to1 := (Bool.and_eq_true_iff.mp tt1).1
            have tw1 := (Bool.and_eq_true_iff.mp tt1).2
            have bs1x : S1 7 8 = zb false := by rw [bs1, to1]; try rfl
            refine x_aload_n Γ dX4_citizenItem_70 rfl ?_
            refine x_iconst Γ (v := 0) dX4_citizenItem_71 rfl ?_
            refine x_iconst Γ (v := 3) dX4_citizenItem_72 rfl ?_
            refine x_callVx Γ calv_X4_number wl_X4_253 dX4_citizenItem_73 (m_X4_number (g := g) (T := T) (R := S1) (b := b) (L := L) (p := (tE b L (d1P b L T N kd p).2.1)) (bad := false) hL (tE_le (d1_p hp)) (((rl_tr r1 rs1).1 3 (by decide)).trans h3) (((rl_tr r1 rs1).2 3 (by omega)).trans eL) ks1x (bs1x) 0 3) rfl (by decide) (by decide) rfl rfl rfl rfl (Nat.le_of_ble_eq_true rfl) (Nat.le_refl _) (Nat.le_refl _) (fun h_x hQ_x => ?_)
            obtain ⟨W1, rfl, rw1, kw1, bw1⟩ := hQ_x
            have sn1 := st_num (T := (d1P b L T N kd p).1) (N := N) (w := 2) (tv_in (b := b) (L := L) (p := tE b L (d1P b L T N kd p).2.1) (lo := 0) (hi := 3) (by omega) (by omega)) rfl tw1 (fun z => ks1x.2.2.2 z)
            refine x_goto Γ (tgt := 80) dX4_citizenItem_76 (by decide) ?_
            refine x_istore_n Γ dX4_citizenItem_80 (by decide) ?_
            exact x_subl [(0, .ref 37), (1, .int kd), (2, .int h), (3, .int (S1 7 7))] (List.forall_mem_cons.mpr ⟨rfl, List.forall_mem_cons.mpr ⟨rfl, List.forall_mem_cons.mpr ⟨rfl, List.forall_mem_cons.mpr ⟨rfl, fun _ hz => absurd hz List.not_mem_nil⟩⟩⟩⟩) (G_81 W1 (S1 7 7) (rl_tr (rl_tr r1 rs1) rw1) (by rw [d2P, to1]; rw [sn1.1]; exact kw1) (by rw [d2P, to1]; rw [sn1.2.1]; exact bw1) (by rw [d2P, to1]; exact fun z => (sn1.2.2 z).trans (by rw [(t1 to1), cm_2])))
        refine x_aload_n Γ dX4_citizenItem_40 rfl ?_
        refine x_lds Γ (i := 25) (by decide) rfl rfl dX4_citizenItem_41 ?_
        refine x_callVx Γ calv_X4_takes wl_X4_250 dX4_citizenItem_43 (m_X4_takes (g := g) (T := T) (R := Q0) (b := b) (L := L) (p := (tE b L p)) (bad := false) hL (tE_le hp) (((r0).1 3 (by decide)).trans h3) (((r0).2 3 (by omega)).trans eL) k0 b0 (i := 25) (by decide)) rfl (by decide) (by decide) rfl rfl rfl rfl (Nat.le_of_ble_eq_true rfl) (Nat.le_refl _) (Nat.le_refl _) (fun h_x hQ_x => ?_)
        obtain ⟨S0, rfl, rs0, ks0, bs0⟩ := hQ_x
        refine x_if_eq Γ (tgt := 59) dX4_citizenItem_46 (by decide) (fun c_9 => ?_) (fun c_9 => ?_)
        · have c_9 := zb_0.mp c_9
          have ks0x := ks0
          rw [c_9, if_neg (by decide)] at ks0x
          have tf0 : (true && isWd b L (tE b L p) (byt 7)) = false := by first | exact c_9 | (rw [Bool.not_not] at c_9; exact c_9)
          refine x_iconst Γ (v := 3) dX4_citizenItem_59 rfl ?_
          refine x_istore_n Γ dX4_citizenItem_60 (by decide) ?_
          exact x_subl [(0, .ref 37), (1, .int kd), (2, .int 3)] (List.forall_mem_cons.mpr ⟨rfl, List.forall_mem_cons.mpr ⟨rfl, List.forall_mem_cons.mpr ⟨rfl, fun _ hz => absurd hz List.not_mem_nil⟩⟩⟩) (G_61 S0 3 (rl_tr r0 rs0) (by rw [(show (d1P b L T N kd p) = ((seT T N kd), _, true) from st_no tf0)]; exact ks0x) (by rw [(show (d1P b L T N kd p) = ((seT T N kd), _, true) from st_no tf0)]; exact bs0) (by rw [(show (d1P b L T N kd p) = ((seT T N kd), _, true) from st_no tf0)]; exact fun _ => se_cm))
        · have c_9 := zb_n0.mp c_9
          have ks0x := ks0
          rw [c_9, if_pos rfl] at ks0x
          have tt0 : (true && isWd b L (tE b L p) (byt 7)) = true := by first | exact c_9 | (rw [Bool.not_not] at c_9; exact c_9)
          have to0 := (Bool.and_eq_true_iff.mp tt0).1
          have tw0 := (Bool.and_eq_true_iff.mp tt0).2
          have bs0x : S0 7 8 = zb false := by rw [bs0]; try rfl
          refine x_aload_n Γ dX4_citizenItem_49 rfl ?_
          refine x_iconst Γ (v := 0) dX4_citizenItem_50 rfl ?_
          refine x_bipush Γ (v := 9) dX4_citizenItem_51 rfl ?_
          refine x_callVx Γ calv_X4_number wl_X4_253 dX4_citizenItem_53 (m_X4_number (g := g) (T := T) (R := S0) (b := b) (L := L) (p := (tE b L (tE b L p))) (bad := false) hL (tE_le (tE_le hp)) (((rl_tr r0 rs0).1 3 (by decide)).trans h3) (((rl_tr r0 rs0).2 3 (by omega)).trans eL) ks0x (bs0x) 0 9) rfl (by decide) (by decide) rfl rfl rfl rfl (Nat.le_of_ble_eq_true rfl) (Nat.le_refl _) (Nat.le_refl _) (fun h_x hQ_x => ?_)
          obtain ⟨W0, rfl, rw0, kw0, bw0⟩ := hQ_x
          have sn0 := st_num (T := (seT T N kd)) (N := N) (w := 1) (tv_in (b := b) (L := L) (p := tE b L (tE b L p)) (lo := 0) (hi := 9) (by omega) (by omega)) rfl tw0 (fun z => ks0x.2.2.2 z)
          refine x_goto Γ (tgt := 60) dX4_citizenItem_56 (by decide) ?_
          refine x_istore_n Γ dX4_citizenItem_60 (by decide) ?_
          exact x_subl [(0, .ref 37), (1, .int kd), (2, .int (S0 7 7))] (List.forall_mem_cons.mpr ⟨rfl, List.forall_mem_cons.mpr ⟨rfl, List.forall_mem_cons.mpr ⟨rfl, fun _ hz => absurd hz List.not_mem_nil⟩⟩⟩) (G_61 W0 (S0 7 7) (rl_tr (rl_tr r0 rs0) rw0) (by rw [d1P]; rw [sn0.1]; exact kw0) (by rw [d1P]; rw [sn0.2.1]; exact bw0) (by rw [d1P]; exact fun z => (sn0.2.2 z).trans (by rw [se_cm, cm_1])))
      · rw [ts_s] at c_3
        exact absurd rfl c_3
    · rw [hN.1] at c_2
      have h10 : N = 10 := (nI_eq (b := 10) (by omega) (by omega)).mp c_2
      have hG : citP b L T N kd p = (T, p, false) := if_pos h10
      refine x_iconst Γ (v := 1) dX4_citizenItem_20 rfl ?_
      refine x_goto Γ (tgt := 25) dX4_citizenItem_21 (by decide) ?_
      refine pf_X4_215 Γ (hx := rfl) dX4_citizenItem_25 (by decide) rfl (Nat.le_of_ble_eq_true rfl) (hR_uO (k := 8) rfl) ?_
      refine x_aload_n Γ dX4_citizenItem_28 rfl ?_
      refine gf_X4_215 Γ dX4_citizenItem_29 (by decide) rfl rfl ?_
      refine x_if_eq Γ (tgt := 36) dX4_citizenItem_32 (by decide) (fun c_10 => ?_) (fun c_10 => ?_)
      · rw [ts_s] at c_10
        exact absurd c_10 (by decide)
      · exact x_vretx ρ dX4_citizenItem_35 (by rw [hG]; exact ⟨T, _, rfl, rl_ts (by omega) rl_rf, tkR_8 hk, ts_s, fun z => by cases z⟩)
