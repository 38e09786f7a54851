-- THE CITY'S INVARIANT
theorem wTk_of {T U : zT} {N : Nat} (h : U 5 = T 5) (hT : wTk T N) : wTk U N := fun c hc => by rw [h]; exact hT c hc
theorem wP_of {T U : zT} {N : Nat} (h : U 6 = T 6) (hP : wP T N) : wP U N := fun i hi => by rw [h]; exact hP i hi
theorem wKd_of {T U : zT} {N : Nat} (h : U 0 = T 0) (hK : wKd T N) : wKd U N := fun c hc => by rw [h]; exact hK c hc
theorem wB_of {T U : zT} {N : Nat} (h5 : U 7 5 = T 7 5) (h6 : U 7 6 = T 7 6) (h4 : U 4 = T 4) (hB : wB T N) : wB U N := by
  obtain ⟨w, r, a, b, c, d, e⟩ := hB
  exact ⟨w, r, a, b, h5.trans c, h6.trans d, fun i hi => by rw [h4]; exact e i hi⟩
def iTN (T : zT) (N : Nat) : Prop := wN T N ∧ wH T N ∧ wTk T N ∧ wL T ∧ wP T N ∧ wKd T N ∧ wB T N
def iT (T : zT) : Prop := ∃ N, iTN T N
theorem iTN_7 {T U : zT} {N : Nat} (h : iTN T N) (hr : ∀ a, a ≠ 7 → U a = T a) (h5 : U 7 5 = T 7 5) (h6 : U 7 6 = T 7 6) (h8 : U 7 8 = T 7 8) (hL : wL U) : iTN U N := by
  obtain ⟨a, b, c, d, e, f, g⟩ := h
  exact ⟨wN_of h8 a, wH_of (hr 1 (by decide)) b, wTk_of (hr 5 (by decide)) c, hL, wP_of (hr 6 (by decide)) e, wKd_of (hr 0 (by decide)) f, wB_of h5 h6 (hr 4 (by decide)) g⟩
theorem iTN_seed {T : zT} {N : Nat} (h : iTN T N) (v : Int32) : iTN (ts T 7 7 v) N := iTN_7 h (fun a ha => ts_n ha) (ts_i (by decide)) (ts_i (by decide)) (ts_i (by decide)) (wL_k (by decide) (by decide) h.2.2.2.1)
theorem iTN_rule {T : zT} {N w : Nat} {v : Int32} (h : iTN T N) (hw : w < 5) (hv : okR (nI w) v = true) : iTN (ts T 7 w v) N := by
  refine iTN_7 h (fun a ha => ts_n ha) (ts_i (by omega)) (ts_i (by omega)) (ts_i (by omega)) ?_
  match w, hw, hv with
  | 0, _, hv =>
    obtain ⟨j, hj, rfl⟩ := inR_nI (n := 10) (show inR v 0 10 = true from hv) rfl (by omega)
    exact wL_0 hj h.2.2.2.1
  | 1, _, hv =>
    obtain ⟨j, hj, rfl⟩ := inR_nI (n := 10) (show inR v 0 10 = true from hv) rfl (by omega)
    obtain ⟨l, s, hl, hs, e1, e2⟩ := h.2.2.2.1
    exact ⟨l, j, hl, hj, (ts_i (by decide)).trans e1, ts_s⟩
  | 2, _, _ => exact wL_k (by decide) (by decide) h.2.2.2.1
  | 3, _, _ => exact wL_k (by decide) (by decide) h.2.2.2.1
  | 4, _, _ => exact wL_k (by decide) (by decide) h.2.2.2.1
theorem iTN_row {T U : zT} {N : Nat} (h : iTN T N) (h7 : U 7 = T 7) (h4 : U 4 = T 4) (hH : wH U N) (hTk : wTk U N) (hP : wP U N) (hKd : wKd U N) : iTN U N := by
  obtain ⟨a, b, c, d, e, f, g⟩ := h
  exact ⟨wN_of (congrFun h7 8) a, hH, hTk, wL_of (congrFun h7 0) (congrFun h7 1) d, hP, hKd, wB_of (congrFun h7 5) (congrFun h7 6) h4 g⟩
theorem iTN_trait {T : zT} {N w c : Nat} {v : Int32} (h : iTN T N) (hw : w < 6) (hv : okT (nI w) v = true) : iTN (ts T w c v) N := by
  have h4 : w ≠ 4 := fun z => by subst z; exact absurd (show false = true from hv) (by decide)
  refine iTN_row h (ts_n (by omega)) (ts_n (fun z => h4 z.symm)) ?_ ?_ (wP_of (ts_n (by omega)) h.2.2.2.2.1) ?_
  · by_cases h1 : w = 1
    · subst h1
      intro i hi
      by_cases e : i = c
      · subst e
        rw [ts_s]
        obtain ⟨j, hj, rfl⟩ := inR_nI (n := 9) (show inR v 0 9 = true from hv) rfl (by omega)
        exact ⟨j, hj, rfl⟩
      · rw [ts_i e]
        exact h.2.1 i hi
    · exact wH_of (ts_n (fun z => h1 z.symm)) h.2.1
  · by_cases h1 : w = 5
    · subst h1
      intro i hi
      by_cases e : i = c
      · subst e
        rw [ts_s]
        obtain ⟨j, hj, rfl⟩ := inR_nI (n := 2) (show inR v 0 2 = true from hv) rfl (by omega)
        match j, hj with
        | 0, _ => exact Or.inl rfl
        | 1, _ => exact Or.inr (Or.inl rfl)
        | 2, _ => exact Or.inr (Or.inr rfl)
      · rw [ts_i e]
        exact h.2.2.1 i hi
    · exact wTk_of (ts_n (fun z => h1 z.symm)) h.2.2.1
  · by_cases h1 : w = 0
    · subst h1
      intro i hi
      by_cases e : i = c
      · subst e
        rw [ts_s]
        exact hv
      · rw [ts_i e]
        exact h.2.2.2.2.2.1 i hi
    · exact wKd_of (ts_n (fun z => h1 z.symm)) h.2.2.2.2.2.1
theorem iT_chg {T : zT} (h : iT T) (c w v : Int32) : iT (tChg T c w v) := by
  obtain ⟨N, h⟩ := h
  unfold tChg
  split
  · rename_i e
    unfold fChg at e
    split at e
    · rename_i e2
      obtain ⟨k, hk, rfl, e3⟩ := okT_nI e2.2
      rw [e3]
      exact ⟨N, iTN_trait h hk e2.2⟩
    · cases e
  · exact ⟨N, h⟩
theorem iT_rul {T : zT} (h : iT T) (w v : Int32) : iT (tRul T w v) := by
  obtain ⟨N, h⟩ := h
  unfold tRul
  split
  · rename_i e
    unfold fRul at e
    split at e
    · rename_i e2
      obtain ⟨k, hk, rfl, e3⟩ := okR_nI e2
      rw [e3]
      exact ⟨N, iTN_rule h hk e2⟩
    · cases e
  · exact ⟨N, h⟩
theorem wTk_ex {T : zT} {N a b : Nat} (h : wTk T N) (ha : a < N) (hb : b < N) : wTk (exT T a b) N := by
  intro c hc
  unfold exT
  by_cases e : c = b
  · subst e
    rw [ts_s]
    exact h a ha
  · rw [ts_i e]
    by_cases e2 : c = a
    · subst e2
      rw [ts_s]
      exact h b hb
    · rw [ts_i e2]
      exact h c hc
theorem iTN_ex {T : zT} {N a b : Nat} (h : iTN T N) (ha : a < N) (hb : b < N) : iTN (exT T a b) N := iTN_row h (exT_n (by decide)) (exT_n (by decide)) (wH_of (exT_n (by decide)) h.2.1) (wTk_ex h.2.2.1 ha hb) (wP_of (exT_n (by decide)) h.2.2.2.2.1) (wKd_of (exT_n (by decide)) h.2.2.2.2.2.1)
theorem iTN_og {T : zT} {N : Nat} (h : iTN T N) : ∀ c, c ≤ N → iTN (ogS T N c).1 N := by
  intro c
  induction c with
  | zero => exact fun _ => h
  | succ c ih =>
    intro hc
    simp only [ogS]
    split
    · split
      · rename_i e
        exact iTN_ex (ih (by omega)) (by omega) e
      · exact ih (by omega)
    · exact ih (by omega)
theorem iT_og {T : zT} {N : Nat} (h : iTN T N) : iT (ogS T N N).1 := ⟨N, iTN_og h N (Nat.le_refl _)⟩
theorem ci_hs {T : zT} {N : Nat} {x : Int32} (hN : wN T N) (h : hs T x = true) : ci x < N := by
  obtain ⟨j, hj, rfl⟩ := hs_in hN h
  have := hN.2
  show (nI j).toNatClampNeg < N
  rw [nI_clamp (by omega)]
  exact hj
theorem iT_swp {T : zT} (h : iT T) (x y : Int32) : iT (tSwp T x y) := by
  obtain ⟨N, h⟩ := h
  unfold tSwp
  split
  · rename_i e
    unfold fSwp at e
    split at e
    · rename_i e2
      exact ⟨N, iTN_ex h (ci_hs h.1 e2.1) (ci_hs h.1 e2.2.1)⟩
    · cases e
  · exact ⟨N, h⟩
theorem iTN_3 {T : zT} {N c : Nat} {v : Int32} (h : iTN T N) : iTN (ts T 3 c v) N := iTN_row h (ts_n (by decide)) (ts_n (by decide)) (wH_of (ts_n (by decide)) h.2.1) (wTk_of (ts_n (by decide)) h.2.2.1) (wP_of (ts_n (by decide)) h.2.2.2.2.1) (wKd_of (ts_n (by decide)) h.2.2.2.2.2.1)
theorem iT_buy {T : zT} (h : iT T) (x y v : Int32) : iT (tBuy T x y v) := by
  obtain ⟨N, h⟩ := h
  unfold tBuy
  split
  · rename_i e
    unfold fBuy at e
    split at e
    · rename_i e2
      exact ⟨N, iTN_3 (iTN_3 (iTN_ex h (ci_hs h.1 e2.1) (ci_hs h.1 e2.2.1)))⟩
    · cases e
  · exact ⟨N, h⟩
theorem iT_hol {T : zT} (h : iT T) (s c : Int32) : iT (tHol T s c) := by
  obtain ⟨N, h⟩ := h
  unfold tHol
  split
  · rename_i e
    unfold fHol at e
    split at e
    · rename_i e2
      refine ⟨N, iTN_row h (ts_n (by decide)) (ts_n (by decide)) (wH_of (ts_n (by decide)) h.2.1) (wTk_of (ts_n (by decide)) h.2.2.1) (fun i hi => ?_) (wKd_of (ts_n (by decide)) h.2.2.2.2.2.1)⟩
      by_cases e3 : i = ci s
      · subst e3
        rw [ts_s]
        rcases e2.2 with z | z
        · exact Or.inl z
        · obtain ⟨j, hj, e4⟩ := hs_in h.1 z
          exact Or.inr ⟨j, hj, e4⟩
      · rw [ts_i e3]
        exact h.2.2.2.2.1 i hi
    · cases e
  · exact ⟨N, h⟩
theorem ldT_H {T R : zT} {s z N : Nat} (hH : wH T N) : ∀ k n, wH (ldT T R s n) N → wH (ldT T R s (ldn R s z N k n)) N := by
  intro k
  induction k with
  | zero => exact fun n h => h
  | succ k ih =>
    intro n h
    simp only [ldn]
    split
    · rename_i e
      refine ih (n + 1) (fun c hc => ?_)
      simp only [ldT]
      by_cases e2 : c = n
      · subst e2
        rw [ts_s]
        obtain ⟨j, hj, e3⟩ := inR_nI (n := 9) e.2.2 rfl (by omega)
        exact ⟨j, hj, e3⟩
      · rw [ts_i e2]
        exact h c hc
    · exact h
theorem iT_ld {T R : zT} {N : Nat} (h : iTN T N) (s : Int32) : iT (tLd T R N s) := by
  unfold tLd
  split
  · exact ⟨N, iTN_row h (ldT_n (by decide) _) (ldT_n (by decide) _) (ldT_H h.2.1 _ _ h.2.1) (wTk_of (ldT_n (by decide) _) h.2.2.1) (wP_of (ldT_n (by decide) _) h.2.2.2.2.1) (wKd_of (ldT_n (by decide) _) h.2.2.2.2.2.1)⟩
  · exact ⟨N, h⟩
theorem iTN_se {T : zT} {N : Nat} {kd : Int32} (h : iTN T N) (hN : N < 10) (hk : isK kd = true) : iTN (seT T N kd) (N + 1) := by
  obtain ⟨a, b, c, d, e, f, w, r, g1, g2, g3, g4, g5⟩ := h
  unfold seT
  refine ⟨seT_N a hN, fun i hi => ?_, fun i hi => ?_, ?_, fun i hi => ?_, fun i hi => ?_, w, r, g1, g2, ?_, ?_, fun i hi => ?_⟩
  · simp only [ts_n (show 1 ≠ 7 by decide), ts_n (show 1 ≠ 5 by decide), ts_n (show 1 ≠ 4 by decide), ts_n (show 1 ≠ 3 by decide), ts_n (show 1 ≠ 2 by decide)]
    by_cases e1 : i = N
    · subst e1
      exact ⟨3, by omega, ts_s⟩
    · rw [ts_i e1, ts_n (by decide)]
      exact b i (by omega)
  · simp only [ts_n (show 5 ≠ 7 by decide)]
    by_cases e1 : i = N
    · subst e1
      exact Or.inl ts_s
    · rw [ts_i e1, ts_n (by decide), ts_n (by decide), ts_n (by decide), ts_n (by decide), ts_n (by decide)]
      exact c i (by omega)
  · refine wL_k (by decide) (by decide) (wL_of ?_ ?_ d) <;> simp only [ts_n (show 7 ≠ 5 by decide), ts_n (show 7 ≠ 4 by decide), ts_n (show 7 ≠ 3 by decide), ts_n (show 7 ≠ 2 by decide), ts_n (show 7 ≠ 1 by decide), ts_n (show 7 ≠ 0 by decide)]
  · simp only [ts_n (show 6 ≠ 7 by decide), ts_n (show 6 ≠ 5 by decide), ts_n (show 6 ≠ 4 by decide), ts_n (show 6 ≠ 3 by decide), ts_n (show 6 ≠ 2 by decide), ts_n (show 6 ≠ 1 by decide), ts_n (show 6 ≠ 0 by decide)]
    rcases e i hi with z | ⟨j, hj, z⟩
    · exact Or.inl z
    · exact Or.inr ⟨j, by omega, z⟩
  · simp only [ts_n (show 0 ≠ 7 by decide), ts_n (show 0 ≠ 5 by decide), ts_n (show 0 ≠ 4 by decide), ts_n (show 0 ≠ 3 by decide), ts_n (show 0 ≠ 2 by decide), ts_n (show 0 ≠ 1 by decide)]
    by_cases e1 : i = N
    · subst e1
      rw [ts_s]
      exact hk
    · rw [ts_i e1]
      exact f i (by omega)
  · rw [ts_i (by decide)]
    simp only [ts_n (show 7 ≠ 5 by decide), ts_n (show 7 ≠ 4 by decide), ts_n (show 7 ≠ 3 by decide), ts_n (show 7 ≠ 2 by decide), ts_n (show 7 ≠ 1 by decide), ts_n (show 7 ≠ 0 by decide)]
    exact g3
  · rw [ts_i (by decide)]
    simp only [ts_n (show 7 ≠ 5 by decide), ts_n (show 7 ≠ 4 by decide), ts_n (show 7 ≠ 3 by decide), ts_n (show 7 ≠ 2 by decide), ts_n (show 7 ≠ 1 by decide), ts_n (show 7 ≠ 0 by decide)]
    exact g4
  · simp only [ts_n (show 4 ≠ 7 by decide), ts_n (show 4 ≠ 5 by decide)]
    by_cases e1 : i = N
    · subst e1
      exact ⟨0, by omega, ts_s⟩
    · rw [ts_i e1, ts_n (by decide), ts_n (by decide), ts_n (by decide), ts_n (by decide)]
      exact g5 i (by omega)
theorem iT_cit {T : zT} {N : Nat} (h : iTN T N) (x : Int32) : iT (tCit T N x) := by
  unfold tCit
  split
  · rename_i e
    unfold fCit at e
    split at e
    · cases e
    · rename_i e1
      split at e
      · cases e
      · have := h.1.2
        exact ⟨N + 1, iTN_se h (by omega) (by simpa using e1)⟩
  · exact ⟨N, h⟩
theorem famT_n (T : zT) (N a : Nat) (h1 : a ≠ 1) (h7 : a ≠ 7) : ∀ i, famT T N i a = T a := by
  intro i
  induction i with
  | zero => rfl
  | succ i ih =>
    simp only [famT]
    rw [ts_n h1, drT_n h7, drT_n h7, ih]
theorem famT_H {T : zT} {N : Nat} (hH : wH T N) : ∀ i, wH (famT T N i) N := by
  intro i
  induction i with
  | zero => exact hH
  | succ i ih =>
    simp only [famT]
    intro c hc
    by_cases e : c = (zrem (zdr (famT T N i 7 7)) (nI N)).toNatClampNeg
    · rw [← e, ts_s]
      obtain ⟨j, hj, e2⟩ := zrem_in (drT (famT T N i) 7 7) (N := 10) (by omega) (by omega)
      exact ⟨j, by omega, e2⟩
    · rw [ts_i e, drT_n (by decide), drT_n (by decide)]
      exact ih c hc
theorem iT_fam {T : zT} {N : Nat} (h : iTN T N) (n : Int32) : iT (tFam T N n) := by
  unfold tFam
  split
  · obtain ⟨a, b, c, d, e, f, g⟩ := h
    exact ⟨N, wN_of (famT_7 T N 8 (by decide) _) a, famT_H b _, wTk_of (famT_n T N 5 (by decide) (by decide) _) c, wL_of (famT_7 T N 0 (by decide) _) (famT_7 T N 1 (by decide) _) d, wP_of (famT_n T N 6 (by decide) (by decide) _) e, wKd_of (famT_n T N 0 (by decide) (by decide) _) f, wB_of (famT_7 T N 5 (by decide) _) (famT_7 T N 6 (by decide) _) (famT_n T N 4 (by decide) (by decide) _) g⟩
  · exact ⟨N, h⟩
theorem clT_5 (T : zT) : ∀ N c, c < N → clT T N 5 c = 0 := by
  intro N
  induction N with
  | zero => intro c hc; omega
  | succ N ih =>
    intro c hc
    rw [clT]
    by_cases e : c = N
    · subst e
      exact ts_s
    · rw [ts_i e]
      exact ih c (by omega)
theorem wk_Tk {T : zT} {N : Nat} : wTk (wkT T N) N := fun c hc => Or.inl (by
  simp only [wkT, wkT4]
  rw [ts_n (by decide)]
  exact clT_5 _ N c hc)
theorem wk_n0 {T : zT} {N a : Nat} (h1 : a ≠ 1) (h4 : a ≠ 4) (h5 : a ≠ 5) (h7 : a ≠ 7) : wkT T N a = T a := by
  rw [wkT, wk4_n h5 h7, wkT3, mrT_n _ _ _ h1 h7, eaT_n _ _ h1 h4, wkT2, ogS_n _ _ _ h5, wkT1, dtk_n _ _ h5 h7]
theorem wk_w {T : zT} {N : Nat} : wkT T N 7 5 = T 7 5 + 1 := by
  have e : wkT3 T N 7 5 = T 7 5 := by
    rw [wkT3, mrT_7 _ _ _ (by decide), eaT_n _ _ (by decide) (by decide), wkT2, ogS_n _ _ _ (by decide), wkT1, dtk_7 _ _ (by decide)]
  rw [← e]
  simp only [wkT, wkT4]
  rw [ts_s, clT_n _ _ (by decide), ts_i (by decide), drT_7 (by decide)]
theorem wks_w {T : zT} {N : Nat} : ∀ k, wks N k T 7 5 = T 7 5 + nI k := by
  intro k
  induction k with
  | zero => rw [nI_0, Int32.add_zero]; rfl
  | succ k ih =>
    show wkT (wks N k T) N 7 5 = _
    rw [wk_w, ih, Int32.add_assoc, nI_1]
theorem wks_n0 {T : zT} {N a : Nat} (h1 : a ≠ 1) (h4 : a ≠ 4) (h5 : a ≠ 5) (h7 : a ≠ 7) : ∀ k, wks N k T a = T a := by
  intro k
  induction k with
  | zero => rfl
  | succ k ih => exact (wk_n0 h1 h4 h5 h7).trans ih
theorem wks_Tk {T : zT} {N : Nat} (h : wTk T N) : ∀ k, wTk (wks N k T) N := by
  intro k
  cases k with
  | zero => exact h
  | succ k => exact wk_Tk
theorem iTN_wks {T : zT} {N K : Nat} (h : iTN T N) (hK : K ≤ 60) (h5 : ¬ (999 : Int32) < T 7 5 + nI K) : iTN (wks N K T) N := by
  obtain ⟨a, b, c, d, e, f, w, r, g1, g2, g3, g4, g5⟩ := h
  refine ⟨wks_N a K, wks_H b K, wks_Tk c K, wks_L d K, wP_of (wks_n0 (by decide) (by decide) (by decide) (by decide) K) e, wKd_of (wks_n0 (by decide) (by decide) (by decide) (by decide) K) f, ?_⟩
  rw [g3, nI_add] at h5
  have h5 := z_nlt (a := 999) h5 (by omega) (by omega)
  obtain ⟨m, hm, e6⟩ := wks_6 T N 0 K
  rw [Nat.zero_add] at e6
  refine ⟨w + K, r + m, h5, by omega, by rw [wks_w, g3, nI_add], e6.trans (by rw [show wks N 0 T = T from rfl, g4, nI_add]), fun i hi => ?_⟩
  obtain ⟨x, hx, e4⟩ := g5 i hi
  obtain ⟨m2, hm2, e7⟩ := wks_4 T N i K
  exact ⟨x + m2, by omega, e7.trans (by rw [e4, nI_add])⟩
theorem iT_wk {T : zT} {N : Nat} (h : iTN T N) (n : Int32) : iT (tWk T N n) := by
  unfold tWk
  split
  · rename_i e
    obtain ⟨h1, h2⟩ := fWk_7 e
    obtain ⟨j, h3, hj, rfl⟩ := inR_nI1 (n := 60) h1 rfl (by omega)
    have ec : ci (nI j) = j := nI_clamp (by omega)
    rw [ec]
    exact ⟨N, iTN_wks h hj h2⟩
  · exact ⟨N, h⟩
theorem iTN_rt {b : Nat → Int32} {L : Nat} {T : zT} {N M w : Nat} {ws : List Int32} {p : Nat} (h : iTN T M) (hw : w < 6) : iTN (rtP b L T N w ws p).1 M := by
  unfold rtP
  repeat' split
  · rename_i e
    exact iTN_trait h hw e.2
  · exact h
  · exact h
theorem iTN_c4 {b : Nat → Int32} {L : Nat} {T : zT} {N M p : Nat} (h : iTN T M) : iTN (c4P b L T N p).1 M := by
  unfold c4P
  repeat' split
  · exact iTN_trait (w := 5) h (by omega) (by decide)
  · exact iTN_trait (w := 5) h (by omega) (by decide)
  · exact h
theorem iT_citP {b : Nat → Int32} {L : Nat} {T : zT} {N : Nat} {kd : Int32} {p : Nat} (h : iTN T N) (hk : isK kd = true) : iT (citP b L T N kd p).1 := by
  have h2 := h.1.2
  by_cases e : N = 10
  · exact ⟨N, by rw [citP, if_pos e]; exact h⟩
  · have h1 := iTN_se (kd := kd) h (by omega) hk
    have e1 : iTN (c1P b L T N kd p).1 (N + 1) := iTN_rt h1 (by omega)
    have e2 : iTN (c2P b L T N kd p).1 (N + 1) := iTN_rt e1 (by omega)
    have e3 : iTN (c3P b L T N kd p).1 (N + 1) := iTN_rt e2 (by omega)
    refine ⟨N + 1, ?_⟩
    rw [citP, if_neg e]
    repeat' split
    · exact iTN_c4 e3
    · exact e3
    · exact e2
    · exact e1
theorem iTN_rulP {b : Nat → Int32} {L : Nat} {T : zT} {w p N : Nat} (h : iTN T N) (hw : w < 5) : iTN (rulP b L T w p).1 N := by
  unfold rulP
  split
  · rename_i e
    exact iTN_rule h hw e.2
  · exact h
theorem iT_itm {b : Nat → Int32} {L : Nat} {T : zT} {N p : Nat} (h : iTN T N) : iT (itmP b L T N p).1 := by
  unfold itmP
  repeat' split
  · exact ⟨N, iTN_rulP h (by omega)⟩
  · exact ⟨N, iTN_rulP h (by omega)⟩
  · exact ⟨N, iTN_rulP h (by omega)⟩
  · exact ⟨N, iTN_rulP h (by omega)⟩
  · exact ⟨N, iTN_rule (w := 4) h (by omega) (by decide)⟩
  · exact ⟨N, iTN_rule (w := 4) h (by omega) (by decide)⟩
  · exact ⟨N, h⟩
  · rename_i e
    exact iT_citP h (by rw [kd_K]; simpa using e)
theorem iT_txP {b : Nat → Int32} {L : Nat} : ∀ f T p it, iT T → ∀ U, (txP b L f T p it).1 = some U → iT U := by
  intro f
  induction f with
  | zero => intro T p it h U e; cases e
  | succ f ih =>
    intro T p it h U e
    obtain ⟨N, h⟩ := h
    have hi : iT (itmP b L T (ci (T 7 8)) p).1 := by
      rw [ci_N h.1]
      exact iT_itm h
    rw [txP] at e
    split at e
    · split at e
      · exact ih _ _ _ hi U e
      · split at e
        · cases e
          exact hi
        · cases e
    · cases e
theorem iT_tx {b : Nat → Int32} {L : Nat} {T : zT} (h : iT T) : iT (tTx T (txP b L 121 T 0 0)) := by
  unfold tTx
  cases e : (txP b L 121 T 0 0).1 with
  | none => exact h
  | some U => exact iT_txP _ _ _ _ h U e
theorem iT_0 : iT T0 := ⟨0, ⟨rfl, by omega⟩, fun c hc => by omega, fun c hc => by omega, ⟨5, 5, by omega, by omega, rfl, rfl⟩, fun i hi => Or.inl rfl, fun c hc => by omega, 0, 0, by omega, by omega, rfl, rfl, fun c hc => by omega⟩
