-- RIOTS, JOY, WEEKS: what weeks add
theorem ge_t {x a b : Int32} (h : b.toInt = a.toInt + 1) : b ≤ x ↔ a < x := by
  rw [Int32.le_iff_toInt_le, Int32.lt_iff_toInt_lt]
  omega
theorem sub_sub3 (a b r : Int32) : (a - r) - (b - r) = a - b := by
  simp [Int32.sub_eq_add_neg, Int32.neg_add, Int32.add_assoc]
  rw [Int32.add_comm (-b) r, ← Int32.add_assoc, Int32.add_left_neg, Int32.zero_add]
theorem add_sub3 (a b : Int32) : (a + b) - a = b := by
  rw [Int32.add_comm, Int32.add_sub_cancel]
theorem mrT_6 (T : zT) (N : Nat) : mrT T N 7 6 = T 7 6 ∨ mrT T N 7 6 = T 7 6 + 1 := by
  unfold mrT
  split
  · right
    rw [rio_n _ _ (by decide), ts_s]
  · left
    rfl
theorem wk3_7 {T : zT} {N k : Nat} (h6 : k ≠ 6) (h7 : k ≠ 7) : wkT3 T N 7 k = T 7 k := by
  rw [wkT3, mrT_7 _ _ _ h6, eaT_n _ _ (by decide) (by decide), wkT2, ogS_n _ _ _ (by decide), wkT1, dtk_7 _ _ h7]
theorem wk_6 (T : zT) (N : Nat) : wkT T N 7 6 = T 7 6 ∨ wkT T N 7 6 = T 7 6 + 1 := by
  have e : eaT (wkT2 T N) N 7 6 = T 7 6 := by rw [eaT_n _ _ (by decide) (by decide), wkT2, ogS_n _ _ _ (by decide), wkT1, dtk_7 _ _ (by decide)]
  rw [wkT, wk4_7 (by decide) (by decide) (by decide), wkT3]
  have h := mrT_6 (eaT (wkT2 T N) N) N
  rw [e] at h
  exact h
theorem wks_6 (T : zT) (N k : Nat) : ∀ d, ∃ m, m ≤ d ∧ wks N (k + d) T 7 6 = wks N k T 7 6 + nI m := by
  intro d
  induction d with
  | zero => exact ⟨0, Nat.le_refl _, by rw [nI_0, Int32.add_zero]; rfl⟩
  | succ d ih =>
    obtain ⟨m, hm, e⟩ := ih
    show ∃ m, m ≤ d + 1 ∧ wkT (wks N (k + d) T) N 7 6 = wks N k T 7 6 + nI m
    rcases wk_6 (wks N (k + d) T) N with h | h
    · exact ⟨m, by omega, by rw [h, e]⟩
    · exact ⟨m + 1, by omega, by rw [h, e, Int32.add_assoc, nI_1]⟩
theorem add_ne {x : Int32} {m : Nat} (h0 : 0 < m) (hm : m < 2 ^ 31) : ¬ x + nI m = x := fun z => by
  have h : x + nI m - x = nI m := add_sub3 _ _
  rw [z, Int32.sub_self, ← nI_0] at h
  have := (nI_eq (by omega) hm).mp h
  omega
theorem cwk_s (T : zT) (N K : Nat) : ∀ k i, i + k = K → wks N i T 7 6 = T 7 6 → ((cwk N (T 7 6) k (wks N i T) i).1 = K ∧ ∀ j, i ≤ j → j ≤ K → wks N j T 7 6 = T 7 6) ∨ (∃ c, i ≤ c ∧ c < K ∧ (cwk N (T 7 6) k (wks N i T) i).1 = c ∧ (∀ j, i ≤ j → j ≤ c → wks N j T 7 6 = T 7 6) ∧ wks N (c + 1) T 7 6 = T 7 6 + 1) := by
  intro k
  induction k with
  | zero =>
    intro i hi h
    refine Or.inl ⟨by rw [cwk]; exact hi, fun j h1 h2 => ?_⟩
    rw [show j = i by omega]
    exact h
  | succ k ih =>
    intro i hi h
    by_cases hr : wkT (wks N i T) N 7 6 = T 7 6
    · have e : cwk N (T 7 6) (k + 1) (wks N i T) i = cwk N (T 7 6) k (wks N (i + 1) T) (i + 1) := by rw [cwk, if_pos hr]; rfl
      rw [e]
      rcases ih (i + 1) (by omega) hr with ⟨h1, h2⟩ | ⟨c, h1, h2, h3, h4, h5⟩
      · refine Or.inl ⟨h1, fun j h3 h4 => ?_⟩
        by_cases hj : j = i
        · rw [hj]; exact h
        · exact h2 j (by omega) h4
      · refine Or.inr ⟨c, by omega, h2, h3, fun j h6 h7 => ?_, h5⟩
        by_cases hj : j = i
        · rw [hj]; exact h
        · exact h4 j (by omega) h7
    · refine Or.inr ⟨i, Nat.le_refl _, by omega, by rw [cwk, if_neg hr], fun j h1 h2 => by rw [show j = i by omega]; exact h, ?_⟩
      rcases wk_6 (wks N i T) N with h1 | h1
      · exact absurd (h1.trans h) hr
      · exact h1.trans (by rw [h])
theorem cw_trd {T : zT} {N K : Nat} (hK : K ≤ 60) : nI (cwk N (T 7 6) K T 0).1 = nI K ↔ wks N K T 7 6 - T 7 6 = 0 := by
  rcases cwk_s T N K K 0 (by omega) rfl with ⟨h1, h2⟩ | ⟨c, -, h2, h3, h4, h5⟩
  · have h1' : (cwk N (T 7 6) K T 0).1 = K := h1
    rw [h1', h2 K (by omega) (by omega), Int32.sub_self]
    exact ⟨fun _ => rfl, fun _ => rfl⟩
  · have h3' : (cwk N (T 7 6) K T 0).1 = c := h3
    rw [h3']
    obtain ⟨m, hm, e⟩ := wks_6 T N (c + 1) (K - (c + 1))
    rw [show c + 1 + (K - (c + 1)) = K by omega, h5, Int32.add_assoc, show (1 : Int32) = nI 1 from rfl, nI_add] at e
    rw [e, add_sub3]
    constructor
    · intro z
      have := (nI_eq (by omega) (by omega)).mp z
      omega
    · intro z
      rw [← nI_0] at z
      have := (nI_eq (by omega) (by omega)).mp z
      omega
theorem rio_none {T : zT} {N : Nat} : ∀ f c, (∀ j, c ≤ j → j < c + f → ¬ T 7 6 < wks N (j + 1) T 7 6) → rioS T N f c = none := by
  intro f
  induction f with
  | zero => intro c _; rfl
  | succ f ih =>
    intro c h
    rw [rioS, if_neg (h c (Nat.le_refl _) (by omega))]
    exact ih (c + 1) (fun j h1 h2 => h j (by omega) (by omega))
theorem rio_some {T : zT} {N i : Nat} : ∀ f c, c ≤ i → i < c + f → (∀ j, c ≤ j → j < i → ¬ T 7 6 < wks N (j + 1) T 7 6) → T 7 6 < wks N (i + 1) T 7 6 → rioS T N f c = some (i + 1) := by
  intro f
  induction f with
  | zero => intro c h1 h2; omega
  | succ f ih =>
    intro c h1 h2 h3 h4
    rw [rioS]
    by_cases hc : c = i
    · rw [hc, if_pos h4]
    · rw [if_neg (h3 c (Nat.le_refl _) (by omega))]
      exact ih (c + 1) (by omega) (by omega) (fun j h5 h6 => h3 j (by omega) h6) h4
/-- weeks, riots, joy are small -/
def wB (T : zT) (N : Nat) : Prop := ∃ w r : Nat, w ≤ 999 ∧ r ≤ w ∧ T 7 5 = nI w ∧ T 7 6 = nI r ∧ ∀ c, c < N → ∃ x, x ≤ 12 * w ∧ T 4 c = nI x
theorem wB_6 {T : zT} {N : Nat} (h : wB T N) : ∃ r, r ≤ 999 ∧ T 7 6 = nI r := by
  obtain ⟨w, r, h1, h2, -, h3, -⟩ := h
  exact ⟨r, by omega, h3⟩
theorem wB_5 {T : zT} {N : Nat} (h : wB T N) : ∃ w, w ≤ 999 ∧ T 7 5 = nI w := by
  obtain ⟨w, r, h1, h2, h3, -⟩ := h
  exact ⟨w, h1, h3⟩
theorem cw_rio {T : zT} {N : Nat} (h : wB T N) : ((cwk N (T 7 6) 60 T 0).1 = 60 ∧ rioS T N 60 0 = none) ∨ ∃ c, c < 60 ∧ (cwk N (T 7 6) 60 T 0).1 = c ∧ rioS T N 60 0 = some (c + 1) := by
  obtain ⟨r, hr, e⟩ := wB_6 h
  have hlt : T 7 6 < T 7 6 + 1 := by
    rw [e, show (1 : Int32) = nI 1 from rfl, nI_add]
    exact (nI_ltI (by omega) (by omega)).mpr (by omega)
  rcases cwk_s T N 60 60 0 (by omega) rfl with ⟨h1, h2⟩ | ⟨c, -, h2, h3, h4, h5⟩
  · exact Or.inl ⟨h1, rio_none _ _ (fun j h3 h4 => by rw [h2 (j + 1) (by omega) (by omega)]; exact fun z => Int32.lt_irrefl z)⟩
  · exact Or.inr ⟨c, h2, h3, rio_some _ _ (by omega) (by omega) (fun j h6 h7 => by rw [h4 (j + 1) (by omega) (by omega)]; exact fun z => Int32.lt_irrefl z) (by rw [h5]; exact hlt)⟩
-- joy
theorem eaJ_in (U : zT) (c : Nat) : ∃ d, d ≤ 12 ∧ eaJ U c = U 4 c + nI d := by
  unfold eaJ
  split
  · obtain ⟨s, hs, e⟩ := sw_nI U c
    exact ⟨s, hs, by rw [e]⟩
  · exact ⟨0, by omega, by rw [nI_0, Int32.add_zero]⟩
theorem eaT_4 (T : zT) (i : Nat) : ∀ c, ∃ d, d ≤ 12 ∧ eaT T c 4 i = T 4 i + nI d := by
  intro c
  induction c with
  | zero => exact ⟨0, by omega, by rw [nI_0, Int32.add_zero]; rfl⟩
  | succ c ih =>
    rw [eaT]
    by_cases hi : i = c
    · subst hi
      rw [ts_s]
      obtain ⟨d, hd, e⟩ := eaJ_in (eaT T i) i
      exact ⟨d, hd, by rw [e, eaT_i T 4 i i (Nat.le_refl _)]⟩
    · rw [ts_i hi, ts_n (by decide)]
      exact ih
theorem wk_4 (T : zT) (N i : Nat) : ∃ d, d ≤ 12 ∧ wkT T N 4 i = T 4 i + nI d := by
  rw [wkT, wk4_n (by decide) (by decide), wkT3, mrT_n _ _ _ (by decide) (by decide)]
  have h := eaT_4 (wkT2 T N) i N
  rw [wkT2, ogS_n _ _ _ (by decide), wkT1, dtk_n _ _ (by decide) (by decide)] at h
  exact h
theorem wks_4 (T : zT) (N i : Nat) : ∀ K, ∃ d, d ≤ 12 * K ∧ wks N K T 4 i = T 4 i + nI d := by
  intro K
  induction K with
  | zero => exact ⟨0, by omega, by rw [nI_0, Int32.add_zero]; rfl⟩
  | succ K ih =>
    obtain ⟨d, hd, e⟩ := ih
    obtain ⟨d2, hd2, e2⟩ := wk_4 (wks N K T) N i
    exact ⟨d + d2, by omega, by show wkT (wks N K T) N 4 i = _; rw [e2, e, Int32.add_assoc, nI_add]⟩
theorem sumW_nI {f : Nat → Int32} {b : Nat} : ∀ N, (∀ c, c < N → ∃ x, x ≤ b ∧ f c = nI x) → ∃ s, s ≤ N * b ∧ sumW f N = nI s := by
  intro N
  induction N with
  | zero => intro _; exact ⟨0, by omega, nI_0.symm⟩
  | succ N ih =>
    intro h
    obtain ⟨s, hs, e⟩ := ih (fun c hc => h c (by omega))
    obtain ⟨x, hx, e2⟩ := h N (by omega)
    exact ⟨s + x, by rw [Nat.succ_mul]; omega, by rw [sumW, e, e2, nI_add]⟩
theorem sumW_add {f f2 : Nat → Int32} {b : Nat} : ∀ N, (∀ c, c < N → ∃ d, d ≤ b ∧ f2 c = f c + nI d) → ∃ s, s ≤ N * b ∧ sumW f2 N = sumW f N + nI s := by
  intro N
  induction N with
  | zero => intro _; exact ⟨0, by omega, by rw [nI_0, Int32.add_zero]; rfl⟩
  | succ N ih =>
    intro h
    obtain ⟨s, hs, e⟩ := ih (fun c hc => h c (by omega))
    obtain ⟨x, hx, e2⟩ := h N (by omega)
    refine ⟨s + x, by rw [Nat.succ_mul]; omega, ?_⟩
    rw [sumW, sumW, e, e2, ← nI_add, Int32.add_assoc, Int32.add_assoc, ← Int32.add_assoc (nI s), Int32.add_comm (nI s) (f N), Int32.add_assoc]
theorem trj_in {T : zT} {k N K : Nat} {v : Int32} (hk : k ≠ 4) (hN : N ≤ 10) (hK : K ≤ 60) : ∃ d, d ≤ 7200 ∧ trj T 7 v N K = trj T 7 v N K ∧ sumW (trU T k v N K 4) N = sumW (T 4) N + nI d := by
  obtain ⟨s, hs, e⟩ := sumW_add (f := T 4) (f2 := trU T k v N K 4) (b := 12 * K) N (fun c _ => by
    obtain ⟨d, hd, e⟩ := wks_4 (ts T 7 k v) N c K
    exact ⟨d, hd, by rw [trU, e, ts_n (by decide)]⟩)
  refine ⟨s, ?_, rfl, e⟩
  have : N * (12 * K) ≤ 10 * (12 * 60) := Nat.mul_le_mul hN (by omega)
  omega
theorem joy_0 {T : zT} {N : Nat} (hN : N ≤ 10) (h : wB T N) : ∃ s, s ≤ 119880 ∧ sumW (T 4) N = nI s := by
  obtain ⟨w, r, hw, -, -, -, hj⟩ := h
  obtain ⟨s, hs, e⟩ := sumW_nI (f := T 4) (b := 12 * w) N hj
  refine ⟨s, ?_, e⟩
  have : N * (12 * w) ≤ 10 * (12 * 999) := Nat.mul_le_mul hN (by omega)
  omega
-- the leader: the class's totals and the reference's differences
theorem ld_in {T : zT} {N K : Nat} (hN : N ≤ 10) (hK : K ≤ 60) : ∀ c, ∃ d, d ≤ 7200 ∧ (ldS T N K (c + 1)).2 = nI d := by
  have key : ∀ c, ∃ d, d ≤ 7200 ∧ trj T 3 (nI c) N K = nI d := fun c => by
    obtain ⟨d, hd, -, e⟩ := trj_in (T := T) (k := 3) (v := nI c) (by decide) hN hK
    exact ⟨d, hd, by rw [trj, e, add_sub3]⟩
  intro c
  induction c with
  | zero =>
    obtain ⟨d, hd, e⟩ := key 0
    exact ⟨d, hd, by rw [ldS_t (by rw [e]; show (-1 : Int32) < nI d; rw [Int32.lt_iff_toInt_lt, zlt_m1, nI_toInt (by omega)]; omega)]; exact e⟩
  | succ c ih =>
    by_cases h : (ldS T N K (c + 1)).2 < trj T 3 (nI (c + 1)) N K
    · rw [ldS_t h]
      exact key (c + 1)
    · rw [ldS_f h]
      exact ih
/-- the class's greatest so far -/
def ldM (T : zT) (N K c : Nat) : Int32 := if c = 0 then -1 else (ldS T N K c).2 + sumW (T 4) N
theorem ld_cmp {T : zT} {N K : Nat} (hN : N ≤ 10) (hK : K ≤ 60) (hB : wB T N) (c : Nat) : (sumW (trU T 3 (nI c) N K 4) N ≤ ldM T N K c ↔ ¬ (ldS T N K c).2 < trj T 3 (nI c) N K) ∧ trj T 3 (nI c) N K + sumW (T 4) N = sumW (trU T 3 (nI c) N K 4) N := by
  obtain ⟨d, hd, -, e⟩ := trj_in (T := T) (k := 3) (v := nI c) (by decide) hN hK
  obtain ⟨s, hs, es⟩ := joy_0 hN hB
  have et : trj T 3 (nI c) N K = nI d := by rw [trj, e, add_sub3]
  refine ⟨?_, by rw [et, e, Int32.add_comm]⟩
  rw [et, e, es, nI_add]
  cases c with
  | zero =>
    show nI (s + d) ≤ -1 ↔ ¬ (-1 : Int32) < nI d
    rw [Int32.le_iff_toInt_le, Int32.lt_iff_toInt_lt, zlt_m1, nI_toInt (by omega), nI_toInt (by omega)]
    omega
  | succ c =>
    obtain ⟨b, hb, eb⟩ := ld_in (T := T) hN hK c
    rw [ldM, if_neg (by omega), eb, es, nI_add, nI_leI (by omega) (by omega), nI_ltI (by omega) (by omega)]
    omega
theorem ldM_t {T : zT} {N K c : Nat} (h : (ldS T N K c).2 < trj T 3 (nI c) N K) : ldM T N K (c + 1) = trj T 3 (nI c) N K + sumW (T 4) N := by
  rw [ldM, if_neg (by omega), ldS_t h]
theorem ldM_f {T : zT} {N K c : Nat} (h0 : c ≠ 0) (h : ¬ (ldS T N K c).2 < trj T 3 (nI c) N K) : ldM T N K (c + 1) = ldM T N K c := by
  rw [ldM, ldM, if_neg (by omega), if_neg h0, ldS_f h]
theorem ld_0 {T : zT} {N K : Nat} (hN : N ≤ 10) (hK : K ≤ 60) : (ldS T N K 0).2 < trj T 3 (nI 0) N K := by
  obtain ⟨d, hd, -, e⟩ := trj_in (T := T) (k := 3) (v := nI 0) (by decide) hN hK
  rw [trj, e, add_sub3]
  show (-1 : Int32) < nI d
  rw [Int32.lt_iff_toInt_lt, zlt_m1, nI_toInt (by omega)]
  omega
-- the kinds: least hunger
theorem neg_lt {a b : Nat} (ha : a ≤ 9) (hb : b ≤ 9) : (-(nI a) ≤ -(nI b) ↔ ¬ nI a < nI b) := by
  have key : ∀ a b : Fin 10, (-(nI a.val) ≤ -(nI b.val) ↔ ¬ nI a.val < nI b.val) := by decide +kernel
  exact key ⟨a, by omega⟩ ⟨b, by omega⟩
-- which rules keep the peace
theorem ts_c2 {T : zT} {j i k : Nat} {v w : Int32} (h : i ≠ k) : ts (ts T j i v) j k w = ts (ts T j k w) j i v := by
  funext a x
  by_cases ha : a = j
  · subst ha
    by_cases hi : x = i
    · rw [hi, ts_i h, ts_s, ts_s]
    · by_cases hk : x = k
      · rw [hk, ts_s, ts_i (Ne.symm h), ts_s]
      · rw [ts_i hk, ts_i hi, ts_i hi, ts_i hk]
  · rw [ts_n ha, ts_n ha, ts_n ha, ts_n ha]
theorem cw_cal {S : zT} {N K j : Nat} {v : Int32} (hj : j ≠ 6) (hK : K ≤ 60) : nI (cwk N (ts S 7 j v 7 6) K (ts S 7 j v) 0).1 = nI K ↔ trd S j v N K = 0 := by
  have h := cw_trd (T := ts S 7 j v) (N := N) hK
  rw [show trd S j v N K = wks N K (ts S 7 j v) 7 6 - ts S 7 j v 7 6 by rw [trd, trU, ts_i (i := j) (c := 6) hj.symm]]
  exact h
theorem trd_nI {S : zT} {N K j : Nat} {v : Int32} (hj : j ≠ 6) (hK : K ≤ 60) : ∃ m, m ≤ 60 ∧ trd S j v N K = nI m := by
  obtain ⟨m, hm, e⟩ := wks_6 (ts S 7 j v) N 0 K
  rw [Nat.zero_add] at e
  refine ⟨m, by omega, ?_⟩
  rw [trd, trU, e]
  show ts S 7 j v 7 6 + nI m - S 7 6 = nI m
  rw [ts_i hj.symm, add_sub3]
theorem trd_pos {S : zT} {N K j : Nat} {v : Int32} (hj : j ≠ 6) (hK : K ≤ 60) : 0 < trd S j v N K ↔ ¬ trd S j v N K = 0 := by
  obtain ⟨m, hm, e⟩ := trd_nI (S := S) (N := N) (v := v) hj hK
  rw [e, ← nI_0, nI_ltI (by omega) (by omega), nI_eq (by omega) (by omega)]
  omega
/-- so many loaves and seats keep the peace -/
def calW (T : zT) (N K l s : Nat) : Prop := trd (ts T 7 1 (nI s)) 0 (nI l) N K = 0
theorem cst_nI (l s : Nat) : (3 : Int32) * nI l + 2 * nI s = nI (3 * l + 2 * s) := by
  rw [show (3 : Int32) = nI 3 from rfl, show (2 : Int32) = nI 2 from rfl, pk_mul, pk_mul, nI_add]
theorem hun_nI (l s : Nat) : (100 : Int32) * nI l + nI s = nI (100 * l + s) := by
  rw [show (100 : Int32) = nI 100 from rfl, pk_mul, nI_add]
def chP (T : zT) (N K i : Nat) : Prop := (chS T N K i = (-1, 0) ∧ ∀ l s, s < 11 → 11 * l + s < i → ¬ calW T N K l s) ∨ ∃ l s, s < 11 ∧ 11 * l + s < i ∧ calW T N K l s ∧ chS T N K i = (nI (100 * l + s), nI (3 * l + 2 * s)) ∧ ∀ l2 s2, s2 < 11 → 11 * l2 + s2 < i → calW T N K l2 s2 → 3 * l + 2 * s < 3 * l2 + 2 * s2 ∨ (3 * l + 2 * s = 3 * l2 + 2 * s2 ∧ l ≤ l2)
theorem ch_i {l s l2 s2 : Nat} (h : s < 11) (h2 : s2 < 11) (e : 11 * l2 + s2 < 11 * l + s + 1) : 11 * l2 + s2 < 11 * l + s ∨ (l2 = l ∧ s2 = s) := by omega
theorem chS_P {T : zT} {N K : Nat} (hK : K ≤ 60) : ∀ i, i ≤ 121 → chP T N K i := by
  intro i
  induction i with
  | zero => intro _; exact Or.inl ⟨rfl, fun l s _ h => absurd h (Nat.not_lt_zero _)⟩
  | succ i ih =>
    intro hi
    obtain ⟨l, s, hs, rfl⟩ : ∃ l s, s < 11 ∧ i = 11 * l + s := ⟨i / 11, i % 11, Nat.mod_lt _ (by omega), by omega⟩
    have hl : l ≤ 10 := by omega
    have he := chS_e T N K (l := l) (s := s) hs
    rw [cst_nI, hun_nI] at he
    rcases ih (by omega) with ⟨h1, h2⟩ | ⟨a, b, hb, hab, hc, h1, h2⟩
    · have hno : ¬ ((0 : Int32) ≤ -1 ∧ (0 : Int32) ≤ nI (3 * l + 2 * s)) := fun z => absurd z.1 (by decide)
      rw [h1, if_neg hno] at he
      by_cases hcal : calW T N K l s
      · refine Or.inr ⟨l, s, hs, by omega, hcal, by rw [he, if_neg (fun z => (trd_pos (by decide) hK).mp z hcal)], fun l2 s2 hs2 h3 h4 => ?_⟩
        rcases ch_i hs hs2 h3 with h5 | ⟨rfl, rfl⟩
        · exact absurd h4 (h2 l2 s2 hs2 h5)
        · exact Or.inr ⟨rfl, Nat.le_refl _⟩
      · refine Or.inl ⟨by rw [he, if_pos ((trd_pos (by decide) hK).mpr hcal)], fun l2 s2 hs2 h3 => ?_⟩
        rcases ch_i hs hs2 h3 with h5 | ⟨rfl, rfl⟩
        · exact h2 l2 s2 hs2 h5
        · exact hcal
    · rw [h1] at he
      have e0 : (0 : Int32) ≤ nI (100 * a + b) := nI_nn (by omega)
      by_cases hcst : 3 * a + 2 * b ≤ 3 * l + 2 * s
      · rw [if_pos ⟨e0, (nI_leI (by omega) (by omega)).mpr hcst⟩] at he
        refine Or.inr ⟨a, b, hb, by omega, hc, he, fun l2 s2 hs2 h3 h4 => ?_⟩
        rcases ch_i hs hs2 h3 with h5 | ⟨rfl, rfl⟩
        · exact h2 l2 s2 hs2 h5 h4
        · omega
      · rw [if_neg (fun z => hcst ((nI_leI (by omega) (by omega)).mp z.2))] at he
        by_cases hcal : calW T N K l s
        · refine Or.inr ⟨l, s, hs, by omega, hcal, by rw [he, if_neg (fun z => (trd_pos (by decide) hK).mp z hcal)], fun l2 s2 hs2 h3 h4 => ?_⟩
          rcases ch_i hs hs2 h3 with h5 | ⟨rfl, rfl⟩
          · have := h2 l2 s2 hs2 h5 h4
            omega
          · exact Or.inr ⟨rfl, Nat.le_refl _⟩
        · refine Or.inr ⟨a, b, hb, by omega, hc, by rw [he, if_pos ((trd_pos (by decide) hK).mpr hcal)], fun l2 s2 hs2 h3 h4 => ?_⟩
          rcases ch_i hs hs2 h3 with h5 | ⟨rfl, rfl⟩
          · exact h2 l2 s2 hs2 h5 h4
          · exact absurd h4 hcal
/-- what the class's search knows at a cost and a number of loaves -/
def chI (T : zT) (N K c b : Nat) : Prop := ∀ l s, l ≤ 10 → s ≤ 10 → calW T N K l s → c < 3 * l + 2 * s ∨ (c = 3 * l + 2 * s ∧ b ≤ l)
theorem chI_0 {T : zT} {N K : Nat} : chI T N K 0 0 := fun l s _ _ _ => by omega
theorem chI_b {T : zT} {N K c b : Nat} (h : chI T N K c b) (hn : ∀ s, s ≤ 10 → c = 3 * b + 2 * s → ¬ calW T N K b s) : chI T N K c (b + 1) := fun l s hl hs hc => by
  rcases h l s hl hs hc with h1 | ⟨h1, h2⟩
  · exact Or.inl h1
  · by_cases hb : b = l
    · subst hb
      exact absurd hc (hn s hs h1)
    · exact Or.inr ⟨h1, by omega⟩
theorem chI_c {T : zT} {N K c : Nat} (h : chI T N K c 11) : chI T N K (c + 1) 0 := fun l s hl hs hc => by
  have := h l s hl hs hc
  omega
theorem ch_fin {T : zT} {N K b s : Nat} (hK : K ≤ 60) (hb : b ≤ 10) (hs : s ≤ 10) (hc : calW T N K b s) (h : chI T N K (3 * b + 2 * s) b) : (chS T N K 121).1 = nI (100 * b + s) := by
  rcases chS_P (T := T) (N := N) hK 121 (by omega) with ⟨h1, h2⟩ | ⟨l, s2, hs2, hl, hc2, h1, h2⟩
  · exact absurd hc (h2 b s (by omega) (by omega))
  · have h3 := h2 b s (by omega) (by omega) hc
    have h4 := h l s2 (by omega) (by omega) hc2
    obtain ⟨rfl, rfl⟩ : l = b ∧ s2 = s := by omega
    rw [h1]
theorem ch_none {T : zT} {N K : Nat} (hK : K ≤ 60) (h : chI T N K 51 0) : (chS T N K 121).1 = -1 := by
  rcases chS_P (T := T) (N := N) hK 121 (by omega) with ⟨h1, h2⟩ | ⟨l, s2, hs2, hl, hc2, h1, h2⟩
  · rw [h1]
  · have h4 := h l s2 (by omega) (by omega) hc2
    omega
theorem fWk_7 {T : zT} {n : Int32} (h : fWk T n = 7) : inR n 1 60 = true ∧ ¬ 999 < T 7 5 + n := by
  unfold fWk at h
  by_cases h1 : inR n 1 60 = true
  · rw [if_pos h1] at h
    by_cases h2 : 999 < T 7 5 + n
    · rw [if_pos h2] at h
      omega
    · exact ⟨h1, h2⟩
  · rw [if_neg h1] at h
    omega
theorem fWk_K {T : zT} {n : Int32} (h : fWk T n = 7) : ∃ K, 1 ≤ K ∧ K ≤ 60 ∧ n = nI K := inR_nI1 (n := 60) (fWk_7 h).1 rfl (by omega)
theorem fWk_c {T : zT} {n : Int32} (h : fWk T n ≠ 7) : (inR n 1 60 = true ∧ 999 < T 7 5 + n ∧ fWk T n = 4) ∨ (¬ inR n 1 60 = true ∧ fWk T n = 0) := by
  unfold fWk at h ⊢
  by_cases h1 : inR n 1 60 = true
  · rw [if_pos h1] at h ⊢
    by_cases h2 : 999 < T 7 5 + n
    · rw [if_pos h2]
      exact Or.inl ⟨h1, h2, rfl⟩
    · rw [if_neg h2] at h
      exact absurd rfl h
  · rw [if_neg h1]
    exact Or.inr ⟨h1, rfl⟩
theorem fRp_7 {T : zT} {j N a v0 : Nat} {n : Int32} (h : fWk T n = 7) : fRp T j N n a v0 = oF (rpS T j N (ci n) a v0) 3 := by
  rw [fRp, if_pos (fWk_7 h).1, if_neg (fWk_7 h).2]
theorem fRp_n {T : zT} {j N a v0 : Nat} {n : Int32} (h : fWk T n ≠ 7) : fRp T j N n a v0 = fWk T n := by
  rcases fWk_c h with ⟨h1, h2, h3⟩ | ⟨h1, h3⟩
  · rw [fRp, if_pos h1, if_pos h2, h3]
  · rw [fRp, if_neg h1, h3]
theorem fChe_7 {T : zT} {N : Nat} {n : Int32} (h : fWk T n = 7) : fChe T N n = if 0 ≤ (chS T N (ci n) 121).1 then 7 else 3 := by
  rw [fChe, if_pos (fWk_7 h).1, if_neg (fWk_7 h).2]
theorem fChe_n {T : zT} {N : Nat} {n : Int32} (h : fWk T n ≠ 7) : fChe T N n = fWk T n := by
  rcases fWk_c h with ⟨h1, h2, h3⟩ | ⟨h1, h3⟩
  · rw [fChe, if_pos h1, if_pos h2, h3]
  · rw [fChe, if_neg h1, h3]
theorem rStl_e {T : zT} {N : Nat} {n : Int32} : wks N (ci n) (ts T 7 4 (1 - T 7 4)) 7 6 - wks N (ci n) T 7 6 = rStl T N n := by
  rw [rStl, trd, trd, trU, trU, ts_self, sub_sub3]
-- colours, kinds: what the class holds behind c tries
def cfB (T : zT) (j N K c : Nat) : Int32 := cfS T j N K (c - 1)
def cfM (T : zT) (j N K c : Nat) : Int32 := if c = 0 then 0 else wks N K (ts T 2 j (cfB T j N K c)) 4 j
theorem cf_0 {T : zT} {j N K : Nat} : cfB T j N K 1 = nI 0 ∧ cfM T j N K 1 = wks N K (ts T 2 j (nI 0)) 4 j := ⟨by rw [nI_0]; rfl, by rw [nI_0]; rfl⟩
theorem cf_k {T : zT} {j N K c : Nat} (hc : c ≠ 0) (h : wks N K (ts T 2 j (nI c)) 4 j ≤ cfM T j N K c) : cfB T j N K (c + 1) = cfB T j N K c ∧ cfM T j N K (c + 1) = cfM T j N K c := by
  obtain ⟨i, rfl⟩ : ∃ i, c = i + 1 := ⟨c - 1, by omega⟩
  rw [cfM, if_neg hc] at h
  have e : cfB T j N K (i + 1 + 1) = cfB T j N K (i + 1) := by
    show cfS T j N K (i + 1) = cfS T j N K i
    exact if_neg (Int32.not_lt.mpr h)
  refine ⟨e, ?_⟩
  rw [cfM, cfM, if_neg (by omega), if_neg hc, e]
theorem cf_n {T : zT} {j N K c : Nat} (hc : c ≠ 0) (h : ¬ wks N K (ts T 2 j (nI c)) 4 j ≤ cfM T j N K c) : cfB T j N K (c + 1) = nI c ∧ cfM T j N K (c + 1) = wks N K (ts T 2 j (nI c)) 4 j := by
  obtain ⟨i, rfl⟩ : ∃ i, c = i + 1 := ⟨c - 1, by omega⟩
  rw [cfM, if_neg hc] at h
  have e : cfB T j N K (i + 1 + 1) = nI (i + 1) := by
    show cfS T j N K (i + 1) = nI (i + 1)
    exact if_pos (Int32.not_le.mp h)
  refine ⟨e, ?_⟩
  rw [cfM, if_neg (by omega), e]
def kfB (T : zT) (j N K c : Nat) : Int32 := kfS T j N K (c - 1)
def kfM (T : zT) (j N K c : Nat) : Int32 := if c = 0 then 0 else -(wks N K (ts T 0 j (kfB T j N K c)) 1 j)
theorem kf_0 {T : zT} {j N K : Nat} : kfB T j N K 1 = nI 0 ∧ kfM T j N K 1 = -(wks N K (ts T 0 j (nI 0)) 1 j) := ⟨by rw [nI_0]; rfl, by rw [nI_0]; rfl⟩
theorem kf_h {T : zT} {j N K : Nat} {v : Int32} (hH : wH T N) (hj : j < N) : ∃ h, h ≤ 9 ∧ wks N K (ts T 0 j v) 1 j = nI h := wks_H (wH_of (ts_n (by decide)) hH) K j hj
theorem kf_k {T : zT} {j N K c : Nat} (hH : wH T N) (hj : j < N) (hc : c ≠ 0) (h : -(wks N K (ts T 0 j (nI c)) 1 j) ≤ kfM T j N K c) : kfB T j N K (c + 1) = kfB T j N K c ∧ kfM T j N K (c + 1) = kfM T j N K c := by
  obtain ⟨i, rfl⟩ : ∃ i, c = i + 1 := ⟨c - 1, by omega⟩
  rw [kfM, if_neg hc] at h
  obtain ⟨a, ha, ea⟩ := kf_h (K := K) (v := nI (i + 1)) hH hj
  obtain ⟨b, hb, eb⟩ := kf_h (K := K) (v := kfB T j N K (i + 1)) hH hj
  rw [ea, eb, neg_lt ha hb] at h
  have e : kfB T j N K (i + 1 + 1) = kfB T j N K (i + 1) := by
    show kfS T j N K (i + 1) = kfS T j N K i
    rw [kfS, if_neg (by rw [ea, show kfS T j N K i = kfB T j N K (i + 1) from rfl, eb]; exact h)]
  refine ⟨e, ?_⟩
  rw [kfM, kfM, if_neg (by omega), if_neg hc, e]
theorem kf_n {T : zT} {j N K c : Nat} (hH : wH T N) (hj : j < N) (hc : c ≠ 0) (h : ¬ -(wks N K (ts T 0 j (nI c)) 1 j) ≤ kfM T j N K c) : kfB T j N K (c + 1) = nI c ∧ kfM T j N K (c + 1) = -(wks N K (ts T 0 j (nI c)) 1 j) := by
  obtain ⟨i, rfl⟩ : ∃ i, c = i + 1 := ⟨c - 1, by omega⟩
  rw [kfM, if_neg hc] at h
  obtain ⟨a, ha, ea⟩ := kf_h (K := K) (v := nI (i + 1)) hH hj
  obtain ⟨b, hb, eb⟩ := kf_h (K := K) (v := kfB T j N K (i + 1)) hH hj
  rw [ea, eb, neg_lt ha hb, Classical.not_not] at h
  have e : kfB T j N K (i + 1 + 1) = nI (i + 1) := by
    show kfS T j N K (i + 1) = nI (i + 1)
    rw [kfS, if_pos (by rw [ea, show kfS T j N K i = kfB T j N K (i + 1) from rfl, eb]; exact h)]
  refine ⟨e, ?_⟩
  rw [kfM, if_neg (by omega), e]
theorem nx_w {T : zT} {N : Nat} (h : wB T N) : T 7 5 < 999 ↔ ¬ 999 < T 7 5 + 1 := by
  obtain ⟨w, hw, e⟩ := wB_5 h
  rw [e, nI_1, show (999 : Int32) = nI 999 from rfl, nI_ltI (by omega) (by omega), nI_ltI (by omega) (by omega)]
  omega
theorem told_in {T : zT} {N : Nat} {w : Int32} (hN : wN T N) : inR w 0 (3 + T 7 8) = (!decide (w < 0) && !decide (4 + T 7 8 ≤ w)) := by
  have hN2 := hN.2
  rw [inR, hN.1, show (4 : Int32) = nI 4 from rfl, show (3 : Int32) = nI 3 from rfl, nI_add, nI_add]
  congr 2
  rw [Bool.eq_iff_iff, decide_eq_true_eq, decide_eq_true_eq]
  exact (ge_t (by rw [nI_toInt (by omega), nI_toInt (by omega)]; omega)).symm
