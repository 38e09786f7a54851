-- MOST: the class's greedy choice is the reference's greatest over all sets
def sumN (F : Nat → Nat) : Nat → Nat
  | 0 => 0
  | c + 1 => sumN F c + F c
theorem sumW_N {f : Nat → Int32} {F : Nat → Nat} : ∀ n, (∀ c, c < n → f c = nI (F c)) → sumW f n = nI (sumN F n) := by
  intro n
  induction n with
  | zero => intro _; exact nI_0.symm
  | succ n ih =>
    intro h
    rw [sumW, sumN, ih (fun c hc => h c (by omega)), h n (by omega), nI_add]
theorem sumN_le {F : Nat → Nat} {b : Nat} : ∀ n, (∀ c, c < n → F c ≤ b) → sumN F n ≤ n * b := by
  intro n
  induction n with
  | zero => intro _; exact Nat.zero_le _
  | succ n ih =>
    intro h
    have h1 := ih (fun c hc => h c (by omega))
    have h2 := h n (by omega)
    rw [sumN, Nat.succ_mul]
    omega
def cntB (p : Nat → Bool) : Nat → Nat := sumN (fun c => if p c = true then 1 else 0)
theorem bit_nI : ∀ c, c < 10 → ∀ k, k < 1024 → (nI k >>> (nI c &&& 31)) &&& 1 = if k.testBit c = true then (1 : Int32) else 0 := by decide +kernel
theorem clr_nI : ∀ c, c < 10 → ∀ k, k < 1024 → nI k &&& (((1 : Int32) <<< (nI c &&& 31)) ^^^ (-1)) = nI (k &&& (1023 ^^^ 2 ^ c)) := by decide +kernel
theorem clr_lt {c k : Nat} (hk : k < 1024) : k &&& (1023 ^^^ 2 ^ c) < 1024 := Nat.lt_of_le_of_lt Nat.and_le_left hk
theorem b1023 {i : Nat} : Nat.testBit 1023 i = decide (i < 10) := Nat.testBit_two_pow_sub_one 10 i
theorem hi_bit {k i : Nat} (hk : k < 1024) (hi : 10 ≤ i) : k.testBit i = false := Nat.testBit_lt_two_pow (Nat.lt_of_lt_of_le hk (Nat.pow_le_pow_right (n := 2) (by decide) hi))
theorem clr_bit {c k i : Nat} (hk : k < 1024) (hc : c < 10) : (k &&& (1023 ^^^ 2 ^ c)).testBit i = (k.testBit i && !decide (c = i)) := by
  rw [Nat.testBit_and, Nat.testBit_xor, b1023, Nat.testBit_two_pow]
  by_cases hi : i < 10
  · rw [decide_eq_true hi]
    cases decide (c = i) <;> rfl
  · rw [hi_bit hk (by omega)]
    rfl
theorem many_cnt {k : Nat} (hk : k < 1024) : many (nI k) = nI (cntB k.testBit 10) := by
  unfold many cntB
  refine sumW_N 10 (fun c hc => ?_)
  rw [bit_nI c hc k hk]
  split <;> rfl
theorem nI_bit {k i : Nat} (hi : i < 32) : (nI k).toBitVec.getLsbD i = k.testBit i := by
  show (BitVec.ofNat 32 k).getLsbD i = _
  rw [BitVec.getLsbD_ofNat, decide_eq_true hi, Bool.true_and]
theorem m1_bit : ∀ i, i < 32 → ((-1 : Int32).toBitVec).getLsbD i = true := by decide +kernel
theorem sub_nI {k h : Nat} (hk : k < 1024) : nI k &&& (nI h ^^^ (-1)) = 0 ↔ ∀ i, i < 10 → k.testBit i = true → h.testBit i = true := by
  have hb : ∀ i, i < 32 → (nI k &&& (nI h ^^^ (-1))).toBitVec.getLsbD i = (k.testBit i && !h.testBit i) := fun i hi => by
    rw [Int32.toBitVec_and, Int32.toBitVec_xor, BitVec.getLsbD_and, BitVec.getLsbD_xor, nI_bit hi, nI_bit hi, m1_bit i hi, Bool.xor_true]
  constructor
  · intro z i hi h1
    have h2 := hb i (by omega)
    rw [z, h1] at h2
    have h3 : ((0 : Int32).toBitVec).getLsbD i = false := by
      show (0#32).getLsbD i = false
      exact BitVec.getLsbD_zero
    rw [h3] at h2
    cases h4 : h.testBit i with
    | true => rfl
    | false => rw [h4] at h2; cases h2
  · intro z
    refine Int32.toBitVec_inj.mp (BitVec.eq_of_getLsbD_eq (fun i hi => ?_))
    rw [hb i hi]
    show _ = (0#32).getLsbD i
    rw [BitVec.getLsbD_zero]
    by_cases h10 : i < 10
    · cases h1 : k.testBit i with
      | true => rw [z i h10 h1]; rfl
      | false => rfl
    · rw [hi_bit hk (by omega)]
      rfl
theorem add_bit {k c i : Nat} (hk : k < 2 ^ c) : (k + 2 ^ c).testBit i = (k.testBit i || decide (i = c)) := by
  rw [Nat.add_comm]
  rcases Nat.lt_trichotomy i c with h | h | h
  · rw [Nat.testBit_two_pow_add_gt h, decide_eq_false (by omega), Bool.or_false]
  · subst h
    rw [Nat.testBit_two_pow_add_eq, Nat.testBit_lt_two_pow hk, decide_eq_true rfl]
    rfl
  · have h1 : 2 ^ c + k < 2 ^ i := by
      have : 2 ^ (c + 1) ≤ 2 ^ i := Nat.pow_le_pow_right (by decide) h
      rw [Nat.pow_succ] at this
      omega
    have h2 : k < 2 ^ i := by omega
    rw [Nat.testBit_lt_two_pow h1, Nat.testBit_lt_two_pow h2, decide_eq_false (by omega)]
    rfl
theorem setW_b (T : zT) (t : Int32) : ∀ c, c ≤ 10 → ∃ k, k < 2 ^ c ∧ setW T t c = nI k ∧ ∀ i, k.testBit i = (decide (i < c) && decide (T 5 i = t)) := by
  intro c
  induction c with
  | zero => intro _; exact ⟨0, by decide, nI_0.symm, fun i => by rw [Nat.zero_testBit]; rfl⟩
  | succ c ih =>
    intro hc
    obtain ⟨k, hk, e, hb⟩ := ih (by omega)
    rw [setW, e]
    by_cases h : T 5 c = t
    · rw [if_pos h, bits_or c (by omega) k hk]
      refine ⟨_, by rw [Nat.pow_succ]; omega, rfl, fun i => ?_⟩
      rw [add_bit hk, hb]
      by_cases hi : i = c
      · subst hi
        rw [decide_eq_true h, decide_eq_true (Nat.lt_succ_self i), decide_eq_true rfl, Bool.or_true]
        rfl
      · rw [decide_eq_false hi, Bool.or_false]
        congr 1
        rw [Bool.eq_iff_iff, decide_eq_true_eq, decide_eq_true_eq]
        omega
    · rw [if_neg h]
      refine ⟨k, by rw [Nat.pow_succ]; omega, rfl, fun i => ?_⟩
      rw [hb]
      by_cases hi : i = c
      · subst hi
        rw [decide_eq_false h, Bool.and_false, Bool.and_false]
      · congr 1
        rw [Bool.eq_iff_iff, decide_eq_true_eq, decide_eq_true_eq]
        omega
theorem hldW_b (T : zT) : ∀ c, c ≤ 10 → ∃ k, k < 2 ^ c ∧ hldW T c = nI k ∧ ∀ i, k.testBit i = (decide (i < c) && !decide (T 5 i = 0)) := by
  intro c
  induction c with
  | zero => intro _; exact ⟨0, by decide, nI_0.symm, fun i => by rw [Nat.zero_testBit]; rfl⟩
  | succ c ih =>
    intro hc
    obtain ⟨k, hk, e, hb⟩ := ih (by omega)
    rw [hldW, e]
    by_cases h : T 5 c = 0
    · rw [if_pos h]
      refine ⟨k, by rw [Nat.pow_succ]; omega, rfl, fun i => ?_⟩
      rw [hb]
      by_cases hi : i = c
      · subst hi
        rw [decide_eq_true h, Bool.not_true, Bool.and_false, Bool.and_false]
      · congr 1
        rw [Bool.eq_iff_iff, decide_eq_true_eq, decide_eq_true_eq]
        omega
    · rw [if_neg h, bits_or c (by omega) k hk]
      refine ⟨_, by rw [Nat.pow_succ]; omega, rfl, fun i => ?_⟩
      rw [add_bit hk, hb]
      by_cases hi : i = c
      · subst hi
        rw [decide_eq_false h, decide_eq_true (Nat.lt_succ_self i), decide_eq_true rfl, Bool.or_true]
        rfl
      · rw [decide_eq_false hi, Bool.or_false]
        congr 1
        rw [Bool.eq_iff_iff, decide_eq_true_eq, decide_eq_true_eq]
        omega
theorem set_hld (T : zT) {N : Nat} (hT : wTk T N) : ∀ c, c ≤ N → setW T 1 c ||| setW T 2 c = hldW T c := by
  intro c
  induction c with
  | zero =>
    intro _
    show (0 : Int32) ||| 0 = 0
    decide
  | succ c ih =>
    intro hc
    rw [setW, setW, hldW, ← ih (by omega)]
    rcases hT c (by omega) with h | h | h
    · rw [if_neg (by rw [h]; decide), if_neg (by rw [h]; decide), if_pos h]
    · rw [if_pos h, if_neg (by rw [h]; decide), if_neg (by rw [h]; decide), Int32.or_assoc, Int32.or_assoc, Int32.or_comm (setW T 2 c)]
    · rw [if_neg (by rw [h]; decide), if_pos h, if_neg (by rw [h]; decide), Int32.or_assoc]
theorem lwN {T : zT} {N c : Nat} (hH : wH T N) (hc : c < N) : lw T c = nI (ci (lw T c)) ∧ ci (lw T c) ≤ 22 := by
  obtain ⟨h, hh, e⟩ := hH c hc
  obtain ⟨l, hl, el⟩ := lw_nI e hh
  have : ci (nI l) = l := nI_clamp (by omega)
  rw [el, this]
  exact ⟨rfl, hl⟩
theorem swN (T : zT) (c : Nat) : sw T c = nI (ci (sw T c)) ∧ ci (sw T c) ≤ 12 := by
  obtain ⟨s, hs, es⟩ := sw_nI T c
  have : ci (nI s) = s := nI_clamp (by omega)
  rw [es, this]
  exact ⟨rfl, hs⟩
def gI (T : zT) (c : Nat) : Int := (ci (lw T c) : Int) - (ci (sw T c) : Int)
theorem gI_to {T : zT} {N c : Nat} (hH : wH T N) (hc : c < N) : (lw T c - sw T c).toInt = gI T c := by
  have h1 := lwN hH hc
  have h2 := swN T c
  rw [h1.1, h2.1, pk_sub_toInt (by omega) (by omega), gI]
theorem gI_hi {T : zT} {N c : Nat} (hH : wH T N) (hc : c < N) : gI T c ≤ 22 := by
  have h1 := lwN hH hc
  unfold gI
  omega
/-- the keenest of a set -/
theorem ke_s {T : zT} {N m : Nat} (hN : N ≤ 10) (hH : wH T N) (hm : m < 1024) : ∀ c, c ≤ N → ((keS T N (nI m) c).1 = N ∧ ∀ i, i < c → m.testBit i = false) ∨ ((keS T N (nI m) c).1 < c ∧ m.testBit (keS T N (nI m) c).1 = true ∧ (keS T N (nI m) c).2 = lw T (keS T N (nI m) c).1 - sw T (keS T N (nI m) c).1 ∧ ∀ i, i < c → m.testBit i = true → gI T i ≤ gI T (keS T N (nI m) c).1) := by
  intro c
  induction c with
  | zero => intro _; exact Or.inl ⟨rfl, fun i hi => absurd hi (Nat.not_lt_zero _)⟩
  | succ c ih =>
    intro hc
    have hb := bit_nI c (by omega) m hm
    by_cases hq : m.testBit c = true
    · rw [if_pos hq] at hb
      rcases ih (by omega) with ⟨h1, h2⟩ | ⟨h1, h2, h3, h4⟩
      · have e : keS T N (nI m) (c + 1) = (c, lw T c - sw T c) := if_pos ⟨hb, Or.inl h1⟩
        rw [e]
        refine Or.inr ⟨Nat.lt_succ_self c, hq, rfl, fun i hi h5 => ?_⟩
        by_cases hic : i = c
        · subst hic; exact Int.le_refl _
        · rw [h2 i (by omega)] at h5
          cases h5
      · have hne : ¬ (keS T N (nI m) c).1 = N := by omega
        by_cases hlt : (keS T N (nI m) c).2 < lw T c - sw T c
        · have e : keS T N (nI m) (c + 1) = (c, lw T c - sw T c) := if_pos ⟨hb, Or.inr hlt⟩
          rw [e]
          rw [h3, Int32.lt_iff_toInt_lt, gI_to hH (by omega), gI_to hH (by omega)] at hlt
          refine Or.inr ⟨Nat.lt_succ_self c, hq, rfl, fun i hi h5 => ?_⟩
          by_cases hic : i = c
          · subst hic; exact Int.le_refl _
          · have := h4 i (by omega) h5
            show gI T i ≤ gI T c
            omega
        · have e : keS T N (nI m) (c + 1) = keS T N (nI m) c := if_neg (fun z => z.2.elim hne hlt)
          rw [e]
          rw [h3, Int32.lt_iff_toInt_lt, gI_to hH (by omega), gI_to hH (by omega)] at hlt
          refine Or.inr ⟨by omega, h2, h3, fun i hi h5 => ?_⟩
          by_cases hic : i = c
          · subst hic; omega
          · exact h4 i (by omega) h5
    · rw [if_neg hq] at hb
      have e : keS T N (nI m) (c + 1) = keS T N (nI m) c := if_neg (fun z => absurd (hb.symm.trans z.1) (by decide))
      rw [e]
      have hq2 : m.testBit c = false := Bool.eq_false_iff.mpr hq
      rcases ih (by omega) with ⟨h1, h2⟩ | ⟨h1, h2, h3, h4⟩
      · refine Or.inl ⟨h1, fun i hi => ?_⟩
        by_cases hic : i = c
        · rw [hic]; exact hq2
        · exact h2 i (by omega)
      · refine Or.inr ⟨by omega, h2, h3, fun i hi h5 => ?_⟩
        by_cases hic : i = c
        · rw [hic, hq2] at h5
          cases h5
        · exact h4 i (by omega) h5
/-- what is taken adds up -/
def gaW (T : zT) (p : Nat → Bool) : Nat → Int32
  | 0 => 0
  | c + 1 => gaW T p c + (if p c = true then lw T c - sw T c else 0)
theorem gaW_cg {T : zT} {p q : Nat → Bool} : ∀ n, (∀ c, c < n → p c = q c) → gaW T p n = gaW T q n := by
  intro n
  induction n with
  | zero => intro _; rfl
  | succ n ih =>
    intro h
    rw [gaW, gaW, ih (fun c hc => h c (by omega)), h n (by omega)]
theorem gaW_add {T : zT} {p q : Nat → Bool} {k : Nat} : ∀ n, k < n → (∀ c, c < n → c ≠ k → q c = p c) → p k = false → q k = true → gaW T q n = gaW T p n + (lw T k - sw T k) := by
  intro n
  induction n with
  | zero => intro h; omega
  | succ n ih =>
    intro hk h h1 h2
    rw [gaW, gaW]
    by_cases hn : k = n
    · subst hn
      rw [h1, h2, gaW_cg k (fun c hc => h c (by omega) (by omega))]
      simp
    · rw [ih (by omega) (fun c hc => h c (by omega)) h1 h2, h n (by omega) (fun z => hn z.symm), Int32.add_assoc, Int32.add_assoc, Int32.add_comm (lw T k - sw T k)]
theorem cntB_cg {p q : Nat → Bool} : ∀ n, (∀ c, c < n → p c = q c) → cntB p n = cntB q n := by
  intro n
  induction n with
  | zero => intro _; rfl
  | succ n ih =>
    intro h
    have h1 := ih (fun c hc => h c (by omega))
    unfold cntB at h1 ⊢
    rw [sumN, sumN, h1, h n (by omega)]
theorem cntB_add {p q : Nat → Bool} {k : Nat} : ∀ n, k < n → (∀ c, c < n → c ≠ k → q c = p c) → p k = false → q k = true → cntB q n = cntB p n + 1 := by
  intro n
  induction n with
  | zero => intro h; omega
  | succ n ih =>
    intro hk h h1 h2
    by_cases hn : k = n
    · subst hn
      have h3 := cntB_cg k (fun c hc => h c (by omega) (by omega))
      unfold cntB at h3 ⊢
      rw [sumN, sumN, h3, h1, h2]
      rfl
    · have h3 := ih (by omega) (fun c hc => h c (by omega)) h1 h2
      unfold cntB at h3 ⊢
      rw [sumN, sumN, h3, h n (by omega) (fun z => hn z.symm)]
      omega
theorem cntB_le {p q : Nat → Bool} : ∀ n, (∀ c, c < n → p c = true → q c = true) → cntB p n ≤ cntB q n := by
  intro n
  induction n with
  | zero => intro _; exact Nat.le_refl _
  | succ n ih =>
    intro h
    have h1 := ih (fun c hc => h c (by omega))
    unfold cntB at h1 ⊢
    rw [sumN, sumN]
    cases hp : p n with
    | false => simp only [Bool.false_eq_true, if_false]; omega
    | true => rw [h n (by omega) hp]; omega
theorem cntB_0 {p : Nat → Bool} : ∀ n, (∀ c, c < n → p c = false) → cntB p n = 0 := by
  intro n
  induction n with
  | zero => intro _; rfl
  | succ n ih =>
    intro h
    have h1 := ih (fun c hc => h c (by omega))
    unfold cntB at h1 ⊢
    rw [sumN, h1, h n (by omega)]
    rfl
theorem cntB_hi {p : Nat → Bool} {N : Nat} (h : ∀ c, N ≤ c → p c = false) : ∀ n, N ≤ n → cntB p n = cntB p N := by
  intro n
  induction n with
  | zero => intro hn; rw [show N = 0 by omega]
  | succ n ih =>
    intro hn
    by_cases hq : N = n + 1
    · rw [hq]
    · have h1 := ih (by omega)
      unfold cntB at h1 ⊢
      rw [sumN, h1, h n (by omega)]
      rfl
/-- behind i steps: m is left of h, the rest is taken, and t divides them -/
def bwP (T : zT) (N h : Nat) (S0 : Int32) (i : Nat) : Prop := ∃ (m : Nat) (t : Int), m < 1024 ∧ (bwS T N S0 (nI h) i).2 = nI m ∧ (∀ c, m.testBit c = true → h.testBit c = true) ∧ cntB (fun c => h.testBit c && !m.testBit c) N = i ∧ (bwS T N S0 (nI h) i).1 = S0 + gaW T (fun c => h.testBit c && !m.testBit c) N ∧ (∀ c, c < N → h.testBit c = true → m.testBit c = false → t ≤ gI T c) ∧ (∀ c, c < N → m.testBit c = true → gI T c ≤ t)
theorem bw_0 {T : zT} {N h : Nat} {S0 : Int32} (hH : wH T N) (hh : h < 1024) : bwP T N h S0 0 := by
  have e : ∀ c, (h.testBit c && !h.testBit c) = false := fun c => by cases h.testBit c <;> rfl
  refine ⟨h, 22, hh, rfl, fun _ z => z, cntB_0 N (fun c _ => e c), ?_, fun c hc h1 h2 => (by rw [h1] at h2; cases h2), fun c hc _ => gI_hi hH hc⟩
  have e2 : gaW T (fun c => h.testBit c && !h.testBit c) N = 0 := by
    rw [gaW_cg (q := fun _ => false) N (fun c _ => e c)]
    generalize N = n
    induction n with
    | zero => rfl
    | succ n ih => rw [gaW, ih]; rfl
  rw [e2, Int32.add_zero]
  rfl
theorem bw_s {T : zT} {N h i : Nat} {S0 : Int32} (hN : N ≤ 10) (hH : wH T N) (hhN : ∀ c, N ≤ c → h.testBit c = false) (hi : i < cntB h.testBit N) (hP : bwP T N h S0 i) : bwP T N h S0 (i + 1) := by
  obtain ⟨m, t, hm, e2, hsub, hcnt, e1, hlo, hhi⟩ := hP
  have hk := ke_s hN hH hm N (Nat.le_refl _)
  rcases hk with ⟨k1, k2⟩ | ⟨k1, k2, k3, k4⟩
  · exfalso
    have : cntB (fun c => h.testBit c && !m.testBit c) N = cntB h.testBit N := cntB_cg N (fun c hc => by rw [k2 c hc]; simp)
    omega
  · have eb : bwS T N S0 (nI h) (i + 1) = ((bwS T N S0 (nI h) i).1 + (lw T (keS T N (nI m) N).1 - sw T (keS T N (nI m) N).1), (bwS T N S0 (nI h) i).2 &&& (((1 : Int32) <<< (nI (keS T N (nI m) N).1 &&& 31)) ^^^ (-1))) := by
      simp only [bwS]
      rw [e2, if_pos k1]
    generalize hkk : (keS T N (nI m) N).1 = k at k1 k2 k3 k4 eb
    have hclr := fun c => clr_bit (c := k) (k := m) (i := c) hm (by omega)
    have hkb : h.testBit k = true := hsub k k2
    have hq : ∀ c, c < N → c ≠ k → (h.testBit c && !(m &&& (1023 ^^^ 2 ^ k)).testBit c) = (h.testBit c && !m.testBit c) := fun c _ hck => by
      rw [hclr, decide_eq_false (fun z => hck z.symm)]
      simp
    have hpk : (h.testBit k && !m.testBit k) = false := by rw [k2]; simp
    have hqk : (h.testBit k && !(m &&& (1023 ^^^ 2 ^ k)).testBit k) = true := by rw [hclr, hkb, decide_eq_true rfl]; simp
    refine ⟨m &&& (1023 ^^^ 2 ^ k), gI T k, clr_lt hm, ?_, fun c hc => ?_, ?_, ?_, fun c hc h1 h2 => ?_, fun c hc h1 => ?_⟩
    · rw [eb, e2]
      exact clr_nI k (by omega) m hm
    · rw [hclr, Bool.and_eq_true] at hc
      exact hsub c hc.1
    · rw [cntB_add (p := fun c => h.testBit c && !m.testBit c) N k1 hq hpk hqk, hcnt]
    · rw [eb, e1, gaW_add (p := fun c => h.testBit c && !m.testBit c) N k1 hq hpk hqk, Int32.add_assoc]
    · by_cases hck : c = k
      · rw [hck]; exact Int.le_refl _
      · rw [hclr, decide_eq_false (fun z => hck z.symm)] at h2
        have h3 := hlo c hc h1 (by simpa using h2)
        have h4 := hhi k k1 k2
        omega
    · rw [hclr, Bool.and_eq_true] at h1
      exact k4 c hc h1.1
theorem bw_all {T : zT} {N h : Nat} {S0 : Int32} (hN : N ≤ 10) (hH : wH T N) (hh : h < 1024) (hhN : ∀ c, N ≤ c → h.testBit c = false) : ∀ i, i ≤ cntB h.testBit N → bwP T N h S0 i := by
  intro i
  induction i with
  | zero => intro _; exact bw_0 hH hh
  | succ i ih => intro hi; exact bw_s hN hH hhN (by omega) (ih (by omega))
/-- what a set of loaves brings, in natural numbers -/
def moF (T : zT) (h i c : Nat) : Nat := if h.testBit c = false then 0 else if i.testBit c = true then ci (lw T c) else ci (sw T c)
theorem moV_N {T : zT} {N h i : Nat} (hN : N ≤ 10) (hH : wH T N) (hh : h < 1024) (hi : i < 1024) : ∀ n, n ≤ N → moV T (nI h) (nI i) n = nI (sumN (moF T h i) n) := by
  intro n
  induction n with
  | zero => intro _; exact nI_0.symm
  | succ n ih =>
    intro hn
    rw [moV, sumN, ih (by omega), bit_nI n (by omega) h hh, bit_nI n (by omega) i hi, ← nI_add]
    congr 1
    unfold moF
    cases hb : h.testBit n with
    | false => simp [nI_0]
    | true =>
      cases ib : i.testBit n with
      | false => simp; exact (swN T n).1
      | true => simp; exact (lwN hH (by omega)).1
theorem mo_gr {T : zT} {N h i y : Nat} {t : Int} (hs : ∀ c, i.testBit c = true → h.testBit c = true) (hy : ∀ c, y.testBit c = true → h.testBit c = true) (hlo : ∀ c, c < N → y.testBit c = true → t ≤ gI T c) (hhi : ∀ c, c < N → h.testBit c = true → y.testBit c = false → gI T c ≤ t) : ∀ n, n ≤ N → (sumN (moF T h i) n : Int) - t * (cntB i.testBit n : Int) ≤ (sumN (moF T h y) n : Int) - t * (cntB y.testBit n : Int) := by
  intro n
  induction n with
  | zero => intro _; exact Int.le_refl _
  | succ n ih =>
    intro hn
    have h1 := ih (by omega)
    have e1 : (cntB i.testBit (n + 1) : Int) = (cntB i.testBit n : Int) + (if i.testBit n = true then 1 else 0) := by
      unfold cntB
      rw [sumN]
      split <;> simp
    have e2 : (cntB y.testBit (n + 1) : Int) = (cntB y.testBit n : Int) + (if y.testBit n = true then 1 else 0) := by
      unfold cntB
      rw [sumN]
      split <;> simp
    rw [e1, e2, sumN, sumN, Int.mul_add, Int.mul_add]
    have h2 : (moF T h i n : Int) - t * (if i.testBit n = true then 1 else 0) ≤ (moF T h y n : Int) - t * (if y.testBit n = true then 1 else 0) := by
      unfold moF
      cases hb : h.testBit n with
      | false =>
        have a1 : i.testBit n = false := Bool.eq_false_iff.mpr (fun z => by rw [hs n z] at hb; cases hb)
        have a2 : y.testBit n = false := Bool.eq_false_iff.mpr (fun z => by rw [hy n z] at hb; cases hb)
        rw [a1, a2]
        simp
      | true =>
        cases ib : i.testBit n with
        | false =>
          cases yb : y.testBit n with
          | false => simp
          | true =>
            have := hlo n (by omega) yb
            unfold gI at this
            simp
            omega
        | true =>
          cases yb : y.testBit n with
          | false =>
            have := hhi n (by omega) hb yb
            unfold gI at this
            simp
            omega
          | true => simp
    push_cast
    omega
/-- the greatest over all sets -/
theorem mo_max {T : zT} {N h L y : Nat} (hN : N ≤ 10) (hH : wH T N) (hh : h < 1024) (hy : y < 1024) (hL : L < 2 ^ 31) (vy : (∀ c, c < 10 → y.testBit c = true → h.testBit c = true) ∧ cntB y.testBit 10 = L) (hmax : ∀ i, i < 1024 → (∀ c, c < 10 → i.testBit c = true → h.testBit c = true) → cntB i.testBit 10 = L → sumN (moF T h i) N ≤ sumN (moF T h y) N) : ∀ M, M ≤ 1024 → ∃ b, b ≤ sumN (moF T h y) N ∧ moS T N (nI h) (nI L) M = nI b ∧ (y < M → b = sumN (moF T h y) N) := by
  have hs : ∀ i, sumN (moF T h i) N ≤ 220 := fun i => by
    have := sumN_le (F := moF T h i) (b := 22) N (fun c hc => by
      have h1 := lwN hH hc
      have h2 := swN T c
      unfold moF
      repeat' split
      all_goals omega)
    omega
  have hc10 : ∀ i : Nat, cntB i.testBit 10 ≤ 10 := fun i => by
    have := sumN_le (F := fun c => if i.testBit c = true then 1 else 0) (b := 1) 10 (fun c _ => by
      split
      · exact Nat.le_refl 1
      · exact Nat.zero_le 1)
    exact this
  intro M
  induction M with
  | zero => intro _; exact ⟨0, Nat.zero_le _, nI_0.symm, fun z => absurd z (Nat.not_lt_zero _)⟩
  | succ M ih =>
    intro hM
    obtain ⟨b, hb, eb, hby⟩ := ih (by omega)
    have hv : (nI M &&& (nI h ^^^ (-1)) = 0 ∧ many (nI M) = nI L) ↔ ((∀ c, c < 10 → M.testBit c = true → h.testBit c = true) ∧ cntB M.testBit 10 = L) := by
      have := hc10 M
      rw [sub_nI (by omega), many_cnt (by omega), nI_eq (by omega) hL]
    have hsM := hs M
    have hsy := hs y
    by_cases hval : (∀ c, c < 10 → M.testBit c = true → h.testBit c = true) ∧ cntB M.testBit 10 = L
    · have hmx := hmax M (by omega) hval.1 hval.2
      by_cases hlt : moS T N (nI h) (nI L) M < moV T (nI h) (nI M) N
      · have e : moS T N (nI h) (nI L) (M + 1) = moV T (nI h) (nI M) N := (if_pos (hv.mpr hval)).trans (if_pos hlt)
        rw [moV_N hN hH hh (by omega) N (Nat.le_refl _)] at e hlt
        rw [eb, nI_ltI (by omega) (by omega)] at hlt
        refine ⟨_, hmx, e, fun hyM => ?_⟩
        by_cases hyy : y = M
        · rw [hyy]
        · have := hby (by omega)
          omega
      · have e : moS T N (nI h) (nI L) (M + 1) = moS T N (nI h) (nI L) M := (if_pos (hv.mpr hval)).trans (if_neg hlt)
        rw [moV_N hN hH hh (by omega) N (Nat.le_refl _), eb, nI_ltI (by omega) (by omega)] at hlt
        refine ⟨b, hb, e.trans eb, fun hyM => ?_⟩
        by_cases hyy : y = M
        · rw [hyy] at hb ⊢
          omega
        · exact hby (by omega)
    · have e : moS T N (nI h) (nI L) (M + 1) = moS T N (nI h) (nI L) M := if_neg (fun z => hval (hv.mp z))
      refine ⟨b, hb, e.trans eb, fun hyM => ?_⟩
      by_cases hyy : y = M
      · rw [hyy] at vy
        exact absurd vy hval
      · exact hby (by omega)
theorem moV_ga {T : zT} {h y : Nat} (hh : h < 1024) (hy : y < 1024) : ∀ n, n ≤ 10 → moV T (nI h) (nI y) n = sumW (fun c => if h.testBit c = false then 0 else sw T c) n + gaW T (fun c => h.testBit c && y.testBit c) n := by
  intro n
  induction n with
  | zero => intro _; rfl
  | succ n ih =>
    intro hn
    rw [moV, sumW, gaW, ih (by omega), bit_nI n (by omega) h hh, bit_nI n (by omega) y hy]
    have e : ∀ a b c d : Int32, a + b + (c + d) = a + c + (b + d) := fun a b c d => by
      rw [Int32.add_assoc, Int32.add_assoc, ← Int32.add_assoc b c d, Int32.add_comm b c, Int32.add_assoc]
    rw [e]
    congr 1
    cases hb : h.testBit n with
    | false => simp
    | true =>
      cases yb : y.testBit n with
      | false => simp
      | true =>
        simp
        rw [Int32.add_comm, Int32.sub_add_cancel]
theorem bw_mo {T : zT} {N : Nat} (hN : wN T N) (hH : wH T N) (hT : wTk T N) : ∃ L, L < 11 ∧ many (setW T 1 N) = nI L ∧ (bwS T N (sumW (fun c => if T 5 c = 0 then 0 else sw T c) N) (hldW T N) L).1 = moS T N (setW T 1 N ||| setW T 2 N) (many (setW T 1 N)) (2 ^ N) := by
  have hN2 := hN.2
  obtain ⟨a, ha, ea, hab⟩ := setW_b T 1 N hN2
  obtain ⟨h, hh, eh, hhb⟩ := hldW_b T N hN2
  have ha' := p2_le hN2 ha
  have hh' := p2_le hN2 hh
  have hhN : ∀ c, N ≤ c → h.testBit c = false := fun c hc => by rw [hhb, decide_eq_false (by omega)]; rfl
  have haN : ∀ c, N ≤ c → a.testBit c = false := fun c hc => by rw [hab, decide_eq_false (by omega)]; rfl
  have hsub : ∀ c, a.testBit c = true → h.testBit c = true := fun c hc => by
    rw [hab, Bool.and_eq_true, decide_eq_true_eq, decide_eq_true_eq] at hc
    rw [hhb, decide_eq_true hc.1, hc.2]
    rfl
  have hLe : cntB a.testBit 10 = cntB a.testBit N := cntB_hi haN 10 hN2
  have hle : cntB a.testBit N ≤ cntB h.testBit N := cntB_le N (fun c _ => hsub c)
  have hL10 : cntB a.testBit N ≤ N * 1 := sumN_le (F := fun c => if a.testBit c = true then 1 else 0) N (fun c _ => by
    split
    · exact Nat.le_refl 1
    · exact Nat.zero_le 1)
  refine ⟨cntB a.testBit N, by omega, by rw [ea, many_cnt ha', hLe], ?_⟩
  rw [set_hld T hT N (Nat.le_refl _), eh, ea, many_cnt ha', hLe]
  obtain ⟨m, t, hm, -, hms, hcnt, e1, hlo, hhi⟩ := bw_all (S0 := sumW (fun c => if T 5 c = 0 then 0 else sw T c) N) hN2 hH hh' hhN _ hle
  have hyb : ∀ c, (h &&& (1023 ^^^ m)).testBit c = (h.testBit c && !m.testBit c) := fun c => by
    rw [Nat.testBit_and, Nat.testBit_xor, b1023]
    by_cases hc : c < 10
    · rw [decide_eq_true hc]
      cases m.testBit c <;> rfl
    · rw [hi_bit hh' (by omega)]
      rfl
  have hy : h &&& (1023 ^^^ m) < 1024 := Nat.lt_of_le_of_lt Nat.and_le_left hh'
  have hyN : h &&& (1023 ^^^ m) < 2 ^ N := Nat.lt_of_le_of_lt Nat.and_le_left hh
  generalize hyy : h &&& (1023 ^^^ m) = y at hyb hy hyN
  have hys : ∀ c, y.testBit c = true → h.testBit c = true := fun c hc => by
    rw [hyb, Bool.and_eq_true] at hc
    exact hc.1
  have hyc : cntB y.testBit N = cntB a.testBit N := (cntB_cg N (fun c _ => hyb c)).trans hcnt
  have hyc10 : cntB y.testBit 10 = cntB a.testBit N := (cntB_hi (fun c hc => by rw [hyb, hhN c hc]; rfl) 10 hN2).trans hyc
  have hy_lo : ∀ c, c < N → y.testBit c = true → t ≤ gI T c := fun c hc h1 => by
    rw [hyb, Bool.and_eq_true] at h1
    exact hlo c hc h1.1 (by simpa using h1.2)
  have hy_hi : ∀ c, c < N → h.testBit c = true → y.testBit c = false → gI T c ≤ t := fun c hc h1 h2 => by
    rw [hyb, h1] at h2
    exact hhi c hc (by simpa using h2)
  obtain ⟨b, hb, eb, hby⟩ := mo_max (T := T) (N := N) (h := h) (L := cntB a.testBit N) (y := y) hN2 hH hh' hy (by omega) ⟨fun c _ hc => hys c hc, hyc10⟩ (fun i hi h1 h2 => by
    have his : ∀ c, i.testBit c = true → h.testBit c = true := fun c hc => by
      by_cases h10 : c < 10
      · exact h1 c h10 hc
      · rw [hi_bit hi (by omega)] at hc
        cases hc
    have hic : cntB i.testBit N = cntB a.testBit N := (cntB_hi (fun c hc => Bool.eq_false_iff.mpr (fun z => by have w := his c z; rw [hhN c hc] at w; cases w)) 10 hN2).symm.trans h2
    have := mo_gr (T := T) (N := N) (t := t) his hys hy_lo hy_hi N (Nat.le_refl _)
    rw [hic, hyc] at this
    omega) (2 ^ N) (p2_N hN2)
  rw [eb, hby hyN, ← moV_N hN2 hH hh' hy N (Nat.le_refl _), e1, moV_ga hh' hy N hN2]
  have es : sumW (fun c => if T 5 c = 0 then 0 else sw T c) N = sumW (fun c => if h.testBit c = false then 0 else sw T c) N := by
    have key : ∀ n, n ≤ N → sumW (fun c => if T 5 c = 0 then 0 else sw T c) n = sumW (fun c => if h.testBit c = false then 0 else sw T c) n := by
      intro n
      induction n with
      | zero => intro _; rfl
      | succ n ih =>
        intro hn
        rw [sumW, sumW, ih (by omega), hhb, decide_eq_true (show n < N by omega)]
        congr 1
        by_cases h5 : T 5 n = 0
        · rw [if_pos h5, decide_eq_true h5]; rfl
        · rw [if_neg h5, decide_eq_false h5]; rfl
    exact key N (Nat.le_refl _)
  rw [es]
  congr 1
  exact gaW_cg N (fun c _ => by
    rw [hyb]
    cases h.testBit c <;> rfl)
