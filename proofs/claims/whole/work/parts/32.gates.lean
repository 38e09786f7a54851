-- THE GATES: the class's one walk makes the changes of the document's search
theorem fwA_some {T : zT} {t : Int32} : ∀ {k c i : Nat}, fwA T t k c = some i → c ≤ i ∧ i < c + k ∧ (T 5 i = t ∧ wo T i = true) := by
  intro k
  induction k with
  | zero => intro c i h; cases h
  | succ k ih =>
    intro c i h
    rw [fwA] at h
    split at h
    · cases h
      exact ⟨Nat.le_refl _, by omega, by assumption⟩
    · have := ih h
      exact ⟨by omega, by omega, this.2.2⟩
theorem fwA_eq {T : zT} {t : Int32} : ∀ {k c i : Nat}, c ≤ i → i < c + k → (T 5 i = t ∧ wo T i = true) → (∀ j, c ≤ j → j < i → ¬ (T 5 j = t ∧ wo T j = true)) → fwA T t k c = some i := by
  intro k
  induction k with
  | zero => intro c i h1 h2; omega
  | succ k ih =>
    intro c i h1 h2 h3 h4
    rw [fwA]
    by_cases hc : c = i
    · subst hc
      rw [if_pos h3]
    · rw [if_neg (h4 c (Nat.le_refl _) (by omega))]
      exact ih (by omega) (by omega) h3 (fun j hj => h4 j (by omega))
theorem fwA_none {T : zT} {t : Int32} : ∀ {k c : Nat}, (∀ j, c ≤ j → j < c + k → ¬ (T 5 j = t ∧ wo T j = true)) → fwA T t k c = none := by
  intro k
  induction k with
  | zero => intro c _; rfl
  | succ k ih =>
    intro c h
    rw [fwA, if_neg (h c (Nat.le_refl _) (by omega))]
    exact ih (fun j hj hj2 => h j (by omega) (by omega))
theorem skp_no {U : zT} : ∀ {k p : Nat}, (∀ j, p ≤ j → j < skp U k p → ¬ (U 5 j = 2 ∧ wo U j = true)) ∧ (skp U k p < p + k → U 5 (skp U k p) = 2 ∧ wo U (skp U k p) = true) := by
  intro k
  induction k with
  | zero => intro p; exact ⟨fun j h1 h2 => by rw [skp] at h2; omega, fun h => by rw [skp] at h; omega⟩
  | succ k ih =>
    intro p
    rw [skp]
    split
    · exact ⟨fun j h1 h2 => by omega, fun _ => by assumption⟩
    · rename_i hn
      have := ih (p := p + 1)
      refine ⟨fun j h1 h2 => ?_, fun h => this.2 (by omega)⟩
      by_cases hj : j = p
      · rw [hj]; exact hn
      · exact this.1 j (by omega) h2
theorem lw_ex {T : zT} {x y c : Nat} : lw (exT T x y) c = lw T c := by
  unfold lw bread
  rw [exT_n (by decide), exT_n (by decide), exT_n (by decide)]
theorem sw_ex {T : zT} {x y c : Nat} : sw (exT T x y) c = sw T c := by
  unfold sw
  rw [exT_n (by decide), exT_n (by decide), exT_n (by decide)]
theorem ex_o {T : zT} {x y c : Nat} (hx : c ≠ x) (hy : c ≠ y) : exT T x y 5 c = T 5 c := by rw [exT, ts_i hy, ts_i hx]
theorem ex_y {T : zT} {x y : Nat} : exT T x y 5 y = T 5 x := by rw [exT, ts_s]
theorem ex_x {T : zT} {x y : Nat} (h : x ≠ y) : exT T x y 5 x = T 5 y := by rw [exT, ts_i h, ts_s]
theorem wo_o {T : zT} {x y c : Nat} (hx : c ≠ x) (hy : c ≠ y) : wo (exT T x y) c = wo T c := by
  unfold wo
  rw [ex_o hx hy, lw_ex, sw_ex]
theorem i12 : ¬ (1 : Int32) = 2 := by decide
theorem i21 : ¬ (2 : Int32) = 1 := by decide
theorem wo_x {T : zT} {x y : Nat} (h : x ≠ y) (h1 : T 5 x = 1 ∧ wo T x = true) (h2 : T 5 y = 2) : wo (exT T x y) x = false := by
  have h3 := h1.2
  unfold wo at h3 ⊢
  rw [ex_x h, lw_ex, sw_ex, h2, if_neg i21, if_pos rfl]
  rw [if_pos h1.1] at h3
  simp only [decide_eq_true_eq, decide_eq_false_iff_not, Int32.lt_iff_toInt_lt] at h3 ⊢
  omega
theorem wo_y {T : zT} {x y : Nat} (h1 : T 5 x = 1) (h2 : T 5 y = 2 ∧ wo T y = true) : wo (exT T x y) y = false := by
  have h3 := h2.2
  unfold wo at h3 ⊢
  rw [ex_y, lw_ex, sw_ex, h1, if_pos rfl]
  rw [h2.1, if_neg i21, if_pos rfl] at h3
  simp only [decide_eq_true_eq, decide_eq_false_iff_not, Int32.lt_iff_toInt_lt] at h3 ⊢
  omega
theorem opn_1 {N k : Nat} {T : zT} {a b : Nat} (ha : fwA T 1 N 0 = some a) (hb : fwA T 2 N 0 = some b) : opn N (k + 1) T = ((opn N k (exT T a b)).1 + 1, (opn N k (exT T a b)).2) := by
  rw [opn, ha, hb]
theorem opn_a {N k : Nat} {T : zT} (ha : fwA T 1 N 0 = none) : opn N k T = (0, T) := by
  cases k with
  | zero => rfl
  | succ k => rw [opn, ha]
theorem opn_b {N k : Nat} {T : zT} (hb : fwA T 2 N 0 = none) : opn N k T = (0, T) := by
  cases k with
  | zero => rfl
  | succ k =>
    rw [opn, hb]
    cases fwA T 1 N 0 <;> rfl
theorem og_inv (T : zT) (N : Nat) : ∀ c, c ≤ N → (∀ m, opn N (m + (ogS T N c).2.2) T = ((opn N m (ogS T N c).1).1 + (ogS T N c).2.2, (opn N m (ogS T N c).1).2)) ∧ (∀ i, i < c → ¬ ((ogS T N c).1 5 i = 1 ∧ wo (ogS T N c).1 i = true)) ∧ (∀ i, i < (ogS T N c).2.1 → ¬ ((ogS T N c).1 5 i = 2 ∧ wo (ogS T N c).1 i = true)) ∨ (c ≤ N ∧ (∀ m, opn N (m + (ogS T N c).2.2) T = ((ogS T N c).2.2, (ogS T N c).1)) ∧ (∀ i, i < N → ¬ ((ogS T N c).1 5 i = 2 ∧ wo (ogS T N c).1 i = true))) := by
  intro c
  induction c with
  | zero => intro _; exact Or.inl ⟨fun m => rfl, fun i hi => absurd hi (Nat.not_lt_zero _), fun i hi => absurd hi (Nat.not_lt_zero _)⟩
  | succ c ih =>
    intro hc
    by_cases hw : (ogS T N c).1 5 c = 1 ∧ wo (ogS T N c).1 c = true
    · obtain ⟨Q, hQ⟩ : ∃ Q, skp (ogS T N c).1 (N - (ogS T N c).2.1) (ogS T N c).2.1 = Q := ⟨_, rfl⟩
      have hle := ogS_le T N c
      have hns := skp_no (U := (ogS T N c).1) (k := N - (ogS T N c).2.1) (p := (ogS T N c).2.1)
      have hge := skp_ge (ogS T N c).1 (N - (ogS T N c).2.1) (ogS T N c).2.1
      rw [hQ] at hns hge
      rcases ih (by omega) with ⟨h1, h2, h3⟩ | ⟨-, h1, h3⟩
      · by_cases hlt : Q < N
        · rw [ogS_c hw hQ hlt]
          have hq := hns.2 (by omega)
          have hne : c ≠ Q := fun e => by rw [← e] at hq; exact i12 (hw.1.symm.trans hq.1)
          have fa : fwA (ogS T N c).1 1 N 0 = some c := fwA_eq (Nat.zero_le _) (by omega) hw (fun j _ hj => h2 j hj)
          have fb : fwA (ogS T N c).1 2 N 0 = some Q := fwA_eq (Nat.zero_le _) (by omega) hq (fun j _ hj => by
            by_cases hjp : j < (ogS T N c).2.1
            · exact h3 j hjp
            · exact hns.1 j (by omega) hj)
          refine Or.inl ⟨fun m => ?_, fun i hi => ?_, fun i hi => ?_⟩
          · dsimp only
            rw [show m + ((ogS T N c).2.2 + 1) = (m + 1) + (ogS T N c).2.2 by omega, h1 (m + 1), opn_1 fa fb]
            dsimp only
            rw [show (opn N m (exT (ogS T N c).1 c Q)).1 + 1 + (ogS T N c).2.2 = (opn N m (exT (ogS T N c).1 c Q)).1 + ((ogS T N c).2.2 + 1) by omega]
          · dsimp only
            by_cases hic : i = c
            · rw [hic, wo_x hne hw hq.1]
              exact fun z => by cases z.2
            · by_cases hiq : i = Q
              · rw [hiq, wo_y hw.1 hq]
                exact fun z => by cases z.2
              · rw [ex_o hic hiq, wo_o hic hiq]
                exact h2 i (by omega)
          · dsimp only at hi ⊢
            by_cases hic : i = c
            · rw [hic, wo_x hne hw hq.1]
              exact fun z => by cases z.2
            · by_cases hiq : i = Q
              · omega
              · rw [ex_o hic hiq, wo_o hic hiq]
                by_cases hip : i < (ogS T N c).2.1
                · exact h3 i hip
                · exact hns.1 i (by omega) hi
        · rw [ogS_b hw hQ hlt]
          have hno : ∀ i, i < N → ¬ ((ogS T N c).1 5 i = 2 ∧ wo (ogS T N c).1 i = true) := fun i hi => by
            by_cases hip : i < (ogS T N c).2.1
            · exact h3 i hip
            · exact hns.1 i (by omega) (by omega)
          refine Or.inr ⟨hc, fun m => ?_, hno⟩
          dsimp only
          rw [h1 m, opn_b (fwA_none (fun j _ hj => hno j (by omega)))]
          dsimp only
          rw [Nat.zero_add]
      · by_cases hlt : Q < N
        · exact absurd (hns.2 (by omega)) (h3 Q hlt)
        · rw [ogS_b hw hQ hlt]
          exact Or.inr ⟨hc, h1, h3⟩
    · rw [ogS_a hw]
      rcases ih (by omega) with ⟨h1, h2, h3⟩ | ⟨-, h1, h3⟩
      · refine Or.inl ⟨h1, fun i hi => ?_, h3⟩
        by_cases hic : i = c
        · rw [hic]; exact hw
        · exact h2 i (by omega)
      · exact Or.inr ⟨hc, h1, h3⟩
theorem og_opn (T : zT) (N : Nat) : opn N (N + 1) T = ((ogS T N N).2.2, (ogS T N N).1) := by
  have hn := (ogS_le T N N).2
  rcases og_inv T N N (Nat.le_refl _) with ⟨h1, h2, -⟩ | ⟨-, h1, -⟩
  · have h := h1 (N + 1 - (ogS T N N).2.2)
    rw [show N + 1 - (ogS T N N).2.2 + (ogS T N N).2.2 = N + 1 by omega] at h
    rw [h, opn_a (fwA_none (fun j _ hj => h2 j (by omega)))]
    dsimp only
    rw [Nat.zero_add]
  · have h := h1 (N + 1 - (ogS T N N).2.2)
    rw [show N + 1 - (ogS T N N).2.2 + (ogS T N N).2.2 = N + 1 by omega] at h
    exact h
