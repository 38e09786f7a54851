theorem fwI_n {o : Option Nat} (h : fwI o < 0) (hs : ∀ i, o = some i → i < 2 ^ 31) : o = none := by
  cases o with
  | none => rfl
  | some i => exact absurd h (nI_pos (hs i rfl))
theorem fwI_s {o : Option Nat} (h : ¬ fwI o < 0) : ∃ i, o = some i := by
  cases o with
  | none => exact absurd (by decide) h
  | some i => exact ⟨i, rfl⟩
def wL (T : zT) : Prop := ∃ l s : Nat, l ≤ 10 ∧ s ≤ 10 ∧ T 7 0 = nI l ∧ T 7 1 = nI s
theorem wL_of {T U : zT} (h0 : U 7 0 = T 7 0) (h1 : U 7 1 = T 7 1) (h : wL T) : wL U := by
  obtain ⟨l, s, a, b, c, d⟩ := h
  exact ⟨l, s, a, b, h0.trans c, h1.trans d⟩
theorem dtk_A {T : zT} {c : Nat} (h : ¬ 0 < (dtk T c).2.1 + (dtk T c).2.2) : dtk T (c + 1) = (ts (dtk T c).1 5 c 0, (dtk T c).2.1, (dtk T c).2.2) := by
  simp only [dtk]
  rw [if_neg h]
theorem dtk_B {T : zT} {c : Nat} (h : 0 < (dtk T c).2.1 + (dtk T c).2.2) (h2 : (dtk T c).2.1 ≤ zrem (zdr ((dtk T c).1 7 7)) ((dtk T c).2.1 + (dtk T c).2.2)) : dtk T (c + 1) = (ts (drT (dtk T c).1) 5 c 2, (dtk T c).2.1, (dtk T c).2.2 + (-1)) := by
  simp only [dtk]
  rw [if_pos h, if_pos h2]
theorem dtk_C {T : zT} {c : Nat} (h : 0 < (dtk T c).2.1 + (dtk T c).2.2) (h2 : ¬ (dtk T c).2.1 ≤ zrem (zdr ((dtk T c).1 7 7)) ((dtk T c).2.1 + (dtk T c).2.2)) : dtk T (c + 1) = (ts (drT (dtk T c).1) 5 c 1, (dtk T c).2.1 + (-1), (dtk T c).2.2) := by
  simp only [dtk]
  rw [if_pos h, if_neg h2]
theorem nI_pre {b : Nat} (h : 0 < b) : nI b + (-1) = nI (b - 1) := by
  obtain ⟨c, rfl⟩ : ∃ c, b = c + 1 := ⟨b - 1, by omega⟩
  rw [pk_m1, Nat.add_sub_cancel]
theorem ls_p {a b : Nat} (ha : a ≤ 10) (hb : b ≤ 10) {x y : Int32} (ea : x = nI a) (eb : y = nI b) (h : 0 < x + y) : 0 < a + b := by
  rw [ea, eb, nI_add, ← nI_0] at h
  exact z_lt h (by omega) (by omega)
theorem ls_B {a b : Nat} (ha : a ≤ 10) (hb : b ≤ 10) {x y r : Int32} (ea : x = nI a) (eb : y = nI b) {j : Nat} (hj : j < a + b) (er : r = nI j) (h : x ≤ r) : y + (-1) = nI (b - 1) := by
  rw [ea, er] at h
  have h3 := z_le h (by omega) (by omega)
  rw [eb]
  exact nI_pre (by omega)
theorem ls_C {a b : Nat} (ha : a ≤ 10) (hb : b ≤ 10) {x r : Int32} (ea : x = nI a) {j : Nat} (hj : j < a + b) (er : r = nI j) (h : ¬ x ≤ r) : x + (-1) = nI (a - 1) := by
  rw [ea, er] at h
  have h3 := z_nle h (by omega) (by omega)
  rw [ea]
  exact nI_pre (by omega)
theorem p_1 {α β γ : Type} {p : α × β × γ} {x : α} {y : β} {z : γ} (h : p = (x, y, z)) : p.1 = x := by rw [h]
theorem p_21 {α β γ : Type} {p : α × β × γ} {x : α} {y : β} {z : γ} (h : p = (x, y, z)) : p.2.1 = y := by rw [h]
theorem p_22 {α β γ : Type} {p : α × β × γ} {x : α} {y : β} {z : γ} (h : p = (x, y, z)) : p.2.2 = z := by rw [h]
theorem dtk_ls {T : zT} (hL : wL T) : ∀ c, ∃ a b : Nat, a ≤ 10 ∧ b ≤ 10 ∧ (dtk T c).2.1 = nI a ∧ (dtk T c).2.2 = nI b := by
  intro c
  induction c with
  | zero => exact hL
  | succ c ih =>
    obtain ⟨a, b, ha, hb, ea, eb⟩ := ih
    by_cases h : 0 < (dtk T c).2.1 + (dtk T c).2.2
    · have hp := ls_p ha hb ea eb h
      obtain ⟨j, hj, ej⟩ := zrem_in ((dtk T c).1 7 7) (N := a + b) hp (by omega)
      have ej2 : zrem (zdr ((dtk T c).1 7 7)) ((dtk T c).2.1 + (dtk T c).2.2) = nI j := by rw [ea, eb, nI_add]; exact ej
      by_cases h2 : (dtk T c).2.1 ≤ zrem (zdr ((dtk T c).1 7 7)) ((dtk T c).2.1 + (dtk T c).2.2)
      · exact ⟨a, b - 1, ha, by omega, (p_21 (dtk_B h h2)).trans ea, (p_22 (dtk_B h h2)).trans (ls_B ha hb ea eb hj ej2 h2)⟩
      · exact ⟨a - 1, b, by omega, hb, (p_21 (dtk_C h h2)).trans (ls_C ha hb ea hj ej2 h2), (p_22 (dtk_C h h2)).trans eb⟩
    · exact ⟨a, b, ha, hb, (p_21 (dtk_A h)).trans ea, (p_22 (dtk_A h)).trans eb⟩
theorem dtk_z {T : zT} (hL : wL T) (c : Nat) (h : (dtk T c).2.1 + (dtk T c).2.2 ≤ 0) : (dtk T c).2.1 + (dtk T c).2.2 = 0 := by
  obtain ⟨a, b, ha, hb, ea, eb⟩ := dtk_ls hL c
  rw [ea, eb, nI_add] at h ⊢
  have := z_le (b := 0) h (by omega) (by omega)
  rw [show a + b = 0 by omega]
  exact nI_0
theorem dra_dl {T : zT} {x : Int32} {c : Nat} : dra (dlT T x c) = dra T := by
  unfold dra
  rw [dlT_n _ _ _ (by decide)]
