-- THE TWO WORLDS SIDE BY SIDE
theorem hR_hC {g : Nat → zE} {b : Nat} {S T R : zT} (hb : b + 7 < 37) : hR (hC g b S) T R = hC (hR g T R) b S := by
  funext q
  by_cases hq : q < 37 ∨ 45 < q
  · rw [hR_out hq]
    exact hC_cg (fun _ => (hR_out hq).symm)
  · obtain ⟨a, rfl⟩ : ∃ a, q = 37 + a := ⟨q - 37, by omega⟩
    rw [hR_in (by omega), hC_out (by omega), hR_in (by omega)]
theorem hR_kU {g : Nat → zE} {T R Q : zT} {X : Nat → Int32} : hR (kU g Q X) T R = kU (hR g T R) Q X := by
  funext q
  by_cases hq : q < 37 ∨ 45 < q
  · rw [hR_out hq]
    by_cases h1 : q = 0 ∨ (25 ≤ q ∧ q ≤ 36)
    · rw [kU_in h1, kU_in h1]
    · rw [kU_out (by omega), kU_out (by omega), hR_out hq]
  · obtain ⟨a, rfl⟩ : ∃ a, q = 37 + a := ⟨q - 37, by omega⟩
    rw [hR_in (by omega), kU_out (by omega), hR_in (by omega)]
theorem hR_cW {g : Nat → zE} {S T2 T3 Q T R : zT} {X : Nat → Int32} : hR (cW g S T2 T3 Q X) T R = cW (hR g T R) S T2 T3 Q X := by
  unfold cW
  rw [hR_hC (by omega), hR_hC (by omega), hR_hC (by omega), hR_kU]
-- what the reference's other numbers keep
def sm (R R' : zT) : Prop := R' 0 = R 0 ∧ R' 5 = R 5 ∧ R' 7 0 = R 7 0 ∧ R' 7 3 = R 7 3
theorem sm_rf {R : zT} : sm R R := ⟨rfl, rfl, rfl, rfl⟩
theorem sm_tr {R R' S : zT} (h : sm R R') (h2 : sm R' S) : sm R S := ⟨h2.1.trans h.1, h2.2.1.trans h.2.1, h2.2.2.1.trans h.2.2.1, h2.2.2.2.trans h.2.2.2⟩
theorem sm_row {R : zT} {a : Nat} {x : Nat → Int32} (h0 : a ≠ 0) (h5 : a ≠ 5) (h7 : a ≠ 7) : sm R (tr R a x) := ⟨tr_n h0.symm, tr_n h5.symm, by rw [tr_n h7.symm], by rw [tr_n h7.symm]⟩
theorem sm_1 {R : zT} {x : Nat → Int32} : sm R (tr R 1 x) := sm_row (by decide) (by decide) (by decide)
theorem sm_7 {R : zT} {k : Nat} {v : Int32} (h0 : k ≠ 0) (h3 : k ≠ 3) : sm R (ts R 7 k v) := ⟨ts_n (by decide), ts_n (by decide), ts_i h0.symm, ts_i h3.symm⟩
theorem sm_R {T R : zT} {k : Nat} {v : Int32} {N K : Nat} : sm R (trR T R k v N K) := sm_tr sm_1 (sm_tr (sm_7 (by decide) (by decide)) (sm_7 (by decide) (by decide)))
theorem sm_f {R : zT} (f : Nat) : sm R (fR R f) := by
  unfold fR
  split
  · exact sm_row (by decide) (by decide) (by decide)
  · exact sm_rf
theorem sm_Cf {T R : zT} {f : Nat} : sm R (gCf T R f) := by
  unfold gCf
  split
  · exact sm_1
  · exact sm_f _
theorem sm_W {T R : zT} {f : Nat} : sm R (fW T R f) := by
  unfold fW
  split
  · exact sm_1
  · exact sm_f _
theorem sm_Sta {T R : zT} {N f : Nat} {n : Int32} : sm R (gSta T R N f n) := by
  unfold gSta
  split
  · exact sm_tr sm_R sm_R
  · exact sm_f _
theorem sm_Law {T R : zT} {N f : Nat} {n : Int32} : sm R (gLaw T R N f n) := by
  unfold gLaw
  split
  · exact sm_tr sm_R sm_1
  · exact sm_f _
theorem sm_pH {T R : zT} {j N K v0 c : Nat} : sm R (rpH T R j N K v0 c) := by
  unfold rpH
  split
  · exact sm_rf
  · exact sm_R
theorem sm_Ld {T R : zT} {N f : Nat} {n : Int32} : sm R (gLd T R N f n) := by
  unfold gLd
  split
  · exact sm_pH
  · exact sm_f _
theorem sm_Rp {T R : zT} {j N : Nat} {n : Int32} {a v0 : Nat} : sm R (gRp T R j N n a v0) := by
  unfold gRp
  split
  · exact sm_pH
  · split
    · exact sm_tr sm_pH (sm_f _)
    · exact sm_f _
theorem sm_Rio {T R : zT} {N : Nat} : sm R (gRio T R N) := by
  unfold gRio
  split
  · exact sm_f _
  · exact sm_tr sm_1 (sm_f _)
theorem sm_chR {T R : zT} {N K : Nat} : ∀ i, sm R (chR T R N K i) := by
  intro i
  induction i with
  | zero => exact sm_rf
  | succ i ih =>
    rw [chR]
    split
    · exact ih
    · exact sm_tr ih sm_R
theorem sm_Che {T R : zT} {N : Nat} {n : Int32} : sm R (gChe T R N n) := by
  unfold gChe
  split
  · split
    · exact sm_chR _
    · exact sm_tr (sm_chR _) (sm_f _)
  · exact sm_f _
theorem sm_Co {R : zT} {s a t b n : Int32} : sm R (gCo R s a t b n) := by
  unfold gCo
  split
  · exact sm_row (by decide) (by decide) (by decide)
  · exact sm_f _
theorem sm_Wr {R : zT} {s i v : Int32} : sm R (gWr R s i v) := by
  unfold gWr
  split
  · exact sm_row (by decide) (by decide) (by decide)
  · exact sm_f _
theorem sm_ite {p : Prop} [Decidable p] {R A B : zT} (ha : sm R A) (hb : sm R B) : sm R (if p then A else B) := by
  split
  · exact ha
  · exact hb
/-- the invariant of all -/
def wI (T T3 R : zT) : Prop := iT T ∧ wS R ∧ wTp R ∧ (R 7 0 ≠ 0 → R 0 = mr T3 ∧ iT T3)
theorem wI_sm {T T' T3 R R' : zT} (h : wI T T3 R) (hT : iT T') (hs : sm R R') : wI T' T3 R' := by
  obtain ⟨-, h2, h3, h4⟩ := h
  obtain ⟨a, b, c, d⟩ := hs
  refine ⟨hT, fun j hj => by rw [b]; exact h2 j hj, ?_, fun z => ?_⟩
  · obtain ⟨t, ht, e⟩ := h3
    exact ⟨t, ht, d.trans e⟩
  · rw [a]
    exact h4 (by rw [← c]; exact z)
theorem wI_Sh {T T3 R : zT} {s b n : Int32} (h : wI T T3 R) : wI T T3 (gSh R s b n) := by
  unfold gSh
  split
  · rename_i e
    unfold fSh at e
    split at e
    · rename_i e2
      split at e
      · cases e
      · rename_i e3
        split at e
        · cases e
        · rename_i e4
          obtain ⟨h1, h2, ⟨t, ht, h3⟩, h4⟩ := h
          have f0 : ∀ a, a ≠ 4 → a ≠ 5 → a ≠ 6 → shR R (ci s) b n a = R a := fun a x4 x5 x6 => by
            unfold shR
            rw [zeR_n x6, ts_n x5, ts_n x4]
          have f5 : shR R (ci s) b n 5 = ts (ts R 4 (ci s) b) 5 (ci s) (if b = 0 then 0 else n) 5 := by
            unfold shR
            rw [zeR_n (by decide)]
          have e70 := f0 7 (by decide) (by decide) (by decide)
          refine ⟨h1, fun j hj => ?_, ⟨t, ht, by rw [e70]; exact h3⟩, fun z => ?_⟩
          · rw [f5]
            by_cases ej : j = ci s
            · subst ej
              rw [ts_s]
              split
              · exact ⟨0, by omega, nI_0.symm⟩
              · obtain ⟨z, hz, rfl⟩ := nI_of e3
                have h40 : z ≤ 40 := z_nlt (a := 40) e4 (by omega) hz
                exact ⟨z, h40, rfl⟩
            · rw [ts_i ej, ts_n (by decide)]
              exact h2 j hj
          · rw [f0 0 (by decide) (by decide) (by decide)]
            exact h4 (by rw [← e70]; exact z)
    · cases e
  · exact wI_sm h h.1 (sm_f _)
theorem fdS_n {R : zT} {x : Int32} {K t a : Nat} (h3 : a ≠ 3) (h7 : a ≠ 7) : ∀ i, fdS R x K t i a = R a := by
  intro i
  induction i with
  | zero => rfl
  | succ i ih => rw [fdS, ts_n h7, ts_n h3, ih]
theorem fdS_70 {R : zT} {x : Int32} {K t : Nat} : ∀ i, fdS R x K t i 7 0 = R 7 0 := by
  intro i
  induction i with
  | zero => rfl
  | succ i ih => rw [fdS, ts_i (by decide), ts_n (by decide), ih]
theorem wI_Fd {T T3 R : zT} {x n : Int32} (h : wI T T3 R) : wI T T3 (gFd R x n) := by
  unfold gFd
  split
  · rename_i e
    unfold fFd at e
    split at e
    · rename_i e2
      split at e
      · cases e
      · rename_i e3
        obtain ⟨h1, h2, ⟨t, ht, h3⟩, h4⟩ := h
        obtain ⟨j, hj1, hj, rfl⟩ := inR_nI1 (n := 4) e2 rfl (by omega)
        rw [h3, nI_add] at e3
        have e4 : t + j ≤ 120 := z_nlt (a := 120) e3 (by omega) (by omega)
        have ec : ci (nI j) = j := nI_clamp (by omega)
        have et : ci (R 7 3) = t := by
          rw [h3]
          exact nI_clamp (by omega)
        rw [ec, et]
        refine ⟨h1, fun i hi => by rw [fdS_n (by decide) (by decide)]; exact h2 i hi, ⟨t + j, e4, ?_⟩, fun z => ?_⟩
        · obtain ⟨i, rfl⟩ : ∃ i, j = i + 1 := ⟨j - 1, by omega⟩
          rw [fdS, ts_s]
          congr 1
        · rw [fdS_n (by decide) (by decide)]
          exact h4 (fun e => z ((fdS_70 j).trans e))
    · cases e
  · exact wI_sm h h.1 (sm_f _)
theorem wI_wipe {T T' T3 R : zT} (h : wI T T3 R) (hT : iT T') : wI T' T3 (ts R 7 3 0) := by
  obtain ⟨h1, h2, h3, h4⟩ := h
  refine ⟨hT, fun j hj => by rw [ts_n (by decide)]; exact h2 j hj, ⟨0, by omega, ts_s.trans nI_0.symm⟩, fun z => ?_⟩
  rw [ts_n (by decide)]
  exact h4 (by rw [ts_i (show (0 : Nat) ≠ 3 by decide)] at z; exact z)
theorem wI_tx {T T' T3 R Q : zT} (h : wI T T3 R) (hT : iT T') (hv : visR (ts R 7 3 0) Q) (h0 : Q 0 = R 0) : wI T' T3 Q := by
  obtain ⟨h1, h2, h3, h4⟩ := wI_wipe h hT
  refine ⟨hT, fun j hj => by rw [← hv.1 5 (by omega) (by omega)]; exact h2 j hj, ?_, fun z => ?_⟩
  · obtain ⟨t, ht, e⟩ := h3
    exact ⟨t, ht, by rw [← hv.2.2]; exact e⟩
  · rw [h0]
    have := h4 (by rw [hv.2.1]; exact z)
    rw [ts_n (by decide)] at this
    exact this
theorem wI_image {T T3 R : zT} (h : wI T T3 R) : wI T T (ts (tr R 0 (mr T)) 7 0 1) := by
  obtain ⟨h1, h2, ⟨t, ht, e⟩, h4⟩ := h
  refine ⟨h1, fun j hj => by rw [ts_n (by decide), tr_n (by decide)]; exact h2 j hj, ⟨t, ht, by rw [ts_i (by decide), tr_n (by decide)]; exact e⟩, fun _ => ⟨by rw [ts_n (by decide), tr_s], h1⟩⟩
theorem wI_tear {T T3 R : zT} (h : wI T T3 R) : wI T T3 (ts R 7 0 0) := by
  obtain ⟨h1, h2, ⟨t, ht, e⟩, h4⟩ := h
  refine ⟨h1, fun j hj => by rw [ts_n (by decide)]; exact h2 j hj, ⟨t, ht, by rw [ts_i (by decide)]; exact e⟩, fun z => absurd ts_s z⟩
theorem wI_undo {T T3 R : zT} (h : wI T T3 R) : wI (if R 7 0 = 0 then T else T3) T3 (if R 7 0 = 0 then ts R 2 3 (R 2 3 + 1) else R) := by
  by_cases e : R 7 0 = 0
  · rw [if_pos e, if_pos e]
    exact wI_sm h h.1 (sm_row (by decide) (by decide) (by decide))
  · rw [if_neg e, if_neg e]
    exact wI_sm h (h.2.2.2 e).2 sm_rf
theorem wI_0 : wI T0 T0 R0 := ⟨iT_0, fun j hj => ⟨0, by omega, rfl⟩, ⟨0, by omega, rfl⟩, fun z => absurd rfl z⟩
/-- both hold the same -/
def wQ (g h : Nat → zE) : Prop := ∃ (T T2 T3 R : zT) (X : Nat → Int32), h = hR (cW g T T2 T3 R X) T R ∧ wI T T3 R
theorem wQ_0 {g : Nat → zE} : zH 46 (hL (L37 ++ [zO 4 [.ref (37 + 1), .ref (37 + 2), .ref (37 + 3), .int 0, .ref (37 + 4), .int 0, .int 0, .ref (37 + 5), .int 0, .int 0, .int 0, .int 0, .int 0, .int 0, .ref (37 + 6), .ref (37 + 7), .ref (37 + 8)], zI 79 (mr T0), zI 79 (fun _ => 0), zI 79 (fun _ => 0), zI 7 (fun _ => 0), zI 120 (fun _ => 0), zI 4 (fun _ => 0), zI 4 (fun _ => 0), zI 160 (fun _ => 0)])) (hR (cW g T0 T0 T0 R0 (fun _ => 0)) T0 R0) := fun q hq => by
  have hs : ∀ j, zI 40 (shF R0 j) = zI 40 (fun _ => 0) := fun j => by
    have : shF R0 j = fun _ => 0 := by
      funext i
      unfold shF
      split <;> rfl
    rw [this]
  match q, hq with
  | 0, _ => exact Or.inl rfl
  | 1, _ => exact Or.inl rfl
  | 2, _ => exact Or.inl rfl
  | 3, _ => exact Or.inl rfl
  | 4, _ => exact Or.inl rfl
  | 5, _ => exact Or.inl rfl
  | 6, _ => exact Or.inl rfl
  | 7, _ => exact Or.inl rfl
  | 8, _ => exact Or.inl rfl
  | 9, _ => exact Or.inl rfl
  | 10, _ => exact Or.inl rfl
  | 11, _ => exact Or.inl rfl
  | 12, _ => exact Or.inl rfl
  | 13, _ => exact Or.inl rfl
  | 14, _ => exact Or.inl rfl
  | 15, _ => exact Or.inl rfl
  | 16, _ => exact Or.inl rfl
  | 17, _ => exact Or.inl rfl
  | 18, _ => exact Or.inl rfl
  | 19, _ => exact Or.inl rfl
  | 20, _ => exact Or.inl rfl
  | 21, _ => exact Or.inl rfl
  | 22, _ => exact Or.inl rfl
  | 23, _ => exact Or.inl rfl
  | 24, _ => exact Or.inl rfl
  | 25, _ => exact Or.inl rfl
  | 26, _ => exact Or.inl rfl
  | 27, _ => exact Or.inl rfl
  | 28, _ => exact Or.inl rfl
  | 29, _ => exact Or.inl (hs 0).symm
  | 30, _ => exact Or.inl rfl
  | 31, _ => exact Or.inl (hs 1).symm
  | 32, _ => exact Or.inl rfl
  | 33, _ => exact Or.inl (hs 2).symm
  | 34, _ => exact Or.inl rfl
  | 35, _ => exact Or.inl (hs 3).symm
  | 36, _ => exact Or.inl rfl
  | 37, _ => exact Or.inl rfl
  | 38, _ => exact Or.inl rfl
  | 39, _ => exact Or.inl rfl
  | 40, _ => exact Or.inl rfl
  | 41, _ => exact Or.inl rfl
  | 42, _ => exact Or.inl rfl
  | 43, _ => exact Or.inl rfl
  | 44, _ => exact Or.inl rfl
  | 45, _ => exact Or.inl rfl
  | q + 46, hq => exact absurd hq (by omega)
