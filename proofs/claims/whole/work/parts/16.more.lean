section ZT
variable {Wf : zW} {V : zG} {m : MethodId} {nL : Nat} {H0 : Heap} {cc : ByteArray} {own : String} {lv Rc Rs : Nat} {pc : Nat} {f : Nat → Option Value} {st : List Value} {h : Nat → zE} {n k sl : Nat}
def ztab (pc : Nat) (lo hi : Int) (offs : Array Int) (dflt : Int) (td : Nat) (l : List (Int32 × Nat)) : Bool := decide (hi + 1 = lo + (l.length : Int)) && decide ((pc : Int) + dflt = (td : Int)) && (List.range l.length).all (fun i => match l[i]?, offs[i]? with
  | some q, some o => decide (q.1.toInt = lo + (i : Int)) && decide ((pc : Int) + o = (q.2 : Int))
  | _, _ => false)
theorem x_tabs (Γ : zC Wf V m nL H0 cc own lv Rc Rs) (l : List (Int32 × Nat)) {td : Nat} {dflt lo hi : Int} {offs : Array Int} {len : Nat} {x : Int32} (hd : decode cc pc = .ok (.tableswitch dflt lo hi offs, len)) (hok : ztab pc lo hi offs dflt td l = true) (ks : ∀ (i : Nat) (q : Int32 × Nat), l[i]? = some q → x = q.1 → zX Wf V m nL H0 q.2 f st h n k sl) (kd : (∀ (i : Nat) (q : Int32 × Nat), l[i]? = some q → ¬ x = q.1) → zX Wf V m nL H0 td f st h n k sl) : zX Wf V m nL H0 pc f (.int x :: st) h n k sl := by
  simp only [ztab, Bool.and_eq_true, decide_eq_true_eq, List.all_eq_true, List.mem_range] at hok
  obtain ⟨⟨h1, h2⟩, h3⟩ := hok
  have key : ∀ (i : Nat) (q : Int32 × Nat), l[i]? = some q → ∃ o, offs[i]? = some o ∧ q.1.toInt = lo + (i : Int) ∧ (pc : Int) + o = (q.2 : Int) := by
    intro i q hq
    have hi := (List.getElem?_eq_some_iff.mp hq).1
    have := h3 i hi
    rw [hq] at this
    cases ho : offs[i]? with
    | none => rw [ho] at this; simp at this
    | some o =>
      rw [ho] at this
      simp only [Bool.and_eq_true, decide_eq_true_eq] at this
      exact ⟨o, rfl, this.1, this.2⟩
  by_cases hr : x.toInt < lo ∨ hi < x.toInt
  · refine x_tout Γ hd hr h2 (kd fun i q hq hxq => ?_)
    obtain ⟨o, -, e1, -⟩ := key i q hq
    have hi := (List.getElem?_eq_some_iff.mp hq).1
    rw [hxq, e1] at hr
    omega
  · have hi : (x.toInt - lo).toNat < l.length := by omega
    obtain ⟨q, hq⟩ : ∃ q, l[(x.toInt - lo).toNat]? = some q := ⟨_, List.getElem?_eq_getElem hi⟩
    obtain ⟨o, e0, e1, e2⟩ := key _ q hq
    have hxq : x = q.1 := Int32.toInt_inj.mp (by rw [e1]; omega)
    exact x_tin Γ hd (fun z => hr (Or.inl z)) (fun z => hr (Or.inr z)) e0 e2 (ks _ q hq hxq)
theorem x_tab3 (Γ : zC Wf V m nL H0 cc own lv Rc Rs) {a0 a1 a2 : Int32} {t0 t1 t2 td : Nat} {dflt lo hi : Int} {offs : Array Int} {len : Nat} {x : Int32} (hd : decode cc pc = .ok (.tableswitch dflt lo hi offs, len)) (hok : ztab pc lo hi offs dflt td [(a0, t0), (a1, t1), (a2, t2)] = true) (k0 : x = a0 → zX Wf V m nL H0 t0 f st h n k sl) (k1 : x = a1 → zX Wf V m nL H0 t1 f st h n k sl) (k2 : x = a2 → zX Wf V m nL H0 t2 f st h n k sl) (kd : ¬ x = a0 → ¬ x = a1 → ¬ x = a2 → zX Wf V m nL H0 td f st h n k sl) : zX Wf V m nL H0 pc f (.int x :: st) h n k sl := by
  refine x_tabs Γ [(a0, t0), (a1, t1), (a2, t2)] hd hok (fun i q hq hxq => ?_) (fun z => kd (z 0 _ rfl) (z 1 _ rfl) (z 2 _ rfl))
  match i, hq with
  | 0, hq => cases hq; exact k0 hxq
  | 1, hq => cases hq; exact k1 hxq
  | 2, hq => cases hq; exact k2 hxq
  | i + 3, hq => simp at hq
theorem x_tab4 (Γ : zC Wf V m nL H0 cc own lv Rc Rs) {a0 a1 a2 a3 : Int32} {t0 t1 t2 t3 td : Nat} {dflt lo hi : Int} {offs : Array Int} {len : Nat} {x : Int32} (hd : decode cc pc = .ok (.tableswitch dflt lo hi offs, len)) (hok : ztab pc lo hi offs dflt td [(a0, t0), (a1, t1), (a2, t2), (a3, t3)] = true) (k0 : x = a0 → zX Wf V m nL H0 t0 f st h n k sl) (k1 : x = a1 → zX Wf V m nL H0 t1 f st h n k sl) (k2 : x = a2 → zX Wf V m nL H0 t2 f st h n k sl) (k3 : x = a3 → zX Wf V m nL H0 t3 f st h n k sl) (kd : ¬ x = a0 → ¬ x = a1 → ¬ x = a2 → ¬ x = a3 → zX Wf V m nL H0 td f st h n k sl) : zX Wf V m nL H0 pc f (.int x :: st) h n k sl := by
  refine x_tabs Γ [(a0, t0), (a1, t1), (a2, t2), (a3, t3)] hd hok (fun i q hq hxq => ?_) (fun z => kd (z 0 _ rfl) (z 1 _ rfl) (z 2 _ rfl) (z 3 _ rfl))
  match i, hq with
  | 0, hq => cases hq; exact k0 hxq
  | 1, hq => cases hq; exact k1 hxq
  | 2, hq => cases hq; exact k2 hxq
  | 3, hq => cases hq; exact k3 hxq
  | i + 4, hq => simp at hq
theorem x_tab5 (Γ : zC Wf V m nL H0 cc own lv Rc Rs) {a0 a1 a2 a3 a4 : Int32} {t0 t1 t2 t3 t4 td : Nat} {dflt lo hi : Int} {offs : Array Int} {len : Nat} {x : Int32} (hd : decode cc pc = .ok (.tableswitch dflt lo hi offs, len)) (hok : ztab pc lo hi offs dflt td [(a0, t0), (a1, t1), (a2, t2), (a3, t3), (a4, t4)] = true) (k0 : x = a0 → zX Wf V m nL H0 t0 f st h n k sl) (k1 : x = a1 → zX Wf V m nL H0 t1 f st h n k sl) (k2 : x = a2 → zX Wf V m nL H0 t2 f st h n k sl) (k3 : x = a3 → zX Wf V m nL H0 t3 f st h n k sl) (k4 : x = a4 → zX Wf V m nL H0 t4 f st h n k sl) (kd : ¬ x = a0 → ¬ x = a1 → ¬ x = a2 → ¬ x = a3 → ¬ x = a4 → zX Wf V m nL H0 td f st h n k sl) : zX Wf V m nL H0 pc f (.int x :: st) h n k sl := by
  refine x_tabs Γ [(a0, t0), (a1, t1), (a2, t2), (a3, t3), (a4, t4)] hd hok (fun i q hq hxq => ?_) (fun z => kd (z 0 _ rfl) (z 1 _ rfl) (z 2 _ rfl) (z 3 _ rfl) (z 4 _ rfl))
  match i, hq with
  | 0, hq => cases hq; exact k0 hxq
  | 1, hq => cases hq; exact k1 hxq
  | 2, hq => cases hq; exact k2 hxq
  | 3, hq => cases hq; exact k3 hxq
  | 4, hq => cases hq; exact k4 hxq
  | i + 5, hq => simp at hq
theorem x_tab6 (Γ : zC Wf V m nL H0 cc own lv Rc Rs) {a0 a1 a2 a3 a4 a5 : Int32} {t0 t1 t2 t3 t4 t5 td : Nat} {dflt lo hi : Int} {offs : Array Int} {len : Nat} {x : Int32} (hd : decode cc pc = .ok (.tableswitch dflt lo hi offs, len)) (hok : ztab pc lo hi offs dflt td [(a0, t0), (a1, t1), (a2, t2), (a3, t3), (a4, t4), (a5, t5)] = true) (k0 : x = a0 → zX Wf V m nL H0 t0 f st h n k sl) (k1 : x = a1 → zX Wf V m nL H0 t1 f st h n k sl) (k2 : x = a2 → zX Wf V m nL H0 t2 f st h n k sl) (k3 : x = a3 → zX Wf V m nL H0 t3 f st h n k sl) (k4 : x = a4 → zX Wf V m nL H0 t4 f st h n k sl) (k5 : x = a5 → zX Wf V m nL H0 t5 f st h n k sl) (kd : ¬ x = a0 → ¬ x = a1 → ¬ x = a2 → ¬ x = a3 → ¬ x = a4 → ¬ x = a5 → zX Wf V m nL H0 td f st h n k sl) : zX Wf V m nL H0 pc f (.int x :: st) h n k sl := by
  refine x_tabs Γ [(a0, t0), (a1, t1), (a2, t2), (a3, t3), (a4, t4), (a5, t5)] hd hok (fun i q hq hxq => ?_) (fun z => kd (z 0 _ rfl) (z 1 _ rfl) (z 2 _ rfl) (z 3 _ rfl) (z 4 _ rfl) (z 5 _ rfl))
  match i, hq with
  | 0, hq => cases hq; exact k0 hxq
  | 1, hq => cases hq; exact k1 hxq
  | 2, hq => cases hq; exact k2 hxq
  | 3, hq => cases hq; exact k3 hxq
  | 4, hq => cases hq; exact k4 hxq
  | 5, hq => cases hq; exact k5 hxq
  | i + 6, hq => simp at hq
theorem x_tab7 (Γ : zC Wf V m nL H0 cc own lv Rc Rs) {a0 a1 a2 a3 a4 a5 a6 : Int32} {t0 t1 t2 t3 t4 t5 t6 td : Nat} {dflt lo hi : Int} {offs : Array Int} {len : Nat} {x : Int32} (hd : decode cc pc = .ok (.tableswitch dflt lo hi offs, len)) (hok : ztab pc lo hi offs dflt td [(a0, t0), (a1, t1), (a2, t2), (a3, t3), (a4, t4), (a5, t5), (a6, t6)] = true) (k0 : x = a0 → zX Wf V m nL H0 t0 f st h n k sl) (k1 : x = a1 → zX Wf V m nL H0 t1 f st h n k sl) (k2 : x = a2 → zX Wf V m nL H0 t2 f st h n k sl) (k3 : x = a3 → zX Wf V m nL H0 t3 f st h n k sl) (k4 : x = a4 → zX Wf V m nL H0 t4 f st h n k sl) (k5 : x = a5 → zX Wf V m nL H0 t5 f st h n k sl) (k6 : x = a6 → zX Wf V m nL H0 t6 f st h n k sl) (kd : ¬ x = a0 → ¬ x = a1 → ¬ x = a2 → ¬ x = a3 → ¬ x = a4 → ¬ x = a5 → ¬ x = a6 → zX Wf V m nL H0 td f st h n k sl) : zX Wf V m nL H0 pc f (.int x :: st) h n k sl := by
  refine x_tabs Γ [(a0, t0), (a1, t1), (a2, t2), (a3, t3), (a4, t4), (a5, t5), (a6, t6)] hd hok (fun i q hq hxq => ?_) (fun z => kd (z 0 _ rfl) (z 1 _ rfl) (z 2 _ rfl) (z 3 _ rfl) (z 4 _ rfl) (z 5 _ rfl) (z 6 _ rfl))
  match i, hq with
  | 0, hq => cases hq; exact k0 hxq
  | 1, hq => cases hq; exact k1 hxq
  | 2, hq => cases hq; exact k2 hxq
  | 3, hq => cases hq; exact k3 hxq
  | 4, hq => cases hq; exact k4 hxq
  | 5, hq => cases hq; exact k5 hxq
  | 6, hq => cases hq; exact k6 hxq
  | i + 7, hq => simp at hq
theorem x_tab8 (Γ : zC Wf V m nL H0 cc own lv Rc Rs) {a0 a1 a2 a3 a4 a5 a6 a7 : Int32} {t0 t1 t2 t3 t4 t5 t6 t7 td : Nat} {dflt lo hi : Int} {offs : Array Int} {len : Nat} {x : Int32} (hd : decode cc pc = .ok (.tableswitch dflt lo hi offs, len)) (hok : ztab pc lo hi offs dflt td [(a0, t0), (a1, t1), (a2, t2), (a3, t3), (a4, t4), (a5, t5), (a6, t6), (a7, t7)] = true) (k0 : x = a0 → zX Wf V m nL H0 t0 f st h n k sl) (k1 : x = a1 → zX Wf V m nL H0 t1 f st h n k sl) (k2 : x = a2 → zX Wf V m nL H0 t2 f st h n k sl) (k3 : x = a3 → zX Wf V m nL H0 t3 f st h n k sl) (k4 : x = a4 → zX Wf V m nL H0 t4 f st h n k sl) (k5 : x = a5 → zX Wf V m nL H0 t5 f st h n k sl) (k6 : x = a6 → zX Wf V m nL H0 t6 f st h n k sl) (k7 : x = a7 → zX Wf V m nL H0 t7 f st h n k sl) (kd : ¬ x = a0 → ¬ x = a1 → ¬ x = a2 → ¬ x = a3 → ¬ x = a4 → ¬ x = a5 → ¬ x = a6 → ¬ x = a7 → zX Wf V m nL H0 td f st h n k sl) : zX Wf V m nL H0 pc f (.int x :: st) h n k sl := by
  refine x_tabs Γ [(a0, t0), (a1, t1), (a2, t2), (a3, t3), (a4, t4), (a5, t5), (a6, t6), (a7, t7)] hd hok (fun i q hq hxq => ?_) (fun z => kd (z 0 _ rfl) (z 1 _ rfl) (z 2 _ rfl) (z 3 _ rfl) (z 4 _ rfl) (z 5 _ rfl) (z 6 _ rfl) (z 7 _ rfl))
  match i, hq with
  | 0, hq => cases hq; exact k0 hxq
  | 1, hq => cases hq; exact k1 hxq
  | 2, hq => cases hq; exact k2 hxq
  | 3, hq => cases hq; exact k3 hxq
  | 4, hq => cases hq; exact k4 hxq
  | 5, hq => cases hq; exact k5 hxq
  | 6, hq => cases hq; exact k6 hxq
  | 7, hq => cases hq; exact k7 hxq
  | i + 8, hq => simp at hq
theorem x_mmax (Γ : zC Wf V m nL H0 cc own lv Rc Rs) {i : Nat} {x y : Int32} (hl1 : 1 ≤ lv) (wl : Cond.methodLink own i Lib.Math.max.name ∈ zw) (hd : decode cc pc = .ok (.invokestatic i, 3)) (hroom : (st.map fun v => v.category).sum ≤ 8) (hk : k ≤ Rc) (hs : sl ≤ Rs) (kk : zX Wf V m nL H0 (pc + 3) f (.int (if x < y then y else x) :: st) h n k sl) : zX Wf V m nL H0 pc f (.int y :: .int x :: st) h n k sl := by
  obtain ⟨p, l, e, R, s, args, below, meth, c, Q, rfl, hx, hb, hml, hown, hts, hh0, hK, hlv, hlo, hRc, hRs⟩ := Γ
  subst hRc hRs
  exact fun H locs sls hP hS hL => va_mmax hx hb (hml.trans hL.1.symm) hown (hts _ wl) (hts _ wt_mmax) (hts _ wn_J9) (hts _ wc_mmax) (Nat.le_trans hl1 hlv) (by rw [zcat_sum]; omega) hk hs hd (kk H locs sls hP hS hL)
theorem x_mmin (Γ : zC Wf V m nL H0 cc own lv Rc Rs) {i : Nat} {x y : Int32} (hl1 : 1 ≤ lv) (wl : Cond.methodLink own i Lib.Math.min.name ∈ zw) (hd : decode cc pc = .ok (.invokestatic i, 3)) (hroom : (st.map fun v => v.category).sum ≤ 8) (hk : k ≤ Rc) (hs : sl ≤ Rs) (kk : zX Wf V m nL H0 (pc + 3) f (.int (if y < x then y else x) :: st) h n k sl) : zX Wf V m nL H0 pc f (.int y :: .int x :: st) h n k sl := by
  obtain ⟨p, l, e, R, s, args, below, meth, c, Q, rfl, hx, hb, hml, hown, hts, hh0, hK, hlv, hlo, hRc, hRs⟩ := Γ
  subst hRc hRs
  exact fun H locs sls hP hS hL => va_mmin hx hb (hml.trans hL.1.symm) hown (hts _ wl) (hts _ wt_mmin) (hts _ wn_J9) (hts _ wc_mmin) (Nat.le_trans hl1 hlv) (by rw [zcat_sum]; omega) hk hs hd (kk H locs sls hP hS hL)
theorem x_acopy (Γ : zC Wf V m nL H0 cc own lv Rc Rs) {i q0 q1 N0 N1 a b d : Nat} {g0 g1 : Nat → Int32} {sp dp ln : Int32} {h' : Nat → zE} (hl1 : 1 ≤ lv) (wl : Cond.methodLink own i arraycopyName ∈ zw) (hd : decode cc pc = .ok (.invokestatic i, 3)) (hq0 : q0 < n) (he0 : h q0 = zI N0 g0) (hq1 : q1 < n) (he1 : h q1 = zI N1 g1) (ha : sp = nI a) (hb2 : dp = nI b) (hc2 : ln = nI d) (h4 : a + d ≤ N0) (h5 : b + d ≤ N1) (hN0 : N0 < 2 ^ 31) (hN1 : N1 < 2 ^ 31) (hroom : (st.map fun v => v.category).sum ≤ 8)
    (hh : zup h q1 (zI N1 (va_cpy g0 g1 a b d)) = h') (kk : zX Wf V m nL H0 (pc + 3) f st h' n k sl) : zX Wf V m nL H0 pc f (.int ln :: .int dp :: .ref q1 :: .int sp :: .ref q0 :: st) h n k sl := by
  obtain ⟨p, l, e, R, s, args, below, meth, c, Q, rfl, hx, hb, hml, hown, hts, hh0, hK, hlv, hlo, hRc, hRs⟩ := Γ
  subst hh ha hb2 hc2
  intro H locs sls hP hS hL
  have nn : ∀ z : Nat, z < 2 ^ 31 → (nI z).toInt = (z : Int) := fun z hz => nI_toInt hz
  have hc0 : H[za V q0]? = some (vp_cell V.2.2.2.1 (N0, .inl g0)) := by have := zP_at hP hq0; rw [he0] at this; exact this
  have hc1 : H[za V q1]? = some (vp_cell V.2.2.2.1 (N1, .inl g1)) := by have := zP_at hP hq1; rw [he1] at this; exact this
  obtain ⟨-, k0, hk0, cm0, hkk0⟩ := (hK.1.2 0 _ rfl).1 N0 (fun j => .int (g0 j))
  obtain ⟨-, k1, hk1, cm1, hkk1⟩ := (hK.1.2 0 _ rfl).1 N1 (fun j => .int (g1 j))
  have ca : (nI a).toNatClampNeg = a := nI_clamp (by omega)
  have cb : (nI b).toNatClampNeg = b := nI_clamp (by omega)
  have cd : (nI d).toNatClampNeg = d := nI_clamp (by omega)
  intro T hT X
  obtain ⟨vm', X', step⟩ := X.arraycopy hx hown (hts _ wl) (hts _ wnat_acopy) (hts _ wt_acopy) (hts _ wn_J10) (src := za V q0) (dst := za V q1) (cs := vp_cell V.2.2.2.1 (N0, .inl g0)) (cd := vp_cell V.2.2.2.1 (N1, .inl g1)) (srcPos := nI a) (destPos := nI b) (n := nI d) (by rw [hT]; exact hc0) (by rw [hT]; exact hc1)
    (fun _ h => by cases h) (fun _ h => by cases h) (fun h => by cases h) (fun h => by cases h) hk0 hk1 hkk0 hkk1 (by simp [refKind]) (nI_pos (by omega)) (nI_pos (by omega)) (nI_pos (by omega))
    (by rw [nn a (by omega), nn d (by omega)]; show ¬ _ > ((arrV _ N0 (fun j => .int (g0 j))).slots.size : Int); rw [arrV_size]; omega)
    (by rw [nn b (by omega), nn d (by omega)]; show ¬ _ > ((arrV _ N1 (fun j => .int (g1 j))).slots.size : Int); rw [arrV_size]; omega)
    (fun vm₁ _ i hi => by
      rw [cd] at hi
      have e : (vp_cell V.2.2.2.1 (N0, .inl g0)).slots.getD ((nI a).toNatClampNeg + i) .null = .int (g0 (a + i)) := by
        show (arrV _ N0 (fun j => .int (g0 j))).slots.getD _ _ = _
        rw [ca, Array.getD_eq_getD_getElem?, arrV_read _ _ (by omega)]
        rfl
      refine ⟨?_, ?_⟩
      · rw [e]; rfl
      · rw [e]; exact trivial)
    (g := F0 m pc sls (.int (nI d) :: .int (nI b) :: .ref (za V q1) :: .int (nI a) :: .ref (za V q0) :: st.map (zv V))) rfl (by rw [hml]; exact hL.1) (rest := st.map (zv V)) rfl (by rw [hb]; exact hd) (Nat.le_trans hl1 hlv) (by
      show 2 * 0 + _ + _ ≤ _
      have e5 : nativeFrameWords "java/lang/System" "arraycopy" 5 + 11 ≤ 24 := by decide
      rw [zcat_sum]
      omega)
  have e1 : copied (vp_cell V.2.2.2.1 (N0, .inl g0)) (vp_cell V.2.2.2.1 (N1, .inl g1)) (nI a) (nI b) (nI d) = vp_cell V.2.2.2.1 (N1, .inl (va_cpy g0 g1 a b d)) := by
    have h4' : (nI a).toNatClampNeg + (nI d).toNatClampNeg ≤ N0 := by rw [ca, cd]; exact h4
    have := va_copied (fun z => .int z) V.2.2.2.1 V.2.2.2.1 (n1 := N1) g0 g1 h4' (dp := (nI b).toNatClampNeg)
    rw [ca, cb, cd] at this
    show (arrV V.2.2.2.1 N1 (fun j => .int (g1 j))).storeRun (nI b).toNatClampNeg ((arrV V.2.2.2.1 N0 (fun j => .int (g0 j))).stretch (nI a).toNatClampNeg (nI d).toNatClampNeg) = _
    rw [ca, cb, cd]
    exact this
  rw [e1] at X' step
  have hl : za V q1 < H.size := (Array.getElem?_eq_some_iff.mp hc1).1
  have hheap : ((T.setVm vm').setCell (za V q1) (vp_cell V.2.2.2.1 (N1, .inl (va_cpy g0 g1 a b d)))).heap = H.setIfInBounds (za V q1) (vp_cell V.2.2.2.1 (N1, .inl (va_cpy g0 g1 a b d))) := by rw [← hT]; rfl
  have oq : ∀ q : Nat, q ≠ za V q1 → (H.setIfInBounds (za V q1) (vp_cell V.2.2.2.1 (N1, .inl (va_cpy g0 g1 a b d))))[q]? = H[q]? := fun q hq => by simp [Array.getElem?_setIfInBounds, Ne.symm hq]
  obtain ⟨t, a1, b1⟩ := kk _ _ sls (zP_set (H1 := H.setIfInBounds (za V q1) (vp_cell V.2.2.2.1 (N1, .inl (va_cpy g0 g1 a b d)))) hP hq1 (by simp) oq (show (H.setIfInBounds (za V q1) _)[za V q1]? = some _ by simp [Array.getElem?_setIfInBounds, hl])) ⟨by simp; exact hS.1, fun q g1 g2 => by
      rw [oq q (fun e => g2 (by rw [e]; exact zF_za (Nat.lt_of_lt_of_le hq1 hP.2.1)))]
      exact hS.2.1 q g1 g2, fun q hq => by
      rcases List.mem_append.mp hq with h | h
      · exact hS.2.2 q h
      · obtain ⟨z, -, hz⟩ := List.mem_map.mp h
        rw [← hz]
        exact zF_za (Nat.lt_of_lt_of_le hq1 hP.2.1)⟩ hL _ hheap X'
  exact ⟨t, step t a1, b1⟩
theorem x_callNS (Γ : zC Wf V m nL H0 cc RX0 lv Rc Rs) {d : Nat} {As st0 : List Value} {v : Value} {h' : Nat → zE} (cal : zCalS M_X3_isKind 1) (hd : decode cc pc = .ok (.invokestatic 67, 3)) (hM : zM d M_X3_isKind As h n (some v) h' n 0 0) (hna : As.length = 1) (hlv2 : d + 1 ≤ lv) (hst : st0 = As.reverse ++ st) (hroom : (st.map fun v => v.category).sum ≤ 8) (hk : k ≤ Rc) (hs : sl ≤ Rs) (kk : zX Wf V m nL H0 (pc + 3) f (v :: st) h' n k sl) : zX Wf V m nL H0 pc f st0 h n k sl := by
  obtain ⟨p, l, e, R, s, args, below, meth, c, Q, rfl, hx, hb, hml, hown, hts, hh0, hK, hlv, hlo, hRc, hRs⟩ := Γ
  subst hst hh0 hRc hRs
  intro H locs sls hP hS hL
  obtain ⟨⟨hc1, hc2, hc3, hc4⟩, hi1⟩ := cal
  have hg := zGood M_X3_isKind hc1
  have run := va_runSN (l := l) (e := e) (below := below) (meth := meth) (own := RX0) (index := 67) (host := RX3) (As := As.map (zv V)) (rest := st.map (zv V)) (g := F0 m pc sls ((As.reverse ++ st).map (zv V))) (locs := locs) (cells := k) (slots := sl) ⟨hx, hb, hml, hown, hts⟩ (hM l V)
    ⟨va_cnB 1 hts hg rfl rfl rfl hK.2.2.2.2.2.2.2.2.1 (hts _ hc2) hc3 ⟨Nat.le_trans hlv2 hlv, by show 8 + (M_X3_isKind.2.2.1 + 11) + 32 * d ≤ R.locals; omega⟩, hts _ hi1, trivial⟩
    ⟨zBlind, fun U hU hW => ⟨rfl, by rw [hU]; exact hP, zK_moved hW (by rw [hU]; exact Nat.le_trans hK.2.1 hS.1) (by rw [hU]; exact hS.2.1) hK⟩⟩ rfl (by rw [List.length_map]; exact hna) hL.1 (by simp) (lv_room (pc := pc) (ls := sls) (rest := (As.reverse ++ st).map (zv V)) (by rw [zcat_sum]; exact hroom)) hd ⟨hk, hs⟩
  refine z_run run hS fun H1 locs1 hP1 hS1 => ?_
  exact kk H1 locs1 sls hP1 hS1 hL
theorem x_kabove (Γ : zC Wf V m nL H0 cc RX3 lv Rc Rs) (hd : decode cc pc = .ok (.getstatic 277, 3)) (kk : zX Wf V m nL H0 (pc + 3) f (.ref 3000 :: st) h n k sl) : zX Wf V m nL H0 pc f st h n k sl := by
  obtain ⟨p, l, e, R, s, args, below, meth, c, Q, rfl, hx, hb, hml, hown, hts, hh0, hK, hlv, hlo, hRc, hRs⟩ := Γ
  subst hh0
  exact fun H locs sls hP hS hL => va_gets hx hb hK.2.2.2.1 hS hown (hts _ wl_X3_277) (fun _ z => z) hd (kk H locs sls hP hS hL)
theorem x_kald (Γ : zC Wf V m nL H0 cc own lv Rc Rs) {i : Int32} {j : Nat} (hd : decode cc pc = .ok (.iaload, 1)) (hi : i = nI j) (hj : j < 7) (kk : zX Wf V m nL H0 (pc + 1) f (.int (zKA j) :: st) h n k sl) : zX Wf V m nL H0 pc f (.int i :: .ref 3000 :: st) h n k sl := by
  obtain ⟨p, l, e, R, s, args, below, meth, c, Q, rfl, hx, hb, hml, hown, hts, hh0, hK, hlv, hlo, hRc, hRs⟩ := Γ
  subst hh0 hi
  intro H locs sls hP hS hL
  obtain ⟨cell, h1, h2, h3, h4, h5, h6, h7⟩ := (hK.2.2.2.2.1).kept hS.2.1
  have hc : (nI j).toNatClampNeg = j := nI_clamp (by omega)
  exact W.iald (v := .int (zKA j)) hx hb h1 h2 h3 (fun z => by
    rcases z with z | z
    · exact nI_pos (by omega) z
    · rw [hc] at z; omega) (by rw [hc]; exact h6 j hj) rfl rfl hd (kk H locs sls hP hS hL)
end ZT
