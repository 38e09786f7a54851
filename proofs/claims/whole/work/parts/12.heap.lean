section ZH
variable {Wf : zW} {V : zG} {m : MethodId} {nL : Nat} {H0 : Heap} {cc : ByteArray} {own : String} {lv Rc Rs : Nat} {pc : Nat} {f : Nat → Option Value} {st : List Value} {h : Nat → zE} {n k sl : Nat}
def zup (h : Nat → zE) (q : Nat) (e : zE) : Nat → zE := fun j => bif j == q then e else h j
theorem za_lt {V : zG} {q : Nat} (h : q < 1000) : za V q = V.1 + q := if_pos h
theorem zP_at {V : zG} {h : Nat → zE} {n : Nat} {H : Heap} (hP : zP V h n H) {q : Nat} (hq : q < n) : va_at V.2.2.1 vwCl (za V q, ze V (h q)) H := by
  rw [za_lt (Nat.lt_of_lt_of_le hq hP.2.1)]
  exact hP.2.2 q hq
theorem zP_one {V : zG} {h : Nat → zE} {n : Nat} {H : Heap} (hP : zP V h n H) {q : Nat} (hq : q < n) : va_P V.2.2.1 vwCl [(za V q, ze V (h q))] H := fun k x hx => by
  cases k with
  | zero => cases hx; exact zP_at hP hq
  | succ k => simp at hx
theorem zP_set {V : zG} {h : Nat → zE} {n : Nat} {H H1 : Heap} (hP : zP V h n H) {q : Nat} (hq : q < n) {e : zE} (z : H1.size = H.size) (oq : ∀ x : Nat, x ≠ za V q → H1[x]? = H[x]?) (he : va_at V.2.2.1 vwCl (za V q, ze V e) H1) : zP V (zup h q e) n H1 := by
  refine ⟨by rw [z]; exact hP.1, hP.2.1, fun j hj => ?_⟩
  have ea : za V q = V.1 + q := za_lt (Nat.lt_of_lt_of_le hq hP.2.1)
  by_cases hjq : j = q
  · subst hjq
    have e1 : zup h j e j = e := by simp [zup]
    rw [e1, ← ea]
    exact he
  · have e1 : zup h q e j = h j := by
      show (bif j == q then e else h j) = h j
      rw [show (j == q) = false by simpa using hjq]
      rfl
    rw [e1]
    refine (hP.2.2 j hj).kept (oq _ ?_)
    rw [ea]
    show V.1 + j ≠ V.1 + q
    omega
theorem zF_za {V : zG} {q : Nat} (h : q < 1000) : zF V (za V q) := by
  rw [za_lt h]
  exact Nat.le_add_right _ _
theorem x_getf (Γ : zC Wf V m nL H0 cc own lv Rc Rs) {C : String} {T : u_T} {N ci i q j : Nat} {fs : List Value} {v : Value} (hin : ∀ w ∈ u_ws C T N, w ∈ zw) (hc : vwCl[ci]? = some (C, T, N)) (hj : j < N) (hw : Cond.fieldLink own i (T j).1 (T j).2.1 (T j).2.2.1 ∈ zw)
    (hd : decode cc pc = .ok (.getfield i, 3)) (hq : q < n) (he : h q = zO ci fs) (hv : fs[j]? = some v) (kk : zX Wf V m nL H0 (pc + 3) f (v :: st) h n k sl) : zX Wf V m nL H0 pc f (.ref q :: st) h n k sl := by
  obtain ⟨p, l, e, R, s, args, below, meth, c, Q, rfl, hx, hb, hml, hown, hts, hh0, hK, hlv, hlo, hRc, hRs⟩ := Γ
  intro H locs sls hP hS hL
  have h1 := zP_one hP hq
  rw [he] at h1
  exact va_get (C := C) (T := T) (N := N) hx hb hts hin hown hK.1 h1 0 rfl hc j hj (hts _ hw) (fun _ z => z) (v := zv V v) (by rw [List.getElem?_map, hv]; rfl) hd (kk H locs sls hP hS hL)
theorem x_putf (Γ : zC Wf V m nL H0 cc own lv Rc Rs) {C : String} {T : u_T} {N ci i q j : Nat} {fs : List Value} {v : Value} {ty : FieldType} {h' : Nat → zE} (hin : ∀ w ∈ u_ws C T N, w ∈ zw) (ty0 : Nat → FieldType) (hty : ∀ k, k < N → parseFieldDescriptor (T k).2.2.1 = some (ty0 k)) (hnm : ∀ a, a < N → ∀ b, b < N → a ≠ b → (T a).2.1 ≠ (T b).2.1) (hc : vwCl[ci]? = some (C, T, N)) (hj : j < N) (hw : Cond.fieldLink own i (T j).1 (T j).2.1 (T j).2.2.1 ∈ zw)
    (hfin : (T j).2.2.2 = false) (hdd : parseFieldDescriptor (T j).2.2.1 = some ty) (hd : decode cc pc = .ok (.putfield i, 3)) (hq : q < n) (he : h q = zO ci fs) (hlen : j < fs.length) (hnr : ∀ V, narrow ty (zv V v) = zv V v) (hfit : ∀ V, fits ty (zv V v) = true) (hh : zup h q (zO ci (fs.set j v)) = h') (kk : zX Wf V m nL H0 (pc + 3) f st h' n k sl) : zX Wf V m nL H0 pc f (v :: .ref q :: st) h n k sl := by
  obtain ⟨p, l, e, R, s, args, below, meth, c, Q, rfl, hx, hb, hml, hown, hts, hh0, hK, hlv, hlo, hRc, hRs⟩ := Γ
  subst hh
  intro H locs sls hP hS hL
  have hE := zP_at hP hq
  rw [he] at hE
  have hap := va_apart (own := own) hts hin ty0 hty hnm hK.1 hc
  obtain ⟨r, h1, cell, q1, q2, q3, q4⟩ := hE
  have hr : r = (C, T, N) := Option.some.inj (h1.symm.trans hc)
  subst hr
  obtain ⟨hSl, hfc, kC, hkC, hkind⟩ := hK.1.1 ci _ hc
  obtain ⟨cf, kf, fi, fd, hi, hsl⟩ := hSl j hj
  have hlay := hts _ (hin _ (u_in_lay hj))
  unfold u_lay at hlay
  rw [if_neg (by rw [hfin]; decide)] at hlay
  have hst := (u_facts hfc hkC (u_lays hts hin hj) hi).1
  have h6 := u_store hfc hkC hkind hlay hi hdd (hnr V) (hfit V)
  refine W.putK hx hb (f := fd) ⟨hown, hts _ hw, ⟨_, _, _, hi⟩, hst⟩ (by rw [q2]; exact h6) q1 q3 (by rw [hsl]; exact k2_hasslot (q4 j hj)) rfl rfl hd fun H' e1 e2 e3 => ?_
  rw [hsl] at e1 ⊢
  refine kk H' _ sls (zP_set hP hq e2 e3 ?_) (hS.put e2 e3 (zF_za (Nat.lt_of_lt_of_le hq hP.2.1))) hL
  refine ⟨_, hc, t_OB.to (V := updV (vp_V (fs.map (zv V))) j (zv V v)) ⟨_, e1, q2, q3, t_set q4 hap hj (zv V v)⟩ (fun a _ => ?_)⟩
  rw [vp_updV_set (by rw [List.length_map]; exact hlen), List.map_set]
theorem x_iald (Γ : zC Wf V m nL H0 cc own lv Rc Rs) {q N j : Nat} {g : Nat → Int32} {i x : Int32} (hd : decode cc pc = .ok (.iaload, 1)) (hq : q < n) (he : h q = zI N g) (hi : i = nI j) (hj : j < N) (hN : N < 2 ^ 31) (hg : g j = x) (kk : zX Wf V m nL H0 (pc + 1) f (.int x :: st) h n k sl) : zX Wf V m nL H0 pc f (.int i :: .ref q :: st) h n k sl := by
  obtain ⟨p, l, e, R, s, args, below, meth, c, Q, rfl, hx, hb, hml, hown, hts, hh0, hK, hlv, hlo, hRc, hRs⟩ := Γ
  intro H locs sls hP hS hL
  subst hi hg
  have h1 := zP_one hP hq
  rw [he] at h1
  refine va_iald hx hb hK.1 h1 0 0 (cA := V.2.2.2.1) (n := N) (f := g) rfl rfl (vp_in_nI hj hN) hd ?_
  rw [nI_clamp (Nat.lt_trans hj hN)]
  exact kk H locs sls hP hS hL
theorem x_alen (Γ : zC Wf V m nL H0 cc own lv Rc Rs) {q N : Nat} {g : Nat → Int32} (hd : decode cc pc = .ok (.arraylength, 1)) (hq : q < n) (he : h q = zI N g) (kk : zX Wf V m nL H0 (pc + 1) f (.int (nI N) :: st) h n k sl) : zX Wf V m nL H0 pc f (.ref q :: st) h n k sl := by
  obtain ⟨p, l, e, R, s, args, below, meth, c, Q, rfl, hx, hb, hml, hown, hts, hh0, hK, hlv, hlo, hRc, hRs⟩ := Γ
  intro H locs sls hP hS hL
  have h1 := zP_one hP hq
  rw [he] at h1
  exact va_alen hx hb hK.1 h1 0 0 (cA := V.2.2.2.1) (x := (N, .inl g)) rfl rfl rfl hd (kk H locs sls hP hS hL)
theorem x_iast (Γ : zC Wf V m nL H0 cc own lv Rc Rs) {q N j : Nat} {g : Nat → Int32} {i x : Int32} {h' : Nat → zE} (hd : decode cc pc = .ok (.iastore, 1)) (hq : q < n) (he : h q = zI N g) (hi : i = nI j) (hj : j < N) (hN : N < 2 ^ 31) (hh : zup h q (zI N (upd g j x)) = h') (kk : zX Wf V m nL H0 (pc + 1) f st h' n k sl) : zX Wf V m nL H0 pc f (.int x :: .int i :: .ref q :: st) h n k sl := by
  obtain ⟨p, l, e, R, s, args, below, meth, c, Q, rfl, hx, hb, hml, hown, hts, hh0, hK, hlv, hlo, hRc, hRs⟩ := Γ
  subst hh hi
  intro H locs sls hP hS hL
  have hE := zP_at hP hq
  rw [he] at hE
  refine W.iast hx hb hE ((hK.1.2 0 _ rfl).1 N (fun j => .int (g j))) (fun q => by cases q) (by show ¬ (nI j < 0 ∨ (arrV _ _ _).slots.size ≤ _); rw [arrV_size]; exact vp_in_nI hj hN) rfl rfl hd fun H1 e1 z oq => ?_
  refine kk H1 _ sls (zP_set hP hq z oq ?_) (hS.put z oq (zF_za (Nat.lt_of_lt_of_le hq hP.2.1))) hL
  show H1[za V q]? = some (vp_cell _ _)
  rw [e1, nI_clamp (Nat.lt_trans hj hN)]
  show some ((vp_cell V.2.2.2.1 (N, .inl g)).setSlot j (.int x)) = some (vp_cell V.2.2.2.1 (N, .inl (upd g j x)))
  rw [vp_cell_i, vp_cell_i, arrV_store]
  congr 2
  funext a
  by_cases ha : a = j
  · subst ha
    simp [updV, upd]
  · simp [updV, upd, ha]
theorem x_aald (Γ : zC Wf V m nL H0 cc own lv Rc Rs) {q N j y : Nat} {g : Nat → Option Nat} {i : Int32} (hd : decode cc pc = .ok (.aaload, 1)) (hq : q < n) (he : h q = zR N g) (hi : i = nI j) (hj : j < N) (hN : N < 2 ^ 31) (hg : g j = some y) (kk : zX Wf V m nL H0 (pc + 1) f (.ref y :: st) h n k sl) : zX Wf V m nL H0 pc f (.int i :: .ref q :: st) h n k sl := by
  obtain ⟨p, l, e, R, s, args, below, meth, c, Q, rfl, hx, hb, hml, hown, hts, hh0, hK, hlv, hlo, hRc, hRs⟩ := Γ
  intro H locs sls hP hS hL
  subst hi
  have h1 := zP_one hP hq
  rw [he] at h1
  refine va_aldq hx hb hK.1 h1 0 1 (cA := V.2.2.2.2) (C := RX1) (n := N) (f := fun i => (g i).map (za V)) rfl rfl (vp_in_nI hj hN) hd ?_
  rw [nI_clamp (Nat.lt_trans hj hN), hg]
  exact kk H locs sls hP hS hL
/-- heaps that hold the same -/
def zeq (e e' : zE) : Prop := e = e' ∨ ∃ (N : Nat) (g g' : Nat → Int32), e = zI N g ∧ e' = zI N g' ∧ ∀ i, i < N → g i = g' i
theorem arrV_ext {c : ClassId} {N : Nat} {a b : Nat → Value} (h : ∀ i, i < N → a i = b i) : arrV c N a = arrV c N b := by
  unfold arrV
  congr 1
  congr 1
  funext j
  exact h j.val j.isLt
theorem zeq_at {V : zG} {a : Nat} {e e' : zE} {H : Heap} (h : zeq e e') (hE : va_at V.2.2.1 vwCl (a, ze V e) H) : va_at V.2.2.1 vwCl (a, ze V e') H := by
  rcases h with rfl | ⟨N, g, g', rfl, rfl, hg⟩
  · exact hE
  · have hE : H[a]? = some (vp_cell V.2.2.2.1 (N, .inl g)) := hE
    show H[a]? = some (vp_cell V.2.2.2.1 (N, .inl g'))
    rw [hE, vp_cell_i, vp_cell_i, arrV_ext (fun i hi => by rw [hg i hi])]
def zH (n : Nat) (h h' : Nat → zE) : Prop := ∀ q, q < n → zeq (h q) (h' q)
theorem zH.rf {n : Nat} {h : Nat → zE} : zH n h h := fun _ _ => Or.inl rfl
theorem zeq.symm {e e' : zE} (h : zeq e e') : zeq e' e := by
  rcases h with h | ⟨N, g, g', a, b, c⟩
  · exact Or.inl h.symm
  · exact Or.inr ⟨N, g', g, b, a, fun i hi => (c i hi).symm⟩
theorem zeq.trans {a b c : zE} (h : zeq a b) (h2 : zeq b c) : zeq a c := by
  rcases h with rfl | ⟨N, g, g', rfl, rfl, hg⟩
  · exact h2
  · rcases h2 with rfl | ⟨N2, g2, g2', e1, rfl, hg2⟩
    · exact Or.inr ⟨N, g, g', rfl, rfl, hg⟩
    · cases e1
      exact Or.inr ⟨N, g, g2', rfl, rfl, fun i hi => (hg i hi).trans (hg2 i hi)⟩
theorem zH.trans {n : Nat} {a b c : Nat → zE} (h : zH n a b) (h2 : zH n b c) : zH n a c := fun q hq => (h q hq).trans (h2 q hq)
theorem zH.symm {n : Nat} {a b : Nat → zE} (h : zH n a b) : zH n b a := fun q hq => (h q hq).symm
theorem zH_P {V : zG} {h h' : Nat → zE} {n : Nat} {H : Heap} (hh : zH n h h') (hP : zP V h n H) : zP V h' n H := ⟨hP.1, hP.2.1, fun q hq => zeq_at (hh q hq) (hP.2.2 q hq)⟩
theorem x_congr {h' : Nat → zE} (hh : zH n h h') (kk : zX Wf V m nL H0 pc f st h' n k sl) : zX Wf V m nL H0 pc f st h n k sl := fun H locs sls hP hS hL => kk H locs sls (zH_P hh hP) hS hL
theorem x_heap {h' : Nat → zE} (hh : h = h') (kk : zX Wf V m nL H0 pc f st h' n k sl) : zX Wf V m nL H0 pc f st h n k sl := hh ▸ kk
theorem x_st {st' : List Value} (hh : st = st') (kk : zX Wf V m nL H0 pc f st' h n k sl) : zX Wf V m nL H0 pc f st h n k sl := hh ▸ kk
end ZH
