abbrev zY : Type := MethodName × ByteArray × Nat × Option FieldType
def zWs (M : zY) : List Cond := Cond.code M.1 M.2.1 M.2.2.1 M.2.2.2 :: zw
def zRm (d mc ms : Nat) : Room := { frames := d, cells := mc, slots := ms, locals := 32 * d }
def zPost (V : zG) (r : Option Value) (h' : Nat → zE) (n' : Nat) : Array Value → State → Outcome → State → Prop := fun _ st o t => o = .returned (r.map (zv V)) ∧ zP V h' n' t.heap ∧ va_F (zF V) st t
/-- a method of height d, called with as in the heap h, answers r and leaves h' -/
def zM (d : Nat) (M : zY) (as : List Value) (h : Nat → zE) (n : Nat) (r : Option Value) (h' : Nat → zE) (n' mc ms : Nat) : Prop :=
  ∀ (l : Launch) (V : zG), Met l M.1 (zWs M) (zRm d mc ms) (va_Pc (as.map (zv V)) (fun U => zP V h n U.heap ∧ zK V U)) (zPost V r h' n') mc ms (zF V)
/-- where a method ends -/
def zQ (Wf : zW) (V : zG) (m : MethodId) (H0 : Heap) (cc : ByteArray) (ret : Option FieldType) (r : Option Value) (h' : Nat → zE) (n' mc ms : Nat) : Prop :=
  ∃ (p : Program) (l : Launch) (e : Env) (R : Room) (s : State) (args : Array Value) (below : List Frame) (meth : Method) (c : Code),
    Wf = (fun H locs k sl g => W p l e R s m args below meth c H locs k sl (MQ below (zPost V r h' n') args s mc ms (zF V)) g) ∧ p.tables.exec = Jvm.exec ∧ c.code = cc ∧ meth.sig.returnType = ret ∧ meth.locks = false ∧ H0 = s.heap
theorem lg_map (V : zG) : ∀ as : List Value, (lg_sl (as.map (zv V))).length = (lg_sl as).length := by
  intro as
  induction as with
  | nil => rfl
  | cons a as ih =>
    simp only [lg_sl, List.map_cons, List.flatMap_cons, List.length_append] at ih ⊢
    rw [ih, zv_cat]
    by_cases ha : a.category = 2
    · rw [if_pos ha, if_pos ha]
      rfl
    · rw [if_neg ha, if_neg ha]
      rfl
theorem lv_args_map (V : zG) : ∀ (as : List Value) (i : Nat), lv_args i (as.map (zv V)) = (lv_args i as).map (fun q => (q.1, zv V q.2)) := by
  intro as
  induction as with
  | nil => intro i; rfl
  | cons a as ih =>
    intro i
    simp only [List.map_cons, lv_args, zv_cat, ih]
theorem zls_mem : ∀ (l : List (Nat × Value)) (i : Nat) (v : Value), zls l i = some v → (i, v) ∈ l := by
  intro l i v hv
  unfold zls at hv
  induction l with
  | nil => cases hv
  | cons q l ih =>
    rw [List.lookup_cons] at hv
    cases e : (i == q.1) with
    | true =>
      rw [e] at hv
      cases hv
      rw [eq_of_beq e]
      exact List.mem_cons_self
    | false =>
      rw [e] at hv
      exact List.mem_cons_of_mem _ (ih hv)
theorem zM.intro {d : Nat} {M : zY} {as : List Value} {h : Nat → zE} {n : Nat} {r : Option Value} {h' : Nat → zE} {n' mc ms : Nat} (hy : plainName M.1.cls = true) (hsz : (lg_sl as).length ≤ M.2.2.1)
    (body : ∀ (Wf : zW) (V : zG) (m : MethodId) (H0 : Heap), zC Wf V m M.2.2.1 H0 M.2.1 M.1.cls d mc ms → zQ Wf V m H0 M.2.1 M.2.2.2 r h' n' mc ms → zX Wf V m M.2.2.1 H0 0 (zls (lv_args 0 as)) [] h n 0 0) : zM d M as h n r h' n' mc ms := by
  intro l V
  refine Met.ofW (cc := M.2.1) (maxL := M.2.2.1) (ret := M.2.2.2) hy rfl ?_
  intro p e s m args below meth c s₁ B hml hv
  obtain ⟨rfl, hP, hK⟩ := hv
  have hx := B.exec
  have hb := B.bytes
  have hr := B.returns
  have hts := atoms_spec (ws := zWs M) B.pre
  have hown : s.vm.findClass M.1.cls = some m.cls := findClass_of_methodNamed B.named
  have hlocks := B.notSynchronized
  have hl := lv_entry (as.map (zv V)) (n := M.2.2.1) (by rw [lg_map]; exact hsz)
  rw [lg_entry_eq]
  generalize (lg_sl (as.map (zv V)) ++ List.replicate (M.2.2.1 - (lg_sl (as.map (zv V))).length) Slot.unset).toArray = ls at hl ⊢
  refine body (fun H locs k sl g => W p l e (zRm d mc ms) s m (as.map (zv V)).toArray below meth c H locs k sl (MQ below (zPost V r h' n') (as.map (zv V)).toArray s mc ms (zF V)) g) V m s.heap
    ⟨p, l, e, _, s, _, below, meth, c, _, rfl, hx, hb, hml, hown, fun w hw => hts w (List.mem_cons_of_mem _ hw), rfl, hK, Nat.le_refl _, Nat.le_refl _, rfl, rfl⟩
    ⟨p, l, e, _, s, _, below, meth, c, rfl, hx, hb, hr, hlocks, rfl⟩ s.heap [] ls hP va_S.rf ⟨hl.1, hl.2.1, fun i v hv => ?_⟩
  have h1 := zls_mem _ _ _ hv
  rw [lv_args_map] at hl
  exact hl.2.2 (i, zv V v) (List.mem_map.mpr ⟨(i, v), h1, rfl⟩)
section ZC
variable {Wf : zW} {V : zG} {m : MethodId} {nL : Nat} {H0 : Heap} {cc : ByteArray} {own : String} {lv Rc Rs : Nat} {pc : Nat} {f : Nat → Option Value} {st : List Value} {h : Nat → zE} {n k sl : Nat}
theorem x_iret {ret : Option FieldType} {r : Option Value} {h' : Nat → zE} {n' : Nat} {v : Int32} {ty : FieldType} (ρ : zQ Wf V m H0 cc ret r h' n' k sl) (hr : ret = some ty) (hd : decode cc pc = .ok (.ireturn, 1)) (hn : narrow ty (.int v) = .int v) (hv : r = some (.int v)) (hnn : n = n') (hh : zH n h h') : zX Wf V m nL H0 pc f [.int v] h n k sl := by
  obtain ⟨p, l, e, R, s, args, below, meth, c, rfl, hx, hb, hrt, hlk, rfl⟩ := ρ
  subst hv hr hnn
  exact fun H locs sls hP hS hL => W.zret hx hb hrt hn (fun t ht hW => ⟨rfl, by rw [ht]; exact zH_P hh hP, hS.F ht⟩) hS.2.2 hd hlk
theorem x_lret {r : Option Value} {h' : Nat → zE} {n' : Nat} {v : Int64} (ρ : zQ Wf V m H0 cc (some .long) r h' n' k sl) (hd : decode cc pc = .ok (.lreturn, 1)) (hv : r = some (.long v)) (hnn : n = n') (hh : zH n h h') : zX Wf V m nL H0 pc f [.long v] h n k sl := by
  obtain ⟨p, l, e, R, s, args, below, meth, c, rfl, hx, hb, hrt, hlk, rfl⟩ := ρ
  subst hv hnn
  exact fun H locs sls hP hS hL => W.lret hx hb hrt (fun t ht hW => ⟨rfl, by rw [ht]; exact zH_P hh hP, hS.F ht⟩) hS.2.2 hd hlk
theorem x_vret {r : Option Value} {h' : Nat → zE} {n' : Nat} (ρ : zQ Wf V m H0 cc none r h' n' k sl) (hd : decode cc pc = .ok (.return_, 1)) (hv : r = none) (hnn : n = n') (hh : zH n h h') : zX Wf V m nL H0 pc f [] h n k sl := by
  obtain ⟨p, l, e, R, s, args, below, meth, c, rfl, hx, hb, hrt, hlk, rfl⟩ := ρ
  subst hv hnn
  exact fun H locs sls hP hS hL => W.vret hx hb hrt (fun t ht hW => ⟨rfl, by rw [ht]; exact zH_P hh hP, hS.F ht⟩) hS.2.2 hd hlk
theorem x_aret {rt : FieldType} {r : Option Value} {h' : Nat → zE} {n' : Nat} {q : Nat} (ρ : zQ Wf V m H0 cc (some rt) r h' n' k sl) (hrt0 : (∃ n, rt = FieldType.object n) ∨ ∃ t : FieldType, rt = FieldType.array t) (hd : decode cc pc = .ok (.areturn, 1)) (hv : r = some (.ref q)) (hnn : n = n') (hh : zH n h h') : zX Wf V m nL H0 pc f [.ref q] h n k sl := by
  obtain ⟨p, l, e, R, s, args, below, meth, c, rfl, hx, hb, hrt, hlk, rfl⟩ := ρ
  subst hv hnn
  exact fun H locs sls hP hS hL => W.aret hx hb hrt hrt0 (Or.inr ⟨_, rfl⟩) (fun t ht hW => ⟨rfl, by rw [ht]; exact zH_P hh hP, hS.F ht⟩) hS.2.2 hd hlk
/-- what is asked of a callee -/
def zCal (M : zY) (na : Nat) : Prop := Cond.code M.1 M.2.1 M.2.2.1 M.2.2.2 ∈ zw ∧ Cond.initialized M.1.cls ∈ zw ∧ (M.1.cls ≠ "java/lang/invoke/MethodHandle" ∧ M.1.cls ≠ "java/lang/invoke/VarHandle" ∧ (parseMethodDescriptor M.1.desc).map (fun d => d.parameters.length) = some na) ∧ M.2.2.1 ≤ 13
def zCalV (M : zY) (na : Nat) : Prop := zCal M na ∧ Cond.instanceMethod M.1 ∈ zw ∧ Cond.selects M.1.cls M.1 M.1 ∈ zw
def zCalS (M : zY) (na : Nat) : Prop := zCal M na ∧ Cond.static M.1 ∈ zw
theorem zBlind {V : zG} {as : List Value} : FrameBlind (va_Pc as (fun U => zP V h n U.heap ∧ zK V U)) := fun a U g mk q => ⟨q.1, q.2.1, zK_moved (u := U) (U := U.calling g mk a) (State.WarmedH.refl U) q.2.2.2.1 (fun _ _ _ => rfl) q.2.2⟩
theorem zGood (M : zY) (hc : Cond.code M.1 M.2.1 M.2.2.1 M.2.2.2 ∈ zw) : GoodIn zw (zWs M) := fun w hw => by
  rcases List.mem_cons.mp hw with rfl | h
  · exact ⟨hc, good_of_word (zw_good _ hc)⟩
  · exact ⟨h, good_of_word (zw_good _ h)⟩
theorem z_run {p : Program} {l : Launch} {e : Env} {R : Room} {s : State} {args : Array Value} {below : List Frame} {meth : Method} {c : Code} {Q : State → Prop} {H : Heap} {locs : List Loc} {sls : Array Slot} {st0 rest : List Value} {mc ms : Nat} {r : Option Value} {h' : Nat → zE} {n' : Nat} {aa : Array Value}
    (hr : va_Run p l e R s m args below meth c H locs k sl mc ms (F0 m pc sls st0) rest (zPost V r h' n' aa) (zF V)) (hS : va_S (zF V) H0 H locs)
    (kk : ∀ (H1 : Heap) (locs1 : List Loc), zP V h' n' H1 → va_S (zF V) H0 H1 locs1 → W p l e R s m args below meth c H1 locs1 (k + mc) (sl + ms) Q (F0 m (pc + 3) sls ((r.map (zv V)).toList ++ rest))) : W p l e R s m args below meth c H locs k sl Q (F0 m pc sls st0) := by
  intro T hT X
  obtain ⟨v, st₀, t, T', L, h0, X', hL, e1, e2, ⟨hv, hp, hz, hk⟩, stp⟩ := hr T hT X
  cases hv
  rw [h0] at hz hk
  obtain ⟨t2, a1, b1⟩ := kk T'.heap (locs ++ L) (by rw [e1]; exact hp) ⟨Nat.le_trans hS.1 (by rw [e1]; exact hz), fun q h1 h2 => by rw [e1, hk q (Nat.lt_of_lt_of_le h1 hS.1) h2]; exact hS.2.1 q h1 h2, fun q hq => by
      rcases List.mem_append.mp hq with h | h
      · exact hS.2.2 q h
      · exact hL q h⟩ T' rfl X'
  exact ⟨t2, stp t2 a1, b1⟩
theorem zcat_sum (V : zG) (st : List Value) : ((st.map (zv V)).map fun v => v.category).sum = (st.map fun v => v.category).sum := by
  rw [List.map_map]
  congr 1
  apply List.map_congr_left
  intro v _
  exact zv_cat V v
theorem x_callVr (Γ : zC Wf V m nL H0 cc own lv Rc Rs) {M : zY} {na d i b ci : Nat} {As fs st0 : List Value} {r : Option Value} {h' : Nat → zE} {n' mc ms : Nat} {q : vw_C} (cal : zCalV M na) (wl : Cond.methodLink own i M.1 ∈ zw) (hd : decode cc pc = .ok (.invokevirtual i, 3)) (hM : zM d M (.ref b :: As) h n r h' n' mc ms) (hna : As.length = na) (hlv2 : d + 1 ≤ lv)
    (hq : b < n) (he : h b = zO ci fs) (hC : vwCl[ci]? = some q) (hCn : q.1 = M.1.cls) (hst : st0 = As.reverse ++ .ref b :: st) (hroom : (st.map fun v => v.category).sum ≤ 8) (hk : k + mc ≤ Rc) (hs : sl + ms ≤ Rs) (kk : zX Wf V m nL H0 (pc + 3) f (r.toList ++ st) h' n' (k + mc) (sl + ms)) : zX Wf V m nL H0 pc f st0 h n k sl := by
  obtain ⟨p, l, e, R, s, args, below, meth, c, Q, rfl, hx, hb, hml, hown, hts, hh0, hK, hlv, hlo, hRc, hRs⟩ := Γ
  subst hst hh0 hRc hRs
  intro H locs sls hP hS hL
  obtain ⟨⟨hc1, hc2, hc3, hc4⟩, hi1, hi2⟩ := cal
  have hg := zGood M hc1
  have h1 := zP_one hP hq
  rw [he] at h1
  have hrc := va_recv (q0 := 0) hK.1 h1 hC rfl
  rw [hCn] at hrc
  have run := va_runV (l := l) (e := e) (below := below) (meth := meth) (As := As.map (zv V)) (rest := st.map (zv V)) (b := za V b) (g := F0 m pc sls ((As.reverse ++ .ref b :: st).map (zv V))) (locs := locs) (cells := k) (slots := sl) ⟨hx, hb, hml, hown, hts⟩ (hM l V)
    (show CallW R s args own M.1.cls i M.1 M.2.1 M.2.2.1 M.2.2.2 (zWs M) (zRm d mc ms) mc ms na from ⟨callB_of na hts hg rfl rfl rfl (hts _ hc2) (hts _ wl) hc3 ⟨Nat.le_trans hlv2 hlv, by show 8 + (M.2.2.1 + 11) + 32 * d ≤ R.locals; omega⟩, hts _ hi1, hts _ hi2⟩)
    ⟨zBlind, hrc, fun U hU hW => ⟨rfl, by rw [hU]; exact hP, zK_moved hW (by rw [hU]; exact Nat.le_trans hK.2.1 hS.1) (by rw [hU]; exact hS.2.1) hK⟩⟩ rfl (by rw [List.length_map]; exact hna) hL.1 (by simp [zv]) (lv_room (pc := pc) (ls := sls) (rest := (As.reverse ++ .ref b :: st).map (zv V)) (by rw [zcat_sum]; exact hroom)) hd ⟨hk, hs⟩
  refine z_run run hS fun H1 locs1 hP1 hS1 => ?_
  have k1 := kk H1 locs1 sls hP1 hS1 hL
  have e1 : (r.toList ++ st).map (zv V) = (r.map (zv V)).toList ++ st.map (zv V) := by cases r <;> simp
  rw [e1] at k1
  exact k1
theorem x_callSr (Γ : zC Wf V m nL H0 cc own lv Rc Rs) {M : zY} {na d i : Nat} {As st0 : List Value} {r : Option Value} {h' : Nat → zE} {n' mc ms : Nat} (cal : zCalS M na) (wl : Cond.methodLink own i M.1 ∈ zw) (hd : decode cc pc = .ok (.invokestatic i, 3)) (hM : zM d M As h n r h' n' mc ms) (hna : As.length = na) (hlv2 : d + 1 ≤ lv)
    (hst : st0 = As.reverse ++ st) (hroom : (st.map fun v => v.category).sum ≤ 8) (hk : k + mc ≤ Rc) (hs : sl + ms ≤ Rs) (kk : zX Wf V m nL H0 (pc + 3) f (r.toList ++ st) h' n' (k + mc) (sl + ms)) : zX Wf V m nL H0 pc f st0 h n k sl := by
  obtain ⟨p, l, e, R, s, args, below, meth, c, Q, rfl, hx, hb, hml, hown, hts, hh0, hK, hlv, hlo, hRc, hRs⟩ := Γ
  subst hst hh0 hRc hRs
  intro H locs sls hP hS hL
  obtain ⟨⟨hc1, hc2, hc3, hc4⟩, hi1⟩ := cal
  have hg := zGood M hc1
  have run := va_runS (l := l) (e := e) (below := below) (meth := meth) (As := As.map (zv V)) (rest := st.map (zv V)) (g := F0 m pc sls ((As.reverse ++ st).map (zv V))) (locs := locs) (cells := k) (slots := sl) ⟨hx, hb, hml, hown, hts⟩ (hM l V)
    (show CallB R s args own i M.1 M.2.1 M.2.2.1 M.2.2.2 (zWs M) (zRm d mc ms) mc ms na ∧ _ from ⟨callB_of na hts hg rfl rfl rfl (hts _ hc2) (hts _ wl) hc3 ⟨Nat.le_trans hlv2 hlv, by show 8 + (M.2.2.1 + 11) + 32 * d ≤ R.locals; omega⟩, hts _ hi1⟩)
    ⟨zBlind, fun U hU hW => ⟨rfl, by rw [hU]; exact hP, zK_moved hW (by rw [hU]; exact Nat.le_trans hK.2.1 hS.1) (by rw [hU]; exact hS.2.1) hK⟩⟩ rfl (by rw [List.length_map]; exact hna) hL.1 (by simp) (lv_room (pc := pc) (ls := sls) (rest := (As.reverse ++ st).map (zv V)) (by rw [zcat_sum]; exact hroom)) hd ⟨hk, hs⟩
  refine z_run run hS fun H1 locs1 hP1 hS1 => ?_
  have k1 := kk H1 locs1 sls hP1 hS1 hL
  have e1 : (r.toList ++ st).map (zv V) = (r.map (zv V)).toList ++ st.map (zv V) := by cases r <;> simp
  rw [e1] at k1
  exact k1
theorem x_callV (Γ : zC Wf V m nL H0 cc own lv Rc Rs) {M : zY} {na d i b ci : Nat} {As fs st0 : List Value} {v : Value} {h' : Nat → zE} {q : vw_C} (cal : zCalV M na) (wl : Cond.methodLink own i M.1 ∈ zw) (hd : decode cc pc = .ok (.invokevirtual i, 3)) (hM : zM d M (.ref b :: As) h n (some v) h' n 0 0) (hna : As.length = na) (hlv2 : d + 1 ≤ lv)
    (hq : b < n) (he : h b = zO ci fs) (hC : vwCl[ci]? = some q) (hCn : q.1 = M.1.cls) (hst : st0 = As.reverse ++ .ref b :: st) (hroom : (st.map fun v => v.category).sum ≤ 8) (hk : k ≤ Rc) (hs : sl ≤ Rs) (kk : zX Wf V m nL H0 (pc + 3) f (v :: st) h' n k sl) : zX Wf V m nL H0 pc f st0 h n k sl := x_callVr Γ cal wl hd hM hna hlv2 hq he hC hCn hst hroom hk hs kk
theorem x_callVv (Γ : zC Wf V m nL H0 cc own lv Rc Rs) {M : zY} {na d i b ci : Nat} {As fs st0 : List Value} {h' : Nat → zE} {q : vw_C} (cal : zCalV M na) (wl : Cond.methodLink own i M.1 ∈ zw) (hd : decode cc pc = .ok (.invokevirtual i, 3)) (hM : zM d M (.ref b :: As) h n none h' n 0 0) (hna : As.length = na) (hlv2 : d + 1 ≤ lv)
    (hq : b < n) (he : h b = zO ci fs) (hC : vwCl[ci]? = some q) (hCn : q.1 = M.1.cls) (hst : st0 = As.reverse ++ .ref b :: st) (hroom : (st.map fun v => v.category).sum ≤ 8) (hk : k ≤ Rc) (hs : sl ≤ Rs) (kk : zX Wf V m nL H0 (pc + 3) f st h' n k sl) : zX Wf V m nL H0 pc f st0 h n k sl := x_callVr Γ cal wl hd hM hna hlv2 hq he hC hCn hst hroom hk hs kk
theorem x_callS (Γ : zC Wf V m nL H0 cc own lv Rc Rs) {M : zY} {na d i : Nat} {As st0 : List Value} {v : Value} {h' : Nat → zE} (cal : zCalS M na) (wl : Cond.methodLink own i M.1 ∈ zw) (hd : decode cc pc = .ok (.invokestatic i, 3)) (hM : zM d M As h n (some v) h' n 0 0) (hna : As.length = na) (hlv2 : d + 1 ≤ lv)
    (hst : st0 = As.reverse ++ st) (hroom : (st.map fun v => v.category).sum ≤ 8) (hk : k ≤ Rc) (hs : sl ≤ Rs) (kk : zX Wf V m nL H0 (pc + 3) f (v :: st) h' n k sl) : zX Wf V m nL H0 pc f st0 h n k sl := x_callSr Γ cal wl hd hM hna hlv2 hst hroom hk hs kk
theorem x_callSv (Γ : zC Wf V m nL H0 cc own lv Rc Rs) {M : zY} {na d i : Nat} {As st0 : List Value} {h' : Nat → zE} (cal : zCalS M na) (wl : Cond.methodLink own i M.1 ∈ zw) (hd : decode cc pc = .ok (.invokestatic i, 3)) (hM : zM d M As h n none h' n 0 0) (hna : As.length = na) (hlv2 : d + 1 ≤ lv)
    (hst : st0 = As.reverse ++ st) (hroom : (st.map fun v => v.category).sum ≤ 8) (hk : k ≤ Rc) (hs : sl ≤ Rs) (kk : zX Wf V m nL H0 (pc + 3) f st h' n k sl) : zX Wf V m nL H0 pc f st0 h n k sl := x_callSr Γ cal wl hd hM hna hlv2 hst hroom hk hs kk
end ZC
