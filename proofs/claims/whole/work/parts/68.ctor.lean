-- CONSTRUCTORS: rows that make cells
theorem zP_push {V : zG} {h : Nat → zE} {n : Nat} {H H1 : Heap} (hP : zP V h n H) (hn : n < 1000) {e : zE} (z : H1.size = H.size + 1) (o : ∀ q : Nat, q < H.size → H1[q]? = H[q]?) (he : va_at V.2.2.1 vwCl (H.size, ze V e) H1) : zP V (zup h n e) (n + 1) H1 := by
  refine ⟨by rw [z, hP.1]; omega, by omega, fun j hj => ?_⟩
  by_cases hjn : j = n
  · subst hjn
    rw [zup_s, ← hP.1]
    exact he
  · rw [zup_n hjn]
    refine (hP.2.2 j (by omega)).kept (o _ ?_)
    show V.1 + j < H.size
    rw [hP.1]
    omega
theorem vS_push {A : Nat → Prop} {H0 H H1 : Heap} {locs : List Loc} (hS : va_S A H0 H locs) (z : H1.size = H.size + 1) (o : ∀ q : Nat, q < H.size → H1[q]? = H[q]?) : va_S A H0 H1 locs := ⟨Nat.le_trans hS.1 (by omega), fun x h1 h2 => (o x (Nat.lt_of_lt_of_le h1 hS.1)).trans (hS.2.1 x h1 h2), hS.2.2⟩
/-- a constructor stands there -/
def zCi (Wf : zW) (V : zG) (m : MethodId) (nL : Nat) (H0 : Heap) (cc : ByteArray) (own : String) (lv Rc Rs : Nat) : Prop :=
  ∃ (p : Program) (l : Launch) (e : Env) (R : Room) (s : State) (args : Array Value) (below : List Frame) (meth : Method) (c : Code) (Q : State → Prop),
    Wf = (fun H locs k sl g => W p l e R s m args below meth c H locs k sl Q g) ∧ p.tables.exec = Jvm.exec ∧ c.code = cc ∧ c.maxLocals = nL ∧ s.vm.findClass own = some m.cls ∧ (∀ w ∈ zw, w.before args s = true) ∧ H0 = s.heap ∧ zK V s ∧ lv ≤ R.frames ∧ 32 * lv ≤ R.locals ∧ R.cells = Rc ∧ R.slots = Rs ∧ meth.name = "<init>"
theorem zCi.z {Wf : zW} {V : zG} {m : MethodId} {nL : Nat} {H0 : Heap} {cc : ByteArray} {own : String} {lv Rc Rs : Nat} (Γ : zCi Wf V m nL H0 cc own lv Rc Rs) : zC Wf V m nL H0 cc own lv Rc Rs := by
  obtain ⟨p, l, e, R, s, args, below, meth, c, Q, h1, hx, hb, hml, hown, hts, hh0, hK, hlv, hlo, hRc, hRs, hnm⟩ := Γ
  exact ⟨p, l, e, R, s, args, below, meth, c, Q, h1, hx, hb, hml, hown, hts, hh0, hK, hlv, hlo, hRc, hRs⟩
theorem zM.introi {d : Nat} {y : MethodName} {bc : ByteArray} {mL : Nat} {ret : Option FieldType} {as : List Value} {h : Nat → zE} {n : Nat} {r : Option Value} {h' : Nat → zE} {n' mc ms : Nat} (hy : plainName y.cls = true) (hnm : y.name = "<init>") (hsz : (lg_sl as).length ≤ mL)
    (body : ∀ (Wf : zW) (V : zG) (m : MethodId) (H0 : Heap), zCi Wf V m mL H0 bc y.cls d mc ms → zQ Wf V m H0 bc ret r h' n' mc ms → zX Wf V m mL H0 0 (zls (lv_args 0 as)) [] h n 0 0) : zM d (y, bc, mL, ret) as h n r h' n' mc ms := by
  intro l V
  refine Met.ofW (cc := bc) (maxL := mL) (ret := ret) hy rfl ?_
  intro p e s m args below meth c s₁ B hml hv
  obtain ⟨rfl, hP, hK⟩ := hv
  have hx := B.exec
  have hb := B.bytes
  have hr := B.returns
  have hts := atoms_spec (ws := zWs (y, bc, mL, ret)) B.pre
  have hown : s.vm.findClass y.cls = some m.cls := findClass_of_methodNamed B.named
  have hlocks := B.notSynchronized
  have hin : meth.name = "<init>" := (name_of_methodNamed B.named B.method).1.trans hnm
  have hl := lv_entry (as.map (zv V)) (n := mL) (by rw [lg_map]; exact hsz)
  rw [lg_entry_eq]
  generalize (lg_sl (as.map (zv V)) ++ List.replicate (mL - (lg_sl (as.map (zv V))).length) Slot.unset).toArray = ls at hl ⊢
  refine body (fun H locs k sl g => W p l e (zRm d mc ms) s m (as.map (zv V)).toArray below meth c H locs k sl (MQ below (zPost V r h' n') (as.map (zv V)).toArray s mc ms (zF V)) g) V m s.heap
    ⟨p, l, e, _, s, _, below, meth, c, _, rfl, hx, hb, hml, hown, fun w hw => hts w (List.mem_cons_of_mem _ hw), rfl, hK, Nat.le_refl _, Nat.le_refl _, rfl, rfl, hin⟩
    ⟨p, l, e, _, s, _, below, meth, c, rfl, hx, hb, hr, hlocks, rfl⟩ s.heap [] ls hP va_S.rf ⟨hl.1, hl.2.1, fun i v hv => ?_⟩
  have h1 := zls_mem _ _ _ hv
  rw [lv_args_map] at hl
  exact hl.2.2 (i, zv V v) (List.mem_map.mpr ⟨(i, v), h1, rfl⟩)
section ZCT
variable {Wf : zW} {V : zG} {m : MethodId} {nL : Nat} {H0 : Heap} {cc : ByteArray} {own : String} {lv Rc Rs : Nat} {pc : Nat} {f : Nat → Option Value} {st : List Value} {h : Nat → zE} {n k sl : Nat}
theorem x_new (Γ : zC Wf V m nL H0 cc own lv Rc Rs) {C : String} {T : u_T} {N ci i : Nat} {fs : List Value} {h' : Nat → zE} (hin : ∀ w ∈ u_ws C T N, w ∈ zw) (ty : Nat → FieldType) (hty : ∀ k, k < N → parseFieldDescriptor (T k).2.2.1 = some (ty k)) (hc : vwCl[ci]? = some (C, T, N)) (hw : Cond.classLink own i C ∈ zw) (hins : Cond.instantiable C N ∈ zw) (hini : Cond.initialized C ∈ zw)
    (hfs : ∀ V, (List.range N).map (fun j => defaultValue (ty j)) = fs.map (zv V)) (hd : decode cc pc = .ok (.new i, 3)) (hn : n < 1000) (hk : k + 1 ≤ Rc) (hs : sl + N ≤ Rs) (hh : zup h n (zO ci fs) = h') (kk : zX Wf V m nL H0 (pc + 3) f (.ref n :: st) h' (n + 1) (k + 1) (sl + N)) : zX Wf V m nL H0 pc f st h n k sl := by
  obtain ⟨p, l, e, R, s, args, below, meth, c, Q, rfl, hx, hb, hml, hown, hts, hh0, hK, hlv, hlo, hRc, hRs⟩ := Γ
  subst hh hRc hRs
  intro H locs sls hP hS hL
  have hKn := hK.1.1 ci _ hc
  refine W.newcK hx hb hown (hts _ hw) (hts _ hins) (hts _ hini) rfl hd hk hs hKn.2.1 rfl fun H1 kC hkC e1 z1 o1 => ?_
  have hP1 : zP V (zup h n (zO ci fs)) (n + 1) H1 := zP_push hP hn z1 o1 ⟨_, hc, (u_born ty hts hin hKn hkC e1 hty).to (fun j hj => by
    have e2 := congrArg (fun l => l[j]?) (hfs V)
    simp only [List.getElem?_map, List.getElem?_range hj, Option.map_some] at e2
    show defaultValue (ty j) = (fs.map (zv V)).getD j .null
    rw [List.getD_eq_getElem?_getD, List.getElem?_map, ← e2]
    rfl)⟩
  have kk1 := kk H1 locs sls hP1 (vS_push hS z1 o1) hL
  have ea : za V n = H.size := (za_lt hn).trans hP.1.symm
  rw [List.map_cons, show zv V (.ref n) = .ref (za V n) from rfl, ea] at kk1
  exact kk1
theorem x_newi (Γ : zC Wf V m nL H0 cc own lv Rc Rs) {N : Nat} {x : Int32} {h' : Nat → zE} (hd : decode cc pc = .ok (.newarray .int, 2)) (hx0 : ¬ x < 0) (hN : x.toNatClampNeg = N) (hN2 : N ≤ 1000) (hn : n < 1000) (hk : k + 1 ≤ Rc) (hs : sl + N ≤ Rs) (hh : zup h n (zI N (fun _ => 0)) = h') (kk : zX Wf V m nL H0 (pc + 2) f (.ref n :: st) h' (n + 1) (k + 1) (sl + N)) : zX Wf V m nL H0 pc f (.int x :: st) h n k sl := by
  obtain ⟨p, l, e, R, s, args, below, meth, c, Q, rfl, hx, hb, hml, hown, hts, hh0, hK, hlv, hlo, hRc, hRs⟩ := Γ
  subst hh hRc hRs
  intro H locs sls hP hS hL
  refine va_newaK (atype := .int) hx hb (hts _ warr_int) rfl hd rfl hx0 hN (by show N * 4 ≤ _; omega) hk hs rfl fun H1 cA e1 z1 o1 hAr hNm => ?_
  have hcA : s.vm.findClass "[I" = some V.2.2.2.1 := (hK.1.2 0 _ rfl).2
  have hc : V.2.2.2.1 = cA := Option.some.inj (hcA.symm.trans hNm)
  have hP1 : zP V (zup h n (zI N (fun _ => 0))) (n + 1) H1 := zP_push hP hn z1 o1 (by
    show H1[H.size]? = some (vp_cell V.2.2.2.1 (N, .inl (fun _ => 0)))
    rw [vp_cell_i, hc]
    exact e1)
  have kk1 := kk H1 locs sls hP1 (vS_push hS z1 o1) hL
  have ea : za V n = H.size := (za_lt hn).trans hP.1.symm
  rw [List.map_cons, show zv V (.ref n) = .ref (za V n) from rfl, ea] at kk1
  exact kk1
theorem x_newr (Γ : zC Wf V m nL H0 cc own lv Rc Rs) {N i : Nat} {x : Int32} {h' : Nat → zE} (hw : Cond.classLink own i RX1 ∈ zw) (hd : decode cc pc = .ok (.anewarray i, 3)) (hx0 : ¬ x < 0) (hN : x.toNatClampNeg = N) (hN2 : N ≤ 1000) (hn : n < 1000) (hk : k + 1 ≤ Rc) (hs : sl + N ≤ Rs) (hh : zup h n (zR N (fun _ => none)) = h') (kk : zX Wf V m nL H0 (pc + 3) f (.ref n :: st) h' (n + 1) (k + 1) (sl + N)) : zX Wf V m nL H0 pc f (.int x :: st) h n k sl := by
  obtain ⟨p, l, e, R, s, args, below, meth, c, Q, rfl, hx, hb, hml, hown, hts, hh0, hK, hlv, hlo, hRc, hRs⟩ := Γ
  subst hh hRc hRs hN
  intro H locs sls hP hS hL
  refine W.anew hx hb hown (hts _ hw) (va_AO.use hK.2.2.2.2.2.2.2.2.2.1) rfl hd rfl hx0 (by omega) hk hs fun cA kA comp f1 f2 f3 f4 => ?_
  generalize hH1 : H.push ({ cls := cA, slots := Array.replicate x.toNatClampNeg .null, vm := .none } : Cell) = H1
  have z1 : H1.size = H.size + 1 := by rw [← hH1, Array.size_push]
  have e1 : H1[H.size]? = some (arrV cA x.toNatClampNeg (fun _ => .null)) := by rw [← hH1, Array.getElem?_push_size, ← arrV_new]
  have o1 : ∀ q : Nat, q < H.size → H1[q]? = H[q]? := fun q hq => by rw [← hH1, Array.getElem?_push, if_neg (Nat.ne_of_lt hq)]
  obtain ⟨kA', comp', g1, g2, g3, g4⟩ := (hK.1.2 1 _ rfl).2
  have hc : V.2.2.2.2 = cA := Option.some.inj (g4.symm.trans f1)
  have hP1 : zP V (zup h n (zR x.toNatClampNeg (fun _ => none))) (n + 1) H1 := zP_push hP hn z1 o1 (by
    show H1[H.size]? = some (vp_cell V.2.2.2.2 (x.toNatClampNeg, .inr (.inr (.inr (.inr (fun _ => none))))))
    rw [vp_cell_q, hc]
    exact e1)
  have kk1 := kk H1 locs sls hP1 (vS_push hS z1 o1) hL
  have ea : za V n = H.size := (za_lt hn).trans hP.1.symm
  rw [List.map_cons, show zv V (.ref n) = .ref (za V n) from rfl, ea] at kk1
  exact kk1
theorem x_putF (Γ : zCi Wf V m nL H0 cc own lv Rc Rs) {C : String} {T : u_T} {N ci i q j : Nat} {fs : List Value} {v : Value} {ty : FieldType} {h' : Nat → zE} (hin : ∀ w ∈ u_ws C T N, w ∈ zw) (ty0 : Nat → FieldType) (hty : ∀ k, k < N → parseFieldDescriptor (T k).2.2.1 = some (ty0 k)) (hnm : ∀ a, a < N → ∀ b, b < N → a ≠ b → (T a).2.1 ≠ (T b).2.1) (hc : vwCl[ci]? = some (C, T, N)) (hj : j < N) (hw : Cond.fieldLink own i (T j).1 (T j).2.1 (T j).2.2.1 ∈ zw)
    (hfin : (T j).2.2.2 = true) (hdecl : (T j).1 = own) (hdd : parseFieldDescriptor (T j).2.2.1 = some ty) (hd : decode cc pc = .ok (.putfield i, 3)) (hq : q < n) (he : h q = zO ci fs) (hlen : j < fs.length) (hnr : ∀ V, narrow ty (zv V v) = zv V v) (hfit : ∀ V, fits ty (zv V v) = true) (hh : zup h q (zO ci (fs.set j v)) = h') (kk : zX Wf V m nL H0 (pc + 3) f st h' n k sl) : zX Wf V m nL H0 pc f (v :: .ref q :: st) h n k sl := by
  obtain ⟨p, l, e, R, s, args, below, meth, c, Q, rfl, hx, hb, hml, hown, hts, hh0, hK, hlv, hlo, hRc, hRs, hin2⟩ := Γ
  subst hh
  intro H locs sls hP hS hL
  have hE := zP_at hP hq
  rw [he] at hE
  have hap := va_apart (own := own) hts hin ty0 hty hnm hK.1 hc
  obtain ⟨r, h1, cell, q1, q2, q3, q4⟩ := hE
  have hr : r = (C, T, N) := Option.some.inj (h1.symm.trans hc)
  subst hr
  obtain ⟨hSl, hfc, kC, hkC, hkind⟩ := hK.1.1 ci _ hc
  obtain ⟨cf, kf, fi, fd, hi, hsl⟩ := hSl j hj
  have hlay := hts _ (hin _ (u_in_lay hj))
  unfold u_lay at hlay
  rw [if_pos hfin] at hlay
  have hst := (u_facts hfc hkC (u_lays hts hin hj) hi).1
  have hcf : m.cls = cf := by
    obtain ⟨_, _, c', _, _, _, -, -, hf', -, -, -, hown2, -⟩ := Cond.laysFinal_spec hlay
    have e1 : c' = cf := by have := hi.symm.trans hf'; simp at this; exact this.1.symm
    rw [hdecl] at hown2
    rw [← e1]; exact Option.some.inj (hown.symm.trans hown2)
  have h6 := u_fits hfc hkC hkind (Or.inr hlay) hi hdd (hnr V) (hfit V)
  refine W.putFinK hx hb hown (hts _ hw) hi hst hcf hin2 (by rw [q2]; exact h6) q1 q3 (by rw [hsl]; exact k2_hasslot (q4 j hj)) rfl rfl hd fun H' e1 e2 e3 => ?_
  rw [hsl] at e1 ⊢
  refine kk H' _ sls (zP_set hP hq e2 e3 ?_) (hS.put e2 e3 (zF_za (Nat.lt_of_lt_of_le hq hP.2.1))) hL
  refine ⟨_, hc, t_OB.to (V := updV (vp_V (fs.map (zv V))) j (zv V v)) ⟨_, e1, q2, q3, t_set q4 hap hj (zv V v)⟩ (fun a _ => ?_)⟩
  rw [vp_updV_set (by rw [List.length_map]; exact hlen), List.map_set]
theorem x_obj (Γ : zC Wf V m nL H0 cc own lv Rc Rs) {i q : Nat} (hw : Cond.methodLink own i objectInit ∈ zw) (hd : decode cc pc = .ok (.invokespecial i, 3)) (hroom : (st.map fun v => v.category).sum ≤ 8) (hlv2 : 1 ≤ lv) (kk : zX Wf V m nL H0 (pc + 3) f st h n k sl) : zX Wf V m nL H0 pc f (.ref q :: st) h n k sl := by
  obtain ⟨p, l, e, R, s, args, below, meth, c, Q, rfl, hx, hb, hml, hown, hts, hh0, hK, hlv, hlo, hRc, hRs⟩ := Γ
  intro H locs sls hP hS hL
  refine W.objInit hx hb hown (hts _ hw) (hts _ wi_obj) (hts _ wc_obj) rfl (hL.1.trans hml.symm) rfl hd (by omega) ?_ (kk H locs sls hP hS hL)
  show 2 * 0 + _ + 12 ≤ _
  rw [zcat_sum]
  omega
theorem x_aast (Γ : zC Wf V m nL H0 cc own lv Rc Rs) {q y N j : Nat} {g : Nat → Option Nat} {i : Int32} {fs : List Value} {h' : Nat → zE} (hd : decode cc pc = .ok (.aastore, 1)) (hq : q < n) (he : h q = zR N g) (hy : y < n) (hye : h y = zO 1 fs) (hi : i = nI j) (hj : j < N) (hN : N < 2 ^ 31) (hh : zup h q (zR N (va_up g j (some y))) = h') (kk : zX Wf V m nL H0 (pc + 1) f st h' n k sl) : zX Wf V m nL H0 pc f (.ref y :: .int i :: .ref q :: st) h n k sl := by
  obtain ⟨p, l, e, R, s, args, below, meth, c, Q, rfl, hx, hb, hml, hown, hts, hh0, hK, hlv, hlo, hRc, hRs⟩ := Γ
  subst hh hi
  intro H locs sls hP hS hL
  have hE := zP_at hP hq
  rw [he] at hE
  have hE : H[za V q]? = some (vp_cell V.2.2.2.2 (N, .inr (.inr (.inr (.inr (fun i => (g i).map (za V))))))) := hE
  have hY := zP_at hP hy
  rw [hye] at hY
  obtain ⟨r, h1, cellV, g1, g2, g3, -⟩ := hY
  have hr : r = (RX1, TX1, 3) := Option.some.inj (h1.symm.trans rfl)
  subst hr
  have hcls := (hK.1.1 1 _ rfl).2
  obtain ⟨kA, comp, k1, k2, k3, -⟩ := (hK.1.2 1 _ rfl).2
  have hcomp : comp = V.2.2.1.1 1 := Option.some.inj (k3.symm.trans hcls.1)
  subst hcomp
  obtain ⟨kC, hkC, -⟩ := hcls.2
  have hcl := nI_clamp (Nat.lt_trans hj hN)
  refine W.aast hx hb hE (fun q h => by cases h) (fun h => by cases h) k1 k2 rfl hkC ⟨by intro z; exact vp_in_nI hj hN (Or.inl z), by show _ < (arrV _ _ _).slots.size; rw [arrV_size, hcl]; exact hj⟩ g1 (fun q h => by rw [g3] at h; cases h) (by rw [g2]; exact hkC) (by rw [g2]; exact va_assign hcls) rfl rfl hd fun H1 e z oq => ?_
  refine kk H1 _ sls (zP_set hP hq z oq ?_) (hS.put z oq (zF_za (Nat.lt_of_lt_of_le hq hP.2.1))) hL
  show H1[za V q]? = some (vp_cell V.2.2.2.2 (N, .inr (.inr (.inr (.inr (fun i => (va_up g j (some y) i).map (za V)))))))
  rw [e, hcl]
  rw [vp_cell_q, vp_cell_q, arrV_store]
  congr 2
  funext a
  by_cases ha : a = j
  · subst ha
    simp [updV, va_up, va_rf]
  · simp [updV, va_up, ha]
theorem x_congR {q N : Nat} {g g' : Nat → Option Nat} {h' : Nat → zE} (hq : q < n) (he : h q = zR N g) (hg : ∀ i, i < N → g i = g' i) (hh : zup h q (zR N g') = h') (kk : zX Wf V m nL H0 pc f st h' n k sl) : zX Wf V m nL H0 pc f st h n k sl := by
  subst hh
  intro H locs sls hP hS hL
  have hE := zP_at hP hq
  rw [he] at hE
  have hE : H[za V q]? = some (vp_cell V.2.2.2.2 (N, .inr (.inr (.inr (.inr (fun i => (g i).map (za V))))))) := hE
  refine kk H locs sls (zP_set hP hq rfl (fun _ _ => rfl) ?_) hS hL
  show H[za V q]? = some (vp_cell V.2.2.2.2 (N, .inr (.inr (.inr (.inr (fun i => (g' i).map (za V)))))))
  rw [hE, vp_cell_q, vp_cell_q]
  congr 1
  exact arrV_ext (fun i hi => by rw [hg i hi])
theorem x_callI (Γ : zC Wf V m nL H0 cc own lv Rc Rs) {y : MethodName} {bc : ByteArray} {mL d i b : Nat} {h' : Nat → zE} {n' mc ms : Nat} (cal : zCal (y, bc, mL, none) 0) (hy1 : y.name = "<init>") (hi : Cond.instanceMethod y ∈ zw) (wl : Cond.methodLink own i y ∈ zw) (hd : decode cc pc = .ok (.invokespecial i, 3)) (hM : zM d (y, bc, mL, none) [.ref b] h n none h' n' mc ms) (hlv2 : d + 1 ≤ lv)
    (hroom : (st.map fun v => v.category).sum ≤ 8) (hk : k + mc ≤ Rc) (hs : sl + ms ≤ Rs) (kk : zX Wf V m nL H0 (pc + 3) f st h' n' (k + mc) (sl + ms)) : zX Wf V m nL H0 pc f (.ref b :: st) h n k sl := by
  obtain ⟨p, l, e, R, s, args, below, meth, c, Q, rfl, hx, hb, hml, hown, hts, hh0, hK, hlv, hlo, hRc, hRs⟩ := Γ
  subst hh0 hRc hRs
  intro H locs sls hP hS hL
  obtain ⟨hc1, hc2, hc3, hc4⟩ := cal
  have hc4 : mL ≤ 13 := hc4
  have hg := zGood (y, bc, mL, none) hc1
  have run := va_runI (l := l) (e := e) (below := below) (meth := meth) (As := []) (rest := st.map (zv V)) (b := za V b) (g := F0 m pc sls ((.ref b :: st).map (zv V))) (locs := locs) (cells := k) (slots := sl) ⟨hx, hb, hml, hown, hts⟩ (hM l V)
    ⟨callB_of 0 hts hg rfl rfl rfl (hts _ hc2) (hts _ wl) hc3 ⟨Nat.le_trans hlv2 hlv, by show 8 + (mL + 11) + 32 * d ≤ R.locals; omega⟩, hy1, hts _ hi⟩
    ⟨zBlind, fun U hU hW => ⟨rfl, by rw [hU]; exact hP, zK_moved hW (by rw [hU]; exact Nat.le_trans hK.2.1 hS.1) (by rw [hU]; exact hS.2.1) hK⟩⟩ rfl rfl hL.1 rfl (lv_room (m := m) (pc := pc) (ls := sls) (rest := (.ref b :: st).map (zv V)) (by rw [zcat_sum]; exact hroom)) hd ⟨hk, hs⟩
  exact z_run run hS fun H1 locs1 hP1 hS1 => kk H1 locs1 sls hP1 hS1 hL
theorem x_callIN (Γ : zC Wf V m nL H0 cc own lv Rc Rs) {y : MethodName} {bc : ByteArray} {host : String} {mL d i b : Nat} {h' : Nat → zE} {n' mc ms : Nat} (cal : zCal (y, bc, mL, none) 0) (hy1 : y.name = "<init>") (hi : Cond.instanceMethod y ∈ zw) (wl : ∀ s, zK V s → va_Nw (.methodLinkNest own i y host) s) (hd : decode cc pc = .ok (.invokespecial i, 3)) (hM : zM d (y, bc, mL, none) [.ref b] h n none h' n' mc ms) (hlv2 : d + 1 ≤ lv)
    (hroom : (st.map fun v => v.category).sum ≤ 8) (hk : k + mc ≤ Rc) (hs : sl + ms ≤ Rs) (kk : zX Wf V m nL H0 (pc + 3) f st h' n' (k + mc) (sl + ms)) : zX Wf V m nL H0 pc f (.ref b :: st) h n k sl := by
  obtain ⟨p, l, e, R, s, args, below, meth, c, Q, rfl, hx, hb, hml, hown, hts, hh0, hK, hlv, hlo, hRc, hRs⟩ := Γ
  subst hh0 hRc hRs
  intro H locs sls hP hS hL
  obtain ⟨hc1, hc2, hc3, hc4⟩ := cal
  have hc4 : mL ≤ 13 := hc4
  have hg := zGood (y, bc, mL, none) hc1
  have run := va_runIN (l := l) (e := e) (below := below) (meth := meth) (own := own) (index := i) (host := host) (As := []) (rest := st.map (zv V)) (b := za V b) (g := F0 m pc sls ((.ref b :: st).map (zv V))) (locs := locs) (cells := k) (slots := sl) ⟨hx, hb, hml, hown, hts⟩ (hM l V)
    ⟨va_cnB 0 hts hg rfl rfl rfl (wl s hK) (hts _ hc2) hc3 ⟨Nat.le_trans hlv2 hlv, by show 8 + (mL + 11) + 32 * d ≤ R.locals; omega⟩, hy1, hts _ hi⟩
    ⟨zBlind, fun U hU hW => ⟨rfl, by rw [hU]; exact hP, zK_moved hW (by rw [hU]; exact Nat.le_trans hK.2.1 hS.1) (by rw [hU]; exact hS.2.1) hK⟩⟩ rfl rfl hL.1 rfl (lv_room (m := m) (pc := pc) (ls := sls) (rest := (.ref b :: st).map (zv V)) (by rw [zcat_sum]; exact hroom)) hd ⟨hk, hs⟩
  exact z_run run hS fun H1 locs1 hP1 hS1 => kk H1 locs1 sls hP1 hS1 hL
end ZCT
-- heaps as lists
def hL (es : List zE) : Nat → zE := fun q => (es[q]?).getD (zI 0 (fun _ => 0))
theorem hL_at {p l : List zE} {b j : Nat} {e : zE} (hp : p.length = b) (hl : l[j]? = some e) : hL (p ++ l) (b + j) = e := by
  subst hp
  unfold hL
  rw [List.getElem?_append_right (by omega), Nat.add_sub_cancel_left, hl]
  rfl
theorem hL_push {p l : List zE} {b j : Nat} {x : zE} (hp : p.length = b) (hl : l.length = j) : zup (hL (p ++ l)) (b + j) x = hL (p ++ (l ++ [x])) := by
  subst hp hl
  funext q
  rw [← List.append_assoc, ← List.length_append]
  by_cases hq : q = (p ++ l).length
  · subst hq
    rw [zup_s, hL, List.getElem?_append_right (by omega), Nat.sub_self]
    rfl
  · rw [zup_n hq]
    unfold hL
    by_cases h2 : q < (p ++ l).length
    · rw [List.getElem?_append_left h2]
    · rw [List.getElem?_eq_none (by omega), List.getElem?_eq_none (by simp only [List.length_append, List.length_cons, List.length_nil] at *; omega)]
theorem hL_set {p l : List zE} {b j : Nat} {x : zE} (hp : p.length = b) (hl : j < l.length) : zup (hL (p ++ l)) (b + j) x = hL (p ++ l.set j x) := by
  subst hp
  funext q
  by_cases hq : q = p.length + j
  · subst hq
    rw [zup_s, hL_at rfl (e := x) (by rw [List.getElem?_set_self hl])]
  · rw [zup_n hq]
    unfold hL
    by_cases h2 : q < p.length
    · rw [List.getElem?_append_left h2, List.getElem?_append_left h2]
    · rw [List.getElem?_append_right (by omega), List.getElem?_append_right (by omega), List.getElem?_set_ne (by omega)]
def zLq : List zE → List zE → Prop
  | [], [] => True
  | a :: l, b :: r => zeq a b ∧ zLq l r
  | _, _ => False
theorem zLq_at : ∀ {l r : List zE}, zLq l r → ∀ q : Nat, zeq ((l[q]?).getD (zI 0 (fun _ => 0))) ((r[q]?).getD (zI 0 (fun _ => 0))) := by
  intro l
  induction l with
  | nil =>
    intro r h q
    cases r with
    | nil => exact Or.inl rfl
    | cons b r => exact absurd h (by simp [zLq])
  | cons a l ih =>
    intro r h q
    cases r with
    | nil => exact absurd h (by simp [zLq])
    | cons b r =>
      cases q with
      | zero => exact h.1
      | succ q => exact ih h.2 q
theorem hL_zH {p l r : List zE} {n : Nat} (h : zLq l r) : zH n (hL (p ++ l)) (hL (p ++ r)) := by
  intro q hq
  unfold hL
  by_cases h2 : q < p.length
  · rw [List.getElem?_append_left h2, List.getElem?_append_left h2]
    exact Or.inl rfl
  · rw [List.getElem?_append_right (by omega), List.getElem?_append_right (by omega)]
    exact zLq_at h _
