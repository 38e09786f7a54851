-- CONTRACTS THAT TELL THE HEAP BEHIND BY A PROPERTY
def zPostx (V : zG) (r : Option Value) (P : (Nat → zE) → Prop) (n' : Nat) : Array Value → State → Outcome → State → Prop := fun _ st o t => o = .returned (r.map (zv V)) ∧ (∃ h', P h' ∧ zP V h' n' t.heap) ∧ va_F (zF V) st t
def zMx (d : Nat) (M : zY) (as : List Value) (h : Nat → zE) (n : Nat) (r : Option Value) (P : (Nat → zE) → Prop) : Prop :=
  ∀ (l : Launch) (V : zG), Met l M.1 (zWs M) (zRm d 0 0) (va_Pc (as.map (zv V)) (fun U => zP V h n U.heap ∧ zK V U)) (zPostx V r P n) 0 0 (zF V)
def zQx (Wf : zW) (V : zG) (m : MethodId) (H0 : Heap) (cc : ByteArray) (ret : Option FieldType) (r : Option Value) (P : (Nat → zE) → Prop) (n' : Nat) : Prop :=
  ∃ (p : Program) (l : Launch) (e : Env) (R : Room) (s : State) (args : Array Value) (below : List Frame) (meth : Method) (c : Code),
    Wf = (fun H locs k sl g => W p l e R s m args below meth c H locs k sl (MQ below (zPostx V r P n') args s 0 0 (zF V)) g) ∧ p.tables.exec = Jvm.exec ∧ c.code = cc ∧ meth.sig.returnType = ret ∧ meth.locks = false ∧ H0 = s.heap
theorem zMx.intro {d : Nat} {M : zY} {as : List Value} {h : Nat → zE} {n : Nat} {r : Option Value} {P : (Nat → zE) → Prop} (hy : plainName M.1.cls = true) (hsz : (lg_sl as).length ≤ M.2.2.1)
    (body : ∀ (Wf : zW) (V : zG) (m : MethodId) (H0 : Heap), zC Wf V m M.2.2.1 H0 M.2.1 M.1.cls d 0 0 → zQx Wf V m H0 M.2.1 M.2.2.2 r P n → zX Wf V m M.2.2.1 H0 0 (zls (lv_args 0 as)) [] h n 0 0) : zMx d M as h n r P := by
  intro l V
  refine Met.ofW (cc := M.2.1) (maxL := M.2.2.1) (ret := M.2.2.2) hy rfl ?_
  intro p e s m args below meth c s₁ B hml hv
  obtain ⟨rfl, hP, hK⟩ := hv
  have hx := B.exec
  have hb := B.bytes
  have hr := B.returns
  have hts := atoms_spec (ws := zWs M) B.pre
  have hown : s.vm.findClass M.1.cls = some m.cls := findClass_of_methodNamed B.named
  have hlocks := B.notSynchronized
  have hl := lv_entry (as.map (zv V)) (n := M.2.2.1) (by rw [lg_map]; exact hsz)
  rw [lg_entry_eq]
  generalize (lg_sl (as.map (zv V)) ++ List.replicate (M.2.2.1 - (lg_sl (as.map (zv V))).length) Slot.unset).toArray = ls at hl ⊢
  refine body (fun H locs k sl g => W p l e (zRm d 0 0) s m (as.map (zv V)).toArray below meth c H locs k sl (MQ below (zPostx V r P n) (as.map (zv V)).toArray s 0 0 (zF V)) g) V m s.heap
    ⟨p, l, e, _, s, _, below, meth, c, _, rfl, hx, hb, hml, hown, fun w hw => hts w (List.mem_cons_of_mem _ hw), rfl, hK, Nat.le_refl _, Nat.le_refl _, rfl, rfl⟩
    ⟨p, l, e, _, s, _, below, meth, c, rfl, hx, hb, hr, hlocks, rfl⟩ s.heap [] ls hP va_S.rf ⟨hl.1, hl.2.1, fun i v hv => ?_⟩
  have h1 := zls_mem _ _ _ hv
  rw [lv_args_map] at hl
  exact hl.2.2 (i, zv V v) (List.mem_map.mpr ⟨(i, v), h1, rfl⟩)
section ZCX
variable {Wf : zW} {V : zG} {m : MethodId} {nL : Nat} {H0 : Heap} {cc : ByteArray} {own : String} {lv Rc Rs : Nat} {pc : Nat} {f : Nat → Option Value} {st : List Value} {h : Nat → zE} {n k sl : Nat}
theorem x_iretx {ret : Option FieldType} {r : Option Value} {P : (Nat → zE) → Prop} {v : Int32} {ty : FieldType} (ρ : zQx Wf V m H0 cc ret r P n) (hr : ret = some ty) (hd : decode cc pc = .ok (.ireturn, 1)) (hn : narrow ty (.int v) = .int v) (hv : r = some (.int v)) (hh : P h) : zX Wf V m nL H0 pc f [.int v] h n 0 0 := by
  obtain ⟨p, l, e, R, s, args, below, meth, c, rfl, hx, hb, hrt, hlk, rfl⟩ := ρ
  subst hv hr
  exact fun H locs sls hP hS hL => W.zret hx hb hrt hn (fun t ht hW => ⟨rfl, ⟨h, hh, by rw [ht]; exact hP⟩, hS.F ht⟩) hS.2.2 hd hlk
theorem x_lretx {r : Option Value} {P : (Nat → zE) → Prop} {v : Int64} (ρ : zQx Wf V m H0 cc (some .long) r P n) (hd : decode cc pc = .ok (.lreturn, 1)) (hv : r = some (.long v)) (hh : P h) : zX Wf V m nL H0 pc f [.long v] h n 0 0 := by
  obtain ⟨p, l, e, R, s, args, below, meth, c, rfl, hx, hb, hrt, hlk, rfl⟩ := ρ
  subst hv
  exact fun H locs sls hP hS hL => W.lret hx hb hrt (fun t ht hW => ⟨rfl, ⟨h, hh, by rw [ht]; exact hP⟩, hS.F ht⟩) hS.2.2 hd hlk
theorem z_runx {p : Program} {l : Launch} {e : Env} {R : Room} {s : State} {args : Array Value} {below : List Frame} {meth : Method} {c : Code} {Q : State → Prop} {H : Heap} {locs : List Loc} {sls : Array Slot} {st0 rest : List Value} {mc ms : Nat} {r : Option Value} {P : (Nat → zE) → Prop} {n' : Nat} {aa : Array Value}
    (hr : va_Run p l e R s m args below meth c H locs k sl mc ms (F0 m pc sls st0) rest (zPostx V r P n' aa) (zF V)) (hS : va_S (zF V) H0 H locs)
    (kk : ∀ (h' : Nat → zE) (H1 : Heap) (locs1 : List Loc), P h' → zP V h' n' H1 → va_S (zF V) H0 H1 locs1 → W p l e R s m args below meth c H1 locs1 (k + mc) (sl + ms) Q (F0 m (pc + 3) sls ((r.map (zv V)).toList ++ rest))) : W p l e R s m args below meth c H locs k sl Q (F0 m pc sls st0) := by
  intro T hT X
  obtain ⟨v, st₀, t, T', L, h0, X', hL, e1, e2, ⟨hv, ⟨h', hh, hp⟩, hz, hk⟩, stp⟩ := hr T hT X
  cases hv
  rw [h0] at hz hk
  obtain ⟨t2, a1, b1⟩ := kk h' T'.heap (locs ++ L) hh (by rw [e1]; exact hp) ⟨Nat.le_trans hS.1 (by rw [e1]; exact hz), fun q h1 h2 => by rw [e1, hk q (Nat.lt_of_lt_of_le h1 hS.1) h2]; exact hS.2.1 q h1 h2, fun q hq => by
      rcases List.mem_append.mp hq with h | h
      · exact hS.2.2 q h
      · exact hL q h⟩ T' rfl X'
  exact ⟨t2, stp t2 a1, b1⟩
theorem x_callVx (Γ : zC Wf V m nL H0 cc own lv Rc Rs) {M : zY} {na d i b ci : Nat} {As fs st0 : List Value} {v : Value} {P : (Nat → zE) → Prop} {q : vw_C} (cal : zCalV M na) (wl : Cond.methodLink own i M.1 ∈ zw) (hd : decode cc pc = .ok (.invokevirtual i, 3)) (hM : zMx d M (.ref b :: As) h n (some v) P) (hna : As.length = na) (hlv2 : d + 1 ≤ lv)
    (hq : b < n) (he : h b = zO ci fs) (hC : vwCl[ci]? = some q) (hCn : q.1 = M.1.cls) (hst : st0 = As.reverse ++ .ref b :: st) (hroom : (st.map fun v => v.category).sum ≤ 8) (hk : k ≤ Rc) (hs : sl ≤ Rs) (kk : ∀ h' : Nat → zE, P h' → zX Wf V m nL H0 (pc + 3) f (v :: st) h' n k sl) : zX Wf V m nL H0 pc f st0 h n k sl := by
  obtain ⟨p, l, e, R, s, args, below, meth, c, Q, rfl, hx, hb, hml, hown, hts, hh0, hK, hlv, hlo, hRc, hRs⟩ := Γ
  subst hst hh0 hRc hRs
  intro H locs sls hP hS hL
  obtain ⟨⟨hc1, hc2, hc3, hc4⟩, hi1, hi2⟩ := cal
  have hg := zGood M hc1
  have h1 := zP_one hP hq
  rw [he] at h1
  have hrc := va_recv (q0 := 0) hK.1 h1 hC rfl
  rw [hCn] at hrc
  have run := va_runV (l := l) (e := e) (below := below) (meth := meth) (As := As.map (zv V)) (rest := st.map (zv V)) (b := za V b) (g := F0 m pc sls ((As.reverse ++ .ref b :: st).map (zv V))) (locs := locs) (cells := k) (slots := sl) ⟨hx, hb, hml, hown, hts⟩ (hM l V)
    (show CallW R s args own M.1.cls i M.1 M.2.1 M.2.2.1 M.2.2.2 (zWs M) (zRm d 0 0) 0 0 na from ⟨callB_of na hts hg rfl rfl rfl (hts _ hc2) (hts _ wl) hc3 ⟨Nat.le_trans hlv2 hlv, by show 8 + (M.2.2.1 + 11) + 32 * d ≤ R.locals; omega⟩, hts _ hi1, hts _ hi2⟩)
    ⟨zBlind, hrc, fun U hU hW => ⟨rfl, by rw [hU]; exact hP, zK_moved hW (by rw [hU]; exact Nat.le_trans hK.2.1 hS.1) (by rw [hU]; exact hS.2.1) hK⟩⟩ rfl (by rw [List.length_map]; exact hna) hL.1 (by simp [zv]) (lv_room (pc := pc) (ls := sls) (rest := (As.reverse ++ .ref b :: st).map (zv V)) (by rw [zcat_sum]; exact hroom)) hd ⟨hk, hs⟩
  refine z_runx run hS fun h' H1 locs1 hh hP1 hS1 => ?_
  exact kk h' hh H1 locs1 sls hP1 hS1 hL
end ZCX
/-- the class's world behind a call: what the trial city and the tape's reader hold is nobody's -/
def cQ (g : Nat → zE) (T T3 R : zT) (h : Nat → zE) : Prop := ∃ (T2 : zT) (X : Nat → Int32), h = cW g T T2 T3 R X
theorem cQ_i {g : Nat → zE} {T T' T2 T3 T3' R R' : zT} {X : Nat → Int32} (hT : T = T') (h3 : T3 = T3') (hR : visR R R') : cQ g T' T3' R' (cW g T T2 T3 R X) := ⟨T2, X, by rw [hT, h3, cW_vis hR]⟩
theorem vis_rf {R : zT} : visR R R := ⟨fun _ _ _ => rfl, rfl, rfl⟩
theorem vis_e {R R' : zT} (h : R = R') : visR R R' := h ▸ vis_rf
theorem vis_sy {R R' : zT} (h : visR R R') : visR R' R := ⟨fun a h1 h2 => (h.1 a h1 h2).symm, h.2.1.symm, h.2.2.symm⟩
theorem vis_tr {R R' S : zT} (h : visR R R') (h2 : visR R' S) : visR R S := ⟨fun a h1 h3 => (h.1 a h1 h3).trans (h2.1 a h1 h3), h.2.1.trans h2.2.1, h.2.2.trans h2.2.2⟩
theorem vis_1 {R : zT} {x : Nat → Int32} : visR R (tr R 1 x) := ⟨fun a h1 h2 => (tr_n (by omega)).symm, by rw [tr_n (by decide)], by rw [tr_n (by decide)]⟩
theorem vis_7 {R : zT} {k : Nat} {v : Int32} (h0 : k ≠ 0) (h3 : k ≠ 3) : visR R (ts R 7 k v) := ⟨fun a h1 h2 => (ts_n (by omega)).symm, (ts_i h0.symm).symm, (ts_i h3.symm).symm⟩
theorem vis_R {T R : zT} {k : Nat} {v : Int32} {N K : Nat} : visR R (trR T R k v N K) := vis_tr vis_1 (vis_tr (vis_7 (by decide) (by decide)) (vis_7 (by decide) (by decide)))
theorem vis_f {R R' : zT} (h : visR R R') (f : Nat) : visR (fR R f) (fR R' f) := by
  unfold fR
  by_cases hf : f < 7
  · rw [if_pos hf, if_pos hf, h.1 2 (by omega) (by omega)]
    refine ⟨fun a h1 h2 => ?_, by rw [ts_n (by decide), ts_n (by decide)]; exact h.2.1, by rw [ts_n (by decide), ts_n (by decide)]; exact h.2.2⟩
    by_cases ha : a = 2
    · subst ha
      rw [ts, ts, tr_s, tr_s, h.1 2 (by omega) (by omega)]
    · rw [ts_n ha, ts_n ha, h.1 a h1 h2]
  · rw [if_neg hf, if_neg hf]
    exact h
theorem vis_Cf {T R : zT} {f : Nat} : visR (fR R f) (gCf T R f) := by
  unfold gCf
  by_cases h : f = 7
  · rw [if_pos h, h]
    exact vis_1
  · rw [if_neg h]
    exact vis_rf
theorem vis_W {T R : zT} {f : Nat} : visR (fR R f) (fW T R f) := by
  unfold fW
  by_cases h : f = 7
  · rw [if_pos h, h]
    exact vis_1
  · rw [if_neg h]
    exact vis_rf
theorem vis_Sta {T R : zT} {N f : Nat} {n : Int32} : visR (fR R f) (gSta T R N f n) := by
  unfold gSta
  by_cases h : f = 7
  · rw [if_pos h, h]
    exact vis_tr vis_R vis_R
  · rw [if_neg h]
    exact vis_rf
theorem vis_Law {T R : zT} {N f : Nat} {n : Int32} : visR (fR R f) (gLaw T R N f n) := by
  unfold gLaw
  by_cases h : f = 7
  · rw [if_pos h, h]
    exact vis_tr vis_R vis_1
  · rw [if_neg h]
    exact vis_rf
theorem vis_pH {T R : zT} {j N K v0 c : Nat} : visR R (rpH T R j N K v0 c) := by
  unfold rpH
  split
  · exact vis_rf
  · exact vis_R
theorem vis_Ld {T R : zT} {N f : Nat} {n : Int32} : visR (fR R f) (gLd T R N f n) := by
  unfold gLd
  by_cases h : f = 7
  · rw [if_pos h, h]
    exact vis_pH
  · rw [if_neg h]
    exact vis_rf
theorem vis_Rp {T R : zT} {j N : Nat} {n : Int32} {a v0 : Nat} : visR (fR R (fRp T j N n a v0)) (gRp T R j N n a v0) := by
  unfold gRp
  by_cases h : fRp T j N n a v0 = 7
  · rw [if_pos h, h]
    exact vis_pH
  · rw [if_neg h]
    by_cases h3 : fRp T j N n a v0 = 3
    · rw [if_pos h3, h3]
      exact vis_f vis_pH 3
    · rw [if_neg h3]
      exact vis_rf
theorem vis_Rio {T R : zT} {N : Nat} : visR (fR R (fRio T N)) (gRio T R N) := by
  unfold gRio
  by_cases h : fRio T N = 4
  · rw [if_pos h, h]
    exact vis_rf
  · rw [if_neg h]
    exact vis_f vis_1 _
theorem vis_chR {T R : zT} {N K : Nat} : ∀ i, visR R (chR T R N K i) := by
  intro i
  induction i with
  | zero => exact vis_rf
  | succ i ih =>
    rw [chR]
    split
    · exact ih
    · exact vis_tr ih vis_R
theorem vis_Che {T R : zT} {N : Nat} {n : Int32} : visR (fR R (fChe T N n)) (gChe T R N n) := by
  unfold gChe
  by_cases h : inR n 1 60 = true ∧ ¬ 999 < T 7 5 + n
  · rw [if_pos h]
    by_cases h0 : 0 ≤ (chS T N (ci n) 121).1
    · rw [if_pos h0, show fChe T N n = 7 from by unfold fChe; rw [if_pos h.1, if_neg h.2, if_pos h0]]
      exact vis_chR _
    · rw [if_neg h0, show fChe T N n = 3 from by unfold fChe; rw [if_pos h.1, if_neg h.2, if_neg h0]]
      exact vis_f (vis_chR _) 3
  · rw [if_neg h]
    exact vis_rf
