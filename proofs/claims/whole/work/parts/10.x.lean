-- THE SIMPLE MACHINE: places instead of addresses; a heap is a function from places to cells
abbrev zE : Type := (Nat × List Value) ⊕ ((Nat × (Nat → Int32)) ⊕ (Nat × (Nat → Option Nat)))
abbrev zO (c : Nat) (fs : List Value) : zE := .inl (c, fs)
abbrev zI (n : Nat) (f : Nat → Int32) : zE := .inr (.inl (n, f))
abbrev zR (n : Nat) (f : Nat → Option Nat) : zE := .inr (.inr (n, f))
/-- base, addresses of what lies outside (strings, tables), the classes, the classes of int[] and Sheet[] -/
abbrev zG : Type := Nat × (Nat → Nat) × va_G × ClassId × ClassId
def za (V : zG) (k : Nat) : Nat := if k < 1000 then V.1 + k else V.2.1 k
def zv (V : zG) (v : Value) : Value := match v with
  | .ref k => .ref (za V k)
  | .int x => .int x
  | .long x => .long x
  | .float x => .float x
  | .double x => .double x
  | .null => .null
  | .retAddr x => .retAddr x
def ze (V : zG) (e : zE) : va_E := match e with
  | .inl (c, fs) => .inr (c, fs.map (zv V))
  | .inr (.inl (n, f)) => .inl (V.2.2.2.1, n, .inl f)
  | .inr (.inr (n, f)) => .inl (V.2.2.2.2, n, .inr (.inr (.inr (.inr (fun i => (f i).map (za V))))))
def zP (V : zG) (h : Nat → zE) (n : Nat) (H : Heap) : Prop := H.size = V.1 + n ∧ n ≤ 1000 ∧ ∀ k, k < n → va_at V.2.2.1 vwCl (V.1 + k, ze V (h k)) H
def zF (V : zG) : Nat → Prop := fun q => V.1 ≤ q
/-- the locals that are known -/
def zL (V : zG) (sls : Array Slot) (nL : Nat) (f : Nat → Option Value) : Prop := sls.size = nL ∧ lv_wf sls ∧ ∀ i v, f i = some v → sls[i]? = some (.val (zv V v))
abbrev zW : Type := Heap → List Loc → Nat → Nat → JFrame → Prop
/-- the machine comes to its end from here -/
def zX (Wf : zW) (V : zG) (m : MethodId) (nL : Nat) (H0 : Heap) (pc : Nat) (f : Nat → Option Value) (st : List Value) (h : Nat → zE) (n k sl : Nat) : Prop :=
  ∀ (H : Heap) (locs : List Loc) (sls : Array Slot), zP V h n H → va_S (zF V) H0 H locs → zL V sls nL f → Wf H locs k sl (F0 m pc sls (st.map (zv V)))
/-- strings: own class, pool entry, text, bytes -/
def zTx : List (String × Nat × String × List Int32) := [(RX2, 67, "widow", [119, 105, 100, 111, 119]), (RX2, 69, "fan", [102, 97, 110]), (RX2, 71, "claque", [99, 108, 97, 113, 117, 101]), (RX2, 73, "hungry", [104, 117, 110, 103, 114, 121]), (RX2, 75, "seller", [115, 101, 108, 108, 101, 114]), (RX2, 77, "boy", [98, 111, 121]), (RX2, 79, "citizen", [99, 105, 116, 105, 122, 101, 110]), (RX3, 317, "hunger", [104, 117, 110, 103, 101, 114]), (RX3, 322, "colour", [99, 111, 108, 111, 117, 114]), (RX3, 324, "coin", [99, 111, 105, 110]), (RX3, 325, "loaf", [108, 111, 97, 102]), (RX3, 327, "seat", [115, 101, 97, 116]), (RX3, 302, "loaves", [108, 111, 97, 118, 101, 115]), (RX3, 310, "seats", [115, 101, 97, 116, 115]), (RX3, 311, "bound", [98, 111, 117, 110, 100]), (RX3, 313, "leads", [108, 101, 97, 100, 115]), (RX3, 314, "stale", [115, 116, 97, 108, 101]), (RX3, 315, "fresh", [102, 114, 101, 115, 104]), (RX4, 235, "citizen", [99, 105, 116, 105, 122, 101, 110]), (RX4, 237, "widow", [119, 105, 100, 111, 119]), (RX4, 239, "fan", [102, 97, 110]), (RX4, 241, "claque", [99, 108, 97, 113, 117, 101]), (RX4, 243, "hungry", [104, 117, 110, 103, 114, 121]), (RX4, 244, "seller", [115, 101, 108, 108, 101, 114]), (RX4, 246, "boy", [98, 111, 121]), (RX4, 248, "hunger", [104, 117, 110, 103, 101, 114]), (RX4, 255, "colour", [99, 111, 108, 111, 117, 114]), (RX4, 257, "coin", [99, 111, 105, 110]), (RX4, 259, "loaf", [108, 111, 97, 102]), (RX4, 261, "seat", [115, 101, 97, 116]), (RX4, 277, "stale", [115, 116, 97, 108, 101]), (RX4, 279, "fresh", [102, 114, 101, 115, 104]), (RX4, 263, "loaves", [108, 111, 97, 118, 101, 115]), (RX4, 265, "seats", [115, 101, 97, 116, 115]), (RX4, 267, "bound", [98, 111, 117, 110, 100]), (RX4, 269, "leads", [108, 101, 97, 100, 115])]
def zKA (j : Nat) : Int32 := match j with
  | 0 => -1
  | 1 => 0
  | 2 => 0
  | 3 => 2
  | 4 => 1
  | 5 => 0
  | _ => 5
def zS (A : Nat → Prop) (q : String × Nat × String × List Int32) (a b : Nat) (U : State) : Prop := vk_R q.1 q.2.1 q.2.2.1 a U ∧ va_O "java/lang/String" a A U U.heap ∧ va_OF "java/lang/String" "coder" "B" (.int 0) a A U U.heap ∧ va_OF "java/lang/String" "value" "[B" (.ref b) a A U U.heap ∧ va_T .byte b q.2.2.2.length (fun j => .int (q.2.2.2.getD j 0)) A U U.heap
def zZ (V : zG) (U : State) : Prop := (∀ i q, zTx[i]? = some q → zS (zF V) q (V.2.1 (1000 + i)) (V.2.1 (2000 + i)) U) ∧
  va_Z "BreadGames" "KIND_ABOVE" "[I" (.ref (V.2.1 3000)) (zF V) U U.heap ∧ va_T .int (V.2.1 3000) 7 (fun j => .int (zKA j)) (zF V) U U.heap ∧ va_Z "java/lang/String" "COMPACT_STRINGS" "Z" (.int 1) (zF V) U U.heap ∧
  va_Nw (.methodLinkNest RX3 24 yX2_init RX3) U ∧ va_Nw (.methodLinkNest RX3 35 yX1_init RX3) U ∧ va_Nw (.methodLinkNest RX0 67 yX3_isKind RX3) U ∧ va_AO RX1 U ∧
  (va_Z "jdk/internal/util/Preconditions" "SIOOBE_FORMATTER" "Ljava/util/function/BiFunction;" .null (zF V) U U.heap ∨ va_Z "jdk/internal/util/Preconditions" "SIOOBE_FORMATTER" "Ljava/util/function/BiFunction;" (.ref (V.2.1 4000)) (zF V) U U.heap)
def zK (V : zG) (s : State) : Prop := va_K V.2.2.1 vwCl [(V.2.2.2.1, .int), (V.2.2.2.2, .object RX1)] s ∧ V.1 ≤ s.heap.size ∧ zZ V s
theorem zS_moved {A : Nat → Prop} {q : String × Nat × String × List Int32} {a b : Nat} {u U : State} (hW : u.WarmedH U.vm) (hq : ∀ a : Nat, a < u.heap.size → ¬ A a → U.heap[a]? = u.heap[a]?) (h : zS A q a b u) : zS A q a b U :=
  ⟨h.1.warm hW, (h.2.1.moved hW.alike).kept hq, (h.2.2.1.moved hW.alike).kept hq, (h.2.2.2.1.moved hW.alike).kept hq, (h.2.2.2.2.moved hW.alike).kept hq⟩
theorem zZ_moved {V : zG} {u U : State} (hW : u.WarmedH U.vm) (hq : ∀ a : Nat, a < u.heap.size → ¬ zF V a → U.heap[a]? = u.heap[a]?) (h : zZ V u) : zZ V U :=
  ⟨fun i q hi => zS_moved hW hq (h.1 i q hi), (h.2.1.moved hW.alike).kept hq, (h.2.2.1.moved hW.alike).kept hq, (h.2.2.2.1.moved hW.alike).kept hq, va_Nw.warmM hW h.2.2.2.2.1, va_Nw.warmM hW h.2.2.2.2.2.1, va_Nw.warmM hW h.2.2.2.2.2.2.1, h.2.2.2.2.2.2.2.1.moved hW.alike, h.2.2.2.2.2.2.2.2.imp (fun z => (z.moved hW.alike).kept hq) (fun z => (z.moved hW.alike).kept hq)⟩
theorem zK_moved {V : zG} {u U : State} (hW : u.WarmedH U.vm) (hsz : V.1 ≤ U.heap.size) (hq : ∀ a : Nat, a < u.heap.size → ¬ zF V a → U.heap[a]? = u.heap[a]?) (hK : zK V u) : zK V U := ⟨va_K.moved hW.alike hK.1, hsz, zZ_moved hW hq hK.2.2⟩
/-- the method that stands there -/
def zC (Wf : zW) (V : zG) (m : MethodId) (nL : Nat) (H0 : Heap) (cc : ByteArray) (own : String) (lv Rc Rs : Nat) : Prop :=
  ∃ (p : Program) (l : Launch) (e : Env) (R : Room) (s : State) (args : Array Value) (below : List Frame) (meth : Method) (c : Code) (Q : State → Prop),
    Wf = (fun H locs k sl g => W p l e R s m args below meth c H locs k sl Q g) ∧ p.tables.exec = Jvm.exec ∧ c.code = cc ∧ c.maxLocals = nL ∧ s.vm.findClass own = some m.cls ∧ (∀ w ∈ zw, w.before args s = true) ∧ H0 = s.heap ∧ zK V s ∧ lv ≤ R.frames ∧ 32 * lv ≤ R.locals ∧ R.cells = Rc ∧ R.slots = Rs
def zst (f : Nat → Option Value) (i : Nat) (v : Value) : Nat → Option Value := fun j => bif j == i then some v else (match f j with
  | some w => bif (j + 1 == i && w.category == 2) then none else some w
  | none => none)
def zst2 (f : Nat → Option Value) (i : Nat) (v : Value) : Nat → Option Value := fun j => bif j == i then some v else bif j == i + 1 then none else (match f j with
  | some w => bif (j + 1 == i && w.category == 2) then none else some w
  | none => none)
theorem zv_cat (V : zG) (v : Value) : (zv V v).category = v.category := by cases v <;> rfl
theorem zL_one {V : zG} {sls : Array Slot} {nL : Nat} {f : Nat → Option Value} (h : zL V sls nL f) {i : Nat} {v : Value} (hi : f i = some v) : lv_has sls nL [(i, zv V v)] := ⟨h.1, h.2.1, fun q hq => by
  rw [List.mem_singleton] at hq
  subst hq
  exact h.2.2 i v hi⟩
theorem zL_store1 {V : zG} {sls : Array Slot} {nL : Nat} {f : Nat → Option Value} {i : Nat} {v : Value} (h : zL V sls nL f) (hi : i < nL) (hc : v.category = 1) : ∃ ls', storeLocals sls i (zv V v) = some ls' ∧ zL V ls' nL (zst f i v) := by
  obtain ⟨ls', e', h'⟩ := lv_store1 (l := []) (v := zv V v) ⟨h.1, h.2.1, fun q hq => by cases hq⟩ hi (by rw [zv_cat]; exact hc)
  refine ⟨ls', e', h'.1, h'.2.1, fun j w hj => ?_⟩
  unfold zst at hj
  by_cases hji : j = i
  · subst hji
    simp only [beq_self_eq_true, cond_true] at hj
    cases hj
    exact h'.2.2 (j, zv V v) List.mem_cons_self
  · have e0 : (j == i) = false := by simpa using hji
    rw [e0, cond_false] at hj
    cases hf : f j with
    | none => rw [hf] at hj; cases hj
    | some w' =>
      rw [hf] at hj
      simp only at hj
      cases hb : (j + 1 == i && w'.category == 2) with
      | true => rw [hb] at hj; cases hj
      | false =>
        rw [hb] at hj
        cases hj
        obtain ⟨ls2, e2, h2⟩ := lv_store1 (v := zv V v) (zL_one h hf) hi (by rw [zv_cat]; exact hc)
        have : ls2 = ls' := Option.some.inj (e2.symm.trans e')
        subst this
        exact h2.2.2 (j, zv V w) (List.mem_cons_of_mem _ (List.mem_filter.mpr ⟨List.mem_singleton.mpr rfl, by simp only [e0, zv_cat, hb]; rfl⟩))
theorem zL_store2 {V : zG} {sls : Array Slot} {nL : Nat} {f : Nat → Option Value} {i : Nat} {v : Value} (h : zL V sls nL f) (hi : i + 1 < nL) (hc : v.category = 2) : ∃ ls', storeLocals sls i (zv V v) = some ls' ∧ zL V ls' nL (zst2 f i v) := by
  obtain ⟨ls', e', h'⟩ := lv_store2 (l := []) (v := zv V v) ⟨h.1, h.2.1, fun q hq => by cases hq⟩ hi (by rw [zv_cat]; exact hc)
  refine ⟨ls', e', h'.1, h'.2.1, fun j w hj => ?_⟩
  unfold zst2 at hj
  by_cases hji : j = i
  · subst hji
    simp only [beq_self_eq_true, cond_true] at hj
    cases hj
    exact h'.2.2 (j, zv V v) List.mem_cons_self
  · have e0 : (j == i) = false := by simpa using hji
    rw [e0, cond_false] at hj
    cases hk : (j == i + 1) with
    | true => rw [hk] at hj; cases hj
    | false =>
      rw [hk, cond_false] at hj
      cases hf : f j with
      | none => rw [hf] at hj; cases hj
      | some w' =>
        rw [hf] at hj
        simp only at hj
        cases hb : (j + 1 == i && w'.category == 2) with
        | true => rw [hb] at hj; cases hj
        | false =>
          rw [hb] at hj
          cases hj
          obtain ⟨ls2, e2, h2⟩ := lv_store2 (v := zv V v) (zL_one h hf) hi (by rw [zv_cat]; exact hc)
          have : ls2 = ls' := Option.some.inj (e2.symm.trans e')
          subst this
          exact h2.2.2 (j, zv V w) (List.mem_cons_of_mem _ (List.mem_filter.mpr ⟨List.mem_singleton.mpr rfl, by simp only [e0, hk, zv_cat, hb]; rfl⟩))
section ZR
variable {Wf : zW} {V : zG} {m : MethodId} {nL : Nat} {H0 : Heap} {cc : ByteArray} {own : String} {lv Rc Rs : Nat} {pc : Nat} {f : Nat → Option Value} {st : List Value} {h : Nat → zE} {n k sl : Nat}
/-- fewer known locals -/
theorem x_sub {f' : Nat → Option Value} (hf : ∀ i v, f' i = some v → f i = some v) (kk : zX Wf V m nL H0 pc f' st h n k sl) : zX Wf V m nL H0 pc f st h n k sl :=
  fun H locs sls hP hS hL => kk H locs sls hP hS ⟨hL.1, hL.2.1, fun i v e => hL.2.2 i v (hf i v e)⟩
def zls (l : List (Nat × Value)) : Nat → Option Value := fun i => l.lookup i
theorem zls_sub {f : Nat → Option Value} : ∀ (l : List (Nat × Value)), (∀ q ∈ l, f q.1 = some q.2) → ∀ i v, zls l i = some v → f i = some v := by
  intro l hl i v hv
  unfold zls at hv
  induction l with
  | nil => cases hv
  | cons q l ih =>
    rw [List.lookup_cons] at hv
    cases e : (i == q.1) with
    | true =>
      rw [e] at hv
      cases hv
      rw [eq_of_beq e]
      exact hl q List.mem_cons_self
    | false =>
      rw [e] at hv
      exact ih (fun q hq => hl q (List.mem_cons_of_mem _ hq)) hv
theorem x_subl (l : List (Nat × Value)) (hl : ∀ q ∈ l, f q.1 = some q.2) (kk : zX Wf V m nL H0 pc (zls l) st h n k sl) : zX Wf V m nL H0 pc f st h n k sl := x_sub (zls_sub l hl) kk
theorem x_iconst (Γ : zC Wf V m nL H0 cc own lv Rc Rs) {z : Int} {v : Int32} (hd : decode cc pc = .ok (.iconst z, 1)) (hv : Int32.ofInt z = v) (kk : zX Wf V m nL H0 (pc + 1) f (.int v :: st) h n k sl) : zX Wf V m nL H0 pc f st h n k sl := by
  obtain ⟨p, l, e, R, s, args, below, meth, c, Q, rfl, hx, hb, -⟩ := Γ
  exact fun H locs sls hP hS hL => lv_iconst hx hb hd hv (kk H locs sls hP hS hL)
theorem x_bipush (Γ : zC Wf V m nL H0 cc own lv Rc Rs) {z : Int} {v : Int32} (hd : decode cc pc = .ok (.bipush z, 2)) (hv : (Int8.ofInt z).toInt32 = v) (kk : zX Wf V m nL H0 (pc + 2) f (.int v :: st) h n k sl) : zX Wf V m nL H0 pc f st h n k sl := by
  obtain ⟨p, l, e, R, s, args, below, meth, c, Q, rfl, hx, hb, -⟩ := Γ
  exact fun H locs sls hP hS hL => lv_bipush hx hb hd hv (kk H locs sls hP hS hL)
theorem x_sipush (Γ : zC Wf V m nL H0 cc own lv Rc Rs) {z : Int} {v : Int32} (hd : decode cc pc = .ok (.sipush z, 3)) (hv : (Int16.ofInt z).toInt32 = v) (kk : zX Wf V m nL H0 (pc + 3) f (.int v :: st) h n k sl) : zX Wf V m nL H0 pc f st h n k sl := by
  obtain ⟨p, l, e, R, s, args, below, meth, c, Q, rfl, hx, hb, -⟩ := Γ
  exact fun H locs sls hP hS hL => lv_sipush hx hb hd hv (kk H locs sls hP hS hL)
theorem x_lconst (Γ : zC Wf V m nL H0 cc own lv Rc Rs) {z : Fin 2} {v : Int64} (hd : decode cc pc = .ok (.lconst z, 1)) (hv : Int64.ofNat (z : Nat) = v) (kk : zX Wf V m nL H0 (pc + 1) f (.long v :: st) h n k sl) : zX Wf V m nL H0 pc f st h n k sl := by
  obtain ⟨p, l, e, R, s, args, below, meth, c, Q, rfl, hx, hb, -⟩ := Γ
  exact fun H locs sls hP hS hL => lv_lconst hx hb hd hv (kk H locs sls hP hS hL)
theorem x_iload_n (Γ : zC Wf V m nL H0 cc own lv Rc Rs) {j : Fin 4} {x : Int32} (hd : decode cc pc = .ok (.iload_n j, 1)) (hl : f j.val = some (.int x)) (kk : zX Wf V m nL H0 (pc + 1) f (.int x :: st) h n k sl) : zX Wf V m nL H0 pc f st h n k sl := by
  obtain ⟨p, l, e, R, s, args, below, meth, c, Q, rfl, hx, hb, -⟩ := Γ
  exact fun H locs sls hP hS hL => lv_iload_n hx hb hd rfl (hL.2.2 _ _ hl) (kk H locs sls hP hS hL)
theorem x_iload (Γ : zC Wf V m nL H0 cc own lv Rc Rs) {i : Nat} {x : Int32} (hd : decode cc pc = .ok (.iload i, 2)) (hl : f i = some (.int x)) (kk : zX Wf V m nL H0 (pc + 2) f (.int x :: st) h n k sl) : zX Wf V m nL H0 pc f st h n k sl := by
  obtain ⟨p, l, e, R, s, args, below, meth, c, Q, rfl, hx, hb, -⟩ := Γ
  exact fun H locs sls hP hS hL => lv_iload hx hb hd (hL.2.2 _ _ hl) (kk H locs sls hP hS hL)
theorem x_lload_n (Γ : zC Wf V m nL H0 cc own lv Rc Rs) {j : Fin 4} {x : Int64} (hd : decode cc pc = .ok (.lload_n j, 1)) (hl : f j.val = some (.long x)) (kk : zX Wf V m nL H0 (pc + 1) f (.long x :: st) h n k sl) : zX Wf V m nL H0 pc f st h n k sl := by
  obtain ⟨p, l, e, R, s, args, below, meth, c, Q, rfl, hx, hb, -⟩ := Γ
  exact fun H locs sls hP hS hL => lv_lload_n hx hb hd rfl (hL.2.2 _ _ hl) (kk H locs sls hP hS hL)
theorem x_lload (Γ : zC Wf V m nL H0 cc own lv Rc Rs) {i : Nat} {x : Int64} (hd : decode cc pc = .ok (.lload i, 2)) (hl : f i = some (.long x)) (kk : zX Wf V m nL H0 (pc + 2) f (.long x :: st) h n k sl) : zX Wf V m nL H0 pc f st h n k sl := by
  obtain ⟨p, l, e, R, s, args, below, meth, c, Q, rfl, hx, hb, -⟩ := Γ
  exact fun H locs sls hP hS hL => lv_lload hx hb hd (hL.2.2 _ _ hl) (kk H locs sls hP hS hL)
theorem x_aload_n (Γ : zC Wf V m nL H0 cc own lv Rc Rs) {j : Fin 4} {q : Nat} (hd : decode cc pc = .ok (.aload_n j, 1)) (hl : f j.val = some (.ref q)) (kk : zX Wf V m nL H0 (pc + 1) f (.ref q :: st) h n k sl) : zX Wf V m nL H0 pc f st h n k sl := by
  obtain ⟨p, l, e, R, s, args, below, meth, c, Q, rfl, hx, hb, -⟩ := Γ
  exact fun H locs sls hP hS hL => lv_aload_n hx hb hd rfl (hL.2.2 _ _ hl) (kk H locs sls hP hS hL)
theorem x_aload (Γ : zC Wf V m nL H0 cc own lv Rc Rs) {i : Nat} {q : Nat} (hd : decode cc pc = .ok (.aload i, 2)) (hl : f i = some (.ref q)) (kk : zX Wf V m nL H0 (pc + 2) f (.ref q :: st) h n k sl) : zX Wf V m nL H0 pc f st h n k sl := by
  obtain ⟨p, l, e, R, s, args, below, meth, c, Q, rfl, hx, hb, -⟩ := Γ
  exact fun H locs sls hP hS hL => lv_aload hx hb hd (hL.2.2 _ _ hl) (kk H locs sls hP hS hL)
theorem x_istore_n (Γ : zC Wf V m nL H0 cc own lv Rc Rs) {j : Fin 4} {x : Int32} (hd : decode cc pc = .ok (.istore_n j, 1)) (hn : j.val < nL) (kk : zX Wf V m nL H0 (pc + 1) (zst f j.val (.int x)) st h n k sl) : zX Wf V m nL H0 pc f (.int x :: st) h n k sl := by
  obtain ⟨p, l, e, R, s, args, below, meth, c, Q, rfl, hx, hb, -⟩ := Γ
  intro H locs sls hP hS hL
  obtain ⟨ls', e', h'⟩ := zL_store1 (v := .int x) hL hn rfl
  replace e' : storeLocals sls j.val (.int x) = some ls' := e'
  intro T hT X
  obtain ⟨t, a, b⟩ := kk H locs ls' hP hS h' T hT X
  refine ⟨t, ?_, b⟩
  show Steps p.tables e below (T.setTop (F0 m pc sls (.int x :: st.map (zv V)))) t
  jvm_step X.here [X.here.top, ↓top_set X.here.top, hx, hb, hd, e']
  exact a
theorem x_istore (Γ : zC Wf V m nL H0 cc own lv Rc Rs) {i : Nat} {x : Int32} (hd : decode cc pc = .ok (.istore i, 2)) (hn : i < nL) (kk : zX Wf V m nL H0 (pc + 2) (zst f i (.int x)) st h n k sl) : zX Wf V m nL H0 pc f (.int x :: st) h n k sl := by
  obtain ⟨p, l, e, R, s, args, below, meth, c, Q, rfl, hx, hb, -⟩ := Γ
  intro H locs sls hP hS hL
  obtain ⟨ls', e', h'⟩ := zL_store1 (v := .int x) hL hn rfl
  replace e' : storeLocals sls i (.int x) = some ls' := e'
  intro T hT X
  obtain ⟨t, a, b⟩ := kk H locs ls' hP hS h' T hT X
  refine ⟨t, ?_, b⟩
  show Steps p.tables e below (T.setTop (F0 m pc sls (.int x :: st.map (zv V)))) t
  jvm_step X.here [X.here.top, ↓top_set X.here.top, hx, hb, hd, e']
  exact a
theorem x_astore_n (Γ : zC Wf V m nL H0 cc own lv Rc Rs) {j : Fin 4} {q : Nat} (hd : decode cc pc = .ok (.astore_n j, 1)) (hn : j.val < nL) (kk : zX Wf V m nL H0 (pc + 1) (zst f j.val (.ref q)) st h n k sl) : zX Wf V m nL H0 pc f (.ref q :: st) h n k sl := by
  obtain ⟨p, l, e, R, s, args, below, meth, c, Q, rfl, hx, hb, -⟩ := Γ
  intro H locs sls hP hS hL
  obtain ⟨ls', e', h'⟩ := zL_store1 (v := .ref q) hL hn rfl
  replace e' : storeLocals sls j.val (.ref (za V q)) = some ls' := e'
  intro T hT X
  obtain ⟨t, a, b⟩ := kk H locs ls' hP hS h' T hT X
  refine ⟨t, ?_, b⟩
  show Steps p.tables e below (T.setTop (F0 m pc sls (.ref (za V q) :: st.map (zv V)))) t
  jvm_step X.here [X.here.top, ↓top_set X.here.top, hx, hb, hd, e']
  exact ⟨rfl, a⟩
theorem x_astore (Γ : zC Wf V m nL H0 cc own lv Rc Rs) {i : Nat} {q : Nat} (hd : decode cc pc = .ok (.astore i, 2)) (hn : i < nL) (kk : zX Wf V m nL H0 (pc + 2) (zst f i (.ref q)) st h n k sl) : zX Wf V m nL H0 pc f (.ref q :: st) h n k sl := by
  obtain ⟨p, l, e, R, s, args, below, meth, c, Q, rfl, hx, hb, -⟩ := Γ
  intro H locs sls hP hS hL
  obtain ⟨ls', e', h'⟩ := zL_store1 (v := .ref q) hL hn rfl
  replace e' : storeLocals sls i (.ref (za V q)) = some ls' := e'
  intro T hT X
  obtain ⟨t, a, b⟩ := kk H locs ls' hP hS h' T hT X
  refine ⟨t, ?_, b⟩
  show Steps p.tables e below (T.setTop (F0 m pc sls (.ref (za V q) :: st.map (zv V)))) t
  jvm_step X.here [X.here.top, ↓top_set X.here.top, hx, hb, hd, e']
  exact ⟨rfl, a⟩
theorem x_lstore_n (Γ : zC Wf V m nL H0 cc own lv Rc Rs) {j : Fin 4} {x : Int64} (hd : decode cc pc = .ok (.lstore_n j, 1)) (hn : j.val + 1 < nL) (kk : zX Wf V m nL H0 (pc + 1) (zst2 f j.val (.long x)) st h n k sl) : zX Wf V m nL H0 pc f (.long x :: st) h n k sl := by
  obtain ⟨p, l, e, R, s, args, below, meth, c, Q, rfl, hx, hb, -⟩ := Γ
  intro H locs sls hP hS hL
  obtain ⟨ls', e', h'⟩ := zL_store2 (v := .long x) hL hn rfl
  replace e' : storeLocals sls j.val (.long x) = some ls' := e'
  intro T hT X
  obtain ⟨t, a, b⟩ := kk H locs ls' hP hS h' T hT X
  refine ⟨t, ?_, b⟩
  show Steps p.tables e below (T.setTop (F0 m pc sls (.long x :: st.map (zv V)))) t
  jvm_step X.here [X.here.top, ↓top_set X.here.top, hx, hb, hd, e']
  exact a
theorem x_iinc (Γ : zC Wf V m nL H0 cc own lv Rc Rs) {i : Nat} {z : Int} {x v : Int32} (hd : decode cc pc = .ok (.iinc i z, 3)) (hl : f i = some (.int x)) (hv : x + Int32.ofInt z = v) (hn : i < nL) (kk : zX Wf V m nL H0 (pc + 3) (zst f i (.int v)) st h n k sl) : zX Wf V m nL H0 pc f st h n k sl := by
  obtain ⟨p, l, e, R, s, args, below, meth, c, Q, rfl, hx, hb, -⟩ := Γ
  subst hv
  intro H locs sls hP hS hL
  obtain ⟨ls', e', h'⟩ := zL_store1 (v := .int (x + Int32.ofInt z)) hL hn rfl
  replace e' : storeLocals sls i (.int (x + Int32.ofInt z)) = some ls' := e'
  have hg : sls[i]? = some (.val (.int x)) := hL.2.2 i _ hl
  intro T hT X
  obtain ⟨t, a, b⟩ := kk H locs ls' hP hS h' T hT X
  refine ⟨t, ?_, b⟩
  show Steps p.tables e below (T.setTop (F0 m pc sls (st.map (zv V)))) t
  jvm_step X.here [X.here.top, ↓top_set X.here.top, hx, hb, hd, hg, e']
  exact a
end ZR
