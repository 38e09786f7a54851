-- STRINGS: the JDK's length and charAt on the constants
def zq (i : Nat) : String × Nat × String × List Int32 := zTx.getD i ("", 0, "", [])
def byt (i : Nat) : List Int32 := (zq i).2.2.2
theorem zq_get : ∀ i, i < 36 → zTx[i]? = some (zq i) := by
  intro i hi
  unfold zq
  rw [List.getD_eq_getElem?_getD]
  cases h : zTx[i]? with
  | some q => rfl
  | none =>
    have := List.getElem?_eq_none_iff.mp h
    have e : zTx.length = 36 := by decide +kernel
    omega
theorem byt_ok : ∀ i : Fin 36, ∀ k : Fin 8, k.val < (byt i.val).length → ((((byt i.val).getD k.val 0 &&& 255).toUInt32 % 65536).toInt32 = (byt i.val).getD k.val 0 ∧ narrow .char (.int ((byt i.val).getD k.val 0)) = .int ((byt i.val).getD k.val 0)) := by decide +kernel
theorem byt_len : ∀ i : Fin 36, (byt i.val).length < 8 := by decide +kernel
theorem za_hi {V : zG} {k : Nat} (h : 1000 ≤ k) : za V k = V.2.1 k := if_neg (by omega)
section ZSTR
variable {Wf : zW} {V : zG} {m : MethodId} {nL : Nat} {H0 : Heap} {cc : ByteArray} {own : String} {lv Rc Rs : Nat} {pc : Nat} {f : Nat → Option Value} {st : List Value} {h : Nat → zE} {n k sl : Nat}
theorem x_lds (Γ : zC Wf V m nL H0 cc own lv Rc Rs) {i idx : Nat} (hi : i < 36) (ho : (zq i).1 = own) (hx2 : (zq i).2.1 = idx) (hd : decode cc pc = .ok (.ldc idx, 2)) (kk : zX Wf V m nL H0 (pc + 2) f (.ref (1000 + i) :: st) h n k sl) : zX Wf V m nL H0 pc f st h n k sl := by
  obtain ⟨p, l, e, R, s, args, below, meth, c, Q, rfl, hx, hb, hml, hown, hts, hh0, hK, hlv, hlo, hRc, hRs⟩ := Γ
  subst ho hx2
  intro H locs sls hP hS hL
  have hz := (hK.2.2.1 i _ (zq_get i hi)).1
  have k1 := kk H locs sls hP hS hL
  rw [List.map_cons, show zv V (.ref (1000 + i)) = .ref (V.2.1 (1000 + i)) from congrArg Value.ref (za_hi (by omega))] at k1
  exact va_ldcS hx hb hown hz hd k1
theorem x_ldsw (Γ : zC Wf V m nL H0 cc own lv Rc Rs) {i idx : Nat} (hi : i < 36) (ho : (zq i).1 = own) (hx2 : (zq i).2.1 = idx) (hd : decode cc pc = .ok (.ldc_w idx, 3)) (kk : zX Wf V m nL H0 (pc + 3) f (.ref (1000 + i) :: st) h n k sl) : zX Wf V m nL H0 pc f st h n k sl := by
  obtain ⟨p, l, e, R, s, args, below, meth, c, Q, rfl, hx, hb, hml, hown, hts, hh0, hK, hlv, hlo, hRc, hRs⟩ := Γ
  subst ho hx2
  intro H locs sls hP hS hL
  have hz := (hK.2.2.1 i _ (zq_get i hi)).1
  have k1 := kk H locs sls hP hS hL
  rw [List.map_cons, show zv V (.ref (1000 + i)) = .ref (V.2.1 (1000 + i)) from congrArg Value.ref (za_hi (by omega))] at k1
  intro T hT X
  obtain ⟨t, a1, b1⟩ := k1 T hT X
  exact ⟨t, X.ldcStringW hx hown hz.1 hz.2 (g := F0 m pc sls (st.map (zv V))) rfl (by rw [hb]; exact hd) t a1, b1⟩
theorem x_sgv (Γ : zC Wf V m nL H0 cc RJ0 lv Rc Rs) {i : Nat} (hi : i < 36) (hd : decode cc pc = .ok (.getfield 9, 3)) (kk : zX Wf V m nL H0 (pc + 3) f (.ref (2000 + i) :: st) h n k sl) : zX Wf V m nL H0 pc f (.ref (1000 + i) :: st) h n k sl := by
  obtain ⟨p, l, e, R, s, args, below, meth, c, Q, rfl, hx, hb, hml, hown, hts, hh0, hK, hlv, hlo, hRc, hRs⟩ := Γ
  subst hh0
  intro H locs sls hP hS hL
  obtain ⟨cf, kf, fi, fd, cell, h1, h2, h3, h4, h5, h6⟩ := ((hK.2.2.1 i _ (zq_get i hi)).2.2.2.1).kept hS.2.1
  have k1 := kk H locs sls hP hS hL
  rw [List.map_cons, show zv V (.ref (2000 + i)) = .ref (V.2.1 (2000 + i)) from congrArg Value.ref (za_hi (by omega))] at k1
  rw [List.map_cons, show zv V (.ref (1000 + i)) = .ref (V.2.1 (1000 + i)) from congrArg Value.ref (za_hi (by omega))]
  exact W.getf hx hb hown (hts _ wl_J0_9) h1 h2 h3 h4 (v := .ref (V.2.1 (2000 + i))) h5 rfl rfl hd k1
theorem x_sgc (Γ : zC Wf V m nL H0 cc RJ0 lv Rc Rs) {i : Nat} (hi : i < 36) (hd : decode cc pc = .ok (.getfield 15, 3)) (kk : zX Wf V m nL H0 (pc + 3) f (.int 0 :: st) h n k sl) : zX Wf V m nL H0 pc f (.ref (1000 + i) :: st) h n k sl := by
  obtain ⟨p, l, e, R, s, args, below, meth, c, Q, rfl, hx, hb, hml, hown, hts, hh0, hK, hlv, hlo, hRc, hRs⟩ := Γ
  subst hh0
  intro H locs sls hP hS hL
  obtain ⟨cf, kf, fi, fd, cell, h1, h2, h3, h4, h5, h6⟩ := ((hK.2.2.1 i _ (zq_get i hi)).2.2.1).kept hS.2.1
  have k1 := kk H locs sls hP hS hL
  rw [List.map_cons, show zv V (.ref (1000 + i)) = .ref (V.2.1 (1000 + i)) from congrArg Value.ref (za_hi (by omega))]
  exact W.getf hx hb hown (hts _ wl_J0_15) h1 h2 h3 h4 (v := .int 0) h5 rfl rfl hd k1
theorem x_sln (Γ : zC Wf V m nL H0 cc own lv Rc Rs) {i : Nat} (hi : i < 36) (hd : decode cc pc = .ok (.arraylength, 1)) (kk : zX Wf V m nL H0 (pc + 1) f (.int (nI (byt i).length) :: st) h n k sl) : zX Wf V m nL H0 pc f (.ref (2000 + i) :: st) h n k sl := by
  obtain ⟨p, l, e, R, s, args, below, meth, c, Q, rfl, hx, hb, hml, hown, hts, hh0, hK, hlv, hlo, hRc, hRs⟩ := Γ
  subst hh0
  intro H locs sls hP hS hL
  obtain ⟨cell, h1, h2, h3, h4, h5, h6, h7⟩ := ((hK.2.2.1 i _ (zq_get i hi)).2.2.2.2).kept hS.2.1
  have k1 := kk H locs sls hP hS hL
  rw [List.map_cons, show zv V (.ref (2000 + i)) = .ref (V.2.1 (2000 + i)) from congrArg Value.ref (za_hi (by omega))]
  exact W.alen hx hb h1 h2 h5 rfl rfl hd k1
theorem x_sbald (Γ : zC Wf V m nL H0 cc own lv Rc Rs) {i j : Nat} (hi : i < 36) (hj : j < (byt i).length) (hd : decode cc pc = .ok (.baload, 1)) (kk : zX Wf V m nL H0 (pc + 1) f (.int ((byt i).getD j 0) :: st) h n k sl) : zX Wf V m nL H0 pc f (.int (nI j) :: .ref (2000 + i) :: st) h n k sl := by
  obtain ⟨p, l, e, R, s, args, below, meth, c, Q, rfl, hx, hb, hml, hown, hts, hh0, hK, hlv, hlo, hRc, hRs⟩ := Γ
  subst hh0
  intro H locs sls hP hS hL
  obtain ⟨cell, h1, h2, h3, h4, h5, h6, h7⟩ := ((hK.2.2.1 i _ (zq_get i hi)).2.2.2.2).kept hS.2.1
  have hlen := byt_len ⟨i, hi⟩
  have hlen : (byt i).length < 8 := hlen
  have k1 := kk H locs sls hP hS hL
  rw [List.map_cons, List.map_cons, show zv V (.ref (2000 + i)) = .ref (V.2.1 (2000 + i)) from congrArg Value.ref (za_hi (by omega))]
  have hc : (nI j).toNatClampNeg = j := nI_clamp (by omega)
  have h4' : (byt i).length ≤ cell.slots.size := h4
  exact W.bald (v := .int ((byt i).getD j 0)) hx hb h1 h2 h3 (fun z => by
    rcases z with z | z
    · exact nI_pos (by omega) z
    · rw [hc] at z; omega) (by rw [hc]; exact h6 j hj) rfl rfl hd k1
theorem x_cmp1 (Γ : zC Wf V m nL H0 cc RJ0 lv Rc Rs) (hd : decode cc pc = .ok (.getstatic 38, 3)) (kk : zX Wf V m nL H0 (pc + 3) f (.int 1 :: st) h n k sl) : zX Wf V m nL H0 pc f st h n k sl := by
  obtain ⟨p, l, e, R, s, args, below, meth, c, Q, rfl, hx, hb, hml, hown, hts, hh0, hK, hlv, hlo, hRc, hRs⟩ := Γ
  subst hh0
  exact fun H locs sls hP hS hL => va_gets hx hb hK.2.2.2.2.2.1 hS hown (hts _ wl_J0_38) (fun _ z => z) hd (kk H locs sls hP hS hL)
theorem x_sio (Γ : zC Wf V m nL H0 cc RJ0 lv Rc Rs) (hd : decode cc pc = .ok (.getstatic 1053, 3)) (k0 : zX Wf V m nL H0 (pc + 3) f (.null :: st) h n k sl) (k1 : zX Wf V m nL H0 (pc + 3) f (.ref 4000 :: st) h n k sl) : zX Wf V m nL H0 pc f st h n k sl := by
  obtain ⟨p, l, e, R, s, args, below, meth, c, Q, rfl, hx, hb, hml, hown, hts, hh0, hK, hlv, hlo, hRc, hRs⟩ := Γ
  subst hh0
  intro H locs sls hP hS hL
  rcases hK.2.2.2.2.2.2.2.2.2.2 with z | z
  · exact va_gets hx hb z hS hown (hts _ wl_J0_1053) (fun _ z => z) hd (k0 H locs sls hP hS hL)
  · exact va_gets hx hb z hS hown (hts _ wl_J0_1053) (fun _ z => z) hd (k1 H locs sls hP hS hL)
theorem x_callVs (Γ : zC Wf V m nL H0 cc own lv Rc Rs) {M : zY} {na d i j : Nat} {As st0 : List Value} {v : Value} (cal : zCalV M na) (wl : Cond.methodLink own i M.1 ∈ zw) (hd : decode cc pc = .ok (.invokevirtual i, 3)) (hM : zM d M (.ref (1000 + j) :: As) h n (some v) h n 0 0) (hna : As.length = na) (hlv2 : d + 1 ≤ lv)
    (hj : j < 36) (hC : M.1.cls = "java/lang/String") (hst : st0 = As.reverse ++ .ref (1000 + j) :: st) (hroom : (st.map fun v => v.category).sum ≤ 8) (hk : k ≤ Rc) (hs : sl ≤ Rs) (kk : zX Wf V m nL H0 (pc + 3) f (v :: st) h n k sl) : zX Wf V m nL H0 pc f st0 h n k sl := by
  obtain ⟨p, l, e, R, s, args, below, meth, c, Q, rfl, hx, hb, hml, hown, hts, hh0, hK, hlv, hlo, hRc, hRs⟩ := Γ
  subst hst hh0 hRc hRs
  intro H locs sls hP hS hL
  obtain ⟨⟨hc1, hc2, hc3, hc4⟩, hi1, hi2⟩ := cal
  have hg := zGood M hc1
  obtain ⟨cell, g1, g2, g3, -⟩ := ((hK.2.2.1 j _ (zq_get j hj)).2.1).kept hS.2.1
  have hrc : ∃ cell : Cell, H[za V (1000 + j)]? = some cell ∧ cell.vm.isStatics = false ∧ s.vm.findClass M.1.cls = some cell.cls := ⟨cell, by rw [za_hi (by omega)]; exact g1, g2, by rw [hC]; exact g3⟩
  have run := va_runV (l := l) (e := e) (below := below) (meth := meth) (As := As.map (zv V)) (rest := st.map (zv V)) (b := za V (1000 + j)) (g := F0 m pc sls ((As.reverse ++ .ref (1000 + j) :: st).map (zv V))) (locs := locs) (cells := k) (slots := sl) ⟨hx, hb, hml, hown, hts⟩ (hM l V)
    (show CallW R s args own M.1.cls i M.1 M.2.1 M.2.2.1 M.2.2.2 (zWs M) (zRm d 0 0) 0 0 na from ⟨callB_of na hts hg rfl rfl rfl (hts _ hc2) (hts _ wl) hc3 ⟨Nat.le_trans hlv2 hlv, by show 8 + (M.2.2.1 + 11) + 32 * d ≤ R.locals; omega⟩, hts _ hi1, hts _ hi2⟩)
    ⟨zBlind, hrc, fun U hU hW => ⟨rfl, by rw [hU]; exact hP, zK_moved hW (by rw [hU]; exact Nat.le_trans hK.2.1 hS.1) (by rw [hU]; exact hS.2.1) hK⟩⟩ rfl (by rw [List.length_map]; exact hna) hL.1 (by simp [zv]) (lv_room (pc := pc) (ls := sls) (rest := (As.reverse ++ .ref (1000 + j) :: st).map (zv V)) (by rw [zcat_sum]; exact hroom)) hd ⟨hk, hs⟩
  refine z_run run hS fun H1 locs1 hP1 hS1 => ?_
  exact kk H1 locs1 sls hP1 hS1 hL
/-- a call behind which the heap has a property; with an answer or none -/
theorem x_callVxr (Γ : zC Wf V m nL H0 cc own lv Rc Rs) {M : zY} {na d i b ci : Nat} {As fs st0 : List Value} {r : Option Value} {P : (Nat → zE) → Prop} {q : vw_C} (cal : zCalV M na) (wl : Cond.methodLink own i M.1 ∈ zw) (hd : decode cc pc = .ok (.invokevirtual i, 3)) (hM : zMx d M (.ref b :: As) h n r P) (hna : As.length = na) (hlv2 : d + 1 ≤ lv)
    (hq : b < n) (he : h b = zO ci fs) (hC : vwCl[ci]? = some q) (hCn : q.1 = M.1.cls) (hst : st0 = As.reverse ++ .ref b :: st) (hroom : (st.map fun v => v.category).sum ≤ 8) (hk : k ≤ Rc) (hs : sl ≤ Rs) (kk : ∀ h' : Nat → zE, P h' → zX Wf V m nL H0 (pc + 3) f (r.toList ++ st) h' n k sl) : zX Wf V m nL H0 pc f st0 h n k sl := by
  obtain ⟨p, l, e, R, s, args, below, meth, c, Q, rfl, hx, hb, hml, hown, hts, hh0, hK, hlv, hlo, hRc, hRs⟩ := Γ
  subst hst hh0 hRc hRs
  intro H locs sls hP hS hL
  obtain ⟨⟨hc1, hc2, hc3, hc4⟩, hi1, hi2⟩ := cal
  have hg := zGood M hc1
  have h1 := zP_one hP hq
  rw [he] at h1
  have hrc := va_recv (q0 := 0) hK.1 h1 hC rfl
  rw [hCn] at hrc
  have run := va_runV (l := l) (e := e) (below := below) (meth := meth) (As := As.map (zv V)) (rest := st.map (zv V)) (b := za V b) (g := F0 m pc sls ((As.reverse ++ .ref b :: st).map (zv V))) (locs := locs) (cells := k) (slots := sl) ⟨hx, hb, hml, hown, hts⟩ (hM l V)
    (show CallW R s args own M.1.cls i M.1 M.2.1 M.2.2.1 M.2.2.2 (zWs M) (zRm d 0 0) 0 0 na from ⟨callB_of na hts hg rfl rfl rfl (hts _ hc2) (hts _ wl) hc3 ⟨Nat.le_trans hlv2 hlv, by show 8 + (M.2.2.1 + 11) + 32 * d ≤ R.locals; omega⟩, hts _ hi1, hts _ hi2⟩)
    ⟨zBlind, hrc, fun U hU hW => ⟨rfl, by rw [hU]; exact hP, zK_moved hW (by rw [hU]; exact Nat.le_trans hK.2.1 hS.1) (by rw [hU]; exact hS.2.1) hK⟩⟩ rfl (by rw [List.length_map]; exact hna) hL.1 (by simp [zv]) (lv_room (pc := pc) (ls := sls) (rest := (As.reverse ++ .ref b :: st).map (zv V)) (by rw [zcat_sum]; exact hroom)) hd ⟨hk, hs⟩
  refine z_runx run hS fun h' H1 locs1 hh hP1 hS1 => ?_
  have k1 := kk h' hh H1 locs1 sls hP1 hS1 hL
  have e1 : (r.toList ++ st).map (zv V) = (r.map (zv V)).toList ++ st.map (zv V) := by cases r <;> simp
  rw [e1] at k1
  exact k1
theorem x_vretx {P : (Nat → zE) → Prop} (ρ : zQx Wf V m H0 cc none none P n) (hd : decode cc pc = .ok (.return_, 1)) (hh : P h) : zX Wf V m nL H0 pc f [] h n 0 0 := by
  obtain ⟨p, l, e, R, s, args, below, meth, c, rfl, hx, hb, hrt, hlk, rfl⟩ := ρ
  exact fun H locs sls hP hS hL => W.vret hx hb hrt (fun t ht hW => ⟨rfl, ⟨h, hh, by rw [ht]; exact hP⟩, hS.F ht⟩) hS.2.2 hd hlk
end ZSTR
