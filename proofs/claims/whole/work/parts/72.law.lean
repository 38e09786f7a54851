-- THE LAW'S OWN ROWS
def zCl (Wf : zW) (V : zG) (m : MethodId) (H0 : Heap) (L : Nat) (xs : Nat → Int32) : Prop :=
  ∃ (p : Program) (l : Launch) (e : Env) (R : Room) (s : State) (args : Array Value) (below : List Frame) (meth : Method) (c : Code) (Q : State → Prop),
    Wf = (fun H locs k sl g => W p l e R s m args below meth c H locs k sl Q g) ∧ p.tables.exec = Jvm.exec ∧ c.code = cL_law ∧ c.maxLocals = 4 ∧ s.vm.findClass RL = some m.cls ∧ (∀ w ∈ zw, w.before args s = true) ∧ H0 = s.heap ∧ zK V s ∧ 12 ≤ R.frames ∧ 32 * 12 ≤ R.locals ∧ R.cells = 600000 ∧ R.slots = 7302250 ∧ va_X (V.2.1 5000) L xs s s.heap ∧ V.2.1 5000 < s.heap.size ∧ ¬ zF V (V.2.1 5000)
theorem zCl.z {Wf : zW} {V : zG} {m : MethodId} {H0 : Heap} {L : Nat} {xs : Nat → Int32} (Γ : zCl Wf V m H0 L xs) : zC Wf V m 4 H0 cL_law RL 12 600000 7302250 := by
  obtain ⟨p, l, e, R, s, args, below, meth, c, Q, h1, hx, hb, hml, hown, hts, hh0, hK, hlv, hlo, hRc, hRs, -⟩ := Γ
  exact ⟨p, l, e, R, s, args, below, meth, c, Q, h1, hx, hb, hml, hown, hts, hh0, hK, hlv, hlo, hRc, hRs⟩
section ZLW
variable {Wf : zW} {V : zG} {m : MethodId} {H0 : Heap} {L : Nat} {xs : Nat → Int32} {g : Nat → zE}
theorem x_sld (Γ : zCl Wf V m H0 L xs) {pc j : Nat} {f : Nat → Option Value} {st : List Value} {h : Nat → zE} {n k sl : Nat} {x : Int32} (hL : L ≤ 3072) (hd : decode cL_law pc = .ok (.iaload, 1)) (hx : x = nI j) (hj : j < L) (kk : zX Wf V m 4 H0 (pc + 1) f (.int (xs j) :: st) h n k sl) : zX Wf V m 4 H0 pc f (.int x :: .ref 5000 :: st) h n k sl := by
  obtain ⟨p, l, e, R, s, args, below, meth, c, Q, rfl, hx2, hb, hml, hown, hts, hh0, hK, hlv, hlo, hRc, hRs, hX, hbl, hbA⟩ := Γ
  subst hh0 hx
  intro H locs sls hP hS hLo
  refine va_sld hx2 hb hX hbl hbA hS (i := nI j) (vp_in_nI hj (by omega)) hd ?_
  rw [nI_clamp (by omega)]
  exact kk H locs sls hP hS hLo
theorem x_slen (Γ : zCl Wf V m H0 L xs) {pc : Nat} {f : Nat → Option Value} {st : List Value} {h : Nat → zE} {n k sl : Nat} (hd : decode cL_law pc = .ok (.arraylength, 1)) (kk : zX Wf V m 4 H0 (pc + 1) f (.int (nI L) :: st) h n k sl) : zX Wf V m 4 H0 pc f (.ref 5000 :: st) h n k sl := by
  obtain ⟨p, l, e, R, s, args, below, meth, c, Q, rfl, hx2, hb, hml, hown, hts, hh0, hK, hlv, hlo, hRc, hRs, hX, hbl, hbA⟩ := Γ
  subst hh0
  intro H locs sls hP hS hLo
  exact va_slen hx2 hb hX hbl hbA hS hd (kk H locs sls hP hS hLo)

theorem lgc_eq {x : Int64} : lg_cmp x x = 0 := by
  have h1 : ¬ lg_cmp x x < 0 := fun z => Int.lt_irrefl _ (lgc_lt.mp z)
  have h2 : ¬ 0 < lg_cmp x x := fun z => Int.lt_irrefl _ (lgc_gt.mp z)
  rw [Int32.lt_iff_toInt_lt] at h1 h2
  refine Int32.toInt_inj.mp ?_
  rw [zlt_0] at *
  omega

set_option maxRecDepth 100000 in
set_option maxHeartbeats 4000000 in
theorem la_0 (Γl : zCl Wf V m H0 L xs) (hL : L ≤ 3072) {i : Nat} (hi : i + 6 ≤ L) {h : Nat → zE} (hq : wQ g h) (kk : ∀ h', wQ g h' → zX Wf V m 4 H0 1394 (zls [(0, .ref 5000), (1, .ref 0), (2, .ref 37), (3, .int (nI i))]) [] h' 46 46 1123) : zX Wf V m 4 H0 232 (zls [(0, .ref 5000), (1, .ref 0), (2, .ref 37), (3, .int (nI i))]) [] h 46 46 1123 := by
  have Γ := Γl.z
  obtain ⟨T, T2, T3, R, X, rfl, hI⟩ := hq
  obtain ⟨⟨N, hT⟩, hS, hTp, hKp⟩ := hI
  have hI : wI T T3 R := ⟨⟨N, hT⟩, hS, hTp, hKp⟩
  obtain ⟨hN, hH, hTk, hLL, hP, hKd, hB⟩ := id hT
  refine x_heap hR_cW ?_
  refine x_aload_n Γ dL_law_232 rfl ?_
  refine x_aload_n Γ dL_law_233 rfl ?_
  refine x_iload_n Γ dL_law_234 rfl ?_
  refine x_iconst Γ (v := 1) dL_law_235 rfl ?_
  refine x_iadd Γ dL_law_236 ?_
  refine x_sld Γl (j := i + 1) hL dL_law_237 (nI_add i 1) (by omega) ?_
  refine x_callVx Γ calv_X3_citizen wl_L_13 dL_law_238 (m_X3_citizen hN (xs (i + 1))) rfl (by decide) (by decide) rfl rfl rfl rfl (Nat.le_of_ble_eq_true rfl) (by decide) (by decide) (fun h_x hQ_x => ?_)
  obtain ⟨T2x, Xx, rfl⟩ := hQ_x
  refine x_heap hR_cW.symm ?_
  refine x_aload_n Γ dL_law_241 rfl ?_
  refine x_aload_n Γ dL_law_242 rfl ?_
  refine x_iload_n Γ dL_law_243 rfl ?_
  refine x_iconst Γ (v := 1) dL_law_244 rfl ?_
  refine x_iadd Γ dL_law_245 ?_
  refine x_sld Γl (j := i + 1) hL dL_law_246 (nI_add i 1) (by omega) ?_
  refine x_callV Γ calv_X4_citizen wl_L_17 dL_law_247 (m_X4_citizen hN (xs (i + 1))) rfl (by decide) (by decide) rfl rfl rfl rfl (Nat.le_of_ble_eq_true rfl) (by decide) (by decide) ?_
  refine x_icmp_eq Γ (tgt := 1394) dL_law_250 (by decide) (fun _ => ?_) (fun z => absurd rfl z)
  exact kk _ ⟨_, _, _, _, _, rfl, wI_sm hI (iT_cit hT _) (sm_f _)⟩

set_option maxRecDepth 100000 in
set_option maxHeartbeats 4000000 in
theorem la_1 (Γl : zCl Wf V m H0 L xs) (hL : L ≤ 3072) {i : Nat} (hi : i + 6 ≤ L) {h : Nat → zE} (hq : wQ g h) (kk : ∀ h', wQ g h' → zX Wf V m 4 H0 1394 (zls [(0, .ref 5000), (1, .ref 0), (2, .ref 37), (3, .int (nI i))]) [] h' 46 46 1123) : zX Wf V m 4 H0 255 (zls [(0, .ref 5000), (1, .ref 0), (2, .ref 37), (3, .int (nI i))]) [] h 46 46 1123 := by
  have Γ := Γl.z
  obtain ⟨T, T2, T3, R, X, rfl, hI⟩ := hq
  obtain ⟨⟨N, hT⟩, hS, hTp, hKp⟩ := hI
  have hI : wI T T3 R := ⟨⟨N, hT⟩, hS, hTp, hKp⟩
  obtain ⟨hN, hH, hTk, hLL, hP, hKd, hB⟩ := id hT
  refine x_heap hR_cW ?_
  refine x_aload_n Γ dL_law_255 rfl ?_
  refine x_aload_n Γ dL_law_256 rfl ?_
  refine x_iload_n Γ dL_law_257 rfl ?_
  refine x_iconst Γ (v := 1) dL_law_258 rfl ?_
  refine x_iadd Γ dL_law_259 ?_
  refine x_sld Γl (j := i + 1) hL dL_law_260 (nI_add i 1) (by omega) ?_
  refine x_aload_n Γ dL_law_261 rfl ?_
  refine x_iload_n Γ dL_law_262 rfl ?_
  refine x_iconst Γ (v := 2) dL_law_263 rfl ?_
  refine x_iadd Γ dL_law_264 ?_
  refine x_sld Γl (j := i + 2) hL dL_law_265 (nI_add i 2) (by omega) ?_
  refine x_callVx Γ calv_X3_of wl_L_18 dL_law_266 (m_X3_of hN (xs (i + 1)) (xs (i + 2))) rfl (by decide) (by decide) rfl rfl rfl rfl (Nat.le_of_ble_eq_true rfl) (by decide) (by decide) (fun h_x hQ_x => ?_)
  obtain ⟨T2x, Xx, rfl⟩ := hQ_x
  refine x_heap hR_cW.symm ?_
  refine x_aload_n Γ dL_law_269 rfl ?_
  refine x_aload_n Γ dL_law_270 rfl ?_
  refine x_iload_n Γ dL_law_271 rfl ?_
  refine x_iconst Γ (v := 1) dL_law_272 rfl ?_
  refine x_iadd Γ dL_law_273 ?_
  refine x_sld Γl (j := i + 1) hL dL_law_274 (nI_add i 1) (by omega) ?_
  refine x_aload_n Γ dL_law_275 rfl ?_
  refine x_iload_n Γ dL_law_276 rfl ?_
  refine x_iconst Γ (v := 2) dL_law_277 rfl ?_
  refine x_iadd Γ dL_law_278 ?_
  refine x_sld Γl (j := i + 2) hL dL_law_279 (nI_add i 2) (by omega) ?_
  refine x_callV Γ calv_X4_of wl_L_22 dL_law_280 (m_X4_of hN (xs (i + 1)) (xs (i + 2))) rfl (by decide) (by decide) rfl rfl rfl rfl (Nat.le_of_ble_eq_true rfl) (by decide) (by decide) ?_
  refine x_icmp_eq Γ (tgt := 1394) dL_law_283 (by decide) (fun _ => ?_) (fun z => absurd rfl z)
  exact kk _ ⟨_, _, _, _, _, rfl, wI_sm hI hI.1 (sm_f _)⟩

set_option maxRecDepth 100000 in
set_option maxHeartbeats 4000000 in
theorem la_2 (Γl : zCl Wf V m H0 L xs) (hL : L ≤ 3072) {i : Nat} (hi : i + 6 ≤ L) {h : Nat → zE} (hq : wQ g h) (kk : ∀ h', wQ g h' → zX Wf V m 4 H0 1394 (zls [(0, .ref 5000), (1, .ref 0), (2, .ref 37), (3, .int (nI i))]) [] h' 46 46 1123) : zX Wf V m 4 H0 288 (zls [(0, .ref 5000), (1, .ref 0), (2, .ref 37), (3, .int (nI i))]) [] h 46 46 1123 := by
  have Γ := Γl.z
  obtain ⟨T, T2, T3, R, X, rfl, hI⟩ := hq
  obtain ⟨⟨N, hT⟩, hS, hTp, hKp⟩ := hI
  have hI : wI T T3 R := ⟨⟨N, hT⟩, hS, hTp, hKp⟩
  obtain ⟨hN, hH, hTk, hLL, hP, hKd, hB⟩ := id hT
  refine x_heap hR_cW ?_
  refine x_aload_n Γ dL_law_288 rfl ?_
  refine x_aload_n Γ dL_law_289 rfl ?_
  refine x_iload_n Γ dL_law_290 rfl ?_
  refine x_iconst Γ (v := 1) dL_law_291 rfl ?_
  refine x_iadd Γ dL_law_292 ?_
  refine x_sld Γl (j := i + 1) hL dL_law_293 (nI_add i 1) (by omega) ?_
  refine x_aload_n Γ dL_law_294 rfl ?_
  refine x_iload_n Γ dL_law_295 rfl ?_
  refine x_iconst Γ (v := 2) dL_law_296 rfl ?_
  refine x_iadd Γ dL_law_297 ?_
  refine x_sld Γl (j := i + 2) hL dL_law_298 (nI_add i 2) (by omega) ?_
  refine x_aload_n Γ dL_law_299 rfl ?_
  refine x_iload_n Γ dL_law_300 rfl ?_
  refine x_iconst Γ (v := 3) dL_law_301 rfl ?_
  refine x_iadd Γ dL_law_302 ?_
  refine x_sld Γl (j := i + 3) hL dL_law_303 (nI_add i 3) (by omega) ?_
  refine x_callVx Γ calv_X3_change wl_L_23 dL_law_304 (m_X3_change hN (xs (i + 1)) (xs (i + 2)) (xs (i + 3))) rfl (by decide) (by decide) rfl rfl rfl rfl (Nat.le_of_ble_eq_true rfl) (by decide) (by decide) (fun h_x hQ_x => ?_)
  obtain ⟨T2x, Xx, rfl⟩ := hQ_x
  refine x_heap hR_cW.symm ?_
  refine x_aload_n Γ dL_law_307 rfl ?_
  refine x_aload_n Γ dL_law_308 rfl ?_
  refine x_iload_n Γ dL_law_309 rfl ?_
  refine x_iconst Γ (v := 1) dL_law_310 rfl ?_
  refine x_iadd Γ dL_law_311 ?_
  refine x_sld Γl (j := i + 1) hL dL_law_312 (nI_add i 1) (by omega) ?_
  refine x_aload_n Γ dL_law_313 rfl ?_
  refine x_iload_n Γ dL_law_314 rfl ?_
  refine x_iconst Γ (v := 2) dL_law_315 rfl ?_
  refine x_iadd Γ dL_law_316 ?_
  refine x_sld Γl (j := i + 2) hL dL_law_317 (nI_add i 2) (by omega) ?_
  refine x_aload_n Γ dL_law_318 rfl ?_
  refine x_iload_n Γ dL_law_319 rfl ?_
  refine x_iconst Γ (v := 3) dL_law_320 rfl ?_
  refine x_iadd Γ dL_law_321 ?_
  refine x_sld Γl (j := i + 3) hL dL_law_322 (nI_add i 3) (by omega) ?_
  refine x_callV Γ calv_X4_change wl_L_27 dL_law_323 (m_X4_change hN (xs (i + 1)) (xs (i + 2)) (xs (i + 3))) rfl (by decide) (by decide) rfl rfl rfl rfl (Nat.le_of_ble_eq_true rfl) (by decide) (by decide) ?_
  refine x_icmp_eq Γ (tgt := 1394) dL_law_326 (by decide) (fun _ => ?_) (fun z => absurd rfl z)
  exact kk _ ⟨_, _, _, _, _, rfl, wI_sm hI (iT_chg hI.1 _ _ _) (sm_f _)⟩

set_option maxRecDepth 100000 in
set_option maxHeartbeats 4000000 in
theorem la_3 (Γl : zCl Wf V m H0 L xs) (hL : L ≤ 3072) {i : Nat} (hi : i + 6 ≤ L) {h : Nat → zE} (hq : wQ g h) (kk : ∀ h', wQ g h' → zX Wf V m 4 H0 1394 (zls [(0, .ref 5000), (1, .ref 0), (2, .ref 37), (3, .int (nI i))]) [] h' 46 46 1123) : zX Wf V m 4 H0 331 (zls [(0, .ref 5000), (1, .ref 0), (2, .ref 37), (3, .int (nI i))]) [] h 46 46 1123 := by
  have Γ := Γl.z
  obtain ⟨T, T2, T3, R, X, rfl, hI⟩ := hq
  obtain ⟨⟨N, hT⟩, hS, hTp, hKp⟩ := hI
  have hI : wI T T3 R := ⟨⟨N, hT⟩, hS, hTp, hKp⟩
  obtain ⟨hN, hH, hTk, hLL, hP, hKd, hB⟩ := id hT
  refine x_heap hR_cW ?_
  refine x_aload_n Γ dL_law_331 rfl ?_
  refine x_aload_n Γ dL_law_332 rfl ?_
  refine x_iload_n Γ dL_law_333 rfl ?_
  refine x_iconst Γ (v := 1) dL_law_334 rfl ?_
  refine x_iadd Γ dL_law_335 ?_
  refine x_sld Γl (j := i + 1) hL dL_law_336 (nI_add i 1) (by omega) ?_
  refine x_aload_n Γ dL_law_337 rfl ?_
  refine x_iload_n Γ dL_law_338 rfl ?_
  refine x_iconst Γ (v := 2) dL_law_339 rfl ?_
  refine x_iadd Γ dL_law_340 ?_
  refine x_sld Γl (j := i + 2) hL dL_law_341 (nI_add i 2) (by omega) ?_
  refine x_callVx Γ calv_X3_rule wl_L_28 dL_law_342 (m_X3_rule  (xs (i + 1)) (xs (i + 2))) rfl (by decide) (by decide) rfl rfl rfl rfl (Nat.le_of_ble_eq_true rfl) (by decide) (by decide) (fun h_x hQ_x => ?_)
  obtain ⟨T2x, Xx, rfl⟩ := hQ_x
  refine x_heap hR_cW.symm ?_
  refine x_aload_n Γ dL_law_345 rfl ?_
  refine x_aload_n Γ dL_law_346 rfl ?_
  refine x_iload_n Γ dL_law_347 rfl ?_
  refine x_iconst Γ (v := 1) dL_law_348 rfl ?_
  refine x_iadd Γ dL_law_349 ?_
  refine x_sld Γl (j := i + 1) hL dL_law_350 (nI_add i 1) (by omega) ?_
  refine x_aload_n Γ dL_law_351 rfl ?_
  refine x_iload_n Γ dL_law_352 rfl ?_
  refine x_iconst Γ (v := 2) dL_law_353 rfl ?_
  refine x_iadd Γ dL_law_354 ?_
  refine x_sld Γl (j := i + 2) hL dL_law_355 (nI_add i 2) (by omega) ?_
  refine x_callV Γ calv_X4_rule wl_L_31 dL_law_356 (m_X4_rule  (xs (i + 1)) (xs (i + 2))) rfl (by decide) (by decide) rfl rfl rfl rfl (Nat.le_of_ble_eq_true rfl) (by decide) (by decide) ?_
  refine x_icmp_eq Γ (tgt := 1394) dL_law_359 (by decide) (fun _ => ?_) (fun z => absurd rfl z)
  exact kk _ ⟨_, _, _, _, _, rfl, wI_sm hI (iT_rul hI.1 _ _) (sm_f _)⟩

set_option maxRecDepth 100000 in
set_option maxHeartbeats 4000000 in
theorem la_4 (Γl : zCl Wf V m H0 L xs) (hL : L ≤ 3072) {i : Nat} (hi : i + 6 ≤ L) {h : Nat → zE} (hq : wQ g h) (kk : ∀ h', wQ g h' → zX Wf V m 4 H0 1394 (zls [(0, .ref 5000), (1, .ref 0), (2, .ref 37), (3, .int (nI i))]) [] h' 46 46 1123) : zX Wf V m 4 H0 364 (zls [(0, .ref 5000), (1, .ref 0), (2, .ref 37), (3, .int (nI i))]) [] h 46 46 1123 := by
  have Γ := Γl.z
  obtain ⟨T, T2, T3, R, X, rfl, hI⟩ := hq
  obtain ⟨⟨N, hT⟩, hS, hTp, hKp⟩ := hI
  have hI : wI T T3 R := ⟨⟨N, hT⟩, hS, hTp, hKp⟩
  obtain ⟨hN, hH, hTk, hLL, hP, hKd, hB⟩ := id hT
  refine x_heap hR_cW ?_
  refine x_aload_n Γ dL_law_364 rfl ?_
  refine x_aload_n Γ dL_law_365 rfl ?_
  refine x_iload_n Γ dL_law_366 rfl ?_
  refine x_iconst Γ (v := 1) dL_law_367 rfl ?_
  refine x_iadd Γ dL_law_368 ?_
  refine x_sld Γl (j := i + 1) hL dL_law_369 (nI_add i 1) (by omega) ?_
  refine x_callVx Γ calv_X3_now wl_L_32 dL_law_370 (m_X3_now hN (xs (i + 1))) rfl (by decide) (by decide) rfl rfl rfl rfl (Nat.le_of_ble_eq_true rfl) (by decide) (by decide) (fun h_x hQ_x => ?_)
  obtain ⟨T2x, Xx, rfl⟩ := hQ_x
  refine x_heap hR_cW.symm ?_
  refine x_aload_n Γ dL_law_373 rfl ?_
  refine x_aload_n Γ dL_law_374 rfl ?_
  refine x_iload_n Γ dL_law_375 rfl ?_
  refine x_iconst Γ (v := 1) dL_law_376 rfl ?_
  refine x_iadd Γ dL_law_377 ?_
  refine x_sld Γl (j := i + 1) hL dL_law_378 (nI_add i 1) (by omega) ?_
  refine x_callV Γ calv_X4_now wl_L_35 dL_law_379 (m_X4_now hN (xs (i + 1))) rfl (by decide) (by decide) rfl rfl rfl rfl (Nat.le_of_ble_eq_true rfl) (by decide) (by decide) ?_
  refine x_icmp_eq Γ (tgt := 1394) dL_law_382 (by decide) (fun _ => ?_) (fun z => absurd rfl z)
  exact kk _ ⟨_, _, _, _, _, rfl, wI_sm hI hI.1 (sm_f _)⟩

set_option maxRecDepth 100000 in
set_option maxHeartbeats 4000000 in
theorem la_5 (Γl : zCl Wf V m H0 L xs) (hL : L ≤ 3072) {i : Nat} (hi : i + 6 ≤ L) {h : Nat → zE} (hq : wQ g h) (kk : ∀ h', wQ g h' → zX Wf V m 4 H0 1394 (zls [(0, .ref 5000), (1, .ref 0), (2, .ref 37), (3, .int (nI i))]) [] h' 46 46 1123) : zX Wf V m 4 H0 387 (zls [(0, .ref 5000), (1, .ref 0), (2, .ref 37), (3, .int (nI i))]) [] h 46 46 1123 := by
  have Γ := Γl.z
  obtain ⟨T, T2, T3, R, X, rfl, hI⟩ := hq
  obtain ⟨⟨N, hT⟩, hS, hTp, hKp⟩ := hI
  have hI : wI T T3 R := ⟨⟨N, hT⟩, hS, hTp, hKp⟩
  obtain ⟨hN, hH, hTk, hLL, hP, hKd, hB⟩ := id hT
  refine x_heap hR_cW ?_
  refine x_aload_n Γ dL_law_387 rfl ?_
  refine x_aload_n Γ dL_law_388 rfl ?_
  refine x_iload_n Γ dL_law_389 rfl ?_
  refine x_iconst Γ (v := 1) dL_law_390 rfl ?_
  refine x_iadd Γ dL_law_391 ?_
  refine x_sld Γl (j := i + 1) hL dL_law_392 (nI_add i 1) (by omega) ?_
  refine x_callVx Γ calv_X3_wants wl_L_36 dL_law_393 (m_X3_wants hN hH (xs (i + 1))) rfl (by decide) (by decide) rfl rfl rfl rfl (Nat.le_of_ble_eq_true rfl) (by decide) (by decide) (fun h_x hQ_x => ?_)
  obtain ⟨T2x, Xx, rfl⟩ := hQ_x
  refine x_heap hR_cW.symm ?_
  refine x_aload_n Γ dL_law_396 rfl ?_
  refine x_aload_n Γ dL_law_397 rfl ?_
  refine x_iload_n Γ dL_law_398 rfl ?_
  refine x_iconst Γ (v := 1) dL_law_399 rfl ?_
  refine x_iadd Γ dL_law_400 ?_
  refine x_sld Γl (j := i + 1) hL dL_law_401 (nI_add i 1) (by omega) ?_
  refine x_callV Γ calv_X4_wants wl_L_39 dL_law_402 (m_X4_wants hN (xs (i + 1))) rfl (by decide) (by decide) rfl rfl rfl rfl (Nat.le_of_ble_eq_true rfl) (by decide) (by decide) ?_
  refine x_icmp_eq Γ (tgt := 1394) dL_law_405 (by decide) (fun _ => ?_) (fun z => absurd rfl z)
  exact kk _ ⟨_, _, _, _, _, rfl, wI_sm hI hI.1 (sm_f _)⟩

set_option maxRecDepth 100000 in
set_option maxHeartbeats 4000000 in
theorem la_6 (Γl : zCl Wf V m H0 L xs) (hL : L ≤ 3072) {i : Nat} (hi : i + 6 ≤ L) {h : Nat → zE} (hq : wQ g h) (kk : ∀ h', wQ g h' → zX Wf V m 4 H0 1394 (zls [(0, .ref 5000), (1, .ref 0), (2, .ref 37), (3, .int (nI i))]) [] h' 46 46 1123) : zX Wf V m 4 H0 410 (zls [(0, .ref 5000), (1, .ref 0), (2, .ref 37), (3, .int (nI i))]) [] h 46 46 1123 := by
  have Γ := Γl.z
  obtain ⟨T, T2, T3, R, X, rfl, hI⟩ := hq
  obtain ⟨⟨N, hT⟩, hS, hTp, hKp⟩ := hI
  have hI : wI T T3 R := ⟨⟨N, hT⟩, hS, hTp, hKp⟩
  obtain ⟨hN, hH, hTk, hLL, hP, hKd, hB⟩ := id hT
  refine x_heap hR_cW ?_
  refine x_aload_n Γ dL_law_410 rfl ?_
  refine x_aload_n Γ dL_law_411 rfl ?_
  refine x_iload_n Γ dL_law_412 rfl ?_
  refine x_iconst Γ (v := 1) dL_law_413 rfl ?_
  refine x_iadd Γ dL_law_414 ?_
  refine x_sld Γl (j := i + 1) hL dL_law_415 (nI_add i 1) (by omega) ?_
  refine x_aload_n Γ dL_law_416 rfl ?_
  refine x_iload_n Γ dL_law_417 rfl ?_
  refine x_iconst Γ (v := 2) dL_law_418 rfl ?_
  refine x_iadd Γ dL_law_419 ?_
  refine x_sld Γl (j := i + 2) hL dL_law_420 (nI_add i 2) (by omega) ?_
  refine x_callVx Γ calv_X3_swap wl_L_40 dL_law_421 (m_X3_swap hN hH hTk (xs (i + 1)) (xs (i + 2))) rfl (by decide) (by decide) rfl rfl rfl rfl (Nat.le_of_ble_eq_true rfl) (by decide) (by decide) (fun h_x hQ_x => ?_)
  obtain ⟨T2x, Xx, rfl⟩ := hQ_x
  refine x_heap hR_cW.symm ?_
  refine x_aload_n Γ dL_law_424 rfl ?_
  refine x_aload_n Γ dL_law_425 rfl ?_
  refine x_iload_n Γ dL_law_426 rfl ?_
  refine x_iconst Γ (v := 1) dL_law_427 rfl ?_
  refine x_iadd Γ dL_law_428 ?_
  refine x_sld Γl (j := i + 1) hL dL_law_429 (nI_add i 1) (by omega) ?_
  refine x_aload_n Γ dL_law_430 rfl ?_
  refine x_iload_n Γ dL_law_431 rfl ?_
  refine x_iconst Γ (v := 2) dL_law_432 rfl ?_
  refine x_iadd Γ dL_law_433 ?_
  refine x_sld Γl (j := i + 2) hL dL_law_434 (nI_add i 2) (by omega) ?_
  refine x_callV Γ calv_X4_swap wl_L_43 dL_law_435 (m_X4_swap hN (xs (i + 1)) (xs (i + 2))) rfl (by decide) (by decide) rfl rfl rfl rfl (Nat.le_of_ble_eq_true rfl) (by decide) (by decide) ?_
  refine x_icmp_eq Γ (tgt := 1394) dL_law_438 (by decide) (fun _ => ?_) (fun z => absurd rfl z)
  exact kk _ ⟨_, _, _, _, _, rfl, wI_sm hI (iT_swp hI.1 _ _) (sm_f _)⟩

set_option maxRecDepth 100000 in
set_option maxHeartbeats 4000000 in
theorem la_7 (Γl : zCl Wf V m H0 L xs) (hL : L ≤ 3072) {i : Nat} (hi : i + 6 ≤ L) {h : Nat → zE} (hq : wQ g h) (kk : ∀ h', wQ g h' → zX Wf V m 4 H0 1394 (zls [(0, .ref 5000), (1, .ref 0), (2, .ref 37), (3, .int (nI i))]) [] h' 46 46 1123) : zX Wf V m 4 H0 443 (zls [(0, .ref 5000), (1, .ref 0), (2, .ref 37), (3, .int (nI i))]) [] h 46 46 1123 := by
  have Γ := Γl.z
  obtain ⟨T, T2, T3, R, X, rfl, hI⟩ := hq
  obtain ⟨⟨N, hT⟩, hS, hTp, hKp⟩ := hI
  have hI : wI T T3 R := ⟨⟨N, hT⟩, hS, hTp, hKp⟩
  obtain ⟨hN, hH, hTk, hLL, hP, hKd, hB⟩ := id hT
  refine x_heap hR_cW ?_
  refine x_aload_n Γ dL_law_443 rfl ?_
  refine x_callVx Γ calv_X3_gates wl_L_44 dL_law_444 (m_X3_gates hN hH ) rfl (by decide) (by decide) rfl rfl rfl rfl (Nat.le_of_ble_eq_true rfl) (by decide) (by decide) (fun h_x hQ_x => ?_)
  obtain ⟨T2x, Xx, rfl⟩ := hQ_x
  refine x_heap hR_cW.symm ?_
  refine x_aload_n Γ dL_law_447 rfl ?_
  refine x_callV Γ calv_X4_gates wl_L_48 dL_law_448 (m_X4_gates hN ) rfl (by decide) (by decide) rfl rfl rfl rfl (Nat.le_of_ble_eq_true rfl) (by decide) (by decide) ?_
  refine x_icmp_eq Γ (tgt := 1394) dL_law_451 (by decide) (fun _ => ?_) (fun z => absurd rfl z)
  exact kk _ ⟨_, _, _, _, _, rfl, wI_sm hI (iT_og hT) sm_rf⟩

set_option maxRecDepth 100000 in
set_option maxHeartbeats 4000000 in
theorem la_8 (Γl : zCl Wf V m H0 L xs) (hL : L ≤ 3072) {i : Nat} (hi : i + 6 ≤ L) {h : Nat → zE} (hq : wQ g h) (kk : ∀ h', wQ g h' → zX Wf V m 4 H0 1394 (zls [(0, .ref 5000), (1, .ref 0), (2, .ref 37), (3, .int (nI i))]) [] h' 46 46 1123) : zX Wf V m 4 H0 456 (zls [(0, .ref 5000), (1, .ref 0), (2, .ref 37), (3, .int (nI i))]) [] h 46 46 1123 := by
  have Γ := Γl.z
  obtain ⟨T, T2, T3, R, X, rfl, hI⟩ := hq
  obtain ⟨⟨N, hT⟩, hS, hTp, hKp⟩ := hI
  have hI : wI T T3 R := ⟨⟨N, hT⟩, hS, hTp, hKp⟩
  obtain ⟨hN, hH, hTk, hLL, hP, hKd, hB⟩ := id hT
  refine x_heap hR_cW ?_
  refine x_aload_n Γ dL_law_456 rfl ?_
  refine x_callVx Γ calv_X3_changes wl_L_49 dL_law_457 (m_X3_changes hN hH ) rfl (by decide) (by decide) rfl rfl rfl rfl (Nat.le_of_ble_eq_true rfl) (by decide) (by decide) (fun h_x hQ_x => ?_)
  obtain ⟨T2x, Xx, rfl⟩ := hQ_x
  refine x_heap hR_cW.symm ?_
  refine x_aload_n Γ dL_law_460 rfl ?_
  refine x_callV Γ calv_X4_changes wl_L_52 dL_law_461 (m_X4_changes hN ) rfl (by decide) (by decide) rfl rfl rfl rfl (Nat.le_of_ble_eq_true rfl) (by decide) (by decide) ?_
  refine x_icmp_eq Γ (tgt := 1394) dL_law_464 (by decide) (fun _ => ?_) (fun z => absurd rfl z)
  exact kk _ ⟨_, _, _, _, _, rfl, wI_sm hI hI.1 sm_1⟩

set_option maxRecDepth 100000 in
set_option maxHeartbeats 4000000 in
theorem la_9 (Γl : zCl Wf V m H0 L xs) (hL : L ≤ 3072) {i : Nat} (hi : i + 6 ≤ L) {h : Nat → zE} (hq : wQ g h) (kk : ∀ h', wQ g h' → zX Wf V m 4 H0 1394 (zls [(0, .ref 5000), (1, .ref 0), (2, .ref 37), (3, .int (nI i))]) [] h' 46 46 1123) : zX Wf V m 4 H0 469 (zls [(0, .ref 5000), (1, .ref 0), (2, .ref 37), (3, .int (nI i))]) [] h 46 46 1123 := by
  have Γ := Γl.z
  obtain ⟨T, T2, T3, R, X, rfl, hI⟩ := hq
  obtain ⟨⟨N, hT⟩, hS, hTp, hKp⟩ := hI
  have hI : wI T T3 R := ⟨⟨N, hT⟩, hS, hTp, hKp⟩
  obtain ⟨hN, hH, hTk, hLL, hP, hKd, hB⟩ := id hT
  refine x_heap hR_cW ?_
  refine x_aload_n Γ dL_law_469 rfl ?_
  refine x_aload_n Γ dL_law_470 rfl ?_
  refine x_iload_n Γ dL_law_471 rfl ?_
  refine x_iconst Γ (v := 1) dL_law_472 rfl ?_
  refine x_iadd Γ dL_law_473 ?_
  refine x_sld Γl (j := i + 1) hL dL_law_474 (nI_add i 1) (by omega) ?_
  refine x_aload_n Γ dL_law_475 rfl ?_
  refine x_iload_n Γ dL_law_476 rfl ?_
  refine x_iconst Γ (v := 2) dL_law_477 rfl ?_
  refine x_iadd Γ dL_law_478 ?_
  refine x_sld Γl (j := i + 2) hL dL_law_479 (nI_add i 2) (by omega) ?_
  refine x_aload_n Γ dL_law_480 rfl ?_
  refine x_iload_n Γ dL_law_481 rfl ?_
  refine x_iconst Γ (v := 3) dL_law_482 rfl ?_
  refine x_iadd Γ dL_law_483 ?_
  refine x_sld Γl (j := i + 3) hL dL_law_484 (nI_add i 3) (by omega) ?_
  refine x_callVx Γ calv_X3_buy wl_L_53 dL_law_485 (m_X3_buy hN (xs (i + 1)) (xs (i + 2)) (xs (i + 3))) rfl (by decide) (by decide) rfl rfl rfl rfl (Nat.le_of_ble_eq_true rfl) (by decide) (by decide) (fun h_x hQ_x => ?_)
  obtain ⟨T2x, Xx, rfl⟩ := hQ_x
  refine x_heap hR_cW.symm ?_
  refine x_aload_n Γ dL_law_488 rfl ?_
  refine x_aload_n Γ dL_law_489 rfl ?_
  refine x_iload_n Γ dL_law_490 rfl ?_
  refine x_iconst Γ (v := 1) dL_law_491 rfl ?_
  refine x_iadd Γ dL_law_492 ?_
  refine x_sld Γl (j := i + 1) hL dL_law_493 (nI_add i 1) (by omega) ?_
  refine x_aload_n Γ dL_law_494 rfl ?_
  refine x_iload_n Γ dL_law_495 rfl ?_
  refine x_iconst Γ (v := 2) dL_law_496 rfl ?_
  refine x_iadd Γ dL_law_497 ?_
  refine x_sld Γl (j := i + 2) hL dL_law_498 (nI_add i 2) (by omega) ?_
  refine x_aload_n Γ dL_law_499 rfl ?_
  refine x_iload_n Γ dL_law_500 rfl ?_
  refine x_iconst Γ (v := 3) dL_law_501 rfl ?_
  refine x_iadd Γ dL_law_502 ?_
  refine x_sld Γl (j := i + 3) hL dL_law_503 (nI_add i 3) (by omega) ?_
  refine x_callV Γ calv_X4_buy wl_L_56 dL_law_504 (m_X4_buy hN (xs (i + 1)) (xs (i + 2)) (xs (i + 3))) rfl (by decide) (by decide) rfl rfl rfl rfl (Nat.le_of_ble_eq_true rfl) (by decide) (by decide) ?_
  refine x_icmp_eq Γ (tgt := 1394) dL_law_507 (by decide) (fun _ => ?_) (fun z => absurd rfl z)
  exact kk _ ⟨_, _, _, _, _, rfl, wI_sm hI (iT_buy hI.1 _ _ _) (sm_f _)⟩

set_option maxRecDepth 100000 in
set_option maxHeartbeats 4000000 in
theorem la_10 (Γl : zCl Wf V m H0 L xs) (hL : L ≤ 3072) {i : Nat} (hi : i + 6 ≤ L) {h : Nat → zE} (hq : wQ g h) (kk : ∀ h', wQ g h' → zX Wf V m 4 H0 1394 (zls [(0, .ref 5000), (1, .ref 0), (2, .ref 37), (3, .int (nI i))]) [] h' 46 46 1123) : zX Wf V m 4 H0 512 (zls [(0, .ref 5000), (1, .ref 0), (2, .ref 37), (3, .int (nI i))]) [] h 46 46 1123 := by
  have Γ := Γl.z
  obtain ⟨T, T2, T3, R, X, rfl, hI⟩ := hq
  obtain ⟨⟨N, hT⟩, hS, hTp, hKp⟩ := hI
  have hI : wI T T3 R := ⟨⟨N, hT⟩, hS, hTp, hKp⟩
  obtain ⟨hN, hH, hTk, hLL, hP, hKd, hB⟩ := id hT
  refine x_heap hR_cW ?_
  refine x_aload_n Γ dL_law_512 rfl ?_
  refine x_callVx Γ calv_X3_welfare wl_L_57 dL_law_513 (m_X3_welfare hN ) rfl (by decide) (by decide) rfl rfl rfl rfl (Nat.le_of_ble_eq_true rfl) (by decide) (by decide) (fun h_x hQ_x => ?_)
  obtain ⟨T2x, Xx, rfl⟩ := hQ_x
  refine x_heap hR_cW.symm ?_
  refine x_aload_n Γ dL_law_516 rfl ?_
  refine x_callV Γ calv_X4_welfare wl_L_60 dL_law_517 (m_X4_welfare hN ) rfl (by decide) (by decide) rfl rfl rfl rfl (Nat.le_of_ble_eq_true rfl) (by decide) (by decide) ?_
  refine x_icmp_eq Γ (tgt := 1394) dL_law_520 (by decide) (fun _ => ?_) (fun z => absurd rfl z)
  exact kk _ ⟨_, _, _, _, _, rfl, wI_sm hI hI.1 sm_rf⟩

set_option maxRecDepth 100000 in
set_option maxHeartbeats 4000000 in
theorem la_11 (Γl : zCl Wf V m H0 L xs) (hL : L ≤ 3072) {i : Nat} (hi : i + 6 ≤ L) {h : Nat → zE} (hq : wQ g h) (kk : ∀ h', wQ g h' → zX Wf V m 4 H0 1394 (zls [(0, .ref 5000), (1, .ref 0), (2, .ref 37), (3, .int (nI i))]) [] h' 46 46 1123) : zX Wf V m 4 H0 525 (zls [(0, .ref 5000), (1, .ref 0), (2, .ref 37), (3, .int (nI i))]) [] h 46 46 1123 := by
  have Γ := Γl.z
  obtain ⟨T, T2, T3, R, X, rfl, hI⟩ := hq
  obtain ⟨⟨N, hT⟩, hS, hTp, hKp⟩ := hI
  have hI : wI T T3 R := ⟨⟨N, hT⟩, hS, hTp, hKp⟩
  obtain ⟨hN, hH, hTk, hLL, hP, hKd, hB⟩ := id hT
  refine x_heap hR_cW ?_
  refine x_aload_n Γ dL_law_525 rfl ?_
  refine x_callVx Γ calv_X3_most wl_L_61 dL_law_526 (m_X3_most hN hH hTk ) rfl (by decide) (by decide) rfl rfl rfl rfl (Nat.le_of_ble_eq_true rfl) (by decide) (by decide) (fun h_x hQ_x => ?_)
  obtain ⟨T2x, Xx, rfl⟩ := hQ_x
  refine x_heap hR_cW.symm ?_
  refine x_aload_n Γ dL_law_529 rfl ?_
  refine x_callV Γ calv_X4_most wl_L_64 dL_law_530 (m_X4_most hN rfl ) rfl (by decide) (by decide) rfl rfl rfl rfl (Nat.le_of_ble_eq_true rfl) (by decide) (by decide) ?_
  refine x_icmp_eq Γ (tgt := 1394) dL_law_533 (by decide) (fun _ => ?_) (fun z => absurd rfl z)
  exact kk _ ⟨_, _, _, _, _, rfl, wI_sm hI hI.1 sm_rf⟩

set_option maxRecDepth 100000 in
set_option maxHeartbeats 4000000 in
theorem la_12 (Γl : zCl Wf V m H0 L xs) (hL : L ≤ 3072) {i : Nat} (hi : i + 6 ≤ L) {h : Nat → zE} (hq : wQ g h) (kk : ∀ h', wQ g h' → zX Wf V m 4 H0 1394 (zls [(0, .ref 5000), (1, .ref 0), (2, .ref 37), (3, .int (nI i))]) [] h' 46 46 1123) : zX Wf V m 4 H0 538 (zls [(0, .ref 5000), (1, .ref 0), (2, .ref 37), (3, .int (nI i))]) [] h 46 46 1123 := by
  have Γ := Γl.z
  obtain ⟨T, T2, T3, R, X, rfl, hI⟩ := hq
  obtain ⟨⟨N, hT⟩, hS, hTp, hKp⟩ := hI
  have hI : wI T T3 R := ⟨⟨N, hT⟩, hS, hTp, hKp⟩
  obtain ⟨hN, hH, hTk, hLL, hP, hKd, hB⟩ := id hT
  refine x_heap hR_cW ?_
  refine x_aload_n Γ dL_law_538 rfl ?_
  refine x_callVx Γ calv_X3_price wl_L_65 dL_law_539 (m_X3_price hN ) rfl (by decide) (by decide) rfl rfl rfl rfl (Nat.le_of_ble_eq_true rfl) (by decide) (by decide) (fun h_x hQ_x => ?_)
  obtain ⟨T2x, Xx, rfl⟩ := hQ_x
  refine x_heap hR_cW.symm ?_
  refine x_aload_n Γ dL_law_542 rfl ?_
  refine x_callV Γ calv_X4_price wl_L_68 dL_law_543 (m_X4_price hN ) rfl (by decide) (by decide) rfl rfl rfl rfl (Nat.le_of_ble_eq_true rfl) (by decide) (by decide) ?_
  refine x_icmp_eq Γ (tgt := 1394) dL_law_546 (by decide) (fun _ => ?_) (fun z => absurd rfl z)
  exact kk _ ⟨_, _, _, _, _, rfl, wI_sm hI hI.1 (sm_f _)⟩

set_option maxRecDepth 100000 in
set_option maxHeartbeats 4000000 in
theorem la_13 (Γl : zCl Wf V m H0 L xs) (hL : L ≤ 3072) {i : Nat} (hi : i + 6 ≤ L) {h : Nat → zE} (hq : wQ g h) (kk : ∀ h', wQ g h' → zX Wf V m 4 H0 1394 (zls [(0, .ref 5000), (1, .ref 0), (2, .ref 37), (3, .int (nI i))]) [] h' 46 46 1123) : zX Wf V m 4 H0 551 (zls [(0, .ref 5000), (1, .ref 0), (2, .ref 37), (3, .int (nI i))]) [] h 46 46 1123 := by
  have Γ := Γl.z
  obtain ⟨T, T2, T3, R, X, rfl, hI⟩ := hq
  obtain ⟨⟨N, hT⟩, hS, hTp, hKp⟩ := hI
  have hI : wI T T3 R := ⟨⟨N, hT⟩, hS, hTp, hKp⟩
  obtain ⟨hN, hH, hTk, hLL, hP, hKd, hB⟩ := id hT
  refine x_heap hR_cW ?_
  refine x_aload_n Γ dL_law_551 rfl ?_
  refine x_aload_n Γ dL_law_552 rfl ?_
  refine x_iload_n Γ dL_law_553 rfl ?_
  refine x_iconst Γ (v := 1) dL_law_554 rfl ?_
  refine x_iadd Γ dL_law_555 ?_
  refine x_sld Γl (j := i + 1) hL dL_law_556 (nI_add i 1) (by omega) ?_
  refine x_callVx Γ calv_X3_weeks wl_L_69 dL_law_557 (m_X3_weeks hN hH (xs (i + 1))) rfl (by decide) (by decide) rfl rfl rfl rfl (Nat.le_of_ble_eq_true rfl) (by decide) (by decide) (fun h_x hQ_x => ?_)
  obtain ⟨T2x, Xx, rfl⟩ := hQ_x
  refine x_heap hR_cW.symm ?_
  refine x_aload_n Γ dL_law_560 rfl ?_
  refine x_aload_n Γ dL_law_561 rfl ?_
  refine x_iload_n Γ dL_law_562 rfl ?_
  refine x_iconst Γ (v := 1) dL_law_563 rfl ?_
  refine x_iadd Γ dL_law_564 ?_
  refine x_sld Γl (j := i + 1) hL dL_law_565 (nI_add i 1) (by omega) ?_
  refine x_callV Γ calv_X4_weeks wl_L_72 dL_law_566 (m_X4_weeks hN hLL (xs (i + 1))) rfl (by decide) (by decide) rfl rfl rfl rfl (Nat.le_of_ble_eq_true rfl) (by decide) (by decide) ?_
  refine x_icmp_eq Γ (tgt := 1394) dL_law_569 (by decide) (fun _ => ?_) (fun z => absurd rfl z)
  exact kk _ ⟨_, _, _, _, _, rfl, wI_sm hI (iT_wk hT _) (sm_f _)⟩

set_option maxRecDepth 100000 in
set_option maxHeartbeats 4000000 in
theorem la_14 (Γl : zCl Wf V m H0 L xs) (hL : L ≤ 3072) {i : Nat} (hi : i + 6 ≤ L) {h : Nat → zE} (hq : wQ g h) (kk : ∀ h', wQ g h' → zX Wf V m 4 H0 1394 (zls [(0, .ref 5000), (1, .ref 0), (2, .ref 37), (3, .int (nI i))]) [] h' 46 46 1123) : zX Wf V m 4 H0 574 (zls [(0, .ref 5000), (1, .ref 0), (2, .ref 37), (3, .int (nI i))]) [] h 46 46 1123 := by
  have Γ := Γl.z
  obtain ⟨T, T2, T3, R, X, rfl, hI⟩ := hq
  obtain ⟨⟨N, hT⟩, hS, hTp, hKp⟩ := hI
  have hI : wI T T3 R := ⟨⟨N, hT⟩, hS, hTp, hKp⟩
  obtain ⟨hN, hH, hTk, hLL, hP, hKd, hB⟩ := id hT
  refine x_heap hR_cW ?_
  refine x_aload_n Γ dL_law_574 rfl ?_
  refine x_aload_n Γ dL_law_575 rfl ?_
  refine x_iload_n Γ dL_law_576 rfl ?_
  refine x_iconst Γ (v := 1) dL_law_577 rfl ?_
  refine x_iadd Γ dL_law_578 ?_
  refine x_sld Γl (j := i + 1) hL dL_law_579 (nI_add i 1) (by omega) ?_
  refine x_aload_n Γ dL_law_580 rfl ?_
  refine x_iload_n Γ dL_law_581 rfl ?_
  refine x_iconst Γ (v := 2) dL_law_582 rfl ?_
  refine x_iadd Γ dL_law_583 ?_
  refine x_sld Γl (j := i + 2) hL dL_law_584 (nI_add i 2) (by omega) ?_
  refine x_callVx Γ calv_X3_ahead wl_L_73 dL_law_585 (m_X3_ahead hN hH (xs (i + 1)) (xs (i + 2))) rfl (by decide) (by decide) rfl rfl rfl rfl (Nat.le_of_ble_eq_true rfl) (by decide) (by decide) (fun h_x hQ_x => ?_)
  obtain ⟨T2x, Xx, rfl⟩ := hQ_x
  refine x_heap hR_cW.symm ?_
  refine x_aload_n Γ dL_law_588 rfl ?_
  refine x_aload_n Γ dL_law_589 rfl ?_
  refine x_iload_n Γ dL_law_590 rfl ?_
  refine x_iconst Γ (v := 1) dL_law_591 rfl ?_
  refine x_iadd Γ dL_law_592 ?_
  refine x_sld Γl (j := i + 1) hL dL_law_593 (nI_add i 1) (by omega) ?_
  refine x_aload_n Γ dL_law_594 rfl ?_
  refine x_iload_n Γ dL_law_595 rfl ?_
  refine x_iconst Γ (v := 2) dL_law_596 rfl ?_
  refine x_iadd Γ dL_law_597 ?_
  refine x_sld Γl (j := i + 2) hL dL_law_598 (nI_add i 2) (by omega) ?_
  refine x_callV Γ calv_X4_ahead wl_L_76 dL_law_599 (m_X4_ahead hN hLL (xs (i + 1)) (xs (i + 2))) rfl (by decide) (by decide) rfl rfl rfl rfl (Nat.le_of_ble_eq_true rfl) (by decide) (by decide) ?_
  refine x_icmp_eq Γ (tgt := 1394) dL_law_602 (by decide) (fun _ => ?_) (fun z => absurd rfl z)
  exact kk _ ⟨_, _, _, _, _, rfl, wI_sm hI hI.1 sm_W⟩

set_option maxRecDepth 100000 in
set_option maxHeartbeats 4000000 in
theorem la_15 (Γl : zCl Wf V m H0 L xs) (hL : L ≤ 3072) {i : Nat} (hi : i + 6 ≤ L) {h : Nat → zE} (hq : wQ g h) (kk : ∀ h', wQ g h' → zX Wf V m 4 H0 1394 (zls [(0, .ref 5000), (1, .ref 0), (2, .ref 37), (3, .int (nI i))]) [] h' 46 46 1123) : zX Wf V m 4 H0 607 (zls [(0, .ref 5000), (1, .ref 0), (2, .ref 37), (3, .int (nI i))]) [] h 46 46 1123 := by
  have Γ := Γl.z
  obtain ⟨T, T2, T3, R, X, rfl, hI⟩ := hq
  obtain ⟨⟨N, hT⟩, hS, hTp, hKp⟩ := hI
  have hI : wI T T3 R := ⟨⟨N, hT⟩, hS, hTp, hKp⟩
  obtain ⟨hN, hH, hTk, hLL, hP, hKd, hB⟩ := id hT
  refine x_heap hR_cW ?_
  refine x_aload_n Γ dL_law_607 rfl ?_
  refine x_callVx Γ calv_X3_riot wl_L_77 dL_law_608 (m_X3_riot hN hH hB ) rfl (by decide) (by decide) rfl rfl rfl rfl (Nat.le_of_ble_eq_true rfl) (by decide) (by decide) (fun h_x hQ_x => ?_)
  obtain ⟨T2x, Xx, rfl⟩ := hQ_x
  refine x_heap hR_cW.symm ?_
  refine x_aload_n Γ dL_law_611 rfl ?_
  refine x_callV Γ calv_X4_riot wl_L_80 dL_law_612 (m_X4_riot hN hLL ) rfl (by decide) (by decide) rfl rfl rfl rfl (Nat.le_of_ble_eq_true rfl) (by decide) (by decide) ?_
  refine x_icmp_eq Γ (tgt := 1394) dL_law_615 (by decide) (fun _ => ?_) (fun z => absurd rfl z)
  exact kk _ ⟨_, _, _, _, _, rfl, wI_sm hI hI.1 sm_Rio⟩

set_option maxRecDepth 100000 in
set_option maxHeartbeats 4000000 in
theorem la_16 (Γl : zCl Wf V m H0 L xs) (hL : L ≤ 3072) {i : Nat} (hi : i + 6 ≤ L) {h : Nat → zE} (hq : wQ g h) (kk : ∀ h', wQ g h' → zX Wf V m 4 H0 1394 (zls [(0, .ref 5000), (1, .ref 0), (2, .ref 37), (3, .int (nI i))]) [] h' 46 46 1123) : zX Wf V m 4 H0 620 (zls [(0, .ref 5000), (1, .ref 0), (2, .ref 37), (3, .int (nI i))]) [] h 46 46 1123 := by
  have Γ := Γl.z
  obtain ⟨T, T2, T3, R, X, rfl, hI⟩ := hq
  obtain ⟨⟨N, hT⟩, hS, hTp, hKp⟩ := hI
  have hI : wI T T3 R := ⟨⟨N, hT⟩, hS, hTp, hKp⟩
  obtain ⟨hN, hH, hTk, hLL, hP, hKd, hB⟩ := id hT
  refine x_heap hR_cW ?_
  refine x_aload_n Γ dL_law_620 rfl ?_
  refine x_aload_n Γ dL_law_621 rfl ?_
  refine x_iload_n Γ dL_law_622 rfl ?_
  refine x_iconst Γ (v := 1) dL_law_623 rfl ?_
  refine x_iadd Γ dL_law_624 ?_
  refine x_sld Γl (j := i + 1) hL dL_law_625 (nI_add i 1) (by omega) ?_
  refine x_callVx Γ calv_X3_next wl_L_81 dL_law_626 (m_X3_next hN hH hB (xs (i + 1))) rfl (by decide) (by decide) rfl rfl rfl rfl (Nat.le_of_ble_eq_true rfl) (by decide) (by decide) (fun h_x hQ_x => ?_)
  obtain ⟨T2x, Xx, rfl⟩ := hQ_x
  refine x_heap hR_cW.symm ?_
  refine x_aload_n Γ dL_law_629 rfl ?_
  refine x_aload_n Γ dL_law_630 rfl ?_
  refine x_iload_n Γ dL_law_631 rfl ?_
  refine x_iconst Γ (v := 1) dL_law_632 rfl ?_
  refine x_iadd Γ dL_law_633 ?_
  refine x_sld Γl (j := i + 1) hL dL_law_634 (nI_add i 1) (by omega) ?_
  refine x_callV Γ calv_X4_next wl_L_84 dL_law_635 (m_X4_next hN hLL (xs (i + 1))) rfl (by decide) (by decide) rfl rfl rfl rfl (Nat.le_of_ble_eq_true rfl) (by decide) (by decide) ?_
  refine x_icmp_eq Γ (tgt := 1394) dL_law_638 (by decide) (fun _ => ?_) (fun z => absurd rfl z)
  exact kk _ ⟨_, _, _, _, _, rfl, wI_sm hI hI.1 sm_W⟩

set_option maxRecDepth 100000 in
set_option maxHeartbeats 4000000 in
theorem la_17 (Γl : zCl Wf V m H0 L xs) (hL : L ≤ 3072) {i : Nat} (hi : i + 6 ≤ L) {h : Nat → zE} (hq : wQ g h) (kk : ∀ h', wQ g h' → zX Wf V m 4 H0 1394 (zls [(0, .ref 5000), (1, .ref 0), (2, .ref 37), (3, .int (nI i))]) [] h' 46 46 1123) : zX Wf V m 4 H0 643 (zls [(0, .ref 5000), (1, .ref 0), (2, .ref 37), (3, .int (nI i))]) [] h 46 46 1123 := by
  have Γ := Γl.z
  obtain ⟨T, T2, T3, R, X, rfl, hI⟩ := hq
  obtain ⟨⟨N, hT⟩, hS, hTp, hKp⟩ := hI
  have hI : wI T T3 R := ⟨⟨N, hT⟩, hS, hTp, hKp⟩
  obtain ⟨hN, hH, hTk, hLL, hP, hKd, hB⟩ := id hT
  refine x_heap hR_cW ?_
  refine x_aload_n Γ dL_law_643 rfl ?_
  refine x_aload_n Γ dL_law_644 rfl ?_
  refine x_iload_n Γ dL_law_645 rfl ?_
  refine x_iconst Γ (v := 1) dL_law_646 rfl ?_
  refine x_iadd Γ dL_law_647 ?_
  refine x_sld Γl (j := i + 1) hL dL_law_648 (nI_add i 1) (by omega) ?_
  refine x_callVx Γ calv_X3_loaves wl_L_85 dL_law_649 (m_X3_loaves hN hH (xs (i + 1))) rfl (by decide) (by decide) rfl rfl rfl rfl (Nat.le_of_ble_eq_true rfl) (by decide) (by decide) (fun h_x hQ_x => ?_)
  obtain ⟨T2x, Xx, rfl⟩ := hQ_x
  refine x_heap hR_cW.symm ?_
  refine x_aload_n Γ dL_law_652 rfl ?_
  refine x_aload_n Γ dL_law_653 rfl ?_
  refine x_iload_n Γ dL_law_654 rfl ?_
  refine x_iconst Γ (v := 1) dL_law_655 rfl ?_
  refine x_iadd Γ dL_law_656 ?_
  refine x_sld Γl (j := i + 1) hL dL_law_657 (nI_add i 1) (by omega) ?_
  refine x_callV Γ calv_X4_loaves wl_L_88 dL_law_658 (m_X4_loaves hN hLL (xs (i + 1))) rfl (by decide) (by decide) rfl rfl rfl rfl (Nat.le_of_ble_eq_true rfl) (by decide) (by decide) ?_
  refine x_icmp_eq Γ (tgt := 1394) dL_law_661 (by decide) (fun _ => ?_) (fun z => absurd rfl z)
  exact kk _ ⟨_, _, _, _, _, rfl, wI_sm hI hI.1 sm_Rp⟩

set_option maxRecDepth 100000 in
set_option maxHeartbeats 4000000 in
theorem la_18 (Γl : zCl Wf V m H0 L xs) (hL : L ≤ 3072) {i : Nat} (hi : i + 6 ≤ L) {h : Nat → zE} (hq : wQ g h) (kk : ∀ h', wQ g h' → zX Wf V m 4 H0 1394 (zls [(0, .ref 5000), (1, .ref 0), (2, .ref 37), (3, .int (nI i))]) [] h' 46 46 1123) : zX Wf V m 4 H0 666 (zls [(0, .ref 5000), (1, .ref 0), (2, .ref 37), (3, .int (nI i))]) [] h 46 46 1123 := by
  have Γ := Γl.z
  obtain ⟨T, T2, T3, R, X, rfl, hI⟩ := hq
  obtain ⟨⟨N, hT⟩, hS, hTp, hKp⟩ := hI
  have hI : wI T T3 R := ⟨⟨N, hT⟩, hS, hTp, hKp⟩
  obtain ⟨hN, hH, hTk, hLL, hP, hKd, hB⟩ := id hT
  refine x_heap hR_cW ?_
  refine x_aload_n Γ dL_law_666 rfl ?_
  refine x_aload_n Γ dL_law_667 rfl ?_
  refine x_iload_n Γ dL_law_668 rfl ?_
  refine x_iconst Γ (v := 1) dL_law_669 rfl ?_
  refine x_iadd Γ dL_law_670 ?_
  refine x_sld Γl (j := i + 1) hL dL_law_671 (nI_add i 1) (by omega) ?_
  refine x_callVx Γ calv_X3_cheapest wl_L_89 dL_law_672 (m_X3_cheapest hN hH (xs (i + 1))) rfl (by decide) (by decide) rfl rfl rfl rfl (Nat.le_of_ble_eq_true rfl) (by decide) (by decide) (fun h_x hQ_x => ?_)
  obtain ⟨T2x, Xx, rfl⟩ := hQ_x
  refine x_heap hR_cW.symm ?_
  refine x_aload_n Γ dL_law_675 rfl ?_
  refine x_aload_n Γ dL_law_676 rfl ?_
  refine x_iload_n Γ dL_law_677 rfl ?_
  refine x_iconst Γ (v := 1) dL_law_678 rfl ?_
  refine x_iadd Γ dL_law_679 ?_
  refine x_sld Γl (j := i + 1) hL dL_law_680 (nI_add i 1) (by omega) ?_
  refine x_callV Γ calv_X4_cheapest wl_L_92 dL_law_681 (m_X4_cheapest hN hLL (xs (i + 1))) rfl (by decide) (by decide) rfl rfl rfl rfl (Nat.le_of_ble_eq_true rfl) (by decide) (by decide) ?_
  refine x_icmp_eq Γ (tgt := 1394) dL_law_684 (by decide) (fun _ => ?_) (fun z => absurd rfl z)
  exact kk _ ⟨_, _, _, _, _, rfl, wI_sm hI hI.1 sm_Che⟩

set_option maxRecDepth 100000 in
set_option maxHeartbeats 4000000 in
theorem la_19 (Γl : zCl Wf V m H0 L xs) (hL : L ≤ 3072) {i : Nat} (hi : i + 6 ≤ L) {h : Nat → zE} (hq : wQ g h) (kk : ∀ h', wQ g h' → zX Wf V m 4 H0 1394 (zls [(0, .ref 5000), (1, .ref 0), (2, .ref 37), (3, .int (nI i))]) [] h' 46 46 1123) : zX Wf V m 4 H0 689 (zls [(0, .ref 5000), (1, .ref 0), (2, .ref 37), (3, .int (nI i))]) [] h 46 46 1123 := by
  have Γ := Γl.z
  obtain ⟨T, T2, T3, R, X, rfl, hI⟩ := hq
  obtain ⟨⟨N, hT⟩, hS, hTp, hKp⟩ := hI
  have hI : wI T T3 R := ⟨⟨N, hT⟩, hS, hTp, hKp⟩
  obtain ⟨hN, hH, hTk, hLL, hP, hKd, hB⟩ := id hT
  refine x_heap hR_cW ?_
  refine x_aload_n Γ dL_law_689 rfl ?_
  refine x_aload_n Γ dL_law_690 rfl ?_
  refine x_iload_n Γ dL_law_691 rfl ?_
  refine x_iconst Γ (v := 1) dL_law_692 rfl ?_
  refine x_iadd Γ dL_law_693 ?_
  refine x_sld Γl (j := i + 1) hL dL_law_694 (nI_add i 1) (by omega) ?_
  refine x_callVx Γ calv_X3_leader wl_L_93 dL_law_695 (m_X3_leader hN hH hB (xs (i + 1))) rfl (by decide) (by decide) rfl rfl rfl rfl (Nat.le_of_ble_eq_true rfl) (by decide) (by decide) (fun h_x hQ_x => ?_)
  obtain ⟨T2x, Xx, rfl⟩ := hQ_x
  refine x_heap hR_cW.symm ?_
  refine x_aload_n Γ dL_law_698 rfl ?_
  refine x_aload_n Γ dL_law_699 rfl ?_
  refine x_iload_n Γ dL_law_700 rfl ?_
  refine x_iconst Γ (v := 1) dL_law_701 rfl ?_
  refine x_iadd Γ dL_law_702 ?_
  refine x_sld Γl (j := i + 1) hL dL_law_703 (nI_add i 1) (by omega) ?_
  refine x_callV Γ calv_X4_leader wl_L_96 dL_law_704 (m_X4_leader hN hLL (xs (i + 1))) rfl (by decide) (by decide) rfl rfl rfl rfl (Nat.le_of_ble_eq_true rfl) (by decide) (by decide) ?_
  refine x_icmp_eq Γ (tgt := 1394) dL_law_707 (by decide) (fun _ => ?_) (fun z => absurd rfl z)
  exact kk _ ⟨_, _, _, _, _, rfl, wI_sm hI hI.1 sm_Ld⟩

set_option maxRecDepth 100000 in
set_option maxHeartbeats 4000000 in
theorem la_20 (Γl : zCl Wf V m H0 L xs) (hL : L ≤ 3072) {i : Nat} (hi : i + 6 ≤ L) {h : Nat → zE} (hq : wQ g h) (kk : ∀ h', wQ g h' → zX Wf V m 4 H0 1394 (zls [(0, .ref 5000), (1, .ref 0), (2, .ref 37), (3, .int (nI i))]) [] h' 46 46 1123) : zX Wf V m 4 H0 712 (zls [(0, .ref 5000), (1, .ref 0), (2, .ref 37), (3, .int (nI i))]) [] h 46 46 1123 := by
  have Γ := Γl.z
  obtain ⟨T, T2, T3, R, X, rfl, hI⟩ := hq
  obtain ⟨⟨N, hT⟩, hS, hTp, hKp⟩ := hI
  have hI : wI T T3 R := ⟨⟨N, hT⟩, hS, hTp, hKp⟩
  obtain ⟨hN, hH, hTk, hLL, hP, hKd, hB⟩ := id hT
  refine x_heap hR_cW ?_
  refine x_aload_n Γ dL_law_712 rfl ?_
  refine x_aload_n Γ dL_law_713 rfl ?_
  refine x_iload_n Γ dL_law_714 rfl ?_
  refine x_iconst Γ (v := 1) dL_law_715 rfl ?_
  refine x_iadd Γ dL_law_716 ?_
  refine x_sld Γl (j := i + 1) hL dL_law_717 (nI_add i 1) (by omega) ?_
  refine x_aload_n Γ dL_law_718 rfl ?_
  refine x_iload_n Γ dL_law_719 rfl ?_
  refine x_iconst Γ (v := 2) dL_law_720 rfl ?_
  refine x_iadd Γ dL_law_721 ?_
  refine x_sld Γl (j := i + 2) hL dL_law_722 (nI_add i 2) (by omega) ?_
  refine x_callVx Γ calv_X3_colourFor wl_L_97 dL_law_723 (m_X3_colourFor hN hH (xs (i + 1)) (xs (i + 2))) rfl (by decide) (by decide) rfl rfl rfl rfl (Nat.le_of_ble_eq_true rfl) (by decide) (by decide) (fun h_x hQ_x => ?_)
  obtain ⟨T2x, Xx, rfl⟩ := hQ_x
  refine x_heap hR_cW.symm ?_
  refine x_aload_n Γ dL_law_726 rfl ?_
  refine x_aload_n Γ dL_law_727 rfl ?_
  refine x_iload_n Γ dL_law_728 rfl ?_
  refine x_iconst Γ (v := 1) dL_law_729 rfl ?_
  refine x_iadd Γ dL_law_730 ?_
  refine x_sld Γl (j := i + 1) hL dL_law_731 (nI_add i 1) (by omega) ?_
  refine x_aload_n Γ dL_law_732 rfl ?_
  refine x_iload_n Γ dL_law_733 rfl ?_
  refine x_iconst Γ (v := 2) dL_law_734 rfl ?_
  refine x_iadd Γ dL_law_735 ?_
  refine x_sld Γl (j := i + 2) hL dL_law_736 (nI_add i 2) (by omega) ?_
  refine x_callV Γ calv_X4_colourFor wl_L_100 dL_law_737 (m_X4_colourFor hN hLL (xs (i + 1)) (xs (i + 2))) rfl (by decide) (by decide) rfl rfl rfl rfl (Nat.le_of_ble_eq_true rfl) (by decide) (by decide) ?_
  refine x_icmp_eq Γ (tgt := 1394) dL_law_740 (by decide) (fun _ => ?_) (fun z => absurd rfl z)
  exact kk _ ⟨_, _, _, _, _, rfl, wI_sm hI hI.1 sm_Cf⟩

set_option maxRecDepth 100000 in
set_option maxHeartbeats 4000000 in
theorem la_21 (Γl : zCl Wf V m H0 L xs) (hL : L ≤ 3072) {i : Nat} (hi : i + 6 ≤ L) {h : Nat → zE} (hq : wQ g h) (kk : ∀ h', wQ g h' → zX Wf V m 4 H0 1394 (zls [(0, .ref 5000), (1, .ref 0), (2, .ref 37), (3, .int (nI i))]) [] h' 46 46 1123) : zX Wf V m 4 H0 745 (zls [(0, .ref 5000), (1, .ref 0), (2, .ref 37), (3, .int (nI i))]) [] h 46 46 1123 := by
  have Γ := Γl.z
  obtain ⟨T, T2, T3, R, X, rfl, hI⟩ := hq
  obtain ⟨⟨N, hT⟩, hS, hTp, hKp⟩ := hI
  have hI : wI T T3 R := ⟨⟨N, hT⟩, hS, hTp, hKp⟩
  obtain ⟨hN, hH, hTk, hLL, hP, hKd, hB⟩ := id hT
  refine x_heap hR_cW ?_
  refine x_aload_n Γ dL_law_745 rfl ?_
  refine x_aload_n Γ dL_law_746 rfl ?_
  refine x_iload_n Γ dL_law_747 rfl ?_
  refine x_iconst Γ (v := 1) dL_law_748 rfl ?_
  refine x_iadd Γ dL_law_749 ?_
  refine x_sld Γl (j := i + 1) hL dL_law_750 (nI_add i 1) (by omega) ?_
  refine x_aload_n Γ dL_law_751 rfl ?_
  refine x_iload_n Γ dL_law_752 rfl ?_
  refine x_iconst Γ (v := 2) dL_law_753 rfl ?_
  refine x_iadd Γ dL_law_754 ?_
  refine x_sld Γl (j := i + 2) hL dL_law_755 (nI_add i 2) (by omega) ?_
  refine x_callVx Γ calv_X3_kindFor wl_L_101 dL_law_756 (m_X3_kindFor hN hH (xs (i + 1)) (xs (i + 2))) rfl (by decide) (by decide) rfl rfl rfl rfl (Nat.le_of_ble_eq_true rfl) (by decide) (by decide) (fun h_x hQ_x => ?_)
  obtain ⟨T2x, Xx, rfl⟩ := hQ_x
  refine x_heap hR_cW.symm ?_
  refine x_aload_n Γ dL_law_759 rfl ?_
  refine x_aload_n Γ dL_law_760 rfl ?_
  refine x_iload_n Γ dL_law_761 rfl ?_
  refine x_iconst Γ (v := 1) dL_law_762 rfl ?_
  refine x_iadd Γ dL_law_763 ?_
  refine x_sld Γl (j := i + 1) hL dL_law_764 (nI_add i 1) (by omega) ?_
  refine x_aload_n Γ dL_law_765 rfl ?_
  refine x_iload_n Γ dL_law_766 rfl ?_
  refine x_iconst Γ (v := 2) dL_law_767 rfl ?_
  refine x_iadd Γ dL_law_768 ?_
  refine x_sld Γl (j := i + 2) hL dL_law_769 (nI_add i 2) (by omega) ?_
  refine x_callV Γ calv_X4_kindFor wl_L_104 dL_law_770 (m_X4_kindFor hN hLL (xs (i + 1)) (xs (i + 2))) rfl (by decide) (by decide) rfl rfl rfl rfl (Nat.le_of_ble_eq_true rfl) (by decide) (by decide) ?_
  refine x_icmp_eq Γ (tgt := 1394) dL_law_773 (by decide) (fun _ => ?_) (fun z => absurd rfl z)
  exact kk _ ⟨_, _, _, _, _, rfl, wI_sm hI hI.1 sm_Cf⟩

set_option maxRecDepth 100000 in
set_option maxHeartbeats 4000000 in
theorem la_22 (Γl : zCl Wf V m H0 L xs) (hL : L ≤ 3072) {i : Nat} (hi : i + 6 ≤ L) {h : Nat → zE} (hq : wQ g h) (kk : ∀ h', wQ g h' → zX Wf V m 4 H0 1394 (zls [(0, .ref 5000), (1, .ref 0), (2, .ref 37), (3, .int (nI i))]) [] h' 46 46 1123) : zX Wf V m 4 H0 778 (zls [(0, .ref 5000), (1, .ref 0), (2, .ref 37), (3, .int (nI i))]) [] h 46 46 1123 := by
  have Γ := Γl.z
  obtain ⟨T, T2, T3, R, X, rfl, hI⟩ := hq
  obtain ⟨⟨N, hT⟩, hS, hTp, hKp⟩ := hI
  have hI : wI T T3 R := ⟨⟨N, hT⟩, hS, hTp, hKp⟩
  obtain ⟨hN, hH, hTk, hLL, hP, hKd, hB⟩ := id hT
  refine x_heap hR_cW ?_
  refine x_aload_n Γ dL_law_778 rfl ?_
  refine x_aload_n Γ dL_law_779 rfl ?_
  refine x_iload_n Γ dL_law_780 rfl ?_
  refine x_iconst Γ (v := 1) dL_law_781 rfl ?_
  refine x_iadd Γ dL_law_782 ?_
  refine x_sld Γl (j := i + 1) hL dL_law_783 (nI_add i 1) (by omega) ?_
  refine x_callVx Γ calv_X3_stale wl_L_105 dL_law_784 (m_X3_stale hN hH (xs (i + 1))) rfl (by decide) (by decide) rfl rfl rfl rfl (Nat.le_of_ble_eq_true rfl) (by decide) (by decide) (fun h_x hQ_x => ?_)
  obtain ⟨T2x, Xx, rfl⟩ := hQ_x
  refine x_heap hR_cW.symm ?_
  refine x_aload_n Γ dL_law_787 rfl ?_
  refine x_aload_n Γ dL_law_788 rfl ?_
  refine x_iload_n Γ dL_law_789 rfl ?_
  refine x_iconst Γ (v := 1) dL_law_790 rfl ?_
  refine x_iadd Γ dL_law_791 ?_
  refine x_sld Γl (j := i + 1) hL dL_law_792 (nI_add i 1) (by omega) ?_
  refine x_callV Γ calv_X4_stale wl_L_108 dL_law_793 (m_X4_stale hN hLL (xs (i + 1))) rfl (by decide) (by decide) rfl rfl rfl rfl (Nat.le_of_ble_eq_true rfl) (by decide) (by decide) ?_
  refine x_icmp_eq Γ (tgt := 1394) dL_law_796 (by decide) (fun _ => ?_) (fun z => absurd rfl z)
  exact kk _ ⟨_, _, _, _, _, rfl, wI_sm hI hI.1 sm_Sta⟩

set_option maxRecDepth 100000 in
set_option maxHeartbeats 4000000 in
theorem la_23 (Γl : zCl Wf V m H0 L xs) (hL : L ≤ 3072) {i : Nat} (hi : i + 6 ≤ L) {h : Nat → zE} (hq : wQ g h) (kk : ∀ h', wQ g h' → zX Wf V m 4 H0 1394 (zls [(0, .ref 5000), (1, .ref 0), (2, .ref 37), (3, .int (nI i))]) [] h' 46 46 1123) : zX Wf V m 4 H0 801 (zls [(0, .ref 5000), (1, .ref 0), (2, .ref 37), (3, .int (nI i))]) [] h 46 46 1123 := by
  have Γ := Γl.z
  obtain ⟨T, T2, T3, R, X, rfl, hI⟩ := hq
  obtain ⟨⟨N, hT⟩, hS, hTp, hKp⟩ := hI
  have hI : wI T T3 R := ⟨⟨N, hT⟩, hS, hTp, hKp⟩
  obtain ⟨hN, hH, hTk, hLL, hP, hKd, hB⟩ := id hT
  refine x_heap hR_cW ?_
  refine x_aload_n Γ dL_law_801 rfl ?_
  refine x_aload_n Γ dL_law_802 rfl ?_
  refine x_iload_n Γ dL_law_803 rfl ?_
  refine x_iconst Γ (v := 1) dL_law_804 rfl ?_
  refine x_iadd Γ dL_law_805 ?_
  refine x_sld Γl (j := i + 1) hL dL_law_806 (nI_add i 1) (by omega) ?_
  refine x_callVx Γ calv_X3_bound wl_L_109 dL_law_807 (m_X3_bound hN hH (xs (i + 1))) rfl (by decide) (by decide) rfl rfl rfl rfl (Nat.le_of_ble_eq_true rfl) (by decide) (by decide) (fun h_x hQ_x => ?_)
  obtain ⟨T2x, Xx, rfl⟩ := hQ_x
  refine x_heap hR_cW.symm ?_
  refine x_aload_n Γ dL_law_810 rfl ?_
  refine x_aload_n Γ dL_law_811 rfl ?_
  refine x_iload_n Γ dL_law_812 rfl ?_
  refine x_iconst Γ (v := 1) dL_law_813 rfl ?_
  refine x_iadd Γ dL_law_814 ?_
  refine x_sld Γl (j := i + 1) hL dL_law_815 (nI_add i 1) (by omega) ?_
  refine x_callV Γ calv_X4_bound wl_L_112 dL_law_816 (m_X4_bound hN hLL (xs (i + 1))) rfl (by decide) (by decide) rfl rfl rfl rfl (Nat.le_of_ble_eq_true rfl) (by decide) (by decide) ?_
  refine x_icmp_eq Γ (tgt := 1394) dL_law_819 (by decide) (fun _ => ?_) (fun z => absurd rfl z)
  exact kk _ ⟨_, _, _, _, _, rfl, wI_sm hI hI.1 sm_Rp⟩

set_option maxRecDepth 100000 in
set_option maxHeartbeats 4000000 in
theorem la_24 (Γl : zCl Wf V m H0 L xs) (hL : L ≤ 3072) {i : Nat} (hi : i + 6 ≤ L) {h : Nat → zE} (hq : wQ g h) (kk : ∀ h', wQ g h' → zX Wf V m 4 H0 1394 (zls [(0, .ref 5000), (1, .ref 0), (2, .ref 37), (3, .int (nI i))]) [] h' 46 46 1123) : zX Wf V m 4 H0 824 (zls [(0, .ref 5000), (1, .ref 0), (2, .ref 37), (3, .int (nI i))]) [] h 46 46 1123 := by
  have Γ := Γl.z
  obtain ⟨T, T2, T3, R, X, rfl, hI⟩ := hq
  obtain ⟨⟨N, hT⟩, hS, hTp, hKp⟩ := hI
  have hI : wI T T3 R := ⟨⟨N, hT⟩, hS, hTp, hKp⟩
  obtain ⟨hN, hH, hTk, hLL, hP, hKd, hB⟩ := id hT
  refine x_heap hR_cW ?_
  refine x_aload_n Γ dL_law_824 rfl ?_
  refine x_aload_n Γ dL_law_825 rfl ?_
  refine x_iload_n Γ dL_law_826 rfl ?_
  refine x_iconst Γ (v := 1) dL_law_827 rfl ?_
  refine x_iadd Γ dL_law_828 ?_
  refine x_sld Γl (j := i + 1) hL dL_law_829 (nI_add i 1) (by omega) ?_
  refine x_aload_n Γ dL_law_830 rfl ?_
  refine x_iload_n Γ dL_law_831 rfl ?_
  refine x_iconst Γ (v := 2) dL_law_832 rfl ?_
  refine x_iadd Γ dL_law_833 ?_
  refine x_sld Γl (j := i + 2) hL dL_law_834 (nI_add i 2) (by omega) ?_
  refine x_callVx Γ calv_X3_law wl_L_113 dL_law_835 (m_X3_law hN hH (xs (i + 1)) (xs (i + 2))) rfl (by decide) (by decide) rfl rfl rfl rfl (Nat.le_of_ble_eq_true rfl) (by decide) (by decide) (fun h_x hQ_x => ?_)
  obtain ⟨T2x, Xx, rfl⟩ := hQ_x
  refine x_heap hR_cW.symm ?_
  refine x_aload_n Γ dL_law_838 rfl ?_
  refine x_aload_n Γ dL_law_839 rfl ?_
  refine x_iload_n Γ dL_law_840 rfl ?_
  refine x_iconst Γ (v := 1) dL_law_841 rfl ?_
  refine x_iadd Γ dL_law_842 ?_
  refine x_sld Γl (j := i + 1) hL dL_law_843 (nI_add i 1) (by omega) ?_
  refine x_aload_n Γ dL_law_844 rfl ?_
  refine x_iload_n Γ dL_law_845 rfl ?_
  refine x_iconst Γ (v := 2) dL_law_846 rfl ?_
  refine x_iadd Γ dL_law_847 ?_
  refine x_sld Γl (j := i + 2) hL dL_law_848 (nI_add i 2) (by omega) ?_
  refine x_callV Γ calv_X4_law wl_L_116 dL_law_849 (m_X4_law hN hLL (xs (i + 1)) (xs (i + 2))) rfl (by decide) (by decide) rfl rfl rfl rfl (Nat.le_of_ble_eq_true rfl) (by decide) (by decide) ?_
  refine x_icmp_eq Γ (tgt := 1394) dL_law_852 (by decide) (fun _ => ?_) (fun z => absurd rfl z)
  exact kk _ ⟨_, _, _, _, _, rfl, wI_sm hI hI.1 sm_Law⟩

set_option maxRecDepth 100000 in
set_option maxHeartbeats 4000000 in
theorem la_25 (Γl : zCl Wf V m H0 L xs) (hL : L ≤ 3072) {i : Nat} (hi : i + 6 ≤ L) {h : Nat → zE} (hq : wQ g h) (kk : ∀ h', wQ g h' → zX Wf V m 4 H0 1394 (zls [(0, .ref 5000), (1, .ref 0), (2, .ref 37), (3, .int (nI i))]) [] h' 46 46 1123) : zX Wf V m 4 H0 857 (zls [(0, .ref 5000), (1, .ref 0), (2, .ref 37), (3, .int (nI i))]) [] h 46 46 1123 := by
  have Γ := Γl.z
  obtain ⟨T, T2, T3, R, X, rfl, hI⟩ := hq
  obtain ⟨⟨N, hT⟩, hS, hTp, hKp⟩ := hI
  have hI : wI T T3 R := ⟨⟨N, hT⟩, hS, hTp, hKp⟩
  obtain ⟨hN, hH, hTk, hLL, hP, hKd, hB⟩ := id hT
  refine x_heap hR_cW ?_
  refine x_aload_n Γ dL_law_857 rfl ?_
  refine x_callVx Γ calv_X3_ways wl_L_117 dL_law_858 (m_X3_ways hN hH hLL ) rfl (by decide) (by decide) rfl rfl rfl rfl (Nat.le_of_ble_eq_true rfl) (by decide) (by decide) (fun h_x hQ_x => ?_)
  obtain ⟨T2x, Xx, rfl⟩ := hQ_x
  refine x_heap hR_cW.symm ?_
  refine x_aload_n Γ dL_law_861 rfl ?_
  refine x_callV Γ calv_X4_ways wl_L_121 dL_law_862 (m_X4_ways hN hLL ) rfl (by decide) (by decide) rfl rfl rfl rfl (Nat.le_of_ble_eq_true rfl) (by decide) (by decide) ?_
  refine x_lcmp Γ dL_law_865 ?_
  refine x_if_eq Γ (tgt := 1394) dL_law_866 (by decide) (fun _ => ?_) (fun z => absurd lgc_eq z)
  exact kk _ ⟨_, _, _, _, _, rfl, wI_sm hI hI.1 sm_rf⟩

set_option maxRecDepth 100000 in
set_option maxHeartbeats 4000000 in
theorem la_26 (Γl : zCl Wf V m H0 L xs) (hL : L ≤ 3072) {i : Nat} (hi : i + 6 ≤ L) {h : Nat → zE} (hq : wQ g h) (kk : ∀ h', wQ g h' → zX Wf V m 4 H0 1394 (zls [(0, .ref 5000), (1, .ref 0), (2, .ref 37), (3, .int (nI i))]) [] h' 46 46 1123) : zX Wf V m 4 H0 871 (zls [(0, .ref 5000), (1, .ref 0), (2, .ref 37), (3, .int (nI i))]) [] h 46 46 1123 := by
  have Γ := Γl.z
  obtain ⟨T, T2, T3, R, X, rfl, hI⟩ := hq
  obtain ⟨⟨N, hT⟩, hS, hTp, hKp⟩ := hI
  have hI : wI T T3 R := ⟨⟨N, hT⟩, hS, hTp, hKp⟩
  obtain ⟨hN, hH, hTk, hLL, hP, hKd, hB⟩ := id hT
  refine x_heap hR_cW ?_
  refine x_aload_n Γ dL_law_871 rfl ?_
  refine x_aload_n Γ dL_law_872 rfl ?_
  refine x_iload_n Γ dL_law_873 rfl ?_
  refine x_iconst Γ (v := 1) dL_law_874 rfl ?_
  refine x_iadd Γ dL_law_875 ?_
  refine x_sld Γl (j := i + 1) hL dL_law_876 (nI_add i 1) (by omega) ?_
  refine x_callVx Γ calv_X3_eats wl_L_122 dL_law_877 (m_X3_eats hN hH hLL (xs (i + 1))) rfl (by decide) (by decide) rfl rfl rfl rfl (Nat.le_of_ble_eq_true rfl) (by decide) (by decide) (fun h_x hQ_x => ?_)
  obtain ⟨T2x, Xx, rfl⟩ := hQ_x
  refine x_heap hR_cW.symm ?_
  refine x_aload_n Γ dL_law_880 rfl ?_
  refine x_aload_n Γ dL_law_881 rfl ?_
  refine x_iload_n Γ dL_law_882 rfl ?_
  refine x_iconst Γ (v := 1) dL_law_883 rfl ?_
  refine x_iadd Γ dL_law_884 ?_
  refine x_sld Γl (j := i + 1) hL dL_law_885 (nI_add i 1) (by omega) ?_
  refine x_callV Γ calv_X4_eats wl_L_126 dL_law_886 (m_X4_eats hN hLL (xs (i + 1))) rfl (by decide) (by decide) rfl rfl rfl rfl (Nat.le_of_ble_eq_true rfl) (by decide) (by decide) ?_
  refine x_lcmp Γ dL_law_889 ?_
  refine x_if_eq Γ (tgt := 1394) dL_law_890 (by decide) (fun _ => ?_) (fun z => absurd lgc_eq z)
  exact kk _ ⟨_, _, _, _, _, rfl, wI_sm hI hI.1 (sm_ite sm_1 (sm_f _))⟩

set_option maxRecDepth 100000 in
set_option maxHeartbeats 4000000 in
theorem la_27 (Γl : zCl Wf V m H0 L xs) (hL : L ≤ 3072) {i : Nat} (hi : i + 6 ≤ L) {h : Nat → zE} (hq : wQ g h) (kk : ∀ h', wQ g h' → zX Wf V m 4 H0 1394 (zls [(0, .ref 5000), (1, .ref 0), (2, .ref 37), (3, .int (nI i))]) [] h' 46 46 1123) : zX Wf V m 4 H0 895 (zls [(0, .ref 5000), (1, .ref 0), (2, .ref 37), (3, .int (nI i))]) [] h 46 46 1123 := by
  have Γ := Γl.z
  obtain ⟨T, T2, T3, R, X, rfl, hI⟩ := hq
  obtain ⟨⟨N, hT⟩, hS, hTp, hKp⟩ := hI
  have hI : wI T T3 R := ⟨⟨N, hT⟩, hS, hTp, hKp⟩
  obtain ⟨hN, hH, hTk, hLL, hP, hKd, hB⟩ := id hT
  refine x_heap hR_cW ?_
  refine x_aload_n Γ dL_law_895 rfl ?_
  refine x_aload_n Γ dL_law_896 rfl ?_
  refine x_iload_n Γ dL_law_897 rfl ?_
  refine x_iconst Γ (v := 1) dL_law_898 rfl ?_
  refine x_iadd Γ dL_law_899 ?_
  refine x_sld Γl (j := i + 1) hL dL_law_900 (nI_add i 1) (by omega) ?_
  refine x_callVx Γ calv_X3_busy wl_L_127 dL_law_901 (m_X3_busy hN hH hLL (xs (i + 1))) rfl (by decide) (by decide) rfl rfl rfl rfl (Nat.le_of_ble_eq_true rfl) (by decide) (by decide) (fun h_x hQ_x => ?_)
  obtain ⟨T2x, Xx, rfl⟩ := hQ_x
  refine x_heap hR_cW.symm ?_
  refine x_aload_n Γ dL_law_904 rfl ?_
  refine x_aload_n Γ dL_law_905 rfl ?_
  refine x_iload_n Γ dL_law_906 rfl ?_
  refine x_iconst Γ (v := 1) dL_law_907 rfl ?_
  refine x_iadd Γ dL_law_908 ?_
  refine x_sld Γl (j := i + 1) hL dL_law_909 (nI_add i 1) (by omega) ?_
  refine x_callV Γ calv_X4_busy wl_L_130 dL_law_910 (m_X4_busy hN hLL (xs (i + 1))) rfl (by decide) (by decide) rfl rfl rfl rfl (Nat.le_of_ble_eq_true rfl) (by decide) (by decide) ?_
  refine x_lcmp Γ dL_law_913 ?_
  refine x_if_eq Γ (tgt := 1394) dL_law_914 (by decide) (fun _ => ?_) (fun z => absurd lgc_eq z)
  exact kk _ ⟨_, _, _, _, _, rfl, wI_sm hI hI.1 (sm_ite sm_1 (sm_f _))⟩

set_option maxRecDepth 100000 in
set_option maxHeartbeats 4000000 in
theorem la_28 (Γl : zCl Wf V m H0 L xs) (hL : L ≤ 3072) {i : Nat} (hi : i + 6 ≤ L) {h : Nat → zE} (hq : wQ g h) (kk : ∀ h', wQ g h' → zX Wf V m 4 H0 1394 (zls [(0, .ref 5000), (1, .ref 0), (2, .ref 37), (3, .int (nI i))]) [] h' 46 46 1123) : zX Wf V m 4 H0 919 (zls [(0, .ref 5000), (1, .ref 0), (2, .ref 37), (3, .int (nI i))]) [] h 46 46 1123 := by
  have Γ := Γl.z
  obtain ⟨T, T2, T3, R, X, rfl, hI⟩ := hq
  obtain ⟨⟨N, hT⟩, hS, hTp, hKp⟩ := hI
  have hI : wI T T3 R := ⟨⟨N, hT⟩, hS, hTp, hKp⟩
  obtain ⟨hN, hH, hTk, hLL, hP, hKd, hB⟩ := id hT
  refine x_heap hR_cW ?_
  refine x_aload_n Γ dL_law_919 rfl ?_
  refine x_aload_n Γ dL_law_920 rfl ?_
  refine x_iload_n Γ dL_law_921 rfl ?_
  refine x_iconst Γ (v := 1) dL_law_922 rfl ?_
  refine x_iadd Γ dL_law_923 ?_
  refine x_sld Γl (j := i + 1) hL dL_law_924 (nI_add i 1) (by omega) ?_
  refine x_callVx Γ calv_X3_famine wl_L_131 dL_law_925 (m_X3_famine hN (xs (i + 1))) rfl (by decide) (by decide) rfl rfl rfl rfl (Nat.le_of_ble_eq_true rfl) (by decide) (by decide) (fun h_x hQ_x => ?_)
  obtain ⟨T2x, Xx, rfl⟩ := hQ_x
  refine x_heap hR_cW.symm ?_
  refine x_aload_n Γ dL_law_928 rfl ?_
  refine x_aload_n Γ dL_law_929 rfl ?_
  refine x_iload_n Γ dL_law_930 rfl ?_
  refine x_iconst Γ (v := 1) dL_law_931 rfl ?_
  refine x_iadd Γ dL_law_932 ?_
  refine x_sld Γl (j := i + 1) hL dL_law_933 (nI_add i 1) (by omega) ?_
  refine x_callV Γ calv_X4_famine wl_L_134 dL_law_934 (m_X4_famine hN (xs (i + 1))) rfl (by decide) (by decide) rfl rfl rfl rfl (Nat.le_of_ble_eq_true rfl) (by decide) (by decide) ?_
  refine x_icmp_eq Γ (tgt := 1394) dL_law_937 (by decide) (fun _ => ?_) (fun z => absurd rfl z)
  exact kk _ ⟨_, _, _, _, _, rfl, wI_sm hI (iT_fam hT _) (sm_f _)⟩

set_option maxRecDepth 100000 in
set_option maxHeartbeats 4000000 in
theorem la_29 (Γl : zCl Wf V m H0 L xs) (hL : L ≤ 3072) {i : Nat} (hi : i + 6 ≤ L) {h : Nat → zE} (hq : wQ g h) (kk : ∀ h', wQ g h' → zX Wf V m 4 H0 1394 (zls [(0, .ref 5000), (1, .ref 0), (2, .ref 37), (3, .int (nI i))]) [] h' 46 46 1123) : zX Wf V m 4 H0 942 (zls [(0, .ref 5000), (1, .ref 0), (2, .ref 37), (3, .int (nI i))]) [] h 46 46 1123 := by
  have Γ := Γl.z
  obtain ⟨T, T2, T3, R, X, rfl, hI⟩ := hq
  obtain ⟨⟨N, hT⟩, hS, hTp, hKp⟩ := hI
  have hI : wI T T3 R := ⟨⟨N, hT⟩, hS, hTp, hKp⟩
  obtain ⟨hN, hH, hTk, hLL, hP, hKd, hB⟩ := id hT
  refine x_heap hR_cW ?_
  refine x_aload_n Γ dL_law_942 rfl ?_
  refine x_aload_n Γ dL_law_943 rfl ?_
  refine x_iload_n Γ dL_law_944 rfl ?_
  refine x_iconst Γ (v := 1) dL_law_945 rfl ?_
  refine x_iadd Γ dL_law_946 ?_
  refine x_sld Γl (j := i + 1) hL dL_law_947 (nI_add i 1) (by omega) ?_
  refine x_callVx Γ calv_X3_seed wl_L_135 dL_law_948 (m_X3_seed  (xs (i + 1))) rfl (by decide) (by decide) rfl rfl rfl rfl (Nat.le_of_ble_eq_true rfl) (by decide) (by decide) (fun h_x hQ_x => ?_)
  obtain ⟨T2x, Xx, rfl⟩ := hQ_x
  refine x_heap hR_cW.symm ?_
  refine x_aload_n Γ dL_law_951 rfl ?_
  refine x_aload_n Γ dL_law_952 rfl ?_
  refine x_iload_n Γ dL_law_953 rfl ?_
  refine x_iconst Γ (v := 1) dL_law_954 rfl ?_
  refine x_iadd Γ dL_law_955 ?_
  refine x_sld Γl (j := i + 1) hL dL_law_956 (nI_add i 1) (by omega) ?_
  refine x_callV Γ calv_X4_seed wl_L_138 dL_law_957 (m_X4_seed  (xs (i + 1))) rfl (by decide) (by decide) rfl rfl rfl rfl (Nat.le_of_ble_eq_true rfl) (by decide) (by decide) ?_
  refine x_icmp_eq Γ (tgt := 1394) dL_law_960 (by decide) (fun _ => ?_) (fun z => absurd rfl z)
  exact kk _ ⟨_, _, _, _, _, rfl, wI_sm hI ⟨N, iTN_seed hT _⟩ sm_rf⟩

set_option maxRecDepth 100000 in
set_option maxHeartbeats 4000000 in
theorem la_30 (Γl : zCl Wf V m H0 L xs) (hL : L ≤ 3072) {i : Nat} (hi : i + 6 ≤ L) {h : Nat → zE} (hq : wQ g h) (kk : ∀ h', wQ g h' → zX Wf V m 4 H0 1394 (zls [(0, .ref 5000), (1, .ref 0), (2, .ref 37), (3, .int (nI i))]) [] h' 46 46 1123) : zX Wf V m 4 H0 965 (zls [(0, .ref 5000), (1, .ref 0), (2, .ref 37), (3, .int (nI i))]) [] h 46 46 1123 := by
  have Γ := Γl.z
  obtain ⟨T, T2, T3, R, X, rfl, hI⟩ := hq
  obtain ⟨⟨N, hT⟩, hS, hTp, hKp⟩ := hI
  have hI : wI T T3 R := ⟨⟨N, hT⟩, hS, hTp, hKp⟩
  obtain ⟨hN, hH, hTk, hLL, hP, hKd, hB⟩ := id hT
  refine x_heap hR_cW ?_
  refine x_aload_n Γ dL_law_965 rfl ?_
  refine x_aload_n Γ dL_law_966 rfl ?_
  refine x_iload_n Γ dL_law_967 rfl ?_
  refine x_iconst Γ (v := 1) dL_law_968 rfl ?_
  refine x_iadd Γ dL_law_969 ?_
  refine x_sld Γl (j := i + 1) hL dL_law_970 (nI_add i 1) (by omega) ?_
  refine x_aload_n Γ dL_law_971 rfl ?_
  refine x_iload_n Γ dL_law_972 rfl ?_
  refine x_iconst Γ (v := 2) dL_law_973 rfl ?_
  refine x_iadd Γ dL_law_974 ?_
  refine x_sld Γl (j := i + 2) hL dL_law_975 (nI_add i 2) (by omega) ?_
  refine x_callVx Γ calv_X3_feed wl_L_139 dL_law_976 (m_X3_feed hTp (xs (i + 1)) (xs (i + 2))) rfl (by decide) (by decide) rfl rfl rfl rfl (Nat.le_of_ble_eq_true rfl) (by decide) (by decide) (fun h_x hQ_x => ?_)
  obtain ⟨T2x, Xx, rfl⟩ := hQ_x
  refine x_heap hR_cW.symm ?_
  refine x_aload_n Γ dL_law_979 rfl ?_
  refine x_aload_n Γ dL_law_980 rfl ?_
  refine x_iload_n Γ dL_law_981 rfl ?_
  refine x_iconst Γ (v := 1) dL_law_982 rfl ?_
  refine x_iadd Γ dL_law_983 ?_
  refine x_sld Γl (j := i + 1) hL dL_law_984 (nI_add i 1) (by omega) ?_
  refine x_aload_n Γ dL_law_985 rfl ?_
  refine x_iload_n Γ dL_law_986 rfl ?_
  refine x_iconst Γ (v := 2) dL_law_987 rfl ?_
  refine x_iadd Γ dL_law_988 ?_
  refine x_sld Γl (j := i + 2) hL dL_law_989 (nI_add i 2) (by omega) ?_
  refine x_callV Γ calv_X4_feed wl_L_142 dL_law_990 (m_X4_feed hTp (xs (i + 1)) (xs (i + 2))) rfl (by decide) (by decide) rfl rfl rfl rfl (Nat.le_of_ble_eq_true rfl) (by decide) (by decide) ?_
  refine x_icmp_eq Γ (tgt := 1394) dL_law_993 (by decide) (fun _ => ?_) (fun z => absurd rfl z)
  exact kk _ ⟨_, _, _, _, _, rfl, wI_Fd hI⟩

set_option maxRecDepth 100000 in
set_option maxHeartbeats 4000000 in
theorem la_31 (Γl : zCl Wf V m H0 L xs) (hL : L ≤ 3072) {i : Nat} (hi : i + 6 ≤ L) {h : Nat → zE} (hq : wQ g h) (kk : ∀ h', wQ g h' → zX Wf V m 4 H0 1394 (zls [(0, .ref 5000), (1, .ref 0), (2, .ref 37), (3, .int (nI i))]) [] h' 46 46 1123) : zX Wf V m 4 H0 998 (zls [(0, .ref 5000), (1, .ref 0), (2, .ref 37), (3, .int (nI i))]) [] h 46 46 1123 := by
  have Γ := Γl.z
  obtain ⟨T, T2, T3, R, X, rfl, hI⟩ := hq
  obtain ⟨⟨N, hT⟩, hS, hTp, hKp⟩ := hI
  have hI : wI T T3 R := ⟨⟨N, hT⟩, hS, hTp, hKp⟩
  obtain ⟨hN, hH, hTk, hLL, hP, hKd, hB⟩ := id hT
  refine x_heap hR_cW ?_
  refine x_aload_n Γ dL_law_998 rfl ?_
  refine x_callVx Γ calv_X3_wipe wl_L_143 dL_law_999 (m_X3_wipe  ) rfl (by decide) (by decide) rfl rfl rfl rfl (Nat.le_of_ble_eq_true rfl) (by decide) (by decide) (fun h_x hQ_x => ?_)
  obtain ⟨T2x, Xx, rfl⟩ := hQ_x
  refine x_heap hR_cW.symm ?_
  refine x_aload_n Γ dL_law_1002 rfl ?_
  refine x_callV Γ calv_X4_wipe wl_L_146 dL_law_1003 (m_X4_wipe  ) rfl (by decide) (by decide) rfl rfl rfl rfl (Nat.le_of_ble_eq_true rfl) (by decide) (by decide) ?_
  refine x_icmp_eq Γ (tgt := 1394) dL_law_1006 (by decide) (fun _ => ?_) (fun z => absurd rfl z)
  exact kk _ ⟨_, _, _, _, _, rfl, wI_wipe hI hI.1⟩

set_option maxRecDepth 100000 in
set_option maxHeartbeats 4000000 in
theorem la_32 (Γl : zCl Wf V m H0 L xs) (hL : L ≤ 3072) {i : Nat} (hi : i + 6 ≤ L) {h : Nat → zE} (hq : wQ g h) (kk : ∀ h', wQ g h' → zX Wf V m 4 H0 1394 (zls [(0, .ref 5000), (1, .ref 0), (2, .ref 37), (3, .int (nI i))]) [] h' 46 46 1123) : zX Wf V m 4 H0 1011 (zls [(0, .ref 5000), (1, .ref 0), (2, .ref 37), (3, .int (nI i))]) [] h 46 46 1123 := by
  have Γ := Γl.z
  obtain ⟨T, T2, T3, R, X, rfl, hI⟩ := hq
  obtain ⟨⟨N, hT⟩, hS, hTp, hKp⟩ := hI
  have hI : wI T T3 R := ⟨⟨N, hT⟩, hS, hTp, hKp⟩
  obtain ⟨hN, hH, hTk, hLL, hP, hKd, hB⟩ := id hT
  refine x_heap hR_cW ?_
  refine x_aload_n Γ dL_law_1011 rfl ?_
  obtain ⟨b, hb, eb⟩ := hTp
  refine x_callVx Γ calv_X3_text wl_L_147 dL_law_1012 (m_X3_text (L := b) hb eb hN ) rfl (by decide) (by decide) rfl rfl rfl rfl (Nat.le_of_ble_eq_true rfl) (by decide) (by decide) (fun h_x hQ_x => ?_)
  obtain ⟨T2x, Xx, rfl⟩ := hQ_x
  refine x_heap hR_cW.symm ?_
  refine x_aload_n Γ dL_law_1015 rfl ?_
  refine x_callVx Γ calv_X4_text wl_L_150 dL_law_1016 (m_X4_text (L := b) hb rfl eb hN ) rfl (by decide) (by decide) rfl rfl rfl rfl (Nat.le_of_ble_eq_true rfl) (by decide) (by decide) (fun h_x hQ_x => ?_)
  obtain ⟨Q, rfl, hv, h0⟩ := hQ_x
  refine x_icmp_eq Γ (tgt := 1394) dL_law_1019 (by decide) (fun _ => ?_) (fun z => absurd rfl z)
  exact kk _ ⟨_, _, _, Q, _, by rw [cW_vis hv], wI_tx hI (iT_tx hI.1) hv h0⟩

set_option maxRecDepth 100000 in
set_option maxHeartbeats 4000000 in
theorem la_33 (Γl : zCl Wf V m H0 L xs) (hL : L ≤ 3072) {i : Nat} (hi : i + 6 ≤ L) {h : Nat → zE} (hq : wQ g h) (kk : ∀ h', wQ g h' → zX Wf V m 4 H0 1394 (zls [(0, .ref 5000), (1, .ref 0), (2, .ref 37), (3, .int (nI i))]) [] h' 46 46 1123) : zX Wf V m 4 H0 1024 (zls [(0, .ref 5000), (1, .ref 0), (2, .ref 37), (3, .int (nI i))]) [] h 46 46 1123 := by
  have Γ := Γl.z
  obtain ⟨T, T2, T3, R, X, rfl, hI⟩ := hq
  obtain ⟨⟨N, hT⟩, hS, hTp, hKp⟩ := hI
  have hI : wI T T3 R := ⟨⟨N, hT⟩, hS, hTp, hKp⟩
  obtain ⟨hN, hH, hTk, hLL, hP, hKd, hB⟩ := id hT
  refine x_heap hR_cW ?_
  refine x_aload_n Γ dL_law_1024 rfl ?_
  refine x_aload_n Γ dL_law_1025 rfl ?_
  refine x_iload_n Γ dL_law_1026 rfl ?_
  refine x_iconst Γ (v := 1) dL_law_1027 rfl ?_
  refine x_iadd Γ dL_law_1028 ?_
  refine x_sld Γl (j := i + 1) hL dL_law_1029 (nI_add i 1) (by omega) ?_
  refine x_aload_n Γ dL_law_1030 rfl ?_
  refine x_iload_n Γ dL_law_1031 rfl ?_
  refine x_iconst Γ (v := 2) dL_law_1032 rfl ?_
  refine x_iadd Γ dL_law_1033 ?_
  refine x_sld Γl (j := i + 2) hL dL_law_1034 (nI_add i 2) (by omega) ?_
  refine x_callVx Γ calv_X3_hold wl_L_151 dL_law_1035 (m_X3_hold hN (xs (i + 1)) (xs (i + 2))) rfl (by decide) (by decide) rfl rfl rfl rfl (Nat.le_of_ble_eq_true rfl) (by decide) (by decide) (fun h_x hQ_x => ?_)
  obtain ⟨T2x, Xx, rfl⟩ := hQ_x
  refine x_heap hR_cW.symm ?_
  refine x_aload_n Γ dL_law_1038 rfl ?_
  refine x_aload_n Γ dL_law_1039 rfl ?_
  refine x_iload_n Γ dL_law_1040 rfl ?_
  refine x_iconst Γ (v := 1) dL_law_1041 rfl ?_
  refine x_iadd Γ dL_law_1042 ?_
  refine x_sld Γl (j := i + 1) hL dL_law_1043 (nI_add i 1) (by omega) ?_
  refine x_aload_n Γ dL_law_1044 rfl ?_
  refine x_iload_n Γ dL_law_1045 rfl ?_
  refine x_iconst Γ (v := 2) dL_law_1046 rfl ?_
  refine x_iadd Γ dL_law_1047 ?_
  refine x_sld Γl (j := i + 2) hL dL_law_1048 (nI_add i 2) (by omega) ?_
  refine x_callV Γ calv_X4_hold wl_L_154 dL_law_1049 (m_X4_hold hN (xs (i + 1)) (xs (i + 2))) rfl (by decide) (by decide) rfl rfl rfl rfl (Nat.le_of_ble_eq_true rfl) (by decide) (by decide) ?_
  refine x_icmp_eq Γ (tgt := 1394) dL_law_1052 (by decide) (fun _ => ?_) (fun z => absurd rfl z)
  exact kk _ ⟨_, _, _, _, _, rfl, wI_sm hI (iT_hol hI.1 _ _) (sm_f _)⟩

set_option maxRecDepth 100000 in
set_option maxHeartbeats 4000000 in
theorem la_34 (Γl : zCl Wf V m H0 L xs) (hL : L ≤ 3072) {i : Nat} (hi : i + 6 ≤ L) {h : Nat → zE} (hq : wQ g h) (kk : ∀ h', wQ g h' → zX Wf V m 4 H0 1394 (zls [(0, .ref 5000), (1, .ref 0), (2, .ref 37), (3, .int (nI i))]) [] h' 46 46 1123) : zX Wf V m 4 H0 1057 (zls [(0, .ref 5000), (1, .ref 0), (2, .ref 37), (3, .int (nI i))]) [] h 46 46 1123 := by
  have Γ := Γl.z
  obtain ⟨T, T2, T3, R, X, rfl, hI⟩ := hq
  obtain ⟨⟨N, hT⟩, hS, hTp, hKp⟩ := hI
  have hI : wI T T3 R := ⟨⟨N, hT⟩, hS, hTp, hKp⟩
  obtain ⟨hN, hH, hTk, hLL, hP, hKd, hB⟩ := id hT
  refine x_heap hR_cW ?_
  refine x_aload_n Γ dL_law_1057 rfl ?_
  refine x_aload_n Γ dL_law_1058 rfl ?_
  refine x_iload_n Γ dL_law_1059 rfl ?_
  refine x_iconst Γ (v := 1) dL_law_1060 rfl ?_
  refine x_iadd Γ dL_law_1061 ?_
  refine x_sld Γl (j := i + 1) hL dL_law_1062 (nI_add i 1) (by omega) ?_
  refine x_aload_n Γ dL_law_1063 rfl ?_
  refine x_iload_n Γ dL_law_1064 rfl ?_
  refine x_iconst Γ (v := 2) dL_law_1065 rfl ?_
  refine x_iadd Γ dL_law_1066 ?_
  refine x_sld Γl (j := i + 2) hL dL_law_1067 (nI_add i 2) (by omega) ?_
  refine x_callVx Γ calv_X3_as wl_L_155 dL_law_1068 (m_X3_as hN hP hKd (xs (i + 1)) (xs (i + 2))) rfl (by decide) (by decide) rfl rfl rfl rfl (Nat.le_of_ble_eq_true rfl) (by decide) (by decide) (fun h_x hQ_x => ?_)
  obtain ⟨T2x, Xx, rfl⟩ := hQ_x
  refine x_heap hR_cW.symm ?_
  refine x_aload_n Γ dL_law_1071 rfl ?_
  refine x_aload_n Γ dL_law_1072 rfl ?_
  refine x_iload_n Γ dL_law_1073 rfl ?_
  refine x_iconst Γ (v := 1) dL_law_1074 rfl ?_
  refine x_iadd Γ dL_law_1075 ?_
  refine x_sld Γl (j := i + 1) hL dL_law_1076 (nI_add i 1) (by omega) ?_
  refine x_aload_n Γ dL_law_1077 rfl ?_
  refine x_iload_n Γ dL_law_1078 rfl ?_
  refine x_iconst Γ (v := 2) dL_law_1079 rfl ?_
  refine x_iadd Γ dL_law_1080 ?_
  refine x_sld Γl (j := i + 2) hL dL_law_1081 (nI_add i 2) (by omega) ?_
  refine x_callV Γ calv_X4_as wl_L_158 dL_law_1082 (m_X4_as hN hP (xs (i + 1)) (xs (i + 2))) rfl (by decide) (by decide) rfl rfl rfl rfl (Nat.le_of_ble_eq_true rfl) (by decide) (by decide) ?_
  refine x_icmp_eq Γ (tgt := 1394) dL_law_1085 (by decide) (fun _ => ?_) (fun z => absurd rfl z)
  exact kk _ ⟨_, _, _, _, _, rfl, wI_sm hI hI.1 (sm_f _)⟩

set_option maxRecDepth 100000 in
set_option maxHeartbeats 4000000 in
theorem la_35 (Γl : zCl Wf V m H0 L xs) (hL : L ≤ 3072) {i : Nat} (hi : i + 6 ≤ L) {h : Nat → zE} (hq : wQ g h) (kk : ∀ h', wQ g h' → zX Wf V m 4 H0 1394 (zls [(0, .ref 5000), (1, .ref 0), (2, .ref 37), (3, .int (nI i))]) [] h' 46 46 1123) : zX Wf V m 4 H0 1090 (zls [(0, .ref 5000), (1, .ref 0), (2, .ref 37), (3, .int (nI i))]) [] h 46 46 1123 := by
  have Γ := Γl.z
  obtain ⟨T, T2, T3, R, X, rfl, hI⟩ := hq
  obtain ⟨⟨N, hT⟩, hS, hTp, hKp⟩ := hI
  have hI : wI T T3 R := ⟨⟨N, hT⟩, hS, hTp, hKp⟩
  obtain ⟨hN, hH, hTk, hLL, hP, hKd, hB⟩ := id hT
  refine x_heap hR_cW ?_
  refine x_aload_n Γ dL_law_1090 rfl ?_
  refine x_aload_n Γ dL_law_1091 rfl ?_
  refine x_iload_n Γ dL_law_1092 rfl ?_
  refine x_iconst Γ (v := 1) dL_law_1093 rfl ?_
  refine x_iadd Γ dL_law_1094 ?_
  refine x_sld Γl (j := i + 1) hL dL_law_1095 (nI_add i 1) (by omega) ?_
  refine x_aload_n Γ dL_law_1096 rfl ?_
  refine x_iload_n Γ dL_law_1097 rfl ?_
  refine x_iconst Γ (v := 2) dL_law_1098 rfl ?_
  refine x_iadd Γ dL_law_1099 ?_
  refine x_sld Γl (j := i + 2) hL dL_law_1100 (nI_add i 2) (by omega) ?_
  refine x_aload_n Γ dL_law_1101 rfl ?_
  refine x_iload_n Γ dL_law_1102 rfl ?_
  refine x_iconst Γ (v := 3) dL_law_1103 rfl ?_
  refine x_iadd Γ dL_law_1104 ?_
  refine x_sld Γl (j := i + 3) hL dL_law_1105 (nI_add i 3) (by omega) ?_
  refine x_callVx Γ calv_X3_sheet wl_L_159 dL_law_1106 (m_X3_sheet  (xs (i + 1)) (xs (i + 2)) (xs (i + 3))) rfl (by decide) (by decide) rfl rfl rfl rfl (Nat.le_of_ble_eq_true rfl) (by decide) (by decide) (fun h_x hQ_x => ?_)
  obtain ⟨T2x, Xx, rfl⟩ := hQ_x
  refine x_heap hR_cW.symm ?_
  refine x_aload_n Γ dL_law_1109 rfl ?_
  refine x_aload_n Γ dL_law_1110 rfl ?_
  refine x_iload_n Γ dL_law_1111 rfl ?_
  refine x_iconst Γ (v := 1) dL_law_1112 rfl ?_
  refine x_iadd Γ dL_law_1113 ?_
  refine x_sld Γl (j := i + 1) hL dL_law_1114 (nI_add i 1) (by omega) ?_
  refine x_aload_n Γ dL_law_1115 rfl ?_
  refine x_iload_n Γ dL_law_1116 rfl ?_
  refine x_iconst Γ (v := 2) dL_law_1117 rfl ?_
  refine x_iadd Γ dL_law_1118 ?_
  refine x_sld Γl (j := i + 2) hL dL_law_1119 (nI_add i 2) (by omega) ?_
  refine x_aload_n Γ dL_law_1120 rfl ?_
  refine x_iload_n Γ dL_law_1121 rfl ?_
  refine x_iconst Γ (v := 3) dL_law_1122 rfl ?_
  refine x_iadd Γ dL_law_1123 ?_
  refine x_sld Γl (j := i + 3) hL dL_law_1124 (nI_add i 3) (by omega) ?_
  refine x_callV Γ calv_X4_sheet wl_L_162 dL_law_1125 (m_X4_sheet  (xs (i + 1)) (xs (i + 2)) (xs (i + 3))) rfl (by decide) (by decide) rfl rfl rfl rfl (Nat.le_of_ble_eq_true rfl) (by decide) (by decide) ?_
  refine x_icmp_eq Γ (tgt := 1394) dL_law_1128 (by decide) (fun _ => ?_) (fun z => absurd rfl z)
  exact kk _ ⟨_, _, _, _, _, rfl, wI_Sh hI⟩

set_option maxRecDepth 100000 in
set_option maxHeartbeats 4000000 in
theorem la_36 (Γl : zCl Wf V m H0 L xs) (hL : L ≤ 3072) {i : Nat} (hi : i + 6 ≤ L) {h : Nat → zE} (hq : wQ g h) (kk : ∀ h', wQ g h' → zX Wf V m 4 H0 1394 (zls [(0, .ref 5000), (1, .ref 0), (2, .ref 37), (3, .int (nI i))]) [] h' 46 46 1123) : zX Wf V m 4 H0 1133 (zls [(0, .ref 5000), (1, .ref 0), (2, .ref 37), (3, .int (nI i))]) [] h 46 46 1123 := by
  have Γ := Γl.z
  obtain ⟨T, T2, T3, R, X, rfl, hI⟩ := hq
  obtain ⟨⟨N, hT⟩, hS, hTp, hKp⟩ := hI
  have hI : wI T T3 R := ⟨⟨N, hT⟩, hS, hTp, hKp⟩
  obtain ⟨hN, hH, hTk, hLL, hP, hKd, hB⟩ := id hT
  refine x_heap hR_cW ?_
  refine x_aload_n Γ dL_law_1133 rfl ?_
  refine x_aload_n Γ dL_law_1134 rfl ?_
  refine x_iload_n Γ dL_law_1135 rfl ?_
  refine x_iconst Γ (v := 1) dL_law_1136 rfl ?_
  refine x_iadd Γ dL_law_1137 ?_
  refine x_sld Γl (j := i + 1) hL dL_law_1138 (nI_add i 1) (by omega) ?_
  refine x_aload_n Γ dL_law_1139 rfl ?_
  refine x_iload_n Γ dL_law_1140 rfl ?_
  refine x_iconst Γ (v := 2) dL_law_1141 rfl ?_
  refine x_iadd Γ dL_law_1142 ?_
  refine x_sld Γl (j := i + 2) hL dL_law_1143 (nI_add i 2) (by omega) ?_
  refine x_aload_n Γ dL_law_1144 rfl ?_
  refine x_iload_n Γ dL_law_1145 rfl ?_
  refine x_iconst Γ (v := 3) dL_law_1146 rfl ?_
  refine x_iadd Γ dL_law_1147 ?_
  refine x_sld Γl (j := i + 3) hL dL_law_1148 (nI_add i 3) (by omega) ?_
  refine x_callVx Γ calv_X3_write wl_L_163 dL_law_1149 (m_X3_write hS (xs (i + 1)) (xs (i + 2)) (xs (i + 3))) rfl (by decide) (by decide) rfl rfl rfl rfl (Nat.le_of_ble_eq_true rfl) (by decide) (by decide) (fun h_x hQ_x => ?_)
  obtain ⟨T2x, Xx, rfl⟩ := hQ_x
  refine x_heap hR_cW.symm ?_
  refine x_aload_n Γ dL_law_1152 rfl ?_
  refine x_aload_n Γ dL_law_1153 rfl ?_
  refine x_iload_n Γ dL_law_1154 rfl ?_
  refine x_iconst Γ (v := 1) dL_law_1155 rfl ?_
  refine x_iadd Γ dL_law_1156 ?_
  refine x_sld Γl (j := i + 1) hL dL_law_1157 (nI_add i 1) (by omega) ?_
  refine x_aload_n Γ dL_law_1158 rfl ?_
  refine x_iload_n Γ dL_law_1159 rfl ?_
  refine x_iconst Γ (v := 2) dL_law_1160 rfl ?_
  refine x_iadd Γ dL_law_1161 ?_
  refine x_sld Γl (j := i + 2) hL dL_law_1162 (nI_add i 2) (by omega) ?_
  refine x_aload_n Γ dL_law_1163 rfl ?_
  refine x_iload_n Γ dL_law_1164 rfl ?_
  refine x_iconst Γ (v := 3) dL_law_1165 rfl ?_
  refine x_iadd Γ dL_law_1166 ?_
  refine x_sld Γl (j := i + 3) hL dL_law_1167 (nI_add i 3) (by omega) ?_
  refine x_callV Γ calv_X4_write wl_L_166 dL_law_1168 (m_X4_write hS (xs (i + 1)) (xs (i + 2)) (xs (i + 3))) rfl (by decide) (by decide) rfl rfl rfl rfl (Nat.le_of_ble_eq_true rfl) (by decide) (by decide) ?_
  refine x_icmp_eq Γ (tgt := 1394) dL_law_1171 (by decide) (fun _ => ?_) (fun z => absurd rfl z)
  exact kk _ ⟨_, _, _, _, _, rfl, wI_sm hI hI.1 sm_Wr⟩

set_option maxRecDepth 100000 in
set_option maxHeartbeats 4000000 in
theorem la_37 (Γl : zCl Wf V m H0 L xs) (hL : L ≤ 3072) {i : Nat} (hi : i + 6 ≤ L) {h : Nat → zE} (hq : wQ g h) (kk : ∀ h', wQ g h' → zX Wf V m 4 H0 1394 (zls [(0, .ref 5000), (1, .ref 0), (2, .ref 37), (3, .int (nI i))]) [] h' 46 46 1123) : zX Wf V m 4 H0 1176 (zls [(0, .ref 5000), (1, .ref 0), (2, .ref 37), (3, .int (nI i))]) [] h 46 46 1123 := by
  have Γ := Γl.z
  obtain ⟨T, T2, T3, R, X, rfl, hI⟩ := hq
  obtain ⟨⟨N, hT⟩, hS, hTp, hKp⟩ := hI
  have hI : wI T T3 R := ⟨⟨N, hT⟩, hS, hTp, hKp⟩
  obtain ⟨hN, hH, hTk, hLL, hP, hKd, hB⟩ := id hT
  refine x_heap hR_cW ?_
  refine x_aload_n Γ dL_law_1176 rfl ?_
  refine x_aload_n Γ dL_law_1177 rfl ?_
  refine x_iload_n Γ dL_law_1178 rfl ?_
  refine x_iconst Γ (v := 1) dL_law_1179 rfl ?_
  refine x_iadd Γ dL_law_1180 ?_
  refine x_sld Γl (j := i + 1) hL dL_law_1181 (nI_add i 1) (by omega) ?_
  refine x_aload_n Γ dL_law_1182 rfl ?_
  refine x_iload_n Γ dL_law_1183 rfl ?_
  refine x_iconst Γ (v := 2) dL_law_1184 rfl ?_
  refine x_iadd Γ dL_law_1185 ?_
  refine x_sld Γl (j := i + 2) hL dL_law_1186 (nI_add i 2) (by omega) ?_
  refine x_aload_n Γ dL_law_1187 rfl ?_
  refine x_iload_n Γ dL_law_1188 rfl ?_
  refine x_iconst Γ (v := 3) dL_law_1189 rfl ?_
  refine x_iadd Γ dL_law_1190 ?_
  refine x_sld Γl (j := i + 3) hL dL_law_1191 (nI_add i 3) (by omega) ?_
  refine x_aload_n Γ dL_law_1192 rfl ?_
  refine x_iload_n Γ dL_law_1193 rfl ?_
  refine x_iconst Γ (v := 4) dL_law_1194 rfl ?_
  refine x_iadd Γ dL_law_1195 ?_
  refine x_sld Γl (j := i + 4) hL dL_law_1196 (nI_add i 4) (by omega) ?_
  refine x_aload_n Γ dL_law_1197 rfl ?_
  refine x_iload_n Γ dL_law_1198 rfl ?_
  refine x_iconst Γ (v := 5) dL_law_1199 rfl ?_
  refine x_iadd Γ dL_law_1200 ?_
  refine x_sld Γl (j := i + 5) hL dL_law_1201 (nI_add i 5) (by omega) ?_
  refine x_callVx Γ calv_X3_copy wl_L_167 dL_law_1202 (m_X3_copy hS (xs (i + 1)) (xs (i + 2)) (xs (i + 3)) (xs (i + 4)) (xs (i + 5))) rfl (by decide) (by decide) rfl rfl rfl rfl (Nat.le_of_ble_eq_true rfl) (by decide) (by decide) (fun h_x hQ_x => ?_)
  obtain ⟨T2x, Xx, rfl⟩ := hQ_x
  refine x_heap hR_cW.symm ?_
  refine x_aload_n Γ dL_law_1205 rfl ?_
  refine x_aload_n Γ dL_law_1206 rfl ?_
  refine x_iload_n Γ dL_law_1207 rfl ?_
  refine x_iconst Γ (v := 1) dL_law_1208 rfl ?_
  refine x_iadd Γ dL_law_1209 ?_
  refine x_sld Γl (j := i + 1) hL dL_law_1210 (nI_add i 1) (by omega) ?_
  refine x_aload_n Γ dL_law_1211 rfl ?_
  refine x_iload_n Γ dL_law_1212 rfl ?_
  refine x_iconst Γ (v := 2) dL_law_1213 rfl ?_
  refine x_iadd Γ dL_law_1214 ?_
  refine x_sld Γl (j := i + 2) hL dL_law_1215 (nI_add i 2) (by omega) ?_
  refine x_aload_n Γ dL_law_1216 rfl ?_
  refine x_iload_n Γ dL_law_1217 rfl ?_
  refine x_iconst Γ (v := 3) dL_law_1218 rfl ?_
  refine x_iadd Γ dL_law_1219 ?_
  refine x_sld Γl (j := i + 3) hL dL_law_1220 (nI_add i 3) (by omega) ?_
  refine x_aload_n Γ dL_law_1221 rfl ?_
  refine x_iload_n Γ dL_law_1222 rfl ?_
  refine x_iconst Γ (v := 4) dL_law_1223 rfl ?_
  refine x_iadd Γ dL_law_1224 ?_
  refine x_sld Γl (j := i + 4) hL dL_law_1225 (nI_add i 4) (by omega) ?_
  refine x_aload_n Γ dL_law_1226 rfl ?_
  refine x_iload_n Γ dL_law_1227 rfl ?_
  refine x_iconst Γ (v := 5) dL_law_1228 rfl ?_
  refine x_iadd Γ dL_law_1229 ?_
  refine x_sld Γl (j := i + 5) hL dL_law_1230 (nI_add i 5) (by omega) ?_
  refine x_callV Γ calv_X4_copy wl_L_171 dL_law_1231 (m_X4_copy hS (xs (i + 1)) (xs (i + 2)) (xs (i + 3)) (xs (i + 4)) (xs (i + 5))) rfl (by decide) (by decide) rfl rfl rfl rfl (Nat.le_of_ble_eq_true rfl) (by decide) (by decide) ?_
  refine x_icmp_eq Γ (tgt := 1394) dL_law_1234 (by decide) (fun _ => ?_) (fun z => absurd rfl z)
  exact kk _ ⟨_, _, _, _, _, rfl, wI_sm hI hI.1 sm_Co⟩

set_option maxRecDepth 100000 in
set_option maxHeartbeats 4000000 in
theorem la_38 (Γl : zCl Wf V m H0 L xs) (hL : L ≤ 3072) {i : Nat} (hi : i + 6 ≤ L) {h : Nat → zE} (hq : wQ g h) (kk : ∀ h', wQ g h' → zX Wf V m 4 H0 1394 (zls [(0, .ref 5000), (1, .ref 0), (2, .ref 37), (3, .int (nI i))]) [] h' 46 46 1123) : zX Wf V m 4 H0 1239 (zls [(0, .ref 5000), (1, .ref 0), (2, .ref 37), (3, .int (nI i))]) [] h 46 46 1123 := by
  have Γ := Γl.z
  obtain ⟨T, T2, T3, R, X, rfl, hI⟩ := hq
  obtain ⟨⟨N, hT⟩, hS, hTp, hKp⟩ := hI
  have hI : wI T T3 R := ⟨⟨N, hT⟩, hS, hTp, hKp⟩
  obtain ⟨hN, hH, hTk, hLL, hP, hKd, hB⟩ := id hT
  refine x_heap hR_cW ?_
  refine x_aload_n Γ dL_law_1239 rfl ?_
  refine x_aload_n Γ dL_law_1240 rfl ?_
  refine x_iload_n Γ dL_law_1241 rfl ?_
  refine x_iconst Γ (v := 1) dL_law_1242 rfl ?_
  refine x_iadd Γ dL_law_1243 ?_
  refine x_sld Γl (j := i + 1) hL dL_law_1244 (nI_add i 1) (by omega) ?_
  refine x_callVx Γ calv_X3_load wl_L_172 dL_law_1245 (m_X3_load hN hS (xs (i + 1))) rfl (by decide) (by decide) rfl rfl rfl rfl (Nat.le_of_ble_eq_true rfl) (by decide) (by decide) (fun h_x hQ_x => ?_)
  obtain ⟨T2x, Xx, rfl⟩ := hQ_x
  refine x_heap hR_cW.symm ?_
  refine x_aload_n Γ dL_law_1248 rfl ?_
  refine x_aload_n Γ dL_law_1249 rfl ?_
  refine x_iload_n Γ dL_law_1250 rfl ?_
  refine x_iconst Γ (v := 1) dL_law_1251 rfl ?_
  refine x_iadd Γ dL_law_1252 ?_
  refine x_sld Γl (j := i + 1) hL dL_law_1253 (nI_add i 1) (by omega) ?_
  refine x_callV Γ calv_X4_load wl_L_175 dL_law_1254 (m_X4_load hN hS (xs (i + 1))) rfl (by decide) (by decide) rfl rfl rfl rfl (Nat.le_of_ble_eq_true rfl) (by decide) (by decide) ?_
  refine x_icmp_eq Γ (tgt := 1394) dL_law_1257 (by decide) (fun _ => ?_) (fun z => absurd rfl z)
  exact kk _ ⟨_, _, _, _, _, rfl, wI_sm hI (iT_ld hT _) (sm_f _)⟩

set_option maxRecDepth 100000 in
set_option maxHeartbeats 4000000 in
theorem la_39 (Γl : zCl Wf V m H0 L xs) (hL : L ≤ 3072) {i : Nat} (hi : i + 6 ≤ L) {h : Nat → zE} (hq : wQ g h) (kk : ∀ h', wQ g h' → zX Wf V m 4 H0 1394 (zls [(0, .ref 5000), (1, .ref 0), (2, .ref 37), (3, .int (nI i))]) [] h' 46 46 1123) : zX Wf V m 4 H0 1262 (zls [(0, .ref 5000), (1, .ref 0), (2, .ref 37), (3, .int (nI i))]) [] h 46 46 1123 := by
  have Γ := Γl.z
  obtain ⟨T, T2, T3, R, X, rfl, hI⟩ := hq
  obtain ⟨⟨N, hT⟩, hS, hTp, hKp⟩ := hI
  have hI : wI T T3 R := ⟨⟨N, hT⟩, hS, hTp, hKp⟩
  obtain ⟨hN, hH, hTk, hLL, hP, hKd, hB⟩ := id hT
  refine x_heap hR_cW ?_
  refine x_aload_n Γ dL_law_1262 rfl ?_
  refine x_aload_n Γ dL_law_1263 rfl ?_
  refine x_iload_n Γ dL_law_1264 rfl ?_
  refine x_iconst Γ (v := 1) dL_law_1265 rfl ?_
  refine x_iadd Γ dL_law_1266 ?_
  refine x_sld Γl (j := i + 1) hL dL_law_1267 (nI_add i 1) (by omega) ?_
  refine x_callVx Γ calv_X3_tally wl_L_176 dL_law_1268 (m_X3_tally hN hH hLL hS (xs (i + 1))) rfl (by decide) (by decide) rfl rfl rfl rfl (Nat.le_of_ble_eq_true rfl) (by decide) (by decide) (fun h_x hQ_x => ?_)
  obtain ⟨T2x, Xx, rfl⟩ := hQ_x
  refine x_heap hR_cW.symm ?_
  refine x_aload_n Γ dL_law_1271 rfl ?_
  refine x_aload_n Γ dL_law_1272 rfl ?_
  refine x_iload_n Γ dL_law_1273 rfl ?_
  refine x_iconst Γ (v := 1) dL_law_1274 rfl ?_
  refine x_iadd Γ dL_law_1275 ?_
  refine x_sld Γl (j := i + 1) hL dL_law_1276 (nI_add i 1) (by omega) ?_
  refine x_callV Γ calv_X4_tally wl_L_179 dL_law_1277 (m_X4_tally hN hLL hS (xs (i + 1))) rfl (by decide) (by decide) rfl rfl rfl rfl (Nat.le_of_ble_eq_true rfl) (by decide) (by decide) ?_
  refine x_lcmp Γ dL_law_1280 ?_
  refine x_if_eq Γ (tgt := 1394) dL_law_1281 (by decide) (fun _ => ?_) (fun z => absurd lgc_eq z)
  exact kk _ ⟨_, _, _, _, _, rfl, wI_sm hI hI.1 sm_Cf⟩

set_option maxRecDepth 100000 in
set_option maxHeartbeats 4000000 in
theorem la_40 (Γl : zCl Wf V m H0 L xs) (hL : L ≤ 3072) {i : Nat} (hi : i + 6 ≤ L) {h : Nat → zE} (hq : wQ g h) (kk : ∀ h', wQ g h' → zX Wf V m 4 H0 1394 (zls [(0, .ref 5000), (1, .ref 0), (2, .ref 37), (3, .int (nI i))]) [] h' 46 46 1123) : zX Wf V m 4 H0 1286 (zls [(0, .ref 5000), (1, .ref 0), (2, .ref 37), (3, .int (nI i))]) [] h 46 46 1123 := by
  have Γ := Γl.z
  obtain ⟨T, T2, T3, R, X, rfl, hI⟩ := hq
  obtain ⟨⟨N, hT⟩, hS, hTp, hKp⟩ := hI
  have hI : wI T T3 R := ⟨⟨N, hT⟩, hS, hTp, hKp⟩
  obtain ⟨hN, hH, hTk, hLL, hP, hKd, hB⟩ := id hT
  refine x_heap hR_cW ?_
  refine x_aload_n Γ dL_law_1286 rfl ?_
  refine x_aload_n Γ dL_law_1287 rfl ?_
  refine x_iload_n Γ dL_law_1288 rfl ?_
  refine x_iconst Γ (v := 1) dL_law_1289 rfl ?_
  refine x_iadd Γ dL_law_1290 ?_
  refine x_sld Γl (j := i + 1) hL dL_law_1291 (nI_add i 1) (by omega) ?_
  refine x_callVx Γ calv_X3_judge wl_L_180 dL_law_1292 (m_X3_judge hN hH hS (xs (i + 1))) rfl (by decide) (by decide) rfl rfl rfl rfl (Nat.le_of_ble_eq_true rfl) (by decide) (by decide) (fun h_x hQ_x => ?_)
  obtain ⟨T2x, Xx, rfl⟩ := hQ_x
  refine x_heap hR_cW.symm ?_
  refine x_aload_n Γ dL_law_1295 rfl ?_
  refine x_aload_n Γ dL_law_1296 rfl ?_
  refine x_iload_n Γ dL_law_1297 rfl ?_
  refine x_iconst Γ (v := 1) dL_law_1298 rfl ?_
  refine x_iadd Γ dL_law_1299 ?_
  refine x_sld Γl (j := i + 1) hL dL_law_1300 (nI_add i 1) (by omega) ?_
  refine x_callV Γ calv_X4_judge wl_L_183 dL_law_1301 (m_X4_judge hN hLL hS (xs (i + 1))) rfl (by decide) (by decide) rfl rfl rfl rfl (Nat.le_of_ble_eq_true rfl) (by decide) (by decide) ?_
  refine x_icmp_eq Γ (tgt := 1394) dL_law_1304 (by decide) (fun _ => ?_) (fun z => absurd rfl z)
  exact kk _ ⟨_, _, _, _, _, rfl, wI_sm hI hI.1 sm_Cf⟩

set_option maxRecDepth 100000 in
set_option maxHeartbeats 4000000 in
theorem la_41 (Γl : zCl Wf V m H0 L xs) (hL : L ≤ 3072) {i : Nat} (hi : i + 6 ≤ L) {h : Nat → zE} (hq : wQ g h) (kk : ∀ h', wQ g h' → zX Wf V m 4 H0 1394 (zls [(0, .ref 5000), (1, .ref 0), (2, .ref 37), (3, .int (nI i))]) [] h' 46 46 1123) : zX Wf V m 4 H0 1309 (zls [(0, .ref 5000), (1, .ref 0), (2, .ref 37), (3, .int (nI i))]) [] h 46 46 1123 := by
  have Γ := Γl.z
  obtain ⟨T, T2, T3, R, X, rfl, hI⟩ := hq
  obtain ⟨⟨N, hT⟩, hS, hTp, hKp⟩ := hI
  have hI : wI T T3 R := ⟨⟨N, hT⟩, hS, hTp, hKp⟩
  obtain ⟨hN, hH, hTk, hLL, hP, hKd, hB⟩ := id hT
  refine x_heap hR_cW ?_
  refine x_aload_n Γ dL_law_1309 rfl ?_
  refine x_callVx Γ calv_X3_image wl_L_184 dL_law_1310 (m_X3_image  ) rfl (by decide) (by decide) rfl rfl rfl rfl (Nat.le_of_ble_eq_true rfl) (by decide) (by decide) (fun h_x hQ_x => ?_)
  obtain ⟨T2x, Xx, rfl⟩ := hQ_x
  refine x_heap hR_cW.symm ?_
  refine x_aload_n Γ dL_law_1313 rfl ?_
  refine x_callV Γ calv_X4_image wl_L_187 dL_law_1314 (m_X4_image  ) rfl (by decide) (by decide) rfl rfl rfl rfl (Nat.le_of_ble_eq_true rfl) (by decide) (by decide) ?_
  refine x_icmp_eq Γ (tgt := 1394) dL_law_1317 (by decide) (fun _ => ?_) (fun z => absurd rfl z)
  exact kk _ ⟨_, _, _, _, _, rfl, wI_image hI⟩

set_option maxRecDepth 100000 in
set_option maxHeartbeats 4000000 in
theorem la_42 (Γl : zCl Wf V m H0 L xs) (hL : L ≤ 3072) {i : Nat} (hi : i + 6 ≤ L) {h : Nat → zE} (hq : wQ g h) (kk : ∀ h', wQ g h' → zX Wf V m 4 H0 1394 (zls [(0, .ref 5000), (1, .ref 0), (2, .ref 37), (3, .int (nI i))]) [] h' 46 46 1123) : zX Wf V m 4 H0 1322 (zls [(0, .ref 5000), (1, .ref 0), (2, .ref 37), (3, .int (nI i))]) [] h 46 46 1123 := by
  have Γ := Γl.z
  obtain ⟨T, T2, T3, R, X, rfl, hI⟩ := hq
  obtain ⟨⟨N, hT⟩, hS, hTp, hKp⟩ := hI
  have hI : wI T T3 R := ⟨⟨N, hT⟩, hS, hTp, hKp⟩
  obtain ⟨hN, hH, hTk, hLL, hP, hKd, hB⟩ := id hT
  refine x_heap hR_cW ?_
  refine x_aload_n Γ dL_law_1322 rfl ?_
  refine x_callVx Γ calv_X3_undo wl_L_188 dL_law_1323 (m_X3_undo  ) rfl (by decide) (by decide) rfl rfl rfl rfl (Nat.le_of_ble_eq_true rfl) (by decide) (by decide) (fun h_x hQ_x => ?_)
  obtain ⟨T2x, Xx, rfl⟩ := hQ_x
  refine x_heap hR_cW.symm ?_
  refine x_aload_n Γ dL_law_1326 rfl ?_
  refine x_callV Γ calv_X4_undo wl_L_191 dL_law_1327 (m_X4_undo (U := T3) (fun z => (hI.2.2.2 z).1) ) rfl (by decide) (by decide) rfl rfl rfl rfl (Nat.le_of_ble_eq_true rfl) (by decide) (by decide) ?_
  refine x_icmp_eq Γ (tgt := 1394) dL_law_1330 (by decide) (fun _ => ?_) (fun z => absurd rfl z)
  exact kk _ ⟨_, _, _, _, _, rfl, wI_undo hI⟩

set_option maxRecDepth 100000 in
set_option maxHeartbeats 4000000 in
theorem la_43 (Γl : zCl Wf V m H0 L xs) (hL : L ≤ 3072) {i : Nat} (hi : i + 6 ≤ L) {h : Nat → zE} (hq : wQ g h) (kk : ∀ h', wQ g h' → zX Wf V m 4 H0 1394 (zls [(0, .ref 5000), (1, .ref 0), (2, .ref 37), (3, .int (nI i))]) [] h' 46 46 1123) : zX Wf V m 4 H0 1335 (zls [(0, .ref 5000), (1, .ref 0), (2, .ref 37), (3, .int (nI i))]) [] h 46 46 1123 := by
  have Γ := Γl.z
  obtain ⟨T, T2, T3, R, X, rfl, hI⟩ := hq
  obtain ⟨⟨N, hT⟩, hS, hTp, hKp⟩ := hI
  have hI : wI T T3 R := ⟨⟨N, hT⟩, hS, hTp, hKp⟩
  obtain ⟨hN, hH, hTk, hLL, hP, hKd, hB⟩ := id hT
  refine x_heap hR_cW ?_
  refine x_aload_n Γ dL_law_1335 rfl ?_
  refine x_callVx Γ calv_X3_tear wl_L_192 dL_law_1336 (m_X3_tear  ) rfl (by decide) (by decide) rfl rfl rfl rfl (Nat.le_of_ble_eq_true rfl) (by decide) (by decide) (fun h_x hQ_x => ?_)
  obtain ⟨T2x, Xx, rfl⟩ := hQ_x
  refine x_heap hR_cW.symm ?_
  refine x_aload_n Γ dL_law_1339 rfl ?_
  refine x_callV Γ calv_X4_tear wl_L_195 dL_law_1340 (m_X4_tear  ) rfl (by decide) (by decide) rfl rfl rfl rfl (Nat.le_of_ble_eq_true rfl) (by decide) (by decide) ?_
  refine x_icmp_eq Γ (tgt := 1394) dL_law_1343 (by decide) (fun _ => ?_) (fun z => absurd rfl z)
  exact kk _ ⟨_, _, _, _, _, rfl, wI_tear hI⟩

set_option maxRecDepth 100000 in
set_option maxHeartbeats 4000000 in
theorem la_44 (Γl : zCl Wf V m H0 L xs) (hL : L ≤ 3072) {i : Nat} (hi : i + 6 ≤ L) {h : Nat → zE} (hq : wQ g h) (kk : ∀ h', wQ g h' → zX Wf V m 4 H0 1394 (zls [(0, .ref 5000), (1, .ref 0), (2, .ref 37), (3, .int (nI i))]) [] h' 46 46 1123) : zX Wf V m 4 H0 1348 (zls [(0, .ref 5000), (1, .ref 0), (2, .ref 37), (3, .int (nI i))]) [] h 46 46 1123 := by
  have Γ := Γl.z
  obtain ⟨T, T2, T3, R, X, rfl, hI⟩ := hq
  obtain ⟨⟨N, hT⟩, hS, hTp, hKp⟩ := hI
  have hI : wI T T3 R := ⟨⟨N, hT⟩, hS, hTp, hKp⟩
  obtain ⟨hN, hH, hTk, hLL, hP, hKd, hB⟩ := id hT
  refine x_heap hR_cW ?_
  refine x_aload_n Γ dL_law_1348 rfl ?_
  refine x_aload_n Γ dL_law_1349 rfl ?_
  refine x_iload_n Γ dL_law_1350 rfl ?_
  refine x_iconst Γ (v := 1) dL_law_1351 rfl ?_
  refine x_iadd Γ dL_law_1352 ?_
  refine x_sld Γl (j := i + 1) hL dL_law_1353 (nI_add i 1) (by omega) ?_
  refine x_callVx Γ calv_X3_count wl_L_196 dL_law_1354 (m_X3_count hN (xs (i + 1))) rfl (by decide) (by decide) rfl rfl rfl rfl (Nat.le_of_ble_eq_true rfl) (by decide) (by decide) (fun h_x hQ_x => ?_)
  obtain ⟨T2x, Xx, rfl⟩ := hQ_x
  refine x_heap hR_cW.symm ?_
  refine x_aload_n Γ dL_law_1357 rfl ?_
  refine x_aload_n Γ dL_law_1358 rfl ?_
  refine x_iload_n Γ dL_law_1359 rfl ?_
  refine x_iconst Γ (v := 1) dL_law_1360 rfl ?_
  refine x_iadd Γ dL_law_1361 ?_
  refine x_sld Γl (j := i + 1) hL dL_law_1362 (nI_add i 1) (by omega) ?_
  refine x_callV Γ calv_X4_count wl_L_199 dL_law_1363 (m_X4_count hN (xs (i + 1))) rfl (by decide) (by decide) rfl rfl rfl rfl (Nat.le_of_ble_eq_true rfl) (by decide) (by decide) ?_
  refine x_icmp_eq Γ (tgt := 1394) dL_law_1366 (by decide) (fun _ => ?_) (fun z => absurd rfl z)
  exact kk _ ⟨_, _, _, _, _, rfl, wI_sm hI hI.1 (sm_f _)⟩

set_option maxRecDepth 100000 in
set_option maxHeartbeats 4000000 in
theorem la_45 (Γl : zCl Wf V m H0 L xs) (hL : L ≤ 3072) {i : Nat} (hi : i + 6 ≤ L) {h : Nat → zE} (hq : wQ g h) (kk : ∀ h', wQ g h' → zX Wf V m 4 H0 1394 (zls [(0, .ref 5000), (1, .ref 0), (2, .ref 37), (3, .int (nI i))]) [] h' 46 46 1123) : zX Wf V m 4 H0 1371 (zls [(0, .ref 5000), (1, .ref 0), (2, .ref 37), (3, .int (nI i))]) [] h 46 46 1123 := by
  have Γ := Γl.z
  obtain ⟨T, T2, T3, R, X, rfl, hI⟩ := hq
  obtain ⟨⟨N, hT⟩, hS, hTp, hKp⟩ := hI
  have hI : wI T T3 R := ⟨⟨N, hT⟩, hS, hTp, hKp⟩
  obtain ⟨hN, hH, hTk, hLL, hP, hKd, hB⟩ := id hT
  refine x_heap hR_cW ?_
  refine x_aload_n Γ dL_law_1371 rfl ?_
  refine x_aload_n Γ dL_law_1372 rfl ?_
  refine x_iload_n Γ dL_law_1373 rfl ?_
  refine x_iconst Γ (v := 1) dL_law_1374 rfl ?_
  refine x_iadd Γ dL_law_1375 ?_
  refine x_sld Γl (j := i + 1) hL dL_law_1376 (nI_add i 1) (by omega) ?_
  refine x_callVx Γ calv_X3_status wl_L_200 dL_law_1377 (m_X3_status  (xs (i + 1))) rfl (by decide) (by decide) rfl rfl rfl rfl (Nat.le_of_ble_eq_true rfl) (by decide) (by decide) (fun h_x hQ_x => ?_)
  obtain ⟨T2x, Xx, rfl⟩ := hQ_x
  refine x_heap hR_cW.symm ?_
  refine x_aload_n Γ dL_law_1380 rfl ?_
  refine x_aload_n Γ dL_law_1381 rfl ?_
  refine x_iload_n Γ dL_law_1382 rfl ?_
  refine x_iconst Γ (v := 1) dL_law_1383 rfl ?_
  refine x_iadd Γ dL_law_1384 ?_
  refine x_sld Γl (j := i + 1) hL dL_law_1385 (nI_add i 1) (by omega) ?_
  refine x_callV Γ calv_X4_status wl_L_203 dL_law_1386 (m_X4_status  (xs (i + 1))) rfl (by decide) (by decide) rfl rfl rfl rfl (Nat.le_of_ble_eq_true rfl) (by decide) (by decide) ?_
  refine x_icmp_eq Γ (tgt := 1394) dL_law_1389 (by decide) (fun _ => ?_) (fun z => absurd rfl z)
  exact kk _ ⟨_, _, _, _, _, rfl, wI_sm hI hI.1 (sm_f _)⟩

end ZLW
