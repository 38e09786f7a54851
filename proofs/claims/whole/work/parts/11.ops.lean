section ZR
variable {Wf : zW} {V : zG} {m : MethodId} {nL : Nat} {H0 : Heap} {cc : ByteArray} {own : String} {lv Rc Rs : Nat} {pc : Nat} {f : Nat → Option Value} {st : List Value} {h : Nat → zE} {n k sl : Nat}
theorem x_iadd (Γ : zC Wf V m nL H0 cc own lv Rc Rs) {x y : Int32} (hd : decode cc pc = .ok (.iadd, 1)) (kk : zX Wf V m nL H0 (pc + 1) f (.int (x + y) :: st) h n k sl) : zX Wf V m nL H0 pc f (.int y :: .int x :: st) h n k sl := by
  obtain ⟨p, l, e, R, s, args, below, meth, c, Q, rfl, hx, hb, -⟩ := Γ
  exact fun H locs sls hP hS hL => lv_iadd hx hb hd (kk H locs sls hP hS hL)
theorem x_isub (Γ : zC Wf V m nL H0 cc own lv Rc Rs) {x y : Int32} (hd : decode cc pc = .ok (.isub, 1)) (kk : zX Wf V m nL H0 (pc + 1) f (.int (x - y) :: st) h n k sl) : zX Wf V m nL H0 pc f (.int y :: .int x :: st) h n k sl := by
  obtain ⟨p, l, e, R, s, args, below, meth, c, Q, rfl, hx, hb, -⟩ := Γ
  exact fun H locs sls hP hS hL => lv_isub hx hb hd (kk H locs sls hP hS hL)
theorem x_imul (Γ : zC Wf V m nL H0 cc own lv Rc Rs) {x y : Int32} (hd : decode cc pc = .ok (.imul, 1)) (kk : zX Wf V m nL H0 (pc + 1) f (.int (x * y) :: st) h n k sl) : zX Wf V m nL H0 pc f (.int y :: .int x :: st) h n k sl := by
  obtain ⟨p, l, e, R, s, args, below, meth, c, Q, rfl, hx, hb, -⟩ := Γ
  exact fun H locs sls hP hS hL => lv_imul hx hb hd (kk H locs sls hP hS hL)
theorem x_iand (Γ : zC Wf V m nL H0 cc own lv Rc Rs) {x y : Int32} (hd : decode cc pc = .ok (.iand, 1)) (kk : zX Wf V m nL H0 (pc + 1) f (.int (x &&& y) :: st) h n k sl) : zX Wf V m nL H0 pc f (.int y :: .int x :: st) h n k sl := by
  obtain ⟨p, l, e, R, s, args, below, meth, c, Q, rfl, hx, hb, -⟩ := Γ
  exact fun H locs sls hP hS hL => lv_iand hx hb hd (kk H locs sls hP hS hL)
theorem x_ior (Γ : zC Wf V m nL H0 cc own lv Rc Rs) {x y : Int32} (hd : decode cc pc = .ok (.ior, 1)) (kk : zX Wf V m nL H0 (pc + 1) f (.int (x ||| y) :: st) h n k sl) : zX Wf V m nL H0 pc f (.int y :: .int x :: st) h n k sl := by
  obtain ⟨p, l, e, R, s, args, below, meth, c, Q, rfl, hx, hb, -⟩ := Γ
  exact fun H locs sls hP hS hL => lv_ior hx hb hd (kk H locs sls hP hS hL)
theorem x_ixor (Γ : zC Wf V m nL H0 cc own lv Rc Rs) {x y : Int32} (hd : decode cc pc = .ok (.ixor, 1)) (kk : zX Wf V m nL H0 (pc + 1) f (.int (x ^^^ y) :: st) h n k sl) : zX Wf V m nL H0 pc f (.int y :: .int x :: st) h n k sl := by
  obtain ⟨p, l, e, R, s, args, below, meth, c, Q, rfl, hx, hb, -⟩ := Γ
  exact fun H locs sls hP hS hL => lv_ixor hx hb hd (kk H locs sls hP hS hL)
theorem x_ishl (Γ : zC Wf V m nL H0 cc own lv Rc Rs) {x y : Int32} (hd : decode cc pc = .ok (.ishl, 1)) (kk : zX Wf V m nL H0 (pc + 1) f (.int (x <<< (y &&& 31)) :: st) h n k sl) : zX Wf V m nL H0 pc f (.int y :: .int x :: st) h n k sl := by
  obtain ⟨p, l, e, R, s, args, below, meth, c, Q, rfl, hx, hb, -⟩ := Γ
  exact fun H locs sls hP hS hL => lv_ishl hx hb hd (kk H locs sls hP hS hL)
theorem x_ishr (Γ : zC Wf V m nL H0 cc own lv Rc Rs) {x y : Int32} (hd : decode cc pc = .ok (.ishr, 1)) (kk : zX Wf V m nL H0 (pc + 1) f (.int (x >>> (y &&& 31)) :: st) h n k sl) : zX Wf V m nL H0 pc f (.int y :: .int x :: st) h n k sl := by
  obtain ⟨p, l, e, R, s, args, below, meth, c, Q, rfl, hx, hb, -⟩ := Γ
  exact fun H locs sls hP hS hL => lv_ishr hx hb hd (kk H locs sls hP hS hL)
theorem x_idiv (Γ : zC Wf V m nL H0 cc own lv Rc Rs) {x y : Int32} (hd : decode cc pc = .ok (.idiv, 1)) (hne : ¬ y = 0) (kk : zX Wf V m nL H0 (pc + 1) f (.int (x / y) :: st) h n k sl) : zX Wf V m nL H0 pc f (.int y :: .int x :: st) h n k sl := by
  obtain ⟨p, l, e, R, s, args, below, meth, c, Q, rfl, hx, hb, -⟩ := Γ
  exact fun H locs sls hP hS hL => lv_idiv hx hb hd hne (kk H locs sls hP hS hL)
theorem x_ladd (Γ : zC Wf V m nL H0 cc own lv Rc Rs) {x y : Int64} (hd : decode cc pc = .ok (.ladd, 1)) (kk : zX Wf V m nL H0 (pc + 1) f (.long (x + y) :: st) h n k sl) : zX Wf V m nL H0 pc f (.long y :: .long x :: st) h n k sl := by
  obtain ⟨p, l, e, R, s, args, below, meth, c, Q, rfl, hx, hb, -⟩ := Γ
  exact fun H locs sls hP hS hL => lv_ladd hx hb hd (kk H locs sls hP hS hL)
theorem x_iushr (Γ : zC Wf V m nL H0 cc own lv Rc Rs) {x y : Int32} (hd : decode cc pc = .ok (.iushr, 1)) (kk : zX Wf V m nL H0 (pc + 1) f (.int (x.toUInt32 >>> (y.toUInt32 &&& Int32.toUInt32 31)).toInt32 :: st) h n k sl) : zX Wf V m nL H0 pc f (.int y :: .int x :: st) h n k sl := by
  obtain ⟨p, l, e, R, s, args, below, meth, c, Q, rfl, hx, hb, -⟩ := Γ
  exact fun H locs sls hP hS hL => lv_iushr hx hb hd rfl (kk H locs sls hP hS hL)
theorem x_ineg (Γ : zC Wf V m nL H0 cc own lv Rc Rs) {x : Int32} (hd : decode cc pc = .ok (.ineg, 1)) (kk : zX Wf V m nL H0 (pc + 1) f (.int (-x) :: st) h n k sl) : zX Wf V m nL H0 pc f (.int x :: st) h n k sl := by
  obtain ⟨p, l, e, R, s, args, below, meth, c, Q, rfl, hx, hb, -⟩ := Γ
  exact fun H locs sls hP hS hL => lv_ineg hx hb hd (kk H locs sls hP hS hL)
theorem x_i2l (Γ : zC Wf V m nL H0 cc own lv Rc Rs) {x : Int32} (hd : decode cc pc = .ok (.i2l, 1)) (kk : zX Wf V m nL H0 (pc + 1) f (.long x.toInt64 :: st) h n k sl) : zX Wf V m nL H0 pc f (.int x :: st) h n k sl := by
  obtain ⟨p, l, e, R, s, args, below, meth, c, Q, rfl, hx, hb, -⟩ := Γ
  exact fun H locs sls hP hS hL => lv_i2l hx hb hd rfl (kk H locs sls hP hS hL)
theorem x_i2b (Γ : zC Wf V m nL H0 cc own lv Rc Rs) {x : Int32} (hd : decode cc pc = .ok (.i2b, 1)) (kk : zX Wf V m nL H0 (pc + 1) f (.int x.toInt8.toInt32 :: st) h n k sl) : zX Wf V m nL H0 pc f (.int x :: st) h n k sl := by
  obtain ⟨p, l, e, R, s, args, below, meth, c, Q, rfl, hx, hb, -⟩ := Γ
  exact fun H locs sls hP hS hL => lv_i2b hx hb hd rfl (kk H locs sls hP hS hL)
theorem x_i2s (Γ : zC Wf V m nL H0 cc own lv Rc Rs) {x : Int32} (hd : decode cc pc = .ok (.i2s, 1)) (kk : zX Wf V m nL H0 (pc + 1) f (.int x.toInt16.toInt32 :: st) h n k sl) : zX Wf V m nL H0 pc f (.int x :: st) h n k sl := by
  obtain ⟨p, l, e, R, s, args, below, meth, c, Q, rfl, hx, hb, -⟩ := Γ
  exact fun H locs sls hP hS hL => lv_i2s hx hb hd rfl (kk H locs sls hP hS hL)
theorem x_i2c (Γ : zC Wf V m nL H0 cc own lv Rc Rs) {x : Int32} (hd : decode cc pc = .ok (.i2c, 1)) (kk : zX Wf V m nL H0 (pc + 1) f (.int (x.toUInt32 % 65536).toInt32 :: st) h n k sl) : zX Wf V m nL H0 pc f (.int x :: st) h n k sl := by
  obtain ⟨p, l, e, R, s, args, below, meth, c, Q, rfl, hx, hb, -⟩ := Γ
  exact fun H locs sls hP hS hL => lv_i2c hx hb hd rfl (kk H locs sls hP hS hL)
theorem x_lcmp (Γ : zC Wf V m nL H0 cc own lv Rc Rs) {x y : Int64} (hd : decode cc pc = .ok (.lcmp, 1)) (kk : zX Wf V m nL H0 (pc + 1) f (.int (lg_cmp x y) :: st) h n k sl) : zX Wf V m nL H0 pc f (.long y :: .long x :: st) h n k sl := by
  obtain ⟨p, l, e, R, s, args, below, meth, c, Q, rfl, hx, hb, -⟩ := Γ
  exact fun H locs sls hP hS hL => W.lcmp hx hb hd (kk H locs sls hP hS hL)
theorem x_dup (Γ : zC Wf V m nL H0 cc own lv Rc Rs) {v : Value} (hd : decode cc pc = .ok (.dup, 1)) (hc : v.category = 1) (kk : zX Wf V m nL H0 (pc + 1) f (v :: v :: st) h n k sl) : zX Wf V m nL H0 pc f (v :: st) h n k sl := by
  obtain ⟨p, l, e, R, s, args, below, meth, c, Q, rfl, hx, hb, -⟩ := Γ
  exact fun H locs sls hP hS hL => lv_dup hx hb hd (by rw [zv_cat]; exact hc) (kk H locs sls hP hS hL)
theorem x_dup2 (Γ : zC Wf V m nL H0 cc own lv Rc Rs) {v w : Value} (hd : decode cc pc = .ok (.dup2, 1)) (hc : v.category = 1) (hc2 : w.category = 1) (kk : zX Wf V m nL H0 (pc + 1) f (v :: w :: v :: w :: st) h n k sl) : zX Wf V m nL H0 pc f (v :: w :: st) h n k sl := by
  obtain ⟨p, l, e, R, s, args, below, meth, c, Q, rfl, hx, hb, -⟩ := Γ
  exact fun H locs sls hP hS hL => lv_dup2_11 hx hb hd (by rw [zv_cat]; exact hc) (by rw [zv_cat]; exact hc2) (kk H locs sls hP hS hL)
theorem x_pop (Γ : zC Wf V m nL H0 cc own lv Rc Rs) {v : Value} (hd : decode cc pc = .ok (.pop, 1)) (hc : v.category = 1) (kk : zX Wf V m nL H0 (pc + 1) f st h n k sl) : zX Wf V m nL H0 pc f (v :: st) h n k sl := by
  obtain ⟨p, l, e, R, s, args, below, meth, c, Q, rfl, hx, hb, -⟩ := Γ
  exact fun H locs sls hP hS hL => lv_pop hx hb hd (by rw [zv_cat]; exact hc) (kk H locs sls hP hS hL)
theorem x_goto (Γ : zC Wf V m nL H0 cc own lv Rc Rs) {off : Int} {tgt : Nat} (hd : decode cc pc = .ok (.goto off, 3)) (ht : (pc : Int) + off = (tgt : Int)) (kk : zX Wf V m nL H0 tgt f st h n k sl) : zX Wf V m nL H0 pc f st h n k sl := by
  obtain ⟨p, l, e, R, s, args, below, meth, c, Q, rfl, hx, hb, -⟩ := Γ
  exact fun H locs sls hP hS hL => lv_goto hx hb hd ht (kk H locs sls hP hS hL)
theorem x_lookup (Γ : zC Wf V m nL H0 cc own lv Rc Rs) {dflt : Int} {ps : Array (Int × Int)} {len : Nat} {x : Int32} {off : Int} {tgt : Nat} (hd : decode cc pc = .ok (.lookupswitch dflt ps, len)) (hp : (ps.toList.zip (ps.toList.drop 1)).all (fun (a, next) => a.1 < next.1) = true) (ho : Op.lookupswitch.offset ps.toList dflt x.toInt = off) (ht : (pc : Int) + off = (tgt : Int)) (kk : zX Wf V m nL H0 tgt f st h n k sl) : zX Wf V m nL H0 pc f (.int x :: st) h n k sl := by
  obtain ⟨p, l, e, R, s, args, below, meth, c, Q, rfl, hx, hb, -⟩ := Γ
  exact fun H locs sls hP hS hL => lv_lookup hx hb hd hp ho ht (kk H locs sls hP hS hL)
theorem x_tout (Γ : zC Wf V m nL H0 cc own lv Rc Rs) {dflt lo hi : Int} {offs : Array Int} {len : Nat} {x : Int32} {tgt : Nat} (hd : decode cc pc = .ok (.tableswitch dflt lo hi offs, len)) (h0 : x.toInt < lo ∨ hi < x.toInt) (ht : (pc : Int) + dflt = (tgt : Int)) (kk : zX Wf V m nL H0 tgt f st h n k sl) : zX Wf V m nL H0 pc f (.int x :: st) h n k sl := by
  obtain ⟨p, l, e, R, s, args, below, meth, c, Q, rfl, hx, hb, -⟩ := Γ
  exact fun H locs sls hP hS hL => lv_tableOut hx hb hd h0 ht (kk H locs sls hP hS hL)
theorem x_tin (Γ : zC Wf V m nL H0 cc own lv Rc Rs) {dflt lo hi : Int} {offs : Array Int} {len : Nat} {x : Int32} {off : Int} {tgt : Nat} (hd : decode cc pc = .ok (.tableswitch dflt lo hi offs, len)) (h1 : ¬ x.toInt < lo) (h2 : ¬ hi < x.toInt) (ho : offs[(x.toInt - lo).toNat]? = some off) (ht : (pc : Int) + off = (tgt : Int)) (kk : zX Wf V m nL H0 tgt f st h n k sl) : zX Wf V m nL H0 pc f (.int x :: st) h n k sl := by
  obtain ⟨p, l, e, R, s, args, below, meth, c, Q, rfl, hx, hb, -⟩ := Γ
  exact fun H locs sls hP hS hL => lv_tableIn hx hb hd h1 h2 ho ht (kk H locs sls hP hS hL)
theorem x_if_eq (Γ : zC Wf V m nL H0 cc own lv Rc Rs) {x : Int32} {off : Int} {tgt : Nat} (hd : decode cc pc = .ok (.ifCond .eq off, 3)) (ht : (pc : Int) + off = (tgt : Int)) (kt : x = 0 → zX Wf V m nL H0 tgt f st h n k sl) (kf : ¬ x = 0 → zX Wf V m nL H0 (pc + 3) f st h n k sl) : zX Wf V m nL H0 pc f (.int x :: st) h n k sl := by
  obtain ⟨p, l, e, R, s, args, below, meth, c, Q, rfl, hx, hb, -⟩ := Γ
  exact fun H locs sls hP hS hL => lv_if_eq hx hb hd ht (fun q => kt q H locs sls hP hS hL) (fun q => kf q H locs sls hP hS hL)
theorem x_icmp_eq (Γ : zC Wf V m nL H0 cc own lv Rc Rs) {x y : Int32} {off : Int} {tgt : Nat} (hd : decode cc pc = .ok (.if_icmp .eq off, 3)) (ht : (pc : Int) + off = (tgt : Int)) (kt : x = y → zX Wf V m nL H0 tgt f st h n k sl) (kf : ¬ x = y → zX Wf V m nL H0 (pc + 3) f st h n k sl) : zX Wf V m nL H0 pc f (.int y :: .int x :: st) h n k sl := by
  obtain ⟨p, l, e, R, s, args, below, meth, c, Q, rfl, hx, hb, -⟩ := Γ
  exact fun H locs sls hP hS hL => lv_icmp_eq hx hb hd ht (fun q => kt q H locs sls hP hS hL) (fun q => kf q H locs sls hP hS hL)
theorem x_if_ne (Γ : zC Wf V m nL H0 cc own lv Rc Rs) {x : Int32} {off : Int} {tgt : Nat} (hd : decode cc pc = .ok (.ifCond .ne off, 3)) (ht : (pc : Int) + off = (tgt : Int)) (kt : ¬ x = 0 → zX Wf V m nL H0 tgt f st h n k sl) (kf : x = 0 → zX Wf V m nL H0 (pc + 3) f st h n k sl) : zX Wf V m nL H0 pc f (.int x :: st) h n k sl := by
  obtain ⟨p, l, e, R, s, args, below, meth, c, Q, rfl, hx, hb, -⟩ := Γ
  exact fun H locs sls hP hS hL => lv_if_ne hx hb hd ht (fun q => kt q H locs sls hP hS hL) (fun q => kf q H locs sls hP hS hL)
theorem x_icmp_ne (Γ : zC Wf V m nL H0 cc own lv Rc Rs) {x y : Int32} {off : Int} {tgt : Nat} (hd : decode cc pc = .ok (.if_icmp .ne off, 3)) (ht : (pc : Int) + off = (tgt : Int)) (kt : ¬ x = y → zX Wf V m nL H0 tgt f st h n k sl) (kf : x = y → zX Wf V m nL H0 (pc + 3) f st h n k sl) : zX Wf V m nL H0 pc f (.int y :: .int x :: st) h n k sl := by
  obtain ⟨p, l, e, R, s, args, below, meth, c, Q, rfl, hx, hb, -⟩ := Γ
  exact fun H locs sls hP hS hL => lv_icmp_ne hx hb hd ht (fun q => kt q H locs sls hP hS hL) (fun q => kf q H locs sls hP hS hL)
theorem x_if_lt (Γ : zC Wf V m nL H0 cc own lv Rc Rs) {x : Int32} {off : Int} {tgt : Nat} (hd : decode cc pc = .ok (.ifCond .lt off, 3)) (ht : (pc : Int) + off = (tgt : Int)) (kt : x < 0 → zX Wf V m nL H0 tgt f st h n k sl) (kf : ¬ x < 0 → zX Wf V m nL H0 (pc + 3) f st h n k sl) : zX Wf V m nL H0 pc f (.int x :: st) h n k sl := by
  obtain ⟨p, l, e, R, s, args, below, meth, c, Q, rfl, hx, hb, -⟩ := Γ
  exact fun H locs sls hP hS hL => lv_if_lt hx hb hd ht (fun q => kt q H locs sls hP hS hL) (fun q => kf q H locs sls hP hS hL)
theorem x_icmp_lt (Γ : zC Wf V m nL H0 cc own lv Rc Rs) {x y : Int32} {off : Int} {tgt : Nat} (hd : decode cc pc = .ok (.if_icmp .lt off, 3)) (ht : (pc : Int) + off = (tgt : Int)) (kt : x < y → zX Wf V m nL H0 tgt f st h n k sl) (kf : ¬ x < y → zX Wf V m nL H0 (pc + 3) f st h n k sl) : zX Wf V m nL H0 pc f (.int y :: .int x :: st) h n k sl := by
  obtain ⟨p, l, e, R, s, args, below, meth, c, Q, rfl, hx, hb, -⟩ := Γ
  exact fun H locs sls hP hS hL => lv_icmp_lt hx hb hd ht (fun q => kt q H locs sls hP hS hL) (fun q => kf q H locs sls hP hS hL)
theorem x_if_ge (Γ : zC Wf V m nL H0 cc own lv Rc Rs) {x : Int32} {off : Int} {tgt : Nat} (hd : decode cc pc = .ok (.ifCond .ge off, 3)) (ht : (pc : Int) + off = (tgt : Int)) (kt : 0 ≤ x → zX Wf V m nL H0 tgt f st h n k sl) (kf : ¬ 0 ≤ x → zX Wf V m nL H0 (pc + 3) f st h n k sl) : zX Wf V m nL H0 pc f (.int x :: st) h n k sl := by
  obtain ⟨p, l, e, R, s, args, below, meth, c, Q, rfl, hx, hb, -⟩ := Γ
  exact fun H locs sls hP hS hL => lv_if_ge hx hb hd ht (fun q => kt q H locs sls hP hS hL) (fun q => kf q H locs sls hP hS hL)
theorem x_icmp_ge (Γ : zC Wf V m nL H0 cc own lv Rc Rs) {x y : Int32} {off : Int} {tgt : Nat} (hd : decode cc pc = .ok (.if_icmp .ge off, 3)) (ht : (pc : Int) + off = (tgt : Int)) (kt : y ≤ x → zX Wf V m nL H0 tgt f st h n k sl) (kf : ¬ y ≤ x → zX Wf V m nL H0 (pc + 3) f st h n k sl) : zX Wf V m nL H0 pc f (.int y :: .int x :: st) h n k sl := by
  obtain ⟨p, l, e, R, s, args, below, meth, c, Q, rfl, hx, hb, -⟩ := Γ
  exact fun H locs sls hP hS hL => lv_icmp_ge hx hb hd ht (fun q => kt q H locs sls hP hS hL) (fun q => kf q H locs sls hP hS hL)
theorem x_if_gt (Γ : zC Wf V m nL H0 cc own lv Rc Rs) {x : Int32} {off : Int} {tgt : Nat} (hd : decode cc pc = .ok (.ifCond .gt off, 3)) (ht : (pc : Int) + off = (tgt : Int)) (kt : 0 < x → zX Wf V m nL H0 tgt f st h n k sl) (kf : ¬ 0 < x → zX Wf V m nL H0 (pc + 3) f st h n k sl) : zX Wf V m nL H0 pc f (.int x :: st) h n k sl := by
  obtain ⟨p, l, e, R, s, args, below, meth, c, Q, rfl, hx, hb, -⟩ := Γ
  exact fun H locs sls hP hS hL => lv_if_gt hx hb hd ht (fun q => kt q H locs sls hP hS hL) (fun q => kf q H locs sls hP hS hL)
theorem x_icmp_gt (Γ : zC Wf V m nL H0 cc own lv Rc Rs) {x y : Int32} {off : Int} {tgt : Nat} (hd : decode cc pc = .ok (.if_icmp .gt off, 3)) (ht : (pc : Int) + off = (tgt : Int)) (kt : y < x → zX Wf V m nL H0 tgt f st h n k sl) (kf : ¬ y < x → zX Wf V m nL H0 (pc + 3) f st h n k sl) : zX Wf V m nL H0 pc f (.int y :: .int x :: st) h n k sl := by
  obtain ⟨p, l, e, R, s, args, below, meth, c, Q, rfl, hx, hb, -⟩ := Γ
  exact fun H locs sls hP hS hL => lv_icmp_gt hx hb hd ht (fun q => kt q H locs sls hP hS hL) (fun q => kf q H locs sls hP hS hL)
theorem x_if_le (Γ : zC Wf V m nL H0 cc own lv Rc Rs) {x : Int32} {off : Int} {tgt : Nat} (hd : decode cc pc = .ok (.ifCond .le off, 3)) (ht : (pc : Int) + off = (tgt : Int)) (kt : x ≤ 0 → zX Wf V m nL H0 tgt f st h n k sl) (kf : ¬ x ≤ 0 → zX Wf V m nL H0 (pc + 3) f st h n k sl) : zX Wf V m nL H0 pc f (.int x :: st) h n k sl := by
  obtain ⟨p, l, e, R, s, args, below, meth, c, Q, rfl, hx, hb, -⟩ := Γ
  exact fun H locs sls hP hS hL => lv_if_le hx hb hd ht (fun q => kt q H locs sls hP hS hL) (fun q => kf q H locs sls hP hS hL)
theorem x_icmp_le (Γ : zC Wf V m nL H0 cc own lv Rc Rs) {x y : Int32} {off : Int} {tgt : Nat} (hd : decode cc pc = .ok (.if_icmp .le off, 3)) (ht : (pc : Int) + off = (tgt : Int)) (kt : x ≤ y → zX Wf V m nL H0 tgt f st h n k sl) (kf : ¬ x ≤ y → zX Wf V m nL H0 (pc + 3) f st h n k sl) : zX Wf V m nL H0 pc f (.int y :: .int x :: st) h n k sl := by
  obtain ⟨p, l, e, R, s, args, below, meth, c, Q, rfl, hx, hb, -⟩ := Γ
  exact fun H locs sls hP hS hL => lv_icmp_le hx hb hd ht (fun q => kt q H locs sls hP hS hL) (fun q => kf q H locs sls hP hS hL)
theorem x_irem (Γ : zC Wf V m nL H0 cc own lv Rc Rs) {x y : Int32} (hd : decode cc pc = .ok (.irem, 1)) (hne : ¬ y = 0) (kk : zX Wf V m nL H0 (pc + 1) f (.int (x - x / y * y) :: st) h n k sl) : zX Wf V m nL H0 pc f (.int y :: .int x :: st) h n k sl := by
  obtain ⟨p, l, e, R, s, args, below, meth, c, Q, rfl, hx, hb, -⟩ := Γ
  exact fun H locs sls hP hS hL => lv_irem hx hb hd hne (kk H locs sls hP hS hL)
theorem x_ldc (Γ : zC Wf V m nL H0 cc own lv Rc Rs) {i : Nat} {v : Int32} (hw : Cond.constant own i v ∈ zw) (hd : decode cc pc = .ok (.ldc i, 2)) (kk : zX Wf V m nL H0 (pc + 2) f (.int v :: st) h n k sl) : zX Wf V m nL H0 pc f st h n k sl := by
  obtain ⟨p, l, e, R, s, args, below, meth, c, Q, rfl, hx, hb, hml, hown, hts, hh0, hK, hlv, hlo, hRc, hRs⟩ := Γ
  exact fun H locs sls hP hS hL => lv_ldc hx hb hown (hts _ hw) hd (kk H locs sls hP hS hL)
theorem x_ldcw (Γ : zC Wf V m nL H0 cc own lv Rc Rs) {i : Nat} {v : Int32} (hw : Cond.constant own i v ∈ zw) (hd : decode cc pc = .ok (.ldc_w i, 3)) (kk : zX Wf V m nL H0 (pc + 3) f (.int v :: st) h n k sl) : zX Wf V m nL H0 pc f st h n k sl := by
  obtain ⟨p, l, e, R, s, args, below, meth, c, Q, rfl, hx, hb, hml, hown, hts, hh0, hK, hlv, hlo, hRc, hRs⟩ := Γ
  exact fun H locs sls hP hS hL => lv_ldcw hx hb hown (hts _ hw) hd (kk H locs sls hP hS hL)
theorem x_ldc2 (Γ : zC Wf V m nL H0 cc own lv Rc Rs) {i : Nat} {v : Int64} (hw : Cond.constantLong own i v ∈ zw) (hd : decode cc pc = .ok (.ldc2_w i, 3)) (kk : zX Wf V m nL H0 (pc + 3) f (.long v :: st) h n k sl) : zX Wf V m nL H0 pc f st h n k sl := by
  obtain ⟨p, l, e, R, s, args, below, meth, c, Q, rfl, hx, hb, hml, hown, hts, hh0, hK, hlv, hlo, hRc, hRs⟩ := Γ
  exact fun H locs sls hP hS hL => lv_ldc2 hx hb hown (hts _ hw) hd (kk H locs sls hP hS hL)
end ZR
