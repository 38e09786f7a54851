/-- the numbers of the beginning -/
def T0 : zT := fun j => match j with
  | 6 => fun _ => -1
  | 7 => fun i => match i with
    | 0 => 5
    | 1 => 5
    | 2 => 3
    | 7 => 1
    | _ => 0
  | _ => fun _ => 0
def R0 : zT := fun _ _ => 0

set_option maxRecDepth 100000 in
set_option maxHeartbeats 4000000 in
theorem m_X0_init {b : Nat} {p : List zE} (hp : p.length = b) (hb : b ≤ 900) : zM 1 M_X0_init [.ref b] (hL (p ++ [zO 0 [.null, .null, .null, .null, .null, .null, .null, .int 0, .int 0, .int 0, .int 0, .int 0, .int 0, .int 0, .int 0, .int 0]])) (b + 1) none (hL (p ++ [zO 0 (cyO b T0), zI 10 (T0 0), zI 10 (T0 1), zI 10 (T0 2), zI 10 (T0 3), zI 10 (T0 4), zI 10 (T0 5), zI 10 (T0 6)])) (b + 8) 7 70 := by
  refine zM.introi (by decide) rfl (Nat.le_of_ble_eq_true rfl) ?_
  intro Wf V m H0 Γi ρ
  have Γ := Γi.z
  replace Γ : zC Wf V m 2 H0 cX0_init RX0 1 7 70 := Γ
  replace Γi : zCi Wf V m 2 H0 cX0_init RX0 1 7 70 := Γi
  show zX Wf V m 2 H0 0 (zls [(0, .ref b)]) [] (hL (p ++ [zO 0 [.null, .null, .null, .null, .null, .null, .null, .int 0, .int 0, .int 0, .int 0, .int 0, .int 0, .int 0, .int 0, .int 0]])) (b + 1) 0 0
  refine x_aload_n Γ dX0_init_0 rfl ?_
  refine x_obj Γ wl_X0_3 dX0_init_1 (Nat.le_of_ble_eq_true rfl) (Nat.le_of_ble_eq_true rfl) ?_
  refine x_aload_n Γ dX0_init_4 rfl ?_
  refine x_bipush Γ (v := 10) dX0_init_5 rfl ?_
  refine x_newi Γ (N := 10) dX0_init_7 (by decide) rfl (by decide) (by omega) (Nat.le_of_ble_eq_true rfl) (Nat.le_of_ble_eq_true rfl) (hL_push (j := 1) hp rfl) ?_
  refine x_putF Γi (C := RX0) (T := TX0) (N := 16) (j := 0) wu_X0 tyX0 tyX0_ok nmX0 rfl (by decide) wl_X0_9 rfl rfl (tyX0_ok 0 (by decide)) dX0_init_9 (by omega) (hL_at (j := 0) hp rfl) (Nat.le_of_ble_eq_true rfl) (fun _ => rfl) (fun _ => rfl) (h' := hL (p ++ [zO 0 [.ref (b + 1), .null, .null, .null, .null, .null, .null, .int 0, .int 0, .int 0, .int 0, .int 0, .int 0, .int 0, .int 0, .int 0], zI 10 (fun _ => 0)])) (hL_set (j := 0) hp (Nat.le_of_ble_eq_true rfl)) ?_
  refine x_aload_n Γ dX0_init_12 rfl ?_
  refine x_bipush Γ (v := 10) dX0_init_13 rfl ?_
  refine x_newi Γ (N := 10) dX0_init_15 (by decide) rfl (by decide) (by omega) (Nat.le_of_ble_eq_true rfl) (Nat.le_of_ble_eq_true rfl) (hL_push (j := 2) hp rfl) ?_
  refine x_putF Γi (C := RX0) (T := TX0) (N := 16) (j := 1) wu_X0 tyX0 tyX0_ok nmX0 rfl (by decide) wl_X0_15 rfl rfl (tyX0_ok 1 (by decide)) dX0_init_17 (by omega) (hL_at (j := 0) hp rfl) (Nat.le_of_ble_eq_true rfl) (fun _ => rfl) (fun _ => rfl) (h' := hL (p ++ [zO 0 [.ref (b + 1), .ref (b + 2), .null, .null, .null, .null, .null, .int 0, .int 0, .int 0, .int 0, .int 0, .int 0, .int 0, .int 0, .int 0], zI 10 (fun _ => 0), zI 10 (fun _ => 0)])) (hL_set (j := 0) hp (Nat.le_of_ble_eq_true rfl)) ?_
  refine x_aload_n Γ dX0_init_20 rfl ?_
  refine x_bipush Γ (v := 10) dX0_init_21 rfl ?_
  refine x_newi Γ (N := 10) dX0_init_23 (by decide) rfl (by decide) (by omega) (Nat.le_of_ble_eq_true rfl) (Nat.le_of_ble_eq_true rfl) (hL_push (j := 3) hp rfl) ?_
  refine x_putF Γi (C := RX0) (T := TX0) (N := 16) (j := 2) wu_X0 tyX0 tyX0_ok nmX0 rfl (by decide) wl_X0_18 rfl rfl (tyX0_ok 2 (by decide)) dX0_init_25 (by omega) (hL_at (j := 0) hp rfl) (Nat.le_of_ble_eq_true rfl) (fun _ => rfl) (fun _ => rfl) (h' := hL (p ++ [zO 0 [.ref (b + 1), .ref (b + 2), .ref (b + 3), .null, .null, .null, .null, .int 0, .int 0, .int 0, .int 0, .int 0, .int 0, .int 0, .int 0, .int 0], zI 10 (fun _ => 0), zI 10 (fun _ => 0), zI 10 (fun _ => 0)])) (hL_set (j := 0) hp (Nat.le_of_ble_eq_true rfl)) ?_
  refine x_aload_n Γ dX0_init_28 rfl ?_
  refine x_bipush Γ (v := 10) dX0_init_29 rfl ?_
  refine x_newi Γ (N := 10) dX0_init_31 (by decide) rfl (by decide) (by omega) (Nat.le_of_ble_eq_true rfl) (Nat.le_of_ble_eq_true rfl) (hL_push (j := 4) hp rfl) ?_
  refine x_putF Γi (C := RX0) (T := TX0) (N := 16) (j := 3) wu_X0 tyX0 tyX0_ok nmX0 rfl (by decide) wl_X0_21 rfl rfl (tyX0_ok 3 (by decide)) dX0_init_33 (by omega) (hL_at (j := 0) hp rfl) (Nat.le_of_ble_eq_true rfl) (fun _ => rfl) (fun _ => rfl) (h' := hL (p ++ [zO 0 [.ref (b + 1), .ref (b + 2), .ref (b + 3), .ref (b + 4), .null, .null, .null, .int 0, .int 0, .int 0, .int 0, .int 0, .int 0, .int 0, .int 0, .int 0], zI 10 (fun _ => 0), zI 10 (fun _ => 0), zI 10 (fun _ => 0), zI 10 (fun _ => 0)])) (hL_set (j := 0) hp (Nat.le_of_ble_eq_true rfl)) ?_
  refine x_aload_n Γ dX0_init_36 rfl ?_
  refine x_bipush Γ (v := 10) dX0_init_37 rfl ?_
  refine x_newi Γ (N := 10) dX0_init_39 (by decide) rfl (by decide) (by omega) (Nat.le_of_ble_eq_true rfl) (Nat.le_of_ble_eq_true rfl) (hL_push (j := 5) hp rfl) ?_
  refine x_putF Γi (C := RX0) (T := TX0) (N := 16) (j := 4) wu_X0 tyX0 tyX0_ok nmX0 rfl (by decide) wl_X0_24 rfl rfl (tyX0_ok 4 (by decide)) dX0_init_41 (by omega) (hL_at (j := 0) hp rfl) (Nat.le_of_ble_eq_true rfl) (fun _ => rfl) (fun _ => rfl) (h' := hL (p ++ [zO 0 [.ref (b + 1), .ref (b + 2), .ref (b + 3), .ref (b + 4), .ref (b + 5), .null, .null, .int 0, .int 0, .int 0, .int 0, .int 0, .int 0, .int 0, .int 0, .int 0], zI 10 (fun _ => 0), zI 10 (fun _ => 0), zI 10 (fun _ => 0), zI 10 (fun _ => 0), zI 10 (fun _ => 0)])) (hL_set (j := 0) hp (Nat.le_of_ble_eq_true rfl)) ?_
  refine x_aload_n Γ dX0_init_44 rfl ?_
  refine x_bipush Γ (v := 10) dX0_init_45 rfl ?_
  refine x_newi Γ (N := 10) dX0_init_47 (by decide) rfl (by decide) (by omega) (Nat.le_of_ble_eq_true rfl) (Nat.le_of_ble_eq_true rfl) (hL_push (j := 6) hp rfl) ?_
  refine x_putF Γi (C := RX0) (T := TX0) (N := 16) (j := 5) wu_X0 tyX0 tyX0_ok nmX0 rfl (by decide) wl_X0_27 rfl rfl (tyX0_ok 5 (by decide)) dX0_init_49 (by omega) (hL_at (j := 0) hp rfl) (Nat.le_of_ble_eq_true rfl) (fun _ => rfl) (fun _ => rfl) (h' := hL (p ++ [zO 0 [.ref (b + 1), .ref (b + 2), .ref (b + 3), .ref (b + 4), .ref (b + 5), .ref (b + 6), .null, .int 0, .int 0, .int 0, .int 0, .int 0, .int 0, .int 0, .int 0, .int 0], zI 10 (fun _ => 0), zI 10 (fun _ => 0), zI 10 (fun _ => 0), zI 10 (fun _ => 0), zI 10 (fun _ => 0), zI 10 (fun _ => 0)])) (hL_set (j := 0) hp (Nat.le_of_ble_eq_true rfl)) ?_
  refine x_aload_n Γ dX0_init_52 rfl ?_
  refine x_bipush Γ (v := 10) dX0_init_53 rfl ?_
  refine x_newi Γ (N := 10) dX0_init_55 (by decide) rfl (by decide) (by omega) (Nat.le_of_ble_eq_true rfl) (Nat.le_of_ble_eq_true rfl) (hL_push (j := 7) hp rfl) ?_
  refine x_putF Γi (C := RX0) (T := TX0) (N := 16) (j := 6) wu_X0 tyX0 tyX0_ok nmX0 rfl (by decide) wl_X0_30 rfl rfl (tyX0_ok 6 (by decide)) dX0_init_57 (by omega) (hL_at (j := 0) hp rfl) (Nat.le_of_ble_eq_true rfl) (fun _ => rfl) (fun _ => rfl) (h' := hL (p ++ [zO 0 [.ref (b + 1), .ref (b + 2), .ref (b + 3), .ref (b + 4), .ref (b + 5), .ref (b + 6), .ref (b + 7), .int 0, .int 0, .int 0, .int 0, .int 0, .int 0, .int 0, .int 0, .int 0], zI 10 (fun _ => 0), zI 10 (fun _ => 0), zI 10 (fun _ => 0), zI 10 (fun _ => 0), zI 10 (fun _ => 0), zI 10 (fun _ => 0), zI 10 (fun _ => 0)])) (hL_set (j := 0) hp (Nat.le_of_ble_eq_true rfl)) ?_
  refine x_aload_n Γ dX0_init_60 rfl ?_
  refine x_iconst Γ (v := 0) dX0_init_61 rfl ?_
  refine pf_X0_33 Γ dX0_init_62 (by omega) (hL_at (j := 0) hp rfl) (Nat.le_of_ble_eq_true rfl) (h' := hL (p ++ [zO 0 [.ref (b + 1), .ref (b + 2), .ref (b + 3), .ref (b + 4), .ref (b + 5), .ref (b + 6), .ref (b + 7), .int 0, .int 0, .int 0, .int 0, .int 0, .int 0, .int 0, .int 0, .int 0], zI 10 (fun _ => 0), zI 10 (fun _ => 0), zI 10 (fun _ => 0), zI 10 (fun _ => 0), zI 10 (fun _ => 0), zI 10 (fun _ => 0), zI 10 (fun _ => 0)])) (hL_set (j := 0) hp (Nat.le_of_ble_eq_true rfl)) ?_
  refine x_aload_n Γ dX0_init_65 rfl ?_
  refine x_iconst Γ (v := 0) dX0_init_66 rfl ?_
  refine pf_X0_37 Γ dX0_init_67 (by omega) (hL_at (j := 0) hp rfl) (Nat.le_of_ble_eq_true rfl) (h' := hL (p ++ [zO 0 [.ref (b + 1), .ref (b + 2), .ref (b + 3), .ref (b + 4), .ref (b + 5), .ref (b + 6), .ref (b + 7), .int 0, .int 0, .int 0, .int 0, .int 0, .int 0, .int 0, .int 0, .int 0], zI 10 (fun _ => 0), zI 10 (fun _ => 0), zI 10 (fun _ => 0), zI 10 (fun _ => 0), zI 10 (fun _ => 0), zI 10 (fun _ => 0), zI 10 (fun _ => 0)])) (hL_set (j := 0) hp (Nat.le_of_ble_eq_true rfl)) ?_
  refine x_aload_n Γ dX0_init_70 rfl ?_
  refine x_iconst Γ (v := 5) dX0_init_71 rfl ?_
  refine pf_X0_40 Γ dX0_init_72 (by omega) (hL_at (j := 0) hp rfl) (Nat.le_of_ble_eq_true rfl) (h' := hL (p ++ [zO 0 [.ref (b + 1), .ref (b + 2), .ref (b + 3), .ref (b + 4), .ref (b + 5), .ref (b + 6), .ref (b + 7), .int 0, .int 0, .int 5, .int 0, .int 0, .int 0, .int 0, .int 0, .int 0], zI 10 (fun _ => 0), zI 10 (fun _ => 0), zI 10 (fun _ => 0), zI 10 (fun _ => 0), zI 10 (fun _ => 0), zI 10 (fun _ => 0), zI 10 (fun _ => 0)])) (hL_set (j := 0) hp (Nat.le_of_ble_eq_true rfl)) ?_
  refine x_aload_n Γ dX0_init_75 rfl ?_
  refine x_iconst Γ (v := 5) dX0_init_76 rfl ?_
  refine pf_X0_43 Γ dX0_init_77 (by omega) (hL_at (j := 0) hp rfl) (Nat.le_of_ble_eq_true rfl) (h' := hL (p ++ [zO 0 [.ref (b + 1), .ref (b + 2), .ref (b + 3), .ref (b + 4), .ref (b + 5), .ref (b + 6), .ref (b + 7), .int 0, .int 0, .int 5, .int 5, .int 0, .int 0, .int 0, .int 0, .int 0], zI 10 (fun _ => 0), zI 10 (fun _ => 0), zI 10 (fun _ => 0), zI 10 (fun _ => 0), zI 10 (fun _ => 0), zI 10 (fun _ => 0), zI 10 (fun _ => 0)])) (hL_set (j := 0) hp (Nat.le_of_ble_eq_true rfl)) ?_
  refine x_aload_n Γ dX0_init_80 rfl ?_
  refine x_iconst Γ (v := 3) dX0_init_81 rfl ?_
  refine pf_X0_46 Γ dX0_init_82 (by omega) (hL_at (j := 0) hp rfl) (Nat.le_of_ble_eq_true rfl) (h' := hL (p ++ [zO 0 [.ref (b + 1), .ref (b + 2), .ref (b + 3), .ref (b + 4), .ref (b + 5), .ref (b + 6), .ref (b + 7), .int 0, .int 0, .int 5, .int 5, .int 3, .int 0, .int 0, .int 0, .int 0], zI 10 (fun _ => 0), zI 10 (fun _ => 0), zI 10 (fun _ => 0), zI 10 (fun _ => 0), zI 10 (fun _ => 0), zI 10 (fun _ => 0), zI 10 (fun _ => 0)])) (hL_set (j := 0) hp (Nat.le_of_ble_eq_true rfl)) ?_
  refine x_aload_n Γ dX0_init_85 rfl ?_
  refine x_iconst Γ (v := 0) dX0_init_86 rfl ?_
  refine pf_X0_49 Γ dX0_init_87 (by omega) (hL_at (j := 0) hp rfl) (Nat.le_of_ble_eq_true rfl) (h' := hL (p ++ [zO 0 [.ref (b + 1), .ref (b + 2), .ref (b + 3), .ref (b + 4), .ref (b + 5), .ref (b + 6), .ref (b + 7), .int 0, .int 0, .int 5, .int 5, .int 3, .int 0, .int 0, .int 0, .int 0], zI 10 (fun _ => 0), zI 10 (fun _ => 0), zI 10 (fun _ => 0), zI 10 (fun _ => 0), zI 10 (fun _ => 0), zI 10 (fun _ => 0), zI 10 (fun _ => 0)])) (hL_set (j := 0) hp (Nat.le_of_ble_eq_true rfl)) ?_
  refine x_aload_n Γ dX0_init_90 rfl ?_
  refine x_iconst Γ (v := 0) dX0_init_91 rfl ?_
  refine pf_X0_52 Γ dX0_init_92 (by omega) (hL_at (j := 0) hp rfl) (Nat.le_of_ble_eq_true rfl) (h' := hL (p ++ [zO 0 [.ref (b + 1), .ref (b + 2), .ref (b + 3), .ref (b + 4), .ref (b + 5), .ref (b + 6), .ref (b + 7), .int 0, .int 0, .int 5, .int 5, .int 3, .int 0, .int 0, .int 0, .int 0], zI 10 (fun _ => 0), zI 10 (fun _ => 0), zI 10 (fun _ => 0), zI 10 (fun _ => 0), zI 10 (fun _ => 0), zI 10 (fun _ => 0), zI 10 (fun _ => 0)])) (hL_set (j := 0) hp (Nat.le_of_ble_eq_true rfl)) ?_
  refine x_aload_n Γ dX0_init_95 rfl ?_
  refine x_iconst Γ (v := 0) dX0_init_96 rfl ?_
  refine pf_X0_55 Γ dX0_init_97 (by omega) (hL_at (j := 0) hp rfl) (Nat.le_of_ble_eq_true rfl) (h' := hL (p ++ [zO 0 [.ref (b + 1), .ref (b + 2), .ref (b + 3), .ref (b + 4), .ref (b + 5), .ref (b + 6), .ref (b + 7), .int 0, .int 0, .int 5, .int 5, .int 3, .int 0, .int 0, .int 0, .int 0], zI 10 (fun _ => 0), zI 10 (fun _ => 0), zI 10 (fun _ => 0), zI 10 (fun _ => 0), zI 10 (fun _ => 0), zI 10 (fun _ => 0), zI 10 (fun _ => 0)])) (hL_set (j := 0) hp (Nat.le_of_ble_eq_true rfl)) ?_
  refine x_aload_n Γ dX0_init_100 rfl ?_
  refine x_iconst Γ (v := 1) dX0_init_101 rfl ?_
  refine pf_X0_58 Γ dX0_init_102 (by omega) (hL_at (j := 0) hp rfl) (Nat.le_of_ble_eq_true rfl) (h' := hL (p ++ [zO 0 [.ref (b + 1), .ref (b + 2), .ref (b + 3), .ref (b + 4), .ref (b + 5), .ref (b + 6), .ref (b + 7), .int 0, .int 0, .int 5, .int 5, .int 3, .int 0, .int 0, .int 0, .int 1], zI 10 (fun _ => 0), zI 10 (fun _ => 0), zI 10 (fun _ => 0), zI 10 (fun _ => 0), zI 10 (fun _ => 0), zI 10 (fun _ => 0), zI 10 (fun _ => 0)])) (hL_set (j := 0) hp (Nat.le_of_ble_eq_true rfl)) ?_
  refine x_iconst Γ (v := 0) dX0_init_105 rfl ?_
  refine x_istore_n Γ dX0_init_106 (by decide) ?_
  refine x_iload_n Γ dX0_init_107 rfl ?_
  refine x_bipush Γ (v := 10) dX0_init_108 rfl ?_
  refine x_icmp_ge Γ (tgt := 126) dX0_init_110 (by decide) (fun z => absurd z (show ¬ (10 : Int32) ≤ 0 by decide)) (fun _ => ?_)
  refine x_aload_n Γ dX0_init_113 rfl ?_
  refine gf_X0_30 Γ dX0_init_114 (by omega) (hL_at (j := 0) hp rfl) rfl ?_
  refine x_iload_n Γ dX0_init_117 rfl ?_
  refine x_iconst Γ (v := -1) dX0_init_118 rfl ?_
  refine x_iast Γ dX0_init_119 (by omega) (hL_at (j := 7) hp rfl) (j := 0) rfl (by decide) (by decide) (h' := hL (p ++ [zO 0 [.ref (b + 1), .ref (b + 2), .ref (b + 3), .ref (b + 4), .ref (b + 5), .ref (b + 6), .ref (b + 7), .int 0, .int 0, .int 5, .int 5, .int 3, .int 0, .int 0, .int 0, .int 1], zI 10 (fun _ => 0), zI 10 (fun _ => 0), zI 10 (fun _ => 0), zI 10 (fun _ => 0), zI 10 (fun _ => 0), zI 10 (fun _ => 0), zI 10 (upd (fun _ => 0) 0 (-1))])) (hL_set (j := 7) hp (Nat.le_of_ble_eq_true rfl)) ?_
  refine x_iinc Γ (v := 1) dX0_init_120 rfl rfl (by decide) ?_
  refine x_goto Γ (tgt := 107) dX0_init_123 (by decide) ?_
  refine x_iload_n Γ dX0_init_107 rfl ?_
  refine x_bipush Γ (v := 10) dX0_init_108 rfl ?_
  refine x_icmp_ge Γ (tgt := 126) dX0_init_110 (by decide) (fun z => absurd z (show ¬ (10 : Int32) ≤ 1 by decide)) (fun _ => ?_)
  refine x_aload_n Γ dX0_init_113 rfl ?_
  refine gf_X0_30 Γ dX0_init_114 (by omega) (hL_at (j := 0) hp rfl) rfl ?_
  refine x_iload_n Γ dX0_init_117 rfl ?_
  refine x_iconst Γ (v := -1) dX0_init_118 rfl ?_
  refine x_iast Γ dX0_init_119 (by omega) (hL_at (j := 7) hp rfl) (j := 1) rfl (by decide) (by decide) (h' := hL (p ++ [zO 0 [.ref (b + 1), .ref (b + 2), .ref (b + 3), .ref (b + 4), .ref (b + 5), .ref (b + 6), .ref (b + 7), .int 0, .int 0, .int 5, .int 5, .int 3, .int 0, .int 0, .int 0, .int 1], zI 10 (fun _ => 0), zI 10 (fun _ => 0), zI 10 (fun _ => 0), zI 10 (fun _ => 0), zI 10 (fun _ => 0), zI 10 (fun _ => 0), zI 10 (upd (upd (fun _ => 0) 0 (-1)) 1 (-1))])) (hL_set (j := 7) hp (Nat.le_of_ble_eq_true rfl)) ?_
  refine x_iinc Γ (v := 2) dX0_init_120 rfl rfl (by decide) ?_
  refine x_goto Γ (tgt := 107) dX0_init_123 (by decide) ?_
  refine x_iload_n Γ dX0_init_107 rfl ?_
  refine x_bipush Γ (v := 10) dX0_init_108 rfl ?_
  refine x_icmp_ge Γ (tgt := 126) dX0_init_110 (by decide) (fun z => absurd z (show ¬ (10 : Int32) ≤ 2 by decide)) (fun _ => ?_)
  refine x_aload_n Γ dX0_init_113 rfl ?_
  refine gf_X0_30 Γ dX0_init_114 (by omega) (hL_at (j := 0) hp rfl) rfl ?_
  refine x_iload_n Γ dX0_init_117 rfl ?_
  refine x_iconst Γ (v := -1) dX0_init_118 rfl ?_
  refine x_iast Γ dX0_init_119 (by omega) (hL_at (j := 7) hp rfl) (j := 2) rfl (by decide) (by decide) (h' := hL (p ++ [zO 0 [.ref (b + 1), .ref (b + 2), .ref (b + 3), .ref (b + 4), .ref (b + 5), .ref (b + 6), .ref (b + 7), .int 0, .int 0, .int 5, .int 5, .int 3, .int 0, .int 0, .int 0, .int 1], zI 10 (fun _ => 0), zI 10 (fun _ => 0), zI 10 (fun _ => 0), zI 10 (fun _ => 0), zI 10 (fun _ => 0), zI 10 (fun _ => 0), zI 10 (upd (upd (upd (fun _ => 0) 0 (-1)) 1 (-1)) 2 (-1))])) (hL_set (j := 7) hp (Nat.le_of_ble_eq_true rfl)) ?_
  refine x_iinc Γ (v := 3) dX0_init_120 rfl rfl (by decide) ?_
  refine x_goto Γ (tgt := 107) dX0_init_123 (by decide) ?_
  refine x_iload_n Γ dX0_init_107 rfl ?_
  refine x_bipush Γ (v := 10) dX0_init_108 rfl ?_
  refine x_icmp_ge Γ (tgt := 126) dX0_init_110 (by decide) (fun z => absurd z (show ¬ (10 : Int32) ≤ 3 by decide)) (fun _ => ?_)
  refine x_aload_n Γ dX0_init_113 rfl ?_
  refine gf_X0_30 Γ dX0_init_114 (by omega) (hL_at (j := 0) hp rfl) rfl ?_
  refine x_iload_n Γ dX0_init_117 rfl ?_
  refine x_iconst Γ (v := -1) dX0_init_118 rfl ?_
  refine x_iast Γ dX0_init_119 (by omega) (hL_at (j := 7) hp rfl) (j := 3) rfl (by decide) (by decide) (h' := hL (p ++ [zO 0 [.ref (b + 1), .ref (b + 2), .ref (b + 3), .ref (b + 4), .ref (b + 5), .ref (b + 6), .ref (b + 7), .int 0, .int 0, .int 5, .int 5, .int 3, .int 0, .int 0, .int 0, .int 1], zI 10 (fun _ => 0), zI 10 (fun _ => 0), zI 10 (fun _ => 0), zI 10 (fun _ => 0), zI 10 (fun _ => 0), zI 10 (fun _ => 0), zI 10 (upd (upd (upd (upd (fun _ => 0) 0 (-1)) 1 (-1)) 2 (-1)) 3 (-1))])) (hL_set (j := 7) hp (Nat.le_of_ble_eq_true rfl)) ?_
  refine x_iinc Γ (v := 4) dX0_init_120 rfl rfl (by decide) ?_
  refine x_goto Γ (tgt := 107) dX0_init_123 (by decide) ?_
  refine x_iload_n Γ dX0_init_107 rfl ?_
  refine x_bipush Γ (v := 10) dX0_init_108 rfl ?_
  refine x_icmp_ge Γ (tgt := 126) dX0_init_110 (by decide) (fun z => absurd z (show ¬ (10 : Int32) ≤ 4 by decide)) (fun _ => ?_)
  refine x_aload_n Γ dX0_init_113 rfl ?_
  refine gf_X0_30 Γ dX0_init_114 (by omega) (hL_at (j := 0) hp rfl) rfl ?_
  refine x_iload_n Γ dX0_init_117 rfl ?_
  refine x_iconst Γ (v := -1) dX0_init_118 rfl ?_
  refine x_iast Γ dX0_init_119 (by omega) (hL_at (j := 7) hp rfl) (j := 4) rfl (by decide) (by decide) (h' := hL (p ++ [zO 0 [.ref (b + 1), .ref (b + 2), .ref (b + 3), .ref (b + 4), .ref (b + 5), .ref (b + 6), .ref (b + 7), .int 0, .int 0, .int 5, .int 5, .int 3, .int 0, .int 0, .int 0, .int 1], zI 10 (fun _ => 0), zI 10 (fun _ => 0), zI 10 (fun _ => 0), zI 10 (fun _ => 0), zI 10 (fun _ => 0), zI 10 (fun _ => 0), zI 10 (upd (upd (upd (upd (upd (fun _ => 0) 0 (-1)) 1 (-1)) 2 (-1)) 3 (-1)) 4 (-1))])) (hL_set (j := 7) hp (Nat.le_of_ble_eq_true rfl)) ?_
  refine x_iinc Γ (v := 5) dX0_init_120 rfl rfl (by decide) ?_
  refine x_goto Γ (tgt := 107) dX0_init_123 (by decide) ?_
  refine x_iload_n Γ dX0_init_107 rfl ?_
  refine x_bipush Γ (v := 10) dX0_init_108 rfl ?_
  refine x_icmp_ge Γ (tgt := 126) dX0_init_110 (by decide) (fun z => absurd z (show ¬ (10 : Int32) ≤ 5 by decide)) (fun _ => ?_)
  refine x_aload_n Γ dX0_init_113 rfl ?_
  refine gf_X0_30 Γ dX0_init_114 (by omega) (hL_at (j := 0) hp rfl) rfl ?_
  refine x_iload_n Γ dX0_init_117 rfl ?_
  refine x_iconst Γ (v := -1) dX0_init_118 rfl ?_
  refine x_iast Γ dX0_init_119 (by omega) (hL_at (j := 7) hp rfl) (j := 5) rfl (by decide) (by decide) (h' := hL (p ++ [zO 0 [.ref (b + 1), .ref (b + 2), .ref (b + 3), .ref (b + 4), .ref (b + 5), .ref (b + 6), .ref (b + 7), .int 0, .int 0, .int 5, .int 5, .int 3, .int 0, .int 0, .int 0, .int 1], zI 10 (fun _ => 0), zI 10 (fun _ => 0), zI 10 (fun _ => 0), zI 10 (fun _ => 0), zI 10 (fun _ => 0), zI 10 (fun _ => 0), zI 10 (upd (upd (upd (upd (upd (upd (fun _ => 0) 0 (-1)) 1 (-1)) 2 (-1)) 3 (-1)) 4 (-1)) 5 (-1))])) (hL_set (j := 7) hp (Nat.le_of_ble_eq_true rfl)) ?_
  refine x_iinc Γ (v := 6) dX0_init_120 rfl rfl (by decide) ?_
  refine x_goto Γ (tgt := 107) dX0_init_123 (by decide) ?_
  refine x_iload_n Γ dX0_init_107 rfl ?_
  refine x_bipush Γ (v := 10) dX0_init_108 rfl ?_
  refine x_icmp_ge Γ (tgt := 126) dX0_init_110 (by decide) (fun z => absurd z (show ¬ (10 : Int32) ≤ 6 by decide)) (fun _ => ?_)
  refine x_aload_n Γ dX0_init_113 rfl ?_
  refine gf_X0_30 Γ dX0_init_114 (by omega) (hL_at (j := 0) hp rfl) rfl ?_
  refine x_iload_n Γ dX0_init_117 rfl ?_
  refine x_iconst Γ (v := -1) dX0_init_118 rfl ?_
  refine x_iast Γ dX0_init_119 (by omega) (hL_at (j := 7) hp rfl) (j := 6) rfl (by decide) (by decide) (h' := hL (p ++ [zO 0 [.ref (b + 1), .ref (b + 2), .ref (b + 3), .ref (b + 4), .ref (b + 5), .ref (b + 6), .ref (b + 7), .int 0, .int 0, .int 5, .int 5, .int 3, .int 0, .int 0, .int 0, .int 1], zI 10 (fun _ => 0), zI 10 (fun _ => 0), zI 10 (fun _ => 0), zI 10 (fun _ => 0), zI 10 (fun _ => 0), zI 10 (fun _ => 0), zI 10 (upd (upd (upd (upd (upd (upd (upd (fun _ => 0) 0 (-1)) 1 (-1)) 2 (-1)) 3 (-1)) 4 (-1)) 5 (-1)) 6 (-1))])) (hL_set (j := 7) hp (Nat.le_of_ble_eq_true rfl)) ?_
  refine x_iinc Γ (v := 7) dX0_init_120 rfl rfl (by decide) ?_
  refine x_goto Γ (tgt := 107) dX0_init_123 (by decide) ?_
  refine x_iload_n Γ dX0_init_107 rfl ?_
  refine x_bipush Γ (v := 10) dX0_init_108 rfl ?_
  refine x_icmp_ge Γ (tgt := 126) dX0_init_110 (by decide) (fun z => absurd z (show ¬ (10 : Int32) ≤ 7 by decide)) (fun _ => ?_)
  refine x_aload_n Γ dX0_init_113 rfl ?_
  refine gf_X0_30 Γ dX0_init_114 (by omega) (hL_at (j := 0) hp rfl) rfl ?_
  refine x_iload_n Γ dX0_init_117 rfl ?_
  refine x_iconst Γ (v := -1) dX0_init_118 rfl ?_
  refine x_iast Γ dX0_init_119 (by omega) (hL_at (j := 7) hp rfl) (j := 7) rfl (by decide) (by decide) (h' := hL (p ++ [zO 0 [.ref (b + 1), .ref (b + 2), .ref (b + 3), .ref (b + 4), .ref (b + 5), .ref (b + 6), .ref (b + 7), .int 0, .int 0, .int 5, .int 5, .int 3, .int 0, .int 0, .int 0, .int 1], zI 10 (fun _ => 0), zI 10 (fun _ => 0), zI 10 (fun _ => 0), zI 10 (fun _ => 0), zI 10 (fun _ => 0), zI 10 (fun _ => 0), zI 10 (upd (upd (upd (upd (upd (upd (upd (upd (fun _ => 0) 0 (-1)) 1 (-1)) 2 (-1)) 3 (-1)) 4 (-1)) 5 (-1)) 6 (-1)) 7 (-1))])) (hL_set (j := 7) hp (Nat.le_of_ble_eq_true rfl)) ?_
  refine x_iinc Γ (v := 8) dX0_init_120 rfl rfl (by decide) ?_
  refine x_goto Γ (tgt := 107) dX0_init_123 (by decide) ?_
  refine x_iload_n Γ dX0_init_107 rfl ?_
  refine x_bipush Γ (v := 10) dX0_init_108 rfl ?_
  refine x_icmp_ge Γ (tgt := 126) dX0_init_110 (by decide) (fun z => absurd z (show ¬ (10 : Int32) ≤ 8 by decide)) (fun _ => ?_)
  refine x_aload_n Γ dX0_init_113 rfl ?_
  refine gf_X0_30 Γ dX0_init_114 (by omega) (hL_at (j := 0) hp rfl) rfl ?_
  refine x_iload_n Γ dX0_init_117 rfl ?_
  refine x_iconst Γ (v := -1) dX0_init_118 rfl ?_
  refine x_iast Γ dX0_init_119 (by omega) (hL_at (j := 7) hp rfl) (j := 8) rfl (by decide) (by decide) (h' := hL (p ++ [zO 0 [.ref (b + 1), .ref (b + 2), .ref (b + 3), .ref (b + 4), .ref (b + 5), .ref (b + 6), .ref (b + 7), .int 0, .int 0, .int 5, .int 5, .int 3, .int 0, .int 0, .int 0, .int 1], zI 10 (fun _ => 0), zI 10 (fun _ => 0), zI 10 (fun _ => 0), zI 10 (fun _ => 0), zI 10 (fun _ => 0), zI 10 (fun _ => 0), zI 10 (upd (upd (upd (upd (upd (upd (upd (upd (upd (fun _ => 0) 0 (-1)) 1 (-1)) 2 (-1)) 3 (-1)) 4 (-1)) 5 (-1)) 6 (-1)) 7 (-1)) 8 (-1))])) (hL_set (j := 7) hp (Nat.le_of_ble_eq_true rfl)) ?_
  refine x_iinc Γ (v := 9) dX0_init_120 rfl rfl (by decide) ?_
  refine x_goto Γ (tgt := 107) dX0_init_123 (by decide) ?_
  refine x_iload_n Γ dX0_init_107 rfl ?_
  refine x_bipush Γ (v := 10) dX0_init_108 rfl ?_
  refine x_icmp_ge Γ (tgt := 126) dX0_init_110 (by decide) (fun z => absurd z (show ¬ (10 : Int32) ≤ 9 by decide)) (fun _ => ?_)
  refine x_aload_n Γ dX0_init_113 rfl ?_
  refine gf_X0_30 Γ dX0_init_114 (by omega) (hL_at (j := 0) hp rfl) rfl ?_
  refine x_iload_n Γ dX0_init_117 rfl ?_
  refine x_iconst Γ (v := -1) dX0_init_118 rfl ?_
  refine x_iast Γ dX0_init_119 (by omega) (hL_at (j := 7) hp rfl) (j := 9) rfl (by decide) (by decide) (h' := hL (p ++ [zO 0 [.ref (b + 1), .ref (b + 2), .ref (b + 3), .ref (b + 4), .ref (b + 5), .ref (b + 6), .ref (b + 7), .int 0, .int 0, .int 5, .int 5, .int 3, .int 0, .int 0, .int 0, .int 1], zI 10 (fun _ => 0), zI 10 (fun _ => 0), zI 10 (fun _ => 0), zI 10 (fun _ => 0), zI 10 (fun _ => 0), zI 10 (fun _ => 0), zI 10 (upd (upd (upd (upd (upd (upd (upd (upd (upd (upd (fun _ => 0) 0 (-1)) 1 (-1)) 2 (-1)) 3 (-1)) 4 (-1)) 5 (-1)) 6 (-1)) 7 (-1)) 8 (-1)) 9 (-1))])) (hL_set (j := 7) hp (Nat.le_of_ble_eq_true rfl)) ?_
  refine x_iinc Γ (v := 10) dX0_init_120 rfl rfl (by decide) ?_
  refine x_goto Γ (tgt := 107) dX0_init_123 (by decide) ?_
  refine x_iload_n Γ dX0_init_107 rfl ?_
  refine x_bipush Γ (v := 10) dX0_init_108 rfl ?_
  refine x_icmp_ge Γ (tgt := 126) dX0_init_110 (by decide) (fun _ => ?_) (fun z => absurd (show (10 : Int32) ≤ 10 by decide) z)
  exact x_vret ρ dX0_init_126 rfl rfl (hL_zH ⟨Or.inl rfl, ⟨Or.inl rfl, ⟨Or.inl rfl, ⟨Or.inl rfl, ⟨Or.inl rfl, ⟨Or.inl rfl, ⟨Or.inl rfl, ⟨Or.inr ⟨_, _, _, rfl, rfl, by decide +kernel⟩, trivial⟩⟩⟩⟩⟩⟩⟩⟩)

set_option maxRecDepth 100000 in
set_option maxHeartbeats 4000000 in
theorem m_X1_init {b : Nat} {p : List zE} (hp : p.length = b) (hb : b ≤ 900) : zM 1 M_X1_init [.ref b] (hL (p ++ [zO 1 [.null, .int 0, .int 0]])) (b + 1) none (hL (p ++ [zO 1 [.ref (b + 1), .int 0, .int 0], zI 40 (fun _ => 0)])) (b + 2) 1 40 := by
  refine zM.introi (by decide) rfl (Nat.le_of_ble_eq_true rfl) ?_
  intro Wf V m H0 Γi ρ
  have Γ := Γi.z
  replace Γ : zC Wf V m 1 H0 cX1_init RX1 1 1 40 := Γ
  replace Γi : zCi Wf V m 1 H0 cX1_init RX1 1 1 40 := Γi
  show zX Wf V m 1 H0 0 (zls [(0, .ref b)]) [] (hL (p ++ [zO 1 [.null, .int 0, .int 0]])) (b + 1) 0 0
  refine x_aload_n Γ dX1_init_0 rfl ?_
  refine x_obj Γ wl_X1_3 dX1_init_1 (Nat.le_of_ble_eq_true rfl) (Nat.le_of_ble_eq_true rfl) ?_
  refine x_aload_n Γ dX1_init_4 rfl ?_
  refine x_bipush Γ (v := 40) dX1_init_5 rfl ?_
  refine x_newi Γ (N := 40) dX1_init_7 (by decide) rfl (by decide) (by omega) (Nat.le_of_ble_eq_true rfl) (Nat.le_of_ble_eq_true rfl) (hL_push (j := 1) hp rfl) ?_
  refine x_putF Γi (C := RX1) (T := TX1) (N := 3) (j := 0) wu_X1 tyX1 tyX1_ok nmX1 rfl (by decide) wl_X1_9 rfl rfl (tyX1_ok 0 (by decide)) dX1_init_9 (by omega) (hL_at (j := 0) hp rfl) (Nat.le_of_ble_eq_true rfl) (fun _ => rfl) (fun _ => rfl) (h' := hL (p ++ [zO 1 [.ref (b + 1), .int 0, .int 0], zI 40 (fun _ => 0)])) (hL_set (j := 0) hp (Nat.le_of_ble_eq_true rfl)) ?_
  refine x_aload_n Γ dX1_init_12 rfl ?_
  refine x_iconst Γ (v := 0) dX1_init_13 rfl ?_
  refine pf_X1_15 Γ dX1_init_14 (by omega) (hL_at (j := 0) hp rfl) (Nat.le_of_ble_eq_true rfl) (h' := hL (p ++ [zO 1 [.ref (b + 1), .int 0, .int 0], zI 40 (fun _ => 0)])) (hL_set (j := 0) hp (Nat.le_of_ble_eq_true rfl)) ?_
  refine x_aload_n Γ dX1_init_17 rfl ?_
  refine x_iconst Γ (v := 0) dX1_init_18 rfl ?_
  refine pf_X1_19 Γ dX1_init_19 (by omega) (hL_at (j := 0) hp rfl) (Nat.le_of_ble_eq_true rfl) (h' := hL (p ++ [zO 1 [.ref (b + 1), .int 0, .int 0], zI 40 (fun _ => 0)])) (hL_set (j := 0) hp (Nat.le_of_ble_eq_true rfl)) ?_
  exact x_vret ρ dX1_init_22 rfl rfl (hL_zH ⟨Or.inl rfl, ⟨Or.inl rfl, trivial⟩⟩)

set_option maxRecDepth 100000 in
set_option maxHeartbeats 4000000 in
theorem m_X2_init {b : Nat} {p : List zE} (hp : p.length = b) (hb : b ≤ 900) : zM 1 M_X2_init [.ref b] (hL (p ++ [zO 2 [.null, .int 0, .int 0, .int 0, .int 0, .int 0]])) (b + 1) none (hL (p ++ [zO 2 [.ref (b + 1), .int 0, .int 0, .int 0, .int 0, .int 0], zI 120 (fun _ => 0)])) (b + 2) 1 120 := by
  refine zM.introi (by decide) rfl (Nat.le_of_ble_eq_true rfl) ?_
  intro Wf V m H0 Γi ρ
  have Γ := Γi.z
  replace Γ : zC Wf V m 1 H0 cX2_init RX2 1 1 120 := Γ
  replace Γi : zCi Wf V m 1 H0 cX2_init RX2 1 1 120 := Γi
  show zX Wf V m 1 H0 0 (zls [(0, .ref b)]) [] (hL (p ++ [zO 2 [.null, .int 0, .int 0, .int 0, .int 0, .int 0]])) (b + 1) 0 0
  refine x_aload_n Γ dX2_init_0 rfl ?_
  refine x_obj Γ wl_X2_3 dX2_init_1 (Nat.le_of_ble_eq_true rfl) (Nat.le_of_ble_eq_true rfl) ?_
  refine x_aload_n Γ dX2_init_4 rfl ?_
  refine x_bipush Γ (v := 120) dX2_init_5 rfl ?_
  refine x_newi Γ (N := 120) dX2_init_7 (by decide) rfl (by decide) (by omega) (Nat.le_of_ble_eq_true rfl) (Nat.le_of_ble_eq_true rfl) (hL_push (j := 1) hp rfl) ?_
  refine x_putF Γi (C := RX2) (T := TX2) (N := 6) (j := 0) wu_X2 tyX2 tyX2_ok nmX2 rfl (by decide) wl_X2_9 rfl rfl (tyX2_ok 0 (by decide)) dX2_init_9 (by omega) (hL_at (j := 0) hp rfl) (Nat.le_of_ble_eq_true rfl) (fun _ => rfl) (fun _ => rfl) (h' := hL (p ++ [zO 2 [.ref (b + 1), .int 0, .int 0, .int 0, .int 0, .int 0], zI 120 (fun _ => 0)])) (hL_set (j := 0) hp (Nat.le_of_ble_eq_true rfl)) ?_
  refine x_aload_n Γ dX2_init_12 rfl ?_
  refine x_iconst Γ (v := 0) dX2_init_13 rfl ?_
  refine pf_X2_15 Γ dX2_init_14 (by omega) (hL_at (j := 0) hp rfl) (Nat.le_of_ble_eq_true rfl) (h' := hL (p ++ [zO 2 [.ref (b + 1), .int 0, .int 0, .int 0, .int 0, .int 0], zI 120 (fun _ => 0)])) (hL_set (j := 0) hp (Nat.le_of_ble_eq_true rfl)) ?_
  refine x_aload_n Γ dX2_init_17 rfl ?_
  refine x_iconst Γ (v := 0) dX2_init_18 rfl ?_
  refine pf_X2_19 Γ dX2_init_19 (by omega) (hL_at (j := 0) hp rfl) (Nat.le_of_ble_eq_true rfl) (h' := hL (p ++ [zO 2 [.ref (b + 1), .int 0, .int 0, .int 0, .int 0, .int 0], zI 120 (fun _ => 0)])) (hL_set (j := 0) hp (Nat.le_of_ble_eq_true rfl)) ?_
  refine x_aload_n Γ dX2_init_22 rfl ?_
  refine x_iconst Γ (v := 0) dX2_init_23 rfl ?_
  refine pf_X2_22 Γ dX2_init_24 (by omega) (hL_at (j := 0) hp rfl) (Nat.le_of_ble_eq_true rfl) (h' := hL (p ++ [zO 2 [.ref (b + 1), .int 0, .int 0, .int 0, .int 0, .int 0], zI 120 (fun _ => 0)])) (hL_set (j := 0) hp (Nat.le_of_ble_eq_true rfl)) ?_
  refine x_aload_n Γ dX2_init_27 rfl ?_
  refine x_iconst Γ (v := 0) dX2_init_28 rfl ?_
  refine pf_X2_25 Γ dX2_init_29 (by omega) (hL_at (j := 0) hp rfl) (Nat.le_of_ble_eq_true rfl) (h' := hL (p ++ [zO 2 [.ref (b + 1), .int 0, .int 0, .int 0, .int 0, .int 0], zI 120 (fun _ => 0)])) (hL_set (j := 0) hp (Nat.le_of_ble_eq_true rfl)) ?_
  refine x_aload_n Γ dX2_init_32 rfl ?_
  refine x_iconst Γ (v := 0) dX2_init_33 rfl ?_
  refine pf_X2_28 Γ dX2_init_34 (by omega) (hL_at (j := 0) hp rfl) (Nat.le_of_ble_eq_true rfl) (h' := hL (p ++ [zO 2 [.ref (b + 1), .int 0, .int 0, .int 0, .int 0, .int 0], zI 120 (fun _ => 0)])) (hL_set (j := 0) hp (Nat.le_of_ble_eq_true rfl)) ?_
  exact x_vret ρ dX2_init_37 rfl rfl (hL_zH ⟨Or.inl rfl, ⟨Or.inl rfl, trivial⟩⟩)

set_option maxRecDepth 100000 in
set_option maxHeartbeats 4000000 in
theorem m_X4_init {b : Nat} {p : List zE} (hp : p.length = b) (hb : b ≤ 900) : zM 1 M_X4_init [.ref b] (hL (p ++ [zO 4 [.null, .null, .null, .int 0, .null, .int 0, .int 0, .null, .int 0, .int 0, .int 0, .int 0, .int 0, .int 0, .null, .null, .null]])) (b + 1) none (hL (p ++ [zO 4 [.ref (b + 1), .ref (b + 2), .ref (b + 3), .int 0, .ref (b + 4), .int 0, .int 0, .ref (b + 5), .int 0, .int 0, .int 0, .int 0, .int 0, .int 0, .ref (b + 6), .ref (b + 7), .ref (b + 8)], zI 79 (mr T0), zI 79 (fun _ => 0), zI 79 (fun _ => 0), zI 7 (fun _ => 0), zI 120 (fun _ => 0), zI 4 (fun _ => 0), zI 4 (fun _ => 0), zI 160 (fun _ => 0)])) (b + 9) 8 532 := by
  refine zM.introi (by decide) rfl (Nat.le_of_ble_eq_true rfl) ?_
  intro Wf V m H0 Γi ρ
  have Γ := Γi.z
  replace Γ : zC Wf V m 2 H0 cX4_init RX4 1 8 532 := Γ
  replace Γi : zCi Wf V m 2 H0 cX4_init RX4 1 8 532 := Γi
  show zX Wf V m 2 H0 0 (zls [(0, .ref b)]) [] (hL (p ++ [zO 4 [.null, .null, .null, .int 0, .null, .int 0, .int 0, .null, .int 0, .int 0, .int 0, .int 0, .int 0, .int 0, .null, .null, .null]])) (b + 1) 0 0
  refine x_aload_n Γ dX4_init_0 rfl ?_
  refine x_obj Γ wl_X4_3 dX4_init_1 (Nat.le_of_ble_eq_true rfl) (Nat.le_of_ble_eq_true rfl) ?_
  refine x_aload_n Γ dX4_init_4 rfl ?_
  refine x_bipush Γ (v := 79) dX4_init_5 rfl ?_
  refine x_newi Γ (N := 79) dX4_init_7 (by decide) rfl (by decide) (by omega) (Nat.le_of_ble_eq_true rfl) (Nat.le_of_ble_eq_true rfl) (hL_push (j := 1) hp rfl) ?_
  refine x_putF Γi (C := RX4) (T := TX4) (N := 17) (j := 0) wu_X4 tyX4 tyX4_ok nmX4 rfl (by decide) wl_X4_9 rfl rfl (tyX4_ok 0 (by decide)) dX4_init_9 (by omega) (hL_at (j := 0) hp rfl) (Nat.le_of_ble_eq_true rfl) (fun _ => rfl) (fun _ => rfl) (h' := hL (p ++ [zO 4 [.ref (b + 1), .null, .null, .int 0, .null, .int 0, .int 0, .null, .int 0, .int 0, .int 0, .int 0, .int 0, .int 0, .null, .null, .null], zI 79 (fun _ => 0)])) (hL_set (j := 0) hp (Nat.le_of_ble_eq_true rfl)) ?_
  refine x_aload_n Γ dX4_init_12 rfl ?_
  refine x_bipush Γ (v := 79) dX4_init_13 rfl ?_
  refine x_newi Γ (N := 79) dX4_init_15 (by decide) rfl (by decide) (by omega) (Nat.le_of_ble_eq_true rfl) (Nat.le_of_ble_eq_true rfl) (hL_push (j := 2) hp rfl) ?_
  refine x_putF Γi (C := RX4) (T := TX4) (N := 17) (j := 1) wu_X4 tyX4 tyX4_ok nmX4 rfl (by decide) wl_X4_13 rfl rfl (tyX4_ok 1 (by decide)) dX4_init_17 (by omega) (hL_at (j := 0) hp rfl) (Nat.le_of_ble_eq_true rfl) (fun _ => rfl) (fun _ => rfl) (h' := hL (p ++ [zO 4 [.ref (b + 1), .ref (b + 2), .null, .int 0, .null, .int 0, .int 0, .null, .int 0, .int 0, .int 0, .int 0, .int 0, .int 0, .null, .null, .null], zI 79 (fun _ => 0), zI 79 (fun _ => 0)])) (hL_set (j := 0) hp (Nat.le_of_ble_eq_true rfl)) ?_
  refine x_aload_n Γ dX4_init_20 rfl ?_
  refine x_bipush Γ (v := 79) dX4_init_21 rfl ?_
  refine x_newi Γ (N := 79) dX4_init_23 (by decide) rfl (by decide) (by omega) (Nat.le_of_ble_eq_true rfl) (Nat.le_of_ble_eq_true rfl) (hL_push (j := 3) hp rfl) ?_
  refine x_putF Γi (C := RX4) (T := TX4) (N := 17) (j := 2) wu_X4 tyX4 tyX4_ok nmX4 rfl (by decide) wl_X4_16 rfl rfl (tyX4_ok 2 (by decide)) dX4_init_25 (by omega) (hL_at (j := 0) hp rfl) (Nat.le_of_ble_eq_true rfl) (fun _ => rfl) (fun _ => rfl) (h' := hL (p ++ [zO 4 [.ref (b + 1), .ref (b + 2), .ref (b + 3), .int 0, .null, .int 0, .int 0, .null, .int 0, .int 0, .int 0, .int 0, .int 0, .int 0, .null, .null, .null], zI 79 (fun _ => 0), zI 79 (fun _ => 0), zI 79 (fun _ => 0)])) (hL_set (j := 0) hp (Nat.le_of_ble_eq_true rfl)) ?_
  refine x_aload_n Γ dX4_init_28 rfl ?_
  refine x_bipush Γ (v := 7) dX4_init_29 rfl ?_
  refine x_newi Γ (N := 7) dX4_init_31 (by decide) rfl (by decide) (by omega) (Nat.le_of_ble_eq_true rfl) (Nat.le_of_ble_eq_true rfl) (hL_push (j := 4) hp rfl) ?_
  refine x_putF Γi (C := RX4) (T := TX4) (N := 17) (j := 4) wu_X4 tyX4 tyX4_ok nmX4 rfl (by decide) wl_X4_19 rfl rfl (tyX4_ok 4 (by decide)) dX4_init_33 (by omega) (hL_at (j := 0) hp rfl) (Nat.le_of_ble_eq_true rfl) (fun _ => rfl) (fun _ => rfl) (h' := hL (p ++ [zO 4 [.ref (b + 1), .ref (b + 2), .ref (b + 3), .int 0, .ref (b + 4), .int 0, .int 0, .null, .int 0, .int 0, .int 0, .int 0, .int 0, .int 0, .null, .null, .null], zI 79 (fun _ => 0), zI 79 (fun _ => 0), zI 79 (fun _ => 0), zI 7 (fun _ => 0)])) (hL_set (j := 0) hp (Nat.le_of_ble_eq_true rfl)) ?_
  refine x_aload_n Γ dX4_init_36 rfl ?_
  refine x_bipush Γ (v := 120) dX4_init_37 rfl ?_
  refine x_newi Γ (N := 120) dX4_init_39 (by decide) rfl (by decide) (by omega) (Nat.le_of_ble_eq_true rfl) (Nat.le_of_ble_eq_true rfl) (hL_push (j := 5) hp rfl) ?_
  refine x_putF Γi (C := RX4) (T := TX4) (N := 17) (j := 7) wu_X4 tyX4 tyX4_ok nmX4 rfl (by decide) wl_X4_22 rfl rfl (tyX4_ok 7 (by decide)) dX4_init_41 (by omega) (hL_at (j := 0) hp rfl) (Nat.le_of_ble_eq_true rfl) (fun _ => rfl) (fun _ => rfl) (h' := hL (p ++ [zO 4 [.ref (b + 1), .ref (b + 2), .ref (b + 3), .int 0, .ref (b + 4), .int 0, .int 0, .ref (b + 5), .int 0, .int 0, .int 0, .int 0, .int 0, .int 0, .null, .null, .null], zI 79 (fun _ => 0), zI 79 (fun _ => 0), zI 79 (fun _ => 0), zI 7 (fun _ => 0), zI 120 (fun _ => 0)])) (hL_set (j := 0) hp (Nat.le_of_ble_eq_true rfl)) ?_
  refine x_aload_n Γ dX4_init_44 rfl ?_
  refine x_iconst Γ (v := 4) dX4_init_45 rfl ?_
  refine x_newi Γ (N := 4) dX4_init_46 (by decide) rfl (by decide) (by omega) (Nat.le_of_ble_eq_true rfl) (Nat.le_of_ble_eq_true rfl) (hL_push (j := 6) hp rfl) ?_
  refine x_putF Γi (C := RX4) (T := TX4) (N := 17) (j := 14) wu_X4 tyX4 tyX4_ok nmX4 rfl (by decide) wl_X4_25 rfl rfl (tyX4_ok 14 (by decide)) dX4_init_48 (by omega) (hL_at (j := 0) hp rfl) (Nat.le_of_ble_eq_true rfl) (fun _ => rfl) (fun _ => rfl) (h' := hL (p ++ [zO 4 [.ref (b + 1), .ref (b + 2), .ref (b + 3), .int 0, .ref (b + 4), .int 0, .int 0, .ref (b + 5), .int 0, .int 0, .int 0, .int 0, .int 0, .int 0, .ref (b + 6), .null, .null], zI 79 (fun _ => 0), zI 79 (fun _ => 0), zI 79 (fun _ => 0), zI 7 (fun _ => 0), zI 120 (fun _ => 0), zI 4 (fun _ => 0)])) (hL_set (j := 0) hp (Nat.le_of_ble_eq_true rfl)) ?_
  refine x_aload_n Γ dX4_init_51 rfl ?_
  refine x_iconst Γ (v := 4) dX4_init_52 rfl ?_
  refine x_newi Γ (N := 4) dX4_init_53 (by decide) rfl (by decide) (by omega) (Nat.le_of_ble_eq_true rfl) (Nat.le_of_ble_eq_true rfl) (hL_push (j := 7) hp rfl) ?_
  refine x_putF Γi (C := RX4) (T := TX4) (N := 17) (j := 15) wu_X4 tyX4 tyX4_ok nmX4 rfl (by decide) wl_X4_28 rfl rfl (tyX4_ok 15 (by decide)) dX4_init_55 (by omega) (hL_at (j := 0) hp rfl) (Nat.le_of_ble_eq_true rfl) (fun _ => rfl) (fun _ => rfl) (h' := hL (p ++ [zO 4 [.ref (b + 1), .ref (b + 2), .ref (b + 3), .int 0, .ref (b + 4), .int 0, .int 0, .ref (b + 5), .int 0, .int 0, .int 0, .int 0, .int 0, .int 0, .ref (b + 6), .ref (b + 7), .null], zI 79 (fun _ => 0), zI 79 (fun _ => 0), zI 79 (fun _ => 0), zI 7 (fun _ => 0), zI 120 (fun _ => 0), zI 4 (fun _ => 0), zI 4 (fun _ => 0)])) (hL_set (j := 0) hp (Nat.le_of_ble_eq_true rfl)) ?_
  refine x_aload_n Γ dX4_init_58 rfl ?_
  refine x_sipush Γ (v := 160) dX4_init_59 rfl ?_
  refine x_newi Γ (N := 160) dX4_init_62 (by decide) rfl (by decide) (by omega) (Nat.le_of_ble_eq_true rfl) (Nat.le_of_ble_eq_true rfl) (hL_push (j := 8) hp rfl) ?_
  refine x_putF Γi (C := RX4) (T := TX4) (N := 17) (j := 16) wu_X4 tyX4 tyX4_ok nmX4 rfl (by decide) wl_X4_31 rfl rfl (tyX4_ok 16 (by decide)) dX4_init_64 (by omega) (hL_at (j := 0) hp rfl) (Nat.le_of_ble_eq_true rfl) (fun _ => rfl) (fun _ => rfl) (h' := hL (p ++ [zO 4 [.ref (b + 1), .ref (b + 2), .ref (b + 3), .int 0, .ref (b + 4), .int 0, .int 0, .ref (b + 5), .int 0, .int 0, .int 0, .int 0, .int 0, .int 0, .ref (b + 6), .ref (b + 7), .ref (b + 8)], zI 79 (fun _ => 0), zI 79 (fun _ => 0), zI 79 (fun _ => 0), zI 7 (fun _ => 0), zI 120 (fun _ => 0), zI 4 (fun _ => 0), zI 4 (fun _ => 0), zI 160 (fun _ => 0)])) (hL_set (j := 0) hp (Nat.le_of_ble_eq_true rfl)) ?_
  refine x_aload_n Γ dX4_init_67 rfl ?_
  refine gf_X4_9 Γ dX4_init_68 (by omega) (hL_at (j := 0) hp rfl) rfl ?_
  refine x_iconst Γ (v := 0) dX4_init_71 rfl ?_
  refine x_iconst Γ (v := 5) dX4_init_72 rfl ?_
  refine x_iast Γ dX4_init_73 (by omega) (hL_at (j := 1) hp rfl) (j := 0) rfl (by decide) (by decide) (h' := hL (p ++ [zO 4 [.ref (b + 1), .ref (b + 2), .ref (b + 3), .int 0, .ref (b + 4), .int 0, .int 0, .ref (b + 5), .int 0, .int 0, .int 0, .int 0, .int 0, .int 0, .ref (b + 6), .ref (b + 7), .ref (b + 8)], zI 79 (upd (fun _ => 0) 0 (5)), zI 79 (fun _ => 0), zI 79 (fun _ => 0), zI 7 (fun _ => 0), zI 120 (fun _ => 0), zI 4 (fun _ => 0), zI 4 (fun _ => 0), zI 160 (fun _ => 0)])) (hL_set (j := 1) hp (Nat.le_of_ble_eq_true rfl)) ?_
  refine x_aload_n Γ dX4_init_74 rfl ?_
  refine gf_X4_9 Γ dX4_init_75 (by omega) (hL_at (j := 0) hp rfl) rfl ?_
  refine x_iconst Γ (v := 1) dX4_init_78 rfl ?_
  refine x_iconst Γ (v := 5) dX4_init_79 rfl ?_
  refine x_iast Γ dX4_init_80 (by omega) (hL_at (j := 1) hp rfl) (j := 1) rfl (by decide) (by decide) (h' := hL (p ++ [zO 4 [.ref (b + 1), .ref (b + 2), .ref (b + 3), .int 0, .ref (b + 4), .int 0, .int 0, .ref (b + 5), .int 0, .int 0, .int 0, .int 0, .int 0, .int 0, .ref (b + 6), .ref (b + 7), .ref (b + 8)], zI 79 (upd (upd (fun _ => 0) 0 (5)) 1 (5)), zI 79 (fun _ => 0), zI 79 (fun _ => 0), zI 7 (fun _ => 0), zI 120 (fun _ => 0), zI 4 (fun _ => 0), zI 4 (fun _ => 0), zI 160 (fun _ => 0)])) (hL_set (j := 1) hp (Nat.le_of_ble_eq_true rfl)) ?_
  refine x_aload_n Γ dX4_init_81 rfl ?_
  refine gf_X4_9 Γ dX4_init_82 (by omega) (hL_at (j := 0) hp rfl) rfl ?_
  refine x_iconst Γ (v := 2) dX4_init_85 rfl ?_
  refine x_iconst Γ (v := 3) dX4_init_86 rfl ?_
  refine x_iast Γ dX4_init_87 (by omega) (hL_at (j := 1) hp rfl) (j := 2) rfl (by decide) (by decide) (h' := hL (p ++ [zO 4 [.ref (b + 1), .ref (b + 2), .ref (b + 3), .int 0, .ref (b + 4), .int 0, .int 0, .ref (b + 5), .int 0, .int 0, .int 0, .int 0, .int 0, .int 0, .ref (b + 6), .ref (b + 7), .ref (b + 8)], zI 79 (upd (upd (upd (fun _ => 0) 0 (5)) 1 (5)) 2 (3)), zI 79 (fun _ => 0), zI 79 (fun _ => 0), zI 7 (fun _ => 0), zI 120 (fun _ => 0), zI 4 (fun _ => 0), zI 4 (fun _ => 0), zI 160 (fun _ => 0)])) (hL_set (j := 1) hp (Nat.le_of_ble_eq_true rfl)) ?_
  refine x_aload_n Γ dX4_init_88 rfl ?_
  refine gf_X4_9 Γ dX4_init_89 (by omega) (hL_at (j := 0) hp rfl) rfl ?_
  refine x_bipush Γ (v := 7) dX4_init_92 rfl ?_
  refine x_iconst Γ (v := 1) dX4_init_94 rfl ?_
  refine x_iast Γ dX4_init_95 (by omega) (hL_at (j := 1) hp rfl) (j := 7) rfl (by decide) (by decide) (h' := hL (p ++ [zO 4 [.ref (b + 1), .ref (b + 2), .ref (b + 3), .int 0, .ref (b + 4), .int 0, .int 0, .ref (b + 5), .int 0, .int 0, .int 0, .int 0, .int 0, .int 0, .ref (b + 6), .ref (b + 7), .ref (b + 8)], zI 79 (upd (upd (upd (upd (fun _ => 0) 0 (5)) 1 (5)) 2 (3)) 7 (1)), zI 79 (fun _ => 0), zI 79 (fun _ => 0), zI 7 (fun _ => 0), zI 120 (fun _ => 0), zI 4 (fun _ => 0), zI 4 (fun _ => 0), zI 160 (fun _ => 0)])) (hL_set (j := 1) hp (Nat.le_of_ble_eq_true rfl)) ?_
  refine x_iconst Γ (v := 0) dX4_init_96 rfl ?_
  refine x_istore_n Γ dX4_init_97 (by decide) ?_
  refine x_iload_n Γ dX4_init_98 rfl ?_
  refine x_bipush Γ (v := 10) dX4_init_99 rfl ?_
  refine x_icmp_ge Γ (tgt := 120) dX4_init_101 (by decide) (fun z => absurd z (show ¬ (10 : Int32) ≤ 0 by decide)) (fun _ => ?_)
  refine x_aload_n Γ dX4_init_104 rfl ?_
  refine gf_X4_9 Γ dX4_init_105 (by omega) (hL_at (j := 0) hp rfl) rfl ?_
  refine x_bipush Γ (v := 69) dX4_init_108 rfl ?_
  refine x_iload_n Γ dX4_init_110 rfl ?_
  refine x_iadd Γ dX4_init_111 ?_
  refine x_iconst Γ (v := -1) dX4_init_112 rfl ?_
  refine x_iast Γ dX4_init_113 (by omega) (hL_at (j := 1) hp rfl) (j := 69) rfl (by decide) (by decide) (h' := hL (p ++ [zO 4 [.ref (b + 1), .ref (b + 2), .ref (b + 3), .int 0, .ref (b + 4), .int 0, .int 0, .ref (b + 5), .int 0, .int 0, .int 0, .int 0, .int 0, .int 0, .ref (b + 6), .ref (b + 7), .ref (b + 8)], zI 79 (upd (upd (upd (upd (upd (fun _ => 0) 0 (5)) 1 (5)) 2 (3)) 7 (1)) 69 (-1)), zI 79 (fun _ => 0), zI 79 (fun _ => 0), zI 7 (fun _ => 0), zI 120 (fun _ => 0), zI 4 (fun _ => 0), zI 4 (fun _ => 0), zI 160 (fun _ => 0)])) (hL_set (j := 1) hp (Nat.le_of_ble_eq_true rfl)) ?_
  refine x_iinc Γ (v := 1) dX4_init_114 rfl rfl (by decide) ?_
  refine x_goto Γ (tgt := 98) dX4_init_117 (by decide) ?_
  refine x_iload_n Γ dX4_init_98 rfl ?_
  refine x_bipush Γ (v := 10) dX4_init_99 rfl ?_
  refine x_icmp_ge Γ (tgt := 120) dX4_init_101 (by decide) (fun z => absurd z (show ¬ (10 : Int32) ≤ 1 by decide)) (fun _ => ?_)
  refine x_aload_n Γ dX4_init_104 rfl ?_
  refine gf_X4_9 Γ dX4_init_105 (by omega) (hL_at (j := 0) hp rfl) rfl ?_
  refine x_bipush Γ (v := 69) dX4_init_108 rfl ?_
  refine x_iload_n Γ dX4_init_110 rfl ?_
  refine x_iadd Γ dX4_init_111 ?_
  refine x_iconst Γ (v := -1) dX4_init_112 rfl ?_
  refine x_iast Γ dX4_init_113 (by omega) (hL_at (j := 1) hp rfl) (j := 70) rfl (by decide) (by decide) (h' := hL (p ++ [zO 4 [.ref (b + 1), .ref (b + 2), .ref (b + 3), .int 0, .ref (b + 4), .int 0, .int 0, .ref (b + 5), .int 0, .int 0, .int 0, .int 0, .int 0, .int 0, .ref (b + 6), .ref (b + 7), .ref (b + 8)], zI 79 (upd (upd (upd (upd (upd (upd (fun _ => 0) 0 (5)) 1 (5)) 2 (3)) 7 (1)) 69 (-1)) 70 (-1)), zI 79 (fun _ => 0), zI 79 (fun _ => 0), zI 7 (fun _ => 0), zI 120 (fun _ => 0), zI 4 (fun _ => 0), zI 4 (fun _ => 0), zI 160 (fun _ => 0)])) (hL_set (j := 1) hp (Nat.le_of_ble_eq_true rfl)) ?_
  refine x_iinc Γ (v := 2) dX4_init_114 rfl rfl (by decide) ?_
  refine x_goto Γ (tgt := 98) dX4_init_117 (by decide) ?_
  refine x_iload_n Γ dX4_init_98 rfl ?_
  refine x_bipush Γ (v := 10) dX4_init_99 rfl ?_
  refine x_icmp_ge Γ (tgt := 120) dX4_init_101 (by decide) (fun z => absurd z (show ¬ (10 : Int32) ≤ 2 by decide)) (fun _ => ?_)
  refine x_aload_n Γ dX4_init_104 rfl ?_
  refine gf_X4_9 Γ dX4_init_105 (by omega) (hL_at (j := 0) hp rfl) rfl ?_
  refine x_bipush Γ (v := 69) dX4_init_108 rfl ?_
  refine x_iload_n Γ dX4_init_110 rfl ?_
  refine x_iadd Γ dX4_init_111 ?_
  refine x_iconst Γ (v := -1) dX4_init_112 rfl ?_
  refine x_iast Γ dX4_init_113 (by omega) (hL_at (j := 1) hp rfl) (j := 71) rfl (by decide) (by decide) (h' := hL (p ++ [zO 4 [.ref (b + 1), .ref (b + 2), .ref (b + 3), .int 0, .ref (b + 4), .int 0, .int 0, .ref (b + 5), .int 0, .int 0, .int 0, .int 0, .int 0, .int 0, .ref (b + 6), .ref (b + 7), .ref (b + 8)], zI 79 (upd (upd (upd (upd (upd (upd (upd (fun _ => 0) 0 (5)) 1 (5)) 2 (3)) 7 (1)) 69 (-1)) 70 (-1)) 71 (-1)), zI 79 (fun _ => 0), zI 79 (fun _ => 0), zI 7 (fun _ => 0), zI 120 (fun _ => 0), zI 4 (fun _ => 0), zI 4 (fun _ => 0), zI 160 (fun _ => 0)])) (hL_set (j := 1) hp (Nat.le_of_ble_eq_true rfl)) ?_
  refine x_iinc Γ (v := 3) dX4_init_114 rfl rfl (by decide) ?_
  refine x_goto Γ (tgt := 98) dX4_init_117 (by decide) ?_
  refine x_iload_n Γ dX4_init_98 rfl ?_
  refine x_bipush Γ (v := 10) dX4_init_99 rfl ?_
  refine x_icmp_ge Γ (tgt := 120) dX4_init_101 (by decide) (fun z => absurd z (show ¬ (10 : Int32) ≤ 3 by decide)) (fun _ => ?_)
  refine x_aload_n Γ dX4_init_104 rfl ?_
  refine gf_X4_9 Γ dX4_init_105 (by omega) (hL_at (j := 0) hp rfl) rfl ?_
  refine x_bipush Γ (v := 69) dX4_init_108 rfl ?_
  refine x_iload_n Γ dX4_init_110 rfl ?_
  refine x_iadd Γ dX4_init_111 ?_
  refine x_iconst Γ (v := -1) dX4_init_112 rfl ?_
  refine x_iast Γ dX4_init_113 (by omega) (hL_at (j := 1) hp rfl) (j := 72) rfl (by decide) (by decide) (h' := hL (p ++ [zO 4 [.ref (b + 1), .ref (b + 2), .ref (b + 3), .int 0, .ref (b + 4), .int 0, .int 0, .ref (b + 5), .int 0, .int 0, .int 0, .int 0, .int 0, .int 0, .ref (b + 6), .ref (b + 7), .ref (b + 8)], zI 79 (upd (upd (upd (upd (upd (upd (upd (upd (fun _ => 0) 0 (5)) 1 (5)) 2 (3)) 7 (1)) 69 (-1)) 70 (-1)) 71 (-1)) 72 (-1)), zI 79 (fun _ => 0), zI 79 (fun _ => 0), zI 7 (fun _ => 0), zI 120 (fun _ => 0), zI 4 (fun _ => 0), zI 4 (fun _ => 0), zI 160 (fun _ => 0)])) (hL_set (j := 1) hp (Nat.le_of_ble_eq_true rfl)) ?_
  refine x_iinc Γ (v := 4) dX4_init_114 rfl rfl (by decide) ?_
  refine x_goto Γ (tgt := 98) dX4_init_117 (by decide) ?_
  refine x_iload_n Γ dX4_init_98 rfl ?_
  refine x_bipush Γ (v := 10) dX4_init_99 rfl ?_
  refine x_icmp_ge Γ (tgt := 120) dX4_init_101 (by decide) (fun z => absurd z (show ¬ (10 : Int32) ≤ 4 by decide)) (fun _ => ?_)
  refine x_aload_n Γ dX4_init_104 rfl ?_
  refine gf_X4_9 Γ dX4_init_105 (by omega) (hL_at (j := 0) hp rfl) rfl ?_
  refine x_bipush Γ (v := 69) dX4_init_108 rfl ?_
  refine x_iload_n Γ dX4_init_110 rfl ?_
  refine x_iadd Γ dX4_init_111 ?_
  refine x_iconst Γ (v := -1) dX4_init_112 rfl ?_
  refine x_iast Γ dX4_init_113 (by omega) (hL_at (j := 1) hp rfl) (j := 73) rfl (by decide) (by decide) (h' := hL (p ++ [zO 4 [.ref (b + 1), .ref (b + 2), .ref (b + 3), .int 0, .ref (b + 4), .int 0, .int 0, .ref (b + 5), .int 0, .int 0, .int 0, .int 0, .int 0, .int 0, .ref (b + 6), .ref (b + 7), .ref (b + 8)], zI 79 (upd (upd (upd (upd (upd (upd (upd (upd (upd (fun _ => 0) 0 (5)) 1 (5)) 2 (3)) 7 (1)) 69 (-1)) 70 (-1)) 71 (-1)) 72 (-1)) 73 (-1)), zI 79 (fun _ => 0), zI 79 (fun _ => 0), zI 7 (fun _ => 0), zI 120 (fun _ => 0), zI 4 (fun _ => 0), zI 4 (fun _ => 0), zI 160 (fun _ => 0)])) (hL_set (j := 1) hp (Nat.le_of_ble_eq_true rfl)) ?_
  refine x_iinc Γ (v := 5) dX4_init_114 rfl rfl (by decide) ?_
  refine x_goto Γ (tgt := 98) dX4_init_117 (by decide) ?_
  refine x_iload_n Γ dX4_init_98 rfl ?_
  refine x_bipush Γ (v := 10) dX4_init_99 rfl ?_
  refine x_icmp_ge Γ (tgt := 120) dX4_init_101 (by decide) (fun z => absurd z (show ¬ (10 : Int32) ≤ 5 by decide)) (fun _ => ?_)
  refine x_aload_n Γ dX4_init_104 rfl ?_
  refine gf_X4_9 Γ dX4_init_105 (by omega) (hL_at (j := 0) hp rfl) rfl ?_
  refine x_bipush Γ (v := 69) dX4_init_108 rfl ?_
  refine x_iload_n Γ dX4_init_110 rfl ?_
  refine x_iadd Γ dX4_init_111 ?_
  refine x_iconst Γ (v := -1) dX4_init_112 rfl ?_
  refine x_iast Γ dX4_init_113 (by omega) (hL_at (j := 1) hp rfl) (j := 74) rfl (by decide) (by decide) (h' := hL (p ++ [zO 4 [.ref (b + 1), .ref (b + 2), .ref (b + 3), .int 0, .ref (b + 4), .int 0, .int 0, .ref (b + 5), .int 0, .int 0, .int 0, .int 0, .int 0, .int 0, .ref (b + 6), .ref (b + 7), .ref (b + 8)], zI 79 (upd (upd (upd (upd (upd (upd (upd (upd (upd (upd (fun _ => 0) 0 (5)) 1 (5)) 2 (3)) 7 (1)) 69 (-1)) 70 (-1)) 71 (-1)) 72 (-1)) 73 (-1)) 74 (-1)), zI 79 (fun _ => 0), zI 79 (fun _ => 0), zI 7 (fun _ => 0), zI 120 (fun _ => 0), zI 4 (fun _ => 0), zI 4 (fun _ => 0), zI 160 (fun _ => 0)])) (hL_set (j := 1) hp (Nat.le_of_ble_eq_true rfl)) ?_
  refine x_iinc Γ (v := 6) dX4_init_114 rfl rfl (by decide) ?_
  refine x_goto Γ (tgt := 98) dX4_init_117 (by decide) ?_
  refine x_iload_n Γ dX4_init_98 rfl ?_
  refine x_bipush Γ (v := 10) dX4_init_99 rfl ?_
  refine x_icmp_ge Γ (tgt := 120) dX4_init_101 (by decide) (fun z => absurd z (show ¬ (10 : Int32) ≤ 6 by decide)) (fun _ => ?_)
  refine x_aload_n Γ dX4_init_104 rfl ?_
  refine gf_X4_9 Γ dX4_init_105 (by omega) (hL_at (j := 0) hp rfl) rfl ?_
  refine x_bipush Γ (v := 69) dX4_init_108 rfl ?_
  refine x_iload_n Γ dX4_init_110 rfl ?_
  refine x_iadd Γ dX4_init_111 ?_
  refine x_iconst Γ (v := -1) dX4_init_112 rfl ?_
  refine x_iast Γ dX4_init_113 (by omega) (hL_at (j := 1) hp rfl) (j := 75) rfl (by decide) (by decide) (h' := hL (p ++ [zO 4 [.ref (b + 1), .ref (b + 2), .ref (b + 3), .int 0, .ref (b + 4), .int 0, .int 0, .ref (b + 5), .int 0, .int 0, .int 0, .int 0, .int 0, .int 0, .ref (b + 6), .ref (b + 7), .ref (b + 8)], zI 79 (upd (upd (upd (upd (upd (upd (upd (upd (upd (upd (upd (fun _ => 0) 0 (5)) 1 (5)) 2 (3)) 7 (1)) 69 (-1)) 70 (-1)) 71 (-1)) 72 (-1)) 73 (-1)) 74 (-1)) 75 (-1)), zI 79 (fun _ => 0), zI 79 (fun _ => 0), zI 7 (fun _ => 0), zI 120 (fun _ => 0), zI 4 (fun _ => 0), zI 4 (fun _ => 0), zI 160 (fun _ => 0)])) (hL_set (j := 1) hp (Nat.le_of_ble_eq_true rfl)) ?_
  refine x_iinc Γ (v := 7) dX4_init_114 rfl rfl (by decide) ?_
  refine x_goto Γ (tgt := 98) dX4_init_117 (by decide) ?_
  refine x_iload_n Γ dX4_init_98 rfl ?_
  refine x_bipush Γ (v := 10) dX4_init_99 rfl ?_
  refine x_icmp_ge Γ (tgt := 120) dX4_init_101 (by decide) (fun z => absurd z (show ¬ (10 : Int32) ≤ 7 by decide)) (fun _ => ?_)
  refine x_aload_n Γ dX4_init_104 rfl ?_
  refine gf_X4_9 Γ dX4_init_105 (by omega) (hL_at (j := 0) hp rfl) rfl ?_
  refine x_bipush Γ (v := 69) dX4_init_108 rfl ?_
  refine x_iload_n Γ dX4_init_110 rfl ?_
  refine x_iadd Γ dX4_init_111 ?_
  refine x_iconst Γ (v := -1) dX4_init_112 rfl ?_
  refine x_iast Γ dX4_init_113 (by omega) (hL_at (j := 1) hp rfl) (j := 76) rfl (by decide) (by decide) (h' := hL (p ++ [zO 4 [.ref (b + 1), .ref (b + 2), .ref (b + 3), .int 0, .ref (b + 4), .int 0, .int 0, .ref (b + 5), .int 0, .int 0, .int 0, .int 0, .int 0, .int 0, .ref (b + 6), .ref (b + 7), .ref (b + 8)], zI 79 (upd (upd (upd (upd (upd (upd (upd (upd (upd (upd (upd (upd (fun _ => 0) 0 (5)) 1 (5)) 2 (3)) 7 (1)) 69 (-1)) 70 (-1)) 71 (-1)) 72 (-1)) 73 (-1)) 74 (-1)) 75 (-1)) 76 (-1)), zI 79 (fun _ => 0), zI 79 (fun _ => 0), zI 7 (fun _ => 0), zI 120 (fun _ => 0), zI 4 (fun _ => 0), zI 4 (fun _ => 0), zI 160 (fun _ => 0)])) (hL_set (j := 1) hp (Nat.le_of_ble_eq_true rfl)) ?_
  refine x_iinc Γ (v := 8) dX4_init_114 rfl rfl (by decide) ?_
  refine x_goto Γ (tgt := 98) dX4_init_117 (by decide) ?_
  refine x_iload_n Γ dX4_init_98 rfl ?_
  refine x_bipush Γ (v := 10) dX4_init_99 rfl ?_
  refine x_icmp_ge Γ (tgt := 120) dX4_init_101 (by decide) (fun z => absurd z (show ¬ (10 : Int32) ≤ 8 by decide)) (fun _ => ?_)
  refine x_aload_n Γ dX4_init_104 rfl ?_
  refine gf_X4_9 Γ dX4_init_105 (by omega) (hL_at (j := 0) hp rfl) rfl ?_
  refine x_bipush Γ (v := 69) dX4_init_108 rfl ?_
  refine x_iload_n Γ dX4_init_110 rfl ?_
  refine x_iadd Γ dX4_init_111 ?_
  refine x_iconst Γ (v := -1) dX4_init_112 rfl ?_
  refine x_iast Γ dX4_init_113 (by omega) (hL_at (j := 1) hp rfl) (j := 77) rfl (by decide) (by decide) (h' := hL (p ++ [zO 4 [.ref (b + 1), .ref (b + 2), .ref (b + 3), .int 0, .ref (b + 4), .int 0, .int 0, .ref (b + 5), .int 0, .int 0, .int 0, .int 0, .int 0, .int 0, .ref (b + 6), .ref (b + 7), .ref (b + 8)], zI 79 (upd (upd (upd (upd (upd (upd (upd (upd (upd (upd (upd (upd (upd (fun _ => 0) 0 (5)) 1 (5)) 2 (3)) 7 (1)) 69 (-1)) 70 (-1)) 71 (-1)) 72 (-1)) 73 (-1)) 74 (-1)) 75 (-1)) 76 (-1)) 77 (-1)), zI 79 (fun _ => 0), zI 79 (fun _ => 0), zI 7 (fun _ => 0), zI 120 (fun _ => 0), zI 4 (fun _ => 0), zI 4 (fun _ => 0), zI 160 (fun _ => 0)])) (hL_set (j := 1) hp (Nat.le_of_ble_eq_true rfl)) ?_
  refine x_iinc Γ (v := 9) dX4_init_114 rfl rfl (by decide) ?_
  refine x_goto Γ (tgt := 98) dX4_init_117 (by decide) ?_
  refine x_iload_n Γ dX4_init_98 rfl ?_
  refine x_bipush Γ (v := 10) dX4_init_99 rfl ?_
  refine x_icmp_ge Γ (tgt := 120) dX4_init_101 (by decide) (fun z => absurd z (show ¬ (10 : Int32) ≤ 9 by decide)) (fun _ => ?_)
  refine x_aload_n Γ dX4_init_104 rfl ?_
  refine gf_X4_9 Γ dX4_init_105 (by omega) (hL_at (j := 0) hp rfl) rfl ?_
  refine x_bipush Γ (v := 69) dX4_init_108 rfl ?_
  refine x_iload_n Γ dX4_init_110 rfl ?_
  refine x_iadd Γ dX4_init_111 ?_
  refine x_iconst Γ (v := -1) dX4_init_112 rfl ?_
  refine x_iast Γ dX4_init_113 (by omega) (hL_at (j := 1) hp rfl) (j := 78) rfl (by decide) (by decide) (h' := hL (p ++ [zO 4 [.ref (b + 1), .ref (b + 2), .ref (b + 3), .int 0, .ref (b + 4), .int 0, .int 0, .ref (b + 5), .int 0, .int 0, .int 0, .int 0, .int 0, .int 0, .ref (b + 6), .ref (b + 7), .ref (b + 8)], zI 79 (upd (upd (upd (upd (upd (upd (upd (upd (upd (upd (upd (upd (upd (upd (fun _ => 0) 0 (5)) 1 (5)) 2 (3)) 7 (1)) 69 (-1)) 70 (-1)) 71 (-1)) 72 (-1)) 73 (-1)) 74 (-1)) 75 (-1)) 76 (-1)) 77 (-1)) 78 (-1)), zI 79 (fun _ => 0), zI 79 (fun _ => 0), zI 7 (fun _ => 0), zI 120 (fun _ => 0), zI 4 (fun _ => 0), zI 4 (fun _ => 0), zI 160 (fun _ => 0)])) (hL_set (j := 1) hp (Nat.le_of_ble_eq_true rfl)) ?_
  refine x_iinc Γ (v := 10) dX4_init_114 rfl rfl (by decide) ?_
  refine x_goto Γ (tgt := 98) dX4_init_117 (by decide) ?_
  refine x_iload_n Γ dX4_init_98 rfl ?_
  refine x_bipush Γ (v := 10) dX4_init_99 rfl ?_
  refine x_icmp_ge Γ (tgt := 120) dX4_init_101 (by decide) (fun _ => ?_) (fun z => absurd (show (10 : Int32) ≤ 10 by decide) z)
  exact x_vret ρ dX4_init_120 rfl rfl (hL_zH ⟨Or.inl rfl, ⟨Or.inr ⟨_, _, _, rfl, rfl, by decide +kernel⟩, ⟨Or.inl rfl, ⟨Or.inl rfl, ⟨Or.inl rfl, ⟨Or.inl rfl, ⟨Or.inl rfl, ⟨Or.inl rfl, ⟨Or.inl rfl, trivial⟩⟩⟩⟩⟩⟩⟩⟩⟩)

def pE : List zE := []

def L37 : List zE := [zO 3 [.ref 1, .ref 9, .ref 17, .ref 25, .ref 27, .ref 36, .int 0], zO 0 (cyO 1 T0), zI 10 (T0 0), zI 10 (T0 1), zI 10 (T0 2), zI 10 (T0 3), zI 10 (T0 4), zI 10 (T0 5), zI 10 (T0 6), zO 0 (cyO 9 T0), zI 10 (T0 0), zI 10 (T0 1), zI 10 (T0 2), zI 10 (T0 3), zI 10 (T0 4), zI 10 (T0 5), zI 10 (T0 6), zO 0 (cyO 17 T0), zI 10 (T0 0), zI 10 (T0 1), zI 10 (T0 2), zI 10 (T0 3), zI 10 (T0 4), zI 10 (T0 5), zI 10 (T0 6), zO 2 [.ref (25 + 1), .int 0, .int 0, .int 0, .int 0, .int 0], zI 120 (fun _ => 0), zR 4 (fun i => some (28 + 2 * i)), zO 1 [.ref (28 + 1), .int 0, .int 0], zI 40 (fun _ => 0), zO 1 [.ref (30 + 1), .int 0, .int 0], zI 40 (fun _ => 0), zO 1 [.ref (32 + 1), .int 0, .int 0], zI 40 (fun _ => 0), zO 1 [.ref (34 + 1), .int 0, .int 0], zI 40 (fun _ => 0), zI 7 (fun _ => 0)]

set_option maxRecDepth 100000 in
set_option maxHeartbeats 4000000 in
theorem m_X3_init  : zM 2 M_X3_init [.ref 0] (hL (pE ++ [zO 3 [.null, .null, .null, .null, .null, .null, .int 0]])) 1 none (hL (pE ++ [zO 3 [.ref 1, .ref 9, .ref 17, .ref 25, .ref 27, .ref 36, .int 0], zO 0 (cyO 1 T0), zI 10 (T0 0), zI 10 (T0 1), zI 10 (T0 2), zI 10 (T0 3), zI 10 (T0 4), zI 10 (T0 5), zI 10 (T0 6), zO 0 (cyO 9 T0), zI 10 (T0 0), zI 10 (T0 1), zI 10 (T0 2), zI 10 (T0 3), zI 10 (T0 4), zI 10 (T0 5), zI 10 (T0 6), zO 0 (cyO 17 T0), zI 10 (T0 0), zI 10 (T0 1), zI 10 (T0 2), zI 10 (T0 3), zI 10 (T0 4), zI 10 (T0 5), zI 10 (T0 6), zO 2 [.ref (25 + 1), .int 0, .int 0, .int 0, .int 0, .int 0], zI 120 (fun _ => 0), zR 4 (fun i => some (28 + 2 * i)), zO 1 [.ref (28 + 1), .int 0, .int 0], zI 40 (fun _ => 0), zO 1 [.ref (30 + 1), .int 0, .int 0], zI 40 (fun _ => 0), zO 1 [.ref (32 + 1), .int 0, .int 0], zI 40 (fun _ => 0), zO 1 [.ref (34 + 1), .int 0, .int 0], zI 40 (fun _ => 0), zI 7 (fun _ => 0)])) 37 36 567 := by
  refine zM.introi (by decide) rfl (Nat.le_of_ble_eq_true rfl) ?_
  intro Wf V m H0 Γi ρ
  have Γ := Γi.z
  have hp : pE.length = 0 := rfl
  replace Γ : zC Wf V m 2 H0 cX3_init RX3 2 36 567 := Γ
  replace Γi : zCi Wf V m 2 H0 cX3_init RX3 2 36 567 := Γi
  show zX Wf V m 2 H0 0 (zls [(0, .ref 0)]) [] (hL (pE ++ [zO 3 [.null, .null, .null, .null, .null, .null, .int 0]])) 1 0 0
  refine x_aload_n Γ dX3_init_0 rfl ?_
  refine x_obj Γ wl_X3_1 dX3_init_1 (Nat.le_of_ble_eq_true rfl) (Nat.le_of_ble_eq_true rfl) ?_
  refine x_aload_n Γ dX3_init_4 rfl ?_
  refine x_new Γ (ci := 0) (fs := [.null, .null, .null, .null, .null, .null, .null, .int 0, .int 0, .int 0, .int 0, .int 0, .int 0, .int 0, .int 0, .int 0]) wu_X0 tyX0 tyX0_ok rfl wl_X3_7 wins_X0 wn_X0 (fun _ => rfl) dX3_init_5 (by omega) (Nat.le_of_ble_eq_true rfl) (Nat.le_of_ble_eq_true rfl) (hL_push (j := 1) hp rfl) ?_
  refine x_dup Γ dX3_init_8 rfl ?_
  refine x_callI Γ cal_X0_init rfl wi_X0_init wl_X3_9 dX3_init_9 (h' := hL (pE ++ [zO 3 [.null, .null, .null, .null, .null, .null, .int 0], zO 0 (cyO 1 T0), zI 10 (T0 0), zI 10 (T0 1), zI 10 (T0 2), zI 10 (T0 3), zI 10 (T0 4), zI 10 (T0 5), zI 10 (T0 6)])) (m_X0_init (b := 1) (p := [zO 3 [.null, .null, .null, .null, .null, .null, .int 0]]) rfl (by decide)) (Nat.le_of_ble_eq_true rfl) (Nat.le_of_ble_eq_true rfl) (Nat.le_of_ble_eq_true rfl) (Nat.le_of_ble_eq_true rfl) ?_
  refine x_putF Γi (C := RX3) (T := TX3) (N := 7) (j := 0) wu_X3 tyX3 tyX3_ok nmX3 rfl (by decide) wl_X3_10 rfl rfl (tyX3_ok 0 (by decide)) dX3_init_12 (by omega) (hL_at (j := 0) hp rfl) (Nat.le_of_ble_eq_true rfl) (fun _ => rfl) (fun _ => rfl) (h' := hL (pE ++ [zO 3 [.ref 1, .null, .null, .null, .null, .null, .int 0], zO 0 (cyO 1 T0), zI 10 (T0 0), zI 10 (T0 1), zI 10 (T0 2), zI 10 (T0 3), zI 10 (T0 4), zI 10 (T0 5), zI 10 (T0 6)])) (hL_set (j := 0) hp (Nat.le_of_ble_eq_true rfl)) ?_
  refine x_aload_n Γ dX3_init_15 rfl ?_
  refine x_new Γ (ci := 0) (fs := [.null, .null, .null, .null, .null, .null, .null, .int 0, .int 0, .int 0, .int 0, .int 0, .int 0, .int 0, .int 0, .int 0]) wu_X0 tyX0 tyX0_ok rfl wl_X3_7 wins_X0 wn_X0 (fun _ => rfl) dX3_init_16 (by omega) (Nat.le_of_ble_eq_true rfl) (Nat.le_of_ble_eq_true rfl) (hL_push (j := 9) hp rfl) ?_
  refine x_dup Γ dX3_init_19 rfl ?_
  refine x_callI Γ cal_X0_init rfl wi_X0_init wl_X3_9 dX3_init_20 (h' := hL (pE ++ [zO 3 [.ref 1, .null, .null, .null, .null, .null, .int 0], zO 0 (cyO 1 T0), zI 10 (T0 0), zI 10 (T0 1), zI 10 (T0 2), zI 10 (T0 3), zI 10 (T0 4), zI 10 (T0 5), zI 10 (T0 6), zO 0 (cyO 9 T0), zI 10 (T0 0), zI 10 (T0 1), zI 10 (T0 2), zI 10 (T0 3), zI 10 (T0 4), zI 10 (T0 5), zI 10 (T0 6)])) (m_X0_init (b := 9) (p := [zO 3 [.ref 1, .null, .null, .null, .null, .null, .int 0], zO 0 (cyO 1 T0), zI 10 (T0 0), zI 10 (T0 1), zI 10 (T0 2), zI 10 (T0 3), zI 10 (T0 4), zI 10 (T0 5), zI 10 (T0 6)]) rfl (by decide)) (Nat.le_of_ble_eq_true rfl) (Nat.le_of_ble_eq_true rfl) (Nat.le_of_ble_eq_true rfl) (Nat.le_of_ble_eq_true rfl) ?_
  refine x_putF Γi (C := RX3) (T := TX3) (N := 7) (j := 1) wu_X3 tyX3 tyX3_ok nmX3 rfl (by decide) wl_X3_16 rfl rfl (tyX3_ok 1 (by decide)) dX3_init_23 (by omega) (hL_at (j := 0) hp rfl) (Nat.le_of_ble_eq_true rfl) (fun _ => rfl) (fun _ => rfl) (h' := hL (pE ++ [zO 3 [.ref 1, .ref 9, .null, .null, .null, .null, .int 0], zO 0 (cyO 1 T0), zI 10 (T0 0), zI 10 (T0 1), zI 10 (T0 2), zI 10 (T0 3), zI 10 (T0 4), zI 10 (T0 5), zI 10 (T0 6), zO 0 (cyO 9 T0), zI 10 (T0 0), zI 10 (T0 1), zI 10 (T0 2), zI 10 (T0 3), zI 10 (T0 4), zI 10 (T0 5), zI 10 (T0 6)])) (hL_set (j := 0) hp (Nat.le_of_ble_eq_true rfl)) ?_
  refine x_aload_n Γ dX3_init_26 rfl ?_
  refine x_new Γ (ci := 0) (fs := [.null, .null, .null, .null, .null, .null, .null, .int 0, .int 0, .int 0, .int 0, .int 0, .int 0, .int 0, .int 0, .int 0]) wu_X0 tyX0 tyX0_ok rfl wl_X3_7 wins_X0 wn_X0 (fun _ => rfl) dX3_init_27 (by omega) (Nat.le_of_ble_eq_true rfl) (Nat.le_of_ble_eq_true rfl) (hL_push (j := 17) hp rfl) ?_
  refine x_dup Γ dX3_init_30 rfl ?_
  refine x_callI Γ cal_X0_init rfl wi_X0_init wl_X3_9 dX3_init_31 (h' := hL (pE ++ [zO 3 [.ref 1, .ref 9, .null, .null, .null, .null, .int 0], zO 0 (cyO 1 T0), zI 10 (T0 0), zI 10 (T0 1), zI 10 (T0 2), zI 10 (T0 3), zI 10 (T0 4), zI 10 (T0 5), zI 10 (T0 6), zO 0 (cyO 9 T0), zI 10 (T0 0), zI 10 (T0 1), zI 10 (T0 2), zI 10 (T0 3), zI 10 (T0 4), zI 10 (T0 5), zI 10 (T0 6), zO 0 (cyO 17 T0), zI 10 (T0 0), zI 10 (T0 1), zI 10 (T0 2), zI 10 (T0 3), zI 10 (T0 4), zI 10 (T0 5), zI 10 (T0 6)])) (m_X0_init (b := 17) (p := [zO 3 [.ref 1, .ref 9, .null, .null, .null, .null, .int 0], zO 0 (cyO 1 T0), zI 10 (T0 0), zI 10 (T0 1), zI 10 (T0 2), zI 10 (T0 3), zI 10 (T0 4), zI 10 (T0 5), zI 10 (T0 6), zO 0 (cyO 9 T0), zI 10 (T0 0), zI 10 (T0 1), zI 10 (T0 2), zI 10 (T0 3), zI 10 (T0 4), zI 10 (T0 5), zI 10 (T0 6)]) rfl (by decide)) (Nat.le_of_ble_eq_true rfl) (Nat.le_of_ble_eq_true rfl) (Nat.le_of_ble_eq_true rfl) (Nat.le_of_ble_eq_true rfl) ?_
  refine x_putF Γi (C := RX3) (T := TX3) (N := 7) (j := 2) wu_X3 tyX3 tyX3_ok nmX3 rfl (by decide) wl_X3_19 rfl rfl (tyX3_ok 2 (by decide)) dX3_init_34 (by omega) (hL_at (j := 0) hp rfl) (Nat.le_of_ble_eq_true rfl) (fun _ => rfl) (fun _ => rfl) (h' := hL (pE ++ [zO 3 [.ref 1, .ref 9, .ref 17, .null, .null, .null, .int 0], zO 0 (cyO 1 T0), zI 10 (T0 0), zI 10 (T0 1), zI 10 (T0 2), zI 10 (T0 3), zI 10 (T0 4), zI 10 (T0 5), zI 10 (T0 6), zO 0 (cyO 9 T0), zI 10 (T0 0), zI 10 (T0 1), zI 10 (T0 2), zI 10 (T0 3), zI 10 (T0 4), zI 10 (T0 5), zI 10 (T0 6), zO 0 (cyO 17 T0), zI 10 (T0 0), zI 10 (T0 1), zI 10 (T0 2), zI 10 (T0 3), zI 10 (T0 4), zI 10 (T0 5), zI 10 (T0 6)])) (hL_set (j := 0) hp (Nat.le_of_ble_eq_true rfl)) ?_
  refine x_aload_n Γ dX3_init_37 rfl ?_
  refine x_new Γ (ci := 2) (fs := [.null, .int 0, .int 0, .int 0, .int 0, .int 0]) wu_X2 tyX2 tyX2_ok rfl wl_X3_22 wins_X2 wn_X2 (fun _ => rfl) dX3_init_38 (by omega) (Nat.le_of_ble_eq_true rfl) (Nat.le_of_ble_eq_true rfl) (hL_push (j := 25) hp rfl) ?_
  refine x_dup Γ dX3_init_41 rfl ?_
  refine x_callIN Γ cal_X2_init rfl wi_X2_init (fun _ z => z.2.2.2.2.2.2.1) dX3_init_42 (h' := hL (pE ++ [zO 3 [.ref 1, .ref 9, .ref 17, .null, .null, .null, .int 0], zO 0 (cyO 1 T0), zI 10 (T0 0), zI 10 (T0 1), zI 10 (T0 2), zI 10 (T0 3), zI 10 (T0 4), zI 10 (T0 5), zI 10 (T0 6), zO 0 (cyO 9 T0), zI 10 (T0 0), zI 10 (T0 1), zI 10 (T0 2), zI 10 (T0 3), zI 10 (T0 4), zI 10 (T0 5), zI 10 (T0 6), zO 0 (cyO 17 T0), zI 10 (T0 0), zI 10 (T0 1), zI 10 (T0 2), zI 10 (T0 3), zI 10 (T0 4), zI 10 (T0 5), zI 10 (T0 6), zO 2 [.ref (25 + 1), .int 0, .int 0, .int 0, .int 0, .int 0], zI 120 (fun _ => 0)])) (m_X2_init (b := 25) (p := [zO 3 [.ref 1, .ref 9, .ref 17, .null, .null, .null, .int 0], zO 0 (cyO 1 T0), zI 10 (T0 0), zI 10 (T0 1), zI 10 (T0 2), zI 10 (T0 3), zI 10 (T0 4), zI 10 (T0 5), zI 10 (T0 6), zO 0 (cyO 9 T0), zI 10 (T0 0), zI 10 (T0 1), zI 10 (T0 2), zI 10 (T0 3), zI 10 (T0 4), zI 10 (T0 5), zI 10 (T0 6), zO 0 (cyO 17 T0), zI 10 (T0 0), zI 10 (T0 1), zI 10 (T0 2), zI 10 (T0 3), zI 10 (T0 4), zI 10 (T0 5), zI 10 (T0 6)]) rfl (by decide)) (Nat.le_of_ble_eq_true rfl) (Nat.le_of_ble_eq_true rfl) (Nat.le_of_ble_eq_true rfl) (Nat.le_of_ble_eq_true rfl) ?_
  refine x_putF Γi (C := RX3) (T := TX3) (N := 7) (j := 3) wu_X3 tyX3 tyX3_ok nmX3 rfl (by decide) wl_X3_25 rfl rfl (tyX3_ok 3 (by decide)) dX3_init_45 (by omega) (hL_at (j := 0) hp rfl) (Nat.le_of_ble_eq_true rfl) (fun _ => rfl) (fun _ => rfl) (h' := hL (pE ++ [zO 3 [.ref 1, .ref 9, .ref 17, .ref 25, .null, .null, .int 0], zO 0 (cyO 1 T0), zI 10 (T0 0), zI 10 (T0 1), zI 10 (T0 2), zI 10 (T0 3), zI 10 (T0 4), zI 10 (T0 5), zI 10 (T0 6), zO 0 (cyO 9 T0), zI 10 (T0 0), zI 10 (T0 1), zI 10 (T0 2), zI 10 (T0 3), zI 10 (T0 4), zI 10 (T0 5), zI 10 (T0 6), zO 0 (cyO 17 T0), zI 10 (T0 0), zI 10 (T0 1), zI 10 (T0 2), zI 10 (T0 3), zI 10 (T0 4), zI 10 (T0 5), zI 10 (T0 6), zO 2 [.ref (25 + 1), .int 0, .int 0, .int 0, .int 0, .int 0], zI 120 (fun _ => 0)])) (hL_set (j := 0) hp (Nat.le_of_ble_eq_true rfl)) ?_
  refine x_aload_n Γ dX3_init_48 rfl ?_
  refine x_iconst Γ (v := 4) dX3_init_49 rfl ?_
  refine x_newr Γ (N := 4) wl_X3_29 dX3_init_50 (by decide) rfl (by decide) (by omega) (Nat.le_of_ble_eq_true rfl) (Nat.le_of_ble_eq_true rfl) (hL_push (j := 27) hp rfl) ?_
  refine x_putF Γi (C := RX3) (T := TX3) (N := 7) (j := 4) wu_X3 tyX3 tyX3_ok nmX3 rfl (by decide) wl_X3_31 rfl rfl (tyX3_ok 4 (by decide)) dX3_init_53 (by omega) (hL_at (j := 0) hp rfl) (Nat.le_of_ble_eq_true rfl) (fun _ => rfl) (fun _ => rfl) (h' := hL (pE ++ [zO 3 [.ref 1, .ref 9, .ref 17, .ref 25, .ref 27, .null, .int 0], zO 0 (cyO 1 T0), zI 10 (T0 0), zI 10 (T0 1), zI 10 (T0 2), zI 10 (T0 3), zI 10 (T0 4), zI 10 (T0 5), zI 10 (T0 6), zO 0 (cyO 9 T0), zI 10 (T0 0), zI 10 (T0 1), zI 10 (T0 2), zI 10 (T0 3), zI 10 (T0 4), zI 10 (T0 5), zI 10 (T0 6), zO 0 (cyO 17 T0), zI 10 (T0 0), zI 10 (T0 1), zI 10 (T0 2), zI 10 (T0 3), zI 10 (T0 4), zI 10 (T0 5), zI 10 (T0 6), zO 2 [.ref (25 + 1), .int 0, .int 0, .int 0, .int 0, .int 0], zI 120 (fun _ => 0), zR 4 (fun _ => none)])) (hL_set (j := 0) hp (Nat.le_of_ble_eq_true rfl)) ?_
  refine x_iconst Γ (v := 0) dX3_init_56 rfl ?_
  refine x_istore_n Γ dX3_init_57 (by decide) ?_
  refine x_iload_n Γ dX3_init_58 rfl ?_
  refine x_iconst Γ (v := 4) dX3_init_59 rfl ?_
  refine x_icmp_ge Γ (tgt := 82) dX3_init_60 (by decide) (fun z => absurd z (show ¬ (4 : Int32) ≤ 0 by decide)) (fun _ => ?_)
  refine x_aload_n Γ dX3_init_63 rfl ?_
  refine gf_X3_31 Γ dX3_init_64 (by omega) (hL_at (j := 0) hp rfl) rfl ?_
  refine x_iload_n Γ dX3_init_67 rfl ?_
  refine x_new Γ (ci := 1) (fs := [.null, .int 0, .int 0]) wu_X1 tyX1 tyX1_ok rfl wl_X3_29 wins_X1 wn_X1 (fun _ => rfl) dX3_init_68 (by omega) (Nat.le_of_ble_eq_true rfl) (Nat.le_of_ble_eq_true rfl) (hL_push (j := 28) hp rfl) ?_
  refine x_dup Γ dX3_init_71 rfl ?_
  refine x_callIN Γ cal_X1_init rfl wi_X1_init (fun _ z => z.2.2.2.2.2.2.2.1) dX3_init_72 (h' := hL (pE ++ [zO 3 [.ref 1, .ref 9, .ref 17, .ref 25, .ref 27, .null, .int 0], zO 0 (cyO 1 T0), zI 10 (T0 0), zI 10 (T0 1), zI 10 (T0 2), zI 10 (T0 3), zI 10 (T0 4), zI 10 (T0 5), zI 10 (T0 6), zO 0 (cyO 9 T0), zI 10 (T0 0), zI 10 (T0 1), zI 10 (T0 2), zI 10 (T0 3), zI 10 (T0 4), zI 10 (T0 5), zI 10 (T0 6), zO 0 (cyO 17 T0), zI 10 (T0 0), zI 10 (T0 1), zI 10 (T0 2), zI 10 (T0 3), zI 10 (T0 4), zI 10 (T0 5), zI 10 (T0 6), zO 2 [.ref (25 + 1), .int 0, .int 0, .int 0, .int 0, .int 0], zI 120 (fun _ => 0), zR 4 (fun _ => none), zO 1 [.ref (28 + 1), .int 0, .int 0], zI 40 (fun _ => 0)])) (m_X1_init (b := 28) (p := [zO 3 [.ref 1, .ref 9, .ref 17, .ref 25, .ref 27, .null, .int 0], zO 0 (cyO 1 T0), zI 10 (T0 0), zI 10 (T0 1), zI 10 (T0 2), zI 10 (T0 3), zI 10 (T0 4), zI 10 (T0 5), zI 10 (T0 6), zO 0 (cyO 9 T0), zI 10 (T0 0), zI 10 (T0 1), zI 10 (T0 2), zI 10 (T0 3), zI 10 (T0 4), zI 10 (T0 5), zI 10 (T0 6), zO 0 (cyO 17 T0), zI 10 (T0 0), zI 10 (T0 1), zI 10 (T0 2), zI 10 (T0 3), zI 10 (T0 4), zI 10 (T0 5), zI 10 (T0 6), zO 2 [.ref (25 + 1), .int 0, .int 0, .int 0, .int 0, .int 0], zI 120 (fun _ => 0), zR 4 (fun _ => none)]) rfl (by decide)) (Nat.le_of_ble_eq_true rfl) (Nat.le_of_ble_eq_true rfl) (Nat.le_of_ble_eq_true rfl) (Nat.le_of_ble_eq_true rfl) ?_
  refine x_aast Γ dX3_init_75 (by omega) (hL_at (j := 27) hp rfl) (by omega) (hL_at (j := 28) hp rfl) (j := 0) rfl (by decide) (by decide) (h' := hL (pE ++ [zO 3 [.ref 1, .ref 9, .ref 17, .ref 25, .ref 27, .null, .int 0], zO 0 (cyO 1 T0), zI 10 (T0 0), zI 10 (T0 1), zI 10 (T0 2), zI 10 (T0 3), zI 10 (T0 4), zI 10 (T0 5), zI 10 (T0 6), zO 0 (cyO 9 T0), zI 10 (T0 0), zI 10 (T0 1), zI 10 (T0 2), zI 10 (T0 3), zI 10 (T0 4), zI 10 (T0 5), zI 10 (T0 6), zO 0 (cyO 17 T0), zI 10 (T0 0), zI 10 (T0 1), zI 10 (T0 2), zI 10 (T0 3), zI 10 (T0 4), zI 10 (T0 5), zI 10 (T0 6), zO 2 [.ref (25 + 1), .int 0, .int 0, .int 0, .int 0, .int 0], zI 120 (fun _ => 0), zR 4 (va_up (fun _ => none) 0 (some 28)), zO 1 [.ref (28 + 1), .int 0, .int 0], zI 40 (fun _ => 0)])) (hL_set (j := 27) hp (Nat.le_of_ble_eq_true rfl)) ?_
  refine x_iinc Γ (v := 1) dX3_init_76 rfl rfl (by decide) ?_
  refine x_goto Γ (tgt := 58) dX3_init_79 (by decide) ?_
  refine x_iload_n Γ dX3_init_58 rfl ?_
  refine x_iconst Γ (v := 4) dX3_init_59 rfl ?_
  refine x_icmp_ge Γ (tgt := 82) dX3_init_60 (by decide) (fun z => absurd z (show ¬ (4 : Int32) ≤ 1 by decide)) (fun _ => ?_)
  refine x_aload_n Γ dX3_init_63 rfl ?_
  refine gf_X3_31 Γ dX3_init_64 (by omega) (hL_at (j := 0) hp rfl) rfl ?_
  refine x_iload_n Γ dX3_init_67 rfl ?_
  refine x_new Γ (ci := 1) (fs := [.null, .int 0, .int 0]) wu_X1 tyX1 tyX1_ok rfl wl_X3_29 wins_X1 wn_X1 (fun _ => rfl) dX3_init_68 (by omega) (Nat.le_of_ble_eq_true rfl) (Nat.le_of_ble_eq_true rfl) (hL_push (j := 30) hp rfl) ?_
  refine x_dup Γ dX3_init_71 rfl ?_
  refine x_callIN Γ cal_X1_init rfl wi_X1_init (fun _ z => z.2.2.2.2.2.2.2.1) dX3_init_72 (h' := hL (pE ++ [zO 3 [.ref 1, .ref 9, .ref 17, .ref 25, .ref 27, .null, .int 0], zO 0 (cyO 1 T0), zI 10 (T0 0), zI 10 (T0 1), zI 10 (T0 2), zI 10 (T0 3), zI 10 (T0 4), zI 10 (T0 5), zI 10 (T0 6), zO 0 (cyO 9 T0), zI 10 (T0 0), zI 10 (T0 1), zI 10 (T0 2), zI 10 (T0 3), zI 10 (T0 4), zI 10 (T0 5), zI 10 (T0 6), zO 0 (cyO 17 T0), zI 10 (T0 0), zI 10 (T0 1), zI 10 (T0 2), zI 10 (T0 3), zI 10 (T0 4), zI 10 (T0 5), zI 10 (T0 6), zO 2 [.ref (25 + 1), .int 0, .int 0, .int 0, .int 0, .int 0], zI 120 (fun _ => 0), zR 4 (va_up (fun _ => none) 0 (some 28)), zO 1 [.ref (28 + 1), .int 0, .int 0], zI 40 (fun _ => 0), zO 1 [.ref (30 + 1), .int 0, .int 0], zI 40 (fun _ => 0)])) (m_X1_init (b := 30) (p := [zO 3 [.ref 1, .ref 9, .ref 17, .ref 25, .ref 27, .null, .int 0], zO 0 (cyO 1 T0), zI 10 (T0 0), zI 10 (T0 1), zI 10 (T0 2), zI 10 (T0 3), zI 10 (T0 4), zI 10 (T0 5), zI 10 (T0 6), zO 0 (cyO 9 T0), zI 10 (T0 0), zI 10 (T0 1), zI 10 (T0 2), zI 10 (T0 3), zI 10 (T0 4), zI 10 (T0 5), zI 10 (T0 6), zO 0 (cyO 17 T0), zI 10 (T0 0), zI 10 (T0 1), zI 10 (T0 2), zI 10 (T0 3), zI 10 (T0 4), zI 10 (T0 5), zI 10 (T0 6), zO 2 [.ref (25 + 1), .int 0, .int 0, .int 0, .int 0, .int 0], zI 120 (fun _ => 0), zR 4 (va_up (fun _ => none) 0 (some 28)), zO 1 [.ref (28 + 1), .int 0, .int 0], zI 40 (fun _ => 0)]) rfl (by decide)) (Nat.le_of_ble_eq_true rfl) (Nat.le_of_ble_eq_true rfl) (Nat.le_of_ble_eq_true rfl) (Nat.le_of_ble_eq_true rfl) ?_
  refine x_aast Γ dX3_init_75 (by omega) (hL_at (j := 27) hp rfl) (by omega) (hL_at (j := 30) hp rfl) (j := 1) rfl (by decide) (by decide) (h' := hL (pE ++ [zO 3 [.ref 1, .ref 9, .ref 17, .ref 25, .ref 27, .null, .int 0], zO 0 (cyO 1 T0), zI 10 (T0 0), zI 10 (T0 1), zI 10 (T0 2), zI 10 (T0 3), zI 10 (T0 4), zI 10 (T0 5), zI 10 (T0 6), zO 0 (cyO 9 T0), zI 10 (T0 0), zI 10 (T0 1), zI 10 (T0 2), zI 10 (T0 3), zI 10 (T0 4), zI 10 (T0 5), zI 10 (T0 6), zO 0 (cyO 17 T0), zI 10 (T0 0), zI 10 (T0 1), zI 10 (T0 2), zI 10 (T0 3), zI 10 (T0 4), zI 10 (T0 5), zI 10 (T0 6), zO 2 [.ref (25 + 1), .int 0, .int 0, .int 0, .int 0, .int 0], zI 120 (fun _ => 0), zR 4 (va_up (va_up (fun _ => none) 0 (some 28)) 1 (some 30)), zO 1 [.ref (28 + 1), .int 0, .int 0], zI 40 (fun _ => 0), zO 1 [.ref (30 + 1), .int 0, .int 0], zI 40 (fun _ => 0)])) (hL_set (j := 27) hp (Nat.le_of_ble_eq_true rfl)) ?_
  refine x_iinc Γ (v := 2) dX3_init_76 rfl rfl (by decide) ?_
  refine x_goto Γ (tgt := 58) dX3_init_79 (by decide) ?_
  refine x_iload_n Γ dX3_init_58 rfl ?_
  refine x_iconst Γ (v := 4) dX3_init_59 rfl ?_
  refine x_icmp_ge Γ (tgt := 82) dX3_init_60 (by decide) (fun z => absurd z (show ¬ (4 : Int32) ≤ 2 by decide)) (fun _ => ?_)
  refine x_aload_n Γ dX3_init_63 rfl ?_
  refine gf_X3_31 Γ dX3_init_64 (by omega) (hL_at (j := 0) hp rfl) rfl ?_
  refine x_iload_n Γ dX3_init_67 rfl ?_
  refine x_new Γ (ci := 1) (fs := [.null, .int 0, .int 0]) wu_X1 tyX1 tyX1_ok rfl wl_X3_29 wins_X1 wn_X1 (fun _ => rfl) dX3_init_68 (by omega) (Nat.le_of_ble_eq_true rfl) (Nat.le_of_ble_eq_true rfl) (hL_push (j := 32) hp rfl) ?_
  refine x_dup Γ dX3_init_71 rfl ?_
  refine x_callIN Γ cal_X1_init rfl wi_X1_init (fun _ z => z.2.2.2.2.2.2.2.1) dX3_init_72 (h' := hL (pE ++ [zO 3 [.ref 1, .ref 9, .ref 17, .ref 25, .ref 27, .null, .int 0], zO 0 (cyO 1 T0), zI 10 (T0 0), zI 10 (T0 1), zI 10 (T0 2), zI 10 (T0 3), zI 10 (T0 4), zI 10 (T0 5), zI 10 (T0 6), zO 0 (cyO 9 T0), zI 10 (T0 0), zI 10 (T0 1), zI 10 (T0 2), zI 10 (T0 3), zI 10 (T0 4), zI 10 (T0 5), zI 10 (T0 6), zO 0 (cyO 17 T0), zI 10 (T0 0), zI 10 (T0 1), zI 10 (T0 2), zI 10 (T0 3), zI 10 (T0 4), zI 10 (T0 5), zI 10 (T0 6), zO 2 [.ref (25 + 1), .int 0, .int 0, .int 0, .int 0, .int 0], zI 120 (fun _ => 0), zR 4 (va_up (va_up (fun _ => none) 0 (some 28)) 1 (some 30)), zO 1 [.ref (28 + 1), .int 0, .int 0], zI 40 (fun _ => 0), zO 1 [.ref (30 + 1), .int 0, .int 0], zI 40 (fun _ => 0), zO 1 [.ref (32 + 1), .int 0, .int 0], zI 40 (fun _ => 0)])) (m_X1_init (b := 32) (p := [zO 3 [.ref 1, .ref 9, .ref 17, .ref 25, .ref 27, .null, .int 0], zO 0 (cyO 1 T0), zI 10 (T0 0), zI 10 (T0 1), zI 10 (T0 2), zI 10 (T0 3), zI 10 (T0 4), zI 10 (T0 5), zI 10 (T0 6), zO 0 (cyO 9 T0), zI 10 (T0 0), zI 10 (T0 1), zI 10 (T0 2), zI 10 (T0 3), zI 10 (T0 4), zI 10 (T0 5), zI 10 (T0 6), zO 0 (cyO 17 T0), zI 10 (T0 0), zI 10 (T0 1), zI 10 (T0 2), zI 10 (T0 3), zI 10 (T0 4), zI 10 (T0 5), zI 10 (T0 6), zO 2 [.ref (25 + 1), .int 0, .int 0, .int 0, .int 0, .int 0], zI 120 (fun _ => 0), zR 4 (va_up (va_up (fun _ => none) 0 (some 28)) 1 (some 30)), zO 1 [.ref (28 + 1), .int 0, .int 0], zI 40 (fun _ => 0), zO 1 [.ref (30 + 1), .int 0, .int 0], zI 40 (fun _ => 0)]) rfl (by decide)) (Nat.le_of_ble_eq_true rfl) (Nat.le_of_ble_eq_true rfl) (Nat.le_of_ble_eq_true rfl) (Nat.le_of_ble_eq_true rfl) ?_
  refine x_aast Γ dX3_init_75 (by omega) (hL_at (j := 27) hp rfl) (by omega) (hL_at (j := 32) hp rfl) (j := 2) rfl (by decide) (by decide) (h' := hL (pE ++ [zO 3 [.ref 1, .ref 9, .ref 17, .ref 25, .ref 27, .null, .int 0], zO 0 (cyO 1 T0), zI 10 (T0 0), zI 10 (T0 1), zI 10 (T0 2), zI 10 (T0 3), zI 10 (T0 4), zI 10 (T0 5), zI 10 (T0 6), zO 0 (cyO 9 T0), zI 10 (T0 0), zI 10 (T0 1), zI 10 (T0 2), zI 10 (T0 3), zI 10 (T0 4), zI 10 (T0 5), zI 10 (T0 6), zO 0 (cyO 17 T0), zI 10 (T0 0), zI 10 (T0 1), zI 10 (T0 2), zI 10 (T0 3), zI 10 (T0 4), zI 10 (T0 5), zI 10 (T0 6), zO 2 [.ref (25 + 1), .int 0, .int 0, .int 0, .int 0, .int 0], zI 120 (fun _ => 0), zR 4 (va_up (va_up (va_up (fun _ => none) 0 (some 28)) 1 (some 30)) 2 (some 32)), zO 1 [.ref (28 + 1), .int 0, .int 0], zI 40 (fun _ => 0), zO 1 [.ref (30 + 1), .int 0, .int 0], zI 40 (fun _ => 0), zO 1 [.ref (32 + 1), .int 0, .int 0], zI 40 (fun _ => 0)])) (hL_set (j := 27) hp (Nat.le_of_ble_eq_true rfl)) ?_
  refine x_iinc Γ (v := 3) dX3_init_76 rfl rfl (by decide) ?_
  refine x_goto Γ (tgt := 58) dX3_init_79 (by decide) ?_
  refine x_iload_n Γ dX3_init_58 rfl ?_
  refine x_iconst Γ (v := 4) dX3_init_59 rfl ?_
  refine x_icmp_ge Γ (tgt := 82) dX3_init_60 (by decide) (fun z => absurd z (show ¬ (4 : Int32) ≤ 3 by decide)) (fun _ => ?_)
  refine x_aload_n Γ dX3_init_63 rfl ?_
  refine gf_X3_31 Γ dX3_init_64 (by omega) (hL_at (j := 0) hp rfl) rfl ?_
  refine x_iload_n Γ dX3_init_67 rfl ?_
  refine x_new Γ (ci := 1) (fs := [.null, .int 0, .int 0]) wu_X1 tyX1 tyX1_ok rfl wl_X3_29 wins_X1 wn_X1 (fun _ => rfl) dX3_init_68 (by omega) (Nat.le_of_ble_eq_true rfl) (Nat.le_of_ble_eq_true rfl) (hL_push (j := 34) hp rfl) ?_
  refine x_dup Γ dX3_init_71 rfl ?_
  refine x_callIN Γ cal_X1_init rfl wi_X1_init (fun _ z => z.2.2.2.2.2.2.2.1) dX3_init_72 (h' := hL (pE ++ [zO 3 [.ref 1, .ref 9, .ref 17, .ref 25, .ref 27, .null, .int 0], zO 0 (cyO 1 T0), zI 10 (T0 0), zI 10 (T0 1), zI 10 (T0 2), zI 10 (T0 3), zI 10 (T0 4), zI 10 (T0 5), zI 10 (T0 6), zO 0 (cyO 9 T0), zI 10 (T0 0), zI 10 (T0 1), zI 10 (T0 2), zI 10 (T0 3), zI 10 (T0 4), zI 10 (T0 5), zI 10 (T0 6), zO 0 (cyO 17 T0), zI 10 (T0 0), zI 10 (T0 1), zI 10 (T0 2), zI 10 (T0 3), zI 10 (T0 4), zI 10 (T0 5), zI 10 (T0 6), zO 2 [.ref (25 + 1), .int 0, .int 0, .int 0, .int 0, .int 0], zI 120 (fun _ => 0), zR 4 (va_up (va_up (va_up (fun _ => none) 0 (some 28)) 1 (some 30)) 2 (some 32)), zO 1 [.ref (28 + 1), .int 0, .int 0], zI 40 (fun _ => 0), zO 1 [.ref (30 + 1), .int 0, .int 0], zI 40 (fun _ => 0), zO 1 [.ref (32 + 1), .int 0, .int 0], zI 40 (fun _ => 0), zO 1 [.ref (34 + 1), .int 0, .int 0], zI 40 (fun _ => 0)])) (m_X1_init (b := 34) (p := [zO 3 [.ref 1, .ref 9, .ref 17, .ref 25, .ref 27, .null, .int 0], zO 0 (cyO 1 T0), zI 10 (T0 0), zI 10 (T0 1), zI 10 (T0 2), zI 10 (T0 3), zI 10 (T0 4), zI 10 (T0 5), zI 10 (T0 6), zO 0 (cyO 9 T0), zI 10 (T0 0), zI 10 (T0 1), zI 10 (T0 2), zI 10 (T0 3), zI 10 (T0 4), zI 10 (T0 5), zI 10 (T0 6), zO 0 (cyO 17 T0), zI 10 (T0 0), zI 10 (T0 1), zI 10 (T0 2), zI 10 (T0 3), zI 10 (T0 4), zI 10 (T0 5), zI 10 (T0 6), zO 2 [.ref (25 + 1), .int 0, .int 0, .int 0, .int 0, .int 0], zI 120 (fun _ => 0), zR 4 (va_up (va_up (va_up (fun _ => none) 0 (some 28)) 1 (some 30)) 2 (some 32)), zO 1 [.ref (28 + 1), .int 0, .int 0], zI 40 (fun _ => 0), zO 1 [.ref (30 + 1), .int 0, .int 0], zI 40 (fun _ => 0), zO 1 [.ref (32 + 1), .int 0, .int 0], zI 40 (fun _ => 0)]) rfl (by decide)) (Nat.le_of_ble_eq_true rfl) (Nat.le_of_ble_eq_true rfl) (Nat.le_of_ble_eq_true rfl) (Nat.le_of_ble_eq_true rfl) ?_
  refine x_aast Γ dX3_init_75 (by omega) (hL_at (j := 27) hp rfl) (by omega) (hL_at (j := 34) hp rfl) (j := 3) rfl (by decide) (by decide) (h' := hL (pE ++ [zO 3 [.ref 1, .ref 9, .ref 17, .ref 25, .ref 27, .null, .int 0], zO 0 (cyO 1 T0), zI 10 (T0 0), zI 10 (T0 1), zI 10 (T0 2), zI 10 (T0 3), zI 10 (T0 4), zI 10 (T0 5), zI 10 (T0 6), zO 0 (cyO 9 T0), zI 10 (T0 0), zI 10 (T0 1), zI 10 (T0 2), zI 10 (T0 3), zI 10 (T0 4), zI 10 (T0 5), zI 10 (T0 6), zO 0 (cyO 17 T0), zI 10 (T0 0), zI 10 (T0 1), zI 10 (T0 2), zI 10 (T0 3), zI 10 (T0 4), zI 10 (T0 5), zI 10 (T0 6), zO 2 [.ref (25 + 1), .int 0, .int 0, .int 0, .int 0, .int 0], zI 120 (fun _ => 0), zR 4 (va_up (va_up (va_up (va_up (fun _ => none) 0 (some 28)) 1 (some 30)) 2 (some 32)) 3 (some 34)), zO 1 [.ref (28 + 1), .int 0, .int 0], zI 40 (fun _ => 0), zO 1 [.ref (30 + 1), .int 0, .int 0], zI 40 (fun _ => 0), zO 1 [.ref (32 + 1), .int 0, .int 0], zI 40 (fun _ => 0), zO 1 [.ref (34 + 1), .int 0, .int 0], zI 40 (fun _ => 0)])) (hL_set (j := 27) hp (Nat.le_of_ble_eq_true rfl)) ?_
  refine x_iinc Γ (v := 4) dX3_init_76 rfl rfl (by decide) ?_
  refine x_goto Γ (tgt := 58) dX3_init_79 (by decide) ?_
  refine x_iload_n Γ dX3_init_58 rfl ?_
  refine x_iconst Γ (v := 4) dX3_init_59 rfl ?_
  refine x_icmp_ge Γ (tgt := 82) dX3_init_60 (by decide) (fun _ => ?_) (fun z => absurd (show (4 : Int32) ≤ 4 by decide) z)
  refine x_aload_n Γ dX3_init_82 rfl ?_
  refine x_bipush Γ (v := 7) dX3_init_83 rfl ?_
  refine x_newi Γ (N := 7) dX3_init_85 (by decide) rfl (by decide) (by omega) (Nat.le_of_ble_eq_true rfl) (Nat.le_of_ble_eq_true rfl) (hL_push (j := 36) hp rfl) ?_
  refine x_putF Γi (C := RX3) (T := TX3) (N := 7) (j := 5) wu_X3 tyX3 tyX3_ok nmX3 rfl (by decide) wl_X3_36 rfl rfl (tyX3_ok 5 (by decide)) dX3_init_87 (by omega) (hL_at (j := 0) hp rfl) (Nat.le_of_ble_eq_true rfl) (fun _ => rfl) (fun _ => rfl) (h' := hL (pE ++ [zO 3 [.ref 1, .ref 9, .ref 17, .ref 25, .ref 27, .ref 36, .int 0], zO 0 (cyO 1 T0), zI 10 (T0 0), zI 10 (T0 1), zI 10 (T0 2), zI 10 (T0 3), zI 10 (T0 4), zI 10 (T0 5), zI 10 (T0 6), zO 0 (cyO 9 T0), zI 10 (T0 0), zI 10 (T0 1), zI 10 (T0 2), zI 10 (T0 3), zI 10 (T0 4), zI 10 (T0 5), zI 10 (T0 6), zO 0 (cyO 17 T0), zI 10 (T0 0), zI 10 (T0 1), zI 10 (T0 2), zI 10 (T0 3), zI 10 (T0 4), zI 10 (T0 5), zI 10 (T0 6), zO 2 [.ref (25 + 1), .int 0, .int 0, .int 0, .int 0, .int 0], zI 120 (fun _ => 0), zR 4 (va_up (va_up (va_up (va_up (fun _ => none) 0 (some 28)) 1 (some 30)) 2 (some 32)) 3 (some 34)), zO 1 [.ref (28 + 1), .int 0, .int 0], zI 40 (fun _ => 0), zO 1 [.ref (30 + 1), .int 0, .int 0], zI 40 (fun _ => 0), zO 1 [.ref (32 + 1), .int 0, .int 0], zI 40 (fun _ => 0), zO 1 [.ref (34 + 1), .int 0, .int 0], zI 40 (fun _ => 0), zI 7 (fun _ => 0)])) (hL_set (j := 0) hp (Nat.le_of_ble_eq_true rfl)) ?_
  refine x_aload_n Γ dX3_init_90 rfl ?_
  refine x_iconst Γ (v := 0) dX3_init_91 rfl ?_
  refine pf_X3_40 Γ (hx := rfl) dX3_init_92 (by omega) (hL_at (j := 0) hp rfl) (Nat.le_of_ble_eq_true rfl) (h' := hL (pE ++ [zO 3 [.ref 1, .ref 9, .ref 17, .ref 25, .ref 27, .ref 36, .int 0], zO 0 (cyO 1 T0), zI 10 (T0 0), zI 10 (T0 1), zI 10 (T0 2), zI 10 (T0 3), zI 10 (T0 4), zI 10 (T0 5), zI 10 (T0 6), zO 0 (cyO 9 T0), zI 10 (T0 0), zI 10 (T0 1), zI 10 (T0 2), zI 10 (T0 3), zI 10 (T0 4), zI 10 (T0 5), zI 10 (T0 6), zO 0 (cyO 17 T0), zI 10 (T0 0), zI 10 (T0 1), zI 10 (T0 2), zI 10 (T0 3), zI 10 (T0 4), zI 10 (T0 5), zI 10 (T0 6), zO 2 [.ref (25 + 1), .int 0, .int 0, .int 0, .int 0, .int 0], zI 120 (fun _ => 0), zR 4 (va_up (va_up (va_up (va_up (fun _ => none) 0 (some 28)) 1 (some 30)) 2 (some 32)) 3 (some 34)), zO 1 [.ref (28 + 1), .int 0, .int 0], zI 40 (fun _ => 0), zO 1 [.ref (30 + 1), .int 0, .int 0], zI 40 (fun _ => 0), zO 1 [.ref (32 + 1), .int 0, .int 0], zI 40 (fun _ => 0), zO 1 [.ref (34 + 1), .int 0, .int 0], zI 40 (fun _ => 0), zI 7 (fun _ => 0)])) (hL_set (j := 0) hp (Nat.le_of_ble_eq_true rfl)) ?_
  refine x_congR (q := 27) (by omega) (hL_at (j := 27) hp rfl) (g' := fun i => some (28 + 2 * i)) (by decide) (h' := hL (pE ++ [zO 3 [.ref 1, .ref 9, .ref 17, .ref 25, .ref 27, .ref 36, .int 0], zO 0 (cyO 1 T0), zI 10 (T0 0), zI 10 (T0 1), zI 10 (T0 2), zI 10 (T0 3), zI 10 (T0 4), zI 10 (T0 5), zI 10 (T0 6), zO 0 (cyO 9 T0), zI 10 (T0 0), zI 10 (T0 1), zI 10 (T0 2), zI 10 (T0 3), zI 10 (T0 4), zI 10 (T0 5), zI 10 (T0 6), zO 0 (cyO 17 T0), zI 10 (T0 0), zI 10 (T0 1), zI 10 (T0 2), zI 10 (T0 3), zI 10 (T0 4), zI 10 (T0 5), zI 10 (T0 6), zO 2 [.ref (25 + 1), .int 0, .int 0, .int 0, .int 0, .int 0], zI 120 (fun _ => 0), zR 4 (fun i => some (28 + 2 * i)), zO 1 [.ref (28 + 1), .int 0, .int 0], zI 40 (fun _ => 0), zO 1 [.ref (30 + 1), .int 0, .int 0], zI 40 (fun _ => 0), zO 1 [.ref (32 + 1), .int 0, .int 0], zI 40 (fun _ => 0), zO 1 [.ref (34 + 1), .int 0, .int 0], zI 40 (fun _ => 0), zI 7 (fun _ => 0)])) (hL_set (j := 27) hp (Nat.le_of_ble_eq_true rfl)) ?_
  exact x_vret ρ dX3_init_95 rfl rfl (hL_zH ⟨Or.inl rfl, ⟨Or.inl rfl, ⟨Or.inl rfl, ⟨Or.inl rfl, ⟨Or.inl rfl, ⟨Or.inl rfl, ⟨Or.inl rfl, ⟨Or.inl rfl, ⟨Or.inl rfl, ⟨Or.inl rfl, ⟨Or.inl rfl, ⟨Or.inl rfl, ⟨Or.inl rfl, ⟨Or.inl rfl, ⟨Or.inl rfl, ⟨Or.inl rfl, ⟨Or.inl rfl, ⟨Or.inl rfl, ⟨Or.inl rfl, ⟨Or.inl rfl, ⟨Or.inl rfl, ⟨Or.inl rfl, ⟨Or.inl rfl, ⟨Or.inl rfl, ⟨Or.inl rfl, ⟨Or.inl rfl, ⟨Or.inl rfl, ⟨Or.inl rfl, ⟨Or.inl rfl, ⟨Or.inl rfl, ⟨Or.inl rfl, ⟨Or.inl rfl, ⟨Or.inl rfl, ⟨Or.inl rfl, ⟨Or.inl rfl, ⟨Or.inl rfl, ⟨Or.inl rfl, trivial⟩⟩⟩⟩⟩⟩⟩⟩⟩⟩⟩⟩⟩⟩⟩⟩⟩⟩⟩⟩⟩⟩⟩⟩⟩⟩⟩⟩⟩⟩⟩⟩⟩⟩⟩⟩⟩)
