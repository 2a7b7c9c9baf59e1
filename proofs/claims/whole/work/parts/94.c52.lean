set_option maxHeartbeats 4000000 in
set_option maxRecDepth 100000 in
theorem c_X0_init (D : va_G) (cs : Nat → ClassId) (h0 : Nat) (p1 : Nat) (p2 : Nat) : NC D cs 1 0 0 mX0_init [.ref h0, .ref p1, .ref p2] [(h0, .inr (0, [.null, .null]))] (fun ws => ws = [(h0, .inr (0, [.ref p1, .ref p2]))]) := by
  refine NC.of (by decide) rfl (Nat.le_of_ble_eq_true rfl) ?_
  show NW D cs 1 0 0 mX0_init 0 [(0, .ref h0), (1, .ref p1), (2, .ref p2)] [] [(h0, .inr (0, [.null, .null]))] 0 0 _
  refine N_aload_n dX0_init_0 rfl 0 rfl ?_
  refine N_obj dX0_init_1 ob_RX0 (by decide) ?_
  refine N_aload_n dX0_init_4 rfl 0 rfl ?_
  refine N_aload_n dX0_init_5 rfl 1 rfl ?_
  refine N_putF (q0 := 0) (v := .ref p1) dX0_init_6 fa_RX0_9 fq_0_0 rfl (by rfl) (by rfl) (Nat.le_of_ble_eq_true rfl) ?_
  refine N_w (ws' := [(h0, .inr (0, [.ref p1, .null]))]) (n' := 0) (k' := 0) rfl rfl rfl ?_
  refine N_aload_n dX0_init_9 rfl 0 rfl ?_
  refine N_aload_n dX0_init_10 rfl 2 rfl ?_
  refine N_putF (q0 := 0) (v := .ref p2) dX0_init_11 fa_RX0_15 fq_0_1 rfl (by rfl) (by rfl) (Nat.le_of_ble_eq_true rfl) ?_
  refine N_w (ws' := [(h0, .inr (0, [.ref p1, .ref p2]))]) (n' := 0) (k' := 0) rfl rfl rfl ?_
  exact N_ret dX0_init_14 rfl rfl rfl rfl
set_option maxHeartbeats 4000000 in
set_option maxRecDepth 100000 in
theorem c_X1_init (D : va_G) (cs : Nat → ClassId) (h0 : Nat) (p1 : Nat) : NC D cs 1 1 80 mX1_init [.ref h0, .ref p1] [(h0, .inr (1, [.null, .null, .int 0, .int 0]))] (fun ws => ∃ q0 : Nat, ws = [(h0, .inr (1, [.ref p1, .ref q0, .int 0, .int 0])), (q0, zI cs 80)]) := by
  refine NC.of (by decide) rfl (Nat.le_of_ble_eq_true rfl) ?_
  show NW D cs 1 1 80 mX1_init 0 [(0, .ref h0), (1, .ref p1)] [] [(h0, .inr (1, [.null, .null, .int 0, .int 0]))] 0 0 _
  refine N_aload_n dX1_init_0 rfl 0 rfl ?_
  refine N_obj dX1_init_1 ob_RX1 (by decide) ?_
  refine N_aload_n dX1_init_4 rfl 0 rfl ?_
  refine N_bipush (v := 80) dX1_init_5 (by decide) ?_
  refine N_newI (v := 80) (N := 80) dX1_init_7 (by decide) (by decide) (by decide) (Nat.le_of_ble_eq_true rfl) (Nat.le_of_ble_eq_true rfl) (fun q0 => ?_)
  refine N_w (ws' := [(h0, .inr (1, [.null, .null, .int 0, .int 0])), (q0, zI cs 80)]) (n' := 1) (k' := 80) rfl rfl rfl ?_
  refine N_putF (q0 := 0) (v := .ref q0) dX1_init_9 fa_RX1_9 fq_1_1 rfl (by rfl) (by rfl) (Nat.le_of_ble_eq_true rfl) ?_
  refine N_w (ws' := [(h0, .inr (1, [.null, .ref q0, .int 0, .int 0])), (q0, zI cs 80)]) (n' := 1) (k' := 80) rfl rfl rfl ?_
  refine N_aload_n dX1_init_12 rfl 0 rfl ?_
  refine N_aload_n dX1_init_13 rfl 1 rfl ?_
  refine N_putF (q0 := 0) (v := .ref p1) dX1_init_14 fa_RX1_15 fq_1_0 rfl (by rfl) (by rfl) (Nat.le_of_ble_eq_true rfl) ?_
  refine N_w (ws' := [(h0, .inr (1, [.ref p1, .ref q0, .int 0, .int 0])), (q0, zI cs 80)]) (n' := 1) (k' := 80) rfl rfl rfl ?_
  exact N_ret dX1_init_17 rfl rfl rfl ⟨q0, rfl⟩
set_option maxHeartbeats 4000000 in
set_option maxRecDepth 100000 in
theorem c_X2_init (D : va_G) (cs : Nat → ClassId) (h0 : Nat) (p1 : Nat) (p2 : Nat) : NC D cs 1 1 780 mX2_init [.ref h0, .ref p1, .ref p2] [(h0, .inr (2, [.null, .null, .null]))] (fun ws => ∃ q0 : Nat, ws = [(h0, .inr (2, [.ref p1, .ref p2, .ref q0])), (q0, zL cs 780)]) := by
  refine NC.of (by decide) rfl (Nat.le_of_ble_eq_true rfl) ?_
  show NW D cs 1 1 780 mX2_init 0 [(0, .ref h0), (1, .ref p1), (2, .ref p2)] [] [(h0, .inr (2, [.null, .null, .null]))] 0 0 _
  refine N_aload_n dX2_init_0 rfl 0 rfl ?_
  refine N_obj dX2_init_1 ob_RX2 (by decide) ?_
  refine N_aload_n dX2_init_4 rfl 0 rfl ?_
  refine N_sipush (v := 780) dX2_init_5 (by decide) ?_
  refine N_newL (v := 780) (N := 780) dX2_init_8 (by decide) (by decide) (by decide) (Nat.le_of_ble_eq_true rfl) (Nat.le_of_ble_eq_true rfl) (fun q0 => ?_)
  refine N_w (ws' := [(h0, .inr (2, [.null, .null, .null])), (q0, zL cs 780)]) (n' := 1) (k' := 780) rfl rfl rfl ?_
  refine N_putF (q0 := 0) (v := .ref q0) dX2_init_10 fa_RX2_9 fq_2_2 rfl (by rfl) (by rfl) (Nat.le_of_ble_eq_true rfl) ?_
  refine N_w (ws' := [(h0, .inr (2, [.null, .null, .ref q0])), (q0, zL cs 780)]) (n' := 1) (k' := 780) rfl rfl rfl ?_
  refine N_aload_n dX2_init_13 rfl 0 rfl ?_
  refine N_aload_n dX2_init_14 rfl 1 rfl ?_
  refine N_putF (q0 := 0) (v := .ref p1) dX2_init_15 fa_RX2_15 fq_2_0 rfl (by rfl) (by rfl) (Nat.le_of_ble_eq_true rfl) ?_
  refine N_w (ws' := [(h0, .inr (2, [.ref p1, .null, .ref q0])), (q0, zL cs 780)]) (n' := 1) (k' := 780) rfl rfl rfl ?_
  refine N_aload_n dX2_init_18 rfl 0 rfl ?_
  refine N_aload_n dX2_init_19 rfl 2 rfl ?_
  refine N_putF (q0 := 0) (v := .ref p2) dX2_init_20 fa_RX2_19 fq_2_1 rfl (by rfl) (by rfl) (Nat.le_of_ble_eq_true rfl) ?_
  refine N_w (ws' := [(h0, .inr (2, [.ref p1, .ref p2, .ref q0])), (q0, zL cs 780)]) (n' := 1) (k' := 780) rfl rfl rfl ?_
  exact N_ret dX2_init_23 rfl rfl rfl ⟨q0, rfl⟩
set_option maxHeartbeats 4000000 in
set_option maxRecDepth 100000 in
theorem c_X3_init (D : va_G) (cs : Nat → ClassId) (h0 : Nat) : NC D cs 1 6 378 mX3_init [.ref h0] [(h0, .inr (3, [.null, .null, .null, .null, .null, .null, .int 0, .int 0, .int 0, .int 0, .int 0, .int 0, .int 0]))] (fun ws => ∃ q0 q1 q2 q3 q4 q5 : Nat, ws = [(h0, .inr (3, [.ref q0, .ref q1, .ref q2, .ref q3, .ref q4, .ref q5, .int 0, .int 0, .int 0, .int 0, .int 0, .int 0, .int 0])), (q0, zI cs 12), (q1, .inl (cs 0, 12, .inl (upd (upd (upd (upd (upd (upd (upd (upd (upd (upd (upd (upd (fun _ => 0) 0 1) 1 2) 2 3) 3 1) 4 0) 5 1) 6 1) 7 2) 8 3) 9 1) 10 0) 11 1))), (q2, .inl (cs 0, 3, .inl (upd (upd (upd (fun _ => 0) 0 0) 1 1) 2 0))), (q3, zI cs 300), (q4, zI cs 36), (q5, zI cs 15)]) := by
  refine NC.of (by decide) rfl (Nat.le_of_ble_eq_true rfl) ?_
  show NW D cs 1 6 378 mX3_init 0 [(0, .ref h0)] [] [(h0, .inr (3, [.null, .null, .null, .null, .null, .null, .int 0, .int 0, .int 0, .int 0, .int 0, .int 0, .int 0]))] 0 0 _
  refine N_aload_n dX3_init_0 rfl 0 rfl ?_
  refine N_obj dX3_init_1 ob_RX3 (by decide) ?_
  refine N_aload_n dX3_init_4 rfl 0 rfl ?_
  refine N_bipush (v := 12) dX3_init_5 (by decide) ?_
  refine N_newI (v := 12) (N := 12) dX3_init_7 (by decide) (by decide) (by decide) (Nat.le_of_ble_eq_true rfl) (Nat.le_of_ble_eq_true rfl) (fun q0 => ?_)
  refine N_w (ws' := [(h0, .inr (3, [.null, .null, .null, .null, .null, .null, .int 0, .int 0, .int 0, .int 0, .int 0, .int 0, .int 0])), (q0, zI cs 12)]) (n' := 1) (k' := 12) rfl rfl rfl ?_
  refine N_putF (q0 := 0) (v := .ref q0) dX3_init_9 fa_RX3_9 fq_3_0 rfl (by rfl) (by rfl) (Nat.le_of_ble_eq_true rfl) ?_
  refine N_w (ws' := [(h0, .inr (3, [.ref q0, .null, .null, .null, .null, .null, .int 0, .int 0, .int 0, .int 0, .int 0, .int 0, .int 0])), (q0, zI cs 12)]) (n' := 1) (k' := 12) rfl rfl rfl ?_
  refine N_aload_n dX3_init_12 rfl 0 rfl ?_
  refine N_bipush (v := 12) dX3_init_13 (by decide) ?_
  refine N_newI (v := 12) (N := 12) dX3_init_15 (by decide) (by decide) (by decide) (Nat.le_of_ble_eq_true rfl) (Nat.le_of_ble_eq_true rfl) (fun q1 => ?_)
  refine N_w (ws' := [(h0, .inr (3, [.ref q0, .null, .null, .null, .null, .null, .int 0, .int 0, .int 0, .int 0, .int 0, .int 0, .int 0])), (q0, zI cs 12), (q1, zI cs 12)]) (n' := 2) (k' := 24) rfl rfl rfl ?_
  refine N_dup dX3_init_17 rfl ?_
  refine N_iconst (v := 0) dX3_init_18 (by decide) ?_
  refine N_iconst (v := 1) dX3_init_19 (by decide) ?_
  refine N_iast (q0 := 2) (N := 12) (f := (fun _ => 0)) dX3_init_20 rfl (by unfold vp_in; decide) ?_
  refine N_w (ws' := [(h0, .inr (3, [.ref q0, .null, .null, .null, .null, .null, .int 0, .int 0, .int 0, .int 0, .int 0, .int 0, .int 0])), (q0, zI cs 12), (q1, .inl (cs 0, 12, .inl (upd (fun _ => 0) 0 1)))]) (n' := 2) (k' := 24) rfl rfl rfl ?_
  refine N_dup dX3_init_21 rfl ?_
  refine N_iconst (v := 1) dX3_init_22 (by decide) ?_
  refine N_iconst (v := 2) dX3_init_23 (by decide) ?_
  refine N_iast (q0 := 2) (N := 12) (f := (upd (fun _ => 0) 0 1)) dX3_init_24 rfl (by unfold vp_in; decide) ?_
  refine N_w (ws' := [(h0, .inr (3, [.ref q0, .null, .null, .null, .null, .null, .int 0, .int 0, .int 0, .int 0, .int 0, .int 0, .int 0])), (q0, zI cs 12), (q1, .inl (cs 0, 12, .inl (upd (upd (fun _ => 0) 0 1) 1 2)))]) (n' := 2) (k' := 24) rfl rfl rfl ?_
  refine N_dup dX3_init_25 rfl ?_
  refine N_iconst (v := 2) dX3_init_26 (by decide) ?_
  refine N_iconst (v := 3) dX3_init_27 (by decide) ?_
  refine N_iast (q0 := 2) (N := 12) (f := (upd (upd (fun _ => 0) 0 1) 1 2)) dX3_init_28 rfl (by unfold vp_in; decide) ?_
  refine N_w (ws' := [(h0, .inr (3, [.ref q0, .null, .null, .null, .null, .null, .int 0, .int 0, .int 0, .int 0, .int 0, .int 0, .int 0])), (q0, zI cs 12), (q1, .inl (cs 0, 12, .inl (upd (upd (upd (fun _ => 0) 0 1) 1 2) 2 3)))]) (n' := 2) (k' := 24) rfl rfl rfl ?_
  refine N_dup dX3_init_29 rfl ?_
  refine N_iconst (v := 3) dX3_init_30 (by decide) ?_
  refine N_iconst (v := 1) dX3_init_31 (by decide) ?_
  refine N_iast (q0 := 2) (N := 12) (f := (upd (upd (upd (fun _ => 0) 0 1) 1 2) 2 3)) dX3_init_32 rfl (by unfold vp_in; decide) ?_
  refine N_w (ws' := [(h0, .inr (3, [.ref q0, .null, .null, .null, .null, .null, .int 0, .int 0, .int 0, .int 0, .int 0, .int 0, .int 0])), (q0, zI cs 12), (q1, .inl (cs 0, 12, .inl (upd (upd (upd (upd (fun _ => 0) 0 1) 1 2) 2 3) 3 1)))]) (n' := 2) (k' := 24) rfl rfl rfl ?_
  refine N_dup dX3_init_33 rfl ?_
  refine N_iconst (v := 4) dX3_init_34 (by decide) ?_
  refine N_iconst (v := 0) dX3_init_35 (by decide) ?_
  refine N_iast (q0 := 2) (N := 12) (f := (upd (upd (upd (upd (fun _ => 0) 0 1) 1 2) 2 3) 3 1)) dX3_init_36 rfl (by unfold vp_in; decide) ?_
  refine N_w (ws' := [(h0, .inr (3, [.ref q0, .null, .null, .null, .null, .null, .int 0, .int 0, .int 0, .int 0, .int 0, .int 0, .int 0])), (q0, zI cs 12), (q1, .inl (cs 0, 12, .inl (upd (upd (upd (upd (upd (fun _ => 0) 0 1) 1 2) 2 3) 3 1) 4 0)))]) (n' := 2) (k' := 24) rfl rfl rfl ?_
  refine N_dup dX3_init_37 rfl ?_
  refine N_iconst (v := 5) dX3_init_38 (by decide) ?_
  refine N_iconst (v := 1) dX3_init_39 (by decide) ?_
  refine N_iast (q0 := 2) (N := 12) (f := (upd (upd (upd (upd (upd (fun _ => 0) 0 1) 1 2) 2 3) 3 1) 4 0)) dX3_init_40 rfl (by unfold vp_in; decide) ?_
  refine N_w (ws' := [(h0, .inr (3, [.ref q0, .null, .null, .null, .null, .null, .int 0, .int 0, .int 0, .int 0, .int 0, .int 0, .int 0])), (q0, zI cs 12), (q1, .inl (cs 0, 12, .inl (upd (upd (upd (upd (upd (upd (fun _ => 0) 0 1) 1 2) 2 3) 3 1) 4 0) 5 1)))]) (n' := 2) (k' := 24) rfl rfl rfl ?_
  refine N_dup dX3_init_41 rfl ?_
  refine N_bipush (v := 6) dX3_init_42 (by decide) ?_
  refine N_iconst (v := 1) dX3_init_44 (by decide) ?_
  refine N_iast (q0 := 2) (N := 12) (f := (upd (upd (upd (upd (upd (upd (fun _ => 0) 0 1) 1 2) 2 3) 3 1) 4 0) 5 1)) dX3_init_45 rfl (by unfold vp_in; decide) ?_
  refine N_w (ws' := [(h0, .inr (3, [.ref q0, .null, .null, .null, .null, .null, .int 0, .int 0, .int 0, .int 0, .int 0, .int 0, .int 0])), (q0, zI cs 12), (q1, .inl (cs 0, 12, .inl (upd (upd (upd (upd (upd (upd (upd (fun _ => 0) 0 1) 1 2) 2 3) 3 1) 4 0) 5 1) 6 1)))]) (n' := 2) (k' := 24) rfl rfl rfl ?_
  refine N_dup dX3_init_46 rfl ?_
  refine N_bipush (v := 7) dX3_init_47 (by decide) ?_
  refine N_iconst (v := 2) dX3_init_49 (by decide) ?_
  refine N_iast (q0 := 2) (N := 12) (f := (upd (upd (upd (upd (upd (upd (upd (fun _ => 0) 0 1) 1 2) 2 3) 3 1) 4 0) 5 1) 6 1)) dX3_init_50 rfl (by unfold vp_in; decide) ?_
  refine N_w (ws' := [(h0, .inr (3, [.ref q0, .null, .null, .null, .null, .null, .int 0, .int 0, .int 0, .int 0, .int 0, .int 0, .int 0])), (q0, zI cs 12), (q1, .inl (cs 0, 12, .inl (upd (upd (upd (upd (upd (upd (upd (upd (fun _ => 0) 0 1) 1 2) 2 3) 3 1) 4 0) 5 1) 6 1) 7 2)))]) (n' := 2) (k' := 24) rfl rfl rfl ?_
  refine N_dup dX3_init_51 rfl ?_
  refine N_bipush (v := 8) dX3_init_52 (by decide) ?_
  refine N_iconst (v := 3) dX3_init_54 (by decide) ?_
  refine N_iast (q0 := 2) (N := 12) (f := (upd (upd (upd (upd (upd (upd (upd (upd (fun _ => 0) 0 1) 1 2) 2 3) 3 1) 4 0) 5 1) 6 1) 7 2)) dX3_init_55 rfl (by unfold vp_in; decide) ?_
  refine N_w (ws' := [(h0, .inr (3, [.ref q0, .null, .null, .null, .null, .null, .int 0, .int 0, .int 0, .int 0, .int 0, .int 0, .int 0])), (q0, zI cs 12), (q1, .inl (cs 0, 12, .inl (upd (upd (upd (upd (upd (upd (upd (upd (upd (fun _ => 0) 0 1) 1 2) 2 3) 3 1) 4 0) 5 1) 6 1) 7 2) 8 3)))]) (n' := 2) (k' := 24) rfl rfl rfl ?_
  refine N_dup dX3_init_56 rfl ?_
  refine N_bipush (v := 9) dX3_init_57 (by decide) ?_
  refine N_iconst (v := 1) dX3_init_59 (by decide) ?_
  refine N_iast (q0 := 2) (N := 12) (f := (upd (upd (upd (upd (upd (upd (upd (upd (upd (fun _ => 0) 0 1) 1 2) 2 3) 3 1) 4 0) 5 1) 6 1) 7 2) 8 3)) dX3_init_60 rfl (by unfold vp_in; decide) ?_
  refine N_w (ws' := [(h0, .inr (3, [.ref q0, .null, .null, .null, .null, .null, .int 0, .int 0, .int 0, .int 0, .int 0, .int 0, .int 0])), (q0, zI cs 12), (q1, .inl (cs 0, 12, .inl (upd (upd (upd (upd (upd (upd (upd (upd (upd (upd (fun _ => 0) 0 1) 1 2) 2 3) 3 1) 4 0) 5 1) 6 1) 7 2) 8 3) 9 1)))]) (n' := 2) (k' := 24) rfl rfl rfl ?_
  refine N_dup dX3_init_61 rfl ?_
  refine N_bipush (v := 10) dX3_init_62 (by decide) ?_
  refine N_iconst (v := 0) dX3_init_64 (by decide) ?_
  refine N_iast (q0 := 2) (N := 12) (f := (upd (upd (upd (upd (upd (upd (upd (upd (upd (upd (fun _ => 0) 0 1) 1 2) 2 3) 3 1) 4 0) 5 1) 6 1) 7 2) 8 3) 9 1)) dX3_init_65 rfl (by unfold vp_in; decide) ?_
  refine N_w (ws' := [(h0, .inr (3, [.ref q0, .null, .null, .null, .null, .null, .int 0, .int 0, .int 0, .int 0, .int 0, .int 0, .int 0])), (q0, zI cs 12), (q1, .inl (cs 0, 12, .inl (upd (upd (upd (upd (upd (upd (upd (upd (upd (upd (upd (fun _ => 0) 0 1) 1 2) 2 3) 3 1) 4 0) 5 1) 6 1) 7 2) 8 3) 9 1) 10 0)))]) (n' := 2) (k' := 24) rfl rfl rfl ?_
  refine N_dup dX3_init_66 rfl ?_
  refine N_bipush (v := 11) dX3_init_67 (by decide) ?_
  refine N_iconst (v := 1) dX3_init_69 (by decide) ?_
  refine N_iast (q0 := 2) (N := 12) (f := (upd (upd (upd (upd (upd (upd (upd (upd (upd (upd (upd (fun _ => 0) 0 1) 1 2) 2 3) 3 1) 4 0) 5 1) 6 1) 7 2) 8 3) 9 1) 10 0)) dX3_init_70 rfl (by unfold vp_in; decide) ?_
  refine N_w (ws' := [(h0, .inr (3, [.ref q0, .null, .null, .null, .null, .null, .int 0, .int 0, .int 0, .int 0, .int 0, .int 0, .int 0])), (q0, zI cs 12), (q1, .inl (cs 0, 12, .inl (upd (upd (upd (upd (upd (upd (upd (upd (upd (upd (upd (upd (fun _ => 0) 0 1) 1 2) 2 3) 3 1) 4 0) 5 1) 6 1) 7 2) 8 3) 9 1) 10 0) 11 1)))]) (n' := 2) (k' := 24) rfl rfl rfl ?_
  refine N_putF (q0 := 0) (v := .ref q1) dX3_init_71 fa_RX3_15 fq_3_1 rfl (by rfl) (by rfl) (Nat.le_of_ble_eq_true rfl) ?_
  refine N_w (ws' := [(h0, .inr (3, [.ref q0, .ref q1, .null, .null, .null, .null, .int 0, .int 0, .int 0, .int 0, .int 0, .int 0, .int 0])), (q0, zI cs 12), (q1, .inl (cs 0, 12, .inl (upd (upd (upd (upd (upd (upd (upd (upd (upd (upd (upd (upd (fun _ => 0) 0 1) 1 2) 2 3) 3 1) 4 0) 5 1) 6 1) 7 2) 8 3) 9 1) 10 0) 11 1)))]) (n' := 2) (k' := 24) rfl rfl rfl ?_
  refine N_aload_n dX3_init_74 rfl 0 rfl ?_
  refine N_iconst (v := 3) dX3_init_75 (by decide) ?_
  refine N_newI (v := 3) (N := 3) dX3_init_76 (by decide) (by decide) (by decide) (Nat.le_of_ble_eq_true rfl) (Nat.le_of_ble_eq_true rfl) (fun q2 => ?_)
  refine N_w (ws' := [(h0, .inr (3, [.ref q0, .ref q1, .null, .null, .null, .null, .int 0, .int 0, .int 0, .int 0, .int 0, .int 0, .int 0])), (q0, zI cs 12), (q1, .inl (cs 0, 12, .inl (upd (upd (upd (upd (upd (upd (upd (upd (upd (upd (upd (upd (fun _ => 0) 0 1) 1 2) 2 3) 3 1) 4 0) 5 1) 6 1) 7 2) 8 3) 9 1) 10 0) 11 1))), (q2, zI cs 3)]) (n' := 3) (k' := 27) rfl rfl rfl ?_
  refine N_dup dX3_init_78 rfl ?_
  refine N_iconst (v := 0) dX3_init_79 (by decide) ?_
  refine N_iconst (v := 0) dX3_init_80 (by decide) ?_
  refine N_iast (q0 := 3) (N := 3) (f := (fun _ => 0)) dX3_init_81 rfl (by unfold vp_in; decide) ?_
  refine N_w (ws' := [(h0, .inr (3, [.ref q0, .ref q1, .null, .null, .null, .null, .int 0, .int 0, .int 0, .int 0, .int 0, .int 0, .int 0])), (q0, zI cs 12), (q1, .inl (cs 0, 12, .inl (upd (upd (upd (upd (upd (upd (upd (upd (upd (upd (upd (upd (fun _ => 0) 0 1) 1 2) 2 3) 3 1) 4 0) 5 1) 6 1) 7 2) 8 3) 9 1) 10 0) 11 1))), (q2, .inl (cs 0, 3, .inl (upd (fun _ => 0) 0 0)))]) (n' := 3) (k' := 27) rfl rfl rfl ?_
  refine N_dup dX3_init_82 rfl ?_
  refine N_iconst (v := 1) dX3_init_83 (by decide) ?_
  refine N_iconst (v := 1) dX3_init_84 (by decide) ?_
  refine N_iast (q0 := 3) (N := 3) (f := (upd (fun _ => 0) 0 0)) dX3_init_85 rfl (by unfold vp_in; decide) ?_
  refine N_w (ws' := [(h0, .inr (3, [.ref q0, .ref q1, .null, .null, .null, .null, .int 0, .int 0, .int 0, .int 0, .int 0, .int 0, .int 0])), (q0, zI cs 12), (q1, .inl (cs 0, 12, .inl (upd (upd (upd (upd (upd (upd (upd (upd (upd (upd (upd (upd (fun _ => 0) 0 1) 1 2) 2 3) 3 1) 4 0) 5 1) 6 1) 7 2) 8 3) 9 1) 10 0) 11 1))), (q2, .inl (cs 0, 3, .inl (upd (upd (fun _ => 0) 0 0) 1 1)))]) (n' := 3) (k' := 27) rfl rfl rfl ?_
  refine N_dup dX3_init_86 rfl ?_
  refine N_iconst (v := 2) dX3_init_87 (by decide) ?_
  refine N_iconst (v := 0) dX3_init_88 (by decide) ?_
  refine N_iast (q0 := 3) (N := 3) (f := (upd (upd (fun _ => 0) 0 0) 1 1)) dX3_init_89 rfl (by unfold vp_in; decide) ?_
  refine N_w (ws' := [(h0, .inr (3, [.ref q0, .ref q1, .null, .null, .null, .null, .int 0, .int 0, .int 0, .int 0, .int 0, .int 0, .int 0])), (q0, zI cs 12), (q1, .inl (cs 0, 12, .inl (upd (upd (upd (upd (upd (upd (upd (upd (upd (upd (upd (upd (fun _ => 0) 0 1) 1 2) 2 3) 3 1) 4 0) 5 1) 6 1) 7 2) 8 3) 9 1) 10 0) 11 1))), (q2, .inl (cs 0, 3, .inl (upd (upd (upd (fun _ => 0) 0 0) 1 1) 2 0)))]) (n' := 3) (k' := 27) rfl rfl rfl ?_
  refine N_putF (q0 := 0) (v := .ref q2) dX3_init_90 fa_RX3_18 fq_3_2 rfl (by rfl) (by rfl) (Nat.le_of_ble_eq_true rfl) ?_
  refine N_w (ws' := [(h0, .inr (3, [.ref q0, .ref q1, .ref q2, .null, .null, .null, .int 0, .int 0, .int 0, .int 0, .int 0, .int 0, .int 0])), (q0, zI cs 12), (q1, .inl (cs 0, 12, .inl (upd (upd (upd (upd (upd (upd (upd (upd (upd (upd (upd (upd (fun _ => 0) 0 1) 1 2) 2 3) 3 1) 4 0) 5 1) 6 1) 7 2) 8 3) 9 1) 10 0) 11 1))), (q2, .inl (cs 0, 3, .inl (upd (upd (upd (fun _ => 0) 0 0) 1 1) 2 0)))]) (n' := 3) (k' := 27) rfl rfl rfl ?_
  refine N_aload_n dX3_init_93 rfl 0 rfl ?_
  refine N_sipush (v := 300) dX3_init_94 (by decide) ?_
  refine N_newI (v := 300) (N := 300) dX3_init_97 (by decide) (by decide) (by decide) (Nat.le_of_ble_eq_true rfl) (Nat.le_of_ble_eq_true rfl) (fun q3 => ?_)
  refine N_w (ws' := [(h0, .inr (3, [.ref q0, .ref q1, .ref q2, .null, .null, .null, .int 0, .int 0, .int 0, .int 0, .int 0, .int 0, .int 0])), (q0, zI cs 12), (q1, .inl (cs 0, 12, .inl (upd (upd (upd (upd (upd (upd (upd (upd (upd (upd (upd (upd (fun _ => 0) 0 1) 1 2) 2 3) 3 1) 4 0) 5 1) 6 1) 7 2) 8 3) 9 1) 10 0) 11 1))), (q2, .inl (cs 0, 3, .inl (upd (upd (upd (fun _ => 0) 0 0) 1 1) 2 0))), (q3, zI cs 300)]) (n' := 4) (k' := 327) rfl rfl rfl ?_
  refine N_putF (q0 := 0) (v := .ref q3) dX3_init_99 fa_RX3_21 fq_3_3 rfl (by rfl) (by rfl) (Nat.le_of_ble_eq_true rfl) ?_
  refine N_w (ws' := [(h0, .inr (3, [.ref q0, .ref q1, .ref q2, .ref q3, .null, .null, .int 0, .int 0, .int 0, .int 0, .int 0, .int 0, .int 0])), (q0, zI cs 12), (q1, .inl (cs 0, 12, .inl (upd (upd (upd (upd (upd (upd (upd (upd (upd (upd (upd (upd (fun _ => 0) 0 1) 1 2) 2 3) 3 1) 4 0) 5 1) 6 1) 7 2) 8 3) 9 1) 10 0) 11 1))), (q2, .inl (cs 0, 3, .inl (upd (upd (upd (fun _ => 0) 0 0) 1 1) 2 0))), (q3, zI cs 300)]) (n' := 4) (k' := 327) rfl rfl rfl ?_
  refine N_aload_n dX3_init_102 rfl 0 rfl ?_
  refine N_bipush (v := 36) dX3_init_103 (by decide) ?_
  refine N_newI (v := 36) (N := 36) dX3_init_105 (by decide) (by decide) (by decide) (Nat.le_of_ble_eq_true rfl) (Nat.le_of_ble_eq_true rfl) (fun q4 => ?_)
  refine N_w (ws' := [(h0, .inr (3, [.ref q0, .ref q1, .ref q2, .ref q3, .null, .null, .int 0, .int 0, .int 0, .int 0, .int 0, .int 0, .int 0])), (q0, zI cs 12), (q1, .inl (cs 0, 12, .inl (upd (upd (upd (upd (upd (upd (upd (upd (upd (upd (upd (upd (fun _ => 0) 0 1) 1 2) 2 3) 3 1) 4 0) 5 1) 6 1) 7 2) 8 3) 9 1) 10 0) 11 1))), (q2, .inl (cs 0, 3, .inl (upd (upd (upd (fun _ => 0) 0 0) 1 1) 2 0))), (q3, zI cs 300), (q4, zI cs 36)]) (n' := 5) (k' := 363) rfl rfl rfl ?_
  refine N_putF (q0 := 0) (v := .ref q4) dX3_init_107 fa_RX3_24 fq_3_4 rfl (by rfl) (by rfl) (Nat.le_of_ble_eq_true rfl) ?_
  refine N_w (ws' := [(h0, .inr (3, [.ref q0, .ref q1, .ref q2, .ref q3, .ref q4, .null, .int 0, .int 0, .int 0, .int 0, .int 0, .int 0, .int 0])), (q0, zI cs 12), (q1, .inl (cs 0, 12, .inl (upd (upd (upd (upd (upd (upd (upd (upd (upd (upd (upd (upd (fun _ => 0) 0 1) 1 2) 2 3) 3 1) 4 0) 5 1) 6 1) 7 2) 8 3) 9 1) 10 0) 11 1))), (q2, .inl (cs 0, 3, .inl (upd (upd (upd (fun _ => 0) 0 0) 1 1) 2 0))), (q3, zI cs 300), (q4, zI cs 36)]) (n' := 5) (k' := 363) rfl rfl rfl ?_
  refine N_aload_n dX3_init_110 rfl 0 rfl ?_
  refine N_bipush (v := 15) dX3_init_111 (by decide) ?_
  refine N_newI (v := 15) (N := 15) dX3_init_113 (by decide) (by decide) (by decide) (Nat.le_of_ble_eq_true rfl) (Nat.le_of_ble_eq_true rfl) (fun q5 => ?_)
  refine N_w (ws' := [(h0, .inr (3, [.ref q0, .ref q1, .ref q2, .ref q3, .ref q4, .null, .int 0, .int 0, .int 0, .int 0, .int 0, .int 0, .int 0])), (q0, zI cs 12), (q1, .inl (cs 0, 12, .inl (upd (upd (upd (upd (upd (upd (upd (upd (upd (upd (upd (upd (fun _ => 0) 0 1) 1 2) 2 3) 3 1) 4 0) 5 1) 6 1) 7 2) 8 3) 9 1) 10 0) 11 1))), (q2, .inl (cs 0, 3, .inl (upd (upd (upd (fun _ => 0) 0 0) 1 1) 2 0))), (q3, zI cs 300), (q4, zI cs 36), (q5, zI cs 15)]) (n' := 6) (k' := 378) rfl rfl rfl ?_
  refine N_putF (q0 := 0) (v := .ref q5) dX3_init_115 fa_RX3_27 fq_3_5 rfl (by rfl) (by rfl) (Nat.le_of_ble_eq_true rfl) ?_
  refine N_w (ws' := [(h0, .inr (3, [.ref q0, .ref q1, .ref q2, .ref q3, .ref q4, .ref q5, .int 0, .int 0, .int 0, .int 0, .int 0, .int 0, .int 0])), (q0, zI cs 12), (q1, .inl (cs 0, 12, .inl (upd (upd (upd (upd (upd (upd (upd (upd (upd (upd (upd (upd (fun _ => 0) 0 1) 1 2) 2 3) 3 1) 4 0) 5 1) 6 1) 7 2) 8 3) 9 1) 10 0) 11 1))), (q2, .inl (cs 0, 3, .inl (upd (upd (upd (fun _ => 0) 0 0) 1 1) 2 0))), (q3, zI cs 300), (q4, zI cs 36), (q5, zI cs 15)]) (n' := 6) (k' := 378) rfl rfl rfl ?_
  exact N_ret dX3_init_118 rfl rfl rfl ⟨q0, q1, q2, q3, q4, q5, rfl⟩
set_option maxHeartbeats 4000000 in
set_option maxRecDepth 100000 in
theorem c_X4_init (D : va_G) (cs : Nat → ClassId) (h0 : Nat) (p1 : Nat) (p2 : Int32) : NC D cs 1 7 919 mX4_init [.ref h0, .ref p1, .int p2] [(h0, .inr (4, [.null, .int 0, .null, .null, .null, .null, .null, .null, .null, .int 0, .int 0]))] (fun ws => ∃ q0 q1 q2 q3 q4 q5 q6 : Nat, ws = [(h0, .inr (4, [.ref p1, .int p2, .ref q0, .ref q1, .ref q2, .ref q3, .ref q4, .ref q5, .ref q6, .int (-1), .int 0])), (q0, zL cs 156), (q1, zL cs 576), (q2, zI cs 60), (q3, zI cs 49), (q4, zI cs 60), (q5, zL cs 9), (q6, zL cs 9)]) := by
  refine NC.of (by decide) rfl (Nat.le_of_ble_eq_true rfl) ?_
  show NW D cs 1 7 919 mX4_init 0 [(0, .ref h0), (1, .ref p1), (2, .int p2)] [] [(h0, .inr (4, [.null, .int 0, .null, .null, .null, .null, .null, .null, .null, .int 0, .int 0]))] 0 0 _
  refine N_aload_n dX4_init_0 rfl 0 rfl ?_
  refine N_obj dX4_init_1 ob_RX4 (by decide) ?_
  refine N_aload_n dX4_init_4 rfl 0 rfl ?_
  refine N_sipush (v := 156) dX4_init_5 (by decide) ?_
  refine N_newL (v := 156) (N := 156) dX4_init_8 (by decide) (by decide) (by decide) (Nat.le_of_ble_eq_true rfl) (Nat.le_of_ble_eq_true rfl) (fun q0 => ?_)
  refine N_w (ws' := [(h0, .inr (4, [.null, .int 0, .null, .null, .null, .null, .null, .null, .null, .int 0, .int 0])), (q0, zL cs 156)]) (n' := 1) (k' := 156) rfl rfl rfl ?_
  refine N_putF (q0 := 0) (v := .ref q0) dX4_init_10 fa_RX4_9 fq_4_2 rfl (by rfl) (by rfl) (Nat.le_of_ble_eq_true rfl) ?_
  refine N_w (ws' := [(h0, .inr (4, [.null, .int 0, .ref q0, .null, .null, .null, .null, .null, .null, .int 0, .int 0])), (q0, zL cs 156)]) (n' := 1) (k' := 156) rfl rfl rfl ?_
  refine N_aload_n dX4_init_13 rfl 0 rfl ?_
  refine N_sipush (v := 576) dX4_init_14 (by decide) ?_
  refine N_newL (v := 576) (N := 576) dX4_init_17 (by decide) (by decide) (by decide) (Nat.le_of_ble_eq_true rfl) (Nat.le_of_ble_eq_true rfl) (fun q1 => ?_)
  refine N_w (ws' := [(h0, .inr (4, [.null, .int 0, .ref q0, .null, .null, .null, .null, .null, .null, .int 0, .int 0])), (q0, zL cs 156), (q1, zL cs 576)]) (n' := 2) (k' := 732) rfl rfl rfl ?_
  refine N_putF (q0 := 0) (v := .ref q1) dX4_init_19 fa_RX4_15 fq_4_3 rfl (by rfl) (by rfl) (Nat.le_of_ble_eq_true rfl) ?_
  refine N_w (ws' := [(h0, .inr (4, [.null, .int 0, .ref q0, .ref q1, .null, .null, .null, .null, .null, .int 0, .int 0])), (q0, zL cs 156), (q1, zL cs 576)]) (n' := 2) (k' := 732) rfl rfl rfl ?_
  refine N_aload_n dX4_init_22 rfl 0 rfl ?_
  refine N_bipush (v := 60) dX4_init_23 (by decide) ?_
  refine N_newI (v := 60) (N := 60) dX4_init_25 (by decide) (by decide) (by decide) (Nat.le_of_ble_eq_true rfl) (Nat.le_of_ble_eq_true rfl) (fun q2 => ?_)
  refine N_w (ws' := [(h0, .inr (4, [.null, .int 0, .ref q0, .ref q1, .null, .null, .null, .null, .null, .int 0, .int 0])), (q0, zL cs 156), (q1, zL cs 576), (q2, zI cs 60)]) (n' := 3) (k' := 792) rfl rfl rfl ?_
  refine N_putF (q0 := 0) (v := .ref q2) dX4_init_27 fa_RX4_18 fq_4_4 rfl (by rfl) (by rfl) (Nat.le_of_ble_eq_true rfl) ?_
  refine N_w (ws' := [(h0, .inr (4, [.null, .int 0, .ref q0, .ref q1, .ref q2, .null, .null, .null, .null, .int 0, .int 0])), (q0, zL cs 156), (q1, zL cs 576), (q2, zI cs 60)]) (n' := 3) (k' := 792) rfl rfl rfl ?_
  refine N_aload_n dX4_init_30 rfl 0 rfl ?_
  refine N_bipush (v := 49) dX4_init_31 (by decide) ?_
  refine N_newI (v := 49) (N := 49) dX4_init_33 (by decide) (by decide) (by decide) (Nat.le_of_ble_eq_true rfl) (Nat.le_of_ble_eq_true rfl) (fun q3 => ?_)
  refine N_w (ws' := [(h0, .inr (4, [.null, .int 0, .ref q0, .ref q1, .ref q2, .null, .null, .null, .null, .int 0, .int 0])), (q0, zL cs 156), (q1, zL cs 576), (q2, zI cs 60), (q3, zI cs 49)]) (n' := 4) (k' := 841) rfl rfl rfl ?_
  refine N_putF (q0 := 0) (v := .ref q3) dX4_init_35 fa_RX4_22 fq_4_5 rfl (by rfl) (by rfl) (Nat.le_of_ble_eq_true rfl) ?_
  refine N_w (ws' := [(h0, .inr (4, [.null, .int 0, .ref q0, .ref q1, .ref q2, .ref q3, .null, .null, .null, .int 0, .int 0])), (q0, zL cs 156), (q1, zL cs 576), (q2, zI cs 60), (q3, zI cs 49)]) (n' := 4) (k' := 841) rfl rfl rfl ?_
  refine N_aload_n dX4_init_38 rfl 0 rfl ?_
  refine N_bipush (v := 60) dX4_init_39 (by decide) ?_
  refine N_newI (v := 60) (N := 60) dX4_init_41 (by decide) (by decide) (by decide) (Nat.le_of_ble_eq_true rfl) (Nat.le_of_ble_eq_true rfl) (fun q4 => ?_)
  refine N_w (ws' := [(h0, .inr (4, [.null, .int 0, .ref q0, .ref q1, .ref q2, .ref q3, .null, .null, .null, .int 0, .int 0])), (q0, zL cs 156), (q1, zL cs 576), (q2, zI cs 60), (q3, zI cs 49), (q4, zI cs 60)]) (n' := 5) (k' := 901) rfl rfl rfl ?_
  refine N_putF (q0 := 0) (v := .ref q4) dX4_init_43 fa_RX4_25 fq_4_6 rfl (by rfl) (by rfl) (Nat.le_of_ble_eq_true rfl) ?_
  refine N_w (ws' := [(h0, .inr (4, [.null, .int 0, .ref q0, .ref q1, .ref q2, .ref q3, .ref q4, .null, .null, .int 0, .int 0])), (q0, zL cs 156), (q1, zL cs 576), (q2, zI cs 60), (q3, zI cs 49), (q4, zI cs 60)]) (n' := 5) (k' := 901) rfl rfl rfl ?_
  refine N_aload_n dX4_init_46 rfl 0 rfl ?_
  refine N_bipush (v := 9) dX4_init_47 (by decide) ?_
  refine N_newL (v := 9) (N := 9) dX4_init_49 (by decide) (by decide) (by decide) (Nat.le_of_ble_eq_true rfl) (Nat.le_of_ble_eq_true rfl) (fun q5 => ?_)
  refine N_w (ws' := [(h0, .inr (4, [.null, .int 0, .ref q0, .ref q1, .ref q2, .ref q3, .ref q4, .null, .null, .int 0, .int 0])), (q0, zL cs 156), (q1, zL cs 576), (q2, zI cs 60), (q3, zI cs 49), (q4, zI cs 60), (q5, zL cs 9)]) (n' := 6) (k' := 910) rfl rfl rfl ?_
  refine N_putF (q0 := 0) (v := .ref q5) dX4_init_51 fa_RX4_28 fq_4_7 rfl (by rfl) (by rfl) (Nat.le_of_ble_eq_true rfl) ?_
  refine N_w (ws' := [(h0, .inr (4, [.null, .int 0, .ref q0, .ref q1, .ref q2, .ref q3, .ref q4, .ref q5, .null, .int 0, .int 0])), (q0, zL cs 156), (q1, zL cs 576), (q2, zI cs 60), (q3, zI cs 49), (q4, zI cs 60), (q5, zL cs 9)]) (n' := 6) (k' := 910) rfl rfl rfl ?_
  refine N_aload_n dX4_init_54 rfl 0 rfl ?_
  refine N_bipush (v := 9) dX4_init_55 (by decide) ?_
  refine N_newL (v := 9) (N := 9) dX4_init_57 (by decide) (by decide) (by decide) (Nat.le_of_ble_eq_true rfl) (Nat.le_of_ble_eq_true rfl) (fun q6 => ?_)
  refine N_w (ws' := [(h0, .inr (4, [.null, .int 0, .ref q0, .ref q1, .ref q2, .ref q3, .ref q4, .ref q5, .null, .int 0, .int 0])), (q0, zL cs 156), (q1, zL cs 576), (q2, zI cs 60), (q3, zI cs 49), (q4, zI cs 60), (q5, zL cs 9), (q6, zL cs 9)]) (n' := 7) (k' := 919) rfl rfl rfl ?_
  refine N_putF (q0 := 0) (v := .ref q6) dX4_init_59 fa_RX4_31 fq_4_8 rfl (by rfl) (by rfl) (Nat.le_of_ble_eq_true rfl) ?_
  refine N_w (ws' := [(h0, .inr (4, [.null, .int 0, .ref q0, .ref q1, .ref q2, .ref q3, .ref q4, .ref q5, .ref q6, .int 0, .int 0])), (q0, zL cs 156), (q1, zL cs 576), (q2, zI cs 60), (q3, zI cs 49), (q4, zI cs 60), (q5, zL cs 9), (q6, zL cs 9)]) (n' := 7) (k' := 919) rfl rfl rfl ?_
  refine N_aload_n dX4_init_62 rfl 0 rfl ?_
  refine N_iconst (v := -1) dX4_init_63 (by decide) ?_
  refine N_put (q0 := 0) (v := .int (-1)) dX4_init_64 fa_RX4_34 fp_4_9 rfl (by rfl) (by rfl) (Nat.le_of_ble_eq_true rfl) ?_
  refine N_w (ws' := [(h0, .inr (4, [.null, .int 0, .ref q0, .ref q1, .ref q2, .ref q3, .ref q4, .ref q5, .ref q6, .int (-1), .int 0])), (q0, zL cs 156), (q1, zL cs 576), (q2, zI cs 60), (q3, zI cs 49), (q4, zI cs 60), (q5, zL cs 9), (q6, zL cs 9)]) (n' := 7) (k' := 919) rfl rfl rfl ?_
  refine N_aload_n dX4_init_67 rfl 0 rfl ?_
  refine N_aload_n dX4_init_68 rfl 1 rfl ?_
  refine N_putF (q0 := 0) (v := .ref p1) dX4_init_69 fa_RX4_38 fq_4_0 rfl (by rfl) (by rfl) (Nat.le_of_ble_eq_true rfl) ?_
  refine N_w (ws' := [(h0, .inr (4, [.ref p1, .int 0, .ref q0, .ref q1, .ref q2, .ref q3, .ref q4, .ref q5, .ref q6, .int (-1), .int 0])), (q0, zL cs 156), (q1, zL cs 576), (q2, zI cs 60), (q3, zI cs 49), (q4, zI cs 60), (q5, zL cs 9), (q6, zL cs 9)]) (n' := 7) (k' := 919) rfl rfl rfl ?_
  refine N_aload_n dX4_init_72 rfl 0 rfl ?_
  refine N_iload_n dX4_init_73 rfl 2 rfl ?_
  refine N_putF (q0 := 0) (v := .int p2) dX4_init_74 fa_RX4_42 fq_4_1 rfl (by rfl) (by rfl) (Nat.le_of_ble_eq_true rfl) ?_
  refine N_w (ws' := [(h0, .inr (4, [.ref p1, .int p2, .ref q0, .ref q1, .ref q2, .ref q3, .ref q4, .ref q5, .ref q6, .int (-1), .int 0])), (q0, zL cs 156), (q1, zL cs 576), (q2, zI cs 60), (q3, zI cs 49), (q4, zI cs 60), (q5, zL cs 9), (q6, zL cs 9)]) (n' := 7) (k' := 919) rfl rfl rfl ?_
  exact N_ret dX4_init_77 rfl rfl rfl ⟨q0, q1, q2, q3, q4, q5, q6, rfl⟩
