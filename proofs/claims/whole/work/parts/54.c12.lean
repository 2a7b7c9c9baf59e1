def cFed (μ : Mem) (y : BitVec 64) : Nat → Mem
  | 0 => μ
  | i + 1 => putI (putI (cFed μ y i) 37 (μ.1 8 2 + (i : Int)) (byteN y i)) 8 2 (μ.1 8 2 + (i : Int) + 1)
theorem cFed_2 (μ : Mem) (y : BitVec 64) : ∀ i, (cFed μ y i).1 8 2 = μ.1 8 2 + (i : Int)
  | 0 => by simp [cFed]
  | i + 1 => by
    show (putI _ 8 2 _).1 8 2 = _
    rw [putI_self]
    omega
theorem byte_n (y : BitVec 64) (j : Nat) : (((y >>> (8 * j)).toNat &&& 255 : Nat) : Int) = byteN y j := by
  unfold byteN
  rw [BitVec.toNat_and]
  rfl
set_option maxHeartbeats 1000000 in
set_option maxRecDepth 100000 in
theorem l_X1_append {μ : Mem} {n : Int} {y : BitVec 64} (hL : 0 ≤ μ.1 8 2 ∧ μ.1 8 2 + n ≤ 80) (hn : 1 ≤ n ∧ n ≤ 8) : ∀ (m j : Nat) (t : Int), t = (j : Int) → j ≤ n.toNat → n.toNat - j < m → PW shC 0 mX1_append 3 [(0, vr 8), (1, vi n), (2, vl y), (4, vi t)] [] (cFed μ y j) (QI (fun z μ' => z = μ.1 8 2 + n ∧ μ' = cFed μ y n.toNat)) := by
  intro m
  induction m with
  | zero => intro j t _ _ q; omega
  | succ m ih =>
  intro j t ht hj hn2
  have g1 := cFed_2 μ y j
  have e8 : (8 * t).toNat = 8 * j := by omega
  refine P_iload (pc := 3) dX1_append_3 3 rfl ?_
  refine P_iload_n (pc := 5) dX1_append_5 rfl 1 rfl ?_
  refine P_icmp_ge (tgt := 58) (pc := 6) dX1_append_6 (by decide) (by first | assumption | (unfold InR; omega)) (by first | assumption | (unfold InR; omega)) (fun c_6 => ?_) (fun c_6 => ?_)
  · refine P_aload_n (pc := 58) dX1_append_58 rfl 0 rfl ?_
    refine P_getI (jj := 2) (pc := 59) dX1_append_59 fa_RX1_19 sC_8 fC8_2 rfl ?_
    try simp (disch := decide) only [putI_ne, putI_self, putI_nej]
    exact P_iret (pc := 62) dX1_append_62 rfl (QI.mk (by first | (exfalso; omega) | (refine ⟨?_, ?_⟩; omega; have e9 : j = n.toNat := (by omega); rw [e9])))
  · refine P_aload_n (pc := 9) dX1_append_9 rfl 0 rfl ?_
    refine P_getI (jj := 2) (pc := 10) dX1_append_10 fa_RX1_19 sC_8 fC8_2 rfl ?_
    try simp (disch := decide) only [putI_ne, putI_self, putI_nej]
    refine P_aload_n (pc := 13) dX1_append_13 rfl 0 rfl ?_
    refine P_getR (pc := 14) dX1_append_14 fa_RX1_9 sC_8 fC8_1 ?_
    refine P_alen (pc := 17) dX1_append_17 sC_37 (by decide) ?_
    refine P_icmp_ge (tgt := 58) (pc := 18) dX1_append_18 (by decide) (by first | assumption | (unfold InR; omega)) (by first | assumption | (unfold InR; omega)) (fun c_18 => ?_) (fun c_18 => ?_)
    · refine P_aload_n (pc := 58) dX1_append_58 rfl 0 rfl ?_
      refine P_getI (jj := 2) (pc := 59) dX1_append_59 fa_RX1_19 sC_8 fC8_2 rfl ?_
      try simp (disch := decide) only [putI_ne, putI_self, putI_nej]
      exact P_iret (pc := 62) dX1_append_62 rfl (QI.mk (by first | (exfalso; omega) | (refine ⟨?_, ?_⟩; omega; have e9 : j = n.toNat := (by omega); rw [e9])))
    · refine P_aload_n (pc := 21) dX1_append_21 rfl 0 rfl ?_
      refine P_getR (pc := 22) dX1_append_22 fa_RX1_9 sC_8 fC8_1 ?_
      refine P_aload_n (pc := 25) dX1_append_25 rfl 0 rfl ?_
      refine P_getI (jj := 2) (pc := 26) dX1_append_26 fa_RX1_19 sC_8 fC8_2 rfl ?_
      try simp (disch := decide) only [putI_ne, putI_self, putI_nej]
      refine P_lload_n (pc := 29) dX1_append_29 rfl 2 rfl ?_
      refine P_bipush (pc := 30) dX1_append_30 (by decide) ?_
      refine P_iload (pc := 32) dX1_append_32 3 rfl ?_
      refine P_imul (pc := 34) dX1_append_34 ?_
      refine P_lushr (pc := 35) dX1_append_35 (by omega) (by omega) ?_
      refine P_l2i (pc := 36) dX1_append_36 (wL_2i _) ?_
      refine P_sipush (pc := 37) dX1_append_37 (by decide) ?_
      refine P_iand (pc := 40) dX1_append_40 (wN_and (b := 255)) ?_
      refine P_iast (pc := 41) dX1_append_41 sC_37 (by omega) (by omega) (by decide) ?_
      try simp (disch := decide) only [putI_ne, putI_self, putI_nej]
      refine P_aload_n (pc := 42) dX1_append_42 rfl 0 rfl ?_
      refine P_dup (pc := 43) dX1_append_43 rfl ?_
      refine P_getI (jj := 2) (pc := 44) dX1_append_44 fa_RX1_19 sC_8 fC8_2 rfl ?_
      try simp (disch := decide) only [putI_ne, putI_self, putI_nej]
      refine P_iconst (pc := 47) dX1_append_47 ?_
      refine P_iadd (pc := 48) dX1_append_48 ?_
      refine P_putI (jj := 2) (pc := 49) dX1_append_49 fa_RX1_19 fp_1_2 sC_8 fC8_2 rfl ?_
      try simp (disch := decide) only [putI_ne, putI_self, putI_nej]
      refine P_iinc (L' := [(4, vi _), (0, vr 8), (1, vi _), (2, vl _)]) (pc := 52) dX1_append_52 (by decide) 3 rfl rfl ?_
      refine P_goto (tgt := 3) (pc := 55) dX1_append_55 (by decide) ?_
      refine P_sub (L' := [(0, vr 8), (1, vi _), (2, vl _), (4, vi _)]) [1, 2, 3, 0] rfl ?_
      refine P_cast (L' := [(0, vr 8), (1, vi n), (2, vl y), (4, vi (t + 1))]) rfl ?_ (ih (j + 1) (t + 1) (by omega) (by omega) (by omega))
      rw [e8, byte_n]
      simp only [putI_ne (show (8 : Nat) ≠ 37 by decide), g1]
      rfl
set_option maxHeartbeats 1000000 in
set_option maxRecDepth 100000 in
theorem c_X1_append {μ : Mem} {n : Int} {y : BitVec 64} (hL : 0 ≤ μ.1 8 2 ∧ μ.1 8 2 + n ≤ 80) (hn : 1 ≤ n ∧ n ≤ 8) : PC shC 0 mX1_append [vr 8, vi n, vl y] (μ) (QI (fun z μ' => z = μ.1 8 2 + n ∧ μ' = cFed μ y n.toNat)) := by
  refine PC.of (by decide +kernel) (Nat.le_of_ble_eq_true rfl) ?_
  refine P_sub (L' := [(0, vr 8), (1, vi n), (2, vl y)]) [0, 1, 2] rfl ?_
  refine P_iconst (pc := 0) dX1_append_0 ?_
  refine P_istore (L' := [(4, vi _), (0, vr 8), (1, vi _), (2, vl _)]) (pc := 1) dX1_append_1 (by decide) rfl ?_
  refine P_sub (L' := [(0, vr 8), (1, vi _), (2, vl _), (4, vi _)]) [1, 2, 3, 0] rfl ?_
  exact l_X1_append hL hn (n.toNat + 1) 0 0 rfl (Nat.zero_le _) (by omega)
