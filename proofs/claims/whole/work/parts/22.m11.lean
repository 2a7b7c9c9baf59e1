theorem p2t {t : Int} (h0 : 0 ≤ t) (h1 : t < 31) : 0 ≤ 1 * (2 : Int) ^ t.toNat ∧ 1 * (2 : Int) ^ t.toNat < 2147483648 ∧ (1 * (2 : Int) ^ t.toNat).toNat = 2 ^ t.toNat := by
  rw [Int.one_mul, pow2T]
  have h2 : (0 : Int) < 2 ^ t.toNat := Int.pow_pos (by omega)
  have h3 : ((2 : Int) ^ t.toNat).toNat < 2 ^ 31 := by rw [pow2T]; exact Nat.pow_lt_pow_right (by decide) (by omega)
  exact ⟨by omega, by omega, rfl⟩
theorem cnt_s (p : Nat → Bool) (n : Nat) : cnt p (n + 1) = cnt p n + (if p n = true then 1 else 0) := rfl
theorem clN_s (X : Cel) {n : Nat} {t : Int} (ht : t = (n : Int)) : clN X (n + 1) = clN X n ||| (if X 13 t = 0 then 2 ^ t.toNat else 0) := by subst ht; rfl
set_option maxHeartbeats 1000000 in
set_option maxRecDepth 100000 in
theorem l_X6_bits {μ : Mem} {s : Int} (hs : 0 ≤ s ∧ s < 2147483648) : ∀ (n j : Nat) (k : Int), k = (j : Int) → j ≤ 31 → 31 - j < n → PW shM 0 mX6_bits 4 [(0, vi s), (1, vi (cnt (fun k => s.toNat.testBit k) j : Int)), (2, vi k)] [] μ (QI (fun z μ' => z = (cnt (fun k => s.toNat.testBit k) 31 : Int) ∧ μ' = μ)) := by
  intro n
  induction n with
  | zero => intro j k _ _ q; omega
  | succ n ih =>
  intro j k hk hj hn
  have d1 := wdiv (w := s) (n := k.toNat) (by omega) (by omega)
  have g1 := cnt_s (fun k => s.toNat.testBit k) j
  have g2 : ((s / 2 ^ k.toNat).toNat &&& 1 : Nat) = if s.toNat.testBit j then 1 else 0 := by rw [wbit hs.1 (by omega)]; subst hk; rfl
  refine P_iload_n (pc := 4) dX6_bits_4 rfl 2 rfl ?_
  refine P_bipush (pc := 5) dX6_bits_5 (by decide) ?_
  refine P_icmp_ge (tgt := 24) (pc := 7) dX6_bits_7 (by decide) (by unfold InR; omega) (by unfold InR; omega) (fun c_7 => ?_) (fun c_7 => ?_)
  · refine P_iload_n (pc := 24) dX6_bits_24 rfl 1 rfl ?_
    exact P_iret (pc := 25) dX6_bits_25 rfl (QI.mk (by have e9 : j = 31 := (by omega); subst e9; exact ⟨rfl, rfl⟩))
  · refine P_iload_n (pc := 10) dX6_bits_10 rfl 1 rfl ?_
    refine P_iload_n (pc := 11) dX6_bits_11 rfl 0 rfl ?_
    refine P_iload_n (pc := 12) dX6_bits_12 rfl 2 rfl ?_
    refine P_ishr (pc := 13) dX6_bits_13 (wI_shr _ (by omega) (by omega) (by omega) (by omega)) ?_
    refine P_iconst (pc := 14) dX6_bits_14 ?_
    refine P_iand (pc := 15) dX6_bits_15 (wI_and (by omega) (by omega) (by omega) (by omega)) ?_
    refine P_iadd (pc := 16) dX6_bits_16 ?_
    refine P_istore_n (L' := [(1, vi _), (0, vi _), (2, vi _)]) (pc := 17) dX6_bits_17 rfl (by decide) rfl ?_
    refine P_iinc (L' := [(2, vi _), (1, vi _), (0, vi _)]) (pc := 18) dX6_bits_18 (by decide) 2 rfl rfl ?_
    refine P_goto (tgt := 4) (pc := 21) dX6_bits_21 (by decide) ?_
    refine P_sub (L' := [(0, vi _), (1, vi _), (2, vi _)]) [2, 1, 0] rfl ?_
    refine P_cast (L' := [(0, vi s), (1, vi (cnt (fun k => s.toNat.testBit k) (j + 1) : Int)), (2, vi (k + 1))]) ?_ rfl (ih (j + 1) (k + 1) (by omega) (by omega) (by omega))
    simp only [oneT]
    rw [g1, g2]
    clear ih
    split <;> simp
set_option maxHeartbeats 1000000 in
set_option maxRecDepth 100000 in
theorem c_X6_bits {μ : Mem} {s : Int} (hs : 0 ≤ s ∧ s < 2147483648) : PC shM 0 mX6_bits [vi s] (μ) (QI (fun z μ' => z = (cnt (fun k => s.toNat.testBit k) 31 : Int) ∧ μ' = μ)) := by
  refine PC.of (by decide +kernel) (Nat.le_of_ble_eq_true rfl) ?_
  refine P_sub (L' := [(0, vi s)]) [0] rfl ?_
  refine P_iconst (pc := 0) dX6_bits_0 ?_
  refine P_istore_n (L' := [(1, vi _), (0, vi _)]) (pc := 1) dX6_bits_1 rfl (by decide) rfl ?_
  refine P_iconst (pc := 2) dX6_bits_2 ?_
  refine P_istore_n (L' := [(2, vi _), (1, vi _), (0, vi _)]) (pc := 3) dX6_bits_3 rfl (by decide) rfl ?_
  refine P_sub (L' := [(0, vi _), (1, vi _), (2, vi _)]) [2, 1, 0] rfl ?_
  exact l_X6_bits hs 32 0 0 rfl (by omega) (by omega)
set_option maxHeartbeats 1000000 in
set_option maxRecDepth 100000 in
theorem l_X6_cleanNow {μ : Mem} {X : Cel} (hX : XOK X) (h13 : μ.1 13 = X 13) (hT : 0 ≤ μ.1 0 11 ∧ μ.1 0 11 ≤ 12) : ∀ (n j : Nat) (t : Int), t = (j : Int) → j ≤ (μ.1 0 11).toNat → (μ.1 0 11).toNat - j < n → PW shM 0 mX6_cleanNow 4 [(0, vr 0), (1, vi (clN X j : Int)), (2, vi t)] [] μ (QI (fun z μ' => z = (clN X (μ.1 0 11).toNat : Int) ∧ μ' = μ)) := by
  intro n
  induction n with
  | zero => intro j k _ _ q; omega
  | succ n ih =>
  intro j t ht hj hn
  have g1 := clN_s X ht
  have g2 := hX.1 t
  have g3 := clN_lt X j
  have g4 : (2 : Nat) ^ j ≤ 2 ^ 12 := Nat.pow_le_pow_right (by decide) (by omega)
  have g5 : t < 31 → _ := fun q => p2t (t := t) (by omega) q
  refine P_iload_n (pc := 4) dX6_cleanNow_4 rfl 2 rfl ?_
  refine P_aload_n (pc := 5) dX6_cleanNow_5 rfl 0 rfl ?_
  refine P_getI (jj := 11) (pc := 6) dX6_cleanNow_6 fa_RX6_101 sM_0 fM0_11 rfl ?_
  try simp only [h13]
  refine P_icmp_ge (tgt := 37) (pc := 9) dX6_cleanNow_9 (by decide) (by unfold InR; omega) (by unfold InR; omega) (fun c_9 => ?_) (fun c_9 => ?_)
  · refine P_iload_n (pc := 37) dX6_cleanNow_37 rfl 1 rfl ?_
    exact P_iret (pc := 38) dX6_cleanNow_38 rfl (QI.mk (by have e9 : j = (μ.1 0 11).toNat := (by omega); rw [← e9]; exact ⟨rfl, rfl⟩))
  · refine P_iload_n (pc := 12) dX6_cleanNow_12 rfl 1 rfl ?_
    refine P_aload_n (pc := 13) dX6_cleanNow_13 rfl 0 rfl ?_
    refine P_getR (pc := 14) dX6_cleanNow_14 fa_RX6_46 sM_0 fM0_17 ?_
    refine P_iload_n (pc := 17) dX6_cleanNow_17 rfl 2 rfl ?_
    refine P_iald (pc := 18) dX6_cleanNow_18 sM_13 (by omega) (by omega) (by decide) ?_
    try simp only [h13]
    refine P_if_ne (tgt := 28) (pc := 19) dX6_cleanNow_19 (by decide) (by unfold InR; omega) (fun c_19 => ?_) (fun c_19 => ?_)
    · refine P_iconst (pc := 28) dX6_cleanNow_28 ?_
      refine P_ior (pc := 29) dX6_cleanNow_29 (wI_or (by omega) (by omega) (by first | omega | exact (g5 (by omega)).1) (by first | omega | exact (g5 (by omega)).2.1)) ?_
      refine P_istore_n (L' := [(1, vi _), (0, vr 0), (2, vi _)]) (pc := 30) dX6_cleanNow_30 rfl (by decide) rfl ?_
      refine P_iinc (L' := [(2, vi _), (1, vi _), (0, vr 0)]) (pc := 31) dX6_cleanNow_31 (by decide) 2 rfl rfl ?_
      refine P_goto (tgt := 4) (pc := 34) dX6_cleanNow_34 (by decide) ?_
      refine P_sub (L' := [(0, vr 0), (1, vi _), (2, vi _)]) [2, 1, 0] rfl ?_
      refine P_cast (L' := [(0, vr 0), (1, vi (clN X (j + 1) : Int)), (2, vi (t + 1))]) ?_ rfl (ih (j + 1) (t + 1) (by omega) (by omega) (by omega))
      rw [g1]
      first | rw [if_pos (by omega), ← (g5 (by omega)).2.2] | rw [if_neg (by omega)]
      rfl
    · refine P_iconst (pc := 22) dX6_cleanNow_22 ?_
      refine P_iload_n (pc := 23) dX6_cleanNow_23 rfl 2 rfl ?_
      refine P_ishl (pc := 24) dX6_cleanNow_24 (wI_shl _ (by omega) (by omega)) ?_
      refine P_goto (tgt := 29) (pc := 25) dX6_cleanNow_25 (by decide) ?_
      refine P_ior (pc := 29) dX6_cleanNow_29 (wI_or (by omega) (by omega) (by first | omega | exact (g5 (by omega)).1) (by first | omega | exact (g5 (by omega)).2.1)) ?_
      refine P_istore_n (L' := [(1, vi _), (0, vr 0), (2, vi _)]) (pc := 30) dX6_cleanNow_30 rfl (by decide) rfl ?_
      refine P_iinc (L' := [(2, vi _), (1, vi _), (0, vr 0)]) (pc := 31) dX6_cleanNow_31 (by decide) 2 rfl rfl ?_
      refine P_goto (tgt := 4) (pc := 34) dX6_cleanNow_34 (by decide) ?_
      refine P_sub (L' := [(0, vr 0), (1, vi _), (2, vi _)]) [2, 1, 0] rfl ?_
      refine P_cast (L' := [(0, vr 0), (1, vi (clN X (j + 1) : Int)), (2, vi (t + 1))]) ?_ rfl (ih (j + 1) (t + 1) (by omega) (by omega) (by omega))
      rw [g1]
      first | rw [if_pos (by omega), ← (g5 (by omega)).2.2] | rw [if_neg (by omega)]
      rfl
set_option maxHeartbeats 1000000 in
set_option maxRecDepth 100000 in
theorem c_X6_cleanNow {μ : Mem} {X : Cel} (hX : XOK X) (h13 : μ.1 13 = X 13) (hT : 0 ≤ μ.1 0 11 ∧ μ.1 0 11 ≤ 12) : PC shM 0 mX6_cleanNow [vr 0] (μ) (QI (fun z μ' => z = (clN X (μ.1 0 11).toNat : Int) ∧ μ' = μ)) := by
  refine PC.of (by decide +kernel) (Nat.le_of_ble_eq_true rfl) ?_
  refine P_sub (L' := [(0, vr 0)]) [0] rfl ?_
  refine P_iconst (pc := 0) dX6_cleanNow_0 ?_
  refine P_istore_n (L' := [(1, vi _), (0, vr 0)]) (pc := 1) dX6_cleanNow_1 rfl (by decide) rfl ?_
  refine P_iconst (pc := 2) dX6_cleanNow_2 ?_
  refine P_istore_n (L' := [(2, vi _), (1, vi _), (0, vr 0)]) (pc := 3) dX6_cleanNow_3 rfl (by decide) rfl ?_
  refine P_sub (L' := [(0, vr 0), (1, vi _), (2, vi _)]) [2, 1, 0] rfl ?_
  exact l_X6_cleanNow hX h13 hT ((μ.1 0 11).toNat + 1) 0 0 rfl (by omega) (by omega)
set_option maxHeartbeats 1000000 in
set_option maxRecDepth 100000 in
theorem l_X6_findClean {μ : Mem} {K F : Cel} {till o : Int} (hk : kd μ.1 = K) (hK : KOK K) (ho : o = 0 ∨ o = 1) (ht : -1 ≤ till ∧ till < 48) : ∀ (n j : Nat) (w : Int) (ν : Mem), w = (j : Int) → j ≤ 64 → 64 - j < n → PM μ ν → LF K F o ν → (∀ i : Nat, i < j → leftB K F o i = true → ν.1 24 (i : Int) = (clN (simX K (i : Int) till o) (K 0 11).toNat : Int)) → PW shM 5 mX6_findClean 2 [(0, vr 0), (1, vi till), (2, vi o), (3, vi w)] [] ν (QV (fun μ' => PM μ μ' ∧ LC K F o till μ')) := by
  intro n
  induction n with
  | zero => intro j w ν _ _ q; omega
  | succ n ih =>
  intro j w ν hw hj hn hP hL hC
  have hk11 : K 0 11 = μ.1 0 11 := by rw [← hk]; rfl
  have g1 : j < 64 → ν.1 23 w = if leftB K F o j = true then 1 else 0 := fun q => by rw [hw]; exact hL.1 j q
  have g2 : j < 64 → (ν.1 23 w = 0 ∧ leftB K F o j = false ∨ ν.1 23 w = 1 ∧ leftB K F o j = true) := fun q => by rw [g1 q]; cases leftB K F o j <;> simp
  refine P_iload_n (pc := 2) dX6_findClean_2 rfl 3 rfl ?_
  refine P_bipush (pc := 3) dX6_findClean_3 (by decide) ?_
  refine P_icmp_ge (tgt := 43) (pc := 5) dX6_findClean_5 (by decide) (by unfold InR; omega) (by unfold InR; omega) (fun c_5 => ?_) (fun c_5 => ?_)
  · exact P_vret (pc := 43) dX6_findClean_43 rfl (QV.mk (by have e9 : j = 64 := (by omega); subst e9; exact ⟨hP, hL, hC⟩))
  · refine P_aload_n (pc := 8) dX6_findClean_8 rfl 0 rfl ?_
    refine P_getR (pc := 9) dX6_findClean_9 fa_RX6_77 sM_0 fM0_29 ?_
    refine P_iload_n (pc := 12) dX6_findClean_12 rfl 3 rfl ?_
    refine P_zald (pc := 13) dX6_findClean_13 sM_23 (by omega) (by omega) (by decide) ?_
    try simp only [wr_1, wr_2, wr_3, wr_4, wr_5, wr_6, wr_7, wr_8, wr_9, wr_10, wr_11, wr_12, wr_20, wr_21, wr_22, wr_23, wr_24, wr_25, wr_26, wr_27, wr_28, wr_29, wr_30, wr_13, wr_14, wr_16, wr_17, wr_18, wr_19, wr_15, wo_11, wo_12, wo_14, wo_15, wo_16, wo_30, wo_31, wo_37, wo_40, wo_41, wo_42, wp_13, wp_14, wp_16, wp_17, wp_18, wp_19, wp_0_24, wp_0_25, xn_0_13, xn_0_14, xn_0_15, xn_0_16, xn_0_17, xn_0_18, xn_0_19, xn_13_0, xn_13_14, xn_13_15, xn_13_16, xn_13_17, xn_13_18, xn_13_19, xn_14_0, xn_14_13, xn_14_15, xn_14_16, xn_14_17, xn_14_18, xn_14_19, xn_15_0, xn_15_13, xn_15_14, xn_15_16, xn_15_17, xn_15_18, xn_15_19, xn_16_0, xn_16_13, xn_16_14, xn_16_15, xn_16_17, xn_16_18, xn_16_19, xn_17_0, xn_17_13, xn_17_14, xn_17_15, xn_17_16, xn_17_18, xn_17_19, xn_18_0, xn_18_13, xn_18_14, xn_18_15, xn_18_16, xn_18_17, xn_18_19, xn_19_0, xn_19_13, xn_19_14, xn_19_15, xn_19_16, xn_19_17, xn_19_18, kr_2, kr_3, kr_4, kr_5, kr_6, kr_7, kr_8, kr_9, kr_10, kr_11, setW_put15, setW_24, setW_25, setW_2, kd_11, kd_12, setW_setW]
    refine P_if_ne (tgt := 20) (pc := 14) dX6_findClean_14 (by decide) (by unfold InR; rcases g2 (by omega) with q2 | q2 <;> omega) (fun c_14 => ?_) (fun c_14 => ?_)
    · refine P_aload_n (pc := 20) dX6_findClean_20 rfl 0 rfl ?_
      refine P_iload_n (pc := 21) dX6_findClean_21 rfl 3 rfl ?_
      refine P_iload_n (pc := 22) dX6_findClean_22 rfl 1 rfl ?_
      refine P_iload_n (pc := 23) dX6_findClean_23 rfl 2 rfl ?_
      refine P_callVv (Y' := mX6_runs) (as := [_, _, _]) (pc := 24) dX6_findClean_24 rfl (by decide : 4 < 5) sM_0 rfl ml_RX6_222 im_X6_runs se_X6_runs mk_X6_runs (Nat.le_of_ble_eq_true rfl) (c_X6_runs ((PM_kd hP).trans hk) hK ho (by omega) ht) (fun μ_ hq => ?_)
      obtain ⟨S, hS, rfl⟩ := hq
      try simp only [wr_1, wr_2, wr_3, wr_4, wr_5, wr_6, wr_7, wr_8, wr_9, wr_10, wr_11, wr_12, wr_20, wr_21, wr_22, wr_23, wr_24, wr_25, wr_26, wr_27, wr_28, wr_29, wr_30, wr_13, wr_14, wr_16, wr_17, wr_18, wr_19, wr_15, wo_11, wo_12, wo_14, wo_15, wo_16, wo_30, wo_31, wo_37, wo_40, wo_41, wo_42, wp_13, wp_14, wp_16, wp_17, wp_18, wp_19, wp_0_24, wp_0_25, xn_0_13, xn_0_14, xn_0_15, xn_0_16, xn_0_17, xn_0_18, xn_0_19, xn_13_0, xn_13_14, xn_13_15, xn_13_16, xn_13_17, xn_13_18, xn_13_19, xn_14_0, xn_14_13, xn_14_15, xn_14_16, xn_14_17, xn_14_18, xn_14_19, xn_15_0, xn_15_13, xn_15_14, xn_15_16, xn_15_17, xn_15_18, xn_15_19, xn_16_0, xn_16_13, xn_16_14, xn_16_15, xn_16_17, xn_16_18, xn_16_19, xn_17_0, xn_17_13, xn_17_14, xn_17_15, xn_17_16, xn_17_18, xn_17_19, xn_18_0, xn_18_13, xn_18_14, xn_18_15, xn_18_16, xn_18_17, xn_18_19, xn_19_0, xn_19_13, xn_19_14, xn_19_15, xn_19_16, xn_19_17, xn_19_18, kr_2, kr_3, kr_4, kr_5, kr_6, kr_7, kr_8, kr_9, kr_10, kr_11, setW_put15, setW_24, setW_25, setW_2, kd_11, kd_12, setW_setW]
      refine P_aload_n (pc := 27) dX6_findClean_27 rfl 0 rfl ?_
      refine P_getR (pc := 28) dX6_findClean_28 fa_RX6_80 sM_0 fM0_32 ?_
      refine P_iload_n (pc := 31) dX6_findClean_31 rfl 3 rfl ?_
      refine P_aload_n (pc := 32) dX6_findClean_32 rfl 0 rfl ?_
      refine P_callVi (Y' := mX6_cleanNow) (as := []) (pc := 33) dX6_findClean_33 rfl (by decide : 0 < 5) sM_0 rfl ml_RX6_248 im_X6_cleanNow se_X6_cleanNow mk_X6_cleanNow (Nat.le_of_ble_eq_true rfl) (c_X6_cleanNow (X := simX K w till o) (XOK_sim hK ho) rfl (by simp only [wr_1, wr_2, wr_3, wr_4, wr_5, wr_6, wr_7, wr_8, wr_9, wr_10, wr_11, wr_12, wr_20, wr_21, wr_22, wr_23, wr_24, wr_25, wr_26, wr_27, wr_28, wr_29, wr_30, wr_13, wr_14, wr_16, wr_17, wr_18, wr_19, wr_15, wo_11, wo_12, wo_14, wo_15, wo_16, wo_30, wo_31, wo_37, wo_40, wo_41, wo_42, wp_13, wp_14, wp_16, wp_17, wp_18, wp_19, wp_0_24, wp_0_25, xn_0_13, xn_0_14, xn_0_15, xn_0_16, xn_0_17, xn_0_18, xn_0_19, xn_13_0, xn_13_14, xn_13_15, xn_13_16, xn_13_17, xn_13_18, xn_13_19, xn_14_0, xn_14_13, xn_14_15, xn_14_16, xn_14_17, xn_14_18, xn_14_19, xn_15_0, xn_15_13, xn_15_14, xn_15_16, xn_15_17, xn_15_18, xn_15_19, xn_16_0, xn_16_13, xn_16_14, xn_16_15, xn_16_17, xn_16_18, xn_16_19, xn_17_0, xn_17_13, xn_17_14, xn_17_15, xn_17_16, xn_17_18, xn_17_19, xn_18_0, xn_18_13, xn_18_14, xn_18_15, xn_18_16, xn_18_17, xn_18_19, xn_19_0, xn_19_13, xn_19_14, xn_19_15, xn_19_16, xn_19_17, xn_19_18, kr_2, kr_3, kr_4, kr_5, kr_6, kr_7, kr_8, kr_9, kr_10, kr_11, setW_put15, setW_24, setW_25, setW_2, kd_11, kd_12, setW_setW]; rw [hP.num 11 (by decide), ← hk11]; exact hK.1)) (fun z_ μ_ hq => ?_)
      obtain ⟨hz, rfl⟩ := hq
      simp only [wo_11] at hz
      rw [hP.num 11 (by decide), ← hk11] at hz
      try simp only [wr_1, wr_2, wr_3, wr_4, wr_5, wr_6, wr_7, wr_8, wr_9, wr_10, wr_11, wr_12, wr_20, wr_21, wr_22, wr_23, wr_24, wr_25, wr_26, wr_27, wr_28, wr_29, wr_30, wr_13, wr_14, wr_16, wr_17, wr_18, wr_19, wr_15, wo_11, wo_12, wo_14, wo_15, wo_16, wo_30, wo_31, wo_37, wo_40, wo_41, wo_42, wp_13, wp_14, wp_16, wp_17, wp_18, wp_19, wp_0_24, wp_0_25, xn_0_13, xn_0_14, xn_0_15, xn_0_16, xn_0_17, xn_0_18, xn_0_19, xn_13_0, xn_13_14, xn_13_15, xn_13_16, xn_13_17, xn_13_18, xn_13_19, xn_14_0, xn_14_13, xn_14_15, xn_14_16, xn_14_17, xn_14_18, xn_14_19, xn_15_0, xn_15_13, xn_15_14, xn_15_16, xn_15_17, xn_15_18, xn_15_19, xn_16_0, xn_16_13, xn_16_14, xn_16_15, xn_16_17, xn_16_18, xn_16_19, xn_17_0, xn_17_13, xn_17_14, xn_17_15, xn_17_16, xn_17_18, xn_17_19, xn_18_0, xn_18_13, xn_18_14, xn_18_15, xn_18_16, xn_18_17, xn_18_19, xn_19_0, xn_19_13, xn_19_14, xn_19_15, xn_19_16, xn_19_17, xn_19_18, kr_2, kr_3, kr_4, kr_5, kr_6, kr_7, kr_8, kr_9, kr_10, kr_11, setW_put15, setW_24, setW_25, setW_2, kd_11, kd_12, setW_setW]
      refine P_iast (pc := 36) dX6_findClean_36 sM_24 (by omega) (by omega) (by decide) ?_
      try simp only [wr_1, wr_2, wr_3, wr_4, wr_5, wr_6, wr_7, wr_8, wr_9, wr_10, wr_11, wr_12, wr_20, wr_21, wr_22, wr_23, wr_24, wr_25, wr_26, wr_27, wr_28, wr_29, wr_30, wr_13, wr_14, wr_16, wr_17, wr_18, wr_19, wr_15, wo_11, wo_12, wo_14, wo_15, wo_16, wo_30, wo_31, wo_37, wo_40, wo_41, wo_42, wp_13, wp_14, wp_16, wp_17, wp_18, wp_19, wp_0_24, wp_0_25, xn_0_13, xn_0_14, xn_0_15, xn_0_16, xn_0_17, xn_0_18, xn_0_19, xn_13_0, xn_13_14, xn_13_15, xn_13_16, xn_13_17, xn_13_18, xn_13_19, xn_14_0, xn_14_13, xn_14_15, xn_14_16, xn_14_17, xn_14_18, xn_14_19, xn_15_0, xn_15_13, xn_15_14, xn_15_16, xn_15_17, xn_15_18, xn_15_19, xn_16_0, xn_16_13, xn_16_14, xn_16_15, xn_16_17, xn_16_18, xn_16_19, xn_17_0, xn_17_13, xn_17_14, xn_17_15, xn_17_16, xn_17_18, xn_17_19, xn_18_0, xn_18_13, xn_18_14, xn_18_15, xn_18_16, xn_18_17, xn_18_19, xn_19_0, xn_19_13, xn_19_14, xn_19_15, xn_19_16, xn_19_17, xn_19_18, kr_2, kr_3, kr_4, kr_5, kr_6, kr_7, kr_8, kr_9, kr_10, kr_11, setW_put15, setW_24, setW_25, setW_2, kd_11, kd_12, setW_setW]
      refine P_iinc (L' := [(3, vi _), (0, vr 0), (1, vi _), (2, vi _)]) (pc := 37) dX6_findClean_37 (by decide) 3 rfl rfl ?_
      refine P_goto (tgt := 2) (pc := 40) dX6_findClean_40 (by decide) ?_
      refine P_sub (L' := [(0, vr 0), (1, vi _), (2, vi _), (3, vi _)]) [1, 2, 3, 0] rfl ?_
      first
        | (refine ih (j + 1) (w + 1) ν (by omega) (by omega) (by omega) hP hL (fun i hi hi2 => ?_)
           rcases Nat.lt_or_ge i j with q | q
           · exact hC i q hi2
           · exfalso
             have e : i = j := by omega
             subst e
             rcases g2 (by omega) with q2 | q2
             · rw [q2.2] at hi2; cases hi2
             · omega)
        | (refine ih (j + 1) (w + 1) _ (by omega) (by omega) (by omega) ((PM_setW hP).put (by unfold scr; omega)) ⟨fun i hi => ?_, ?_⟩ (fun i hi hi2 => ?_)
           · simp (disch := decide) only [wr_1, wr_2, wr_3, wr_4, wr_5, wr_6, wr_7, wr_8, wr_9, wr_10, wr_11, wr_12, wr_20, wr_21, wr_22, wr_23, wr_24, wr_25, wr_26, wr_27, wr_28, wr_29, wr_30, wr_13, wr_14, wr_16, wr_17, wr_18, wr_19, wr_15, wo_11, wo_12, wo_14, wo_15, wo_16, wo_30, wo_31, wo_37, wo_40, wo_41, wo_42, wp_13, wp_14, wp_16, wp_17, wp_18, wp_19, wp_0_24, wp_0_25, xn_0_13, xn_0_14, xn_0_15, xn_0_16, xn_0_17, xn_0_18, xn_0_19, xn_13_0, xn_13_14, xn_13_15, xn_13_16, xn_13_17, xn_13_18, xn_13_19, xn_14_0, xn_14_13, xn_14_15, xn_14_16, xn_14_17, xn_14_18, xn_14_19, xn_15_0, xn_15_13, xn_15_14, xn_15_16, xn_15_17, xn_15_18, xn_15_19, xn_16_0, xn_16_13, xn_16_14, xn_16_15, xn_16_17, xn_16_18, xn_16_19, xn_17_0, xn_17_13, xn_17_14, xn_17_15, xn_17_16, xn_17_18, xn_17_19, xn_18_0, xn_18_13, xn_18_14, xn_18_15, xn_18_16, xn_18_17, xn_18_19, xn_19_0, xn_19_13, xn_19_14, xn_19_15, xn_19_16, xn_19_17, xn_19_18, kr_2, kr_3, kr_4, kr_5, kr_6, kr_7, kr_8, kr_9, kr_10, kr_11, setW_put15, setW_24, setW_25, setW_2, kd_11, kd_12, setW_setW, putI_ne]
             exact hL.1 i hi
           · simp (disch := decide) only [wr_1, wr_2, wr_3, wr_4, wr_5, wr_6, wr_7, wr_8, wr_9, wr_10, wr_11, wr_12, wr_20, wr_21, wr_22, wr_23, wr_24, wr_25, wr_26, wr_27, wr_28, wr_29, wr_30, wr_13, wr_14, wr_16, wr_17, wr_18, wr_19, wr_15, wo_11, wo_12, wo_14, wo_15, wo_16, wo_30, wo_31, wo_37, wo_40, wo_41, wo_42, wp_13, wp_14, wp_16, wp_17, wp_18, wp_19, wp_0_24, wp_0_25, xn_0_13, xn_0_14, xn_0_15, xn_0_16, xn_0_17, xn_0_18, xn_0_19, xn_13_0, xn_13_14, xn_13_15, xn_13_16, xn_13_17, xn_13_18, xn_13_19, xn_14_0, xn_14_13, xn_14_15, xn_14_16, xn_14_17, xn_14_18, xn_14_19, xn_15_0, xn_15_13, xn_15_14, xn_15_16, xn_15_17, xn_15_18, xn_15_19, xn_16_0, xn_16_13, xn_16_14, xn_16_15, xn_16_17, xn_16_18, xn_16_19, xn_17_0, xn_17_13, xn_17_14, xn_17_15, xn_17_16, xn_17_18, xn_17_19, xn_18_0, xn_18_13, xn_18_14, xn_18_15, xn_18_16, xn_18_17, xn_18_19, xn_19_0, xn_19_13, xn_19_14, xn_19_15, xn_19_16, xn_19_17, xn_19_18, kr_2, kr_3, kr_4, kr_5, kr_6, kr_7, kr_8, kr_9, kr_10, kr_11, setW_put15, setW_24, setW_25, setW_2, kd_11, kd_12, setW_setW, putI_ne]
             exact hL.2
           · simp (disch := decide) only [wr_1, wr_2, wr_3, wr_4, wr_5, wr_6, wr_7, wr_8, wr_9, wr_10, wr_11, wr_12, wr_20, wr_21, wr_22, wr_23, wr_24, wr_25, wr_26, wr_27, wr_28, wr_29, wr_30, wr_13, wr_14, wr_16, wr_17, wr_18, wr_19, wr_15, wo_11, wo_12, wo_14, wo_15, wo_16, wo_30, wo_31, wo_37, wo_40, wo_41, wo_42, wp_13, wp_14, wp_16, wp_17, wp_18, wp_19, wp_0_24, wp_0_25, xn_0_13, xn_0_14, xn_0_15, xn_0_16, xn_0_17, xn_0_18, xn_0_19, xn_13_0, xn_13_14, xn_13_15, xn_13_16, xn_13_17, xn_13_18, xn_13_19, xn_14_0, xn_14_13, xn_14_15, xn_14_16, xn_14_17, xn_14_18, xn_14_19, xn_15_0, xn_15_13, xn_15_14, xn_15_16, xn_15_17, xn_15_18, xn_15_19, xn_16_0, xn_16_13, xn_16_14, xn_16_15, xn_16_17, xn_16_18, xn_16_19, xn_17_0, xn_17_13, xn_17_14, xn_17_15, xn_17_16, xn_17_18, xn_17_19, xn_18_0, xn_18_13, xn_18_14, xn_18_15, xn_18_16, xn_18_17, xn_18_19, xn_19_0, xn_19_13, xn_19_14, xn_19_15, xn_19_16, xn_19_17, xn_19_18, kr_2, kr_3, kr_4, kr_5, kr_6, kr_7, kr_8, kr_9, kr_10, kr_11, setW_put15, setW_24, setW_25, setW_2, kd_11, kd_12, setW_setW, putI_ne, putI_eq]
             rcases Nat.lt_or_ge i j with q | q
             · have q2 : ¬ (i : Int) = w := by omega
               simp only [if_neg q2]
               exact hC i q hi2
             · have e : i = j := by omega
               subst e
               rw [← hw, if_pos rfl, hz])
    · refine P_goto (tgt := 37) (pc := 17) dX6_findClean_17 (by decide) ?_
      refine P_iinc (L' := [(3, vi _), (0, vr 0), (1, vi _), (2, vi _)]) (pc := 37) dX6_findClean_37 (by decide) 3 rfl rfl ?_
      refine P_goto (tgt := 2) (pc := 40) dX6_findClean_40 (by decide) ?_
      refine P_sub (L' := [(0, vr 0), (1, vi _), (2, vi _), (3, vi _)]) [1, 2, 3, 0] rfl ?_
      first
        | (refine ih (j + 1) (w + 1) ν (by omega) (by omega) (by omega) hP hL (fun i hi hi2 => ?_)
           rcases Nat.lt_or_ge i j with q | q
           · exact hC i q hi2
           · exfalso
             have e : i = j := by omega
             subst e
             rcases g2 (by omega) with q2 | q2
             · rw [q2.2] at hi2; cases hi2
             · omega)
        | (refine ih (j + 1) (w + 1) _ (by omega) (by omega) (by omega) ((PM_setW hP).put (by unfold scr; omega)) ⟨fun i hi => ?_, ?_⟩ (fun i hi hi2 => ?_)
           · simp (disch := decide) only [wr_1, wr_2, wr_3, wr_4, wr_5, wr_6, wr_7, wr_8, wr_9, wr_10, wr_11, wr_12, wr_20, wr_21, wr_22, wr_23, wr_24, wr_25, wr_26, wr_27, wr_28, wr_29, wr_30, wr_13, wr_14, wr_16, wr_17, wr_18, wr_19, wr_15, wo_11, wo_12, wo_14, wo_15, wo_16, wo_30, wo_31, wo_37, wo_40, wo_41, wo_42, wp_13, wp_14, wp_16, wp_17, wp_18, wp_19, wp_0_24, wp_0_25, xn_0_13, xn_0_14, xn_0_15, xn_0_16, xn_0_17, xn_0_18, xn_0_19, xn_13_0, xn_13_14, xn_13_15, xn_13_16, xn_13_17, xn_13_18, xn_13_19, xn_14_0, xn_14_13, xn_14_15, xn_14_16, xn_14_17, xn_14_18, xn_14_19, xn_15_0, xn_15_13, xn_15_14, xn_15_16, xn_15_17, xn_15_18, xn_15_19, xn_16_0, xn_16_13, xn_16_14, xn_16_15, xn_16_17, xn_16_18, xn_16_19, xn_17_0, xn_17_13, xn_17_14, xn_17_15, xn_17_16, xn_17_18, xn_17_19, xn_18_0, xn_18_13, xn_18_14, xn_18_15, xn_18_16, xn_18_17, xn_18_19, xn_19_0, xn_19_13, xn_19_14, xn_19_15, xn_19_16, xn_19_17, xn_19_18, kr_2, kr_3, kr_4, kr_5, kr_6, kr_7, kr_8, kr_9, kr_10, kr_11, setW_put15, setW_24, setW_25, setW_2, kd_11, kd_12, setW_setW, putI_ne]
             exact hL.1 i hi
           · simp (disch := decide) only [wr_1, wr_2, wr_3, wr_4, wr_5, wr_6, wr_7, wr_8, wr_9, wr_10, wr_11, wr_12, wr_20, wr_21, wr_22, wr_23, wr_24, wr_25, wr_26, wr_27, wr_28, wr_29, wr_30, wr_13, wr_14, wr_16, wr_17, wr_18, wr_19, wr_15, wo_11, wo_12, wo_14, wo_15, wo_16, wo_30, wo_31, wo_37, wo_40, wo_41, wo_42, wp_13, wp_14, wp_16, wp_17, wp_18, wp_19, wp_0_24, wp_0_25, xn_0_13, xn_0_14, xn_0_15, xn_0_16, xn_0_17, xn_0_18, xn_0_19, xn_13_0, xn_13_14, xn_13_15, xn_13_16, xn_13_17, xn_13_18, xn_13_19, xn_14_0, xn_14_13, xn_14_15, xn_14_16, xn_14_17, xn_14_18, xn_14_19, xn_15_0, xn_15_13, xn_15_14, xn_15_16, xn_15_17, xn_15_18, xn_15_19, xn_16_0, xn_16_13, xn_16_14, xn_16_15, xn_16_17, xn_16_18, xn_16_19, xn_17_0, xn_17_13, xn_17_14, xn_17_15, xn_17_16, xn_17_18, xn_17_19, xn_18_0, xn_18_13, xn_18_14, xn_18_15, xn_18_16, xn_18_17, xn_18_19, xn_19_0, xn_19_13, xn_19_14, xn_19_15, xn_19_16, xn_19_17, xn_19_18, kr_2, kr_3, kr_4, kr_5, kr_6, kr_7, kr_8, kr_9, kr_10, kr_11, setW_put15, setW_24, setW_25, setW_2, kd_11, kd_12, setW_setW, putI_ne]
             exact hL.2
           · simp (disch := decide) only [wr_1, wr_2, wr_3, wr_4, wr_5, wr_6, wr_7, wr_8, wr_9, wr_10, wr_11, wr_12, wr_20, wr_21, wr_22, wr_23, wr_24, wr_25, wr_26, wr_27, wr_28, wr_29, wr_30, wr_13, wr_14, wr_16, wr_17, wr_18, wr_19, wr_15, wo_11, wo_12, wo_14, wo_15, wo_16, wo_30, wo_31, wo_37, wo_40, wo_41, wo_42, wp_13, wp_14, wp_16, wp_17, wp_18, wp_19, wp_0_24, wp_0_25, xn_0_13, xn_0_14, xn_0_15, xn_0_16, xn_0_17, xn_0_18, xn_0_19, xn_13_0, xn_13_14, xn_13_15, xn_13_16, xn_13_17, xn_13_18, xn_13_19, xn_14_0, xn_14_13, xn_14_15, xn_14_16, xn_14_17, xn_14_18, xn_14_19, xn_15_0, xn_15_13, xn_15_14, xn_15_16, xn_15_17, xn_15_18, xn_15_19, xn_16_0, xn_16_13, xn_16_14, xn_16_15, xn_16_17, xn_16_18, xn_16_19, xn_17_0, xn_17_13, xn_17_14, xn_17_15, xn_17_16, xn_17_18, xn_17_19, xn_18_0, xn_18_13, xn_18_14, xn_18_15, xn_18_16, xn_18_17, xn_18_19, xn_19_0, xn_19_13, xn_19_14, xn_19_15, xn_19_16, xn_19_17, xn_19_18, kr_2, kr_3, kr_4, kr_5, kr_6, kr_7, kr_8, kr_9, kr_10, kr_11, setW_put15, setW_24, setW_25, setW_2, kd_11, kd_12, setW_setW, putI_ne, putI_eq]
             rcases Nat.lt_or_ge i j with q | q
             · have q2 : ¬ (i : Int) = w := by omega
               simp only [if_neg q2]
               exact hC i q hi2
             · have e : i = j := by omega
               subst e
               rw [← hw, if_pos rfl, hz])
set_option maxHeartbeats 1000000 in
set_option maxRecDepth 100000 in
theorem c_X6_findClean {μ : Mem} {K : Cel} {F : Cel} {till o : Int} (hk : kd μ.1 = K) (hK : KOK K) (ho : o = 0 ∨ o = 1) (ht : -1 ≤ till ∧ till < 48) (hL : LF K F o μ) : PC shM 5 mX6_findClean [vr 0, vi till, vi o] (μ) (QV (fun μ' => PM μ μ' ∧ LC K F o till μ')) := by
  refine PC.of (by decide +kernel) (Nat.le_of_ble_eq_true rfl) ?_
  refine P_sub (L' := [(0, vr 0), (1, vi till), (2, vi o)]) [0, 1, 2] rfl ?_
  refine P_iconst (pc := 0) dX6_findClean_0 ?_
  refine P_istore_n (L' := [(3, vi _), (0, vr 0), (1, vi _), (2, vi _)]) (pc := 1) dX6_findClean_1 rfl (by decide) rfl ?_
  refine P_sub (L' := [(0, vr 0), (1, vi _), (2, vi _), (3, vi _)]) [1, 2, 3, 0] rfl ?_
  exact l_X6_findClean hk hK ho ht 65 0 0 μ rfl (by omega) (by omega) PM.rf hL (fun i hi => absurd hi (Nat.not_lt_zero i))
