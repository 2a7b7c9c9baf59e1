set_option maxHeartbeats 1000000 in
set_option maxRecDepth 100000 in
theorem c_X6_isIn {μ : Mem} {v l g : Int} (hv : InR v) (hl : InR l) (hg : InR g) : PC shM 0 mX6_isIn [vi v, vi l, vi g] (μ) (QI (fun z μ' => z = (if l ≤ v ∧ v ≤ g then 1 else 0) ∧ μ' = μ)) := by
  refine PC.of (by decide +kernel) (Nat.le_of_ble_eq_true rfl) ?_
  refine P_sub (L' := [(0, vi v), (1, vi l), (2, vi g)]) [0, 1, 2] rfl ?_
  refine P_iload_n (pc := 0) dX6_isIn_0 rfl 0 rfl ?_
  refine P_iload_n (pc := 1) dX6_isIn_1 rfl 1 rfl ?_
  refine P_icmp_lt (tgt := 14) (pc := 2) dX6_isIn_2 (by decide) (by assumption) (by assumption) (fun c_2 => ?_) (fun c_2 => ?_)
  · refine P_iconst (pc := 14) dX6_isIn_14 ?_
    exact P_zret (pc := 15) dX6_isIn_15 rfl (by omega) (QI.mk (by refine ⟨?_, rfl⟩; first | (rw [if_pos (by omega)]) | (rw [if_neg (by omega)])))
  · refine P_iload_n (pc := 5) dX6_isIn_5 rfl 0 rfl ?_
    refine P_iload_n (pc := 6) dX6_isIn_6 rfl 2 rfl ?_
    refine P_icmp_gt (tgt := 14) (pc := 7) dX6_isIn_7 (by decide) (by assumption) (by assumption) (fun c_7 => ?_) (fun c_7 => ?_)
    · refine P_iconst (pc := 14) dX6_isIn_14 ?_
      exact P_zret (pc := 15) dX6_isIn_15 rfl (by omega) (QI.mk (by refine ⟨?_, rfl⟩; first | (rw [if_pos (by omega)]) | (rw [if_neg (by omega)])))
    · refine P_iconst (pc := 10) dX6_isIn_10 ?_
      refine P_goto (tgt := 15) (pc := 11) dX6_isIn_11 (by decide) ?_
      exact P_zret (pc := 15) dX6_isIn_15 rfl (by omega) (QI.mk (by refine ⟨?_, rfl⟩; first | (rw [if_pos (by omega)]) | (rw [if_neg (by omega)])))
set_option maxHeartbeats 1000000 in
set_option maxRecDepth 100000 in
theorem c_X6_out {μ : Mem} {v l g : Int} (hv : InR v) (hl : InR l) (hg : InR g) : PC shM 0 mX6_out [vi v, vi l, vi g] (μ) (QI (fun z μ' => z = (if v < l then -4 else if v > g then -6 else 0) ∧ μ' = μ)) := by
  refine PC.of (by decide +kernel) (Nat.le_of_ble_eq_true rfl) ?_
  refine P_sub (L' := [(0, vi v), (1, vi l), (2, vi g)]) [0, 1, 2] rfl ?_
  refine P_iload_n (pc := 0) dX6_out_0 rfl 0 rfl ?_
  refine P_iload_n (pc := 1) dX6_out_1 rfl 1 rfl ?_
  refine P_icmp_ge (tgt := 10) (pc := 2) dX6_out_2 (by decide) (by assumption) (by assumption) (fun c_2 => ?_) (fun c_2 => ?_)
  · refine P_iload_n (pc := 10) dX6_out_10 rfl 0 rfl ?_
    refine P_iload_n (pc := 11) dX6_out_11 rfl 2 rfl ?_
    refine P_icmp_le (tgt := 20) (pc := 12) dX6_out_12 (by decide) (by assumption) (by assumption) (fun c_12 => ?_) (fun c_12 => ?_)
    · refine P_iconst (pc := 20) dX6_out_20 ?_
      exact P_iret (pc := 21) dX6_out_21 rfl (QI.mk (by refine ⟨?_, rfl⟩; repeat (first | rfl | rw [if_pos (by omega)] | rw [if_neg (by omega)])))
    · refine P_bipush (pc := 15) dX6_out_15 (by decide) ?_
      refine P_goto (tgt := 21) (pc := 17) dX6_out_17 (by decide) ?_
      exact P_iret (pc := 21) dX6_out_21 rfl (QI.mk (by refine ⟨?_, rfl⟩; repeat (first | rfl | rw [if_pos (by omega)] | rw [if_neg (by omega)])))
  · refine P_bipush (pc := 5) dX6_out_5 (by decide) ?_
    refine P_goto (tgt := 21) (pc := 7) dX6_out_7 (by decide) ?_
    exact P_iret (pc := 21) dX6_out_21 rfl (QI.mk (by refine ⟨?_, rfl⟩; repeat (first | rfl | rw [if_pos (by omega)] | rw [if_neg (by omega)])))
set_option maxHeartbeats 1000000 in
set_option maxRecDepth 100000 in
theorem c_X6_isThing {μ : Mem} {t : Int} (ht : InR t) (hn : InR (μ.1 0 11)) : PC shM 0 mX6_isThing [vr 0, vi t] (μ) (QI (fun z μ' => z = (if 0 ≤ t ∧ t < μ.1 0 11 then 1 else 0) ∧ μ' = μ)) := by
  refine PC.of (by decide +kernel) (Nat.le_of_ble_eq_true rfl) ?_
  refine P_sub (L' := [(0, vr 0), (1, vi t)]) [0, 1] rfl ?_
  refine P_iload_n (pc := 0) dX6_isThing_0 rfl 1 rfl ?_
  refine P_if_lt (tgt := 16) (pc := 1) dX6_isThing_1 (by decide) (by assumption) (fun c_1 => ?_) (fun c_1 => ?_)
  · refine P_iconst (pc := 16) dX6_isThing_16 ?_
    exact P_zret (pc := 17) dX6_isThing_17 rfl (by omega) (QI.mk (by refine ⟨?_, rfl⟩; first | (rw [if_pos (by omega)]) | (rw [if_neg (by omega)])))
  · refine P_iload_n (pc := 4) dX6_isThing_4 rfl 1 rfl ?_
    refine P_aload_n (pc := 5) dX6_isThing_5 rfl 0 rfl ?_
    refine P_getI (jj := 11) (pc := 6) dX6_isThing_6 fa_RX6_101 sM_0 fM0_11 rfl ?_
    refine P_icmp_ge (tgt := 16) (pc := 9) dX6_isThing_9 (by decide) (by assumption) (by assumption) (fun c_9 => ?_) (fun c_9 => ?_)
    · refine P_iconst (pc := 16) dX6_isThing_16 ?_
      exact P_zret (pc := 17) dX6_isThing_17 rfl (by omega) (QI.mk (by refine ⟨?_, rfl⟩; first | (rw [if_pos (by omega)]) | (rw [if_neg (by omega)])))
    · refine P_iconst (pc := 12) dX6_isThing_12 ?_
      refine P_goto (tgt := 17) (pc := 13) dX6_isThing_13 (by decide) ?_
      exact P_zret (pc := 17) dX6_isThing_17 rfl (by omega) (QI.mk (by refine ⟨?_, rfl⟩; first | (rw [if_pos (by omega)]) | (rw [if_neg (by omega)])))
set_option maxHeartbeats 1000000 in
set_option maxRecDepth 100000 in
theorem c_X6_isOfTwo {μ : Mem} {k : Int} (hk : InR k) : PC shM 0 mX6_isOfTwo [vi k] (μ) (QI (fun z μ' => z = (if k < 5 then 1 else 0) ∧ μ' = μ)) := by
  refine PC.of (by decide +kernel) (Nat.le_of_ble_eq_true rfl) ?_
  refine P_sub (L' := [(0, vi k)]) [0] rfl ?_
  refine P_iload_n (pc := 0) dX6_isOfTwo_0 rfl 0 rfl ?_
  refine P_iconst (pc := 1) dX6_isOfTwo_1 ?_
  refine P_icmp_ge (tgt := 9) (pc := 2) dX6_isOfTwo_2 (by decide) (by first | assumption | (unfold InR; omega)) (by first | assumption | (unfold InR; omega)) (fun c_2 => ?_) (fun c_2 => ?_)
  · refine P_iconst (pc := 9) dX6_isOfTwo_9 ?_
    exact P_zret (pc := 10) dX6_isOfTwo_10 rfl (by omega) (QI.mk (by refine ⟨?_, rfl⟩; first | (rw [if_pos (by omega)]) | (rw [if_neg (by omega)])))
  · refine P_iconst (pc := 5) dX6_isOfTwo_5 ?_
    refine P_goto (tgt := 10) (pc := 6) dX6_isOfTwo_6 (by decide) ?_
    exact P_zret (pc := 10) dX6_isOfTwo_10 rfl (by omega) (QI.mk (by refine ⟨?_, rfl⟩; first | (rw [if_pos (by omega)]) | (rw [if_neg (by omega)])))
set_option maxHeartbeats 1000000 in
set_option maxRecDepth 100000 in
theorem c_X6_no {μ : Mem} {w : Int} (hw : 0 < -w ∧ -w < 7) : PC shM 0 mX6_no [vr 0, vi w] (μ) (QI (fun z μ' => z = w ∧ μ' = putI μ 1 (-w) (μ.1 1 (-w) + 1))) := by
  refine PC.of (by decide +kernel) (Nat.le_of_ble_eq_true rfl) ?_
  refine P_sub (L' := [(0, vr 0), (1, vi w)]) [0, 1] rfl ?_
  refine P_aload_n (pc := 0) dX6_no_0 rfl 0 rfl ?_
  refine P_getR (pc := 1) dX6_no_1 fa_RX6_7 sM_0 fM0_0 ?_
  refine P_iload_n (pc := 4) dX6_no_4 rfl 1 rfl ?_
  refine P_ineg (pc := 5) dX6_no_5 ?_
  refine P_dup2_11 (pc := 6) dX6_no_6 rfl rfl ?_
  refine P_iald (pc := 7) dX6_no_7 sM_1 (by omega) (by omega) (by decide) ?_
  refine P_iconst (pc := 8) dX6_no_8 ?_
  refine P_iadd (pc := 9) dX6_no_9 ?_
  refine P_iast (pc := 10) dX6_no_10 sM_1 (by omega) (by omega) (by decide) ?_
  refine P_iload_n (pc := 11) dX6_no_11 rfl 1 rfl ?_
  exact P_iret (pc := 12) dX6_no_12 rfl (QI.mk (by exact ⟨rfl, rfl⟩))
