set_option maxHeartbeats 1000000 in
set_option maxRecDepth 100000 in
theorem c_X5_hasSecond {μ : Mem} {k : Int} (hk : InR k) : PC shC 0 mX5_hasSecond [vi k] (μ) (QI (fun z μ' => z = (if k ≤ 4 ∨ k = 9 then 1 else 0) ∧ μ' = μ)) := by
  refine PC.of (by decide +kernel) (Nat.le_of_ble_eq_true rfl) ?_
  refine P_sub (L' := [(0, vi k)]) [0] rfl ?_
  refine P_iload_n (pc := 0) dX5_hasSecond_0 rfl 0 rfl ?_
  refine P_iconst (pc := 1) dX5_hasSecond_1 ?_
  refine P_icmp_le (tgt := 11) (pc := 2) dX5_hasSecond_2 (by decide) (by first | assumption | (unfold InR; omega)) (by first | assumption | (unfold InR; omega)) (fun c_2 => ?_) (fun c_2 => ?_)
  · refine P_iconst (pc := 11) dX5_hasSecond_11 ?_
    refine P_goto (tgt := 16) (pc := 12) dX5_hasSecond_12 (by decide) ?_
    exact P_zret (pc := 16) dX5_hasSecond_16 rfl (by omega) (QI.mk (by first | exact ⟨by rw [if_pos (by omega)], rfl⟩ | exact ⟨by rw [if_neg (by omega)], rfl⟩))
  · refine P_iload_n (pc := 5) dX5_hasSecond_5 rfl 0 rfl ?_
    refine P_bipush (pc := 6) dX5_hasSecond_6 (by decide) ?_
    refine P_icmp_ne (tgt := 15) (pc := 8) dX5_hasSecond_8 (by decide) (by first | assumption | (unfold InR; omega)) (by first | assumption | (unfold InR; omega)) (fun c_8 => ?_) (fun c_8 => ?_)
    · refine P_iconst (pc := 15) dX5_hasSecond_15 ?_
      exact P_zret (pc := 16) dX5_hasSecond_16 rfl (by omega) (QI.mk (by first | exact ⟨by rw [if_pos (by omega)], rfl⟩ | exact ⟨by rw [if_neg (by omega)], rfl⟩))
    · refine P_iconst (pc := 11) dX5_hasSecond_11 ?_
      refine P_goto (tgt := 16) (pc := 12) dX5_hasSecond_12 (by decide) ?_
      exact P_zret (pc := 16) dX5_hasSecond_16 rfl (by omega) (QI.mk (by first | exact ⟨by rw [if_pos (by omega)], rfl⟩ | exact ⟨by rw [if_neg (by omega)], rfl⟩))
set_option maxHeartbeats 1000000 in
set_option maxRecDepth 100000 in
theorem c_X5_isVessel {μ : Mem} {k : Int} (hk : InR k) : PC shC 0 mX5_isVessel [vi k] (μ) (QI (fun z μ' => z = (if k = 0 ∨ k = 5 then 1 else 0) ∧ μ' = μ)) := by
  refine PC.of (by decide +kernel) (Nat.le_of_ble_eq_true rfl) ?_
  refine P_sub (L' := [(0, vi k)]) [0] rfl ?_
  refine P_iload_n (pc := 0) dX5_isVessel_0 rfl 0 rfl ?_
  refine P_if_eq (tgt := 9) (pc := 1) dX5_isVessel_1 (by decide) (by first | assumption | (unfold InR; omega)) (fun c_1 => ?_) (fun c_1 => ?_)
  · refine P_iconst (pc := 9) dX5_isVessel_9 ?_
    refine P_goto (tgt := 14) (pc := 10) dX5_isVessel_10 (by decide) ?_
    exact P_zret (pc := 14) dX5_isVessel_14 rfl (by omega) (QI.mk (by first | exact ⟨by rw [if_pos (by omega)], rfl⟩ | exact ⟨by rw [if_neg (by omega)], rfl⟩))
  · refine P_iload_n (pc := 4) dX5_isVessel_4 rfl 0 rfl ?_
    refine P_iconst (pc := 5) dX5_isVessel_5 ?_
    refine P_icmp_ne (tgt := 13) (pc := 6) dX5_isVessel_6 (by decide) (by first | assumption | (unfold InR; omega)) (by first | assumption | (unfold InR; omega)) (fun c_6 => ?_) (fun c_6 => ?_)
    · refine P_iconst (pc := 13) dX5_isVessel_13 ?_
      exact P_zret (pc := 14) dX5_isVessel_14 rfl (by omega) (QI.mk (by first | exact ⟨by rw [if_pos (by omega)], rfl⟩ | exact ⟨by rw [if_neg (by omega)], rfl⟩))
    · refine P_iconst (pc := 9) dX5_isVessel_9 ?_
      refine P_goto (tgt := 14) (pc := 10) dX5_isVessel_10 (by decide) ?_
      exact P_zret (pc := 14) dX5_isVessel_14 rfl (by omega) (QI.mk (by first | exact ⟨by rw [if_pos (by omega)], rfl⟩ | exact ⟨by rw [if_neg (by omega)], rfl⟩))
set_option maxHeartbeats 1000000 in
set_option maxRecDepth 100000 in
theorem c_X5_isFood {μ : Mem} {k : Int} (hk : InR k) : PC shC 0 mX5_isFood [vi k] (μ) (QI (fun z μ' => z = (if k = 1 ∨ k = 2 then 1 else 0) ∧ μ' = μ)) := by
  refine PC.of (by decide +kernel) (Nat.le_of_ble_eq_true rfl) ?_
  refine P_sub (L' := [(0, vi k)]) [0] rfl ?_
  refine P_iload_n (pc := 0) dX5_isFood_0 rfl 0 rfl ?_
  refine P_iconst (pc := 1) dX5_isFood_1 ?_
  refine P_icmp_eq (tgt := 10) (pc := 2) dX5_isFood_2 (by decide) (by first | assumption | (unfold InR; omega)) (by first | assumption | (unfold InR; omega)) (fun c_2 => ?_) (fun c_2 => ?_)
  · refine P_iconst (pc := 10) dX5_isFood_10 ?_
    refine P_goto (tgt := 15) (pc := 11) dX5_isFood_11 (by decide) ?_
    exact P_zret (pc := 15) dX5_isFood_15 rfl (by omega) (QI.mk (by first | exact ⟨by rw [if_pos (by omega)], rfl⟩ | exact ⟨by rw [if_neg (by omega)], rfl⟩))
  · refine P_iload_n (pc := 5) dX5_isFood_5 rfl 0 rfl ?_
    refine P_iconst (pc := 6) dX5_isFood_6 ?_
    refine P_icmp_ne (tgt := 14) (pc := 7) dX5_isFood_7 (by decide) (by first | assumption | (unfold InR; omega)) (by first | assumption | (unfold InR; omega)) (fun c_7 => ?_) (fun c_7 => ?_)
    · refine P_iconst (pc := 14) dX5_isFood_14 ?_
      exact P_zret (pc := 15) dX5_isFood_15 rfl (by omega) (QI.mk (by first | exact ⟨by rw [if_pos (by omega)], rfl⟩ | exact ⟨by rw [if_neg (by omega)], rfl⟩))
    · refine P_iconst (pc := 10) dX5_isFood_10 ?_
      refine P_goto (tgt := 15) (pc := 11) dX5_isFood_11 (by decide) ?_
      exact P_zret (pc := 15) dX5_isFood_15 rfl (by omega) (QI.mk (by first | exact ⟨by rw [if_pos (by omega)], rfl⟩ | exact ⟨by rw [if_neg (by omega)], rfl⟩))
set_option maxHeartbeats 1000000 in
set_option maxRecDepth 100000 in
theorem c_X5_isUnknownAbove {μ : Mem} {k : Int} (hk : InR k) : PC shC 0 mX5_isUnknownAbove [vi k] (μ) (QI (fun z μ' => z = (if 6 ≤ k ∧ (k < 10 ∨ 16 ≤ k) then 1 else 0) ∧ μ' = μ)) := by
  refine PC.of (by decide +kernel) (Nat.le_of_ble_eq_true rfl) ?_
  refine P_sub (L' := [(0, vi k)]) [0] rfl ?_
  refine P_iload_n (pc := 0) dX5_isUnknownAbove_0 rfl 0 rfl ?_
  refine P_bipush (pc := 1) dX5_isUnknownAbove_1 (by decide) ?_
  refine P_icmp_lt (tgt := 22) (pc := 3) dX5_isUnknownAbove_3 (by decide) (by first | assumption | (unfold InR; omega)) (by first | assumption | (unfold InR; omega)) (fun c_3 => ?_) (fun c_3 => ?_)
  · refine P_iconst (pc := 22) dX5_isUnknownAbove_22 ?_
    exact P_zret (pc := 23) dX5_isUnknownAbove_23 rfl (by omega) (QI.mk (by first | exact ⟨by rw [if_pos (by omega)], rfl⟩ | exact ⟨by rw [if_neg (by omega)], rfl⟩))
  · refine P_iload_n (pc := 6) dX5_isUnknownAbove_6 rfl 0 rfl ?_
    refine P_bipush (pc := 7) dX5_isUnknownAbove_7 (by decide) ?_
    refine P_icmp_lt (tgt := 18) (pc := 9) dX5_isUnknownAbove_9 (by decide) (by first | assumption | (unfold InR; omega)) (by first | assumption | (unfold InR; omega)) (fun c_9 => ?_) (fun c_9 => ?_)
    · refine P_iconst (pc := 18) dX5_isUnknownAbove_18 ?_
      refine P_goto (tgt := 23) (pc := 19) dX5_isUnknownAbove_19 (by decide) ?_
      exact P_zret (pc := 23) dX5_isUnknownAbove_23 rfl (by omega) (QI.mk (by first | exact ⟨by rw [if_pos (by omega)], rfl⟩ | exact ⟨by rw [if_neg (by omega)], rfl⟩))
    · refine P_iload_n (pc := 12) dX5_isUnknownAbove_12 rfl 0 rfl ?_
      refine P_bipush (pc := 13) dX5_isUnknownAbove_13 (by decide) ?_
      refine P_icmp_lt (tgt := 22) (pc := 15) dX5_isUnknownAbove_15 (by decide) (by first | assumption | (unfold InR; omega)) (by first | assumption | (unfold InR; omega)) (fun c_15 => ?_) (fun c_15 => ?_)
      · refine P_iconst (pc := 22) dX5_isUnknownAbove_22 ?_
        exact P_zret (pc := 23) dX5_isUnknownAbove_23 rfl (by omega) (QI.mk (by first | exact ⟨by rw [if_pos (by omega)], rfl⟩ | exact ⟨by rw [if_neg (by omega)], rfl⟩))
      · refine P_iconst (pc := 18) dX5_isUnknownAbove_18 ?_
        refine P_goto (tgt := 23) (pc := 19) dX5_isUnknownAbove_19 (by decide) ?_
        exact P_zret (pc := 23) dX5_isUnknownAbove_23 rfl (by omega) (QI.mk (by first | exact ⟨by rw [if_pos (by omega)], rfl⟩ | exact ⟨by rw [if_neg (by omega)], rfl⟩))
set_option maxHeartbeats 1000000 in
set_option maxRecDepth 100000 in
theorem c_X3_isThere {μ : Mem} {t : Int} (ht : InR t) (hn : InR (μ.1 1 6)) : PC shC 0 mX3_isThere [vr 1, vi t] (μ) (QI (fun z μ' => z = (if 0 ≤ t ∧ t < μ.1 1 6 then 1 else 0) ∧ μ' = μ)) := by
  refine PC.of (by decide +kernel) (Nat.le_of_ble_eq_true rfl) ?_
  refine P_sub (L' := [(0, vr 1), (1, vi t)]) [0, 1] rfl ?_
  refine P_iload_n (pc := 0) dX3_isThere_0 rfl 1 rfl ?_
  refine P_if_lt (tgt := 16) (pc := 1) dX3_isThere_1 (by decide) (by first | assumption | (unfold InR; omega)) (fun c_1 => ?_) (fun c_1 => ?_)
  · refine P_iconst (pc := 16) dX3_isThere_16 ?_
    exact P_zret (pc := 17) dX3_isThere_17 rfl (by omega) (QI.mk (by first | exact ⟨by rw [if_pos (by omega)], rfl⟩ | exact ⟨by rw [if_neg (by omega)], rfl⟩))
  · refine P_iload_n (pc := 4) dX3_isThere_4 rfl 1 rfl ?_
    refine P_aload_n (pc := 5) dX3_isThere_5 rfl 0 rfl ?_
    refine P_getI (jj := 6) (pc := 6) dX3_isThere_6 fa_RX3_30 sC_1 fC1_6 rfl ?_
    try simp (disch := decide) only [putI_ne, putI_self, putI_nej]
    refine P_icmp_ge (tgt := 16) (pc := 9) dX3_isThere_9 (by decide) (by first | assumption | (unfold InR; omega)) (by first | assumption | (unfold InR; omega)) (fun c_9 => ?_) (fun c_9 => ?_)
    · refine P_iconst (pc := 16) dX3_isThere_16 ?_
      exact P_zret (pc := 17) dX3_isThere_17 rfl (by omega) (QI.mk (by first | exact ⟨by rw [if_pos (by omega)], rfl⟩ | exact ⟨by rw [if_neg (by omega)], rfl⟩))
    · refine P_iconst (pc := 12) dX3_isThere_12 ?_
      refine P_goto (tgt := 17) (pc := 13) dX3_isThere_13 (by decide) ?_
      exact P_zret (pc := 17) dX3_isThere_17 rfl (by omega) (QI.mk (by first | exact ⟨by rw [if_pos (by omega)], rfl⟩ | exact ⟨by rw [if_neg (by omega)], rfl⟩))
set_option maxHeartbeats 1000000 in
set_option maxRecDepth 100000 in
theorem c_X3_kindOf {μ : Mem} {t : Int} (ht : InR t) : PC shC 0 mX3_kindOf [vr 1, vi t] (μ) (QI (fun z μ' => z = (if 0 ≤ t ∧ t < 12 then μ.1 10 t else 4) ∧ μ' = μ)) := by
  refine PC.of (by decide +kernel) (Nat.le_of_ble_eq_true rfl) ?_
  refine P_sub (L' := [(0, vr 1), (1, vi t)]) [0, 1] rfl ?_
  refine P_iload_n (pc := 0) dX3_kindOf_0 rfl 1 rfl ?_
  refine P_if_lt (tgt := 22) (pc := 1) dX3_kindOf_1 (by decide) (by first | assumption | (unfold InR; omega)) (fun c_1 => ?_) (fun c_1 => ?_)
  · refine P_iconst (pc := 22) dX3_kindOf_22 ?_
    exact P_iret (pc := 23) dX3_kindOf_23 rfl (QI.mk (by first | exact ⟨by rw [if_pos (by omega)], rfl⟩ | exact ⟨by rw [if_neg (by omega)], rfl⟩))
  · refine P_iload_n (pc := 4) dX3_kindOf_4 rfl 1 rfl ?_
    refine P_aload_n (pc := 5) dX3_kindOf_5 rfl 0 rfl ?_
    refine P_getR (pc := 6) dX3_kindOf_6 fa_RX3_9 sC_1 fC1_0 ?_
    refine P_alen (pc := 9) dX3_kindOf_9 sC_10 (by decide) ?_
    refine P_icmp_ge (tgt := 22) (pc := 10) dX3_kindOf_10 (by decide) (by first | assumption | (unfold InR; omega)) (by first | assumption | (unfold InR; omega)) (fun c_10 => ?_) (fun c_10 => ?_)
    · refine P_iconst (pc := 22) dX3_kindOf_22 ?_
      exact P_iret (pc := 23) dX3_kindOf_23 rfl (QI.mk (by first | exact ⟨by rw [if_pos (by omega)], rfl⟩ | exact ⟨by rw [if_neg (by omega)], rfl⟩))
    · refine P_aload_n (pc := 13) dX3_kindOf_13 rfl 0 rfl ?_
      refine P_getR (pc := 14) dX3_kindOf_14 fa_RX3_9 sC_1 fC1_0 ?_
      refine P_iload_n (pc := 17) dX3_kindOf_17 rfl 1 rfl ?_
      refine P_iald (pc := 18) dX3_kindOf_18 sC_10 (by omega) (by omega) (by decide) ?_
      try simp (disch := decide) only [putI_ne, putI_self, putI_nej]
      refine P_goto (tgt := 23) (pc := 19) dX3_kindOf_19 (by decide) ?_
      exact P_iret (pc := 23) dX3_kindOf_23 rfl (QI.mk (by first | exact ⟨by rw [if_pos (by omega)], rfl⟩ | exact ⟨by rw [if_neg (by omega)], rfl⟩))
set_option maxHeartbeats 1000000 in
set_option maxRecDepth 100000 in
theorem c_X3_takenBy {μ : Mem} {t : Int} (ht : InR t) : PC shC 0 mX3_takenBy [vr 1, vi t] (μ) (QI (fun z μ' => z = (if 0 ≤ t ∧ t < 12 then μ.1 11 t else 0) ∧ μ' = μ)) := by
  refine PC.of (by decide +kernel) (Nat.le_of_ble_eq_true rfl) ?_
  refine P_sub (L' := [(0, vr 1), (1, vi t)]) [0, 1] rfl ?_
  refine P_iload_n (pc := 0) dX3_takenBy_0 rfl 1 rfl ?_
  refine P_if_lt (tgt := 22) (pc := 1) dX3_takenBy_1 (by decide) (by first | assumption | (unfold InR; omega)) (fun c_1 => ?_) (fun c_1 => ?_)
  · refine P_iconst (pc := 22) dX3_takenBy_22 ?_
    exact P_iret (pc := 23) dX3_takenBy_23 rfl (QI.mk (by first | exact ⟨by rw [if_pos (by omega)], rfl⟩ | exact ⟨by rw [if_neg (by omega)], rfl⟩))
  · refine P_iload_n (pc := 4) dX3_takenBy_4 rfl 1 rfl ?_
    refine P_aload_n (pc := 5) dX3_takenBy_5 rfl 0 rfl ?_
    refine P_getR (pc := 6) dX3_takenBy_6 fa_RX3_15 sC_1 fC1_1 ?_
    refine P_alen (pc := 9) dX3_takenBy_9 sC_11 (by decide) ?_
    refine P_icmp_ge (tgt := 22) (pc := 10) dX3_takenBy_10 (by decide) (by first | assumption | (unfold InR; omega)) (by first | assumption | (unfold InR; omega)) (fun c_10 => ?_) (fun c_10 => ?_)
    · refine P_iconst (pc := 22) dX3_takenBy_22 ?_
      exact P_iret (pc := 23) dX3_takenBy_23 rfl (QI.mk (by first | exact ⟨by rw [if_pos (by omega)], rfl⟩ | exact ⟨by rw [if_neg (by omega)], rfl⟩))
    · refine P_aload_n (pc := 13) dX3_takenBy_13 rfl 0 rfl ?_
      refine P_getR (pc := 14) dX3_takenBy_14 fa_RX3_15 sC_1 fC1_1 ?_
      refine P_iload_n (pc := 17) dX3_takenBy_17 rfl 1 rfl ?_
      refine P_iald (pc := 18) dX3_takenBy_18 sC_11 (by omega) (by omega) (by decide) ?_
      try simp (disch := decide) only [putI_ne, putI_self, putI_nej]
      refine P_goto (tgt := 23) (pc := 19) dX3_takenBy_19 (by decide) ?_
      exact P_iret (pc := 23) dX3_takenBy_23 rfl (QI.mk (by first | exact ⟨by rw [if_pos (by omega)], rfl⟩ | exact ⟨by rw [if_neg (by omega)], rfl⟩))
set_option maxHeartbeats 1000000 in
set_option maxRecDepth 100000 in
theorem c_X3_ruleOf {μ : Mem} {t : Int} (ht : InR t) : PC shC 0 mX3_ruleOf [vr 1, vi t] (μ) (QI (fun z μ' => z = (if 0 ≤ t ∧ t < 3 then μ.1 12 t else 0) ∧ μ' = μ)) := by
  refine PC.of (by decide +kernel) (Nat.le_of_ble_eq_true rfl) ?_
  refine P_sub (L' := [(0, vr 1), (1, vi t)]) [0, 1] rfl ?_
  refine P_iload_n (pc := 0) dX3_ruleOf_0 rfl 1 rfl ?_
  refine P_if_lt (tgt := 22) (pc := 1) dX3_ruleOf_1 (by decide) (by first | assumption | (unfold InR; omega)) (fun c_1 => ?_) (fun c_1 => ?_)
  · refine P_iconst (pc := 22) dX3_ruleOf_22 ?_
    exact P_iret (pc := 23) dX3_ruleOf_23 rfl (QI.mk (by first | exact ⟨by rw [if_pos (by omega)], rfl⟩ | exact ⟨by rw [if_neg (by omega)], rfl⟩))
  · refine P_iload_n (pc := 4) dX3_ruleOf_4 rfl 1 rfl ?_
    refine P_aload_n (pc := 5) dX3_ruleOf_5 rfl 0 rfl ?_
    refine P_getR (pc := 6) dX3_ruleOf_6 fa_RX3_18 sC_1 fC1_2 ?_
    refine P_alen (pc := 9) dX3_ruleOf_9 sC_12 (by decide) ?_
    refine P_icmp_ge (tgt := 22) (pc := 10) dX3_ruleOf_10 (by decide) (by first | assumption | (unfold InR; omega)) (by first | assumption | (unfold InR; omega)) (fun c_10 => ?_) (fun c_10 => ?_)
    · refine P_iconst (pc := 22) dX3_ruleOf_22 ?_
      exact P_iret (pc := 23) dX3_ruleOf_23 rfl (QI.mk (by first | exact ⟨by rw [if_pos (by omega)], rfl⟩ | exact ⟨by rw [if_neg (by omega)], rfl⟩))
    · refine P_aload_n (pc := 13) dX3_ruleOf_13 rfl 0 rfl ?_
      refine P_getR (pc := 14) dX3_ruleOf_14 fa_RX3_18 sC_1 fC1_2 ?_
      refine P_iload_n (pc := 17) dX3_ruleOf_17 rfl 1 rfl ?_
      refine P_iald (pc := 18) dX3_ruleOf_18 sC_12 (by omega) (by omega) (by decide) ?_
      try simp (disch := decide) only [putI_ne, putI_self, putI_nej]
      refine P_goto (tgt := 23) (pc := 19) dX3_ruleOf_19 (by decide) ?_
      exact P_iret (pc := 23) dX3_ruleOf_23 rfl (QI.mk (by first | exact ⟨by rw [if_pos (by omega)], rfl⟩ | exact ⟨by rw [if_neg (by omega)], rfl⟩))
set_option maxHeartbeats 1000000 in
set_option maxRecDepth 100000 in
theorem c_X3_eventPart {μ : Mem} {e i : Int} (he : 0 ≤ e ∧ e < 60) (hi : 0 ≤ i ∧ i < 5) : PC shC 0 mX3_eventPart [vr 1, vi e, vi i] (μ) (QI (fun z μ' => z = μ.1 13 (e * 5 + i) ∧ μ' = μ)) := by
  refine PC.of (by decide +kernel) (Nat.le_of_ble_eq_true rfl) ?_
  refine P_sub (L' := [(0, vr 1), (1, vi e), (2, vi i)]) [0, 1, 2] rfl ?_
  refine P_iload_n (pc := 0) dX3_eventPart_0 rfl 1 rfl ?_
  refine P_iconst (pc := 1) dX3_eventPart_1 ?_
  refine P_imul (pc := 2) dX3_eventPart_2 ?_
  refine P_iload_n (pc := 3) dX3_eventPart_3 rfl 2 rfl ?_
  refine P_iadd (pc := 4) dX3_eventPart_4 ?_
  refine P_istore_n (L' := [(3, vi _), (0, vr 1), (1, vi _), (2, vi _)]) (pc := 5) dX3_eventPart_5 rfl (by decide) rfl ?_
  refine P_iload_n (pc := 6) dX3_eventPart_6 rfl 0 rfl ?_
  refine P_if_lt (tgt := 28) (pc := 7) dX3_eventPart_7 (by decide) (by first | assumption | (unfold InR; omega)) (fun c_7 => ?_) (fun c_7 => ?_)
  · refine P_iconst (pc := 28) dX3_eventPart_28 ?_
    exact P_iret (pc := 29) dX3_eventPart_29 rfl (QI.mk (by first | (exfalso; omega) | exact ⟨rfl, rfl⟩))
  · refine P_iload_n (pc := 10) dX3_eventPart_10 rfl 0 rfl ?_
    refine P_aload_n (pc := 11) dX3_eventPart_11 rfl 1 rfl ?_
    refine P_getR (pc := 12) dX3_eventPart_12 fa_RX3_21 sC_1 fC1_3 ?_
    refine P_alen (pc := 15) dX3_eventPart_15 sC_13 (by decide) ?_
    refine P_icmp_ge (tgt := 28) (pc := 16) dX3_eventPart_16 (by decide) (by first | assumption | (unfold InR; omega)) (by first | assumption | (unfold InR; omega)) (fun c_16 => ?_) (fun c_16 => ?_)
    · refine P_iconst (pc := 28) dX3_eventPart_28 ?_
      exact P_iret (pc := 29) dX3_eventPart_29 rfl (QI.mk (by first | (exfalso; omega) | exact ⟨rfl, rfl⟩))
    · refine P_aload_n (pc := 19) dX3_eventPart_19 rfl 1 rfl ?_
      refine P_getR (pc := 20) dX3_eventPart_20 fa_RX3_21 sC_1 fC1_3 ?_
      refine P_iload_n (pc := 23) dX3_eventPart_23 rfl 0 rfl ?_
      refine P_iald (pc := 24) dX3_eventPart_24 sC_13 (by omega) (by omega) (by decide) ?_
      try simp (disch := decide) only [putI_ne, putI_self, putI_nej]
      refine P_goto (tgt := 29) (pc := 25) dX3_eventPart_25 (by decide) ?_
      exact P_iret (pc := 29) dX3_eventPart_29 rfl (QI.mk (by first | (exfalso; omega) | exact ⟨rfl, rfl⟩))
set_option maxHeartbeats 1000000 in
set_option maxRecDepth 100000 in
theorem c_X3_factPart {μ : Mem} {e i : Int} (he : 0 ≤ e ∧ e < 12) (hi : 0 ≤ i ∧ i < 3) : PC shC 0 mX3_factPart [vr 1, vi e, vi i] (μ) (QI (fun z μ' => z = μ.1 14 (e * 3 + i) ∧ μ' = μ)) := by
  refine PC.of (by decide +kernel) (Nat.le_of_ble_eq_true rfl) ?_
  refine P_sub (L' := [(0, vr 1), (1, vi e), (2, vi i)]) [0, 1, 2] rfl ?_
  refine P_iload_n (pc := 0) dX3_factPart_0 rfl 1 rfl ?_
  refine P_iconst (pc := 1) dX3_factPart_1 ?_
  refine P_imul (pc := 2) dX3_factPart_2 ?_
  refine P_iload_n (pc := 3) dX3_factPart_3 rfl 2 rfl ?_
  refine P_iadd (pc := 4) dX3_factPart_4 ?_
  refine P_istore_n (L' := [(3, vi _), (0, vr 1), (1, vi _), (2, vi _)]) (pc := 5) dX3_factPart_5 rfl (by decide) rfl ?_
  refine P_iload_n (pc := 6) dX3_factPart_6 rfl 0 rfl ?_
  refine P_if_lt (tgt := 28) (pc := 7) dX3_factPart_7 (by decide) (by first | assumption | (unfold InR; omega)) (fun c_7 => ?_) (fun c_7 => ?_)
  · refine P_iconst (pc := 28) dX3_factPart_28 ?_
    exact P_iret (pc := 29) dX3_factPart_29 rfl (QI.mk (by first | (exfalso; omega) | exact ⟨rfl, rfl⟩))
  · refine P_iload_n (pc := 10) dX3_factPart_10 rfl 0 rfl ?_
    refine P_aload_n (pc := 11) dX3_factPart_11 rfl 1 rfl ?_
    refine P_getR (pc := 12) dX3_factPart_12 fa_RX3_24 sC_1 fC1_4 ?_
    refine P_alen (pc := 15) dX3_factPart_15 sC_14 (by decide) ?_
    refine P_icmp_ge (tgt := 28) (pc := 16) dX3_factPart_16 (by decide) (by first | assumption | (unfold InR; omega)) (by first | assumption | (unfold InR; omega)) (fun c_16 => ?_) (fun c_16 => ?_)
    · refine P_iconst (pc := 28) dX3_factPart_28 ?_
      exact P_iret (pc := 29) dX3_factPart_29 rfl (QI.mk (by first | (exfalso; omega) | exact ⟨rfl, rfl⟩))
    · refine P_aload_n (pc := 19) dX3_factPart_19 rfl 1 rfl ?_
      refine P_getR (pc := 20) dX3_factPart_20 fa_RX3_24 sC_1 fC1_4 ?_
      refine P_iload_n (pc := 23) dX3_factPart_23 rfl 0 rfl ?_
      refine P_iald (pc := 24) dX3_factPart_24 sC_14 (by omega) (by omega) (by decide) ?_
      try simp (disch := decide) only [putI_ne, putI_self, putI_nej]
      refine P_goto (tgt := 29) (pc := 25) dX3_factPart_25 (by decide) ?_
      exact P_iret (pc := 29) dX3_factPart_29 rfl (QI.mk (by first | (exfalso; omega) | exact ⟨rfl, rfl⟩))
set_option maxHeartbeats 1000000 in
set_option maxRecDepth 100000 in
theorem c_X3_stepPart {μ : Mem} {e i : Int} (he : 0 ≤ e ∧ e < 5) (hi : 0 ≤ i ∧ i < 3) : PC shC 0 mX3_stepPart [vr 1, vi e, vi i] (μ) (QI (fun z μ' => z = μ.1 15 (e * 3 + i) ∧ μ' = μ)) := by
  refine PC.of (by decide +kernel) (Nat.le_of_ble_eq_true rfl) ?_
  refine P_sub (L' := [(0, vr 1), (1, vi e), (2, vi i)]) [0, 1, 2] rfl ?_
  refine P_iload_n (pc := 0) dX3_stepPart_0 rfl 1 rfl ?_
  refine P_iconst (pc := 1) dX3_stepPart_1 ?_
  refine P_imul (pc := 2) dX3_stepPart_2 ?_
  refine P_iload_n (pc := 3) dX3_stepPart_3 rfl 2 rfl ?_
  refine P_iadd (pc := 4) dX3_stepPart_4 ?_
  refine P_istore_n (L' := [(3, vi _), (0, vr 1), (1, vi _), (2, vi _)]) (pc := 5) dX3_stepPart_5 rfl (by decide) rfl ?_
  refine P_iload_n (pc := 6) dX3_stepPart_6 rfl 0 rfl ?_
  refine P_if_lt (tgt := 28) (pc := 7) dX3_stepPart_7 (by decide) (by first | assumption | (unfold InR; omega)) (fun c_7 => ?_) (fun c_7 => ?_)
  · refine P_iconst (pc := 28) dX3_stepPart_28 ?_
    exact P_iret (pc := 29) dX3_stepPart_29 rfl (QI.mk (by first | (exfalso; omega) | exact ⟨rfl, rfl⟩))
  · refine P_iload_n (pc := 10) dX3_stepPart_10 rfl 0 rfl ?_
    refine P_aload_n (pc := 11) dX3_stepPart_11 rfl 1 rfl ?_
    refine P_getR (pc := 12) dX3_stepPart_12 fa_RX3_27 sC_1 fC1_5 ?_
    refine P_alen (pc := 15) dX3_stepPart_15 sC_15 (by decide) ?_
    refine P_icmp_ge (tgt := 28) (pc := 16) dX3_stepPart_16 (by decide) (by first | assumption | (unfold InR; omega)) (by first | assumption | (unfold InR; omega)) (fun c_16 => ?_) (fun c_16 => ?_)
    · refine P_iconst (pc := 28) dX3_stepPart_28 ?_
      exact P_iret (pc := 29) dX3_stepPart_29 rfl (QI.mk (by first | (exfalso; omega) | exact ⟨rfl, rfl⟩))
    · refine P_aload_n (pc := 19) dX3_stepPart_19 rfl 1 rfl ?_
      refine P_getR (pc := 20) dX3_stepPart_20 fa_RX3_27 sC_1 fC1_5 ?_
      refine P_iload_n (pc := 23) dX3_stepPart_23 rfl 0 rfl ?_
      refine P_iald (pc := 24) dX3_stepPart_24 sC_15 (by omega) (by omega) (by decide) ?_
      try simp (disch := decide) only [putI_ne, putI_self, putI_nej]
      refine P_goto (tgt := 29) (pc := 25) dX3_stepPart_25 (by decide) ?_
      exact P_iret (pc := 29) dX3_stepPart_29 rfl (QI.mk (by first | (exfalso; omega) | exact ⟨rfl, rfl⟩))
set_option maxHeartbeats 1000000 in
set_option maxRecDepth 100000 in
theorem c_X3_hasPartnerAhead {μ : Mem} (hn : 0 ≤ μ.1 1 6 ∧ μ.1 1 6 ≤ 12) (hk : ∀ j, 0 ≤ μ.1 10 j ∧ μ.1 10 j ≤ 5) : PC shC 1 mX3_hasPartnerAhead [vr 1] (μ) (QI (fun z μ' => z = (if 0 < μ.1 1 6 ∧ μ.1 10 (μ.1 1 6 - 1) ≠ 4 then 1 else 0) ∧ μ' = μ)) := by
  refine PC.of (by decide +kernel) (Nat.le_of_ble_eq_true rfl) ?_
  refine P_sub (L' := [(0, vr 1)]) [0] rfl ?_
  have hk1 := hk (μ.1 1 6 - 1)
  refine P_aload_n (pc := 0) dX3_hasPartnerAhead_0 rfl 0 rfl ?_
  refine P_getI (jj := 6) (pc := 1) dX3_hasPartnerAhead_1 fa_RX3_30 sC_1 fC1_6 rfl ?_
  try simp (disch := decide) only [putI_ne, putI_self, putI_nej]
  refine P_if_le (tgt := 25) (pc := 4) dX3_hasPartnerAhead_4 (by decide) (by first | assumption | (unfold InR; omega)) (fun c_4 => ?_) (fun c_4 => ?_)
  · refine P_iconst (pc := 25) dX3_hasPartnerAhead_25 ?_
    exact P_zret (pc := 26) dX3_hasPartnerAhead_26 rfl (by omega) (QI.mk (by first | exact ⟨by rw [if_pos (by omega)], rfl⟩ | exact ⟨by rw [if_neg (by omega)], rfl⟩))
  · refine P_aload_n (pc := 7) dX3_hasPartnerAhead_7 rfl 0 rfl ?_
    refine P_aload_n (pc := 8) dX3_hasPartnerAhead_8 rfl 0 rfl ?_
    refine P_getI (jj := 6) (pc := 9) dX3_hasPartnerAhead_9 fa_RX3_30 sC_1 fC1_6 rfl ?_
    try simp (disch := decide) only [putI_ne, putI_self, putI_nej]
    refine P_iconst (pc := 12) dX3_hasPartnerAhead_12 ?_
    refine P_isub (pc := 13) dX3_hasPartnerAhead_13 ?_
    refine P_callVi (Y' := mX3_kindOf) (as := [_]) (pc := 14) dX3_hasPartnerAhead_14 rfl (by decide : 0 < 1) sC_1 rfl ml_RX3_40 im_X3_kindOf se_X3_kindOf mk_X3_kindOf (Nat.le_of_ble_eq_true rfl) (c_X3_kindOf (by unfold InR; omega)) (fun z_ μ_ hq => ?_)
    obtain ⟨hz, hμ_⟩ := hq
    have hμ_ := hμ_.symm
    subst hμ_
    rw [if_pos (by omega)] at hz
    try simp (disch := decide) only [putI_ne, putI_self, putI_nej]
    refine P_iconst (pc := 17) dX3_hasPartnerAhead_17 ?_
    refine P_icmp_eq (tgt := 25) (pc := 18) dX3_hasPartnerAhead_18 (by decide) (by first | assumption | (unfold InR; omega)) (by first | assumption | (unfold InR; omega)) (fun c_18 => ?_) (fun c_18 => ?_)
    · refine P_iconst (pc := 25) dX3_hasPartnerAhead_25 ?_
      exact P_zret (pc := 26) dX3_hasPartnerAhead_26 rfl (by omega) (QI.mk (by first | exact ⟨by rw [if_pos (by omega)], rfl⟩ | exact ⟨by rw [if_neg (by omega)], rfl⟩))
    · refine P_iconst (pc := 21) dX3_hasPartnerAhead_21 ?_
      refine P_goto (tgt := 26) (pc := 22) dX3_hasPartnerAhead_22 (by decide) ?_
      exact P_zret (pc := 26) dX3_hasPartnerAhead_26 rfl (by omega) (QI.mk (by first | exact ⟨by rw [if_pos (by omega)], rfl⟩ | exact ⟨by rw [if_neg (by omega)], rfl⟩))
def cTake (μ : Mem) (t v : Int) : Mem := putI (putI μ 11 t v) 1 12 (μ.1 1 12 + 1)
def cRule (μ : Mem) (t v : Int) : Mem := putI (putI μ 12 t v) 1 12 (μ.1 1 12 + 1)
def cDrop (μ : Mem) : Mem := putI (putI μ 1 7 (μ.1 1 7 - 1)) 1 12 (μ.1 1 12 + 1)
def cFact (μ : Mem) (t h c : Int) : Mem := putI (putI (putI (putI μ 14 (μ.1 1 8 * 3) t) 14 (μ.1 1 8 * 3 + 1) h) 14 (μ.1 1 8 * 3 + 2) c) 1 8 (μ.1 1 8 + 1)
def cStep (μ : Mem) (k a b : Int) : Mem := putI (putI (putI (putI μ 15 (μ.1 1 9 * 3) k) 15 (μ.1 1 9 * 3 + 1) a) 15 (μ.1 1 9 * 3 + 2) b) 1 9 (μ.1 1 9 + 1)
def cEvent (μ : Mem) (h k a b u : Int) : Mem := putI (putI (putI (putI (putI (putI (putI μ 13 (μ.1 1 7 * 5) h) 13 (μ.1 1 7 * 5 + 1) k) 13 (μ.1 1 7 * 5 + 2) a) 13 (μ.1 1 7 * 5 + 3) (if k ≤ 4 ∨ k = 9 then b else -9)) 13 (μ.1 1 7 * 5 + 4) u) 1 12 (μ.1 1 12 + 1)) 1 7 (μ.1 1 7 + 1)
set_option maxHeartbeats 1000000 in
set_option maxRecDepth 100000 in
theorem c_X3_setTaken {μ : Mem} {t v : Int} (ht : 0 ≤ t ∧ t < 12) : PC shC 0 mX3_setTaken [vr 1, vi t, vi v] (μ) (QI (fun z μ' => z = μ.1 11 t ∧ μ' = cTake μ t v)) := by
  refine PC.of (by decide +kernel) (Nat.le_of_ble_eq_true rfl) ?_
  refine P_sub (L' := [(0, vr 1), (1, vi t), (2, vi v)]) [0, 1, 2] rfl ?_
  refine P_iload_n (pc := 0) dX3_setTaken_0 rfl 1 rfl ?_
  refine P_if_lt (tgt := 13) (pc := 1) dX3_setTaken_1 (by decide) (by first | assumption | (unfold InR; omega)) (fun c_1 => ?_) (fun c_1 => ?_)
  · refine P_iconst (pc := 13) dX3_setTaken_13 ?_
    exact P_iret (pc := 14) dX3_setTaken_14 rfl (QI.mk (by first | (exfalso; omega) | exact ⟨rfl, rfl⟩))
  · refine P_iload_n (pc := 4) dX3_setTaken_4 rfl 1 rfl ?_
    refine P_aload_n (pc := 5) dX3_setTaken_5 rfl 0 rfl ?_
    refine P_getR (pc := 6) dX3_setTaken_6 fa_RX3_15 sC_1 fC1_1 ?_
    refine P_alen (pc := 9) dX3_setTaken_9 sC_11 (by decide) ?_
    refine P_icmp_lt (tgt := 15) (pc := 10) dX3_setTaken_10 (by decide) (by first | assumption | (unfold InR; omega)) (by first | assumption | (unfold InR; omega)) (fun c_10 => ?_) (fun c_10 => ?_)
    · refine P_aload_n (pc := 15) dX3_setTaken_15 rfl 0 rfl ?_
      refine P_getR (pc := 16) dX3_setTaken_16 fa_RX3_15 sC_1 fC1_1 ?_
      refine P_iload_n (pc := 19) dX3_setTaken_19 rfl 1 rfl ?_
      refine P_iald (pc := 20) dX3_setTaken_20 sC_11 (by omega) (by omega) (by decide) ?_
      try simp (disch := decide) only [putI_ne, putI_self, putI_nej]
      refine P_istore_n (L' := [(3, vi _), (0, vr 1), (1, vi _), (2, vi _)]) (pc := 21) dX3_setTaken_21 rfl (by decide) rfl ?_
      refine P_aload_n (pc := 22) dX3_setTaken_22 rfl 1 rfl ?_
      refine P_getR (pc := 23) dX3_setTaken_23 fa_RX3_15 sC_1 fC1_1 ?_
      refine P_iload_n (pc := 26) dX3_setTaken_26 rfl 2 rfl ?_
      refine P_iload_n (pc := 27) dX3_setTaken_27 rfl 3 rfl ?_
      refine P_iast (pc := 28) dX3_setTaken_28 sC_11 (by omega) (by omega) (by decide) ?_
      try simp (disch := decide) only [putI_ne, putI_self, putI_nej]
      refine P_aload_n (pc := 29) dX3_setTaken_29 rfl 1 rfl ?_
      refine P_dup (pc := 30) dX3_setTaken_30 rfl ?_
      refine P_getI (jj := 12) (pc := 31) dX3_setTaken_31 fa_RX3_44 sC_1 fC1_12 rfl ?_
      try simp (disch := decide) only [putI_ne, putI_self, putI_nej]
      refine P_iconst (pc := 34) dX3_setTaken_34 ?_
      refine P_iadd (pc := 35) dX3_setTaken_35 ?_
      refine P_putI (jj := 12) (pc := 36) dX3_setTaken_36 fa_RX3_44 fp_3_12 sC_1 fC1_12 rfl ?_
      try simp (disch := decide) only [putI_ne, putI_self, putI_nej]
      refine P_iload_n (pc := 39) dX3_setTaken_39 rfl 0 rfl ?_
      exact P_iret (pc := 40) dX3_setTaken_40 rfl (QI.mk (by first | (exfalso; omega) | exact ⟨rfl, rfl⟩))
    · refine P_iconst (pc := 13) dX3_setTaken_13 ?_
      exact P_iret (pc := 14) dX3_setTaken_14 rfl (QI.mk (by first | (exfalso; omega) | exact ⟨rfl, rfl⟩))
set_option maxHeartbeats 1000000 in
set_option maxRecDepth 100000 in
theorem c_X3_dropEvent {μ : Mem}  : PC shC 0 mX3_dropEvent [vr 1] (μ) (QI (fun z μ' => z = μ.1 1 7 - 1 ∧ μ' = cDrop μ)) := by
  refine PC.of (by decide +kernel) (Nat.le_of_ble_eq_true rfl) ?_
  refine P_sub (L' := [(0, vr 1)]) [0] rfl ?_
  refine P_aload_n (pc := 0) dX3_dropEvent_0 rfl 0 rfl ?_
  refine P_dup (pc := 1) dX3_dropEvent_1 rfl ?_
  refine P_getI (jj := 7) (pc := 2) dX3_dropEvent_2 fa_RX3_47 sC_1 fC1_7 rfl ?_
  try simp (disch := decide) only [putI_ne, putI_self, putI_nej]
  refine P_iconst (pc := 5) dX3_dropEvent_5 ?_
  refine P_isub (pc := 6) dX3_dropEvent_6 ?_
  refine P_putI (jj := 7) (pc := 7) dX3_dropEvent_7 fa_RX3_47 fp_3_7 sC_1 fC1_7 rfl ?_
  try simp (disch := decide) only [putI_ne, putI_self, putI_nej]
  refine P_aload_n (pc := 10) dX3_dropEvent_10 rfl 0 rfl ?_
  refine P_dup (pc := 11) dX3_dropEvent_11 rfl ?_
  refine P_getI (jj := 12) (pc := 12) dX3_dropEvent_12 fa_RX3_44 sC_1 fC1_12 rfl ?_
  try simp (disch := decide) only [putI_ne, putI_self, putI_nej]
  refine P_iconst (pc := 15) dX3_dropEvent_15 ?_
  refine P_iadd (pc := 16) dX3_dropEvent_16 ?_
  refine P_putI (jj := 12) (pc := 17) dX3_dropEvent_17 fa_RX3_44 fp_3_12 sC_1 fC1_12 rfl ?_
  try simp (disch := decide) only [putI_ne, putI_self, putI_nej]
  refine P_aload_n (pc := 20) dX3_dropEvent_20 rfl 0 rfl ?_
  refine P_getI (jj := 7) (pc := 21) dX3_dropEvent_21 fa_RX3_47 sC_1 fC1_7 rfl ?_
  try simp (disch := decide) only [putI_ne, putI_self, putI_nej]
  exact P_iret (pc := 24) dX3_dropEvent_24 rfl (QI.mk (by first | (exfalso; omega) | exact ⟨rfl, rfl⟩))
set_option maxHeartbeats 1000000 in
set_option maxRecDepth 100000 in
theorem c_X3_addFact {μ : Mem} {t h c : Int} (hF : 0 ≤ μ.1 1 8 ∧ μ.1 1 8 < 12) (hc : c = 0 ∨ c = 1) : PC shC 0 mX3_addFact [vr 1, vi t, vi h, vi c] (μ) (QI (fun z μ' => z = μ.1 1 8 + 1 ∧ μ' = cFact μ t h c)) := by
  refine PC.of (by decide +kernel) (Nat.le_of_ble_eq_true rfl) ?_
  refine P_sub (L' := [(0, vr 1), (1, vi t), (2, vi h), (3, vi c)]) [0, 1, 2, 3] rfl ?_
  refine P_aload_n (pc := 0) dX3_addFact_0 rfl 0 rfl ?_
  refine P_getI (jj := 8) (pc := 1) dX3_addFact_1 fa_RX3_54 sC_1 fC1_8 rfl ?_
  try simp (disch := decide) only [putI_ne, putI_self, putI_nej]
  refine P_iconst (pc := 4) dX3_addFact_4 ?_
  refine P_imul (pc := 5) dX3_addFact_5 ?_
  refine P_istore (L' := [(4, vi _), (0, vr 1), (1, vi _), (2, vi _), (3, vi _)]) (pc := 6) dX3_addFact_6 (by decide) rfl ?_
  refine P_iload (pc := 8) dX3_addFact_8 0 rfl ?_
  refine P_if_lt (tgt := 25) (pc := 10) dX3_addFact_10 (by decide) (by first | assumption | (unfold InR; omega)) (fun c_10 => ?_) (fun c_10 => ?_)
  · refine P_bipush (pc := 25) dX3_addFact_25 (by decide) ?_
    exact P_iret (pc := 27) dX3_addFact_27 rfl (QI.mk (by first | (exfalso; omega) | (have e1 : c = 0 := (by omega); subst e1; exact ⟨rfl, rfl⟩) | (have e1 : c = 1 := (by omega); subst e1; exact ⟨rfl, rfl⟩)))
  · refine P_iload (pc := 13) dX3_addFact_13 0 rfl ?_
    refine P_iconst (pc := 15) dX3_addFact_15 ?_
    refine P_iadd (pc := 16) dX3_addFact_16 ?_
    refine P_aload_n (pc := 17) dX3_addFact_17 rfl 1 rfl ?_
    refine P_getR (pc := 18) dX3_addFact_18 fa_RX3_24 sC_1 fC1_4 ?_
    refine P_alen (pc := 21) dX3_addFact_21 sC_14 (by decide) ?_
    refine P_icmp_le (tgt := 28) (pc := 22) dX3_addFact_22 (by decide) (by first | assumption | (unfold InR; omega)) (by first | assumption | (unfold InR; omega)) (fun c_22 => ?_) (fun c_22 => ?_)
    · refine P_aload_n (pc := 28) dX3_addFact_28 rfl 1 rfl ?_
      refine P_getR (pc := 29) dX3_addFact_29 fa_RX3_24 sC_1 fC1_4 ?_
      refine P_iload (pc := 32) dX3_addFact_32 0 rfl ?_
      refine P_iload_n (pc := 34) dX3_addFact_34 rfl 2 rfl ?_
      refine P_iast (pc := 35) dX3_addFact_35 sC_14 (by omega) (by omega) (by decide) ?_
      try simp (disch := decide) only [putI_ne, putI_self, putI_nej]
      refine P_aload_n (pc := 36) dX3_addFact_36 rfl 1 rfl ?_
      refine P_getR (pc := 37) dX3_addFact_37 fa_RX3_24 sC_1 fC1_4 ?_
      refine P_iload (pc := 40) dX3_addFact_40 0 rfl ?_
      refine P_iconst (pc := 42) dX3_addFact_42 ?_
      refine P_iadd (pc := 43) dX3_addFact_43 ?_
      refine P_iload_n (pc := 44) dX3_addFact_44 rfl 3 rfl ?_
      refine P_iast (pc := 45) dX3_addFact_45 sC_14 (by omega) (by omega) (by decide) ?_
      try simp (disch := decide) only [putI_ne, putI_self, putI_nej]
      refine P_aload_n (pc := 46) dX3_addFact_46 rfl 1 rfl ?_
      refine P_getR (pc := 47) dX3_addFact_47 fa_RX3_24 sC_1 fC1_4 ?_
      refine P_iload (pc := 50) dX3_addFact_50 0 rfl ?_
      refine P_iconst (pc := 52) dX3_addFact_52 ?_
      refine P_iadd (pc := 53) dX3_addFact_53 ?_
      refine P_iload_n (pc := 54) dX3_addFact_54 rfl 4 rfl ?_
      refine P_if_eq (tgt := 62) (pc := 55) dX3_addFact_55 (by decide) (by first | assumption | (unfold InR; omega)) (fun c_55 => ?_) (fun c_55 => ?_)
      · refine P_iconst (pc := 62) dX3_addFact_62 ?_
        refine P_iast (pc := 63) dX3_addFact_63 sC_14 (by omega) (by omega) (by decide) ?_
        try simp (disch := decide) only [putI_ne, putI_self, putI_nej]
        refine P_aload_n (pc := 64) dX3_addFact_64 rfl 1 rfl ?_
        refine P_dup (pc := 65) dX3_addFact_65 rfl ?_
        refine P_getI (jj := 8) (pc := 66) dX3_addFact_66 fa_RX3_54 sC_1 fC1_8 rfl ?_
        try simp (disch := decide) only [putI_ne, putI_self, putI_nej]
        refine P_iconst (pc := 69) dX3_addFact_69 ?_
        refine P_iadd (pc := 70) dX3_addFact_70 ?_
        refine P_putI (jj := 8) (pc := 71) dX3_addFact_71 fa_RX3_54 fp_3_8 sC_1 fC1_8 rfl ?_
        try simp (disch := decide) only [putI_ne, putI_self, putI_nej]
        refine P_aload_n (pc := 74) dX3_addFact_74 rfl 1 rfl ?_
        refine P_getI (jj := 8) (pc := 75) dX3_addFact_75 fa_RX3_54 sC_1 fC1_8 rfl ?_
        try simp (disch := decide) only [putI_ne, putI_self, putI_nej]
        exact P_iret (pc := 78) dX3_addFact_78 rfl (QI.mk (by first | (exfalso; omega) | (have e1 : c = 0 := (by omega); subst e1; exact ⟨rfl, rfl⟩) | (have e1 : c = 1 := (by omega); subst e1; exact ⟨rfl, rfl⟩)))
      · refine P_iconst (pc := 58) dX3_addFact_58 ?_
        refine P_goto (tgt := 63) (pc := 59) dX3_addFact_59 (by decide) ?_
        refine P_iast (pc := 63) dX3_addFact_63 sC_14 (by omega) (by omega) (by decide) ?_
        try simp (disch := decide) only [putI_ne, putI_self, putI_nej]
        refine P_aload_n (pc := 64) dX3_addFact_64 rfl 1 rfl ?_
        refine P_dup (pc := 65) dX3_addFact_65 rfl ?_
        refine P_getI (jj := 8) (pc := 66) dX3_addFact_66 fa_RX3_54 sC_1 fC1_8 rfl ?_
        try simp (disch := decide) only [putI_ne, putI_self, putI_nej]
        refine P_iconst (pc := 69) dX3_addFact_69 ?_
        refine P_iadd (pc := 70) dX3_addFact_70 ?_
        refine P_putI (jj := 8) (pc := 71) dX3_addFact_71 fa_RX3_54 fp_3_8 sC_1 fC1_8 rfl ?_
        try simp (disch := decide) only [putI_ne, putI_self, putI_nej]
        refine P_aload_n (pc := 74) dX3_addFact_74 rfl 1 rfl ?_
        refine P_getI (jj := 8) (pc := 75) dX3_addFact_75 fa_RX3_54 sC_1 fC1_8 rfl ?_
        try simp (disch := decide) only [putI_ne, putI_self, putI_nej]
        exact P_iret (pc := 78) dX3_addFact_78 rfl (QI.mk (by first | (exfalso; omega) | (have e1 : c = 0 := (by omega); subst e1; exact ⟨rfl, rfl⟩) | (have e1 : c = 1 := (by omega); subst e1; exact ⟨rfl, rfl⟩)))
    · refine P_bipush (pc := 25) dX3_addFact_25 (by decide) ?_
      exact P_iret (pc := 27) dX3_addFact_27 rfl (QI.mk (by first | (exfalso; omega) | (have e1 : c = 0 := (by omega); subst e1; exact ⟨rfl, rfl⟩) | (have e1 : c = 1 := (by omega); subst e1; exact ⟨rfl, rfl⟩)))
set_option maxHeartbeats 1000000 in
set_option maxRecDepth 100000 in
theorem c_X3_addStep {μ : Mem} {k a b : Int} (hS : 0 ≤ μ.1 1 9 ∧ μ.1 1 9 < 5) : PC shC 0 mX3_addStep [vr 1, vi k, vi a, vi b] (μ) (QI (fun z μ' => z = μ.1 1 9 + 1 ∧ μ' = cStep μ k a b)) := by
  refine PC.of (by decide +kernel) (Nat.le_of_ble_eq_true rfl) ?_
  refine P_sub (L' := [(0, vr 1), (1, vi k), (2, vi a), (3, vi b)]) [0, 1, 2, 3] rfl ?_
  refine P_aload_n (pc := 0) dX3_addStep_0 rfl 0 rfl ?_
  refine P_getI (jj := 9) (pc := 1) dX3_addStep_1 fa_RX3_57 sC_1 fC1_9 rfl ?_
  try simp (disch := decide) only [putI_ne, putI_self, putI_nej]
  refine P_iconst (pc := 4) dX3_addStep_4 ?_
  refine P_imul (pc := 5) dX3_addStep_5 ?_
  refine P_istore (L' := [(4, vi _), (0, vr 1), (1, vi _), (2, vi _), (3, vi _)]) (pc := 6) dX3_addStep_6 (by decide) rfl ?_
  refine P_iload (pc := 8) dX3_addStep_8 0 rfl ?_
  refine P_if_lt (tgt := 25) (pc := 10) dX3_addStep_10 (by decide) (by first | assumption | (unfold InR; omega)) (fun c_10 => ?_) (fun c_10 => ?_)
  · refine P_bipush (pc := 25) dX3_addStep_25 (by decide) ?_
    exact P_iret (pc := 27) dX3_addStep_27 rfl (QI.mk (by first | (exfalso; omega) | exact ⟨rfl, rfl⟩))
  · refine P_iload (pc := 13) dX3_addStep_13 0 rfl ?_
    refine P_iconst (pc := 15) dX3_addStep_15 ?_
    refine P_iadd (pc := 16) dX3_addStep_16 ?_
    refine P_aload_n (pc := 17) dX3_addStep_17 rfl 1 rfl ?_
    refine P_getR (pc := 18) dX3_addStep_18 fa_RX3_27 sC_1 fC1_5 ?_
    refine P_alen (pc := 21) dX3_addStep_21 sC_15 (by decide) ?_
    refine P_icmp_le (tgt := 28) (pc := 22) dX3_addStep_22 (by decide) (by first | assumption | (unfold InR; omega)) (by first | assumption | (unfold InR; omega)) (fun c_22 => ?_) (fun c_22 => ?_)
    · refine P_aload_n (pc := 28) dX3_addStep_28 rfl 1 rfl ?_
      refine P_getR (pc := 29) dX3_addStep_29 fa_RX3_27 sC_1 fC1_5 ?_
      refine P_iload (pc := 32) dX3_addStep_32 0 rfl ?_
      refine P_iload_n (pc := 34) dX3_addStep_34 rfl 2 rfl ?_
      refine P_iast (pc := 35) dX3_addStep_35 sC_15 (by omega) (by omega) (by decide) ?_
      try simp (disch := decide) only [putI_ne, putI_self, putI_nej]
      refine P_aload_n (pc := 36) dX3_addStep_36 rfl 1 rfl ?_
      refine P_getR (pc := 37) dX3_addStep_37 fa_RX3_27 sC_1 fC1_5 ?_
      refine P_iload (pc := 40) dX3_addStep_40 0 rfl ?_
      refine P_iconst (pc := 42) dX3_addStep_42 ?_
      refine P_iadd (pc := 43) dX3_addStep_43 ?_
      refine P_iload_n (pc := 44) dX3_addStep_44 rfl 3 rfl ?_
      refine P_iast (pc := 45) dX3_addStep_45 sC_15 (by omega) (by omega) (by decide) ?_
      try simp (disch := decide) only [putI_ne, putI_self, putI_nej]
      refine P_aload_n (pc := 46) dX3_addStep_46 rfl 1 rfl ?_
      refine P_getR (pc := 47) dX3_addStep_47 fa_RX3_27 sC_1 fC1_5 ?_
      refine P_iload (pc := 50) dX3_addStep_50 0 rfl ?_
      refine P_iconst (pc := 52) dX3_addStep_52 ?_
      refine P_iadd (pc := 53) dX3_addStep_53 ?_
      refine P_iload_n (pc := 54) dX3_addStep_54 rfl 4 rfl ?_
      refine P_iast (pc := 55) dX3_addStep_55 sC_15 (by omega) (by omega) (by decide) ?_
      try simp (disch := decide) only [putI_ne, putI_self, putI_nej]
      refine P_aload_n (pc := 56) dX3_addStep_56 rfl 1 rfl ?_
      refine P_dup (pc := 57) dX3_addStep_57 rfl ?_
      refine P_getI (jj := 9) (pc := 58) dX3_addStep_58 fa_RX3_57 sC_1 fC1_9 rfl ?_
      try simp (disch := decide) only [putI_ne, putI_self, putI_nej]
      refine P_iconst (pc := 61) dX3_addStep_61 ?_
      refine P_iadd (pc := 62) dX3_addStep_62 ?_
      refine P_putI (jj := 9) (pc := 63) dX3_addStep_63 fa_RX3_57 fp_3_9 sC_1 fC1_9 rfl ?_
      try simp (disch := decide) only [putI_ne, putI_self, putI_nej]
      refine P_aload_n (pc := 66) dX3_addStep_66 rfl 1 rfl ?_
      refine P_getI (jj := 9) (pc := 67) dX3_addStep_67 fa_RX3_57 sC_1 fC1_9 rfl ?_
      try simp (disch := decide) only [putI_ne, putI_self, putI_nej]
      exact P_iret (pc := 70) dX3_addStep_70 rfl (QI.mk (by first | (exfalso; omega) | exact ⟨rfl, rfl⟩))
    · refine P_bipush (pc := 25) dX3_addStep_25 (by decide) ?_
      exact P_iret (pc := 27) dX3_addStep_27 rfl (QI.mk (by first | (exfalso; omega) | exact ⟨rfl, rfl⟩))
set_option maxHeartbeats 1000000 in
set_option maxRecDepth 100000 in
theorem c_X3_addEvent {μ : Mem} {h k a b u : Int} (hE : 0 ≤ μ.1 1 7 ∧ μ.1 1 7 < 60) (hk : InR k) : PC shC 1 mX3_addEvent [vr 1, vi h, vi k, vi a, vi b, vi u] (μ) (QI (fun z μ' => z = μ.1 1 7 ∧ μ' = cEvent μ h k a b u)) := by
  refine PC.of (by decide +kernel) (Nat.le_of_ble_eq_true rfl) ?_
  refine P_sub (L' := [(0, vr 1), (1, vi h), (2, vi k), (3, vi a), (4, vi b), (5, vi u)]) [0, 1, 2, 3, 4, 5] rfl ?_
  refine P_aload_n (pc := 0) dX3_addEvent_0 rfl 0 rfl ?_
  refine P_getI (jj := 7) (pc := 1) dX3_addEvent_1 fa_RX3_47 sC_1 fC1_7 rfl ?_
  try simp (disch := decide) only [putI_ne, putI_self, putI_nej]
  refine P_iconst (pc := 4) dX3_addEvent_4 ?_
  refine P_imul (pc := 5) dX3_addEvent_5 ?_
  refine P_istore (L' := [(6, vi _), (0, vr 1), (1, vi _), (2, vi _), (3, vi _), (4, vi _), (5, vi _)]) (pc := 6) dX3_addEvent_6 (by decide) rfl ?_
  refine P_iload (pc := 8) dX3_addEvent_8 0 rfl ?_
  refine P_if_lt (tgt := 25) (pc := 10) dX3_addEvent_10 (by decide) (by first | assumption | (unfold InR; omega)) (fun c_10 => ?_) (fun c_10 => ?_)
  · refine P_bipush (pc := 25) dX3_addEvent_25 (by decide) ?_
    exact P_iret (pc := 27) dX3_addEvent_27 rfl (QI.mk (by refine ⟨by first | rfl | (exfalso; omega), ?_⟩; unfold cEvent; first | (exfalso; omega) | (rw [if_pos (by omega)]; done) | (rw [if_neg (by omega)]; done) | (rw [if_pos (by omega)]; rfl) | (rw [if_neg (by omega)]; rfl)))
  · refine P_iload (pc := 13) dX3_addEvent_13 0 rfl ?_
    refine P_iconst (pc := 15) dX3_addEvent_15 ?_
    refine P_iadd (pc := 16) dX3_addEvent_16 ?_
    refine P_aload_n (pc := 17) dX3_addEvent_17 rfl 1 rfl ?_
    refine P_getR (pc := 18) dX3_addEvent_18 fa_RX3_21 sC_1 fC1_3 ?_
    refine P_alen (pc := 21) dX3_addEvent_21 sC_13 (by decide) ?_
    refine P_icmp_le (tgt := 28) (pc := 22) dX3_addEvent_22 (by decide) (by first | assumption | (unfold InR; omega)) (by first | assumption | (unfold InR; omega)) (fun c_22 => ?_) (fun c_22 => ?_)
    · refine P_aload_n (pc := 28) dX3_addEvent_28 rfl 1 rfl ?_
      refine P_getR (pc := 29) dX3_addEvent_29 fa_RX3_21 sC_1 fC1_3 ?_
      refine P_iload (pc := 32) dX3_addEvent_32 0 rfl ?_
      refine P_iload_n (pc := 34) dX3_addEvent_34 rfl 2 rfl ?_
      refine P_iast (pc := 35) dX3_addEvent_35 sC_13 (by omega) (by omega) (by decide) ?_
      try simp (disch := decide) only [putI_ne, putI_self, putI_nej]
      refine P_aload_n (pc := 36) dX3_addEvent_36 rfl 1 rfl ?_
      refine P_getR (pc := 37) dX3_addEvent_37 fa_RX3_21 sC_1 fC1_3 ?_
      refine P_iload (pc := 40) dX3_addEvent_40 0 rfl ?_
      refine P_iconst (pc := 42) dX3_addEvent_42 ?_
      refine P_iadd (pc := 43) dX3_addEvent_43 ?_
      refine P_iload_n (pc := 44) dX3_addEvent_44 rfl 3 rfl ?_
      refine P_iast (pc := 45) dX3_addEvent_45 sC_13 (by omega) (by omega) (by decide) ?_
      try simp (disch := decide) only [putI_ne, putI_self, putI_nej]
      refine P_aload_n (pc := 46) dX3_addEvent_46 rfl 1 rfl ?_
      refine P_getR (pc := 47) dX3_addEvent_47 fa_RX3_21 sC_1 fC1_3 ?_
      refine P_iload (pc := 50) dX3_addEvent_50 0 rfl ?_
      refine P_iconst (pc := 52) dX3_addEvent_52 ?_
      refine P_iadd (pc := 53) dX3_addEvent_53 ?_
      refine P_iload_n (pc := 54) dX3_addEvent_54 rfl 4 rfl ?_
      refine P_iast (pc := 55) dX3_addEvent_55 sC_13 (by omega) (by omega) (by decide) ?_
      try simp (disch := decide) only [putI_ne, putI_self, putI_nej]
      refine P_aload_n (pc := 56) dX3_addEvent_56 rfl 1 rfl ?_
      refine P_getR (pc := 57) dX3_addEvent_57 fa_RX3_21 sC_1 fC1_3 ?_
      refine P_iload (pc := 60) dX3_addEvent_60 0 rfl ?_
      refine P_iconst (pc := 62) dX3_addEvent_62 ?_
      refine P_iadd (pc := 63) dX3_addEvent_63 ?_
      refine P_iload_n (pc := 64) dX3_addEvent_64 rfl 3 rfl ?_
      refine P_callNi (Y' := mX5_hasSecond) (as := [_]) (pc := 65) dX3_addEvent_65 rfl (by decide : 0 < 1) nm_RX3_50 sm_X5_hasSecond mk_X5_hasSecond (Nat.le_of_ble_eq_true rfl) (c_X5_hasSecond hk) (fun z_ μ_ hq => ?_)
      obtain ⟨hz, hμ_⟩ := hq
      subst hμ_
      have hz := ite01 hz
      try simp (disch := decide) only [putI_ne, putI_self, putI_nej]
      refine P_if_eq (tgt := 76) (pc := 68) dX3_addEvent_68 (by decide) (by first | assumption | (unfold InR; omega)) (fun c_68 => ?_) (fun c_68 => ?_)
      · refine P_bipush (pc := 76) dX3_addEvent_76 (by decide) ?_
        refine P_iast (pc := 78) dX3_addEvent_78 sC_13 (by omega) (by omega) (by decide) ?_
        try simp (disch := decide) only [putI_ne, putI_self, putI_nej]
        refine P_aload_n (pc := 79) dX3_addEvent_79 rfl 1 rfl ?_
        refine P_getR (pc := 80) dX3_addEvent_80 fa_RX3_21 sC_1 fC1_3 ?_
        refine P_iload (pc := 83) dX3_addEvent_83 0 rfl ?_
        refine P_iconst (pc := 85) dX3_addEvent_85 ?_
        refine P_iadd (pc := 86) dX3_addEvent_86 ?_
        refine P_iload (pc := 87) dX3_addEvent_87 6 rfl ?_
        refine P_iast (pc := 89) dX3_addEvent_89 sC_13 (by omega) (by omega) (by decide) ?_
        try simp (disch := decide) only [putI_ne, putI_self, putI_nej]
        refine P_aload_n (pc := 90) dX3_addEvent_90 rfl 1 rfl ?_
        refine P_dup (pc := 91) dX3_addEvent_91 rfl ?_
        refine P_getI (jj := 12) (pc := 92) dX3_addEvent_92 fa_RX3_44 sC_1 fC1_12 rfl ?_
        try simp (disch := decide) only [putI_ne, putI_self, putI_nej]
        refine P_iconst (pc := 95) dX3_addEvent_95 ?_
        refine P_iadd (pc := 96) dX3_addEvent_96 ?_
        refine P_putI (jj := 12) (pc := 97) dX3_addEvent_97 fa_RX3_44 fp_3_12 sC_1 fC1_12 rfl ?_
        try simp (disch := decide) only [putI_ne, putI_self, putI_nej]
        refine P_aload_n (pc := 100) dX3_addEvent_100 rfl 1 rfl ?_
        refine P_dup (pc := 101) dX3_addEvent_101 rfl ?_
        refine P_getI (jj := 7) (pc := 102) dX3_addEvent_102 fa_RX3_47 sC_1 fC1_7 rfl ?_
        try simp (disch := decide) only [putI_ne, putI_self, putI_nej]
        refine P_dup_x1 (pc := 105) dX3_addEvent_105 rfl rfl ?_
        refine P_iconst (pc := 106) dX3_addEvent_106 ?_
        refine P_iadd (pc := 107) dX3_addEvent_107 ?_
        refine P_putI (jj := 7) (pc := 108) dX3_addEvent_108 fa_RX3_47 fp_3_7 sC_1 fC1_7 rfl ?_
        try simp (disch := decide) only [putI_ne, putI_self, putI_nej]
        exact P_iret (pc := 111) dX3_addEvent_111 rfl (QI.mk (by refine ⟨by first | rfl | (exfalso; omega), ?_⟩; unfold cEvent; first | (exfalso; omega) | (rw [if_pos (by omega)]; done) | (rw [if_neg (by omega)]; done) | (rw [if_pos (by omega)]; rfl) | (rw [if_neg (by omega)]; rfl)))
      · refine P_iload (pc := 71) dX3_addEvent_71 5 rfl ?_
        refine P_goto (tgt := 78) (pc := 73) dX3_addEvent_73 (by decide) ?_
        refine P_iast (pc := 78) dX3_addEvent_78 sC_13 (by omega) (by omega) (by decide) ?_
        try simp (disch := decide) only [putI_ne, putI_self, putI_nej]
        refine P_aload_n (pc := 79) dX3_addEvent_79 rfl 1 rfl ?_
        refine P_getR (pc := 80) dX3_addEvent_80 fa_RX3_21 sC_1 fC1_3 ?_
        refine P_iload (pc := 83) dX3_addEvent_83 0 rfl ?_
        refine P_iconst (pc := 85) dX3_addEvent_85 ?_
        refine P_iadd (pc := 86) dX3_addEvent_86 ?_
        refine P_iload (pc := 87) dX3_addEvent_87 6 rfl ?_
        refine P_iast (pc := 89) dX3_addEvent_89 sC_13 (by omega) (by omega) (by decide) ?_
        try simp (disch := decide) only [putI_ne, putI_self, putI_nej]
        refine P_aload_n (pc := 90) dX3_addEvent_90 rfl 1 rfl ?_
        refine P_dup (pc := 91) dX3_addEvent_91 rfl ?_
        refine P_getI (jj := 12) (pc := 92) dX3_addEvent_92 fa_RX3_44 sC_1 fC1_12 rfl ?_
        try simp (disch := decide) only [putI_ne, putI_self, putI_nej]
        refine P_iconst (pc := 95) dX3_addEvent_95 ?_
        refine P_iadd (pc := 96) dX3_addEvent_96 ?_
        refine P_putI (jj := 12) (pc := 97) dX3_addEvent_97 fa_RX3_44 fp_3_12 sC_1 fC1_12 rfl ?_
        try simp (disch := decide) only [putI_ne, putI_self, putI_nej]
        refine P_aload_n (pc := 100) dX3_addEvent_100 rfl 1 rfl ?_
        refine P_dup (pc := 101) dX3_addEvent_101 rfl ?_
        refine P_getI (jj := 7) (pc := 102) dX3_addEvent_102 fa_RX3_47 sC_1 fC1_7 rfl ?_
        try simp (disch := decide) only [putI_ne, putI_self, putI_nej]
        refine P_dup_x1 (pc := 105) dX3_addEvent_105 rfl rfl ?_
        refine P_iconst (pc := 106) dX3_addEvent_106 ?_
        refine P_iadd (pc := 107) dX3_addEvent_107 ?_
        refine P_putI (jj := 7) (pc := 108) dX3_addEvent_108 fa_RX3_47 fp_3_7 sC_1 fC1_7 rfl ?_
        try simp (disch := decide) only [putI_ne, putI_self, putI_nej]
        exact P_iret (pc := 111) dX3_addEvent_111 rfl (QI.mk (by refine ⟨by first | rfl | (exfalso; omega), ?_⟩; unfold cEvent; first | (exfalso; omega) | (rw [if_pos (by omega)]; done) | (rw [if_neg (by omega)]; done) | (rw [if_pos (by omega)]; rfl) | (rw [if_neg (by omega)]; rfl)))
    · refine P_bipush (pc := 25) dX3_addEvent_25 (by decide) ?_
      exact P_iret (pc := 27) dX3_addEvent_27 rfl (QI.mk (by refine ⟨by first | rfl | (exfalso; omega), ?_⟩; unfold cEvent; first | (exfalso; omega) | (rw [if_pos (by omega)]; done) | (rw [if_neg (by omega)]; done) | (rw [if_pos (by omega)]; rfl) | (rw [if_neg (by omega)]; rfl)))
