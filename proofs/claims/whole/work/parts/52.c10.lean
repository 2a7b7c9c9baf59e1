/-- the class, its reader at a -/
def plM (μ : Mem) (a : Int) : Mem := putI μ 8 3 a
theorem pl_3 {μ : Mem} {a : Int} : (plM μ a).1 8 3 = a := putI_self
theorem pl_2 {μ : Mem} {a : Int} : (plM μ a).1 8 2 = μ.1 8 2 := putI_nej (by decide)
theorem pl_q {μ : Mem} {a : Int} {q : Nat} (h : q ≠ 8) : (plM μ a).1 q = μ.1 q := putI_ne h
theorem pl_put {μ : Mem} {a a' : Int} : putI (plM μ a) 8 3 a' = plM μ a' := by
  refine Prod.ext ?_ rfl
  funext q j
  by_cases h : q = 8
  · subst h
    by_cases k : j = 3 <;> simp [plM, putI, k]
  · simp [plM, putI, h]
theorem dgR_9 {T : Int → Int} {L a : Int} (h : TL T L) : (dgR T L 9 a).1 = if 48 ≤ sgn T L a ∧ sgn T L a ≤ 57 then sgn T L a - 48 else -1 := by
  unfold dgR
  by_cases q : 48 ≤ sgn T L a ∧ sgn T L a ≤ 57
  · rw [if_pos q, if_pos (by omega)]
  · rw [if_neg q, if_neg (by omega)]
set_option maxHeartbeats 1000000 in
set_option maxRecDepth 100000 in
theorem c_X1_sign {μ : Mem} {a : Int} (hT : TL (μ.1 37) (μ.1 8 2)) (ha : 0 ≤ a ∧ a ≤ μ.1 8 2)  : PC shC 0 mX1_sign [vr 8] (plM μ a) (QI (fun z μ' => z = sgn (μ.1 37) (μ.1 8 2) a ∧ μ' = plM μ a ∧ (-1 ≤ sgn (μ.1 37) (μ.1 8 2) a ∧ sgn (μ.1 37) (μ.1 8 2) a ≤ 255 ∧ (sgn (μ.1 37) (μ.1 8 2) a = -1 ∨ a < μ.1 8 2)))) := by
  refine PC.of (by decide +kernel) (Nat.le_of_ble_eq_true rfl) ?_
  refine P_sub (L' := [(0, vr 8)]) [0] rfl ?_
  have hT2 := hT.2
  have hs := sgn_in (a := a) hT
  have hs2 : sgn (μ.1 37) (μ.1 8 2) a = if a < μ.1 8 2 then μ.1 37 a else -1 := rfl
  refine P_aload_n (pc := 0) dX1_sign_0 rfl 0 rfl ?_
  refine P_getI (jj := 3) (pc := 1) dX1_sign_1 fa_RX1_23 sC_8 fC8_3 rfl ?_
  try simp (disch := decide) only [pl_3, pl_2, pl_q, pl_put]
  refine P_if_lt (tgt := 42) (pc := 4) dX1_sign_4 (by decide) (by first | assumption | (unfold InR; omega)) (fun c_4 => ?_) (fun c_4 => ?_)
  · refine P_iconst (pc := 42) dX1_sign_42 ?_
    exact P_iret (pc := 43) dX1_sign_43 rfl (QI.mk (by first | (exfalso; omega) | (exact ⟨by rw [hs2, if_pos (by omega)], rfl, hs⟩) | (exact ⟨by rw [hs2, if_neg (by omega)], rfl, hs⟩)))
  · refine P_aload_n (pc := 7) dX1_sign_7 rfl 0 rfl ?_
    refine P_getI (jj := 3) (pc := 8) dX1_sign_8 fa_RX1_23 sC_8 fC8_3 rfl ?_
    try simp (disch := decide) only [pl_3, pl_2, pl_q, pl_put]
    refine P_aload_n (pc := 11) dX1_sign_11 rfl 0 rfl ?_
    refine P_getI (jj := 2) (pc := 12) dX1_sign_12 fa_RX1_19 sC_8 fC8_2 rfl ?_
    try simp (disch := decide) only [pl_3, pl_2, pl_q, pl_put]
    refine P_icmp_ge (tgt := 42) (pc := 15) dX1_sign_15 (by decide) (by first | assumption | (unfold InR; omega)) (by first | assumption | (unfold InR; omega)) (fun c_15 => ?_) (fun c_15 => ?_)
    · refine P_iconst (pc := 42) dX1_sign_42 ?_
      exact P_iret (pc := 43) dX1_sign_43 rfl (QI.mk (by first | (exfalso; omega) | (exact ⟨by rw [hs2, if_pos (by omega)], rfl, hs⟩) | (exact ⟨by rw [hs2, if_neg (by omega)], rfl, hs⟩)))
    · refine P_aload_n (pc := 18) dX1_sign_18 rfl 0 rfl ?_
      refine P_getI (jj := 3) (pc := 19) dX1_sign_19 fa_RX1_23 sC_8 fC8_3 rfl ?_
      try simp (disch := decide) only [pl_3, pl_2, pl_q, pl_put]
      refine P_aload_n (pc := 22) dX1_sign_22 rfl 0 rfl ?_
      refine P_getR (pc := 23) dX1_sign_23 fa_RX1_9 sC_8 fC8_1 ?_
      refine P_alen (pc := 26) dX1_sign_26 sC_37 (by decide) ?_
      refine P_icmp_ge (tgt := 42) (pc := 27) dX1_sign_27 (by decide) (by first | assumption | (unfold InR; omega)) (by first | assumption | (unfold InR; omega)) (fun c_27 => ?_) (fun c_27 => ?_)
      · refine P_iconst (pc := 42) dX1_sign_42 ?_
        exact P_iret (pc := 43) dX1_sign_43 rfl (QI.mk (by first | (exfalso; omega) | (exact ⟨by rw [hs2, if_pos (by omega)], rfl, hs⟩) | (exact ⟨by rw [hs2, if_neg (by omega)], rfl, hs⟩)))
      · refine P_aload_n (pc := 30) dX1_sign_30 rfl 0 rfl ?_
        refine P_getR (pc := 31) dX1_sign_31 fa_RX1_9 sC_8 fC8_1 ?_
        refine P_aload_n (pc := 34) dX1_sign_34 rfl 0 rfl ?_
        refine P_getI (jj := 3) (pc := 35) dX1_sign_35 fa_RX1_23 sC_8 fC8_3 rfl ?_
        try simp (disch := decide) only [pl_3, pl_2, pl_q, pl_put]
        refine P_iald (pc := 38) dX1_sign_38 sC_37 (by omega) (by omega) (by decide) ?_
        try simp (disch := decide) only [pl_3, pl_2, pl_q, pl_put]
        refine P_goto (tgt := 43) (pc := 39) dX1_sign_39 (by decide) ?_
        exact P_iret (pc := 43) dX1_sign_43 rfl (QI.mk (by first | (exfalso; omega) | (exact ⟨by rw [hs2, if_pos (by omega)], rfl, hs⟩) | (exact ⟨by rw [hs2, if_neg (by omega)], rfl, hs⟩)))
set_option maxHeartbeats 1000000 in
set_option maxRecDepth 100000 in
theorem c_X1_digit {μ : Mem} {a : Int} (hT : TL (μ.1 37) (μ.1 8 2)) (ha : 0 ≤ a ∧ a ≤ μ.1 8 2)  : PC shC 1 mX1_digit [vr 8] (plM μ a) (QI (fun z μ' => z = (dgR (μ.1 37) (μ.1 8 2) 9 a).1 ∧ μ' = plM μ a ∧ (((dgR (μ.1 37) (μ.1 8 2) 9 a).1 = -1 ∧ (dgR (μ.1 37) (μ.1 8 2) 9 a).2 = a) ∨ (0 ≤ (dgR (μ.1 37) (μ.1 8 2) 9 a).1 ∧ (dgR (μ.1 37) (μ.1 8 2) 9 a).1 ≤ 9 ∧ (dgR (μ.1 37) (μ.1 8 2) 9 a).2 = a + 1 ∧ a < μ.1 8 2)))) := by
  refine PC.of (by decide +kernel) (Nat.le_of_ble_eq_true rfl) ?_
  refine P_sub (L' := [(0, vr 8)]) [0] rfl ?_
  have hT2 := hT.2
  have hs := dgR_in (a := a) (g := 9) hT
  have hs2 := dgR_9 (a := a) hT
  refine P_aload_n (pc := 0) dX1_digit_0 rfl 0 rfl ?_
  refine P_callVi (Y' := mX1_sign) (as := []) (pc := 1) dX1_digit_1 rfl (by decide : 0 < 1) sC_8 rfl ml_RX1_30 im_X1_sign se_X1_sign mk_X1_sign (Nat.le_of_ble_eq_true rfl) (c_X1_sign hT (by omega)) (fun z_ μ_ hq => ?_)
  obtain ⟨rfl, hμ_, hi_⟩ := hq
  subst hμ_
  try simp (disch := decide) only [pl_3, pl_2, pl_q, pl_put]
  refine P_istore_n (L' := [(1, vi _), (0, vr 8)]) (pc := 4) dX1_digit_4 rfl (by decide) rfl ?_
  refine P_iload_n (pc := 5) dX1_digit_5 rfl 0 rfl ?_
  refine P_bipush (pc := 6) dX1_digit_6 (by decide) ?_
  refine P_icmp_lt (tgt := 24) (pc := 8) dX1_digit_8 (by decide) (by first | assumption | (unfold InR; omega)) (by first | assumption | (unfold InR; omega)) (fun c_8 => ?_) (fun c_8 => ?_)
  · refine P_iconst (pc := 24) dX1_digit_24 ?_
    exact P_iret (pc := 25) dX1_digit_25 rfl (QI.mk (by first | (exfalso; omega) | (exact ⟨by rw [hs2, if_pos (by omega)], rfl, hs⟩) | (exact ⟨by rw [hs2, if_neg (by omega)], rfl, hs⟩)))
  · refine P_iload_n (pc := 11) dX1_digit_11 rfl 0 rfl ?_
    refine P_bipush (pc := 12) dX1_digit_12 (by decide) ?_
    refine P_icmp_gt (tgt := 24) (pc := 14) dX1_digit_14 (by decide) (by first | assumption | (unfold InR; omega)) (by first | assumption | (unfold InR; omega)) (fun c_14 => ?_) (fun c_14 => ?_)
    · refine P_iconst (pc := 24) dX1_digit_24 ?_
      exact P_iret (pc := 25) dX1_digit_25 rfl (QI.mk (by first | (exfalso; omega) | (exact ⟨by rw [hs2, if_pos (by omega)], rfl, hs⟩) | (exact ⟨by rw [hs2, if_neg (by omega)], rfl, hs⟩)))
    · refine P_iload_n (pc := 17) dX1_digit_17 rfl 0 rfl ?_
      refine P_bipush (pc := 18) dX1_digit_18 (by decide) ?_
      refine P_isub (pc := 20) dX1_digit_20 ?_
      refine P_goto (tgt := 25) (pc := 21) dX1_digit_21 (by decide) ?_
      exact P_iret (pc := 25) dX1_digit_25 rfl (QI.mk (by first | (exfalso; omega) | (exact ⟨by rw [hs2, if_pos (by omega)], rfl, hs⟩) | (exact ⟨by rw [hs2, if_neg (by omega)], rfl, hs⟩)))
set_option maxHeartbeats 1000000 in
set_option maxRecDepth 100000 in
theorem c_X1_skip {μ : Mem} {a : Int} {c : Int} (hT : TL (μ.1 37) (μ.1 8 2)) (ha : 0 ≤ a ∧ a ≤ μ.1 8 2) (hc : 0 ≤ c ∧ c ≤ 255) : PC shC 1 mX1_skip [vr 8, vi c] (plM μ a) (QI (fun z μ' => z = (tsR (μ.1 37) (μ.1 8 2) c a).1 ∧ μ' = plM μ (tsR (μ.1 37) (μ.1 8 2) c a).2 ∧ (((tsR (μ.1 37) (μ.1 8 2) c a).1 = 0 ∧ (tsR (μ.1 37) (μ.1 8 2) c a).2 = a) ∨ ((tsR (μ.1 37) (μ.1 8 2) c a).1 = 1 ∧ (tsR (μ.1 37) (μ.1 8 2) c a).2 = a + 1 ∧ a < μ.1 8 2)))) := by
  refine PC.of (by decide +kernel) (Nat.le_of_ble_eq_true rfl) ?_
  refine P_sub (L' := [(0, vr 8), (1, vi c)]) [0, 1] rfl ?_
  have hT2 := hT.2
  have hs := tsR_in (a := a) (c := c) hT hc.1
  have hs2 : tsR (μ.1 37) (μ.1 8 2) c a = if sgn (μ.1 37) (μ.1 8 2) a = c then (1, a + 1) else (0, a) := rfl
  refine P_aload_n (pc := 0) dX1_skip_0 rfl 0 rfl ?_
  refine P_callVi (Y' := mX1_sign) (as := []) (pc := 1) dX1_skip_1 rfl (by decide : 0 < 1) sC_8 rfl ml_RX1_30 im_X1_sign se_X1_sign mk_X1_sign (Nat.le_of_ble_eq_true rfl) (c_X1_sign hT (by omega)) (fun z_ μ_ hq => ?_)
  obtain ⟨rfl, hμ_, hi_⟩ := hq
  subst hμ_
  try simp (disch := decide) only [pl_3, pl_2, pl_q, pl_put]
  refine P_iload_n (pc := 4) dX1_skip_4 rfl 1 rfl ?_
  refine P_icmp_eq (tgt := 10) (pc := 5) dX1_skip_5 (by decide) (by first | assumption | (unfold InR; omega)) (by first | assumption | (unfold InR; omega)) (fun c_5 => ?_) (fun c_5 => ?_)
  · refine P_aload_n (pc := 10) dX1_skip_10 rfl 0 rfl ?_
    refine P_dup (pc := 11) dX1_skip_11 rfl ?_
    refine P_getI (jj := 3) (pc := 12) dX1_skip_12 fa_RX1_23 sC_8 fC8_3 rfl ?_
    try simp (disch := decide) only [pl_3, pl_2, pl_q, pl_put]
    refine P_iconst (pc := 15) dX1_skip_15 ?_
    refine P_iadd (pc := 16) dX1_skip_16 ?_
    refine P_putI (jj := 3) (pc := 17) dX1_skip_17 fa_RX1_23 fp_1_3 sC_8 fC8_3 rfl ?_
    try simp (disch := decide) only [pl_3, pl_2, pl_q, pl_put]
    refine P_iconst (pc := 20) dX1_skip_20 ?_
    exact P_zret (pc := 21) dX1_skip_21 rfl (by omega) (QI.mk (by first | (exfalso; omega) | (rw [if_pos (by omega)] at hs2; refine ⟨by rw [hs2], by rw [hs2], hs⟩) | (rw [if_neg (by omega)] at hs2; refine ⟨by rw [hs2], by rw [hs2], hs⟩)))
  · refine P_iconst (pc := 8) dX1_skip_8 ?_
    exact P_zret (pc := 9) dX1_skip_9 rfl (by omega) (QI.mk (by first | (exfalso; omega) | (rw [if_pos (by omega)] at hs2; refine ⟨by rw [hs2], by rw [hs2], hs⟩) | (rw [if_neg (by omega)] at hs2; refine ⟨by rw [hs2], by rw [hs2], hs⟩)))
