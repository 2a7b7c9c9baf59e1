theorem agB_PM {μ ν : Mem} {K : Cel} {o w : Int} (h : PM μ ν) : agB K ν.1 o w = agB K μ.1 o w := by
  unfold agB factB
  rw [h.cell 20 (by decide), h.cell 21 (by decide), h.cell 22 (by decide), h.num 30 (by decide)]
theorem leftB_PM {μ ν : Mem} {K : Cel} {o : Int} {w : Nat} (h : PM μ ν) : leftB K ν.1 o w = leftB K μ.1 o w := by
  unfold leftB
  rw [agB_PM h]
theorem FOK_PM {μ ν : Mem} (h : PM μ ν) (hF : FOK μ.1) : FOK ν.1 := by
  unfold FOK at hF ⊢
  rw [h.cell 20 (by decide), h.cell 21 (by decide), h.cell 22 (by decide), h.num 30 (by decide), h.num 11 (by decide)]
  exact hF
theorem cnt_le (p : Nat → Bool) : ∀ n, cnt p n ≤ n
  | 0 => Nat.le_refl 0
  | n + 1 => by
    have h := cnt_le p n
    simp only [cnt]
    split <;> omega
theorem cnt_cg {p q : Nat → Bool} : ∀ {n : Nat}, (∀ i, i < n → p i = q i) → cnt p n = cnt q n
  | 0, _ => rfl
  | n + 1, h => by
    simp only [cnt]
    rw [cnt_cg (fun i hi => h i (by omega)), h n (by omega)]
/-- which things are clean, as bits -/
def clN (X : Cel) : Nat → Nat
  | 0 => 0
  | n + 1 => clN X n ||| (if X 13 (n : Int) = 0 then 2 ^ n else 0)
theorem clN_lt (X : Cel) : ∀ n, clN X n < 2 ^ n
  | 0 => by show 0 < 1; decide
  | n + 1 => by
    have h := clN_lt X n
    have h2 : (2 : Nat) ^ n < 2 ^ (n + 1) := Nat.pow_lt_pow_right (by decide) (by omega)
    simp only [clN]
    apply Nat.or_lt_two_pow
    · omega
    · split
      · exact h2
      · omega
theorem clN_bit (X : Cel) (t : Nat) : ∀ n, (clN X n).testBit t = decide (t < n ∧ X 13 (t : Int) = 0)
  | 0 => by simp [clN]
  | n + 1 => by
    simp only [clN, Nat.testBit_or, clN_bit X t n]
    by_cases h : t = n
    · subst h
      by_cases h2 : X 13 (t : Int) = 0
      · simp [h2]
      · simp [h2]
    · have e : (t < n + 1) = (t < n) := by apply propext; omega
      by_cases h2 : X 13 (n : Int) = 0
      · simp only [if_pos h2, Nat.testBit_two_pow, e, show ¬ n = t from fun q => h q.symm, decide_false, Bool.or_false]
      · simp [if_neg h2, e]
def manyP (K F : Cel) (o till : Int) (t : Nat) : Nat := cnt (fun w => leftB K F o w && decide (simX K (w : Int) till o 13 (t : Int) = 0)) 64
def leftN (K F : Cel) (o : Int) : Nat := cnt (leftB K F o) 64
def sureP (K F : Cel) (o till : Int) (t : Nat) : Int := if leftN K F o = 0 then -9 else if manyP K F o till t = leftN K F o then 2 else if manyP K F o till t = 0 then 0 else 1
/-- the ways that are left are found; what is clean in each is found, too -/
def LF (K F : Cel) (o : Int) (ν : Mem) : Prop := (∀ w : Nat, w < 64 → ν.1 23 (w : Int) = if leftB K F o w = true then 1 else 0) ∧ ν.1 0 31 = (leftN K F o : Int)
def LC (K F : Cel) (o till : Int) (ν : Mem) : Prop := LF K F o ν ∧ ∀ w : Nat, w < 64 → leftB K F o w = true → ν.1 24 (w : Int) = (clN (simX K (w : Int) till o) (K 0 11).toNat : Int)
theorem w1d {w s : Nat} : ((w - (w &&& s) : Nat) : Int) = 0 ↔ w &&& s = w := by
  have := Nat.and_le_left (n := w) (m := s)
  omega
set_option maxHeartbeats 1000000 in
set_option maxRecDepth 100000 in
theorem l_X6_findLeft {μ : Mem} {K : Cel} {o : Int} (hk : kd μ.1 = K) (hK : KOK K) (hF : FOK μ.1) (ho : o = 0 ∨ o = 1) : ∀ (n j : Nat) (w : Int) (ν : Mem), w = (j : Int) → j ≤ 64 → 64 - j < n → PM μ ν → ν.1 0 31 = (cnt (leftB K μ.1 o) j : Int) → (∀ i : Nat, i < j → ν.1 23 (i : Int) = if leftB K μ.1 o i = true then 1 else 0) → PW shM 5 mX6_findLeft 12 [(0, vr 0), (1, vi o), (2, vi (nmK K : Int)), (3, vi w)] [] ν (QI (fun z μ' => z = (leftN K μ.1 o : Int) ∧ PM μ μ' ∧ LF K μ.1 o μ')) := by
  intro n
  induction n with
  | zero => intro j w ν _ _ q; omega
  | succ n ih =>
  intro j w ν hw hj hn hP hc hL
  have g1 := nmK_lt hK
  have g2 := Nat.and_le_left (n := w.toNat) (m := nmK K)
  have g3 : leftB K μ.1 o j = (decide (w.toNat &&& nmK K = w.toNat) && agB K μ.1 o w) := by subst hw; rfl
  have g4 : cnt (leftB K μ.1 o) (j + 1) = cnt (leftB K μ.1 o) j + (if leftB K μ.1 o j = true then 1 else 0) := rfl
  refine P_iload_n (pc := 12) dX6_findLeft_12 rfl 3 rfl ?_
  refine P_bipush (pc := 13) dX6_findLeft_13 (by decide) ?_
  refine P_icmp_ge (tgt := 81) (pc := 15) dX6_findLeft_15 (by decide) (by unfold InR; omega) (by unfold InR; omega) (fun c_15 => ?_) (fun c_15 => ?_)
  · refine P_aload_n (pc := 81) dX6_findLeft_81 rfl 0 rfl ?_
    refine P_getI (jj := 31) (pc := 82) dX6_findLeft_82 fa_RX6_232 sM_0 fM0_31 rfl ?_
    try simp (disch := decide) only [wr_1, wr_2, wr_3, wr_4, wr_5, wr_6, wr_7, wr_8, wr_9, wr_10, wr_11, wr_12, wr_20, wr_21, wr_22, wr_23, wr_24, wr_25, wr_26, wr_27, wr_28, wr_29, wr_30, wr_13, wr_14, wr_16, wr_17, wr_18, wr_19, wr_15, wo_11, wo_12, wo_14, wo_15, wo_16, wo_30, wo_31, wo_37, wo_40, wo_41, wo_42, wp_13, wp_14, wp_16, wp_17, wp_18, wp_19, wp_0_24, wp_0_25, xn_0_13, xn_0_14, xn_0_15, xn_0_16, xn_0_17, xn_0_18, xn_0_19, xn_13_0, xn_13_14, xn_13_15, xn_13_16, xn_13_17, xn_13_18, xn_13_19, xn_14_0, xn_14_13, xn_14_15, xn_14_16, xn_14_17, xn_14_18, xn_14_19, xn_15_0, xn_15_13, xn_15_14, xn_15_16, xn_15_17, xn_15_18, xn_15_19, xn_16_0, xn_16_13, xn_16_14, xn_16_15, xn_16_17, xn_16_18, xn_16_19, xn_17_0, xn_17_13, xn_17_14, xn_17_15, xn_17_16, xn_17_18, xn_17_19, xn_18_0, xn_18_13, xn_18_14, xn_18_15, xn_18_16, xn_18_17, xn_18_19, xn_19_0, xn_19_13, xn_19_14, xn_19_15, xn_19_16, xn_19_17, xn_19_18, kr_2, kr_3, kr_4, kr_5, kr_6, kr_7, kr_8, kr_9, kr_10, kr_11, setW_put15, setW_24, setW_25, setW_2, kd_11, kd_12, setW_setW, putI_ne, putI_eq, putI_2, if_true, if_pos]
    exact P_iret (pc := 85) dX6_findLeft_85 rfl (QI.mk (by have e9 : j = 64 := (by omega); subst e9; exact ⟨hc, hP, fun i hi => hL i hi, hc⟩))
  · refine P_aload_n (pc := 18) dX6_findLeft_18 rfl 0 rfl ?_
    refine P_getR (pc := 19) dX6_findLeft_19 fa_RX6_77 sM_0 fM0_29 ?_
    refine P_iload_n (pc := 22) dX6_findLeft_22 rfl 3 rfl ?_
    refine P_iconst (pc := 23) dX6_findLeft_23 ?_
    refine P_zast (pc := 24) dX6_findLeft_24 sM_23 (by omega) (by omega) (by decide) (by omega) ?_
    try simp (disch := decide) only [wr_1, wr_2, wr_3, wr_4, wr_5, wr_6, wr_7, wr_8, wr_9, wr_10, wr_11, wr_12, wr_20, wr_21, wr_22, wr_23, wr_24, wr_25, wr_26, wr_27, wr_28, wr_29, wr_30, wr_13, wr_14, wr_16, wr_17, wr_18, wr_19, wr_15, wo_11, wo_12, wo_14, wo_15, wo_16, wo_30, wo_31, wo_37, wo_40, wo_41, wo_42, wp_13, wp_14, wp_16, wp_17, wp_18, wp_19, wp_0_24, wp_0_25, xn_0_13, xn_0_14, xn_0_15, xn_0_16, xn_0_17, xn_0_18, xn_0_19, xn_13_0, xn_13_14, xn_13_15, xn_13_16, xn_13_17, xn_13_18, xn_13_19, xn_14_0, xn_14_13, xn_14_15, xn_14_16, xn_14_17, xn_14_18, xn_14_19, xn_15_0, xn_15_13, xn_15_14, xn_15_16, xn_15_17, xn_15_18, xn_15_19, xn_16_0, xn_16_13, xn_16_14, xn_16_15, xn_16_17, xn_16_18, xn_16_19, xn_17_0, xn_17_13, xn_17_14, xn_17_15, xn_17_16, xn_17_18, xn_17_19, xn_18_0, xn_18_13, xn_18_14, xn_18_15, xn_18_16, xn_18_17, xn_18_19, xn_19_0, xn_19_13, xn_19_14, xn_19_15, xn_19_16, xn_19_17, xn_19_18, kr_2, kr_3, kr_4, kr_5, kr_6, kr_7, kr_8, kr_9, kr_10, kr_11, setW_put15, setW_24, setW_25, setW_2, kd_11, kd_12, setW_setW, putI_ne, putI_eq, putI_2, if_true, if_pos]
    refine P_iload_n (pc := 25) dX6_findLeft_25 rfl 3 rfl ?_
    refine P_iload_n (pc := 26) dX6_findLeft_26 rfl 2 rfl ?_
    refine P_iconst (pc := 27) dX6_findLeft_27 ?_
    refine P_ixor (pc := 28) dX6_findLeft_28 (wI_not _) ?_
    refine P_iand (pc := 29) dX6_findLeft_29 (wI_andn (by omega) (by omega)) ?_
    refine P_if_eq (tgt := 36) (pc := 30) dX6_findLeft_30 (by decide) (by unfold InR; omega) (fun c_30 => ?_) (fun c_30 => ?_)
    · refine P_aload_n (pc := 36) dX6_findLeft_36 rfl 0 rfl ?_
      refine P_iload_n (pc := 37) dX6_findLeft_37 rfl 1 rfl ?_
      refine P_callVv (Y' := mX6_begins) (as := [_]) (pc := 38) dX6_findLeft_38 rfl (by decide : 0 < 5) sM_0 rfl ml_RX6_215 im_X6_begins se_X6_begins mk_X6_begins (Nat.le_of_ble_eq_true rfl) (c_begins ((PM_kd (hP.put (by unfold scr; omega))).trans hk) hK ho) (fun μ_ hq => ?_)
      obtain ⟨S, hS, rfl⟩ := hq
      try simp (disch := decide) only [wr_1, wr_2, wr_3, wr_4, wr_5, wr_6, wr_7, wr_8, wr_9, wr_10, wr_11, wr_12, wr_20, wr_21, wr_22, wr_23, wr_24, wr_25, wr_26, wr_27, wr_28, wr_29, wr_30, wr_13, wr_14, wr_16, wr_17, wr_18, wr_19, wr_15, wo_11, wo_12, wo_14, wo_15, wo_16, wo_30, wo_31, wo_37, wo_40, wo_41, wo_42, wp_13, wp_14, wp_16, wp_17, wp_18, wp_19, wp_0_24, wp_0_25, xn_0_13, xn_0_14, xn_0_15, xn_0_16, xn_0_17, xn_0_18, xn_0_19, xn_13_0, xn_13_14, xn_13_15, xn_13_16, xn_13_17, xn_13_18, xn_13_19, xn_14_0, xn_14_13, xn_14_15, xn_14_16, xn_14_17, xn_14_18, xn_14_19, xn_15_0, xn_15_13, xn_15_14, xn_15_16, xn_15_17, xn_15_18, xn_15_19, xn_16_0, xn_16_13, xn_16_14, xn_16_15, xn_16_17, xn_16_18, xn_16_19, xn_17_0, xn_17_13, xn_17_14, xn_17_15, xn_17_16, xn_17_18, xn_17_19, xn_18_0, xn_18_13, xn_18_14, xn_18_15, xn_18_16, xn_18_17, xn_18_19, xn_19_0, xn_19_13, xn_19_14, xn_19_15, xn_19_16, xn_19_17, xn_19_18, kr_2, kr_3, kr_4, kr_5, kr_6, kr_7, kr_8, kr_9, kr_10, kr_11, setW_put15, setW_24, setW_25, setW_2, kd_11, kd_12, setW_setW, putI_ne, putI_eq, putI_2, if_true, if_pos]
      refine P_aload_n (pc := 41) dX6_findLeft_41 rfl 0 rfl ?_
      refine P_getR (pc := 42) dX6_findLeft_42 fa_RX6_77 sM_0 fM0_29 ?_
      refine P_iload_n (pc := 45) dX6_findLeft_45 rfl 3 rfl ?_
      refine P_aload_n (pc := 46) dX6_findLeft_46 rfl 0 rfl ?_
      refine P_iload_n (pc := 47) dX6_findLeft_47 rfl 3 rfl ?_
      refine P_callVi (Y' := mX6_agrees) (as := [_]) (pc := 48) dX6_findLeft_48 rfl (by decide : 4 < 5) sM_0 rfl ml_RX6_235 im_X6_agrees se_X6_agrees mk_X6_agrees (Nat.le_of_ble_eq_true rfl) (c_X6_agrees ((PM_kd (hP.put (by unfold scr; omega))).trans hk) hK (FOK_PM (hP.put (by unfold scr; omega)) hF) ho (by omega) hS) (fun z_ μ_ hq => ?_)
      obtain ⟨hz, X, rfl⟩ := hq
      rw [agB_PM (hP.put (by unfold scr; omega))] at hz
      have hz2 : z_ = 0 ∨ z_ = 1 := by rw [hz]; split <;> omega
      try simp (disch := decide) only [wr_1, wr_2, wr_3, wr_4, wr_5, wr_6, wr_7, wr_8, wr_9, wr_10, wr_11, wr_12, wr_20, wr_21, wr_22, wr_23, wr_24, wr_25, wr_26, wr_27, wr_28, wr_29, wr_30, wr_13, wr_14, wr_16, wr_17, wr_18, wr_19, wr_15, wo_11, wo_12, wo_14, wo_15, wo_16, wo_30, wo_31, wo_37, wo_40, wo_41, wo_42, wp_13, wp_14, wp_16, wp_17, wp_18, wp_19, wp_0_24, wp_0_25, xn_0_13, xn_0_14, xn_0_15, xn_0_16, xn_0_17, xn_0_18, xn_0_19, xn_13_0, xn_13_14, xn_13_15, xn_13_16, xn_13_17, xn_13_18, xn_13_19, xn_14_0, xn_14_13, xn_14_15, xn_14_16, xn_14_17, xn_14_18, xn_14_19, xn_15_0, xn_15_13, xn_15_14, xn_15_16, xn_15_17, xn_15_18, xn_15_19, xn_16_0, xn_16_13, xn_16_14, xn_16_15, xn_16_17, xn_16_18, xn_16_19, xn_17_0, xn_17_13, xn_17_14, xn_17_15, xn_17_16, xn_17_18, xn_17_19, xn_18_0, xn_18_13, xn_18_14, xn_18_15, xn_18_16, xn_18_17, xn_18_19, xn_19_0, xn_19_13, xn_19_14, xn_19_15, xn_19_16, xn_19_17, xn_19_18, kr_2, kr_3, kr_4, kr_5, kr_6, kr_7, kr_8, kr_9, kr_10, kr_11, setW_put15, setW_24, setW_25, setW_2, kd_11, kd_12, setW_setW, putI_ne, putI_eq, putI_2, if_true, if_pos]
      refine P_zast (pc := 51) dX6_findLeft_51 sM_23 (by omega) (by omega) (by decide) (by omega) ?_
      try simp (disch := decide) only [wr_1, wr_2, wr_3, wr_4, wr_5, wr_6, wr_7, wr_8, wr_9, wr_10, wr_11, wr_12, wr_20, wr_21, wr_22, wr_23, wr_24, wr_25, wr_26, wr_27, wr_28, wr_29, wr_30, wr_13, wr_14, wr_16, wr_17, wr_18, wr_19, wr_15, wo_11, wo_12, wo_14, wo_15, wo_16, wo_30, wo_31, wo_37, wo_40, wo_41, wo_42, wp_13, wp_14, wp_16, wp_17, wp_18, wp_19, wp_0_24, wp_0_25, xn_0_13, xn_0_14, xn_0_15, xn_0_16, xn_0_17, xn_0_18, xn_0_19, xn_13_0, xn_13_14, xn_13_15, xn_13_16, xn_13_17, xn_13_18, xn_13_19, xn_14_0, xn_14_13, xn_14_15, xn_14_16, xn_14_17, xn_14_18, xn_14_19, xn_15_0, xn_15_13, xn_15_14, xn_15_16, xn_15_17, xn_15_18, xn_15_19, xn_16_0, xn_16_13, xn_16_14, xn_16_15, xn_16_17, xn_16_18, xn_16_19, xn_17_0, xn_17_13, xn_17_14, xn_17_15, xn_17_16, xn_17_18, xn_17_19, xn_18_0, xn_18_13, xn_18_14, xn_18_15, xn_18_16, xn_18_17, xn_18_19, xn_19_0, xn_19_13, xn_19_14, xn_19_15, xn_19_16, xn_19_17, xn_19_18, kr_2, kr_3, kr_4, kr_5, kr_6, kr_7, kr_8, kr_9, kr_10, kr_11, setW_put15, setW_24, setW_25, setW_2, kd_11, kd_12, setW_setW, putI_ne, putI_eq, putI_2, if_true, if_pos]
      refine P_aload_n (pc := 52) dX6_findLeft_52 rfl 0 rfl ?_
      refine P_dup (pc := 53) dX6_findLeft_53 rfl ?_
      refine P_getI (jj := 31) (pc := 54) dX6_findLeft_54 fa_RX6_232 sM_0 fM0_31 rfl ?_
      try simp (disch := decide) only [wr_1, wr_2, wr_3, wr_4, wr_5, wr_6, wr_7, wr_8, wr_9, wr_10, wr_11, wr_12, wr_20, wr_21, wr_22, wr_23, wr_24, wr_25, wr_26, wr_27, wr_28, wr_29, wr_30, wr_13, wr_14, wr_16, wr_17, wr_18, wr_19, wr_15, wo_11, wo_12, wo_14, wo_15, wo_16, wo_30, wo_31, wo_37, wo_40, wo_41, wo_42, wp_13, wp_14, wp_16, wp_17, wp_18, wp_19, wp_0_24, wp_0_25, xn_0_13, xn_0_14, xn_0_15, xn_0_16, xn_0_17, xn_0_18, xn_0_19, xn_13_0, xn_13_14, xn_13_15, xn_13_16, xn_13_17, xn_13_18, xn_13_19, xn_14_0, xn_14_13, xn_14_15, xn_14_16, xn_14_17, xn_14_18, xn_14_19, xn_15_0, xn_15_13, xn_15_14, xn_15_16, xn_15_17, xn_15_18, xn_15_19, xn_16_0, xn_16_13, xn_16_14, xn_16_15, xn_16_17, xn_16_18, xn_16_19, xn_17_0, xn_17_13, xn_17_14, xn_17_15, xn_17_16, xn_17_18, xn_17_19, xn_18_0, xn_18_13, xn_18_14, xn_18_15, xn_18_16, xn_18_17, xn_18_19, xn_19_0, xn_19_13, xn_19_14, xn_19_15, xn_19_16, xn_19_17, xn_19_18, kr_2, kr_3, kr_4, kr_5, kr_6, kr_7, kr_8, kr_9, kr_10, kr_11, setW_put15, setW_24, setW_25, setW_2, kd_11, kd_12, setW_setW, putI_ne, putI_eq, putI_2, if_true, if_pos]
      refine P_aload_n (pc := 57) dX6_findLeft_57 rfl 0 rfl ?_
      refine P_getR (pc := 58) dX6_findLeft_58 fa_RX6_77 sM_0 fM0_29 ?_
      refine P_iload_n (pc := 61) dX6_findLeft_61 rfl 3 rfl ?_
      refine P_zald (pc := 62) dX6_findLeft_62 sM_23 (by omega) (by omega) (by decide) ?_
      try simp (disch := decide) only [wr_1, wr_2, wr_3, wr_4, wr_5, wr_6, wr_7, wr_8, wr_9, wr_10, wr_11, wr_12, wr_20, wr_21, wr_22, wr_23, wr_24, wr_25, wr_26, wr_27, wr_28, wr_29, wr_30, wr_13, wr_14, wr_16, wr_17, wr_18, wr_19, wr_15, wo_11, wo_12, wo_14, wo_15, wo_16, wo_30, wo_31, wo_37, wo_40, wo_41, wo_42, wp_13, wp_14, wp_16, wp_17, wp_18, wp_19, wp_0_24, wp_0_25, xn_0_13, xn_0_14, xn_0_15, xn_0_16, xn_0_17, xn_0_18, xn_0_19, xn_13_0, xn_13_14, xn_13_15, xn_13_16, xn_13_17, xn_13_18, xn_13_19, xn_14_0, xn_14_13, xn_14_15, xn_14_16, xn_14_17, xn_14_18, xn_14_19, xn_15_0, xn_15_13, xn_15_14, xn_15_16, xn_15_17, xn_15_18, xn_15_19, xn_16_0, xn_16_13, xn_16_14, xn_16_15, xn_16_17, xn_16_18, xn_16_19, xn_17_0, xn_17_13, xn_17_14, xn_17_15, xn_17_16, xn_17_18, xn_17_19, xn_18_0, xn_18_13, xn_18_14, xn_18_15, xn_18_16, xn_18_17, xn_18_19, xn_19_0, xn_19_13, xn_19_14, xn_19_15, xn_19_16, xn_19_17, xn_19_18, kr_2, kr_3, kr_4, kr_5, kr_6, kr_7, kr_8, kr_9, kr_10, kr_11, setW_put15, setW_24, setW_25, setW_2, kd_11, kd_12, setW_setW, putI_ne, putI_eq, putI_2, if_true, if_pos]
      refine P_if_eq (tgt := 70) (pc := 63) dX6_findLeft_63 (by decide) (by unfold InR; omega) (fun c_63 => ?_) (fun c_63 => ?_)
      · refine P_iconst (pc := 70) dX6_findLeft_70 ?_
        refine P_iadd (pc := 71) dX6_findLeft_71 ?_
        refine P_putI (jj := 31) (pc := 72) dX6_findLeft_72 fa_RX6_232 fp_6_31 sM_0 fM0_31 rfl ?_
        try simp (disch := decide) only [wr_1, wr_2, wr_3, wr_4, wr_5, wr_6, wr_7, wr_8, wr_9, wr_10, wr_11, wr_12, wr_20, wr_21, wr_22, wr_23, wr_24, wr_25, wr_26, wr_27, wr_28, wr_29, wr_30, wr_13, wr_14, wr_16, wr_17, wr_18, wr_19, wr_15, wo_11, wo_12, wo_14, wo_15, wo_16, wo_30, wo_31, wo_37, wo_40, wo_41, wo_42, wp_13, wp_14, wp_16, wp_17, wp_18, wp_19, wp_0_24, wp_0_25, xn_0_13, xn_0_14, xn_0_15, xn_0_16, xn_0_17, xn_0_18, xn_0_19, xn_13_0, xn_13_14, xn_13_15, xn_13_16, xn_13_17, xn_13_18, xn_13_19, xn_14_0, xn_14_13, xn_14_15, xn_14_16, xn_14_17, xn_14_18, xn_14_19, xn_15_0, xn_15_13, xn_15_14, xn_15_16, xn_15_17, xn_15_18, xn_15_19, xn_16_0, xn_16_13, xn_16_14, xn_16_15, xn_16_17, xn_16_18, xn_16_19, xn_17_0, xn_17_13, xn_17_14, xn_17_15, xn_17_16, xn_17_18, xn_17_19, xn_18_0, xn_18_13, xn_18_14, xn_18_15, xn_18_16, xn_18_17, xn_18_19, xn_19_0, xn_19_13, xn_19_14, xn_19_15, xn_19_16, xn_19_17, xn_19_18, kr_2, kr_3, kr_4, kr_5, kr_6, kr_7, kr_8, kr_9, kr_10, kr_11, setW_put15, setW_24, setW_25, setW_2, kd_11, kd_12, setW_setW, putI_ne, putI_eq, putI_2, if_true, if_pos]
        refine P_iinc (L' := [(3, vi _), (0, vr 0), (1, vi _), (2, vi _)]) (pc := 75) dX6_findLeft_75 (by decide) 3 rfl rfl ?_
        refine P_goto (tgt := 12) (pc := 78) dX6_findLeft_78 (by decide) ?_
        refine P_sub (L' := [(0, vr 0), (1, vi _), (2, vi _), (3, vi _)]) [1, 2, 3, 0] rfl ?_
        refine ih (j + 1) (w + 1) _ (by omega) (by omega) (by omega) (by first | exact ((hP.put (by unfold scr; omega))) | exact (((PM_setW (hP.put (by unfold scr; omega))).put (by unfold scr; omega)).put (by unfold scr; omega))) ?_ (fun i hi => ?_)
        · clear ih hL
          simp (disch := decide) only [wr_1, wr_2, wr_3, wr_4, wr_5, wr_6, wr_7, wr_8, wr_9, wr_10, wr_11, wr_12, wr_20, wr_21, wr_22, wr_23, wr_24, wr_25, wr_26, wr_27, wr_28, wr_29, wr_30, wr_13, wr_14, wr_16, wr_17, wr_18, wr_19, wr_15, wo_11, wo_12, wo_14, wo_15, wo_16, wo_30, wo_31, wo_37, wo_40, wo_41, wo_42, wp_13, wp_14, wp_16, wp_17, wp_18, wp_19, wp_0_24, wp_0_25, xn_0_13, xn_0_14, xn_0_15, xn_0_16, xn_0_17, xn_0_18, xn_0_19, xn_13_0, xn_13_14, xn_13_15, xn_13_16, xn_13_17, xn_13_18, xn_13_19, xn_14_0, xn_14_13, xn_14_15, xn_14_16, xn_14_17, xn_14_18, xn_14_19, xn_15_0, xn_15_13, xn_15_14, xn_15_16, xn_15_17, xn_15_18, xn_15_19, xn_16_0, xn_16_13, xn_16_14, xn_16_15, xn_16_17, xn_16_18, xn_16_19, xn_17_0, xn_17_13, xn_17_14, xn_17_15, xn_17_16, xn_17_18, xn_17_19, xn_18_0, xn_18_13, xn_18_14, xn_18_15, xn_18_16, xn_18_17, xn_18_19, xn_19_0, xn_19_13, xn_19_14, xn_19_15, xn_19_16, xn_19_17, xn_19_18, kr_2, kr_3, kr_4, kr_5, kr_6, kr_7, kr_8, kr_9, kr_10, kr_11, setW_put15, setW_24, setW_25, setW_2, kd_11, kd_12, setW_setW, putI_ne, putI_eq]
          rw [g4, g3]
          simp only [Int.toNat_natCast, ne_eq, w1d] at c_30
          clear hk hK hF ho hP
          grind
        · clear ih
          simp (disch := decide) only [wr_1, wr_2, wr_3, wr_4, wr_5, wr_6, wr_7, wr_8, wr_9, wr_10, wr_11, wr_12, wr_20, wr_21, wr_22, wr_23, wr_24, wr_25, wr_26, wr_27, wr_28, wr_29, wr_30, wr_13, wr_14, wr_16, wr_17, wr_18, wr_19, wr_15, wo_11, wo_12, wo_14, wo_15, wo_16, wo_30, wo_31, wo_37, wo_40, wo_41, wo_42, wp_13, wp_14, wp_16, wp_17, wp_18, wp_19, wp_0_24, wp_0_25, xn_0_13, xn_0_14, xn_0_15, xn_0_16, xn_0_17, xn_0_18, xn_0_19, xn_13_0, xn_13_14, xn_13_15, xn_13_16, xn_13_17, xn_13_18, xn_13_19, xn_14_0, xn_14_13, xn_14_15, xn_14_16, xn_14_17, xn_14_18, xn_14_19, xn_15_0, xn_15_13, xn_15_14, xn_15_16, xn_15_17, xn_15_18, xn_15_19, xn_16_0, xn_16_13, xn_16_14, xn_16_15, xn_16_17, xn_16_18, xn_16_19, xn_17_0, xn_17_13, xn_17_14, xn_17_15, xn_17_16, xn_17_18, xn_17_19, xn_18_0, xn_18_13, xn_18_14, xn_18_15, xn_18_16, xn_18_17, xn_18_19, xn_19_0, xn_19_13, xn_19_14, xn_19_15, xn_19_16, xn_19_17, xn_19_18, kr_2, kr_3, kr_4, kr_5, kr_6, kr_7, kr_8, kr_9, kr_10, kr_11, setW_put15, setW_24, setW_25, setW_2, kd_11, kd_12, setW_setW, putI_ne, putI_eq]
          rcases Nat.lt_or_ge i j with q | q
          · have q2 : ¬ (i : Int) = w := by omega
            simp only [if_neg q2]
            exact hL i q
          · have e : i = j := by omega
            subst e
            rw [← hw, g3]
            simp only [Int.toNat_natCast, ne_eq, w1d] at c_30
            clear hk hK hF ho hP hL
            grind
      · refine P_iconst (pc := 66) dX6_findLeft_66 ?_
        refine P_goto (tgt := 71) (pc := 67) dX6_findLeft_67 (by decide) ?_
        refine P_iadd (pc := 71) dX6_findLeft_71 ?_
        refine P_putI (jj := 31) (pc := 72) dX6_findLeft_72 fa_RX6_232 fp_6_31 sM_0 fM0_31 rfl ?_
        try simp (disch := decide) only [wr_1, wr_2, wr_3, wr_4, wr_5, wr_6, wr_7, wr_8, wr_9, wr_10, wr_11, wr_12, wr_20, wr_21, wr_22, wr_23, wr_24, wr_25, wr_26, wr_27, wr_28, wr_29, wr_30, wr_13, wr_14, wr_16, wr_17, wr_18, wr_19, wr_15, wo_11, wo_12, wo_14, wo_15, wo_16, wo_30, wo_31, wo_37, wo_40, wo_41, wo_42, wp_13, wp_14, wp_16, wp_17, wp_18, wp_19, wp_0_24, wp_0_25, xn_0_13, xn_0_14, xn_0_15, xn_0_16, xn_0_17, xn_0_18, xn_0_19, xn_13_0, xn_13_14, xn_13_15, xn_13_16, xn_13_17, xn_13_18, xn_13_19, xn_14_0, xn_14_13, xn_14_15, xn_14_16, xn_14_17, xn_14_18, xn_14_19, xn_15_0, xn_15_13, xn_15_14, xn_15_16, xn_15_17, xn_15_18, xn_15_19, xn_16_0, xn_16_13, xn_16_14, xn_16_15, xn_16_17, xn_16_18, xn_16_19, xn_17_0, xn_17_13, xn_17_14, xn_17_15, xn_17_16, xn_17_18, xn_17_19, xn_18_0, xn_18_13, xn_18_14, xn_18_15, xn_18_16, xn_18_17, xn_18_19, xn_19_0, xn_19_13, xn_19_14, xn_19_15, xn_19_16, xn_19_17, xn_19_18, kr_2, kr_3, kr_4, kr_5, kr_6, kr_7, kr_8, kr_9, kr_10, kr_11, setW_put15, setW_24, setW_25, setW_2, kd_11, kd_12, setW_setW, putI_ne, putI_eq, putI_2, if_true, if_pos]
        refine P_iinc (L' := [(3, vi _), (0, vr 0), (1, vi _), (2, vi _)]) (pc := 75) dX6_findLeft_75 (by decide) 3 rfl rfl ?_
        refine P_goto (tgt := 12) (pc := 78) dX6_findLeft_78 (by decide) ?_
        refine P_sub (L' := [(0, vr 0), (1, vi _), (2, vi _), (3, vi _)]) [1, 2, 3, 0] rfl ?_
        refine ih (j + 1) (w + 1) _ (by omega) (by omega) (by omega) (by first | exact ((hP.put (by unfold scr; omega))) | exact (((PM_setW (hP.put (by unfold scr; omega))).put (by unfold scr; omega)).put (by unfold scr; omega))) ?_ (fun i hi => ?_)
        · clear ih hL
          simp (disch := decide) only [wr_1, wr_2, wr_3, wr_4, wr_5, wr_6, wr_7, wr_8, wr_9, wr_10, wr_11, wr_12, wr_20, wr_21, wr_22, wr_23, wr_24, wr_25, wr_26, wr_27, wr_28, wr_29, wr_30, wr_13, wr_14, wr_16, wr_17, wr_18, wr_19, wr_15, wo_11, wo_12, wo_14, wo_15, wo_16, wo_30, wo_31, wo_37, wo_40, wo_41, wo_42, wp_13, wp_14, wp_16, wp_17, wp_18, wp_19, wp_0_24, wp_0_25, xn_0_13, xn_0_14, xn_0_15, xn_0_16, xn_0_17, xn_0_18, xn_0_19, xn_13_0, xn_13_14, xn_13_15, xn_13_16, xn_13_17, xn_13_18, xn_13_19, xn_14_0, xn_14_13, xn_14_15, xn_14_16, xn_14_17, xn_14_18, xn_14_19, xn_15_0, xn_15_13, xn_15_14, xn_15_16, xn_15_17, xn_15_18, xn_15_19, xn_16_0, xn_16_13, xn_16_14, xn_16_15, xn_16_17, xn_16_18, xn_16_19, xn_17_0, xn_17_13, xn_17_14, xn_17_15, xn_17_16, xn_17_18, xn_17_19, xn_18_0, xn_18_13, xn_18_14, xn_18_15, xn_18_16, xn_18_17, xn_18_19, xn_19_0, xn_19_13, xn_19_14, xn_19_15, xn_19_16, xn_19_17, xn_19_18, kr_2, kr_3, kr_4, kr_5, kr_6, kr_7, kr_8, kr_9, kr_10, kr_11, setW_put15, setW_24, setW_25, setW_2, kd_11, kd_12, setW_setW, putI_ne, putI_eq]
          rw [g4, g3]
          simp only [Int.toNat_natCast, ne_eq, w1d] at c_30
          clear hk hK hF ho hP
          grind
        · clear ih
          simp (disch := decide) only [wr_1, wr_2, wr_3, wr_4, wr_5, wr_6, wr_7, wr_8, wr_9, wr_10, wr_11, wr_12, wr_20, wr_21, wr_22, wr_23, wr_24, wr_25, wr_26, wr_27, wr_28, wr_29, wr_30, wr_13, wr_14, wr_16, wr_17, wr_18, wr_19, wr_15, wo_11, wo_12, wo_14, wo_15, wo_16, wo_30, wo_31, wo_37, wo_40, wo_41, wo_42, wp_13, wp_14, wp_16, wp_17, wp_18, wp_19, wp_0_24, wp_0_25, xn_0_13, xn_0_14, xn_0_15, xn_0_16, xn_0_17, xn_0_18, xn_0_19, xn_13_0, xn_13_14, xn_13_15, xn_13_16, xn_13_17, xn_13_18, xn_13_19, xn_14_0, xn_14_13, xn_14_15, xn_14_16, xn_14_17, xn_14_18, xn_14_19, xn_15_0, xn_15_13, xn_15_14, xn_15_16, xn_15_17, xn_15_18, xn_15_19, xn_16_0, xn_16_13, xn_16_14, xn_16_15, xn_16_17, xn_16_18, xn_16_19, xn_17_0, xn_17_13, xn_17_14, xn_17_15, xn_17_16, xn_17_18, xn_17_19, xn_18_0, xn_18_13, xn_18_14, xn_18_15, xn_18_16, xn_18_17, xn_18_19, xn_19_0, xn_19_13, xn_19_14, xn_19_15, xn_19_16, xn_19_17, xn_19_18, kr_2, kr_3, kr_4, kr_5, kr_6, kr_7, kr_8, kr_9, kr_10, kr_11, setW_put15, setW_24, setW_25, setW_2, kd_11, kd_12, setW_setW, putI_ne, putI_eq]
          rcases Nat.lt_or_ge i j with q | q
          · have q2 : ¬ (i : Int) = w := by omega
            simp only [if_neg q2]
            exact hL i q
          · have e : i = j := by omega
            subst e
            rw [← hw, g3]
            simp only [Int.toNat_natCast, ne_eq, w1d] at c_30
            clear hk hK hF ho hP hL
            grind
    · refine P_goto (tgt := 75) (pc := 33) dX6_findLeft_33 (by decide) ?_
      refine P_iinc (L' := [(3, vi _), (0, vr 0), (1, vi _), (2, vi _)]) (pc := 75) dX6_findLeft_75 (by decide) 3 rfl rfl ?_
      refine P_goto (tgt := 12) (pc := 78) dX6_findLeft_78 (by decide) ?_
      refine P_sub (L' := [(0, vr 0), (1, vi _), (2, vi _), (3, vi _)]) [1, 2, 3, 0] rfl ?_
      refine ih (j + 1) (w + 1) _ (by omega) (by omega) (by omega) (by first | exact ((hP.put (by unfold scr; omega))) | exact (((PM_setW (hP.put (by unfold scr; omega))).put (by unfold scr; omega)).put (by unfold scr; omega))) ?_ (fun i hi => ?_)
      · clear ih hL
        simp (disch := decide) only [wr_1, wr_2, wr_3, wr_4, wr_5, wr_6, wr_7, wr_8, wr_9, wr_10, wr_11, wr_12, wr_20, wr_21, wr_22, wr_23, wr_24, wr_25, wr_26, wr_27, wr_28, wr_29, wr_30, wr_13, wr_14, wr_16, wr_17, wr_18, wr_19, wr_15, wo_11, wo_12, wo_14, wo_15, wo_16, wo_30, wo_31, wo_37, wo_40, wo_41, wo_42, wp_13, wp_14, wp_16, wp_17, wp_18, wp_19, wp_0_24, wp_0_25, xn_0_13, xn_0_14, xn_0_15, xn_0_16, xn_0_17, xn_0_18, xn_0_19, xn_13_0, xn_13_14, xn_13_15, xn_13_16, xn_13_17, xn_13_18, xn_13_19, xn_14_0, xn_14_13, xn_14_15, xn_14_16, xn_14_17, xn_14_18, xn_14_19, xn_15_0, xn_15_13, xn_15_14, xn_15_16, xn_15_17, xn_15_18, xn_15_19, xn_16_0, xn_16_13, xn_16_14, xn_16_15, xn_16_17, xn_16_18, xn_16_19, xn_17_0, xn_17_13, xn_17_14, xn_17_15, xn_17_16, xn_17_18, xn_17_19, xn_18_0, xn_18_13, xn_18_14, xn_18_15, xn_18_16, xn_18_17, xn_18_19, xn_19_0, xn_19_13, xn_19_14, xn_19_15, xn_19_16, xn_19_17, xn_19_18, kr_2, kr_3, kr_4, kr_5, kr_6, kr_7, kr_8, kr_9, kr_10, kr_11, setW_put15, setW_24, setW_25, setW_2, kd_11, kd_12, setW_setW, putI_ne, putI_eq]
        rw [g4, g3]
        simp only [Int.toNat_natCast, ne_eq, w1d] at c_30
        clear hk hK hF ho hP
        grind
      · clear ih
        simp (disch := decide) only [wr_1, wr_2, wr_3, wr_4, wr_5, wr_6, wr_7, wr_8, wr_9, wr_10, wr_11, wr_12, wr_20, wr_21, wr_22, wr_23, wr_24, wr_25, wr_26, wr_27, wr_28, wr_29, wr_30, wr_13, wr_14, wr_16, wr_17, wr_18, wr_19, wr_15, wo_11, wo_12, wo_14, wo_15, wo_16, wo_30, wo_31, wo_37, wo_40, wo_41, wo_42, wp_13, wp_14, wp_16, wp_17, wp_18, wp_19, wp_0_24, wp_0_25, xn_0_13, xn_0_14, xn_0_15, xn_0_16, xn_0_17, xn_0_18, xn_0_19, xn_13_0, xn_13_14, xn_13_15, xn_13_16, xn_13_17, xn_13_18, xn_13_19, xn_14_0, xn_14_13, xn_14_15, xn_14_16, xn_14_17, xn_14_18, xn_14_19, xn_15_0, xn_15_13, xn_15_14, xn_15_16, xn_15_17, xn_15_18, xn_15_19, xn_16_0, xn_16_13, xn_16_14, xn_16_15, xn_16_17, xn_16_18, xn_16_19, xn_17_0, xn_17_13, xn_17_14, xn_17_15, xn_17_16, xn_17_18, xn_17_19, xn_18_0, xn_18_13, xn_18_14, xn_18_15, xn_18_16, xn_18_17, xn_18_19, xn_19_0, xn_19_13, xn_19_14, xn_19_15, xn_19_16, xn_19_17, xn_19_18, kr_2, kr_3, kr_4, kr_5, kr_6, kr_7, kr_8, kr_9, kr_10, kr_11, setW_put15, setW_24, setW_25, setW_2, kd_11, kd_12, setW_setW, putI_ne, putI_eq]
        rcases Nat.lt_or_ge i j with q | q
        · have q2 : ¬ (i : Int) = w := by omega
          simp only [if_neg q2]
          exact hL i q
        · have e : i = j := by omega
          subst e
          rw [← hw, g3]
          simp only [Int.toNat_natCast, ne_eq, w1d] at c_30
          clear hk hK hF ho hP hL
          grind
set_option maxHeartbeats 1000000 in
set_option maxRecDepth 100000 in
theorem c_X6_findLeft {μ : Mem} {K : Cel} {o : Int} (hk : kd μ.1 = K) (hK : KOK K) (hF : FOK μ.1) (ho : o = 0 ∨ o = 1) : PC shM 5 mX6_findLeft [vr 0, vi o] (μ) (QI (fun z μ' => z = (leftN K μ.1 o : Int) ∧ PM μ μ' ∧ LF K μ.1 o μ')) := by
  refine PC.of (by decide +kernel) (Nat.le_of_ble_eq_true rfl) ?_
  refine P_sub (L' := [(0, vr 0), (1, vi o)]) [0, 1] rfl ?_
  refine P_aload_n (pc := 0) dX6_findLeft_0 rfl 0 rfl ?_
  refine P_callVi (Y' := mX6_named) (as := []) (pc := 1) dX6_findLeft_1 rfl (by decide : 0 < 5) sM_0 rfl ml_RX6_229 im_X6_named se_X6_named mk_X6_named (Nat.le_of_ble_eq_true rfl) (c_X6_named hk hK) (fun z_ μ_ hq => ?_)
  obtain ⟨rfl, hμ_⟩ := hq
  have hμ_ := hμ_.symm
  subst hμ_
  try simp (disch := decide) only [wr_1, wr_2, wr_3, wr_4, wr_5, wr_6, wr_7, wr_8, wr_9, wr_10, wr_11, wr_12, wr_20, wr_21, wr_22, wr_23, wr_24, wr_25, wr_26, wr_27, wr_28, wr_29, wr_30, wr_13, wr_14, wr_16, wr_17, wr_18, wr_19, wr_15, wo_11, wo_12, wo_14, wo_15, wo_16, wo_30, wo_31, wo_37, wo_40, wo_41, wo_42, wp_13, wp_14, wp_16, wp_17, wp_18, wp_19, wp_0_24, wp_0_25, xn_0_13, xn_0_14, xn_0_15, xn_0_16, xn_0_17, xn_0_18, xn_0_19, xn_13_0, xn_13_14, xn_13_15, xn_13_16, xn_13_17, xn_13_18, xn_13_19, xn_14_0, xn_14_13, xn_14_15, xn_14_16, xn_14_17, xn_14_18, xn_14_19, xn_15_0, xn_15_13, xn_15_14, xn_15_16, xn_15_17, xn_15_18, xn_15_19, xn_16_0, xn_16_13, xn_16_14, xn_16_15, xn_16_17, xn_16_18, xn_16_19, xn_17_0, xn_17_13, xn_17_14, xn_17_15, xn_17_16, xn_17_18, xn_17_19, xn_18_0, xn_18_13, xn_18_14, xn_18_15, xn_18_16, xn_18_17, xn_18_19, xn_19_0, xn_19_13, xn_19_14, xn_19_15, xn_19_16, xn_19_17, xn_19_18, kr_2, kr_3, kr_4, kr_5, kr_6, kr_7, kr_8, kr_9, kr_10, kr_11, setW_put15, setW_24, setW_25, setW_2, kd_11, kd_12, setW_setW, putI_ne, putI_eq, putI_2, if_true, if_pos]
  refine P_istore_n (L' := [(2, vi _), (0, vr 0), (1, vi _)]) (pc := 4) dX6_findLeft_4 rfl (by decide) rfl ?_
  refine P_aload_n (pc := 5) dX6_findLeft_5 rfl 1 rfl ?_
  refine P_iconst (pc := 6) dX6_findLeft_6 ?_
  refine P_putI (jj := 31) (pc := 7) dX6_findLeft_7 fa_RX6_232 fp_6_31 sM_0 fM0_31 rfl ?_
  try simp (disch := decide) only [wr_1, wr_2, wr_3, wr_4, wr_5, wr_6, wr_7, wr_8, wr_9, wr_10, wr_11, wr_12, wr_20, wr_21, wr_22, wr_23, wr_24, wr_25, wr_26, wr_27, wr_28, wr_29, wr_30, wr_13, wr_14, wr_16, wr_17, wr_18, wr_19, wr_15, wo_11, wo_12, wo_14, wo_15, wo_16, wo_30, wo_31, wo_37, wo_40, wo_41, wo_42, wp_13, wp_14, wp_16, wp_17, wp_18, wp_19, wp_0_24, wp_0_25, xn_0_13, xn_0_14, xn_0_15, xn_0_16, xn_0_17, xn_0_18, xn_0_19, xn_13_0, xn_13_14, xn_13_15, xn_13_16, xn_13_17, xn_13_18, xn_13_19, xn_14_0, xn_14_13, xn_14_15, xn_14_16, xn_14_17, xn_14_18, xn_14_19, xn_15_0, xn_15_13, xn_15_14, xn_15_16, xn_15_17, xn_15_18, xn_15_19, xn_16_0, xn_16_13, xn_16_14, xn_16_15, xn_16_17, xn_16_18, xn_16_19, xn_17_0, xn_17_13, xn_17_14, xn_17_15, xn_17_16, xn_17_18, xn_17_19, xn_18_0, xn_18_13, xn_18_14, xn_18_15, xn_18_16, xn_18_17, xn_18_19, xn_19_0, xn_19_13, xn_19_14, xn_19_15, xn_19_16, xn_19_17, xn_19_18, kr_2, kr_3, kr_4, kr_5, kr_6, kr_7, kr_8, kr_9, kr_10, kr_11, setW_put15, setW_24, setW_25, setW_2, kd_11, kd_12, setW_setW, putI_ne, putI_eq, putI_2, if_true, if_pos]
  refine P_iconst (pc := 10) dX6_findLeft_10 ?_
  refine P_istore_n (L' := [(3, vi _), (2, vi _), (0, vr 0), (1, vi _)]) (pc := 11) dX6_findLeft_11 rfl (by decide) rfl ?_
  refine P_sub (L' := [(0, vr 0), (1, vi _), (2, vi _), (3, vi _)]) [2, 3, 1, 0] rfl ?_
  exact l_X6_findLeft hk hK hF ho 65 0 0 _ rfl (by omega) (by omega) (PM.rf.put (by unfold scr; omega)) rfl (fun i hi => absurd hi (Nat.not_lt_zero i))
