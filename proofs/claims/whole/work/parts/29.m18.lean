def srcS (K F : Cel) (h t : Int) : Nat → Int
  | 0 => 0
  | n + 1 => if leftB K F 0 n = true then or32 (srcS K F h t n) (simX K (n : Int) h 0 14 t) else srcS K F h t n
theorem srcS_s {K F : Cel} {h t w : Int} {n : Nat} (hw : w = (n : Int)) : srcS K F h t (n + 1) = if leftB K F 0 n = true then or32 (srcS K F h t n) (simX K w h 0 14 t) else srcS K F h t n := by subst hw; rfl
theorem LF_l {K F : Cel} {o : Int} {ν : Mem} (hL : LF K F o ν) {w : Int} {j : Nat} (hw : w = (j : Int)) (hj : j < 64) : (ν.1 23 w = 0 ∧ leftB K F o j = false ∨ ν.1 23 w = 1 ∧ leftB K F o j = true) := by
  subst hw
  rw [hL.1 j hj]
  cases leftB K F o j <;> simp
theorem LF_setW {K F : Cel} {o : Int} {ν : Mem} {S : Int → Int} {X : Cel} (h : LF K F o ν) : LF K F o (setW ν S X) := h
def besN (K F : Cel) (h : Int) : Nat → Nat
  | 0 => 0
  | n + 1 => besN K F h n ||| (if sureP K F 1 h n ≠ sureP K F 0 h n then 2 ^ n else 0)
theorem besN_s {K F : Cel} {h : Int} (n : Nat) : besN K F h (n + 1) = besN K F h n ||| (if sureP K F 1 h n ≠ sureP K F 0 h n then 2 ^ n else 0) := rfl
theorem besN_lt (K F : Cel) (h : Int) : ∀ n, besN K F h n < 2 ^ n
  | 0 => by show 0 < 1; decide
  | n + 1 => by
    have h1 := besN_lt K F h n
    have h2 : (2 : Nat) ^ n < 2 ^ (n + 1) := Nat.pow_lt_pow_right (by decide) (by omega)
    simp only [besN]
    apply Nat.or_lt_two_pow
    · omega
    · split
      · exact h2
      · omega
theorem PM.c29 {μ ν : Mem} (h : PM μ ν) : ν.1 29 = μ.1 29 := by
  funext j
  exact h.2 29 j (by unfold scr; omega)
/-- as PM, but for the rows line and sureBy, too -/
def PMT (μ ν : Mem) : Prop := ν.2 = μ.2 ∧ ∀ (q : Nat) (j : Int), ¬ (scr q j ∨ q = 28 ∨ q = 29) → ν.1 q j = μ.1 q j
theorem PM.t {μ ν : Mem} (h : PM μ ν) : PMT μ ν := ⟨h.1, fun q j hq => h.2 q j (fun z => hq (Or.inl z))⟩
theorem PMT.tr {μ ν ρ : Mem} (h : PMT μ ν) (h2 : PMT ν ρ) : PMT μ ρ := ⟨h2.1.trans h.1, fun q j hq => (h2.2 q j hq).trans (h.2 q j hq)⟩
theorem PMT.cell {μ ν : Mem} (h : PMT μ ν) (q : Nat) (hq : q ≠ 0 ∧ (q < 13 ∨ 19 < q) ∧ q ≠ 23 ∧ q ≠ 24 ∧ q ≠ 28 ∧ q ≠ 29) : ν.1 q = μ.1 q := by
  funext j
  exact h.2 q j (by unfold scr; omega)
theorem PMT.num {μ ν : Mem} (h : PMT μ ν) (j : Int) (hj : j ≠ 16 ∧ j ≠ 24 ∧ j ≠ 25 ∧ j ≠ 31) : ν.1 0 j = μ.1 0 j := h.2 0 j (by unfold scr; omega)
theorem PMT.put {μ ν : Mem} {q : Nat} {i v : Int} (h : PMT μ ν) (hq : scr q i ∨ q = 28 ∨ q = 29) : PMT μ (putI ν q i v) := by
  refine h.tr ⟨rfl, fun q' j hq' => ?_⟩
  unfold putI
  by_cases h0 : q' = q
  · subst h0
    have hj : ¬ j = i := by
      intro e
      subst e
      exact hq' hq
    simp [hj]
  · simp [h0]
theorem PMT_kd {μ ν : Mem} (h : PMT μ ν) : kd ν.1 = kd μ.1 := by
  funext q
  unfold kd
  by_cases h0 : q = 0
  · subst h0
    simp only [if_true, h.num 11 (by decide), h.num 12 (by decide)]
  · by_cases h2 : 2 ≤ q ∧ q ≤ 11
    · simp only [if_neg h0, if_pos h2, h.cell q (by omega)]
    · simp only [if_neg h0, if_neg h2]
theorem FOK_PMT {μ ν : Mem} (h : PMT μ ν) (hF : FOK μ.1) : FOK ν.1 := by
  unfold FOK at hF ⊢
  rw [h.cell 20 (by decide), h.cell 21 (by decide), h.cell 22 (by decide), h.num 30 (by decide), h.num 11 (by decide)]
  exact hF
theorem leftB_PMT {μ ν : Mem} {K : Cel} {o : Int} (h : PMT μ ν) : leftB K ν.1 o = leftB K μ.1 o := by
  funext w
  unfold leftB agB factB
  rw [h.cell 20 (by decide), h.cell 21 (by decide), h.cell 22 (by decide), h.num 30 (by decide)]
theorem LF_PMT {μ ν ρ : Mem} {K : Cel} {o : Int} (h : PMT μ ν) (hL : LF K ν.1 o ρ) : LF K μ.1 o ρ := by
  unfold LF leftN at hL ⊢
  rw [leftB_PMT h] at hL
  exact hL
theorem LC_put {K F : Cel} {o h : Int} {ν : Mem} {q : Nat} {i v : Int} (hL : LC K F o h ν) (hq : q ≠ 0 ∧ q ≠ 23 ∧ q ≠ 24) : LC K F o h (putI ν q i v) := by
  unfold LC LF
  rw [putI_ne (Ne.symm hq.2.1), putI_ne (Ne.symm hq.1), putI_ne (Ne.symm hq.2.2)]
  exact hL
set_option maxHeartbeats 1000000 in
set_option maxRecDepth 100000 in
theorem l_X6_sources {μ : Mem} {K F : Cel} {t h : Int} (hk : kd μ.1 = K) (hK : KOK K) (ht : 0 ≤ t ∧ t < 12) (hh : 0 ≤ h ∧ h < 48) : ∀ (n j : Nat) (w : Int) (ν : Mem), w = (j : Int) → j ≤ 64 → 64 - j < n → PM μ ν → LF K F 0 ν → PW shM 6 mX6_sources 29 [(0, vr 0), (1, vi t), (2, vi h), (4, vi (srcS K F h t j)), (5, vi w)] [] ν (QI (fun z μ' => z = srcS K F h t 64 ∧ PM μ μ')) := by
  intro n
  induction n with
  | zero => intro j w ν _ _ q; omega
  | succ n ih =>
  intro j w ν hw hj hn hP hL
  have g2 : j < 64 → _ := fun q => LF_l hL hw q
  have g6 := srcS_s (K := K) (F := F) (h := h) (t := t) hw
  refine P_iload (pc := 29) dX6_sources_29 4 rfl ?_
  refine P_bipush (pc := 31) dX6_sources_31 (by decide) ?_
  refine P_icmp_ge (tgt := 74) (pc := 33) dX6_sources_33 (by decide) (by first | (unfold InR; omega) | (unfold InR; rcases g2 (by omega) with q2 | q2 <;> omega)) (by first | (unfold InR; omega) | (unfold InR; rcases g2 (by omega) with q2 | q2 <;> omega)) (fun c_33 => ?_) (fun c_33 => ?_)
  · refine P_iload (pc := 74) dX6_sources_74 3 rfl ?_
    exact P_iret (pc := 76) dX6_sources_76 rfl (QI.mk (by first | (exfalso; omega) | (rw [← hz]; exact ⟨by rw [if_neg (by omega)], by rw [refW, if_neg (by omega)]; exact PM.rf⟩) | (have e9 : j = 64 := (by omega); subst e9; exact ⟨rfl, hP⟩)))
  · refine P_aload_n (pc := 36) dX6_sources_36 rfl 0 rfl ?_
    refine P_getR (pc := 37) dX6_sources_37 fa_RX6_77 sM_0 fM0_29 ?_
    refine P_iload (pc := 40) dX6_sources_40 4 rfl ?_
    refine P_zald (pc := 42) dX6_sources_42 sM_23 (by omega) (by omega) (by decide) ?_
    try simp only [wr_1, wr_2, wr_3, wr_4, wr_5, wr_6, wr_7, wr_8, wr_9, wr_10, wr_11, wr_12, wr_20, wr_21, wr_22, wr_23, wr_24, wr_25, wr_26, wr_27, wr_28, wr_29, wr_30, wr_13, wr_14, wr_16, wr_17, wr_18, wr_19, wr_15, wo_11, wo_12, wo_14, wo_15, wo_16, wo_30, wo_31, wo_37, wo_40, wo_41, wo_42, wp_13, wp_14, wp_16, wp_17, wp_18, wp_19, wp_0_24, wp_0_25, xn_0_13, xn_0_14, xn_0_15, xn_0_16, xn_0_17, xn_0_18, xn_0_19, xn_13_0, xn_13_14, xn_13_15, xn_13_16, xn_13_17, xn_13_18, xn_13_19, xn_14_0, xn_14_13, xn_14_15, xn_14_16, xn_14_17, xn_14_18, xn_14_19, xn_15_0, xn_15_13, xn_15_14, xn_15_16, xn_15_17, xn_15_18, xn_15_19, xn_16_0, xn_16_13, xn_16_14, xn_16_15, xn_16_17, xn_16_18, xn_16_19, xn_17_0, xn_17_13, xn_17_14, xn_17_15, xn_17_16, xn_17_18, xn_17_19, xn_18_0, xn_18_13, xn_18_14, xn_18_15, xn_18_16, xn_18_17, xn_18_19, xn_19_0, xn_19_13, xn_19_14, xn_19_15, xn_19_16, xn_19_17, xn_19_18, kr_2, kr_3, kr_4, kr_5, kr_6, kr_7, kr_8, kr_9, kr_10, kr_11, setW_put15, setW_24, setW_25, setW_2, kd_11, kd_12, setW_setW]
    refine P_if_ne (tgt := 49) (pc := 43) dX6_sources_43 (by decide) (by first | (unfold InR; omega) | (unfold InR; rcases g2 (by omega) with q2 | q2 <;> omega)) (fun c_43 => ?_) (fun c_43 => ?_)
    · refine P_aload_n (pc := 49) dX6_sources_49 rfl 0 rfl ?_
      refine P_iload (pc := 50) dX6_sources_50 4 rfl ?_
      refine P_iload_n (pc := 52) dX6_sources_52 rfl 2 rfl ?_
      refine P_iconst (pc := 53) dX6_sources_53 ?_
      refine P_callVv (Y' := mX6_runs) (as := [_, _, _]) (pc := 54) dX6_sources_54 rfl (by decide : 4 < 6) sM_0 rfl ml_RX6_222 im_X6_runs se_X6_runs mk_X6_runs (Nat.le_of_ble_eq_true rfl) (c_X6_runs ((PM_kd hP).trans hk) hK (Or.inl rfl) (by omega) (by omega)) (fun μ_ hq => ?_)
      obtain ⟨S, hS, rfl⟩ := hq
      try simp only [wr_1, wr_2, wr_3, wr_4, wr_5, wr_6, wr_7, wr_8, wr_9, wr_10, wr_11, wr_12, wr_20, wr_21, wr_22, wr_23, wr_24, wr_25, wr_26, wr_27, wr_28, wr_29, wr_30, wr_13, wr_14, wr_16, wr_17, wr_18, wr_19, wr_15, wo_11, wo_12, wo_14, wo_15, wo_16, wo_30, wo_31, wo_37, wo_40, wo_41, wo_42, wp_13, wp_14, wp_16, wp_17, wp_18, wp_19, wp_0_24, wp_0_25, xn_0_13, xn_0_14, xn_0_15, xn_0_16, xn_0_17, xn_0_18, xn_0_19, xn_13_0, xn_13_14, xn_13_15, xn_13_16, xn_13_17, xn_13_18, xn_13_19, xn_14_0, xn_14_13, xn_14_15, xn_14_16, xn_14_17, xn_14_18, xn_14_19, xn_15_0, xn_15_13, xn_15_14, xn_15_16, xn_15_17, xn_15_18, xn_15_19, xn_16_0, xn_16_13, xn_16_14, xn_16_15, xn_16_17, xn_16_18, xn_16_19, xn_17_0, xn_17_13, xn_17_14, xn_17_15, xn_17_16, xn_17_18, xn_17_19, xn_18_0, xn_18_13, xn_18_14, xn_18_15, xn_18_16, xn_18_17, xn_18_19, xn_19_0, xn_19_13, xn_19_14, xn_19_15, xn_19_16, xn_19_17, xn_19_18, kr_2, kr_3, kr_4, kr_5, kr_6, kr_7, kr_8, kr_9, kr_10, kr_11, setW_put15, setW_24, setW_25, setW_2, kd_11, kd_12, setW_setW]
      refine P_iload (pc := 57) dX6_sources_57 3 rfl ?_
      refine P_aload_n (pc := 59) dX6_sources_59 rfl 0 rfl ?_
      refine P_getR (pc := 60) dX6_sources_60 fa_RX6_49 sM_0 fM0_18 ?_
      refine P_iload_n (pc := 63) dX6_sources_63 rfl 1 rfl ?_
      refine P_iald (pc := 64) dX6_sources_64 sM_14 (by omega) (by omega) (by decide) ?_
      try simp only [wr_1, wr_2, wr_3, wr_4, wr_5, wr_6, wr_7, wr_8, wr_9, wr_10, wr_11, wr_12, wr_20, wr_21, wr_22, wr_23, wr_24, wr_25, wr_26, wr_27, wr_28, wr_29, wr_30, wr_13, wr_14, wr_16, wr_17, wr_18, wr_19, wr_15, wo_11, wo_12, wo_14, wo_15, wo_16, wo_30, wo_31, wo_37, wo_40, wo_41, wo_42, wp_13, wp_14, wp_16, wp_17, wp_18, wp_19, wp_0_24, wp_0_25, xn_0_13, xn_0_14, xn_0_15, xn_0_16, xn_0_17, xn_0_18, xn_0_19, xn_13_0, xn_13_14, xn_13_15, xn_13_16, xn_13_17, xn_13_18, xn_13_19, xn_14_0, xn_14_13, xn_14_15, xn_14_16, xn_14_17, xn_14_18, xn_14_19, xn_15_0, xn_15_13, xn_15_14, xn_15_16, xn_15_17, xn_15_18, xn_15_19, xn_16_0, xn_16_13, xn_16_14, xn_16_15, xn_16_17, xn_16_18, xn_16_19, xn_17_0, xn_17_13, xn_17_14, xn_17_15, xn_17_16, xn_17_18, xn_17_19, xn_18_0, xn_18_13, xn_18_14, xn_18_15, xn_18_16, xn_18_17, xn_18_19, xn_19_0, xn_19_13, xn_19_14, xn_19_15, xn_19_16, xn_19_17, xn_19_18, kr_2, kr_3, kr_4, kr_5, kr_6, kr_7, kr_8, kr_9, kr_10, kr_11, setW_put15, setW_24, setW_25, setW_2, kd_11, kd_12, setW_setW]
      refine P_ior (pc := 65) dX6_sources_65 (wI_or32 _ _) ?_
      refine P_istore (L' := [(4, vi _), (0, vr 0), (1, vi _), (2, vi _), (5, vi _)]) (pc := 66) dX6_sources_66 (by decide) rfl ?_
      refine P_iinc (L' := [(5, vi _), (4, vi _), (0, vr 0), (1, vi _), (2, vi _)]) (pc := 68) dX6_sources_68 (by decide) 4 rfl rfl ?_
      refine P_goto (tgt := 29) (pc := 71) dX6_sources_71 (by decide) ?_
      refine P_sub (L' := [(0, vr 0), (1, vi _), (2, vi _), (4, vi _), (5, vi _)]) [2, 3, 4, 1, 0] rfl ?_
      first
        | (have hl : leftB K F 0 j = false := by rcases g2 (by omega) with q2 | q2; exact q2.2; omega
           refine P_cast (L' := [(0, vr 0), (1, vi t), (2, vi h), (4, vi (srcS K F h t (j + 1))), (5, vi (w + 1))]) ?_ rfl (ih (j + 1) (w + 1) _ (by omega) (by omega) (by omega) hP hL)
           rw [g6, hl]; rfl)
        | (have hl : leftB K F 0 j = true := by rcases g2 (by omega) with q2 | q2; omega; exact q2.2
           refine P_cast (L' := [(0, vr 0), (1, vi t), (2, vi h), (4, vi (srcS K F h t (j + 1))), (5, vi (w + 1))]) ?_ rfl (ih (j + 1) (w + 1) _ (by omega) (by omega) (by omega) (PM_setW hP) (LF_setW hL))
           rw [g6, hl]; rfl)
    · refine P_goto (tgt := 68) (pc := 46) dX6_sources_46 (by decide) ?_
      refine P_iinc (L' := [(5, vi _), (0, vr 0), (1, vi _), (2, vi _), (4, vi _)]) (pc := 68) dX6_sources_68 (by decide) 4 rfl rfl ?_
      refine P_goto (tgt := 29) (pc := 71) dX6_sources_71 (by decide) ?_
      refine P_sub (L' := [(0, vr 0), (1, vi _), (2, vi _), (4, vi _), (5, vi _)]) [1, 2, 3, 4, 0] rfl ?_
      first
        | (have hl : leftB K F 0 j = false := by rcases g2 (by omega) with q2 | q2; exact q2.2; omega
           refine P_cast (L' := [(0, vr 0), (1, vi t), (2, vi h), (4, vi (srcS K F h t (j + 1))), (5, vi (w + 1))]) ?_ rfl (ih (j + 1) (w + 1) _ (by omega) (by omega) (by omega) hP hL)
           rw [g6, hl]; rfl)
        | (have hl : leftB K F 0 j = true := by rcases g2 (by omega) with q2 | q2; omega; exact q2.2
           refine P_cast (L' := [(0, vr 0), (1, vi t), (2, vi h), (4, vi (srcS K F h t (j + 1))), (5, vi (w + 1))]) ?_ rfl (ih (j + 1) (w + 1) _ (by omega) (by omega) (by omega) (PM_setW hP) (LF_setW hL))
           rw [g6, hl]; rfl)
set_option maxHeartbeats 1000000 in
set_option maxRecDepth 100000 in
theorem c_X6_sources {μ : Mem} {K : Cel} {t h : Int} (hk : kd μ.1 = K) (hK : KOK K) (hF : FOK μ.1) (ht : InR t) (hh : InR h) : PC shM 6 mX6_sources [vr 0, vi t, vi h] (μ) (QI (fun z μ' => z = (if whyTH μ.1 t h = 0 then srcS K μ.1 h t 64 else whyTH μ.1 t h) ∧ PM (refW μ (whyTH μ.1 t h)) μ')) := by
  refine PC.of (by decide +kernel) (Nat.le_of_ble_eq_true rfl) ?_
  refine P_sub (L' := [(0, vr 0), (1, vi t), (2, vi h)]) [0, 1, 2] rfl ?_
  have hK1 := hK.1
  have hk11 : K 0 11 = μ.1 0 11 := by rw [← hk]; rfl
  have hn : InR (μ.1 0 11) := by unfold InR; omega
  refine P_aload_n (pc := 0) dX6_sources_0 rfl 0 rfl ?_
  refine P_iload_n (pc := 1) dX6_sources_1 rfl 1 rfl ?_
  refine P_iload_n (pc := 2) dX6_sources_2 rfl 2 rfl ?_
  refine P_callVi (Y' := mX6_why) (as := [_, _]) (pc := 3) dX6_sources_3 rfl (by decide : 1 < 6) sM_0 rfl ml_RX6_245 im_X6_why se_X6_why mk_X6_why (Nat.le_of_ble_eq_true rfl) (c_X6_why ht hh hn) (fun z_ μ_ hq => ?_)
  obtain ⟨hz, hμ_⟩ := hq
  have hμ_ := hμ_.symm
  subst hμ_
  have hv := whyTH_v μ.1 t h
  rw [← hz] at hv
  have hv0 : z_ = 0 → _ := fun e => whyTH_0 (A := μ.1) (t := t) (h := h) (hz ▸ e)
  try simp only [wr_1, wr_2, wr_3, wr_4, wr_5, wr_6, wr_7, wr_8, wr_9, wr_10, wr_11, wr_12, wr_20, wr_21, wr_22, wr_23, wr_24, wr_25, wr_26, wr_27, wr_28, wr_29, wr_30, wr_13, wr_14, wr_16, wr_17, wr_18, wr_19, wr_15, wo_11, wo_12, wo_14, wo_15, wo_16, wo_30, wo_31, wo_37, wo_40, wo_41, wo_42, wp_13, wp_14, wp_16, wp_17, wp_18, wp_19, wp_0_24, wp_0_25, xn_0_13, xn_0_14, xn_0_15, xn_0_16, xn_0_17, xn_0_18, xn_0_19, xn_13_0, xn_13_14, xn_13_15, xn_13_16, xn_13_17, xn_13_18, xn_13_19, xn_14_0, xn_14_13, xn_14_15, xn_14_16, xn_14_17, xn_14_18, xn_14_19, xn_15_0, xn_15_13, xn_15_14, xn_15_16, xn_15_17, xn_15_18, xn_15_19, xn_16_0, xn_16_13, xn_16_14, xn_16_15, xn_16_17, xn_16_18, xn_16_19, xn_17_0, xn_17_13, xn_17_14, xn_17_15, xn_17_16, xn_17_18, xn_17_19, xn_18_0, xn_18_13, xn_18_14, xn_18_15, xn_18_16, xn_18_17, xn_18_19, xn_19_0, xn_19_13, xn_19_14, xn_19_15, xn_19_16, xn_19_17, xn_19_18, kr_2, kr_3, kr_4, kr_5, kr_6, kr_7, kr_8, kr_9, kr_10, kr_11, setW_put15, setW_24, setW_25, setW_2, kd_11, kd_12, setW_setW]
  refine P_istore_n (L' := [(3, vi _), (0, vr 0), (1, vi _), (2, vi _)]) (pc := 6) dX6_sources_6 rfl (by decide) rfl ?_
  refine P_iload_n (pc := 7) dX6_sources_7 rfl 0 rfl ?_
  refine P_if_eq (tgt := 17) (pc := 8) dX6_sources_8 (by decide) (by first | (unfold InR; omega) | (unfold InR; rcases g2 (by omega) with q2 | q2 <;> omega)) (fun c_8 => ?_) (fun c_8 => ?_)
  · refine P_aload_n (pc := 17) dX6_sources_17 rfl 1 rfl ?_
    refine P_iconst (pc := 18) dX6_sources_18 ?_
    refine P_callVi (Y' := mX6_findLeft) (as := [_]) (pc := 19) dX6_sources_19 rfl (by decide : 5 < 6) sM_0 rfl ml_RX6_241 im_X6_findLeft se_X6_findLeft mk_X6_findLeft (Nat.le_of_ble_eq_true rfl) (c_X6_findLeft hk hK hF (Or.inl rfl)) (fun z_ μ_ hq => ?_)
    obtain ⟨hzl, hP, hLF⟩ := hq
    try simp only [wr_1, wr_2, wr_3, wr_4, wr_5, wr_6, wr_7, wr_8, wr_9, wr_10, wr_11, wr_12, wr_20, wr_21, wr_22, wr_23, wr_24, wr_25, wr_26, wr_27, wr_28, wr_29, wr_30, wr_13, wr_14, wr_16, wr_17, wr_18, wr_19, wr_15, wo_11, wo_12, wo_14, wo_15, wo_16, wo_30, wo_31, wo_37, wo_40, wo_41, wo_42, wp_13, wp_14, wp_16, wp_17, wp_18, wp_19, wp_0_24, wp_0_25, xn_0_13, xn_0_14, xn_0_15, xn_0_16, xn_0_17, xn_0_18, xn_0_19, xn_13_0, xn_13_14, xn_13_15, xn_13_16, xn_13_17, xn_13_18, xn_13_19, xn_14_0, xn_14_13, xn_14_15, xn_14_16, xn_14_17, xn_14_18, xn_14_19, xn_15_0, xn_15_13, xn_15_14, xn_15_16, xn_15_17, xn_15_18, xn_15_19, xn_16_0, xn_16_13, xn_16_14, xn_16_15, xn_16_17, xn_16_18, xn_16_19, xn_17_0, xn_17_13, xn_17_14, xn_17_15, xn_17_16, xn_17_18, xn_17_19, xn_18_0, xn_18_13, xn_18_14, xn_18_15, xn_18_16, xn_18_17, xn_18_19, xn_19_0, xn_19_13, xn_19_14, xn_19_15, xn_19_16, xn_19_17, xn_19_18, kr_2, kr_3, kr_4, kr_5, kr_6, kr_7, kr_8, kr_9, kr_10, kr_11, setW_put15, setW_24, setW_25, setW_2, kd_11, kd_12, setW_setW]
    refine P_pop (pc := 22) dX6_sources_22 rfl ?_
    refine P_iconst (pc := 23) dX6_sources_23 ?_
    refine P_istore (L' := [(4, vi _), (3, vi _), (0, vr 0), (1, vi _), (2, vi _)]) (pc := 24) dX6_sources_24 (by decide) rfl ?_
    refine P_iconst (pc := 26) dX6_sources_26 ?_
    refine P_istore (L' := [(5, vi _), (4, vi _), (3, vi _), (0, vr 0), (1, vi _), (2, vi _)]) (pc := 27) dX6_sources_27 (by decide) rfl ?_
    refine P_sub (L' := [(0, vr 0), (1, vi _), (2, vi _), (4, vi _), (5, vi _)]) [3, 4, 5, 1, 0] rfl ?_
    refine P_post (Q' := (QI (fun z μ' => z = srcS K μ.1 h t 64 ∧ PM μ μ'))) (fun r μ' hq => ?_) (l_X6_sources hk hK (by omega) (by omega) 65 0 0 _ rfl (by omega) (by omega) hP hLF)
    obtain ⟨z9, hr9, hz9, hP9⟩ := hq
    refine ⟨z9, hr9, ?_, ?_⟩
    · rw [← hz, if_pos (by omega)]; exact hz9
    · rw [← hz, refW, if_pos (by omega)]; exact hP9
  · refine P_aload_n (pc := 11) dX6_sources_11 rfl 1 rfl ?_
    refine P_iload_n (pc := 12) dX6_sources_12 rfl 0 rfl ?_
    refine P_callVi (Y' := mX6_no) (as := [_]) (pc := 13) dX6_sources_13 rfl (by decide : 0 < 6) sM_0 rfl ml_RX6_109 im_X6_no se_X6_no mk_X6_no (Nat.le_of_ble_eq_true rfl) (c_X6_no (by omega)) (fun z_ μ_ hq => ?_)
    obtain ⟨rfl, hμ_⟩ := hq
    have hμ_ := hμ_.symm
    subst hμ_
    try simp only [wr_1, wr_2, wr_3, wr_4, wr_5, wr_6, wr_7, wr_8, wr_9, wr_10, wr_11, wr_12, wr_20, wr_21, wr_22, wr_23, wr_24, wr_25, wr_26, wr_27, wr_28, wr_29, wr_30, wr_13, wr_14, wr_16, wr_17, wr_18, wr_19, wr_15, wo_11, wo_12, wo_14, wo_15, wo_16, wo_30, wo_31, wo_37, wo_40, wo_41, wo_42, wp_13, wp_14, wp_16, wp_17, wp_18, wp_19, wp_0_24, wp_0_25, xn_0_13, xn_0_14, xn_0_15, xn_0_16, xn_0_17, xn_0_18, xn_0_19, xn_13_0, xn_13_14, xn_13_15, xn_13_16, xn_13_17, xn_13_18, xn_13_19, xn_14_0, xn_14_13, xn_14_15, xn_14_16, xn_14_17, xn_14_18, xn_14_19, xn_15_0, xn_15_13, xn_15_14, xn_15_16, xn_15_17, xn_15_18, xn_15_19, xn_16_0, xn_16_13, xn_16_14, xn_16_15, xn_16_17, xn_16_18, xn_16_19, xn_17_0, xn_17_13, xn_17_14, xn_17_15, xn_17_16, xn_17_18, xn_17_19, xn_18_0, xn_18_13, xn_18_14, xn_18_15, xn_18_16, xn_18_17, xn_18_19, xn_19_0, xn_19_13, xn_19_14, xn_19_15, xn_19_16, xn_19_17, xn_19_18, kr_2, kr_3, kr_4, kr_5, kr_6, kr_7, kr_8, kr_9, kr_10, kr_11, setW_put15, setW_24, setW_25, setW_2, kd_11, kd_12, setW_setW]
    exact P_iret (pc := 16) dX6_sources_16 rfl (QI.mk (by first | (exfalso; omega) | (rw [← hz]; exact ⟨by rw [if_neg (by omega)], by rw [refW, if_neg (by omega)]; exact PM.rf⟩) | (have e9 : j = 64 := (by omega); subst e9; exact ⟨rfl, hP⟩)))
set_option maxHeartbeats 1000000 in
set_option maxRecDepth 100000 in
theorem l_X6_beside2 {μ ν : Mem} {K F : Cel} {h : Int} (hK : KOK K) (hP : PMT μ ν) (hLC : LC K F 1 h ν) (c11 : ν.1 0 11 = K 0 11) (hB : (∀ i : Nat, (i : Int) < K 0 11 → ν.1 29 (i : Int) = sureP K F 0 h i)) : ∀ (n j : Nat) (t : Int), t = (j : Int) → j ≤ (K 0 11).toNat → (K 0 11).toNat - j < n → PW shM 6 mX6_beside 74 [(0, vr 0), (1, vi h), (3, vi (besN K F h j : Int)), (4, vi t)] [] ν (QI (fun z μ' => z = (besN K F h (K 0 11).toNat : Int) ∧ PMT μ μ')) := by
  intro n
  induction n with
  | zero => intro j t _ _ q; omega
  | succ n ih =>
  intro j t ht hj hn
  have hk1 := hK.1
  have g1 := besN_s (K := K) (F := F) (h := h) j
  have g2 := sureP_v K F 0 h j
  have g3 := sureP_v K F 1 h j
  have g4 : (j : Int) < K 0 11 → ν.1 29 t = sureP K F 0 h j := fun q => by rw [ht]; exact hB j q
  have g5 : t.toNat = j := by omega
  have g6 := besN_lt K F h j
  have g7 : (2 : Nat) ^ j ≤ 2 ^ 12 := Nat.pow_le_pow_right (by decide) (by omega)
  refine P_iload (pc := 74) dX6_beside_74 3 rfl ?_
  refine P_aload_n (pc := 76) dX6_beside_76 rfl 0 rfl ?_
  refine P_getI (jj := 11) (pc := 77) dX6_beside_77 fa_RX6_101 sM_0 fM0_11 rfl ?_
  rw [c11]
  refine P_icmp_ge (tgt := 116) (pc := 80) dX6_beside_80 (by decide) (by first | (unfold InR; omega) | (rw [g5]; unfold InR; omega)) (by first | (unfold InR; omega) | (rw [g5]; unfold InR; omega)) (fun c_80 => ?_) (fun c_80 => ?_)
  · refine P_iload_n (pc := 116) dX6_beside_116 rfl 2 rfl ?_
    exact P_iret (pc := 117) dX6_beside_117 rfl (QI.mk (by first | (exfalso; omega) | (rw [← hz]; exact ⟨by rw [if_neg (by omega)], by rw [refW, if_neg (by omega)]; exact PM.rf.t⟩) | (have e9 : j = (K 0 11).toNat := (by omega); rw [← e9]; exact ⟨rfl, hP⟩)))
  · refine P_iload_n (pc := 83) dX6_beside_83 rfl 2 rfl ?_
    refine P_aload_n (pc := 84) dX6_beside_84 rfl 0 rfl ?_
    refine P_iload (pc := 85) dX6_beside_85 3 rfl ?_
    refine P_callVi (Y' := mX6_sureOf) (as := [_]) (pc := 87) dX6_beside_87 rfl (by decide : 1 < 6) sM_0 rfl ml_RX6_258 im_X6_sureOf se_X6_sureOf mk_X6_sureOf (Nat.le_of_ble_eq_true rfl) (c_X6_sureOf hLC (by omega) hK) (fun z_ μ_ hq => ?_)
    obtain ⟨rfl, hμ_⟩ := hq
    have hμ_ := hμ_.symm
    subst hμ_
    refine P_aload_n (pc := 90) dX6_beside_90 rfl 0 rfl ?_
    refine P_getR (pc := 91) dX6_beside_91 fa_RX6_95 sM_0 fM0_38 ?_
    refine P_iload (pc := 94) dX6_beside_94 3 rfl ?_
    refine P_iald (pc := 96) dX6_beside_96 sM_29 (by omega) (by omega) (by decide) ?_
    rw [g4 (by omega)]
    refine P_icmp_eq (tgt := 107) (pc := 97) dX6_beside_97 (by decide) (by first | (unfold InR; omega) | (rw [g5]; unfold InR; omega)) (by first | (unfold InR; omega) | (rw [g5]; unfold InR; omega)) (fun c_97 => ?_) (fun c_97 => ?_)
    · refine P_iconst (pc := 107) dX6_beside_107 ?_
      refine P_ior (pc := 108) dX6_beside_108 (wN_or) ?_
      refine P_istore_n (L' := [(3, vi _), (0, vr 0), (1, vi _), (4, vi _)]) (pc := 109) dX6_beside_109 rfl (by decide) rfl ?_
      refine P_iinc (L' := [(4, vi _), (3, vi _), (0, vr 0), (1, vi _)]) (pc := 110) dX6_beside_110 (by decide) 3 rfl rfl ?_
      refine P_goto (tgt := 74) (pc := 113) dX6_beside_113 (by decide) ?_
      refine P_sub (L' := [(0, vr 0), (1, vi _), (3, vi _), (4, vi _)]) [2, 3, 1, 0] rfl ?_
      refine P_cast (L' := [(0, vr 0), (1, vi h), (3, vi (besN K F h (j + 1) : Int)), (4, vi (t + 1))]) ?_ rfl (ih (j + 1) (t + 1) (by omega) (by omega) (by omega))
      rw [g1]
      rw [g5] at c_97
      (try rw [g5])
      first | rw [if_pos (by omega)] | rw [if_neg (by omega)]
    · refine P_iconst (pc := 100) dX6_beside_100 ?_
      refine P_iload (pc := 101) dX6_beside_101 3 rfl ?_
      refine P_ishl (pc := 103) dX6_beside_103 (wN_shl1 (by omega) (by omega)) ?_
      refine P_goto (tgt := 108) (pc := 104) dX6_beside_104 (by decide) ?_
      refine P_ior (pc := 108) dX6_beside_108 (wN_or) ?_
      refine P_istore_n (L' := [(3, vi _), (0, vr 0), (1, vi _), (4, vi _)]) (pc := 109) dX6_beside_109 rfl (by decide) rfl ?_
      refine P_iinc (L' := [(4, vi _), (3, vi _), (0, vr 0), (1, vi _)]) (pc := 110) dX6_beside_110 (by decide) 3 rfl rfl ?_
      refine P_goto (tgt := 74) (pc := 113) dX6_beside_113 (by decide) ?_
      refine P_sub (L' := [(0, vr 0), (1, vi _), (3, vi _), (4, vi _)]) [2, 3, 1, 0] rfl ?_
      refine P_cast (L' := [(0, vr 0), (1, vi h), (3, vi (besN K F h (j + 1) : Int)), (4, vi (t + 1))]) ?_ rfl (ih (j + 1) (t + 1) (by omega) (by omega) (by omega))
      rw [g1]
      rw [g5] at c_97
      (try rw [g5])
      first | rw [if_pos (by omega)] | rw [if_neg (by omega)]
set_option maxHeartbeats 1000000 in
set_option maxRecDepth 100000 in
theorem l_X6_beside1 {μ : Mem} {K F : Cel} {h : Int} (hK : KOK K) (kx : ∀ ν : Mem, PMT μ ν → (∀ i : Nat, (i : Int) < K 0 11 → ν.1 29 (i : Int) = sureP K F 0 h i) → PW shM 6 mX6_beside 57 [(0, vr 0), (1, vi h)] [] ν (QI (fun z μ' => z = (besN K F h (K 0 11).toNat : Int) ∧ PMT μ μ'))) : ∀ (n j : Nat) (t : Int) (ν : Mem), t = (j : Int) → j ≤ (K 0 11).toNat → (K 0 11).toNat - j < n → PMT μ ν → ν.1 0 11 = K 0 11 → LC K F 0 h ν → (∀ i : Nat, i < j → ν.1 29 (i : Int) = sureP K F 0 h i) → PW shM 6 mX6_beside 32 [(0, vr 0), (1, vi h), (3, vi t)] [] ν (QI (fun z μ' => z = (besN K F h (K 0 11).toNat : Int) ∧ PMT μ μ')) := by
  intro n
  induction n with
  | zero => intro j t ν _ _ q; omega
  | succ n ih =>
  intro j t ν ht hj hn hP c11 hLC hB
  have hk1 := hK.1
  refine P_iload_n (pc := 32) dX6_beside_32 rfl 2 rfl ?_
  refine P_aload_n (pc := 33) dX6_beside_33 rfl 0 rfl ?_
  refine P_getI (jj := 11) (pc := 34) dX6_beside_34 fa_RX6_101 sM_0 fM0_11 rfl ?_
  rw [c11]
  refine P_icmp_ge (tgt := 57) (pc := 37) dX6_beside_37 (by decide) (by first | (unfold InR; omega) | (rw [g5]; unfold InR; omega)) (by first | (unfold InR; omega) | (rw [g5]; unfold InR; omega)) (fun c_37 => ?_) (fun c_37 => ?_)
  · refine P_sub (L' := [(0, vr 0), (1, vi _)]) [0, 1] rfl ?_
    exact kx ν hP (fun i hi => hB i (by omega))
  · refine P_aload_n (pc := 40) dX6_beside_40 rfl 0 rfl ?_
    refine P_getR (pc := 41) dX6_beside_41 fa_RX6_95 sM_0 fM0_38 ?_
    refine P_iload_n (pc := 44) dX6_beside_44 rfl 2 rfl ?_
    refine P_aload_n (pc := 45) dX6_beside_45 rfl 0 rfl ?_
    refine P_iload_n (pc := 46) dX6_beside_46 rfl 2 rfl ?_
    refine P_callVi (Y' := mX6_sureOf) (as := [_]) (pc := 47) dX6_beside_47 rfl (by decide : 1 < 6) sM_0 rfl ml_RX6_258 im_X6_sureOf se_X6_sureOf mk_X6_sureOf (Nat.le_of_ble_eq_true rfl) (c_X6_sureOf hLC (by omega) hK) (fun z_ μ_ hq => ?_)
    obtain ⟨rfl, hμ_⟩ := hq
    have hμ_ := hμ_.symm
    subst hμ_
    refine P_iast (pc := 50) dX6_beside_50 sM_29 (by omega) (by omega) (by decide) ?_
    refine P_iinc (L' := [(3, vi _), (0, vr 0), (1, vi _)]) (pc := 51) dX6_beside_51 (by decide) 2 rfl rfl ?_
    refine P_goto (tgt := 32) (pc := 54) dX6_beside_54 (by decide) ?_
    refine P_sub (L' := [(0, vr 0), (1, vi _), (3, vi _)]) [1, 2, 0] rfl ?_
    refine ih (j + 1) (t + 1) _ (by omega) (by omega) (by omega) (hP.put (by omega)) (by rw [putI_ne (by decide)]; exact c11) (LC_put hLC (by decide)) (fun i hi => ?_)
    rw [putI_eq]
    rcases Nat.lt_or_ge i j with q | q
    · rw [if_neg (by omega)]; exact hB i q
    · have e : i = j := by omega
      subst e
      rw [if_pos ht.symm, ht, Int.toNat_natCast]
set_option maxHeartbeats 1000000 in
set_option maxRecDepth 100000 in
theorem c_X6_beside {μ : Mem} {K : Cel} {h : Int} (hk : kd μ.1 = K) (hK : KOK K) (hF : FOK μ.1) (hh : InR h) : PC shM 6 mX6_beside [vr 0, vi h] (μ) (QI (fun z μ' => z = (if whyH h = 0 then (besN K μ.1 h (K 0 11).toNat : Int) else whyH h) ∧ PMT (refW μ (whyH h)) μ')) := by
  refine PC.of (by decide +kernel) (Nat.le_of_ble_eq_true rfl) ?_
  refine P_sub (L' := [(0, vr 0), (1, vi h)]) [0, 1] rfl ?_
  have hK1 := hK.1
  have hk11 : K 0 11 = μ.1 0 11 := by rw [← hk]; rfl
  have hn : InR (μ.1 0 11) := by unfold InR; omega
  refine P_iload_n (pc := 0) dX6_beside_0 rfl 1 rfl ?_
  refine P_iconst (pc := 1) dX6_beside_1 ?_
  refine P_bipush (pc := 2) dX6_beside_2 (by decide) ?_
  refine P_callSi (Y' := mX6_out) (as := [_, _, _]) (pc := 4) dX6_beside_4 rfl (by decide : 0 < 6) ml_RX6_121 sm_X6_out mk_X6_out (Nat.le_of_ble_eq_true rfl) (c_X6_out hh (by unfold InR; omega) (by unfold InR; omega)) (fun z_ μ_ hq => ?_)
  obtain ⟨hz, hμ_⟩ := hq
  have hμ_ := hμ_.symm
  subst hμ_
  have hz : z_ = whyH h := hz
  have hv := whyH_v h
  rw [← hz] at hv
  have hv0 : z_ = 0 → _ := fun e => whyH_0 (h := h) (hz ▸ e)
  refine P_istore_n (L' := [(2, vi _), (0, vr 0), (1, vi _)]) (pc := 7) dX6_beside_7 rfl (by decide) rfl ?_
  refine P_iload_n (pc := 8) dX6_beside_8 rfl 0 rfl ?_
  refine P_if_eq (tgt := 18) (pc := 9) dX6_beside_9 (by decide) (by first | (unfold InR; omega) | (rw [g5]; unfold InR; omega)) (fun c_9 => ?_) (fun c_9 => ?_)
  · refine P_aload_n (pc := 18) dX6_beside_18 rfl 1 rfl ?_
    refine P_iconst (pc := 19) dX6_beside_19 ?_
    refine P_callVi (Y' := mX6_findLeft) (as := [_]) (pc := 20) dX6_beside_20 rfl (by decide : 5 < 6) sM_0 rfl ml_RX6_241 im_X6_findLeft se_X6_findLeft mk_X6_findLeft (Nat.le_of_ble_eq_true rfl) (c_X6_findLeft hk hK hF (Or.inl rfl)) (fun z_ μ_ hq => ?_)
    obtain ⟨hzl, hP, hLF⟩ := hq
    refine P_pop (pc := 23) dX6_beside_23 rfl ?_
    refine P_aload_n (pc := 24) dX6_beside_24 rfl 1 rfl ?_
    refine P_iload_n (pc := 25) dX6_beside_25 rfl 2 rfl ?_
    refine P_iconst (pc := 26) dX6_beside_26 ?_
    refine P_callVv (Y' := mX6_findClean) (as := [_, _]) (pc := 27) dX6_beside_27 rfl (by decide : 5 < 6) sM_0 rfl ml_RX6_254 im_X6_findClean se_X6_findClean mk_X6_findClean (Nat.le_of_ble_eq_true rfl) (c_X6_findClean ((PM_kd hP).trans hk) hK (Or.inl rfl) (by omega) hLF) (fun μ_ hq => ?_)
    obtain ⟨hP2, hLC⟩ := hq
    have hP := hP.tr hP2
    refine P_iconst (pc := 30) dX6_beside_30 ?_
    refine P_istore_n (L' := [(3, vi _), (2, vi _), (0, vr 0), (1, vi _)]) (pc := 31) dX6_beside_31 rfl (by decide) rfl ?_
    refine P_sub (L' := [(0, vr 0), (1, vi _), (3, vi _)]) [2, 3, 0] rfl ?_
    have c11 : μ_.1 0 11 = K 0 11 := by rw [hP.num 11 (by decide), hk11]
    refine P_post (Q' := (QI (fun z μ' => z = (besN K μ.1 h (K 0 11).toNat : Int) ∧ PMT μ μ'))) (fun r μ' hq => ?_) (l_X6_beside1 hK ?_ ((K 0 11).toNat + 1) 0 0 _ rfl (Nat.zero_le _) (by omega) hP.t c11 hLC (fun i hi => absurd hi (Nat.not_lt_zero i)))
    · obtain ⟨z9, hr9, hz9, hP9⟩ := hq
      refine ⟨z9, hr9, ?_, ?_⟩
      · rw [← hz, if_pos (by omega)]; exact hz9
      · rw [← hz, refW, if_pos (by omega)]; exact hP9
    · clear hP hLC hLF hP2 c11
      intro ν hP hSB
      refine P_aload_n (pc := 57) dX6_beside_57 rfl 0 rfl ?_
      refine P_iconst (pc := 58) dX6_beside_58 ?_
      refine P_callVi (Y' := mX6_findLeft) (as := [_]) (pc := 59) dX6_beside_59 rfl (by decide : 5 < 6) sM_0 rfl ml_RX6_241 im_X6_findLeft se_X6_findLeft mk_X6_findLeft (Nat.le_of_ble_eq_true rfl) (c_X6_findLeft ((PMT_kd hP).trans hk) hK (FOK_PMT hP hF) (Or.inr rfl)) (fun z_ μ_ hq => ?_)
      obtain ⟨hzl, hP2, hLF⟩ := hq
      have hLF := LF_PMT hP hLF
      have e29 := hP2.c29
      have hP := hP.tr hP2.t
      refine P_pop (pc := 62) dX6_beside_62 rfl ?_
      refine P_aload_n (pc := 63) dX6_beside_63 rfl 0 rfl ?_
      refine P_iload_n (pc := 64) dX6_beside_64 rfl 1 rfl ?_
      refine P_iconst (pc := 65) dX6_beside_65 ?_
      refine P_callVv (Y' := mX6_findClean) (as := [_, _]) (pc := 66) dX6_beside_66 rfl (by decide : 5 < 6) sM_0 rfl ml_RX6_254 im_X6_findClean se_X6_findClean mk_X6_findClean (Nat.le_of_ble_eq_true rfl) (c_X6_findClean ((PMT_kd hP).trans hk) hK (Or.inr rfl) (by omega) hLF) (fun μ_ hq => ?_)
      obtain ⟨hP2, hLC⟩ := hq
      have e29 := (hP2.c29).trans e29
      have hP := hP.tr hP2.t
      refine P_iconst (pc := 69) dX6_beside_69 ?_
      refine P_istore_n (L' := [(3, vi _), (0, vr 0), (1, vi _)]) (pc := 70) dX6_beside_70 rfl (by decide) rfl ?_
      refine P_iconst (pc := 71) dX6_beside_71 ?_
      refine P_istore (L' := [(4, vi _), (3, vi _), (0, vr 0), (1, vi _)]) (pc := 72) dX6_beside_72 (by decide) rfl ?_
      refine P_sub (L' := [(0, vr 0), (1, vi _), (3, vi _), (4, vi _)]) [2, 3, 1, 0] rfl ?_
      have c11 : μ_.1 0 11 = K 0 11 := by rw [hP.num 11 (by decide), hk11]
      exact l_X6_beside2 hK hP hLC c11 (fun i hi => by rw [e29]; exact hSB i hi) ((K 0 11).toNat + 1) 0 0 rfl (Nat.zero_le _) (by omega)
  · refine P_aload_n (pc := 12) dX6_beside_12 rfl 1 rfl ?_
    refine P_iload_n (pc := 13) dX6_beside_13 rfl 0 rfl ?_
    refine P_callVi (Y' := mX6_no) (as := [_]) (pc := 14) dX6_beside_14 rfl (by decide : 0 < 6) sM_0 rfl ml_RX6_109 im_X6_no se_X6_no mk_X6_no (Nat.le_of_ble_eq_true rfl) (c_X6_no (by omega)) (fun z_ μ_ hq => ?_)
    obtain ⟨rfl, hμ_⟩ := hq
    have hμ_ := hμ_.symm
    subst hμ_
    exact P_iret (pc := 17) dX6_beside_17 rfl (QI.mk (by first | (exfalso; omega) | (rw [← hz]; exact ⟨by rw [if_neg (by omega)], by rw [refW, if_neg (by omega)]; exact PM.rf.t⟩) | (have e9 : j = (K 0 11).toNat := (by omega); rw [← e9]; exact ⟨rfl, hP⟩)))
