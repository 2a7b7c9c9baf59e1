theorem factB_of {K F : Cel} {o w h : Int} {f : Nat} {X : Cel} (hX : simX K w h o = X) (hh : F 21 (f : Int) = h) : factB K F o w f = (decide (X 13 (F 20 (f : Int)) = 0) == decide (F 22 (f : Int) = 1)) := by unfold factB; rw [hh, hX]
theorem agB_f {K F : Cel} {o w : Int} {f : Nat} (hf : f < (F 0 30).toNat) (h : factB K F o w f = false) : agB K F o w = false := by
  cases e : agB K F o w with
  | false => rfl
  | true =>
    have := (allF_iff.mp e) f hf
    rw [h] at this
    cases this
theorem agB_t {K F : Cel} {o w : Int} (h : ∀ f : Nat, f < (F 0 30).toNat → factB K F o w f = true) : agB K F o w = true := allF_iff.mpr h
set_option maxHeartbeats 1000000 in
set_option maxRecDepth 100000 in
theorem l_X6_agrees2 {μ : Mem} {K : Cel} {S : Int → Int} {w o : Int} (hk : kd μ.1 = K) (hK : KOK K) (hF : FOK μ.1) (ho : o = 0 ∨ o = 1) (hw : 0 ≤ w ∧ w < 64) (hS : (∀ i : Int, 0 ≤ i → i < K 0 12 → S i = srcX K i)) {h : Int} {X : Cel} (hh : 0 ≤ h ∧ h < 48) (hX : XOK X) (hsim : simX K w h o = X) (kx : (∀ f : Nat, f < (μ.1 0 30).toNat → μ.1 21 (f : Int) = h → factB K μ.1 o w f = true) → PW shM 4 mX6_agrees 79 [(0, vr 0), (1, vi w), (2, vi h)] [] (setW μ S X) (QI (fun z μ' => z = (if agB K μ.1 o w = true then 1 else 0) ∧ ∃ X' : Cel, μ' = setW μ S X'))) : ∀ (n j : Nat) (f : Int), f = (j : Int) → j ≤ (μ.1 0 30).toNat → (μ.1 0 30).toNat - j < n → (∀ i : Nat, i < j → μ.1 21 (i : Int) = h → factB K μ.1 o w i = true) → PW shM 4 mX6_agrees 16 [(0, vr 0), (1, vi w), (2, vi h), (3, vi f)] [] (setW μ S X) (QI (fun z μ' => z = (if agB K μ.1 o w = true then 1 else 0) ∧ ∃ X' : Cel, μ' = setW μ S X')) := by
  intro n
  induction n with
  | zero => intro j f _ _ q; omega
  | succ n ih =>
  intro j f hf hj hn hB
  have f0 := hF.1
  have f1 := hF.2.1
  have f2 := hF.2.2.1
  have f3 := hF.2.2.2
  have hk11 : K 0 11 = μ.1 0 11 := by rw [← hk]; rfl
  have hk1 := hK.1
  have g1 := f1 f
  have g2 := f2 f
  have g3 : f < μ.1 0 30 → 0 ≤ μ.1 20 f ∧ μ.1 20 f < μ.1 0 11 := fun q => f3 f (by omega) q
  have g4 := hX.1 (μ.1 20 f)
  have g5 := factB_of (F := μ.1) (f := j) hsim
  rw [← hf] at g5
  refine P_iload_n (pc := 16) dX6_agrees_16 rfl 3 rfl ?_
  refine P_aload_n (pc := 17) dX6_agrees_17 rfl 0 rfl ?_
  refine P_getI (jj := 30) (pc := 18) dX6_agrees_18 fa_RX6_226 sM_0 fM0_30 rfl ?_
  try simp only [wr_1, wr_2, wr_3, wr_4, wr_5, wr_6, wr_7, wr_8, wr_9, wr_10, wr_11, wr_12, wr_20, wr_21, wr_22, wr_23, wr_24, wr_25, wr_26, wr_27, wr_28, wr_29, wr_30, wr_13, wr_14, wr_16, wr_17, wr_18, wr_19, wr_15, wo_11, wo_12, wo_14, wo_15, wo_16, wo_30, wo_31, wo_37, wo_40, wo_41, wo_42, wp_13, wp_14, wp_16, wp_17, wp_18, wp_19, wp_0_24, wp_0_25, xn_0_13, xn_0_14, xn_0_15, xn_0_16, xn_0_17, xn_0_18, xn_0_19, xn_13_0, xn_13_14, xn_13_15, xn_13_16, xn_13_17, xn_13_18, xn_13_19, xn_14_0, xn_14_13, xn_14_15, xn_14_16, xn_14_17, xn_14_18, xn_14_19, xn_15_0, xn_15_13, xn_15_14, xn_15_16, xn_15_17, xn_15_18, xn_15_19, xn_16_0, xn_16_13, xn_16_14, xn_16_15, xn_16_17, xn_16_18, xn_16_19, xn_17_0, xn_17_13, xn_17_14, xn_17_15, xn_17_16, xn_17_18, xn_17_19, xn_18_0, xn_18_13, xn_18_14, xn_18_15, xn_18_16, xn_18_17, xn_18_19, xn_19_0, xn_19_13, xn_19_14, xn_19_15, xn_19_16, xn_19_17, xn_19_18, kr_2, kr_3, kr_4, kr_5, kr_6, kr_7, kr_8, kr_9, kr_10, kr_11, setW_put15, setW_24, setW_25, setW_2, kd_11, kd_12, setW_setW]
  refine P_icmp_ge (tgt := 79) (pc := 21) dX6_agrees_21 (by decide) (by unfold InR; omega) (by unfold InR; omega) (fun c_21 => ?_) (fun c_21 => ?_)
  · refine P_sub (L' := [(0, vr 0), (1, vi _), (2, vi _)]) [0, 1, 2] rfl ?_
    exact kx (fun i hi => hB i (by omega))
  · refine P_aload_n (pc := 24) dX6_agrees_24 rfl 0 rfl ?_
    refine P_getR (pc := 25) dX6_agrees_25 fa_RX6_71 sM_0 fM0_27 ?_
    refine P_iload_n (pc := 28) dX6_agrees_28 rfl 3 rfl ?_
    refine P_iald (pc := 29) dX6_agrees_29 sM_21 (by omega) (by omega) (by decide) ?_
    try simp only [wr_1, wr_2, wr_3, wr_4, wr_5, wr_6, wr_7, wr_8, wr_9, wr_10, wr_11, wr_12, wr_20, wr_21, wr_22, wr_23, wr_24, wr_25, wr_26, wr_27, wr_28, wr_29, wr_30, wr_13, wr_14, wr_16, wr_17, wr_18, wr_19, wr_15, wo_11, wo_12, wo_14, wo_15, wo_16, wo_30, wo_31, wo_37, wo_40, wo_41, wo_42, wp_13, wp_14, wp_16, wp_17, wp_18, wp_19, wp_0_24, wp_0_25, xn_0_13, xn_0_14, xn_0_15, xn_0_16, xn_0_17, xn_0_18, xn_0_19, xn_13_0, xn_13_14, xn_13_15, xn_13_16, xn_13_17, xn_13_18, xn_13_19, xn_14_0, xn_14_13, xn_14_15, xn_14_16, xn_14_17, xn_14_18, xn_14_19, xn_15_0, xn_15_13, xn_15_14, xn_15_16, xn_15_17, xn_15_18, xn_15_19, xn_16_0, xn_16_13, xn_16_14, xn_16_15, xn_16_17, xn_16_18, xn_16_19, xn_17_0, xn_17_13, xn_17_14, xn_17_15, xn_17_16, xn_17_18, xn_17_19, xn_18_0, xn_18_13, xn_18_14, xn_18_15, xn_18_16, xn_18_17, xn_18_19, xn_19_0, xn_19_13, xn_19_14, xn_19_15, xn_19_16, xn_19_17, xn_19_18, kr_2, kr_3, kr_4, kr_5, kr_6, kr_7, kr_8, kr_9, kr_10, kr_11, setW_put15, setW_24, setW_25, setW_2, kd_11, kd_12, setW_setW]
    refine P_iload_n (pc := 30) dX6_agrees_30 rfl 2 rfl ?_
    refine P_icmp_ne (tgt := 73) (pc := 31) dX6_agrees_31 (by decide) (by unfold InR; omega) (by unfold InR; omega) (fun c_31 => ?_) (fun c_31 => ?_)
    · refine P_iinc (L' := [(3, vi _), (0, vr 0), (1, vi _), (2, vi _)]) (pc := 73) dX6_agrees_73 (by decide) 3 rfl rfl ?_
      refine P_goto (tgt := 16) (pc := 76) dX6_agrees_76 (by decide) ?_
      refine P_sub (L' := [(0, vr 0), (1, vi _), (2, vi _), (3, vi _)]) [1, 2, 3, 0] rfl ?_
      refine ih (j + 1) (f + 1) (by omega) (by omega) (by omega) (fun i hi hi2 => ?_)
      rcases Nat.lt_or_ge i j with q | q
      · exact hB i q hi2
      · have e : i = j := by omega
        subst e
        rw [← hf] at hi2
        first | (exfalso; omega) | (rw [g5 (by omega)]; grind)
    · refine P_aload_n (pc := 34) dX6_agrees_34 rfl 0 rfl ?_
      refine P_getR (pc := 35) dX6_agrees_35 fa_RX6_46 sM_0 fM0_17 ?_
      refine P_aload_n (pc := 38) dX6_agrees_38 rfl 0 rfl ?_
      refine P_getR (pc := 39) dX6_agrees_39 fa_RX6_68 sM_0 fM0_26 ?_
      refine P_iload_n (pc := 42) dX6_agrees_42 rfl 3 rfl ?_
      refine P_iald (pc := 43) dX6_agrees_43 sM_20 (by omega) (by omega) (by decide) ?_
      try simp only [wr_1, wr_2, wr_3, wr_4, wr_5, wr_6, wr_7, wr_8, wr_9, wr_10, wr_11, wr_12, wr_20, wr_21, wr_22, wr_23, wr_24, wr_25, wr_26, wr_27, wr_28, wr_29, wr_30, wr_13, wr_14, wr_16, wr_17, wr_18, wr_19, wr_15, wo_11, wo_12, wo_14, wo_15, wo_16, wo_30, wo_31, wo_37, wo_40, wo_41, wo_42, wp_13, wp_14, wp_16, wp_17, wp_18, wp_19, wp_0_24, wp_0_25, xn_0_13, xn_0_14, xn_0_15, xn_0_16, xn_0_17, xn_0_18, xn_0_19, xn_13_0, xn_13_14, xn_13_15, xn_13_16, xn_13_17, xn_13_18, xn_13_19, xn_14_0, xn_14_13, xn_14_15, xn_14_16, xn_14_17, xn_14_18, xn_14_19, xn_15_0, xn_15_13, xn_15_14, xn_15_16, xn_15_17, xn_15_18, xn_15_19, xn_16_0, xn_16_13, xn_16_14, xn_16_15, xn_16_17, xn_16_18, xn_16_19, xn_17_0, xn_17_13, xn_17_14, xn_17_15, xn_17_16, xn_17_18, xn_17_19, xn_18_0, xn_18_13, xn_18_14, xn_18_15, xn_18_16, xn_18_17, xn_18_19, xn_19_0, xn_19_13, xn_19_14, xn_19_15, xn_19_16, xn_19_17, xn_19_18, kr_2, kr_3, kr_4, kr_5, kr_6, kr_7, kr_8, kr_9, kr_10, kr_11, setW_put15, setW_24, setW_25, setW_2, kd_11, kd_12, setW_setW]
      refine P_iald (pc := 44) dX6_agrees_44 sM_13 (by omega) (by omega) (by decide) ?_
      try simp only [wr_1, wr_2, wr_3, wr_4, wr_5, wr_6, wr_7, wr_8, wr_9, wr_10, wr_11, wr_12, wr_20, wr_21, wr_22, wr_23, wr_24, wr_25, wr_26, wr_27, wr_28, wr_29, wr_30, wr_13, wr_14, wr_16, wr_17, wr_18, wr_19, wr_15, wo_11, wo_12, wo_14, wo_15, wo_16, wo_30, wo_31, wo_37, wo_40, wo_41, wo_42, wp_13, wp_14, wp_16, wp_17, wp_18, wp_19, wp_0_24, wp_0_25, xn_0_13, xn_0_14, xn_0_15, xn_0_16, xn_0_17, xn_0_18, xn_0_19, xn_13_0, xn_13_14, xn_13_15, xn_13_16, xn_13_17, xn_13_18, xn_13_19, xn_14_0, xn_14_13, xn_14_15, xn_14_16, xn_14_17, xn_14_18, xn_14_19, xn_15_0, xn_15_13, xn_15_14, xn_15_16, xn_15_17, xn_15_18, xn_15_19, xn_16_0, xn_16_13, xn_16_14, xn_16_15, xn_16_17, xn_16_18, xn_16_19, xn_17_0, xn_17_13, xn_17_14, xn_17_15, xn_17_16, xn_17_18, xn_17_19, xn_18_0, xn_18_13, xn_18_14, xn_18_15, xn_18_16, xn_18_17, xn_18_19, xn_19_0, xn_19_13, xn_19_14, xn_19_15, xn_19_16, xn_19_17, xn_19_18, kr_2, kr_3, kr_4, kr_5, kr_6, kr_7, kr_8, kr_9, kr_10, kr_11, setW_put15, setW_24, setW_25, setW_2, kd_11, kd_12, setW_setW]
      refine P_if_ne (tgt := 52) (pc := 45) dX6_agrees_45 (by decide) (by unfold InR; omega) (fun c_45 => ?_) (fun c_45 => ?_)
      · refine P_iconst (pc := 52) dX6_agrees_52 ?_
        refine P_aload_n (pc := 53) dX6_agrees_53 rfl 0 rfl ?_
        refine P_getR (pc := 54) dX6_agrees_54 fa_RX6_74 sM_0 fM0_28 ?_
        refine P_iload_n (pc := 57) dX6_agrees_57 rfl 3 rfl ?_
        refine P_iald (pc := 58) dX6_agrees_58 sM_22 (by omega) (by omega) (by decide) ?_
        try simp only [wr_1, wr_2, wr_3, wr_4, wr_5, wr_6, wr_7, wr_8, wr_9, wr_10, wr_11, wr_12, wr_20, wr_21, wr_22, wr_23, wr_24, wr_25, wr_26, wr_27, wr_28, wr_29, wr_30, wr_13, wr_14, wr_16, wr_17, wr_18, wr_19, wr_15, wo_11, wo_12, wo_14, wo_15, wo_16, wo_30, wo_31, wo_37, wo_40, wo_41, wo_42, wp_13, wp_14, wp_16, wp_17, wp_18, wp_19, wp_0_24, wp_0_25, xn_0_13, xn_0_14, xn_0_15, xn_0_16, xn_0_17, xn_0_18, xn_0_19, xn_13_0, xn_13_14, xn_13_15, xn_13_16, xn_13_17, xn_13_18, xn_13_19, xn_14_0, xn_14_13, xn_14_15, xn_14_16, xn_14_17, xn_14_18, xn_14_19, xn_15_0, xn_15_13, xn_15_14, xn_15_16, xn_15_17, xn_15_18, xn_15_19, xn_16_0, xn_16_13, xn_16_14, xn_16_15, xn_16_17, xn_16_18, xn_16_19, xn_17_0, xn_17_13, xn_17_14, xn_17_15, xn_17_16, xn_17_18, xn_17_19, xn_18_0, xn_18_13, xn_18_14, xn_18_15, xn_18_16, xn_18_17, xn_18_19, xn_19_0, xn_19_13, xn_19_14, xn_19_15, xn_19_16, xn_19_17, xn_19_18, kr_2, kr_3, kr_4, kr_5, kr_6, kr_7, kr_8, kr_9, kr_10, kr_11, setW_put15, setW_24, setW_25, setW_2, kd_11, kd_12, setW_setW]
        refine P_iconst (pc := 59) dX6_agrees_59 ?_
        refine P_icmp_ne (tgt := 67) (pc := 60) dX6_agrees_60 (by decide) (by unfold InR; omega) (by unfold InR; omega) (fun c_60 => ?_) (fun c_60 => ?_)
        · refine P_iconst (pc := 67) dX6_agrees_67 ?_
          refine P_icmp_eq (tgt := 73) (pc := 68) dX6_agrees_68 (by decide) (by unfold InR; omega) (by unfold InR; omega) (fun c_68 => ?_) (fun c_68 => ?_)
          · refine P_iinc (L' := [(3, vi _), (0, vr 0), (1, vi _), (2, vi _)]) (pc := 73) dX6_agrees_73 (by decide) 3 rfl rfl ?_
            refine P_goto (tgt := 16) (pc := 76) dX6_agrees_76 (by decide) ?_
            refine P_sub (L' := [(0, vr 0), (1, vi _), (2, vi _), (3, vi _)]) [1, 2, 3, 0] rfl ?_
            refine ih (j + 1) (f + 1) (by omega) (by omega) (by omega) (fun i hi hi2 => ?_)
            rcases Nat.lt_or_ge i j with q | q
            · exact hB i q hi2
            · have e : i = j := by omega
              subst e
              rw [← hf] at hi2
              first | (exfalso; omega) | (rw [g5 (by omega)]; grind)
          · refine P_iconst (pc := 71) dX6_agrees_71 ?_
            exact P_zret (pc := 72) dX6_agrees_72 rfl (by omega) (QI.mk (by first | (exfalso; omega) | (refine ⟨?_, X, rfl⟩; have e9 : agB K μ.1 o w = false := agB_f (f := j) (by omega) (by rw [g5 (by omega)]; grind); rw [e9]; rfl) | (refine ⟨?_, _, rfl⟩; have e9 : agB K μ.1 o w = true := agB_t (fun i hi => hB i hi (by have := f1 (i : Int); omega)); rw [e9]; rfl)))
        · refine P_iconst (pc := 63) dX6_agrees_63 ?_
          refine P_goto (tgt := 68) (pc := 64) dX6_agrees_64 (by decide) ?_
          refine P_icmp_eq (tgt := 73) (pc := 68) dX6_agrees_68 (by decide) (by unfold InR; omega) (by unfold InR; omega) (fun c_68 => ?_) (fun c_68 => ?_)
          · refine P_iinc (L' := [(3, vi _), (0, vr 0), (1, vi _), (2, vi _)]) (pc := 73) dX6_agrees_73 (by decide) 3 rfl rfl ?_
            refine P_goto (tgt := 16) (pc := 76) dX6_agrees_76 (by decide) ?_
            refine P_sub (L' := [(0, vr 0), (1, vi _), (2, vi _), (3, vi _)]) [1, 2, 3, 0] rfl ?_
            refine ih (j + 1) (f + 1) (by omega) (by omega) (by omega) (fun i hi hi2 => ?_)
            rcases Nat.lt_or_ge i j with q | q
            · exact hB i q hi2
            · have e : i = j := by omega
              subst e
              rw [← hf] at hi2
              first | (exfalso; omega) | (rw [g5 (by omega)]; grind)
          · refine P_iconst (pc := 71) dX6_agrees_71 ?_
            exact P_zret (pc := 72) dX6_agrees_72 rfl (by omega) (QI.mk (by first | (exfalso; omega) | (refine ⟨?_, X, rfl⟩; have e9 : agB K μ.1 o w = false := agB_f (f := j) (by omega) (by rw [g5 (by omega)]; grind); rw [e9]; rfl) | (refine ⟨?_, _, rfl⟩; have e9 : agB K μ.1 o w = true := agB_t (fun i hi => hB i hi (by have := f1 (i : Int); omega)); rw [e9]; rfl)))
      · refine P_iconst (pc := 48) dX6_agrees_48 ?_
        refine P_goto (tgt := 53) (pc := 49) dX6_agrees_49 (by decide) ?_
        refine P_aload_n (pc := 53) dX6_agrees_53 rfl 0 rfl ?_
        refine P_getR (pc := 54) dX6_agrees_54 fa_RX6_74 sM_0 fM0_28 ?_
        refine P_iload_n (pc := 57) dX6_agrees_57 rfl 3 rfl ?_
        refine P_iald (pc := 58) dX6_agrees_58 sM_22 (by omega) (by omega) (by decide) ?_
        try simp only [wr_1, wr_2, wr_3, wr_4, wr_5, wr_6, wr_7, wr_8, wr_9, wr_10, wr_11, wr_12, wr_20, wr_21, wr_22, wr_23, wr_24, wr_25, wr_26, wr_27, wr_28, wr_29, wr_30, wr_13, wr_14, wr_16, wr_17, wr_18, wr_19, wr_15, wo_11, wo_12, wo_14, wo_15, wo_16, wo_30, wo_31, wo_37, wo_40, wo_41, wo_42, wp_13, wp_14, wp_16, wp_17, wp_18, wp_19, wp_0_24, wp_0_25, xn_0_13, xn_0_14, xn_0_15, xn_0_16, xn_0_17, xn_0_18, xn_0_19, xn_13_0, xn_13_14, xn_13_15, xn_13_16, xn_13_17, xn_13_18, xn_13_19, xn_14_0, xn_14_13, xn_14_15, xn_14_16, xn_14_17, xn_14_18, xn_14_19, xn_15_0, xn_15_13, xn_15_14, xn_15_16, xn_15_17, xn_15_18, xn_15_19, xn_16_0, xn_16_13, xn_16_14, xn_16_15, xn_16_17, xn_16_18, xn_16_19, xn_17_0, xn_17_13, xn_17_14, xn_17_15, xn_17_16, xn_17_18, xn_17_19, xn_18_0, xn_18_13, xn_18_14, xn_18_15, xn_18_16, xn_18_17, xn_18_19, xn_19_0, xn_19_13, xn_19_14, xn_19_15, xn_19_16, xn_19_17, xn_19_18, kr_2, kr_3, kr_4, kr_5, kr_6, kr_7, kr_8, kr_9, kr_10, kr_11, setW_put15, setW_24, setW_25, setW_2, kd_11, kd_12, setW_setW]
        refine P_iconst (pc := 59) dX6_agrees_59 ?_
        refine P_icmp_ne (tgt := 67) (pc := 60) dX6_agrees_60 (by decide) (by unfold InR; omega) (by unfold InR; omega) (fun c_60 => ?_) (fun c_60 => ?_)
        · refine P_iconst (pc := 67) dX6_agrees_67 ?_
          refine P_icmp_eq (tgt := 73) (pc := 68) dX6_agrees_68 (by decide) (by unfold InR; omega) (by unfold InR; omega) (fun c_68 => ?_) (fun c_68 => ?_)
          · refine P_iinc (L' := [(3, vi _), (0, vr 0), (1, vi _), (2, vi _)]) (pc := 73) dX6_agrees_73 (by decide) 3 rfl rfl ?_
            refine P_goto (tgt := 16) (pc := 76) dX6_agrees_76 (by decide) ?_
            refine P_sub (L' := [(0, vr 0), (1, vi _), (2, vi _), (3, vi _)]) [1, 2, 3, 0] rfl ?_
            refine ih (j + 1) (f + 1) (by omega) (by omega) (by omega) (fun i hi hi2 => ?_)
            rcases Nat.lt_or_ge i j with q | q
            · exact hB i q hi2
            · have e : i = j := by omega
              subst e
              rw [← hf] at hi2
              first | (exfalso; omega) | (rw [g5 (by omega)]; grind)
          · refine P_iconst (pc := 71) dX6_agrees_71 ?_
            exact P_zret (pc := 72) dX6_agrees_72 rfl (by omega) (QI.mk (by first | (exfalso; omega) | (refine ⟨?_, X, rfl⟩; have e9 : agB K μ.1 o w = false := agB_f (f := j) (by omega) (by rw [g5 (by omega)]; grind); rw [e9]; rfl) | (refine ⟨?_, _, rfl⟩; have e9 : agB K μ.1 o w = true := agB_t (fun i hi => hB i hi (by have := f1 (i : Int); omega)); rw [e9]; rfl)))
        · refine P_iconst (pc := 63) dX6_agrees_63 ?_
          refine P_goto (tgt := 68) (pc := 64) dX6_agrees_64 (by decide) ?_
          refine P_icmp_eq (tgt := 73) (pc := 68) dX6_agrees_68 (by decide) (by unfold InR; omega) (by unfold InR; omega) (fun c_68 => ?_) (fun c_68 => ?_)
          · refine P_iinc (L' := [(3, vi _), (0, vr 0), (1, vi _), (2, vi _)]) (pc := 73) dX6_agrees_73 (by decide) 3 rfl rfl ?_
            refine P_goto (tgt := 16) (pc := 76) dX6_agrees_76 (by decide) ?_
            refine P_sub (L' := [(0, vr 0), (1, vi _), (2, vi _), (3, vi _)]) [1, 2, 3, 0] rfl ?_
            refine ih (j + 1) (f + 1) (by omega) (by omega) (by omega) (fun i hi hi2 => ?_)
            rcases Nat.lt_or_ge i j with q | q
            · exact hB i q hi2
            · have e : i = j := by omega
              subst e
              rw [← hf] at hi2
              first | (exfalso; omega) | (rw [g5 (by omega)]; grind)
          · refine P_iconst (pc := 71) dX6_agrees_71 ?_
            exact P_zret (pc := 72) dX6_agrees_72 rfl (by omega) (QI.mk (by first | (exfalso; omega) | (refine ⟨?_, X, rfl⟩; have e9 : agB K μ.1 o w = false := agB_f (f := j) (by omega) (by rw [g5 (by omega)]; grind); rw [e9]; rfl) | (refine ⟨?_, _, rfl⟩; have e9 : agB K μ.1 o w = true := agB_t (fun i hi => hB i hi (by have := f1 (i : Int); omega)); rw [e9]; rfl)))
set_option maxHeartbeats 1000000 in
set_option maxRecDepth 100000 in
theorem l_X6_agrees1 {μ : Mem} {K : Cel} {S : Int → Int} {w o : Int} (hk : kd μ.1 = K) (hK : KOK K) (hF : FOK μ.1) (ho : o = 0 ∨ o = 1) (hw : 0 ≤ w ∧ w < 64) (hS : (∀ i : Int, 0 ≤ i → i < K 0 12 → S i = srcX K i)) : ∀ (n j : Nat) (h : Int), h = (j : Int) → j ≤ 48 → 48 - j < n → (∀ f : Nat, f < (μ.1 0 30).toNat → μ.1 21 (f : Int) < h → factB K μ.1 o w f = true) → PW shM 4 mX6_agrees 2 [(0, vr 0), (1, vi w), (2, vi h)] [] (setW μ S (upN (goesX K (srcX K) w) 0 j (begX K o))) (QI (fun z μ' => z = (if agB K μ.1 o w = true then 1 else 0) ∧ ∃ X' : Cel, μ' = setW μ S X')) := by
  intro n
  induction n with
  | zero => intro j h _ _ q; omega
  | succ n ih =>
  intro j h hh hj hn hB
  have f0 := hF.1
  have f1 := hF.2.1
  have f2 := hF.2.2.1
  have f3 := hF.2.2.2
  have hk11 : K 0 11 = μ.1 0 11 := by rw [← hk]; rfl
  have hk1 := hK.1
  have hX := XOK_runsN (S := srcX K) (w := w) hK ho j
  have hs := upN_s (goesX K (srcX K) w) 0 j (begX K o)
  rw [show (0 : Int) + (j : Int) = h by omega] at hs
  refine P_iload_n (pc := 2) dX6_agrees_2 rfl 2 rfl ?_
  refine P_bipush (pc := 3) dX6_agrees_3 (by decide) ?_
  refine P_icmp_gt (tgt := 85) (pc := 5) dX6_agrees_5 (by decide) (by unfold InR; omega) (by unfold InR; omega) (fun c_5 => ?_) (fun c_5 => ?_)
  · refine P_iconst (pc := 85) dX6_agrees_85 ?_
    exact P_zret (pc := 86) dX6_agrees_86 rfl (by omega) (QI.mk (by first | (exfalso; omega) | (refine ⟨?_, X, rfl⟩; have e9 : agB K μ.1 o w = false := agB_f (f := j) (by omega) (by rw [g5 (by omega)]; grind); rw [e9]; rfl) | (refine ⟨?_, _, rfl⟩; have e9 : agB K μ.1 o w = true := agB_t (fun i hi => hB i hi (by have := f1 (i : Int); omega)); rw [e9]; rfl)))
  · refine P_aload_n (pc := 8) dX6_agrees_8 rfl 0 rfl ?_
    refine P_iload_n (pc := 9) dX6_agrees_9 rfl 1 rfl ?_
    refine P_iload_n (pc := 10) dX6_agrees_10 rfl 2 rfl ?_
    refine P_callVv (Y' := mX6_goes) (as := [_, _]) (pc := 11) dX6_agrees_11 rfl (by decide : 3 < 4) sM_0 rfl ml_RX6_219 im_X6_goes se_X6_goes mk_X6_goes (Nat.le_of_ble_eq_true rfl) (c_goes hk hK hX hw (by omega) hS) (fun μ_ hq => ?_)
    subst hq
    try simp only [wr_1, wr_2, wr_3, wr_4, wr_5, wr_6, wr_7, wr_8, wr_9, wr_10, wr_11, wr_12, wr_20, wr_21, wr_22, wr_23, wr_24, wr_25, wr_26, wr_27, wr_28, wr_29, wr_30, wr_13, wr_14, wr_16, wr_17, wr_18, wr_19, wr_15, wo_11, wo_12, wo_14, wo_15, wo_16, wo_30, wo_31, wo_37, wo_40, wo_41, wo_42, wp_13, wp_14, wp_16, wp_17, wp_18, wp_19, wp_0_24, wp_0_25, xn_0_13, xn_0_14, xn_0_15, xn_0_16, xn_0_17, xn_0_18, xn_0_19, xn_13_0, xn_13_14, xn_13_15, xn_13_16, xn_13_17, xn_13_18, xn_13_19, xn_14_0, xn_14_13, xn_14_15, xn_14_16, xn_14_17, xn_14_18, xn_14_19, xn_15_0, xn_15_13, xn_15_14, xn_15_16, xn_15_17, xn_15_18, xn_15_19, xn_16_0, xn_16_13, xn_16_14, xn_16_15, xn_16_17, xn_16_18, xn_16_19, xn_17_0, xn_17_13, xn_17_14, xn_17_15, xn_17_16, xn_17_18, xn_17_19, xn_18_0, xn_18_13, xn_18_14, xn_18_15, xn_18_16, xn_18_17, xn_18_19, xn_19_0, xn_19_13, xn_19_14, xn_19_15, xn_19_16, xn_19_17, xn_19_18, kr_2, kr_3, kr_4, kr_5, kr_6, kr_7, kr_8, kr_9, kr_10, kr_11, setW_put15, setW_24, setW_25, setW_2, kd_11, kd_12, setW_setW]
    refine P_iconst (pc := 14) dX6_agrees_14 ?_
    refine P_istore_n (L' := [(3, vi _), (0, vr 0), (1, vi _), (2, vi _)]) (pc := 15) dX6_agrees_15 rfl (by decide) rfl ?_
    refine P_sub (L' := [(0, vr 0), (1, vi _), (2, vi _), (3, vi _)]) [1, 2, 3, 0] rfl ?_
    refine l_X6_agrees2 hk hK hF ho hw hS (h := h) (by omega) (XOK_goes hX hK) (simX_s hh) ?_ ((μ.1 0 30).toNat + 1) 0 0 rfl (Nat.zero_le _) (by omega) (fun i hi => absurd hi (Nat.not_lt_zero i))
    · intro hin
      refine P_iinc (L' := [(2, vi _), (0, vr 0), (1, vi _)]) (pc := 79) dX6_agrees_79 (by decide) 2 rfl rfl ?_
      refine P_goto (tgt := 2) (pc := 82) dX6_agrees_82 (by decide) ?_
      refine P_sub (L' := [(0, vr 0), (1, vi _), (2, vi _)]) [1, 2, 0] rfl ?_
      rw [← hs]
      refine ih (j + 1) (h + 1) (by omega) (by omega) (by omega) (fun i hi hi2 => ?_)
      rcases Int.lt_or_le (μ.1 21 (i : Int)) h with q | q
      · exact hB i hi q
      · exact hin i hi (by omega)
set_option maxHeartbeats 1000000 in
set_option maxRecDepth 100000 in
theorem c_X6_agrees {μ : Mem} {K : Cel} {S : Int → Int} {w o : Int} (hk : kd μ.1 = K) (hK : KOK K) (hF : FOK μ.1) (ho : o = 0 ∨ o = 1) (hw : 0 ≤ w ∧ w < 64) (hS : (∀ i : Int, 0 ≤ i → i < K 0 12 → S i = srcX K i)) : PC shM 4 mX6_agrees [vr 0, vi w] (setW μ S (begX K o)) (QI (fun z μ' => z = (if agB K μ.1 o w = true then 1 else 0) ∧ ∃ X' : Cel, μ' = setW μ S X')) := by
  refine PC.of (by decide +kernel) (Nat.le_of_ble_eq_true rfl) ?_
  refine P_sub (L' := [(0, vr 0), (1, vi w)]) [0, 1] rfl ?_
  refine P_iconst (pc := 0) dX6_agrees_0 ?_
  refine P_istore_n (L' := [(2, vi _), (0, vr 0), (1, vi _)]) (pc := 1) dX6_agrees_1 rfl (by decide) rfl ?_
  refine P_sub (L' := [(0, vr 0), (1, vi _), (2, vi _)]) [1, 2, 0] rfl ?_
  exact l_X6_agrees1 hk hK hF ho hw hS 49 0 0 rfl (Nat.zero_le _) (by omega) (fun i hi hi2 => by have := hF.2.1 (i : Int); omega)
theorem pow2T (n : Nat) : ((2 : Int) ^ n).toNat = 2 ^ n := by
  have : ((2 : Int) ^ n) = ((2 ^ n : Nat) : Int) := by simp
  rw [this]; rfl
theorem p2a {x : Int} (h : 0 ≤ x) : 0 ≤ 1 * (2 : Int) ^ (x % 10).toNat := by rw [Int.one_mul]; exact Int.le_of_lt (Int.pow_pos (by omega))
theorem p2b {x : Int} (h : 0 ≤ x) (h2 : x % 10 < 6 ∨ True) : 1 * (2 : Int) ^ (x % 10).toNat < 2147483648 := by
  rw [Int.one_mul]
  have h1 : (x % 10).toNat < 10 := by omega
  have h3 : ((2 : Int) ^ (x % 10).toNat).toNat < 2 ^ 10 := by rw [pow2T]; exact Nat.pow_lt_pow_right (by decide) h1
  omega
set_option maxHeartbeats 1000000 in
set_option maxRecDepth 100000 in
theorem l_X6_named {μ : Mem} (hK : KOK (kd μ.1)) : ∀ (n j : Nat) (e : Int), e = (j : Int) → j ≤ (kd μ.1 0 12).toNat → (kd μ.1 0 12).toNat - j < n → PW shM 0 mX6_named 4 [(0, vr 0), (1, vi (nmN (kd μ.1) j : Int)), (2, vi e)] [] μ (QI (fun z μ' => z = (nmK (kd μ.1) : Int) ∧ μ' = μ)) := by
  intro n
  induction n with
  | zero => intro j e _ _ q; omega
  | succ n ih =>
  intro j e he hj hn
  have hk := hK.1
  have he0 := hK.2.1
  simp only [wr_1, wr_2, wr_3, wr_4, wr_5, wr_6, wr_7, wr_8, wr_9, wr_10, wr_11, wr_12, wr_20, wr_21, wr_22, wr_23, wr_24, wr_25, wr_26, wr_27, wr_28, wr_29, wr_30, wr_13, wr_14, wr_16, wr_17, wr_18, wr_19, wr_15, wo_11, wo_12, wo_14, wo_15, wo_16, wo_30, wo_31, wo_37, wo_40, wo_41, wo_42, wp_13, wp_14, wp_16, wp_17, wp_18, wp_19, wp_0_24, wp_0_25, xn_0_13, xn_0_14, xn_0_15, xn_0_16, xn_0_17, xn_0_18, xn_0_19, xn_13_0, xn_13_14, xn_13_15, xn_13_16, xn_13_17, xn_13_18, xn_13_19, xn_14_0, xn_14_13, xn_14_15, xn_14_16, xn_14_17, xn_14_18, xn_14_19, xn_15_0, xn_15_13, xn_15_14, xn_15_16, xn_15_17, xn_15_18, xn_15_19, xn_16_0, xn_16_13, xn_16_14, xn_16_15, xn_16_17, xn_16_18, xn_16_19, xn_17_0, xn_17_13, xn_17_14, xn_17_15, xn_17_16, xn_17_18, xn_17_19, xn_18_0, xn_18_13, xn_18_14, xn_18_15, xn_18_16, xn_18_17, xn_18_19, xn_19_0, xn_19_13, xn_19_14, xn_19_15, xn_19_16, xn_19_17, xn_19_18, kr_2, kr_3, kr_4, kr_5, kr_6, kr_7, kr_8, kr_9, kr_10, kr_11, setW_put15, setW_24, setW_25, setW_2, kd_11, kd_12, setW_setW] at hk he0
  simp only [kd_12] at hj hn
  have g1 := hK.2.2.2.2.2.2.2.2.1 e
  have g2 : nmN (kd μ.1) j < 64 := nmN_lt hK.2.2.2.2.2.2.2.2.1 (fun e h0 h1 => (hK.2.2.2.2.2.2.2.2.2 e h0 h1).2.2.2) j (by simp only [kd_12]; omega)
  have g3 : e < μ.1 0 12 → (μ.1 11 e < 6 ∨ 10 ≤ μ.1 11 e) := fun q => (hK.2.2.2.2.2.2.2.2.2 e (by omega) (by simp only [kd_12]; omega)).2.2.2
  have g4 : nmN (kd μ.1) (j + 1) = nmN (kd μ.1) j ||| (if μ.1 11 e < 0 then 0 else 2 ^ (μ.1 11 e % 10).toNat) := by subst he; rfl
  simp only [wr_1, wr_2, wr_3, wr_4, wr_5, wr_6, wr_7, wr_8, wr_9, wr_10, wr_11, wr_12, wr_20, wr_21, wr_22, wr_23, wr_24, wr_25, wr_26, wr_27, wr_28, wr_29, wr_30, wr_13, wr_14, wr_16, wr_17, wr_18, wr_19, wr_15, wo_11, wo_12, wo_14, wo_15, wo_16, wo_30, wo_31, wo_37, wo_40, wo_41, wo_42, wp_13, wp_14, wp_16, wp_17, wp_18, wp_19, wp_0_24, wp_0_25, xn_0_13, xn_0_14, xn_0_15, xn_0_16, xn_0_17, xn_0_18, xn_0_19, xn_13_0, xn_13_14, xn_13_15, xn_13_16, xn_13_17, xn_13_18, xn_13_19, xn_14_0, xn_14_13, xn_14_15, xn_14_16, xn_14_17, xn_14_18, xn_14_19, xn_15_0, xn_15_13, xn_15_14, xn_15_16, xn_15_17, xn_15_18, xn_15_19, xn_16_0, xn_16_13, xn_16_14, xn_16_15, xn_16_17, xn_16_18, xn_16_19, xn_17_0, xn_17_13, xn_17_14, xn_17_15, xn_17_16, xn_17_18, xn_17_19, xn_18_0, xn_18_13, xn_18_14, xn_18_15, xn_18_16, xn_18_17, xn_18_19, xn_19_0, xn_19_13, xn_19_14, xn_19_15, xn_19_16, xn_19_17, xn_19_18, kr_2, kr_3, kr_4, kr_5, kr_6, kr_7, kr_8, kr_9, kr_10, kr_11, setW_put15, setW_24, setW_25, setW_2, kd_11, kd_12, setW_setW] at g1
  refine P_iload_n (pc := 4) dX6_named_4 rfl 2 rfl ?_
  refine P_aload_n (pc := 5) dX6_named_5 rfl 0 rfl ?_
  refine P_getI (jj := 12) (pc := 6) dX6_named_6 fa_RX6_125 sM_0 fM0_12 rfl ?_
  refine P_icmp_ge (tgt := 45) (pc := 9) dX6_named_9 (by decide) (by unfold InR; omega) (by unfold InR; omega) (fun c_9 => ?_) (fun c_9 => ?_)
  · refine P_iload_n (pc := 45) dX6_named_45 rfl 1 rfl ?_
    exact P_iret (pc := 46) dX6_named_46 rfl (QI.mk (by have e9 : j = (kd μ.1 0 12).toNat := (by simp only [kd_12]; omega); rw [e9]; exact ⟨rfl, rfl⟩))
  · refine P_iload_n (pc := 12) dX6_named_12 rfl 1 rfl ?_
    refine P_aload_n (pc := 13) dX6_named_13 rfl 0 rfl ?_
    refine P_getR (pc := 14) dX6_named_14 fa_RX6_40 sM_0 fM0_10 ?_
    refine P_iload_n (pc := 17) dX6_named_17 rfl 2 rfl ?_
    refine P_iald (pc := 18) dX6_named_18 sM_11 (by omega) (by omega) (by decide) ?_
    refine P_if_ge (tgt := 26) (pc := 19) dX6_named_19 (by decide) (by unfold InR; omega) (fun c_19 => ?_) (fun c_19 => ?_)
    · refine P_iconst (pc := 26) dX6_named_26 ?_
      refine P_aload_n (pc := 27) dX6_named_27 rfl 0 rfl ?_
      refine P_getR (pc := 28) dX6_named_28 fa_RX6_40 sM_0 fM0_10 ?_
      refine P_iload_n (pc := 31) dX6_named_31 rfl 2 rfl ?_
      refine P_iald (pc := 32) dX6_named_32 sM_11 (by omega) (by omega) (by decide) ?_
      refine P_bipush (pc := 33) dX6_named_33 (by decide) ?_
      refine P_irem (pc := 35) dX6_named_35 (by decide) (wI_rem (by omega) (by omega) (by omega) (by omega)) ?_
      refine P_ishl (pc := 36) dX6_named_36 (wI_shl _ (by omega) (by omega)) ?_
      refine P_ior (pc := 37) dX6_named_37 (wI_or (by omega) (by omega) (by first | omega | exact p2a (by omega)) (by first | omega | exact p2b (by omega) (by omega))) ?_
      refine P_istore_n (L' := [(1, vi _), (0, vr 0), (2, vi _)]) (pc := 38) dX6_named_38 rfl (by decide) rfl ?_
      refine P_iinc (L' := [(2, vi _), (1, vi _), (0, vr 0)]) (pc := 39) dX6_named_39 (by decide) 2 rfl rfl ?_
      refine P_goto (tgt := 4) (pc := 42) dX6_named_42 (by decide) ?_
      refine P_sub (L' := [(0, vr 0), (1, vi _), (2, vi _)]) [2, 1, 0] rfl ?_
      refine P_cast (L' := [(0, vr 0), (1, vi (nmN (kd μ.1) (j + 1) : Int)), (2, vi (e + 1))]) ?_ rfl (ih (j + 1) (e + 1) (by omega) (by simp only [kd_12]; omega) (by simp only [kd_12]; omega))
      rw [g4]
      first | rw [if_pos (by omega)] | rw [if_neg (by omega)]
      (try simp only [Int.one_mul, pow2T])
      rfl
    · refine P_iconst (pc := 22) dX6_named_22 ?_
      refine P_goto (tgt := 37) (pc := 23) dX6_named_23 (by decide) ?_
      refine P_ior (pc := 37) dX6_named_37 (wI_or (by omega) (by omega) (by first | omega | exact p2a (by omega)) (by first | omega | exact p2b (by omega) (by omega))) ?_
      refine P_istore_n (L' := [(1, vi _), (0, vr 0), (2, vi _)]) (pc := 38) dX6_named_38 rfl (by decide) rfl ?_
      refine P_iinc (L' := [(2, vi _), (1, vi _), (0, vr 0)]) (pc := 39) dX6_named_39 (by decide) 2 rfl rfl ?_
      refine P_goto (tgt := 4) (pc := 42) dX6_named_42 (by decide) ?_
      refine P_sub (L' := [(0, vr 0), (1, vi _), (2, vi _)]) [2, 1, 0] rfl ?_
      refine P_cast (L' := [(0, vr 0), (1, vi (nmN (kd μ.1) (j + 1) : Int)), (2, vi (e + 1))]) ?_ rfl (ih (j + 1) (e + 1) (by omega) (by simp only [kd_12]; omega) (by simp only [kd_12]; omega))
      rw [g4]
      first | rw [if_pos (by omega)] | rw [if_neg (by omega)]
      (try simp only [Int.one_mul, pow2T])
      rfl
set_option maxHeartbeats 1000000 in
set_option maxRecDepth 100000 in
theorem c_X6_named {μ : Mem} {K : Cel} (hk : kd μ.1 = K) (hK : KOK K) : PC shM 0 mX6_named [vr 0] (μ) (QI (fun z μ' => z = (nmK K : Int) ∧ μ' = μ)) := by
  refine PC.of (by decide +kernel) (Nat.le_of_ble_eq_true rfl) ?_
  refine P_sub (L' := [(0, vr 0)]) [0] rfl ?_
  subst hk
  refine P_iconst (pc := 0) dX6_named_0 ?_
  refine P_istore_n (L' := [(1, vi _), (0, vr 0)]) (pc := 1) dX6_named_1 rfl (by decide) rfl ?_
  refine P_iconst (pc := 2) dX6_named_2 ?_
  refine P_istore_n (L' := [(2, vi _), (1, vi _), (0, vr 0)]) (pc := 3) dX6_named_3 rfl (by decide) rfl ?_
  refine P_sub (L' := [(0, vr 0), (1, vi _), (2, vi _)]) [2, 1, 0] rfl ?_
  exact l_X6_named hK ((kd μ.1 0 12).toNat + 1) 0 0 rfl (Nat.zero_le _) (by omega)
