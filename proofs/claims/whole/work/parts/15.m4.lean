set_option maxHeartbeats 1000000 in
set_option maxRecDepth 100000 in
theorem l_X6_sunset {μ : Mem} {S : Int → Int} {X : Cel} (hK : KOK (kd μ.1)) (hX : XOK X) : ∀ (n j : Nat) (t : Int), t = (j : Int) → j ≤ (kd μ.1 0 11).toNat → (kd μ.1 0 11).toNat - j < n → PW shM 1 mX6_sunset 15 [(0, vr 0), (1, vi t)] [] (setW μ S (upN sunX 0 j X)) (QV (fun μ' => μ' = setW μ S (upN sunX 0 (kd μ.1 0 11).toNat X))) := by
  intro n
  induction n with
  | zero => intro j t _ _ h; omega
  | succ n ih =>
  intro j t ht hj hn
  have hk := hK.1
  simp only [kd_11] at hk hj hn
  have hZ : XOK (upN sunX 0 j X) := upN_inv XOK _ _ _ hX j (fun m y _ hy => XOK_sun hy) j (Nat.le_refl j)
  have hs := upN_s sunX 0 j X
  generalize hG : upN sunX 0 j X = Z at hZ hs ⊢
  rw [show (0 : Int) + (j : Int) = t by omega] at hs
  have g5 := hZ.2.1 t
  refine P_iload_n (pc := 15) dX6_sunset_15 rfl 1 rfl ?_
  refine P_aload_n (pc := 16) dX6_sunset_16 rfl 0 rfl ?_
  refine P_getI (jj := 11) (pc := 17) dX6_sunset_17 fa_RX6_101 sM_0 fM0_11 rfl ?_
  try simp only [wr_1, wr_2, wr_3, wr_4, wr_5, wr_6, wr_7, wr_8, wr_9, wr_10, wr_11, wr_12, wr_20, wr_21, wr_22, wr_23, wr_24, wr_25, wr_26, wr_27, wr_28, wr_29, wr_30, wr_13, wr_14, wr_16, wr_17, wr_18, wr_19, wr_15, wo_11, wo_12, wo_14, wo_15, wo_16, wo_30, wo_31, wo_37, wo_40, wo_41, wo_42, wp_13, wp_14, wp_16, wp_17, wp_18, wp_19, wp_0_24, wp_0_25, xn_0_13, xn_0_14, xn_0_15, xn_0_16, xn_0_17, xn_0_18, xn_0_19, xn_13_0, xn_13_14, xn_13_15, xn_13_16, xn_13_17, xn_13_18, xn_13_19, xn_14_0, xn_14_13, xn_14_15, xn_14_16, xn_14_17, xn_14_18, xn_14_19, xn_15_0, xn_15_13, xn_15_14, xn_15_16, xn_15_17, xn_15_18, xn_15_19, xn_16_0, xn_16_13, xn_16_14, xn_16_15, xn_16_17, xn_16_18, xn_16_19, xn_17_0, xn_17_13, xn_17_14, xn_17_15, xn_17_16, xn_17_18, xn_17_19, xn_18_0, xn_18_13, xn_18_14, xn_18_15, xn_18_16, xn_18_17, xn_18_19, xn_19_0, xn_19_13, xn_19_14, xn_19_15, xn_19_16, xn_19_17, xn_19_18, kr_2, kr_3, kr_4, kr_5, kr_6, kr_7, kr_8, kr_9, kr_10, kr_11, setW_put15, setW_24, setW_25, setW_2, kd_11, kd_12, setW_setW]
  refine P_icmp_ge (tgt := 43) (pc := 20) dX6_sunset_20 (by decide) (by unfold InR; omega) (by unfold InR; omega) (fun c_20 => ?_) (fun c_20 => ?_)
  · exact P_vret (pc := 43) dX6_sunset_43 rfl (QV.mk (by first | (unfold sunsetX; rw [if_pos (by omega)]; done) | (rw [← hG]; have e9 : j = (kd μ.1 0 11).toNat := (by simp only [kd_11]; omega); rw [e9]; try simp only [kd_11])))
  · refine P_aload_n (pc := 23) dX6_sunset_23 rfl 0 rfl ?_
    refine P_getR (pc := 24) dX6_sunset_24 fa_RX6_55 sM_0 fM0_20 ?_
    refine P_iload_n (pc := 27) dX6_sunset_27 rfl 1 rfl ?_
    refine P_zald (pc := 28) dX6_sunset_28 sM_16 (by omega) (by omega) (by decide) ?_
    try simp only [wr_1, wr_2, wr_3, wr_4, wr_5, wr_6, wr_7, wr_8, wr_9, wr_10, wr_11, wr_12, wr_20, wr_21, wr_22, wr_23, wr_24, wr_25, wr_26, wr_27, wr_28, wr_29, wr_30, wr_13, wr_14, wr_16, wr_17, wr_18, wr_19, wr_15, wo_11, wo_12, wo_14, wo_15, wo_16, wo_30, wo_31, wo_37, wo_40, wo_41, wo_42, wp_13, wp_14, wp_16, wp_17, wp_18, wp_19, wp_0_24, wp_0_25, xn_0_13, xn_0_14, xn_0_15, xn_0_16, xn_0_17, xn_0_18, xn_0_19, xn_13_0, xn_13_14, xn_13_15, xn_13_16, xn_13_17, xn_13_18, xn_13_19, xn_14_0, xn_14_13, xn_14_15, xn_14_16, xn_14_17, xn_14_18, xn_14_19, xn_15_0, xn_15_13, xn_15_14, xn_15_16, xn_15_17, xn_15_18, xn_15_19, xn_16_0, xn_16_13, xn_16_14, xn_16_15, xn_16_17, xn_16_18, xn_16_19, xn_17_0, xn_17_13, xn_17_14, xn_17_15, xn_17_16, xn_17_18, xn_17_19, xn_18_0, xn_18_13, xn_18_14, xn_18_15, xn_18_16, xn_18_17, xn_18_19, xn_19_0, xn_19_13, xn_19_14, xn_19_15, xn_19_16, xn_19_17, xn_19_18, kr_2, kr_3, kr_4, kr_5, kr_6, kr_7, kr_8, kr_9, kr_10, kr_11, setW_put15, setW_24, setW_25, setW_2, kd_11, kd_12, setW_setW]
    refine P_if_eq (tgt := 37) (pc := 29) dX6_sunset_29 (by decide) (by unfold InR; omega) (fun c_29 => ?_) (fun c_29 => ?_)
    · refine P_iinc (L' := [(1, vi _), (0, vr 0)]) (pc := 37) dX6_sunset_37 (by decide) 1 rfl rfl ?_
      refine P_goto (tgt := 15) (pc := 40) dX6_sunset_40 (by decide) ?_
      refine P_sub (L' := [(0, vr 0), (1, vi _)]) [1, 0] rfl ?_
      refine P_cast (L' := [(0, vr 0), (1, vi (t + 1))]) rfl ?_ (ih (j + 1) (t + 1) (by omega) (by simp only [kd_11]; omega) (by simp only [kd_11]; omega))
      rw [hs]
      simp only [sunX, wr_1, wr_2, wr_3, wr_4, wr_5, wr_6, wr_7, wr_8, wr_9, wr_10, wr_11, wr_12, wr_20, wr_21, wr_22, wr_23, wr_24, wr_25, wr_26, wr_27, wr_28, wr_29, wr_30, wr_13, wr_14, wr_16, wr_17, wr_18, wr_19, wr_15, wo_11, wo_12, wo_14, wo_15, wo_16, wo_30, wo_31, wo_37, wo_40, wo_41, wo_42, wp_13, wp_14, wp_16, wp_17, wp_18, wp_19, wp_0_24, wp_0_25, xn_0_13, xn_0_14, xn_0_15, xn_0_16, xn_0_17, xn_0_18, xn_0_19, xn_13_0, xn_13_14, xn_13_15, xn_13_16, xn_13_17, xn_13_18, xn_13_19, xn_14_0, xn_14_13, xn_14_15, xn_14_16, xn_14_17, xn_14_18, xn_14_19, xn_15_0, xn_15_13, xn_15_14, xn_15_16, xn_15_17, xn_15_18, xn_15_19, xn_16_0, xn_16_13, xn_16_14, xn_16_15, xn_16_17, xn_16_18, xn_16_19, xn_17_0, xn_17_13, xn_17_14, xn_17_15, xn_17_16, xn_17_18, xn_17_19, xn_18_0, xn_18_13, xn_18_14, xn_18_15, xn_18_16, xn_18_17, xn_18_19, xn_19_0, xn_19_13, xn_19_14, xn_19_15, xn_19_16, xn_19_17, xn_19_18, kr_2, kr_3, kr_4, kr_5, kr_6, kr_7, kr_8, kr_9, kr_10, kr_11, setW_put15, setW_24, setW_25, setW_2, kd_11, kd_12, setW_setW]
      grind
    · refine P_aload_n (pc := 32) dX6_sunset_32 rfl 0 rfl ?_
      refine P_iload_n (pc := 33) dX6_sunset_33 rfl 1 rfl ?_
      refine P_callVv (Y' := mX6_cleans) (as := [_]) (pc := 34) dX6_sunset_34 rfl (by decide : 0 < 1) sM_0 rfl ml_RX6_190 im_X6_cleans se_X6_cleans mk_X6_cleans (Nat.le_of_ble_eq_true rfl) (c_X6_cleans (by omega)) (fun μ_ hq => ?_)
      subst hq
      try simp only [wr_1, wr_2, wr_3, wr_4, wr_5, wr_6, wr_7, wr_8, wr_9, wr_10, wr_11, wr_12, wr_20, wr_21, wr_22, wr_23, wr_24, wr_25, wr_26, wr_27, wr_28, wr_29, wr_30, wr_13, wr_14, wr_16, wr_17, wr_18, wr_19, wr_15, wo_11, wo_12, wo_14, wo_15, wo_16, wo_30, wo_31, wo_37, wo_40, wo_41, wo_42, wp_13, wp_14, wp_16, wp_17, wp_18, wp_19, wp_0_24, wp_0_25, xn_0_13, xn_0_14, xn_0_15, xn_0_16, xn_0_17, xn_0_18, xn_0_19, xn_13_0, xn_13_14, xn_13_15, xn_13_16, xn_13_17, xn_13_18, xn_13_19, xn_14_0, xn_14_13, xn_14_15, xn_14_16, xn_14_17, xn_14_18, xn_14_19, xn_15_0, xn_15_13, xn_15_14, xn_15_16, xn_15_17, xn_15_18, xn_15_19, xn_16_0, xn_16_13, xn_16_14, xn_16_15, xn_16_17, xn_16_18, xn_16_19, xn_17_0, xn_17_13, xn_17_14, xn_17_15, xn_17_16, xn_17_18, xn_17_19, xn_18_0, xn_18_13, xn_18_14, xn_18_15, xn_18_16, xn_18_17, xn_18_19, xn_19_0, xn_19_13, xn_19_14, xn_19_15, xn_19_16, xn_19_17, xn_19_18, kr_2, kr_3, kr_4, kr_5, kr_6, kr_7, kr_8, kr_9, kr_10, kr_11, setW_put15, setW_24, setW_25, setW_2, kd_11, kd_12, setW_setW]
      refine P_iinc (L' := [(1, vi _), (0, vr 0)]) (pc := 37) dX6_sunset_37 (by decide) 1 rfl rfl ?_
      refine P_goto (tgt := 15) (pc := 40) dX6_sunset_40 (by decide) ?_
      refine P_sub (L' := [(0, vr 0), (1, vi _)]) [1, 0] rfl ?_
      refine P_cast (L' := [(0, vr 0), (1, vi (t + 1))]) rfl ?_ (ih (j + 1) (t + 1) (by omega) (by simp only [kd_11]; omega) (by simp only [kd_11]; omega))
      rw [hs]
      simp only [sunX, wr_1, wr_2, wr_3, wr_4, wr_5, wr_6, wr_7, wr_8, wr_9, wr_10, wr_11, wr_12, wr_20, wr_21, wr_22, wr_23, wr_24, wr_25, wr_26, wr_27, wr_28, wr_29, wr_30, wr_13, wr_14, wr_16, wr_17, wr_18, wr_19, wr_15, wo_11, wo_12, wo_14, wo_15, wo_16, wo_30, wo_31, wo_37, wo_40, wo_41, wo_42, wp_13, wp_14, wp_16, wp_17, wp_18, wp_19, wp_0_24, wp_0_25, xn_0_13, xn_0_14, xn_0_15, xn_0_16, xn_0_17, xn_0_18, xn_0_19, xn_13_0, xn_13_14, xn_13_15, xn_13_16, xn_13_17, xn_13_18, xn_13_19, xn_14_0, xn_14_13, xn_14_15, xn_14_16, xn_14_17, xn_14_18, xn_14_19, xn_15_0, xn_15_13, xn_15_14, xn_15_16, xn_15_17, xn_15_18, xn_15_19, xn_16_0, xn_16_13, xn_16_14, xn_16_15, xn_16_17, xn_16_18, xn_16_19, xn_17_0, xn_17_13, xn_17_14, xn_17_15, xn_17_16, xn_17_18, xn_17_19, xn_18_0, xn_18_13, xn_18_14, xn_18_15, xn_18_16, xn_18_17, xn_18_19, xn_19_0, xn_19_13, xn_19_14, xn_19_15, xn_19_16, xn_19_17, xn_19_18, kr_2, kr_3, kr_4, kr_5, kr_6, kr_7, kr_8, kr_9, kr_10, kr_11, setW_put15, setW_24, setW_25, setW_2, kd_11, kd_12, setW_setW]
      grind
set_option maxHeartbeats 1000000 in
set_option maxRecDepth 100000 in
theorem c_X6_sunset {μ : Mem} {S : Int → Int} {X : Cel} (hK : KOK (kd μ.1)) (hX : XOK X) : PC shM 1 mX6_sunset [vr 0] (setW μ S X) (QV (fun μ' => μ' = setW μ S (sunsetX (kd μ.1) X))) := by
  refine PC.of (by decide +kernel) (Nat.le_of_ble_eq_true rfl) ?_
  refine P_sub (L' := [(0, vr 0)]) [0] rfl ?_
  have hk := hK.1
  simp only [kd_11] at hk
  have h6 := hX.2.2.2.2.2.2
  refine P_aload_n (pc := 0) dX6_sunset_0 rfl 0 rfl ?_
  refine P_getI (jj := 25) (pc := 1) dX6_sunset_1 fa_RX6_180 sM_0 fM0_25 rfl ?_
  try simp only [wr_1, wr_2, wr_3, wr_4, wr_5, wr_6, wr_7, wr_8, wr_9, wr_10, wr_11, wr_12, wr_20, wr_21, wr_22, wr_23, wr_24, wr_25, wr_26, wr_27, wr_28, wr_29, wr_30, wr_13, wr_14, wr_16, wr_17, wr_18, wr_19, wr_15, wo_11, wo_12, wo_14, wo_15, wo_16, wo_30, wo_31, wo_37, wo_40, wo_41, wo_42, wp_13, wp_14, wp_16, wp_17, wp_18, wp_19, wp_0_24, wp_0_25, xn_0_13, xn_0_14, xn_0_15, xn_0_16, xn_0_17, xn_0_18, xn_0_19, xn_13_0, xn_13_14, xn_13_15, xn_13_16, xn_13_17, xn_13_18, xn_13_19, xn_14_0, xn_14_13, xn_14_15, xn_14_16, xn_14_17, xn_14_18, xn_14_19, xn_15_0, xn_15_13, xn_15_14, xn_15_16, xn_15_17, xn_15_18, xn_15_19, xn_16_0, xn_16_13, xn_16_14, xn_16_15, xn_16_17, xn_16_18, xn_16_19, xn_17_0, xn_17_13, xn_17_14, xn_17_15, xn_17_16, xn_17_18, xn_17_19, xn_18_0, xn_18_13, xn_18_14, xn_18_15, xn_18_16, xn_18_17, xn_18_19, xn_19_0, xn_19_13, xn_19_14, xn_19_15, xn_19_16, xn_19_17, xn_19_18, kr_2, kr_3, kr_4, kr_5, kr_6, kr_7, kr_8, kr_9, kr_10, kr_11, setW_put15, setW_24, setW_25, setW_2, kd_11, kd_12, setW_setW]
  refine P_if_eq (tgt := 8) (pc := 4) dX6_sunset_4 (by decide) (by unfold InR; omega) (fun c_4 => ?_) (fun c_4 => ?_)
  · refine P_aload_n (pc := 8) dX6_sunset_8 rfl 0 rfl ?_
    refine P_iconst (pc := 9) dX6_sunset_9 ?_
    refine P_putZ (jj := 25) (pc := 10) dX6_sunset_10 fa_RX6_180 fp_6_25 sM_0 fM0_25 rfl (by omega) ?_
    try simp only [wr_1, wr_2, wr_3, wr_4, wr_5, wr_6, wr_7, wr_8, wr_9, wr_10, wr_11, wr_12, wr_20, wr_21, wr_22, wr_23, wr_24, wr_25, wr_26, wr_27, wr_28, wr_29, wr_30, wr_13, wr_14, wr_16, wr_17, wr_18, wr_19, wr_15, wo_11, wo_12, wo_14, wo_15, wo_16, wo_30, wo_31, wo_37, wo_40, wo_41, wo_42, wp_13, wp_14, wp_16, wp_17, wp_18, wp_19, wp_0_24, wp_0_25, xn_0_13, xn_0_14, xn_0_15, xn_0_16, xn_0_17, xn_0_18, xn_0_19, xn_13_0, xn_13_14, xn_13_15, xn_13_16, xn_13_17, xn_13_18, xn_13_19, xn_14_0, xn_14_13, xn_14_15, xn_14_16, xn_14_17, xn_14_18, xn_14_19, xn_15_0, xn_15_13, xn_15_14, xn_15_16, xn_15_17, xn_15_18, xn_15_19, xn_16_0, xn_16_13, xn_16_14, xn_16_15, xn_16_17, xn_16_18, xn_16_19, xn_17_0, xn_17_13, xn_17_14, xn_17_15, xn_17_16, xn_17_18, xn_17_19, xn_18_0, xn_18_13, xn_18_14, xn_18_15, xn_18_16, xn_18_17, xn_18_19, xn_19_0, xn_19_13, xn_19_14, xn_19_15, xn_19_16, xn_19_17, xn_19_18, kr_2, kr_3, kr_4, kr_5, kr_6, kr_7, kr_8, kr_9, kr_10, kr_11, setW_put15, setW_24, setW_25, setW_2, kd_11, kd_12, setW_setW]
    refine P_iconst (pc := 13) dX6_sunset_13 ?_
    refine P_istore_n (L' := [(1, vi _), (0, vr 0)]) (pc := 14) dX6_sunset_14 rfl (by decide) rfl ?_
    refine P_sub (L' := [(0, vr 0), (1, vi _)]) [1, 0] rfl ?_
    refine P_post (Q' := QV (fun μ' => μ' = setW μ S (upN sunX 0 (kd μ.1 0 11).toNat (xput X 0 25 1)))) (fun r μ' h => ⟨h.1, ?_⟩) (l_X6_sunset hK (XOK_put hX (by omega)) ((kd μ.1 0 11).toNat + 1) 0 0 rfl (Nat.zero_le _) (by omega))
    rw [h.2]
    unfold sunsetX
    rw [if_neg (by omega)]
  · exact P_vret (pc := 7) dX6_sunset_7 rfl (QV.mk (by first | (unfold sunsetX; rw [if_pos (by omega)]; done) | (rw [← hG]; have e9 : j = (kd μ.1 0 11).toNat := (by simp only [kd_11]; omega); rw [e9]; try simp only [kd_11])))
theorem wbit {w n : Int} (hw : 0 ≤ w) (hn : 0 ≤ n) : ((w / 2 ^ n.toNat).toNat &&& 1 : Nat) = if w.toNat.testBit n.toNat then 1 else 0 := by
  obtain ⟨a, rfl⟩ := Int.eq_ofNat_of_zero_le hw
  obtain ⟨b, rfl⟩ := Int.eq_ofNat_of_zero_le hn
  have e : (((a : Int) / 2 ^ ((b : Int)).toNat).toNat) = a / 2 ^ b := by
    have : (a : Int) / 2 ^ ((b : Int)).toNat = ((a / 2 ^ b : Nat) : Int) := by simp
    rw [this]; rfl
  rw [e, Nat.and_one_is_mod]
  show _ = if Nat.testBit a b = true then 1 else 0
  rw [Nat.testBit_eq_decide_div_mod_eq]
  have := Nat.mod_two_eq_zero_or_one (a / 2 ^ b)
  by_cases h : a / 2 ^ b % 2 = 1
  · simp [h]
  · simp [h]; omega
theorem wdiv {w : Int} {n : Nat} (hw : 0 ≤ w) (hw2 : w < 2147483648) : 0 ≤ w / 2 ^ n ∧ w / 2 ^ n < 2147483648 := by
  have hp : (0 : Int) < 2 ^ n := Int.pow_pos (by omega)
  have h5 := Int.ediv_nonneg hw (Int.le_of_lt hp)
  have h6 := Int.ediv_le_self (2 ^ n) hw
  exact ⟨h5, by omega⟩
theorem oneT : (1 : Int).toNat = 1 := rfl
set_option maxHeartbeats 1000000 in
set_option maxRecDepth 100000 in
theorem c_X6_isSo {μ : Mem} {S : Int → Int} {X : Cel} {e w : Int} (hK : KOK (kd μ.1)) (he : 0 ≤ e ∧ e < μ.1 0 12) (hw : 0 ≤ w ∧ w < 64) : PC shM 0 mX6_isSo [vr 0, vi e, vi w] (setW μ S X) (QI (fun z μ' => z = (if isSoB (kd μ.1) e w = true then 1 else 0) ∧ μ' = setW μ S X)) := by
  refine PC.of (by decide +kernel) (Nat.le_of_ble_eq_true rfl) ?_
  refine P_sub (L' := [(0, vr 0), (1, vi e), (2, vi w)]) [0, 1, 2] rfl ?_
  have h1 := hK.2.2.2.2.2.2.2.2.1 e
  have h0 := hK.2.1
  have h2 := (hK.2.2.2.2.2.2.2.2.2 e he.1 he.2).2.2.2
  simp only [wr_1, wr_2, wr_3, wr_4, wr_5, wr_6, wr_7, wr_8, wr_9, wr_10, wr_11, wr_12, wr_20, wr_21, wr_22, wr_23, wr_24, wr_25, wr_26, wr_27, wr_28, wr_29, wr_30, wr_13, wr_14, wr_16, wr_17, wr_18, wr_19, wr_15, wo_11, wo_12, wo_14, wo_15, wo_16, wo_30, wo_31, wo_37, wo_40, wo_41, wo_42, wp_13, wp_14, wp_16, wp_17, wp_18, wp_19, wp_0_24, wp_0_25, xn_0_13, xn_0_14, xn_0_15, xn_0_16, xn_0_17, xn_0_18, xn_0_19, xn_13_0, xn_13_14, xn_13_15, xn_13_16, xn_13_17, xn_13_18, xn_13_19, xn_14_0, xn_14_13, xn_14_15, xn_14_16, xn_14_17, xn_14_18, xn_14_19, xn_15_0, xn_15_13, xn_15_14, xn_15_16, xn_15_17, xn_15_18, xn_15_19, xn_16_0, xn_16_13, xn_16_14, xn_16_15, xn_16_17, xn_16_18, xn_16_19, xn_17_0, xn_17_13, xn_17_14, xn_17_15, xn_17_16, xn_17_18, xn_17_19, xn_18_0, xn_18_13, xn_18_14, xn_18_15, xn_18_16, xn_18_17, xn_18_19, xn_19_0, xn_19_13, xn_19_14, xn_19_15, xn_19_16, xn_19_17, xn_19_18, kr_2, kr_3, kr_4, kr_5, kr_6, kr_7, kr_8, kr_9, kr_10, kr_11, setW_put15, setW_24, setW_25, setW_2, kd_11, kd_12, setW_setW] at h0 h1 h2
  have d1 := wdiv (w := w) (n := (μ.1 11 e).toNat) (by omega) (by omega)
  have d2 := wdiv (w := w) (n := (μ.1 11 e - 10).toNat) (by omega) (by omega)
  refine P_aload_n (pc := 0) dX6_isSo_0 rfl 0 rfl ?_
  refine P_getR (pc := 1) dX6_isSo_1 fa_RX6_40 sM_0 fM0_10 ?_
  refine P_iload_n (pc := 4) dX6_isSo_4 rfl 1 rfl ?_
  refine P_iald (pc := 5) dX6_isSo_5 sM_11 (by omega) (by omega) (by decide) ?_
  try simp only [wr_1, wr_2, wr_3, wr_4, wr_5, wr_6, wr_7, wr_8, wr_9, wr_10, wr_11, wr_12, wr_20, wr_21, wr_22, wr_23, wr_24, wr_25, wr_26, wr_27, wr_28, wr_29, wr_30, wr_13, wr_14, wr_16, wr_17, wr_18, wr_19, wr_15, wo_11, wo_12, wo_14, wo_15, wo_16, wo_30, wo_31, wo_37, wo_40, wo_41, wo_42, wp_13, wp_14, wp_16, wp_17, wp_18, wp_19, wp_0_24, wp_0_25, xn_0_13, xn_0_14, xn_0_15, xn_0_16, xn_0_17, xn_0_18, xn_0_19, xn_13_0, xn_13_14, xn_13_15, xn_13_16, xn_13_17, xn_13_18, xn_13_19, xn_14_0, xn_14_13, xn_14_15, xn_14_16, xn_14_17, xn_14_18, xn_14_19, xn_15_0, xn_15_13, xn_15_14, xn_15_16, xn_15_17, xn_15_18, xn_15_19, xn_16_0, xn_16_13, xn_16_14, xn_16_15, xn_16_17, xn_16_18, xn_16_19, xn_17_0, xn_17_13, xn_17_14, xn_17_15, xn_17_16, xn_17_18, xn_17_19, xn_18_0, xn_18_13, xn_18_14, xn_18_15, xn_18_16, xn_18_17, xn_18_19, xn_19_0, xn_19_13, xn_19_14, xn_19_15, xn_19_16, xn_19_17, xn_19_18, kr_2, kr_3, kr_4, kr_5, kr_6, kr_7, kr_8, kr_9, kr_10, kr_11, setW_put15, setW_24, setW_25, setW_2, kd_11, kd_12, setW_setW]
  refine P_istore_n (L' := [(3, vi _), (0, vr 0), (1, vi _), (2, vi _)]) (pc := 6) dX6_isSo_6 rfl (by decide) rfl ?_
  refine P_iload_n (pc := 7) dX6_isSo_7 rfl 0 rfl ?_
  refine P_if_lt (tgt := 40) (pc := 8) dX6_isSo_8 (by decide) (by unfold InR; omega) (fun c_8 => ?_) (fun c_8 => ?_)
  · refine P_iconst (pc := 40) dX6_isSo_40 ?_
    refine P_goto (tgt := 45) (pc := 41) dX6_isSo_41 (by decide) ?_
    exact P_zret (pc := 45) dX6_isSo_45 rfl (by omega) (QI.mk (by refine ⟨?_, rfl⟩; (try simp only [oneT] at c_23); (try simp only [oneT] at c_37); (try rw [wbit (by omega) (by omega)] at c_23); (try rw [wbit (by omega) (by omega)] at c_37); simp only [isSoB, wr_1, wr_2, wr_3, wr_4, wr_5, wr_6, wr_7, wr_8, wr_9, wr_10, wr_11, wr_12, wr_20, wr_21, wr_22, wr_23, wr_24, wr_25, wr_26, wr_27, wr_28, wr_29, wr_30, wr_13, wr_14, wr_16, wr_17, wr_18, wr_19, wr_15, wo_11, wo_12, wo_14, wo_15, wo_16, wo_30, wo_31, wo_37, wo_40, wo_41, wo_42, wp_13, wp_14, wp_16, wp_17, wp_18, wp_19, wp_0_24, wp_0_25, xn_0_13, xn_0_14, xn_0_15, xn_0_16, xn_0_17, xn_0_18, xn_0_19, xn_13_0, xn_13_14, xn_13_15, xn_13_16, xn_13_17, xn_13_18, xn_13_19, xn_14_0, xn_14_13, xn_14_15, xn_14_16, xn_14_17, xn_14_18, xn_14_19, xn_15_0, xn_15_13, xn_15_14, xn_15_16, xn_15_17, xn_15_18, xn_15_19, xn_16_0, xn_16_13, xn_16_14, xn_16_15, xn_16_17, xn_16_18, xn_16_19, xn_17_0, xn_17_13, xn_17_14, xn_17_15, xn_17_16, xn_17_18, xn_17_19, xn_18_0, xn_18_13, xn_18_14, xn_18_15, xn_18_16, xn_18_17, xn_18_19, xn_19_0, xn_19_13, xn_19_14, xn_19_15, xn_19_16, xn_19_17, xn_19_18, kr_2, kr_3, kr_4, kr_5, kr_6, kr_7, kr_8, kr_9, kr_10, kr_11, setW_put15, setW_24, setW_25, setW_2, kd_11, kd_12, setW_setW]; grind))
  · refine P_iload_n (pc := 11) dX6_isSo_11 rfl 0 rfl ?_
    refine P_bipush (pc := 12) dX6_isSo_12 (by decide) ?_
    refine P_icmp_ge (tgt := 29) (pc := 14) dX6_isSo_14 (by decide) (by unfold InR; omega) (by unfold InR; omega) (fun c_14 => ?_) (fun c_14 => ?_)
    · refine P_iload_n (pc := 29) dX6_isSo_29 rfl 3 rfl ?_
      refine P_iload_n (pc := 30) dX6_isSo_30 rfl 0 rfl ?_
      refine P_bipush (pc := 31) dX6_isSo_31 (by decide) ?_
      refine P_isub (pc := 33) dX6_isSo_33 ?_
      refine P_ishr (pc := 34) dX6_isSo_34 (wI_shr _ (by omega) (by omega) (by omega) (by omega)) ?_
      refine P_iconst (pc := 35) dX6_isSo_35 ?_
      refine P_iand (pc := 36) dX6_isSo_36 (wI_and (by omega) (by omega) (by omega) (by omega)) ?_
      refine P_if_ne (tgt := 44) (pc := 37) dX6_isSo_37 (by decide) (by simp only [oneT]; rw [wbit (by omega) (by omega)]; unfold InR; split <;> omega) (fun c_37 => ?_) (fun c_37 => ?_)
      · refine P_iconst (pc := 44) dX6_isSo_44 ?_
        exact P_zret (pc := 45) dX6_isSo_45 rfl (by omega) (QI.mk (by refine ⟨?_, rfl⟩; (try simp only [oneT] at c_23); (try simp only [oneT] at c_37); (try rw [wbit (by omega) (by omega)] at c_23); (try rw [wbit (by omega) (by omega)] at c_37); simp only [isSoB, wr_1, wr_2, wr_3, wr_4, wr_5, wr_6, wr_7, wr_8, wr_9, wr_10, wr_11, wr_12, wr_20, wr_21, wr_22, wr_23, wr_24, wr_25, wr_26, wr_27, wr_28, wr_29, wr_30, wr_13, wr_14, wr_16, wr_17, wr_18, wr_19, wr_15, wo_11, wo_12, wo_14, wo_15, wo_16, wo_30, wo_31, wo_37, wo_40, wo_41, wo_42, wp_13, wp_14, wp_16, wp_17, wp_18, wp_19, wp_0_24, wp_0_25, xn_0_13, xn_0_14, xn_0_15, xn_0_16, xn_0_17, xn_0_18, xn_0_19, xn_13_0, xn_13_14, xn_13_15, xn_13_16, xn_13_17, xn_13_18, xn_13_19, xn_14_0, xn_14_13, xn_14_15, xn_14_16, xn_14_17, xn_14_18, xn_14_19, xn_15_0, xn_15_13, xn_15_14, xn_15_16, xn_15_17, xn_15_18, xn_15_19, xn_16_0, xn_16_13, xn_16_14, xn_16_15, xn_16_17, xn_16_18, xn_16_19, xn_17_0, xn_17_13, xn_17_14, xn_17_15, xn_17_16, xn_17_18, xn_17_19, xn_18_0, xn_18_13, xn_18_14, xn_18_15, xn_18_16, xn_18_17, xn_18_19, xn_19_0, xn_19_13, xn_19_14, xn_19_15, xn_19_16, xn_19_17, xn_19_18, kr_2, kr_3, kr_4, kr_5, kr_6, kr_7, kr_8, kr_9, kr_10, kr_11, setW_put15, setW_24, setW_25, setW_2, kd_11, kd_12, setW_setW]; grind))
      · refine P_iconst (pc := 40) dX6_isSo_40 ?_
        refine P_goto (tgt := 45) (pc := 41) dX6_isSo_41 (by decide) ?_
        exact P_zret (pc := 45) dX6_isSo_45 rfl (by omega) (QI.mk (by refine ⟨?_, rfl⟩; (try simp only [oneT] at c_23); (try simp only [oneT] at c_37); (try rw [wbit (by omega) (by omega)] at c_23); (try rw [wbit (by omega) (by omega)] at c_37); simp only [isSoB, wr_1, wr_2, wr_3, wr_4, wr_5, wr_6, wr_7, wr_8, wr_9, wr_10, wr_11, wr_12, wr_20, wr_21, wr_22, wr_23, wr_24, wr_25, wr_26, wr_27, wr_28, wr_29, wr_30, wr_13, wr_14, wr_16, wr_17, wr_18, wr_19, wr_15, wo_11, wo_12, wo_14, wo_15, wo_16, wo_30, wo_31, wo_37, wo_40, wo_41, wo_42, wp_13, wp_14, wp_16, wp_17, wp_18, wp_19, wp_0_24, wp_0_25, xn_0_13, xn_0_14, xn_0_15, xn_0_16, xn_0_17, xn_0_18, xn_0_19, xn_13_0, xn_13_14, xn_13_15, xn_13_16, xn_13_17, xn_13_18, xn_13_19, xn_14_0, xn_14_13, xn_14_15, xn_14_16, xn_14_17, xn_14_18, xn_14_19, xn_15_0, xn_15_13, xn_15_14, xn_15_16, xn_15_17, xn_15_18, xn_15_19, xn_16_0, xn_16_13, xn_16_14, xn_16_15, xn_16_17, xn_16_18, xn_16_19, xn_17_0, xn_17_13, xn_17_14, xn_17_15, xn_17_16, xn_17_18, xn_17_19, xn_18_0, xn_18_13, xn_18_14, xn_18_15, xn_18_16, xn_18_17, xn_18_19, xn_19_0, xn_19_13, xn_19_14, xn_19_15, xn_19_16, xn_19_17, xn_19_18, kr_2, kr_3, kr_4, kr_5, kr_6, kr_7, kr_8, kr_9, kr_10, kr_11, setW_put15, setW_24, setW_25, setW_2, kd_11, kd_12, setW_setW]; grind))
    · refine P_iload_n (pc := 17) dX6_isSo_17 rfl 3 rfl ?_
      refine P_iload_n (pc := 18) dX6_isSo_18 rfl 0 rfl ?_
      refine P_ishr (pc := 19) dX6_isSo_19 (wI_shr _ (by omega) (by omega) (by omega) (by omega)) ?_
      refine P_iconst (pc := 20) dX6_isSo_20 ?_
      refine P_iand (pc := 21) dX6_isSo_21 (wI_and (by omega) (by omega) (by omega) (by omega)) ?_
      refine P_iconst (pc := 22) dX6_isSo_22 ?_
      refine P_icmp_ne (tgt := 44) (pc := 23) dX6_isSo_23 (by decide) (by simp only [oneT]; rw [wbit (by omega) (by omega)]; unfold InR; split <;> omega) (by unfold InR; omega) (fun c_23 => ?_) (fun c_23 => ?_)
      · refine P_iconst (pc := 44) dX6_isSo_44 ?_
        exact P_zret (pc := 45) dX6_isSo_45 rfl (by omega) (QI.mk (by refine ⟨?_, rfl⟩; (try simp only [oneT] at c_23); (try simp only [oneT] at c_37); (try rw [wbit (by omega) (by omega)] at c_23); (try rw [wbit (by omega) (by omega)] at c_37); simp only [isSoB, wr_1, wr_2, wr_3, wr_4, wr_5, wr_6, wr_7, wr_8, wr_9, wr_10, wr_11, wr_12, wr_20, wr_21, wr_22, wr_23, wr_24, wr_25, wr_26, wr_27, wr_28, wr_29, wr_30, wr_13, wr_14, wr_16, wr_17, wr_18, wr_19, wr_15, wo_11, wo_12, wo_14, wo_15, wo_16, wo_30, wo_31, wo_37, wo_40, wo_41, wo_42, wp_13, wp_14, wp_16, wp_17, wp_18, wp_19, wp_0_24, wp_0_25, xn_0_13, xn_0_14, xn_0_15, xn_0_16, xn_0_17, xn_0_18, xn_0_19, xn_13_0, xn_13_14, xn_13_15, xn_13_16, xn_13_17, xn_13_18, xn_13_19, xn_14_0, xn_14_13, xn_14_15, xn_14_16, xn_14_17, xn_14_18, xn_14_19, xn_15_0, xn_15_13, xn_15_14, xn_15_16, xn_15_17, xn_15_18, xn_15_19, xn_16_0, xn_16_13, xn_16_14, xn_16_15, xn_16_17, xn_16_18, xn_16_19, xn_17_0, xn_17_13, xn_17_14, xn_17_15, xn_17_16, xn_17_18, xn_17_19, xn_18_0, xn_18_13, xn_18_14, xn_18_15, xn_18_16, xn_18_17, xn_18_19, xn_19_0, xn_19_13, xn_19_14, xn_19_15, xn_19_16, xn_19_17, xn_19_18, kr_2, kr_3, kr_4, kr_5, kr_6, kr_7, kr_8, kr_9, kr_10, kr_11, setW_put15, setW_24, setW_25, setW_2, kd_11, kd_12, setW_setW]; grind))
      · refine P_goto (tgt := 40) (pc := 26) dX6_isSo_26 (by decide) ?_
        refine P_iconst (pc := 40) dX6_isSo_40 ?_
        refine P_goto (tgt := 45) (pc := 41) dX6_isSo_41 (by decide) ?_
        exact P_zret (pc := 45) dX6_isSo_45 rfl (by omega) (QI.mk (by refine ⟨?_, rfl⟩; (try simp only [oneT] at c_23); (try simp only [oneT] at c_37); (try rw [wbit (by omega) (by omega)] at c_23); (try rw [wbit (by omega) (by omega)] at c_37); simp only [isSoB, wr_1, wr_2, wr_3, wr_4, wr_5, wr_6, wr_7, wr_8, wr_9, wr_10, wr_11, wr_12, wr_20, wr_21, wr_22, wr_23, wr_24, wr_25, wr_26, wr_27, wr_28, wr_29, wr_30, wr_13, wr_14, wr_16, wr_17, wr_18, wr_19, wr_15, wo_11, wo_12, wo_14, wo_15, wo_16, wo_30, wo_31, wo_37, wo_40, wo_41, wo_42, wp_13, wp_14, wp_16, wp_17, wp_18, wp_19, wp_0_24, wp_0_25, xn_0_13, xn_0_14, xn_0_15, xn_0_16, xn_0_17, xn_0_18, xn_0_19, xn_13_0, xn_13_14, xn_13_15, xn_13_16, xn_13_17, xn_13_18, xn_13_19, xn_14_0, xn_14_13, xn_14_15, xn_14_16, xn_14_17, xn_14_18, xn_14_19, xn_15_0, xn_15_13, xn_15_14, xn_15_16, xn_15_17, xn_15_18, xn_15_19, xn_16_0, xn_16_13, xn_16_14, xn_16_15, xn_16_17, xn_16_18, xn_16_19, xn_17_0, xn_17_13, xn_17_14, xn_17_15, xn_17_16, xn_17_18, xn_17_19, xn_18_0, xn_18_13, xn_18_14, xn_18_15, xn_18_16, xn_18_17, xn_18_19, xn_19_0, xn_19_13, xn_19_14, xn_19_15, xn_19_16, xn_19_17, xn_19_18, kr_2, kr_3, kr_4, kr_5, kr_6, kr_7, kr_8, kr_9, kr_10, kr_11, setW_put15, setW_24, setW_25, setW_2, kd_11, kd_12, setW_setW]; grind))
