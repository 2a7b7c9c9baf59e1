set_option maxHeartbeats 1000000 in
set_option maxRecDepth 100000 in
theorem c_X6_sure {μ : Mem} {K : Cel} {t h : Int} (hk : kd μ.1 = K) (hK : KOK K) (hF : FOK μ.1) (ht : InR t) (hh : InR h) : PC shM 6 mX6_sure [vr 0, vi t, vi h] (μ) (QI (fun z μ' => z = (if whyTH μ.1 t h = 0 then sureP K μ.1 0 h t.toNat else whyTH μ.1 t h) ∧ PM (refW μ (whyTH μ.1 t h)) μ')) := by
  refine PC.of (by decide +kernel) (Nat.le_of_ble_eq_true rfl) ?_
  refine P_sub (L' := [(0, vr 0), (1, vi t), (2, vi h)]) [0, 1, 2] rfl ?_
  have hK1 := hK.1
  have hk11 : K 0 11 = μ.1 0 11 := by rw [← hk]; rfl
  have hn : InR (μ.1 0 11) := by unfold InR; omega
  refine P_aload_n (pc := 0) dX6_sure_0 rfl 0 rfl ?_
  refine P_iload_n (pc := 1) dX6_sure_1 rfl 1 rfl ?_
  refine P_iload_n (pc := 2) dX6_sure_2 rfl 2 rfl ?_
  refine P_callVi (Y' := mX6_why) (as := [_, _]) (pc := 3) dX6_sure_3 rfl (by decide : 1 < 6) sM_0 rfl ml_RX6_245 im_X6_why se_X6_why mk_X6_why (Nat.le_of_ble_eq_true rfl) (c_X6_why ht hh hn) (fun z_ μ_ hq => ?_)
  obtain ⟨hz, hμ_⟩ := hq
  have hμ_ := hμ_.symm
  subst hμ_
  have hv := whyTH_v μ.1 t h
  rw [← hz] at hv
  have hv0 : z_ = 0 → _ := fun e => whyTH_0 (A := μ.1) (t := t) (h := h) (hz ▸ e)
  refine P_istore_n (L' := [(3, vi _), (0, vr 0), (1, vi _), (2, vi _)]) (pc := 6) dX6_sure_6 rfl (by decide) rfl ?_
  refine P_iload_n (pc := 7) dX6_sure_7 rfl 0 rfl ?_
  refine P_if_eq (tgt := 17) (pc := 8) dX6_sure_8 (by decide) (by unfold InR; omega) (fun c_8 => ?_) (fun c_8 => ?_)
  · refine P_aload_n (pc := 17) dX6_sure_17 rfl 1 rfl ?_
    refine P_iconst (pc := 18) dX6_sure_18 ?_
    refine P_callVi (Y' := mX6_findLeft) (as := [_]) (pc := 19) dX6_sure_19 rfl (by decide : 5 < 6) sM_0 rfl ml_RX6_241 im_X6_findLeft se_X6_findLeft mk_X6_findLeft (Nat.le_of_ble_eq_true rfl) (c_X6_findLeft hk hK hF (Or.inl rfl)) (fun z_ μ_ hq => ?_)
    obtain ⟨hzl, hP, hLF⟩ := hq
    refine P_pop (pc := 22) dX6_sure_22 rfl ?_
    refine P_aload_n (pc := 23) dX6_sure_23 rfl 1 rfl ?_
    refine P_iload_n (pc := 24) dX6_sure_24 rfl 3 rfl ?_
    refine P_iconst (pc := 25) dX6_sure_25 ?_
    refine P_callVv (Y' := mX6_findClean) (as := [_, _]) (pc := 26) dX6_sure_26 rfl (by decide : 5 < 6) sM_0 rfl ml_RX6_254 im_X6_findClean se_X6_findClean mk_X6_findClean (Nat.le_of_ble_eq_true rfl) (c_X6_findClean ((PM_kd hP).trans hk) hK (Or.inl rfl) (by omega) hLF) (fun μ_ hq => ?_)
    obtain ⟨hP2, hLC⟩ := hq
    have hP := hP.tr hP2
    refine P_aload_n (pc := 29) dX6_sure_29 rfl 1 rfl ?_
    refine P_iload_n (pc := 30) dX6_sure_30 rfl 2 rfl ?_
    refine P_callVi (Y' := mX6_sureOf) (as := [_]) (pc := 31) dX6_sure_31 rfl (by decide : 1 < 6) sM_0 rfl ml_RX6_258 im_X6_sureOf se_X6_sureOf mk_X6_sureOf (Nat.le_of_ble_eq_true rfl) (c_X6_sureOf hLC (by omega) hK) (fun z_ μ_ hq => ?_)
    obtain ⟨rfl, hμ_⟩ := hq
    have hμ_ := hμ_.symm
    subst hμ_
    exact P_iret (pc := 34) dX6_sure_34 rfl (QI.mk (by first | (rw [← hz]; exact ⟨by rw [if_neg (by omega)], by rw [refW, if_neg (by omega)]; exact PM.rf⟩) | (rw [← hz]; exact ⟨by rw [if_pos (by omega)], by rw [refW, if_pos (by omega)]; exact hP⟩)))
  · refine P_aload_n (pc := 11) dX6_sure_11 rfl 1 rfl ?_
    refine P_iload_n (pc := 12) dX6_sure_12 rfl 0 rfl ?_
    refine P_callVi (Y' := mX6_no) (as := [_]) (pc := 13) dX6_sure_13 rfl (by decide : 0 < 6) sM_0 rfl ml_RX6_109 im_X6_no se_X6_no mk_X6_no (Nat.le_of_ble_eq_true rfl) (c_X6_no (by omega)) (fun z_ μ_ hq => ?_)
    obtain ⟨rfl, hμ_⟩ := hq
    have hμ_ := hμ_.symm
    subst hμ_
    exact P_iret (pc := 16) dX6_sure_16 rfl (QI.mk (by first | (rw [← hz]; exact ⟨by rw [if_neg (by omega)], by rw [refW, if_neg (by omega)]; exact PM.rf⟩) | (rw [← hz]; exact ⟨by rw [if_pos (by omega)], by rw [refW, if_pos (by omega)]; exact hP⟩)))
set_option maxHeartbeats 1000000 in
set_option maxRecDepth 100000 in
theorem c_X6_many {μ : Mem} {K : Cel} {t h : Int} (hk : kd μ.1 = K) (hK : KOK K) (hF : FOK μ.1) (ht : InR t) (hh : InR h) : PC shM 6 mX6_many [vr 0, vi t, vi h] (μ) (QI (fun z μ' => z = (if whyTH μ.1 t h = 0 then (manyP K μ.1 0 h t.toNat : Int) else whyTH μ.1 t h) ∧ PM (refW μ (whyTH μ.1 t h)) μ')) := by
  refine PC.of (by decide +kernel) (Nat.le_of_ble_eq_true rfl) ?_
  refine P_sub (L' := [(0, vr 0), (1, vi t), (2, vi h)]) [0, 1, 2] rfl ?_
  have hK1 := hK.1
  have hk11 : K 0 11 = μ.1 0 11 := by rw [← hk]; rfl
  have hn : InR (μ.1 0 11) := by unfold InR; omega
  refine P_aload_n (pc := 0) dX6_many_0 rfl 0 rfl ?_
  refine P_iload_n (pc := 1) dX6_many_1 rfl 1 rfl ?_
  refine P_iload_n (pc := 2) dX6_many_2 rfl 2 rfl ?_
  refine P_callVi (Y' := mX6_why) (as := [_, _]) (pc := 3) dX6_many_3 rfl (by decide : 1 < 6) sM_0 rfl ml_RX6_245 im_X6_why se_X6_why mk_X6_why (Nat.le_of_ble_eq_true rfl) (c_X6_why ht hh hn) (fun z_ μ_ hq => ?_)
  obtain ⟨hz, hμ_⟩ := hq
  have hμ_ := hμ_.symm
  subst hμ_
  have hv := whyTH_v μ.1 t h
  rw [← hz] at hv
  have hv0 : z_ = 0 → _ := fun e => whyTH_0 (A := μ.1) (t := t) (h := h) (hz ▸ e)
  refine P_istore_n (L' := [(3, vi _), (0, vr 0), (1, vi _), (2, vi _)]) (pc := 6) dX6_many_6 rfl (by decide) rfl ?_
  refine P_iload_n (pc := 7) dX6_many_7 rfl 0 rfl ?_
  refine P_if_eq (tgt := 17) (pc := 8) dX6_many_8 (by decide) (by unfold InR; omega) (fun c_8 => ?_) (fun c_8 => ?_)
  · refine P_aload_n (pc := 17) dX6_many_17 rfl 1 rfl ?_
    refine P_iconst (pc := 18) dX6_many_18 ?_
    refine P_callVi (Y' := mX6_findLeft) (as := [_]) (pc := 19) dX6_many_19 rfl (by decide : 5 < 6) sM_0 rfl ml_RX6_241 im_X6_findLeft se_X6_findLeft mk_X6_findLeft (Nat.le_of_ble_eq_true rfl) (c_X6_findLeft hk hK hF (Or.inl rfl)) (fun z_ μ_ hq => ?_)
    obtain ⟨hzl, hP, hLF⟩ := hq
    refine P_pop (pc := 22) dX6_many_22 rfl ?_
    refine P_aload_n (pc := 23) dX6_many_23 rfl 1 rfl ?_
    refine P_iload_n (pc := 24) dX6_many_24 rfl 3 rfl ?_
    refine P_iconst (pc := 25) dX6_many_25 ?_
    refine P_callVv (Y' := mX6_findClean) (as := [_, _]) (pc := 26) dX6_many_26 rfl (by decide : 5 < 6) sM_0 rfl ml_RX6_254 im_X6_findClean se_X6_findClean mk_X6_findClean (Nat.le_of_ble_eq_true rfl) (c_X6_findClean ((PM_kd hP).trans hk) hK (Or.inl rfl) (by omega) hLF) (fun μ_ hq => ?_)
    obtain ⟨hP2, hLC⟩ := hq
    have hP := hP.tr hP2
    refine P_aload_n (pc := 29) dX6_many_29 rfl 1 rfl ?_
    refine P_iload_n (pc := 30) dX6_many_30 rfl 2 rfl ?_
    refine P_callVi (Y' := mX6_manyOf) (as := [_]) (pc := 31) dX6_many_31 rfl (by decide : 0 < 6) sM_0 rfl ml_RX6_251 im_X6_manyOf se_X6_manyOf mk_X6_manyOf (Nat.le_of_ble_eq_true rfl) (c_X6_manyOf hLC (by omega) hK) (fun z_ μ_ hq => ?_)
    obtain ⟨rfl, hμ_⟩ := hq
    have hμ_ := hμ_.symm
    subst hμ_
    exact P_iret (pc := 34) dX6_many_34 rfl (QI.mk (by first | (rw [← hz]; exact ⟨by rw [if_neg (by omega)], by rw [refW, if_neg (by omega)]; exact PM.rf⟩) | (rw [← hz]; exact ⟨by rw [if_pos (by omega)], by rw [refW, if_pos (by omega)]; exact hP⟩)))
  · refine P_aload_n (pc := 11) dX6_many_11 rfl 1 rfl ?_
    refine P_iload_n (pc := 12) dX6_many_12 rfl 0 rfl ?_
    refine P_callVi (Y' := mX6_no) (as := [_]) (pc := 13) dX6_many_13 rfl (by decide : 0 < 6) sM_0 rfl ml_RX6_109 im_X6_no se_X6_no mk_X6_no (Nat.le_of_ble_eq_true rfl) (c_X6_no (by omega)) (fun z_ μ_ hq => ?_)
    obtain ⟨rfl, hμ_⟩ := hq
    have hμ_ := hμ_.symm
    subst hμ_
    exact P_iret (pc := 16) dX6_many_16 rfl (QI.mk (by first | (rw [← hz]; exact ⟨by rw [if_neg (by omega)], by rw [refW, if_neg (by omega)]; exact PM.rf⟩) | (rw [← hz]; exact ⟨by rw [if_pos (by omega)], by rw [refW, if_pos (by omega)]; exact hP⟩)))
def whyS (A : Cel) (w t h : Int) : Int := if 0 ≤ t ∧ t < A 0 11 then (if w < 0 ∨ h < 0 then -4 else if w > 63 ∨ h > 47 then -6 else 0) else -1
theorem whyS_v (A : Cel) (w t h : Int) : whyS A w t h = -1 ∨ whyS A w t h = -4 ∨ whyS A w t h = -6 ∨ whyS A w t h = 0 := by unfold whyS; grind
def whyW (A : Cel) (w t : Int) : Int := if 0 ≤ t ∧ t < A 0 11 then (if w < 0 then -4 else if w > 63 then -6 else 0) else -1
/-- the first hour at which it is unclean -/
def whenX (K : Cel) (w t : Int) : Nat → Nat → Int
  | 0, _ => -9
  | n + 1, h => if 0 < simX K w (h : Int) 0 13 t then (h : Int) else whenX K w t n (h + 1)
set_option maxHeartbeats 1000000 in
set_option maxRecDepth 100000 in
theorem c_X6_state {μ : Mem} {K : Cel} {w t h : Int} (hk : kd μ.1 = K) (hK : KOK K) (hw : InR w) (ht : InR t) (hh : InR h) : PC shM 5 mX6_state [vr 0, vi w, vi t, vi h] (μ) (QI (fun z μ' => z = (if whyS μ.1 w t h = 0 then simX K w h 0 13 t else whyS μ.1 w t h) ∧ PM (refW μ (whyS μ.1 w t h)) μ')) := by
  refine PC.of (by decide +kernel) (Nat.le_of_ble_eq_true rfl) ?_
  refine P_sub (L' := [(0, vr 0), (1, vi w), (2, vi t), (3, vi h)]) [0, 1, 2, 3] rfl ?_
  have hK1 := hK.1
  have hk11 : K 0 11 = μ.1 0 11 := by rw [← hk]; rfl
  have hn : InR (μ.1 0 11) := by unfold InR; omega
  refine P_aload_n (pc := 0) dX6_state_0 rfl 0 rfl ?_
  refine P_iload_n (pc := 1) dX6_state_1 rfl 2 rfl ?_
  refine P_callVi (Y' := mX6_isThing) (as := [_]) (pc := 2) dX6_state_2 rfl (by decide : 0 < 5) sM_0 rfl ml_RX6_132 im_X6_isThing se_X6_isThing mk_X6_isThing (Nat.le_of_ble_eq_true rfl) (c_X6_isThing ht hn) (fun z_ μ_ hq => ?_)
  obtain ⟨hz, hμ_⟩ := hq
  have hμ_ := hμ_.symm
  subst hμ_
  have hz2 : z_ = 0 ∧ ¬ (0 ≤ t ∧ t < μ.1 0 11) ∨ z_ = 1 ∧ (0 ≤ t ∧ t < μ.1 0 11) := by rw [hz]; split <;> omega
  try simp only [wr_1, wr_2, wr_3, wr_4, wr_5, wr_6, wr_7, wr_8, wr_9, wr_10, wr_11, wr_12, wr_20, wr_21, wr_22, wr_23, wr_24, wr_25, wr_26, wr_27, wr_28, wr_29, wr_30, wr_13, wr_14, wr_16, wr_17, wr_18, wr_19, wr_15, wo_11, wo_12, wo_14, wo_15, wo_16, wo_30, wo_31, wo_37, wo_40, wo_41, wo_42, wp_13, wp_14, wp_16, wp_17, wp_18, wp_19, wp_0_24, wp_0_25, xn_0_13, xn_0_14, xn_0_15, xn_0_16, xn_0_17, xn_0_18, xn_0_19, xn_13_0, xn_13_14, xn_13_15, xn_13_16, xn_13_17, xn_13_18, xn_13_19, xn_14_0, xn_14_13, xn_14_15, xn_14_16, xn_14_17, xn_14_18, xn_14_19, xn_15_0, xn_15_13, xn_15_14, xn_15_16, xn_15_17, xn_15_18, xn_15_19, xn_16_0, xn_16_13, xn_16_14, xn_16_15, xn_16_17, xn_16_18, xn_16_19, xn_17_0, xn_17_13, xn_17_14, xn_17_15, xn_17_16, xn_17_18, xn_17_19, xn_18_0, xn_18_13, xn_18_14, xn_18_15, xn_18_16, xn_18_17, xn_18_19, xn_19_0, xn_19_13, xn_19_14, xn_19_15, xn_19_16, xn_19_17, xn_19_18, kr_2, kr_3, kr_4, kr_5, kr_6, kr_7, kr_8, kr_9, kr_10, kr_11, setW_put15, setW_24, setW_25, setW_2, kd_11, kd_12, setW_setW]
  refine P_if_ne (tgt := 12) (pc := 5) dX6_state_5 (by decide) (by first | assumption | (unfold InR; omega)) (fun c_5 => ?_) (fun c_5 => ?_)
  · refine P_iload_n (pc := 12) dX6_state_12 rfl 1 rfl ?_
    refine P_if_lt (tgt := 20) (pc := 13) dX6_state_13 (by decide) (by first | assumption | (unfold InR; omega)) (fun c_13 => ?_) (fun c_13 => ?_)
    · refine P_bipush (pc := 20) dX6_state_20 (by decide) ?_
      refine P_goto (tgt := 43) (pc := 22) dX6_state_22 (by decide) ?_
      refine P_istore (L' := [(4, vi _), (0, vr 0), (1, vi _), (2, vi _), (3, vi _)]) (pc := 43) dX6_state_43 (by decide) rfl ?_
      refine P_iload (pc := 45) dX6_state_45 0 rfl ?_
      refine P_if_eq (tgt := 57) (pc := 47) dX6_state_47 (by decide) (by first | assumption | (unfold InR; omega)) (fun c_47 => ?_) (fun c_47 => ?_)
      · refine P_aload_n (pc := 57) dX6_state_57 rfl 1 rfl ?_
        refine P_iload_n (pc := 58) dX6_state_58 rfl 2 rfl ?_
        refine P_iload_n (pc := 59) dX6_state_59 rfl 4 rfl ?_
        refine P_iconst (pc := 60) dX6_state_60 ?_
        refine P_callVv (Y' := mX6_runs) (as := [_, _, _]) (pc := 61) dX6_state_61 rfl (by decide : 4 < 5) sM_0 rfl ml_RX6_222 im_X6_runs se_X6_runs mk_X6_runs (Nat.le_of_ble_eq_true rfl) (c_X6_runs hk hK (Or.inl rfl) (by omega) (by omega)) (fun μ_ hq => ?_)
        obtain ⟨S, hS, rfl⟩ := hq
        try simp only [wr_1, wr_2, wr_3, wr_4, wr_5, wr_6, wr_7, wr_8, wr_9, wr_10, wr_11, wr_12, wr_20, wr_21, wr_22, wr_23, wr_24, wr_25, wr_26, wr_27, wr_28, wr_29, wr_30, wr_13, wr_14, wr_16, wr_17, wr_18, wr_19, wr_15, wo_11, wo_12, wo_14, wo_15, wo_16, wo_30, wo_31, wo_37, wo_40, wo_41, wo_42, wp_13, wp_14, wp_16, wp_17, wp_18, wp_19, wp_0_24, wp_0_25, xn_0_13, xn_0_14, xn_0_15, xn_0_16, xn_0_17, xn_0_18, xn_0_19, xn_13_0, xn_13_14, xn_13_15, xn_13_16, xn_13_17, xn_13_18, xn_13_19, xn_14_0, xn_14_13, xn_14_15, xn_14_16, xn_14_17, xn_14_18, xn_14_19, xn_15_0, xn_15_13, xn_15_14, xn_15_16, xn_15_17, xn_15_18, xn_15_19, xn_16_0, xn_16_13, xn_16_14, xn_16_15, xn_16_17, xn_16_18, xn_16_19, xn_17_0, xn_17_13, xn_17_14, xn_17_15, xn_17_16, xn_17_18, xn_17_19, xn_18_0, xn_18_13, xn_18_14, xn_18_15, xn_18_16, xn_18_17, xn_18_19, xn_19_0, xn_19_13, xn_19_14, xn_19_15, xn_19_16, xn_19_17, xn_19_18, kr_2, kr_3, kr_4, kr_5, kr_6, kr_7, kr_8, kr_9, kr_10, kr_11, setW_put15, setW_24, setW_25, setW_2, kd_11, kd_12, setW_setW]
        refine P_aload_n (pc := 64) dX6_state_64 rfl 1 rfl ?_
        refine P_getR (pc := 65) dX6_state_65 fa_RX6_46 sM_0 fM0_17 ?_
        refine P_iload_n (pc := 68) dX6_state_68 rfl 3 rfl ?_
        refine P_iald (pc := 69) dX6_state_69 sM_13 (by omega) (by omega) (by decide) ?_
        try simp only [wr_1, wr_2, wr_3, wr_4, wr_5, wr_6, wr_7, wr_8, wr_9, wr_10, wr_11, wr_12, wr_20, wr_21, wr_22, wr_23, wr_24, wr_25, wr_26, wr_27, wr_28, wr_29, wr_30, wr_13, wr_14, wr_16, wr_17, wr_18, wr_19, wr_15, wo_11, wo_12, wo_14, wo_15, wo_16, wo_30, wo_31, wo_37, wo_40, wo_41, wo_42, wp_13, wp_14, wp_16, wp_17, wp_18, wp_19, wp_0_24, wp_0_25, xn_0_13, xn_0_14, xn_0_15, xn_0_16, xn_0_17, xn_0_18, xn_0_19, xn_13_0, xn_13_14, xn_13_15, xn_13_16, xn_13_17, xn_13_18, xn_13_19, xn_14_0, xn_14_13, xn_14_15, xn_14_16, xn_14_17, xn_14_18, xn_14_19, xn_15_0, xn_15_13, xn_15_14, xn_15_16, xn_15_17, xn_15_18, xn_15_19, xn_16_0, xn_16_13, xn_16_14, xn_16_15, xn_16_17, xn_16_18, xn_16_19, xn_17_0, xn_17_13, xn_17_14, xn_17_15, xn_17_16, xn_17_18, xn_17_19, xn_18_0, xn_18_13, xn_18_14, xn_18_15, xn_18_16, xn_18_17, xn_18_19, xn_19_0, xn_19_13, xn_19_14, xn_19_15, xn_19_16, xn_19_17, xn_19_18, kr_2, kr_3, kr_4, kr_5, kr_6, kr_7, kr_8, kr_9, kr_10, kr_11, setW_put15, setW_24, setW_25, setW_2, kd_11, kd_12, setW_setW]
        exact P_iret (pc := 70) dX6_state_70 rfl (QI.mk (by first | (exfalso; clear hz; omega) | (have hwy : whyS μ.1 w t h = -1 := (by unfold whyS; clear hz; grind); rw [hwy]; exact ⟨rfl, PM.rf⟩) | (have hwy : whyS μ.1 w t h = -4 := (by unfold whyS; clear hz; grind); rw [hwy]; exact ⟨rfl, PM.rf⟩) | (have hwy : whyS μ.1 w t h = -6 := (by unfold whyS; clear hz; grind); rw [hwy]; exact ⟨rfl, PM.rf⟩) | (have hwy : whyS μ.1 w t h = 0 := (by unfold whyS; clear hz; grind); rw [hwy]; exact ⟨rfl, PM_setW PM.rf⟩)))
      · refine P_aload_n (pc := 50) dX6_state_50 rfl 1 rfl ?_
        refine P_iload (pc := 51) dX6_state_51 0 rfl ?_
        refine P_callVi (Y' := mX6_no) (as := [_]) (pc := 53) dX6_state_53 rfl (by decide : 0 < 5) sM_0 rfl ml_RX6_109 im_X6_no se_X6_no mk_X6_no (Nat.le_of_ble_eq_true rfl) (c_X6_no (by omega)) (fun z_ μ_ hq => ?_)
        obtain ⟨rfl, hμ_⟩ := hq
        have hμ_ := hμ_.symm
        subst hμ_
        try simp only [wr_1, wr_2, wr_3, wr_4, wr_5, wr_6, wr_7, wr_8, wr_9, wr_10, wr_11, wr_12, wr_20, wr_21, wr_22, wr_23, wr_24, wr_25, wr_26, wr_27, wr_28, wr_29, wr_30, wr_13, wr_14, wr_16, wr_17, wr_18, wr_19, wr_15, wo_11, wo_12, wo_14, wo_15, wo_16, wo_30, wo_31, wo_37, wo_40, wo_41, wo_42, wp_13, wp_14, wp_16, wp_17, wp_18, wp_19, wp_0_24, wp_0_25, xn_0_13, xn_0_14, xn_0_15, xn_0_16, xn_0_17, xn_0_18, xn_0_19, xn_13_0, xn_13_14, xn_13_15, xn_13_16, xn_13_17, xn_13_18, xn_13_19, xn_14_0, xn_14_13, xn_14_15, xn_14_16, xn_14_17, xn_14_18, xn_14_19, xn_15_0, xn_15_13, xn_15_14, xn_15_16, xn_15_17, xn_15_18, xn_15_19, xn_16_0, xn_16_13, xn_16_14, xn_16_15, xn_16_17, xn_16_18, xn_16_19, xn_17_0, xn_17_13, xn_17_14, xn_17_15, xn_17_16, xn_17_18, xn_17_19, xn_18_0, xn_18_13, xn_18_14, xn_18_15, xn_18_16, xn_18_17, xn_18_19, xn_19_0, xn_19_13, xn_19_14, xn_19_15, xn_19_16, xn_19_17, xn_19_18, kr_2, kr_3, kr_4, kr_5, kr_6, kr_7, kr_8, kr_9, kr_10, kr_11, setW_put15, setW_24, setW_25, setW_2, kd_11, kd_12, setW_setW]
        exact P_iret (pc := 56) dX6_state_56 rfl (QI.mk (by first | (exfalso; clear hz; omega) | (have hwy : whyS μ.1 w t h = -1 := (by unfold whyS; clear hz; grind); rw [hwy]; exact ⟨rfl, PM.rf⟩) | (have hwy : whyS μ.1 w t h = -4 := (by unfold whyS; clear hz; grind); rw [hwy]; exact ⟨rfl, PM.rf⟩) | (have hwy : whyS μ.1 w t h = -6 := (by unfold whyS; clear hz; grind); rw [hwy]; exact ⟨rfl, PM.rf⟩) | (have hwy : whyS μ.1 w t h = 0 := (by unfold whyS; clear hz; grind); rw [hwy]; exact ⟨rfl, PM_setW PM.rf⟩)))
    · refine P_iload_n (pc := 16) dX6_state_16 rfl 3 rfl ?_
      refine P_if_ge (tgt := 25) (pc := 17) dX6_state_17 (by decide) (by first | assumption | (unfold InR; omega)) (fun c_17 => ?_) (fun c_17 => ?_)
      · refine P_iload_n (pc := 25) dX6_state_25 rfl 1 rfl ?_
        refine P_bipush (pc := 26) dX6_state_26 (by decide) ?_
        refine P_icmp_gt (tgt := 37) (pc := 28) dX6_state_28 (by decide) (by first | assumption | (unfold InR; omega)) (by first | assumption | (unfold InR; omega)) (fun c_28 => ?_) (fun c_28 => ?_)
        · refine P_bipush (pc := 37) dX6_state_37 (by decide) ?_
          refine P_goto (tgt := 43) (pc := 39) dX6_state_39 (by decide) ?_
          refine P_istore (L' := [(4, vi _), (0, vr 0), (1, vi _), (2, vi _), (3, vi _)]) (pc := 43) dX6_state_43 (by decide) rfl ?_
          refine P_iload (pc := 45) dX6_state_45 0 rfl ?_
          refine P_if_eq (tgt := 57) (pc := 47) dX6_state_47 (by decide) (by first | assumption | (unfold InR; omega)) (fun c_47 => ?_) (fun c_47 => ?_)
          · refine P_aload_n (pc := 57) dX6_state_57 rfl 1 rfl ?_
            refine P_iload_n (pc := 58) dX6_state_58 rfl 2 rfl ?_
            refine P_iload_n (pc := 59) dX6_state_59 rfl 4 rfl ?_
            refine P_iconst (pc := 60) dX6_state_60 ?_
            refine P_callVv (Y' := mX6_runs) (as := [_, _, _]) (pc := 61) dX6_state_61 rfl (by decide : 4 < 5) sM_0 rfl ml_RX6_222 im_X6_runs se_X6_runs mk_X6_runs (Nat.le_of_ble_eq_true rfl) (c_X6_runs hk hK (Or.inl rfl) (by omega) (by omega)) (fun μ_ hq => ?_)
            obtain ⟨S, hS, rfl⟩ := hq
            try simp only [wr_1, wr_2, wr_3, wr_4, wr_5, wr_6, wr_7, wr_8, wr_9, wr_10, wr_11, wr_12, wr_20, wr_21, wr_22, wr_23, wr_24, wr_25, wr_26, wr_27, wr_28, wr_29, wr_30, wr_13, wr_14, wr_16, wr_17, wr_18, wr_19, wr_15, wo_11, wo_12, wo_14, wo_15, wo_16, wo_30, wo_31, wo_37, wo_40, wo_41, wo_42, wp_13, wp_14, wp_16, wp_17, wp_18, wp_19, wp_0_24, wp_0_25, xn_0_13, xn_0_14, xn_0_15, xn_0_16, xn_0_17, xn_0_18, xn_0_19, xn_13_0, xn_13_14, xn_13_15, xn_13_16, xn_13_17, xn_13_18, xn_13_19, xn_14_0, xn_14_13, xn_14_15, xn_14_16, xn_14_17, xn_14_18, xn_14_19, xn_15_0, xn_15_13, xn_15_14, xn_15_16, xn_15_17, xn_15_18, xn_15_19, xn_16_0, xn_16_13, xn_16_14, xn_16_15, xn_16_17, xn_16_18, xn_16_19, xn_17_0, xn_17_13, xn_17_14, xn_17_15, xn_17_16, xn_17_18, xn_17_19, xn_18_0, xn_18_13, xn_18_14, xn_18_15, xn_18_16, xn_18_17, xn_18_19, xn_19_0, xn_19_13, xn_19_14, xn_19_15, xn_19_16, xn_19_17, xn_19_18, kr_2, kr_3, kr_4, kr_5, kr_6, kr_7, kr_8, kr_9, kr_10, kr_11, setW_put15, setW_24, setW_25, setW_2, kd_11, kd_12, setW_setW]
            refine P_aload_n (pc := 64) dX6_state_64 rfl 1 rfl ?_
            refine P_getR (pc := 65) dX6_state_65 fa_RX6_46 sM_0 fM0_17 ?_
            refine P_iload_n (pc := 68) dX6_state_68 rfl 3 rfl ?_
            refine P_iald (pc := 69) dX6_state_69 sM_13 (by omega) (by omega) (by decide) ?_
            try simp only [wr_1, wr_2, wr_3, wr_4, wr_5, wr_6, wr_7, wr_8, wr_9, wr_10, wr_11, wr_12, wr_20, wr_21, wr_22, wr_23, wr_24, wr_25, wr_26, wr_27, wr_28, wr_29, wr_30, wr_13, wr_14, wr_16, wr_17, wr_18, wr_19, wr_15, wo_11, wo_12, wo_14, wo_15, wo_16, wo_30, wo_31, wo_37, wo_40, wo_41, wo_42, wp_13, wp_14, wp_16, wp_17, wp_18, wp_19, wp_0_24, wp_0_25, xn_0_13, xn_0_14, xn_0_15, xn_0_16, xn_0_17, xn_0_18, xn_0_19, xn_13_0, xn_13_14, xn_13_15, xn_13_16, xn_13_17, xn_13_18, xn_13_19, xn_14_0, xn_14_13, xn_14_15, xn_14_16, xn_14_17, xn_14_18, xn_14_19, xn_15_0, xn_15_13, xn_15_14, xn_15_16, xn_15_17, xn_15_18, xn_15_19, xn_16_0, xn_16_13, xn_16_14, xn_16_15, xn_16_17, xn_16_18, xn_16_19, xn_17_0, xn_17_13, xn_17_14, xn_17_15, xn_17_16, xn_17_18, xn_17_19, xn_18_0, xn_18_13, xn_18_14, xn_18_15, xn_18_16, xn_18_17, xn_18_19, xn_19_0, xn_19_13, xn_19_14, xn_19_15, xn_19_16, xn_19_17, xn_19_18, kr_2, kr_3, kr_4, kr_5, kr_6, kr_7, kr_8, kr_9, kr_10, kr_11, setW_put15, setW_24, setW_25, setW_2, kd_11, kd_12, setW_setW]
            exact P_iret (pc := 70) dX6_state_70 rfl (QI.mk (by first | (exfalso; clear hz; omega) | (have hwy : whyS μ.1 w t h = -1 := (by unfold whyS; clear hz; grind); rw [hwy]; exact ⟨rfl, PM.rf⟩) | (have hwy : whyS μ.1 w t h = -4 := (by unfold whyS; clear hz; grind); rw [hwy]; exact ⟨rfl, PM.rf⟩) | (have hwy : whyS μ.1 w t h = -6 := (by unfold whyS; clear hz; grind); rw [hwy]; exact ⟨rfl, PM.rf⟩) | (have hwy : whyS μ.1 w t h = 0 := (by unfold whyS; clear hz; grind); rw [hwy]; exact ⟨rfl, PM_setW PM.rf⟩)))
          · refine P_aload_n (pc := 50) dX6_state_50 rfl 1 rfl ?_
            refine P_iload (pc := 51) dX6_state_51 0 rfl ?_
            refine P_callVi (Y' := mX6_no) (as := [_]) (pc := 53) dX6_state_53 rfl (by decide : 0 < 5) sM_0 rfl ml_RX6_109 im_X6_no se_X6_no mk_X6_no (Nat.le_of_ble_eq_true rfl) (c_X6_no (by omega)) (fun z_ μ_ hq => ?_)
            obtain ⟨rfl, hμ_⟩ := hq
            have hμ_ := hμ_.symm
            subst hμ_
            try simp only [wr_1, wr_2, wr_3, wr_4, wr_5, wr_6, wr_7, wr_8, wr_9, wr_10, wr_11, wr_12, wr_20, wr_21, wr_22, wr_23, wr_24, wr_25, wr_26, wr_27, wr_28, wr_29, wr_30, wr_13, wr_14, wr_16, wr_17, wr_18, wr_19, wr_15, wo_11, wo_12, wo_14, wo_15, wo_16, wo_30, wo_31, wo_37, wo_40, wo_41, wo_42, wp_13, wp_14, wp_16, wp_17, wp_18, wp_19, wp_0_24, wp_0_25, xn_0_13, xn_0_14, xn_0_15, xn_0_16, xn_0_17, xn_0_18, xn_0_19, xn_13_0, xn_13_14, xn_13_15, xn_13_16, xn_13_17, xn_13_18, xn_13_19, xn_14_0, xn_14_13, xn_14_15, xn_14_16, xn_14_17, xn_14_18, xn_14_19, xn_15_0, xn_15_13, xn_15_14, xn_15_16, xn_15_17, xn_15_18, xn_15_19, xn_16_0, xn_16_13, xn_16_14, xn_16_15, xn_16_17, xn_16_18, xn_16_19, xn_17_0, xn_17_13, xn_17_14, xn_17_15, xn_17_16, xn_17_18, xn_17_19, xn_18_0, xn_18_13, xn_18_14, xn_18_15, xn_18_16, xn_18_17, xn_18_19, xn_19_0, xn_19_13, xn_19_14, xn_19_15, xn_19_16, xn_19_17, xn_19_18, kr_2, kr_3, kr_4, kr_5, kr_6, kr_7, kr_8, kr_9, kr_10, kr_11, setW_put15, setW_24, setW_25, setW_2, kd_11, kd_12, setW_setW]
            exact P_iret (pc := 56) dX6_state_56 rfl (QI.mk (by first | (exfalso; clear hz; omega) | (have hwy : whyS μ.1 w t h = -1 := (by unfold whyS; clear hz; grind); rw [hwy]; exact ⟨rfl, PM.rf⟩) | (have hwy : whyS μ.1 w t h = -4 := (by unfold whyS; clear hz; grind); rw [hwy]; exact ⟨rfl, PM.rf⟩) | (have hwy : whyS μ.1 w t h = -6 := (by unfold whyS; clear hz; grind); rw [hwy]; exact ⟨rfl, PM.rf⟩) | (have hwy : whyS μ.1 w t h = 0 := (by unfold whyS; clear hz; grind); rw [hwy]; exact ⟨rfl, PM_setW PM.rf⟩)))
        · refine P_iload_n (pc := 31) dX6_state_31 rfl 3 rfl ?_
          refine P_bipush (pc := 32) dX6_state_32 (by decide) ?_
          refine P_icmp_le (tgt := 42) (pc := 34) dX6_state_34 (by decide) (by first | assumption | (unfold InR; omega)) (by first | assumption | (unfold InR; omega)) (fun c_34 => ?_) (fun c_34 => ?_)
          · refine P_iconst (pc := 42) dX6_state_42 ?_
            refine P_istore (L' := [(4, vi _), (0, vr 0), (1, vi _), (2, vi _), (3, vi _)]) (pc := 43) dX6_state_43 (by decide) rfl ?_
            refine P_iload (pc := 45) dX6_state_45 0 rfl ?_
            refine P_if_eq (tgt := 57) (pc := 47) dX6_state_47 (by decide) (by first | assumption | (unfold InR; omega)) (fun c_47 => ?_) (fun c_47 => ?_)
            · refine P_aload_n (pc := 57) dX6_state_57 rfl 1 rfl ?_
              refine P_iload_n (pc := 58) dX6_state_58 rfl 2 rfl ?_
              refine P_iload_n (pc := 59) dX6_state_59 rfl 4 rfl ?_
              refine P_iconst (pc := 60) dX6_state_60 ?_
              refine P_callVv (Y' := mX6_runs) (as := [_, _, _]) (pc := 61) dX6_state_61 rfl (by decide : 4 < 5) sM_0 rfl ml_RX6_222 im_X6_runs se_X6_runs mk_X6_runs (Nat.le_of_ble_eq_true rfl) (c_X6_runs hk hK (Or.inl rfl) (by omega) (by omega)) (fun μ_ hq => ?_)
              obtain ⟨S, hS, rfl⟩ := hq
              try simp only [wr_1, wr_2, wr_3, wr_4, wr_5, wr_6, wr_7, wr_8, wr_9, wr_10, wr_11, wr_12, wr_20, wr_21, wr_22, wr_23, wr_24, wr_25, wr_26, wr_27, wr_28, wr_29, wr_30, wr_13, wr_14, wr_16, wr_17, wr_18, wr_19, wr_15, wo_11, wo_12, wo_14, wo_15, wo_16, wo_30, wo_31, wo_37, wo_40, wo_41, wo_42, wp_13, wp_14, wp_16, wp_17, wp_18, wp_19, wp_0_24, wp_0_25, xn_0_13, xn_0_14, xn_0_15, xn_0_16, xn_0_17, xn_0_18, xn_0_19, xn_13_0, xn_13_14, xn_13_15, xn_13_16, xn_13_17, xn_13_18, xn_13_19, xn_14_0, xn_14_13, xn_14_15, xn_14_16, xn_14_17, xn_14_18, xn_14_19, xn_15_0, xn_15_13, xn_15_14, xn_15_16, xn_15_17, xn_15_18, xn_15_19, xn_16_0, xn_16_13, xn_16_14, xn_16_15, xn_16_17, xn_16_18, xn_16_19, xn_17_0, xn_17_13, xn_17_14, xn_17_15, xn_17_16, xn_17_18, xn_17_19, xn_18_0, xn_18_13, xn_18_14, xn_18_15, xn_18_16, xn_18_17, xn_18_19, xn_19_0, xn_19_13, xn_19_14, xn_19_15, xn_19_16, xn_19_17, xn_19_18, kr_2, kr_3, kr_4, kr_5, kr_6, kr_7, kr_8, kr_9, kr_10, kr_11, setW_put15, setW_24, setW_25, setW_2, kd_11, kd_12, setW_setW]
              refine P_aload_n (pc := 64) dX6_state_64 rfl 1 rfl ?_
              refine P_getR (pc := 65) dX6_state_65 fa_RX6_46 sM_0 fM0_17 ?_
              refine P_iload_n (pc := 68) dX6_state_68 rfl 3 rfl ?_
              refine P_iald (pc := 69) dX6_state_69 sM_13 (by omega) (by omega) (by decide) ?_
              try simp only [wr_1, wr_2, wr_3, wr_4, wr_5, wr_6, wr_7, wr_8, wr_9, wr_10, wr_11, wr_12, wr_20, wr_21, wr_22, wr_23, wr_24, wr_25, wr_26, wr_27, wr_28, wr_29, wr_30, wr_13, wr_14, wr_16, wr_17, wr_18, wr_19, wr_15, wo_11, wo_12, wo_14, wo_15, wo_16, wo_30, wo_31, wo_37, wo_40, wo_41, wo_42, wp_13, wp_14, wp_16, wp_17, wp_18, wp_19, wp_0_24, wp_0_25, xn_0_13, xn_0_14, xn_0_15, xn_0_16, xn_0_17, xn_0_18, xn_0_19, xn_13_0, xn_13_14, xn_13_15, xn_13_16, xn_13_17, xn_13_18, xn_13_19, xn_14_0, xn_14_13, xn_14_15, xn_14_16, xn_14_17, xn_14_18, xn_14_19, xn_15_0, xn_15_13, xn_15_14, xn_15_16, xn_15_17, xn_15_18, xn_15_19, xn_16_0, xn_16_13, xn_16_14, xn_16_15, xn_16_17, xn_16_18, xn_16_19, xn_17_0, xn_17_13, xn_17_14, xn_17_15, xn_17_16, xn_17_18, xn_17_19, xn_18_0, xn_18_13, xn_18_14, xn_18_15, xn_18_16, xn_18_17, xn_18_19, xn_19_0, xn_19_13, xn_19_14, xn_19_15, xn_19_16, xn_19_17, xn_19_18, kr_2, kr_3, kr_4, kr_5, kr_6, kr_7, kr_8, kr_9, kr_10, kr_11, setW_put15, setW_24, setW_25, setW_2, kd_11, kd_12, setW_setW]
              exact P_iret (pc := 70) dX6_state_70 rfl (QI.mk (by first | (exfalso; clear hz; omega) | (have hwy : whyS μ.1 w t h = -1 := (by unfold whyS; clear hz; grind); rw [hwy]; exact ⟨rfl, PM.rf⟩) | (have hwy : whyS μ.1 w t h = -4 := (by unfold whyS; clear hz; grind); rw [hwy]; exact ⟨rfl, PM.rf⟩) | (have hwy : whyS μ.1 w t h = -6 := (by unfold whyS; clear hz; grind); rw [hwy]; exact ⟨rfl, PM.rf⟩) | (have hwy : whyS μ.1 w t h = 0 := (by unfold whyS; clear hz; grind); rw [hwy]; exact ⟨rfl, PM_setW PM.rf⟩)))
            · refine P_aload_n (pc := 50) dX6_state_50 rfl 1 rfl ?_
              refine P_iload (pc := 51) dX6_state_51 0 rfl ?_
              refine P_callVi (Y' := mX6_no) (as := [_]) (pc := 53) dX6_state_53 rfl (by decide : 0 < 5) sM_0 rfl ml_RX6_109 im_X6_no se_X6_no mk_X6_no (Nat.le_of_ble_eq_true rfl) (c_X6_no (by omega)) (fun z_ μ_ hq => ?_)
              obtain ⟨rfl, hμ_⟩ := hq
              have hμ_ := hμ_.symm
              subst hμ_
              try simp only [wr_1, wr_2, wr_3, wr_4, wr_5, wr_6, wr_7, wr_8, wr_9, wr_10, wr_11, wr_12, wr_20, wr_21, wr_22, wr_23, wr_24, wr_25, wr_26, wr_27, wr_28, wr_29, wr_30, wr_13, wr_14, wr_16, wr_17, wr_18, wr_19, wr_15, wo_11, wo_12, wo_14, wo_15, wo_16, wo_30, wo_31, wo_37, wo_40, wo_41, wo_42, wp_13, wp_14, wp_16, wp_17, wp_18, wp_19, wp_0_24, wp_0_25, xn_0_13, xn_0_14, xn_0_15, xn_0_16, xn_0_17, xn_0_18, xn_0_19, xn_13_0, xn_13_14, xn_13_15, xn_13_16, xn_13_17, xn_13_18, xn_13_19, xn_14_0, xn_14_13, xn_14_15, xn_14_16, xn_14_17, xn_14_18, xn_14_19, xn_15_0, xn_15_13, xn_15_14, xn_15_16, xn_15_17, xn_15_18, xn_15_19, xn_16_0, xn_16_13, xn_16_14, xn_16_15, xn_16_17, xn_16_18, xn_16_19, xn_17_0, xn_17_13, xn_17_14, xn_17_15, xn_17_16, xn_17_18, xn_17_19, xn_18_0, xn_18_13, xn_18_14, xn_18_15, xn_18_16, xn_18_17, xn_18_19, xn_19_0, xn_19_13, xn_19_14, xn_19_15, xn_19_16, xn_19_17, xn_19_18, kr_2, kr_3, kr_4, kr_5, kr_6, kr_7, kr_8, kr_9, kr_10, kr_11, setW_put15, setW_24, setW_25, setW_2, kd_11, kd_12, setW_setW]
              exact P_iret (pc := 56) dX6_state_56 rfl (QI.mk (by first | (exfalso; clear hz; omega) | (have hwy : whyS μ.1 w t h = -1 := (by unfold whyS; clear hz; grind); rw [hwy]; exact ⟨rfl, PM.rf⟩) | (have hwy : whyS μ.1 w t h = -4 := (by unfold whyS; clear hz; grind); rw [hwy]; exact ⟨rfl, PM.rf⟩) | (have hwy : whyS μ.1 w t h = -6 := (by unfold whyS; clear hz; grind); rw [hwy]; exact ⟨rfl, PM.rf⟩) | (have hwy : whyS μ.1 w t h = 0 := (by unfold whyS; clear hz; grind); rw [hwy]; exact ⟨rfl, PM_setW PM.rf⟩)))
          · refine P_bipush (pc := 37) dX6_state_37 (by decide) ?_
            refine P_goto (tgt := 43) (pc := 39) dX6_state_39 (by decide) ?_
            refine P_istore (L' := [(4, vi _), (0, vr 0), (1, vi _), (2, vi _), (3, vi _)]) (pc := 43) dX6_state_43 (by decide) rfl ?_
            refine P_iload (pc := 45) dX6_state_45 0 rfl ?_
            refine P_if_eq (tgt := 57) (pc := 47) dX6_state_47 (by decide) (by first | assumption | (unfold InR; omega)) (fun c_47 => ?_) (fun c_47 => ?_)
            · refine P_aload_n (pc := 57) dX6_state_57 rfl 1 rfl ?_
              refine P_iload_n (pc := 58) dX6_state_58 rfl 2 rfl ?_
              refine P_iload_n (pc := 59) dX6_state_59 rfl 4 rfl ?_
              refine P_iconst (pc := 60) dX6_state_60 ?_
              refine P_callVv (Y' := mX6_runs) (as := [_, _, _]) (pc := 61) dX6_state_61 rfl (by decide : 4 < 5) sM_0 rfl ml_RX6_222 im_X6_runs se_X6_runs mk_X6_runs (Nat.le_of_ble_eq_true rfl) (c_X6_runs hk hK (Or.inl rfl) (by omega) (by omega)) (fun μ_ hq => ?_)
              obtain ⟨S, hS, rfl⟩ := hq
              try simp only [wr_1, wr_2, wr_3, wr_4, wr_5, wr_6, wr_7, wr_8, wr_9, wr_10, wr_11, wr_12, wr_20, wr_21, wr_22, wr_23, wr_24, wr_25, wr_26, wr_27, wr_28, wr_29, wr_30, wr_13, wr_14, wr_16, wr_17, wr_18, wr_19, wr_15, wo_11, wo_12, wo_14, wo_15, wo_16, wo_30, wo_31, wo_37, wo_40, wo_41, wo_42, wp_13, wp_14, wp_16, wp_17, wp_18, wp_19, wp_0_24, wp_0_25, xn_0_13, xn_0_14, xn_0_15, xn_0_16, xn_0_17, xn_0_18, xn_0_19, xn_13_0, xn_13_14, xn_13_15, xn_13_16, xn_13_17, xn_13_18, xn_13_19, xn_14_0, xn_14_13, xn_14_15, xn_14_16, xn_14_17, xn_14_18, xn_14_19, xn_15_0, xn_15_13, xn_15_14, xn_15_16, xn_15_17, xn_15_18, xn_15_19, xn_16_0, xn_16_13, xn_16_14, xn_16_15, xn_16_17, xn_16_18, xn_16_19, xn_17_0, xn_17_13, xn_17_14, xn_17_15, xn_17_16, xn_17_18, xn_17_19, xn_18_0, xn_18_13, xn_18_14, xn_18_15, xn_18_16, xn_18_17, xn_18_19, xn_19_0, xn_19_13, xn_19_14, xn_19_15, xn_19_16, xn_19_17, xn_19_18, kr_2, kr_3, kr_4, kr_5, kr_6, kr_7, kr_8, kr_9, kr_10, kr_11, setW_put15, setW_24, setW_25, setW_2, kd_11, kd_12, setW_setW]
              refine P_aload_n (pc := 64) dX6_state_64 rfl 1 rfl ?_
              refine P_getR (pc := 65) dX6_state_65 fa_RX6_46 sM_0 fM0_17 ?_
              refine P_iload_n (pc := 68) dX6_state_68 rfl 3 rfl ?_
              refine P_iald (pc := 69) dX6_state_69 sM_13 (by omega) (by omega) (by decide) ?_
              try simp only [wr_1, wr_2, wr_3, wr_4, wr_5, wr_6, wr_7, wr_8, wr_9, wr_10, wr_11, wr_12, wr_20, wr_21, wr_22, wr_23, wr_24, wr_25, wr_26, wr_27, wr_28, wr_29, wr_30, wr_13, wr_14, wr_16, wr_17, wr_18, wr_19, wr_15, wo_11, wo_12, wo_14, wo_15, wo_16, wo_30, wo_31, wo_37, wo_40, wo_41, wo_42, wp_13, wp_14, wp_16, wp_17, wp_18, wp_19, wp_0_24, wp_0_25, xn_0_13, xn_0_14, xn_0_15, xn_0_16, xn_0_17, xn_0_18, xn_0_19, xn_13_0, xn_13_14, xn_13_15, xn_13_16, xn_13_17, xn_13_18, xn_13_19, xn_14_0, xn_14_13, xn_14_15, xn_14_16, xn_14_17, xn_14_18, xn_14_19, xn_15_0, xn_15_13, xn_15_14, xn_15_16, xn_15_17, xn_15_18, xn_15_19, xn_16_0, xn_16_13, xn_16_14, xn_16_15, xn_16_17, xn_16_18, xn_16_19, xn_17_0, xn_17_13, xn_17_14, xn_17_15, xn_17_16, xn_17_18, xn_17_19, xn_18_0, xn_18_13, xn_18_14, xn_18_15, xn_18_16, xn_18_17, xn_18_19, xn_19_0, xn_19_13, xn_19_14, xn_19_15, xn_19_16, xn_19_17, xn_19_18, kr_2, kr_3, kr_4, kr_5, kr_6, kr_7, kr_8, kr_9, kr_10, kr_11, setW_put15, setW_24, setW_25, setW_2, kd_11, kd_12, setW_setW]
              exact P_iret (pc := 70) dX6_state_70 rfl (QI.mk (by first | (exfalso; clear hz; omega) | (have hwy : whyS μ.1 w t h = -1 := (by unfold whyS; clear hz; grind); rw [hwy]; exact ⟨rfl, PM.rf⟩) | (have hwy : whyS μ.1 w t h = -4 := (by unfold whyS; clear hz; grind); rw [hwy]; exact ⟨rfl, PM.rf⟩) | (have hwy : whyS μ.1 w t h = -6 := (by unfold whyS; clear hz; grind); rw [hwy]; exact ⟨rfl, PM.rf⟩) | (have hwy : whyS μ.1 w t h = 0 := (by unfold whyS; clear hz; grind); rw [hwy]; exact ⟨rfl, PM_setW PM.rf⟩)))
            · refine P_aload_n (pc := 50) dX6_state_50 rfl 1 rfl ?_
              refine P_iload (pc := 51) dX6_state_51 0 rfl ?_
              refine P_callVi (Y' := mX6_no) (as := [_]) (pc := 53) dX6_state_53 rfl (by decide : 0 < 5) sM_0 rfl ml_RX6_109 im_X6_no se_X6_no mk_X6_no (Nat.le_of_ble_eq_true rfl) (c_X6_no (by omega)) (fun z_ μ_ hq => ?_)
              obtain ⟨rfl, hμ_⟩ := hq
              have hμ_ := hμ_.symm
              subst hμ_
              try simp only [wr_1, wr_2, wr_3, wr_4, wr_5, wr_6, wr_7, wr_8, wr_9, wr_10, wr_11, wr_12, wr_20, wr_21, wr_22, wr_23, wr_24, wr_25, wr_26, wr_27, wr_28, wr_29, wr_30, wr_13, wr_14, wr_16, wr_17, wr_18, wr_19, wr_15, wo_11, wo_12, wo_14, wo_15, wo_16, wo_30, wo_31, wo_37, wo_40, wo_41, wo_42, wp_13, wp_14, wp_16, wp_17, wp_18, wp_19, wp_0_24, wp_0_25, xn_0_13, xn_0_14, xn_0_15, xn_0_16, xn_0_17, xn_0_18, xn_0_19, xn_13_0, xn_13_14, xn_13_15, xn_13_16, xn_13_17, xn_13_18, xn_13_19, xn_14_0, xn_14_13, xn_14_15, xn_14_16, xn_14_17, xn_14_18, xn_14_19, xn_15_0, xn_15_13, xn_15_14, xn_15_16, xn_15_17, xn_15_18, xn_15_19, xn_16_0, xn_16_13, xn_16_14, xn_16_15, xn_16_17, xn_16_18, xn_16_19, xn_17_0, xn_17_13, xn_17_14, xn_17_15, xn_17_16, xn_17_18, xn_17_19, xn_18_0, xn_18_13, xn_18_14, xn_18_15, xn_18_16, xn_18_17, xn_18_19, xn_19_0, xn_19_13, xn_19_14, xn_19_15, xn_19_16, xn_19_17, xn_19_18, kr_2, kr_3, kr_4, kr_5, kr_6, kr_7, kr_8, kr_9, kr_10, kr_11, setW_put15, setW_24, setW_25, setW_2, kd_11, kd_12, setW_setW]
              exact P_iret (pc := 56) dX6_state_56 rfl (QI.mk (by first | (exfalso; clear hz; omega) | (have hwy : whyS μ.1 w t h = -1 := (by unfold whyS; clear hz; grind); rw [hwy]; exact ⟨rfl, PM.rf⟩) | (have hwy : whyS μ.1 w t h = -4 := (by unfold whyS; clear hz; grind); rw [hwy]; exact ⟨rfl, PM.rf⟩) | (have hwy : whyS μ.1 w t h = -6 := (by unfold whyS; clear hz; grind); rw [hwy]; exact ⟨rfl, PM.rf⟩) | (have hwy : whyS μ.1 w t h = 0 := (by unfold whyS; clear hz; grind); rw [hwy]; exact ⟨rfl, PM_setW PM.rf⟩)))
      · refine P_bipush (pc := 20) dX6_state_20 (by decide) ?_
        refine P_goto (tgt := 43) (pc := 22) dX6_state_22 (by decide) ?_
        refine P_istore (L' := [(4, vi _), (0, vr 0), (1, vi _), (2, vi _), (3, vi _)]) (pc := 43) dX6_state_43 (by decide) rfl ?_
        refine P_iload (pc := 45) dX6_state_45 0 rfl ?_
        refine P_if_eq (tgt := 57) (pc := 47) dX6_state_47 (by decide) (by first | assumption | (unfold InR; omega)) (fun c_47 => ?_) (fun c_47 => ?_)
        · refine P_aload_n (pc := 57) dX6_state_57 rfl 1 rfl ?_
          refine P_iload_n (pc := 58) dX6_state_58 rfl 2 rfl ?_
          refine P_iload_n (pc := 59) dX6_state_59 rfl 4 rfl ?_
          refine P_iconst (pc := 60) dX6_state_60 ?_
          refine P_callVv (Y' := mX6_runs) (as := [_, _, _]) (pc := 61) dX6_state_61 rfl (by decide : 4 < 5) sM_0 rfl ml_RX6_222 im_X6_runs se_X6_runs mk_X6_runs (Nat.le_of_ble_eq_true rfl) (c_X6_runs hk hK (Or.inl rfl) (by omega) (by omega)) (fun μ_ hq => ?_)
          obtain ⟨S, hS, rfl⟩ := hq
          try simp only [wr_1, wr_2, wr_3, wr_4, wr_5, wr_6, wr_7, wr_8, wr_9, wr_10, wr_11, wr_12, wr_20, wr_21, wr_22, wr_23, wr_24, wr_25, wr_26, wr_27, wr_28, wr_29, wr_30, wr_13, wr_14, wr_16, wr_17, wr_18, wr_19, wr_15, wo_11, wo_12, wo_14, wo_15, wo_16, wo_30, wo_31, wo_37, wo_40, wo_41, wo_42, wp_13, wp_14, wp_16, wp_17, wp_18, wp_19, wp_0_24, wp_0_25, xn_0_13, xn_0_14, xn_0_15, xn_0_16, xn_0_17, xn_0_18, xn_0_19, xn_13_0, xn_13_14, xn_13_15, xn_13_16, xn_13_17, xn_13_18, xn_13_19, xn_14_0, xn_14_13, xn_14_15, xn_14_16, xn_14_17, xn_14_18, xn_14_19, xn_15_0, xn_15_13, xn_15_14, xn_15_16, xn_15_17, xn_15_18, xn_15_19, xn_16_0, xn_16_13, xn_16_14, xn_16_15, xn_16_17, xn_16_18, xn_16_19, xn_17_0, xn_17_13, xn_17_14, xn_17_15, xn_17_16, xn_17_18, xn_17_19, xn_18_0, xn_18_13, xn_18_14, xn_18_15, xn_18_16, xn_18_17, xn_18_19, xn_19_0, xn_19_13, xn_19_14, xn_19_15, xn_19_16, xn_19_17, xn_19_18, kr_2, kr_3, kr_4, kr_5, kr_6, kr_7, kr_8, kr_9, kr_10, kr_11, setW_put15, setW_24, setW_25, setW_2, kd_11, kd_12, setW_setW]
          refine P_aload_n (pc := 64) dX6_state_64 rfl 1 rfl ?_
          refine P_getR (pc := 65) dX6_state_65 fa_RX6_46 sM_0 fM0_17 ?_
          refine P_iload_n (pc := 68) dX6_state_68 rfl 3 rfl ?_
          refine P_iald (pc := 69) dX6_state_69 sM_13 (by omega) (by omega) (by decide) ?_
          try simp only [wr_1, wr_2, wr_3, wr_4, wr_5, wr_6, wr_7, wr_8, wr_9, wr_10, wr_11, wr_12, wr_20, wr_21, wr_22, wr_23, wr_24, wr_25, wr_26, wr_27, wr_28, wr_29, wr_30, wr_13, wr_14, wr_16, wr_17, wr_18, wr_19, wr_15, wo_11, wo_12, wo_14, wo_15, wo_16, wo_30, wo_31, wo_37, wo_40, wo_41, wo_42, wp_13, wp_14, wp_16, wp_17, wp_18, wp_19, wp_0_24, wp_0_25, xn_0_13, xn_0_14, xn_0_15, xn_0_16, xn_0_17, xn_0_18, xn_0_19, xn_13_0, xn_13_14, xn_13_15, xn_13_16, xn_13_17, xn_13_18, xn_13_19, xn_14_0, xn_14_13, xn_14_15, xn_14_16, xn_14_17, xn_14_18, xn_14_19, xn_15_0, xn_15_13, xn_15_14, xn_15_16, xn_15_17, xn_15_18, xn_15_19, xn_16_0, xn_16_13, xn_16_14, xn_16_15, xn_16_17, xn_16_18, xn_16_19, xn_17_0, xn_17_13, xn_17_14, xn_17_15, xn_17_16, xn_17_18, xn_17_19, xn_18_0, xn_18_13, xn_18_14, xn_18_15, xn_18_16, xn_18_17, xn_18_19, xn_19_0, xn_19_13, xn_19_14, xn_19_15, xn_19_16, xn_19_17, xn_19_18, kr_2, kr_3, kr_4, kr_5, kr_6, kr_7, kr_8, kr_9, kr_10, kr_11, setW_put15, setW_24, setW_25, setW_2, kd_11, kd_12, setW_setW]
          exact P_iret (pc := 70) dX6_state_70 rfl (QI.mk (by first | (exfalso; clear hz; omega) | (have hwy : whyS μ.1 w t h = -1 := (by unfold whyS; clear hz; grind); rw [hwy]; exact ⟨rfl, PM.rf⟩) | (have hwy : whyS μ.1 w t h = -4 := (by unfold whyS; clear hz; grind); rw [hwy]; exact ⟨rfl, PM.rf⟩) | (have hwy : whyS μ.1 w t h = -6 := (by unfold whyS; clear hz; grind); rw [hwy]; exact ⟨rfl, PM.rf⟩) | (have hwy : whyS μ.1 w t h = 0 := (by unfold whyS; clear hz; grind); rw [hwy]; exact ⟨rfl, PM_setW PM.rf⟩)))
        · refine P_aload_n (pc := 50) dX6_state_50 rfl 1 rfl ?_
          refine P_iload (pc := 51) dX6_state_51 0 rfl ?_
          refine P_callVi (Y' := mX6_no) (as := [_]) (pc := 53) dX6_state_53 rfl (by decide : 0 < 5) sM_0 rfl ml_RX6_109 im_X6_no se_X6_no mk_X6_no (Nat.le_of_ble_eq_true rfl) (c_X6_no (by omega)) (fun z_ μ_ hq => ?_)
          obtain ⟨rfl, hμ_⟩ := hq
          have hμ_ := hμ_.symm
          subst hμ_
          try simp only [wr_1, wr_2, wr_3, wr_4, wr_5, wr_6, wr_7, wr_8, wr_9, wr_10, wr_11, wr_12, wr_20, wr_21, wr_22, wr_23, wr_24, wr_25, wr_26, wr_27, wr_28, wr_29, wr_30, wr_13, wr_14, wr_16, wr_17, wr_18, wr_19, wr_15, wo_11, wo_12, wo_14, wo_15, wo_16, wo_30, wo_31, wo_37, wo_40, wo_41, wo_42, wp_13, wp_14, wp_16, wp_17, wp_18, wp_19, wp_0_24, wp_0_25, xn_0_13, xn_0_14, xn_0_15, xn_0_16, xn_0_17, xn_0_18, xn_0_19, xn_13_0, xn_13_14, xn_13_15, xn_13_16, xn_13_17, xn_13_18, xn_13_19, xn_14_0, xn_14_13, xn_14_15, xn_14_16, xn_14_17, xn_14_18, xn_14_19, xn_15_0, xn_15_13, xn_15_14, xn_15_16, xn_15_17, xn_15_18, xn_15_19, xn_16_0, xn_16_13, xn_16_14, xn_16_15, xn_16_17, xn_16_18, xn_16_19, xn_17_0, xn_17_13, xn_17_14, xn_17_15, xn_17_16, xn_17_18, xn_17_19, xn_18_0, xn_18_13, xn_18_14, xn_18_15, xn_18_16, xn_18_17, xn_18_19, xn_19_0, xn_19_13, xn_19_14, xn_19_15, xn_19_16, xn_19_17, xn_19_18, kr_2, kr_3, kr_4, kr_5, kr_6, kr_7, kr_8, kr_9, kr_10, kr_11, setW_put15, setW_24, setW_25, setW_2, kd_11, kd_12, setW_setW]
          exact P_iret (pc := 56) dX6_state_56 rfl (QI.mk (by first | (exfalso; clear hz; omega) | (have hwy : whyS μ.1 w t h = -1 := (by unfold whyS; clear hz; grind); rw [hwy]; exact ⟨rfl, PM.rf⟩) | (have hwy : whyS μ.1 w t h = -4 := (by unfold whyS; clear hz; grind); rw [hwy]; exact ⟨rfl, PM.rf⟩) | (have hwy : whyS μ.1 w t h = -6 := (by unfold whyS; clear hz; grind); rw [hwy]; exact ⟨rfl, PM.rf⟩) | (have hwy : whyS μ.1 w t h = 0 := (by unfold whyS; clear hz; grind); rw [hwy]; exact ⟨rfl, PM_setW PM.rf⟩)))
  · refine P_iconst (pc := 8) dX6_state_8 ?_
    refine P_goto (tgt := 43) (pc := 9) dX6_state_9 (by decide) ?_
    refine P_istore (L' := [(4, vi _), (0, vr 0), (1, vi _), (2, vi _), (3, vi _)]) (pc := 43) dX6_state_43 (by decide) rfl ?_
    refine P_iload (pc := 45) dX6_state_45 0 rfl ?_
    refine P_if_eq (tgt := 57) (pc := 47) dX6_state_47 (by decide) (by first | assumption | (unfold InR; omega)) (fun c_47 => ?_) (fun c_47 => ?_)
    · refine P_aload_n (pc := 57) dX6_state_57 rfl 1 rfl ?_
      refine P_iload_n (pc := 58) dX6_state_58 rfl 2 rfl ?_
      refine P_iload_n (pc := 59) dX6_state_59 rfl 4 rfl ?_
      refine P_iconst (pc := 60) dX6_state_60 ?_
      refine P_callVv (Y' := mX6_runs) (as := [_, _, _]) (pc := 61) dX6_state_61 rfl (by decide : 4 < 5) sM_0 rfl ml_RX6_222 im_X6_runs se_X6_runs mk_X6_runs (Nat.le_of_ble_eq_true rfl) (c_X6_runs hk hK (Or.inl rfl) (by omega) (by omega)) (fun μ_ hq => ?_)
      obtain ⟨S, hS, rfl⟩ := hq
      try simp only [wr_1, wr_2, wr_3, wr_4, wr_5, wr_6, wr_7, wr_8, wr_9, wr_10, wr_11, wr_12, wr_20, wr_21, wr_22, wr_23, wr_24, wr_25, wr_26, wr_27, wr_28, wr_29, wr_30, wr_13, wr_14, wr_16, wr_17, wr_18, wr_19, wr_15, wo_11, wo_12, wo_14, wo_15, wo_16, wo_30, wo_31, wo_37, wo_40, wo_41, wo_42, wp_13, wp_14, wp_16, wp_17, wp_18, wp_19, wp_0_24, wp_0_25, xn_0_13, xn_0_14, xn_0_15, xn_0_16, xn_0_17, xn_0_18, xn_0_19, xn_13_0, xn_13_14, xn_13_15, xn_13_16, xn_13_17, xn_13_18, xn_13_19, xn_14_0, xn_14_13, xn_14_15, xn_14_16, xn_14_17, xn_14_18, xn_14_19, xn_15_0, xn_15_13, xn_15_14, xn_15_16, xn_15_17, xn_15_18, xn_15_19, xn_16_0, xn_16_13, xn_16_14, xn_16_15, xn_16_17, xn_16_18, xn_16_19, xn_17_0, xn_17_13, xn_17_14, xn_17_15, xn_17_16, xn_17_18, xn_17_19, xn_18_0, xn_18_13, xn_18_14, xn_18_15, xn_18_16, xn_18_17, xn_18_19, xn_19_0, xn_19_13, xn_19_14, xn_19_15, xn_19_16, xn_19_17, xn_19_18, kr_2, kr_3, kr_4, kr_5, kr_6, kr_7, kr_8, kr_9, kr_10, kr_11, setW_put15, setW_24, setW_25, setW_2, kd_11, kd_12, setW_setW]
      refine P_aload_n (pc := 64) dX6_state_64 rfl 1 rfl ?_
      refine P_getR (pc := 65) dX6_state_65 fa_RX6_46 sM_0 fM0_17 ?_
      refine P_iload_n (pc := 68) dX6_state_68 rfl 3 rfl ?_
      refine P_iald (pc := 69) dX6_state_69 sM_13 (by omega) (by omega) (by decide) ?_
      try simp only [wr_1, wr_2, wr_3, wr_4, wr_5, wr_6, wr_7, wr_8, wr_9, wr_10, wr_11, wr_12, wr_20, wr_21, wr_22, wr_23, wr_24, wr_25, wr_26, wr_27, wr_28, wr_29, wr_30, wr_13, wr_14, wr_16, wr_17, wr_18, wr_19, wr_15, wo_11, wo_12, wo_14, wo_15, wo_16, wo_30, wo_31, wo_37, wo_40, wo_41, wo_42, wp_13, wp_14, wp_16, wp_17, wp_18, wp_19, wp_0_24, wp_0_25, xn_0_13, xn_0_14, xn_0_15, xn_0_16, xn_0_17, xn_0_18, xn_0_19, xn_13_0, xn_13_14, xn_13_15, xn_13_16, xn_13_17, xn_13_18, xn_13_19, xn_14_0, xn_14_13, xn_14_15, xn_14_16, xn_14_17, xn_14_18, xn_14_19, xn_15_0, xn_15_13, xn_15_14, xn_15_16, xn_15_17, xn_15_18, xn_15_19, xn_16_0, xn_16_13, xn_16_14, xn_16_15, xn_16_17, xn_16_18, xn_16_19, xn_17_0, xn_17_13, xn_17_14, xn_17_15, xn_17_16, xn_17_18, xn_17_19, xn_18_0, xn_18_13, xn_18_14, xn_18_15, xn_18_16, xn_18_17, xn_18_19, xn_19_0, xn_19_13, xn_19_14, xn_19_15, xn_19_16, xn_19_17, xn_19_18, kr_2, kr_3, kr_4, kr_5, kr_6, kr_7, kr_8, kr_9, kr_10, kr_11, setW_put15, setW_24, setW_25, setW_2, kd_11, kd_12, setW_setW]
      exact P_iret (pc := 70) dX6_state_70 rfl (QI.mk (by first | (exfalso; clear hz; omega) | (have hwy : whyS μ.1 w t h = -1 := (by unfold whyS; clear hz; grind); rw [hwy]; exact ⟨rfl, PM.rf⟩) | (have hwy : whyS μ.1 w t h = -4 := (by unfold whyS; clear hz; grind); rw [hwy]; exact ⟨rfl, PM.rf⟩) | (have hwy : whyS μ.1 w t h = -6 := (by unfold whyS; clear hz; grind); rw [hwy]; exact ⟨rfl, PM.rf⟩) | (have hwy : whyS μ.1 w t h = 0 := (by unfold whyS; clear hz; grind); rw [hwy]; exact ⟨rfl, PM_setW PM.rf⟩)))
    · refine P_aload_n (pc := 50) dX6_state_50 rfl 1 rfl ?_
      refine P_iload (pc := 51) dX6_state_51 0 rfl ?_
      refine P_callVi (Y' := mX6_no) (as := [_]) (pc := 53) dX6_state_53 rfl (by decide : 0 < 5) sM_0 rfl ml_RX6_109 im_X6_no se_X6_no mk_X6_no (Nat.le_of_ble_eq_true rfl) (c_X6_no (by omega)) (fun z_ μ_ hq => ?_)
      obtain ⟨rfl, hμ_⟩ := hq
      have hμ_ := hμ_.symm
      subst hμ_
      try simp only [wr_1, wr_2, wr_3, wr_4, wr_5, wr_6, wr_7, wr_8, wr_9, wr_10, wr_11, wr_12, wr_20, wr_21, wr_22, wr_23, wr_24, wr_25, wr_26, wr_27, wr_28, wr_29, wr_30, wr_13, wr_14, wr_16, wr_17, wr_18, wr_19, wr_15, wo_11, wo_12, wo_14, wo_15, wo_16, wo_30, wo_31, wo_37, wo_40, wo_41, wo_42, wp_13, wp_14, wp_16, wp_17, wp_18, wp_19, wp_0_24, wp_0_25, xn_0_13, xn_0_14, xn_0_15, xn_0_16, xn_0_17, xn_0_18, xn_0_19, xn_13_0, xn_13_14, xn_13_15, xn_13_16, xn_13_17, xn_13_18, xn_13_19, xn_14_0, xn_14_13, xn_14_15, xn_14_16, xn_14_17, xn_14_18, xn_14_19, xn_15_0, xn_15_13, xn_15_14, xn_15_16, xn_15_17, xn_15_18, xn_15_19, xn_16_0, xn_16_13, xn_16_14, xn_16_15, xn_16_17, xn_16_18, xn_16_19, xn_17_0, xn_17_13, xn_17_14, xn_17_15, xn_17_16, xn_17_18, xn_17_19, xn_18_0, xn_18_13, xn_18_14, xn_18_15, xn_18_16, xn_18_17, xn_18_19, xn_19_0, xn_19_13, xn_19_14, xn_19_15, xn_19_16, xn_19_17, xn_19_18, kr_2, kr_3, kr_4, kr_5, kr_6, kr_7, kr_8, kr_9, kr_10, kr_11, setW_put15, setW_24, setW_25, setW_2, kd_11, kd_12, setW_setW]
      exact P_iret (pc := 56) dX6_state_56 rfl (QI.mk (by first | (exfalso; clear hz; omega) | (have hwy : whyS μ.1 w t h = -1 := (by unfold whyS; clear hz; grind); rw [hwy]; exact ⟨rfl, PM.rf⟩) | (have hwy : whyS μ.1 w t h = -4 := (by unfold whyS; clear hz; grind); rw [hwy]; exact ⟨rfl, PM.rf⟩) | (have hwy : whyS μ.1 w t h = -6 := (by unfold whyS; clear hz; grind); rw [hwy]; exact ⟨rfl, PM.rf⟩) | (have hwy : whyS μ.1 w t h = 0 := (by unfold whyS; clear hz; grind); rw [hwy]; exact ⟨rfl, PM_setW PM.rf⟩)))
theorem whenX_at {K : Cel} {w t : Int} : ∀ (n h : Nat) (m : Nat), (∀ i : Nat, h ≤ i → i < h + n → ¬ 0 < simX K w (i : Int) 0 13 t) → whenX K w t (n + m) h = whenX K w t m (h + n)
  | 0, h, m, _ => by rw [Nat.zero_add]; rfl
  | n + 1, h, m, hc => by
    have e : n + 1 + m = (n + m) + 1 := by omega
    rw [e]
    show (if 0 < simX K w (h : Int) 0 13 t then (h : Int) else whenX K w t (n + m) (h + 1)) = _
    rw [if_neg (hc h (Nat.le_refl h) (by omega)), whenX_at n (h + 1) m (fun i h1 h2 => hc i (by omega) (by omega))]
    congr 1
    omega
set_option maxHeartbeats 1000000 in
set_option maxRecDepth 100000 in
theorem l_X6_when {μ : Mem} {K : Cel} {S : Int → Int} {w t : Int} (hk : kd μ.1 = K) (hK : KOK K) (hw : 0 ≤ w ∧ w < 64) (ht : 0 ≤ t ∧ t < 12) (hS : (∀ i : Int, 0 ≤ i → i < K 0 12 → S i = srcX K i)) : ∀ (n j : Nat) (h : Int), h = (j : Int) → j ≤ 48 → 48 - j < n → (∀ i : Nat, i < j → ¬ 0 < simX K w (i : Int) 0 13 t) → PW shM 4 mX6_when 38 [(0, vr 0), (1, vi w), (2, vi t), (4, vi h)] [] (setW μ S (upN (goesX K (srcX K) w) 0 j (begX K 0))) (QI (fun z μ' => z = whenX K w t 48 0 ∧ PM μ μ')) := by
  intro n
  induction n with
  | zero => intro j h _ _ q; omega
  | succ n ih =>
  intro j h hh hj hn hB
  have hX := XOK_runsN (S := srcX K) (w := w) hK (Or.inl rfl : (0 : Int) = 0 ∨ (0 : Int) = 1) j
  have hs := upN_s (goesX K (srcX K) w) 0 j (begX K 0)
  rw [show (0 : Int) + (j : Int) = h by omega] at hs
  have hsim := simX_s (K := K) (w := w) (o := 0) hh
  have g1 := (XOK_goes (S := srcX K) (w := w) (h := h) hX hK).1 t
  have g2 := whenX_at (K := K) (w := w) (t := t) j 0 (48 - j) (fun i h1 h2 => hB i (by omega))
  rw [show j + (48 - j) = 48 by omega, Nat.zero_add] at g2
  refine P_iload (pc := 38) dX6_when_38 3 rfl ?_
  refine P_bipush (pc := 40) dX6_when_40 (by decide) ?_
  refine P_icmp_gt (tgt := 70) (pc := 42) dX6_when_42 (by decide) (by first | assumption | (unfold InR; omega)) (by first | assumption | (unfold InR; omega)) (fun c_42 => ?_) (fun c_42 => ?_)
  · refine P_bipush (pc := 70) dX6_when_70 (by decide) ?_
    exact P_iret (pc := 72) dX6_when_72 rfl (QI.mk (by first | (exfalso; clear hz; omega) | (have hwy : whyW μ.1 w t = -1 := (by unfold whyW; clear hz; grind); rw [hwy]; exact ⟨rfl, PM.rf⟩) | (have hwy : whyW μ.1 w t = z_ := (by unfold whyW; clear hz hzo; grind); rw [hwy]; exact ⟨by rw [if_neg (by omega)], by rw [refW, if_neg (by omega)]; exact PM.rf⟩) | (refine ⟨?_, PM_setW PM.rf⟩; have e9 : 48 - j = (47 - j) + 1 := (by omega); rw [g2, e9]; show _ = if 0 < simX K w (j : Int) 0 13 t then (j : Int) else _; rw [← hh, hsim, if_pos (by omega)]) | (refine ⟨?_, PM_setW PM.rf⟩; have e9 : 48 - j = 0 := (by omega); rw [g2, e9]; rfl)))
  · refine P_aload_n (pc := 45) dX6_when_45 rfl 0 rfl ?_
    refine P_iload_n (pc := 46) dX6_when_46 rfl 1 rfl ?_
    refine P_iload (pc := 47) dX6_when_47 3 rfl ?_
    refine P_callVv (Y' := mX6_goes) (as := [_, _]) (pc := 49) dX6_when_49 rfl (by decide : 3 < 4) sM_0 rfl ml_RX6_219 im_X6_goes se_X6_goes mk_X6_goes (Nat.le_of_ble_eq_true rfl) (c_goes hk hK hX hw (by omega) hS) (fun μ_ hq => ?_)
    subst hq
    try simp only [wr_1, wr_2, wr_3, wr_4, wr_5, wr_6, wr_7, wr_8, wr_9, wr_10, wr_11, wr_12, wr_20, wr_21, wr_22, wr_23, wr_24, wr_25, wr_26, wr_27, wr_28, wr_29, wr_30, wr_13, wr_14, wr_16, wr_17, wr_18, wr_19, wr_15, wo_11, wo_12, wo_14, wo_15, wo_16, wo_30, wo_31, wo_37, wo_40, wo_41, wo_42, wp_13, wp_14, wp_16, wp_17, wp_18, wp_19, wp_0_24, wp_0_25, xn_0_13, xn_0_14, xn_0_15, xn_0_16, xn_0_17, xn_0_18, xn_0_19, xn_13_0, xn_13_14, xn_13_15, xn_13_16, xn_13_17, xn_13_18, xn_13_19, xn_14_0, xn_14_13, xn_14_15, xn_14_16, xn_14_17, xn_14_18, xn_14_19, xn_15_0, xn_15_13, xn_15_14, xn_15_16, xn_15_17, xn_15_18, xn_15_19, xn_16_0, xn_16_13, xn_16_14, xn_16_15, xn_16_17, xn_16_18, xn_16_19, xn_17_0, xn_17_13, xn_17_14, xn_17_15, xn_17_16, xn_17_18, xn_17_19, xn_18_0, xn_18_13, xn_18_14, xn_18_15, xn_18_16, xn_18_17, xn_18_19, xn_19_0, xn_19_13, xn_19_14, xn_19_15, xn_19_16, xn_19_17, xn_19_18, kr_2, kr_3, kr_4, kr_5, kr_6, kr_7, kr_8, kr_9, kr_10, kr_11, setW_put15, setW_24, setW_25, setW_2, kd_11, kd_12, setW_setW]
    refine P_aload_n (pc := 52) dX6_when_52 rfl 0 rfl ?_
    refine P_getR (pc := 53) dX6_when_53 fa_RX6_46 sM_0 fM0_17 ?_
    refine P_iload_n (pc := 56) dX6_when_56 rfl 2 rfl ?_
    refine P_iald (pc := 57) dX6_when_57 sM_13 (by omega) (by omega) (by decide) ?_
    try simp only [wr_1, wr_2, wr_3, wr_4, wr_5, wr_6, wr_7, wr_8, wr_9, wr_10, wr_11, wr_12, wr_20, wr_21, wr_22, wr_23, wr_24, wr_25, wr_26, wr_27, wr_28, wr_29, wr_30, wr_13, wr_14, wr_16, wr_17, wr_18, wr_19, wr_15, wo_11, wo_12, wo_14, wo_15, wo_16, wo_30, wo_31, wo_37, wo_40, wo_41, wo_42, wp_13, wp_14, wp_16, wp_17, wp_18, wp_19, wp_0_24, wp_0_25, xn_0_13, xn_0_14, xn_0_15, xn_0_16, xn_0_17, xn_0_18, xn_0_19, xn_13_0, xn_13_14, xn_13_15, xn_13_16, xn_13_17, xn_13_18, xn_13_19, xn_14_0, xn_14_13, xn_14_15, xn_14_16, xn_14_17, xn_14_18, xn_14_19, xn_15_0, xn_15_13, xn_15_14, xn_15_16, xn_15_17, xn_15_18, xn_15_19, xn_16_0, xn_16_13, xn_16_14, xn_16_15, xn_16_17, xn_16_18, xn_16_19, xn_17_0, xn_17_13, xn_17_14, xn_17_15, xn_17_16, xn_17_18, xn_17_19, xn_18_0, xn_18_13, xn_18_14, xn_18_15, xn_18_16, xn_18_17, xn_18_19, xn_19_0, xn_19_13, xn_19_14, xn_19_15, xn_19_16, xn_19_17, xn_19_18, kr_2, kr_3, kr_4, kr_5, kr_6, kr_7, kr_8, kr_9, kr_10, kr_11, setW_put15, setW_24, setW_25, setW_2, kd_11, kd_12, setW_setW]
    refine P_if_le (tgt := 64) (pc := 58) dX6_when_58 (by decide) (by first | assumption | (unfold InR; omega)) (fun c_58 => ?_) (fun c_58 => ?_)
    · refine P_iinc (L' := [(4, vi _), (0, vr 0), (1, vi _), (2, vi _)]) (pc := 64) dX6_when_64 (by decide) 3 rfl rfl ?_
      refine P_goto (tgt := 38) (pc := 67) dX6_when_67 (by decide) ?_
      refine P_sub (L' := [(0, vr 0), (1, vi _), (2, vi _), (4, vi _)]) [1, 2, 3, 0] rfl ?_
      rw [← hs]
      refine ih (j + 1) (h + 1) (by omega) (by omega) (by omega) (fun i hi => ?_)
      rcases Nat.lt_or_ge i j with q | q
      · exact hB i q
      · have e : i = j := by omega
        subst e
        rw [← hh, hsim]
        omega
    · refine P_iload (pc := 61) dX6_when_61 3 rfl ?_
      exact P_iret (pc := 63) dX6_when_63 rfl (QI.mk (by first | (exfalso; clear hz; omega) | (have hwy : whyW μ.1 w t = -1 := (by unfold whyW; clear hz; grind); rw [hwy]; exact ⟨rfl, PM.rf⟩) | (have hwy : whyW μ.1 w t = z_ := (by unfold whyW; clear hz hzo; grind); rw [hwy]; exact ⟨by rw [if_neg (by omega)], by rw [refW, if_neg (by omega)]; exact PM.rf⟩) | (refine ⟨?_, PM_setW PM.rf⟩; have e9 : 48 - j = (47 - j) + 1 := (by omega); rw [g2, e9]; show _ = if 0 < simX K w (j : Int) 0 13 t then (j : Int) else _; rw [← hh, hsim, if_pos (by omega)]) | (refine ⟨?_, PM_setW PM.rf⟩; have e9 : 48 - j = 0 := (by omega); rw [g2, e9]; rfl)))
set_option maxHeartbeats 1000000 in
set_option maxRecDepth 100000 in
theorem c_X6_when {μ : Mem} {K : Cel} {w t : Int} (hk : kd μ.1 = K) (hK : KOK K) (hw : InR w) (ht : InR t) : PC shM 4 mX6_when [vr 0, vi w, vi t] (μ) (QI (fun z μ' => z = (if whyW μ.1 w t = 0 then whenX K w t 48 0 else whyW μ.1 w t) ∧ PM (refW μ (whyW μ.1 w t)) μ')) := by
  refine PC.of (by decide +kernel) (Nat.le_of_ble_eq_true rfl) ?_
  refine P_sub (L' := [(0, vr 0), (1, vi w), (2, vi t)]) [0, 1, 2] rfl ?_
  have hK1 := hK.1
  have hk11 : K 0 11 = μ.1 0 11 := by rw [← hk]; rfl
  have hn : InR (μ.1 0 11) := by unfold InR; omega
  refine P_aload_n (pc := 0) dX6_when_0 rfl 0 rfl ?_
  refine P_iload_n (pc := 1) dX6_when_1 rfl 2 rfl ?_
  refine P_callVi (Y' := mX6_isThing) (as := [_]) (pc := 2) dX6_when_2 rfl (by decide : 0 < 4) sM_0 rfl ml_RX6_132 im_X6_isThing se_X6_isThing mk_X6_isThing (Nat.le_of_ble_eq_true rfl) (c_X6_isThing ht hn) (fun z_ μ_ hq => ?_)
  obtain ⟨hz, hμ_⟩ := hq
  have hμ_ := hμ_.symm
  subst hμ_
  have hz2 : z_ = 0 ∧ ¬ (0 ≤ t ∧ t < μ.1 0 11) ∨ z_ = 1 ∧ (0 ≤ t ∧ t < μ.1 0 11) := by rw [hz]; split <;> omega
  try simp only [wr_1, wr_2, wr_3, wr_4, wr_5, wr_6, wr_7, wr_8, wr_9, wr_10, wr_11, wr_12, wr_20, wr_21, wr_22, wr_23, wr_24, wr_25, wr_26, wr_27, wr_28, wr_29, wr_30, wr_13, wr_14, wr_16, wr_17, wr_18, wr_19, wr_15, wo_11, wo_12, wo_14, wo_15, wo_16, wo_30, wo_31, wo_37, wo_40, wo_41, wo_42, wp_13, wp_14, wp_16, wp_17, wp_18, wp_19, wp_0_24, wp_0_25, xn_0_13, xn_0_14, xn_0_15, xn_0_16, xn_0_17, xn_0_18, xn_0_19, xn_13_0, xn_13_14, xn_13_15, xn_13_16, xn_13_17, xn_13_18, xn_13_19, xn_14_0, xn_14_13, xn_14_15, xn_14_16, xn_14_17, xn_14_18, xn_14_19, xn_15_0, xn_15_13, xn_15_14, xn_15_16, xn_15_17, xn_15_18, xn_15_19, xn_16_0, xn_16_13, xn_16_14, xn_16_15, xn_16_17, xn_16_18, xn_16_19, xn_17_0, xn_17_13, xn_17_14, xn_17_15, xn_17_16, xn_17_18, xn_17_19, xn_18_0, xn_18_13, xn_18_14, xn_18_15, xn_18_16, xn_18_17, xn_18_19, xn_19_0, xn_19_13, xn_19_14, xn_19_15, xn_19_16, xn_19_17, xn_19_18, kr_2, kr_3, kr_4, kr_5, kr_6, kr_7, kr_8, kr_9, kr_10, kr_11, setW_put15, setW_24, setW_25, setW_2, kd_11, kd_12, setW_setW]
  refine P_if_ne (tgt := 12) (pc := 5) dX6_when_5 (by decide) (by first | assumption | (unfold InR; omega)) (fun c_5 => ?_) (fun c_5 => ?_)
  · refine P_iload_n (pc := 12) dX6_when_12 rfl 1 rfl ?_
    refine P_iconst (pc := 13) dX6_when_13 ?_
    refine P_bipush (pc := 14) dX6_when_14 (by decide) ?_
    refine P_callSi (Y' := mX6_out) (as := [_, _, _]) (pc := 16) dX6_when_16 rfl (by decide : 0 < 4) ml_RX6_121 sm_X6_out mk_X6_out (Nat.le_of_ble_eq_true rfl) (c_X6_out hw (by unfold InR; omega) (by unfold InR; omega)) (fun z_ μ_ hq => ?_)
    obtain ⟨hzo, hμ_⟩ := hq
    have hμ_ := hμ_.symm
    subst hμ_
    have hzo2 : z_ = -4 ∧ w < 0 ∨ z_ = -6 ∧ w > 63 ∨ z_ = 0 ∧ 0 ≤ w ∧ w ≤ 63 := by rw [hzo]; clear hz hz2; grind
    try simp only [wr_1, wr_2, wr_3, wr_4, wr_5, wr_6, wr_7, wr_8, wr_9, wr_10, wr_11, wr_12, wr_20, wr_21, wr_22, wr_23, wr_24, wr_25, wr_26, wr_27, wr_28, wr_29, wr_30, wr_13, wr_14, wr_16, wr_17, wr_18, wr_19, wr_15, wo_11, wo_12, wo_14, wo_15, wo_16, wo_30, wo_31, wo_37, wo_40, wo_41, wo_42, wp_13, wp_14, wp_16, wp_17, wp_18, wp_19, wp_0_24, wp_0_25, xn_0_13, xn_0_14, xn_0_15, xn_0_16, xn_0_17, xn_0_18, xn_0_19, xn_13_0, xn_13_14, xn_13_15, xn_13_16, xn_13_17, xn_13_18, xn_13_19, xn_14_0, xn_14_13, xn_14_15, xn_14_16, xn_14_17, xn_14_18, xn_14_19, xn_15_0, xn_15_13, xn_15_14, xn_15_16, xn_15_17, xn_15_18, xn_15_19, xn_16_0, xn_16_13, xn_16_14, xn_16_15, xn_16_17, xn_16_18, xn_16_19, xn_17_0, xn_17_13, xn_17_14, xn_17_15, xn_17_16, xn_17_18, xn_17_19, xn_18_0, xn_18_13, xn_18_14, xn_18_15, xn_18_16, xn_18_17, xn_18_19, xn_19_0, xn_19_13, xn_19_14, xn_19_15, xn_19_16, xn_19_17, xn_19_18, kr_2, kr_3, kr_4, kr_5, kr_6, kr_7, kr_8, kr_9, kr_10, kr_11, setW_put15, setW_24, setW_25, setW_2, kd_11, kd_12, setW_setW]
    refine P_istore_n (L' := [(3, vi _), (0, vr 0), (1, vi _), (2, vi _)]) (pc := 19) dX6_when_19 rfl (by decide) rfl ?_
    refine P_iload_n (pc := 20) dX6_when_20 rfl 0 rfl ?_
    refine P_if_eq (tgt := 30) (pc := 21) dX6_when_21 (by decide) (by first | assumption | (unfold InR; omega)) (fun c_21 => ?_) (fun c_21 => ?_)
    · refine P_aload_n (pc := 30) dX6_when_30 rfl 1 rfl ?_
      refine P_iconst (pc := 31) dX6_when_31 ?_
      refine P_callVv (Y' := mX6_begins) (as := [_]) (pc := 32) dX6_when_32 rfl (by decide : 0 < 4) sM_0 rfl ml_RX6_215 im_X6_begins se_X6_begins mk_X6_begins (Nat.le_of_ble_eq_true rfl) (c_begins hk hK (Or.inl rfl)) (fun μ_ hq => ?_)
      obtain ⟨S, hS, rfl⟩ := hq
      try simp only [wr_1, wr_2, wr_3, wr_4, wr_5, wr_6, wr_7, wr_8, wr_9, wr_10, wr_11, wr_12, wr_20, wr_21, wr_22, wr_23, wr_24, wr_25, wr_26, wr_27, wr_28, wr_29, wr_30, wr_13, wr_14, wr_16, wr_17, wr_18, wr_19, wr_15, wo_11, wo_12, wo_14, wo_15, wo_16, wo_30, wo_31, wo_37, wo_40, wo_41, wo_42, wp_13, wp_14, wp_16, wp_17, wp_18, wp_19, wp_0_24, wp_0_25, xn_0_13, xn_0_14, xn_0_15, xn_0_16, xn_0_17, xn_0_18, xn_0_19, xn_13_0, xn_13_14, xn_13_15, xn_13_16, xn_13_17, xn_13_18, xn_13_19, xn_14_0, xn_14_13, xn_14_15, xn_14_16, xn_14_17, xn_14_18, xn_14_19, xn_15_0, xn_15_13, xn_15_14, xn_15_16, xn_15_17, xn_15_18, xn_15_19, xn_16_0, xn_16_13, xn_16_14, xn_16_15, xn_16_17, xn_16_18, xn_16_19, xn_17_0, xn_17_13, xn_17_14, xn_17_15, xn_17_16, xn_17_18, xn_17_19, xn_18_0, xn_18_13, xn_18_14, xn_18_15, xn_18_16, xn_18_17, xn_18_19, xn_19_0, xn_19_13, xn_19_14, xn_19_15, xn_19_16, xn_19_17, xn_19_18, kr_2, kr_3, kr_4, kr_5, kr_6, kr_7, kr_8, kr_9, kr_10, kr_11, setW_put15, setW_24, setW_25, setW_2, kd_11, kd_12, setW_setW]
      refine P_iconst (pc := 35) dX6_when_35 ?_
      refine P_istore (L' := [(4, vi _), (3, vi _), (0, vr 0), (1, vi _), (2, vi _)]) (pc := 36) dX6_when_36 (by decide) rfl ?_
      refine P_sub (L' := [(0, vr 0), (1, vi _), (2, vi _), (4, vi _)]) [2, 3, 4, 0] rfl ?_
      refine P_post (Q' := (QI (fun z μ' => z = whenX K w t 48 0 ∧ PM μ μ'))) (fun r μ' hq => ?_) (l_X6_when hk hK (by omega) (by omega) hS 49 0 0 rfl (by omega) (by omega) (fun i hi => absurd hi (Nat.not_lt_zero i)))
      obtain ⟨z9, hr9, hz9, hP9⟩ := hq
      have hwy : whyW μ.1 w t = 0 := by unfold whyW; clear hz; (try clear hzo); grind
      refine ⟨z9, hr9, ?_, ?_⟩
      · rw [if_pos hwy]; exact hz9
      · rw [hwy]; exact hP9
    · refine P_aload_n (pc := 24) dX6_when_24 rfl 1 rfl ?_
      refine P_iload_n (pc := 25) dX6_when_25 rfl 0 rfl ?_
      refine P_callVi (Y' := mX6_no) (as := [_]) (pc := 26) dX6_when_26 rfl (by decide : 0 < 4) sM_0 rfl ml_RX6_109 im_X6_no se_X6_no mk_X6_no (Nat.le_of_ble_eq_true rfl) (c_X6_no (by omega)) (fun z_ μ_ hq => ?_)
      obtain ⟨rfl, hμ_⟩ := hq
      have hμ_ := hμ_.symm
      subst hμ_
      try simp only [wr_1, wr_2, wr_3, wr_4, wr_5, wr_6, wr_7, wr_8, wr_9, wr_10, wr_11, wr_12, wr_20, wr_21, wr_22, wr_23, wr_24, wr_25, wr_26, wr_27, wr_28, wr_29, wr_30, wr_13, wr_14, wr_16, wr_17, wr_18, wr_19, wr_15, wo_11, wo_12, wo_14, wo_15, wo_16, wo_30, wo_31, wo_37, wo_40, wo_41, wo_42, wp_13, wp_14, wp_16, wp_17, wp_18, wp_19, wp_0_24, wp_0_25, xn_0_13, xn_0_14, xn_0_15, xn_0_16, xn_0_17, xn_0_18, xn_0_19, xn_13_0, xn_13_14, xn_13_15, xn_13_16, xn_13_17, xn_13_18, xn_13_19, xn_14_0, xn_14_13, xn_14_15, xn_14_16, xn_14_17, xn_14_18, xn_14_19, xn_15_0, xn_15_13, xn_15_14, xn_15_16, xn_15_17, xn_15_18, xn_15_19, xn_16_0, xn_16_13, xn_16_14, xn_16_15, xn_16_17, xn_16_18, xn_16_19, xn_17_0, xn_17_13, xn_17_14, xn_17_15, xn_17_16, xn_17_18, xn_17_19, xn_18_0, xn_18_13, xn_18_14, xn_18_15, xn_18_16, xn_18_17, xn_18_19, xn_19_0, xn_19_13, xn_19_14, xn_19_15, xn_19_16, xn_19_17, xn_19_18, kr_2, kr_3, kr_4, kr_5, kr_6, kr_7, kr_8, kr_9, kr_10, kr_11, setW_put15, setW_24, setW_25, setW_2, kd_11, kd_12, setW_setW]
      exact P_iret (pc := 29) dX6_when_29 rfl (QI.mk (by first | (exfalso; clear hz; omega) | (have hwy : whyW μ.1 w t = -1 := (by unfold whyW; clear hz; grind); rw [hwy]; exact ⟨rfl, PM.rf⟩) | (have hwy : whyW μ.1 w t = z_ := (by unfold whyW; clear hz hzo; grind); rw [hwy]; exact ⟨by rw [if_neg (by omega)], by rw [refW, if_neg (by omega)]; exact PM.rf⟩) | (refine ⟨?_, PM_setW PM.rf⟩; have e9 : 48 - j = (47 - j) + 1 := (by omega); rw [g2, e9]; show _ = if 0 < simX K w (j : Int) 0 13 t then (j : Int) else _; rw [← hh, hsim, if_pos (by omega)]) | (refine ⟨?_, PM_setW PM.rf⟩; have e9 : 48 - j = 0 := (by omega); rw [g2, e9]; rfl)))
  · refine P_iconst (pc := 8) dX6_when_8 ?_
    refine P_goto (tgt := 19) (pc := 9) dX6_when_9 (by decide) ?_
    refine P_istore_n (L' := [(3, vi _), (0, vr 0), (1, vi _), (2, vi _)]) (pc := 19) dX6_when_19 rfl (by decide) rfl ?_
    refine P_iload_n (pc := 20) dX6_when_20 rfl 0 rfl ?_
    refine P_if_eq (tgt := 30) (pc := 21) dX6_when_21 (by decide) (by first | assumption | (unfold InR; omega)) (fun c_21 => ?_) (fun c_21 => ?_)
    · refine P_aload_n (pc := 30) dX6_when_30 rfl 1 rfl ?_
      refine P_iconst (pc := 31) dX6_when_31 ?_
      refine P_callVv (Y' := mX6_begins) (as := [_]) (pc := 32) dX6_when_32 rfl (by decide : 0 < 4) sM_0 rfl ml_RX6_215 im_X6_begins se_X6_begins mk_X6_begins (Nat.le_of_ble_eq_true rfl) (c_begins hk hK (Or.inl rfl)) (fun μ_ hq => ?_)
      obtain ⟨S, hS, rfl⟩ := hq
      try simp only [wr_1, wr_2, wr_3, wr_4, wr_5, wr_6, wr_7, wr_8, wr_9, wr_10, wr_11, wr_12, wr_20, wr_21, wr_22, wr_23, wr_24, wr_25, wr_26, wr_27, wr_28, wr_29, wr_30, wr_13, wr_14, wr_16, wr_17, wr_18, wr_19, wr_15, wo_11, wo_12, wo_14, wo_15, wo_16, wo_30, wo_31, wo_37, wo_40, wo_41, wo_42, wp_13, wp_14, wp_16, wp_17, wp_18, wp_19, wp_0_24, wp_0_25, xn_0_13, xn_0_14, xn_0_15, xn_0_16, xn_0_17, xn_0_18, xn_0_19, xn_13_0, xn_13_14, xn_13_15, xn_13_16, xn_13_17, xn_13_18, xn_13_19, xn_14_0, xn_14_13, xn_14_15, xn_14_16, xn_14_17, xn_14_18, xn_14_19, xn_15_0, xn_15_13, xn_15_14, xn_15_16, xn_15_17, xn_15_18, xn_15_19, xn_16_0, xn_16_13, xn_16_14, xn_16_15, xn_16_17, xn_16_18, xn_16_19, xn_17_0, xn_17_13, xn_17_14, xn_17_15, xn_17_16, xn_17_18, xn_17_19, xn_18_0, xn_18_13, xn_18_14, xn_18_15, xn_18_16, xn_18_17, xn_18_19, xn_19_0, xn_19_13, xn_19_14, xn_19_15, xn_19_16, xn_19_17, xn_19_18, kr_2, kr_3, kr_4, kr_5, kr_6, kr_7, kr_8, kr_9, kr_10, kr_11, setW_put15, setW_24, setW_25, setW_2, kd_11, kd_12, setW_setW]
      refine P_iconst (pc := 35) dX6_when_35 ?_
      refine P_istore (L' := [(4, vi _), (3, vi _), (0, vr 0), (1, vi _), (2, vi _)]) (pc := 36) dX6_when_36 (by decide) rfl ?_
      refine P_sub (L' := [(0, vr 0), (1, vi _), (2, vi _), (4, vi _)]) [2, 3, 4, 0] rfl ?_
      refine P_post (Q' := (QI (fun z μ' => z = whenX K w t 48 0 ∧ PM μ μ'))) (fun r μ' hq => ?_) (l_X6_when hk hK (by omega) (by omega) hS 49 0 0 rfl (by omega) (by omega) (fun i hi => absurd hi (Nat.not_lt_zero i)))
      obtain ⟨z9, hr9, hz9, hP9⟩ := hq
      have hwy : whyW μ.1 w t = 0 := by unfold whyW; clear hz; (try clear hzo); grind
      refine ⟨z9, hr9, ?_, ?_⟩
      · rw [if_pos hwy]; exact hz9
      · rw [hwy]; exact hP9
    · refine P_aload_n (pc := 24) dX6_when_24 rfl 1 rfl ?_
      refine P_iload_n (pc := 25) dX6_when_25 rfl 0 rfl ?_
      refine P_callVi (Y' := mX6_no) (as := [_]) (pc := 26) dX6_when_26 rfl (by decide : 0 < 4) sM_0 rfl ml_RX6_109 im_X6_no se_X6_no mk_X6_no (Nat.le_of_ble_eq_true rfl) (c_X6_no (by omega)) (fun z_ μ_ hq => ?_)
      obtain ⟨rfl, hμ_⟩ := hq
      have hμ_ := hμ_.symm
      subst hμ_
      try simp only [wr_1, wr_2, wr_3, wr_4, wr_5, wr_6, wr_7, wr_8, wr_9, wr_10, wr_11, wr_12, wr_20, wr_21, wr_22, wr_23, wr_24, wr_25, wr_26, wr_27, wr_28, wr_29, wr_30, wr_13, wr_14, wr_16, wr_17, wr_18, wr_19, wr_15, wo_11, wo_12, wo_14, wo_15, wo_16, wo_30, wo_31, wo_37, wo_40, wo_41, wo_42, wp_13, wp_14, wp_16, wp_17, wp_18, wp_19, wp_0_24, wp_0_25, xn_0_13, xn_0_14, xn_0_15, xn_0_16, xn_0_17, xn_0_18, xn_0_19, xn_13_0, xn_13_14, xn_13_15, xn_13_16, xn_13_17, xn_13_18, xn_13_19, xn_14_0, xn_14_13, xn_14_15, xn_14_16, xn_14_17, xn_14_18, xn_14_19, xn_15_0, xn_15_13, xn_15_14, xn_15_16, xn_15_17, xn_15_18, xn_15_19, xn_16_0, xn_16_13, xn_16_14, xn_16_15, xn_16_17, xn_16_18, xn_16_19, xn_17_0, xn_17_13, xn_17_14, xn_17_15, xn_17_16, xn_17_18, xn_17_19, xn_18_0, xn_18_13, xn_18_14, xn_18_15, xn_18_16, xn_18_17, xn_18_19, xn_19_0, xn_19_13, xn_19_14, xn_19_15, xn_19_16, xn_19_17, xn_19_18, kr_2, kr_3, kr_4, kr_5, kr_6, kr_7, kr_8, kr_9, kr_10, kr_11, setW_put15, setW_24, setW_25, setW_2, kd_11, kd_12, setW_setW]
      exact P_iret (pc := 29) dX6_when_29 rfl (QI.mk (by first | (exfalso; clear hz; omega) | (have hwy : whyW μ.1 w t = -1 := (by unfold whyW; clear hz; grind); rw [hwy]; exact ⟨rfl, PM.rf⟩) | (have hwy : whyW μ.1 w t = z_ := (by unfold whyW; clear hz hzo; grind); rw [hwy]; exact ⟨by rw [if_neg (by omega)], by rw [refW, if_neg (by omega)]; exact PM.rf⟩) | (refine ⟨?_, PM_setW PM.rf⟩; have e9 : 48 - j = (47 - j) + 1 := (by omega); rw [g2, e9]; show _ = if 0 < simX K w (j : Int) 0 13 t then (j : Int) else _; rw [← hh, hsim, if_pos (by omega)]) | (refine ⟨?_, PM_setW PM.rf⟩; have e9 : 48 - j = 0 := (by omega); rw [g2, e9]; rfl)))
