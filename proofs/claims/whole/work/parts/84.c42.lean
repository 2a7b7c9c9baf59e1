theorem rivB_0 {K F : Cel} {h : Int} {s : Nat} (hl : leftN K F 0 = 0) (hs : s ≠ 0) : rivB K F h s = false := by
  refine Bool.eq_false_iff.mpr (fun q => ?_)
  unfold rivB at q
  rw [Bool.and_eq_true, decide_eq_true_eq] at q
  obtain ⟨i, hi⟩ := Nat.exists_testBit_of_ne_zero hs
  have g := and_sub.mp q.2 i hi
  obtain ⟨w, hw, hlw, -⟩ := orN_bit.mp g
  have := cnt_0iff.mp hl w hw
  rw [this] at hlw
  cases hlw
theorem riv_0 {K F : Cel} {h : Int} (hl : leftN K F 0 = 0) : rivR K F h 2 2 = -9 := by
  have k : ∀ z, 1 ≤ z → rivP K F h z = none := fun z hz => findN_non (fun s _ => by
    by_cases q : cnt31 s = z
    · have hs : s ≠ 0 := fun e => by
        subst e
        have : cnt31 0 = 0 := by decide
        omega
      rw [rivB_0 hl hs, Bool.and_false]
    · rw [decide_eq_false q]; rfl)
  exact rivR_n (k 2 (by decide)) (k 3 (by decide))
theorem div_lt {a n : Nat} (h : (a : Int) / 2 ^ n = 0) : a < 2 ^ n := by
  have e : (a : Int) / 2 ^ n = ((a / 2 ^ n : Nat) : Int) := by
    rw [Int.natCast_ediv, Int.natCast_pow]
    rfl
  rw [e] at h
  have h2 : a / 2 ^ n = 0 := by omega
  have hp : 0 < 2 ^ n := Nat.pow_pos (by decide)
  exact (Nat.div_eq_zero_iff_lt hp).mp h2
theorem all_ways : ∀ N, N < 64 → cnt (fun w => decide (w &&& N = w)) 64 = 2 ^ cnt31 N := by decide +kernel
theorem ev_cnt {K : Cel} (hK : KOK K) : cnt (fun i => (evW (nmK K) 6).getLsbD i) 64 = 2 ^ cnt31 (nmK K) := by
  rw [← all_ways _ (nmK_lt hK)]
  exact cnt_congr 64 (fun i hi => evW_bit hi)
theorem SR_of {n : Int} {μ ν : Mem} (h : RLN n μ ν) : SR ν.1 (ν.1 0 37).toNat μ ∧ SOS (kd ν.1) ν.1 (ν.1 0 37).toNat := by
  obtain ⟨s1, s2⟩ := h.1.2.2.1
  obtain ⟨r1, r2⟩ := h.1.2.2.2.2.2.2
  refine ⟨⟨⟨by rw [r1]; omega, by omega⟩, r2⟩, fun i a c => s2 i a (by omega)⟩
set_option maxHeartbeats 1000000 in
set_option maxRecDepth 100000 in
theorem c_X5_state {n : Int} {μ ν : Mem} {w t q : Int} (h : RLN n μ ν) (hn : n < 2147483648) (hw : InR w) (ht : InR t) (hq0 : InR q) : PC shC 5 mX5_state [vr 0, vi w, vi t, vi q] (μ) (QI (fun z μ' => z = (if whyS ν.1 w t q = 0 then simX (kd ν.1) w q 0 13 t else whyS ν.1 w t q) ∧ RLN n μ' (refW ν (whyS ν.1 w t q)))) := by
  refine PC.of (by decide +kernel) (Nat.le_of_ble_eq_true rfl) ?_
  refine P_sub (L' := [(0, vr 0), (1, vi w), (2, vi t), (3, vi q)]) [0, 1, 2, 3] rfl ?_
  have h6 := RL_6 h
  have h7 := RL_7 h
  refine P_aload_n (pc := 0) dX5_state_0 rfl 0 rfl ?_
  refine P_getR (pc := 1) dX5_state_1 fa_RX5_12 sC_0 fC0_0 ?_
  refine P_iload_n (pc := 4) dX5_state_4 rfl 2 rfl ?_
  refine P_callVi (Y' := mX3_isThere) (as := [_]) (pc := 5) dX5_state_5 rfl (by decide : 0 < 5) sC_1 rfl ml_RX5_90 im_X3_isThere se_X3_isThere mk_X3_isThere (Nat.le_of_ble_eq_true rfl) (c_X3_isThere ht (by unfold InR; omega)) (fun z_ μ_ hq => ?_)
  obtain ⟨hz, hμ_⟩ := hq
  have hμ_ := hμ_.symm
  subst hμ_
  rw [h6.1] at hz
  have hz := ite01 hz
  skip
  refine P_if_ne (tgt := 17) (pc := 8) dX5_state_8 (by decide) (by first | assumption | (unfold InR; omega)) (fun c_8 => ?_) (fun c_8 => ?_)
  · refine P_iload_n (pc := 17) dX5_state_17 rfl 1 rfl ?_
    refine P_if_lt (tgt := 25) (pc := 18) dX5_state_18 (by decide) (by first | assumption | (unfold InR; omega)) (fun c_18 => ?_) (fun c_18 => ?_)
    · refine P_aload_n (pc := 25) dX5_state_25 rfl 0 rfl ?_
      refine P_bipush (pc := 26) dX5_state_26 (by decide) ?_
      refine P_callVi (Y' := mX5_refuse) (as := [_]) (pc := 28) dX5_state_28 rfl (by decide : 0 < 5) sC_0 rfl ml_RX5_67 im_X5_refuse se_X5_refuse mk_X5_refuse (Nat.le_of_ble_eq_true rfl) (c_X5_refuse h hn (by omega)) (fun z_ μ_ hq => ?_)
      obtain ⟨hzr, hRr⟩ := hq
      skip
      exact P_iret (pc := 31) dX5_state_31 rfl (QI.mk (by
            have e : whyS ν.1 w t q = -4 := by
              unfold whyS
              repeat (first | rw [if_pos (by omega)] | rw [if_neg (by omega)])
            rw [e]
            exact ⟨by rw [if_neg (by decide)]; exact hzr, by rw [refW_n (by decide)]; exact hRr⟩))
    · refine P_iload_n (pc := 21) dX5_state_21 rfl 3 rfl ?_
      refine P_if_ge (tgt := 32) (pc := 22) dX5_state_22 (by decide) (by first | assumption | (unfold InR; omega)) (fun c_22 => ?_) (fun c_22 => ?_)
      · refine P_iload_n (pc := 32) dX5_state_32 rfl 1 rfl ?_
        refine P_bipush (pc := 33) dX5_state_33 (by decide) ?_
        refine P_icmp_ge (tgt := 44) (pc := 35) dX5_state_35 (by decide) (by first | assumption | (unfold InR; omega)) (by first | assumption | (unfold InR; omega)) (fun c_35 => ?_) (fun c_35 => ?_)
        · refine P_aload_n (pc := 44) dX5_state_44 rfl 0 rfl ?_
          refine P_bipush (pc := 45) dX5_state_45 (by decide) ?_
          refine P_callVi (Y' := mX5_refuse) (as := [_]) (pc := 47) dX5_state_47 rfl (by decide : 0 < 5) sC_0 rfl ml_RX5_67 im_X5_refuse se_X5_refuse mk_X5_refuse (Nat.le_of_ble_eq_true rfl) (c_X5_refuse h hn (by omega)) (fun z_ μ_ hq => ?_)
          obtain ⟨hzr, hRr⟩ := hq
          skip
          exact P_iret (pc := 50) dX5_state_50 rfl (QI.mk (by
                have e : whyS ν.1 w t q = -6 := by
                  unfold whyS
                  repeat (first | rw [if_pos (by omega)] | rw [if_neg (by omega)])
                rw [e]
                exact ⟨by rw [if_neg (by decide)]; exact hzr, by rw [refW_n (by decide)]; exact hRr⟩))
        · refine P_iload_n (pc := 38) dX5_state_38 rfl 3 rfl ?_
          refine P_bipush (pc := 39) dX5_state_39 (by decide) ?_
          refine P_icmp_lt (tgt := 51) (pc := 41) dX5_state_41 (by decide) (by first | assumption | (unfold InR; omega)) (by first | assumption | (unfold InR; omega)) (fun c_41 => ?_) (fun c_41 => ?_)
          · refine P_aload_n (pc := 51) dX5_state_51 rfl 0 rfl ?_
            refine P_getR (pc := 52) dX5_state_52 fa_RX5_24 sC_0 fC0_2 ?_
            refine P_callVv (Y' := mX4_refresh) (as := []) (pc := 55) dX5_state_55 rfl (by decide : 4 < 5) sC_3 rfl ml_RX5_121 im_X4_refresh se_X4_refresh mk_X4_refresh (Nat.le_of_ble_eq_true rfl) (c_ref0 h hn) (fun μ_ hq => ?_)
            obtain ⟨hR1, hS1⟩ := hq
            skip
            refine P_aload_n (pc := 58) dX5_state_58 rfl 0 rfl ?_
            refine P_getR (pc := 59) dX5_state_59 fa_RX5_24 sC_0 fC0_2 ?_
            refine P_iload_n (pc := 62) dX5_state_62 rfl 3 rfl ?_
            refine P_callVv (Y' := mX4_playFromStart) (as := [_]) (pc := 63) dX5_state_63 rfl (by decide : 4 < 5) sC_3 rfl ml_RX5_124 im_X4_playFromStart se_X4_playFromStart mk_X4_playFromStart (Nat.le_of_ble_eq_true rfl) (c_pfsR hR1 hS1 (by omega)) (fun μ_ hq => ?_)
            obtain ⟨hR2, hsim⟩ := hq
            skip
            obtain ⟨wn, rfl⟩ := Int.eq_ofNat_of_zero_le (show 0 ≤ w by omega)
            refine P_aload_n (pc := 66) dX5_state_66 rfl 0 rfl ?_
            refine P_getR (pc := 67) dX5_state_67 fa_RX5_24 sC_0 fC0_2 ?_
            refine P_iload_n (pc := 70) dX5_state_70 rfl 1 rfl ?_
            refine P_iload_n (pc := 71) dX5_state_71 rfl 2 rfl ?_
            refine P_callVi (Y' := mX4_degree) (as := [_, _]) (pc := 72) dX5_state_72 rfl (by decide : 0 < 5) sC_3 rfl ml_RX5_128 im_X4_degree se_X4_degree mk_X4_degree (Nat.le_of_ble_eq_true rfl) (c_X4_degree (b := 0) (w := wn) (d := simX (kd ν.1) (wn : Int) q 0 13 t) (s := simX (kd ν.1) (wn : Int) q 0 14 t) (by decide) (by omega) (by omega) ((hsim wn (by omega)).1 t (by omega) (show t < ν.1 0 11 by omega)).1) (fun z_ μ_ hq => ?_)
            obtain ⟨hz2, hμ_⟩ := hq
            subst hμ_
            skip
            exact P_iret (pc := 75) dX5_state_75 rfl (QI.mk (by
                  have e : whyS ν.1 (wn : Int) t q = 0 := by
                    unfold whyS
                    repeat (first | rw [if_pos (by omega)] | rw [if_neg (by omega)])
                  rw [e]
                  exact ⟨by rw [if_pos rfl]; exact hz2, by rw [refW_0]; exact hR2⟩))
          · refine P_aload_n (pc := 44) dX5_state_44 rfl 0 rfl ?_
            refine P_bipush (pc := 45) dX5_state_45 (by decide) ?_
            refine P_callVi (Y' := mX5_refuse) (as := [_]) (pc := 47) dX5_state_47 rfl (by decide : 0 < 5) sC_0 rfl ml_RX5_67 im_X5_refuse se_X5_refuse mk_X5_refuse (Nat.le_of_ble_eq_true rfl) (c_X5_refuse h hn (by omega)) (fun z_ μ_ hq => ?_)
            obtain ⟨hzr, hRr⟩ := hq
            skip
            exact P_iret (pc := 50) dX5_state_50 rfl (QI.mk (by
                  have e : whyS ν.1 w t q = -6 := by
                    unfold whyS
                    repeat (first | rw [if_pos (by omega)] | rw [if_neg (by omega)])
                  rw [e]
                  exact ⟨by rw [if_neg (by decide)]; exact hzr, by rw [refW_n (by decide)]; exact hRr⟩))
      · refine P_aload_n (pc := 25) dX5_state_25 rfl 0 rfl ?_
        refine P_bipush (pc := 26) dX5_state_26 (by decide) ?_
        refine P_callVi (Y' := mX5_refuse) (as := [_]) (pc := 28) dX5_state_28 rfl (by decide : 0 < 5) sC_0 rfl ml_RX5_67 im_X5_refuse se_X5_refuse mk_X5_refuse (Nat.le_of_ble_eq_true rfl) (c_X5_refuse h hn (by omega)) (fun z_ μ_ hq => ?_)
        obtain ⟨hzr, hRr⟩ := hq
        skip
        exact P_iret (pc := 31) dX5_state_31 rfl (QI.mk (by
              have e : whyS ν.1 w t q = -4 := by
                unfold whyS
                repeat (first | rw [if_pos (by omega)] | rw [if_neg (by omega)])
              rw [e]
              exact ⟨by rw [if_neg (by decide)]; exact hzr, by rw [refW_n (by decide)]; exact hRr⟩))
  · refine P_aload_n (pc := 11) dX5_state_11 rfl 0 rfl ?_
    refine P_iconst (pc := 12) dX5_state_12 ?_
    refine P_callVi (Y' := mX5_refuse) (as := [_]) (pc := 13) dX5_state_13 rfl (by decide : 0 < 5) sC_0 rfl ml_RX5_67 im_X5_refuse se_X5_refuse mk_X5_refuse (Nat.le_of_ble_eq_true rfl) (c_X5_refuse h hn (by omega)) (fun z_ μ_ hq => ?_)
    obtain ⟨hzr, hRr⟩ := hq
    skip
    exact P_iret (pc := 16) dX5_state_16 rfl (QI.mk (by
          have e : whyS ν.1 w t q = -1 := by
            unfold whyS
            repeat (first | rw [if_pos (by omega)] | rw [if_neg (by omega)])
          rw [e]
          exact ⟨by rw [if_neg (by decide)]; exact hzr, by rw [refW_n (by decide)]; exact hRr⟩))
set_option maxHeartbeats 1000000 in
set_option maxRecDepth 100000 in
theorem l_X5_when {μ : Mem} {K : Cel} {wn : Nat} {t : Int} (hK : KOK K) (hS : SI K μ 0) (hw : wn < 64) (ht : 0 ≤ t ∧ t < K 0 11) : ∀ (m j : Nat), j ≤ 48 → 48 - j < m → PW shC 5 mX5_when 50 [(0, vr 0), (1, vi (wn : Int)), (2, vi t), (3, vi (j : Int))] [] μ (QI (fun z μ' => z = whenX K (wn : Int) t (48 - j) j ∧ μ' = μ)) := by
  intro m
  induction m with
  | zero => intro j _ q; omega
  | succ m ih =>
  intro j hj hm
  have hK1 := hK.1
  have hbt : j < 48 → (μ.2 (23 + 7 * 0) ((j : Int) * 12 + t)).getLsbD wn = decide (1 ≤ simX K (wn : Int) (j : Int) 0 13 t) := fun q => hS.2 (j : Int) t wn (by omega) (by omega) ht.1 ht.2 hw
  have hst : j < 48 → whenX K (wn : Int) t (48 - j) j = if 0 < simX K (wn : Int) (j : Int) 0 13 t then (j : Int) else whenX K (wn : Int) t (48 - (j + 1)) (j + 1) := fun q => by
    rw [show 48 - j = (48 - (j + 1)) + 1 by omega]
    rfl
  refine P_iload_n (pc := 50) dX5_when_50 rfl 3 rfl ?_
  refine P_bipush (pc := 51) dX5_when_51 (by decide) ?_
  refine P_icmp_ge (tgt := 82) (pc := 53) dX5_when_53 (by decide) (by first | assumption | (unfold InR; omega)) (by first | assumption | (unfold InR; omega)) (fun c_53 => ?_) (fun c_53 => ?_)
  · refine P_bipush (pc := 82) dX5_when_82 (by decide) ?_
    exact P_iret (pc := 84) dX5_when_84 rfl (QI.mk (by
          have e9 : j = 48 := by omega
          subst e9
          exact ⟨rfl, rfl⟩))
  · refine P_aload_n (pc := 56) dX5_when_56 rfl 0 rfl ?_
    refine P_getR (pc := 57) dX5_when_57 fa_RX5_24 sC_0 fC0_2 ?_
    refine P_iload_n (pc := 60) dX5_when_60 rfl 2 rfl ?_
    refine P_iload_n (pc := 61) dX5_when_61 rfl 3 rfl ?_
    refine P_callVl (Y' := mX4_uncleanAt) (as := [_, _]) (pc := 62) dX5_when_62 rfl (by decide : 0 < 5) sC_3 rfl ml_RX5_131 im_X4_uncleanAt se_X4_uncleanAt mk_X4_uncleanAt (Nat.le_of_ble_eq_true rfl) (c_X4_uncleanAt (b := 0) (by decide) (by omega) (by omega)) (fun z_ μ_ hq => ?_)
    obtain ⟨hz, hμ_⟩ := hq
    have hμ_ := hμ_.symm
    subst hμ_
    subst hz
    skip
    refine P_iload_n (pc := 65) dX5_when_65 rfl 1 rfl ?_
    refine P_lushr (pc := 66) dX5_when_66 (by omega) (by omega) ?_
    refine P_lconst (b := 1#64) (pc := 67) dX5_when_67 rfl ?_
    refine P_land (pc := 68) dX5_when_68 ?_
    refine P_lconst (b := 1#64) (pc := 69) dX5_when_69 rfl ?_
    refine P_lcmp_ne (tgt := 76) (pc := 70) dX5_when_70 dX5_when_71 (by decide) (fun c_70 => ?_) (fun c_70 => ?_)
    · refine P_iinc (L' := [(3, vi _), (0, vr 0), (1, vi _), (2, vi _)]) (pc := 76) dX5_when_76 (by decide) 3 rfl rfl ?_
      refine P_goto (tgt := 50) (pc := 79) dX5_when_79 (by decide) ?_
      refine P_sub (L' := [(0, vr 0), (1, vi _), (2, vi _), (3, vi _)]) [1, 2, 3, 0] rfl ?_
      have hb0 : ¬ 0 < simX K (wn : Int) (j : Int) 0 13 t := fun q => by
        have := hbt (by omega)
        rw [decide_eq_true (by omega)] at this
        exact c_70 (bit1.mpr this)
      rw [hst (by omega), if_neg hb0]
      exact P_cast (L' := [(0, vr 0), (1, vi (wn : Int)), (2, vi t), (3, vi ((j + 1 : Nat) : Int))]) rfl rfl (ih (j + 1) (by omega) (by omega))
    · refine P_iload_n (pc := 74) dX5_when_74 rfl 3 rfl ?_
      exact P_iret (pc := 75) dX5_when_75 rfl (QI.mk (by
            refine ⟨?_, rfl⟩
            rw [hst (by omega), if_pos (by have hbb : (μ.2 (23 + 7 * 0) ((j : Int) * 12 + t)).getLsbD wn = true := bit1.mp c_70; have := hbt (by omega); rw [hbb] at this; have := of_decide_eq_true this.symm; omega)]))
set_option maxHeartbeats 1000000 in
set_option maxRecDepth 100000 in
theorem c_X5_when {n : Int} {μ ν : Mem} {w t : Int} (h : RLN n μ ν) (hn : n < 2147483648) (hw : InR w) (ht : InR t) : PC shC 5 mX5_when [vr 0, vi w, vi t] (μ) (QI (fun z μ' => z = (if whyW ν.1 w t = 0 then whenX (kd ν.1) w t 48 0 else whyW ν.1 w t) ∧ RLN n μ' (refW ν (whyW ν.1 w t)))) := by
  refine PC.of (by decide +kernel) (Nat.le_of_ble_eq_true rfl) ?_
  refine P_sub (L' := [(0, vr 0), (1, vi w), (2, vi t)]) [0, 1, 2] rfl ?_
  have h6 := RL_6 h
  have h7 := RL_7 h
  refine P_aload_n (pc := 0) dX5_when_0 rfl 0 rfl ?_
  refine P_getR (pc := 1) dX5_when_1 fa_RX5_12 sC_0 fC0_0 ?_
  refine P_iload_n (pc := 4) dX5_when_4 rfl 2 rfl ?_
  refine P_callVi (Y' := mX3_isThere) (as := [_]) (pc := 5) dX5_when_5 rfl (by decide : 0 < 5) sC_1 rfl ml_RX5_90 im_X3_isThere se_X3_isThere mk_X3_isThere (Nat.le_of_ble_eq_true rfl) (c_X3_isThere ht (by unfold InR; omega)) (fun z_ μ_ hq => ?_)
  obtain ⟨hz, hμ_⟩ := hq
  have hμ_ := hμ_.symm
  subst hμ_
  rw [h6.1] at hz
  have hz := ite01 hz
  skip
  refine P_if_ne (tgt := 17) (pc := 8) dX5_when_8 (by decide) (by first | assumption | (unfold InR; omega)) (fun c_8 => ?_) (fun c_8 => ?_)
  · refine P_iload_n (pc := 17) dX5_when_17 rfl 1 rfl ?_
    refine P_if_ge (tgt := 28) (pc := 18) dX5_when_18 (by decide) (by first | assumption | (unfold InR; omega)) (fun c_18 => ?_) (fun c_18 => ?_)
    · refine P_iload_n (pc := 28) dX5_when_28 rfl 1 rfl ?_
      refine P_bipush (pc := 29) dX5_when_29 (by decide) ?_
      refine P_icmp_lt (tgt := 41) (pc := 31) dX5_when_31 (by decide) (by first | assumption | (unfold InR; omega)) (by first | assumption | (unfold InR; omega)) (fun c_31 => ?_) (fun c_31 => ?_)
      · refine P_aload_n (pc := 41) dX5_when_41 rfl 0 rfl ?_
        refine P_getR (pc := 42) dX5_when_42 fa_RX5_24 sC_0 fC0_2 ?_
        refine P_callVv (Y' := mX4_refresh) (as := []) (pc := 45) dX5_when_45 rfl (by decide : 4 < 5) sC_3 rfl ml_RX5_121 im_X4_refresh se_X4_refresh mk_X4_refresh (Nat.le_of_ble_eq_true rfl) (c_ref0 h hn) (fun μ_ hq => ?_)
        obtain ⟨hR1, hS1⟩ := hq
        skip
        refine P_iconst (pc := 48) dX5_when_48 ?_
        refine P_istore_n (L' := [(3, vi _), (0, vr 0), (1, vi _), (2, vi _)]) (pc := 49) dX5_when_49 rfl (by decide) rfl ?_
        refine P_sub (L' := [(0, vr 0), (1, vi _), (2, vi _), (3, vi _)]) [1, 2, 3, 0] rfl ?_
        obtain ⟨wn, rfl⟩ := Int.eq_ofNat_of_zero_le (show 0 ≤ w by omega)
        have e : whyW ν.1 (wn : Int) t = 0 := by
          unfold whyW
          repeat (first | rw [if_pos (by omega)] | rw [if_neg (by omega)])
        rw [e]
        refine P_post (fun r μ' hq => ?_) (l_X5_when (K := kd ν.1) (wn := wn) h.1.1.1 hS1 (by omega) ⟨by omega, show t < ν.1 0 11 by omega⟩ 49 0 (by omega) (by omega))
        obtain ⟨z, e1, q1, q2⟩ := hq
        subst q2
        exact ⟨z, e1, by rw [if_pos rfl]; exact q1, by rw [refW_0]; exact hR1⟩
      · refine P_aload_n (pc := 34) dX5_when_34 rfl 0 rfl ?_
        refine P_bipush (pc := 35) dX5_when_35 (by decide) ?_
        refine P_callVi (Y' := mX5_refuse) (as := [_]) (pc := 37) dX5_when_37 rfl (by decide : 0 < 5) sC_0 rfl ml_RX5_67 im_X5_refuse se_X5_refuse mk_X5_refuse (Nat.le_of_ble_eq_true rfl) (c_X5_refuse h hn (by omega)) (fun z_ μ_ hq => ?_)
        obtain ⟨hzr, hRr⟩ := hq
        skip
        exact P_iret (pc := 40) dX5_when_40 rfl (QI.mk (by
              have e : whyW ν.1 w t = -6 := by
                unfold whyW
                repeat (first | rw [if_pos (by omega)] | rw [if_neg (by omega)])
              rw [e]
              exact ⟨by rw [if_neg (by decide)]; exact hzr, by rw [refW_n (by decide)]; exact hRr⟩))
    · refine P_aload_n (pc := 21) dX5_when_21 rfl 0 rfl ?_
      refine P_bipush (pc := 22) dX5_when_22 (by decide) ?_
      refine P_callVi (Y' := mX5_refuse) (as := [_]) (pc := 24) dX5_when_24 rfl (by decide : 0 < 5) sC_0 rfl ml_RX5_67 im_X5_refuse se_X5_refuse mk_X5_refuse (Nat.le_of_ble_eq_true rfl) (c_X5_refuse h hn (by omega)) (fun z_ μ_ hq => ?_)
      obtain ⟨hzr, hRr⟩ := hq
      skip
      exact P_iret (pc := 27) dX5_when_27 rfl (QI.mk (by
            have e : whyW ν.1 w t = -4 := by
              unfold whyW
              repeat (first | rw [if_pos (by omega)] | rw [if_neg (by omega)])
            rw [e]
            exact ⟨by rw [if_neg (by decide)]; exact hzr, by rw [refW_n (by decide)]; exact hRr⟩))
  · refine P_aload_n (pc := 11) dX5_when_11 rfl 0 rfl ?_
    refine P_iconst (pc := 12) dX5_when_12 ?_
    refine P_callVi (Y' := mX5_refuse) (as := [_]) (pc := 13) dX5_when_13 rfl (by decide : 0 < 5) sC_0 rfl ml_RX5_67 im_X5_refuse se_X5_refuse mk_X5_refuse (Nat.le_of_ble_eq_true rfl) (c_X5_refuse h hn (by omega)) (fun z_ μ_ hq => ?_)
    obtain ⟨hzr, hRr⟩ := hq
    skip
    exact P_iret (pc := 16) dX5_when_16 rfl (QI.mk (by
          have e : whyW ν.1 w t = -1 := by
            unfold whyW
            repeat (first | rw [if_pos (by omega)] | rw [if_neg (by omega)])
          rw [e]
          exact ⟨by rw [if_neg (by decide)]; exact hzr, by rw [refW_n (by decide)]; exact hRr⟩))
set_option maxHeartbeats 1000000 in
set_option maxRecDepth 100000 in
theorem c_X5_rivals {n : Int} {μ ν : Mem} {q : Int} (h : RLN n μ ν) (hn : n < 2147483648) (hq0 : InR q) : PC shC 6 mX5_rivals [vr 0, vi q] (μ) (QI (fun z μ' => z = (if whyH q = 0 then (if leftN (kd ν.1) ν.1 0 = 0 then -9 else rivR (kd ν.1) ν.1 q 2 2) else whyH q) ∧ RLN n μ' (refW ν (whyH q)))) := by
  refine PC.of (by decide +kernel) (Nat.le_of_ble_eq_true rfl) ?_
  refine P_sub (L' := [(0, vr 0), (1, vi q)]) [0, 1] rfl ?_
  have h6 := RL_6 h
  have h7 := RL_7 h
  refine P_iload_n (pc := 0) dX5_rivals_0 rfl 1 rfl ?_
  refine P_if_ge (tgt := 11) (pc := 1) dX5_rivals_1 (by decide) (by first | assumption | (unfold InR; omega)) (fun c_1 => ?_) (fun c_1 => ?_)
  · refine P_iload_n (pc := 11) dX5_rivals_11 rfl 1 rfl ?_
    refine P_bipush (pc := 12) dX5_rivals_12 (by decide) ?_
    refine P_icmp_lt (tgt := 24) (pc := 14) dX5_rivals_14 (by decide) (by first | assumption | (unfold InR; omega)) (by first | assumption | (unfold InR; omega)) (fun c_14 => ?_) (fun c_14 => ?_)
    · refine P_aload_n (pc := 24) dX5_rivals_24 rfl 0 rfl ?_
      refine P_getR (pc := 25) dX5_rivals_25 fa_RX5_36 sC_0 fC0_4 ?_
      refine P_aload_n (pc := 28) dX5_rivals_28 rfl 0 rfl ?_
      refine P_getR (pc := 29) dX5_rivals_29 fa_RX5_36 sC_0 fC0_4 ?_
      refine P_callVl (Y' := mX0_left) (as := []) (pc := 32) dX5_rivals_32 rfl (by decide : 5 < 6) sC_5 rfl ml_RX5_139 im_X0_left se_X0_left mk_X0_left (Nat.le_of_ble_eq_true rfl) (c_left0 h hn) (fun z_ μ_ hq => ?_)
      obtain ⟨hR1, hS1, hL1⟩ := hq
      skip
      refine P_iload_n (pc := 35) dX5_rivals_35 rfl 1 rfl ?_
      refine P_callVi (Y' := mX0_fewestRivals) (as := [_, _]) (pc := 36) dX5_rivals_36 rfl (by decide : 3 < 6) sC_5 rfl ml_RX5_169 im_X0_fewestRivals se_X0_fewestRivals mk_X0_fewestRivals (Nat.le_of_ble_eq_true rfl) (c_X0_fewestRivals (b := 0) (by decide) h.1.1.1 hL1 hS1.2 (RL_6 hR1).1 (by omega)) (fun z_ μ_ hq => ?_)
      obtain ⟨hz2, hμ_⟩ := hq
      subst hμ_
      skip
      exact P_iret (pc := 39) dX5_rivals_39 rfl (QI.mk (by
            have e : whyH q = 0 := by
              unfold whyH
              repeat (first | rw [if_pos (by omega)] | rw [if_neg (by omega)])
            rw [e]
            exact ⟨by rw [if_pos rfl]; by_cases hl0 : leftN (kd ν.1) ν.1 0 = 0; (rw [if_pos hl0, hz2]; exact riv_0 hl0); (rw [if_neg hl0]; exact hz2), by rw [refW_0]; exact hR1⟩))
    · refine P_aload_n (pc := 17) dX5_rivals_17 rfl 0 rfl ?_
      refine P_bipush (pc := 18) dX5_rivals_18 (by decide) ?_
      refine P_callVi (Y' := mX5_refuse) (as := [_]) (pc := 20) dX5_rivals_20 rfl (by decide : 0 < 6) sC_0 rfl ml_RX5_67 im_X5_refuse se_X5_refuse mk_X5_refuse (Nat.le_of_ble_eq_true rfl) (c_X5_refuse h hn (by omega)) (fun z_ μ_ hq => ?_)
      obtain ⟨hzr, hRr⟩ := hq
      skip
      exact P_iret (pc := 23) dX5_rivals_23 rfl (QI.mk (by
            have e : whyH q = -6 := by
              unfold whyH
              repeat (first | rw [if_pos (by omega)] | rw [if_neg (by omega)])
            rw [e]
            exact ⟨by rw [if_neg (by decide)]; exact hzr, by rw [refW_n (by decide)]; exact hRr⟩))
  · refine P_aload_n (pc := 4) dX5_rivals_4 rfl 0 rfl ?_
    refine P_bipush (pc := 5) dX5_rivals_5 (by decide) ?_
    refine P_callVi (Y' := mX5_refuse) (as := [_]) (pc := 7) dX5_rivals_7 rfl (by decide : 0 < 6) sC_0 rfl ml_RX5_67 im_X5_refuse se_X5_refuse mk_X5_refuse (Nat.le_of_ble_eq_true rfl) (c_X5_refuse h hn (by omega)) (fun z_ μ_ hq => ?_)
    obtain ⟨hzr, hRr⟩ := hq
    skip
    exact P_iret (pc := 10) dX5_rivals_10 rfl (QI.mk (by
          have e : whyH q = -4 := by
            unfold whyH
            repeat (first | rw [if_pos (by omega)] | rw [if_neg (by omega)])
          rw [e]
          exact ⟨by rw [if_neg (by decide)]; exact hzr, by rw [refW_n (by decide)]; exact hRr⟩))
set_option maxHeartbeats 1000000 in
set_option maxRecDepth 100000 in
theorem c_X5_question {n : Int} {μ ν : Mem} {q w : Int} (h : RLN n μ ν) (hn : n < 2147483648) (hq0 : InR q) (hw : InR w) : PC shC 6 mX5_question [vr 0, vi q, vi w] (μ) (QI (fun z μ' => z = (if whyQ q w = 0 then (if nmK (kd ν.1) = 0 ∨ leftN (kd ν.1) ν.1 0 = 0 then -9 else if w = 0 then (quesN (kd ν.1) ν.1 q 6).1 else (quesN (kd ν.1) ν.1 q 6).2) else whyQ q w) ∧ RLN n μ' (refW ν (whyQ q w)))) := by
  refine PC.of (by decide +kernel) (Nat.le_of_ble_eq_true rfl) ?_
  refine P_sub (L' := [(0, vr 0), (1, vi q), (2, vi w)]) [0, 1, 2] rfl ?_
  have h6 := RL_6 h
  have h7 := RL_7 h
  refine P_iload_n (pc := 0) dX5_question_0 rfl 2 rfl ?_
  refine P_if_lt (tgt := 9) (pc := 1) dX5_question_1 (by decide) (by first | assumption | (unfold InR; omega)) (fun c_1 => ?_) (fun c_1 => ?_)
  · refine P_aload_n (pc := 9) dX5_question_9 rfl 0 rfl ?_
    refine P_bipush (pc := 10) dX5_question_10 (by decide) ?_
    refine P_callVi (Y' := mX5_refuse) (as := [_]) (pc := 12) dX5_question_12 rfl (by decide : 0 < 6) sC_0 rfl ml_RX5_67 im_X5_refuse se_X5_refuse mk_X5_refuse (Nat.le_of_ble_eq_true rfl) (c_X5_refuse h hn (by omega)) (fun z_ μ_ hq => ?_)
    obtain ⟨hzr, hRr⟩ := hq
    skip
    exact P_iret (pc := 15) dX5_question_15 rfl (QI.mk (by
          have e : whyQ q w = -2 := by
            unfold whyQ whyH
            repeat (first | rw [if_pos (by omega)] | rw [if_neg (by omega)])
          rw [e]
          exact ⟨by rw [if_neg (by decide)]; exact hzr, by rw [refW_n (by decide)]; exact hRr⟩))
  · refine P_iload_n (pc := 4) dX5_question_4 rfl 2 rfl ?_
    refine P_iconst (pc := 5) dX5_question_5 ?_
    refine P_icmp_le (tgt := 16) (pc := 6) dX5_question_6 (by decide) (by first | assumption | (unfold InR; omega)) (by first | assumption | (unfold InR; omega)) (fun c_6 => ?_) (fun c_6 => ?_)
    · refine P_iload_n (pc := 16) dX5_question_16 rfl 1 rfl ?_
      refine P_if_ge (tgt := 27) (pc := 17) dX5_question_17 (by decide) (by first | assumption | (unfold InR; omega)) (fun c_17 => ?_) (fun c_17 => ?_)
      · refine P_iload_n (pc := 27) dX5_question_27 rfl 1 rfl ?_
        refine P_bipush (pc := 28) dX5_question_28 (by decide) ?_
        refine P_icmp_lt (tgt := 40) (pc := 30) dX5_question_30 (by decide) (by first | assumption | (unfold InR; omega)) (by first | assumption | (unfold InR; omega)) (fun c_30 => ?_) (fun c_30 => ?_)
        · refine P_aload_n (pc := 40) dX5_question_40 rfl 0 rfl ?_
          refine P_getR (pc := 41) dX5_question_41 fa_RX5_36 sC_0 fC0_4 ?_
          refine P_aload_n (pc := 44) dX5_question_44 rfl 0 rfl ?_
          refine P_getR (pc := 45) dX5_question_45 fa_RX5_36 sC_0 fC0_4 ?_
          refine P_callVl (Y' := mX0_left) (as := []) (pc := 48) dX5_question_48 rfl (by decide : 5 < 6) sC_5 rfl ml_RX5_139 im_X0_left se_X0_left mk_X0_left (Nat.le_of_ble_eq_true rfl) (c_left0 h hn) (fun z_ μ_ hq => ?_)
          obtain ⟨hR1, hS1, hL1⟩ := hq
          skip
          refine P_iload_n (pc := 51) dX5_question_51 rfl 1 rfl ?_
          refine P_iload_n (pc := 52) dX5_question_52 rfl 2 rfl ?_
          refine P_callVi (Y' := mX0_bestQuestion) (as := [_, _, _]) (pc := 53) dX5_question_53 rfl (by decide : 4 < 6) sC_5 rfl ml_RX5_173 im_X0_bestQuestion se_X0_bestQuestion mk_X0_bestQuestion (Nat.le_of_ble_eq_true rfl) (c_X0_bestQuestion (b := 0) (by decide) h.1.1.1 hL1 hS1.2 hR1.1.2.2.2.1 (by omega) (by omega)) (fun z_ μ_ hq => ?_)
          obtain ⟨hz2, hμ_⟩ := hq
          subst hμ_
          skip
          exact P_iret (pc := 56) dX5_question_56 rfl (QI.mk (by
                have e : whyQ q w = 0 := by
                  unfold whyQ whyH
                  repeat (first | rw [if_pos (by omega)] | rw [if_neg (by omega)])
                rw [e]
                exact ⟨by rw [if_pos rfl]; exact hz2, by rw [refW_0]; exact hR1⟩))
        · refine P_aload_n (pc := 33) dX5_question_33 rfl 0 rfl ?_
          refine P_bipush (pc := 34) dX5_question_34 (by decide) ?_
          refine P_callVi (Y' := mX5_refuse) (as := [_]) (pc := 36) dX5_question_36 rfl (by decide : 0 < 6) sC_0 rfl ml_RX5_67 im_X5_refuse se_X5_refuse mk_X5_refuse (Nat.le_of_ble_eq_true rfl) (c_X5_refuse h hn (by omega)) (fun z_ μ_ hq => ?_)
          obtain ⟨hzr, hRr⟩ := hq
          skip
          exact P_iret (pc := 39) dX5_question_39 rfl (QI.mk (by
                have e : whyQ q w = -6 := by
                  unfold whyQ whyH
                  repeat (first | rw [if_pos (by omega)] | rw [if_neg (by omega)])
                rw [e]
                exact ⟨by rw [if_neg (by decide)]; exact hzr, by rw [refW_n (by decide)]; exact hRr⟩))
      · refine P_aload_n (pc := 20) dX5_question_20 rfl 0 rfl ?_
        refine P_bipush (pc := 21) dX5_question_21 (by decide) ?_
        refine P_callVi (Y' := mX5_refuse) (as := [_]) (pc := 23) dX5_question_23 rfl (by decide : 0 < 6) sC_0 rfl ml_RX5_67 im_X5_refuse se_X5_refuse mk_X5_refuse (Nat.le_of_ble_eq_true rfl) (c_X5_refuse h hn (by omega)) (fun z_ μ_ hq => ?_)
        obtain ⟨hzr, hRr⟩ := hq
        skip
        exact P_iret (pc := 26) dX5_question_26 rfl (QI.mk (by
              have e : whyQ q w = -4 := by
                unfold whyQ whyH
                repeat (first | rw [if_pos (by omega)] | rw [if_neg (by omega)])
              rw [e]
              exact ⟨by rw [if_neg (by decide)]; exact hzr, by rw [refW_n (by decide)]; exact hRr⟩))
    · refine P_aload_n (pc := 9) dX5_question_9 rfl 0 rfl ?_
      refine P_bipush (pc := 10) dX5_question_10 (by decide) ?_
      refine P_callVi (Y' := mX5_refuse) (as := [_]) (pc := 12) dX5_question_12 rfl (by decide : 0 < 6) sC_0 rfl ml_RX5_67 im_X5_refuse se_X5_refuse mk_X5_refuse (Nat.le_of_ble_eq_true rfl) (c_X5_refuse h hn (by omega)) (fun z_ μ_ hq => ?_)
      obtain ⟨hzr, hRr⟩ := hq
      skip
      exact P_iret (pc := 15) dX5_question_15 rfl (QI.mk (by
            have e : whyQ q w = -2 := by
              unfold whyQ whyH
              repeat (first | rw [if_pos (by omega)] | rw [if_neg (by omega)])
            rw [e]
            exact ⟨by rw [if_neg (by decide)]; exact hzr, by rw [refW_n (by decide)]; exact hRr⟩))
set_option maxHeartbeats 1000000 in
set_option maxRecDepth 100000 in
theorem c_X5_washing {n : Int} {μ ν : Mem} {q th : Int} (h : RLN n μ ν) (hn : n < 2147483648) (hq0 : InR q) (hth : InR th) : PC shC 6 mX5_washing [vr 0, vi q, vi th] (μ) (QI (fun z μ' => z = (if whyWs ν.1 q th = 0 then (if leftN (kd ν.1) ν.1 0 = 0 then -9 else wbestN (kd ν.1) ν.1 q th.toNat (2 ^ (if kd ν.1 0 11 < 8 then (kd ν.1 0 11).toNat else 8))) else whyWs ν.1 q th) ∧ RLN n μ' (refW ν (whyWs ν.1 q th)))) := by
  refine PC.of (by decide +kernel) (Nat.le_of_ble_eq_true rfl) ?_
  refine P_sub (L' := [(0, vr 0), (1, vi q), (2, vi th)]) [0, 1, 2] rfl ?_
  have h6 := RL_6 h
  have h7 := RL_7 h
  refine P_iload_n (pc := 0) dX5_washing_0 rfl 1 rfl ?_
  refine P_if_lt (tgt := 8) (pc := 1) dX5_washing_1 (by decide) (by first | assumption | (unfold InR; omega)) (fun c_1 => ?_) (fun c_1 => ?_)
  · refine P_aload_n (pc := 8) dX5_washing_8 rfl 0 rfl ?_
    refine P_bipush (pc := 9) dX5_washing_9 (by decide) ?_
    refine P_callVi (Y' := mX5_refuse) (as := [_]) (pc := 11) dX5_washing_11 rfl (by decide : 0 < 6) sC_0 rfl ml_RX5_67 im_X5_refuse se_X5_refuse mk_X5_refuse (Nat.le_of_ble_eq_true rfl) (c_X5_refuse h hn (by omega)) (fun z_ μ_ hq => ?_)
    obtain ⟨hzr, hRr⟩ := hq
    skip
    exact P_iret (pc := 14) dX5_washing_14 rfl (QI.mk (by
          have e : whyWs ν.1 q th = -4 := by
            unfold whyWs
            repeat (first | rw [if_pos (by omega)] | rw [if_neg (by omega)])
          rw [e]
          exact ⟨by rw [if_neg (by decide)]; exact hzr, by rw [refW_n (by decide)]; exact hRr⟩))
  · refine P_iload_n (pc := 4) dX5_washing_4 rfl 2 rfl ?_
    refine P_if_ge (tgt := 15) (pc := 5) dX5_washing_5 (by decide) (by first | assumption | (unfold InR; omega)) (fun c_5 => ?_) (fun c_5 => ?_)
    · refine P_aload_n (pc := 15) dX5_washing_15 rfl 0 rfl ?_
      refine P_getR (pc := 16) dX5_washing_16 fa_RX5_12 sC_0 fC0_0 ?_
      refine P_iload_n (pc := 19) dX5_washing_19 rfl 2 rfl ?_
      refine P_callVi (Y' := mX3_areThere) (as := [_]) (pc := 20) dX5_washing_20 rfl (by decide : 0 < 6) sC_1 rfl ml_RX5_179 im_X3_areThere se_X3_areThere mk_X3_areThere (Nat.le_of_ble_eq_true rfl) (c_X3_areThere (by omega) (by omega) hth) (fun z_ μ_ hq => ?_)
      obtain ⟨hz, hμ_⟩ := hq
      have hμ_ := hμ_.symm
      subst hμ_
      rw [h6.1] at hz
      have hz := ite01 hz
      skip
      refine P_if_ne (tgt := 32) (pc := 23) dX5_washing_23 (by decide) (by first | assumption | (unfold InR; omega)) (fun c_23 => ?_) (fun c_23 => ?_)
      · refine P_iload_n (pc := 32) dX5_washing_32 rfl 1 rfl ?_
        refine P_bipush (pc := 33) dX5_washing_33 (by decide) ?_
        refine P_icmp_lt (tgt := 45) (pc := 35) dX5_washing_35 (by decide) (by first | assumption | (unfold InR; omega)) (by first | assumption | (unfold InR; omega)) (fun c_35 => ?_) (fun c_35 => ?_)
        · refine P_aload_n (pc := 45) dX5_washing_45 rfl 0 rfl ?_
          refine P_getR (pc := 46) dX5_washing_46 fa_RX5_46 sC_0 fC0_6 ?_
          refine P_iload_n (pc := 49) dX5_washing_49 rfl 1 rfl ?_
          refine P_iload_n (pc := 50) dX5_washing_50 rfl 2 rfl ?_
          refine P_aload_n (pc := 51) dX5_washing_51 rfl 0 rfl ?_
          refine P_getR (pc := 52) dX5_washing_52 fa_RX5_36 sC_0 fC0_4 ?_
          refine P_callVl (Y' := mX0_left) (as := []) (pc := 55) dX5_washing_55 rfl (by decide : 5 < 6) sC_5 rfl ml_RX5_139 im_X0_left se_X0_left mk_X0_left (Nat.le_of_ble_eq_true rfl) (c_left0 h hn) (fun z_ μ_ hq => ?_)
          obtain ⟨hR1, hS1, hL1⟩ := hq
          have hst := RL_sti hR1 (show 0 < 2 by decide)
          obtain ⟨tn, rfl⟩ := Int.eq_ofNat_of_zero_le (show 0 ≤ th by omega)
          have hdl : tn < 2 ^ (ν.1 0 11).toNat := div_lt (by omega)
          skip
          refine P_callVi (Y' := mX2_fewestWashes) (as := [_, _, _]) (pc := 58) dX5_washing_58 rfl (by decide : 5 < 6) sC_7 rfl ml_RX5_182 im_X2_fewestWashes se_X2_fewestWashes mk_X2_fewestWashes (Nat.le_of_ble_eq_true rfl) (c_X2_fewestWashes hR1.1.2.2.2.1 h.1.1.1 h.1.1.2.1 hS1.1 hst.1 (by omega) hdl hL1 hst.2.1) (fun z_ μ_ hq => ?_)
          obtain ⟨hz2, hf⟩ := hq
          skip
          exact P_iret (pc := 61) dX5_washing_61 rfl (QI.mk (by
                have e : whyWs ν.1 q (tn : Int) = 0 := by
                  unfold whyWs
                  repeat (first | rw [if_pos (by omega)] | rw [if_neg (by omega)])
                rw [e]
                exact ⟨by rw [if_pos rfl]; exact hz2, by rw [refW_0]; exact RL_fsp hR1 hf⟩))
        · refine P_aload_n (pc := 38) dX5_washing_38 rfl 0 rfl ?_
          refine P_bipush (pc := 39) dX5_washing_39 (by decide) ?_
          refine P_callVi (Y' := mX5_refuse) (as := [_]) (pc := 41) dX5_washing_41 rfl (by decide : 0 < 6) sC_0 rfl ml_RX5_67 im_X5_refuse se_X5_refuse mk_X5_refuse (Nat.le_of_ble_eq_true rfl) (c_X5_refuse h hn (by omega)) (fun z_ μ_ hq => ?_)
          obtain ⟨hzr, hRr⟩ := hq
          skip
          exact P_iret (pc := 44) dX5_washing_44 rfl (QI.mk (by
                have e : whyWs ν.1 q th = -6 := by
                  unfold whyWs
                  repeat (first | rw [if_pos (by omega)] | rw [if_neg (by omega)])
                rw [e]
                exact ⟨by rw [if_neg (by decide)]; exact hzr, by rw [refW_n (by decide)]; exact hRr⟩))
      · refine P_aload_n (pc := 26) dX5_washing_26 rfl 0 rfl ?_
        refine P_iconst (pc := 27) dX5_washing_27 ?_
        refine P_callVi (Y' := mX5_refuse) (as := [_]) (pc := 28) dX5_washing_28 rfl (by decide : 0 < 6) sC_0 rfl ml_RX5_67 im_X5_refuse se_X5_refuse mk_X5_refuse (Nat.le_of_ble_eq_true rfl) (c_X5_refuse h hn (by omega)) (fun z_ μ_ hq => ?_)
        obtain ⟨hzr, hRr⟩ := hq
        skip
        exact P_iret (pc := 31) dX5_washing_31 rfl (QI.mk (by
              have e : whyWs ν.1 q th = -1 := by
                unfold whyWs
                repeat (first | rw [if_pos (by omega)] | rw [if_neg (by omega)])
              rw [e]
              exact ⟨by rw [if_neg (by decide)]; exact hzr, by rw [refW_n (by decide)]; exact hRr⟩))
    · refine P_aload_n (pc := 8) dX5_washing_8 rfl 0 rfl ?_
      refine P_bipush (pc := 9) dX5_washing_9 (by decide) ?_
      refine P_callVi (Y' := mX5_refuse) (as := [_]) (pc := 11) dX5_washing_11 rfl (by decide : 0 < 6) sC_0 rfl ml_RX5_67 im_X5_refuse se_X5_refuse mk_X5_refuse (Nat.le_of_ble_eq_true rfl) (c_X5_refuse h hn (by omega)) (fun z_ μ_ hq => ?_)
      obtain ⟨hzr, hRr⟩ := hq
      skip
      exact P_iret (pc := 14) dX5_washing_14 rfl (QI.mk (by
            have e : whyWs ν.1 q th = -4 := by
              unfold whyWs
              repeat (first | rw [if_pos (by omega)] | rw [if_neg (by omega)])
            rw [e]
            exact ⟨by rw [if_neg (by decide)]; exact hzr, by rw [refW_n (by decide)]; exact hRr⟩))
set_option maxHeartbeats 1000000 in
set_option maxRecDepth 100000 in
theorem c_X5_cooking {n : Int} {μ ν : Mem} {th : Int} (h : RLN n μ ν) (hn : n < 2147483648) (hth : InR th) : PC shC 10 mX5_cooking [vr 0, vi th] (μ) (QI (fun z μ' => z = (if whyC ν.1 th = 0 then (if leftN (kd ν.1) ν.1 0 = 0 then -9 else cooN (kd ν.1) ν.1 ν.1 th.toNat (ν.1 0 37).toNat (prmS (ν.1 0 37).toNat)) else whyC ν.1 th) ∧ RLN n μ' (refW ν (whyC ν.1 th)))) := by
  refine PC.of (by decide +kernel) (Nat.le_of_ble_eq_true rfl) ?_
  refine P_sub (L' := [(0, vr 0), (1, vi th)]) [0, 1] rfl ?_
  have h6 := RL_6 h
  have h7 := RL_7 h
  refine P_iload_n (pc := 0) dX5_cooking_0 rfl 1 rfl ?_
  refine P_if_ge (tgt := 11) (pc := 1) dX5_cooking_1 (by decide) (by first | assumption | (unfold InR; omega)) (fun c_1 => ?_) (fun c_1 => ?_)
  · refine P_aload_n (pc := 11) dX5_cooking_11 rfl 0 rfl ?_
    refine P_getR (pc := 12) dX5_cooking_12 fa_RX5_12 sC_0 fC0_0 ?_
    refine P_iload_n (pc := 15) dX5_cooking_15 rfl 1 rfl ?_
    refine P_callVi (Y' := mX3_areThere) (as := [_]) (pc := 16) dX5_cooking_16 rfl (by decide : 0 < 10) sC_1 rfl ml_RX5_179 im_X3_areThere se_X3_areThere mk_X3_areThere (Nat.le_of_ble_eq_true rfl) (c_X3_areThere (by omega) (by omega) hth) (fun z_ μ_ hq => ?_)
    obtain ⟨hz, hμ_⟩ := hq
    have hμ_ := hμ_.symm
    subst hμ_
    rw [h6.1] at hz
    have hz := ite01 hz
    skip
    refine P_if_ne (tgt := 28) (pc := 19) dX5_cooking_19 (by decide) (by first | assumption | (unfold InR; omega)) (fun c_19 => ?_) (fun c_19 => ?_)
    · refine P_aload_n (pc := 28) dX5_cooking_28 rfl 0 rfl ?_
      refine P_getR (pc := 29) dX5_cooking_29 fa_RX5_46 sC_0 fC0_6 ?_
      refine P_iload_n (pc := 32) dX5_cooking_32 rfl 1 rfl ?_
      refine P_aload_n (pc := 33) dX5_cooking_33 rfl 0 rfl ?_
      refine P_getR (pc := 34) dX5_cooking_34 fa_RX5_36 sC_0 fC0_4 ?_
      refine P_callVl (Y' := mX0_left) (as := []) (pc := 37) dX5_cooking_37 rfl (by decide : 5 < 10) sC_5 rfl ml_RX5_139 im_X0_left se_X0_left mk_X0_left (Nat.le_of_ble_eq_true rfl) (c_left0 h hn) (fun z_ μ_ hq => ?_)
      obtain ⟨hR1, hS1, hL1⟩ := hq
      have hst := RL_sti hR1 (show 0 < 2 by decide)
      obtain ⟨tn, rfl⟩ := Int.eq_ofNat_of_zero_le (show 0 ≤ th by omega)
      have hdl : tn < 2 ^ (ν.1 0 11).toNat := div_lt (by omega)
      have hsr := SR_of hR1
      skip
      refine P_callVi (Y' := mX2_firstOrder) (as := [_, _]) (pc := 40) dX5_cooking_40 rfl (by decide : 9 < 10) sC_7 rfl ml_RX5_193 im_X2_firstOrder se_X2_firstOrder mk_X2_firstOrder (Nat.le_of_ble_eq_true rfl) (c_X2_firstOrder hR1.1.2.2.2.1 h.1.1.1 h.1.1.2.1 hS1.1 hst.1 hsr.1 hsr.2 hdl hL1 hst.2.1) (fun z_ μ_ hq => ?_)
      obtain ⟨hz2, hf⟩ := hq
      skip
      exact P_iret (pc := 43) dX5_cooking_43 rfl (QI.mk (by
            have e : whyC ν.1 (tn : Int) = 0 := by
              unfold whyC
              repeat (first | rw [if_pos (by omega)] | rw [if_neg (by omega)])
            rw [e]
            exact ⟨by rw [if_pos rfl]; exact hz2, by rw [refW_0]; exact RL_fsp hR1 hf⟩))
    · refine P_aload_n (pc := 22) dX5_cooking_22 rfl 0 rfl ?_
      refine P_iconst (pc := 23) dX5_cooking_23 ?_
      refine P_callVi (Y' := mX5_refuse) (as := [_]) (pc := 24) dX5_cooking_24 rfl (by decide : 0 < 10) sC_0 rfl ml_RX5_67 im_X5_refuse se_X5_refuse mk_X5_refuse (Nat.le_of_ble_eq_true rfl) (c_X5_refuse h hn (by omega)) (fun z_ μ_ hq => ?_)
      obtain ⟨hzr, hRr⟩ := hq
      skip
      exact P_iret (pc := 27) dX5_cooking_27 rfl (QI.mk (by
            have e : whyC ν.1 th = -1 := by
              unfold whyC
              repeat (first | rw [if_pos (by omega)] | rw [if_neg (by omega)])
            rw [e]
            exact ⟨by rw [if_neg (by decide)]; exact hzr, by rw [refW_n (by decide)]; exact hRr⟩))
  · refine P_aload_n (pc := 4) dX5_cooking_4 rfl 0 rfl ?_
    refine P_bipush (pc := 5) dX5_cooking_5 (by decide) ?_
    refine P_callVi (Y' := mX5_refuse) (as := [_]) (pc := 7) dX5_cooking_7 rfl (by decide : 0 < 10) sC_0 rfl ml_RX5_67 im_X5_refuse se_X5_refuse mk_X5_refuse (Nat.le_of_ble_eq_true rfl) (c_X5_refuse h hn (by omega)) (fun z_ μ_ hq => ?_)
    obtain ⟨hzr, hRr⟩ := hq
    skip
    exact P_iret (pc := 10) dX5_cooking_10 rfl (QI.mk (by
          have e : whyC ν.1 th = -4 := by
            unfold whyC
            repeat (first | rw [if_pos (by omega)] | rw [if_neg (by omega)])
          rw [e]
          exact ⟨by rw [if_neg (by decide)]; exact hzr, by rw [refW_n (by decide)]; exact hRr⟩))
set_option maxHeartbeats 1000000 in
set_option maxRecDepth 100000 in
theorem c_X5_ways {n : Int} {μ ν : Mem} {w : Int} (h : RLN n μ ν) (hn : n < 2147483648) (hw : InR w) : PC shC 6 mX5_ways [vr 0, vi w] (μ) (QI (fun z μ' => z = (if 0 ≤ w ∧ w ≤ 1 then (if w = 0 then 2 ^ cnt31 (nmK (kd ν.1)) else (leftN (kd ν.1) ν.1 0 : Int)) else -2) ∧ RLN n μ' (refW ν (if 0 ≤ w ∧ w ≤ 1 then 0 else -2)))) := by
  refine PC.of (by decide +kernel) (Nat.le_of_ble_eq_true rfl) ?_
  refine P_sub (L' := [(0, vr 0), (1, vi w)]) [0, 1] rfl ?_
  have h6 := RL_6 h
  have h7 := RL_7 h
  refine P_iload_n (pc := 0) dX5_ways_0 rfl 1 rfl ?_
  refine P_if_lt (tgt := 9) (pc := 1) dX5_ways_1 (by decide) (by first | assumption | (unfold InR; omega)) (fun c_1 => ?_) (fun c_1 => ?_)
  · refine P_aload_n (pc := 9) dX5_ways_9 rfl 0 rfl ?_
    refine P_bipush (pc := 10) dX5_ways_10 (by decide) ?_
    refine P_callVi (Y' := mX5_refuse) (as := [_]) (pc := 12) dX5_ways_12 rfl (by decide : 0 < 6) sC_0 rfl ml_RX5_67 im_X5_refuse se_X5_refuse mk_X5_refuse (Nat.le_of_ble_eq_true rfl) (c_X5_refuse h hn (by omega)) (fun z_ μ_ hq => ?_)
    obtain ⟨hzr, hRr⟩ := hq
    skip
    exact P_iret (pc := 15) dX5_ways_15 rfl (QI.mk (by
          rw [if_neg (show ¬ (0 ≤ w ∧ w ≤ 1) by omega)]
          exact ⟨hzr, by rw [if_neg (show ¬ (0 ≤ w ∧ w ≤ 1) by omega), refW_n (by decide)]; exact hRr⟩))
  · refine P_iload_n (pc := 4) dX5_ways_4 rfl 1 rfl ?_
    refine P_iconst (pc := 5) dX5_ways_5 ?_
    refine P_icmp_le (tgt := 16) (pc := 6) dX5_ways_6 (by decide) (by first | assumption | (unfold InR; omega)) (by first | assumption | (unfold InR; omega)) (fun c_6 => ?_) (fun c_6 => ?_)
    · refine P_iload_n (pc := 16) dX5_ways_16 rfl 1 rfl ?_
      refine P_if_ne (tgt := 30) (pc := 17) dX5_ways_17 (by decide) (by first | assumption | (unfold InR; omega)) (fun c_17 => ?_) (fun c_17 => ?_)
      · refine P_aload_n (pc := 30) dX5_ways_30 rfl 0 rfl ?_
        refine P_getR (pc := 31) dX5_ways_31 fa_RX5_36 sC_0 fC0_4 ?_
        refine P_callVl (Y' := mX0_left) (as := []) (pc := 34) dX5_ways_34 rfl (by decide : 5 < 6) sC_5 rfl ml_RX5_139 im_X0_left se_X0_left mk_X0_left (Nat.le_of_ble_eq_true rfl) (c_left0 h hn) (fun z_ μ_ hq => ?_)
        obtain ⟨hR1, hS1, hL1⟩ := hq
        skip
        refine P_callSi (Y' := mJ13_bitCount_95d88) (as := [_]) (pc := 37) dX5_ways_37 rfl (by decide : 0 < 6) ml_RX5_142 sm_J13_bitCount_95d88 mk_J13_bitCount_95d88 (Nat.le_of_ble_eq_true rfl) (c_J13_bitCount_95d88) (fun z_ μ_ hq => ?_)
        obtain ⟨hz2, hμ_⟩ := hq
        subst hμ_
        skip
        exact P_iret (pc := 40) dX5_ways_40 rfl (QI.mk (by
              rw [if_pos (show 0 ≤ w ∧ w ≤ 1 by omega), if_pos (show 0 ≤ w ∧ w ≤ 1 by omega), refW_0]
              first
                | (rw [if_pos (by omega)]
                   refine ⟨?_, h⟩
                   rw [hz2, ev_cnt h.1.1.1]
                   exact Int.natCast_pow 2 _)
                | (rw [if_neg (by omega)]
                   exact ⟨hz2.trans (congrArg Nat.cast (LW_n hL1)), hR1⟩)))
      · refine P_aload_n (pc := 20) dX5_ways_20 rfl 0 rfl ?_
        refine P_getR (pc := 21) dX5_ways_21 fa_RX5_12 sC_0 fC0_0 ?_
        refine P_callVl (Y' := mX3_everyWay) (as := []) (pc := 24) dX5_ways_24 rfl (by decide : 2 < 6) sC_1 rfl ml_RX5_135 im_X3_everyWay se_X3_everyWay mk_X3_everyWay (Nat.le_of_ble_eq_true rfl) (c_X3_everyWay h.1.2.2.2.1 h.1.1.1) (fun z_ μ_ hq => ?_)
        obtain ⟨hz, hμ_⟩ := hq
        have hμ_ := hμ_.symm
        subst hμ_
        subst hz
        skip
        refine P_goto (tgt := 37) (pc := 27) dX5_ways_27 (by decide) ?_
        refine P_callSi (Y' := mJ13_bitCount_95d88) (as := [_]) (pc := 37) dX5_ways_37 rfl (by decide : 0 < 6) ml_RX5_142 sm_J13_bitCount_95d88 mk_J13_bitCount_95d88 (Nat.le_of_ble_eq_true rfl) (c_J13_bitCount_95d88) (fun z_ μ_ hq => ?_)
        obtain ⟨hz2, hμ_⟩ := hq
        subst hμ_
        skip
        exact P_iret (pc := 40) dX5_ways_40 rfl (QI.mk (by
              rw [if_pos (show 0 ≤ w ∧ w ≤ 1 by omega), if_pos (show 0 ≤ w ∧ w ≤ 1 by omega), refW_0]
              first
                | (rw [if_pos (by omega)]
                   refine ⟨?_, h⟩
                   rw [hz2, ev_cnt h.1.1.1]
                   exact Int.natCast_pow 2 _)
                | (rw [if_neg (by omega)]
                   exact ⟨hz2.trans (congrArg Nat.cast (LW_n hL1)), hR1⟩)))
    · refine P_aload_n (pc := 9) dX5_ways_9 rfl 0 rfl ?_
      refine P_bipush (pc := 10) dX5_ways_10 (by decide) ?_
      refine P_callVi (Y' := mX5_refuse) (as := [_]) (pc := 12) dX5_ways_12 rfl (by decide : 0 < 6) sC_0 rfl ml_RX5_67 im_X5_refuse se_X5_refuse mk_X5_refuse (Nat.le_of_ble_eq_true rfl) (c_X5_refuse h hn (by omega)) (fun z_ μ_ hq => ?_)
      obtain ⟨hzr, hRr⟩ := hq
      skip
      exact P_iret (pc := 15) dX5_ways_15 rfl (QI.mk (by
            rw [if_neg (show ¬ (0 ≤ w ∧ w ≤ 1) by omega)]
            exact ⟨hzr, by rw [if_neg (show ¬ (0 ≤ w ∧ w ≤ 1) by omega), refW_n (by decide)]; exact hRr⟩))
