set_option maxHeartbeats 1000000 in
set_option maxRecDepth 100000 in
theorem c_X5_of {n : Int} {μ ν : Mem} {e w : Int} (h : RLN n μ ν) (hn : n < 2147483648) (he : InR e) (hw : InR w) : PC shC 1 mX5_of [vr 0, vi e, vi w] (μ) (QI (fun z μ' => z = (if whyO ν.1 e w = 0 then ν.1 (if w = 0 then 7 else if w = 1 then 8 else if w = 2 then 9 else if w = 3 then 10 else 11) e else whyO ν.1 e w) ∧ RLN n μ' (if whyO ν.1 e w = 0 then ν else refM ν (whyO ν.1 e w)))) := by
  refine PC.of (by decide +kernel) (Nat.le_of_ble_eq_true rfl) ?_
  refine P_sub (L' := [(0, vr 0), (1, vi e), (2, vi w)]) [0, 1, 2] rfl ?_
  have h6 := RL_6 h
  have h7 := RL_7 h
  refine P_iload_n (pc := 0) dX5_of_0 rfl 1 rfl ?_
  refine P_if_lt (tgt := 15) (pc := 1) dX5_of_1 (by decide) (by first | assumption | (unfold InR; omega)) (fun c_1 => ?_) (fun c_1 => ?_)
  · refine P_aload_n (pc := 15) dX5_of_15 rfl 0 rfl ?_
    refine P_iconst (pc := 16) dX5_of_16 ?_
    refine P_callVi (Y' := mX5_refuse) (as := [_]) (pc := 17) dX5_of_17 rfl (by decide : 0 < 1) sC_0 rfl ml_RX5_67 im_X5_refuse se_X5_refuse mk_X5_refuse (Nat.le_of_ble_eq_true rfl) (c_X5_refuse h hn (by omega)) (fun z_ μ_ hq => ?_)
    obtain ⟨hzr, hRr⟩ := hq
    skip
    exact P_iret (pc := 20) dX5_of_20 rfl (QI.mk (by
          have e1 : whyO ν.1 e w = -1 := by
            unfold whyO
            repeat (first | rw [if_pos (by omega)] | rw [if_neg (by omega)])
          rw [e1]
          exact ⟨by rw [if_neg (by decide)]; exact hzr, by rw [if_neg (by decide)]; exact hRr⟩))
  · refine P_iload_n (pc := 4) dX5_of_4 rfl 1 rfl ?_
    refine P_aload_n (pc := 5) dX5_of_5 rfl 0 rfl ?_
    refine P_getR (pc := 6) dX5_of_6 fa_RX5_12 sC_0 fC0_0 ?_
    refine P_getI (jj := 7) (pc := 9) dX5_of_9 fa_RX5_97 sC_1 fC1_7 rfl ?_
    skip
    rw [h7.1]
    refine P_icmp_lt (tgt := 21) (pc := 12) dX5_of_12 (by decide) (by first | assumption | (unfold InR; omega)) (by first | assumption | (unfold InR; omega)) (fun c_12 => ?_) (fun c_12 => ?_)
    · refine P_iload_n (pc := 21) dX5_of_21 rfl 2 rfl ?_
      refine P_if_lt (tgt := 30) (pc := 22) dX5_of_22 (by decide) (by first | assumption | (unfold InR; omega)) (fun c_22 => ?_) (fun c_22 => ?_)
      · refine P_aload_n (pc := 30) dX5_of_30 rfl 0 rfl ?_
        refine P_bipush (pc := 31) dX5_of_31 (by decide) ?_
        refine P_callVi (Y' := mX5_refuse) (as := [_]) (pc := 33) dX5_of_33 rfl (by decide : 0 < 1) sC_0 rfl ml_RX5_67 im_X5_refuse se_X5_refuse mk_X5_refuse (Nat.le_of_ble_eq_true rfl) (c_X5_refuse h hn (by omega)) (fun z_ μ_ hq => ?_)
        obtain ⟨hzr, hRr⟩ := hq
        skip
        exact P_iret (pc := 36) dX5_of_36 rfl (QI.mk (by
              have e1 : whyO ν.1 e w = -2 := by
                unfold whyO
                repeat (first | rw [if_pos (by omega)] | rw [if_neg (by omega)])
              rw [e1]
              exact ⟨by rw [if_neg (by decide)]; exact hzr, by rw [if_neg (by decide)]; exact hRr⟩))
      · refine P_iload_n (pc := 25) dX5_of_25 rfl 2 rfl ?_
        refine P_iconst (pc := 26) dX5_of_26 ?_
        refine P_icmp_lt (tgt := 37) (pc := 27) dX5_of_27 (by decide) (by first | assumption | (unfold InR; omega)) (by first | assumption | (unfold InR; omega)) (fun c_27 => ?_) (fun c_27 => ?_)
        · refine P_aload_n (pc := 37) dX5_of_37 rfl 0 rfl ?_
          refine P_getR (pc := 38) dX5_of_38 fa_RX5_12 sC_0 fC0_0 ?_
          refine P_iload_n (pc := 41) dX5_of_41 rfl 1 rfl ?_
          refine P_iload_n (pc := 42) dX5_of_42 rfl 2 rfl ?_
          refine P_callVi (Y' := mX3_eventPart) (as := [_, _]) (pc := 43) dX5_of_43 rfl (by decide : 0 < 1) sC_1 rfl ml_RX5_104 im_X3_eventPart se_X3_eventPart mk_X3_eventPart (Nat.le_of_ble_eq_true rfl) (c_X3_eventPart (by omega) (by omega)) (fun z_ μ_ hq => ?_)
          obtain ⟨hz, hμ_⟩ := hq
          have hμ_ := hμ_.symm
          subst hμ_
          skip
          exact P_iret (pc := 46) dX5_of_46 rfl (QI.mk (by
                have e1 : whyO ν.1 e w = 0 := by
                  unfold whyO
                  repeat (first | rw [if_pos (by omega)] | rw [if_neg (by omega)])
                have g := h.1.2.2.2.1.2.2.2.2.1 e
                rw [e1, if_pos rfl, if_pos rfl]
                refine ⟨?_, h⟩
                rw [hz]
                rcases (show w = 0 ∨ w = 1 ∨ w = 2 ∨ w = 3 ∨ w = 4 by omega) with rfl | rfl | rfl | rfl | rfl
                · rw [Int.add_zero]; exact g.1
                · exact g.2.1
                · exact g.2.2.1
                · exact g.2.2.2.1
                · exact g.2.2.2.2))
        · refine P_aload_n (pc := 30) dX5_of_30 rfl 0 rfl ?_
          refine P_bipush (pc := 31) dX5_of_31 (by decide) ?_
          refine P_callVi (Y' := mX5_refuse) (as := [_]) (pc := 33) dX5_of_33 rfl (by decide : 0 < 1) sC_0 rfl ml_RX5_67 im_X5_refuse se_X5_refuse mk_X5_refuse (Nat.le_of_ble_eq_true rfl) (c_X5_refuse h hn (by omega)) (fun z_ μ_ hq => ?_)
          obtain ⟨hzr, hRr⟩ := hq
          skip
          exact P_iret (pc := 36) dX5_of_36 rfl (QI.mk (by
                have e1 : whyO ν.1 e w = -2 := by
                  unfold whyO
                  repeat (first | rw [if_pos (by omega)] | rw [if_neg (by omega)])
                rw [e1]
                exact ⟨by rw [if_neg (by decide)]; exact hzr, by rw [if_neg (by decide)]; exact hRr⟩))
    · refine P_aload_n (pc := 15) dX5_of_15 rfl 0 rfl ?_
      refine P_iconst (pc := 16) dX5_of_16 ?_
      refine P_callVi (Y' := mX5_refuse) (as := [_]) (pc := 17) dX5_of_17 rfl (by decide : 0 < 1) sC_0 rfl ml_RX5_67 im_X5_refuse se_X5_refuse mk_X5_refuse (Nat.le_of_ble_eq_true rfl) (c_X5_refuse h hn (by omega)) (fun z_ μ_ hq => ?_)
      obtain ⟨hzr, hRr⟩ := hq
      skip
      exact P_iret (pc := 20) dX5_of_20 rfl (QI.mk (by
            have e1 : whyO ν.1 e w = -1 := by
              unfold whyO
              repeat (first | rw [if_pos (by omega)] | rw [if_neg (by omega)])
            rw [e1]
            exact ⟨by rw [if_neg (by decide)]; exact hzr, by rw [if_neg (by decide)]; exact hRr⟩))
set_option maxHeartbeats 1000000 in
set_option maxRecDepth 100000 in
theorem c_X5_count {n : Int} {μ ν : Mem} {w : Int} (h : RLN n μ ν) (hn : n < 2147483648) (hw : InR w) : PC shC 2 mX5_count [vr 0, vi w] (μ) (QI (fun z μ' => z = cntZ ν.1 w ∧ RLN n μ' ν)) := by
  refine PC.of (by decide +kernel) (Nat.le_of_ble_eq_true rfl) ?_
  refine P_sub (L' := [(0, vr 0), (1, vi w)]) [0, 1] rfl ?_
  have h6 := RL_6 h
  have h7 := RL_7 h
  refine P_iload_n (pc := 0) dX5_count_0 rfl 1 rfl ?_
  rcases (show w = 0 ∨ w = 1 ∨ w = 2 ∨ w = 3 ∨ w = 4 ∨ w = 5 ∨ (w < 0 ∨ 5 < w) by omega) with rfl | rfl | rfl | rfl | rfl | rfl | h_sw
  · refine P_tableIn (tgt := 40) (pc := 1) dX5_count_1 (by first | assumption | (unfold InR; omega)) (by omega) (by omega) (by first | rfl | (rw [h_sw]; rfl)) (by decide) ?_
    refine P_aload_n (pc := 40) dX5_count_40 rfl 0 rfl ?_
    refine P_getR (pc := 41) dX5_count_41 fa_RX5_12 sC_0 fC0_0 ?_
    refine P_getI (jj := 6) (pc := 44) dX5_count_44 fa_RX5_75 sC_1 fC1_6 rfl ?_
    skip
    exact P_iret (pc := 47) dX5_count_47 rfl (QI.mk (by exact ⟨h6.1, h⟩))
  · refine P_tableIn (tgt := 48) (pc := 1) dX5_count_1 (by first | assumption | (unfold InR; omega)) (by omega) (by omega) (by first | rfl | (rw [h_sw]; rfl)) (by decide) ?_
    refine P_aload_n (pc := 48) dX5_count_48 rfl 0 rfl ?_
    refine P_getR (pc := 49) dX5_count_49 fa_RX5_12 sC_0 fC0_0 ?_
    refine P_getI (jj := 7) (pc := 52) dX5_count_52 fa_RX5_97 sC_1 fC1_7 rfl ?_
    skip
    exact P_iret (pc := 55) dX5_count_55 rfl (QI.mk (by exact ⟨h7.1, h⟩))
  · refine P_tableIn (tgt := 56) (pc := 1) dX5_count_1 (by first | assumption | (unfold InR; omega)) (by omega) (by omega) (by first | rfl | (rw [h_sw]; rfl)) (by decide) ?_
    refine P_aload_n (pc := 56) dX5_count_56 rfl 0 rfl ?_
    refine P_getR (pc := 57) dX5_count_57 fa_RX5_12 sC_0 fC0_0 ?_
    refine P_callVi (Y' := mX3_namedUnknowns) (as := []) (pc := 60) dX5_count_60 rfl (by decide : 1 < 2) sC_1 rfl ml_RX5_199 im_X3_namedUnknowns se_X3_namedUnknowns mk_X3_namedUnknowns (Nat.le_of_ble_eq_true rfl) (c_X3_namedUnknowns h.1.2.2.2.1 h.1.1.1) (fun z_ μ_ hq => ?_)
    obtain ⟨hz, hμ_⟩ := hq
    have hμ_ := hμ_.symm
    subst hμ_
    subst hz
    skip
    refine P_callSi (Y' := mJ6_bitCount_0f7a4) (as := [_]) (pc := 63) dX5_count_63 rfl (by decide : 0 < 2) ml_RX5_202 sm_J6_bitCount_0f7a4 mk_J6_bitCount_0f7a4 (Nat.le_of_ble_eq_true rfl) (c_J6_bitCount_0f7a4 (by have := nmK_lt h.1.1.1; omega)) (fun z_ μ_ hq => ?_)
    obtain ⟨hz, hμ_⟩ := hq
    have hμ_ := hμ_.symm
    subst hμ_
    skip
    exact P_iret (pc := 66) dX5_count_66 rfl (QI.mk (by exact ⟨hz, h⟩))
  · refine P_tableIn (tgt := 67) (pc := 1) dX5_count_1 (by first | assumption | (unfold InR; omega)) (by omega) (by omega) (by first | rfl | (rw [h_sw]; rfl)) (by decide) ?_
    refine P_aload_n (pc := 67) dX5_count_67 rfl 0 rfl ?_
    refine P_getR (pc := 68) dX5_count_68 fa_RX5_12 sC_0 fC0_0 ?_
    refine P_getI (jj := 8) (pc := 71) dX5_count_71 fa_RX5_148 sC_1 fC1_8 rfl ?_
    skip
    exact P_iret (pc := 74) dX5_count_74 rfl (QI.mk (by exact ⟨h.1.2.2.2.2.2.1.1, h⟩))
  · refine P_tableIn (tgt := 75) (pc := 1) dX5_count_1 (by first | assumption | (unfold InR; omega)) (by omega) (by omega) (by first | rfl | (rw [h_sw]; rfl)) (by decide) ?_
    refine P_aload_n (pc := 75) dX5_count_75 rfl 0 rfl ?_
    refine P_getR (pc := 76) dX5_count_76 fa_RX5_12 sC_0 fC0_0 ?_
    refine P_getI (jj := 9) (pc := 79) dX5_count_79 fa_RX5_186 sC_1 fC1_9 rfl ?_
    skip
    exact P_iret (pc := 82) dX5_count_82 rfl (QI.mk (by exact ⟨h.1.2.2.2.2.2.2.1, h⟩))
  · refine P_tableIn (tgt := 83) (pc := 1) dX5_count_1 (by first | assumption | (unfold InR; omega)) (by omega) (by omega) (by first | rfl | (rw [h_sw]; rfl)) (by decide) ?_
    refine P_aload_n (pc := 83) dX5_count_83 rfl 0 rfl ?_
    refine P_getR (pc := 84) dX5_count_84 fa_RX5_55 sC_0 fC0_7 ?_
    refine P_getI (jj := 2) (pc := 87) dX5_count_87 fa_RX5_111 sC_8 fC8_2 rfl ?_
    skip
    exact P_iret (pc := 90) dX5_count_90 rfl (QI.mk (by exact ⟨h.2.1.2.2, h⟩))
  · refine P_tableOut (tgt := 91) (pc := 1) dX5_count_1 (by first | assumption | (unfold InR; omega)) h_sw (by decide) ?_
    refine P_iload_n (pc := 91) dX5_count_91 rfl 1 rfl ?_
    refine P_bipush (pc := 92) dX5_count_92 (by decide) ?_
    refine P_icmp_lt (tgt := 115) (pc := 94) dX5_count_94 (by decide) (by first | assumption | (unfold InR; omega)) (by first | assumption | (unfold InR; omega)) (fun c_94 => ?_) (fun c_94 => ?_)
    · refine P_bipush (pc := 115) dX5_count_115 (by decide) ?_
      exact P_iret (pc := 117) dX5_count_117 rfl (QI.mk (by
            refine ⟨?_, h⟩
            unfold cntZ
            first
              | (rw [if_pos (by omega)]
                 exact h.2.2.1 (w - 10) (by omega) (by omega))
              | (rw [if_neg (by omega), if_neg (by omega), if_neg (by omega), if_neg (by omega), if_neg (by omega), if_neg (by omega), if_neg (by omega)])))
    · refine P_iload_n (pc := 97) dX5_count_97 rfl 1 rfl ?_
      refine P_bipush (pc := 98) dX5_count_98 (by decide) ?_
      refine P_icmp_gt (tgt := 115) (pc := 100) dX5_count_100 (by decide) (by first | assumption | (unfold InR; omega)) (by first | assumption | (unfold InR; omega)) (fun c_100 => ?_) (fun c_100 => ?_)
      · refine P_bipush (pc := 115) dX5_count_115 (by decide) ?_
        exact P_iret (pc := 117) dX5_count_117 rfl (QI.mk (by
              refine ⟨?_, h⟩
              unfold cntZ
              first
                | (rw [if_pos (by omega)]
                   exact h.2.2.1 (w - 10) (by omega) (by omega))
                | (rw [if_neg (by omega), if_neg (by omega), if_neg (by omega), if_neg (by omega), if_neg (by omega), if_neg (by omega), if_neg (by omega)])))
      · refine P_aload_n (pc := 103) dX5_count_103 rfl 0 rfl ?_
        refine P_getR (pc := 104) dX5_count_104 fa_RX5_59 sC_0 fC0_8 ?_
        refine P_iload_n (pc := 107) dX5_count_107 rfl 1 rfl ?_
        refine P_bipush (pc := 108) dX5_count_108 (by decide) ?_
        refine P_isub (pc := 110) dX5_count_110 ?_
        refine P_iald (pc := 111) dX5_count_111 sC_9 (by omega) (by omega) (by decide) ?_
        skip
        refine P_goto (tgt := 117) (pc := 112) dX5_count_112 (by decide) ?_
        exact P_iret (pc := 117) dX5_count_117 rfl (QI.mk (by
              refine ⟨?_, h⟩
              unfold cntZ
              first
                | (rw [if_pos (by omega)]
                   exact h.2.2.1 (w - 10) (by omega) (by omega))
                | (rw [if_neg (by omega), if_neg (by omega), if_neg (by omega), if_neg (by omega), if_neg (by omega), if_neg (by omega), if_neg (by omega)])))
theorem besN_lt2 {K F : Cel} {h : Int} : ∀ n, besN K F h n < 2 ^ n
  | 0 => by show 0 < 1; decide
  | n + 1 => by
    have g := besN_lt2 (K := K) (F := F) (h := h) n
    have h2 : (2 : Nat) ^ n < 2 ^ (n + 1) := Nat.pow_lt_pow_right (by decide) (by omega)
    simp only [besN]
    apply Nat.or_lt_two_pow
    · omega
    · split
      · exact h2
      · exact Nat.pow_pos (by decide)
set_option maxHeartbeats 1000000 in
set_option maxRecDepth 100000 in
theorem l_X5_beside {μ : Mem} {K F : Cel} {q : Int} {W0 W1 : BitVec 64} (hK : KOK K) (hq1 : 0 ≤ q ∧ q < 48) (hT6 : μ.1 1 6 = K 0 11) (hS0 : SI K μ 0) (hS1 : SI K μ 1) (hW0 : LWP K F 0 W0) (hW1 : LWP K F 1 W1) : ∀ (m j : Nat), j ≤ (K 0 11).toNat → (K 0 11).toNat - j < m → PW shC 6 mX5_beside 47 [(0, vr 0), (1, vi q), (2, vl W0), (4, vl W1), (6, vi (besN K F q j : Int)), (7, vi (j : Int))] [] μ (QI (fun z μ' => z = (besN K F q (K 0 11).toNat : Int) ∧ μ' = μ)) := by
  intro m
  induction m with
  | zero => intro j _ q; omega
  | succ m ih =>
  intro j hj hm
  have hK1 := hK.1
  have g0 : j < (K 0 11).toNat → suC W0 (W0 &&& ~~~(μ.2 (23 + 7 * 0) (q * 12 + (j : Int)))) = sureP K F 0 q j := fun r => by
    have g := suC_P (o := 0) (t := (j : Int)) (h := q) hK (by decide) (by omega) hW0 (fun w hw => hS0.2 q (j : Int) w hq1.1 hq1.2 (by omega) (by omega) hw)
    rw [show ((j : Int)).toNat = j by omega] at g
    exact g
  have g1 : j < (K 0 11).toNat → suC W1 (W1 &&& ~~~(μ.2 (23 + 7 * 1) (q * 12 + (j : Int)))) = sureP K F 1 q j := fun r => by
    have g := suC_P (o := 1) (t := (j : Int)) (h := q) hK (by decide) (by omega) hW1 (fun w hw => hS1.2 q (j : Int) w hq1.1 hq1.2 (by omega) (by omega) hw)
    rw [show ((j : Int)).toNat = j by omega] at g
    exact g
  have hb : besN K F q (j + 1) = besN K F q j ||| (if sureP K F 1 q j ≠ sureP K F 0 q j then 2 ^ j else 0) := rfl
  refine P_iload (pc := 47) dX5_beside_47 5 rfl ?_
  refine P_aload_n (pc := 49) dX5_beside_49 rfl 0 rfl ?_
  refine P_getR (pc := 50) dX5_beside_50 fa_RX5_12 sC_0 fC0_0 ?_
  refine P_getI (jj := 6) (pc := 53) dX5_beside_53 fa_RX5_75 sC_1 fC1_6 rfl ?_
  skip
  rw [hT6]
  refine P_icmp_ge (tgt := 100) (pc := 56) dX5_beside_56 (by decide) (by first | assumption | (unfold InR; omega)) (by first | assumption | (unfold InR; omega)) (fun c_56 => ?_) (fun c_56 => ?_)
  · refine P_iload (pc := 100) dX5_beside_100 4 rfl ?_
    exact P_iret (pc := 102) dX5_beside_102 rfl (QI.mk (by
          have e9 : j = (K 0 11).toNat := by omega
          rw [e9]
          exact ⟨rfl, rfl⟩))
  · refine P_aload_n (pc := 59) dX5_beside_59 rfl 0 rfl ?_
    refine P_getR (pc := 60) dX5_beside_60 fa_RX5_36 sC_0 fC0_4 ?_
    refine P_lload_n (pc := 63) dX5_beside_63 rfl 2 rfl ?_
    refine P_iload (pc := 64) dX5_beside_64 5 rfl ?_
    refine P_iload_n (pc := 66) dX5_beside_66 rfl 1 rfl ?_
    refine P_callVi (Y' := mX0_sureIn) (as := [_, _, _]) (pc := 67) dX5_beside_67 rfl (by decide : 2 < 6) sC_5 rfl ml_RX5_158 im_X0_sureIn se_X0_sureIn mk_X0_sureIn (Nat.le_of_ble_eq_true rfl) (c_X0_sureIn (b := 0) (by decide) (by omega) (by omega)) (fun z_ μ_ hq => ?_)
    obtain ⟨hz, hμ_⟩ := hq
    have hμ_ := hμ_.symm
    subst hμ_
    rw [g0 (by omega)] at hz
    have hzr : InR z_ := by rw [hz]; unfold sureP InR; split; omega; split; omega; split <;> omega
    have hza := hz
    skip
    refine P_aload_n (pc := 70) dX5_beside_70 rfl 0 rfl ?_
    refine P_getR (pc := 71) dX5_beside_71 fa_RX5_40 sC_0 fC0_5 ?_
    refine P_lload (pc := 74) dX5_beside_74 3 rfl ?_
    refine P_iload (pc := 76) dX5_beside_76 5 rfl ?_
    refine P_iload_n (pc := 78) dX5_beside_78 rfl 1 rfl ?_
    refine P_callVi (Y' := mX0_sureIn) (as := [_, _, _]) (pc := 79) dX5_beside_79 rfl (by decide : 2 < 6) sC_6 rfl ml_RX5_158 im_X0_sureIn se_X0_sureIn mk_X0_sureIn (Nat.le_of_ble_eq_true rfl) (c_X0_sureIn (b := 1) (by decide) (by omega) (by omega)) (fun z_ μ_ hq => ?_)
    obtain ⟨hzb, hμ_⟩ := hq
    have hμ_ := hμ_.symm
    subst hμ_
    rw [g1 (by omega)] at hzb
    have hzr2 : InR z_ := by rw [hzb]; unfold sureP InR; split; omega; split; omega; split <;> omega
    skip
    refine P_icmp_eq (tgt := 94) (pc := 82) dX5_beside_82 (by decide) (by first | assumption | (unfold InR; omega)) (by first | assumption | (unfold InR; omega)) (fun c_82 => ?_) (fun c_82 => ?_)
    · refine P_iinc (L' := [(7, vi _), (0, vr 0), (1, vi _), (2, vl _), (4, vl _), (6, vi _)]) (pc := 94) dX5_beside_94 (by decide) 5 rfl rfl ?_
      refine P_goto (tgt := 47) (pc := 97) dX5_beside_97 (by decide) ?_
      refine P_sub (L' := [(0, vr 0), (1, vi _), (2, vl _), (4, vl _), (6, vi _), (7, vi _)]) [1, 2, 3, 4, 5, 0] rfl ?_
      refine P_cast (L' := [(0, vr 0), (1, vi q), (2, vl W0), (4, vl W1), (6, vi (besN K F q (j + 1) : Int)), (7, vi ((j + 1 : Nat) : Int))]) ?_ rfl (ih (j + 1) (by omega) (by omega))
      rw [hb]
      first
        | (rw [if_neg (by omega), Nat.or_zero]; rfl)
        | (rw [if_pos (by omega)]; rfl)
    · refine P_iload (pc := 85) dX5_beside_85 4 rfl ?_
      refine P_iconst (pc := 87) dX5_beside_87 ?_
      refine P_iload (pc := 88) dX5_beside_88 5 rfl ?_
      refine P_ishl (pc := 90) dX5_beside_90 (wN_shl1N (by omega)) ?_
      refine P_ior (pc := 91) dX5_beside_91 (wN_or) ?_
      refine P_istore (L' := [(6, vi _), (0, vr 0), (1, vi _), (2, vl _), (4, vl _), (7, vi _)]) (pc := 92) dX5_beside_92 (by decide) rfl ?_
      refine P_iinc (L' := [(7, vi _), (6, vi _), (0, vr 0), (1, vi _), (2, vl _), (4, vl _)]) (pc := 94) dX5_beside_94 (by decide) 5 rfl rfl ?_
      refine P_goto (tgt := 47) (pc := 97) dX5_beside_97 (by decide) ?_
      refine P_sub (L' := [(0, vr 0), (1, vi _), (2, vl _), (4, vl _), (6, vi _), (7, vi _)]) [2, 3, 4, 5, 1, 0] rfl ?_
      refine P_cast (L' := [(0, vr 0), (1, vi q), (2, vl W0), (4, vl W1), (6, vi (besN K F q (j + 1) : Int)), (7, vi ((j + 1 : Nat) : Int))]) ?_ rfl (ih (j + 1) (by omega) (by omega))
      rw [hb]
      first
        | (rw [if_neg (by omega), Nat.or_zero]; rfl)
        | (rw [if_pos (by omega)]; rfl)
set_option maxHeartbeats 1000000 in
set_option maxRecDepth 100000 in
theorem c_X5_beside {n : Int} {μ ν : Mem} {q : Int} (h : RLN n μ ν) (hn : n < 2147483648) (hq0 : InR q) : PC shC 6 mX5_beside [vr 0, vi q] (μ) (QI (fun z μ' => z = (if whyH q = 0 then (besN (kd ν.1) ν.1 q (kd ν.1 0 11).toNat : Int) else whyH q) ∧ RLN n μ' (refW ν (whyH q)))) := by
  refine PC.of (by decide +kernel) (Nat.le_of_ble_eq_true rfl) ?_
  refine P_sub (L' := [(0, vr 0), (1, vi q)]) [0, 1] rfl ?_
  have h6 := RL_6 h
  have h7 := RL_7 h
  refine P_iload_n (pc := 0) dX5_beside_0 rfl 1 rfl ?_
  refine P_if_ge (tgt := 11) (pc := 1) dX5_beside_1 (by decide) (by first | assumption | (unfold InR; omega)) (fun c_1 => ?_) (fun c_1 => ?_)
  · refine P_iload_n (pc := 11) dX5_beside_11 rfl 1 rfl ?_
    refine P_bipush (pc := 12) dX5_beside_12 (by decide) ?_
    refine P_icmp_lt (tgt := 24) (pc := 14) dX5_beside_14 (by decide) (by first | assumption | (unfold InR; omega)) (by first | assumption | (unfold InR; omega)) (fun c_14 => ?_) (fun c_14 => ?_)
    · refine P_aload_n (pc := 24) dX5_beside_24 rfl 0 rfl ?_
      refine P_getR (pc := 25) dX5_beside_25 fa_RX5_36 sC_0 fC0_4 ?_
      refine P_callVl (Y' := mX0_left) (as := []) (pc := 28) dX5_beside_28 rfl (by decide : 5 < 6) sC_5 rfl ml_RX5_139 im_X0_left se_X0_left mk_X0_left (Nat.le_of_ble_eq_true rfl) (c_left0 h hn) (fun z_ μ_ hq => ?_)
      obtain ⟨hR1, hS1, hL1⟩ := hq
      skip
      refine P_lstore_n (L' := [(2, vl _), (0, vr 0), (1, vi _)]) (pc := 31) dX5_beside_31 rfl (by decide) rfl ?_
      refine P_aload_n (pc := 32) dX5_beside_32 rfl 1 rfl ?_
      refine P_getR (pc := 33) dX5_beside_33 fa_RX5_40 sC_0 fC0_5 ?_
      refine P_callVl (Y' := mX0_left) (as := []) (pc := 36) dX5_beside_36 rfl (by decide : 5 < 6) sC_6 rfl ml_RX5_139 im_X0_left se_X0_left mk_X0_left (Nat.le_of_ble_eq_true rfl) (c_left1 hR1 hn) (fun z_ μ_ hq => ?_)
      obtain ⟨hR2, hS2, hS3, hL2⟩ := hq
      have hS2 := hS2 hS1
      skip
      refine P_lstore (L' := [(4, vl _), (2, vl _), (0, vr 0), (1, vi _)]) (pc := 39) dX5_beside_39 (by decide) rfl ?_
      refine P_iconst (pc := 41) dX5_beside_41 ?_
      refine P_istore (L' := [(6, vi _), (4, vl _), (2, vl _), (0, vr 0), (1, vi _)]) (pc := 42) dX5_beside_42 (by decide) rfl ?_
      refine P_iconst (pc := 44) dX5_beside_44 ?_
      refine P_istore (L' := [(7, vi _), (6, vi _), (4, vl _), (2, vl _), (0, vr 0), (1, vi _)]) (pc := 45) dX5_beside_45 (by decide) rfl ?_
      refine P_sub (L' := [(0, vr 0), (1, vi _), (2, vl _), (4, vl _), (6, vi _), (7, vi _)]) [4, 5, 3, 2, 1, 0] rfl ?_
      have e : whyH q = 0 := by
        unfold whyH
        repeat (first | rw [if_pos (by omega)] | rw [if_neg (by omega)])
      rw [e]
      refine P_post (fun r μ' hq => ?_) (l_X5_beside (K := kd ν.1) (F := ν.1) h.1.1.1 (by omega) (RL_6 hR2).1 hS2 hS3 hL1 hL2 ((kd ν.1 0 11).toNat + 1) 0 (Nat.zero_le _) (by omega))
      obtain ⟨z, e1, q1, q2⟩ := hq
      subst q2
      exact ⟨z, e1, by rw [if_pos rfl]; exact q1, by rw [refW_0]; exact hR2⟩
    · refine P_aload_n (pc := 17) dX5_beside_17 rfl 0 rfl ?_
      refine P_bipush (pc := 18) dX5_beside_18 (by decide) ?_
      refine P_callVi (Y' := mX5_refuse) (as := [_]) (pc := 20) dX5_beside_20 rfl (by decide : 0 < 6) sC_0 rfl ml_RX5_67 im_X5_refuse se_X5_refuse mk_X5_refuse (Nat.le_of_ble_eq_true rfl) (c_X5_refuse h hn (by omega)) (fun z_ μ_ hq => ?_)
      obtain ⟨hzr, hRr⟩ := hq
      skip
      exact P_iret (pc := 23) dX5_beside_23 rfl (QI.mk (by
            have e : whyH q = -6 := by
              unfold whyH
              repeat (first | rw [if_pos (by omega)] | rw [if_neg (by omega)])
            rw [e]
            exact ⟨by rw [if_neg (by decide)]; exact hzr, by rw [refW_n (by decide)]; exact hRr⟩))
  · refine P_aload_n (pc := 4) dX5_beside_4 rfl 0 rfl ?_
    refine P_bipush (pc := 5) dX5_beside_5 (by decide) ?_
    refine P_callVi (Y' := mX5_refuse) (as := [_]) (pc := 7) dX5_beside_7 rfl (by decide : 0 < 6) sC_0 rfl ml_RX5_67 im_X5_refuse se_X5_refuse mk_X5_refuse (Nat.le_of_ble_eq_true rfl) (c_X5_refuse h hn (by omega)) (fun z_ μ_ hq => ?_)
    obtain ⟨hzr, hRr⟩ := hq
    skip
    exact P_iret (pc := 10) dX5_beside_10 rfl (QI.mk (by
          have e : whyH q = -4 := by
            unfold whyH
            repeat (first | rw [if_pos (by omega)] | rw [if_neg (by omega)])
          rw [e]
          exact ⟨by rw [if_neg (by decide)]; exact hzr, by rw [refW_n (by decide)]; exact hRr⟩))
