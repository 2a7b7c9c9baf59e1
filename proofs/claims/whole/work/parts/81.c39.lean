theorem rdE7_c {T : Int → Int} {L n h k x a : Int} (hT : TL T L) : rdE7 T L n h k x a = (if (if k = 9 then rnC T L 1 4 (-1) a else rnC T L 0 (n - 1) x a).1 = -2 then rdF (if k = 9 then rnC T L 1 4 (-1) a else rnC T L 0 (n - 1) x a).2 else rdE8 T L h k x (if k = 9 then rnC T L 1 4 (-1) a else rnC T L 0 (n - 1) x a).1 (if k = 9 then rnC T L 1 4 (-1) a else rnC T L 0 (n - 1) x a).2) := by
  unfold rdE7
  by_cases k9 : k = 9
  · rw [if_pos k9, if_pos k9]
    have h1 := nmR_in (lo := 1) (hi := 4) (a := a) hT (by decide)
    unfold rdE7c rnC
    by_cases q : (nmR T L 1 4 a).1 < 0
    · rw [if_pos q, if_pos (Or.inl q), if_pos rfl]
      rw [show (nmR T L 1 4 a).2 = a by omega]
    · rw [if_neg q, if_neg (show ¬ ((nmR T L 1 4 a).1 < 0 ∨ (nmR T L 1 4 a).1 = -1) by omega), if_neg (by omega)]
      unfold rdE7d
      rw [if_neg (fun z => z.1 k9)]
  · rw [if_neg k9, if_neg k9]
    have h1 := nmR_in (lo := 0) (hi := n - 1) (a := a) hT (by decide)
    unfold rdE7c rnC
    by_cases q : (nmR T L 0 (n - 1) a).1 < 0
    · rw [if_pos q, if_pos (Or.inl q), if_pos rfl]
      rw [show (nmR T L 0 (n - 1) a).2 = a by omega]
    · rw [if_neg q]
      unfold rdE7d
      by_cases q2 : (nmR T L 0 (n - 1) a).1 = x
      · rw [if_pos ⟨k9, q2⟩, if_pos (Or.inr q2), if_pos rfl]
      · rw [if_neg (fun z => q2 z.2), if_neg (show ¬ ((nmR T L 0 (n - 1) a).1 < 0 ∨ (nmR T L 0 (n - 1) a).1 = x) by omega), if_neg (by omega)]
theorem ruC_in {T : Int → Int} {L a : Int} (hT : TL T L) (ha : a ≤ L) : ((ruC T L a).1 = -2 ∨ (ruC T L a).1 = -1 ∨ (0 ≤ (ruC T L a).1 ∧ (ruC T L a).1 ≤ 15)) ∧ a ≤ (ruC T L a).2 ∧ (ruC T L a).2 ≤ L := by
  have h1 := sgn_in (a := a) hT
  have h2 := dgR_in (g := 5) (a := a + 1) hT
  unfold ruC
  by_cases q : sgn T L a = 63 ∨ sgn T L a = 33
  · rw [if_pos q]
    by_cases q2 : (dgR T L 5 (a + 1)).1 < 0
    · rw [if_pos q2]; exact ⟨Or.inl rfl, by dsimp only; omega, by dsimp only; omega⟩
    · rw [if_neg q2]
      refine ⟨Or.inr (Or.inr ?_), by dsimp only; omega, by dsimp only; omega⟩
      dsimp only
      split <;> omega
  · rw [if_neg q]; exact ⟨Or.inr (Or.inl rfl), by dsimp only; omega, ha⟩
theorem rdE8_c {T : Int → Int} {L h k x b a : Int} (hT : TL T L) : rdE8 T L h k x b a = (if (ruC T L a).1 = -2 then rdF (ruC T L a).2 else rdE10 T L h k x b (ruC T L a).1 (ruC T L a).2) := by
  have h2 := dgR_in (g := 5) (a := a + 1) hT
  unfold rdE8 ruC
  by_cases q : sgn T L a = 63 ∨ sgn T L a = 33
  · rw [if_pos q, if_pos q]
    unfold rdE9
    by_cases q2 : (dgR T L 5 (a + 1)).1 < 0
    · rw [if_pos q2, if_pos q2, if_pos rfl, show (dgR T L 5 (a + 1)).2 = a + 1 by omega]
    · rw [if_neg q2, if_neg q2]
      have e2 : (dgR T L 5 (a + 1)).2 = a + 1 + 1 := by omega
      unfold rdE9b
      rw [e2]
      by_cases q3 : sgn T L a = 63
      · rw [if_pos q3, if_pos q3, if_neg (by dsimp only; omega)]
      · rw [if_neg q3, if_neg q3, if_neg (by dsimp only; omega)]
  · rw [if_neg q, if_neg q, if_neg (by dsimp only; omega)]
set_option maxHeartbeats 1000000 in
set_option maxRecDepth 100000 in
theorem c_X1_readEvent {μ : Mem} {a : Int} (hT : TL (μ.1 37) (μ.1 8 2)) (ha : 0 ≤ a ∧ a ≤ μ.1 8 2) (hlt : a < μ.1 8 2) (h6 : 0 ≤ μ.1 1 6 ∧ μ.1 1 6 ≤ 12) (h7 : 0 ≤ μ.1 1 7 ∧ μ.1 1 7 < 60) : PC shC 3 mX1_readEvent [vr 8] (plM μ a) (QI (fun z μ' => z = (rdE (μ.1 37) (μ.1 8 2) (μ.1 1 6) (a + 1)).1 ∧ μ' = plM (if (rdE (μ.1 37) (μ.1 8 2) (μ.1 1 6) (a + 1)).1 = 1 then cEvent μ (rdE (μ.1 37) (μ.1 8 2) (μ.1 1 6) (a + 1)).2.2.1 (rdE (μ.1 37) (μ.1 8 2) (μ.1 1 6) (a + 1)).2.2.2.1 (rdE (μ.1 37) (μ.1 8 2) (μ.1 1 6) (a + 1)).2.2.2.2.1 (rdE (μ.1 37) (μ.1 8 2) (μ.1 1 6) (a + 1)).2.2.2.2.2.1 (rdE (μ.1 37) (μ.1 8 2) (μ.1 1 6) (a + 1)).2.2.2.2.2.2 else μ) (rdE (μ.1 37) (μ.1 8 2) (μ.1 1 6) (a + 1)).2.1)) := by
  refine PC.of (by decide +kernel) (Nat.le_of_ble_eq_true rfl) ?_
  refine P_sub (L' := [(0, vr 8)]) [0] rfl ?_
  have hT2 := hT.2
  refine P_aload_n (pc := 0) dX1_readEvent_0 rfl 0 rfl ?_
  refine P_getR (pc := 1) dX1_readEvent_1 fa_RX1_15 sC_8 fC8_0 ?_
  refine P_getI (jj := 7) (pc := 4) dX1_readEvent_4 fa_RX1_66 sC_1 fC1_7 rfl ?_
  try simp (disch := decide) only [pl_3, pl_2, pl_q, pl_put]
  refine P_bipush (pc := 7) dX1_readEvent_7 (by decide) ?_
  refine P_icmp_lt (tgt := 14) (pc := 9) dX1_readEvent_9 (by decide) (by first | assumption | (unfold InR; omega)) (by first | assumption | (unfold InR; omega)) (fun c_9 => ?_) (fun c_9 => ?_)
  · refine P_aload_n (pc := 14) dX1_readEvent_14 rfl 0 rfl ?_
    refine P_dup (pc := 15) dX1_readEvent_15 rfl ?_
    refine P_getI (jj := 3) (pc := 16) dX1_readEvent_16 fa_RX1_23 sC_8 fC8_3 rfl ?_
    try simp (disch := decide) only [pl_3, pl_2, pl_q, pl_put]
    refine P_iconst (pc := 19) dX1_readEvent_19 ?_
    refine P_iadd (pc := 20) dX1_readEvent_20 ?_
    refine P_putI (jj := 3) (pc := 21) dX1_readEvent_21 fa_RX1_23 fp_1_3 sC_8 fC8_3 rfl ?_
    try simp (disch := decide) only [pl_3, pl_2, pl_q, pl_put]
    refine P_aload_n (pc := 24) dX1_readEvent_24 rfl 0 rfl ?_
    refine P_iconst (pc := 25) dX1_readEvent_25 ?_
    refine P_bipush (pc := 26) dX1_readEvent_26 (by decide) ?_
    refine P_iconst (pc := 28) dX1_readEvent_28 ?_
    refine P_callVi (Y' := mX1_readNumber) (as := [_, _, _]) (pc := 29) dX1_readEvent_29 rfl (by decide : 2 < 3) sC_8 rfl ml_RX1_69 im_X1_readNumber se_X1_readNumber mk_X1_readNumber (Nat.le_of_ble_eq_true rfl) (c_X1_readNumber hT (by omega) (by omega) (by omega)) (fun z_ μ_ hq => ?_)
    obtain ⟨hz1, hμ_, hi1⟩ := hq
    subst hμ_
    have n1 := rnC_2 (lo := 0) (hi := 47) (a := a + 1) hT (by omega)
    rw [n1.1]
    have n1 := n1.2
    rw [← hz1] at n1
    generalize hE1 : nmR (μ.1 37) (μ.1 8 2) 0 (47) (a + 1) = r1 at n1 hi1 ⊢
    obtain ⟨v1, p1⟩ := r1
    dsimp only at n1 hi1 ⊢
    try simp (disch := decide) only [pl_3, pl_2, pl_q, pl_put]
    refine P_istore_n (L' := [(1, vi _), (0, vr 8)]) (pc := 32) dX1_readEvent_32 rfl (by decide) rfl ?_
    refine P_iload_n (pc := 33) dX1_readEvent_33 rfl 0 rfl ?_
    refine P_bipush (pc := 34) dX1_readEvent_34 (by decide) ?_
    refine P_icmp_eq (tgt := 48) (pc := 36) dX1_readEvent_36 (by decide) (by first | assumption | (unfold InR; omega)) (by first | assumption | (unfold InR; omega)) (fun c_36 => ?_) (fun c_36 => ?_)
    · refine P_iconst (pc := 48) dX1_readEvent_48 ?_
      exact P_zret (pc := 49) dX1_readEvent_49 rfl (by omega) (QI.mk (by
            first
              | (exfalso; omega)
              | (have e : (rdE (μ.1 37) (μ.1 8 2) (μ.1 1 6) (a + 1)) = rdF p1 := by
                   unfold rdE
                   rw [hE1]
                   dsimp only
                   rw [if_pos (by omega)]
                 rw [e]
                 exact ⟨rfl, by unfold rdF; dsimp only; rw [if_neg (show ¬ (0 : Int) = 1 by decide)]⟩)
              | (have e : (rdE (μ.1 37) (μ.1 8 2) (μ.1 1 6) (a + 1)) = rdF p2 := by
                   unfold rdE
                   rw [hE1]
                   dsimp only
                   rw [if_neg (by omega)]
                   unfold rdE1
                   rw [hE2]
                   dsimp only
                   rw [if_pos (by omega)]
                 rw [e]
                 exact ⟨rfl, by unfold rdF; dsimp only; rw [if_neg (show ¬ (0 : Int) = 1 by decide)]⟩)))
    · have hv1 : v1 = z_ := by omega
      subst hv1
      refine P_aload_n (pc := 39) dX1_readEvent_39 rfl 1 rfl ?_
      refine P_bipush (pc := 40) dX1_readEvent_40 (by decide) ?_
      refine P_callVi (Y' := mX1_skip) (as := [_]) (pc := 42) dX1_readEvent_42 rfl (by decide : 1 < 3) sC_8 rfl ml_RX1_54 im_X1_skip se_X1_skip mk_X1_skip (Nat.le_of_ble_eq_true rfl) (c_X1_skip hT (by omega) (by omega)) (fun z_ μ_ hq => ?_)
      obtain ⟨hz2, hμ_, hi2⟩ := hq
      subst hμ_
      generalize hE2 : tsR (μ.1 37) (μ.1 8 2) 44 p1 = r2 at hz2 hi2 ⊢
      obtain ⟨v2, p2⟩ := r2
      dsimp only at hz2 hi2 ⊢
      have hz2 := hz2.symm
      subst hz2
      try simp (disch := decide) only [pl_3, pl_2, pl_q, pl_put]
      refine P_if_ne (tgt := 50) (pc := 45) dX1_readEvent_45 (by decide) (by first | assumption | (unfold InR; omega)) (fun c_45 => ?_) (fun c_45 => ?_)
      · refine P_aload_n (pc := 50) dX1_readEvent_50 rfl 1 rfl ?_
        refine P_callVi (Y' := mX1_digit) (as := []) (pc := 51) dX1_readEvent_51 rfl (by decide : 1 < 3) sC_8 rfl ml_RX1_48 im_X1_digit se_X1_digit mk_X1_digit (Nat.le_of_ble_eq_true rfl) (c_X1_digit hT (by omega)) (fun z_ μ_ hq => ?_)
        obtain ⟨hz3, hμ_, hi3⟩ := hq
        subst hμ_
        generalize hE3 : dgR (μ.1 37) (μ.1 8 2) 9 p2 = r3 at hz3 hi3
        obtain ⟨v3, p3⟩ := r3
        dsimp only at hz3 hi3
        have hz3 := hz3.symm
        subst hz3
        try simp (disch := decide) only [pl_3, pl_2, pl_q, pl_put]
        refine P_istore_n (L' := [(2, vi _), (1, vi _), (0, vr 8)]) (pc := 54) dX1_readEvent_54 rfl (by decide) rfl ?_
        refine P_iload_n (pc := 55) dX1_readEvent_55 rfl 0 rfl ?_
        refine P_if_ge (tgt := 61) (pc := 56) dX1_readEvent_56 (by decide) (by first | assumption | (unfold InR; omega)) (fun c_56 => ?_) (fun c_56 => ?_)
        · refine P_aload_n (pc := 61) dX1_readEvent_61 rfl 2 rfl ?_
          refine P_dup (pc := 62) dX1_readEvent_62 rfl ?_
          refine P_getI (jj := 3) (pc := 63) dX1_readEvent_63 fa_RX1_23 sC_8 fC8_3 rfl ?_
          try simp (disch := decide) only [pl_3, pl_2, pl_q, pl_put]
          refine P_iconst (pc := 66) dX1_readEvent_66 ?_
          refine P_iadd (pc := 67) dX1_readEvent_67 ?_
          refine P_putI (jj := 3) (pc := 68) dX1_readEvent_68 fa_RX1_23 fp_1_3 sC_8 fC8_3 rfl ?_
          try simp (disch := decide) only [pl_3, pl_2, pl_q, pl_put]
          rw [show p2 + 1 = p3 by omega]
          refine P_aload_n (pc := 71) dX1_readEvent_71 rfl 2 rfl ?_
          refine P_bipush (pc := 72) dX1_readEvent_72 (by decide) ?_
          refine P_callVi (Y' := mX1_skip) (as := [_]) (pc := 74) dX1_readEvent_74 rfl (by decide : 1 < 3) sC_8 rfl ml_RX1_54 im_X1_skip se_X1_skip mk_X1_skip (Nat.le_of_ble_eq_true rfl) (c_X1_skip hT (by omega) (by omega)) (fun z_ μ_ hq => ?_)
          obtain ⟨hz4, hμ_, hi4⟩ := hq
          subst hμ_
          generalize hE4 : tsR (μ.1 37) (μ.1 8 2) 44 p3 = r4 at hz4 hi4 ⊢
          obtain ⟨v4, p4⟩ := r4
          dsimp only at hz4 hi4 ⊢
          have hz4 := hz4.symm
          subst hz4
          try simp (disch := decide) only [pl_3, pl_2, pl_q, pl_put]
          refine P_if_ne (tgt := 82) (pc := 77) dX1_readEvent_77 (by decide) (by first | assumption | (unfold InR; omega)) (fun c_77 => ?_) (fun c_77 => ?_)
          · refine P_aload_n (pc := 82) dX1_readEvent_82 rfl 2 rfl ?_
            refine P_iconst (pc := 83) dX1_readEvent_83 ?_
            refine P_aload_n (pc := 84) dX1_readEvent_84 rfl 2 rfl ?_
            refine P_getR (pc := 85) dX1_readEvent_85 fa_RX1_15 sC_8 fC8_0 ?_
            refine P_getI (jj := 6) (pc := 88) dX1_readEvent_88 fa_RX1_43 sC_1 fC1_6 rfl ?_
            try simp (disch := decide) only [pl_3, pl_2, pl_q, pl_put]
            refine P_iconst (pc := 91) dX1_readEvent_91 ?_
            refine P_isub (pc := 92) dX1_readEvent_92 ?_
            refine P_iconst (pc := 93) dX1_readEvent_93 ?_
            refine P_callVi (Y' := mX1_readNumber) (as := [_, _, _]) (pc := 94) dX1_readEvent_94 rfl (by decide : 2 < 3) sC_8 rfl ml_RX1_69 im_X1_readNumber se_X1_readNumber mk_X1_readNumber (Nat.le_of_ble_eq_true rfl) (c_X1_readNumber hT (by omega) (by omega) (by omega)) (fun z_ μ_ hq => ?_)
            obtain ⟨hz5, hμ_, hi5⟩ := hq
            subst hμ_
            have n5 := rnC_2 (lo := 0) (hi := μ.1 1 6 - 1) (a := p4) hT (by omega)
            rw [n5.1]
            have n5 := n5.2
            rw [← hz5] at n5
            generalize hE5 : nmR (μ.1 37) (μ.1 8 2) 0 (μ.1 1 6 - 1) (p4) = r5 at n5 hi5 ⊢
            obtain ⟨v5, p5⟩ := r5
            dsimp only at n5 hi5 ⊢
            try simp (disch := decide) only [pl_3, pl_2, pl_q, pl_put]
            refine P_istore_n (L' := [(3, vi _), (2, vi _), (1, vi _), (0, vr 8)]) (pc := 97) dX1_readEvent_97 rfl (by decide) rfl ?_
            refine P_iload_n (pc := 98) dX1_readEvent_98 rfl 0 rfl ?_
            refine P_bipush (pc := 99) dX1_readEvent_99 (by decide) ?_
            refine P_icmp_ne (tgt := 106) (pc := 101) dX1_readEvent_101 (by decide) (by first | assumption | (unfold InR; omega)) (by first | assumption | (unfold InR; omega)) (fun c_101 => ?_) (fun c_101 => ?_)
            · have hv5 : v5 = z_ := by omega
              subst hv5
              refine P_bipush (pc := 106) dX1_readEvent_106 (by decide) ?_
              refine P_istore (L' := [(4, vi _), (3, vi _), (2, vi _), (1, vi _), (0, vr 8)]) (pc := 108) dX1_readEvent_108 (by decide) rfl ?_
              refine P_iload_n (pc := 110) dX1_readEvent_110 rfl 2 rfl ?_
              refine P_callNi (Y' := mX5_hasSecond) (as := [_]) (pc := 111) dX1_readEvent_111 rfl (by decide : 0 < 3) nm_RX1_73 sm_X5_hasSecond mk_X5_hasSecond (Nat.le_of_ble_eq_true rfl) (c_X5_hasSecond (by unfold InR; omega)) (fun z_ μ_ hq => ?_)
              obtain ⟨hz, hμ_⟩ := hq
              subst hμ_
              have hzs := ite01 hz
              try simp (disch := decide) only [pl_3, pl_2, pl_q, pl_put]
              refine P_if_eq (tgt := 170) (pc := 114) dX1_readEvent_114 (by decide) (by first | assumption | (unfold InR; omega)) (fun c_114 => ?_) (fun c_114 => ?_)
              · refine P_aload_n (pc := 170) dX1_readEvent_170 rfl 4 rfl ?_
                refine P_callVi (Y' := mX1_readUnknown) (as := []) (pc := 171) dX1_readEvent_171 rfl (by decide : 2 < 3) sC_8 rfl ml_RX1_77 im_X1_readUnknown se_X1_readUnknown mk_X1_readUnknown (Nat.le_of_ble_eq_true rfl) (c_X1_readUnknown hT (by omega)) (fun z_ μ_ hq => ?_)
                obtain ⟨hz8, hμ_⟩ := hq
                subst hμ_
                first
                  | have b8 := ruC_in (a := p7) hT (by omega)
                  | have b8 := ruC_in (a := p5) hT (by omega)
                first
                  | generalize hE8 : ruC (μ.1 37) (μ.1 8 2) p7 = r8 at hz8 b8 ⊢
                  | generalize hE8 : ruC (μ.1 37) (μ.1 8 2) p5 = r8 at hz8 b8 ⊢
                obtain ⟨v8, p8⟩ := r8
                dsimp only at hz8 b8 ⊢
                have hz8 := hz8.symm
                subst hz8
                try simp (disch := decide) only [pl_3, pl_2, pl_q, pl_put]
                refine P_istore (L' := [(5, vi _), (4, vi _), (3, vi _), (2, vi _), (1, vi _), (0, vr 8)]) (pc := 174) dX1_readEvent_174 (by decide) rfl ?_
                refine P_iload (pc := 176) dX1_readEvent_176 0 rfl ?_
                refine P_bipush (pc := 178) dX1_readEvent_178 (by decide) ?_
                refine P_icmp_eq (tgt := 192) (pc := 180) dX1_readEvent_180 (by decide) (by first | assumption | (unfold InR; omega)) (by first | assumption | (unfold InR; omega)) (fun c_180 => ?_) (fun c_180 => ?_)
                · refine P_iconst (pc := 192) dX1_readEvent_192 ?_
                  exact P_zret (pc := 193) dX1_readEvent_193 rfl (by omega) (QI.mk (by
                        first
                          | (exfalso; omega)
                          | (have e : (rdE (μ.1 37) (μ.1 8 2) (μ.1 1 6) (a + 1)) = rdF p8 := by
                               unfold rdE
                               rw [hE1]
                               dsimp only
                               rw [if_neg (by omega)]
                               unfold rdE1
                               rw [hE2]
                               dsimp only
                               rw [if_neg (by omega)]
                               unfold rdE2
                               rw [hE3]
                               dsimp only
                               rw [if_neg (by omega)]
                               unfold rdE3
                               rw [hE4]
                               dsimp only
                               rw [if_neg (by omega)]
                               unfold rdE4
                               rw [hE5]
                               dsimp only
                               rw [if_neg (by omega)]
                               unfold rdE5
                               rw [if_pos (by omega)]
                               unfold rdE6
                               rw [hE6]
                               dsimp only
                               rw [if_neg (by omega)]
                               rw [rdE7_c hT, hE7]
                               dsimp only
                               rw [if_neg (by omega)]
                               rw [rdE8_c hT, hE8]
                               dsimp only
                               rw [if_pos (by omega)]
                             rw [e]
                             exact ⟨rfl, by unfold rdF; dsimp only; rw [if_neg (show ¬ (0 : Int) = 1 by decide)]⟩)
                          | (have e : (rdE (μ.1 37) (μ.1 8 2) (μ.1 1 6) (a + 1)) = rdF p8 := by
                               unfold rdE
                               rw [hE1]
                               dsimp only
                               rw [if_neg (by omega)]
                               unfold rdE1
                               rw [hE2]
                               dsimp only
                               rw [if_neg (by omega)]
                               unfold rdE2
                               rw [hE3]
                               dsimp only
                               rw [if_neg (by omega)]
                               unfold rdE3
                               rw [hE4]
                               dsimp only
                               rw [if_neg (by omega)]
                               unfold rdE4
                               rw [hE5]
                               dsimp only
                               rw [if_neg (by omega)]
                               unfold rdE5
                               rw [if_neg (by omega)]
                               rw [rdE8_c hT, hE8]
                               dsimp only
                               rw [if_pos (by omega)]
                             rw [e]
                             exact ⟨rfl, by unfold rdF; dsimp only; rw [if_neg (show ¬ (0 : Int) = 1 by decide)]⟩)
                          | (have e : (rdE (μ.1 37) (μ.1 8 2) (μ.1 1 6) (a + 1)) = rdF p9 := by
                               unfold rdE
                               rw [hE1]
                               dsimp only
                               rw [if_neg (by omega)]
                               unfold rdE1
                               rw [hE2]
                               dsimp only
                               rw [if_neg (by omega)]
                               unfold rdE2
                               rw [hE3]
                               dsimp only
                               rw [if_neg (by omega)]
                               unfold rdE3
                               rw [hE4]
                               dsimp only
                               rw [if_neg (by omega)]
                               unfold rdE4
                               rw [hE5]
                               dsimp only
                               rw [if_neg (by omega)]
                               unfold rdE5
                               rw [if_pos (by omega)]
                               unfold rdE6
                               rw [hE6]
                               dsimp only
                               rw [if_neg (by omega)]
                               rw [rdE7_c hT, hE7]
                               dsimp only
                               rw [if_neg (by omega)]
                               rw [rdE8_c hT, hE8]
                               dsimp only
                               rw [if_neg (by omega)]
                               unfold rdE10
                               rw [hE9]
                               dsimp only
                               rw [if_pos (by omega)]
                             rw [e]
                             exact ⟨rfl, by unfold rdF; dsimp only; rw [if_neg (show ¬ (0 : Int) = 1 by decide)]⟩)
                          | (have e : (rdE (μ.1 37) (μ.1 8 2) (μ.1 1 6) (a + 1)) = rdF p9 := by
                               unfold rdE
                               rw [hE1]
                               dsimp only
                               rw [if_neg (by omega)]
                               unfold rdE1
                               rw [hE2]
                               dsimp only
                               rw [if_neg (by omega)]
                               unfold rdE2
                               rw [hE3]
                               dsimp only
                               rw [if_neg (by omega)]
                               unfold rdE3
                               rw [hE4]
                               dsimp only
                               rw [if_neg (by omega)]
                               unfold rdE4
                               rw [hE5]
                               dsimp only
                               rw [if_neg (by omega)]
                               unfold rdE5
                               rw [if_neg (by omega)]
                               rw [rdE8_c hT, hE8]
                               dsimp only
                               rw [if_neg (by omega)]
                               unfold rdE10
                               rw [hE9]
                               dsimp only
                               rw [if_pos (by omega)]
                             rw [e]
                             exact ⟨rfl, by unfold rdF; dsimp only; rw [if_neg (show ¬ (0 : Int) = 1 by decide)]⟩)))
                · refine P_aload_n (pc := 183) dX1_readEvent_183 rfl 5 rfl ?_
                  refine P_bipush (pc := 184) dX1_readEvent_184 (by decide) ?_
                  refine P_callVi (Y' := mX1_skip) (as := [_]) (pc := 186) dX1_readEvent_186 rfl (by decide : 1 < 3) sC_8 rfl ml_RX1_54 im_X1_skip se_X1_skip mk_X1_skip (Nat.le_of_ble_eq_true rfl) (c_X1_skip hT (by omega) (by omega)) (fun z_ μ_ hq => ?_)
                  obtain ⟨hz9, hμ_, hi9⟩ := hq
                  subst hμ_
                  generalize hE9 : tsR (μ.1 37) (μ.1 8 2) 59 p8 = r9 at hz9 hi9 ⊢
                  obtain ⟨v9, p9⟩ := r9
                  dsimp only at hz9 hi9 ⊢
                  have hz9 := hz9.symm
                  subst hz9
                  try simp (disch := decide) only [pl_3, pl_2, pl_q, pl_put]
                  refine P_if_ne (tgt := 194) (pc := 189) dX1_readEvent_189 (by decide) (by first | assumption | (unfold InR; omega)) (fun c_189 => ?_) (fun c_189 => ?_)
                  · refine P_aload_n (pc := 194) dX1_readEvent_194 rfl 5 rfl ?_
                    refine P_getR (pc := 195) dX1_readEvent_195 fa_RX1_15 sC_8 fC8_0 ?_
                    refine P_iload_n (pc := 198) dX1_readEvent_198 rfl 4 rfl ?_
                    refine P_iload_n (pc := 199) dX1_readEvent_199 rfl 3 rfl ?_
                    refine P_iload_n (pc := 200) dX1_readEvent_200 rfl 2 rfl ?_
                    refine P_iload (pc := 201) dX1_readEvent_201 1 rfl ?_
                    refine P_iload (pc := 203) dX1_readEvent_203 0 rfl ?_
                    refine P_callVi (Y' := mX3_addEvent) (as := [_, _, _, _, _]) (pc := 205) dX1_readEvent_205 rfl (by decide : 1 < 3) sC_1 rfl ml_RX1_80 im_X3_addEvent se_X3_addEvent mk_X3_addEvent (Nat.le_of_ble_eq_true rfl) (c_X3_addEvent (by simp (disch := decide) only [pl_q]; omega) (by unfold InR; omega)) (fun z_ μ_ hq => ?_)
                    obtain ⟨-, hμ_⟩ := hq
                    subst hμ_
                    rw [pl_event]
                    try simp (disch := decide) only [pl_3, pl_2, pl_q, pl_put]
                    refine P_pop (pc := 208) dX1_readEvent_208 rfl ?_
                    refine P_iconst (pc := 209) dX1_readEvent_209 ?_
                    exact P_zret (pc := 210) dX1_readEvent_210 rfl (by omega) (QI.mk (by
                          first
                            | (exfalso; omega)
                            | (have e : (rdE (μ.1 37) (μ.1 8 2) (μ.1 1 6) (a + 1)) = (1, p9, v1, v3, v5, v7, v8) := by
                                 unfold rdE
                                 rw [hE1]
                                 dsimp only
                                 rw [if_neg (by omega)]
                                 unfold rdE1
                                 rw [hE2]
                                 dsimp only
                                 rw [if_neg (by omega)]
                                 unfold rdE2
                                 rw [hE3]
                                 dsimp only
                                 rw [if_neg (by omega)]
                                 unfold rdE3
                                 rw [hE4]
                                 dsimp only
                                 rw [if_neg (by omega)]
                                 unfold rdE4
                                 rw [hE5]
                                 dsimp only
                                 rw [if_neg (by omega)]
                                 unfold rdE5
                                 rw [if_pos (by omega)]
                                 unfold rdE6
                                 rw [hE6]
                                 dsimp only
                                 rw [if_neg (by omega)]
                                 rw [rdE7_c hT, hE7]
                                 dsimp only
                                 rw [if_neg (by omega)]
                                 rw [rdE8_c hT, hE8]
                                 dsimp only
                                 rw [if_neg (by omega)]
                                 unfold rdE10
                                 rw [hE9]
                                 dsimp only
                                 rw [if_neg (by omega)]
                               rw [e]
                               exact ⟨rfl, by rw [if_pos rfl]⟩)
                            | (have e : (rdE (μ.1 37) (μ.1 8 2) (μ.1 1 6) (a + 1)) = (1, p9, v1, v3, v5, -9, v8) := by
                                 unfold rdE
                                 rw [hE1]
                                 dsimp only
                                 rw [if_neg (by omega)]
                                 unfold rdE1
                                 rw [hE2]
                                 dsimp only
                                 rw [if_neg (by omega)]
                                 unfold rdE2
                                 rw [hE3]
                                 dsimp only
                                 rw [if_neg (by omega)]
                                 unfold rdE3
                                 rw [hE4]
                                 dsimp only
                                 rw [if_neg (by omega)]
                                 unfold rdE4
                                 rw [hE5]
                                 dsimp only
                                 rw [if_neg (by omega)]
                                 unfold rdE5
                                 rw [if_neg (by omega)]
                                 rw [rdE8_c hT, hE8]
                                 dsimp only
                                 rw [if_neg (by omega)]
                                 unfold rdE10
                                 rw [hE9]
                                 dsimp only
                                 rw [if_neg (by omega)]
                               rw [e]
                               exact ⟨rfl, by rw [if_pos rfl]⟩)))
                  · refine P_iconst (pc := 192) dX1_readEvent_192 ?_
                    exact P_zret (pc := 193) dX1_readEvent_193 rfl (by omega) (QI.mk (by
                          first
                            | (exfalso; omega)
                            | (have e : (rdE (μ.1 37) (μ.1 8 2) (μ.1 1 6) (a + 1)) = rdF p8 := by
                                 unfold rdE
                                 rw [hE1]
                                 dsimp only
                                 rw [if_neg (by omega)]
                                 unfold rdE1
                                 rw [hE2]
                                 dsimp only
                                 rw [if_neg (by omega)]
                                 unfold rdE2
                                 rw [hE3]
                                 dsimp only
                                 rw [if_neg (by omega)]
                                 unfold rdE3
                                 rw [hE4]
                                 dsimp only
                                 rw [if_neg (by omega)]
                                 unfold rdE4
                                 rw [hE5]
                                 dsimp only
                                 rw [if_neg (by omega)]
                                 unfold rdE5
                                 rw [if_pos (by omega)]
                                 unfold rdE6
                                 rw [hE6]
                                 dsimp only
                                 rw [if_neg (by omega)]
                                 rw [rdE7_c hT, hE7]
                                 dsimp only
                                 rw [if_neg (by omega)]
                                 rw [rdE8_c hT, hE8]
                                 dsimp only
                                 rw [if_pos (by omega)]
                               rw [e]
                               exact ⟨rfl, by unfold rdF; dsimp only; rw [if_neg (show ¬ (0 : Int) = 1 by decide)]⟩)
                            | (have e : (rdE (μ.1 37) (μ.1 8 2) (μ.1 1 6) (a + 1)) = rdF p8 := by
                                 unfold rdE
                                 rw [hE1]
                                 dsimp only
                                 rw [if_neg (by omega)]
                                 unfold rdE1
                                 rw [hE2]
                                 dsimp only
                                 rw [if_neg (by omega)]
                                 unfold rdE2
                                 rw [hE3]
                                 dsimp only
                                 rw [if_neg (by omega)]
                                 unfold rdE3
                                 rw [hE4]
                                 dsimp only
                                 rw [if_neg (by omega)]
                                 unfold rdE4
                                 rw [hE5]
                                 dsimp only
                                 rw [if_neg (by omega)]
                                 unfold rdE5
                                 rw [if_neg (by omega)]
                                 rw [rdE8_c hT, hE8]
                                 dsimp only
                                 rw [if_pos (by omega)]
                               rw [e]
                               exact ⟨rfl, by unfold rdF; dsimp only; rw [if_neg (show ¬ (0 : Int) = 1 by decide)]⟩)
                            | (have e : (rdE (μ.1 37) (μ.1 8 2) (μ.1 1 6) (a + 1)) = rdF p9 := by
                                 unfold rdE
                                 rw [hE1]
                                 dsimp only
                                 rw [if_neg (by omega)]
                                 unfold rdE1
                                 rw [hE2]
                                 dsimp only
                                 rw [if_neg (by omega)]
                                 unfold rdE2
                                 rw [hE3]
                                 dsimp only
                                 rw [if_neg (by omega)]
                                 unfold rdE3
                                 rw [hE4]
                                 dsimp only
                                 rw [if_neg (by omega)]
                                 unfold rdE4
                                 rw [hE5]
                                 dsimp only
                                 rw [if_neg (by omega)]
                                 unfold rdE5
                                 rw [if_pos (by omega)]
                                 unfold rdE6
                                 rw [hE6]
                                 dsimp only
                                 rw [if_neg (by omega)]
                                 rw [rdE7_c hT, hE7]
                                 dsimp only
                                 rw [if_neg (by omega)]
                                 rw [rdE8_c hT, hE8]
                                 dsimp only
                                 rw [if_neg (by omega)]
                                 unfold rdE10
                                 rw [hE9]
                                 dsimp only
                                 rw [if_pos (by omega)]
                               rw [e]
                               exact ⟨rfl, by unfold rdF; dsimp only; rw [if_neg (show ¬ (0 : Int) = 1 by decide)]⟩)
                            | (have e : (rdE (μ.1 37) (μ.1 8 2) (μ.1 1 6) (a + 1)) = rdF p9 := by
                                 unfold rdE
                                 rw [hE1]
                                 dsimp only
                                 rw [if_neg (by omega)]
                                 unfold rdE1
                                 rw [hE2]
                                 dsimp only
                                 rw [if_neg (by omega)]
                                 unfold rdE2
                                 rw [hE3]
                                 dsimp only
                                 rw [if_neg (by omega)]
                                 unfold rdE3
                                 rw [hE4]
                                 dsimp only
                                 rw [if_neg (by omega)]
                                 unfold rdE4
                                 rw [hE5]
                                 dsimp only
                                 rw [if_neg (by omega)]
                                 unfold rdE5
                                 rw [if_neg (by omega)]
                                 rw [rdE8_c hT, hE8]
                                 dsimp only
                                 rw [if_neg (by omega)]
                                 unfold rdE10
                                 rw [hE9]
                                 dsimp only
                                 rw [if_pos (by omega)]
                               rw [e]
                               exact ⟨rfl, by unfold rdF; dsimp only; rw [if_neg (show ¬ (0 : Int) = 1 by decide)]⟩)))
              · refine P_aload_n (pc := 117) dX1_readEvent_117 rfl 4 rfl ?_
                refine P_bipush (pc := 118) dX1_readEvent_118 (by decide) ?_
                refine P_callVi (Y' := mX1_skip) (as := [_]) (pc := 120) dX1_readEvent_120 rfl (by decide : 1 < 3) sC_8 rfl ml_RX1_54 im_X1_skip se_X1_skip mk_X1_skip (Nat.le_of_ble_eq_true rfl) (c_X1_skip hT (by omega) (by omega)) (fun z_ μ_ hq => ?_)
                obtain ⟨hz6, hμ_, hi6⟩ := hq
                subst hμ_
                generalize hE6 : tsR (μ.1 37) (μ.1 8 2) 44 p5 = r6 at hz6 hi6 ⊢
                obtain ⟨v6, p6⟩ := r6
                dsimp only at hz6 hi6 ⊢
                have hz6 := hz6.symm
                subst hz6
                try simp (disch := decide) only [pl_3, pl_2, pl_q, pl_put]
                refine P_if_ne (tgt := 128) (pc := 123) dX1_readEvent_123 (by decide) (by first | assumption | (unfold InR; omega)) (fun c_123 => ?_) (fun c_123 => ?_)
                · refine P_iload_n (pc := 128) dX1_readEvent_128 rfl 2 rfl ?_
                  refine P_bipush (pc := 129) dX1_readEvent_129 (by decide) ?_
                  refine P_icmp_ne (tgt := 144) (pc := 131) dX1_readEvent_131 (by decide) (by first | assumption | (unfold InR; omega)) (by first | assumption | (unfold InR; omega)) (fun c_131 => ?_) (fun c_131 => ?_)
                  · refine P_aload_n (pc := 144) dX1_readEvent_144 rfl 4 rfl ?_
                    refine P_iconst (pc := 145) dX1_readEvent_145 ?_
                    refine P_aload_n (pc := 146) dX1_readEvent_146 rfl 4 rfl ?_
                    refine P_getR (pc := 147) dX1_readEvent_147 fa_RX1_15 sC_8 fC8_0 ?_
                    refine P_getI (jj := 6) (pc := 150) dX1_readEvent_150 fa_RX1_43 sC_1 fC1_6 rfl ?_
                    try simp (disch := decide) only [pl_3, pl_2, pl_q, pl_put]
                    refine P_iconst (pc := 153) dX1_readEvent_153 ?_
                    refine P_isub (pc := 154) dX1_readEvent_154 ?_
                    refine P_iload_n (pc := 155) dX1_readEvent_155 rfl 1 rfl ?_
                    refine P_callVi (Y' := mX1_readNumber) (as := [_, _, _]) (pc := 156) dX1_readEvent_156 rfl (by decide : 2 < 3) sC_8 rfl ml_RX1_69 im_X1_readNumber se_X1_readNumber mk_X1_readNumber (Nat.le_of_ble_eq_true rfl) (c_X1_readNumber hT (by omega) (by omega) (by omega)) (fun z_ μ_ hq => ?_)
                    obtain ⟨hz7, hμ_, hi7⟩ := hq
                    subst hμ_
                    have b1 := rnC_in (lo := 0) (hi := μ.1 1 6 - 1) (bar := v5) (a := p6) hT (by decide)
                    generalize hE7_ : rnC (μ.1 37) (μ.1 8 2) 0 (μ.1 1 6 - 1) v5 p6 = r7 at hz7 hi7 b1 ⊢
                    obtain ⟨v7, p7⟩ := r7
                    dsimp only at hz7 hi7 b1 ⊢
                    have hE7 : (if v3 = 9 then rnC (μ.1 37) (μ.1 8 2) 1 4 (-1) p6 else rnC (μ.1 37) (μ.1 8 2) 0 (μ.1 1 6 - 1) v5 p6) = (v7, p7) := by
                      rw [if_neg (by omega)]
                      exact hE7_
                    have b7 : (v7 = -2 ∨ (0 ≤ v7 ∧ v7 ≤ 12)) ∧ p6 ≤ p7 ∧ p7 ≤ μ.1 8 2 := by omega
                    clear b1
                    have hz7 := hz7.symm
                    subst hz7
                    try simp (disch := decide) only [pl_3, pl_2, pl_q, pl_put]
                    refine P_istore (L' := [(4, vi _), (3, vi _), (2, vi _), (1, vi _), (0, vr 8)]) (pc := 159) dX1_readEvent_159 (by decide) rfl ?_
                    refine P_iload (pc := 161) dX1_readEvent_161 0 rfl ?_
                    refine P_bipush (pc := 163) dX1_readEvent_163 (by decide) ?_
                    refine P_icmp_ne (tgt := 170) (pc := 165) dX1_readEvent_165 (by decide) (by first | assumption | (unfold InR; omega)) (by first | assumption | (unfold InR; omega)) (fun c_165 => ?_) (fun c_165 => ?_)
                    · refine P_aload_n (pc := 170) dX1_readEvent_170 rfl 4 rfl ?_
                      refine P_callVi (Y' := mX1_readUnknown) (as := []) (pc := 171) dX1_readEvent_171 rfl (by decide : 2 < 3) sC_8 rfl ml_RX1_77 im_X1_readUnknown se_X1_readUnknown mk_X1_readUnknown (Nat.le_of_ble_eq_true rfl) (c_X1_readUnknown hT (by omega)) (fun z_ μ_ hq => ?_)
                      obtain ⟨hz8, hμ_⟩ := hq
                      subst hμ_
                      first
                        | have b8 := ruC_in (a := p7) hT (by omega)
                        | have b8 := ruC_in (a := p5) hT (by omega)
                      first
                        | generalize hE8 : ruC (μ.1 37) (μ.1 8 2) p7 = r8 at hz8 b8 ⊢
                        | generalize hE8 : ruC (μ.1 37) (μ.1 8 2) p5 = r8 at hz8 b8 ⊢
                      obtain ⟨v8, p8⟩ := r8
                      dsimp only at hz8 b8 ⊢
                      have hz8 := hz8.symm
                      subst hz8
                      try simp (disch := decide) only [pl_3, pl_2, pl_q, pl_put]
                      refine P_istore (L' := [(5, vi _), (4, vi _), (3, vi _), (2, vi _), (1, vi _), (0, vr 8)]) (pc := 174) dX1_readEvent_174 (by decide) rfl ?_
                      refine P_iload (pc := 176) dX1_readEvent_176 0 rfl ?_
                      refine P_bipush (pc := 178) dX1_readEvent_178 (by decide) ?_
                      refine P_icmp_eq (tgt := 192) (pc := 180) dX1_readEvent_180 (by decide) (by first | assumption | (unfold InR; omega)) (by first | assumption | (unfold InR; omega)) (fun c_180 => ?_) (fun c_180 => ?_)
                      · refine P_iconst (pc := 192) dX1_readEvent_192 ?_
                        exact P_zret (pc := 193) dX1_readEvent_193 rfl (by omega) (QI.mk (by
                              first
                                | (exfalso; omega)
                                | (have e : (rdE (μ.1 37) (μ.1 8 2) (μ.1 1 6) (a + 1)) = rdF p8 := by
                                     unfold rdE
                                     rw [hE1]
                                     dsimp only
                                     rw [if_neg (by omega)]
                                     unfold rdE1
                                     rw [hE2]
                                     dsimp only
                                     rw [if_neg (by omega)]
                                     unfold rdE2
                                     rw [hE3]
                                     dsimp only
                                     rw [if_neg (by omega)]
                                     unfold rdE3
                                     rw [hE4]
                                     dsimp only
                                     rw [if_neg (by omega)]
                                     unfold rdE4
                                     rw [hE5]
                                     dsimp only
                                     rw [if_neg (by omega)]
                                     unfold rdE5
                                     rw [if_pos (by omega)]
                                     unfold rdE6
                                     rw [hE6]
                                     dsimp only
                                     rw [if_neg (by omega)]
                                     rw [rdE7_c hT, hE7]
                                     dsimp only
                                     rw [if_neg (by omega)]
                                     rw [rdE8_c hT, hE8]
                                     dsimp only
                                     rw [if_pos (by omega)]
                                   rw [e]
                                   exact ⟨rfl, by unfold rdF; dsimp only; rw [if_neg (show ¬ (0 : Int) = 1 by decide)]⟩)
                                | (have e : (rdE (μ.1 37) (μ.1 8 2) (μ.1 1 6) (a + 1)) = rdF p8 := by
                                     unfold rdE
                                     rw [hE1]
                                     dsimp only
                                     rw [if_neg (by omega)]
                                     unfold rdE1
                                     rw [hE2]
                                     dsimp only
                                     rw [if_neg (by omega)]
                                     unfold rdE2
                                     rw [hE3]
                                     dsimp only
                                     rw [if_neg (by omega)]
                                     unfold rdE3
                                     rw [hE4]
                                     dsimp only
                                     rw [if_neg (by omega)]
                                     unfold rdE4
                                     rw [hE5]
                                     dsimp only
                                     rw [if_neg (by omega)]
                                     unfold rdE5
                                     rw [if_neg (by omega)]
                                     rw [rdE8_c hT, hE8]
                                     dsimp only
                                     rw [if_pos (by omega)]
                                   rw [e]
                                   exact ⟨rfl, by unfold rdF; dsimp only; rw [if_neg (show ¬ (0 : Int) = 1 by decide)]⟩)
                                | (have e : (rdE (μ.1 37) (μ.1 8 2) (μ.1 1 6) (a + 1)) = rdF p9 := by
                                     unfold rdE
                                     rw [hE1]
                                     dsimp only
                                     rw [if_neg (by omega)]
                                     unfold rdE1
                                     rw [hE2]
                                     dsimp only
                                     rw [if_neg (by omega)]
                                     unfold rdE2
                                     rw [hE3]
                                     dsimp only
                                     rw [if_neg (by omega)]
                                     unfold rdE3
                                     rw [hE4]
                                     dsimp only
                                     rw [if_neg (by omega)]
                                     unfold rdE4
                                     rw [hE5]
                                     dsimp only
                                     rw [if_neg (by omega)]
                                     unfold rdE5
                                     rw [if_pos (by omega)]
                                     unfold rdE6
                                     rw [hE6]
                                     dsimp only
                                     rw [if_neg (by omega)]
                                     rw [rdE7_c hT, hE7]
                                     dsimp only
                                     rw [if_neg (by omega)]
                                     rw [rdE8_c hT, hE8]
                                     dsimp only
                                     rw [if_neg (by omega)]
                                     unfold rdE10
                                     rw [hE9]
                                     dsimp only
                                     rw [if_pos (by omega)]
                                   rw [e]
                                   exact ⟨rfl, by unfold rdF; dsimp only; rw [if_neg (show ¬ (0 : Int) = 1 by decide)]⟩)
                                | (have e : (rdE (μ.1 37) (μ.1 8 2) (μ.1 1 6) (a + 1)) = rdF p9 := by
                                     unfold rdE
                                     rw [hE1]
                                     dsimp only
                                     rw [if_neg (by omega)]
                                     unfold rdE1
                                     rw [hE2]
                                     dsimp only
                                     rw [if_neg (by omega)]
                                     unfold rdE2
                                     rw [hE3]
                                     dsimp only
                                     rw [if_neg (by omega)]
                                     unfold rdE3
                                     rw [hE4]
                                     dsimp only
                                     rw [if_neg (by omega)]
                                     unfold rdE4
                                     rw [hE5]
                                     dsimp only
                                     rw [if_neg (by omega)]
                                     unfold rdE5
                                     rw [if_neg (by omega)]
                                     rw [rdE8_c hT, hE8]
                                     dsimp only
                                     rw [if_neg (by omega)]
                                     unfold rdE10
                                     rw [hE9]
                                     dsimp only
                                     rw [if_pos (by omega)]
                                   rw [e]
                                   exact ⟨rfl, by unfold rdF; dsimp only; rw [if_neg (show ¬ (0 : Int) = 1 by decide)]⟩)))
                      · refine P_aload_n (pc := 183) dX1_readEvent_183 rfl 5 rfl ?_
                        refine P_bipush (pc := 184) dX1_readEvent_184 (by decide) ?_
                        refine P_callVi (Y' := mX1_skip) (as := [_]) (pc := 186) dX1_readEvent_186 rfl (by decide : 1 < 3) sC_8 rfl ml_RX1_54 im_X1_skip se_X1_skip mk_X1_skip (Nat.le_of_ble_eq_true rfl) (c_X1_skip hT (by omega) (by omega)) (fun z_ μ_ hq => ?_)
                        obtain ⟨hz9, hμ_, hi9⟩ := hq
                        subst hμ_
                        generalize hE9 : tsR (μ.1 37) (μ.1 8 2) 59 p8 = r9 at hz9 hi9 ⊢
                        obtain ⟨v9, p9⟩ := r9
                        dsimp only at hz9 hi9 ⊢
                        have hz9 := hz9.symm
                        subst hz9
                        try simp (disch := decide) only [pl_3, pl_2, pl_q, pl_put]
                        refine P_if_ne (tgt := 194) (pc := 189) dX1_readEvent_189 (by decide) (by first | assumption | (unfold InR; omega)) (fun c_189 => ?_) (fun c_189 => ?_)
                        · refine P_aload_n (pc := 194) dX1_readEvent_194 rfl 5 rfl ?_
                          refine P_getR (pc := 195) dX1_readEvent_195 fa_RX1_15 sC_8 fC8_0 ?_
                          refine P_iload_n (pc := 198) dX1_readEvent_198 rfl 4 rfl ?_
                          refine P_iload_n (pc := 199) dX1_readEvent_199 rfl 3 rfl ?_
                          refine P_iload_n (pc := 200) dX1_readEvent_200 rfl 2 rfl ?_
                          refine P_iload (pc := 201) dX1_readEvent_201 1 rfl ?_
                          refine P_iload (pc := 203) dX1_readEvent_203 0 rfl ?_
                          refine P_callVi (Y' := mX3_addEvent) (as := [_, _, _, _, _]) (pc := 205) dX1_readEvent_205 rfl (by decide : 1 < 3) sC_1 rfl ml_RX1_80 im_X3_addEvent se_X3_addEvent mk_X3_addEvent (Nat.le_of_ble_eq_true rfl) (c_X3_addEvent (by simp (disch := decide) only [pl_q]; omega) (by unfold InR; omega)) (fun z_ μ_ hq => ?_)
                          obtain ⟨-, hμ_⟩ := hq
                          subst hμ_
                          rw [pl_event]
                          try simp (disch := decide) only [pl_3, pl_2, pl_q, pl_put]
                          refine P_pop (pc := 208) dX1_readEvent_208 rfl ?_
                          refine P_iconst (pc := 209) dX1_readEvent_209 ?_
                          exact P_zret (pc := 210) dX1_readEvent_210 rfl (by omega) (QI.mk (by
                                first
                                  | (exfalso; omega)
                                  | (have e : (rdE (μ.1 37) (μ.1 8 2) (μ.1 1 6) (a + 1)) = (1, p9, v1, v3, v5, v7, v8) := by
                                       unfold rdE
                                       rw [hE1]
                                       dsimp only
                                       rw [if_neg (by omega)]
                                       unfold rdE1
                                       rw [hE2]
                                       dsimp only
                                       rw [if_neg (by omega)]
                                       unfold rdE2
                                       rw [hE3]
                                       dsimp only
                                       rw [if_neg (by omega)]
                                       unfold rdE3
                                       rw [hE4]
                                       dsimp only
                                       rw [if_neg (by omega)]
                                       unfold rdE4
                                       rw [hE5]
                                       dsimp only
                                       rw [if_neg (by omega)]
                                       unfold rdE5
                                       rw [if_pos (by omega)]
                                       unfold rdE6
                                       rw [hE6]
                                       dsimp only
                                       rw [if_neg (by omega)]
                                       rw [rdE7_c hT, hE7]
                                       dsimp only
                                       rw [if_neg (by omega)]
                                       rw [rdE8_c hT, hE8]
                                       dsimp only
                                       rw [if_neg (by omega)]
                                       unfold rdE10
                                       rw [hE9]
                                       dsimp only
                                       rw [if_neg (by omega)]
                                     rw [e]
                                     exact ⟨rfl, by rw [if_pos rfl]⟩)
                                  | (have e : (rdE (μ.1 37) (μ.1 8 2) (μ.1 1 6) (a + 1)) = (1, p9, v1, v3, v5, -9, v8) := by
                                       unfold rdE
                                       rw [hE1]
                                       dsimp only
                                       rw [if_neg (by omega)]
                                       unfold rdE1
                                       rw [hE2]
                                       dsimp only
                                       rw [if_neg (by omega)]
                                       unfold rdE2
                                       rw [hE3]
                                       dsimp only
                                       rw [if_neg (by omega)]
                                       unfold rdE3
                                       rw [hE4]
                                       dsimp only
                                       rw [if_neg (by omega)]
                                       unfold rdE4
                                       rw [hE5]
                                       dsimp only
                                       rw [if_neg (by omega)]
                                       unfold rdE5
                                       rw [if_neg (by omega)]
                                       rw [rdE8_c hT, hE8]
                                       dsimp only
                                       rw [if_neg (by omega)]
                                       unfold rdE10
                                       rw [hE9]
                                       dsimp only
                                       rw [if_neg (by omega)]
                                     rw [e]
                                     exact ⟨rfl, by rw [if_pos rfl]⟩)))
                        · refine P_iconst (pc := 192) dX1_readEvent_192 ?_
                          exact P_zret (pc := 193) dX1_readEvent_193 rfl (by omega) (QI.mk (by
                                first
                                  | (exfalso; omega)
                                  | (have e : (rdE (μ.1 37) (μ.1 8 2) (μ.1 1 6) (a + 1)) = rdF p8 := by
                                       unfold rdE
                                       rw [hE1]
                                       dsimp only
                                       rw [if_neg (by omega)]
                                       unfold rdE1
                                       rw [hE2]
                                       dsimp only
                                       rw [if_neg (by omega)]
                                       unfold rdE2
                                       rw [hE3]
                                       dsimp only
                                       rw [if_neg (by omega)]
                                       unfold rdE3
                                       rw [hE4]
                                       dsimp only
                                       rw [if_neg (by omega)]
                                       unfold rdE4
                                       rw [hE5]
                                       dsimp only
                                       rw [if_neg (by omega)]
                                       unfold rdE5
                                       rw [if_pos (by omega)]
                                       unfold rdE6
                                       rw [hE6]
                                       dsimp only
                                       rw [if_neg (by omega)]
                                       rw [rdE7_c hT, hE7]
                                       dsimp only
                                       rw [if_neg (by omega)]
                                       rw [rdE8_c hT, hE8]
                                       dsimp only
                                       rw [if_pos (by omega)]
                                     rw [e]
                                     exact ⟨rfl, by unfold rdF; dsimp only; rw [if_neg (show ¬ (0 : Int) = 1 by decide)]⟩)
                                  | (have e : (rdE (μ.1 37) (μ.1 8 2) (μ.1 1 6) (a + 1)) = rdF p8 := by
                                       unfold rdE
                                       rw [hE1]
                                       dsimp only
                                       rw [if_neg (by omega)]
                                       unfold rdE1
                                       rw [hE2]
                                       dsimp only
                                       rw [if_neg (by omega)]
                                       unfold rdE2
                                       rw [hE3]
                                       dsimp only
                                       rw [if_neg (by omega)]
                                       unfold rdE3
                                       rw [hE4]
                                       dsimp only
                                       rw [if_neg (by omega)]
                                       unfold rdE4
                                       rw [hE5]
                                       dsimp only
                                       rw [if_neg (by omega)]
                                       unfold rdE5
                                       rw [if_neg (by omega)]
                                       rw [rdE8_c hT, hE8]
                                       dsimp only
                                       rw [if_pos (by omega)]
                                     rw [e]
                                     exact ⟨rfl, by unfold rdF; dsimp only; rw [if_neg (show ¬ (0 : Int) = 1 by decide)]⟩)
                                  | (have e : (rdE (μ.1 37) (μ.1 8 2) (μ.1 1 6) (a + 1)) = rdF p9 := by
                                       unfold rdE
                                       rw [hE1]
                                       dsimp only
                                       rw [if_neg (by omega)]
                                       unfold rdE1
                                       rw [hE2]
                                       dsimp only
                                       rw [if_neg (by omega)]
                                       unfold rdE2
                                       rw [hE3]
                                       dsimp only
                                       rw [if_neg (by omega)]
                                       unfold rdE3
                                       rw [hE4]
                                       dsimp only
                                       rw [if_neg (by omega)]
                                       unfold rdE4
                                       rw [hE5]
                                       dsimp only
                                       rw [if_neg (by omega)]
                                       unfold rdE5
                                       rw [if_pos (by omega)]
                                       unfold rdE6
                                       rw [hE6]
                                       dsimp only
                                       rw [if_neg (by omega)]
                                       rw [rdE7_c hT, hE7]
                                       dsimp only
                                       rw [if_neg (by omega)]
                                       rw [rdE8_c hT, hE8]
                                       dsimp only
                                       rw [if_neg (by omega)]
                                       unfold rdE10
                                       rw [hE9]
                                       dsimp only
                                       rw [if_pos (by omega)]
                                     rw [e]
                                     exact ⟨rfl, by unfold rdF; dsimp only; rw [if_neg (show ¬ (0 : Int) = 1 by decide)]⟩)
                                  | (have e : (rdE (μ.1 37) (μ.1 8 2) (μ.1 1 6) (a + 1)) = rdF p9 := by
                                       unfold rdE
                                       rw [hE1]
                                       dsimp only
                                       rw [if_neg (by omega)]
                                       unfold rdE1
                                       rw [hE2]
                                       dsimp only
                                       rw [if_neg (by omega)]
                                       unfold rdE2
                                       rw [hE3]
                                       dsimp only
                                       rw [if_neg (by omega)]
                                       unfold rdE3
                                       rw [hE4]
                                       dsimp only
                                       rw [if_neg (by omega)]
                                       unfold rdE4
                                       rw [hE5]
                                       dsimp only
                                       rw [if_neg (by omega)]
                                       unfold rdE5
                                       rw [if_neg (by omega)]
                                       rw [rdE8_c hT, hE8]
                                       dsimp only
                                       rw [if_neg (by omega)]
                                       unfold rdE10
                                       rw [hE9]
                                       dsimp only
                                       rw [if_pos (by omega)]
                                     rw [e]
                                     exact ⟨rfl, by unfold rdF; dsimp only; rw [if_neg (show ¬ (0 : Int) = 1 by decide)]⟩)))
                    · refine P_iconst (pc := 168) dX1_readEvent_168 ?_
                      exact P_zret (pc := 169) dX1_readEvent_169 rfl (by omega) (QI.mk (by
                            first
                              | (exfalso; omega)
                              | (have e : (rdE (μ.1 37) (μ.1 8 2) (μ.1 1 6) (a + 1)) = rdF p7 := by
                                   unfold rdE
                                   rw [hE1]
                                   dsimp only
                                   rw [if_neg (by omega)]
                                   unfold rdE1
                                   rw [hE2]
                                   dsimp only
                                   rw [if_neg (by omega)]
                                   unfold rdE2
                                   rw [hE3]
                                   dsimp only
                                   rw [if_neg (by omega)]
                                   unfold rdE3
                                   rw [hE4]
                                   dsimp only
                                   rw [if_neg (by omega)]
                                   unfold rdE4
                                   rw [hE5]
                                   dsimp only
                                   rw [if_neg (by omega)]
                                   unfold rdE5
                                   rw [if_pos (by omega)]
                                   unfold rdE6
                                   rw [hE6]
                                   dsimp only
                                   rw [if_neg (by omega)]
                                   rw [rdE7_c hT, hE7]
                                   dsimp only
                                   rw [if_pos (by omega)]
                                 rw [e]
                                 exact ⟨rfl, by unfold rdF; dsimp only; rw [if_neg (show ¬ (0 : Int) = 1 by decide)]⟩)))
                  · refine P_aload_n (pc := 134) dX1_readEvent_134 rfl 4 rfl ?_
                    refine P_iconst (pc := 135) dX1_readEvent_135 ?_
                    refine P_iconst (pc := 136) dX1_readEvent_136 ?_
                    refine P_iconst (pc := 137) dX1_readEvent_137 ?_
                    refine P_callVi (Y' := mX1_readNumber) (as := [_, _, _]) (pc := 138) dX1_readEvent_138 rfl (by decide : 2 < 3) sC_8 rfl ml_RX1_69 im_X1_readNumber se_X1_readNumber mk_X1_readNumber (Nat.le_of_ble_eq_true rfl) (c_X1_readNumber hT (by omega) (by omega) (by omega)) (fun z_ μ_ hq => ?_)
                    obtain ⟨hz7, hμ_, hi7⟩ := hq
                    subst hμ_
                    have b1 := rnC_in (lo := 1) (hi := 4) (bar := -1) (a := p6) hT (by decide)
                    generalize hE7_ : rnC (μ.1 37) (μ.1 8 2) 1 4 (-1) p6 = r7 at hz7 hi7 b1 ⊢
                    obtain ⟨v7, p7⟩ := r7
                    dsimp only at hz7 hi7 b1 ⊢
                    have hE7 : (if v3 = 9 then rnC (μ.1 37) (μ.1 8 2) 1 4 (-1) p6 else rnC (μ.1 37) (μ.1 8 2) 0 (μ.1 1 6 - 1) v5 p6) = (v7, p7) := by
                      rw [if_pos (by omega)]
                      exact hE7_
                    have b7 : (v7 = -2 ∨ (0 ≤ v7 ∧ v7 ≤ 12)) ∧ p6 ≤ p7 ∧ p7 ≤ μ.1 8 2 := by omega
                    clear b1
                    have hz7 := hz7.symm
                    subst hz7
                    try simp (disch := decide) only [pl_3, pl_2, pl_q, pl_put]
                    refine P_goto (tgt := 159) (pc := 141) dX1_readEvent_141 (by decide) ?_
                    refine P_istore (L' := [(4, vi _), (3, vi _), (2, vi _), (1, vi _), (0, vr 8)]) (pc := 159) dX1_readEvent_159 (by decide) rfl ?_
                    refine P_iload (pc := 161) dX1_readEvent_161 0 rfl ?_
                    refine P_bipush (pc := 163) dX1_readEvent_163 (by decide) ?_
                    refine P_icmp_ne (tgt := 170) (pc := 165) dX1_readEvent_165 (by decide) (by first | assumption | (unfold InR; omega)) (by first | assumption | (unfold InR; omega)) (fun c_165 => ?_) (fun c_165 => ?_)
                    · refine P_aload_n (pc := 170) dX1_readEvent_170 rfl 4 rfl ?_
                      refine P_callVi (Y' := mX1_readUnknown) (as := []) (pc := 171) dX1_readEvent_171 rfl (by decide : 2 < 3) sC_8 rfl ml_RX1_77 im_X1_readUnknown se_X1_readUnknown mk_X1_readUnknown (Nat.le_of_ble_eq_true rfl) (c_X1_readUnknown hT (by omega)) (fun z_ μ_ hq => ?_)
                      obtain ⟨hz8, hμ_⟩ := hq
                      subst hμ_
                      first
                        | have b8 := ruC_in (a := p7) hT (by omega)
                        | have b8 := ruC_in (a := p5) hT (by omega)
                      first
                        | generalize hE8 : ruC (μ.1 37) (μ.1 8 2) p7 = r8 at hz8 b8 ⊢
                        | generalize hE8 : ruC (μ.1 37) (μ.1 8 2) p5 = r8 at hz8 b8 ⊢
                      obtain ⟨v8, p8⟩ := r8
                      dsimp only at hz8 b8 ⊢
                      have hz8 := hz8.symm
                      subst hz8
                      try simp (disch := decide) only [pl_3, pl_2, pl_q, pl_put]
                      refine P_istore (L' := [(5, vi _), (4, vi _), (3, vi _), (2, vi _), (1, vi _), (0, vr 8)]) (pc := 174) dX1_readEvent_174 (by decide) rfl ?_
                      refine P_iload (pc := 176) dX1_readEvent_176 0 rfl ?_
                      refine P_bipush (pc := 178) dX1_readEvent_178 (by decide) ?_
                      refine P_icmp_eq (tgt := 192) (pc := 180) dX1_readEvent_180 (by decide) (by first | assumption | (unfold InR; omega)) (by first | assumption | (unfold InR; omega)) (fun c_180 => ?_) (fun c_180 => ?_)
                      · refine P_iconst (pc := 192) dX1_readEvent_192 ?_
                        exact P_zret (pc := 193) dX1_readEvent_193 rfl (by omega) (QI.mk (by
                              first
                                | (exfalso; omega)
                                | (have e : (rdE (μ.1 37) (μ.1 8 2) (μ.1 1 6) (a + 1)) = rdF p8 := by
                                     unfold rdE
                                     rw [hE1]
                                     dsimp only
                                     rw [if_neg (by omega)]
                                     unfold rdE1
                                     rw [hE2]
                                     dsimp only
                                     rw [if_neg (by omega)]
                                     unfold rdE2
                                     rw [hE3]
                                     dsimp only
                                     rw [if_neg (by omega)]
                                     unfold rdE3
                                     rw [hE4]
                                     dsimp only
                                     rw [if_neg (by omega)]
                                     unfold rdE4
                                     rw [hE5]
                                     dsimp only
                                     rw [if_neg (by omega)]
                                     unfold rdE5
                                     rw [if_pos (by omega)]
                                     unfold rdE6
                                     rw [hE6]
                                     dsimp only
                                     rw [if_neg (by omega)]
                                     rw [rdE7_c hT, hE7]
                                     dsimp only
                                     rw [if_neg (by omega)]
                                     rw [rdE8_c hT, hE8]
                                     dsimp only
                                     rw [if_pos (by omega)]
                                   rw [e]
                                   exact ⟨rfl, by unfold rdF; dsimp only; rw [if_neg (show ¬ (0 : Int) = 1 by decide)]⟩)
                                | (have e : (rdE (μ.1 37) (μ.1 8 2) (μ.1 1 6) (a + 1)) = rdF p8 := by
                                     unfold rdE
                                     rw [hE1]
                                     dsimp only
                                     rw [if_neg (by omega)]
                                     unfold rdE1
                                     rw [hE2]
                                     dsimp only
                                     rw [if_neg (by omega)]
                                     unfold rdE2
                                     rw [hE3]
                                     dsimp only
                                     rw [if_neg (by omega)]
                                     unfold rdE3
                                     rw [hE4]
                                     dsimp only
                                     rw [if_neg (by omega)]
                                     unfold rdE4
                                     rw [hE5]
                                     dsimp only
                                     rw [if_neg (by omega)]
                                     unfold rdE5
                                     rw [if_neg (by omega)]
                                     rw [rdE8_c hT, hE8]
                                     dsimp only
                                     rw [if_pos (by omega)]
                                   rw [e]
                                   exact ⟨rfl, by unfold rdF; dsimp only; rw [if_neg (show ¬ (0 : Int) = 1 by decide)]⟩)
                                | (have e : (rdE (μ.1 37) (μ.1 8 2) (μ.1 1 6) (a + 1)) = rdF p9 := by
                                     unfold rdE
                                     rw [hE1]
                                     dsimp only
                                     rw [if_neg (by omega)]
                                     unfold rdE1
                                     rw [hE2]
                                     dsimp only
                                     rw [if_neg (by omega)]
                                     unfold rdE2
                                     rw [hE3]
                                     dsimp only
                                     rw [if_neg (by omega)]
                                     unfold rdE3
                                     rw [hE4]
                                     dsimp only
                                     rw [if_neg (by omega)]
                                     unfold rdE4
                                     rw [hE5]
                                     dsimp only
                                     rw [if_neg (by omega)]
                                     unfold rdE5
                                     rw [if_pos (by omega)]
                                     unfold rdE6
                                     rw [hE6]
                                     dsimp only
                                     rw [if_neg (by omega)]
                                     rw [rdE7_c hT, hE7]
                                     dsimp only
                                     rw [if_neg (by omega)]
                                     rw [rdE8_c hT, hE8]
                                     dsimp only
                                     rw [if_neg (by omega)]
                                     unfold rdE10
                                     rw [hE9]
                                     dsimp only
                                     rw [if_pos (by omega)]
                                   rw [e]
                                   exact ⟨rfl, by unfold rdF; dsimp only; rw [if_neg (show ¬ (0 : Int) = 1 by decide)]⟩)
                                | (have e : (rdE (μ.1 37) (μ.1 8 2) (μ.1 1 6) (a + 1)) = rdF p9 := by
                                     unfold rdE
                                     rw [hE1]
                                     dsimp only
                                     rw [if_neg (by omega)]
                                     unfold rdE1
                                     rw [hE2]
                                     dsimp only
                                     rw [if_neg (by omega)]
                                     unfold rdE2
                                     rw [hE3]
                                     dsimp only
                                     rw [if_neg (by omega)]
                                     unfold rdE3
                                     rw [hE4]
                                     dsimp only
                                     rw [if_neg (by omega)]
                                     unfold rdE4
                                     rw [hE5]
                                     dsimp only
                                     rw [if_neg (by omega)]
                                     unfold rdE5
                                     rw [if_neg (by omega)]
                                     rw [rdE8_c hT, hE8]
                                     dsimp only
                                     rw [if_neg (by omega)]
                                     unfold rdE10
                                     rw [hE9]
                                     dsimp only
                                     rw [if_pos (by omega)]
                                   rw [e]
                                   exact ⟨rfl, by unfold rdF; dsimp only; rw [if_neg (show ¬ (0 : Int) = 1 by decide)]⟩)))
                      · refine P_aload_n (pc := 183) dX1_readEvent_183 rfl 5 rfl ?_
                        refine P_bipush (pc := 184) dX1_readEvent_184 (by decide) ?_
                        refine P_callVi (Y' := mX1_skip) (as := [_]) (pc := 186) dX1_readEvent_186 rfl (by decide : 1 < 3) sC_8 rfl ml_RX1_54 im_X1_skip se_X1_skip mk_X1_skip (Nat.le_of_ble_eq_true rfl) (c_X1_skip hT (by omega) (by omega)) (fun z_ μ_ hq => ?_)
                        obtain ⟨hz9, hμ_, hi9⟩ := hq
                        subst hμ_
                        generalize hE9 : tsR (μ.1 37) (μ.1 8 2) 59 p8 = r9 at hz9 hi9 ⊢
                        obtain ⟨v9, p9⟩ := r9
                        dsimp only at hz9 hi9 ⊢
                        have hz9 := hz9.symm
                        subst hz9
                        try simp (disch := decide) only [pl_3, pl_2, pl_q, pl_put]
                        refine P_if_ne (tgt := 194) (pc := 189) dX1_readEvent_189 (by decide) (by first | assumption | (unfold InR; omega)) (fun c_189 => ?_) (fun c_189 => ?_)
                        · refine P_aload_n (pc := 194) dX1_readEvent_194 rfl 5 rfl ?_
                          refine P_getR (pc := 195) dX1_readEvent_195 fa_RX1_15 sC_8 fC8_0 ?_
                          refine P_iload_n (pc := 198) dX1_readEvent_198 rfl 4 rfl ?_
                          refine P_iload_n (pc := 199) dX1_readEvent_199 rfl 3 rfl ?_
                          refine P_iload_n (pc := 200) dX1_readEvent_200 rfl 2 rfl ?_
                          refine P_iload (pc := 201) dX1_readEvent_201 1 rfl ?_
                          refine P_iload (pc := 203) dX1_readEvent_203 0 rfl ?_
                          refine P_callVi (Y' := mX3_addEvent) (as := [_, _, _, _, _]) (pc := 205) dX1_readEvent_205 rfl (by decide : 1 < 3) sC_1 rfl ml_RX1_80 im_X3_addEvent se_X3_addEvent mk_X3_addEvent (Nat.le_of_ble_eq_true rfl) (c_X3_addEvent (by simp (disch := decide) only [pl_q]; omega) (by unfold InR; omega)) (fun z_ μ_ hq => ?_)
                          obtain ⟨-, hμ_⟩ := hq
                          subst hμ_
                          rw [pl_event]
                          try simp (disch := decide) only [pl_3, pl_2, pl_q, pl_put]
                          refine P_pop (pc := 208) dX1_readEvent_208 rfl ?_
                          refine P_iconst (pc := 209) dX1_readEvent_209 ?_
                          exact P_zret (pc := 210) dX1_readEvent_210 rfl (by omega) (QI.mk (by
                                first
                                  | (exfalso; omega)
                                  | (have e : (rdE (μ.1 37) (μ.1 8 2) (μ.1 1 6) (a + 1)) = (1, p9, v1, v3, v5, v7, v8) := by
                                       unfold rdE
                                       rw [hE1]
                                       dsimp only
                                       rw [if_neg (by omega)]
                                       unfold rdE1
                                       rw [hE2]
                                       dsimp only
                                       rw [if_neg (by omega)]
                                       unfold rdE2
                                       rw [hE3]
                                       dsimp only
                                       rw [if_neg (by omega)]
                                       unfold rdE3
                                       rw [hE4]
                                       dsimp only
                                       rw [if_neg (by omega)]
                                       unfold rdE4
                                       rw [hE5]
                                       dsimp only
                                       rw [if_neg (by omega)]
                                       unfold rdE5
                                       rw [if_pos (by omega)]
                                       unfold rdE6
                                       rw [hE6]
                                       dsimp only
                                       rw [if_neg (by omega)]
                                       rw [rdE7_c hT, hE7]
                                       dsimp only
                                       rw [if_neg (by omega)]
                                       rw [rdE8_c hT, hE8]
                                       dsimp only
                                       rw [if_neg (by omega)]
                                       unfold rdE10
                                       rw [hE9]
                                       dsimp only
                                       rw [if_neg (by omega)]
                                     rw [e]
                                     exact ⟨rfl, by rw [if_pos rfl]⟩)
                                  | (have e : (rdE (μ.1 37) (μ.1 8 2) (μ.1 1 6) (a + 1)) = (1, p9, v1, v3, v5, -9, v8) := by
                                       unfold rdE
                                       rw [hE1]
                                       dsimp only
                                       rw [if_neg (by omega)]
                                       unfold rdE1
                                       rw [hE2]
                                       dsimp only
                                       rw [if_neg (by omega)]
                                       unfold rdE2
                                       rw [hE3]
                                       dsimp only
                                       rw [if_neg (by omega)]
                                       unfold rdE3
                                       rw [hE4]
                                       dsimp only
                                       rw [if_neg (by omega)]
                                       unfold rdE4
                                       rw [hE5]
                                       dsimp only
                                       rw [if_neg (by omega)]
                                       unfold rdE5
                                       rw [if_neg (by omega)]
                                       rw [rdE8_c hT, hE8]
                                       dsimp only
                                       rw [if_neg (by omega)]
                                       unfold rdE10
                                       rw [hE9]
                                       dsimp only
                                       rw [if_neg (by omega)]
                                     rw [e]
                                     exact ⟨rfl, by rw [if_pos rfl]⟩)))
                        · refine P_iconst (pc := 192) dX1_readEvent_192 ?_
                          exact P_zret (pc := 193) dX1_readEvent_193 rfl (by omega) (QI.mk (by
                                first
                                  | (exfalso; omega)
                                  | (have e : (rdE (μ.1 37) (μ.1 8 2) (μ.1 1 6) (a + 1)) = rdF p8 := by
                                       unfold rdE
                                       rw [hE1]
                                       dsimp only
                                       rw [if_neg (by omega)]
                                       unfold rdE1
                                       rw [hE2]
                                       dsimp only
                                       rw [if_neg (by omega)]
                                       unfold rdE2
                                       rw [hE3]
                                       dsimp only
                                       rw [if_neg (by omega)]
                                       unfold rdE3
                                       rw [hE4]
                                       dsimp only
                                       rw [if_neg (by omega)]
                                       unfold rdE4
                                       rw [hE5]
                                       dsimp only
                                       rw [if_neg (by omega)]
                                       unfold rdE5
                                       rw [if_pos (by omega)]
                                       unfold rdE6
                                       rw [hE6]
                                       dsimp only
                                       rw [if_neg (by omega)]
                                       rw [rdE7_c hT, hE7]
                                       dsimp only
                                       rw [if_neg (by omega)]
                                       rw [rdE8_c hT, hE8]
                                       dsimp only
                                       rw [if_pos (by omega)]
                                     rw [e]
                                     exact ⟨rfl, by unfold rdF; dsimp only; rw [if_neg (show ¬ (0 : Int) = 1 by decide)]⟩)
                                  | (have e : (rdE (μ.1 37) (μ.1 8 2) (μ.1 1 6) (a + 1)) = rdF p8 := by
                                       unfold rdE
                                       rw [hE1]
                                       dsimp only
                                       rw [if_neg (by omega)]
                                       unfold rdE1
                                       rw [hE2]
                                       dsimp only
                                       rw [if_neg (by omega)]
                                       unfold rdE2
                                       rw [hE3]
                                       dsimp only
                                       rw [if_neg (by omega)]
                                       unfold rdE3
                                       rw [hE4]
                                       dsimp only
                                       rw [if_neg (by omega)]
                                       unfold rdE4
                                       rw [hE5]
                                       dsimp only
                                       rw [if_neg (by omega)]
                                       unfold rdE5
                                       rw [if_neg (by omega)]
                                       rw [rdE8_c hT, hE8]
                                       dsimp only
                                       rw [if_pos (by omega)]
                                     rw [e]
                                     exact ⟨rfl, by unfold rdF; dsimp only; rw [if_neg (show ¬ (0 : Int) = 1 by decide)]⟩)
                                  | (have e : (rdE (μ.1 37) (μ.1 8 2) (μ.1 1 6) (a + 1)) = rdF p9 := by
                                       unfold rdE
                                       rw [hE1]
                                       dsimp only
                                       rw [if_neg (by omega)]
                                       unfold rdE1
                                       rw [hE2]
                                       dsimp only
                                       rw [if_neg (by omega)]
                                       unfold rdE2
                                       rw [hE3]
                                       dsimp only
                                       rw [if_neg (by omega)]
                                       unfold rdE3
                                       rw [hE4]
                                       dsimp only
                                       rw [if_neg (by omega)]
                                       unfold rdE4
                                       rw [hE5]
                                       dsimp only
                                       rw [if_neg (by omega)]
                                       unfold rdE5
                                       rw [if_pos (by omega)]
                                       unfold rdE6
                                       rw [hE6]
                                       dsimp only
                                       rw [if_neg (by omega)]
                                       rw [rdE7_c hT, hE7]
                                       dsimp only
                                       rw [if_neg (by omega)]
                                       rw [rdE8_c hT, hE8]
                                       dsimp only
                                       rw [if_neg (by omega)]
                                       unfold rdE10
                                       rw [hE9]
                                       dsimp only
                                       rw [if_pos (by omega)]
                                     rw [e]
                                     exact ⟨rfl, by unfold rdF; dsimp only; rw [if_neg (show ¬ (0 : Int) = 1 by decide)]⟩)
                                  | (have e : (rdE (μ.1 37) (μ.1 8 2) (μ.1 1 6) (a + 1)) = rdF p9 := by
                                       unfold rdE
                                       rw [hE1]
                                       dsimp only
                                       rw [if_neg (by omega)]
                                       unfold rdE1
                                       rw [hE2]
                                       dsimp only
                                       rw [if_neg (by omega)]
                                       unfold rdE2
                                       rw [hE3]
                                       dsimp only
                                       rw [if_neg (by omega)]
                                       unfold rdE3
                                       rw [hE4]
                                       dsimp only
                                       rw [if_neg (by omega)]
                                       unfold rdE4
                                       rw [hE5]
                                       dsimp only
                                       rw [if_neg (by omega)]
                                       unfold rdE5
                                       rw [if_neg (by omega)]
                                       rw [rdE8_c hT, hE8]
                                       dsimp only
                                       rw [if_neg (by omega)]
                                       unfold rdE10
                                       rw [hE9]
                                       dsimp only
                                       rw [if_pos (by omega)]
                                     rw [e]
                                     exact ⟨rfl, by unfold rdF; dsimp only; rw [if_neg (show ¬ (0 : Int) = 1 by decide)]⟩)))
                    · refine P_iconst (pc := 168) dX1_readEvent_168 ?_
                      exact P_zret (pc := 169) dX1_readEvent_169 rfl (by omega) (QI.mk (by
                            first
                              | (exfalso; omega)
                              | (have e : (rdE (μ.1 37) (μ.1 8 2) (μ.1 1 6) (a + 1)) = rdF p7 := by
                                   unfold rdE
                                   rw [hE1]
                                   dsimp only
                                   rw [if_neg (by omega)]
                                   unfold rdE1
                                   rw [hE2]
                                   dsimp only
                                   rw [if_neg (by omega)]
                                   unfold rdE2
                                   rw [hE3]
                                   dsimp only
                                   rw [if_neg (by omega)]
                                   unfold rdE3
                                   rw [hE4]
                                   dsimp only
                                   rw [if_neg (by omega)]
                                   unfold rdE4
                                   rw [hE5]
                                   dsimp only
                                   rw [if_neg (by omega)]
                                   unfold rdE5
                                   rw [if_pos (by omega)]
                                   unfold rdE6
                                   rw [hE6]
                                   dsimp only
                                   rw [if_neg (by omega)]
                                   rw [rdE7_c hT, hE7]
                                   dsimp only
                                   rw [if_pos (by omega)]
                                 rw [e]
                                 exact ⟨rfl, by unfold rdF; dsimp only; rw [if_neg (show ¬ (0 : Int) = 1 by decide)]⟩)))
                · refine P_iconst (pc := 126) dX1_readEvent_126 ?_
                  exact P_zret (pc := 127) dX1_readEvent_127 rfl (by omega) (QI.mk (by
                        first
                          | (exfalso; omega)
                          | (have e : (rdE (μ.1 37) (μ.1 8 2) (μ.1 1 6) (a + 1)) = rdF p6 := by
                               unfold rdE
                               rw [hE1]
                               dsimp only
                               rw [if_neg (by omega)]
                               unfold rdE1
                               rw [hE2]
                               dsimp only
                               rw [if_neg (by omega)]
                               unfold rdE2
                               rw [hE3]
                               dsimp only
                               rw [if_neg (by omega)]
                               unfold rdE3
                               rw [hE4]
                               dsimp only
                               rw [if_neg (by omega)]
                               unfold rdE4
                               rw [hE5]
                               dsimp only
                               rw [if_neg (by omega)]
                               unfold rdE5
                               rw [if_pos (by omega)]
                               unfold rdE6
                               rw [hE6]
                               dsimp only
                               rw [if_pos (by omega)]
                             rw [e]
                             exact ⟨rfl, by unfold rdF; dsimp only; rw [if_neg (show ¬ (0 : Int) = 1 by decide)]⟩)))
            · refine P_iconst (pc := 104) dX1_readEvent_104 ?_
              exact P_zret (pc := 105) dX1_readEvent_105 rfl (by omega) (QI.mk (by
                    have e : (rdE (μ.1 37) (μ.1 8 2) (μ.1 1 6) (a + 1)) = rdF p5 := by
                      unfold rdE
                      rw [hE1]
                      dsimp only
                      rw [if_neg (by omega)]
                      unfold rdE1
                      rw [hE2]
                      dsimp only
                      rw [if_neg (by omega)]
                      unfold rdE2
                      rw [hE3]
                      dsimp only
                      rw [if_neg (by omega)]
                      unfold rdE3
                      rw [hE4]
                      dsimp only
                      rw [if_neg (by omega)]
                      unfold rdE4
                      rw [hE5]
                      dsimp only
                      rw [if_pos (by omega)]
                    rw [e]
                    exact ⟨rfl, by unfold rdF; dsimp only; rw [if_neg (show ¬ (0 : Int) = 1 by decide)]⟩))
          · refine P_iconst (pc := 80) dX1_readEvent_80 ?_
            exact P_zret (pc := 81) dX1_readEvent_81 rfl (by omega) (QI.mk (by
                  have e : (rdE (μ.1 37) (μ.1 8 2) (μ.1 1 6) (a + 1)) = rdF p4 := by
                    unfold rdE
                    rw [hE1]
                    dsimp only
                    rw [if_neg (by omega)]
                    unfold rdE1
                    rw [hE2]
                    dsimp only
                    rw [if_neg (by omega)]
                    unfold rdE2
                    rw [hE3]
                    dsimp only
                    rw [if_neg (by omega)]
                    unfold rdE3
                    rw [hE4]
                    dsimp only
                    rw [if_pos (by omega)]
                  rw [e]
                  exact ⟨rfl, by unfold rdF; dsimp only; rw [if_neg (show ¬ (0 : Int) = 1 by decide)]⟩))
        · refine P_iconst (pc := 59) dX1_readEvent_59 ?_
          exact P_zret (pc := 60) dX1_readEvent_60 rfl (by omega) (QI.mk (by
                have e : (rdE (μ.1 37) (μ.1 8 2) (μ.1 1 6) (a + 1)) = rdF p3 := by
                  unfold rdE
                  rw [hE1]
                  dsimp only
                  rw [if_neg (by omega)]
                  unfold rdE1
                  rw [hE2]
                  dsimp only
                  rw [if_neg (by omega)]
                  unfold rdE2
                  rw [hE3]
                  dsimp only
                  rw [if_pos (by omega)]
                rw [e]
                exact ⟨rfl, by unfold rdF; dsimp only; rw [if_neg (show ¬ (0 : Int) = 1 by decide), show p3 = p2 by omega]⟩))
      · refine P_iconst (pc := 48) dX1_readEvent_48 ?_
        exact P_zret (pc := 49) dX1_readEvent_49 rfl (by omega) (QI.mk (by
              first
                | (exfalso; omega)
                | (have e : (rdE (μ.1 37) (μ.1 8 2) (μ.1 1 6) (a + 1)) = rdF p1 := by
                     unfold rdE
                     rw [hE1]
                     dsimp only
                     rw [if_pos (by omega)]
                   rw [e]
                   exact ⟨rfl, by unfold rdF; dsimp only; rw [if_neg (show ¬ (0 : Int) = 1 by decide)]⟩)
                | (have e : (rdE (μ.1 37) (μ.1 8 2) (μ.1 1 6) (a + 1)) = rdF p2 := by
                     unfold rdE
                     rw [hE1]
                     dsimp only
                     rw [if_neg (by omega)]
                     unfold rdE1
                     rw [hE2]
                     dsimp only
                     rw [if_pos (by omega)]
                   rw [e]
                   exact ⟨rfl, by unfold rdF; dsimp only; rw [if_neg (show ¬ (0 : Int) = 1 by decide)]⟩)))
  · refine P_iconst (pc := 12) dX1_readEvent_12 ?_
    exact P_zret (pc := 13) dX1_readEvent_13 rfl (by omega) (QI.mk (by exfalso; omega))
