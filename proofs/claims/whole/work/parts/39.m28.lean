set_option maxHeartbeats 1000000 in
set_option maxRecDepth 100000 in
theorem c_X6_readsEvent {μ : Mem} {a g : Int} (hT : TL (μ.1 12) (μ.1 0 14)) (ha : 0 ≤ a ∧ a ≤ μ.1 0 14) (h11 : 0 ≤ μ.1 0 11 ∧ μ.1 0 11 ≤ 12) (h12 : 0 ≤ μ.1 0 12 ∧ μ.1 0 12 < 60) : PC shM 3 mX6_readsEvent [vr 0] (atM μ a g) (QI (fun z μ' => z = (rdE (μ.1 12) (μ.1 0 14) (μ.1 0 11) a).1 ∧ ∃ g', μ' = atM (if (rdE (μ.1 12) (μ.1 0 14) (μ.1 0 11) a).1 = 1 then happM μ (rdE (μ.1 12) (μ.1 0 14) (μ.1 0 11) a).2.2.1 (rdE (μ.1 12) (μ.1 0 14) (μ.1 0 11) a).2.2.2.1 (rdE (μ.1 12) (μ.1 0 14) (μ.1 0 11) a).2.2.2.2.1 (rdE (μ.1 12) (μ.1 0 14) (μ.1 0 11) a).2.2.2.2.2.1 (rdE (μ.1 12) (μ.1 0 14) (μ.1 0 11) a).2.2.2.2.2.2 else μ) (rdE (μ.1 12) (μ.1 0 14) (μ.1 0 11) a).2.1 g')) := by
  refine PC.of (by decide +kernel) (Nat.le_of_ble_eq_true rfl) ?_
  refine P_sub (L' := [(0, vr 0)]) [0] rfl ?_
  have hT2 := hT.2
  obtain ⟨R, hE⟩ : ∃ R, rdE (μ.1 12) (μ.1 0 14) (μ.1 0 11) a = R := ⟨_, rfl⟩
  rw [hE]
  refine P_aload_n (pc := 0) dX6_readsEvent_0 rfl 0 rfl ?_
  refine P_iconst (pc := 1) dX6_readsEvent_1 ?_
  refine P_bipush (pc := 2) dX6_readsEvent_2 (by decide) ?_
  refine P_callVi (Y' := mX6_number) (as := [_, _]) (pc := 4) dX6_readsEvent_4 rfl (by decide : 2 < 3) sM_0 rfl ml_RX6_160 im_X6_number se_X6_number mk_X6_number (Nat.le_of_ble_eq_true rfl) (c_X6_number hT (by omega) (by omega)) (fun z_ μ_ hq => ?_)
  obtain ⟨rfl, hμ_, hi_⟩ := hq
  subst hμ_
  try simp only [at_15, at_16, at_11, at_12, at_14, at_30, at_37, at_40, at_r1, at_r2, at_r3, at_r4, at_r5, at_r6, at_r7, at_r8, at_r9, at_r10, at_r11, at_r12, at_r13, at_r14, at_r15, at_r16, at_r17, at_r18, at_r19, at_r20, at_r21, at_r22, at_r23, at_r24, at_r25, at_r26, at_r27, at_r28, at_r29, at_r30, at_p15, at_p16, at_comes, at_happ, at_put (show (5 : Nat) ≠ 0 ∨ _ from Or.inl (by decide))]
  refine P_istore_n (L' := [(1, vi _), (0, vr 0)]) (pc := 7) dX6_readsEvent_7 rfl (by decide) rfl ?_
  refine P_iload_n (pc := 8) dX6_readsEvent_8 rfl 0 rfl ?_
  refine P_if_lt (tgt := 21) (pc := 9) dX6_readsEvent_9 (by decide) (by first | assumption | (unfold InR; omega)) (fun c_9 => ?_) (fun c_9 => ?_)
  · refine P_iconst (pc := 21) dX6_readsEvent_21 ?_
    exact P_zret (pc := 22) dX6_readsEvent_22 rfl (by omega) (QI.mk (by first | (exfalso; omega) | ((try (unfold rdE at hE; first | rw [if_pos (by omega)] at hE | rw [if_neg (by omega)] at hE)); (try (unfold rdE1 at hE; first | rw [if_pos (by omega)] at hE | rw [if_neg (by omega)] at hE)); (try (unfold rdE2 at hE; first | rw [if_pos (by omega)] at hE | rw [if_neg (by omega)] at hE)); (try (unfold rdE3 at hE; first | rw [if_pos (by omega)] at hE | rw [if_neg (by omega)] at hE)); (try (unfold rdE4 at hE; first | rw [if_pos (by omega)] at hE | rw [if_neg (by omega)] at hE)); (try (unfold rdE5 at hE; first | rw [if_pos (by omega)] at hE | rw [if_neg (by omega)] at hE)); (try (unfold rdE6 at hE; first | rw [if_pos (by omega)] at hE | rw [if_neg (by omega)] at hE)); (try (unfold rdE7 at hE; first | rw [if_pos (by omega)] at hE | rw [if_neg (by omega)] at hE)); (try (unfold rdE7c at hE; first | rw [if_pos (by omega)] at hE | rw [if_neg (by omega)] at hE)); (try (unfold rdE7d at hE; first | rw [if_pos (by omega)] at hE | rw [if_neg (by omega)] at hE)); (try (unfold rdE8 at hE; first | rw [if_pos (by omega)] at hE | rw [if_neg (by omega)] at hE)); (try (unfold rdE9 at hE; first | rw [if_pos (by omega)] at hE | rw [if_neg (by omega)] at hE)); (try (unfold rdE9b at hE; first | rw [if_pos (by omega)] at hE | rw [if_neg (by omega)] at hE)); (try (unfold rdE10 at hE; first | rw [if_pos (by omega)] at hE | rw [if_neg (by omega)] at hE)); subst hE; exact ⟨rfl, _, rfl⟩)))
  · refine P_aload_n (pc := 12) dX6_readsEvent_12 rfl 1 rfl ?_
    refine P_bipush (pc := 13) dX6_readsEvent_13 (by decide) ?_
    refine P_callVi (Y' := mX6_takesSign) (as := [_]) (pc := 15) dX6_readsEvent_15 rfl (by decide : 1 < 3) sM_0 rfl ml_RX6_157 im_X6_takesSign se_X6_takesSign mk_X6_takesSign (Nat.le_of_ble_eq_true rfl) (c_X6_takesSign hT (by omega) (by omega)) (fun z_ μ_ hq => ?_)
    obtain ⟨rfl, hμ_, hi_⟩ := hq
    subst hμ_
    try simp only [at_15, at_16, at_11, at_12, at_14, at_30, at_37, at_40, at_r1, at_r2, at_r3, at_r4, at_r5, at_r6, at_r7, at_r8, at_r9, at_r10, at_r11, at_r12, at_r13, at_r14, at_r15, at_r16, at_r17, at_r18, at_r19, at_r20, at_r21, at_r22, at_r23, at_r24, at_r25, at_r26, at_r27, at_r28, at_r29, at_r30, at_p15, at_p16, at_comes, at_happ, at_put (show (5 : Nat) ≠ 0 ∨ _ from Or.inl (by decide))]
    refine P_if_ne (tgt := 23) (pc := 18) dX6_readsEvent_18 (by decide) (by first | assumption | (unfold InR; omega)) (fun c_18 => ?_) (fun c_18 => ?_)
    · refine P_aload_n (pc := 23) dX6_readsEvent_23 rfl 1 rfl ?_
      refine P_bipush (pc := 24) dX6_readsEvent_24 (by decide) ?_
      refine P_callVi (Y' := mX6_digit) (as := [_]) (pc := 26) dX6_readsEvent_26 rfl (by decide : 1 < 3) sM_0 rfl ml_RX6_154 im_X6_digit se_X6_digit mk_X6_digit (Nat.le_of_ble_eq_true rfl) (c_X6_digit hT (by omega) (by omega)) (fun z_ μ_ hq => ?_)
      obtain ⟨rfl, hμ_, hi_⟩ := hq
      subst hμ_
      try simp only [at_15, at_16, at_11, at_12, at_14, at_30, at_37, at_40, at_r1, at_r2, at_r3, at_r4, at_r5, at_r6, at_r7, at_r8, at_r9, at_r10, at_r11, at_r12, at_r13, at_r14, at_r15, at_r16, at_r17, at_r18, at_r19, at_r20, at_r21, at_r22, at_r23, at_r24, at_r25, at_r26, at_r27, at_r28, at_r29, at_r30, at_p15, at_p16, at_comes, at_happ, at_put (show (5 : Nat) ≠ 0 ∨ _ from Or.inl (by decide))]
      refine P_istore_n (L' := [(2, vi _), (1, vi _), (0, vr 0)]) (pc := 29) dX6_readsEvent_29 rfl (by decide) rfl ?_
      refine P_iload_n (pc := 30) dX6_readsEvent_30 rfl 0 rfl ?_
      refine P_if_lt (tgt := 43) (pc := 31) dX6_readsEvent_31 (by decide) (by first | assumption | (unfold InR; omega)) (fun c_31 => ?_) (fun c_31 => ?_)
      · refine P_iconst (pc := 43) dX6_readsEvent_43 ?_
        exact P_zret (pc := 44) dX6_readsEvent_44 rfl (by omega) (QI.mk (by first | (exfalso; omega) | ((try (unfold rdE at hE; first | rw [if_pos (by omega)] at hE | rw [if_neg (by omega)] at hE)); (try (unfold rdE1 at hE; first | rw [if_pos (by omega)] at hE | rw [if_neg (by omega)] at hE)); (try (unfold rdE2 at hE; first | rw [if_pos (by omega)] at hE | rw [if_neg (by omega)] at hE)); (try (unfold rdE3 at hE; first | rw [if_pos (by omega)] at hE | rw [if_neg (by omega)] at hE)); (try (unfold rdE4 at hE; first | rw [if_pos (by omega)] at hE | rw [if_neg (by omega)] at hE)); (try (unfold rdE5 at hE; first | rw [if_pos (by omega)] at hE | rw [if_neg (by omega)] at hE)); (try (unfold rdE6 at hE; first | rw [if_pos (by omega)] at hE | rw [if_neg (by omega)] at hE)); (try (unfold rdE7 at hE; first | rw [if_pos (by omega)] at hE | rw [if_neg (by omega)] at hE)); (try (unfold rdE7c at hE; first | rw [if_pos (by omega)] at hE | rw [if_neg (by omega)] at hE)); (try (unfold rdE7d at hE; first | rw [if_pos (by omega)] at hE | rw [if_neg (by omega)] at hE)); (try (unfold rdE8 at hE; first | rw [if_pos (by omega)] at hE | rw [if_neg (by omega)] at hE)); (try (unfold rdE9 at hE; first | rw [if_pos (by omega)] at hE | rw [if_neg (by omega)] at hE)); (try (unfold rdE9b at hE; first | rw [if_pos (by omega)] at hE | rw [if_neg (by omega)] at hE)); (try (unfold rdE10 at hE; first | rw [if_pos (by omega)] at hE | rw [if_neg (by omega)] at hE)); subst hE; exact ⟨rfl, _, rfl⟩)))
      · refine P_aload_n (pc := 34) dX6_readsEvent_34 rfl 2 rfl ?_
        refine P_bipush (pc := 35) dX6_readsEvent_35 (by decide) ?_
        refine P_callVi (Y' := mX6_takesSign) (as := [_]) (pc := 37) dX6_readsEvent_37 rfl (by decide : 1 < 3) sM_0 rfl ml_RX6_157 im_X6_takesSign se_X6_takesSign mk_X6_takesSign (Nat.le_of_ble_eq_true rfl) (c_X6_takesSign hT (by omega) (by omega)) (fun z_ μ_ hq => ?_)
        obtain ⟨rfl, hμ_, hi_⟩ := hq
        subst hμ_
        try simp only [at_15, at_16, at_11, at_12, at_14, at_30, at_37, at_40, at_r1, at_r2, at_r3, at_r4, at_r5, at_r6, at_r7, at_r8, at_r9, at_r10, at_r11, at_r12, at_r13, at_r14, at_r15, at_r16, at_r17, at_r18, at_r19, at_r20, at_r21, at_r22, at_r23, at_r24, at_r25, at_r26, at_r27, at_r28, at_r29, at_r30, at_p15, at_p16, at_comes, at_happ, at_put (show (5 : Nat) ≠ 0 ∨ _ from Or.inl (by decide))]
        refine P_if_ne (tgt := 45) (pc := 40) dX6_readsEvent_40 (by decide) (by first | assumption | (unfold InR; omega)) (fun c_40 => ?_) (fun c_40 => ?_)
        · refine P_aload_n (pc := 45) dX6_readsEvent_45 rfl 2 rfl ?_
          refine P_iconst (pc := 46) dX6_readsEvent_46 ?_
          refine P_aload_n (pc := 47) dX6_readsEvent_47 rfl 2 rfl ?_
          refine P_getI (jj := 11) (pc := 48) dX6_readsEvent_48 fa_RX6_101 sM_0 fM0_11 rfl ?_
          try simp only [at_15, at_16, at_11, at_12, at_14, at_30, at_37, at_40, at_r1, at_r2, at_r3, at_r4, at_r5, at_r6, at_r7, at_r8, at_r9, at_r10, at_r11, at_r12, at_r13, at_r14, at_r15, at_r16, at_r17, at_r18, at_r19, at_r20, at_r21, at_r22, at_r23, at_r24, at_r25, at_r26, at_r27, at_r28, at_r29, at_r30, at_p15, at_p16, at_comes, at_happ, at_put (show (5 : Nat) ≠ 0 ∨ _ from Or.inl (by decide))]
          refine P_iconst (pc := 51) dX6_readsEvent_51 ?_
          refine P_isub (pc := 52) dX6_readsEvent_52 ?_
          refine P_callVi (Y' := mX6_number) (as := [_, _]) (pc := 53) dX6_readsEvent_53 rfl (by decide : 2 < 3) sM_0 rfl ml_RX6_160 im_X6_number se_X6_number mk_X6_number (Nat.le_of_ble_eq_true rfl) (c_X6_number hT (by omega) (by omega)) (fun z_ μ_ hq => ?_)
          obtain ⟨rfl, hμ_, hi_⟩ := hq
          subst hμ_
          try simp only [at_15, at_16, at_11, at_12, at_14, at_30, at_37, at_40, at_r1, at_r2, at_r3, at_r4, at_r5, at_r6, at_r7, at_r8, at_r9, at_r10, at_r11, at_r12, at_r13, at_r14, at_r15, at_r16, at_r17, at_r18, at_r19, at_r20, at_r21, at_r22, at_r23, at_r24, at_r25, at_r26, at_r27, at_r28, at_r29, at_r30, at_p15, at_p16, at_comes, at_happ, at_put (show (5 : Nat) ≠ 0 ∨ _ from Or.inl (by decide))]
          refine P_istore_n (L' := [(3, vi _), (2, vi _), (1, vi _), (0, vr 0)]) (pc := 56) dX6_readsEvent_56 rfl (by decide) rfl ?_
          refine P_iload_n (pc := 57) dX6_readsEvent_57 rfl 0 rfl ?_
          refine P_if_ge (tgt := 63) (pc := 58) dX6_readsEvent_58 (by decide) (by first | assumption | (unfold InR; omega)) (fun c_58 => ?_) (fun c_58 => ?_)
          · refine P_bipush (pc := 63) dX6_readsEvent_63 (by decide) ?_
            refine P_istore (L' := [(4, vi _), (3, vi _), (2, vi _), (1, vi _), (0, vr 0)]) (pc := 65) dX6_readsEvent_65 (by decide) rfl ?_
            refine P_iload_n (pc := 67) dX6_readsEvent_67 rfl 2 rfl ?_
            refine P_callSi (Y' := mX6_isOfTwo) (as := [_]) (pc := 68) dX6_readsEvent_68 rfl (by decide : 0 < 3) ml_RX6_128 sm_X6_isOfTwo mk_X6_isOfTwo (Nat.le_of_ble_eq_true rfl) (c_X6_isOfTwo (by unfold InR; omega)) (fun z_ μ_ hq => ?_)
            obtain ⟨hz, hμ_⟩ := hq
            subst hμ_
            have hz := ite01 hz
            try simp only [at_15, at_16, at_11, at_12, at_14, at_30, at_37, at_40, at_r1, at_r2, at_r3, at_r4, at_r5, at_r6, at_r7, at_r8, at_r9, at_r10, at_r11, at_r12, at_r13, at_r14, at_r15, at_r16, at_r17, at_r18, at_r19, at_r20, at_r21, at_r22, at_r23, at_r24, at_r25, at_r26, at_r27, at_r28, at_r29, at_r30, at_p15, at_p16, at_comes, at_happ, at_put (show (5 : Nat) ≠ 0 ∨ _ from Or.inl (by decide))]
            refine P_if_ne (tgt := 80) (pc := 71) dX6_readsEvent_71 (by decide) (by first | assumption | (unfold InR; omega)) (fun c_71 => ?_) (fun c_71 => ?_)
            · refine P_aload_n (pc := 80) dX6_readsEvent_80 rfl 4 rfl ?_
              refine P_bipush (pc := 81) dX6_readsEvent_81 (by decide) ?_
              refine P_callVi (Y' := mX6_takesSign) (as := [_]) (pc := 83) dX6_readsEvent_83 rfl (by decide : 1 < 3) sM_0 rfl ml_RX6_157 im_X6_takesSign se_X6_takesSign mk_X6_takesSign (Nat.le_of_ble_eq_true rfl) (c_X6_takesSign hT (by omega) (by omega)) (fun z_ μ_ hq => ?_)
              obtain ⟨rfl, hμ_, hi_⟩ := hq
              subst hμ_
              try simp only [at_15, at_16, at_11, at_12, at_14, at_30, at_37, at_40, at_r1, at_r2, at_r3, at_r4, at_r5, at_r6, at_r7, at_r8, at_r9, at_r10, at_r11, at_r12, at_r13, at_r14, at_r15, at_r16, at_r17, at_r18, at_r19, at_r20, at_r21, at_r22, at_r23, at_r24, at_r25, at_r26, at_r27, at_r28, at_r29, at_r30, at_p15, at_p16, at_comes, at_happ, at_put (show (5 : Nat) ≠ 0 ∨ _ from Or.inl (by decide))]
              refine P_if_ne (tgt := 91) (pc := 86) dX6_readsEvent_86 (by decide) (by first | assumption | (unfold InR; omega)) (fun c_86 => ?_) (fun c_86 => ?_)
              · refine P_iload_n (pc := 91) dX6_readsEvent_91 rfl 2 rfl ?_
                refine P_bipush (pc := 92) dX6_readsEvent_92 (by decide) ?_
                refine P_icmp_ne (tgt := 106) (pc := 94) dX6_readsEvent_94 (by decide) (by first | assumption | (unfold InR; omega)) (by first | assumption | (unfold InR; omega)) (fun c_94 => ?_) (fun c_94 => ?_)
                · refine P_aload_n (pc := 106) dX6_readsEvent_106 rfl 4 rfl ?_
                  refine P_iconst (pc := 107) dX6_readsEvent_107 ?_
                  refine P_aload_n (pc := 108) dX6_readsEvent_108 rfl 4 rfl ?_
                  refine P_getI (jj := 11) (pc := 109) dX6_readsEvent_109 fa_RX6_101 sM_0 fM0_11 rfl ?_
                  try simp only [at_15, at_16, at_11, at_12, at_14, at_30, at_37, at_40, at_r1, at_r2, at_r3, at_r4, at_r5, at_r6, at_r7, at_r8, at_r9, at_r10, at_r11, at_r12, at_r13, at_r14, at_r15, at_r16, at_r17, at_r18, at_r19, at_r20, at_r21, at_r22, at_r23, at_r24, at_r25, at_r26, at_r27, at_r28, at_r29, at_r30, at_p15, at_p16, at_comes, at_happ, at_put (show (5 : Nat) ≠ 0 ∨ _ from Or.inl (by decide))]
                  refine P_iconst (pc := 112) dX6_readsEvent_112 ?_
                  refine P_isub (pc := 113) dX6_readsEvent_113 ?_
                  refine P_callVi (Y' := mX6_number) (as := [_, _]) (pc := 114) dX6_readsEvent_114 rfl (by decide : 2 < 3) sM_0 rfl ml_RX6_160 im_X6_number se_X6_number mk_X6_number (Nat.le_of_ble_eq_true rfl) (c_X6_number hT (by omega) (by omega)) (fun z_ μ_ hq => ?_)
                  obtain ⟨rfl, hμ_, hi_⟩ := hq
                  subst hμ_
                  try simp only [at_15, at_16, at_11, at_12, at_14, at_30, at_37, at_40, at_r1, at_r2, at_r3, at_r4, at_r5, at_r6, at_r7, at_r8, at_r9, at_r10, at_r11, at_r12, at_r13, at_r14, at_r15, at_r16, at_r17, at_r18, at_r19, at_r20, at_r21, at_r22, at_r23, at_r24, at_r25, at_r26, at_r27, at_r28, at_r29, at_r30, at_p15, at_p16, at_comes, at_happ, at_put (show (5 : Nat) ≠ 0 ∨ _ from Or.inl (by decide))]
                  refine P_istore (L' := [(4, vi _), (3, vi _), (2, vi _), (1, vi _), (0, vr 0)]) (pc := 117) dX6_readsEvent_117 (by decide) rfl ?_
                  refine P_iload (pc := 119) dX6_readsEvent_119 0 rfl ?_
                  refine P_if_ge (tgt := 126) (pc := 121) dX6_readsEvent_121 (by decide) (by first | assumption | (unfold InR; omega)) (fun c_121 => ?_) (fun c_121 => ?_)
                  · refine P_iload_n (pc := 126) dX6_readsEvent_126 rfl 2 rfl ?_
                    refine P_bipush (pc := 127) dX6_readsEvent_127 (by decide) ?_
                    refine P_icmp_eq (tgt := 148) (pc := 129) dX6_readsEvent_129 (by decide) (by first | assumption | (unfold InR; omega)) (by first | assumption | (unfold InR; omega)) (fun c_129 => ?_) (fun c_129 => ?_)
                    · exfalso; omega
                    · refine P_iload (pc := 132) dX6_readsEvent_132 0 rfl ?_
                      refine P_iload_n (pc := 134) dX6_readsEvent_134 rfl 1 rfl ?_
                      refine P_icmp_ne (tgt := 148) (pc := 135) dX6_readsEvent_135 (by decide) (by first | assumption | (unfold InR; omega)) (by first | assumption | (unfold InR; omega)) (fun c_135 => ?_) (fun c_135 => ?_)
                      · refine P_iconst (pc := 148) dX6_readsEvent_148 ?_
                        refine P_istore (L' := [(5, vi _), (4, vi _), (3, vi _), (2, vi _), (1, vi _), (0, vr 0)]) (pc := 149) dX6_readsEvent_149 (by decide) rfl ?_
                        refine P_aload_n (pc := 151) dX6_readsEvent_151 rfl 5 rfl ?_
                        refine P_callVi (Y' := mX6_sign) (as := []) (pc := 152) dX6_readsEvent_152 rfl (by decide : 0 < 3) sM_0 rfl ml_RX6_147 im_X6_sign se_X6_sign mk_X6_sign (Nat.le_of_ble_eq_true rfl) (c_X6_sign hT (by omega)) (fun z_ μ_ hq => ?_)
                        obtain ⟨rfl, hμ_, hi_⟩ := hq
                        subst hμ_
                        try simp only [at_15, at_16, at_11, at_12, at_14, at_30, at_37, at_40, at_r1, at_r2, at_r3, at_r4, at_r5, at_r6, at_r7, at_r8, at_r9, at_r10, at_r11, at_r12, at_r13, at_r14, at_r15, at_r16, at_r17, at_r18, at_r19, at_r20, at_r21, at_r22, at_r23, at_r24, at_r25, at_r26, at_r27, at_r28, at_r29, at_r30, at_p15, at_p16, at_comes, at_happ, at_put (show (5 : Nat) ≠ 0 ∨ _ from Or.inl (by decide))]
                        refine P_bipush (pc := 155) dX6_readsEvent_155 (by decide) ?_
                        refine P_icmp_ne (tgt := 164) (pc := 157) dX6_readsEvent_157 (by decide) (by first | assumption | (unfold InR; omega)) (by first | assumption | (unfold InR; omega)) (fun c_157 => ?_) (fun c_157 => ?_)
                        · refine P_iconst (pc := 164) dX6_readsEvent_164 ?_
                          refine P_istore (L' := [(6, vi _), (5, vi _), (4, vi _), (3, vi _), (2, vi _), (1, vi _), (0, vr 0)]) (pc := 165) dX6_readsEvent_165 (by decide) rfl ?_
                          refine P_iload (pc := 167) dX6_readsEvent_167 0 rfl ?_
                          refine P_if_ne (tgt := 181) (pc := 169) dX6_readsEvent_169 (by decide) (by first | assumption | (unfold InR; omega)) (fun c_169 => ?_) (fun c_169 => ?_)
                          · exfalso; omega
                          · refine P_aload_n (pc := 172) dX6_readsEvent_172 rfl 6 rfl ?_
                            refine P_callVi (Y' := mX6_sign) (as := []) (pc := 173) dX6_readsEvent_173 rfl (by decide : 0 < 3) sM_0 rfl ml_RX6_147 im_X6_sign se_X6_sign mk_X6_sign (Nat.le_of_ble_eq_true rfl) (c_X6_sign hT (by omega)) (fun z_ μ_ hq => ?_)
                            obtain ⟨rfl, hμ_, hi_⟩ := hq
                            subst hμ_
                            try simp only [at_15, at_16, at_11, at_12, at_14, at_30, at_37, at_40, at_r1, at_r2, at_r3, at_r4, at_r5, at_r6, at_r7, at_r8, at_r9, at_r10, at_r11, at_r12, at_r13, at_r14, at_r15, at_r16, at_r17, at_r18, at_r19, at_r20, at_r21, at_r22, at_r23, at_r24, at_r25, at_r26, at_r27, at_r28, at_r29, at_r30, at_p15, at_p16, at_comes, at_happ, at_put (show (5 : Nat) ≠ 0 ∨ _ from Or.inl (by decide))]
                            refine P_bipush (pc := 176) dX6_readsEvent_176 (by decide) ?_
                            refine P_icmp_ne (tgt := 222) (pc := 178) dX6_readsEvent_178 (by decide) (by first | assumption | (unfold InR; omega)) (by first | assumption | (unfold InR; omega)) (fun c_178 => ?_) (fun c_178 => ?_)
                            · refine P_aload_n (pc := 222) dX6_readsEvent_222 rfl 6 rfl ?_
                              refine P_bipush (pc := 223) dX6_readsEvent_223 (by decide) ?_
                              refine P_callVi (Y' := mX6_takesSign) (as := [_]) (pc := 225) dX6_readsEvent_225 rfl (by decide : 1 < 3) sM_0 rfl ml_RX6_157 im_X6_takesSign se_X6_takesSign mk_X6_takesSign (Nat.le_of_ble_eq_true rfl) (c_X6_takesSign hT (by omega) (by omega)) (fun z_ μ_ hq => ?_)
                              obtain ⟨rfl, hμ_, hi_⟩ := hq
                              subst hμ_
                              try simp only [at_15, at_16, at_11, at_12, at_14, at_30, at_37, at_40, at_r1, at_r2, at_r3, at_r4, at_r5, at_r6, at_r7, at_r8, at_r9, at_r10, at_r11, at_r12, at_r13, at_r14, at_r15, at_r16, at_r17, at_r18, at_r19, at_r20, at_r21, at_r22, at_r23, at_r24, at_r25, at_r26, at_r27, at_r28, at_r29, at_r30, at_p15, at_p16, at_comes, at_happ, at_put (show (5 : Nat) ≠ 0 ∨ _ from Or.inl (by decide))]
                              refine P_if_ne (tgt := 233) (pc := 228) dX6_readsEvent_228 (by decide) (by first | assumption | (unfold InR; omega)) (fun c_228 => ?_) (fun c_228 => ?_)
                              · refine P_aload_n (pc := 233) dX6_readsEvent_233 rfl 6 rfl ?_
                                refine P_iload_n (pc := 234) dX6_readsEvent_234 rfl 5 rfl ?_
                                refine P_iload_n (pc := 235) dX6_readsEvent_235 rfl 4 rfl ?_
                                refine P_iload_n (pc := 236) dX6_readsEvent_236 rfl 3 rfl ?_
                                refine P_iload (pc := 237) dX6_readsEvent_237 2 rfl ?_
                                refine P_iload (pc := 239) dX6_readsEvent_239 1 rfl ?_
                                refine P_callVi (Y' := mX6_happens) (as := [_, _, _, _, _]) (pc := 241) dX6_readsEvent_241 rfl (by decide : 1 < 3) sM_0 rfl ml_RX6_135 im_X6_happens se_X6_happens mk_X6_happens (Nat.le_of_ble_eq_true rfl) (c_X6_happens h12 (by unfold InR; omega)) (fun z_ μ_ hq => ?_)
                                obtain ⟨rfl, hμ_⟩ := hq
                                have hμ_ := hμ_.symm
                                subst hμ_
                                try simp only [at_15, at_16, at_11, at_12, at_14, at_30, at_37, at_40, at_r1, at_r2, at_r3, at_r4, at_r5, at_r6, at_r7, at_r8, at_r9, at_r10, at_r11, at_r12, at_r13, at_r14, at_r15, at_r16, at_r17, at_r18, at_r19, at_r20, at_r21, at_r22, at_r23, at_r24, at_r25, at_r26, at_r27, at_r28, at_r29, at_r30, at_p15, at_p16, at_comes, at_happ, at_put (show (5 : Nat) ≠ 0 ∨ _ from Or.inl (by decide))]
                                refine P_pop (pc := 244) dX6_readsEvent_244 rfl ?_
                                refine P_iconst (pc := 245) dX6_readsEvent_245 ?_
                                exact P_zret (pc := 246) dX6_readsEvent_246 rfl (by omega) (QI.mk (by first | (exfalso; omega) | ((try (unfold rdE at hE; first | rw [if_pos (by omega)] at hE | rw [if_neg (by omega)] at hE)); (try (unfold rdE1 at hE; first | rw [if_pos (by omega)] at hE | rw [if_neg (by omega)] at hE)); (try (unfold rdE2 at hE; first | rw [if_pos (by omega)] at hE | rw [if_neg (by omega)] at hE)); (try (unfold rdE3 at hE; first | rw [if_pos (by omega)] at hE | rw [if_neg (by omega)] at hE)); (try (unfold rdE4 at hE; first | rw [if_pos (by omega)] at hE | rw [if_neg (by omega)] at hE)); (try (unfold rdE5 at hE; first | rw [if_pos (by omega)] at hE | rw [if_neg (by omega)] at hE)); (try (unfold rdE6 at hE; first | rw [if_pos (by omega)] at hE | rw [if_neg (by omega)] at hE)); (try (unfold rdE7 at hE; first | rw [if_pos (by omega)] at hE | rw [if_neg (by omega)] at hE)); (try (unfold rdE7c at hE; first | rw [if_pos (by omega)] at hE | rw [if_neg (by omega)] at hE)); (try (unfold rdE7d at hE; first | rw [if_pos (by omega)] at hE | rw [if_neg (by omega)] at hE)); (try (unfold rdE8 at hE; first | rw [if_pos (by omega)] at hE | rw [if_neg (by omega)] at hE)); (try (unfold rdE9 at hE; first | rw [if_pos (by omega)] at hE | rw [if_neg (by omega)] at hE)); (try (unfold rdE9b at hE; first | rw [if_pos (by omega)] at hE | rw [if_neg (by omega)] at hE)); (try (unfold rdE10 at hE; first | rw [if_pos (by omega)] at hE | rw [if_neg (by omega)] at hE)); subst hE; exact ⟨rfl, _, rfl⟩)))
                              · refine P_iconst (pc := 231) dX6_readsEvent_231 ?_
                                exact P_zret (pc := 232) dX6_readsEvent_232 rfl (by omega) (QI.mk (by first | (exfalso; omega) | ((try (unfold rdE at hE; first | rw [if_pos (by omega)] at hE | rw [if_neg (by omega)] at hE)); (try (unfold rdE1 at hE; first | rw [if_pos (by omega)] at hE | rw [if_neg (by omega)] at hE)); (try (unfold rdE2 at hE; first | rw [if_pos (by omega)] at hE | rw [if_neg (by omega)] at hE)); (try (unfold rdE3 at hE; first | rw [if_pos (by omega)] at hE | rw [if_neg (by omega)] at hE)); (try (unfold rdE4 at hE; first | rw [if_pos (by omega)] at hE | rw [if_neg (by omega)] at hE)); (try (unfold rdE5 at hE; first | rw [if_pos (by omega)] at hE | rw [if_neg (by omega)] at hE)); (try (unfold rdE6 at hE; first | rw [if_pos (by omega)] at hE | rw [if_neg (by omega)] at hE)); (try (unfold rdE7 at hE; first | rw [if_pos (by omega)] at hE | rw [if_neg (by omega)] at hE)); (try (unfold rdE7c at hE; first | rw [if_pos (by omega)] at hE | rw [if_neg (by omega)] at hE)); (try (unfold rdE7d at hE; first | rw [if_pos (by omega)] at hE | rw [if_neg (by omega)] at hE)); (try (unfold rdE8 at hE; first | rw [if_pos (by omega)] at hE | rw [if_neg (by omega)] at hE)); (try (unfold rdE9 at hE; first | rw [if_pos (by omega)] at hE | rw [if_neg (by omega)] at hE)); (try (unfold rdE9b at hE; first | rw [if_pos (by omega)] at hE | rw [if_neg (by omega)] at hE)); (try (unfold rdE10 at hE; first | rw [if_pos (by omega)] at hE | rw [if_neg (by omega)] at hE)); subst hE; exact ⟨rfl, _, rfl⟩)))
                            · refine P_aload_n (pc := 181) dX6_readsEvent_181 rfl 6 rfl ?_
                              refine P_dup (pc := 182) dX6_readsEvent_182 rfl ?_
                              refine P_getI (jj := 15) (pc := 183) dX6_readsEvent_183 fa_RX6_144 sM_0 fM0_15 rfl ?_
                              try simp only [at_15, at_16, at_11, at_12, at_14, at_30, at_37, at_40, at_r1, at_r2, at_r3, at_r4, at_r5, at_r6, at_r7, at_r8, at_r9, at_r10, at_r11, at_r12, at_r13, at_r14, at_r15, at_r16, at_r17, at_r18, at_r19, at_r20, at_r21, at_r22, at_r23, at_r24, at_r25, at_r26, at_r27, at_r28, at_r29, at_r30, at_p15, at_p16, at_comes, at_happ, at_put (show (5 : Nat) ≠ 0 ∨ _ from Or.inl (by decide))]
                              refine P_iconst (pc := 186) dX6_readsEvent_186 ?_
                              refine P_iadd (pc := 187) dX6_readsEvent_187 ?_
                              refine P_putI (jj := 15) (pc := 188) dX6_readsEvent_188 fa_RX6_144 fp_6_15 sM_0 fM0_15 rfl ?_
                              try simp only [at_15, at_16, at_11, at_12, at_14, at_30, at_37, at_40, at_r1, at_r2, at_r3, at_r4, at_r5, at_r6, at_r7, at_r8, at_r9, at_r10, at_r11, at_r12, at_r13, at_r14, at_r15, at_r16, at_r17, at_r18, at_r19, at_r20, at_r21, at_r22, at_r23, at_r24, at_r25, at_r26, at_r27, at_r28, at_r29, at_r30, at_p15, at_p16, at_comes, at_happ, at_put (show (5 : Nat) ≠ 0 ∨ _ from Or.inl (by decide))]
                              refine P_aload_n (pc := 191) dX6_readsEvent_191 rfl 6 rfl ?_
                              refine P_iconst (pc := 192) dX6_readsEvent_192 ?_
                              refine P_callVi (Y' := mX6_digit) (as := [_]) (pc := 193) dX6_readsEvent_193 rfl (by decide : 1 < 3) sM_0 rfl ml_RX6_154 im_X6_digit se_X6_digit mk_X6_digit (Nat.le_of_ble_eq_true rfl) (c_X6_digit hT (by omega) (by omega)) (fun z_ μ_ hq => ?_)
                              obtain ⟨rfl, hμ_, hi_⟩ := hq
                              subst hμ_
                              try simp only [at_15, at_16, at_11, at_12, at_14, at_30, at_37, at_40, at_r1, at_r2, at_r3, at_r4, at_r5, at_r6, at_r7, at_r8, at_r9, at_r10, at_r11, at_r12, at_r13, at_r14, at_r15, at_r16, at_r17, at_r18, at_r19, at_r20, at_r21, at_r22, at_r23, at_r24, at_r25, at_r26, at_r27, at_r28, at_r29, at_r30, at_p15, at_p16, at_comes, at_happ, at_put (show (5 : Nat) ≠ 0 ∨ _ from Or.inl (by decide))]
                              refine P_istore (L' := [(7, vi _), (6, vi _), (5, vi _), (4, vi _), (3, vi _), (2, vi _), (1, vi _), (0, vr 0)]) (pc := 196) dX6_readsEvent_196 (by decide) rfl ?_
                              refine P_iload (pc := 198) dX6_readsEvent_198 0 rfl ?_
                              refine P_if_ge (tgt := 205) (pc := 200) dX6_readsEvent_200 (by decide) (by first | assumption | (unfold InR; omega)) (fun c_200 => ?_) (fun c_200 => ?_)
                              · refine P_iload (pc := 205) dX6_readsEvent_205 1 rfl ?_
                                refine P_if_eq (tgt := 215) (pc := 207) dX6_readsEvent_207 (by decide) (by first | assumption | (unfold InR; omega)) (fun c_207 => ?_) (fun c_207 => ?_)
                                · refine P_bipush (pc := 215) dX6_readsEvent_215 (by decide) ?_
                                  refine P_iload (pc := 217) dX6_readsEvent_217 0 rfl ?_
                                  refine P_iadd (pc := 219) dX6_readsEvent_219 ?_
                                  refine P_istore (L' := [(5, vi _), (7, vi _), (6, vi _), (4, vi _), (3, vi _), (2, vi _), (1, vi _), (0, vr 0)]) (pc := 220) dX6_readsEvent_220 (by decide) rfl ?_
                                  refine P_aload_n (pc := 222) dX6_readsEvent_222 rfl 7 rfl ?_
                                  refine P_bipush (pc := 223) dX6_readsEvent_223 (by decide) ?_
                                  refine P_callVi (Y' := mX6_takesSign) (as := [_]) (pc := 225) dX6_readsEvent_225 rfl (by decide : 1 < 3) sM_0 rfl ml_RX6_157 im_X6_takesSign se_X6_takesSign mk_X6_takesSign (Nat.le_of_ble_eq_true rfl) (c_X6_takesSign hT (by omega) (by omega)) (fun z_ μ_ hq => ?_)
                                  obtain ⟨rfl, hμ_, hi_⟩ := hq
                                  subst hμ_
                                  try simp only [at_15, at_16, at_11, at_12, at_14, at_30, at_37, at_40, at_r1, at_r2, at_r3, at_r4, at_r5, at_r6, at_r7, at_r8, at_r9, at_r10, at_r11, at_r12, at_r13, at_r14, at_r15, at_r16, at_r17, at_r18, at_r19, at_r20, at_r21, at_r22, at_r23, at_r24, at_r25, at_r26, at_r27, at_r28, at_r29, at_r30, at_p15, at_p16, at_comes, at_happ, at_put (show (5 : Nat) ≠ 0 ∨ _ from Or.inl (by decide))]
                                  refine P_if_ne (tgt := 233) (pc := 228) dX6_readsEvent_228 (by decide) (by first | assumption | (unfold InR; omega)) (fun c_228 => ?_) (fun c_228 => ?_)
                                  · refine P_aload_n (pc := 233) dX6_readsEvent_233 rfl 7 rfl ?_
                                    refine P_iload_n (pc := 234) dX6_readsEvent_234 rfl 6 rfl ?_
                                    refine P_iload_n (pc := 235) dX6_readsEvent_235 rfl 5 rfl ?_
                                    refine P_iload_n (pc := 236) dX6_readsEvent_236 rfl 4 rfl ?_
                                    refine P_iload (pc := 237) dX6_readsEvent_237 3 rfl ?_
                                    refine P_iload (pc := 239) dX6_readsEvent_239 0 rfl ?_
                                    refine P_callVi (Y' := mX6_happens) (as := [_, _, _, _, _]) (pc := 241) dX6_readsEvent_241 rfl (by decide : 1 < 3) sM_0 rfl ml_RX6_135 im_X6_happens se_X6_happens mk_X6_happens (Nat.le_of_ble_eq_true rfl) (c_X6_happens h12 (by unfold InR; omega)) (fun z_ μ_ hq => ?_)
                                    obtain ⟨rfl, hμ_⟩ := hq
                                    have hμ_ := hμ_.symm
                                    subst hμ_
                                    try simp only [at_15, at_16, at_11, at_12, at_14, at_30, at_37, at_40, at_r1, at_r2, at_r3, at_r4, at_r5, at_r6, at_r7, at_r8, at_r9, at_r10, at_r11, at_r12, at_r13, at_r14, at_r15, at_r16, at_r17, at_r18, at_r19, at_r20, at_r21, at_r22, at_r23, at_r24, at_r25, at_r26, at_r27, at_r28, at_r29, at_r30, at_p15, at_p16, at_comes, at_happ, at_put (show (5 : Nat) ≠ 0 ∨ _ from Or.inl (by decide))]
                                    refine P_pop (pc := 244) dX6_readsEvent_244 rfl ?_
                                    refine P_iconst (pc := 245) dX6_readsEvent_245 ?_
                                    exact P_zret (pc := 246) dX6_readsEvent_246 rfl (by omega) (QI.mk (by first | (exfalso; omega) | ((try (unfold rdE at hE; first | rw [if_pos (by omega)] at hE | rw [if_neg (by omega)] at hE)); (try (unfold rdE1 at hE; first | rw [if_pos (by omega)] at hE | rw [if_neg (by omega)] at hE)); (try (unfold rdE2 at hE; first | rw [if_pos (by omega)] at hE | rw [if_neg (by omega)] at hE)); (try (unfold rdE3 at hE; first | rw [if_pos (by omega)] at hE | rw [if_neg (by omega)] at hE)); (try (unfold rdE4 at hE; first | rw [if_pos (by omega)] at hE | rw [if_neg (by omega)] at hE)); (try (unfold rdE5 at hE; first | rw [if_pos (by omega)] at hE | rw [if_neg (by omega)] at hE)); (try (unfold rdE6 at hE; first | rw [if_pos (by omega)] at hE | rw [if_neg (by omega)] at hE)); (try (unfold rdE7 at hE; first | rw [if_pos (by omega)] at hE | rw [if_neg (by omega)] at hE)); (try (unfold rdE7c at hE; first | rw [if_pos (by omega)] at hE | rw [if_neg (by omega)] at hE)); (try (unfold rdE7d at hE; first | rw [if_pos (by omega)] at hE | rw [if_neg (by omega)] at hE)); (try (unfold rdE8 at hE; first | rw [if_pos (by omega)] at hE | rw [if_neg (by omega)] at hE)); (try (unfold rdE9 at hE; first | rw [if_pos (by omega)] at hE | rw [if_neg (by omega)] at hE)); (try (unfold rdE9b at hE; first | rw [if_pos (by omega)] at hE | rw [if_neg (by omega)] at hE)); (try (unfold rdE10 at hE; first | rw [if_pos (by omega)] at hE | rw [if_neg (by omega)] at hE)); subst hE; exact ⟨rfl, _, rfl⟩)))
                                  · refine P_iconst (pc := 231) dX6_readsEvent_231 ?_
                                    exact P_zret (pc := 232) dX6_readsEvent_232 rfl (by omega) (QI.mk (by first | (exfalso; omega) | ((try (unfold rdE at hE; first | rw [if_pos (by omega)] at hE | rw [if_neg (by omega)] at hE)); (try (unfold rdE1 at hE; first | rw [if_pos (by omega)] at hE | rw [if_neg (by omega)] at hE)); (try (unfold rdE2 at hE; first | rw [if_pos (by omega)] at hE | rw [if_neg (by omega)] at hE)); (try (unfold rdE3 at hE; first | rw [if_pos (by omega)] at hE | rw [if_neg (by omega)] at hE)); (try (unfold rdE4 at hE; first | rw [if_pos (by omega)] at hE | rw [if_neg (by omega)] at hE)); (try (unfold rdE5 at hE; first | rw [if_pos (by omega)] at hE | rw [if_neg (by omega)] at hE)); (try (unfold rdE6 at hE; first | rw [if_pos (by omega)] at hE | rw [if_neg (by omega)] at hE)); (try (unfold rdE7 at hE; first | rw [if_pos (by omega)] at hE | rw [if_neg (by omega)] at hE)); (try (unfold rdE7c at hE; first | rw [if_pos (by omega)] at hE | rw [if_neg (by omega)] at hE)); (try (unfold rdE7d at hE; first | rw [if_pos (by omega)] at hE | rw [if_neg (by omega)] at hE)); (try (unfold rdE8 at hE; first | rw [if_pos (by omega)] at hE | rw [if_neg (by omega)] at hE)); (try (unfold rdE9 at hE; first | rw [if_pos (by omega)] at hE | rw [if_neg (by omega)] at hE)); (try (unfold rdE9b at hE; first | rw [if_pos (by omega)] at hE | rw [if_neg (by omega)] at hE)); (try (unfold rdE10 at hE; first | rw [if_pos (by omega)] at hE | rw [if_neg (by omega)] at hE)); subst hE; exact ⟨rfl, _, rfl⟩)))
                                · exfalso; omega
                              · refine P_iconst (pc := 203) dX6_readsEvent_203 ?_
                                exact P_zret (pc := 204) dX6_readsEvent_204 rfl (by omega) (QI.mk (by first | (exfalso; omega) | ((try (unfold rdE at hE; first | rw [if_pos (by omega)] at hE | rw [if_neg (by omega)] at hE)); (try (unfold rdE1 at hE; first | rw [if_pos (by omega)] at hE | rw [if_neg (by omega)] at hE)); (try (unfold rdE2 at hE; first | rw [if_pos (by omega)] at hE | rw [if_neg (by omega)] at hE)); (try (unfold rdE3 at hE; first | rw [if_pos (by omega)] at hE | rw [if_neg (by omega)] at hE)); (try (unfold rdE4 at hE; first | rw [if_pos (by omega)] at hE | rw [if_neg (by omega)] at hE)); (try (unfold rdE5 at hE; first | rw [if_pos (by omega)] at hE | rw [if_neg (by omega)] at hE)); (try (unfold rdE6 at hE; first | rw [if_pos (by omega)] at hE | rw [if_neg (by omega)] at hE)); (try (unfold rdE7 at hE; first | rw [if_pos (by omega)] at hE | rw [if_neg (by omega)] at hE)); (try (unfold rdE7c at hE; first | rw [if_pos (by omega)] at hE | rw [if_neg (by omega)] at hE)); (try (unfold rdE7d at hE; first | rw [if_pos (by omega)] at hE | rw [if_neg (by omega)] at hE)); (try (unfold rdE8 at hE; first | rw [if_pos (by omega)] at hE | rw [if_neg (by omega)] at hE)); (try (unfold rdE9 at hE; first | rw [if_pos (by omega)] at hE | rw [if_neg (by omega)] at hE)); (try (unfold rdE9b at hE; first | rw [if_pos (by omega)] at hE | rw [if_neg (by omega)] at hE)); (try (unfold rdE10 at hE; first | rw [if_pos (by omega)] at hE | rw [if_neg (by omega)] at hE)); subst hE; exact ⟨rfl, _, rfl⟩)))
                        · refine P_iconst (pc := 160) dX6_readsEvent_160 ?_
                          refine P_goto (tgt := 165) (pc := 161) dX6_readsEvent_161 (by decide) ?_
                          refine P_istore (L' := [(6, vi _), (5, vi _), (4, vi _), (3, vi _), (2, vi _), (1, vi _), (0, vr 0)]) (pc := 165) dX6_readsEvent_165 (by decide) rfl ?_
                          refine P_iload (pc := 167) dX6_readsEvent_167 0 rfl ?_
                          refine P_if_ne (tgt := 181) (pc := 169) dX6_readsEvent_169 (by decide) (by first | assumption | (unfold InR; omega)) (fun c_169 => ?_) (fun c_169 => ?_)
                          · refine P_aload_n (pc := 181) dX6_readsEvent_181 rfl 6 rfl ?_
                            refine P_dup (pc := 182) dX6_readsEvent_182 rfl ?_
                            refine P_getI (jj := 15) (pc := 183) dX6_readsEvent_183 fa_RX6_144 sM_0 fM0_15 rfl ?_
                            try simp only [at_15, at_16, at_11, at_12, at_14, at_30, at_37, at_40, at_r1, at_r2, at_r3, at_r4, at_r5, at_r6, at_r7, at_r8, at_r9, at_r10, at_r11, at_r12, at_r13, at_r14, at_r15, at_r16, at_r17, at_r18, at_r19, at_r20, at_r21, at_r22, at_r23, at_r24, at_r25, at_r26, at_r27, at_r28, at_r29, at_r30, at_p15, at_p16, at_comes, at_happ, at_put (show (5 : Nat) ≠ 0 ∨ _ from Or.inl (by decide))]
                            refine P_iconst (pc := 186) dX6_readsEvent_186 ?_
                            refine P_iadd (pc := 187) dX6_readsEvent_187 ?_
                            refine P_putI (jj := 15) (pc := 188) dX6_readsEvent_188 fa_RX6_144 fp_6_15 sM_0 fM0_15 rfl ?_
                            try simp only [at_15, at_16, at_11, at_12, at_14, at_30, at_37, at_40, at_r1, at_r2, at_r3, at_r4, at_r5, at_r6, at_r7, at_r8, at_r9, at_r10, at_r11, at_r12, at_r13, at_r14, at_r15, at_r16, at_r17, at_r18, at_r19, at_r20, at_r21, at_r22, at_r23, at_r24, at_r25, at_r26, at_r27, at_r28, at_r29, at_r30, at_p15, at_p16, at_comes, at_happ, at_put (show (5 : Nat) ≠ 0 ∨ _ from Or.inl (by decide))]
                            refine P_aload_n (pc := 191) dX6_readsEvent_191 rfl 6 rfl ?_
                            refine P_iconst (pc := 192) dX6_readsEvent_192 ?_
                            refine P_callVi (Y' := mX6_digit) (as := [_]) (pc := 193) dX6_readsEvent_193 rfl (by decide : 1 < 3) sM_0 rfl ml_RX6_154 im_X6_digit se_X6_digit mk_X6_digit (Nat.le_of_ble_eq_true rfl) (c_X6_digit hT (by omega) (by omega)) (fun z_ μ_ hq => ?_)
                            obtain ⟨rfl, hμ_, hi_⟩ := hq
                            subst hμ_
                            try simp only [at_15, at_16, at_11, at_12, at_14, at_30, at_37, at_40, at_r1, at_r2, at_r3, at_r4, at_r5, at_r6, at_r7, at_r8, at_r9, at_r10, at_r11, at_r12, at_r13, at_r14, at_r15, at_r16, at_r17, at_r18, at_r19, at_r20, at_r21, at_r22, at_r23, at_r24, at_r25, at_r26, at_r27, at_r28, at_r29, at_r30, at_p15, at_p16, at_comes, at_happ, at_put (show (5 : Nat) ≠ 0 ∨ _ from Or.inl (by decide))]
                            refine P_istore (L' := [(7, vi _), (6, vi _), (5, vi _), (4, vi _), (3, vi _), (2, vi _), (1, vi _), (0, vr 0)]) (pc := 196) dX6_readsEvent_196 (by decide) rfl ?_
                            refine P_iload (pc := 198) dX6_readsEvent_198 0 rfl ?_
                            refine P_if_ge (tgt := 205) (pc := 200) dX6_readsEvent_200 (by decide) (by first | assumption | (unfold InR; omega)) (fun c_200 => ?_) (fun c_200 => ?_)
                            · refine P_iload (pc := 205) dX6_readsEvent_205 1 rfl ?_
                              refine P_if_eq (tgt := 215) (pc := 207) dX6_readsEvent_207 (by decide) (by first | assumption | (unfold InR; omega)) (fun c_207 => ?_) (fun c_207 => ?_)
                              · exfalso; omega
                              · refine P_iload (pc := 210) dX6_readsEvent_210 0 rfl ?_
                                refine P_goto (tgt := 220) (pc := 212) dX6_readsEvent_212 (by decide) ?_
                                refine P_istore (L' := [(5, vi _), (7, vi _), (6, vi _), (4, vi _), (3, vi _), (2, vi _), (1, vi _), (0, vr 0)]) (pc := 220) dX6_readsEvent_220 (by decide) rfl ?_
                                refine P_aload_n (pc := 222) dX6_readsEvent_222 rfl 7 rfl ?_
                                refine P_bipush (pc := 223) dX6_readsEvent_223 (by decide) ?_
                                refine P_callVi (Y' := mX6_takesSign) (as := [_]) (pc := 225) dX6_readsEvent_225 rfl (by decide : 1 < 3) sM_0 rfl ml_RX6_157 im_X6_takesSign se_X6_takesSign mk_X6_takesSign (Nat.le_of_ble_eq_true rfl) (c_X6_takesSign hT (by omega) (by omega)) (fun z_ μ_ hq => ?_)
                                obtain ⟨rfl, hμ_, hi_⟩ := hq
                                subst hμ_
                                try simp only [at_15, at_16, at_11, at_12, at_14, at_30, at_37, at_40, at_r1, at_r2, at_r3, at_r4, at_r5, at_r6, at_r7, at_r8, at_r9, at_r10, at_r11, at_r12, at_r13, at_r14, at_r15, at_r16, at_r17, at_r18, at_r19, at_r20, at_r21, at_r22, at_r23, at_r24, at_r25, at_r26, at_r27, at_r28, at_r29, at_r30, at_p15, at_p16, at_comes, at_happ, at_put (show (5 : Nat) ≠ 0 ∨ _ from Or.inl (by decide))]
                                refine P_if_ne (tgt := 233) (pc := 228) dX6_readsEvent_228 (by decide) (by first | assumption | (unfold InR; omega)) (fun c_228 => ?_) (fun c_228 => ?_)
                                · refine P_aload_n (pc := 233) dX6_readsEvent_233 rfl 7 rfl ?_
                                  refine P_iload_n (pc := 234) dX6_readsEvent_234 rfl 6 rfl ?_
                                  refine P_iload_n (pc := 235) dX6_readsEvent_235 rfl 5 rfl ?_
                                  refine P_iload_n (pc := 236) dX6_readsEvent_236 rfl 4 rfl ?_
                                  refine P_iload (pc := 237) dX6_readsEvent_237 3 rfl ?_
                                  refine P_iload (pc := 239) dX6_readsEvent_239 0 rfl ?_
                                  refine P_callVi (Y' := mX6_happens) (as := [_, _, _, _, _]) (pc := 241) dX6_readsEvent_241 rfl (by decide : 1 < 3) sM_0 rfl ml_RX6_135 im_X6_happens se_X6_happens mk_X6_happens (Nat.le_of_ble_eq_true rfl) (c_X6_happens h12 (by unfold InR; omega)) (fun z_ μ_ hq => ?_)
                                  obtain ⟨rfl, hμ_⟩ := hq
                                  have hμ_ := hμ_.symm
                                  subst hμ_
                                  try simp only [at_15, at_16, at_11, at_12, at_14, at_30, at_37, at_40, at_r1, at_r2, at_r3, at_r4, at_r5, at_r6, at_r7, at_r8, at_r9, at_r10, at_r11, at_r12, at_r13, at_r14, at_r15, at_r16, at_r17, at_r18, at_r19, at_r20, at_r21, at_r22, at_r23, at_r24, at_r25, at_r26, at_r27, at_r28, at_r29, at_r30, at_p15, at_p16, at_comes, at_happ, at_put (show (5 : Nat) ≠ 0 ∨ _ from Or.inl (by decide))]
                                  refine P_pop (pc := 244) dX6_readsEvent_244 rfl ?_
                                  refine P_iconst (pc := 245) dX6_readsEvent_245 ?_
                                  exact P_zret (pc := 246) dX6_readsEvent_246 rfl (by omega) (QI.mk (by first | (exfalso; omega) | ((try (unfold rdE at hE; first | rw [if_pos (by omega)] at hE | rw [if_neg (by omega)] at hE)); (try (unfold rdE1 at hE; first | rw [if_pos (by omega)] at hE | rw [if_neg (by omega)] at hE)); (try (unfold rdE2 at hE; first | rw [if_pos (by omega)] at hE | rw [if_neg (by omega)] at hE)); (try (unfold rdE3 at hE; first | rw [if_pos (by omega)] at hE | rw [if_neg (by omega)] at hE)); (try (unfold rdE4 at hE; first | rw [if_pos (by omega)] at hE | rw [if_neg (by omega)] at hE)); (try (unfold rdE5 at hE; first | rw [if_pos (by omega)] at hE | rw [if_neg (by omega)] at hE)); (try (unfold rdE6 at hE; first | rw [if_pos (by omega)] at hE | rw [if_neg (by omega)] at hE)); (try (unfold rdE7 at hE; first | rw [if_pos (by omega)] at hE | rw [if_neg (by omega)] at hE)); (try (unfold rdE7c at hE; first | rw [if_pos (by omega)] at hE | rw [if_neg (by omega)] at hE)); (try (unfold rdE7d at hE; first | rw [if_pos (by omega)] at hE | rw [if_neg (by omega)] at hE)); (try (unfold rdE8 at hE; first | rw [if_pos (by omega)] at hE | rw [if_neg (by omega)] at hE)); (try (unfold rdE9 at hE; first | rw [if_pos (by omega)] at hE | rw [if_neg (by omega)] at hE)); (try (unfold rdE9b at hE; first | rw [if_pos (by omega)] at hE | rw [if_neg (by omega)] at hE)); (try (unfold rdE10 at hE; first | rw [if_pos (by omega)] at hE | rw [if_neg (by omega)] at hE)); subst hE; exact ⟨rfl, _, rfl⟩)))
                                · refine P_iconst (pc := 231) dX6_readsEvent_231 ?_
                                  exact P_zret (pc := 232) dX6_readsEvent_232 rfl (by omega) (QI.mk (by first | (exfalso; omega) | ((try (unfold rdE at hE; first | rw [if_pos (by omega)] at hE | rw [if_neg (by omega)] at hE)); (try (unfold rdE1 at hE; first | rw [if_pos (by omega)] at hE | rw [if_neg (by omega)] at hE)); (try (unfold rdE2 at hE; first | rw [if_pos (by omega)] at hE | rw [if_neg (by omega)] at hE)); (try (unfold rdE3 at hE; first | rw [if_pos (by omega)] at hE | rw [if_neg (by omega)] at hE)); (try (unfold rdE4 at hE; first | rw [if_pos (by omega)] at hE | rw [if_neg (by omega)] at hE)); (try (unfold rdE5 at hE; first | rw [if_pos (by omega)] at hE | rw [if_neg (by omega)] at hE)); (try (unfold rdE6 at hE; first | rw [if_pos (by omega)] at hE | rw [if_neg (by omega)] at hE)); (try (unfold rdE7 at hE; first | rw [if_pos (by omega)] at hE | rw [if_neg (by omega)] at hE)); (try (unfold rdE7c at hE; first | rw [if_pos (by omega)] at hE | rw [if_neg (by omega)] at hE)); (try (unfold rdE7d at hE; first | rw [if_pos (by omega)] at hE | rw [if_neg (by omega)] at hE)); (try (unfold rdE8 at hE; first | rw [if_pos (by omega)] at hE | rw [if_neg (by omega)] at hE)); (try (unfold rdE9 at hE; first | rw [if_pos (by omega)] at hE | rw [if_neg (by omega)] at hE)); (try (unfold rdE9b at hE; first | rw [if_pos (by omega)] at hE | rw [if_neg (by omega)] at hE)); (try (unfold rdE10 at hE; first | rw [if_pos (by omega)] at hE | rw [if_neg (by omega)] at hE)); subst hE; exact ⟨rfl, _, rfl⟩)))
                            · refine P_iconst (pc := 203) dX6_readsEvent_203 ?_
                              exact P_zret (pc := 204) dX6_readsEvent_204 rfl (by omega) (QI.mk (by first | (exfalso; omega) | ((try (unfold rdE at hE; first | rw [if_pos (by omega)] at hE | rw [if_neg (by omega)] at hE)); (try (unfold rdE1 at hE; first | rw [if_pos (by omega)] at hE | rw [if_neg (by omega)] at hE)); (try (unfold rdE2 at hE; first | rw [if_pos (by omega)] at hE | rw [if_neg (by omega)] at hE)); (try (unfold rdE3 at hE; first | rw [if_pos (by omega)] at hE | rw [if_neg (by omega)] at hE)); (try (unfold rdE4 at hE; first | rw [if_pos (by omega)] at hE | rw [if_neg (by omega)] at hE)); (try (unfold rdE5 at hE; first | rw [if_pos (by omega)] at hE | rw [if_neg (by omega)] at hE)); (try (unfold rdE6 at hE; first | rw [if_pos (by omega)] at hE | rw [if_neg (by omega)] at hE)); (try (unfold rdE7 at hE; first | rw [if_pos (by omega)] at hE | rw [if_neg (by omega)] at hE)); (try (unfold rdE7c at hE; first | rw [if_pos (by omega)] at hE | rw [if_neg (by omega)] at hE)); (try (unfold rdE7d at hE; first | rw [if_pos (by omega)] at hE | rw [if_neg (by omega)] at hE)); (try (unfold rdE8 at hE; first | rw [if_pos (by omega)] at hE | rw [if_neg (by omega)] at hE)); (try (unfold rdE9 at hE; first | rw [if_pos (by omega)] at hE | rw [if_neg (by omega)] at hE)); (try (unfold rdE9b at hE; first | rw [if_pos (by omega)] at hE | rw [if_neg (by omega)] at hE)); (try (unfold rdE10 at hE; first | rw [if_pos (by omega)] at hE | rw [if_neg (by omega)] at hE)); subst hE; exact ⟨rfl, _, rfl⟩)))
                          · exfalso; omega
                      · refine P_aload_n (pc := 138) dX6_readsEvent_138 rfl 4 rfl ?_
                        refine P_aload_n (pc := 139) dX6_readsEvent_139 rfl 4 rfl ?_
                        refine P_getI (jj := 16) (pc := 140) dX6_readsEvent_140 fa_RX6_151 sM_0 fM0_16 rfl ?_
                        try simp only [at_15, at_16, at_11, at_12, at_14, at_30, at_37, at_40, at_r1, at_r2, at_r3, at_r4, at_r5, at_r6, at_r7, at_r8, at_r9, at_r10, at_r11, at_r12, at_r13, at_r14, at_r15, at_r16, at_r17, at_r18, at_r19, at_r20, at_r21, at_r22, at_r23, at_r24, at_r25, at_r26, at_r27, at_r28, at_r29, at_r30, at_p15, at_p16, at_comes, at_happ, at_put (show (5 : Nat) ≠ 0 ∨ _ from Or.inl (by decide))]
                        refine P_putI (jj := 15) (pc := 143) dX6_readsEvent_143 fa_RX6_144 fp_6_15 sM_0 fM0_15 rfl ?_
                        try simp only [at_15, at_16, at_11, at_12, at_14, at_30, at_37, at_40, at_r1, at_r2, at_r3, at_r4, at_r5, at_r6, at_r7, at_r8, at_r9, at_r10, at_r11, at_r12, at_r13, at_r14, at_r15, at_r16, at_r17, at_r18, at_r19, at_r20, at_r21, at_r22, at_r23, at_r24, at_r25, at_r26, at_r27, at_r28, at_r29, at_r30, at_p15, at_p16, at_comes, at_happ, at_put (show (5 : Nat) ≠ 0 ∨ _ from Or.inl (by decide))]
                        refine P_iconst (pc := 146) dX6_readsEvent_146 ?_
                        exact P_zret (pc := 147) dX6_readsEvent_147 rfl (by omega) (QI.mk (by first | (exfalso; omega) | ((try (unfold rdE at hE; first | rw [if_pos (by omega)] at hE | rw [if_neg (by omega)] at hE)); (try (unfold rdE1 at hE; first | rw [if_pos (by omega)] at hE | rw [if_neg (by omega)] at hE)); (try (unfold rdE2 at hE; first | rw [if_pos (by omega)] at hE | rw [if_neg (by omega)] at hE)); (try (unfold rdE3 at hE; first | rw [if_pos (by omega)] at hE | rw [if_neg (by omega)] at hE)); (try (unfold rdE4 at hE; first | rw [if_pos (by omega)] at hE | rw [if_neg (by omega)] at hE)); (try (unfold rdE5 at hE; first | rw [if_pos (by omega)] at hE | rw [if_neg (by omega)] at hE)); (try (unfold rdE6 at hE; first | rw [if_pos (by omega)] at hE | rw [if_neg (by omega)] at hE)); (try (unfold rdE7 at hE; first | rw [if_pos (by omega)] at hE | rw [if_neg (by omega)] at hE)); (try (unfold rdE7c at hE; first | rw [if_pos (by omega)] at hE | rw [if_neg (by omega)] at hE)); (try (unfold rdE7d at hE; first | rw [if_pos (by omega)] at hE | rw [if_neg (by omega)] at hE)); (try (unfold rdE8 at hE; first | rw [if_pos (by omega)] at hE | rw [if_neg (by omega)] at hE)); (try (unfold rdE9 at hE; first | rw [if_pos (by omega)] at hE | rw [if_neg (by omega)] at hE)); (try (unfold rdE9b at hE; first | rw [if_pos (by omega)] at hE | rw [if_neg (by omega)] at hE)); (try (unfold rdE10 at hE; first | rw [if_pos (by omega)] at hE | rw [if_neg (by omega)] at hE)); subst hE; exact ⟨rfl, _, rfl⟩)))
                  · refine P_iconst (pc := 124) dX6_readsEvent_124 ?_
                    exact P_zret (pc := 125) dX6_readsEvent_125 rfl (by omega) (QI.mk (by first | (exfalso; omega) | ((try (unfold rdE at hE; first | rw [if_pos (by omega)] at hE | rw [if_neg (by omega)] at hE)); (try (unfold rdE1 at hE; first | rw [if_pos (by omega)] at hE | rw [if_neg (by omega)] at hE)); (try (unfold rdE2 at hE; first | rw [if_pos (by omega)] at hE | rw [if_neg (by omega)] at hE)); (try (unfold rdE3 at hE; first | rw [if_pos (by omega)] at hE | rw [if_neg (by omega)] at hE)); (try (unfold rdE4 at hE; first | rw [if_pos (by omega)] at hE | rw [if_neg (by omega)] at hE)); (try (unfold rdE5 at hE; first | rw [if_pos (by omega)] at hE | rw [if_neg (by omega)] at hE)); (try (unfold rdE6 at hE; first | rw [if_pos (by omega)] at hE | rw [if_neg (by omega)] at hE)); (try (unfold rdE7 at hE; first | rw [if_pos (by omega)] at hE | rw [if_neg (by omega)] at hE)); (try (unfold rdE7c at hE; first | rw [if_pos (by omega)] at hE | rw [if_neg (by omega)] at hE)); (try (unfold rdE7d at hE; first | rw [if_pos (by omega)] at hE | rw [if_neg (by omega)] at hE)); (try (unfold rdE8 at hE; first | rw [if_pos (by omega)] at hE | rw [if_neg (by omega)] at hE)); (try (unfold rdE9 at hE; first | rw [if_pos (by omega)] at hE | rw [if_neg (by omega)] at hE)); (try (unfold rdE9b at hE; first | rw [if_pos (by omega)] at hE | rw [if_neg (by omega)] at hE)); (try (unfold rdE10 at hE; first | rw [if_pos (by omega)] at hE | rw [if_neg (by omega)] at hE)); subst hE; exact ⟨rfl, _, rfl⟩)))
                · exfalso; omega
              · refine P_iconst (pc := 89) dX6_readsEvent_89 ?_
                exact P_zret (pc := 90) dX6_readsEvent_90 rfl (by omega) (QI.mk (by first | (exfalso; omega) | ((try (unfold rdE at hE; first | rw [if_pos (by omega)] at hE | rw [if_neg (by omega)] at hE)); (try (unfold rdE1 at hE; first | rw [if_pos (by omega)] at hE | rw [if_neg (by omega)] at hE)); (try (unfold rdE2 at hE; first | rw [if_pos (by omega)] at hE | rw [if_neg (by omega)] at hE)); (try (unfold rdE3 at hE; first | rw [if_pos (by omega)] at hE | rw [if_neg (by omega)] at hE)); (try (unfold rdE4 at hE; first | rw [if_pos (by omega)] at hE | rw [if_neg (by omega)] at hE)); (try (unfold rdE5 at hE; first | rw [if_pos (by omega)] at hE | rw [if_neg (by omega)] at hE)); (try (unfold rdE6 at hE; first | rw [if_pos (by omega)] at hE | rw [if_neg (by omega)] at hE)); (try (unfold rdE7 at hE; first | rw [if_pos (by omega)] at hE | rw [if_neg (by omega)] at hE)); (try (unfold rdE7c at hE; first | rw [if_pos (by omega)] at hE | rw [if_neg (by omega)] at hE)); (try (unfold rdE7d at hE; first | rw [if_pos (by omega)] at hE | rw [if_neg (by omega)] at hE)); (try (unfold rdE8 at hE; first | rw [if_pos (by omega)] at hE | rw [if_neg (by omega)] at hE)); (try (unfold rdE9 at hE; first | rw [if_pos (by omega)] at hE | rw [if_neg (by omega)] at hE)); (try (unfold rdE9b at hE; first | rw [if_pos (by omega)] at hE | rw [if_neg (by omega)] at hE)); (try (unfold rdE10 at hE; first | rw [if_pos (by omega)] at hE | rw [if_neg (by omega)] at hE)); subst hE; exact ⟨rfl, _, rfl⟩)))
            · refine P_iload_n (pc := 74) dX6_readsEvent_74 rfl 2 rfl ?_
              refine P_bipush (pc := 75) dX6_readsEvent_75 (by decide) ?_
              refine P_icmp_ne (tgt := 148) (pc := 77) dX6_readsEvent_77 (by decide) (by first | assumption | (unfold InR; omega)) (by first | assumption | (unfold InR; omega)) (fun c_77 => ?_) (fun c_77 => ?_)
              · refine P_iconst (pc := 148) dX6_readsEvent_148 ?_
                refine P_istore (L' := [(5, vi _), (4, vi _), (3, vi _), (2, vi _), (1, vi _), (0, vr 0)]) (pc := 149) dX6_readsEvent_149 (by decide) rfl ?_
                refine P_aload_n (pc := 151) dX6_readsEvent_151 rfl 5 rfl ?_
                refine P_callVi (Y' := mX6_sign) (as := []) (pc := 152) dX6_readsEvent_152 rfl (by decide : 0 < 3) sM_0 rfl ml_RX6_147 im_X6_sign se_X6_sign mk_X6_sign (Nat.le_of_ble_eq_true rfl) (c_X6_sign hT (by omega)) (fun z_ μ_ hq => ?_)
                obtain ⟨rfl, hμ_, hi_⟩ := hq
                subst hμ_
                try simp only [at_15, at_16, at_11, at_12, at_14, at_30, at_37, at_40, at_r1, at_r2, at_r3, at_r4, at_r5, at_r6, at_r7, at_r8, at_r9, at_r10, at_r11, at_r12, at_r13, at_r14, at_r15, at_r16, at_r17, at_r18, at_r19, at_r20, at_r21, at_r22, at_r23, at_r24, at_r25, at_r26, at_r27, at_r28, at_r29, at_r30, at_p15, at_p16, at_comes, at_happ, at_put (show (5 : Nat) ≠ 0 ∨ _ from Or.inl (by decide))]
                refine P_bipush (pc := 155) dX6_readsEvent_155 (by decide) ?_
                refine P_icmp_ne (tgt := 164) (pc := 157) dX6_readsEvent_157 (by decide) (by first | assumption | (unfold InR; omega)) (by first | assumption | (unfold InR; omega)) (fun c_157 => ?_) (fun c_157 => ?_)
                · refine P_iconst (pc := 164) dX6_readsEvent_164 ?_
                  refine P_istore (L' := [(6, vi _), (5, vi _), (4, vi _), (3, vi _), (2, vi _), (1, vi _), (0, vr 0)]) (pc := 165) dX6_readsEvent_165 (by decide) rfl ?_
                  refine P_iload (pc := 167) dX6_readsEvent_167 0 rfl ?_
                  refine P_if_ne (tgt := 181) (pc := 169) dX6_readsEvent_169 (by decide) (by first | assumption | (unfold InR; omega)) (fun c_169 => ?_) (fun c_169 => ?_)
                  · exfalso; omega
                  · refine P_aload_n (pc := 172) dX6_readsEvent_172 rfl 6 rfl ?_
                    refine P_callVi (Y' := mX6_sign) (as := []) (pc := 173) dX6_readsEvent_173 rfl (by decide : 0 < 3) sM_0 rfl ml_RX6_147 im_X6_sign se_X6_sign mk_X6_sign (Nat.le_of_ble_eq_true rfl) (c_X6_sign hT (by omega)) (fun z_ μ_ hq => ?_)
                    obtain ⟨rfl, hμ_, hi_⟩ := hq
                    subst hμ_
                    try simp only [at_15, at_16, at_11, at_12, at_14, at_30, at_37, at_40, at_r1, at_r2, at_r3, at_r4, at_r5, at_r6, at_r7, at_r8, at_r9, at_r10, at_r11, at_r12, at_r13, at_r14, at_r15, at_r16, at_r17, at_r18, at_r19, at_r20, at_r21, at_r22, at_r23, at_r24, at_r25, at_r26, at_r27, at_r28, at_r29, at_r30, at_p15, at_p16, at_comes, at_happ, at_put (show (5 : Nat) ≠ 0 ∨ _ from Or.inl (by decide))]
                    refine P_bipush (pc := 176) dX6_readsEvent_176 (by decide) ?_
                    refine P_icmp_ne (tgt := 222) (pc := 178) dX6_readsEvent_178 (by decide) (by first | assumption | (unfold InR; omega)) (by first | assumption | (unfold InR; omega)) (fun c_178 => ?_) (fun c_178 => ?_)
                    · refine P_aload_n (pc := 222) dX6_readsEvent_222 rfl 6 rfl ?_
                      refine P_bipush (pc := 223) dX6_readsEvent_223 (by decide) ?_
                      refine P_callVi (Y' := mX6_takesSign) (as := [_]) (pc := 225) dX6_readsEvent_225 rfl (by decide : 1 < 3) sM_0 rfl ml_RX6_157 im_X6_takesSign se_X6_takesSign mk_X6_takesSign (Nat.le_of_ble_eq_true rfl) (c_X6_takesSign hT (by omega) (by omega)) (fun z_ μ_ hq => ?_)
                      obtain ⟨rfl, hμ_, hi_⟩ := hq
                      subst hμ_
                      try simp only [at_15, at_16, at_11, at_12, at_14, at_30, at_37, at_40, at_r1, at_r2, at_r3, at_r4, at_r5, at_r6, at_r7, at_r8, at_r9, at_r10, at_r11, at_r12, at_r13, at_r14, at_r15, at_r16, at_r17, at_r18, at_r19, at_r20, at_r21, at_r22, at_r23, at_r24, at_r25, at_r26, at_r27, at_r28, at_r29, at_r30, at_p15, at_p16, at_comes, at_happ, at_put (show (5 : Nat) ≠ 0 ∨ _ from Or.inl (by decide))]
                      refine P_if_ne (tgt := 233) (pc := 228) dX6_readsEvent_228 (by decide) (by first | assumption | (unfold InR; omega)) (fun c_228 => ?_) (fun c_228 => ?_)
                      · refine P_aload_n (pc := 233) dX6_readsEvent_233 rfl 6 rfl ?_
                        refine P_iload_n (pc := 234) dX6_readsEvent_234 rfl 5 rfl ?_
                        refine P_iload_n (pc := 235) dX6_readsEvent_235 rfl 4 rfl ?_
                        refine P_iload_n (pc := 236) dX6_readsEvent_236 rfl 3 rfl ?_
                        refine P_iload (pc := 237) dX6_readsEvent_237 2 rfl ?_
                        refine P_iload (pc := 239) dX6_readsEvent_239 1 rfl ?_
                        refine P_callVi (Y' := mX6_happens) (as := [_, _, _, _, _]) (pc := 241) dX6_readsEvent_241 rfl (by decide : 1 < 3) sM_0 rfl ml_RX6_135 im_X6_happens se_X6_happens mk_X6_happens (Nat.le_of_ble_eq_true rfl) (c_X6_happens h12 (by unfold InR; omega)) (fun z_ μ_ hq => ?_)
                        obtain ⟨rfl, hμ_⟩ := hq
                        have hμ_ := hμ_.symm
                        subst hμ_
                        try simp only [at_15, at_16, at_11, at_12, at_14, at_30, at_37, at_40, at_r1, at_r2, at_r3, at_r4, at_r5, at_r6, at_r7, at_r8, at_r9, at_r10, at_r11, at_r12, at_r13, at_r14, at_r15, at_r16, at_r17, at_r18, at_r19, at_r20, at_r21, at_r22, at_r23, at_r24, at_r25, at_r26, at_r27, at_r28, at_r29, at_r30, at_p15, at_p16, at_comes, at_happ, at_put (show (5 : Nat) ≠ 0 ∨ _ from Or.inl (by decide))]
                        refine P_pop (pc := 244) dX6_readsEvent_244 rfl ?_
                        refine P_iconst (pc := 245) dX6_readsEvent_245 ?_
                        exact P_zret (pc := 246) dX6_readsEvent_246 rfl (by omega) (QI.mk (by first | (exfalso; omega) | ((try (unfold rdE at hE; first | rw [if_pos (by omega)] at hE | rw [if_neg (by omega)] at hE)); (try (unfold rdE1 at hE; first | rw [if_pos (by omega)] at hE | rw [if_neg (by omega)] at hE)); (try (unfold rdE2 at hE; first | rw [if_pos (by omega)] at hE | rw [if_neg (by omega)] at hE)); (try (unfold rdE3 at hE; first | rw [if_pos (by omega)] at hE | rw [if_neg (by omega)] at hE)); (try (unfold rdE4 at hE; first | rw [if_pos (by omega)] at hE | rw [if_neg (by omega)] at hE)); (try (unfold rdE5 at hE; first | rw [if_pos (by omega)] at hE | rw [if_neg (by omega)] at hE)); (try (unfold rdE6 at hE; first | rw [if_pos (by omega)] at hE | rw [if_neg (by omega)] at hE)); (try (unfold rdE7 at hE; first | rw [if_pos (by omega)] at hE | rw [if_neg (by omega)] at hE)); (try (unfold rdE7c at hE; first | rw [if_pos (by omega)] at hE | rw [if_neg (by omega)] at hE)); (try (unfold rdE7d at hE; first | rw [if_pos (by omega)] at hE | rw [if_neg (by omega)] at hE)); (try (unfold rdE8 at hE; first | rw [if_pos (by omega)] at hE | rw [if_neg (by omega)] at hE)); (try (unfold rdE9 at hE; first | rw [if_pos (by omega)] at hE | rw [if_neg (by omega)] at hE)); (try (unfold rdE9b at hE; first | rw [if_pos (by omega)] at hE | rw [if_neg (by omega)] at hE)); (try (unfold rdE10 at hE; first | rw [if_pos (by omega)] at hE | rw [if_neg (by omega)] at hE)); subst hE; exact ⟨rfl, _, rfl⟩)))
                      · refine P_iconst (pc := 231) dX6_readsEvent_231 ?_
                        exact P_zret (pc := 232) dX6_readsEvent_232 rfl (by omega) (QI.mk (by first | (exfalso; omega) | ((try (unfold rdE at hE; first | rw [if_pos (by omega)] at hE | rw [if_neg (by omega)] at hE)); (try (unfold rdE1 at hE; first | rw [if_pos (by omega)] at hE | rw [if_neg (by omega)] at hE)); (try (unfold rdE2 at hE; first | rw [if_pos (by omega)] at hE | rw [if_neg (by omega)] at hE)); (try (unfold rdE3 at hE; first | rw [if_pos (by omega)] at hE | rw [if_neg (by omega)] at hE)); (try (unfold rdE4 at hE; first | rw [if_pos (by omega)] at hE | rw [if_neg (by omega)] at hE)); (try (unfold rdE5 at hE; first | rw [if_pos (by omega)] at hE | rw [if_neg (by omega)] at hE)); (try (unfold rdE6 at hE; first | rw [if_pos (by omega)] at hE | rw [if_neg (by omega)] at hE)); (try (unfold rdE7 at hE; first | rw [if_pos (by omega)] at hE | rw [if_neg (by omega)] at hE)); (try (unfold rdE7c at hE; first | rw [if_pos (by omega)] at hE | rw [if_neg (by omega)] at hE)); (try (unfold rdE7d at hE; first | rw [if_pos (by omega)] at hE | rw [if_neg (by omega)] at hE)); (try (unfold rdE8 at hE; first | rw [if_pos (by omega)] at hE | rw [if_neg (by omega)] at hE)); (try (unfold rdE9 at hE; first | rw [if_pos (by omega)] at hE | rw [if_neg (by omega)] at hE)); (try (unfold rdE9b at hE; first | rw [if_pos (by omega)] at hE | rw [if_neg (by omega)] at hE)); (try (unfold rdE10 at hE; first | rw [if_pos (by omega)] at hE | rw [if_neg (by omega)] at hE)); subst hE; exact ⟨rfl, _, rfl⟩)))
                    · refine P_aload_n (pc := 181) dX6_readsEvent_181 rfl 6 rfl ?_
                      refine P_dup (pc := 182) dX6_readsEvent_182 rfl ?_
                      refine P_getI (jj := 15) (pc := 183) dX6_readsEvent_183 fa_RX6_144 sM_0 fM0_15 rfl ?_
                      try simp only [at_15, at_16, at_11, at_12, at_14, at_30, at_37, at_40, at_r1, at_r2, at_r3, at_r4, at_r5, at_r6, at_r7, at_r8, at_r9, at_r10, at_r11, at_r12, at_r13, at_r14, at_r15, at_r16, at_r17, at_r18, at_r19, at_r20, at_r21, at_r22, at_r23, at_r24, at_r25, at_r26, at_r27, at_r28, at_r29, at_r30, at_p15, at_p16, at_comes, at_happ, at_put (show (5 : Nat) ≠ 0 ∨ _ from Or.inl (by decide))]
                      refine P_iconst (pc := 186) dX6_readsEvent_186 ?_
                      refine P_iadd (pc := 187) dX6_readsEvent_187 ?_
                      refine P_putI (jj := 15) (pc := 188) dX6_readsEvent_188 fa_RX6_144 fp_6_15 sM_0 fM0_15 rfl ?_
                      try simp only [at_15, at_16, at_11, at_12, at_14, at_30, at_37, at_40, at_r1, at_r2, at_r3, at_r4, at_r5, at_r6, at_r7, at_r8, at_r9, at_r10, at_r11, at_r12, at_r13, at_r14, at_r15, at_r16, at_r17, at_r18, at_r19, at_r20, at_r21, at_r22, at_r23, at_r24, at_r25, at_r26, at_r27, at_r28, at_r29, at_r30, at_p15, at_p16, at_comes, at_happ, at_put (show (5 : Nat) ≠ 0 ∨ _ from Or.inl (by decide))]
                      refine P_aload_n (pc := 191) dX6_readsEvent_191 rfl 6 rfl ?_
                      refine P_iconst (pc := 192) dX6_readsEvent_192 ?_
                      refine P_callVi (Y' := mX6_digit) (as := [_]) (pc := 193) dX6_readsEvent_193 rfl (by decide : 1 < 3) sM_0 rfl ml_RX6_154 im_X6_digit se_X6_digit mk_X6_digit (Nat.le_of_ble_eq_true rfl) (c_X6_digit hT (by omega) (by omega)) (fun z_ μ_ hq => ?_)
                      obtain ⟨rfl, hμ_, hi_⟩ := hq
                      subst hμ_
                      try simp only [at_15, at_16, at_11, at_12, at_14, at_30, at_37, at_40, at_r1, at_r2, at_r3, at_r4, at_r5, at_r6, at_r7, at_r8, at_r9, at_r10, at_r11, at_r12, at_r13, at_r14, at_r15, at_r16, at_r17, at_r18, at_r19, at_r20, at_r21, at_r22, at_r23, at_r24, at_r25, at_r26, at_r27, at_r28, at_r29, at_r30, at_p15, at_p16, at_comes, at_happ, at_put (show (5 : Nat) ≠ 0 ∨ _ from Or.inl (by decide))]
                      refine P_istore (L' := [(7, vi _), (6, vi _), (5, vi _), (4, vi _), (3, vi _), (2, vi _), (1, vi _), (0, vr 0)]) (pc := 196) dX6_readsEvent_196 (by decide) rfl ?_
                      refine P_iload (pc := 198) dX6_readsEvent_198 0 rfl ?_
                      refine P_if_ge (tgt := 205) (pc := 200) dX6_readsEvent_200 (by decide) (by first | assumption | (unfold InR; omega)) (fun c_200 => ?_) (fun c_200 => ?_)
                      · refine P_iload (pc := 205) dX6_readsEvent_205 1 rfl ?_
                        refine P_if_eq (tgt := 215) (pc := 207) dX6_readsEvent_207 (by decide) (by first | assumption | (unfold InR; omega)) (fun c_207 => ?_) (fun c_207 => ?_)
                        · refine P_bipush (pc := 215) dX6_readsEvent_215 (by decide) ?_
                          refine P_iload (pc := 217) dX6_readsEvent_217 0 rfl ?_
                          refine P_iadd (pc := 219) dX6_readsEvent_219 ?_
                          refine P_istore (L' := [(5, vi _), (7, vi _), (6, vi _), (4, vi _), (3, vi _), (2, vi _), (1, vi _), (0, vr 0)]) (pc := 220) dX6_readsEvent_220 (by decide) rfl ?_
                          refine P_aload_n (pc := 222) dX6_readsEvent_222 rfl 7 rfl ?_
                          refine P_bipush (pc := 223) dX6_readsEvent_223 (by decide) ?_
                          refine P_callVi (Y' := mX6_takesSign) (as := [_]) (pc := 225) dX6_readsEvent_225 rfl (by decide : 1 < 3) sM_0 rfl ml_RX6_157 im_X6_takesSign se_X6_takesSign mk_X6_takesSign (Nat.le_of_ble_eq_true rfl) (c_X6_takesSign hT (by omega) (by omega)) (fun z_ μ_ hq => ?_)
                          obtain ⟨rfl, hμ_, hi_⟩ := hq
                          subst hμ_
                          try simp only [at_15, at_16, at_11, at_12, at_14, at_30, at_37, at_40, at_r1, at_r2, at_r3, at_r4, at_r5, at_r6, at_r7, at_r8, at_r9, at_r10, at_r11, at_r12, at_r13, at_r14, at_r15, at_r16, at_r17, at_r18, at_r19, at_r20, at_r21, at_r22, at_r23, at_r24, at_r25, at_r26, at_r27, at_r28, at_r29, at_r30, at_p15, at_p16, at_comes, at_happ, at_put (show (5 : Nat) ≠ 0 ∨ _ from Or.inl (by decide))]
                          refine P_if_ne (tgt := 233) (pc := 228) dX6_readsEvent_228 (by decide) (by first | assumption | (unfold InR; omega)) (fun c_228 => ?_) (fun c_228 => ?_)
                          · refine P_aload_n (pc := 233) dX6_readsEvent_233 rfl 7 rfl ?_
                            refine P_iload_n (pc := 234) dX6_readsEvent_234 rfl 6 rfl ?_
                            refine P_iload_n (pc := 235) dX6_readsEvent_235 rfl 5 rfl ?_
                            refine P_iload_n (pc := 236) dX6_readsEvent_236 rfl 4 rfl ?_
                            refine P_iload (pc := 237) dX6_readsEvent_237 3 rfl ?_
                            refine P_iload (pc := 239) dX6_readsEvent_239 0 rfl ?_
                            refine P_callVi (Y' := mX6_happens) (as := [_, _, _, _, _]) (pc := 241) dX6_readsEvent_241 rfl (by decide : 1 < 3) sM_0 rfl ml_RX6_135 im_X6_happens se_X6_happens mk_X6_happens (Nat.le_of_ble_eq_true rfl) (c_X6_happens h12 (by unfold InR; omega)) (fun z_ μ_ hq => ?_)
                            obtain ⟨rfl, hμ_⟩ := hq
                            have hμ_ := hμ_.symm
                            subst hμ_
                            try simp only [at_15, at_16, at_11, at_12, at_14, at_30, at_37, at_40, at_r1, at_r2, at_r3, at_r4, at_r5, at_r6, at_r7, at_r8, at_r9, at_r10, at_r11, at_r12, at_r13, at_r14, at_r15, at_r16, at_r17, at_r18, at_r19, at_r20, at_r21, at_r22, at_r23, at_r24, at_r25, at_r26, at_r27, at_r28, at_r29, at_r30, at_p15, at_p16, at_comes, at_happ, at_put (show (5 : Nat) ≠ 0 ∨ _ from Or.inl (by decide))]
                            refine P_pop (pc := 244) dX6_readsEvent_244 rfl ?_
                            refine P_iconst (pc := 245) dX6_readsEvent_245 ?_
                            exact P_zret (pc := 246) dX6_readsEvent_246 rfl (by omega) (QI.mk (by first | (exfalso; omega) | ((try (unfold rdE at hE; first | rw [if_pos (by omega)] at hE | rw [if_neg (by omega)] at hE)); (try (unfold rdE1 at hE; first | rw [if_pos (by omega)] at hE | rw [if_neg (by omega)] at hE)); (try (unfold rdE2 at hE; first | rw [if_pos (by omega)] at hE | rw [if_neg (by omega)] at hE)); (try (unfold rdE3 at hE; first | rw [if_pos (by omega)] at hE | rw [if_neg (by omega)] at hE)); (try (unfold rdE4 at hE; first | rw [if_pos (by omega)] at hE | rw [if_neg (by omega)] at hE)); (try (unfold rdE5 at hE; first | rw [if_pos (by omega)] at hE | rw [if_neg (by omega)] at hE)); (try (unfold rdE6 at hE; first | rw [if_pos (by omega)] at hE | rw [if_neg (by omega)] at hE)); (try (unfold rdE7 at hE; first | rw [if_pos (by omega)] at hE | rw [if_neg (by omega)] at hE)); (try (unfold rdE7c at hE; first | rw [if_pos (by omega)] at hE | rw [if_neg (by omega)] at hE)); (try (unfold rdE7d at hE; first | rw [if_pos (by omega)] at hE | rw [if_neg (by omega)] at hE)); (try (unfold rdE8 at hE; first | rw [if_pos (by omega)] at hE | rw [if_neg (by omega)] at hE)); (try (unfold rdE9 at hE; first | rw [if_pos (by omega)] at hE | rw [if_neg (by omega)] at hE)); (try (unfold rdE9b at hE; first | rw [if_pos (by omega)] at hE | rw [if_neg (by omega)] at hE)); (try (unfold rdE10 at hE; first | rw [if_pos (by omega)] at hE | rw [if_neg (by omega)] at hE)); subst hE; exact ⟨rfl, _, rfl⟩)))
                          · refine P_iconst (pc := 231) dX6_readsEvent_231 ?_
                            exact P_zret (pc := 232) dX6_readsEvent_232 rfl (by omega) (QI.mk (by first | (exfalso; omega) | ((try (unfold rdE at hE; first | rw [if_pos (by omega)] at hE | rw [if_neg (by omega)] at hE)); (try (unfold rdE1 at hE; first | rw [if_pos (by omega)] at hE | rw [if_neg (by omega)] at hE)); (try (unfold rdE2 at hE; first | rw [if_pos (by omega)] at hE | rw [if_neg (by omega)] at hE)); (try (unfold rdE3 at hE; first | rw [if_pos (by omega)] at hE | rw [if_neg (by omega)] at hE)); (try (unfold rdE4 at hE; first | rw [if_pos (by omega)] at hE | rw [if_neg (by omega)] at hE)); (try (unfold rdE5 at hE; first | rw [if_pos (by omega)] at hE | rw [if_neg (by omega)] at hE)); (try (unfold rdE6 at hE; first | rw [if_pos (by omega)] at hE | rw [if_neg (by omega)] at hE)); (try (unfold rdE7 at hE; first | rw [if_pos (by omega)] at hE | rw [if_neg (by omega)] at hE)); (try (unfold rdE7c at hE; first | rw [if_pos (by omega)] at hE | rw [if_neg (by omega)] at hE)); (try (unfold rdE7d at hE; first | rw [if_pos (by omega)] at hE | rw [if_neg (by omega)] at hE)); (try (unfold rdE8 at hE; first | rw [if_pos (by omega)] at hE | rw [if_neg (by omega)] at hE)); (try (unfold rdE9 at hE; first | rw [if_pos (by omega)] at hE | rw [if_neg (by omega)] at hE)); (try (unfold rdE9b at hE; first | rw [if_pos (by omega)] at hE | rw [if_neg (by omega)] at hE)); (try (unfold rdE10 at hE; first | rw [if_pos (by omega)] at hE | rw [if_neg (by omega)] at hE)); subst hE; exact ⟨rfl, _, rfl⟩)))
                        · exfalso; omega
                      · refine P_iconst (pc := 203) dX6_readsEvent_203 ?_
                        exact P_zret (pc := 204) dX6_readsEvent_204 rfl (by omega) (QI.mk (by first | (exfalso; omega) | ((try (unfold rdE at hE; first | rw [if_pos (by omega)] at hE | rw [if_neg (by omega)] at hE)); (try (unfold rdE1 at hE; first | rw [if_pos (by omega)] at hE | rw [if_neg (by omega)] at hE)); (try (unfold rdE2 at hE; first | rw [if_pos (by omega)] at hE | rw [if_neg (by omega)] at hE)); (try (unfold rdE3 at hE; first | rw [if_pos (by omega)] at hE | rw [if_neg (by omega)] at hE)); (try (unfold rdE4 at hE; first | rw [if_pos (by omega)] at hE | rw [if_neg (by omega)] at hE)); (try (unfold rdE5 at hE; first | rw [if_pos (by omega)] at hE | rw [if_neg (by omega)] at hE)); (try (unfold rdE6 at hE; first | rw [if_pos (by omega)] at hE | rw [if_neg (by omega)] at hE)); (try (unfold rdE7 at hE; first | rw [if_pos (by omega)] at hE | rw [if_neg (by omega)] at hE)); (try (unfold rdE7c at hE; first | rw [if_pos (by omega)] at hE | rw [if_neg (by omega)] at hE)); (try (unfold rdE7d at hE; first | rw [if_pos (by omega)] at hE | rw [if_neg (by omega)] at hE)); (try (unfold rdE8 at hE; first | rw [if_pos (by omega)] at hE | rw [if_neg (by omega)] at hE)); (try (unfold rdE9 at hE; first | rw [if_pos (by omega)] at hE | rw [if_neg (by omega)] at hE)); (try (unfold rdE9b at hE; first | rw [if_pos (by omega)] at hE | rw [if_neg (by omega)] at hE)); (try (unfold rdE10 at hE; first | rw [if_pos (by omega)] at hE | rw [if_neg (by omega)] at hE)); subst hE; exact ⟨rfl, _, rfl⟩)))
                · refine P_iconst (pc := 160) dX6_readsEvent_160 ?_
                  refine P_goto (tgt := 165) (pc := 161) dX6_readsEvent_161 (by decide) ?_
                  refine P_istore (L' := [(6, vi _), (5, vi _), (4, vi _), (3, vi _), (2, vi _), (1, vi _), (0, vr 0)]) (pc := 165) dX6_readsEvent_165 (by decide) rfl ?_
                  refine P_iload (pc := 167) dX6_readsEvent_167 0 rfl ?_
                  refine P_if_ne (tgt := 181) (pc := 169) dX6_readsEvent_169 (by decide) (by first | assumption | (unfold InR; omega)) (fun c_169 => ?_) (fun c_169 => ?_)
                  · refine P_aload_n (pc := 181) dX6_readsEvent_181 rfl 6 rfl ?_
                    refine P_dup (pc := 182) dX6_readsEvent_182 rfl ?_
                    refine P_getI (jj := 15) (pc := 183) dX6_readsEvent_183 fa_RX6_144 sM_0 fM0_15 rfl ?_
                    try simp only [at_15, at_16, at_11, at_12, at_14, at_30, at_37, at_40, at_r1, at_r2, at_r3, at_r4, at_r5, at_r6, at_r7, at_r8, at_r9, at_r10, at_r11, at_r12, at_r13, at_r14, at_r15, at_r16, at_r17, at_r18, at_r19, at_r20, at_r21, at_r22, at_r23, at_r24, at_r25, at_r26, at_r27, at_r28, at_r29, at_r30, at_p15, at_p16, at_comes, at_happ, at_put (show (5 : Nat) ≠ 0 ∨ _ from Or.inl (by decide))]
                    refine P_iconst (pc := 186) dX6_readsEvent_186 ?_
                    refine P_iadd (pc := 187) dX6_readsEvent_187 ?_
                    refine P_putI (jj := 15) (pc := 188) dX6_readsEvent_188 fa_RX6_144 fp_6_15 sM_0 fM0_15 rfl ?_
                    try simp only [at_15, at_16, at_11, at_12, at_14, at_30, at_37, at_40, at_r1, at_r2, at_r3, at_r4, at_r5, at_r6, at_r7, at_r8, at_r9, at_r10, at_r11, at_r12, at_r13, at_r14, at_r15, at_r16, at_r17, at_r18, at_r19, at_r20, at_r21, at_r22, at_r23, at_r24, at_r25, at_r26, at_r27, at_r28, at_r29, at_r30, at_p15, at_p16, at_comes, at_happ, at_put (show (5 : Nat) ≠ 0 ∨ _ from Or.inl (by decide))]
                    refine P_aload_n (pc := 191) dX6_readsEvent_191 rfl 6 rfl ?_
                    refine P_iconst (pc := 192) dX6_readsEvent_192 ?_
                    refine P_callVi (Y' := mX6_digit) (as := [_]) (pc := 193) dX6_readsEvent_193 rfl (by decide : 1 < 3) sM_0 rfl ml_RX6_154 im_X6_digit se_X6_digit mk_X6_digit (Nat.le_of_ble_eq_true rfl) (c_X6_digit hT (by omega) (by omega)) (fun z_ μ_ hq => ?_)
                    obtain ⟨rfl, hμ_, hi_⟩ := hq
                    subst hμ_
                    try simp only [at_15, at_16, at_11, at_12, at_14, at_30, at_37, at_40, at_r1, at_r2, at_r3, at_r4, at_r5, at_r6, at_r7, at_r8, at_r9, at_r10, at_r11, at_r12, at_r13, at_r14, at_r15, at_r16, at_r17, at_r18, at_r19, at_r20, at_r21, at_r22, at_r23, at_r24, at_r25, at_r26, at_r27, at_r28, at_r29, at_r30, at_p15, at_p16, at_comes, at_happ, at_put (show (5 : Nat) ≠ 0 ∨ _ from Or.inl (by decide))]
                    refine P_istore (L' := [(7, vi _), (6, vi _), (5, vi _), (4, vi _), (3, vi _), (2, vi _), (1, vi _), (0, vr 0)]) (pc := 196) dX6_readsEvent_196 (by decide) rfl ?_
                    refine P_iload (pc := 198) dX6_readsEvent_198 0 rfl ?_
                    refine P_if_ge (tgt := 205) (pc := 200) dX6_readsEvent_200 (by decide) (by first | assumption | (unfold InR; omega)) (fun c_200 => ?_) (fun c_200 => ?_)
                    · refine P_iload (pc := 205) dX6_readsEvent_205 1 rfl ?_
                      refine P_if_eq (tgt := 215) (pc := 207) dX6_readsEvent_207 (by decide) (by first | assumption | (unfold InR; omega)) (fun c_207 => ?_) (fun c_207 => ?_)
                      · exfalso; omega
                      · refine P_iload (pc := 210) dX6_readsEvent_210 0 rfl ?_
                        refine P_goto (tgt := 220) (pc := 212) dX6_readsEvent_212 (by decide) ?_
                        refine P_istore (L' := [(5, vi _), (7, vi _), (6, vi _), (4, vi _), (3, vi _), (2, vi _), (1, vi _), (0, vr 0)]) (pc := 220) dX6_readsEvent_220 (by decide) rfl ?_
                        refine P_aload_n (pc := 222) dX6_readsEvent_222 rfl 7 rfl ?_
                        refine P_bipush (pc := 223) dX6_readsEvent_223 (by decide) ?_
                        refine P_callVi (Y' := mX6_takesSign) (as := [_]) (pc := 225) dX6_readsEvent_225 rfl (by decide : 1 < 3) sM_0 rfl ml_RX6_157 im_X6_takesSign se_X6_takesSign mk_X6_takesSign (Nat.le_of_ble_eq_true rfl) (c_X6_takesSign hT (by omega) (by omega)) (fun z_ μ_ hq => ?_)
                        obtain ⟨rfl, hμ_, hi_⟩ := hq
                        subst hμ_
                        try simp only [at_15, at_16, at_11, at_12, at_14, at_30, at_37, at_40, at_r1, at_r2, at_r3, at_r4, at_r5, at_r6, at_r7, at_r8, at_r9, at_r10, at_r11, at_r12, at_r13, at_r14, at_r15, at_r16, at_r17, at_r18, at_r19, at_r20, at_r21, at_r22, at_r23, at_r24, at_r25, at_r26, at_r27, at_r28, at_r29, at_r30, at_p15, at_p16, at_comes, at_happ, at_put (show (5 : Nat) ≠ 0 ∨ _ from Or.inl (by decide))]
                        refine P_if_ne (tgt := 233) (pc := 228) dX6_readsEvent_228 (by decide) (by first | assumption | (unfold InR; omega)) (fun c_228 => ?_) (fun c_228 => ?_)
                        · refine P_aload_n (pc := 233) dX6_readsEvent_233 rfl 7 rfl ?_
                          refine P_iload_n (pc := 234) dX6_readsEvent_234 rfl 6 rfl ?_
                          refine P_iload_n (pc := 235) dX6_readsEvent_235 rfl 5 rfl ?_
                          refine P_iload_n (pc := 236) dX6_readsEvent_236 rfl 4 rfl ?_
                          refine P_iload (pc := 237) dX6_readsEvent_237 3 rfl ?_
                          refine P_iload (pc := 239) dX6_readsEvent_239 0 rfl ?_
                          refine P_callVi (Y' := mX6_happens) (as := [_, _, _, _, _]) (pc := 241) dX6_readsEvent_241 rfl (by decide : 1 < 3) sM_0 rfl ml_RX6_135 im_X6_happens se_X6_happens mk_X6_happens (Nat.le_of_ble_eq_true rfl) (c_X6_happens h12 (by unfold InR; omega)) (fun z_ μ_ hq => ?_)
                          obtain ⟨rfl, hμ_⟩ := hq
                          have hμ_ := hμ_.symm
                          subst hμ_
                          try simp only [at_15, at_16, at_11, at_12, at_14, at_30, at_37, at_40, at_r1, at_r2, at_r3, at_r4, at_r5, at_r6, at_r7, at_r8, at_r9, at_r10, at_r11, at_r12, at_r13, at_r14, at_r15, at_r16, at_r17, at_r18, at_r19, at_r20, at_r21, at_r22, at_r23, at_r24, at_r25, at_r26, at_r27, at_r28, at_r29, at_r30, at_p15, at_p16, at_comes, at_happ, at_put (show (5 : Nat) ≠ 0 ∨ _ from Or.inl (by decide))]
                          refine P_pop (pc := 244) dX6_readsEvent_244 rfl ?_
                          refine P_iconst (pc := 245) dX6_readsEvent_245 ?_
                          exact P_zret (pc := 246) dX6_readsEvent_246 rfl (by omega) (QI.mk (by first | (exfalso; omega) | ((try (unfold rdE at hE; first | rw [if_pos (by omega)] at hE | rw [if_neg (by omega)] at hE)); (try (unfold rdE1 at hE; first | rw [if_pos (by omega)] at hE | rw [if_neg (by omega)] at hE)); (try (unfold rdE2 at hE; first | rw [if_pos (by omega)] at hE | rw [if_neg (by omega)] at hE)); (try (unfold rdE3 at hE; first | rw [if_pos (by omega)] at hE | rw [if_neg (by omega)] at hE)); (try (unfold rdE4 at hE; first | rw [if_pos (by omega)] at hE | rw [if_neg (by omega)] at hE)); (try (unfold rdE5 at hE; first | rw [if_pos (by omega)] at hE | rw [if_neg (by omega)] at hE)); (try (unfold rdE6 at hE; first | rw [if_pos (by omega)] at hE | rw [if_neg (by omega)] at hE)); (try (unfold rdE7 at hE; first | rw [if_pos (by omega)] at hE | rw [if_neg (by omega)] at hE)); (try (unfold rdE7c at hE; first | rw [if_pos (by omega)] at hE | rw [if_neg (by omega)] at hE)); (try (unfold rdE7d at hE; first | rw [if_pos (by omega)] at hE | rw [if_neg (by omega)] at hE)); (try (unfold rdE8 at hE; first | rw [if_pos (by omega)] at hE | rw [if_neg (by omega)] at hE)); (try (unfold rdE9 at hE; first | rw [if_pos (by omega)] at hE | rw [if_neg (by omega)] at hE)); (try (unfold rdE9b at hE; first | rw [if_pos (by omega)] at hE | rw [if_neg (by omega)] at hE)); (try (unfold rdE10 at hE; first | rw [if_pos (by omega)] at hE | rw [if_neg (by omega)] at hE)); subst hE; exact ⟨rfl, _, rfl⟩)))
                        · refine P_iconst (pc := 231) dX6_readsEvent_231 ?_
                          exact P_zret (pc := 232) dX6_readsEvent_232 rfl (by omega) (QI.mk (by first | (exfalso; omega) | ((try (unfold rdE at hE; first | rw [if_pos (by omega)] at hE | rw [if_neg (by omega)] at hE)); (try (unfold rdE1 at hE; first | rw [if_pos (by omega)] at hE | rw [if_neg (by omega)] at hE)); (try (unfold rdE2 at hE; first | rw [if_pos (by omega)] at hE | rw [if_neg (by omega)] at hE)); (try (unfold rdE3 at hE; first | rw [if_pos (by omega)] at hE | rw [if_neg (by omega)] at hE)); (try (unfold rdE4 at hE; first | rw [if_pos (by omega)] at hE | rw [if_neg (by omega)] at hE)); (try (unfold rdE5 at hE; first | rw [if_pos (by omega)] at hE | rw [if_neg (by omega)] at hE)); (try (unfold rdE6 at hE; first | rw [if_pos (by omega)] at hE | rw [if_neg (by omega)] at hE)); (try (unfold rdE7 at hE; first | rw [if_pos (by omega)] at hE | rw [if_neg (by omega)] at hE)); (try (unfold rdE7c at hE; first | rw [if_pos (by omega)] at hE | rw [if_neg (by omega)] at hE)); (try (unfold rdE7d at hE; first | rw [if_pos (by omega)] at hE | rw [if_neg (by omega)] at hE)); (try (unfold rdE8 at hE; first | rw [if_pos (by omega)] at hE | rw [if_neg (by omega)] at hE)); (try (unfold rdE9 at hE; first | rw [if_pos (by omega)] at hE | rw [if_neg (by omega)] at hE)); (try (unfold rdE9b at hE; first | rw [if_pos (by omega)] at hE | rw [if_neg (by omega)] at hE)); (try (unfold rdE10 at hE; first | rw [if_pos (by omega)] at hE | rw [if_neg (by omega)] at hE)); subst hE; exact ⟨rfl, _, rfl⟩)))
                    · refine P_iconst (pc := 203) dX6_readsEvent_203 ?_
                      exact P_zret (pc := 204) dX6_readsEvent_204 rfl (by omega) (QI.mk (by first | (exfalso; omega) | ((try (unfold rdE at hE; first | rw [if_pos (by omega)] at hE | rw [if_neg (by omega)] at hE)); (try (unfold rdE1 at hE; first | rw [if_pos (by omega)] at hE | rw [if_neg (by omega)] at hE)); (try (unfold rdE2 at hE; first | rw [if_pos (by omega)] at hE | rw [if_neg (by omega)] at hE)); (try (unfold rdE3 at hE; first | rw [if_pos (by omega)] at hE | rw [if_neg (by omega)] at hE)); (try (unfold rdE4 at hE; first | rw [if_pos (by omega)] at hE | rw [if_neg (by omega)] at hE)); (try (unfold rdE5 at hE; first | rw [if_pos (by omega)] at hE | rw [if_neg (by omega)] at hE)); (try (unfold rdE6 at hE; first | rw [if_pos (by omega)] at hE | rw [if_neg (by omega)] at hE)); (try (unfold rdE7 at hE; first | rw [if_pos (by omega)] at hE | rw [if_neg (by omega)] at hE)); (try (unfold rdE7c at hE; first | rw [if_pos (by omega)] at hE | rw [if_neg (by omega)] at hE)); (try (unfold rdE7d at hE; first | rw [if_pos (by omega)] at hE | rw [if_neg (by omega)] at hE)); (try (unfold rdE8 at hE; first | rw [if_pos (by omega)] at hE | rw [if_neg (by omega)] at hE)); (try (unfold rdE9 at hE; first | rw [if_pos (by omega)] at hE | rw [if_neg (by omega)] at hE)); (try (unfold rdE9b at hE; first | rw [if_pos (by omega)] at hE | rw [if_neg (by omega)] at hE)); (try (unfold rdE10 at hE; first | rw [if_pos (by omega)] at hE | rw [if_neg (by omega)] at hE)); subst hE; exact ⟨rfl, _, rfl⟩)))
                  · exfalso; omega
              · refine P_aload_n (pc := 80) dX6_readsEvent_80 rfl 4 rfl ?_
                refine P_bipush (pc := 81) dX6_readsEvent_81 (by decide) ?_
                refine P_callVi (Y' := mX6_takesSign) (as := [_]) (pc := 83) dX6_readsEvent_83 rfl (by decide : 1 < 3) sM_0 rfl ml_RX6_157 im_X6_takesSign se_X6_takesSign mk_X6_takesSign (Nat.le_of_ble_eq_true rfl) (c_X6_takesSign hT (by omega) (by omega)) (fun z_ μ_ hq => ?_)
                obtain ⟨rfl, hμ_, hi_⟩ := hq
                subst hμ_
                try simp only [at_15, at_16, at_11, at_12, at_14, at_30, at_37, at_40, at_r1, at_r2, at_r3, at_r4, at_r5, at_r6, at_r7, at_r8, at_r9, at_r10, at_r11, at_r12, at_r13, at_r14, at_r15, at_r16, at_r17, at_r18, at_r19, at_r20, at_r21, at_r22, at_r23, at_r24, at_r25, at_r26, at_r27, at_r28, at_r29, at_r30, at_p15, at_p16, at_comes, at_happ, at_put (show (5 : Nat) ≠ 0 ∨ _ from Or.inl (by decide))]
                refine P_if_ne (tgt := 91) (pc := 86) dX6_readsEvent_86 (by decide) (by first | assumption | (unfold InR; omega)) (fun c_86 => ?_) (fun c_86 => ?_)
                · refine P_iload_n (pc := 91) dX6_readsEvent_91 rfl 2 rfl ?_
                  refine P_bipush (pc := 92) dX6_readsEvent_92 (by decide) ?_
                  refine P_icmp_ne (tgt := 106) (pc := 94) dX6_readsEvent_94 (by decide) (by first | assumption | (unfold InR; omega)) (by first | assumption | (unfold InR; omega)) (fun c_94 => ?_) (fun c_94 => ?_)
                  · exfalso; omega
                  · refine P_aload_n (pc := 97) dX6_readsEvent_97 rfl 4 rfl ?_
                    refine P_iconst (pc := 98) dX6_readsEvent_98 ?_
                    refine P_iconst (pc := 99) dX6_readsEvent_99 ?_
                    refine P_callVi (Y' := mX6_number) (as := [_, _]) (pc := 100) dX6_readsEvent_100 rfl (by decide : 2 < 3) sM_0 rfl ml_RX6_160 im_X6_number se_X6_number mk_X6_number (Nat.le_of_ble_eq_true rfl) (c_X6_number hT (by omega) (by omega)) (fun z_ μ_ hq => ?_)
                    obtain ⟨rfl, hμ_, hi_⟩ := hq
                    subst hμ_
                    try simp only [at_15, at_16, at_11, at_12, at_14, at_30, at_37, at_40, at_r1, at_r2, at_r3, at_r4, at_r5, at_r6, at_r7, at_r8, at_r9, at_r10, at_r11, at_r12, at_r13, at_r14, at_r15, at_r16, at_r17, at_r18, at_r19, at_r20, at_r21, at_r22, at_r23, at_r24, at_r25, at_r26, at_r27, at_r28, at_r29, at_r30, at_p15, at_p16, at_comes, at_happ, at_put (show (5 : Nat) ≠ 0 ∨ _ from Or.inl (by decide))]
                    refine P_goto (tgt := 117) (pc := 103) dX6_readsEvent_103 (by decide) ?_
                    refine P_istore (L' := [(4, vi _), (3, vi _), (2, vi _), (1, vi _), (0, vr 0)]) (pc := 117) dX6_readsEvent_117 (by decide) rfl ?_
                    refine P_iload (pc := 119) dX6_readsEvent_119 0 rfl ?_
                    refine P_if_ge (tgt := 126) (pc := 121) dX6_readsEvent_121 (by decide) (by first | assumption | (unfold InR; omega)) (fun c_121 => ?_) (fun c_121 => ?_)
                    · refine P_iload_n (pc := 126) dX6_readsEvent_126 rfl 2 rfl ?_
                      refine P_bipush (pc := 127) dX6_readsEvent_127 (by decide) ?_
                      refine P_icmp_eq (tgt := 148) (pc := 129) dX6_readsEvent_129 (by decide) (by first | assumption | (unfold InR; omega)) (by first | assumption | (unfold InR; omega)) (fun c_129 => ?_) (fun c_129 => ?_)
                      · refine P_iconst (pc := 148) dX6_readsEvent_148 ?_
                        refine P_istore (L' := [(5, vi _), (4, vi _), (3, vi _), (2, vi _), (1, vi _), (0, vr 0)]) (pc := 149) dX6_readsEvent_149 (by decide) rfl ?_
                        refine P_aload_n (pc := 151) dX6_readsEvent_151 rfl 5 rfl ?_
                        refine P_callVi (Y' := mX6_sign) (as := []) (pc := 152) dX6_readsEvent_152 rfl (by decide : 0 < 3) sM_0 rfl ml_RX6_147 im_X6_sign se_X6_sign mk_X6_sign (Nat.le_of_ble_eq_true rfl) (c_X6_sign hT (by omega)) (fun z_ μ_ hq => ?_)
                        obtain ⟨rfl, hμ_, hi_⟩ := hq
                        subst hμ_
                        try simp only [at_15, at_16, at_11, at_12, at_14, at_30, at_37, at_40, at_r1, at_r2, at_r3, at_r4, at_r5, at_r6, at_r7, at_r8, at_r9, at_r10, at_r11, at_r12, at_r13, at_r14, at_r15, at_r16, at_r17, at_r18, at_r19, at_r20, at_r21, at_r22, at_r23, at_r24, at_r25, at_r26, at_r27, at_r28, at_r29, at_r30, at_p15, at_p16, at_comes, at_happ, at_put (show (5 : Nat) ≠ 0 ∨ _ from Or.inl (by decide))]
                        refine P_bipush (pc := 155) dX6_readsEvent_155 (by decide) ?_
                        refine P_icmp_ne (tgt := 164) (pc := 157) dX6_readsEvent_157 (by decide) (by first | assumption | (unfold InR; omega)) (by first | assumption | (unfold InR; omega)) (fun c_157 => ?_) (fun c_157 => ?_)
                        · refine P_iconst (pc := 164) dX6_readsEvent_164 ?_
                          refine P_istore (L' := [(6, vi _), (5, vi _), (4, vi _), (3, vi _), (2, vi _), (1, vi _), (0, vr 0)]) (pc := 165) dX6_readsEvent_165 (by decide) rfl ?_
                          refine P_iload (pc := 167) dX6_readsEvent_167 0 rfl ?_
                          refine P_if_ne (tgt := 181) (pc := 169) dX6_readsEvent_169 (by decide) (by first | assumption | (unfold InR; omega)) (fun c_169 => ?_) (fun c_169 => ?_)
                          · exfalso; omega
                          · refine P_aload_n (pc := 172) dX6_readsEvent_172 rfl 6 rfl ?_
                            refine P_callVi (Y' := mX6_sign) (as := []) (pc := 173) dX6_readsEvent_173 rfl (by decide : 0 < 3) sM_0 rfl ml_RX6_147 im_X6_sign se_X6_sign mk_X6_sign (Nat.le_of_ble_eq_true rfl) (c_X6_sign hT (by omega)) (fun z_ μ_ hq => ?_)
                            obtain ⟨rfl, hμ_, hi_⟩ := hq
                            subst hμ_
                            try simp only [at_15, at_16, at_11, at_12, at_14, at_30, at_37, at_40, at_r1, at_r2, at_r3, at_r4, at_r5, at_r6, at_r7, at_r8, at_r9, at_r10, at_r11, at_r12, at_r13, at_r14, at_r15, at_r16, at_r17, at_r18, at_r19, at_r20, at_r21, at_r22, at_r23, at_r24, at_r25, at_r26, at_r27, at_r28, at_r29, at_r30, at_p15, at_p16, at_comes, at_happ, at_put (show (5 : Nat) ≠ 0 ∨ _ from Or.inl (by decide))]
                            refine P_bipush (pc := 176) dX6_readsEvent_176 (by decide) ?_
                            refine P_icmp_ne (tgt := 222) (pc := 178) dX6_readsEvent_178 (by decide) (by first | assumption | (unfold InR; omega)) (by first | assumption | (unfold InR; omega)) (fun c_178 => ?_) (fun c_178 => ?_)
                            · refine P_aload_n (pc := 222) dX6_readsEvent_222 rfl 6 rfl ?_
                              refine P_bipush (pc := 223) dX6_readsEvent_223 (by decide) ?_
                              refine P_callVi (Y' := mX6_takesSign) (as := [_]) (pc := 225) dX6_readsEvent_225 rfl (by decide : 1 < 3) sM_0 rfl ml_RX6_157 im_X6_takesSign se_X6_takesSign mk_X6_takesSign (Nat.le_of_ble_eq_true rfl) (c_X6_takesSign hT (by omega) (by omega)) (fun z_ μ_ hq => ?_)
                              obtain ⟨rfl, hμ_, hi_⟩ := hq
                              subst hμ_
                              try simp only [at_15, at_16, at_11, at_12, at_14, at_30, at_37, at_40, at_r1, at_r2, at_r3, at_r4, at_r5, at_r6, at_r7, at_r8, at_r9, at_r10, at_r11, at_r12, at_r13, at_r14, at_r15, at_r16, at_r17, at_r18, at_r19, at_r20, at_r21, at_r22, at_r23, at_r24, at_r25, at_r26, at_r27, at_r28, at_r29, at_r30, at_p15, at_p16, at_comes, at_happ, at_put (show (5 : Nat) ≠ 0 ∨ _ from Or.inl (by decide))]
                              refine P_if_ne (tgt := 233) (pc := 228) dX6_readsEvent_228 (by decide) (by first | assumption | (unfold InR; omega)) (fun c_228 => ?_) (fun c_228 => ?_)
                              · refine P_aload_n (pc := 233) dX6_readsEvent_233 rfl 6 rfl ?_
                                refine P_iload_n (pc := 234) dX6_readsEvent_234 rfl 5 rfl ?_
                                refine P_iload_n (pc := 235) dX6_readsEvent_235 rfl 4 rfl ?_
                                refine P_iload_n (pc := 236) dX6_readsEvent_236 rfl 3 rfl ?_
                                refine P_iload (pc := 237) dX6_readsEvent_237 2 rfl ?_
                                refine P_iload (pc := 239) dX6_readsEvent_239 1 rfl ?_
                                refine P_callVi (Y' := mX6_happens) (as := [_, _, _, _, _]) (pc := 241) dX6_readsEvent_241 rfl (by decide : 1 < 3) sM_0 rfl ml_RX6_135 im_X6_happens se_X6_happens mk_X6_happens (Nat.le_of_ble_eq_true rfl) (c_X6_happens h12 (by unfold InR; omega)) (fun z_ μ_ hq => ?_)
                                obtain ⟨rfl, hμ_⟩ := hq
                                have hμ_ := hμ_.symm
                                subst hμ_
                                try simp only [at_15, at_16, at_11, at_12, at_14, at_30, at_37, at_40, at_r1, at_r2, at_r3, at_r4, at_r5, at_r6, at_r7, at_r8, at_r9, at_r10, at_r11, at_r12, at_r13, at_r14, at_r15, at_r16, at_r17, at_r18, at_r19, at_r20, at_r21, at_r22, at_r23, at_r24, at_r25, at_r26, at_r27, at_r28, at_r29, at_r30, at_p15, at_p16, at_comes, at_happ, at_put (show (5 : Nat) ≠ 0 ∨ _ from Or.inl (by decide))]
                                refine P_pop (pc := 244) dX6_readsEvent_244 rfl ?_
                                refine P_iconst (pc := 245) dX6_readsEvent_245 ?_
                                exact P_zret (pc := 246) dX6_readsEvent_246 rfl (by omega) (QI.mk (by first | (exfalso; omega) | ((try (unfold rdE at hE; first | rw [if_pos (by omega)] at hE | rw [if_neg (by omega)] at hE)); (try (unfold rdE1 at hE; first | rw [if_pos (by omega)] at hE | rw [if_neg (by omega)] at hE)); (try (unfold rdE2 at hE; first | rw [if_pos (by omega)] at hE | rw [if_neg (by omega)] at hE)); (try (unfold rdE3 at hE; first | rw [if_pos (by omega)] at hE | rw [if_neg (by omega)] at hE)); (try (unfold rdE4 at hE; first | rw [if_pos (by omega)] at hE | rw [if_neg (by omega)] at hE)); (try (unfold rdE5 at hE; first | rw [if_pos (by omega)] at hE | rw [if_neg (by omega)] at hE)); (try (unfold rdE6 at hE; first | rw [if_pos (by omega)] at hE | rw [if_neg (by omega)] at hE)); (try (unfold rdE7 at hE; first | rw [if_pos (by omega)] at hE | rw [if_neg (by omega)] at hE)); (try (unfold rdE7c at hE; first | rw [if_pos (by omega)] at hE | rw [if_neg (by omega)] at hE)); (try (unfold rdE7d at hE; first | rw [if_pos (by omega)] at hE | rw [if_neg (by omega)] at hE)); (try (unfold rdE8 at hE; first | rw [if_pos (by omega)] at hE | rw [if_neg (by omega)] at hE)); (try (unfold rdE9 at hE; first | rw [if_pos (by omega)] at hE | rw [if_neg (by omega)] at hE)); (try (unfold rdE9b at hE; first | rw [if_pos (by omega)] at hE | rw [if_neg (by omega)] at hE)); (try (unfold rdE10 at hE; first | rw [if_pos (by omega)] at hE | rw [if_neg (by omega)] at hE)); subst hE; exact ⟨rfl, _, rfl⟩)))
                              · refine P_iconst (pc := 231) dX6_readsEvent_231 ?_
                                exact P_zret (pc := 232) dX6_readsEvent_232 rfl (by omega) (QI.mk (by first | (exfalso; omega) | ((try (unfold rdE at hE; first | rw [if_pos (by omega)] at hE | rw [if_neg (by omega)] at hE)); (try (unfold rdE1 at hE; first | rw [if_pos (by omega)] at hE | rw [if_neg (by omega)] at hE)); (try (unfold rdE2 at hE; first | rw [if_pos (by omega)] at hE | rw [if_neg (by omega)] at hE)); (try (unfold rdE3 at hE; first | rw [if_pos (by omega)] at hE | rw [if_neg (by omega)] at hE)); (try (unfold rdE4 at hE; first | rw [if_pos (by omega)] at hE | rw [if_neg (by omega)] at hE)); (try (unfold rdE5 at hE; first | rw [if_pos (by omega)] at hE | rw [if_neg (by omega)] at hE)); (try (unfold rdE6 at hE; first | rw [if_pos (by omega)] at hE | rw [if_neg (by omega)] at hE)); (try (unfold rdE7 at hE; first | rw [if_pos (by omega)] at hE | rw [if_neg (by omega)] at hE)); (try (unfold rdE7c at hE; first | rw [if_pos (by omega)] at hE | rw [if_neg (by omega)] at hE)); (try (unfold rdE7d at hE; first | rw [if_pos (by omega)] at hE | rw [if_neg (by omega)] at hE)); (try (unfold rdE8 at hE; first | rw [if_pos (by omega)] at hE | rw [if_neg (by omega)] at hE)); (try (unfold rdE9 at hE; first | rw [if_pos (by omega)] at hE | rw [if_neg (by omega)] at hE)); (try (unfold rdE9b at hE; first | rw [if_pos (by omega)] at hE | rw [if_neg (by omega)] at hE)); (try (unfold rdE10 at hE; first | rw [if_pos (by omega)] at hE | rw [if_neg (by omega)] at hE)); subst hE; exact ⟨rfl, _, rfl⟩)))
                            · refine P_aload_n (pc := 181) dX6_readsEvent_181 rfl 6 rfl ?_
                              refine P_dup (pc := 182) dX6_readsEvent_182 rfl ?_
                              refine P_getI (jj := 15) (pc := 183) dX6_readsEvent_183 fa_RX6_144 sM_0 fM0_15 rfl ?_
                              try simp only [at_15, at_16, at_11, at_12, at_14, at_30, at_37, at_40, at_r1, at_r2, at_r3, at_r4, at_r5, at_r6, at_r7, at_r8, at_r9, at_r10, at_r11, at_r12, at_r13, at_r14, at_r15, at_r16, at_r17, at_r18, at_r19, at_r20, at_r21, at_r22, at_r23, at_r24, at_r25, at_r26, at_r27, at_r28, at_r29, at_r30, at_p15, at_p16, at_comes, at_happ, at_put (show (5 : Nat) ≠ 0 ∨ _ from Or.inl (by decide))]
                              refine P_iconst (pc := 186) dX6_readsEvent_186 ?_
                              refine P_iadd (pc := 187) dX6_readsEvent_187 ?_
                              refine P_putI (jj := 15) (pc := 188) dX6_readsEvent_188 fa_RX6_144 fp_6_15 sM_0 fM0_15 rfl ?_
                              try simp only [at_15, at_16, at_11, at_12, at_14, at_30, at_37, at_40, at_r1, at_r2, at_r3, at_r4, at_r5, at_r6, at_r7, at_r8, at_r9, at_r10, at_r11, at_r12, at_r13, at_r14, at_r15, at_r16, at_r17, at_r18, at_r19, at_r20, at_r21, at_r22, at_r23, at_r24, at_r25, at_r26, at_r27, at_r28, at_r29, at_r30, at_p15, at_p16, at_comes, at_happ, at_put (show (5 : Nat) ≠ 0 ∨ _ from Or.inl (by decide))]
                              refine P_aload_n (pc := 191) dX6_readsEvent_191 rfl 6 rfl ?_
                              refine P_iconst (pc := 192) dX6_readsEvent_192 ?_
                              refine P_callVi (Y' := mX6_digit) (as := [_]) (pc := 193) dX6_readsEvent_193 rfl (by decide : 1 < 3) sM_0 rfl ml_RX6_154 im_X6_digit se_X6_digit mk_X6_digit (Nat.le_of_ble_eq_true rfl) (c_X6_digit hT (by omega) (by omega)) (fun z_ μ_ hq => ?_)
                              obtain ⟨rfl, hμ_, hi_⟩ := hq
                              subst hμ_
                              try simp only [at_15, at_16, at_11, at_12, at_14, at_30, at_37, at_40, at_r1, at_r2, at_r3, at_r4, at_r5, at_r6, at_r7, at_r8, at_r9, at_r10, at_r11, at_r12, at_r13, at_r14, at_r15, at_r16, at_r17, at_r18, at_r19, at_r20, at_r21, at_r22, at_r23, at_r24, at_r25, at_r26, at_r27, at_r28, at_r29, at_r30, at_p15, at_p16, at_comes, at_happ, at_put (show (5 : Nat) ≠ 0 ∨ _ from Or.inl (by decide))]
                              refine P_istore (L' := [(7, vi _), (6, vi _), (5, vi _), (4, vi _), (3, vi _), (2, vi _), (1, vi _), (0, vr 0)]) (pc := 196) dX6_readsEvent_196 (by decide) rfl ?_
                              refine P_iload (pc := 198) dX6_readsEvent_198 0 rfl ?_
                              refine P_if_ge (tgt := 205) (pc := 200) dX6_readsEvent_200 (by decide) (by first | assumption | (unfold InR; omega)) (fun c_200 => ?_) (fun c_200 => ?_)
                              · refine P_iload (pc := 205) dX6_readsEvent_205 1 rfl ?_
                                refine P_if_eq (tgt := 215) (pc := 207) dX6_readsEvent_207 (by decide) (by first | assumption | (unfold InR; omega)) (fun c_207 => ?_) (fun c_207 => ?_)
                                · refine P_bipush (pc := 215) dX6_readsEvent_215 (by decide) ?_
                                  refine P_iload (pc := 217) dX6_readsEvent_217 0 rfl ?_
                                  refine P_iadd (pc := 219) dX6_readsEvent_219 ?_
                                  refine P_istore (L' := [(5, vi _), (7, vi _), (6, vi _), (4, vi _), (3, vi _), (2, vi _), (1, vi _), (0, vr 0)]) (pc := 220) dX6_readsEvent_220 (by decide) rfl ?_
                                  refine P_aload_n (pc := 222) dX6_readsEvent_222 rfl 7 rfl ?_
                                  refine P_bipush (pc := 223) dX6_readsEvent_223 (by decide) ?_
                                  refine P_callVi (Y' := mX6_takesSign) (as := [_]) (pc := 225) dX6_readsEvent_225 rfl (by decide : 1 < 3) sM_0 rfl ml_RX6_157 im_X6_takesSign se_X6_takesSign mk_X6_takesSign (Nat.le_of_ble_eq_true rfl) (c_X6_takesSign hT (by omega) (by omega)) (fun z_ μ_ hq => ?_)
                                  obtain ⟨rfl, hμ_, hi_⟩ := hq
                                  subst hμ_
                                  try simp only [at_15, at_16, at_11, at_12, at_14, at_30, at_37, at_40, at_r1, at_r2, at_r3, at_r4, at_r5, at_r6, at_r7, at_r8, at_r9, at_r10, at_r11, at_r12, at_r13, at_r14, at_r15, at_r16, at_r17, at_r18, at_r19, at_r20, at_r21, at_r22, at_r23, at_r24, at_r25, at_r26, at_r27, at_r28, at_r29, at_r30, at_p15, at_p16, at_comes, at_happ, at_put (show (5 : Nat) ≠ 0 ∨ _ from Or.inl (by decide))]
                                  refine P_if_ne (tgt := 233) (pc := 228) dX6_readsEvent_228 (by decide) (by first | assumption | (unfold InR; omega)) (fun c_228 => ?_) (fun c_228 => ?_)
                                  · refine P_aload_n (pc := 233) dX6_readsEvent_233 rfl 7 rfl ?_
                                    refine P_iload_n (pc := 234) dX6_readsEvent_234 rfl 6 rfl ?_
                                    refine P_iload_n (pc := 235) dX6_readsEvent_235 rfl 5 rfl ?_
                                    refine P_iload_n (pc := 236) dX6_readsEvent_236 rfl 4 rfl ?_
                                    refine P_iload (pc := 237) dX6_readsEvent_237 3 rfl ?_
                                    refine P_iload (pc := 239) dX6_readsEvent_239 0 rfl ?_
                                    refine P_callVi (Y' := mX6_happens) (as := [_, _, _, _, _]) (pc := 241) dX6_readsEvent_241 rfl (by decide : 1 < 3) sM_0 rfl ml_RX6_135 im_X6_happens se_X6_happens mk_X6_happens (Nat.le_of_ble_eq_true rfl) (c_X6_happens h12 (by unfold InR; omega)) (fun z_ μ_ hq => ?_)
                                    obtain ⟨rfl, hμ_⟩ := hq
                                    have hμ_ := hμ_.symm
                                    subst hμ_
                                    try simp only [at_15, at_16, at_11, at_12, at_14, at_30, at_37, at_40, at_r1, at_r2, at_r3, at_r4, at_r5, at_r6, at_r7, at_r8, at_r9, at_r10, at_r11, at_r12, at_r13, at_r14, at_r15, at_r16, at_r17, at_r18, at_r19, at_r20, at_r21, at_r22, at_r23, at_r24, at_r25, at_r26, at_r27, at_r28, at_r29, at_r30, at_p15, at_p16, at_comes, at_happ, at_put (show (5 : Nat) ≠ 0 ∨ _ from Or.inl (by decide))]
                                    refine P_pop (pc := 244) dX6_readsEvent_244 rfl ?_
                                    refine P_iconst (pc := 245) dX6_readsEvent_245 ?_
                                    exact P_zret (pc := 246) dX6_readsEvent_246 rfl (by omega) (QI.mk (by first | (exfalso; omega) | ((try (unfold rdE at hE; first | rw [if_pos (by omega)] at hE | rw [if_neg (by omega)] at hE)); (try (unfold rdE1 at hE; first | rw [if_pos (by omega)] at hE | rw [if_neg (by omega)] at hE)); (try (unfold rdE2 at hE; first | rw [if_pos (by omega)] at hE | rw [if_neg (by omega)] at hE)); (try (unfold rdE3 at hE; first | rw [if_pos (by omega)] at hE | rw [if_neg (by omega)] at hE)); (try (unfold rdE4 at hE; first | rw [if_pos (by omega)] at hE | rw [if_neg (by omega)] at hE)); (try (unfold rdE5 at hE; first | rw [if_pos (by omega)] at hE | rw [if_neg (by omega)] at hE)); (try (unfold rdE6 at hE; first | rw [if_pos (by omega)] at hE | rw [if_neg (by omega)] at hE)); (try (unfold rdE7 at hE; first | rw [if_pos (by omega)] at hE | rw [if_neg (by omega)] at hE)); (try (unfold rdE7c at hE; first | rw [if_pos (by omega)] at hE | rw [if_neg (by omega)] at hE)); (try (unfold rdE7d at hE; first | rw [if_pos (by omega)] at hE | rw [if_neg (by omega)] at hE)); (try (unfold rdE8 at hE; first | rw [if_pos (by omega)] at hE | rw [if_neg (by omega)] at hE)); (try (unfold rdE9 at hE; first | rw [if_pos (by omega)] at hE | rw [if_neg (by omega)] at hE)); (try (unfold rdE9b at hE; first | rw [if_pos (by omega)] at hE | rw [if_neg (by omega)] at hE)); (try (unfold rdE10 at hE; first | rw [if_pos (by omega)] at hE | rw [if_neg (by omega)] at hE)); subst hE; exact ⟨rfl, _, rfl⟩)))
                                  · refine P_iconst (pc := 231) dX6_readsEvent_231 ?_
                                    exact P_zret (pc := 232) dX6_readsEvent_232 rfl (by omega) (QI.mk (by first | (exfalso; omega) | ((try (unfold rdE at hE; first | rw [if_pos (by omega)] at hE | rw [if_neg (by omega)] at hE)); (try (unfold rdE1 at hE; first | rw [if_pos (by omega)] at hE | rw [if_neg (by omega)] at hE)); (try (unfold rdE2 at hE; first | rw [if_pos (by omega)] at hE | rw [if_neg (by omega)] at hE)); (try (unfold rdE3 at hE; first | rw [if_pos (by omega)] at hE | rw [if_neg (by omega)] at hE)); (try (unfold rdE4 at hE; first | rw [if_pos (by omega)] at hE | rw [if_neg (by omega)] at hE)); (try (unfold rdE5 at hE; first | rw [if_pos (by omega)] at hE | rw [if_neg (by omega)] at hE)); (try (unfold rdE6 at hE; first | rw [if_pos (by omega)] at hE | rw [if_neg (by omega)] at hE)); (try (unfold rdE7 at hE; first | rw [if_pos (by omega)] at hE | rw [if_neg (by omega)] at hE)); (try (unfold rdE7c at hE; first | rw [if_pos (by omega)] at hE | rw [if_neg (by omega)] at hE)); (try (unfold rdE7d at hE; first | rw [if_pos (by omega)] at hE | rw [if_neg (by omega)] at hE)); (try (unfold rdE8 at hE; first | rw [if_pos (by omega)] at hE | rw [if_neg (by omega)] at hE)); (try (unfold rdE9 at hE; first | rw [if_pos (by omega)] at hE | rw [if_neg (by omega)] at hE)); (try (unfold rdE9b at hE; first | rw [if_pos (by omega)] at hE | rw [if_neg (by omega)] at hE)); (try (unfold rdE10 at hE; first | rw [if_pos (by omega)] at hE | rw [if_neg (by omega)] at hE)); subst hE; exact ⟨rfl, _, rfl⟩)))
                                · exfalso; omega
                              · refine P_iconst (pc := 203) dX6_readsEvent_203 ?_
                                exact P_zret (pc := 204) dX6_readsEvent_204 rfl (by omega) (QI.mk (by first | (exfalso; omega) | ((try (unfold rdE at hE; first | rw [if_pos (by omega)] at hE | rw [if_neg (by omega)] at hE)); (try (unfold rdE1 at hE; first | rw [if_pos (by omega)] at hE | rw [if_neg (by omega)] at hE)); (try (unfold rdE2 at hE; first | rw [if_pos (by omega)] at hE | rw [if_neg (by omega)] at hE)); (try (unfold rdE3 at hE; first | rw [if_pos (by omega)] at hE | rw [if_neg (by omega)] at hE)); (try (unfold rdE4 at hE; first | rw [if_pos (by omega)] at hE | rw [if_neg (by omega)] at hE)); (try (unfold rdE5 at hE; first | rw [if_pos (by omega)] at hE | rw [if_neg (by omega)] at hE)); (try (unfold rdE6 at hE; first | rw [if_pos (by omega)] at hE | rw [if_neg (by omega)] at hE)); (try (unfold rdE7 at hE; first | rw [if_pos (by omega)] at hE | rw [if_neg (by omega)] at hE)); (try (unfold rdE7c at hE; first | rw [if_pos (by omega)] at hE | rw [if_neg (by omega)] at hE)); (try (unfold rdE7d at hE; first | rw [if_pos (by omega)] at hE | rw [if_neg (by omega)] at hE)); (try (unfold rdE8 at hE; first | rw [if_pos (by omega)] at hE | rw [if_neg (by omega)] at hE)); (try (unfold rdE9 at hE; first | rw [if_pos (by omega)] at hE | rw [if_neg (by omega)] at hE)); (try (unfold rdE9b at hE; first | rw [if_pos (by omega)] at hE | rw [if_neg (by omega)] at hE)); (try (unfold rdE10 at hE; first | rw [if_pos (by omega)] at hE | rw [if_neg (by omega)] at hE)); subst hE; exact ⟨rfl, _, rfl⟩)))
                        · refine P_iconst (pc := 160) dX6_readsEvent_160 ?_
                          refine P_goto (tgt := 165) (pc := 161) dX6_readsEvent_161 (by decide) ?_
                          refine P_istore (L' := [(6, vi _), (5, vi _), (4, vi _), (3, vi _), (2, vi _), (1, vi _), (0, vr 0)]) (pc := 165) dX6_readsEvent_165 (by decide) rfl ?_
                          refine P_iload (pc := 167) dX6_readsEvent_167 0 rfl ?_
                          refine P_if_ne (tgt := 181) (pc := 169) dX6_readsEvent_169 (by decide) (by first | assumption | (unfold InR; omega)) (fun c_169 => ?_) (fun c_169 => ?_)
                          · refine P_aload_n (pc := 181) dX6_readsEvent_181 rfl 6 rfl ?_
                            refine P_dup (pc := 182) dX6_readsEvent_182 rfl ?_
                            refine P_getI (jj := 15) (pc := 183) dX6_readsEvent_183 fa_RX6_144 sM_0 fM0_15 rfl ?_
                            try simp only [at_15, at_16, at_11, at_12, at_14, at_30, at_37, at_40, at_r1, at_r2, at_r3, at_r4, at_r5, at_r6, at_r7, at_r8, at_r9, at_r10, at_r11, at_r12, at_r13, at_r14, at_r15, at_r16, at_r17, at_r18, at_r19, at_r20, at_r21, at_r22, at_r23, at_r24, at_r25, at_r26, at_r27, at_r28, at_r29, at_r30, at_p15, at_p16, at_comes, at_happ, at_put (show (5 : Nat) ≠ 0 ∨ _ from Or.inl (by decide))]
                            refine P_iconst (pc := 186) dX6_readsEvent_186 ?_
                            refine P_iadd (pc := 187) dX6_readsEvent_187 ?_
                            refine P_putI (jj := 15) (pc := 188) dX6_readsEvent_188 fa_RX6_144 fp_6_15 sM_0 fM0_15 rfl ?_
                            try simp only [at_15, at_16, at_11, at_12, at_14, at_30, at_37, at_40, at_r1, at_r2, at_r3, at_r4, at_r5, at_r6, at_r7, at_r8, at_r9, at_r10, at_r11, at_r12, at_r13, at_r14, at_r15, at_r16, at_r17, at_r18, at_r19, at_r20, at_r21, at_r22, at_r23, at_r24, at_r25, at_r26, at_r27, at_r28, at_r29, at_r30, at_p15, at_p16, at_comes, at_happ, at_put (show (5 : Nat) ≠ 0 ∨ _ from Or.inl (by decide))]
                            refine P_aload_n (pc := 191) dX6_readsEvent_191 rfl 6 rfl ?_
                            refine P_iconst (pc := 192) dX6_readsEvent_192 ?_
                            refine P_callVi (Y' := mX6_digit) (as := [_]) (pc := 193) dX6_readsEvent_193 rfl (by decide : 1 < 3) sM_0 rfl ml_RX6_154 im_X6_digit se_X6_digit mk_X6_digit (Nat.le_of_ble_eq_true rfl) (c_X6_digit hT (by omega) (by omega)) (fun z_ μ_ hq => ?_)
                            obtain ⟨rfl, hμ_, hi_⟩ := hq
                            subst hμ_
                            try simp only [at_15, at_16, at_11, at_12, at_14, at_30, at_37, at_40, at_r1, at_r2, at_r3, at_r4, at_r5, at_r6, at_r7, at_r8, at_r9, at_r10, at_r11, at_r12, at_r13, at_r14, at_r15, at_r16, at_r17, at_r18, at_r19, at_r20, at_r21, at_r22, at_r23, at_r24, at_r25, at_r26, at_r27, at_r28, at_r29, at_r30, at_p15, at_p16, at_comes, at_happ, at_put (show (5 : Nat) ≠ 0 ∨ _ from Or.inl (by decide))]
                            refine P_istore (L' := [(7, vi _), (6, vi _), (5, vi _), (4, vi _), (3, vi _), (2, vi _), (1, vi _), (0, vr 0)]) (pc := 196) dX6_readsEvent_196 (by decide) rfl ?_
                            refine P_iload (pc := 198) dX6_readsEvent_198 0 rfl ?_
                            refine P_if_ge (tgt := 205) (pc := 200) dX6_readsEvent_200 (by decide) (by first | assumption | (unfold InR; omega)) (fun c_200 => ?_) (fun c_200 => ?_)
                            · refine P_iload (pc := 205) dX6_readsEvent_205 1 rfl ?_
                              refine P_if_eq (tgt := 215) (pc := 207) dX6_readsEvent_207 (by decide) (by first | assumption | (unfold InR; omega)) (fun c_207 => ?_) (fun c_207 => ?_)
                              · exfalso; omega
                              · refine P_iload (pc := 210) dX6_readsEvent_210 0 rfl ?_
                                refine P_goto (tgt := 220) (pc := 212) dX6_readsEvent_212 (by decide) ?_
                                refine P_istore (L' := [(5, vi _), (7, vi _), (6, vi _), (4, vi _), (3, vi _), (2, vi _), (1, vi _), (0, vr 0)]) (pc := 220) dX6_readsEvent_220 (by decide) rfl ?_
                                refine P_aload_n (pc := 222) dX6_readsEvent_222 rfl 7 rfl ?_
                                refine P_bipush (pc := 223) dX6_readsEvent_223 (by decide) ?_
                                refine P_callVi (Y' := mX6_takesSign) (as := [_]) (pc := 225) dX6_readsEvent_225 rfl (by decide : 1 < 3) sM_0 rfl ml_RX6_157 im_X6_takesSign se_X6_takesSign mk_X6_takesSign (Nat.le_of_ble_eq_true rfl) (c_X6_takesSign hT (by omega) (by omega)) (fun z_ μ_ hq => ?_)
                                obtain ⟨rfl, hμ_, hi_⟩ := hq
                                subst hμ_
                                try simp only [at_15, at_16, at_11, at_12, at_14, at_30, at_37, at_40, at_r1, at_r2, at_r3, at_r4, at_r5, at_r6, at_r7, at_r8, at_r9, at_r10, at_r11, at_r12, at_r13, at_r14, at_r15, at_r16, at_r17, at_r18, at_r19, at_r20, at_r21, at_r22, at_r23, at_r24, at_r25, at_r26, at_r27, at_r28, at_r29, at_r30, at_p15, at_p16, at_comes, at_happ, at_put (show (5 : Nat) ≠ 0 ∨ _ from Or.inl (by decide))]
                                refine P_if_ne (tgt := 233) (pc := 228) dX6_readsEvent_228 (by decide) (by first | assumption | (unfold InR; omega)) (fun c_228 => ?_) (fun c_228 => ?_)
                                · refine P_aload_n (pc := 233) dX6_readsEvent_233 rfl 7 rfl ?_
                                  refine P_iload_n (pc := 234) dX6_readsEvent_234 rfl 6 rfl ?_
                                  refine P_iload_n (pc := 235) dX6_readsEvent_235 rfl 5 rfl ?_
                                  refine P_iload_n (pc := 236) dX6_readsEvent_236 rfl 4 rfl ?_
                                  refine P_iload (pc := 237) dX6_readsEvent_237 3 rfl ?_
                                  refine P_iload (pc := 239) dX6_readsEvent_239 0 rfl ?_
                                  refine P_callVi (Y' := mX6_happens) (as := [_, _, _, _, _]) (pc := 241) dX6_readsEvent_241 rfl (by decide : 1 < 3) sM_0 rfl ml_RX6_135 im_X6_happens se_X6_happens mk_X6_happens (Nat.le_of_ble_eq_true rfl) (c_X6_happens h12 (by unfold InR; omega)) (fun z_ μ_ hq => ?_)
                                  obtain ⟨rfl, hμ_⟩ := hq
                                  have hμ_ := hμ_.symm
                                  subst hμ_
                                  try simp only [at_15, at_16, at_11, at_12, at_14, at_30, at_37, at_40, at_r1, at_r2, at_r3, at_r4, at_r5, at_r6, at_r7, at_r8, at_r9, at_r10, at_r11, at_r12, at_r13, at_r14, at_r15, at_r16, at_r17, at_r18, at_r19, at_r20, at_r21, at_r22, at_r23, at_r24, at_r25, at_r26, at_r27, at_r28, at_r29, at_r30, at_p15, at_p16, at_comes, at_happ, at_put (show (5 : Nat) ≠ 0 ∨ _ from Or.inl (by decide))]
                                  refine P_pop (pc := 244) dX6_readsEvent_244 rfl ?_
                                  refine P_iconst (pc := 245) dX6_readsEvent_245 ?_
                                  exact P_zret (pc := 246) dX6_readsEvent_246 rfl (by omega) (QI.mk (by first | (exfalso; omega) | ((try (unfold rdE at hE; first | rw [if_pos (by omega)] at hE | rw [if_neg (by omega)] at hE)); (try (unfold rdE1 at hE; first | rw [if_pos (by omega)] at hE | rw [if_neg (by omega)] at hE)); (try (unfold rdE2 at hE; first | rw [if_pos (by omega)] at hE | rw [if_neg (by omega)] at hE)); (try (unfold rdE3 at hE; first | rw [if_pos (by omega)] at hE | rw [if_neg (by omega)] at hE)); (try (unfold rdE4 at hE; first | rw [if_pos (by omega)] at hE | rw [if_neg (by omega)] at hE)); (try (unfold rdE5 at hE; first | rw [if_pos (by omega)] at hE | rw [if_neg (by omega)] at hE)); (try (unfold rdE6 at hE; first | rw [if_pos (by omega)] at hE | rw [if_neg (by omega)] at hE)); (try (unfold rdE7 at hE; first | rw [if_pos (by omega)] at hE | rw [if_neg (by omega)] at hE)); (try (unfold rdE7c at hE; first | rw [if_pos (by omega)] at hE | rw [if_neg (by omega)] at hE)); (try (unfold rdE7d at hE; first | rw [if_pos (by omega)] at hE | rw [if_neg (by omega)] at hE)); (try (unfold rdE8 at hE; first | rw [if_pos (by omega)] at hE | rw [if_neg (by omega)] at hE)); (try (unfold rdE9 at hE; first | rw [if_pos (by omega)] at hE | rw [if_neg (by omega)] at hE)); (try (unfold rdE9b at hE; first | rw [if_pos (by omega)] at hE | rw [if_neg (by omega)] at hE)); (try (unfold rdE10 at hE; first | rw [if_pos (by omega)] at hE | rw [if_neg (by omega)] at hE)); subst hE; exact ⟨rfl, _, rfl⟩)))
                                · refine P_iconst (pc := 231) dX6_readsEvent_231 ?_
                                  exact P_zret (pc := 232) dX6_readsEvent_232 rfl (by omega) (QI.mk (by first | (exfalso; omega) | ((try (unfold rdE at hE; first | rw [if_pos (by omega)] at hE | rw [if_neg (by omega)] at hE)); (try (unfold rdE1 at hE; first | rw [if_pos (by omega)] at hE | rw [if_neg (by omega)] at hE)); (try (unfold rdE2 at hE; first | rw [if_pos (by omega)] at hE | rw [if_neg (by omega)] at hE)); (try (unfold rdE3 at hE; first | rw [if_pos (by omega)] at hE | rw [if_neg (by omega)] at hE)); (try (unfold rdE4 at hE; first | rw [if_pos (by omega)] at hE | rw [if_neg (by omega)] at hE)); (try (unfold rdE5 at hE; first | rw [if_pos (by omega)] at hE | rw [if_neg (by omega)] at hE)); (try (unfold rdE6 at hE; first | rw [if_pos (by omega)] at hE | rw [if_neg (by omega)] at hE)); (try (unfold rdE7 at hE; first | rw [if_pos (by omega)] at hE | rw [if_neg (by omega)] at hE)); (try (unfold rdE7c at hE; first | rw [if_pos (by omega)] at hE | rw [if_neg (by omega)] at hE)); (try (unfold rdE7d at hE; first | rw [if_pos (by omega)] at hE | rw [if_neg (by omega)] at hE)); (try (unfold rdE8 at hE; first | rw [if_pos (by omega)] at hE | rw [if_neg (by omega)] at hE)); (try (unfold rdE9 at hE; first | rw [if_pos (by omega)] at hE | rw [if_neg (by omega)] at hE)); (try (unfold rdE9b at hE; first | rw [if_pos (by omega)] at hE | rw [if_neg (by omega)] at hE)); (try (unfold rdE10 at hE; first | rw [if_pos (by omega)] at hE | rw [if_neg (by omega)] at hE)); subst hE; exact ⟨rfl, _, rfl⟩)))
                            · refine P_iconst (pc := 203) dX6_readsEvent_203 ?_
                              exact P_zret (pc := 204) dX6_readsEvent_204 rfl (by omega) (QI.mk (by first | (exfalso; omega) | ((try (unfold rdE at hE; first | rw [if_pos (by omega)] at hE | rw [if_neg (by omega)] at hE)); (try (unfold rdE1 at hE; first | rw [if_pos (by omega)] at hE | rw [if_neg (by omega)] at hE)); (try (unfold rdE2 at hE; first | rw [if_pos (by omega)] at hE | rw [if_neg (by omega)] at hE)); (try (unfold rdE3 at hE; first | rw [if_pos (by omega)] at hE | rw [if_neg (by omega)] at hE)); (try (unfold rdE4 at hE; first | rw [if_pos (by omega)] at hE | rw [if_neg (by omega)] at hE)); (try (unfold rdE5 at hE; first | rw [if_pos (by omega)] at hE | rw [if_neg (by omega)] at hE)); (try (unfold rdE6 at hE; first | rw [if_pos (by omega)] at hE | rw [if_neg (by omega)] at hE)); (try (unfold rdE7 at hE; first | rw [if_pos (by omega)] at hE | rw [if_neg (by omega)] at hE)); (try (unfold rdE7c at hE; first | rw [if_pos (by omega)] at hE | rw [if_neg (by omega)] at hE)); (try (unfold rdE7d at hE; first | rw [if_pos (by omega)] at hE | rw [if_neg (by omega)] at hE)); (try (unfold rdE8 at hE; first | rw [if_pos (by omega)] at hE | rw [if_neg (by omega)] at hE)); (try (unfold rdE9 at hE; first | rw [if_pos (by omega)] at hE | rw [if_neg (by omega)] at hE)); (try (unfold rdE9b at hE; first | rw [if_pos (by omega)] at hE | rw [if_neg (by omega)] at hE)); (try (unfold rdE10 at hE; first | rw [if_pos (by omega)] at hE | rw [if_neg (by omega)] at hE)); subst hE; exact ⟨rfl, _, rfl⟩)))
                          · exfalso; omega
                      · exfalso; omega
                    · refine P_iconst (pc := 124) dX6_readsEvent_124 ?_
                      exact P_zret (pc := 125) dX6_readsEvent_125 rfl (by omega) (QI.mk (by first | (exfalso; omega) | ((try (unfold rdE at hE; first | rw [if_pos (by omega)] at hE | rw [if_neg (by omega)] at hE)); (try (unfold rdE1 at hE; first | rw [if_pos (by omega)] at hE | rw [if_neg (by omega)] at hE)); (try (unfold rdE2 at hE; first | rw [if_pos (by omega)] at hE | rw [if_neg (by omega)] at hE)); (try (unfold rdE3 at hE; first | rw [if_pos (by omega)] at hE | rw [if_neg (by omega)] at hE)); (try (unfold rdE4 at hE; first | rw [if_pos (by omega)] at hE | rw [if_neg (by omega)] at hE)); (try (unfold rdE5 at hE; first | rw [if_pos (by omega)] at hE | rw [if_neg (by omega)] at hE)); (try (unfold rdE6 at hE; first | rw [if_pos (by omega)] at hE | rw [if_neg (by omega)] at hE)); (try (unfold rdE7 at hE; first | rw [if_pos (by omega)] at hE | rw [if_neg (by omega)] at hE)); (try (unfold rdE7c at hE; first | rw [if_pos (by omega)] at hE | rw [if_neg (by omega)] at hE)); (try (unfold rdE7d at hE; first | rw [if_pos (by omega)] at hE | rw [if_neg (by omega)] at hE)); (try (unfold rdE8 at hE; first | rw [if_pos (by omega)] at hE | rw [if_neg (by omega)] at hE)); (try (unfold rdE9 at hE; first | rw [if_pos (by omega)] at hE | rw [if_neg (by omega)] at hE)); (try (unfold rdE9b at hE; first | rw [if_pos (by omega)] at hE | rw [if_neg (by omega)] at hE)); (try (unfold rdE10 at hE; first | rw [if_pos (by omega)] at hE | rw [if_neg (by omega)] at hE)); subst hE; exact ⟨rfl, _, rfl⟩)))
                · refine P_iconst (pc := 89) dX6_readsEvent_89 ?_
                  exact P_zret (pc := 90) dX6_readsEvent_90 rfl (by omega) (QI.mk (by first | (exfalso; omega) | ((try (unfold rdE at hE; first | rw [if_pos (by omega)] at hE | rw [if_neg (by omega)] at hE)); (try (unfold rdE1 at hE; first | rw [if_pos (by omega)] at hE | rw [if_neg (by omega)] at hE)); (try (unfold rdE2 at hE; first | rw [if_pos (by omega)] at hE | rw [if_neg (by omega)] at hE)); (try (unfold rdE3 at hE; first | rw [if_pos (by omega)] at hE | rw [if_neg (by omega)] at hE)); (try (unfold rdE4 at hE; first | rw [if_pos (by omega)] at hE | rw [if_neg (by omega)] at hE)); (try (unfold rdE5 at hE; first | rw [if_pos (by omega)] at hE | rw [if_neg (by omega)] at hE)); (try (unfold rdE6 at hE; first | rw [if_pos (by omega)] at hE | rw [if_neg (by omega)] at hE)); (try (unfold rdE7 at hE; first | rw [if_pos (by omega)] at hE | rw [if_neg (by omega)] at hE)); (try (unfold rdE7c at hE; first | rw [if_pos (by omega)] at hE | rw [if_neg (by omega)] at hE)); (try (unfold rdE7d at hE; first | rw [if_pos (by omega)] at hE | rw [if_neg (by omega)] at hE)); (try (unfold rdE8 at hE; first | rw [if_pos (by omega)] at hE | rw [if_neg (by omega)] at hE)); (try (unfold rdE9 at hE; first | rw [if_pos (by omega)] at hE | rw [if_neg (by omega)] at hE)); (try (unfold rdE9b at hE; first | rw [if_pos (by omega)] at hE | rw [if_neg (by omega)] at hE)); (try (unfold rdE10 at hE; first | rw [if_pos (by omega)] at hE | rw [if_neg (by omega)] at hE)); subst hE; exact ⟨rfl, _, rfl⟩)))
          · refine P_iconst (pc := 61) dX6_readsEvent_61 ?_
            exact P_zret (pc := 62) dX6_readsEvent_62 rfl (by omega) (QI.mk (by first | (exfalso; omega) | ((try (unfold rdE at hE; first | rw [if_pos (by omega)] at hE | rw [if_neg (by omega)] at hE)); (try (unfold rdE1 at hE; first | rw [if_pos (by omega)] at hE | rw [if_neg (by omega)] at hE)); (try (unfold rdE2 at hE; first | rw [if_pos (by omega)] at hE | rw [if_neg (by omega)] at hE)); (try (unfold rdE3 at hE; first | rw [if_pos (by omega)] at hE | rw [if_neg (by omega)] at hE)); (try (unfold rdE4 at hE; first | rw [if_pos (by omega)] at hE | rw [if_neg (by omega)] at hE)); (try (unfold rdE5 at hE; first | rw [if_pos (by omega)] at hE | rw [if_neg (by omega)] at hE)); (try (unfold rdE6 at hE; first | rw [if_pos (by omega)] at hE | rw [if_neg (by omega)] at hE)); (try (unfold rdE7 at hE; first | rw [if_pos (by omega)] at hE | rw [if_neg (by omega)] at hE)); (try (unfold rdE7c at hE; first | rw [if_pos (by omega)] at hE | rw [if_neg (by omega)] at hE)); (try (unfold rdE7d at hE; first | rw [if_pos (by omega)] at hE | rw [if_neg (by omega)] at hE)); (try (unfold rdE8 at hE; first | rw [if_pos (by omega)] at hE | rw [if_neg (by omega)] at hE)); (try (unfold rdE9 at hE; first | rw [if_pos (by omega)] at hE | rw [if_neg (by omega)] at hE)); (try (unfold rdE9b at hE; first | rw [if_pos (by omega)] at hE | rw [if_neg (by omega)] at hE)); (try (unfold rdE10 at hE; first | rw [if_pos (by omega)] at hE | rw [if_neg (by omega)] at hE)); subst hE; exact ⟨rfl, _, rfl⟩)))
        · refine P_iconst (pc := 43) dX6_readsEvent_43 ?_
          exact P_zret (pc := 44) dX6_readsEvent_44 rfl (by omega) (QI.mk (by first | (exfalso; omega) | ((try (unfold rdE at hE; first | rw [if_pos (by omega)] at hE | rw [if_neg (by omega)] at hE)); (try (unfold rdE1 at hE; first | rw [if_pos (by omega)] at hE | rw [if_neg (by omega)] at hE)); (try (unfold rdE2 at hE; first | rw [if_pos (by omega)] at hE | rw [if_neg (by omega)] at hE)); (try (unfold rdE3 at hE; first | rw [if_pos (by omega)] at hE | rw [if_neg (by omega)] at hE)); (try (unfold rdE4 at hE; first | rw [if_pos (by omega)] at hE | rw [if_neg (by omega)] at hE)); (try (unfold rdE5 at hE; first | rw [if_pos (by omega)] at hE | rw [if_neg (by omega)] at hE)); (try (unfold rdE6 at hE; first | rw [if_pos (by omega)] at hE | rw [if_neg (by omega)] at hE)); (try (unfold rdE7 at hE; first | rw [if_pos (by omega)] at hE | rw [if_neg (by omega)] at hE)); (try (unfold rdE7c at hE; first | rw [if_pos (by omega)] at hE | rw [if_neg (by omega)] at hE)); (try (unfold rdE7d at hE; first | rw [if_pos (by omega)] at hE | rw [if_neg (by omega)] at hE)); (try (unfold rdE8 at hE; first | rw [if_pos (by omega)] at hE | rw [if_neg (by omega)] at hE)); (try (unfold rdE9 at hE; first | rw [if_pos (by omega)] at hE | rw [if_neg (by omega)] at hE)); (try (unfold rdE9b at hE; first | rw [if_pos (by omega)] at hE | rw [if_neg (by omega)] at hE)); (try (unfold rdE10 at hE; first | rw [if_pos (by omega)] at hE | rw [if_neg (by omega)] at hE)); subst hE; exact ⟨rfl, _, rfl⟩)))
    · refine P_iconst (pc := 21) dX6_readsEvent_21 ?_
      exact P_zret (pc := 22) dX6_readsEvent_22 rfl (by omega) (QI.mk (by first | (exfalso; omega) | ((try (unfold rdE at hE; first | rw [if_pos (by omega)] at hE | rw [if_neg (by omega)] at hE)); (try (unfold rdE1 at hE; first | rw [if_pos (by omega)] at hE | rw [if_neg (by omega)] at hE)); (try (unfold rdE2 at hE; first | rw [if_pos (by omega)] at hE | rw [if_neg (by omega)] at hE)); (try (unfold rdE3 at hE; first | rw [if_pos (by omega)] at hE | rw [if_neg (by omega)] at hE)); (try (unfold rdE4 at hE; first | rw [if_pos (by omega)] at hE | rw [if_neg (by omega)] at hE)); (try (unfold rdE5 at hE; first | rw [if_pos (by omega)] at hE | rw [if_neg (by omega)] at hE)); (try (unfold rdE6 at hE; first | rw [if_pos (by omega)] at hE | rw [if_neg (by omega)] at hE)); (try (unfold rdE7 at hE; first | rw [if_pos (by omega)] at hE | rw [if_neg (by omega)] at hE)); (try (unfold rdE7c at hE; first | rw [if_pos (by omega)] at hE | rw [if_neg (by omega)] at hE)); (try (unfold rdE7d at hE; first | rw [if_pos (by omega)] at hE | rw [if_neg (by omega)] at hE)); (try (unfold rdE8 at hE; first | rw [if_pos (by omega)] at hE | rw [if_neg (by omega)] at hE)); (try (unfold rdE9 at hE; first | rw [if_pos (by omega)] at hE | rw [if_neg (by omega)] at hE)); (try (unfold rdE9b at hE; first | rw [if_pos (by omega)] at hE | rw [if_neg (by omega)] at hE)); (try (unfold rdE10 at hE; first | rw [if_pos (by omega)] at hE | rw [if_neg (by omega)] at hE)); subst hE; exact ⟨rfl, _, rfl⟩)))
set_option maxHeartbeats 1000000 in
set_option maxRecDepth 100000 in
theorem c_X6_readsTakes {μ : Mem} {a g : Int} (hT : TL (μ.1 12) (μ.1 0 14)) (ha : 0 ≤ a ∧ a ≤ μ.1 0 14)  : PC shM 2 mX6_readsTakes [vr 0] (atM μ a g) (QI (fun z μ' => z = (rdK (μ.1 12) (μ.1 0 14) a).1 ∧ μ' = atM (if (rdK (μ.1 12) (μ.1 0 14) a).1 = 1 then putI μ 5 (rdK (μ.1 12) (μ.1 0 14) a).2.2.1 (rdK (μ.1 12) (μ.1 0 14) a).2.2.2 else μ) (rdK (μ.1 12) (μ.1 0 14) a).2.1 g)) := by
  refine PC.of (by decide +kernel) (Nat.le_of_ble_eq_true rfl) ?_
  refine P_sub (L' := [(0, vr 0)]) [0] rfl ?_
  have hT2 := hT.2
  refine P_aload_n (pc := 0) dX6_readsTakes_0 rfl 0 rfl ?_
  refine P_iconst (pc := 1) dX6_readsTakes_1 ?_
  refine P_callVi (Y' := mX6_digit) (as := [_]) (pc := 2) dX6_readsTakes_2 rfl (by decide : 1 < 2) sM_0 rfl ml_RX6_154 im_X6_digit se_X6_digit mk_X6_digit (Nat.le_of_ble_eq_true rfl) (c_X6_digit hT (by omega) (by omega)) (fun z_ μ_ hq => ?_)
  obtain ⟨rfl, hμ_, hi_⟩ := hq
  subst hμ_
  try simp only [at_15, at_16, at_11, at_12, at_14, at_30, at_37, at_40, at_r1, at_r2, at_r3, at_r4, at_r5, at_r6, at_r7, at_r8, at_r9, at_r10, at_r11, at_r12, at_r13, at_r14, at_r15, at_r16, at_r17, at_r18, at_r19, at_r20, at_r21, at_r22, at_r23, at_r24, at_r25, at_r26, at_r27, at_r28, at_r29, at_r30, at_p15, at_p16, at_comes, at_happ, at_put (show (5 : Nat) ≠ 0 ∨ _ from Or.inl (by decide))]
  refine P_istore_n (L' := [(1, vi _), (0, vr 0)]) (pc := 5) dX6_readsTakes_5 rfl (by decide) rfl ?_
  refine P_iload_n (pc := 6) dX6_readsTakes_6 rfl 0 rfl ?_
  refine P_if_ge (tgt := 12) (pc := 7) dX6_readsTakes_7 (by decide) (by first | assumption | (unfold InR; omega)) (fun c_7 => ?_) (fun c_7 => ?_)
  · refine P_aload_n (pc := 12) dX6_readsTakes_12 rfl 1 rfl ?_
    refine P_iconst (pc := 13) dX6_readsTakes_13 ?_
    refine P_callVi (Y' := mX6_digit) (as := [_]) (pc := 14) dX6_readsTakes_14 rfl (by decide : 1 < 2) sM_0 rfl ml_RX6_154 im_X6_digit se_X6_digit mk_X6_digit (Nat.le_of_ble_eq_true rfl) (c_X6_digit hT (by omega) (by omega)) (fun z_ μ_ hq => ?_)
    obtain ⟨rfl, hμ_, hi_⟩ := hq
    subst hμ_
    try simp only [at_15, at_16, at_11, at_12, at_14, at_30, at_37, at_40, at_r1, at_r2, at_r3, at_r4, at_r5, at_r6, at_r7, at_r8, at_r9, at_r10, at_r11, at_r12, at_r13, at_r14, at_r15, at_r16, at_r17, at_r18, at_r19, at_r20, at_r21, at_r22, at_r23, at_r24, at_r25, at_r26, at_r27, at_r28, at_r29, at_r30, at_p15, at_p16, at_comes, at_happ, at_put (show (5 : Nat) ≠ 0 ∨ _ from Or.inl (by decide))]
    refine P_istore_n (L' := [(2, vi _), (1, vi _), (0, vr 0)]) (pc := 17) dX6_readsTakes_17 rfl (by decide) rfl ?_
    refine P_iload_n (pc := 18) dX6_readsTakes_18 rfl 0 rfl ?_
    refine P_if_lt (tgt := 31) (pc := 19) dX6_readsTakes_19 (by decide) (by first | assumption | (unfold InR; omega)) (fun c_19 => ?_) (fun c_19 => ?_)
    · refine P_iconst (pc := 31) dX6_readsTakes_31 ?_
      exact P_zret (pc := 32) dX6_readsTakes_32 rfl (by omega) (QI.mk (by first | (exfalso; omega) | skip; unfold rdK; first | (rw [if_pos (by omega)]; exact ⟨rfl, rfl⟩) | (rw [if_neg (by omega)]; first | (rw [if_pos (by omega)]; exact ⟨rfl, rfl⟩) | (rw [if_neg (by omega)]; first | (rw [if_pos (by omega)]; exact ⟨rfl, rfl⟩) | (rw [if_neg (by omega)]; exact ⟨rfl, rfl⟩)))))
    · refine P_aload_n (pc := 22) dX6_readsTakes_22 rfl 2 rfl ?_
      refine P_bipush (pc := 23) dX6_readsTakes_23 (by decide) ?_
      refine P_callVi (Y' := mX6_takesSign) (as := [_]) (pc := 25) dX6_readsTakes_25 rfl (by decide : 1 < 2) sM_0 rfl ml_RX6_157 im_X6_takesSign se_X6_takesSign mk_X6_takesSign (Nat.le_of_ble_eq_true rfl) (c_X6_takesSign hT (by omega) (by omega)) (fun z_ μ_ hq => ?_)
      obtain ⟨rfl, hμ_, hi_⟩ := hq
      subst hμ_
      try simp only [at_15, at_16, at_11, at_12, at_14, at_30, at_37, at_40, at_r1, at_r2, at_r3, at_r4, at_r5, at_r6, at_r7, at_r8, at_r9, at_r10, at_r11, at_r12, at_r13, at_r14, at_r15, at_r16, at_r17, at_r18, at_r19, at_r20, at_r21, at_r22, at_r23, at_r24, at_r25, at_r26, at_r27, at_r28, at_r29, at_r30, at_p15, at_p16, at_comes, at_happ, at_put (show (5 : Nat) ≠ 0 ∨ _ from Or.inl (by decide))]
      refine P_if_ne (tgt := 33) (pc := 28) dX6_readsTakes_28 (by decide) (by first | assumption | (unfold InR; omega)) (fun c_28 => ?_) (fun c_28 => ?_)
      · refine P_aload_n (pc := 33) dX6_readsTakes_33 rfl 2 rfl ?_
        refine P_getR (pc := 34) dX6_readsTakes_34 fa_RX6_22 sM_0 fM0_4 ?_
        refine P_iload_n (pc := 37) dX6_readsTakes_37 rfl 1 rfl ?_
        refine P_iload_n (pc := 38) dX6_readsTakes_38 rfl 0 rfl ?_
        refine P_iast (pc := 39) dX6_readsTakes_39 sM_5 (by omega) (by omega) (by decide) ?_
        try simp only [at_15, at_16, at_11, at_12, at_14, at_30, at_37, at_40, at_r1, at_r2, at_r3, at_r4, at_r5, at_r6, at_r7, at_r8, at_r9, at_r10, at_r11, at_r12, at_r13, at_r14, at_r15, at_r16, at_r17, at_r18, at_r19, at_r20, at_r21, at_r22, at_r23, at_r24, at_r25, at_r26, at_r27, at_r28, at_r29, at_r30, at_p15, at_p16, at_comes, at_happ, at_put (show (5 : Nat) ≠ 0 ∨ _ from Or.inl (by decide))]
        refine P_iconst (pc := 40) dX6_readsTakes_40 ?_
        exact P_zret (pc := 41) dX6_readsTakes_41 rfl (by omega) (QI.mk (by first | (exfalso; omega) | skip; unfold rdK; first | (rw [if_pos (by omega)]; exact ⟨rfl, rfl⟩) | (rw [if_neg (by omega)]; first | (rw [if_pos (by omega)]; exact ⟨rfl, rfl⟩) | (rw [if_neg (by omega)]; first | (rw [if_pos (by omega)]; exact ⟨rfl, rfl⟩) | (rw [if_neg (by omega)]; exact ⟨rfl, rfl⟩)))))
      · refine P_iconst (pc := 31) dX6_readsTakes_31 ?_
        exact P_zret (pc := 32) dX6_readsTakes_32 rfl (by omega) (QI.mk (by first | (exfalso; omega) | skip; unfold rdK; first | (rw [if_pos (by omega)]; exact ⟨rfl, rfl⟩) | (rw [if_neg (by omega)]; first | (rw [if_pos (by omega)]; exact ⟨rfl, rfl⟩) | (rw [if_neg (by omega)]; first | (rw [if_pos (by omega)]; exact ⟨rfl, rfl⟩) | (rw [if_neg (by omega)]; exact ⟨rfl, rfl⟩)))))
  · refine P_iconst (pc := 10) dX6_readsTakes_10 ?_
    exact P_zret (pc := 11) dX6_readsTakes_11 rfl (by omega) (QI.mk (by first | (exfalso; omega) | skip; unfold rdK; first | (rw [if_pos (by omega)]; exact ⟨rfl, rfl⟩) | (rw [if_neg (by omega)]; first | (rw [if_pos (by omega)]; exact ⟨rfl, rfl⟩) | (rw [if_neg (by omega)]; first | (rw [if_pos (by omega)]; exact ⟨rfl, rfl⟩) | (rw [if_neg (by omega)]; exact ⟨rfl, rfl⟩)))))
/-- what is asked of the data while a house is read -/
def HI (μ : Mem) : Prop := (0 ≤ μ.1 0 11 ∧ μ.1 0 11 ≤ 12) ∧ (0 ≤ μ.1 0 12 ∧ μ.1 0 12 ≤ 60) ∧ (∀ j, 0 ≤ μ.1 2 j ∧ μ.1 2 j ≤ 5) ∧ TL (μ.1 12) (μ.1 0 14)
/-- a statement that is read: does it stand, the place then, the data -/
def stR (ν : Mem) (a : Int) : Int × Int × Mem :=
  if sgn (ν.1 12) (ν.1 0 14) a = 116 ∧ ν.1 0 11 < 12 then
    ((rdT (ν.1 12) (ν.1 0 14) (mjD ν.1) (a + 1)).1, (rdT (ν.1 12) (ν.1 0 14) (mjD ν.1) (a + 1)).2.1, if (rdT (ν.1 12) (ν.1 0 14) (mjD ν.1) (a + 1)).1 = 1 then comesM ν (rdT (ν.1 12) (ν.1 0 14) (mjD ν.1) (a + 1)).2.2.1 (rdT (ν.1 12) (ν.1 0 14) (mjD ν.1) (a + 1)).2.2.2.1 (rdT (ν.1 12) (ν.1 0 14) (mjD ν.1) (a + 1)).2.2.2.2 else ν)
  else if sgn (ν.1 12) (ν.1 0 14) a = 101 ∧ ν.1 0 12 < 60 then
    ((rdE (ν.1 12) (ν.1 0 14) (ν.1 0 11) (a + 1)).1, (rdE (ν.1 12) (ν.1 0 14) (ν.1 0 11) (a + 1)).2.1, if (rdE (ν.1 12) (ν.1 0 14) (ν.1 0 11) (a + 1)).1 = 1 then happM ν (rdE (ν.1 12) (ν.1 0 14) (ν.1 0 11) (a + 1)).2.2.1 (rdE (ν.1 12) (ν.1 0 14) (ν.1 0 11) (a + 1)).2.2.2.1 (rdE (ν.1 12) (ν.1 0 14) (ν.1 0 11) (a + 1)).2.2.2.2.1 (rdE (ν.1 12) (ν.1 0 14) (ν.1 0 11) (a + 1)).2.2.2.2.2.1 (rdE (ν.1 12) (ν.1 0 14) (ν.1 0 11) (a + 1)).2.2.2.2.2.2 else ν)
  else if sgn (ν.1 12) (ν.1 0 14) a = 107 then
    ((rdK (ν.1 12) (ν.1 0 14) (a + 1)).1, (rdK (ν.1 12) (ν.1 0 14) (a + 1)).2.1, if (rdK (ν.1 12) (ν.1 0 14) (a + 1)).1 = 1 then putI ν 5 (rdK (ν.1 12) (ν.1 0 14) (a + 1)).2.2.1 (rdK (ν.1 12) (ν.1 0 14) (a + 1)).2.2.2 else ν)
  else (0, a, ν)
set_option maxHeartbeats 1000000 in
set_option maxRecDepth 100000 in
theorem c_X6_statement {μ : Mem} {a g : Int} (hI : HI μ) (ha : 0 ≤ a ∧ a ≤ μ.1 0 14) : PC shM 4 mX6_statement [vr 0] (atM μ a g) (QI (fun z μ' => z = (stR μ a).1 ∧ ∃ g', μ' = atM (stR μ a).2.2 (stR μ a).2.1 g')) := by
  refine PC.of (by decide +kernel) (Nat.le_of_ble_eq_true rfl) ?_
  refine P_sub (L' := [(0, vr 0)]) [0] rfl ?_
  obtain ⟨h11, h12, hk2, hT⟩ := hI
  have hT2 := hT.2
  refine P_aload_n (pc := 0) dX6_statement_0 rfl 0 rfl ?_
  refine P_callVi (Y' := mX6_sign) (as := []) (pc := 1) dX6_statement_1 rfl (by decide : 0 < 4) sM_0 rfl ml_RX6_147 im_X6_sign se_X6_sign mk_X6_sign (Nat.le_of_ble_eq_true rfl) (c_X6_sign hT (by omega)) (fun z_ μ_ hq => ?_)
  obtain ⟨rfl, hμ_, hi_⟩ := hq
  subst hμ_
  try simp only [at_15, at_16, at_11, at_12, at_14, at_30, at_37, at_40, at_r1, at_r2, at_r3, at_r4, at_r5, at_r6, at_r7, at_r8, at_r9, at_r10, at_r11, at_r12, at_r13, at_r14, at_r15, at_r16, at_r17, at_r18, at_r19, at_r20, at_r21, at_r22, at_r23, at_r24, at_r25, at_r26, at_r27, at_r28, at_r29, at_r30, at_p15, at_p16, at_comes, at_happ, at_put (show (5 : Nat) ≠ 0 ∨ _ from Or.inl (by decide))]
  refine P_istore_n (L' := [(1, vi _), (0, vr 0)]) (pc := 4) dX6_statement_4 rfl (by decide) rfl ?_
  refine P_iload_n (pc := 5) dX6_statement_5 rfl 0 rfl ?_
  refine P_bipush (pc := 6) dX6_statement_6 (by decide) ?_
  refine P_icmp_ne (tgt := 28) (pc := 8) dX6_statement_8 (by decide) (by first | assumption | (unfold InR; omega)) (by first | assumption | (unfold InR; omega)) (fun c_8 => ?_) (fun c_8 => ?_)
  · refine P_iload_n (pc := 28) dX6_statement_28 rfl 0 rfl ?_
    refine P_bipush (pc := 29) dX6_statement_29 (by decide) ?_
    refine P_icmp_ne (tgt := 51) (pc := 31) dX6_statement_31 (by decide) (by first | assumption | (unfold InR; omega)) (by first | assumption | (unfold InR; omega)) (fun c_31 => ?_) (fun c_31 => ?_)
    · refine P_iload_n (pc := 51) dX6_statement_51 rfl 0 rfl ?_
      refine P_bipush (pc := 52) dX6_statement_52 (by decide) ?_
      refine P_icmp_ne (tgt := 61) (pc := 54) dX6_statement_54 (by decide) (by first | assumption | (unfold InR; omega)) (by first | assumption | (unfold InR; omega)) (fun c_54 => ?_) (fun c_54 => ?_)
      · refine P_iconst (pc := 61) dX6_statement_61 ?_
        refine P_istore_n (L' := [(2, vi _), (1, vi _), (0, vr 0)]) (pc := 62) dX6_statement_62 rfl (by decide) rfl ?_
        refine P_iload_n (pc := 63) dX6_statement_63 rfl 0 rfl ?_
        refine P_if_ne (tgt := 69) (pc := 64) dX6_statement_64 (by decide) (by first | assumption | (unfold InR; omega)) (fun c_64 => ?_) (fun c_64 => ?_)
        · refine P_aload_n (pc := 69) dX6_statement_69 rfl 2 rfl ?_
          refine P_dup (pc := 70) dX6_statement_70 rfl ?_
          refine P_getI (jj := 15) (pc := 71) dX6_statement_71 fa_RX6_144 sM_0 fM0_15 rfl ?_
          try simp only [at_15, at_16, at_11, at_12, at_14, at_30, at_37, at_40, at_r1, at_r2, at_r3, at_r4, at_r5, at_r6, at_r7, at_r8, at_r9, at_r10, at_r11, at_r12, at_r13, at_r14, at_r15, at_r16, at_r17, at_r18, at_r19, at_r20, at_r21, at_r22, at_r23, at_r24, at_r25, at_r26, at_r27, at_r28, at_r29, at_r30, at_p15, at_p16, at_comes, at_happ, at_put (show (5 : Nat) ≠ 0 ∨ _ from Or.inl (by decide))]
          refine P_iconst (pc := 74) dX6_statement_74 ?_
          refine P_iadd (pc := 75) dX6_statement_75 ?_
          refine P_putI (jj := 15) (pc := 76) dX6_statement_76 fa_RX6_144 fp_6_15 sM_0 fM0_15 rfl ?_
          try simp only [at_15, at_16, at_11, at_12, at_14, at_30, at_37, at_40, at_r1, at_r2, at_r3, at_r4, at_r5, at_r6, at_r7, at_r8, at_r9, at_r10, at_r11, at_r12, at_r13, at_r14, at_r15, at_r16, at_r17, at_r18, at_r19, at_r20, at_r21, at_r22, at_r23, at_r24, at_r25, at_r26, at_r27, at_r28, at_r29, at_r30, at_p15, at_p16, at_comes, at_happ, at_put (show (5 : Nat) ≠ 0 ∨ _ from Or.inl (by decide))]
          refine P_iload_n (pc := 79) dX6_statement_79 rfl 1 rfl ?_
          refine P_bipush (pc := 80) dX6_statement_80 (by decide) ?_
          refine P_icmp_ne (tgt := 92) (pc := 82) dX6_statement_82 (by decide) (by first | assumption | (unfold InR; omega)) (by first | assumption | (unfold InR; omega)) (fun c_82 => ?_) (fun c_82 => ?_)
          · refine P_iload_n (pc := 92) dX6_statement_92 rfl 1 rfl ?_
            refine P_bipush (pc := 93) dX6_statement_93 (by decide) ?_
            refine P_icmp_ne (tgt := 105) (pc := 95) dX6_statement_95 (by decide) (by first | assumption | (unfold InR; omega)) (by first | assumption | (unfold InR; omega)) (fun c_95 => ?_) (fun c_95 => ?_)
            · refine P_aload_n (pc := 105) dX6_statement_105 rfl 2 rfl ?_
              refine P_callVi (Y' := mX6_readsTakes) (as := []) (pc := 106) dX6_statement_106 rfl (by decide : 2 < 4) sM_0 rfl ml_RX6_170 im_X6_readsTakes se_X6_readsTakes mk_X6_readsTakes (Nat.le_of_ble_eq_true rfl) (c_X6_readsTakes hT (by omega)) (fun z_ μ_ hq => ?_)
              obtain ⟨rfl, hμ_⟩ := hq
              subst hμ_
              have hin := rdK_in (a := a + 1) hT (by omega)
              try simp only [at_15, at_16, at_11, at_12, at_14, at_30, at_37, at_40, at_r1, at_r2, at_r3, at_r4, at_r5, at_r6, at_r7, at_r8, at_r9, at_r10, at_r11, at_r12, at_r13, at_r14, at_r15, at_r16, at_r17, at_r18, at_r19, at_r20, at_r21, at_r22, at_r23, at_r24, at_r25, at_r26, at_r27, at_r28, at_r29, at_r30, at_p15, at_p16, at_comes, at_happ, at_put (show (5 : Nat) ≠ 0 ∨ _ from Or.inl (by decide))]
              exact P_zret (pc := 109) dX6_statement_109 rfl (by omega) (QI.mk (by first | (exfalso; omega) | skip; unfold stR; first | (rw [if_pos (by omega)]; exact ⟨rfl, _, rfl⟩) | (rw [if_neg (by omega)]; first | (rw [if_pos (by omega)]; exact ⟨rfl, _, rfl⟩) | (rw [if_neg (by omega)]; first | (rw [if_pos (by omega)]; exact ⟨rfl, _, rfl⟩) | (rw [if_neg (by omega)]; exact ⟨rfl, _, rfl⟩)))))
            · refine P_aload_n (pc := 98) dX6_statement_98 rfl 2 rfl ?_
              refine P_callVi (Y' := mX6_readsEvent) (as := []) (pc := 99) dX6_statement_99 rfl (by decide : 3 < 4) sM_0 rfl ml_RX6_167 im_X6_readsEvent se_X6_readsEvent mk_X6_readsEvent (Nat.le_of_ble_eq_true rfl) (c_X6_readsEvent hT (by omega) h11 (by omega)) (fun z_ μ_ hq => ?_)
              obtain ⟨rfl, g', hμ_⟩ := hq
              subst hμ_
              have hin := (rdE_in (n := μ.1 0 11) hT (a := a + 1) (by omega)).1
              try simp only [at_15, at_16, at_11, at_12, at_14, at_30, at_37, at_40, at_r1, at_r2, at_r3, at_r4, at_r5, at_r6, at_r7, at_r8, at_r9, at_r10, at_r11, at_r12, at_r13, at_r14, at_r15, at_r16, at_r17, at_r18, at_r19, at_r20, at_r21, at_r22, at_r23, at_r24, at_r25, at_r26, at_r27, at_r28, at_r29, at_r30, at_p15, at_p16, at_comes, at_happ, at_put (show (5 : Nat) ≠ 0 ∨ _ from Or.inl (by decide))]
              refine P_goto (tgt := 109) (pc := 102) dX6_statement_102 (by decide) ?_
              exact P_zret (pc := 109) dX6_statement_109 rfl (by omega) (QI.mk (by first | (exfalso; omega) | skip; unfold stR; first | (rw [if_pos (by omega)]; exact ⟨rfl, _, rfl⟩) | (rw [if_neg (by omega)]; first | (rw [if_pos (by omega)]; exact ⟨rfl, _, rfl⟩) | (rw [if_neg (by omega)]; first | (rw [if_pos (by omega)]; exact ⟨rfl, _, rfl⟩) | (rw [if_neg (by omega)]; exact ⟨rfl, _, rfl⟩)))))
          · refine P_aload_n (pc := 85) dX6_statement_85 rfl 2 rfl ?_
            refine P_callVi (Y' := mX6_readsThing) (as := []) (pc := 86) dX6_statement_86 rfl (by decide : 2 < 4) sM_0 rfl ml_RX6_164 im_X6_readsThing se_X6_readsThing mk_X6_readsThing (Nat.le_of_ble_eq_true rfl) (c_X6_readsThing hT (by omega) (by omega) hk2) (fun z_ μ_ hq => ?_)
            obtain ⟨rfl, hμ_⟩ := hq
            subst hμ_
            have hin := rdT_in (d := mjD μ.1) (a := a + 1) hT (by omega)
            try simp only [at_15, at_16, at_11, at_12, at_14, at_30, at_37, at_40, at_r1, at_r2, at_r3, at_r4, at_r5, at_r6, at_r7, at_r8, at_r9, at_r10, at_r11, at_r12, at_r13, at_r14, at_r15, at_r16, at_r17, at_r18, at_r19, at_r20, at_r21, at_r22, at_r23, at_r24, at_r25, at_r26, at_r27, at_r28, at_r29, at_r30, at_p15, at_p16, at_comes, at_happ, at_put (show (5 : Nat) ≠ 0 ∨ _ from Or.inl (by decide))]
            refine P_goto (tgt := 109) (pc := 89) dX6_statement_89 (by decide) ?_
            exact P_zret (pc := 109) dX6_statement_109 rfl (by omega) (QI.mk (by first | (exfalso; omega) | skip; unfold stR; first | (rw [if_pos (by omega)]; exact ⟨rfl, _, rfl⟩) | (rw [if_neg (by omega)]; first | (rw [if_pos (by omega)]; exact ⟨rfl, _, rfl⟩) | (rw [if_neg (by omega)]; first | (rw [if_pos (by omega)]; exact ⟨rfl, _, rfl⟩) | (rw [if_neg (by omega)]; exact ⟨rfl, _, rfl⟩)))))
        · refine P_iconst (pc := 67) dX6_statement_67 ?_
          exact P_zret (pc := 68) dX6_statement_68 rfl (by omega) (QI.mk (by first | (exfalso; omega) | skip; unfold stR; first | (rw [if_pos (by omega)]; exact ⟨rfl, _, rfl⟩) | (rw [if_neg (by omega)]; first | (rw [if_pos (by omega)]; exact ⟨rfl, _, rfl⟩) | (rw [if_neg (by omega)]; first | (rw [if_pos (by omega)]; exact ⟨rfl, _, rfl⟩) | (rw [if_neg (by omega)]; exact ⟨rfl, _, rfl⟩)))))
      · refine P_iconst (pc := 57) dX6_statement_57 ?_
        refine P_goto (tgt := 62) (pc := 58) dX6_statement_58 (by decide) ?_
        refine P_istore_n (L' := [(2, vi _), (1, vi _), (0, vr 0)]) (pc := 62) dX6_statement_62 rfl (by decide) rfl ?_
        refine P_iload_n (pc := 63) dX6_statement_63 rfl 0 rfl ?_
        refine P_if_ne (tgt := 69) (pc := 64) dX6_statement_64 (by decide) (by first | assumption | (unfold InR; omega)) (fun c_64 => ?_) (fun c_64 => ?_)
        · refine P_aload_n (pc := 69) dX6_statement_69 rfl 2 rfl ?_
          refine P_dup (pc := 70) dX6_statement_70 rfl ?_
          refine P_getI (jj := 15) (pc := 71) dX6_statement_71 fa_RX6_144 sM_0 fM0_15 rfl ?_
          try simp only [at_15, at_16, at_11, at_12, at_14, at_30, at_37, at_40, at_r1, at_r2, at_r3, at_r4, at_r5, at_r6, at_r7, at_r8, at_r9, at_r10, at_r11, at_r12, at_r13, at_r14, at_r15, at_r16, at_r17, at_r18, at_r19, at_r20, at_r21, at_r22, at_r23, at_r24, at_r25, at_r26, at_r27, at_r28, at_r29, at_r30, at_p15, at_p16, at_comes, at_happ, at_put (show (5 : Nat) ≠ 0 ∨ _ from Or.inl (by decide))]
          refine P_iconst (pc := 74) dX6_statement_74 ?_
          refine P_iadd (pc := 75) dX6_statement_75 ?_
          refine P_putI (jj := 15) (pc := 76) dX6_statement_76 fa_RX6_144 fp_6_15 sM_0 fM0_15 rfl ?_
          try simp only [at_15, at_16, at_11, at_12, at_14, at_30, at_37, at_40, at_r1, at_r2, at_r3, at_r4, at_r5, at_r6, at_r7, at_r8, at_r9, at_r10, at_r11, at_r12, at_r13, at_r14, at_r15, at_r16, at_r17, at_r18, at_r19, at_r20, at_r21, at_r22, at_r23, at_r24, at_r25, at_r26, at_r27, at_r28, at_r29, at_r30, at_p15, at_p16, at_comes, at_happ, at_put (show (5 : Nat) ≠ 0 ∨ _ from Or.inl (by decide))]
          refine P_iload_n (pc := 79) dX6_statement_79 rfl 1 rfl ?_
          refine P_bipush (pc := 80) dX6_statement_80 (by decide) ?_
          refine P_icmp_ne (tgt := 92) (pc := 82) dX6_statement_82 (by decide) (by first | assumption | (unfold InR; omega)) (by first | assumption | (unfold InR; omega)) (fun c_82 => ?_) (fun c_82 => ?_)
          · refine P_iload_n (pc := 92) dX6_statement_92 rfl 1 rfl ?_
            refine P_bipush (pc := 93) dX6_statement_93 (by decide) ?_
            refine P_icmp_ne (tgt := 105) (pc := 95) dX6_statement_95 (by decide) (by first | assumption | (unfold InR; omega)) (by first | assumption | (unfold InR; omega)) (fun c_95 => ?_) (fun c_95 => ?_)
            · refine P_aload_n (pc := 105) dX6_statement_105 rfl 2 rfl ?_
              refine P_callVi (Y' := mX6_readsTakes) (as := []) (pc := 106) dX6_statement_106 rfl (by decide : 2 < 4) sM_0 rfl ml_RX6_170 im_X6_readsTakes se_X6_readsTakes mk_X6_readsTakes (Nat.le_of_ble_eq_true rfl) (c_X6_readsTakes hT (by omega)) (fun z_ μ_ hq => ?_)
              obtain ⟨rfl, hμ_⟩ := hq
              subst hμ_
              have hin := rdK_in (a := a + 1) hT (by omega)
              try simp only [at_15, at_16, at_11, at_12, at_14, at_30, at_37, at_40, at_r1, at_r2, at_r3, at_r4, at_r5, at_r6, at_r7, at_r8, at_r9, at_r10, at_r11, at_r12, at_r13, at_r14, at_r15, at_r16, at_r17, at_r18, at_r19, at_r20, at_r21, at_r22, at_r23, at_r24, at_r25, at_r26, at_r27, at_r28, at_r29, at_r30, at_p15, at_p16, at_comes, at_happ, at_put (show (5 : Nat) ≠ 0 ∨ _ from Or.inl (by decide))]
              exact P_zret (pc := 109) dX6_statement_109 rfl (by omega) (QI.mk (by first | (exfalso; omega) | skip; unfold stR; first | (rw [if_pos (by omega)]; exact ⟨rfl, _, rfl⟩) | (rw [if_neg (by omega)]; first | (rw [if_pos (by omega)]; exact ⟨rfl, _, rfl⟩) | (rw [if_neg (by omega)]; first | (rw [if_pos (by omega)]; exact ⟨rfl, _, rfl⟩) | (rw [if_neg (by omega)]; exact ⟨rfl, _, rfl⟩)))))
            · refine P_aload_n (pc := 98) dX6_statement_98 rfl 2 rfl ?_
              refine P_callVi (Y' := mX6_readsEvent) (as := []) (pc := 99) dX6_statement_99 rfl (by decide : 3 < 4) sM_0 rfl ml_RX6_167 im_X6_readsEvent se_X6_readsEvent mk_X6_readsEvent (Nat.le_of_ble_eq_true rfl) (c_X6_readsEvent hT (by omega) h11 (by omega)) (fun z_ μ_ hq => ?_)
              obtain ⟨rfl, g', hμ_⟩ := hq
              subst hμ_
              have hin := (rdE_in (n := μ.1 0 11) hT (a := a + 1) (by omega)).1
              try simp only [at_15, at_16, at_11, at_12, at_14, at_30, at_37, at_40, at_r1, at_r2, at_r3, at_r4, at_r5, at_r6, at_r7, at_r8, at_r9, at_r10, at_r11, at_r12, at_r13, at_r14, at_r15, at_r16, at_r17, at_r18, at_r19, at_r20, at_r21, at_r22, at_r23, at_r24, at_r25, at_r26, at_r27, at_r28, at_r29, at_r30, at_p15, at_p16, at_comes, at_happ, at_put (show (5 : Nat) ≠ 0 ∨ _ from Or.inl (by decide))]
              refine P_goto (tgt := 109) (pc := 102) dX6_statement_102 (by decide) ?_
              exact P_zret (pc := 109) dX6_statement_109 rfl (by omega) (QI.mk (by first | (exfalso; omega) | skip; unfold stR; first | (rw [if_pos (by omega)]; exact ⟨rfl, _, rfl⟩) | (rw [if_neg (by omega)]; first | (rw [if_pos (by omega)]; exact ⟨rfl, _, rfl⟩) | (rw [if_neg (by omega)]; first | (rw [if_pos (by omega)]; exact ⟨rfl, _, rfl⟩) | (rw [if_neg (by omega)]; exact ⟨rfl, _, rfl⟩)))))
          · refine P_aload_n (pc := 85) dX6_statement_85 rfl 2 rfl ?_
            refine P_callVi (Y' := mX6_readsThing) (as := []) (pc := 86) dX6_statement_86 rfl (by decide : 2 < 4) sM_0 rfl ml_RX6_164 im_X6_readsThing se_X6_readsThing mk_X6_readsThing (Nat.le_of_ble_eq_true rfl) (c_X6_readsThing hT (by omega) (by omega) hk2) (fun z_ μ_ hq => ?_)
            obtain ⟨rfl, hμ_⟩ := hq
            subst hμ_
            have hin := rdT_in (d := mjD μ.1) (a := a + 1) hT (by omega)
            try simp only [at_15, at_16, at_11, at_12, at_14, at_30, at_37, at_40, at_r1, at_r2, at_r3, at_r4, at_r5, at_r6, at_r7, at_r8, at_r9, at_r10, at_r11, at_r12, at_r13, at_r14, at_r15, at_r16, at_r17, at_r18, at_r19, at_r20, at_r21, at_r22, at_r23, at_r24, at_r25, at_r26, at_r27, at_r28, at_r29, at_r30, at_p15, at_p16, at_comes, at_happ, at_put (show (5 : Nat) ≠ 0 ∨ _ from Or.inl (by decide))]
            refine P_goto (tgt := 109) (pc := 89) dX6_statement_89 (by decide) ?_
            exact P_zret (pc := 109) dX6_statement_109 rfl (by omega) (QI.mk (by first | (exfalso; omega) | skip; unfold stR; first | (rw [if_pos (by omega)]; exact ⟨rfl, _, rfl⟩) | (rw [if_neg (by omega)]; first | (rw [if_pos (by omega)]; exact ⟨rfl, _, rfl⟩) | (rw [if_neg (by omega)]; first | (rw [if_pos (by omega)]; exact ⟨rfl, _, rfl⟩) | (rw [if_neg (by omega)]; exact ⟨rfl, _, rfl⟩)))))
        · refine P_iconst (pc := 67) dX6_statement_67 ?_
          exact P_zret (pc := 68) dX6_statement_68 rfl (by omega) (QI.mk (by first | (exfalso; omega) | skip; unfold stR; first | (rw [if_pos (by omega)]; exact ⟨rfl, _, rfl⟩) | (rw [if_neg (by omega)]; first | (rw [if_pos (by omega)]; exact ⟨rfl, _, rfl⟩) | (rw [if_neg (by omega)]; first | (rw [if_pos (by omega)]; exact ⟨rfl, _, rfl⟩) | (rw [if_neg (by omega)]; exact ⟨rfl, _, rfl⟩)))))
    · refine P_aload_n (pc := 34) dX6_statement_34 rfl 1 rfl ?_
      refine P_getI (jj := 12) (pc := 35) dX6_statement_35 fa_RX6_125 sM_0 fM0_12 rfl ?_
      try simp only [at_15, at_16, at_11, at_12, at_14, at_30, at_37, at_40, at_r1, at_r2, at_r3, at_r4, at_r5, at_r6, at_r7, at_r8, at_r9, at_r10, at_r11, at_r12, at_r13, at_r14, at_r15, at_r16, at_r17, at_r18, at_r19, at_r20, at_r21, at_r22, at_r23, at_r24, at_r25, at_r26, at_r27, at_r28, at_r29, at_r30, at_p15, at_p16, at_comes, at_happ, at_put (show (5 : Nat) ≠ 0 ∨ _ from Or.inl (by decide))]
      refine P_bipush (pc := 38) dX6_statement_38 (by decide) ?_
      refine P_icmp_ge (tgt := 47) (pc := 40) dX6_statement_40 (by decide) (by first | assumption | (unfold InR; omega)) (by first | assumption | (unfold InR; omega)) (fun c_40 => ?_) (fun c_40 => ?_)
      · refine P_iconst (pc := 47) dX6_statement_47 ?_
        refine P_goto (tgt := 62) (pc := 48) dX6_statement_48 (by decide) ?_
        refine P_istore_n (L' := [(2, vi _), (1, vi _), (0, vr 0)]) (pc := 62) dX6_statement_62 rfl (by decide) rfl ?_
        refine P_iload_n (pc := 63) dX6_statement_63 rfl 0 rfl ?_
        refine P_if_ne (tgt := 69) (pc := 64) dX6_statement_64 (by decide) (by first | assumption | (unfold InR; omega)) (fun c_64 => ?_) (fun c_64 => ?_)
        · refine P_aload_n (pc := 69) dX6_statement_69 rfl 2 rfl ?_
          refine P_dup (pc := 70) dX6_statement_70 rfl ?_
          refine P_getI (jj := 15) (pc := 71) dX6_statement_71 fa_RX6_144 sM_0 fM0_15 rfl ?_
          try simp only [at_15, at_16, at_11, at_12, at_14, at_30, at_37, at_40, at_r1, at_r2, at_r3, at_r4, at_r5, at_r6, at_r7, at_r8, at_r9, at_r10, at_r11, at_r12, at_r13, at_r14, at_r15, at_r16, at_r17, at_r18, at_r19, at_r20, at_r21, at_r22, at_r23, at_r24, at_r25, at_r26, at_r27, at_r28, at_r29, at_r30, at_p15, at_p16, at_comes, at_happ, at_put (show (5 : Nat) ≠ 0 ∨ _ from Or.inl (by decide))]
          refine P_iconst (pc := 74) dX6_statement_74 ?_
          refine P_iadd (pc := 75) dX6_statement_75 ?_
          refine P_putI (jj := 15) (pc := 76) dX6_statement_76 fa_RX6_144 fp_6_15 sM_0 fM0_15 rfl ?_
          try simp only [at_15, at_16, at_11, at_12, at_14, at_30, at_37, at_40, at_r1, at_r2, at_r3, at_r4, at_r5, at_r6, at_r7, at_r8, at_r9, at_r10, at_r11, at_r12, at_r13, at_r14, at_r15, at_r16, at_r17, at_r18, at_r19, at_r20, at_r21, at_r22, at_r23, at_r24, at_r25, at_r26, at_r27, at_r28, at_r29, at_r30, at_p15, at_p16, at_comes, at_happ, at_put (show (5 : Nat) ≠ 0 ∨ _ from Or.inl (by decide))]
          refine P_iload_n (pc := 79) dX6_statement_79 rfl 1 rfl ?_
          refine P_bipush (pc := 80) dX6_statement_80 (by decide) ?_
          refine P_icmp_ne (tgt := 92) (pc := 82) dX6_statement_82 (by decide) (by first | assumption | (unfold InR; omega)) (by first | assumption | (unfold InR; omega)) (fun c_82 => ?_) (fun c_82 => ?_)
          · refine P_iload_n (pc := 92) dX6_statement_92 rfl 1 rfl ?_
            refine P_bipush (pc := 93) dX6_statement_93 (by decide) ?_
            refine P_icmp_ne (tgt := 105) (pc := 95) dX6_statement_95 (by decide) (by first | assumption | (unfold InR; omega)) (by first | assumption | (unfold InR; omega)) (fun c_95 => ?_) (fun c_95 => ?_)
            · refine P_aload_n (pc := 105) dX6_statement_105 rfl 2 rfl ?_
              refine P_callVi (Y' := mX6_readsTakes) (as := []) (pc := 106) dX6_statement_106 rfl (by decide : 2 < 4) sM_0 rfl ml_RX6_170 im_X6_readsTakes se_X6_readsTakes mk_X6_readsTakes (Nat.le_of_ble_eq_true rfl) (c_X6_readsTakes hT (by omega)) (fun z_ μ_ hq => ?_)
              obtain ⟨rfl, hμ_⟩ := hq
              subst hμ_
              have hin := rdK_in (a := a + 1) hT (by omega)
              try simp only [at_15, at_16, at_11, at_12, at_14, at_30, at_37, at_40, at_r1, at_r2, at_r3, at_r4, at_r5, at_r6, at_r7, at_r8, at_r9, at_r10, at_r11, at_r12, at_r13, at_r14, at_r15, at_r16, at_r17, at_r18, at_r19, at_r20, at_r21, at_r22, at_r23, at_r24, at_r25, at_r26, at_r27, at_r28, at_r29, at_r30, at_p15, at_p16, at_comes, at_happ, at_put (show (5 : Nat) ≠ 0 ∨ _ from Or.inl (by decide))]
              exact P_zret (pc := 109) dX6_statement_109 rfl (by omega) (QI.mk (by first | (exfalso; omega) | skip; unfold stR; first | (rw [if_pos (by omega)]; exact ⟨rfl, _, rfl⟩) | (rw [if_neg (by omega)]; first | (rw [if_pos (by omega)]; exact ⟨rfl, _, rfl⟩) | (rw [if_neg (by omega)]; first | (rw [if_pos (by omega)]; exact ⟨rfl, _, rfl⟩) | (rw [if_neg (by omega)]; exact ⟨rfl, _, rfl⟩)))))
            · refine P_aload_n (pc := 98) dX6_statement_98 rfl 2 rfl ?_
              refine P_callVi (Y' := mX6_readsEvent) (as := []) (pc := 99) dX6_statement_99 rfl (by decide : 3 < 4) sM_0 rfl ml_RX6_167 im_X6_readsEvent se_X6_readsEvent mk_X6_readsEvent (Nat.le_of_ble_eq_true rfl) (c_X6_readsEvent hT (by omega) h11 (by omega)) (fun z_ μ_ hq => ?_)
              obtain ⟨rfl, g', hμ_⟩ := hq
              subst hμ_
              have hin := (rdE_in (n := μ.1 0 11) hT (a := a + 1) (by omega)).1
              try simp only [at_15, at_16, at_11, at_12, at_14, at_30, at_37, at_40, at_r1, at_r2, at_r3, at_r4, at_r5, at_r6, at_r7, at_r8, at_r9, at_r10, at_r11, at_r12, at_r13, at_r14, at_r15, at_r16, at_r17, at_r18, at_r19, at_r20, at_r21, at_r22, at_r23, at_r24, at_r25, at_r26, at_r27, at_r28, at_r29, at_r30, at_p15, at_p16, at_comes, at_happ, at_put (show (5 : Nat) ≠ 0 ∨ _ from Or.inl (by decide))]
              refine P_goto (tgt := 109) (pc := 102) dX6_statement_102 (by decide) ?_
              exact P_zret (pc := 109) dX6_statement_109 rfl (by omega) (QI.mk (by first | (exfalso; omega) | skip; unfold stR; first | (rw [if_pos (by omega)]; exact ⟨rfl, _, rfl⟩) | (rw [if_neg (by omega)]; first | (rw [if_pos (by omega)]; exact ⟨rfl, _, rfl⟩) | (rw [if_neg (by omega)]; first | (rw [if_pos (by omega)]; exact ⟨rfl, _, rfl⟩) | (rw [if_neg (by omega)]; exact ⟨rfl, _, rfl⟩)))))
          · refine P_aload_n (pc := 85) dX6_statement_85 rfl 2 rfl ?_
            refine P_callVi (Y' := mX6_readsThing) (as := []) (pc := 86) dX6_statement_86 rfl (by decide : 2 < 4) sM_0 rfl ml_RX6_164 im_X6_readsThing se_X6_readsThing mk_X6_readsThing (Nat.le_of_ble_eq_true rfl) (c_X6_readsThing hT (by omega) (by omega) hk2) (fun z_ μ_ hq => ?_)
            obtain ⟨rfl, hμ_⟩ := hq
            subst hμ_
            have hin := rdT_in (d := mjD μ.1) (a := a + 1) hT (by omega)
            try simp only [at_15, at_16, at_11, at_12, at_14, at_30, at_37, at_40, at_r1, at_r2, at_r3, at_r4, at_r5, at_r6, at_r7, at_r8, at_r9, at_r10, at_r11, at_r12, at_r13, at_r14, at_r15, at_r16, at_r17, at_r18, at_r19, at_r20, at_r21, at_r22, at_r23, at_r24, at_r25, at_r26, at_r27, at_r28, at_r29, at_r30, at_p15, at_p16, at_comes, at_happ, at_put (show (5 : Nat) ≠ 0 ∨ _ from Or.inl (by decide))]
            refine P_goto (tgt := 109) (pc := 89) dX6_statement_89 (by decide) ?_
            exact P_zret (pc := 109) dX6_statement_109 rfl (by omega) (QI.mk (by first | (exfalso; omega) | skip; unfold stR; first | (rw [if_pos (by omega)]; exact ⟨rfl, _, rfl⟩) | (rw [if_neg (by omega)]; first | (rw [if_pos (by omega)]; exact ⟨rfl, _, rfl⟩) | (rw [if_neg (by omega)]; first | (rw [if_pos (by omega)]; exact ⟨rfl, _, rfl⟩) | (rw [if_neg (by omega)]; exact ⟨rfl, _, rfl⟩)))))
        · refine P_iconst (pc := 67) dX6_statement_67 ?_
          exact P_zret (pc := 68) dX6_statement_68 rfl (by omega) (QI.mk (by first | (exfalso; omega) | skip; unfold stR; first | (rw [if_pos (by omega)]; exact ⟨rfl, _, rfl⟩) | (rw [if_neg (by omega)]; first | (rw [if_pos (by omega)]; exact ⟨rfl, _, rfl⟩) | (rw [if_neg (by omega)]; first | (rw [if_pos (by omega)]; exact ⟨rfl, _, rfl⟩) | (rw [if_neg (by omega)]; exact ⟨rfl, _, rfl⟩)))))
      · refine P_iconst (pc := 43) dX6_statement_43 ?_
        refine P_goto (tgt := 62) (pc := 44) dX6_statement_44 (by decide) ?_
        refine P_istore_n (L' := [(2, vi _), (1, vi _), (0, vr 0)]) (pc := 62) dX6_statement_62 rfl (by decide) rfl ?_
        refine P_iload_n (pc := 63) dX6_statement_63 rfl 0 rfl ?_
        refine P_if_ne (tgt := 69) (pc := 64) dX6_statement_64 (by decide) (by first | assumption | (unfold InR; omega)) (fun c_64 => ?_) (fun c_64 => ?_)
        · refine P_aload_n (pc := 69) dX6_statement_69 rfl 2 rfl ?_
          refine P_dup (pc := 70) dX6_statement_70 rfl ?_
          refine P_getI (jj := 15) (pc := 71) dX6_statement_71 fa_RX6_144 sM_0 fM0_15 rfl ?_
          try simp only [at_15, at_16, at_11, at_12, at_14, at_30, at_37, at_40, at_r1, at_r2, at_r3, at_r4, at_r5, at_r6, at_r7, at_r8, at_r9, at_r10, at_r11, at_r12, at_r13, at_r14, at_r15, at_r16, at_r17, at_r18, at_r19, at_r20, at_r21, at_r22, at_r23, at_r24, at_r25, at_r26, at_r27, at_r28, at_r29, at_r30, at_p15, at_p16, at_comes, at_happ, at_put (show (5 : Nat) ≠ 0 ∨ _ from Or.inl (by decide))]
          refine P_iconst (pc := 74) dX6_statement_74 ?_
          refine P_iadd (pc := 75) dX6_statement_75 ?_
          refine P_putI (jj := 15) (pc := 76) dX6_statement_76 fa_RX6_144 fp_6_15 sM_0 fM0_15 rfl ?_
          try simp only [at_15, at_16, at_11, at_12, at_14, at_30, at_37, at_40, at_r1, at_r2, at_r3, at_r4, at_r5, at_r6, at_r7, at_r8, at_r9, at_r10, at_r11, at_r12, at_r13, at_r14, at_r15, at_r16, at_r17, at_r18, at_r19, at_r20, at_r21, at_r22, at_r23, at_r24, at_r25, at_r26, at_r27, at_r28, at_r29, at_r30, at_p15, at_p16, at_comes, at_happ, at_put (show (5 : Nat) ≠ 0 ∨ _ from Or.inl (by decide))]
          refine P_iload_n (pc := 79) dX6_statement_79 rfl 1 rfl ?_
          refine P_bipush (pc := 80) dX6_statement_80 (by decide) ?_
          refine P_icmp_ne (tgt := 92) (pc := 82) dX6_statement_82 (by decide) (by first | assumption | (unfold InR; omega)) (by first | assumption | (unfold InR; omega)) (fun c_82 => ?_) (fun c_82 => ?_)
          · refine P_iload_n (pc := 92) dX6_statement_92 rfl 1 rfl ?_
            refine P_bipush (pc := 93) dX6_statement_93 (by decide) ?_
            refine P_icmp_ne (tgt := 105) (pc := 95) dX6_statement_95 (by decide) (by first | assumption | (unfold InR; omega)) (by first | assumption | (unfold InR; omega)) (fun c_95 => ?_) (fun c_95 => ?_)
            · refine P_aload_n (pc := 105) dX6_statement_105 rfl 2 rfl ?_
              refine P_callVi (Y' := mX6_readsTakes) (as := []) (pc := 106) dX6_statement_106 rfl (by decide : 2 < 4) sM_0 rfl ml_RX6_170 im_X6_readsTakes se_X6_readsTakes mk_X6_readsTakes (Nat.le_of_ble_eq_true rfl) (c_X6_readsTakes hT (by omega)) (fun z_ μ_ hq => ?_)
              obtain ⟨rfl, hμ_⟩ := hq
              subst hμ_
              have hin := rdK_in (a := a + 1) hT (by omega)
              try simp only [at_15, at_16, at_11, at_12, at_14, at_30, at_37, at_40, at_r1, at_r2, at_r3, at_r4, at_r5, at_r6, at_r7, at_r8, at_r9, at_r10, at_r11, at_r12, at_r13, at_r14, at_r15, at_r16, at_r17, at_r18, at_r19, at_r20, at_r21, at_r22, at_r23, at_r24, at_r25, at_r26, at_r27, at_r28, at_r29, at_r30, at_p15, at_p16, at_comes, at_happ, at_put (show (5 : Nat) ≠ 0 ∨ _ from Or.inl (by decide))]
              exact P_zret (pc := 109) dX6_statement_109 rfl (by omega) (QI.mk (by first | (exfalso; omega) | skip; unfold stR; first | (rw [if_pos (by omega)]; exact ⟨rfl, _, rfl⟩) | (rw [if_neg (by omega)]; first | (rw [if_pos (by omega)]; exact ⟨rfl, _, rfl⟩) | (rw [if_neg (by omega)]; first | (rw [if_pos (by omega)]; exact ⟨rfl, _, rfl⟩) | (rw [if_neg (by omega)]; exact ⟨rfl, _, rfl⟩)))))
            · refine P_aload_n (pc := 98) dX6_statement_98 rfl 2 rfl ?_
              refine P_callVi (Y' := mX6_readsEvent) (as := []) (pc := 99) dX6_statement_99 rfl (by decide : 3 < 4) sM_0 rfl ml_RX6_167 im_X6_readsEvent se_X6_readsEvent mk_X6_readsEvent (Nat.le_of_ble_eq_true rfl) (c_X6_readsEvent hT (by omega) h11 (by omega)) (fun z_ μ_ hq => ?_)
              obtain ⟨rfl, g', hμ_⟩ := hq
              subst hμ_
              have hin := (rdE_in (n := μ.1 0 11) hT (a := a + 1) (by omega)).1
              try simp only [at_15, at_16, at_11, at_12, at_14, at_30, at_37, at_40, at_r1, at_r2, at_r3, at_r4, at_r5, at_r6, at_r7, at_r8, at_r9, at_r10, at_r11, at_r12, at_r13, at_r14, at_r15, at_r16, at_r17, at_r18, at_r19, at_r20, at_r21, at_r22, at_r23, at_r24, at_r25, at_r26, at_r27, at_r28, at_r29, at_r30, at_p15, at_p16, at_comes, at_happ, at_put (show (5 : Nat) ≠ 0 ∨ _ from Or.inl (by decide))]
              refine P_goto (tgt := 109) (pc := 102) dX6_statement_102 (by decide) ?_
              exact P_zret (pc := 109) dX6_statement_109 rfl (by omega) (QI.mk (by first | (exfalso; omega) | skip; unfold stR; first | (rw [if_pos (by omega)]; exact ⟨rfl, _, rfl⟩) | (rw [if_neg (by omega)]; first | (rw [if_pos (by omega)]; exact ⟨rfl, _, rfl⟩) | (rw [if_neg (by omega)]; first | (rw [if_pos (by omega)]; exact ⟨rfl, _, rfl⟩) | (rw [if_neg (by omega)]; exact ⟨rfl, _, rfl⟩)))))
          · refine P_aload_n (pc := 85) dX6_statement_85 rfl 2 rfl ?_
            refine P_callVi (Y' := mX6_readsThing) (as := []) (pc := 86) dX6_statement_86 rfl (by decide : 2 < 4) sM_0 rfl ml_RX6_164 im_X6_readsThing se_X6_readsThing mk_X6_readsThing (Nat.le_of_ble_eq_true rfl) (c_X6_readsThing hT (by omega) (by omega) hk2) (fun z_ μ_ hq => ?_)
            obtain ⟨rfl, hμ_⟩ := hq
            subst hμ_
            have hin := rdT_in (d := mjD μ.1) (a := a + 1) hT (by omega)
            try simp only [at_15, at_16, at_11, at_12, at_14, at_30, at_37, at_40, at_r1, at_r2, at_r3, at_r4, at_r5, at_r6, at_r7, at_r8, at_r9, at_r10, at_r11, at_r12, at_r13, at_r14, at_r15, at_r16, at_r17, at_r18, at_r19, at_r20, at_r21, at_r22, at_r23, at_r24, at_r25, at_r26, at_r27, at_r28, at_r29, at_r30, at_p15, at_p16, at_comes, at_happ, at_put (show (5 : Nat) ≠ 0 ∨ _ from Or.inl (by decide))]
            refine P_goto (tgt := 109) (pc := 89) dX6_statement_89 (by decide) ?_
            exact P_zret (pc := 109) dX6_statement_109 rfl (by omega) (QI.mk (by first | (exfalso; omega) | skip; unfold stR; first | (rw [if_pos (by omega)]; exact ⟨rfl, _, rfl⟩) | (rw [if_neg (by omega)]; first | (rw [if_pos (by omega)]; exact ⟨rfl, _, rfl⟩) | (rw [if_neg (by omega)]; first | (rw [if_pos (by omega)]; exact ⟨rfl, _, rfl⟩) | (rw [if_neg (by omega)]; exact ⟨rfl, _, rfl⟩)))))
        · refine P_iconst (pc := 67) dX6_statement_67 ?_
          exact P_zret (pc := 68) dX6_statement_68 rfl (by omega) (QI.mk (by first | (exfalso; omega) | skip; unfold stR; first | (rw [if_pos (by omega)]; exact ⟨rfl, _, rfl⟩) | (rw [if_neg (by omega)]; first | (rw [if_pos (by omega)]; exact ⟨rfl, _, rfl⟩) | (rw [if_neg (by omega)]; first | (rw [if_pos (by omega)]; exact ⟨rfl, _, rfl⟩) | (rw [if_neg (by omega)]; exact ⟨rfl, _, rfl⟩)))))
  · refine P_aload_n (pc := 11) dX6_statement_11 rfl 1 rfl ?_
    refine P_getI (jj := 11) (pc := 12) dX6_statement_12 fa_RX6_101 sM_0 fM0_11 rfl ?_
    try simp only [at_15, at_16, at_11, at_12, at_14, at_30, at_37, at_40, at_r1, at_r2, at_r3, at_r4, at_r5, at_r6, at_r7, at_r8, at_r9, at_r10, at_r11, at_r12, at_r13, at_r14, at_r15, at_r16, at_r17, at_r18, at_r19, at_r20, at_r21, at_r22, at_r23, at_r24, at_r25, at_r26, at_r27, at_r28, at_r29, at_r30, at_p15, at_p16, at_comes, at_happ, at_put (show (5 : Nat) ≠ 0 ∨ _ from Or.inl (by decide))]
    refine P_bipush (pc := 15) dX6_statement_15 (by decide) ?_
    refine P_icmp_ge (tgt := 24) (pc := 17) dX6_statement_17 (by decide) (by first | assumption | (unfold InR; omega)) (by first | assumption | (unfold InR; omega)) (fun c_17 => ?_) (fun c_17 => ?_)
    · refine P_iconst (pc := 24) dX6_statement_24 ?_
      refine P_goto (tgt := 62) (pc := 25) dX6_statement_25 (by decide) ?_
      refine P_istore_n (L' := [(2, vi _), (1, vi _), (0, vr 0)]) (pc := 62) dX6_statement_62 rfl (by decide) rfl ?_
      refine P_iload_n (pc := 63) dX6_statement_63 rfl 0 rfl ?_
      refine P_if_ne (tgt := 69) (pc := 64) dX6_statement_64 (by decide) (by first | assumption | (unfold InR; omega)) (fun c_64 => ?_) (fun c_64 => ?_)
      · refine P_aload_n (pc := 69) dX6_statement_69 rfl 2 rfl ?_
        refine P_dup (pc := 70) dX6_statement_70 rfl ?_
        refine P_getI (jj := 15) (pc := 71) dX6_statement_71 fa_RX6_144 sM_0 fM0_15 rfl ?_
        try simp only [at_15, at_16, at_11, at_12, at_14, at_30, at_37, at_40, at_r1, at_r2, at_r3, at_r4, at_r5, at_r6, at_r7, at_r8, at_r9, at_r10, at_r11, at_r12, at_r13, at_r14, at_r15, at_r16, at_r17, at_r18, at_r19, at_r20, at_r21, at_r22, at_r23, at_r24, at_r25, at_r26, at_r27, at_r28, at_r29, at_r30, at_p15, at_p16, at_comes, at_happ, at_put (show (5 : Nat) ≠ 0 ∨ _ from Or.inl (by decide))]
        refine P_iconst (pc := 74) dX6_statement_74 ?_
        refine P_iadd (pc := 75) dX6_statement_75 ?_
        refine P_putI (jj := 15) (pc := 76) dX6_statement_76 fa_RX6_144 fp_6_15 sM_0 fM0_15 rfl ?_
        try simp only [at_15, at_16, at_11, at_12, at_14, at_30, at_37, at_40, at_r1, at_r2, at_r3, at_r4, at_r5, at_r6, at_r7, at_r8, at_r9, at_r10, at_r11, at_r12, at_r13, at_r14, at_r15, at_r16, at_r17, at_r18, at_r19, at_r20, at_r21, at_r22, at_r23, at_r24, at_r25, at_r26, at_r27, at_r28, at_r29, at_r30, at_p15, at_p16, at_comes, at_happ, at_put (show (5 : Nat) ≠ 0 ∨ _ from Or.inl (by decide))]
        refine P_iload_n (pc := 79) dX6_statement_79 rfl 1 rfl ?_
        refine P_bipush (pc := 80) dX6_statement_80 (by decide) ?_
        refine P_icmp_ne (tgt := 92) (pc := 82) dX6_statement_82 (by decide) (by first | assumption | (unfold InR; omega)) (by first | assumption | (unfold InR; omega)) (fun c_82 => ?_) (fun c_82 => ?_)
        · refine P_iload_n (pc := 92) dX6_statement_92 rfl 1 rfl ?_
          refine P_bipush (pc := 93) dX6_statement_93 (by decide) ?_
          refine P_icmp_ne (tgt := 105) (pc := 95) dX6_statement_95 (by decide) (by first | assumption | (unfold InR; omega)) (by first | assumption | (unfold InR; omega)) (fun c_95 => ?_) (fun c_95 => ?_)
          · refine P_aload_n (pc := 105) dX6_statement_105 rfl 2 rfl ?_
            refine P_callVi (Y' := mX6_readsTakes) (as := []) (pc := 106) dX6_statement_106 rfl (by decide : 2 < 4) sM_0 rfl ml_RX6_170 im_X6_readsTakes se_X6_readsTakes mk_X6_readsTakes (Nat.le_of_ble_eq_true rfl) (c_X6_readsTakes hT (by omega)) (fun z_ μ_ hq => ?_)
            obtain ⟨rfl, hμ_⟩ := hq
            subst hμ_
            have hin := rdK_in (a := a + 1) hT (by omega)
            try simp only [at_15, at_16, at_11, at_12, at_14, at_30, at_37, at_40, at_r1, at_r2, at_r3, at_r4, at_r5, at_r6, at_r7, at_r8, at_r9, at_r10, at_r11, at_r12, at_r13, at_r14, at_r15, at_r16, at_r17, at_r18, at_r19, at_r20, at_r21, at_r22, at_r23, at_r24, at_r25, at_r26, at_r27, at_r28, at_r29, at_r30, at_p15, at_p16, at_comes, at_happ, at_put (show (5 : Nat) ≠ 0 ∨ _ from Or.inl (by decide))]
            exact P_zret (pc := 109) dX6_statement_109 rfl (by omega) (QI.mk (by first | (exfalso; omega) | skip; unfold stR; first | (rw [if_pos (by omega)]; exact ⟨rfl, _, rfl⟩) | (rw [if_neg (by omega)]; first | (rw [if_pos (by omega)]; exact ⟨rfl, _, rfl⟩) | (rw [if_neg (by omega)]; first | (rw [if_pos (by omega)]; exact ⟨rfl, _, rfl⟩) | (rw [if_neg (by omega)]; exact ⟨rfl, _, rfl⟩)))))
          · refine P_aload_n (pc := 98) dX6_statement_98 rfl 2 rfl ?_
            refine P_callVi (Y' := mX6_readsEvent) (as := []) (pc := 99) dX6_statement_99 rfl (by decide : 3 < 4) sM_0 rfl ml_RX6_167 im_X6_readsEvent se_X6_readsEvent mk_X6_readsEvent (Nat.le_of_ble_eq_true rfl) (c_X6_readsEvent hT (by omega) h11 (by omega)) (fun z_ μ_ hq => ?_)
            obtain ⟨rfl, g', hμ_⟩ := hq
            subst hμ_
            have hin := (rdE_in (n := μ.1 0 11) hT (a := a + 1) (by omega)).1
            try simp only [at_15, at_16, at_11, at_12, at_14, at_30, at_37, at_40, at_r1, at_r2, at_r3, at_r4, at_r5, at_r6, at_r7, at_r8, at_r9, at_r10, at_r11, at_r12, at_r13, at_r14, at_r15, at_r16, at_r17, at_r18, at_r19, at_r20, at_r21, at_r22, at_r23, at_r24, at_r25, at_r26, at_r27, at_r28, at_r29, at_r30, at_p15, at_p16, at_comes, at_happ, at_put (show (5 : Nat) ≠ 0 ∨ _ from Or.inl (by decide))]
            refine P_goto (tgt := 109) (pc := 102) dX6_statement_102 (by decide) ?_
            exact P_zret (pc := 109) dX6_statement_109 rfl (by omega) (QI.mk (by first | (exfalso; omega) | skip; unfold stR; first | (rw [if_pos (by omega)]; exact ⟨rfl, _, rfl⟩) | (rw [if_neg (by omega)]; first | (rw [if_pos (by omega)]; exact ⟨rfl, _, rfl⟩) | (rw [if_neg (by omega)]; first | (rw [if_pos (by omega)]; exact ⟨rfl, _, rfl⟩) | (rw [if_neg (by omega)]; exact ⟨rfl, _, rfl⟩)))))
        · refine P_aload_n (pc := 85) dX6_statement_85 rfl 2 rfl ?_
          refine P_callVi (Y' := mX6_readsThing) (as := []) (pc := 86) dX6_statement_86 rfl (by decide : 2 < 4) sM_0 rfl ml_RX6_164 im_X6_readsThing se_X6_readsThing mk_X6_readsThing (Nat.le_of_ble_eq_true rfl) (c_X6_readsThing hT (by omega) (by omega) hk2) (fun z_ μ_ hq => ?_)
          obtain ⟨rfl, hμ_⟩ := hq
          subst hμ_
          have hin := rdT_in (d := mjD μ.1) (a := a + 1) hT (by omega)
          try simp only [at_15, at_16, at_11, at_12, at_14, at_30, at_37, at_40, at_r1, at_r2, at_r3, at_r4, at_r5, at_r6, at_r7, at_r8, at_r9, at_r10, at_r11, at_r12, at_r13, at_r14, at_r15, at_r16, at_r17, at_r18, at_r19, at_r20, at_r21, at_r22, at_r23, at_r24, at_r25, at_r26, at_r27, at_r28, at_r29, at_r30, at_p15, at_p16, at_comes, at_happ, at_put (show (5 : Nat) ≠ 0 ∨ _ from Or.inl (by decide))]
          refine P_goto (tgt := 109) (pc := 89) dX6_statement_89 (by decide) ?_
          exact P_zret (pc := 109) dX6_statement_109 rfl (by omega) (QI.mk (by first | (exfalso; omega) | skip; unfold stR; first | (rw [if_pos (by omega)]; exact ⟨rfl, _, rfl⟩) | (rw [if_neg (by omega)]; first | (rw [if_pos (by omega)]; exact ⟨rfl, _, rfl⟩) | (rw [if_neg (by omega)]; first | (rw [if_pos (by omega)]; exact ⟨rfl, _, rfl⟩) | (rw [if_neg (by omega)]; exact ⟨rfl, _, rfl⟩)))))
      · refine P_iconst (pc := 67) dX6_statement_67 ?_
        exact P_zret (pc := 68) dX6_statement_68 rfl (by omega) (QI.mk (by first | (exfalso; omega) | skip; unfold stR; first | (rw [if_pos (by omega)]; exact ⟨rfl, _, rfl⟩) | (rw [if_neg (by omega)]; first | (rw [if_pos (by omega)]; exact ⟨rfl, _, rfl⟩) | (rw [if_neg (by omega)]; first | (rw [if_pos (by omega)]; exact ⟨rfl, _, rfl⟩) | (rw [if_neg (by omega)]; exact ⟨rfl, _, rfl⟩)))))
    · refine P_iconst (pc := 20) dX6_statement_20 ?_
      refine P_goto (tgt := 62) (pc := 21) dX6_statement_21 (by decide) ?_
      refine P_istore_n (L' := [(2, vi _), (1, vi _), (0, vr 0)]) (pc := 62) dX6_statement_62 rfl (by decide) rfl ?_
      refine P_iload_n (pc := 63) dX6_statement_63 rfl 0 rfl ?_
      refine P_if_ne (tgt := 69) (pc := 64) dX6_statement_64 (by decide) (by first | assumption | (unfold InR; omega)) (fun c_64 => ?_) (fun c_64 => ?_)
      · refine P_aload_n (pc := 69) dX6_statement_69 rfl 2 rfl ?_
        refine P_dup (pc := 70) dX6_statement_70 rfl ?_
        refine P_getI (jj := 15) (pc := 71) dX6_statement_71 fa_RX6_144 sM_0 fM0_15 rfl ?_
        try simp only [at_15, at_16, at_11, at_12, at_14, at_30, at_37, at_40, at_r1, at_r2, at_r3, at_r4, at_r5, at_r6, at_r7, at_r8, at_r9, at_r10, at_r11, at_r12, at_r13, at_r14, at_r15, at_r16, at_r17, at_r18, at_r19, at_r20, at_r21, at_r22, at_r23, at_r24, at_r25, at_r26, at_r27, at_r28, at_r29, at_r30, at_p15, at_p16, at_comes, at_happ, at_put (show (5 : Nat) ≠ 0 ∨ _ from Or.inl (by decide))]
        refine P_iconst (pc := 74) dX6_statement_74 ?_
        refine P_iadd (pc := 75) dX6_statement_75 ?_
        refine P_putI (jj := 15) (pc := 76) dX6_statement_76 fa_RX6_144 fp_6_15 sM_0 fM0_15 rfl ?_
        try simp only [at_15, at_16, at_11, at_12, at_14, at_30, at_37, at_40, at_r1, at_r2, at_r3, at_r4, at_r5, at_r6, at_r7, at_r8, at_r9, at_r10, at_r11, at_r12, at_r13, at_r14, at_r15, at_r16, at_r17, at_r18, at_r19, at_r20, at_r21, at_r22, at_r23, at_r24, at_r25, at_r26, at_r27, at_r28, at_r29, at_r30, at_p15, at_p16, at_comes, at_happ, at_put (show (5 : Nat) ≠ 0 ∨ _ from Or.inl (by decide))]
        refine P_iload_n (pc := 79) dX6_statement_79 rfl 1 rfl ?_
        refine P_bipush (pc := 80) dX6_statement_80 (by decide) ?_
        refine P_icmp_ne (tgt := 92) (pc := 82) dX6_statement_82 (by decide) (by first | assumption | (unfold InR; omega)) (by first | assumption | (unfold InR; omega)) (fun c_82 => ?_) (fun c_82 => ?_)
        · refine P_iload_n (pc := 92) dX6_statement_92 rfl 1 rfl ?_
          refine P_bipush (pc := 93) dX6_statement_93 (by decide) ?_
          refine P_icmp_ne (tgt := 105) (pc := 95) dX6_statement_95 (by decide) (by first | assumption | (unfold InR; omega)) (by first | assumption | (unfold InR; omega)) (fun c_95 => ?_) (fun c_95 => ?_)
          · refine P_aload_n (pc := 105) dX6_statement_105 rfl 2 rfl ?_
            refine P_callVi (Y' := mX6_readsTakes) (as := []) (pc := 106) dX6_statement_106 rfl (by decide : 2 < 4) sM_0 rfl ml_RX6_170 im_X6_readsTakes se_X6_readsTakes mk_X6_readsTakes (Nat.le_of_ble_eq_true rfl) (c_X6_readsTakes hT (by omega)) (fun z_ μ_ hq => ?_)
            obtain ⟨rfl, hμ_⟩ := hq
            subst hμ_
            have hin := rdK_in (a := a + 1) hT (by omega)
            try simp only [at_15, at_16, at_11, at_12, at_14, at_30, at_37, at_40, at_r1, at_r2, at_r3, at_r4, at_r5, at_r6, at_r7, at_r8, at_r9, at_r10, at_r11, at_r12, at_r13, at_r14, at_r15, at_r16, at_r17, at_r18, at_r19, at_r20, at_r21, at_r22, at_r23, at_r24, at_r25, at_r26, at_r27, at_r28, at_r29, at_r30, at_p15, at_p16, at_comes, at_happ, at_put (show (5 : Nat) ≠ 0 ∨ _ from Or.inl (by decide))]
            exact P_zret (pc := 109) dX6_statement_109 rfl (by omega) (QI.mk (by first | (exfalso; omega) | skip; unfold stR; first | (rw [if_pos (by omega)]; exact ⟨rfl, _, rfl⟩) | (rw [if_neg (by omega)]; first | (rw [if_pos (by omega)]; exact ⟨rfl, _, rfl⟩) | (rw [if_neg (by omega)]; first | (rw [if_pos (by omega)]; exact ⟨rfl, _, rfl⟩) | (rw [if_neg (by omega)]; exact ⟨rfl, _, rfl⟩)))))
          · refine P_aload_n (pc := 98) dX6_statement_98 rfl 2 rfl ?_
            refine P_callVi (Y' := mX6_readsEvent) (as := []) (pc := 99) dX6_statement_99 rfl (by decide : 3 < 4) sM_0 rfl ml_RX6_167 im_X6_readsEvent se_X6_readsEvent mk_X6_readsEvent (Nat.le_of_ble_eq_true rfl) (c_X6_readsEvent hT (by omega) h11 (by omega)) (fun z_ μ_ hq => ?_)
            obtain ⟨rfl, g', hμ_⟩ := hq
            subst hμ_
            have hin := (rdE_in (n := μ.1 0 11) hT (a := a + 1) (by omega)).1
            try simp only [at_15, at_16, at_11, at_12, at_14, at_30, at_37, at_40, at_r1, at_r2, at_r3, at_r4, at_r5, at_r6, at_r7, at_r8, at_r9, at_r10, at_r11, at_r12, at_r13, at_r14, at_r15, at_r16, at_r17, at_r18, at_r19, at_r20, at_r21, at_r22, at_r23, at_r24, at_r25, at_r26, at_r27, at_r28, at_r29, at_r30, at_p15, at_p16, at_comes, at_happ, at_put (show (5 : Nat) ≠ 0 ∨ _ from Or.inl (by decide))]
            refine P_goto (tgt := 109) (pc := 102) dX6_statement_102 (by decide) ?_
            exact P_zret (pc := 109) dX6_statement_109 rfl (by omega) (QI.mk (by first | (exfalso; omega) | skip; unfold stR; first | (rw [if_pos (by omega)]; exact ⟨rfl, _, rfl⟩) | (rw [if_neg (by omega)]; first | (rw [if_pos (by omega)]; exact ⟨rfl, _, rfl⟩) | (rw [if_neg (by omega)]; first | (rw [if_pos (by omega)]; exact ⟨rfl, _, rfl⟩) | (rw [if_neg (by omega)]; exact ⟨rfl, _, rfl⟩)))))
        · refine P_aload_n (pc := 85) dX6_statement_85 rfl 2 rfl ?_
          refine P_callVi (Y' := mX6_readsThing) (as := []) (pc := 86) dX6_statement_86 rfl (by decide : 2 < 4) sM_0 rfl ml_RX6_164 im_X6_readsThing se_X6_readsThing mk_X6_readsThing (Nat.le_of_ble_eq_true rfl) (c_X6_readsThing hT (by omega) (by omega) hk2) (fun z_ μ_ hq => ?_)
          obtain ⟨rfl, hμ_⟩ := hq
          subst hμ_
          have hin := rdT_in (d := mjD μ.1) (a := a + 1) hT (by omega)
          try simp only [at_15, at_16, at_11, at_12, at_14, at_30, at_37, at_40, at_r1, at_r2, at_r3, at_r4, at_r5, at_r6, at_r7, at_r8, at_r9, at_r10, at_r11, at_r12, at_r13, at_r14, at_r15, at_r16, at_r17, at_r18, at_r19, at_r20, at_r21, at_r22, at_r23, at_r24, at_r25, at_r26, at_r27, at_r28, at_r29, at_r30, at_p15, at_p16, at_comes, at_happ, at_put (show (5 : Nat) ≠ 0 ∨ _ from Or.inl (by decide))]
          refine P_goto (tgt := 109) (pc := 89) dX6_statement_89 (by decide) ?_
          exact P_zret (pc := 109) dX6_statement_109 rfl (by omega) (QI.mk (by first | (exfalso; omega) | skip; unfold stR; first | (rw [if_pos (by omega)]; exact ⟨rfl, _, rfl⟩) | (rw [if_neg (by omega)]; first | (rw [if_pos (by omega)]; exact ⟨rfl, _, rfl⟩) | (rw [if_neg (by omega)]; first | (rw [if_pos (by omega)]; exact ⟨rfl, _, rfl⟩) | (rw [if_neg (by omega)]; exact ⟨rfl, _, rfl⟩)))))
      · refine P_iconst (pc := 67) dX6_statement_67 ?_
        exact P_zret (pc := 68) dX6_statement_68 rfl (by omega) (QI.mk (by first | (exfalso; omega) | skip; unfold stR; first | (rw [if_pos (by omega)]; exact ⟨rfl, _, rfl⟩) | (rw [if_neg (by omega)]; first | (rw [if_pos (by omega)]; exact ⟨rfl, _, rfl⟩) | (rw [if_neg (by omega)]; first | (rw [if_pos (by omega)]; exact ⟨rfl, _, rfl⟩) | (rw [if_neg (by omega)]; exact ⟨rfl, _, rfl⟩)))))
