/-- a number as the class reads it -/
def rnC (T : Int → Int) (L lo hi bar a : Int) : Int × Int := if (nmR T L lo hi a).1 < 0 ∨ (nmR T L lo hi a).1 = bar then (-2, a) else nmR T L lo hi a
set_option maxHeartbeats 1000000 in
set_option maxRecDepth 100000 in
theorem c_X1_readNumber {μ : Mem} {a : Int} {lo hi bar : Int} (hT : TL (μ.1 37) (μ.1 8 2)) (ha : 0 ≤ a ∧ a ≤ μ.1 8 2) (hl : 0 ≤ lo ∧ lo ≤ 1 ∧ -1 ≤ hi ∧ hi ≤ 47) (hbar : -1 ≤ bar ∧ bar ≤ 47) : PC shC 2 mX1_readNumber [vr 8, vi lo, vi hi, vi bar] (plM μ a) (QI (fun z μ' => z = (rnC (μ.1 37) (μ.1 8 2) lo hi bar a).1 ∧ μ' = plM μ (rnC (μ.1 37) (μ.1 8 2) lo hi bar a).2 ∧ (((nmR (μ.1 37) (μ.1 8 2) lo hi a).1 = -1 ∧ (nmR (μ.1 37) (μ.1 8 2) lo hi a).2 = a) ∨ (lo ≤ (nmR (μ.1 37) (μ.1 8 2) lo hi a).1 ∧ (nmR (μ.1 37) (μ.1 8 2) lo hi a).1 ≤ hi ∧ a < (nmR (μ.1 37) (μ.1 8 2) lo hi a).2 ∧ (nmR (μ.1 37) (μ.1 8 2) lo hi a).2 ≤ μ.1 8 2)))) := by
  refine PC.of (by decide +kernel) (Nat.le_of_ble_eq_true rfl) ?_
  refine P_sub (L' := [(0, vr 8), (1, vi lo), (2, vi hi), (3, vi bar)]) [0, 1, 2, 3] rfl ?_
  have hT2 := hT.2
  have hs := nmR_in (a := a) (lo := lo) (hi := hi) hT hl.1
  have hs3 := nuR_in (a := a) hT
  have hs2 : nmR (μ.1 37) (μ.1 8 2) lo hi a = if lo ≤ (nuR (μ.1 37) (μ.1 8 2) a).1 ∧ (nuR (μ.1 37) (μ.1 8 2) a).1 ≤ hi then nuR (μ.1 37) (μ.1 8 2) a else (-1, a) := rfl
  have hs4 : nuR (μ.1 37) (μ.1 8 2) a = if 0 < (dgR (μ.1 37) (μ.1 8 2) 9 a).1 ∧ 48 ≤ sgn (μ.1 37) (μ.1 8 2) (dgR (μ.1 37) (μ.1 8 2) 9 a).2 ∧ sgn (μ.1 37) (μ.1 8 2) (dgR (μ.1 37) (μ.1 8 2) 9 a).2 ≤ 57 then (10 * (dgR (μ.1 37) (μ.1 8 2) 9 a).1 + (dgR (μ.1 37) (μ.1 8 2) 9 (dgR (μ.1 37) (μ.1 8 2) 9 a).2).1, (dgR (μ.1 37) (μ.1 8 2) 9 (dgR (μ.1 37) (μ.1 8 2) 9 a).2).2) else (dgR (μ.1 37) (μ.1 8 2) 9 a) := rfl
  have hs5 : rnC (μ.1 37) (μ.1 8 2) lo hi bar a = if (nmR (μ.1 37) (μ.1 8 2) lo hi a).1 < 0 ∨ (nmR (μ.1 37) (μ.1 8 2) lo hi a).1 = bar then (-2, a) else nmR (μ.1 37) (μ.1 8 2) lo hi a := rfl
  have hs7 := dgR_in (g := 9) (a := a) hT
  refine P_aload_n (pc := 0) dX1_readNumber_0 rfl 0 rfl ?_
  refine P_getI (jj := 3) (pc := 1) dX1_readNumber_1 fa_RX1_23 sC_8 fC8_3 rfl ?_
  try simp (disch := decide) only [pl_3, pl_2, pl_q, pl_put]
  refine P_istore (L' := [(4, vi _), (0, vr 8), (1, vi _), (2, vi _), (3, vi _)]) (pc := 4) dX1_readNumber_4 (by decide) rfl ?_
  refine P_aload_n (pc := 6) dX1_readNumber_6 rfl 1 rfl ?_
  refine P_callVi (Y' := mX1_digit) (as := []) (pc := 7) dX1_readNumber_7 rfl (by decide : 1 < 2) sC_8 rfl ml_RX1_48 im_X1_digit se_X1_digit mk_X1_digit (Nat.le_of_ble_eq_true rfl) (c_X1_digit hT (by omega)) (fun z_ μ_ hq => ?_)
  obtain ⟨hz, hμ_, hi_⟩ := hq
  subst hμ_
  subst hz
  try simp (disch := decide) only [pl_3, pl_2, pl_q, pl_put]
  refine P_istore (L' := [(5, vi _), (4, vi _), (0, vr 8), (1, vi _), (2, vi _), (3, vi _)]) (pc := 10) dX1_readNumber_10 (by decide) rfl ?_
  refine P_iload (pc := 12) dX1_readNumber_12 0 rfl ?_
  refine P_if_ge (tgt := 20) (pc := 14) dX1_readNumber_14 (by decide) (by first | assumption | (unfold InR; omega)) (fun c_14 => ?_) (fun c_14 => ?_)
  · refine P_aload_n (pc := 20) dX1_readNumber_20 rfl 2 rfl ?_
    refine P_dup (pc := 21) dX1_readNumber_21 rfl ?_
    refine P_getI (jj := 3) (pc := 22) dX1_readNumber_22 fa_RX1_23 sC_8 fC8_3 rfl ?_
    try simp (disch := decide) only [pl_3, pl_2, pl_q, pl_put]
    refine P_iconst (pc := 25) dX1_readNumber_25 ?_
    refine P_iadd (pc := 26) dX1_readNumber_26 ?_
    refine P_putI (jj := 3) (pc := 27) dX1_readNumber_27 fa_RX1_23 fp_1_3 sC_8 fC8_3 rfl ?_
    try simp (disch := decide) only [pl_3, pl_2, pl_q, pl_put]
    refine P_aload_n (pc := 30) dX1_readNumber_30 rfl 2 rfl ?_
    refine P_callVi (Y' := mX1_digit) (as := []) (pc := 31) dX1_readNumber_31 rfl (by decide : 1 < 2) sC_8 rfl ml_RX1_48 im_X1_digit se_X1_digit mk_X1_digit (Nat.le_of_ble_eq_true rfl) (c_X1_digit hT (by omega)) (fun z_ μ_ hq => ?_)
    obtain ⟨hz, hμ_, hi2_⟩ := hq
    subst hμ_
    subst hz
    have hd2 : (dgR (μ.1 37) (μ.1 8 2) 9 a).2 = a + 1 := by omega
    rw [hd2] at hs4
    have hs6 : (48 ≤ sgn (μ.1 37) (μ.1 8 2) (a + 1) ∧ sgn (μ.1 37) (μ.1 8 2) (a + 1) ≤ 57 ∧ (dgR (μ.1 37) (μ.1 8 2) 9 (a + 1)).1 = sgn (μ.1 37) (μ.1 8 2) (a + 1) - 48) ∨ (¬ (48 ≤ sgn (μ.1 37) (μ.1 8 2) (a + 1) ∧ sgn (μ.1 37) (μ.1 8 2) (a + 1) ≤ 57) ∧ (dgR (μ.1 37) (μ.1 8 2) 9 (a + 1)).1 = -1) := by rw [dgR_9 hT]; split <;> omega
    try simp (disch := decide) only [pl_3, pl_2, pl_q, pl_put]
    refine P_istore (L' := [(6, vi _), (5, vi _), (4, vi _), (0, vr 8), (1, vi _), (2, vi _), (3, vi _)]) (pc := 34) dX1_readNumber_34 (by decide) rfl ?_
    refine P_iload (pc := 36) dX1_readNumber_36 1 rfl ?_
    refine P_if_le (tgt := 66) (pc := 38) dX1_readNumber_38 (by decide) (by first | assumption | (unfold InR; omega)) (fun c_38 => ?_) (fun c_38 => ?_)
    · refine P_iload (pc := 66) dX1_readNumber_66 1 rfl ?_
      refine P_iload_n (pc := 68) dX1_readNumber_68 rfl 4 rfl ?_
      refine P_icmp_lt (tgt := 84) (pc := 69) dX1_readNumber_69 (by decide) (by first | assumption | (unfold InR; omega)) (by first | assumption | (unfold InR; omega)) (fun c_69 => ?_) (fun c_69 => ?_)
      · refine P_aload_n (pc := 84) dX1_readNumber_84 rfl 3 rfl ?_
        refine P_iload (pc := 85) dX1_readNumber_85 2 rfl ?_
        refine P_putI (jj := 3) (pc := 87) dX1_readNumber_87 fa_RX1_23 fp_1_3 sC_8 fC8_3 rfl ?_
        try simp (disch := decide) only [pl_3, pl_2, pl_q, pl_put]
        refine P_bipush (pc := 90) dX1_readNumber_90 (by decide) ?_
        exact P_iret (pc := 92) dX1_readNumber_92 rfl (QI.mk (by first | (exfalso; omega) | skip; (first | rw [if_pos (by omega)] at hs4 | rw [if_neg (by omega)] at hs4); have f1 := congrArg Prod.fst hs4; have f2 := congrArg Prod.snd hs4; (try dsimp only at f1 f2); (first | rw [if_pos (by omega)] at hs2 | rw [if_neg (by omega)] at hs2); have k1 := congrArg Prod.fst hs2; have k2 := congrArg Prod.snd hs2; (try dsimp only at k1 k2); (first | rw [if_pos (by omega)] at hs5 | rw [if_neg (by omega)] at hs5); refine ⟨by rw [hs5]; (try dsimp only); (try omega), ?_, hs⟩; first | (rw [hs5]; done) | (rw [hs5]; exact congrArg (plM μ) (by (try dsimp only); (try omega)))))
      · refine P_iload (pc := 72) dX1_readNumber_72 1 rfl ?_
        refine P_iload_n (pc := 74) dX1_readNumber_74 rfl 5 rfl ?_
        refine P_icmp_gt (tgt := 84) (pc := 75) dX1_readNumber_75 (by decide) (by first | assumption | (unfold InR; omega)) (by first | assumption | (unfold InR; omega)) (fun c_75 => ?_) (fun c_75 => ?_)
        · refine P_aload_n (pc := 84) dX1_readNumber_84 rfl 3 rfl ?_
          refine P_iload (pc := 85) dX1_readNumber_85 2 rfl ?_
          refine P_putI (jj := 3) (pc := 87) dX1_readNumber_87 fa_RX1_23 fp_1_3 sC_8 fC8_3 rfl ?_
          try simp (disch := decide) only [pl_3, pl_2, pl_q, pl_put]
          refine P_bipush (pc := 90) dX1_readNumber_90 (by decide) ?_
          exact P_iret (pc := 92) dX1_readNumber_92 rfl (QI.mk (by first | (exfalso; omega) | skip; (first | rw [if_pos (by omega)] at hs4 | rw [if_neg (by omega)] at hs4); have f1 := congrArg Prod.fst hs4; have f2 := congrArg Prod.snd hs4; (try dsimp only at f1 f2); (first | rw [if_pos (by omega)] at hs2 | rw [if_neg (by omega)] at hs2); have k1 := congrArg Prod.fst hs2; have k2 := congrArg Prod.snd hs2; (try dsimp only at k1 k2); (first | rw [if_pos (by omega)] at hs5 | rw [if_neg (by omega)] at hs5); refine ⟨by rw [hs5]; (try dsimp only); (try omega), ?_, hs⟩; first | (rw [hs5]; done) | (rw [hs5]; exact congrArg (plM μ) (by (try dsimp only); (try omega)))))
        · refine P_iload (pc := 78) dX1_readNumber_78 1 rfl ?_
          refine P_iload_n (pc := 80) dX1_readNumber_80 rfl 6 rfl ?_
          refine P_icmp_ne (tgt := 93) (pc := 81) dX1_readNumber_81 (by decide) (by first | assumption | (unfold InR; omega)) (by first | assumption | (unfold InR; omega)) (fun c_81 => ?_) (fun c_81 => ?_)
          · refine P_iload (pc := 93) dX1_readNumber_93 1 rfl ?_
            exact P_iret (pc := 95) dX1_readNumber_95 rfl (QI.mk (by first | (exfalso; omega) | skip; (first | rw [if_pos (by omega)] at hs4 | rw [if_neg (by omega)] at hs4); have f1 := congrArg Prod.fst hs4; have f2 := congrArg Prod.snd hs4; (try dsimp only at f1 f2); (first | rw [if_pos (by omega)] at hs2 | rw [if_neg (by omega)] at hs2); have k1 := congrArg Prod.fst hs2; have k2 := congrArg Prod.snd hs2; (try dsimp only at k1 k2); (first | rw [if_pos (by omega)] at hs5 | rw [if_neg (by omega)] at hs5); refine ⟨by rw [hs5]; (try dsimp only); (try omega), ?_, hs⟩; first | (rw [hs5]; done) | (rw [hs5]; exact congrArg (plM μ) (by (try dsimp only); (try omega)))))
          · refine P_aload_n (pc := 84) dX1_readNumber_84 rfl 3 rfl ?_
            refine P_iload (pc := 85) dX1_readNumber_85 2 rfl ?_
            refine P_putI (jj := 3) (pc := 87) dX1_readNumber_87 fa_RX1_23 fp_1_3 sC_8 fC8_3 rfl ?_
            try simp (disch := decide) only [pl_3, pl_2, pl_q, pl_put]
            refine P_bipush (pc := 90) dX1_readNumber_90 (by decide) ?_
            exact P_iret (pc := 92) dX1_readNumber_92 rfl (QI.mk (by first | (exfalso; omega) | skip; (first | rw [if_pos (by omega)] at hs4 | rw [if_neg (by omega)] at hs4); have f1 := congrArg Prod.fst hs4; have f2 := congrArg Prod.snd hs4; (try dsimp only at f1 f2); (first | rw [if_pos (by omega)] at hs2 | rw [if_neg (by omega)] at hs2); have k1 := congrArg Prod.fst hs2; have k2 := congrArg Prod.snd hs2; (try dsimp only at k1 k2); (first | rw [if_pos (by omega)] at hs5 | rw [if_neg (by omega)] at hs5); refine ⟨by rw [hs5]; (try dsimp only); (try omega), ?_, hs⟩; first | (rw [hs5]; done) | (rw [hs5]; exact congrArg (plM μ) (by (try dsimp only); (try omega)))))
    · refine P_iload (pc := 41) dX1_readNumber_41 0 rfl ?_
      refine P_if_lt (tgt := 66) (pc := 43) dX1_readNumber_43 (by decide) (by first | assumption | (unfold InR; omega)) (fun c_43 => ?_) (fun c_43 => ?_)
      · refine P_iload (pc := 66) dX1_readNumber_66 1 rfl ?_
        refine P_iload_n (pc := 68) dX1_readNumber_68 rfl 4 rfl ?_
        refine P_icmp_lt (tgt := 84) (pc := 69) dX1_readNumber_69 (by decide) (by first | assumption | (unfold InR; omega)) (by first | assumption | (unfold InR; omega)) (fun c_69 => ?_) (fun c_69 => ?_)
        · refine P_aload_n (pc := 84) dX1_readNumber_84 rfl 3 rfl ?_
          refine P_iload (pc := 85) dX1_readNumber_85 2 rfl ?_
          refine P_putI (jj := 3) (pc := 87) dX1_readNumber_87 fa_RX1_23 fp_1_3 sC_8 fC8_3 rfl ?_
          try simp (disch := decide) only [pl_3, pl_2, pl_q, pl_put]
          refine P_bipush (pc := 90) dX1_readNumber_90 (by decide) ?_
          exact P_iret (pc := 92) dX1_readNumber_92 rfl (QI.mk (by first | (exfalso; omega) | skip; (first | rw [if_pos (by omega)] at hs4 | rw [if_neg (by omega)] at hs4); have f1 := congrArg Prod.fst hs4; have f2 := congrArg Prod.snd hs4; (try dsimp only at f1 f2); (first | rw [if_pos (by omega)] at hs2 | rw [if_neg (by omega)] at hs2); have k1 := congrArg Prod.fst hs2; have k2 := congrArg Prod.snd hs2; (try dsimp only at k1 k2); (first | rw [if_pos (by omega)] at hs5 | rw [if_neg (by omega)] at hs5); refine ⟨by rw [hs5]; (try dsimp only); (try omega), ?_, hs⟩; first | (rw [hs5]; done) | (rw [hs5]; exact congrArg (plM μ) (by (try dsimp only); (try omega)))))
        · refine P_iload (pc := 72) dX1_readNumber_72 1 rfl ?_
          refine P_iload_n (pc := 74) dX1_readNumber_74 rfl 5 rfl ?_
          refine P_icmp_gt (tgt := 84) (pc := 75) dX1_readNumber_75 (by decide) (by first | assumption | (unfold InR; omega)) (by first | assumption | (unfold InR; omega)) (fun c_75 => ?_) (fun c_75 => ?_)
          · refine P_aload_n (pc := 84) dX1_readNumber_84 rfl 3 rfl ?_
            refine P_iload (pc := 85) dX1_readNumber_85 2 rfl ?_
            refine P_putI (jj := 3) (pc := 87) dX1_readNumber_87 fa_RX1_23 fp_1_3 sC_8 fC8_3 rfl ?_
            try simp (disch := decide) only [pl_3, pl_2, pl_q, pl_put]
            refine P_bipush (pc := 90) dX1_readNumber_90 (by decide) ?_
            exact P_iret (pc := 92) dX1_readNumber_92 rfl (QI.mk (by first | (exfalso; omega) | skip; (first | rw [if_pos (by omega)] at hs4 | rw [if_neg (by omega)] at hs4); have f1 := congrArg Prod.fst hs4; have f2 := congrArg Prod.snd hs4; (try dsimp only at f1 f2); (first | rw [if_pos (by omega)] at hs2 | rw [if_neg (by omega)] at hs2); have k1 := congrArg Prod.fst hs2; have k2 := congrArg Prod.snd hs2; (try dsimp only at k1 k2); (first | rw [if_pos (by omega)] at hs5 | rw [if_neg (by omega)] at hs5); refine ⟨by rw [hs5]; (try dsimp only); (try omega), ?_, hs⟩; first | (rw [hs5]; done) | (rw [hs5]; exact congrArg (plM μ) (by (try dsimp only); (try omega)))))
          · refine P_iload (pc := 78) dX1_readNumber_78 1 rfl ?_
            refine P_iload_n (pc := 80) dX1_readNumber_80 rfl 6 rfl ?_
            refine P_icmp_ne (tgt := 93) (pc := 81) dX1_readNumber_81 (by decide) (by first | assumption | (unfold InR; omega)) (by first | assumption | (unfold InR; omega)) (fun c_81 => ?_) (fun c_81 => ?_)
            · refine P_iload (pc := 93) dX1_readNumber_93 1 rfl ?_
              exact P_iret (pc := 95) dX1_readNumber_95 rfl (QI.mk (by first | (exfalso; omega) | skip; (first | rw [if_pos (by omega)] at hs4 | rw [if_neg (by omega)] at hs4); have f1 := congrArg Prod.fst hs4; have f2 := congrArg Prod.snd hs4; (try dsimp only at f1 f2); (first | rw [if_pos (by omega)] at hs2 | rw [if_neg (by omega)] at hs2); have k1 := congrArg Prod.fst hs2; have k2 := congrArg Prod.snd hs2; (try dsimp only at k1 k2); (first | rw [if_pos (by omega)] at hs5 | rw [if_neg (by omega)] at hs5); refine ⟨by rw [hs5]; (try dsimp only); (try omega), ?_, hs⟩; first | (rw [hs5]; done) | (rw [hs5]; exact congrArg (plM μ) (by (try dsimp only); (try omega)))))
            · refine P_aload_n (pc := 84) dX1_readNumber_84 rfl 3 rfl ?_
              refine P_iload (pc := 85) dX1_readNumber_85 2 rfl ?_
              refine P_putI (jj := 3) (pc := 87) dX1_readNumber_87 fa_RX1_23 fp_1_3 sC_8 fC8_3 rfl ?_
              try simp (disch := decide) only [pl_3, pl_2, pl_q, pl_put]
              refine P_bipush (pc := 90) dX1_readNumber_90 (by decide) ?_
              exact P_iret (pc := 92) dX1_readNumber_92 rfl (QI.mk (by first | (exfalso; omega) | skip; (first | rw [if_pos (by omega)] at hs4 | rw [if_neg (by omega)] at hs4); have f1 := congrArg Prod.fst hs4; have f2 := congrArg Prod.snd hs4; (try dsimp only at f1 f2); (first | rw [if_pos (by omega)] at hs2 | rw [if_neg (by omega)] at hs2); have k1 := congrArg Prod.fst hs2; have k2 := congrArg Prod.snd hs2; (try dsimp only at k1 k2); (first | rw [if_pos (by omega)] at hs5 | rw [if_neg (by omega)] at hs5); refine ⟨by rw [hs5]; (try dsimp only); (try omega), ?_, hs⟩; first | (rw [hs5]; done) | (rw [hs5]; exact congrArg (plM μ) (by (try dsimp only); (try omega)))))
      · refine P_iload (pc := 46) dX1_readNumber_46 1 rfl ?_
        refine P_bipush (pc := 48) dX1_readNumber_48 (by decide) ?_
        refine P_imul (pc := 50) dX1_readNumber_50 ?_
        refine P_iload (pc := 51) dX1_readNumber_51 0 rfl ?_
        refine P_iadd (pc := 53) dX1_readNumber_53 ?_
        refine P_istore (L' := [(5, vi _), (6, vi _), (4, vi _), (0, vr 8), (1, vi _), (2, vi _), (3, vi _)]) (pc := 54) dX1_readNumber_54 (by decide) rfl ?_
        refine P_aload_n (pc := 56) dX1_readNumber_56 rfl 3 rfl ?_
        refine P_dup (pc := 57) dX1_readNumber_57 rfl ?_
        refine P_getI (jj := 3) (pc := 58) dX1_readNumber_58 fa_RX1_23 sC_8 fC8_3 rfl ?_
        try simp (disch := decide) only [pl_3, pl_2, pl_q, pl_put]
        refine P_iconst (pc := 61) dX1_readNumber_61 ?_
        refine P_iadd (pc := 62) dX1_readNumber_62 ?_
        refine P_putI (jj := 3) (pc := 63) dX1_readNumber_63 fa_RX1_23 fp_1_3 sC_8 fC8_3 rfl ?_
        try simp (disch := decide) only [pl_3, pl_2, pl_q, pl_put]
        refine P_iload (pc := 66) dX1_readNumber_66 0 rfl ?_
        refine P_iload_n (pc := 68) dX1_readNumber_68 rfl 4 rfl ?_
        refine P_icmp_lt (tgt := 84) (pc := 69) dX1_readNumber_69 (by decide) (by first | assumption | (unfold InR; omega)) (by first | assumption | (unfold InR; omega)) (fun c_69 => ?_) (fun c_69 => ?_)
        · refine P_aload_n (pc := 84) dX1_readNumber_84 rfl 3 rfl ?_
          refine P_iload (pc := 85) dX1_readNumber_85 2 rfl ?_
          refine P_putI (jj := 3) (pc := 87) dX1_readNumber_87 fa_RX1_23 fp_1_3 sC_8 fC8_3 rfl ?_
          try simp (disch := decide) only [pl_3, pl_2, pl_q, pl_put]
          refine P_bipush (pc := 90) dX1_readNumber_90 (by decide) ?_
          exact P_iret (pc := 92) dX1_readNumber_92 rfl (QI.mk (by first | (exfalso; omega) | skip; (first | rw [if_pos (by omega)] at hs4 | rw [if_neg (by omega)] at hs4); have f1 := congrArg Prod.fst hs4; have f2 := congrArg Prod.snd hs4; (try dsimp only at f1 f2); (first | rw [if_pos (by omega)] at hs2 | rw [if_neg (by omega)] at hs2); have k1 := congrArg Prod.fst hs2; have k2 := congrArg Prod.snd hs2; (try dsimp only at k1 k2); (first | rw [if_pos (by omega)] at hs5 | rw [if_neg (by omega)] at hs5); refine ⟨by rw [hs5]; (try dsimp only); (try omega), ?_, hs⟩; first | (rw [hs5]; done) | (rw [hs5]; exact congrArg (plM μ) (by (try dsimp only); (try omega)))))
        · refine P_iload (pc := 72) dX1_readNumber_72 0 rfl ?_
          refine P_iload_n (pc := 74) dX1_readNumber_74 rfl 5 rfl ?_
          refine P_icmp_gt (tgt := 84) (pc := 75) dX1_readNumber_75 (by decide) (by first | assumption | (unfold InR; omega)) (by first | assumption | (unfold InR; omega)) (fun c_75 => ?_) (fun c_75 => ?_)
          · refine P_aload_n (pc := 84) dX1_readNumber_84 rfl 3 rfl ?_
            refine P_iload (pc := 85) dX1_readNumber_85 2 rfl ?_
            refine P_putI (jj := 3) (pc := 87) dX1_readNumber_87 fa_RX1_23 fp_1_3 sC_8 fC8_3 rfl ?_
            try simp (disch := decide) only [pl_3, pl_2, pl_q, pl_put]
            refine P_bipush (pc := 90) dX1_readNumber_90 (by decide) ?_
            exact P_iret (pc := 92) dX1_readNumber_92 rfl (QI.mk (by first | (exfalso; omega) | skip; (first | rw [if_pos (by omega)] at hs4 | rw [if_neg (by omega)] at hs4); have f1 := congrArg Prod.fst hs4; have f2 := congrArg Prod.snd hs4; (try dsimp only at f1 f2); (first | rw [if_pos (by omega)] at hs2 | rw [if_neg (by omega)] at hs2); have k1 := congrArg Prod.fst hs2; have k2 := congrArg Prod.snd hs2; (try dsimp only at k1 k2); (first | rw [if_pos (by omega)] at hs5 | rw [if_neg (by omega)] at hs5); refine ⟨by rw [hs5]; (try dsimp only); (try omega), ?_, hs⟩; first | (rw [hs5]; done) | (rw [hs5]; exact congrArg (plM μ) (by (try dsimp only); (try omega)))))
          · refine P_iload (pc := 78) dX1_readNumber_78 0 rfl ?_
            refine P_iload_n (pc := 80) dX1_readNumber_80 rfl 6 rfl ?_
            refine P_icmp_ne (tgt := 93) (pc := 81) dX1_readNumber_81 (by decide) (by first | assumption | (unfold InR; omega)) (by first | assumption | (unfold InR; omega)) (fun c_81 => ?_) (fun c_81 => ?_)
            · refine P_iload (pc := 93) dX1_readNumber_93 0 rfl ?_
              exact P_iret (pc := 95) dX1_readNumber_95 rfl (QI.mk (by first | (exfalso; omega) | skip; (first | rw [if_pos (by omega)] at hs4 | rw [if_neg (by omega)] at hs4); have f1 := congrArg Prod.fst hs4; have f2 := congrArg Prod.snd hs4; (try dsimp only at f1 f2); (first | rw [if_pos (by omega)] at hs2 | rw [if_neg (by omega)] at hs2); have k1 := congrArg Prod.fst hs2; have k2 := congrArg Prod.snd hs2; (try dsimp only at k1 k2); (first | rw [if_pos (by omega)] at hs5 | rw [if_neg (by omega)] at hs5); refine ⟨by rw [hs5]; (try dsimp only); (try omega), ?_, hs⟩; first | (rw [hs5]; done) | (rw [hs5]; exact congrArg (plM μ) (by (try dsimp only); (try omega)))))
            · refine P_aload_n (pc := 84) dX1_readNumber_84 rfl 3 rfl ?_
              refine P_iload (pc := 85) dX1_readNumber_85 2 rfl ?_
              refine P_putI (jj := 3) (pc := 87) dX1_readNumber_87 fa_RX1_23 fp_1_3 sC_8 fC8_3 rfl ?_
              try simp (disch := decide) only [pl_3, pl_2, pl_q, pl_put]
              refine P_bipush (pc := 90) dX1_readNumber_90 (by decide) ?_
              exact P_iret (pc := 92) dX1_readNumber_92 rfl (QI.mk (by first | (exfalso; omega) | skip; (first | rw [if_pos (by omega)] at hs4 | rw [if_neg (by omega)] at hs4); have f1 := congrArg Prod.fst hs4; have f2 := congrArg Prod.snd hs4; (try dsimp only at f1 f2); (first | rw [if_pos (by omega)] at hs2 | rw [if_neg (by omega)] at hs2); have k1 := congrArg Prod.fst hs2; have k2 := congrArg Prod.snd hs2; (try dsimp only at k1 k2); (first | rw [if_pos (by omega)] at hs5 | rw [if_neg (by omega)] at hs5); refine ⟨by rw [hs5]; (try dsimp only); (try omega), ?_, hs⟩; first | (rw [hs5]; done) | (rw [hs5]; exact congrArg (plM μ) (by (try dsimp only); (try omega)))))
  · refine P_bipush (pc := 17) dX1_readNumber_17 (by decide) ?_
    exact P_iret (pc := 19) dX1_readNumber_19 rfl (QI.mk (by first | (exfalso; omega) | skip; (first | rw [if_pos (by omega)] at hs4 | rw [if_neg (by omega)] at hs4); have f1 := congrArg Prod.fst hs4; have f2 := congrArg Prod.snd hs4; (try dsimp only at f1 f2); (first | rw [if_pos (by omega)] at hs2 | rw [if_neg (by omega)] at hs2); have k1 := congrArg Prod.fst hs2; have k2 := congrArg Prod.snd hs2; (try dsimp only at k1 k2); (first | rw [if_pos (by omega)] at hs5 | rw [if_neg (by omega)] at hs5); refine ⟨by rw [hs5]; (try dsimp only); (try omega), ?_, hs⟩; first | (rw [hs5]; done) | (rw [hs5]; exact congrArg (plM μ) (by (try dsimp only); (try omega)))))
