theorem dgR_le {T : Int → Int} {L a g : Int} (hT : TL T L) (hg : 0 ≤ g ∧ g ≤ 9) : (((dgR T L 9 a).1 < 0 ∨ g < (dgR T L 9 a).1) ∧ dgR T L g a = (-1, a)) ∨ ((0 ≤ (dgR T L 9 a).1 ∧ (dgR T L 9 a).1 ≤ g) ∧ dgR T L g a = ((dgR T L 9 a).1, a + 1) ∧ a < L) := by
  have h1 := dgR_9 (a := a) hT
  have h2 := sgn_in (a := a) hT
  unfold dgR at h1 ⊢
  by_cases q : 0 ≤ sgn T L a - 48 ∧ sgn T L a - 48 ≤ 9
  · rw [if_pos q]
    by_cases q2 : 0 ≤ sgn T L a - 48 ∧ sgn T L a - 48 ≤ g
    · rw [if_pos q2]; exact Or.inr ⟨by dsimp only; omega, rfl, by omega⟩
    · rw [if_neg q2]; exact Or.inl ⟨by dsimp only; omega, rfl⟩
  · rw [if_neg q, if_neg (by omega)]; exact Or.inl ⟨Or.inl (by dsimp only; omega), rfl⟩
/-- which unknown, as the class reads it -/
def ruC (T : Int → Int) (L a : Int) : Int × Int := if sgn T L a = 63 ∨ sgn T L a = 33 then (if (dgR T L 5 (a + 1)).1 < 0 then (-2, a + 1) else (if sgn T L a = 63 then (dgR T L 5 (a + 1)).1 else 10 + (dgR T L 5 (a + 1)).1, a + 1 + 1)) else (-1, a)
set_option maxHeartbeats 1000000 in
set_option maxRecDepth 100000 in
theorem c_X1_readUnknown {μ : Mem} {a : Int} (hT : TL (μ.1 37) (μ.1 8 2)) (ha : 0 ≤ a ∧ a ≤ μ.1 8 2)  : PC shC 2 mX1_readUnknown [vr 8] (plM μ a) (QI (fun z μ' => z = (ruC (μ.1 37) (μ.1 8 2) a).1 ∧ μ' = plM μ (ruC (μ.1 37) (μ.1 8 2) a).2)) := by
  refine PC.of (by decide +kernel) (Nat.le_of_ble_eq_true rfl) ?_
  refine P_sub (L' := [(0, vr 8)]) [0] rfl ?_
  have hT2 := hT.2
  refine P_aload_n (pc := 0) dX1_readUnknown_0 rfl 0 rfl ?_
  refine P_callVi (Y' := mX1_sign) (as := []) (pc := 1) dX1_readUnknown_1 rfl (by decide : 0 < 2) sC_8 rfl ml_RX1_30 im_X1_sign se_X1_sign mk_X1_sign (Nat.le_of_ble_eq_true rfl) (c_X1_sign hT (by omega)) (fun z_ μ_ hq => ?_)
  obtain ⟨hz, hμ_, hi_⟩ := hq
  subst hμ_
  subst hz
  try simp (disch := decide) only [pl_3, pl_2, pl_q, pl_put]
  refine P_istore_n (L' := [(1, vi _), (0, vr 8)]) (pc := 4) dX1_readUnknown_4 rfl (by decide) rfl ?_
  refine P_iload_n (pc := 5) dX1_readUnknown_5 rfl 0 rfl ?_
  refine P_bipush (pc := 6) dX1_readUnknown_6 (by decide) ?_
  refine P_icmp_eq (tgt := 19) (pc := 8) dX1_readUnknown_8 (by decide) (by first | assumption | (unfold InR; omega)) (by first | assumption | (unfold InR; omega)) (fun c_8 => ?_) (fun c_8 => ?_)
  · refine P_aload_n (pc := 19) dX1_readUnknown_19 rfl 1 rfl ?_
    refine P_dup (pc := 20) dX1_readUnknown_20 rfl ?_
    refine P_getI (jj := 3) (pc := 21) dX1_readUnknown_21 fa_RX1_23 sC_8 fC8_3 rfl ?_
    try simp (disch := decide) only [pl_3, pl_2, pl_q, pl_put]
    refine P_iconst (pc := 24) dX1_readUnknown_24 ?_
    refine P_iadd (pc := 25) dX1_readUnknown_25 ?_
    refine P_putI (jj := 3) (pc := 26) dX1_readUnknown_26 fa_RX1_23 fp_1_3 sC_8 fC8_3 rfl ?_
    try simp (disch := decide) only [pl_3, pl_2, pl_q, pl_put]
    refine P_aload_n (pc := 29) dX1_readUnknown_29 rfl 1 rfl ?_
    refine P_callVi (Y' := mX1_digit) (as := []) (pc := 30) dX1_readUnknown_30 rfl (by decide : 1 < 2) sC_8 rfl ml_RX1_48 im_X1_digit se_X1_digit mk_X1_digit (Nat.le_of_ble_eq_true rfl) (c_X1_digit hT (by omega)) (fun z_ μ_ hq => ?_)
    obtain ⟨hz, hμ_, hi2_⟩ := hq
    subst hμ_
    subst hz
    have hd := dgR_le (g := 5) (a := a + 1) hT (by omega)
    try simp (disch := decide) only [pl_3, pl_2, pl_q, pl_put]
    refine P_istore_n (L' := [(2, vi _), (1, vi _), (0, vr 8)]) (pc := 33) dX1_readUnknown_33 rfl (by decide) rfl ?_
    refine P_iload_n (pc := 34) dX1_readUnknown_34 rfl 0 rfl ?_
    refine P_if_lt (tgt := 44) (pc := 35) dX1_readUnknown_35 (by decide) (by first | assumption | (unfold InR; omega)) (fun c_35 => ?_) (fun c_35 => ?_)
    · refine P_bipush (pc := 44) dX1_readUnknown_44 (by decide) ?_
      exact P_iret (pc := 46) dX1_readUnknown_46 rfl (QI.mk (by first | (exfalso; omega) | skip; unfold ruC; first | (rw [if_neg (by omega)]; exact ⟨rfl, rfl⟩) | (rw [if_pos (by omega)]; rcases hd with hd | hd; rw [hd.2]; exact ⟨rfl, rfl⟩; exfalso; omega) | (rw [if_pos (by omega)]; rcases hd with hd | hd; exfalso; omega; rw [hd.2.1]; dsimp only; rw [if_neg (by omega)]; first | (rw [if_pos (by omega)]; exact ⟨rfl, rfl⟩) | (rw [if_neg (by omega)]; exact ⟨rfl, rfl⟩))))
    · refine P_iload_n (pc := 38) dX1_readUnknown_38 rfl 0 rfl ?_
      refine P_bipush (pc := 39) dX1_readUnknown_39 (by decide) ?_
      refine P_icmp_lt (tgt := 47) (pc := 41) dX1_readUnknown_41 (by decide) (by first | assumption | (unfold InR; omega)) (by first | assumption | (unfold InR; omega)) (fun c_41 => ?_) (fun c_41 => ?_)
      · refine P_aload_n (pc := 47) dX1_readUnknown_47 rfl 2 rfl ?_
        refine P_dup (pc := 48) dX1_readUnknown_48 rfl ?_
        refine P_getI (jj := 3) (pc := 49) dX1_readUnknown_49 fa_RX1_23 sC_8 fC8_3 rfl ?_
        try simp (disch := decide) only [pl_3, pl_2, pl_q, pl_put]
        refine P_iconst (pc := 52) dX1_readUnknown_52 ?_
        refine P_iadd (pc := 53) dX1_readUnknown_53 ?_
        refine P_putI (jj := 3) (pc := 54) dX1_readUnknown_54 fa_RX1_23 fp_1_3 sC_8 fC8_3 rfl ?_
        try simp (disch := decide) only [pl_3, pl_2, pl_q, pl_put]
        refine P_iload_n (pc := 57) dX1_readUnknown_57 rfl 1 rfl ?_
        refine P_bipush (pc := 58) dX1_readUnknown_58 (by decide) ?_
        refine P_icmp_ne (tgt := 67) (pc := 60) dX1_readUnknown_60 (by decide) (by first | assumption | (unfold InR; omega)) (by first | assumption | (unfold InR; omega)) (fun c_60 => ?_) (fun c_60 => ?_)
        · refine P_bipush (pc := 67) dX1_readUnknown_67 (by decide) ?_
          refine P_iload_n (pc := 69) dX1_readUnknown_69 rfl 0 rfl ?_
          refine P_iadd (pc := 70) dX1_readUnknown_70 ?_
          exact P_iret (pc := 71) dX1_readUnknown_71 rfl (QI.mk (by first | (exfalso; omega) | skip; unfold ruC; first | (rw [if_neg (by omega)]; exact ⟨rfl, rfl⟩) | (rw [if_pos (by omega)]; rcases hd with hd | hd; rw [hd.2]; exact ⟨rfl, rfl⟩; exfalso; omega) | (rw [if_pos (by omega)]; rcases hd with hd | hd; exfalso; omega; rw [hd.2.1]; dsimp only; rw [if_neg (by omega)]; first | (rw [if_pos (by omega)]; exact ⟨rfl, rfl⟩) | (rw [if_neg (by omega)]; exact ⟨rfl, rfl⟩))))
        · refine P_iload_n (pc := 63) dX1_readUnknown_63 rfl 0 rfl ?_
          refine P_goto (tgt := 71) (pc := 64) dX1_readUnknown_64 (by decide) ?_
          exact P_iret (pc := 71) dX1_readUnknown_71 rfl (QI.mk (by first | (exfalso; omega) | skip; unfold ruC; first | (rw [if_neg (by omega)]; exact ⟨rfl, rfl⟩) | (rw [if_pos (by omega)]; rcases hd with hd | hd; rw [hd.2]; exact ⟨rfl, rfl⟩; exfalso; omega) | (rw [if_pos (by omega)]; rcases hd with hd | hd; exfalso; omega; rw [hd.2.1]; dsimp only; rw [if_neg (by omega)]; first | (rw [if_pos (by omega)]; exact ⟨rfl, rfl⟩) | (rw [if_neg (by omega)]; exact ⟨rfl, rfl⟩))))
      · refine P_bipush (pc := 44) dX1_readUnknown_44 (by decide) ?_
        exact P_iret (pc := 46) dX1_readUnknown_46 rfl (QI.mk (by first | (exfalso; omega) | skip; unfold ruC; first | (rw [if_neg (by omega)]; exact ⟨rfl, rfl⟩) | (rw [if_pos (by omega)]; rcases hd with hd | hd; rw [hd.2]; exact ⟨rfl, rfl⟩; exfalso; omega) | (rw [if_pos (by omega)]; rcases hd with hd | hd; exfalso; omega; rw [hd.2.1]; dsimp only; rw [if_neg (by omega)]; first | (rw [if_pos (by omega)]; exact ⟨rfl, rfl⟩) | (rw [if_neg (by omega)]; exact ⟨rfl, rfl⟩))))
  · refine P_iload_n (pc := 11) dX1_readUnknown_11 rfl 0 rfl ?_
    refine P_bipush (pc := 12) dX1_readUnknown_12 (by decide) ?_
    refine P_icmp_eq (tgt := 19) (pc := 14) dX1_readUnknown_14 (by decide) (by first | assumption | (unfold InR; omega)) (by first | assumption | (unfold InR; omega)) (fun c_14 => ?_) (fun c_14 => ?_)
    · refine P_aload_n (pc := 19) dX1_readUnknown_19 rfl 1 rfl ?_
      refine P_dup (pc := 20) dX1_readUnknown_20 rfl ?_
      refine P_getI (jj := 3) (pc := 21) dX1_readUnknown_21 fa_RX1_23 sC_8 fC8_3 rfl ?_
      try simp (disch := decide) only [pl_3, pl_2, pl_q, pl_put]
      refine P_iconst (pc := 24) dX1_readUnknown_24 ?_
      refine P_iadd (pc := 25) dX1_readUnknown_25 ?_
      refine P_putI (jj := 3) (pc := 26) dX1_readUnknown_26 fa_RX1_23 fp_1_3 sC_8 fC8_3 rfl ?_
      try simp (disch := decide) only [pl_3, pl_2, pl_q, pl_put]
      refine P_aload_n (pc := 29) dX1_readUnknown_29 rfl 1 rfl ?_
      refine P_callVi (Y' := mX1_digit) (as := []) (pc := 30) dX1_readUnknown_30 rfl (by decide : 1 < 2) sC_8 rfl ml_RX1_48 im_X1_digit se_X1_digit mk_X1_digit (Nat.le_of_ble_eq_true rfl) (c_X1_digit hT (by omega)) (fun z_ μ_ hq => ?_)
      obtain ⟨hz, hμ_, hi2_⟩ := hq
      subst hμ_
      subst hz
      have hd := dgR_le (g := 5) (a := a + 1) hT (by omega)
      try simp (disch := decide) only [pl_3, pl_2, pl_q, pl_put]
      refine P_istore_n (L' := [(2, vi _), (1, vi _), (0, vr 8)]) (pc := 33) dX1_readUnknown_33 rfl (by decide) rfl ?_
      refine P_iload_n (pc := 34) dX1_readUnknown_34 rfl 0 rfl ?_
      refine P_if_lt (tgt := 44) (pc := 35) dX1_readUnknown_35 (by decide) (by first | assumption | (unfold InR; omega)) (fun c_35 => ?_) (fun c_35 => ?_)
      · refine P_bipush (pc := 44) dX1_readUnknown_44 (by decide) ?_
        exact P_iret (pc := 46) dX1_readUnknown_46 rfl (QI.mk (by first | (exfalso; omega) | skip; unfold ruC; first | (rw [if_neg (by omega)]; exact ⟨rfl, rfl⟩) | (rw [if_pos (by omega)]; rcases hd with hd | hd; rw [hd.2]; exact ⟨rfl, rfl⟩; exfalso; omega) | (rw [if_pos (by omega)]; rcases hd with hd | hd; exfalso; omega; rw [hd.2.1]; dsimp only; rw [if_neg (by omega)]; first | (rw [if_pos (by omega)]; exact ⟨rfl, rfl⟩) | (rw [if_neg (by omega)]; exact ⟨rfl, rfl⟩))))
      · refine P_iload_n (pc := 38) dX1_readUnknown_38 rfl 0 rfl ?_
        refine P_bipush (pc := 39) dX1_readUnknown_39 (by decide) ?_
        refine P_icmp_lt (tgt := 47) (pc := 41) dX1_readUnknown_41 (by decide) (by first | assumption | (unfold InR; omega)) (by first | assumption | (unfold InR; omega)) (fun c_41 => ?_) (fun c_41 => ?_)
        · refine P_aload_n (pc := 47) dX1_readUnknown_47 rfl 2 rfl ?_
          refine P_dup (pc := 48) dX1_readUnknown_48 rfl ?_
          refine P_getI (jj := 3) (pc := 49) dX1_readUnknown_49 fa_RX1_23 sC_8 fC8_3 rfl ?_
          try simp (disch := decide) only [pl_3, pl_2, pl_q, pl_put]
          refine P_iconst (pc := 52) dX1_readUnknown_52 ?_
          refine P_iadd (pc := 53) dX1_readUnknown_53 ?_
          refine P_putI (jj := 3) (pc := 54) dX1_readUnknown_54 fa_RX1_23 fp_1_3 sC_8 fC8_3 rfl ?_
          try simp (disch := decide) only [pl_3, pl_2, pl_q, pl_put]
          refine P_iload_n (pc := 57) dX1_readUnknown_57 rfl 1 rfl ?_
          refine P_bipush (pc := 58) dX1_readUnknown_58 (by decide) ?_
          refine P_icmp_ne (tgt := 67) (pc := 60) dX1_readUnknown_60 (by decide) (by first | assumption | (unfold InR; omega)) (by first | assumption | (unfold InR; omega)) (fun c_60 => ?_) (fun c_60 => ?_)
          · refine P_bipush (pc := 67) dX1_readUnknown_67 (by decide) ?_
            refine P_iload_n (pc := 69) dX1_readUnknown_69 rfl 0 rfl ?_
            refine P_iadd (pc := 70) dX1_readUnknown_70 ?_
            exact P_iret (pc := 71) dX1_readUnknown_71 rfl (QI.mk (by first | (exfalso; omega) | skip; unfold ruC; first | (rw [if_neg (by omega)]; exact ⟨rfl, rfl⟩) | (rw [if_pos (by omega)]; rcases hd with hd | hd; rw [hd.2]; exact ⟨rfl, rfl⟩; exfalso; omega) | (rw [if_pos (by omega)]; rcases hd with hd | hd; exfalso; omega; rw [hd.2.1]; dsimp only; rw [if_neg (by omega)]; first | (rw [if_pos (by omega)]; exact ⟨rfl, rfl⟩) | (rw [if_neg (by omega)]; exact ⟨rfl, rfl⟩))))
          · refine P_iload_n (pc := 63) dX1_readUnknown_63 rfl 0 rfl ?_
            refine P_goto (tgt := 71) (pc := 64) dX1_readUnknown_64 (by decide) ?_
            exact P_iret (pc := 71) dX1_readUnknown_71 rfl (QI.mk (by first | (exfalso; omega) | skip; unfold ruC; first | (rw [if_neg (by omega)]; exact ⟨rfl, rfl⟩) | (rw [if_pos (by omega)]; rcases hd with hd | hd; rw [hd.2]; exact ⟨rfl, rfl⟩; exfalso; omega) | (rw [if_pos (by omega)]; rcases hd with hd | hd; exfalso; omega; rw [hd.2.1]; dsimp only; rw [if_neg (by omega)]; first | (rw [if_pos (by omega)]; exact ⟨rfl, rfl⟩) | (rw [if_neg (by omega)]; exact ⟨rfl, rfl⟩))))
        · refine P_bipush (pc := 44) dX1_readUnknown_44 (by decide) ?_
          exact P_iret (pc := 46) dX1_readUnknown_46 rfl (QI.mk (by first | (exfalso; omega) | skip; unfold ruC; first | (rw [if_neg (by omega)]; exact ⟨rfl, rfl⟩) | (rw [if_pos (by omega)]; rcases hd with hd | hd; rw [hd.2]; exact ⟨rfl, rfl⟩; exfalso; omega) | (rw [if_pos (by omega)]; rcases hd with hd | hd; exfalso; omega; rw [hd.2.1]; dsimp only; rw [if_neg (by omega)]; first | (rw [if_pos (by omega)]; exact ⟨rfl, rfl⟩) | (rw [if_neg (by omega)]; exact ⟨rfl, rfl⟩))))
    · refine P_iconst (pc := 17) dX1_readUnknown_17 ?_
      exact P_iret (pc := 18) dX1_readUnknown_18 rfl (QI.mk (by first | (exfalso; omega) | skip; unfold ruC; first | (rw [if_neg (by omega)]; exact ⟨rfl, rfl⟩) | (rw [if_pos (by omega)]; rcases hd with hd | hd; rw [hd.2]; exact ⟨rfl, rfl⟩; exfalso; omega) | (rw [if_pos (by omega)]; rcases hd with hd | hd; exfalso; omega; rw [hd.2.1]; dsimp only; rw [if_neg (by omega)]; first | (rw [if_pos (by omega)]; exact ⟨rfl, rfl⟩) | (rw [if_neg (by omega)]; exact ⟨rfl, rfl⟩))))
