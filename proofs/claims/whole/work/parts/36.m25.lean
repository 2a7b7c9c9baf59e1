theorem wL_2i (x : BitVec 64) : (Int64.ofBitVec x).toInt32 = Int32.ofInt (x.toNat : Int) := by
  rw [← Int32.toInt_inj, Int64.toInt_toInt32, Int32.toInt_ofInt]
  have e : (Int64.ofBitVec x).toInt = (x.toNat : Int).bmod (2 ^ 64) := by
    show x.toInt = _
    exact BitVec.toInt_eq_toNat_bmod x
  rw [e]
  exact Int.bmod_bmod_of_dvd (by decide)
def byteN (y : BitVec 64) (i : Nat) : Int := (((y >>> (8 * i)) &&& 255#64).toNat : Int)
theorem byteN_in (y : BitVec 64) (i : Nat) : 0 ≤ byteN y i ∧ byteN y i ≤ 255 := by
  unfold byteN
  rw [BitVec.toNat_and]
  have := Nat.and_le_right (n := (y >>> (8 * i)).toNat) (m := (255#64).toNat)
  have e : (255#64).toNat = 255 := by decide
  omega
theorem byte_s (y : BitVec 64) {j : Nat} (h : j < 8) : y.sshiftRight (8 * j) &&& 255#64 = (y >>> (8 * j)) &&& 255#64 := by
  apply BitVec.eq_of_getLsbD_eq
  intro i hi
  simp only [BitVec.getLsbD_and, BitVec.getLsbD_sshiftRight, BitVec.getLsbD_ushiftRight]
  by_cases h8 : i < 8
  · have h1 : 8 * j + i < 64 := by omega
    have h2 : ¬ 64 ≤ i := by omega
    simp [h1, h2]
  · have : (255#64).getLsbD i = false := by
      rw [BitVec.getLsbD_ofNat, Nat.testBit_lt_two_pow (Nat.lt_of_lt_of_le (show 255 < 2 ^ 8 by decide) (Nat.pow_le_pow_right (by decide) (by omega)))]
      simp
    simp [this]
def fedN (μ : Mem) (y : BitVec 64) : Nat → Mem
  | 0 => μ
  | i + 1 => putI (putI (fedN μ y i) 12 (μ.1 0 14 + (i : Int)) (byteN y i)) 0 14 (μ.1 0 14 + (i : Int) + 1)
theorem fedN_14 (μ : Mem) (y : BitVec 64) : ∀ i, (fedN μ y i).1 0 14 = μ.1 0 14 + (i : Int)
  | 0 => by simp [fedN]
  | i + 1 => by
    show (putI _ 0 14 _).1 0 14 = _
    rw [putI_self]
    omega
def whyFd (A : Cel) (n : Int) : Int := if n < 1 then -4 else if n > 8 then -6 else if A 0 14 + n > 80 then -6 else 0
set_option maxHeartbeats 1000000 in
set_option maxRecDepth 100000 in
theorem l_X6_feed {μ : Mem} {n : Int} {y : BitVec 64} (hL : 0 ≤ μ.1 0 14 ∧ μ.1 0 14 + n ≤ 80) (hn : 1 ≤ n ∧ n ≤ 8) : ∀ (m j : Nat) (t : Int), t = (j : Int) → j ≤ n.toNat → n.toNat - j < m → PW shM 1 mX6_feed 44 [(0, vr 0), (1, vi n), (2, vl y), (5, vi t)] [] (fedN μ y j) (QI (fun z μ' => z = μ.1 0 14 + n ∧ μ' = fedN μ y n.toNat)) := by
  intro m
  induction m with
  | zero => intro j t _ _ q; omega
  | succ m ih =>
  intro j t ht hj hn2
  have g1 := fedN_14 μ y j
  have e8 : (8 * t).toNat = 8 * j := by omega
  refine P_iload (pc := 44) dX6_feed_44 3 rfl ?_
  refine P_iload_n (pc := 46) dX6_feed_46 rfl 1 rfl ?_
  refine P_icmp_ge (tgt := 87) (pc := 47) dX6_feed_47 (by decide) (by first | assumption | (unfold InR; omega)) (by first | assumption | (unfold InR; omega)) (fun c_47 => ?_) (fun c_47 => ?_)
  · refine P_aload_n (pc := 87) dX6_feed_87 rfl 0 rfl ?_
    refine P_getI (jj := 14) (pc := 88) dX6_feed_88 fa_RX6_139 sM_0 fM0_14 rfl ?_
    try simp (disch := decide) only [putI_ne, putI_self]
    exact P_iret (pc := 91) dX6_feed_91 rfl (QI.mk (by first | (refine ⟨?_, ?_⟩; omega; have e9 : j = n.toNat := (by omega); rw [e9]) | (have hwy : whyFd μ.1 n = z_ := (by unfold whyFd; grind); rw [hwy]; exact ⟨by rw [if_neg (by omega)], by rw [if_neg (by omega)]; rfl⟩) | (have hwy : whyFd μ.1 n = -6 := (by unfold whyFd; grind); rw [hwy]; exact ⟨rfl, rfl⟩)))
  · refine P_aload_n (pc := 50) dX6_feed_50 rfl 0 rfl ?_
    refine P_getR (pc := 51) dX6_feed_51 fa_RX6_43 sM_0 fM0_13 ?_
    refine P_aload_n (pc := 54) dX6_feed_54 rfl 0 rfl ?_
    refine P_getI (jj := 14) (pc := 55) dX6_feed_55 fa_RX6_139 sM_0 fM0_14 rfl ?_
    try simp (disch := decide) only [putI_ne, putI_self]
    refine P_lload_n (pc := 58) dX6_feed_58 rfl 2 rfl ?_
    refine P_bipush (pc := 59) dX6_feed_59 (by decide) ?_
    refine P_iload (pc := 61) dX6_feed_61 3 rfl ?_
    refine P_imul (pc := 63) dX6_feed_63 ?_
    refine P_lshr (pc := 64) dX6_feed_64 (by omega) (by omega) ?_
    refine P_ldc2 (b := 255#64) (pc := 65) dX6_feed_65 kl_RX6_142 (by decide +kernel) ?_
    refine P_land (pc := 68) dX6_feed_68 ?_
    refine P_l2i (pc := 69) dX6_feed_69 (wL_2i _) ?_
    refine P_iast (pc := 70) dX6_feed_70 sM_12 (by omega) (by omega) (by decide) ?_
    try simp (disch := decide) only [putI_ne, putI_self]
    refine P_aload_n (pc := 71) dX6_feed_71 rfl 0 rfl ?_
    refine P_dup (pc := 72) dX6_feed_72 rfl ?_
    refine P_getI (jj := 14) (pc := 73) dX6_feed_73 fa_RX6_139 sM_0 fM0_14 rfl ?_
    try simp (disch := decide) only [putI_ne, putI_self]
    refine P_iconst (pc := 76) dX6_feed_76 ?_
    refine P_iadd (pc := 77) dX6_feed_77 ?_
    refine P_putI (jj := 14) (pc := 78) dX6_feed_78 fa_RX6_139 fp_6_14 sM_0 fM0_14 rfl ?_
    try simp (disch := decide) only [putI_ne, putI_self]
    refine P_iinc (L' := [(5, vi _), (0, vr 0), (1, vi _), (2, vl _)]) (pc := 81) dX6_feed_81 (by decide) 3 rfl rfl ?_
    refine P_goto (tgt := 44) (pc := 84) dX6_feed_84 (by decide) ?_
    refine P_sub (L' := [(0, vr 0), (1, vi _), (2, vl _), (5, vi _)]) [1, 2, 3, 0] rfl ?_
    refine P_cast (L' := [(0, vr 0), (1, vi n), (2, vl y), (5, vi (t + 1))]) rfl ?_ (ih (j + 1) (t + 1) (by omega) (by omega) (by omega))
    rw [e8, byte_s y (by omega)]
    simp only [putI_ne (show (0 : Nat) ≠ 12 by decide), g1]
    rfl
set_option maxHeartbeats 1000000 in
set_option maxRecDepth 100000 in
theorem c_X6_feed {μ : Mem} {n : Int} {y : BitVec 64} (hL : 0 ≤ μ.1 0 14 ∧ μ.1 0 14 ≤ 80) (hn : InR n) : PC shM 1 mX6_feed [vr 0, vi n, vl y] (μ) (QI (fun z μ' => z = (if whyFd μ.1 n = 0 then μ.1 0 14 + n else whyFd μ.1 n) ∧ μ' = (if whyFd μ.1 n = 0 then fedN μ y n.toNat else refM μ (whyFd μ.1 n)))) := by
  refine PC.of (by decide +kernel) (Nat.le_of_ble_eq_true rfl) ?_
  refine P_sub (L' := [(0, vr 0), (1, vi n), (2, vl y)]) [0, 1, 2] rfl ?_
  skip
  refine P_iload_n (pc := 0) dX6_feed_0 rfl 1 rfl ?_
  refine P_iconst (pc := 1) dX6_feed_1 ?_
  refine P_bipush (pc := 2) dX6_feed_2 (by decide) ?_
  refine P_callSi (Y' := mX6_out) (as := [_, _, _]) (pc := 4) dX6_feed_4 rfl (by decide : 0 < 1) ml_RX6_121 sm_X6_out mk_X6_out (Nat.le_of_ble_eq_true rfl) (c_X6_out hn (by unfold InR; omega) (by unfold InR; omega)) (fun z_ μ_ hq => ?_)
  obtain ⟨hz, hμ_⟩ := hq
  have hμ_ := hμ_.symm
  subst hμ_
  have hz : z_ = -4 ∧ n < 1 ∨ z_ = -6 ∧ n > 8 ∨ z_ = 0 ∧ 1 ≤ n ∧ n ≤ 8 := by rw [hz]; split; omega; split <;> omega
  try simp (disch := decide) only [putI_ne, putI_self]
  refine P_istore (L' := [(4, vi _), (0, vr 0), (1, vi _), (2, vl _)]) (pc := 7) dX6_feed_7 (by decide) rfl ?_
  refine P_iload (pc := 9) dX6_feed_9 0 rfl ?_
  refine P_if_ne (tgt := 29) (pc := 11) dX6_feed_11 (by decide) (by first | assumption | (unfold InR; omega)) (fun c_11 => ?_) (fun c_11 => ?_)
  · refine P_iload (pc := 29) dX6_feed_29 0 rfl ?_
    refine P_if_eq (tgt := 41) (pc := 31) dX6_feed_31 (by decide) (by first | assumption | (unfold InR; omega)) (fun c_31 => ?_) (fun c_31 => ?_)
    · refine P_iconst (pc := 41) dX6_feed_41 ?_
      refine P_istore (L' := [(5, vi _), (4, vi _), (0, vr 0), (1, vi _), (2, vl _)]) (pc := 42) dX6_feed_42 (by decide) rfl ?_
      refine P_sub (L' := [(0, vr 0), (1, vi _), (2, vl _), (5, vi _)]) [2, 3, 4, 0] rfl ?_
      have hwy : whyFd μ.1 n = 0 := by unfold whyFd; rw [if_neg (by omega), if_neg (by omega), if_neg (by omega)]
      rw [hwy, if_pos rfl, if_pos rfl]
      exact l_X6_feed (by omega) (by omega) (n.toNat + 1) 0 0 rfl (Nat.zero_le _) (by omega)
    · refine P_aload_n (pc := 34) dX6_feed_34 rfl 1 rfl ?_
      refine P_iload (pc := 35) dX6_feed_35 0 rfl ?_
      refine P_callVi (Y' := mX6_no) (as := [_]) (pc := 37) dX6_feed_37 rfl (by decide : 0 < 1) sM_0 rfl ml_RX6_109 im_X6_no se_X6_no mk_X6_no (Nat.le_of_ble_eq_true rfl) (c_X6_no (by omega)) (fun z_ μ_ hq => ?_)
      obtain ⟨rfl, hμ_⟩ := hq
      have hμ_ := hμ_.symm
      subst hμ_
      try simp (disch := decide) only [putI_ne, putI_self]
      exact P_iret (pc := 40) dX6_feed_40 rfl (QI.mk (by first | (refine ⟨?_, ?_⟩; omega; have e9 : j = n.toNat := (by omega); rw [e9]) | (have hwy : whyFd μ.1 n = z_ := (by unfold whyFd; grind); rw [hwy]; exact ⟨by rw [if_neg (by omega)], by rw [if_neg (by omega)]; rfl⟩) | (have hwy : whyFd μ.1 n = -6 := (by unfold whyFd; grind); rw [hwy]; exact ⟨rfl, rfl⟩)))
  · refine P_aload_n (pc := 14) dX6_feed_14 rfl 1 rfl ?_
    refine P_getI (jj := 14) (pc := 15) dX6_feed_15 fa_RX6_139 sM_0 fM0_14 rfl ?_
    try simp (disch := decide) only [putI_ne, putI_self]
    refine P_iload_n (pc := 18) dX6_feed_18 rfl 2 rfl ?_
    refine P_iadd (pc := 19) dX6_feed_19 ?_
    refine P_bipush (pc := 20) dX6_feed_20 (by decide) ?_
    refine P_icmp_le (tgt := 29) (pc := 22) dX6_feed_22 (by decide) (by first | assumption | (unfold InR; omega)) (by first | assumption | (unfold InR; omega)) (fun c_22 => ?_) (fun c_22 => ?_)
    · refine P_iload (pc := 29) dX6_feed_29 0 rfl ?_
      refine P_if_eq (tgt := 41) (pc := 31) dX6_feed_31 (by decide) (by first | assumption | (unfold InR; omega)) (fun c_31 => ?_) (fun c_31 => ?_)
      · refine P_iconst (pc := 41) dX6_feed_41 ?_
        refine P_istore (L' := [(5, vi _), (4, vi _), (0, vr 0), (1, vi _), (2, vl _)]) (pc := 42) dX6_feed_42 (by decide) rfl ?_
        refine P_sub (L' := [(0, vr 0), (1, vi _), (2, vl _), (5, vi _)]) [2, 3, 4, 0] rfl ?_
        have hwy : whyFd μ.1 n = 0 := by unfold whyFd; rw [if_neg (by omega), if_neg (by omega), if_neg (by omega)]
        rw [hwy, if_pos rfl, if_pos rfl]
        exact l_X6_feed (by omega) (by omega) (n.toNat + 1) 0 0 rfl (Nat.zero_le _) (by omega)
      · refine P_aload_n (pc := 34) dX6_feed_34 rfl 1 rfl ?_
        refine P_iload (pc := 35) dX6_feed_35 0 rfl ?_
        refine P_callVi (Y' := mX6_no) (as := [_]) (pc := 37) dX6_feed_37 rfl (by decide : 0 < 1) sM_0 rfl ml_RX6_109 im_X6_no se_X6_no mk_X6_no (Nat.le_of_ble_eq_true rfl) (c_X6_no (by omega)) (fun z_ μ_ hq => ?_)
        obtain ⟨rfl, hμ_⟩ := hq
        have hμ_ := hμ_.symm
        subst hμ_
        try simp (disch := decide) only [putI_ne, putI_self]
        exact P_iret (pc := 40) dX6_feed_40 rfl (QI.mk (by first | (refine ⟨?_, ?_⟩; omega; have e9 : j = n.toNat := (by omega); rw [e9]) | (have hwy : whyFd μ.1 n = z_ := (by unfold whyFd; grind); rw [hwy]; exact ⟨by rw [if_neg (by omega)], by rw [if_neg (by omega)]; rfl⟩) | (have hwy : whyFd μ.1 n = -6 := (by unfold whyFd; grind); rw [hwy]; exact ⟨rfl, rfl⟩)))
    · refine P_bipush (pc := 25) dX6_feed_25 (by decide) ?_
      refine P_istore (L' := [(4, vi _), (0, vr 0), (1, vi _), (2, vl _)]) (pc := 27) dX6_feed_27 (by decide) rfl ?_
      refine P_iload (pc := 29) dX6_feed_29 0 rfl ?_
      refine P_if_eq (tgt := 41) (pc := 31) dX6_feed_31 (by decide) (by first | assumption | (unfold InR; omega)) (fun c_31 => ?_) (fun c_31 => ?_)
      · refine P_iconst (pc := 41) dX6_feed_41 ?_
        refine P_istore (L' := [(5, vi _), (4, vi _), (0, vr 0), (1, vi _), (2, vl _)]) (pc := 42) dX6_feed_42 (by decide) rfl ?_
        refine P_sub (L' := [(0, vr 0), (1, vi _), (2, vl _), (5, vi _)]) [2, 3, 4, 0] rfl ?_
        have hwy : whyFd μ.1 n = 0 := by unfold whyFd; rw [if_neg (by omega), if_neg (by omega), if_neg (by omega)]
        rw [hwy, if_pos rfl, if_pos rfl]
        exact l_X6_feed (by omega) (by omega) (n.toNat + 1) 0 0 rfl (Nat.zero_le _) (by omega)
      · refine P_aload_n (pc := 34) dX6_feed_34 rfl 1 rfl ?_
        refine P_iload (pc := 35) dX6_feed_35 0 rfl ?_
        refine P_callVi (Y' := mX6_no) (as := [_]) (pc := 37) dX6_feed_37 rfl (by decide : 0 < 1) sM_0 rfl ml_RX6_109 im_X6_no se_X6_no mk_X6_no (Nat.le_of_ble_eq_true rfl) (c_X6_no (by omega)) (fun z_ μ_ hq => ?_)
        obtain ⟨rfl, hμ_⟩ := hq
        have hμ_ := hμ_.symm
        subst hμ_
        try simp (disch := decide) only [putI_ne, putI_self]
        exact P_iret (pc := 40) dX6_feed_40 rfl (QI.mk (by first | (refine ⟨?_, ?_⟩; omega; have e9 : j = n.toNat := (by omega); rw [e9]) | (have hwy : whyFd μ.1 n = z_ := (by unfold whyFd; grind); rw [hwy]; exact ⟨by rw [if_neg (by omega)], by rw [if_neg (by omega)]; rfl⟩) | (have hwy : whyFd μ.1 n = -6 := (by unfold whyFd; grind); rw [hwy]; exact ⟨rfl, rfl⟩)))
