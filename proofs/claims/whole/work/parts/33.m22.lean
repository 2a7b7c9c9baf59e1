theorem PM.c28 {μ ν : Mem} (h : PM μ ν) : ν.1 28 = μ.1 28 := by
  funext j
  exact h.2 28 j (by unfold scr; omega)
/-- the steps, in an order, after a way's course -/
def ckA (K A : Cel) (ln : Int → Int) (i : Int) (X : Cel) : Cel := doesX K X (A 25 (ln i)) (A 26 (ln i)) (A 27 (ln i)) 0
def ckW (K A : Cel) (ln : Int → Int) (w : Int) (n : Nat) : Cel := upN (ckA K A ln) 0 n (simX K w 47 0)
def ckB (K F A : Cel) (ln : Int → Int) (c s : Nat) : Bool := allF (fun w => !(leftB K F 0 w) || allF (fun i => decide (clN (ckW K A ln (w : Int) (i + 1)) (K 0 11).toNat &&& c = c)) s) 64
theorem ckB_f {K F A : Cel} {ln : Int → Int} {c s j m : Nat} (hj : j < 64) (h1 : leftB K F 0 j = true) (hm : m < s) (h2 : clN (ckW K A ln (j : Int) (m + 1)) (K 0 11).toNat &&& c ≠ c) : ckB K F A ln c s = false := by
  cases e : ckB K F A ln c s with
  | false => rfl
  | true =>
    have h3 := (allF_iff.mp e) j hj
    simp only [h1, Bool.not_true, Bool.false_or] at h3
    have h4 := (allF_iff.mp h3) m hm
    simp [h2] at h4
theorem ckB_t {K F A : Cel} {ln : Int → Int} {c s : Nat} (h : ∀ j, j < 64 → leftB K F 0 j = true → ∀ m, m < s → clN (ckW K A ln (j : Int) (m + 1)) (K 0 11).toNat &&& c = c) : ckB K F A ln c s = true := by
  refine allF_iff.mpr (fun i hi => ?_)
  cases e : leftB K F 0 i with
  | false => rfl
  | true =>
    simp only [Bool.not_true, Bool.false_or]
    exact allF_iff.mpr (fun m hm => by simp [h i hi e m hm])
/-- the steps that stand are in bounds -/
def SOK (A : Cel) : Prop := (0 ≤ A 0 37 ∧ A 0 37 ≤ 5) ∧ ∀ i, 0 ≤ i → i < A 0 37 → (0 ≤ A 25 i ∧ A 25 i ≤ 4) ∧ (0 ≤ A 26 i ∧ A 26 i < A 0 11) ∧ (0 ≤ A 27 i ∧ A 27 i < A 0 11) ∧ A 26 i ≠ A 27 i
theorem XOK_ckW {K A : Cel} {ln : Int → Int} {w : Int} (hK : KOK K) {s : Nat} (hA : ∀ i : Nat, i < s → 0 ≤ A 25 (ln (i : Int)) ∧ A 25 (ln (i : Int)) ≤ 4) : ∀ n, n ≤ s → XOK (ckW K A ln w n) := by
  intro n hn
  refine upN_inv XOK _ _ _ (XOK_sim hK (Or.inl rfl)) s (fun m y hm hy => ?_) n hn
  have := hA m hm
  have e : (0 : Int) + (m : Int) = (m : Int) := by omega
  unfold ckA
  rw [e]
  exact XOK_does hy (by omega) (by omega)
theorem ckW_s (K A : Cel) (ln : Int → Int) (w : Int) (n : Nat) : ckW K A ln w (n + 1) = doesX K (ckW K A ln w n) (A 25 (ln (n : Int))) (A 26 (ln (n : Int))) (A 27 (ln (n : Int))) 0 := by
  show ckA K A ln (0 + (n : Int)) (ckW K A ln w n) = _
  rw [show (0 : Int) + (n : Int) = (n : Int) by omega]
  rfl
set_option maxHeartbeats 1000000 in
set_option maxRecDepth 100000 in
theorem l_X6_cooks1 {μ ν : Mem} {K F A : Cel} {S ln : Int → Int} {w : Int} {c s j0 : Nat} (hP : PM μ ν) (hk : kd ν.1 = K) (hK : KOK K) (hw : 0 ≤ w ∧ w < 64) (hl : ∀ i : Nat, i < s → 0 ≤ ln (i : Int) ∧ ln (i : Int) < (s : Int)) (hA : SOK A) (hs : A 0 37 = (s : Int)) (hT : A 0 11 = K 0 11) (hc : c < 4096) (h25 : ν.1 25 = A 25) (h26 : ν.1 26 = A 26) (h27 : ν.1 27 = A 27) (h37 : ν.1 0 37 = A 0 37) (h28 : ∀ i : Nat, i < s → ν.1 28 (i : Int) = ln (i : Int)) (hLF : LF K F 0 ν) (hj0 : w = (j0 : Int)) (hl0 : leftB K F 0 j0 = true) (kx : (∀ m, m < s → clN (ckW K A ln w (m + 1)) (K 0 11).toNat &&& c = c) → PW shM 5 mX6_cooks 94 [(0, vr 0), (1, vi (c : Int)), (2, vi w)] [] (setW ν S (ckW K A ln w s)) (QI (fun z μ' => z = (if ckB K F A ln c s = true then 1 else 0) ∧ PM μ μ' ∧ LF K F 0 μ'))) : ∀ (n j : Nat), j ≤ s → s - j < n → (∀ m, m < j → clN (ckW K A ln w (m + 1)) (K 0 11).toNat &&& c = c) → PW shM 5 mX6_cooks 30 [(0, vr 0), (1, vi (c : Int)), (2, vi w), (3, vi (j : Int))] [] (setW ν S (ckW K A ln w j)) (QI (fun z μ' => z = (if ckB K F A ln c s = true then 1 else 0) ∧ PM μ μ' ∧ LF K F 0 μ')) := by
  intro n
  induction n with
  | zero => intro j _ q; omega
  | succ n ih =>
  intro j hj hn hm
  have hk11 : ν.1 0 11 = K 0 11 := by rw [← hk]; rfl
  have hA5 : ∀ i : Nat, i < s → 0 ≤ A 25 (ln (i : Int)) ∧ A 25 (ln (i : Int)) ≤ 4 := fun i hi => (hA.2 _ (hl i hi).1 (by have := (hl i hi).2; omega)).1
  have g1 : j < s → _ := fun q => hl j q
  have g2 : j < s → _ := fun q => hA.2 (ln (j : Int)) (g1 q).1 (by have := (g1 q).2; omega)
  have g3 := ckW_s K A ln w j
  have gs : s ≤ 5 := by have := hA.1; omega
  have hk1 := hK.1
  have g4 : (2 : Nat) ^ (K 0 11).toNat ≤ 2 ^ 12 := Nat.pow_le_pow_right (by decide) (by omega)
  have g5 := clN_lt (ckW K A ln w (j + 1)) (K 0 11).toNat
  have g6 := Nat.and_le_right (n := clN (ckW K A ln w (j + 1)) (K 0 11).toNat) (m := c)
  refine P_iload_n (pc := 30) dX6_cooks_30 rfl 3 rfl ?_
  refine P_aload_n (pc := 31) dX6_cooks_31 rfl 0 rfl ?_
  refine P_getI (jj := 37) (pc := 32) dX6_cooks_32 fa_RX6_270 sM_0 fM0_37 rfl ?_
  try simp only [wr_25, wr_26, wr_27, wr_28, wo_37]
  rw [h37]
  refine P_icmp_ge (tgt := 94) (pc := 35) dX6_cooks_35 (by decide) (by first | (unfold InR; omega) | (unfold InR; rcases g2 (by omega) with q2 | q2 <;> omega)) (by first | (unfold InR; omega) | (unfold InR; rcases g2 (by omega) with q2 | q2 <;> omega)) (fun c_35 => ?_) (fun c_35 => ?_)
  · refine P_sub (L' := [(0, vr 0), (1, vi _), (2, vi _)]) [0, 1, 2] rfl ?_
    have e9 : j = s := by omega
    subst e9
    exact kx hm
  · refine P_aload_n (pc := 38) dX6_cooks_38 rfl 0 rfl ?_
    refine P_aload_n (pc := 39) dX6_cooks_39 rfl 0 rfl ?_
    refine P_getR (pc := 40) dX6_cooks_40 fa_RX6_83 sM_0 fM0_33 ?_
    refine P_aload_n (pc := 43) dX6_cooks_43 rfl 0 rfl ?_
    refine P_getR (pc := 44) dX6_cooks_44 fa_RX6_92 sM_0 fM0_36 ?_
    refine P_iload_n (pc := 47) dX6_cooks_47 rfl 3 rfl ?_
    refine P_iald (pc := 48) dX6_cooks_48 sM_28 (by first | omega | (simp only [wr_28]; rw [h28 j (by omega)]; omega)) (by first | omega | (simp only [wr_28]; rw [h28 j (by omega)]; omega)) (by decide) ?_
    try simp only [wr_25, wr_26, wr_27, wr_28, wo_37]
    rw [h28 j (by omega)]
    refine P_iald (pc := 49) dX6_cooks_49 sM_25 (by first | omega | (simp only [wr_28]; rw [h28 j (by omega)]; omega)) (by first | omega | (simp only [wr_28]; rw [h28 j (by omega)]; omega)) (by decide) ?_
    try simp only [wr_25, wr_26, wr_27, wr_28, wo_37]
    rw [h25]
    refine P_aload_n (pc := 50) dX6_cooks_50 rfl 0 rfl ?_
    refine P_getR (pc := 51) dX6_cooks_51 fa_RX6_86 sM_0 fM0_34 ?_
    refine P_aload_n (pc := 54) dX6_cooks_54 rfl 0 rfl ?_
    refine P_getR (pc := 55) dX6_cooks_55 fa_RX6_92 sM_0 fM0_36 ?_
    refine P_iload_n (pc := 58) dX6_cooks_58 rfl 3 rfl ?_
    refine P_iald (pc := 59) dX6_cooks_59 sM_28 (by first | omega | (simp only [wr_28]; rw [h28 j (by omega)]; omega)) (by first | omega | (simp only [wr_28]; rw [h28 j (by omega)]; omega)) (by decide) ?_
    try simp only [wr_25, wr_26, wr_27, wr_28, wo_37]
    rw [h28 j (by omega)]
    refine P_iald (pc := 60) dX6_cooks_60 sM_26 (by first | omega | (simp only [wr_28]; rw [h28 j (by omega)]; omega)) (by first | omega | (simp only [wr_28]; rw [h28 j (by omega)]; omega)) (by decide) ?_
    try simp only [wr_25, wr_26, wr_27, wr_28, wo_37]
    rw [h26]
    refine P_aload_n (pc := 61) dX6_cooks_61 rfl 0 rfl ?_
    refine P_getR (pc := 62) dX6_cooks_62 fa_RX6_89 sM_0 fM0_35 ?_
    refine P_aload_n (pc := 65) dX6_cooks_65 rfl 0 rfl ?_
    refine P_getR (pc := 66) dX6_cooks_66 fa_RX6_92 sM_0 fM0_36 ?_
    refine P_iload_n (pc := 69) dX6_cooks_69 rfl 3 rfl ?_
    refine P_iald (pc := 70) dX6_cooks_70 sM_28 (by first | omega | (simp only [wr_28]; rw [h28 j (by omega)]; omega)) (by first | omega | (simp only [wr_28]; rw [h28 j (by omega)]; omega)) (by decide) ?_
    try simp only [wr_25, wr_26, wr_27, wr_28, wo_37]
    rw [h28 j (by omega)]
    refine P_iald (pc := 71) dX6_cooks_71 sM_27 (by first | omega | (simp only [wr_28]; rw [h28 j (by omega)]; omega)) (by first | omega | (simp only [wr_28]; rw [h28 j (by omega)]; omega)) (by decide) ?_
    try simp only [wr_25, wr_26, wr_27, wr_28, wo_37]
    rw [h27]
    refine P_iconst (pc := 72) dX6_cooks_72 ?_
    refine P_callVv (Y' := mX6_does) (as := [_, _, _, _]) (pc := 73) dX6_cooks_73 rfl (by decide : 2 < 5) sM_0 rfl ml_RX6_211 im_X6_does se_X6_does mk_X6_does (Nat.le_of_ble_eq_true rfl) (c_does hk hK (XOK_ckW hK (s := s) hA5 j (by omega)) (by omega) (by omega) (fun _ => by omega) (fun _ => by omega)) (fun μ_ hq => ?_)
    subst hq
    try simp only [wr_25, wr_26, wr_27, wr_28, wo_37]
    refine P_aload_n (pc := 76) dX6_cooks_76 rfl 0 rfl ?_
    refine P_callVi (Y' := mX6_cleanNow) (as := []) (pc := 77) dX6_cooks_77 rfl (by decide : 0 < 5) sM_0 rfl ml_RX6_248 im_X6_cleanNow se_X6_cleanNow mk_X6_cleanNow (Nat.le_of_ble_eq_true rfl) (c_X6_cleanNow (X := doesX K (ckW K A ln w j) (A 25 (ln (j : Int))) (A 26 (ln (j : Int))) (A 27 (ln (j : Int))) 0) (by rw [← ckW_s]; exact XOK_ckW hK (s := s) hA5 (j + 1) (by omega)) rfl (by simp only [wo_11]; rw [hk11]; exact hK.1)) (fun z_ μ_ hq => ?_)
    obtain ⟨hz, hμ_⟩ := hq
    have hμ_ := hμ_.symm
    subst hμ_
    simp only [wo_11] at hz
    rw [hk11, ← ckW_s] at hz
    subst hz
    try simp only [wr_25, wr_26, wr_27, wr_28, wo_37]
    refine P_iload_n (pc := 80) dX6_cooks_80 rfl 1 rfl ?_
    refine P_iand (pc := 81) dX6_cooks_81 (wN_and) ?_
    refine P_iload_n (pc := 82) dX6_cooks_82 rfl 1 rfl ?_
    refine P_icmp_eq (tgt := 88) (pc := 83) dX6_cooks_83 (by decide) (by first | (unfold InR; omega) | (unfold InR; rcases g2 (by omega) with q2 | q2 <;> omega)) (by first | (unfold InR; omega) | (unfold InR; rcases g2 (by omega) with q2 | q2 <;> omega)) (fun c_83 => ?_) (fun c_83 => ?_)
    · refine P_iinc (L' := [(3, vi _), (0, vr 0), (1, vi _), (2, vi _)]) (pc := 88) dX6_cooks_88 (by decide) 3 rfl rfl ?_
      refine P_goto (tgt := 30) (pc := 91) dX6_cooks_91 (by decide) ?_
      refine P_sub (L' := [(0, vr 0), (1, vi _), (2, vi _), (3, vi _)]) [1, 2, 3, 0] rfl ?_
      refine P_cast (L' := [(0, vr 0), (1, vi (c : Int)), (2, vi w), (3, vi ((j + 1 : Nat) : Int))]) rfl ?_ (ih (j + 1) (by omega) (by omega) (fun m hm2 => ?_))
      · rw [g3]
      · rcases Nat.lt_or_ge m j with q | q
        · exact hm m q
        · have e : m = j := by omega
          subst e
          omega
    · refine P_iconst (pc := 86) dX6_cooks_86 ?_
      exact P_zret (pc := 87) dX6_cooks_87 rfl (by omega) (QI.mk (by first | (refine ⟨?_, PM_setW hP, LF_setW hLF⟩; have e9 : ckB K F A ln c s = false := ckB_f (j := j0) (m := j) (by omega) hl0 (by omega) (by rw [← hj0]; omega); simp only [e9]; rfl) | (have e9 : j = 64 := (by omega); subst e9; refine ⟨?_, hP, hL⟩; have e9 := ckB_t hB; simp only [e9]; rfl)))
set_option maxHeartbeats 1000000 in
set_option maxRecDepth 100000 in
theorem l_X6_cooks2 {μ : Mem} {K F A : Cel} {ln : Int → Int} {c s : Nat} (hk : kd μ.1 = K) (hK : KOK K) (hl : ∀ i : Nat, i < s → 0 ≤ ln (i : Int) ∧ ln (i : Int) < (s : Int)) (hA : SOK A) (hs : A 0 37 = (s : Int)) (hT : A 0 11 = K 0 11) (hc : c < 4096) (h25 : μ.1 25 = A 25) (h26 : μ.1 26 = A 26) (h27 : μ.1 27 = A 27) (h37 : μ.1 0 37 = A 0 37) (h28 : ∀ i : Nat, i < s → μ.1 28 (i : Int) = ln (i : Int)) : ∀ (n j : Nat) (w : Int) (ν : Mem), w = (j : Int) → j ≤ 64 → 64 - j < n → PM μ ν → LF K F 0 ν → (∀ i, i < j → leftB K F 0 i = true → ∀ m, m < s → clN (ckW K A ln (i : Int) (m + 1)) (K 0 11).toNat &&& c = c) → PW shM 5 mX6_cooks 2 [(0, vr 0), (1, vi (c : Int)), (2, vi w)] [] ν (QI (fun z μ' => z = (if ckB K F A ln c s = true then 1 else 0) ∧ PM μ μ' ∧ LF K F 0 μ')) := by
  intro n
  induction n with
  | zero => intro j w ν _ _ q; omega
  | succ n ih =>
  intro j w ν hw hj hn hP hL hB
  have g2 : j < 64 → _ := fun q => LF_l hL hw q
  have hkν := (PM_kd hP).trans hk
  refine P_iload_n (pc := 2) dX6_cooks_2 rfl 2 rfl ?_
  refine P_bipush (pc := 3) dX6_cooks_3 (by decide) ?_
  refine P_icmp_ge (tgt := 100) (pc := 5) dX6_cooks_5 (by decide) (by first | (unfold InR; omega) | (unfold InR; rcases g2 (by omega) with q2 | q2 <;> omega)) (by first | (unfold InR; omega) | (unfold InR; rcases g2 (by omega) with q2 | q2 <;> omega)) (fun c_5 => ?_) (fun c_5 => ?_)
  · refine P_iconst (pc := 100) dX6_cooks_100 ?_
    exact P_zret (pc := 101) dX6_cooks_101 rfl (by omega) (QI.mk (by first | (refine ⟨?_, PM_setW hP, LF_setW hLF⟩; have e9 : ckB K F A ln c s = false := ckB_f (j := j0) (m := j) (by omega) hl0 (by omega) (by rw [← hj0]; omega); simp only [e9]; rfl) | (have e9 : j = 64 := (by omega); subst e9; refine ⟨?_, hP, hL⟩; have e9 := ckB_t hB; simp only [e9]; rfl)))
  · refine P_aload_n (pc := 8) dX6_cooks_8 rfl 0 rfl ?_
    refine P_getR (pc := 9) dX6_cooks_9 fa_RX6_77 sM_0 fM0_29 ?_
    refine P_iload_n (pc := 12) dX6_cooks_12 rfl 2 rfl ?_
    refine P_zald (pc := 13) dX6_cooks_13 sM_23 (by first | omega | (simp only [wr_28]; rw [h28 j (by omega)]; omega)) (by first | omega | (simp only [wr_28]; rw [h28 j (by omega)]; omega)) (by decide) ?_
    try simp only [wr_25, wr_26, wr_27, wr_28, wo_37]
    refine P_if_ne (tgt := 20) (pc := 14) dX6_cooks_14 (by decide) (by first | (unfold InR; omega) | (unfold InR; rcases g2 (by omega) with q2 | q2 <;> omega)) (fun c_14 => ?_) (fun c_14 => ?_)
    · have hl0 : leftB K F 0 j = true := by rcases g2 (by omega) with q2 | q2; omega; exact q2.2
      refine P_aload_n (pc := 20) dX6_cooks_20 rfl 0 rfl ?_
      refine P_iload_n (pc := 21) dX6_cooks_21 rfl 2 rfl ?_
      refine P_bipush (pc := 22) dX6_cooks_22 (by decide) ?_
      refine P_iconst (pc := 24) dX6_cooks_24 ?_
      refine P_callVv (Y' := mX6_runs) (as := [_, _, _]) (pc := 25) dX6_cooks_25 rfl (by decide : 4 < 5) sM_0 rfl ml_RX6_222 im_X6_runs se_X6_runs mk_X6_runs (Nat.le_of_ble_eq_true rfl) (c_X6_runs ((PM_kd hP).trans hk) hK (Or.inl rfl) (by omega) (by omega)) (fun μ_ hq => ?_)
      obtain ⟨S, hS, rfl⟩ := hq
      try simp only [wr_25, wr_26, wr_27, wr_28, wo_37]
      refine P_iconst (pc := 28) dX6_cooks_28 ?_
      refine P_istore_n (L' := [(3, vi _), (0, vr 0), (1, vi _), (2, vi _)]) (pc := 29) dX6_cooks_29 rfl (by decide) rfl ?_
      refine P_sub (L' := [(0, vr 0), (1, vi _), (2, vi _), (3, vi _)]) [1, 2, 3, 0] rfl ?_
      refine l_X6_cooks1 (μ := μ) (A := A) (ln := ln) (j0 := j) hP hkν hK (by omega) hl hA hs hT hc (by rw [hP.cell 25 (by decide)]; exact h25) (by rw [hP.cell 26 (by decide)]; exact h26) (by rw [hP.cell 27 (by decide)]; exact h27) (by rw [hP.num 37 (by decide)]; exact h37) (fun i hi => by rw [hP.c28]; exact h28 i hi) hL hw hl0 ?_ (s + 1) 0 (Nat.zero_le _) (by omega) (fun m hm => absurd hm (Nat.not_lt_zero m))
      intro hm9
      · skip
        refine P_iinc (L' := [(2, vi _), (0, vr 0), (1, vi _)]) (pc := 94) dX6_cooks_94 (by decide) 2 rfl rfl ?_
        refine P_goto (tgt := 2) (pc := 97) dX6_cooks_97 (by decide) ?_
        refine P_sub (L' := [(0, vr 0), (1, vi _), (2, vi _)]) [1, 2, 0] rfl ?_
        first
          | (refine ih (j + 1) (w + 1) ν (by omega) (by omega) (by omega) hP hL (fun i hi hi2 => ?_)
             rcases Nat.lt_or_ge i j with q | q
             · exact hB i q hi2
             · exfalso
               have e : i = j := by omega
               subst e
               rcases g2 (by omega) with q2 | q2
               · rw [q2.2] at hi2; cases hi2
               · omega)
          | (refine ih (j + 1) (w + 1) _ (by omega) (by omega) (by omega) (PM_setW hP) (LF_setW hL) (fun i hi hi2 => ?_)
             rcases Nat.lt_or_ge i j with q | q
             · exact hB i q hi2
             · have e : i = j := by omega
               subst e
               rw [← hw]
               exact hm9)
    · refine P_goto (tgt := 94) (pc := 17) dX6_cooks_17 (by decide) ?_
      refine P_iinc (L' := [(2, vi _), (0, vr 0), (1, vi _)]) (pc := 94) dX6_cooks_94 (by decide) 2 rfl rfl ?_
      refine P_goto (tgt := 2) (pc := 97) dX6_cooks_97 (by decide) ?_
      refine P_sub (L' := [(0, vr 0), (1, vi _), (2, vi _)]) [1, 2, 0] rfl ?_
      first
        | (refine ih (j + 1) (w + 1) ν (by omega) (by omega) (by omega) hP hL (fun i hi hi2 => ?_)
           rcases Nat.lt_or_ge i j with q | q
           · exact hB i q hi2
           · exfalso
             have e : i = j := by omega
             subst e
             rcases g2 (by omega) with q2 | q2
             · rw [q2.2] at hi2; cases hi2
             · omega)
        | (refine ih (j + 1) (w + 1) _ (by omega) (by omega) (by omega) (PM_setW hP) (LF_setW hL) (fun i hi hi2 => ?_)
           rcases Nat.lt_or_ge i j with q | q
           · exact hB i q hi2
           · have e : i = j := by omega
             subst e
             rw [← hw]
             exact hm9)
set_option maxHeartbeats 1000000 in
set_option maxRecDepth 100000 in
theorem c_X6_cooks {μ : Mem} {K : Cel} {F A : Cel} {ln : Int → Int} {c s : Nat} (hk : kd μ.1 = K) (hK : KOK K) (hl : ∀ i : Nat, i < s → 0 ≤ ln (i : Int) ∧ ln (i : Int) < (s : Int)) (hA : SOK A) (hs : A 0 37 = (s : Int)) (hT : A 0 11 = K 0 11) (hc : c < 4096) (h25 : μ.1 25 = A 25) (h26 : μ.1 26 = A 26) (h27 : μ.1 27 = A 27) (h37 : μ.1 0 37 = A 0 37) (h28 : ∀ i : Nat, i < s → μ.1 28 (i : Int) = ln (i : Int)) (hLF : LF K F 0 μ) : PC shM 5 mX6_cooks [vr 0, vi (c : Int)] (μ) (QI (fun z μ' => z = (if ckB K F A ln c s = true then 1 else 0) ∧ PM μ μ' ∧ LF K F 0 μ')) := by
  refine PC.of (by decide +kernel) (Nat.le_of_ble_eq_true rfl) ?_
  refine P_sub (L' := [(0, vr 0), (1, vi (c : Int))]) [0, 1] rfl ?_
  refine P_iconst (pc := 0) dX6_cooks_0 ?_
  refine P_istore_n (L' := [(2, vi _), (0, vr 0), (1, vi _)]) (pc := 1) dX6_cooks_1 rfl (by decide) rfl ?_
  refine P_sub (L' := [(0, vr 0), (1, vi _), (2, vi _)]) [1, 2, 0] rfl ?_
  exact l_X6_cooks2 hk hK hl hA hs hT hc h25 h26 h27 h37 h28 65 0 0 μ rfl (by omega) (by omega) PM.rf hLF (fun i hi => absurd hi (Nat.not_lt_zero i))
