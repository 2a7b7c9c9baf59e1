def keepO (μ : Mem) (v : Int) : Mem := putI (putI μ 30 (μ.1 0 42) v) 0 42 (μ.1 0 42 + 1)
def backO (μ : Mem) : Mem := putI μ 0 42 (μ.1 0 42 + 1)
def pOK (m : Mem) (j : Int) : Mem := putI (keepO m (m.1 0 j)) 0 j (m.1 0 j)
def pOB (m : Mem) (j : Int) : Mem := putI (backO m) 0 j (m.1 30 (m.1 0 42))
def keepR (μ : Mem) : Mem := (keep1 (keep1 (keep1 (keep1 (keep1 (keep1 (keep1 (keep1 (keep1 (keep1 (keep1 (keep1 (keep1 (keep1 (keep1 (keep1 (putI μ 0 42 0) 2 12) 3 12) 4 12) 5 12) 6 3) 7 60) 8 60) 9 60) 10 60) 11 60) 20 12) 21 12) 22 12) 25 5) 26 5) 27 5)
def backR (μ : Mem) : Mem := (back1 (back1 (back1 (back1 (back1 (back1 (back1 (back1 (back1 (back1 (back1 (back1 (back1 (back1 (back1 (back1 (putI μ 0 42 0) 2 12) 3 12) 4 12) 5 12) 6 3) 7 60) 8 60) 9 60) 10 60) 11 60) 20 12) 21 12) 22 12) 25 5) 26 5) 27 5)
def keepAll (μ : Mem) : Mem := pOK (pOK (pOK (pOK (keepR μ) 11) 12) 30) 37
def backAll (μ : Mem) : Mem := pOB (pOB (pOB (pOB (backR μ) 11) 12) 30) 37
theorem pOK_fold {m : Mem} {j : Int} : putI (keepO m (m.1 0 j)) 0 j (m.1 0 j) = pOK m j := rfl
theorem pOB_fold {m : Mem} {j : Int} : putI (backO m) 0 j (m.1 30 (m.1 0 42)) = pOB m j := rfl
theorem pOK_0 {m : Mem} {j i : Int} (h : i ≠ 42) : (pOK m j).1 0 i = m.1 0 i := by
  simp only [pOK, keepO, putI_i]
  by_cases a : i = j
  · subst a; simp
  · simp [a, h]
theorem pOK_42 {m : Mem} {j : Int} (h : j ≠ 42) : (pOK m j).1 0 42 = m.1 0 42 + 1 := by
  have : ¬ (42 : Int) = j := fun e => h e.symm
  simp [pOK, keepO, putI_i, this]
theorem pOK_30 {m : Mem} {j : Int} : (pOK m j).1 30 = updI (m.1 30) (m.1 0 42) (m.1 0 j) := by
  funext t
  simp [pOK, keepO, putI_i, updI]
theorem pOK_q {m : Mem} {j : Int} {q : Nat} (h : q ≠ 0) (h2 : q ≠ 30) : (pOK m j).1 q = m.1 q := by
  funext t
  simp [pOK, keepO, putI_i, h, h2]
theorem pOB_j {m : Mem} {j : Int} : (pOB m j).1 0 j = m.1 30 (m.1 0 42) := by simp [pOB, putI_i]
theorem pOB_0 {m : Mem} {j i : Int} (h : i ≠ 42) (h2 : i ≠ j) : (pOB m j).1 0 i = m.1 0 i := by simp [pOB, backO, putI_i, h, h2]
theorem pOB_42 {m : Mem} {j : Int} (h : j ≠ 42) : (pOB m j).1 0 42 = m.1 0 42 + 1 := by
  have : ¬ (42 : Int) = j := fun e => h e.symm
  simp [pOB, backO, putI_i, this]
theorem pOB_q {m : Mem} {j : Int} {q : Nat} (h : q ≠ 0) : (pOB m j).1 q = m.1 q := by
  funext t
  simp [pOB, backO, putI_i, h]
theorem keep1_0 {μ : Mem} {q : Nat} {n j : Int} (h : j ≠ 42) : (keep1 μ q n).1 0 j = μ.1 0 j := sr_0 h
theorem keep1_30 {μ : Mem} {q : Nat} {n : Int} : (keep1 μ q n).1 30 = kpF (μ.1 q) (μ.1 0 42) n (μ.1 30) := rfl
theorem keep1_q {μ : Mem} {q q' : Nat} {n : Int} (h : q' ≠ 0) (h2 : q' ≠ 30) : (keep1 μ q n).1 q' = μ.1 q' := sr_ne h h2
theorem back1_0 {μ : Mem} {q : Nat} {n j : Int} (h : j ≠ 42) : (back1 μ q n).1 0 j = μ.1 0 j := sr_0 h
theorem back1_s {μ : Mem} {q : Nat} {n : Int} (h : q ≠ 0) : (back1 μ q n).1 q = rsF (μ.1 30) (μ.1 0 42) n (μ.1 q) := sr_q h
theorem back1_q {μ : Mem} {q q' : Nat} {n : Int} (h : q' ≠ 0) (h2 : q' ≠ q) : (back1 μ q n).1 q' = μ.1 q' := sr_ne h h2
theorem putI_nej {μ : Mem} {q : Nat} {j v i : Int} (h : i ≠ j) : (putI μ q j v).1 q i = μ.1 q i := by simp [putI, h]
set_option maxHeartbeats 1000000 in
set_option maxRecDepth 100000 in
theorem c_X6_passOne_1 {μ : Mem} {v : Int} (hk : μ.1 0 41 = 1) (hc : 0 ≤ μ.1 0 42 ∧ μ.1 0 42 + 1 ≤ 500) : PC shM 0 mX6_passOne [vr 0, vi v] (μ) (QI (fun z μ' => z = v ∧ μ' = keepO μ v)) := by
  refine PC.of (by decide +kernel) (Nat.le_of_ble_eq_true rfl) ?_
  refine P_sub (L' := [(0, vr 0), (1, vi v)]) [0, 1] rfl ?_
  refine P_aload_n (pc := 0) dX6_passOne_0 rfl 0 rfl ?_
  refine P_getI (jj := 41) (pc := 1) dX6_passOne_1 fa_RX6_279 sM_0 fM0_41 rfl ?_
  try simp (disch := decide) only [putI_ne, putI_self]
  refine P_if_eq (tgt := 11) (pc := 4) dX6_passOne_4 (by decide) (by unfold InR; omega) (fun c_4 => ?_) (fun c_4 => ?_)
  · exfalso; omega
  · refine P_iload_n (pc := 7) dX6_passOne_7 rfl 1 rfl ?_
    refine P_goto (tgt := 20) (pc := 8) dX6_passOne_8 (by decide) ?_
    refine P_istore_n (L' := [(2, vi _), (0, vr 0), (1, vi _)]) (pc := 20) dX6_passOne_20 rfl (by decide) rfl ?_
    refine P_aload_n (pc := 21) dX6_passOne_21 rfl 1 rfl ?_
    refine P_getI (jj := 41) (pc := 22) dX6_passOne_22 fa_RX6_279 sM_0 fM0_41 rfl ?_
    try simp (disch := decide) only [putI_ne, putI_self]
    refine P_if_eq (tgt := 38) (pc := 25) dX6_passOne_25 (by decide) (by unfold InR; omega) (fun c_25 => ?_) (fun c_25 => ?_)
    · exfalso; omega
    · refine P_aload_n (pc := 28) dX6_passOne_28 rfl 1 rfl ?_
      refine P_getR (pc := 29) dX6_passOne_29 fa_RX6_98 sM_0 fM0_39 ?_
      refine P_aload_n (pc := 32) dX6_passOne_32 rfl 1 rfl ?_
      refine P_getI (jj := 42) (pc := 33) dX6_passOne_33 fa_RX6_282 sM_0 fM0_42 rfl ?_
      try simp (disch := decide) only [putI_ne, putI_self]
      refine P_iload_n (pc := 36) dX6_passOne_36 rfl 2 rfl ?_
      refine P_iast (pc := 37) dX6_passOne_37 sM_30 (by omega) (by omega) (by decide) ?_
      try simp (disch := decide) only [putI_ne, putI_self]
      refine P_aload_n (pc := 38) dX6_passOne_38 rfl 1 rfl ?_
      refine P_dup (pc := 39) dX6_passOne_39 rfl ?_
      refine P_getI (jj := 42) (pc := 40) dX6_passOne_40 fa_RX6_282 sM_0 fM0_42 rfl ?_
      try simp (disch := decide) only [putI_ne, putI_self]
      refine P_iconst (pc := 43) dX6_passOne_43 ?_
      refine P_iadd (pc := 44) dX6_passOne_44 ?_
      refine P_putI (jj := 42) (pc := 45) dX6_passOne_45 fa_RX6_282 fp_6_42 sM_0 fM0_42 rfl ?_
      try simp (disch := decide) only [putI_ne, putI_self]
      refine P_iload_n (pc := 48) dX6_passOne_48 rfl 0 rfl ?_
      exact P_iret (pc := 49) dX6_passOne_49 rfl (QI.mk (by exact ⟨rfl, rfl⟩))
set_option maxHeartbeats 1000000 in
set_option maxRecDepth 100000 in
theorem c_X6_passesAll_1 {μ : Mem} (hk : μ.1 0 41 = 1) : PC shM 1 mX6_passesAll [vr 0] (μ) (QV (fun μ' => μ' = keepAll μ)) := by
  refine PC.of (by decide +kernel) (Nat.le_of_ble_eq_true rfl) ?_
  refine P_sub (L' := [(0, vr 0)]) [0] rfl ?_
  obtain ⟨P, hP⟩ : ∃ P, keepAll μ = P := ⟨_, rfl⟩
  rw [hP]
  refine P_aload_n (pc := 0) dX6_passesAll_0 rfl 0 rfl ?_
  refine P_iconst (pc := 1) dX6_passesAll_1 ?_
  refine P_putI (jj := 42) (pc := 2) dX6_passesAll_2 fa_RX6_282 fp_6_42 sM_0 fM0_42 rfl ?_
  try simp only [pOK_fold, pOB_fold]
  refine P_aload_n (pc := 5) dX6_passesAll_5 rfl 0 rfl ?_
  refine P_aload_n (pc := 6) dX6_passesAll_6 rfl 0 rfl ?_
  refine P_getR (pc := 7) dX6_passesAll_7 fa_RX6_13 sM_0 fM0_1 ?_
  refine P_callVv (Y' := mX6_passes) (as := [_]) (pc := 10) dX6_passesAll_10 rfl (by decide : 0 < 1) sM_0 rfl ml_RX6_285 im_X6_passes se_X6_passes mk_X6_passes (Nat.le_of_ble_eq_true rfl) (c_X6_passes2_1 (by simp (disch := decide) only [keep1_41, keep1_42, back1_41, back1_42, pOK_0, pOK_42, pOB_0, pOB_42, putI_nej, putI_self]; exact hk) (by simp (disch := decide) only [keep1_41, keep1_42, back1_41, back1_42, pOK_0, pOK_42, pOB_0, pOB_42, putI_nej, putI_self]; omega)) (fun μ_ hq => ?_)
  subst hq
  try simp only [pOK_fold, pOB_fold]
  refine P_aload_n (pc := 13) dX6_passesAll_13 rfl 0 rfl ?_
  refine P_aload_n (pc := 14) dX6_passesAll_14 rfl 0 rfl ?_
  refine P_getR (pc := 15) dX6_passesAll_15 fa_RX6_16 sM_0 fM0_2 ?_
  refine P_callVv (Y' := mX6_passes) (as := [_]) (pc := 18) dX6_passesAll_18 rfl (by decide : 0 < 1) sM_0 rfl ml_RX6_285 im_X6_passes se_X6_passes mk_X6_passes (Nat.le_of_ble_eq_true rfl) (c_X6_passes3_1 (by simp (disch := decide) only [keep1_41, keep1_42, back1_41, back1_42, pOK_0, pOK_42, pOB_0, pOB_42, putI_nej, putI_self]; exact hk) (by simp (disch := decide) only [keep1_41, keep1_42, back1_41, back1_42, pOK_0, pOK_42, pOB_0, pOB_42, putI_nej, putI_self]; omega)) (fun μ_ hq => ?_)
  subst hq
  try simp only [pOK_fold, pOB_fold]
  refine P_aload_n (pc := 21) dX6_passesAll_21 rfl 0 rfl ?_
  refine P_aload_n (pc := 22) dX6_passesAll_22 rfl 0 rfl ?_
  refine P_getR (pc := 23) dX6_passesAll_23 fa_RX6_19 sM_0 fM0_3 ?_
  refine P_callVv (Y' := mX6_passes) (as := [_]) (pc := 26) dX6_passesAll_26 rfl (by decide : 0 < 1) sM_0 rfl ml_RX6_285 im_X6_passes se_X6_passes mk_X6_passes (Nat.le_of_ble_eq_true rfl) (c_X6_passes4_1 (by simp (disch := decide) only [keep1_41, keep1_42, back1_41, back1_42, pOK_0, pOK_42, pOB_0, pOB_42, putI_nej, putI_self]; exact hk) (by simp (disch := decide) only [keep1_41, keep1_42, back1_41, back1_42, pOK_0, pOK_42, pOB_0, pOB_42, putI_nej, putI_self]; omega)) (fun μ_ hq => ?_)
  subst hq
  try simp only [pOK_fold, pOB_fold]
  refine P_aload_n (pc := 29) dX6_passesAll_29 rfl 0 rfl ?_
  refine P_aload_n (pc := 30) dX6_passesAll_30 rfl 0 rfl ?_
  refine P_getR (pc := 31) dX6_passesAll_31 fa_RX6_22 sM_0 fM0_4 ?_
  refine P_callVv (Y' := mX6_passes) (as := [_]) (pc := 34) dX6_passesAll_34 rfl (by decide : 0 < 1) sM_0 rfl ml_RX6_285 im_X6_passes se_X6_passes mk_X6_passes (Nat.le_of_ble_eq_true rfl) (c_X6_passes5_1 (by simp (disch := decide) only [keep1_41, keep1_42, back1_41, back1_42, pOK_0, pOK_42, pOB_0, pOB_42, putI_nej, putI_self]; exact hk) (by simp (disch := decide) only [keep1_41, keep1_42, back1_41, back1_42, pOK_0, pOK_42, pOB_0, pOB_42, putI_nej, putI_self]; omega)) (fun μ_ hq => ?_)
  subst hq
  try simp only [pOK_fold, pOB_fold]
  refine P_aload_n (pc := 37) dX6_passesAll_37 rfl 0 rfl ?_
  refine P_aload_n (pc := 38) dX6_passesAll_38 rfl 0 rfl ?_
  refine P_getR (pc := 39) dX6_passesAll_39 fa_RX6_25 sM_0 fM0_5 ?_
  refine P_callVv (Y' := mX6_passes) (as := [_]) (pc := 42) dX6_passesAll_42 rfl (by decide : 0 < 1) sM_0 rfl ml_RX6_285 im_X6_passes se_X6_passes mk_X6_passes (Nat.le_of_ble_eq_true rfl) (c_X6_passes6_1 (by simp (disch := decide) only [keep1_41, keep1_42, back1_41, back1_42, pOK_0, pOK_42, pOB_0, pOB_42, putI_nej, putI_self]; exact hk) (by simp (disch := decide) only [keep1_41, keep1_42, back1_41, back1_42, pOK_0, pOK_42, pOB_0, pOB_42, putI_nej, putI_self]; omega)) (fun μ_ hq => ?_)
  subst hq
  try simp only [pOK_fold, pOB_fold]
  refine P_aload_n (pc := 45) dX6_passesAll_45 rfl 0 rfl ?_
  refine P_aload_n (pc := 46) dX6_passesAll_46 rfl 0 rfl ?_
  refine P_getR (pc := 47) dX6_passesAll_47 fa_RX6_28 sM_0 fM0_6 ?_
  refine P_callVv (Y' := mX6_passes) (as := [_]) (pc := 50) dX6_passesAll_50 rfl (by decide : 0 < 1) sM_0 rfl ml_RX6_285 im_X6_passes se_X6_passes mk_X6_passes (Nat.le_of_ble_eq_true rfl) (c_X6_passes7_1 (by simp (disch := decide) only [keep1_41, keep1_42, back1_41, back1_42, pOK_0, pOK_42, pOB_0, pOB_42, putI_nej, putI_self]; exact hk) (by simp (disch := decide) only [keep1_41, keep1_42, back1_41, back1_42, pOK_0, pOK_42, pOB_0, pOB_42, putI_nej, putI_self]; omega)) (fun μ_ hq => ?_)
  subst hq
  try simp only [pOK_fold, pOB_fold]
  refine P_aload_n (pc := 53) dX6_passesAll_53 rfl 0 rfl ?_
  refine P_aload_n (pc := 54) dX6_passesAll_54 rfl 0 rfl ?_
  refine P_getR (pc := 55) dX6_passesAll_55 fa_RX6_31 sM_0 fM0_7 ?_
  refine P_callVv (Y' := mX6_passes) (as := [_]) (pc := 58) dX6_passesAll_58 rfl (by decide : 0 < 1) sM_0 rfl ml_RX6_285 im_X6_passes se_X6_passes mk_X6_passes (Nat.le_of_ble_eq_true rfl) (c_X6_passes8_1 (by simp (disch := decide) only [keep1_41, keep1_42, back1_41, back1_42, pOK_0, pOK_42, pOB_0, pOB_42, putI_nej, putI_self]; exact hk) (by simp (disch := decide) only [keep1_41, keep1_42, back1_41, back1_42, pOK_0, pOK_42, pOB_0, pOB_42, putI_nej, putI_self]; omega)) (fun μ_ hq => ?_)
  subst hq
  try simp only [pOK_fold, pOB_fold]
  refine P_aload_n (pc := 61) dX6_passesAll_61 rfl 0 rfl ?_
  refine P_aload_n (pc := 62) dX6_passesAll_62 rfl 0 rfl ?_
  refine P_getR (pc := 63) dX6_passesAll_63 fa_RX6_34 sM_0 fM0_8 ?_
  refine P_callVv (Y' := mX6_passes) (as := [_]) (pc := 66) dX6_passesAll_66 rfl (by decide : 0 < 1) sM_0 rfl ml_RX6_285 im_X6_passes se_X6_passes mk_X6_passes (Nat.le_of_ble_eq_true rfl) (c_X6_passes9_1 (by simp (disch := decide) only [keep1_41, keep1_42, back1_41, back1_42, pOK_0, pOK_42, pOB_0, pOB_42, putI_nej, putI_self]; exact hk) (by simp (disch := decide) only [keep1_41, keep1_42, back1_41, back1_42, pOK_0, pOK_42, pOB_0, pOB_42, putI_nej, putI_self]; omega)) (fun μ_ hq => ?_)
  subst hq
  try simp only [pOK_fold, pOB_fold]
  refine P_aload_n (pc := 69) dX6_passesAll_69 rfl 0 rfl ?_
  refine P_aload_n (pc := 70) dX6_passesAll_70 rfl 0 rfl ?_
  refine P_getR (pc := 71) dX6_passesAll_71 fa_RX6_37 sM_0 fM0_9 ?_
  refine P_callVv (Y' := mX6_passes) (as := [_]) (pc := 74) dX6_passesAll_74 rfl (by decide : 0 < 1) sM_0 rfl ml_RX6_285 im_X6_passes se_X6_passes mk_X6_passes (Nat.le_of_ble_eq_true rfl) (c_X6_passes10_1 (by simp (disch := decide) only [keep1_41, keep1_42, back1_41, back1_42, pOK_0, pOK_42, pOB_0, pOB_42, putI_nej, putI_self]; exact hk) (by simp (disch := decide) only [keep1_41, keep1_42, back1_41, back1_42, pOK_0, pOK_42, pOB_0, pOB_42, putI_nej, putI_self]; omega)) (fun μ_ hq => ?_)
  subst hq
  try simp only [pOK_fold, pOB_fold]
  refine P_aload_n (pc := 77) dX6_passesAll_77 rfl 0 rfl ?_
  refine P_aload_n (pc := 78) dX6_passesAll_78 rfl 0 rfl ?_
  refine P_getR (pc := 79) dX6_passesAll_79 fa_RX6_40 sM_0 fM0_10 ?_
  refine P_callVv (Y' := mX6_passes) (as := [_]) (pc := 82) dX6_passesAll_82 rfl (by decide : 0 < 1) sM_0 rfl ml_RX6_285 im_X6_passes se_X6_passes mk_X6_passes (Nat.le_of_ble_eq_true rfl) (c_X6_passes11_1 (by simp (disch := decide) only [keep1_41, keep1_42, back1_41, back1_42, pOK_0, pOK_42, pOB_0, pOB_42, putI_nej, putI_self]; exact hk) (by simp (disch := decide) only [keep1_41, keep1_42, back1_41, back1_42, pOK_0, pOK_42, pOB_0, pOB_42, putI_nej, putI_self]; omega)) (fun μ_ hq => ?_)
  subst hq
  try simp only [pOK_fold, pOB_fold]
  refine P_aload_n (pc := 85) dX6_passesAll_85 rfl 0 rfl ?_
  refine P_aload_n (pc := 86) dX6_passesAll_86 rfl 0 rfl ?_
  refine P_getR (pc := 87) dX6_passesAll_87 fa_RX6_68 sM_0 fM0_26 ?_
  refine P_callVv (Y' := mX6_passes) (as := [_]) (pc := 90) dX6_passesAll_90 rfl (by decide : 0 < 1) sM_0 rfl ml_RX6_285 im_X6_passes se_X6_passes mk_X6_passes (Nat.le_of_ble_eq_true rfl) (c_X6_passes20_1 (by simp (disch := decide) only [keep1_41, keep1_42, back1_41, back1_42, pOK_0, pOK_42, pOB_0, pOB_42, putI_nej, putI_self]; exact hk) (by simp (disch := decide) only [keep1_41, keep1_42, back1_41, back1_42, pOK_0, pOK_42, pOB_0, pOB_42, putI_nej, putI_self]; omega)) (fun μ_ hq => ?_)
  subst hq
  try simp only [pOK_fold, pOB_fold]
  refine P_aload_n (pc := 93) dX6_passesAll_93 rfl 0 rfl ?_
  refine P_aload_n (pc := 94) dX6_passesAll_94 rfl 0 rfl ?_
  refine P_getR (pc := 95) dX6_passesAll_95 fa_RX6_71 sM_0 fM0_27 ?_
  refine P_callVv (Y' := mX6_passes) (as := [_]) (pc := 98) dX6_passesAll_98 rfl (by decide : 0 < 1) sM_0 rfl ml_RX6_285 im_X6_passes se_X6_passes mk_X6_passes (Nat.le_of_ble_eq_true rfl) (c_X6_passes21_1 (by simp (disch := decide) only [keep1_41, keep1_42, back1_41, back1_42, pOK_0, pOK_42, pOB_0, pOB_42, putI_nej, putI_self]; exact hk) (by simp (disch := decide) only [keep1_41, keep1_42, back1_41, back1_42, pOK_0, pOK_42, pOB_0, pOB_42, putI_nej, putI_self]; omega)) (fun μ_ hq => ?_)
  subst hq
  try simp only [pOK_fold, pOB_fold]
  refine P_aload_n (pc := 101) dX6_passesAll_101 rfl 0 rfl ?_
  refine P_aload_n (pc := 102) dX6_passesAll_102 rfl 0 rfl ?_
  refine P_getR (pc := 103) dX6_passesAll_103 fa_RX6_74 sM_0 fM0_28 ?_
  refine P_callVv (Y' := mX6_passes) (as := [_]) (pc := 106) dX6_passesAll_106 rfl (by decide : 0 < 1) sM_0 rfl ml_RX6_285 im_X6_passes se_X6_passes mk_X6_passes (Nat.le_of_ble_eq_true rfl) (c_X6_passes22_1 (by simp (disch := decide) only [keep1_41, keep1_42, back1_41, back1_42, pOK_0, pOK_42, pOB_0, pOB_42, putI_nej, putI_self]; exact hk) (by simp (disch := decide) only [keep1_41, keep1_42, back1_41, back1_42, pOK_0, pOK_42, pOB_0, pOB_42, putI_nej, putI_self]; omega)) (fun μ_ hq => ?_)
  subst hq
  try simp only [pOK_fold, pOB_fold]
  refine P_aload_n (pc := 109) dX6_passesAll_109 rfl 0 rfl ?_
  refine P_aload_n (pc := 110) dX6_passesAll_110 rfl 0 rfl ?_
  refine P_getR (pc := 111) dX6_passesAll_111 fa_RX6_83 sM_0 fM0_33 ?_
  refine P_callVv (Y' := mX6_passes) (as := [_]) (pc := 114) dX6_passesAll_114 rfl (by decide : 0 < 1) sM_0 rfl ml_RX6_285 im_X6_passes se_X6_passes mk_X6_passes (Nat.le_of_ble_eq_true rfl) (c_X6_passes25_1 (by simp (disch := decide) only [keep1_41, keep1_42, back1_41, back1_42, pOK_0, pOK_42, pOB_0, pOB_42, putI_nej, putI_self]; exact hk) (by simp (disch := decide) only [keep1_41, keep1_42, back1_41, back1_42, pOK_0, pOK_42, pOB_0, pOB_42, putI_nej, putI_self]; omega)) (fun μ_ hq => ?_)
  subst hq
  try simp only [pOK_fold, pOB_fold]
  refine P_aload_n (pc := 117) dX6_passesAll_117 rfl 0 rfl ?_
  refine P_aload_n (pc := 118) dX6_passesAll_118 rfl 0 rfl ?_
  refine P_getR (pc := 119) dX6_passesAll_119 fa_RX6_86 sM_0 fM0_34 ?_
  refine P_callVv (Y' := mX6_passes) (as := [_]) (pc := 122) dX6_passesAll_122 rfl (by decide : 0 < 1) sM_0 rfl ml_RX6_285 im_X6_passes se_X6_passes mk_X6_passes (Nat.le_of_ble_eq_true rfl) (c_X6_passes26_1 (by simp (disch := decide) only [keep1_41, keep1_42, back1_41, back1_42, pOK_0, pOK_42, pOB_0, pOB_42, putI_nej, putI_self]; exact hk) (by simp (disch := decide) only [keep1_41, keep1_42, back1_41, back1_42, pOK_0, pOK_42, pOB_0, pOB_42, putI_nej, putI_self]; omega)) (fun μ_ hq => ?_)
  subst hq
  try simp only [pOK_fold, pOB_fold]
  refine P_aload_n (pc := 125) dX6_passesAll_125 rfl 0 rfl ?_
  refine P_aload_n (pc := 126) dX6_passesAll_126 rfl 0 rfl ?_
  refine P_getR (pc := 127) dX6_passesAll_127 fa_RX6_89 sM_0 fM0_35 ?_
  refine P_callVv (Y' := mX6_passes) (as := [_]) (pc := 130) dX6_passesAll_130 rfl (by decide : 0 < 1) sM_0 rfl ml_RX6_285 im_X6_passes se_X6_passes mk_X6_passes (Nat.le_of_ble_eq_true rfl) (c_X6_passes27_1 (by simp (disch := decide) only [keep1_41, keep1_42, back1_41, back1_42, pOK_0, pOK_42, pOB_0, pOB_42, putI_nej, putI_self]; exact hk) (by simp (disch := decide) only [keep1_41, keep1_42, back1_41, back1_42, pOK_0, pOK_42, pOB_0, pOB_42, putI_nej, putI_self]; omega)) (fun μ_ hq => ?_)
  subst hq
  try simp only [pOK_fold, pOB_fold]
  refine P_aload_n (pc := 133) dX6_passesAll_133 rfl 0 rfl ?_
  refine P_aload_n (pc := 134) dX6_passesAll_134 rfl 0 rfl ?_
  refine P_aload_n (pc := 135) dX6_passesAll_135 rfl 0 rfl ?_
  refine P_getI (jj := 11) (pc := 136) dX6_passesAll_136 fa_RX6_101 sM_0 fM0_11 rfl ?_
  try simp only [pOK_fold, pOB_fold]
  refine P_callVi (Y' := mX6_passOne) (as := [_]) (pc := 139) dX6_passesAll_139 rfl (by decide : 0 < 1) sM_0 rfl ml_RX6_289 im_X6_passOne se_X6_passOne mk_X6_passOne (Nat.le_of_ble_eq_true rfl) (c_X6_passOne_1 (by simp (disch := decide) only [keep1_41, keep1_42, back1_41, back1_42, pOK_0, pOK_42, pOB_0, pOB_42, putI_nej, putI_self]; exact hk) (by simp (disch := decide) only [keep1_41, keep1_42, back1_41, back1_42, pOK_0, pOK_42, pOB_0, pOB_42, putI_nej, putI_self]; omega)) (fun z_ μ_ hq => ?_)
  obtain ⟨rfl, hμ_⟩ := hq
  subst hμ_
  try simp only [pOK_fold, pOB_fold]
  refine P_putI (jj := 11) (pc := 142) dX6_passesAll_142 fa_RX6_101 fp_6_11 sM_0 fM0_11 rfl ?_
  try simp only [pOK_fold, pOB_fold]
  refine P_aload_n (pc := 145) dX6_passesAll_145 rfl 0 rfl ?_
  refine P_aload_n (pc := 146) dX6_passesAll_146 rfl 0 rfl ?_
  refine P_aload_n (pc := 147) dX6_passesAll_147 rfl 0 rfl ?_
  refine P_getI (jj := 12) (pc := 148) dX6_passesAll_148 fa_RX6_125 sM_0 fM0_12 rfl ?_
  try simp only [pOK_fold, pOB_fold]
  refine P_callVi (Y' := mX6_passOne) (as := [_]) (pc := 151) dX6_passesAll_151 rfl (by decide : 0 < 1) sM_0 rfl ml_RX6_289 im_X6_passOne se_X6_passOne mk_X6_passOne (Nat.le_of_ble_eq_true rfl) (c_X6_passOne_1 (by simp (disch := decide) only [keep1_41, keep1_42, back1_41, back1_42, pOK_0, pOK_42, pOB_0, pOB_42, putI_nej, putI_self]; exact hk) (by simp (disch := decide) only [keep1_41, keep1_42, back1_41, back1_42, pOK_0, pOK_42, pOB_0, pOB_42, putI_nej, putI_self]; omega)) (fun z_ μ_ hq => ?_)
  obtain ⟨rfl, hμ_⟩ := hq
  subst hμ_
  try simp only [pOK_fold, pOB_fold]
  refine P_putI (jj := 12) (pc := 154) dX6_passesAll_154 fa_RX6_125 fp_6_12 sM_0 fM0_12 rfl ?_
  try simp only [pOK_fold, pOB_fold]
  refine P_aload_n (pc := 157) dX6_passesAll_157 rfl 0 rfl ?_
  refine P_aload_n (pc := 158) dX6_passesAll_158 rfl 0 rfl ?_
  refine P_aload_n (pc := 159) dX6_passesAll_159 rfl 0 rfl ?_
  refine P_getI (jj := 30) (pc := 160) dX6_passesAll_160 fa_RX6_226 sM_0 fM0_30 rfl ?_
  try simp only [pOK_fold, pOB_fold]
  refine P_callVi (Y' := mX6_passOne) (as := [_]) (pc := 163) dX6_passesAll_163 rfl (by decide : 0 < 1) sM_0 rfl ml_RX6_289 im_X6_passOne se_X6_passOne mk_X6_passOne (Nat.le_of_ble_eq_true rfl) (c_X6_passOne_1 (by simp (disch := decide) only [keep1_41, keep1_42, back1_41, back1_42, pOK_0, pOK_42, pOB_0, pOB_42, putI_nej, putI_self]; exact hk) (by simp (disch := decide) only [keep1_41, keep1_42, back1_41, back1_42, pOK_0, pOK_42, pOB_0, pOB_42, putI_nej, putI_self]; omega)) (fun z_ μ_ hq => ?_)
  obtain ⟨rfl, hμ_⟩ := hq
  subst hμ_
  try simp only [pOK_fold, pOB_fold]
  refine P_putI (jj := 30) (pc := 166) dX6_passesAll_166 fa_RX6_226 fp_6_30 sM_0 fM0_30 rfl ?_
  try simp only [pOK_fold, pOB_fold]
  refine P_aload_n (pc := 169) dX6_passesAll_169 rfl 0 rfl ?_
  refine P_aload_n (pc := 170) dX6_passesAll_170 rfl 0 rfl ?_
  refine P_aload_n (pc := 171) dX6_passesAll_171 rfl 0 rfl ?_
  refine P_getI (jj := 37) (pc := 172) dX6_passesAll_172 fa_RX6_270 sM_0 fM0_37 rfl ?_
  try simp only [pOK_fold, pOB_fold]
  refine P_callVi (Y' := mX6_passOne) (as := [_]) (pc := 175) dX6_passesAll_175 rfl (by decide : 0 < 1) sM_0 rfl ml_RX6_289 im_X6_passOne se_X6_passOne mk_X6_passOne (Nat.le_of_ble_eq_true rfl) (c_X6_passOne_1 (by simp (disch := decide) only [keep1_41, keep1_42, back1_41, back1_42, pOK_0, pOK_42, pOB_0, pOB_42, putI_nej, putI_self]; exact hk) (by simp (disch := decide) only [keep1_41, keep1_42, back1_41, back1_42, pOK_0, pOK_42, pOB_0, pOB_42, putI_nej, putI_self]; omega)) (fun z_ μ_ hq => ?_)
  obtain ⟨rfl, hμ_⟩ := hq
  subst hμ_
  try simp only [pOK_fold, pOB_fold]
  refine P_putI (jj := 37) (pc := 178) dX6_passesAll_178 fa_RX6_270 fp_6_37 sM_0 fM0_37 rfl ?_
  try simp only [pOK_fold, pOB_fold]
  exact P_vret (pc := 181) dX6_passesAll_181 rfl (QV.mk (by exact hP))
set_option maxHeartbeats 1000000 in
set_option maxRecDepth 100000 in
theorem c_X6_passOne_0 {μ : Mem} {v : Int} (hk : μ.1 0 41 = 0) (hc : 0 ≤ μ.1 0 42 ∧ μ.1 0 42 + 1 ≤ 500) : PC shM 0 mX6_passOne [vr 0, vi v] (μ) (QI (fun z μ' => z = μ.1 30 (μ.1 0 42) ∧ μ' = backO μ)) := by
  refine PC.of (by decide +kernel) (Nat.le_of_ble_eq_true rfl) ?_
  refine P_sub (L' := [(0, vr 0), (1, vi v)]) [0, 1] rfl ?_
  refine P_aload_n (pc := 0) dX6_passOne_0 rfl 0 rfl ?_
  refine P_getI (jj := 41) (pc := 1) dX6_passOne_1 fa_RX6_279 sM_0 fM0_41 rfl ?_
  try simp (disch := decide) only [putI_ne, putI_self]
  refine P_if_eq (tgt := 11) (pc := 4) dX6_passOne_4 (by decide) (by unfold InR; omega) (fun c_4 => ?_) (fun c_4 => ?_)
  · refine P_aload_n (pc := 11) dX6_passOne_11 rfl 0 rfl ?_
    refine P_getR (pc := 12) dX6_passOne_12 fa_RX6_98 sM_0 fM0_39 ?_
    refine P_aload_n (pc := 15) dX6_passOne_15 rfl 0 rfl ?_
    refine P_getI (jj := 42) (pc := 16) dX6_passOne_16 fa_RX6_282 sM_0 fM0_42 rfl ?_
    try simp (disch := decide) only [putI_ne, putI_self]
    refine P_iald (pc := 19) dX6_passOne_19 sM_30 (by omega) (by omega) (by decide) ?_
    try simp (disch := decide) only [putI_ne, putI_self]
    refine P_istore_n (L' := [(2, vi _), (0, vr 0), (1, vi _)]) (pc := 20) dX6_passOne_20 rfl (by decide) rfl ?_
    refine P_aload_n (pc := 21) dX6_passOne_21 rfl 1 rfl ?_
    refine P_getI (jj := 41) (pc := 22) dX6_passOne_22 fa_RX6_279 sM_0 fM0_41 rfl ?_
    try simp (disch := decide) only [putI_ne, putI_self]
    refine P_if_eq (tgt := 38) (pc := 25) dX6_passOne_25 (by decide) (by unfold InR; omega) (fun c_25 => ?_) (fun c_25 => ?_)
    · refine P_aload_n (pc := 38) dX6_passOne_38 rfl 1 rfl ?_
      refine P_dup (pc := 39) dX6_passOne_39 rfl ?_
      refine P_getI (jj := 42) (pc := 40) dX6_passOne_40 fa_RX6_282 sM_0 fM0_42 rfl ?_
      try simp (disch := decide) only [putI_ne, putI_self]
      refine P_iconst (pc := 43) dX6_passOne_43 ?_
      refine P_iadd (pc := 44) dX6_passOne_44 ?_
      refine P_putI (jj := 42) (pc := 45) dX6_passOne_45 fa_RX6_282 fp_6_42 sM_0 fM0_42 rfl ?_
      try simp (disch := decide) only [putI_ne, putI_self]
      refine P_iload_n (pc := 48) dX6_passOne_48 rfl 0 rfl ?_
      exact P_iret (pc := 49) dX6_passOne_49 rfl (QI.mk (by exact ⟨rfl, rfl⟩))
    · exfalso; omega
  · exfalso; omega
set_option maxHeartbeats 1000000 in
set_option maxRecDepth 100000 in
theorem c_X6_passesAll_0 {μ : Mem} (hk : μ.1 0 41 = 0) : PC shM 1 mX6_passesAll [vr 0] (μ) (QV (fun μ' => μ' = backAll μ)) := by
  refine PC.of (by decide +kernel) (Nat.le_of_ble_eq_true rfl) ?_
  refine P_sub (L' := [(0, vr 0)]) [0] rfl ?_
  obtain ⟨P, hP⟩ : ∃ P, backAll μ = P := ⟨_, rfl⟩
  rw [hP]
  refine P_aload_n (pc := 0) dX6_passesAll_0 rfl 0 rfl ?_
  refine P_iconst (pc := 1) dX6_passesAll_1 ?_
  refine P_putI (jj := 42) (pc := 2) dX6_passesAll_2 fa_RX6_282 fp_6_42 sM_0 fM0_42 rfl ?_
  try simp only [pOK_fold, pOB_fold]
  refine P_aload_n (pc := 5) dX6_passesAll_5 rfl 0 rfl ?_
  refine P_aload_n (pc := 6) dX6_passesAll_6 rfl 0 rfl ?_
  refine P_getR (pc := 7) dX6_passesAll_7 fa_RX6_13 sM_0 fM0_1 ?_
  refine P_callVv (Y' := mX6_passes) (as := [_]) (pc := 10) dX6_passesAll_10 rfl (by decide : 0 < 1) sM_0 rfl ml_RX6_285 im_X6_passes se_X6_passes mk_X6_passes (Nat.le_of_ble_eq_true rfl) (c_X6_passes2_0 (by simp (disch := decide) only [keep1_41, keep1_42, back1_41, back1_42, pOK_0, pOK_42, pOB_0, pOB_42, putI_nej, putI_self]; exact hk) (by simp (disch := decide) only [keep1_41, keep1_42, back1_41, back1_42, pOK_0, pOK_42, pOB_0, pOB_42, putI_nej, putI_self]; omega)) (fun μ_ hq => ?_)
  subst hq
  try simp only [pOK_fold, pOB_fold]
  refine P_aload_n (pc := 13) dX6_passesAll_13 rfl 0 rfl ?_
  refine P_aload_n (pc := 14) dX6_passesAll_14 rfl 0 rfl ?_
  refine P_getR (pc := 15) dX6_passesAll_15 fa_RX6_16 sM_0 fM0_2 ?_
  refine P_callVv (Y' := mX6_passes) (as := [_]) (pc := 18) dX6_passesAll_18 rfl (by decide : 0 < 1) sM_0 rfl ml_RX6_285 im_X6_passes se_X6_passes mk_X6_passes (Nat.le_of_ble_eq_true rfl) (c_X6_passes3_0 (by simp (disch := decide) only [keep1_41, keep1_42, back1_41, back1_42, pOK_0, pOK_42, pOB_0, pOB_42, putI_nej, putI_self]; exact hk) (by simp (disch := decide) only [keep1_41, keep1_42, back1_41, back1_42, pOK_0, pOK_42, pOB_0, pOB_42, putI_nej, putI_self]; omega)) (fun μ_ hq => ?_)
  subst hq
  try simp only [pOK_fold, pOB_fold]
  refine P_aload_n (pc := 21) dX6_passesAll_21 rfl 0 rfl ?_
  refine P_aload_n (pc := 22) dX6_passesAll_22 rfl 0 rfl ?_
  refine P_getR (pc := 23) dX6_passesAll_23 fa_RX6_19 sM_0 fM0_3 ?_
  refine P_callVv (Y' := mX6_passes) (as := [_]) (pc := 26) dX6_passesAll_26 rfl (by decide : 0 < 1) sM_0 rfl ml_RX6_285 im_X6_passes se_X6_passes mk_X6_passes (Nat.le_of_ble_eq_true rfl) (c_X6_passes4_0 (by simp (disch := decide) only [keep1_41, keep1_42, back1_41, back1_42, pOK_0, pOK_42, pOB_0, pOB_42, putI_nej, putI_self]; exact hk) (by simp (disch := decide) only [keep1_41, keep1_42, back1_41, back1_42, pOK_0, pOK_42, pOB_0, pOB_42, putI_nej, putI_self]; omega)) (fun μ_ hq => ?_)
  subst hq
  try simp only [pOK_fold, pOB_fold]
  refine P_aload_n (pc := 29) dX6_passesAll_29 rfl 0 rfl ?_
  refine P_aload_n (pc := 30) dX6_passesAll_30 rfl 0 rfl ?_
  refine P_getR (pc := 31) dX6_passesAll_31 fa_RX6_22 sM_0 fM0_4 ?_
  refine P_callVv (Y' := mX6_passes) (as := [_]) (pc := 34) dX6_passesAll_34 rfl (by decide : 0 < 1) sM_0 rfl ml_RX6_285 im_X6_passes se_X6_passes mk_X6_passes (Nat.le_of_ble_eq_true rfl) (c_X6_passes5_0 (by simp (disch := decide) only [keep1_41, keep1_42, back1_41, back1_42, pOK_0, pOK_42, pOB_0, pOB_42, putI_nej, putI_self]; exact hk) (by simp (disch := decide) only [keep1_41, keep1_42, back1_41, back1_42, pOK_0, pOK_42, pOB_0, pOB_42, putI_nej, putI_self]; omega)) (fun μ_ hq => ?_)
  subst hq
  try simp only [pOK_fold, pOB_fold]
  refine P_aload_n (pc := 37) dX6_passesAll_37 rfl 0 rfl ?_
  refine P_aload_n (pc := 38) dX6_passesAll_38 rfl 0 rfl ?_
  refine P_getR (pc := 39) dX6_passesAll_39 fa_RX6_25 sM_0 fM0_5 ?_
  refine P_callVv (Y' := mX6_passes) (as := [_]) (pc := 42) dX6_passesAll_42 rfl (by decide : 0 < 1) sM_0 rfl ml_RX6_285 im_X6_passes se_X6_passes mk_X6_passes (Nat.le_of_ble_eq_true rfl) (c_X6_passes6_0 (by simp (disch := decide) only [keep1_41, keep1_42, back1_41, back1_42, pOK_0, pOK_42, pOB_0, pOB_42, putI_nej, putI_self]; exact hk) (by simp (disch := decide) only [keep1_41, keep1_42, back1_41, back1_42, pOK_0, pOK_42, pOB_0, pOB_42, putI_nej, putI_self]; omega)) (fun μ_ hq => ?_)
  subst hq
  try simp only [pOK_fold, pOB_fold]
  refine P_aload_n (pc := 45) dX6_passesAll_45 rfl 0 rfl ?_
  refine P_aload_n (pc := 46) dX6_passesAll_46 rfl 0 rfl ?_
  refine P_getR (pc := 47) dX6_passesAll_47 fa_RX6_28 sM_0 fM0_6 ?_
  refine P_callVv (Y' := mX6_passes) (as := [_]) (pc := 50) dX6_passesAll_50 rfl (by decide : 0 < 1) sM_0 rfl ml_RX6_285 im_X6_passes se_X6_passes mk_X6_passes (Nat.le_of_ble_eq_true rfl) (c_X6_passes7_0 (by simp (disch := decide) only [keep1_41, keep1_42, back1_41, back1_42, pOK_0, pOK_42, pOB_0, pOB_42, putI_nej, putI_self]; exact hk) (by simp (disch := decide) only [keep1_41, keep1_42, back1_41, back1_42, pOK_0, pOK_42, pOB_0, pOB_42, putI_nej, putI_self]; omega)) (fun μ_ hq => ?_)
  subst hq
  try simp only [pOK_fold, pOB_fold]
  refine P_aload_n (pc := 53) dX6_passesAll_53 rfl 0 rfl ?_
  refine P_aload_n (pc := 54) dX6_passesAll_54 rfl 0 rfl ?_
  refine P_getR (pc := 55) dX6_passesAll_55 fa_RX6_31 sM_0 fM0_7 ?_
  refine P_callVv (Y' := mX6_passes) (as := [_]) (pc := 58) dX6_passesAll_58 rfl (by decide : 0 < 1) sM_0 rfl ml_RX6_285 im_X6_passes se_X6_passes mk_X6_passes (Nat.le_of_ble_eq_true rfl) (c_X6_passes8_0 (by simp (disch := decide) only [keep1_41, keep1_42, back1_41, back1_42, pOK_0, pOK_42, pOB_0, pOB_42, putI_nej, putI_self]; exact hk) (by simp (disch := decide) only [keep1_41, keep1_42, back1_41, back1_42, pOK_0, pOK_42, pOB_0, pOB_42, putI_nej, putI_self]; omega)) (fun μ_ hq => ?_)
  subst hq
  try simp only [pOK_fold, pOB_fold]
  refine P_aload_n (pc := 61) dX6_passesAll_61 rfl 0 rfl ?_
  refine P_aload_n (pc := 62) dX6_passesAll_62 rfl 0 rfl ?_
  refine P_getR (pc := 63) dX6_passesAll_63 fa_RX6_34 sM_0 fM0_8 ?_
  refine P_callVv (Y' := mX6_passes) (as := [_]) (pc := 66) dX6_passesAll_66 rfl (by decide : 0 < 1) sM_0 rfl ml_RX6_285 im_X6_passes se_X6_passes mk_X6_passes (Nat.le_of_ble_eq_true rfl) (c_X6_passes9_0 (by simp (disch := decide) only [keep1_41, keep1_42, back1_41, back1_42, pOK_0, pOK_42, pOB_0, pOB_42, putI_nej, putI_self]; exact hk) (by simp (disch := decide) only [keep1_41, keep1_42, back1_41, back1_42, pOK_0, pOK_42, pOB_0, pOB_42, putI_nej, putI_self]; omega)) (fun μ_ hq => ?_)
  subst hq
  try simp only [pOK_fold, pOB_fold]
  refine P_aload_n (pc := 69) dX6_passesAll_69 rfl 0 rfl ?_
  refine P_aload_n (pc := 70) dX6_passesAll_70 rfl 0 rfl ?_
  refine P_getR (pc := 71) dX6_passesAll_71 fa_RX6_37 sM_0 fM0_9 ?_
  refine P_callVv (Y' := mX6_passes) (as := [_]) (pc := 74) dX6_passesAll_74 rfl (by decide : 0 < 1) sM_0 rfl ml_RX6_285 im_X6_passes se_X6_passes mk_X6_passes (Nat.le_of_ble_eq_true rfl) (c_X6_passes10_0 (by simp (disch := decide) only [keep1_41, keep1_42, back1_41, back1_42, pOK_0, pOK_42, pOB_0, pOB_42, putI_nej, putI_self]; exact hk) (by simp (disch := decide) only [keep1_41, keep1_42, back1_41, back1_42, pOK_0, pOK_42, pOB_0, pOB_42, putI_nej, putI_self]; omega)) (fun μ_ hq => ?_)
  subst hq
  try simp only [pOK_fold, pOB_fold]
  refine P_aload_n (pc := 77) dX6_passesAll_77 rfl 0 rfl ?_
  refine P_aload_n (pc := 78) dX6_passesAll_78 rfl 0 rfl ?_
  refine P_getR (pc := 79) dX6_passesAll_79 fa_RX6_40 sM_0 fM0_10 ?_
  refine P_callVv (Y' := mX6_passes) (as := [_]) (pc := 82) dX6_passesAll_82 rfl (by decide : 0 < 1) sM_0 rfl ml_RX6_285 im_X6_passes se_X6_passes mk_X6_passes (Nat.le_of_ble_eq_true rfl) (c_X6_passes11_0 (by simp (disch := decide) only [keep1_41, keep1_42, back1_41, back1_42, pOK_0, pOK_42, pOB_0, pOB_42, putI_nej, putI_self]; exact hk) (by simp (disch := decide) only [keep1_41, keep1_42, back1_41, back1_42, pOK_0, pOK_42, pOB_0, pOB_42, putI_nej, putI_self]; omega)) (fun μ_ hq => ?_)
  subst hq
  try simp only [pOK_fold, pOB_fold]
  refine P_aload_n (pc := 85) dX6_passesAll_85 rfl 0 rfl ?_
  refine P_aload_n (pc := 86) dX6_passesAll_86 rfl 0 rfl ?_
  refine P_getR (pc := 87) dX6_passesAll_87 fa_RX6_68 sM_0 fM0_26 ?_
  refine P_callVv (Y' := mX6_passes) (as := [_]) (pc := 90) dX6_passesAll_90 rfl (by decide : 0 < 1) sM_0 rfl ml_RX6_285 im_X6_passes se_X6_passes mk_X6_passes (Nat.le_of_ble_eq_true rfl) (c_X6_passes20_0 (by simp (disch := decide) only [keep1_41, keep1_42, back1_41, back1_42, pOK_0, pOK_42, pOB_0, pOB_42, putI_nej, putI_self]; exact hk) (by simp (disch := decide) only [keep1_41, keep1_42, back1_41, back1_42, pOK_0, pOK_42, pOB_0, pOB_42, putI_nej, putI_self]; omega)) (fun μ_ hq => ?_)
  subst hq
  try simp only [pOK_fold, pOB_fold]
  refine P_aload_n (pc := 93) dX6_passesAll_93 rfl 0 rfl ?_
  refine P_aload_n (pc := 94) dX6_passesAll_94 rfl 0 rfl ?_
  refine P_getR (pc := 95) dX6_passesAll_95 fa_RX6_71 sM_0 fM0_27 ?_
  refine P_callVv (Y' := mX6_passes) (as := [_]) (pc := 98) dX6_passesAll_98 rfl (by decide : 0 < 1) sM_0 rfl ml_RX6_285 im_X6_passes se_X6_passes mk_X6_passes (Nat.le_of_ble_eq_true rfl) (c_X6_passes21_0 (by simp (disch := decide) only [keep1_41, keep1_42, back1_41, back1_42, pOK_0, pOK_42, pOB_0, pOB_42, putI_nej, putI_self]; exact hk) (by simp (disch := decide) only [keep1_41, keep1_42, back1_41, back1_42, pOK_0, pOK_42, pOB_0, pOB_42, putI_nej, putI_self]; omega)) (fun μ_ hq => ?_)
  subst hq
  try simp only [pOK_fold, pOB_fold]
  refine P_aload_n (pc := 101) dX6_passesAll_101 rfl 0 rfl ?_
  refine P_aload_n (pc := 102) dX6_passesAll_102 rfl 0 rfl ?_
  refine P_getR (pc := 103) dX6_passesAll_103 fa_RX6_74 sM_0 fM0_28 ?_
  refine P_callVv (Y' := mX6_passes) (as := [_]) (pc := 106) dX6_passesAll_106 rfl (by decide : 0 < 1) sM_0 rfl ml_RX6_285 im_X6_passes se_X6_passes mk_X6_passes (Nat.le_of_ble_eq_true rfl) (c_X6_passes22_0 (by simp (disch := decide) only [keep1_41, keep1_42, back1_41, back1_42, pOK_0, pOK_42, pOB_0, pOB_42, putI_nej, putI_self]; exact hk) (by simp (disch := decide) only [keep1_41, keep1_42, back1_41, back1_42, pOK_0, pOK_42, pOB_0, pOB_42, putI_nej, putI_self]; omega)) (fun μ_ hq => ?_)
  subst hq
  try simp only [pOK_fold, pOB_fold]
  refine P_aload_n (pc := 109) dX6_passesAll_109 rfl 0 rfl ?_
  refine P_aload_n (pc := 110) dX6_passesAll_110 rfl 0 rfl ?_
  refine P_getR (pc := 111) dX6_passesAll_111 fa_RX6_83 sM_0 fM0_33 ?_
  refine P_callVv (Y' := mX6_passes) (as := [_]) (pc := 114) dX6_passesAll_114 rfl (by decide : 0 < 1) sM_0 rfl ml_RX6_285 im_X6_passes se_X6_passes mk_X6_passes (Nat.le_of_ble_eq_true rfl) (c_X6_passes25_0 (by simp (disch := decide) only [keep1_41, keep1_42, back1_41, back1_42, pOK_0, pOK_42, pOB_0, pOB_42, putI_nej, putI_self]; exact hk) (by simp (disch := decide) only [keep1_41, keep1_42, back1_41, back1_42, pOK_0, pOK_42, pOB_0, pOB_42, putI_nej, putI_self]; omega)) (fun μ_ hq => ?_)
  subst hq
  try simp only [pOK_fold, pOB_fold]
  refine P_aload_n (pc := 117) dX6_passesAll_117 rfl 0 rfl ?_
  refine P_aload_n (pc := 118) dX6_passesAll_118 rfl 0 rfl ?_
  refine P_getR (pc := 119) dX6_passesAll_119 fa_RX6_86 sM_0 fM0_34 ?_
  refine P_callVv (Y' := mX6_passes) (as := [_]) (pc := 122) dX6_passesAll_122 rfl (by decide : 0 < 1) sM_0 rfl ml_RX6_285 im_X6_passes se_X6_passes mk_X6_passes (Nat.le_of_ble_eq_true rfl) (c_X6_passes26_0 (by simp (disch := decide) only [keep1_41, keep1_42, back1_41, back1_42, pOK_0, pOK_42, pOB_0, pOB_42, putI_nej, putI_self]; exact hk) (by simp (disch := decide) only [keep1_41, keep1_42, back1_41, back1_42, pOK_0, pOK_42, pOB_0, pOB_42, putI_nej, putI_self]; omega)) (fun μ_ hq => ?_)
  subst hq
  try simp only [pOK_fold, pOB_fold]
  refine P_aload_n (pc := 125) dX6_passesAll_125 rfl 0 rfl ?_
  refine P_aload_n (pc := 126) dX6_passesAll_126 rfl 0 rfl ?_
  refine P_getR (pc := 127) dX6_passesAll_127 fa_RX6_89 sM_0 fM0_35 ?_
  refine P_callVv (Y' := mX6_passes) (as := [_]) (pc := 130) dX6_passesAll_130 rfl (by decide : 0 < 1) sM_0 rfl ml_RX6_285 im_X6_passes se_X6_passes mk_X6_passes (Nat.le_of_ble_eq_true rfl) (c_X6_passes27_0 (by simp (disch := decide) only [keep1_41, keep1_42, back1_41, back1_42, pOK_0, pOK_42, pOB_0, pOB_42, putI_nej, putI_self]; exact hk) (by simp (disch := decide) only [keep1_41, keep1_42, back1_41, back1_42, pOK_0, pOK_42, pOB_0, pOB_42, putI_nej, putI_self]; omega)) (fun μ_ hq => ?_)
  subst hq
  try simp only [pOK_fold, pOB_fold]
  refine P_aload_n (pc := 133) dX6_passesAll_133 rfl 0 rfl ?_
  refine P_aload_n (pc := 134) dX6_passesAll_134 rfl 0 rfl ?_
  refine P_aload_n (pc := 135) dX6_passesAll_135 rfl 0 rfl ?_
  refine P_getI (jj := 11) (pc := 136) dX6_passesAll_136 fa_RX6_101 sM_0 fM0_11 rfl ?_
  try simp only [pOK_fold, pOB_fold]
  refine P_callVi (Y' := mX6_passOne) (as := [_]) (pc := 139) dX6_passesAll_139 rfl (by decide : 0 < 1) sM_0 rfl ml_RX6_289 im_X6_passOne se_X6_passOne mk_X6_passOne (Nat.le_of_ble_eq_true rfl) (c_X6_passOne_0 (by simp (disch := decide) only [keep1_41, keep1_42, back1_41, back1_42, pOK_0, pOK_42, pOB_0, pOB_42, putI_nej, putI_self]; exact hk) (by simp (disch := decide) only [keep1_41, keep1_42, back1_41, back1_42, pOK_0, pOK_42, pOB_0, pOB_42, putI_nej, putI_self]; omega)) (fun z_ μ_ hq => ?_)
  obtain ⟨rfl, hμ_⟩ := hq
  subst hμ_
  try simp only [pOK_fold, pOB_fold]
  refine P_putI (jj := 11) (pc := 142) dX6_passesAll_142 fa_RX6_101 fp_6_11 sM_0 fM0_11 rfl ?_
  try simp only [pOK_fold, pOB_fold]
  refine P_aload_n (pc := 145) dX6_passesAll_145 rfl 0 rfl ?_
  refine P_aload_n (pc := 146) dX6_passesAll_146 rfl 0 rfl ?_
  refine P_aload_n (pc := 147) dX6_passesAll_147 rfl 0 rfl ?_
  refine P_getI (jj := 12) (pc := 148) dX6_passesAll_148 fa_RX6_125 sM_0 fM0_12 rfl ?_
  try simp only [pOK_fold, pOB_fold]
  refine P_callVi (Y' := mX6_passOne) (as := [_]) (pc := 151) dX6_passesAll_151 rfl (by decide : 0 < 1) sM_0 rfl ml_RX6_289 im_X6_passOne se_X6_passOne mk_X6_passOne (Nat.le_of_ble_eq_true rfl) (c_X6_passOne_0 (by simp (disch := decide) only [keep1_41, keep1_42, back1_41, back1_42, pOK_0, pOK_42, pOB_0, pOB_42, putI_nej, putI_self]; exact hk) (by simp (disch := decide) only [keep1_41, keep1_42, back1_41, back1_42, pOK_0, pOK_42, pOB_0, pOB_42, putI_nej, putI_self]; omega)) (fun z_ μ_ hq => ?_)
  obtain ⟨rfl, hμ_⟩ := hq
  subst hμ_
  try simp only [pOK_fold, pOB_fold]
  refine P_putI (jj := 12) (pc := 154) dX6_passesAll_154 fa_RX6_125 fp_6_12 sM_0 fM0_12 rfl ?_
  try simp only [pOK_fold, pOB_fold]
  refine P_aload_n (pc := 157) dX6_passesAll_157 rfl 0 rfl ?_
  refine P_aload_n (pc := 158) dX6_passesAll_158 rfl 0 rfl ?_
  refine P_aload_n (pc := 159) dX6_passesAll_159 rfl 0 rfl ?_
  refine P_getI (jj := 30) (pc := 160) dX6_passesAll_160 fa_RX6_226 sM_0 fM0_30 rfl ?_
  try simp only [pOK_fold, pOB_fold]
  refine P_callVi (Y' := mX6_passOne) (as := [_]) (pc := 163) dX6_passesAll_163 rfl (by decide : 0 < 1) sM_0 rfl ml_RX6_289 im_X6_passOne se_X6_passOne mk_X6_passOne (Nat.le_of_ble_eq_true rfl) (c_X6_passOne_0 (by simp (disch := decide) only [keep1_41, keep1_42, back1_41, back1_42, pOK_0, pOK_42, pOB_0, pOB_42, putI_nej, putI_self]; exact hk) (by simp (disch := decide) only [keep1_41, keep1_42, back1_41, back1_42, pOK_0, pOK_42, pOB_0, pOB_42, putI_nej, putI_self]; omega)) (fun z_ μ_ hq => ?_)
  obtain ⟨rfl, hμ_⟩ := hq
  subst hμ_
  try simp only [pOK_fold, pOB_fold]
  refine P_putI (jj := 30) (pc := 166) dX6_passesAll_166 fa_RX6_226 fp_6_30 sM_0 fM0_30 rfl ?_
  try simp only [pOK_fold, pOB_fold]
  refine P_aload_n (pc := 169) dX6_passesAll_169 rfl 0 rfl ?_
  refine P_aload_n (pc := 170) dX6_passesAll_170 rfl 0 rfl ?_
  refine P_aload_n (pc := 171) dX6_passesAll_171 rfl 0 rfl ?_
  refine P_getI (jj := 37) (pc := 172) dX6_passesAll_172 fa_RX6_270 sM_0 fM0_37 rfl ?_
  try simp only [pOK_fold, pOB_fold]
  refine P_callVi (Y' := mX6_passOne) (as := [_]) (pc := 175) dX6_passesAll_175 rfl (by decide : 0 < 1) sM_0 rfl ml_RX6_289 im_X6_passOne se_X6_passOne mk_X6_passOne (Nat.le_of_ble_eq_true rfl) (c_X6_passOne_0 (by simp (disch := decide) only [keep1_41, keep1_42, back1_41, back1_42, pOK_0, pOK_42, pOB_0, pOB_42, putI_nej, putI_self]; exact hk) (by simp (disch := decide) only [keep1_41, keep1_42, back1_41, back1_42, pOK_0, pOK_42, pOB_0, pOB_42, putI_nej, putI_self]; omega)) (fun z_ μ_ hq => ?_)
  obtain ⟨rfl, hμ_⟩ := hq
  subst hμ_
  try simp only [pOK_fold, pOB_fold]
  refine P_putI (jj := 37) (pc := 178) dX6_passesAll_178 fa_RX6_270 fp_6_37 sM_0 fM0_37 rfl ?_
  try simp only [pOK_fold, pOB_fold]
  exact P_vret (pc := 181) dX6_passesAll_181 rfl (QV.mk (by exact hP))
theorem keepAll_12 {μ : Mem} {j : Int} (h : j ≠ 42) : (keepAll μ).1 0 j = μ.1 0 j := by
  unfold keepAll
  rw [pOK_0 h, pOK_0 h, pOK_0 h, pOK_0 h]
  unfold keepR
  rw [keep1_0 h, keep1_0 h, keep1_0 h, keep1_0 h, keep1_0 h, keep1_0 h, keep1_0 h, keep1_0 h, keep1_0 h, keep1_0 h, keep1_0 h, keep1_0 h, keep1_0 h, keep1_0 h, keep1_0 h, keep1_0 h, putI_nej h]
theorem keepAll_q {μ : Mem} {q : Nat} (h : q ≠ 0) (h2 : q ≠ 30) : (keepAll μ).1 q = μ.1 q := by
  unfold keepAll
  rw [pOK_q h h2, pOK_q h h2, pOK_q h h2, pOK_q h h2]
  unfold keepR
  rw [keep1_q h h2, keep1_q h h2, keep1_q h h2, keep1_q h h2, keep1_q h h2, keep1_q h h2, keep1_q h h2, keep1_q h h2, keep1_q h h2, keep1_q h h2, keep1_q h h2, keep1_q h h2, keep1_q h h2, keep1_q h h2, keep1_q h h2, keep1_q h h2, putI_ne h]
theorem keepAll_30 {μ : Mem} : (keepAll μ).1 30 = updI (updI (updI (updI ((kpF (μ.1 27) 397 5 ((kpF (μ.1 26) 392 5 ((kpF (μ.1 25) 387 5 ((kpF (μ.1 22) 375 12 ((kpF (μ.1 21) 363 12 ((kpF (μ.1 20) 351 12 ((kpF (μ.1 11) 291 60 ((kpF (μ.1 10) 231 60 ((kpF (μ.1 9) 171 60 ((kpF (μ.1 8) 111 60 ((kpF (μ.1 7) 51 60 ((kpF (μ.1 6) 48 3 ((kpF (μ.1 5) 36 12 ((kpF (μ.1 4) 24 12 ((kpF (μ.1 3) 12 12 ((kpF (μ.1 2) 0 12 (μ.1 30))))))))))))))))))))))))))))))))) 402 (μ.1 0 11)) 403 (μ.1 0 12)) 404 (μ.1 0 30)) 405 (μ.1 0 37) := by
  unfold keepAll keepR
  simp (disch := decide) only [pOK_30, pOK_0, pOK_42, keep1_30, keep1_0, keep1_42, keep1_q, putI_nej, putI_self, putI_ne]
  try simp only [Int.reduceAdd, Int.zero_add]
theorem backAll_30 {μ : Mem} : (backAll μ).1 30 = μ.1 30 := by
  unfold backAll backR
  simp (disch := decide) only [pOB_q, back1_q, putI_ne]
theorem backAll_2 {μ : Mem} : (backAll μ).1 2 = rsF (μ.1 30) 0 12 (μ.1 2) := by
  unfold backAll backR
  simp (disch := decide) only [pOB_q, back1_s, back1_q, back1_42, putI_ne, putI_self]
  try simp only [Int.reduceAdd, Int.zero_add]
theorem backAll_3 {μ : Mem} : (backAll μ).1 3 = rsF (μ.1 30) 12 12 (μ.1 3) := by
  unfold backAll backR
  simp (disch := decide) only [pOB_q, back1_s, back1_q, back1_42, putI_ne, putI_self]
  try simp only [Int.reduceAdd, Int.zero_add]
theorem backAll_4 {μ : Mem} : (backAll μ).1 4 = rsF (μ.1 30) 24 12 (μ.1 4) := by
  unfold backAll backR
  simp (disch := decide) only [pOB_q, back1_s, back1_q, back1_42, putI_ne, putI_self]
  try simp only [Int.reduceAdd, Int.zero_add]
theorem backAll_5 {μ : Mem} : (backAll μ).1 5 = rsF (μ.1 30) 36 12 (μ.1 5) := by
  unfold backAll backR
  simp (disch := decide) only [pOB_q, back1_s, back1_q, back1_42, putI_ne, putI_self]
  try simp only [Int.reduceAdd, Int.zero_add]
theorem backAll_6 {μ : Mem} : (backAll μ).1 6 = rsF (μ.1 30) 48 3 (μ.1 6) := by
  unfold backAll backR
  simp (disch := decide) only [pOB_q, back1_s, back1_q, back1_42, putI_ne, putI_self]
  try simp only [Int.reduceAdd, Int.zero_add]
theorem backAll_7 {μ : Mem} : (backAll μ).1 7 = rsF (μ.1 30) 51 60 (μ.1 7) := by
  unfold backAll backR
  simp (disch := decide) only [pOB_q, back1_s, back1_q, back1_42, putI_ne, putI_self]
  try simp only [Int.reduceAdd, Int.zero_add]
theorem backAll_8 {μ : Mem} : (backAll μ).1 8 = rsF (μ.1 30) 111 60 (μ.1 8) := by
  unfold backAll backR
  simp (disch := decide) only [pOB_q, back1_s, back1_q, back1_42, putI_ne, putI_self]
  try simp only [Int.reduceAdd, Int.zero_add]
theorem backAll_9 {μ : Mem} : (backAll μ).1 9 = rsF (μ.1 30) 171 60 (μ.1 9) := by
  unfold backAll backR
  simp (disch := decide) only [pOB_q, back1_s, back1_q, back1_42, putI_ne, putI_self]
  try simp only [Int.reduceAdd, Int.zero_add]
theorem backAll_10 {μ : Mem} : (backAll μ).1 10 = rsF (μ.1 30) 231 60 (μ.1 10) := by
  unfold backAll backR
  simp (disch := decide) only [pOB_q, back1_s, back1_q, back1_42, putI_ne, putI_self]
  try simp only [Int.reduceAdd, Int.zero_add]
theorem backAll_11 {μ : Mem} : (backAll μ).1 11 = rsF (μ.1 30) 291 60 (μ.1 11) := by
  unfold backAll backR
  simp (disch := decide) only [pOB_q, back1_s, back1_q, back1_42, putI_ne, putI_self]
  try simp only [Int.reduceAdd, Int.zero_add]
theorem backAll_20 {μ : Mem} : (backAll μ).1 20 = rsF (μ.1 30) 351 12 (μ.1 20) := by
  unfold backAll backR
  simp (disch := decide) only [pOB_q, back1_s, back1_q, back1_42, putI_ne, putI_self]
  try simp only [Int.reduceAdd, Int.zero_add]
theorem backAll_21 {μ : Mem} : (backAll μ).1 21 = rsF (μ.1 30) 363 12 (μ.1 21) := by
  unfold backAll backR
  simp (disch := decide) only [pOB_q, back1_s, back1_q, back1_42, putI_ne, putI_self]
  try simp only [Int.reduceAdd, Int.zero_add]
theorem backAll_22 {μ : Mem} : (backAll μ).1 22 = rsF (μ.1 30) 375 12 (μ.1 22) := by
  unfold backAll backR
  simp (disch := decide) only [pOB_q, back1_s, back1_q, back1_42, putI_ne, putI_self]
  try simp only [Int.reduceAdd, Int.zero_add]
theorem backAll_25 {μ : Mem} : (backAll μ).1 25 = rsF (μ.1 30) 387 5 (μ.1 25) := by
  unfold backAll backR
  simp (disch := decide) only [pOB_q, back1_s, back1_q, back1_42, putI_ne, putI_self]
  try simp only [Int.reduceAdd, Int.zero_add]
theorem backAll_26 {μ : Mem} : (backAll μ).1 26 = rsF (μ.1 30) 392 5 (μ.1 26) := by
  unfold backAll backR
  simp (disch := decide) only [pOB_q, back1_s, back1_q, back1_42, putI_ne, putI_self]
  try simp only [Int.reduceAdd, Int.zero_add]
theorem backAll_27 {μ : Mem} : (backAll μ).1 27 = rsF (μ.1 30) 397 5 (μ.1 27) := by
  unfold backAll backR
  simp (disch := decide) only [pOB_q, back1_s, back1_q, back1_42, putI_ne, putI_self]
  try simp only [Int.reduceAdd, Int.zero_add]
theorem backAll_0_11 {μ : Mem} : (backAll μ).1 0 11 = μ.1 30 402 := by
  unfold backAll backR
  simp (disch := decide) only [pOB_j, pOB_0, pOB_42, pOB_q, back1_q, back1_42, putI_ne, putI_self]
  try simp only [Int.reduceAdd, Int.zero_add]
theorem backAll_0_12 {μ : Mem} : (backAll μ).1 0 12 = μ.1 30 403 := by
  unfold backAll backR
  simp (disch := decide) only [pOB_j, pOB_0, pOB_42, pOB_q, back1_q, back1_42, putI_ne, putI_self]
  try simp only [Int.reduceAdd, Int.zero_add]
theorem backAll_0_30 {μ : Mem} : (backAll μ).1 0 30 = μ.1 30 404 := by
  unfold backAll backR
  simp (disch := decide) only [pOB_j, pOB_0, pOB_42, pOB_q, back1_q, back1_42, putI_ne, putI_self]
  try simp only [Int.reduceAdd, Int.zero_add]
theorem backAll_0_37 {μ : Mem} : (backAll μ).1 0 37 = μ.1 30 405 := by
  unfold backAll backR
  simp (disch := decide) only [pOB_j, pOB_0, pOB_42, pOB_q, back1_q, back1_42, putI_ne, putI_self]
  try simp only [Int.reduceAdd, Int.zero_add]
theorem backAll_0 {μ : Mem} {j : Int} (h : j ≠ 42) (h1 : j ≠ 11) (h2 : j ≠ 12) (h3 : j ≠ 30) (h4 : j ≠ 37) : (backAll μ).1 0 j = μ.1 0 j := by
  unfold backAll
  rw [pOB_0 h h4, pOB_0 h h3, pOB_0 h h2, pOB_0 h h1]
  unfold backR
  rw [back1_0 h, back1_0 h, back1_0 h, back1_0 h, back1_0 h, back1_0 h, back1_0 h, back1_0 h, back1_0 h, back1_0 h, back1_0 h, back1_0 h, back1_0 h, back1_0 h, back1_0 h, back1_0 h, putI_nej h]
theorem backAll_q {μ : Mem} {q : Nat} (h : q ≠ 0) (h2 : q ≠ 2 ∧ q ≠ 3 ∧ q ≠ 4 ∧ q ≠ 5 ∧ q ≠ 6 ∧ q ≠ 7 ∧ q ≠ 8 ∧ q ≠ 9 ∧ q ≠ 10 ∧ q ≠ 11 ∧ q ≠ 20 ∧ q ≠ 21 ∧ q ≠ 22 ∧ q ≠ 25 ∧ q ≠ 26 ∧ q ≠ 27) : (backAll μ).1 q = μ.1 q := by
  unfold backAll
  rw [pOB_q h, pOB_q h, pOB_q h, pOB_q h]
  unfold backR
  rw [back1_q h (by omega), back1_q h (by omega), back1_q h (by omega), back1_q h (by omega), back1_q h (by omega), back1_q h (by omega), back1_q h (by omega), back1_q h (by omega), back1_q h (by omega), back1_q h (by omega), back1_q h (by omega), back1_q h (by omega), back1_q h (by omega), back1_q h (by omega), back1_q h (by omega), back1_q h (by omega), putI_ne h]
set_option maxHeartbeats 1000000 in
set_option maxRecDepth 100000 in
theorem c_X6_image {μ : Mem}  : PC shM 2 mX6_image [vr 0] (μ) (QI (fun z μ' => z = μ.1 0 12 ∧ μ' = keepAll (putI (putI μ 0 41 1) 0 40 1))) := by
  refine PC.of (by decide +kernel) (Nat.le_of_ble_eq_true rfl) ?_
  refine P_sub (L' := [(0, vr 0)]) [0] rfl ?_
  refine P_aload_n (pc := 0) dX6_image_0 rfl 0 rfl ?_
  refine P_iconst (pc := 1) dX6_image_1 ?_
  refine P_putZ (jj := 41) (pc := 2) dX6_image_2 fa_RX6_279 fp_6_41 sM_0 fM0_41 rfl (by omega) ?_
  refine P_aload_n (pc := 5) dX6_image_5 rfl 0 rfl ?_
  refine P_iconst (pc := 6) dX6_image_6 ?_
  refine P_putZ (jj := 40) (pc := 7) dX6_image_7 fa_RX6_292 fp_6_40 sM_0 fM0_40 rfl (by omega) ?_
  refine P_aload_n (pc := 10) dX6_image_10 rfl 0 rfl ?_
  refine P_callVv (Y' := mX6_passesAll) (as := []) (pc := 11) dX6_image_11 rfl (by decide : 1 < 2) sM_0 rfl ml_RX6_295 im_X6_passesAll se_X6_passesAll mk_X6_passesAll (Nat.le_of_ble_eq_true rfl) (c_X6_passesAll_1 (by simp (disch := decide) only [putI_nej, putI_self])) (fun μ_ hq => ?_)
  subst hq
  refine P_aload_n (pc := 14) dX6_image_14 rfl 0 rfl ?_
  refine P_getI (jj := 12) (pc := 15) dX6_image_15 fa_RX6_125 sM_0 fM0_12 rfl ?_
  exact P_iret (pc := 18) dX6_image_18 rfl (QI.mk (by exact ⟨by rw [keepAll_12 (by decide), putI_nej (by decide), putI_nej (by decide)], rfl⟩))
set_option maxHeartbeats 1000000 in
set_option maxRecDepth 100000 in
theorem c_X6_restore {μ : Mem} (hI : μ.1 0 40 = 0 ∨ μ.1 0 40 = 1) : PC shM 2 mX6_restore [vr 0] (μ) (QI (fun z μ' => z = (if μ.1 0 40 = 0 then -3 else μ.1 30 403) ∧ μ' = (if μ.1 0 40 = 0 then refM μ (-3) else backAll (putI μ 0 41 0)))) := by
  refine PC.of (by decide +kernel) (Nat.le_of_ble_eq_true rfl) ?_
  refine P_sub (L' := [(0, vr 0)]) [0] rfl ?_
  refine P_aload_n (pc := 0) dX6_restore_0 rfl 0 rfl ?_
  refine P_getI (jj := 40) (pc := 1) dX6_restore_1 fa_RX6_292 sM_0 fM0_40 rfl ?_
  refine P_if_ne (tgt := 14) (pc := 4) dX6_restore_4 (by decide) (by unfold InR; omega) (fun c_4 => ?_) (fun c_4 => ?_)
  · refine P_aload_n (pc := 14) dX6_restore_14 rfl 0 rfl ?_
    refine P_iconst (pc := 15) dX6_restore_15 ?_
    refine P_putZ (jj := 41) (pc := 16) dX6_restore_16 fa_RX6_279 fp_6_41 sM_0 fM0_41 rfl (by omega) ?_
    refine P_aload_n (pc := 19) dX6_restore_19 rfl 0 rfl ?_
    refine P_callVv (Y' := mX6_passesAll) (as := []) (pc := 20) dX6_restore_20 rfl (by decide : 1 < 2) sM_0 rfl ml_RX6_295 im_X6_passesAll se_X6_passesAll mk_X6_passesAll (Nat.le_of_ble_eq_true rfl) (c_X6_passesAll_0 (by simp (disch := decide) only [putI_nej, putI_self])) (fun μ_ hq => ?_)
    subst hq
    refine P_aload_n (pc := 23) dX6_restore_23 rfl 0 rfl ?_
    refine P_getI (jj := 12) (pc := 24) dX6_restore_24 fa_RX6_125 sM_0 fM0_12 rfl ?_
    exact P_iret (pc := 27) dX6_restore_27 rfl (QI.mk (by first | (rw [if_neg (by omega), if_neg (by omega)]; exact ⟨by rw [backAll_0_12, putI_ne (by decide)], rfl⟩) | (rw [if_pos (by omega), if_pos (by omega)]; exact ⟨rfl, rfl⟩)))
  · refine P_aload_n (pc := 7) dX6_restore_7 rfl 0 rfl ?_
    refine P_bipush (pc := 8) dX6_restore_8 (by decide) ?_
    refine P_callVi (Y' := mX6_no) (as := [_]) (pc := 10) dX6_restore_10 rfl (by decide : 0 < 2) sM_0 rfl ml_RX6_109 im_X6_no se_X6_no mk_X6_no (Nat.le_of_ble_eq_true rfl) (c_X6_no (by omega)) (fun z_ μ_ hq => ?_)
    obtain ⟨rfl, hμ_⟩ := hq
    have hμ_ := hμ_.symm
    subst hμ_
    exact P_iret (pc := 13) dX6_restore_13 rfl (QI.mk (by first | (rw [if_neg (by omega), if_neg (by omega)]; exact ⟨by rw [backAll_0_12, putI_ne (by decide)], rfl⟩) | (rw [if_pos (by omega), if_pos (by omega)]; exact ⟨rfl, rfl⟩)))
