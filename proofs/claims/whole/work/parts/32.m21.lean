theorem putI_self {μ : Mem} {q : Nat} {j v : Int} : (putI μ q j v).1 q j = v := by simp [putI]
def comesM (μ : Mem) (k w h : Int) : Mem := putI (putI (putI (putI μ 2 (μ.1 0 11) k) 3 (μ.1 0 11) w) 4 (μ.1 0 11) h) 0 11 (μ.1 0 11 + 1)
def mayJ (A : Cel) : Prop := 0 < A 0 11 ∧ A 2 (A 0 11 - 1) ≠ 4
def happM (μ : Mem) (h k a b u : Int) : Mem := putI (putI (putI (putI (putI (putI μ 7 (μ.1 0 12) h) 8 (μ.1 0 12) k) 9 (μ.1 0 12) a) 10 (μ.1 0 12) (if k < 5 ∨ k = 9 then b else -9)) 11 (μ.1 0 12) u) 0 12 (μ.1 0 12 + 1)
def whyT (A : Cel) (k : Int) : Int := if k < 0 ∨ 5 < k then -2 else if k = 5 ∧ (A 0 11 ≤ 0 ∨ A 2 (A 0 11 - 1) = 4) then -3 else if A 0 11 = 12 then -6 else 0
def whyK (k v m : Int) : Int := if k < 0 ∨ m < k then -2 else if v < 0 then -4 else if v > (if m = 5 then 4 else if k = 0 then 1 else 3) then -6 else 0
def whyE (A : Cel) (h k a b u : Int) : Int := if k < 0 ∨ 9 < k then -2 else if (a < 0 ∨ A 0 11 ≤ a) ∨ (k < 5 ∧ ((b < 0 ∨ A 0 11 ≤ b) ∨ a = b)) then -1 else if h < 0 ∨ (k = 9 ∧ b < 1) ∨ u < -1 then -4 else if h > 47 ∨ (k = 9 ∧ b > 4) ∨ (6 ≤ u ∧ u ≤ 9) ∨ u > 15 ∨ A 0 12 = 60 then -6 else 0
def whyO (A : Cel) (e w : Int) : Int := if e < 0 ∨ A 0 12 ≤ e then -1 else if w < 0 ∨ 4 < w then -2 else 0
def whySt (A : Cel) (k a b : Int) : Int := if k < 0 ∨ 4 < k then -2 else if ((a < 0 ∨ A 0 11 ≤ a) ∨ (b < 0 ∨ A 0 11 ≤ b)) ∨ a = b then -1 else if A 0 37 = 5 then -6 else 0
def stepM (μ : Mem) (k a b : Int) : Mem := putI (putI (putI (putI μ 25 (μ.1 0 37) k) 26 (μ.1 0 37) a) 27 (μ.1 0 37) b) 0 37 (μ.1 0 37 + 1)
def factM (μ : Mem) (t h c : Int) : Mem := putI (putI (putI (putI μ 20 (μ.1 0 30) t) 21 (μ.1 0 30) h) 22 (μ.1 0 30) c) 0 30 (μ.1 0 30 + 1)
def whyF (A : Cel) (t h : Int) : Int := if whyTH A t h = 0 then (if A 0 30 = 12 then -6 else 0) else whyTH A t h
def cntZ (A : Cel) (w : Int) : Int := if 11 ≤ w ∧ w ≤ 16 then A 1 (w - 10) else if w = 0 then A 0 11 else if w = 1 then A 0 12 else if w = 2 then (cnt31 (nmK (kd A)) : Int) else if w = 3 then A 0 30 else if w = 4 then A 0 37 else if w = 5 then A 0 14 else -9
set_option maxHeartbeats 1000000 in
set_option maxRecDepth 100000 in
theorem c_X6_mayJoin {μ : Mem} (hT : 0 ≤ μ.1 0 11 ∧ μ.1 0 11 ≤ 12) (hk : ∀ j, 0 ≤ μ.1 2 j ∧ μ.1 2 j ≤ 5) : PC shM 0 mX6_mayJoin [vr 0] (μ) (QI (fun z μ' => z = (if 0 < μ.1 0 11 ∧ μ.1 2 (μ.1 0 11 - 1) ≠ 4 then 1 else 0) ∧ μ' = μ)) := by
  refine PC.of (by decide +kernel) (Nat.le_of_ble_eq_true rfl) ?_
  refine P_sub (L' := [(0, vr 0)]) [0] rfl ?_
  have hn : InR (μ.1 0 11) := by unfold InR; omega
  have hk1 := hk (μ.1 0 11 - 1)
  refine P_aload_n (pc := 0) dX6_mayJoin_0 rfl 0 rfl ?_
  refine P_getI (jj := 11) (pc := 1) dX6_mayJoin_1 fa_RX6_101 sM_0 fM0_11 rfl ?_
  try simp (disch := decide) only [putI_ne, putI_self]
  refine P_if_le (tgt := 26) (pc := 4) dX6_mayJoin_4 (by decide) (by first | assumption | (unfold InR; omega)) (fun c_4 => ?_) (fun c_4 => ?_)
  · refine P_iconst (pc := 26) dX6_mayJoin_26 ?_
    exact P_zret (pc := 27) dX6_mayJoin_27 rfl (by omega) (QI.mk (by refine ⟨?_, rfl⟩; grind))
  · refine P_aload_n (pc := 7) dX6_mayJoin_7 rfl 0 rfl ?_
    refine P_getR (pc := 8) dX6_mayJoin_8 fa_RX6_13 sM_0 fM0_1 ?_
    refine P_aload_n (pc := 11) dX6_mayJoin_11 rfl 0 rfl ?_
    refine P_getI (jj := 11) (pc := 12) dX6_mayJoin_12 fa_RX6_101 sM_0 fM0_11 rfl ?_
    try simp (disch := decide) only [putI_ne, putI_self]
    refine P_iconst (pc := 15) dX6_mayJoin_15 ?_
    refine P_isub (pc := 16) dX6_mayJoin_16 ?_
    refine P_iald (pc := 17) dX6_mayJoin_17 sM_2 (by omega) (by omega) (by decide) ?_
    try simp (disch := decide) only [putI_ne, putI_self]
    refine P_iconst (pc := 18) dX6_mayJoin_18 ?_
    refine P_icmp_eq (tgt := 26) (pc := 19) dX6_mayJoin_19 (by decide) (by first | assumption | (unfold InR; omega)) (by first | assumption | (unfold InR; omega)) (fun c_19 => ?_) (fun c_19 => ?_)
    · refine P_iconst (pc := 26) dX6_mayJoin_26 ?_
      exact P_zret (pc := 27) dX6_mayJoin_27 rfl (by omega) (QI.mk (by refine ⟨?_, rfl⟩; grind))
    · refine P_iconst (pc := 22) dX6_mayJoin_22 ?_
      refine P_goto (tgt := 27) (pc := 23) dX6_mayJoin_23 (by decide) ?_
      exact P_zret (pc := 27) dX6_mayJoin_27 rfl (by omega) (QI.mk (by refine ⟨?_, rfl⟩; grind))
set_option maxHeartbeats 1000000 in
set_option maxRecDepth 100000 in
theorem c_X6_comes {μ : Mem} {k w h : Int} (hT : 0 ≤ μ.1 0 11 ∧ μ.1 0 11 < 12) (hw : w = 0 ∨ w = 1) (hh : h = 0 ∨ h = 1) : PC shM 0 mX6_comes [vr 0, vi k, vi w, vi h] (μ) (QI (fun z μ' => z = μ.1 0 11 ∧ μ' = comesM μ k w h)) := by
  refine PC.of (by decide +kernel) (Nat.le_of_ble_eq_true rfl) ?_
  refine P_sub (L' := [(0, vr 0), (1, vi k), (2, vi w), (3, vi h)]) [0, 1, 2, 3] rfl ?_
  have hn : InR (μ.1 0 11) := by unfold InR; omega
  refine P_aload_n (pc := 0) dX6_comes_0 rfl 0 rfl ?_
  refine P_getR (pc := 1) dX6_comes_1 fa_RX6_13 sM_0 fM0_1 ?_
  refine P_aload_n (pc := 4) dX6_comes_4 rfl 0 rfl ?_
  refine P_getI (jj := 11) (pc := 5) dX6_comes_5 fa_RX6_101 sM_0 fM0_11 rfl ?_
  try simp (disch := decide) only [putI_ne, putI_self]
  refine P_iload_n (pc := 8) dX6_comes_8 rfl 1 rfl ?_
  refine P_iast (pc := 9) dX6_comes_9 sM_2 (by omega) (by omega) (by decide) ?_
  try simp (disch := decide) only [putI_ne, putI_self]
  refine P_aload_n (pc := 10) dX6_comes_10 rfl 0 rfl ?_
  refine P_getR (pc := 11) dX6_comes_11 fa_RX6_16 sM_0 fM0_2 ?_
  refine P_aload_n (pc := 14) dX6_comes_14 rfl 0 rfl ?_
  refine P_getI (jj := 11) (pc := 15) dX6_comes_15 fa_RX6_101 sM_0 fM0_11 rfl ?_
  try simp (disch := decide) only [putI_ne, putI_self]
  refine P_iload_n (pc := 18) dX6_comes_18 rfl 2 rfl ?_
  refine P_if_eq (tgt := 26) (pc := 19) dX6_comes_19 (by decide) (by first | assumption | (unfold InR; omega)) (fun c_19 => ?_) (fun c_19 => ?_)
  · refine P_iconst (pc := 26) dX6_comes_26 ?_
    refine P_iast (pc := 27) dX6_comes_27 sM_3 (by omega) (by omega) (by decide) ?_
    try simp (disch := decide) only [putI_ne, putI_self]
    refine P_aload_n (pc := 28) dX6_comes_28 rfl 0 rfl ?_
    refine P_getR (pc := 29) dX6_comes_29 fa_RX6_19 sM_0 fM0_3 ?_
    refine P_aload_n (pc := 32) dX6_comes_32 rfl 0 rfl ?_
    refine P_getI (jj := 11) (pc := 33) dX6_comes_33 fa_RX6_101 sM_0 fM0_11 rfl ?_
    try simp (disch := decide) only [putI_ne, putI_self]
    refine P_iload_n (pc := 36) dX6_comes_36 rfl 3 rfl ?_
    refine P_if_eq (tgt := 44) (pc := 37) dX6_comes_37 (by decide) (by first | assumption | (unfold InR; omega)) (fun c_37 => ?_) (fun c_37 => ?_)
    · refine P_iconst (pc := 44) dX6_comes_44 ?_
      refine P_iast (pc := 45) dX6_comes_45 sM_4 (by omega) (by omega) (by decide) ?_
      try simp (disch := decide) only [putI_ne, putI_self]
      refine P_aload_n (pc := 46) dX6_comes_46 rfl 0 rfl ?_
      refine P_dup (pc := 47) dX6_comes_47 rfl ?_
      refine P_getI (jj := 11) (pc := 48) dX6_comes_48 fa_RX6_101 sM_0 fM0_11 rfl ?_
      try simp (disch := decide) only [putI_ne, putI_self]
      refine P_iconst (pc := 51) dX6_comes_51 ?_
      refine P_iadd (pc := 52) dX6_comes_52 ?_
      refine P_putI (jj := 11) (pc := 53) dX6_comes_53 fa_RX6_101 fp_6_11 sM_0 fM0_11 rfl ?_
      try simp (disch := decide) only [putI_ne, putI_self]
      refine P_aload_n (pc := 56) dX6_comes_56 rfl 0 rfl ?_
      refine P_getI (jj := 11) (pc := 57) dX6_comes_57 fa_RX6_101 sM_0 fM0_11 rfl ?_
      try simp (disch := decide) only [putI_ne, putI_self]
      refine P_iconst (pc := 60) dX6_comes_60 ?_
      refine P_isub (pc := 61) dX6_comes_61 ?_
      exact P_iret (pc := 62) dX6_comes_62 rfl (QI.mk (by refine ⟨by omega, ?_⟩; unfold comesM; (first | (have e1 : w = 0 := (by omega); subst e1) | (have e1 : w = 1 := (by omega); subst e1)); (first | (have e2 : h = 0 := (by omega); subst e2; rfl) | (have e2 : h = 1 := (by omega); subst e2; rfl))))
    · refine P_iconst (pc := 40) dX6_comes_40 ?_
      refine P_goto (tgt := 45) (pc := 41) dX6_comes_41 (by decide) ?_
      refine P_iast (pc := 45) dX6_comes_45 sM_4 (by omega) (by omega) (by decide) ?_
      try simp (disch := decide) only [putI_ne, putI_self]
      refine P_aload_n (pc := 46) dX6_comes_46 rfl 0 rfl ?_
      refine P_dup (pc := 47) dX6_comes_47 rfl ?_
      refine P_getI (jj := 11) (pc := 48) dX6_comes_48 fa_RX6_101 sM_0 fM0_11 rfl ?_
      try simp (disch := decide) only [putI_ne, putI_self]
      refine P_iconst (pc := 51) dX6_comes_51 ?_
      refine P_iadd (pc := 52) dX6_comes_52 ?_
      refine P_putI (jj := 11) (pc := 53) dX6_comes_53 fa_RX6_101 fp_6_11 sM_0 fM0_11 rfl ?_
      try simp (disch := decide) only [putI_ne, putI_self]
      refine P_aload_n (pc := 56) dX6_comes_56 rfl 0 rfl ?_
      refine P_getI (jj := 11) (pc := 57) dX6_comes_57 fa_RX6_101 sM_0 fM0_11 rfl ?_
      try simp (disch := decide) only [putI_ne, putI_self]
      refine P_iconst (pc := 60) dX6_comes_60 ?_
      refine P_isub (pc := 61) dX6_comes_61 ?_
      exact P_iret (pc := 62) dX6_comes_62 rfl (QI.mk (by refine ⟨by omega, ?_⟩; unfold comesM; (first | (have e1 : w = 0 := (by omega); subst e1) | (have e1 : w = 1 := (by omega); subst e1)); (first | (have e2 : h = 0 := (by omega); subst e2; rfl) | (have e2 : h = 1 := (by omega); subst e2; rfl))))
  · refine P_iconst (pc := 22) dX6_comes_22 ?_
    refine P_goto (tgt := 27) (pc := 23) dX6_comes_23 (by decide) ?_
    refine P_iast (pc := 27) dX6_comes_27 sM_3 (by omega) (by omega) (by decide) ?_
    try simp (disch := decide) only [putI_ne, putI_self]
    refine P_aload_n (pc := 28) dX6_comes_28 rfl 0 rfl ?_
    refine P_getR (pc := 29) dX6_comes_29 fa_RX6_19 sM_0 fM0_3 ?_
    refine P_aload_n (pc := 32) dX6_comes_32 rfl 0 rfl ?_
    refine P_getI (jj := 11) (pc := 33) dX6_comes_33 fa_RX6_101 sM_0 fM0_11 rfl ?_
    try simp (disch := decide) only [putI_ne, putI_self]
    refine P_iload_n (pc := 36) dX6_comes_36 rfl 3 rfl ?_
    refine P_if_eq (tgt := 44) (pc := 37) dX6_comes_37 (by decide) (by first | assumption | (unfold InR; omega)) (fun c_37 => ?_) (fun c_37 => ?_)
    · refine P_iconst (pc := 44) dX6_comes_44 ?_
      refine P_iast (pc := 45) dX6_comes_45 sM_4 (by omega) (by omega) (by decide) ?_
      try simp (disch := decide) only [putI_ne, putI_self]
      refine P_aload_n (pc := 46) dX6_comes_46 rfl 0 rfl ?_
      refine P_dup (pc := 47) dX6_comes_47 rfl ?_
      refine P_getI (jj := 11) (pc := 48) dX6_comes_48 fa_RX6_101 sM_0 fM0_11 rfl ?_
      try simp (disch := decide) only [putI_ne, putI_self]
      refine P_iconst (pc := 51) dX6_comes_51 ?_
      refine P_iadd (pc := 52) dX6_comes_52 ?_
      refine P_putI (jj := 11) (pc := 53) dX6_comes_53 fa_RX6_101 fp_6_11 sM_0 fM0_11 rfl ?_
      try simp (disch := decide) only [putI_ne, putI_self]
      refine P_aload_n (pc := 56) dX6_comes_56 rfl 0 rfl ?_
      refine P_getI (jj := 11) (pc := 57) dX6_comes_57 fa_RX6_101 sM_0 fM0_11 rfl ?_
      try simp (disch := decide) only [putI_ne, putI_self]
      refine P_iconst (pc := 60) dX6_comes_60 ?_
      refine P_isub (pc := 61) dX6_comes_61 ?_
      exact P_iret (pc := 62) dX6_comes_62 rfl (QI.mk (by refine ⟨by omega, ?_⟩; unfold comesM; (first | (have e1 : w = 0 := (by omega); subst e1) | (have e1 : w = 1 := (by omega); subst e1)); (first | (have e2 : h = 0 := (by omega); subst e2; rfl) | (have e2 : h = 1 := (by omega); subst e2; rfl))))
    · refine P_iconst (pc := 40) dX6_comes_40 ?_
      refine P_goto (tgt := 45) (pc := 41) dX6_comes_41 (by decide) ?_
      refine P_iast (pc := 45) dX6_comes_45 sM_4 (by omega) (by omega) (by decide) ?_
      try simp (disch := decide) only [putI_ne, putI_self]
      refine P_aload_n (pc := 46) dX6_comes_46 rfl 0 rfl ?_
      refine P_dup (pc := 47) dX6_comes_47 rfl ?_
      refine P_getI (jj := 11) (pc := 48) dX6_comes_48 fa_RX6_101 sM_0 fM0_11 rfl ?_
      try simp (disch := decide) only [putI_ne, putI_self]
      refine P_iconst (pc := 51) dX6_comes_51 ?_
      refine P_iadd (pc := 52) dX6_comes_52 ?_
      refine P_putI (jj := 11) (pc := 53) dX6_comes_53 fa_RX6_101 fp_6_11 sM_0 fM0_11 rfl ?_
      try simp (disch := decide) only [putI_ne, putI_self]
      refine P_aload_n (pc := 56) dX6_comes_56 rfl 0 rfl ?_
      refine P_getI (jj := 11) (pc := 57) dX6_comes_57 fa_RX6_101 sM_0 fM0_11 rfl ?_
      try simp (disch := decide) only [putI_ne, putI_self]
      refine P_iconst (pc := 60) dX6_comes_60 ?_
      refine P_isub (pc := 61) dX6_comes_61 ?_
      exact P_iret (pc := 62) dX6_comes_62 rfl (QI.mk (by refine ⟨by omega, ?_⟩; unfold comesM; (first | (have e1 : w = 0 := (by omega); subst e1) | (have e1 : w = 1 := (by omega); subst e1)); (first | (have e2 : h = 0 := (by omega); subst e2; rfl) | (have e2 : h = 1 := (by omega); subst e2; rfl))))
set_option maxHeartbeats 1000000 in
set_option maxRecDepth 100000 in
theorem c_X6_thing {μ : Mem} {k w h : Int} (hT : 0 ≤ μ.1 0 11 ∧ μ.1 0 11 ≤ 12) (hk2 : ∀ j, 0 ≤ μ.1 2 j ∧ μ.1 2 j ≤ 5) (hk : InR k) (hw : w = 0 ∨ w = 1) (hh : h = 0 ∨ h = 1) : PC shM 1 mX6_thing [vr 0, vi k, vi w, vi h] (μ) (QI (fun z μ' => z = (if whyT μ.1 k = 0 then μ.1 0 11 else whyT μ.1 k) ∧ μ' = (if whyT μ.1 k = 0 then comesM μ k w h else refM μ (whyT μ.1 k)))) := by
  refine PC.of (by decide +kernel) (Nat.le_of_ble_eq_true rfl) ?_
  refine P_sub (L' := [(0, vr 0), (1, vi k), (2, vi w), (3, vi h)]) [0, 1, 2, 3] rfl ?_
  have hn : InR (μ.1 0 11) := by unfold InR; omega
  refine P_iload_n (pc := 0) dX6_thing_0 rfl 1 rfl ?_
  refine P_iconst (pc := 1) dX6_thing_1 ?_
  refine P_iconst (pc := 2) dX6_thing_2 ?_
  refine P_callSi (Y' := mX6_isIn) (as := [_, _, _]) (pc := 3) dX6_thing_3 rfl (by decide : 0 < 1) ml_RX6_105 sm_X6_isIn mk_X6_isIn (Nat.le_of_ble_eq_true rfl) (c_X6_isIn (by first | assumption | (unfold InR; omega)) (by unfold InR; omega) (by unfold InR; omega)) (fun z_ μ_ hq => ?_)
  obtain ⟨hz, hμ_⟩ := hq
  have hμ_ := hμ_.symm
  subst hμ_
  have hz : z_ = 0 ∧ ¬ (0 ≤ k ∧ k ≤ 5) ∨ z_ = 1 ∧ (0 ≤ k ∧ k ≤ 5) := by rw [hz]; split <;> omega
  try simp (disch := decide) only [putI_ne, putI_self]
  refine P_if_ne (tgt := 16) (pc := 6) dX6_thing_6 (by decide) (by first | assumption | (unfold InR; omega)) (fun c_6 => ?_) (fun c_6 => ?_)
  · refine P_iload_n (pc := 16) dX6_thing_16 rfl 1 rfl ?_
    refine P_iconst (pc := 17) dX6_thing_17 ?_
    refine P_icmp_ne (tgt := 35) (pc := 18) dX6_thing_18 (by decide) (by first | assumption | (unfold InR; omega)) (by first | assumption | (unfold InR; omega)) (fun c_18 => ?_) (fun c_18 => ?_)
    · refine P_aload_n (pc := 35) dX6_thing_35 rfl 0 rfl ?_
      refine P_getI (jj := 11) (pc := 36) dX6_thing_36 fa_RX6_101 sM_0 fM0_11 rfl ?_
      try simp (disch := decide) only [putI_ne, putI_self]
      refine P_bipush (pc := 39) dX6_thing_39 (by decide) ?_
      refine P_icmp_ne (tgt := 51) (pc := 41) dX6_thing_41 (by decide) (by first | assumption | (unfold InR; omega)) (by first | assumption | (unfold InR; omega)) (fun c_41 => ?_) (fun c_41 => ?_)
      · refine P_aload_n (pc := 51) dX6_thing_51 rfl 0 rfl ?_
        refine P_iload_n (pc := 52) dX6_thing_52 rfl 1 rfl ?_
        refine P_iload_n (pc := 53) dX6_thing_53 rfl 2 rfl ?_
        refine P_iload_n (pc := 54) dX6_thing_54 rfl 3 rfl ?_
        refine P_callVi (Y' := mX6_comes) (as := [_, _, _]) (pc := 55) dX6_thing_55 rfl (by decide : 0 < 1) sM_0 rfl ml_RX6_117 im_X6_comes se_X6_comes mk_X6_comes (Nat.le_of_ble_eq_true rfl) (c_X6_comes (by omega) hw hh) (fun z_ μ_ hq => ?_)
        obtain ⟨rfl, hμ_⟩ := hq
        have hμ_ := hμ_.symm
        subst hμ_
        try simp (disch := decide) only [putI_ne, putI_self]
        exact P_iret (pc := 58) dX6_thing_58 rfl (QI.mk (by first | (exfalso; omega) | (have hwy : whyT μ.1 k = -2 := (by unfold whyT; grind); rw [hwy]; exact ⟨rfl, rfl⟩) | (have hwy : whyT μ.1 k = -3 := (by unfold whyT; grind); rw [hwy]; exact ⟨rfl, rfl⟩) | (have hwy : whyT μ.1 k = -6 := (by unfold whyT; grind); rw [hwy]; exact ⟨rfl, rfl⟩) | (have hwy : whyT μ.1 k = 0 := (by unfold whyT; grind); rw [hwy]; exact ⟨rfl, rfl⟩)))
      · refine P_aload_n (pc := 44) dX6_thing_44 rfl 0 rfl ?_
        refine P_bipush (pc := 45) dX6_thing_45 (by decide) ?_
        refine P_callVi (Y' := mX6_no) (as := [_]) (pc := 47) dX6_thing_47 rfl (by decide : 0 < 1) sM_0 rfl ml_RX6_109 im_X6_no se_X6_no mk_X6_no (Nat.le_of_ble_eq_true rfl) (c_X6_no (by omega)) (fun z_ μ_ hq => ?_)
        obtain ⟨rfl, hμ_⟩ := hq
        have hμ_ := hμ_.symm
        subst hμ_
        try simp (disch := decide) only [putI_ne, putI_self]
        exact P_iret (pc := 50) dX6_thing_50 rfl (QI.mk (by first | (exfalso; omega) | (have hwy : whyT μ.1 k = -2 := (by unfold whyT; grind); rw [hwy]; exact ⟨rfl, rfl⟩) | (have hwy : whyT μ.1 k = -3 := (by unfold whyT; grind); rw [hwy]; exact ⟨rfl, rfl⟩) | (have hwy : whyT μ.1 k = -6 := (by unfold whyT; grind); rw [hwy]; exact ⟨rfl, rfl⟩) | (have hwy : whyT μ.1 k = 0 := (by unfold whyT; grind); rw [hwy]; exact ⟨rfl, rfl⟩)))
    · refine P_aload_n (pc := 21) dX6_thing_21 rfl 0 rfl ?_
      refine P_callVi (Y' := mX6_mayJoin) (as := []) (pc := 22) dX6_thing_22 rfl (by decide : 0 < 1) sM_0 rfl ml_RX6_113 im_X6_mayJoin se_X6_mayJoin mk_X6_mayJoin (Nat.le_of_ble_eq_true rfl) (c_X6_mayJoin (by omega) hk2) (fun z_ μ_ hq => ?_)
      obtain ⟨hz, hμ_⟩ := hq
      have hμ_ := hμ_.symm
      subst hμ_
      have hz : z_ = 0 ∧ (μ.1 0 11 ≤ 0 ∨ μ.1 2 (μ.1 0 11 - 1) = 4) ∨ z_ = 1 ∧ (0 < μ.1 0 11 ∧ μ.1 2 (μ.1 0 11 - 1) ≠ 4) := by rw [hz]; split <;> omega
      try simp (disch := decide) only [putI_ne, putI_self]
      refine P_if_ne (tgt := 35) (pc := 25) dX6_thing_25 (by decide) (by first | assumption | (unfold InR; omega)) (fun c_25 => ?_) (fun c_25 => ?_)
      · refine P_aload_n (pc := 35) dX6_thing_35 rfl 0 rfl ?_
        refine P_getI (jj := 11) (pc := 36) dX6_thing_36 fa_RX6_101 sM_0 fM0_11 rfl ?_
        try simp (disch := decide) only [putI_ne, putI_self]
        refine P_bipush (pc := 39) dX6_thing_39 (by decide) ?_
        refine P_icmp_ne (tgt := 51) (pc := 41) dX6_thing_41 (by decide) (by first | assumption | (unfold InR; omega)) (by first | assumption | (unfold InR; omega)) (fun c_41 => ?_) (fun c_41 => ?_)
        · refine P_aload_n (pc := 51) dX6_thing_51 rfl 0 rfl ?_
          refine P_iload_n (pc := 52) dX6_thing_52 rfl 1 rfl ?_
          refine P_iload_n (pc := 53) dX6_thing_53 rfl 2 rfl ?_
          refine P_iload_n (pc := 54) dX6_thing_54 rfl 3 rfl ?_
          refine P_callVi (Y' := mX6_comes) (as := [_, _, _]) (pc := 55) dX6_thing_55 rfl (by decide : 0 < 1) sM_0 rfl ml_RX6_117 im_X6_comes se_X6_comes mk_X6_comes (Nat.le_of_ble_eq_true rfl) (c_X6_comes (by omega) hw hh) (fun z_ μ_ hq => ?_)
          obtain ⟨rfl, hμ_⟩ := hq
          have hμ_ := hμ_.symm
          subst hμ_
          try simp (disch := decide) only [putI_ne, putI_self]
          exact P_iret (pc := 58) dX6_thing_58 rfl (QI.mk (by first | (exfalso; omega) | (have hwy : whyT μ.1 k = -2 := (by unfold whyT; grind); rw [hwy]; exact ⟨rfl, rfl⟩) | (have hwy : whyT μ.1 k = -3 := (by unfold whyT; grind); rw [hwy]; exact ⟨rfl, rfl⟩) | (have hwy : whyT μ.1 k = -6 := (by unfold whyT; grind); rw [hwy]; exact ⟨rfl, rfl⟩) | (have hwy : whyT μ.1 k = 0 := (by unfold whyT; grind); rw [hwy]; exact ⟨rfl, rfl⟩)))
        · refine P_aload_n (pc := 44) dX6_thing_44 rfl 0 rfl ?_
          refine P_bipush (pc := 45) dX6_thing_45 (by decide) ?_
          refine P_callVi (Y' := mX6_no) (as := [_]) (pc := 47) dX6_thing_47 rfl (by decide : 0 < 1) sM_0 rfl ml_RX6_109 im_X6_no se_X6_no mk_X6_no (Nat.le_of_ble_eq_true rfl) (c_X6_no (by omega)) (fun z_ μ_ hq => ?_)
          obtain ⟨rfl, hμ_⟩ := hq
          have hμ_ := hμ_.symm
          subst hμ_
          try simp (disch := decide) only [putI_ne, putI_self]
          exact P_iret (pc := 50) dX6_thing_50 rfl (QI.mk (by first | (exfalso; omega) | (have hwy : whyT μ.1 k = -2 := (by unfold whyT; grind); rw [hwy]; exact ⟨rfl, rfl⟩) | (have hwy : whyT μ.1 k = -3 := (by unfold whyT; grind); rw [hwy]; exact ⟨rfl, rfl⟩) | (have hwy : whyT μ.1 k = -6 := (by unfold whyT; grind); rw [hwy]; exact ⟨rfl, rfl⟩) | (have hwy : whyT μ.1 k = 0 := (by unfold whyT; grind); rw [hwy]; exact ⟨rfl, rfl⟩)))
      · refine P_aload_n (pc := 28) dX6_thing_28 rfl 0 rfl ?_
        refine P_bipush (pc := 29) dX6_thing_29 (by decide) ?_
        refine P_callVi (Y' := mX6_no) (as := [_]) (pc := 31) dX6_thing_31 rfl (by decide : 0 < 1) sM_0 rfl ml_RX6_109 im_X6_no se_X6_no mk_X6_no (Nat.le_of_ble_eq_true rfl) (c_X6_no (by omega)) (fun z_ μ_ hq => ?_)
        obtain ⟨rfl, hμ_⟩ := hq
        have hμ_ := hμ_.symm
        subst hμ_
        try simp (disch := decide) only [putI_ne, putI_self]
        exact P_iret (pc := 34) dX6_thing_34 rfl (QI.mk (by first | (exfalso; omega) | (have hwy : whyT μ.1 k = -2 := (by unfold whyT; grind); rw [hwy]; exact ⟨rfl, rfl⟩) | (have hwy : whyT μ.1 k = -3 := (by unfold whyT; grind); rw [hwy]; exact ⟨rfl, rfl⟩) | (have hwy : whyT μ.1 k = -6 := (by unfold whyT; grind); rw [hwy]; exact ⟨rfl, rfl⟩) | (have hwy : whyT μ.1 k = 0 := (by unfold whyT; grind); rw [hwy]; exact ⟨rfl, rfl⟩)))
  · refine P_aload_n (pc := 9) dX6_thing_9 rfl 0 rfl ?_
    refine P_bipush (pc := 10) dX6_thing_10 (by decide) ?_
    refine P_callVi (Y' := mX6_no) (as := [_]) (pc := 12) dX6_thing_12 rfl (by decide : 0 < 1) sM_0 rfl ml_RX6_109 im_X6_no se_X6_no mk_X6_no (Nat.le_of_ble_eq_true rfl) (c_X6_no (by omega)) (fun z_ μ_ hq => ?_)
    obtain ⟨rfl, hμ_⟩ := hq
    have hμ_ := hμ_.symm
    subst hμ_
    try simp (disch := decide) only [putI_ne, putI_self]
    exact P_iret (pc := 15) dX6_thing_15 rfl (QI.mk (by first | (exfalso; omega) | (have hwy : whyT μ.1 k = -2 := (by unfold whyT; grind); rw [hwy]; exact ⟨rfl, rfl⟩) | (have hwy : whyT μ.1 k = -3 := (by unfold whyT; grind); rw [hwy]; exact ⟨rfl, rfl⟩) | (have hwy : whyT μ.1 k = -6 := (by unfold whyT; grind); rw [hwy]; exact ⟨rfl, rfl⟩) | (have hwy : whyT μ.1 k = 0 := (by unfold whyT; grind); rw [hwy]; exact ⟨rfl, rfl⟩)))
set_option maxHeartbeats 1000000 in
set_option maxRecDepth 100000 in
theorem c_X6_takes {μ : Mem} {k v o : Int} (hk : InR k) (hv : InR v) (ho : o = 0 ∨ o = 1) : PC shM 1 mX6_takes [vr 0, vi k, vi v, vi o] (μ) (QI (fun z μ' => z = (if whyK k v 5 = 0 then μ.1 5 (if o = 1 then 6 + k else k) else whyK k v 5) ∧ μ' = (if whyK k v 5 = 0 then putI μ 5 (if o = 1 then 6 + k else k) v else refM μ (whyK k v 5)))) := by
  refine PC.of (by decide +kernel) (Nat.le_of_ble_eq_true rfl) ?_
  refine P_sub (L' := [(0, vr 0), (1, vi k), (2, vi v), (3, vi o)]) [0, 1, 2, 3] rfl ?_
  skip
  refine P_iload_n (pc := 0) dX6_takes_0 rfl 1 rfl ?_
  refine P_iconst (pc := 1) dX6_takes_1 ?_
  refine P_iconst (pc := 2) dX6_takes_2 ?_
  refine P_callSi (Y' := mX6_isIn) (as := [_, _, _]) (pc := 3) dX6_takes_3 rfl (by decide : 0 < 1) ml_RX6_105 sm_X6_isIn mk_X6_isIn (Nat.le_of_ble_eq_true rfl) (c_X6_isIn (by first | assumption | (unfold InR; omega)) (by unfold InR; omega) (by unfold InR; omega)) (fun z_ μ_ hq => ?_)
  obtain ⟨hz, hμ_⟩ := hq
  have hμ_ := hμ_.symm
  subst hμ_
  have hz : z_ = 0 ∧ ¬ (0 ≤ k ∧ k ≤ 5) ∨ z_ = 1 ∧ (0 ≤ k ∧ k ≤ 5) := by rw [hz]; split <;> omega
  try simp (disch := decide) only [putI_ne, putI_self]
  refine P_if_ne (tgt := 16) (pc := 6) dX6_takes_6 (by decide) (by first | assumption | (unfold InR; omega)) (fun c_6 => ?_) (fun c_6 => ?_)
  · refine P_iload_n (pc := 16) dX6_takes_16 rfl 2 rfl ?_
    refine P_iconst (pc := 17) dX6_takes_17 ?_
    refine P_iconst (pc := 18) dX6_takes_18 ?_
    refine P_callSi (Y' := mX6_out) (as := [_, _, _]) (pc := 19) dX6_takes_19 rfl (by decide : 0 < 1) ml_RX6_121 sm_X6_out mk_X6_out (Nat.le_of_ble_eq_true rfl) (c_X6_out (by first | assumption | (unfold InR; omega)) (by unfold InR; omega) (by first | (unfold InR; omega) | (unfold InR; split <;> omega))) (fun z_ μ_ hq => ?_)
    obtain ⟨hz, hμ_⟩ := hq
    have hμ_ := hμ_.symm
    subst hμ_
    have hz : z_ = -4 ∧ v < 0 ∨ z_ = -6 ∧ v > 4 ∨ z_ = 0 ∧ 0 ≤ v ∧ v ≤ 4 := by rw [hz]; split; omega; split <;> omega
    try simp (disch := decide) only [putI_ne, putI_self]
    refine P_istore (L' := [(4, vi _), (0, vr 0), (1, vi _), (2, vi _), (3, vi _)]) (pc := 22) dX6_takes_22 (by decide) rfl ?_
    refine P_iload (pc := 24) dX6_takes_24 0 rfl ?_
    refine P_if_eq (tgt := 36) (pc := 26) dX6_takes_26 (by decide) (by first | assumption | (unfold InR; omega)) (fun c_26 => ?_) (fun c_26 => ?_)
    · refine P_iload_n (pc := 36) dX6_takes_36 rfl 4 rfl ?_
      refine P_if_eq (tgt := 47) (pc := 37) dX6_takes_37 (by decide) (by first | assumption | (unfold InR; omega)) (fun c_37 => ?_) (fun c_37 => ?_)
      · refine P_iload_n (pc := 47) dX6_takes_47 rfl 2 rfl ?_
        refine P_istore (L' := [(5, vi _), (4, vi _), (0, vr 0), (1, vi _), (2, vi _), (3, vi _)]) (pc := 48) dX6_takes_48 (by decide) rfl ?_
        refine P_aload_n (pc := 50) dX6_takes_50 rfl 2 rfl ?_
        refine P_getR (pc := 51) dX6_takes_51 fa_RX6_22 sM_0 fM0_4 ?_
        refine P_iload (pc := 54) dX6_takes_54 0 rfl ?_
        refine P_iald (pc := 56) dX6_takes_56 sM_5 (by omega) (by omega) (by decide) ?_
        try simp (disch := decide) only [putI_ne, putI_self]
        refine P_istore (L' := [(6, vi _), (5, vi _), (4, vi _), (0, vr 0), (1, vi _), (2, vi _), (3, vi _)]) (pc := 57) dX6_takes_57 (by decide) rfl ?_
        refine P_aload_n (pc := 59) dX6_takes_59 rfl 3 rfl ?_
        refine P_getR (pc := 60) dX6_takes_60 fa_RX6_22 sM_0 fM0_4 ?_
        refine P_iload (pc := 63) dX6_takes_63 1 rfl ?_
        refine P_iload_n (pc := 65) dX6_takes_65 rfl 5 rfl ?_
        refine P_iast (pc := 66) dX6_takes_66 sM_5 (by omega) (by omega) (by decide) ?_
        try simp (disch := decide) only [putI_ne, putI_self]
        refine P_iload (pc := 67) dX6_takes_67 0 rfl ?_
        exact P_iret (pc := 69) dX6_takes_69 rfl (QI.mk (by first | (exfalso; omega) | (have hwy : whyK k v 5 = -2 := (by unfold whyK; grind); rw [hwy]; exact ⟨rfl, rfl⟩) | (have hwy : whyK k v 5 = z_ := (by unfold whyK; grind); rw [hwy]; exact ⟨by rw [if_neg (by omega)], by rw [if_neg (by omega)]; rfl⟩) | (have hwy : whyK k v 5 = 0 := (by unfold whyK; grind); rw [hwy]; first | (have e1 : o = 0 := (by omega); subst e1; exact ⟨rfl, rfl⟩) | (have e1 : o = 1 := (by omega); subst e1; exact ⟨rfl, rfl⟩))))
      · refine P_bipush (pc := 40) dX6_takes_40 (by decide) ?_
        refine P_iload_n (pc := 42) dX6_takes_42 rfl 2 rfl ?_
        refine P_iadd (pc := 43) dX6_takes_43 ?_
        refine P_goto (tgt := 48) (pc := 44) dX6_takes_44 (by decide) ?_
        refine P_istore (L' := [(5, vi _), (4, vi _), (0, vr 0), (1, vi _), (2, vi _), (3, vi _)]) (pc := 48) dX6_takes_48 (by decide) rfl ?_
        refine P_aload_n (pc := 50) dX6_takes_50 rfl 2 rfl ?_
        refine P_getR (pc := 51) dX6_takes_51 fa_RX6_22 sM_0 fM0_4 ?_
        refine P_iload (pc := 54) dX6_takes_54 0 rfl ?_
        refine P_iald (pc := 56) dX6_takes_56 sM_5 (by omega) (by omega) (by decide) ?_
        try simp (disch := decide) only [putI_ne, putI_self]
        refine P_istore (L' := [(6, vi _), (5, vi _), (4, vi _), (0, vr 0), (1, vi _), (2, vi _), (3, vi _)]) (pc := 57) dX6_takes_57 (by decide) rfl ?_
        refine P_aload_n (pc := 59) dX6_takes_59 rfl 3 rfl ?_
        refine P_getR (pc := 60) dX6_takes_60 fa_RX6_22 sM_0 fM0_4 ?_
        refine P_iload (pc := 63) dX6_takes_63 1 rfl ?_
        refine P_iload_n (pc := 65) dX6_takes_65 rfl 5 rfl ?_
        refine P_iast (pc := 66) dX6_takes_66 sM_5 (by omega) (by omega) (by decide) ?_
        try simp (disch := decide) only [putI_ne, putI_self]
        refine P_iload (pc := 67) dX6_takes_67 0 rfl ?_
        exact P_iret (pc := 69) dX6_takes_69 rfl (QI.mk (by first | (exfalso; omega) | (have hwy : whyK k v 5 = -2 := (by unfold whyK; grind); rw [hwy]; exact ⟨rfl, rfl⟩) | (have hwy : whyK k v 5 = z_ := (by unfold whyK; grind); rw [hwy]; exact ⟨by rw [if_neg (by omega)], by rw [if_neg (by omega)]; rfl⟩) | (have hwy : whyK k v 5 = 0 := (by unfold whyK; grind); rw [hwy]; first | (have e1 : o = 0 := (by omega); subst e1; exact ⟨rfl, rfl⟩) | (have e1 : o = 1 := (by omega); subst e1; exact ⟨rfl, rfl⟩))))
    · refine P_aload_n (pc := 29) dX6_takes_29 rfl 1 rfl ?_
      refine P_iload (pc := 30) dX6_takes_30 0 rfl ?_
      refine P_callVi (Y' := mX6_no) (as := [_]) (pc := 32) dX6_takes_32 rfl (by decide : 0 < 1) sM_0 rfl ml_RX6_109 im_X6_no se_X6_no mk_X6_no (Nat.le_of_ble_eq_true rfl) (c_X6_no (by omega)) (fun z_ μ_ hq => ?_)
      obtain ⟨rfl, hμ_⟩ := hq
      have hμ_ := hμ_.symm
      subst hμ_
      try simp (disch := decide) only [putI_ne, putI_self]
      exact P_iret (pc := 35) dX6_takes_35 rfl (QI.mk (by first | (exfalso; omega) | (have hwy : whyK k v 5 = -2 := (by unfold whyK; grind); rw [hwy]; exact ⟨rfl, rfl⟩) | (have hwy : whyK k v 5 = z_ := (by unfold whyK; grind); rw [hwy]; exact ⟨by rw [if_neg (by omega)], by rw [if_neg (by omega)]; rfl⟩) | (have hwy : whyK k v 5 = 0 := (by unfold whyK; grind); rw [hwy]; first | (have e1 : o = 0 := (by omega); subst e1; exact ⟨rfl, rfl⟩) | (have e1 : o = 1 := (by omega); subst e1; exact ⟨rfl, rfl⟩))))
  · refine P_aload_n (pc := 9) dX6_takes_9 rfl 0 rfl ?_
    refine P_bipush (pc := 10) dX6_takes_10 (by decide) ?_
    refine P_callVi (Y' := mX6_no) (as := [_]) (pc := 12) dX6_takes_12 rfl (by decide : 0 < 1) sM_0 rfl ml_RX6_109 im_X6_no se_X6_no mk_X6_no (Nat.le_of_ble_eq_true rfl) (c_X6_no (by omega)) (fun z_ μ_ hq => ?_)
    obtain ⟨rfl, hμ_⟩ := hq
    have hμ_ := hμ_.symm
    subst hμ_
    try simp (disch := decide) only [putI_ne, putI_self]
    exact P_iret (pc := 15) dX6_takes_15 rfl (QI.mk (by first | (exfalso; omega) | (have hwy : whyK k v 5 = -2 := (by unfold whyK; grind); rw [hwy]; exact ⟨rfl, rfl⟩) | (have hwy : whyK k v 5 = z_ := (by unfold whyK; grind); rw [hwy]; exact ⟨by rw [if_neg (by omega)], by rw [if_neg (by omega)]; rfl⟩) | (have hwy : whyK k v 5 = 0 := (by unfold whyK; grind); rw [hwy]; first | (have e1 : o = 0 := (by omega); subst e1; exact ⟨rfl, rfl⟩) | (have e1 : o = 1 := (by omega); subst e1; exact ⟨rfl, rfl⟩))))
set_option maxHeartbeats 1000000 in
set_option maxRecDepth 100000 in
theorem c_X6_law {μ : Mem} {k v : Int} (hk : InR k) (hv : InR v) : PC shM 1 mX6_law [vr 0, vi k, vi v] (μ) (QI (fun z μ' => z = (if whyK k v 2 = 0 then μ.1 6 k else whyK k v 2) ∧ μ' = (if whyK k v 2 = 0 then putI μ 6 k v else refM μ (whyK k v 2)))) := by
  refine PC.of (by decide +kernel) (Nat.le_of_ble_eq_true rfl) ?_
  refine P_sub (L' := [(0, vr 0), (1, vi k), (2, vi v)]) [0, 1, 2] rfl ?_
  skip
  refine P_iload_n (pc := 0) dX6_law_0 rfl 1 rfl ?_
  refine P_iconst (pc := 1) dX6_law_1 ?_
  refine P_iconst (pc := 2) dX6_law_2 ?_
  refine P_callSi (Y' := mX6_isIn) (as := [_, _, _]) (pc := 3) dX6_law_3 rfl (by decide : 0 < 1) ml_RX6_105 sm_X6_isIn mk_X6_isIn (Nat.le_of_ble_eq_true rfl) (c_X6_isIn (by first | assumption | (unfold InR; omega)) (by unfold InR; omega) (by unfold InR; omega)) (fun z_ μ_ hq => ?_)
  obtain ⟨hz, hμ_⟩ := hq
  have hμ_ := hμ_.symm
  subst hμ_
  have hz : z_ = 0 ∧ ¬ (0 ≤ k ∧ k ≤ 2) ∨ z_ = 1 ∧ (0 ≤ k ∧ k ≤ 2) := by rw [hz]; split <;> omega
  try simp (disch := decide) only [putI_ne, putI_self]
  refine P_if_ne (tgt := 16) (pc := 6) dX6_law_6 (by decide) (by first | assumption | (unfold InR; omega) | (subst hz; unfold InR; grind)) (fun c_6 => ?_) (fun c_6 => ?_)
  · refine P_iload_n (pc := 16) dX6_law_16 rfl 2 rfl ?_
    refine P_iconst (pc := 17) dX6_law_17 ?_
    refine P_iload_n (pc := 18) dX6_law_18 rfl 1 rfl ?_
    refine P_if_ne (tgt := 26) (pc := 19) dX6_law_19 (by decide) (by first | assumption | (unfold InR; omega) | (subst hz; unfold InR; grind)) (fun c_19 => ?_) (fun c_19 => ?_)
    · refine P_iconst (pc := 26) dX6_law_26 ?_
      refine P_callSi (Y' := mX6_out) (as := [_, _, _]) (pc := 27) dX6_law_27 rfl (by decide : 0 < 1) ml_RX6_121 sm_X6_out mk_X6_out (Nat.le_of_ble_eq_true rfl) (c_X6_out hv (by unfold InR; omega) (by unfold InR; omega)) (fun z_ μ_ hq => ?_)
      obtain ⟨hz, hμ_⟩ := hq
      have hμ_ := hμ_.symm
      subst hμ_
      try simp (disch := decide) only [putI_ne, putI_self]
      refine P_istore_n (L' := [(3, vi _), (0, vr 0), (1, vi _), (2, vi _)]) (pc := 30) dX6_law_30 rfl (by decide) rfl ?_
      refine P_iload_n (pc := 31) dX6_law_31 rfl 0 rfl ?_
      refine P_if_eq (tgt := 41) (pc := 32) dX6_law_32 (by decide) (by first | assumption | (unfold InR; omega) | (subst hz; unfold InR; grind)) (fun c_32 => ?_) (fun c_32 => ?_)
      · refine P_aload_n (pc := 41) dX6_law_41 rfl 1 rfl ?_
        refine P_getR (pc := 42) dX6_law_42 fa_RX6_25 sM_0 fM0_5 ?_
        refine P_iload_n (pc := 45) dX6_law_45 rfl 2 rfl ?_
        refine P_iald (pc := 46) dX6_law_46 sM_6 (by omega) (by omega) (by decide) ?_
        try simp (disch := decide) only [putI_ne, putI_self]
        refine P_istore (L' := [(4, vi _), (3, vi _), (0, vr 0), (1, vi _), (2, vi _)]) (pc := 47) dX6_law_47 (by decide) rfl ?_
        refine P_aload_n (pc := 49) dX6_law_49 rfl 2 rfl ?_
        refine P_getR (pc := 50) dX6_law_50 fa_RX6_25 sM_0 fM0_5 ?_
        refine P_iload_n (pc := 53) dX6_law_53 rfl 3 rfl ?_
        refine P_iload_n (pc := 54) dX6_law_54 rfl 4 rfl ?_
        refine P_iast (pc := 55) dX6_law_55 sM_6 (by omega) (by omega) (by decide) ?_
        try simp (disch := decide) only [putI_ne, putI_self]
        refine P_iload (pc := 56) dX6_law_56 0 rfl ?_
        exact P_iret (pc := 58) dX6_law_58 rfl (QI.mk (by first | (exfalso; omega) | (have hwy : whyK k v 2 = -2 := (by unfold whyK; grind); rw [hwy]; exact ⟨rfl, rfl⟩) | (have hwy : whyK k v 2 = z_ := (by unfold whyK; grind); rw [hwy]; exact ⟨by rw [if_neg (by omega)], by rw [if_neg (by omega)]; rfl⟩) | (have hwy : whyK k v 2 = 0 := (by unfold whyK; grind); rw [hwy]; exact ⟨rfl, rfl⟩)))
      · refine P_aload_n (pc := 35) dX6_law_35 rfl 1 rfl ?_
        refine P_iload_n (pc := 36) dX6_law_36 rfl 0 rfl ?_
        refine P_callVi (Y' := mX6_no) (as := [_]) (pc := 37) dX6_law_37 rfl (by decide : 0 < 1) sM_0 rfl ml_RX6_109 im_X6_no se_X6_no mk_X6_no (Nat.le_of_ble_eq_true rfl) (c_X6_no (by first | omega | (subst hz; grind))) (fun z_ μ_ hq => ?_)
        obtain ⟨rfl, hμ_⟩ := hq
        have hμ_ := hμ_.symm
        subst hμ_
        try simp (disch := decide) only [putI_ne, putI_self]
        exact P_iret (pc := 40) dX6_law_40 rfl (QI.mk (by first | (exfalso; omega) | (have hwy : whyK k v 2 = -2 := (by unfold whyK; grind); rw [hwy]; exact ⟨rfl, rfl⟩) | (have hwy : whyK k v 2 = z_ := (by unfold whyK; grind); rw [hwy]; exact ⟨by rw [if_neg (by omega)], by rw [if_neg (by omega)]; rfl⟩) | (have hwy : whyK k v 2 = 0 := (by unfold whyK; grind); rw [hwy]; exact ⟨rfl, rfl⟩)))
    · refine P_iconst (pc := 22) dX6_law_22 ?_
      refine P_goto (tgt := 27) (pc := 23) dX6_law_23 (by decide) ?_
      refine P_callSi (Y' := mX6_out) (as := [_, _, _]) (pc := 27) dX6_law_27 rfl (by decide : 0 < 1) ml_RX6_121 sm_X6_out mk_X6_out (Nat.le_of_ble_eq_true rfl) (c_X6_out hv (by unfold InR; omega) (by unfold InR; omega)) (fun z_ μ_ hq => ?_)
      obtain ⟨hz, hμ_⟩ := hq
      have hμ_ := hμ_.symm
      subst hμ_
      try simp (disch := decide) only [putI_ne, putI_self]
      refine P_istore_n (L' := [(3, vi _), (0, vr 0), (1, vi _), (2, vi _)]) (pc := 30) dX6_law_30 rfl (by decide) rfl ?_
      refine P_iload_n (pc := 31) dX6_law_31 rfl 0 rfl ?_
      refine P_if_eq (tgt := 41) (pc := 32) dX6_law_32 (by decide) (by first | assumption | (unfold InR; omega) | (subst hz; unfold InR; grind)) (fun c_32 => ?_) (fun c_32 => ?_)
      · refine P_aload_n (pc := 41) dX6_law_41 rfl 1 rfl ?_
        refine P_getR (pc := 42) dX6_law_42 fa_RX6_25 sM_0 fM0_5 ?_
        refine P_iload_n (pc := 45) dX6_law_45 rfl 2 rfl ?_
        refine P_iald (pc := 46) dX6_law_46 sM_6 (by omega) (by omega) (by decide) ?_
        try simp (disch := decide) only [putI_ne, putI_self]
        refine P_istore (L' := [(4, vi _), (3, vi _), (0, vr 0), (1, vi _), (2, vi _)]) (pc := 47) dX6_law_47 (by decide) rfl ?_
        refine P_aload_n (pc := 49) dX6_law_49 rfl 2 rfl ?_
        refine P_getR (pc := 50) dX6_law_50 fa_RX6_25 sM_0 fM0_5 ?_
        refine P_iload_n (pc := 53) dX6_law_53 rfl 3 rfl ?_
        refine P_iload_n (pc := 54) dX6_law_54 rfl 4 rfl ?_
        refine P_iast (pc := 55) dX6_law_55 sM_6 (by omega) (by omega) (by decide) ?_
        try simp (disch := decide) only [putI_ne, putI_self]
        refine P_iload (pc := 56) dX6_law_56 0 rfl ?_
        exact P_iret (pc := 58) dX6_law_58 rfl (QI.mk (by first | (exfalso; omega) | (have hwy : whyK k v 2 = -2 := (by unfold whyK; grind); rw [hwy]; exact ⟨rfl, rfl⟩) | (have hwy : whyK k v 2 = z_ := (by unfold whyK; grind); rw [hwy]; exact ⟨by rw [if_neg (by omega)], by rw [if_neg (by omega)]; rfl⟩) | (have hwy : whyK k v 2 = 0 := (by unfold whyK; grind); rw [hwy]; exact ⟨rfl, rfl⟩)))
      · refine P_aload_n (pc := 35) dX6_law_35 rfl 1 rfl ?_
        refine P_iload_n (pc := 36) dX6_law_36 rfl 0 rfl ?_
        refine P_callVi (Y' := mX6_no) (as := [_]) (pc := 37) dX6_law_37 rfl (by decide : 0 < 1) sM_0 rfl ml_RX6_109 im_X6_no se_X6_no mk_X6_no (Nat.le_of_ble_eq_true rfl) (c_X6_no (by first | omega | (subst hz; grind))) (fun z_ μ_ hq => ?_)
        obtain ⟨rfl, hμ_⟩ := hq
        have hμ_ := hμ_.symm
        subst hμ_
        try simp (disch := decide) only [putI_ne, putI_self]
        exact P_iret (pc := 40) dX6_law_40 rfl (QI.mk (by first | (exfalso; omega) | (have hwy : whyK k v 2 = -2 := (by unfold whyK; grind); rw [hwy]; exact ⟨rfl, rfl⟩) | (have hwy : whyK k v 2 = z_ := (by unfold whyK; grind); rw [hwy]; exact ⟨by rw [if_neg (by omega)], by rw [if_neg (by omega)]; rfl⟩) | (have hwy : whyK k v 2 = 0 := (by unfold whyK; grind); rw [hwy]; exact ⟨rfl, rfl⟩)))
  · refine P_aload_n (pc := 9) dX6_law_9 rfl 0 rfl ?_
    refine P_bipush (pc := 10) dX6_law_10 (by decide) ?_
    refine P_callVi (Y' := mX6_no) (as := [_]) (pc := 12) dX6_law_12 rfl (by decide : 0 < 1) sM_0 rfl ml_RX6_109 im_X6_no se_X6_no mk_X6_no (Nat.le_of_ble_eq_true rfl) (c_X6_no (by first | omega | (subst hz; grind))) (fun z_ μ_ hq => ?_)
    obtain ⟨rfl, hμ_⟩ := hq
    have hμ_ := hμ_.symm
    subst hμ_
    try simp (disch := decide) only [putI_ne, putI_self]
    exact P_iret (pc := 15) dX6_law_15 rfl (QI.mk (by first | (exfalso; omega) | (have hwy : whyK k v 2 = -2 := (by unfold whyK; grind); rw [hwy]; exact ⟨rfl, rfl⟩) | (have hwy : whyK k v 2 = z_ := (by unfold whyK; grind); rw [hwy]; exact ⟨by rw [if_neg (by omega)], by rw [if_neg (by omega)]; rfl⟩) | (have hwy : whyK k v 2 = 0 := (by unfold whyK; grind); rw [hwy]; exact ⟨rfl, rfl⟩)))
set_option maxHeartbeats 1000000 in
set_option maxRecDepth 100000 in
theorem c_X6_happens {μ : Mem} {h k a b u : Int} (hE : 0 ≤ μ.1 0 12 ∧ μ.1 0 12 < 60) (hk : InR k) : PC shM 1 mX6_happens [vr 0, vi h, vi k, vi a, vi b, vi u] (μ) (QI (fun z μ' => z = μ.1 0 12 ∧ μ' = happM μ h k a b u)) := by
  refine PC.of (by decide +kernel) (Nat.le_of_ble_eq_true rfl) ?_
  refine P_sub (L' := [(0, vr 0), (1, vi h), (2, vi k), (3, vi a), (4, vi b), (5, vi u)]) [0, 1, 2, 3, 4, 5] rfl ?_
  skip
  refine P_aload_n (pc := 0) dX6_happens_0 rfl 0 rfl ?_
  refine P_getR (pc := 1) dX6_happens_1 fa_RX6_28 sM_0 fM0_6 ?_
  refine P_aload_n (pc := 4) dX6_happens_4 rfl 0 rfl ?_
  refine P_getI (jj := 12) (pc := 5) dX6_happens_5 fa_RX6_125 sM_0 fM0_12 rfl ?_
  try simp (disch := decide) only [putI_ne, putI_self]
  refine P_iload_n (pc := 8) dX6_happens_8 rfl 1 rfl ?_
  refine P_iast (pc := 9) dX6_happens_9 sM_7 (by omega) (by omega) (by decide) ?_
  try simp (disch := decide) only [putI_ne, putI_self]
  refine P_aload_n (pc := 10) dX6_happens_10 rfl 0 rfl ?_
  refine P_getR (pc := 11) dX6_happens_11 fa_RX6_31 sM_0 fM0_7 ?_
  refine P_aload_n (pc := 14) dX6_happens_14 rfl 0 rfl ?_
  refine P_getI (jj := 12) (pc := 15) dX6_happens_15 fa_RX6_125 sM_0 fM0_12 rfl ?_
  try simp (disch := decide) only [putI_ne, putI_self]
  refine P_iload_n (pc := 18) dX6_happens_18 rfl 2 rfl ?_
  refine P_iast (pc := 19) dX6_happens_19 sM_8 (by omega) (by omega) (by decide) ?_
  try simp (disch := decide) only [putI_ne, putI_self]
  refine P_aload_n (pc := 20) dX6_happens_20 rfl 0 rfl ?_
  refine P_getR (pc := 21) dX6_happens_21 fa_RX6_34 sM_0 fM0_8 ?_
  refine P_aload_n (pc := 24) dX6_happens_24 rfl 0 rfl ?_
  refine P_getI (jj := 12) (pc := 25) dX6_happens_25 fa_RX6_125 sM_0 fM0_12 rfl ?_
  try simp (disch := decide) only [putI_ne, putI_self]
  refine P_iload_n (pc := 28) dX6_happens_28 rfl 3 rfl ?_
  refine P_iast (pc := 29) dX6_happens_29 sM_9 (by omega) (by omega) (by decide) ?_
  try simp (disch := decide) only [putI_ne, putI_self]
  refine P_aload_n (pc := 30) dX6_happens_30 rfl 0 rfl ?_
  refine P_getR (pc := 31) dX6_happens_31 fa_RX6_37 sM_0 fM0_9 ?_
  refine P_aload_n (pc := 34) dX6_happens_34 rfl 0 rfl ?_
  refine P_getI (jj := 12) (pc := 35) dX6_happens_35 fa_RX6_125 sM_0 fM0_12 rfl ?_
  try simp (disch := decide) only [putI_ne, putI_self]
  refine P_iload_n (pc := 38) dX6_happens_38 rfl 2 rfl ?_
  refine P_callSi (Y' := mX6_isOfTwo) (as := [_]) (pc := 39) dX6_happens_39 rfl (by decide : 0 < 1) ml_RX6_128 sm_X6_isOfTwo mk_X6_isOfTwo (Nat.le_of_ble_eq_true rfl) (c_X6_isOfTwo hk) (fun z_ μ_ hq => ?_)
  obtain ⟨hz, hμ_⟩ := hq
  subst hμ_
  have hz : z_ = 0 ∧ ¬ k < 5 ∨ z_ = 1 ∧ k < 5 := by rw [hz]; split <;> omega
  try simp (disch := decide) only [putI_ne, putI_self]
  refine P_if_ne (tgt := 51) (pc := 42) dX6_happens_42 (by decide) (by first | assumption | (unfold InR; omega)) (fun c_42 => ?_) (fun c_42 => ?_)
  · refine P_iload (pc := 51) dX6_happens_51 4 rfl ?_
    refine P_goto (tgt := 58) (pc := 53) dX6_happens_53 (by decide) ?_
    refine P_iast (pc := 58) dX6_happens_58 sM_10 (by omega) (by omega) (by decide) ?_
    try simp (disch := decide) only [putI_ne, putI_self]
    refine P_aload_n (pc := 59) dX6_happens_59 rfl 0 rfl ?_
    refine P_getR (pc := 60) dX6_happens_60 fa_RX6_40 sM_0 fM0_10 ?_
    refine P_aload_n (pc := 63) dX6_happens_63 rfl 0 rfl ?_
    refine P_getI (jj := 12) (pc := 64) dX6_happens_64 fa_RX6_125 sM_0 fM0_12 rfl ?_
    try simp (disch := decide) only [putI_ne, putI_self]
    refine P_iload (pc := 67) dX6_happens_67 5 rfl ?_
    refine P_iast (pc := 69) dX6_happens_69 sM_11 (by omega) (by omega) (by decide) ?_
    try simp (disch := decide) only [putI_ne, putI_self]
    refine P_aload_n (pc := 70) dX6_happens_70 rfl 0 rfl ?_
    refine P_dup (pc := 71) dX6_happens_71 rfl ?_
    refine P_getI (jj := 12) (pc := 72) dX6_happens_72 fa_RX6_125 sM_0 fM0_12 rfl ?_
    try simp (disch := decide) only [putI_ne, putI_self]
    refine P_iconst (pc := 75) dX6_happens_75 ?_
    refine P_iadd (pc := 76) dX6_happens_76 ?_
    refine P_putI (jj := 12) (pc := 77) dX6_happens_77 fa_RX6_125 fp_6_12 sM_0 fM0_12 rfl ?_
    try simp (disch := decide) only [putI_ne, putI_self]
    refine P_aload_n (pc := 80) dX6_happens_80 rfl 0 rfl ?_
    refine P_getI (jj := 12) (pc := 81) dX6_happens_81 fa_RX6_125 sM_0 fM0_12 rfl ?_
    try simp (disch := decide) only [putI_ne, putI_self]
    refine P_iconst (pc := 84) dX6_happens_84 ?_
    refine P_isub (pc := 85) dX6_happens_85 ?_
    exact P_iret (pc := 86) dX6_happens_86 rfl (QI.mk (by refine ⟨by omega, ?_⟩; unfold happM; first | (rw [if_pos (by omega)]; done) | (rw [if_neg (by omega)]; done) | (rw [if_pos (by omega)]; rfl) | (rw [if_neg (by omega)]; rfl)))
  · refine P_iload_n (pc := 45) dX6_happens_45 rfl 2 rfl ?_
    refine P_bipush (pc := 46) dX6_happens_46 (by decide) ?_
    refine P_icmp_ne (tgt := 56) (pc := 48) dX6_happens_48 (by decide) (by first | assumption | (unfold InR; omega)) (by first | assumption | (unfold InR; omega)) (fun c_48 => ?_) (fun c_48 => ?_)
    · refine P_bipush (pc := 56) dX6_happens_56 (by decide) ?_
      refine P_iast (pc := 58) dX6_happens_58 sM_10 (by omega) (by omega) (by decide) ?_
      try simp (disch := decide) only [putI_ne, putI_self]
      refine P_aload_n (pc := 59) dX6_happens_59 rfl 0 rfl ?_
      refine P_getR (pc := 60) dX6_happens_60 fa_RX6_40 sM_0 fM0_10 ?_
      refine P_aload_n (pc := 63) dX6_happens_63 rfl 0 rfl ?_
      refine P_getI (jj := 12) (pc := 64) dX6_happens_64 fa_RX6_125 sM_0 fM0_12 rfl ?_
      try simp (disch := decide) only [putI_ne, putI_self]
      refine P_iload (pc := 67) dX6_happens_67 5 rfl ?_
      refine P_iast (pc := 69) dX6_happens_69 sM_11 (by omega) (by omega) (by decide) ?_
      try simp (disch := decide) only [putI_ne, putI_self]
      refine P_aload_n (pc := 70) dX6_happens_70 rfl 0 rfl ?_
      refine P_dup (pc := 71) dX6_happens_71 rfl ?_
      refine P_getI (jj := 12) (pc := 72) dX6_happens_72 fa_RX6_125 sM_0 fM0_12 rfl ?_
      try simp (disch := decide) only [putI_ne, putI_self]
      refine P_iconst (pc := 75) dX6_happens_75 ?_
      refine P_iadd (pc := 76) dX6_happens_76 ?_
      refine P_putI (jj := 12) (pc := 77) dX6_happens_77 fa_RX6_125 fp_6_12 sM_0 fM0_12 rfl ?_
      try simp (disch := decide) only [putI_ne, putI_self]
      refine P_aload_n (pc := 80) dX6_happens_80 rfl 0 rfl ?_
      refine P_getI (jj := 12) (pc := 81) dX6_happens_81 fa_RX6_125 sM_0 fM0_12 rfl ?_
      try simp (disch := decide) only [putI_ne, putI_self]
      refine P_iconst (pc := 84) dX6_happens_84 ?_
      refine P_isub (pc := 85) dX6_happens_85 ?_
      exact P_iret (pc := 86) dX6_happens_86 rfl (QI.mk (by refine ⟨by omega, ?_⟩; unfold happM; first | (rw [if_pos (by omega)]; done) | (rw [if_neg (by omega)]; done) | (rw [if_pos (by omega)]; rfl) | (rw [if_neg (by omega)]; rfl)))
    · refine P_iload (pc := 51) dX6_happens_51 4 rfl ?_
      refine P_goto (tgt := 58) (pc := 53) dX6_happens_53 (by decide) ?_
      refine P_iast (pc := 58) dX6_happens_58 sM_10 (by omega) (by omega) (by decide) ?_
      try simp (disch := decide) only [putI_ne, putI_self]
      refine P_aload_n (pc := 59) dX6_happens_59 rfl 0 rfl ?_
      refine P_getR (pc := 60) dX6_happens_60 fa_RX6_40 sM_0 fM0_10 ?_
      refine P_aload_n (pc := 63) dX6_happens_63 rfl 0 rfl ?_
      refine P_getI (jj := 12) (pc := 64) dX6_happens_64 fa_RX6_125 sM_0 fM0_12 rfl ?_
      try simp (disch := decide) only [putI_ne, putI_self]
      refine P_iload (pc := 67) dX6_happens_67 5 rfl ?_
      refine P_iast (pc := 69) dX6_happens_69 sM_11 (by omega) (by omega) (by decide) ?_
      try simp (disch := decide) only [putI_ne, putI_self]
      refine P_aload_n (pc := 70) dX6_happens_70 rfl 0 rfl ?_
      refine P_dup (pc := 71) dX6_happens_71 rfl ?_
      refine P_getI (jj := 12) (pc := 72) dX6_happens_72 fa_RX6_125 sM_0 fM0_12 rfl ?_
      try simp (disch := decide) only [putI_ne, putI_self]
      refine P_iconst (pc := 75) dX6_happens_75 ?_
      refine P_iadd (pc := 76) dX6_happens_76 ?_
      refine P_putI (jj := 12) (pc := 77) dX6_happens_77 fa_RX6_125 fp_6_12 sM_0 fM0_12 rfl ?_
      try simp (disch := decide) only [putI_ne, putI_self]
      refine P_aload_n (pc := 80) dX6_happens_80 rfl 0 rfl ?_
      refine P_getI (jj := 12) (pc := 81) dX6_happens_81 fa_RX6_125 sM_0 fM0_12 rfl ?_
      try simp (disch := decide) only [putI_ne, putI_self]
      refine P_iconst (pc := 84) dX6_happens_84 ?_
      refine P_isub (pc := 85) dX6_happens_85 ?_
      exact P_iret (pc := 86) dX6_happens_86 rfl (QI.mk (by refine ⟨by omega, ?_⟩; unfold happM; first | (rw [if_pos (by omega)]; done) | (rw [if_neg (by omega)]; done) | (rw [if_pos (by omega)]; rfl) | (rw [if_neg (by omega)]; rfl)))
set_option maxHeartbeats 1000000 in
set_option maxRecDepth 100000 in
theorem c_X6_event {μ : Mem} {h k a b u : Int} (hT : 0 ≤ μ.1 0 11 ∧ μ.1 0 11 ≤ 12) (hE : 0 ≤ μ.1 0 12 ∧ μ.1 0 12 ≤ 60) (hh : InR h) (hk : InR k) (ha : InR a) (hb : InR b) (hu : InR u) : PC shM 2 mX6_event [vr 0, vi h, vi k, vi a, vi b, vi u] (μ) (QI (fun z μ' => z = (if whyE μ.1 h k a b u = 0 then μ.1 0 12 else whyE μ.1 h k a b u) ∧ μ' = (if whyE μ.1 h k a b u = 0 then happM μ h k a b u else refM μ (whyE μ.1 h k a b u)))) := by
  refine PC.of (by decide +kernel) (Nat.le_of_ble_eq_true rfl) ?_
  refine P_sub (L' := [(0, vr 0), (1, vi h), (2, vi k), (3, vi a), (4, vi b), (5, vi u)]) [0, 1, 2, 3, 4, 5] rfl ?_
  have hn : InR (μ.1 0 11) := by unfold InR; omega
  refine P_iload_n (pc := 0) dX6_event_0 rfl 2 rfl ?_
  refine P_iconst (pc := 1) dX6_event_1 ?_
  refine P_bipush (pc := 2) dX6_event_2 (by decide) ?_
  refine P_callSi (Y' := mX6_isIn) (as := [_, _, _]) (pc := 4) dX6_event_4 rfl (by decide : 0 < 2) ml_RX6_105 sm_X6_isIn mk_X6_isIn (Nat.le_of_ble_eq_true rfl) (c_X6_isIn (by first | assumption | (unfold InR; omega)) (by unfold InR; omega) (by unfold InR; omega)) (fun z_ μ_ hq => ?_)
  obtain ⟨hz, hμ_⟩ := hq
  have hμ_ := hμ_.symm
  subst hμ_
  have hz : z_ = 0 ∧ ¬ (0 ≤ k ∧ k ≤ 9) ∨ z_ = 1 ∧ (0 ≤ k ∧ k ≤ 9) := by rw [hz]; split <;> omega
  try simp (disch := decide) only [putI_ne, putI_self]
  refine P_if_ne (tgt := 17) (pc := 7) dX6_event_7 (by decide) (by first | assumption | (unfold InR; omega)) (fun c_7 => ?_) (fun c_7 => ?_)
  · refine P_aload_n (pc := 17) dX6_event_17 rfl 0 rfl ?_
    refine P_iload_n (pc := 18) dX6_event_18 rfl 3 rfl ?_
    refine P_callVi (Y' := mX6_isThing) (as := [_]) (pc := 19) dX6_event_19 rfl (by decide : 0 < 2) sM_0 rfl ml_RX6_132 im_X6_isThing se_X6_isThing mk_X6_isThing (Nat.le_of_ble_eq_true rfl) (c_X6_isThing (by first | assumption | (unfold InR; omega)) hn) (fun z_ μ_ hq => ?_)
    obtain ⟨hz, hμ_⟩ := hq
    have hμ_ := hμ_.symm
    subst hμ_
    have hz : z_ = 0 ∧ (a < 0 ∨ μ.1 0 11 ≤ a) ∨ z_ = 1 ∧ (0 ≤ a ∧ a < μ.1 0 11) := by rw [hz]; split <;> omega
    try simp (disch := decide) only [putI_ne, putI_self]
    refine P_if_eq (tgt := 47) (pc := 22) dX6_event_22 (by decide) (by first | assumption | (unfold InR; omega)) (fun c_22 => ?_) (fun c_22 => ?_)
    · refine P_aload_n (pc := 47) dX6_event_47 rfl 0 rfl ?_
      refine P_iconst (pc := 48) dX6_event_48 ?_
      refine P_callVi (Y' := mX6_no) (as := [_]) (pc := 49) dX6_event_49 rfl (by decide : 0 < 2) sM_0 rfl ml_RX6_109 im_X6_no se_X6_no mk_X6_no (Nat.le_of_ble_eq_true rfl) (c_X6_no (by omega)) (fun z_ μ_ hq => ?_)
      obtain ⟨rfl, hμ_⟩ := hq
      have hμ_ := hμ_.symm
      subst hμ_
      try simp (disch := decide) only [putI_ne, putI_self]
      exact P_iret (pc := 52) dX6_event_52 rfl (QI.mk (by first | (exfalso; omega) | (have hwy : whyE μ.1 h k a b u = -2 := (by unfold whyE; grind); rw [hwy]; exact ⟨rfl, rfl⟩) | (have hwy : whyE μ.1 h k a b u = -1 := (by unfold whyE; grind); rw [hwy]; exact ⟨rfl, rfl⟩) | (have hwy : whyE μ.1 h k a b u = -4 := (by unfold whyE; grind); rw [hwy]; exact ⟨rfl, rfl⟩) | (have hwy : whyE μ.1 h k a b u = -6 := (by unfold whyE; grind); rw [hwy]; exact ⟨rfl, rfl⟩) | (have hwy : whyE μ.1 h k a b u = 0 := (by unfold whyE; grind); rw [hwy]; exact ⟨rfl, rfl⟩)))
    · refine P_iload_n (pc := 25) dX6_event_25 rfl 2 rfl ?_
      refine P_callSi (Y' := mX6_isOfTwo) (as := [_]) (pc := 26) dX6_event_26 rfl (by decide : 0 < 2) ml_RX6_128 sm_X6_isOfTwo mk_X6_isOfTwo (Nat.le_of_ble_eq_true rfl) (c_X6_isOfTwo hk) (fun z_ μ_ hq => ?_)
      obtain ⟨hz, hμ_⟩ := hq
      have hμ_ := hμ_.symm
      subst hμ_
      have hz : z_ = 0 ∧ ¬ k < 5 ∨ z_ = 1 ∧ k < 5 := by rw [hz]; split <;> omega
      try simp (disch := decide) only [putI_ne, putI_self]
      refine P_if_eq (tgt := 53) (pc := 29) dX6_event_29 (by decide) (by first | assumption | (unfold InR; omega)) (fun c_29 => ?_) (fun c_29 => ?_)
      · refine P_iload_n (pc := 53) dX6_event_53 rfl 1 rfl ?_
        refine P_if_lt (tgt := 75) (pc := 54) dX6_event_54 (by decide) (by first | assumption | (unfold InR; omega)) (fun c_54 => ?_) (fun c_54 => ?_)
        · refine P_bipush (pc := 75) dX6_event_75 (by decide) ?_
          refine P_goto (tgt := 132) (pc := 77) dX6_event_77 (by decide) ?_
          refine P_istore (L' := [(6, vi _), (0, vr 0), (1, vi _), (2, vi _), (3, vi _), (4, vi _), (5, vi _)]) (pc := 132) dX6_event_132 (by decide) rfl ?_
          refine P_iload (pc := 134) dX6_event_134 0 rfl ?_
          refine P_if_eq (tgt := 148) (pc := 136) dX6_event_136 (by decide) (by first | assumption | (unfold InR; omega)) (fun c_136 => ?_) (fun c_136 => ?_)
          · refine P_aload_n (pc := 148) dX6_event_148 rfl 1 rfl ?_
            refine P_iload_n (pc := 149) dX6_event_149 rfl 2 rfl ?_
            refine P_iload_n (pc := 150) dX6_event_150 rfl 3 rfl ?_
            refine P_iload_n (pc := 151) dX6_event_151 rfl 4 rfl ?_
            refine P_iload (pc := 152) dX6_event_152 5 rfl ?_
            refine P_iload (pc := 154) dX6_event_154 6 rfl ?_
            refine P_callVi (Y' := mX6_happens) (as := [_, _, _, _, _]) (pc := 156) dX6_event_156 rfl (by decide : 1 < 2) sM_0 rfl ml_RX6_135 im_X6_happens se_X6_happens mk_X6_happens (Nat.le_of_ble_eq_true rfl) (c_X6_happens (by omega) hk) (fun z_ μ_ hq => ?_)
            obtain ⟨rfl, hμ_⟩ := hq
            have hμ_ := hμ_.symm
            subst hμ_
            try simp (disch := decide) only [putI_ne, putI_self]
            exact P_iret (pc := 159) dX6_event_159 rfl (QI.mk (by first | (exfalso; omega) | (have hwy : whyE μ.1 h k a b u = -2 := (by unfold whyE; grind); rw [hwy]; exact ⟨rfl, rfl⟩) | (have hwy : whyE μ.1 h k a b u = -1 := (by unfold whyE; grind); rw [hwy]; exact ⟨rfl, rfl⟩) | (have hwy : whyE μ.1 h k a b u = -4 := (by unfold whyE; grind); rw [hwy]; exact ⟨rfl, rfl⟩) | (have hwy : whyE μ.1 h k a b u = -6 := (by unfold whyE; grind); rw [hwy]; exact ⟨rfl, rfl⟩) | (have hwy : whyE μ.1 h k a b u = 0 := (by unfold whyE; grind); rw [hwy]; exact ⟨rfl, rfl⟩)))
          · refine P_aload_n (pc := 139) dX6_event_139 rfl 1 rfl ?_
            refine P_iload (pc := 140) dX6_event_140 0 rfl ?_
            refine P_callVi (Y' := mX6_no) (as := [_]) (pc := 142) dX6_event_142 rfl (by decide : 0 < 2) sM_0 rfl ml_RX6_109 im_X6_no se_X6_no mk_X6_no (Nat.le_of_ble_eq_true rfl) (c_X6_no (by omega)) (fun z_ μ_ hq => ?_)
            obtain ⟨rfl, hμ_⟩ := hq
            have hμ_ := hμ_.symm
            subst hμ_
            try simp (disch := decide) only [putI_ne, putI_self]
            refine P_goto (tgt := 159) (pc := 145) dX6_event_145 (by decide) ?_
            exact P_iret (pc := 159) dX6_event_159 rfl (QI.mk (by first | (exfalso; omega) | (have hwy : whyE μ.1 h k a b u = -2 := (by unfold whyE; grind); rw [hwy]; exact ⟨rfl, rfl⟩) | (have hwy : whyE μ.1 h k a b u = -1 := (by unfold whyE; grind); rw [hwy]; exact ⟨rfl, rfl⟩) | (have hwy : whyE μ.1 h k a b u = -4 := (by unfold whyE; grind); rw [hwy]; exact ⟨rfl, rfl⟩) | (have hwy : whyE μ.1 h k a b u = -6 := (by unfold whyE; grind); rw [hwy]; exact ⟨rfl, rfl⟩) | (have hwy : whyE μ.1 h k a b u = 0 := (by unfold whyE; grind); rw [hwy]; exact ⟨rfl, rfl⟩)))
        · refine P_iload_n (pc := 57) dX6_event_57 rfl 2 rfl ?_
          refine P_bipush (pc := 58) dX6_event_58 (by decide) ?_
          refine P_icmp_ne (tgt := 69) (pc := 60) dX6_event_60 (by decide) (by first | assumption | (unfold InR; omega)) (by first | assumption | (unfold InR; omega)) (fun c_60 => ?_) (fun c_60 => ?_)
          · refine P_iload (pc := 69) dX6_event_69 5 rfl ?_
            refine P_iconst (pc := 71) dX6_event_71 ?_
            refine P_icmp_ge (tgt := 80) (pc := 72) dX6_event_72 (by decide) (by first | assumption | (unfold InR; omega)) (by first | assumption | (unfold InR; omega)) (fun c_72 => ?_) (fun c_72 => ?_)
            · refine P_iload_n (pc := 80) dX6_event_80 rfl 1 rfl ?_
              refine P_bipush (pc := 81) dX6_event_81 (by decide) ?_
              refine P_icmp_gt (tgt := 126) (pc := 83) dX6_event_83 (by decide) (by first | assumption | (unfold InR; omega)) (by first | assumption | (unfold InR; omega)) (fun c_83 => ?_) (fun c_83 => ?_)
              · refine P_bipush (pc := 126) dX6_event_126 (by decide) ?_
                refine P_goto (tgt := 132) (pc := 128) dX6_event_128 (by decide) ?_
                refine P_istore (L' := [(6, vi _), (0, vr 0), (1, vi _), (2, vi _), (3, vi _), (4, vi _), (5, vi _)]) (pc := 132) dX6_event_132 (by decide) rfl ?_
                refine P_iload (pc := 134) dX6_event_134 0 rfl ?_
                refine P_if_eq (tgt := 148) (pc := 136) dX6_event_136 (by decide) (by first | assumption | (unfold InR; omega)) (fun c_136 => ?_) (fun c_136 => ?_)
                · refine P_aload_n (pc := 148) dX6_event_148 rfl 1 rfl ?_
                  refine P_iload_n (pc := 149) dX6_event_149 rfl 2 rfl ?_
                  refine P_iload_n (pc := 150) dX6_event_150 rfl 3 rfl ?_
                  refine P_iload_n (pc := 151) dX6_event_151 rfl 4 rfl ?_
                  refine P_iload (pc := 152) dX6_event_152 5 rfl ?_
                  refine P_iload (pc := 154) dX6_event_154 6 rfl ?_
                  refine P_callVi (Y' := mX6_happens) (as := [_, _, _, _, _]) (pc := 156) dX6_event_156 rfl (by decide : 1 < 2) sM_0 rfl ml_RX6_135 im_X6_happens se_X6_happens mk_X6_happens (Nat.le_of_ble_eq_true rfl) (c_X6_happens (by omega) hk) (fun z_ μ_ hq => ?_)
                  obtain ⟨rfl, hμ_⟩ := hq
                  have hμ_ := hμ_.symm
                  subst hμ_
                  try simp (disch := decide) only [putI_ne, putI_self]
                  exact P_iret (pc := 159) dX6_event_159 rfl (QI.mk (by first | (exfalso; omega) | (have hwy : whyE μ.1 h k a b u = -2 := (by unfold whyE; grind); rw [hwy]; exact ⟨rfl, rfl⟩) | (have hwy : whyE μ.1 h k a b u = -1 := (by unfold whyE; grind); rw [hwy]; exact ⟨rfl, rfl⟩) | (have hwy : whyE μ.1 h k a b u = -4 := (by unfold whyE; grind); rw [hwy]; exact ⟨rfl, rfl⟩) | (have hwy : whyE μ.1 h k a b u = -6 := (by unfold whyE; grind); rw [hwy]; exact ⟨rfl, rfl⟩) | (have hwy : whyE μ.1 h k a b u = 0 := (by unfold whyE; grind); rw [hwy]; exact ⟨rfl, rfl⟩)))
                · refine P_aload_n (pc := 139) dX6_event_139 rfl 1 rfl ?_
                  refine P_iload (pc := 140) dX6_event_140 0 rfl ?_
                  refine P_callVi (Y' := mX6_no) (as := [_]) (pc := 142) dX6_event_142 rfl (by decide : 0 < 2) sM_0 rfl ml_RX6_109 im_X6_no se_X6_no mk_X6_no (Nat.le_of_ble_eq_true rfl) (c_X6_no (by omega)) (fun z_ μ_ hq => ?_)
                  obtain ⟨rfl, hμ_⟩ := hq
                  have hμ_ := hμ_.symm
                  subst hμ_
                  try simp (disch := decide) only [putI_ne, putI_self]
                  refine P_goto (tgt := 159) (pc := 145) dX6_event_145 (by decide) ?_
                  exact P_iret (pc := 159) dX6_event_159 rfl (QI.mk (by first | (exfalso; omega) | (have hwy : whyE μ.1 h k a b u = -2 := (by unfold whyE; grind); rw [hwy]; exact ⟨rfl, rfl⟩) | (have hwy : whyE μ.1 h k a b u = -1 := (by unfold whyE; grind); rw [hwy]; exact ⟨rfl, rfl⟩) | (have hwy : whyE μ.1 h k a b u = -4 := (by unfold whyE; grind); rw [hwy]; exact ⟨rfl, rfl⟩) | (have hwy : whyE μ.1 h k a b u = -6 := (by unfold whyE; grind); rw [hwy]; exact ⟨rfl, rfl⟩) | (have hwy : whyE μ.1 h k a b u = 0 := (by unfold whyE; grind); rw [hwy]; exact ⟨rfl, rfl⟩)))
              · refine P_iload_n (pc := 86) dX6_event_86 rfl 2 rfl ?_
                refine P_bipush (pc := 87) dX6_event_87 (by decide) ?_
                refine P_icmp_ne (tgt := 98) (pc := 89) dX6_event_89 (by decide) (by first | assumption | (unfold InR; omega)) (by first | assumption | (unfold InR; omega)) (fun c_89 => ?_) (fun c_89 => ?_)
                · refine P_iload (pc := 98) dX6_event_98 5 rfl ?_
                  refine P_bipush (pc := 100) dX6_event_100 (by decide) ?_
                  refine P_bipush (pc := 102) dX6_event_102 (by decide) ?_
                  refine P_callSi (Y' := mX6_isIn) (as := [_, _, _]) (pc := 104) dX6_event_104 rfl (by decide : 0 < 2) ml_RX6_105 sm_X6_isIn mk_X6_isIn (Nat.le_of_ble_eq_true rfl) (c_X6_isIn (by first | assumption | (unfold InR; omega)) (by unfold InR; omega) (by unfold InR; omega)) (fun z_ μ_ hq => ?_)
                  obtain ⟨hz, hμ_⟩ := hq
                  have hμ_ := hμ_.symm
                  subst hμ_
                  have hz : z_ = 0 ∧ ¬ (6 ≤ u ∧ u ≤ 9) ∨ z_ = 1 ∧ (6 ≤ u ∧ u ≤ 9) := by rw [hz]; split <;> omega
                  try simp (disch := decide) only [putI_ne, putI_self]
                  refine P_if_ne (tgt := 126) (pc := 107) dX6_event_107 (by decide) (by first | assumption | (unfold InR; omega)) (fun c_107 => ?_) (fun c_107 => ?_)
                  · refine P_bipush (pc := 126) dX6_event_126 (by decide) ?_
                    refine P_goto (tgt := 132) (pc := 128) dX6_event_128 (by decide) ?_
                    refine P_istore (L' := [(6, vi _), (0, vr 0), (1, vi _), (2, vi _), (3, vi _), (4, vi _), (5, vi _)]) (pc := 132) dX6_event_132 (by decide) rfl ?_
                    refine P_iload (pc := 134) dX6_event_134 0 rfl ?_
                    refine P_if_eq (tgt := 148) (pc := 136) dX6_event_136 (by decide) (by first | assumption | (unfold InR; omega)) (fun c_136 => ?_) (fun c_136 => ?_)
                    · refine P_aload_n (pc := 148) dX6_event_148 rfl 1 rfl ?_
                      refine P_iload_n (pc := 149) dX6_event_149 rfl 2 rfl ?_
                      refine P_iload_n (pc := 150) dX6_event_150 rfl 3 rfl ?_
                      refine P_iload_n (pc := 151) dX6_event_151 rfl 4 rfl ?_
                      refine P_iload (pc := 152) dX6_event_152 5 rfl ?_
                      refine P_iload (pc := 154) dX6_event_154 6 rfl ?_
                      refine P_callVi (Y' := mX6_happens) (as := [_, _, _, _, _]) (pc := 156) dX6_event_156 rfl (by decide : 1 < 2) sM_0 rfl ml_RX6_135 im_X6_happens se_X6_happens mk_X6_happens (Nat.le_of_ble_eq_true rfl) (c_X6_happens (by omega) hk) (fun z_ μ_ hq => ?_)
                      obtain ⟨rfl, hμ_⟩ := hq
                      have hμ_ := hμ_.symm
                      subst hμ_
                      try simp (disch := decide) only [putI_ne, putI_self]
                      exact P_iret (pc := 159) dX6_event_159 rfl (QI.mk (by first | (exfalso; omega) | (have hwy : whyE μ.1 h k a b u = -2 := (by unfold whyE; grind); rw [hwy]; exact ⟨rfl, rfl⟩) | (have hwy : whyE μ.1 h k a b u = -1 := (by unfold whyE; grind); rw [hwy]; exact ⟨rfl, rfl⟩) | (have hwy : whyE μ.1 h k a b u = -4 := (by unfold whyE; grind); rw [hwy]; exact ⟨rfl, rfl⟩) | (have hwy : whyE μ.1 h k a b u = -6 := (by unfold whyE; grind); rw [hwy]; exact ⟨rfl, rfl⟩) | (have hwy : whyE μ.1 h k a b u = 0 := (by unfold whyE; grind); rw [hwy]; exact ⟨rfl, rfl⟩)))
                    · refine P_aload_n (pc := 139) dX6_event_139 rfl 1 rfl ?_
                      refine P_iload (pc := 140) dX6_event_140 0 rfl ?_
                      refine P_callVi (Y' := mX6_no) (as := [_]) (pc := 142) dX6_event_142 rfl (by decide : 0 < 2) sM_0 rfl ml_RX6_109 im_X6_no se_X6_no mk_X6_no (Nat.le_of_ble_eq_true rfl) (c_X6_no (by omega)) (fun z_ μ_ hq => ?_)
                      obtain ⟨rfl, hμ_⟩ := hq
                      have hμ_ := hμ_.symm
                      subst hμ_
                      try simp (disch := decide) only [putI_ne, putI_self]
                      refine P_goto (tgt := 159) (pc := 145) dX6_event_145 (by decide) ?_
                      exact P_iret (pc := 159) dX6_event_159 rfl (QI.mk (by first | (exfalso; omega) | (have hwy : whyE μ.1 h k a b u = -2 := (by unfold whyE; grind); rw [hwy]; exact ⟨rfl, rfl⟩) | (have hwy : whyE μ.1 h k a b u = -1 := (by unfold whyE; grind); rw [hwy]; exact ⟨rfl, rfl⟩) | (have hwy : whyE μ.1 h k a b u = -4 := (by unfold whyE; grind); rw [hwy]; exact ⟨rfl, rfl⟩) | (have hwy : whyE μ.1 h k a b u = -6 := (by unfold whyE; grind); rw [hwy]; exact ⟨rfl, rfl⟩) | (have hwy : whyE μ.1 h k a b u = 0 := (by unfold whyE; grind); rw [hwy]; exact ⟨rfl, rfl⟩)))
                  · refine P_iload (pc := 110) dX6_event_110 5 rfl ?_
                    refine P_bipush (pc := 112) dX6_event_112 (by decide) ?_
                    refine P_icmp_gt (tgt := 126) (pc := 114) dX6_event_114 (by decide) (by first | assumption | (unfold InR; omega)) (by first | assumption | (unfold InR; omega)) (fun c_114 => ?_) (fun c_114 => ?_)
                    · refine P_bipush (pc := 126) dX6_event_126 (by decide) ?_
                      refine P_goto (tgt := 132) (pc := 128) dX6_event_128 (by decide) ?_
                      refine P_istore (L' := [(6, vi _), (0, vr 0), (1, vi _), (2, vi _), (3, vi _), (4, vi _), (5, vi _)]) (pc := 132) dX6_event_132 (by decide) rfl ?_
                      refine P_iload (pc := 134) dX6_event_134 0 rfl ?_
                      refine P_if_eq (tgt := 148) (pc := 136) dX6_event_136 (by decide) (by first | assumption | (unfold InR; omega)) (fun c_136 => ?_) (fun c_136 => ?_)
                      · refine P_aload_n (pc := 148) dX6_event_148 rfl 1 rfl ?_
                        refine P_iload_n (pc := 149) dX6_event_149 rfl 2 rfl ?_
                        refine P_iload_n (pc := 150) dX6_event_150 rfl 3 rfl ?_
                        refine P_iload_n (pc := 151) dX6_event_151 rfl 4 rfl ?_
                        refine P_iload (pc := 152) dX6_event_152 5 rfl ?_
                        refine P_iload (pc := 154) dX6_event_154 6 rfl ?_
                        refine P_callVi (Y' := mX6_happens) (as := [_, _, _, _, _]) (pc := 156) dX6_event_156 rfl (by decide : 1 < 2) sM_0 rfl ml_RX6_135 im_X6_happens se_X6_happens mk_X6_happens (Nat.le_of_ble_eq_true rfl) (c_X6_happens (by omega) hk) (fun z_ μ_ hq => ?_)
                        obtain ⟨rfl, hμ_⟩ := hq
                        have hμ_ := hμ_.symm
                        subst hμ_
                        try simp (disch := decide) only [putI_ne, putI_self]
                        exact P_iret (pc := 159) dX6_event_159 rfl (QI.mk (by first | (exfalso; omega) | (have hwy : whyE μ.1 h k a b u = -2 := (by unfold whyE; grind); rw [hwy]; exact ⟨rfl, rfl⟩) | (have hwy : whyE μ.1 h k a b u = -1 := (by unfold whyE; grind); rw [hwy]; exact ⟨rfl, rfl⟩) | (have hwy : whyE μ.1 h k a b u = -4 := (by unfold whyE; grind); rw [hwy]; exact ⟨rfl, rfl⟩) | (have hwy : whyE μ.1 h k a b u = -6 := (by unfold whyE; grind); rw [hwy]; exact ⟨rfl, rfl⟩) | (have hwy : whyE μ.1 h k a b u = 0 := (by unfold whyE; grind); rw [hwy]; exact ⟨rfl, rfl⟩)))
                      · refine P_aload_n (pc := 139) dX6_event_139 rfl 1 rfl ?_
                        refine P_iload (pc := 140) dX6_event_140 0 rfl ?_
                        refine P_callVi (Y' := mX6_no) (as := [_]) (pc := 142) dX6_event_142 rfl (by decide : 0 < 2) sM_0 rfl ml_RX6_109 im_X6_no se_X6_no mk_X6_no (Nat.le_of_ble_eq_true rfl) (c_X6_no (by omega)) (fun z_ μ_ hq => ?_)
                        obtain ⟨rfl, hμ_⟩ := hq
                        have hμ_ := hμ_.symm
                        subst hμ_
                        try simp (disch := decide) only [putI_ne, putI_self]
                        refine P_goto (tgt := 159) (pc := 145) dX6_event_145 (by decide) ?_
                        exact P_iret (pc := 159) dX6_event_159 rfl (QI.mk (by first | (exfalso; omega) | (have hwy : whyE μ.1 h k a b u = -2 := (by unfold whyE; grind); rw [hwy]; exact ⟨rfl, rfl⟩) | (have hwy : whyE μ.1 h k a b u = -1 := (by unfold whyE; grind); rw [hwy]; exact ⟨rfl, rfl⟩) | (have hwy : whyE μ.1 h k a b u = -4 := (by unfold whyE; grind); rw [hwy]; exact ⟨rfl, rfl⟩) | (have hwy : whyE μ.1 h k a b u = -6 := (by unfold whyE; grind); rw [hwy]; exact ⟨rfl, rfl⟩) | (have hwy : whyE μ.1 h k a b u = 0 := (by unfold whyE; grind); rw [hwy]; exact ⟨rfl, rfl⟩)))
                    · refine P_aload_n (pc := 117) dX6_event_117 rfl 0 rfl ?_
                      refine P_getI (jj := 12) (pc := 118) dX6_event_118 fa_RX6_125 sM_0 fM0_12 rfl ?_
                      try simp (disch := decide) only [putI_ne, putI_self]
                      refine P_bipush (pc := 121) dX6_event_121 (by decide) ?_
                      refine P_icmp_ne (tgt := 131) (pc := 123) dX6_event_123 (by decide) (by first | assumption | (unfold InR; omega)) (by first | assumption | (unfold InR; omega)) (fun c_123 => ?_) (fun c_123 => ?_)
                      · refine P_iconst (pc := 131) dX6_event_131 ?_
                        refine P_istore (L' := [(6, vi _), (0, vr 0), (1, vi _), (2, vi _), (3, vi _), (4, vi _), (5, vi _)]) (pc := 132) dX6_event_132 (by decide) rfl ?_
                        refine P_iload (pc := 134) dX6_event_134 0 rfl ?_
                        refine P_if_eq (tgt := 148) (pc := 136) dX6_event_136 (by decide) (by first | assumption | (unfold InR; omega)) (fun c_136 => ?_) (fun c_136 => ?_)
                        · refine P_aload_n (pc := 148) dX6_event_148 rfl 1 rfl ?_
                          refine P_iload_n (pc := 149) dX6_event_149 rfl 2 rfl ?_
                          refine P_iload_n (pc := 150) dX6_event_150 rfl 3 rfl ?_
                          refine P_iload_n (pc := 151) dX6_event_151 rfl 4 rfl ?_
                          refine P_iload (pc := 152) dX6_event_152 5 rfl ?_
                          refine P_iload (pc := 154) dX6_event_154 6 rfl ?_
                          refine P_callVi (Y' := mX6_happens) (as := [_, _, _, _, _]) (pc := 156) dX6_event_156 rfl (by decide : 1 < 2) sM_0 rfl ml_RX6_135 im_X6_happens se_X6_happens mk_X6_happens (Nat.le_of_ble_eq_true rfl) (c_X6_happens (by omega) hk) (fun z_ μ_ hq => ?_)
                          obtain ⟨rfl, hμ_⟩ := hq
                          have hμ_ := hμ_.symm
                          subst hμ_
                          try simp (disch := decide) only [putI_ne, putI_self]
                          exact P_iret (pc := 159) dX6_event_159 rfl (QI.mk (by first | (exfalso; omega) | (have hwy : whyE μ.1 h k a b u = -2 := (by unfold whyE; grind); rw [hwy]; exact ⟨rfl, rfl⟩) | (have hwy : whyE μ.1 h k a b u = -1 := (by unfold whyE; grind); rw [hwy]; exact ⟨rfl, rfl⟩) | (have hwy : whyE μ.1 h k a b u = -4 := (by unfold whyE; grind); rw [hwy]; exact ⟨rfl, rfl⟩) | (have hwy : whyE μ.1 h k a b u = -6 := (by unfold whyE; grind); rw [hwy]; exact ⟨rfl, rfl⟩) | (have hwy : whyE μ.1 h k a b u = 0 := (by unfold whyE; grind); rw [hwy]; exact ⟨rfl, rfl⟩)))
                        · refine P_aload_n (pc := 139) dX6_event_139 rfl 1 rfl ?_
                          refine P_iload (pc := 140) dX6_event_140 0 rfl ?_
                          refine P_callVi (Y' := mX6_no) (as := [_]) (pc := 142) dX6_event_142 rfl (by decide : 0 < 2) sM_0 rfl ml_RX6_109 im_X6_no se_X6_no mk_X6_no (Nat.le_of_ble_eq_true rfl) (c_X6_no (by omega)) (fun z_ μ_ hq => ?_)
                          obtain ⟨rfl, hμ_⟩ := hq
                          have hμ_ := hμ_.symm
                          subst hμ_
                          try simp (disch := decide) only [putI_ne, putI_self]
                          refine P_goto (tgt := 159) (pc := 145) dX6_event_145 (by decide) ?_
                          exact P_iret (pc := 159) dX6_event_159 rfl (QI.mk (by first | (exfalso; omega) | (have hwy : whyE μ.1 h k a b u = -2 := (by unfold whyE; grind); rw [hwy]; exact ⟨rfl, rfl⟩) | (have hwy : whyE μ.1 h k a b u = -1 := (by unfold whyE; grind); rw [hwy]; exact ⟨rfl, rfl⟩) | (have hwy : whyE μ.1 h k a b u = -4 := (by unfold whyE; grind); rw [hwy]; exact ⟨rfl, rfl⟩) | (have hwy : whyE μ.1 h k a b u = -6 := (by unfold whyE; grind); rw [hwy]; exact ⟨rfl, rfl⟩) | (have hwy : whyE μ.1 h k a b u = 0 := (by unfold whyE; grind); rw [hwy]; exact ⟨rfl, rfl⟩)))
                      · refine P_bipush (pc := 126) dX6_event_126 (by decide) ?_
                        refine P_goto (tgt := 132) (pc := 128) dX6_event_128 (by decide) ?_
                        refine P_istore (L' := [(6, vi _), (0, vr 0), (1, vi _), (2, vi _), (3, vi _), (4, vi _), (5, vi _)]) (pc := 132) dX6_event_132 (by decide) rfl ?_
                        refine P_iload (pc := 134) dX6_event_134 0 rfl ?_
                        refine P_if_eq (tgt := 148) (pc := 136) dX6_event_136 (by decide) (by first | assumption | (unfold InR; omega)) (fun c_136 => ?_) (fun c_136 => ?_)
                        · refine P_aload_n (pc := 148) dX6_event_148 rfl 1 rfl ?_
                          refine P_iload_n (pc := 149) dX6_event_149 rfl 2 rfl ?_
                          refine P_iload_n (pc := 150) dX6_event_150 rfl 3 rfl ?_
                          refine P_iload_n (pc := 151) dX6_event_151 rfl 4 rfl ?_
                          refine P_iload (pc := 152) dX6_event_152 5 rfl ?_
                          refine P_iload (pc := 154) dX6_event_154 6 rfl ?_
                          refine P_callVi (Y' := mX6_happens) (as := [_, _, _, _, _]) (pc := 156) dX6_event_156 rfl (by decide : 1 < 2) sM_0 rfl ml_RX6_135 im_X6_happens se_X6_happens mk_X6_happens (Nat.le_of_ble_eq_true rfl) (c_X6_happens (by omega) hk) (fun z_ μ_ hq => ?_)
                          obtain ⟨rfl, hμ_⟩ := hq
                          have hμ_ := hμ_.symm
                          subst hμ_
                          try simp (disch := decide) only [putI_ne, putI_self]
                          exact P_iret (pc := 159) dX6_event_159 rfl (QI.mk (by first | (exfalso; omega) | (have hwy : whyE μ.1 h k a b u = -2 := (by unfold whyE; grind); rw [hwy]; exact ⟨rfl, rfl⟩) | (have hwy : whyE μ.1 h k a b u = -1 := (by unfold whyE; grind); rw [hwy]; exact ⟨rfl, rfl⟩) | (have hwy : whyE μ.1 h k a b u = -4 := (by unfold whyE; grind); rw [hwy]; exact ⟨rfl, rfl⟩) | (have hwy : whyE μ.1 h k a b u = -6 := (by unfold whyE; grind); rw [hwy]; exact ⟨rfl, rfl⟩) | (have hwy : whyE μ.1 h k a b u = 0 := (by unfold whyE; grind); rw [hwy]; exact ⟨rfl, rfl⟩)))
                        · refine P_aload_n (pc := 139) dX6_event_139 rfl 1 rfl ?_
                          refine P_iload (pc := 140) dX6_event_140 0 rfl ?_
                          refine P_callVi (Y' := mX6_no) (as := [_]) (pc := 142) dX6_event_142 rfl (by decide : 0 < 2) sM_0 rfl ml_RX6_109 im_X6_no se_X6_no mk_X6_no (Nat.le_of_ble_eq_true rfl) (c_X6_no (by omega)) (fun z_ μ_ hq => ?_)
                          obtain ⟨rfl, hμ_⟩ := hq
                          have hμ_ := hμ_.symm
                          subst hμ_
                          try simp (disch := decide) only [putI_ne, putI_self]
                          refine P_goto (tgt := 159) (pc := 145) dX6_event_145 (by decide) ?_
                          exact P_iret (pc := 159) dX6_event_159 rfl (QI.mk (by first | (exfalso; omega) | (have hwy : whyE μ.1 h k a b u = -2 := (by unfold whyE; grind); rw [hwy]; exact ⟨rfl, rfl⟩) | (have hwy : whyE μ.1 h k a b u = -1 := (by unfold whyE; grind); rw [hwy]; exact ⟨rfl, rfl⟩) | (have hwy : whyE μ.1 h k a b u = -4 := (by unfold whyE; grind); rw [hwy]; exact ⟨rfl, rfl⟩) | (have hwy : whyE μ.1 h k a b u = -6 := (by unfold whyE; grind); rw [hwy]; exact ⟨rfl, rfl⟩) | (have hwy : whyE μ.1 h k a b u = 0 := (by unfold whyE; grind); rw [hwy]; exact ⟨rfl, rfl⟩)))
                · refine P_iload (pc := 92) dX6_event_92 4 rfl ?_
                  refine P_iconst (pc := 94) dX6_event_94 ?_
                  refine P_icmp_gt (tgt := 126) (pc := 95) dX6_event_95 (by decide) (by first | assumption | (unfold InR; omega)) (by first | assumption | (unfold InR; omega)) (fun c_95 => ?_) (fun c_95 => ?_)
                  · refine P_bipush (pc := 126) dX6_event_126 (by decide) ?_
                    refine P_goto (tgt := 132) (pc := 128) dX6_event_128 (by decide) ?_
                    refine P_istore (L' := [(6, vi _), (0, vr 0), (1, vi _), (2, vi _), (3, vi _), (4, vi _), (5, vi _)]) (pc := 132) dX6_event_132 (by decide) rfl ?_
                    refine P_iload (pc := 134) dX6_event_134 0 rfl ?_
                    refine P_if_eq (tgt := 148) (pc := 136) dX6_event_136 (by decide) (by first | assumption | (unfold InR; omega)) (fun c_136 => ?_) (fun c_136 => ?_)
                    · refine P_aload_n (pc := 148) dX6_event_148 rfl 1 rfl ?_
                      refine P_iload_n (pc := 149) dX6_event_149 rfl 2 rfl ?_
                      refine P_iload_n (pc := 150) dX6_event_150 rfl 3 rfl ?_
                      refine P_iload_n (pc := 151) dX6_event_151 rfl 4 rfl ?_
                      refine P_iload (pc := 152) dX6_event_152 5 rfl ?_
                      refine P_iload (pc := 154) dX6_event_154 6 rfl ?_
                      refine P_callVi (Y' := mX6_happens) (as := [_, _, _, _, _]) (pc := 156) dX6_event_156 rfl (by decide : 1 < 2) sM_0 rfl ml_RX6_135 im_X6_happens se_X6_happens mk_X6_happens (Nat.le_of_ble_eq_true rfl) (c_X6_happens (by omega) hk) (fun z_ μ_ hq => ?_)
                      obtain ⟨rfl, hμ_⟩ := hq
                      have hμ_ := hμ_.symm
                      subst hμ_
                      try simp (disch := decide) only [putI_ne, putI_self]
                      exact P_iret (pc := 159) dX6_event_159 rfl (QI.mk (by first | (exfalso; omega) | (have hwy : whyE μ.1 h k a b u = -2 := (by unfold whyE; grind); rw [hwy]; exact ⟨rfl, rfl⟩) | (have hwy : whyE μ.1 h k a b u = -1 := (by unfold whyE; grind); rw [hwy]; exact ⟨rfl, rfl⟩) | (have hwy : whyE μ.1 h k a b u = -4 := (by unfold whyE; grind); rw [hwy]; exact ⟨rfl, rfl⟩) | (have hwy : whyE μ.1 h k a b u = -6 := (by unfold whyE; grind); rw [hwy]; exact ⟨rfl, rfl⟩) | (have hwy : whyE μ.1 h k a b u = 0 := (by unfold whyE; grind); rw [hwy]; exact ⟨rfl, rfl⟩)))
                    · refine P_aload_n (pc := 139) dX6_event_139 rfl 1 rfl ?_
                      refine P_iload (pc := 140) dX6_event_140 0 rfl ?_
                      refine P_callVi (Y' := mX6_no) (as := [_]) (pc := 142) dX6_event_142 rfl (by decide : 0 < 2) sM_0 rfl ml_RX6_109 im_X6_no se_X6_no mk_X6_no (Nat.le_of_ble_eq_true rfl) (c_X6_no (by omega)) (fun z_ μ_ hq => ?_)
                      obtain ⟨rfl, hμ_⟩ := hq
                      have hμ_ := hμ_.symm
                      subst hμ_
                      try simp (disch := decide) only [putI_ne, putI_self]
                      refine P_goto (tgt := 159) (pc := 145) dX6_event_145 (by decide) ?_
                      exact P_iret (pc := 159) dX6_event_159 rfl (QI.mk (by first | (exfalso; omega) | (have hwy : whyE μ.1 h k a b u = -2 := (by unfold whyE; grind); rw [hwy]; exact ⟨rfl, rfl⟩) | (have hwy : whyE μ.1 h k a b u = -1 := (by unfold whyE; grind); rw [hwy]; exact ⟨rfl, rfl⟩) | (have hwy : whyE μ.1 h k a b u = -4 := (by unfold whyE; grind); rw [hwy]; exact ⟨rfl, rfl⟩) | (have hwy : whyE μ.1 h k a b u = -6 := (by unfold whyE; grind); rw [hwy]; exact ⟨rfl, rfl⟩) | (have hwy : whyE μ.1 h k a b u = 0 := (by unfold whyE; grind); rw [hwy]; exact ⟨rfl, rfl⟩)))
                  · refine P_iload (pc := 98) dX6_event_98 5 rfl ?_
                    refine P_bipush (pc := 100) dX6_event_100 (by decide) ?_
                    refine P_bipush (pc := 102) dX6_event_102 (by decide) ?_
                    refine P_callSi (Y' := mX6_isIn) (as := [_, _, _]) (pc := 104) dX6_event_104 rfl (by decide : 0 < 2) ml_RX6_105 sm_X6_isIn mk_X6_isIn (Nat.le_of_ble_eq_true rfl) (c_X6_isIn (by first | assumption | (unfold InR; omega)) (by unfold InR; omega) (by unfold InR; omega)) (fun z_ μ_ hq => ?_)
                    obtain ⟨hz, hμ_⟩ := hq
                    have hμ_ := hμ_.symm
                    subst hμ_
                    have hz : z_ = 0 ∧ ¬ (6 ≤ u ∧ u ≤ 9) ∨ z_ = 1 ∧ (6 ≤ u ∧ u ≤ 9) := by rw [hz]; split <;> omega
                    try simp (disch := decide) only [putI_ne, putI_self]
                    refine P_if_ne (tgt := 126) (pc := 107) dX6_event_107 (by decide) (by first | assumption | (unfold InR; omega)) (fun c_107 => ?_) (fun c_107 => ?_)
                    · refine P_bipush (pc := 126) dX6_event_126 (by decide) ?_
                      refine P_goto (tgt := 132) (pc := 128) dX6_event_128 (by decide) ?_
                      refine P_istore (L' := [(6, vi _), (0, vr 0), (1, vi _), (2, vi _), (3, vi _), (4, vi _), (5, vi _)]) (pc := 132) dX6_event_132 (by decide) rfl ?_
                      refine P_iload (pc := 134) dX6_event_134 0 rfl ?_
                      refine P_if_eq (tgt := 148) (pc := 136) dX6_event_136 (by decide) (by first | assumption | (unfold InR; omega)) (fun c_136 => ?_) (fun c_136 => ?_)
                      · refine P_aload_n (pc := 148) dX6_event_148 rfl 1 rfl ?_
                        refine P_iload_n (pc := 149) dX6_event_149 rfl 2 rfl ?_
                        refine P_iload_n (pc := 150) dX6_event_150 rfl 3 rfl ?_
                        refine P_iload_n (pc := 151) dX6_event_151 rfl 4 rfl ?_
                        refine P_iload (pc := 152) dX6_event_152 5 rfl ?_
                        refine P_iload (pc := 154) dX6_event_154 6 rfl ?_
                        refine P_callVi (Y' := mX6_happens) (as := [_, _, _, _, _]) (pc := 156) dX6_event_156 rfl (by decide : 1 < 2) sM_0 rfl ml_RX6_135 im_X6_happens se_X6_happens mk_X6_happens (Nat.le_of_ble_eq_true rfl) (c_X6_happens (by omega) hk) (fun z_ μ_ hq => ?_)
                        obtain ⟨rfl, hμ_⟩ := hq
                        have hμ_ := hμ_.symm
                        subst hμ_
                        try simp (disch := decide) only [putI_ne, putI_self]
                        exact P_iret (pc := 159) dX6_event_159 rfl (QI.mk (by first | (exfalso; omega) | (have hwy : whyE μ.1 h k a b u = -2 := (by unfold whyE; grind); rw [hwy]; exact ⟨rfl, rfl⟩) | (have hwy : whyE μ.1 h k a b u = -1 := (by unfold whyE; grind); rw [hwy]; exact ⟨rfl, rfl⟩) | (have hwy : whyE μ.1 h k a b u = -4 := (by unfold whyE; grind); rw [hwy]; exact ⟨rfl, rfl⟩) | (have hwy : whyE μ.1 h k a b u = -6 := (by unfold whyE; grind); rw [hwy]; exact ⟨rfl, rfl⟩) | (have hwy : whyE μ.1 h k a b u = 0 := (by unfold whyE; grind); rw [hwy]; exact ⟨rfl, rfl⟩)))
                      · refine P_aload_n (pc := 139) dX6_event_139 rfl 1 rfl ?_
                        refine P_iload (pc := 140) dX6_event_140 0 rfl ?_
                        refine P_callVi (Y' := mX6_no) (as := [_]) (pc := 142) dX6_event_142 rfl (by decide : 0 < 2) sM_0 rfl ml_RX6_109 im_X6_no se_X6_no mk_X6_no (Nat.le_of_ble_eq_true rfl) (c_X6_no (by omega)) (fun z_ μ_ hq => ?_)
                        obtain ⟨rfl, hμ_⟩ := hq
                        have hμ_ := hμ_.symm
                        subst hμ_
                        try simp (disch := decide) only [putI_ne, putI_self]
                        refine P_goto (tgt := 159) (pc := 145) dX6_event_145 (by decide) ?_
                        exact P_iret (pc := 159) dX6_event_159 rfl (QI.mk (by first | (exfalso; omega) | (have hwy : whyE μ.1 h k a b u = -2 := (by unfold whyE; grind); rw [hwy]; exact ⟨rfl, rfl⟩) | (have hwy : whyE μ.1 h k a b u = -1 := (by unfold whyE; grind); rw [hwy]; exact ⟨rfl, rfl⟩) | (have hwy : whyE μ.1 h k a b u = -4 := (by unfold whyE; grind); rw [hwy]; exact ⟨rfl, rfl⟩) | (have hwy : whyE μ.1 h k a b u = -6 := (by unfold whyE; grind); rw [hwy]; exact ⟨rfl, rfl⟩) | (have hwy : whyE μ.1 h k a b u = 0 := (by unfold whyE; grind); rw [hwy]; exact ⟨rfl, rfl⟩)))
                    · refine P_iload (pc := 110) dX6_event_110 5 rfl ?_
                      refine P_bipush (pc := 112) dX6_event_112 (by decide) ?_
                      refine P_icmp_gt (tgt := 126) (pc := 114) dX6_event_114 (by decide) (by first | assumption | (unfold InR; omega)) (by first | assumption | (unfold InR; omega)) (fun c_114 => ?_) (fun c_114 => ?_)
                      · refine P_bipush (pc := 126) dX6_event_126 (by decide) ?_
                        refine P_goto (tgt := 132) (pc := 128) dX6_event_128 (by decide) ?_
                        refine P_istore (L' := [(6, vi _), (0, vr 0), (1, vi _), (2, vi _), (3, vi _), (4, vi _), (5, vi _)]) (pc := 132) dX6_event_132 (by decide) rfl ?_
                        refine P_iload (pc := 134) dX6_event_134 0 rfl ?_
                        refine P_if_eq (tgt := 148) (pc := 136) dX6_event_136 (by decide) (by first | assumption | (unfold InR; omega)) (fun c_136 => ?_) (fun c_136 => ?_)
                        · refine P_aload_n (pc := 148) dX6_event_148 rfl 1 rfl ?_
                          refine P_iload_n (pc := 149) dX6_event_149 rfl 2 rfl ?_
                          refine P_iload_n (pc := 150) dX6_event_150 rfl 3 rfl ?_
                          refine P_iload_n (pc := 151) dX6_event_151 rfl 4 rfl ?_
                          refine P_iload (pc := 152) dX6_event_152 5 rfl ?_
                          refine P_iload (pc := 154) dX6_event_154 6 rfl ?_
                          refine P_callVi (Y' := mX6_happens) (as := [_, _, _, _, _]) (pc := 156) dX6_event_156 rfl (by decide : 1 < 2) sM_0 rfl ml_RX6_135 im_X6_happens se_X6_happens mk_X6_happens (Nat.le_of_ble_eq_true rfl) (c_X6_happens (by omega) hk) (fun z_ μ_ hq => ?_)
                          obtain ⟨rfl, hμ_⟩ := hq
                          have hμ_ := hμ_.symm
                          subst hμ_
                          try simp (disch := decide) only [putI_ne, putI_self]
                          exact P_iret (pc := 159) dX6_event_159 rfl (QI.mk (by first | (exfalso; omega) | (have hwy : whyE μ.1 h k a b u = -2 := (by unfold whyE; grind); rw [hwy]; exact ⟨rfl, rfl⟩) | (have hwy : whyE μ.1 h k a b u = -1 := (by unfold whyE; grind); rw [hwy]; exact ⟨rfl, rfl⟩) | (have hwy : whyE μ.1 h k a b u = -4 := (by unfold whyE; grind); rw [hwy]; exact ⟨rfl, rfl⟩) | (have hwy : whyE μ.1 h k a b u = -6 := (by unfold whyE; grind); rw [hwy]; exact ⟨rfl, rfl⟩) | (have hwy : whyE μ.1 h k a b u = 0 := (by unfold whyE; grind); rw [hwy]; exact ⟨rfl, rfl⟩)))
                        · refine P_aload_n (pc := 139) dX6_event_139 rfl 1 rfl ?_
                          refine P_iload (pc := 140) dX6_event_140 0 rfl ?_
                          refine P_callVi (Y' := mX6_no) (as := [_]) (pc := 142) dX6_event_142 rfl (by decide : 0 < 2) sM_0 rfl ml_RX6_109 im_X6_no se_X6_no mk_X6_no (Nat.le_of_ble_eq_true rfl) (c_X6_no (by omega)) (fun z_ μ_ hq => ?_)
                          obtain ⟨rfl, hμ_⟩ := hq
                          have hμ_ := hμ_.symm
                          subst hμ_
                          try simp (disch := decide) only [putI_ne, putI_self]
                          refine P_goto (tgt := 159) (pc := 145) dX6_event_145 (by decide) ?_
                          exact P_iret (pc := 159) dX6_event_159 rfl (QI.mk (by first | (exfalso; omega) | (have hwy : whyE μ.1 h k a b u = -2 := (by unfold whyE; grind); rw [hwy]; exact ⟨rfl, rfl⟩) | (have hwy : whyE μ.1 h k a b u = -1 := (by unfold whyE; grind); rw [hwy]; exact ⟨rfl, rfl⟩) | (have hwy : whyE μ.1 h k a b u = -4 := (by unfold whyE; grind); rw [hwy]; exact ⟨rfl, rfl⟩) | (have hwy : whyE μ.1 h k a b u = -6 := (by unfold whyE; grind); rw [hwy]; exact ⟨rfl, rfl⟩) | (have hwy : whyE μ.1 h k a b u = 0 := (by unfold whyE; grind); rw [hwy]; exact ⟨rfl, rfl⟩)))
                      · refine P_aload_n (pc := 117) dX6_event_117 rfl 0 rfl ?_
                        refine P_getI (jj := 12) (pc := 118) dX6_event_118 fa_RX6_125 sM_0 fM0_12 rfl ?_
                        try simp (disch := decide) only [putI_ne, putI_self]
                        refine P_bipush (pc := 121) dX6_event_121 (by decide) ?_
                        refine P_icmp_ne (tgt := 131) (pc := 123) dX6_event_123 (by decide) (by first | assumption | (unfold InR; omega)) (by first | assumption | (unfold InR; omega)) (fun c_123 => ?_) (fun c_123 => ?_)
                        · refine P_iconst (pc := 131) dX6_event_131 ?_
                          refine P_istore (L' := [(6, vi _), (0, vr 0), (1, vi _), (2, vi _), (3, vi _), (4, vi _), (5, vi _)]) (pc := 132) dX6_event_132 (by decide) rfl ?_
                          refine P_iload (pc := 134) dX6_event_134 0 rfl ?_
                          refine P_if_eq (tgt := 148) (pc := 136) dX6_event_136 (by decide) (by first | assumption | (unfold InR; omega)) (fun c_136 => ?_) (fun c_136 => ?_)
                          · refine P_aload_n (pc := 148) dX6_event_148 rfl 1 rfl ?_
                            refine P_iload_n (pc := 149) dX6_event_149 rfl 2 rfl ?_
                            refine P_iload_n (pc := 150) dX6_event_150 rfl 3 rfl ?_
                            refine P_iload_n (pc := 151) dX6_event_151 rfl 4 rfl ?_
                            refine P_iload (pc := 152) dX6_event_152 5 rfl ?_
                            refine P_iload (pc := 154) dX6_event_154 6 rfl ?_
                            refine P_callVi (Y' := mX6_happens) (as := [_, _, _, _, _]) (pc := 156) dX6_event_156 rfl (by decide : 1 < 2) sM_0 rfl ml_RX6_135 im_X6_happens se_X6_happens mk_X6_happens (Nat.le_of_ble_eq_true rfl) (c_X6_happens (by omega) hk) (fun z_ μ_ hq => ?_)
                            obtain ⟨rfl, hμ_⟩ := hq
                            have hμ_ := hμ_.symm
                            subst hμ_
                            try simp (disch := decide) only [putI_ne, putI_self]
                            exact P_iret (pc := 159) dX6_event_159 rfl (QI.mk (by first | (exfalso; omega) | (have hwy : whyE μ.1 h k a b u = -2 := (by unfold whyE; grind); rw [hwy]; exact ⟨rfl, rfl⟩) | (have hwy : whyE μ.1 h k a b u = -1 := (by unfold whyE; grind); rw [hwy]; exact ⟨rfl, rfl⟩) | (have hwy : whyE μ.1 h k a b u = -4 := (by unfold whyE; grind); rw [hwy]; exact ⟨rfl, rfl⟩) | (have hwy : whyE μ.1 h k a b u = -6 := (by unfold whyE; grind); rw [hwy]; exact ⟨rfl, rfl⟩) | (have hwy : whyE μ.1 h k a b u = 0 := (by unfold whyE; grind); rw [hwy]; exact ⟨rfl, rfl⟩)))
                          · refine P_aload_n (pc := 139) dX6_event_139 rfl 1 rfl ?_
                            refine P_iload (pc := 140) dX6_event_140 0 rfl ?_
                            refine P_callVi (Y' := mX6_no) (as := [_]) (pc := 142) dX6_event_142 rfl (by decide : 0 < 2) sM_0 rfl ml_RX6_109 im_X6_no se_X6_no mk_X6_no (Nat.le_of_ble_eq_true rfl) (c_X6_no (by omega)) (fun z_ μ_ hq => ?_)
                            obtain ⟨rfl, hμ_⟩ := hq
                            have hμ_ := hμ_.symm
                            subst hμ_
                            try simp (disch := decide) only [putI_ne, putI_self]
                            refine P_goto (tgt := 159) (pc := 145) dX6_event_145 (by decide) ?_
                            exact P_iret (pc := 159) dX6_event_159 rfl (QI.mk (by first | (exfalso; omega) | (have hwy : whyE μ.1 h k a b u = -2 := (by unfold whyE; grind); rw [hwy]; exact ⟨rfl, rfl⟩) | (have hwy : whyE μ.1 h k a b u = -1 := (by unfold whyE; grind); rw [hwy]; exact ⟨rfl, rfl⟩) | (have hwy : whyE μ.1 h k a b u = -4 := (by unfold whyE; grind); rw [hwy]; exact ⟨rfl, rfl⟩) | (have hwy : whyE μ.1 h k a b u = -6 := (by unfold whyE; grind); rw [hwy]; exact ⟨rfl, rfl⟩) | (have hwy : whyE μ.1 h k a b u = 0 := (by unfold whyE; grind); rw [hwy]; exact ⟨rfl, rfl⟩)))
                        · refine P_bipush (pc := 126) dX6_event_126 (by decide) ?_
                          refine P_goto (tgt := 132) (pc := 128) dX6_event_128 (by decide) ?_
                          refine P_istore (L' := [(6, vi _), (0, vr 0), (1, vi _), (2, vi _), (3, vi _), (4, vi _), (5, vi _)]) (pc := 132) dX6_event_132 (by decide) rfl ?_
                          refine P_iload (pc := 134) dX6_event_134 0 rfl ?_
                          refine P_if_eq (tgt := 148) (pc := 136) dX6_event_136 (by decide) (by first | assumption | (unfold InR; omega)) (fun c_136 => ?_) (fun c_136 => ?_)
                          · refine P_aload_n (pc := 148) dX6_event_148 rfl 1 rfl ?_
                            refine P_iload_n (pc := 149) dX6_event_149 rfl 2 rfl ?_
                            refine P_iload_n (pc := 150) dX6_event_150 rfl 3 rfl ?_
                            refine P_iload_n (pc := 151) dX6_event_151 rfl 4 rfl ?_
                            refine P_iload (pc := 152) dX6_event_152 5 rfl ?_
                            refine P_iload (pc := 154) dX6_event_154 6 rfl ?_
                            refine P_callVi (Y' := mX6_happens) (as := [_, _, _, _, _]) (pc := 156) dX6_event_156 rfl (by decide : 1 < 2) sM_0 rfl ml_RX6_135 im_X6_happens se_X6_happens mk_X6_happens (Nat.le_of_ble_eq_true rfl) (c_X6_happens (by omega) hk) (fun z_ μ_ hq => ?_)
                            obtain ⟨rfl, hμ_⟩ := hq
                            have hμ_ := hμ_.symm
                            subst hμ_
                            try simp (disch := decide) only [putI_ne, putI_self]
                            exact P_iret (pc := 159) dX6_event_159 rfl (QI.mk (by first | (exfalso; omega) | (have hwy : whyE μ.1 h k a b u = -2 := (by unfold whyE; grind); rw [hwy]; exact ⟨rfl, rfl⟩) | (have hwy : whyE μ.1 h k a b u = -1 := (by unfold whyE; grind); rw [hwy]; exact ⟨rfl, rfl⟩) | (have hwy : whyE μ.1 h k a b u = -4 := (by unfold whyE; grind); rw [hwy]; exact ⟨rfl, rfl⟩) | (have hwy : whyE μ.1 h k a b u = -6 := (by unfold whyE; grind); rw [hwy]; exact ⟨rfl, rfl⟩) | (have hwy : whyE μ.1 h k a b u = 0 := (by unfold whyE; grind); rw [hwy]; exact ⟨rfl, rfl⟩)))
                          · refine P_aload_n (pc := 139) dX6_event_139 rfl 1 rfl ?_
                            refine P_iload (pc := 140) dX6_event_140 0 rfl ?_
                            refine P_callVi (Y' := mX6_no) (as := [_]) (pc := 142) dX6_event_142 rfl (by decide : 0 < 2) sM_0 rfl ml_RX6_109 im_X6_no se_X6_no mk_X6_no (Nat.le_of_ble_eq_true rfl) (c_X6_no (by omega)) (fun z_ μ_ hq => ?_)
                            obtain ⟨rfl, hμ_⟩ := hq
                            have hμ_ := hμ_.symm
                            subst hμ_
                            try simp (disch := decide) only [putI_ne, putI_self]
                            refine P_goto (tgt := 159) (pc := 145) dX6_event_145 (by decide) ?_
                            exact P_iret (pc := 159) dX6_event_159 rfl (QI.mk (by first | (exfalso; omega) | (have hwy : whyE μ.1 h k a b u = -2 := (by unfold whyE; grind); rw [hwy]; exact ⟨rfl, rfl⟩) | (have hwy : whyE μ.1 h k a b u = -1 := (by unfold whyE; grind); rw [hwy]; exact ⟨rfl, rfl⟩) | (have hwy : whyE μ.1 h k a b u = -4 := (by unfold whyE; grind); rw [hwy]; exact ⟨rfl, rfl⟩) | (have hwy : whyE μ.1 h k a b u = -6 := (by unfold whyE; grind); rw [hwy]; exact ⟨rfl, rfl⟩) | (have hwy : whyE μ.1 h k a b u = 0 := (by unfold whyE; grind); rw [hwy]; exact ⟨rfl, rfl⟩)))
            · refine P_bipush (pc := 75) dX6_event_75 (by decide) ?_
              refine P_goto (tgt := 132) (pc := 77) dX6_event_77 (by decide) ?_
              refine P_istore (L' := [(6, vi _), (0, vr 0), (1, vi _), (2, vi _), (3, vi _), (4, vi _), (5, vi _)]) (pc := 132) dX6_event_132 (by decide) rfl ?_
              refine P_iload (pc := 134) dX6_event_134 0 rfl ?_
              refine P_if_eq (tgt := 148) (pc := 136) dX6_event_136 (by decide) (by first | assumption | (unfold InR; omega)) (fun c_136 => ?_) (fun c_136 => ?_)
              · refine P_aload_n (pc := 148) dX6_event_148 rfl 1 rfl ?_
                refine P_iload_n (pc := 149) dX6_event_149 rfl 2 rfl ?_
                refine P_iload_n (pc := 150) dX6_event_150 rfl 3 rfl ?_
                refine P_iload_n (pc := 151) dX6_event_151 rfl 4 rfl ?_
                refine P_iload (pc := 152) dX6_event_152 5 rfl ?_
                refine P_iload (pc := 154) dX6_event_154 6 rfl ?_
                refine P_callVi (Y' := mX6_happens) (as := [_, _, _, _, _]) (pc := 156) dX6_event_156 rfl (by decide : 1 < 2) sM_0 rfl ml_RX6_135 im_X6_happens se_X6_happens mk_X6_happens (Nat.le_of_ble_eq_true rfl) (c_X6_happens (by omega) hk) (fun z_ μ_ hq => ?_)
                obtain ⟨rfl, hμ_⟩ := hq
                have hμ_ := hμ_.symm
                subst hμ_
                try simp (disch := decide) only [putI_ne, putI_self]
                exact P_iret (pc := 159) dX6_event_159 rfl (QI.mk (by first | (exfalso; omega) | (have hwy : whyE μ.1 h k a b u = -2 := (by unfold whyE; grind); rw [hwy]; exact ⟨rfl, rfl⟩) | (have hwy : whyE μ.1 h k a b u = -1 := (by unfold whyE; grind); rw [hwy]; exact ⟨rfl, rfl⟩) | (have hwy : whyE μ.1 h k a b u = -4 := (by unfold whyE; grind); rw [hwy]; exact ⟨rfl, rfl⟩) | (have hwy : whyE μ.1 h k a b u = -6 := (by unfold whyE; grind); rw [hwy]; exact ⟨rfl, rfl⟩) | (have hwy : whyE μ.1 h k a b u = 0 := (by unfold whyE; grind); rw [hwy]; exact ⟨rfl, rfl⟩)))
              · refine P_aload_n (pc := 139) dX6_event_139 rfl 1 rfl ?_
                refine P_iload (pc := 140) dX6_event_140 0 rfl ?_
                refine P_callVi (Y' := mX6_no) (as := [_]) (pc := 142) dX6_event_142 rfl (by decide : 0 < 2) sM_0 rfl ml_RX6_109 im_X6_no se_X6_no mk_X6_no (Nat.le_of_ble_eq_true rfl) (c_X6_no (by omega)) (fun z_ μ_ hq => ?_)
                obtain ⟨rfl, hμ_⟩ := hq
                have hμ_ := hμ_.symm
                subst hμ_
                try simp (disch := decide) only [putI_ne, putI_self]
                refine P_goto (tgt := 159) (pc := 145) dX6_event_145 (by decide) ?_
                exact P_iret (pc := 159) dX6_event_159 rfl (QI.mk (by first | (exfalso; omega) | (have hwy : whyE μ.1 h k a b u = -2 := (by unfold whyE; grind); rw [hwy]; exact ⟨rfl, rfl⟩) | (have hwy : whyE μ.1 h k a b u = -1 := (by unfold whyE; grind); rw [hwy]; exact ⟨rfl, rfl⟩) | (have hwy : whyE μ.1 h k a b u = -4 := (by unfold whyE; grind); rw [hwy]; exact ⟨rfl, rfl⟩) | (have hwy : whyE μ.1 h k a b u = -6 := (by unfold whyE; grind); rw [hwy]; exact ⟨rfl, rfl⟩) | (have hwy : whyE μ.1 h k a b u = 0 := (by unfold whyE; grind); rw [hwy]; exact ⟨rfl, rfl⟩)))
          · refine P_iload (pc := 63) dX6_event_63 4 rfl ?_
            refine P_iconst (pc := 65) dX6_event_65 ?_
            refine P_icmp_lt (tgt := 75) (pc := 66) dX6_event_66 (by decide) (by first | assumption | (unfold InR; omega)) (by first | assumption | (unfold InR; omega)) (fun c_66 => ?_) (fun c_66 => ?_)
            · refine P_bipush (pc := 75) dX6_event_75 (by decide) ?_
              refine P_goto (tgt := 132) (pc := 77) dX6_event_77 (by decide) ?_
              refine P_istore (L' := [(6, vi _), (0, vr 0), (1, vi _), (2, vi _), (3, vi _), (4, vi _), (5, vi _)]) (pc := 132) dX6_event_132 (by decide) rfl ?_
              refine P_iload (pc := 134) dX6_event_134 0 rfl ?_
              refine P_if_eq (tgt := 148) (pc := 136) dX6_event_136 (by decide) (by first | assumption | (unfold InR; omega)) (fun c_136 => ?_) (fun c_136 => ?_)
              · refine P_aload_n (pc := 148) dX6_event_148 rfl 1 rfl ?_
                refine P_iload_n (pc := 149) dX6_event_149 rfl 2 rfl ?_
                refine P_iload_n (pc := 150) dX6_event_150 rfl 3 rfl ?_
                refine P_iload_n (pc := 151) dX6_event_151 rfl 4 rfl ?_
                refine P_iload (pc := 152) dX6_event_152 5 rfl ?_
                refine P_iload (pc := 154) dX6_event_154 6 rfl ?_
                refine P_callVi (Y' := mX6_happens) (as := [_, _, _, _, _]) (pc := 156) dX6_event_156 rfl (by decide : 1 < 2) sM_0 rfl ml_RX6_135 im_X6_happens se_X6_happens mk_X6_happens (Nat.le_of_ble_eq_true rfl) (c_X6_happens (by omega) hk) (fun z_ μ_ hq => ?_)
                obtain ⟨rfl, hμ_⟩ := hq
                have hμ_ := hμ_.symm
                subst hμ_
                try simp (disch := decide) only [putI_ne, putI_self]
                exact P_iret (pc := 159) dX6_event_159 rfl (QI.mk (by first | (exfalso; omega) | (have hwy : whyE μ.1 h k a b u = -2 := (by unfold whyE; grind); rw [hwy]; exact ⟨rfl, rfl⟩) | (have hwy : whyE μ.1 h k a b u = -1 := (by unfold whyE; grind); rw [hwy]; exact ⟨rfl, rfl⟩) | (have hwy : whyE μ.1 h k a b u = -4 := (by unfold whyE; grind); rw [hwy]; exact ⟨rfl, rfl⟩) | (have hwy : whyE μ.1 h k a b u = -6 := (by unfold whyE; grind); rw [hwy]; exact ⟨rfl, rfl⟩) | (have hwy : whyE μ.1 h k a b u = 0 := (by unfold whyE; grind); rw [hwy]; exact ⟨rfl, rfl⟩)))
              · refine P_aload_n (pc := 139) dX6_event_139 rfl 1 rfl ?_
                refine P_iload (pc := 140) dX6_event_140 0 rfl ?_
                refine P_callVi (Y' := mX6_no) (as := [_]) (pc := 142) dX6_event_142 rfl (by decide : 0 < 2) sM_0 rfl ml_RX6_109 im_X6_no se_X6_no mk_X6_no (Nat.le_of_ble_eq_true rfl) (c_X6_no (by omega)) (fun z_ μ_ hq => ?_)
                obtain ⟨rfl, hμ_⟩ := hq
                have hμ_ := hμ_.symm
                subst hμ_
                try simp (disch := decide) only [putI_ne, putI_self]
                refine P_goto (tgt := 159) (pc := 145) dX6_event_145 (by decide) ?_
                exact P_iret (pc := 159) dX6_event_159 rfl (QI.mk (by first | (exfalso; omega) | (have hwy : whyE μ.1 h k a b u = -2 := (by unfold whyE; grind); rw [hwy]; exact ⟨rfl, rfl⟩) | (have hwy : whyE μ.1 h k a b u = -1 := (by unfold whyE; grind); rw [hwy]; exact ⟨rfl, rfl⟩) | (have hwy : whyE μ.1 h k a b u = -4 := (by unfold whyE; grind); rw [hwy]; exact ⟨rfl, rfl⟩) | (have hwy : whyE μ.1 h k a b u = -6 := (by unfold whyE; grind); rw [hwy]; exact ⟨rfl, rfl⟩) | (have hwy : whyE μ.1 h k a b u = 0 := (by unfold whyE; grind); rw [hwy]; exact ⟨rfl, rfl⟩)))
            · refine P_iload (pc := 69) dX6_event_69 5 rfl ?_
              refine P_iconst (pc := 71) dX6_event_71 ?_
              refine P_icmp_ge (tgt := 80) (pc := 72) dX6_event_72 (by decide) (by first | assumption | (unfold InR; omega)) (by first | assumption | (unfold InR; omega)) (fun c_72 => ?_) (fun c_72 => ?_)
              · refine P_iload_n (pc := 80) dX6_event_80 rfl 1 rfl ?_
                refine P_bipush (pc := 81) dX6_event_81 (by decide) ?_
                refine P_icmp_gt (tgt := 126) (pc := 83) dX6_event_83 (by decide) (by first | assumption | (unfold InR; omega)) (by first | assumption | (unfold InR; omega)) (fun c_83 => ?_) (fun c_83 => ?_)
                · refine P_bipush (pc := 126) dX6_event_126 (by decide) ?_
                  refine P_goto (tgt := 132) (pc := 128) dX6_event_128 (by decide) ?_
                  refine P_istore (L' := [(6, vi _), (0, vr 0), (1, vi _), (2, vi _), (3, vi _), (4, vi _), (5, vi _)]) (pc := 132) dX6_event_132 (by decide) rfl ?_
                  refine P_iload (pc := 134) dX6_event_134 0 rfl ?_
                  refine P_if_eq (tgt := 148) (pc := 136) dX6_event_136 (by decide) (by first | assumption | (unfold InR; omega)) (fun c_136 => ?_) (fun c_136 => ?_)
                  · refine P_aload_n (pc := 148) dX6_event_148 rfl 1 rfl ?_
                    refine P_iload_n (pc := 149) dX6_event_149 rfl 2 rfl ?_
                    refine P_iload_n (pc := 150) dX6_event_150 rfl 3 rfl ?_
                    refine P_iload_n (pc := 151) dX6_event_151 rfl 4 rfl ?_
                    refine P_iload (pc := 152) dX6_event_152 5 rfl ?_
                    refine P_iload (pc := 154) dX6_event_154 6 rfl ?_
                    refine P_callVi (Y' := mX6_happens) (as := [_, _, _, _, _]) (pc := 156) dX6_event_156 rfl (by decide : 1 < 2) sM_0 rfl ml_RX6_135 im_X6_happens se_X6_happens mk_X6_happens (Nat.le_of_ble_eq_true rfl) (c_X6_happens (by omega) hk) (fun z_ μ_ hq => ?_)
                    obtain ⟨rfl, hμ_⟩ := hq
                    have hμ_ := hμ_.symm
                    subst hμ_
                    try simp (disch := decide) only [putI_ne, putI_self]
                    exact P_iret (pc := 159) dX6_event_159 rfl (QI.mk (by first | (exfalso; omega) | (have hwy : whyE μ.1 h k a b u = -2 := (by unfold whyE; grind); rw [hwy]; exact ⟨rfl, rfl⟩) | (have hwy : whyE μ.1 h k a b u = -1 := (by unfold whyE; grind); rw [hwy]; exact ⟨rfl, rfl⟩) | (have hwy : whyE μ.1 h k a b u = -4 := (by unfold whyE; grind); rw [hwy]; exact ⟨rfl, rfl⟩) | (have hwy : whyE μ.1 h k a b u = -6 := (by unfold whyE; grind); rw [hwy]; exact ⟨rfl, rfl⟩) | (have hwy : whyE μ.1 h k a b u = 0 := (by unfold whyE; grind); rw [hwy]; exact ⟨rfl, rfl⟩)))
                  · refine P_aload_n (pc := 139) dX6_event_139 rfl 1 rfl ?_
                    refine P_iload (pc := 140) dX6_event_140 0 rfl ?_
                    refine P_callVi (Y' := mX6_no) (as := [_]) (pc := 142) dX6_event_142 rfl (by decide : 0 < 2) sM_0 rfl ml_RX6_109 im_X6_no se_X6_no mk_X6_no (Nat.le_of_ble_eq_true rfl) (c_X6_no (by omega)) (fun z_ μ_ hq => ?_)
                    obtain ⟨rfl, hμ_⟩ := hq
                    have hμ_ := hμ_.symm
                    subst hμ_
                    try simp (disch := decide) only [putI_ne, putI_self]
                    refine P_goto (tgt := 159) (pc := 145) dX6_event_145 (by decide) ?_
                    exact P_iret (pc := 159) dX6_event_159 rfl (QI.mk (by first | (exfalso; omega) | (have hwy : whyE μ.1 h k a b u = -2 := (by unfold whyE; grind); rw [hwy]; exact ⟨rfl, rfl⟩) | (have hwy : whyE μ.1 h k a b u = -1 := (by unfold whyE; grind); rw [hwy]; exact ⟨rfl, rfl⟩) | (have hwy : whyE μ.1 h k a b u = -4 := (by unfold whyE; grind); rw [hwy]; exact ⟨rfl, rfl⟩) | (have hwy : whyE μ.1 h k a b u = -6 := (by unfold whyE; grind); rw [hwy]; exact ⟨rfl, rfl⟩) | (have hwy : whyE μ.1 h k a b u = 0 := (by unfold whyE; grind); rw [hwy]; exact ⟨rfl, rfl⟩)))
                · refine P_iload_n (pc := 86) dX6_event_86 rfl 2 rfl ?_
                  refine P_bipush (pc := 87) dX6_event_87 (by decide) ?_
                  refine P_icmp_ne (tgt := 98) (pc := 89) dX6_event_89 (by decide) (by first | assumption | (unfold InR; omega)) (by first | assumption | (unfold InR; omega)) (fun c_89 => ?_) (fun c_89 => ?_)
                  · refine P_iload (pc := 98) dX6_event_98 5 rfl ?_
                    refine P_bipush (pc := 100) dX6_event_100 (by decide) ?_
                    refine P_bipush (pc := 102) dX6_event_102 (by decide) ?_
                    refine P_callSi (Y' := mX6_isIn) (as := [_, _, _]) (pc := 104) dX6_event_104 rfl (by decide : 0 < 2) ml_RX6_105 sm_X6_isIn mk_X6_isIn (Nat.le_of_ble_eq_true rfl) (c_X6_isIn (by first | assumption | (unfold InR; omega)) (by unfold InR; omega) (by unfold InR; omega)) (fun z_ μ_ hq => ?_)
                    obtain ⟨hz, hμ_⟩ := hq
                    have hμ_ := hμ_.symm
                    subst hμ_
                    have hz : z_ = 0 ∧ ¬ (6 ≤ u ∧ u ≤ 9) ∨ z_ = 1 ∧ (6 ≤ u ∧ u ≤ 9) := by rw [hz]; split <;> omega
                    try simp (disch := decide) only [putI_ne, putI_self]
                    refine P_if_ne (tgt := 126) (pc := 107) dX6_event_107 (by decide) (by first | assumption | (unfold InR; omega)) (fun c_107 => ?_) (fun c_107 => ?_)
                    · refine P_bipush (pc := 126) dX6_event_126 (by decide) ?_
                      refine P_goto (tgt := 132) (pc := 128) dX6_event_128 (by decide) ?_
                      refine P_istore (L' := [(6, vi _), (0, vr 0), (1, vi _), (2, vi _), (3, vi _), (4, vi _), (5, vi _)]) (pc := 132) dX6_event_132 (by decide) rfl ?_
                      refine P_iload (pc := 134) dX6_event_134 0 rfl ?_
                      refine P_if_eq (tgt := 148) (pc := 136) dX6_event_136 (by decide) (by first | assumption | (unfold InR; omega)) (fun c_136 => ?_) (fun c_136 => ?_)
                      · refine P_aload_n (pc := 148) dX6_event_148 rfl 1 rfl ?_
                        refine P_iload_n (pc := 149) dX6_event_149 rfl 2 rfl ?_
                        refine P_iload_n (pc := 150) dX6_event_150 rfl 3 rfl ?_
                        refine P_iload_n (pc := 151) dX6_event_151 rfl 4 rfl ?_
                        refine P_iload (pc := 152) dX6_event_152 5 rfl ?_
                        refine P_iload (pc := 154) dX6_event_154 6 rfl ?_
                        refine P_callVi (Y' := mX6_happens) (as := [_, _, _, _, _]) (pc := 156) dX6_event_156 rfl (by decide : 1 < 2) sM_0 rfl ml_RX6_135 im_X6_happens se_X6_happens mk_X6_happens (Nat.le_of_ble_eq_true rfl) (c_X6_happens (by omega) hk) (fun z_ μ_ hq => ?_)
                        obtain ⟨rfl, hμ_⟩ := hq
                        have hμ_ := hμ_.symm
                        subst hμ_
                        try simp (disch := decide) only [putI_ne, putI_self]
                        exact P_iret (pc := 159) dX6_event_159 rfl (QI.mk (by first | (exfalso; omega) | (have hwy : whyE μ.1 h k a b u = -2 := (by unfold whyE; grind); rw [hwy]; exact ⟨rfl, rfl⟩) | (have hwy : whyE μ.1 h k a b u = -1 := (by unfold whyE; grind); rw [hwy]; exact ⟨rfl, rfl⟩) | (have hwy : whyE μ.1 h k a b u = -4 := (by unfold whyE; grind); rw [hwy]; exact ⟨rfl, rfl⟩) | (have hwy : whyE μ.1 h k a b u = -6 := (by unfold whyE; grind); rw [hwy]; exact ⟨rfl, rfl⟩) | (have hwy : whyE μ.1 h k a b u = 0 := (by unfold whyE; grind); rw [hwy]; exact ⟨rfl, rfl⟩)))
                      · refine P_aload_n (pc := 139) dX6_event_139 rfl 1 rfl ?_
                        refine P_iload (pc := 140) dX6_event_140 0 rfl ?_
                        refine P_callVi (Y' := mX6_no) (as := [_]) (pc := 142) dX6_event_142 rfl (by decide : 0 < 2) sM_0 rfl ml_RX6_109 im_X6_no se_X6_no mk_X6_no (Nat.le_of_ble_eq_true rfl) (c_X6_no (by omega)) (fun z_ μ_ hq => ?_)
                        obtain ⟨rfl, hμ_⟩ := hq
                        have hμ_ := hμ_.symm
                        subst hμ_
                        try simp (disch := decide) only [putI_ne, putI_self]
                        refine P_goto (tgt := 159) (pc := 145) dX6_event_145 (by decide) ?_
                        exact P_iret (pc := 159) dX6_event_159 rfl (QI.mk (by first | (exfalso; omega) | (have hwy : whyE μ.1 h k a b u = -2 := (by unfold whyE; grind); rw [hwy]; exact ⟨rfl, rfl⟩) | (have hwy : whyE μ.1 h k a b u = -1 := (by unfold whyE; grind); rw [hwy]; exact ⟨rfl, rfl⟩) | (have hwy : whyE μ.1 h k a b u = -4 := (by unfold whyE; grind); rw [hwy]; exact ⟨rfl, rfl⟩) | (have hwy : whyE μ.1 h k a b u = -6 := (by unfold whyE; grind); rw [hwy]; exact ⟨rfl, rfl⟩) | (have hwy : whyE μ.1 h k a b u = 0 := (by unfold whyE; grind); rw [hwy]; exact ⟨rfl, rfl⟩)))
                    · refine P_iload (pc := 110) dX6_event_110 5 rfl ?_
                      refine P_bipush (pc := 112) dX6_event_112 (by decide) ?_
                      refine P_icmp_gt (tgt := 126) (pc := 114) dX6_event_114 (by decide) (by first | assumption | (unfold InR; omega)) (by first | assumption | (unfold InR; omega)) (fun c_114 => ?_) (fun c_114 => ?_)
                      · refine P_bipush (pc := 126) dX6_event_126 (by decide) ?_
                        refine P_goto (tgt := 132) (pc := 128) dX6_event_128 (by decide) ?_
                        refine P_istore (L' := [(6, vi _), (0, vr 0), (1, vi _), (2, vi _), (3, vi _), (4, vi _), (5, vi _)]) (pc := 132) dX6_event_132 (by decide) rfl ?_
                        refine P_iload (pc := 134) dX6_event_134 0 rfl ?_
                        refine P_if_eq (tgt := 148) (pc := 136) dX6_event_136 (by decide) (by first | assumption | (unfold InR; omega)) (fun c_136 => ?_) (fun c_136 => ?_)
                        · refine P_aload_n (pc := 148) dX6_event_148 rfl 1 rfl ?_
                          refine P_iload_n (pc := 149) dX6_event_149 rfl 2 rfl ?_
                          refine P_iload_n (pc := 150) dX6_event_150 rfl 3 rfl ?_
                          refine P_iload_n (pc := 151) dX6_event_151 rfl 4 rfl ?_
                          refine P_iload (pc := 152) dX6_event_152 5 rfl ?_
                          refine P_iload (pc := 154) dX6_event_154 6 rfl ?_
                          refine P_callVi (Y' := mX6_happens) (as := [_, _, _, _, _]) (pc := 156) dX6_event_156 rfl (by decide : 1 < 2) sM_0 rfl ml_RX6_135 im_X6_happens se_X6_happens mk_X6_happens (Nat.le_of_ble_eq_true rfl) (c_X6_happens (by omega) hk) (fun z_ μ_ hq => ?_)
                          obtain ⟨rfl, hμ_⟩ := hq
                          have hμ_ := hμ_.symm
                          subst hμ_
                          try simp (disch := decide) only [putI_ne, putI_self]
                          exact P_iret (pc := 159) dX6_event_159 rfl (QI.mk (by first | (exfalso; omega) | (have hwy : whyE μ.1 h k a b u = -2 := (by unfold whyE; grind); rw [hwy]; exact ⟨rfl, rfl⟩) | (have hwy : whyE μ.1 h k a b u = -1 := (by unfold whyE; grind); rw [hwy]; exact ⟨rfl, rfl⟩) | (have hwy : whyE μ.1 h k a b u = -4 := (by unfold whyE; grind); rw [hwy]; exact ⟨rfl, rfl⟩) | (have hwy : whyE μ.1 h k a b u = -6 := (by unfold whyE; grind); rw [hwy]; exact ⟨rfl, rfl⟩) | (have hwy : whyE μ.1 h k a b u = 0 := (by unfold whyE; grind); rw [hwy]; exact ⟨rfl, rfl⟩)))
                        · refine P_aload_n (pc := 139) dX6_event_139 rfl 1 rfl ?_
                          refine P_iload (pc := 140) dX6_event_140 0 rfl ?_
                          refine P_callVi (Y' := mX6_no) (as := [_]) (pc := 142) dX6_event_142 rfl (by decide : 0 < 2) sM_0 rfl ml_RX6_109 im_X6_no se_X6_no mk_X6_no (Nat.le_of_ble_eq_true rfl) (c_X6_no (by omega)) (fun z_ μ_ hq => ?_)
                          obtain ⟨rfl, hμ_⟩ := hq
                          have hμ_ := hμ_.symm
                          subst hμ_
                          try simp (disch := decide) only [putI_ne, putI_self]
                          refine P_goto (tgt := 159) (pc := 145) dX6_event_145 (by decide) ?_
                          exact P_iret (pc := 159) dX6_event_159 rfl (QI.mk (by first | (exfalso; omega) | (have hwy : whyE μ.1 h k a b u = -2 := (by unfold whyE; grind); rw [hwy]; exact ⟨rfl, rfl⟩) | (have hwy : whyE μ.1 h k a b u = -1 := (by unfold whyE; grind); rw [hwy]; exact ⟨rfl, rfl⟩) | (have hwy : whyE μ.1 h k a b u = -4 := (by unfold whyE; grind); rw [hwy]; exact ⟨rfl, rfl⟩) | (have hwy : whyE μ.1 h k a b u = -6 := (by unfold whyE; grind); rw [hwy]; exact ⟨rfl, rfl⟩) | (have hwy : whyE μ.1 h k a b u = 0 := (by unfold whyE; grind); rw [hwy]; exact ⟨rfl, rfl⟩)))
                      · refine P_aload_n (pc := 117) dX6_event_117 rfl 0 rfl ?_
                        refine P_getI (jj := 12) (pc := 118) dX6_event_118 fa_RX6_125 sM_0 fM0_12 rfl ?_
                        try simp (disch := decide) only [putI_ne, putI_self]
                        refine P_bipush (pc := 121) dX6_event_121 (by decide) ?_
                        refine P_icmp_ne (tgt := 131) (pc := 123) dX6_event_123 (by decide) (by first | assumption | (unfold InR; omega)) (by first | assumption | (unfold InR; omega)) (fun c_123 => ?_) (fun c_123 => ?_)
                        · refine P_iconst (pc := 131) dX6_event_131 ?_
                          refine P_istore (L' := [(6, vi _), (0, vr 0), (1, vi _), (2, vi _), (3, vi _), (4, vi _), (5, vi _)]) (pc := 132) dX6_event_132 (by decide) rfl ?_
                          refine P_iload (pc := 134) dX6_event_134 0 rfl ?_
                          refine P_if_eq (tgt := 148) (pc := 136) dX6_event_136 (by decide) (by first | assumption | (unfold InR; omega)) (fun c_136 => ?_) (fun c_136 => ?_)
                          · refine P_aload_n (pc := 148) dX6_event_148 rfl 1 rfl ?_
                            refine P_iload_n (pc := 149) dX6_event_149 rfl 2 rfl ?_
                            refine P_iload_n (pc := 150) dX6_event_150 rfl 3 rfl ?_
                            refine P_iload_n (pc := 151) dX6_event_151 rfl 4 rfl ?_
                            refine P_iload (pc := 152) dX6_event_152 5 rfl ?_
                            refine P_iload (pc := 154) dX6_event_154 6 rfl ?_
                            refine P_callVi (Y' := mX6_happens) (as := [_, _, _, _, _]) (pc := 156) dX6_event_156 rfl (by decide : 1 < 2) sM_0 rfl ml_RX6_135 im_X6_happens se_X6_happens mk_X6_happens (Nat.le_of_ble_eq_true rfl) (c_X6_happens (by omega) hk) (fun z_ μ_ hq => ?_)
                            obtain ⟨rfl, hμ_⟩ := hq
                            have hμ_ := hμ_.symm
                            subst hμ_
                            try simp (disch := decide) only [putI_ne, putI_self]
                            exact P_iret (pc := 159) dX6_event_159 rfl (QI.mk (by first | (exfalso; omega) | (have hwy : whyE μ.1 h k a b u = -2 := (by unfold whyE; grind); rw [hwy]; exact ⟨rfl, rfl⟩) | (have hwy : whyE μ.1 h k a b u = -1 := (by unfold whyE; grind); rw [hwy]; exact ⟨rfl, rfl⟩) | (have hwy : whyE μ.1 h k a b u = -4 := (by unfold whyE; grind); rw [hwy]; exact ⟨rfl, rfl⟩) | (have hwy : whyE μ.1 h k a b u = -6 := (by unfold whyE; grind); rw [hwy]; exact ⟨rfl, rfl⟩) | (have hwy : whyE μ.1 h k a b u = 0 := (by unfold whyE; grind); rw [hwy]; exact ⟨rfl, rfl⟩)))
                          · refine P_aload_n (pc := 139) dX6_event_139 rfl 1 rfl ?_
                            refine P_iload (pc := 140) dX6_event_140 0 rfl ?_
                            refine P_callVi (Y' := mX6_no) (as := [_]) (pc := 142) dX6_event_142 rfl (by decide : 0 < 2) sM_0 rfl ml_RX6_109 im_X6_no se_X6_no mk_X6_no (Nat.le_of_ble_eq_true rfl) (c_X6_no (by omega)) (fun z_ μ_ hq => ?_)
                            obtain ⟨rfl, hμ_⟩ := hq
                            have hμ_ := hμ_.symm
                            subst hμ_
                            try simp (disch := decide) only [putI_ne, putI_self]
                            refine P_goto (tgt := 159) (pc := 145) dX6_event_145 (by decide) ?_
                            exact P_iret (pc := 159) dX6_event_159 rfl (QI.mk (by first | (exfalso; omega) | (have hwy : whyE μ.1 h k a b u = -2 := (by unfold whyE; grind); rw [hwy]; exact ⟨rfl, rfl⟩) | (have hwy : whyE μ.1 h k a b u = -1 := (by unfold whyE; grind); rw [hwy]; exact ⟨rfl, rfl⟩) | (have hwy : whyE μ.1 h k a b u = -4 := (by unfold whyE; grind); rw [hwy]; exact ⟨rfl, rfl⟩) | (have hwy : whyE μ.1 h k a b u = -6 := (by unfold whyE; grind); rw [hwy]; exact ⟨rfl, rfl⟩) | (have hwy : whyE μ.1 h k a b u = 0 := (by unfold whyE; grind); rw [hwy]; exact ⟨rfl, rfl⟩)))
                        · refine P_bipush (pc := 126) dX6_event_126 (by decide) ?_
                          refine P_goto (tgt := 132) (pc := 128) dX6_event_128 (by decide) ?_
                          refine P_istore (L' := [(6, vi _), (0, vr 0), (1, vi _), (2, vi _), (3, vi _), (4, vi _), (5, vi _)]) (pc := 132) dX6_event_132 (by decide) rfl ?_
                          refine P_iload (pc := 134) dX6_event_134 0 rfl ?_
                          refine P_if_eq (tgt := 148) (pc := 136) dX6_event_136 (by decide) (by first | assumption | (unfold InR; omega)) (fun c_136 => ?_) (fun c_136 => ?_)
                          · refine P_aload_n (pc := 148) dX6_event_148 rfl 1 rfl ?_
                            refine P_iload_n (pc := 149) dX6_event_149 rfl 2 rfl ?_
                            refine P_iload_n (pc := 150) dX6_event_150 rfl 3 rfl ?_
                            refine P_iload_n (pc := 151) dX6_event_151 rfl 4 rfl ?_
                            refine P_iload (pc := 152) dX6_event_152 5 rfl ?_
                            refine P_iload (pc := 154) dX6_event_154 6 rfl ?_
                            refine P_callVi (Y' := mX6_happens) (as := [_, _, _, _, _]) (pc := 156) dX6_event_156 rfl (by decide : 1 < 2) sM_0 rfl ml_RX6_135 im_X6_happens se_X6_happens mk_X6_happens (Nat.le_of_ble_eq_true rfl) (c_X6_happens (by omega) hk) (fun z_ μ_ hq => ?_)
                            obtain ⟨rfl, hμ_⟩ := hq
                            have hμ_ := hμ_.symm
                            subst hμ_
                            try simp (disch := decide) only [putI_ne, putI_self]
                            exact P_iret (pc := 159) dX6_event_159 rfl (QI.mk (by first | (exfalso; omega) | (have hwy : whyE μ.1 h k a b u = -2 := (by unfold whyE; grind); rw [hwy]; exact ⟨rfl, rfl⟩) | (have hwy : whyE μ.1 h k a b u = -1 := (by unfold whyE; grind); rw [hwy]; exact ⟨rfl, rfl⟩) | (have hwy : whyE μ.1 h k a b u = -4 := (by unfold whyE; grind); rw [hwy]; exact ⟨rfl, rfl⟩) | (have hwy : whyE μ.1 h k a b u = -6 := (by unfold whyE; grind); rw [hwy]; exact ⟨rfl, rfl⟩) | (have hwy : whyE μ.1 h k a b u = 0 := (by unfold whyE; grind); rw [hwy]; exact ⟨rfl, rfl⟩)))
                          · refine P_aload_n (pc := 139) dX6_event_139 rfl 1 rfl ?_
                            refine P_iload (pc := 140) dX6_event_140 0 rfl ?_
                            refine P_callVi (Y' := mX6_no) (as := [_]) (pc := 142) dX6_event_142 rfl (by decide : 0 < 2) sM_0 rfl ml_RX6_109 im_X6_no se_X6_no mk_X6_no (Nat.le_of_ble_eq_true rfl) (c_X6_no (by omega)) (fun z_ μ_ hq => ?_)
                            obtain ⟨rfl, hμ_⟩ := hq
                            have hμ_ := hμ_.symm
                            subst hμ_
                            try simp (disch := decide) only [putI_ne, putI_self]
                            refine P_goto (tgt := 159) (pc := 145) dX6_event_145 (by decide) ?_
                            exact P_iret (pc := 159) dX6_event_159 rfl (QI.mk (by first | (exfalso; omega) | (have hwy : whyE μ.1 h k a b u = -2 := (by unfold whyE; grind); rw [hwy]; exact ⟨rfl, rfl⟩) | (have hwy : whyE μ.1 h k a b u = -1 := (by unfold whyE; grind); rw [hwy]; exact ⟨rfl, rfl⟩) | (have hwy : whyE μ.1 h k a b u = -4 := (by unfold whyE; grind); rw [hwy]; exact ⟨rfl, rfl⟩) | (have hwy : whyE μ.1 h k a b u = -6 := (by unfold whyE; grind); rw [hwy]; exact ⟨rfl, rfl⟩) | (have hwy : whyE μ.1 h k a b u = 0 := (by unfold whyE; grind); rw [hwy]; exact ⟨rfl, rfl⟩)))
                  · refine P_iload (pc := 92) dX6_event_92 4 rfl ?_
                    refine P_iconst (pc := 94) dX6_event_94 ?_
                    refine P_icmp_gt (tgt := 126) (pc := 95) dX6_event_95 (by decide) (by first | assumption | (unfold InR; omega)) (by first | assumption | (unfold InR; omega)) (fun c_95 => ?_) (fun c_95 => ?_)
                    · refine P_bipush (pc := 126) dX6_event_126 (by decide) ?_
                      refine P_goto (tgt := 132) (pc := 128) dX6_event_128 (by decide) ?_
                      refine P_istore (L' := [(6, vi _), (0, vr 0), (1, vi _), (2, vi _), (3, vi _), (4, vi _), (5, vi _)]) (pc := 132) dX6_event_132 (by decide) rfl ?_
                      refine P_iload (pc := 134) dX6_event_134 0 rfl ?_
                      refine P_if_eq (tgt := 148) (pc := 136) dX6_event_136 (by decide) (by first | assumption | (unfold InR; omega)) (fun c_136 => ?_) (fun c_136 => ?_)
                      · refine P_aload_n (pc := 148) dX6_event_148 rfl 1 rfl ?_
                        refine P_iload_n (pc := 149) dX6_event_149 rfl 2 rfl ?_
                        refine P_iload_n (pc := 150) dX6_event_150 rfl 3 rfl ?_
                        refine P_iload_n (pc := 151) dX6_event_151 rfl 4 rfl ?_
                        refine P_iload (pc := 152) dX6_event_152 5 rfl ?_
                        refine P_iload (pc := 154) dX6_event_154 6 rfl ?_
                        refine P_callVi (Y' := mX6_happens) (as := [_, _, _, _, _]) (pc := 156) dX6_event_156 rfl (by decide : 1 < 2) sM_0 rfl ml_RX6_135 im_X6_happens se_X6_happens mk_X6_happens (Nat.le_of_ble_eq_true rfl) (c_X6_happens (by omega) hk) (fun z_ μ_ hq => ?_)
                        obtain ⟨rfl, hμ_⟩ := hq
                        have hμ_ := hμ_.symm
                        subst hμ_
                        try simp (disch := decide) only [putI_ne, putI_self]
                        exact P_iret (pc := 159) dX6_event_159 rfl (QI.mk (by first | (exfalso; omega) | (have hwy : whyE μ.1 h k a b u = -2 := (by unfold whyE; grind); rw [hwy]; exact ⟨rfl, rfl⟩) | (have hwy : whyE μ.1 h k a b u = -1 := (by unfold whyE; grind); rw [hwy]; exact ⟨rfl, rfl⟩) | (have hwy : whyE μ.1 h k a b u = -4 := (by unfold whyE; grind); rw [hwy]; exact ⟨rfl, rfl⟩) | (have hwy : whyE μ.1 h k a b u = -6 := (by unfold whyE; grind); rw [hwy]; exact ⟨rfl, rfl⟩) | (have hwy : whyE μ.1 h k a b u = 0 := (by unfold whyE; grind); rw [hwy]; exact ⟨rfl, rfl⟩)))
                      · refine P_aload_n (pc := 139) dX6_event_139 rfl 1 rfl ?_
                        refine P_iload (pc := 140) dX6_event_140 0 rfl ?_
                        refine P_callVi (Y' := mX6_no) (as := [_]) (pc := 142) dX6_event_142 rfl (by decide : 0 < 2) sM_0 rfl ml_RX6_109 im_X6_no se_X6_no mk_X6_no (Nat.le_of_ble_eq_true rfl) (c_X6_no (by omega)) (fun z_ μ_ hq => ?_)
                        obtain ⟨rfl, hμ_⟩ := hq
                        have hμ_ := hμ_.symm
                        subst hμ_
                        try simp (disch := decide) only [putI_ne, putI_self]
                        refine P_goto (tgt := 159) (pc := 145) dX6_event_145 (by decide) ?_
                        exact P_iret (pc := 159) dX6_event_159 rfl (QI.mk (by first | (exfalso; omega) | (have hwy : whyE μ.1 h k a b u = -2 := (by unfold whyE; grind); rw [hwy]; exact ⟨rfl, rfl⟩) | (have hwy : whyE μ.1 h k a b u = -1 := (by unfold whyE; grind); rw [hwy]; exact ⟨rfl, rfl⟩) | (have hwy : whyE μ.1 h k a b u = -4 := (by unfold whyE; grind); rw [hwy]; exact ⟨rfl, rfl⟩) | (have hwy : whyE μ.1 h k a b u = -6 := (by unfold whyE; grind); rw [hwy]; exact ⟨rfl, rfl⟩) | (have hwy : whyE μ.1 h k a b u = 0 := (by unfold whyE; grind); rw [hwy]; exact ⟨rfl, rfl⟩)))
                    · refine P_iload (pc := 98) dX6_event_98 5 rfl ?_
                      refine P_bipush (pc := 100) dX6_event_100 (by decide) ?_
                      refine P_bipush (pc := 102) dX6_event_102 (by decide) ?_
                      refine P_callSi (Y' := mX6_isIn) (as := [_, _, _]) (pc := 104) dX6_event_104 rfl (by decide : 0 < 2) ml_RX6_105 sm_X6_isIn mk_X6_isIn (Nat.le_of_ble_eq_true rfl) (c_X6_isIn (by first | assumption | (unfold InR; omega)) (by unfold InR; omega) (by unfold InR; omega)) (fun z_ μ_ hq => ?_)
                      obtain ⟨hz, hμ_⟩ := hq
                      have hμ_ := hμ_.symm
                      subst hμ_
                      have hz : z_ = 0 ∧ ¬ (6 ≤ u ∧ u ≤ 9) ∨ z_ = 1 ∧ (6 ≤ u ∧ u ≤ 9) := by rw [hz]; split <;> omega
                      try simp (disch := decide) only [putI_ne, putI_self]
                      refine P_if_ne (tgt := 126) (pc := 107) dX6_event_107 (by decide) (by first | assumption | (unfold InR; omega)) (fun c_107 => ?_) (fun c_107 => ?_)
                      · refine P_bipush (pc := 126) dX6_event_126 (by decide) ?_
                        refine P_goto (tgt := 132) (pc := 128) dX6_event_128 (by decide) ?_
                        refine P_istore (L' := [(6, vi _), (0, vr 0), (1, vi _), (2, vi _), (3, vi _), (4, vi _), (5, vi _)]) (pc := 132) dX6_event_132 (by decide) rfl ?_
                        refine P_iload (pc := 134) dX6_event_134 0 rfl ?_
                        refine P_if_eq (tgt := 148) (pc := 136) dX6_event_136 (by decide) (by first | assumption | (unfold InR; omega)) (fun c_136 => ?_) (fun c_136 => ?_)
                        · refine P_aload_n (pc := 148) dX6_event_148 rfl 1 rfl ?_
                          refine P_iload_n (pc := 149) dX6_event_149 rfl 2 rfl ?_
                          refine P_iload_n (pc := 150) dX6_event_150 rfl 3 rfl ?_
                          refine P_iload_n (pc := 151) dX6_event_151 rfl 4 rfl ?_
                          refine P_iload (pc := 152) dX6_event_152 5 rfl ?_
                          refine P_iload (pc := 154) dX6_event_154 6 rfl ?_
                          refine P_callVi (Y' := mX6_happens) (as := [_, _, _, _, _]) (pc := 156) dX6_event_156 rfl (by decide : 1 < 2) sM_0 rfl ml_RX6_135 im_X6_happens se_X6_happens mk_X6_happens (Nat.le_of_ble_eq_true rfl) (c_X6_happens (by omega) hk) (fun z_ μ_ hq => ?_)
                          obtain ⟨rfl, hμ_⟩ := hq
                          have hμ_ := hμ_.symm
                          subst hμ_
                          try simp (disch := decide) only [putI_ne, putI_self]
                          exact P_iret (pc := 159) dX6_event_159 rfl (QI.mk (by first | (exfalso; omega) | (have hwy : whyE μ.1 h k a b u = -2 := (by unfold whyE; grind); rw [hwy]; exact ⟨rfl, rfl⟩) | (have hwy : whyE μ.1 h k a b u = -1 := (by unfold whyE; grind); rw [hwy]; exact ⟨rfl, rfl⟩) | (have hwy : whyE μ.1 h k a b u = -4 := (by unfold whyE; grind); rw [hwy]; exact ⟨rfl, rfl⟩) | (have hwy : whyE μ.1 h k a b u = -6 := (by unfold whyE; grind); rw [hwy]; exact ⟨rfl, rfl⟩) | (have hwy : whyE μ.1 h k a b u = 0 := (by unfold whyE; grind); rw [hwy]; exact ⟨rfl, rfl⟩)))
                        · refine P_aload_n (pc := 139) dX6_event_139 rfl 1 rfl ?_
                          refine P_iload (pc := 140) dX6_event_140 0 rfl ?_
                          refine P_callVi (Y' := mX6_no) (as := [_]) (pc := 142) dX6_event_142 rfl (by decide : 0 < 2) sM_0 rfl ml_RX6_109 im_X6_no se_X6_no mk_X6_no (Nat.le_of_ble_eq_true rfl) (c_X6_no (by omega)) (fun z_ μ_ hq => ?_)
                          obtain ⟨rfl, hμ_⟩ := hq
                          have hμ_ := hμ_.symm
                          subst hμ_
                          try simp (disch := decide) only [putI_ne, putI_self]
                          refine P_goto (tgt := 159) (pc := 145) dX6_event_145 (by decide) ?_
                          exact P_iret (pc := 159) dX6_event_159 rfl (QI.mk (by first | (exfalso; omega) | (have hwy : whyE μ.1 h k a b u = -2 := (by unfold whyE; grind); rw [hwy]; exact ⟨rfl, rfl⟩) | (have hwy : whyE μ.1 h k a b u = -1 := (by unfold whyE; grind); rw [hwy]; exact ⟨rfl, rfl⟩) | (have hwy : whyE μ.1 h k a b u = -4 := (by unfold whyE; grind); rw [hwy]; exact ⟨rfl, rfl⟩) | (have hwy : whyE μ.1 h k a b u = -6 := (by unfold whyE; grind); rw [hwy]; exact ⟨rfl, rfl⟩) | (have hwy : whyE μ.1 h k a b u = 0 := (by unfold whyE; grind); rw [hwy]; exact ⟨rfl, rfl⟩)))
                      · refine P_iload (pc := 110) dX6_event_110 5 rfl ?_
                        refine P_bipush (pc := 112) dX6_event_112 (by decide) ?_
                        refine P_icmp_gt (tgt := 126) (pc := 114) dX6_event_114 (by decide) (by first | assumption | (unfold InR; omega)) (by first | assumption | (unfold InR; omega)) (fun c_114 => ?_) (fun c_114 => ?_)
                        · refine P_bipush (pc := 126) dX6_event_126 (by decide) ?_
                          refine P_goto (tgt := 132) (pc := 128) dX6_event_128 (by decide) ?_
                          refine P_istore (L' := [(6, vi _), (0, vr 0), (1, vi _), (2, vi _), (3, vi _), (4, vi _), (5, vi _)]) (pc := 132) dX6_event_132 (by decide) rfl ?_
                          refine P_iload (pc := 134) dX6_event_134 0 rfl ?_
                          refine P_if_eq (tgt := 148) (pc := 136) dX6_event_136 (by decide) (by first | assumption | (unfold InR; omega)) (fun c_136 => ?_) (fun c_136 => ?_)
                          · refine P_aload_n (pc := 148) dX6_event_148 rfl 1 rfl ?_
                            refine P_iload_n (pc := 149) dX6_event_149 rfl 2 rfl ?_
                            refine P_iload_n (pc := 150) dX6_event_150 rfl 3 rfl ?_
                            refine P_iload_n (pc := 151) dX6_event_151 rfl 4 rfl ?_
                            refine P_iload (pc := 152) dX6_event_152 5 rfl ?_
                            refine P_iload (pc := 154) dX6_event_154 6 rfl ?_
                            refine P_callVi (Y' := mX6_happens) (as := [_, _, _, _, _]) (pc := 156) dX6_event_156 rfl (by decide : 1 < 2) sM_0 rfl ml_RX6_135 im_X6_happens se_X6_happens mk_X6_happens (Nat.le_of_ble_eq_true rfl) (c_X6_happens (by omega) hk) (fun z_ μ_ hq => ?_)
                            obtain ⟨rfl, hμ_⟩ := hq
                            have hμ_ := hμ_.symm
                            subst hμ_
                            try simp (disch := decide) only [putI_ne, putI_self]
                            exact P_iret (pc := 159) dX6_event_159 rfl (QI.mk (by first | (exfalso; omega) | (have hwy : whyE μ.1 h k a b u = -2 := (by unfold whyE; grind); rw [hwy]; exact ⟨rfl, rfl⟩) | (have hwy : whyE μ.1 h k a b u = -1 := (by unfold whyE; grind); rw [hwy]; exact ⟨rfl, rfl⟩) | (have hwy : whyE μ.1 h k a b u = -4 := (by unfold whyE; grind); rw [hwy]; exact ⟨rfl, rfl⟩) | (have hwy : whyE μ.1 h k a b u = -6 := (by unfold whyE; grind); rw [hwy]; exact ⟨rfl, rfl⟩) | (have hwy : whyE μ.1 h k a b u = 0 := (by unfold whyE; grind); rw [hwy]; exact ⟨rfl, rfl⟩)))
                          · refine P_aload_n (pc := 139) dX6_event_139 rfl 1 rfl ?_
                            refine P_iload (pc := 140) dX6_event_140 0 rfl ?_
                            refine P_callVi (Y' := mX6_no) (as := [_]) (pc := 142) dX6_event_142 rfl (by decide : 0 < 2) sM_0 rfl ml_RX6_109 im_X6_no se_X6_no mk_X6_no (Nat.le_of_ble_eq_true rfl) (c_X6_no (by omega)) (fun z_ μ_ hq => ?_)
                            obtain ⟨rfl, hμ_⟩ := hq
                            have hμ_ := hμ_.symm
                            subst hμ_
                            try simp (disch := decide) only [putI_ne, putI_self]
                            refine P_goto (tgt := 159) (pc := 145) dX6_event_145 (by decide) ?_
                            exact P_iret (pc := 159) dX6_event_159 rfl (QI.mk (by first | (exfalso; omega) | (have hwy : whyE μ.1 h k a b u = -2 := (by unfold whyE; grind); rw [hwy]; exact ⟨rfl, rfl⟩) | (have hwy : whyE μ.1 h k a b u = -1 := (by unfold whyE; grind); rw [hwy]; exact ⟨rfl, rfl⟩) | (have hwy : whyE μ.1 h k a b u = -4 := (by unfold whyE; grind); rw [hwy]; exact ⟨rfl, rfl⟩) | (have hwy : whyE μ.1 h k a b u = -6 := (by unfold whyE; grind); rw [hwy]; exact ⟨rfl, rfl⟩) | (have hwy : whyE μ.1 h k a b u = 0 := (by unfold whyE; grind); rw [hwy]; exact ⟨rfl, rfl⟩)))
                        · refine P_aload_n (pc := 117) dX6_event_117 rfl 0 rfl ?_
                          refine P_getI (jj := 12) (pc := 118) dX6_event_118 fa_RX6_125 sM_0 fM0_12 rfl ?_
                          try simp (disch := decide) only [putI_ne, putI_self]
                          refine P_bipush (pc := 121) dX6_event_121 (by decide) ?_
                          refine P_icmp_ne (tgt := 131) (pc := 123) dX6_event_123 (by decide) (by first | assumption | (unfold InR; omega)) (by first | assumption | (unfold InR; omega)) (fun c_123 => ?_) (fun c_123 => ?_)
                          · refine P_iconst (pc := 131) dX6_event_131 ?_
                            refine P_istore (L' := [(6, vi _), (0, vr 0), (1, vi _), (2, vi _), (3, vi _), (4, vi _), (5, vi _)]) (pc := 132) dX6_event_132 (by decide) rfl ?_
                            refine P_iload (pc := 134) dX6_event_134 0 rfl ?_
                            refine P_if_eq (tgt := 148) (pc := 136) dX6_event_136 (by decide) (by first | assumption | (unfold InR; omega)) (fun c_136 => ?_) (fun c_136 => ?_)
                            · refine P_aload_n (pc := 148) dX6_event_148 rfl 1 rfl ?_
                              refine P_iload_n (pc := 149) dX6_event_149 rfl 2 rfl ?_
                              refine P_iload_n (pc := 150) dX6_event_150 rfl 3 rfl ?_
                              refine P_iload_n (pc := 151) dX6_event_151 rfl 4 rfl ?_
                              refine P_iload (pc := 152) dX6_event_152 5 rfl ?_
                              refine P_iload (pc := 154) dX6_event_154 6 rfl ?_
                              refine P_callVi (Y' := mX6_happens) (as := [_, _, _, _, _]) (pc := 156) dX6_event_156 rfl (by decide : 1 < 2) sM_0 rfl ml_RX6_135 im_X6_happens se_X6_happens mk_X6_happens (Nat.le_of_ble_eq_true rfl) (c_X6_happens (by omega) hk) (fun z_ μ_ hq => ?_)
                              obtain ⟨rfl, hμ_⟩ := hq
                              have hμ_ := hμ_.symm
                              subst hμ_
                              try simp (disch := decide) only [putI_ne, putI_self]
                              exact P_iret (pc := 159) dX6_event_159 rfl (QI.mk (by first | (exfalso; omega) | (have hwy : whyE μ.1 h k a b u = -2 := (by unfold whyE; grind); rw [hwy]; exact ⟨rfl, rfl⟩) | (have hwy : whyE μ.1 h k a b u = -1 := (by unfold whyE; grind); rw [hwy]; exact ⟨rfl, rfl⟩) | (have hwy : whyE μ.1 h k a b u = -4 := (by unfold whyE; grind); rw [hwy]; exact ⟨rfl, rfl⟩) | (have hwy : whyE μ.1 h k a b u = -6 := (by unfold whyE; grind); rw [hwy]; exact ⟨rfl, rfl⟩) | (have hwy : whyE μ.1 h k a b u = 0 := (by unfold whyE; grind); rw [hwy]; exact ⟨rfl, rfl⟩)))
                            · refine P_aload_n (pc := 139) dX6_event_139 rfl 1 rfl ?_
                              refine P_iload (pc := 140) dX6_event_140 0 rfl ?_
                              refine P_callVi (Y' := mX6_no) (as := [_]) (pc := 142) dX6_event_142 rfl (by decide : 0 < 2) sM_0 rfl ml_RX6_109 im_X6_no se_X6_no mk_X6_no (Nat.le_of_ble_eq_true rfl) (c_X6_no (by omega)) (fun z_ μ_ hq => ?_)
                              obtain ⟨rfl, hμ_⟩ := hq
                              have hμ_ := hμ_.symm
                              subst hμ_
                              try simp (disch := decide) only [putI_ne, putI_self]
                              refine P_goto (tgt := 159) (pc := 145) dX6_event_145 (by decide) ?_
                              exact P_iret (pc := 159) dX6_event_159 rfl (QI.mk (by first | (exfalso; omega) | (have hwy : whyE μ.1 h k a b u = -2 := (by unfold whyE; grind); rw [hwy]; exact ⟨rfl, rfl⟩) | (have hwy : whyE μ.1 h k a b u = -1 := (by unfold whyE; grind); rw [hwy]; exact ⟨rfl, rfl⟩) | (have hwy : whyE μ.1 h k a b u = -4 := (by unfold whyE; grind); rw [hwy]; exact ⟨rfl, rfl⟩) | (have hwy : whyE μ.1 h k a b u = -6 := (by unfold whyE; grind); rw [hwy]; exact ⟨rfl, rfl⟩) | (have hwy : whyE μ.1 h k a b u = 0 := (by unfold whyE; grind); rw [hwy]; exact ⟨rfl, rfl⟩)))
                          · refine P_bipush (pc := 126) dX6_event_126 (by decide) ?_
                            refine P_goto (tgt := 132) (pc := 128) dX6_event_128 (by decide) ?_
                            refine P_istore (L' := [(6, vi _), (0, vr 0), (1, vi _), (2, vi _), (3, vi _), (4, vi _), (5, vi _)]) (pc := 132) dX6_event_132 (by decide) rfl ?_
                            refine P_iload (pc := 134) dX6_event_134 0 rfl ?_
                            refine P_if_eq (tgt := 148) (pc := 136) dX6_event_136 (by decide) (by first | assumption | (unfold InR; omega)) (fun c_136 => ?_) (fun c_136 => ?_)
                            · refine P_aload_n (pc := 148) dX6_event_148 rfl 1 rfl ?_
                              refine P_iload_n (pc := 149) dX6_event_149 rfl 2 rfl ?_
                              refine P_iload_n (pc := 150) dX6_event_150 rfl 3 rfl ?_
                              refine P_iload_n (pc := 151) dX6_event_151 rfl 4 rfl ?_
                              refine P_iload (pc := 152) dX6_event_152 5 rfl ?_
                              refine P_iload (pc := 154) dX6_event_154 6 rfl ?_
                              refine P_callVi (Y' := mX6_happens) (as := [_, _, _, _, _]) (pc := 156) dX6_event_156 rfl (by decide : 1 < 2) sM_0 rfl ml_RX6_135 im_X6_happens se_X6_happens mk_X6_happens (Nat.le_of_ble_eq_true rfl) (c_X6_happens (by omega) hk) (fun z_ μ_ hq => ?_)
                              obtain ⟨rfl, hμ_⟩ := hq
                              have hμ_ := hμ_.symm
                              subst hμ_
                              try simp (disch := decide) only [putI_ne, putI_self]
                              exact P_iret (pc := 159) dX6_event_159 rfl (QI.mk (by first | (exfalso; omega) | (have hwy : whyE μ.1 h k a b u = -2 := (by unfold whyE; grind); rw [hwy]; exact ⟨rfl, rfl⟩) | (have hwy : whyE μ.1 h k a b u = -1 := (by unfold whyE; grind); rw [hwy]; exact ⟨rfl, rfl⟩) | (have hwy : whyE μ.1 h k a b u = -4 := (by unfold whyE; grind); rw [hwy]; exact ⟨rfl, rfl⟩) | (have hwy : whyE μ.1 h k a b u = -6 := (by unfold whyE; grind); rw [hwy]; exact ⟨rfl, rfl⟩) | (have hwy : whyE μ.1 h k a b u = 0 := (by unfold whyE; grind); rw [hwy]; exact ⟨rfl, rfl⟩)))
                            · refine P_aload_n (pc := 139) dX6_event_139 rfl 1 rfl ?_
                              refine P_iload (pc := 140) dX6_event_140 0 rfl ?_
                              refine P_callVi (Y' := mX6_no) (as := [_]) (pc := 142) dX6_event_142 rfl (by decide : 0 < 2) sM_0 rfl ml_RX6_109 im_X6_no se_X6_no mk_X6_no (Nat.le_of_ble_eq_true rfl) (c_X6_no (by omega)) (fun z_ μ_ hq => ?_)
                              obtain ⟨rfl, hμ_⟩ := hq
                              have hμ_ := hμ_.symm
                              subst hμ_
                              try simp (disch := decide) only [putI_ne, putI_self]
                              refine P_goto (tgt := 159) (pc := 145) dX6_event_145 (by decide) ?_
                              exact P_iret (pc := 159) dX6_event_159 rfl (QI.mk (by first | (exfalso; omega) | (have hwy : whyE μ.1 h k a b u = -2 := (by unfold whyE; grind); rw [hwy]; exact ⟨rfl, rfl⟩) | (have hwy : whyE μ.1 h k a b u = -1 := (by unfold whyE; grind); rw [hwy]; exact ⟨rfl, rfl⟩) | (have hwy : whyE μ.1 h k a b u = -4 := (by unfold whyE; grind); rw [hwy]; exact ⟨rfl, rfl⟩) | (have hwy : whyE μ.1 h k a b u = -6 := (by unfold whyE; grind); rw [hwy]; exact ⟨rfl, rfl⟩) | (have hwy : whyE μ.1 h k a b u = 0 := (by unfold whyE; grind); rw [hwy]; exact ⟨rfl, rfl⟩)))
              · refine P_bipush (pc := 75) dX6_event_75 (by decide) ?_
                refine P_goto (tgt := 132) (pc := 77) dX6_event_77 (by decide) ?_
                refine P_istore (L' := [(6, vi _), (0, vr 0), (1, vi _), (2, vi _), (3, vi _), (4, vi _), (5, vi _)]) (pc := 132) dX6_event_132 (by decide) rfl ?_
                refine P_iload (pc := 134) dX6_event_134 0 rfl ?_
                refine P_if_eq (tgt := 148) (pc := 136) dX6_event_136 (by decide) (by first | assumption | (unfold InR; omega)) (fun c_136 => ?_) (fun c_136 => ?_)
                · refine P_aload_n (pc := 148) dX6_event_148 rfl 1 rfl ?_
                  refine P_iload_n (pc := 149) dX6_event_149 rfl 2 rfl ?_
                  refine P_iload_n (pc := 150) dX6_event_150 rfl 3 rfl ?_
                  refine P_iload_n (pc := 151) dX6_event_151 rfl 4 rfl ?_
                  refine P_iload (pc := 152) dX6_event_152 5 rfl ?_
                  refine P_iload (pc := 154) dX6_event_154 6 rfl ?_
                  refine P_callVi (Y' := mX6_happens) (as := [_, _, _, _, _]) (pc := 156) dX6_event_156 rfl (by decide : 1 < 2) sM_0 rfl ml_RX6_135 im_X6_happens se_X6_happens mk_X6_happens (Nat.le_of_ble_eq_true rfl) (c_X6_happens (by omega) hk) (fun z_ μ_ hq => ?_)
                  obtain ⟨rfl, hμ_⟩ := hq
                  have hμ_ := hμ_.symm
                  subst hμ_
                  try simp (disch := decide) only [putI_ne, putI_self]
                  exact P_iret (pc := 159) dX6_event_159 rfl (QI.mk (by first | (exfalso; omega) | (have hwy : whyE μ.1 h k a b u = -2 := (by unfold whyE; grind); rw [hwy]; exact ⟨rfl, rfl⟩) | (have hwy : whyE μ.1 h k a b u = -1 := (by unfold whyE; grind); rw [hwy]; exact ⟨rfl, rfl⟩) | (have hwy : whyE μ.1 h k a b u = -4 := (by unfold whyE; grind); rw [hwy]; exact ⟨rfl, rfl⟩) | (have hwy : whyE μ.1 h k a b u = -6 := (by unfold whyE; grind); rw [hwy]; exact ⟨rfl, rfl⟩) | (have hwy : whyE μ.1 h k a b u = 0 := (by unfold whyE; grind); rw [hwy]; exact ⟨rfl, rfl⟩)))
                · refine P_aload_n (pc := 139) dX6_event_139 rfl 1 rfl ?_
                  refine P_iload (pc := 140) dX6_event_140 0 rfl ?_
                  refine P_callVi (Y' := mX6_no) (as := [_]) (pc := 142) dX6_event_142 rfl (by decide : 0 < 2) sM_0 rfl ml_RX6_109 im_X6_no se_X6_no mk_X6_no (Nat.le_of_ble_eq_true rfl) (c_X6_no (by omega)) (fun z_ μ_ hq => ?_)
                  obtain ⟨rfl, hμ_⟩ := hq
                  have hμ_ := hμ_.symm
                  subst hμ_
                  try simp (disch := decide) only [putI_ne, putI_self]
                  refine P_goto (tgt := 159) (pc := 145) dX6_event_145 (by decide) ?_
                  exact P_iret (pc := 159) dX6_event_159 rfl (QI.mk (by first | (exfalso; omega) | (have hwy : whyE μ.1 h k a b u = -2 := (by unfold whyE; grind); rw [hwy]; exact ⟨rfl, rfl⟩) | (have hwy : whyE μ.1 h k a b u = -1 := (by unfold whyE; grind); rw [hwy]; exact ⟨rfl, rfl⟩) | (have hwy : whyE μ.1 h k a b u = -4 := (by unfold whyE; grind); rw [hwy]; exact ⟨rfl, rfl⟩) | (have hwy : whyE μ.1 h k a b u = -6 := (by unfold whyE; grind); rw [hwy]; exact ⟨rfl, rfl⟩) | (have hwy : whyE μ.1 h k a b u = 0 := (by unfold whyE; grind); rw [hwy]; exact ⟨rfl, rfl⟩)))
      · refine P_aload_n (pc := 32) dX6_event_32 rfl 0 rfl ?_
        refine P_iload (pc := 33) dX6_event_33 4 rfl ?_
        refine P_callVi (Y' := mX6_isThing) (as := [_]) (pc := 35) dX6_event_35 rfl (by decide : 0 < 2) sM_0 rfl ml_RX6_132 im_X6_isThing se_X6_isThing mk_X6_isThing (Nat.le_of_ble_eq_true rfl) (c_X6_isThing (by first | assumption | (unfold InR; omega)) hn) (fun z_ μ_ hq => ?_)
        obtain ⟨hz, hμ_⟩ := hq
        have hμ_ := hμ_.symm
        subst hμ_
        have hz : z_ = 0 ∧ (b < 0 ∨ μ.1 0 11 ≤ b) ∨ z_ = 1 ∧ (0 ≤ b ∧ b < μ.1 0 11) := by rw [hz]; split <;> omega
        try simp (disch := decide) only [putI_ne, putI_self]
        refine P_if_eq (tgt := 47) (pc := 38) dX6_event_38 (by decide) (by first | assumption | (unfold InR; omega)) (fun c_38 => ?_) (fun c_38 => ?_)
        · refine P_aload_n (pc := 47) dX6_event_47 rfl 0 rfl ?_
          refine P_iconst (pc := 48) dX6_event_48 ?_
          refine P_callVi (Y' := mX6_no) (as := [_]) (pc := 49) dX6_event_49 rfl (by decide : 0 < 2) sM_0 rfl ml_RX6_109 im_X6_no se_X6_no mk_X6_no (Nat.le_of_ble_eq_true rfl) (c_X6_no (by omega)) (fun z_ μ_ hq => ?_)
          obtain ⟨rfl, hμ_⟩ := hq
          have hμ_ := hμ_.symm
          subst hμ_
          try simp (disch := decide) only [putI_ne, putI_self]
          exact P_iret (pc := 52) dX6_event_52 rfl (QI.mk (by first | (exfalso; omega) | (have hwy : whyE μ.1 h k a b u = -2 := (by unfold whyE; grind); rw [hwy]; exact ⟨rfl, rfl⟩) | (have hwy : whyE μ.1 h k a b u = -1 := (by unfold whyE; grind); rw [hwy]; exact ⟨rfl, rfl⟩) | (have hwy : whyE μ.1 h k a b u = -4 := (by unfold whyE; grind); rw [hwy]; exact ⟨rfl, rfl⟩) | (have hwy : whyE μ.1 h k a b u = -6 := (by unfold whyE; grind); rw [hwy]; exact ⟨rfl, rfl⟩) | (have hwy : whyE μ.1 h k a b u = 0 := (by unfold whyE; grind); rw [hwy]; exact ⟨rfl, rfl⟩)))
        · refine P_iload_n (pc := 41) dX6_event_41 rfl 3 rfl ?_
          refine P_iload (pc := 42) dX6_event_42 4 rfl ?_
          refine P_icmp_ne (tgt := 53) (pc := 44) dX6_event_44 (by decide) (by first | assumption | (unfold InR; omega)) (by first | assumption | (unfold InR; omega)) (fun c_44 => ?_) (fun c_44 => ?_)
          · refine P_iload_n (pc := 53) dX6_event_53 rfl 1 rfl ?_
            refine P_if_lt (tgt := 75) (pc := 54) dX6_event_54 (by decide) (by first | assumption | (unfold InR; omega)) (fun c_54 => ?_) (fun c_54 => ?_)
            · refine P_bipush (pc := 75) dX6_event_75 (by decide) ?_
              refine P_goto (tgt := 132) (pc := 77) dX6_event_77 (by decide) ?_
              refine P_istore (L' := [(6, vi _), (0, vr 0), (1, vi _), (2, vi _), (3, vi _), (4, vi _), (5, vi _)]) (pc := 132) dX6_event_132 (by decide) rfl ?_
              refine P_iload (pc := 134) dX6_event_134 0 rfl ?_
              refine P_if_eq (tgt := 148) (pc := 136) dX6_event_136 (by decide) (by first | assumption | (unfold InR; omega)) (fun c_136 => ?_) (fun c_136 => ?_)
              · refine P_aload_n (pc := 148) dX6_event_148 rfl 1 rfl ?_
                refine P_iload_n (pc := 149) dX6_event_149 rfl 2 rfl ?_
                refine P_iload_n (pc := 150) dX6_event_150 rfl 3 rfl ?_
                refine P_iload_n (pc := 151) dX6_event_151 rfl 4 rfl ?_
                refine P_iload (pc := 152) dX6_event_152 5 rfl ?_
                refine P_iload (pc := 154) dX6_event_154 6 rfl ?_
                refine P_callVi (Y' := mX6_happens) (as := [_, _, _, _, _]) (pc := 156) dX6_event_156 rfl (by decide : 1 < 2) sM_0 rfl ml_RX6_135 im_X6_happens se_X6_happens mk_X6_happens (Nat.le_of_ble_eq_true rfl) (c_X6_happens (by omega) hk) (fun z_ μ_ hq => ?_)
                obtain ⟨rfl, hμ_⟩ := hq
                have hμ_ := hμ_.symm
                subst hμ_
                try simp (disch := decide) only [putI_ne, putI_self]
                exact P_iret (pc := 159) dX6_event_159 rfl (QI.mk (by first | (exfalso; omega) | (have hwy : whyE μ.1 h k a b u = -2 := (by unfold whyE; grind); rw [hwy]; exact ⟨rfl, rfl⟩) | (have hwy : whyE μ.1 h k a b u = -1 := (by unfold whyE; grind); rw [hwy]; exact ⟨rfl, rfl⟩) | (have hwy : whyE μ.1 h k a b u = -4 := (by unfold whyE; grind); rw [hwy]; exact ⟨rfl, rfl⟩) | (have hwy : whyE μ.1 h k a b u = -6 := (by unfold whyE; grind); rw [hwy]; exact ⟨rfl, rfl⟩) | (have hwy : whyE μ.1 h k a b u = 0 := (by unfold whyE; grind); rw [hwy]; exact ⟨rfl, rfl⟩)))
              · refine P_aload_n (pc := 139) dX6_event_139 rfl 1 rfl ?_
                refine P_iload (pc := 140) dX6_event_140 0 rfl ?_
                refine P_callVi (Y' := mX6_no) (as := [_]) (pc := 142) dX6_event_142 rfl (by decide : 0 < 2) sM_0 rfl ml_RX6_109 im_X6_no se_X6_no mk_X6_no (Nat.le_of_ble_eq_true rfl) (c_X6_no (by omega)) (fun z_ μ_ hq => ?_)
                obtain ⟨rfl, hμ_⟩ := hq
                have hμ_ := hμ_.symm
                subst hμ_
                try simp (disch := decide) only [putI_ne, putI_self]
                refine P_goto (tgt := 159) (pc := 145) dX6_event_145 (by decide) ?_
                exact P_iret (pc := 159) dX6_event_159 rfl (QI.mk (by first | (exfalso; omega) | (have hwy : whyE μ.1 h k a b u = -2 := (by unfold whyE; grind); rw [hwy]; exact ⟨rfl, rfl⟩) | (have hwy : whyE μ.1 h k a b u = -1 := (by unfold whyE; grind); rw [hwy]; exact ⟨rfl, rfl⟩) | (have hwy : whyE μ.1 h k a b u = -4 := (by unfold whyE; grind); rw [hwy]; exact ⟨rfl, rfl⟩) | (have hwy : whyE μ.1 h k a b u = -6 := (by unfold whyE; grind); rw [hwy]; exact ⟨rfl, rfl⟩) | (have hwy : whyE μ.1 h k a b u = 0 := (by unfold whyE; grind); rw [hwy]; exact ⟨rfl, rfl⟩)))
            · refine P_iload_n (pc := 57) dX6_event_57 rfl 2 rfl ?_
              refine P_bipush (pc := 58) dX6_event_58 (by decide) ?_
              refine P_icmp_ne (tgt := 69) (pc := 60) dX6_event_60 (by decide) (by first | assumption | (unfold InR; omega)) (by first | assumption | (unfold InR; omega)) (fun c_60 => ?_) (fun c_60 => ?_)
              · refine P_iload (pc := 69) dX6_event_69 5 rfl ?_
                refine P_iconst (pc := 71) dX6_event_71 ?_
                refine P_icmp_ge (tgt := 80) (pc := 72) dX6_event_72 (by decide) (by first | assumption | (unfold InR; omega)) (by first | assumption | (unfold InR; omega)) (fun c_72 => ?_) (fun c_72 => ?_)
                · refine P_iload_n (pc := 80) dX6_event_80 rfl 1 rfl ?_
                  refine P_bipush (pc := 81) dX6_event_81 (by decide) ?_
                  refine P_icmp_gt (tgt := 126) (pc := 83) dX6_event_83 (by decide) (by first | assumption | (unfold InR; omega)) (by first | assumption | (unfold InR; omega)) (fun c_83 => ?_) (fun c_83 => ?_)
                  · refine P_bipush (pc := 126) dX6_event_126 (by decide) ?_
                    refine P_goto (tgt := 132) (pc := 128) dX6_event_128 (by decide) ?_
                    refine P_istore (L' := [(6, vi _), (0, vr 0), (1, vi _), (2, vi _), (3, vi _), (4, vi _), (5, vi _)]) (pc := 132) dX6_event_132 (by decide) rfl ?_
                    refine P_iload (pc := 134) dX6_event_134 0 rfl ?_
                    refine P_if_eq (tgt := 148) (pc := 136) dX6_event_136 (by decide) (by first | assumption | (unfold InR; omega)) (fun c_136 => ?_) (fun c_136 => ?_)
                    · refine P_aload_n (pc := 148) dX6_event_148 rfl 1 rfl ?_
                      refine P_iload_n (pc := 149) dX6_event_149 rfl 2 rfl ?_
                      refine P_iload_n (pc := 150) dX6_event_150 rfl 3 rfl ?_
                      refine P_iload_n (pc := 151) dX6_event_151 rfl 4 rfl ?_
                      refine P_iload (pc := 152) dX6_event_152 5 rfl ?_
                      refine P_iload (pc := 154) dX6_event_154 6 rfl ?_
                      refine P_callVi (Y' := mX6_happens) (as := [_, _, _, _, _]) (pc := 156) dX6_event_156 rfl (by decide : 1 < 2) sM_0 rfl ml_RX6_135 im_X6_happens se_X6_happens mk_X6_happens (Nat.le_of_ble_eq_true rfl) (c_X6_happens (by omega) hk) (fun z_ μ_ hq => ?_)
                      obtain ⟨rfl, hμ_⟩ := hq
                      have hμ_ := hμ_.symm
                      subst hμ_
                      try simp (disch := decide) only [putI_ne, putI_self]
                      exact P_iret (pc := 159) dX6_event_159 rfl (QI.mk (by first | (exfalso; omega) | (have hwy : whyE μ.1 h k a b u = -2 := (by unfold whyE; grind); rw [hwy]; exact ⟨rfl, rfl⟩) | (have hwy : whyE μ.1 h k a b u = -1 := (by unfold whyE; grind); rw [hwy]; exact ⟨rfl, rfl⟩) | (have hwy : whyE μ.1 h k a b u = -4 := (by unfold whyE; grind); rw [hwy]; exact ⟨rfl, rfl⟩) | (have hwy : whyE μ.1 h k a b u = -6 := (by unfold whyE; grind); rw [hwy]; exact ⟨rfl, rfl⟩) | (have hwy : whyE μ.1 h k a b u = 0 := (by unfold whyE; grind); rw [hwy]; exact ⟨rfl, rfl⟩)))
                    · refine P_aload_n (pc := 139) dX6_event_139 rfl 1 rfl ?_
                      refine P_iload (pc := 140) dX6_event_140 0 rfl ?_
                      refine P_callVi (Y' := mX6_no) (as := [_]) (pc := 142) dX6_event_142 rfl (by decide : 0 < 2) sM_0 rfl ml_RX6_109 im_X6_no se_X6_no mk_X6_no (Nat.le_of_ble_eq_true rfl) (c_X6_no (by omega)) (fun z_ μ_ hq => ?_)
                      obtain ⟨rfl, hμ_⟩ := hq
                      have hμ_ := hμ_.symm
                      subst hμ_
                      try simp (disch := decide) only [putI_ne, putI_self]
                      refine P_goto (tgt := 159) (pc := 145) dX6_event_145 (by decide) ?_
                      exact P_iret (pc := 159) dX6_event_159 rfl (QI.mk (by first | (exfalso; omega) | (have hwy : whyE μ.1 h k a b u = -2 := (by unfold whyE; grind); rw [hwy]; exact ⟨rfl, rfl⟩) | (have hwy : whyE μ.1 h k a b u = -1 := (by unfold whyE; grind); rw [hwy]; exact ⟨rfl, rfl⟩) | (have hwy : whyE μ.1 h k a b u = -4 := (by unfold whyE; grind); rw [hwy]; exact ⟨rfl, rfl⟩) | (have hwy : whyE μ.1 h k a b u = -6 := (by unfold whyE; grind); rw [hwy]; exact ⟨rfl, rfl⟩) | (have hwy : whyE μ.1 h k a b u = 0 := (by unfold whyE; grind); rw [hwy]; exact ⟨rfl, rfl⟩)))
                  · refine P_iload_n (pc := 86) dX6_event_86 rfl 2 rfl ?_
                    refine P_bipush (pc := 87) dX6_event_87 (by decide) ?_
                    refine P_icmp_ne (tgt := 98) (pc := 89) dX6_event_89 (by decide) (by first | assumption | (unfold InR; omega)) (by first | assumption | (unfold InR; omega)) (fun c_89 => ?_) (fun c_89 => ?_)
                    · refine P_iload (pc := 98) dX6_event_98 5 rfl ?_
                      refine P_bipush (pc := 100) dX6_event_100 (by decide) ?_
                      refine P_bipush (pc := 102) dX6_event_102 (by decide) ?_
                      refine P_callSi (Y' := mX6_isIn) (as := [_, _, _]) (pc := 104) dX6_event_104 rfl (by decide : 0 < 2) ml_RX6_105 sm_X6_isIn mk_X6_isIn (Nat.le_of_ble_eq_true rfl) (c_X6_isIn (by first | assumption | (unfold InR; omega)) (by unfold InR; omega) (by unfold InR; omega)) (fun z_ μ_ hq => ?_)
                      obtain ⟨hz, hμ_⟩ := hq
                      have hμ_ := hμ_.symm
                      subst hμ_
                      have hz : z_ = 0 ∧ ¬ (6 ≤ u ∧ u ≤ 9) ∨ z_ = 1 ∧ (6 ≤ u ∧ u ≤ 9) := by rw [hz]; split <;> omega
                      try simp (disch := decide) only [putI_ne, putI_self]
                      refine P_if_ne (tgt := 126) (pc := 107) dX6_event_107 (by decide) (by first | assumption | (unfold InR; omega)) (fun c_107 => ?_) (fun c_107 => ?_)
                      · refine P_bipush (pc := 126) dX6_event_126 (by decide) ?_
                        refine P_goto (tgt := 132) (pc := 128) dX6_event_128 (by decide) ?_
                        refine P_istore (L' := [(6, vi _), (0, vr 0), (1, vi _), (2, vi _), (3, vi _), (4, vi _), (5, vi _)]) (pc := 132) dX6_event_132 (by decide) rfl ?_
                        refine P_iload (pc := 134) dX6_event_134 0 rfl ?_
                        refine P_if_eq (tgt := 148) (pc := 136) dX6_event_136 (by decide) (by first | assumption | (unfold InR; omega)) (fun c_136 => ?_) (fun c_136 => ?_)
                        · refine P_aload_n (pc := 148) dX6_event_148 rfl 1 rfl ?_
                          refine P_iload_n (pc := 149) dX6_event_149 rfl 2 rfl ?_
                          refine P_iload_n (pc := 150) dX6_event_150 rfl 3 rfl ?_
                          refine P_iload_n (pc := 151) dX6_event_151 rfl 4 rfl ?_
                          refine P_iload (pc := 152) dX6_event_152 5 rfl ?_
                          refine P_iload (pc := 154) dX6_event_154 6 rfl ?_
                          refine P_callVi (Y' := mX6_happens) (as := [_, _, _, _, _]) (pc := 156) dX6_event_156 rfl (by decide : 1 < 2) sM_0 rfl ml_RX6_135 im_X6_happens se_X6_happens mk_X6_happens (Nat.le_of_ble_eq_true rfl) (c_X6_happens (by omega) hk) (fun z_ μ_ hq => ?_)
                          obtain ⟨rfl, hμ_⟩ := hq
                          have hμ_ := hμ_.symm
                          subst hμ_
                          try simp (disch := decide) only [putI_ne, putI_self]
                          exact P_iret (pc := 159) dX6_event_159 rfl (QI.mk (by first | (exfalso; omega) | (have hwy : whyE μ.1 h k a b u = -2 := (by unfold whyE; grind); rw [hwy]; exact ⟨rfl, rfl⟩) | (have hwy : whyE μ.1 h k a b u = -1 := (by unfold whyE; grind); rw [hwy]; exact ⟨rfl, rfl⟩) | (have hwy : whyE μ.1 h k a b u = -4 := (by unfold whyE; grind); rw [hwy]; exact ⟨rfl, rfl⟩) | (have hwy : whyE μ.1 h k a b u = -6 := (by unfold whyE; grind); rw [hwy]; exact ⟨rfl, rfl⟩) | (have hwy : whyE μ.1 h k a b u = 0 := (by unfold whyE; grind); rw [hwy]; exact ⟨rfl, rfl⟩)))
                        · refine P_aload_n (pc := 139) dX6_event_139 rfl 1 rfl ?_
                          refine P_iload (pc := 140) dX6_event_140 0 rfl ?_
                          refine P_callVi (Y' := mX6_no) (as := [_]) (pc := 142) dX6_event_142 rfl (by decide : 0 < 2) sM_0 rfl ml_RX6_109 im_X6_no se_X6_no mk_X6_no (Nat.le_of_ble_eq_true rfl) (c_X6_no (by omega)) (fun z_ μ_ hq => ?_)
                          obtain ⟨rfl, hμ_⟩ := hq
                          have hμ_ := hμ_.symm
                          subst hμ_
                          try simp (disch := decide) only [putI_ne, putI_self]
                          refine P_goto (tgt := 159) (pc := 145) dX6_event_145 (by decide) ?_
                          exact P_iret (pc := 159) dX6_event_159 rfl (QI.mk (by first | (exfalso; omega) | (have hwy : whyE μ.1 h k a b u = -2 := (by unfold whyE; grind); rw [hwy]; exact ⟨rfl, rfl⟩) | (have hwy : whyE μ.1 h k a b u = -1 := (by unfold whyE; grind); rw [hwy]; exact ⟨rfl, rfl⟩) | (have hwy : whyE μ.1 h k a b u = -4 := (by unfold whyE; grind); rw [hwy]; exact ⟨rfl, rfl⟩) | (have hwy : whyE μ.1 h k a b u = -6 := (by unfold whyE; grind); rw [hwy]; exact ⟨rfl, rfl⟩) | (have hwy : whyE μ.1 h k a b u = 0 := (by unfold whyE; grind); rw [hwy]; exact ⟨rfl, rfl⟩)))
                      · refine P_iload (pc := 110) dX6_event_110 5 rfl ?_
                        refine P_bipush (pc := 112) dX6_event_112 (by decide) ?_
                        refine P_icmp_gt (tgt := 126) (pc := 114) dX6_event_114 (by decide) (by first | assumption | (unfold InR; omega)) (by first | assumption | (unfold InR; omega)) (fun c_114 => ?_) (fun c_114 => ?_)
                        · refine P_bipush (pc := 126) dX6_event_126 (by decide) ?_
                          refine P_goto (tgt := 132) (pc := 128) dX6_event_128 (by decide) ?_
                          refine P_istore (L' := [(6, vi _), (0, vr 0), (1, vi _), (2, vi _), (3, vi _), (4, vi _), (5, vi _)]) (pc := 132) dX6_event_132 (by decide) rfl ?_
                          refine P_iload (pc := 134) dX6_event_134 0 rfl ?_
                          refine P_if_eq (tgt := 148) (pc := 136) dX6_event_136 (by decide) (by first | assumption | (unfold InR; omega)) (fun c_136 => ?_) (fun c_136 => ?_)
                          · refine P_aload_n (pc := 148) dX6_event_148 rfl 1 rfl ?_
                            refine P_iload_n (pc := 149) dX6_event_149 rfl 2 rfl ?_
                            refine P_iload_n (pc := 150) dX6_event_150 rfl 3 rfl ?_
                            refine P_iload_n (pc := 151) dX6_event_151 rfl 4 rfl ?_
                            refine P_iload (pc := 152) dX6_event_152 5 rfl ?_
                            refine P_iload (pc := 154) dX6_event_154 6 rfl ?_
                            refine P_callVi (Y' := mX6_happens) (as := [_, _, _, _, _]) (pc := 156) dX6_event_156 rfl (by decide : 1 < 2) sM_0 rfl ml_RX6_135 im_X6_happens se_X6_happens mk_X6_happens (Nat.le_of_ble_eq_true rfl) (c_X6_happens (by omega) hk) (fun z_ μ_ hq => ?_)
                            obtain ⟨rfl, hμ_⟩ := hq
                            have hμ_ := hμ_.symm
                            subst hμ_
                            try simp (disch := decide) only [putI_ne, putI_self]
                            exact P_iret (pc := 159) dX6_event_159 rfl (QI.mk (by first | (exfalso; omega) | (have hwy : whyE μ.1 h k a b u = -2 := (by unfold whyE; grind); rw [hwy]; exact ⟨rfl, rfl⟩) | (have hwy : whyE μ.1 h k a b u = -1 := (by unfold whyE; grind); rw [hwy]; exact ⟨rfl, rfl⟩) | (have hwy : whyE μ.1 h k a b u = -4 := (by unfold whyE; grind); rw [hwy]; exact ⟨rfl, rfl⟩) | (have hwy : whyE μ.1 h k a b u = -6 := (by unfold whyE; grind); rw [hwy]; exact ⟨rfl, rfl⟩) | (have hwy : whyE μ.1 h k a b u = 0 := (by unfold whyE; grind); rw [hwy]; exact ⟨rfl, rfl⟩)))
                          · refine P_aload_n (pc := 139) dX6_event_139 rfl 1 rfl ?_
                            refine P_iload (pc := 140) dX6_event_140 0 rfl ?_
                            refine P_callVi (Y' := mX6_no) (as := [_]) (pc := 142) dX6_event_142 rfl (by decide : 0 < 2) sM_0 rfl ml_RX6_109 im_X6_no se_X6_no mk_X6_no (Nat.le_of_ble_eq_true rfl) (c_X6_no (by omega)) (fun z_ μ_ hq => ?_)
                            obtain ⟨rfl, hμ_⟩ := hq
                            have hμ_ := hμ_.symm
                            subst hμ_
                            try simp (disch := decide) only [putI_ne, putI_self]
                            refine P_goto (tgt := 159) (pc := 145) dX6_event_145 (by decide) ?_
                            exact P_iret (pc := 159) dX6_event_159 rfl (QI.mk (by first | (exfalso; omega) | (have hwy : whyE μ.1 h k a b u = -2 := (by unfold whyE; grind); rw [hwy]; exact ⟨rfl, rfl⟩) | (have hwy : whyE μ.1 h k a b u = -1 := (by unfold whyE; grind); rw [hwy]; exact ⟨rfl, rfl⟩) | (have hwy : whyE μ.1 h k a b u = -4 := (by unfold whyE; grind); rw [hwy]; exact ⟨rfl, rfl⟩) | (have hwy : whyE μ.1 h k a b u = -6 := (by unfold whyE; grind); rw [hwy]; exact ⟨rfl, rfl⟩) | (have hwy : whyE μ.1 h k a b u = 0 := (by unfold whyE; grind); rw [hwy]; exact ⟨rfl, rfl⟩)))
                        · refine P_aload_n (pc := 117) dX6_event_117 rfl 0 rfl ?_
                          refine P_getI (jj := 12) (pc := 118) dX6_event_118 fa_RX6_125 sM_0 fM0_12 rfl ?_
                          try simp (disch := decide) only [putI_ne, putI_self]
                          refine P_bipush (pc := 121) dX6_event_121 (by decide) ?_
                          refine P_icmp_ne (tgt := 131) (pc := 123) dX6_event_123 (by decide) (by first | assumption | (unfold InR; omega)) (by first | assumption | (unfold InR; omega)) (fun c_123 => ?_) (fun c_123 => ?_)
                          · refine P_iconst (pc := 131) dX6_event_131 ?_
                            refine P_istore (L' := [(6, vi _), (0, vr 0), (1, vi _), (2, vi _), (3, vi _), (4, vi _), (5, vi _)]) (pc := 132) dX6_event_132 (by decide) rfl ?_
                            refine P_iload (pc := 134) dX6_event_134 0 rfl ?_
                            refine P_if_eq (tgt := 148) (pc := 136) dX6_event_136 (by decide) (by first | assumption | (unfold InR; omega)) (fun c_136 => ?_) (fun c_136 => ?_)
                            · refine P_aload_n (pc := 148) dX6_event_148 rfl 1 rfl ?_
                              refine P_iload_n (pc := 149) dX6_event_149 rfl 2 rfl ?_
                              refine P_iload_n (pc := 150) dX6_event_150 rfl 3 rfl ?_
                              refine P_iload_n (pc := 151) dX6_event_151 rfl 4 rfl ?_
                              refine P_iload (pc := 152) dX6_event_152 5 rfl ?_
                              refine P_iload (pc := 154) dX6_event_154 6 rfl ?_
                              refine P_callVi (Y' := mX6_happens) (as := [_, _, _, _, _]) (pc := 156) dX6_event_156 rfl (by decide : 1 < 2) sM_0 rfl ml_RX6_135 im_X6_happens se_X6_happens mk_X6_happens (Nat.le_of_ble_eq_true rfl) (c_X6_happens (by omega) hk) (fun z_ μ_ hq => ?_)
                              obtain ⟨rfl, hμ_⟩ := hq
                              have hμ_ := hμ_.symm
                              subst hμ_
                              try simp (disch := decide) only [putI_ne, putI_self]
                              exact P_iret (pc := 159) dX6_event_159 rfl (QI.mk (by first | (exfalso; omega) | (have hwy : whyE μ.1 h k a b u = -2 := (by unfold whyE; grind); rw [hwy]; exact ⟨rfl, rfl⟩) | (have hwy : whyE μ.1 h k a b u = -1 := (by unfold whyE; grind); rw [hwy]; exact ⟨rfl, rfl⟩) | (have hwy : whyE μ.1 h k a b u = -4 := (by unfold whyE; grind); rw [hwy]; exact ⟨rfl, rfl⟩) | (have hwy : whyE μ.1 h k a b u = -6 := (by unfold whyE; grind); rw [hwy]; exact ⟨rfl, rfl⟩) | (have hwy : whyE μ.1 h k a b u = 0 := (by unfold whyE; grind); rw [hwy]; exact ⟨rfl, rfl⟩)))
                            · refine P_aload_n (pc := 139) dX6_event_139 rfl 1 rfl ?_
                              refine P_iload (pc := 140) dX6_event_140 0 rfl ?_
                              refine P_callVi (Y' := mX6_no) (as := [_]) (pc := 142) dX6_event_142 rfl (by decide : 0 < 2) sM_0 rfl ml_RX6_109 im_X6_no se_X6_no mk_X6_no (Nat.le_of_ble_eq_true rfl) (c_X6_no (by omega)) (fun z_ μ_ hq => ?_)
                              obtain ⟨rfl, hμ_⟩ := hq
                              have hμ_ := hμ_.symm
                              subst hμ_
                              try simp (disch := decide) only [putI_ne, putI_self]
                              refine P_goto (tgt := 159) (pc := 145) dX6_event_145 (by decide) ?_
                              exact P_iret (pc := 159) dX6_event_159 rfl (QI.mk (by first | (exfalso; omega) | (have hwy : whyE μ.1 h k a b u = -2 := (by unfold whyE; grind); rw [hwy]; exact ⟨rfl, rfl⟩) | (have hwy : whyE μ.1 h k a b u = -1 := (by unfold whyE; grind); rw [hwy]; exact ⟨rfl, rfl⟩) | (have hwy : whyE μ.1 h k a b u = -4 := (by unfold whyE; grind); rw [hwy]; exact ⟨rfl, rfl⟩) | (have hwy : whyE μ.1 h k a b u = -6 := (by unfold whyE; grind); rw [hwy]; exact ⟨rfl, rfl⟩) | (have hwy : whyE μ.1 h k a b u = 0 := (by unfold whyE; grind); rw [hwy]; exact ⟨rfl, rfl⟩)))
                          · refine P_bipush (pc := 126) dX6_event_126 (by decide) ?_
                            refine P_goto (tgt := 132) (pc := 128) dX6_event_128 (by decide) ?_
                            refine P_istore (L' := [(6, vi _), (0, vr 0), (1, vi _), (2, vi _), (3, vi _), (4, vi _), (5, vi _)]) (pc := 132) dX6_event_132 (by decide) rfl ?_
                            refine P_iload (pc := 134) dX6_event_134 0 rfl ?_
                            refine P_if_eq (tgt := 148) (pc := 136) dX6_event_136 (by decide) (by first | assumption | (unfold InR; omega)) (fun c_136 => ?_) (fun c_136 => ?_)
                            · refine P_aload_n (pc := 148) dX6_event_148 rfl 1 rfl ?_
                              refine P_iload_n (pc := 149) dX6_event_149 rfl 2 rfl ?_
                              refine P_iload_n (pc := 150) dX6_event_150 rfl 3 rfl ?_
                              refine P_iload_n (pc := 151) dX6_event_151 rfl 4 rfl ?_
                              refine P_iload (pc := 152) dX6_event_152 5 rfl ?_
                              refine P_iload (pc := 154) dX6_event_154 6 rfl ?_
                              refine P_callVi (Y' := mX6_happens) (as := [_, _, _, _, _]) (pc := 156) dX6_event_156 rfl (by decide : 1 < 2) sM_0 rfl ml_RX6_135 im_X6_happens se_X6_happens mk_X6_happens (Nat.le_of_ble_eq_true rfl) (c_X6_happens (by omega) hk) (fun z_ μ_ hq => ?_)
                              obtain ⟨rfl, hμ_⟩ := hq
                              have hμ_ := hμ_.symm
                              subst hμ_
                              try simp (disch := decide) only [putI_ne, putI_self]
                              exact P_iret (pc := 159) dX6_event_159 rfl (QI.mk (by first | (exfalso; omega) | (have hwy : whyE μ.1 h k a b u = -2 := (by unfold whyE; grind); rw [hwy]; exact ⟨rfl, rfl⟩) | (have hwy : whyE μ.1 h k a b u = -1 := (by unfold whyE; grind); rw [hwy]; exact ⟨rfl, rfl⟩) | (have hwy : whyE μ.1 h k a b u = -4 := (by unfold whyE; grind); rw [hwy]; exact ⟨rfl, rfl⟩) | (have hwy : whyE μ.1 h k a b u = -6 := (by unfold whyE; grind); rw [hwy]; exact ⟨rfl, rfl⟩) | (have hwy : whyE μ.1 h k a b u = 0 := (by unfold whyE; grind); rw [hwy]; exact ⟨rfl, rfl⟩)))
                            · refine P_aload_n (pc := 139) dX6_event_139 rfl 1 rfl ?_
                              refine P_iload (pc := 140) dX6_event_140 0 rfl ?_
                              refine P_callVi (Y' := mX6_no) (as := [_]) (pc := 142) dX6_event_142 rfl (by decide : 0 < 2) sM_0 rfl ml_RX6_109 im_X6_no se_X6_no mk_X6_no (Nat.le_of_ble_eq_true rfl) (c_X6_no (by omega)) (fun z_ μ_ hq => ?_)
                              obtain ⟨rfl, hμ_⟩ := hq
                              have hμ_ := hμ_.symm
                              subst hμ_
                              try simp (disch := decide) only [putI_ne, putI_self]
                              refine P_goto (tgt := 159) (pc := 145) dX6_event_145 (by decide) ?_
                              exact P_iret (pc := 159) dX6_event_159 rfl (QI.mk (by first | (exfalso; omega) | (have hwy : whyE μ.1 h k a b u = -2 := (by unfold whyE; grind); rw [hwy]; exact ⟨rfl, rfl⟩) | (have hwy : whyE μ.1 h k a b u = -1 := (by unfold whyE; grind); rw [hwy]; exact ⟨rfl, rfl⟩) | (have hwy : whyE μ.1 h k a b u = -4 := (by unfold whyE; grind); rw [hwy]; exact ⟨rfl, rfl⟩) | (have hwy : whyE μ.1 h k a b u = -6 := (by unfold whyE; grind); rw [hwy]; exact ⟨rfl, rfl⟩) | (have hwy : whyE μ.1 h k a b u = 0 := (by unfold whyE; grind); rw [hwy]; exact ⟨rfl, rfl⟩)))
                    · refine P_iload (pc := 92) dX6_event_92 4 rfl ?_
                      refine P_iconst (pc := 94) dX6_event_94 ?_
                      refine P_icmp_gt (tgt := 126) (pc := 95) dX6_event_95 (by decide) (by first | assumption | (unfold InR; omega)) (by first | assumption | (unfold InR; omega)) (fun c_95 => ?_) (fun c_95 => ?_)
                      · refine P_bipush (pc := 126) dX6_event_126 (by decide) ?_
                        refine P_goto (tgt := 132) (pc := 128) dX6_event_128 (by decide) ?_
                        refine P_istore (L' := [(6, vi _), (0, vr 0), (1, vi _), (2, vi _), (3, vi _), (4, vi _), (5, vi _)]) (pc := 132) dX6_event_132 (by decide) rfl ?_
                        refine P_iload (pc := 134) dX6_event_134 0 rfl ?_
                        refine P_if_eq (tgt := 148) (pc := 136) dX6_event_136 (by decide) (by first | assumption | (unfold InR; omega)) (fun c_136 => ?_) (fun c_136 => ?_)
                        · refine P_aload_n (pc := 148) dX6_event_148 rfl 1 rfl ?_
                          refine P_iload_n (pc := 149) dX6_event_149 rfl 2 rfl ?_
                          refine P_iload_n (pc := 150) dX6_event_150 rfl 3 rfl ?_
                          refine P_iload_n (pc := 151) dX6_event_151 rfl 4 rfl ?_
                          refine P_iload (pc := 152) dX6_event_152 5 rfl ?_
                          refine P_iload (pc := 154) dX6_event_154 6 rfl ?_
                          refine P_callVi (Y' := mX6_happens) (as := [_, _, _, _, _]) (pc := 156) dX6_event_156 rfl (by decide : 1 < 2) sM_0 rfl ml_RX6_135 im_X6_happens se_X6_happens mk_X6_happens (Nat.le_of_ble_eq_true rfl) (c_X6_happens (by omega) hk) (fun z_ μ_ hq => ?_)
                          obtain ⟨rfl, hμ_⟩ := hq
                          have hμ_ := hμ_.symm
                          subst hμ_
                          try simp (disch := decide) only [putI_ne, putI_self]
                          exact P_iret (pc := 159) dX6_event_159 rfl (QI.mk (by first | (exfalso; omega) | (have hwy : whyE μ.1 h k a b u = -2 := (by unfold whyE; grind); rw [hwy]; exact ⟨rfl, rfl⟩) | (have hwy : whyE μ.1 h k a b u = -1 := (by unfold whyE; grind); rw [hwy]; exact ⟨rfl, rfl⟩) | (have hwy : whyE μ.1 h k a b u = -4 := (by unfold whyE; grind); rw [hwy]; exact ⟨rfl, rfl⟩) | (have hwy : whyE μ.1 h k a b u = -6 := (by unfold whyE; grind); rw [hwy]; exact ⟨rfl, rfl⟩) | (have hwy : whyE μ.1 h k a b u = 0 := (by unfold whyE; grind); rw [hwy]; exact ⟨rfl, rfl⟩)))
                        · refine P_aload_n (pc := 139) dX6_event_139 rfl 1 rfl ?_
                          refine P_iload (pc := 140) dX6_event_140 0 rfl ?_
                          refine P_callVi (Y' := mX6_no) (as := [_]) (pc := 142) dX6_event_142 rfl (by decide : 0 < 2) sM_0 rfl ml_RX6_109 im_X6_no se_X6_no mk_X6_no (Nat.le_of_ble_eq_true rfl) (c_X6_no (by omega)) (fun z_ μ_ hq => ?_)
                          obtain ⟨rfl, hμ_⟩ := hq
                          have hμ_ := hμ_.symm
                          subst hμ_
                          try simp (disch := decide) only [putI_ne, putI_self]
                          refine P_goto (tgt := 159) (pc := 145) dX6_event_145 (by decide) ?_
                          exact P_iret (pc := 159) dX6_event_159 rfl (QI.mk (by first | (exfalso; omega) | (have hwy : whyE μ.1 h k a b u = -2 := (by unfold whyE; grind); rw [hwy]; exact ⟨rfl, rfl⟩) | (have hwy : whyE μ.1 h k a b u = -1 := (by unfold whyE; grind); rw [hwy]; exact ⟨rfl, rfl⟩) | (have hwy : whyE μ.1 h k a b u = -4 := (by unfold whyE; grind); rw [hwy]; exact ⟨rfl, rfl⟩) | (have hwy : whyE μ.1 h k a b u = -6 := (by unfold whyE; grind); rw [hwy]; exact ⟨rfl, rfl⟩) | (have hwy : whyE μ.1 h k a b u = 0 := (by unfold whyE; grind); rw [hwy]; exact ⟨rfl, rfl⟩)))
                      · refine P_iload (pc := 98) dX6_event_98 5 rfl ?_
                        refine P_bipush (pc := 100) dX6_event_100 (by decide) ?_
                        refine P_bipush (pc := 102) dX6_event_102 (by decide) ?_
                        refine P_callSi (Y' := mX6_isIn) (as := [_, _, _]) (pc := 104) dX6_event_104 rfl (by decide : 0 < 2) ml_RX6_105 sm_X6_isIn mk_X6_isIn (Nat.le_of_ble_eq_true rfl) (c_X6_isIn (by first | assumption | (unfold InR; omega)) (by unfold InR; omega) (by unfold InR; omega)) (fun z_ μ_ hq => ?_)
                        obtain ⟨hz, hμ_⟩ := hq
                        have hμ_ := hμ_.symm
                        subst hμ_
                        have hz : z_ = 0 ∧ ¬ (6 ≤ u ∧ u ≤ 9) ∨ z_ = 1 ∧ (6 ≤ u ∧ u ≤ 9) := by rw [hz]; split <;> omega
                        try simp (disch := decide) only [putI_ne, putI_self]
                        refine P_if_ne (tgt := 126) (pc := 107) dX6_event_107 (by decide) (by first | assumption | (unfold InR; omega)) (fun c_107 => ?_) (fun c_107 => ?_)
                        · refine P_bipush (pc := 126) dX6_event_126 (by decide) ?_
                          refine P_goto (tgt := 132) (pc := 128) dX6_event_128 (by decide) ?_
                          refine P_istore (L' := [(6, vi _), (0, vr 0), (1, vi _), (2, vi _), (3, vi _), (4, vi _), (5, vi _)]) (pc := 132) dX6_event_132 (by decide) rfl ?_
                          refine P_iload (pc := 134) dX6_event_134 0 rfl ?_
                          refine P_if_eq (tgt := 148) (pc := 136) dX6_event_136 (by decide) (by first | assumption | (unfold InR; omega)) (fun c_136 => ?_) (fun c_136 => ?_)
                          · refine P_aload_n (pc := 148) dX6_event_148 rfl 1 rfl ?_
                            refine P_iload_n (pc := 149) dX6_event_149 rfl 2 rfl ?_
                            refine P_iload_n (pc := 150) dX6_event_150 rfl 3 rfl ?_
                            refine P_iload_n (pc := 151) dX6_event_151 rfl 4 rfl ?_
                            refine P_iload (pc := 152) dX6_event_152 5 rfl ?_
                            refine P_iload (pc := 154) dX6_event_154 6 rfl ?_
                            refine P_callVi (Y' := mX6_happens) (as := [_, _, _, _, _]) (pc := 156) dX6_event_156 rfl (by decide : 1 < 2) sM_0 rfl ml_RX6_135 im_X6_happens se_X6_happens mk_X6_happens (Nat.le_of_ble_eq_true rfl) (c_X6_happens (by omega) hk) (fun z_ μ_ hq => ?_)
                            obtain ⟨rfl, hμ_⟩ := hq
                            have hμ_ := hμ_.symm
                            subst hμ_
                            try simp (disch := decide) only [putI_ne, putI_self]
                            exact P_iret (pc := 159) dX6_event_159 rfl (QI.mk (by first | (exfalso; omega) | (have hwy : whyE μ.1 h k a b u = -2 := (by unfold whyE; grind); rw [hwy]; exact ⟨rfl, rfl⟩) | (have hwy : whyE μ.1 h k a b u = -1 := (by unfold whyE; grind); rw [hwy]; exact ⟨rfl, rfl⟩) | (have hwy : whyE μ.1 h k a b u = -4 := (by unfold whyE; grind); rw [hwy]; exact ⟨rfl, rfl⟩) | (have hwy : whyE μ.1 h k a b u = -6 := (by unfold whyE; grind); rw [hwy]; exact ⟨rfl, rfl⟩) | (have hwy : whyE μ.1 h k a b u = 0 := (by unfold whyE; grind); rw [hwy]; exact ⟨rfl, rfl⟩)))
                          · refine P_aload_n (pc := 139) dX6_event_139 rfl 1 rfl ?_
                            refine P_iload (pc := 140) dX6_event_140 0 rfl ?_
                            refine P_callVi (Y' := mX6_no) (as := [_]) (pc := 142) dX6_event_142 rfl (by decide : 0 < 2) sM_0 rfl ml_RX6_109 im_X6_no se_X6_no mk_X6_no (Nat.le_of_ble_eq_true rfl) (c_X6_no (by omega)) (fun z_ μ_ hq => ?_)
                            obtain ⟨rfl, hμ_⟩ := hq
                            have hμ_ := hμ_.symm
                            subst hμ_
                            try simp (disch := decide) only [putI_ne, putI_self]
                            refine P_goto (tgt := 159) (pc := 145) dX6_event_145 (by decide) ?_
                            exact P_iret (pc := 159) dX6_event_159 rfl (QI.mk (by first | (exfalso; omega) | (have hwy : whyE μ.1 h k a b u = -2 := (by unfold whyE; grind); rw [hwy]; exact ⟨rfl, rfl⟩) | (have hwy : whyE μ.1 h k a b u = -1 := (by unfold whyE; grind); rw [hwy]; exact ⟨rfl, rfl⟩) | (have hwy : whyE μ.1 h k a b u = -4 := (by unfold whyE; grind); rw [hwy]; exact ⟨rfl, rfl⟩) | (have hwy : whyE μ.1 h k a b u = -6 := (by unfold whyE; grind); rw [hwy]; exact ⟨rfl, rfl⟩) | (have hwy : whyE μ.1 h k a b u = 0 := (by unfold whyE; grind); rw [hwy]; exact ⟨rfl, rfl⟩)))
                        · refine P_iload (pc := 110) dX6_event_110 5 rfl ?_
                          refine P_bipush (pc := 112) dX6_event_112 (by decide) ?_
                          refine P_icmp_gt (tgt := 126) (pc := 114) dX6_event_114 (by decide) (by first | assumption | (unfold InR; omega)) (by first | assumption | (unfold InR; omega)) (fun c_114 => ?_) (fun c_114 => ?_)
                          · refine P_bipush (pc := 126) dX6_event_126 (by decide) ?_
                            refine P_goto (tgt := 132) (pc := 128) dX6_event_128 (by decide) ?_
                            refine P_istore (L' := [(6, vi _), (0, vr 0), (1, vi _), (2, vi _), (3, vi _), (4, vi _), (5, vi _)]) (pc := 132) dX6_event_132 (by decide) rfl ?_
                            refine P_iload (pc := 134) dX6_event_134 0 rfl ?_
                            refine P_if_eq (tgt := 148) (pc := 136) dX6_event_136 (by decide) (by first | assumption | (unfold InR; omega)) (fun c_136 => ?_) (fun c_136 => ?_)
                            · refine P_aload_n (pc := 148) dX6_event_148 rfl 1 rfl ?_
                              refine P_iload_n (pc := 149) dX6_event_149 rfl 2 rfl ?_
                              refine P_iload_n (pc := 150) dX6_event_150 rfl 3 rfl ?_
                              refine P_iload_n (pc := 151) dX6_event_151 rfl 4 rfl ?_
                              refine P_iload (pc := 152) dX6_event_152 5 rfl ?_
                              refine P_iload (pc := 154) dX6_event_154 6 rfl ?_
                              refine P_callVi (Y' := mX6_happens) (as := [_, _, _, _, _]) (pc := 156) dX6_event_156 rfl (by decide : 1 < 2) sM_0 rfl ml_RX6_135 im_X6_happens se_X6_happens mk_X6_happens (Nat.le_of_ble_eq_true rfl) (c_X6_happens (by omega) hk) (fun z_ μ_ hq => ?_)
                              obtain ⟨rfl, hμ_⟩ := hq
                              have hμ_ := hμ_.symm
                              subst hμ_
                              try simp (disch := decide) only [putI_ne, putI_self]
                              exact P_iret (pc := 159) dX6_event_159 rfl (QI.mk (by first | (exfalso; omega) | (have hwy : whyE μ.1 h k a b u = -2 := (by unfold whyE; grind); rw [hwy]; exact ⟨rfl, rfl⟩) | (have hwy : whyE μ.1 h k a b u = -1 := (by unfold whyE; grind); rw [hwy]; exact ⟨rfl, rfl⟩) | (have hwy : whyE μ.1 h k a b u = -4 := (by unfold whyE; grind); rw [hwy]; exact ⟨rfl, rfl⟩) | (have hwy : whyE μ.1 h k a b u = -6 := (by unfold whyE; grind); rw [hwy]; exact ⟨rfl, rfl⟩) | (have hwy : whyE μ.1 h k a b u = 0 := (by unfold whyE; grind); rw [hwy]; exact ⟨rfl, rfl⟩)))
                            · refine P_aload_n (pc := 139) dX6_event_139 rfl 1 rfl ?_
                              refine P_iload (pc := 140) dX6_event_140 0 rfl ?_
                              refine P_callVi (Y' := mX6_no) (as := [_]) (pc := 142) dX6_event_142 rfl (by decide : 0 < 2) sM_0 rfl ml_RX6_109 im_X6_no se_X6_no mk_X6_no (Nat.le_of_ble_eq_true rfl) (c_X6_no (by omega)) (fun z_ μ_ hq => ?_)
                              obtain ⟨rfl, hμ_⟩ := hq
                              have hμ_ := hμ_.symm
                              subst hμ_
                              try simp (disch := decide) only [putI_ne, putI_self]
                              refine P_goto (tgt := 159) (pc := 145) dX6_event_145 (by decide) ?_
                              exact P_iret (pc := 159) dX6_event_159 rfl (QI.mk (by first | (exfalso; omega) | (have hwy : whyE μ.1 h k a b u = -2 := (by unfold whyE; grind); rw [hwy]; exact ⟨rfl, rfl⟩) | (have hwy : whyE μ.1 h k a b u = -1 := (by unfold whyE; grind); rw [hwy]; exact ⟨rfl, rfl⟩) | (have hwy : whyE μ.1 h k a b u = -4 := (by unfold whyE; grind); rw [hwy]; exact ⟨rfl, rfl⟩) | (have hwy : whyE μ.1 h k a b u = -6 := (by unfold whyE; grind); rw [hwy]; exact ⟨rfl, rfl⟩) | (have hwy : whyE μ.1 h k a b u = 0 := (by unfold whyE; grind); rw [hwy]; exact ⟨rfl, rfl⟩)))
                          · refine P_aload_n (pc := 117) dX6_event_117 rfl 0 rfl ?_
                            refine P_getI (jj := 12) (pc := 118) dX6_event_118 fa_RX6_125 sM_0 fM0_12 rfl ?_
                            try simp (disch := decide) only [putI_ne, putI_self]
                            refine P_bipush (pc := 121) dX6_event_121 (by decide) ?_
                            refine P_icmp_ne (tgt := 131) (pc := 123) dX6_event_123 (by decide) (by first | assumption | (unfold InR; omega)) (by first | assumption | (unfold InR; omega)) (fun c_123 => ?_) (fun c_123 => ?_)
                            · refine P_iconst (pc := 131) dX6_event_131 ?_
                              refine P_istore (L' := [(6, vi _), (0, vr 0), (1, vi _), (2, vi _), (3, vi _), (4, vi _), (5, vi _)]) (pc := 132) dX6_event_132 (by decide) rfl ?_
                              refine P_iload (pc := 134) dX6_event_134 0 rfl ?_
                              refine P_if_eq (tgt := 148) (pc := 136) dX6_event_136 (by decide) (by first | assumption | (unfold InR; omega)) (fun c_136 => ?_) (fun c_136 => ?_)
                              · refine P_aload_n (pc := 148) dX6_event_148 rfl 1 rfl ?_
                                refine P_iload_n (pc := 149) dX6_event_149 rfl 2 rfl ?_
                                refine P_iload_n (pc := 150) dX6_event_150 rfl 3 rfl ?_
                                refine P_iload_n (pc := 151) dX6_event_151 rfl 4 rfl ?_
                                refine P_iload (pc := 152) dX6_event_152 5 rfl ?_
                                refine P_iload (pc := 154) dX6_event_154 6 rfl ?_
                                refine P_callVi (Y' := mX6_happens) (as := [_, _, _, _, _]) (pc := 156) dX6_event_156 rfl (by decide : 1 < 2) sM_0 rfl ml_RX6_135 im_X6_happens se_X6_happens mk_X6_happens (Nat.le_of_ble_eq_true rfl) (c_X6_happens (by omega) hk) (fun z_ μ_ hq => ?_)
                                obtain ⟨rfl, hμ_⟩ := hq
                                have hμ_ := hμ_.symm
                                subst hμ_
                                try simp (disch := decide) only [putI_ne, putI_self]
                                exact P_iret (pc := 159) dX6_event_159 rfl (QI.mk (by first | (exfalso; omega) | (have hwy : whyE μ.1 h k a b u = -2 := (by unfold whyE; grind); rw [hwy]; exact ⟨rfl, rfl⟩) | (have hwy : whyE μ.1 h k a b u = -1 := (by unfold whyE; grind); rw [hwy]; exact ⟨rfl, rfl⟩) | (have hwy : whyE μ.1 h k a b u = -4 := (by unfold whyE; grind); rw [hwy]; exact ⟨rfl, rfl⟩) | (have hwy : whyE μ.1 h k a b u = -6 := (by unfold whyE; grind); rw [hwy]; exact ⟨rfl, rfl⟩) | (have hwy : whyE μ.1 h k a b u = 0 := (by unfold whyE; grind); rw [hwy]; exact ⟨rfl, rfl⟩)))
                              · refine P_aload_n (pc := 139) dX6_event_139 rfl 1 rfl ?_
                                refine P_iload (pc := 140) dX6_event_140 0 rfl ?_
                                refine P_callVi (Y' := mX6_no) (as := [_]) (pc := 142) dX6_event_142 rfl (by decide : 0 < 2) sM_0 rfl ml_RX6_109 im_X6_no se_X6_no mk_X6_no (Nat.le_of_ble_eq_true rfl) (c_X6_no (by omega)) (fun z_ μ_ hq => ?_)
                                obtain ⟨rfl, hμ_⟩ := hq
                                have hμ_ := hμ_.symm
                                subst hμ_
                                try simp (disch := decide) only [putI_ne, putI_self]
                                refine P_goto (tgt := 159) (pc := 145) dX6_event_145 (by decide) ?_
                                exact P_iret (pc := 159) dX6_event_159 rfl (QI.mk (by first | (exfalso; omega) | (have hwy : whyE μ.1 h k a b u = -2 := (by unfold whyE; grind); rw [hwy]; exact ⟨rfl, rfl⟩) | (have hwy : whyE μ.1 h k a b u = -1 := (by unfold whyE; grind); rw [hwy]; exact ⟨rfl, rfl⟩) | (have hwy : whyE μ.1 h k a b u = -4 := (by unfold whyE; grind); rw [hwy]; exact ⟨rfl, rfl⟩) | (have hwy : whyE μ.1 h k a b u = -6 := (by unfold whyE; grind); rw [hwy]; exact ⟨rfl, rfl⟩) | (have hwy : whyE μ.1 h k a b u = 0 := (by unfold whyE; grind); rw [hwy]; exact ⟨rfl, rfl⟩)))
                            · refine P_bipush (pc := 126) dX6_event_126 (by decide) ?_
                              refine P_goto (tgt := 132) (pc := 128) dX6_event_128 (by decide) ?_
                              refine P_istore (L' := [(6, vi _), (0, vr 0), (1, vi _), (2, vi _), (3, vi _), (4, vi _), (5, vi _)]) (pc := 132) dX6_event_132 (by decide) rfl ?_
                              refine P_iload (pc := 134) dX6_event_134 0 rfl ?_
                              refine P_if_eq (tgt := 148) (pc := 136) dX6_event_136 (by decide) (by first | assumption | (unfold InR; omega)) (fun c_136 => ?_) (fun c_136 => ?_)
                              · refine P_aload_n (pc := 148) dX6_event_148 rfl 1 rfl ?_
                                refine P_iload_n (pc := 149) dX6_event_149 rfl 2 rfl ?_
                                refine P_iload_n (pc := 150) dX6_event_150 rfl 3 rfl ?_
                                refine P_iload_n (pc := 151) dX6_event_151 rfl 4 rfl ?_
                                refine P_iload (pc := 152) dX6_event_152 5 rfl ?_
                                refine P_iload (pc := 154) dX6_event_154 6 rfl ?_
                                refine P_callVi (Y' := mX6_happens) (as := [_, _, _, _, _]) (pc := 156) dX6_event_156 rfl (by decide : 1 < 2) sM_0 rfl ml_RX6_135 im_X6_happens se_X6_happens mk_X6_happens (Nat.le_of_ble_eq_true rfl) (c_X6_happens (by omega) hk) (fun z_ μ_ hq => ?_)
                                obtain ⟨rfl, hμ_⟩ := hq
                                have hμ_ := hμ_.symm
                                subst hμ_
                                try simp (disch := decide) only [putI_ne, putI_self]
                                exact P_iret (pc := 159) dX6_event_159 rfl (QI.mk (by first | (exfalso; omega) | (have hwy : whyE μ.1 h k a b u = -2 := (by unfold whyE; grind); rw [hwy]; exact ⟨rfl, rfl⟩) | (have hwy : whyE μ.1 h k a b u = -1 := (by unfold whyE; grind); rw [hwy]; exact ⟨rfl, rfl⟩) | (have hwy : whyE μ.1 h k a b u = -4 := (by unfold whyE; grind); rw [hwy]; exact ⟨rfl, rfl⟩) | (have hwy : whyE μ.1 h k a b u = -6 := (by unfold whyE; grind); rw [hwy]; exact ⟨rfl, rfl⟩) | (have hwy : whyE μ.1 h k a b u = 0 := (by unfold whyE; grind); rw [hwy]; exact ⟨rfl, rfl⟩)))
                              · refine P_aload_n (pc := 139) dX6_event_139 rfl 1 rfl ?_
                                refine P_iload (pc := 140) dX6_event_140 0 rfl ?_
                                refine P_callVi (Y' := mX6_no) (as := [_]) (pc := 142) dX6_event_142 rfl (by decide : 0 < 2) sM_0 rfl ml_RX6_109 im_X6_no se_X6_no mk_X6_no (Nat.le_of_ble_eq_true rfl) (c_X6_no (by omega)) (fun z_ μ_ hq => ?_)
                                obtain ⟨rfl, hμ_⟩ := hq
                                have hμ_ := hμ_.symm
                                subst hμ_
                                try simp (disch := decide) only [putI_ne, putI_self]
                                refine P_goto (tgt := 159) (pc := 145) dX6_event_145 (by decide) ?_
                                exact P_iret (pc := 159) dX6_event_159 rfl (QI.mk (by first | (exfalso; omega) | (have hwy : whyE μ.1 h k a b u = -2 := (by unfold whyE; grind); rw [hwy]; exact ⟨rfl, rfl⟩) | (have hwy : whyE μ.1 h k a b u = -1 := (by unfold whyE; grind); rw [hwy]; exact ⟨rfl, rfl⟩) | (have hwy : whyE μ.1 h k a b u = -4 := (by unfold whyE; grind); rw [hwy]; exact ⟨rfl, rfl⟩) | (have hwy : whyE μ.1 h k a b u = -6 := (by unfold whyE; grind); rw [hwy]; exact ⟨rfl, rfl⟩) | (have hwy : whyE μ.1 h k a b u = 0 := (by unfold whyE; grind); rw [hwy]; exact ⟨rfl, rfl⟩)))
                · refine P_bipush (pc := 75) dX6_event_75 (by decide) ?_
                  refine P_goto (tgt := 132) (pc := 77) dX6_event_77 (by decide) ?_
                  refine P_istore (L' := [(6, vi _), (0, vr 0), (1, vi _), (2, vi _), (3, vi _), (4, vi _), (5, vi _)]) (pc := 132) dX6_event_132 (by decide) rfl ?_
                  refine P_iload (pc := 134) dX6_event_134 0 rfl ?_
                  refine P_if_eq (tgt := 148) (pc := 136) dX6_event_136 (by decide) (by first | assumption | (unfold InR; omega)) (fun c_136 => ?_) (fun c_136 => ?_)
                  · refine P_aload_n (pc := 148) dX6_event_148 rfl 1 rfl ?_
                    refine P_iload_n (pc := 149) dX6_event_149 rfl 2 rfl ?_
                    refine P_iload_n (pc := 150) dX6_event_150 rfl 3 rfl ?_
                    refine P_iload_n (pc := 151) dX6_event_151 rfl 4 rfl ?_
                    refine P_iload (pc := 152) dX6_event_152 5 rfl ?_
                    refine P_iload (pc := 154) dX6_event_154 6 rfl ?_
                    refine P_callVi (Y' := mX6_happens) (as := [_, _, _, _, _]) (pc := 156) dX6_event_156 rfl (by decide : 1 < 2) sM_0 rfl ml_RX6_135 im_X6_happens se_X6_happens mk_X6_happens (Nat.le_of_ble_eq_true rfl) (c_X6_happens (by omega) hk) (fun z_ μ_ hq => ?_)
                    obtain ⟨rfl, hμ_⟩ := hq
                    have hμ_ := hμ_.symm
                    subst hμ_
                    try simp (disch := decide) only [putI_ne, putI_self]
                    exact P_iret (pc := 159) dX6_event_159 rfl (QI.mk (by first | (exfalso; omega) | (have hwy : whyE μ.1 h k a b u = -2 := (by unfold whyE; grind); rw [hwy]; exact ⟨rfl, rfl⟩) | (have hwy : whyE μ.1 h k a b u = -1 := (by unfold whyE; grind); rw [hwy]; exact ⟨rfl, rfl⟩) | (have hwy : whyE μ.1 h k a b u = -4 := (by unfold whyE; grind); rw [hwy]; exact ⟨rfl, rfl⟩) | (have hwy : whyE μ.1 h k a b u = -6 := (by unfold whyE; grind); rw [hwy]; exact ⟨rfl, rfl⟩) | (have hwy : whyE μ.1 h k a b u = 0 := (by unfold whyE; grind); rw [hwy]; exact ⟨rfl, rfl⟩)))
                  · refine P_aload_n (pc := 139) dX6_event_139 rfl 1 rfl ?_
                    refine P_iload (pc := 140) dX6_event_140 0 rfl ?_
                    refine P_callVi (Y' := mX6_no) (as := [_]) (pc := 142) dX6_event_142 rfl (by decide : 0 < 2) sM_0 rfl ml_RX6_109 im_X6_no se_X6_no mk_X6_no (Nat.le_of_ble_eq_true rfl) (c_X6_no (by omega)) (fun z_ μ_ hq => ?_)
                    obtain ⟨rfl, hμ_⟩ := hq
                    have hμ_ := hμ_.symm
                    subst hμ_
                    try simp (disch := decide) only [putI_ne, putI_self]
                    refine P_goto (tgt := 159) (pc := 145) dX6_event_145 (by decide) ?_
                    exact P_iret (pc := 159) dX6_event_159 rfl (QI.mk (by first | (exfalso; omega) | (have hwy : whyE μ.1 h k a b u = -2 := (by unfold whyE; grind); rw [hwy]; exact ⟨rfl, rfl⟩) | (have hwy : whyE μ.1 h k a b u = -1 := (by unfold whyE; grind); rw [hwy]; exact ⟨rfl, rfl⟩) | (have hwy : whyE μ.1 h k a b u = -4 := (by unfold whyE; grind); rw [hwy]; exact ⟨rfl, rfl⟩) | (have hwy : whyE μ.1 h k a b u = -6 := (by unfold whyE; grind); rw [hwy]; exact ⟨rfl, rfl⟩) | (have hwy : whyE μ.1 h k a b u = 0 := (by unfold whyE; grind); rw [hwy]; exact ⟨rfl, rfl⟩)))
              · refine P_iload (pc := 63) dX6_event_63 4 rfl ?_
                refine P_iconst (pc := 65) dX6_event_65 ?_
                refine P_icmp_lt (tgt := 75) (pc := 66) dX6_event_66 (by decide) (by first | assumption | (unfold InR; omega)) (by first | assumption | (unfold InR; omega)) (fun c_66 => ?_) (fun c_66 => ?_)
                · refine P_bipush (pc := 75) dX6_event_75 (by decide) ?_
                  refine P_goto (tgt := 132) (pc := 77) dX6_event_77 (by decide) ?_
                  refine P_istore (L' := [(6, vi _), (0, vr 0), (1, vi _), (2, vi _), (3, vi _), (4, vi _), (5, vi _)]) (pc := 132) dX6_event_132 (by decide) rfl ?_
                  refine P_iload (pc := 134) dX6_event_134 0 rfl ?_
                  refine P_if_eq (tgt := 148) (pc := 136) dX6_event_136 (by decide) (by first | assumption | (unfold InR; omega)) (fun c_136 => ?_) (fun c_136 => ?_)
                  · refine P_aload_n (pc := 148) dX6_event_148 rfl 1 rfl ?_
                    refine P_iload_n (pc := 149) dX6_event_149 rfl 2 rfl ?_
                    refine P_iload_n (pc := 150) dX6_event_150 rfl 3 rfl ?_
                    refine P_iload_n (pc := 151) dX6_event_151 rfl 4 rfl ?_
                    refine P_iload (pc := 152) dX6_event_152 5 rfl ?_
                    refine P_iload (pc := 154) dX6_event_154 6 rfl ?_
                    refine P_callVi (Y' := mX6_happens) (as := [_, _, _, _, _]) (pc := 156) dX6_event_156 rfl (by decide : 1 < 2) sM_0 rfl ml_RX6_135 im_X6_happens se_X6_happens mk_X6_happens (Nat.le_of_ble_eq_true rfl) (c_X6_happens (by omega) hk) (fun z_ μ_ hq => ?_)
                    obtain ⟨rfl, hμ_⟩ := hq
                    have hμ_ := hμ_.symm
                    subst hμ_
                    try simp (disch := decide) only [putI_ne, putI_self]
                    exact P_iret (pc := 159) dX6_event_159 rfl (QI.mk (by first | (exfalso; omega) | (have hwy : whyE μ.1 h k a b u = -2 := (by unfold whyE; grind); rw [hwy]; exact ⟨rfl, rfl⟩) | (have hwy : whyE μ.1 h k a b u = -1 := (by unfold whyE; grind); rw [hwy]; exact ⟨rfl, rfl⟩) | (have hwy : whyE μ.1 h k a b u = -4 := (by unfold whyE; grind); rw [hwy]; exact ⟨rfl, rfl⟩) | (have hwy : whyE μ.1 h k a b u = -6 := (by unfold whyE; grind); rw [hwy]; exact ⟨rfl, rfl⟩) | (have hwy : whyE μ.1 h k a b u = 0 := (by unfold whyE; grind); rw [hwy]; exact ⟨rfl, rfl⟩)))
                  · refine P_aload_n (pc := 139) dX6_event_139 rfl 1 rfl ?_
                    refine P_iload (pc := 140) dX6_event_140 0 rfl ?_
                    refine P_callVi (Y' := mX6_no) (as := [_]) (pc := 142) dX6_event_142 rfl (by decide : 0 < 2) sM_0 rfl ml_RX6_109 im_X6_no se_X6_no mk_X6_no (Nat.le_of_ble_eq_true rfl) (c_X6_no (by omega)) (fun z_ μ_ hq => ?_)
                    obtain ⟨rfl, hμ_⟩ := hq
                    have hμ_ := hμ_.symm
                    subst hμ_
                    try simp (disch := decide) only [putI_ne, putI_self]
                    refine P_goto (tgt := 159) (pc := 145) dX6_event_145 (by decide) ?_
                    exact P_iret (pc := 159) dX6_event_159 rfl (QI.mk (by first | (exfalso; omega) | (have hwy : whyE μ.1 h k a b u = -2 := (by unfold whyE; grind); rw [hwy]; exact ⟨rfl, rfl⟩) | (have hwy : whyE μ.1 h k a b u = -1 := (by unfold whyE; grind); rw [hwy]; exact ⟨rfl, rfl⟩) | (have hwy : whyE μ.1 h k a b u = -4 := (by unfold whyE; grind); rw [hwy]; exact ⟨rfl, rfl⟩) | (have hwy : whyE μ.1 h k a b u = -6 := (by unfold whyE; grind); rw [hwy]; exact ⟨rfl, rfl⟩) | (have hwy : whyE μ.1 h k a b u = 0 := (by unfold whyE; grind); rw [hwy]; exact ⟨rfl, rfl⟩)))
                · refine P_iload (pc := 69) dX6_event_69 5 rfl ?_
                  refine P_iconst (pc := 71) dX6_event_71 ?_
                  refine P_icmp_ge (tgt := 80) (pc := 72) dX6_event_72 (by decide) (by first | assumption | (unfold InR; omega)) (by first | assumption | (unfold InR; omega)) (fun c_72 => ?_) (fun c_72 => ?_)
                  · refine P_iload_n (pc := 80) dX6_event_80 rfl 1 rfl ?_
                    refine P_bipush (pc := 81) dX6_event_81 (by decide) ?_
                    refine P_icmp_gt (tgt := 126) (pc := 83) dX6_event_83 (by decide) (by first | assumption | (unfold InR; omega)) (by first | assumption | (unfold InR; omega)) (fun c_83 => ?_) (fun c_83 => ?_)
                    · refine P_bipush (pc := 126) dX6_event_126 (by decide) ?_
                      refine P_goto (tgt := 132) (pc := 128) dX6_event_128 (by decide) ?_
                      refine P_istore (L' := [(6, vi _), (0, vr 0), (1, vi _), (2, vi _), (3, vi _), (4, vi _), (5, vi _)]) (pc := 132) dX6_event_132 (by decide) rfl ?_
                      refine P_iload (pc := 134) dX6_event_134 0 rfl ?_
                      refine P_if_eq (tgt := 148) (pc := 136) dX6_event_136 (by decide) (by first | assumption | (unfold InR; omega)) (fun c_136 => ?_) (fun c_136 => ?_)
                      · refine P_aload_n (pc := 148) dX6_event_148 rfl 1 rfl ?_
                        refine P_iload_n (pc := 149) dX6_event_149 rfl 2 rfl ?_
                        refine P_iload_n (pc := 150) dX6_event_150 rfl 3 rfl ?_
                        refine P_iload_n (pc := 151) dX6_event_151 rfl 4 rfl ?_
                        refine P_iload (pc := 152) dX6_event_152 5 rfl ?_
                        refine P_iload (pc := 154) dX6_event_154 6 rfl ?_
                        refine P_callVi (Y' := mX6_happens) (as := [_, _, _, _, _]) (pc := 156) dX6_event_156 rfl (by decide : 1 < 2) sM_0 rfl ml_RX6_135 im_X6_happens se_X6_happens mk_X6_happens (Nat.le_of_ble_eq_true rfl) (c_X6_happens (by omega) hk) (fun z_ μ_ hq => ?_)
                        obtain ⟨rfl, hμ_⟩ := hq
                        have hμ_ := hμ_.symm
                        subst hμ_
                        try simp (disch := decide) only [putI_ne, putI_self]
                        exact P_iret (pc := 159) dX6_event_159 rfl (QI.mk (by first | (exfalso; omega) | (have hwy : whyE μ.1 h k a b u = -2 := (by unfold whyE; grind); rw [hwy]; exact ⟨rfl, rfl⟩) | (have hwy : whyE μ.1 h k a b u = -1 := (by unfold whyE; grind); rw [hwy]; exact ⟨rfl, rfl⟩) | (have hwy : whyE μ.1 h k a b u = -4 := (by unfold whyE; grind); rw [hwy]; exact ⟨rfl, rfl⟩) | (have hwy : whyE μ.1 h k a b u = -6 := (by unfold whyE; grind); rw [hwy]; exact ⟨rfl, rfl⟩) | (have hwy : whyE μ.1 h k a b u = 0 := (by unfold whyE; grind); rw [hwy]; exact ⟨rfl, rfl⟩)))
                      · refine P_aload_n (pc := 139) dX6_event_139 rfl 1 rfl ?_
                        refine P_iload (pc := 140) dX6_event_140 0 rfl ?_
                        refine P_callVi (Y' := mX6_no) (as := [_]) (pc := 142) dX6_event_142 rfl (by decide : 0 < 2) sM_0 rfl ml_RX6_109 im_X6_no se_X6_no mk_X6_no (Nat.le_of_ble_eq_true rfl) (c_X6_no (by omega)) (fun z_ μ_ hq => ?_)
                        obtain ⟨rfl, hμ_⟩ := hq
                        have hμ_ := hμ_.symm
                        subst hμ_
                        try simp (disch := decide) only [putI_ne, putI_self]
                        refine P_goto (tgt := 159) (pc := 145) dX6_event_145 (by decide) ?_
                        exact P_iret (pc := 159) dX6_event_159 rfl (QI.mk (by first | (exfalso; omega) | (have hwy : whyE μ.1 h k a b u = -2 := (by unfold whyE; grind); rw [hwy]; exact ⟨rfl, rfl⟩) | (have hwy : whyE μ.1 h k a b u = -1 := (by unfold whyE; grind); rw [hwy]; exact ⟨rfl, rfl⟩) | (have hwy : whyE μ.1 h k a b u = -4 := (by unfold whyE; grind); rw [hwy]; exact ⟨rfl, rfl⟩) | (have hwy : whyE μ.1 h k a b u = -6 := (by unfold whyE; grind); rw [hwy]; exact ⟨rfl, rfl⟩) | (have hwy : whyE μ.1 h k a b u = 0 := (by unfold whyE; grind); rw [hwy]; exact ⟨rfl, rfl⟩)))
                    · refine P_iload_n (pc := 86) dX6_event_86 rfl 2 rfl ?_
                      refine P_bipush (pc := 87) dX6_event_87 (by decide) ?_
                      refine P_icmp_ne (tgt := 98) (pc := 89) dX6_event_89 (by decide) (by first | assumption | (unfold InR; omega)) (by first | assumption | (unfold InR; omega)) (fun c_89 => ?_) (fun c_89 => ?_)
                      · refine P_iload (pc := 98) dX6_event_98 5 rfl ?_
                        refine P_bipush (pc := 100) dX6_event_100 (by decide) ?_
                        refine P_bipush (pc := 102) dX6_event_102 (by decide) ?_
                        refine P_callSi (Y' := mX6_isIn) (as := [_, _, _]) (pc := 104) dX6_event_104 rfl (by decide : 0 < 2) ml_RX6_105 sm_X6_isIn mk_X6_isIn (Nat.le_of_ble_eq_true rfl) (c_X6_isIn (by first | assumption | (unfold InR; omega)) (by unfold InR; omega) (by unfold InR; omega)) (fun z_ μ_ hq => ?_)
                        obtain ⟨hz, hμ_⟩ := hq
                        have hμ_ := hμ_.symm
                        subst hμ_
                        have hz : z_ = 0 ∧ ¬ (6 ≤ u ∧ u ≤ 9) ∨ z_ = 1 ∧ (6 ≤ u ∧ u ≤ 9) := by rw [hz]; split <;> omega
                        try simp (disch := decide) only [putI_ne, putI_self]
                        refine P_if_ne (tgt := 126) (pc := 107) dX6_event_107 (by decide) (by first | assumption | (unfold InR; omega)) (fun c_107 => ?_) (fun c_107 => ?_)
                        · refine P_bipush (pc := 126) dX6_event_126 (by decide) ?_
                          refine P_goto (tgt := 132) (pc := 128) dX6_event_128 (by decide) ?_
                          refine P_istore (L' := [(6, vi _), (0, vr 0), (1, vi _), (2, vi _), (3, vi _), (4, vi _), (5, vi _)]) (pc := 132) dX6_event_132 (by decide) rfl ?_
                          refine P_iload (pc := 134) dX6_event_134 0 rfl ?_
                          refine P_if_eq (tgt := 148) (pc := 136) dX6_event_136 (by decide) (by first | assumption | (unfold InR; omega)) (fun c_136 => ?_) (fun c_136 => ?_)
                          · refine P_aload_n (pc := 148) dX6_event_148 rfl 1 rfl ?_
                            refine P_iload_n (pc := 149) dX6_event_149 rfl 2 rfl ?_
                            refine P_iload_n (pc := 150) dX6_event_150 rfl 3 rfl ?_
                            refine P_iload_n (pc := 151) dX6_event_151 rfl 4 rfl ?_
                            refine P_iload (pc := 152) dX6_event_152 5 rfl ?_
                            refine P_iload (pc := 154) dX6_event_154 6 rfl ?_
                            refine P_callVi (Y' := mX6_happens) (as := [_, _, _, _, _]) (pc := 156) dX6_event_156 rfl (by decide : 1 < 2) sM_0 rfl ml_RX6_135 im_X6_happens se_X6_happens mk_X6_happens (Nat.le_of_ble_eq_true rfl) (c_X6_happens (by omega) hk) (fun z_ μ_ hq => ?_)
                            obtain ⟨rfl, hμ_⟩ := hq
                            have hμ_ := hμ_.symm
                            subst hμ_
                            try simp (disch := decide) only [putI_ne, putI_self]
                            exact P_iret (pc := 159) dX6_event_159 rfl (QI.mk (by first | (exfalso; omega) | (have hwy : whyE μ.1 h k a b u = -2 := (by unfold whyE; grind); rw [hwy]; exact ⟨rfl, rfl⟩) | (have hwy : whyE μ.1 h k a b u = -1 := (by unfold whyE; grind); rw [hwy]; exact ⟨rfl, rfl⟩) | (have hwy : whyE μ.1 h k a b u = -4 := (by unfold whyE; grind); rw [hwy]; exact ⟨rfl, rfl⟩) | (have hwy : whyE μ.1 h k a b u = -6 := (by unfold whyE; grind); rw [hwy]; exact ⟨rfl, rfl⟩) | (have hwy : whyE μ.1 h k a b u = 0 := (by unfold whyE; grind); rw [hwy]; exact ⟨rfl, rfl⟩)))
                          · refine P_aload_n (pc := 139) dX6_event_139 rfl 1 rfl ?_
                            refine P_iload (pc := 140) dX6_event_140 0 rfl ?_
                            refine P_callVi (Y' := mX6_no) (as := [_]) (pc := 142) dX6_event_142 rfl (by decide : 0 < 2) sM_0 rfl ml_RX6_109 im_X6_no se_X6_no mk_X6_no (Nat.le_of_ble_eq_true rfl) (c_X6_no (by omega)) (fun z_ μ_ hq => ?_)
                            obtain ⟨rfl, hμ_⟩ := hq
                            have hμ_ := hμ_.symm
                            subst hμ_
                            try simp (disch := decide) only [putI_ne, putI_self]
                            refine P_goto (tgt := 159) (pc := 145) dX6_event_145 (by decide) ?_
                            exact P_iret (pc := 159) dX6_event_159 rfl (QI.mk (by first | (exfalso; omega) | (have hwy : whyE μ.1 h k a b u = -2 := (by unfold whyE; grind); rw [hwy]; exact ⟨rfl, rfl⟩) | (have hwy : whyE μ.1 h k a b u = -1 := (by unfold whyE; grind); rw [hwy]; exact ⟨rfl, rfl⟩) | (have hwy : whyE μ.1 h k a b u = -4 := (by unfold whyE; grind); rw [hwy]; exact ⟨rfl, rfl⟩) | (have hwy : whyE μ.1 h k a b u = -6 := (by unfold whyE; grind); rw [hwy]; exact ⟨rfl, rfl⟩) | (have hwy : whyE μ.1 h k a b u = 0 := (by unfold whyE; grind); rw [hwy]; exact ⟨rfl, rfl⟩)))
                        · refine P_iload (pc := 110) dX6_event_110 5 rfl ?_
                          refine P_bipush (pc := 112) dX6_event_112 (by decide) ?_
                          refine P_icmp_gt (tgt := 126) (pc := 114) dX6_event_114 (by decide) (by first | assumption | (unfold InR; omega)) (by first | assumption | (unfold InR; omega)) (fun c_114 => ?_) (fun c_114 => ?_)
                          · refine P_bipush (pc := 126) dX6_event_126 (by decide) ?_
                            refine P_goto (tgt := 132) (pc := 128) dX6_event_128 (by decide) ?_
                            refine P_istore (L' := [(6, vi _), (0, vr 0), (1, vi _), (2, vi _), (3, vi _), (4, vi _), (5, vi _)]) (pc := 132) dX6_event_132 (by decide) rfl ?_
                            refine P_iload (pc := 134) dX6_event_134 0 rfl ?_
                            refine P_if_eq (tgt := 148) (pc := 136) dX6_event_136 (by decide) (by first | assumption | (unfold InR; omega)) (fun c_136 => ?_) (fun c_136 => ?_)
                            · refine P_aload_n (pc := 148) dX6_event_148 rfl 1 rfl ?_
                              refine P_iload_n (pc := 149) dX6_event_149 rfl 2 rfl ?_
                              refine P_iload_n (pc := 150) dX6_event_150 rfl 3 rfl ?_
                              refine P_iload_n (pc := 151) dX6_event_151 rfl 4 rfl ?_
                              refine P_iload (pc := 152) dX6_event_152 5 rfl ?_
                              refine P_iload (pc := 154) dX6_event_154 6 rfl ?_
                              refine P_callVi (Y' := mX6_happens) (as := [_, _, _, _, _]) (pc := 156) dX6_event_156 rfl (by decide : 1 < 2) sM_0 rfl ml_RX6_135 im_X6_happens se_X6_happens mk_X6_happens (Nat.le_of_ble_eq_true rfl) (c_X6_happens (by omega) hk) (fun z_ μ_ hq => ?_)
                              obtain ⟨rfl, hμ_⟩ := hq
                              have hμ_ := hμ_.symm
                              subst hμ_
                              try simp (disch := decide) only [putI_ne, putI_self]
                              exact P_iret (pc := 159) dX6_event_159 rfl (QI.mk (by first | (exfalso; omega) | (have hwy : whyE μ.1 h k a b u = -2 := (by unfold whyE; grind); rw [hwy]; exact ⟨rfl, rfl⟩) | (have hwy : whyE μ.1 h k a b u = -1 := (by unfold whyE; grind); rw [hwy]; exact ⟨rfl, rfl⟩) | (have hwy : whyE μ.1 h k a b u = -4 := (by unfold whyE; grind); rw [hwy]; exact ⟨rfl, rfl⟩) | (have hwy : whyE μ.1 h k a b u = -6 := (by unfold whyE; grind); rw [hwy]; exact ⟨rfl, rfl⟩) | (have hwy : whyE μ.1 h k a b u = 0 := (by unfold whyE; grind); rw [hwy]; exact ⟨rfl, rfl⟩)))
                            · refine P_aload_n (pc := 139) dX6_event_139 rfl 1 rfl ?_
                              refine P_iload (pc := 140) dX6_event_140 0 rfl ?_
                              refine P_callVi (Y' := mX6_no) (as := [_]) (pc := 142) dX6_event_142 rfl (by decide : 0 < 2) sM_0 rfl ml_RX6_109 im_X6_no se_X6_no mk_X6_no (Nat.le_of_ble_eq_true rfl) (c_X6_no (by omega)) (fun z_ μ_ hq => ?_)
                              obtain ⟨rfl, hμ_⟩ := hq
                              have hμ_ := hμ_.symm
                              subst hμ_
                              try simp (disch := decide) only [putI_ne, putI_self]
                              refine P_goto (tgt := 159) (pc := 145) dX6_event_145 (by decide) ?_
                              exact P_iret (pc := 159) dX6_event_159 rfl (QI.mk (by first | (exfalso; omega) | (have hwy : whyE μ.1 h k a b u = -2 := (by unfold whyE; grind); rw [hwy]; exact ⟨rfl, rfl⟩) | (have hwy : whyE μ.1 h k a b u = -1 := (by unfold whyE; grind); rw [hwy]; exact ⟨rfl, rfl⟩) | (have hwy : whyE μ.1 h k a b u = -4 := (by unfold whyE; grind); rw [hwy]; exact ⟨rfl, rfl⟩) | (have hwy : whyE μ.1 h k a b u = -6 := (by unfold whyE; grind); rw [hwy]; exact ⟨rfl, rfl⟩) | (have hwy : whyE μ.1 h k a b u = 0 := (by unfold whyE; grind); rw [hwy]; exact ⟨rfl, rfl⟩)))
                          · refine P_aload_n (pc := 117) dX6_event_117 rfl 0 rfl ?_
                            refine P_getI (jj := 12) (pc := 118) dX6_event_118 fa_RX6_125 sM_0 fM0_12 rfl ?_
                            try simp (disch := decide) only [putI_ne, putI_self]
                            refine P_bipush (pc := 121) dX6_event_121 (by decide) ?_
                            refine P_icmp_ne (tgt := 131) (pc := 123) dX6_event_123 (by decide) (by first | assumption | (unfold InR; omega)) (by first | assumption | (unfold InR; omega)) (fun c_123 => ?_) (fun c_123 => ?_)
                            · refine P_iconst (pc := 131) dX6_event_131 ?_
                              refine P_istore (L' := [(6, vi _), (0, vr 0), (1, vi _), (2, vi _), (3, vi _), (4, vi _), (5, vi _)]) (pc := 132) dX6_event_132 (by decide) rfl ?_
                              refine P_iload (pc := 134) dX6_event_134 0 rfl ?_
                              refine P_if_eq (tgt := 148) (pc := 136) dX6_event_136 (by decide) (by first | assumption | (unfold InR; omega)) (fun c_136 => ?_) (fun c_136 => ?_)
                              · refine P_aload_n (pc := 148) dX6_event_148 rfl 1 rfl ?_
                                refine P_iload_n (pc := 149) dX6_event_149 rfl 2 rfl ?_
                                refine P_iload_n (pc := 150) dX6_event_150 rfl 3 rfl ?_
                                refine P_iload_n (pc := 151) dX6_event_151 rfl 4 rfl ?_
                                refine P_iload (pc := 152) dX6_event_152 5 rfl ?_
                                refine P_iload (pc := 154) dX6_event_154 6 rfl ?_
                                refine P_callVi (Y' := mX6_happens) (as := [_, _, _, _, _]) (pc := 156) dX6_event_156 rfl (by decide : 1 < 2) sM_0 rfl ml_RX6_135 im_X6_happens se_X6_happens mk_X6_happens (Nat.le_of_ble_eq_true rfl) (c_X6_happens (by omega) hk) (fun z_ μ_ hq => ?_)
                                obtain ⟨rfl, hμ_⟩ := hq
                                have hμ_ := hμ_.symm
                                subst hμ_
                                try simp (disch := decide) only [putI_ne, putI_self]
                                exact P_iret (pc := 159) dX6_event_159 rfl (QI.mk (by first | (exfalso; omega) | (have hwy : whyE μ.1 h k a b u = -2 := (by unfold whyE; grind); rw [hwy]; exact ⟨rfl, rfl⟩) | (have hwy : whyE μ.1 h k a b u = -1 := (by unfold whyE; grind); rw [hwy]; exact ⟨rfl, rfl⟩) | (have hwy : whyE μ.1 h k a b u = -4 := (by unfold whyE; grind); rw [hwy]; exact ⟨rfl, rfl⟩) | (have hwy : whyE μ.1 h k a b u = -6 := (by unfold whyE; grind); rw [hwy]; exact ⟨rfl, rfl⟩) | (have hwy : whyE μ.1 h k a b u = 0 := (by unfold whyE; grind); rw [hwy]; exact ⟨rfl, rfl⟩)))
                              · refine P_aload_n (pc := 139) dX6_event_139 rfl 1 rfl ?_
                                refine P_iload (pc := 140) dX6_event_140 0 rfl ?_
                                refine P_callVi (Y' := mX6_no) (as := [_]) (pc := 142) dX6_event_142 rfl (by decide : 0 < 2) sM_0 rfl ml_RX6_109 im_X6_no se_X6_no mk_X6_no (Nat.le_of_ble_eq_true rfl) (c_X6_no (by omega)) (fun z_ μ_ hq => ?_)
                                obtain ⟨rfl, hμ_⟩ := hq
                                have hμ_ := hμ_.symm
                                subst hμ_
                                try simp (disch := decide) only [putI_ne, putI_self]
                                refine P_goto (tgt := 159) (pc := 145) dX6_event_145 (by decide) ?_
                                exact P_iret (pc := 159) dX6_event_159 rfl (QI.mk (by first | (exfalso; omega) | (have hwy : whyE μ.1 h k a b u = -2 := (by unfold whyE; grind); rw [hwy]; exact ⟨rfl, rfl⟩) | (have hwy : whyE μ.1 h k a b u = -1 := (by unfold whyE; grind); rw [hwy]; exact ⟨rfl, rfl⟩) | (have hwy : whyE μ.1 h k a b u = -4 := (by unfold whyE; grind); rw [hwy]; exact ⟨rfl, rfl⟩) | (have hwy : whyE μ.1 h k a b u = -6 := (by unfold whyE; grind); rw [hwy]; exact ⟨rfl, rfl⟩) | (have hwy : whyE μ.1 h k a b u = 0 := (by unfold whyE; grind); rw [hwy]; exact ⟨rfl, rfl⟩)))
                            · refine P_bipush (pc := 126) dX6_event_126 (by decide) ?_
                              refine P_goto (tgt := 132) (pc := 128) dX6_event_128 (by decide) ?_
                              refine P_istore (L' := [(6, vi _), (0, vr 0), (1, vi _), (2, vi _), (3, vi _), (4, vi _), (5, vi _)]) (pc := 132) dX6_event_132 (by decide) rfl ?_
                              refine P_iload (pc := 134) dX6_event_134 0 rfl ?_
                              refine P_if_eq (tgt := 148) (pc := 136) dX6_event_136 (by decide) (by first | assumption | (unfold InR; omega)) (fun c_136 => ?_) (fun c_136 => ?_)
                              · refine P_aload_n (pc := 148) dX6_event_148 rfl 1 rfl ?_
                                refine P_iload_n (pc := 149) dX6_event_149 rfl 2 rfl ?_
                                refine P_iload_n (pc := 150) dX6_event_150 rfl 3 rfl ?_
                                refine P_iload_n (pc := 151) dX6_event_151 rfl 4 rfl ?_
                                refine P_iload (pc := 152) dX6_event_152 5 rfl ?_
                                refine P_iload (pc := 154) dX6_event_154 6 rfl ?_
                                refine P_callVi (Y' := mX6_happens) (as := [_, _, _, _, _]) (pc := 156) dX6_event_156 rfl (by decide : 1 < 2) sM_0 rfl ml_RX6_135 im_X6_happens se_X6_happens mk_X6_happens (Nat.le_of_ble_eq_true rfl) (c_X6_happens (by omega) hk) (fun z_ μ_ hq => ?_)
                                obtain ⟨rfl, hμ_⟩ := hq
                                have hμ_ := hμ_.symm
                                subst hμ_
                                try simp (disch := decide) only [putI_ne, putI_self]
                                exact P_iret (pc := 159) dX6_event_159 rfl (QI.mk (by first | (exfalso; omega) | (have hwy : whyE μ.1 h k a b u = -2 := (by unfold whyE; grind); rw [hwy]; exact ⟨rfl, rfl⟩) | (have hwy : whyE μ.1 h k a b u = -1 := (by unfold whyE; grind); rw [hwy]; exact ⟨rfl, rfl⟩) | (have hwy : whyE μ.1 h k a b u = -4 := (by unfold whyE; grind); rw [hwy]; exact ⟨rfl, rfl⟩) | (have hwy : whyE μ.1 h k a b u = -6 := (by unfold whyE; grind); rw [hwy]; exact ⟨rfl, rfl⟩) | (have hwy : whyE μ.1 h k a b u = 0 := (by unfold whyE; grind); rw [hwy]; exact ⟨rfl, rfl⟩)))
                              · refine P_aload_n (pc := 139) dX6_event_139 rfl 1 rfl ?_
                                refine P_iload (pc := 140) dX6_event_140 0 rfl ?_
                                refine P_callVi (Y' := mX6_no) (as := [_]) (pc := 142) dX6_event_142 rfl (by decide : 0 < 2) sM_0 rfl ml_RX6_109 im_X6_no se_X6_no mk_X6_no (Nat.le_of_ble_eq_true rfl) (c_X6_no (by omega)) (fun z_ μ_ hq => ?_)
                                obtain ⟨rfl, hμ_⟩ := hq
                                have hμ_ := hμ_.symm
                                subst hμ_
                                try simp (disch := decide) only [putI_ne, putI_self]
                                refine P_goto (tgt := 159) (pc := 145) dX6_event_145 (by decide) ?_
                                exact P_iret (pc := 159) dX6_event_159 rfl (QI.mk (by first | (exfalso; omega) | (have hwy : whyE μ.1 h k a b u = -2 := (by unfold whyE; grind); rw [hwy]; exact ⟨rfl, rfl⟩) | (have hwy : whyE μ.1 h k a b u = -1 := (by unfold whyE; grind); rw [hwy]; exact ⟨rfl, rfl⟩) | (have hwy : whyE μ.1 h k a b u = -4 := (by unfold whyE; grind); rw [hwy]; exact ⟨rfl, rfl⟩) | (have hwy : whyE μ.1 h k a b u = -6 := (by unfold whyE; grind); rw [hwy]; exact ⟨rfl, rfl⟩) | (have hwy : whyE μ.1 h k a b u = 0 := (by unfold whyE; grind); rw [hwy]; exact ⟨rfl, rfl⟩)))
                      · refine P_iload (pc := 92) dX6_event_92 4 rfl ?_
                        refine P_iconst (pc := 94) dX6_event_94 ?_
                        refine P_icmp_gt (tgt := 126) (pc := 95) dX6_event_95 (by decide) (by first | assumption | (unfold InR; omega)) (by first | assumption | (unfold InR; omega)) (fun c_95 => ?_) (fun c_95 => ?_)
                        · refine P_bipush (pc := 126) dX6_event_126 (by decide) ?_
                          refine P_goto (tgt := 132) (pc := 128) dX6_event_128 (by decide) ?_
                          refine P_istore (L' := [(6, vi _), (0, vr 0), (1, vi _), (2, vi _), (3, vi _), (4, vi _), (5, vi _)]) (pc := 132) dX6_event_132 (by decide) rfl ?_
                          refine P_iload (pc := 134) dX6_event_134 0 rfl ?_
                          refine P_if_eq (tgt := 148) (pc := 136) dX6_event_136 (by decide) (by first | assumption | (unfold InR; omega)) (fun c_136 => ?_) (fun c_136 => ?_)
                          · refine P_aload_n (pc := 148) dX6_event_148 rfl 1 rfl ?_
                            refine P_iload_n (pc := 149) dX6_event_149 rfl 2 rfl ?_
                            refine P_iload_n (pc := 150) dX6_event_150 rfl 3 rfl ?_
                            refine P_iload_n (pc := 151) dX6_event_151 rfl 4 rfl ?_
                            refine P_iload (pc := 152) dX6_event_152 5 rfl ?_
                            refine P_iload (pc := 154) dX6_event_154 6 rfl ?_
                            refine P_callVi (Y' := mX6_happens) (as := [_, _, _, _, _]) (pc := 156) dX6_event_156 rfl (by decide : 1 < 2) sM_0 rfl ml_RX6_135 im_X6_happens se_X6_happens mk_X6_happens (Nat.le_of_ble_eq_true rfl) (c_X6_happens (by omega) hk) (fun z_ μ_ hq => ?_)
                            obtain ⟨rfl, hμ_⟩ := hq
                            have hμ_ := hμ_.symm
                            subst hμ_
                            try simp (disch := decide) only [putI_ne, putI_self]
                            exact P_iret (pc := 159) dX6_event_159 rfl (QI.mk (by first | (exfalso; omega) | (have hwy : whyE μ.1 h k a b u = -2 := (by unfold whyE; grind); rw [hwy]; exact ⟨rfl, rfl⟩) | (have hwy : whyE μ.1 h k a b u = -1 := (by unfold whyE; grind); rw [hwy]; exact ⟨rfl, rfl⟩) | (have hwy : whyE μ.1 h k a b u = -4 := (by unfold whyE; grind); rw [hwy]; exact ⟨rfl, rfl⟩) | (have hwy : whyE μ.1 h k a b u = -6 := (by unfold whyE; grind); rw [hwy]; exact ⟨rfl, rfl⟩) | (have hwy : whyE μ.1 h k a b u = 0 := (by unfold whyE; grind); rw [hwy]; exact ⟨rfl, rfl⟩)))
                          · refine P_aload_n (pc := 139) dX6_event_139 rfl 1 rfl ?_
                            refine P_iload (pc := 140) dX6_event_140 0 rfl ?_
                            refine P_callVi (Y' := mX6_no) (as := [_]) (pc := 142) dX6_event_142 rfl (by decide : 0 < 2) sM_0 rfl ml_RX6_109 im_X6_no se_X6_no mk_X6_no (Nat.le_of_ble_eq_true rfl) (c_X6_no (by omega)) (fun z_ μ_ hq => ?_)
                            obtain ⟨rfl, hμ_⟩ := hq
                            have hμ_ := hμ_.symm
                            subst hμ_
                            try simp (disch := decide) only [putI_ne, putI_self]
                            refine P_goto (tgt := 159) (pc := 145) dX6_event_145 (by decide) ?_
                            exact P_iret (pc := 159) dX6_event_159 rfl (QI.mk (by first | (exfalso; omega) | (have hwy : whyE μ.1 h k a b u = -2 := (by unfold whyE; grind); rw [hwy]; exact ⟨rfl, rfl⟩) | (have hwy : whyE μ.1 h k a b u = -1 := (by unfold whyE; grind); rw [hwy]; exact ⟨rfl, rfl⟩) | (have hwy : whyE μ.1 h k a b u = -4 := (by unfold whyE; grind); rw [hwy]; exact ⟨rfl, rfl⟩) | (have hwy : whyE μ.1 h k a b u = -6 := (by unfold whyE; grind); rw [hwy]; exact ⟨rfl, rfl⟩) | (have hwy : whyE μ.1 h k a b u = 0 := (by unfold whyE; grind); rw [hwy]; exact ⟨rfl, rfl⟩)))
                        · refine P_iload (pc := 98) dX6_event_98 5 rfl ?_
                          refine P_bipush (pc := 100) dX6_event_100 (by decide) ?_
                          refine P_bipush (pc := 102) dX6_event_102 (by decide) ?_
                          refine P_callSi (Y' := mX6_isIn) (as := [_, _, _]) (pc := 104) dX6_event_104 rfl (by decide : 0 < 2) ml_RX6_105 sm_X6_isIn mk_X6_isIn (Nat.le_of_ble_eq_true rfl) (c_X6_isIn (by first | assumption | (unfold InR; omega)) (by unfold InR; omega) (by unfold InR; omega)) (fun z_ μ_ hq => ?_)
                          obtain ⟨hz, hμ_⟩ := hq
                          have hμ_ := hμ_.symm
                          subst hμ_
                          have hz : z_ = 0 ∧ ¬ (6 ≤ u ∧ u ≤ 9) ∨ z_ = 1 ∧ (6 ≤ u ∧ u ≤ 9) := by rw [hz]; split <;> omega
                          try simp (disch := decide) only [putI_ne, putI_self]
                          refine P_if_ne (tgt := 126) (pc := 107) dX6_event_107 (by decide) (by first | assumption | (unfold InR; omega)) (fun c_107 => ?_) (fun c_107 => ?_)
                          · refine P_bipush (pc := 126) dX6_event_126 (by decide) ?_
                            refine P_goto (tgt := 132) (pc := 128) dX6_event_128 (by decide) ?_
                            refine P_istore (L' := [(6, vi _), (0, vr 0), (1, vi _), (2, vi _), (3, vi _), (4, vi _), (5, vi _)]) (pc := 132) dX6_event_132 (by decide) rfl ?_
                            refine P_iload (pc := 134) dX6_event_134 0 rfl ?_
                            refine P_if_eq (tgt := 148) (pc := 136) dX6_event_136 (by decide) (by first | assumption | (unfold InR; omega)) (fun c_136 => ?_) (fun c_136 => ?_)
                            · refine P_aload_n (pc := 148) dX6_event_148 rfl 1 rfl ?_
                              refine P_iload_n (pc := 149) dX6_event_149 rfl 2 rfl ?_
                              refine P_iload_n (pc := 150) dX6_event_150 rfl 3 rfl ?_
                              refine P_iload_n (pc := 151) dX6_event_151 rfl 4 rfl ?_
                              refine P_iload (pc := 152) dX6_event_152 5 rfl ?_
                              refine P_iload (pc := 154) dX6_event_154 6 rfl ?_
                              refine P_callVi (Y' := mX6_happens) (as := [_, _, _, _, _]) (pc := 156) dX6_event_156 rfl (by decide : 1 < 2) sM_0 rfl ml_RX6_135 im_X6_happens se_X6_happens mk_X6_happens (Nat.le_of_ble_eq_true rfl) (c_X6_happens (by omega) hk) (fun z_ μ_ hq => ?_)
                              obtain ⟨rfl, hμ_⟩ := hq
                              have hμ_ := hμ_.symm
                              subst hμ_
                              try simp (disch := decide) only [putI_ne, putI_self]
                              exact P_iret (pc := 159) dX6_event_159 rfl (QI.mk (by first | (exfalso; omega) | (have hwy : whyE μ.1 h k a b u = -2 := (by unfold whyE; grind); rw [hwy]; exact ⟨rfl, rfl⟩) | (have hwy : whyE μ.1 h k a b u = -1 := (by unfold whyE; grind); rw [hwy]; exact ⟨rfl, rfl⟩) | (have hwy : whyE μ.1 h k a b u = -4 := (by unfold whyE; grind); rw [hwy]; exact ⟨rfl, rfl⟩) | (have hwy : whyE μ.1 h k a b u = -6 := (by unfold whyE; grind); rw [hwy]; exact ⟨rfl, rfl⟩) | (have hwy : whyE μ.1 h k a b u = 0 := (by unfold whyE; grind); rw [hwy]; exact ⟨rfl, rfl⟩)))
                            · refine P_aload_n (pc := 139) dX6_event_139 rfl 1 rfl ?_
                              refine P_iload (pc := 140) dX6_event_140 0 rfl ?_
                              refine P_callVi (Y' := mX6_no) (as := [_]) (pc := 142) dX6_event_142 rfl (by decide : 0 < 2) sM_0 rfl ml_RX6_109 im_X6_no se_X6_no mk_X6_no (Nat.le_of_ble_eq_true rfl) (c_X6_no (by omega)) (fun z_ μ_ hq => ?_)
                              obtain ⟨rfl, hμ_⟩ := hq
                              have hμ_ := hμ_.symm
                              subst hμ_
                              try simp (disch := decide) only [putI_ne, putI_self]
                              refine P_goto (tgt := 159) (pc := 145) dX6_event_145 (by decide) ?_
                              exact P_iret (pc := 159) dX6_event_159 rfl (QI.mk (by first | (exfalso; omega) | (have hwy : whyE μ.1 h k a b u = -2 := (by unfold whyE; grind); rw [hwy]; exact ⟨rfl, rfl⟩) | (have hwy : whyE μ.1 h k a b u = -1 := (by unfold whyE; grind); rw [hwy]; exact ⟨rfl, rfl⟩) | (have hwy : whyE μ.1 h k a b u = -4 := (by unfold whyE; grind); rw [hwy]; exact ⟨rfl, rfl⟩) | (have hwy : whyE μ.1 h k a b u = -6 := (by unfold whyE; grind); rw [hwy]; exact ⟨rfl, rfl⟩) | (have hwy : whyE μ.1 h k a b u = 0 := (by unfold whyE; grind); rw [hwy]; exact ⟨rfl, rfl⟩)))
                          · refine P_iload (pc := 110) dX6_event_110 5 rfl ?_
                            refine P_bipush (pc := 112) dX6_event_112 (by decide) ?_
                            refine P_icmp_gt (tgt := 126) (pc := 114) dX6_event_114 (by decide) (by first | assumption | (unfold InR; omega)) (by first | assumption | (unfold InR; omega)) (fun c_114 => ?_) (fun c_114 => ?_)
                            · refine P_bipush (pc := 126) dX6_event_126 (by decide) ?_
                              refine P_goto (tgt := 132) (pc := 128) dX6_event_128 (by decide) ?_
                              refine P_istore (L' := [(6, vi _), (0, vr 0), (1, vi _), (2, vi _), (3, vi _), (4, vi _), (5, vi _)]) (pc := 132) dX6_event_132 (by decide) rfl ?_
                              refine P_iload (pc := 134) dX6_event_134 0 rfl ?_
                              refine P_if_eq (tgt := 148) (pc := 136) dX6_event_136 (by decide) (by first | assumption | (unfold InR; omega)) (fun c_136 => ?_) (fun c_136 => ?_)
                              · refine P_aload_n (pc := 148) dX6_event_148 rfl 1 rfl ?_
                                refine P_iload_n (pc := 149) dX6_event_149 rfl 2 rfl ?_
                                refine P_iload_n (pc := 150) dX6_event_150 rfl 3 rfl ?_
                                refine P_iload_n (pc := 151) dX6_event_151 rfl 4 rfl ?_
                                refine P_iload (pc := 152) dX6_event_152 5 rfl ?_
                                refine P_iload (pc := 154) dX6_event_154 6 rfl ?_
                                refine P_callVi (Y' := mX6_happens) (as := [_, _, _, _, _]) (pc := 156) dX6_event_156 rfl (by decide : 1 < 2) sM_0 rfl ml_RX6_135 im_X6_happens se_X6_happens mk_X6_happens (Nat.le_of_ble_eq_true rfl) (c_X6_happens (by omega) hk) (fun z_ μ_ hq => ?_)
                                obtain ⟨rfl, hμ_⟩ := hq
                                have hμ_ := hμ_.symm
                                subst hμ_
                                try simp (disch := decide) only [putI_ne, putI_self]
                                exact P_iret (pc := 159) dX6_event_159 rfl (QI.mk (by first | (exfalso; omega) | (have hwy : whyE μ.1 h k a b u = -2 := (by unfold whyE; grind); rw [hwy]; exact ⟨rfl, rfl⟩) | (have hwy : whyE μ.1 h k a b u = -1 := (by unfold whyE; grind); rw [hwy]; exact ⟨rfl, rfl⟩) | (have hwy : whyE μ.1 h k a b u = -4 := (by unfold whyE; grind); rw [hwy]; exact ⟨rfl, rfl⟩) | (have hwy : whyE μ.1 h k a b u = -6 := (by unfold whyE; grind); rw [hwy]; exact ⟨rfl, rfl⟩) | (have hwy : whyE μ.1 h k a b u = 0 := (by unfold whyE; grind); rw [hwy]; exact ⟨rfl, rfl⟩)))
                              · refine P_aload_n (pc := 139) dX6_event_139 rfl 1 rfl ?_
                                refine P_iload (pc := 140) dX6_event_140 0 rfl ?_
                                refine P_callVi (Y' := mX6_no) (as := [_]) (pc := 142) dX6_event_142 rfl (by decide : 0 < 2) sM_0 rfl ml_RX6_109 im_X6_no se_X6_no mk_X6_no (Nat.le_of_ble_eq_true rfl) (c_X6_no (by omega)) (fun z_ μ_ hq => ?_)
                                obtain ⟨rfl, hμ_⟩ := hq
                                have hμ_ := hμ_.symm
                                subst hμ_
                                try simp (disch := decide) only [putI_ne, putI_self]
                                refine P_goto (tgt := 159) (pc := 145) dX6_event_145 (by decide) ?_
                                exact P_iret (pc := 159) dX6_event_159 rfl (QI.mk (by first | (exfalso; omega) | (have hwy : whyE μ.1 h k a b u = -2 := (by unfold whyE; grind); rw [hwy]; exact ⟨rfl, rfl⟩) | (have hwy : whyE μ.1 h k a b u = -1 := (by unfold whyE; grind); rw [hwy]; exact ⟨rfl, rfl⟩) | (have hwy : whyE μ.1 h k a b u = -4 := (by unfold whyE; grind); rw [hwy]; exact ⟨rfl, rfl⟩) | (have hwy : whyE μ.1 h k a b u = -6 := (by unfold whyE; grind); rw [hwy]; exact ⟨rfl, rfl⟩) | (have hwy : whyE μ.1 h k a b u = 0 := (by unfold whyE; grind); rw [hwy]; exact ⟨rfl, rfl⟩)))
                            · refine P_aload_n (pc := 117) dX6_event_117 rfl 0 rfl ?_
                              refine P_getI (jj := 12) (pc := 118) dX6_event_118 fa_RX6_125 sM_0 fM0_12 rfl ?_
                              try simp (disch := decide) only [putI_ne, putI_self]
                              refine P_bipush (pc := 121) dX6_event_121 (by decide) ?_
                              refine P_icmp_ne (tgt := 131) (pc := 123) dX6_event_123 (by decide) (by first | assumption | (unfold InR; omega)) (by first | assumption | (unfold InR; omega)) (fun c_123 => ?_) (fun c_123 => ?_)
                              · refine P_iconst (pc := 131) dX6_event_131 ?_
                                refine P_istore (L' := [(6, vi _), (0, vr 0), (1, vi _), (2, vi _), (3, vi _), (4, vi _), (5, vi _)]) (pc := 132) dX6_event_132 (by decide) rfl ?_
                                refine P_iload (pc := 134) dX6_event_134 0 rfl ?_
                                refine P_if_eq (tgt := 148) (pc := 136) dX6_event_136 (by decide) (by first | assumption | (unfold InR; omega)) (fun c_136 => ?_) (fun c_136 => ?_)
                                · refine P_aload_n (pc := 148) dX6_event_148 rfl 1 rfl ?_
                                  refine P_iload_n (pc := 149) dX6_event_149 rfl 2 rfl ?_
                                  refine P_iload_n (pc := 150) dX6_event_150 rfl 3 rfl ?_
                                  refine P_iload_n (pc := 151) dX6_event_151 rfl 4 rfl ?_
                                  refine P_iload (pc := 152) dX6_event_152 5 rfl ?_
                                  refine P_iload (pc := 154) dX6_event_154 6 rfl ?_
                                  refine P_callVi (Y' := mX6_happens) (as := [_, _, _, _, _]) (pc := 156) dX6_event_156 rfl (by decide : 1 < 2) sM_0 rfl ml_RX6_135 im_X6_happens se_X6_happens mk_X6_happens (Nat.le_of_ble_eq_true rfl) (c_X6_happens (by omega) hk) (fun z_ μ_ hq => ?_)
                                  obtain ⟨rfl, hμ_⟩ := hq
                                  have hμ_ := hμ_.symm
                                  subst hμ_
                                  try simp (disch := decide) only [putI_ne, putI_self]
                                  exact P_iret (pc := 159) dX6_event_159 rfl (QI.mk (by first | (exfalso; omega) | (have hwy : whyE μ.1 h k a b u = -2 := (by unfold whyE; grind); rw [hwy]; exact ⟨rfl, rfl⟩) | (have hwy : whyE μ.1 h k a b u = -1 := (by unfold whyE; grind); rw [hwy]; exact ⟨rfl, rfl⟩) | (have hwy : whyE μ.1 h k a b u = -4 := (by unfold whyE; grind); rw [hwy]; exact ⟨rfl, rfl⟩) | (have hwy : whyE μ.1 h k a b u = -6 := (by unfold whyE; grind); rw [hwy]; exact ⟨rfl, rfl⟩) | (have hwy : whyE μ.1 h k a b u = 0 := (by unfold whyE; grind); rw [hwy]; exact ⟨rfl, rfl⟩)))
                                · refine P_aload_n (pc := 139) dX6_event_139 rfl 1 rfl ?_
                                  refine P_iload (pc := 140) dX6_event_140 0 rfl ?_
                                  refine P_callVi (Y' := mX6_no) (as := [_]) (pc := 142) dX6_event_142 rfl (by decide : 0 < 2) sM_0 rfl ml_RX6_109 im_X6_no se_X6_no mk_X6_no (Nat.le_of_ble_eq_true rfl) (c_X6_no (by omega)) (fun z_ μ_ hq => ?_)
                                  obtain ⟨rfl, hμ_⟩ := hq
                                  have hμ_ := hμ_.symm
                                  subst hμ_
                                  try simp (disch := decide) only [putI_ne, putI_self]
                                  refine P_goto (tgt := 159) (pc := 145) dX6_event_145 (by decide) ?_
                                  exact P_iret (pc := 159) dX6_event_159 rfl (QI.mk (by first | (exfalso; omega) | (have hwy : whyE μ.1 h k a b u = -2 := (by unfold whyE; grind); rw [hwy]; exact ⟨rfl, rfl⟩) | (have hwy : whyE μ.1 h k a b u = -1 := (by unfold whyE; grind); rw [hwy]; exact ⟨rfl, rfl⟩) | (have hwy : whyE μ.1 h k a b u = -4 := (by unfold whyE; grind); rw [hwy]; exact ⟨rfl, rfl⟩) | (have hwy : whyE μ.1 h k a b u = -6 := (by unfold whyE; grind); rw [hwy]; exact ⟨rfl, rfl⟩) | (have hwy : whyE μ.1 h k a b u = 0 := (by unfold whyE; grind); rw [hwy]; exact ⟨rfl, rfl⟩)))
                              · refine P_bipush (pc := 126) dX6_event_126 (by decide) ?_
                                refine P_goto (tgt := 132) (pc := 128) dX6_event_128 (by decide) ?_
                                refine P_istore (L' := [(6, vi _), (0, vr 0), (1, vi _), (2, vi _), (3, vi _), (4, vi _), (5, vi _)]) (pc := 132) dX6_event_132 (by decide) rfl ?_
                                refine P_iload (pc := 134) dX6_event_134 0 rfl ?_
                                refine P_if_eq (tgt := 148) (pc := 136) dX6_event_136 (by decide) (by first | assumption | (unfold InR; omega)) (fun c_136 => ?_) (fun c_136 => ?_)
                                · refine P_aload_n (pc := 148) dX6_event_148 rfl 1 rfl ?_
                                  refine P_iload_n (pc := 149) dX6_event_149 rfl 2 rfl ?_
                                  refine P_iload_n (pc := 150) dX6_event_150 rfl 3 rfl ?_
                                  refine P_iload_n (pc := 151) dX6_event_151 rfl 4 rfl ?_
                                  refine P_iload (pc := 152) dX6_event_152 5 rfl ?_
                                  refine P_iload (pc := 154) dX6_event_154 6 rfl ?_
                                  refine P_callVi (Y' := mX6_happens) (as := [_, _, _, _, _]) (pc := 156) dX6_event_156 rfl (by decide : 1 < 2) sM_0 rfl ml_RX6_135 im_X6_happens se_X6_happens mk_X6_happens (Nat.le_of_ble_eq_true rfl) (c_X6_happens (by omega) hk) (fun z_ μ_ hq => ?_)
                                  obtain ⟨rfl, hμ_⟩ := hq
                                  have hμ_ := hμ_.symm
                                  subst hμ_
                                  try simp (disch := decide) only [putI_ne, putI_self]
                                  exact P_iret (pc := 159) dX6_event_159 rfl (QI.mk (by first | (exfalso; omega) | (have hwy : whyE μ.1 h k a b u = -2 := (by unfold whyE; grind); rw [hwy]; exact ⟨rfl, rfl⟩) | (have hwy : whyE μ.1 h k a b u = -1 := (by unfold whyE; grind); rw [hwy]; exact ⟨rfl, rfl⟩) | (have hwy : whyE μ.1 h k a b u = -4 := (by unfold whyE; grind); rw [hwy]; exact ⟨rfl, rfl⟩) | (have hwy : whyE μ.1 h k a b u = -6 := (by unfold whyE; grind); rw [hwy]; exact ⟨rfl, rfl⟩) | (have hwy : whyE μ.1 h k a b u = 0 := (by unfold whyE; grind); rw [hwy]; exact ⟨rfl, rfl⟩)))
                                · refine P_aload_n (pc := 139) dX6_event_139 rfl 1 rfl ?_
                                  refine P_iload (pc := 140) dX6_event_140 0 rfl ?_
                                  refine P_callVi (Y' := mX6_no) (as := [_]) (pc := 142) dX6_event_142 rfl (by decide : 0 < 2) sM_0 rfl ml_RX6_109 im_X6_no se_X6_no mk_X6_no (Nat.le_of_ble_eq_true rfl) (c_X6_no (by omega)) (fun z_ μ_ hq => ?_)
                                  obtain ⟨rfl, hμ_⟩ := hq
                                  have hμ_ := hμ_.symm
                                  subst hμ_
                                  try simp (disch := decide) only [putI_ne, putI_self]
                                  refine P_goto (tgt := 159) (pc := 145) dX6_event_145 (by decide) ?_
                                  exact P_iret (pc := 159) dX6_event_159 rfl (QI.mk (by first | (exfalso; omega) | (have hwy : whyE μ.1 h k a b u = -2 := (by unfold whyE; grind); rw [hwy]; exact ⟨rfl, rfl⟩) | (have hwy : whyE μ.1 h k a b u = -1 := (by unfold whyE; grind); rw [hwy]; exact ⟨rfl, rfl⟩) | (have hwy : whyE μ.1 h k a b u = -4 := (by unfold whyE; grind); rw [hwy]; exact ⟨rfl, rfl⟩) | (have hwy : whyE μ.1 h k a b u = -6 := (by unfold whyE; grind); rw [hwy]; exact ⟨rfl, rfl⟩) | (have hwy : whyE μ.1 h k a b u = 0 := (by unfold whyE; grind); rw [hwy]; exact ⟨rfl, rfl⟩)))
                  · refine P_bipush (pc := 75) dX6_event_75 (by decide) ?_
                    refine P_goto (tgt := 132) (pc := 77) dX6_event_77 (by decide) ?_
                    refine P_istore (L' := [(6, vi _), (0, vr 0), (1, vi _), (2, vi _), (3, vi _), (4, vi _), (5, vi _)]) (pc := 132) dX6_event_132 (by decide) rfl ?_
                    refine P_iload (pc := 134) dX6_event_134 0 rfl ?_
                    refine P_if_eq (tgt := 148) (pc := 136) dX6_event_136 (by decide) (by first | assumption | (unfold InR; omega)) (fun c_136 => ?_) (fun c_136 => ?_)
                    · refine P_aload_n (pc := 148) dX6_event_148 rfl 1 rfl ?_
                      refine P_iload_n (pc := 149) dX6_event_149 rfl 2 rfl ?_
                      refine P_iload_n (pc := 150) dX6_event_150 rfl 3 rfl ?_
                      refine P_iload_n (pc := 151) dX6_event_151 rfl 4 rfl ?_
                      refine P_iload (pc := 152) dX6_event_152 5 rfl ?_
                      refine P_iload (pc := 154) dX6_event_154 6 rfl ?_
                      refine P_callVi (Y' := mX6_happens) (as := [_, _, _, _, _]) (pc := 156) dX6_event_156 rfl (by decide : 1 < 2) sM_0 rfl ml_RX6_135 im_X6_happens se_X6_happens mk_X6_happens (Nat.le_of_ble_eq_true rfl) (c_X6_happens (by omega) hk) (fun z_ μ_ hq => ?_)
                      obtain ⟨rfl, hμ_⟩ := hq
                      have hμ_ := hμ_.symm
                      subst hμ_
                      try simp (disch := decide) only [putI_ne, putI_self]
                      exact P_iret (pc := 159) dX6_event_159 rfl (QI.mk (by first | (exfalso; omega) | (have hwy : whyE μ.1 h k a b u = -2 := (by unfold whyE; grind); rw [hwy]; exact ⟨rfl, rfl⟩) | (have hwy : whyE μ.1 h k a b u = -1 := (by unfold whyE; grind); rw [hwy]; exact ⟨rfl, rfl⟩) | (have hwy : whyE μ.1 h k a b u = -4 := (by unfold whyE; grind); rw [hwy]; exact ⟨rfl, rfl⟩) | (have hwy : whyE μ.1 h k a b u = -6 := (by unfold whyE; grind); rw [hwy]; exact ⟨rfl, rfl⟩) | (have hwy : whyE μ.1 h k a b u = 0 := (by unfold whyE; grind); rw [hwy]; exact ⟨rfl, rfl⟩)))
                    · refine P_aload_n (pc := 139) dX6_event_139 rfl 1 rfl ?_
                      refine P_iload (pc := 140) dX6_event_140 0 rfl ?_
                      refine P_callVi (Y' := mX6_no) (as := [_]) (pc := 142) dX6_event_142 rfl (by decide : 0 < 2) sM_0 rfl ml_RX6_109 im_X6_no se_X6_no mk_X6_no (Nat.le_of_ble_eq_true rfl) (c_X6_no (by omega)) (fun z_ μ_ hq => ?_)
                      obtain ⟨rfl, hμ_⟩ := hq
                      have hμ_ := hμ_.symm
                      subst hμ_
                      try simp (disch := decide) only [putI_ne, putI_self]
                      refine P_goto (tgt := 159) (pc := 145) dX6_event_145 (by decide) ?_
                      exact P_iret (pc := 159) dX6_event_159 rfl (QI.mk (by first | (exfalso; omega) | (have hwy : whyE μ.1 h k a b u = -2 := (by unfold whyE; grind); rw [hwy]; exact ⟨rfl, rfl⟩) | (have hwy : whyE μ.1 h k a b u = -1 := (by unfold whyE; grind); rw [hwy]; exact ⟨rfl, rfl⟩) | (have hwy : whyE μ.1 h k a b u = -4 := (by unfold whyE; grind); rw [hwy]; exact ⟨rfl, rfl⟩) | (have hwy : whyE μ.1 h k a b u = -6 := (by unfold whyE; grind); rw [hwy]; exact ⟨rfl, rfl⟩) | (have hwy : whyE μ.1 h k a b u = 0 := (by unfold whyE; grind); rw [hwy]; exact ⟨rfl, rfl⟩)))
          · refine P_aload_n (pc := 47) dX6_event_47 rfl 0 rfl ?_
            refine P_iconst (pc := 48) dX6_event_48 ?_
            refine P_callVi (Y' := mX6_no) (as := [_]) (pc := 49) dX6_event_49 rfl (by decide : 0 < 2) sM_0 rfl ml_RX6_109 im_X6_no se_X6_no mk_X6_no (Nat.le_of_ble_eq_true rfl) (c_X6_no (by omega)) (fun z_ μ_ hq => ?_)
            obtain ⟨rfl, hμ_⟩ := hq
            have hμ_ := hμ_.symm
            subst hμ_
            try simp (disch := decide) only [putI_ne, putI_self]
            exact P_iret (pc := 52) dX6_event_52 rfl (QI.mk (by first | (exfalso; omega) | (have hwy : whyE μ.1 h k a b u = -2 := (by unfold whyE; grind); rw [hwy]; exact ⟨rfl, rfl⟩) | (have hwy : whyE μ.1 h k a b u = -1 := (by unfold whyE; grind); rw [hwy]; exact ⟨rfl, rfl⟩) | (have hwy : whyE μ.1 h k a b u = -4 := (by unfold whyE; grind); rw [hwy]; exact ⟨rfl, rfl⟩) | (have hwy : whyE μ.1 h k a b u = -6 := (by unfold whyE; grind); rw [hwy]; exact ⟨rfl, rfl⟩) | (have hwy : whyE μ.1 h k a b u = 0 := (by unfold whyE; grind); rw [hwy]; exact ⟨rfl, rfl⟩)))
  · refine P_aload_n (pc := 10) dX6_event_10 rfl 0 rfl ?_
    refine P_bipush (pc := 11) dX6_event_11 (by decide) ?_
    refine P_callVi (Y' := mX6_no) (as := [_]) (pc := 13) dX6_event_13 rfl (by decide : 0 < 2) sM_0 rfl ml_RX6_109 im_X6_no se_X6_no mk_X6_no (Nat.le_of_ble_eq_true rfl) (c_X6_no (by omega)) (fun z_ μ_ hq => ?_)
    obtain ⟨rfl, hμ_⟩ := hq
    have hμ_ := hμ_.symm
    subst hμ_
    try simp (disch := decide) only [putI_ne, putI_self]
    exact P_iret (pc := 16) dX6_event_16 rfl (QI.mk (by first | (exfalso; omega) | (have hwy : whyE μ.1 h k a b u = -2 := (by unfold whyE; grind); rw [hwy]; exact ⟨rfl, rfl⟩) | (have hwy : whyE μ.1 h k a b u = -1 := (by unfold whyE; grind); rw [hwy]; exact ⟨rfl, rfl⟩) | (have hwy : whyE μ.1 h k a b u = -4 := (by unfold whyE; grind); rw [hwy]; exact ⟨rfl, rfl⟩) | (have hwy : whyE μ.1 h k a b u = -6 := (by unfold whyE; grind); rw [hwy]; exact ⟨rfl, rfl⟩) | (have hwy : whyE μ.1 h k a b u = 0 := (by unfold whyE; grind); rw [hwy]; exact ⟨rfl, rfl⟩)))
set_option maxHeartbeats 1000000 in
set_option maxRecDepth 100000 in
theorem c_X6_of {μ : Mem} {e w : Int} (hE : 0 ≤ μ.1 0 12 ∧ μ.1 0 12 ≤ 60) (he : InR e) (hw : InR w) : PC shM 1 mX6_of [vr 0, vi e, vi w] (μ) (QI (fun z μ' => z = (if whyO μ.1 e w = 0 then μ.1 (if w = 0 then 7 else if w = 1 then 8 else if w = 2 then 9 else if w = 3 then 10 else 11) e else whyO μ.1 e w) ∧ μ' = (if whyO μ.1 e w = 0 then μ else refM μ (whyO μ.1 e w)))) := by
  refine PC.of (by decide +kernel) (Nat.le_of_ble_eq_true rfl) ?_
  refine P_sub (L' := [(0, vr 0), (1, vi e), (2, vi w)]) [0, 1, 2] rfl ?_
  skip
  refine P_iload_n (pc := 0) dX6_of_0 rfl 1 rfl ?_
  refine P_iconst (pc := 1) dX6_of_1 ?_
  refine P_aload_n (pc := 2) dX6_of_2 rfl 0 rfl ?_
  refine P_getI (jj := 12) (pc := 3) dX6_of_3 fa_RX6_125 sM_0 fM0_12 rfl ?_
  try simp (disch := decide) only [putI_ne, putI_self]
  refine P_iconst (pc := 6) dX6_of_6 ?_
  refine P_isub (pc := 7) dX6_of_7 ?_
  refine P_callSi (Y' := mX6_isIn) (as := [_, _, _]) (pc := 8) dX6_of_8 rfl (by decide : 0 < 1) ml_RX6_105 sm_X6_isIn mk_X6_isIn (Nat.le_of_ble_eq_true rfl) (c_X6_isIn he (by unfold InR; omega) (by unfold InR; omega)) (fun z_ μ_ hq => ?_)
  obtain ⟨hz, hμ_⟩ := hq
  have hμ_ := hμ_.symm
  subst hμ_
  have hz : z_ = 0 ∧ (e < 0 ∨ μ.1 0 12 ≤ e) ∨ z_ = 1 ∧ (0 ≤ e ∧ e < μ.1 0 12) := by rw [hz]; split <;> omega
  try simp (disch := decide) only [putI_ne, putI_self]
  refine P_if_ne (tgt := 20) (pc := 11) dX6_of_11 (by decide) (by first | assumption | (unfold InR; omega)) (fun c_11 => ?_) (fun c_11 => ?_)
  · refine P_iload_n (pc := 20) dX6_of_20 rfl 2 rfl ?_
    rcases (show w = 0 ∨ w = 1 ∨ w = 2 ∨ w = 3 ∨ w = 4 ∨ (w < 0 ∨ 4 < w) by omega) with rfl | rfl | rfl | rfl | rfl | h_sw
    · refine P_tableIn (tgt := 56) (pc := 21) dX6_of_21 (by first | assumption | (unfold InR; omega)) (by omega) (by omega) (by first | rfl | (rw [h_sw]; rfl)) (by decide) ?_
      refine P_aload_n (pc := 56) dX6_of_56 rfl 0 rfl ?_
      refine P_getR (pc := 57) dX6_of_57 fa_RX6_28 sM_0 fM0_6 ?_
      refine P_iload_n (pc := 60) dX6_of_60 rfl 1 rfl ?_
      refine P_iald (pc := 61) dX6_of_61 sM_7 (by omega) (by omega) (by decide) ?_
      try simp (disch := decide) only [putI_ne, putI_self]
      exact P_iret (pc := 62) dX6_of_62 rfl (QI.mk (by first | (exfalso; omega) | (have hwy : whyO μ.1 e w = -1 := (by unfold whyO; grind); rw [hwy]; exact ⟨rfl, rfl⟩) | (have hwy : whyO μ.1 e w = -2 := (by unfold whyO; grind); rw [hwy]; exact ⟨rfl, rfl⟩) | (have hwy : whyO μ.1 e 0 = 0 := (by unfold whyO; grind); rw [hwy]; exact ⟨rfl, rfl⟩) | (have hwy : whyO μ.1 e 1 = 0 := (by unfold whyO; grind); rw [hwy]; exact ⟨rfl, rfl⟩) | (have hwy : whyO μ.1 e 2 = 0 := (by unfold whyO; grind); rw [hwy]; exact ⟨rfl, rfl⟩) | (have hwy : whyO μ.1 e 3 = 0 := (by unfold whyO; grind); rw [hwy]; exact ⟨rfl, rfl⟩) | (have hwy : whyO μ.1 e 4 = 0 := (by unfold whyO; grind); rw [hwy]; exact ⟨rfl, rfl⟩)))
    · refine P_tableIn (tgt := 63) (pc := 21) dX6_of_21 (by first | assumption | (unfold InR; omega)) (by omega) (by omega) (by first | rfl | (rw [h_sw]; rfl)) (by decide) ?_
      refine P_aload_n (pc := 63) dX6_of_63 rfl 0 rfl ?_
      refine P_getR (pc := 64) dX6_of_64 fa_RX6_31 sM_0 fM0_7 ?_
      refine P_iload_n (pc := 67) dX6_of_67 rfl 1 rfl ?_
      refine P_iald (pc := 68) dX6_of_68 sM_8 (by omega) (by omega) (by decide) ?_
      try simp (disch := decide) only [putI_ne, putI_self]
      exact P_iret (pc := 69) dX6_of_69 rfl (QI.mk (by first | (exfalso; omega) | (have hwy : whyO μ.1 e w = -1 := (by unfold whyO; grind); rw [hwy]; exact ⟨rfl, rfl⟩) | (have hwy : whyO μ.1 e w = -2 := (by unfold whyO; grind); rw [hwy]; exact ⟨rfl, rfl⟩) | (have hwy : whyO μ.1 e 0 = 0 := (by unfold whyO; grind); rw [hwy]; exact ⟨rfl, rfl⟩) | (have hwy : whyO μ.1 e 1 = 0 := (by unfold whyO; grind); rw [hwy]; exact ⟨rfl, rfl⟩) | (have hwy : whyO μ.1 e 2 = 0 := (by unfold whyO; grind); rw [hwy]; exact ⟨rfl, rfl⟩) | (have hwy : whyO μ.1 e 3 = 0 := (by unfold whyO; grind); rw [hwy]; exact ⟨rfl, rfl⟩) | (have hwy : whyO μ.1 e 4 = 0 := (by unfold whyO; grind); rw [hwy]; exact ⟨rfl, rfl⟩)))
    · refine P_tableIn (tgt := 70) (pc := 21) dX6_of_21 (by first | assumption | (unfold InR; omega)) (by omega) (by omega) (by first | rfl | (rw [h_sw]; rfl)) (by decide) ?_
      refine P_aload_n (pc := 70) dX6_of_70 rfl 0 rfl ?_
      refine P_getR (pc := 71) dX6_of_71 fa_RX6_34 sM_0 fM0_8 ?_
      refine P_iload_n (pc := 74) dX6_of_74 rfl 1 rfl ?_
      refine P_iald (pc := 75) dX6_of_75 sM_9 (by omega) (by omega) (by decide) ?_
      try simp (disch := decide) only [putI_ne, putI_self]
      exact P_iret (pc := 76) dX6_of_76 rfl (QI.mk (by first | (exfalso; omega) | (have hwy : whyO μ.1 e w = -1 := (by unfold whyO; grind); rw [hwy]; exact ⟨rfl, rfl⟩) | (have hwy : whyO μ.1 e w = -2 := (by unfold whyO; grind); rw [hwy]; exact ⟨rfl, rfl⟩) | (have hwy : whyO μ.1 e 0 = 0 := (by unfold whyO; grind); rw [hwy]; exact ⟨rfl, rfl⟩) | (have hwy : whyO μ.1 e 1 = 0 := (by unfold whyO; grind); rw [hwy]; exact ⟨rfl, rfl⟩) | (have hwy : whyO μ.1 e 2 = 0 := (by unfold whyO; grind); rw [hwy]; exact ⟨rfl, rfl⟩) | (have hwy : whyO μ.1 e 3 = 0 := (by unfold whyO; grind); rw [hwy]; exact ⟨rfl, rfl⟩) | (have hwy : whyO μ.1 e 4 = 0 := (by unfold whyO; grind); rw [hwy]; exact ⟨rfl, rfl⟩)))
    · refine P_tableIn (tgt := 77) (pc := 21) dX6_of_21 (by first | assumption | (unfold InR; omega)) (by omega) (by omega) (by first | rfl | (rw [h_sw]; rfl)) (by decide) ?_
      refine P_aload_n (pc := 77) dX6_of_77 rfl 0 rfl ?_
      refine P_getR (pc := 78) dX6_of_78 fa_RX6_37 sM_0 fM0_9 ?_
      refine P_iload_n (pc := 81) dX6_of_81 rfl 1 rfl ?_
      refine P_iald (pc := 82) dX6_of_82 sM_10 (by omega) (by omega) (by decide) ?_
      try simp (disch := decide) only [putI_ne, putI_self]
      exact P_iret (pc := 83) dX6_of_83 rfl (QI.mk (by first | (exfalso; omega) | (have hwy : whyO μ.1 e w = -1 := (by unfold whyO; grind); rw [hwy]; exact ⟨rfl, rfl⟩) | (have hwy : whyO μ.1 e w = -2 := (by unfold whyO; grind); rw [hwy]; exact ⟨rfl, rfl⟩) | (have hwy : whyO μ.1 e 0 = 0 := (by unfold whyO; grind); rw [hwy]; exact ⟨rfl, rfl⟩) | (have hwy : whyO μ.1 e 1 = 0 := (by unfold whyO; grind); rw [hwy]; exact ⟨rfl, rfl⟩) | (have hwy : whyO μ.1 e 2 = 0 := (by unfold whyO; grind); rw [hwy]; exact ⟨rfl, rfl⟩) | (have hwy : whyO μ.1 e 3 = 0 := (by unfold whyO; grind); rw [hwy]; exact ⟨rfl, rfl⟩) | (have hwy : whyO μ.1 e 4 = 0 := (by unfold whyO; grind); rw [hwy]; exact ⟨rfl, rfl⟩)))
    · refine P_tableIn (tgt := 84) (pc := 21) dX6_of_21 (by first | assumption | (unfold InR; omega)) (by omega) (by omega) (by first | rfl | (rw [h_sw]; rfl)) (by decide) ?_
      refine P_aload_n (pc := 84) dX6_of_84 rfl 0 rfl ?_
      refine P_getR (pc := 85) dX6_of_85 fa_RX6_40 sM_0 fM0_10 ?_
      refine P_iload_n (pc := 88) dX6_of_88 rfl 1 rfl ?_
      refine P_iald (pc := 89) dX6_of_89 sM_11 (by omega) (by omega) (by decide) ?_
      try simp (disch := decide) only [putI_ne, putI_self]
      exact P_iret (pc := 90) dX6_of_90 rfl (QI.mk (by first | (exfalso; omega) | (have hwy : whyO μ.1 e w = -1 := (by unfold whyO; grind); rw [hwy]; exact ⟨rfl, rfl⟩) | (have hwy : whyO μ.1 e w = -2 := (by unfold whyO; grind); rw [hwy]; exact ⟨rfl, rfl⟩) | (have hwy : whyO μ.1 e 0 = 0 := (by unfold whyO; grind); rw [hwy]; exact ⟨rfl, rfl⟩) | (have hwy : whyO μ.1 e 1 = 0 := (by unfold whyO; grind); rw [hwy]; exact ⟨rfl, rfl⟩) | (have hwy : whyO μ.1 e 2 = 0 := (by unfold whyO; grind); rw [hwy]; exact ⟨rfl, rfl⟩) | (have hwy : whyO μ.1 e 3 = 0 := (by unfold whyO; grind); rw [hwy]; exact ⟨rfl, rfl⟩) | (have hwy : whyO μ.1 e 4 = 0 := (by unfold whyO; grind); rw [hwy]; exact ⟨rfl, rfl⟩)))
    · refine P_tableOut (tgt := 91) (pc := 21) dX6_of_21 (by first | assumption | (unfold InR; omega)) h_sw (by decide) ?_
      refine P_aload_n (pc := 91) dX6_of_91 rfl 0 rfl ?_
      refine P_bipush (pc := 92) dX6_of_92 (by decide) ?_
      refine P_callVi (Y' := mX6_no) (as := [_]) (pc := 94) dX6_of_94 rfl (by decide : 0 < 1) sM_0 rfl ml_RX6_109 im_X6_no se_X6_no mk_X6_no (Nat.le_of_ble_eq_true rfl) (c_X6_no (by omega)) (fun z_ μ_ hq => ?_)
      obtain ⟨rfl, hμ_⟩ := hq
      have hμ_ := hμ_.symm
      subst hμ_
      try simp (disch := decide) only [putI_ne, putI_self]
      exact P_iret (pc := 97) dX6_of_97 rfl (QI.mk (by first | (exfalso; omega) | (have hwy : whyO μ.1 e w = -1 := (by unfold whyO; grind); rw [hwy]; exact ⟨rfl, rfl⟩) | (have hwy : whyO μ.1 e w = -2 := (by unfold whyO; grind); rw [hwy]; exact ⟨rfl, rfl⟩) | (have hwy : whyO μ.1 e 0 = 0 := (by unfold whyO; grind); rw [hwy]; exact ⟨rfl, rfl⟩) | (have hwy : whyO μ.1 e 1 = 0 := (by unfold whyO; grind); rw [hwy]; exact ⟨rfl, rfl⟩) | (have hwy : whyO μ.1 e 2 = 0 := (by unfold whyO; grind); rw [hwy]; exact ⟨rfl, rfl⟩) | (have hwy : whyO μ.1 e 3 = 0 := (by unfold whyO; grind); rw [hwy]; exact ⟨rfl, rfl⟩) | (have hwy : whyO μ.1 e 4 = 0 := (by unfold whyO; grind); rw [hwy]; exact ⟨rfl, rfl⟩)))
  · refine P_aload_n (pc := 14) dX6_of_14 rfl 0 rfl ?_
    refine P_iconst (pc := 15) dX6_of_15 ?_
    refine P_callVi (Y' := mX6_no) (as := [_]) (pc := 16) dX6_of_16 rfl (by decide : 0 < 1) sM_0 rfl ml_RX6_109 im_X6_no se_X6_no mk_X6_no (Nat.le_of_ble_eq_true rfl) (c_X6_no (by omega)) (fun z_ μ_ hq => ?_)
    obtain ⟨rfl, hμ_⟩ := hq
    have hμ_ := hμ_.symm
    subst hμ_
    try simp (disch := decide) only [putI_ne, putI_self]
    exact P_iret (pc := 19) dX6_of_19 rfl (QI.mk (by first | (exfalso; omega) | (have hwy : whyO μ.1 e w = -1 := (by unfold whyO; grind); rw [hwy]; exact ⟨rfl, rfl⟩) | (have hwy : whyO μ.1 e w = -2 := (by unfold whyO; grind); rw [hwy]; exact ⟨rfl, rfl⟩) | (have hwy : whyO μ.1 e 0 = 0 := (by unfold whyO; grind); rw [hwy]; exact ⟨rfl, rfl⟩) | (have hwy : whyO μ.1 e 1 = 0 := (by unfold whyO; grind); rw [hwy]; exact ⟨rfl, rfl⟩) | (have hwy : whyO μ.1 e 2 = 0 := (by unfold whyO; grind); rw [hwy]; exact ⟨rfl, rfl⟩) | (have hwy : whyO μ.1 e 3 = 0 := (by unfold whyO; grind); rw [hwy]; exact ⟨rfl, rfl⟩) | (have hwy : whyO μ.1 e 4 = 0 := (by unfold whyO; grind); rw [hwy]; exact ⟨rfl, rfl⟩)))
set_option maxHeartbeats 1000000 in
set_option maxRecDepth 100000 in
theorem c_X6_takeBack {μ : Mem} (hE : 0 ≤ μ.1 0 12 ∧ μ.1 0 12 ≤ 60) : PC shM 1 mX6_takeBack [vr 0] (μ) (QI (fun z μ' => z = (if μ.1 0 12 = 0 then -3 else μ.1 0 12 - 1) ∧ μ' = (if μ.1 0 12 = 0 then refM μ (-3) else putI μ 0 12 (μ.1 0 12 - 1)))) := by
  refine PC.of (by decide +kernel) (Nat.le_of_ble_eq_true rfl) ?_
  refine P_sub (L' := [(0, vr 0)]) [0] rfl ?_
  skip
  refine P_aload_n (pc := 0) dX6_takeBack_0 rfl 0 rfl ?_
  refine P_getI (jj := 12) (pc := 1) dX6_takeBack_1 fa_RX6_125 sM_0 fM0_12 rfl ?_
  try simp (disch := decide) only [putI_ne, putI_self]
  refine P_if_ne (tgt := 14) (pc := 4) dX6_takeBack_4 (by decide) (by first | assumption | (unfold InR; omega)) (fun c_4 => ?_) (fun c_4 => ?_)
  · refine P_aload_n (pc := 14) dX6_takeBack_14 rfl 0 rfl ?_
    refine P_dup (pc := 15) dX6_takeBack_15 rfl ?_
    refine P_getI (jj := 12) (pc := 16) dX6_takeBack_16 fa_RX6_125 sM_0 fM0_12 rfl ?_
    try simp (disch := decide) only [putI_ne, putI_self]
    refine P_iconst (pc := 19) dX6_takeBack_19 ?_
    refine P_isub (pc := 20) dX6_takeBack_20 ?_
    refine P_putI (jj := 12) (pc := 21) dX6_takeBack_21 fa_RX6_125 fp_6_12 sM_0 fM0_12 rfl ?_
    try simp (disch := decide) only [putI_ne, putI_self]
    refine P_aload_n (pc := 24) dX6_takeBack_24 rfl 0 rfl ?_
    refine P_getI (jj := 12) (pc := 25) dX6_takeBack_25 fa_RX6_125 sM_0 fM0_12 rfl ?_
    try simp (disch := decide) only [putI_ne, putI_self]
    exact P_iret (pc := 28) dX6_takeBack_28 rfl (QI.mk (by first | (rw [if_pos (by omega), if_pos (by omega)]; exact ⟨rfl, rfl⟩) | (rw [if_neg (by omega), if_neg (by omega)]; exact ⟨rfl, rfl⟩)))
  · refine P_aload_n (pc := 7) dX6_takeBack_7 rfl 0 rfl ?_
    refine P_bipush (pc := 8) dX6_takeBack_8 (by decide) ?_
    refine P_callVi (Y' := mX6_no) (as := [_]) (pc := 10) dX6_takeBack_10 rfl (by decide : 0 < 1) sM_0 rfl ml_RX6_109 im_X6_no se_X6_no mk_X6_no (Nat.le_of_ble_eq_true rfl) (c_X6_no (by omega)) (fun z_ μ_ hq => ?_)
    obtain ⟨rfl, hμ_⟩ := hq
    have hμ_ := hμ_.symm
    subst hμ_
    try simp (disch := decide) only [putI_ne, putI_self]
    exact P_iret (pc := 13) dX6_takeBack_13 rfl (QI.mk (by first | (rw [if_pos (by omega), if_pos (by omega)]; exact ⟨rfl, rfl⟩) | (rw [if_neg (by omega), if_neg (by omega)]; exact ⟨rfl, rfl⟩)))
set_option maxHeartbeats 1000000 in
set_option maxRecDepth 100000 in
theorem c_X6_step {μ : Mem} {k a b : Int} (hT : 0 ≤ μ.1 0 11 ∧ μ.1 0 11 ≤ 12) (hS : 0 ≤ μ.1 0 37 ∧ μ.1 0 37 ≤ 5) (hk : InR k) (ha : InR a) (hb : InR b) : PC shM 1 mX6_step [vr 0, vi k, vi a, vi b] (μ) (QI (fun z μ' => z = (if whySt μ.1 k a b = 0 then μ.1 0 37 + 1 else whySt μ.1 k a b) ∧ μ' = (if whySt μ.1 k a b = 0 then stepM μ k a b else refM μ (whySt μ.1 k a b)))) := by
  refine PC.of (by decide +kernel) (Nat.le_of_ble_eq_true rfl) ?_
  refine P_sub (L' := [(0, vr 0), (1, vi k), (2, vi a), (3, vi b)]) [0, 1, 2, 3] rfl ?_
  have hn : InR (μ.1 0 11) := by unfold InR; omega
  refine P_iload_n (pc := 0) dX6_step_0 rfl 1 rfl ?_
  refine P_iconst (pc := 1) dX6_step_1 ?_
  refine P_iconst (pc := 2) dX6_step_2 ?_
  refine P_callSi (Y' := mX6_isIn) (as := [_, _, _]) (pc := 3) dX6_step_3 rfl (by decide : 0 < 1) ml_RX6_105 sm_X6_isIn mk_X6_isIn (Nat.le_of_ble_eq_true rfl) (c_X6_isIn (by first | assumption | (unfold InR; omega)) (by unfold InR; omega) (by unfold InR; omega)) (fun z_ μ_ hq => ?_)
  obtain ⟨hz, hμ_⟩ := hq
  have hμ_ := hμ_.symm
  subst hμ_
  have hz : z_ = 0 ∧ ¬ (0 ≤ k ∧ k ≤ 4) ∨ z_ = 1 ∧ (0 ≤ k ∧ k ≤ 4) := by rw [hz]; split <;> omega
  try simp (disch := decide) only [putI_ne, putI_self]
  refine P_if_ne (tgt := 16) (pc := 6) dX6_step_6 (by decide) (by first | assumption | (unfold InR; omega)) (fun c_6 => ?_) (fun c_6 => ?_)
  · refine P_aload_n (pc := 16) dX6_step_16 rfl 0 rfl ?_
    refine P_iload_n (pc := 17) dX6_step_17 rfl 2 rfl ?_
    refine P_callVi (Y' := mX6_isThing) (as := [_]) (pc := 18) dX6_step_18 rfl (by decide : 0 < 1) sM_0 rfl ml_RX6_132 im_X6_isThing se_X6_isThing mk_X6_isThing (Nat.le_of_ble_eq_true rfl) (c_X6_isThing (by first | assumption | (unfold InR; omega)) hn) (fun z_ μ_ hq => ?_)
    obtain ⟨hz, hμ_⟩ := hq
    have hμ_ := hμ_.symm
    subst hμ_
    have hz : z_ = 0 ∧ (a < 0 ∨ μ.1 0 11 ≤ a) ∨ z_ = 1 ∧ (0 ≤ a ∧ a < μ.1 0 11) := by rw [hz]; split <;> omega
    try simp (disch := decide) only [putI_ne, putI_self]
    refine P_if_eq (tgt := 37) (pc := 21) dX6_step_21 (by decide) (by first | assumption | (unfold InR; omega)) (fun c_21 => ?_) (fun c_21 => ?_)
    · refine P_aload_n (pc := 37) dX6_step_37 rfl 0 rfl ?_
      refine P_iconst (pc := 38) dX6_step_38 ?_
      refine P_callVi (Y' := mX6_no) (as := [_]) (pc := 39) dX6_step_39 rfl (by decide : 0 < 1) sM_0 rfl ml_RX6_109 im_X6_no se_X6_no mk_X6_no (Nat.le_of_ble_eq_true rfl) (c_X6_no (by omega)) (fun z_ μ_ hq => ?_)
      obtain ⟨rfl, hμ_⟩ := hq
      have hμ_ := hμ_.symm
      subst hμ_
      try simp (disch := decide) only [putI_ne, putI_self]
      exact P_iret (pc := 42) dX6_step_42 rfl (QI.mk (by first | (exfalso; omega) | (have hwy : whySt μ.1 k a b = -2 := (by unfold whySt; grind); rw [hwy]; exact ⟨rfl, rfl⟩) | (have hwy : whySt μ.1 k a b = -1 := (by unfold whySt; grind); rw [hwy]; exact ⟨rfl, rfl⟩) | (have hwy : whySt μ.1 k a b = -6 := (by unfold whySt; grind); rw [hwy]; exact ⟨rfl, rfl⟩) | (have hwy : whySt μ.1 k a b = 0 := (by unfold whySt; grind); rw [hwy]; exact ⟨rfl, rfl⟩)))
    · refine P_aload_n (pc := 24) dX6_step_24 rfl 0 rfl ?_
      refine P_iload_n (pc := 25) dX6_step_25 rfl 3 rfl ?_
      refine P_callVi (Y' := mX6_isThing) (as := [_]) (pc := 26) dX6_step_26 rfl (by decide : 0 < 1) sM_0 rfl ml_RX6_132 im_X6_isThing se_X6_isThing mk_X6_isThing (Nat.le_of_ble_eq_true rfl) (c_X6_isThing (by first | assumption | (unfold InR; omega)) hn) (fun z_ μ_ hq => ?_)
      obtain ⟨hz, hμ_⟩ := hq
      have hμ_ := hμ_.symm
      subst hμ_
      have hz : z_ = 0 ∧ (b < 0 ∨ μ.1 0 11 ≤ b) ∨ z_ = 1 ∧ (0 ≤ b ∧ b < μ.1 0 11) := by rw [hz]; split <;> omega
      try simp (disch := decide) only [putI_ne, putI_self]
      refine P_if_eq (tgt := 37) (pc := 29) dX6_step_29 (by decide) (by first | assumption | (unfold InR; omega)) (fun c_29 => ?_) (fun c_29 => ?_)
      · refine P_aload_n (pc := 37) dX6_step_37 rfl 0 rfl ?_
        refine P_iconst (pc := 38) dX6_step_38 ?_
        refine P_callVi (Y' := mX6_no) (as := [_]) (pc := 39) dX6_step_39 rfl (by decide : 0 < 1) sM_0 rfl ml_RX6_109 im_X6_no se_X6_no mk_X6_no (Nat.le_of_ble_eq_true rfl) (c_X6_no (by omega)) (fun z_ μ_ hq => ?_)
        obtain ⟨rfl, hμ_⟩ := hq
        have hμ_ := hμ_.symm
        subst hμ_
        try simp (disch := decide) only [putI_ne, putI_self]
        exact P_iret (pc := 42) dX6_step_42 rfl (QI.mk (by first | (exfalso; omega) | (have hwy : whySt μ.1 k a b = -2 := (by unfold whySt; grind); rw [hwy]; exact ⟨rfl, rfl⟩) | (have hwy : whySt μ.1 k a b = -1 := (by unfold whySt; grind); rw [hwy]; exact ⟨rfl, rfl⟩) | (have hwy : whySt μ.1 k a b = -6 := (by unfold whySt; grind); rw [hwy]; exact ⟨rfl, rfl⟩) | (have hwy : whySt μ.1 k a b = 0 := (by unfold whySt; grind); rw [hwy]; exact ⟨rfl, rfl⟩)))
      · refine P_iload_n (pc := 32) dX6_step_32 rfl 2 rfl ?_
        refine P_iload_n (pc := 33) dX6_step_33 rfl 3 rfl ?_
        refine P_icmp_ne (tgt := 43) (pc := 34) dX6_step_34 (by decide) (by first | assumption | (unfold InR; omega)) (by first | assumption | (unfold InR; omega)) (fun c_34 => ?_) (fun c_34 => ?_)
        · refine P_aload_n (pc := 43) dX6_step_43 rfl 0 rfl ?_
          refine P_getI (jj := 37) (pc := 44) dX6_step_44 fa_RX6_270 sM_0 fM0_37 rfl ?_
          try simp (disch := decide) only [putI_ne, putI_self]
          refine P_iconst (pc := 47) dX6_step_47 ?_
          refine P_icmp_ne (tgt := 58) (pc := 48) dX6_step_48 (by decide) (by first | assumption | (unfold InR; omega)) (by first | assumption | (unfold InR; omega)) (fun c_48 => ?_) (fun c_48 => ?_)
          · refine P_aload_n (pc := 58) dX6_step_58 rfl 0 rfl ?_
            refine P_getR (pc := 59) dX6_step_59 fa_RX6_83 sM_0 fM0_33 ?_
            refine P_aload_n (pc := 62) dX6_step_62 rfl 0 rfl ?_
            refine P_getI (jj := 37) (pc := 63) dX6_step_63 fa_RX6_270 sM_0 fM0_37 rfl ?_
            try simp (disch := decide) only [putI_ne, putI_self]
            refine P_iload_n (pc := 66) dX6_step_66 rfl 1 rfl ?_
            refine P_iast (pc := 67) dX6_step_67 sM_25 (by omega) (by omega) (by decide) ?_
            try simp (disch := decide) only [putI_ne, putI_self]
            refine P_aload_n (pc := 68) dX6_step_68 rfl 0 rfl ?_
            refine P_getR (pc := 69) dX6_step_69 fa_RX6_86 sM_0 fM0_34 ?_
            refine P_aload_n (pc := 72) dX6_step_72 rfl 0 rfl ?_
            refine P_getI (jj := 37) (pc := 73) dX6_step_73 fa_RX6_270 sM_0 fM0_37 rfl ?_
            try simp (disch := decide) only [putI_ne, putI_self]
            refine P_iload_n (pc := 76) dX6_step_76 rfl 2 rfl ?_
            refine P_iast (pc := 77) dX6_step_77 sM_26 (by omega) (by omega) (by decide) ?_
            try simp (disch := decide) only [putI_ne, putI_self]
            refine P_aload_n (pc := 78) dX6_step_78 rfl 0 rfl ?_
            refine P_getR (pc := 79) dX6_step_79 fa_RX6_89 sM_0 fM0_35 ?_
            refine P_aload_n (pc := 82) dX6_step_82 rfl 0 rfl ?_
            refine P_getI (jj := 37) (pc := 83) dX6_step_83 fa_RX6_270 sM_0 fM0_37 rfl ?_
            try simp (disch := decide) only [putI_ne, putI_self]
            refine P_iload_n (pc := 86) dX6_step_86 rfl 3 rfl ?_
            refine P_iast (pc := 87) dX6_step_87 sM_27 (by omega) (by omega) (by decide) ?_
            try simp (disch := decide) only [putI_ne, putI_self]
            refine P_aload_n (pc := 88) dX6_step_88 rfl 0 rfl ?_
            refine P_dup (pc := 89) dX6_step_89 rfl ?_
            refine P_getI (jj := 37) (pc := 90) dX6_step_90 fa_RX6_270 sM_0 fM0_37 rfl ?_
            try simp (disch := decide) only [putI_ne, putI_self]
            refine P_iconst (pc := 93) dX6_step_93 ?_
            refine P_iadd (pc := 94) dX6_step_94 ?_
            refine P_putI (jj := 37) (pc := 95) dX6_step_95 fa_RX6_270 fp_6_37 sM_0 fM0_37 rfl ?_
            try simp (disch := decide) only [putI_ne, putI_self]
            refine P_aload_n (pc := 98) dX6_step_98 rfl 0 rfl ?_
            refine P_getI (jj := 37) (pc := 99) dX6_step_99 fa_RX6_270 sM_0 fM0_37 rfl ?_
            try simp (disch := decide) only [putI_ne, putI_self]
            exact P_iret (pc := 102) dX6_step_102 rfl (QI.mk (by first | (exfalso; omega) | (have hwy : whySt μ.1 k a b = -2 := (by unfold whySt; grind); rw [hwy]; exact ⟨rfl, rfl⟩) | (have hwy : whySt μ.1 k a b = -1 := (by unfold whySt; grind); rw [hwy]; exact ⟨rfl, rfl⟩) | (have hwy : whySt μ.1 k a b = -6 := (by unfold whySt; grind); rw [hwy]; exact ⟨rfl, rfl⟩) | (have hwy : whySt μ.1 k a b = 0 := (by unfold whySt; grind); rw [hwy]; exact ⟨rfl, rfl⟩)))
          · refine P_aload_n (pc := 51) dX6_step_51 rfl 0 rfl ?_
            refine P_bipush (pc := 52) dX6_step_52 (by decide) ?_
            refine P_callVi (Y' := mX6_no) (as := [_]) (pc := 54) dX6_step_54 rfl (by decide : 0 < 1) sM_0 rfl ml_RX6_109 im_X6_no se_X6_no mk_X6_no (Nat.le_of_ble_eq_true rfl) (c_X6_no (by omega)) (fun z_ μ_ hq => ?_)
            obtain ⟨rfl, hμ_⟩ := hq
            have hμ_ := hμ_.symm
            subst hμ_
            try simp (disch := decide) only [putI_ne, putI_self]
            exact P_iret (pc := 57) dX6_step_57 rfl (QI.mk (by first | (exfalso; omega) | (have hwy : whySt μ.1 k a b = -2 := (by unfold whySt; grind); rw [hwy]; exact ⟨rfl, rfl⟩) | (have hwy : whySt μ.1 k a b = -1 := (by unfold whySt; grind); rw [hwy]; exact ⟨rfl, rfl⟩) | (have hwy : whySt μ.1 k a b = -6 := (by unfold whySt; grind); rw [hwy]; exact ⟨rfl, rfl⟩) | (have hwy : whySt μ.1 k a b = 0 := (by unfold whySt; grind); rw [hwy]; exact ⟨rfl, rfl⟩)))
        · refine P_aload_n (pc := 37) dX6_step_37 rfl 0 rfl ?_
          refine P_iconst (pc := 38) dX6_step_38 ?_
          refine P_callVi (Y' := mX6_no) (as := [_]) (pc := 39) dX6_step_39 rfl (by decide : 0 < 1) sM_0 rfl ml_RX6_109 im_X6_no se_X6_no mk_X6_no (Nat.le_of_ble_eq_true rfl) (c_X6_no (by omega)) (fun z_ μ_ hq => ?_)
          obtain ⟨rfl, hμ_⟩ := hq
          have hμ_ := hμ_.symm
          subst hμ_
          try simp (disch := decide) only [putI_ne, putI_self]
          exact P_iret (pc := 42) dX6_step_42 rfl (QI.mk (by first | (exfalso; omega) | (have hwy : whySt μ.1 k a b = -2 := (by unfold whySt; grind); rw [hwy]; exact ⟨rfl, rfl⟩) | (have hwy : whySt μ.1 k a b = -1 := (by unfold whySt; grind); rw [hwy]; exact ⟨rfl, rfl⟩) | (have hwy : whySt μ.1 k a b = -6 := (by unfold whySt; grind); rw [hwy]; exact ⟨rfl, rfl⟩) | (have hwy : whySt μ.1 k a b = 0 := (by unfold whySt; grind); rw [hwy]; exact ⟨rfl, rfl⟩)))
  · refine P_aload_n (pc := 9) dX6_step_9 rfl 0 rfl ?_
    refine P_bipush (pc := 10) dX6_step_10 (by decide) ?_
    refine P_callVi (Y' := mX6_no) (as := [_]) (pc := 12) dX6_step_12 rfl (by decide : 0 < 1) sM_0 rfl ml_RX6_109 im_X6_no se_X6_no mk_X6_no (Nat.le_of_ble_eq_true rfl) (c_X6_no (by omega)) (fun z_ μ_ hq => ?_)
    obtain ⟨rfl, hμ_⟩ := hq
    have hμ_ := hμ_.symm
    subst hμ_
    try simp (disch := decide) only [putI_ne, putI_self]
    exact P_iret (pc := 15) dX6_step_15 rfl (QI.mk (by first | (exfalso; omega) | (have hwy : whySt μ.1 k a b = -2 := (by unfold whySt; grind); rw [hwy]; exact ⟨rfl, rfl⟩) | (have hwy : whySt μ.1 k a b = -1 := (by unfold whySt; grind); rw [hwy]; exact ⟨rfl, rfl⟩) | (have hwy : whySt μ.1 k a b = -6 := (by unfold whySt; grind); rw [hwy]; exact ⟨rfl, rfl⟩) | (have hwy : whySt μ.1 k a b = 0 := (by unfold whySt; grind); rw [hwy]; exact ⟨rfl, rfl⟩)))
set_option maxHeartbeats 1000000 in
set_option maxRecDepth 100000 in
theorem c_X6_clear {μ : Mem}  : PC shM 0 mX6_clear [vr 0] (μ) (QI (fun z μ' => z = μ.1 0 37 ∧ μ' = putI μ 0 37 0)) := by
  refine PC.of (by decide +kernel) (Nat.le_of_ble_eq_true rfl) ?_
  refine P_sub (L' := [(0, vr 0)]) [0] rfl ?_
  skip
  refine P_aload_n (pc := 0) dX6_clear_0 rfl 0 rfl ?_
  refine P_getI (jj := 37) (pc := 1) dX6_clear_1 fa_RX6_270 sM_0 fM0_37 rfl ?_
  try simp (disch := decide) only [putI_ne, putI_self]
  refine P_istore_n (L' := [(1, vi _), (0, vr 0)]) (pc := 4) dX6_clear_4 rfl (by decide) rfl ?_
  refine P_aload_n (pc := 5) dX6_clear_5 rfl 1 rfl ?_
  refine P_iconst (pc := 6) dX6_clear_6 ?_
  refine P_putI (jj := 37) (pc := 7) dX6_clear_7 fa_RX6_270 fp_6_37 sM_0 fM0_37 rfl ?_
  try simp (disch := decide) only [putI_ne, putI_self]
  refine P_iload_n (pc := 10) dX6_clear_10 rfl 0 rfl ?_
  exact P_iret (pc := 11) dX6_clear_11 rfl (QI.mk (by exact ⟨rfl, rfl⟩))
set_option maxHeartbeats 1000000 in
set_option maxRecDepth 100000 in
theorem c_X6_forget {μ : Mem}  : PC shM 0 mX6_forget [vr 0] (μ) (QI (fun z μ' => z = μ.1 0 30 ∧ μ' = putI μ 0 30 0)) := by
  refine PC.of (by decide +kernel) (Nat.le_of_ble_eq_true rfl) ?_
  refine P_sub (L' := [(0, vr 0)]) [0] rfl ?_
  skip
  refine P_aload_n (pc := 0) dX6_forget_0 rfl 0 rfl ?_
  refine P_getI (jj := 30) (pc := 1) dX6_forget_1 fa_RX6_226 sM_0 fM0_30 rfl ?_
  try simp (disch := decide) only [putI_ne, putI_self]
  refine P_istore_n (L' := [(1, vi _), (0, vr 0)]) (pc := 4) dX6_forget_4 rfl (by decide) rfl ?_
  refine P_aload_n (pc := 5) dX6_forget_5 rfl 1 rfl ?_
  refine P_iconst (pc := 6) dX6_forget_6 ?_
  refine P_putI (jj := 30) (pc := 7) dX6_forget_7 fa_RX6_226 fp_6_30 sM_0 fM0_30 rfl ?_
  try simp (disch := decide) only [putI_ne, putI_self]
  refine P_iload_n (pc := 10) dX6_forget_10 rfl 0 rfl ?_
  exact P_iret (pc := 11) dX6_forget_11 rfl (QI.mk (by exact ⟨rfl, rfl⟩))
set_option maxHeartbeats 1000000 in
set_option maxRecDepth 100000 in
theorem c_X6_fact {μ : Mem} {t h c : Int} (hT : 0 ≤ μ.1 0 11 ∧ μ.1 0 11 ≤ 12) (hF : 0 ≤ μ.1 0 30 ∧ μ.1 0 30 ≤ 12) (ht : InR t) (hh : InR h) (hc : c = 0 ∨ c = 1) : PC shM 2 mX6_fact [vr 0, vi t, vi h, vi c] (μ) (QI (fun z μ' => z = (if whyF μ.1 t h = 0 then μ.1 0 30 + 1 else whyF μ.1 t h) ∧ μ' = (if whyF μ.1 t h = 0 then factM μ t h c else refM μ (whyF μ.1 t h)))) := by
  refine PC.of (by decide +kernel) (Nat.le_of_ble_eq_true rfl) ?_
  refine P_sub (L' := [(0, vr 0), (1, vi t), (2, vi h), (3, vi c)]) [0, 1, 2, 3] rfl ?_
  have hn : InR (μ.1 0 11) := by unfold InR; omega
  refine P_aload_n (pc := 0) dX6_fact_0 rfl 0 rfl ?_
  refine P_iload_n (pc := 1) dX6_fact_1 rfl 1 rfl ?_
  refine P_iload_n (pc := 2) dX6_fact_2 rfl 2 rfl ?_
  refine P_callVi (Y' := mX6_why) (as := [_, _]) (pc := 3) dX6_fact_3 rfl (by decide : 1 < 2) sM_0 rfl ml_RX6_245 im_X6_why se_X6_why mk_X6_why (Nat.le_of_ble_eq_true rfl) (c_X6_why ht hh hn) (fun z_ μ_ hq => ?_)
  obtain ⟨hz, hμ_⟩ := hq
  have hμ_ := hμ_.symm
  subst hμ_
  have hv := whyTH_v μ.1 t h
  rw [← hz] at hv
  have hv0 : z_ = 0 → _ := fun e => whyTH_0 (A := μ.1) (t := t) (h := h) (hz ▸ e)
  try simp (disch := decide) only [putI_ne, putI_self]
  refine P_istore (L' := [(4, vi _), (0, vr 0), (1, vi _), (2, vi _), (3, vi _)]) (pc := 6) dX6_fact_6 (by decide) rfl ?_
  refine P_iload (pc := 8) dX6_fact_8 0 rfl ?_
  refine P_if_ne (tgt := 26) (pc := 10) dX6_fact_10 (by decide) (by first | assumption | (unfold InR; omega)) (fun c_10 => ?_) (fun c_10 => ?_)
  · refine P_iload (pc := 26) dX6_fact_26 0 rfl ?_
    refine P_if_eq (tgt := 38) (pc := 28) dX6_fact_28 (by decide) (by first | assumption | (unfold InR; omega)) (fun c_28 => ?_) (fun c_28 => ?_)
    · refine P_aload_n (pc := 38) dX6_fact_38 rfl 1 rfl ?_
      refine P_getR (pc := 39) dX6_fact_39 fa_RX6_68 sM_0 fM0_26 ?_
      refine P_aload_n (pc := 42) dX6_fact_42 rfl 1 rfl ?_
      refine P_getI (jj := 30) (pc := 43) dX6_fact_43 fa_RX6_226 sM_0 fM0_30 rfl ?_
      try simp (disch := decide) only [putI_ne, putI_self]
      refine P_iload_n (pc := 46) dX6_fact_46 rfl 2 rfl ?_
      refine P_iast (pc := 47) dX6_fact_47 sM_20 (by omega) (by omega) (by decide) ?_
      try simp (disch := decide) only [putI_ne, putI_self]
      refine P_aload_n (pc := 48) dX6_fact_48 rfl 1 rfl ?_
      refine P_getR (pc := 49) dX6_fact_49 fa_RX6_71 sM_0 fM0_27 ?_
      refine P_aload_n (pc := 52) dX6_fact_52 rfl 1 rfl ?_
      refine P_getI (jj := 30) (pc := 53) dX6_fact_53 fa_RX6_226 sM_0 fM0_30 rfl ?_
      try simp (disch := decide) only [putI_ne, putI_self]
      refine P_iload_n (pc := 56) dX6_fact_56 rfl 3 rfl ?_
      refine P_iast (pc := 57) dX6_fact_57 sM_21 (by omega) (by omega) (by decide) ?_
      try simp (disch := decide) only [putI_ne, putI_self]
      refine P_aload_n (pc := 58) dX6_fact_58 rfl 1 rfl ?_
      refine P_getR (pc := 59) dX6_fact_59 fa_RX6_74 sM_0 fM0_28 ?_
      refine P_aload_n (pc := 62) dX6_fact_62 rfl 1 rfl ?_
      refine P_getI (jj := 30) (pc := 63) dX6_fact_63 fa_RX6_226 sM_0 fM0_30 rfl ?_
      try simp (disch := decide) only [putI_ne, putI_self]
      refine P_iload_n (pc := 66) dX6_fact_66 rfl 4 rfl ?_
      refine P_if_eq (tgt := 74) (pc := 67) dX6_fact_67 (by decide) (by first | assumption | (unfold InR; omega)) (fun c_67 => ?_) (fun c_67 => ?_)
      · refine P_iconst (pc := 74) dX6_fact_74 ?_
        refine P_iast (pc := 75) dX6_fact_75 sM_22 (by omega) (by omega) (by decide) ?_
        try simp (disch := decide) only [putI_ne, putI_self]
        refine P_aload_n (pc := 76) dX6_fact_76 rfl 1 rfl ?_
        refine P_dup (pc := 77) dX6_fact_77 rfl ?_
        refine P_getI (jj := 30) (pc := 78) dX6_fact_78 fa_RX6_226 sM_0 fM0_30 rfl ?_
        try simp (disch := decide) only [putI_ne, putI_self]
        refine P_iconst (pc := 81) dX6_fact_81 ?_
        refine P_iadd (pc := 82) dX6_fact_82 ?_
        refine P_putI (jj := 30) (pc := 83) dX6_fact_83 fa_RX6_226 fp_6_30 sM_0 fM0_30 rfl ?_
        try simp (disch := decide) only [putI_ne, putI_self]
        refine P_aload_n (pc := 86) dX6_fact_86 rfl 1 rfl ?_
        refine P_getI (jj := 30) (pc := 87) dX6_fact_87 fa_RX6_226 sM_0 fM0_30 rfl ?_
        try simp (disch := decide) only [putI_ne, putI_self]
        exact P_iret (pc := 90) dX6_fact_90 rfl (QI.mk (by have hF9 : whyF μ.1 t h = if z_ = 0 then (if μ.1 0 30 = 12 then -6 else 0) else z_ := (by unfold whyF; rw [← hz]); first | (exfalso; omega) | (rw [if_neg (by omega)] at hF9; rw [hF9]; exact ⟨by rw [if_neg (by omega)], by rw [if_neg (by omega)]; rfl⟩) | (rw [if_pos (by omega), if_pos (by omega)] at hF9; rw [hF9]; exact ⟨rfl, rfl⟩) | (rw [if_pos (by omega), if_neg (by omega)] at hF9; rw [hF9]; first | (have e1 : c = 0 := (by omega); subst e1; exact ⟨rfl, rfl⟩) | (have e1 : c = 1 := (by omega); subst e1; exact ⟨rfl, rfl⟩))))
      · refine P_iconst (pc := 70) dX6_fact_70 ?_
        refine P_goto (tgt := 75) (pc := 71) dX6_fact_71 (by decide) ?_
        refine P_iast (pc := 75) dX6_fact_75 sM_22 (by omega) (by omega) (by decide) ?_
        try simp (disch := decide) only [putI_ne, putI_self]
        refine P_aload_n (pc := 76) dX6_fact_76 rfl 1 rfl ?_
        refine P_dup (pc := 77) dX6_fact_77 rfl ?_
        refine P_getI (jj := 30) (pc := 78) dX6_fact_78 fa_RX6_226 sM_0 fM0_30 rfl ?_
        try simp (disch := decide) only [putI_ne, putI_self]
        refine P_iconst (pc := 81) dX6_fact_81 ?_
        refine P_iadd (pc := 82) dX6_fact_82 ?_
        refine P_putI (jj := 30) (pc := 83) dX6_fact_83 fa_RX6_226 fp_6_30 sM_0 fM0_30 rfl ?_
        try simp (disch := decide) only [putI_ne, putI_self]
        refine P_aload_n (pc := 86) dX6_fact_86 rfl 1 rfl ?_
        refine P_getI (jj := 30) (pc := 87) dX6_fact_87 fa_RX6_226 sM_0 fM0_30 rfl ?_
        try simp (disch := decide) only [putI_ne, putI_self]
        exact P_iret (pc := 90) dX6_fact_90 rfl (QI.mk (by have hF9 : whyF μ.1 t h = if z_ = 0 then (if μ.1 0 30 = 12 then -6 else 0) else z_ := (by unfold whyF; rw [← hz]); first | (exfalso; omega) | (rw [if_neg (by omega)] at hF9; rw [hF9]; exact ⟨by rw [if_neg (by omega)], by rw [if_neg (by omega)]; rfl⟩) | (rw [if_pos (by omega), if_pos (by omega)] at hF9; rw [hF9]; exact ⟨rfl, rfl⟩) | (rw [if_pos (by omega), if_neg (by omega)] at hF9; rw [hF9]; first | (have e1 : c = 0 := (by omega); subst e1; exact ⟨rfl, rfl⟩) | (have e1 : c = 1 := (by omega); subst e1; exact ⟨rfl, rfl⟩))))
    · refine P_aload_n (pc := 31) dX6_fact_31 rfl 1 rfl ?_
      refine P_iload (pc := 32) dX6_fact_32 0 rfl ?_
      refine P_callVi (Y' := mX6_no) (as := [_]) (pc := 34) dX6_fact_34 rfl (by decide : 0 < 2) sM_0 rfl ml_RX6_109 im_X6_no se_X6_no mk_X6_no (Nat.le_of_ble_eq_true rfl) (c_X6_no (by omega)) (fun z_ μ_ hq => ?_)
      obtain ⟨rfl, hμ_⟩ := hq
      have hμ_ := hμ_.symm
      subst hμ_
      try simp (disch := decide) only [putI_ne, putI_self]
      exact P_iret (pc := 37) dX6_fact_37 rfl (QI.mk (by have hF9 : whyF μ.1 t h = if z_ = 0 then (if μ.1 0 30 = 12 then -6 else 0) else z_ := (by unfold whyF; rw [← hz]); first | (exfalso; omega) | (rw [if_neg (by omega)] at hF9; rw [hF9]; exact ⟨by rw [if_neg (by omega)], by rw [if_neg (by omega)]; rfl⟩) | (rw [if_pos (by omega), if_pos (by omega)] at hF9; rw [hF9]; exact ⟨rfl, rfl⟩) | (rw [if_pos (by omega), if_neg (by omega)] at hF9; rw [hF9]; first | (have e1 : c = 0 := (by omega); subst e1; exact ⟨rfl, rfl⟩) | (have e1 : c = 1 := (by omega); subst e1; exact ⟨rfl, rfl⟩))))
  · refine P_aload_n (pc := 13) dX6_fact_13 rfl 1 rfl ?_
    refine P_getI (jj := 30) (pc := 14) dX6_fact_14 fa_RX6_226 sM_0 fM0_30 rfl ?_
    try simp (disch := decide) only [putI_ne, putI_self]
    refine P_bipush (pc := 17) dX6_fact_17 (by decide) ?_
    refine P_icmp_ne (tgt := 26) (pc := 19) dX6_fact_19 (by decide) (by first | assumption | (unfold InR; omega)) (by first | assumption | (unfold InR; omega)) (fun c_19 => ?_) (fun c_19 => ?_)
    · refine P_iload (pc := 26) dX6_fact_26 0 rfl ?_
      refine P_if_eq (tgt := 38) (pc := 28) dX6_fact_28 (by decide) (by first | assumption | (unfold InR; omega)) (fun c_28 => ?_) (fun c_28 => ?_)
      · refine P_aload_n (pc := 38) dX6_fact_38 rfl 1 rfl ?_
        refine P_getR (pc := 39) dX6_fact_39 fa_RX6_68 sM_0 fM0_26 ?_
        refine P_aload_n (pc := 42) dX6_fact_42 rfl 1 rfl ?_
        refine P_getI (jj := 30) (pc := 43) dX6_fact_43 fa_RX6_226 sM_0 fM0_30 rfl ?_
        try simp (disch := decide) only [putI_ne, putI_self]
        refine P_iload_n (pc := 46) dX6_fact_46 rfl 2 rfl ?_
        refine P_iast (pc := 47) dX6_fact_47 sM_20 (by omega) (by omega) (by decide) ?_
        try simp (disch := decide) only [putI_ne, putI_self]
        refine P_aload_n (pc := 48) dX6_fact_48 rfl 1 rfl ?_
        refine P_getR (pc := 49) dX6_fact_49 fa_RX6_71 sM_0 fM0_27 ?_
        refine P_aload_n (pc := 52) dX6_fact_52 rfl 1 rfl ?_
        refine P_getI (jj := 30) (pc := 53) dX6_fact_53 fa_RX6_226 sM_0 fM0_30 rfl ?_
        try simp (disch := decide) only [putI_ne, putI_self]
        refine P_iload_n (pc := 56) dX6_fact_56 rfl 3 rfl ?_
        refine P_iast (pc := 57) dX6_fact_57 sM_21 (by omega) (by omega) (by decide) ?_
        try simp (disch := decide) only [putI_ne, putI_self]
        refine P_aload_n (pc := 58) dX6_fact_58 rfl 1 rfl ?_
        refine P_getR (pc := 59) dX6_fact_59 fa_RX6_74 sM_0 fM0_28 ?_
        refine P_aload_n (pc := 62) dX6_fact_62 rfl 1 rfl ?_
        refine P_getI (jj := 30) (pc := 63) dX6_fact_63 fa_RX6_226 sM_0 fM0_30 rfl ?_
        try simp (disch := decide) only [putI_ne, putI_self]
        refine P_iload_n (pc := 66) dX6_fact_66 rfl 4 rfl ?_
        refine P_if_eq (tgt := 74) (pc := 67) dX6_fact_67 (by decide) (by first | assumption | (unfold InR; omega)) (fun c_67 => ?_) (fun c_67 => ?_)
        · refine P_iconst (pc := 74) dX6_fact_74 ?_
          refine P_iast (pc := 75) dX6_fact_75 sM_22 (by omega) (by omega) (by decide) ?_
          try simp (disch := decide) only [putI_ne, putI_self]
          refine P_aload_n (pc := 76) dX6_fact_76 rfl 1 rfl ?_
          refine P_dup (pc := 77) dX6_fact_77 rfl ?_
          refine P_getI (jj := 30) (pc := 78) dX6_fact_78 fa_RX6_226 sM_0 fM0_30 rfl ?_
          try simp (disch := decide) only [putI_ne, putI_self]
          refine P_iconst (pc := 81) dX6_fact_81 ?_
          refine P_iadd (pc := 82) dX6_fact_82 ?_
          refine P_putI (jj := 30) (pc := 83) dX6_fact_83 fa_RX6_226 fp_6_30 sM_0 fM0_30 rfl ?_
          try simp (disch := decide) only [putI_ne, putI_self]
          refine P_aload_n (pc := 86) dX6_fact_86 rfl 1 rfl ?_
          refine P_getI (jj := 30) (pc := 87) dX6_fact_87 fa_RX6_226 sM_0 fM0_30 rfl ?_
          try simp (disch := decide) only [putI_ne, putI_self]
          exact P_iret (pc := 90) dX6_fact_90 rfl (QI.mk (by have hF9 : whyF μ.1 t h = if z_ = 0 then (if μ.1 0 30 = 12 then -6 else 0) else z_ := (by unfold whyF; rw [← hz]); first | (exfalso; omega) | (rw [if_neg (by omega)] at hF9; rw [hF9]; exact ⟨by rw [if_neg (by omega)], by rw [if_neg (by omega)]; rfl⟩) | (rw [if_pos (by omega), if_pos (by omega)] at hF9; rw [hF9]; exact ⟨rfl, rfl⟩) | (rw [if_pos (by omega), if_neg (by omega)] at hF9; rw [hF9]; first | (have e1 : c = 0 := (by omega); subst e1; exact ⟨rfl, rfl⟩) | (have e1 : c = 1 := (by omega); subst e1; exact ⟨rfl, rfl⟩))))
        · refine P_iconst (pc := 70) dX6_fact_70 ?_
          refine P_goto (tgt := 75) (pc := 71) dX6_fact_71 (by decide) ?_
          refine P_iast (pc := 75) dX6_fact_75 sM_22 (by omega) (by omega) (by decide) ?_
          try simp (disch := decide) only [putI_ne, putI_self]
          refine P_aload_n (pc := 76) dX6_fact_76 rfl 1 rfl ?_
          refine P_dup (pc := 77) dX6_fact_77 rfl ?_
          refine P_getI (jj := 30) (pc := 78) dX6_fact_78 fa_RX6_226 sM_0 fM0_30 rfl ?_
          try simp (disch := decide) only [putI_ne, putI_self]
          refine P_iconst (pc := 81) dX6_fact_81 ?_
          refine P_iadd (pc := 82) dX6_fact_82 ?_
          refine P_putI (jj := 30) (pc := 83) dX6_fact_83 fa_RX6_226 fp_6_30 sM_0 fM0_30 rfl ?_
          try simp (disch := decide) only [putI_ne, putI_self]
          refine P_aload_n (pc := 86) dX6_fact_86 rfl 1 rfl ?_
          refine P_getI (jj := 30) (pc := 87) dX6_fact_87 fa_RX6_226 sM_0 fM0_30 rfl ?_
          try simp (disch := decide) only [putI_ne, putI_self]
          exact P_iret (pc := 90) dX6_fact_90 rfl (QI.mk (by have hF9 : whyF μ.1 t h = if z_ = 0 then (if μ.1 0 30 = 12 then -6 else 0) else z_ := (by unfold whyF; rw [← hz]); first | (exfalso; omega) | (rw [if_neg (by omega)] at hF9; rw [hF9]; exact ⟨by rw [if_neg (by omega)], by rw [if_neg (by omega)]; rfl⟩) | (rw [if_pos (by omega), if_pos (by omega)] at hF9; rw [hF9]; exact ⟨rfl, rfl⟩) | (rw [if_pos (by omega), if_neg (by omega)] at hF9; rw [hF9]; first | (have e1 : c = 0 := (by omega); subst e1; exact ⟨rfl, rfl⟩) | (have e1 : c = 1 := (by omega); subst e1; exact ⟨rfl, rfl⟩))))
      · refine P_aload_n (pc := 31) dX6_fact_31 rfl 1 rfl ?_
        refine P_iload (pc := 32) dX6_fact_32 0 rfl ?_
        refine P_callVi (Y' := mX6_no) (as := [_]) (pc := 34) dX6_fact_34 rfl (by decide : 0 < 2) sM_0 rfl ml_RX6_109 im_X6_no se_X6_no mk_X6_no (Nat.le_of_ble_eq_true rfl) (c_X6_no (by omega)) (fun z_ μ_ hq => ?_)
        obtain ⟨rfl, hμ_⟩ := hq
        have hμ_ := hμ_.symm
        subst hμ_
        try simp (disch := decide) only [putI_ne, putI_self]
        exact P_iret (pc := 37) dX6_fact_37 rfl (QI.mk (by have hF9 : whyF μ.1 t h = if z_ = 0 then (if μ.1 0 30 = 12 then -6 else 0) else z_ := (by unfold whyF; rw [← hz]); first | (exfalso; omega) | (rw [if_neg (by omega)] at hF9; rw [hF9]; exact ⟨by rw [if_neg (by omega)], by rw [if_neg (by omega)]; rfl⟩) | (rw [if_pos (by omega), if_pos (by omega)] at hF9; rw [hF9]; exact ⟨rfl, rfl⟩) | (rw [if_pos (by omega), if_neg (by omega)] at hF9; rw [hF9]; first | (have e1 : c = 0 := (by omega); subst e1; exact ⟨rfl, rfl⟩) | (have e1 : c = 1 := (by omega); subst e1; exact ⟨rfl, rfl⟩))))
    · refine P_bipush (pc := 22) dX6_fact_22 (by decide) ?_
      refine P_istore (L' := [(4, vi _), (0, vr 0), (1, vi _), (2, vi _), (3, vi _)]) (pc := 24) dX6_fact_24 (by decide) rfl ?_
      refine P_iload (pc := 26) dX6_fact_26 0 rfl ?_
      refine P_if_eq (tgt := 38) (pc := 28) dX6_fact_28 (by decide) (by first | assumption | (unfold InR; omega)) (fun c_28 => ?_) (fun c_28 => ?_)
      · refine P_aload_n (pc := 38) dX6_fact_38 rfl 1 rfl ?_
        refine P_getR (pc := 39) dX6_fact_39 fa_RX6_68 sM_0 fM0_26 ?_
        refine P_aload_n (pc := 42) dX6_fact_42 rfl 1 rfl ?_
        refine P_getI (jj := 30) (pc := 43) dX6_fact_43 fa_RX6_226 sM_0 fM0_30 rfl ?_
        try simp (disch := decide) only [putI_ne, putI_self]
        refine P_iload_n (pc := 46) dX6_fact_46 rfl 2 rfl ?_
        refine P_iast (pc := 47) dX6_fact_47 sM_20 (by omega) (by omega) (by decide) ?_
        try simp (disch := decide) only [putI_ne, putI_self]
        refine P_aload_n (pc := 48) dX6_fact_48 rfl 1 rfl ?_
        refine P_getR (pc := 49) dX6_fact_49 fa_RX6_71 sM_0 fM0_27 ?_
        refine P_aload_n (pc := 52) dX6_fact_52 rfl 1 rfl ?_
        refine P_getI (jj := 30) (pc := 53) dX6_fact_53 fa_RX6_226 sM_0 fM0_30 rfl ?_
        try simp (disch := decide) only [putI_ne, putI_self]
        refine P_iload_n (pc := 56) dX6_fact_56 rfl 3 rfl ?_
        refine P_iast (pc := 57) dX6_fact_57 sM_21 (by omega) (by omega) (by decide) ?_
        try simp (disch := decide) only [putI_ne, putI_self]
        refine P_aload_n (pc := 58) dX6_fact_58 rfl 1 rfl ?_
        refine P_getR (pc := 59) dX6_fact_59 fa_RX6_74 sM_0 fM0_28 ?_
        refine P_aload_n (pc := 62) dX6_fact_62 rfl 1 rfl ?_
        refine P_getI (jj := 30) (pc := 63) dX6_fact_63 fa_RX6_226 sM_0 fM0_30 rfl ?_
        try simp (disch := decide) only [putI_ne, putI_self]
        refine P_iload_n (pc := 66) dX6_fact_66 rfl 4 rfl ?_
        refine P_if_eq (tgt := 74) (pc := 67) dX6_fact_67 (by decide) (by first | assumption | (unfold InR; omega)) (fun c_67 => ?_) (fun c_67 => ?_)
        · refine P_iconst (pc := 74) dX6_fact_74 ?_
          refine P_iast (pc := 75) dX6_fact_75 sM_22 (by omega) (by omega) (by decide) ?_
          try simp (disch := decide) only [putI_ne, putI_self]
          refine P_aload_n (pc := 76) dX6_fact_76 rfl 1 rfl ?_
          refine P_dup (pc := 77) dX6_fact_77 rfl ?_
          refine P_getI (jj := 30) (pc := 78) dX6_fact_78 fa_RX6_226 sM_0 fM0_30 rfl ?_
          try simp (disch := decide) only [putI_ne, putI_self]
          refine P_iconst (pc := 81) dX6_fact_81 ?_
          refine P_iadd (pc := 82) dX6_fact_82 ?_
          refine P_putI (jj := 30) (pc := 83) dX6_fact_83 fa_RX6_226 fp_6_30 sM_0 fM0_30 rfl ?_
          try simp (disch := decide) only [putI_ne, putI_self]
          refine P_aload_n (pc := 86) dX6_fact_86 rfl 1 rfl ?_
          refine P_getI (jj := 30) (pc := 87) dX6_fact_87 fa_RX6_226 sM_0 fM0_30 rfl ?_
          try simp (disch := decide) only [putI_ne, putI_self]
          exact P_iret (pc := 90) dX6_fact_90 rfl (QI.mk (by have hF9 : whyF μ.1 t h = if z_ = 0 then (if μ.1 0 30 = 12 then -6 else 0) else z_ := (by unfold whyF; rw [← hz]); first | (exfalso; omega) | (rw [if_neg (by omega)] at hF9; rw [hF9]; exact ⟨by rw [if_neg (by omega)], by rw [if_neg (by omega)]; rfl⟩) | (rw [if_pos (by omega), if_pos (by omega)] at hF9; rw [hF9]; exact ⟨rfl, rfl⟩) | (rw [if_pos (by omega), if_neg (by omega)] at hF9; rw [hF9]; first | (have e1 : c = 0 := (by omega); subst e1; exact ⟨rfl, rfl⟩) | (have e1 : c = 1 := (by omega); subst e1; exact ⟨rfl, rfl⟩))))
        · refine P_iconst (pc := 70) dX6_fact_70 ?_
          refine P_goto (tgt := 75) (pc := 71) dX6_fact_71 (by decide) ?_
          refine P_iast (pc := 75) dX6_fact_75 sM_22 (by omega) (by omega) (by decide) ?_
          try simp (disch := decide) only [putI_ne, putI_self]
          refine P_aload_n (pc := 76) dX6_fact_76 rfl 1 rfl ?_
          refine P_dup (pc := 77) dX6_fact_77 rfl ?_
          refine P_getI (jj := 30) (pc := 78) dX6_fact_78 fa_RX6_226 sM_0 fM0_30 rfl ?_
          try simp (disch := decide) only [putI_ne, putI_self]
          refine P_iconst (pc := 81) dX6_fact_81 ?_
          refine P_iadd (pc := 82) dX6_fact_82 ?_
          refine P_putI (jj := 30) (pc := 83) dX6_fact_83 fa_RX6_226 fp_6_30 sM_0 fM0_30 rfl ?_
          try simp (disch := decide) only [putI_ne, putI_self]
          refine P_aload_n (pc := 86) dX6_fact_86 rfl 1 rfl ?_
          refine P_getI (jj := 30) (pc := 87) dX6_fact_87 fa_RX6_226 sM_0 fM0_30 rfl ?_
          try simp (disch := decide) only [putI_ne, putI_self]
          exact P_iret (pc := 90) dX6_fact_90 rfl (QI.mk (by have hF9 : whyF μ.1 t h = if z_ = 0 then (if μ.1 0 30 = 12 then -6 else 0) else z_ := (by unfold whyF; rw [← hz]); first | (exfalso; omega) | (rw [if_neg (by omega)] at hF9; rw [hF9]; exact ⟨by rw [if_neg (by omega)], by rw [if_neg (by omega)]; rfl⟩) | (rw [if_pos (by omega), if_pos (by omega)] at hF9; rw [hF9]; exact ⟨rfl, rfl⟩) | (rw [if_pos (by omega), if_neg (by omega)] at hF9; rw [hF9]; first | (have e1 : c = 0 := (by omega); subst e1; exact ⟨rfl, rfl⟩) | (have e1 : c = 1 := (by omega); subst e1; exact ⟨rfl, rfl⟩))))
      · refine P_aload_n (pc := 31) dX6_fact_31 rfl 1 rfl ?_
        refine P_iload (pc := 32) dX6_fact_32 0 rfl ?_
        refine P_callVi (Y' := mX6_no) (as := [_]) (pc := 34) dX6_fact_34 rfl (by decide : 0 < 2) sM_0 rfl ml_RX6_109 im_X6_no se_X6_no mk_X6_no (Nat.le_of_ble_eq_true rfl) (c_X6_no (by omega)) (fun z_ μ_ hq => ?_)
        obtain ⟨rfl, hμ_⟩ := hq
        have hμ_ := hμ_.symm
        subst hμ_
        try simp (disch := decide) only [putI_ne, putI_self]
        exact P_iret (pc := 37) dX6_fact_37 rfl (QI.mk (by have hF9 : whyF μ.1 t h = if z_ = 0 then (if μ.1 0 30 = 12 then -6 else 0) else z_ := (by unfold whyF; rw [← hz]); first | (exfalso; omega) | (rw [if_neg (by omega)] at hF9; rw [hF9]; exact ⟨by rw [if_neg (by omega)], by rw [if_neg (by omega)]; rfl⟩) | (rw [if_pos (by omega), if_pos (by omega)] at hF9; rw [hF9]; exact ⟨rfl, rfl⟩) | (rw [if_pos (by omega), if_neg (by omega)] at hF9; rw [hF9]; first | (have e1 : c = 0 := (by omega); subst e1; exact ⟨rfl, rfl⟩) | (have e1 : c = 1 := (by omega); subst e1; exact ⟨rfl, rfl⟩))))
set_option maxHeartbeats 1000000 in
set_option maxRecDepth 100000 in
theorem c_X6_ways {μ : Mem} {K : Cel} {w : Int} (hk : kd μ.1 = K) (hK : KOK K) (hF : FOK μ.1) (hw : InR w) : PC shM 6 mX6_ways [vr 0, vi w] (μ) (QI (fun z μ' => z = (if 0 ≤ w ∧ w ≤ 1 then (if w = 0 then 2 ^ cnt31 (nmK K) else (leftN K μ.1 0 : Int)) else -2) ∧ PM (refW μ (if 0 ≤ w ∧ w ≤ 1 then 0 else -2)) μ')) := by
  refine PC.of (by decide +kernel) (Nat.le_of_ble_eq_true rfl) ?_
  refine P_sub (L' := [(0, vr 0), (1, vi w)]) [0, 1] rfl ?_
  refine P_iload_n (pc := 0) dX6_ways_0 rfl 1 rfl ?_
  refine P_iconst (pc := 1) dX6_ways_1 ?_
  refine P_iconst (pc := 2) dX6_ways_2 ?_
  refine P_callSi (Y' := mX6_isIn) (as := [_, _, _]) (pc := 3) dX6_ways_3 rfl (by decide : 0 < 6) ml_RX6_105 sm_X6_isIn mk_X6_isIn (Nat.le_of_ble_eq_true rfl) (c_X6_isIn (by first | assumption | (unfold InR; omega)) (by unfold InR; omega) (by unfold InR; omega)) (fun z_ μ_ hq => ?_)
  obtain ⟨hz, hμ_⟩ := hq
  have hμ_ := hμ_.symm
  subst hμ_
  have hz : z_ = 0 ∧ ¬ (0 ≤ w ∧ w ≤ 1) ∨ z_ = 1 ∧ (0 ≤ w ∧ w ≤ 1) := by rw [hz]; split <;> omega
  refine P_if_ne (tgt := 16) (pc := 6) dX6_ways_6 (by decide) (by first | assumption | (unfold InR; omega)) (fun c_6 => ?_) (fun c_6 => ?_)
  · refine P_iload_n (pc := 16) dX6_ways_16 rfl 1 rfl ?_
    refine P_if_ne (tgt := 32) (pc := 17) dX6_ways_17 (by decide) (by first | assumption | (unfold InR; omega)) (fun c_17 => ?_) (fun c_17 => ?_)
    · refine P_aload_n (pc := 32) dX6_ways_32 rfl 0 rfl ?_
      refine P_iconst (pc := 33) dX6_ways_33 ?_
      refine P_callVi (Y' := mX6_findLeft) (as := [_]) (pc := 34) dX6_ways_34 rfl (by decide : 5 < 6) sM_0 rfl ml_RX6_241 im_X6_findLeft se_X6_findLeft mk_X6_findLeft (Nat.le_of_ble_eq_true rfl) (c_X6_findLeft hk hK hF (Or.inl rfl)) (fun z_ μ_ hq => ?_)
      obtain ⟨rfl, hP, hLF⟩ := hq
      exact P_iret (pc := 37) dX6_ways_37 rfl (QI.mk (by first | (exfalso; omega) | (have hw9 : ¬ (0 ≤ w ∧ w ≤ 1) := (by omega); rw [if_neg hw9, if_neg hw9]; exact ⟨rfl, PM.rf⟩) | (have hw9 : 0 ≤ w ∧ w ≤ 1 := (by omega); have hw8 : w = 0 := (by omega); rw [if_pos hw9, if_pos hw9, if_pos hw8]; refine ⟨?_, PM.rf⟩; rw [Int.one_mul, Int.toNat_natCast]; rfl) | (have hw9 : 0 ≤ w ∧ w ≤ 1 := (by omega); have hw8 : ¬ w = 0 := (by omega); rw [if_pos hw9, if_pos hw9, if_neg hw8]; exact ⟨rfl, hP⟩)))
    · refine P_iconst (pc := 20) dX6_ways_20 ?_
      refine P_aload_n (pc := 21) dX6_ways_21 rfl 0 rfl ?_
      refine P_callVi (Y' := mX6_named) (as := []) (pc := 22) dX6_ways_22 rfl (by decide : 0 < 6) sM_0 rfl ml_RX6_229 im_X6_named se_X6_named mk_X6_named (Nat.le_of_ble_eq_true rfl) (c_X6_named hk hK) (fun z_ μ_ hq => ?_)
      obtain ⟨rfl, hμ_⟩ := hq
      have hμ_ := hμ_.symm
      subst hμ_
      refine P_callSi (Y' := mX6_bits) (as := [_]) (pc := 25) dX6_ways_25 rfl (by decide : 0 < 6) ml_RX6_238 sm_X6_bits mk_X6_bits (Nat.le_of_ble_eq_true rfl) (c_X6_bits (s := (nmK K : Int)) (by have := nmK_lt hK; omega)) (fun z_ μ_ hq => ?_)
      obtain ⟨rfl, hμ_⟩ := hq
      have hμ_ := hμ_.symm
      subst hμ_
      refine P_ishl (pc := 28) dX6_ways_28 (wI_shl _ (by omega) (by have := cnt31_le (nmK K); have e : cnt (fun k => ((nmK K : Int)).toNat.testBit k) 31 = cnt31 (nmK K) := rfl; omega)) ?_
      refine P_goto (tgt := 37) (pc := 29) dX6_ways_29 (by decide) ?_
      exact P_iret (pc := 37) dX6_ways_37 rfl (QI.mk (by first | (exfalso; omega) | (have hw9 : ¬ (0 ≤ w ∧ w ≤ 1) := (by omega); rw [if_neg hw9, if_neg hw9]; exact ⟨rfl, PM.rf⟩) | (have hw9 : 0 ≤ w ∧ w ≤ 1 := (by omega); have hw8 : w = 0 := (by omega); rw [if_pos hw9, if_pos hw9, if_pos hw8]; refine ⟨?_, PM.rf⟩; rw [Int.one_mul, Int.toNat_natCast]; rfl) | (have hw9 : 0 ≤ w ∧ w ≤ 1 := (by omega); have hw8 : ¬ w = 0 := (by omega); rw [if_pos hw9, if_pos hw9, if_neg hw8]; exact ⟨rfl, hP⟩)))
  · refine P_aload_n (pc := 9) dX6_ways_9 rfl 0 rfl ?_
    refine P_bipush (pc := 10) dX6_ways_10 (by decide) ?_
    refine P_callVi (Y' := mX6_no) (as := [_]) (pc := 12) dX6_ways_12 rfl (by decide : 0 < 6) sM_0 rfl ml_RX6_109 im_X6_no se_X6_no mk_X6_no (Nat.le_of_ble_eq_true rfl) (c_X6_no (by omega)) (fun z_ μ_ hq => ?_)
    obtain ⟨rfl, hμ_⟩ := hq
    have hμ_ := hμ_.symm
    subst hμ_
    exact P_iret (pc := 15) dX6_ways_15 rfl (QI.mk (by first | (exfalso; omega) | (have hw9 : ¬ (0 ≤ w ∧ w ≤ 1) := (by omega); rw [if_neg hw9, if_neg hw9]; exact ⟨rfl, PM.rf⟩) | (have hw9 : 0 ≤ w ∧ w ≤ 1 := (by omega); have hw8 : w = 0 := (by omega); rw [if_pos hw9, if_pos hw9, if_pos hw8]; refine ⟨?_, PM.rf⟩; rw [Int.one_mul, Int.toNat_natCast]; rfl) | (have hw9 : 0 ≤ w ∧ w ≤ 1 := (by omega); have hw8 : ¬ w = 0 := (by omega); rw [if_pos hw9, if_pos hw9, if_neg hw8]; exact ⟨rfl, hP⟩)))
set_option maxHeartbeats 1000000 in
set_option maxRecDepth 100000 in
theorem c_X6_count {μ : Mem} {w : Int} (hK : KOK (kd μ.1)) (hw : InR w) : PC shM 1 mX6_count [vr 0, vi w] (μ) (QI (fun z μ' => z = cntZ μ.1 w ∧ μ' = μ)) := by
  refine PC.of (by decide +kernel) (Nat.le_of_ble_eq_true rfl) ?_
  refine P_sub (L' := [(0, vr 0), (1, vi w)]) [0, 1] rfl ?_
  skip
  refine P_iload_n (pc := 0) dX6_count_0 rfl 1 rfl ?_
  refine P_bipush (pc := 1) dX6_count_1 (by decide) ?_
  refine P_bipush (pc := 3) dX6_count_3 (by decide) ?_
  refine P_callSi (Y' := mX6_isIn) (as := [_, _, _]) (pc := 5) dX6_count_5 rfl (by decide : 0 < 1) ml_RX6_105 sm_X6_isIn mk_X6_isIn (Nat.le_of_ble_eq_true rfl) (c_X6_isIn (by first | assumption | (unfold InR; omega)) (by unfold InR; omega) (by unfold InR; omega)) (fun z_ μ_ hq => ?_)
  obtain ⟨hz, hμ_⟩ := hq
  have hμ_ := hμ_.symm
  subst hμ_
  have hz : z_ = 0 ∧ ¬ (11 ≤ w ∧ w ≤ 16) ∨ z_ = 1 ∧ (11 ≤ w ∧ w ≤ 16) := by rw [hz]; split <;> omega
  try simp (disch := decide) only [putI_ne, putI_self]
  refine P_if_eq (tgt := 21) (pc := 8) dX6_count_8 (by decide) (by first | assumption | (unfold InR; omega)) (fun c_8 => ?_) (fun c_8 => ?_)
  · refine P_iload_n (pc := 21) dX6_count_21 rfl 1 rfl ?_
    rcases (show w = 0 ∨ w = 1 ∨ w = 2 ∨ w = 3 ∨ w = 4 ∨ w = 5 ∨ (w < 0 ∨ 5 < w) by omega) with rfl | rfl | rfl | rfl | rfl | rfl | h_sw
    · refine P_tableIn (tgt := 60) (pc := 22) dX6_count_22 (by first | assumption | (unfold InR; omega)) (by omega) (by omega) (by first | rfl | (rw [h_sw]; rfl)) (by decide) ?_
      refine P_aload_n (pc := 60) dX6_count_60 rfl 0 rfl ?_
      refine P_getI (jj := 11) (pc := 61) dX6_count_61 fa_RX6_101 sM_0 fM0_11 rfl ?_
      try simp (disch := decide) only [putI_ne, putI_self]
      exact P_iret (pc := 64) dX6_count_64 rfl (QI.mk (by refine ⟨?_, rfl⟩; first | rfl | (unfold cntZ; rw [if_pos (by omega)]; done) | (unfold cntZ; rw [if_neg (by omega), if_neg (by omega), if_neg (by omega), if_neg (by omega), if_neg (by omega), if_neg (by omega), if_neg (by omega)])))
    · refine P_tableIn (tgt := 65) (pc := 22) dX6_count_22 (by first | assumption | (unfold InR; omega)) (by omega) (by omega) (by first | rfl | (rw [h_sw]; rfl)) (by decide) ?_
      refine P_aload_n (pc := 65) dX6_count_65 rfl 0 rfl ?_
      refine P_getI (jj := 12) (pc := 66) dX6_count_66 fa_RX6_125 sM_0 fM0_12 rfl ?_
      try simp (disch := decide) only [putI_ne, putI_self]
      exact P_iret (pc := 69) dX6_count_69 rfl (QI.mk (by refine ⟨?_, rfl⟩; first | rfl | (unfold cntZ; rw [if_pos (by omega)]; done) | (unfold cntZ; rw [if_neg (by omega), if_neg (by omega), if_neg (by omega), if_neg (by omega), if_neg (by omega), if_neg (by omega), if_neg (by omega)])))
    · refine P_tableIn (tgt := 70) (pc := 22) dX6_count_22 (by first | assumption | (unfold InR; omega)) (by omega) (by omega) (by first | rfl | (rw [h_sw]; rfl)) (by decide) ?_
      refine P_aload_n (pc := 70) dX6_count_70 rfl 0 rfl ?_
      refine P_callVi (Y' := mX6_named) (as := []) (pc := 71) dX6_count_71 rfl (by decide : 0 < 1) sM_0 rfl ml_RX6_229 im_X6_named se_X6_named mk_X6_named (Nat.le_of_ble_eq_true rfl) (c_X6_named rfl hK) (fun z_ μ_ hq => ?_)
      obtain ⟨rfl, hμ_⟩ := hq
      have hμ_ := hμ_.symm
      subst hμ_
      try simp (disch := decide) only [putI_ne, putI_self]
      refine P_callSi (Y' := mX6_bits) (as := [_]) (pc := 74) dX6_count_74 rfl (by decide : 0 < 1) ml_RX6_238 sm_X6_bits mk_X6_bits (Nat.le_of_ble_eq_true rfl) (c_X6_bits (s := (nmK (kd μ.1) : Int)) (by have := nmK_lt hK; omega)) (fun z_ μ_ hq => ?_)
      obtain ⟨rfl, hμ_⟩ := hq
      have hμ_ := hμ_.symm
      subst hμ_
      try simp (disch := decide) only [putI_ne, putI_self]
      exact P_iret (pc := 77) dX6_count_77 rfl (QI.mk (by refine ⟨?_, rfl⟩; first | rfl | (unfold cntZ; rw [if_pos (by omega)]; done) | (unfold cntZ; rw [if_neg (by omega), if_neg (by omega), if_neg (by omega), if_neg (by omega), if_neg (by omega), if_neg (by omega), if_neg (by omega)])))
    · refine P_tableIn (tgt := 78) (pc := 22) dX6_count_22 (by first | assumption | (unfold InR; omega)) (by omega) (by omega) (by first | rfl | (rw [h_sw]; rfl)) (by decide) ?_
      refine P_aload_n (pc := 78) dX6_count_78 rfl 0 rfl ?_
      refine P_getI (jj := 30) (pc := 79) dX6_count_79 fa_RX6_226 sM_0 fM0_30 rfl ?_
      try simp (disch := decide) only [putI_ne, putI_self]
      exact P_iret (pc := 82) dX6_count_82 rfl (QI.mk (by refine ⟨?_, rfl⟩; first | rfl | (unfold cntZ; rw [if_pos (by omega)]; done) | (unfold cntZ; rw [if_neg (by omega), if_neg (by omega), if_neg (by omega), if_neg (by omega), if_neg (by omega), if_neg (by omega), if_neg (by omega)])))
    · refine P_tableIn (tgt := 83) (pc := 22) dX6_count_22 (by first | assumption | (unfold InR; omega)) (by omega) (by omega) (by first | rfl | (rw [h_sw]; rfl)) (by decide) ?_
      refine P_aload_n (pc := 83) dX6_count_83 rfl 0 rfl ?_
      refine P_getI (jj := 37) (pc := 84) dX6_count_84 fa_RX6_270 sM_0 fM0_37 rfl ?_
      try simp (disch := decide) only [putI_ne, putI_self]
      exact P_iret (pc := 87) dX6_count_87 rfl (QI.mk (by refine ⟨?_, rfl⟩; first | rfl | (unfold cntZ; rw [if_pos (by omega)]; done) | (unfold cntZ; rw [if_neg (by omega), if_neg (by omega), if_neg (by omega), if_neg (by omega), if_neg (by omega), if_neg (by omega), if_neg (by omega)])))
    · refine P_tableIn (tgt := 88) (pc := 22) dX6_count_22 (by first | assumption | (unfold InR; omega)) (by omega) (by omega) (by first | rfl | (rw [h_sw]; rfl)) (by decide) ?_
      refine P_aload_n (pc := 88) dX6_count_88 rfl 0 rfl ?_
      refine P_getI (jj := 14) (pc := 89) dX6_count_89 fa_RX6_139 sM_0 fM0_14 rfl ?_
      try simp (disch := decide) only [putI_ne, putI_self]
      exact P_iret (pc := 92) dX6_count_92 rfl (QI.mk (by refine ⟨?_, rfl⟩; first | rfl | (unfold cntZ; rw [if_pos (by omega)]; done) | (unfold cntZ; rw [if_neg (by omega), if_neg (by omega), if_neg (by omega), if_neg (by omega), if_neg (by omega), if_neg (by omega), if_neg (by omega)])))
    · refine P_tableOut (tgt := 93) (pc := 22) dX6_count_22 (by first | assumption | (unfold InR; omega)) h_sw (by decide) ?_
      refine P_bipush (pc := 93) dX6_count_93 (by decide) ?_
      exact P_iret (pc := 95) dX6_count_95 rfl (QI.mk (by refine ⟨?_, rfl⟩; first | rfl | (unfold cntZ; rw [if_pos (by omega)]; done) | (unfold cntZ; rw [if_neg (by omega), if_neg (by omega), if_neg (by omega), if_neg (by omega), if_neg (by omega), if_neg (by omega), if_neg (by omega)])))
  · refine P_aload_n (pc := 11) dX6_count_11 rfl 0 rfl ?_
    refine P_getR (pc := 12) dX6_count_12 fa_RX6_7 sM_0 fM0_0 ?_
    refine P_iload_n (pc := 15) dX6_count_15 rfl 1 rfl ?_
    refine P_bipush (pc := 16) dX6_count_16 (by decide) ?_
    refine P_isub (pc := 18) dX6_count_18 ?_
    refine P_iald (pc := 19) dX6_count_19 sM_1 (by omega) (by omega) (by decide) ?_
    try simp (disch := decide) only [putI_ne, putI_self]
    exact P_iret (pc := 20) dX6_count_20 rfl (QI.mk (by refine ⟨?_, rfl⟩; first | rfl | (unfold cntZ; rw [if_pos (by omega)]; done) | (unfold cntZ; rw [if_neg (by omega), if_neg (by omega), if_neg (by omega), if_neg (by omega), if_neg (by omega), if_neg (by omega), if_neg (by omega)])))
