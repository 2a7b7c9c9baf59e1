theorem manyP_le (K F : Cel) (o till : Int) (t : Nat) : manyP K F o till t ≤ 64 := cnt_le _ _
theorem leftN_le (K F : Cel) (o : Int) : leftN K F o ≤ 64 := cnt_le _ _
set_option maxHeartbeats 1000000 in
set_option maxRecDepth 100000 in
theorem l_X6_manyOf {μ : Mem} {K F : Cel} {o till t : Int} (hL : LC K F o till μ) (ht : 0 ≤ t ∧ t < K 0 11) (hK : KOK K) : ∀ (n j : Nat) (w : Int), w = (j : Int) → j ≤ 64 → 64 - j < n → PW shM 0 mX6_manyOf 4 [(0, vr 0), (1, vi t), (2, vi (cnt (fun w : Nat => leftB K F o w && decide (simX K (w : Int) till o 13 t = 0)) j : Int)), (3, vi w)] [] μ (QI (fun z μ' => z = (cnt (fun w : Nat => leftB K F o w && decide (simX K (w : Int) till o 13 t = 0)) 64 : Int) ∧ μ' = μ)) := by
  intro n
  induction n with
  | zero => intro j k _ _ q; omega
  | succ n ih =>
  intro j w hw hj hn
  have hk1 := hK.1
  have g1 := cnt_s (fun w : Nat => leftB K F o w && decide (simX K (w : Int) till o 13 t = 0)) j
  have g2 : j < 64 → (μ.1 23 w = 0 ∧ leftB K F o j = false ∨ μ.1 23 w = 1 ∧ leftB K F o j = true) := fun q => by rw [hw, hL.1.1 j q]; cases leftB K F o j <;> simp
  have g3 := clN_lt (simX K (j : Int) till o) (K 0 11).toNat
  have g4 : (2 : Nat) ^ (K 0 11).toNat ≤ 2 ^ 12 := Nat.pow_le_pow_right (by decide) (by omega)
  have g5 : j < 64 → leftB K F o j = true → μ.1 24 w = (clN (simX K (j : Int) till o) (K 0 11).toNat : Int) := fun q q2 => by rw [hw]; exact hL.2 j q q2
  have g6 := clN_bit (simX K (j : Int) till o) t.toNat (K 0 11).toNat
  have g7 : decide (t.toNat < (K 0 11).toNat ∧ simX K (j : Int) till o 13 (t.toNat : Int) = 0) = decide (simX K (j : Int) till o 13 t = 0) := by rw [Int.toNat_of_nonneg ht.1]; simp; omega
  rw [g7] at g6
  have g8 : j < 64 → leftB K F o j = true → (0 ≤ μ.1 24 w ∧ μ.1 24 w < 4096) := fun q q2 => by rw [g5 q q2]; omega
  refine P_iload_n (pc := 4) dX6_manyOf_4 rfl 3 rfl ?_
  refine P_bipush (pc := 5) dX6_manyOf_5 (by decide) ?_
  refine P_icmp_ge (tgt := 42) (pc := 7) dX6_manyOf_7 (by decide) (by unfold InR; omega) (by unfold InR; omega) (fun c_7 => ?_) (fun c_7 => ?_)
  · refine P_iload_n (pc := 42) dX6_manyOf_42 rfl 2 rfl ?_
    exact P_iret (pc := 43) dX6_manyOf_43 rfl (QI.mk (by have e9 : j = 64 := (by omega); subst e9; exact ⟨rfl, rfl⟩))
  · refine P_iload_n (pc := 10) dX6_manyOf_10 rfl 2 rfl ?_
    refine P_aload_n (pc := 11) dX6_manyOf_11 rfl 0 rfl ?_
    refine P_getR (pc := 12) dX6_manyOf_12 fa_RX6_77 sM_0 fM0_29 ?_
    refine P_iload_n (pc := 15) dX6_manyOf_15 rfl 3 rfl ?_
    refine P_zald (pc := 16) dX6_manyOf_16 sM_23 (by omega) (by omega) (by decide) ?_
    refine P_if_eq (tgt := 33) (pc := 17) dX6_manyOf_17 (by decide) (by unfold InR; rcases g2 (by omega) with q2 | q2 <;> omega) (fun c_17 => ?_) (fun c_17 => ?_)
    · refine P_iconst (pc := 33) dX6_manyOf_33 ?_
      refine P_iadd (pc := 34) dX6_manyOf_34 ?_
      refine P_istore_n (L' := [(2, vi _), (0, vr 0), (1, vi _), (3, vi _)]) (pc := 35) dX6_manyOf_35 rfl (by decide) rfl ?_
      refine P_iinc (L' := [(3, vi _), (2, vi _), (0, vr 0), (1, vi _)]) (pc := 36) dX6_manyOf_36 (by decide) 3 rfl rfl ?_
      refine P_goto (tgt := 4) (pc := 39) dX6_manyOf_39 (by decide) ?_
      refine P_sub (L' := [(0, vr 0), (1, vi _), (2, vi _), (3, vi _)]) [2, 3, 1, 0] rfl ?_
      refine P_cast (L' := [(0, vr 0), (1, vi t), (2, vi (cnt (fun w : Nat => leftB K F o w && decide (simX K (w : Int) till o 13 t = 0)) (j + 1) : Int)), (3, vi (w + 1))]) ?_ rfl (ih (j + 1) (w + 1) (by omega) (by omega) (by omega))
      clear ih
      rw [g1]
      rcases g2 (by omega) with q | q
      · first
          | (exfalso; omega)
          | (simp only [q.2, Bool.false_and]; rfl)
      · first
          | (exfalso; omega)
          | (simp only [oneT]
             rw [wbit (g8 (by omega) q.2).1 ht.1, g5 (by omega) q.2, Int.toNat_natCast, g6, q.2, Bool.true_and]
             cases decide (simX K (j : Int) till o 13 t = 0) <;> rfl)
    · refine P_aload_n (pc := 20) dX6_manyOf_20 rfl 0 rfl ?_
      refine P_getR (pc := 21) dX6_manyOf_21 fa_RX6_80 sM_0 fM0_32 ?_
      refine P_iload_n (pc := 24) dX6_manyOf_24 rfl 3 rfl ?_
      refine P_iald (pc := 25) dX6_manyOf_25 sM_24 (by omega) (by omega) (by decide) ?_
      refine P_iload_n (pc := 26) dX6_manyOf_26 rfl 1 rfl ?_
      refine P_ishr (pc := 27) dX6_manyOf_27 (wI_shr _ (by omega) (by omega) (g8 (by omega) (by rcases g2 (by omega) with q | q; omega; exact q.2)).1 (by have := (g8 (by omega) (by rcases g2 (by omega) with q | q; omega; exact q.2)).2; omega)) ?_
      refine P_iconst (pc := 28) dX6_manyOf_28 ?_
      refine P_iand (pc := 29) dX6_manyOf_29 (wI_and (wdiv (g8 (by omega) (by rcases g2 (by omega) with q | q; omega; exact q.2)).1 (by have := (g8 (by omega) (by rcases g2 (by omega) with q | q; omega; exact q.2)).2; omega)).1 (wdiv (g8 (by omega) (by rcases g2 (by omega) with q | q; omega; exact q.2)).1 (by have := (g8 (by omega) (by rcases g2 (by omega) with q | q; omega; exact q.2)).2; omega)).2 (by omega) (by omega)) ?_
      refine P_goto (tgt := 34) (pc := 30) dX6_manyOf_30 (by decide) ?_
      refine P_iadd (pc := 34) dX6_manyOf_34 ?_
      refine P_istore_n (L' := [(2, vi _), (0, vr 0), (1, vi _), (3, vi _)]) (pc := 35) dX6_manyOf_35 rfl (by decide) rfl ?_
      refine P_iinc (L' := [(3, vi _), (2, vi _), (0, vr 0), (1, vi _)]) (pc := 36) dX6_manyOf_36 (by decide) 3 rfl rfl ?_
      refine P_goto (tgt := 4) (pc := 39) dX6_manyOf_39 (by decide) ?_
      refine P_sub (L' := [(0, vr 0), (1, vi _), (2, vi _), (3, vi _)]) [2, 3, 1, 0] rfl ?_
      refine P_cast (L' := [(0, vr 0), (1, vi t), (2, vi (cnt (fun w : Nat => leftB K F o w && decide (simX K (w : Int) till o 13 t = 0)) (j + 1) : Int)), (3, vi (w + 1))]) ?_ rfl (ih (j + 1) (w + 1) (by omega) (by omega) (by omega))
      clear ih
      rw [g1]
      rcases g2 (by omega) with q | q
      · first
          | (exfalso; omega)
          | (simp only [q.2, Bool.false_and]; rfl)
      · first
          | (exfalso; omega)
          | (simp only [oneT]
             rw [wbit (g8 (by omega) q.2).1 ht.1, g5 (by omega) q.2, Int.toNat_natCast, g6, q.2, Bool.true_and]
             cases decide (simX K (j : Int) till o 13 t = 0) <;> rfl)
set_option maxHeartbeats 1000000 in
set_option maxRecDepth 100000 in
theorem c_X6_manyOf {μ : Mem} {K : Cel} {F : Cel} {o till t : Int} (hL : LC K F o till μ) (ht : 0 ≤ t ∧ t < K 0 11) (hK : KOK K) : PC shM 0 mX6_manyOf [vr 0, vi t] (μ) (QI (fun z μ' => z = (manyP K F o till t.toNat : Int) ∧ μ' = μ)) := by
  refine PC.of (by decide +kernel) (Nat.le_of_ble_eq_true rfl) ?_
  refine P_sub (L' := [(0, vr 0), (1, vi t)]) [0, 1] rfl ?_
  refine P_iconst (pc := 0) dX6_manyOf_0 ?_
  refine P_istore_n (L' := [(2, vi _), (0, vr 0), (1, vi _)]) (pc := 1) dX6_manyOf_1 rfl (by decide) rfl ?_
  refine P_iconst (pc := 2) dX6_manyOf_2 ?_
  refine P_istore_n (L' := [(3, vi _), (2, vi _), (0, vr 0), (1, vi _)]) (pc := 3) dX6_manyOf_3 rfl (by decide) rfl ?_
  refine P_sub (L' := [(0, vr 0), (1, vi _), (2, vi _), (3, vi _)]) [2, 3, 1, 0] rfl ?_
  refine P_post (Q' := QI (fun z μ' => z = (cnt (fun w : Nat => leftB K F o w && decide (simX K (w : Int) till o 13 t = 0)) 64 : Int) ∧ μ' = μ)) (fun r μ' h => ?_) (l_X6_manyOf hL ht hK 65 0 0 rfl (by omega) (by omega))
  have e : manyP K F o till t.toNat = cnt (fun w : Nat => leftB K F o w && decide (simX K (w : Int) till o 13 t = 0)) 64 := by unfold manyP; rw [Int.toNat_of_nonneg ht.1]
  rw [e]
  exact h
set_option maxHeartbeats 1000000 in
set_option maxRecDepth 100000 in
theorem c_X6_sureOf {μ : Mem} {K : Cel} {F : Cel} {o till t : Int} (hL : LC K F o till μ) (ht : 0 ≤ t ∧ t < K 0 11) (hK : KOK K) : PC shM 1 mX6_sureOf [vr 0, vi t] (μ) (QI (fun z μ' => z = sureP K F o till t.toNat ∧ μ' = μ)) := by
  refine PC.of (by decide +kernel) (Nat.le_of_ble_eq_true rfl) ?_
  refine P_sub (L' := [(0, vr 0), (1, vi t)]) [0, 1] rfl ?_
  have a1 := manyP_le K F o till t.toNat
  have a2 := leftN_le K F o
  have a3 := hL.1.2
  refine P_aload_n (pc := 0) dX6_sureOf_0 rfl 0 rfl ?_
  refine P_iload_n (pc := 1) dX6_sureOf_1 rfl 1 rfl ?_
  refine P_callVi (Y' := mX6_manyOf) (as := [_]) (pc := 2) dX6_sureOf_2 rfl (by decide : 0 < 1) sM_0 rfl ml_RX6_251 im_X6_manyOf se_X6_manyOf mk_X6_manyOf (Nat.le_of_ble_eq_true rfl) (c_X6_manyOf hL ht hK) (fun z_ μ_ hq => ?_)
  obtain ⟨rfl, hμ_⟩ := hq
  have hμ_ := hμ_.symm
  subst hμ_
  try simp only [a3]
  refine P_istore_n (L' := [(2, vi _), (0, vr 0), (1, vi _)]) (pc := 5) dX6_sureOf_5 rfl (by decide) rfl ?_
  refine P_aload_n (pc := 6) dX6_sureOf_6 rfl 1 rfl ?_
  refine P_getI (jj := 31) (pc := 7) dX6_sureOf_7 fa_RX6_232 sM_0 fM0_31 rfl ?_
  try simp only [a3]
  refine P_if_ne (tgt := 18) (pc := 10) dX6_sureOf_10 (by decide) (by unfold InR; omega) (fun c_10 => ?_) (fun c_10 => ?_)
  · refine P_iload_n (pc := 18) dX6_sureOf_18 rfl 0 rfl ?_
    refine P_aload_n (pc := 19) dX6_sureOf_19 rfl 1 rfl ?_
    refine P_getI (jj := 31) (pc := 20) dX6_sureOf_20 fa_RX6_232 sM_0 fM0_31 rfl ?_
    try simp only [a3]
    refine P_icmp_ne (tgt := 30) (pc := 23) dX6_sureOf_23 (by decide) (by unfold InR; omega) (by unfold InR; omega) (fun c_23 => ?_) (fun c_23 => ?_)
    · refine P_iload_n (pc := 30) dX6_sureOf_30 rfl 0 rfl ?_
      refine P_if_ne (tgt := 38) (pc := 31) dX6_sureOf_31 (by decide) (by unfold InR; omega) (fun c_31 => ?_) (fun c_31 => ?_)
      · refine P_iconst (pc := 38) dX6_sureOf_38 ?_
        exact P_iret (pc := 39) dX6_sureOf_39 rfl (QI.mk (by refine ⟨?_, rfl⟩; unfold sureP; grind))
      · refine P_iconst (pc := 34) dX6_sureOf_34 ?_
        refine P_goto (tgt := 39) (pc := 35) dX6_sureOf_35 (by decide) ?_
        exact P_iret (pc := 39) dX6_sureOf_39 rfl (QI.mk (by refine ⟨?_, rfl⟩; unfold sureP; grind))
    · refine P_iconst (pc := 26) dX6_sureOf_26 ?_
      refine P_goto (tgt := 39) (pc := 27) dX6_sureOf_27 (by decide) ?_
      exact P_iret (pc := 39) dX6_sureOf_39 rfl (QI.mk (by refine ⟨?_, rfl⟩; unfold sureP; grind))
  · refine P_bipush (pc := 13) dX6_sureOf_13 (by decide) ?_
    refine P_goto (tgt := 39) (pc := 15) dX6_sureOf_15 (by decide) ?_
    exact P_iret (pc := 39) dX6_sureOf_39 rfl (QI.mk (by refine ⟨?_, rfl⟩; unfold sureP; grind))
def whyTH (A : Cel) (t h : Int) : Int := if 0 ≤ t ∧ t < A 0 11 then (if h < 0 then -4 else if h > 47 then -6 else 0) else -1
theorem whyTH_v (A : Cel) (t h : Int) : whyTH A t h = -1 ∨ whyTH A t h = -4 ∨ whyTH A t h = -6 ∨ whyTH A t h = 0 := by unfold whyTH; split; split; omega; split <;> omega; omega
theorem whyTH_0 {A : Cel} {t h : Int} (e : whyTH A t h = 0) : (0 ≤ t ∧ t < A 0 11) ∧ (0 ≤ h ∧ h < 48) := by unfold whyTH at e; grind
/-- a refusal is counted -/
def refM (μ : Mem) (w : Int) : Mem := putI μ 1 (-w) (μ.1 1 (-w) + 1)
def refW (μ : Mem) (w : Int) : Mem := if w = 0 then μ else refM μ w
set_option maxHeartbeats 1000000 in
set_option maxRecDepth 100000 in
theorem c_X6_why {μ : Mem} {t h : Int} (ht : InR t) (hh : InR h) (hn : InR (μ.1 0 11)) : PC shM 1 mX6_why [vr 0, vi t, vi h] (μ) (QI (fun z μ' => z = whyTH μ.1 t h ∧ μ' = μ)) := by
  refine PC.of (by decide +kernel) (Nat.le_of_ble_eq_true rfl) ?_
  refine P_sub (L' := [(0, vr 0), (1, vi t), (2, vi h)]) [0, 1, 2] rfl ?_
  refine P_aload_n (pc := 0) dX6_why_0 rfl 0 rfl ?_
  refine P_iload_n (pc := 1) dX6_why_1 rfl 1 rfl ?_
  refine P_callVi (Y' := mX6_isThing) (as := [_]) (pc := 2) dX6_why_2 rfl (by decide : 0 < 1) sM_0 rfl ml_RX6_132 im_X6_isThing se_X6_isThing mk_X6_isThing (Nat.le_of_ble_eq_true rfl) (c_X6_isThing ht hn) (fun z_ μ_ hq => ?_)
  obtain ⟨hz, hμ_⟩ := hq
  have hμ_ := hμ_.symm
  subst hμ_
  have hz2 : z_ = 0 ∧ ¬ (0 ≤ t ∧ t < μ.1 0 11) ∨ z_ = 1 ∧ (0 ≤ t ∧ t < μ.1 0 11) := by rw [hz]; split <;> omega
  refine P_if_ne (tgt := 12) (pc := 5) dX6_why_5 (by decide) (by unfold InR; omega) (fun c_5 => ?_) (fun c_5 => ?_)
  · refine P_iload_n (pc := 12) dX6_why_12 rfl 2 rfl ?_
    refine P_iconst (pc := 13) dX6_why_13 ?_
    refine P_bipush (pc := 14) dX6_why_14 (by decide) ?_
    refine P_callSi (Y' := mX6_out) (as := [_, _, _]) (pc := 16) dX6_why_16 rfl (by decide : 0 < 1) ml_RX6_121 sm_X6_out mk_X6_out (Nat.le_of_ble_eq_true rfl) (c_X6_out hh (by unfold InR; omega) (by unfold InR; omega)) (fun z_ μ_ hq => ?_)
    obtain ⟨rfl, hμ_⟩ := hq
    have hμ_ := hμ_.symm
    subst hμ_
    exact P_iret (pc := 19) dX6_why_19 rfl (QI.mk (by refine ⟨?_, rfl⟩; clear hz; unfold whyTH; grind))
  · refine P_iconst (pc := 8) dX6_why_8 ?_
    refine P_goto (tgt := 19) (pc := 9) dX6_why_9 (by decide) ?_
    exact P_iret (pc := 19) dX6_why_19 rfl (QI.mk (by refine ⟨?_, rfl⟩; clear hz; unfold whyTH; grind))
