theorem oneB_bit : ∀ u : Nat, u < 6 → ∀ w, w < 64 → (oneB (u : Int)).getLsbD w = w.testBit u := by decide +kernel
def wayB (u : Int) : BitVec 64 := if 0 ≤ u ∧ u < 6 then oneB u else if 10 ≤ u ∧ u < 16 then ~~~(oneB (u - 10)) else BitVec.allOnes 64
def evW (n : Nat) : Nat → BitVec 64
  | 0 => BitVec.allOnes 64
  | k + 1 => if n.testBit k = true then evW n k else evW n k &&& ~~~(oneB (k : Int))
theorem evW_s {n k : Nat} {t : Int} (ht : t = (k : Int)) : evW n (k + 1) = if n.testBit k = true then evW n k else evW n k &&& ~~~(oneB t) := by subst ht; rfl
theorem evW_k (n w : Nat) (hw : w < 64) : ∀ k, k ≤ 6 → ((evW n k).getLsbD w = true ↔ ∀ i, i < k → w.testBit i = true → n.testBit i = true)
  | 0, _ => by
    rw [show (evW n 0).getLsbD w = true by rw [evW, BitVec.getLsbD_allOnes]; exact decide_eq_true hw]
    exact ⟨fun _ i hi => absurd hi (Nat.not_lt_zero i), fun _ => rfl⟩
  | k + 1, hk => by
    have h1 := evW_k n w hw k (by omega)
    have h2 := oneB_bit k (by omega) w hw
    simp only [evW]
    split
    · rename_i h
      rw [h1]
      refine ⟨fun q i hi hi2 => ?_, fun q i hi => q i (by omega)⟩
      by_cases e : i = k
      · subst e; exact h
      · exact q i (by omega) hi2
    · rename_i h
      rw [BitVec.getLsbD_and, Bool.and_eq_true, h1, BitVec.getLsbD_not, h2]
      refine ⟨fun q i hi hi2 => ?_, fun q => ⟨fun i hi => q i (by omega), ?_⟩⟩
      · by_cases e : i = k
        · subst e; simp [hi2] at q
        · exact q.1 i (by omega) hi2
      · cases e : w.testBit k with
        | false => simp [hw]
        | true => exact absurd (q k (by omega) e) h
theorem evW_bit {n w : Nat} (hw : w < 64) : (evW n 6).getLsbD w = decide (w &&& n = w) := by
  have h1 := evW_k n w hw 6 (by omega)
  have h2 : (w &&& n = w) ↔ ∀ i, i < 6 → w.testBit i = true → n.testBit i = true := by
    constructor
    · intro h i _ hi
      have := congrArg (fun x => x.testBit i) h
      simp only [Nat.testBit_and] at this
      rw [hi] at this
      simpa using this
    · intro h
      apply Nat.eq_of_testBit_eq
      intro i
      rw [Nat.testBit_and]
      by_cases q : i < 6
      · cases e : w.testBit i with
        | false => rfl
        | true => rw [h i q e]; rfl
      · have : w.testBit i = false := Nat.testBit_lt_two_pow (Nat.lt_of_lt_of_le (show w < 2 ^ 6 by omega) (Nat.pow_le_pow_right (by decide) (by omega)))
        rw [this]; rfl
  by_cases h : w &&& n = w
  · rw [decide_eq_true h]; exact h1.mpr (h2.mp h)
  · rw [decide_eq_false h]
    cases e : (evW n 6).getLsbD w with
    | false => rfl
    | true => exact absurd (h2.mpr (h1.mp e)) h
set_option maxHeartbeats 1000000 in
set_option maxRecDepth 100000 in
theorem c_X5_waysToldBy {μ : Mem} {u : Int} (hu : InR u) : PC shC 0 mX5_waysToldBy [vi u] (μ) (QL (fun z μ' => z = wayB u ∧ μ' = μ)) := by
  refine PC.of (by decide +kernel) (Nat.le_of_ble_eq_true rfl) ?_
  refine P_sub (L' := [(0, vi u)]) [0] rfl ?_
  refine P_iload_n (pc := 0) dX5_waysToldBy_0 rfl 0 rfl ?_
  refine P_if_lt (tgt := 16) (pc := 1) dX5_waysToldBy_1 (by decide) (by first | assumption | (unfold InR; omega)) (fun c_1 => ?_) (fun c_1 => ?_)
  · refine P_iload_n (pc := 16) dX5_waysToldBy_16 rfl 0 rfl ?_
    refine P_bipush (pc := 17) dX5_waysToldBy_17 (by decide) ?_
    refine P_icmp_lt (tgt := 41) (pc := 19) dX5_waysToldBy_19 (by decide) (by first | assumption | (unfold InR; omega)) (by first | assumption | (unfold InR; omega)) (fun c_19 => ?_) (fun c_19 => ?_)
    · refine P_ldc2 (b := BitVec.allOnes 64) (pc := 41) dX5_waysToldBy_41 kl_RX5_210 (by decide +kernel) ?_
      exact P_lret (pc := 44) dX5_waysToldBy_44 rfl (QL.mk (by unfold wayB; first | (rw [if_pos (by omega)]; exact ⟨rfl, rfl⟩) | (rw [if_neg (by omega), if_pos (by omega)]; exact ⟨rfl, rfl⟩) | (rw [if_neg (by omega), if_neg (by omega)]; exact ⟨rfl, rfl⟩)))
    · refine P_iload_n (pc := 22) dX5_waysToldBy_22 rfl 0 rfl ?_
      refine P_bipush (pc := 23) dX5_waysToldBy_23 (by decide) ?_
      refine P_icmp_ge (tgt := 41) (pc := 25) dX5_waysToldBy_25 (by decide) (by first | assumption | (unfold InR; omega)) (by first | assumption | (unfold InR; omega)) (fun c_25 => ?_) (fun c_25 => ?_)
      · refine P_ldc2 (b := BitVec.allOnes 64) (pc := 41) dX5_waysToldBy_41 kl_RX5_210 (by decide +kernel) ?_
        exact P_lret (pc := 44) dX5_waysToldBy_44 rfl (QL.mk (by unfold wayB; first | (rw [if_pos (by omega)]; exact ⟨rfl, rfl⟩) | (rw [if_neg (by omega), if_pos (by omega)]; exact ⟨rfl, rfl⟩) | (rw [if_neg (by omega), if_neg (by omega)]; exact ⟨rfl, rfl⟩)))
      · refine P_gets (pc := 28) dX5_waysToldBy_28 fs_RX5_206 ?_
        refine P_iload_n (pc := 31) dX5_waysToldBy_31 rfl 0 rfl ?_
        refine P_bipush (pc := 32) dX5_waysToldBy_32 (by decide) ?_
        refine P_isub (pc := 34) dX5_waysToldBy_34 ?_
        refine P_tald (pc := 35) dX5_waysToldBy_35 (by omega) (by omega) ?_
        refine P_ldc2 (b := BitVec.allOnes 64) (pc := 36) dX5_waysToldBy_36 kl_RX5_210 (by decide +kernel) ?_
        refine P_lnot (pc := 39) dX5_waysToldBy_39 ?_
        exact P_lret (pc := 40) dX5_waysToldBy_40 rfl (QL.mk (by unfold wayB; first | (rw [if_pos (by omega)]; exact ⟨rfl, rfl⟩) | (rw [if_neg (by omega), if_pos (by omega)]; exact ⟨rfl, rfl⟩) | (rw [if_neg (by omega), if_neg (by omega)]; exact ⟨rfl, rfl⟩)))
  · refine P_iload_n (pc := 4) dX5_waysToldBy_4 rfl 0 rfl ?_
    refine P_bipush (pc := 5) dX5_waysToldBy_5 (by decide) ?_
    refine P_icmp_ge (tgt := 16) (pc := 7) dX5_waysToldBy_7 (by decide) (by first | assumption | (unfold InR; omega)) (by first | assumption | (unfold InR; omega)) (fun c_7 => ?_) (fun c_7 => ?_)
    · refine P_iload_n (pc := 16) dX5_waysToldBy_16 rfl 0 rfl ?_
      refine P_bipush (pc := 17) dX5_waysToldBy_17 (by decide) ?_
      refine P_icmp_lt (tgt := 41) (pc := 19) dX5_waysToldBy_19 (by decide) (by first | assumption | (unfold InR; omega)) (by first | assumption | (unfold InR; omega)) (fun c_19 => ?_) (fun c_19 => ?_)
      · refine P_ldc2 (b := BitVec.allOnes 64) (pc := 41) dX5_waysToldBy_41 kl_RX5_210 (by decide +kernel) ?_
        exact P_lret (pc := 44) dX5_waysToldBy_44 rfl (QL.mk (by unfold wayB; first | (rw [if_pos (by omega)]; exact ⟨rfl, rfl⟩) | (rw [if_neg (by omega), if_pos (by omega)]; exact ⟨rfl, rfl⟩) | (rw [if_neg (by omega), if_neg (by omega)]; exact ⟨rfl, rfl⟩)))
      · refine P_iload_n (pc := 22) dX5_waysToldBy_22 rfl 0 rfl ?_
        refine P_bipush (pc := 23) dX5_waysToldBy_23 (by decide) ?_
        refine P_icmp_ge (tgt := 41) (pc := 25) dX5_waysToldBy_25 (by decide) (by first | assumption | (unfold InR; omega)) (by first | assumption | (unfold InR; omega)) (fun c_25 => ?_) (fun c_25 => ?_)
        · refine P_ldc2 (b := BitVec.allOnes 64) (pc := 41) dX5_waysToldBy_41 kl_RX5_210 (by decide +kernel) ?_
          exact P_lret (pc := 44) dX5_waysToldBy_44 rfl (QL.mk (by unfold wayB; first | (rw [if_pos (by omega)]; exact ⟨rfl, rfl⟩) | (rw [if_neg (by omega), if_pos (by omega)]; exact ⟨rfl, rfl⟩) | (rw [if_neg (by omega), if_neg (by omega)]; exact ⟨rfl, rfl⟩)))
        · refine P_gets (pc := 28) dX5_waysToldBy_28 fs_RX5_206 ?_
          refine P_iload_n (pc := 31) dX5_waysToldBy_31 rfl 0 rfl ?_
          refine P_bipush (pc := 32) dX5_waysToldBy_32 (by decide) ?_
          refine P_isub (pc := 34) dX5_waysToldBy_34 ?_
          refine P_tald (pc := 35) dX5_waysToldBy_35 (by omega) (by omega) ?_
          refine P_ldc2 (b := BitVec.allOnes 64) (pc := 36) dX5_waysToldBy_36 kl_RX5_210 (by decide +kernel) ?_
          refine P_lnot (pc := 39) dX5_waysToldBy_39 ?_
          exact P_lret (pc := 40) dX5_waysToldBy_40 rfl (QL.mk (by unfold wayB; first | (rw [if_pos (by omega)]; exact ⟨rfl, rfl⟩) | (rw [if_neg (by omega), if_pos (by omega)]; exact ⟨rfl, rfl⟩) | (rw [if_neg (by omega), if_neg (by omega)]; exact ⟨rfl, rfl⟩)))
    · refine P_gets (pc := 10) dX5_waysToldBy_10 fs_RX5_206 ?_
      refine P_iload_n (pc := 13) dX5_waysToldBy_13 rfl 0 rfl ?_
      refine P_tald (pc := 14) dX5_waysToldBy_14 (by omega) (by omega) ?_
      exact P_lret (pc := 15) dX5_waysToldBy_15 rfl (QL.mk (by unfold wayB; first | (rw [if_pos (by omega)]; exact ⟨rfl, rfl⟩) | (rw [if_neg (by omega), if_pos (by omega)]; exact ⟨rfl, rfl⟩) | (rw [if_neg (by omega), if_neg (by omega)]; exact ⟨rfl, rfl⟩)))
set_option maxHeartbeats 1000000 in
set_option maxRecDepth 100000 in
theorem c_X3_areThere {μ : Mem} {s : Int} (hn : 0 ≤ μ.1 1 6 ∧ μ.1 1 6 ≤ 12) (hs : 0 ≤ s) (hs2 : InR s) : PC shC 0 mX3_areThere [vr 1, vi s] (μ) (QI (fun z μ' => z = (if s / 2 ^ (μ.1 1 6).toNat = 0 then 1 else 0) ∧ μ' = μ)) := by
  refine PC.of (by decide +kernel) (Nat.le_of_ble_eq_true rfl) ?_
  refine P_sub (L' := [(0, vr 1), (1, vi s)]) [0, 1] rfl ?_
  have d1 := wdiv (w := s) (n := (μ.1 1 6).toNat) hs (by unfold InR at hs2; omega)
  refine P_iload_n (pc := 0) dX3_areThere_0 rfl 1 rfl ?_
  refine P_aload_n (pc := 1) dX3_areThere_1 rfl 0 rfl ?_
  refine P_getI (jj := 6) (pc := 2) dX3_areThere_2 fa_RX3_30 sC_1 fC1_6 rfl ?_
  try simp (disch := decide) only [putI_ne, putI_self, putI_nej]
  refine P_iushr (pc := 5) dX3_areThere_5 (wI_ushr (by omega) (by omega) hs (by unfold InR at hs2; omega)) ?_
  refine P_if_ne (tgt := 13) (pc := 6) dX3_areThere_6 (by decide) (by first | assumption | (unfold InR; omega)) (fun c_6 => ?_) (fun c_6 => ?_)
  · refine P_iconst (pc := 13) dX3_areThere_13 ?_
    exact P_zret (pc := 14) dX3_areThere_14 rfl (by omega) (QI.mk (by first | (rw [if_pos (by omega)]; exact ⟨rfl, rfl⟩) | (rw [if_neg (by omega)]; exact ⟨rfl, rfl⟩)))
  · refine P_iconst (pc := 9) dX3_areThere_9 ?_
    refine P_goto (tgt := 14) (pc := 10) dX3_areThere_10 (by decide) ?_
    exact P_zret (pc := 14) dX3_areThere_14 rfl (by omega) (QI.mk (by first | (rw [if_pos (by omega)]; exact ⟨rfl, rfl⟩) | (rw [if_neg (by omega)]; exact ⟨rfl, rfl⟩)))
set_option maxHeartbeats 1000000 in
set_option maxRecDepth 100000 in
theorem l_X3_everyWay {μ : Mem} {N : Nat} (hN : N < 64) : ∀ (n j : Nat) (t : Int), t = (j : Int) → j ≤ 6 → 6 - j < n → PW shC 2 mX3_everyWay 12 [(0, vr 1), (1, vi (N : Int)), (2, vl (evW N j)), (4, vi t)] [] μ (QL (fun z μ' => z = evW N 6 ∧ μ' = μ)) := by
  intro n
  induction n with
  | zero => intro j t _ _ q; omega
  | succ n ih =>
  intro j t ht hj hn
  have d1 := wdiv (w := (N : Int)) (n := t.toNat) (by omega) (by omega)
  have gb : (((N : Int) / 2 ^ t.toNat).toNat &&& (1 : Int).toNat : Nat) = if N.testBit j = true then 1 else 0 := by subst ht; exact wbitN (u := j) rfl
  have g4 := evW_s (n := N) ht
  refine P_iload (pc := 12) dX3_everyWay_12 3 rfl ?_
  refine P_bipush (pc := 14) dX3_everyWay_14 (by decide) ?_
  refine P_icmp_ge (tgt := 47) (pc := 16) dX3_everyWay_16 (by decide) (by first | assumption | (unfold InR; omega) | (rw [gb]; unfold InR; split <;> omega)) (by first | assumption | (unfold InR; omega) | (rw [gb]; unfold InR; split <;> omega)) (fun c_16 => ?_) (fun c_16 => ?_)
  · refine P_lload_n (pc := 47) dX3_everyWay_47 rfl 2 rfl ?_
    exact P_lret (pc := 48) dX3_everyWay_48 rfl (QL.mk (by have e9 : j = 6 := (by omega); subst e9; exact ⟨rfl, rfl⟩))
  · refine P_iload_n (pc := 19) dX3_everyWay_19 rfl 1 rfl ?_
    refine P_iload (pc := 20) dX3_everyWay_20 3 rfl ?_
    refine P_iushr (pc := 22) dX3_everyWay_22 (wI_ushr (by omega) (by omega) (by omega) (by omega)) ?_
    refine P_iconst (pc := 23) dX3_everyWay_23 ?_
    refine P_iand (pc := 24) dX3_everyWay_24 (wI_and d1.1 d1.2 (by omega) (by omega)) ?_
    refine P_if_ne (tgt := 41) (pc := 25) dX3_everyWay_25 (by decide) (by first | assumption | (unfold InR; omega) | (rw [gb]; unfold InR; split <;> omega)) (fun c_25 => ?_) (fun c_25 => ?_)
    · refine P_iinc (L' := [(4, vi _), (0, vr 1), (1, vi _), (2, vl _)]) (pc := 41) dX3_everyWay_41 (by decide) 3 rfl rfl ?_
      refine P_goto (tgt := 12) (pc := 44) dX3_everyWay_44 (by decide) ?_
      refine P_sub (L' := [(0, vr 1), (1, vi _), (2, vl _), (4, vi _)]) [1, 2, 3, 0] rfl ?_
      refine P_cast (L' := [(0, vr 1), (1, vi (N : Int)), (2, vl (evW N (j + 1))), (4, vi (t + 1))]) ?_ rfl (ih (j + 1) (t + 1) (by omega) (by omega) (by omega))
      rw [gb] at c_25
      rw [g4]
      first
        | (have e : N.testBit j = true := (by clear ih d1; grind)
           rw [if_pos e]; done)
        | (have e : ¬ N.testBit j = true := (by clear ih d1; grind)
           rw [if_neg e]; done)
    · refine P_lload_n (pc := 28) dX3_everyWay_28 rfl 2 rfl ?_
      refine P_getsN (pc := 29) dX3_everyWay_29 nf_RX3_70 ?_
      refine P_iload (pc := 32) dX3_everyWay_32 3 rfl ?_
      refine P_tald (pc := 34) dX3_everyWay_34 (by omega) (by omega) ?_
      refine P_ldc2 (b := BitVec.allOnes 64) (pc := 35) dX3_everyWay_35 kl_RX3_68 (by decide +kernel) ?_
      refine P_lnot (pc := 38) dX3_everyWay_38 ?_
      refine P_land (pc := 39) dX3_everyWay_39 ?_
      refine P_lstore_n (L' := [(2, vl _), (0, vr 1), (1, vi _), (4, vi _)]) (pc := 40) dX3_everyWay_40 rfl (by decide) rfl ?_
      refine P_iinc (L' := [(4, vi _), (2, vl _), (0, vr 1), (1, vi _)]) (pc := 41) dX3_everyWay_41 (by decide) 3 rfl rfl ?_
      refine P_goto (tgt := 12) (pc := 44) dX3_everyWay_44 (by decide) ?_
      refine P_sub (L' := [(0, vr 1), (1, vi _), (2, vl _), (4, vi _)]) [2, 3, 1, 0] rfl ?_
      refine P_cast (L' := [(0, vr 1), (1, vi (N : Int)), (2, vl (evW N (j + 1))), (4, vi (t + 1))]) ?_ rfl (ih (j + 1) (t + 1) (by omega) (by omega) (by omega))
      rw [gb] at c_25
      rw [g4]
      first
        | (have e : N.testBit j = true := (by clear ih d1; grind)
           rw [if_pos e]; done)
        | (have e : ¬ N.testBit j = true := (by clear ih d1; grind)
           rw [if_neg e]; done)
set_option maxHeartbeats 1000000 in
set_option maxRecDepth 100000 in
theorem c_X3_everyWay {μ : Mem} {K : Cel} (hR : KR K μ) (hK : KOK K) : PC shC 2 mX3_everyWay [vr 1] (μ) (QL (fun z μ' => z = evW (nmK K) 6 ∧ μ' = μ)) := by
  refine PC.of (by decide +kernel) (Nat.le_of_ble_eq_true rfl) ?_
  refine P_sub (L' := [(0, vr 1)]) [0] rfl ?_
  refine P_aload_n (pc := 0) dX3_everyWay_0 rfl 0 rfl ?_
  refine P_callVi (Y' := mX3_namedUnknowns) (as := []) (pc := 1) dX3_everyWay_1 rfl (by decide : 1 < 2) sC_1 rfl ml_RX3_64 im_X3_namedUnknowns se_X3_namedUnknowns mk_X3_namedUnknowns (Nat.le_of_ble_eq_true rfl) (c_X3_namedUnknowns hR hK) (fun z_ μ_ hq => ?_)
  obtain ⟨rfl, hμ_⟩ := hq
  have hμ_ := hμ_.symm
  subst hμ_
  try simp (disch := decide) only [putI_ne, putI_self, putI_nej]
  refine P_istore_n (L' := [(1, vi _), (0, vr 1)]) (pc := 4) dX3_everyWay_4 rfl (by decide) rfl ?_
  refine P_ldc2 (b := BitVec.allOnes 64) (pc := 5) dX3_everyWay_5 kl_RX3_68 (by decide +kernel) ?_
  refine P_lstore_n (L' := [(2, vl _), (1, vi _), (0, vr 1)]) (pc := 8) dX3_everyWay_8 rfl (by decide) rfl ?_
  refine P_iconst (pc := 9) dX3_everyWay_9 ?_
  refine P_istore (L' := [(4, vi _), (2, vl _), (1, vi _), (0, vr 1)]) (pc := 10) dX3_everyWay_10 (by decide) rfl ?_
  refine P_sub (L' := [(0, vr 1), (1, vi _), (2, vl _), (4, vi _)]) [3, 2, 1, 0] rfl ?_
  exact l_X3_everyWay (nmK_lt hK) 7 0 0 rfl (by omega) (by omega)
set_option maxHeartbeats 1000000 in
set_option maxRecDepth 100000 in
theorem c_X3_setRule {μ : Mem} {t v : Int} (ht : 0 ≤ t ∧ t < 3) : PC shC 0 mX3_setRule [vr 1, vi t, vi v] (μ) (QI (fun z μ' => z = μ.1 12 t ∧ μ' = cRule μ t v)) := by
  refine PC.of (by decide +kernel) (Nat.le_of_ble_eq_true rfl) ?_
  refine P_sub (L' := [(0, vr 1), (1, vi t), (2, vi v)]) [0, 1, 2] rfl ?_
  refine P_iload_n (pc := 0) dX3_setRule_0 rfl 1 rfl ?_
  refine P_if_lt (tgt := 13) (pc := 1) dX3_setRule_1 (by decide) (by first | assumption | (unfold InR; omega)) (fun c_1 => ?_) (fun c_1 => ?_)
  · refine P_iconst (pc := 13) dX3_setRule_13 ?_
    exact P_iret (pc := 14) dX3_setRule_14 rfl (QI.mk (by first | (exfalso; omega) | exact ⟨rfl, rfl⟩))
  · refine P_iload_n (pc := 4) dX3_setRule_4 rfl 1 rfl ?_
    refine P_aload_n (pc := 5) dX3_setRule_5 rfl 0 rfl ?_
    refine P_getR (pc := 6) dX3_setRule_6 fa_RX3_18 sC_1 fC1_2 ?_
    refine P_alen (pc := 9) dX3_setRule_9 sC_12 (by decide) ?_
    refine P_icmp_lt (tgt := 15) (pc := 10) dX3_setRule_10 (by decide) (by first | assumption | (unfold InR; omega)) (by first | assumption | (unfold InR; omega)) (fun c_10 => ?_) (fun c_10 => ?_)
    · refine P_aload_n (pc := 15) dX3_setRule_15 rfl 0 rfl ?_
      refine P_getR (pc := 16) dX3_setRule_16 fa_RX3_18 sC_1 fC1_2 ?_
      refine P_iload_n (pc := 19) dX3_setRule_19 rfl 1 rfl ?_
      refine P_iald (pc := 20) dX3_setRule_20 sC_12 (by omega) (by omega) (by decide) ?_
      try simp (disch := decide) only [putI_ne, putI_self, putI_nej]
      refine P_istore_n (L' := [(3, vi _), (0, vr 1), (1, vi _), (2, vi _)]) (pc := 21) dX3_setRule_21 rfl (by decide) rfl ?_
      refine P_aload_n (pc := 22) dX3_setRule_22 rfl 1 rfl ?_
      refine P_getR (pc := 23) dX3_setRule_23 fa_RX3_18 sC_1 fC1_2 ?_
      refine P_iload_n (pc := 26) dX3_setRule_26 rfl 2 rfl ?_
      refine P_iload_n (pc := 27) dX3_setRule_27 rfl 3 rfl ?_
      refine P_iast (pc := 28) dX3_setRule_28 sC_12 (by omega) (by omega) (by decide) ?_
      try simp (disch := decide) only [putI_ne, putI_self, putI_nej]
      refine P_aload_n (pc := 29) dX3_setRule_29 rfl 1 rfl ?_
      refine P_dup (pc := 30) dX3_setRule_30 rfl ?_
      refine P_getI (jj := 12) (pc := 31) dX3_setRule_31 fa_RX3_44 sC_1 fC1_12 rfl ?_
      try simp (disch := decide) only [putI_ne, putI_self, putI_nej]
      refine P_iconst (pc := 34) dX3_setRule_34 ?_
      refine P_iadd (pc := 35) dX3_setRule_35 ?_
      refine P_putI (jj := 12) (pc := 36) dX3_setRule_36 fa_RX3_44 fp_3_12 sC_1 fC1_12 rfl ?_
      try simp (disch := decide) only [putI_ne, putI_self, putI_nej]
      refine P_iload_n (pc := 39) dX3_setRule_39 rfl 0 rfl ?_
      exact P_iret (pc := 40) dX3_setRule_40 rfl (QI.mk (by first | (exfalso; omega) | exact ⟨rfl, rfl⟩))
    · refine P_iconst (pc := 13) dX3_setRule_13 ?_
      exact P_iret (pc := 14) dX3_setRule_14 rfl (QI.mk (by first | (exfalso; omega) | exact ⟨rfl, rfl⟩))
