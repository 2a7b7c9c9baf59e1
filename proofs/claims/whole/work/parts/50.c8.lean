/-- the planes at the beginning, when the things below t have been looked at -/
def bgF (W : Nat) (t : Int) (old : Int → BitVec 64) : Int → BitVec 64 := fun j => if 0 ≤ j ∧ j < 156 then (if j % 13 = 9 ∧ j / 13 < t ∧ W.testBit (j / 13).toNat = true then BitVec.allOnes 64 else 0#64) else old j
theorem bgF_0 {W : Nat} {old : Int → BitVec 64} : fiF (0#64) 156 old = bgF W 0 old := by
  funext j
  unfold fiF bgF
  by_cases h : 0 ≤ j ∧ j < 156
  · rw [if_pos h, if_pos h, if_neg (by omega)]
  · rw [if_neg h, if_neg h]
theorem bgF_s {W : Nat} {t : Int} {old : Int → BitVec 64} {v : BitVec 64} (h : 0 ≤ t ∧ t < 12) (hv : v = if W.testBit t.toNat = true then BitVec.allOnes 64 else 0#64) : (fun j => if j = t * 13 + 9 then v else bgF W t old j) = bgF W (t + 1) old := by
  funext j
  by_cases a : j = t * 13 + 9
  · have e1 : j / 13 = t := by omega
    have e2 : j % 13 = 9 := by omega
    have e3 : 0 ≤ j ∧ j < 156 := by omega
    rw [if_pos a, hv]
    unfold bgF
    rw [if_pos e3, e1]
    by_cases q : W.testBit t.toNat = true
    · rw [if_pos q, if_pos ⟨e2, by omega, q⟩]
    · rw [if_neg q, if_neg (fun z => q z.2.2)]
  · rw [if_neg a]
    unfold bgF
    by_cases e3 : 0 ≤ j ∧ j < 156
    · rw [if_pos e3, if_pos e3]
      by_cases q : j % 13 = 9 ∧ j / 13 < t ∧ W.testBit (j / 13).toNat = true
      · rw [if_pos q, if_pos ⟨q.1, by omega, q.2.2⟩]
      · rw [if_neg q, if_neg (fun z => q ⟨z.1, by omega, z.2.2⟩)]
    · rw [if_neg e3, if_neg e3]
set_option maxHeartbeats 1000000 in
set_option maxRecDepth 100000 in
theorem c_X4_uncleanAt {μ : Mem} {b : Nat} {t h : Int} (hb : b < 2) (ht : 0 ≤ t ∧ t < 12) (hh : 0 ≤ h ∧ h < 48) : PC shC 0 mX4_uncleanAt [vr (3 + b), vi t, vi h] (μ) (QL (fun z μ' => z = μ.2 (23 + 7 * b) (h * 12 + t) ∧ μ' = μ)) := by
  refine PC.of (by decide +kernel) (Nat.le_of_ble_eq_true rfl) ?_
  refine P_sub (L' := [(0, vr (3 + b)), (1, vi t), (2, vi h)]) [0, 1, 2] rfl ?_
  refine P_iload_n (pc := 0) dX4_uncleanAt_0 rfl 1 rfl ?_
  refine P_if_lt (tgt := 20) (pc := 1) dX4_uncleanAt_1 (by decide) (by first | assumption | (unfold InR; omega)) (fun c_1 => ?_) (fun c_1 => ?_)
  · refine P_lconst (b := 0#64) (pc := 20) dX4_uncleanAt_20 rfl ?_
    exact P_lret (pc := 21) dX4_uncleanAt_21 rfl (QL.mk (by first | (exfalso; omega) | exact ⟨rfl, rfl⟩))
  · refine P_iload_n (pc := 4) dX4_uncleanAt_4 rfl 1 rfl ?_
    refine P_bipush (pc := 5) dX4_uncleanAt_5 (by decide) ?_
    refine P_icmp_ge (tgt := 20) (pc := 7) dX4_uncleanAt_7 (by decide) (by first | assumption | (unfold InR; omega)) (by first | assumption | (unfold InR; omega)) (fun c_7 => ?_) (fun c_7 => ?_)
    · refine P_lconst (b := 0#64) (pc := 20) dX4_uncleanAt_20 rfl ?_
      exact P_lret (pc := 21) dX4_uncleanAt_21 rfl (QL.mk (by first | (exfalso; omega) | exact ⟨rfl, rfl⟩))
    · refine P_iload_n (pc := 10) dX4_uncleanAt_10 rfl 2 rfl ?_
      refine P_if_lt (tgt := 20) (pc := 11) dX4_uncleanAt_11 (by decide) (by first | assumption | (unfold InR; omega)) (fun c_11 => ?_) (fun c_11 => ?_)
      · refine P_lconst (b := 0#64) (pc := 20) dX4_uncleanAt_20 rfl ?_
        exact P_lret (pc := 21) dX4_uncleanAt_21 rfl (QL.mk (by first | (exfalso; omega) | exact ⟨rfl, rfl⟩))
      · refine P_iload_n (pc := 14) dX4_uncleanAt_14 rfl 2 rfl ?_
        refine P_bipush (pc := 15) dX4_uncleanAt_15 (by decide) ?_
        refine P_icmp_lt (tgt := 22) (pc := 17) dX4_uncleanAt_17 (by decide) (by first | assumption | (unfold InR; omega)) (by first | assumption | (unfold InR; omega)) (fun c_17 => ?_) (fun c_17 => ?_)
        · refine P_aload_n (pc := 22) dX4_uncleanAt_22 rfl 0 rfl ?_
          refine P_getR (pc := 23) dX4_uncleanAt_23 fa_RX4_15 (sS_o hb) fS_3 ?_
          refine P_iload_n (pc := 26) dX4_uncleanAt_26 rfl 2 rfl ?_
          refine P_bipush (pc := 27) dX4_uncleanAt_27 (by decide) ?_
          refine P_imul (pc := 29) dX4_uncleanAt_29 ?_
          refine P_iload_n (pc := 30) dX4_uncleanAt_30 rfl 1 rfl ?_
          refine P_iadd (pc := 31) dX4_uncleanAt_31 ?_
          refine P_lald (pc := 32) dX4_uncleanAt_32 (sS_23 hb) (by omega) (by omega) (by decide) ?_
          try simp (disch := decide) only [putI_ne, putI_self, putI_nej]
          exact P_lret (pc := 33) dX4_uncleanAt_33 rfl (QL.mk (by first | (exfalso; omega) | exact ⟨rfl, rfl⟩))
        · refine P_lconst (b := 0#64) (pc := 20) dX4_uncleanAt_20 rfl ?_
          exact P_lret (pc := 21) dX4_uncleanAt_21 rfl (QL.mk (by first | (exfalso; omega) | exact ⟨rfl, rfl⟩))
set_option maxHeartbeats 1000000 in
set_option maxRecDepth 100000 in
theorem l_X4_begin {μ : Mem} {b W : Nat} (hb : b < 2) (hW : μ.1 1 10 = (W : Int)) (hW2 : W < 4096) : ∀ (n : Nat) (t : Int), 0 ≤ t ∧ t ≤ 12 → (12 - t).toNat < n → PW shC 1 mX4_begin 10 [(0, vr (3 + b)), (1, vi t)] [] (rowL μ (22 + 7 * b) (bgF W t (μ.2 (22 + 7 * b)))) (QV (fun μ' => μ' = rowL μ (22 + 7 * b) (bgF W 12 (μ.2 (22 + 7 * b))))) := by
  intro n
  induction n with
  | zero => intro t _ q; omega
  | succ n ih =>
  intro t ht hn
  refine P_iload_n (pc := 10) dX4_begin_10 rfl 1 rfl ?_
  refine P_bipush (pc := 11) dX4_begin_11 (by decide) ?_
  refine P_icmp_ge (tgt := 52) (pc := 13) dX4_begin_13 (by decide) (by first | assumption | (unfold InR; omega)) (by first | assumption | (unfold InR; omega)) (fun c_13 => ?_) (fun c_13 => ?_)
  · exact P_vret (pc := 52) dX4_begin_52 rfl (QV.mk (by have e9 : t = 12 := (by omega); subst e9; rfl))
  · refine P_aload_n (pc := 16) dX4_begin_16 rfl 0 rfl ?_
    refine P_getR (pc := 17) dX4_begin_17 fa_RX4_9 (sS_o hb) fS_2 ?_
    refine P_iload_n (pc := 20) dX4_begin_20 rfl 1 rfl ?_
    refine P_bipush (pc := 21) dX4_begin_21 (by decide) ?_
    refine P_imul (pc := 23) dX4_begin_23 ?_
    refine P_bipush (pc := 24) dX4_begin_24 (by decide) ?_
    refine P_iadd (pc := 26) dX4_begin_26 ?_
    refine P_aload_n (pc := 27) dX4_begin_27 rfl 0 rfl ?_
    refine P_getR (pc := 28) dX4_begin_28 fa_RX4_38 (sS_o hb) fS_0 ?_
    refine P_iload_n (pc := 31) dX4_begin_31 rfl 1 rfl ?_
    refine P_callVi (Y' := mX3_isWet) (as := [_]) (pc := 32) dX4_begin_32 rfl (by decide : 0 < 1) sC_1 rfl ml_RX4_81 im_X3_isWet se_X3_isWet mk_X3_isWet (Nat.le_of_ble_eq_true rfl) (c_X3_isWet hW hW2 (by omega)) (fun z_ μ_ hq => ?_)
    obtain ⟨hz, hμ_⟩ := hq
    subst hμ_
    have hz := ite01 hz
    try simp only [rowL_put]
    refine P_if_eq (tgt := 44) (pc := 35) dX4_begin_35 (by decide) (by first | assumption | (unfold InR; omega)) (fun c_35 => ?_) (fun c_35 => ?_)
    · refine P_lconst (b := 0#64) (pc := 44) dX4_begin_44 rfl ?_
      refine P_last (pc := 45) dX4_begin_45 (sS_22 hb) (by omega) (by omega) (by decide) ?_
      try simp only [rowL_put]
      refine P_iinc (L' := [(1, vi _), (0, vr (3 + b))]) (pc := 46) dX4_begin_46 (by decide) 1 rfl rfl ?_
      refine P_goto (tgt := 10) (pc := 49) dX4_begin_49 (by decide) ?_
      refine P_sub (L' := [(0, vr (3 + b)), (1, vi _)]) [1, 0] rfl ?_
      refine P_cast (L' := [(0, vr (3 + b)), (1, vi (t + 1))]) rfl ?_ (ih (t + 1) (by omega) (by omega))
      first
        | rw [bgF_s (by omega) (by rw [if_pos (by first | exact (by rcases hz with q | q; omega; exact q.2))]; try rfl)]
        | rw [bgF_s (by omega) (by rw [if_neg (by first | exact (by rcases hz with q | q; exact q.2; omega))]; try rfl)]
    · refine P_ldc2 (b := BitVec.allOnes 64) (pc := 38) dX4_begin_38 kl_RX4_63 (by decide +kernel) ?_
      refine P_goto (tgt := 45) (pc := 41) dX4_begin_41 (by decide) ?_
      refine P_last (pc := 45) dX4_begin_45 (sS_22 hb) (by omega) (by omega) (by decide) ?_
      try simp only [rowL_put]
      refine P_iinc (L' := [(1, vi _), (0, vr (3 + b))]) (pc := 46) dX4_begin_46 (by decide) 1 rfl rfl ?_
      refine P_goto (tgt := 10) (pc := 49) dX4_begin_49 (by decide) ?_
      refine P_sub (L' := [(0, vr (3 + b)), (1, vi _)]) [1, 0] rfl ?_
      refine P_cast (L' := [(0, vr (3 + b)), (1, vi (t + 1))]) rfl ?_ (ih (t + 1) (by omega) (by omega))
      first
        | rw [bgF_s (by omega) (by rw [if_pos (by first | exact (by rcases hz with q | q; omega; exact q.2))]; try rfl)]
        | rw [bgF_s (by omega) (by rw [if_neg (by first | exact (by rcases hz with q | q; exact q.2; omega))]; try rfl)]
set_option maxHeartbeats 1000000 in
set_option maxRecDepth 100000 in
theorem c_X4_begin {μ : Mem} {b : Nat} {W : Nat} (hb : b < 2) (hW : μ.1 1 10 = (W : Int)) (hW2 : W < 4096) : PC shC 1 mX4_begin [vr (3 + b)] (μ) (QV (fun μ' => μ' = rowL μ (22 + 7 * b) (bgF W 12 (μ.2 (22 + 7 * b))))) := by
  refine PC.of (by decide +kernel) (Nat.le_of_ble_eq_true rfl) ?_
  refine P_sub (L' := [(0, vr (3 + b))]) [0] rfl ?_
  refine P_aload_n (pc := 0) dX4_begin_0 rfl 0 rfl ?_
  refine P_getR (pc := 1) dX4_begin_1 fa_RX4_9 (sS_o hb) fS_2 ?_
  refine P_lconst (b := 0#64) (pc := 4) dX4_begin_4 rfl ?_
  refine P_callSv (Y' := mJ7_fill_d0a16) (as := [_, _]) (pc := 5) dX4_begin_5 rfl (by decide : 0 < 1) ml_RX4_78 sm_J7_fill_d0a16 mk_J7_fill_d0a16 (Nat.le_of_ble_eq_true rfl) (c_fill_now hb) (fun μ_ hq => ?_)
  subst hq
  try simp only [rowL_put]
  refine P_iconst (pc := 8) dX4_begin_8 ?_
  refine P_istore_n (L' := [(1, vi _), (0, vr (3 + b))]) (pc := 9) dX4_begin_9 rfl (by decide) rfl ?_
  refine P_sub (L' := [(0, vr (3 + b)), (1, vi _)]) [1, 0] rfl ?_
  rw [bgF_0 (W := W)]
  exact l_X4_begin hb hW hW2 13 0 (by omega) (by omega)
