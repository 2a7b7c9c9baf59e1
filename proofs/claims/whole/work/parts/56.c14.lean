theorem rnC_in {T : Int → Int} {L lo hi bar a : Int} (hT : TL T L) (hl : 0 ≤ lo) : ((rnC T L lo hi bar a).1 = -2 ∧ (rnC T L lo hi bar a).2 = a) ∨ (lo ≤ (rnC T L lo hi bar a).1 ∧ (rnC T L lo hi bar a).1 ≤ hi ∧ (rnC T L lo hi bar a).1 ≠ bar ∧ a < (rnC T L lo hi bar a).2 ∧ (rnC T L lo hi bar a).2 ≤ L) := by
  have h := nmR_in (lo := lo) (hi := hi) (a := a) hT hl
  unfold rnC
  by_cases q : (nmR T L lo hi a).1 < 0 ∨ (nmR T L lo hi a).1 = bar
  · rw [if_pos q]; exact Or.inl ⟨rfl, rfl⟩
  · rw [if_neg q]; exact Or.inr (by omega)
set_option maxHeartbeats 1000000 in
set_option maxRecDepth 100000 in
theorem c_X1_readSecond {μ : Mem} {a : Int} {k x : Int} (hT : TL (μ.1 37) (μ.1 8 2)) (ha : 0 ≤ a ∧ a ≤ μ.1 8 2) (hk : InR k) (hx : 0 ≤ x ∧ x ≤ 11) (hn : 0 ≤ μ.1 1 6 ∧ μ.1 1 6 ≤ 12) : PC shC 3 mX1_readSecond [vr 8, vi k, vi x] (plM μ a) (QI (fun z μ' => z = (if k = 9 then rnC (μ.1 37) (μ.1 8 2) 1 4 (-1) a else rnC (μ.1 37) (μ.1 8 2) 0 (μ.1 1 6 - 1) x a).1 ∧ μ' = plM μ (if k = 9 then rnC (μ.1 37) (μ.1 8 2) 1 4 (-1) a else rnC (μ.1 37) (μ.1 8 2) 0 (μ.1 1 6 - 1) x a).2)) := by
  refine PC.of (by decide +kernel) (Nat.le_of_ble_eq_true rfl) ?_
  refine P_sub (L' := [(0, vr 8), (1, vi k), (2, vi x)]) [0, 1, 2] rfl ?_
  have hT2 := hT.2
  refine P_iload_n (pc := 0) dX1_readSecond_0 rfl 1 rfl ?_
  refine P_bipush (pc := 1) dX1_readSecond_1 (by decide) ?_
  refine P_icmp_ne (tgt := 14) (pc := 3) dX1_readSecond_3 (by decide) (by first | assumption | (unfold InR; omega)) (by first | assumption | (unfold InR; omega)) (fun c_3 => ?_) (fun c_3 => ?_)
  · refine P_aload_n (pc := 14) dX1_readSecond_14 rfl 0 rfl ?_
    refine P_iconst (pc := 15) dX1_readSecond_15 ?_
    refine P_aload_n (pc := 16) dX1_readSecond_16 rfl 0 rfl ?_
    refine P_getR (pc := 17) dX1_readSecond_17 fa_RX1_15 sC_8 fC8_0 ?_
    refine P_getI (jj := 6) (pc := 20) dX1_readSecond_20 fa_RX1_43 sC_1 fC1_6 rfl ?_
    try simp (disch := decide) only [pl_3, pl_2, pl_q, pl_put]
    refine P_iconst (pc := 23) dX1_readSecond_23 ?_
    refine P_isub (pc := 24) dX1_readSecond_24 ?_
    refine P_iload_n (pc := 25) dX1_readSecond_25 rfl 2 rfl ?_
    refine P_callVi (Y' := mX1_readNumber) (as := [_, _, _]) (pc := 26) dX1_readSecond_26 rfl (by decide : 2 < 3) sC_8 rfl ml_RX1_69 im_X1_readNumber se_X1_readNumber mk_X1_readNumber (Nat.le_of_ble_eq_true rfl) (c_X1_readNumber hT (by omega) (by omega) (by omega)) (fun z_ μ_ hq => ?_)
    obtain ⟨hz, hμ_, hi_⟩ := hq
    subst hμ_
    subst hz
    try simp (disch := decide) only [pl_3, pl_2, pl_q, pl_put]
    exact P_iret (pc := 29) dX1_readSecond_29 rfl (QI.mk (by first | (rw [if_pos (by omega)]; exact ⟨rfl, rfl⟩) | (rw [if_neg (by omega)]; exact ⟨rfl, rfl⟩)))
  · refine P_aload_n (pc := 6) dX1_readSecond_6 rfl 0 rfl ?_
    refine P_iconst (pc := 7) dX1_readSecond_7 ?_
    refine P_iconst (pc := 8) dX1_readSecond_8 ?_
    refine P_iconst (pc := 9) dX1_readSecond_9 ?_
    refine P_callVi (Y' := mX1_readNumber) (as := [_, _, _]) (pc := 10) dX1_readSecond_10 rfl (by decide : 2 < 3) sC_8 rfl ml_RX1_69 im_X1_readNumber se_X1_readNumber mk_X1_readNumber (Nat.le_of_ble_eq_true rfl) (c_X1_readNumber hT (by omega) (by omega) (by omega)) (fun z_ μ_ hq => ?_)
    obtain ⟨hz, hμ_, hi_⟩ := hq
    subst hμ_
    subst hz
    try simp (disch := decide) only [pl_3, pl_2, pl_q, pl_put]
    exact P_iret (pc := 13) dX1_readSecond_13 rfl (QI.mk (by first | (rw [if_pos (by omega)]; exact ⟨rfl, rfl⟩) | (rw [if_neg (by omega)]; exact ⟨rfl, rfl⟩)))
