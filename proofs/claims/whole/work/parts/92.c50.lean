set_option maxHeartbeats 1000000 in
set_option maxRecDepth 100000 in
theorem c_X1_readThing_f {μ : Mem} {a : Int} (hT : TL (μ.1 37) (μ.1 8 2)) (ha : 0 ≤ a ∧ a ≤ μ.1 8 2) (hlt : a < μ.1 8 2) (h6 : μ.1 1 6 = 12) : PC shC 2 mX1_readThing [vr 8] (plM μ a) (QI (fun z μ' => z = 0 ∧ μ' = plM μ a)) := by
  refine PC.of (by decide +kernel) (Nat.le_of_ble_eq_true rfl) ?_
  refine P_sub (L' := [(0, vr 8)]) [0] rfl ?_
  have hT2 := hT.2
  refine P_aload_n (pc := 0) dX1_readThing_0 rfl 0 rfl ?_
  refine P_getR (pc := 1) dX1_readThing_1 fa_RX1_15 sC_8 fC8_0 ?_
  refine P_getI (jj := 6) (pc := 4) dX1_readThing_4 fa_RX1_43 sC_1 fC1_6 rfl ?_
  try simp (disch := decide) only [pl_3, pl_2, pl_q, pl_put]
  refine P_bipush (pc := 7) dX1_readThing_7 (by decide) ?_
  refine P_icmp_lt (tgt := 14) (pc := 9) dX1_readThing_9 (by decide) (by first | assumption | (unfold InR; omega)) (by first | assumption | (unfold InR; omega)) (fun c_9 => ?_) (fun c_9 => ?_)
  · exfalso; omega
  · refine P_iconst (pc := 12) dX1_readThing_12 ?_
    exact P_zret (pc := 13) dX1_readThing_13 rfl (by omega) (QI.mk (by exact ⟨rfl, rfl⟩))
set_option maxHeartbeats 1000000 in
set_option maxRecDepth 100000 in
theorem c_X1_readEvent_f {μ : Mem} {a : Int} (hT : TL (μ.1 37) (μ.1 8 2)) (ha : 0 ≤ a ∧ a ≤ μ.1 8 2) (hlt : a < μ.1 8 2) (h7 : μ.1 1 7 = 60) : PC shC 3 mX1_readEvent [vr 8] (plM μ a) (QI (fun z μ' => z = 0 ∧ μ' = plM μ a)) := by
  refine PC.of (by decide +kernel) (Nat.le_of_ble_eq_true rfl) ?_
  refine P_sub (L' := [(0, vr 8)]) [0] rfl ?_
  have hT2 := hT.2
  refine P_aload_n (pc := 0) dX1_readEvent_0 rfl 0 rfl ?_
  refine P_getR (pc := 1) dX1_readEvent_1 fa_RX1_15 sC_8 fC8_0 ?_
  refine P_getI (jj := 7) (pc := 4) dX1_readEvent_4 fa_RX1_66 sC_1 fC1_7 rfl ?_
  try simp (disch := decide) only [pl_3, pl_2, pl_q, pl_put]
  refine P_bipush (pc := 7) dX1_readEvent_7 (by decide) ?_
  refine P_icmp_lt (tgt := 14) (pc := 9) dX1_readEvent_9 (by decide) (by first | assumption | (unfold InR; omega)) (by first | assumption | (unfold InR; omega)) (fun c_9 => ?_) (fun c_9 => ?_)
  · exfalso; omega
  · refine P_iconst (pc := 12) dX1_readEvent_12 ?_
    exact P_zret (pc := 13) dX1_readEvent_13 rfl (by omega) (QI.mk (by exact ⟨rfl, rfl⟩))
theorem st_thing {n a : Int} {μ ν : Mem} (h : RLN n μ ν) (ha : 0 ≤ a ∧ a < ν.1 0 14) (hs : sgn (ν.1 12) (ν.1 0 14) a = 116) : PC shC 2 mX1_readThing [vr 8] (plM μ a) (QI (fun z μ' => z = (stR ν a).1 ∧ ∃ μ2, RLN (n + 1) μ2 (stR ν a).2.2 ∧ μ' = plM μ2 (stR ν a).2.1)) := by
  obtain ⟨hT', e12, e14⟩ := id h.2.1
  have hT : TL (μ.1 37) (μ.1 8 2) := by rw [e12, e14]; exact hT'
  have h6 := RL_6 h
  have h7 := RL_7 h
  have hkr := h.1.2.2.2.1
  have h10 : μ.1 10 = ν.1 2 := hkr.2.1
  have hk10 : ∀ j, 0 ≤ μ.1 10 j ∧ μ.1 10 j ≤ 5 := by rw [h10]; exact h.1.1.1.2.2.1
  have em : mjC μ = mjD ν.1 := by unfold mjC mjD; rw [h6.1, h10]
  obtain ⟨W_, hW, hW2, -⟩ := hkr.2.2.2.2.2
  obtain ⟨H_, hH, hH2, -⟩ := h.1.2.2.2.2.1
  by_cases q : ν.1 0 11 < 12
  · have e : stR ν a = ((rdT (ν.1 12) (ν.1 0 14) (mjD ν.1) (a + 1)).1, (rdT (ν.1 12) (ν.1 0 14) (mjD ν.1) (a + 1)).2.1, if (rdT (ν.1 12) (ν.1 0 14) (mjD ν.1) (a + 1)).1 = 1 then comesM ν (rdT (ν.1 12) (ν.1 0 14) (mjD ν.1) (a + 1)).2.2.1 (rdT (ν.1 12) (ν.1 0 14) (mjD ν.1) (a + 1)).2.2.2.1 (rdT (ν.1 12) (ν.1 0 14) (mjD ν.1) (a + 1)).2.2.2.2 else ν) := by
      unfold stR
      rw [if_pos ⟨hs, q⟩]
    have g := c_X1_readThing (a := a) hT (by omega) (by omega) (by omega) hk10 hW hH
    rw [em, e12, e14] at g
    refine PC.post g (fun r μ' hq => ?_)
    obtain ⟨z, e0, q1, q2⟩ := hq
    refine ⟨z, e0, ?_⟩
    rw [e]
    have hin := rdT_in (d := mjD ν.1) (a := a + 1) hT' (by omega)
    by_cases k : (rdT (ν.1 12) (ν.1 0 14) (mjD ν.1) (a + 1)).1 = 1
    · rw [if_pos k] at q2
      have h1 := hin.1.resolve_left (by omega)
      have h2 := mjD_in ν.1
      exact ⟨q1, _, by dsimp only; rw [if_pos k]; exact UP_thing h hW hH q (by omega) h1.2.2.2.1 h1.2.2.2.2, q2⟩
    · rw [if_neg k] at q2
      exact ⟨q1, _, by dsimp only; rw [if_neg k]; exact RL_mono h (by omega), q2⟩
  · have e : stR ν a = (0, a, ν) := by
      unfold stR
      rw [if_neg (by omega), if_neg (by omega), if_neg (by omega)]
    refine PC.post (c_X1_readThing_f (a := a) hT (by omega) (by omega) (by omega)) (fun r μ' hq => ?_)
    obtain ⟨z, e0, q1, q2⟩ := hq
    rw [e]
    exact ⟨z, e0, q1, μ, RL_mono h (by omega), q2⟩
theorem st_event {n a : Int} {μ ν : Mem} (h : RLN n μ ν) (ha : 0 ≤ a ∧ a < ν.1 0 14) (hs : sgn (ν.1 12) (ν.1 0 14) a = 101) : PC shC 3 mX1_readEvent [vr 8] (plM μ a) (QI (fun z μ' => z = (stR ν a).1 ∧ ∃ μ2, RLN (n + 1) μ2 (stR ν a).2.2 ∧ μ' = plM μ2 (stR ν a).2.1)) := by
  obtain ⟨hT', e12, e14⟩ := id h.2.1
  have hT : TL (μ.1 37) (μ.1 8 2) := by rw [e12, e14]; exact hT'
  have h6 := RL_6 h
  have h7 := RL_7 h
  have hkr := h.1.2.2.2.1
  have h10 : μ.1 10 = ν.1 2 := hkr.2.1
  have hk10 : ∀ j, 0 ≤ μ.1 10 j ∧ μ.1 10 j ≤ 5 := by rw [h10]; exact h.1.1.1.2.2.1
  have em : mjC μ = mjD ν.1 := by unfold mjC mjD; rw [h6.1, h10]
  by_cases q : ν.1 0 12 < 60
  · have e : stR ν a = ((rdE (ν.1 12) (ν.1 0 14) (ν.1 0 11) (a + 1)).1, (rdE (ν.1 12) (ν.1 0 14) (ν.1 0 11) (a + 1)).2.1, if (rdE (ν.1 12) (ν.1 0 14) (ν.1 0 11) (a + 1)).1 = 1 then happM ν (rdE (ν.1 12) (ν.1 0 14) (ν.1 0 11) (a + 1)).2.2.1 (rdE (ν.1 12) (ν.1 0 14) (ν.1 0 11) (a + 1)).2.2.2.1 (rdE (ν.1 12) (ν.1 0 14) (ν.1 0 11) (a + 1)).2.2.2.2.1 (rdE (ν.1 12) (ν.1 0 14) (ν.1 0 11) (a + 1)).2.2.2.2.2.1 (rdE (ν.1 12) (ν.1 0 14) (ν.1 0 11) (a + 1)).2.2.2.2.2.2 else ν) := by
      unfold stR
      rw [if_neg (by omega), if_pos ⟨hs, q⟩]
    have g := c_X1_readEvent (a := a) hT (by omega) (by omega) (by omega) (by omega)
    rw [e12, e14, h6.1] at g
    refine PC.post g (fun r μ' hq => ?_)
    obtain ⟨z, e0, q1, q2⟩ := hq
    refine ⟨z, e0, ?_⟩
    rw [e]
    have hin := rdE_in (n := ν.1 0 11) (a := a + 1) hT' (by omega)
    by_cases k : (rdE (ν.1 12) (ν.1 0 14) (ν.1 0 11) (a + 1)).1 = 1
    · rw [if_pos k] at q2
      have h3 := hin.1.resolve_left (by omega)
      refine ⟨q1, _, ?_, q2⟩
      dsimp only
      rw [if_pos k]
      have u := h3.2.2.2.2.2.2
      exact UP_event h q h3.2.1 h3.2.2.1 h3.2.2.2.1 (fun z => by have w := h3.2.2.2.2.1 z; omega) h3.2.2.2.2.2.1 (by omega) (by omega)
    · rw [if_neg k] at q2
      exact ⟨q1, _, by dsimp only; rw [if_neg k]; exact RL_mono h (by omega), q2⟩
  · have e : stR ν a = (0, a, ν) := by
      unfold stR
      rw [if_neg (by omega), if_neg (by omega), if_neg (by omega)]
    refine PC.post (c_X1_readEvent_f (a := a) hT (by omega) (by omega) (by omega)) (fun r μ' hq => ?_)
    obtain ⟨z, e0, q1, q2⟩ := hq
    rw [e]
    exact ⟨z, e0, q1, μ, RL_mono h (by omega), q2⟩
theorem st_taken {n a : Int} {μ ν : Mem} (h : RLN n μ ν) (ha : 0 ≤ a ∧ a < ν.1 0 14) (hs : sgn (ν.1 12) (ν.1 0 14) a = 107) : PC shC 2 mX1_readTaken [vr 8] (plM μ a) (QI (fun z μ' => z = (stR ν a).1 ∧ ∃ μ2, RLN (n + 1) μ2 (stR ν a).2.2 ∧ μ' = plM μ2 (stR ν a).2.1)) := by
  obtain ⟨hT', e12, e14⟩ := id h.2.1
  have hT : TL (μ.1 37) (μ.1 8 2) := by rw [e12, e14]; exact hT'
  have h6 := RL_6 h
  have h7 := RL_7 h
  have hkr := h.1.2.2.2.1
  have h10 : μ.1 10 = ν.1 2 := hkr.2.1
  have hk10 : ∀ j, 0 ≤ μ.1 10 j ∧ μ.1 10 j ≤ 5 := by rw [h10]; exact h.1.1.1.2.2.1
  have em : mjC μ = mjD ν.1 := by unfold mjC mjD; rw [h6.1, h10]
  have e : stR ν a = ((rdK (ν.1 12) (ν.1 0 14) (a + 1)).1, (rdK (ν.1 12) (ν.1 0 14) (a + 1)).2.1, if (rdK (ν.1 12) (ν.1 0 14) (a + 1)).1 = 1 then putI ν 5 (rdK (ν.1 12) (ν.1 0 14) (a + 1)).2.2.1 (rdK (ν.1 12) (ν.1 0 14) (a + 1)).2.2.2 else ν) := by
    unfold stR
    rw [if_neg (by omega), if_neg (by omega), if_pos hs]
  have g := c_X1_readTaken (a := a) hT (by omega) (by omega)
  rw [e12, e14] at g
  refine PC.post g (fun r μ' hq => ?_)
  obtain ⟨z, e0, q1, q2⟩ := hq
  refine ⟨z, e0, ?_⟩
  rw [e]
  have hin := rdK_in (a := a + 1) hT' (by omega)
  by_cases k : (rdK (ν.1 12) (ν.1 0 14) (a + 1)).1 = 1
  · rw [if_pos k] at q2
    have h1 := hin.1.resolve_left (by omega)
    exact ⟨q1, _, by dsimp only; rw [if_pos k]; exact UP_take h (by omega) (by omega), q2⟩
  · rw [if_neg k] at q2
    exact ⟨q1, _, by dsimp only; rw [if_neg k]; exact RL_mono h (by omega), q2⟩
theorem RL_HI {n : Int} {μ ν : Mem} (h : RLN n μ ν) : HI ν := ⟨(RL_6 h).2, (RL_7 h).2, h.1.1.1.2.2.1, h.2.1.1⟩
theorem RL_end {n a : Int} {μ ν : Mem} (h : RLN n μ ν) : RLN n (putI (plM μ a) 8 2 0) (putI ν 0 14 0) := by
  obtain ⟨⟨t1, t2, t3⟩, e1, e2⟩ := id h.2.1
  refine RL_tx h (fun q x _ => by unfold plM; rw [putI_ne x, putI_ne x]) rfl (fun q x _ => putI_ne x) (fun j x _ _ => putI_nej x) ⟨⟨fun j => ?_, ?_, ?_⟩, ?_, ?_⟩
  · rw [putI_ne (by decide)]; exact t1 j
  · rw [putI_self]; decide
  · rw [putI_self]; decide
  · unfold plM
    rw [putI_ne (by decide), putI_ne (by decide), putI_ne (by decide)]
    exact e1
  · rw [putI_self, putI_self]
set_option maxHeartbeats 1000000 in
set_option maxRecDepth 100000 in
theorem c_X1_readStatement {n a : Int} {μ ν : Mem} (h : RLN n μ ν) (ha : 0 ≤ a ∧ a < ν.1 0 14) : PC shC 4 mX1_readStatement [vr 8] (plM μ a) (QI (fun z μ' => z = (stR ν a).1 ∧ ∃ μ2, RLN (n + 1) μ2 (stR ν a).2.2 ∧ μ' = plM μ2 (stR ν a).2.1)) := by
  refine PC.of (by decide +kernel) (Nat.le_of_ble_eq_true rfl) ?_
  refine P_sub (L' := [(0, vr 8)]) [0] rfl ?_
  obtain ⟨hT', e12, e14⟩ := id h.2.1
  have hT : TL (μ.1 37) (μ.1 8 2) := by rw [e12, e14]; exact hT'
  have h6 := RL_6 h
  have h7 := RL_7 h
  have hkr := h.1.2.2.2.1
  have h10 : μ.1 10 = ν.1 2 := hkr.2.1
  have hk10 : ∀ j, 0 ≤ μ.1 10 j ∧ μ.1 10 j ≤ 5 := by rw [h10]; exact h.1.1.1.2.2.1
  have em : mjC μ = mjD ν.1 := by unfold mjC mjD; rw [h6.1, h10]
  have hst := (stR_in (RL_HI h) (a := a) (by omega)).1
  refine P_aload_n (pc := 0) dX1_readStatement_0 rfl 0 rfl ?_
  refine P_callVi (Y' := mX1_sign) (as := []) (pc := 1) dX1_readStatement_1 rfl (by decide : 0 < 4) sC_8 rfl ml_RX1_30 im_X1_sign se_X1_sign mk_X1_sign (Nat.le_of_ble_eq_true rfl) (c_X1_sign (a := a) hT (by omega)) (fun z_ μ_ hq => ?_)
  obtain ⟨hz, hμ_, hi_⟩ := hq
  subst hμ_
  rw [e12, e14] at hz hi_
  skip
  by_cases h_sw0 : z_ = 101
  · refine P_lookup (off := 41) (tgt := 45) (pc := 4) dX1_readStatement_4 (by decide) (by unfold InR; omega) (by first | (rw [h_sw0]; done) | (rw [h_sw0]; rfl)) (by decide) ?_
    refine P_aload_n (pc := 45) dX1_readStatement_45 rfl 0 rfl ?_
    refine P_callVi (Y' := mX1_readEvent) (as := []) (pc := 46) dX1_readStatement_46 rfl (by decide : 3 < 4) sC_8 rfl ml_RX1_37 im_X1_readEvent se_X1_readEvent mk_X1_readEvent (Nat.le_of_ble_eq_true rfl) (st_event h ha (hz.symm.trans (by assumption))) (fun z_ μ_ hq => ?_)
    obtain ⟨hz2, μ2, hR2, hμ_⟩ := hq
    subst hμ_
    skip
    exact P_zret (pc := 49) dX1_readStatement_49 rfl (by first | (exact Or.inl rfl) | (rcases hst with q | q; exact Or.inl (hz2.trans q); exact Or.inr (hz2.trans q.1))) (QI.mk (by exact ⟨hz2, μ2, hR2, rfl⟩))
  · by_cases h_sw1 : z_ = 107
    · refine P_lookup (off := 46) (tgt := 50) (pc := 4) dX1_readStatement_4 (by decide) (by unfold InR; omega) (by first | (rw [h_sw1]; done) | (rw [h_sw1]; rfl)) (by decide) ?_
      refine P_aload_n (pc := 50) dX1_readStatement_50 rfl 0 rfl ?_
      refine P_callVi (Y' := mX1_readTaken) (as := []) (pc := 51) dX1_readStatement_51 rfl (by decide : 2 < 4) sC_8 rfl ml_RX1_40 im_X1_readTaken se_X1_readTaken mk_X1_readTaken (Nat.le_of_ble_eq_true rfl) (st_taken h ha (hz.symm.trans (by assumption))) (fun z_ μ_ hq => ?_)
      obtain ⟨hz2, μ2, hR2, hμ_⟩ := hq
      subst hμ_
      skip
      exact P_zret (pc := 54) dX1_readStatement_54 rfl (by first | (exact Or.inl rfl) | (rcases hst with q | q; exact Or.inl (hz2.trans q); exact Or.inr (hz2.trans q.1))) (QI.mk (by exact ⟨hz2, μ2, hR2, rfl⟩))
    · by_cases h_sw2 : z_ = 116
      · refine P_lookup (off := 36) (tgt := 40) (pc := 4) dX1_readStatement_4 (by decide) (by unfold InR; omega) (by first | (rw [h_sw2]; done) | (rw [h_sw2]; rfl)) (by decide) ?_
        refine P_aload_n (pc := 40) dX1_readStatement_40 rfl 0 rfl ?_
        refine P_callVi (Y' := mX1_readThing) (as := []) (pc := 41) dX1_readStatement_41 rfl (by decide : 2 < 4) sC_8 rfl ml_RX1_34 im_X1_readThing se_X1_readThing mk_X1_readThing (Nat.le_of_ble_eq_true rfl) (st_thing h ha (hz.symm.trans (by assumption))) (fun z_ μ_ hq => ?_)
        obtain ⟨hz2, μ2, hR2, hμ_⟩ := hq
        subst hμ_
        skip
        exact P_zret (pc := 44) dX1_readStatement_44 rfl (by first | (exact Or.inl rfl) | (rcases hst with q | q; exact Or.inl (hz2.trans q); exact Or.inr (hz2.trans q.1))) (QI.mk (by exact ⟨hz2, μ2, hR2, rfl⟩))
      · refine P_lookup (off := 51) (tgt := 55) (pc := 4) dX1_readStatement_4 (by decide) (by unfold InR; omega) (by simp [Op.lookupswitch.offset]; repeat rw [if_neg (by omega)]) (by decide) ?_
        refine P_iconst (pc := 55) dX1_readStatement_55 ?_
        exact P_zret (pc := 56) dX1_readStatement_56 rfl (by first | (exact Or.inl rfl) | (rcases hst with q | q; exact Or.inl (hz2.trans q); exact Or.inr (hz2.trans q.1))) (QI.mk (by
              have e : stR ν a = (0, a, ν) := by
                unfold stR
                rw [if_neg (by omega), if_neg (by omega), if_neg (by omega)]
              rw [e]
              exact ⟨rfl, μ, RL_mono h (by omega), rfl⟩))
set_option maxHeartbeats 1000000 in
set_option maxRecDepth 100000 in
theorem l_X1_readAll {N0 : Int} {R : Int × Int × Int × Mem} : ∀ (f : Nat) (μ ν : Mem) (n a c ok : Int), RLN n μ ν → (0 ≤ a ∧ a ≤ ν.1 0 14) → (ok = 0 ∨ ok = 1) → (0 ≤ c ∧ c ≤ a) → n + ok ≤ N0 + c + 1 → 1 ≤ f → (ok = 1 → (ν.1 0 14 - a).toNat + 1 < f) → R = hsX ok f ν a c → PW shC 5 mX1_readAll 9 [(0, vr 8), (1, vi c), (2, vi ok)] [] (plM μ a) (QI (fun z μ' => z = (if R.1 = 1 then R.2.1 else -20 - R.2.2.1) ∧ RLN (N0 + 81) μ' (putI R.2.2.2 0 14 0))) := by
  intro f
  induction f with
  | zero => intro μ ν n a c ok _ _ _ _ _ q; omega
  | succ f ih =>
  intro μ ν n a c ok h ha hok hc hnn hf hf2 hR
  have hst := stR_in (RL_HI h) ha
  obtain ⟨hT', e12, e14⟩ := id h.2.1
  have hT2 := hT'.2
  refine P_iload_n (pc := 9) dX1_readAll_9 rfl 2 rfl ?_
  refine P_if_eq (tgt := 45) (pc := 10) dX1_readAll_10 (by decide) (by unfold InR; omega) (fun c_10 => ?_) (fun c_10 => ?_)
  · refine P_aload_n (pc := 45) dX1_readAll_45 rfl 0 rfl ?_
    refine P_iconst (pc := 46) dX1_readAll_46 ?_
    refine P_putI (jj := 2) (pc := 47) dX1_readAll_47 fa_RX1_19 fp_1_2 sC_8 fC8_2 rfl ?_
    try simp (disch := decide) only [pl_3, pl_2, putI_nej, putI_self]
    refine P_iload_n (pc := 50) dX1_readAll_50 rfl 2 rfl ?_
    refine P_if_eq (tgt := 58) (pc := 51) dX1_readAll_51 (by decide) (by unfold InR; omega) (fun c_51 => ?_) (fun c_51 => ?_)
    · refine P_bipush (pc := 58) dX1_readAll_58 (by decide) ?_
      refine P_aload_n (pc := 60) dX1_readAll_60 rfl 0 rfl ?_
      refine P_getI (jj := 3) (pc := 61) dX1_readAll_61 fa_RX1_23 sC_8 fC8_3 rfl ?_
      try simp (disch := decide) only [pl_3, pl_2, putI_nej, putI_self]
      refine P_isub (pc := 64) dX1_readAll_64 ?_
      exact P_iret (pc := 65) dX1_readAll_65 rfl (QI.mk (by
            have hM := RL_mono (RL_end (a := a) h) (show n ≤ N0 + 81 by omega)
            first
              | (have e1 : ok = 1 := by omega
                 subst e1
                 rw [hR, hsX_1, hsR_stop (by omega)]
                 exact ⟨rfl, hM⟩)
              | (have e1 : ok = 0 := by omega
                 subst e1
                 rw [hR, hsX_0]
                 exact ⟨rfl, hM⟩)))
    · refine P_iload_n (pc := 54) dX1_readAll_54 rfl 1 rfl ?_
      refine P_goto (tgt := 65) (pc := 55) dX1_readAll_55 (by decide) ?_
      exact P_iret (pc := 65) dX1_readAll_65 rfl (QI.mk (by
            have hM := RL_mono (RL_end (a := a) h) (show n ≤ N0 + 81 by omega)
            first
              | (have e1 : ok = 1 := by omega
                 subst e1
                 rw [hR, hsX_1, hsR_stop (by omega)]
                 exact ⟨rfl, hM⟩)
              | (have e1 : ok = 0 := by omega
                 subst e1
                 rw [hR, hsX_0]
                 exact ⟨rfl, hM⟩)))
  · refine P_aload_n (pc := 13) dX1_readAll_13 rfl 0 rfl ?_
    refine P_getI (jj := 3) (pc := 14) dX1_readAll_14 fa_RX1_23 sC_8 fC8_3 rfl ?_
    try simp (disch := decide) only [pl_3, pl_2, putI_nej, putI_self]
    refine P_aload_n (pc := 17) dX1_readAll_17 rfl 0 rfl ?_
    refine P_getI (jj := 2) (pc := 18) dX1_readAll_18 fa_RX1_19 sC_8 fC8_2 rfl ?_
    try simp (disch := decide) only [pl_3, pl_2, putI_nej, putI_self]
    refine P_icmp_ge (tgt := 45) (pc := 21) dX1_readAll_21 (by decide) (by unfold InR; omega) (by unfold InR; omega) (fun c_21 => ?_) (fun c_21 => ?_)
    · refine P_aload_n (pc := 45) dX1_readAll_45 rfl 0 rfl ?_
      refine P_iconst (pc := 46) dX1_readAll_46 ?_
      refine P_putI (jj := 2) (pc := 47) dX1_readAll_47 fa_RX1_19 fp_1_2 sC_8 fC8_2 rfl ?_
      try simp (disch := decide) only [pl_3, pl_2, putI_nej, putI_self]
      refine P_iload_n (pc := 50) dX1_readAll_50 rfl 2 rfl ?_
      refine P_if_eq (tgt := 58) (pc := 51) dX1_readAll_51 (by decide) (by unfold InR; omega) (fun c_51 => ?_) (fun c_51 => ?_)
      · refine P_bipush (pc := 58) dX1_readAll_58 (by decide) ?_
        refine P_aload_n (pc := 60) dX1_readAll_60 rfl 0 rfl ?_
        refine P_getI (jj := 3) (pc := 61) dX1_readAll_61 fa_RX1_23 sC_8 fC8_3 rfl ?_
        try simp (disch := decide) only [pl_3, pl_2, putI_nej, putI_self]
        refine P_isub (pc := 64) dX1_readAll_64 ?_
        exact P_iret (pc := 65) dX1_readAll_65 rfl (QI.mk (by
              have hM := RL_mono (RL_end (a := a) h) (show n ≤ N0 + 81 by omega)
              first
                | (have e1 : ok = 1 := by omega
                   subst e1
                   rw [hR, hsX_1, hsR_stop (by omega)]
                   exact ⟨rfl, hM⟩)
                | (have e1 : ok = 0 := by omega
                   subst e1
                   rw [hR, hsX_0]
                   exact ⟨rfl, hM⟩)))
      · refine P_iload_n (pc := 54) dX1_readAll_54 rfl 1 rfl ?_
        refine P_goto (tgt := 65) (pc := 55) dX1_readAll_55 (by decide) ?_
        exact P_iret (pc := 65) dX1_readAll_65 rfl (QI.mk (by
              have hM := RL_mono (RL_end (a := a) h) (show n ≤ N0 + 81 by omega)
              first
                | (have e1 : ok = 1 := by omega
                   subst e1
                   rw [hR, hsX_1, hsR_stop (by omega)]
                   exact ⟨rfl, hM⟩)
                | (have e1 : ok = 0 := by omega
                   subst e1
                   rw [hR, hsX_0]
                   exact ⟨rfl, hM⟩)))
    · refine P_iload_n (pc := 24) dX1_readAll_24 rfl 1 rfl ?_
      refine P_bipush (pc := 25) dX1_readAll_25 (by decide) ?_
      refine P_icmp_gt (tgt := 45) (pc := 27) dX1_readAll_27 (by decide) (by unfold InR; omega) (by unfold InR; omega) (fun c_27 => ?_) (fun c_27 => ?_)
      · refine P_aload_n (pc := 45) dX1_readAll_45 rfl 0 rfl ?_
        refine P_iconst (pc := 46) dX1_readAll_46 ?_
        refine P_putI (jj := 2) (pc := 47) dX1_readAll_47 fa_RX1_19 fp_1_2 sC_8 fC8_2 rfl ?_
        try simp (disch := decide) only [pl_3, pl_2, putI_nej, putI_self]
        refine P_iload_n (pc := 50) dX1_readAll_50 rfl 2 rfl ?_
        refine P_if_eq (tgt := 58) (pc := 51) dX1_readAll_51 (by decide) (by unfold InR; omega) (fun c_51 => ?_) (fun c_51 => ?_)
        · refine P_bipush (pc := 58) dX1_readAll_58 (by decide) ?_
          refine P_aload_n (pc := 60) dX1_readAll_60 rfl 0 rfl ?_
          refine P_getI (jj := 3) (pc := 61) dX1_readAll_61 fa_RX1_23 sC_8 fC8_3 rfl ?_
          try simp (disch := decide) only [pl_3, pl_2, putI_nej, putI_self]
          refine P_isub (pc := 64) dX1_readAll_64 ?_
          exact P_iret (pc := 65) dX1_readAll_65 rfl (QI.mk (by
                have hM := RL_mono (RL_end (a := a) h) (show n ≤ N0 + 81 by omega)
                first
                  | (have e1 : ok = 1 := by omega
                     subst e1
                     rw [hR, hsX_1, hsR_stop (by omega)]
                     exact ⟨rfl, hM⟩)
                  | (have e1 : ok = 0 := by omega
                     subst e1
                     rw [hR, hsX_0]
                     exact ⟨rfl, hM⟩)))
        · refine P_iload_n (pc := 54) dX1_readAll_54 rfl 1 rfl ?_
          refine P_goto (tgt := 65) (pc := 55) dX1_readAll_55 (by decide) ?_
          exact P_iret (pc := 65) dX1_readAll_65 rfl (QI.mk (by
                have hM := RL_mono (RL_end (a := a) h) (show n ≤ N0 + 81 by omega)
                first
                  | (have e1 : ok = 1 := by omega
                     subst e1
                     rw [hR, hsX_1, hsR_stop (by omega)]
                     exact ⟨rfl, hM⟩)
                  | (have e1 : ok = 0 := by omega
                     subst e1
                     rw [hR, hsX_0]
                     exact ⟨rfl, hM⟩)))
      · refine P_aload_n (pc := 30) dX1_readAll_30 rfl 0 rfl ?_
        refine P_callVi (Y' := mX1_readStatement) (as := []) (pc := 31) dX1_readAll_31 rfl (by decide : 4 < 5) sC_8 rfl ml_RX1_26 im_X1_readStatement se_X1_readStatement mk_X1_readStatement (Nat.le_of_ble_eq_true rfl) (c_X1_readStatement h (by omega)) (fun z_ μ_ hq => ?_)
        obtain ⟨hz2, μ2, hR2, hμ_⟩ := hq
        subst hμ_
        try simp (disch := decide) only [pl_3, pl_2, putI_nej, putI_self]
        refine P_istore_n (L' := [(2, vi _), (0, vr 8), (1, vi _)]) (pc := 34) dX1_readAll_34 rfl (by decide) rfl ?_
        refine P_iload_n (pc := 35) dX1_readAll_35 rfl 0 rfl ?_
        refine P_if_eq (tgt := 9) (pc := 36) dX1_readAll_36 (by decide) (by unfold InR; omega) (fun c_36 => ?_) (fun c_36 => ?_)
        · refine P_sub (L' := [(0, vr 8), (1, vi _), (2, vi _)]) [1, 2, 0] rfl ?_
          have htx := stD_text hst.2.2
          have e1 : ok = 1 := by omega
          subst e1
          refine ih _ _ (n + 1) _ _ _ hR2 (by rw [htx.2]; omega) (by omega) (by omega) (by omega) (by omega) (fun q => by rw [htx.2]; omega) ?_
          rw [hR, hsX_1, hsR_step (ok := z_) (by omega) ⟨by omega, hz2⟩]
          first
            | (have e2 : z_ = 0 := by omega
               rw [e2, Int.add_zero]; done)
            | (have e2 : z_ = 1 := by omega
               rw [e2]; done)
            | (have e2 : z_ = 1 := by omega
               rw [e2]; rfl)
        · refine P_iinc (L' := [(1, vi _), (2, vi _), (0, vr 8)]) (pc := 39) dX1_readAll_39 (by decide) 2 rfl rfl ?_
          refine P_goto (tgt := 9) (pc := 42) dX1_readAll_42 (by decide) ?_
          refine P_sub (L' := [(0, vr 8), (1, vi _), (2, vi _)]) [2, 0, 1] rfl ?_
          have htx := stD_text hst.2.2
          have e1 : ok = 1 := by omega
          subst e1
          refine ih _ _ (n + 1) _ _ _ hR2 (by rw [htx.2]; omega) (by omega) (by omega) (by omega) (by omega) (fun q => by rw [htx.2]; omega) ?_
          rw [hR, hsX_1, hsR_step (ok := z_) (by omega) ⟨by omega, hz2⟩]
          first
            | (have e2 : z_ = 0 := by omega
               rw [e2, Int.add_zero]; done)
            | (have e2 : z_ = 1 := by omega
               rw [e2]; done)
            | (have e2 : z_ = 1 := by omega
               rw [e2]; rfl)
set_option maxHeartbeats 1000000 in
set_option maxRecDepth 100000 in
theorem c_X1_readAll {n : Int} {μ ν : Mem} (h : RLN n μ ν) : PC shC 5 mX1_readAll [vr 8] (μ) (QI (fun z μ' => z = (if (hsR 82 ν 0 0).1 = 1 then (hsR 82 ν 0 0).2.1 else -20 - (hsR 82 ν 0 0).2.2.1) ∧ RLN (n + 81) μ' (putI (hsR 82 ν 0 0).2.2.2 0 14 0))) := by
  refine PC.of (by decide +kernel) (Nat.le_of_ble_eq_true rfl) ?_
  refine P_sub (L' := [(0, vr 8)]) [0] rfl ?_
  refine P_iconst (pc := 0) dX1_readAll_0 ?_
  refine P_istore_n (L' := [(1, vi _), (0, vr 8)]) (pc := 1) dX1_readAll_1 rfl (by decide) rfl ?_
  refine P_iconst (pc := 2) dX1_readAll_2 ?_
  refine P_istore_n (L' := [(2, vi _), (1, vi _), (0, vr 8)]) (pc := 3) dX1_readAll_3 rfl (by decide) rfl ?_
  refine P_aload_n (pc := 4) dX1_readAll_4 rfl 2 rfl ?_
  refine P_iconst (pc := 5) dX1_readAll_5 ?_
  refine P_putI (jj := 3) (pc := 6) dX1_readAll_6 fa_RX1_23 fp_1_3 sC_8 fC8_3 rfl ?_
  try simp (disch := decide) only [pl_3, pl_2, putI_nej, putI_self]
  refine P_sub (L' := [(0, vr 8), (1, vi _), (2, vi _)]) [2, 1, 0] rfl ?_
  have hb := h.2.1.1.2
  exact l_X1_readAll (N0 := n) (R := hsR 82 ν 0 0) 82 μ ν n 0 0 1 h (by omega) (Or.inr rfl) (by omega) (by omega) (by omega) (fun _ => by omega) rfl
set_option maxHeartbeats 1000000 in
set_option maxRecDepth 100000 in
theorem c_X5_house {n : Int} {μ ν : Mem} (h : RLN n μ ν) (hn : n < 2147483648)  : PC shC 6 mX5_house [vr 0] (μ) (QI (fun z μ' => z = (if (hsR 82 ν 0 0).1 = 1 then (hsR 82 ν 0 0).2.1 else -20 - (hsR 82 ν 0 0).2.2.1) ∧ RLN (n + 81) μ' (putI (hsR 82 ν 0 0).2.2.2 0 14 0))) := by
  refine PC.of (by decide +kernel) (Nat.le_of_ble_eq_true rfl) ?_
  refine P_sub (L' := [(0, vr 0)]) [0] rfl ?_
  have h6 := RL_6 h
  have h7 := RL_7 h
  refine P_aload_n (pc := 0) dX5_house_0 rfl 0 rfl ?_
  refine P_getR (pc := 1) dX5_house_1 fa_RX5_55 sC_0 fC0_7 ?_
  refine P_callVi (Y' := mX1_readAll) (as := []) (pc := 4) dX5_house_4 rfl (by decide : 5 < 6) sC_8 rfl ml_RX5_118 im_X1_readAll se_X1_readAll mk_X1_readAll (Nat.le_of_ble_eq_true rfl) (c_X1_readAll h) (fun z_ μ_ hq => ?_)
  obtain ⟨hz2, hR2⟩ := hq
  skip
  exact P_iret (pc := 7) dX5_house_7 rfl (QI.mk (by exact ⟨hz2, hR2⟩))
