theorem wTH {A : Cel} {t h : Int} : (whyTH A t h = 0 ∧ (0 ≤ t ∧ t < A 0 11) ∧ 0 ≤ h ∧ h ≤ 47) ∨ (whyTH A t h ≠ 0 ∧ -6 ≤ whyTH A t h ∧ whyTH A t h ≤ -1) := by
  unfold whyTH
  split
  · split
    · exact Or.inr (by omega)
    · split
      · exact Or.inr (by omega)
      · exact Or.inl ⟨rfl, by omega, by omega⟩
  · exact Or.inr (by omega)
theorem refW_0 {ν : Mem} : refW ν 0 = ν := if_pos rfl
theorem refW_n {ν : Mem} {w : Int} (h : w ≠ 0) : refW ν w = refM ν w := if_neg h
theorem RL_6 {n : Int} {μ ν : Mem} (h : RLN n μ ν) : μ.1 1 6 = ν.1 0 11 ∧ (0 ≤ ν.1 0 11 ∧ ν.1 0 11 ≤ 12) := ⟨h.1.2.2.2.1.1.1, h.1.1.1.1⟩
theorem RL_7 {n : Int} {μ ν : Mem} (h : RLN n μ ν) : μ.1 1 7 = ν.1 0 12 ∧ (0 ≤ ν.1 0 12 ∧ ν.1 0 12 ≤ 60) := ⟨h.1.2.2.2.1.1.2, h.1.1.1.2.1⟩
theorem c_left0 {n : Int} {μ ν : Mem} (h : RLN n μ ν) (hn : n < 2147483648) : PC shC 5 mX0_left [vr 5] μ (QL (fun z μ' => RLN n μ' ν ∧ SI (kd ν.1) μ' 0 ∧ LWP (kd ν.1) ν.1 0 z)) := by
  obtain ⟨s1, s2, s3, s4⟩ := RL_sti h (show 0 < 2 by decide)
  have c := h.2.2.2.2.2
  have g := c_X0_left (b := 0) (by decide) h.1.2.2.2.1 h.1.1.1 h.1.1.2.1 s1 s2 s4 (by unfold InR; omega) (by unfold InR; omega) h.1.2.2.2.2.2.1 h.1.2.1 rfl
  exact PC.post g (fun r μ' hq => by
    obtain ⟨z, e, q1, q2, q3, q4⟩ := hq
    exact ⟨z, e, RL_fs (b := 0) (by decide) h q1 q2 q3, q2, q4⟩)
theorem c_left1 {n : Int} {μ ν : Mem} (h : RLN n μ ν) (hn : n < 2147483648) : PC shC 5 mX0_left [vr 6] μ (QL (fun z μ' => RLN n μ' ν ∧ (SI (kd ν.1) μ 0 → SI (kd ν.1) μ' 0) ∧ SI (kd ν.1) μ' 1 ∧ LWP (kd ν.1) ν.1 1 z)) := by
  obtain ⟨s1, s2, s3, s4⟩ := RL_sti h (show 1 < 2 by decide)
  have c := h.2.2.2.2.2
  have g := c_X0_left (b := 1) (by decide) h.1.2.2.2.1 h.1.1.1 h.1.1.2.1 s1 s2 s4 (by unfold InR; omega) (by unfold InR; omega) h.1.2.2.2.2.2.1 h.1.2.1 rfl
  exact PC.post g (fun r μ' hq => by
    obtain ⟨z, e, q1, q2, q3, q4⟩ := hq
    refine ⟨z, e, RL_fs (b := 1) (by decide) h q1 q2 q3, fun o => ?_, q2, q4⟩
    unfold SI OI at o ⊢
    rw [q1.1 (25 + 7 * 0) (by decide) (by decide) (by decide) (by decide), q1.1 (24 + 7 * 0) (by decide) (by decide) (by decide) (by decide), q1.1 (26 + 7 * 0) (by decide) (by decide) (by decide) (by decide), q1.2.2.1 (23 + 7 * 0) (by decide) (by decide) (by decide) (by decide)]
    exact o)
theorem c_ref0 {n : Int} {μ ν : Mem} (h : RLN n μ ν) (hn : n < 2147483648) : PC shC 4 mX4_refresh [vr 3] μ (QV (fun μ' => RLN n μ' ν ∧ SI (kd ν.1) μ' 0)) := by
  obtain ⟨s1, s2, s3, s4⟩ := RL_sti h (show 0 < 2 by decide)
  have c := h.2.2.2.2.2
  have g := c_X4_refresh (b := 0) (by decide) h.1.2.2.2.1 h.1.1.1 h.1.1.2.1 s1 s2 s4 (by unfold InR; omega) (by unfold InR; omega)
  exact PC.post g (fun r μ' hq => by
    obtain ⟨e, q1, q2, q3⟩ := hq
    exact ⟨e, RL_fs (b := 0) (by decide) h q1 q2 q3, q2⟩)
theorem c_pfsR {n : Int} {μ ν : Mem} {l : Int} (h : RLN n μ ν) (hS : SI (kd ν.1) μ 0) (hl : 0 ≤ l ∧ l ≤ 47) : PC shC 4 mX4_playFromStart [vr 3, vi l] μ (QV (fun μ' => RLN n μ' ν ∧ SimA (kd ν.1) 0 (l + 1).toNat (μ'.2 (22 + 7 * 0)))) := by
  obtain ⟨s1, s2, s3, s4⟩ := RL_sti h (show 0 < 2 by decide)
  have g := c_pfs0 h.1.2.2.2.1 h.1.1.1 h.1.1.2.1 hS.1 s1 hl s2
  exact PC.post g (fun r μ' hq => by
    obtain ⟨e, N, A, B, s, q1, q2, rfl⟩ := hq
    refine ⟨e, RL_fsp h ⟨_, _, _, _, _, q1, rfl⟩, ?_⟩
    have e2 : (pw μ (μ.2 36) N A B s).2 (22 + 7 * 0) = N := pw_N
    rw [e2]
    exact q2)
set_option maxHeartbeats 1000000 in
set_option maxRecDepth 100000 in
theorem c_X5_refuse {n : Int} {μ ν : Mem} {w : Int} (h : RLN n μ ν) (hn : n < 2147483648) (hw : -6 ≤ w ∧ w ≤ -1) : PC shC 0 mX5_refuse [vr 0, vi w] (μ) (QI (fun z μ' => z = w ∧ RLN n μ' (refM ν w))) := by
  refine PC.of (by decide +kernel) (Nat.le_of_ble_eq_true rfl) ?_
  refine P_sub (L' := [(0, vr 0), (1, vi w)]) [0, 1] rfl ?_
  have h6 := RL_6 h
  have h7 := RL_7 h
  refine P_iload_n (pc := 0) dX5_refuse_0 rfl 1 rfl ?_
  refine P_ineg (pc := 1) dX5_refuse_1 ?_
  refine P_istore_n (L' := [(2, vi _), (0, vr 0), (1, vi _)]) (pc := 2) dX5_refuse_2 rfl (by decide) rfl ?_
  refine P_iload_n (pc := 3) dX5_refuse_3 rfl 0 rfl ?_
  refine P_if_lt (tgt := 26) (pc := 4) dX5_refuse_4 (by decide) (by first | assumption | (unfold InR; omega)) (fun c_4 => ?_) (fun c_4 => ?_)
  · refine P_iload_n (pc := 26) dX5_refuse_26 rfl 2 rfl ?_
    exact P_iret (pc := 27) dX5_refuse_27 rfl (QI.mk (by first | (exfalso; omega) | (have g := RL_ref (w := -w) h (by omega); rw [Int.neg_neg] at g; exact ⟨rfl, g⟩)))
  · refine P_iload_n (pc := 7) dX5_refuse_7 rfl 0 rfl ?_
    refine P_aload_n (pc := 8) dX5_refuse_8 rfl 1 rfl ?_
    refine P_getR (pc := 9) dX5_refuse_9 fa_RX5_59 sC_0 fC0_8 ?_
    refine P_alen (pc := 12) dX5_refuse_12 sC_9 (by decide) ?_
    refine P_icmp_ge (tgt := 26) (pc := 13) dX5_refuse_13 (by decide) (by first | assumption | (unfold InR; omega)) (by first | assumption | (unfold InR; omega)) (fun c_13 => ?_) (fun c_13 => ?_)
    · refine P_iload_n (pc := 26) dX5_refuse_26 rfl 2 rfl ?_
      exact P_iret (pc := 27) dX5_refuse_27 rfl (QI.mk (by first | (exfalso; omega) | (have g := RL_ref (w := -w) h (by omega); rw [Int.neg_neg] at g; exact ⟨rfl, g⟩)))
    · refine P_aload_n (pc := 16) dX5_refuse_16 rfl 1 rfl ?_
      refine P_getR (pc := 17) dX5_refuse_17 fa_RX5_59 sC_0 fC0_8 ?_
      refine P_iload_n (pc := 20) dX5_refuse_20 rfl 0 rfl ?_
      refine P_dup2_11 (pc := 21) dX5_refuse_21 rfl rfl ?_
      refine P_iald (pc := 22) dX5_refuse_22 sC_9 (by omega) (by omega) (by decide) ?_
      skip
      refine P_iconst (pc := 23) dX5_refuse_23 ?_
      refine P_iadd (pc := 24) dX5_refuse_24 ?_
      refine P_iast (pc := 25) dX5_refuse_25 sC_9 (by omega) (by omega) (by decide) ?_
      skip
      refine P_iload_n (pc := 26) dX5_refuse_26 rfl 2 rfl ?_
      exact P_iret (pc := 27) dX5_refuse_27 rfl (QI.mk (by first | (exfalso; omega) | (have g := RL_ref (w := -w) h (by omega); rw [Int.neg_neg] at g; exact ⟨rfl, g⟩)))
set_option maxHeartbeats 1000000 in
set_option maxRecDepth 100000 in
theorem c_X5_thingAndHour {n : Int} {μ ν : Mem} {t q : Int} (h : RLN n μ ν) (hn : n < 2147483648) (ht : InR t) (hq0 : InR q) : PC shC 1 mX5_thingAndHour [vr 0, vi t, vi q] (μ) (QI (fun z μ' => z = whyTH ν.1 t q ∧ μ' = μ)) := by
  refine PC.of (by decide +kernel) (Nat.le_of_ble_eq_true rfl) ?_
  refine P_sub (L' := [(0, vr 0), (1, vi t), (2, vi q)]) [0, 1, 2] rfl ?_
  have h6 := RL_6 h
  have h7 := RL_7 h
  refine P_aload_n (pc := 0) dX5_thingAndHour_0 rfl 0 rfl ?_
  refine P_getR (pc := 1) dX5_thingAndHour_1 fa_RX5_12 sC_0 fC0_0 ?_
  refine P_iload_n (pc := 4) dX5_thingAndHour_4 rfl 1 rfl ?_
  refine P_callVi (Y' := mX3_isThere) (as := [_]) (pc := 5) dX5_thingAndHour_5 rfl (by decide : 0 < 1) sC_1 rfl ml_RX5_90 im_X3_isThere se_X3_isThere mk_X3_isThere (Nat.le_of_ble_eq_true rfl) (c_X3_isThere ht (by unfold InR; omega)) (fun z_ μ_ hq => ?_)
  obtain ⟨hz, hμ_⟩ := hq
  have hμ_ := hμ_.symm
  subst hμ_
  rw [h6.1] at hz
  have hz := ite01 hz
  skip
  refine P_if_ne (tgt := 13) (pc := 8) dX5_thingAndHour_8 (by decide) (by first | assumption | (unfold InR; omega)) (fun c_8 => ?_) (fun c_8 => ?_)
  · refine P_iload_n (pc := 13) dX5_thingAndHour_13 rfl 2 rfl ?_
    refine P_if_ge (tgt := 20) (pc := 14) dX5_thingAndHour_14 (by decide) (by first | assumption | (unfold InR; omega)) (fun c_14 => ?_) (fun c_14 => ?_)
    · refine P_iload_n (pc := 20) dX5_thingAndHour_20 rfl 2 rfl ?_
      refine P_bipush (pc := 21) dX5_thingAndHour_21 (by decide) ?_
      refine P_icmp_lt (tgt := 31) (pc := 23) dX5_thingAndHour_23 (by decide) (by first | assumption | (unfold InR; omega)) (by first | assumption | (unfold InR; omega)) (fun c_23 => ?_) (fun c_23 => ?_)
      · refine P_iconst (pc := 31) dX5_thingAndHour_31 ?_
        exact P_iret (pc := 32) dX5_thingAndHour_32 rfl (QI.mk (by refine ⟨?_, rfl⟩; unfold whyTH; first | (rw [if_neg (by omega)]; done) | (rw [if_pos (by omega), if_pos (by omega)]; done) | (rw [if_pos (by omega), if_neg (by omega), if_pos (by omega)]; done) | (rw [if_pos (by omega), if_neg (by omega), if_neg (by omega)]; done)))
      · refine P_bipush (pc := 26) dX5_thingAndHour_26 (by decide) ?_
        refine P_goto (tgt := 32) (pc := 28) dX5_thingAndHour_28 (by decide) ?_
        exact P_iret (pc := 32) dX5_thingAndHour_32 rfl (QI.mk (by refine ⟨?_, rfl⟩; unfold whyTH; first | (rw [if_neg (by omega)]; done) | (rw [if_pos (by omega), if_pos (by omega)]; done) | (rw [if_pos (by omega), if_neg (by omega), if_pos (by omega)]; done) | (rw [if_pos (by omega), if_neg (by omega), if_neg (by omega)]; done)))
    · refine P_bipush (pc := 17) dX5_thingAndHour_17 (by decide) ?_
      exact P_iret (pc := 19) dX5_thingAndHour_19 rfl (QI.mk (by refine ⟨?_, rfl⟩; unfold whyTH; first | (rw [if_neg (by omega)]; done) | (rw [if_pos (by omega), if_pos (by omega)]; done) | (rw [if_pos (by omega), if_neg (by omega), if_pos (by omega)]; done) | (rw [if_pos (by omega), if_neg (by omega), if_neg (by omega)]; done)))
  · refine P_iconst (pc := 11) dX5_thingAndHour_11 ?_
    exact P_iret (pc := 12) dX5_thingAndHour_12 rfl (QI.mk (by refine ⟨?_, rfl⟩; unfold whyTH; first | (rw [if_neg (by omega)]; done) | (rw [if_pos (by omega), if_pos (by omega)]; done) | (rw [if_pos (by omega), if_neg (by omega), if_pos (by omega)]; done) | (rw [if_pos (by omega), if_neg (by omega), if_neg (by omega)]; done)))
set_option maxHeartbeats 1000000 in
set_option maxRecDepth 100000 in
theorem c_X5_sure {n : Int} {μ ν : Mem} {t q : Int} (h : RLN n μ ν) (hn : n < 2147483648) (ht : InR t) (hq0 : InR q) : PC shC 6 mX5_sure [vr 0, vi t, vi q] (μ) (QI (fun z μ' => z = (if whyTH ν.1 t q = 0 then sureP (kd ν.1) ν.1 0 q t.toNat else whyTH ν.1 t q) ∧ RLN n μ' (refW ν (whyTH ν.1 t q)))) := by
  refine PC.of (by decide +kernel) (Nat.le_of_ble_eq_true rfl) ?_
  refine P_sub (L' := [(0, vr 0), (1, vi t), (2, vi q)]) [0, 1, 2] rfl ?_
  have h6 := RL_6 h
  have h7 := RL_7 h
  refine P_aload_n (pc := 0) dX5_sure_0 rfl 0 rfl ?_
  refine P_iload_n (pc := 1) dX5_sure_1 rfl 1 rfl ?_
  refine P_iload_n (pc := 2) dX5_sure_2 rfl 2 rfl ?_
  refine P_callVi (Y' := mX5_thingAndHour) (as := [_, _]) (pc := 3) dX5_sure_3 rfl (by decide : 1 < 6) sC_0 rfl ml_RX5_155 im_X5_thingAndHour se_X5_thingAndHour mk_X5_thingAndHour (Nat.le_of_ble_eq_true rfl) (c_X5_thingAndHour h hn ht hq0) (fun z_ μ_ hq => ?_)
  obtain ⟨hz, hμ_⟩ := hq
  have hμ_ := hμ_.symm
  subst hμ_
  have hx := wTH (A := ν.1) (t := t) (h := q)
  rw [← hz] at hx ⊢
  have hzr0 : InR z_ := by unfold InR; omega
  clear hz
  skip
  refine P_istore_n (L' := [(3, vi _), (0, vr 0), (1, vi _), (2, vi _)]) (pc := 6) dX5_sure_6 rfl (by decide) rfl ?_
  refine P_iload_n (pc := 7) dX5_sure_7 rfl 0 rfl ?_
  refine P_if_eq (tgt := 17) (pc := 8) dX5_sure_8 (by decide) (by first | assumption | (unfold InR; omega)) (fun c_8 => ?_) (fun c_8 => ?_)
  · refine P_aload_n (pc := 17) dX5_sure_17 rfl 1 rfl ?_
    refine P_getR (pc := 18) dX5_sure_18 fa_RX5_36 sC_0 fC0_4 ?_
    refine P_aload_n (pc := 21) dX5_sure_21 rfl 1 rfl ?_
    refine P_getR (pc := 22) dX5_sure_22 fa_RX5_36 sC_0 fC0_4 ?_
    refine P_callVl (Y' := mX0_left) (as := []) (pc := 25) dX5_sure_25 rfl (by decide : 5 < 6) sC_5 rfl ml_RX5_139 im_X0_left se_X0_left mk_X0_left (Nat.le_of_ble_eq_true rfl) (c_left0 h hn) (fun z_ μ_ hq => ?_)
    obtain ⟨hR1, hS1, hL1⟩ := hq
    skip
    refine P_iload_n (pc := 28) dX5_sure_28 rfl 2 rfl ?_
    refine P_iload_n (pc := 29) dX5_sure_29 rfl 3 rfl ?_
    refine P_callVi (Y' := mX0_sureIn) (as := [_, _, _]) (pc := 30) dX5_sure_30 rfl (by decide : 2 < 6) sC_5 rfl ml_RX5_158 im_X0_sureIn se_X0_sureIn mk_X0_sureIn (Nat.le_of_ble_eq_true rfl) (c_X0_sureIn (b := 0) (by decide) (by omega) (by omega)) (fun z_ μ_ hq => ?_)
    obtain ⟨hz2, hμ_⟩ := hq
    subst hμ_
    skip
    exact P_iret (pc := 33) dX5_sure_33 rfl (QI.mk (by exact ⟨by rw [if_pos c_8, hz2]; exact suC_P (o := 0) h.1.1.1 (by decide) (by omega) hL1 (fun w hw => hS1.2 q t w (by omega) (by omega) (by omega) (show t < ν.1 0 11 by omega) hw), by rw [c_8, refW_0]; exact hR1⟩))
  · refine P_aload_n (pc := 11) dX5_sure_11 rfl 1 rfl ?_
    refine P_iload_n (pc := 12) dX5_sure_12 rfl 0 rfl ?_
    refine P_callVi (Y' := mX5_refuse) (as := [_]) (pc := 13) dX5_sure_13 rfl (by decide : 0 < 6) sC_0 rfl ml_RX5_67 im_X5_refuse se_X5_refuse mk_X5_refuse (Nat.le_of_ble_eq_true rfl) (c_X5_refuse h hn (by omega)) (fun z_ μ_ hq => ?_)
    obtain ⟨hzr, hRr⟩ := hq
    skip
    exact P_iret (pc := 16) dX5_sure_16 rfl (QI.mk (by exact ⟨by rw [if_neg c_8]; exact hzr, by rw [refW_n c_8]; exact hRr⟩))
set_option maxHeartbeats 1000000 in
set_option maxRecDepth 100000 in
theorem c_X5_many {n : Int} {μ ν : Mem} {t q : Int} (h : RLN n μ ν) (hn : n < 2147483648) (ht : InR t) (hq0 : InR q) : PC shC 6 mX5_many [vr 0, vi t, vi q] (μ) (QI (fun z μ' => z = (if whyTH ν.1 t q = 0 then (manyP (kd ν.1) ν.1 0 q t.toNat : Int) else whyTH ν.1 t q) ∧ RLN n μ' (refW ν (whyTH ν.1 t q)))) := by
  refine PC.of (by decide +kernel) (Nat.le_of_ble_eq_true rfl) ?_
  refine P_sub (L' := [(0, vr 0), (1, vi t), (2, vi q)]) [0, 1, 2] rfl ?_
  have h6 := RL_6 h
  have h7 := RL_7 h
  refine P_aload_n (pc := 0) dX5_many_0 rfl 0 rfl ?_
  refine P_iload_n (pc := 1) dX5_many_1 rfl 1 rfl ?_
  refine P_iload_n (pc := 2) dX5_many_2 rfl 2 rfl ?_
  refine P_callVi (Y' := mX5_thingAndHour) (as := [_, _]) (pc := 3) dX5_many_3 rfl (by decide : 1 < 6) sC_0 rfl ml_RX5_155 im_X5_thingAndHour se_X5_thingAndHour mk_X5_thingAndHour (Nat.le_of_ble_eq_true rfl) (c_X5_thingAndHour h hn ht hq0) (fun z_ μ_ hq => ?_)
  obtain ⟨hz, hμ_⟩ := hq
  have hμ_ := hμ_.symm
  subst hμ_
  have hx := wTH (A := ν.1) (t := t) (h := q)
  rw [← hz] at hx ⊢
  have hzr0 : InR z_ := by unfold InR; omega
  clear hz
  skip
  refine P_istore_n (L' := [(3, vi _), (0, vr 0), (1, vi _), (2, vi _)]) (pc := 6) dX5_many_6 rfl (by decide) rfl ?_
  refine P_iload_n (pc := 7) dX5_many_7 rfl 0 rfl ?_
  refine P_if_eq (tgt := 17) (pc := 8) dX5_many_8 (by decide) (by first | assumption | (unfold InR; omega)) (fun c_8 => ?_) (fun c_8 => ?_)
  · refine P_aload_n (pc := 17) dX5_many_17 rfl 1 rfl ?_
    refine P_getR (pc := 18) dX5_many_18 fa_RX5_36 sC_0 fC0_4 ?_
    refine P_aload_n (pc := 21) dX5_many_21 rfl 1 rfl ?_
    refine P_getR (pc := 22) dX5_many_22 fa_RX5_36 sC_0 fC0_4 ?_
    refine P_callVl (Y' := mX0_left) (as := []) (pc := 25) dX5_many_25 rfl (by decide : 5 < 6) sC_5 rfl ml_RX5_139 im_X0_left se_X0_left mk_X0_left (Nat.le_of_ble_eq_true rfl) (c_left0 h hn) (fun z_ μ_ hq => ?_)
    obtain ⟨hR1, hS1, hL1⟩ := hq
    skip
    refine P_iload_n (pc := 28) dX5_many_28 rfl 2 rfl ?_
    refine P_iload_n (pc := 29) dX5_many_29 rfl 3 rfl ?_
    refine P_callVl (Y' := mX0_cleanIn) (as := [_, _, _]) (pc := 30) dX5_many_30 rfl (by decide : 1 < 6) sC_5 rfl ml_RX5_162 im_X0_cleanIn se_X0_cleanIn mk_X0_cleanIn (Nat.le_of_ble_eq_true rfl) (c_X0_cleanIn (b := 0) (by decide) (by omega) (by omega)) (fun z_ μ_ hq => ?_)
    obtain ⟨hz2, hμ_⟩ := hq
    subst hμ_
    subst hz2
    skip
    refine P_callSi (Y' := mJ13_bitCount_95d88) (as := [_]) (pc := 33) dX5_many_33 rfl (by decide : 0 < 6) ml_RX5_142 sm_J13_bitCount_95d88 mk_J13_bitCount_95d88 (Nat.le_of_ble_eq_true rfl) (c_J13_bitCount_95d88) (fun z_ μ_ hq => ?_)
    obtain ⟨hz3, hμ_⟩ := hq
    subst hμ_
    skip
    exact P_iret (pc := 36) dX5_many_36 rfl (QI.mk (by exact ⟨by rw [if_pos c_8, hz3]; exact congrArg Nat.cast (cl_n (o := 0) h.1.1.1 (by decide) (by omega) hL1 (fun w hw => hS1.2 q t w (by omega) (by omega) (by omega) (show t < ν.1 0 11 by omega) hw)), by rw [c_8, refW_0]; exact hR1⟩))
  · refine P_aload_n (pc := 11) dX5_many_11 rfl 1 rfl ?_
    refine P_iload_n (pc := 12) dX5_many_12 rfl 0 rfl ?_
    refine P_callVi (Y' := mX5_refuse) (as := [_]) (pc := 13) dX5_many_13 rfl (by decide : 0 < 6) sC_0 rfl ml_RX5_67 im_X5_refuse se_X5_refuse mk_X5_refuse (Nat.le_of_ble_eq_true rfl) (c_X5_refuse h hn (by omega)) (fun z_ μ_ hq => ?_)
    obtain ⟨hzr, hRr⟩ := hq
    skip
    exact P_iret (pc := 16) dX5_many_16 rfl (QI.mk (by exact ⟨by rw [if_neg c_8]; exact hzr, by rw [refW_n c_8]; exact hRr⟩))
set_option maxHeartbeats 1000000 in
set_option maxRecDepth 100000 in
theorem c_X5_judged {n : Int} {μ ν : Mem} {t q : Int} (h : RLN n μ ν) (hn : n < 2147483648) (ht : InR t) (hq0 : InR q) : PC shC 6 mX5_judged [vr 0, vi t, vi q] (μ) (QI (fun z μ' => z = (if whyTH ν.1 t q = 0 then (if leftN (kd ν.1) ν.1 0 = 0 then -9 else judN (kd ν.1) ν.1 (ν.1 6 (1 + ν.1 4 t)) t.toNat (q + 1).toNat) else whyTH ν.1 t q) ∧ RLN n μ' (refW ν (whyTH ν.1 t q)))) := by
  refine PC.of (by decide +kernel) (Nat.le_of_ble_eq_true rfl) ?_
  refine P_sub (L' := [(0, vr 0), (1, vi t), (2, vi q)]) [0, 1, 2] rfl ?_
  have h6 := RL_6 h
  have h7 := RL_7 h
  refine P_aload_n (pc := 0) dX5_judged_0 rfl 0 rfl ?_
  refine P_iload_n (pc := 1) dX5_judged_1 rfl 1 rfl ?_
  refine P_iload_n (pc := 2) dX5_judged_2 rfl 2 rfl ?_
  refine P_callVi (Y' := mX5_thingAndHour) (as := [_, _]) (pc := 3) dX5_judged_3 rfl (by decide : 1 < 6) sC_0 rfl ml_RX5_155 im_X5_thingAndHour se_X5_thingAndHour mk_X5_thingAndHour (Nat.le_of_ble_eq_true rfl) (c_X5_thingAndHour h hn ht hq0) (fun z_ μ_ hq => ?_)
  obtain ⟨hz, hμ_⟩ := hq
  have hμ_ := hμ_.symm
  subst hμ_
  have hx := wTH (A := ν.1) (t := t) (h := q)
  rw [← hz] at hx ⊢
  have hzr0 : InR z_ := by unfold InR; omega
  clear hz
  skip
  refine P_istore_n (L' := [(3, vi _), (0, vr 0), (1, vi _), (2, vi _)]) (pc := 6) dX5_judged_6 rfl (by decide) rfl ?_
  refine P_iload_n (pc := 7) dX5_judged_7 rfl 0 rfl ?_
  refine P_if_eq (tgt := 17) (pc := 8) dX5_judged_8 (by decide) (by first | assumption | (unfold InR; omega)) (fun c_8 => ?_) (fun c_8 => ?_)
  · refine P_aload_n (pc := 17) dX5_judged_17 rfl 1 rfl ?_
    refine P_getR (pc := 18) dX5_judged_18 fa_RX5_36 sC_0 fC0_4 ?_
    refine P_aload_n (pc := 21) dX5_judged_21 rfl 1 rfl ?_
    refine P_getR (pc := 22) dX5_judged_22 fa_RX5_36 sC_0 fC0_4 ?_
    refine P_callVl (Y' := mX0_left) (as := []) (pc := 25) dX5_judged_25 rfl (by decide : 5 < 6) sC_5 rfl ml_RX5_139 im_X0_left se_X0_left mk_X0_left (Nat.le_of_ble_eq_true rfl) (c_left0 h hn) (fun z_ μ_ hq => ?_)
    obtain ⟨hR1, hS1, hL1⟩ := hq
    skip
    refine P_iload_n (pc := 28) dX5_judged_28 rfl 2 rfl ?_
    refine P_iload_n (pc := 29) dX5_judged_29 rfl 3 rfl ?_
    refine P_callVi (Y' := mX0_judge) (as := [_, _, _]) (pc := 30) dX5_judged_30 rfl (by decide : 3 < 6) sC_5 rfl ml_RX5_166 im_X0_judge se_X0_judge mk_X0_judge (Nat.le_of_ble_eq_true rfl) (c_X0_judge (b := 0) (by decide) h.1.1.1 hL1 hS1.2 hR1.1.2.2.2.1 hR1.1.2.2.2.2.1 h.1.1.2.2 ⟨by omega, show t < ν.1 0 11 by omega⟩ (by omega)) (fun z_ μ_ hq => ?_)
    obtain ⟨hz2, hμ_⟩ := hq
    subst hμ_
    skip
    exact P_iret (pc := 33) dX5_judged_33 rfl (QI.mk (by exact ⟨by rw [if_pos c_8, hz2]; rfl, by rw [c_8, refW_0]; exact hR1⟩))
  · refine P_aload_n (pc := 11) dX5_judged_11 rfl 1 rfl ?_
    refine P_iload_n (pc := 12) dX5_judged_12 rfl 0 rfl ?_
    refine P_callVi (Y' := mX5_refuse) (as := [_]) (pc := 13) dX5_judged_13 rfl (by decide : 0 < 6) sC_0 rfl ml_RX5_67 im_X5_refuse se_X5_refuse mk_X5_refuse (Nat.le_of_ble_eq_true rfl) (c_X5_refuse h hn (by omega)) (fun z_ μ_ hq => ?_)
    obtain ⟨hzr, hRr⟩ := hq
    skip
    exact P_iret (pc := 16) dX5_judged_16 rfl (QI.mk (by exact ⟨by rw [if_neg c_8]; exact hzr, by rw [refW_n c_8]; exact hRr⟩))
set_option maxHeartbeats 1000000 in
set_option maxRecDepth 100000 in
theorem c_X5_sources {n : Int} {μ ν : Mem} {t q : Int} (h : RLN n μ ν) (hn : n < 2147483648) (ht : InR t) (hq0 : InR q) : PC shC 6 mX5_sources [vr 0, vi t, vi q] (μ) (QI (fun z μ' => z = (if whyTH ν.1 t q = 0 then srcS (kd ν.1) ν.1 q t 64 else whyTH ν.1 t q) ∧ RLN n μ' (refW ν (whyTH ν.1 t q)))) := by
  refine PC.of (by decide +kernel) (Nat.le_of_ble_eq_true rfl) ?_
  refine P_sub (L' := [(0, vr 0), (1, vi t), (2, vi q)]) [0, 1, 2] rfl ?_
  have h6 := RL_6 h
  have h7 := RL_7 h
  refine P_aload_n (pc := 0) dX5_sources_0 rfl 0 rfl ?_
  refine P_iload_n (pc := 1) dX5_sources_1 rfl 1 rfl ?_
  refine P_iload_n (pc := 2) dX5_sources_2 rfl 2 rfl ?_
  refine P_callVi (Y' := mX5_thingAndHour) (as := [_, _]) (pc := 3) dX5_sources_3 rfl (by decide : 1 < 6) sC_0 rfl ml_RX5_155 im_X5_thingAndHour se_X5_thingAndHour mk_X5_thingAndHour (Nat.le_of_ble_eq_true rfl) (c_X5_thingAndHour h hn ht hq0) (fun z_ μ_ hq => ?_)
  obtain ⟨hz, hμ_⟩ := hq
  have hμ_ := hμ_.symm
  subst hμ_
  have hx := wTH (A := ν.1) (t := t) (h := q)
  rw [← hz] at hx ⊢
  have hzr0 : InR z_ := by unfold InR; omega
  clear hz
  skip
  refine P_istore_n (L' := [(3, vi _), (0, vr 0), (1, vi _), (2, vi _)]) (pc := 6) dX5_sources_6 rfl (by decide) rfl ?_
  refine P_iload_n (pc := 7) dX5_sources_7 rfl 0 rfl ?_
  refine P_if_eq (tgt := 17) (pc := 8) dX5_sources_8 (by decide) (by first | assumption | (unfold InR; omega)) (fun c_8 => ?_) (fun c_8 => ?_)
  · refine P_aload_n (pc := 17) dX5_sources_17 rfl 1 rfl ?_
    refine P_getR (pc := 18) dX5_sources_18 fa_RX5_36 sC_0 fC0_4 ?_
    refine P_callVl (Y' := mX0_left) (as := []) (pc := 21) dX5_sources_21 rfl (by decide : 5 < 6) sC_5 rfl ml_RX5_139 im_X0_left se_X0_left mk_X0_left (Nat.le_of_ble_eq_true rfl) (c_left0 h hn) (fun z_ μ_ hq => ?_)
    obtain ⟨hR1, hS1, hL1⟩ := hq
    skip
    refine P_lstore (L' := [(4, vl _), (3, vi _), (0, vr 0), (1, vi _), (2, vi _)]) (pc := 24) dX5_sources_24 (by decide) rfl ?_
    refine P_aload_n (pc := 26) dX5_sources_26 rfl 2 rfl ?_
    refine P_getR (pc := 27) dX5_sources_27 fa_RX5_24 sC_0 fC0_2 ?_
    refine P_iload_n (pc := 30) dX5_sources_30 rfl 4 rfl ?_
    refine P_callVv (Y' := mX4_playFromStart) (as := [_]) (pc := 31) dX5_sources_31 rfl (by decide : 4 < 6) sC_3 rfl ml_RX5_124 im_X4_playFromStart se_X4_playFromStart mk_X4_playFromStart (Nat.le_of_ble_eq_true rfl) (c_pfsR hR1 hS1 (by omega)) (fun μ_ hq => ?_)
    obtain ⟨hR2, hsim⟩ := hq
    skip
    refine P_aload_n (pc := 34) dX5_sources_34 rfl 2 rfl ?_
    refine P_getR (pc := 35) dX5_sources_35 fa_RX5_24 sC_0 fC0_2 ?_
    refine P_iload_n (pc := 38) dX5_sources_38 rfl 3 rfl ?_
    refine P_lload (pc := 39) dX5_sources_39 0 rfl ?_
    refine P_callVi (Y' := mX4_originBits) (as := [_, _]) (pc := 41) dX5_sources_41 rfl (by decide : 0 < 6) sC_3 rfl ml_RX5_176 im_X4_originBits se_X4_originBits mk_X4_originBits (Nat.le_of_ble_eq_true rfl) (c_X4_originBits (b := 0) (by decide) (by omega)) (fun z_ μ_ hq => ?_)
    obtain ⟨hz2, hμ_⟩ := hq
    subst hμ_
    skip
    exact P_iret (pc := 44) dX5_sources_44 rfl (QI.mk (by exact ⟨by rw [if_pos c_8, hz2]; exact (src_or (K := kd ν.1) (F := ν.1) (h := q) ⟨by omega, show t < ν.1 0 11 by omega⟩ hL1 (fun w hw => (hsim w hw).1)).symm, by rw [c_8, refW_0]; exact hR2⟩))
  · refine P_aload_n (pc := 11) dX5_sources_11 rfl 1 rfl ?_
    refine P_iload_n (pc := 12) dX5_sources_12 rfl 0 rfl ?_
    refine P_callVi (Y' := mX5_refuse) (as := [_]) (pc := 13) dX5_sources_13 rfl (by decide : 0 < 6) sC_0 rfl ml_RX5_67 im_X5_refuse se_X5_refuse mk_X5_refuse (Nat.le_of_ble_eq_true rfl) (c_X5_refuse h hn (by omega)) (fun z_ μ_ hq => ?_)
    obtain ⟨hzr, hRr⟩ := hq
    skip
    exact P_iret (pc := 16) dX5_sources_16 rfl (QI.mk (by exact ⟨by rw [if_neg c_8]; exact hzr, by rw [refW_n c_8]; exact hRr⟩))
