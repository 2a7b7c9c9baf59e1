/-- what a statement does to the data -/
def stD (ν ν' : Mem) : Prop := ν' = ν ∨ (∃ k w h : Int, (0 ≤ ν.1 0 11 ∧ ν.1 0 11 < 12) ∧ (0 ≤ k ∧ k ≤ 5) ∧ (w = 0 ∨ w = 1) ∧ (h = 0 ∨ h = 1) ∧ ν' = comesM ν k w h)
  ∨ (∃ h k x b u : Int, (0 ≤ ν.1 0 12 ∧ ν.1 0 12 < 60) ∧ (0 ≤ h ∧ h ≤ 47) ∧ (0 ≤ k ∧ k ≤ 9) ∧ (0 ≤ x ∧ x < ν.1 0 11) ∧ (k < 5 → 0 ≤ b ∧ b < ν.1 0 11 ∧ b ≠ x) ∧ (k = 9 → 1 ≤ b ∧ b ≤ 4) ∧ (u = -1 ∨ (0 ≤ u ∧ u ≤ 5) ∨ (10 ≤ u ∧ u ≤ 15)) ∧ ν' = happM ν h k x b u)
  ∨ (∃ k v : Int, (0 ≤ k ∧ k ≤ 5) ∧ (0 ≤ v ∧ v ≤ 4) ∧ ν' = putI ν 5 k v)
theorem mjD_in (A : Cel) : mjD A = 4 ∨ mjD A = 5 := by unfold mjD; split <;> simp
theorem stR_in {ν : Mem} {a : Int} (hI : HI ν) (ha : 0 ≤ a ∧ a ≤ ν.1 0 14) : ((stR ν a).1 = 0 ∨ (stR ν a).1 = 1 ∧ a + 1 ≤ (stR ν a).2.1) ∧ (a ≤ (stR ν a).2.1 ∧ (stR ν a).2.1 ≤ ν.1 0 14) ∧ stD ν (stR ν a).2.2 := by
  obtain ⟨h11, h12, hk2, hT⟩ := hI
  have hs := sgn_in (a := a) hT
  unfold stR
  split
  · have h1 := rdT_in (d := mjD ν.1) (a := a + 1) hT (by omega)
    have h2 := mjD_in ν.1
    refine ⟨by dsimp only; omega, by dsimp only; omega, ?_⟩
    dsimp only
    split
    · exact Or.inr (Or.inl ⟨_, _, _, ⟨h11.1, by omega⟩, by omega, by omega, by omega, rfl⟩)
    · exact Or.inl rfl
  · split
    · have h1 := rdE_in (n := ν.1 0 11) (a := a + 1) hT (by omega)
      have h2 := h1.2
      refine ⟨?_, by dsimp only; omega, ?_⟩
      · dsimp only
        rcases h1.1 with q | q
        · exact Or.inl q
        · exact Or.inr ⟨q.1, by omega⟩
      dsimp only
      split
      · rename_i q
        have h3 := h1.1.resolve_left (by omega)
        exact Or.inr (Or.inr (Or.inl ⟨_, _, _, _, _, ⟨h12.1, by omega⟩, h3.2.1, h3.2.2.1, h3.2.2.2.1, h3.2.2.2.2.1, h3.2.2.2.2.2.1, h3.2.2.2.2.2.2, rfl⟩))
      · exact Or.inl rfl
    · split
      · have h1 := rdK_in (a := a + 1) hT (by omega)
        refine ⟨by dsimp only; omega, by dsimp only; omega, ?_⟩
        dsimp only
        split
        · exact Or.inr (Or.inr (Or.inr ⟨_, _, by omega, by omega, rfl⟩))
        · exact Or.inl rfl
      · exact ⟨Or.inl rfl, by dsimp only; omega, Or.inl rfl⟩
theorem putI_i {μ : Mem} {q q' : Nat} {j v i : Int} : (putI μ q j v).1 q' i = if q' = q ∧ i = j then v else μ.1 q' i := by
  by_cases a : q' = q
  · subst a; by_cases b : i = j <;> simp [putI, b]
  · simp [putI, a]
theorem stD_text {ν ν' : Mem} (h : stD ν ν') : ν'.1 12 = ν.1 12 ∧ ν'.1 0 14 = ν.1 0 14 := by
  rcases h with rfl | ⟨k, w, h, _, _, _, _, rfl⟩ | ⟨h, k, x, b, u, _, _, _, _, _, _, _, rfl⟩ | ⟨k, v, _, _, rfl⟩
  · exact ⟨rfl, rfl⟩
  · unfold comesM
    refine ⟨?_, ?_⟩
    · simp (disch := decide) only [putI_ne]
    · simp [putI_i]
  · unfold happM
    refine ⟨?_, ?_⟩
    · simp (disch := decide) only [putI_ne]
    · simp [putI_i]
  · refine ⟨?_, ?_⟩
    · simp (disch := decide) only [putI_ne]
    · simp [putI_i]
theorem HI_st {ν ν' : Mem} (hI : HI ν) (h : stD ν ν') : HI ν' := by
  have ht := stD_text h
  obtain ⟨h11, h12, hk2, hT⟩ := hI
  refine ⟨?_, ?_, ?_, by rw [ht.1, ht.2]; exact hT⟩
  · rcases h with rfl | ⟨k, w, h, _, _, _, _, rfl⟩ | ⟨h, k, x, b, u, _, _, _, _, _, _, _, rfl⟩ | ⟨k, v, _, _, rfl⟩
    · exact h11
    · simp [comesM, putI_i]; omega
    · simp [happM, putI_i]; omega
    · simp [putI_i]; omega
  · rcases h with rfl | ⟨k, w, h, _, _, _, _, rfl⟩ | ⟨h, k, x, b, u, _, _, _, _, _, _, _, rfl⟩ | ⟨k, v, _, _, rfl⟩
    · exact h12
    · simp [comesM, putI_i]; omega
    · simp [happM, putI_i]; omega
    · simp [putI_i]; omega
  · intro j
    have := hk2 j
    rcases h with rfl | ⟨k, w, h, _, _, _, _, rfl⟩ | ⟨h, k, x, b, u, _, _, _, _, _, _, _, rfl⟩ | ⟨k, v, _, _, rfl⟩
    · exact this
    · simp only [comesM, putI_i]
      split
      · omega
      · split
        · omega
        · split
          · omega
          · split
            · omega
            · exact this
    · simp (disch := decide) only [happM, putI_ne]; exact this
    · simp (disch := decide) only [putI_ne]; exact this
/-- a house that is read: does it stand, how many statements, the place then, the data -/
def hsR : Nat → Mem → Int → Int → Int × Int × Int × Mem
  | 0, ν, a, n => (1, n, a, ν)
  | f + 1, ν, a, n => if a < ν.1 0 14 then (if (stR ν a).1 = 0 then (0, n, (stR ν a).2.1, (stR ν a).2.2) else hsR f (stR ν a).2.2 (stR ν a).2.1 (n + 1)) else (1, n, a, ν)
def hsX (ok : Int) (f : Nat) (ν : Mem) (a n : Int) : Int × Int × Int × Mem := if ok = 0 then (0, n, a, ν) else hsR f ν a n
theorem hsX_0 {f : Nat} {ν : Mem} {a n : Int} : hsX 0 f ν a n = (0, n, a, ν) := rfl
theorem hsX_1 {f : Nat} {ν : Mem} {a n : Int} : hsX 1 f ν a n = hsR f ν a n := rfl
theorem hsR_stop {f : Nat} {ν : Mem} {a n : Int} (h : ¬ a < ν.1 0 14) : hsR f ν a n = (1, n, a, ν) := by
  cases f with
  | zero => rfl
  | succ f => exact if_neg h
theorem hsR_step {f : Nat} {ν : Mem} {a n ok : Int} (h : a < ν.1 0 14) (hok : (ok = 0 ∨ ok = 1) ∧ ok = (stR ν a).1) : hsR (f + 1) ν a n = hsX ok f (stR ν a).2.2 (stR ν a).2.1 (n + ok) := by
  show (if a < ν.1 0 14 then _ else _) = _
  rw [if_pos h]
  rcases hok with ⟨rfl | rfl, h2⟩
  · rw [if_pos h2.symm]; show _ = (0, n + 0, _, _); rw [Int.add_zero]
  · rw [if_neg (by omega)]; rfl
theorem at_p14 {μ : Mem} {a g v : Int} : putI (atM μ a g) 0 14 v = atM (putI μ 0 14 v) a g := at_put (by omega)
set_option maxHeartbeats 1000000 in
set_option maxRecDepth 100000 in
theorem l_X6_house {R : Int × Int × Int × Mem} : ∀ (f : Nat) (ν : Mem) (a g n ok : Int), HI ν → (0 ≤ a ∧ a ≤ ν.1 0 14) → (ok = 0 ∨ ok = 1) → 1 ≤ f → (ok = 1 → (ν.1 0 14 - a).toNat + 1 < f) → R = hsX ok f ν a n → PW shM 5 mX6_house 9 [(0, vr 0), (1, vi n), (2, vi ok)] [] (atM ν a g) (QI (fun z μ' => z = (if R.1 = 1 then R.2.1 else -20 - R.2.2.1) ∧ ∃ a g, μ' = atM (putI R.2.2.2 0 14 0) a g)) := by
  intro f
  induction f with
  | zero => intro ν a g n ok _ _ _ q; omega
  | succ f ih =>
  intro ν a g n ok hI ha hok hf hf2 hR
  have hst := stR_in hI ha
  have hT2 := hI.2.2.2.2
  refine P_iload_n (pc := 9) dX6_house_9 rfl 2 rfl ?_
  refine P_if_eq (tgt := 44) (pc := 10) dX6_house_10 (by decide) (by unfold InR; omega) (fun c_10 => ?_) (fun c_10 => ?_)
  · refine P_aload_n (pc := 44) dX6_house_44 rfl 0 rfl ?_
    refine P_iconst (pc := 45) dX6_house_45 ?_
    refine P_putI (jj := 14) (pc := 46) dX6_house_46 fa_RX6_139 fp_6_14 sM_0 fM0_14 rfl ?_
    try simp only [at_15, at_16, at_11, at_12, at_14, at_30, at_37, at_40, at_r1, at_r2, at_r3, at_r4, at_r5, at_r6, at_r7, at_r8, at_r9, at_r10, at_r11, at_r12, at_r13, at_r14, at_r15, at_r16, at_r17, at_r18, at_r19, at_r20, at_r21, at_r22, at_r23, at_r24, at_r25, at_r26, at_r27, at_r28, at_r29, at_r30, at_p15, at_p16, at_p14, at_comes, at_happ, at_put (show (5 : Nat) ≠ 0 ∨ _ from Or.inl (by decide))]
    refine P_iload_n (pc := 49) dX6_house_49 rfl 2 rfl ?_
    refine P_if_eq (tgt := 57) (pc := 50) dX6_house_50 (by decide) (by unfold InR; omega) (fun c_50 => ?_) (fun c_50 => ?_)
    · refine P_bipush (pc := 57) dX6_house_57 (by decide) ?_
      refine P_aload_n (pc := 59) dX6_house_59 rfl 0 rfl ?_
      refine P_getI (jj := 15) (pc := 60) dX6_house_60 fa_RX6_144 sM_0 fM0_15 rfl ?_
      try simp only [at_15, at_16, at_11, at_12, at_14, at_30, at_37, at_40, at_r1, at_r2, at_r3, at_r4, at_r5, at_r6, at_r7, at_r8, at_r9, at_r10, at_r11, at_r12, at_r13, at_r14, at_r15, at_r16, at_r17, at_r18, at_r19, at_r20, at_r21, at_r22, at_r23, at_r24, at_r25, at_r26, at_r27, at_r28, at_r29, at_r30, at_p15, at_p16, at_p14, at_comes, at_happ, at_put (show (5 : Nat) ≠ 0 ∨ _ from Or.inl (by decide))]
      refine P_isub (pc := 63) dX6_house_63 ?_
      exact P_iret (pc := 64) dX6_house_64 rfl (QI.mk (by first | (exfalso; omega) | (have e1 : ok = 1 := (by omega); subst e1; rw [hR, hsX_1, hsR_stop (by omega)]; exact ⟨rfl, _, _, rfl⟩) | (have e1 : ok = 0 := (by omega); subst e1; rw [hR, hsX_0]; exact ⟨rfl, _, _, rfl⟩)))
    · refine P_iload_n (pc := 53) dX6_house_53 rfl 1 rfl ?_
      refine P_goto (tgt := 64) (pc := 54) dX6_house_54 (by decide) ?_
      exact P_iret (pc := 64) dX6_house_64 rfl (QI.mk (by first | (exfalso; omega) | (have e1 : ok = 1 := (by omega); subst e1; rw [hR, hsX_1, hsR_stop (by omega)]; exact ⟨rfl, _, _, rfl⟩) | (have e1 : ok = 0 := (by omega); subst e1; rw [hR, hsX_0]; exact ⟨rfl, _, _, rfl⟩)))
  · refine P_aload_n (pc := 13) dX6_house_13 rfl 0 rfl ?_
    refine P_getI (jj := 15) (pc := 14) dX6_house_14 fa_RX6_144 sM_0 fM0_15 rfl ?_
    try simp only [at_15, at_16, at_11, at_12, at_14, at_30, at_37, at_40, at_r1, at_r2, at_r3, at_r4, at_r5, at_r6, at_r7, at_r8, at_r9, at_r10, at_r11, at_r12, at_r13, at_r14, at_r15, at_r16, at_r17, at_r18, at_r19, at_r20, at_r21, at_r22, at_r23, at_r24, at_r25, at_r26, at_r27, at_r28, at_r29, at_r30, at_p15, at_p16, at_p14, at_comes, at_happ, at_put (show (5 : Nat) ≠ 0 ∨ _ from Or.inl (by decide))]
    refine P_aload_n (pc := 17) dX6_house_17 rfl 0 rfl ?_
    refine P_getI (jj := 14) (pc := 18) dX6_house_18 fa_RX6_139 sM_0 fM0_14 rfl ?_
    try simp only [at_15, at_16, at_11, at_12, at_14, at_30, at_37, at_40, at_r1, at_r2, at_r3, at_r4, at_r5, at_r6, at_r7, at_r8, at_r9, at_r10, at_r11, at_r12, at_r13, at_r14, at_r15, at_r16, at_r17, at_r18, at_r19, at_r20, at_r21, at_r22, at_r23, at_r24, at_r25, at_r26, at_r27, at_r28, at_r29, at_r30, at_p15, at_p16, at_p14, at_comes, at_happ, at_put (show (5 : Nat) ≠ 0 ∨ _ from Or.inl (by decide))]
    refine P_icmp_ge (tgt := 44) (pc := 21) dX6_house_21 (by decide) (by unfold InR; omega) (by unfold InR; omega) (fun c_21 => ?_) (fun c_21 => ?_)
    · refine P_aload_n (pc := 44) dX6_house_44 rfl 0 rfl ?_
      refine P_iconst (pc := 45) dX6_house_45 ?_
      refine P_putI (jj := 14) (pc := 46) dX6_house_46 fa_RX6_139 fp_6_14 sM_0 fM0_14 rfl ?_
      try simp only [at_15, at_16, at_11, at_12, at_14, at_30, at_37, at_40, at_r1, at_r2, at_r3, at_r4, at_r5, at_r6, at_r7, at_r8, at_r9, at_r10, at_r11, at_r12, at_r13, at_r14, at_r15, at_r16, at_r17, at_r18, at_r19, at_r20, at_r21, at_r22, at_r23, at_r24, at_r25, at_r26, at_r27, at_r28, at_r29, at_r30, at_p15, at_p16, at_p14, at_comes, at_happ, at_put (show (5 : Nat) ≠ 0 ∨ _ from Or.inl (by decide))]
      refine P_iload_n (pc := 49) dX6_house_49 rfl 2 rfl ?_
      refine P_if_eq (tgt := 57) (pc := 50) dX6_house_50 (by decide) (by unfold InR; omega) (fun c_50 => ?_) (fun c_50 => ?_)
      · refine P_bipush (pc := 57) dX6_house_57 (by decide) ?_
        refine P_aload_n (pc := 59) dX6_house_59 rfl 0 rfl ?_
        refine P_getI (jj := 15) (pc := 60) dX6_house_60 fa_RX6_144 sM_0 fM0_15 rfl ?_
        try simp only [at_15, at_16, at_11, at_12, at_14, at_30, at_37, at_40, at_r1, at_r2, at_r3, at_r4, at_r5, at_r6, at_r7, at_r8, at_r9, at_r10, at_r11, at_r12, at_r13, at_r14, at_r15, at_r16, at_r17, at_r18, at_r19, at_r20, at_r21, at_r22, at_r23, at_r24, at_r25, at_r26, at_r27, at_r28, at_r29, at_r30, at_p15, at_p16, at_p14, at_comes, at_happ, at_put (show (5 : Nat) ≠ 0 ∨ _ from Or.inl (by decide))]
        refine P_isub (pc := 63) dX6_house_63 ?_
        exact P_iret (pc := 64) dX6_house_64 rfl (QI.mk (by first | (exfalso; omega) | (have e1 : ok = 1 := (by omega); subst e1; rw [hR, hsX_1, hsR_stop (by omega)]; exact ⟨rfl, _, _, rfl⟩) | (have e1 : ok = 0 := (by omega); subst e1; rw [hR, hsX_0]; exact ⟨rfl, _, _, rfl⟩)))
      · refine P_iload_n (pc := 53) dX6_house_53 rfl 1 rfl ?_
        refine P_goto (tgt := 64) (pc := 54) dX6_house_54 (by decide) ?_
        exact P_iret (pc := 64) dX6_house_64 rfl (QI.mk (by first | (exfalso; omega) | (have e1 : ok = 1 := (by omega); subst e1; rw [hR, hsX_1, hsR_stop (by omega)]; exact ⟨rfl, _, _, rfl⟩) | (have e1 : ok = 0 := (by omega); subst e1; rw [hR, hsX_0]; exact ⟨rfl, _, _, rfl⟩)))
    · refine P_aload_n (pc := 24) dX6_house_24 rfl 0 rfl ?_
      refine P_callVi (Y' := mX6_statement) (as := []) (pc := 25) dX6_house_25 rfl (by decide : 4 < 5) sM_0 rfl ml_RX6_173 im_X6_statement se_X6_statement mk_X6_statement (Nat.le_of_ble_eq_true rfl) (c_X6_statement hI (by omega)) (fun z_ μ_ hq => ?_)
      obtain ⟨hz, g', hμ_⟩ := hq
      subst hμ_
      try simp only [at_15, at_16, at_11, at_12, at_14, at_30, at_37, at_40, at_r1, at_r2, at_r3, at_r4, at_r5, at_r6, at_r7, at_r8, at_r9, at_r10, at_r11, at_r12, at_r13, at_r14, at_r15, at_r16, at_r17, at_r18, at_r19, at_r20, at_r21, at_r22, at_r23, at_r24, at_r25, at_r26, at_r27, at_r28, at_r29, at_r30, at_p15, at_p16, at_p14, at_comes, at_happ, at_put (show (5 : Nat) ≠ 0 ∨ _ from Or.inl (by decide))]
      refine P_istore_n (L' := [(2, vi _), (0, vr 0), (1, vi _)]) (pc := 28) dX6_house_28 rfl (by decide) rfl ?_
      refine P_iload_n (pc := 29) dX6_house_29 rfl 2 rfl ?_
      refine P_iload_n (pc := 30) dX6_house_30 rfl 0 rfl ?_
      refine P_if_eq (tgt := 38) (pc := 31) dX6_house_31 (by decide) (by unfold InR; omega) (fun c_31 => ?_) (fun c_31 => ?_)
      · refine P_iconst (pc := 38) dX6_house_38 ?_
        refine P_iadd (pc := 39) dX6_house_39 ?_
        refine P_istore_n (L' := [(1, vi _), (2, vi _), (0, vr 0)]) (pc := 40) dX6_house_40 rfl (by decide) rfl ?_
        refine P_goto (tgt := 9) (pc := 41) dX6_house_41 (by decide) ?_
        refine P_sub (L' := [(0, vr 0), (1, vi _), (2, vi _)]) [2, 0, 1] rfl ?_
        have htx := stD_text hst.2.2
        refine ih _ _ _ _ _ (HI_st hI hst.2.2) (by rw [htx.2]; omega) (by omega) (by omega) (fun q => by rw [htx.2]; omega) ?_
        have e1 : ok = 1 := by omega
        subst e1
        rw [hR, hsX_1, hsR_step (ok := z_) (by omega) ⟨by omega, hz⟩]
        first
          | (have e2 : z_ = 1 := by omega
             rw [e2]; done)
          | (have e2 : z_ = 0 := by omega
             rw [e2]; done)
          | (have e2 : z_ = 1 := by omega
             rw [e2]; rfl)
          | (have e2 : z_ = 0 := by omega
             rw [e2]; rfl)
      · refine P_iconst (pc := 34) dX6_house_34 ?_
        refine P_goto (tgt := 39) (pc := 35) dX6_house_35 (by decide) ?_
        refine P_iadd (pc := 39) dX6_house_39 ?_
        refine P_istore_n (L' := [(1, vi _), (2, vi _), (0, vr 0)]) (pc := 40) dX6_house_40 rfl (by decide) rfl ?_
        refine P_goto (tgt := 9) (pc := 41) dX6_house_41 (by decide) ?_
        refine P_sub (L' := [(0, vr 0), (1, vi _), (2, vi _)]) [2, 0, 1] rfl ?_
        have htx := stD_text hst.2.2
        refine ih _ _ _ _ _ (HI_st hI hst.2.2) (by rw [htx.2]; omega) (by omega) (by omega) (fun q => by rw [htx.2]; omega) ?_
        have e1 : ok = 1 := by omega
        subst e1
        rw [hR, hsX_1, hsR_step (ok := z_) (by omega) ⟨by omega, hz⟩]
        first
          | (have e2 : z_ = 1 := by omega
             rw [e2]; done)
          | (have e2 : z_ = 0 := by omega
             rw [e2]; done)
          | (have e2 : z_ = 1 := by omega
             rw [e2]; rfl)
          | (have e2 : z_ = 0 := by omega
             rw [e2]; rfl)
set_option maxHeartbeats 1000000 in
set_option maxRecDepth 100000 in
theorem c_X6_house {μ : Mem} (hI : HI μ) : PC shM 5 mX6_house [vr 0] (μ) (QI (fun z μ' => z = (if (hsR 82 μ 0 0).1 = 1 then (hsR 82 μ 0 0).2.1 else -20 - (hsR 82 μ 0 0).2.2.1) ∧ ∃ a g, μ' = atM (putI (hsR 82 μ 0 0).2.2.2 0 14 0) a g)) := by
  refine PC.of (by decide +kernel) (Nat.le_of_ble_eq_true rfl) ?_
  refine P_sub (L' := [(0, vr 0)]) [0] rfl ?_
  obtain ⟨G, hG⟩ : ∃ G : Mem, G = μ := ⟨μ, rfl⟩
  rw [show μ = atM μ (μ.1 0 15) (μ.1 0 16) from atM_self.symm]
  rw [atM_self] at *
  refine P_aload_n (pc := 0) dX6_house_0 rfl 0 rfl ?_
  refine P_iconst (pc := 1) dX6_house_1 ?_
  refine P_putI (jj := 15) (pc := 2) dX6_house_2 fa_RX6_144 fp_6_15 sM_0 fM0_15 rfl ?_
  try simp only [at_15, at_16, at_11, at_12, at_14, at_30, at_37, at_40, at_r1, at_r2, at_r3, at_r4, at_r5, at_r6, at_r7, at_r8, at_r9, at_r10, at_r11, at_r12, at_r13, at_r14, at_r15, at_r16, at_r17, at_r18, at_r19, at_r20, at_r21, at_r22, at_r23, at_r24, at_r25, at_r26, at_r27, at_r28, at_r29, at_r30, at_p15, at_p16, at_p14, at_comes, at_happ, at_put (show (5 : Nat) ≠ 0 ∨ _ from Or.inl (by decide))]
  refine P_iconst (pc := 5) dX6_house_5 ?_
  refine P_istore_n (L' := [(1, vi _), (0, vr 0)]) (pc := 6) dX6_house_6 rfl (by decide) rfl ?_
  refine P_iconst (pc := 7) dX6_house_7 ?_
  refine P_istore_n (L' := [(2, vi _), (1, vi _), (0, vr 0)]) (pc := 8) dX6_house_8 rfl (by decide) rfl ?_
  refine P_sub (L' := [(0, vr 0), (1, vi _), (2, vi _)]) [2, 1, 0] rfl ?_
  refine l_X6_house (R := hsR 82 μ 0 0) 82 μ 0 (μ.1 0 16) 0 1 hI (by have h9 : 0 ≤ μ.1 0 14 ∧ μ.1 0 14 ≤ 80 := hI.2.2.2.2; omega) (Or.inr rfl) (by omega) (fun _ => by have h9 : 0 ≤ μ.1 0 14 ∧ μ.1 0 14 ≤ 80 := hI.2.2.2.2; omega) rfl
