theorem rivB_f {K F : Cel} {h : Int} {s j : Nat} (hj : j < 64) (h1 : leftB K F 0 j = true) (h2 : clW K h j &&& s = s) : rivB K F h s = false := by
  unfold rivB
  have : allF (fun w => !(leftB K F 0 w) || decide (clW K h w &&& s ≠ s)) 64 = false := by
    cases e : allF (fun w => !(leftB K F 0 w) || decide (clW K h w &&& s ≠ s)) 64 with
    | false => rfl
    | true =>
      have h3 := (allF_iff.mp e) j hj
      simp [h1, h2] at h3
  rw [this]; rfl
theorem rivB_t {K F : Cel} {h : Int} {s : Nat} (h1 : ∀ j, j < 64 → leftB K F 0 j = true → clW K h j &&& s ≠ s) : rivB K F h s = decide (orN (leftB K F 0) (clW K h) 64 &&& s = s) := by
  unfold rivB
  have : allF (fun w => !(leftB K F 0 w) || decide (clW K h w &&& s ≠ s)) 64 = true := by
    refine allF_iff.mpr (fun i hi => ?_)
    cases e : leftB K F 0 i with
    | false => rfl
    | true => simp [h1 i hi e]
  rw [this, Bool.true_and]
theorem orN_s {L : Nat → Bool} {C : Nat → Nat} (n : Nat) : orN L C (n + 1) = if L n = true then orN L C n ||| C n else orN L C n := rfl
theorem andN_s {L : Nat → Bool} {C : Nat → Nat} {a : Nat} (n : Nat) : andN L C a (n + 1) = if L n = true then andN L C a n &&& C n else andN L C a n := rfl
theorem nI_and (a b : Nat) : ((((a : Int)).toNat &&& ((b : Int)).toNat : Nat) : Int) = ((a &&& b : Nat) : Int) := rfl
theorem wN_and {a b : Nat} : Int32.ofInt (a : Int) &&& Int32.ofInt (b : Int) = Int32.ofInt ((a &&& b : Nat) : Int) := by
  apply Int32.toBitVec_inj.mp
  show BitVec.ofNat 32 a &&& BitVec.ofNat 32 b = BitVec.ofNat 32 (a &&& b)
  rw [BitVec.ofNat_and]
theorem wN_or {a b : Nat} : Int32.ofInt (a : Int) ||| Int32.ofInt (b : Int) = Int32.ofInt ((a ||| b : Nat) : Int) := by
  apply Int32.toBitVec_inj.mp
  show BitVec.ofNat 32 a ||| BitVec.ofNat 32 b = BitVec.ofNat 32 (a ||| b)
  rw [BitVec.ofNat_or]
set_option maxHeartbeats 1000000 in
set_option maxRecDepth 100000 in
theorem l_X6_areRivals {ν : Mem} {K F : Cel} {h : Int} {s : Nat} (hK : KOK K) (hL : LC K F 0 h ν) (hs : s < 4096) : ∀ (n j : Nat) (w : Int), w = (j : Int) → j ≤ 64 → 64 - j < n → (∀ i, i < j → leftB K F 0 i = true → clW K h i &&& s ≠ s) → PW shM 0 mX6_areRivals 4 [(0, vr 0), (1, vi (s : Int)), (2, vi (orN (leftB K F 0) (clW K h) j : Int)), (3, vi w)] [] ν (QI (fun z μ' => z = (if rivB K F h s = true then 1 else 0) ∧ μ' = ν)) := by
  intro n
  induction n with
  | zero => intro j w _ _ q; omega
  | succ n ih =>
  intro j w hw hj hn hB
  have g2 : j < 64 → _ := fun q => LC_l hL hw q
  have g3 : j < 64 → leftB K F 0 j = true → ν.1 24 w = (clW K h j : Int) := fun q q2 => LC_c hL hw q q2
  have g4 := clW_lt hK h j
  have g5 := orN_lt (L := leftB K F 0) (clW_lt hK h) j
  have g6 := orN_s (L := leftB K F 0) (C := clW K h) j
  have g7 := Nat.and_le_right (n := clW K h j) (m := s)
  have g8 := Nat.and_le_right (n := orN (leftB K F 0) (clW K h) j) (m := s)
  have g9 := orN_lt (L := leftB K F 0) (clW_lt hK h) 64
  refine P_iload_n (pc := 4) dX6_areRivals_4 rfl 3 rfl ?_
  refine P_bipush (pc := 5) dX6_areRivals_5 (by decide) ?_
  refine P_icmp_ge (tgt := 51) (pc := 7) dX6_areRivals_7 (by decide) (by unfold InR; omega) (by unfold InR; omega) (fun c_7 => ?_) (fun c_7 => ?_)
  · refine P_iload_n (pc := 51) dX6_areRivals_51 rfl 2 rfl ?_
    refine P_iload_n (pc := 52) dX6_areRivals_52 rfl 1 rfl ?_
    refine P_iand (pc := 53) dX6_areRivals_53 (wN_and) ?_
    refine P_iload_n (pc := 54) dX6_areRivals_54 rfl 1 rfl ?_
    refine P_icmp_ne (tgt := 62) (pc := 55) dX6_areRivals_55 (by decide) (by unfold InR; omega) (by unfold InR; omega) (fun c_55 => ?_) (fun c_55 => ?_)
    · refine P_iconst (pc := 62) dX6_areRivals_62 ?_
      exact P_zret (pc := 63) dX6_areRivals_63 rfl (by omega) (QI.mk (by refine ⟨?_, rfl⟩; first | (have e9 : rivB K F h s = false := rivB_f (j := j) (by omega) hl (by omega); simp only [e9]; rfl) | (have e9 : j = 64 := (by omega); subst e9; have e9 := rivB_t (fun i hi => hB i hi); clear ih hB; grind)))
    · refine P_iconst (pc := 58) dX6_areRivals_58 ?_
      refine P_goto (tgt := 63) (pc := 59) dX6_areRivals_59 (by decide) ?_
      exact P_zret (pc := 63) dX6_areRivals_63 rfl (by omega) (QI.mk (by refine ⟨?_, rfl⟩; first | (have e9 : rivB K F h s = false := rivB_f (j := j) (by omega) hl (by omega); simp only [e9]; rfl) | (have e9 : j = 64 := (by omega); subst e9; have e9 := rivB_t (fun i hi => hB i hi); clear ih hB; grind)))
  · refine P_aload_n (pc := 10) dX6_areRivals_10 rfl 0 rfl ?_
    refine P_getR (pc := 11) dX6_areRivals_11 fa_RX6_77 sM_0 fM0_29 ?_
    refine P_iload_n (pc := 14) dX6_areRivals_14 rfl 3 rfl ?_
    refine P_zald (pc := 15) dX6_areRivals_15 sM_23 (by omega) (by omega) (by decide) ?_
    refine P_if_ne (tgt := 22) (pc := 16) dX6_areRivals_16 (by decide) (by unfold InR; rcases g2 (by omega) with q2 | q2 <;> omega) (fun c_16 => ?_) (fun c_16 => ?_)
    · have hl : leftB K F 0 j = true := by rcases g2 (by omega) with q2 | q2; omega; exact q2.2
      refine P_iload_n (pc := 22) dX6_areRivals_22 rfl 2 rfl ?_
      refine P_aload_n (pc := 23) dX6_areRivals_23 rfl 0 rfl ?_
      refine P_getR (pc := 24) dX6_areRivals_24 fa_RX6_80 sM_0 fM0_32 ?_
      refine P_iload_n (pc := 27) dX6_areRivals_27 rfl 3 rfl ?_
      refine P_iald (pc := 28) dX6_areRivals_28 sM_24 (by omega) (by omega) (by decide) ?_
      rw [g3 (by omega) hl]
      refine P_ior (pc := 29) dX6_areRivals_29 (wN_or) ?_
      refine P_istore_n (L' := [(2, vi _), (0, vr 0), (1, vi _), (3, vi _)]) (pc := 30) dX6_areRivals_30 rfl (by decide) rfl ?_
      refine P_aload_n (pc := 31) dX6_areRivals_31 rfl 1 rfl ?_
      refine P_getR (pc := 32) dX6_areRivals_32 fa_RX6_80 sM_0 fM0_32 ?_
      refine P_iload_n (pc := 35) dX6_areRivals_35 rfl 3 rfl ?_
      refine P_iald (pc := 36) dX6_areRivals_36 sM_24 (by omega) (by omega) (by decide) ?_
      rw [g3 (by omega) hl]
      refine P_iload_n (pc := 37) dX6_areRivals_37 rfl 2 rfl ?_
      refine P_iand (pc := 38) dX6_areRivals_38 (wN_and) ?_
      refine P_iload_n (pc := 39) dX6_areRivals_39 rfl 2 rfl ?_
      refine P_icmp_ne (tgt := 45) (pc := 40) dX6_areRivals_40 (by decide) (by unfold InR; omega) (by unfold InR; omega) (fun c_40 => ?_) (fun c_40 => ?_)
      · refine P_iinc (L' := [(3, vi _), (2, vi _), (0, vr 0), (1, vi _)]) (pc := 45) dX6_areRivals_45 (by decide) 3 rfl rfl ?_
        refine P_goto (tgt := 4) (pc := 48) dX6_areRivals_48 (by decide) ?_
        refine P_sub (L' := [(0, vr 0), (1, vi _), (2, vi _), (3, vi _)]) [2, 3, 1, 0] rfl ?_
        refine P_cast (L' := [(0, vr 0), (1, vi (s : Int)), (2, vi (orN (leftB K F 0) (clW K h) (j + 1) : Int)), (3, vi (w + 1))]) ?_ rfl (ih (j + 1) (w + 1) (by omega) (by omega) (by omega) (fun i hi hi2 => ?_))
        · rw [g6, hl]; rfl
        · rcases Nat.lt_or_ge i j with q | q
          · exact hB i q hi2
          · have e : i = j := by omega
            subst e
            first
              | (rw [hl] at hi2; cases hi2; done)
              | (intro e2; rw [e2] at c_40; exact c_40 rfl)
      · refine P_iconst (pc := 43) dX6_areRivals_43 ?_
        exact P_zret (pc := 44) dX6_areRivals_44 rfl (by omega) (QI.mk (by refine ⟨?_, rfl⟩; first | (have e9 : rivB K F h s = false := rivB_f (j := j) (by omega) hl (by omega); simp only [e9]; rfl) | (have e9 : j = 64 := (by omega); subst e9; have e9 := rivB_t (fun i hi => hB i hi); clear ih hB; grind)))
    · have hl : leftB K F 0 j = false := by rcases g2 (by omega) with q2 | q2; exact q2.2; omega
      refine P_goto (tgt := 45) (pc := 19) dX6_areRivals_19 (by decide) ?_
      refine P_iinc (L' := [(3, vi _), (0, vr 0), (1, vi _), (2, vi _)]) (pc := 45) dX6_areRivals_45 (by decide) 3 rfl rfl ?_
      refine P_goto (tgt := 4) (pc := 48) dX6_areRivals_48 (by decide) ?_
      refine P_sub (L' := [(0, vr 0), (1, vi _), (2, vi _), (3, vi _)]) [1, 2, 3, 0] rfl ?_
      refine P_cast (L' := [(0, vr 0), (1, vi (s : Int)), (2, vi (orN (leftB K F 0) (clW K h) (j + 1) : Int)), (3, vi (w + 1))]) ?_ rfl (ih (j + 1) (w + 1) (by omega) (by omega) (by omega) (fun i hi hi2 => ?_))
      · rw [g6, hl]; rfl
      · rcases Nat.lt_or_ge i j with q | q
        · exact hB i q hi2
        · have e : i = j := by omega
          subst e
          first
            | (rw [hl] at hi2; cases hi2; done)
            | (intro e2; rw [e2] at c_40; exact c_40 rfl)
set_option maxHeartbeats 1000000 in
set_option maxRecDepth 100000 in
theorem c_X6_areRivals {ν : Mem} {K F : Cel} {h : Int} {s : Nat} (hK : KOK K) (hL : LC K F 0 h ν) (hs : s < 4096) : PC shM 0 mX6_areRivals [vr 0, vi (s : Int)] (ν) (QI (fun z μ' => z = (if rivB K F h s = true then 1 else 0) ∧ μ' = ν)) := by
  refine PC.of (by decide +kernel) (Nat.le_of_ble_eq_true rfl) ?_
  refine P_sub (L' := [(0, vr 0), (1, vi (s : Int))]) [0, 1] rfl ?_
  refine P_iconst (pc := 0) dX6_areRivals_0 ?_
  refine P_istore_n (L' := [(2, vi _), (0, vr 0), (1, vi _)]) (pc := 1) dX6_areRivals_1 rfl (by decide) rfl ?_
  refine P_iconst (pc := 2) dX6_areRivals_2 ?_
  refine P_istore_n (L' := [(3, vi _), (2, vi _), (0, vr 0), (1, vi _)]) (pc := 3) dX6_areRivals_3 rfl (by decide) rfl ?_
  refine P_sub (L' := [(0, vr 0), (1, vi _), (2, vi _), (3, vi _)]) [2, 3, 1, 0] rfl ?_
  exact l_X6_areRivals hK hL hs 65 0 0 rfl (by omega) (by omega) (fun i hi => absurd hi (Nat.not_lt_zero i))
