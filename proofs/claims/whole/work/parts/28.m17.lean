/-- the ways that are left in which an unknown is so -/
def subB (K F : Cel) (u b : Nat) (w : Nat) : Bool := leftB K F 0 w && decide ((if w.testBit u = true then 1 else 0) = b)
def doubtN (K F : Cel) (h : Int) (u b : Nat) : Nat := if cnt (subB K F u b) 64 = 0 then 0 else cnt31 (orN (subB K F u b) (clW K h) 64 ^^^ (orN (subB K F u b) (clW K h) 64 &&& andN (subB K F u b) (clW K h) (2 ^ (K 0 11).toNat - 1) 64))
theorem doubtN_le (K F : Cel) (h : Int) (u b : Nat) : doubtN K F h u b ≤ 31 := by unfold doubtN; split; omega; exact cnt31_le _
def maxI (a b : Int) : Int := if b < a then a else b
def quesN (K F : Cel) (h : Int) : Nat → Int × Int
  | 0 => (-9, 0)
  | u + 1 => if (nmK K).testBit u = true then (if 0 ≤ (quesN K F h u).1 ∧ (quesN K F h u).2 ≤ maxI (doubtN K F h u 0 : Int) (doubtN K F h u 1 : Int) then quesN K F h u else ((u : Int), maxI (doubtN K F h u 0 : Int) (doubtN K F h u 1 : Int))) else quesN K F h u
theorem quesN_s {K F : Cel} {h u : Int} {n : Nat} (hu : u = (n : Int)) : quesN K F h (n + 1) = if (nmK K).testBit n = true then (if 0 ≤ (quesN K F h n).1 ∧ (quesN K F h n).2 ≤ maxI (doubtN K F h n 0 : Int) (doubtN K F h n 1 : Int) then quesN K F h n else (u, maxI (doubtN K F h n 0 : Int) (doubtN K F h n 1 : Int))) else quesN K F h n := by subst hu; rfl
theorem quesN_in (K F : Cel) (h : Int) : ∀ u : Nat, -9 ≤ (quesN K F h u).1 ∧ (quesN K F h u).1 ≤ u ∧ 0 ≤ (quesN K F h u).2 ∧ (quesN K F h u).2 ≤ 31
  | 0 => by simp [quesN]
  | u + 1 => by
    have h1 := quesN_in K F h u
    have h2 := doubtN_le K F h u 0
    have h3 := doubtN_le K F h u 1
    have e1 : maxI (doubtN K F h u 0 : Int) (doubtN K F h u 1 : Int) ≤ 31 ∧ 0 ≤ maxI (doubtN K F h u 0 : Int) (doubtN K F h u 1 : Int) := by unfold maxI; split <;> omega
    simp only [quesN]
    split
    · split
      · omega
      · dsimp only; omega
    · omega
theorem wN_andx {a b : Nat} : Int32.ofInt (a : Int) &&& Int32.ofInt (-(b : Int) - 1) = Int32.ofInt ((a ^^^ (a &&& b) : Nat) : Int) := wI_andx (x := (a : Int)) (y := (b : Int)) (by omega) (by omega)
theorem wbitN {w : Int} {j u : Nat} (hw : w = (j : Int)) : ((w / 2 ^ ((u : Int)).toNat).toNat &&& (1 : Int).toNat : Nat) = if j.testBit u = true then 1 else 0 := by
  have := wbit (w := w) (n := (u : Int)) (by omega) (by omega)
  rw [oneT, this]
  subst hw
  rfl
set_option maxHeartbeats 1000000 in
set_option maxRecDepth 100000 in
theorem l_X6_doubts {ν : Mem} {K F : Cel} {h : Int} {u b : Nat} (hK : KOK K) (hL : LC K F 0 h ν) (hu : u < 6) (hb : b < 2) : ∀ (n j : Nat) (w : Int), w = (j : Int) → j ≤ 64 → 64 - j < n → PW shM 1 mX6_doubts 18 [(0, vr 0), (1, vi (u : Int)), (2, vi (b : Int)), (3, vi (cnt (subB K F u b) j : Int)), (4, vi (orN (subB K F u b) (clW K h) j : Int)), (5, vi (andN (subB K F u b) (clW K h) (2 ^ (K 0 11).toNat - 1) j : Int)), (6, vi w)] [] ν (QI (fun z μ' => z = (doubtN K F h u b : Int) ∧ μ' = ν)) := by
  intro n
  induction n with
  | zero => intro j w _ _ q; omega
  | succ n ih =>
  intro j w hw hj hn
  have g2 : j < 64 → _ := fun q => LC_l hL hw q
  have g3 : j < 64 → leftB K F 0 j = true → ν.1 24 w = (clW K h j : Int) := fun q q2 => LC_c hL hw q q2
  have g4 := clW_lt hK h j
  have g5 := orN_lt (L := leftB K F 0) (clW_lt hK h) j
  have d1 := wdiv (w := w) (n := ((u : Int)).toNat)
  have g6 := cnt_s (subB K F u b) j
  have g7 := orN_s (L := subB K F u b) (C := clW K h) j
  have g8 := andN_s (L := subB K F u b) (C := clW K h) (a := 2 ^ (K 0 11).toNat - 1) j
  have g9 : subB K F u b j = (leftB K F 0 j && decide ((if j.testBit u = true then 1 else 0) = b)) := rfl
  have ga := cnt_le (subB K F u b) j
  have gb := wbitN (u := u) hw
  refine P_iload (pc := 18) dX6_doubts_18 6 rfl ?_
  refine P_bipush (pc := 20) dX6_doubts_20 (by decide) ?_
  refine P_icmp_ge (tgt := 81) (pc := 22) dX6_doubts_22 (by decide) (by first | (unfold InR; omega) | (unfold InR; rcases g2 (by omega) with q2 | q2 <;> omega) | (rw [gb]; unfold InR; split <;> omega)) (by first | (unfold InR; omega) | (unfold InR; rcases g2 (by omega) with q2 | q2 <;> omega) | (rw [gb]; unfold InR; split <;> omega)) (fun c_22 => ?_) (fun c_22 => ?_)
  · refine P_iload_n (pc := 81) dX6_doubts_81 rfl 3 rfl ?_
    refine P_if_ne (tgt := 89) (pc := 82) dX6_doubts_82 (by decide) (by first | (unfold InR; omega) | (unfold InR; rcases g2 (by omega) with q2 | q2 <;> omega) | (rw [gb]; unfold InR; split <;> omega)) (fun c_82 => ?_) (fun c_82 => ?_)
    · refine P_iload (pc := 89) dX6_doubts_89 4 rfl ?_
      refine P_iload (pc := 91) dX6_doubts_91 5 rfl ?_
      refine P_iconst (pc := 93) dX6_doubts_93 ?_
      refine P_ixor (pc := 94) dX6_doubts_94 (wI_not _) ?_
      refine P_iand (pc := 95) dX6_doubts_95 (wN_andx) ?_
      refine P_callSi (Y' := mX6_bits) (as := [_]) (pc := 96) dX6_doubts_96 rfl (by decide : 0 < 1) ml_RX6_238 sm_X6_bits mk_X6_bits (Nat.le_of_ble_eq_true rfl) (c_X6_bits (by have h1 := orN_lt (L := subB K F u b) (clW_lt hK h) j; have h2 := Nat.xor_lt_two_pow h1 (Nat.lt_of_le_of_lt (Nat.and_le_left (m := andN (subB K F u b) (clW K h) (2 ^ (K 0 11).toNat - 1) j)) h1); omega)) (fun z_ μ_ hq => ?_)
      obtain ⟨rfl, hμ_⟩ := hq
      have hμ_ := hμ_.symm
      subst hμ_
      exact P_iret (pc := 99) dX6_doubts_99 rfl (QI.mk (by refine ⟨?_, rfl⟩; have e9 : j = 64 := (by omega); subst e9; unfold doubtN; first | (rw [if_pos (by omega)]; rfl) | (rw [if_neg (by omega)]; rfl)))
    · refine P_iconst (pc := 85) dX6_doubts_85 ?_
      refine P_goto (tgt := 99) (pc := 86) dX6_doubts_86 (by decide) ?_
      exact P_iret (pc := 99) dX6_doubts_99 rfl (QI.mk (by refine ⟨?_, rfl⟩; have e9 : j = 64 := (by omega); subst e9; unfold doubtN; first | (rw [if_pos (by omega)]; rfl) | (rw [if_neg (by omega)]; rfl)))
  · refine P_aload_n (pc := 25) dX6_doubts_25 rfl 0 rfl ?_
    refine P_getR (pc := 26) dX6_doubts_26 fa_RX6_77 sM_0 fM0_29 ?_
    refine P_iload (pc := 29) dX6_doubts_29 6 rfl ?_
    refine P_zald (pc := 31) dX6_doubts_31 sM_23 (by omega) (by omega) (by decide) ?_
    refine P_if_eq (tgt := 75) (pc := 32) dX6_doubts_32 (by decide) (by first | (unfold InR; omega) | (unfold InR; rcases g2 (by omega) with q2 | q2 <;> omega) | (rw [gb]; unfold InR; split <;> omega)) (fun c_32 => ?_) (fun c_32 => ?_)
    · refine P_iinc (L' := [(6, vi _), (0, vr 0), (1, vi _), (2, vi _), (3, vi _), (4, vi _), (5, vi _)]) (pc := 75) dX6_doubts_75 (by decide) 6 rfl rfl ?_
      refine P_goto (tgt := 18) (pc := 78) dX6_doubts_78 (by decide) ?_
      refine P_sub (L' := [(0, vr 0), (1, vi _), (2, vi _), (3, vi _), (4, vi _), (5, vi _), (6, vi _)]) [1, 2, 3, 4, 5, 6, 0] rfl ?_
      refine P_cast (L' := [(0, vr 0), (1, vi (u : Int)), (2, vi (b : Int)), (3, vi (cnt (subB K F u b) (j + 1) : Int)), (4, vi (orN (subB K F u b) (clW K h) (j + 1) : Int)), (5, vi (andN (subB K F u b) (clW K h) (2 ^ (K 0 11).toNat - 1) (j + 1) : Int)), (6, vi (w + 1))]) ?_ rfl (ih (j + 1) (w + 1) (by omega) (by omega) (by omega))
      rw [g6, g7, g8]
      first
        | (rw [hsub]; rfl)
        | (have hl : leftB K F 0 j = false := by (rcases g2 (by omega) with q2 | q2; exact q2.2; omega)
           have hsub : subB K F u b j = false := by rw [g9, hl]; rfl
           rw [hsub]; rfl)
    · have hl : leftB K F 0 j = true := by rcases g2 (by omega) with q2 | q2; omega; exact q2.2
      refine P_iload (pc := 35) dX6_doubts_35 6 rfl ?_
      refine P_iload_n (pc := 37) dX6_doubts_37 rfl 1 rfl ?_
      refine P_ishr (pc := 38) dX6_doubts_38 (wI_shr _ (by omega) (by omega) (by omega) (by omega)) ?_
      refine P_iconst (pc := 39) dX6_doubts_39 ?_
      refine P_iand (pc := 40) dX6_doubts_40 (wI_and (d1 (by omega) (by omega)).1 (d1 (by omega) (by omega)).2 (by omega) (by omega)) ?_
      refine P_iload_n (pc := 41) dX6_doubts_41 rfl 2 rfl ?_
      refine P_icmp_eq (tgt := 48) (pc := 42) dX6_doubts_42 (by decide) (by first | (unfold InR; omega) | (unfold InR; rcases g2 (by omega) with q2 | q2 <;> omega) | (rw [gb]; unfold InR; split <;> omega)) (by first | (unfold InR; omega) | (unfold InR; rcases g2 (by omega) with q2 | q2 <;> omega) | (rw [gb]; unfold InR; split <;> omega)) (fun c_42 => ?_) (fun c_42 => ?_)
      · have hsub : subB K F u b j = true := by rw [gb] at c_42; rw [g9, hl, Bool.true_and, decide_eq_true_eq]; clear ih; omega
        refine P_iinc (L' := [(3, vi _), (0, vr 0), (1, vi _), (2, vi _), (4, vi _), (5, vi _), (6, vi _)]) (pc := 48) dX6_doubts_48 (by decide) 3 rfl rfl ?_
        refine P_iload (pc := 51) dX6_doubts_51 4 rfl ?_
        refine P_aload_n (pc := 53) dX6_doubts_53 rfl 1 rfl ?_
        refine P_getR (pc := 54) dX6_doubts_54 fa_RX6_80 sM_0 fM0_32 ?_
        refine P_iload (pc := 57) dX6_doubts_57 6 rfl ?_
        refine P_iald (pc := 59) dX6_doubts_59 sM_24 (by omega) (by omega) (by decide) ?_
        rw [g3 (by omega) hl]
        refine P_ior (pc := 60) dX6_doubts_60 (wN_or) ?_
        refine P_istore (L' := [(4, vi _), (3, vi _), (0, vr 0), (1, vi _), (2, vi _), (5, vi _), (6, vi _)]) (pc := 61) dX6_doubts_61 (by decide) rfl ?_
        refine P_iload (pc := 63) dX6_doubts_63 5 rfl ?_
        refine P_aload_n (pc := 65) dX6_doubts_65 rfl 2 rfl ?_
        refine P_getR (pc := 66) dX6_doubts_66 fa_RX6_80 sM_0 fM0_32 ?_
        refine P_iload (pc := 69) dX6_doubts_69 6 rfl ?_
        refine P_iald (pc := 71) dX6_doubts_71 sM_24 (by omega) (by omega) (by decide) ?_
        rw [g3 (by omega) hl]
        refine P_iand (pc := 72) dX6_doubts_72 (wN_and) ?_
        refine P_istore (L' := [(5, vi _), (4, vi _), (3, vi _), (0, vr 0), (1, vi _), (2, vi _), (6, vi _)]) (pc := 73) dX6_doubts_73 (by decide) rfl ?_
        refine P_iinc (L' := [(6, vi _), (5, vi _), (4, vi _), (3, vi _), (0, vr 0), (1, vi _), (2, vi _)]) (pc := 75) dX6_doubts_75 (by decide) 6 rfl rfl ?_
        refine P_goto (tgt := 18) (pc := 78) dX6_doubts_78 (by decide) ?_
        refine P_sub (L' := [(0, vr 0), (1, vi _), (2, vi _), (3, vi _), (4, vi _), (5, vi _), (6, vi _)]) [4, 5, 6, 3, 2, 1, 0] rfl ?_
        refine P_cast (L' := [(0, vr 0), (1, vi (u : Int)), (2, vi (b : Int)), (3, vi (cnt (subB K F u b) (j + 1) : Int)), (4, vi (orN (subB K F u b) (clW K h) (j + 1) : Int)), (5, vi (andN (subB K F u b) (clW K h) (2 ^ (K 0 11).toNat - 1) (j + 1) : Int)), (6, vi (w + 1))]) ?_ rfl (ih (j + 1) (w + 1) (by omega) (by omega) (by omega))
        rw [g6, g7, g8]
        first
          | (rw [hsub]; rfl)
          | (have hl : leftB K F 0 j = false := by (rcases g2 (by omega) with q2 | q2; exact q2.2; omega)
             have hsub : subB K F u b j = false := by rw [g9, hl]; rfl
             rw [hsub]; rfl)
      · have hsub : subB K F u b j = false := by rw [gb] at c_42; rw [g9, hl, Bool.true_and, decide_eq_false_iff_not]; clear ih; omega
        refine P_goto (tgt := 75) (pc := 45) dX6_doubts_45 (by decide) ?_
        refine P_iinc (L' := [(6, vi _), (0, vr 0), (1, vi _), (2, vi _), (3, vi _), (4, vi _), (5, vi _)]) (pc := 75) dX6_doubts_75 (by decide) 6 rfl rfl ?_
        refine P_goto (tgt := 18) (pc := 78) dX6_doubts_78 (by decide) ?_
        refine P_sub (L' := [(0, vr 0), (1, vi _), (2, vi _), (3, vi _), (4, vi _), (5, vi _), (6, vi _)]) [1, 2, 3, 4, 5, 6, 0] rfl ?_
        refine P_cast (L' := [(0, vr 0), (1, vi (u : Int)), (2, vi (b : Int)), (3, vi (cnt (subB K F u b) (j + 1) : Int)), (4, vi (orN (subB K F u b) (clW K h) (j + 1) : Int)), (5, vi (andN (subB K F u b) (clW K h) (2 ^ (K 0 11).toNat - 1) (j + 1) : Int)), (6, vi (w + 1))]) ?_ rfl (ih (j + 1) (w + 1) (by omega) (by omega) (by omega))
        rw [g6, g7, g8]
        first
          | (rw [hsub]; rfl)
          | (have hl : leftB K F 0 j = false := by (rcases g2 (by omega) with q2 | q2; exact q2.2; omega)
             have hsub : subB K F u b j = false := by rw [g9, hl]; rfl
             rw [hsub]; rfl)
set_option maxHeartbeats 1000000 in
set_option maxRecDepth 100000 in
theorem c_X6_doubts {ν : Mem} {K F : Cel} {h : Int} {u b : Nat} (hK : KOK K) (hL : LC K F 0 h ν) (c11 : ν.1 0 11 = K 0 11) (hu : u < 6) (hb : b < 2) : PC shM 1 mX6_doubts [vr 0, vi (u : Int), vi (b : Int)] (ν) (QI (fun z μ' => z = (doubtN K F h u b : Int) ∧ μ' = ν)) := by
  refine PC.of (by decide +kernel) (Nat.le_of_ble_eq_true rfl) ?_
  refine P_sub (L' := [(0, vr 0), (1, vi (u : Int)), (2, vi (b : Int))]) [0, 1, 2] rfl ?_
  have hk1 := hK.1
  have e11 : ((2 ^ (K 0 11).toNat : Nat) : Int) - 1 = ((2 ^ (K 0 11).toNat - 1 : Nat) : Int) := by have : 0 < 2 ^ (K 0 11).toNat := Nat.pow_pos (by decide); omega
  refine P_iconst (pc := 0) dX6_doubts_0 ?_
  refine P_istore_n (L' := [(3, vi _), (0, vr 0), (1, vi _), (2, vi _)]) (pc := 1) dX6_doubts_1 rfl (by decide) rfl ?_
  refine P_iconst (pc := 2) dX6_doubts_2 ?_
  refine P_istore (L' := [(4, vi _), (3, vi _), (0, vr 0), (1, vi _), (2, vi _)]) (pc := 3) dX6_doubts_3 (by decide) rfl ?_
  refine P_iconst (pc := 5) dX6_doubts_5 ?_
  refine P_aload_n (pc := 6) dX6_doubts_6 rfl 2 rfl ?_
  refine P_getI (jj := 11) (pc := 7) dX6_doubts_7 fa_RX6_101 sM_0 fM0_11 rfl ?_
  rw [c11]
  refine P_ishl (pc := 10) dX6_doubts_10 (wN_shl1 (by omega) (by omega)) ?_
  refine P_iconst (pc := 11) dX6_doubts_11 ?_
  refine P_isub (pc := 12) dX6_doubts_12 ?_
  refine P_istore (L' := [(5, vi _), (4, vi _), (3, vi _), (0, vr 0), (1, vi _), (2, vi _)]) (pc := 13) dX6_doubts_13 (by decide) rfl ?_
  refine P_iconst (pc := 15) dX6_doubts_15 ?_
  refine P_istore (L' := [(6, vi _), (5, vi _), (4, vi _), (3, vi _), (0, vr 0), (1, vi _), (2, vi _)]) (pc := 16) dX6_doubts_16 (by decide) rfl ?_
  refine P_sub (L' := [(0, vr 0), (1, vi _), (2, vi _), (3, vi _), (4, vi _), (5, vi _), (6, vi _)]) [4, 5, 6, 3, 2, 1, 0] rfl ?_
  rw [e11]
  exact l_X6_doubts hK hL hu hb 65 0 0 rfl (by omega) (by omega)
def whyQ (h w : Int) : Int := if 0 ≤ w ∧ w ≤ 1 then whyH h else -2
set_option maxHeartbeats 1000000 in
set_option maxRecDepth 100000 in
theorem l_X6_question {μ ν : Mem} {K F : Cel} {h w : Int} (hK : KOK K) (hL : LC K F 0 h ν) (hP : PM μ ν) (c11 : ν.1 0 11 = K 0 11) (hw : 0 ≤ w ∧ w ≤ 1) : ∀ (n j : Nat), j ≤ 6 → 6 - j < n → PW shM 6 mX6_question 72 [(0, vr 0), (2, vi w), (4, vi (nmK K : Int)), (5, vi (quesN K F h j).1), (6, vi (quesN K F h j).2), (7, vi (j : Int))] [] ν (QI (fun z' μ' => z' = (if w = 0 then (quesN K F h 6).1 else (quesN K F h 6).2) ∧ PM μ μ')) := by
  intro n
  induction n with
  | zero => intro j _ q; omega
  | succ n ih =>
  intro j hj hn
  have hnm := nmK_lt hK
  have g1 := quesN_in K F h j
  have g2 := doubtN_le K F h j 0
  have g3 := doubtN_le K F h j 1
  have g4 := quesN_s (K := K) (F := F) (h := h) (u := (j : Int)) (n := j) rfl
  have g5 : maxI (doubtN K F h j 0 : Int) (doubtN K F h j 1 : Int) = if (doubtN K F h j 1 : Int) < (doubtN K F h j 0 : Int) then (doubtN K F h j 0 : Int) else (doubtN K F h j 1 : Int) := rfl
  have gb := wbitN (u := j) (show (nmK K : Int) = ((nmK K : Nat) : Int) from rfl)
  have d1 := wdiv (w := (nmK K : Int)) (n := ((j : Int)).toNat) (by omega) (by omega)
  refine P_iload (pc := 72) dX6_question_72 5 rfl ?_
  refine P_bipush (pc := 74) dX6_question_74 (by decide) ?_
  refine P_icmp_ge (tgt := 155) (pc := 76) dX6_question_76 (by decide) (by first | (unfold InR; omega) | (rw [gb]; unfold InR; split <;> omega)) (by first | (unfold InR; omega) | (rw [gb]; unfold InR; split <;> omega)) (fun c_76 => ?_) (fun c_76 => ?_)
  · refine P_iload_n (pc := 155) dX6_question_155 rfl 1 rfl ?_
    refine P_if_ne (tgt := 164) (pc := 156) dX6_question_156 (by decide) (by first | (unfold InR; omega) | (rw [gb]; unfold InR; split <;> omega)) (fun c_156 => ?_) (fun c_156 => ?_)
    · refine P_iload (pc := 164) dX6_question_164 4 rfl ?_
      exact P_iret (pc := 166) dX6_question_166 rfl (QI.mk (by first | (exfalso; omega) | (have hwy : whyQ h w = -2 := (by unfold whyQ; rw [if_neg (by omega)]); rw [hwy]; exact ⟨rfl, PM.rf⟩) | (have hwy : whyQ h w = z_ := (by unfold whyQ; rw [if_pos (by omega), hz]); rw [hwy]; exact ⟨by rw [if_neg (by omega)], by rw [refW, if_neg (by omega)]; exact PM.rf⟩) | (have hwy : whyQ h w = 0 := (by unfold whyQ; rw [if_pos (by omega)]; omega); rw [hwy]; first | exact ⟨by rw [if_pos rfl, if_pos (by omega)], hP⟩ | exact ⟨by rw [if_pos rfl, if_pos (by omega)], PM.rf⟩) | (refine ⟨?_, hP⟩; have e9 : j = 6 := (by omega); subst e9; first | (rw [if_pos (by omega)]; done) | (rw [if_neg (by omega)]; done))))
    · refine P_iload (pc := 159) dX6_question_159 3 rfl ?_
      refine P_goto (tgt := 166) (pc := 161) dX6_question_161 (by decide) ?_
      exact P_iret (pc := 166) dX6_question_166 rfl (QI.mk (by first | (exfalso; omega) | (have hwy : whyQ h w = -2 := (by unfold whyQ; rw [if_neg (by omega)]); rw [hwy]; exact ⟨rfl, PM.rf⟩) | (have hwy : whyQ h w = z_ := (by unfold whyQ; rw [if_pos (by omega), hz]); rw [hwy]; exact ⟨by rw [if_neg (by omega)], by rw [refW, if_neg (by omega)]; exact PM.rf⟩) | (have hwy : whyQ h w = 0 := (by unfold whyQ; rw [if_pos (by omega)]; omega); rw [hwy]; first | exact ⟨by rw [if_pos rfl, if_pos (by omega)], hP⟩ | exact ⟨by rw [if_pos rfl, if_pos (by omega)], PM.rf⟩) | (refine ⟨?_, hP⟩; have e9 : j = 6 := (by omega); subst e9; first | (rw [if_pos (by omega)]; done) | (rw [if_neg (by omega)]; done))))
  · refine P_iload (pc := 79) dX6_question_79 2 rfl ?_
    refine P_iload (pc := 81) dX6_question_81 5 rfl ?_
    refine P_ishr (pc := 83) dX6_question_83 (wI_shr _ (by omega) (by omega) (by omega) (by omega)) ?_
    refine P_iconst (pc := 84) dX6_question_84 ?_
    refine P_iand (pc := 85) dX6_question_85 (wI_and d1.1 d1.2 (by omega) (by omega)) ?_
    refine P_if_ne (tgt := 92) (pc := 86) dX6_question_86 (by decide) (by first | (unfold InR; omega) | (rw [gb]; unfold InR; split <;> omega)) (fun c_86 => ?_) (fun c_86 => ?_)
    · refine P_aload_n (pc := 92) dX6_question_92 rfl 0 rfl ?_
      refine P_iload (pc := 93) dX6_question_93 5 rfl ?_
      refine P_iconst (pc := 95) dX6_question_95 ?_
      refine P_callVi (Y' := mX6_doubts) (as := [_, _]) (pc := 96) dX6_question_96 rfl (by decide : 1 < 6) sM_0 rfl ml_RX6_264 im_X6_doubts se_X6_doubts mk_X6_doubts (Nat.le_of_ble_eq_true rfl) (c_X6_doubts (b := 0) hK hL c11 (by omega) (by omega)) (fun z_ μ_ hq => ?_)
      obtain ⟨rfl, hμ_⟩ := hq
      have hμ_ := hμ_.symm
      subst hμ_
      refine P_istore (L' := [(8, vi _), (0, vr 0), (2, vi _), (4, vi _), (5, vi _), (6, vi _), (7, vi _)]) (pc := 99) dX6_question_99 (by decide) rfl ?_
      refine P_aload_n (pc := 101) dX6_question_101 rfl 1 rfl ?_
      refine P_iload (pc := 102) dX6_question_102 6 rfl ?_
      refine P_iconst (pc := 104) dX6_question_104 ?_
      refine P_callVi (Y' := mX6_doubts) (as := [_, _]) (pc := 105) dX6_question_105 rfl (by decide : 1 < 6) sM_0 rfl ml_RX6_264 im_X6_doubts se_X6_doubts mk_X6_doubts (Nat.le_of_ble_eq_true rfl) (c_X6_doubts (b := 1) hK hL c11 (by omega) (by omega)) (fun z_ μ_ hq => ?_)
      obtain ⟨rfl, hμ_⟩ := hq
      have hμ_ := hμ_.symm
      subst hμ_
      refine P_istore (L' := [(9, vi _), (8, vi _), (0, vr 0), (2, vi _), (4, vi _), (5, vi _), (6, vi _), (7, vi _)]) (pc := 108) dX6_question_108 (by decide) rfl ?_
      refine P_iload (pc := 110) dX6_question_110 1 rfl ?_
      refine P_iload (pc := 112) dX6_question_112 0 rfl ?_
      refine P_icmp_le (tgt := 122) (pc := 114) dX6_question_114 (by decide) (by first | (unfold InR; omega) | (rw [gb]; unfold InR; split <;> omega)) (by first | (unfold InR; omega) | (rw [gb]; unfold InR; split <;> omega)) (fun c_114 => ?_) (fun c_114 => ?_)
      · refine P_iload (pc := 122) dX6_question_122 0 rfl ?_
        refine P_istore (L' := [(10, vi _), (9, vi _), (8, vi _), (0, vr 0), (2, vi _), (4, vi _), (5, vi _), (6, vi _), (7, vi _)]) (pc := 124) dX6_question_124 (by decide) rfl ?_
        refine P_iload (pc := 126) dX6_question_126 6 rfl ?_
        refine P_if_lt (tgt := 141) (pc := 128) dX6_question_128 (by decide) (by first | (unfold InR; omega) | (rw [gb]; unfold InR; split <;> omega)) (fun c_128 => ?_) (fun c_128 => ?_)
        · refine P_iload (pc := 141) dX6_question_141 8 rfl ?_
          refine P_istore (L' := [(5, vi _), (10, vi _), (9, vi _), (8, vi _), (0, vr 0), (2, vi _), (4, vi _), (6, vi _), (7, vi _)]) (pc := 143) dX6_question_143 (by decide) rfl ?_
          refine P_iload (pc := 145) dX6_question_145 1 rfl ?_
          refine P_istore (L' := [(6, vi _), (5, vi _), (10, vi _), (9, vi _), (8, vi _), (0, vr 0), (2, vi _), (4, vi _), (7, vi _)]) (pc := 147) dX6_question_147 (by decide) rfl ?_
          refine P_iinc (L' := [(7, vi _), (6, vi _), (5, vi _), (10, vi _), (9, vi _), (8, vi _), (0, vr 0), (2, vi _), (4, vi _)]) (pc := 149) dX6_question_149 (by decide) 8 rfl rfl ?_
          refine P_goto (tgt := 72) (pc := 152) dX6_question_152 (by decide) ?_
          refine P_sub (L' := [(0, vr 0), (2, vi _), (4, vi _), (5, vi _), (6, vi _), (7, vi _)]) [6, 7, 8, 2, 1, 0] rfl ?_
          refine P_cast (L' := [(0, vr 0), (2, vi w), (4, vi (nmK K : Int)), (5, vi (quesN K F h (j + 1)).1), (6, vi (quesN K F h (j + 1)).2), (7, vi ((j + 1 : Nat) : Int))]) ?_ rfl (ih (j + 1) (by omega) (by omega))
          rw [gb] at c_86
          rw [g4]
          clear ih hL hP hK g4 hw c11
          grind
        · refine P_iload (pc := 131) dX6_question_131 0 rfl ?_
          refine P_iload (pc := 133) dX6_question_133 7 rfl ?_
          refine P_icmp_lt (tgt := 141) (pc := 135) dX6_question_135 (by decide) (by first | (unfold InR; omega) | (rw [gb]; unfold InR; split <;> omega)) (by first | (unfold InR; omega) | (rw [gb]; unfold InR; split <;> omega)) (fun c_135 => ?_) (fun c_135 => ?_)
          · refine P_iload (pc := 141) dX6_question_141 8 rfl ?_
            refine P_istore (L' := [(5, vi _), (10, vi _), (9, vi _), (8, vi _), (0, vr 0), (2, vi _), (4, vi _), (6, vi _), (7, vi _)]) (pc := 143) dX6_question_143 (by decide) rfl ?_
            refine P_iload (pc := 145) dX6_question_145 1 rfl ?_
            refine P_istore (L' := [(6, vi _), (5, vi _), (10, vi _), (9, vi _), (8, vi _), (0, vr 0), (2, vi _), (4, vi _), (7, vi _)]) (pc := 147) dX6_question_147 (by decide) rfl ?_
            refine P_iinc (L' := [(7, vi _), (6, vi _), (5, vi _), (10, vi _), (9, vi _), (8, vi _), (0, vr 0), (2, vi _), (4, vi _)]) (pc := 149) dX6_question_149 (by decide) 8 rfl rfl ?_
            refine P_goto (tgt := 72) (pc := 152) dX6_question_152 (by decide) ?_
            refine P_sub (L' := [(0, vr 0), (2, vi _), (4, vi _), (5, vi _), (6, vi _), (7, vi _)]) [6, 7, 8, 2, 1, 0] rfl ?_
            refine P_cast (L' := [(0, vr 0), (2, vi w), (4, vi (nmK K : Int)), (5, vi (quesN K F h (j + 1)).1), (6, vi (quesN K F h (j + 1)).2), (7, vi ((j + 1 : Nat) : Int))]) ?_ rfl (ih (j + 1) (by omega) (by omega))
            rw [gb] at c_86
            rw [g4]
            clear ih hL hP hK g4 hw c11
            grind
          · refine P_goto (tgt := 149) (pc := 138) dX6_question_138 (by decide) ?_
            refine P_iinc (L' := [(7, vi _), (10, vi _), (9, vi _), (8, vi _), (0, vr 0), (2, vi _), (4, vi _), (5, vi _), (6, vi _)]) (pc := 149) dX6_question_149 (by decide) 8 rfl rfl ?_
            refine P_goto (tgt := 72) (pc := 152) dX6_question_152 (by decide) ?_
            refine P_sub (L' := [(0, vr 0), (2, vi _), (4, vi _), (5, vi _), (6, vi _), (7, vi _)]) [4, 5, 6, 7, 8, 0] rfl ?_
            refine P_cast (L' := [(0, vr 0), (2, vi w), (4, vi (nmK K : Int)), (5, vi (quesN K F h (j + 1)).1), (6, vi (quesN K F h (j + 1)).2), (7, vi ((j + 1 : Nat) : Int))]) ?_ rfl (ih (j + 1) (by omega) (by omega))
            rw [gb] at c_86
            rw [g4]
            clear ih hL hP hK g4 hw c11
            grind
      · refine P_iload (pc := 117) dX6_question_117 1 rfl ?_
        refine P_goto (tgt := 124) (pc := 119) dX6_question_119 (by decide) ?_
        refine P_istore (L' := [(10, vi _), (9, vi _), (8, vi _), (0, vr 0), (2, vi _), (4, vi _), (5, vi _), (6, vi _), (7, vi _)]) (pc := 124) dX6_question_124 (by decide) rfl ?_
        refine P_iload (pc := 126) dX6_question_126 6 rfl ?_
        refine P_if_lt (tgt := 141) (pc := 128) dX6_question_128 (by decide) (by first | (unfold InR; omega) | (rw [gb]; unfold InR; split <;> omega)) (fun c_128 => ?_) (fun c_128 => ?_)
        · refine P_iload (pc := 141) dX6_question_141 8 rfl ?_
          refine P_istore (L' := [(5, vi _), (10, vi _), (9, vi _), (8, vi _), (0, vr 0), (2, vi _), (4, vi _), (6, vi _), (7, vi _)]) (pc := 143) dX6_question_143 (by decide) rfl ?_
          refine P_iload (pc := 145) dX6_question_145 1 rfl ?_
          refine P_istore (L' := [(6, vi _), (5, vi _), (10, vi _), (9, vi _), (8, vi _), (0, vr 0), (2, vi _), (4, vi _), (7, vi _)]) (pc := 147) dX6_question_147 (by decide) rfl ?_
          refine P_iinc (L' := [(7, vi _), (6, vi _), (5, vi _), (10, vi _), (9, vi _), (8, vi _), (0, vr 0), (2, vi _), (4, vi _)]) (pc := 149) dX6_question_149 (by decide) 8 rfl rfl ?_
          refine P_goto (tgt := 72) (pc := 152) dX6_question_152 (by decide) ?_
          refine P_sub (L' := [(0, vr 0), (2, vi _), (4, vi _), (5, vi _), (6, vi _), (7, vi _)]) [6, 7, 8, 2, 1, 0] rfl ?_
          refine P_cast (L' := [(0, vr 0), (2, vi w), (4, vi (nmK K : Int)), (5, vi (quesN K F h (j + 1)).1), (6, vi (quesN K F h (j + 1)).2), (7, vi ((j + 1 : Nat) : Int))]) ?_ rfl (ih (j + 1) (by omega) (by omega))
          rw [gb] at c_86
          rw [g4]
          clear ih hL hP hK g4 hw c11
          grind
        · refine P_iload (pc := 131) dX6_question_131 0 rfl ?_
          refine P_iload (pc := 133) dX6_question_133 7 rfl ?_
          refine P_icmp_lt (tgt := 141) (pc := 135) dX6_question_135 (by decide) (by first | (unfold InR; omega) | (rw [gb]; unfold InR; split <;> omega)) (by first | (unfold InR; omega) | (rw [gb]; unfold InR; split <;> omega)) (fun c_135 => ?_) (fun c_135 => ?_)
          · refine P_iload (pc := 141) dX6_question_141 8 rfl ?_
            refine P_istore (L' := [(5, vi _), (10, vi _), (9, vi _), (8, vi _), (0, vr 0), (2, vi _), (4, vi _), (6, vi _), (7, vi _)]) (pc := 143) dX6_question_143 (by decide) rfl ?_
            refine P_iload (pc := 145) dX6_question_145 1 rfl ?_
            refine P_istore (L' := [(6, vi _), (5, vi _), (10, vi _), (9, vi _), (8, vi _), (0, vr 0), (2, vi _), (4, vi _), (7, vi _)]) (pc := 147) dX6_question_147 (by decide) rfl ?_
            refine P_iinc (L' := [(7, vi _), (6, vi _), (5, vi _), (10, vi _), (9, vi _), (8, vi _), (0, vr 0), (2, vi _), (4, vi _)]) (pc := 149) dX6_question_149 (by decide) 8 rfl rfl ?_
            refine P_goto (tgt := 72) (pc := 152) dX6_question_152 (by decide) ?_
            refine P_sub (L' := [(0, vr 0), (2, vi _), (4, vi _), (5, vi _), (6, vi _), (7, vi _)]) [6, 7, 8, 2, 1, 0] rfl ?_
            refine P_cast (L' := [(0, vr 0), (2, vi w), (4, vi (nmK K : Int)), (5, vi (quesN K F h (j + 1)).1), (6, vi (quesN K F h (j + 1)).2), (7, vi ((j + 1 : Nat) : Int))]) ?_ rfl (ih (j + 1) (by omega) (by omega))
            rw [gb] at c_86
            rw [g4]
            clear ih hL hP hK g4 hw c11
            grind
          · refine P_goto (tgt := 149) (pc := 138) dX6_question_138 (by decide) ?_
            refine P_iinc (L' := [(7, vi _), (10, vi _), (9, vi _), (8, vi _), (0, vr 0), (2, vi _), (4, vi _), (5, vi _), (6, vi _)]) (pc := 149) dX6_question_149 (by decide) 8 rfl rfl ?_
            refine P_goto (tgt := 72) (pc := 152) dX6_question_152 (by decide) ?_
            refine P_sub (L' := [(0, vr 0), (2, vi _), (4, vi _), (5, vi _), (6, vi _), (7, vi _)]) [4, 5, 6, 7, 8, 0] rfl ?_
            refine P_cast (L' := [(0, vr 0), (2, vi w), (4, vi (nmK K : Int)), (5, vi (quesN K F h (j + 1)).1), (6, vi (quesN K F h (j + 1)).2), (7, vi ((j + 1 : Nat) : Int))]) ?_ rfl (ih (j + 1) (by omega) (by omega))
            rw [gb] at c_86
            rw [g4]
            clear ih hL hP hK g4 hw c11
            grind
    · refine P_goto (tgt := 149) (pc := 89) dX6_question_89 (by decide) ?_
      refine P_iinc (L' := [(7, vi _), (0, vr 0), (2, vi _), (4, vi _), (5, vi _), (6, vi _)]) (pc := 149) dX6_question_149 (by decide) 5 rfl rfl ?_
      refine P_goto (tgt := 72) (pc := 152) dX6_question_152 (by decide) ?_
      refine P_sub (L' := [(0, vr 0), (2, vi _), (4, vi _), (5, vi _), (6, vi _), (7, vi _)]) [1, 2, 3, 4, 5, 0] rfl ?_
      refine P_cast (L' := [(0, vr 0), (2, vi w), (4, vi (nmK K : Int)), (5, vi (quesN K F h (j + 1)).1), (6, vi (quesN K F h (j + 1)).2), (7, vi ((j + 1 : Nat) : Int))]) ?_ rfl (ih (j + 1) (by omega) (by omega))
      rw [gb] at c_86
      rw [g4]
      clear ih hL hP hK g4 hw c11
      grind
set_option maxHeartbeats 1000000 in
set_option maxRecDepth 100000 in
theorem c_X6_question {μ : Mem} {K : Cel} {h w : Int} (hk : kd μ.1 = K) (hK : KOK K) (hF : FOK μ.1) (hh : InR h) (hw : InR w) : PC shM 6 mX6_question [vr 0, vi h, vi w] (μ) (QI (fun z μ' => z = (if whyQ h w = 0 then (if nmK K = 0 ∨ leftN K μ.1 0 = 0 then -9 else if w = 0 then (quesN K μ.1 h 6).1 else (quesN K μ.1 h 6).2) else whyQ h w) ∧ PM (refW μ (whyQ h w)) μ')) := by
  refine PC.of (by decide +kernel) (Nat.le_of_ble_eq_true rfl) ?_
  refine P_sub (L' := [(0, vr 0), (1, vi h), (2, vi w)]) [0, 1, 2] rfl ?_
  have hK1 := hK.1
  have hk11 : K 0 11 = μ.1 0 11 := by rw [← hk]; rfl
  have hn : InR (μ.1 0 11) := by unfold InR; omega
  have hle := leftN_le K μ.1 0
  have hnm := nmK_lt hK
  refine P_iload_n (pc := 0) dX6_question_0 rfl 2 rfl ?_
  refine P_iconst (pc := 1) dX6_question_1 ?_
  refine P_iconst (pc := 2) dX6_question_2 ?_
  refine P_callSi (Y' := mX6_isIn) (as := [_, _, _]) (pc := 3) dX6_question_3 rfl (by decide : 0 < 6) ml_RX6_105 sm_X6_isIn mk_X6_isIn (Nat.le_of_ble_eq_true rfl) (c_X6_isIn hw (by unfold InR; omega) (by unfold InR; omega)) (fun z_ μ_ hq => ?_)
  obtain ⟨hzi, hμ_⟩ := hq
  have hμ_ := hμ_.symm
  subst hμ_
  have hzi2 : z_ = 0 ∧ ¬ (0 ≤ w ∧ w ≤ 1) ∨ z_ = 1 ∧ (0 ≤ w ∧ w ≤ 1) := by rw [hzi]; split <;> omega
  clear hzi
  refine P_if_ne (tgt := 16) (pc := 6) dX6_question_6 (by decide) (by first | (unfold InR; omega) | (rw [gb]; unfold InR; split <;> omega)) (fun c_6 => ?_) (fun c_6 => ?_)
  · refine P_iload_n (pc := 16) dX6_question_16 rfl 1 rfl ?_
    refine P_iconst (pc := 17) dX6_question_17 ?_
    refine P_bipush (pc := 18) dX6_question_18 (by decide) ?_
    refine P_callSi (Y' := mX6_out) (as := [_, _, _]) (pc := 20) dX6_question_20 rfl (by decide : 0 < 6) ml_RX6_121 sm_X6_out mk_X6_out (Nat.le_of_ble_eq_true rfl) (c_X6_out hh (by unfold InR; omega) (by unfold InR; omega)) (fun z_ μ_ hq => ?_)
    obtain ⟨hz, hμ_⟩ := hq
    have hμ_ := hμ_.symm
    subst hμ_
    have hz : z_ = whyH h := hz
    have hv := whyH_v h
    rw [← hz] at hv
    have hv0 : z_ = 0 → _ := fun e => whyH_0 (h := h) (hz ▸ e)
    refine P_istore_n (L' := [(3, vi _), (0, vr 0), (1, vi _), (2, vi _)]) (pc := 23) dX6_question_23 rfl (by decide) rfl ?_
    refine P_iload_n (pc := 24) dX6_question_24 rfl 0 rfl ?_
    refine P_if_eq (tgt := 34) (pc := 25) dX6_question_25 (by decide) (by first | (unfold InR; omega) | (rw [gb]; unfold InR; split <;> omega)) (fun c_25 => ?_) (fun c_25 => ?_)
    · refine P_aload_n (pc := 34) dX6_question_34 rfl 1 rfl ?_
      refine P_callVi (Y' := mX6_named) (as := []) (pc := 35) dX6_question_35 rfl (by decide : 0 < 6) sM_0 rfl ml_RX6_229 im_X6_named se_X6_named mk_X6_named (Nat.le_of_ble_eq_true rfl) (c_X6_named hk hK) (fun z_ μ_ hq => ?_)
      obtain ⟨rfl, hμ_⟩ := hq
      have hμ_ := hμ_.symm
      subst hμ_
      refine P_istore (L' := [(4, vi _), (3, vi _), (0, vr 0), (1, vi _), (2, vi _)]) (pc := 38) dX6_question_38 (by decide) rfl ?_
      refine P_iload (pc := 40) dX6_question_40 0 rfl ?_
      refine P_if_eq (tgt := 53) (pc := 42) dX6_question_42 (by decide) (by first | (unfold InR; omega) | (rw [gb]; unfold InR; split <;> omega)) (fun c_42 => ?_) (fun c_42 => ?_)
      · refine P_bipush (pc := 53) dX6_question_53 (by decide) ?_
        exact P_iret (pc := 55) dX6_question_55 rfl (QI.mk (by first | (exfalso; omega) | (have hwy : whyQ h w = -2 := (by unfold whyQ; rw [if_neg (by omega)]); rw [hwy]; exact ⟨rfl, PM.rf⟩) | (have hwy : whyQ h w = z_ := (by unfold whyQ; rw [if_pos (by omega), hz]); rw [hwy]; exact ⟨by rw [if_neg (by omega)], by rw [refW, if_neg (by omega)]; exact PM.rf⟩) | (have hwy : whyQ h w = 0 := (by unfold whyQ; rw [if_pos (by omega)]; omega); rw [hwy]; first | exact ⟨by rw [if_pos rfl, if_pos (by omega)], hP⟩ | exact ⟨by rw [if_pos rfl, if_pos (by omega)], PM.rf⟩) | (refine ⟨?_, hP⟩; have e9 : j = 6 := (by omega); subst e9; first | (rw [if_pos (by omega)]; done) | (rw [if_neg (by omega)]; done))))
      · refine P_aload_n (pc := 45) dX6_question_45 rfl 2 rfl ?_
        refine P_iconst (pc := 46) dX6_question_46 ?_
        refine P_callVi (Y' := mX6_findLeft) (as := [_]) (pc := 47) dX6_question_47 rfl (by decide : 5 < 6) sM_0 rfl ml_RX6_241 im_X6_findLeft se_X6_findLeft mk_X6_findLeft (Nat.le_of_ble_eq_true rfl) (c_X6_findLeft hk hK hF (Or.inl rfl)) (fun z_ μ_ hq => ?_)
        obtain ⟨hzl, hP, hLF⟩ := hq
        refine P_if_ne (tgt := 56) (pc := 50) dX6_question_50 (by decide) (by first | (unfold InR; omega) | (rw [gb]; unfold InR; split <;> omega)) (fun c_50 => ?_) (fun c_50 => ?_)
        · refine P_aload_n (pc := 56) dX6_question_56 rfl 2 rfl ?_
          refine P_iload_n (pc := 57) dX6_question_57 rfl 3 rfl ?_
          refine P_iconst (pc := 58) dX6_question_58 ?_
          refine P_callVv (Y' := mX6_findClean) (as := [_, _]) (pc := 59) dX6_question_59 rfl (by decide : 5 < 6) sM_0 rfl ml_RX6_254 im_X6_findClean se_X6_findClean mk_X6_findClean (Nat.le_of_ble_eq_true rfl) (c_X6_findClean ((PM_kd hP).trans hk) hK (Or.inl rfl) (by omega) hLF) (fun μ_ hq => ?_)
          obtain ⟨hP2, hLC⟩ := hq
          have hP := hP.tr hP2
          refine P_bipush (pc := 62) dX6_question_62 (by decide) ?_
          refine P_istore (L' := [(5, vi _), (4, vi _), (3, vi _), (0, vr 0), (1, vi _), (2, vi _)]) (pc := 64) dX6_question_64 (by decide) rfl ?_
          refine P_iconst (pc := 66) dX6_question_66 ?_
          refine P_istore (L' := [(6, vi _), (5, vi _), (4, vi _), (3, vi _), (0, vr 0), (1, vi _), (2, vi _)]) (pc := 67) dX6_question_67 (by decide) rfl ?_
          refine P_iconst (pc := 69) dX6_question_69 ?_
          refine P_istore (L' := [(7, vi _), (6, vi _), (5, vi _), (4, vi _), (3, vi _), (0, vr 0), (1, vi _), (2, vi _)]) (pc := 70) dX6_question_70 (by decide) rfl ?_
          refine P_sub (L' := [(0, vr 0), (2, vi _), (4, vi _), (5, vi _), (6, vi _), (7, vi _)]) [5, 7, 3, 2, 1, 0] rfl ?_
          have c11 : μ_.1 0 11 = K 0 11 := by rw [hP.num 11 (by decide), hk11]
          refine P_post (Q' := (QI (fun z' μ' => z' = (if w = 0 then (quesN K μ.1 h 6).1 else (quesN K μ.1 h 6).2) ∧ PM μ μ'))) (fun r μ' hq => ?_) (l_X6_question hK hLC hP c11 (by omega) 7 0 (by omega) (by omega))
          obtain ⟨z9, hr9, hz9, hP9⟩ := hq
          have hwy : whyQ h w = 0 := by unfold whyQ; rw [if_pos (by omega)]; omega
          refine ⟨z9, hr9, ?_, ?_⟩
          · rw [hwy, if_pos rfl, if_neg (by omega)]; exact hz9
          · rw [hwy]; exact hP9
        · refine P_bipush (pc := 53) dX6_question_53 (by decide) ?_
          exact P_iret (pc := 55) dX6_question_55 rfl (QI.mk (by first | (exfalso; omega) | (have hwy : whyQ h w = -2 := (by unfold whyQ; rw [if_neg (by omega)]); rw [hwy]; exact ⟨rfl, PM.rf⟩) | (have hwy : whyQ h w = z_ := (by unfold whyQ; rw [if_pos (by omega), hz]); rw [hwy]; exact ⟨by rw [if_neg (by omega)], by rw [refW, if_neg (by omega)]; exact PM.rf⟩) | (have hwy : whyQ h w = 0 := (by unfold whyQ; rw [if_pos (by omega)]; omega); rw [hwy]; first | exact ⟨by rw [if_pos rfl, if_pos (by omega)], hP⟩ | exact ⟨by rw [if_pos rfl, if_pos (by omega)], PM.rf⟩) | (refine ⟨?_, hP⟩; have e9 : j = 6 := (by omega); subst e9; first | (rw [if_pos (by omega)]; done) | (rw [if_neg (by omega)]; done))))
    · refine P_aload_n (pc := 28) dX6_question_28 rfl 1 rfl ?_
      refine P_iload_n (pc := 29) dX6_question_29 rfl 0 rfl ?_
      refine P_callVi (Y' := mX6_no) (as := [_]) (pc := 30) dX6_question_30 rfl (by decide : 0 < 6) sM_0 rfl ml_RX6_109 im_X6_no se_X6_no mk_X6_no (Nat.le_of_ble_eq_true rfl) (c_X6_no (by omega)) (fun z_ μ_ hq => ?_)
      obtain ⟨rfl, hμ_⟩ := hq
      have hμ_ := hμ_.symm
      subst hμ_
      exact P_iret (pc := 33) dX6_question_33 rfl (QI.mk (by first | (exfalso; omega) | (have hwy : whyQ h w = -2 := (by unfold whyQ; rw [if_neg (by omega)]); rw [hwy]; exact ⟨rfl, PM.rf⟩) | (have hwy : whyQ h w = z_ := (by unfold whyQ; rw [if_pos (by omega), hz]); rw [hwy]; exact ⟨by rw [if_neg (by omega)], by rw [refW, if_neg (by omega)]; exact PM.rf⟩) | (have hwy : whyQ h w = 0 := (by unfold whyQ; rw [if_pos (by omega)]; omega); rw [hwy]; first | exact ⟨by rw [if_pos rfl, if_pos (by omega)], hP⟩ | exact ⟨by rw [if_pos rfl, if_pos (by omega)], PM.rf⟩) | (refine ⟨?_, hP⟩; have e9 : j = 6 := (by omega); subst e9; first | (rw [if_pos (by omega)]; done) | (rw [if_neg (by omega)]; done))))
  · refine P_aload_n (pc := 9) dX6_question_9 rfl 0 rfl ?_
    refine P_bipush (pc := 10) dX6_question_10 (by decide) ?_
    refine P_callVi (Y' := mX6_no) (as := [_]) (pc := 12) dX6_question_12 rfl (by decide : 0 < 6) sM_0 rfl ml_RX6_109 im_X6_no se_X6_no mk_X6_no (Nat.le_of_ble_eq_true rfl) (c_X6_no (by omega)) (fun z_ μ_ hq => ?_)
    obtain ⟨rfl, hμ_⟩ := hq
    have hμ_ := hμ_.symm
    subst hμ_
    exact P_iret (pc := 15) dX6_question_15 rfl (QI.mk (by first | (exfalso; omega) | (have hwy : whyQ h w = -2 := (by unfold whyQ; rw [if_neg (by omega)]); rw [hwy]; exact ⟨rfl, PM.rf⟩) | (have hwy : whyQ h w = z_ := (by unfold whyQ; rw [if_pos (by omega), hz]); rw [hwy]; exact ⟨by rw [if_neg (by omega)], by rw [refW, if_neg (by omega)]; exact PM.rf⟩) | (have hwy : whyQ h w = 0 := (by unfold whyQ; rw [if_pos (by omega)]; omega); rw [hwy]; first | exact ⟨by rw [if_pos rfl, if_pos (by omega)], hP⟩ | exact ⟨by rw [if_pos rfl, if_pos (by omega)], PM.rf⟩) | (refine ⟨?_, hP⟩; have e9 : j = 6 := (by omega); subst e9; first | (rw [if_pos (by omega)]; done) | (rw [if_neg (by omega)]; done))))
