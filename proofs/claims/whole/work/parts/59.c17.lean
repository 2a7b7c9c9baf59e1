def ones : BitVec 64 := BitVec.allOnes 64
def vesB (K : Cel) (t : Int) : Prop := K 2 t = 0 ∨ K 2 t = 5
def wshB (N : Pl) (w : BitVec 64) (t : Int) : BitVec 64 := w &&& N (t * 13 + 3) &&& ~~~(N (t * 13 + 12))
def altN (K : Cel) (N : Pl) (k t : Int) (w : BitVec 64) : Pl :=
  if k = 5 then (if K 2 t = 0 ∨ K 2 t = 5 then mkN N (t * 13) w 4 else if K 2 t = 3 then lput N (t * 13 + 12) (N (t * 13 + 12) ||| wshB N w t) else N)
  else if k = 6 then (if K 2 t = 0 ∨ K 2 t = 5 then lput (mkN N (t * 13) w 4) (t * 13 + 10) (N (t * 13 + 10) ||| w) else N)
  else if k = 7 then lput N (t * 13 + 11) (N (t * 13 + 11) ||| w)
  else lput N (t * 13 + 9) (N (t * 13 + 9) ||| w)
def altQ (K : Cel) (N : Pl) (k t : Int) (w : BitVec 64) : Prop := k = 5 → ((K 2 t = 0 ∨ K 2 t = 5) → N (t * 13 + 3) &&& w = 0#64) ∧ (K 2 t = 3 → wshB N w t = 0#64)
theorem mk_ite {s : Int} {x : BitVec 64} : ((if s ≠ 0 ∨ x ≠ 0#64 then (1 : Int) else 0) = 0 ∨ (if s ≠ 0 ∨ x ≠ 0#64 then (1 : Int) else 0) = 1) ∧ ((if s ≠ 0 ∨ x ≠ 0#64 then (1 : Int) else 0) = 0 → s = 0 ∧ x = 0#64) := by
  by_cases h : s ≠ 0 ∨ x ≠ 0#64
  · rw [if_pos h]; exact ⟨Or.inr rfl, fun q => absurd q (by decide)⟩
  · rw [if_neg h]
    refine ⟨Or.inl rfl, fun _ => ?_⟩
    by_cases a : s = 0
    · refine ⟨a, ?_⟩
      by_cases c : x = 0#64
      · exact c
      · exact absurd (Or.inr c) h
    · exact absurd (Or.inl a) h
/-- one is given what another had -/
def takB (K : Cel) (p : Int) (N F : Pl) (t : Int) (w : BitVec 64) : BitVec 64 :=
  if K 5 (p + K 2 t) < 1 then 0#64
  else if K 2 t = 1 ∨ K 2 t = 2 then F (K 5 (p + K 2 t) - 1) &&& w &&& ~~~(N (t * 13 + 10)) &&& N (t * 13 + 9)
  else F (K 5 (p + K 2 t) - 1) &&& w &&& ~~~(N (t * 13 + 10))
def hndF (K : Cel) (t : Int) (F : Pl) : Pl := if K 2 t = 2 then lput (lput (lput (lput F 3 (BitVec.allOnes 64)) 2 (BitVec.allOnes 64)) 1 (BitVec.allOnes 64)) 0 (BitVec.allOnes 64) else lput (lput (lput (lput F 3 (BitVec.allOnes 64)) 2 (F 1)) 1 (F 0)) 0 (0#64)
def giveN (K : Cel) (p : Int) (N F : Pl) (t : Int) (w : BitVec 64) : Pl := if takB K p N F t w = 0#64 then N else lput (lesN N (hndF K t F) 0 (t * 13) (takB K p N F t w)) (t * 13 + 12) (N (t * 13 + 12) &&& ~~~(takB K p N F t w))
theorem takB_0 {K : Cel} {p : Int} {N F : Pl} {t : Int} {w : BitVec 64} (h : K 5 (p + K 2 t) < 1) : takB K p N F t w = 0#64 := if_pos h
theorem takB_f {K : Cel} {p : Int} {N F : Pl} {t : Int} {w : BitVec 64} (h : ¬ K 5 (p + K 2 t) < 1) (h2 : K 2 t = 1 ∨ K 2 t = 2) : takB K p N F t w = F (K 5 (p + K 2 t) - 1) &&& w &&& ~~~(N (t * 13 + 10)) &&& N (t * 13 + 9) := by
  unfold takB
  rw [if_neg h, if_pos h2]
theorem takB_n {K : Cel} {p : Int} {N F : Pl} {t : Int} {w : BitVec 64} (h : ¬ K 5 (p + K 2 t) < 1) (h2 : ¬ (K 2 t = 1 ∨ K 2 t = 2)) : takB K p N F t w = F (K 5 (p + K 2 t) - 1) &&& w &&& ~~~(N (t * 13 + 10)) := by
  unfold takB
  rw [if_neg h, if_neg h2]
theorem giveN_z {K : Cel} {p : Int} {N F : Pl} {t : Int} {w : BitVec 64} (h : takB K p N F t w = 0#64) : giveN K p N F t w = N := if_pos h
theorem giveN_y {K : Cel} {p : Int} {N F : Pl} {t : Int} {w : BitVec 64} (h : ¬ takB K p N F t w = 0#64) : giveN K p N F t w = lput (lesN N (hndF K t F) 0 (t * 13) (takB K p N F t w)) (t * 13 + 12) (N (t * 13 + 12) &&& ~~~(takB K p N F t w)) := if_neg h
theorem hndF_congr {K : Cel} {t : Int} {F F' : Pl} (h : ∀ i, 0 ≤ i → i < 9 → F i = F' i) : ∀ i, 0 ≤ i → i < 9 → hndF K t F i = hndF K t F' i := by
  intro i h0 h1
  unfold hndF lput
  rw [h 0 (by omega) (by omega), h 1 (by omega) (by omega)]
  split <;> dsimp only <;> (repeat' split) <;> first | rfl | exact h i h0 h1
theorem giveN_congr {K : Cel} {p : Int} {N F F' : Pl} {t : Int} {w : BitVec 64} (hK : KOK K) (h : ∀ i, 0 ≤ i → i < 9 → F i = F' i) : giveN K p N F t w = giveN K p N F' t w := by
  have h5 := hK.2.2.2.2.1 (p + K 2 t)
  have e : takB K p N F t w = takB K p N F' t w := by
    unfold takB
    by_cases q : K 5 (p + K 2 t) < 1
    · rw [if_pos q, if_pos q]
    · rw [if_neg q, if_neg q, h _ (by omega) (by omega)]
  unfold giveN
  rw [e, lesN_congr (F := hndF K t F) (F' := hndF K t F') (fun i h0 h1 => by rw [Int.zero_add]; exact hndF_congr h i h0 h1)]
/-- the washed are clean -/
def cln1 (K : Cel) (t : Int) (N : Pl) : Pl := if K 2 t = 3 then lput (mkN N (t * 13) (N (t * 13 + 12)) 4) (t * 13 + 12) (0#64) else N
def clnN (K : Cel) (N : Pl) : Pl := upN (cln1 K) 0 (K 0 11).toNat N
/-- a source -/
def spA (B : Pl) (d k : Int) : Pl := fun j => if 0 ≤ j ∧ j < k then (if d ≤ j + 1 then BitVec.allOnes 64 else 0#64) else B j
def spB (B : Pl) (n : Nat) (k : Int) : Pl := fun j => if 4 ≤ j ∧ j < 4 + k then (if n.testBit (j - 4).toNat = true then BitVec.allOnes 64 else 0#64) else B j
def spF (d : Int) (n : Nat) : Pl := fun j => if j < 4 then (if d ≤ j + 1 then BitVec.allOnes 64 else 0#64) else (if n.testBit (j - 4).toNat = true then BitVec.allOnes 64 else 0#64)
theorem spA_0 {B : Pl} {d : Int} : spA B d 0 = B := by
  funext j; unfold spA; rw [if_neg (by omega)]
theorem spA_s {B : Pl} {d k : Int} {v : BitVec 64} (h : 0 ≤ k) (hv : v = if d ≤ k + 1 then BitVec.allOnes 64 else 0#64) : lput (spA B d k) k v = spA B d (k + 1) := by
  funext j
  unfold lput spA
  by_cases a : j = k
  · subst a; rw [if_pos rfl, if_pos (show 0 ≤ j ∧ j < j + 1 by omega), hv]
  · rw [if_neg a]
    by_cases q : 0 ≤ j ∧ j < k
    · rw [if_pos q, if_pos (show 0 ≤ j ∧ j < k + 1 by omega)]
    · rw [if_neg q, if_neg (show ¬ (0 ≤ j ∧ j < k + 1) by omega)]
theorem spB_0 {B : Pl} {n : Nat} : spB B n 0 = B := by
  funext j; unfold spB; rw [if_neg (by omega)]
theorem spB_s {B : Pl} {n : Nat} {k : Int} {v : BitVec 64} (h : 0 ≤ k) (hv : v = if n.testBit k.toNat = true then BitVec.allOnes 64 else 0#64) : lput (spB B n k) (4 + k) v = spB B n (k + 1) := by
  funext j
  unfold lput spB
  by_cases a : j = 4 + k
  · subst a
    rw [if_pos rfl, if_pos (by omega), hv, show 4 + k - 4 = k by omega]
  · rw [if_neg a]
    by_cases q : 4 ≤ j ∧ j < 4 + k
    · rw [if_pos q, if_pos (show 4 ≤ j ∧ j < 4 + (k + 1) by omega)]
    · rw [if_neg q, if_neg (show ¬ (4 ≤ j ∧ j < 4 + (k + 1)) by omega)]
theorem spF_e {B : Pl} {d : Int} {n : Nat} : ∀ i, 0 ≤ i → i < 9 → spB (spA B d 4) n 5 i = spF d n i := by
  intro i h0 h1
  unfold spB spA spF
  by_cases q : i < 4
  · rw [if_neg (by omega), if_pos (by omega), if_pos q]
  · rw [if_pos (by omega), if_neg q]
def sprN (K : Cel) (N : Pl) (t d : Int) (n : Nat) (w : BitVec 64) : Pl := shrN K w (lput (lesN N (spF d n) 0 (t * 13) w) (t * 13 + 12) (N (t * 13 + 12) &&& ~~~w))
set_option maxHeartbeats 1000000 in
set_option maxRecDepth 100000 in
theorem c_X4_alterOne {μ : Mem} {b : Nat} {N A B : Pl} {s : Int} {K : Cel} {k t : Int} {w : BitVec 64} (hb : b < 2) (hR : KR K μ) (hK : KOK K) (hk : 5 ≤ k ∧ k ≤ 8) (ht : 0 ≤ t ∧ t < 12) (hs : s = 0 ∨ s = 1) : PC shC 1 mX4_alterOne [vr (3 + b), vi k, vi t, vl w] (stM μ b N A B s) (QV (fun μ' => ∃ s' : Int, (s' = 0 ∨ s' = 1) ∧ (s' = 0 → s = 0 ∧ altQ K N k t w) ∧ μ' = stM μ b (altN K N k t w) A B s')) := by
  refine PC.of (by decide +kernel) (Nat.le_of_ble_eq_true rfl) ?_
  refine P_sub (L' := [(0, vr (3 + b)), (1, vi k), (2, vi t), (3, vl w)]) [0, 1, 2, 3] rfl ?_
  have hK2 := hK.2.2.1 t
  refine P_iload_n (pc := 0) dX4_alterOne_0 rfl 2 rfl ?_
  refine P_bipush (pc := 1) dX4_alterOne_1 (by decide) ?_
  refine P_imul (pc := 3) dX4_alterOne_3 ?_
  refine P_istore (L' := [(5, vi _), (0, vr (3 + b)), (1, vi _), (2, vi _), (3, vl _)]) (pc := 4) dX4_alterOne_4 (by decide) rfl ?_
  refine P_aload_n (pc := 6) dX4_alterOne_6 rfl 1 rfl ?_
  refine P_getR (pc := 7) dX4_alterOne_7 fa_RX4_38 (sS_o hb) fS_0 ?_
  refine P_iload_n (pc := 10) dX4_alterOne_10 rfl 3 rfl ?_
  refine P_callVi (Y' := mX3_kindOf) (as := [_]) (pc := 11) dX4_alterOne_11 rfl (by decide : 0 < 1) sC_1 rfl ml_RX4_108 im_X3_kindOf se_X3_kindOf mk_X3_kindOf (Nat.le_of_ble_eq_true rfl) (c_X3_kindOf (by unfold InR; omega)) (fun z_ μ_ hq => ?_)
  obtain ⟨hz, hμ_⟩ := hq
  subst hμ_
  rw [if_pos (by omega)] at hz
  simp (disch := omega) only [st_i] at hz
  rw [hR.2.1] at hz
  subst hz
  try simp (disch := omega) only [st_N, st_A, st_B, st_i, st_s, st_j, st_pN, st_pA, st_pB, st_ps, st_rN, st_rA, st_rB, les1_at, les2_at, mkN_at, kfN_0, lput_eq, lput_ne, lesN_out, mkN_out]
  refine P_callNi (Y' := mX5_isVessel) (as := [_]) (pc := 14) dX4_alterOne_14 rfl (by decide : 0 < 1) nm_RX4_141 sm_X5_isVessel mk_X5_isVessel (Nat.le_of_ble_eq_true rfl) (c_X5_isVessel (by unfold InR; omega)) (fun z_ μ_ hq => ?_)
  obtain ⟨hz, hμ_⟩ := hq
  subst hμ_
  have hz := ite01 hz
  try simp (disch := omega) only [st_N, st_A, st_B, st_i, st_s, st_j, st_pN, st_pA, st_pB, st_ps, st_rN, st_rA, st_rB, les1_at, les2_at, mkN_at, kfN_0, lput_eq, lput_ne, lesN_out, mkN_out]
  refine P_istore (L' := [(6, vi _), (5, vi _), (0, vr (3 + b)), (1, vi _), (2, vi _), (3, vl _)]) (pc := 17) dX4_alterOne_17 (by decide) rfl ?_
  refine P_iload_n (pc := 19) dX4_alterOne_19 rfl 3 rfl ?_
  rcases (show k = 5 ∨ k = 6 ∨ k = 7 ∨ k = 8 ∨ (k < 5 ∨ 8 < k) by omega) with h_sw | h_sw | h_sw | h_sw | h_sw
  · refine P_tableIn (tgt := 52) (pc := 20) dX4_alterOne_20 (by first | assumption | (unfold InR; omega)) (by omega) (by omega) (by first | rfl | (rw [h_sw]; rfl)) (by decide) ?_
    refine P_iload (pc := 52) dX4_alterOne_52 0 rfl ?_
    refine P_if_eq (tgt := 67) (pc := 54) dX4_alterOne_54 (by decide) (by first | assumption | (unfold InR; omega)) (fun c_54 => ?_) (fun c_54 => ?_)
    · refine P_aload_n (pc := 67) dX4_alterOne_67 rfl 2 rfl ?_
      refine P_getR (pc := 68) dX4_alterOne_68 fa_RX4_38 (sS_o hb) fS_0 ?_
      refine P_iload_n (pc := 71) dX4_alterOne_71 rfl 4 rfl ?_
      refine P_callVi (Y' := mX3_kindOf) (as := [_]) (pc := 72) dX4_alterOne_72 rfl (by decide : 0 < 1) sC_1 rfl ml_RX4_108 im_X3_kindOf se_X3_kindOf mk_X3_kindOf (Nat.le_of_ble_eq_true rfl) (c_X3_kindOf (by unfold InR; omega)) (fun z_ μ_ hq => ?_)
      obtain ⟨hz, hμ_⟩ := hq
      subst hμ_
      rw [if_pos (by omega)] at hz
      simp (disch := omega) only [st_i] at hz
      rw [hR.2.1] at hz
      subst hz
      try simp (disch := omega) only [st_N, st_A, st_B, st_i, st_s, st_j, st_pN, st_pA, st_pB, st_ps, st_rN, st_rA, st_rB, les1_at, les2_at, mkN_at, kfN_0, lput_eq, lput_ne, lesN_out, mkN_out]
      refine P_iconst (pc := 75) dX4_alterOne_75 ?_
      refine P_icmp_ne (tgt := 211) (pc := 76) dX4_alterOne_76 (by decide) (by first | assumption | (unfold InR; omega)) (by first | assumption | (unfold InR; omega)) (fun c_76 => ?_) (fun c_76 => ?_)
      · exact P_vret (pc := 211) dX4_alterOne_211 rfl (QV.mk (by refine ⟨_, ?_, ?_, st_ext ?_ rfl rfl rfl⟩; (first | omega | exact mk_ite.1); (first | exact fun h => ⟨(mk_ite.2 h).1, fun _ => ⟨fun _ => (mk_ite.2 h).2, fun q => by exfalso; omega⟩⟩ | exact fun h => ⟨(mk_ite.2 h).1, fun q => by exfalso; omega⟩ | exact fun h => ⟨by omega, fun q => by exfalso; omega⟩ | exact fun h => ⟨by omega, fun _ => ⟨fun q => by exfalso; omega, fun q => by first | (exfalso; omega) | exact c_118⟩⟩ | exact fun h => by exfalso; omega); (unfold altN; first | (rw [if_pos (by omega), if_pos (by omega)]; done) | (rw [if_pos (by omega), if_neg (by omega), if_pos (by omega)]; rfl) | (rw [if_pos (by omega), if_neg (by omega), if_neg (by omega)]; done) | (rw [if_neg (by omega), if_pos (by omega), if_pos (by omega)]; done) | (rw [if_neg (by omega), if_pos (by omega), if_neg (by omega)]; done) | (rw [if_neg (by omega), if_neg (by omega), if_pos (by omega)]; done) | (rw [if_neg (by omega), if_neg (by omega), if_neg (by omega)]; done))))
      · refine P_lload_n (pc := 79) dX4_alterOne_79 rfl 5 rfl ?_
        refine P_aload_n (pc := 80) dX4_alterOne_80 rfl 2 rfl ?_
        refine P_getR (pc := 81) dX4_alterOne_81 fa_RX4_9 (sS_o hb) fS_2 ?_
        refine P_iload (pc := 84) dX4_alterOne_84 1 rfl ?_
        refine P_iconst (pc := 86) dX4_alterOne_86 ?_
        refine P_iadd (pc := 87) dX4_alterOne_87 ?_
        refine P_lald (pc := 88) dX4_alterOne_88 (sS_22 hb) (by omega) (by omega) (by decide) ?_
        try simp (disch := omega) only [st_N, st_A, st_B, st_i, st_s, st_j, st_pN, st_pA, st_pB, st_ps, st_rN, st_rA, st_rB, les1_at, les2_at, mkN_at, kfN_0, lput_eq, lput_ne, lesN_out, mkN_out]
        refine P_land (pc := 89) dX4_alterOne_89 ?_
        refine P_aload_n (pc := 90) dX4_alterOne_90 rfl 2 rfl ?_
        refine P_getR (pc := 91) dX4_alterOne_91 fa_RX4_9 (sS_o hb) fS_2 ?_
        refine P_iload (pc := 94) dX4_alterOne_94 1 rfl ?_
        refine P_bipush (pc := 96) dX4_alterOne_96 (by decide) ?_
        refine P_iadd (pc := 98) dX4_alterOne_98 ?_
        refine P_lald (pc := 99) dX4_alterOne_99 (sS_22 hb) (by omega) (by omega) (by decide) ?_
        try simp (disch := omega) only [st_N, st_A, st_B, st_i, st_s, st_j, st_pN, st_pA, st_pB, st_ps, st_rN, st_rA, st_rB, les1_at, les2_at, mkN_at, kfN_0, lput_eq, lput_ne, lesN_out, mkN_out]
        refine P_ldc2 (b := BitVec.allOnes 64) (pc := 100) dX4_alterOne_100 kl_RX4_63 (by decide +kernel) ?_
        refine P_lnot (pc := 103) dX4_alterOne_103 ?_
        refine P_land (pc := 104) dX4_alterOne_104 ?_
        refine P_lstore (L' := [(7, vl _), (6, vi _), (5, vi _), (0, vr (3 + b)), (1, vi _), (2, vi _), (3, vl _)]) (pc := 105) dX4_alterOne_105 (by decide) rfl ?_
        refine P_aload_n (pc := 107) dX4_alterOne_107 rfl 3 rfl ?_
        refine P_aload_n (pc := 108) dX4_alterOne_108 rfl 3 rfl ?_
        refine P_getI (jj := 10) (pc := 109) dX4_alterOne_109 fa_RX4_144 (sS_o hb) fS_10 rfl ?_
        try simp (disch := omega) only [st_N, st_A, st_B, st_i, st_s, st_j, st_pN, st_pA, st_pB, st_ps, st_rN, st_rA, st_rB, les1_at, les2_at, mkN_at, kfN_0, lput_eq, lput_ne, lesN_out, mkN_out]
        refine P_if_ne (tgt := 122) (pc := 112) dX4_alterOne_112 (by decide) (by first | assumption | (unfold InR; omega)) (fun c_112 => ?_) (fun c_112 => ?_)
        · refine P_iconst (pc := 122) dX4_alterOne_122 ?_
          refine P_goto (tgt := 127) (pc := 123) dX4_alterOne_123 (by decide) ?_
          refine P_putZ (jj := 10) (pc := 127) dX4_alterOne_127 fa_RX4_144 fp_4_10 (sS_o hb) fS_10 rfl (by omega) ?_
          try simp (disch := omega) only [st_N, st_A, st_B, st_i, st_s, st_j, st_pN, st_pA, st_pB, st_ps, st_rN, st_rA, st_rB, les1_at, les2_at, mkN_at, kfN_0, lput_eq, lput_ne, lesN_out, mkN_out]
          refine P_aload_n (pc := 130) dX4_alterOne_130 rfl 3 rfl ?_
          refine P_getR (pc := 131) dX4_alterOne_131 fa_RX4_9 (sS_o hb) fS_2 ?_
          refine P_iload (pc := 134) dX4_alterOne_134 2 rfl ?_
          refine P_bipush (pc := 136) dX4_alterOne_136 (by decide) ?_
          refine P_iadd (pc := 138) dX4_alterOne_138 ?_
          refine P_dup2_11 (pc := 139) dX4_alterOne_139 rfl rfl ?_
          refine P_lald (pc := 140) dX4_alterOne_140 (sS_22 hb) (by omega) (by omega) (by decide) ?_
          try simp (disch := omega) only [st_N, st_A, st_B, st_i, st_s, st_j, st_pN, st_pA, st_pB, st_ps, st_rN, st_rA, st_rB, les1_at, les2_at, mkN_at, kfN_0, lput_eq, lput_ne, lesN_out, mkN_out]
          refine P_lload (pc := 141) dX4_alterOne_141 0 rfl ?_
          refine P_lor (pc := 143) dX4_alterOne_143 ?_
          refine P_last (pc := 144) dX4_alterOne_144 (sS_22 hb) (by omega) (by omega) (by decide) ?_
          try simp (disch := omega) only [st_N, st_A, st_B, st_i, st_s, st_j, st_pN, st_pA, st_pB, st_ps, st_rN, st_rA, st_rB, les1_at, les2_at, mkN_at, kfN_0, lput_eq, lput_ne, lesN_out, mkN_out]
          refine P_goto (tgt := 211) (pc := 145) dX4_alterOne_145 (by decide) ?_
          exact P_vret (pc := 211) dX4_alterOne_211 rfl (QV.mk (by refine ⟨_, ?_, ?_, st_ext ?_ rfl rfl rfl⟩; (first | omega | exact mk_ite.1); (first | exact fun h => ⟨(mk_ite.2 h).1, fun _ => ⟨fun _ => (mk_ite.2 h).2, fun q => by exfalso; omega⟩⟩ | exact fun h => ⟨(mk_ite.2 h).1, fun q => by exfalso; omega⟩ | exact fun h => ⟨by omega, fun q => by exfalso; omega⟩ | exact fun h => ⟨by omega, fun _ => ⟨fun q => by exfalso; omega, fun q => by first | (exfalso; omega) | exact c_118⟩⟩ | exact fun h => by exfalso; omega); (unfold altN; first | (rw [if_pos (by omega), if_pos (by omega)]; done) | (rw [if_pos (by omega), if_neg (by omega), if_pos (by omega)]; rfl) | (rw [if_pos (by omega), if_neg (by omega), if_neg (by omega)]; done) | (rw [if_neg (by omega), if_pos (by omega), if_pos (by omega)]; done) | (rw [if_neg (by omega), if_pos (by omega), if_neg (by omega)]; done) | (rw [if_neg (by omega), if_neg (by omega), if_pos (by omega)]; done) | (rw [if_neg (by omega), if_neg (by omega), if_neg (by omega)]; done))))
        · refine P_lload (pc := 115) dX4_alterOne_115 0 rfl ?_
          refine P_lconst (b := 0#64) (pc := 117) dX4_alterOne_117 rfl ?_
          refine P_lcmp_eq (tgt := 126) (pc := 118) dX4_alterOne_118 dX4_alterOne_119 (by decide) (fun c_118 => ?_) (fun c_118 => ?_)
          · refine P_iconst (pc := 126) dX4_alterOne_126 ?_
            refine P_putZ (jj := 10) (pc := 127) dX4_alterOne_127 fa_RX4_144 fp_4_10 (sS_o hb) fS_10 rfl (by omega) ?_
            try simp (disch := omega) only [st_N, st_A, st_B, st_i, st_s, st_j, st_pN, st_pA, st_pB, st_ps, st_rN, st_rA, st_rB, les1_at, les2_at, mkN_at, kfN_0, lput_eq, lput_ne, lesN_out, mkN_out]
            refine P_aload_n (pc := 130) dX4_alterOne_130 rfl 3 rfl ?_
            refine P_getR (pc := 131) dX4_alterOne_131 fa_RX4_9 (sS_o hb) fS_2 ?_
            refine P_iload (pc := 134) dX4_alterOne_134 2 rfl ?_
            refine P_bipush (pc := 136) dX4_alterOne_136 (by decide) ?_
            refine P_iadd (pc := 138) dX4_alterOne_138 ?_
            refine P_dup2_11 (pc := 139) dX4_alterOne_139 rfl rfl ?_
            refine P_lald (pc := 140) dX4_alterOne_140 (sS_22 hb) (by omega) (by omega) (by decide) ?_
            try simp (disch := omega) only [st_N, st_A, st_B, st_i, st_s, st_j, st_pN, st_pA, st_pB, st_ps, st_rN, st_rA, st_rB, les1_at, les2_at, mkN_at, kfN_0, lput_eq, lput_ne, lesN_out, mkN_out]
            refine P_lload (pc := 141) dX4_alterOne_141 0 rfl ?_
            refine P_lor (pc := 143) dX4_alterOne_143 ?_
            refine P_last (pc := 144) dX4_alterOne_144 (sS_22 hb) (by omega) (by omega) (by decide) ?_
            try simp (disch := omega) only [st_N, st_A, st_B, st_i, st_s, st_j, st_pN, st_pA, st_pB, st_ps, st_rN, st_rA, st_rB, les1_at, les2_at, mkN_at, kfN_0, lput_eq, lput_ne, lesN_out, mkN_out]
            refine P_goto (tgt := 211) (pc := 145) dX4_alterOne_145 (by decide) ?_
            exact P_vret (pc := 211) dX4_alterOne_211 rfl (QV.mk (by refine ⟨_, ?_, ?_, st_ext ?_ rfl rfl rfl⟩; (first | omega | exact mk_ite.1); (first | exact fun h => ⟨(mk_ite.2 h).1, fun _ => ⟨fun _ => (mk_ite.2 h).2, fun q => by exfalso; omega⟩⟩ | exact fun h => ⟨(mk_ite.2 h).1, fun q => by exfalso; omega⟩ | exact fun h => ⟨by omega, fun q => by exfalso; omega⟩ | exact fun h => ⟨by omega, fun _ => ⟨fun q => by exfalso; omega, fun q => by first | (exfalso; omega) | exact c_118⟩⟩ | exact fun h => by exfalso; omega); (unfold altN; first | (rw [if_pos (by omega), if_pos (by omega)]; done) | (rw [if_pos (by omega), if_neg (by omega), if_pos (by omega)]; rfl) | (rw [if_pos (by omega), if_neg (by omega), if_neg (by omega)]; done) | (rw [if_neg (by omega), if_pos (by omega), if_pos (by omega)]; done) | (rw [if_neg (by omega), if_pos (by omega), if_neg (by omega)]; done) | (rw [if_neg (by omega), if_neg (by omega), if_pos (by omega)]; done) | (rw [if_neg (by omega), if_neg (by omega), if_neg (by omega)]; done))))
          · refine P_iconst (pc := 122) dX4_alterOne_122 ?_
            refine P_goto (tgt := 127) (pc := 123) dX4_alterOne_123 (by decide) ?_
            refine P_putZ (jj := 10) (pc := 127) dX4_alterOne_127 fa_RX4_144 fp_4_10 (sS_o hb) fS_10 rfl (by omega) ?_
            try simp (disch := omega) only [st_N, st_A, st_B, st_i, st_s, st_j, st_pN, st_pA, st_pB, st_ps, st_rN, st_rA, st_rB, les1_at, les2_at, mkN_at, kfN_0, lput_eq, lput_ne, lesN_out, mkN_out]
            refine P_aload_n (pc := 130) dX4_alterOne_130 rfl 3 rfl ?_
            refine P_getR (pc := 131) dX4_alterOne_131 fa_RX4_9 (sS_o hb) fS_2 ?_
            refine P_iload (pc := 134) dX4_alterOne_134 2 rfl ?_
            refine P_bipush (pc := 136) dX4_alterOne_136 (by decide) ?_
            refine P_iadd (pc := 138) dX4_alterOne_138 ?_
            refine P_dup2_11 (pc := 139) dX4_alterOne_139 rfl rfl ?_
            refine P_lald (pc := 140) dX4_alterOne_140 (sS_22 hb) (by omega) (by omega) (by decide) ?_
            try simp (disch := omega) only [st_N, st_A, st_B, st_i, st_s, st_j, st_pN, st_pA, st_pB, st_ps, st_rN, st_rA, st_rB, les1_at, les2_at, mkN_at, kfN_0, lput_eq, lput_ne, lesN_out, mkN_out]
            refine P_lload (pc := 141) dX4_alterOne_141 0 rfl ?_
            refine P_lor (pc := 143) dX4_alterOne_143 ?_
            refine P_last (pc := 144) dX4_alterOne_144 (sS_22 hb) (by omega) (by omega) (by decide) ?_
            try simp (disch := omega) only [st_N, st_A, st_B, st_i, st_s, st_j, st_pN, st_pA, st_pB, st_ps, st_rN, st_rA, st_rB, les1_at, les2_at, mkN_at, kfN_0, lput_eq, lput_ne, lesN_out, mkN_out]
            refine P_goto (tgt := 211) (pc := 145) dX4_alterOne_145 (by decide) ?_
            exact P_vret (pc := 211) dX4_alterOne_211 rfl (QV.mk (by refine ⟨_, ?_, ?_, st_ext ?_ rfl rfl rfl⟩; (first | omega | exact mk_ite.1); (first | exact fun h => ⟨(mk_ite.2 h).1, fun _ => ⟨fun _ => (mk_ite.2 h).2, fun q => by exfalso; omega⟩⟩ | exact fun h => ⟨(mk_ite.2 h).1, fun q => by exfalso; omega⟩ | exact fun h => ⟨by omega, fun q => by exfalso; omega⟩ | exact fun h => ⟨by omega, fun _ => ⟨fun q => by exfalso; omega, fun q => by first | (exfalso; omega) | exact c_118⟩⟩ | exact fun h => by exfalso; omega); (unfold altN; first | (rw [if_pos (by omega), if_pos (by omega)]; done) | (rw [if_pos (by omega), if_neg (by omega), if_pos (by omega)]; rfl) | (rw [if_pos (by omega), if_neg (by omega), if_neg (by omega)]; done) | (rw [if_neg (by omega), if_pos (by omega), if_pos (by omega)]; done) | (rw [if_neg (by omega), if_pos (by omega), if_neg (by omega)]; done) | (rw [if_neg (by omega), if_neg (by omega), if_pos (by omega)]; done) | (rw [if_neg (by omega), if_neg (by omega), if_neg (by omega)]; done))))
    · refine P_aload_n (pc := 57) dX4_alterOne_57 rfl 2 rfl ?_
      refine P_iload (pc := 58) dX4_alterOne_58 1 rfl ?_
      refine P_lload_n (pc := 60) dX4_alterOne_60 rfl 5 rfl ?_
      refine P_callVv (Y' := mX4_makeClean) (as := [_, _]) (pc := 61) dX4_alterOne_61 rfl (by decide : 0 < 1) (sS_o hb) rfl ml_RX4_112 im_X4_makeClean se_X4_makeClean mk_X4_makeClean (Nat.le_of_ble_eq_true rfl) (c_X4_makeClean hb (by omega) hs) (fun μ_ hq => ?_)
      subst hq
      try simp (disch := omega) only [st_N, st_A, st_B, st_i, st_s, st_j, st_pN, st_pA, st_pB, st_ps, st_rN, st_rA, st_rB, les1_at, les2_at, mkN_at, kfN_0, lput_eq, lput_ne, lesN_out, mkN_out]
      refine P_goto (tgt := 211) (pc := 64) dX4_alterOne_64 (by decide) ?_
      exact P_vret (pc := 211) dX4_alterOne_211 rfl (QV.mk (by refine ⟨_, ?_, ?_, st_ext ?_ rfl rfl rfl⟩; (first | omega | exact mk_ite.1); (first | exact fun h => ⟨(mk_ite.2 h).1, fun _ => ⟨fun _ => (mk_ite.2 h).2, fun q => by exfalso; omega⟩⟩ | exact fun h => ⟨(mk_ite.2 h).1, fun q => by exfalso; omega⟩ | exact fun h => ⟨by omega, fun q => by exfalso; omega⟩ | exact fun h => ⟨by omega, fun _ => ⟨fun q => by exfalso; omega, fun q => by first | (exfalso; omega) | exact c_118⟩⟩ | exact fun h => by exfalso; omega); (unfold altN; first | (rw [if_pos (by omega), if_pos (by omega)]; done) | (rw [if_pos (by omega), if_neg (by omega), if_pos (by omega)]; rfl) | (rw [if_pos (by omega), if_neg (by omega), if_neg (by omega)]; done) | (rw [if_neg (by omega), if_pos (by omega), if_pos (by omega)]; done) | (rw [if_neg (by omega), if_pos (by omega), if_neg (by omega)]; done) | (rw [if_neg (by omega), if_neg (by omega), if_pos (by omega)]; done) | (rw [if_neg (by omega), if_neg (by omega), if_neg (by omega)]; done))))
  · refine P_tableIn (tgt := 148) (pc := 20) dX4_alterOne_20 (by first | assumption | (unfold InR; omega)) (by omega) (by omega) (by first | rfl | (rw [h_sw]; rfl)) (by decide) ?_
    refine P_iload (pc := 148) dX4_alterOne_148 0 rfl ?_
    refine P_if_eq (tgt := 211) (pc := 150) dX4_alterOne_150 (by decide) (by first | assumption | (unfold InR; omega)) (fun c_150 => ?_) (fun c_150 => ?_)
    · exact P_vret (pc := 211) dX4_alterOne_211 rfl (QV.mk (by refine ⟨_, ?_, ?_, st_ext ?_ rfl rfl rfl⟩; (first | omega | exact mk_ite.1); (first | exact fun h => ⟨(mk_ite.2 h).1, fun _ => ⟨fun _ => (mk_ite.2 h).2, fun q => by exfalso; omega⟩⟩ | exact fun h => ⟨(mk_ite.2 h).1, fun q => by exfalso; omega⟩ | exact fun h => ⟨by omega, fun q => by exfalso; omega⟩ | exact fun h => ⟨by omega, fun _ => ⟨fun q => by exfalso; omega, fun q => by first | (exfalso; omega) | exact c_118⟩⟩ | exact fun h => by exfalso; omega); (unfold altN; first | (rw [if_pos (by omega), if_pos (by omega)]; done) | (rw [if_pos (by omega), if_neg (by omega), if_pos (by omega)]; rfl) | (rw [if_pos (by omega), if_neg (by omega), if_neg (by omega)]; done) | (rw [if_neg (by omega), if_pos (by omega), if_pos (by omega)]; done) | (rw [if_neg (by omega), if_pos (by omega), if_neg (by omega)]; done) | (rw [if_neg (by omega), if_neg (by omega), if_pos (by omega)]; done) | (rw [if_neg (by omega), if_neg (by omega), if_neg (by omega)]; done))))
    · refine P_aload_n (pc := 153) dX4_alterOne_153 rfl 2 rfl ?_
      refine P_iload (pc := 154) dX4_alterOne_154 1 rfl ?_
      refine P_lload_n (pc := 156) dX4_alterOne_156 rfl 5 rfl ?_
      refine P_callVv (Y' := mX4_makeClean) (as := [_, _]) (pc := 157) dX4_alterOne_157 rfl (by decide : 0 < 1) (sS_o hb) rfl ml_RX4_112 im_X4_makeClean se_X4_makeClean mk_X4_makeClean (Nat.le_of_ble_eq_true rfl) (c_X4_makeClean hb (by omega) hs) (fun μ_ hq => ?_)
      subst hq
      try simp (disch := omega) only [st_N, st_A, st_B, st_i, st_s, st_j, st_pN, st_pA, st_pB, st_ps, st_rN, st_rA, st_rB, les1_at, les2_at, mkN_at, kfN_0, lput_eq, lput_ne, lesN_out, mkN_out]
      refine P_aload_n (pc := 160) dX4_alterOne_160 rfl 2 rfl ?_
      refine P_getR (pc := 161) dX4_alterOne_161 fa_RX4_9 (sS_o hb) fS_2 ?_
      refine P_iload (pc := 164) dX4_alterOne_164 1 rfl ?_
      refine P_bipush (pc := 166) dX4_alterOne_166 (by decide) ?_
      refine P_iadd (pc := 168) dX4_alterOne_168 ?_
      refine P_dup2_11 (pc := 169) dX4_alterOne_169 rfl rfl ?_
      refine P_lald (pc := 170) dX4_alterOne_170 (sS_22 hb) (by omega) (by omega) (by decide) ?_
      try simp (disch := omega) only [st_N, st_A, st_B, st_i, st_s, st_j, st_pN, st_pA, st_pB, st_ps, st_rN, st_rA, st_rB, les1_at, les2_at, mkN_at, kfN_0, lput_eq, lput_ne, lesN_out, mkN_out]
      refine P_lload_n (pc := 171) dX4_alterOne_171 rfl 5 rfl ?_
      refine P_lor (pc := 172) dX4_alterOne_172 ?_
      refine P_last (pc := 173) dX4_alterOne_173 (sS_22 hb) (by omega) (by omega) (by decide) ?_
      try simp (disch := omega) only [st_N, st_A, st_B, st_i, st_s, st_j, st_pN, st_pA, st_pB, st_ps, st_rN, st_rA, st_rB, les1_at, les2_at, mkN_at, kfN_0, lput_eq, lput_ne, lesN_out, mkN_out]
      refine P_goto (tgt := 211) (pc := 174) dX4_alterOne_174 (by decide) ?_
      exact P_vret (pc := 211) dX4_alterOne_211 rfl (QV.mk (by refine ⟨_, ?_, ?_, st_ext ?_ rfl rfl rfl⟩; (first | omega | exact mk_ite.1); (first | exact fun h => ⟨(mk_ite.2 h).1, fun _ => ⟨fun _ => (mk_ite.2 h).2, fun q => by exfalso; omega⟩⟩ | exact fun h => ⟨(mk_ite.2 h).1, fun q => by exfalso; omega⟩ | exact fun h => ⟨by omega, fun q => by exfalso; omega⟩ | exact fun h => ⟨by omega, fun _ => ⟨fun q => by exfalso; omega, fun q => by first | (exfalso; omega) | exact c_118⟩⟩ | exact fun h => by exfalso; omega); (unfold altN; first | (rw [if_pos (by omega), if_pos (by omega)]; done) | (rw [if_pos (by omega), if_neg (by omega), if_pos (by omega)]; rfl) | (rw [if_pos (by omega), if_neg (by omega), if_neg (by omega)]; done) | (rw [if_neg (by omega), if_pos (by omega), if_pos (by omega)]; done) | (rw [if_neg (by omega), if_pos (by omega), if_neg (by omega)]; done) | (rw [if_neg (by omega), if_neg (by omega), if_pos (by omega)]; done) | (rw [if_neg (by omega), if_neg (by omega), if_neg (by omega)]; done))))
  · refine P_tableIn (tgt := 177) (pc := 20) dX4_alterOne_20 (by first | assumption | (unfold InR; omega)) (by omega) (by omega) (by first | rfl | (rw [h_sw]; rfl)) (by decide) ?_
    refine P_aload_n (pc := 177) dX4_alterOne_177 rfl 2 rfl ?_
    refine P_getR (pc := 178) dX4_alterOne_178 fa_RX4_9 (sS_o hb) fS_2 ?_
    refine P_iload (pc := 181) dX4_alterOne_181 1 rfl ?_
    refine P_bipush (pc := 183) dX4_alterOne_183 (by decide) ?_
    refine P_iadd (pc := 185) dX4_alterOne_185 ?_
    refine P_dup2_11 (pc := 186) dX4_alterOne_186 rfl rfl ?_
    refine P_lald (pc := 187) dX4_alterOne_187 (sS_22 hb) (by omega) (by omega) (by decide) ?_
    try simp (disch := omega) only [st_N, st_A, st_B, st_i, st_s, st_j, st_pN, st_pA, st_pB, st_ps, st_rN, st_rA, st_rB, les1_at, les2_at, mkN_at, kfN_0, lput_eq, lput_ne, lesN_out, mkN_out]
    refine P_lload_n (pc := 188) dX4_alterOne_188 rfl 5 rfl ?_
    refine P_lor (pc := 189) dX4_alterOne_189 ?_
    refine P_last (pc := 190) dX4_alterOne_190 (sS_22 hb) (by omega) (by omega) (by decide) ?_
    try simp (disch := omega) only [st_N, st_A, st_B, st_i, st_s, st_j, st_pN, st_pA, st_pB, st_ps, st_rN, st_rA, st_rB, les1_at, les2_at, mkN_at, kfN_0, lput_eq, lput_ne, lesN_out, mkN_out]
    refine P_goto (tgt := 211) (pc := 191) dX4_alterOne_191 (by decide) ?_
    exact P_vret (pc := 211) dX4_alterOne_211 rfl (QV.mk (by refine ⟨_, ?_, ?_, st_ext ?_ rfl rfl rfl⟩; (first | omega | exact mk_ite.1); (first | exact fun h => ⟨(mk_ite.2 h).1, fun _ => ⟨fun _ => (mk_ite.2 h).2, fun q => by exfalso; omega⟩⟩ | exact fun h => ⟨(mk_ite.2 h).1, fun q => by exfalso; omega⟩ | exact fun h => ⟨by omega, fun q => by exfalso; omega⟩ | exact fun h => ⟨by omega, fun _ => ⟨fun q => by exfalso; omega, fun q => by first | (exfalso; omega) | exact c_118⟩⟩ | exact fun h => by exfalso; omega); (unfold altN; first | (rw [if_pos (by omega), if_pos (by omega)]; done) | (rw [if_pos (by omega), if_neg (by omega), if_pos (by omega)]; rfl) | (rw [if_pos (by omega), if_neg (by omega), if_neg (by omega)]; done) | (rw [if_neg (by omega), if_pos (by omega), if_pos (by omega)]; done) | (rw [if_neg (by omega), if_pos (by omega), if_neg (by omega)]; done) | (rw [if_neg (by omega), if_neg (by omega), if_pos (by omega)]; done) | (rw [if_neg (by omega), if_neg (by omega), if_neg (by omega)]; done))))
  · refine P_tableIn (tgt := 194) (pc := 20) dX4_alterOne_20 (by first | assumption | (unfold InR; omega)) (by omega) (by omega) (by first | rfl | (rw [h_sw]; rfl)) (by decide) ?_
    refine P_aload_n (pc := 194) dX4_alterOne_194 rfl 2 rfl ?_
    refine P_getR (pc := 195) dX4_alterOne_195 fa_RX4_9 (sS_o hb) fS_2 ?_
    refine P_iload (pc := 198) dX4_alterOne_198 1 rfl ?_
    refine P_bipush (pc := 200) dX4_alterOne_200 (by decide) ?_
    refine P_iadd (pc := 202) dX4_alterOne_202 ?_
    refine P_dup2_11 (pc := 203) dX4_alterOne_203 rfl rfl ?_
    refine P_lald (pc := 204) dX4_alterOne_204 (sS_22 hb) (by omega) (by omega) (by decide) ?_
    try simp (disch := omega) only [st_N, st_A, st_B, st_i, st_s, st_j, st_pN, st_pA, st_pB, st_ps, st_rN, st_rA, st_rB, les1_at, les2_at, mkN_at, kfN_0, lput_eq, lput_ne, lesN_out, mkN_out]
    refine P_lload_n (pc := 205) dX4_alterOne_205 rfl 5 rfl ?_
    refine P_lor (pc := 206) dX4_alterOne_206 ?_
    refine P_last (pc := 207) dX4_alterOne_207 (sS_22 hb) (by omega) (by omega) (by decide) ?_
    try simp (disch := omega) only [st_N, st_A, st_B, st_i, st_s, st_j, st_pN, st_pA, st_pB, st_ps, st_rN, st_rA, st_rB, les1_at, les2_at, mkN_at, kfN_0, lput_eq, lput_ne, lesN_out, mkN_out]
    refine P_goto (tgt := 211) (pc := 208) dX4_alterOne_208 (by decide) ?_
    exact P_vret (pc := 211) dX4_alterOne_211 rfl (QV.mk (by refine ⟨_, ?_, ?_, st_ext ?_ rfl rfl rfl⟩; (first | omega | exact mk_ite.1); (first | exact fun h => ⟨(mk_ite.2 h).1, fun _ => ⟨fun _ => (mk_ite.2 h).2, fun q => by exfalso; omega⟩⟩ | exact fun h => ⟨(mk_ite.2 h).1, fun q => by exfalso; omega⟩ | exact fun h => ⟨by omega, fun q => by exfalso; omega⟩ | exact fun h => ⟨by omega, fun _ => ⟨fun q => by exfalso; omega, fun q => by first | (exfalso; omega) | exact c_118⟩⟩ | exact fun h => by exfalso; omega); (unfold altN; first | (rw [if_pos (by omega), if_pos (by omega)]; done) | (rw [if_pos (by omega), if_neg (by omega), if_pos (by omega)]; rfl) | (rw [if_pos (by omega), if_neg (by omega), if_neg (by omega)]; done) | (rw [if_neg (by omega), if_pos (by omega), if_pos (by omega)]; done) | (rw [if_neg (by omega), if_pos (by omega), if_neg (by omega)]; done) | (rw [if_neg (by omega), if_neg (by omega), if_pos (by omega)]; done) | (rw [if_neg (by omega), if_neg (by omega), if_neg (by omega)]; done))))
  · exfalso; omega
set_option maxHeartbeats 1000000 in
set_option maxRecDepth 100000 in
theorem c_X4_giveA {μ : Mem} {b : Nat} {N A B : Pl} {s : Int} {K : Cel} {t : Int} {w : BitVec 64} (hb : b < 2) (hR : KR K μ) (hK : KOK K) (ht : 0 ≤ t ∧ t < 12) (hlp : μ.1 (3 + b) 1 = 6 * (b : Int)) (hs : s = 0 ∨ s = 1) : PC shC 1 mX4_give [vr (3 + b), vi t, vr (27 + 7 * b), vl w] (stM μ b N A B s) (QV (fun μ' => ∃ (A' : Pl) (s' : Int), (s' = 0 ∨ s' = 1) ∧ μ' = stM μ b (giveN K (6 * (b : Int)) N A t w) A' B s')) := by
  refine PC.of (by decide +kernel) (Nat.le_of_ble_eq_true rfl) ?_
  refine P_sub (L' := [(0, vr (3 + b)), (1, vi t), (2, vr (27 + 7 * b)), (3, vl w)]) [0, 1, 2, 3] rfl ?_
  have hK2 := hK.2.2.1 t
  have hK5 := hK.2.2.2.2.1 (6 * (b : Int) + K 2 t)
  refine P_iload_n (pc := 0) dX4_give_0 rfl 1 rfl ?_
  refine P_bipush (pc := 1) dX4_give_1 (by decide) ?_
  refine P_imul (pc := 3) dX4_give_3 ?_
  refine P_istore (L' := [(5, vi _), (0, vr (3 + b)), (1, vi _), (2, vr (27 + 7 * b)), (3, vl _)]) (pc := 4) dX4_give_4 (by decide) rfl ?_
  refine P_aload_n (pc := 6) dX4_give_6 rfl 1 rfl ?_
  refine P_getR (pc := 7) dX4_give_7 fa_RX4_38 (sS_o hb) fS_0 ?_
  refine P_iload_n (pc := 10) dX4_give_10 rfl 2 rfl ?_
  refine P_callVi (Y' := mX3_kindOf) (as := [_]) (pc := 11) dX4_give_11 rfl (by decide : 0 < 1) sC_1 rfl ml_RX4_108 im_X3_kindOf se_X3_kindOf mk_X3_kindOf (Nat.le_of_ble_eq_true rfl) (c_X3_kindOf (by unfold InR; omega)) (fun z_ μ_ hq => ?_)
  obtain ⟨hz, hμ_⟩ := hq
  subst hμ_
  rw [if_pos (by omega)] at hz
  simp (disch := omega) only [st_i] at hz
  rw [hR.2.1] at hz
  subst hz
  try simp (disch := omega) only [st_N, st_A, st_B, st_i, st_s, st_j, st_pN, st_pA, st_pB, st_ps, st_rN, st_rA, st_rB, les1_at, les2_at, mkN_at, kfN_0, lput_eq, lput_ne, lesN_out, mkN_out]
  refine P_istore (L' := [(6, vi _), (5, vi _), (0, vr (3 + b)), (1, vi _), (2, vr (27 + 7 * b)), (3, vl _)]) (pc := 14) dX4_give_14 (by decide) rfl ?_
  refine P_aload_n (pc := 16) dX4_give_16 rfl 2 rfl ?_
  refine P_getR (pc := 17) dX4_give_17 fa_RX4_38 (sS_o hb) fS_0 ?_
  refine P_aload_n (pc := 20) dX4_give_20 rfl 2 rfl ?_
  refine P_getI (jj := 1) (pc := 21) dX4_give_21 fa_RX4_42 (sS_o hb) fS_1 rfl ?_
  try simp (disch := omega) only [st_N, st_A, st_B, st_i, st_s, st_j, st_pN, st_pA, st_pB, st_ps, st_rN, st_rA, st_rB, les1_at, les2_at, mkN_at, kfN_0, lput_eq, lput_ne, lesN_out, mkN_out]
  rw [hlp]
  refine P_iload (pc := 24) dX4_give_24 0 rfl ?_
  refine P_iadd (pc := 26) dX4_give_26 ?_
  refine P_callVi (Y' := mX3_takenBy) (as := [_]) (pc := 27) dX4_give_27 rfl (by decide : 0 < 1) sC_1 rfl ml_RX4_152 im_X3_takenBy se_X3_takenBy mk_X3_takenBy (Nat.le_of_ble_eq_true rfl) (c_X3_takenBy (by unfold InR; omega)) (fun z_ μ_ hq => ?_)
  obtain ⟨hz, hμ_⟩ := hq
  subst hμ_
  rw [if_pos (by omega)] at hz
  simp (disch := omega) only [st_i] at hz
  rw [hR.2.2.1] at hz
  subst hz
  try simp (disch := omega) only [st_N, st_A, st_B, st_i, st_s, st_j, st_pN, st_pA, st_pB, st_ps, st_rN, st_rA, st_rB, les1_at, les2_at, mkN_at, kfN_0, lput_eq, lput_ne, lesN_out, mkN_out]
  refine P_istore (L' := [(7, vi _), (6, vi _), (5, vi _), (0, vr (3 + b)), (1, vi _), (2, vr (27 + 7 * b)), (3, vl _)]) (pc := 30) dX4_give_30 (by decide) rfl ?_
  refine P_iload (pc := 32) dX4_give_32 0 rfl ?_
  refine P_iconst (pc := 34) dX4_give_34 ?_
  refine P_icmp_lt (tgt := 44) (pc := 35) dX4_give_35 (by decide) (by first | assumption | (unfold InR; omega)) (by first | assumption | (unfold InR; omega)) (fun c_35 => ?_) (fun c_35 => ?_)
  · exact P_vret (pc := 44) dX4_give_44 rfl (QV.mk (by first | (exact ⟨_, s, hs, st_ext (giveN_z (takB_0 (by omega))).symm rfl rfl rfl⟩) | (exfalso; omega) | (exact ⟨_, s, hs, st_ext (giveN_z (by first | (rw [takB_f (by omega) (by omega)]; exact c_96) | (rw [takB_n (by omega) (by omega)]; exact c_96))).symm rfl rfl rfl⟩) | skip; refine ⟨_, _, ?_, st_ext ?_ rfl rfl rfl⟩; (split <;> omega); (first | rw [← takB_f (by omega) (by omega)] at c_96 ⊢ | rw [← takB_n (by omega) (by omega)] at c_96 ⊢); rw [giveN_y c_96]; unfold hndF; first | rw [if_pos (by omega)] | rw [if_neg (by omega)]))
  · refine P_iload (pc := 38) dX4_give_38 0 rfl ?_
    refine P_iconst (pc := 40) dX4_give_40 ?_
    refine P_icmp_le (tgt := 45) (pc := 41) dX4_give_41 (by decide) (by first | assumption | (unfold InR; omega)) (by first | assumption | (unfold InR; omega)) (fun c_41 => ?_) (fun c_41 => ?_)
    · refine P_aload_n (pc := 45) dX4_give_45 rfl 5 rfl ?_
      refine P_iload (pc := 46) dX4_give_46 0 rfl ?_
      refine P_iconst (pc := 48) dX4_give_48 ?_
      refine P_isub (pc := 49) dX4_give_49 ?_
      refine P_lald (pc := 50) dX4_give_50 (sS_27 hb) (by omega) (by omega) (by decide) ?_
      try simp (disch := omega) only [st_N, st_A, st_B, st_i, st_s, st_j, st_pN, st_pA, st_pB, st_ps, st_rN, st_rA, st_rB, les1_at, les2_at, mkN_at, kfN_0, lput_eq, lput_ne, lesN_out, mkN_out]
      refine P_lload_n (pc := 51) dX4_give_51 rfl 6 rfl ?_
      refine P_land (pc := 52) dX4_give_52 ?_
      refine P_aload_n (pc := 53) dX4_give_53 rfl 3 rfl ?_
      refine P_getR (pc := 54) dX4_give_54 fa_RX4_9 (sS_o hb) fS_2 ?_
      refine P_iload (pc := 57) dX4_give_57 2 rfl ?_
      refine P_bipush (pc := 59) dX4_give_59 (by decide) ?_
      refine P_iadd (pc := 61) dX4_give_61 ?_
      refine P_lald (pc := 62) dX4_give_62 (sS_22 hb) (by omega) (by omega) (by decide) ?_
      try simp (disch := omega) only [st_N, st_A, st_B, st_i, st_s, st_j, st_pN, st_pA, st_pB, st_ps, st_rN, st_rA, st_rB, les1_at, les2_at, mkN_at, kfN_0, lput_eq, lput_ne, lesN_out, mkN_out]
      refine P_ldc2 (b := BitVec.allOnes 64) (pc := 63) dX4_give_63 kl_RX4_63 (by decide +kernel) ?_
      refine P_lnot (pc := 66) dX4_give_66 ?_
      refine P_land (pc := 67) dX4_give_67 ?_
      refine P_lstore (L' := [(8, vl _), (7, vi _), (6, vi _), (5, vi _), (0, vr (3 + b)), (1, vi _), (2, vr (27 + 7 * b)), (3, vl _)]) (pc := 68) dX4_give_68 (by decide) rfl ?_
      refine P_iload (pc := 70) dX4_give_70 2 rfl ?_
      refine P_callNi (Y' := mX5_isFood) (as := [_]) (pc := 72) dX4_give_72 rfl (by decide : 0 < 1) nm_RX4_155 sm_X5_isFood mk_X5_isFood (Nat.le_of_ble_eq_true rfl) (c_X5_isFood (by unfold InR; omega)) (fun z_ μ_ hq => ?_)
      obtain ⟨hz, hμ_⟩ := hq
      subst hμ_
      have hz := ite01 hz
      try simp (disch := omega) only [st_N, st_A, st_B, st_i, st_s, st_j, st_pN, st_pA, st_pB, st_ps, st_rN, st_rA, st_rB, les1_at, les2_at, mkN_at, kfN_0, lput_eq, lput_ne, lesN_out, mkN_out]
      refine P_if_eq (tgt := 93) (pc := 75) dX4_give_75 (by decide) (by first | assumption | (unfold InR; omega)) (fun c_75 => ?_) (fun c_75 => ?_)
      · refine P_lload (pc := 93) dX4_give_93 0 rfl ?_
        refine P_lconst (b := 0#64) (pc := 95) dX4_give_95 rfl ?_
        refine P_lcmp_ne (tgt := 101) (pc := 96) dX4_give_96 dX4_give_97 (by decide) (fun c_96 => ?_) (fun c_96 => ?_)
        · refine P_iload (pc := 101) dX4_give_101 2 rfl ?_
          refine P_iconst (pc := 103) dX4_give_103 ?_
          refine P_icmp_ne (tgt := 111) (pc := 104) dX4_give_104 (by decide) (by first | assumption | (unfold InR; omega)) (by first | assumption | (unfold InR; omega)) (fun c_104 => ?_) (fun c_104 => ?_)
          · refine P_iconst (pc := 111) dX4_give_111 ?_
            refine P_istore (L' := [(10, vi _), (8, vl _), (7, vi _), (6, vi _), (5, vi _), (0, vr (3 + b)), (1, vi _), (2, vr (27 + 7 * b)), (3, vl _)]) (pc := 112) dX4_give_112 (by decide) rfl ?_
            refine P_aload_n (pc := 114) dX4_give_114 rfl 7 rfl ?_
            refine P_iconst (pc := 115) dX4_give_115 ?_
            refine P_ldc2 (b := BitVec.allOnes 64) (pc := 116) dX4_give_116 kl_RX4_63 (by decide +kernel) ?_
            refine P_last (pc := 119) dX4_give_119 (sS_27 hb) (by omega) (by omega) (by decide) ?_
            try simp (disch := omega) only [st_N, st_A, st_B, st_i, st_s, st_j, st_pN, st_pA, st_pB, st_ps, st_rN, st_rA, st_rB, les1_at, les2_at, mkN_at, kfN_0, lput_eq, lput_ne, lesN_out, mkN_out]
            refine P_aload_n (pc := 120) dX4_give_120 rfl 7 rfl ?_
            refine P_iconst (pc := 121) dX4_give_121 ?_
            refine P_iload (pc := 122) dX4_give_122 0 rfl ?_
            refine P_if_eq (tgt := 133) (pc := 124) dX4_give_124 (by decide) (by first | assumption | (unfold InR; omega)) (fun c_124 => ?_) (fun c_124 => ?_)
            · refine P_aload_n (pc := 133) dX4_give_133 rfl 7 rfl ?_
              refine P_iconst (pc := 134) dX4_give_134 ?_
              refine P_lald (pc := 135) dX4_give_135 (sS_27 hb) (by omega) (by omega) (by decide) ?_
              try simp (disch := omega) only [st_N, st_A, st_B, st_i, st_s, st_j, st_pN, st_pA, st_pB, st_ps, st_rN, st_rA, st_rB, les1_at, les2_at, mkN_at, kfN_0, lput_eq, lput_ne, lesN_out, mkN_out]
              refine P_last (pc := 136) dX4_give_136 (sS_27 hb) (by omega) (by omega) (by decide) ?_
              try simp (disch := omega) only [st_N, st_A, st_B, st_i, st_s, st_j, st_pN, st_pA, st_pB, st_ps, st_rN, st_rA, st_rB, les1_at, les2_at, mkN_at, kfN_0, lput_eq, lput_ne, lesN_out, mkN_out]
              refine P_aload_n (pc := 137) dX4_give_137 rfl 7 rfl ?_
              refine P_iconst (pc := 138) dX4_give_138 ?_
              refine P_iload (pc := 139) dX4_give_139 0 rfl ?_
              refine P_if_eq (tgt := 150) (pc := 141) dX4_give_141 (by decide) (by first | assumption | (unfold InR; omega)) (fun c_141 => ?_) (fun c_141 => ?_)
              · refine P_aload_n (pc := 150) dX4_give_150 rfl 7 rfl ?_
                refine P_iconst (pc := 151) dX4_give_151 ?_
                refine P_lald (pc := 152) dX4_give_152 (sS_27 hb) (by omega) (by omega) (by decide) ?_
                try simp (disch := omega) only [st_N, st_A, st_B, st_i, st_s, st_j, st_pN, st_pA, st_pB, st_ps, st_rN, st_rA, st_rB, les1_at, les2_at, mkN_at, kfN_0, lput_eq, lput_ne, lesN_out, mkN_out]
                refine P_last (pc := 153) dX4_give_153 (sS_27 hb) (by omega) (by omega) (by decide) ?_
                try simp (disch := omega) only [st_N, st_A, st_B, st_i, st_s, st_j, st_pN, st_pA, st_pB, st_ps, st_rN, st_rA, st_rB, les1_at, les2_at, mkN_at, kfN_0, lput_eq, lput_ne, lesN_out, mkN_out]
                refine P_aload_n (pc := 154) dX4_give_154 rfl 7 rfl ?_
                refine P_iconst (pc := 155) dX4_give_155 ?_
                refine P_iload (pc := 156) dX4_give_156 0 rfl ?_
                refine P_if_eq (tgt := 167) (pc := 158) dX4_give_158 (by decide) (by first | assumption | (unfold InR; omega)) (fun c_158 => ?_) (fun c_158 => ?_)
                · refine P_lconst (b := 0#64) (pc := 167) dX4_give_167 rfl ?_
                  refine P_last (pc := 168) dX4_give_168 (sS_27 hb) (by omega) (by omega) (by decide) ?_
                  try simp (disch := omega) only [st_N, st_A, st_B, st_i, st_s, st_j, st_pN, st_pA, st_pB, st_ps, st_rN, st_rA, st_rB, les1_at, les2_at, mkN_at, kfN_0, lput_eq, lput_ne, lesN_out, mkN_out]
                  refine P_aload_n (pc := 169) dX4_give_169 rfl 5 rfl ?_
                  refine P_iload (pc := 170) dX4_give_170 4 rfl ?_
                  refine P_aload_n (pc := 172) dX4_give_172 rfl 7 rfl ?_
                  refine P_iconst (pc := 173) dX4_give_173 ?_
                  refine P_lload (pc := 174) dX4_give_174 1 rfl ?_
                  refine P_callVl (Y' := mX4_lessen) (as := [_, _, _, _]) (pc := 176) dX4_give_176 rfl (by decide : 0 < 1) (sS_o hb) rfl ml_RX4_148 im_X4_lessen se_X4_lessen mk_X4_lessen (Nat.le_of_ble_eq_true rfl) (c_X4_lessenA hb (by omega) rfl) (fun z_ μ_ hq => ?_)
                  obtain ⟨hz, hμ_⟩ := hq
                  subst hμ_
                  try simp (disch := omega) only [st_N, st_A, st_B, st_i, st_s, st_j, st_pN, st_pA, st_pB, st_ps, st_rN, st_rA, st_rB, les1_at, les2_at, mkN_at, kfN_0, lput_eq, lput_ne, lesN_out, mkN_out]
                  refine P_pop2_2 (pc := 179) dX4_give_179 rfl ?_
                  refine P_aload_n (pc := 180) dX4_give_180 rfl 5 rfl ?_
                  refine P_getR (pc := 181) dX4_give_181 fa_RX4_9 (sS_o hb) fS_2 ?_
                  refine P_iload (pc := 184) dX4_give_184 4 rfl ?_
                  refine P_bipush (pc := 186) dX4_give_186 (by decide) ?_
                  refine P_iadd (pc := 188) dX4_give_188 ?_
                  refine P_dup2_11 (pc := 189) dX4_give_189 rfl rfl ?_
                  refine P_lald (pc := 190) dX4_give_190 (sS_22 hb) (by omega) (by omega) (by decide) ?_
                  try simp (disch := omega) only [st_N, st_A, st_B, st_i, st_s, st_j, st_pN, st_pA, st_pB, st_ps, st_rN, st_rA, st_rB, les1_at, les2_at, mkN_at, kfN_0, lput_eq, lput_ne, lesN_out, mkN_out]
                  refine P_lload (pc := 191) dX4_give_191 1 rfl ?_
                  refine P_ldc2 (b := BitVec.allOnes 64) (pc := 193) dX4_give_193 kl_RX4_63 (by decide +kernel) ?_
                  refine P_lnot (pc := 196) dX4_give_196 ?_
                  refine P_land (pc := 197) dX4_give_197 ?_
                  refine P_last (pc := 198) dX4_give_198 (sS_22 hb) (by omega) (by omega) (by decide) ?_
                  try simp (disch := omega) only [st_N, st_A, st_B, st_i, st_s, st_j, st_pN, st_pA, st_pB, st_ps, st_rN, st_rA, st_rB, les1_at, les2_at, mkN_at, kfN_0, lput_eq, lput_ne, lesN_out, mkN_out]
                  exact P_vret (pc := 199) dX4_give_199 rfl (QV.mk (by first | (exact ⟨_, s, hs, st_ext (giveN_z (takB_0 (by omega))).symm rfl rfl rfl⟩) | (exfalso; omega) | (exact ⟨_, s, hs, st_ext (giveN_z (by first | (rw [takB_f (by omega) (by omega)]; exact c_96) | (rw [takB_n (by omega) (by omega)]; exact c_96))).symm rfl rfl rfl⟩) | skip; refine ⟨_, _, ?_, st_ext ?_ rfl rfl rfl⟩; (split <;> omega); (first | rw [← takB_f (by omega) (by omega)] at c_96 ⊢ | rw [← takB_n (by omega) (by omega)] at c_96 ⊢); rw [giveN_y c_96]; unfold hndF; first | rw [if_pos (by omega)] | rw [if_neg (by omega)]))
                · exfalso; omega
              · exfalso; omega
            · exfalso; omega
          · refine P_iconst (pc := 107) dX4_give_107 ?_
            refine P_goto (tgt := 112) (pc := 108) dX4_give_108 (by decide) ?_
            refine P_istore (L' := [(10, vi _), (8, vl _), (7, vi _), (6, vi _), (5, vi _), (0, vr (3 + b)), (1, vi _), (2, vr (27 + 7 * b)), (3, vl _)]) (pc := 112) dX4_give_112 (by decide) rfl ?_
            refine P_aload_n (pc := 114) dX4_give_114 rfl 7 rfl ?_
            refine P_iconst (pc := 115) dX4_give_115 ?_
            refine P_ldc2 (b := BitVec.allOnes 64) (pc := 116) dX4_give_116 kl_RX4_63 (by decide +kernel) ?_
            refine P_last (pc := 119) dX4_give_119 (sS_27 hb) (by omega) (by omega) (by decide) ?_
            try simp (disch := omega) only [st_N, st_A, st_B, st_i, st_s, st_j, st_pN, st_pA, st_pB, st_ps, st_rN, st_rA, st_rB, les1_at, les2_at, mkN_at, kfN_0, lput_eq, lput_ne, lesN_out, mkN_out]
            refine P_aload_n (pc := 120) dX4_give_120 rfl 7 rfl ?_
            refine P_iconst (pc := 121) dX4_give_121 ?_
            refine P_iload (pc := 122) dX4_give_122 0 rfl ?_
            refine P_if_eq (tgt := 133) (pc := 124) dX4_give_124 (by decide) (by first | assumption | (unfold InR; omega)) (fun c_124 => ?_) (fun c_124 => ?_)
            · exfalso; omega
            · refine P_ldc2 (b := BitVec.allOnes 64) (pc := 127) dX4_give_127 kl_RX4_63 (by decide +kernel) ?_
              refine P_goto (tgt := 136) (pc := 130) dX4_give_130 (by decide) ?_
              refine P_last (pc := 136) dX4_give_136 (sS_27 hb) (by omega) (by omega) (by decide) ?_
              try simp (disch := omega) only [st_N, st_A, st_B, st_i, st_s, st_j, st_pN, st_pA, st_pB, st_ps, st_rN, st_rA, st_rB, les1_at, les2_at, mkN_at, kfN_0, lput_eq, lput_ne, lesN_out, mkN_out]
              refine P_aload_n (pc := 137) dX4_give_137 rfl 7 rfl ?_
              refine P_iconst (pc := 138) dX4_give_138 ?_
              refine P_iload (pc := 139) dX4_give_139 0 rfl ?_
              refine P_if_eq (tgt := 150) (pc := 141) dX4_give_141 (by decide) (by first | assumption | (unfold InR; omega)) (fun c_141 => ?_) (fun c_141 => ?_)
              · exfalso; omega
              · refine P_ldc2 (b := BitVec.allOnes 64) (pc := 144) dX4_give_144 kl_RX4_63 (by decide +kernel) ?_
                refine P_goto (tgt := 153) (pc := 147) dX4_give_147 (by decide) ?_
                refine P_last (pc := 153) dX4_give_153 (sS_27 hb) (by omega) (by omega) (by decide) ?_
                try simp (disch := omega) only [st_N, st_A, st_B, st_i, st_s, st_j, st_pN, st_pA, st_pB, st_ps, st_rN, st_rA, st_rB, les1_at, les2_at, mkN_at, kfN_0, lput_eq, lput_ne, lesN_out, mkN_out]
                refine P_aload_n (pc := 154) dX4_give_154 rfl 7 rfl ?_
                refine P_iconst (pc := 155) dX4_give_155 ?_
                refine P_iload (pc := 156) dX4_give_156 0 rfl ?_
                refine P_if_eq (tgt := 167) (pc := 158) dX4_give_158 (by decide) (by first | assumption | (unfold InR; omega)) (fun c_158 => ?_) (fun c_158 => ?_)
                · exfalso; omega
                · refine P_ldc2 (b := BitVec.allOnes 64) (pc := 161) dX4_give_161 kl_RX4_63 (by decide +kernel) ?_
                  refine P_goto (tgt := 168) (pc := 164) dX4_give_164 (by decide) ?_
                  refine P_last (pc := 168) dX4_give_168 (sS_27 hb) (by omega) (by omega) (by decide) ?_
                  try simp (disch := omega) only [st_N, st_A, st_B, st_i, st_s, st_j, st_pN, st_pA, st_pB, st_ps, st_rN, st_rA, st_rB, les1_at, les2_at, mkN_at, kfN_0, lput_eq, lput_ne, lesN_out, mkN_out]
                  refine P_aload_n (pc := 169) dX4_give_169 rfl 5 rfl ?_
                  refine P_iload (pc := 170) dX4_give_170 4 rfl ?_
                  refine P_aload_n (pc := 172) dX4_give_172 rfl 7 rfl ?_
                  refine P_iconst (pc := 173) dX4_give_173 ?_
                  refine P_lload (pc := 174) dX4_give_174 1 rfl ?_
                  refine P_callVl (Y' := mX4_lessen) (as := [_, _, _, _]) (pc := 176) dX4_give_176 rfl (by decide : 0 < 1) (sS_o hb) rfl ml_RX4_148 im_X4_lessen se_X4_lessen mk_X4_lessen (Nat.le_of_ble_eq_true rfl) (c_X4_lessenA hb (by omega) rfl) (fun z_ μ_ hq => ?_)
                  obtain ⟨hz, hμ_⟩ := hq
                  subst hμ_
                  try simp (disch := omega) only [st_N, st_A, st_B, st_i, st_s, st_j, st_pN, st_pA, st_pB, st_ps, st_rN, st_rA, st_rB, les1_at, les2_at, mkN_at, kfN_0, lput_eq, lput_ne, lesN_out, mkN_out]
                  refine P_pop2_2 (pc := 179) dX4_give_179 rfl ?_
                  refine P_aload_n (pc := 180) dX4_give_180 rfl 5 rfl ?_
                  refine P_getR (pc := 181) dX4_give_181 fa_RX4_9 (sS_o hb) fS_2 ?_
                  refine P_iload (pc := 184) dX4_give_184 4 rfl ?_
                  refine P_bipush (pc := 186) dX4_give_186 (by decide) ?_
                  refine P_iadd (pc := 188) dX4_give_188 ?_
                  refine P_dup2_11 (pc := 189) dX4_give_189 rfl rfl ?_
                  refine P_lald (pc := 190) dX4_give_190 (sS_22 hb) (by omega) (by omega) (by decide) ?_
                  try simp (disch := omega) only [st_N, st_A, st_B, st_i, st_s, st_j, st_pN, st_pA, st_pB, st_ps, st_rN, st_rA, st_rB, les1_at, les2_at, mkN_at, kfN_0, lput_eq, lput_ne, lesN_out, mkN_out]
                  refine P_lload (pc := 191) dX4_give_191 1 rfl ?_
                  refine P_ldc2 (b := BitVec.allOnes 64) (pc := 193) dX4_give_193 kl_RX4_63 (by decide +kernel) ?_
                  refine P_lnot (pc := 196) dX4_give_196 ?_
                  refine P_land (pc := 197) dX4_give_197 ?_
                  refine P_last (pc := 198) dX4_give_198 (sS_22 hb) (by omega) (by omega) (by decide) ?_
                  try simp (disch := omega) only [st_N, st_A, st_B, st_i, st_s, st_j, st_pN, st_pA, st_pB, st_ps, st_rN, st_rA, st_rB, les1_at, les2_at, mkN_at, kfN_0, lput_eq, lput_ne, lesN_out, mkN_out]
                  exact P_vret (pc := 199) dX4_give_199 rfl (QV.mk (by first | (exact ⟨_, s, hs, st_ext (giveN_z (takB_0 (by omega))).symm rfl rfl rfl⟩) | (exfalso; omega) | (exact ⟨_, s, hs, st_ext (giveN_z (by first | (rw [takB_f (by omega) (by omega)]; exact c_96) | (rw [takB_n (by omega) (by omega)]; exact c_96))).symm rfl rfl rfl⟩) | skip; refine ⟨_, _, ?_, st_ext ?_ rfl rfl rfl⟩; (split <;> omega); (first | rw [← takB_f (by omega) (by omega)] at c_96 ⊢ | rw [← takB_n (by omega) (by omega)] at c_96 ⊢); rw [giveN_y c_96]; unfold hndF; first | rw [if_pos (by omega)] | rw [if_neg (by omega)]))
        · exact P_vret (pc := 100) dX4_give_100 rfl (QV.mk (by first | (exact ⟨_, s, hs, st_ext (giveN_z (takB_0 (by omega))).symm rfl rfl rfl⟩) | (exfalso; omega) | (exact ⟨_, s, hs, st_ext (giveN_z (by first | (rw [takB_f (by omega) (by omega)]; exact c_96) | (rw [takB_n (by omega) (by omega)]; exact c_96))).symm rfl rfl rfl⟩) | skip; refine ⟨_, _, ?_, st_ext ?_ rfl rfl rfl⟩; (split <;> omega); (first | rw [← takB_f (by omega) (by omega)] at c_96 ⊢ | rw [← takB_n (by omega) (by omega)] at c_96 ⊢); rw [giveN_y c_96]; unfold hndF; first | rw [if_pos (by omega)] | rw [if_neg (by omega)]))
      · refine P_lload (pc := 78) dX4_give_78 0 rfl ?_
        refine P_aload_n (pc := 80) dX4_give_80 rfl 4 rfl ?_
        refine P_getR (pc := 81) dX4_give_81 fa_RX4_9 (sS_o hb) fS_2 ?_
        refine P_iload (pc := 84) dX4_give_84 3 rfl ?_
        refine P_bipush (pc := 86) dX4_give_86 (by decide) ?_
        refine P_iadd (pc := 88) dX4_give_88 ?_
        refine P_lald (pc := 89) dX4_give_89 (sS_22 hb) (by omega) (by omega) (by decide) ?_
        try simp (disch := omega) only [st_N, st_A, st_B, st_i, st_s, st_j, st_pN, st_pA, st_pB, st_ps, st_rN, st_rA, st_rB, les1_at, les2_at, mkN_at, kfN_0, lput_eq, lput_ne, lesN_out, mkN_out]
        refine P_land (pc := 90) dX4_give_90 ?_
        refine P_lstore (L' := [(8, vl _), (7, vi _), (6, vi _), (5, vi _), (0, vr (3 + b)), (1, vi _), (2, vr (27 + 7 * b)), (3, vl _)]) (pc := 91) dX4_give_91 (by decide) rfl ?_
        refine P_lload (pc := 93) dX4_give_93 0 rfl ?_
        refine P_lconst (b := 0#64) (pc := 95) dX4_give_95 rfl ?_
        refine P_lcmp_ne (tgt := 101) (pc := 96) dX4_give_96 dX4_give_97 (by decide) (fun c_96 => ?_) (fun c_96 => ?_)
        · refine P_iload (pc := 101) dX4_give_101 2 rfl ?_
          refine P_iconst (pc := 103) dX4_give_103 ?_
          refine P_icmp_ne (tgt := 111) (pc := 104) dX4_give_104 (by decide) (by first | assumption | (unfold InR; omega)) (by first | assumption | (unfold InR; omega)) (fun c_104 => ?_) (fun c_104 => ?_)
          · refine P_iconst (pc := 111) dX4_give_111 ?_
            refine P_istore (L' := [(10, vi _), (8, vl _), (7, vi _), (6, vi _), (5, vi _), (0, vr (3 + b)), (1, vi _), (2, vr (27 + 7 * b)), (3, vl _)]) (pc := 112) dX4_give_112 (by decide) rfl ?_
            refine P_aload_n (pc := 114) dX4_give_114 rfl 7 rfl ?_
            refine P_iconst (pc := 115) dX4_give_115 ?_
            refine P_ldc2 (b := BitVec.allOnes 64) (pc := 116) dX4_give_116 kl_RX4_63 (by decide +kernel) ?_
            refine P_last (pc := 119) dX4_give_119 (sS_27 hb) (by omega) (by omega) (by decide) ?_
            try simp (disch := omega) only [st_N, st_A, st_B, st_i, st_s, st_j, st_pN, st_pA, st_pB, st_ps, st_rN, st_rA, st_rB, les1_at, les2_at, mkN_at, kfN_0, lput_eq, lput_ne, lesN_out, mkN_out]
            refine P_aload_n (pc := 120) dX4_give_120 rfl 7 rfl ?_
            refine P_iconst (pc := 121) dX4_give_121 ?_
            refine P_iload (pc := 122) dX4_give_122 0 rfl ?_
            refine P_if_eq (tgt := 133) (pc := 124) dX4_give_124 (by decide) (by first | assumption | (unfold InR; omega)) (fun c_124 => ?_) (fun c_124 => ?_)
            · refine P_aload_n (pc := 133) dX4_give_133 rfl 7 rfl ?_
              refine P_iconst (pc := 134) dX4_give_134 ?_
              refine P_lald (pc := 135) dX4_give_135 (sS_27 hb) (by omega) (by omega) (by decide) ?_
              try simp (disch := omega) only [st_N, st_A, st_B, st_i, st_s, st_j, st_pN, st_pA, st_pB, st_ps, st_rN, st_rA, st_rB, les1_at, les2_at, mkN_at, kfN_0, lput_eq, lput_ne, lesN_out, mkN_out]
              refine P_last (pc := 136) dX4_give_136 (sS_27 hb) (by omega) (by omega) (by decide) ?_
              try simp (disch := omega) only [st_N, st_A, st_B, st_i, st_s, st_j, st_pN, st_pA, st_pB, st_ps, st_rN, st_rA, st_rB, les1_at, les2_at, mkN_at, kfN_0, lput_eq, lput_ne, lesN_out, mkN_out]
              refine P_aload_n (pc := 137) dX4_give_137 rfl 7 rfl ?_
              refine P_iconst (pc := 138) dX4_give_138 ?_
              refine P_iload (pc := 139) dX4_give_139 0 rfl ?_
              refine P_if_eq (tgt := 150) (pc := 141) dX4_give_141 (by decide) (by first | assumption | (unfold InR; omega)) (fun c_141 => ?_) (fun c_141 => ?_)
              · refine P_aload_n (pc := 150) dX4_give_150 rfl 7 rfl ?_
                refine P_iconst (pc := 151) dX4_give_151 ?_
                refine P_lald (pc := 152) dX4_give_152 (sS_27 hb) (by omega) (by omega) (by decide) ?_
                try simp (disch := omega) only [st_N, st_A, st_B, st_i, st_s, st_j, st_pN, st_pA, st_pB, st_ps, st_rN, st_rA, st_rB, les1_at, les2_at, mkN_at, kfN_0, lput_eq, lput_ne, lesN_out, mkN_out]
                refine P_last (pc := 153) dX4_give_153 (sS_27 hb) (by omega) (by omega) (by decide) ?_
                try simp (disch := omega) only [st_N, st_A, st_B, st_i, st_s, st_j, st_pN, st_pA, st_pB, st_ps, st_rN, st_rA, st_rB, les1_at, les2_at, mkN_at, kfN_0, lput_eq, lput_ne, lesN_out, mkN_out]
                refine P_aload_n (pc := 154) dX4_give_154 rfl 7 rfl ?_
                refine P_iconst (pc := 155) dX4_give_155 ?_
                refine P_iload (pc := 156) dX4_give_156 0 rfl ?_
                refine P_if_eq (tgt := 167) (pc := 158) dX4_give_158 (by decide) (by first | assumption | (unfold InR; omega)) (fun c_158 => ?_) (fun c_158 => ?_)
                · refine P_lconst (b := 0#64) (pc := 167) dX4_give_167 rfl ?_
                  refine P_last (pc := 168) dX4_give_168 (sS_27 hb) (by omega) (by omega) (by decide) ?_
                  try simp (disch := omega) only [st_N, st_A, st_B, st_i, st_s, st_j, st_pN, st_pA, st_pB, st_ps, st_rN, st_rA, st_rB, les1_at, les2_at, mkN_at, kfN_0, lput_eq, lput_ne, lesN_out, mkN_out]
                  refine P_aload_n (pc := 169) dX4_give_169 rfl 5 rfl ?_
                  refine P_iload (pc := 170) dX4_give_170 4 rfl ?_
                  refine P_aload_n (pc := 172) dX4_give_172 rfl 7 rfl ?_
                  refine P_iconst (pc := 173) dX4_give_173 ?_
                  refine P_lload (pc := 174) dX4_give_174 1 rfl ?_
                  refine P_callVl (Y' := mX4_lessen) (as := [_, _, _, _]) (pc := 176) dX4_give_176 rfl (by decide : 0 < 1) (sS_o hb) rfl ml_RX4_148 im_X4_lessen se_X4_lessen mk_X4_lessen (Nat.le_of_ble_eq_true rfl) (c_X4_lessenA hb (by omega) rfl) (fun z_ μ_ hq => ?_)
                  obtain ⟨hz, hμ_⟩ := hq
                  subst hμ_
                  try simp (disch := omega) only [st_N, st_A, st_B, st_i, st_s, st_j, st_pN, st_pA, st_pB, st_ps, st_rN, st_rA, st_rB, les1_at, les2_at, mkN_at, kfN_0, lput_eq, lput_ne, lesN_out, mkN_out]
                  refine P_pop2_2 (pc := 179) dX4_give_179 rfl ?_
                  refine P_aload_n (pc := 180) dX4_give_180 rfl 5 rfl ?_
                  refine P_getR (pc := 181) dX4_give_181 fa_RX4_9 (sS_o hb) fS_2 ?_
                  refine P_iload (pc := 184) dX4_give_184 4 rfl ?_
                  refine P_bipush (pc := 186) dX4_give_186 (by decide) ?_
                  refine P_iadd (pc := 188) dX4_give_188 ?_
                  refine P_dup2_11 (pc := 189) dX4_give_189 rfl rfl ?_
                  refine P_lald (pc := 190) dX4_give_190 (sS_22 hb) (by omega) (by omega) (by decide) ?_
                  try simp (disch := omega) only [st_N, st_A, st_B, st_i, st_s, st_j, st_pN, st_pA, st_pB, st_ps, st_rN, st_rA, st_rB, les1_at, les2_at, mkN_at, kfN_0, lput_eq, lput_ne, lesN_out, mkN_out]
                  refine P_lload (pc := 191) dX4_give_191 1 rfl ?_
                  refine P_ldc2 (b := BitVec.allOnes 64) (pc := 193) dX4_give_193 kl_RX4_63 (by decide +kernel) ?_
                  refine P_lnot (pc := 196) dX4_give_196 ?_
                  refine P_land (pc := 197) dX4_give_197 ?_
                  refine P_last (pc := 198) dX4_give_198 (sS_22 hb) (by omega) (by omega) (by decide) ?_
                  try simp (disch := omega) only [st_N, st_A, st_B, st_i, st_s, st_j, st_pN, st_pA, st_pB, st_ps, st_rN, st_rA, st_rB, les1_at, les2_at, mkN_at, kfN_0, lput_eq, lput_ne, lesN_out, mkN_out]
                  exact P_vret (pc := 199) dX4_give_199 rfl (QV.mk (by first | (exact ⟨_, s, hs, st_ext (giveN_z (takB_0 (by omega))).symm rfl rfl rfl⟩) | (exfalso; omega) | (exact ⟨_, s, hs, st_ext (giveN_z (by first | (rw [takB_f (by omega) (by omega)]; exact c_96) | (rw [takB_n (by omega) (by omega)]; exact c_96))).symm rfl rfl rfl⟩) | skip; refine ⟨_, _, ?_, st_ext ?_ rfl rfl rfl⟩; (split <;> omega); (first | rw [← takB_f (by omega) (by omega)] at c_96 ⊢ | rw [← takB_n (by omega) (by omega)] at c_96 ⊢); rw [giveN_y c_96]; unfold hndF; first | rw [if_pos (by omega)] | rw [if_neg (by omega)]))
                · exfalso; omega
              · exfalso; omega
            · exfalso; omega
          · refine P_iconst (pc := 107) dX4_give_107 ?_
            refine P_goto (tgt := 112) (pc := 108) dX4_give_108 (by decide) ?_
            refine P_istore (L' := [(10, vi _), (8, vl _), (7, vi _), (6, vi _), (5, vi _), (0, vr (3 + b)), (1, vi _), (2, vr (27 + 7 * b)), (3, vl _)]) (pc := 112) dX4_give_112 (by decide) rfl ?_
            refine P_aload_n (pc := 114) dX4_give_114 rfl 7 rfl ?_
            refine P_iconst (pc := 115) dX4_give_115 ?_
            refine P_ldc2 (b := BitVec.allOnes 64) (pc := 116) dX4_give_116 kl_RX4_63 (by decide +kernel) ?_
            refine P_last (pc := 119) dX4_give_119 (sS_27 hb) (by omega) (by omega) (by decide) ?_
            try simp (disch := omega) only [st_N, st_A, st_B, st_i, st_s, st_j, st_pN, st_pA, st_pB, st_ps, st_rN, st_rA, st_rB, les1_at, les2_at, mkN_at, kfN_0, lput_eq, lput_ne, lesN_out, mkN_out]
            refine P_aload_n (pc := 120) dX4_give_120 rfl 7 rfl ?_
            refine P_iconst (pc := 121) dX4_give_121 ?_
            refine P_iload (pc := 122) dX4_give_122 0 rfl ?_
            refine P_if_eq (tgt := 133) (pc := 124) dX4_give_124 (by decide) (by first | assumption | (unfold InR; omega)) (fun c_124 => ?_) (fun c_124 => ?_)
            · exfalso; omega
            · refine P_ldc2 (b := BitVec.allOnes 64) (pc := 127) dX4_give_127 kl_RX4_63 (by decide +kernel) ?_
              refine P_goto (tgt := 136) (pc := 130) dX4_give_130 (by decide) ?_
              refine P_last (pc := 136) dX4_give_136 (sS_27 hb) (by omega) (by omega) (by decide) ?_
              try simp (disch := omega) only [st_N, st_A, st_B, st_i, st_s, st_j, st_pN, st_pA, st_pB, st_ps, st_rN, st_rA, st_rB, les1_at, les2_at, mkN_at, kfN_0, lput_eq, lput_ne, lesN_out, mkN_out]
              refine P_aload_n (pc := 137) dX4_give_137 rfl 7 rfl ?_
              refine P_iconst (pc := 138) dX4_give_138 ?_
              refine P_iload (pc := 139) dX4_give_139 0 rfl ?_
              refine P_if_eq (tgt := 150) (pc := 141) dX4_give_141 (by decide) (by first | assumption | (unfold InR; omega)) (fun c_141 => ?_) (fun c_141 => ?_)
              · exfalso; omega
              · refine P_ldc2 (b := BitVec.allOnes 64) (pc := 144) dX4_give_144 kl_RX4_63 (by decide +kernel) ?_
                refine P_goto (tgt := 153) (pc := 147) dX4_give_147 (by decide) ?_
                refine P_last (pc := 153) dX4_give_153 (sS_27 hb) (by omega) (by omega) (by decide) ?_
                try simp (disch := omega) only [st_N, st_A, st_B, st_i, st_s, st_j, st_pN, st_pA, st_pB, st_ps, st_rN, st_rA, st_rB, les1_at, les2_at, mkN_at, kfN_0, lput_eq, lput_ne, lesN_out, mkN_out]
                refine P_aload_n (pc := 154) dX4_give_154 rfl 7 rfl ?_
                refine P_iconst (pc := 155) dX4_give_155 ?_
                refine P_iload (pc := 156) dX4_give_156 0 rfl ?_
                refine P_if_eq (tgt := 167) (pc := 158) dX4_give_158 (by decide) (by first | assumption | (unfold InR; omega)) (fun c_158 => ?_) (fun c_158 => ?_)
                · exfalso; omega
                · refine P_ldc2 (b := BitVec.allOnes 64) (pc := 161) dX4_give_161 kl_RX4_63 (by decide +kernel) ?_
                  refine P_goto (tgt := 168) (pc := 164) dX4_give_164 (by decide) ?_
                  refine P_last (pc := 168) dX4_give_168 (sS_27 hb) (by omega) (by omega) (by decide) ?_
                  try simp (disch := omega) only [st_N, st_A, st_B, st_i, st_s, st_j, st_pN, st_pA, st_pB, st_ps, st_rN, st_rA, st_rB, les1_at, les2_at, mkN_at, kfN_0, lput_eq, lput_ne, lesN_out, mkN_out]
                  refine P_aload_n (pc := 169) dX4_give_169 rfl 5 rfl ?_
                  refine P_iload (pc := 170) dX4_give_170 4 rfl ?_
                  refine P_aload_n (pc := 172) dX4_give_172 rfl 7 rfl ?_
                  refine P_iconst (pc := 173) dX4_give_173 ?_
                  refine P_lload (pc := 174) dX4_give_174 1 rfl ?_
                  refine P_callVl (Y' := mX4_lessen) (as := [_, _, _, _]) (pc := 176) dX4_give_176 rfl (by decide : 0 < 1) (sS_o hb) rfl ml_RX4_148 im_X4_lessen se_X4_lessen mk_X4_lessen (Nat.le_of_ble_eq_true rfl) (c_X4_lessenA hb (by omega) rfl) (fun z_ μ_ hq => ?_)
                  obtain ⟨hz, hμ_⟩ := hq
                  subst hμ_
                  try simp (disch := omega) only [st_N, st_A, st_B, st_i, st_s, st_j, st_pN, st_pA, st_pB, st_ps, st_rN, st_rA, st_rB, les1_at, les2_at, mkN_at, kfN_0, lput_eq, lput_ne, lesN_out, mkN_out]
                  refine P_pop2_2 (pc := 179) dX4_give_179 rfl ?_
                  refine P_aload_n (pc := 180) dX4_give_180 rfl 5 rfl ?_
                  refine P_getR (pc := 181) dX4_give_181 fa_RX4_9 (sS_o hb) fS_2 ?_
                  refine P_iload (pc := 184) dX4_give_184 4 rfl ?_
                  refine P_bipush (pc := 186) dX4_give_186 (by decide) ?_
                  refine P_iadd (pc := 188) dX4_give_188 ?_
                  refine P_dup2_11 (pc := 189) dX4_give_189 rfl rfl ?_
                  refine P_lald (pc := 190) dX4_give_190 (sS_22 hb) (by omega) (by omega) (by decide) ?_
                  try simp (disch := omega) only [st_N, st_A, st_B, st_i, st_s, st_j, st_pN, st_pA, st_pB, st_ps, st_rN, st_rA, st_rB, les1_at, les2_at, mkN_at, kfN_0, lput_eq, lput_ne, lesN_out, mkN_out]
                  refine P_lload (pc := 191) dX4_give_191 1 rfl ?_
                  refine P_ldc2 (b := BitVec.allOnes 64) (pc := 193) dX4_give_193 kl_RX4_63 (by decide +kernel) ?_
                  refine P_lnot (pc := 196) dX4_give_196 ?_
                  refine P_land (pc := 197) dX4_give_197 ?_
                  refine P_last (pc := 198) dX4_give_198 (sS_22 hb) (by omega) (by omega) (by decide) ?_
                  try simp (disch := omega) only [st_N, st_A, st_B, st_i, st_s, st_j, st_pN, st_pA, st_pB, st_ps, st_rN, st_rA, st_rB, les1_at, les2_at, mkN_at, kfN_0, lput_eq, lput_ne, lesN_out, mkN_out]
                  exact P_vret (pc := 199) dX4_give_199 rfl (QV.mk (by first | (exact ⟨_, s, hs, st_ext (giveN_z (takB_0 (by omega))).symm rfl rfl rfl⟩) | (exfalso; omega) | (exact ⟨_, s, hs, st_ext (giveN_z (by first | (rw [takB_f (by omega) (by omega)]; exact c_96) | (rw [takB_n (by omega) (by omega)]; exact c_96))).symm rfl rfl rfl⟩) | skip; refine ⟨_, _, ?_, st_ext ?_ rfl rfl rfl⟩; (split <;> omega); (first | rw [← takB_f (by omega) (by omega)] at c_96 ⊢ | rw [← takB_n (by omega) (by omega)] at c_96 ⊢); rw [giveN_y c_96]; unfold hndF; first | rw [if_pos (by omega)] | rw [if_neg (by omega)]))
        · exact P_vret (pc := 100) dX4_give_100 rfl (QV.mk (by first | (exact ⟨_, s, hs, st_ext (giveN_z (takB_0 (by omega))).symm rfl rfl rfl⟩) | (exfalso; omega) | (exact ⟨_, s, hs, st_ext (giveN_z (by first | (rw [takB_f (by omega) (by omega)]; exact c_96) | (rw [takB_n (by omega) (by omega)]; exact c_96))).symm rfl rfl rfl⟩) | skip; refine ⟨_, _, ?_, st_ext ?_ rfl rfl rfl⟩; (split <;> omega); (first | rw [← takB_f (by omega) (by omega)] at c_96 ⊢ | rw [← takB_n (by omega) (by omega)] at c_96 ⊢); rw [giveN_y c_96]; unfold hndF; first | rw [if_pos (by omega)] | rw [if_neg (by omega)]))
    · exact P_vret (pc := 44) dX4_give_44 rfl (QV.mk (by first | (exact ⟨_, s, hs, st_ext (giveN_z (takB_0 (by omega))).symm rfl rfl rfl⟩) | (exfalso; omega) | (exact ⟨_, s, hs, st_ext (giveN_z (by first | (rw [takB_f (by omega) (by omega)]; exact c_96) | (rw [takB_n (by omega) (by omega)]; exact c_96))).symm rfl rfl rfl⟩) | skip; refine ⟨_, _, ?_, st_ext ?_ rfl rfl rfl⟩; (split <;> omega); (first | rw [← takB_f (by omega) (by omega)] at c_96 ⊢ | rw [← takB_n (by omega) (by omega)] at c_96 ⊢); rw [giveN_y c_96]; unfold hndF; first | rw [if_pos (by omega)] | rw [if_neg (by omega)]))
set_option maxHeartbeats 1000000 in
set_option maxRecDepth 100000 in
theorem c_X4_giveB {μ : Mem} {b : Nat} {N A B : Pl} {s : Int} {K : Cel} {t : Int} {w : BitVec 64} (hb : b < 2) (hR : KR K μ) (hK : KOK K) (ht : 0 ≤ t ∧ t < 12) (hlp : μ.1 (3 + b) 1 = 6 * (b : Int)) (hs : s = 0 ∨ s = 1) : PC shC 1 mX4_give [vr (3 + b), vi t, vr (28 + 7 * b), vl w] (stM μ b N A B s) (QV (fun μ' => ∃ (B' : Pl) (s' : Int), (s' = 0 ∨ s' = 1) ∧ μ' = stM μ b (giveN K (6 * (b : Int)) N B t w) A B' s')) := by
  refine PC.of (by decide +kernel) (Nat.le_of_ble_eq_true rfl) ?_
  refine P_sub (L' := [(0, vr (3 + b)), (1, vi t), (2, vr (28 + 7 * b)), (3, vl w)]) [0, 1, 2, 3] rfl ?_
  have hK2 := hK.2.2.1 t
  have hK5 := hK.2.2.2.2.1 (6 * (b : Int) + K 2 t)
  refine P_iload_n (pc := 0) dX4_give_0 rfl 1 rfl ?_
  refine P_bipush (pc := 1) dX4_give_1 (by decide) ?_
  refine P_imul (pc := 3) dX4_give_3 ?_
  refine P_istore (L' := [(5, vi _), (0, vr (3 + b)), (1, vi _), (2, vr (28 + 7 * b)), (3, vl _)]) (pc := 4) dX4_give_4 (by decide) rfl ?_
  refine P_aload_n (pc := 6) dX4_give_6 rfl 1 rfl ?_
  refine P_getR (pc := 7) dX4_give_7 fa_RX4_38 (sS_o hb) fS_0 ?_
  refine P_iload_n (pc := 10) dX4_give_10 rfl 2 rfl ?_
  refine P_callVi (Y' := mX3_kindOf) (as := [_]) (pc := 11) dX4_give_11 rfl (by decide : 0 < 1) sC_1 rfl ml_RX4_108 im_X3_kindOf se_X3_kindOf mk_X3_kindOf (Nat.le_of_ble_eq_true rfl) (c_X3_kindOf (by unfold InR; omega)) (fun z_ μ_ hq => ?_)
  obtain ⟨hz, hμ_⟩ := hq
  subst hμ_
  rw [if_pos (by omega)] at hz
  simp (disch := omega) only [st_i] at hz
  rw [hR.2.1] at hz
  subst hz
  try simp (disch := omega) only [st_N, st_A, st_B, st_i, st_s, st_j, st_pN, st_pA, st_pB, st_ps, st_rN, st_rA, st_rB, les1_at, les2_at, mkN_at, kfN_0, lput_eq, lput_ne, lesN_out, mkN_out]
  refine P_istore (L' := [(6, vi _), (5, vi _), (0, vr (3 + b)), (1, vi _), (2, vr (28 + 7 * b)), (3, vl _)]) (pc := 14) dX4_give_14 (by decide) rfl ?_
  refine P_aload_n (pc := 16) dX4_give_16 rfl 2 rfl ?_
  refine P_getR (pc := 17) dX4_give_17 fa_RX4_38 (sS_o hb) fS_0 ?_
  refine P_aload_n (pc := 20) dX4_give_20 rfl 2 rfl ?_
  refine P_getI (jj := 1) (pc := 21) dX4_give_21 fa_RX4_42 (sS_o hb) fS_1 rfl ?_
  try simp (disch := omega) only [st_N, st_A, st_B, st_i, st_s, st_j, st_pN, st_pA, st_pB, st_ps, st_rN, st_rA, st_rB, les1_at, les2_at, mkN_at, kfN_0, lput_eq, lput_ne, lesN_out, mkN_out]
  rw [hlp]
  refine P_iload (pc := 24) dX4_give_24 0 rfl ?_
  refine P_iadd (pc := 26) dX4_give_26 ?_
  refine P_callVi (Y' := mX3_takenBy) (as := [_]) (pc := 27) dX4_give_27 rfl (by decide : 0 < 1) sC_1 rfl ml_RX4_152 im_X3_takenBy se_X3_takenBy mk_X3_takenBy (Nat.le_of_ble_eq_true rfl) (c_X3_takenBy (by unfold InR; omega)) (fun z_ μ_ hq => ?_)
  obtain ⟨hz, hμ_⟩ := hq
  subst hμ_
  rw [if_pos (by omega)] at hz
  simp (disch := omega) only [st_i] at hz
  rw [hR.2.2.1] at hz
  subst hz
  try simp (disch := omega) only [st_N, st_A, st_B, st_i, st_s, st_j, st_pN, st_pA, st_pB, st_ps, st_rN, st_rA, st_rB, les1_at, les2_at, mkN_at, kfN_0, lput_eq, lput_ne, lesN_out, mkN_out]
  refine P_istore (L' := [(7, vi _), (6, vi _), (5, vi _), (0, vr (3 + b)), (1, vi _), (2, vr (28 + 7 * b)), (3, vl _)]) (pc := 30) dX4_give_30 (by decide) rfl ?_
  refine P_iload (pc := 32) dX4_give_32 0 rfl ?_
  refine P_iconst (pc := 34) dX4_give_34 ?_
  refine P_icmp_lt (tgt := 44) (pc := 35) dX4_give_35 (by decide) (by first | assumption | (unfold InR; omega)) (by first | assumption | (unfold InR; omega)) (fun c_35 => ?_) (fun c_35 => ?_)
  · exact P_vret (pc := 44) dX4_give_44 rfl (QV.mk (by first | (exact ⟨_, s, hs, st_ext (giveN_z (takB_0 (by omega))).symm rfl rfl rfl⟩) | (exfalso; omega) | (exact ⟨_, s, hs, st_ext (giveN_z (by first | (rw [takB_f (by omega) (by omega)]; exact c_96) | (rw [takB_n (by omega) (by omega)]; exact c_96))).symm rfl rfl rfl⟩) | skip; refine ⟨_, _, ?_, st_ext ?_ rfl rfl rfl⟩; (split <;> omega); (first | rw [← takB_f (by omega) (by omega)] at c_96 ⊢ | rw [← takB_n (by omega) (by omega)] at c_96 ⊢); rw [giveN_y c_96]; unfold hndF; first | rw [if_pos (by omega)] | rw [if_neg (by omega)]))
  · refine P_iload (pc := 38) dX4_give_38 0 rfl ?_
    refine P_iconst (pc := 40) dX4_give_40 ?_
    refine P_icmp_le (tgt := 45) (pc := 41) dX4_give_41 (by decide) (by first | assumption | (unfold InR; omega)) (by first | assumption | (unfold InR; omega)) (fun c_41 => ?_) (fun c_41 => ?_)
    · refine P_aload_n (pc := 45) dX4_give_45 rfl 5 rfl ?_
      refine P_iload (pc := 46) dX4_give_46 0 rfl ?_
      refine P_iconst (pc := 48) dX4_give_48 ?_
      refine P_isub (pc := 49) dX4_give_49 ?_
      refine P_lald (pc := 50) dX4_give_50 (sS_28 hb) (by omega) (by omega) (by decide) ?_
      try simp (disch := omega) only [st_N, st_A, st_B, st_i, st_s, st_j, st_pN, st_pA, st_pB, st_ps, st_rN, st_rA, st_rB, les1_at, les2_at, mkN_at, kfN_0, lput_eq, lput_ne, lesN_out, mkN_out]
      refine P_lload_n (pc := 51) dX4_give_51 rfl 6 rfl ?_
      refine P_land (pc := 52) dX4_give_52 ?_
      refine P_aload_n (pc := 53) dX4_give_53 rfl 3 rfl ?_
      refine P_getR (pc := 54) dX4_give_54 fa_RX4_9 (sS_o hb) fS_2 ?_
      refine P_iload (pc := 57) dX4_give_57 2 rfl ?_
      refine P_bipush (pc := 59) dX4_give_59 (by decide) ?_
      refine P_iadd (pc := 61) dX4_give_61 ?_
      refine P_lald (pc := 62) dX4_give_62 (sS_22 hb) (by omega) (by omega) (by decide) ?_
      try simp (disch := omega) only [st_N, st_A, st_B, st_i, st_s, st_j, st_pN, st_pA, st_pB, st_ps, st_rN, st_rA, st_rB, les1_at, les2_at, mkN_at, kfN_0, lput_eq, lput_ne, lesN_out, mkN_out]
      refine P_ldc2 (b := BitVec.allOnes 64) (pc := 63) dX4_give_63 kl_RX4_63 (by decide +kernel) ?_
      refine P_lnot (pc := 66) dX4_give_66 ?_
      refine P_land (pc := 67) dX4_give_67 ?_
      refine P_lstore (L' := [(8, vl _), (7, vi _), (6, vi _), (5, vi _), (0, vr (3 + b)), (1, vi _), (2, vr (28 + 7 * b)), (3, vl _)]) (pc := 68) dX4_give_68 (by decide) rfl ?_
      refine P_iload (pc := 70) dX4_give_70 2 rfl ?_
      refine P_callNi (Y' := mX5_isFood) (as := [_]) (pc := 72) dX4_give_72 rfl (by decide : 0 < 1) nm_RX4_155 sm_X5_isFood mk_X5_isFood (Nat.le_of_ble_eq_true rfl) (c_X5_isFood (by unfold InR; omega)) (fun z_ μ_ hq => ?_)
      obtain ⟨hz, hμ_⟩ := hq
      subst hμ_
      have hz := ite01 hz
      try simp (disch := omega) only [st_N, st_A, st_B, st_i, st_s, st_j, st_pN, st_pA, st_pB, st_ps, st_rN, st_rA, st_rB, les1_at, les2_at, mkN_at, kfN_0, lput_eq, lput_ne, lesN_out, mkN_out]
      refine P_if_eq (tgt := 93) (pc := 75) dX4_give_75 (by decide) (by first | assumption | (unfold InR; omega)) (fun c_75 => ?_) (fun c_75 => ?_)
      · refine P_lload (pc := 93) dX4_give_93 0 rfl ?_
        refine P_lconst (b := 0#64) (pc := 95) dX4_give_95 rfl ?_
        refine P_lcmp_ne (tgt := 101) (pc := 96) dX4_give_96 dX4_give_97 (by decide) (fun c_96 => ?_) (fun c_96 => ?_)
        · refine P_iload (pc := 101) dX4_give_101 2 rfl ?_
          refine P_iconst (pc := 103) dX4_give_103 ?_
          refine P_icmp_ne (tgt := 111) (pc := 104) dX4_give_104 (by decide) (by first | assumption | (unfold InR; omega)) (by first | assumption | (unfold InR; omega)) (fun c_104 => ?_) (fun c_104 => ?_)
          · refine P_iconst (pc := 111) dX4_give_111 ?_
            refine P_istore (L' := [(10, vi _), (8, vl _), (7, vi _), (6, vi _), (5, vi _), (0, vr (3 + b)), (1, vi _), (2, vr (28 + 7 * b)), (3, vl _)]) (pc := 112) dX4_give_112 (by decide) rfl ?_
            refine P_aload_n (pc := 114) dX4_give_114 rfl 7 rfl ?_
            refine P_iconst (pc := 115) dX4_give_115 ?_
            refine P_ldc2 (b := BitVec.allOnes 64) (pc := 116) dX4_give_116 kl_RX4_63 (by decide +kernel) ?_
            refine P_last (pc := 119) dX4_give_119 (sS_28 hb) (by omega) (by omega) (by decide) ?_
            try simp (disch := omega) only [st_N, st_A, st_B, st_i, st_s, st_j, st_pN, st_pA, st_pB, st_ps, st_rN, st_rA, st_rB, les1_at, les2_at, mkN_at, kfN_0, lput_eq, lput_ne, lesN_out, mkN_out]
            refine P_aload_n (pc := 120) dX4_give_120 rfl 7 rfl ?_
            refine P_iconst (pc := 121) dX4_give_121 ?_
            refine P_iload (pc := 122) dX4_give_122 0 rfl ?_
            refine P_if_eq (tgt := 133) (pc := 124) dX4_give_124 (by decide) (by first | assumption | (unfold InR; omega)) (fun c_124 => ?_) (fun c_124 => ?_)
            · refine P_aload_n (pc := 133) dX4_give_133 rfl 7 rfl ?_
              refine P_iconst (pc := 134) dX4_give_134 ?_
              refine P_lald (pc := 135) dX4_give_135 (sS_28 hb) (by omega) (by omega) (by decide) ?_
              try simp (disch := omega) only [st_N, st_A, st_B, st_i, st_s, st_j, st_pN, st_pA, st_pB, st_ps, st_rN, st_rA, st_rB, les1_at, les2_at, mkN_at, kfN_0, lput_eq, lput_ne, lesN_out, mkN_out]
              refine P_last (pc := 136) dX4_give_136 (sS_28 hb) (by omega) (by omega) (by decide) ?_
              try simp (disch := omega) only [st_N, st_A, st_B, st_i, st_s, st_j, st_pN, st_pA, st_pB, st_ps, st_rN, st_rA, st_rB, les1_at, les2_at, mkN_at, kfN_0, lput_eq, lput_ne, lesN_out, mkN_out]
              refine P_aload_n (pc := 137) dX4_give_137 rfl 7 rfl ?_
              refine P_iconst (pc := 138) dX4_give_138 ?_
              refine P_iload (pc := 139) dX4_give_139 0 rfl ?_
              refine P_if_eq (tgt := 150) (pc := 141) dX4_give_141 (by decide) (by first | assumption | (unfold InR; omega)) (fun c_141 => ?_) (fun c_141 => ?_)
              · refine P_aload_n (pc := 150) dX4_give_150 rfl 7 rfl ?_
                refine P_iconst (pc := 151) dX4_give_151 ?_
                refine P_lald (pc := 152) dX4_give_152 (sS_28 hb) (by omega) (by omega) (by decide) ?_
                try simp (disch := omega) only [st_N, st_A, st_B, st_i, st_s, st_j, st_pN, st_pA, st_pB, st_ps, st_rN, st_rA, st_rB, les1_at, les2_at, mkN_at, kfN_0, lput_eq, lput_ne, lesN_out, mkN_out]
                refine P_last (pc := 153) dX4_give_153 (sS_28 hb) (by omega) (by omega) (by decide) ?_
                try simp (disch := omega) only [st_N, st_A, st_B, st_i, st_s, st_j, st_pN, st_pA, st_pB, st_ps, st_rN, st_rA, st_rB, les1_at, les2_at, mkN_at, kfN_0, lput_eq, lput_ne, lesN_out, mkN_out]
                refine P_aload_n (pc := 154) dX4_give_154 rfl 7 rfl ?_
                refine P_iconst (pc := 155) dX4_give_155 ?_
                refine P_iload (pc := 156) dX4_give_156 0 rfl ?_
                refine P_if_eq (tgt := 167) (pc := 158) dX4_give_158 (by decide) (by first | assumption | (unfold InR; omega)) (fun c_158 => ?_) (fun c_158 => ?_)
                · refine P_lconst (b := 0#64) (pc := 167) dX4_give_167 rfl ?_
                  refine P_last (pc := 168) dX4_give_168 (sS_28 hb) (by omega) (by omega) (by decide) ?_
                  try simp (disch := omega) only [st_N, st_A, st_B, st_i, st_s, st_j, st_pN, st_pA, st_pB, st_ps, st_rN, st_rA, st_rB, les1_at, les2_at, mkN_at, kfN_0, lput_eq, lput_ne, lesN_out, mkN_out]
                  refine P_aload_n (pc := 169) dX4_give_169 rfl 5 rfl ?_
                  refine P_iload (pc := 170) dX4_give_170 4 rfl ?_
                  refine P_aload_n (pc := 172) dX4_give_172 rfl 7 rfl ?_
                  refine P_iconst (pc := 173) dX4_give_173 ?_
                  refine P_lload (pc := 174) dX4_give_174 1 rfl ?_
                  refine P_callVl (Y' := mX4_lessen) (as := [_, _, _, _]) (pc := 176) dX4_give_176 rfl (by decide : 0 < 1) (sS_o hb) rfl ml_RX4_148 im_X4_lessen se_X4_lessen mk_X4_lessen (Nat.le_of_ble_eq_true rfl) (c_X4_lessenB hb (by omega) rfl) (fun z_ μ_ hq => ?_)
                  obtain ⟨hz, hμ_⟩ := hq
                  subst hμ_
                  try simp (disch := omega) only [st_N, st_A, st_B, st_i, st_s, st_j, st_pN, st_pA, st_pB, st_ps, st_rN, st_rA, st_rB, les1_at, les2_at, mkN_at, kfN_0, lput_eq, lput_ne, lesN_out, mkN_out]
                  refine P_pop2_2 (pc := 179) dX4_give_179 rfl ?_
                  refine P_aload_n (pc := 180) dX4_give_180 rfl 5 rfl ?_
                  refine P_getR (pc := 181) dX4_give_181 fa_RX4_9 (sS_o hb) fS_2 ?_
                  refine P_iload (pc := 184) dX4_give_184 4 rfl ?_
                  refine P_bipush (pc := 186) dX4_give_186 (by decide) ?_
                  refine P_iadd (pc := 188) dX4_give_188 ?_
                  refine P_dup2_11 (pc := 189) dX4_give_189 rfl rfl ?_
                  refine P_lald (pc := 190) dX4_give_190 (sS_22 hb) (by omega) (by omega) (by decide) ?_
                  try simp (disch := omega) only [st_N, st_A, st_B, st_i, st_s, st_j, st_pN, st_pA, st_pB, st_ps, st_rN, st_rA, st_rB, les1_at, les2_at, mkN_at, kfN_0, lput_eq, lput_ne, lesN_out, mkN_out]
                  refine P_lload (pc := 191) dX4_give_191 1 rfl ?_
                  refine P_ldc2 (b := BitVec.allOnes 64) (pc := 193) dX4_give_193 kl_RX4_63 (by decide +kernel) ?_
                  refine P_lnot (pc := 196) dX4_give_196 ?_
                  refine P_land (pc := 197) dX4_give_197 ?_
                  refine P_last (pc := 198) dX4_give_198 (sS_22 hb) (by omega) (by omega) (by decide) ?_
                  try simp (disch := omega) only [st_N, st_A, st_B, st_i, st_s, st_j, st_pN, st_pA, st_pB, st_ps, st_rN, st_rA, st_rB, les1_at, les2_at, mkN_at, kfN_0, lput_eq, lput_ne, lesN_out, mkN_out]
                  exact P_vret (pc := 199) dX4_give_199 rfl (QV.mk (by first | (exact ⟨_, s, hs, st_ext (giveN_z (takB_0 (by omega))).symm rfl rfl rfl⟩) | (exfalso; omega) | (exact ⟨_, s, hs, st_ext (giveN_z (by first | (rw [takB_f (by omega) (by omega)]; exact c_96) | (rw [takB_n (by omega) (by omega)]; exact c_96))).symm rfl rfl rfl⟩) | skip; refine ⟨_, _, ?_, st_ext ?_ rfl rfl rfl⟩; (split <;> omega); (first | rw [← takB_f (by omega) (by omega)] at c_96 ⊢ | rw [← takB_n (by omega) (by omega)] at c_96 ⊢); rw [giveN_y c_96]; unfold hndF; first | rw [if_pos (by omega)] | rw [if_neg (by omega)]))
                · exfalso; omega
              · exfalso; omega
            · exfalso; omega
          · refine P_iconst (pc := 107) dX4_give_107 ?_
            refine P_goto (tgt := 112) (pc := 108) dX4_give_108 (by decide) ?_
            refine P_istore (L' := [(10, vi _), (8, vl _), (7, vi _), (6, vi _), (5, vi _), (0, vr (3 + b)), (1, vi _), (2, vr (28 + 7 * b)), (3, vl _)]) (pc := 112) dX4_give_112 (by decide) rfl ?_
            refine P_aload_n (pc := 114) dX4_give_114 rfl 7 rfl ?_
            refine P_iconst (pc := 115) dX4_give_115 ?_
            refine P_ldc2 (b := BitVec.allOnes 64) (pc := 116) dX4_give_116 kl_RX4_63 (by decide +kernel) ?_
            refine P_last (pc := 119) dX4_give_119 (sS_28 hb) (by omega) (by omega) (by decide) ?_
            try simp (disch := omega) only [st_N, st_A, st_B, st_i, st_s, st_j, st_pN, st_pA, st_pB, st_ps, st_rN, st_rA, st_rB, les1_at, les2_at, mkN_at, kfN_0, lput_eq, lput_ne, lesN_out, mkN_out]
            refine P_aload_n (pc := 120) dX4_give_120 rfl 7 rfl ?_
            refine P_iconst (pc := 121) dX4_give_121 ?_
            refine P_iload (pc := 122) dX4_give_122 0 rfl ?_
            refine P_if_eq (tgt := 133) (pc := 124) dX4_give_124 (by decide) (by first | assumption | (unfold InR; omega)) (fun c_124 => ?_) (fun c_124 => ?_)
            · exfalso; omega
            · refine P_ldc2 (b := BitVec.allOnes 64) (pc := 127) dX4_give_127 kl_RX4_63 (by decide +kernel) ?_
              refine P_goto (tgt := 136) (pc := 130) dX4_give_130 (by decide) ?_
              refine P_last (pc := 136) dX4_give_136 (sS_28 hb) (by omega) (by omega) (by decide) ?_
              try simp (disch := omega) only [st_N, st_A, st_B, st_i, st_s, st_j, st_pN, st_pA, st_pB, st_ps, st_rN, st_rA, st_rB, les1_at, les2_at, mkN_at, kfN_0, lput_eq, lput_ne, lesN_out, mkN_out]
              refine P_aload_n (pc := 137) dX4_give_137 rfl 7 rfl ?_
              refine P_iconst (pc := 138) dX4_give_138 ?_
              refine P_iload (pc := 139) dX4_give_139 0 rfl ?_
              refine P_if_eq (tgt := 150) (pc := 141) dX4_give_141 (by decide) (by first | assumption | (unfold InR; omega)) (fun c_141 => ?_) (fun c_141 => ?_)
              · exfalso; omega
              · refine P_ldc2 (b := BitVec.allOnes 64) (pc := 144) dX4_give_144 kl_RX4_63 (by decide +kernel) ?_
                refine P_goto (tgt := 153) (pc := 147) dX4_give_147 (by decide) ?_
                refine P_last (pc := 153) dX4_give_153 (sS_28 hb) (by omega) (by omega) (by decide) ?_
                try simp (disch := omega) only [st_N, st_A, st_B, st_i, st_s, st_j, st_pN, st_pA, st_pB, st_ps, st_rN, st_rA, st_rB, les1_at, les2_at, mkN_at, kfN_0, lput_eq, lput_ne, lesN_out, mkN_out]
                refine P_aload_n (pc := 154) dX4_give_154 rfl 7 rfl ?_
                refine P_iconst (pc := 155) dX4_give_155 ?_
                refine P_iload (pc := 156) dX4_give_156 0 rfl ?_
                refine P_if_eq (tgt := 167) (pc := 158) dX4_give_158 (by decide) (by first | assumption | (unfold InR; omega)) (fun c_158 => ?_) (fun c_158 => ?_)
                · exfalso; omega
                · refine P_ldc2 (b := BitVec.allOnes 64) (pc := 161) dX4_give_161 kl_RX4_63 (by decide +kernel) ?_
                  refine P_goto (tgt := 168) (pc := 164) dX4_give_164 (by decide) ?_
                  refine P_last (pc := 168) dX4_give_168 (sS_28 hb) (by omega) (by omega) (by decide) ?_
                  try simp (disch := omega) only [st_N, st_A, st_B, st_i, st_s, st_j, st_pN, st_pA, st_pB, st_ps, st_rN, st_rA, st_rB, les1_at, les2_at, mkN_at, kfN_0, lput_eq, lput_ne, lesN_out, mkN_out]
                  refine P_aload_n (pc := 169) dX4_give_169 rfl 5 rfl ?_
                  refine P_iload (pc := 170) dX4_give_170 4 rfl ?_
                  refine P_aload_n (pc := 172) dX4_give_172 rfl 7 rfl ?_
                  refine P_iconst (pc := 173) dX4_give_173 ?_
                  refine P_lload (pc := 174) dX4_give_174 1 rfl ?_
                  refine P_callVl (Y' := mX4_lessen) (as := [_, _, _, _]) (pc := 176) dX4_give_176 rfl (by decide : 0 < 1) (sS_o hb) rfl ml_RX4_148 im_X4_lessen se_X4_lessen mk_X4_lessen (Nat.le_of_ble_eq_true rfl) (c_X4_lessenB hb (by omega) rfl) (fun z_ μ_ hq => ?_)
                  obtain ⟨hz, hμ_⟩ := hq
                  subst hμ_
                  try simp (disch := omega) only [st_N, st_A, st_B, st_i, st_s, st_j, st_pN, st_pA, st_pB, st_ps, st_rN, st_rA, st_rB, les1_at, les2_at, mkN_at, kfN_0, lput_eq, lput_ne, lesN_out, mkN_out]
                  refine P_pop2_2 (pc := 179) dX4_give_179 rfl ?_
                  refine P_aload_n (pc := 180) dX4_give_180 rfl 5 rfl ?_
                  refine P_getR (pc := 181) dX4_give_181 fa_RX4_9 (sS_o hb) fS_2 ?_
                  refine P_iload (pc := 184) dX4_give_184 4 rfl ?_
                  refine P_bipush (pc := 186) dX4_give_186 (by decide) ?_
                  refine P_iadd (pc := 188) dX4_give_188 ?_
                  refine P_dup2_11 (pc := 189) dX4_give_189 rfl rfl ?_
                  refine P_lald (pc := 190) dX4_give_190 (sS_22 hb) (by omega) (by omega) (by decide) ?_
                  try simp (disch := omega) only [st_N, st_A, st_B, st_i, st_s, st_j, st_pN, st_pA, st_pB, st_ps, st_rN, st_rA, st_rB, les1_at, les2_at, mkN_at, kfN_0, lput_eq, lput_ne, lesN_out, mkN_out]
                  refine P_lload (pc := 191) dX4_give_191 1 rfl ?_
                  refine P_ldc2 (b := BitVec.allOnes 64) (pc := 193) dX4_give_193 kl_RX4_63 (by decide +kernel) ?_
                  refine P_lnot (pc := 196) dX4_give_196 ?_
                  refine P_land (pc := 197) dX4_give_197 ?_
                  refine P_last (pc := 198) dX4_give_198 (sS_22 hb) (by omega) (by omega) (by decide) ?_
                  try simp (disch := omega) only [st_N, st_A, st_B, st_i, st_s, st_j, st_pN, st_pA, st_pB, st_ps, st_rN, st_rA, st_rB, les1_at, les2_at, mkN_at, kfN_0, lput_eq, lput_ne, lesN_out, mkN_out]
                  exact P_vret (pc := 199) dX4_give_199 rfl (QV.mk (by first | (exact ⟨_, s, hs, st_ext (giveN_z (takB_0 (by omega))).symm rfl rfl rfl⟩) | (exfalso; omega) | (exact ⟨_, s, hs, st_ext (giveN_z (by first | (rw [takB_f (by omega) (by omega)]; exact c_96) | (rw [takB_n (by omega) (by omega)]; exact c_96))).symm rfl rfl rfl⟩) | skip; refine ⟨_, _, ?_, st_ext ?_ rfl rfl rfl⟩; (split <;> omega); (first | rw [← takB_f (by omega) (by omega)] at c_96 ⊢ | rw [← takB_n (by omega) (by omega)] at c_96 ⊢); rw [giveN_y c_96]; unfold hndF; first | rw [if_pos (by omega)] | rw [if_neg (by omega)]))
        · exact P_vret (pc := 100) dX4_give_100 rfl (QV.mk (by first | (exact ⟨_, s, hs, st_ext (giveN_z (takB_0 (by omega))).symm rfl rfl rfl⟩) | (exfalso; omega) | (exact ⟨_, s, hs, st_ext (giveN_z (by first | (rw [takB_f (by omega) (by omega)]; exact c_96) | (rw [takB_n (by omega) (by omega)]; exact c_96))).symm rfl rfl rfl⟩) | skip; refine ⟨_, _, ?_, st_ext ?_ rfl rfl rfl⟩; (split <;> omega); (first | rw [← takB_f (by omega) (by omega)] at c_96 ⊢ | rw [← takB_n (by omega) (by omega)] at c_96 ⊢); rw [giveN_y c_96]; unfold hndF; first | rw [if_pos (by omega)] | rw [if_neg (by omega)]))
      · refine P_lload (pc := 78) dX4_give_78 0 rfl ?_
        refine P_aload_n (pc := 80) dX4_give_80 rfl 4 rfl ?_
        refine P_getR (pc := 81) dX4_give_81 fa_RX4_9 (sS_o hb) fS_2 ?_
        refine P_iload (pc := 84) dX4_give_84 3 rfl ?_
        refine P_bipush (pc := 86) dX4_give_86 (by decide) ?_
        refine P_iadd (pc := 88) dX4_give_88 ?_
        refine P_lald (pc := 89) dX4_give_89 (sS_22 hb) (by omega) (by omega) (by decide) ?_
        try simp (disch := omega) only [st_N, st_A, st_B, st_i, st_s, st_j, st_pN, st_pA, st_pB, st_ps, st_rN, st_rA, st_rB, les1_at, les2_at, mkN_at, kfN_0, lput_eq, lput_ne, lesN_out, mkN_out]
        refine P_land (pc := 90) dX4_give_90 ?_
        refine P_lstore (L' := [(8, vl _), (7, vi _), (6, vi _), (5, vi _), (0, vr (3 + b)), (1, vi _), (2, vr (28 + 7 * b)), (3, vl _)]) (pc := 91) dX4_give_91 (by decide) rfl ?_
        refine P_lload (pc := 93) dX4_give_93 0 rfl ?_
        refine P_lconst (b := 0#64) (pc := 95) dX4_give_95 rfl ?_
        refine P_lcmp_ne (tgt := 101) (pc := 96) dX4_give_96 dX4_give_97 (by decide) (fun c_96 => ?_) (fun c_96 => ?_)
        · refine P_iload (pc := 101) dX4_give_101 2 rfl ?_
          refine P_iconst (pc := 103) dX4_give_103 ?_
          refine P_icmp_ne (tgt := 111) (pc := 104) dX4_give_104 (by decide) (by first | assumption | (unfold InR; omega)) (by first | assumption | (unfold InR; omega)) (fun c_104 => ?_) (fun c_104 => ?_)
          · refine P_iconst (pc := 111) dX4_give_111 ?_
            refine P_istore (L' := [(10, vi _), (8, vl _), (7, vi _), (6, vi _), (5, vi _), (0, vr (3 + b)), (1, vi _), (2, vr (28 + 7 * b)), (3, vl _)]) (pc := 112) dX4_give_112 (by decide) rfl ?_
            refine P_aload_n (pc := 114) dX4_give_114 rfl 7 rfl ?_
            refine P_iconst (pc := 115) dX4_give_115 ?_
            refine P_ldc2 (b := BitVec.allOnes 64) (pc := 116) dX4_give_116 kl_RX4_63 (by decide +kernel) ?_
            refine P_last (pc := 119) dX4_give_119 (sS_28 hb) (by omega) (by omega) (by decide) ?_
            try simp (disch := omega) only [st_N, st_A, st_B, st_i, st_s, st_j, st_pN, st_pA, st_pB, st_ps, st_rN, st_rA, st_rB, les1_at, les2_at, mkN_at, kfN_0, lput_eq, lput_ne, lesN_out, mkN_out]
            refine P_aload_n (pc := 120) dX4_give_120 rfl 7 rfl ?_
            refine P_iconst (pc := 121) dX4_give_121 ?_
            refine P_iload (pc := 122) dX4_give_122 0 rfl ?_
            refine P_if_eq (tgt := 133) (pc := 124) dX4_give_124 (by decide) (by first | assumption | (unfold InR; omega)) (fun c_124 => ?_) (fun c_124 => ?_)
            · refine P_aload_n (pc := 133) dX4_give_133 rfl 7 rfl ?_
              refine P_iconst (pc := 134) dX4_give_134 ?_
              refine P_lald (pc := 135) dX4_give_135 (sS_28 hb) (by omega) (by omega) (by decide) ?_
              try simp (disch := omega) only [st_N, st_A, st_B, st_i, st_s, st_j, st_pN, st_pA, st_pB, st_ps, st_rN, st_rA, st_rB, les1_at, les2_at, mkN_at, kfN_0, lput_eq, lput_ne, lesN_out, mkN_out]
              refine P_last (pc := 136) dX4_give_136 (sS_28 hb) (by omega) (by omega) (by decide) ?_
              try simp (disch := omega) only [st_N, st_A, st_B, st_i, st_s, st_j, st_pN, st_pA, st_pB, st_ps, st_rN, st_rA, st_rB, les1_at, les2_at, mkN_at, kfN_0, lput_eq, lput_ne, lesN_out, mkN_out]
              refine P_aload_n (pc := 137) dX4_give_137 rfl 7 rfl ?_
              refine P_iconst (pc := 138) dX4_give_138 ?_
              refine P_iload (pc := 139) dX4_give_139 0 rfl ?_
              refine P_if_eq (tgt := 150) (pc := 141) dX4_give_141 (by decide) (by first | assumption | (unfold InR; omega)) (fun c_141 => ?_) (fun c_141 => ?_)
              · refine P_aload_n (pc := 150) dX4_give_150 rfl 7 rfl ?_
                refine P_iconst (pc := 151) dX4_give_151 ?_
                refine P_lald (pc := 152) dX4_give_152 (sS_28 hb) (by omega) (by omega) (by decide) ?_
                try simp (disch := omega) only [st_N, st_A, st_B, st_i, st_s, st_j, st_pN, st_pA, st_pB, st_ps, st_rN, st_rA, st_rB, les1_at, les2_at, mkN_at, kfN_0, lput_eq, lput_ne, lesN_out, mkN_out]
                refine P_last (pc := 153) dX4_give_153 (sS_28 hb) (by omega) (by omega) (by decide) ?_
                try simp (disch := omega) only [st_N, st_A, st_B, st_i, st_s, st_j, st_pN, st_pA, st_pB, st_ps, st_rN, st_rA, st_rB, les1_at, les2_at, mkN_at, kfN_0, lput_eq, lput_ne, lesN_out, mkN_out]
                refine P_aload_n (pc := 154) dX4_give_154 rfl 7 rfl ?_
                refine P_iconst (pc := 155) dX4_give_155 ?_
                refine P_iload (pc := 156) dX4_give_156 0 rfl ?_
                refine P_if_eq (tgt := 167) (pc := 158) dX4_give_158 (by decide) (by first | assumption | (unfold InR; omega)) (fun c_158 => ?_) (fun c_158 => ?_)
                · refine P_lconst (b := 0#64) (pc := 167) dX4_give_167 rfl ?_
                  refine P_last (pc := 168) dX4_give_168 (sS_28 hb) (by omega) (by omega) (by decide) ?_
                  try simp (disch := omega) only [st_N, st_A, st_B, st_i, st_s, st_j, st_pN, st_pA, st_pB, st_ps, st_rN, st_rA, st_rB, les1_at, les2_at, mkN_at, kfN_0, lput_eq, lput_ne, lesN_out, mkN_out]
                  refine P_aload_n (pc := 169) dX4_give_169 rfl 5 rfl ?_
                  refine P_iload (pc := 170) dX4_give_170 4 rfl ?_
                  refine P_aload_n (pc := 172) dX4_give_172 rfl 7 rfl ?_
                  refine P_iconst (pc := 173) dX4_give_173 ?_
                  refine P_lload (pc := 174) dX4_give_174 1 rfl ?_
                  refine P_callVl (Y' := mX4_lessen) (as := [_, _, _, _]) (pc := 176) dX4_give_176 rfl (by decide : 0 < 1) (sS_o hb) rfl ml_RX4_148 im_X4_lessen se_X4_lessen mk_X4_lessen (Nat.le_of_ble_eq_true rfl) (c_X4_lessenB hb (by omega) rfl) (fun z_ μ_ hq => ?_)
                  obtain ⟨hz, hμ_⟩ := hq
                  subst hμ_
                  try simp (disch := omega) only [st_N, st_A, st_B, st_i, st_s, st_j, st_pN, st_pA, st_pB, st_ps, st_rN, st_rA, st_rB, les1_at, les2_at, mkN_at, kfN_0, lput_eq, lput_ne, lesN_out, mkN_out]
                  refine P_pop2_2 (pc := 179) dX4_give_179 rfl ?_
                  refine P_aload_n (pc := 180) dX4_give_180 rfl 5 rfl ?_
                  refine P_getR (pc := 181) dX4_give_181 fa_RX4_9 (sS_o hb) fS_2 ?_
                  refine P_iload (pc := 184) dX4_give_184 4 rfl ?_
                  refine P_bipush (pc := 186) dX4_give_186 (by decide) ?_
                  refine P_iadd (pc := 188) dX4_give_188 ?_
                  refine P_dup2_11 (pc := 189) dX4_give_189 rfl rfl ?_
                  refine P_lald (pc := 190) dX4_give_190 (sS_22 hb) (by omega) (by omega) (by decide) ?_
                  try simp (disch := omega) only [st_N, st_A, st_B, st_i, st_s, st_j, st_pN, st_pA, st_pB, st_ps, st_rN, st_rA, st_rB, les1_at, les2_at, mkN_at, kfN_0, lput_eq, lput_ne, lesN_out, mkN_out]
                  refine P_lload (pc := 191) dX4_give_191 1 rfl ?_
                  refine P_ldc2 (b := BitVec.allOnes 64) (pc := 193) dX4_give_193 kl_RX4_63 (by decide +kernel) ?_
                  refine P_lnot (pc := 196) dX4_give_196 ?_
                  refine P_land (pc := 197) dX4_give_197 ?_
                  refine P_last (pc := 198) dX4_give_198 (sS_22 hb) (by omega) (by omega) (by decide) ?_
                  try simp (disch := omega) only [st_N, st_A, st_B, st_i, st_s, st_j, st_pN, st_pA, st_pB, st_ps, st_rN, st_rA, st_rB, les1_at, les2_at, mkN_at, kfN_0, lput_eq, lput_ne, lesN_out, mkN_out]
                  exact P_vret (pc := 199) dX4_give_199 rfl (QV.mk (by first | (exact ⟨_, s, hs, st_ext (giveN_z (takB_0 (by omega))).symm rfl rfl rfl⟩) | (exfalso; omega) | (exact ⟨_, s, hs, st_ext (giveN_z (by first | (rw [takB_f (by omega) (by omega)]; exact c_96) | (rw [takB_n (by omega) (by omega)]; exact c_96))).symm rfl rfl rfl⟩) | skip; refine ⟨_, _, ?_, st_ext ?_ rfl rfl rfl⟩; (split <;> omega); (first | rw [← takB_f (by omega) (by omega)] at c_96 ⊢ | rw [← takB_n (by omega) (by omega)] at c_96 ⊢); rw [giveN_y c_96]; unfold hndF; first | rw [if_pos (by omega)] | rw [if_neg (by omega)]))
                · exfalso; omega
              · exfalso; omega
            · exfalso; omega
          · refine P_iconst (pc := 107) dX4_give_107 ?_
            refine P_goto (tgt := 112) (pc := 108) dX4_give_108 (by decide) ?_
            refine P_istore (L' := [(10, vi _), (8, vl _), (7, vi _), (6, vi _), (5, vi _), (0, vr (3 + b)), (1, vi _), (2, vr (28 + 7 * b)), (3, vl _)]) (pc := 112) dX4_give_112 (by decide) rfl ?_
            refine P_aload_n (pc := 114) dX4_give_114 rfl 7 rfl ?_
            refine P_iconst (pc := 115) dX4_give_115 ?_
            refine P_ldc2 (b := BitVec.allOnes 64) (pc := 116) dX4_give_116 kl_RX4_63 (by decide +kernel) ?_
            refine P_last (pc := 119) dX4_give_119 (sS_28 hb) (by omega) (by omega) (by decide) ?_
            try simp (disch := omega) only [st_N, st_A, st_B, st_i, st_s, st_j, st_pN, st_pA, st_pB, st_ps, st_rN, st_rA, st_rB, les1_at, les2_at, mkN_at, kfN_0, lput_eq, lput_ne, lesN_out, mkN_out]
            refine P_aload_n (pc := 120) dX4_give_120 rfl 7 rfl ?_
            refine P_iconst (pc := 121) dX4_give_121 ?_
            refine P_iload (pc := 122) dX4_give_122 0 rfl ?_
            refine P_if_eq (tgt := 133) (pc := 124) dX4_give_124 (by decide) (by first | assumption | (unfold InR; omega)) (fun c_124 => ?_) (fun c_124 => ?_)
            · exfalso; omega
            · refine P_ldc2 (b := BitVec.allOnes 64) (pc := 127) dX4_give_127 kl_RX4_63 (by decide +kernel) ?_
              refine P_goto (tgt := 136) (pc := 130) dX4_give_130 (by decide) ?_
              refine P_last (pc := 136) dX4_give_136 (sS_28 hb) (by omega) (by omega) (by decide) ?_
              try simp (disch := omega) only [st_N, st_A, st_B, st_i, st_s, st_j, st_pN, st_pA, st_pB, st_ps, st_rN, st_rA, st_rB, les1_at, les2_at, mkN_at, kfN_0, lput_eq, lput_ne, lesN_out, mkN_out]
              refine P_aload_n (pc := 137) dX4_give_137 rfl 7 rfl ?_
              refine P_iconst (pc := 138) dX4_give_138 ?_
              refine P_iload (pc := 139) dX4_give_139 0 rfl ?_
              refine P_if_eq (tgt := 150) (pc := 141) dX4_give_141 (by decide) (by first | assumption | (unfold InR; omega)) (fun c_141 => ?_) (fun c_141 => ?_)
              · exfalso; omega
              · refine P_ldc2 (b := BitVec.allOnes 64) (pc := 144) dX4_give_144 kl_RX4_63 (by decide +kernel) ?_
                refine P_goto (tgt := 153) (pc := 147) dX4_give_147 (by decide) ?_
                refine P_last (pc := 153) dX4_give_153 (sS_28 hb) (by omega) (by omega) (by decide) ?_
                try simp (disch := omega) only [st_N, st_A, st_B, st_i, st_s, st_j, st_pN, st_pA, st_pB, st_ps, st_rN, st_rA, st_rB, les1_at, les2_at, mkN_at, kfN_0, lput_eq, lput_ne, lesN_out, mkN_out]
                refine P_aload_n (pc := 154) dX4_give_154 rfl 7 rfl ?_
                refine P_iconst (pc := 155) dX4_give_155 ?_
                refine P_iload (pc := 156) dX4_give_156 0 rfl ?_
                refine P_if_eq (tgt := 167) (pc := 158) dX4_give_158 (by decide) (by first | assumption | (unfold InR; omega)) (fun c_158 => ?_) (fun c_158 => ?_)
                · exfalso; omega
                · refine P_ldc2 (b := BitVec.allOnes 64) (pc := 161) dX4_give_161 kl_RX4_63 (by decide +kernel) ?_
                  refine P_goto (tgt := 168) (pc := 164) dX4_give_164 (by decide) ?_
                  refine P_last (pc := 168) dX4_give_168 (sS_28 hb) (by omega) (by omega) (by decide) ?_
                  try simp (disch := omega) only [st_N, st_A, st_B, st_i, st_s, st_j, st_pN, st_pA, st_pB, st_ps, st_rN, st_rA, st_rB, les1_at, les2_at, mkN_at, kfN_0, lput_eq, lput_ne, lesN_out, mkN_out]
                  refine P_aload_n (pc := 169) dX4_give_169 rfl 5 rfl ?_
                  refine P_iload (pc := 170) dX4_give_170 4 rfl ?_
                  refine P_aload_n (pc := 172) dX4_give_172 rfl 7 rfl ?_
                  refine P_iconst (pc := 173) dX4_give_173 ?_
                  refine P_lload (pc := 174) dX4_give_174 1 rfl ?_
                  refine P_callVl (Y' := mX4_lessen) (as := [_, _, _, _]) (pc := 176) dX4_give_176 rfl (by decide : 0 < 1) (sS_o hb) rfl ml_RX4_148 im_X4_lessen se_X4_lessen mk_X4_lessen (Nat.le_of_ble_eq_true rfl) (c_X4_lessenB hb (by omega) rfl) (fun z_ μ_ hq => ?_)
                  obtain ⟨hz, hμ_⟩ := hq
                  subst hμ_
                  try simp (disch := omega) only [st_N, st_A, st_B, st_i, st_s, st_j, st_pN, st_pA, st_pB, st_ps, st_rN, st_rA, st_rB, les1_at, les2_at, mkN_at, kfN_0, lput_eq, lput_ne, lesN_out, mkN_out]
                  refine P_pop2_2 (pc := 179) dX4_give_179 rfl ?_
                  refine P_aload_n (pc := 180) dX4_give_180 rfl 5 rfl ?_
                  refine P_getR (pc := 181) dX4_give_181 fa_RX4_9 (sS_o hb) fS_2 ?_
                  refine P_iload (pc := 184) dX4_give_184 4 rfl ?_
                  refine P_bipush (pc := 186) dX4_give_186 (by decide) ?_
                  refine P_iadd (pc := 188) dX4_give_188 ?_
                  refine P_dup2_11 (pc := 189) dX4_give_189 rfl rfl ?_
                  refine P_lald (pc := 190) dX4_give_190 (sS_22 hb) (by omega) (by omega) (by decide) ?_
                  try simp (disch := omega) only [st_N, st_A, st_B, st_i, st_s, st_j, st_pN, st_pA, st_pB, st_ps, st_rN, st_rA, st_rB, les1_at, les2_at, mkN_at, kfN_0, lput_eq, lput_ne, lesN_out, mkN_out]
                  refine P_lload (pc := 191) dX4_give_191 1 rfl ?_
                  refine P_ldc2 (b := BitVec.allOnes 64) (pc := 193) dX4_give_193 kl_RX4_63 (by decide +kernel) ?_
                  refine P_lnot (pc := 196) dX4_give_196 ?_
                  refine P_land (pc := 197) dX4_give_197 ?_
                  refine P_last (pc := 198) dX4_give_198 (sS_22 hb) (by omega) (by omega) (by decide) ?_
                  try simp (disch := omega) only [st_N, st_A, st_B, st_i, st_s, st_j, st_pN, st_pA, st_pB, st_ps, st_rN, st_rA, st_rB, les1_at, les2_at, mkN_at, kfN_0, lput_eq, lput_ne, lesN_out, mkN_out]
                  exact P_vret (pc := 199) dX4_give_199 rfl (QV.mk (by first | (exact ⟨_, s, hs, st_ext (giveN_z (takB_0 (by omega))).symm rfl rfl rfl⟩) | (exfalso; omega) | (exact ⟨_, s, hs, st_ext (giveN_z (by first | (rw [takB_f (by omega) (by omega)]; exact c_96) | (rw [takB_n (by omega) (by omega)]; exact c_96))).symm rfl rfl rfl⟩) | skip; refine ⟨_, _, ?_, st_ext ?_ rfl rfl rfl⟩; (split <;> omega); (first | rw [← takB_f (by omega) (by omega)] at c_96 ⊢ | rw [← takB_n (by omega) (by omega)] at c_96 ⊢); rw [giveN_y c_96]; unfold hndF; first | rw [if_pos (by omega)] | rw [if_neg (by omega)]))
        · exact P_vret (pc := 100) dX4_give_100 rfl (QV.mk (by first | (exact ⟨_, s, hs, st_ext (giveN_z (takB_0 (by omega))).symm rfl rfl rfl⟩) | (exfalso; omega) | (exact ⟨_, s, hs, st_ext (giveN_z (by first | (rw [takB_f (by omega) (by omega)]; exact c_96) | (rw [takB_n (by omega) (by omega)]; exact c_96))).symm rfl rfl rfl⟩) | skip; refine ⟨_, _, ?_, st_ext ?_ rfl rfl rfl⟩; (split <;> omega); (first | rw [← takB_f (by omega) (by omega)] at c_96 ⊢ | rw [← takB_n (by omega) (by omega)] at c_96 ⊢); rw [giveN_y c_96]; unfold hndF; first | rw [if_pos (by omega)] | rw [if_neg (by omega)]))
    · exact P_vret (pc := 44) dX4_give_44 rfl (QV.mk (by first | (exact ⟨_, s, hs, st_ext (giveN_z (takB_0 (by omega))).symm rfl rfl rfl⟩) | (exfalso; omega) | (exact ⟨_, s, hs, st_ext (giveN_z (by first | (rw [takB_f (by omega) (by omega)]; exact c_96) | (rw [takB_n (by omega) (by omega)]; exact c_96))).symm rfl rfl rfl⟩) | skip; refine ⟨_, _, ?_, st_ext ?_ rfl rfl rfl⟩; (split <;> omega); (first | rw [← takB_f (by omega) (by omega)] at c_96 ⊢ | rw [← takB_n (by omega) (by omega)] at c_96 ⊢); rw [giveN_y c_96]; unfold hndF; first | rw [if_pos (by omega)] | rw [if_neg (by omega)]))
set_option maxHeartbeats 1000000 in
set_option maxRecDepth 100000 in
theorem l_X4_clean {μ : Mem} {b : Nat} {N A B : Pl} {s : Int} {K : Cel} (hb : b < 2) (hR : KR K μ) (hK : KOK K) : ∀ (n m : Nat) (t s2 : Int), t = (m : Int) → m ≤ (K 0 11).toNat → (K 0 11).toNat - m < n → (s2 = 0 ∨ s2 = 1) → PW shC 1 mX4_cleanTheWashed 2 [(0, vr (3 + b)), (1, vi t)] [] (stM μ b (upN (cln1 K) 0 m N) A B s2) (QV (fun μ' => ∃ s' : Int, (s' = 0 ∨ s' = 1) ∧ μ' = stM μ b (clnN K N) A B s')) := by
  intro n
  induction n with
  | zero => intro m t s2 _ _ q; omega
  | succ n ih =>
  intro m t s2 ht hm hn hs2
  have hK1 := hK.1
  have hK2 := hK.2.2.1 t
  have hs := upN_s (cln1 K) 0 m N
  rw [show (0 : Int) + (m : Int) = t by omega] at hs
  have ih2 := fun s3 => ih (m + 1) (t + 1) s3 (by omega)
  rw [hs] at ih2
  generalize hNm : upN (cln1 K) 0 m N = Nm at ih2 ⊢
  clear ih
  refine P_iload_n (pc := 2) dX4_cleanTheWashed_2 rfl 1 rfl ?_
  refine P_aload_n (pc := 3) dX4_cleanTheWashed_3 rfl 0 rfl ?_
  refine P_getR (pc := 4) dX4_cleanTheWashed_4 fa_RX4_38 (sS_o hb) fS_0 ?_
  refine P_getI (jj := 6) (pc := 7) dX4_cleanTheWashed_7 fa_RX4_105 sC_1 fC1_6 rfl ?_
  try simp (disch := omega) only [st_N, st_A, st_B, st_i, st_s, st_j, st_pN, st_pA, st_pB, st_ps, st_rN, st_rA, st_rB, les1_at, les2_at, mkN_at, kfN_0, lput_eq, lput_ne, lesN_out, mkN_out]
  rw [hR.1.1]
  refine P_icmp_ge (tgt := 66) (pc := 10) dX4_cleanTheWashed_10 (by decide) (by first | assumption | (unfold InR; omega)) (by first | assumption | (unfold InR; omega)) (fun c_10 => ?_) (fun c_10 => ?_)
  · exact P_vret (pc := 66) dX4_cleanTheWashed_66 rfl (QV.mk (by have e9 : m = (K 0 11).toNat := (by omega); unfold clnN; rw [← e9, hNm]; exact ⟨s2, hs2, rfl⟩))
  · refine P_iload_n (pc := 13) dX4_cleanTheWashed_13 rfl 1 rfl ?_
    refine P_bipush (pc := 14) dX4_cleanTheWashed_14 (by decide) ?_
    refine P_icmp_ge (tgt := 66) (pc := 16) dX4_cleanTheWashed_16 (by decide) (by first | assumption | (unfold InR; omega)) (by first | assumption | (unfold InR; omega)) (fun c_16 => ?_) (fun c_16 => ?_)
    · exact P_vret (pc := 66) dX4_cleanTheWashed_66 rfl (QV.mk (by have e9 : m = (K 0 11).toNat := (by omega); unfold clnN; rw [← e9, hNm]; exact ⟨s2, hs2, rfl⟩))
    · refine P_iload_n (pc := 19) dX4_cleanTheWashed_19 rfl 1 rfl ?_
      refine P_bipush (pc := 20) dX4_cleanTheWashed_20 (by decide) ?_
      refine P_imul (pc := 22) dX4_cleanTheWashed_22 ?_
      refine P_istore_n (L' := [(2, vi _), (0, vr (3 + b)), (1, vi _)]) (pc := 23) dX4_cleanTheWashed_23 rfl (by decide) rfl ?_
      refine P_aload_n (pc := 24) dX4_cleanTheWashed_24 rfl 1 rfl ?_
      refine P_getR (pc := 25) dX4_cleanTheWashed_25 fa_RX4_38 (sS_o hb) fS_0 ?_
      refine P_iload_n (pc := 28) dX4_cleanTheWashed_28 rfl 2 rfl ?_
      refine P_callVi (Y' := mX3_kindOf) (as := [_]) (pc := 29) dX4_cleanTheWashed_29 rfl (by decide : 0 < 1) sC_1 rfl ml_RX4_108 im_X3_kindOf se_X3_kindOf mk_X3_kindOf (Nat.le_of_ble_eq_true rfl) (c_X3_kindOf (by unfold InR; omega)) (fun z_ μ_ hq => ?_)
      obtain ⟨hz, hμ_⟩ := hq
      subst hμ_
      rw [if_pos (by omega)] at hz
      simp (disch := omega) only [st_i] at hz
      rw [hR.2.1] at hz
      subst hz
      try simp (disch := omega) only [st_N, st_A, st_B, st_i, st_s, st_j, st_pN, st_pA, st_pB, st_ps, st_rN, st_rA, st_rB, les1_at, les2_at, mkN_at, kfN_0, lput_eq, lput_ne, lesN_out, mkN_out]
      refine P_iconst (pc := 32) dX4_cleanTheWashed_32 ?_
      refine P_icmp_ne (tgt := 60) (pc := 33) dX4_cleanTheWashed_33 (by decide) (by first | assumption | (unfold InR; omega)) (by first | assumption | (unfold InR; omega)) (fun c_33 => ?_) (fun c_33 => ?_)
      · refine P_iinc (L' := [(1, vi _), (2, vi _), (0, vr (3 + b))]) (pc := 60) dX4_cleanTheWashed_60 (by decide) 2 rfl rfl ?_
        refine P_goto (tgt := 2) (pc := 63) dX4_cleanTheWashed_63 (by decide) ?_
        refine P_sub (L' := [(0, vr (3 + b)), (1, vi _)]) [2, 0] rfl ?_
        unfold cln1 at ih2
        first
          | (rw [if_neg (by omega)] at ih2
             exact ih2 s2 (by omega) (by omega) hs2)
          | (rw [if_pos (by omega)] at ih2
             exact ih2 _ (by omega) (by omega) mk_ite.1)
      · refine P_aload_n (pc := 36) dX4_cleanTheWashed_36 rfl 1 rfl ?_
        refine P_iload_n (pc := 37) dX4_cleanTheWashed_37 rfl 0 rfl ?_
        refine P_aload_n (pc := 38) dX4_cleanTheWashed_38 rfl 1 rfl ?_
        refine P_getR (pc := 39) dX4_cleanTheWashed_39 fa_RX4_9 (sS_o hb) fS_2 ?_
        refine P_iload_n (pc := 42) dX4_cleanTheWashed_42 rfl 0 rfl ?_
        refine P_bipush (pc := 43) dX4_cleanTheWashed_43 (by decide) ?_
        refine P_iadd (pc := 45) dX4_cleanTheWashed_45 ?_
        refine P_lald (pc := 46) dX4_cleanTheWashed_46 (sS_22 hb) (by omega) (by omega) (by decide) ?_
        try simp (disch := omega) only [st_N, st_A, st_B, st_i, st_s, st_j, st_pN, st_pA, st_pB, st_ps, st_rN, st_rA, st_rB, les1_at, les2_at, mkN_at, kfN_0, lput_eq, lput_ne, lesN_out, mkN_out]
        refine P_callVv (Y' := mX4_makeClean) (as := [_, _]) (pc := 47) dX4_cleanTheWashed_47 rfl (by decide : 0 < 1) (sS_o hb) rfl ml_RX4_112 im_X4_makeClean se_X4_makeClean mk_X4_makeClean (Nat.le_of_ble_eq_true rfl) (c_X4_makeClean hb (by omega) hs2) (fun μ_ hq => ?_)
        subst hq
        try simp (disch := omega) only [st_N, st_A, st_B, st_i, st_s, st_j, st_pN, st_pA, st_pB, st_ps, st_rN, st_rA, st_rB, les1_at, les2_at, mkN_at, kfN_0, lput_eq, lput_ne, lesN_out, mkN_out]
        refine P_aload_n (pc := 50) dX4_cleanTheWashed_50 rfl 1 rfl ?_
        refine P_getR (pc := 51) dX4_cleanTheWashed_51 fa_RX4_9 (sS_o hb) fS_2 ?_
        refine P_iload_n (pc := 54) dX4_cleanTheWashed_54 rfl 0 rfl ?_
        refine P_bipush (pc := 55) dX4_cleanTheWashed_55 (by decide) ?_
        refine P_iadd (pc := 57) dX4_cleanTheWashed_57 ?_
        refine P_lconst (b := 0#64) (pc := 58) dX4_cleanTheWashed_58 rfl ?_
        refine P_last (pc := 59) dX4_cleanTheWashed_59 (sS_22 hb) (by omega) (by omega) (by decide) ?_
        try simp (disch := omega) only [st_N, st_A, st_B, st_i, st_s, st_j, st_pN, st_pA, st_pB, st_ps, st_rN, st_rA, st_rB, les1_at, les2_at, mkN_at, kfN_0, lput_eq, lput_ne, lesN_out, mkN_out]
        refine P_iinc (L' := [(1, vi _), (2, vi _), (0, vr (3 + b))]) (pc := 60) dX4_cleanTheWashed_60 (by decide) 2 rfl rfl ?_
        refine P_goto (tgt := 2) (pc := 63) dX4_cleanTheWashed_63 (by decide) ?_
        refine P_sub (L' := [(0, vr (3 + b)), (1, vi _)]) [2, 0] rfl ?_
        unfold cln1 at ih2
        first
          | (rw [if_neg (by omega)] at ih2
             exact ih2 s2 (by omega) (by omega) hs2)
          | (rw [if_pos (by omega)] at ih2
             exact ih2 _ (by omega) (by omega) mk_ite.1)
set_option maxHeartbeats 1000000 in
set_option maxRecDepth 100000 in
theorem c_X4_cleanTheWashed {μ : Mem} {b : Nat} {N A B : Pl} {s : Int} {K : Cel} (hb : b < 2) (hR : KR K μ) (hK : KOK K) (hs : s = 0 ∨ s = 1) : PC shC 1 mX4_cleanTheWashed [vr (3 + b)] (stM μ b N A B s) (QV (fun μ' => ∃ s' : Int, (s' = 0 ∨ s' = 1) ∧ μ' = stM μ b (clnN K N) A B s')) := by
  refine PC.of (by decide +kernel) (Nat.le_of_ble_eq_true rfl) ?_
  refine P_sub (L' := [(0, vr (3 + b))]) [0] rfl ?_
  refine P_iconst (pc := 0) dX4_cleanTheWashed_0 ?_
  refine P_istore_n (L' := [(1, vi _), (0, vr (3 + b))]) (pc := 1) dX4_cleanTheWashed_1 rfl (by decide) rfl ?_
  refine P_sub (L' := [(0, vr (3 + b)), (1, vi _)]) [1, 0] rfl ?_
  exact l_X4_clean (s := s) hb hR hK ((K 0 11).toNat + 1) 0 0 s rfl (Nat.zero_le _) (by omega) hs
set_option maxHeartbeats 1000000 in
set_option maxRecDepth 100000 in
theorem l_X4_spring2 {μ : Mem} {b : Nat} {N A B : Pl} {s : Int} {K : Cel} {t d : Int} {sn : Nat} {w : BitVec 64} (hb : b < 2) (hR : KR K μ) (hK : KOK K) (ht : 0 ≤ t ∧ t < 12) (hd : 1 ≤ d ∧ d ≤ 4) (hn : sn ≤ 20) (hs : s = 0 ∨ s = 1) : ∀ (n : Nat) (k : Int), 0 ≤ k ∧ k ≤ 5 → (5 - k).toNat < n → PW shC 2 mX4_spring 51 [(0, vr (3 + b)), (1, vi t), (2, vi d), (3, vl w), (5, vi (sn : Int)), (6, vi k)] [] (stM μ b N A (spB (spA B d 4) sn k) s) (QV (fun μ' => ∃ (B' : Pl) (s' : Int), (s' = 0 ∨ s' = 1) ∧ μ' = stM μ b (sprN K N t d sn w) A B' s')) := by
  intro n
  induction n with
  | zero => intro k _ q; omega
  | succ n ih =>
  intro k hk hn2
  have d1 := wdiv (w := (sn : Int)) (n := k.toNat) (by omega) (by omega)
  have gb : (((sn : Int) / 2 ^ k.toNat).toNat &&& (1 : Int).toNat : Nat) = if sn.testBit k.toNat = true then 1 else 0 := by rw [oneT, wbit (by omega) hk.1]; rfl
  refine P_iload (pc := 51) dX4_spring_51 5 rfl ?_
  refine P_iconst (pc := 53) dX4_spring_53 ?_
  refine P_icmp_ge (tgt := 90) (pc := 54) dX4_spring_54 (by decide) (by first | assumption | (unfold InR; omega) | (rw [gb]; unfold InR; split <;> omega)) (by first | assumption | (unfold InR; omega) | (rw [gb]; unfold InR; split <;> omega)) (fun c_54 => ?_) (fun c_54 => ?_)
  · refine P_iload_n (pc := 90) dX4_spring_90 rfl 1 rfl ?_
    refine P_bipush (pc := 91) dX4_spring_91 (by decide) ?_
    refine P_imul (pc := 93) dX4_spring_93 ?_
    refine P_istore (L' := [(6, vi _), (0, vr (3 + b)), (1, vi _), (2, vi _), (3, vl _), (5, vi _)]) (pc := 94) dX4_spring_94 (by decide) rfl ?_
    refine P_aload_n (pc := 96) dX4_spring_96 rfl 1 rfl ?_
    refine P_iload (pc := 97) dX4_spring_97 0 rfl ?_
    refine P_aload_n (pc := 99) dX4_spring_99 rfl 1 rfl ?_
    refine P_getR (pc := 100) dX4_spring_100 fa_RX4_31 (sS_o hb) fS_8 ?_
    refine P_iconst (pc := 103) dX4_spring_103 ?_
    refine P_lload_n (pc := 104) dX4_spring_104 rfl 4 rfl ?_
    refine P_callVl (Y' := mX4_lessen) (as := [_, _, _, _]) (pc := 105) dX4_spring_105 rfl (by decide : 0 < 2) (sS_o hb) rfl ml_RX4_148 im_X4_lessen se_X4_lessen mk_X4_lessen (Nat.le_of_ble_eq_true rfl) (c_X4_lessenB hb (by omega) rfl) (fun z_ μ_ hq => ?_)
    obtain ⟨hz, hμ_⟩ := hq
    subst hμ_
    try simp (disch := omega) only [st_N, st_A, st_B, st_i, st_s, st_j, st_pN, st_pA, st_pB, st_ps, st_rN, st_rA, st_rB, les1_at, les2_at, mkN_at, kfN_0, lput_eq, lput_ne, lesN_out, mkN_out]
    refine P_pop2_2 (pc := 108) dX4_spring_108 rfl ?_
    refine P_aload_n (pc := 109) dX4_spring_109 rfl 1 rfl ?_
    refine P_getR (pc := 110) dX4_spring_110 fa_RX4_9 (sS_o hb) fS_2 ?_
    refine P_iload (pc := 113) dX4_spring_113 0 rfl ?_
    refine P_bipush (pc := 115) dX4_spring_115 (by decide) ?_
    refine P_iadd (pc := 117) dX4_spring_117 ?_
    refine P_dup2_11 (pc := 118) dX4_spring_118 rfl rfl ?_
    refine P_lald (pc := 119) dX4_spring_119 (sS_22 hb) (by omega) (by omega) (by decide) ?_
    try simp (disch := omega) only [st_N, st_A, st_B, st_i, st_s, st_j, st_pN, st_pA, st_pB, st_ps, st_rN, st_rA, st_rB, les1_at, les2_at, mkN_at, kfN_0, lput_eq, lput_ne, lesN_out, mkN_out]
    refine P_lload_n (pc := 120) dX4_spring_120 rfl 4 rfl ?_
    refine P_ldc2 (b := BitVec.allOnes 64) (pc := 121) dX4_spring_121 kl_RX4_63 (by decide +kernel) ?_
    refine P_lnot (pc := 124) dX4_spring_124 ?_
    refine P_land (pc := 125) dX4_spring_125 ?_
    refine P_last (pc := 126) dX4_spring_126 (sS_22 hb) (by omega) (by omega) (by decide) ?_
    try simp (disch := omega) only [st_N, st_A, st_B, st_i, st_s, st_j, st_pN, st_pA, st_pB, st_ps, st_rN, st_rA, st_rB, les1_at, les2_at, mkN_at, kfN_0, lput_eq, lput_ne, lesN_out, mkN_out]
    refine P_aload_n (pc := 127) dX4_spring_127 rfl 1 rfl ?_
    refine P_lload_n (pc := 128) dX4_spring_128 rfl 4 rfl ?_
    refine P_callVv (Y' := mX4_shareAmongJoined) (as := [_]) (pc := 129) dX4_spring_129 rfl (by decide : 1 < 2) (sS_o hb) rfl ml_RX4_137 im_X4_shareAmongJoined se_X4_shareAmongJoined mk_X4_shareAmongJoined (Nat.le_of_ble_eq_true rfl) (c_X4_shareAmongJoined hb hR hK (by split <;> omega)) (fun μ_ hq => ?_)
    obtain ⟨s_, hs_, -, hμ_⟩ := hq
    subst hμ_
    try simp (disch := omega) only [st_N, st_A, st_B, st_i, st_s, st_j, st_pN, st_pA, st_pB, st_ps, st_rN, st_rA, st_rB, les1_at, les2_at, mkN_at, kfN_0, lput_eq, lput_ne, lesN_out, mkN_out]
    exact P_vret (pc := 132) dX4_spring_132 rfl (QV.mk (by first | (exfalso; omega) | (have e9 : k = 5 := (by omega); subst e9; refine ⟨_, _, hs_, st_ext ?_ rfl rfl rfl⟩; unfold sprN; rw [lesN_congr (F := spB (spA B d 4) sn 5) (F' := spF d sn) (fun i h0 h1 => by rw [Int.zero_add]; exact spF_e i h0 h1)])))
  · refine P_aload_n (pc := 57) dX4_spring_57 rfl 0 rfl ?_
    refine P_getR (pc := 58) dX4_spring_58 fa_RX4_31 (sS_o hb) fS_8 ?_
    refine P_iconst (pc := 61) dX4_spring_61 ?_
    refine P_iload (pc := 62) dX4_spring_62 5 rfl ?_
    refine P_iadd (pc := 64) dX4_spring_64 ?_
    refine P_iload (pc := 65) dX4_spring_65 4 rfl ?_
    refine P_iload (pc := 67) dX4_spring_67 5 rfl ?_
    refine P_iushr (pc := 69) dX4_spring_69 (wI_ushr (by omega) (by omega) (by omega) (by omega)) ?_
    refine P_iconst (pc := 70) dX4_spring_70 ?_
    refine P_iand (pc := 71) dX4_spring_71 (wI_and d1.1 d1.2 (by omega) (by omega)) ?_
    refine P_iconst (pc := 72) dX4_spring_72 ?_
    refine P_icmp_ne (tgt := 82) (pc := 73) dX4_spring_73 (by decide) (by first | assumption | (unfold InR; omega) | (rw [gb]; unfold InR; split <;> omega)) (by first | assumption | (unfold InR; omega) | (rw [gb]; unfold InR; split <;> omega)) (fun c_73 => ?_) (fun c_73 => ?_)
    · refine P_lconst (b := 0#64) (pc := 82) dX4_spring_82 rfl ?_
      refine P_last (pc := 83) dX4_spring_83 (sS_28 hb) (by omega) (by omega) (by decide) ?_
      try simp (disch := omega) only [st_N, st_A, st_B, st_i, st_s, st_j, st_pN, st_pA, st_pB, st_ps, st_rN, st_rA, st_rB, les1_at, les2_at, mkN_at, kfN_0, lput_eq, lput_ne, lesN_out, mkN_out]
      refine P_iinc (L' := [(6, vi _), (0, vr (3 + b)), (1, vi _), (2, vi _), (3, vl _), (5, vi _)]) (pc := 84) dX4_spring_84 (by decide) 5 rfl rfl ?_
      refine P_goto (tgt := 51) (pc := 87) dX4_spring_87 (by decide) ?_
      refine P_sub (L' := [(0, vr (3 + b)), (1, vi _), (2, vi _), (3, vl _), (5, vi _), (6, vi _)]) [1, 2, 3, 4, 5, 0] rfl ?_
      rw [gb] at c_73
      first
        | (have e : sn.testBit k.toNat = true := (by clear ih d1; grind)
           rw [spB_s hk.1 (by rw [if_pos e])]
           exact ih (k + 1) (by omega) (by omega))
        | (have e : ¬ sn.testBit k.toNat = true := (by clear ih d1; grind)
           rw [spB_s hk.1 (by rw [if_neg e])]
           exact ih (k + 1) (by omega) (by omega))
    · refine P_ldc2 (b := BitVec.allOnes 64) (pc := 76) dX4_spring_76 kl_RX4_63 (by decide +kernel) ?_
      refine P_goto (tgt := 83) (pc := 79) dX4_spring_79 (by decide) ?_
      refine P_last (pc := 83) dX4_spring_83 (sS_28 hb) (by omega) (by omega) (by decide) ?_
      try simp (disch := omega) only [st_N, st_A, st_B, st_i, st_s, st_j, st_pN, st_pA, st_pB, st_ps, st_rN, st_rA, st_rB, les1_at, les2_at, mkN_at, kfN_0, lput_eq, lput_ne, lesN_out, mkN_out]
      refine P_iinc (L' := [(6, vi _), (0, vr (3 + b)), (1, vi _), (2, vi _), (3, vl _), (5, vi _)]) (pc := 84) dX4_spring_84 (by decide) 5 rfl rfl ?_
      refine P_goto (tgt := 51) (pc := 87) dX4_spring_87 (by decide) ?_
      refine P_sub (L' := [(0, vr (3 + b)), (1, vi _), (2, vi _), (3, vl _), (5, vi _), (6, vi _)]) [1, 2, 3, 4, 5, 0] rfl ?_
      rw [gb] at c_73
      first
        | (have e : sn.testBit k.toNat = true := (by clear ih d1; grind)
           rw [spB_s hk.1 (by rw [if_pos e])]
           exact ih (k + 1) (by omega) (by omega))
        | (have e : ¬ sn.testBit k.toNat = true := (by clear ih d1; grind)
           rw [spB_s hk.1 (by rw [if_neg e])]
           exact ih (k + 1) (by omega) (by omega))
set_option maxHeartbeats 1000000 in
set_option maxRecDepth 100000 in
theorem l_X4_spring1 {μ : Mem} {b : Nat} {N A B : Pl} {s : Int} {K : Cel} {t d : Int} {sn : Nat} {w : BitVec 64} (hb : b < 2) (hR : KR K μ) (hK : KOK K) (ht : 0 ≤ t ∧ t < 12) (hd : 1 ≤ d ∧ d ≤ 4) (hn : sn ≤ 20) (hs : s = 0 ∨ s = 1) : ∀ (n : Nat) (k : Int), 0 ≤ k ∧ k ≤ 4 → (4 - k).toNat < n → PW shC 2 mX4_spring 14 [(0, vr (3 + b)), (1, vi t), (2, vi d), (3, vl w), (5, vi (sn : Int)), (6, vi k)] [] (stM μ b N A (spA B d k) s) (QV (fun μ' => ∃ (B' : Pl) (s' : Int), (s' = 0 ∨ s' = 1) ∧ μ' = stM μ b (sprN K N t d sn w) A B' s')) := by
  intro n
  induction n with
  | zero => intro k _ q; omega
  | succ n ih =>
  intro k hk hn2
  refine P_iload (pc := 14) dX4_spring_14 5 rfl ?_
  refine P_iconst (pc := 16) dX4_spring_16 ?_
  refine P_icmp_ge (tgt := 48) (pc := 17) dX4_spring_17 (by decide) (by first | assumption | (unfold InR; omega) | (rw [gb]; unfold InR; split <;> omega)) (by first | assumption | (unfold InR; omega) | (rw [gb]; unfold InR; split <;> omega)) (fun c_17 => ?_) (fun c_17 => ?_)
  · refine P_iconst (pc := 48) dX4_spring_48 ?_
    refine P_istore (L' := [(6, vi _), (0, vr (3 + b)), (1, vi _), (2, vi _), (3, vl _), (5, vi _)]) (pc := 49) dX4_spring_49 (by decide) rfl ?_
    refine P_sub (L' := [(0, vr (3 + b)), (1, vi _), (2, vi _), (3, vl _), (5, vi _), (6, vi _)]) [1, 2, 3, 4, 5, 0] rfl ?_
    have e9 : k = 4 := (by omega)
    subst e9
    refine P_cast (L' := [(0, vr (3 + b)), (1, vi t), (2, vi d), (3, vl w), (5, vi (sn : Int)), (6, vi 0)]) rfl ?_ (l_X4_spring2 (B := B) hb hR hK ht hd hn hs 6 0 (by omega) (by omega))
    rw [spB_0]
  · refine P_aload_n (pc := 20) dX4_spring_20 rfl 0 rfl ?_
    refine P_getR (pc := 21) dX4_spring_21 fa_RX4_31 (sS_o hb) fS_8 ?_
    refine P_iload (pc := 24) dX4_spring_24 5 rfl ?_
    refine P_iload (pc := 26) dX4_spring_26 5 rfl ?_
    refine P_iconst (pc := 28) dX4_spring_28 ?_
    refine P_iadd (pc := 29) dX4_spring_29 ?_
    refine P_iload_n (pc := 30) dX4_spring_30 rfl 2 rfl ?_
    refine P_icmp_lt (tgt := 40) (pc := 31) dX4_spring_31 (by decide) (by first | assumption | (unfold InR; omega) | (rw [gb]; unfold InR; split <;> omega)) (by first | assumption | (unfold InR; omega) | (rw [gb]; unfold InR; split <;> omega)) (fun c_31 => ?_) (fun c_31 => ?_)
    · refine P_lconst (b := 0#64) (pc := 40) dX4_spring_40 rfl ?_
      refine P_last (pc := 41) dX4_spring_41 (sS_28 hb) (by omega) (by omega) (by decide) ?_
      try simp (disch := omega) only [st_N, st_A, st_B, st_i, st_s, st_j, st_pN, st_pA, st_pB, st_ps, st_rN, st_rA, st_rB, les1_at, les2_at, mkN_at, kfN_0, lput_eq, lput_ne, lesN_out, mkN_out]
      refine P_iinc (L' := [(6, vi _), (0, vr (3 + b)), (1, vi _), (2, vi _), (3, vl _), (5, vi _)]) (pc := 42) dX4_spring_42 (by decide) 5 rfl rfl ?_
      refine P_goto (tgt := 14) (pc := 45) dX4_spring_45 (by decide) ?_
      refine P_sub (L' := [(0, vr (3 + b)), (1, vi _), (2, vi _), (3, vl _), (5, vi _), (6, vi _)]) [1, 2, 3, 4, 5, 0] rfl ?_
      first
        | rw [spA_s hk.1 (by rw [if_pos (by omega)])]
        | rw [spA_s hk.1 (by rw [if_neg (by omega)])]
      exact ih (k + 1) (by omega) (by omega)
    · refine P_ldc2 (b := BitVec.allOnes 64) (pc := 34) dX4_spring_34 kl_RX4_63 (by decide +kernel) ?_
      refine P_goto (tgt := 41) (pc := 37) dX4_spring_37 (by decide) ?_
      refine P_last (pc := 41) dX4_spring_41 (sS_28 hb) (by omega) (by omega) (by decide) ?_
      try simp (disch := omega) only [st_N, st_A, st_B, st_i, st_s, st_j, st_pN, st_pA, st_pB, st_ps, st_rN, st_rA, st_rB, les1_at, les2_at, mkN_at, kfN_0, lput_eq, lput_ne, lesN_out, mkN_out]
      refine P_iinc (L' := [(6, vi _), (0, vr (3 + b)), (1, vi _), (2, vi _), (3, vl _), (5, vi _)]) (pc := 42) dX4_spring_42 (by decide) 5 rfl rfl ?_
      refine P_goto (tgt := 14) (pc := 45) dX4_spring_45 (by decide) ?_
      refine P_sub (L' := [(0, vr (3 + b)), (1, vi _), (2, vi _), (3, vl _), (5, vi _), (6, vi _)]) [1, 2, 3, 4, 5, 0] rfl ?_
      first
        | rw [spA_s hk.1 (by rw [if_pos (by omega)])]
        | rw [spA_s hk.1 (by rw [if_neg (by omega)])]
      exact ih (k + 1) (by omega) (by omega)
set_option maxHeartbeats 1000000 in
set_option maxRecDepth 100000 in
theorem c_X4_spring {μ : Mem} {b : Nat} {N A B : Pl} {s : Int} {K : Cel} {t d : Int} {sn : Nat} {w : BitVec 64} (hb : b < 2) (hR : KR K μ) (hK : KOK K) (ht : 0 ≤ t ∧ t < 12) (hd : 1 ≤ d ∧ d ≤ 4) (hn : sn ≤ 20) (hs : s = 0 ∨ s = 1) : PC shC 2 mX4_spring [vr (3 + b), vi t, vi d, vl w, vi (sn : Int)] (stM μ b N A B s) (QV (fun μ' => ∃ (B' : Pl) (s' : Int), (s' = 0 ∨ s' = 1) ∧ μ' = stM μ b (sprN K N t d sn w) A B' s')) := by
  refine PC.of (by decide +kernel) (Nat.le_of_ble_eq_true rfl) ?_
  refine P_sub (L' := [(0, vr (3 + b)), (1, vi t), (2, vi d), (3, vl w), (5, vi (sn : Int))]) [0, 1, 2, 3, 4] rfl ?_
  refine P_iload_n (pc := 0) dX4_spring_0 rfl 1 rfl ?_
  refine P_if_lt (tgt := 10) (pc := 1) dX4_spring_1 (by decide) (by first | assumption | (unfold InR; omega) | (rw [gb]; unfold InR; split <;> omega)) (fun c_1 => ?_) (fun c_1 => ?_)
  · exact P_vret (pc := 10) dX4_spring_10 rfl (QV.mk (by first | (exfalso; omega) | (have e9 : k = 5 := (by omega); subst e9; refine ⟨_, _, hs_, st_ext ?_ rfl rfl rfl⟩; unfold sprN; rw [lesN_congr (F := spB (spA B d 4) sn 5) (F' := spF d sn) (fun i h0 h1 => by rw [Int.zero_add]; exact spF_e i h0 h1)])))
  · refine P_iload_n (pc := 4) dX4_spring_4 rfl 1 rfl ?_
    refine P_bipush (pc := 5) dX4_spring_5 (by decide) ?_
    refine P_icmp_lt (tgt := 11) (pc := 7) dX4_spring_7 (by decide) (by first | assumption | (unfold InR; omega) | (rw [gb]; unfold InR; split <;> omega)) (by first | assumption | (unfold InR; omega) | (rw [gb]; unfold InR; split <;> omega)) (fun c_7 => ?_) (fun c_7 => ?_)
    · refine P_iconst (pc := 11) dX4_spring_11 ?_
      refine P_istore (L' := [(6, vi _), (0, vr (3 + b)), (1, vi _), (2, vi _), (3, vl _), (5, vi _)]) (pc := 12) dX4_spring_12 (by decide) rfl ?_
      refine P_sub (L' := [(0, vr (3 + b)), (1, vi _), (2, vi _), (3, vl _), (5, vi _), (6, vi _)]) [1, 2, 3, 4, 5, 0] rfl ?_
      refine P_cast (L' := [(0, vr (3 + b)), (1, vi t), (2, vi d), (3, vl w), (5, vi (sn : Int)), (6, vi 0)]) rfl ?_ (l_X4_spring1 (B := B) hb hR hK ht hd hn hs 5 0 (by omega) (by omega))
      rw [spA_0]
    · exact P_vret (pc := 10) dX4_spring_10 rfl (QV.mk (by first | (exfalso; omega) | (have e9 : k = 5 := (by omega); subst e9; refine ⟨_, _, hs_, st_ext ?_ rfl rfl rfl⟩; unfold sprN; rw [lesN_congr (F := spB (spA B d 4) sn 5) (F' := spF d sn) (fun i h0 h1 => by rw [Int.zero_add]; exact spF_e i h0 h1)])))
