theorem mkN_out {N : Pl} {ba k j : Int} {w : BitVec 64} (h : j < ba ∨ ba + k ≤ j) : mkN N ba w k j = N j := if_neg (by omega)
theorem lesN_out {N F : Pl} {pl ba j : Int} {w : BitVec 64} (h : j < ba ∨ ba + 9 ≤ j) : lesN N F pl ba w j = N j := by
  unfold lesN les2
  rw [if_neg (by omega)]
  exact if_neg (by omega)
/-- one joined thing and its partner -/
def wyJ (N : Pl) (w : BitVec 64) (t : Int) : BitVec 64 := w &&& ~~~(N (t * 13 + 11)) &&& ~~~(N (t * 13 + 10)) &&& ~~~(N (t * 13 - 13 + 10)) &&& (N (t * 13 + 3) ||| N (t * 13 - 13 + 3))
def shJ (N : Pl) (wy : BitVec 64) (t : Int) : Pl := lput (lesN (lesN N N (t * 13 - 13) (t * 13) wy) (lesN N N (t * 13 - 13) (t * 13) wy) (t * 13) (t * 13 - 13) wy) (t * 13 - 13 + 12) (N (t * 13 - 13 + 12) &&& ~~~(lesL (lesN N N (t * 13 - 13) (t * 13) wy) (lesN N N (t * 13 - 13) (t * 13) wy) (t * 13) (t * 13 - 13) wy 4))
def shr1 (K : Cel) (w : BitVec 64) (t : Int) (N : Pl) : Pl := if K 2 t = 5 then (if wyJ N w t = 0#64 then N else shJ N (wyJ N w t) t) else N
def shrN (K : Cel) (w : BitVec 64) (N : Pl) : Pl := upN (shr1 K w) 1 (K 0 11 - 1).toNat N
theorem shr1_n {K : Cel} {w : BitVec 64} {t : Int} {N : Pl} (h : ¬ K 2 t = 5) : shr1 K w t N = N := if_neg h
theorem shr1_z {K : Cel} {w : BitVec 64} {t : Int} {N : Pl} (h : wyJ N w t = 0#64) : shr1 K w t N = N := by
  unfold shr1
  rw [if_pos h]
  split <;> rfl
theorem shr1_y {K : Cel} {w : BitVec 64} {t : Int} {N : Pl} (h5 : K 2 t = 5) (h : ¬ wyJ N w t = 0#64) : shr1 K w t N = shJ N (wyJ N w t) t := by
  unfold shr1
  rw [if_pos h5, if_neg h]
theorem shJ_same {N : Pl} {wy : BitVec 64} {t : Int} (h1 : lesL N N (t * 13 - 13) (t * 13) wy 4 = 0#64) (h2 : lesL (lesN N N (t * 13 - 13) (t * 13) wy) (lesN N N (t * 13 - 13) (t * 13) wy) (t * 13) (t * 13 - 13) wy 4 = 0#64) : shJ N wy t = N := by
  have e1 := lesN_same h1
  unfold shJ
  rw [e1] at h2 ⊢
  rw [lesN_same h2, h2]
  refine lput_self ?_
  rw [not_0, BitVec.and_allOnes]
theorem sq_ite {a b : BitVec 64} {s : Int} (h : s = 0 ∨ s = 1) : ((if a = 0#64 then (if b = 0#64 then s else 1) else 1) = 0 ∨ (if a = 0#64 then (if b = 0#64 then s else 1) else 1) = 1) ∧ ((if a = 0#64 then (if b = 0#64 then s else 1) else 1) = 0 → s = 0 ∧ a = 0#64 ∧ b = 0#64) := by
  by_cases ha : a = 0#64
  · rw [if_pos ha]
    by_cases hb : b = 0#64
    · rw [if_pos hb]; exact ⟨h, fun q => ⟨q, ha, hb⟩⟩
    · rw [if_neg hb]; exact ⟨Or.inr rfl, fun q => absurd q (by decide)⟩
  · rw [if_neg ha]; exact ⟨Or.inr rfl, fun q => absurd q (by decide)⟩
set_option maxHeartbeats 1000000 in
set_option maxRecDepth 100000 in
theorem l_X4_makeClean {μ : Mem} {b : Nat} {N A B : Pl} {s : Int} {ba : Int} {w : BitVec 64} (hb : b < 2) (hba : 0 ≤ ba ∧ ba ≤ 143) : ∀ (n : Nat) (k : Int), 0 ≤ k ∧ k ≤ 4 → (4 - k).toNat < n → PW shC 0 mX4_makeClean 34 [(0, vr (3 + b)), (1, vi ba), (2, vl w), (4, vi k)] [] (stM μ b (mkN N ba w k) A B s) (QV (fun μ' => μ' = stM μ b (mkN N ba w 4) A B s)) := by
  intro n
  induction n with
  | zero => intro k _ q; omega
  | succ n ih =>
  intro k hk hn
  refine P_iload (pc := 34) dX4_makeClean_34 3 rfl ?_
  refine P_iconst (pc := 36) dX4_makeClean_36 ?_
  refine P_icmp_ge (tgt := 63) (pc := 37) dX4_makeClean_37 (by decide) (by first | assumption | (unfold InR; omega)) (by first | assumption | (unfold InR; omega)) (fun c_37 => ?_) (fun c_37 => ?_)
  · exact P_vret (pc := 63) dX4_makeClean_63 rfl (QV.mk (by have e9 : k = 4 := (by omega); subst e9; rfl))
  · refine P_aload_n (pc := 40) dX4_makeClean_40 rfl 0 rfl ?_
    refine P_getR (pc := 41) dX4_makeClean_41 fa_RX4_9 (sS_o hb) fS_2 ?_
    refine P_iload_n (pc := 44) dX4_makeClean_44 rfl 1 rfl ?_
    refine P_iload (pc := 45) dX4_makeClean_45 3 rfl ?_
    refine P_iadd (pc := 47) dX4_makeClean_47 ?_
    refine P_dup2_11 (pc := 48) dX4_makeClean_48 rfl rfl ?_
    refine P_lald (pc := 49) dX4_makeClean_49 (sS_22 hb) (by omega) (by omega) (by decide) ?_
    try simp (disch := omega) only [st_N, st_A, st_B, st_i, st_s, st_j, st_pN, st_pA, st_pB, st_ps, st_rN, st_rA, st_rB, les1_at, les2_at, mkN_at, kfN_0, lput_eq, lput_ne, lesN_out, mkN_out]
    refine P_lload_n (pc := 50) dX4_makeClean_50 rfl 2 rfl ?_
    refine P_ldc2 (b := BitVec.allOnes 64) (pc := 51) dX4_makeClean_51 kl_RX4_63 (by decide +kernel) ?_
    refine P_lnot (pc := 54) dX4_makeClean_54 ?_
    refine P_land (pc := 55) dX4_makeClean_55 ?_
    refine P_last (pc := 56) dX4_makeClean_56 (sS_22 hb) (by omega) (by omega) (by decide) ?_
    try simp (disch := omega) only [st_N, st_A, st_B, st_i, st_s, st_j, st_pN, st_pA, st_pB, st_ps, st_rN, st_rA, st_rB, les1_at, les2_at, mkN_at, kfN_0, lput_eq, lput_ne, lesN_out, mkN_out]
    refine P_iinc (L' := [(4, vi _), (0, vr (3 + b)), (1, vi _), (2, vl _)]) (pc := 57) dX4_makeClean_57 (by decide) 3 rfl rfl ?_
    refine P_goto (tgt := 34) (pc := 60) dX4_makeClean_60 (by decide) ?_
    refine P_sub (L' := [(0, vr (3 + b)), (1, vi _), (2, vl _), (4, vi _)]) [1, 2, 3, 0] rfl ?_
    rw [mkN_s hk.1]
    exact ih (k + 1) (by omega) (by omega)
set_option maxHeartbeats 1000000 in
set_option maxRecDepth 100000 in
theorem c_X4_makeClean {μ : Mem} {b : Nat} {N A B : Pl} {s : Int} {ba : Int} {w : BitVec 64} (hb : b < 2) (hba : 0 ≤ ba ∧ ba ≤ 143) (hs : s = 0 ∨ s = 1) : PC shC 0 mX4_makeClean [vr (3 + b), vi ba, vl w] (stM μ b N A B s) (QV (fun μ' => μ' = stM μ b (mkN N ba w 4) A B (if s ≠ 0 ∨ N (ba + 3) &&& w ≠ 0#64 then 1 else 0))) := by
  refine PC.of (by decide +kernel) (Nat.le_of_ble_eq_true rfl) ?_
  refine P_sub (L' := [(0, vr (3 + b)), (1, vi ba), (2, vl w)]) [0, 1, 2] rfl ?_
  refine P_aload_n (pc := 0) dX4_makeClean_0 rfl 0 rfl ?_
  refine P_aload_n (pc := 1) dX4_makeClean_1 rfl 0 rfl ?_
  refine P_getI (jj := 10) (pc := 2) dX4_makeClean_2 fa_RX4_144 (sS_o hb) fS_10 rfl ?_
  try simp (disch := omega) only [st_N, st_A, st_B, st_i, st_s, st_j, st_pN, st_pA, st_pB, st_ps, st_rN, st_rA, st_rB, les1_at, les2_at, mkN_at, kfN_0, lput_eq, lput_ne, lesN_out, mkN_out]
  refine P_if_ne (tgt := 23) (pc := 5) dX4_makeClean_5 (by decide) (by first | assumption | (unfold InR; omega)) (fun c_5 => ?_) (fun c_5 => ?_)
  · refine P_iconst (pc := 23) dX4_makeClean_23 ?_
    refine P_goto (tgt := 28) (pc := 24) dX4_makeClean_24 (by decide) ?_
    refine P_putZ (jj := 10) (pc := 28) dX4_makeClean_28 fa_RX4_144 fp_4_10 (sS_o hb) fS_10 rfl (by omega) ?_
    try simp (disch := omega) only [st_N, st_A, st_B, st_i, st_s, st_j, st_pN, st_pA, st_pB, st_ps, st_rN, st_rA, st_rB, les1_at, les2_at, mkN_at, kfN_0, lput_eq, lput_ne, lesN_out, mkN_out]
    refine P_iconst (pc := 31) dX4_makeClean_31 ?_
    refine P_istore (L' := [(4, vi _), (0, vr (3 + b)), (1, vi _), (2, vl _)]) (pc := 32) dX4_makeClean_32 (by decide) rfl ?_
    refine P_sub (L' := [(0, vr (3 + b)), (1, vi _), (2, vl _), (4, vi _)]) [1, 2, 3, 0] rfl ?_
    first
      | rw [if_pos (show s ≠ 0 ∨ N (ba + 3) &&& w ≠ 0#64 from Or.inl c_5)]
      | rw [if_pos (show s ≠ 0 ∨ N (ba + 3) &&& w ≠ 0#64 from Or.inr c_19)]
      | rw [if_neg (show ¬ (s ≠ 0 ∨ N (ba + 3) &&& w ≠ 0#64) from fun h => h.elim (fun h => h c_5) (fun h => h c_19))]
    refine P_cast (L' := [(0, vr (3 + b)), (1, vi ba), (2, vl w), (4, vi 0)]) rfl ?_ (l_X4_makeClean hb hba 5 0 (by omega) (by omega))
    rw [mkN_0]
  · refine P_aload_n (pc := 8) dX4_makeClean_8 rfl 0 rfl ?_
    refine P_getR (pc := 9) dX4_makeClean_9 fa_RX4_9 (sS_o hb) fS_2 ?_
    refine P_iload_n (pc := 12) dX4_makeClean_12 rfl 1 rfl ?_
    refine P_iconst (pc := 13) dX4_makeClean_13 ?_
    refine P_iadd (pc := 14) dX4_makeClean_14 ?_
    refine P_lald (pc := 15) dX4_makeClean_15 (sS_22 hb) (by omega) (by omega) (by decide) ?_
    try simp (disch := omega) only [st_N, st_A, st_B, st_i, st_s, st_j, st_pN, st_pA, st_pB, st_ps, st_rN, st_rA, st_rB, les1_at, les2_at, mkN_at, kfN_0, lput_eq, lput_ne, lesN_out, mkN_out]
    refine P_lload_n (pc := 16) dX4_makeClean_16 rfl 2 rfl ?_
    refine P_land (pc := 17) dX4_makeClean_17 ?_
    refine P_lconst (b := 0#64) (pc := 18) dX4_makeClean_18 rfl ?_
    refine P_lcmp_eq (tgt := 27) (pc := 19) dX4_makeClean_19 dX4_makeClean_20 (by decide) (fun c_19 => ?_) (fun c_19 => ?_)
    · refine P_iconst (pc := 27) dX4_makeClean_27 ?_
      refine P_putZ (jj := 10) (pc := 28) dX4_makeClean_28 fa_RX4_144 fp_4_10 (sS_o hb) fS_10 rfl (by omega) ?_
      try simp (disch := omega) only [st_N, st_A, st_B, st_i, st_s, st_j, st_pN, st_pA, st_pB, st_ps, st_rN, st_rA, st_rB, les1_at, les2_at, mkN_at, kfN_0, lput_eq, lput_ne, lesN_out, mkN_out]
      refine P_iconst (pc := 31) dX4_makeClean_31 ?_
      refine P_istore (L' := [(4, vi _), (0, vr (3 + b)), (1, vi _), (2, vl _)]) (pc := 32) dX4_makeClean_32 (by decide) rfl ?_
      refine P_sub (L' := [(0, vr (3 + b)), (1, vi _), (2, vl _), (4, vi _)]) [1, 2, 3, 0] rfl ?_
      first
        | rw [if_pos (show s ≠ 0 ∨ N (ba + 3) &&& w ≠ 0#64 from Or.inl c_5)]
        | rw [if_pos (show s ≠ 0 ∨ N (ba + 3) &&& w ≠ 0#64 from Or.inr c_19)]
        | rw [if_neg (show ¬ (s ≠ 0 ∨ N (ba + 3) &&& w ≠ 0#64) from fun h => h.elim (fun h => h c_5) (fun h => h c_19))]
      refine P_cast (L' := [(0, vr (3 + b)), (1, vi ba), (2, vl w), (4, vi 0)]) rfl ?_ (l_X4_makeClean hb hba 5 0 (by omega) (by omega))
      rw [mkN_0]
    · refine P_iconst (pc := 23) dX4_makeClean_23 ?_
      refine P_goto (tgt := 28) (pc := 24) dX4_makeClean_24 (by decide) ?_
      refine P_putZ (jj := 10) (pc := 28) dX4_makeClean_28 fa_RX4_144 fp_4_10 (sS_o hb) fS_10 rfl (by omega) ?_
      try simp (disch := omega) only [st_N, st_A, st_B, st_i, st_s, st_j, st_pN, st_pA, st_pB, st_ps, st_rN, st_rA, st_rB, les1_at, les2_at, mkN_at, kfN_0, lput_eq, lput_ne, lesN_out, mkN_out]
      refine P_iconst (pc := 31) dX4_makeClean_31 ?_
      refine P_istore (L' := [(4, vi _), (0, vr (3 + b)), (1, vi _), (2, vl _)]) (pc := 32) dX4_makeClean_32 (by decide) rfl ?_
      refine P_sub (L' := [(0, vr (3 + b)), (1, vi _), (2, vl _), (4, vi _)]) [1, 2, 3, 0] rfl ?_
      first
        | rw [if_pos (show s ≠ 0 ∨ N (ba + 3) &&& w ≠ 0#64 from Or.inl c_5)]
        | rw [if_pos (show s ≠ 0 ∨ N (ba + 3) &&& w ≠ 0#64 from Or.inr c_19)]
        | rw [if_neg (show ¬ (s ≠ 0 ∨ N (ba + 3) &&& w ≠ 0#64) from fun h => h.elim (fun h => h c_5) (fun h => h c_19))]
      refine P_cast (L' := [(0, vr (3 + b)), (1, vi ba), (2, vl w), (4, vi 0)]) rfl ?_ (l_X4_makeClean hb hba 5 0 (by omega) (by omega))
      rw [mkN_0]
set_option maxHeartbeats 1000000 in
set_option maxRecDepth 100000 in
theorem l_X4_kfdA {μ : Mem} {b : Nat} {N A B : Pl} {s : Int} (hb : b < 2) : ∀ (n : Nat) (k : Int), 1 ≤ k ∧ k ≤ 4 → (4 - k).toNat < n → PW shC 0 mX4_keepFirstDegree 2 [(0, vr (27 + 7 * b)), (1, vi k)] [] (stM μ b N (kfN A k) B s) (QV (fun μ' => μ' = stM μ b N (kfN A 4) B s)) := by
  intro n
  induction n with
  | zero => intro k _ q; omega
  | succ n ih =>
  intro k hk hn
  refine P_iload_n (pc := 2) dX4_keepFirstDegree_2 rfl 1 rfl ?_
  refine P_iconst (pc := 3) dX4_keepFirstDegree_3 ?_
  refine P_icmp_ge (tgt := 19) (pc := 4) dX4_keepFirstDegree_4 (by decide) (by first | assumption | (unfold InR; omega)) (by first | assumption | (unfold InR; omega)) (fun c_4 => ?_) (fun c_4 => ?_)
  · exact P_vret (pc := 19) dX4_keepFirstDegree_19 rfl (QV.mk (by have e9 : k = 4 := (by omega); subst e9; rfl))
  · refine P_aload_n (pc := 7) dX4_keepFirstDegree_7 rfl 0 rfl ?_
    refine P_iload_n (pc := 8) dX4_keepFirstDegree_8 rfl 1 rfl ?_
    refine P_aload_n (pc := 9) dX4_keepFirstDegree_9 rfl 0 rfl ?_
    refine P_iconst (pc := 10) dX4_keepFirstDegree_10 ?_
    refine P_lald (pc := 11) dX4_keepFirstDegree_11 (sS_27 hb) (by omega) (by omega) (by decide) ?_
    try simp (disch := omega) only [st_N, st_A, st_B, st_i, st_s, st_j, st_pN, st_pA, st_pB, st_ps, st_rN, st_rA, st_rB, les1_at, les2_at, mkN_at, kfN_0, lput_eq, lput_ne, lesN_out, mkN_out]
    refine P_last (pc := 12) dX4_keepFirstDegree_12 (sS_27 hb) (by omega) (by omega) (by decide) ?_
    try simp (disch := omega) only [st_N, st_A, st_B, st_i, st_s, st_j, st_pN, st_pA, st_pB, st_ps, st_rN, st_rA, st_rB, les1_at, les2_at, mkN_at, kfN_0, lput_eq, lput_ne, lesN_out, mkN_out]
    refine P_iinc (L' := [(1, vi _), (0, vr (27 + 7 * b))]) (pc := 13) dX4_keepFirstDegree_13 (by decide) 1 rfl rfl ?_
    refine P_goto (tgt := 2) (pc := 16) dX4_keepFirstDegree_16 (by decide) ?_
    refine P_sub (L' := [(0, vr (27 + 7 * b)), (1, vi _)]) [1, 0] rfl ?_
    rw [kfN_s hk.1]
    exact ih (k + 1) (by omega) (by omega)
set_option maxHeartbeats 1000000 in
set_option maxRecDepth 100000 in
theorem c_X4_kfdA {μ : Mem} {b : Nat} {N A B : Pl} {s : Int} (hb : b < 2)  : PC shC 0 mX4_keepFirstDegree [vr (27 + 7 * b)] (stM μ b N A B s) (QV (fun μ' => μ' = stM μ b N (kfN A 4) B s)) := by
  refine PC.of (by decide +kernel) (Nat.le_of_ble_eq_true rfl) ?_
  refine P_sub (L' := [(0, vr (27 + 7 * b))]) [0] rfl ?_
  refine P_iconst (pc := 0) dX4_keepFirstDegree_0 ?_
  refine P_istore_n (L' := [(1, vi _), (0, vr (27 + 7 * b))]) (pc := 1) dX4_keepFirstDegree_1 rfl (by decide) rfl ?_
  refine P_sub (L' := [(0, vr (27 + 7 * b)), (1, vi _)]) [1, 0] rfl ?_
  refine P_cast (L' := [(0, vr (27 + 7 * b)), (1, vi 1)]) rfl ?_ (l_X4_kfdA hb 4 1 (by omega) (by omega))
  rw [kfN_1]
set_option maxHeartbeats 1000000 in
set_option maxRecDepth 100000 in
theorem l_X4_kfdB {μ : Mem} {b : Nat} {N A B : Pl} {s : Int} (hb : b < 2) : ∀ (n : Nat) (k : Int), 1 ≤ k ∧ k ≤ 4 → (4 - k).toNat < n → PW shC 0 mX4_keepFirstDegree 2 [(0, vr (28 + 7 * b)), (1, vi k)] [] (stM μ b N A (kfN B k) s) (QV (fun μ' => μ' = stM μ b N A (kfN B 4) s)) := by
  intro n
  induction n with
  | zero => intro k _ q; omega
  | succ n ih =>
  intro k hk hn
  refine P_iload_n (pc := 2) dX4_keepFirstDegree_2 rfl 1 rfl ?_
  refine P_iconst (pc := 3) dX4_keepFirstDegree_3 ?_
  refine P_icmp_ge (tgt := 19) (pc := 4) dX4_keepFirstDegree_4 (by decide) (by first | assumption | (unfold InR; omega)) (by first | assumption | (unfold InR; omega)) (fun c_4 => ?_) (fun c_4 => ?_)
  · exact P_vret (pc := 19) dX4_keepFirstDegree_19 rfl (QV.mk (by have e9 : k = 4 := (by omega); subst e9; rfl))
  · refine P_aload_n (pc := 7) dX4_keepFirstDegree_7 rfl 0 rfl ?_
    refine P_iload_n (pc := 8) dX4_keepFirstDegree_8 rfl 1 rfl ?_
    refine P_aload_n (pc := 9) dX4_keepFirstDegree_9 rfl 0 rfl ?_
    refine P_iconst (pc := 10) dX4_keepFirstDegree_10 ?_
    refine P_lald (pc := 11) dX4_keepFirstDegree_11 (sS_28 hb) (by omega) (by omega) (by decide) ?_
    try simp (disch := omega) only [st_N, st_A, st_B, st_i, st_s, st_j, st_pN, st_pA, st_pB, st_ps, st_rN, st_rA, st_rB, les1_at, les2_at, mkN_at, kfN_0, lput_eq, lput_ne, lesN_out, mkN_out]
    refine P_last (pc := 12) dX4_keepFirstDegree_12 (sS_28 hb) (by omega) (by omega) (by decide) ?_
    try simp (disch := omega) only [st_N, st_A, st_B, st_i, st_s, st_j, st_pN, st_pA, st_pB, st_ps, st_rN, st_rA, st_rB, les1_at, les2_at, mkN_at, kfN_0, lput_eq, lput_ne, lesN_out, mkN_out]
    refine P_iinc (L' := [(1, vi _), (0, vr (28 + 7 * b))]) (pc := 13) dX4_keepFirstDegree_13 (by decide) 1 rfl rfl ?_
    refine P_goto (tgt := 2) (pc := 16) dX4_keepFirstDegree_16 (by decide) ?_
    refine P_sub (L' := [(0, vr (28 + 7 * b)), (1, vi _)]) [1, 0] rfl ?_
    rw [kfN_s hk.1]
    exact ih (k + 1) (by omega) (by omega)
set_option maxHeartbeats 1000000 in
set_option maxRecDepth 100000 in
theorem c_X4_kfdB {μ : Mem} {b : Nat} {N A B : Pl} {s : Int} (hb : b < 2)  : PC shC 0 mX4_keepFirstDegree [vr (28 + 7 * b)] (stM μ b N A B s) (QV (fun μ' => μ' = stM μ b N A (kfN B 4) s)) := by
  refine PC.of (by decide +kernel) (Nat.le_of_ble_eq_true rfl) ?_
  refine P_sub (L' := [(0, vr (28 + 7 * b))]) [0] rfl ?_
  refine P_iconst (pc := 0) dX4_keepFirstDegree_0 ?_
  refine P_istore_n (L' := [(1, vi _), (0, vr (28 + 7 * b))]) (pc := 1) dX4_keepFirstDegree_1 rfl (by decide) rfl ?_
  refine P_sub (L' := [(0, vr (28 + 7 * b)), (1, vi _)]) [1, 0] rfl ?_
  refine P_cast (L' := [(0, vr (28 + 7 * b)), (1, vi 1)]) rfl ?_ (l_X4_kfdB hb 4 1 (by omega) (by omega))
  rw [kfN_1]
set_option maxHeartbeats 1000000 in
set_option maxRecDepth 100000 in
theorem l_X4_share {μ : Mem} {b : Nat} {N A B : Pl} {s : Int} {K : Cel} {w : BitVec 64} (hb : b < 2) (hR : KR K μ) (hK : KOK K) : ∀ (n m : Nat) (t s2 : Int), t = (m : Int) + 1 → m ≤ (K 0 11 - 1).toNat → (K 0 11 - 1).toNat - m < n → (s2 = 0 ∨ s2 = 1) → (s2 = 0 → s = 0 ∧ upN (shr1 K w) 1 m N = N) → PW shC 1 mX4_shareAmongJoined 2 [(0, vr (3 + b)), (1, vl w), (3, vi t)] [] (stM μ b (upN (shr1 K w) 1 m N) A B s2) (QV (fun μ' => ∃ s' : Int, (s' = 0 ∨ s' = 1) ∧ (s' = 0 → s = 0 ∧ shrN K w N = N) ∧ μ' = stM μ b (shrN K w N) A B s')) := by
  intro n
  induction n with
  | zero => intro m t s2 _ _ q; omega
  | succ n ih =>
  intro m t s2 ht hm hn hs2 hq2
  have hK1 := hK.1
  have hK2 := hK.2.2.1 t
  have hs := upN_s (shr1 K w) 1 m N
  rw [show (1 : Int) + (m : Int) = t by omega] at hs
  have ih2 := fun s3 => ih (m + 1) (t + 1) s3 (by omega)
  rw [hs] at ih2
  generalize hNm : upN (shr1 K w) 1 m N = Nm at ih2 hq2 ⊢
  clear ih
  refine P_iload_n (pc := 2) dX4_shareAmongJoined_2 rfl 2 rfl ?_
  refine P_aload_n (pc := 3) dX4_shareAmongJoined_3 rfl 0 rfl ?_
  refine P_getR (pc := 4) dX4_shareAmongJoined_4 fa_RX4_38 (sS_o hb) fS_0 ?_
  refine P_getI (jj := 6) (pc := 7) dX4_shareAmongJoined_7 fa_RX4_105 sC_1 fC1_6 rfl ?_
  try simp (disch := omega) only [st_N, st_A, st_B, st_i, st_s, st_j, st_pN, st_pA, st_pB, st_ps, st_rN, st_rA, st_rB, les1_at, les2_at, mkN_at, kfN_0, lput_eq, lput_ne, lesN_out, mkN_out]
  rw [hR.1.1]
  refine P_icmp_ge (tgt := 175) (pc := 10) dX4_shareAmongJoined_10 (by decide) (by first | assumption | (unfold InR; omega)) (by first | assumption | (unfold InR; omega)) (fun c_10 => ?_) (fun c_10 => ?_)
  · exact P_vret (pc := 175) dX4_shareAmongJoined_175 rfl (QV.mk (by have e9 : m = (K 0 11 - 1).toNat := (by omega); unfold shrN; rw [← e9, hNm]; exact ⟨s2, hs2, hq2, rfl⟩))
  · refine P_iload_n (pc := 13) dX4_shareAmongJoined_13 rfl 2 rfl ?_
    refine P_bipush (pc := 14) dX4_shareAmongJoined_14 (by decide) ?_
    refine P_icmp_ge (tgt := 175) (pc := 16) dX4_shareAmongJoined_16 (by decide) (by first | assumption | (unfold InR; omega)) (by first | assumption | (unfold InR; omega)) (fun c_16 => ?_) (fun c_16 => ?_)
    · exact P_vret (pc := 175) dX4_shareAmongJoined_175 rfl (QV.mk (by have e9 : m = (K 0 11 - 1).toNat := (by omega); unfold shrN; rw [← e9, hNm]; exact ⟨s2, hs2, hq2, rfl⟩))
    · refine P_aload_n (pc := 19) dX4_shareAmongJoined_19 rfl 0 rfl ?_
      refine P_getR (pc := 20) dX4_shareAmongJoined_20 fa_RX4_38 (sS_o hb) fS_0 ?_
      refine P_iload_n (pc := 23) dX4_shareAmongJoined_23 rfl 2 rfl ?_
      refine P_callVi (Y' := mX3_kindOf) (as := [_]) (pc := 24) dX4_shareAmongJoined_24 rfl (by decide : 0 < 1) sC_1 rfl ml_RX4_108 im_X3_kindOf se_X3_kindOf mk_X3_kindOf (Nat.le_of_ble_eq_true rfl) (c_X3_kindOf (by unfold InR; omega)) (fun z_ μ_ hq => ?_)
      obtain ⟨hz, hμ_⟩ := hq
      subst hμ_
      rw [if_pos (by omega)] at hz
      simp (disch := omega) only [st_i] at hz
      rw [hR.2.1] at hz
      subst hz
      try simp (disch := omega) only [st_N, st_A, st_B, st_i, st_s, st_j, st_pN, st_pA, st_pB, st_ps, st_rN, st_rA, st_rB, les1_at, les2_at, mkN_at, kfN_0, lput_eq, lput_ne, lesN_out, mkN_out]
      refine P_iconst (pc := 27) dX4_shareAmongJoined_27 ?_
      refine P_icmp_ne (tgt := 169) (pc := 28) dX4_shareAmongJoined_28 (by decide) (by first | assumption | (unfold InR; omega)) (by first | assumption | (unfold InR; omega)) (fun c_28 => ?_) (fun c_28 => ?_)
      · refine P_iinc (L' := [(3, vi _), (0, vr (3 + b)), (1, vl _)]) (pc := 169) dX4_shareAmongJoined_169 (by decide) 2 rfl rfl ?_
        refine P_goto (tgt := 2) (pc := 172) dX4_shareAmongJoined_172 (by decide) ?_
        refine P_sub (L' := [(0, vr (3 + b)), (1, vl _), (3, vi _)]) [1, 2, 0] rfl ?_
        first
          | (have h5 : ¬ K 2 t = 5 := by omega
             rw [shr1_n h5] at ih2
             exact ih2 s2 (by omega) (by omega) hs2 hq2)
          | (have hw : wyJ Nm w t = 0#64 := c_119
             rw [shr1_z hw] at ih2
             exact ih2 s2 (by omega) (by omega) hs2 hq2)
          | (have hw : ¬ wyJ Nm w t = 0#64 := c_119
             rw [shr1_y (by omega) hw] at ih2
             refine ih2 _ (by omega) (by omega) (sq_ite hs2).1 (fun h => ?_)
             obtain ⟨g1, g2, g3⟩ := (sq_ite hs2).2 h
             have g4 := hq2 g1
             exact ⟨g4.1, (shJ_same g3 g2).trans g4.2⟩)
      · refine P_iload_n (pc := 31) dX4_shareAmongJoined_31 rfl 2 rfl ?_
        refine P_bipush (pc := 32) dX4_shareAmongJoined_32 (by decide) ?_
        refine P_imul (pc := 34) dX4_shareAmongJoined_34 ?_
        refine P_istore (L' := [(4, vi _), (0, vr (3 + b)), (1, vl _), (3, vi _)]) (pc := 35) dX4_shareAmongJoined_35 (by decide) rfl ?_
        refine P_iload (pc := 37) dX4_shareAmongJoined_37 0 rfl ?_
        refine P_bipush (pc := 39) dX4_shareAmongJoined_39 (by decide) ?_
        refine P_isub (pc := 41) dX4_shareAmongJoined_41 ?_
        refine P_istore (L' := [(5, vi _), (4, vi _), (0, vr (3 + b)), (1, vl _), (3, vi _)]) (pc := 42) dX4_shareAmongJoined_42 (by decide) rfl ?_
        refine P_lload_n (pc := 44) dX4_shareAmongJoined_44 rfl 3 rfl ?_
        refine P_aload_n (pc := 45) dX4_shareAmongJoined_45 rfl 2 rfl ?_
        refine P_getR (pc := 46) dX4_shareAmongJoined_46 fa_RX4_9 (sS_o hb) fS_2 ?_
        refine P_iload (pc := 49) dX4_shareAmongJoined_49 1 rfl ?_
        refine P_bipush (pc := 51) dX4_shareAmongJoined_51 (by decide) ?_
        refine P_iadd (pc := 53) dX4_shareAmongJoined_53 ?_
        refine P_lald (pc := 54) dX4_shareAmongJoined_54 (sS_22 hb) (by omega) (by omega) (by decide) ?_
        try simp (disch := omega) only [st_N, st_A, st_B, st_i, st_s, st_j, st_pN, st_pA, st_pB, st_ps, st_rN, st_rA, st_rB, les1_at, les2_at, mkN_at, kfN_0, lput_eq, lput_ne, lesN_out, mkN_out]
        refine P_ldc2 (b := BitVec.allOnes 64) (pc := 55) dX4_shareAmongJoined_55 kl_RX4_63 (by decide +kernel) ?_
        refine P_lnot (pc := 58) dX4_shareAmongJoined_58 ?_
        refine P_land (pc := 59) dX4_shareAmongJoined_59 ?_
        refine P_aload_n (pc := 60) dX4_shareAmongJoined_60 rfl 2 rfl ?_
        refine P_getR (pc := 61) dX4_shareAmongJoined_61 fa_RX4_9 (sS_o hb) fS_2 ?_
        refine P_iload (pc := 64) dX4_shareAmongJoined_64 1 rfl ?_
        refine P_bipush (pc := 66) dX4_shareAmongJoined_66 (by decide) ?_
        refine P_iadd (pc := 68) dX4_shareAmongJoined_68 ?_
        refine P_lald (pc := 69) dX4_shareAmongJoined_69 (sS_22 hb) (by omega) (by omega) (by decide) ?_
        try simp (disch := omega) only [st_N, st_A, st_B, st_i, st_s, st_j, st_pN, st_pA, st_pB, st_ps, st_rN, st_rA, st_rB, les1_at, les2_at, mkN_at, kfN_0, lput_eq, lput_ne, lesN_out, mkN_out]
        refine P_ldc2 (b := BitVec.allOnes 64) (pc := 70) dX4_shareAmongJoined_70 kl_RX4_63 (by decide +kernel) ?_
        refine P_lnot (pc := 73) dX4_shareAmongJoined_73 ?_
        refine P_land (pc := 74) dX4_shareAmongJoined_74 ?_
        refine P_aload_n (pc := 75) dX4_shareAmongJoined_75 rfl 2 rfl ?_
        refine P_getR (pc := 76) dX4_shareAmongJoined_76 fa_RX4_9 (sS_o hb) fS_2 ?_
        refine P_iload (pc := 79) dX4_shareAmongJoined_79 0 rfl ?_
        refine P_bipush (pc := 81) dX4_shareAmongJoined_81 (by decide) ?_
        refine P_iadd (pc := 83) dX4_shareAmongJoined_83 ?_
        refine P_lald (pc := 84) dX4_shareAmongJoined_84 (sS_22 hb) (by omega) (by omega) (by decide) ?_
        try simp (disch := omega) only [st_N, st_A, st_B, st_i, st_s, st_j, st_pN, st_pA, st_pB, st_ps, st_rN, st_rA, st_rB, les1_at, les2_at, mkN_at, kfN_0, lput_eq, lput_ne, lesN_out, mkN_out]
        refine P_ldc2 (b := BitVec.allOnes 64) (pc := 85) dX4_shareAmongJoined_85 kl_RX4_63 (by decide +kernel) ?_
        refine P_lnot (pc := 88) dX4_shareAmongJoined_88 ?_
        refine P_land (pc := 89) dX4_shareAmongJoined_89 ?_
        refine P_lstore (L' := [(6, vl _), (5, vi _), (4, vi _), (0, vr (3 + b)), (1, vl _), (3, vi _)]) (pc := 90) dX4_shareAmongJoined_90 (by decide) rfl ?_
        refine P_lload (pc := 92) dX4_shareAmongJoined_92 0 rfl ?_
        refine P_aload_n (pc := 94) dX4_shareAmongJoined_94 rfl 3 rfl ?_
        refine P_getR (pc := 95) dX4_shareAmongJoined_95 fa_RX4_9 (sS_o hb) fS_2 ?_
        refine P_iload (pc := 98) dX4_shareAmongJoined_98 2 rfl ?_
        refine P_iconst (pc := 100) dX4_shareAmongJoined_100 ?_
        refine P_iadd (pc := 101) dX4_shareAmongJoined_101 ?_
        refine P_lald (pc := 102) dX4_shareAmongJoined_102 (sS_22 hb) (by omega) (by omega) (by decide) ?_
        try simp (disch := omega) only [st_N, st_A, st_B, st_i, st_s, st_j, st_pN, st_pA, st_pB, st_ps, st_rN, st_rA, st_rB, les1_at, les2_at, mkN_at, kfN_0, lput_eq, lput_ne, lesN_out, mkN_out]
        refine P_aload_n (pc := 103) dX4_shareAmongJoined_103 rfl 3 rfl ?_
        refine P_getR (pc := 104) dX4_shareAmongJoined_104 fa_RX4_9 (sS_o hb) fS_2 ?_
        refine P_iload (pc := 107) dX4_shareAmongJoined_107 1 rfl ?_
        refine P_iconst (pc := 109) dX4_shareAmongJoined_109 ?_
        refine P_iadd (pc := 110) dX4_shareAmongJoined_110 ?_
        refine P_lald (pc := 111) dX4_shareAmongJoined_111 (sS_22 hb) (by omega) (by omega) (by decide) ?_
        try simp (disch := omega) only [st_N, st_A, st_B, st_i, st_s, st_j, st_pN, st_pA, st_pB, st_ps, st_rN, st_rA, st_rB, les1_at, les2_at, mkN_at, kfN_0, lput_eq, lput_ne, lesN_out, mkN_out]
        refine P_lor (pc := 112) dX4_shareAmongJoined_112 ?_
        refine P_land (pc := 113) dX4_shareAmongJoined_113 ?_
        refine P_lstore (L' := [(6, vl _), (5, vi _), (4, vi _), (0, vr (3 + b)), (1, vl _), (3, vi _)]) (pc := 114) dX4_shareAmongJoined_114 (by decide) rfl ?_
        refine P_lload (pc := 116) dX4_shareAmongJoined_116 0 rfl ?_
        refine P_lconst (b := 0#64) (pc := 118) dX4_shareAmongJoined_118 rfl ?_
        refine P_lcmp_eq (tgt := 169) (pc := 119) dX4_shareAmongJoined_119 dX4_shareAmongJoined_120 (by decide) (fun c_119 => ?_) (fun c_119 => ?_)
        · refine P_iinc (L' := [(3, vi _), (6, vl _), (5, vi _), (4, vi _), (0, vr (3 + b)), (1, vl _)]) (pc := 169) dX4_shareAmongJoined_169 (by decide) 5 rfl rfl ?_
          refine P_goto (tgt := 2) (pc := 172) dX4_shareAmongJoined_172 (by decide) ?_
          refine P_sub (L' := [(0, vr (3 + b)), (1, vl _), (3, vi _)]) [4, 5, 0] rfl ?_
          first
            | (have h5 : ¬ K 2 t = 5 := by omega
               rw [shr1_n h5] at ih2
               exact ih2 s2 (by omega) (by omega) hs2 hq2)
            | (have hw : wyJ Nm w t = 0#64 := c_119
               rw [shr1_z hw] at ih2
               exact ih2 s2 (by omega) (by omega) hs2 hq2)
            | (have hw : ¬ wyJ Nm w t = 0#64 := c_119
               rw [shr1_y (by omega) hw] at ih2
               refine ih2 _ (by omega) (by omega) (sq_ite hs2).1 (fun h => ?_)
               obtain ⟨g1, g2, g3⟩ := (sq_ite hs2).2 h
               have g4 := hq2 g1
               exact ⟨g4.1, (shJ_same g3 g2).trans g4.2⟩)
        · refine P_aload_n (pc := 123) dX4_shareAmongJoined_123 rfl 3 rfl ?_
          refine P_iload (pc := 124) dX4_shareAmongJoined_124 2 rfl ?_
          refine P_aload_n (pc := 126) dX4_shareAmongJoined_126 rfl 3 rfl ?_
          refine P_getR (pc := 127) dX4_shareAmongJoined_127 fa_RX4_9 (sS_o hb) fS_2 ?_
          refine P_iload (pc := 130) dX4_shareAmongJoined_130 1 rfl ?_
          refine P_lload (pc := 132) dX4_shareAmongJoined_132 0 rfl ?_
          refine P_callVl (Y' := mX4_lessen) (as := [_, _, _, _]) (pc := 134) dX4_shareAmongJoined_134 rfl (by decide : 0 < 1) (sS_o hb) rfl ml_RX4_148 im_X4_lessen se_X4_lessen mk_X4_lessen (Nat.le_of_ble_eq_true rfl) (c_X4_lessenN hb (by omega) (by omega) (by omega)) (fun z_ μ_ hq => ?_)
          obtain ⟨hz, hμ_⟩ := hq
          subst hμ_
          subst hz
          try simp (disch := omega) only [st_N, st_A, st_B, st_i, st_s, st_j, st_pN, st_pA, st_pB, st_ps, st_rN, st_rA, st_rB, les1_at, les2_at, mkN_at, kfN_0, lput_eq, lput_ne, lesN_out, mkN_out]
          refine P_pop2_2 (pc := 137) dX4_shareAmongJoined_137 rfl ?_
          refine P_aload_n (pc := 138) dX4_shareAmongJoined_138 rfl 3 rfl ?_
          refine P_getR (pc := 139) dX4_shareAmongJoined_139 fa_RX4_9 (sS_o hb) fS_2 ?_
          refine P_iload (pc := 142) dX4_shareAmongJoined_142 1 rfl ?_
          refine P_bipush (pc := 144) dX4_shareAmongJoined_144 (by decide) ?_
          refine P_iadd (pc := 146) dX4_shareAmongJoined_146 ?_
          refine P_dup2_11 (pc := 147) dX4_shareAmongJoined_147 rfl rfl ?_
          refine P_lald (pc := 148) dX4_shareAmongJoined_148 (sS_22 hb) (by omega) (by omega) (by decide) ?_
          try simp (disch := omega) only [st_N, st_A, st_B, st_i, st_s, st_j, st_pN, st_pA, st_pB, st_ps, st_rN, st_rA, st_rB, les1_at, les2_at, mkN_at, kfN_0, lput_eq, lput_ne, lesN_out, mkN_out]
          refine P_aload_n (pc := 149) dX4_shareAmongJoined_149 rfl 3 rfl ?_
          refine P_iload (pc := 150) dX4_shareAmongJoined_150 1 rfl ?_
          refine P_aload_n (pc := 152) dX4_shareAmongJoined_152 rfl 3 rfl ?_
          refine P_getR (pc := 153) dX4_shareAmongJoined_153 fa_RX4_9 (sS_o hb) fS_2 ?_
          refine P_iload (pc := 156) dX4_shareAmongJoined_156 2 rfl ?_
          refine P_lload (pc := 158) dX4_shareAmongJoined_158 0 rfl ?_
          refine P_callVl (Y' := mX4_lessen) (as := [_, _, _, _]) (pc := 160) dX4_shareAmongJoined_160 rfl (by decide : 0 < 1) (sS_o hb) rfl ml_RX4_148 im_X4_lessen se_X4_lessen mk_X4_lessen (Nat.le_of_ble_eq_true rfl) (c_X4_lessenN hb (by omega) (by omega) (by omega)) (fun z_ μ_ hq => ?_)
          obtain ⟨hz, hμ_⟩ := hq
          subst hμ_
          subst hz
          try simp (disch := omega) only [st_N, st_A, st_B, st_i, st_s, st_j, st_pN, st_pA, st_pB, st_ps, st_rN, st_rA, st_rB, les1_at, les2_at, mkN_at, kfN_0, lput_eq, lput_ne, lesN_out, mkN_out]
          refine P_ldc2 (b := BitVec.allOnes 64) (pc := 163) dX4_shareAmongJoined_163 kl_RX4_63 (by decide +kernel) ?_
          refine P_lnot (pc := 166) dX4_shareAmongJoined_166 ?_
          refine P_land (pc := 167) dX4_shareAmongJoined_167 ?_
          refine P_last (pc := 168) dX4_shareAmongJoined_168 (sS_22 hb) (by omega) (by omega) (by decide) ?_
          try simp (disch := omega) only [st_N, st_A, st_B, st_i, st_s, st_j, st_pN, st_pA, st_pB, st_ps, st_rN, st_rA, st_rB, les1_at, les2_at, mkN_at, kfN_0, lput_eq, lput_ne, lesN_out, mkN_out]
          refine P_iinc (L' := [(3, vi _), (6, vl _), (5, vi _), (4, vi _), (0, vr (3 + b)), (1, vl _)]) (pc := 169) dX4_shareAmongJoined_169 (by decide) 5 rfl rfl ?_
          refine P_goto (tgt := 2) (pc := 172) dX4_shareAmongJoined_172 (by decide) ?_
          refine P_sub (L' := [(0, vr (3 + b)), (1, vl _), (3, vi _)]) [4, 5, 0] rfl ?_
          first
            | (have h5 : ¬ K 2 t = 5 := by omega
               rw [shr1_n h5] at ih2
               exact ih2 s2 (by omega) (by omega) hs2 hq2)
            | (have hw : wyJ Nm w t = 0#64 := c_119
               rw [shr1_z hw] at ih2
               exact ih2 s2 (by omega) (by omega) hs2 hq2)
            | (have hw : ¬ wyJ Nm w t = 0#64 := c_119
               rw [shr1_y (by omega) hw] at ih2
               refine ih2 _ (by omega) (by omega) (sq_ite hs2).1 (fun h => ?_)
               obtain ⟨g1, g2, g3⟩ := (sq_ite hs2).2 h
               have g4 := hq2 g1
               exact ⟨g4.1, (shJ_same g3 g2).trans g4.2⟩)
set_option maxHeartbeats 1000000 in
set_option maxRecDepth 100000 in
theorem c_X4_shareAmongJoined {μ : Mem} {b : Nat} {N A B : Pl} {s : Int} {K : Cel} {w : BitVec 64} (hb : b < 2) (hR : KR K μ) (hK : KOK K) (hs : s = 0 ∨ s = 1) : PC shC 1 mX4_shareAmongJoined [vr (3 + b), vl w] (stM μ b N A B s) (QV (fun μ' => ∃ s' : Int, (s' = 0 ∨ s' = 1) ∧ (s' = 0 → s = 0 ∧ shrN K w N = N) ∧ μ' = stM μ b (shrN K w N) A B s')) := by
  refine PC.of (by decide +kernel) (Nat.le_of_ble_eq_true rfl) ?_
  refine P_sub (L' := [(0, vr (3 + b)), (1, vl w)]) [0, 1] rfl ?_
  refine P_iconst (pc := 0) dX4_shareAmongJoined_0 ?_
  refine P_istore_n (L' := [(3, vi _), (0, vr (3 + b)), (1, vl _)]) (pc := 1) dX4_shareAmongJoined_1 rfl (by decide) rfl ?_
  refine P_sub (L' := [(0, vr (3 + b)), (1, vl _), (3, vi _)]) [1, 2, 0] rfl ?_
  exact l_X4_share hb hR hK ((K 0 11 - 1).toNat + 1) 0 1 s (by omega) (Nat.zero_le _) (by omega) hs (fun h => ⟨h, rfl⟩)
