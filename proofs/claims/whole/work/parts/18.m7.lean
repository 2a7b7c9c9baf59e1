theorem agr_setW {μ : Mem} {S : Int → Int} {Z X : Cel} (h24 : Z 0 24 = X 0 24) (h25 : Z 0 25 = X 0 25) (h : ∀ q : Nat, (q = 13 ∨ q = 14 ∨ q = 16 ∨ q = 17 ∨ q = 18 ∨ q = 19) → ∀ j : Int, 0 ≤ j → j < 12 → Z q j = X q j) : Agr shM (setW μ S Z) (setW μ S X) := by
  intro k s hs
  by_cases hk : 13 ≤ k ∧ k ≤ 19 ∧ k ≠ 15
  · have e2 : shM[k]? = some (.inr (12, if k = 13 ∨ k = 14 then 0 else 2)) := by rcases (show k = 13 ∨ k = 14 ∨ k = 16 ∨ k = 17 ∨ k = 18 ∨ k = 19 by omega) with rfl | rfl | rfl | rfl | rfl | rfl <;> rfl
    rw [e2] at hs
    cases hs
    intro j h0 h1
    refine ⟨?_, rfl⟩
    have h2 := h k (by omega) j h0 h1
    unfold setW
    simp only [if_neg (show ¬ k = 0 by omega), if_neg (show ¬ k = 15 by omega), if_pos (show 13 ≤ k ∧ k ≤ 19 by omega)]
    exact h2
  · have e : (setW μ S Z).1 k = (setW μ S X).1 k := by
      unfold setW
      by_cases h0 : k = 0
      · subst h0
        funext j
        simp [h24, h25]
      · by_cases h1 : k = 15
        · subst h1; simp
        · simp only [if_neg h0, if_neg h1, if_neg (show ¬ (13 ≤ k ∧ k ≤ 19) by omega)]
    rcases s with o | a
    · intro j hj; rw [e]
    · intro j h0 h1; exact ⟨by rw [e], rfl⟩
theorem srcX_s {K : Cel} {S : Int → Int} {e v : Int} (hv : v = srcX K e) (h : ∀ i : Int, 0 ≤ i → i < e → S i = srcX K i) : ∀ i : Int, 0 ≤ i → i < e + 1 → (fun i => if i = e then v else S i) i = srcX K i := by
  intro i h0 h1
  by_cases hi : i = e
  · subst hi; simp [hv]
  · simp only [if_neg hi]
    exact h i h0 (by omega)
def BInv (K : Cel) (o t : Int) (Z : Cel) : Prop := Z 0 24 = o ∧ Z 0 25 = 0 ∧ ∀ q : Nat, (q = 13 ∨ q = 14 ∨ q = 16 ∨ q = 17 ∨ q = 18 ∨ q = 19) → ∀ j : Int, 0 ≤ j → j < t → Z q j = begX K o q j
theorem BInv_s {K : Cel} {o t : Int} {Z Z' : Cel} (h : BInv K o t Z) (h24 : Z' 0 24 = Z 0 24) (h25 : Z' 0 25 = Z 0 25) (h1 : ∀ q : Nat, (q = 13 ∨ q = 14 ∨ q = 16 ∨ q = 17 ∨ q = 18 ∨ q = 19) → ∀ j : Int, Z' q j = if j = t then begX K o q t else Z q j) : BInv K o (t + 1) Z' := by
  refine ⟨by rw [h24]; exact h.1, by rw [h25]; exact h.2.1, fun q hq j h0 hj => ?_⟩
  rw [h1 q hq j]
  by_cases e : j = t
  · subst e; simp
  · rw [if_neg e]; exact h.2.2 q hq j h0 (by omega)
theorem srcN_ad {K : Cel} {j : Nat} {e : Int} (he : e = (j : Int)) : srcN K (j + 1) = srcN K j + (if K 8 e = 9 then 1 else 0) := by subst he; rfl
set_option maxHeartbeats 1000000 in
set_option maxRecDepth 100000 in
theorem l_X6_begins2 {μ : Mem} {o : Int} (hK : KOK (kd μ.1)) : ∀ (n j : Nat) (m e : Int) (S : Int → Int), m = srcN (kd μ.1) j → e = (j : Int) → j ≤ (kd μ.1 0 12).toNat → (kd μ.1 0 12).toNat - j < n → (∀ i : Int, 0 ≤ i → i < e → S i = srcX (kd μ.1) i) → PW shM 0 mX6_begins 102 [(0, vr 0), (1, vi o), (2, vi m), (3, vi e)] [] (setW μ S (begX (kd μ.1) o)) (QV (fun μ' => ∃ S' : Int → Int, (∀ i : Int, 0 ≤ i → i < μ.1 0 12 → S' i = srcX (kd μ.1) i) ∧ μ' = setW μ S' (begX (kd μ.1) o))) := by
  intro n
  induction n with
  | zero => intro j m e S _ _ _ h; omega
  | succ n ih =>
  intro j m e S hm he hj hn hS
  have hk := hK.1
  have he0 := hK.2.1
  simp only [wr_1, wr_2, wr_3, wr_4, wr_5, wr_6, wr_7, wr_8, wr_9, wr_10, wr_11, wr_12, wr_20, wr_21, wr_22, wr_23, wr_24, wr_25, wr_26, wr_27, wr_28, wr_29, wr_30, wr_13, wr_14, wr_16, wr_17, wr_18, wr_19, wr_15, wo_11, wo_12, wo_14, wo_15, wo_16, wo_30, wo_31, wo_37, wo_40, wo_41, wo_42, wp_13, wp_14, wp_16, wp_17, wp_18, wp_19, wp_0_24, wp_0_25, xn_0_13, xn_0_14, xn_0_15, xn_0_16, xn_0_17, xn_0_18, xn_0_19, xn_13_0, xn_13_14, xn_13_15, xn_13_16, xn_13_17, xn_13_18, xn_13_19, xn_14_0, xn_14_13, xn_14_15, xn_14_16, xn_14_17, xn_14_18, xn_14_19, xn_15_0, xn_15_13, xn_15_14, xn_15_16, xn_15_17, xn_15_18, xn_15_19, xn_16_0, xn_16_13, xn_16_14, xn_16_15, xn_16_17, xn_16_18, xn_16_19, xn_17_0, xn_17_13, xn_17_14, xn_17_15, xn_17_16, xn_17_18, xn_17_19, xn_18_0, xn_18_13, xn_18_14, xn_18_15, xn_18_16, xn_18_17, xn_18_19, xn_19_0, xn_19_13, xn_19_14, xn_19_15, xn_19_16, xn_19_17, xn_19_18, kr_2, kr_3, kr_4, kr_5, kr_6, kr_7, kr_8, kr_9, kr_10, kr_11, setW_put15, setW_24, setW_25, setW_2, kd_11, kd_12, setW_setW] at hk he0
  simp only [kd_12] at hj hn
  have g1 := srcN_in (kd μ.1) j
  have g2 := srcN_ad (K := kd μ.1) he
  have g6 := hK.2.2.2.2.2.2.2.1 e
  have g3 : srcX (kd μ.1) e = if kd μ.1 8 e = 9 ∧ m < 20 then 2 ^ m.toNat else 0 := by subst he; unfold srcX; rw [Int.toNat_natCast, ← hm]
  simp only [wr_1, wr_2, wr_3, wr_4, wr_5, wr_6, wr_7, wr_8, wr_9, wr_10, wr_11, wr_12, wr_20, wr_21, wr_22, wr_23, wr_24, wr_25, wr_26, wr_27, wr_28, wr_29, wr_30, wr_13, wr_14, wr_16, wr_17, wr_18, wr_19, wr_15, wo_11, wo_12, wo_14, wo_15, wo_16, wo_30, wo_31, wo_37, wo_40, wo_41, wo_42, wp_13, wp_14, wp_16, wp_17, wp_18, wp_19, wp_0_24, wp_0_25, xn_0_13, xn_0_14, xn_0_15, xn_0_16, xn_0_17, xn_0_18, xn_0_19, xn_13_0, xn_13_14, xn_13_15, xn_13_16, xn_13_17, xn_13_18, xn_13_19, xn_14_0, xn_14_13, xn_14_15, xn_14_16, xn_14_17, xn_14_18, xn_14_19, xn_15_0, xn_15_13, xn_15_14, xn_15_16, xn_15_17, xn_15_18, xn_15_19, xn_16_0, xn_16_13, xn_16_14, xn_16_15, xn_16_17, xn_16_18, xn_16_19, xn_17_0, xn_17_13, xn_17_14, xn_17_15, xn_17_16, xn_17_18, xn_17_19, xn_18_0, xn_18_13, xn_18_14, xn_18_15, xn_18_16, xn_18_17, xn_18_19, xn_19_0, xn_19_13, xn_19_14, xn_19_15, xn_19_16, xn_19_17, xn_19_18, kr_2, kr_3, kr_4, kr_5, kr_6, kr_7, kr_8, kr_9, kr_10, kr_11, setW_put15, setW_24, setW_25, setW_2, kd_11, kd_12, setW_setW] at g2 g3 g6
  refine P_iload_n (pc := 102) dX6_begins_102 rfl 3 rfl ?_
  refine P_aload_n (pc := 103) dX6_begins_103 rfl 0 rfl ?_
  refine P_getI (jj := 12) (pc := 104) dX6_begins_104 fa_RX6_125 sM_0 fM0_12 rfl ?_
  try simp only [wr_1, wr_2, wr_3, wr_4, wr_5, wr_6, wr_7, wr_8, wr_9, wr_10, wr_11, wr_12, wr_20, wr_21, wr_22, wr_23, wr_24, wr_25, wr_26, wr_27, wr_28, wr_29, wr_30, wr_13, wr_14, wr_16, wr_17, wr_18, wr_19, wr_15, wo_11, wo_12, wo_14, wo_15, wo_16, wo_30, wo_31, wo_37, wo_40, wo_41, wo_42, wp_13, wp_14, wp_16, wp_17, wp_18, wp_19, wp_0_24, wp_0_25, xn_0_13, xn_0_14, xn_0_15, xn_0_16, xn_0_17, xn_0_18, xn_0_19, xn_13_0, xn_13_14, xn_13_15, xn_13_16, xn_13_17, xn_13_18, xn_13_19, xn_14_0, xn_14_13, xn_14_15, xn_14_16, xn_14_17, xn_14_18, xn_14_19, xn_15_0, xn_15_13, xn_15_14, xn_15_16, xn_15_17, xn_15_18, xn_15_19, xn_16_0, xn_16_13, xn_16_14, xn_16_15, xn_16_17, xn_16_18, xn_16_19, xn_17_0, xn_17_13, xn_17_14, xn_17_15, xn_17_16, xn_17_18, xn_17_19, xn_18_0, xn_18_13, xn_18_14, xn_18_15, xn_18_16, xn_18_17, xn_18_19, xn_19_0, xn_19_13, xn_19_14, xn_19_15, xn_19_16, xn_19_17, xn_19_18, kr_2, kr_3, kr_4, kr_5, kr_6, kr_7, kr_8, kr_9, kr_10, kr_11, setW_put15, setW_24, setW_25, setW_2, kd_11, kd_12, setW_setW]
  refine P_icmp_ge (tgt := 165) (pc := 107) dX6_begins_107 (by decide) (by first | (unfold InR; omega) | (unfold InR; grind)) (by first | (unfold InR; omega) | (unfold InR; grind)) (fun c_107 => ?_) (fun c_107 => ?_)
  · exact P_vret (pc := 165) dX6_begins_165 rfl (QV.mk (by exact ⟨S, fun i h0 h1 => hS i h0 (by omega), rfl⟩))
  · refine P_aload_n (pc := 110) dX6_begins_110 rfl 0 rfl ?_
    refine P_getR (pc := 111) dX6_begins_111 fa_RX6_52 sM_0 fM0_19 ?_
    refine P_iload_n (pc := 114) dX6_begins_114 rfl 3 rfl ?_
    refine P_aload_n (pc := 115) dX6_begins_115 rfl 0 rfl ?_
    refine P_getR (pc := 116) dX6_begins_116 fa_RX6_31 sM_0 fM0_7 ?_
    refine P_iload_n (pc := 119) dX6_begins_119 rfl 3 rfl ?_
    refine P_iald (pc := 120) dX6_begins_120 sM_8 (by omega) (by omega) (by decide) ?_
    try simp only [wr_1, wr_2, wr_3, wr_4, wr_5, wr_6, wr_7, wr_8, wr_9, wr_10, wr_11, wr_12, wr_20, wr_21, wr_22, wr_23, wr_24, wr_25, wr_26, wr_27, wr_28, wr_29, wr_30, wr_13, wr_14, wr_16, wr_17, wr_18, wr_19, wr_15, wo_11, wo_12, wo_14, wo_15, wo_16, wo_30, wo_31, wo_37, wo_40, wo_41, wo_42, wp_13, wp_14, wp_16, wp_17, wp_18, wp_19, wp_0_24, wp_0_25, xn_0_13, xn_0_14, xn_0_15, xn_0_16, xn_0_17, xn_0_18, xn_0_19, xn_13_0, xn_13_14, xn_13_15, xn_13_16, xn_13_17, xn_13_18, xn_13_19, xn_14_0, xn_14_13, xn_14_15, xn_14_16, xn_14_17, xn_14_18, xn_14_19, xn_15_0, xn_15_13, xn_15_14, xn_15_16, xn_15_17, xn_15_18, xn_15_19, xn_16_0, xn_16_13, xn_16_14, xn_16_15, xn_16_17, xn_16_18, xn_16_19, xn_17_0, xn_17_13, xn_17_14, xn_17_15, xn_17_16, xn_17_18, xn_17_19, xn_18_0, xn_18_13, xn_18_14, xn_18_15, xn_18_16, xn_18_17, xn_18_19, xn_19_0, xn_19_13, xn_19_14, xn_19_15, xn_19_16, xn_19_17, xn_19_18, kr_2, kr_3, kr_4, kr_5, kr_6, kr_7, kr_8, kr_9, kr_10, kr_11, setW_put15, setW_24, setW_25, setW_2, kd_11, kd_12, setW_setW]
    refine P_bipush (pc := 121) dX6_begins_121 (by decide) ?_
    refine P_icmp_ne (tgt := 138) (pc := 123) dX6_begins_123 (by decide) (by first | (unfold InR; omega) | (unfold InR; grind)) (by first | (unfold InR; omega) | (unfold InR; grind)) (fun c_123 => ?_) (fun c_123 => ?_)
    · refine P_iconst (pc := 138) dX6_begins_138 ?_
      refine P_iast (pc := 139) dX6_begins_139 sM_15 (by omega) (by omega) (by decide) ?_
      try simp only [wr_1, wr_2, wr_3, wr_4, wr_5, wr_6, wr_7, wr_8, wr_9, wr_10, wr_11, wr_12, wr_20, wr_21, wr_22, wr_23, wr_24, wr_25, wr_26, wr_27, wr_28, wr_29, wr_30, wr_13, wr_14, wr_16, wr_17, wr_18, wr_19, wr_15, wo_11, wo_12, wo_14, wo_15, wo_16, wo_30, wo_31, wo_37, wo_40, wo_41, wo_42, wp_13, wp_14, wp_16, wp_17, wp_18, wp_19, wp_0_24, wp_0_25, xn_0_13, xn_0_14, xn_0_15, xn_0_16, xn_0_17, xn_0_18, xn_0_19, xn_13_0, xn_13_14, xn_13_15, xn_13_16, xn_13_17, xn_13_18, xn_13_19, xn_14_0, xn_14_13, xn_14_15, xn_14_16, xn_14_17, xn_14_18, xn_14_19, xn_15_0, xn_15_13, xn_15_14, xn_15_16, xn_15_17, xn_15_18, xn_15_19, xn_16_0, xn_16_13, xn_16_14, xn_16_15, xn_16_17, xn_16_18, xn_16_19, xn_17_0, xn_17_13, xn_17_14, xn_17_15, xn_17_16, xn_17_18, xn_17_19, xn_18_0, xn_18_13, xn_18_14, xn_18_15, xn_18_16, xn_18_17, xn_18_19, xn_19_0, xn_19_13, xn_19_14, xn_19_15, xn_19_16, xn_19_17, xn_19_18, kr_2, kr_3, kr_4, kr_5, kr_6, kr_7, kr_8, kr_9, kr_10, kr_11, setW_put15, setW_24, setW_25, setW_2, kd_11, kd_12, setW_setW]
      refine P_iload_n (pc := 140) dX6_begins_140 rfl 2 rfl ?_
      refine P_aload_n (pc := 141) dX6_begins_141 rfl 0 rfl ?_
      refine P_getR (pc := 142) dX6_begins_142 fa_RX6_31 sM_0 fM0_7 ?_
      refine P_iload_n (pc := 145) dX6_begins_145 rfl 3 rfl ?_
      refine P_iald (pc := 146) dX6_begins_146 sM_8 (by omega) (by omega) (by decide) ?_
      try simp only [wr_1, wr_2, wr_3, wr_4, wr_5, wr_6, wr_7, wr_8, wr_9, wr_10, wr_11, wr_12, wr_20, wr_21, wr_22, wr_23, wr_24, wr_25, wr_26, wr_27, wr_28, wr_29, wr_30, wr_13, wr_14, wr_16, wr_17, wr_18, wr_19, wr_15, wo_11, wo_12, wo_14, wo_15, wo_16, wo_30, wo_31, wo_37, wo_40, wo_41, wo_42, wp_13, wp_14, wp_16, wp_17, wp_18, wp_19, wp_0_24, wp_0_25, xn_0_13, xn_0_14, xn_0_15, xn_0_16, xn_0_17, xn_0_18, xn_0_19, xn_13_0, xn_13_14, xn_13_15, xn_13_16, xn_13_17, xn_13_18, xn_13_19, xn_14_0, xn_14_13, xn_14_15, xn_14_16, xn_14_17, xn_14_18, xn_14_19, xn_15_0, xn_15_13, xn_15_14, xn_15_16, xn_15_17, xn_15_18, xn_15_19, xn_16_0, xn_16_13, xn_16_14, xn_16_15, xn_16_17, xn_16_18, xn_16_19, xn_17_0, xn_17_13, xn_17_14, xn_17_15, xn_17_16, xn_17_18, xn_17_19, xn_18_0, xn_18_13, xn_18_14, xn_18_15, xn_18_16, xn_18_17, xn_18_19, xn_19_0, xn_19_13, xn_19_14, xn_19_15, xn_19_16, xn_19_17, xn_19_18, kr_2, kr_3, kr_4, kr_5, kr_6, kr_7, kr_8, kr_9, kr_10, kr_11, setW_put15, setW_24, setW_25, setW_2, kd_11, kd_12, setW_setW]
      refine P_bipush (pc := 147) dX6_begins_147 (by decide) ?_
      refine P_icmp_ne (tgt := 156) (pc := 149) dX6_begins_149 (by decide) (by first | (unfold InR; omega) | (unfold InR; grind)) (by first | (unfold InR; omega) | (unfold InR; grind)) (fun c_149 => ?_) (fun c_149 => ?_)
      · refine P_iconst (pc := 156) dX6_begins_156 ?_
        refine P_iadd (pc := 157) dX6_begins_157 ?_
        refine P_istore_n (L' := [(2, vi _), (0, vr 0), (1, vi _), (3, vi _)]) (pc := 158) dX6_begins_158 rfl (by decide) rfl ?_
        refine P_iinc (L' := [(3, vi _), (2, vi _), (0, vr 0), (1, vi _)]) (pc := 159) dX6_begins_159 (by decide) 3 rfl rfl ?_
        refine P_goto (tgt := 102) (pc := 162) dX6_begins_162 (by decide) ?_
        refine P_sub (L' := [(0, vr 0), (1, vi _), (2, vi _), (3, vi _)]) [2, 3, 1, 0] rfl ?_
        refine ih (j + 1) _ (e + 1) _ ?_ (by omega) (by simp only [kd_12]; omega) (by simp only [kd_12]; omega) (srcX_s ?_ hS)
        · rw [g2]; grind
        · rw [g3]; grind
      · refine P_iconst (pc := 152) dX6_begins_152 ?_
        refine P_goto (tgt := 157) (pc := 153) dX6_begins_153 (by decide) ?_
        refine P_iadd (pc := 157) dX6_begins_157 ?_
        refine P_istore_n (L' := [(2, vi _), (0, vr 0), (1, vi _), (3, vi _)]) (pc := 158) dX6_begins_158 rfl (by decide) rfl ?_
        refine P_iinc (L' := [(3, vi _), (2, vi _), (0, vr 0), (1, vi _)]) (pc := 159) dX6_begins_159 (by decide) 3 rfl rfl ?_
        refine P_goto (tgt := 102) (pc := 162) dX6_begins_162 (by decide) ?_
        refine P_sub (L' := [(0, vr 0), (1, vi _), (2, vi _), (3, vi _)]) [2, 3, 1, 0] rfl ?_
        refine ih (j + 1) _ (e + 1) _ ?_ (by omega) (by simp only [kd_12]; omega) (by simp only [kd_12]; omega) (srcX_s ?_ hS)
        · rw [g2]; grind
        · rw [g3]; grind
    · refine P_iload_n (pc := 126) dX6_begins_126 rfl 2 rfl ?_
      refine P_bipush (pc := 127) dX6_begins_127 (by decide) ?_
      refine P_icmp_ge (tgt := 138) (pc := 129) dX6_begins_129 (by decide) (by first | (unfold InR; omega) | (unfold InR; grind)) (by first | (unfold InR; omega) | (unfold InR; grind)) (fun c_129 => ?_) (fun c_129 => ?_)
      · refine P_iconst (pc := 138) dX6_begins_138 ?_
        refine P_iast (pc := 139) dX6_begins_139 sM_15 (by omega) (by omega) (by decide) ?_
        try simp only [wr_1, wr_2, wr_3, wr_4, wr_5, wr_6, wr_7, wr_8, wr_9, wr_10, wr_11, wr_12, wr_20, wr_21, wr_22, wr_23, wr_24, wr_25, wr_26, wr_27, wr_28, wr_29, wr_30, wr_13, wr_14, wr_16, wr_17, wr_18, wr_19, wr_15, wo_11, wo_12, wo_14, wo_15, wo_16, wo_30, wo_31, wo_37, wo_40, wo_41, wo_42, wp_13, wp_14, wp_16, wp_17, wp_18, wp_19, wp_0_24, wp_0_25, xn_0_13, xn_0_14, xn_0_15, xn_0_16, xn_0_17, xn_0_18, xn_0_19, xn_13_0, xn_13_14, xn_13_15, xn_13_16, xn_13_17, xn_13_18, xn_13_19, xn_14_0, xn_14_13, xn_14_15, xn_14_16, xn_14_17, xn_14_18, xn_14_19, xn_15_0, xn_15_13, xn_15_14, xn_15_16, xn_15_17, xn_15_18, xn_15_19, xn_16_0, xn_16_13, xn_16_14, xn_16_15, xn_16_17, xn_16_18, xn_16_19, xn_17_0, xn_17_13, xn_17_14, xn_17_15, xn_17_16, xn_17_18, xn_17_19, xn_18_0, xn_18_13, xn_18_14, xn_18_15, xn_18_16, xn_18_17, xn_18_19, xn_19_0, xn_19_13, xn_19_14, xn_19_15, xn_19_16, xn_19_17, xn_19_18, kr_2, kr_3, kr_4, kr_5, kr_6, kr_7, kr_8, kr_9, kr_10, kr_11, setW_put15, setW_24, setW_25, setW_2, kd_11, kd_12, setW_setW]
        refine P_iload_n (pc := 140) dX6_begins_140 rfl 2 rfl ?_
        refine P_aload_n (pc := 141) dX6_begins_141 rfl 0 rfl ?_
        refine P_getR (pc := 142) dX6_begins_142 fa_RX6_31 sM_0 fM0_7 ?_
        refine P_iload_n (pc := 145) dX6_begins_145 rfl 3 rfl ?_
        refine P_iald (pc := 146) dX6_begins_146 sM_8 (by omega) (by omega) (by decide) ?_
        try simp only [wr_1, wr_2, wr_3, wr_4, wr_5, wr_6, wr_7, wr_8, wr_9, wr_10, wr_11, wr_12, wr_20, wr_21, wr_22, wr_23, wr_24, wr_25, wr_26, wr_27, wr_28, wr_29, wr_30, wr_13, wr_14, wr_16, wr_17, wr_18, wr_19, wr_15, wo_11, wo_12, wo_14, wo_15, wo_16, wo_30, wo_31, wo_37, wo_40, wo_41, wo_42, wp_13, wp_14, wp_16, wp_17, wp_18, wp_19, wp_0_24, wp_0_25, xn_0_13, xn_0_14, xn_0_15, xn_0_16, xn_0_17, xn_0_18, xn_0_19, xn_13_0, xn_13_14, xn_13_15, xn_13_16, xn_13_17, xn_13_18, xn_13_19, xn_14_0, xn_14_13, xn_14_15, xn_14_16, xn_14_17, xn_14_18, xn_14_19, xn_15_0, xn_15_13, xn_15_14, xn_15_16, xn_15_17, xn_15_18, xn_15_19, xn_16_0, xn_16_13, xn_16_14, xn_16_15, xn_16_17, xn_16_18, xn_16_19, xn_17_0, xn_17_13, xn_17_14, xn_17_15, xn_17_16, xn_17_18, xn_17_19, xn_18_0, xn_18_13, xn_18_14, xn_18_15, xn_18_16, xn_18_17, xn_18_19, xn_19_0, xn_19_13, xn_19_14, xn_19_15, xn_19_16, xn_19_17, xn_19_18, kr_2, kr_3, kr_4, kr_5, kr_6, kr_7, kr_8, kr_9, kr_10, kr_11, setW_put15, setW_24, setW_25, setW_2, kd_11, kd_12, setW_setW]
        refine P_bipush (pc := 147) dX6_begins_147 (by decide) ?_
        refine P_icmp_ne (tgt := 156) (pc := 149) dX6_begins_149 (by decide) (by first | (unfold InR; omega) | (unfold InR; grind)) (by first | (unfold InR; omega) | (unfold InR; grind)) (fun c_149 => ?_) (fun c_149 => ?_)
        · refine P_iconst (pc := 156) dX6_begins_156 ?_
          refine P_iadd (pc := 157) dX6_begins_157 ?_
          refine P_istore_n (L' := [(2, vi _), (0, vr 0), (1, vi _), (3, vi _)]) (pc := 158) dX6_begins_158 rfl (by decide) rfl ?_
          refine P_iinc (L' := [(3, vi _), (2, vi _), (0, vr 0), (1, vi _)]) (pc := 159) dX6_begins_159 (by decide) 3 rfl rfl ?_
          refine P_goto (tgt := 102) (pc := 162) dX6_begins_162 (by decide) ?_
          refine P_sub (L' := [(0, vr 0), (1, vi _), (2, vi _), (3, vi _)]) [2, 3, 1, 0] rfl ?_
          refine ih (j + 1) _ (e + 1) _ ?_ (by omega) (by simp only [kd_12]; omega) (by simp only [kd_12]; omega) (srcX_s ?_ hS)
          · rw [g2]; grind
          · rw [g3]; grind
        · refine P_iconst (pc := 152) dX6_begins_152 ?_
          refine P_goto (tgt := 157) (pc := 153) dX6_begins_153 (by decide) ?_
          refine P_iadd (pc := 157) dX6_begins_157 ?_
          refine P_istore_n (L' := [(2, vi _), (0, vr 0), (1, vi _), (3, vi _)]) (pc := 158) dX6_begins_158 rfl (by decide) rfl ?_
          refine P_iinc (L' := [(3, vi _), (2, vi _), (0, vr 0), (1, vi _)]) (pc := 159) dX6_begins_159 (by decide) 3 rfl rfl ?_
          refine P_goto (tgt := 102) (pc := 162) dX6_begins_162 (by decide) ?_
          refine P_sub (L' := [(0, vr 0), (1, vi _), (2, vi _), (3, vi _)]) [2, 3, 1, 0] rfl ?_
          refine ih (j + 1) _ (e + 1) _ ?_ (by omega) (by simp only [kd_12]; omega) (by simp only [kd_12]; omega) (srcX_s ?_ hS)
          · rw [g2]; grind
          · rw [g3]; grind
      · refine P_iconst (pc := 132) dX6_begins_132 ?_
        refine P_iload_n (pc := 133) dX6_begins_133 rfl 2 rfl ?_
        refine P_ishl (pc := 134) dX6_begins_134 (wI_shl _ (by omega) (by omega)) ?_
        refine P_goto (tgt := 139) (pc := 135) dX6_begins_135 (by decide) ?_
        refine P_iast (pc := 139) dX6_begins_139 sM_15 (by omega) (by omega) (by decide) ?_
        try simp only [wr_1, wr_2, wr_3, wr_4, wr_5, wr_6, wr_7, wr_8, wr_9, wr_10, wr_11, wr_12, wr_20, wr_21, wr_22, wr_23, wr_24, wr_25, wr_26, wr_27, wr_28, wr_29, wr_30, wr_13, wr_14, wr_16, wr_17, wr_18, wr_19, wr_15, wo_11, wo_12, wo_14, wo_15, wo_16, wo_30, wo_31, wo_37, wo_40, wo_41, wo_42, wp_13, wp_14, wp_16, wp_17, wp_18, wp_19, wp_0_24, wp_0_25, xn_0_13, xn_0_14, xn_0_15, xn_0_16, xn_0_17, xn_0_18, xn_0_19, xn_13_0, xn_13_14, xn_13_15, xn_13_16, xn_13_17, xn_13_18, xn_13_19, xn_14_0, xn_14_13, xn_14_15, xn_14_16, xn_14_17, xn_14_18, xn_14_19, xn_15_0, xn_15_13, xn_15_14, xn_15_16, xn_15_17, xn_15_18, xn_15_19, xn_16_0, xn_16_13, xn_16_14, xn_16_15, xn_16_17, xn_16_18, xn_16_19, xn_17_0, xn_17_13, xn_17_14, xn_17_15, xn_17_16, xn_17_18, xn_17_19, xn_18_0, xn_18_13, xn_18_14, xn_18_15, xn_18_16, xn_18_17, xn_18_19, xn_19_0, xn_19_13, xn_19_14, xn_19_15, xn_19_16, xn_19_17, xn_19_18, kr_2, kr_3, kr_4, kr_5, kr_6, kr_7, kr_8, kr_9, kr_10, kr_11, setW_put15, setW_24, setW_25, setW_2, kd_11, kd_12, setW_setW]
        refine P_iload_n (pc := 140) dX6_begins_140 rfl 2 rfl ?_
        refine P_aload_n (pc := 141) dX6_begins_141 rfl 0 rfl ?_
        refine P_getR (pc := 142) dX6_begins_142 fa_RX6_31 sM_0 fM0_7 ?_
        refine P_iload_n (pc := 145) dX6_begins_145 rfl 3 rfl ?_
        refine P_iald (pc := 146) dX6_begins_146 sM_8 (by omega) (by omega) (by decide) ?_
        try simp only [wr_1, wr_2, wr_3, wr_4, wr_5, wr_6, wr_7, wr_8, wr_9, wr_10, wr_11, wr_12, wr_20, wr_21, wr_22, wr_23, wr_24, wr_25, wr_26, wr_27, wr_28, wr_29, wr_30, wr_13, wr_14, wr_16, wr_17, wr_18, wr_19, wr_15, wo_11, wo_12, wo_14, wo_15, wo_16, wo_30, wo_31, wo_37, wo_40, wo_41, wo_42, wp_13, wp_14, wp_16, wp_17, wp_18, wp_19, wp_0_24, wp_0_25, xn_0_13, xn_0_14, xn_0_15, xn_0_16, xn_0_17, xn_0_18, xn_0_19, xn_13_0, xn_13_14, xn_13_15, xn_13_16, xn_13_17, xn_13_18, xn_13_19, xn_14_0, xn_14_13, xn_14_15, xn_14_16, xn_14_17, xn_14_18, xn_14_19, xn_15_0, xn_15_13, xn_15_14, xn_15_16, xn_15_17, xn_15_18, xn_15_19, xn_16_0, xn_16_13, xn_16_14, xn_16_15, xn_16_17, xn_16_18, xn_16_19, xn_17_0, xn_17_13, xn_17_14, xn_17_15, xn_17_16, xn_17_18, xn_17_19, xn_18_0, xn_18_13, xn_18_14, xn_18_15, xn_18_16, xn_18_17, xn_18_19, xn_19_0, xn_19_13, xn_19_14, xn_19_15, xn_19_16, xn_19_17, xn_19_18, kr_2, kr_3, kr_4, kr_5, kr_6, kr_7, kr_8, kr_9, kr_10, kr_11, setW_put15, setW_24, setW_25, setW_2, kd_11, kd_12, setW_setW]
        refine P_bipush (pc := 147) dX6_begins_147 (by decide) ?_
        refine P_icmp_ne (tgt := 156) (pc := 149) dX6_begins_149 (by decide) (by first | (unfold InR; omega) | (unfold InR; grind)) (by first | (unfold InR; omega) | (unfold InR; grind)) (fun c_149 => ?_) (fun c_149 => ?_)
        · refine P_iconst (pc := 156) dX6_begins_156 ?_
          refine P_iadd (pc := 157) dX6_begins_157 ?_
          refine P_istore_n (L' := [(2, vi _), (0, vr 0), (1, vi _), (3, vi _)]) (pc := 158) dX6_begins_158 rfl (by decide) rfl ?_
          refine P_iinc (L' := [(3, vi _), (2, vi _), (0, vr 0), (1, vi _)]) (pc := 159) dX6_begins_159 (by decide) 3 rfl rfl ?_
          refine P_goto (tgt := 102) (pc := 162) dX6_begins_162 (by decide) ?_
          refine P_sub (L' := [(0, vr 0), (1, vi _), (2, vi _), (3, vi _)]) [2, 3, 1, 0] rfl ?_
          refine ih (j + 1) _ (e + 1) _ ?_ (by omega) (by simp only [kd_12]; omega) (by simp only [kd_12]; omega) (srcX_s ?_ hS)
          · rw [g2]; grind
          · rw [g3]; grind
        · refine P_iconst (pc := 152) dX6_begins_152 ?_
          refine P_goto (tgt := 157) (pc := 153) dX6_begins_153 (by decide) ?_
          refine P_iadd (pc := 157) dX6_begins_157 ?_
          refine P_istore_n (L' := [(2, vi _), (0, vr 0), (1, vi _), (3, vi _)]) (pc := 158) dX6_begins_158 rfl (by decide) rfl ?_
          refine P_iinc (L' := [(3, vi _), (2, vi _), (0, vr 0), (1, vi _)]) (pc := 159) dX6_begins_159 (by decide) 3 rfl rfl ?_
          refine P_goto (tgt := 102) (pc := 162) dX6_begins_162 (by decide) ?_
          refine P_sub (L' := [(0, vr 0), (1, vi _), (2, vi _), (3, vi _)]) [2, 3, 1, 0] rfl ?_
          refine ih (j + 1) _ (e + 1) _ ?_ (by omega) (by simp only [kd_12]; omega) (by simp only [kd_12]; omega) (srcX_s ?_ hS)
          · rw [g2]; grind
          · rw [g3]; grind
set_option maxHeartbeats 1000000 in
set_option maxRecDepth 100000 in
theorem l_X6_begins1 {μ : Mem} {S : Int → Int} {o : Int} (hK : KOK (kd μ.1)) : ∀ (n : Nat) (t : Int) (X : Cel), 0 ≤ t → t ≤ 12 → (12 - t).toNat < n → BInv (kd μ.1) o t X → PW shM 0 mX6_begins 12 [(0, vr 0), (1, vi o), (2, vi t)] [] (setW μ S X) (QV (fun μ' => ∃ S' : Int → Int, (∀ i : Int, 0 ≤ i → i < μ.1 0 12 → S' i = srcX (kd μ.1) i) ∧ μ' = setW μ S' (begX (kd μ.1) o))) := by
  intro n
  induction n with
  | zero => intro t X _ _ h; omega
  | succ n ih =>
  intro t X ht0 ht hn hB
  have hk := hK.1
  have he0 := hK.2.1
  simp only [wr_1, wr_2, wr_3, wr_4, wr_5, wr_6, wr_7, wr_8, wr_9, wr_10, wr_11, wr_12, wr_20, wr_21, wr_22, wr_23, wr_24, wr_25, wr_26, wr_27, wr_28, wr_29, wr_30, wr_13, wr_14, wr_16, wr_17, wr_18, wr_19, wr_15, wo_11, wo_12, wo_14, wo_15, wo_16, wo_30, wo_31, wo_37, wo_40, wo_41, wo_42, wp_13, wp_14, wp_16, wp_17, wp_18, wp_19, wp_0_24, wp_0_25, xn_0_13, xn_0_14, xn_0_15, xn_0_16, xn_0_17, xn_0_18, xn_0_19, xn_13_0, xn_13_14, xn_13_15, xn_13_16, xn_13_17, xn_13_18, xn_13_19, xn_14_0, xn_14_13, xn_14_15, xn_14_16, xn_14_17, xn_14_18, xn_14_19, xn_15_0, xn_15_13, xn_15_14, xn_15_16, xn_15_17, xn_15_18, xn_15_19, xn_16_0, xn_16_13, xn_16_14, xn_16_15, xn_16_17, xn_16_18, xn_16_19, xn_17_0, xn_17_13, xn_17_14, xn_17_15, xn_17_16, xn_17_18, xn_17_19, xn_18_0, xn_18_13, xn_18_14, xn_18_15, xn_18_16, xn_18_17, xn_18_19, xn_19_0, xn_19_13, xn_19_14, xn_19_15, xn_19_16, xn_19_17, xn_19_18, kr_2, kr_3, kr_4, kr_5, kr_6, kr_7, kr_8, kr_9, kr_10, kr_11, setW_put15, setW_24, setW_25, setW_2, kd_11, kd_12, setW_setW] at hk he0
  have g3 := hK.2.2.1 t
  have g4 := hK.2.2.2.1 t
  have g5 : begX (kd μ.1) o 19 t = if 0 ≤ t ∧ t < kd μ.1 0 11 ∧ (kd μ.1 3 t = 1 ∨ kd μ.1 2 t = 2) then 1 else 0 := rfl
  simp only [wr_1, wr_2, wr_3, wr_4, wr_5, wr_6, wr_7, wr_8, wr_9, wr_10, wr_11, wr_12, wr_20, wr_21, wr_22, wr_23, wr_24, wr_25, wr_26, wr_27, wr_28, wr_29, wr_30, wr_13, wr_14, wr_16, wr_17, wr_18, wr_19, wr_15, wo_11, wo_12, wo_14, wo_15, wo_16, wo_30, wo_31, wo_37, wo_40, wo_41, wo_42, wp_13, wp_14, wp_16, wp_17, wp_18, wp_19, wp_0_24, wp_0_25, xn_0_13, xn_0_14, xn_0_15, xn_0_16, xn_0_17, xn_0_18, xn_0_19, xn_13_0, xn_13_14, xn_13_15, xn_13_16, xn_13_17, xn_13_18, xn_13_19, xn_14_0, xn_14_13, xn_14_15, xn_14_16, xn_14_17, xn_14_18, xn_14_19, xn_15_0, xn_15_13, xn_15_14, xn_15_16, xn_15_17, xn_15_18, xn_15_19, xn_16_0, xn_16_13, xn_16_14, xn_16_15, xn_16_17, xn_16_18, xn_16_19, xn_17_0, xn_17_13, xn_17_14, xn_17_15, xn_17_16, xn_17_18, xn_17_19, xn_18_0, xn_18_13, xn_18_14, xn_18_15, xn_18_16, xn_18_17, xn_18_19, xn_19_0, xn_19_13, xn_19_14, xn_19_15, xn_19_16, xn_19_17, xn_19_18, kr_2, kr_3, kr_4, kr_5, kr_6, kr_7, kr_8, kr_9, kr_10, kr_11, setW_put15, setW_24, setW_25, setW_2, kd_11, kd_12, setW_setW] at g3 g4 g5
  refine P_iload_n (pc := 12) dX6_begins_12 rfl 2 rfl ?_
  refine P_bipush (pc := 13) dX6_begins_13 (by decide) ?_
  refine P_icmp_ge (tgt := 98) (pc := 15) dX6_begins_15 (by decide) (by first | (unfold InR; omega) | (unfold InR; grind)) (by first | (unfold InR; omega) | (unfold InR; grind)) (fun c_15 => ?_) (fun c_15 => ?_)
  · refine P_agr (μ' := setW μ S (begX (kd μ.1) o)) (agr_setW (by rw [hB.1]; rfl) (by rw [hB.2.1]; rfl) (fun q hq j h0 h1 => hB.2.2 q hq j h0 (by omega))) ?_
    refine P_iconst (pc := 98) dX6_begins_98 ?_
    refine P_istore_n (L' := [(2, vi _), (0, vr 0), (1, vi _)]) (pc := 99) dX6_begins_99 rfl (by decide) rfl ?_
    refine P_iconst (pc := 100) dX6_begins_100 ?_
    refine P_istore_n (L' := [(3, vi _), (2, vi _), (0, vr 0), (1, vi _)]) (pc := 101) dX6_begins_101 rfl (by decide) rfl ?_
    refine P_sub (L' := [(0, vr 0), (1, vi _), (2, vi _), (3, vi _)]) [2, 3, 1, 0] rfl ?_
    exact l_X6_begins2 hK ((kd μ.1 0 12).toNat + 1) 0 0 0 _ rfl rfl (Nat.zero_le _) (by omega) (fun i h0 h1 => by omega)
  · refine P_aload_n (pc := 18) dX6_begins_18 rfl 0 rfl ?_
    refine P_getR (pc := 19) dX6_begins_19 fa_RX6_46 sM_0 fM0_17 ?_
    refine P_iload_n (pc := 22) dX6_begins_22 rfl 2 rfl ?_
    refine P_iconst (pc := 23) dX6_begins_23 ?_
    refine P_iast (pc := 24) dX6_begins_24 sM_13 (by omega) (by omega) (by decide) ?_
    try simp only [wr_1, wr_2, wr_3, wr_4, wr_5, wr_6, wr_7, wr_8, wr_9, wr_10, wr_11, wr_12, wr_20, wr_21, wr_22, wr_23, wr_24, wr_25, wr_26, wr_27, wr_28, wr_29, wr_30, wr_13, wr_14, wr_16, wr_17, wr_18, wr_19, wr_15, wo_11, wo_12, wo_14, wo_15, wo_16, wo_30, wo_31, wo_37, wo_40, wo_41, wo_42, wp_13, wp_14, wp_16, wp_17, wp_18, wp_19, wp_0_24, wp_0_25, xn_0_13, xn_0_14, xn_0_15, xn_0_16, xn_0_17, xn_0_18, xn_0_19, xn_13_0, xn_13_14, xn_13_15, xn_13_16, xn_13_17, xn_13_18, xn_13_19, xn_14_0, xn_14_13, xn_14_15, xn_14_16, xn_14_17, xn_14_18, xn_14_19, xn_15_0, xn_15_13, xn_15_14, xn_15_16, xn_15_17, xn_15_18, xn_15_19, xn_16_0, xn_16_13, xn_16_14, xn_16_15, xn_16_17, xn_16_18, xn_16_19, xn_17_0, xn_17_13, xn_17_14, xn_17_15, xn_17_16, xn_17_18, xn_17_19, xn_18_0, xn_18_13, xn_18_14, xn_18_15, xn_18_16, xn_18_17, xn_18_19, xn_19_0, xn_19_13, xn_19_14, xn_19_15, xn_19_16, xn_19_17, xn_19_18, kr_2, kr_3, kr_4, kr_5, kr_6, kr_7, kr_8, kr_9, kr_10, kr_11, setW_put15, setW_24, setW_25, setW_2, kd_11, kd_12, setW_setW]
    refine P_aload_n (pc := 25) dX6_begins_25 rfl 0 rfl ?_
    refine P_getR (pc := 26) dX6_begins_26 fa_RX6_49 sM_0 fM0_18 ?_
    refine P_iload_n (pc := 29) dX6_begins_29 rfl 2 rfl ?_
    refine P_iconst (pc := 30) dX6_begins_30 ?_
    refine P_iast (pc := 31) dX6_begins_31 sM_14 (by omega) (by omega) (by decide) ?_
    try simp only [wr_1, wr_2, wr_3, wr_4, wr_5, wr_6, wr_7, wr_8, wr_9, wr_10, wr_11, wr_12, wr_20, wr_21, wr_22, wr_23, wr_24, wr_25, wr_26, wr_27, wr_28, wr_29, wr_30, wr_13, wr_14, wr_16, wr_17, wr_18, wr_19, wr_15, wo_11, wo_12, wo_14, wo_15, wo_16, wo_30, wo_31, wo_37, wo_40, wo_41, wo_42, wp_13, wp_14, wp_16, wp_17, wp_18, wp_19, wp_0_24, wp_0_25, xn_0_13, xn_0_14, xn_0_15, xn_0_16, xn_0_17, xn_0_18, xn_0_19, xn_13_0, xn_13_14, xn_13_15, xn_13_16, xn_13_17, xn_13_18, xn_13_19, xn_14_0, xn_14_13, xn_14_15, xn_14_16, xn_14_17, xn_14_18, xn_14_19, xn_15_0, xn_15_13, xn_15_14, xn_15_16, xn_15_17, xn_15_18, xn_15_19, xn_16_0, xn_16_13, xn_16_14, xn_16_15, xn_16_17, xn_16_18, xn_16_19, xn_17_0, xn_17_13, xn_17_14, xn_17_15, xn_17_16, xn_17_18, xn_17_19, xn_18_0, xn_18_13, xn_18_14, xn_18_15, xn_18_16, xn_18_17, xn_18_19, xn_19_0, xn_19_13, xn_19_14, xn_19_15, xn_19_16, xn_19_17, xn_19_18, kr_2, kr_3, kr_4, kr_5, kr_6, kr_7, kr_8, kr_9, kr_10, kr_11, setW_put15, setW_24, setW_25, setW_2, kd_11, kd_12, setW_setW]
    refine P_aload_n (pc := 32) dX6_begins_32 rfl 0 rfl ?_
    refine P_getR (pc := 33) dX6_begins_33 fa_RX6_55 sM_0 fM0_20 ?_
    refine P_iload_n (pc := 36) dX6_begins_36 rfl 2 rfl ?_
    refine P_iconst (pc := 37) dX6_begins_37 ?_
    refine P_zast (pc := 38) dX6_begins_38 sM_16 (by omega) (by omega) (by decide) (by omega) ?_
    try simp only [wr_1, wr_2, wr_3, wr_4, wr_5, wr_6, wr_7, wr_8, wr_9, wr_10, wr_11, wr_12, wr_20, wr_21, wr_22, wr_23, wr_24, wr_25, wr_26, wr_27, wr_28, wr_29, wr_30, wr_13, wr_14, wr_16, wr_17, wr_18, wr_19, wr_15, wo_11, wo_12, wo_14, wo_15, wo_16, wo_30, wo_31, wo_37, wo_40, wo_41, wo_42, wp_13, wp_14, wp_16, wp_17, wp_18, wp_19, wp_0_24, wp_0_25, xn_0_13, xn_0_14, xn_0_15, xn_0_16, xn_0_17, xn_0_18, xn_0_19, xn_13_0, xn_13_14, xn_13_15, xn_13_16, xn_13_17, xn_13_18, xn_13_19, xn_14_0, xn_14_13, xn_14_15, xn_14_16, xn_14_17, xn_14_18, xn_14_19, xn_15_0, xn_15_13, xn_15_14, xn_15_16, xn_15_17, xn_15_18, xn_15_19, xn_16_0, xn_16_13, xn_16_14, xn_16_15, xn_16_17, xn_16_18, xn_16_19, xn_17_0, xn_17_13, xn_17_14, xn_17_15, xn_17_16, xn_17_18, xn_17_19, xn_18_0, xn_18_13, xn_18_14, xn_18_15, xn_18_16, xn_18_17, xn_18_19, xn_19_0, xn_19_13, xn_19_14, xn_19_15, xn_19_16, xn_19_17, xn_19_18, kr_2, kr_3, kr_4, kr_5, kr_6, kr_7, kr_8, kr_9, kr_10, kr_11, setW_put15, setW_24, setW_25, setW_2, kd_11, kd_12, setW_setW]
    refine P_aload_n (pc := 39) dX6_begins_39 rfl 0 rfl ?_
    refine P_getR (pc := 40) dX6_begins_40 fa_RX6_59 sM_0 fM0_21 ?_
    refine P_iload_n (pc := 43) dX6_begins_43 rfl 2 rfl ?_
    refine P_iconst (pc := 44) dX6_begins_44 ?_
    refine P_zast (pc := 45) dX6_begins_45 sM_17 (by omega) (by omega) (by decide) (by omega) ?_
    try simp only [wr_1, wr_2, wr_3, wr_4, wr_5, wr_6, wr_7, wr_8, wr_9, wr_10, wr_11, wr_12, wr_20, wr_21, wr_22, wr_23, wr_24, wr_25, wr_26, wr_27, wr_28, wr_29, wr_30, wr_13, wr_14, wr_16, wr_17, wr_18, wr_19, wr_15, wo_11, wo_12, wo_14, wo_15, wo_16, wo_30, wo_31, wo_37, wo_40, wo_41, wo_42, wp_13, wp_14, wp_16, wp_17, wp_18, wp_19, wp_0_24, wp_0_25, xn_0_13, xn_0_14, xn_0_15, xn_0_16, xn_0_17, xn_0_18, xn_0_19, xn_13_0, xn_13_14, xn_13_15, xn_13_16, xn_13_17, xn_13_18, xn_13_19, xn_14_0, xn_14_13, xn_14_15, xn_14_16, xn_14_17, xn_14_18, xn_14_19, xn_15_0, xn_15_13, xn_15_14, xn_15_16, xn_15_17, xn_15_18, xn_15_19, xn_16_0, xn_16_13, xn_16_14, xn_16_15, xn_16_17, xn_16_18, xn_16_19, xn_17_0, xn_17_13, xn_17_14, xn_17_15, xn_17_16, xn_17_18, xn_17_19, xn_18_0, xn_18_13, xn_18_14, xn_18_15, xn_18_16, xn_18_17, xn_18_19, xn_19_0, xn_19_13, xn_19_14, xn_19_15, xn_19_16, xn_19_17, xn_19_18, kr_2, kr_3, kr_4, kr_5, kr_6, kr_7, kr_8, kr_9, kr_10, kr_11, setW_put15, setW_24, setW_25, setW_2, kd_11, kd_12, setW_setW]
    refine P_aload_n (pc := 46) dX6_begins_46 rfl 0 rfl ?_
    refine P_getR (pc := 47) dX6_begins_47 fa_RX6_62 sM_0 fM0_22 ?_
    refine P_iload_n (pc := 50) dX6_begins_50 rfl 2 rfl ?_
    refine P_iconst (pc := 51) dX6_begins_51 ?_
    refine P_zast (pc := 52) dX6_begins_52 sM_18 (by omega) (by omega) (by decide) (by omega) ?_
    try simp only [wr_1, wr_2, wr_3, wr_4, wr_5, wr_6, wr_7, wr_8, wr_9, wr_10, wr_11, wr_12, wr_20, wr_21, wr_22, wr_23, wr_24, wr_25, wr_26, wr_27, wr_28, wr_29, wr_30, wr_13, wr_14, wr_16, wr_17, wr_18, wr_19, wr_15, wo_11, wo_12, wo_14, wo_15, wo_16, wo_30, wo_31, wo_37, wo_40, wo_41, wo_42, wp_13, wp_14, wp_16, wp_17, wp_18, wp_19, wp_0_24, wp_0_25, xn_0_13, xn_0_14, xn_0_15, xn_0_16, xn_0_17, xn_0_18, xn_0_19, xn_13_0, xn_13_14, xn_13_15, xn_13_16, xn_13_17, xn_13_18, xn_13_19, xn_14_0, xn_14_13, xn_14_15, xn_14_16, xn_14_17, xn_14_18, xn_14_19, xn_15_0, xn_15_13, xn_15_14, xn_15_16, xn_15_17, xn_15_18, xn_15_19, xn_16_0, xn_16_13, xn_16_14, xn_16_15, xn_16_17, xn_16_18, xn_16_19, xn_17_0, xn_17_13, xn_17_14, xn_17_15, xn_17_16, xn_17_18, xn_17_19, xn_18_0, xn_18_13, xn_18_14, xn_18_15, xn_18_16, xn_18_17, xn_18_19, xn_19_0, xn_19_13, xn_19_14, xn_19_15, xn_19_16, xn_19_17, xn_19_18, kr_2, kr_3, kr_4, kr_5, kr_6, kr_7, kr_8, kr_9, kr_10, kr_11, setW_put15, setW_24, setW_25, setW_2, kd_11, kd_12, setW_setW]
    refine P_aload_n (pc := 53) dX6_begins_53 rfl 0 rfl ?_
    refine P_getR (pc := 54) dX6_begins_54 fa_RX6_65 sM_0 fM0_23 ?_
    refine P_iload_n (pc := 57) dX6_begins_57 rfl 2 rfl ?_
    refine P_iload_n (pc := 58) dX6_begins_58 rfl 2 rfl ?_
    refine P_aload_n (pc := 59) dX6_begins_59 rfl 0 rfl ?_
    refine P_getI (jj := 11) (pc := 60) dX6_begins_60 fa_RX6_101 sM_0 fM0_11 rfl ?_
    try simp only [wr_1, wr_2, wr_3, wr_4, wr_5, wr_6, wr_7, wr_8, wr_9, wr_10, wr_11, wr_12, wr_20, wr_21, wr_22, wr_23, wr_24, wr_25, wr_26, wr_27, wr_28, wr_29, wr_30, wr_13, wr_14, wr_16, wr_17, wr_18, wr_19, wr_15, wo_11, wo_12, wo_14, wo_15, wo_16, wo_30, wo_31, wo_37, wo_40, wo_41, wo_42, wp_13, wp_14, wp_16, wp_17, wp_18, wp_19, wp_0_24, wp_0_25, xn_0_13, xn_0_14, xn_0_15, xn_0_16, xn_0_17, xn_0_18, xn_0_19, xn_13_0, xn_13_14, xn_13_15, xn_13_16, xn_13_17, xn_13_18, xn_13_19, xn_14_0, xn_14_13, xn_14_15, xn_14_16, xn_14_17, xn_14_18, xn_14_19, xn_15_0, xn_15_13, xn_15_14, xn_15_16, xn_15_17, xn_15_18, xn_15_19, xn_16_0, xn_16_13, xn_16_14, xn_16_15, xn_16_17, xn_16_18, xn_16_19, xn_17_0, xn_17_13, xn_17_14, xn_17_15, xn_17_16, xn_17_18, xn_17_19, xn_18_0, xn_18_13, xn_18_14, xn_18_15, xn_18_16, xn_18_17, xn_18_19, xn_19_0, xn_19_13, xn_19_14, xn_19_15, xn_19_16, xn_19_17, xn_19_18, kr_2, kr_3, kr_4, kr_5, kr_6, kr_7, kr_8, kr_9, kr_10, kr_11, setW_put15, setW_24, setW_25, setW_2, kd_11, kd_12, setW_setW]
    refine P_icmp_ge (tgt := 90) (pc := 63) dX6_begins_63 (by decide) (by first | (unfold InR; omega) | (unfold InR; grind)) (by first | (unfold InR; omega) | (unfold InR; grind)) (fun c_63 => ?_) (fun c_63 => ?_)
    · refine P_iconst (pc := 90) dX6_begins_90 ?_
      refine P_zast (pc := 91) dX6_begins_91 sM_19 (by omega) (by omega) (by decide) (by omega) ?_
      try simp only [wr_1, wr_2, wr_3, wr_4, wr_5, wr_6, wr_7, wr_8, wr_9, wr_10, wr_11, wr_12, wr_20, wr_21, wr_22, wr_23, wr_24, wr_25, wr_26, wr_27, wr_28, wr_29, wr_30, wr_13, wr_14, wr_16, wr_17, wr_18, wr_19, wr_15, wo_11, wo_12, wo_14, wo_15, wo_16, wo_30, wo_31, wo_37, wo_40, wo_41, wo_42, wp_13, wp_14, wp_16, wp_17, wp_18, wp_19, wp_0_24, wp_0_25, xn_0_13, xn_0_14, xn_0_15, xn_0_16, xn_0_17, xn_0_18, xn_0_19, xn_13_0, xn_13_14, xn_13_15, xn_13_16, xn_13_17, xn_13_18, xn_13_19, xn_14_0, xn_14_13, xn_14_15, xn_14_16, xn_14_17, xn_14_18, xn_14_19, xn_15_0, xn_15_13, xn_15_14, xn_15_16, xn_15_17, xn_15_18, xn_15_19, xn_16_0, xn_16_13, xn_16_14, xn_16_15, xn_16_17, xn_16_18, xn_16_19, xn_17_0, xn_17_13, xn_17_14, xn_17_15, xn_17_16, xn_17_18, xn_17_19, xn_18_0, xn_18_13, xn_18_14, xn_18_15, xn_18_16, xn_18_17, xn_18_19, xn_19_0, xn_19_13, xn_19_14, xn_19_15, xn_19_16, xn_19_17, xn_19_18, kr_2, kr_3, kr_4, kr_5, kr_6, kr_7, kr_8, kr_9, kr_10, kr_11, setW_put15, setW_24, setW_25, setW_2, kd_11, kd_12, setW_setW]
      refine P_iinc (L' := [(2, vi _), (0, vr 0), (1, vi _)]) (pc := 92) dX6_begins_92 (by decide) 2 rfl rfl ?_
      refine P_goto (tgt := 12) (pc := 95) dX6_begins_95 (by decide) ?_
      refine P_sub (L' := [(0, vr 0), (1, vi _), (2, vi _)]) [1, 2, 0] rfl ?_
      refine ih (t + 1) _ (by omega) (by omega) (by omega) (BInv_s hB rfl rfl (fun q hq j => ?_))
      rcases hq with rfl | rfl | rfl | rfl | rfl | rfl <;> simp only [wr_1, wr_2, wr_3, wr_4, wr_5, wr_6, wr_7, wr_8, wr_9, wr_10, wr_11, wr_12, wr_20, wr_21, wr_22, wr_23, wr_24, wr_25, wr_26, wr_27, wr_28, wr_29, wr_30, wr_13, wr_14, wr_16, wr_17, wr_18, wr_19, wr_15, wo_11, wo_12, wo_14, wo_15, wo_16, wo_30, wo_31, wo_37, wo_40, wo_41, wo_42, wp_13, wp_14, wp_16, wp_17, wp_18, wp_19, wp_0_24, wp_0_25, xn_0_13, xn_0_14, xn_0_15, xn_0_16, xn_0_17, xn_0_18, xn_0_19, xn_13_0, xn_13_14, xn_13_15, xn_13_16, xn_13_17, xn_13_18, xn_13_19, xn_14_0, xn_14_13, xn_14_15, xn_14_16, xn_14_17, xn_14_18, xn_14_19, xn_15_0, xn_15_13, xn_15_14, xn_15_16, xn_15_17, xn_15_18, xn_15_19, xn_16_0, xn_16_13, xn_16_14, xn_16_15, xn_16_17, xn_16_18, xn_16_19, xn_17_0, xn_17_13, xn_17_14, xn_17_15, xn_17_16, xn_17_18, xn_17_19, xn_18_0, xn_18_13, xn_18_14, xn_18_15, xn_18_16, xn_18_17, xn_18_19, xn_19_0, xn_19_13, xn_19_14, xn_19_15, xn_19_16, xn_19_17, xn_19_18, kr_2, kr_3, kr_4, kr_5, kr_6, kr_7, kr_8, kr_9, kr_10, kr_11, setW_put15, setW_24, setW_25, setW_2, kd_11, kd_12, setW_setW, xput_eq] <;> first | rfl | (rw [g5]; grind)
    · refine P_aload_n (pc := 66) dX6_begins_66 rfl 0 rfl ?_
      refine P_getR (pc := 67) dX6_begins_67 fa_RX6_16 sM_0 fM0_2 ?_
      refine P_iload_n (pc := 70) dX6_begins_70 rfl 2 rfl ?_
      refine P_iald (pc := 71) dX6_begins_71 sM_3 (by omega) (by omega) (by decide) ?_
      try simp only [wr_1, wr_2, wr_3, wr_4, wr_5, wr_6, wr_7, wr_8, wr_9, wr_10, wr_11, wr_12, wr_20, wr_21, wr_22, wr_23, wr_24, wr_25, wr_26, wr_27, wr_28, wr_29, wr_30, wr_13, wr_14, wr_16, wr_17, wr_18, wr_19, wr_15, wo_11, wo_12, wo_14, wo_15, wo_16, wo_30, wo_31, wo_37, wo_40, wo_41, wo_42, wp_13, wp_14, wp_16, wp_17, wp_18, wp_19, wp_0_24, wp_0_25, xn_0_13, xn_0_14, xn_0_15, xn_0_16, xn_0_17, xn_0_18, xn_0_19, xn_13_0, xn_13_14, xn_13_15, xn_13_16, xn_13_17, xn_13_18, xn_13_19, xn_14_0, xn_14_13, xn_14_15, xn_14_16, xn_14_17, xn_14_18, xn_14_19, xn_15_0, xn_15_13, xn_15_14, xn_15_16, xn_15_17, xn_15_18, xn_15_19, xn_16_0, xn_16_13, xn_16_14, xn_16_15, xn_16_17, xn_16_18, xn_16_19, xn_17_0, xn_17_13, xn_17_14, xn_17_15, xn_17_16, xn_17_18, xn_17_19, xn_18_0, xn_18_13, xn_18_14, xn_18_15, xn_18_16, xn_18_17, xn_18_19, xn_19_0, xn_19_13, xn_19_14, xn_19_15, xn_19_16, xn_19_17, xn_19_18, kr_2, kr_3, kr_4, kr_5, kr_6, kr_7, kr_8, kr_9, kr_10, kr_11, setW_put15, setW_24, setW_25, setW_2, kd_11, kd_12, setW_setW]
      refine P_iconst (pc := 72) dX6_begins_72 ?_
      refine P_icmp_eq (tgt := 86) (pc := 73) dX6_begins_73 (by decide) (by first | (unfold InR; omega) | (unfold InR; grind)) (by first | (unfold InR; omega) | (unfold InR; grind)) (fun c_73 => ?_) (fun c_73 => ?_)
      · refine P_iconst (pc := 86) dX6_begins_86 ?_
        refine P_goto (tgt := 91) (pc := 87) dX6_begins_87 (by decide) ?_
        refine P_zast (pc := 91) dX6_begins_91 sM_19 (by omega) (by omega) (by decide) (by omega) ?_
        try simp only [wr_1, wr_2, wr_3, wr_4, wr_5, wr_6, wr_7, wr_8, wr_9, wr_10, wr_11, wr_12, wr_20, wr_21, wr_22, wr_23, wr_24, wr_25, wr_26, wr_27, wr_28, wr_29, wr_30, wr_13, wr_14, wr_16, wr_17, wr_18, wr_19, wr_15, wo_11, wo_12, wo_14, wo_15, wo_16, wo_30, wo_31, wo_37, wo_40, wo_41, wo_42, wp_13, wp_14, wp_16, wp_17, wp_18, wp_19, wp_0_24, wp_0_25, xn_0_13, xn_0_14, xn_0_15, xn_0_16, xn_0_17, xn_0_18, xn_0_19, xn_13_0, xn_13_14, xn_13_15, xn_13_16, xn_13_17, xn_13_18, xn_13_19, xn_14_0, xn_14_13, xn_14_15, xn_14_16, xn_14_17, xn_14_18, xn_14_19, xn_15_0, xn_15_13, xn_15_14, xn_15_16, xn_15_17, xn_15_18, xn_15_19, xn_16_0, xn_16_13, xn_16_14, xn_16_15, xn_16_17, xn_16_18, xn_16_19, xn_17_0, xn_17_13, xn_17_14, xn_17_15, xn_17_16, xn_17_18, xn_17_19, xn_18_0, xn_18_13, xn_18_14, xn_18_15, xn_18_16, xn_18_17, xn_18_19, xn_19_0, xn_19_13, xn_19_14, xn_19_15, xn_19_16, xn_19_17, xn_19_18, kr_2, kr_3, kr_4, kr_5, kr_6, kr_7, kr_8, kr_9, kr_10, kr_11, setW_put15, setW_24, setW_25, setW_2, kd_11, kd_12, setW_setW]
        refine P_iinc (L' := [(2, vi _), (0, vr 0), (1, vi _)]) (pc := 92) dX6_begins_92 (by decide) 2 rfl rfl ?_
        refine P_goto (tgt := 12) (pc := 95) dX6_begins_95 (by decide) ?_
        refine P_sub (L' := [(0, vr 0), (1, vi _), (2, vi _)]) [1, 2, 0] rfl ?_
        refine ih (t + 1) _ (by omega) (by omega) (by omega) (BInv_s hB rfl rfl (fun q hq j => ?_))
        rcases hq with rfl | rfl | rfl | rfl | rfl | rfl <;> simp only [wr_1, wr_2, wr_3, wr_4, wr_5, wr_6, wr_7, wr_8, wr_9, wr_10, wr_11, wr_12, wr_20, wr_21, wr_22, wr_23, wr_24, wr_25, wr_26, wr_27, wr_28, wr_29, wr_30, wr_13, wr_14, wr_16, wr_17, wr_18, wr_19, wr_15, wo_11, wo_12, wo_14, wo_15, wo_16, wo_30, wo_31, wo_37, wo_40, wo_41, wo_42, wp_13, wp_14, wp_16, wp_17, wp_18, wp_19, wp_0_24, wp_0_25, xn_0_13, xn_0_14, xn_0_15, xn_0_16, xn_0_17, xn_0_18, xn_0_19, xn_13_0, xn_13_14, xn_13_15, xn_13_16, xn_13_17, xn_13_18, xn_13_19, xn_14_0, xn_14_13, xn_14_15, xn_14_16, xn_14_17, xn_14_18, xn_14_19, xn_15_0, xn_15_13, xn_15_14, xn_15_16, xn_15_17, xn_15_18, xn_15_19, xn_16_0, xn_16_13, xn_16_14, xn_16_15, xn_16_17, xn_16_18, xn_16_19, xn_17_0, xn_17_13, xn_17_14, xn_17_15, xn_17_16, xn_17_18, xn_17_19, xn_18_0, xn_18_13, xn_18_14, xn_18_15, xn_18_16, xn_18_17, xn_18_19, xn_19_0, xn_19_13, xn_19_14, xn_19_15, xn_19_16, xn_19_17, xn_19_18, kr_2, kr_3, kr_4, kr_5, kr_6, kr_7, kr_8, kr_9, kr_10, kr_11, setW_put15, setW_24, setW_25, setW_2, kd_11, kd_12, setW_setW, xput_eq] <;> first | rfl | (rw [g5]; grind)
      · refine P_aload_n (pc := 76) dX6_begins_76 rfl 0 rfl ?_
        refine P_getR (pc := 77) dX6_begins_77 fa_RX6_13 sM_0 fM0_1 ?_
        refine P_iload_n (pc := 80) dX6_begins_80 rfl 2 rfl ?_
        refine P_iald (pc := 81) dX6_begins_81 sM_2 (by omega) (by omega) (by decide) ?_
        try simp only [wr_1, wr_2, wr_3, wr_4, wr_5, wr_6, wr_7, wr_8, wr_9, wr_10, wr_11, wr_12, wr_20, wr_21, wr_22, wr_23, wr_24, wr_25, wr_26, wr_27, wr_28, wr_29, wr_30, wr_13, wr_14, wr_16, wr_17, wr_18, wr_19, wr_15, wo_11, wo_12, wo_14, wo_15, wo_16, wo_30, wo_31, wo_37, wo_40, wo_41, wo_42, wp_13, wp_14, wp_16, wp_17, wp_18, wp_19, wp_0_24, wp_0_25, xn_0_13, xn_0_14, xn_0_15, xn_0_16, xn_0_17, xn_0_18, xn_0_19, xn_13_0, xn_13_14, xn_13_15, xn_13_16, xn_13_17, xn_13_18, xn_13_19, xn_14_0, xn_14_13, xn_14_15, xn_14_16, xn_14_17, xn_14_18, xn_14_19, xn_15_0, xn_15_13, xn_15_14, xn_15_16, xn_15_17, xn_15_18, xn_15_19, xn_16_0, xn_16_13, xn_16_14, xn_16_15, xn_16_17, xn_16_18, xn_16_19, xn_17_0, xn_17_13, xn_17_14, xn_17_15, xn_17_16, xn_17_18, xn_17_19, xn_18_0, xn_18_13, xn_18_14, xn_18_15, xn_18_16, xn_18_17, xn_18_19, xn_19_0, xn_19_13, xn_19_14, xn_19_15, xn_19_16, xn_19_17, xn_19_18, kr_2, kr_3, kr_4, kr_5, kr_6, kr_7, kr_8, kr_9, kr_10, kr_11, setW_put15, setW_24, setW_25, setW_2, kd_11, kd_12, setW_setW]
        refine P_iconst (pc := 82) dX6_begins_82 ?_
        refine P_icmp_ne (tgt := 90) (pc := 83) dX6_begins_83 (by decide) (by first | (unfold InR; omega) | (unfold InR; grind)) (by first | (unfold InR; omega) | (unfold InR; grind)) (fun c_83 => ?_) (fun c_83 => ?_)
        · refine P_iconst (pc := 90) dX6_begins_90 ?_
          refine P_zast (pc := 91) dX6_begins_91 sM_19 (by omega) (by omega) (by decide) (by omega) ?_
          try simp only [wr_1, wr_2, wr_3, wr_4, wr_5, wr_6, wr_7, wr_8, wr_9, wr_10, wr_11, wr_12, wr_20, wr_21, wr_22, wr_23, wr_24, wr_25, wr_26, wr_27, wr_28, wr_29, wr_30, wr_13, wr_14, wr_16, wr_17, wr_18, wr_19, wr_15, wo_11, wo_12, wo_14, wo_15, wo_16, wo_30, wo_31, wo_37, wo_40, wo_41, wo_42, wp_13, wp_14, wp_16, wp_17, wp_18, wp_19, wp_0_24, wp_0_25, xn_0_13, xn_0_14, xn_0_15, xn_0_16, xn_0_17, xn_0_18, xn_0_19, xn_13_0, xn_13_14, xn_13_15, xn_13_16, xn_13_17, xn_13_18, xn_13_19, xn_14_0, xn_14_13, xn_14_15, xn_14_16, xn_14_17, xn_14_18, xn_14_19, xn_15_0, xn_15_13, xn_15_14, xn_15_16, xn_15_17, xn_15_18, xn_15_19, xn_16_0, xn_16_13, xn_16_14, xn_16_15, xn_16_17, xn_16_18, xn_16_19, xn_17_0, xn_17_13, xn_17_14, xn_17_15, xn_17_16, xn_17_18, xn_17_19, xn_18_0, xn_18_13, xn_18_14, xn_18_15, xn_18_16, xn_18_17, xn_18_19, xn_19_0, xn_19_13, xn_19_14, xn_19_15, xn_19_16, xn_19_17, xn_19_18, kr_2, kr_3, kr_4, kr_5, kr_6, kr_7, kr_8, kr_9, kr_10, kr_11, setW_put15, setW_24, setW_25, setW_2, kd_11, kd_12, setW_setW]
          refine P_iinc (L' := [(2, vi _), (0, vr 0), (1, vi _)]) (pc := 92) dX6_begins_92 (by decide) 2 rfl rfl ?_
          refine P_goto (tgt := 12) (pc := 95) dX6_begins_95 (by decide) ?_
          refine P_sub (L' := [(0, vr 0), (1, vi _), (2, vi _)]) [1, 2, 0] rfl ?_
          refine ih (t + 1) _ (by omega) (by omega) (by omega) (BInv_s hB rfl rfl (fun q hq j => ?_))
          rcases hq with rfl | rfl | rfl | rfl | rfl | rfl <;> simp only [wr_1, wr_2, wr_3, wr_4, wr_5, wr_6, wr_7, wr_8, wr_9, wr_10, wr_11, wr_12, wr_20, wr_21, wr_22, wr_23, wr_24, wr_25, wr_26, wr_27, wr_28, wr_29, wr_30, wr_13, wr_14, wr_16, wr_17, wr_18, wr_19, wr_15, wo_11, wo_12, wo_14, wo_15, wo_16, wo_30, wo_31, wo_37, wo_40, wo_41, wo_42, wp_13, wp_14, wp_16, wp_17, wp_18, wp_19, wp_0_24, wp_0_25, xn_0_13, xn_0_14, xn_0_15, xn_0_16, xn_0_17, xn_0_18, xn_0_19, xn_13_0, xn_13_14, xn_13_15, xn_13_16, xn_13_17, xn_13_18, xn_13_19, xn_14_0, xn_14_13, xn_14_15, xn_14_16, xn_14_17, xn_14_18, xn_14_19, xn_15_0, xn_15_13, xn_15_14, xn_15_16, xn_15_17, xn_15_18, xn_15_19, xn_16_0, xn_16_13, xn_16_14, xn_16_15, xn_16_17, xn_16_18, xn_16_19, xn_17_0, xn_17_13, xn_17_14, xn_17_15, xn_17_16, xn_17_18, xn_17_19, xn_18_0, xn_18_13, xn_18_14, xn_18_15, xn_18_16, xn_18_17, xn_18_19, xn_19_0, xn_19_13, xn_19_14, xn_19_15, xn_19_16, xn_19_17, xn_19_18, kr_2, kr_3, kr_4, kr_5, kr_6, kr_7, kr_8, kr_9, kr_10, kr_11, setW_put15, setW_24, setW_25, setW_2, kd_11, kd_12, setW_setW, xput_eq] <;> first | rfl | (rw [g5]; grind)
        · refine P_iconst (pc := 86) dX6_begins_86 ?_
          refine P_goto (tgt := 91) (pc := 87) dX6_begins_87 (by decide) ?_
          refine P_zast (pc := 91) dX6_begins_91 sM_19 (by omega) (by omega) (by decide) (by omega) ?_
          try simp only [wr_1, wr_2, wr_3, wr_4, wr_5, wr_6, wr_7, wr_8, wr_9, wr_10, wr_11, wr_12, wr_20, wr_21, wr_22, wr_23, wr_24, wr_25, wr_26, wr_27, wr_28, wr_29, wr_30, wr_13, wr_14, wr_16, wr_17, wr_18, wr_19, wr_15, wo_11, wo_12, wo_14, wo_15, wo_16, wo_30, wo_31, wo_37, wo_40, wo_41, wo_42, wp_13, wp_14, wp_16, wp_17, wp_18, wp_19, wp_0_24, wp_0_25, xn_0_13, xn_0_14, xn_0_15, xn_0_16, xn_0_17, xn_0_18, xn_0_19, xn_13_0, xn_13_14, xn_13_15, xn_13_16, xn_13_17, xn_13_18, xn_13_19, xn_14_0, xn_14_13, xn_14_15, xn_14_16, xn_14_17, xn_14_18, xn_14_19, xn_15_0, xn_15_13, xn_15_14, xn_15_16, xn_15_17, xn_15_18, xn_15_19, xn_16_0, xn_16_13, xn_16_14, xn_16_15, xn_16_17, xn_16_18, xn_16_19, xn_17_0, xn_17_13, xn_17_14, xn_17_15, xn_17_16, xn_17_18, xn_17_19, xn_18_0, xn_18_13, xn_18_14, xn_18_15, xn_18_16, xn_18_17, xn_18_19, xn_19_0, xn_19_13, xn_19_14, xn_19_15, xn_19_16, xn_19_17, xn_19_18, kr_2, kr_3, kr_4, kr_5, kr_6, kr_7, kr_8, kr_9, kr_10, kr_11, setW_put15, setW_24, setW_25, setW_2, kd_11, kd_12, setW_setW]
          refine P_iinc (L' := [(2, vi _), (0, vr 0), (1, vi _)]) (pc := 92) dX6_begins_92 (by decide) 2 rfl rfl ?_
          refine P_goto (tgt := 12) (pc := 95) dX6_begins_95 (by decide) ?_
          refine P_sub (L' := [(0, vr 0), (1, vi _), (2, vi _)]) [1, 2, 0] rfl ?_
          refine ih (t + 1) _ (by omega) (by omega) (by omega) (BInv_s hB rfl rfl (fun q hq j => ?_))
          rcases hq with rfl | rfl | rfl | rfl | rfl | rfl <;> simp only [wr_1, wr_2, wr_3, wr_4, wr_5, wr_6, wr_7, wr_8, wr_9, wr_10, wr_11, wr_12, wr_20, wr_21, wr_22, wr_23, wr_24, wr_25, wr_26, wr_27, wr_28, wr_29, wr_30, wr_13, wr_14, wr_16, wr_17, wr_18, wr_19, wr_15, wo_11, wo_12, wo_14, wo_15, wo_16, wo_30, wo_31, wo_37, wo_40, wo_41, wo_42, wp_13, wp_14, wp_16, wp_17, wp_18, wp_19, wp_0_24, wp_0_25, xn_0_13, xn_0_14, xn_0_15, xn_0_16, xn_0_17, xn_0_18, xn_0_19, xn_13_0, xn_13_14, xn_13_15, xn_13_16, xn_13_17, xn_13_18, xn_13_19, xn_14_0, xn_14_13, xn_14_15, xn_14_16, xn_14_17, xn_14_18, xn_14_19, xn_15_0, xn_15_13, xn_15_14, xn_15_16, xn_15_17, xn_15_18, xn_15_19, xn_16_0, xn_16_13, xn_16_14, xn_16_15, xn_16_17, xn_16_18, xn_16_19, xn_17_0, xn_17_13, xn_17_14, xn_17_15, xn_17_16, xn_17_18, xn_17_19, xn_18_0, xn_18_13, xn_18_14, xn_18_15, xn_18_16, xn_18_17, xn_18_19, xn_19_0, xn_19_13, xn_19_14, xn_19_15, xn_19_16, xn_19_17, xn_19_18, kr_2, kr_3, kr_4, kr_5, kr_6, kr_7, kr_8, kr_9, kr_10, kr_11, setW_put15, setW_24, setW_25, setW_2, kd_11, kd_12, setW_setW, xput_eq] <;> first | rfl | (rw [g5]; grind)
set_option maxHeartbeats 1000000 in
set_option maxRecDepth 100000 in
theorem c_X6_begins {μ : Mem} {S : Int → Int} {X : Cel} {o : Int} (hK : KOK (kd μ.1)) (ho : o = 0 ∨ o = 1) : PC shM 0 mX6_begins [vr 0, vi o] (setW μ S X) (QV (fun μ' => ∃ S' : Int → Int, (∀ i : Int, 0 ≤ i → i < μ.1 0 12 → S' i = srcX (kd μ.1) i) ∧ μ' = setW μ S' (begX (kd μ.1) o))) := by
  refine PC.of (by decide +kernel) (Nat.le_of_ble_eq_true rfl) ?_
  refine P_sub (L' := [(0, vr 0), (1, vi o)]) [0, 1] rfl ?_
  refine P_aload_n (pc := 0) dX6_begins_0 rfl 0 rfl ?_
  refine P_iload_n (pc := 1) dX6_begins_1 rfl 1 rfl ?_
  refine P_putZ (jj := 24) (pc := 2) dX6_begins_2 fa_RX6_176 fp_6_24 sM_0 fM0_24 rfl (by omega) ?_
  try simp only [wr_1, wr_2, wr_3, wr_4, wr_5, wr_6, wr_7, wr_8, wr_9, wr_10, wr_11, wr_12, wr_20, wr_21, wr_22, wr_23, wr_24, wr_25, wr_26, wr_27, wr_28, wr_29, wr_30, wr_13, wr_14, wr_16, wr_17, wr_18, wr_19, wr_15, wo_11, wo_12, wo_14, wo_15, wo_16, wo_30, wo_31, wo_37, wo_40, wo_41, wo_42, wp_13, wp_14, wp_16, wp_17, wp_18, wp_19, wp_0_24, wp_0_25, xn_0_13, xn_0_14, xn_0_15, xn_0_16, xn_0_17, xn_0_18, xn_0_19, xn_13_0, xn_13_14, xn_13_15, xn_13_16, xn_13_17, xn_13_18, xn_13_19, xn_14_0, xn_14_13, xn_14_15, xn_14_16, xn_14_17, xn_14_18, xn_14_19, xn_15_0, xn_15_13, xn_15_14, xn_15_16, xn_15_17, xn_15_18, xn_15_19, xn_16_0, xn_16_13, xn_16_14, xn_16_15, xn_16_17, xn_16_18, xn_16_19, xn_17_0, xn_17_13, xn_17_14, xn_17_15, xn_17_16, xn_17_18, xn_17_19, xn_18_0, xn_18_13, xn_18_14, xn_18_15, xn_18_16, xn_18_17, xn_18_19, xn_19_0, xn_19_13, xn_19_14, xn_19_15, xn_19_16, xn_19_17, xn_19_18, kr_2, kr_3, kr_4, kr_5, kr_6, kr_7, kr_8, kr_9, kr_10, kr_11, setW_put15, setW_24, setW_25, setW_2, kd_11, kd_12, setW_setW]
  refine P_aload_n (pc := 5) dX6_begins_5 rfl 0 rfl ?_
  refine P_iconst (pc := 6) dX6_begins_6 ?_
  refine P_putZ (jj := 25) (pc := 7) dX6_begins_7 fa_RX6_180 fp_6_25 sM_0 fM0_25 rfl (by omega) ?_
  try simp only [wr_1, wr_2, wr_3, wr_4, wr_5, wr_6, wr_7, wr_8, wr_9, wr_10, wr_11, wr_12, wr_20, wr_21, wr_22, wr_23, wr_24, wr_25, wr_26, wr_27, wr_28, wr_29, wr_30, wr_13, wr_14, wr_16, wr_17, wr_18, wr_19, wr_15, wo_11, wo_12, wo_14, wo_15, wo_16, wo_30, wo_31, wo_37, wo_40, wo_41, wo_42, wp_13, wp_14, wp_16, wp_17, wp_18, wp_19, wp_0_24, wp_0_25, xn_0_13, xn_0_14, xn_0_15, xn_0_16, xn_0_17, xn_0_18, xn_0_19, xn_13_0, xn_13_14, xn_13_15, xn_13_16, xn_13_17, xn_13_18, xn_13_19, xn_14_0, xn_14_13, xn_14_15, xn_14_16, xn_14_17, xn_14_18, xn_14_19, xn_15_0, xn_15_13, xn_15_14, xn_15_16, xn_15_17, xn_15_18, xn_15_19, xn_16_0, xn_16_13, xn_16_14, xn_16_15, xn_16_17, xn_16_18, xn_16_19, xn_17_0, xn_17_13, xn_17_14, xn_17_15, xn_17_16, xn_17_18, xn_17_19, xn_18_0, xn_18_13, xn_18_14, xn_18_15, xn_18_16, xn_18_17, xn_18_19, xn_19_0, xn_19_13, xn_19_14, xn_19_15, xn_19_16, xn_19_17, xn_19_18, kr_2, kr_3, kr_4, kr_5, kr_6, kr_7, kr_8, kr_9, kr_10, kr_11, setW_put15, setW_24, setW_25, setW_2, kd_11, kd_12, setW_setW]
  refine P_iconst (pc := 10) dX6_begins_10 ?_
  refine P_istore_n (L' := [(2, vi _), (0, vr 0), (1, vi _)]) (pc := 11) dX6_begins_11 rfl (by decide) rfl ?_
  refine P_sub (L' := [(0, vr 0), (1, vi _), (2, vi _)]) [1, 2, 0] rfl ?_
  exact l_X6_begins1 hK 13 0 _ (by omega) (by omega) (by omega) ⟨rfl, rfl, fun q _ j h0 h1 => by omega⟩
