/-- the store holds the things, laws and events of K -/
def KR (K : Cel) (μ : Mem) : Prop := (μ.1 1 6 = K 0 11 ∧ μ.1 1 7 = K 0 12) ∧ μ.1 10 = K 2 ∧ μ.1 11 = K 5 ∧ μ.1 12 = K 6 ∧ (∀ e, μ.1 13 (e * 5) = K 7 e ∧ μ.1 13 (e * 5 + 1) = K 8 e ∧ μ.1 13 (e * 5 + 2) = K 9 e ∧ μ.1 13 (e * 5 + 3) = K 10 e ∧ μ.1 13 (e * 5 + 4) = K 11 e) ∧
  ∃ W : Nat, μ.1 1 10 = (W : Int) ∧ W < 4096 ∧ ∀ t : Nat, (t : Int) < K 0 11 → (W.testBit t = true ↔ (K 3 (t : Int) = 1 ∨ K 2 (t : Int) = 2))
def wbN (W t : Nat) (c : Bool) : Nat := if c = true then W ||| 2 ^ t else W ^^^ (W &&& 2 ^ t)
theorem wbN_bit (W t i : Nat) (c : Bool) : (wbN W t c).testBit i = if i = t then c else W.testBit i := by
  unfold wbN
  split
  · rename_i h
    rw [Nat.testBit_or, Nat.testBit_two_pow]
    by_cases q : i = t
    · subst q; simp [h]
    · have : ¬ t = i := fun e => q e.symm
      simp [q, this]
  · rename_i h
    rw [Nat.testBit_xor, Nat.testBit_and, Nat.testBit_two_pow]
    by_cases q : i = t
    · subst q; cases W.testBit i <;> simp_all
    · have : ¬ t = i := fun e => q e.symm
      simp [q, this]
theorem wbN_lt {W t n : Nat} {c : Bool} (h : W < 2 ^ n) (ht : t < n) : wbN W t c < 2 ^ n := by
  have h2 : 2 ^ t < 2 ^ n := Nat.pow_lt_pow_right (by decide) ht
  unfold wbN
  split
  · exact Nat.or_lt_two_pow h h2
  · exact Nat.xor_lt_two_pow h (Nat.lt_of_le_of_lt Nat.and_le_left h)
def cThing (μ : Mem) (W H : Nat) (k w h : Int) : Mem := putI (putI (putI (putI (putI μ 10 (μ.1 1 6) k) 1 10 (wbN W (μ.1 1 6).toNat (decide (w ≠ 0 ∨ k = 2)) : Int)) 1 11 (wbN H (μ.1 1 6).toNat (decide (h ≠ 0)) : Int)) 1 6 (μ.1 1 6 + 1)) 1 12 (μ.1 1 12 + 1)
set_option maxHeartbeats 1000000 in
set_option maxRecDepth 100000 in
theorem c_X3_isHidden {μ : Mem} {W : Nat} {t : Int} (hW : μ.1 1 11 = (W : Int)) (hW2 : W < 4096) (ht : 0 ≤ t ∧ t < 31) : PC shC 0 mX3_isHidden [vr 1, vi t] (μ) (QI (fun z μ' => z = (if W.testBit t.toNat = true then 1 else 0) ∧ μ' = μ)) := by
  refine PC.of (by decide +kernel) (Nat.le_of_ble_eq_true rfl) ?_
  refine P_sub (L' := [(0, vr 1), (1, vi t)]) [0, 1] rfl ?_
  have d1 := wdiv (w := (W : Int)) (n := t.toNat) (by omega) (by omega)
  have gb : (((W : Int) / 2 ^ t.toNat).toNat &&& (1 : Int).toNat : Nat) = if W.testBit t.toNat = true then 1 else 0 := by rw [oneT, wbit (by omega) ht.1]; rfl
  refine P_aload_n (pc := 0) dX3_isHidden_0 rfl 0 rfl ?_
  refine P_getI (jj := 11) (pc := 1) dX3_isHidden_1 fa_RX3_34 sC_1 fC1_11 rfl ?_
  try simp (disch := decide) only [putI_ne, putI_self, putI_nej]
  rw [hW]
  refine P_iload_n (pc := 4) dX3_isHidden_4 rfl 1 rfl ?_
  refine P_iushr (pc := 5) dX3_isHidden_5 (wI_ushr (by omega) (by omega) (by omega) (by omega)) ?_
  refine P_iconst (pc := 6) dX3_isHidden_6 ?_
  refine P_iand (pc := 7) dX3_isHidden_7 (wI_and d1.1 d1.2 (by omega) (by omega)) ?_
  refine P_iconst (pc := 8) dX3_isHidden_8 ?_
  refine P_icmp_ne (tgt := 16) (pc := 9) dX3_isHidden_9 (by decide) (by first | assumption | (unfold InR; omega) | (rw [gb]; unfold InR; split <;> omega)) (by first | assumption | (unfold InR; omega) | (rw [gb]; unfold InR; split <;> omega)) (fun c_9 => ?_) (fun c_9 => ?_)
  · refine P_iconst (pc := 16) dX3_isHidden_16 ?_
    exact P_zret (pc := 17) dX3_isHidden_17 rfl (by omega) (QI.mk (by rw [gb] at c_9; first | (have e : W.testBit t.toNat = true := (by clear d1; grind); rw [if_pos e]; exact ⟨rfl, rfl⟩) | (have e : ¬ W.testBit t.toNat = true := (by clear d1; grind); rw [if_neg e]; exact ⟨rfl, rfl⟩)))
  · refine P_iconst (pc := 12) dX3_isHidden_12 ?_
    refine P_goto (tgt := 17) (pc := 13) dX3_isHidden_13 (by decide) ?_
    exact P_zret (pc := 17) dX3_isHidden_17 rfl (by omega) (QI.mk (by rw [gb] at c_9; first | (have e : W.testBit t.toNat = true := (by clear d1; grind); rw [if_pos e]; exact ⟨rfl, rfl⟩) | (have e : ¬ W.testBit t.toNat = true := (by clear d1; grind); rw [if_neg e]; exact ⟨rfl, rfl⟩)))
set_option maxHeartbeats 1000000 in
set_option maxRecDepth 100000 in
theorem c_X3_isWet {μ : Mem} {W : Nat} {t : Int} (hW : μ.1 1 10 = (W : Int)) (hW2 : W < 4096) (ht : 0 ≤ t ∧ t < 31) : PC shC 0 mX3_isWet [vr 1, vi t] (μ) (QI (fun z μ' => z = (if W.testBit t.toNat = true then 1 else 0) ∧ μ' = μ)) := by
  refine PC.of (by decide +kernel) (Nat.le_of_ble_eq_true rfl) ?_
  refine P_sub (L' := [(0, vr 1), (1, vi t)]) [0, 1] rfl ?_
  have d1 := wdiv (w := (W : Int)) (n := t.toNat) (by omega) (by omega)
  have gb : (((W : Int) / 2 ^ t.toNat).toNat &&& (1 : Int).toNat : Nat) = if W.testBit t.toNat = true then 1 else 0 := by rw [oneT, wbit (by omega) ht.1]; rfl
  refine P_aload_n (pc := 0) dX3_isWet_0 rfl 0 rfl ?_
  refine P_getI (jj := 10) (pc := 1) dX3_isWet_1 fa_RX3_37 sC_1 fC1_10 rfl ?_
  try simp (disch := decide) only [putI_ne, putI_self, putI_nej]
  rw [hW]
  refine P_iload_n (pc := 4) dX3_isWet_4 rfl 1 rfl ?_
  refine P_iushr (pc := 5) dX3_isWet_5 (wI_ushr (by omega) (by omega) (by omega) (by omega)) ?_
  refine P_iconst (pc := 6) dX3_isWet_6 ?_
  refine P_iand (pc := 7) dX3_isWet_7 (wI_and d1.1 d1.2 (by omega) (by omega)) ?_
  refine P_iconst (pc := 8) dX3_isWet_8 ?_
  refine P_icmp_ne (tgt := 16) (pc := 9) dX3_isWet_9 (by decide) (by first | assumption | (unfold InR; omega) | (rw [gb]; unfold InR; split <;> omega)) (by first | assumption | (unfold InR; omega) | (rw [gb]; unfold InR; split <;> omega)) (fun c_9 => ?_) (fun c_9 => ?_)
  · refine P_iconst (pc := 16) dX3_isWet_16 ?_
    exact P_zret (pc := 17) dX3_isWet_17 rfl (by omega) (QI.mk (by rw [gb] at c_9; first | (have e : W.testBit t.toNat = true := (by clear d1; grind); rw [if_pos e]; exact ⟨rfl, rfl⟩) | (have e : ¬ W.testBit t.toNat = true := (by clear d1; grind); rw [if_neg e]; exact ⟨rfl, rfl⟩)))
  · refine P_iconst (pc := 12) dX3_isWet_12 ?_
    refine P_goto (tgt := 17) (pc := 13) dX3_isWet_13 (by decide) ?_
    exact P_zret (pc := 17) dX3_isWet_17 rfl (by omega) (QI.mk (by rw [gb] at c_9; first | (have e : W.testBit t.toNat = true := (by clear d1; grind); rw [if_pos e]; exact ⟨rfl, rfl⟩) | (have e : ¬ W.testBit t.toNat = true := (by clear d1; grind); rw [if_neg e]; exact ⟨rfl, rfl⟩)))
set_option maxHeartbeats 1000000 in
set_option maxRecDepth 100000 in
theorem c_X3_addThing {μ : Mem} {W H : Nat} {k w h : Int} (hT : 0 ≤ μ.1 1 6 ∧ μ.1 1 6 < 12) (hW : μ.1 1 10 = (W : Int)) (hH : μ.1 1 11 = (H : Int)) (hk : InR k) (hw : w = 0 ∨ w = 1) (hh : h = 0 ∨ h = 1) : PC shC 0 mX3_addThing [vr 1, vi k, vi w, vi h] (μ) (QI (fun z μ' => z = μ.1 1 6 ∧ μ' = cThing μ W H k w h)) := by
  refine PC.of (by decide +kernel) (Nat.le_of_ble_eq_true rfl) ?_
  refine P_sub (L' := [(0, vr 1), (1, vi k), (2, vi w), (3, vi h)]) [0, 1, 2, 3] rfl ?_
  have gw : wbN W (μ.1 1 6).toNat (decide (w ≠ 0 ∨ k = 2)) = if w ≠ 0 ∨ k = 2 then W ||| 2 ^ (μ.1 1 6).toNat else W ^^^ (W &&& 2 ^ (μ.1 1 6).toNat) := by unfold wbN; by_cases q : w ≠ 0 ∨ k = 2 <;> simp [q]
  have gh : wbN H (μ.1 1 6).toNat (decide (h ≠ 0)) = if h ≠ 0 then H ||| 2 ^ (μ.1 1 6).toNat else H ^^^ (H &&& 2 ^ (μ.1 1 6).toNat) := by unfold wbN; by_cases q : h ≠ 0 <;> simp [q]
  refine P_aload_n (pc := 0) dX3_addThing_0 rfl 0 rfl ?_
  refine P_getI (jj := 6) (pc := 1) dX3_addThing_1 fa_RX3_30 sC_1 fC1_6 rfl ?_
  try simp (disch := decide) only [putI_ne, putI_self, putI_nej]
  refine P_istore (L' := [(4, vi _), (0, vr 1), (1, vi _), (2, vi _), (3, vi _)]) (pc := 4) dX3_addThing_4 (by decide) rfl ?_
  refine P_iload (pc := 6) dX3_addThing_6 0 rfl ?_
  refine P_if_lt (tgt := 21) (pc := 8) dX3_addThing_8 (by decide) (by first | assumption | (unfold InR; omega)) (fun c_8 => ?_) (fun c_8 => ?_)
  · refine P_bipush (pc := 21) dX3_addThing_21 (by decide) ?_
    exact P_iret (pc := 23) dX3_addThing_23 rfl (QI.mk (by refine ⟨by first | rfl | (exfalso; omega), ?_⟩; first | (exfalso; omega) | skip; unfold cThing; rw [gw, gh]; first | (rw [if_pos (show w ≠ 0 ∨ k = 2 by omega), if_pos (show h ≠ 0 by omega)]; done) | (rw [if_pos (show w ≠ 0 ∨ k = 2 by omega), if_neg (show ¬ h ≠ 0 by omega)]; done) | (rw [if_neg (show ¬ (w ≠ 0 ∨ k = 2) by omega), if_pos (show h ≠ 0 by omega)]; done) | (rw [if_neg (show ¬ (w ≠ 0 ∨ k = 2) by omega), if_neg (show ¬ h ≠ 0 by omega)]; done)))
  · refine P_iload (pc := 11) dX3_addThing_11 0 rfl ?_
    refine P_aload_n (pc := 13) dX3_addThing_13 rfl 1 rfl ?_
    refine P_getR (pc := 14) dX3_addThing_14 fa_RX3_9 sC_1 fC1_0 ?_
    refine P_alen (pc := 17) dX3_addThing_17 sC_10 (by decide) ?_
    refine P_icmp_lt (tgt := 24) (pc := 18) dX3_addThing_18 (by decide) (by first | assumption | (unfold InR; omega)) (by first | assumption | (unfold InR; omega)) (fun c_18 => ?_) (fun c_18 => ?_)
    · refine P_aload_n (pc := 24) dX3_addThing_24 rfl 1 rfl ?_
      refine P_getR (pc := 25) dX3_addThing_25 fa_RX3_9 sC_1 fC1_0 ?_
      refine P_iload (pc := 28) dX3_addThing_28 0 rfl ?_
      refine P_iload_n (pc := 30) dX3_addThing_30 rfl 2 rfl ?_
      refine P_iast (pc := 31) dX3_addThing_31 sC_10 (by omega) (by omega) (by decide) ?_
      try simp (disch := decide) only [putI_ne, putI_self, putI_nej]
      refine P_iconst (pc := 32) dX3_addThing_32 ?_
      refine P_iload (pc := 33) dX3_addThing_33 0 rfl ?_
      refine P_ishl (pc := 35) dX3_addThing_35 (wN_shl1 (by omega) (by omega)) ?_
      refine P_istore (L' := [(5, vi _), (4, vi _), (0, vr 1), (1, vi _), (2, vi _), (3, vi _)]) (pc := 36) dX3_addThing_36 (by decide) rfl ?_
      refine P_iload_n (pc := 38) dX3_addThing_38 rfl 4 rfl ?_
      refine P_if_ne (tgt := 47) (pc := 39) dX3_addThing_39 (by decide) (by first | assumption | (unfold InR; omega)) (fun c_39 => ?_) (fun c_39 => ?_)
      · refine P_iconst (pc := 47) dX3_addThing_47 ?_
        refine P_goto (tgt := 52) (pc := 48) dX3_addThing_48 (by decide) ?_
        refine P_istore (L' := [(6, vi _), (5, vi _), (4, vi _), (0, vr 1), (1, vi _), (2, vi _), (3, vi _)]) (pc := 52) dX3_addThing_52 (by decide) rfl ?_
        refine P_aload_n (pc := 54) dX3_addThing_54 rfl 3 rfl ?_
        refine P_iload (pc := 55) dX3_addThing_55 0 rfl ?_
        refine P_if_eq (tgt := 70) (pc := 57) dX3_addThing_57 (by decide) (by first | assumption | (unfold InR; omega)) (fun c_57 => ?_) (fun c_57 => ?_)
        · refine P_aload_n (pc := 70) dX3_addThing_70 rfl 3 rfl ?_
          refine P_getI (jj := 10) (pc := 71) dX3_addThing_71 fa_RX3_37 sC_1 fC1_10 rfl ?_
          try simp (disch := decide) only [putI_ne, putI_self, putI_nej]
          rw [hW]
          refine P_iload (pc := 74) dX3_addThing_74 1 rfl ?_
          refine P_iconst (pc := 76) dX3_addThing_76 ?_
          refine P_ixor (pc := 77) dX3_addThing_77 (wI_not _) ?_
          refine P_iand (pc := 78) dX3_addThing_78 (wN_andx) ?_
          refine P_putI (jj := 10) (pc := 79) dX3_addThing_79 fa_RX3_37 fp_3_10 sC_1 fC1_10 rfl ?_
          try simp (disch := decide) only [putI_ne, putI_self, putI_nej]
          refine P_aload_n (pc := 82) dX3_addThing_82 rfl 3 rfl ?_
          refine P_iload_n (pc := 83) dX3_addThing_83 rfl 6 rfl ?_
          refine P_if_eq (tgt := 97) (pc := 84) dX3_addThing_84 (by decide) (by first | assumption | (unfold InR; omega)) (fun c_84 => ?_) (fun c_84 => ?_)
          · refine P_aload_n (pc := 97) dX3_addThing_97 rfl 3 rfl ?_
            refine P_getI (jj := 11) (pc := 98) dX3_addThing_98 fa_RX3_34 sC_1 fC1_11 rfl ?_
            try simp (disch := decide) only [putI_ne, putI_self, putI_nej]
            rw [hH]
            refine P_iload (pc := 101) dX3_addThing_101 1 rfl ?_
            refine P_iconst (pc := 103) dX3_addThing_103 ?_
            refine P_ixor (pc := 104) dX3_addThing_104 (wI_not _) ?_
            refine P_iand (pc := 105) dX3_addThing_105 (wN_andx) ?_
            refine P_putI (jj := 11) (pc := 106) dX3_addThing_106 fa_RX3_34 fp_3_11 sC_1 fC1_11 rfl ?_
            try simp (disch := decide) only [putI_ne, putI_self, putI_nej]
            refine P_aload_n (pc := 109) dX3_addThing_109 rfl 3 rfl ?_
            refine P_dup (pc := 110) dX3_addThing_110 rfl ?_
            refine P_getI (jj := 6) (pc := 111) dX3_addThing_111 fa_RX3_30 sC_1 fC1_6 rfl ?_
            try simp (disch := decide) only [putI_ne, putI_self, putI_nej]
            refine P_iconst (pc := 114) dX3_addThing_114 ?_
            refine P_iadd (pc := 115) dX3_addThing_115 ?_
            refine P_putI (jj := 6) (pc := 116) dX3_addThing_116 fa_RX3_30 fp_3_6 sC_1 fC1_6 rfl ?_
            try simp (disch := decide) only [putI_ne, putI_self, putI_nej]
            refine P_aload_n (pc := 119) dX3_addThing_119 rfl 3 rfl ?_
            refine P_dup (pc := 120) dX3_addThing_120 rfl ?_
            refine P_getI (jj := 12) (pc := 121) dX3_addThing_121 fa_RX3_44 sC_1 fC1_12 rfl ?_
            try simp (disch := decide) only [putI_ne, putI_self, putI_nej]
            refine P_iconst (pc := 124) dX3_addThing_124 ?_
            refine P_iadd (pc := 125) dX3_addThing_125 ?_
            refine P_putI (jj := 12) (pc := 126) dX3_addThing_126 fa_RX3_44 fp_3_12 sC_1 fC1_12 rfl ?_
            try simp (disch := decide) only [putI_ne, putI_self, putI_nej]
            refine P_iload (pc := 129) dX3_addThing_129 2 rfl ?_
            exact P_iret (pc := 131) dX3_addThing_131 rfl (QI.mk (by refine ⟨by first | rfl | (exfalso; omega), ?_⟩; first | (exfalso; omega) | skip; unfold cThing; rw [gw, gh]; first | (rw [if_pos (show w ≠ 0 ∨ k = 2 by omega), if_pos (show h ≠ 0 by omega)]; done) | (rw [if_pos (show w ≠ 0 ∨ k = 2 by omega), if_neg (show ¬ h ≠ 0 by omega)]; done) | (rw [if_neg (show ¬ (w ≠ 0 ∨ k = 2) by omega), if_pos (show h ≠ 0 by omega)]; done) | (rw [if_neg (show ¬ (w ≠ 0 ∨ k = 2) by omega), if_neg (show ¬ h ≠ 0 by omega)]; done)))
          · refine P_aload_n (pc := 87) dX3_addThing_87 rfl 3 rfl ?_
            refine P_getI (jj := 11) (pc := 88) dX3_addThing_88 fa_RX3_34 sC_1 fC1_11 rfl ?_
            try simp (disch := decide) only [putI_ne, putI_self, putI_nej]
            rw [hH]
            refine P_iload (pc := 91) dX3_addThing_91 1 rfl ?_
            refine P_ior (pc := 93) dX3_addThing_93 (wN_or) ?_
            refine P_goto (tgt := 106) (pc := 94) dX3_addThing_94 (by decide) ?_
            refine P_putI (jj := 11) (pc := 106) dX3_addThing_106 fa_RX3_34 fp_3_11 sC_1 fC1_11 rfl ?_
            try simp (disch := decide) only [putI_ne, putI_self, putI_nej]
            refine P_aload_n (pc := 109) dX3_addThing_109 rfl 3 rfl ?_
            refine P_dup (pc := 110) dX3_addThing_110 rfl ?_
            refine P_getI (jj := 6) (pc := 111) dX3_addThing_111 fa_RX3_30 sC_1 fC1_6 rfl ?_
            try simp (disch := decide) only [putI_ne, putI_self, putI_nej]
            refine P_iconst (pc := 114) dX3_addThing_114 ?_
            refine P_iadd (pc := 115) dX3_addThing_115 ?_
            refine P_putI (jj := 6) (pc := 116) dX3_addThing_116 fa_RX3_30 fp_3_6 sC_1 fC1_6 rfl ?_
            try simp (disch := decide) only [putI_ne, putI_self, putI_nej]
            refine P_aload_n (pc := 119) dX3_addThing_119 rfl 3 rfl ?_
            refine P_dup (pc := 120) dX3_addThing_120 rfl ?_
            refine P_getI (jj := 12) (pc := 121) dX3_addThing_121 fa_RX3_44 sC_1 fC1_12 rfl ?_
            try simp (disch := decide) only [putI_ne, putI_self, putI_nej]
            refine P_iconst (pc := 124) dX3_addThing_124 ?_
            refine P_iadd (pc := 125) dX3_addThing_125 ?_
            refine P_putI (jj := 12) (pc := 126) dX3_addThing_126 fa_RX3_44 fp_3_12 sC_1 fC1_12 rfl ?_
            try simp (disch := decide) only [putI_ne, putI_self, putI_nej]
            refine P_iload (pc := 129) dX3_addThing_129 2 rfl ?_
            exact P_iret (pc := 131) dX3_addThing_131 rfl (QI.mk (by refine ⟨by first | rfl | (exfalso; omega), ?_⟩; first | (exfalso; omega) | skip; unfold cThing; rw [gw, gh]; first | (rw [if_pos (show w ≠ 0 ∨ k = 2 by omega), if_pos (show h ≠ 0 by omega)]; done) | (rw [if_pos (show w ≠ 0 ∨ k = 2 by omega), if_neg (show ¬ h ≠ 0 by omega)]; done) | (rw [if_neg (show ¬ (w ≠ 0 ∨ k = 2) by omega), if_pos (show h ≠ 0 by omega)]; done) | (rw [if_neg (show ¬ (w ≠ 0 ∨ k = 2) by omega), if_neg (show ¬ h ≠ 0 by omega)]; done)))
        · refine P_aload_n (pc := 60) dX3_addThing_60 rfl 3 rfl ?_
          refine P_getI (jj := 10) (pc := 61) dX3_addThing_61 fa_RX3_37 sC_1 fC1_10 rfl ?_
          try simp (disch := decide) only [putI_ne, putI_self, putI_nej]
          rw [hW]
          refine P_iload (pc := 64) dX3_addThing_64 1 rfl ?_
          refine P_ior (pc := 66) dX3_addThing_66 (wN_or) ?_
          refine P_goto (tgt := 79) (pc := 67) dX3_addThing_67 (by decide) ?_
          refine P_putI (jj := 10) (pc := 79) dX3_addThing_79 fa_RX3_37 fp_3_10 sC_1 fC1_10 rfl ?_
          try simp (disch := decide) only [putI_ne, putI_self, putI_nej]
          refine P_aload_n (pc := 82) dX3_addThing_82 rfl 3 rfl ?_
          refine P_iload_n (pc := 83) dX3_addThing_83 rfl 6 rfl ?_
          refine P_if_eq (tgt := 97) (pc := 84) dX3_addThing_84 (by decide) (by first | assumption | (unfold InR; omega)) (fun c_84 => ?_) (fun c_84 => ?_)
          · refine P_aload_n (pc := 97) dX3_addThing_97 rfl 3 rfl ?_
            refine P_getI (jj := 11) (pc := 98) dX3_addThing_98 fa_RX3_34 sC_1 fC1_11 rfl ?_
            try simp (disch := decide) only [putI_ne, putI_self, putI_nej]
            rw [hH]
            refine P_iload (pc := 101) dX3_addThing_101 1 rfl ?_
            refine P_iconst (pc := 103) dX3_addThing_103 ?_
            refine P_ixor (pc := 104) dX3_addThing_104 (wI_not _) ?_
            refine P_iand (pc := 105) dX3_addThing_105 (wN_andx) ?_
            refine P_putI (jj := 11) (pc := 106) dX3_addThing_106 fa_RX3_34 fp_3_11 sC_1 fC1_11 rfl ?_
            try simp (disch := decide) only [putI_ne, putI_self, putI_nej]
            refine P_aload_n (pc := 109) dX3_addThing_109 rfl 3 rfl ?_
            refine P_dup (pc := 110) dX3_addThing_110 rfl ?_
            refine P_getI (jj := 6) (pc := 111) dX3_addThing_111 fa_RX3_30 sC_1 fC1_6 rfl ?_
            try simp (disch := decide) only [putI_ne, putI_self, putI_nej]
            refine P_iconst (pc := 114) dX3_addThing_114 ?_
            refine P_iadd (pc := 115) dX3_addThing_115 ?_
            refine P_putI (jj := 6) (pc := 116) dX3_addThing_116 fa_RX3_30 fp_3_6 sC_1 fC1_6 rfl ?_
            try simp (disch := decide) only [putI_ne, putI_self, putI_nej]
            refine P_aload_n (pc := 119) dX3_addThing_119 rfl 3 rfl ?_
            refine P_dup (pc := 120) dX3_addThing_120 rfl ?_
            refine P_getI (jj := 12) (pc := 121) dX3_addThing_121 fa_RX3_44 sC_1 fC1_12 rfl ?_
            try simp (disch := decide) only [putI_ne, putI_self, putI_nej]
            refine P_iconst (pc := 124) dX3_addThing_124 ?_
            refine P_iadd (pc := 125) dX3_addThing_125 ?_
            refine P_putI (jj := 12) (pc := 126) dX3_addThing_126 fa_RX3_44 fp_3_12 sC_1 fC1_12 rfl ?_
            try simp (disch := decide) only [putI_ne, putI_self, putI_nej]
            refine P_iload (pc := 129) dX3_addThing_129 2 rfl ?_
            exact P_iret (pc := 131) dX3_addThing_131 rfl (QI.mk (by refine ⟨by first | rfl | (exfalso; omega), ?_⟩; first | (exfalso; omega) | skip; unfold cThing; rw [gw, gh]; first | (rw [if_pos (show w ≠ 0 ∨ k = 2 by omega), if_pos (show h ≠ 0 by omega)]; done) | (rw [if_pos (show w ≠ 0 ∨ k = 2 by omega), if_neg (show ¬ h ≠ 0 by omega)]; done) | (rw [if_neg (show ¬ (w ≠ 0 ∨ k = 2) by omega), if_pos (show h ≠ 0 by omega)]; done) | (rw [if_neg (show ¬ (w ≠ 0 ∨ k = 2) by omega), if_neg (show ¬ h ≠ 0 by omega)]; done)))
          · refine P_aload_n (pc := 87) dX3_addThing_87 rfl 3 rfl ?_
            refine P_getI (jj := 11) (pc := 88) dX3_addThing_88 fa_RX3_34 sC_1 fC1_11 rfl ?_
            try simp (disch := decide) only [putI_ne, putI_self, putI_nej]
            rw [hH]
            refine P_iload (pc := 91) dX3_addThing_91 1 rfl ?_
            refine P_ior (pc := 93) dX3_addThing_93 (wN_or) ?_
            refine P_goto (tgt := 106) (pc := 94) dX3_addThing_94 (by decide) ?_
            refine P_putI (jj := 11) (pc := 106) dX3_addThing_106 fa_RX3_34 fp_3_11 sC_1 fC1_11 rfl ?_
            try simp (disch := decide) only [putI_ne, putI_self, putI_nej]
            refine P_aload_n (pc := 109) dX3_addThing_109 rfl 3 rfl ?_
            refine P_dup (pc := 110) dX3_addThing_110 rfl ?_
            refine P_getI (jj := 6) (pc := 111) dX3_addThing_111 fa_RX3_30 sC_1 fC1_6 rfl ?_
            try simp (disch := decide) only [putI_ne, putI_self, putI_nej]
            refine P_iconst (pc := 114) dX3_addThing_114 ?_
            refine P_iadd (pc := 115) dX3_addThing_115 ?_
            refine P_putI (jj := 6) (pc := 116) dX3_addThing_116 fa_RX3_30 fp_3_6 sC_1 fC1_6 rfl ?_
            try simp (disch := decide) only [putI_ne, putI_self, putI_nej]
            refine P_aload_n (pc := 119) dX3_addThing_119 rfl 3 rfl ?_
            refine P_dup (pc := 120) dX3_addThing_120 rfl ?_
            refine P_getI (jj := 12) (pc := 121) dX3_addThing_121 fa_RX3_44 sC_1 fC1_12 rfl ?_
            try simp (disch := decide) only [putI_ne, putI_self, putI_nej]
            refine P_iconst (pc := 124) dX3_addThing_124 ?_
            refine P_iadd (pc := 125) dX3_addThing_125 ?_
            refine P_putI (jj := 12) (pc := 126) dX3_addThing_126 fa_RX3_44 fp_3_12 sC_1 fC1_12 rfl ?_
            try simp (disch := decide) only [putI_ne, putI_self, putI_nej]
            refine P_iload (pc := 129) dX3_addThing_129 2 rfl ?_
            exact P_iret (pc := 131) dX3_addThing_131 rfl (QI.mk (by refine ⟨by first | rfl | (exfalso; omega), ?_⟩; first | (exfalso; omega) | skip; unfold cThing; rw [gw, gh]; first | (rw [if_pos (show w ≠ 0 ∨ k = 2 by omega), if_pos (show h ≠ 0 by omega)]; done) | (rw [if_pos (show w ≠ 0 ∨ k = 2 by omega), if_neg (show ¬ h ≠ 0 by omega)]; done) | (rw [if_neg (show ¬ (w ≠ 0 ∨ k = 2) by omega), if_pos (show h ≠ 0 by omega)]; done) | (rw [if_neg (show ¬ (w ≠ 0 ∨ k = 2) by omega), if_neg (show ¬ h ≠ 0 by omega)]; done)))
      · refine P_iload_n (pc := 42) dX3_addThing_42 rfl 3 rfl ?_
        refine P_iconst (pc := 43) dX3_addThing_43 ?_
        refine P_icmp_ne (tgt := 51) (pc := 44) dX3_addThing_44 (by decide) (by first | assumption | (unfold InR; omega)) (by first | assumption | (unfold InR; omega)) (fun c_44 => ?_) (fun c_44 => ?_)
        · refine P_iconst (pc := 51) dX3_addThing_51 ?_
          refine P_istore (L' := [(6, vi _), (5, vi _), (4, vi _), (0, vr 1), (1, vi _), (2, vi _), (3, vi _)]) (pc := 52) dX3_addThing_52 (by decide) rfl ?_
          refine P_aload_n (pc := 54) dX3_addThing_54 rfl 3 rfl ?_
          refine P_iload (pc := 55) dX3_addThing_55 0 rfl ?_
          refine P_if_eq (tgt := 70) (pc := 57) dX3_addThing_57 (by decide) (by first | assumption | (unfold InR; omega)) (fun c_57 => ?_) (fun c_57 => ?_)
          · refine P_aload_n (pc := 70) dX3_addThing_70 rfl 3 rfl ?_
            refine P_getI (jj := 10) (pc := 71) dX3_addThing_71 fa_RX3_37 sC_1 fC1_10 rfl ?_
            try simp (disch := decide) only [putI_ne, putI_self, putI_nej]
            rw [hW]
            refine P_iload (pc := 74) dX3_addThing_74 1 rfl ?_
            refine P_iconst (pc := 76) dX3_addThing_76 ?_
            refine P_ixor (pc := 77) dX3_addThing_77 (wI_not _) ?_
            refine P_iand (pc := 78) dX3_addThing_78 (wN_andx) ?_
            refine P_putI (jj := 10) (pc := 79) dX3_addThing_79 fa_RX3_37 fp_3_10 sC_1 fC1_10 rfl ?_
            try simp (disch := decide) only [putI_ne, putI_self, putI_nej]
            refine P_aload_n (pc := 82) dX3_addThing_82 rfl 3 rfl ?_
            refine P_iload_n (pc := 83) dX3_addThing_83 rfl 6 rfl ?_
            refine P_if_eq (tgt := 97) (pc := 84) dX3_addThing_84 (by decide) (by first | assumption | (unfold InR; omega)) (fun c_84 => ?_) (fun c_84 => ?_)
            · refine P_aload_n (pc := 97) dX3_addThing_97 rfl 3 rfl ?_
              refine P_getI (jj := 11) (pc := 98) dX3_addThing_98 fa_RX3_34 sC_1 fC1_11 rfl ?_
              try simp (disch := decide) only [putI_ne, putI_self, putI_nej]
              rw [hH]
              refine P_iload (pc := 101) dX3_addThing_101 1 rfl ?_
              refine P_iconst (pc := 103) dX3_addThing_103 ?_
              refine P_ixor (pc := 104) dX3_addThing_104 (wI_not _) ?_
              refine P_iand (pc := 105) dX3_addThing_105 (wN_andx) ?_
              refine P_putI (jj := 11) (pc := 106) dX3_addThing_106 fa_RX3_34 fp_3_11 sC_1 fC1_11 rfl ?_
              try simp (disch := decide) only [putI_ne, putI_self, putI_nej]
              refine P_aload_n (pc := 109) dX3_addThing_109 rfl 3 rfl ?_
              refine P_dup (pc := 110) dX3_addThing_110 rfl ?_
              refine P_getI (jj := 6) (pc := 111) dX3_addThing_111 fa_RX3_30 sC_1 fC1_6 rfl ?_
              try simp (disch := decide) only [putI_ne, putI_self, putI_nej]
              refine P_iconst (pc := 114) dX3_addThing_114 ?_
              refine P_iadd (pc := 115) dX3_addThing_115 ?_
              refine P_putI (jj := 6) (pc := 116) dX3_addThing_116 fa_RX3_30 fp_3_6 sC_1 fC1_6 rfl ?_
              try simp (disch := decide) only [putI_ne, putI_self, putI_nej]
              refine P_aload_n (pc := 119) dX3_addThing_119 rfl 3 rfl ?_
              refine P_dup (pc := 120) dX3_addThing_120 rfl ?_
              refine P_getI (jj := 12) (pc := 121) dX3_addThing_121 fa_RX3_44 sC_1 fC1_12 rfl ?_
              try simp (disch := decide) only [putI_ne, putI_self, putI_nej]
              refine P_iconst (pc := 124) dX3_addThing_124 ?_
              refine P_iadd (pc := 125) dX3_addThing_125 ?_
              refine P_putI (jj := 12) (pc := 126) dX3_addThing_126 fa_RX3_44 fp_3_12 sC_1 fC1_12 rfl ?_
              try simp (disch := decide) only [putI_ne, putI_self, putI_nej]
              refine P_iload (pc := 129) dX3_addThing_129 2 rfl ?_
              exact P_iret (pc := 131) dX3_addThing_131 rfl (QI.mk (by refine ⟨by first | rfl | (exfalso; omega), ?_⟩; first | (exfalso; omega) | skip; unfold cThing; rw [gw, gh]; first | (rw [if_pos (show w ≠ 0 ∨ k = 2 by omega), if_pos (show h ≠ 0 by omega)]; done) | (rw [if_pos (show w ≠ 0 ∨ k = 2 by omega), if_neg (show ¬ h ≠ 0 by omega)]; done) | (rw [if_neg (show ¬ (w ≠ 0 ∨ k = 2) by omega), if_pos (show h ≠ 0 by omega)]; done) | (rw [if_neg (show ¬ (w ≠ 0 ∨ k = 2) by omega), if_neg (show ¬ h ≠ 0 by omega)]; done)))
            · refine P_aload_n (pc := 87) dX3_addThing_87 rfl 3 rfl ?_
              refine P_getI (jj := 11) (pc := 88) dX3_addThing_88 fa_RX3_34 sC_1 fC1_11 rfl ?_
              try simp (disch := decide) only [putI_ne, putI_self, putI_nej]
              rw [hH]
              refine P_iload (pc := 91) dX3_addThing_91 1 rfl ?_
              refine P_ior (pc := 93) dX3_addThing_93 (wN_or) ?_
              refine P_goto (tgt := 106) (pc := 94) dX3_addThing_94 (by decide) ?_
              refine P_putI (jj := 11) (pc := 106) dX3_addThing_106 fa_RX3_34 fp_3_11 sC_1 fC1_11 rfl ?_
              try simp (disch := decide) only [putI_ne, putI_self, putI_nej]
              refine P_aload_n (pc := 109) dX3_addThing_109 rfl 3 rfl ?_
              refine P_dup (pc := 110) dX3_addThing_110 rfl ?_
              refine P_getI (jj := 6) (pc := 111) dX3_addThing_111 fa_RX3_30 sC_1 fC1_6 rfl ?_
              try simp (disch := decide) only [putI_ne, putI_self, putI_nej]
              refine P_iconst (pc := 114) dX3_addThing_114 ?_
              refine P_iadd (pc := 115) dX3_addThing_115 ?_
              refine P_putI (jj := 6) (pc := 116) dX3_addThing_116 fa_RX3_30 fp_3_6 sC_1 fC1_6 rfl ?_
              try simp (disch := decide) only [putI_ne, putI_self, putI_nej]
              refine P_aload_n (pc := 119) dX3_addThing_119 rfl 3 rfl ?_
              refine P_dup (pc := 120) dX3_addThing_120 rfl ?_
              refine P_getI (jj := 12) (pc := 121) dX3_addThing_121 fa_RX3_44 sC_1 fC1_12 rfl ?_
              try simp (disch := decide) only [putI_ne, putI_self, putI_nej]
              refine P_iconst (pc := 124) dX3_addThing_124 ?_
              refine P_iadd (pc := 125) dX3_addThing_125 ?_
              refine P_putI (jj := 12) (pc := 126) dX3_addThing_126 fa_RX3_44 fp_3_12 sC_1 fC1_12 rfl ?_
              try simp (disch := decide) only [putI_ne, putI_self, putI_nej]
              refine P_iload (pc := 129) dX3_addThing_129 2 rfl ?_
              exact P_iret (pc := 131) dX3_addThing_131 rfl (QI.mk (by refine ⟨by first | rfl | (exfalso; omega), ?_⟩; first | (exfalso; omega) | skip; unfold cThing; rw [gw, gh]; first | (rw [if_pos (show w ≠ 0 ∨ k = 2 by omega), if_pos (show h ≠ 0 by omega)]; done) | (rw [if_pos (show w ≠ 0 ∨ k = 2 by omega), if_neg (show ¬ h ≠ 0 by omega)]; done) | (rw [if_neg (show ¬ (w ≠ 0 ∨ k = 2) by omega), if_pos (show h ≠ 0 by omega)]; done) | (rw [if_neg (show ¬ (w ≠ 0 ∨ k = 2) by omega), if_neg (show ¬ h ≠ 0 by omega)]; done)))
          · refine P_aload_n (pc := 60) dX3_addThing_60 rfl 3 rfl ?_
            refine P_getI (jj := 10) (pc := 61) dX3_addThing_61 fa_RX3_37 sC_1 fC1_10 rfl ?_
            try simp (disch := decide) only [putI_ne, putI_self, putI_nej]
            rw [hW]
            refine P_iload (pc := 64) dX3_addThing_64 1 rfl ?_
            refine P_ior (pc := 66) dX3_addThing_66 (wN_or) ?_
            refine P_goto (tgt := 79) (pc := 67) dX3_addThing_67 (by decide) ?_
            refine P_putI (jj := 10) (pc := 79) dX3_addThing_79 fa_RX3_37 fp_3_10 sC_1 fC1_10 rfl ?_
            try simp (disch := decide) only [putI_ne, putI_self, putI_nej]
            refine P_aload_n (pc := 82) dX3_addThing_82 rfl 3 rfl ?_
            refine P_iload_n (pc := 83) dX3_addThing_83 rfl 6 rfl ?_
            refine P_if_eq (tgt := 97) (pc := 84) dX3_addThing_84 (by decide) (by first | assumption | (unfold InR; omega)) (fun c_84 => ?_) (fun c_84 => ?_)
            · refine P_aload_n (pc := 97) dX3_addThing_97 rfl 3 rfl ?_
              refine P_getI (jj := 11) (pc := 98) dX3_addThing_98 fa_RX3_34 sC_1 fC1_11 rfl ?_
              try simp (disch := decide) only [putI_ne, putI_self, putI_nej]
              rw [hH]
              refine P_iload (pc := 101) dX3_addThing_101 1 rfl ?_
              refine P_iconst (pc := 103) dX3_addThing_103 ?_
              refine P_ixor (pc := 104) dX3_addThing_104 (wI_not _) ?_
              refine P_iand (pc := 105) dX3_addThing_105 (wN_andx) ?_
              refine P_putI (jj := 11) (pc := 106) dX3_addThing_106 fa_RX3_34 fp_3_11 sC_1 fC1_11 rfl ?_
              try simp (disch := decide) only [putI_ne, putI_self, putI_nej]
              refine P_aload_n (pc := 109) dX3_addThing_109 rfl 3 rfl ?_
              refine P_dup (pc := 110) dX3_addThing_110 rfl ?_
              refine P_getI (jj := 6) (pc := 111) dX3_addThing_111 fa_RX3_30 sC_1 fC1_6 rfl ?_
              try simp (disch := decide) only [putI_ne, putI_self, putI_nej]
              refine P_iconst (pc := 114) dX3_addThing_114 ?_
              refine P_iadd (pc := 115) dX3_addThing_115 ?_
              refine P_putI (jj := 6) (pc := 116) dX3_addThing_116 fa_RX3_30 fp_3_6 sC_1 fC1_6 rfl ?_
              try simp (disch := decide) only [putI_ne, putI_self, putI_nej]
              refine P_aload_n (pc := 119) dX3_addThing_119 rfl 3 rfl ?_
              refine P_dup (pc := 120) dX3_addThing_120 rfl ?_
              refine P_getI (jj := 12) (pc := 121) dX3_addThing_121 fa_RX3_44 sC_1 fC1_12 rfl ?_
              try simp (disch := decide) only [putI_ne, putI_self, putI_nej]
              refine P_iconst (pc := 124) dX3_addThing_124 ?_
              refine P_iadd (pc := 125) dX3_addThing_125 ?_
              refine P_putI (jj := 12) (pc := 126) dX3_addThing_126 fa_RX3_44 fp_3_12 sC_1 fC1_12 rfl ?_
              try simp (disch := decide) only [putI_ne, putI_self, putI_nej]
              refine P_iload (pc := 129) dX3_addThing_129 2 rfl ?_
              exact P_iret (pc := 131) dX3_addThing_131 rfl (QI.mk (by refine ⟨by first | rfl | (exfalso; omega), ?_⟩; first | (exfalso; omega) | skip; unfold cThing; rw [gw, gh]; first | (rw [if_pos (show w ≠ 0 ∨ k = 2 by omega), if_pos (show h ≠ 0 by omega)]; done) | (rw [if_pos (show w ≠ 0 ∨ k = 2 by omega), if_neg (show ¬ h ≠ 0 by omega)]; done) | (rw [if_neg (show ¬ (w ≠ 0 ∨ k = 2) by omega), if_pos (show h ≠ 0 by omega)]; done) | (rw [if_neg (show ¬ (w ≠ 0 ∨ k = 2) by omega), if_neg (show ¬ h ≠ 0 by omega)]; done)))
            · refine P_aload_n (pc := 87) dX3_addThing_87 rfl 3 rfl ?_
              refine P_getI (jj := 11) (pc := 88) dX3_addThing_88 fa_RX3_34 sC_1 fC1_11 rfl ?_
              try simp (disch := decide) only [putI_ne, putI_self, putI_nej]
              rw [hH]
              refine P_iload (pc := 91) dX3_addThing_91 1 rfl ?_
              refine P_ior (pc := 93) dX3_addThing_93 (wN_or) ?_
              refine P_goto (tgt := 106) (pc := 94) dX3_addThing_94 (by decide) ?_
              refine P_putI (jj := 11) (pc := 106) dX3_addThing_106 fa_RX3_34 fp_3_11 sC_1 fC1_11 rfl ?_
              try simp (disch := decide) only [putI_ne, putI_self, putI_nej]
              refine P_aload_n (pc := 109) dX3_addThing_109 rfl 3 rfl ?_
              refine P_dup (pc := 110) dX3_addThing_110 rfl ?_
              refine P_getI (jj := 6) (pc := 111) dX3_addThing_111 fa_RX3_30 sC_1 fC1_6 rfl ?_
              try simp (disch := decide) only [putI_ne, putI_self, putI_nej]
              refine P_iconst (pc := 114) dX3_addThing_114 ?_
              refine P_iadd (pc := 115) dX3_addThing_115 ?_
              refine P_putI (jj := 6) (pc := 116) dX3_addThing_116 fa_RX3_30 fp_3_6 sC_1 fC1_6 rfl ?_
              try simp (disch := decide) only [putI_ne, putI_self, putI_nej]
              refine P_aload_n (pc := 119) dX3_addThing_119 rfl 3 rfl ?_
              refine P_dup (pc := 120) dX3_addThing_120 rfl ?_
              refine P_getI (jj := 12) (pc := 121) dX3_addThing_121 fa_RX3_44 sC_1 fC1_12 rfl ?_
              try simp (disch := decide) only [putI_ne, putI_self, putI_nej]
              refine P_iconst (pc := 124) dX3_addThing_124 ?_
              refine P_iadd (pc := 125) dX3_addThing_125 ?_
              refine P_putI (jj := 12) (pc := 126) dX3_addThing_126 fa_RX3_44 fp_3_12 sC_1 fC1_12 rfl ?_
              try simp (disch := decide) only [putI_ne, putI_self, putI_nej]
              refine P_iload (pc := 129) dX3_addThing_129 2 rfl ?_
              exact P_iret (pc := 131) dX3_addThing_131 rfl (QI.mk (by refine ⟨by first | rfl | (exfalso; omega), ?_⟩; first | (exfalso; omega) | skip; unfold cThing; rw [gw, gh]; first | (rw [if_pos (show w ≠ 0 ∨ k = 2 by omega), if_pos (show h ≠ 0 by omega)]; done) | (rw [if_pos (show w ≠ 0 ∨ k = 2 by omega), if_neg (show ¬ h ≠ 0 by omega)]; done) | (rw [if_neg (show ¬ (w ≠ 0 ∨ k = 2) by omega), if_pos (show h ≠ 0 by omega)]; done) | (rw [if_neg (show ¬ (w ≠ 0 ∨ k = 2) by omega), if_neg (show ¬ h ≠ 0 by omega)]; done)))
        · refine P_iconst (pc := 47) dX3_addThing_47 ?_
          refine P_goto (tgt := 52) (pc := 48) dX3_addThing_48 (by decide) ?_
          refine P_istore (L' := [(6, vi _), (5, vi _), (4, vi _), (0, vr 1), (1, vi _), (2, vi _), (3, vi _)]) (pc := 52) dX3_addThing_52 (by decide) rfl ?_
          refine P_aload_n (pc := 54) dX3_addThing_54 rfl 3 rfl ?_
          refine P_iload (pc := 55) dX3_addThing_55 0 rfl ?_
          refine P_if_eq (tgt := 70) (pc := 57) dX3_addThing_57 (by decide) (by first | assumption | (unfold InR; omega)) (fun c_57 => ?_) (fun c_57 => ?_)
          · refine P_aload_n (pc := 70) dX3_addThing_70 rfl 3 rfl ?_
            refine P_getI (jj := 10) (pc := 71) dX3_addThing_71 fa_RX3_37 sC_1 fC1_10 rfl ?_
            try simp (disch := decide) only [putI_ne, putI_self, putI_nej]
            rw [hW]
            refine P_iload (pc := 74) dX3_addThing_74 1 rfl ?_
            refine P_iconst (pc := 76) dX3_addThing_76 ?_
            refine P_ixor (pc := 77) dX3_addThing_77 (wI_not _) ?_
            refine P_iand (pc := 78) dX3_addThing_78 (wN_andx) ?_
            refine P_putI (jj := 10) (pc := 79) dX3_addThing_79 fa_RX3_37 fp_3_10 sC_1 fC1_10 rfl ?_
            try simp (disch := decide) only [putI_ne, putI_self, putI_nej]
            refine P_aload_n (pc := 82) dX3_addThing_82 rfl 3 rfl ?_
            refine P_iload_n (pc := 83) dX3_addThing_83 rfl 6 rfl ?_
            refine P_if_eq (tgt := 97) (pc := 84) dX3_addThing_84 (by decide) (by first | assumption | (unfold InR; omega)) (fun c_84 => ?_) (fun c_84 => ?_)
            · refine P_aload_n (pc := 97) dX3_addThing_97 rfl 3 rfl ?_
              refine P_getI (jj := 11) (pc := 98) dX3_addThing_98 fa_RX3_34 sC_1 fC1_11 rfl ?_
              try simp (disch := decide) only [putI_ne, putI_self, putI_nej]
              rw [hH]
              refine P_iload (pc := 101) dX3_addThing_101 1 rfl ?_
              refine P_iconst (pc := 103) dX3_addThing_103 ?_
              refine P_ixor (pc := 104) dX3_addThing_104 (wI_not _) ?_
              refine P_iand (pc := 105) dX3_addThing_105 (wN_andx) ?_
              refine P_putI (jj := 11) (pc := 106) dX3_addThing_106 fa_RX3_34 fp_3_11 sC_1 fC1_11 rfl ?_
              try simp (disch := decide) only [putI_ne, putI_self, putI_nej]
              refine P_aload_n (pc := 109) dX3_addThing_109 rfl 3 rfl ?_
              refine P_dup (pc := 110) dX3_addThing_110 rfl ?_
              refine P_getI (jj := 6) (pc := 111) dX3_addThing_111 fa_RX3_30 sC_1 fC1_6 rfl ?_
              try simp (disch := decide) only [putI_ne, putI_self, putI_nej]
              refine P_iconst (pc := 114) dX3_addThing_114 ?_
              refine P_iadd (pc := 115) dX3_addThing_115 ?_
              refine P_putI (jj := 6) (pc := 116) dX3_addThing_116 fa_RX3_30 fp_3_6 sC_1 fC1_6 rfl ?_
              try simp (disch := decide) only [putI_ne, putI_self, putI_nej]
              refine P_aload_n (pc := 119) dX3_addThing_119 rfl 3 rfl ?_
              refine P_dup (pc := 120) dX3_addThing_120 rfl ?_
              refine P_getI (jj := 12) (pc := 121) dX3_addThing_121 fa_RX3_44 sC_1 fC1_12 rfl ?_
              try simp (disch := decide) only [putI_ne, putI_self, putI_nej]
              refine P_iconst (pc := 124) dX3_addThing_124 ?_
              refine P_iadd (pc := 125) dX3_addThing_125 ?_
              refine P_putI (jj := 12) (pc := 126) dX3_addThing_126 fa_RX3_44 fp_3_12 sC_1 fC1_12 rfl ?_
              try simp (disch := decide) only [putI_ne, putI_self, putI_nej]
              refine P_iload (pc := 129) dX3_addThing_129 2 rfl ?_
              exact P_iret (pc := 131) dX3_addThing_131 rfl (QI.mk (by refine ⟨by first | rfl | (exfalso; omega), ?_⟩; first | (exfalso; omega) | skip; unfold cThing; rw [gw, gh]; first | (rw [if_pos (show w ≠ 0 ∨ k = 2 by omega), if_pos (show h ≠ 0 by omega)]; done) | (rw [if_pos (show w ≠ 0 ∨ k = 2 by omega), if_neg (show ¬ h ≠ 0 by omega)]; done) | (rw [if_neg (show ¬ (w ≠ 0 ∨ k = 2) by omega), if_pos (show h ≠ 0 by omega)]; done) | (rw [if_neg (show ¬ (w ≠ 0 ∨ k = 2) by omega), if_neg (show ¬ h ≠ 0 by omega)]; done)))
            · refine P_aload_n (pc := 87) dX3_addThing_87 rfl 3 rfl ?_
              refine P_getI (jj := 11) (pc := 88) dX3_addThing_88 fa_RX3_34 sC_1 fC1_11 rfl ?_
              try simp (disch := decide) only [putI_ne, putI_self, putI_nej]
              rw [hH]
              refine P_iload (pc := 91) dX3_addThing_91 1 rfl ?_
              refine P_ior (pc := 93) dX3_addThing_93 (wN_or) ?_
              refine P_goto (tgt := 106) (pc := 94) dX3_addThing_94 (by decide) ?_
              refine P_putI (jj := 11) (pc := 106) dX3_addThing_106 fa_RX3_34 fp_3_11 sC_1 fC1_11 rfl ?_
              try simp (disch := decide) only [putI_ne, putI_self, putI_nej]
              refine P_aload_n (pc := 109) dX3_addThing_109 rfl 3 rfl ?_
              refine P_dup (pc := 110) dX3_addThing_110 rfl ?_
              refine P_getI (jj := 6) (pc := 111) dX3_addThing_111 fa_RX3_30 sC_1 fC1_6 rfl ?_
              try simp (disch := decide) only [putI_ne, putI_self, putI_nej]
              refine P_iconst (pc := 114) dX3_addThing_114 ?_
              refine P_iadd (pc := 115) dX3_addThing_115 ?_
              refine P_putI (jj := 6) (pc := 116) dX3_addThing_116 fa_RX3_30 fp_3_6 sC_1 fC1_6 rfl ?_
              try simp (disch := decide) only [putI_ne, putI_self, putI_nej]
              refine P_aload_n (pc := 119) dX3_addThing_119 rfl 3 rfl ?_
              refine P_dup (pc := 120) dX3_addThing_120 rfl ?_
              refine P_getI (jj := 12) (pc := 121) dX3_addThing_121 fa_RX3_44 sC_1 fC1_12 rfl ?_
              try simp (disch := decide) only [putI_ne, putI_self, putI_nej]
              refine P_iconst (pc := 124) dX3_addThing_124 ?_
              refine P_iadd (pc := 125) dX3_addThing_125 ?_
              refine P_putI (jj := 12) (pc := 126) dX3_addThing_126 fa_RX3_44 fp_3_12 sC_1 fC1_12 rfl ?_
              try simp (disch := decide) only [putI_ne, putI_self, putI_nej]
              refine P_iload (pc := 129) dX3_addThing_129 2 rfl ?_
              exact P_iret (pc := 131) dX3_addThing_131 rfl (QI.mk (by refine ⟨by first | rfl | (exfalso; omega), ?_⟩; first | (exfalso; omega) | skip; unfold cThing; rw [gw, gh]; first | (rw [if_pos (show w ≠ 0 ∨ k = 2 by omega), if_pos (show h ≠ 0 by omega)]; done) | (rw [if_pos (show w ≠ 0 ∨ k = 2 by omega), if_neg (show ¬ h ≠ 0 by omega)]; done) | (rw [if_neg (show ¬ (w ≠ 0 ∨ k = 2) by omega), if_pos (show h ≠ 0 by omega)]; done) | (rw [if_neg (show ¬ (w ≠ 0 ∨ k = 2) by omega), if_neg (show ¬ h ≠ 0 by omega)]; done)))
          · refine P_aload_n (pc := 60) dX3_addThing_60 rfl 3 rfl ?_
            refine P_getI (jj := 10) (pc := 61) dX3_addThing_61 fa_RX3_37 sC_1 fC1_10 rfl ?_
            try simp (disch := decide) only [putI_ne, putI_self, putI_nej]
            rw [hW]
            refine P_iload (pc := 64) dX3_addThing_64 1 rfl ?_
            refine P_ior (pc := 66) dX3_addThing_66 (wN_or) ?_
            refine P_goto (tgt := 79) (pc := 67) dX3_addThing_67 (by decide) ?_
            refine P_putI (jj := 10) (pc := 79) dX3_addThing_79 fa_RX3_37 fp_3_10 sC_1 fC1_10 rfl ?_
            try simp (disch := decide) only [putI_ne, putI_self, putI_nej]
            refine P_aload_n (pc := 82) dX3_addThing_82 rfl 3 rfl ?_
            refine P_iload_n (pc := 83) dX3_addThing_83 rfl 6 rfl ?_
            refine P_if_eq (tgt := 97) (pc := 84) dX3_addThing_84 (by decide) (by first | assumption | (unfold InR; omega)) (fun c_84 => ?_) (fun c_84 => ?_)
            · refine P_aload_n (pc := 97) dX3_addThing_97 rfl 3 rfl ?_
              refine P_getI (jj := 11) (pc := 98) dX3_addThing_98 fa_RX3_34 sC_1 fC1_11 rfl ?_
              try simp (disch := decide) only [putI_ne, putI_self, putI_nej]
              rw [hH]
              refine P_iload (pc := 101) dX3_addThing_101 1 rfl ?_
              refine P_iconst (pc := 103) dX3_addThing_103 ?_
              refine P_ixor (pc := 104) dX3_addThing_104 (wI_not _) ?_
              refine P_iand (pc := 105) dX3_addThing_105 (wN_andx) ?_
              refine P_putI (jj := 11) (pc := 106) dX3_addThing_106 fa_RX3_34 fp_3_11 sC_1 fC1_11 rfl ?_
              try simp (disch := decide) only [putI_ne, putI_self, putI_nej]
              refine P_aload_n (pc := 109) dX3_addThing_109 rfl 3 rfl ?_
              refine P_dup (pc := 110) dX3_addThing_110 rfl ?_
              refine P_getI (jj := 6) (pc := 111) dX3_addThing_111 fa_RX3_30 sC_1 fC1_6 rfl ?_
              try simp (disch := decide) only [putI_ne, putI_self, putI_nej]
              refine P_iconst (pc := 114) dX3_addThing_114 ?_
              refine P_iadd (pc := 115) dX3_addThing_115 ?_
              refine P_putI (jj := 6) (pc := 116) dX3_addThing_116 fa_RX3_30 fp_3_6 sC_1 fC1_6 rfl ?_
              try simp (disch := decide) only [putI_ne, putI_self, putI_nej]
              refine P_aload_n (pc := 119) dX3_addThing_119 rfl 3 rfl ?_
              refine P_dup (pc := 120) dX3_addThing_120 rfl ?_
              refine P_getI (jj := 12) (pc := 121) dX3_addThing_121 fa_RX3_44 sC_1 fC1_12 rfl ?_
              try simp (disch := decide) only [putI_ne, putI_self, putI_nej]
              refine P_iconst (pc := 124) dX3_addThing_124 ?_
              refine P_iadd (pc := 125) dX3_addThing_125 ?_
              refine P_putI (jj := 12) (pc := 126) dX3_addThing_126 fa_RX3_44 fp_3_12 sC_1 fC1_12 rfl ?_
              try simp (disch := decide) only [putI_ne, putI_self, putI_nej]
              refine P_iload (pc := 129) dX3_addThing_129 2 rfl ?_
              exact P_iret (pc := 131) dX3_addThing_131 rfl (QI.mk (by refine ⟨by first | rfl | (exfalso; omega), ?_⟩; first | (exfalso; omega) | skip; unfold cThing; rw [gw, gh]; first | (rw [if_pos (show w ≠ 0 ∨ k = 2 by omega), if_pos (show h ≠ 0 by omega)]; done) | (rw [if_pos (show w ≠ 0 ∨ k = 2 by omega), if_neg (show ¬ h ≠ 0 by omega)]; done) | (rw [if_neg (show ¬ (w ≠ 0 ∨ k = 2) by omega), if_pos (show h ≠ 0 by omega)]; done) | (rw [if_neg (show ¬ (w ≠ 0 ∨ k = 2) by omega), if_neg (show ¬ h ≠ 0 by omega)]; done)))
            · refine P_aload_n (pc := 87) dX3_addThing_87 rfl 3 rfl ?_
              refine P_getI (jj := 11) (pc := 88) dX3_addThing_88 fa_RX3_34 sC_1 fC1_11 rfl ?_
              try simp (disch := decide) only [putI_ne, putI_self, putI_nej]
              rw [hH]
              refine P_iload (pc := 91) dX3_addThing_91 1 rfl ?_
              refine P_ior (pc := 93) dX3_addThing_93 (wN_or) ?_
              refine P_goto (tgt := 106) (pc := 94) dX3_addThing_94 (by decide) ?_
              refine P_putI (jj := 11) (pc := 106) dX3_addThing_106 fa_RX3_34 fp_3_11 sC_1 fC1_11 rfl ?_
              try simp (disch := decide) only [putI_ne, putI_self, putI_nej]
              refine P_aload_n (pc := 109) dX3_addThing_109 rfl 3 rfl ?_
              refine P_dup (pc := 110) dX3_addThing_110 rfl ?_
              refine P_getI (jj := 6) (pc := 111) dX3_addThing_111 fa_RX3_30 sC_1 fC1_6 rfl ?_
              try simp (disch := decide) only [putI_ne, putI_self, putI_nej]
              refine P_iconst (pc := 114) dX3_addThing_114 ?_
              refine P_iadd (pc := 115) dX3_addThing_115 ?_
              refine P_putI (jj := 6) (pc := 116) dX3_addThing_116 fa_RX3_30 fp_3_6 sC_1 fC1_6 rfl ?_
              try simp (disch := decide) only [putI_ne, putI_self, putI_nej]
              refine P_aload_n (pc := 119) dX3_addThing_119 rfl 3 rfl ?_
              refine P_dup (pc := 120) dX3_addThing_120 rfl ?_
              refine P_getI (jj := 12) (pc := 121) dX3_addThing_121 fa_RX3_44 sC_1 fC1_12 rfl ?_
              try simp (disch := decide) only [putI_ne, putI_self, putI_nej]
              refine P_iconst (pc := 124) dX3_addThing_124 ?_
              refine P_iadd (pc := 125) dX3_addThing_125 ?_
              refine P_putI (jj := 12) (pc := 126) dX3_addThing_126 fa_RX3_44 fp_3_12 sC_1 fC1_12 rfl ?_
              try simp (disch := decide) only [putI_ne, putI_self, putI_nej]
              refine P_iload (pc := 129) dX3_addThing_129 2 rfl ?_
              exact P_iret (pc := 131) dX3_addThing_131 rfl (QI.mk (by refine ⟨by first | rfl | (exfalso; omega), ?_⟩; first | (exfalso; omega) | skip; unfold cThing; rw [gw, gh]; first | (rw [if_pos (show w ≠ 0 ∨ k = 2 by omega), if_pos (show h ≠ 0 by omega)]; done) | (rw [if_pos (show w ≠ 0 ∨ k = 2 by omega), if_neg (show ¬ h ≠ 0 by omega)]; done) | (rw [if_neg (show ¬ (w ≠ 0 ∨ k = 2) by omega), if_pos (show h ≠ 0 by omega)]; done) | (rw [if_neg (show ¬ (w ≠ 0 ∨ k = 2) by omega), if_neg (show ¬ h ≠ 0 by omega)]; done)))
    · refine P_bipush (pc := 21) dX3_addThing_21 (by decide) ?_
      exact P_iret (pc := 23) dX3_addThing_23 rfl (QI.mk (by refine ⟨by first | rfl | (exfalso; omega), ?_⟩; first | (exfalso; omega) | skip; unfold cThing; rw [gw, gh]; first | (rw [if_pos (show w ≠ 0 ∨ k = 2 by omega), if_pos (show h ≠ 0 by omega)]; done) | (rw [if_pos (show w ≠ 0 ∨ k = 2 by omega), if_neg (show ¬ h ≠ 0 by omega)]; done) | (rw [if_neg (show ¬ (w ≠ 0 ∨ k = 2) by omega), if_pos (show h ≠ 0 by omega)]; done) | (rw [if_neg (show ¬ (w ≠ 0 ∨ k = 2) by omega), if_neg (show ¬ h ≠ 0 by omega)]; done)))
set_option maxHeartbeats 1000000 in
set_option maxRecDepth 100000 in
theorem l_X3_named {μ : Mem} {K : Cel} (hR : KR K μ) (hK : KOK K) : ∀ (n j : Nat) (e : Int), e = (j : Int) → j ≤ (K 0 12).toNat → (K 0 12).toNat - j < n → PW shC 1 mX3_namedUnknowns 4 [(0, vr 1), (1, vi (nmN K j : Int)), (2, vi e)] [] μ (QI (fun z μ' => z = (nmK K : Int) ∧ μ' = μ)) := by
  intro n
  induction n with
  | zero => intro j e _ _ q; omega
  | succ n ih =>
  intro j e he hj hn
  have h12 := hR.1.2
  have hK2 := hK.2.1
  have g1 := hK.2.2.2.2.2.2.2.2.1 e
  have g2 : nmN K j < 64 := nmN_lt hK.2.2.2.2.2.2.2.2.1 (fun e h0 h1 => (hK.2.2.2.2.2.2.2.2.2 e h0 h1).2.2.2) j (by omega)
  have g3 : e < K 0 12 → (K 11 e < 6 ∨ 10 ≤ K 11 e) := fun q => (hK.2.2.2.2.2.2.2.2.2 e (by omega) q).2.2.2
  have g4 : nmN K (j + 1) = nmN K j ||| (if K 11 e < 0 then 0 else 2 ^ (K 11 e % 10).toNat) := by subst he; rfl
  have g5 := (hR.2.2.2.2.1 e).2.2.2.2
  refine P_iload_n (pc := 4) dX3_namedUnknowns_4 rfl 2 rfl ?_
  refine P_aload_n (pc := 5) dX3_namedUnknowns_5 rfl 0 rfl ?_
  refine P_getI (jj := 7) (pc := 6) dX3_namedUnknowns_6 fa_RX3_47 sC_1 fC1_7 rfl ?_
  try simp (disch := decide) only [putI_ne, putI_self, putI_nej]
  rw [h12]
  refine P_icmp_ge (tgt := 48) (pc := 9) dX3_namedUnknowns_9 (by decide) (by first | assumption | (unfold InR; omega)) (by first | assumption | (unfold InR; omega)) (fun c_9 => ?_) (fun c_9 => ?_)
  · refine P_iload_n (pc := 48) dX3_namedUnknowns_48 rfl 1 rfl ?_
    exact P_iret (pc := 49) dX3_namedUnknowns_49 rfl (QI.mk (by have e9 : j = (K 0 12).toNat := (by omega); rw [e9]; exact ⟨rfl, rfl⟩))
  · refine P_aload_n (pc := 12) dX3_namedUnknowns_12 rfl 0 rfl ?_
    refine P_iload_n (pc := 13) dX3_namedUnknowns_13 rfl 2 rfl ?_
    refine P_iconst (pc := 14) dX3_namedUnknowns_14 ?_
    refine P_callVi (Y' := mX3_eventPart) (as := [_, _]) (pc := 15) dX3_namedUnknowns_15 rfl (by decide : 0 < 1) sC_1 rfl ml_RX3_60 im_X3_eventPart se_X3_eventPart mk_X3_eventPart (Nat.le_of_ble_eq_true rfl) (c_X3_eventPart (by omega) (by omega)) (fun z_ μ_ hq => ?_)
    obtain ⟨rfl, hμ_⟩ := hq
    have hμ_ := hμ_.symm
    subst hμ_
    rw [g5]
    try simp (disch := decide) only [putI_ne, putI_self, putI_nej]
    refine P_istore_n (L' := [(3, vi _), (0, vr 1), (1, vi _), (2, vi _)]) (pc := 18) dX3_namedUnknowns_18 rfl (by decide) rfl ?_
    refine P_iload_n (pc := 19) dX3_namedUnknowns_19 rfl 0 rfl ?_
    refine P_if_lt (tgt := 42) (pc := 20) dX3_namedUnknowns_20 (by decide) (by first | assumption | (unfold InR; omega)) (fun c_20 => ?_) (fun c_20 => ?_)
    · refine P_iinc (L' := [(2, vi _), (3, vi _), (0, vr 1), (1, vi _)]) (pc := 42) dX3_namedUnknowns_42 (by decide) 3 rfl rfl ?_
      refine P_goto (tgt := 4) (pc := 45) dX3_namedUnknowns_45 (by decide) ?_
      refine P_sub (L' := [(0, vr 1), (1, vi _), (2, vi _)]) [2, 3, 0] rfl ?_
      refine P_cast (L' := [(0, vr 1), (1, vi (nmN K (j + 1) : Int)), (2, vi (e + 1))]) ?_ rfl (ih (j + 1) (e + 1) (by omega) (by omega) (by omega))
      rw [g4]
      first
        | (rw [if_pos (by omega), Nat.or_zero]; done)
        | (rw [if_neg (by omega), show K 11 e % 10 = K 11 e by omega]; done)
        | (rw [if_neg (by omega), show K 11 e % 10 = K 11 e - 10 by omega]; done)
    · refine P_iload_n (pc := 23) dX3_namedUnknowns_23 rfl 2 rfl ?_
      refine P_iconst (pc := 24) dX3_namedUnknowns_24 ?_
      refine P_iload_n (pc := 25) dX3_namedUnknowns_25 rfl 0 rfl ?_
      refine P_bipush (pc := 26) dX3_namedUnknowns_26 (by decide) ?_
      refine P_icmp_ge (tgt := 35) (pc := 28) dX3_namedUnknowns_28 (by decide) (by first | assumption | (unfold InR; omega)) (by first | assumption | (unfold InR; omega)) (fun c_28 => ?_) (fun c_28 => ?_)
      · refine P_iload_n (pc := 35) dX3_namedUnknowns_35 rfl 0 rfl ?_
        refine P_bipush (pc := 36) dX3_namedUnknowns_36 (by decide) ?_
        refine P_isub (pc := 38) dX3_namedUnknowns_38 ?_
        refine P_ishl (pc := 39) dX3_namedUnknowns_39 (wN_shl1 (by omega) (by omega)) ?_
        refine P_ior (pc := 40) dX3_namedUnknowns_40 (wN_or) ?_
        refine P_istore_n (L' := [(1, vi _), (3, vi _), (0, vr 1), (2, vi _)]) (pc := 41) dX3_namedUnknowns_41 rfl (by decide) rfl ?_
        refine P_iinc (L' := [(2, vi _), (1, vi _), (3, vi _), (0, vr 1)]) (pc := 42) dX3_namedUnknowns_42 (by decide) 3 rfl rfl ?_
        refine P_goto (tgt := 4) (pc := 45) dX3_namedUnknowns_45 (by decide) ?_
        refine P_sub (L' := [(0, vr 1), (1, vi _), (2, vi _)]) [3, 1, 0] rfl ?_
        refine P_cast (L' := [(0, vr 1), (1, vi (nmN K (j + 1) : Int)), (2, vi (e + 1))]) ?_ rfl (ih (j + 1) (e + 1) (by omega) (by omega) (by omega))
        rw [g4]
        first
          | (rw [if_pos (by omega), Nat.or_zero]; done)
          | (rw [if_neg (by omega), show K 11 e % 10 = K 11 e by omega]; done)
          | (rw [if_neg (by omega), show K 11 e % 10 = K 11 e - 10 by omega]; done)
      · refine P_iload_n (pc := 31) dX3_namedUnknowns_31 rfl 0 rfl ?_
        refine P_goto (tgt := 39) (pc := 32) dX3_namedUnknowns_32 (by decide) ?_
        refine P_ishl (pc := 39) dX3_namedUnknowns_39 (wN_shl1 (by omega) (by omega)) ?_
        refine P_ior (pc := 40) dX3_namedUnknowns_40 (wN_or) ?_
        refine P_istore_n (L' := [(1, vi _), (3, vi _), (0, vr 1), (2, vi _)]) (pc := 41) dX3_namedUnknowns_41 rfl (by decide) rfl ?_
        refine P_iinc (L' := [(2, vi _), (1, vi _), (3, vi _), (0, vr 1)]) (pc := 42) dX3_namedUnknowns_42 (by decide) 3 rfl rfl ?_
        refine P_goto (tgt := 4) (pc := 45) dX3_namedUnknowns_45 (by decide) ?_
        refine P_sub (L' := [(0, vr 1), (1, vi _), (2, vi _)]) [3, 1, 0] rfl ?_
        refine P_cast (L' := [(0, vr 1), (1, vi (nmN K (j + 1) : Int)), (2, vi (e + 1))]) ?_ rfl (ih (j + 1) (e + 1) (by omega) (by omega) (by omega))
        rw [g4]
        first
          | (rw [if_pos (by omega), Nat.or_zero]; done)
          | (rw [if_neg (by omega), show K 11 e % 10 = K 11 e by omega]; done)
          | (rw [if_neg (by omega), show K 11 e % 10 = K 11 e - 10 by omega]; done)
set_option maxHeartbeats 1000000 in
set_option maxRecDepth 100000 in
theorem c_X3_namedUnknowns {μ : Mem} {K : Cel} (hR : KR K μ) (hK : KOK K) : PC shC 1 mX3_namedUnknowns [vr 1] (μ) (QI (fun z μ' => z = (nmK K : Int) ∧ μ' = μ)) := by
  refine PC.of (by decide +kernel) (Nat.le_of_ble_eq_true rfl) ?_
  refine P_sub (L' := [(0, vr 1)]) [0] rfl ?_
  have h12 := hR.1.2
  have hK2 := hK.2.1
  refine P_iconst (pc := 0) dX3_namedUnknowns_0 ?_
  refine P_istore_n (L' := [(1, vi _), (0, vr 1)]) (pc := 1) dX3_namedUnknowns_1 rfl (by decide) rfl ?_
  refine P_iconst (pc := 2) dX3_namedUnknowns_2 ?_
  refine P_istore_n (L' := [(2, vi _), (1, vi _), (0, vr 1)]) (pc := 3) dX3_namedUnknowns_3 rfl (by decide) rfl ?_
  refine P_sub (L' := [(0, vr 1), (1, vi _), (2, vi _)]) [2, 1, 0] rfl ?_
  rw [show (0 : Int) = ((nmN K 0 : Nat) : Int) from rfl]
  exact l_X3_named hR hK ((K 0 12).toNat + 1) 0 _ rfl (Nat.zero_le _) (by omega)
