theorem pl_putI {μ : Mem} {a i v : Int} {q : Nat} (h : q ≠ 8) : putI (plM μ a) q i v = plM (putI μ q i v) a := by
  refine Prod.ext ?_ rfl
  funext q' j
  by_cases h1 : q' = q
  · subst h1
    by_cases k : j = i <;> simp [plM, putI, k, h]
  · by_cases h2 : q' = 8
    · subst h2; simp [plM, putI, h1, Ne.symm h]
    · simp [plM, putI, h1, h2]
theorem pl_thing {μ : Mem} {a k w h : Int} {W H : Nat} : cThing (plM μ a) W H k w h = plM (cThing μ W H k w h) a := by
  unfold cThing
  simp (disch := decide) only [pl_q, pl_putI]
theorem pl_take {μ : Mem} {a k v : Int} : cTake (plM μ a) k v = plM (cTake μ k v) a := by
  unfold cTake
  simp (disch := decide) only [pl_q, pl_putI]
theorem pl_event {μ : Mem} {a h k x b u : Int} : cEvent (plM μ a) h k x b u = plM (cEvent μ h k x b u) a := by
  unfold cEvent
  simp (disch := decide) only [pl_q, pl_putI]
theorem rdT_f {T : Int → Int} {L d b : Int} (h : (dgR T L d b).1 < 0) : rdT T L d b = (0, (dgR T L d b).2, 0, 0, 0) := if_pos h
theorem rdT_g {T : Int → Int} {L d b k b' : Int} (e : dgR T L d b = (k, b')) (h : ¬ k < 0) (h2 : (tsR T L 59 (tsR T L 112 (tsR T L 119 b').2).2).1 = 0) : rdT T L d b = (0, (tsR T L 59 (tsR T L 112 (tsR T L 119 b').2).2).2, 0, 0, 0) := by
  unfold rdT
  rw [e]
  dsimp only
  rw [if_neg h, if_pos h2]
theorem rdT_t {T : Int → Int} {L d b k b' : Int} (e : dgR T L d b = (k, b')) (h : ¬ k < 0) (h2 : ¬ (tsR T L 59 (tsR T L 112 (tsR T L 119 b').2).2).1 = 0) : rdT T L d b = (1, (tsR T L 59 (tsR T L 112 (tsR T L 119 b').2).2).2, k, (tsR T L 119 b').1, (tsR T L 112 (tsR T L 119 b').2).1) := by
  unfold rdT
  rw [e]
  dsimp only
  rw [if_neg h, if_neg h2]
def mjC (μ : Mem) : Int := if 0 < μ.1 1 6 ∧ μ.1 10 (μ.1 1 6 - 1) ≠ 4 then 5 else 4
theorem rnC_2 {T : Int → Int} {L lo hi a : Int} (hT : TL T L) (hl : 0 ≤ lo) : (rnC T L lo hi (-1) a).2 = (nmR T L lo hi a).2 ∧ (((nmR T L lo hi a).1 < 0 ∧ (rnC T L lo hi (-1) a).1 = -2) ∨ (0 ≤ (nmR T L lo hi a).1 ∧ (rnC T L lo hi (-1) a).1 = (nmR T L lo hi a).1)) := by
  have h := nmR_in (lo := lo) (hi := hi) (a := a) hT hl
  unfold rnC
  by_cases q : (nmR T L lo hi a).1 < 0 ∨ (nmR T L lo hi a).1 = -1
  · rw [if_pos q]; exact ⟨by dsimp only; omega, Or.inl ⟨by omega, rfl⟩⟩
  · rw [if_neg q]; exact ⟨rfl, Or.inr ⟨by omega, rfl⟩⟩
set_option maxHeartbeats 1000000 in
set_option maxRecDepth 100000 in
theorem c_X1_readThing {μ : Mem} {a : Int} {W H : Nat} (hT : TL (μ.1 37) (μ.1 8 2)) (ha : 0 ≤ a ∧ a ≤ μ.1 8 2) (hlt : a < μ.1 8 2) (h6 : 0 ≤ μ.1 1 6 ∧ μ.1 1 6 < 12) (hk10 : ∀ j, 0 ≤ μ.1 10 j ∧ μ.1 10 j ≤ 5) (hW : μ.1 1 10 = (W : Int)) (hH : μ.1 1 11 = (H : Int)) : PC shC 2 mX1_readThing [vr 8] (plM μ a) (QI (fun z μ' => z = (rdT (μ.1 37) (μ.1 8 2) (mjC μ) (a + 1)).1 ∧ μ' = plM (if (rdT (μ.1 37) (μ.1 8 2) (mjC μ) (a + 1)).1 = 1 then cThing μ W H (rdT (μ.1 37) (μ.1 8 2) (mjC μ) (a + 1)).2.2.1 (rdT (μ.1 37) (μ.1 8 2) (mjC μ) (a + 1)).2.2.2.1 (rdT (μ.1 37) (μ.1 8 2) (mjC μ) (a + 1)).2.2.2.2 else μ) (rdT (μ.1 37) (μ.1 8 2) (mjC μ) (a + 1)).2.1)) := by
  refine PC.of (by decide +kernel) (Nat.le_of_ble_eq_true rfl) ?_
  refine P_sub (L' := [(0, vr 8)]) [0] rfl ?_
  have hT2 := hT.2
  have hm : (mjC μ = 5 ∧ 0 < μ.1 1 6 ∧ μ.1 10 (μ.1 1 6 - 1) ≠ 4) ∨ (mjC μ = 4 ∧ ¬ (0 < μ.1 1 6 ∧ μ.1 10 (μ.1 1 6 - 1) ≠ 4)) := by unfold mjC; split; exact Or.inl ⟨rfl, by assumption⟩; exact Or.inr ⟨rfl, by assumption⟩
  have hd := dgR_le (g := mjC μ) (a := a + 1) hT (by omega)
  refine P_aload_n (pc := 0) dX1_readThing_0 rfl 0 rfl ?_
  refine P_getR (pc := 1) dX1_readThing_1 fa_RX1_15 sC_8 fC8_0 ?_
  refine P_getI (jj := 6) (pc := 4) dX1_readThing_4 fa_RX1_43 sC_1 fC1_6 rfl ?_
  try simp (disch := decide) only [pl_3, pl_2, pl_q, pl_put]
  refine P_bipush (pc := 7) dX1_readThing_7 (by decide) ?_
  refine P_icmp_lt (tgt := 14) (pc := 9) dX1_readThing_9 (by decide) (by first | assumption | (unfold InR; omega)) (by first | assumption | (unfold InR; omega)) (fun c_9 => ?_) (fun c_9 => ?_)
  · refine P_aload_n (pc := 14) dX1_readThing_14 rfl 0 rfl ?_
    refine P_dup (pc := 15) dX1_readThing_15 rfl ?_
    refine P_getI (jj := 3) (pc := 16) dX1_readThing_16 fa_RX1_23 sC_8 fC8_3 rfl ?_
    try simp (disch := decide) only [pl_3, pl_2, pl_q, pl_put]
    refine P_iconst (pc := 19) dX1_readThing_19 ?_
    refine P_iadd (pc := 20) dX1_readThing_20 ?_
    refine P_putI (jj := 3) (pc := 21) dX1_readThing_21 fa_RX1_23 fp_1_3 sC_8 fC8_3 rfl ?_
    try simp (disch := decide) only [pl_3, pl_2, pl_q, pl_put]
    refine P_aload_n (pc := 24) dX1_readThing_24 rfl 0 rfl ?_
    refine P_callVi (Y' := mX1_digit) (as := []) (pc := 25) dX1_readThing_25 rfl (by decide : 1 < 2) sC_8 rfl ml_RX1_48 im_X1_digit se_X1_digit mk_X1_digit (Nat.le_of_ble_eq_true rfl) (c_X1_digit hT (by omega)) (fun z_ μ_ hq => ?_)
    obtain ⟨hz, hμ_, hi_⟩ := hq
    subst hμ_
    subst hz
    try simp (disch := decide) only [pl_3, pl_2, pl_q, pl_put]
    refine P_istore_n (L' := [(1, vi _), (0, vr 8)]) (pc := 28) dX1_readThing_28 rfl (by decide) rfl ?_
    refine P_iload_n (pc := 29) dX1_readThing_29 rfl 0 rfl ?_
    refine P_if_lt (tgt := 54) (pc := 30) dX1_readThing_30 (by decide) (by first | assumption | (unfold InR; omega)) (fun c_30 => ?_) (fun c_30 => ?_)
    · refine P_iconst (pc := 54) dX1_readThing_54 ?_
      exact P_zret (pc := 55) dX1_readThing_55 rfl (by omega) (QI.mk (by
            have hb : dgR (μ.1 37) (μ.1 8 2) (mjC μ) (a + 1) = (-1, a + 1) := by
              rcases hd with hd | hd
              · exact hd.2
              · exfalso
                rcases hm with hm | hm <;> omega
            have e := rdT_f (by rw [hb]; exact (by decide : (-1 : Int) < 0) : (dgR (μ.1 37) (μ.1 8 2) (mjC μ) (a + 1)).1 < 0)
            rw [hb] at e
            rw [e]
            exact ⟨rfl, by dsimp only; rw [if_neg (show ¬ (0 : Int) = 1 by decide)]⟩))
    · refine P_iload_n (pc := 33) dX1_readThing_33 rfl 0 rfl ?_
      refine P_bipush (pc := 34) dX1_readThing_34 (by decide) ?_
      refine P_icmp_ge (tgt := 54) (pc := 36) dX1_readThing_36 (by decide) (by first | assumption | (unfold InR; omega)) (by first | assumption | (unfold InR; omega)) (fun c_36 => ?_) (fun c_36 => ?_)
      · refine P_iconst (pc := 54) dX1_readThing_54 ?_
        exact P_zret (pc := 55) dX1_readThing_55 rfl (by omega) (QI.mk (by
              have hb : dgR (μ.1 37) (μ.1 8 2) (mjC μ) (a + 1) = (-1, a + 1) := by
                rcases hd with hd | hd
                · exact hd.2
                · exfalso
                  rcases hm with hm | hm <;> omega
              have e := rdT_f (by rw [hb]; exact (by decide : (-1 : Int) < 0) : (dgR (μ.1 37) (μ.1 8 2) (mjC μ) (a + 1)).1 < 0)
              rw [hb] at e
              rw [e]
              exact ⟨rfl, by dsimp only; rw [if_neg (show ¬ (0 : Int) = 1 by decide)]⟩))
      · refine P_iload_n (pc := 39) dX1_readThing_39 rfl 0 rfl ?_
        refine P_iconst (pc := 40) dX1_readThing_40 ?_
        refine P_icmp_ne (tgt := 56) (pc := 41) dX1_readThing_41 (by decide) (by first | assumption | (unfold InR; omega)) (by first | assumption | (unfold InR; omega)) (fun c_41 => ?_) (fun c_41 => ?_)
        · refine P_aload_n (pc := 56) dX1_readThing_56 rfl 1 rfl ?_
          refine P_dup (pc := 57) dX1_readThing_57 rfl ?_
          refine P_getI (jj := 3) (pc := 58) dX1_readThing_58 fa_RX1_23 sC_8 fC8_3 rfl ?_
          try simp (disch := decide) only [pl_3, pl_2, pl_q, pl_put]
          refine P_iconst (pc := 61) dX1_readThing_61 ?_
          refine P_iadd (pc := 62) dX1_readThing_62 ?_
          refine P_putI (jj := 3) (pc := 63) dX1_readThing_63 fa_RX1_23 fp_1_3 sC_8 fC8_3 rfl ?_
          try simp (disch := decide) only [pl_3, pl_2, pl_q, pl_put]
          refine P_aload_n (pc := 66) dX1_readThing_66 rfl 1 rfl ?_
          refine P_bipush (pc := 67) dX1_readThing_67 (by decide) ?_
          refine P_callVi (Y' := mX1_skip) (as := [_]) (pc := 69) dX1_readThing_69 rfl (by decide : 1 < 2) sC_8 rfl ml_RX1_54 im_X1_skip se_X1_skip mk_X1_skip (Nat.le_of_ble_eq_true rfl) (c_X1_skip hT (by omega) (by omega)) (fun z_ μ_ hq => ?_)
          obtain ⟨hz1, hμ_, hi1⟩ := hq
          subst hμ_
          try simp (disch := decide) only [pl_3, pl_2, pl_q, pl_put]
          refine P_istore_n (L' := [(2, vi _), (1, vi _), (0, vr 8)]) (pc := 72) dX1_readThing_72 rfl (by decide) rfl ?_
          refine P_aload_n (pc := 73) dX1_readThing_73 rfl 2 rfl ?_
          refine P_bipush (pc := 74) dX1_readThing_74 (by decide) ?_
          refine P_callVi (Y' := mX1_skip) (as := [_]) (pc := 76) dX1_readThing_76 rfl (by decide : 1 < 2) sC_8 rfl ml_RX1_54 im_X1_skip se_X1_skip mk_X1_skip (Nat.le_of_ble_eq_true rfl) (c_X1_skip hT (by omega) (by omega)) (fun z_ μ_ hq => ?_)
          obtain ⟨hz2, hμ_, hi2⟩ := hq
          subst hμ_
          try simp (disch := decide) only [pl_3, pl_2, pl_q, pl_put]
          refine P_istore_n (L' := [(3, vi _), (2, vi _), (1, vi _), (0, vr 8)]) (pc := 79) dX1_readThing_79 rfl (by decide) rfl ?_
          refine P_aload_n (pc := 80) dX1_readThing_80 rfl 3 rfl ?_
          refine P_bipush (pc := 81) dX1_readThing_81 (by decide) ?_
          refine P_callVi (Y' := mX1_skip) (as := [_]) (pc := 83) dX1_readThing_83 rfl (by decide : 1 < 2) sC_8 rfl ml_RX1_54 im_X1_skip se_X1_skip mk_X1_skip (Nat.le_of_ble_eq_true rfl) (c_X1_skip hT (by omega) (by omega)) (fun z_ μ_ hq => ?_)
          obtain ⟨hz3, hμ_, hi3⟩ := hq
          subst hμ_
          try simp (disch := decide) only [pl_3, pl_2, pl_q, pl_put]
          refine P_if_ne (tgt := 91) (pc := 86) dX1_readThing_86 (by decide) (by first | assumption | (unfold InR; omega)) (fun c_86 => ?_) (fun c_86 => ?_)
          · refine P_aload_n (pc := 91) dX1_readThing_91 rfl 3 rfl ?_
            refine P_getR (pc := 92) dX1_readThing_92 fa_RX1_15 sC_8 fC8_0 ?_
            refine P_iload_n (pc := 95) dX1_readThing_95 rfl 2 rfl ?_
            refine P_iload_n (pc := 96) dX1_readThing_96 rfl 1 rfl ?_
            refine P_iload_n (pc := 97) dX1_readThing_97 rfl 0 rfl ?_
            refine P_callVi (Y' := mX3_addThing) (as := [_, _, _]) (pc := 98) dX1_readThing_98 rfl (by decide : 0 < 2) sC_1 rfl ml_RX1_58 im_X3_addThing se_X3_addThing mk_X3_addThing (Nat.le_of_ble_eq_true rfl) (c_X3_addThing (by simp (disch := decide) only [pl_q]; omega) (by simp (disch := decide) only [pl_q]; exact hW) (by simp (disch := decide) only [pl_q]; exact hH) (by unfold InR; omega) (by omega) (by omega)) (fun z_ μ_ hq => ?_)
            obtain ⟨-, hμ_⟩ := hq
            subst hμ_
            rw [pl_thing]
            try simp (disch := decide) only [pl_3, pl_2, pl_q, pl_put]
            refine P_pop (pc := 101) dX1_readThing_101 rfl ?_
            refine P_iconst (pc := 102) dX1_readThing_102 ?_
            exact P_zret (pc := 103) dX1_readThing_103 rfl (by omega) (QI.mk (by
                  have hb : dgR (μ.1 37) (μ.1 8 2) (mjC μ) (a + 1) = ((dgR (μ.1 37) (μ.1 8 2) 9 (a + 1)).1, a + 1 + 1) := by
                    rcases hd with hd | hd
                    · exfalso
                      rcases hm with hm | hm <;> omega
                    · exact hd.2.1
                  have e := rdT_t hb (by omega) (by omega)
                  rw [e]
                  exact ⟨rfl, by rw [if_pos rfl, hz1, hz2]⟩))
          · refine P_iconst (pc := 89) dX1_readThing_89 ?_
            exact P_zret (pc := 90) dX1_readThing_90 rfl (by omega) (QI.mk (by
                  have hb : dgR (μ.1 37) (μ.1 8 2) (mjC μ) (a + 1) = ((dgR (μ.1 37) (μ.1 8 2) 9 (a + 1)).1, a + 1 + 1) := by
                    rcases hd with hd | hd
                    · exfalso
                      rcases hm with hm | hm <;> omega
                    · exact hd.2.1
                  have e := rdT_g hb (by omega) (by omega)
                  rw [e]
                  exact ⟨rfl, by dsimp only; rw [if_neg (show ¬ (0 : Int) = 1 by decide)]⟩))
        · refine P_aload_n (pc := 44) dX1_readThing_44 rfl 1 rfl ?_
          refine P_getR (pc := 45) dX1_readThing_45 fa_RX1_15 sC_8 fC8_0 ?_
          refine P_callVi (Y' := mX3_hasPartnerAhead) (as := []) (pc := 48) dX1_readThing_48 rfl (by decide : 1 < 2) sC_1 rfl ml_RX1_51 im_X3_hasPartnerAhead se_X3_hasPartnerAhead mk_X3_hasPartnerAhead (Nat.le_of_ble_eq_true rfl) (c_X3_hasPartnerAhead (by simp (disch := decide) only [pl_q]; omega) (by simp (disch := decide) only [pl_q]; exact hk10)) (fun z_ μ_ hq => ?_)
          obtain ⟨hz, hμ_⟩ := hq
          subst hμ_
          have hz := ite01 hz
          simp (disch := decide) only [pl_q] at hz
          try simp (disch := decide) only [pl_3, pl_2, pl_q, pl_put]
          refine P_if_ne (tgt := 56) (pc := 51) dX1_readThing_51 (by decide) (by first | assumption | (unfold InR; omega)) (fun c_51 => ?_) (fun c_51 => ?_)
          · refine P_aload_n (pc := 56) dX1_readThing_56 rfl 1 rfl ?_
            refine P_dup (pc := 57) dX1_readThing_57 rfl ?_
            refine P_getI (jj := 3) (pc := 58) dX1_readThing_58 fa_RX1_23 sC_8 fC8_3 rfl ?_
            try simp (disch := decide) only [pl_3, pl_2, pl_q, pl_put]
            refine P_iconst (pc := 61) dX1_readThing_61 ?_
            refine P_iadd (pc := 62) dX1_readThing_62 ?_
            refine P_putI (jj := 3) (pc := 63) dX1_readThing_63 fa_RX1_23 fp_1_3 sC_8 fC8_3 rfl ?_
            try simp (disch := decide) only [pl_3, pl_2, pl_q, pl_put]
            refine P_aload_n (pc := 66) dX1_readThing_66 rfl 1 rfl ?_
            refine P_bipush (pc := 67) dX1_readThing_67 (by decide) ?_
            refine P_callVi (Y' := mX1_skip) (as := [_]) (pc := 69) dX1_readThing_69 rfl (by decide : 1 < 2) sC_8 rfl ml_RX1_54 im_X1_skip se_X1_skip mk_X1_skip (Nat.le_of_ble_eq_true rfl) (c_X1_skip hT (by omega) (by omega)) (fun z_ μ_ hq => ?_)
            obtain ⟨hz1, hμ_, hi1⟩ := hq
            subst hμ_
            try simp (disch := decide) only [pl_3, pl_2, pl_q, pl_put]
            refine P_istore_n (L' := [(2, vi _), (1, vi _), (0, vr 8)]) (pc := 72) dX1_readThing_72 rfl (by decide) rfl ?_
            refine P_aload_n (pc := 73) dX1_readThing_73 rfl 2 rfl ?_
            refine P_bipush (pc := 74) dX1_readThing_74 (by decide) ?_
            refine P_callVi (Y' := mX1_skip) (as := [_]) (pc := 76) dX1_readThing_76 rfl (by decide : 1 < 2) sC_8 rfl ml_RX1_54 im_X1_skip se_X1_skip mk_X1_skip (Nat.le_of_ble_eq_true rfl) (c_X1_skip hT (by omega) (by omega)) (fun z_ μ_ hq => ?_)
            obtain ⟨hz2, hμ_, hi2⟩ := hq
            subst hμ_
            try simp (disch := decide) only [pl_3, pl_2, pl_q, pl_put]
            refine P_istore_n (L' := [(3, vi _), (2, vi _), (1, vi _), (0, vr 8)]) (pc := 79) dX1_readThing_79 rfl (by decide) rfl ?_
            refine P_aload_n (pc := 80) dX1_readThing_80 rfl 3 rfl ?_
            refine P_bipush (pc := 81) dX1_readThing_81 (by decide) ?_
            refine P_callVi (Y' := mX1_skip) (as := [_]) (pc := 83) dX1_readThing_83 rfl (by decide : 1 < 2) sC_8 rfl ml_RX1_54 im_X1_skip se_X1_skip mk_X1_skip (Nat.le_of_ble_eq_true rfl) (c_X1_skip hT (by omega) (by omega)) (fun z_ μ_ hq => ?_)
            obtain ⟨hz3, hμ_, hi3⟩ := hq
            subst hμ_
            try simp (disch := decide) only [pl_3, pl_2, pl_q, pl_put]
            refine P_if_ne (tgt := 91) (pc := 86) dX1_readThing_86 (by decide) (by first | assumption | (unfold InR; omega)) (fun c_86 => ?_) (fun c_86 => ?_)
            · refine P_aload_n (pc := 91) dX1_readThing_91 rfl 3 rfl ?_
              refine P_getR (pc := 92) dX1_readThing_92 fa_RX1_15 sC_8 fC8_0 ?_
              refine P_iload_n (pc := 95) dX1_readThing_95 rfl 2 rfl ?_
              refine P_iload_n (pc := 96) dX1_readThing_96 rfl 1 rfl ?_
              refine P_iload_n (pc := 97) dX1_readThing_97 rfl 0 rfl ?_
              refine P_callVi (Y' := mX3_addThing) (as := [_, _, _]) (pc := 98) dX1_readThing_98 rfl (by decide : 0 < 2) sC_1 rfl ml_RX1_58 im_X3_addThing se_X3_addThing mk_X3_addThing (Nat.le_of_ble_eq_true rfl) (c_X3_addThing (by simp (disch := decide) only [pl_q]; omega) (by simp (disch := decide) only [pl_q]; exact hW) (by simp (disch := decide) only [pl_q]; exact hH) (by unfold InR; omega) (by omega) (by omega)) (fun z_ μ_ hq => ?_)
              obtain ⟨-, hμ_⟩ := hq
              subst hμ_
              rw [pl_thing]
              try simp (disch := decide) only [pl_3, pl_2, pl_q, pl_put]
              refine P_pop (pc := 101) dX1_readThing_101 rfl ?_
              refine P_iconst (pc := 102) dX1_readThing_102 ?_
              exact P_zret (pc := 103) dX1_readThing_103 rfl (by omega) (QI.mk (by
                    have hb : dgR (μ.1 37) (μ.1 8 2) (mjC μ) (a + 1) = ((dgR (μ.1 37) (μ.1 8 2) 9 (a + 1)).1, a + 1 + 1) := by
                      rcases hd with hd | hd
                      · exfalso
                        rcases hm with hm | hm <;> omega
                      · exact hd.2.1
                    have e := rdT_t hb (by omega) (by omega)
                    rw [e]
                    exact ⟨rfl, by rw [if_pos rfl, hz1, hz2]⟩))
            · refine P_iconst (pc := 89) dX1_readThing_89 ?_
              exact P_zret (pc := 90) dX1_readThing_90 rfl (by omega) (QI.mk (by
                    have hb : dgR (μ.1 37) (μ.1 8 2) (mjC μ) (a + 1) = ((dgR (μ.1 37) (μ.1 8 2) 9 (a + 1)).1, a + 1 + 1) := by
                      rcases hd with hd | hd
                      · exfalso
                        rcases hm with hm | hm <;> omega
                      · exact hd.2.1
                    have e := rdT_g hb (by omega) (by omega)
                    rw [e]
                    exact ⟨rfl, by dsimp only; rw [if_neg (show ¬ (0 : Int) = 1 by decide)]⟩))
          · refine P_iconst (pc := 54) dX1_readThing_54 ?_
            exact P_zret (pc := 55) dX1_readThing_55 rfl (by omega) (QI.mk (by
                  have hb : dgR (μ.1 37) (μ.1 8 2) (mjC μ) (a + 1) = (-1, a + 1) := by
                    rcases hd with hd | hd
                    · exact hd.2
                    · exfalso
                      rcases hm with hm | hm <;> omega
                  have e := rdT_f (by rw [hb]; exact (by decide : (-1 : Int) < 0) : (dgR (μ.1 37) (μ.1 8 2) (mjC μ) (a + 1)).1 < 0)
                  rw [hb] at e
                  rw [e]
                  exact ⟨rfl, by dsimp only; rw [if_neg (show ¬ (0 : Int) = 1 by decide)]⟩))
  · refine P_iconst (pc := 12) dX1_readThing_12 ?_
    exact P_zret (pc := 13) dX1_readThing_13 rfl (by omega) (QI.mk (by exfalso; omega))
set_option maxHeartbeats 1000000 in
set_option maxRecDepth 100000 in
theorem c_X1_readTaken {μ : Mem} {a : Int} (hT : TL (μ.1 37) (μ.1 8 2)) (ha : 0 ≤ a ∧ a ≤ μ.1 8 2) (hlt : a < μ.1 8 2) : PC shC 2 mX1_readTaken [vr 8] (plM μ a) (QI (fun z μ' => z = (rdK (μ.1 37) (μ.1 8 2) (a + 1)).1 ∧ μ' = plM (if (rdK (μ.1 37) (μ.1 8 2) (a + 1)).1 = 1 then cTake μ (rdK (μ.1 37) (μ.1 8 2) (a + 1)).2.2.1 (rdK (μ.1 37) (μ.1 8 2) (a + 1)).2.2.2 else μ) (rdK (μ.1 37) (μ.1 8 2) (a + 1)).2.1)) := by
  refine PC.of (by decide +kernel) (Nat.le_of_ble_eq_true rfl) ?_
  refine P_sub (L' := [(0, vr 8)]) [0] rfl ?_
  have hT2 := hT.2
  have hd := dgR_le (g := 5) (a := a + 1) hT (by omega)
  have hd2 := dgR_le (g := 4) (a := a + 1 + 1) hT (by omega)
  refine P_aload_n (pc := 0) dX1_readTaken_0 rfl 0 rfl ?_
  refine P_dup (pc := 1) dX1_readTaken_1 rfl ?_
  refine P_getI (jj := 3) (pc := 2) dX1_readTaken_2 fa_RX1_23 sC_8 fC8_3 rfl ?_
  try simp (disch := decide) only [pl_3, pl_2, pl_q, pl_put]
  refine P_iconst (pc := 5) dX1_readTaken_5 ?_
  refine P_iadd (pc := 6) dX1_readTaken_6 ?_
  refine P_putI (jj := 3) (pc := 7) dX1_readTaken_7 fa_RX1_23 fp_1_3 sC_8 fC8_3 rfl ?_
  try simp (disch := decide) only [pl_3, pl_2, pl_q, pl_put]
  refine P_aload_n (pc := 10) dX1_readTaken_10 rfl 0 rfl ?_
  refine P_callVi (Y' := mX1_digit) (as := []) (pc := 11) dX1_readTaken_11 rfl (by decide : 1 < 2) sC_8 rfl ml_RX1_48 im_X1_digit se_X1_digit mk_X1_digit (Nat.le_of_ble_eq_true rfl) (c_X1_digit hT (by omega)) (fun z_ μ_ hq => ?_)
  obtain ⟨hz, hμ_, hi_⟩ := hq
  subst hμ_
  subst hz
  try simp (disch := decide) only [pl_3, pl_2, pl_q, pl_put]
  refine P_istore_n (L' := [(1, vi _), (0, vr 8)]) (pc := 14) dX1_readTaken_14 rfl (by decide) rfl ?_
  refine P_iload_n (pc := 15) dX1_readTaken_15 rfl 0 rfl ?_
  refine P_if_lt (tgt := 25) (pc := 16) dX1_readTaken_16 (by decide) (by first | assumption | (unfold InR; omega)) (fun c_16 => ?_) (fun c_16 => ?_)
  · refine P_iconst (pc := 25) dX1_readTaken_25 ?_
    exact P_zret (pc := 26) dX1_readTaken_26 rfl (by omega) (QI.mk (by
          have hb : dgR (μ.1 37) (μ.1 8 2) 5 (a + 1) = (-1, a + 1) := by
            rcases hd with hd | hd
            · exact hd.2
            · omega
          unfold rdK
          rw [hb]
          dsimp only
          rw [if_pos (show (-1 : Int) < 0 by decide)]
          exact ⟨rfl, by dsimp only; rw [if_neg (show ¬ (0 : Int) = 1 by decide)]⟩))
  · refine P_iload_n (pc := 19) dX1_readTaken_19 rfl 0 rfl ?_
    refine P_bipush (pc := 20) dX1_readTaken_20 (by decide) ?_
    refine P_icmp_lt (tgt := 27) (pc := 22) dX1_readTaken_22 (by decide) (by first | assumption | (unfold InR; omega)) (by first | assumption | (unfold InR; omega)) (fun c_22 => ?_) (fun c_22 => ?_)
    · refine P_aload_n (pc := 27) dX1_readTaken_27 rfl 1 rfl ?_
      refine P_dup (pc := 28) dX1_readTaken_28 rfl ?_
      refine P_getI (jj := 3) (pc := 29) dX1_readTaken_29 fa_RX1_23 sC_8 fC8_3 rfl ?_
      try simp (disch := decide) only [pl_3, pl_2, pl_q, pl_put]
      refine P_iconst (pc := 32) dX1_readTaken_32 ?_
      refine P_iadd (pc := 33) dX1_readTaken_33 ?_
      refine P_putI (jj := 3) (pc := 34) dX1_readTaken_34 fa_RX1_23 fp_1_3 sC_8 fC8_3 rfl ?_
      try simp (disch := decide) only [pl_3, pl_2, pl_q, pl_put]
      refine P_aload_n (pc := 37) dX1_readTaken_37 rfl 1 rfl ?_
      refine P_callVi (Y' := mX1_digit) (as := []) (pc := 38) dX1_readTaken_38 rfl (by decide : 1 < 2) sC_8 rfl ml_RX1_48 im_X1_digit se_X1_digit mk_X1_digit (Nat.le_of_ble_eq_true rfl) (c_X1_digit hT (by omega)) (fun z_ μ_ hq => ?_)
      obtain ⟨hz, hμ_, hi_⟩ := hq
      subst hμ_
      subst hz
      try simp (disch := decide) only [pl_3, pl_2, pl_q, pl_put]
      refine P_istore_n (L' := [(2, vi _), (1, vi _), (0, vr 8)]) (pc := 41) dX1_readTaken_41 rfl (by decide) rfl ?_
      refine P_iload_n (pc := 42) dX1_readTaken_42 rfl 0 rfl ?_
      refine P_if_lt (tgt := 51) (pc := 43) dX1_readTaken_43 (by decide) (by first | assumption | (unfold InR; omega)) (fun c_43 => ?_) (fun c_43 => ?_)
      · refine P_iconst (pc := 51) dX1_readTaken_51 ?_
        exact P_zret (pc := 52) dX1_readTaken_52 rfl (by omega) (QI.mk (by
              have hb : dgR (μ.1 37) (μ.1 8 2) 5 (a + 1) = ((dgR (μ.1 37) (μ.1 8 2) 9 (a + 1)).1, a + 1 + 1) := by
                rcases hd with hd | hd
                · omega
                · exact hd.2.1
              have hb2 : dgR (μ.1 37) (μ.1 8 2) 4 (a + 1 + 1) = (-1, a + 1 + 1) := by
                rcases hd2 with hd | hd
                · exact hd.2
                · omega
              unfold rdK
              rw [hb]
              dsimp only
              rw [hb2]
              dsimp only
              rw [if_neg (by omega), if_pos (show (-1 : Int) < 0 by decide)]
              exact ⟨rfl, by dsimp only; rw [if_neg (show ¬ (0 : Int) = 1 by decide)]⟩))
      · refine P_iload_n (pc := 46) dX1_readTaken_46 rfl 0 rfl ?_
        refine P_iconst (pc := 47) dX1_readTaken_47 ?_
        refine P_icmp_le (tgt := 53) (pc := 48) dX1_readTaken_48 (by decide) (by first | assumption | (unfold InR; omega)) (by first | assumption | (unfold InR; omega)) (fun c_48 => ?_) (fun c_48 => ?_)
        · refine P_aload_n (pc := 53) dX1_readTaken_53 rfl 2 rfl ?_
          refine P_dup (pc := 54) dX1_readTaken_54 rfl ?_
          refine P_getI (jj := 3) (pc := 55) dX1_readTaken_55 fa_RX1_23 sC_8 fC8_3 rfl ?_
          try simp (disch := decide) only [pl_3, pl_2, pl_q, pl_put]
          refine P_iconst (pc := 58) dX1_readTaken_58 ?_
          refine P_iadd (pc := 59) dX1_readTaken_59 ?_
          refine P_putI (jj := 3) (pc := 60) dX1_readTaken_60 fa_RX1_23 fp_1_3 sC_8 fC8_3 rfl ?_
          try simp (disch := decide) only [pl_3, pl_2, pl_q, pl_put]
          refine P_aload_n (pc := 63) dX1_readTaken_63 rfl 2 rfl ?_
          refine P_bipush (pc := 64) dX1_readTaken_64 (by decide) ?_
          refine P_callVi (Y' := mX1_skip) (as := [_]) (pc := 66) dX1_readTaken_66 rfl (by decide : 1 < 2) sC_8 rfl ml_RX1_54 im_X1_skip se_X1_skip mk_X1_skip (Nat.le_of_ble_eq_true rfl) (c_X1_skip hT (by omega) (by omega)) (fun z_ μ_ hq => ?_)
          obtain ⟨hz3, hμ_, hi3⟩ := hq
          subst hμ_
          try simp (disch := decide) only [pl_3, pl_2, pl_q, pl_put]
          refine P_if_ne (tgt := 74) (pc := 69) dX1_readTaken_69 (by decide) (by first | assumption | (unfold InR; omega)) (fun c_69 => ?_) (fun c_69 => ?_)
          · refine P_aload_n (pc := 74) dX1_readTaken_74 rfl 2 rfl ?_
            refine P_getR (pc := 75) dX1_readTaken_75 fa_RX1_15 sC_8 fC8_0 ?_
            refine P_iload_n (pc := 78) dX1_readTaken_78 rfl 1 rfl ?_
            refine P_iload_n (pc := 79) dX1_readTaken_79 rfl 0 rfl ?_
            refine P_callVi (Y' := mX3_setTaken) (as := [_, _]) (pc := 80) dX1_readTaken_80 rfl (by decide : 0 < 2) sC_1 rfl ml_RX1_62 im_X3_setTaken se_X3_setTaken mk_X3_setTaken (Nat.le_of_ble_eq_true rfl) (c_X3_setTaken (by omega)) (fun z_ μ_ hq => ?_)
            obtain ⟨-, hμ_⟩ := hq
            subst hμ_
            rw [pl_take]
            try simp (disch := decide) only [pl_3, pl_2, pl_q, pl_put]
            refine P_pop (pc := 83) dX1_readTaken_83 rfl ?_
            refine P_iconst (pc := 84) dX1_readTaken_84 ?_
            exact P_zret (pc := 85) dX1_readTaken_85 rfl (by omega) (QI.mk (by
                  have hb : dgR (μ.1 37) (μ.1 8 2) 5 (a + 1) = ((dgR (μ.1 37) (μ.1 8 2) 9 (a + 1)).1, a + 1 + 1) := by
                    rcases hd with hd | hd
                    · omega
                    · exact hd.2.1
                  have hb2 : dgR (μ.1 37) (μ.1 8 2) 4 (a + 1 + 1) = ((dgR (μ.1 37) (μ.1 8 2) 9 (a + 1 + 1)).1, a + 1 + 1 + 1) := by
                    rcases hd2 with hd | hd
                    · omega
                    · exact hd.2.1
                  unfold rdK
                  rw [hb]
                  dsimp only
                  rw [hb2]
                  dsimp only
                  rw [if_neg (by omega), if_neg (by omega), if_neg (by omega)]
                  exact ⟨rfl, by rw [if_pos rfl]⟩))
          · refine P_iconst (pc := 72) dX1_readTaken_72 ?_
            exact P_zret (pc := 73) dX1_readTaken_73 rfl (by omega) (QI.mk (by
                  have hb : dgR (μ.1 37) (μ.1 8 2) 5 (a + 1) = ((dgR (μ.1 37) (μ.1 8 2) 9 (a + 1)).1, a + 1 + 1) := by
                    rcases hd with hd | hd
                    · omega
                    · exact hd.2.1
                  have hb2 : dgR (μ.1 37) (μ.1 8 2) 4 (a + 1 + 1) = ((dgR (μ.1 37) (μ.1 8 2) 9 (a + 1 + 1)).1, a + 1 + 1 + 1) := by
                    rcases hd2 with hd | hd
                    · omega
                    · exact hd.2.1
                  unfold rdK
                  rw [hb]
                  dsimp only
                  rw [hb2]
                  dsimp only
                  rw [if_neg (by omega), if_neg (by omega), if_pos (by omega)]
                  exact ⟨rfl, by dsimp only; rw [if_neg (show ¬ (0 : Int) = 1 by decide)]⟩))
        · refine P_iconst (pc := 51) dX1_readTaken_51 ?_
          exact P_zret (pc := 52) dX1_readTaken_52 rfl (by omega) (QI.mk (by
                have hb : dgR (μ.1 37) (μ.1 8 2) 5 (a + 1) = ((dgR (μ.1 37) (μ.1 8 2) 9 (a + 1)).1, a + 1 + 1) := by
                  rcases hd with hd | hd
                  · omega
                  · exact hd.2.1
                have hb2 : dgR (μ.1 37) (μ.1 8 2) 4 (a + 1 + 1) = (-1, a + 1 + 1) := by
                  rcases hd2 with hd | hd
                  · exact hd.2
                  · omega
                unfold rdK
                rw [hb]
                dsimp only
                rw [hb2]
                dsimp only
                rw [if_neg (by omega), if_pos (show (-1 : Int) < 0 by decide)]
                exact ⟨rfl, by dsimp only; rw [if_neg (show ¬ (0 : Int) = 1 by decide)]⟩))
    · refine P_iconst (pc := 25) dX1_readTaken_25 ?_
      exact P_zret (pc := 26) dX1_readTaken_26 rfl (by omega) (QI.mk (by
            have hb : dgR (μ.1 37) (μ.1 8 2) 5 (a + 1) = (-1, a + 1) := by
              rcases hd with hd | hd
              · exact hd.2
              · omega
            unfold rdK
            rw [hb]
            dsimp only
            rw [if_pos (show (-1 : Int) < 0 by decide)]
            exact ⟨rfl, by dsimp only; rw [if_neg (show ¬ (0 : Int) = 1 by decide)]⟩))
