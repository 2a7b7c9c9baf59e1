def cpN (N : Pl) (t : Int) : Pl := fun j => N (t * 13 + j)
def hndA (N : Pl) (k t : Int) : Pl := if k = 2 then kfN (cpN N t) 4 else cpN N t
def actN (K : Cel) (p : Int) (N : Pl) (k x y : Int) (w : BitVec 64) : Pl :=
  if 4 < k then altN K N k x w
  else if k = 1 ∨ k = 3 then giveN K p N (hndA N k y) x w
  else if k = 4 ∧ K 6 0 ≠ 1 then giveN K p N (hndA N k x) y w
  else giveN K p (giveN K p N (hndA N k y) x w) (hndA N k x) y w
def hapN (K : Cel) (p : Int) (N : Pl) (k x y : Int) (w : BitVec 64) : Pl := shrN K w (actN K p N k x y w)
theorem kf_congr {A A' : Pl} (h : ∀ i, 0 ≤ i → i < 9 → A i = A' i) : ∀ i, 0 ≤ i → i < 9 → kfN A 4 i = kfN A' 4 i := by
  intro i h0 h1
  unfold kfN
  rw [h 0 (by omega) (by omega), h i h0 h1]
theorem cp_e {N A : Pl} {t : Int} : ∀ i, 0 ≤ i → i < 9 → (if 0 ≤ i ∧ i < 0 + 9 then N (t * 13 + (i - 0)) else A i) = cpN N t i := by
  intro i h0 h1
  rw [if_pos (by omega), Int.sub_zero]
  rfl
set_option maxHeartbeats 1000000 in
set_option maxRecDepth 100000 in
theorem c_X4_happen {μ : Mem} {b : Nat} {N A B : Pl} {s : Int} {K : Cel} {k x y : Int} {w : BitVec 64} (hb : b < 2) (hR : KR K μ) (hK : KOK K) (hk : 0 ≤ k ∧ k ≤ 8) (hx : 0 ≤ x ∧ x < 12) (hy : k < 5 → 0 ≤ y ∧ y < 12) (hlp : μ.1 (3 + b) 1 = 6 * (b : Int)) (hs : s = 0 ∨ s = 1) : PC shC 2 mX4_happen [vr (3 + b), vi k, vi x, vi y, vl w] (stM μ b N A B s) (QV (fun μ' => ∃ (A' B' : Pl) (s' : Int), (s' = 0 ∨ s' = 1) ∧ (s' = 0 → k = 5 → s = 0 ∧ altQ K N k x w ∧ hapN K (6 * (b : Int)) N k x y w = altN K N k x w) ∧ μ' = stM μ b (hapN K (6 * (b : Int)) N k x y w) A' B' s')) := by
  refine PC.of (by decide +kernel) (Nat.le_of_ble_eq_true rfl) ?_
  refine P_sub (L' := [(0, vr (3 + b)), (1, vi k), (2, vi x), (3, vi y), (4, vl w)]) [0, 1, 2, 3, 4] rfl ?_
  have h6 := hK.2.2.2.2.2.1 0
  refine P_iload_n (pc := 0) dX4_happen_0 rfl 2 rfl ?_
  refine P_if_lt (tgt := 10) (pc := 1) dX4_happen_1 (by decide) (by first | assumption | (unfold InR; omega)) (fun c_1 => ?_) (fun c_1 => ?_)
  · exact P_vret (pc := 10) dX4_happen_10 rfl (QV.mk (by
          first
            | (exfalso; omega)
            | (refine ⟨_, _, s9, hs9, fun h h5 => ?_, st_ext ?_ rfl rfl rfl⟩
               · have g1 := hq9 h
                 have g2 := hq2_ g1.1
                 refine ⟨g2.1, g2.2, ?_⟩
                 unfold hapN actN
                 rw [if_pos (by omega)]
                 exact g1.2
               · unfold hapN actN
                 rw [if_pos (by omega)])
            | (refine ⟨_, _, s9, hs9, fun h h5 => (by exfalso; omega), st_ext ?_ rfl rfl rfl⟩
               unfold hapN actN hndA
               rw [if_neg (by omega)]
               first
                 | (rw [if_pos (by omega), if_neg (by omega), giveN_congr hK hB1]; done)
                 | (rw [if_neg (by omega), if_pos (by omega), if_neg (by omega), giveN_congr hK hA1]; done)
                 | (rw [if_neg (by omega), if_neg (by omega), if_neg (by omega), if_neg (by omega), giveN_congr hK hA1, giveN_congr hK hB1]; done)
                 | (rw [if_neg (by omega), if_neg (by omega), if_pos (by omega), if_pos (by omega), giveN_congr hK (kf_congr hA1), giveN_congr hK (kf_congr hB1)]; done))))
  · refine P_iload_n (pc := 4) dX4_happen_4 rfl 2 rfl ?_
    refine P_bipush (pc := 5) dX4_happen_5 (by decide) ?_
    refine P_icmp_lt (tgt := 11) (pc := 7) dX4_happen_7 (by decide) (by first | assumption | (unfold InR; omega)) (by first | assumption | (unfold InR; omega)) (fun c_7 => ?_) (fun c_7 => ?_)
    · refine P_iload_n (pc := 11) dX4_happen_11 rfl 1 rfl ?_
      refine P_iconst (pc := 12) dX4_happen_12 ?_
      refine P_icmp_le (tgt := 27) (pc := 13) dX4_happen_13 (by decide) (by first | assumption | (unfold InR; omega)) (by first | assumption | (unfold InR; omega)) (fun c_13 => ?_) (fun c_13 => ?_)
      · refine P_iload_n (pc := 27) dX4_happen_27 rfl 3 rfl ?_
        refine P_if_lt (tgt := 141) (pc := 28) dX4_happen_28 (by decide) (by first | assumption | (unfold InR; omega)) (fun c_28 => ?_) (fun c_28 => ?_)
        · refine P_aload_n (pc := 141) dX4_happen_141 rfl 0 rfl ?_
          refine P_lload (pc := 142) dX4_happen_142 4 rfl ?_
          refine P_callVv (Y' := mX4_shareAmongJoined) (as := [_]) (pc := 144) dX4_happen_144 rfl (by decide : 1 < 2) (sS_o hb) rfl ml_RX4_137 im_X4_shareAmongJoined se_X4_shareAmongJoined mk_X4_shareAmongJoined (Nat.le_of_ble_eq_true rfl) (c_X4_shareAmongJoined hb hR hK (by first | exact hs_ | exact hs)) (fun μ_ hq => ?_)
          obtain ⟨s9, hs9, hq9, hμ_⟩ := hq
          subst hμ_
          try simp (disch := omega) only [st_N, st_A, st_B, st_i, st_s, st_j, st_pN, st_pA, st_pB, st_ps, st_rN, st_rA, st_rB, les1_at, les2_at, mkN_at, kfN_0, lput_eq, lput_ne, lesN_out, mkN_out]
          exact P_vret (pc := 147) dX4_happen_147 rfl (QV.mk (by
                first
                  | (exfalso; omega)
                  | (refine ⟨_, _, s9, hs9, fun h h5 => ?_, st_ext ?_ rfl rfl rfl⟩
                     · have g1 := hq9 h
                       have g2 := hq2_ g1.1
                       refine ⟨g2.1, g2.2, ?_⟩
                       unfold hapN actN
                       rw [if_pos (by omega)]
                       exact g1.2
                     · unfold hapN actN
                       rw [if_pos (by omega)])
                  | (refine ⟨_, _, s9, hs9, fun h h5 => (by exfalso; omega), st_ext ?_ rfl rfl rfl⟩
                     unfold hapN actN hndA
                     rw [if_neg (by omega)]
                     first
                       | (rw [if_pos (by omega), if_neg (by omega), giveN_congr hK hB1]; done)
                       | (rw [if_neg (by omega), if_pos (by omega), if_neg (by omega), giveN_congr hK hA1]; done)
                       | (rw [if_neg (by omega), if_neg (by omega), if_neg (by omega), if_neg (by omega), giveN_congr hK hA1, giveN_congr hK hB1]; done)
                       | (rw [if_neg (by omega), if_neg (by omega), if_pos (by omega), if_pos (by omega), giveN_congr hK (kf_congr hA1), giveN_congr hK (kf_congr hB1)]; done))))
        · refine P_iload_n (pc := 31) dX4_happen_31 rfl 3 rfl ?_
          refine P_bipush (pc := 32) dX4_happen_32 (by decide) ?_
          refine P_icmp_ge (tgt := 141) (pc := 34) dX4_happen_34 (by decide) (by first | assumption | (unfold InR; omega)) (by first | assumption | (unfold InR; omega)) (fun c_34 => ?_) (fun c_34 => ?_)
          · refine P_aload_n (pc := 141) dX4_happen_141 rfl 0 rfl ?_
            refine P_lload (pc := 142) dX4_happen_142 4 rfl ?_
            refine P_callVv (Y' := mX4_shareAmongJoined) (as := [_]) (pc := 144) dX4_happen_144 rfl (by decide : 1 < 2) (sS_o hb) rfl ml_RX4_137 im_X4_shareAmongJoined se_X4_shareAmongJoined mk_X4_shareAmongJoined (Nat.le_of_ble_eq_true rfl) (c_X4_shareAmongJoined hb hR hK (by first | exact hs_ | exact hs)) (fun μ_ hq => ?_)
            obtain ⟨s9, hs9, hq9, hμ_⟩ := hq
            subst hμ_
            try simp (disch := omega) only [st_N, st_A, st_B, st_i, st_s, st_j, st_pN, st_pA, st_pB, st_ps, st_rN, st_rA, st_rB, les1_at, les2_at, mkN_at, kfN_0, lput_eq, lput_ne, lesN_out, mkN_out]
            exact P_vret (pc := 147) dX4_happen_147 rfl (QV.mk (by
                  first
                    | (exfalso; omega)
                    | (refine ⟨_, _, s9, hs9, fun h h5 => ?_, st_ext ?_ rfl rfl rfl⟩
                       · have g1 := hq9 h
                         have g2 := hq2_ g1.1
                         refine ⟨g2.1, g2.2, ?_⟩
                         unfold hapN actN
                         rw [if_pos (by omega)]
                         exact g1.2
                       · unfold hapN actN
                         rw [if_pos (by omega)])
                    | (refine ⟨_, _, s9, hs9, fun h h5 => (by exfalso; omega), st_ext ?_ rfl rfl rfl⟩
                       unfold hapN actN hndA
                       rw [if_neg (by omega)]
                       first
                         | (rw [if_pos (by omega), if_neg (by omega), giveN_congr hK hB1]; done)
                         | (rw [if_neg (by omega), if_pos (by omega), if_neg (by omega), giveN_congr hK hA1]; done)
                         | (rw [if_neg (by omega), if_neg (by omega), if_neg (by omega), if_neg (by omega), giveN_congr hK hA1, giveN_congr hK hB1]; done)
                         | (rw [if_neg (by omega), if_neg (by omega), if_pos (by omega), if_pos (by omega), giveN_congr hK (kf_congr hA1), giveN_congr hK (kf_congr hB1)]; done))))
          · refine P_aload_n (pc := 37) dX4_happen_37 rfl 0 rfl ?_
            refine P_getR (pc := 38) dX4_happen_38 fa_RX4_9 (sS_o hb) fS_2 ?_
            refine P_iload_n (pc := 41) dX4_happen_41 rfl 2 rfl ?_
            refine P_bipush (pc := 42) dX4_happen_42 (by decide) ?_
            refine P_imul (pc := 44) dX4_happen_44 ?_
            refine P_aload_n (pc := 45) dX4_happen_45 rfl 0 rfl ?_
            refine P_getR (pc := 46) dX4_happen_46 fa_RX4_28 (sS_o hb) fS_7 ?_
            refine P_iconst (pc := 49) dX4_happen_49 ?_
            refine P_bipush (pc := 50) dX4_happen_50 (by decide) ?_
            refine P_copyL (pc := 52) dX4_happen_52 ml_RX4_120 (by decide) (Nat.le_of_ble_eq_true rfl) (sS_22 hb) (sS_27 hb) (by omega) (by omega) (by omega) (by omega) (by omega) (by decide) (by decide) ?_
            try simp (disch := omega) only [st_N, st_A, st_B, st_i, st_s, st_j, st_pN, st_pA, st_pB, st_ps, st_rN, st_rA, st_rB, les1_at, les2_at, mkN_at, kfN_0, lput_eq, lput_ne, lesN_out, mkN_out]
            obtain ⟨A1, hA10, hA1⟩ : ∃ A1 : Pl, (fun j : Int => if 0 ≤ j ∧ j < 0 + 9 then N (x * 13 + (j - 0)) else A j) = A1 ∧ ∀ i, 0 ≤ i → i < 9 → A1 i = cpN N x i := ⟨_, rfl, cp_e⟩
            rw [hA10]
            clear hA10
            refine P_aload_n (pc := 55) dX4_happen_55 rfl 0 rfl ?_
            refine P_getR (pc := 56) dX4_happen_56 fa_RX4_9 (sS_o hb) fS_2 ?_
            refine P_iload_n (pc := 59) dX4_happen_59 rfl 3 rfl ?_
            refine P_bipush (pc := 60) dX4_happen_60 (by decide) ?_
            refine P_imul (pc := 62) dX4_happen_62 ?_
            refine P_aload_n (pc := 63) dX4_happen_63 rfl 0 rfl ?_
            refine P_getR (pc := 64) dX4_happen_64 fa_RX4_31 (sS_o hb) fS_8 ?_
            refine P_iconst (pc := 67) dX4_happen_67 ?_
            refine P_bipush (pc := 68) dX4_happen_68 (by decide) ?_
            refine P_copyL (pc := 70) dX4_happen_70 ml_RX4_120 (by decide) (Nat.le_of_ble_eq_true rfl) (sS_22 hb) (sS_28 hb) (by omega) (by omega) (by omega) (by omega) (by omega) (by decide) (by decide) ?_
            try simp (disch := omega) only [st_N, st_A, st_B, st_i, st_s, st_j, st_pN, st_pA, st_pB, st_ps, st_rN, st_rA, st_rB, les1_at, les2_at, mkN_at, kfN_0, lput_eq, lput_ne, lesN_out, mkN_out]
            obtain ⟨B1, hB10, hB1⟩ : ∃ B1 : Pl, (fun j : Int => if 0 ≤ j ∧ j < 0 + 9 then N (y * 13 + (j - 0)) else B j) = B1 ∧ ∀ i, 0 ≤ i → i < 9 → B1 i = cpN N y i := ⟨_, rfl, cp_e⟩
            rw [hB10]
            clear hB10
            refine P_iload_n (pc := 73) dX4_happen_73 rfl 1 rfl ?_
            refine P_iconst (pc := 74) dX4_happen_74 ?_
            refine P_icmp_ne (tgt := 92) (pc := 75) dX4_happen_75 (by decide) (by first | assumption | (unfold InR; omega)) (by first | assumption | (unfold InR; omega)) (fun c_75 => ?_) (fun c_75 => ?_)
            · refine P_iload_n (pc := 92) dX4_happen_92 rfl 1 rfl ?_
              refine P_iconst (pc := 93) dX4_happen_93 ?_
              refine P_icmp_ne (tgt := 109) (pc := 94) dX4_happen_94 (by decide) (by first | assumption | (unfold InR; omega)) (by first | assumption | (unfold InR; omega)) (fun c_94 => ?_) (fun c_94 => ?_)
              · refine P_aload_n (pc := 109) dX4_happen_109 rfl 0 rfl ?_
                refine P_iload_n (pc := 110) dX4_happen_110 rfl 2 rfl ?_
                refine P_aload_n (pc := 111) dX4_happen_111 rfl 0 rfl ?_
                refine P_getR (pc := 112) dX4_happen_112 fa_RX4_31 (sS_o hb) fS_8 ?_
                refine P_lload (pc := 115) dX4_happen_115 4 rfl ?_
                refine P_callVv (Y' := mX4_give) (as := [_, _, _]) (pc := 117) dX4_happen_117 rfl (by decide : 1 < 2) (sS_o hb) rfl ml_RX4_133 im_X4_give se_X4_give mk_X4_give (Nat.le_of_ble_eq_true rfl) (c_X4_giveB hb hR hK (by omega) hlp (by first | exact hs | exact hs_)) (fun μ_ hq => ?_)
                obtain ⟨B_, s_, hs_, hμ_⟩ := hq
                subst hμ_
                try simp (disch := omega) only [st_N, st_A, st_B, st_i, st_s, st_j, st_pN, st_pA, st_pB, st_ps, st_rN, st_rA, st_rB, les1_at, les2_at, mkN_at, kfN_0, lput_eq, lput_ne, lesN_out, mkN_out]
                refine P_iload_n (pc := 120) dX4_happen_120 rfl 1 rfl ?_
                refine P_iconst (pc := 121) dX4_happen_121 ?_
                refine P_icmp_eq (tgt := 141) (pc := 122) dX4_happen_122 (by decide) (by first | assumption | (unfold InR; omega)) (by first | assumption | (unfold InR; omega)) (fun c_122 => ?_) (fun c_122 => ?_)
                · refine P_aload_n (pc := 141) dX4_happen_141 rfl 0 rfl ?_
                  refine P_lload (pc := 142) dX4_happen_142 4 rfl ?_
                  refine P_callVv (Y' := mX4_shareAmongJoined) (as := [_]) (pc := 144) dX4_happen_144 rfl (by decide : 1 < 2) (sS_o hb) rfl ml_RX4_137 im_X4_shareAmongJoined se_X4_shareAmongJoined mk_X4_shareAmongJoined (Nat.le_of_ble_eq_true rfl) (c_X4_shareAmongJoined hb hR hK (by first | exact hs_ | exact hs)) (fun μ_ hq => ?_)
                  obtain ⟨s9, hs9, hq9, hμ_⟩ := hq
                  subst hμ_
                  try simp (disch := omega) only [st_N, st_A, st_B, st_i, st_s, st_j, st_pN, st_pA, st_pB, st_ps, st_rN, st_rA, st_rB, les1_at, les2_at, mkN_at, kfN_0, lput_eq, lput_ne, lesN_out, mkN_out]
                  exact P_vret (pc := 147) dX4_happen_147 rfl (QV.mk (by
                        first
                          | (exfalso; omega)
                          | (refine ⟨_, _, s9, hs9, fun h h5 => ?_, st_ext ?_ rfl rfl rfl⟩
                             · have g1 := hq9 h
                               have g2 := hq2_ g1.1
                               refine ⟨g2.1, g2.2, ?_⟩
                               unfold hapN actN
                               rw [if_pos (by omega)]
                               exact g1.2
                             · unfold hapN actN
                               rw [if_pos (by omega)])
                          | (refine ⟨_, _, s9, hs9, fun h h5 => (by exfalso; omega), st_ext ?_ rfl rfl rfl⟩
                             unfold hapN actN hndA
                             rw [if_neg (by omega)]
                             first
                               | (rw [if_pos (by omega), if_neg (by omega), giveN_congr hK hB1]; done)
                               | (rw [if_neg (by omega), if_pos (by omega), if_neg (by omega), giveN_congr hK hA1]; done)
                               | (rw [if_neg (by omega), if_neg (by omega), if_neg (by omega), if_neg (by omega), giveN_congr hK hA1, giveN_congr hK hB1]; done)
                               | (rw [if_neg (by omega), if_neg (by omega), if_pos (by omega), if_pos (by omega), giveN_congr hK (kf_congr hA1), giveN_congr hK (kf_congr hB1)]; done))))
                · refine P_iload_n (pc := 125) dX4_happen_125 rfl 1 rfl ?_
                  refine P_iconst (pc := 126) dX4_happen_126 ?_
                  refine P_icmp_eq (tgt := 141) (pc := 127) dX4_happen_127 (by decide) (by first | assumption | (unfold InR; omega)) (by first | assumption | (unfold InR; omega)) (fun c_127 => ?_) (fun c_127 => ?_)
                  · refine P_aload_n (pc := 141) dX4_happen_141 rfl 0 rfl ?_
                    refine P_lload (pc := 142) dX4_happen_142 4 rfl ?_
                    refine P_callVv (Y' := mX4_shareAmongJoined) (as := [_]) (pc := 144) dX4_happen_144 rfl (by decide : 1 < 2) (sS_o hb) rfl ml_RX4_137 im_X4_shareAmongJoined se_X4_shareAmongJoined mk_X4_shareAmongJoined (Nat.le_of_ble_eq_true rfl) (c_X4_shareAmongJoined hb hR hK (by first | exact hs_ | exact hs)) (fun μ_ hq => ?_)
                    obtain ⟨s9, hs9, hq9, hμ_⟩ := hq
                    subst hμ_
                    try simp (disch := omega) only [st_N, st_A, st_B, st_i, st_s, st_j, st_pN, st_pA, st_pB, st_ps, st_rN, st_rA, st_rB, les1_at, les2_at, mkN_at, kfN_0, lput_eq, lput_ne, lesN_out, mkN_out]
                    exact P_vret (pc := 147) dX4_happen_147 rfl (QV.mk (by
                          first
                            | (exfalso; omega)
                            | (refine ⟨_, _, s9, hs9, fun h h5 => ?_, st_ext ?_ rfl rfl rfl⟩
                               · have g1 := hq9 h
                                 have g2 := hq2_ g1.1
                                 refine ⟨g2.1, g2.2, ?_⟩
                                 unfold hapN actN
                                 rw [if_pos (by omega)]
                                 exact g1.2
                               · unfold hapN actN
                                 rw [if_pos (by omega)])
                            | (refine ⟨_, _, s9, hs9, fun h h5 => (by exfalso; omega), st_ext ?_ rfl rfl rfl⟩
                               unfold hapN actN hndA
                               rw [if_neg (by omega)]
                               first
                                 | (rw [if_pos (by omega), if_neg (by omega), giveN_congr hK hB1]; done)
                                 | (rw [if_neg (by omega), if_pos (by omega), if_neg (by omega), giveN_congr hK hA1]; done)
                                 | (rw [if_neg (by omega), if_neg (by omega), if_neg (by omega), if_neg (by omega), giveN_congr hK hA1, giveN_congr hK hB1]; done)
                                 | (rw [if_neg (by omega), if_neg (by omega), if_pos (by omega), if_pos (by omega), giveN_congr hK (kf_congr hA1), giveN_congr hK (kf_congr hB1)]; done))))
                  · refine P_aload_n (pc := 130) dX4_happen_130 rfl 0 rfl ?_
                    refine P_iload_n (pc := 131) dX4_happen_131 rfl 3 rfl ?_
                    refine P_aload_n (pc := 132) dX4_happen_132 rfl 0 rfl ?_
                    refine P_getR (pc := 133) dX4_happen_133 fa_RX4_28 (sS_o hb) fS_7 ?_
                    refine P_lload (pc := 136) dX4_happen_136 4 rfl ?_
                    refine P_callVv (Y' := mX4_give) (as := [_, _, _]) (pc := 138) dX4_happen_138 rfl (by decide : 1 < 2) (sS_o hb) rfl ml_RX4_133 im_X4_give se_X4_give mk_X4_give (Nat.le_of_ble_eq_true rfl) (c_X4_giveA hb hR hK (by omega) hlp (by first | exact hs | exact hs_)) (fun μ_ hq => ?_)
                    obtain ⟨A_, s_, hs_, hμ_⟩ := hq
                    subst hμ_
                    try simp (disch := omega) only [st_N, st_A, st_B, st_i, st_s, st_j, st_pN, st_pA, st_pB, st_ps, st_rN, st_rA, st_rB, les1_at, les2_at, mkN_at, kfN_0, lput_eq, lput_ne, lesN_out, mkN_out]
                    refine P_aload_n (pc := 141) dX4_happen_141 rfl 0 rfl ?_
                    refine P_lload (pc := 142) dX4_happen_142 4 rfl ?_
                    refine P_callVv (Y' := mX4_shareAmongJoined) (as := [_]) (pc := 144) dX4_happen_144 rfl (by decide : 1 < 2) (sS_o hb) rfl ml_RX4_137 im_X4_shareAmongJoined se_X4_shareAmongJoined mk_X4_shareAmongJoined (Nat.le_of_ble_eq_true rfl) (c_X4_shareAmongJoined hb hR hK (by first | exact hs_ | exact hs)) (fun μ_ hq => ?_)
                    obtain ⟨s9, hs9, hq9, hμ_⟩ := hq
                    subst hμ_
                    try simp (disch := omega) only [st_N, st_A, st_B, st_i, st_s, st_j, st_pN, st_pA, st_pB, st_ps, st_rN, st_rA, st_rB, les1_at, les2_at, mkN_at, kfN_0, lput_eq, lput_ne, lesN_out, mkN_out]
                    exact P_vret (pc := 147) dX4_happen_147 rfl (QV.mk (by
                          first
                            | (exfalso; omega)
                            | (refine ⟨_, _, s9, hs9, fun h h5 => ?_, st_ext ?_ rfl rfl rfl⟩
                               · have g1 := hq9 h
                                 have g2 := hq2_ g1.1
                                 refine ⟨g2.1, g2.2, ?_⟩
                                 unfold hapN actN
                                 rw [if_pos (by omega)]
                                 exact g1.2
                               · unfold hapN actN
                                 rw [if_pos (by omega)])
                            | (refine ⟨_, _, s9, hs9, fun h h5 => (by exfalso; omega), st_ext ?_ rfl rfl rfl⟩
                               unfold hapN actN hndA
                               rw [if_neg (by omega)]
                               first
                                 | (rw [if_pos (by omega), if_neg (by omega), giveN_congr hK hB1]; done)
                                 | (rw [if_neg (by omega), if_pos (by omega), if_neg (by omega), giveN_congr hK hA1]; done)
                                 | (rw [if_neg (by omega), if_neg (by omega), if_neg (by omega), if_neg (by omega), giveN_congr hK hA1, giveN_congr hK hB1]; done)
                                 | (rw [if_neg (by omega), if_neg (by omega), if_pos (by omega), if_pos (by omega), giveN_congr hK (kf_congr hA1), giveN_congr hK (kf_congr hB1)]; done))))
              · refine P_aload_n (pc := 97) dX4_happen_97 rfl 0 rfl ?_
                refine P_getR (pc := 98) dX4_happen_98 fa_RX4_38 (sS_o hb) fS_0 ?_
                refine P_iconst (pc := 101) dX4_happen_101 ?_
                refine P_callVi (Y' := mX3_ruleOf) (as := [_]) (pc := 102) dX4_happen_102 rfl (by decide : 0 < 2) sC_1 rfl ml_RX4_130 im_X3_ruleOf se_X3_ruleOf mk_X3_ruleOf (Nat.le_of_ble_eq_true rfl) (c_X3_ruleOf (by unfold InR; omega)) (fun z_ μ_ hq => ?_)
                obtain ⟨hz, hμ_⟩ := hq
                subst hμ_
                rw [if_pos (by omega)] at hz
                simp (disch := omega) only [st_i] at hz
                rw [hR.2.2.2.1] at hz
                subst hz
                try simp (disch := omega) only [st_N, st_A, st_B, st_i, st_s, st_j, st_pN, st_pA, st_pB, st_ps, st_rN, st_rA, st_rB, les1_at, les2_at, mkN_at, kfN_0, lput_eq, lput_ne, lesN_out, mkN_out]
                refine P_iconst (pc := 105) dX4_happen_105 ?_
                refine P_icmp_ne (tgt := 120) (pc := 106) dX4_happen_106 (by decide) (by first | assumption | (unfold InR; omega)) (by first | assumption | (unfold InR; omega)) (fun c_106 => ?_) (fun c_106 => ?_)
                · refine P_iload_n (pc := 120) dX4_happen_120 rfl 1 rfl ?_
                  refine P_iconst (pc := 121) dX4_happen_121 ?_
                  refine P_icmp_eq (tgt := 141) (pc := 122) dX4_happen_122 (by decide) (by first | assumption | (unfold InR; omega)) (by first | assumption | (unfold InR; omega)) (fun c_122 => ?_) (fun c_122 => ?_)
                  · refine P_aload_n (pc := 141) dX4_happen_141 rfl 0 rfl ?_
                    refine P_lload (pc := 142) dX4_happen_142 4 rfl ?_
                    refine P_callVv (Y' := mX4_shareAmongJoined) (as := [_]) (pc := 144) dX4_happen_144 rfl (by decide : 1 < 2) (sS_o hb) rfl ml_RX4_137 im_X4_shareAmongJoined se_X4_shareAmongJoined mk_X4_shareAmongJoined (Nat.le_of_ble_eq_true rfl) (c_X4_shareAmongJoined hb hR hK (by first | exact hs_ | exact hs)) (fun μ_ hq => ?_)
                    obtain ⟨s9, hs9, hq9, hμ_⟩ := hq
                    subst hμ_
                    try simp (disch := omega) only [st_N, st_A, st_B, st_i, st_s, st_j, st_pN, st_pA, st_pB, st_ps, st_rN, st_rA, st_rB, les1_at, les2_at, mkN_at, kfN_0, lput_eq, lput_ne, lesN_out, mkN_out]
                    exact P_vret (pc := 147) dX4_happen_147 rfl (QV.mk (by
                          first
                            | (exfalso; omega)
                            | (refine ⟨_, _, s9, hs9, fun h h5 => ?_, st_ext ?_ rfl rfl rfl⟩
                               · have g1 := hq9 h
                                 have g2 := hq2_ g1.1
                                 refine ⟨g2.1, g2.2, ?_⟩
                                 unfold hapN actN
                                 rw [if_pos (by omega)]
                                 exact g1.2
                               · unfold hapN actN
                                 rw [if_pos (by omega)])
                            | (refine ⟨_, _, s9, hs9, fun h h5 => (by exfalso; omega), st_ext ?_ rfl rfl rfl⟩
                               unfold hapN actN hndA
                               rw [if_neg (by omega)]
                               first
                                 | (rw [if_pos (by omega), if_neg (by omega), giveN_congr hK hB1]; done)
                                 | (rw [if_neg (by omega), if_pos (by omega), if_neg (by omega), giveN_congr hK hA1]; done)
                                 | (rw [if_neg (by omega), if_neg (by omega), if_neg (by omega), if_neg (by omega), giveN_congr hK hA1, giveN_congr hK hB1]; done)
                                 | (rw [if_neg (by omega), if_neg (by omega), if_pos (by omega), if_pos (by omega), giveN_congr hK (kf_congr hA1), giveN_congr hK (kf_congr hB1)]; done))))
                  · refine P_iload_n (pc := 125) dX4_happen_125 rfl 1 rfl ?_
                    refine P_iconst (pc := 126) dX4_happen_126 ?_
                    refine P_icmp_eq (tgt := 141) (pc := 127) dX4_happen_127 (by decide) (by first | assumption | (unfold InR; omega)) (by first | assumption | (unfold InR; omega)) (fun c_127 => ?_) (fun c_127 => ?_)
                    · refine P_aload_n (pc := 141) dX4_happen_141 rfl 0 rfl ?_
                      refine P_lload (pc := 142) dX4_happen_142 4 rfl ?_
                      refine P_callVv (Y' := mX4_shareAmongJoined) (as := [_]) (pc := 144) dX4_happen_144 rfl (by decide : 1 < 2) (sS_o hb) rfl ml_RX4_137 im_X4_shareAmongJoined se_X4_shareAmongJoined mk_X4_shareAmongJoined (Nat.le_of_ble_eq_true rfl) (c_X4_shareAmongJoined hb hR hK (by first | exact hs_ | exact hs)) (fun μ_ hq => ?_)
                      obtain ⟨s9, hs9, hq9, hμ_⟩ := hq
                      subst hμ_
                      try simp (disch := omega) only [st_N, st_A, st_B, st_i, st_s, st_j, st_pN, st_pA, st_pB, st_ps, st_rN, st_rA, st_rB, les1_at, les2_at, mkN_at, kfN_0, lput_eq, lput_ne, lesN_out, mkN_out]
                      exact P_vret (pc := 147) dX4_happen_147 rfl (QV.mk (by
                            first
                              | (exfalso; omega)
                              | (refine ⟨_, _, s9, hs9, fun h h5 => ?_, st_ext ?_ rfl rfl rfl⟩
                                 · have g1 := hq9 h
                                   have g2 := hq2_ g1.1
                                   refine ⟨g2.1, g2.2, ?_⟩
                                   unfold hapN actN
                                   rw [if_pos (by omega)]
                                   exact g1.2
                                 · unfold hapN actN
                                   rw [if_pos (by omega)])
                              | (refine ⟨_, _, s9, hs9, fun h h5 => (by exfalso; omega), st_ext ?_ rfl rfl rfl⟩
                                 unfold hapN actN hndA
                                 rw [if_neg (by omega)]
                                 first
                                   | (rw [if_pos (by omega), if_neg (by omega), giveN_congr hK hB1]; done)
                                   | (rw [if_neg (by omega), if_pos (by omega), if_neg (by omega), giveN_congr hK hA1]; done)
                                   | (rw [if_neg (by omega), if_neg (by omega), if_neg (by omega), if_neg (by omega), giveN_congr hK hA1, giveN_congr hK hB1]; done)
                                   | (rw [if_neg (by omega), if_neg (by omega), if_pos (by omega), if_pos (by omega), giveN_congr hK (kf_congr hA1), giveN_congr hK (kf_congr hB1)]; done))))
                    · refine P_aload_n (pc := 130) dX4_happen_130 rfl 0 rfl ?_
                      refine P_iload_n (pc := 131) dX4_happen_131 rfl 3 rfl ?_
                      refine P_aload_n (pc := 132) dX4_happen_132 rfl 0 rfl ?_
                      refine P_getR (pc := 133) dX4_happen_133 fa_RX4_28 (sS_o hb) fS_7 ?_
                      refine P_lload (pc := 136) dX4_happen_136 4 rfl ?_
                      refine P_callVv (Y' := mX4_give) (as := [_, _, _]) (pc := 138) dX4_happen_138 rfl (by decide : 1 < 2) (sS_o hb) rfl ml_RX4_133 im_X4_give se_X4_give mk_X4_give (Nat.le_of_ble_eq_true rfl) (c_X4_giveA hb hR hK (by omega) hlp (by first | exact hs | exact hs_)) (fun μ_ hq => ?_)
                      obtain ⟨A_, s_, hs_, hμ_⟩ := hq
                      subst hμ_
                      try simp (disch := omega) only [st_N, st_A, st_B, st_i, st_s, st_j, st_pN, st_pA, st_pB, st_ps, st_rN, st_rA, st_rB, les1_at, les2_at, mkN_at, kfN_0, lput_eq, lput_ne, lesN_out, mkN_out]
                      refine P_aload_n (pc := 141) dX4_happen_141 rfl 0 rfl ?_
                      refine P_lload (pc := 142) dX4_happen_142 4 rfl ?_
                      refine P_callVv (Y' := mX4_shareAmongJoined) (as := [_]) (pc := 144) dX4_happen_144 rfl (by decide : 1 < 2) (sS_o hb) rfl ml_RX4_137 im_X4_shareAmongJoined se_X4_shareAmongJoined mk_X4_shareAmongJoined (Nat.le_of_ble_eq_true rfl) (c_X4_shareAmongJoined hb hR hK (by first | exact hs_ | exact hs)) (fun μ_ hq => ?_)
                      obtain ⟨s9, hs9, hq9, hμ_⟩ := hq
                      subst hμ_
                      try simp (disch := omega) only [st_N, st_A, st_B, st_i, st_s, st_j, st_pN, st_pA, st_pB, st_ps, st_rN, st_rA, st_rB, les1_at, les2_at, mkN_at, kfN_0, lput_eq, lput_ne, lesN_out, mkN_out]
                      exact P_vret (pc := 147) dX4_happen_147 rfl (QV.mk (by
                            first
                              | (exfalso; omega)
                              | (refine ⟨_, _, s9, hs9, fun h h5 => ?_, st_ext ?_ rfl rfl rfl⟩
                                 · have g1 := hq9 h
                                   have g2 := hq2_ g1.1
                                   refine ⟨g2.1, g2.2, ?_⟩
                                   unfold hapN actN
                                   rw [if_pos (by omega)]
                                   exact g1.2
                                 · unfold hapN actN
                                   rw [if_pos (by omega)])
                              | (refine ⟨_, _, s9, hs9, fun h h5 => (by exfalso; omega), st_ext ?_ rfl rfl rfl⟩
                                 unfold hapN actN hndA
                                 rw [if_neg (by omega)]
                                 first
                                   | (rw [if_pos (by omega), if_neg (by omega), giveN_congr hK hB1]; done)
                                   | (rw [if_neg (by omega), if_pos (by omega), if_neg (by omega), giveN_congr hK hA1]; done)
                                   | (rw [if_neg (by omega), if_neg (by omega), if_neg (by omega), if_neg (by omega), giveN_congr hK hA1, giveN_congr hK hB1]; done)
                                   | (rw [if_neg (by omega), if_neg (by omega), if_pos (by omega), if_pos (by omega), giveN_congr hK (kf_congr hA1), giveN_congr hK (kf_congr hB1)]; done))))
                · refine P_aload_n (pc := 109) dX4_happen_109 rfl 0 rfl ?_
                  refine P_iload_n (pc := 110) dX4_happen_110 rfl 2 rfl ?_
                  refine P_aload_n (pc := 111) dX4_happen_111 rfl 0 rfl ?_
                  refine P_getR (pc := 112) dX4_happen_112 fa_RX4_31 (sS_o hb) fS_8 ?_
                  refine P_lload (pc := 115) dX4_happen_115 4 rfl ?_
                  refine P_callVv (Y' := mX4_give) (as := [_, _, _]) (pc := 117) dX4_happen_117 rfl (by decide : 1 < 2) (sS_o hb) rfl ml_RX4_133 im_X4_give se_X4_give mk_X4_give (Nat.le_of_ble_eq_true rfl) (c_X4_giveB hb hR hK (by omega) hlp (by first | exact hs | exact hs_)) (fun μ_ hq => ?_)
                  obtain ⟨B_, s_, hs_, hμ_⟩ := hq
                  subst hμ_
                  try simp (disch := omega) only [st_N, st_A, st_B, st_i, st_s, st_j, st_pN, st_pA, st_pB, st_ps, st_rN, st_rA, st_rB, les1_at, les2_at, mkN_at, kfN_0, lput_eq, lput_ne, lesN_out, mkN_out]
                  refine P_iload_n (pc := 120) dX4_happen_120 rfl 1 rfl ?_
                  refine P_iconst (pc := 121) dX4_happen_121 ?_
                  refine P_icmp_eq (tgt := 141) (pc := 122) dX4_happen_122 (by decide) (by first | assumption | (unfold InR; omega)) (by first | assumption | (unfold InR; omega)) (fun c_122 => ?_) (fun c_122 => ?_)
                  · refine P_aload_n (pc := 141) dX4_happen_141 rfl 0 rfl ?_
                    refine P_lload (pc := 142) dX4_happen_142 4 rfl ?_
                    refine P_callVv (Y' := mX4_shareAmongJoined) (as := [_]) (pc := 144) dX4_happen_144 rfl (by decide : 1 < 2) (sS_o hb) rfl ml_RX4_137 im_X4_shareAmongJoined se_X4_shareAmongJoined mk_X4_shareAmongJoined (Nat.le_of_ble_eq_true rfl) (c_X4_shareAmongJoined hb hR hK (by first | exact hs_ | exact hs)) (fun μ_ hq => ?_)
                    obtain ⟨s9, hs9, hq9, hμ_⟩ := hq
                    subst hμ_
                    try simp (disch := omega) only [st_N, st_A, st_B, st_i, st_s, st_j, st_pN, st_pA, st_pB, st_ps, st_rN, st_rA, st_rB, les1_at, les2_at, mkN_at, kfN_0, lput_eq, lput_ne, lesN_out, mkN_out]
                    exact P_vret (pc := 147) dX4_happen_147 rfl (QV.mk (by
                          first
                            | (exfalso; omega)
                            | (refine ⟨_, _, s9, hs9, fun h h5 => ?_, st_ext ?_ rfl rfl rfl⟩
                               · have g1 := hq9 h
                                 have g2 := hq2_ g1.1
                                 refine ⟨g2.1, g2.2, ?_⟩
                                 unfold hapN actN
                                 rw [if_pos (by omega)]
                                 exact g1.2
                               · unfold hapN actN
                                 rw [if_pos (by omega)])
                            | (refine ⟨_, _, s9, hs9, fun h h5 => (by exfalso; omega), st_ext ?_ rfl rfl rfl⟩
                               unfold hapN actN hndA
                               rw [if_neg (by omega)]
                               first
                                 | (rw [if_pos (by omega), if_neg (by omega), giveN_congr hK hB1]; done)
                                 | (rw [if_neg (by omega), if_pos (by omega), if_neg (by omega), giveN_congr hK hA1]; done)
                                 | (rw [if_neg (by omega), if_neg (by omega), if_neg (by omega), if_neg (by omega), giveN_congr hK hA1, giveN_congr hK hB1]; done)
                                 | (rw [if_neg (by omega), if_neg (by omega), if_pos (by omega), if_pos (by omega), giveN_congr hK (kf_congr hA1), giveN_congr hK (kf_congr hB1)]; done))))
                  · refine P_iload_n (pc := 125) dX4_happen_125 rfl 1 rfl ?_
                    refine P_iconst (pc := 126) dX4_happen_126 ?_
                    refine P_icmp_eq (tgt := 141) (pc := 127) dX4_happen_127 (by decide) (by first | assumption | (unfold InR; omega)) (by first | assumption | (unfold InR; omega)) (fun c_127 => ?_) (fun c_127 => ?_)
                    · refine P_aload_n (pc := 141) dX4_happen_141 rfl 0 rfl ?_
                      refine P_lload (pc := 142) dX4_happen_142 4 rfl ?_
                      refine P_callVv (Y' := mX4_shareAmongJoined) (as := [_]) (pc := 144) dX4_happen_144 rfl (by decide : 1 < 2) (sS_o hb) rfl ml_RX4_137 im_X4_shareAmongJoined se_X4_shareAmongJoined mk_X4_shareAmongJoined (Nat.le_of_ble_eq_true rfl) (c_X4_shareAmongJoined hb hR hK (by first | exact hs_ | exact hs)) (fun μ_ hq => ?_)
                      obtain ⟨s9, hs9, hq9, hμ_⟩ := hq
                      subst hμ_
                      try simp (disch := omega) only [st_N, st_A, st_B, st_i, st_s, st_j, st_pN, st_pA, st_pB, st_ps, st_rN, st_rA, st_rB, les1_at, les2_at, mkN_at, kfN_0, lput_eq, lput_ne, lesN_out, mkN_out]
                      exact P_vret (pc := 147) dX4_happen_147 rfl (QV.mk (by
                            first
                              | (exfalso; omega)
                              | (refine ⟨_, _, s9, hs9, fun h h5 => ?_, st_ext ?_ rfl rfl rfl⟩
                                 · have g1 := hq9 h
                                   have g2 := hq2_ g1.1
                                   refine ⟨g2.1, g2.2, ?_⟩
                                   unfold hapN actN
                                   rw [if_pos (by omega)]
                                   exact g1.2
                                 · unfold hapN actN
                                   rw [if_pos (by omega)])
                              | (refine ⟨_, _, s9, hs9, fun h h5 => (by exfalso; omega), st_ext ?_ rfl rfl rfl⟩
                                 unfold hapN actN hndA
                                 rw [if_neg (by omega)]
                                 first
                                   | (rw [if_pos (by omega), if_neg (by omega), giveN_congr hK hB1]; done)
                                   | (rw [if_neg (by omega), if_pos (by omega), if_neg (by omega), giveN_congr hK hA1]; done)
                                   | (rw [if_neg (by omega), if_neg (by omega), if_neg (by omega), if_neg (by omega), giveN_congr hK hA1, giveN_congr hK hB1]; done)
                                   | (rw [if_neg (by omega), if_neg (by omega), if_pos (by omega), if_pos (by omega), giveN_congr hK (kf_congr hA1), giveN_congr hK (kf_congr hB1)]; done))))
                    · refine P_aload_n (pc := 130) dX4_happen_130 rfl 0 rfl ?_
                      refine P_iload_n (pc := 131) dX4_happen_131 rfl 3 rfl ?_
                      refine P_aload_n (pc := 132) dX4_happen_132 rfl 0 rfl ?_
                      refine P_getR (pc := 133) dX4_happen_133 fa_RX4_28 (sS_o hb) fS_7 ?_
                      refine P_lload (pc := 136) dX4_happen_136 4 rfl ?_
                      refine P_callVv (Y' := mX4_give) (as := [_, _, _]) (pc := 138) dX4_happen_138 rfl (by decide : 1 < 2) (sS_o hb) rfl ml_RX4_133 im_X4_give se_X4_give mk_X4_give (Nat.le_of_ble_eq_true rfl) (c_X4_giveA hb hR hK (by omega) hlp (by first | exact hs | exact hs_)) (fun μ_ hq => ?_)
                      obtain ⟨A_, s_, hs_, hμ_⟩ := hq
                      subst hμ_
                      try simp (disch := omega) only [st_N, st_A, st_B, st_i, st_s, st_j, st_pN, st_pA, st_pB, st_ps, st_rN, st_rA, st_rB, les1_at, les2_at, mkN_at, kfN_0, lput_eq, lput_ne, lesN_out, mkN_out]
                      refine P_aload_n (pc := 141) dX4_happen_141 rfl 0 rfl ?_
                      refine P_lload (pc := 142) dX4_happen_142 4 rfl ?_
                      refine P_callVv (Y' := mX4_shareAmongJoined) (as := [_]) (pc := 144) dX4_happen_144 rfl (by decide : 1 < 2) (sS_o hb) rfl ml_RX4_137 im_X4_shareAmongJoined se_X4_shareAmongJoined mk_X4_shareAmongJoined (Nat.le_of_ble_eq_true rfl) (c_X4_shareAmongJoined hb hR hK (by first | exact hs_ | exact hs)) (fun μ_ hq => ?_)
                      obtain ⟨s9, hs9, hq9, hμ_⟩ := hq
                      subst hμ_
                      try simp (disch := omega) only [st_N, st_A, st_B, st_i, st_s, st_j, st_pN, st_pA, st_pB, st_ps, st_rN, st_rA, st_rB, les1_at, les2_at, mkN_at, kfN_0, lput_eq, lput_ne, lesN_out, mkN_out]
                      exact P_vret (pc := 147) dX4_happen_147 rfl (QV.mk (by
                            first
                              | (exfalso; omega)
                              | (refine ⟨_, _, s9, hs9, fun h h5 => ?_, st_ext ?_ rfl rfl rfl⟩
                                 · have g1 := hq9 h
                                   have g2 := hq2_ g1.1
                                   refine ⟨g2.1, g2.2, ?_⟩
                                   unfold hapN actN
                                   rw [if_pos (by omega)]
                                   exact g1.2
                                 · unfold hapN actN
                                   rw [if_pos (by omega)])
                              | (refine ⟨_, _, s9, hs9, fun h h5 => (by exfalso; omega), st_ext ?_ rfl rfl rfl⟩
                                 unfold hapN actN hndA
                                 rw [if_neg (by omega)]
                                 first
                                   | (rw [if_pos (by omega), if_neg (by omega), giveN_congr hK hB1]; done)
                                   | (rw [if_neg (by omega), if_pos (by omega), if_neg (by omega), giveN_congr hK hA1]; done)
                                   | (rw [if_neg (by omega), if_neg (by omega), if_neg (by omega), if_neg (by omega), giveN_congr hK hA1, giveN_congr hK hB1]; done)
                                   | (rw [if_neg (by omega), if_neg (by omega), if_pos (by omega), if_pos (by omega), giveN_congr hK (kf_congr hA1), giveN_congr hK (kf_congr hB1)]; done))))
            · refine P_aload_n (pc := 78) dX4_happen_78 rfl 0 rfl ?_
              refine P_getR (pc := 79) dX4_happen_79 fa_RX4_28 (sS_o hb) fS_7 ?_
              refine P_callSv (Y' := mX4_keepFirstDegree) (as := [_]) (pc := 82) dX4_happen_82 rfl (by decide : 0 < 2) ml_RX4_126 sm_X4_keepFirstDegree mk_X4_keepFirstDegree (Nat.le_of_ble_eq_true rfl) (c_X4_kfdA hb) (fun μ_ hq => ?_)
              subst hq
              try simp (disch := omega) only [st_N, st_A, st_B, st_i, st_s, st_j, st_pN, st_pA, st_pB, st_ps, st_rN, st_rA, st_rB, les1_at, les2_at, mkN_at, kfN_0, lput_eq, lput_ne, lesN_out, mkN_out]
              refine P_aload_n (pc := 85) dX4_happen_85 rfl 0 rfl ?_
              refine P_getR (pc := 86) dX4_happen_86 fa_RX4_31 (sS_o hb) fS_8 ?_
              refine P_callSv (Y' := mX4_keepFirstDegree) (as := [_]) (pc := 89) dX4_happen_89 rfl (by decide : 0 < 2) ml_RX4_126 sm_X4_keepFirstDegree mk_X4_keepFirstDegree (Nat.le_of_ble_eq_true rfl) (c_X4_kfdB hb) (fun μ_ hq => ?_)
              subst hq
              try simp (disch := omega) only [st_N, st_A, st_B, st_i, st_s, st_j, st_pN, st_pA, st_pB, st_ps, st_rN, st_rA, st_rB, les1_at, les2_at, mkN_at, kfN_0, lput_eq, lput_ne, lesN_out, mkN_out]
              refine P_iload_n (pc := 92) dX4_happen_92 rfl 1 rfl ?_
              refine P_iconst (pc := 93) dX4_happen_93 ?_
              refine P_icmp_ne (tgt := 109) (pc := 94) dX4_happen_94 (by decide) (by first | assumption | (unfold InR; omega)) (by first | assumption | (unfold InR; omega)) (fun c_94 => ?_) (fun c_94 => ?_)
              · refine P_aload_n (pc := 109) dX4_happen_109 rfl 0 rfl ?_
                refine P_iload_n (pc := 110) dX4_happen_110 rfl 2 rfl ?_
                refine P_aload_n (pc := 111) dX4_happen_111 rfl 0 rfl ?_
                refine P_getR (pc := 112) dX4_happen_112 fa_RX4_31 (sS_o hb) fS_8 ?_
                refine P_lload (pc := 115) dX4_happen_115 4 rfl ?_
                refine P_callVv (Y' := mX4_give) (as := [_, _, _]) (pc := 117) dX4_happen_117 rfl (by decide : 1 < 2) (sS_o hb) rfl ml_RX4_133 im_X4_give se_X4_give mk_X4_give (Nat.le_of_ble_eq_true rfl) (c_X4_giveB hb hR hK (by omega) hlp (by first | exact hs | exact hs_)) (fun μ_ hq => ?_)
                obtain ⟨B_, s_, hs_, hμ_⟩ := hq
                subst hμ_
                try simp (disch := omega) only [st_N, st_A, st_B, st_i, st_s, st_j, st_pN, st_pA, st_pB, st_ps, st_rN, st_rA, st_rB, les1_at, les2_at, mkN_at, kfN_0, lput_eq, lput_ne, lesN_out, mkN_out]
                refine P_iload_n (pc := 120) dX4_happen_120 rfl 1 rfl ?_
                refine P_iconst (pc := 121) dX4_happen_121 ?_
                refine P_icmp_eq (tgt := 141) (pc := 122) dX4_happen_122 (by decide) (by first | assumption | (unfold InR; omega)) (by first | assumption | (unfold InR; omega)) (fun c_122 => ?_) (fun c_122 => ?_)
                · refine P_aload_n (pc := 141) dX4_happen_141 rfl 0 rfl ?_
                  refine P_lload (pc := 142) dX4_happen_142 4 rfl ?_
                  refine P_callVv (Y' := mX4_shareAmongJoined) (as := [_]) (pc := 144) dX4_happen_144 rfl (by decide : 1 < 2) (sS_o hb) rfl ml_RX4_137 im_X4_shareAmongJoined se_X4_shareAmongJoined mk_X4_shareAmongJoined (Nat.le_of_ble_eq_true rfl) (c_X4_shareAmongJoined hb hR hK (by first | exact hs_ | exact hs)) (fun μ_ hq => ?_)
                  obtain ⟨s9, hs9, hq9, hμ_⟩ := hq
                  subst hμ_
                  try simp (disch := omega) only [st_N, st_A, st_B, st_i, st_s, st_j, st_pN, st_pA, st_pB, st_ps, st_rN, st_rA, st_rB, les1_at, les2_at, mkN_at, kfN_0, lput_eq, lput_ne, lesN_out, mkN_out]
                  exact P_vret (pc := 147) dX4_happen_147 rfl (QV.mk (by
                        first
                          | (exfalso; omega)
                          | (refine ⟨_, _, s9, hs9, fun h h5 => ?_, st_ext ?_ rfl rfl rfl⟩
                             · have g1 := hq9 h
                               have g2 := hq2_ g1.1
                               refine ⟨g2.1, g2.2, ?_⟩
                               unfold hapN actN
                               rw [if_pos (by omega)]
                               exact g1.2
                             · unfold hapN actN
                               rw [if_pos (by omega)])
                          | (refine ⟨_, _, s9, hs9, fun h h5 => (by exfalso; omega), st_ext ?_ rfl rfl rfl⟩
                             unfold hapN actN hndA
                             rw [if_neg (by omega)]
                             first
                               | (rw [if_pos (by omega), if_neg (by omega), giveN_congr hK hB1]; done)
                               | (rw [if_neg (by omega), if_pos (by omega), if_neg (by omega), giveN_congr hK hA1]; done)
                               | (rw [if_neg (by omega), if_neg (by omega), if_neg (by omega), if_neg (by omega), giveN_congr hK hA1, giveN_congr hK hB1]; done)
                               | (rw [if_neg (by omega), if_neg (by omega), if_pos (by omega), if_pos (by omega), giveN_congr hK (kf_congr hA1), giveN_congr hK (kf_congr hB1)]; done))))
                · refine P_iload_n (pc := 125) dX4_happen_125 rfl 1 rfl ?_
                  refine P_iconst (pc := 126) dX4_happen_126 ?_
                  refine P_icmp_eq (tgt := 141) (pc := 127) dX4_happen_127 (by decide) (by first | assumption | (unfold InR; omega)) (by first | assumption | (unfold InR; omega)) (fun c_127 => ?_) (fun c_127 => ?_)
                  · refine P_aload_n (pc := 141) dX4_happen_141 rfl 0 rfl ?_
                    refine P_lload (pc := 142) dX4_happen_142 4 rfl ?_
                    refine P_callVv (Y' := mX4_shareAmongJoined) (as := [_]) (pc := 144) dX4_happen_144 rfl (by decide : 1 < 2) (sS_o hb) rfl ml_RX4_137 im_X4_shareAmongJoined se_X4_shareAmongJoined mk_X4_shareAmongJoined (Nat.le_of_ble_eq_true rfl) (c_X4_shareAmongJoined hb hR hK (by first | exact hs_ | exact hs)) (fun μ_ hq => ?_)
                    obtain ⟨s9, hs9, hq9, hμ_⟩ := hq
                    subst hμ_
                    try simp (disch := omega) only [st_N, st_A, st_B, st_i, st_s, st_j, st_pN, st_pA, st_pB, st_ps, st_rN, st_rA, st_rB, les1_at, les2_at, mkN_at, kfN_0, lput_eq, lput_ne, lesN_out, mkN_out]
                    exact P_vret (pc := 147) dX4_happen_147 rfl (QV.mk (by
                          first
                            | (exfalso; omega)
                            | (refine ⟨_, _, s9, hs9, fun h h5 => ?_, st_ext ?_ rfl rfl rfl⟩
                               · have g1 := hq9 h
                                 have g2 := hq2_ g1.1
                                 refine ⟨g2.1, g2.2, ?_⟩
                                 unfold hapN actN
                                 rw [if_pos (by omega)]
                                 exact g1.2
                               · unfold hapN actN
                                 rw [if_pos (by omega)])
                            | (refine ⟨_, _, s9, hs9, fun h h5 => (by exfalso; omega), st_ext ?_ rfl rfl rfl⟩
                               unfold hapN actN hndA
                               rw [if_neg (by omega)]
                               first
                                 | (rw [if_pos (by omega), if_neg (by omega), giveN_congr hK hB1]; done)
                                 | (rw [if_neg (by omega), if_pos (by omega), if_neg (by omega), giveN_congr hK hA1]; done)
                                 | (rw [if_neg (by omega), if_neg (by omega), if_neg (by omega), if_neg (by omega), giveN_congr hK hA1, giveN_congr hK hB1]; done)
                                 | (rw [if_neg (by omega), if_neg (by omega), if_pos (by omega), if_pos (by omega), giveN_congr hK (kf_congr hA1), giveN_congr hK (kf_congr hB1)]; done))))
                  · refine P_aload_n (pc := 130) dX4_happen_130 rfl 0 rfl ?_
                    refine P_iload_n (pc := 131) dX4_happen_131 rfl 3 rfl ?_
                    refine P_aload_n (pc := 132) dX4_happen_132 rfl 0 rfl ?_
                    refine P_getR (pc := 133) dX4_happen_133 fa_RX4_28 (sS_o hb) fS_7 ?_
                    refine P_lload (pc := 136) dX4_happen_136 4 rfl ?_
                    refine P_callVv (Y' := mX4_give) (as := [_, _, _]) (pc := 138) dX4_happen_138 rfl (by decide : 1 < 2) (sS_o hb) rfl ml_RX4_133 im_X4_give se_X4_give mk_X4_give (Nat.le_of_ble_eq_true rfl) (c_X4_giveA hb hR hK (by omega) hlp (by first | exact hs | exact hs_)) (fun μ_ hq => ?_)
                    obtain ⟨A_, s_, hs_, hμ_⟩ := hq
                    subst hμ_
                    try simp (disch := omega) only [st_N, st_A, st_B, st_i, st_s, st_j, st_pN, st_pA, st_pB, st_ps, st_rN, st_rA, st_rB, les1_at, les2_at, mkN_at, kfN_0, lput_eq, lput_ne, lesN_out, mkN_out]
                    refine P_aload_n (pc := 141) dX4_happen_141 rfl 0 rfl ?_
                    refine P_lload (pc := 142) dX4_happen_142 4 rfl ?_
                    refine P_callVv (Y' := mX4_shareAmongJoined) (as := [_]) (pc := 144) dX4_happen_144 rfl (by decide : 1 < 2) (sS_o hb) rfl ml_RX4_137 im_X4_shareAmongJoined se_X4_shareAmongJoined mk_X4_shareAmongJoined (Nat.le_of_ble_eq_true rfl) (c_X4_shareAmongJoined hb hR hK (by first | exact hs_ | exact hs)) (fun μ_ hq => ?_)
                    obtain ⟨s9, hs9, hq9, hμ_⟩ := hq
                    subst hμ_
                    try simp (disch := omega) only [st_N, st_A, st_B, st_i, st_s, st_j, st_pN, st_pA, st_pB, st_ps, st_rN, st_rA, st_rB, les1_at, les2_at, mkN_at, kfN_0, lput_eq, lput_ne, lesN_out, mkN_out]
                    exact P_vret (pc := 147) dX4_happen_147 rfl (QV.mk (by
                          first
                            | (exfalso; omega)
                            | (refine ⟨_, _, s9, hs9, fun h h5 => ?_, st_ext ?_ rfl rfl rfl⟩
                               · have g1 := hq9 h
                                 have g2 := hq2_ g1.1
                                 refine ⟨g2.1, g2.2, ?_⟩
                                 unfold hapN actN
                                 rw [if_pos (by omega)]
                                 exact g1.2
                               · unfold hapN actN
                                 rw [if_pos (by omega)])
                            | (refine ⟨_, _, s9, hs9, fun h h5 => (by exfalso; omega), st_ext ?_ rfl rfl rfl⟩
                               unfold hapN actN hndA
                               rw [if_neg (by omega)]
                               first
                                 | (rw [if_pos (by omega), if_neg (by omega), giveN_congr hK hB1]; done)
                                 | (rw [if_neg (by omega), if_pos (by omega), if_neg (by omega), giveN_congr hK hA1]; done)
                                 | (rw [if_neg (by omega), if_neg (by omega), if_neg (by omega), if_neg (by omega), giveN_congr hK hA1, giveN_congr hK hB1]; done)
                                 | (rw [if_neg (by omega), if_neg (by omega), if_pos (by omega), if_pos (by omega), giveN_congr hK (kf_congr hA1), giveN_congr hK (kf_congr hB1)]; done))))
              · refine P_aload_n (pc := 97) dX4_happen_97 rfl 0 rfl ?_
                refine P_getR (pc := 98) dX4_happen_98 fa_RX4_38 (sS_o hb) fS_0 ?_
                refine P_iconst (pc := 101) dX4_happen_101 ?_
                refine P_callVi (Y' := mX3_ruleOf) (as := [_]) (pc := 102) dX4_happen_102 rfl (by decide : 0 < 2) sC_1 rfl ml_RX4_130 im_X3_ruleOf se_X3_ruleOf mk_X3_ruleOf (Nat.le_of_ble_eq_true rfl) (c_X3_ruleOf (by unfold InR; omega)) (fun z_ μ_ hq => ?_)
                obtain ⟨hz, hμ_⟩ := hq
                subst hμ_
                rw [if_pos (by omega)] at hz
                simp (disch := omega) only [st_i] at hz
                rw [hR.2.2.2.1] at hz
                subst hz
                try simp (disch := omega) only [st_N, st_A, st_B, st_i, st_s, st_j, st_pN, st_pA, st_pB, st_ps, st_rN, st_rA, st_rB, les1_at, les2_at, mkN_at, kfN_0, lput_eq, lput_ne, lesN_out, mkN_out]
                refine P_iconst (pc := 105) dX4_happen_105 ?_
                refine P_icmp_ne (tgt := 120) (pc := 106) dX4_happen_106 (by decide) (by first | assumption | (unfold InR; omega)) (by first | assumption | (unfold InR; omega)) (fun c_106 => ?_) (fun c_106 => ?_)
                · refine P_iload_n (pc := 120) dX4_happen_120 rfl 1 rfl ?_
                  refine P_iconst (pc := 121) dX4_happen_121 ?_
                  refine P_icmp_eq (tgt := 141) (pc := 122) dX4_happen_122 (by decide) (by first | assumption | (unfold InR; omega)) (by first | assumption | (unfold InR; omega)) (fun c_122 => ?_) (fun c_122 => ?_)
                  · refine P_aload_n (pc := 141) dX4_happen_141 rfl 0 rfl ?_
                    refine P_lload (pc := 142) dX4_happen_142 4 rfl ?_
                    refine P_callVv (Y' := mX4_shareAmongJoined) (as := [_]) (pc := 144) dX4_happen_144 rfl (by decide : 1 < 2) (sS_o hb) rfl ml_RX4_137 im_X4_shareAmongJoined se_X4_shareAmongJoined mk_X4_shareAmongJoined (Nat.le_of_ble_eq_true rfl) (c_X4_shareAmongJoined hb hR hK (by first | exact hs_ | exact hs)) (fun μ_ hq => ?_)
                    obtain ⟨s9, hs9, hq9, hμ_⟩ := hq
                    subst hμ_
                    try simp (disch := omega) only [st_N, st_A, st_B, st_i, st_s, st_j, st_pN, st_pA, st_pB, st_ps, st_rN, st_rA, st_rB, les1_at, les2_at, mkN_at, kfN_0, lput_eq, lput_ne, lesN_out, mkN_out]
                    exact P_vret (pc := 147) dX4_happen_147 rfl (QV.mk (by
                          first
                            | (exfalso; omega)
                            | (refine ⟨_, _, s9, hs9, fun h h5 => ?_, st_ext ?_ rfl rfl rfl⟩
                               · have g1 := hq9 h
                                 have g2 := hq2_ g1.1
                                 refine ⟨g2.1, g2.2, ?_⟩
                                 unfold hapN actN
                                 rw [if_pos (by omega)]
                                 exact g1.2
                               · unfold hapN actN
                                 rw [if_pos (by omega)])
                            | (refine ⟨_, _, s9, hs9, fun h h5 => (by exfalso; omega), st_ext ?_ rfl rfl rfl⟩
                               unfold hapN actN hndA
                               rw [if_neg (by omega)]
                               first
                                 | (rw [if_pos (by omega), if_neg (by omega), giveN_congr hK hB1]; done)
                                 | (rw [if_neg (by omega), if_pos (by omega), if_neg (by omega), giveN_congr hK hA1]; done)
                                 | (rw [if_neg (by omega), if_neg (by omega), if_neg (by omega), if_neg (by omega), giveN_congr hK hA1, giveN_congr hK hB1]; done)
                                 | (rw [if_neg (by omega), if_neg (by omega), if_pos (by omega), if_pos (by omega), giveN_congr hK (kf_congr hA1), giveN_congr hK (kf_congr hB1)]; done))))
                  · refine P_iload_n (pc := 125) dX4_happen_125 rfl 1 rfl ?_
                    refine P_iconst (pc := 126) dX4_happen_126 ?_
                    refine P_icmp_eq (tgt := 141) (pc := 127) dX4_happen_127 (by decide) (by first | assumption | (unfold InR; omega)) (by first | assumption | (unfold InR; omega)) (fun c_127 => ?_) (fun c_127 => ?_)
                    · refine P_aload_n (pc := 141) dX4_happen_141 rfl 0 rfl ?_
                      refine P_lload (pc := 142) dX4_happen_142 4 rfl ?_
                      refine P_callVv (Y' := mX4_shareAmongJoined) (as := [_]) (pc := 144) dX4_happen_144 rfl (by decide : 1 < 2) (sS_o hb) rfl ml_RX4_137 im_X4_shareAmongJoined se_X4_shareAmongJoined mk_X4_shareAmongJoined (Nat.le_of_ble_eq_true rfl) (c_X4_shareAmongJoined hb hR hK (by first | exact hs_ | exact hs)) (fun μ_ hq => ?_)
                      obtain ⟨s9, hs9, hq9, hμ_⟩ := hq
                      subst hμ_
                      try simp (disch := omega) only [st_N, st_A, st_B, st_i, st_s, st_j, st_pN, st_pA, st_pB, st_ps, st_rN, st_rA, st_rB, les1_at, les2_at, mkN_at, kfN_0, lput_eq, lput_ne, lesN_out, mkN_out]
                      exact P_vret (pc := 147) dX4_happen_147 rfl (QV.mk (by
                            first
                              | (exfalso; omega)
                              | (refine ⟨_, _, s9, hs9, fun h h5 => ?_, st_ext ?_ rfl rfl rfl⟩
                                 · have g1 := hq9 h
                                   have g2 := hq2_ g1.1
                                   refine ⟨g2.1, g2.2, ?_⟩
                                   unfold hapN actN
                                   rw [if_pos (by omega)]
                                   exact g1.2
                                 · unfold hapN actN
                                   rw [if_pos (by omega)])
                              | (refine ⟨_, _, s9, hs9, fun h h5 => (by exfalso; omega), st_ext ?_ rfl rfl rfl⟩
                                 unfold hapN actN hndA
                                 rw [if_neg (by omega)]
                                 first
                                   | (rw [if_pos (by omega), if_neg (by omega), giveN_congr hK hB1]; done)
                                   | (rw [if_neg (by omega), if_pos (by omega), if_neg (by omega), giveN_congr hK hA1]; done)
                                   | (rw [if_neg (by omega), if_neg (by omega), if_neg (by omega), if_neg (by omega), giveN_congr hK hA1, giveN_congr hK hB1]; done)
                                   | (rw [if_neg (by omega), if_neg (by omega), if_pos (by omega), if_pos (by omega), giveN_congr hK (kf_congr hA1), giveN_congr hK (kf_congr hB1)]; done))))
                    · refine P_aload_n (pc := 130) dX4_happen_130 rfl 0 rfl ?_
                      refine P_iload_n (pc := 131) dX4_happen_131 rfl 3 rfl ?_
                      refine P_aload_n (pc := 132) dX4_happen_132 rfl 0 rfl ?_
                      refine P_getR (pc := 133) dX4_happen_133 fa_RX4_28 (sS_o hb) fS_7 ?_
                      refine P_lload (pc := 136) dX4_happen_136 4 rfl ?_
                      refine P_callVv (Y' := mX4_give) (as := [_, _, _]) (pc := 138) dX4_happen_138 rfl (by decide : 1 < 2) (sS_o hb) rfl ml_RX4_133 im_X4_give se_X4_give mk_X4_give (Nat.le_of_ble_eq_true rfl) (c_X4_giveA hb hR hK (by omega) hlp (by first | exact hs | exact hs_)) (fun μ_ hq => ?_)
                      obtain ⟨A_, s_, hs_, hμ_⟩ := hq
                      subst hμ_
                      try simp (disch := omega) only [st_N, st_A, st_B, st_i, st_s, st_j, st_pN, st_pA, st_pB, st_ps, st_rN, st_rA, st_rB, les1_at, les2_at, mkN_at, kfN_0, lput_eq, lput_ne, lesN_out, mkN_out]
                      refine P_aload_n (pc := 141) dX4_happen_141 rfl 0 rfl ?_
                      refine P_lload (pc := 142) dX4_happen_142 4 rfl ?_
                      refine P_callVv (Y' := mX4_shareAmongJoined) (as := [_]) (pc := 144) dX4_happen_144 rfl (by decide : 1 < 2) (sS_o hb) rfl ml_RX4_137 im_X4_shareAmongJoined se_X4_shareAmongJoined mk_X4_shareAmongJoined (Nat.le_of_ble_eq_true rfl) (c_X4_shareAmongJoined hb hR hK (by first | exact hs_ | exact hs)) (fun μ_ hq => ?_)
                      obtain ⟨s9, hs9, hq9, hμ_⟩ := hq
                      subst hμ_
                      try simp (disch := omega) only [st_N, st_A, st_B, st_i, st_s, st_j, st_pN, st_pA, st_pB, st_ps, st_rN, st_rA, st_rB, les1_at, les2_at, mkN_at, kfN_0, lput_eq, lput_ne, lesN_out, mkN_out]
                      exact P_vret (pc := 147) dX4_happen_147 rfl (QV.mk (by
                            first
                              | (exfalso; omega)
                              | (refine ⟨_, _, s9, hs9, fun h h5 => ?_, st_ext ?_ rfl rfl rfl⟩
                                 · have g1 := hq9 h
                                   have g2 := hq2_ g1.1
                                   refine ⟨g2.1, g2.2, ?_⟩
                                   unfold hapN actN
                                   rw [if_pos (by omega)]
                                   exact g1.2
                                 · unfold hapN actN
                                   rw [if_pos (by omega)])
                              | (refine ⟨_, _, s9, hs9, fun h h5 => (by exfalso; omega), st_ext ?_ rfl rfl rfl⟩
                                 unfold hapN actN hndA
                                 rw [if_neg (by omega)]
                                 first
                                   | (rw [if_pos (by omega), if_neg (by omega), giveN_congr hK hB1]; done)
                                   | (rw [if_neg (by omega), if_pos (by omega), if_neg (by omega), giveN_congr hK hA1]; done)
                                   | (rw [if_neg (by omega), if_neg (by omega), if_neg (by omega), if_neg (by omega), giveN_congr hK hA1, giveN_congr hK hB1]; done)
                                   | (rw [if_neg (by omega), if_neg (by omega), if_pos (by omega), if_pos (by omega), giveN_congr hK (kf_congr hA1), giveN_congr hK (kf_congr hB1)]; done))))
                · refine P_aload_n (pc := 109) dX4_happen_109 rfl 0 rfl ?_
                  refine P_iload_n (pc := 110) dX4_happen_110 rfl 2 rfl ?_
                  refine P_aload_n (pc := 111) dX4_happen_111 rfl 0 rfl ?_
                  refine P_getR (pc := 112) dX4_happen_112 fa_RX4_31 (sS_o hb) fS_8 ?_
                  refine P_lload (pc := 115) dX4_happen_115 4 rfl ?_
                  refine P_callVv (Y' := mX4_give) (as := [_, _, _]) (pc := 117) dX4_happen_117 rfl (by decide : 1 < 2) (sS_o hb) rfl ml_RX4_133 im_X4_give se_X4_give mk_X4_give (Nat.le_of_ble_eq_true rfl) (c_X4_giveB hb hR hK (by omega) hlp (by first | exact hs | exact hs_)) (fun μ_ hq => ?_)
                  obtain ⟨B_, s_, hs_, hμ_⟩ := hq
                  subst hμ_
                  try simp (disch := omega) only [st_N, st_A, st_B, st_i, st_s, st_j, st_pN, st_pA, st_pB, st_ps, st_rN, st_rA, st_rB, les1_at, les2_at, mkN_at, kfN_0, lput_eq, lput_ne, lesN_out, mkN_out]
                  refine P_iload_n (pc := 120) dX4_happen_120 rfl 1 rfl ?_
                  refine P_iconst (pc := 121) dX4_happen_121 ?_
                  refine P_icmp_eq (tgt := 141) (pc := 122) dX4_happen_122 (by decide) (by first | assumption | (unfold InR; omega)) (by first | assumption | (unfold InR; omega)) (fun c_122 => ?_) (fun c_122 => ?_)
                  · refine P_aload_n (pc := 141) dX4_happen_141 rfl 0 rfl ?_
                    refine P_lload (pc := 142) dX4_happen_142 4 rfl ?_
                    refine P_callVv (Y' := mX4_shareAmongJoined) (as := [_]) (pc := 144) dX4_happen_144 rfl (by decide : 1 < 2) (sS_o hb) rfl ml_RX4_137 im_X4_shareAmongJoined se_X4_shareAmongJoined mk_X4_shareAmongJoined (Nat.le_of_ble_eq_true rfl) (c_X4_shareAmongJoined hb hR hK (by first | exact hs_ | exact hs)) (fun μ_ hq => ?_)
                    obtain ⟨s9, hs9, hq9, hμ_⟩ := hq
                    subst hμ_
                    try simp (disch := omega) only [st_N, st_A, st_B, st_i, st_s, st_j, st_pN, st_pA, st_pB, st_ps, st_rN, st_rA, st_rB, les1_at, les2_at, mkN_at, kfN_0, lput_eq, lput_ne, lesN_out, mkN_out]
                    exact P_vret (pc := 147) dX4_happen_147 rfl (QV.mk (by
                          first
                            | (exfalso; omega)
                            | (refine ⟨_, _, s9, hs9, fun h h5 => ?_, st_ext ?_ rfl rfl rfl⟩
                               · have g1 := hq9 h
                                 have g2 := hq2_ g1.1
                                 refine ⟨g2.1, g2.2, ?_⟩
                                 unfold hapN actN
                                 rw [if_pos (by omega)]
                                 exact g1.2
                               · unfold hapN actN
                                 rw [if_pos (by omega)])
                            | (refine ⟨_, _, s9, hs9, fun h h5 => (by exfalso; omega), st_ext ?_ rfl rfl rfl⟩
                               unfold hapN actN hndA
                               rw [if_neg (by omega)]
                               first
                                 | (rw [if_pos (by omega), if_neg (by omega), giveN_congr hK hB1]; done)
                                 | (rw [if_neg (by omega), if_pos (by omega), if_neg (by omega), giveN_congr hK hA1]; done)
                                 | (rw [if_neg (by omega), if_neg (by omega), if_neg (by omega), if_neg (by omega), giveN_congr hK hA1, giveN_congr hK hB1]; done)
                                 | (rw [if_neg (by omega), if_neg (by omega), if_pos (by omega), if_pos (by omega), giveN_congr hK (kf_congr hA1), giveN_congr hK (kf_congr hB1)]; done))))
                  · refine P_iload_n (pc := 125) dX4_happen_125 rfl 1 rfl ?_
                    refine P_iconst (pc := 126) dX4_happen_126 ?_
                    refine P_icmp_eq (tgt := 141) (pc := 127) dX4_happen_127 (by decide) (by first | assumption | (unfold InR; omega)) (by first | assumption | (unfold InR; omega)) (fun c_127 => ?_) (fun c_127 => ?_)
                    · refine P_aload_n (pc := 141) dX4_happen_141 rfl 0 rfl ?_
                      refine P_lload (pc := 142) dX4_happen_142 4 rfl ?_
                      refine P_callVv (Y' := mX4_shareAmongJoined) (as := [_]) (pc := 144) dX4_happen_144 rfl (by decide : 1 < 2) (sS_o hb) rfl ml_RX4_137 im_X4_shareAmongJoined se_X4_shareAmongJoined mk_X4_shareAmongJoined (Nat.le_of_ble_eq_true rfl) (c_X4_shareAmongJoined hb hR hK (by first | exact hs_ | exact hs)) (fun μ_ hq => ?_)
                      obtain ⟨s9, hs9, hq9, hμ_⟩ := hq
                      subst hμ_
                      try simp (disch := omega) only [st_N, st_A, st_B, st_i, st_s, st_j, st_pN, st_pA, st_pB, st_ps, st_rN, st_rA, st_rB, les1_at, les2_at, mkN_at, kfN_0, lput_eq, lput_ne, lesN_out, mkN_out]
                      exact P_vret (pc := 147) dX4_happen_147 rfl (QV.mk (by
                            first
                              | (exfalso; omega)
                              | (refine ⟨_, _, s9, hs9, fun h h5 => ?_, st_ext ?_ rfl rfl rfl⟩
                                 · have g1 := hq9 h
                                   have g2 := hq2_ g1.1
                                   refine ⟨g2.1, g2.2, ?_⟩
                                   unfold hapN actN
                                   rw [if_pos (by omega)]
                                   exact g1.2
                                 · unfold hapN actN
                                   rw [if_pos (by omega)])
                              | (refine ⟨_, _, s9, hs9, fun h h5 => (by exfalso; omega), st_ext ?_ rfl rfl rfl⟩
                                 unfold hapN actN hndA
                                 rw [if_neg (by omega)]
                                 first
                                   | (rw [if_pos (by omega), if_neg (by omega), giveN_congr hK hB1]; done)
                                   | (rw [if_neg (by omega), if_pos (by omega), if_neg (by omega), giveN_congr hK hA1]; done)
                                   | (rw [if_neg (by omega), if_neg (by omega), if_neg (by omega), if_neg (by omega), giveN_congr hK hA1, giveN_congr hK hB1]; done)
                                   | (rw [if_neg (by omega), if_neg (by omega), if_pos (by omega), if_pos (by omega), giveN_congr hK (kf_congr hA1), giveN_congr hK (kf_congr hB1)]; done))))
                    · refine P_aload_n (pc := 130) dX4_happen_130 rfl 0 rfl ?_
                      refine P_iload_n (pc := 131) dX4_happen_131 rfl 3 rfl ?_
                      refine P_aload_n (pc := 132) dX4_happen_132 rfl 0 rfl ?_
                      refine P_getR (pc := 133) dX4_happen_133 fa_RX4_28 (sS_o hb) fS_7 ?_
                      refine P_lload (pc := 136) dX4_happen_136 4 rfl ?_
                      refine P_callVv (Y' := mX4_give) (as := [_, _, _]) (pc := 138) dX4_happen_138 rfl (by decide : 1 < 2) (sS_o hb) rfl ml_RX4_133 im_X4_give se_X4_give mk_X4_give (Nat.le_of_ble_eq_true rfl) (c_X4_giveA hb hR hK (by omega) hlp (by first | exact hs | exact hs_)) (fun μ_ hq => ?_)
                      obtain ⟨A_, s_, hs_, hμ_⟩ := hq
                      subst hμ_
                      try simp (disch := omega) only [st_N, st_A, st_B, st_i, st_s, st_j, st_pN, st_pA, st_pB, st_ps, st_rN, st_rA, st_rB, les1_at, les2_at, mkN_at, kfN_0, lput_eq, lput_ne, lesN_out, mkN_out]
                      refine P_aload_n (pc := 141) dX4_happen_141 rfl 0 rfl ?_
                      refine P_lload (pc := 142) dX4_happen_142 4 rfl ?_
                      refine P_callVv (Y' := mX4_shareAmongJoined) (as := [_]) (pc := 144) dX4_happen_144 rfl (by decide : 1 < 2) (sS_o hb) rfl ml_RX4_137 im_X4_shareAmongJoined se_X4_shareAmongJoined mk_X4_shareAmongJoined (Nat.le_of_ble_eq_true rfl) (c_X4_shareAmongJoined hb hR hK (by first | exact hs_ | exact hs)) (fun μ_ hq => ?_)
                      obtain ⟨s9, hs9, hq9, hμ_⟩ := hq
                      subst hμ_
                      try simp (disch := omega) only [st_N, st_A, st_B, st_i, st_s, st_j, st_pN, st_pA, st_pB, st_ps, st_rN, st_rA, st_rB, les1_at, les2_at, mkN_at, kfN_0, lput_eq, lput_ne, lesN_out, mkN_out]
                      exact P_vret (pc := 147) dX4_happen_147 rfl (QV.mk (by
                            first
                              | (exfalso; omega)
                              | (refine ⟨_, _, s9, hs9, fun h h5 => ?_, st_ext ?_ rfl rfl rfl⟩
                                 · have g1 := hq9 h
                                   have g2 := hq2_ g1.1
                                   refine ⟨g2.1, g2.2, ?_⟩
                                   unfold hapN actN
                                   rw [if_pos (by omega)]
                                   exact g1.2
                                 · unfold hapN actN
                                   rw [if_pos (by omega)])
                              | (refine ⟨_, _, s9, hs9, fun h h5 => (by exfalso; omega), st_ext ?_ rfl rfl rfl⟩
                                 unfold hapN actN hndA
                                 rw [if_neg (by omega)]
                                 first
                                   | (rw [if_pos (by omega), if_neg (by omega), giveN_congr hK hB1]; done)
                                   | (rw [if_neg (by omega), if_pos (by omega), if_neg (by omega), giveN_congr hK hA1]; done)
                                   | (rw [if_neg (by omega), if_neg (by omega), if_neg (by omega), if_neg (by omega), giveN_congr hK hA1, giveN_congr hK hB1]; done)
                                   | (rw [if_neg (by omega), if_neg (by omega), if_pos (by omega), if_pos (by omega), giveN_congr hK (kf_congr hA1), giveN_congr hK (kf_congr hB1)]; done))))
      · refine P_aload_n (pc := 16) dX4_happen_16 rfl 0 rfl ?_
        refine P_iload_n (pc := 17) dX4_happen_17 rfl 1 rfl ?_
        refine P_iload_n (pc := 18) dX4_happen_18 rfl 2 rfl ?_
        refine P_lload (pc := 19) dX4_happen_19 4 rfl ?_
        refine P_callVv (Y' := mX4_alterOne) (as := [_, _, _]) (pc := 21) dX4_happen_21 rfl (by decide : 1 < 2) (sS_o hb) rfl ml_RX4_116 im_X4_alterOne se_X4_alterOne mk_X4_alterOne (Nat.le_of_ble_eq_true rfl) (c_X4_alterOne hb hR hK (by omega) hx hs) (fun μ_ hq => ?_)
        obtain ⟨s_, hs_, hq2_, hμ_⟩ := hq
        subst hμ_
        try simp (disch := omega) only [st_N, st_A, st_B, st_i, st_s, st_j, st_pN, st_pA, st_pB, st_ps, st_rN, st_rA, st_rB, les1_at, les2_at, mkN_at, kfN_0, lput_eq, lput_ne, lesN_out, mkN_out]
        refine P_goto (tgt := 141) (pc := 24) dX4_happen_24 (by decide) ?_
        refine P_aload_n (pc := 141) dX4_happen_141 rfl 0 rfl ?_
        refine P_lload (pc := 142) dX4_happen_142 4 rfl ?_
        refine P_callVv (Y' := mX4_shareAmongJoined) (as := [_]) (pc := 144) dX4_happen_144 rfl (by decide : 1 < 2) (sS_o hb) rfl ml_RX4_137 im_X4_shareAmongJoined se_X4_shareAmongJoined mk_X4_shareAmongJoined (Nat.le_of_ble_eq_true rfl) (c_X4_shareAmongJoined hb hR hK (by first | exact hs_ | exact hs)) (fun μ_ hq => ?_)
        obtain ⟨s9, hs9, hq9, hμ_⟩ := hq
        subst hμ_
        try simp (disch := omega) only [st_N, st_A, st_B, st_i, st_s, st_j, st_pN, st_pA, st_pB, st_ps, st_rN, st_rA, st_rB, les1_at, les2_at, mkN_at, kfN_0, lput_eq, lput_ne, lesN_out, mkN_out]
        exact P_vret (pc := 147) dX4_happen_147 rfl (QV.mk (by
              first
                | (exfalso; omega)
                | (refine ⟨_, _, s9, hs9, fun h h5 => ?_, st_ext ?_ rfl rfl rfl⟩
                   · have g1 := hq9 h
                     have g2 := hq2_ g1.1
                     refine ⟨g2.1, g2.2, ?_⟩
                     unfold hapN actN
                     rw [if_pos (by omega)]
                     exact g1.2
                   · unfold hapN actN
                     rw [if_pos (by omega)])
                | (refine ⟨_, _, s9, hs9, fun h h5 => (by exfalso; omega), st_ext ?_ rfl rfl rfl⟩
                   unfold hapN actN hndA
                   rw [if_neg (by omega)]
                   first
                     | (rw [if_pos (by omega), if_neg (by omega), giveN_congr hK hB1]; done)
                     | (rw [if_neg (by omega), if_pos (by omega), if_neg (by omega), giveN_congr hK hA1]; done)
                     | (rw [if_neg (by omega), if_neg (by omega), if_neg (by omega), if_neg (by omega), giveN_congr hK hA1, giveN_congr hK hB1]; done)
                     | (rw [if_neg (by omega), if_neg (by omega), if_pos (by omega), if_pos (by omega), giveN_congr hK (kf_congr hA1), giveN_congr hK (kf_congr hB1)]; done))))
    · exact P_vret (pc := 10) dX4_happen_10 rfl (QV.mk (by
            first
              | (exfalso; omega)
              | (refine ⟨_, _, s9, hs9, fun h h5 => ?_, st_ext ?_ rfl rfl rfl⟩
                 · have g1 := hq9 h
                   have g2 := hq2_ g1.1
                   refine ⟨g2.1, g2.2, ?_⟩
                   unfold hapN actN
                   rw [if_pos (by omega)]
                   exact g1.2
                 · unfold hapN actN
                   rw [if_pos (by omega)])
              | (refine ⟨_, _, s9, hs9, fun h h5 => (by exfalso; omega), st_ext ?_ rfl rfl rfl⟩
                 unfold hapN actN hndA
                 rw [if_neg (by omega)]
                 first
                   | (rw [if_pos (by omega), if_neg (by omega), giveN_congr hK hB1]; done)
                   | (rw [if_neg (by omega), if_pos (by omega), if_neg (by omega), giveN_congr hK hA1]; done)
                   | (rw [if_neg (by omega), if_neg (by omega), if_neg (by omega), if_neg (by omega), giveN_congr hK hA1, giveN_congr hK hB1]; done)
                   | (rw [if_neg (by omega), if_neg (by omega), if_pos (by omega), if_pos (by omega), giveN_congr hK (kf_congr hA1), giveN_congr hK (kf_congr hB1)]; done))))
