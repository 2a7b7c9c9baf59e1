/-- what a story keeps of the order of events -/
def OI (K : Cel) (μ : Mem) (b : Nat) : Prop := (∀ j, 0 ≤ j → j ≤ 48 → μ.1 (25 + 7 * b) j = (cntB K j (K 0 12).toNat : Int)) ∧ (∀ e : Nat, e < (K 0 12).toNat → μ.1 (24 + 7 * b) (posE K e : Int) = (e : Int)) ∧ (∀ e, 0 ≤ e → e < 60 → μ.1 (26 + 7 * b) e = nsF K e)
theorem up_sameD {K : Cel} {p h : Int} {N : Pl} {m : Nat} : ∀ d, cntH K h (m + d) = cntH K h m → upN (ehN K p h) 0 (m + d) N = upN (ehN K p h) 0 m N
  | 0, _ => rfl
  | d + 1, hc => by
    have h1 := cnt_mono (fun i => decide (K 7 (i : Int) = h)) m d
    have h2 : cntH K h (m + d + 1) = _ := cntH_s
    have h3 : cntH K h m ≤ cntH K h (m + d) := h1
    rw [show m + (d + 1) = m + d + 1 by omega] at hc
    by_cases q : K 7 ((m + d : Nat) : Int) = h
    · rw [if_pos q] at h2; omega
    · rw [if_neg q] at h2
      show upN (ehN K p h) 0 (m + d + 1) N = _
      rw [upN_s, Int.zero_add]
      unfold ehN
      rw [if_neg q]
      exact up_sameD d (by omega)
theorem up_same {K : Cel} {p h : Int} {N : Pl} {m m' : Nat} (hm : m ≤ m') (hc : cntH K h m' = cntH K h m) : upN (ehN K p h) 0 m' N = upN (ehN K p h) 0 m N := by
  obtain ⟨d, rfl⟩ := Nat.exists_eq_add_of_le hm
  exact up_sameD d hc
theorem cntH_le {K : Cel} {h : Int} {m m' : Nat} (hm : m ≤ m') : cntH K h m ≤ cntH K h m' := by
  obtain ⟨d, rfl⟩ := Nat.exists_eq_add_of_le hm
  exact cnt_mono _ m d
/-- the next event of an hour -/
theorem next_ev {K : Cel} {h : Int} {m : Nat} (hm : cntH K h m < cntH K h (K 0 12).toNat) : ∃ e : Nat, e < (K 0 12).toNat ∧ K 7 (e : Int) = h ∧ cntH K h e = cntH K h m ∧ m ≤ e := by
  obtain ⟨e, h1, h2, h3⟩ := cnt_find (fun i => decide (K 7 (i : Int) = h)) _ _ hm
  have h4 : K 7 (e : Int) = h := of_decide_eq_true h2
  refine ⟨e, h1, h4, h3, ?_⟩
  rcases Nat.lt_or_ge e m with q | q
  · exfalso
    have h5 : cntH K h (e + 1) = _ := cntH_s
    rw [if_pos h4] at h5
    have h6 : cntH K h (e + 1) ≤ cntH K h m := cntH_le q
    have h7 : cntH K h e = cntH K h m := h3
    omega
  · exact q
set_option maxHeartbeats 1000000 in
set_option maxRecDepth 100000 in
theorem l_X4_playHours1 {μ : Mem} {b : Nat} {K : Cel} {f l : Int} {h : Int} {N : Pl} {Q : Option PV → Mem → Prop} (hb : b < 2) (hR : KR K μ) (hK : KOK K) (hO : OI K μ b) (hlp : μ.1 (3 + b) 1 = 6 * (b : Int)) (hf : 0 ≤ f ∧ f ≤ 48) (hl : -1 ≤ l ∧ l ≤ 47) (hh : 0 ≤ h ∧ h ≤ 47) (kx : ∀ (A' B' : Pl) (s' : Int), (s' = 0 ∨ s' = 1) → PW shC 3 mX4_playHours 160 [(0, vr (3 + b)), (1, vi f), (2, vi l), (3, vi h)] [] (stM μ b (upN (ehN K (6 * (b : Int)) h) 0 (K 0 12).toNat N) A' B' s') Q) : ∀ (k m : Nat) (i : Int) (A B : Pl) (s : Int), m ≤ (K 0 12).toNat → i = (cntB K h (K 0 12).toNat : Int) + (cntH K h m : Int) → (K 0 12).toNat - m < k → (s = 0 ∨ s = 1) → PW shC 3 mX4_playHours 35 [(0, vr (3 + b)), (1, vi f), (2, vi l), (3, vi h), (4, vi i)] [] (stM μ b (upN (ehN K (6 * (b : Int)) h) 0 m N) A B s) Q := by
  intro k
  induction k with
  | zero => intro m i A B s _ _ q; omega
  | succ k ih =>
  intro m i A B s hm hi hk0 hs
  have hH2 := hO.1 (h + 1) (by omega) (by omega)
  have hK1 := hK.1
  have hK2 := hK.2.1
  have hcB : cntB K (h + 1) (K 0 12).toNat = _ := cntB_s
  have hcL : cntB K (h + 1) (K 0 12).toNat ≤ (K 0 12).toNat := cnt_le _ _
  have hcM : cntH K h m ≤ cntH K h (K 0 12).toNat := cntH_le hm
  refine P_iload (pc := 35) dX4_playHours_35 4 rfl ?_
  refine P_aload_n (pc := 37) dX4_playHours_37 rfl 0 rfl ?_
  refine P_getR (pc := 38) dX4_playHours_38 fa_RX4_22 (sS_o hb) fS_5 ?_
  refine P_iload_n (pc := 41) dX4_playHours_41 rfl 3 rfl ?_
  refine P_iconst (pc := 42) dX4_playHours_42 ?_
  refine P_iadd (pc := 43) dX4_playHours_43 ?_
  refine P_iald (pc := 44) dX4_playHours_44 (sS_25 hb) (by omega) (by omega) (by decide) ?_
  try simp (disch := omega) only [st_N, st_A, st_B, st_i, st_s, st_j, st_pN, st_pA, st_pB, st_ps, st_rN, st_rA, st_rB, les1_at, les2_at, mkN_at, kfN_0, lput_eq, lput_ne, lesN_out, mkN_out]
  rw [hH2]
  refine P_icmp_ge (tgt := 160) (pc := 45) dX4_playHours_45 (by decide) (by first | assumption | (unfold InR; omega)) (by first | assumption | (unfold InR; omega)) (fun c_45 => ?_) (fun c_45 => ?_)
  · refine P_sub (L' := [(0, vr (3 + b)), (1, vi _), (2, vi _), (3, vi _)]) [0, 1, 2, 3] rfl ?_
    first
      | (exfalso; omega)
      | (have := kx A B s hs
         rw [up_same hm (by omega)] at this
         exact this)
  · refine P_iload (pc := 48) dX4_playHours_48 4 rfl ?_
    refine P_bipush (pc := 50) dX4_playHours_50 (by decide) ?_
    refine P_icmp_ge (tgt := 160) (pc := 52) dX4_playHours_52 (by decide) (by first | assumption | (unfold InR; omega)) (by first | assumption | (unfold InR; omega)) (fun c_52 => ?_) (fun c_52 => ?_)
    · refine P_sub (L' := [(0, vr (3 + b)), (1, vi _), (2, vi _), (3, vi _)]) [0, 1, 2, 3] rfl ?_
      first
        | (exfalso; omega)
        | (have := kx A B s hs
           rw [up_same hm (by omega)] at this
           exact this)
    · obtain ⟨e, he1, he2, he3, he4⟩ := next_ev (K := K) (h := h) (m := m) (by omega)
      have he8 : 0 ≤ (e : Int) ∧ (e : Int) < K 0 12 := by omega
      have hE : μ.1 (24 + 7 * b) i = (e : Int) := by
        have hp : i = (posE K e : Int) := by
          unfold posE
          rw [he2]
          omega
        rw [hp]
        exact hO.2.1 e he1
      have hk := hK.2.2.2.2.2.2.2.2.2 (e : Int) he8.1 he8.2
      have hk8 := hK.2.2.2.2.2.2.2.1 (e : Int)
      have hk11 := hK.2.2.2.2.2.2.2.2.1 (e : Int)
      have hns : 0 ≤ nsF K (e : Int) := by unfold nsF; have := srcNb K (e : Int).toNat; split <;> omega
      have hSn : μ.1 (26 + 7 * b) (e : Int) = ((nsF K (e : Int)).toNat : Int) := by rw [hO.2.2 _ he8.1 (by omega)]; omega
      have hU := up_same (K := K) (p := 6 * (b : Int)) (N := N) he4 he3
      have hS := upN_s (ehN K (6 * (b : Int)) h) 0 e N
      rw [Int.zero_add] at hS
      unfold ehN evN at hS
      rw [if_pos he2] at hS
      have hc1 : cntH K h (e + 1) = _ := cntH_s
      rw [if_pos he2] at hc1
      rw [← hU]
      have ih2 := fun A B s => ih (e + 1) (i + 1) A B s (by omega) (by omega) (by omega)
      unfold ehN evN at ih2 ⊢
      rw [hS] at ih2
      generalize upN (fun e N => if K 7 e = h then (if K 8 e = 9 then sprN K N (K 9 e) (K 10 e) (nsF K e).toNat (wayB (K 11 e)) else hapN K (6 * (b : Int)) N (K 8 e) (K 9 e) (K 10 e) (wayB (K 11 e))) else N) 0 e N = P at ih2 ⊢
      clear ih
      refine P_aload_n (pc := 55) dX4_playHours_55 rfl 0 rfl ?_
      refine P_getR (pc := 56) dX4_playHours_56 fa_RX4_18 (sS_o hb) fS_4 ?_
      refine P_iload (pc := 59) dX4_playHours_59 4 rfl ?_
      refine P_iald (pc := 61) dX4_playHours_61 (sS_24 hb) (by omega) (by omega) (by decide) ?_
      try simp (disch := omega) only [st_N, st_A, st_B, st_i, st_s, st_j, st_pN, st_pA, st_pB, st_ps, st_rN, st_rA, st_rB, les1_at, les2_at, mkN_at, kfN_0, lput_eq, lput_ne, lesN_out, mkN_out]
      rw [hE]
      refine P_istore (L' := [(5, vi _), (0, vr (3 + b)), (1, vi _), (2, vi _), (3, vi _), (4, vi _)]) (pc := 62) dX4_playHours_62 (by decide) rfl ?_
      refine P_aload_n (pc := 64) dX4_playHours_64 rfl 1 rfl ?_
      refine P_getR (pc := 65) dX4_playHours_65 fa_RX4_38 (sS_o hb) fS_0 ?_
      refine P_iload (pc := 68) dX4_playHours_68 0 rfl ?_
      refine P_iconst (pc := 70) dX4_playHours_70 ?_
      refine P_callVi (Y' := mX3_eventPart) (as := [_, _]) (pc := 71) dX4_playHours_71 rfl (by decide : 0 < 3) sC_1 rfl ml_RX4_68 im_X3_eventPart se_X3_eventPart mk_X3_eventPart (Nat.le_of_ble_eq_true rfl) (c_X3_eventPart (by omega) (by omega)) (fun z_ μ_ hq => ?_)
      obtain ⟨hz, hμ_⟩ := hq
      subst hμ_
      simp (disch := omega) only [st_i] at hz
      rw [(hR.2.2.2.2.1 (e : Int)).2.2.2.2] at hz
      subst hz
      try simp (disch := omega) only [st_N, st_A, st_B, st_i, st_s, st_j, st_pN, st_pA, st_pB, st_ps, st_rN, st_rA, st_rB, les1_at, les2_at, mkN_at, kfN_0, lput_eq, lput_ne, lesN_out, mkN_out]
      refine P_callNl (Y' := mX5_waysToldBy) (as := [_]) (pc := 74) dX4_playHours_74 rfl (by decide : 0 < 3) nm_RX4_93 sm_X5_waysToldBy mk_X5_waysToldBy (Nat.le_of_ble_eq_true rfl) (c_X5_waysToldBy (by unfold InR; omega)) (fun z_ μ_ hq => ?_)
      obtain ⟨hz, hμ_⟩ := hq
      subst hμ_
      subst hz
      try simp (disch := omega) only [st_N, st_A, st_B, st_i, st_s, st_j, st_pN, st_pA, st_pB, st_ps, st_rN, st_rA, st_rB, les1_at, les2_at, mkN_at, kfN_0, lput_eq, lput_ne, lesN_out, mkN_out]
      refine P_lstore (L' := [(6, vl _), (5, vi _), (0, vr (3 + b)), (1, vi _), (2, vi _), (3, vi _), (4, vi _)]) (pc := 77) dX4_playHours_77 (by decide) rfl ?_
      refine P_aload_n (pc := 79) dX4_playHours_79 rfl 2 rfl ?_
      refine P_getR (pc := 80) dX4_playHours_80 fa_RX4_38 (sS_o hb) fS_0 ?_
      refine P_iload (pc := 83) dX4_playHours_83 1 rfl ?_
      refine P_iconst (pc := 85) dX4_playHours_85 ?_
      refine P_callVi (Y' := mX3_eventPart) (as := [_, _]) (pc := 86) dX4_playHours_86 rfl (by decide : 0 < 3) sC_1 rfl ml_RX4_68 im_X3_eventPart se_X3_eventPart mk_X3_eventPart (Nat.le_of_ble_eq_true rfl) (c_X3_eventPart (by omega) (by omega)) (fun z_ μ_ hq => ?_)
      obtain ⟨hz, hμ_⟩ := hq
      subst hμ_
      simp (disch := omega) only [st_i] at hz
      rw [(hR.2.2.2.2.1 (e : Int)).2.1] at hz
      subst hz
      try simp (disch := omega) only [st_N, st_A, st_B, st_i, st_s, st_j, st_pN, st_pA, st_pB, st_ps, st_rN, st_rA, st_rB, les1_at, les2_at, mkN_at, kfN_0, lput_eq, lput_ne, lesN_out, mkN_out]
      refine P_istore (L' := [(8, vi _), (6, vl _), (5, vi _), (0, vr (3 + b)), (1, vi _), (2, vi _), (3, vi _), (4, vi _)]) (pc := 89) dX4_playHours_89 (by decide) rfl ?_
      refine P_aload_n (pc := 91) dX4_playHours_91 rfl 3 rfl ?_
      refine P_getR (pc := 92) dX4_playHours_92 fa_RX4_38 (sS_o hb) fS_0 ?_
      refine P_iload (pc := 95) dX4_playHours_95 2 rfl ?_
      refine P_iconst (pc := 97) dX4_playHours_97 ?_
      refine P_callVi (Y' := mX3_eventPart) (as := [_, _]) (pc := 98) dX4_playHours_98 rfl (by decide : 0 < 3) sC_1 rfl ml_RX4_68 im_X3_eventPart se_X3_eventPart mk_X3_eventPart (Nat.le_of_ble_eq_true rfl) (c_X3_eventPart (by omega) (by omega)) (fun z_ μ_ hq => ?_)
      obtain ⟨hz, hμ_⟩ := hq
      subst hμ_
      simp (disch := omega) only [st_i] at hz
      rw [(hR.2.2.2.2.1 (e : Int)).2.2.1] at hz
      subst hz
      try simp (disch := omega) only [st_N, st_A, st_B, st_i, st_s, st_j, st_pN, st_pA, st_pB, st_ps, st_rN, st_rA, st_rB, les1_at, les2_at, mkN_at, kfN_0, lput_eq, lput_ne, lesN_out, mkN_out]
      refine P_istore (L' := [(9, vi _), (8, vi _), (6, vl _), (5, vi _), (0, vr (3 + b)), (1, vi _), (2, vi _), (3, vi _), (4, vi _)]) (pc := 101) dX4_playHours_101 (by decide) rfl ?_
      refine P_aload_n (pc := 103) dX4_playHours_103 rfl 4 rfl ?_
      refine P_getR (pc := 104) dX4_playHours_104 fa_RX4_38 (sS_o hb) fS_0 ?_
      refine P_iload (pc := 107) dX4_playHours_107 3 rfl ?_
      refine P_iconst (pc := 109) dX4_playHours_109 ?_
      refine P_callVi (Y' := mX3_eventPart) (as := [_, _]) (pc := 110) dX4_playHours_110 rfl (by decide : 0 < 3) sC_1 rfl ml_RX4_68 im_X3_eventPart se_X3_eventPart mk_X3_eventPart (Nat.le_of_ble_eq_true rfl) (c_X3_eventPart (by omega) (by omega)) (fun z_ μ_ hq => ?_)
      obtain ⟨hz, hμ_⟩ := hq
      subst hμ_
      simp (disch := omega) only [st_i] at hz
      rw [(hR.2.2.2.2.1 (e : Int)).2.2.2.1] at hz
      subst hz
      try simp (disch := omega) only [st_N, st_A, st_B, st_i, st_s, st_j, st_pN, st_pA, st_pB, st_ps, st_rN, st_rA, st_rB, les1_at, les2_at, mkN_at, kfN_0, lput_eq, lput_ne, lesN_out, mkN_out]
      refine P_istore (L' := [(10, vi _), (9, vi _), (8, vi _), (6, vl _), (5, vi _), (0, vr (3 + b)), (1, vi _), (2, vi _), (3, vi _), (4, vi _)]) (pc := 113) dX4_playHours_113 (by decide) rfl ?_
      refine P_iload (pc := 115) dX4_playHours_115 2 rfl ?_
      refine P_bipush (pc := 117) dX4_playHours_117 (by decide) ?_
      refine P_icmp_ne (tgt := 142) (pc := 119) dX4_playHours_119 (by decide) (by first | assumption | (unfold InR; omega)) (by first | assumption | (unfold InR; omega)) (fun c_119 => ?_) (fun c_119 => ?_)
      · refine P_aload_n (pc := 142) dX4_playHours_142 rfl 5 rfl ?_
        refine P_iload (pc := 143) dX4_playHours_143 2 rfl ?_
        refine P_iload (pc := 145) dX4_playHours_145 1 rfl ?_
        refine P_iload (pc := 147) dX4_playHours_147 0 rfl ?_
        refine P_lload (pc := 149) dX4_playHours_149 3 rfl ?_
        refine P_callVv (Y' := mX4_happen) (as := [_, _, _, _]) (pc := 151) dX4_playHours_151 rfl (by decide : 2 < 3) (sS_o hb) rfl ml_RX4_101 im_X4_happen se_X4_happen mk_X4_happen (Nat.le_of_ble_eq_true rfl) (c_X4_happen hb hR hK (by omega) (by omega) (by omega) hlp hs) (fun μ_ hq => ?_)
        obtain ⟨A_, B_, s_, hs_, -, hμ_⟩ := hq
        subst hμ_
        try simp (disch := omega) only [st_N, st_A, st_B, st_i, st_s, st_j, st_pN, st_pA, st_pB, st_ps, st_rN, st_rA, st_rB, les1_at, les2_at, mkN_at, kfN_0, lput_eq, lput_ne, lesN_out, mkN_out]
        refine P_iinc (L' := [(4, vi _), (10, vi _), (9, vi _), (8, vi _), (6, vl _), (5, vi _), (0, vr (3 + b)), (1, vi _), (2, vi _), (3, vi _)]) (pc := 154) dX4_playHours_154 (by decide) 9 rfl rfl ?_
        refine P_goto (tgt := 35) (pc := 157) dX4_playHours_157 (by decide) ?_
        refine P_sub (L' := [(0, vr (3 + b)), (1, vi _), (2, vi _), (3, vi _), (4, vi _)]) [6, 7, 8, 9, 0] rfl ?_
        first
          | (rw [if_pos (by omega)] at ih2
             exact ih2 _ _ _ hs_)
          | (rw [if_neg (by omega)] at ih2
             exact ih2 _ _ _ hs_)
      · refine P_aload_n (pc := 122) dX4_playHours_122 rfl 5 rfl ?_
        refine P_iload (pc := 123) dX4_playHours_123 1 rfl ?_
        refine P_iload (pc := 125) dX4_playHours_125 0 rfl ?_
        refine P_lload (pc := 127) dX4_playHours_127 3 rfl ?_
        refine P_aload_n (pc := 129) dX4_playHours_129 rfl 5 rfl ?_
        refine P_getR (pc := 130) dX4_playHours_130 fa_RX4_25 (sS_o hb) fS_6 ?_
        refine P_iload (pc := 133) dX4_playHours_133 4 rfl ?_
        refine P_iald (pc := 135) dX4_playHours_135 (sS_26 hb) (by omega) (by omega) (by decide) ?_
        try simp (disch := omega) only [st_N, st_A, st_B, st_i, st_s, st_j, st_pN, st_pA, st_pB, st_ps, st_rN, st_rA, st_rB, les1_at, les2_at, mkN_at, kfN_0, lput_eq, lput_ne, lesN_out, mkN_out]
        rw [hSn]
        refine P_callVv (Y' := mX4_spring) (as := [_, _, _, _]) (pc := 136) dX4_playHours_136 rfl (by decide : 2 < 3) (sS_o hb) rfl ml_RX4_97 im_X4_spring se_X4_spring mk_X4_spring (Nat.le_of_ble_eq_true rfl) (c_X4_spring hb hR hK (by omega) (by omega) (src_ns he8 (by omega)).2 hs) (fun μ_ hq => ?_)
        obtain ⟨B_, s_, hs_, hμ_⟩ := hq
        subst hμ_
        try simp (disch := omega) only [st_N, st_A, st_B, st_i, st_s, st_j, st_pN, st_pA, st_pB, st_ps, st_rN, st_rA, st_rB, les1_at, les2_at, mkN_at, kfN_0, lput_eq, lput_ne, lesN_out, mkN_out]
        refine P_goto (tgt := 154) (pc := 139) dX4_playHours_139 (by decide) ?_
        refine P_iinc (L' := [(4, vi _), (10, vi _), (9, vi _), (8, vi _), (6, vl _), (5, vi _), (0, vr (3 + b)), (1, vi _), (2, vi _), (3, vi _)]) (pc := 154) dX4_playHours_154 (by decide) 9 rfl rfl ?_
        refine P_goto (tgt := 35) (pc := 157) dX4_playHours_157 (by decide) ?_
        refine P_sub (L' := [(0, vr (3 + b)), (1, vi _), (2, vi _), (3, vi _), (4, vi _)]) [6, 7, 8, 9, 0] rfl ?_
        first
          | (rw [if_pos (by omega)] at ih2
             exact ih2 _ _ _ hs_)
          | (rw [if_neg (by omega)] at ih2
             exact ih2 _ _ _ hs_)
set_option maxHeartbeats 1000000 in
set_option maxRecDepth 100000 in
theorem l_X4_playHours2 {μ : Mem} {b : Nat} {K : Cel} {f l : Int} {N : Pl} (hb : b < 2) (hR : KR K μ) (hK : KOK K) (hO : OI K μ b) (hlp : μ.1 (3 + b) 1 = 6 * (b : Int)) (hf : 0 ≤ f ∧ f ≤ 48) (hl : -1 ≤ l ∧ l ≤ 47) : ∀ (k m : Nat) (h : Int) (A B : Pl) (s : Int), h = f + (m : Int) → m ≤ (l + 1 - f).toNat → (l + 1 - f).toNat - m < k → (s = 0 ∨ s = 1) → PW shC 3 mX4_playHours 6 [(0, vr (3 + b)), (1, vi f), (2, vi l), (3, vi h)] [] (stM μ b (upN (hrN K (6 * (b : Int))) f m N) A B s) (QV (fun μ' => (∃ (A' B' : Pl) (s' : Int), (s' = 0 ∨ s' = 1) ∧ μ' = stM μ b (upN (hrN K (6 * (b : Int))) f (l + 1 - f).toNat N) A' B' s'))) := by
  intro k
  induction k with
  | zero => intro m h A B s _ _ q; omega
  | succ k ih =>
  intro m h A B s hm hm2 hk0 hs
  have hcL : cntB K h (K 0 12).toNat ≤ (K 0 12).toNat := cnt_le _ _
  have hH1 : 0 ≤ h → h ≤ 48 → _ := hO.1 h
  have hK2 := hK.2.1
  refine P_iload_n (pc := 6) dX4_playHours_6 rfl 3 rfl ?_
  refine P_iload_n (pc := 7) dX4_playHours_7 rfl 2 rfl ?_
  refine P_icmp_gt (tgt := 166) (pc := 8) dX4_playHours_8 (by decide) (by first | assumption | (unfold InR; omega)) (by first | assumption | (unfold InR; omega)) (fun c_8 => ?_) (fun c_8 => ?_)
  · exact P_vret (pc := 166) dX4_playHours_166 rfl (QV.mk (by first | (exfalso; omega) | (have e9 : m = (l + 1 - f).toNat := (by omega); rw [← e9]; exact ⟨A, B, s, hs, rfl⟩)))
  · refine P_iload_n (pc := 11) dX4_playHours_11 rfl 3 rfl ?_
    refine P_bipush (pc := 12) dX4_playHours_12 (by decide) ?_
    refine P_icmp_ge (tgt := 166) (pc := 14) dX4_playHours_14 (by decide) (by first | assumption | (unfold InR; omega)) (by first | assumption | (unfold InR; omega)) (fun c_14 => ?_) (fun c_14 => ?_)
    · exact P_vret (pc := 166) dX4_playHours_166 rfl (QV.mk (by first | (exfalso; omega) | (have e9 : m = (l + 1 - f).toNat := (by omega); rw [← e9]; exact ⟨A, B, s, hs, rfl⟩)))
    · refine P_iload_n (pc := 17) dX4_playHours_17 rfl 3 rfl ?_
      refine P_bipush (pc := 18) dX4_playHours_18 (by decide) ?_
      refine P_icmp_ne (tgt := 27) (pc := 20) dX4_playHours_20 (by decide) (by first | assumption | (unfold InR; omega)) (by first | assumption | (unfold InR; omega)) (fun c_20 => ?_) (fun c_20 => ?_)
      · refine P_aload_n (pc := 27) dX4_playHours_27 rfl 0 rfl ?_
        refine P_getR (pc := 28) dX4_playHours_28 fa_RX4_22 (sS_o hb) fS_5 ?_
        refine P_iload_n (pc := 31) dX4_playHours_31 rfl 3 rfl ?_
        refine P_iald (pc := 32) dX4_playHours_32 (sS_25 hb) (by omega) (by omega) (by decide) ?_
        try simp (disch := omega) only [st_N, st_A, st_B, st_i, st_s, st_j, st_pN, st_pA, st_pB, st_ps, st_rN, st_rA, st_rB, les1_at, les2_at, mkN_at, kfN_0, lput_eq, lput_ne, lesN_out, mkN_out]
        rw [hH1 (by omega) (by omega)]
        refine P_istore (L' := [(4, vi _), (0, vr (3 + b)), (1, vi _), (2, vi _), (3, vi _)]) (pc := 33) dX4_playHours_33 (by decide) rfl ?_
        refine P_sub (L' := [(0, vr (3 + b)), (1, vi _), (2, vi _), (3, vi _), (4, vi _)]) [1, 2, 3, 4, 0] rfl ?_
        have hiN : (cntB K h (K 0 12).toNat : Int) = (cntB K h (K 0 12).toNat : Int) + (cntH K h 0 : Int) := by show _ = _ + ((0 : Nat) : Int); omega
        have hg := upN_s (hrN K (6 * (b : Int))) f m N
        rw [← hm] at hg
        have ih2 := fun A B s => ih (m + 1) (h + 1) A B s (by omega) (by omega) (by omega)
        rw [hg] at ih2
        unfold hrN at ih2
        clear ih
        first
          | (rw [if_pos (by omega)] at ih2
             refine l_X4_playHours1 hb hR hK hO hlp hf hl ⟨by omega, by omega⟩ (fun A_ B_ s9 hs9 => ?_) ((K 0 12).toNat + 1) 0 _ _ _ _ (Nat.zero_le _) hiN (by omega) hs_)
          | (rw [if_neg (by omega)] at ih2
             refine l_X4_playHours1 hb hR hK hO hlp hf hl ⟨by omega, by omega⟩ (fun A_ B_ s9 hs9 => ?_) ((K 0 12).toNat + 1) 0 _ _ _ _ (Nat.zero_le _) hiN (by omega) hs)
        · skip
          refine P_iinc (L' := [(3, vi _), (0, vr (3 + b)), (1, vi _), (2, vi _)]) (pc := 160) dX4_playHours_160 (by decide) 3 rfl rfl ?_
          refine P_goto (tgt := 6) (pc := 163) dX4_playHours_163 (by decide) ?_
          refine P_sub (L' := [(0, vr (3 + b)), (1, vi _), (2, vi _), (3, vi _)]) [1, 2, 3, 0] rfl ?_
          exact ih2 _ _ _ hs9
      · refine P_aload_n (pc := 23) dX4_playHours_23 rfl 0 rfl ?_
        refine P_callVv (Y' := mX4_cleanTheWashed) (as := []) (pc := 24) dX4_playHours_24 rfl (by decide : 1 < 3) (sS_o hb) rfl ml_RX4_90 im_X4_cleanTheWashed se_X4_cleanTheWashed mk_X4_cleanTheWashed (Nat.le_of_ble_eq_true rfl) (c_X4_cleanTheWashed hb hR hK hs) (fun μ_ hq => ?_)
        obtain ⟨s_, hs_, hμ_⟩ := hq
        subst hμ_
        try simp (disch := omega) only [st_N, st_A, st_B, st_i, st_s, st_j, st_pN, st_pA, st_pB, st_ps, st_rN, st_rA, st_rB, les1_at, les2_at, mkN_at, kfN_0, lput_eq, lput_ne, lesN_out, mkN_out]
        refine P_aload_n (pc := 27) dX4_playHours_27 rfl 0 rfl ?_
        refine P_getR (pc := 28) dX4_playHours_28 fa_RX4_22 (sS_o hb) fS_5 ?_
        refine P_iload_n (pc := 31) dX4_playHours_31 rfl 3 rfl ?_
        refine P_iald (pc := 32) dX4_playHours_32 (sS_25 hb) (by omega) (by omega) (by decide) ?_
        try simp (disch := omega) only [st_N, st_A, st_B, st_i, st_s, st_j, st_pN, st_pA, st_pB, st_ps, st_rN, st_rA, st_rB, les1_at, les2_at, mkN_at, kfN_0, lput_eq, lput_ne, lesN_out, mkN_out]
        rw [hH1 (by omega) (by omega)]
        refine P_istore (L' := [(4, vi _), (0, vr (3 + b)), (1, vi _), (2, vi _), (3, vi _)]) (pc := 33) dX4_playHours_33 (by decide) rfl ?_
        refine P_sub (L' := [(0, vr (3 + b)), (1, vi _), (2, vi _), (3, vi _), (4, vi _)]) [1, 2, 3, 4, 0] rfl ?_
        have hiN : (cntB K h (K 0 12).toNat : Int) = (cntB K h (K 0 12).toNat : Int) + (cntH K h 0 : Int) := by show _ = _ + ((0 : Nat) : Int); omega
        have hg := upN_s (hrN K (6 * (b : Int))) f m N
        rw [← hm] at hg
        have ih2 := fun A B s => ih (m + 1) (h + 1) A B s (by omega) (by omega) (by omega)
        rw [hg] at ih2
        unfold hrN at ih2
        clear ih
        first
          | (rw [if_pos (by omega)] at ih2
             refine l_X4_playHours1 hb hR hK hO hlp hf hl ⟨by omega, by omega⟩ (fun A_ B_ s9 hs9 => ?_) ((K 0 12).toNat + 1) 0 _ _ _ _ (Nat.zero_le _) hiN (by omega) hs_)
          | (rw [if_neg (by omega)] at ih2
             refine l_X4_playHours1 hb hR hK hO hlp hf hl ⟨by omega, by omega⟩ (fun A_ B_ s9 hs9 => ?_) ((K 0 12).toNat + 1) 0 _ _ _ _ (Nat.zero_le _) hiN (by omega) hs)
        · skip
          refine P_iinc (L' := [(3, vi _), (0, vr (3 + b)), (1, vi _), (2, vi _)]) (pc := 160) dX4_playHours_160 (by decide) 3 rfl rfl ?_
          refine P_goto (tgt := 6) (pc := 163) dX4_playHours_163 (by decide) ?_
          refine P_sub (L' := [(0, vr (3 + b)), (1, vi _), (2, vi _), (3, vi _)]) [1, 2, 3, 0] rfl ?_
          exact ih2 _ _ _ hs9
set_option maxHeartbeats 1000000 in
set_option maxRecDepth 100000 in
theorem c_X4_playHours {μ : Mem} {b : Nat} {N A B : Pl} {s : Int} {K : Cel} {f l : Int} (hb : b < 2) (hR : KR K μ) (hK : KOK K) (hO : OI K μ b) (hlp : μ.1 (3 + b) 1 = 6 * (b : Int)) (hf : 0 ≤ f ∧ f ≤ 48) (hl : -1 ≤ l ∧ l ≤ 47) (hs : s = 0 ∨ s = 1) : PC shC 3 mX4_playHours [vr (3 + b), vi f, vi l] (stM μ b N A B s) (QV (fun μ' => (∃ (A' B' : Pl) (s' : Int), (s' = 0 ∨ s' = 1) ∧ μ' = stM μ b (upN (hrN K (6 * (b : Int))) f (l + 1 - f).toNat N) A' B' s'))) := by
  refine PC.of (by decide +kernel) (Nat.le_of_ble_eq_true rfl) ?_
  refine P_sub (L' := [(0, vr (3 + b)), (1, vi f), (2, vi l)]) [0, 1, 2] rfl ?_
  refine P_iload_n (pc := 0) dX4_playHours_0 rfl 1 rfl ?_
  refine P_iconst (pc := 1) dX4_playHours_1 ?_
  refine P_callSi (Y' := mJ9_max_7cf53) (as := [_, _]) (pc := 2) dX4_playHours_2 rfl (by decide : 0 < 3) ml_RX4_85 sm_J9_max_7cf53 mk_J9_max_7cf53 (Nat.le_of_ble_eq_true rfl) (c_J9_max_7cf53 (by unfold InR; omega) (by unfold InR; omega)) (fun z_ μ_ hq => ?_)
  obtain ⟨hz, hμ_⟩ := hq
  subst hμ_
  rw [if_neg (by omega)] at hz
  have hz := hz.symm
  subst hz
  try simp (disch := omega) only [st_N, st_A, st_B, st_i, st_s, st_j, st_pN, st_pA, st_pB, st_ps, st_rN, st_rA, st_rB, les1_at, les2_at, mkN_at, kfN_0, lput_eq, lput_ne, lesN_out, mkN_out]
  refine P_istore_n (L' := [(3, vi _), (0, vr (3 + b)), (1, vi _), (2, vi _)]) (pc := 5) dX4_playHours_5 rfl (by decide) rfl ?_
  refine P_sub (L' := [(0, vr (3 + b)), (1, vi _), (2, vi _), (3, vi _)]) [1, 2, 3, 0] rfl ?_
  exact l_X4_playHours2 hb hR hK hO hlp hf hl ((l + 1 - f).toNat + 1) 0 f A B s (by omega) (Nat.zero_le _) (by omega) hs
