/-! the image's data depend on a few rows alone -/
theorem bk_kd {ν ν' : Mem} (m : ∀ q, (2 ≤ q ∧ q ≤ 11) ∨ (20 ≤ q ∧ q ≤ 22) ∨ (25 ≤ q ∧ q ≤ 27) ∨ q = 30 → ν'.1 q = ν.1 q) : BRM (bk ν) (bk ν') := by
  refine ⟨?_, ⟨?_, ?_, ?_⟩, ?_, ⟨?_, ?_, ?_⟩, ?_, ?_, ?_⟩
  · funext q
    unfold kd
    by_cases h0 : q = 0
    · subst h0
      rw [if_pos rfl, if_pos rfl, bk_0_11, bk_0_11, bk_0_12, bk_0_12, m 30 (by decide)]
    · by_cases h2 : 2 ≤ q ∧ q ≤ 11
      · rw [if_neg h0, if_neg h0, if_pos h2, if_pos h2]
        rcases (show q = 2 ∨ q = 3 ∨ q = 4 ∨ q = 5 ∨ q = 6 ∨ q = 7 ∨ q = 8 ∨ q = 9 ∨ q = 10 ∨ q = 11 by omega) with rfl | rfl | rfl | rfl | rfl | rfl | rfl | rfl | rfl | rfl
        · rw [bk_2, bk_2, m 2 (by decide), m 30 (by decide)]
        · rw [bk_3, bk_3, m 3 (by decide), m 30 (by decide)]
        · rw [bk_4, bk_4, m 4 (by decide), m 30 (by decide)]
        · rw [bk_5, bk_5, m 5 (by decide), m 30 (by decide)]
        · rw [bk_6, bk_6, m 6 (by decide), m 30 (by decide)]
        · rw [bk_7, bk_7, m 7 (by decide), m 30 (by decide)]
        · rw [bk_8, bk_8, m 8 (by decide), m 30 (by decide)]
        · rw [bk_9, bk_9, m 9 (by decide), m 30 (by decide)]
        · rw [bk_10, bk_10, m 10 (by decide), m 30 (by decide)]
        · rw [bk_11, bk_11, m 11 (by decide), m 30 (by decide)]
      · rw [if_neg h0, if_neg h0, if_neg h2, if_neg h2]
  · rw [bk_0_11, bk_0_11, m 30 (by decide)]
  · rw [bk_0_30, bk_0_30, m 30 (by decide)]
  · rw [bk_0_37, bk_0_37, m 30 (by decide)]
  · rw [bk_4, bk_4, m 4 (by decide), m 30 (by decide)]
  · rw [bk_20, bk_20, m 20 (by decide), m 30 (by decide)]
  · rw [bk_21, bk_21, m 21 (by decide), m 30 (by decide)]
  · rw [bk_22, bk_22, m 22 (by decide), m 30 (by decide)]
  · rw [bk_25, bk_25, m 25 (by decide), m 30 (by decide)]
  · rw [bk_26, bk_26, m 26 (by decide), m 30 (by decide)]
  · rw [bk_27, bk_27, m 27 (by decide), m 30 (by decide)]
theorem kd_cg {ν ν' : Mem} (m : ∀ q, 2 ≤ q ∧ q ≤ 11 → ν'.1 q = ν.1 q) (m0 : ν'.1 0 11 = ν.1 0 11 ∧ ν'.1 0 12 = ν.1 0 12) : kd ν'.1 = kd ν.1 := by
  funext q
  unfold kd
  by_cases h0 : q = 0
  · subst h0
    rw [if_pos rfl, if_pos rfl, m0.1, m0.2]
  · by_cases h2 : 2 ≤ q ∧ q ≤ 11
    · rw [if_neg h0, if_neg h0, if_pos h2, if_pos h2, m q h2]
    · rw [if_neg h0, if_neg h0, if_neg h2, if_neg h2]
theorem STI_cg {K : Cel} {b : Nat} {μ μ' : Mem} (hb : b < 2) (c : ∀ q, 1 ≤ q → q ≠ 8 → (q < 16 ∨ 21 < q) → q ≠ 37 → q ≠ 2 → μ'.1 q = μ.1 q) (c2 : μ'.2 = μ.2) (s : STI K μ b) : STI K μ' b := by
  obtain ⟨s1, s2, s3, s4⟩ := s
  unfold STI
  rw [c (3 + b) (by omega) (by omega) (by omega) (by omega) (by omega), c 1 (by omega) (by omega) (by omega) (by omega) (by omega)]
  refine ⟨s1, s2, s3, fun z => ?_⟩
  obtain ⟨o, u⟩ := s4 z
  unfold SI OI at *
  rw [c (25 + 7 * b) (by omega) (by omega) (by omega) (by omega) (by omega), c (24 + 7 * b) (by omega) (by omega) (by omega) (by omega) (by omega), c (26 + 7 * b) (by omega) (by omega) (by omega) (by omega) (by omega), c2]
  exact ⟨o, u⟩
/-- the text changes, nothing else -/
theorem RL_tx {n : Int} {μ μ' ν ν' : Mem} (h : RLN n μ ν) (c : ∀ q, q ≠ 8 → q ≠ 37 → μ'.1 q = μ.1 q) (c2 : μ'.2 = μ.2) (m : ∀ q, q ≠ 0 → q ≠ 12 → ν'.1 q = ν.1 q) (m0 : ∀ j : Int, j ≠ 14 → j ≠ 15 → j ≠ 16 → ν'.1 0 j = ν.1 0 j) (t : TXI μ' ν') : RLN n μ' ν' := by
  obtain ⟨a1, a2, a3, a4, a5, a6⟩ := h
  have mk : kd ν'.1 = kd ν.1 := kd_cg (fun q hq => m q (by omega) (by omega)) ⟨m0 11 (by decide) (by decide) (by decide), m0 12 (by decide) (by decide) (by decide)⟩
  refine ⟨BR_cg a1 ⟨fun j _ _ => by rw [c 1 (by decide) (by decide)], fun q a d => c q (by omega) (by omega)⟩ ⟨mk, ⟨m0 11 (by decide) (by decide) (by decide), m0 30 (by decide) (by decide) (by decide), m0 37 (by decide) (by decide) (by decide)⟩, m 4 (by decide) (by decide), ⟨m 20 (by decide) (by decide), m 21 (by decide) (by decide), m 22 (by decide) (by decide)⟩, m 25 (by decide) (by decide), m 26 (by decide) (by decide), m 27 (by decide) (by decide)⟩, t, ?_, ?_, ?_, by rw [c 1 (by decide) (by decide)]; exact a6⟩
  · unfold RFI at a3 ⊢
    rw [c 9 (by decide) (by decide), m 1 (by decide) (by decide)]
    exact a3
  · obtain ⟨i1, i2, i3⟩ := a4
    unfold IMI
    rw [m0 40 (by decide) (by decide) (by decide), c 0 (by decide) (by decide)]
    exact ⟨i1, i2, fun z => BR_cg (i3 z) (EC_cc ⟨fun j _ _ => by rw [c 2 (by decide) (by decide)], fun q a d => c q (by omega) (by omega)⟩) (bk_kd (fun q hq => m q (by omega) (by omega)))⟩
  · rw [mk]
    exact ⟨STI_cg (by decide) (fun q _ a _ d _ => c q a d) c2 a5.1, STI_cg (by decide) (fun q _ a _ d _ => c q a d) c2 a5.2⟩
theorem fed_eq {μ ν : Mem} {y : BitVec 64} (e1 : μ.1 37 = ν.1 12) (e2 : μ.1 8 2 = ν.1 0 14) : ∀ i, (cFed μ y i).1 37 = (fedN ν y i).1 12
  | 0 => e1
  | i + 1 => by
    show (putI (putI (cFed μ y i) 37 (μ.1 8 2 + (i : Int)) (byteN y i)) 8 2 (μ.1 8 2 + (i : Int) + 1)).1 37 = (putI (putI (fedN ν y i) 12 (ν.1 0 14 + (i : Int)) (byteN y i)) 0 14 (ν.1 0 14 + (i : Int) + 1)).1 12
    rw [putI_ne (show (37 : Nat) ≠ 8 by decide), putI_ne (show (12 : Nat) ≠ 0 by decide)]
    funext j
    rw [putI_i, putI_i, e2, fed_eq e1 e2 i]
    by_cases q : j = ν.1 0 14 + (i : Int)
    · rw [if_pos ⟨rfl, q⟩, if_pos ⟨rfl, q⟩]
    · rw [if_neg (fun z => q z.2), if_neg (fun z => q z.2)]
theorem cFed_q {μ : Mem} {y : BitVec 64} {q : Nat} (h8 : q ≠ 8) (h37 : q ≠ 37) : ∀ i, (cFed μ y i).1 q = μ.1 q
  | 0 => rfl
  | i + 1 => by
    show (putI (putI (cFed μ y i) 37 _ _) 8 2 _).1 q = _
    rw [putI_ne h8, putI_ne h37, cFed_q h8 h37 i]
theorem cFed_l {μ : Mem} {y : BitVec 64} : ∀ i, (cFed μ y i).2 = μ.2
  | 0 => rfl
  | i + 1 => by
    show (cFed μ y i).2 = _
    exact cFed_l i
theorem fedN_q {ν : Mem} {y : BitVec 64} {q : Nat} (h0 : q ≠ 0) (h12 : q ≠ 12) : ∀ i, (fedN ν y i).1 q = ν.1 q
  | 0 => rfl
  | i + 1 => by
    show (putI (putI (fedN ν y i) 12 _ _) 0 14 _).1 q = _
    rw [putI_ne h0, putI_ne h12, fedN_q h0 h12 i]
theorem fedN_0 {ν : Mem} {y : BitVec 64} {j : Int} (h : j ≠ 14) : ∀ i, (fedN ν y i).1 0 j = ν.1 0 j
  | 0 => rfl
  | i + 1 => by
    show (putI (putI (fedN ν y i) 12 _ _) 0 14 _).1 0 j = _
    rw [putI_nej h, putI_ne (by decide), fedN_0 h i]
theorem fedN_in {ν : Mem} {y : BitVec 64} (h : ∀ j, 0 ≤ ν.1 12 j ∧ ν.1 12 j ≤ 255) : ∀ i j, 0 ≤ (fedN ν y i).1 12 j ∧ (fedN ν y i).1 12 j ≤ 255
  | 0, j => h j
  | i + 1, j => by
    show 0 ≤ (putI (putI (fedN ν y i) 12 (ν.1 0 14 + (i : Int)) (byteN y i)) 0 14 _).1 12 j ∧ (putI (putI (fedN ν y i) 12 (ν.1 0 14 + (i : Int)) (byteN y i)) 0 14 _).1 12 j ≤ 255
    rw [putI_ne (by decide), putI_i]
    split
    · exact byteN_in y i
    · exact fedN_in h i j
theorem UP_feed {n k : Int} {μ ν : Mem} {y : BitVec 64} (h : RLN n μ ν) (hk : 1 ≤ k ∧ k ≤ 8) (hL : ν.1 0 14 + k ≤ 80) : RLN n (cFed μ y k.toNat) (fedN ν y k.toNat) := by
  obtain ⟨⟨t1, t2, t3⟩, e1, e2⟩ := id h.2.1
  refine RL_tx h (fun q a d => cFed_q a d _) (cFed_l _) (fun q a d => fedN_q a d _) (fun j a _ _ => fedN_0 a _) ⟨⟨fedN_in t1 _, ?_, ?_⟩, fed_eq e1 e2 _, ?_⟩
  · rw [fedN_14]; omega
  · rw [fedN_14]; omega
  · rw [fedN_14, cFed_2, e2]
set_option maxHeartbeats 1000000 in
set_option maxRecDepth 100000 in
theorem c_X5_feed {n : Int} {μ ν : Mem} {k : Int} {y : BitVec 64} (h : RLN n μ ν) (hn : n < 2147483648) (hk : InR k) : PC shC 1 mX5_feed [vr 0, vi k, vl y] (μ) (QI (fun z μ' => z = (if whyFd ν.1 k = 0 then ν.1 0 14 + k else whyFd ν.1 k) ∧ RLN (n + 1) μ' (if whyFd ν.1 k = 0 then fedN ν y k.toNat else refM ν (whyFd ν.1 k)))) := by
  refine PC.of (by decide +kernel) (Nat.le_of_ble_eq_true rfl) ?_
  refine P_sub (L' := [(0, vr 0), (1, vi k), (2, vl y)]) [0, 1, 2] rfl ?_
  have h6 := RL_6 h
  have h7 := RL_7 h
  have hkr := h.1.2.2.2.1
  have h8 : μ.1 1 8 = ν.1 0 30 := h.1.2.2.2.2.2.1.1
  have h30 := h.1.2.1.1
  have h9 : μ.1 1 9 = ν.1 0 37 := h.1.2.2.2.2.2.2.1
  have h37 := h.1.2.2.1.1
  have h2 : μ.1 8 2 = ν.1 0 14 := h.2.1.2.2
  have h14 := h.2.1.1.2
  refine P_iload_n (pc := 0) dX5_feed_0 rfl 1 rfl ?_
  refine P_iconst (pc := 1) dX5_feed_1 ?_
  refine P_icmp_ge (tgt := 12) (pc := 2) dX5_feed_2 (by decide) (by first | assumption | (unfold InR; omega)) (by first | assumption | (unfold InR; omega)) (fun c_2 => ?_) (fun c_2 => ?_)
  · refine P_iload_n (pc := 12) dX5_feed_12 rfl 1 rfl ?_
    refine P_bipush (pc := 13) dX5_feed_13 (by decide) ?_
    refine P_icmp_gt (tgt := 32) (pc := 15) dX5_feed_15 (by decide) (by first | assumption | (unfold InR; omega)) (by first | assumption | (unfold InR; omega)) (fun c_15 => ?_) (fun c_15 => ?_)
    · refine P_aload_n (pc := 32) dX5_feed_32 rfl 0 rfl ?_
      refine P_bipush (pc := 33) dX5_feed_33 (by decide) ?_
      refine P_callVi (Y' := mX5_refuse) (as := [_]) (pc := 35) dX5_feed_35 rfl (by decide : 0 < 1) sC_0 rfl ml_RX5_67 im_X5_refuse se_X5_refuse mk_X5_refuse (Nat.le_of_ble_eq_true rfl) (c_X5_refuse h hn (by omega)) (fun z_ μ_ hq => ?_)
      obtain ⟨hzr, hRr⟩ := hq
      skip
      exact P_iret (pc := 38) dX5_feed_38 rfl (QI.mk (by
            first
              | (exfalso; omega)
              | (have e : whyFd ν.1 k = -6 := by
                   unfold whyFd
                   repeat (first | rw [if_pos (by omega)] | rw [if_neg (by omega)])
                 rw [e]
                 exact ⟨by rw [if_neg (by decide)]; exact hzr, by rw [if_neg (by decide)]; exact RL_mono hRr (by omega)⟩)))
    · refine P_aload_n (pc := 18) dX5_feed_18 rfl 0 rfl ?_
      refine P_getR (pc := 19) dX5_feed_19 fa_RX5_55 sC_0 fC0_7 ?_
      refine P_getI (jj := 2) (pc := 22) dX5_feed_22 fa_RX5_111 sC_8 fC8_2 rfl ?_
      skip
      refine P_iload_n (pc := 25) dX5_feed_25 rfl 1 rfl ?_
      refine P_iadd (pc := 26) dX5_feed_26 ?_
      refine P_bipush (pc := 27) dX5_feed_27 (by decide) ?_
      refine P_icmp_le (tgt := 39) (pc := 29) dX5_feed_29 (by decide) (by first | assumption | (unfold InR; omega)) (by first | assumption | (unfold InR; omega)) (fun c_29 => ?_) (fun c_29 => ?_)
      · refine P_aload_n (pc := 39) dX5_feed_39 rfl 0 rfl ?_
        refine P_getR (pc := 40) dX5_feed_40 fa_RX5_55 sC_0 fC0_7 ?_
        refine P_iload_n (pc := 43) dX5_feed_43 rfl 1 rfl ?_
        refine P_lload_n (pc := 44) dX5_feed_44 rfl 2 rfl ?_
        refine P_callVi (Y' := mX1_append) (as := [_, _]) (pc := 45) dX5_feed_45 rfl (by decide : 0 < 1) sC_8 rfl ml_RX5_114 im_X1_append se_X1_append mk_X1_append (Nat.le_of_ble_eq_true rfl) (c_X1_append (by omega) (by omega)) (fun z_ μ_ hq => ?_)
        obtain ⟨hz2, hμ_⟩ := hq
        subst hμ_
        skip
        exact P_iret (pc := 48) dX5_feed_48 rfl (QI.mk (by
              first
                | (exfalso; omega)
                | (have e : whyFd ν.1 k = 0 := by
                     unfold whyFd
                     repeat (first | rw [if_pos (by omega)] | rw [if_neg (by omega)])
                   rw [e]
                   exact ⟨by rw [if_pos rfl]; exact hz2.trans (by rw [h2]), by rw [if_pos rfl]; exact RL_mono (UP_feed h (by omega) (by omega)) (by omega)⟩)))
      · refine P_aload_n (pc := 32) dX5_feed_32 rfl 0 rfl ?_
        refine P_bipush (pc := 33) dX5_feed_33 (by decide) ?_
        refine P_callVi (Y' := mX5_refuse) (as := [_]) (pc := 35) dX5_feed_35 rfl (by decide : 0 < 1) sC_0 rfl ml_RX5_67 im_X5_refuse se_X5_refuse mk_X5_refuse (Nat.le_of_ble_eq_true rfl) (c_X5_refuse h hn (by omega)) (fun z_ μ_ hq => ?_)
        obtain ⟨hzr, hRr⟩ := hq
        skip
        exact P_iret (pc := 38) dX5_feed_38 rfl (QI.mk (by
              first
                | (exfalso; omega)
                | (have e : whyFd ν.1 k = -6 := by
                     unfold whyFd
                     repeat (first | rw [if_pos (by omega)] | rw [if_neg (by omega)])
                   rw [e]
                   exact ⟨by rw [if_neg (by decide)]; exact hzr, by rw [if_neg (by decide)]; exact RL_mono hRr (by omega)⟩)))
  · refine P_aload_n (pc := 5) dX5_feed_5 rfl 0 rfl ?_
    refine P_bipush (pc := 6) dX5_feed_6 (by decide) ?_
    refine P_callVi (Y' := mX5_refuse) (as := [_]) (pc := 8) dX5_feed_8 rfl (by decide : 0 < 1) sC_0 rfl ml_RX5_67 im_X5_refuse se_X5_refuse mk_X5_refuse (Nat.le_of_ble_eq_true rfl) (c_X5_refuse h hn (by omega)) (fun z_ μ_ hq => ?_)
    obtain ⟨hzr, hRr⟩ := hq
    skip
    exact P_iret (pc := 11) dX5_feed_11 rfl (QI.mk (by
          first
            | (exfalso; omega)
            | (have e : whyFd ν.1 k = -4 := by
                 unfold whyFd
                 repeat (first | rw [if_pos (by omega)] | rw [if_neg (by omega)])
               rw [e]
               exact ⟨by rw [if_neg (by decide)]; exact hzr, by rw [if_neg (by decide)]; exact RL_mono hRr (by omega)⟩)))
theorem cC2_q {μ : Mem} {q : Nat} (h2 : q ≠ 2) (h : q < 16 ∨ 21 < q) : (cCopy2 μ).1 q = μ.1 q := by
  have : q ≠ 16 ∧ q ≠ 17 ∧ q ≠ 18 ∧ q ≠ 19 ∧ q ≠ 20 ∧ q ≠ 21 := by omega
  obtain ⟨g1, g2, g3, g4, g5, g6⟩ := this
  unfold cCopy2
  simp (disch := assumption) only [putI_ne, rowI_ne]
theorem cC1_q {μ : Mem} {q : Nat} (h2 : q ≠ 1) (h : q < 10 ∨ 15 < q) : (cCopy1 μ).1 q = μ.1 q := by
  have : q ≠ 10 ∧ q ≠ 11 ∧ q ≠ 12 ∧ q ≠ 13 ∧ q ≠ 14 ∧ q ≠ 15 := by omega
  obtain ⟨g1, g2, g3, g4, g5, g6⟩ := this
  unfold cCopy1
  simp (disch := assumption) only [putI_ne, rowI_ne]
theorem cC2_2 {μ : Mem} {j : Int} (h : 6 ≤ j ∧ j ≤ 11) : (cCopy2 μ).1 2 j = μ.1 1 j := by
  rcases (show j = 6 ∨ j = 7 ∨ j = 8 ∨ j = 9 ∨ j = 10 ∨ j = 11 by omega) with rfl | rfl | rfl | rfl | rfl | rfl <;> (unfold cCopy2; simp [putI_i, rowI])
theorem cC1_12 {μ : Mem} : (cCopy1 μ).1 1 12 = μ.1 1 12 + 1 := by unfold cCopy1; simp [putI_i, rowI]
theorem cC1_l {μ : Mem} : (cCopy1 μ).2 = μ.2 := rfl
theorem cC2_l {μ : Mem} : (cCopy2 μ).2 = μ.2 := rfl
theorem cp_back {n : Int} {a b : Int → Int} : cpF n (cpF n a b) a = a := by
  funext j
  unfold cpF
  split <;> rfl
theorem cp_twice {n : Int} {a b : Int → Int} : cpF n a (cpF n a b) = cpF n a b := by
  funext j
  unfold cpF
  split <;> rfl
theorem rs_twice {k b : Int → Int} {c n : Int} : rsF k c n (rsF k c n b) = rsF k c n b := by
  funext j
  unfold rsF
  split <;> rfl
theorem rs_id {k b : Int → Int} {c n : Int} (h : ∀ t, 0 ≤ t → t < n → k (c + t) = b t) : rsF k c n b = b := by
  funext t
  unfold rsF
  split
  · rename_i q
    exact h t q.1 q.2
  · rfl
theorem cC2_k10 {μ : Mem} : (cCopy2 μ).1 16 = cpF 12 (μ.1 10) (μ.1 16) := by
  unfold cCopy2
  simp (disch := decide) only [putI_ne, rowI_ne, rowI_q]
theorem cC2_k11 {μ : Mem} : (cCopy2 μ).1 17 = cpF 12 (μ.1 11) (μ.1 17) := by
  unfold cCopy2
  simp (disch := decide) only [putI_ne, rowI_ne, rowI_q]
theorem cC2_k12 {μ : Mem} : (cCopy2 μ).1 18 = cpF 3 (μ.1 12) (μ.1 18) := by
  unfold cCopy2
  simp (disch := decide) only [putI_ne, rowI_ne, rowI_q]
theorem cC2_k13 {μ : Mem} : (cCopy2 μ).1 19 = cpF 300 (μ.1 13) (μ.1 19) := by
  unfold cCopy2
  simp (disch := decide) only [putI_ne, rowI_ne, rowI_q]
theorem cC2_k14 {μ : Mem} : (cCopy2 μ).1 20 = cpF 36 (μ.1 14) (μ.1 20) := by
  unfold cCopy2
  simp (disch := decide) only [putI_ne, rowI_ne, rowI_q]
theorem cC2_k15 {μ : Mem} : (cCopy2 μ).1 21 = cpF 15 (μ.1 15) (μ.1 21) := by
  unfold cCopy2
  simp (disch := decide) only [putI_ne, rowI_ne, rowI_q]
theorem kp_2 {ν : Mem} {t : Int} (h0 : 0 ≤ t) (h1 : t < 12) : (keepAll ν).1 30 (0 + t) = ν.1 2 t := by
  rw [keepAll_30]
  simp only [updI, kpF]
  repeat (first | rw [if_neg (by omega)] | rw [if_pos (by omega)])
  rw [show (0 : Int) + t - 0 = t by omega]
theorem kp_3 {ν : Mem} {t : Int} (h0 : 0 ≤ t) (h1 : t < 12) : (keepAll ν).1 30 (12 + t) = ν.1 3 t := by
  rw [keepAll_30]
  simp only [updI, kpF]
  repeat (first | rw [if_neg (by omega)] | rw [if_pos (by omega)])
  rw [show (12 : Int) + t - 12 = t by omega]
theorem kp_4 {ν : Mem} {t : Int} (h0 : 0 ≤ t) (h1 : t < 12) : (keepAll ν).1 30 (24 + t) = ν.1 4 t := by
  rw [keepAll_30]
  simp only [updI, kpF]
  repeat (first | rw [if_neg (by omega)] | rw [if_pos (by omega)])
  rw [show (24 : Int) + t - 24 = t by omega]
theorem kp_5 {ν : Mem} {t : Int} (h0 : 0 ≤ t) (h1 : t < 12) : (keepAll ν).1 30 (36 + t) = ν.1 5 t := by
  rw [keepAll_30]
  simp only [updI, kpF]
  repeat (first | rw [if_neg (by omega)] | rw [if_pos (by omega)])
  rw [show (36 : Int) + t - 36 = t by omega]
theorem kp_6 {ν : Mem} {t : Int} (h0 : 0 ≤ t) (h1 : t < 3) : (keepAll ν).1 30 (48 + t) = ν.1 6 t := by
  rw [keepAll_30]
  simp only [updI, kpF]
  repeat (first | rw [if_neg (by omega)] | rw [if_pos (by omega)])
  rw [show (48 : Int) + t - 48 = t by omega]
theorem kp_7 {ν : Mem} {t : Int} (h0 : 0 ≤ t) (h1 : t < 60) : (keepAll ν).1 30 (51 + t) = ν.1 7 t := by
  rw [keepAll_30]
  simp only [updI, kpF]
  repeat (first | rw [if_neg (by omega)] | rw [if_pos (by omega)])
  rw [show (51 : Int) + t - 51 = t by omega]
theorem kp_8 {ν : Mem} {t : Int} (h0 : 0 ≤ t) (h1 : t < 60) : (keepAll ν).1 30 (111 + t) = ν.1 8 t := by
  rw [keepAll_30]
  simp only [updI, kpF]
  repeat (first | rw [if_neg (by omega)] | rw [if_pos (by omega)])
  rw [show (111 : Int) + t - 111 = t by omega]
theorem kp_9 {ν : Mem} {t : Int} (h0 : 0 ≤ t) (h1 : t < 60) : (keepAll ν).1 30 (171 + t) = ν.1 9 t := by
  rw [keepAll_30]
  simp only [updI, kpF]
  repeat (first | rw [if_neg (by omega)] | rw [if_pos (by omega)])
  rw [show (171 : Int) + t - 171 = t by omega]
theorem kp_10 {ν : Mem} {t : Int} (h0 : 0 ≤ t) (h1 : t < 60) : (keepAll ν).1 30 (231 + t) = ν.1 10 t := by
  rw [keepAll_30]
  simp only [updI, kpF]
  repeat (first | rw [if_neg (by omega)] | rw [if_pos (by omega)])
  rw [show (231 : Int) + t - 231 = t by omega]
theorem kp_11 {ν : Mem} {t : Int} (h0 : 0 ≤ t) (h1 : t < 60) : (keepAll ν).1 30 (291 + t) = ν.1 11 t := by
  rw [keepAll_30]
  simp only [updI, kpF]
  repeat (first | rw [if_neg (by omega)] | rw [if_pos (by omega)])
  rw [show (291 : Int) + t - 291 = t by omega]
theorem kp_20 {ν : Mem} {t : Int} (h0 : 0 ≤ t) (h1 : t < 12) : (keepAll ν).1 30 (351 + t) = ν.1 20 t := by
  rw [keepAll_30]
  simp only [updI, kpF]
  repeat (first | rw [if_neg (by omega)] | rw [if_pos (by omega)])
  rw [show (351 : Int) + t - 351 = t by omega]
theorem kp_21 {ν : Mem} {t : Int} (h0 : 0 ≤ t) (h1 : t < 12) : (keepAll ν).1 30 (363 + t) = ν.1 21 t := by
  rw [keepAll_30]
  simp only [updI, kpF]
  repeat (first | rw [if_neg (by omega)] | rw [if_pos (by omega)])
  rw [show (363 : Int) + t - 363 = t by omega]
theorem kp_22 {ν : Mem} {t : Int} (h0 : 0 ≤ t) (h1 : t < 12) : (keepAll ν).1 30 (375 + t) = ν.1 22 t := by
  rw [keepAll_30]
  simp only [updI, kpF]
  repeat (first | rw [if_neg (by omega)] | rw [if_pos (by omega)])
  rw [show (375 : Int) + t - 375 = t by omega]
theorem kp_25 {ν : Mem} {t : Int} (h0 : 0 ≤ t) (h1 : t < 5) : (keepAll ν).1 30 (387 + t) = ν.1 25 t := by
  rw [keepAll_30]
  simp only [updI, kpF]
  repeat (first | rw [if_neg (by omega)] | rw [if_pos (by omega)])
  rw [show (387 : Int) + t - 387 = t by omega]
theorem kp_26 {ν : Mem} {t : Int} (h0 : 0 ≤ t) (h1 : t < 5) : (keepAll ν).1 30 (392 + t) = ν.1 26 t := by
  rw [keepAll_30]
  simp only [updI, kpF]
  repeat (first | rw [if_neg (by omega)] | rw [if_pos (by omega)])
  rw [show (392 : Int) + t - 392 = t by omega]
theorem kp_27 {ν : Mem} {t : Int} (h0 : 0 ≤ t) (h1 : t < 5) : (keepAll ν).1 30 (397 + t) = ν.1 27 t := by
  rw [keepAll_30]
  simp only [updI, kpF]
  repeat (first | rw [if_neg (by omega)] | rw [if_pos (by omega)])
  rw [show (397 : Int) + t - 397 = t by omega]
theorem kp_0_11 {ν : Mem} : (keepAll ν).1 30 402 = ν.1 0 11 := by
  rw [keepAll_30]
  simp only [updI]
  simp only [if_pos, Int.reduceEq, if_false]
theorem kp_0_12 {ν : Mem} : (keepAll ν).1 30 403 = ν.1 0 12 := by
  rw [keepAll_30]
  simp only [updI]
  simp only [if_pos, Int.reduceEq, if_false]
theorem kp_0_30 {ν : Mem} : (keepAll ν).1 30 404 = ν.1 0 30 := by
  rw [keepAll_30]
  simp only [updI]
  simp only [if_pos, Int.reduceEq, if_false]
theorem kp_0_37 {ν : Mem} : (keepAll ν).1 30 405 = ν.1 0 37 := by
  rw [keepAll_30]
  simp only [updI]
  simp only [if_pos, Int.reduceEq, if_false]
/-- the image is what was taken -/
def imM (ν : Mem) : Mem := keepAll (putI (putI ν 0 41 1) 0 40 1)
theorem im_q {ν : Mem} {q : Nat} (h : q ≠ 0) (h2 : q ≠ 30) : (imM ν).1 q = ν.1 q := by
  unfold imM
  rw [keepAll_q h h2, putI_ne h, putI_ne h]
theorem im_0 {ν : Mem} {j : Int} (h : j ≠ 42) (h1 : j ≠ 41) (h2 : j ≠ 40) : (imM ν).1 0 j = ν.1 0 j := by
  unfold imM
  rw [keepAll_12 h, putI_nej h2, putI_nej h1]
theorem im_40 {ν : Mem} : (imM ν).1 0 40 = 1 := by
  unfold imM
  rw [keepAll_12 (by decide), putI_self]
theorem bi_2 {ν : Mem} : (bk (imM ν)).1 2 = ν.1 2 := by
  rw [bk_2, im_q (q := 2) (by decide) (by decide)]
  refine rs_id (fun t h0 h1 => ?_)
  unfold imM
  rw [kp_2 h0 h1, putI_ne (by decide), putI_ne (by decide)]
theorem bi_3 {ν : Mem} : (bk (imM ν)).1 3 = ν.1 3 := by
  rw [bk_3, im_q (q := 3) (by decide) (by decide)]
  refine rs_id (fun t h0 h1 => ?_)
  unfold imM
  rw [kp_3 h0 h1, putI_ne (by decide), putI_ne (by decide)]
theorem bi_4 {ν : Mem} : (bk (imM ν)).1 4 = ν.1 4 := by
  rw [bk_4, im_q (q := 4) (by decide) (by decide)]
  refine rs_id (fun t h0 h1 => ?_)
  unfold imM
  rw [kp_4 h0 h1, putI_ne (by decide), putI_ne (by decide)]
theorem bi_5 {ν : Mem} : (bk (imM ν)).1 5 = ν.1 5 := by
  rw [bk_5, im_q (q := 5) (by decide) (by decide)]
  refine rs_id (fun t h0 h1 => ?_)
  unfold imM
  rw [kp_5 h0 h1, putI_ne (by decide), putI_ne (by decide)]
theorem bi_6 {ν : Mem} : (bk (imM ν)).1 6 = ν.1 6 := by
  rw [bk_6, im_q (q := 6) (by decide) (by decide)]
  refine rs_id (fun t h0 h1 => ?_)
  unfold imM
  rw [kp_6 h0 h1, putI_ne (by decide), putI_ne (by decide)]
theorem bi_7 {ν : Mem} : (bk (imM ν)).1 7 = ν.1 7 := by
  rw [bk_7, im_q (q := 7) (by decide) (by decide)]
  refine rs_id (fun t h0 h1 => ?_)
  unfold imM
  rw [kp_7 h0 h1, putI_ne (by decide), putI_ne (by decide)]
theorem bi_8 {ν : Mem} : (bk (imM ν)).1 8 = ν.1 8 := by
  rw [bk_8, im_q (q := 8) (by decide) (by decide)]
  refine rs_id (fun t h0 h1 => ?_)
  unfold imM
  rw [kp_8 h0 h1, putI_ne (by decide), putI_ne (by decide)]
theorem bi_9 {ν : Mem} : (bk (imM ν)).1 9 = ν.1 9 := by
  rw [bk_9, im_q (q := 9) (by decide) (by decide)]
  refine rs_id (fun t h0 h1 => ?_)
  unfold imM
  rw [kp_9 h0 h1, putI_ne (by decide), putI_ne (by decide)]
theorem bi_10 {ν : Mem} : (bk (imM ν)).1 10 = ν.1 10 := by
  rw [bk_10, im_q (q := 10) (by decide) (by decide)]
  refine rs_id (fun t h0 h1 => ?_)
  unfold imM
  rw [kp_10 h0 h1, putI_ne (by decide), putI_ne (by decide)]
theorem bi_11 {ν : Mem} : (bk (imM ν)).1 11 = ν.1 11 := by
  rw [bk_11, im_q (q := 11) (by decide) (by decide)]
  refine rs_id (fun t h0 h1 => ?_)
  unfold imM
  rw [kp_11 h0 h1, putI_ne (by decide), putI_ne (by decide)]
theorem bi_20 {ν : Mem} : (bk (imM ν)).1 20 = ν.1 20 := by
  rw [bk_20, im_q (q := 20) (by decide) (by decide)]
  refine rs_id (fun t h0 h1 => ?_)
  unfold imM
  rw [kp_20 h0 h1, putI_ne (by decide), putI_ne (by decide)]
theorem bi_21 {ν : Mem} : (bk (imM ν)).1 21 = ν.1 21 := by
  rw [bk_21, im_q (q := 21) (by decide) (by decide)]
  refine rs_id (fun t h0 h1 => ?_)
  unfold imM
  rw [kp_21 h0 h1, putI_ne (by decide), putI_ne (by decide)]
theorem bi_22 {ν : Mem} : (bk (imM ν)).1 22 = ν.1 22 := by
  rw [bk_22, im_q (q := 22) (by decide) (by decide)]
  refine rs_id (fun t h0 h1 => ?_)
  unfold imM
  rw [kp_22 h0 h1, putI_ne (by decide), putI_ne (by decide)]
theorem bi_25 {ν : Mem} : (bk (imM ν)).1 25 = ν.1 25 := by
  rw [bk_25, im_q (q := 25) (by decide) (by decide)]
  refine rs_id (fun t h0 h1 => ?_)
  unfold imM
  rw [kp_25 h0 h1, putI_ne (by decide), putI_ne (by decide)]
theorem bi_26 {ν : Mem} : (bk (imM ν)).1 26 = ν.1 26 := by
  rw [bk_26, im_q (q := 26) (by decide) (by decide)]
  refine rs_id (fun t h0 h1 => ?_)
  unfold imM
  rw [kp_26 h0 h1, putI_ne (by decide), putI_ne (by decide)]
theorem bi_27 {ν : Mem} : (bk (imM ν)).1 27 = ν.1 27 := by
  rw [bk_27, im_q (q := 27) (by decide) (by decide)]
  refine rs_id (fun t h0 h1 => ?_)
  unfold imM
  rw [kp_27 h0 h1, putI_ne (by decide), putI_ne (by decide)]
theorem bi_0_11 {ν : Mem} : (bk (imM ν)).1 0 11 = ν.1 0 11 := by
  rw [bk_0_11]
  unfold imM
  rw [kp_0_11, putI_nej (by decide), putI_nej (by decide)]
theorem bi_0_12 {ν : Mem} : (bk (imM ν)).1 0 12 = ν.1 0 12 := by
  rw [bk_0_12]
  unfold imM
  rw [kp_0_12, putI_nej (by decide), putI_nej (by decide)]
theorem bi_0_30 {ν : Mem} : (bk (imM ν)).1 0 30 = ν.1 0 30 := by
  rw [bk_0_30]
  unfold imM
  rw [kp_0_30, putI_nej (by decide), putI_nej (by decide)]
theorem bi_0_37 {ν : Mem} : (bk (imM ν)).1 0 37 = ν.1 0 37 := by
  rw [bk_0_37]
  unfold imM
  rw [kp_0_37, putI_nej (by decide), putI_nej (by decide)]
theorem im_BRM {ν : Mem} : BRM ν (bk (imM ν)) := by
  refine ⟨kd_cg (fun q hq => ?_) ⟨bi_0_11, bi_0_12⟩, ⟨bi_0_11, bi_0_30, bi_0_37⟩, bi_4, ⟨bi_20, bi_21, bi_22⟩, bi_25, bi_26, bi_27⟩
  rcases (show q = 2 ∨ q = 3 ∨ q = 4 ∨ q = 5 ∨ q = 6 ∨ q = 7 ∨ q = 8 ∨ q = 9 ∨ q = 10 ∨ q = 11 by omega) with rfl | rfl | rfl | rfl | rfl | rfl | rfl | rfl | rfl | rfl
  · exact bi_2
  · exact bi_3
  · exact bi_4
  · exact bi_5
  · exact bi_6
  · exact bi_7
  · exact bi_8
  · exact bi_9
  · exact bi_10
  · exact bi_11
theorem UP_image {n : Int} {μ ν : Mem} (h : RLN n μ ν) : RLN n (putI (cCopy2 μ) 0 9 1) (imM ν) := by
  obtain ⟨a1, a2, a3, a4, a5, a6⟩ := h
  have c : ∀ q, q ≠ 0 → q ≠ 2 → (q < 16 ∨ 21 < q) → (putI (cCopy2 μ) 0 9 1).1 q = μ.1 q := fun q h0 h2 h3 => by rw [putI_ne h0, cC2_q h2 h3]
  have mk : kd (imM ν).1 = kd ν.1 := kd_cg (fun q hq => im_q (by omega) (by omega)) ⟨im_0 (by decide) (by decide) (by decide), im_0 (by decide) (by decide) (by decide)⟩
  refine ⟨BR_cg a1 ⟨fun j _ _ => by rw [c 1 (by decide) (by decide) (by decide)], fun q x y => c q (by omega) (by omega) (by omega)⟩ ⟨mk, ⟨im_0 (by decide) (by decide) (by decide), im_0 (by decide) (by decide) (by decide), im_0 (by decide) (by decide) (by decide)⟩, im_q (by decide) (by decide), ⟨im_q (by decide) (by decide), im_q (by decide) (by decide), im_q (by decide) (by decide)⟩, im_q (by decide) (by decide), im_q (by decide) (by decide), im_q (by decide) (by decide)⟩, ?_, ?_, ?_, ?_, by rw [c 1 (by decide) (by decide) (by decide)]; exact a6⟩
  · unfold TXI at a2 ⊢
    rw [im_q (by decide) (by decide), im_0 (by decide) (by decide) (by decide), c 37 (by decide) (by decide) (by decide), c 8 (by decide) (by decide) (by decide)]
    exact a2
  · unfold RFI at a3 ⊢
    rw [c 9 (by decide) (by decide) (by decide), im_q (by decide) (by decide)]
    exact a3
  · refine ⟨Or.inr im_40, by rw [im_40, putI_self], fun _ => BR_cg a1 ⟨fun j x y => ?_, fun q x y => ?_⟩ im_BRM⟩
    · rw [cc_1 ⟨x, y⟩, putI_ne (by decide), cC2_2 ⟨x, y⟩]
    · rcases (show q = 10 ∨ q = 11 ∨ q = 12 ∨ q = 13 ∨ q = 14 ∨ q = 15 by omega) with rfl | rfl | rfl | rfl | rfl | rfl
      · rw [cc_10, putI_ne (by decide), putI_ne (by decide), cC2_k10, cC2_q (by decide) (by decide), cp_back]
      · rw [cc_11, putI_ne (by decide), putI_ne (by decide), cC2_k11, cC2_q (by decide) (by decide), cp_back]
      · rw [cc_12, putI_ne (by decide), putI_ne (by decide), cC2_k12, cC2_q (by decide) (by decide), cp_back]
      · rw [cc_13, putI_ne (by decide), putI_ne (by decide), cC2_k13, cC2_q (by decide) (by decide), cp_back]
      · rw [cc_14, putI_ne (by decide), putI_ne (by decide), cC2_k14, cC2_q (by decide) (by decide), cp_back]
      · rw [cc_15, putI_ne (by decide), putI_ne (by decide), cC2_k15, cC2_q (by decide) (by decide), cp_back]
  · rw [mk]
    exact ⟨STI_cg (by decide) (fun q x _ y _ z => c q (by omega) z y) rfl a5.1, STI_cg (by decide) (fun q x _ y _ z => c q (by omega) z y) rfl a5.2⟩
theorem bk_q {ν : Mem} {q : Nat} (h : q = 1 ∨ q = 12) : (bk ν).1 q = ν.1 q := by
  rcases h with rfl | rfl
  · exact (backAll_q (by decide) (by decide)).trans (putI_ne (by decide))
  · exact (backAll_q (by decide) (by decide)).trans (putI_ne (by decide))
theorem bk_30 {ν : Mem} : (bk ν).1 30 = ν.1 30 := backAll_30.trans (putI_ne (by decide))
theorem bk_0 {ν : Mem} {j : Int} (h : j = 14 ∨ j = 40) : (bk ν).1 0 j = ν.1 0 j := by
  rcases h with rfl | rfl <;> exact (backAll_0 (by decide) (by decide) (by decide) (by decide) (by decide)).trans (by rw [putI_i, if_neg (by decide)])
theorem bk_bk {ν : Mem} : BRM (bk ν) (bk (bk ν)) := by
  refine ⟨kd_cg (fun q hq => ?_) ⟨by rw [bk_0_11, bk_30, bk_0_11], by rw [bk_0_12, bk_30, bk_0_12]⟩, ⟨by rw [bk_0_11, bk_30, bk_0_11], by rw [bk_0_30, bk_30, bk_0_30], by rw [bk_0_37, bk_30, bk_0_37]⟩, ?_, ⟨?_, ?_, ?_⟩, ?_, ?_, ?_⟩
  · rcases (show q = 2 ∨ q = 3 ∨ q = 4 ∨ q = 5 ∨ q = 6 ∨ q = 7 ∨ q = 8 ∨ q = 9 ∨ q = 10 ∨ q = 11 by omega) with rfl | rfl | rfl | rfl | rfl | rfl | rfl | rfl | rfl | rfl
    · rw [bk_2 (ν := bk ν), bk_30, bk_2 (ν := ν), rs_twice]
    · rw [bk_3 (ν := bk ν), bk_30, bk_3 (ν := ν), rs_twice]
    · rw [bk_4 (ν := bk ν), bk_30, bk_4 (ν := ν), rs_twice]
    · rw [bk_5 (ν := bk ν), bk_30, bk_5 (ν := ν), rs_twice]
    · rw [bk_6 (ν := bk ν), bk_30, bk_6 (ν := ν), rs_twice]
    · rw [bk_7 (ν := bk ν), bk_30, bk_7 (ν := ν), rs_twice]
    · rw [bk_8 (ν := bk ν), bk_30, bk_8 (ν := ν), rs_twice]
    · rw [bk_9 (ν := bk ν), bk_30, bk_9 (ν := ν), rs_twice]
    · rw [bk_10 (ν := bk ν), bk_30, bk_10 (ν := ν), rs_twice]
    · rw [bk_11 (ν := bk ν), bk_30, bk_11 (ν := ν), rs_twice]
  · rw [bk_4 (ν := bk ν), bk_30, bk_4 (ν := ν), rs_twice]
  · rw [bk_20 (ν := bk ν), bk_30, bk_20 (ν := ν), rs_twice]
  · rw [bk_21 (ν := bk ν), bk_30, bk_21 (ν := ν), rs_twice]
  · rw [bk_22 (ν := bk ν), bk_30, bk_22 (ν := ν), rs_twice]
  · rw [bk_25 (ν := bk ν), bk_30, bk_25 (ν := ν), rs_twice]
  · rw [bk_26 (ν := bk ν), bk_30, bk_26 (ν := ν), rs_twice]
  · rw [bk_27 (ν := bk ν), bk_30, bk_27 (ν := ν), rs_twice]
theorem UP_back {n : Int} {μ ν : Mem} (h : RLN n μ ν) (h1 : ν.1 0 40 = 1) : RLN (n + 1) (cCopy1 μ) (bk ν) := by
  obtain ⟨a1, a2, a3, ⟨i1, i2, i3⟩, a5, a6⟩ := h
  have i3 := i3 h1
  have k : ∀ b, b < 2 → STI (kd ν.1) μ b → STI (kd (bk ν).1) (cCopy1 μ) b := fun b hb s => by
    obtain ⟨s1, s2, s3, s4⟩ := s
    unfold STI
    rw [cC1_q (by omega) (by omega), cC1_12]
    exact ⟨s1, s2, by omega, fun z => by omega⟩
  refine ⟨i3, ?_, ?_, ⟨by rw [bk_0 (Or.inr rfl)]; exact i1, by rw [bk_0 (Or.inr rfl), cC1_q (by decide) (by decide)]; exact i2, fun _ => BR_cg i3 ⟨fun j x y => ?_, fun q x y => ?_⟩ bk_bk⟩, ⟨k 0 (by decide) a5.1, k 1 (by decide) a5.2⟩, by rw [cC1_12]; omega⟩
  · unfold TXI at a2 ⊢
    rw [bk_q (Or.inr rfl), bk_0 (Or.inl rfl), cC1_q (by decide) (by decide), cC1_q (by decide) (by decide)]
    exact a2
  · unfold RFI at a3 ⊢
    rw [cC1_q (by decide) (by decide), bk_q (Or.inl rfl)]
    exact a3
  · rw [cc_1 ⟨x, y⟩, cc_1 ⟨x, y⟩, cC1_q (by decide) (by decide)]
  · rcases (show q = 10 ∨ q = 11 ∨ q = 12 ∨ q = 13 ∨ q = 14 ∨ q = 15 by omega) with rfl | rfl | rfl | rfl | rfl | rfl
    · rw [cc_10 (μ := cCopy1 μ), cC1_q (q := 16) (by decide) (by decide), cc_10 (μ := μ), cp_twice]
    · rw [cc_11 (μ := cCopy1 μ), cC1_q (q := 17) (by decide) (by decide), cc_11 (μ := μ), cp_twice]
    · rw [cc_12 (μ := cCopy1 μ), cC1_q (q := 18) (by decide) (by decide), cc_12 (μ := μ), cp_twice]
    · rw [cc_13 (μ := cCopy1 μ), cC1_q (q := 19) (by decide) (by decide), cc_13 (μ := μ), cp_twice]
    · rw [cc_14 (μ := cCopy1 μ), cC1_q (q := 20) (by decide) (by decide), cc_14 (μ := μ), cp_twice]
    · rw [cc_15 (μ := cCopy1 μ), cC1_q (q := 21) (by decide) (by decide), cc_15 (μ := μ), cp_twice]
set_option maxHeartbeats 1000000 in
set_option maxRecDepth 100000 in
theorem c_X5_image {n : Int} {μ ν : Mem} (h : RLN n μ ν) (hn : n < 2147483648)  : PC shC 3 mX5_image [vr 0] (μ) (QI (fun z μ' => z = ν.1 0 12 ∧ RLN n μ' (imM ν))) := by
  refine PC.of (by decide +kernel) (Nat.le_of_ble_eq_true rfl) ?_
  refine P_sub (L' := [(0, vr 0)]) [0] rfl ?_
  have h6 := RL_6 h
  have h7 := RL_7 h
  refine P_aload_n (pc := 0) dX5_image_0 rfl 0 rfl ?_
  refine P_getR (pc := 1) dX5_image_1 fa_RX5_16 sC_0 fC0_1 ?_
  refine P_aload_n (pc := 4) dX5_image_4 rfl 0 rfl ?_
  refine P_getR (pc := 5) dX5_image_5 fa_RX5_12 sC_0 fC0_0 ?_
  refine P_callVv (Y' := mX3_copyFrom) (as := [_]) (pc := 8) dX5_image_8 rfl (by decide : 2 < 3) sC_2 rfl ml_RX5_196 im_X3_copyFrom se_X3_copyFrom mk_X3_copyFrom (Nat.le_of_ble_eq_true rfl) (c_X3_copyFrom2) (fun μ_ hq => ?_)
  subst hq
  skip
  refine P_aload_n (pc := 11) dX5_image_11 rfl 0 rfl ?_
  refine P_iconst (pc := 12) dX5_image_12 ?_
  refine P_putZ (jj := 9) (pc := 13) dX5_image_13 fa_RX5_63 fp_5_9 sC_0 fC0_9 rfl (by omega) ?_
  skip
  refine P_aload_n (pc := 16) dX5_image_16 rfl 0 rfl ?_
  refine P_getR (pc := 17) dX5_image_17 fa_RX5_12 sC_0 fC0_0 ?_
  refine P_getI (jj := 7) (pc := 20) dX5_image_20 fa_RX5_97 sC_1 fC1_7 rfl ?_
  skip
  exact P_iret (pc := 23) dX5_image_23 rfl (QI.mk (by exact ⟨by rw [putI_ne (by decide), cC2_q (by decide) (by decide)]; exact h7.1, UP_image h⟩))
set_option maxHeartbeats 1000000 in
set_option maxRecDepth 100000 in
theorem c_X5_restore {n : Int} {μ ν : Mem} (h : RLN n μ ν) (hn : n < 2147483648)  : PC shC 3 mX5_restore [vr 0] (μ) (QI (fun z μ' => z = (if ν.1 0 40 = 0 then -3 else ν.1 30 403) ∧ RLN (n + 1) μ' (if ν.1 0 40 = 0 then refM ν (-3) else bk ν))) := by
  refine PC.of (by decide +kernel) (Nat.le_of_ble_eq_true rfl) ?_
  refine P_sub (L' := [(0, vr 0)]) [0] rfl ?_
  have hi := h.2.2.2.1
  refine P_aload_n (pc := 0) dX5_restore_0 rfl 0 rfl ?_
  refine P_getI (jj := 9) (pc := 1) dX5_restore_1 fa_RX5_63 sC_0 fC0_9 rfl ?_
  skip
  refine P_if_ne (tgt := 14) (pc := 4) dX5_restore_4 (by decide) (by
        have h1 := hi.1
        have h2 := hi.2.1
        unfold InR
        omega) (fun c_4 => ?_) (fun c_4 => ?_)
  · refine P_aload_n (pc := 14) dX5_restore_14 rfl 0 rfl ?_
    refine P_getR (pc := 15) dX5_restore_15 fa_RX5_12 sC_0 fC0_0 ?_
    refine P_aload_n (pc := 18) dX5_restore_18 rfl 0 rfl ?_
    refine P_getR (pc := 19) dX5_restore_19 fa_RX5_16 sC_0 fC0_1 ?_
    refine P_callVv (Y' := mX3_copyFrom) (as := [_]) (pc := 22) dX5_restore_22 rfl (by decide : 2 < 3) sC_1 rfl ml_RX5_196 im_X3_copyFrom se_X3_copyFrom mk_X3_copyFrom (Nat.le_of_ble_eq_true rfl) (c_X3_copyFrom1) (fun μ_ hq => ?_)
    subst hq
    skip
    refine P_aload_n (pc := 25) dX5_restore_25 rfl 0 rfl ?_
    refine P_getR (pc := 26) dX5_restore_26 fa_RX5_12 sC_0 fC0_0 ?_
    refine P_getI (jj := 7) (pc := 29) dX5_restore_29 fa_RX5_97 sC_1 fC1_7 rfl ?_
    skip
    exact P_iret (pc := 32) dX5_restore_32 rfl (QI.mk (by
          have h1 := hi.1
          have h2 := hi.2.1
          rw [if_neg (show ¬ ν.1 0 40 = 0 by omega), if_neg (show ¬ ν.1 0 40 = 0 by omega)]
          have g := UP_back h (by omega)
          exact ⟨by rw [(RL_7 g).1, bk_0_12], g⟩))
  · refine P_aload_n (pc := 7) dX5_restore_7 rfl 0 rfl ?_
    refine P_bipush (pc := 8) dX5_restore_8 (by decide) ?_
    refine P_callVi (Y' := mX5_refuse) (as := [_]) (pc := 10) dX5_restore_10 rfl (by decide : 0 < 3) sC_0 rfl ml_RX5_67 im_X5_refuse se_X5_refuse mk_X5_refuse (Nat.le_of_ble_eq_true rfl) (c_X5_refuse h hn (by omega)) (fun z_ μ_ hq => ?_)
    obtain ⟨hzr, hRr⟩ := hq
    skip
    exact P_iret (pc := 13) dX5_restore_13 rfl (QI.mk (by
          have h1 := hi.1
          have h2 := hi.2.1
          rw [if_pos (show ν.1 0 40 = 0 by omega), if_pos (show ν.1 0 40 = 0 by omega)]
          exact ⟨hzr, RL_mono hRr (by omega)⟩))
