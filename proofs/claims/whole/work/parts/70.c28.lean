/-! WHAT IS LEFT, by bits -/
theorem cnt_0iff {p : Nat → Bool} : ∀ {n : Nat}, cnt p n = 0 ↔ ∀ i, i < n → p i = false
  | 0 => ⟨fun _ i h => absurd h (Nat.not_lt_zero i), fun _ => rfl⟩
  | n + 1 => by
    have ih := cnt_0iff (p := p) (n := n)
    simp only [cnt]
    constructor
    · intro h i hi
      by_cases q : p n = true
      · rw [if_pos q] at h; omega
      · rw [if_neg q] at h
        rcases Nat.lt_or_ge i n with a | a
        · exact ih.mp (by omega) i a
        · rw [show i = n by omega]; exact Bool.eq_false_iff.mpr q
    · intro h
      rw [ih.mpr (fun i hi => h i (by omega)), h n (by omega)]
      rfl
theorem cnt_sub {p q : Nat → Bool} (h : ∀ i, p i = true → q i = true) : ∀ {n : Nat}, cnt p n = cnt q n → ∀ i, i < n → q i = p i
  | 0, _ => fun i hi => absurd hi (Nat.not_lt_zero i)
  | n + 1, e => fun i hi => by
    have h1 := cnt_imp h n
    simp only [cnt] at e
    by_cases a : p n = true
    · have a2 := h n a
      rw [if_pos a, if_pos a2] at e
      rcases Nat.lt_or_ge i n with g | g
      · exact cnt_sub h (by omega) i g
      · rw [show i = n by omega, a, a2]
    · by_cases b : q n = true
      · rw [if_neg a, if_pos b] at e; omega
      · rw [if_neg a, if_neg b] at e
        rcases Nat.lt_or_ge i n with g | g
        · exact cnt_sub h (by omega) i g
        · rw [show i = n by omega, Bool.eq_false_iff.mpr a, Bool.eq_false_iff.mpr b]
theorem bv_0 {V : BitVec 64} : V = 0#64 ↔ ∀ w, w < 64 → V.getLsbD w = false := by
  constructor
  · intro h w _
    rw [h, BitVec.getLsbD_zero]
  · intro h
    apply BitVec.eq_of_getLsbD_eq
    intro w hw
    rw [h w hw, BitVec.getLsbD_zero]
theorem bv_eq {V W : BitVec 64} : V = W ↔ ∀ w, w < 64 → V.getLsbD w = W.getLsbD w := by
  constructor
  · intro h w _
    rw [h]
  · intro h
    exact BitVec.eq_of_getLsbD_eq h
def LWP (K F : Cel) (o : Nat) (W : BitVec 64) : Prop := ∀ w, w < 64 → W.getLsbD w = leftB K F (o : Int) w
theorem LW_n {K F : Cel} {o : Nat} {W : BitVec 64} (h : LWP K F o W) : cnt (fun i => W.getLsbD i) 64 = leftN K F (o : Int) := cnt_congr 64 h
theorem LW_0 {K F : Cel} {o : Nat} {W : BitVec 64} (h : LWP K F o W) : W = 0#64 ↔ leftN K F (o : Int) = 0 := by
  rw [← LW_n h, cnt_0iff, bv_0]
theorem cl_bit {K F : Cel} {o : Nat} {W u : BitVec 64} {h t : Int} (hK : KOK K) (ho : o < 2) (ht : 0 ≤ t) (hW : LWP K F o W) (hu : ∀ w : Nat, w < 64 → u.getLsbD w = decide (1 ≤ simX K (w : Int) h (o : Int) 13 t)) : ∀ w, w < 64 → (W &&& ~~~u).getLsbD w = (leftB K F (o : Int) w && decide (simX K (w : Int) h (o : Int) 13 (t.toNat : Int) = 0)) := by
  intro w hw
  have hx := (XOK_sim (w := (w : Int)) (till := h) (o := (o : Int)) hK (by omega)).1 t
  rw [BitVec.getLsbD_and, BitVec.getLsbD_not, hW w hw, hu w hw, decide_eq_true hw, Bool.true_and, show ((t.toNat : Nat) : Int) = t by omega]
  congr 1
  by_cases q : 1 ≤ simX K (w : Int) h (o : Int) 13 t
  · rw [decide_eq_true q, decide_eq_false (by omega)]; rfl
  · rw [decide_eq_false q, decide_eq_true (by omega)]; rfl
theorem cl_n {K F : Cel} {o : Nat} {W u : BitVec 64} {h t : Int} (hK : KOK K) (ho : o < 2) (ht : 0 ≤ t) (hW : LWP K F o W) (hu : ∀ w : Nat, w < 64 → u.getLsbD w = decide (1 ≤ simX K (w : Int) h (o : Int) 13 t)) : cnt (fun i => (W &&& ~~~u).getLsbD i) 64 = manyP K F (o : Int) h t.toNat := cnt_congr 64 (cl_bit hK ho ht hW hu)
def suC (W C : BitVec 64) : Int := if W = 0#64 then -9 else if C = W then 2 else if C = 0#64 then 0 else 1
theorem suC_P {K F : Cel} {o : Nat} {W u : BitVec 64} {h t : Int} (hK : KOK K) (ho : o < 2) (ht : 0 ≤ t) (hW : LWP K F o W) (hu : ∀ w : Nat, w < 64 → u.getLsbD w = decide (1 ≤ simX K (w : Int) h (o : Int) 13 t)) : suC W (W &&& ~~~u) = sureP K F (o : Int) h t.toNat := by
  have hc := cl_bit hK ho ht hW hu
  have hn := cl_n hK ho ht hW hu
  have hl := LW_n hW
  have c0 : (W &&& ~~~u = 0#64) ↔ manyP K F (o : Int) h t.toNat = 0 := by rw [← hn, cnt_0iff, bv_0]
  have c1 : (W &&& ~~~u = W) ↔ manyP K F (o : Int) h t.toNat = leftN K F (o : Int) := by
    rw [← hn, ← hl]
    constructor
    · intro q; rw [q]
    · intro q
      have := cnt_sub (p := fun i => (W &&& ~~~u).getLsbD i) (q := fun i => W.getLsbD i) (fun i hi => by
        simp only [BitVec.getLsbD_and, Bool.and_eq_true] at hi
        exact hi.1) q
      exact bv_eq.mpr (fun w hw => (this w hw).symm)
  unfold suC sureP
  by_cases a : W = 0#64
  · rw [if_pos a, if_pos ((LW_0 hW).mp a)]
  · rw [if_neg a, if_neg (fun z => a ((LW_0 hW).mpr z))]
    by_cases b : W &&& ~~~u = W
    · rw [if_pos b, if_pos (c1.mp b)]
    · rw [if_neg b, if_neg (fun z => b (c1.mpr z))]
      by_cases d : W &&& ~~~u = 0#64
      · rw [if_pos d, if_pos (c0.mp d)]
      · rw [if_neg d, if_neg (fun z => d (c0.mpr z))]
/-- the store holds the facts of F -/
def FR (F : Cel) (μ : Mem) : Prop := μ.1 1 8 = F 0 30 ∧ ∀ f, μ.1 14 (f * 3) = F 20 f ∧ μ.1 14 (f * 3 + 1) = F 21 f ∧ μ.1 14 (f * 3 + 2) = F 22 f
theorem FS_FR {b : Nat} {F : Cel} {μ ν : Mem} (hb : b < 2) (h : FS b μ ν) (hR : FR F μ) : FR F ν := by
  unfold FR at hR ⊢
  rw [h.1 1 (by omega) (by omega) (by omega) (by omega), h.1 14 (by omega) (by omega) (by omega) (by omega)]
  exact hR
theorem fact_1 {K F : Cel} {o w : Int} {f : Nat} (hK : KOK K) (ho : o = 0 ∨ o = 1) (h : F 22 (f : Int) = 1) : factB K F o w f = !decide (1 ≤ simX K w (F 21 (f : Int)) o 13 (F 20 (f : Int))) := by
  have hx := (XOK_sim (w := w) (till := F 21 (f : Int)) hK ho).1 (F 20 (f : Int))
  unfold factB
  rw [decide_eq_true h]
  by_cases q : 1 ≤ simX K w (F 21 (f : Int)) o 13 (F 20 (f : Int))
  · rw [decide_eq_true q, decide_eq_false (by omega)]; rfl
  · rw [decide_eq_false q, decide_eq_true (by omega)]; rfl
theorem fact_0 {K F : Cel} {o w : Int} {f : Nat} (hK : KOK K) (ho : o = 0 ∨ o = 1) (h : ¬ F 22 (f : Int) = 1) : factB K F o w f = decide (1 ≤ simX K w (F 21 (f : Int)) o 13 (F 20 (f : Int))) := by
  have hx := (XOK_sim (w := w) (till := F 21 (f : Int)) hK ho).1 (F 20 (f : Int))
  unfold factB
  rw [decide_eq_false h]
  by_cases q : 1 ≤ simX K w (F 21 (f : Int)) o 13 (F 20 (f : Int))
  · rw [decide_eq_true q, decide_eq_false (by omega)]; rfl
  · rw [decide_eq_false q, decide_eq_true (by omega)]; rfl
set_option maxHeartbeats 1000000 in
set_option maxRecDepth 100000 in
theorem l_X0_left {μ ν : Mem} {b : Nat} {K F : Cel} (hb : b < 2) (hK : KOK K) (hF1 : FS b μ ν) (hS : SI K ν b) (h91 : ν.1 (3 + b) 9 = ν.1 1 12) (hFR : FR F ν) (hFO : FOK F) (h11 : F 0 11 = K 0 11) : ∀ (n f : Nat) (ff : Int) (V : BitVec 64), ff = (f : Int) → f ≤ (F 0 30).toNat → (F 0 30).toNat - f < n → (∀ w, w < 64 → V.getLsbD w = (decide (w &&& nmK K = w) && allF (factB K F (b : Int) (w : Int)) f)) → PW shC 5 mX0_left 17 [(0, vr (5 + b)), (1, vl V), (3, vi ff)] [] ν (QL (fun z μ' => (FS b μ μ' ∧ SI K μ' b ∧ μ'.1 (3 + b) 9 = μ'.1 1 12 ∧ LWP K F b z))) := by
  intro n
  induction n with
  | zero => intro f ff V _ _ q; omega
  | succ n ih =>
  intro f ff V hf hf2 hn hV
  have hK1 := hK.1
  have k0 := hFO.1
  have k1 := hFO.2.1 ff
  have k2 := hFO.2.2.1 ff
  have k3 := hFO.2.2.2 ff (by omega)
  rw [h11] at k3
  refine P_iload_n (pc := 17) dX0_left_17 rfl 2 rfl ?_
  refine P_aload_n (pc := 18) dX0_left_18 rfl 0 rfl ?_
  refine P_getR (pc := 19) dX0_left_19 fa_RX0_9 (sD_o hb) fD_0 ?_
  refine P_getI (jj := 8) (pc := 22) dX0_left_22 fa_RX0_30 sC_1 fC1_8 rfl ?_
  skip
  rw [hFR.1]
  refine P_icmp_ge (tgt := 88) (pc := 25) dX0_left_25 (by decide) (by first | assumption | (unfold InR; omega)) (by first | assumption | (unfold InR; omega)) (fun c_25 => ?_) (fun c_25 => ?_)
  · refine P_lload_n (pc := 88) dX0_left_88 rfl 1 rfl ?_
    exact P_lret (pc := 89) dX0_left_89 rfl (QL.mk (by have e9 : f = (F 0 30).toNat := (by omega); subst e9; exact ⟨hF1, hS, h91, hV⟩))
  · have k4 := k3 (by omega)
    refine P_aload_n (pc := 28) dX0_left_28 rfl 0 rfl ?_
    refine P_getR (pc := 29) dX0_left_29 fa_RX0_15 (sD_o hb) fD_1 ?_
    refine P_aload_n (pc := 32) dX0_left_32 rfl 0 rfl ?_
    refine P_getR (pc := 33) dX0_left_33 fa_RX0_9 (sD_o hb) fD_0 ?_
    refine P_iload_n (pc := 36) dX0_left_36 rfl 2 rfl ?_
    refine P_iconst (pc := 37) dX0_left_37 ?_
    refine P_callVi (Y' := mX3_factPart) (as := [_, _]) (pc := 38) dX0_left_38 rfl (by decide : 0 < 5) sC_1 rfl ml_RX0_34 im_X3_factPart se_X3_factPart mk_X3_factPart (Nat.le_of_ble_eq_true rfl) (c_X3_factPart (by omega) (by omega)) (fun z_ μ_ hq => ?_)
    obtain ⟨hz, hμ_⟩ := hq
    have hμ_ := hμ_.symm
    subst hμ_
    try simp only [Int.add_zero] at hz
    rw [(hFR.2 ff).1] at hz
    subst hz
    skip
    refine P_aload_n (pc := 41) dX0_left_41 rfl 0 rfl ?_
    refine P_getR (pc := 42) dX0_left_42 fa_RX0_9 (sD_o hb) fD_0 ?_
    refine P_iload_n (pc := 45) dX0_left_45 rfl 2 rfl ?_
    refine P_iconst (pc := 46) dX0_left_46 ?_
    refine P_callVi (Y' := mX3_factPart) (as := [_, _]) (pc := 47) dX0_left_47 rfl (by decide : 0 < 5) sC_1 rfl ml_RX0_34 im_X3_factPart se_X3_factPart mk_X3_factPart (Nat.le_of_ble_eq_true rfl) (c_X3_factPart (by omega) (by omega)) (fun z_ μ_ hq => ?_)
    obtain ⟨hz, hμ_⟩ := hq
    have hμ_ := hμ_.symm
    subst hμ_
    try simp only [Int.add_zero] at hz
    rw [(hFR.2 ff).2.1] at hz
    subst hz
    skip
    refine P_callVl (Y' := mX4_uncleanAt) (as := [_, _]) (pc := 50) dX0_left_50 rfl (by decide : 0 < 5) (sS_o hb) rfl ml_RX0_38 im_X4_uncleanAt se_X4_uncleanAt mk_X4_uncleanAt (Nat.le_of_ble_eq_true rfl) (c_X4_uncleanAt hb (by omega) (by omega)) (fun z_ μ_ hq => ?_)
    obtain ⟨hz, hμ_⟩ := hq
    have hμ_ := hμ_.symm
    subst hμ_
    subst hz
    skip
    refine P_lstore (L' := [(4, vl _), (0, vr (5 + b)), (1, vl _), (3, vi _)]) (pc := 53) dX0_left_53 (by decide) rfl ?_
    refine P_lload_n (pc := 55) dX0_left_55 rfl 2 rfl ?_
    refine P_aload_n (pc := 56) dX0_left_56 rfl 1 rfl ?_
    refine P_getR (pc := 57) dX0_left_57 fa_RX0_9 (sD_o hb) fD_0 ?_
    refine P_iload_n (pc := 60) dX0_left_60 rfl 3 rfl ?_
    refine P_iconst (pc := 61) dX0_left_61 ?_
    refine P_callVi (Y' := mX3_factPart) (as := [_, _]) (pc := 62) dX0_left_62 rfl (by decide : 0 < 5) sC_1 rfl ml_RX0_34 im_X3_factPart se_X3_factPart mk_X3_factPart (Nat.le_of_ble_eq_true rfl) (c_X3_factPart (by omega) (by omega)) (fun z_ μ_ hq => ?_)
    obtain ⟨hz, hμ_⟩ := hq
    have hμ_ := hμ_.symm
    subst hμ_
    try simp only [Int.add_zero] at hz
    rw [(hFR.2 ff).2.2] at hz
    subst hz
    skip
    refine P_iconst (pc := 65) dX0_left_65 ?_
    refine P_icmp_ne (tgt := 78) (pc := 66) dX0_left_66 (by decide) (by first | assumption | (unfold InR; omega)) (by first | assumption | (unfold InR; omega)) (fun c_66 => ?_) (fun c_66 => ?_)
    · refine P_lload (pc := 78) dX0_left_78 0 rfl ?_
      refine P_land (pc := 80) dX0_left_80 ?_
      refine P_lstore_n (L' := [(1, vl _), (4, vl _), (0, vr (5 + b)), (3, vi _)]) (pc := 81) dX0_left_81 rfl (by decide) rfl ?_
      refine P_iinc (L' := [(3, vi _), (1, vl _), (4, vl _), (0, vr (5 + b))]) (pc := 82) dX0_left_82 (by decide) 3 rfl rfl ?_
      refine P_goto (tgt := 17) (pc := 85) dX0_left_85 (by decide) ?_
      refine P_sub (L' := [(0, vr (5 + b)), (1, vl _), (3, vi _)]) [3, 1, 0] rfl ?_
      have ho : (b : Int) = 0 ∨ (b : Int) = 1 := by omega
      refine ih (f + 1) (ff + 1) _ (by omega) (by omega) (by omega) (fun w hw => ?_)
      have hu := hS.2 (F 21 ff) (F 20 ff) w (by omega) (by omega) k4.1 k4.2 hw
      simp only [allF]
      subst hf
      first
        | (have k5 : F 22 (f : Int) = 1 := by omega
           rw [BitVec.getLsbD_and, BitVec.getLsbD_not, hV w hw, hu, fact_1 hK ho k5, decide_eq_true hw, Bool.true_and, Bool.and_assoc]; done)
        | (have k5 : ¬ F 22 (f : Int) = 1 := by omega
           rw [BitVec.getLsbD_and, hV w hw, hu, fact_0 hK ho k5, Bool.and_assoc]; done)
    · refine P_lload (pc := 69) dX0_left_69 0 rfl ?_
      refine P_ldc2 (b := BitVec.allOnes 64) (pc := 71) dX0_left_71 kl_RX0_42 (by decide +kernel) ?_
      refine P_lnot (pc := 74) dX0_left_74 ?_
      refine P_goto (tgt := 80) (pc := 75) dX0_left_75 (by decide) ?_
      refine P_land (pc := 80) dX0_left_80 ?_
      refine P_lstore_n (L' := [(1, vl _), (4, vl _), (0, vr (5 + b)), (3, vi _)]) (pc := 81) dX0_left_81 rfl (by decide) rfl ?_
      refine P_iinc (L' := [(3, vi _), (1, vl _), (4, vl _), (0, vr (5 + b))]) (pc := 82) dX0_left_82 (by decide) 3 rfl rfl ?_
      refine P_goto (tgt := 17) (pc := 85) dX0_left_85 (by decide) ?_
      refine P_sub (L' := [(0, vr (5 + b)), (1, vl _), (3, vi _)]) [3, 1, 0] rfl ?_
      have ho : (b : Int) = 0 ∨ (b : Int) = 1 := by omega
      refine ih (f + 1) (ff + 1) _ (by omega) (by omega) (by omega) (fun w hw => ?_)
      have hu := hS.2 (F 21 ff) (F 20 ff) w (by omega) (by omega) k4.1 k4.2 hw
      simp only [allF]
      subst hf
      first
        | (have k5 : F 22 (f : Int) = 1 := by omega
           rw [BitVec.getLsbD_and, BitVec.getLsbD_not, hV w hw, hu, fact_1 hK ho k5, decide_eq_true hw, Bool.true_and, Bool.and_assoc]; done)
        | (have k5 : ¬ F 22 (f : Int) = 1 := by omega
           rw [BitVec.getLsbD_and, hV w hw, hu, fact_0 hK ho k5, Bool.and_assoc]; done)
set_option maxHeartbeats 1000000 in
set_option maxRecDepth 100000 in
theorem c_X0_left {μ : Mem} {b : Nat} {K F : Cel} (hb : b < 2) (hR : KR K μ) (hK : KOK K) (hN : KNE K) (hlp : μ.1 (3 + b) 1 = 6 * (b : Int)) (hs : μ.1 (3 + b) 10 = 0 ∨ μ.1 (3 + b) 10 = 1) (hc : μ.1 (3 + b) 9 = μ.1 1 12 → SI K μ b) (hi1 : InR (μ.1 (3 + b) 9)) (hi2 : InR (μ.1 1 12)) (hFR : FR F μ) (hFO : FOK F) (h11 : F 0 11 = K 0 11) : PC shC 5 mX0_left [vr (5 + b)] (μ) (QL (fun z μ' => (FS b μ μ' ∧ SI K μ' b ∧ μ'.1 (3 + b) 9 = μ'.1 1 12 ∧ LWP K F b z))) := by
  refine PC.of (by decide +kernel) (Nat.le_of_ble_eq_true rfl) ?_
  refine P_sub (L' := [(0, vr (5 + b))]) [0] rfl ?_
  refine P_aload_n (pc := 0) dX0_left_0 rfl 0 rfl ?_
  refine P_getR (pc := 1) dX0_left_1 fa_RX0_15 (sD_o hb) fD_1 ?_
  refine P_callVv (Y' := mX4_refresh) (as := []) (pc := 4) dX0_left_4 rfl (by decide : 4 < 5) (sS_o hb) rfl ml_RX0_19 im_X4_refresh se_X4_refresh mk_X4_refresh (Nat.le_of_ble_eq_true rfl) (c_X4_refresh hb hR hK hN hlp hs hc hi1 hi2) (fun μ_ hq => ?_)
  obtain ⟨hF1, hS1, h91⟩ := hq
  skip
  refine P_aload_n (pc := 7) dX0_left_7 rfl 0 rfl ?_
  refine P_getR (pc := 8) dX0_left_8 fa_RX0_9 (sD_o hb) fD_0 ?_
  refine P_callVl (Y' := mX3_everyWay) (as := []) (pc := 11) dX0_left_11 rfl (by decide : 2 < 5) sC_1 rfl ml_RX0_24 im_X3_everyWay se_X3_everyWay mk_X3_everyWay (Nat.le_of_ble_eq_true rfl) (c_X3_everyWay (FS_KR hb hF1 hR) hK) (fun z_ μ_ hq => ?_)
  obtain ⟨hz, hμ_⟩ := hq
  subst hμ_
  subst hz
  skip
  refine P_lstore_n (L' := [(1, vl _), (0, vr (5 + b))]) (pc := 14) dX0_left_14 rfl (by decide) rfl ?_
  refine P_iconst (pc := 15) dX0_left_15 ?_
  refine P_istore_n (L' := [(3, vi _), (1, vl _), (0, vr (5 + b))]) (pc := 16) dX0_left_16 rfl (by decide) rfl ?_
  refine P_sub (L' := [(0, vr (5 + b)), (1, vl _), (3, vi _)]) [2, 1, 0] rfl ?_
  exact l_X0_left hb hK hF1 hS1 h91 (FS_FR hb hF1 hFR) hFO h11 ((F 0 30).toNat + 1) 0 0 _ rfl (Nat.zero_le _) (by omega) (fun w hw => by rw [evW_bit hw]; exact (Bool.and_true _).symm)
set_option maxHeartbeats 1000000 in
set_option maxRecDepth 100000 in
theorem c_X0_cleanIn {μ : Mem} {b : Nat} {w : BitVec 64} {t h : Int} (hb : b < 2) (ht : 0 ≤ t ∧ t < 12) (hh : 0 ≤ h ∧ h < 48) : PC shC 1 mX0_cleanIn [vr (5 + b), vl w, vi t, vi h] (μ) (QL (fun z μ' => z = w &&& ~~~(μ.2 (23 + 7 * b) (h * 12 + t)) ∧ μ' = μ)) := by
  refine PC.of (by decide +kernel) (Nat.le_of_ble_eq_true rfl) ?_
  refine P_sub (L' := [(0, vr (5 + b)), (1, vl w), (3, vi t), (4, vi h)]) [0, 1, 2, 3] rfl ?_
  refine P_lload_n (pc := 0) dX0_cleanIn_0 rfl 1 rfl ?_
  refine P_aload_n (pc := 1) dX0_cleanIn_1 rfl 0 rfl ?_
  refine P_getR (pc := 2) dX0_cleanIn_2 fa_RX0_15 (sD_o hb) fD_1 ?_
  refine P_iload_n (pc := 5) dX0_cleanIn_5 rfl 2 rfl ?_
  refine P_iload (pc := 6) dX0_cleanIn_6 3 rfl ?_
  refine P_callVl (Y' := mX4_uncleanAt) (as := [_, _]) (pc := 8) dX0_cleanIn_8 rfl (by decide : 0 < 1) (sS_o hb) rfl ml_RX0_38 im_X4_uncleanAt se_X4_uncleanAt mk_X4_uncleanAt (Nat.le_of_ble_eq_true rfl) (c_X4_uncleanAt hb (by omega) (by omega)) (fun z_ μ_ hq => ?_)
  obtain ⟨hz, hμ_⟩ := hq
  have hμ_ := hμ_.symm
  subst hμ_
  subst hz
  skip
  refine P_ldc2 (b := BitVec.allOnes 64) (pc := 11) dX0_cleanIn_11 kl_RX0_42 (by decide +kernel) ?_
  refine P_lnot (pc := 14) dX0_cleanIn_14 ?_
  refine P_land (pc := 15) dX0_cleanIn_15 ?_
  exact P_lret (pc := 16) dX0_cleanIn_16 rfl (QL.mk (by exact ⟨rfl, rfl⟩))
set_option maxHeartbeats 1000000 in
set_option maxRecDepth 100000 in
theorem c_X0_sureIn {μ : Mem} {b : Nat} {w : BitVec 64} {t h : Int} (hb : b < 2) (ht : 0 ≤ t ∧ t < 12) (hh : 0 ≤ h ∧ h < 48) : PC shC 2 mX0_sureIn [vr (5 + b), vl w, vi t, vi h] (μ) (QI (fun z μ' => z = suC w (w &&& ~~~(μ.2 (23 + 7 * b) (h * 12 + t))) ∧ μ' = μ)) := by
  refine PC.of (by decide +kernel) (Nat.le_of_ble_eq_true rfl) ?_
  refine P_sub (L' := [(0, vr (5 + b)), (1, vl w), (3, vi t), (4, vi h)]) [0, 1, 2, 3] rfl ?_
  refine P_lload_n (pc := 0) dX0_sureIn_0 rfl 1 rfl ?_
  refine P_lconst (b := 0#64) (pc := 1) dX0_sureIn_1 rfl ?_
  refine P_lcmp_ne (tgt := 9) (pc := 2) dX0_sureIn_2 dX0_sureIn_3 (by decide) (fun c_2 => ?_) (fun c_2 => ?_)
  · refine P_aload_n (pc := 9) dX0_sureIn_9 rfl 0 rfl ?_
    refine P_lload_n (pc := 10) dX0_sureIn_10 rfl 1 rfl ?_
    refine P_iload_n (pc := 11) dX0_sureIn_11 rfl 2 rfl ?_
    refine P_iload (pc := 12) dX0_sureIn_12 3 rfl ?_
    refine P_callVl (Y' := mX0_cleanIn) (as := [_, _, _]) (pc := 14) dX0_sureIn_14 rfl (by decide : 1 < 2) (sD_o hb) rfl ml_RX0_44 im_X0_cleanIn se_X0_cleanIn mk_X0_cleanIn (Nat.le_of_ble_eq_true rfl) (c_X0_cleanIn hb ht hh) (fun z_ μ_ hq => ?_)
    obtain ⟨hz, hμ_⟩ := hq
    have hμ_ := hμ_.symm
    subst hμ_
    subst hz
    skip
    refine P_lstore (L' := [(5, vl _), (0, vr (5 + b)), (1, vl _), (3, vi _), (4, vi _)]) (pc := 17) dX0_sureIn_17 (by decide) rfl ?_
    refine P_lload (pc := 19) dX0_sureIn_19 0 rfl ?_
    refine P_lload_n (pc := 21) dX0_sureIn_21 rfl 2 rfl ?_
    refine P_lcmp_ne (tgt := 28) (pc := 22) dX0_sureIn_22 dX0_sureIn_23 (by decide) (fun c_22 => ?_) (fun c_22 => ?_)
    · refine P_lload (pc := 28) dX0_sureIn_28 0 rfl ?_
      refine P_lconst (b := 0#64) (pc := 30) dX0_sureIn_30 rfl ?_
      refine P_lcmp_ne (tgt := 39) (pc := 31) dX0_sureIn_31 dX0_sureIn_32 (by decide) (fun c_31 => ?_) (fun c_31 => ?_)
      · refine P_iconst (pc := 39) dX0_sureIn_39 ?_
        exact P_iret (pc := 40) dX0_sureIn_40 rfl (QI.mk (by refine ⟨?_, rfl⟩; unfold suC; first | (rw [if_pos (by assumption)]; done) | (rw [if_neg (by assumption), if_pos (by assumption)]; done) | (rw [if_neg (by assumption), if_neg (by assumption), if_pos (by assumption)]; done) | (rw [if_neg (by assumption), if_neg (by assumption), if_neg (by assumption)]; done)))
      · refine P_iconst (pc := 35) dX0_sureIn_35 ?_
        refine P_goto (tgt := 40) (pc := 36) dX0_sureIn_36 (by decide) ?_
        exact P_iret (pc := 40) dX0_sureIn_40 rfl (QI.mk (by refine ⟨?_, rfl⟩; unfold suC; first | (rw [if_pos (by assumption)]; done) | (rw [if_neg (by assumption), if_pos (by assumption)]; done) | (rw [if_neg (by assumption), if_neg (by assumption), if_pos (by assumption)]; done) | (rw [if_neg (by assumption), if_neg (by assumption), if_neg (by assumption)]; done)))
    · refine P_iconst (pc := 26) dX0_sureIn_26 ?_
      exact P_iret (pc := 27) dX0_sureIn_27 rfl (QI.mk (by refine ⟨?_, rfl⟩; unfold suC; first | (rw [if_pos (by assumption)]; done) | (rw [if_neg (by assumption), if_pos (by assumption)]; done) | (rw [if_neg (by assumption), if_neg (by assumption), if_pos (by assumption)]; done) | (rw [if_neg (by assumption), if_neg (by assumption), if_neg (by assumption)]; done)))
  · refine P_bipush (pc := 6) dX0_sureIn_6 (by decide) ?_
    exact P_iret (pc := 8) dX0_sureIn_8 rfl (QI.mk (by refine ⟨?_, rfl⟩; unfold suC; first | (rw [if_pos (by assumption)]; done) | (rw [if_neg (by assumption), if_pos (by assumption)]; done) | (rw [if_neg (by assumption), if_neg (by assumption), if_pos (by assumption)]; done) | (rw [if_neg (by assumption), if_neg (by assumption), if_neg (by assumption)]; done)))
