/-- the model, its reader at a, the number that it read last begun at g -/
def atM (μ : Mem) (a g : Int) : Mem := (fun q => if q = 0 then (fun j => if j = 15 then a else if j = 16 then g else μ.1 0 j) else μ.1 q, μ.2)
theorem at_15 {μ : Mem} {a g : Int} : (atM μ a g).1 0 15 = a := rfl
theorem at_16 {μ : Mem} {a g : Int} : (atM μ a g).1 0 16 = g := rfl
theorem at_11 {μ : Mem} {a g : Int} : (atM μ a g).1 0 11 = μ.1 0 11 := rfl
theorem at_12 {μ : Mem} {a g : Int} : (atM μ a g).1 0 12 = μ.1 0 12 := rfl
theorem at_14 {μ : Mem} {a g : Int} : (atM μ a g).1 0 14 = μ.1 0 14 := rfl
theorem at_30 {μ : Mem} {a g : Int} : (atM μ a g).1 0 30 = μ.1 0 30 := rfl
theorem at_37 {μ : Mem} {a g : Int} : (atM μ a g).1 0 37 = μ.1 0 37 := rfl
theorem at_40 {μ : Mem} {a g : Int} : (atM μ a g).1 0 40 = μ.1 0 40 := rfl
theorem at_r1 {μ : Mem} {a g : Int} : (atM μ a g).1 1 = μ.1 1 := rfl
theorem at_r2 {μ : Mem} {a g : Int} : (atM μ a g).1 2 = μ.1 2 := rfl
theorem at_r3 {μ : Mem} {a g : Int} : (atM μ a g).1 3 = μ.1 3 := rfl
theorem at_r4 {μ : Mem} {a g : Int} : (atM μ a g).1 4 = μ.1 4 := rfl
theorem at_r5 {μ : Mem} {a g : Int} : (atM μ a g).1 5 = μ.1 5 := rfl
theorem at_r6 {μ : Mem} {a g : Int} : (atM μ a g).1 6 = μ.1 6 := rfl
theorem at_r7 {μ : Mem} {a g : Int} : (atM μ a g).1 7 = μ.1 7 := rfl
theorem at_r8 {μ : Mem} {a g : Int} : (atM μ a g).1 8 = μ.1 8 := rfl
theorem at_r9 {μ : Mem} {a g : Int} : (atM μ a g).1 9 = μ.1 9 := rfl
theorem at_r10 {μ : Mem} {a g : Int} : (atM μ a g).1 10 = μ.1 10 := rfl
theorem at_r11 {μ : Mem} {a g : Int} : (atM μ a g).1 11 = μ.1 11 := rfl
theorem at_r12 {μ : Mem} {a g : Int} : (atM μ a g).1 12 = μ.1 12 := rfl
theorem at_r13 {μ : Mem} {a g : Int} : (atM μ a g).1 13 = μ.1 13 := rfl
theorem at_r14 {μ : Mem} {a g : Int} : (atM μ a g).1 14 = μ.1 14 := rfl
theorem at_r15 {μ : Mem} {a g : Int} : (atM μ a g).1 15 = μ.1 15 := rfl
theorem at_r16 {μ : Mem} {a g : Int} : (atM μ a g).1 16 = μ.1 16 := rfl
theorem at_r17 {μ : Mem} {a g : Int} : (atM μ a g).1 17 = μ.1 17 := rfl
theorem at_r18 {μ : Mem} {a g : Int} : (atM μ a g).1 18 = μ.1 18 := rfl
theorem at_r19 {μ : Mem} {a g : Int} : (atM μ a g).1 19 = μ.1 19 := rfl
theorem at_r20 {μ : Mem} {a g : Int} : (atM μ a g).1 20 = μ.1 20 := rfl
theorem at_r21 {μ : Mem} {a g : Int} : (atM μ a g).1 21 = μ.1 21 := rfl
theorem at_r22 {μ : Mem} {a g : Int} : (atM μ a g).1 22 = μ.1 22 := rfl
theorem at_r23 {μ : Mem} {a g : Int} : (atM μ a g).1 23 = μ.1 23 := rfl
theorem at_r24 {μ : Mem} {a g : Int} : (atM μ a g).1 24 = μ.1 24 := rfl
theorem at_r25 {μ : Mem} {a g : Int} : (atM μ a g).1 25 = μ.1 25 := rfl
theorem at_r26 {μ : Mem} {a g : Int} : (atM μ a g).1 26 = μ.1 26 := rfl
theorem at_r27 {μ : Mem} {a g : Int} : (atM μ a g).1 27 = μ.1 27 := rfl
theorem at_r28 {μ : Mem} {a g : Int} : (atM μ a g).1 28 = μ.1 28 := rfl
theorem at_r29 {μ : Mem} {a g : Int} : (atM μ a g).1 29 = μ.1 29 := rfl
theorem at_r30 {μ : Mem} {a g : Int} : (atM μ a g).1 30 = μ.1 30 := rfl
theorem atM_self {μ : Mem} : atM μ (μ.1 0 15) (μ.1 0 16) = μ := by
  refine Prod.ext ?_ rfl
  funext q j
  unfold atM
  by_cases h : q = 0
  · subst h
    by_cases a : j = 15
    · subst a; rfl
    · by_cases b : j = 16
      · subst b; rfl
      · simp [a, b]
  · simp [h]
theorem at_p15 {μ : Mem} {a g v : Int} : putI (atM μ a g) 0 15 v = atM μ v g := by
  refine Prod.ext ?_ rfl
  funext q j
  unfold atM putI
  by_cases h : q = 0
  · subst h
    by_cases a : j = 15
    · subst a; rfl
    · simp [a]
  · simp [h]
theorem at_p16 {μ : Mem} {a g v : Int} : putI (atM μ a g) 0 16 v = atM μ a v := by
  refine Prod.ext ?_ rfl
  funext q j
  unfold atM putI
  by_cases h : q = 0
  · subst h
    by_cases a : j = 16
    · subst a; rfl
    · simp [a]
  · simp [h]
theorem at_put {μ : Mem} {a g v : Int} {q : Nat} {j : Int} (h : q ≠ 0 ∨ (j ≠ 15 ∧ j ≠ 16)) : putI (atM μ a g) q j v = atM (putI μ q j v) a g := by
  refine Prod.ext ?_ rfl
  funext q' j'
  unfold atM putI
  by_cases h0 : q' = 0
  · subst h0
    by_cases e : 0 = q
    · subst e
      by_cases a : j' = 15
      · subst a
        have : ¬ (15 : Int) = j := by omega
        simp [this]
      · by_cases b : j' = 16
        · subst b
          have : ¬ (16 : Int) = j := by omega
          simp [this]
        · simp [a, b]
    · simp [e]
  · by_cases e : q' = q
    · subst e
      simp [h0]
    · simp [h0, e]
theorem at_comes {μ : Mem} {a g k w h : Int} : comesM (atM μ a g) k w h = atM (comesM μ k w h) a g := by
  unfold comesM
  simp only [at_11]
  rw [at_put (by omega), at_put (by omega), at_put (by omega), at_put (by omega)]
theorem at_happ {μ : Mem} {a g h k x b u : Int} : happM (atM μ a g) h k x b u = atM (happM μ h k x b u) a g := by
  unfold happM
  simp only [at_12]
  rw [at_put (by omega), at_put (by omega), at_put (by omega), at_put (by omega), at_put (by omega), at_put (by omega)]
def TL (T : Int → Int) (L : Int) : Prop := (∀ j, 0 ≤ T j ∧ T j ≤ 255) ∧ 0 ≤ L ∧ L ≤ 80
def sgn (T : Int → Int) (L a : Int) : Int := if a < L then T a else -1
theorem sgn_in {T : Int → Int} {L a : Int} (h : TL T L) : -1 ≤ sgn T L a ∧ sgn T L a ≤ 255 ∧ (sgn T L a = -1 ∨ a < L) := by
  have := h.1 a
  unfold sgn
  split <;> omega
def tsR (T : Int → Int) (L c a : Int) : Int × Int := if sgn T L a = c then (1, a + 1) else (0, a)
theorem tsR_in {T : Int → Int} {L c a : Int} (h : TL T L) (hc : 0 ≤ c) : ((tsR T L c a).1 = 0 ∧ (tsR T L c a).2 = a) ∨ ((tsR T L c a).1 = 1 ∧ (tsR T L c a).2 = a + 1 ∧ a < L) := by
  have := sgn_in (a := a) h
  unfold tsR
  split <;> (try dsimp only) <;> omega
def dgR (T : Int → Int) (L g a : Int) : Int × Int := if 0 ≤ sgn T L a - 48 ∧ sgn T L a - 48 ≤ g then (sgn T L a - 48, a + 1) else (-1, a)
theorem dgR_in {T : Int → Int} {L g a : Int} (h : TL T L) : ((dgR T L g a).1 = -1 ∧ (dgR T L g a).2 = a) ∨ (0 ≤ (dgR T L g a).1 ∧ (dgR T L g a).1 ≤ g ∧ (dgR T L g a).2 = a + 1 ∧ a < L) := by
  have := sgn_in (a := a) h
  unfold dgR
  split <;> (try dsimp only) <;> omega
def nuR (T : Int → Int) (L a : Int) : Int × Int := if 0 < (dgR T L 9 a).1 ∧ 48 ≤ sgn T L (dgR T L 9 a).2 ∧ sgn T L (dgR T L 9 a).2 ≤ 57 then (10 * (dgR T L 9 a).1 + (dgR T L 9 (dgR T L 9 a).2).1, (dgR T L 9 (dgR T L 9 a).2).2) else dgR T L 9 a
def nmR (T : Int → Int) (L lo hi a : Int) : Int × Int := if lo ≤ (nuR T L a).1 ∧ (nuR T L a).1 ≤ hi then nuR T L a else (-1, a)
theorem nuR_in {T : Int → Int} {L a : Int} (h : TL T L) : ((nuR T L a).1 = -1 ∧ (nuR T L a).2 = a) ∨ (0 ≤ (nuR T L a).1 ∧ (nuR T L a).1 ≤ 99 ∧ a < (nuR T L a).2 ∧ (nuR T L a).2 ≤ L) := by
  have h1 := dgR_in (g := 9) (a := a) h
  have h2 := dgR_in (g := 9) (a := (dgR T L 9 a).2) h
  have h3 : 0 ≤ sgn T L (dgR T L 9 a).2 - 48 ∧ sgn T L (dgR T L 9 a).2 - 48 ≤ 9 → (dgR T L 9 (dgR T L 9 a).2).1 = sgn T L (dgR T L 9 a).2 - 48 := by
    intro q
    unfold dgR at q ⊢
    rw [if_pos q]
  unfold nuR
  split <;> (try dsimp only) <;> omega
theorem nmR_in {T : Int → Int} {L lo hi a : Int} (h : TL T L) (hl : 0 ≤ lo) : ((nmR T L lo hi a).1 = -1 ∧ (nmR T L lo hi a).2 = a) ∨ (lo ≤ (nmR T L lo hi a).1 ∧ (nmR T L lo hi a).1 ≤ hi ∧ a < (nmR T L lo hi a).2 ∧ (nmR T L lo hi a).2 ≤ L) := by
  have h1 := nuR_in (a := a) h
  unfold nmR
  split <;> (try dsimp only) <;> omega
set_option maxHeartbeats 1000000 in
set_option maxRecDepth 100000 in
theorem c_X6_sign {μ : Mem} {a g : Int} (hT : TL (μ.1 12) (μ.1 0 14)) (ha : 0 ≤ a ∧ a ≤ μ.1 0 14)  : PC shM 0 mX6_sign [vr 0] (atM μ a g) (QI (fun z μ' => z = sgn (μ.1 12) (μ.1 0 14) a ∧ μ' = atM μ a g ∧ (-1 ≤ sgn (μ.1 12) (μ.1 0 14) a ∧ sgn (μ.1 12) (μ.1 0 14) a ≤ 255 ∧ (sgn (μ.1 12) (μ.1 0 14) a = -1 ∨ a < μ.1 0 14)))) := by
  refine PC.of (by decide +kernel) (Nat.le_of_ble_eq_true rfl) ?_
  refine P_sub (L' := [(0, vr 0)]) [0] rfl ?_
  have hT2 := hT.2
  have hs := sgn_in (a := a) hT
  have hs2 : sgn (μ.1 12) (μ.1 0 14) a = if a < μ.1 0 14 then μ.1 12 a else -1 := rfl
  refine P_aload_n (pc := 0) dX6_sign_0 rfl 0 rfl ?_
  refine P_getI (jj := 15) (pc := 1) dX6_sign_1 fa_RX6_144 sM_0 fM0_15 rfl ?_
  try simp only [at_15, at_16, at_11, at_12, at_14, at_30, at_37, at_40, at_r1, at_r2, at_r3, at_r4, at_r5, at_r6, at_r7, at_r8, at_r9, at_r10, at_r11, at_r12, at_r13, at_r14, at_r15, at_r16, at_r17, at_r18, at_r19, at_r20, at_r21, at_r22, at_r23, at_r24, at_r25, at_r26, at_r27, at_r28, at_r29, at_r30, at_p15, at_p16, at_comes, at_happ, at_put (show (5 : Nat) ≠ 0 ∨ _ from Or.inl (by decide))]
  refine P_aload_n (pc := 4) dX6_sign_4 rfl 0 rfl ?_
  refine P_getI (jj := 14) (pc := 5) dX6_sign_5 fa_RX6_139 sM_0 fM0_14 rfl ?_
  try simp only [at_15, at_16, at_11, at_12, at_14, at_30, at_37, at_40, at_r1, at_r2, at_r3, at_r4, at_r5, at_r6, at_r7, at_r8, at_r9, at_r10, at_r11, at_r12, at_r13, at_r14, at_r15, at_r16, at_r17, at_r18, at_r19, at_r20, at_r21, at_r22, at_r23, at_r24, at_r25, at_r26, at_r27, at_r28, at_r29, at_r30, at_p15, at_p16, at_comes, at_happ, at_put (show (5 : Nat) ≠ 0 ∨ _ from Or.inl (by decide))]
  refine P_icmp_ge (tgt := 23) (pc := 8) dX6_sign_8 (by decide) (by first | assumption | (unfold InR; omega)) (by first | assumption | (unfold InR; omega)) (fun c_8 => ?_) (fun c_8 => ?_)
  · refine P_iconst (pc := 23) dX6_sign_23 ?_
    exact P_iret (pc := 24) dX6_sign_24 rfl (QI.mk (by first | (exact ⟨by rw [hs2, if_pos (by omega)], rfl, hs⟩) | (exact ⟨by rw [hs2, if_neg (by omega)], rfl, hs⟩)))
  · refine P_aload_n (pc := 11) dX6_sign_11 rfl 0 rfl ?_
    refine P_getR (pc := 12) dX6_sign_12 fa_RX6_43 sM_0 fM0_13 ?_
    refine P_aload_n (pc := 15) dX6_sign_15 rfl 0 rfl ?_
    refine P_getI (jj := 15) (pc := 16) dX6_sign_16 fa_RX6_144 sM_0 fM0_15 rfl ?_
    try simp only [at_15, at_16, at_11, at_12, at_14, at_30, at_37, at_40, at_r1, at_r2, at_r3, at_r4, at_r5, at_r6, at_r7, at_r8, at_r9, at_r10, at_r11, at_r12, at_r13, at_r14, at_r15, at_r16, at_r17, at_r18, at_r19, at_r20, at_r21, at_r22, at_r23, at_r24, at_r25, at_r26, at_r27, at_r28, at_r29, at_r30, at_p15, at_p16, at_comes, at_happ, at_put (show (5 : Nat) ≠ 0 ∨ _ from Or.inl (by decide))]
    refine P_iald (pc := 19) dX6_sign_19 sM_12 (by omega) (by omega) (by decide) ?_
    try simp only [at_15, at_16, at_11, at_12, at_14, at_30, at_37, at_40, at_r1, at_r2, at_r3, at_r4, at_r5, at_r6, at_r7, at_r8, at_r9, at_r10, at_r11, at_r12, at_r13, at_r14, at_r15, at_r16, at_r17, at_r18, at_r19, at_r20, at_r21, at_r22, at_r23, at_r24, at_r25, at_r26, at_r27, at_r28, at_r29, at_r30, at_p15, at_p16, at_comes, at_happ, at_put (show (5 : Nat) ≠ 0 ∨ _ from Or.inl (by decide))]
    refine P_goto (tgt := 24) (pc := 20) dX6_sign_20 (by decide) ?_
    exact P_iret (pc := 24) dX6_sign_24 rfl (QI.mk (by first | (exact ⟨by rw [hs2, if_pos (by omega)], rfl, hs⟩) | (exact ⟨by rw [hs2, if_neg (by omega)], rfl, hs⟩)))
set_option maxHeartbeats 1000000 in
set_option maxRecDepth 100000 in
theorem c_X6_takesSign {μ : Mem} {a g : Int} {c : Int} (hT : TL (μ.1 12) (μ.1 0 14)) (ha : 0 ≤ a ∧ a ≤ μ.1 0 14) (hc : 0 ≤ c ∧ c ≤ 255) : PC shM 1 mX6_takesSign [vr 0, vi c] (atM μ a g) (QI (fun z μ' => z = (tsR (μ.1 12) (μ.1 0 14) c a).1 ∧ μ' = atM μ (tsR (μ.1 12) (μ.1 0 14) c a).2 g ∧ (((tsR (μ.1 12) (μ.1 0 14) c a).1 = 0 ∧ (tsR (μ.1 12) (μ.1 0 14) c a).2 = a) ∨ ((tsR (μ.1 12) (μ.1 0 14) c a).1 = 1 ∧ (tsR (μ.1 12) (μ.1 0 14) c a).2 = a + 1 ∧ a < μ.1 0 14)))) := by
  refine PC.of (by decide +kernel) (Nat.le_of_ble_eq_true rfl) ?_
  refine P_sub (L' := [(0, vr 0), (1, vi c)]) [0, 1] rfl ?_
  have hT2 := hT.2
  have hs := tsR_in (a := a) (c := c) hT hc.1
  have hs2 : tsR (μ.1 12) (μ.1 0 14) c a = if sgn (μ.1 12) (μ.1 0 14) a = c then (1, a + 1) else (0, a) := rfl
  refine P_aload_n (pc := 0) dX6_takesSign_0 rfl 0 rfl ?_
  refine P_callVi (Y' := mX6_sign) (as := []) (pc := 1) dX6_takesSign_1 rfl (by decide : 0 < 1) sM_0 rfl ml_RX6_147 im_X6_sign se_X6_sign mk_X6_sign (Nat.le_of_ble_eq_true rfl) (c_X6_sign hT (by omega)) (fun z_ μ_ hq => ?_)
  obtain ⟨rfl, hμ_, hi_⟩ := hq
  subst hμ_
  try simp only [at_15, at_16, at_11, at_12, at_14, at_30, at_37, at_40, at_r1, at_r2, at_r3, at_r4, at_r5, at_r6, at_r7, at_r8, at_r9, at_r10, at_r11, at_r12, at_r13, at_r14, at_r15, at_r16, at_r17, at_r18, at_r19, at_r20, at_r21, at_r22, at_r23, at_r24, at_r25, at_r26, at_r27, at_r28, at_r29, at_r30, at_p15, at_p16, at_comes, at_happ, at_put (show (5 : Nat) ≠ 0 ∨ _ from Or.inl (by decide))]
  refine P_iload_n (pc := 4) dX6_takesSign_4 rfl 1 rfl ?_
  refine P_icmp_eq (tgt := 10) (pc := 5) dX6_takesSign_5 (by decide) (by first | assumption | (unfold InR; omega)) (by first | assumption | (unfold InR; omega)) (fun c_5 => ?_) (fun c_5 => ?_)
  · refine P_aload_n (pc := 10) dX6_takesSign_10 rfl 0 rfl ?_
    refine P_dup (pc := 11) dX6_takesSign_11 rfl ?_
    refine P_getI (jj := 15) (pc := 12) dX6_takesSign_12 fa_RX6_144 sM_0 fM0_15 rfl ?_
    try simp only [at_15, at_16, at_11, at_12, at_14, at_30, at_37, at_40, at_r1, at_r2, at_r3, at_r4, at_r5, at_r6, at_r7, at_r8, at_r9, at_r10, at_r11, at_r12, at_r13, at_r14, at_r15, at_r16, at_r17, at_r18, at_r19, at_r20, at_r21, at_r22, at_r23, at_r24, at_r25, at_r26, at_r27, at_r28, at_r29, at_r30, at_p15, at_p16, at_comes, at_happ, at_put (show (5 : Nat) ≠ 0 ∨ _ from Or.inl (by decide))]
    refine P_iconst (pc := 15) dX6_takesSign_15 ?_
    refine P_iadd (pc := 16) dX6_takesSign_16 ?_
    refine P_putI (jj := 15) (pc := 17) dX6_takesSign_17 fa_RX6_144 fp_6_15 sM_0 fM0_15 rfl ?_
    try simp only [at_15, at_16, at_11, at_12, at_14, at_30, at_37, at_40, at_r1, at_r2, at_r3, at_r4, at_r5, at_r6, at_r7, at_r8, at_r9, at_r10, at_r11, at_r12, at_r13, at_r14, at_r15, at_r16, at_r17, at_r18, at_r19, at_r20, at_r21, at_r22, at_r23, at_r24, at_r25, at_r26, at_r27, at_r28, at_r29, at_r30, at_p15, at_p16, at_comes, at_happ, at_put (show (5 : Nat) ≠ 0 ∨ _ from Or.inl (by decide))]
    refine P_iconst (pc := 20) dX6_takesSign_20 ?_
    exact P_zret (pc := 21) dX6_takesSign_21 rfl (by omega) (QI.mk (by first | (rw [if_pos (by omega)] at hs2; refine ⟨by rw [hs2], by rw [hs2], hs⟩) | (rw [if_neg (by omega)] at hs2; refine ⟨by rw [hs2], by rw [hs2], hs⟩)))
  · refine P_iconst (pc := 8) dX6_takesSign_8 ?_
    exact P_zret (pc := 9) dX6_takesSign_9 rfl (by omega) (QI.mk (by first | (rw [if_pos (by omega)] at hs2; refine ⟨by rw [hs2], by rw [hs2], hs⟩) | (rw [if_neg (by omega)] at hs2; refine ⟨by rw [hs2], by rw [hs2], hs⟩)))
set_option maxHeartbeats 1000000 in
set_option maxRecDepth 100000 in
theorem c_X6_digit {μ : Mem} {a g : Int} {d : Int} (hT : TL (μ.1 12) (μ.1 0 14)) (ha : 0 ≤ a ∧ a ≤ μ.1 0 14) (hd : 0 ≤ d ∧ d ≤ 9) : PC shM 1 mX6_digit [vr 0, vi d] (atM μ a g) (QI (fun z μ' => z = (dgR (μ.1 12) (μ.1 0 14) d a).1 ∧ μ' = atM μ (dgR (μ.1 12) (μ.1 0 14) d a).2 g ∧ (((dgR (μ.1 12) (μ.1 0 14) d a).1 = -1 ∧ (dgR (μ.1 12) (μ.1 0 14) d a).2 = a) ∨ (0 ≤ (dgR (μ.1 12) (μ.1 0 14) d a).1 ∧ (dgR (μ.1 12) (μ.1 0 14) d a).1 ≤ d ∧ (dgR (μ.1 12) (μ.1 0 14) d a).2 = a + 1 ∧ a < μ.1 0 14)))) := by
  refine PC.of (by decide +kernel) (Nat.le_of_ble_eq_true rfl) ?_
  refine P_sub (L' := [(0, vr 0), (1, vi d)]) [0, 1] rfl ?_
  have hT2 := hT.2
  have hs := dgR_in (a := a) (g := d) hT
  have hs2 : dgR (μ.1 12) (μ.1 0 14) d a = if 0 ≤ sgn (μ.1 12) (μ.1 0 14) a - 48 ∧ sgn (μ.1 12) (μ.1 0 14) a - 48 ≤ d then (sgn (μ.1 12) (μ.1 0 14) a - 48, a + 1) else (-1, a) := rfl
  refine P_aload_n (pc := 0) dX6_digit_0 rfl 0 rfl ?_
  refine P_callVi (Y' := mX6_sign) (as := []) (pc := 1) dX6_digit_1 rfl (by decide : 0 < 1) sM_0 rfl ml_RX6_147 im_X6_sign se_X6_sign mk_X6_sign (Nat.le_of_ble_eq_true rfl) (c_X6_sign hT (by omega)) (fun z_ μ_ hq => ?_)
  obtain ⟨rfl, hμ_, hi_⟩ := hq
  subst hμ_
  try simp only [at_15, at_16, at_11, at_12, at_14, at_30, at_37, at_40, at_r1, at_r2, at_r3, at_r4, at_r5, at_r6, at_r7, at_r8, at_r9, at_r10, at_r11, at_r12, at_r13, at_r14, at_r15, at_r16, at_r17, at_r18, at_r19, at_r20, at_r21, at_r22, at_r23, at_r24, at_r25, at_r26, at_r27, at_r28, at_r29, at_r30, at_p15, at_p16, at_comes, at_happ, at_put (show (5 : Nat) ≠ 0 ∨ _ from Or.inl (by decide))]
  refine P_bipush (pc := 4) dX6_digit_4 (by decide) ?_
  refine P_isub (pc := 6) dX6_digit_6 ?_
  refine P_istore_n (L' := [(2, vi _), (0, vr 0), (1, vi _)]) (pc := 7) dX6_digit_7 rfl (by decide) rfl ?_
  refine P_iload_n (pc := 8) dX6_digit_8 rfl 0 rfl ?_
  refine P_iconst (pc := 9) dX6_digit_9 ?_
  refine P_iload_n (pc := 10) dX6_digit_10 rfl 2 rfl ?_
  refine P_callSi (Y' := mX6_isIn) (as := [_, _, _]) (pc := 11) dX6_digit_11 rfl (by decide : 0 < 1) ml_RX6_105 sm_X6_isIn mk_X6_isIn (Nat.le_of_ble_eq_true rfl) (c_X6_isIn (by unfold InR; omega) (by unfold InR; omega) (by unfold InR; omega)) (fun z_ μ_ hq => ?_)
  obtain ⟨hz, hμ_⟩ := hq
  subst hμ_
  have hz : z_ = 0 ∧ ¬ (0 ≤ sgn (μ.1 12) (μ.1 0 14) a - 48 ∧ sgn (μ.1 12) (μ.1 0 14) a - 48 ≤ d) ∨ z_ = 1 ∧ (0 ≤ sgn (μ.1 12) (μ.1 0 14) a - 48 ∧ sgn (μ.1 12) (μ.1 0 14) a - 48 ≤ d) := by rw [hz]; split <;> omega
  try simp only [at_15, at_16, at_11, at_12, at_14, at_30, at_37, at_40, at_r1, at_r2, at_r3, at_r4, at_r5, at_r6, at_r7, at_r8, at_r9, at_r10, at_r11, at_r12, at_r13, at_r14, at_r15, at_r16, at_r17, at_r18, at_r19, at_r20, at_r21, at_r22, at_r23, at_r24, at_r25, at_r26, at_r27, at_r28, at_r29, at_r30, at_p15, at_p16, at_comes, at_happ, at_put (show (5 : Nat) ≠ 0 ∨ _ from Or.inl (by decide))]
  refine P_if_ne (tgt := 19) (pc := 14) dX6_digit_14 (by decide) (by first | assumption | (unfold InR; omega)) (fun c_14 => ?_) (fun c_14 => ?_)
  · refine P_aload_n (pc := 19) dX6_digit_19 rfl 1 rfl ?_
    refine P_dup (pc := 20) dX6_digit_20 rfl ?_
    refine P_getI (jj := 15) (pc := 21) dX6_digit_21 fa_RX6_144 sM_0 fM0_15 rfl ?_
    try simp only [at_15, at_16, at_11, at_12, at_14, at_30, at_37, at_40, at_r1, at_r2, at_r3, at_r4, at_r5, at_r6, at_r7, at_r8, at_r9, at_r10, at_r11, at_r12, at_r13, at_r14, at_r15, at_r16, at_r17, at_r18, at_r19, at_r20, at_r21, at_r22, at_r23, at_r24, at_r25, at_r26, at_r27, at_r28, at_r29, at_r30, at_p15, at_p16, at_comes, at_happ, at_put (show (5 : Nat) ≠ 0 ∨ _ from Or.inl (by decide))]
    refine P_iconst (pc := 24) dX6_digit_24 ?_
    refine P_iadd (pc := 25) dX6_digit_25 ?_
    refine P_putI (jj := 15) (pc := 26) dX6_digit_26 fa_RX6_144 fp_6_15 sM_0 fM0_15 rfl ?_
    try simp only [at_15, at_16, at_11, at_12, at_14, at_30, at_37, at_40, at_r1, at_r2, at_r3, at_r4, at_r5, at_r6, at_r7, at_r8, at_r9, at_r10, at_r11, at_r12, at_r13, at_r14, at_r15, at_r16, at_r17, at_r18, at_r19, at_r20, at_r21, at_r22, at_r23, at_r24, at_r25, at_r26, at_r27, at_r28, at_r29, at_r30, at_p15, at_p16, at_comes, at_happ, at_put (show (5 : Nat) ≠ 0 ∨ _ from Or.inl (by decide))]
    refine P_iload_n (pc := 29) dX6_digit_29 rfl 0 rfl ?_
    exact P_iret (pc := 30) dX6_digit_30 rfl (QI.mk (by first | (rw [if_pos (by omega)] at hs2; refine ⟨by rw [hs2], by rw [hs2], hs⟩) | (rw [if_neg (by omega)] at hs2; refine ⟨by rw [hs2], by rw [hs2], hs⟩)))
  · refine P_iconst (pc := 17) dX6_digit_17 ?_
    exact P_iret (pc := 18) dX6_digit_18 rfl (QI.mk (by first | (rw [if_pos (by omega)] at hs2; refine ⟨by rw [hs2], by rw [hs2], hs⟩) | (rw [if_neg (by omega)] at hs2; refine ⟨by rw [hs2], by rw [hs2], hs⟩)))
set_option maxHeartbeats 1000000 in
set_option maxRecDepth 100000 in
theorem c_X6_number {μ : Mem} {a g : Int} {lo hi : Int} (hT : TL (μ.1 12) (μ.1 0 14)) (ha : 0 ≤ a ∧ a ≤ μ.1 0 14) (hl : 0 ≤ lo ∧ lo ≤ 1 ∧ -1 ≤ hi ∧ hi ≤ 47) : PC shM 2 mX6_number [vr 0, vi lo, vi hi] (atM μ a g) (QI (fun z μ' => z = (nmR (μ.1 12) (μ.1 0 14) lo hi a).1 ∧ μ' = atM μ (nmR (μ.1 12) (μ.1 0 14) lo hi a).2 a ∧ (((nmR (μ.1 12) (μ.1 0 14) lo hi a).1 = -1 ∧ (nmR (μ.1 12) (μ.1 0 14) lo hi a).2 = a) ∨ (lo ≤ (nmR (μ.1 12) (μ.1 0 14) lo hi a).1 ∧ (nmR (μ.1 12) (μ.1 0 14) lo hi a).1 ≤ hi ∧ a < (nmR (μ.1 12) (μ.1 0 14) lo hi a).2 ∧ (nmR (μ.1 12) (μ.1 0 14) lo hi a).2 ≤ μ.1 0 14)))) := by
  refine PC.of (by decide +kernel) (Nat.le_of_ble_eq_true rfl) ?_
  refine P_sub (L' := [(0, vr 0), (1, vi lo), (2, vi hi)]) [0, 1, 2] rfl ?_
  have hT2 := hT.2
  have hs := nmR_in (a := a) (lo := lo) (hi := hi) hT hl.1
  have hs3 := nuR_in (a := a) hT
  have hs2 : nmR (μ.1 12) (μ.1 0 14) lo hi a = if lo ≤ (nuR (μ.1 12) (μ.1 0 14) a).1 ∧ (nuR (μ.1 12) (μ.1 0 14) a).1 ≤ hi then nuR (μ.1 12) (μ.1 0 14) a else (-1, a) := rfl
  have hs4 : nuR (μ.1 12) (μ.1 0 14) a = if 0 < (dgR (μ.1 12) (μ.1 0 14) 9 a).1 ∧ 48 ≤ sgn (μ.1 12) (μ.1 0 14) (dgR (μ.1 12) (μ.1 0 14) 9 a).2 ∧ sgn (μ.1 12) (μ.1 0 14) (dgR (μ.1 12) (μ.1 0 14) 9 a).2 ≤ 57 then (10 * (dgR (μ.1 12) (μ.1 0 14) 9 a).1 + (dgR (μ.1 12) (μ.1 0 14) 9 (dgR (μ.1 12) (μ.1 0 14) 9 a).2).1, (dgR (μ.1 12) (μ.1 0 14) 9 (dgR (μ.1 12) (μ.1 0 14) 9 a).2).2) else (dgR (μ.1 12) (μ.1 0 14) 9 a) := rfl
  refine P_aload_n (pc := 0) dX6_number_0 rfl 0 rfl ?_
  refine P_aload_n (pc := 1) dX6_number_1 rfl 0 rfl ?_
  refine P_getI (jj := 15) (pc := 2) dX6_number_2 fa_RX6_144 sM_0 fM0_15 rfl ?_
  try simp only [at_15, at_16, at_11, at_12, at_14, at_30, at_37, at_40, at_r1, at_r2, at_r3, at_r4, at_r5, at_r6, at_r7, at_r8, at_r9, at_r10, at_r11, at_r12, at_r13, at_r14, at_r15, at_r16, at_r17, at_r18, at_r19, at_r20, at_r21, at_r22, at_r23, at_r24, at_r25, at_r26, at_r27, at_r28, at_r29, at_r30, at_p15, at_p16, at_comes, at_happ, at_put (show (5 : Nat) ≠ 0 ∨ _ from Or.inl (by decide))]
  refine P_putI (jj := 16) (pc := 5) dX6_number_5 fa_RX6_151 fp_6_16 sM_0 fM0_16 rfl ?_
  try simp only [at_15, at_16, at_11, at_12, at_14, at_30, at_37, at_40, at_r1, at_r2, at_r3, at_r4, at_r5, at_r6, at_r7, at_r8, at_r9, at_r10, at_r11, at_r12, at_r13, at_r14, at_r15, at_r16, at_r17, at_r18, at_r19, at_r20, at_r21, at_r22, at_r23, at_r24, at_r25, at_r26, at_r27, at_r28, at_r29, at_r30, at_p15, at_p16, at_comes, at_happ, at_put (show (5 : Nat) ≠ 0 ∨ _ from Or.inl (by decide))]
  refine P_aload_n (pc := 8) dX6_number_8 rfl 0 rfl ?_
  refine P_bipush (pc := 9) dX6_number_9 (by decide) ?_
  refine P_callVi (Y' := mX6_digit) (as := [_]) (pc := 11) dX6_number_11 rfl (by decide : 1 < 2) sM_0 rfl ml_RX6_154 im_X6_digit se_X6_digit mk_X6_digit (Nat.le_of_ble_eq_true rfl) (c_X6_digit hT (by omega) (by omega)) (fun z_ μ_ hq => ?_)
  obtain ⟨rfl, hμ_, hi_⟩ := hq
  subst hμ_
  try simp only [at_15, at_16, at_11, at_12, at_14, at_30, at_37, at_40, at_r1, at_r2, at_r3, at_r4, at_r5, at_r6, at_r7, at_r8, at_r9, at_r10, at_r11, at_r12, at_r13, at_r14, at_r15, at_r16, at_r17, at_r18, at_r19, at_r20, at_r21, at_r22, at_r23, at_r24, at_r25, at_r26, at_r27, at_r28, at_r29, at_r30, at_p15, at_p16, at_comes, at_happ, at_put (show (5 : Nat) ≠ 0 ∨ _ from Or.inl (by decide))]
  refine P_istore_n (L' := [(3, vi _), (0, vr 0), (1, vi _), (2, vi _)]) (pc := 14) dX6_number_14 rfl (by decide) rfl ?_
  refine P_iload_n (pc := 15) dX6_number_15 rfl 0 rfl ?_
  refine P_if_le (tgt := 45) (pc := 16) dX6_number_16 (by decide) (by first | assumption | (unfold InR; omega)) (fun c_16 => ?_) (fun c_16 => ?_)
  · refine P_iload_n (pc := 45) dX6_number_45 rfl 0 rfl ?_
    refine P_iload_n (pc := 46) dX6_number_46 rfl 2 rfl ?_
    refine P_iload_n (pc := 47) dX6_number_47 rfl 3 rfl ?_
    refine P_callSi (Y' := mX6_isIn) (as := [_, _, _]) (pc := 48) dX6_number_48 rfl (by decide : 0 < 2) ml_RX6_105 sm_X6_isIn mk_X6_isIn (Nat.le_of_ble_eq_true rfl) (c_X6_isIn (by unfold InR; omega) (by unfold InR; omega) (by unfold InR; omega)) (fun z_ μ_ hq => ?_)
    obtain ⟨hzz, hμ_⟩ := hq
    subst hμ_
    first | rw [if_pos (by omega)] at hs4 | rw [if_neg (by omega)] at hs4
    have hzz : z_ = 0 ∧ ¬ (lo ≤ (nuR (μ.1 12) (μ.1 0 14) a).1 ∧ (nuR (μ.1 12) (μ.1 0 14) a).1 ≤ hi) ∨ z_ = 1 ∧ (lo ≤ (nuR (μ.1 12) (μ.1 0 14) a).1 ∧ (nuR (μ.1 12) (μ.1 0 14) a).1 ≤ hi) := by rw [hzz, hs4]; split <;> (try dsimp only) <;> omega
    try simp only [at_15, at_16, at_11, at_12, at_14, at_30, at_37, at_40, at_r1, at_r2, at_r3, at_r4, at_r5, at_r6, at_r7, at_r8, at_r9, at_r10, at_r11, at_r12, at_r13, at_r14, at_r15, at_r16, at_r17, at_r18, at_r19, at_r20, at_r21, at_r22, at_r23, at_r24, at_r25, at_r26, at_r27, at_r28, at_r29, at_r30, at_p15, at_p16, at_comes, at_happ, at_put (show (5 : Nat) ≠ 0 ∨ _ from Or.inl (by decide))]
    refine P_if_eq (tgt := 56) (pc := 51) dX6_number_51 (by decide) (by first | assumption | (unfold InR; omega)) (fun c_51 => ?_) (fun c_51 => ?_)
    · refine P_aload_n (pc := 56) dX6_number_56 rfl 1 rfl ?_
      refine P_aload_n (pc := 57) dX6_number_57 rfl 1 rfl ?_
      refine P_getI (jj := 16) (pc := 58) dX6_number_58 fa_RX6_151 sM_0 fM0_16 rfl ?_
      try simp only [at_15, at_16, at_11, at_12, at_14, at_30, at_37, at_40, at_r1, at_r2, at_r3, at_r4, at_r5, at_r6, at_r7, at_r8, at_r9, at_r10, at_r11, at_r12, at_r13, at_r14, at_r15, at_r16, at_r17, at_r18, at_r19, at_r20, at_r21, at_r22, at_r23, at_r24, at_r25, at_r26, at_r27, at_r28, at_r29, at_r30, at_p15, at_p16, at_comes, at_happ, at_put (show (5 : Nat) ≠ 0 ∨ _ from Or.inl (by decide))]
      refine P_putI (jj := 15) (pc := 61) dX6_number_61 fa_RX6_144 fp_6_15 sM_0 fM0_15 rfl ?_
      try simp only [at_15, at_16, at_11, at_12, at_14, at_30, at_37, at_40, at_r1, at_r2, at_r3, at_r4, at_r5, at_r6, at_r7, at_r8, at_r9, at_r10, at_r11, at_r12, at_r13, at_r14, at_r15, at_r16, at_r17, at_r18, at_r19, at_r20, at_r21, at_r22, at_r23, at_r24, at_r25, at_r26, at_r27, at_r28, at_r29, at_r30, at_p15, at_p16, at_comes, at_happ, at_put (show (5 : Nat) ≠ 0 ∨ _ from Or.inl (by decide))]
      refine P_iconst (pc := 64) dX6_number_64 ?_
      exact P_iret (pc := 65) dX6_number_65 rfl (QI.mk (by first | (rw [if_pos (by omega)] at hs2; refine ⟨by rw [hs2, hs4], by rw [hs2, hs4], hs⟩) | (rw [if_neg (by omega)] at hs2; refine ⟨by rw [hs2], by rw [hs2], hs⟩)))
    · refine P_iload_n (pc := 54) dX6_number_54 rfl 0 rfl ?_
      exact P_iret (pc := 55) dX6_number_55 rfl (QI.mk (by first | (rw [if_pos (by omega)] at hs2; refine ⟨by rw [hs2, hs4], by rw [hs2, hs4], hs⟩) | (rw [if_neg (by omega)] at hs2; refine ⟨by rw [hs2], by rw [hs2], hs⟩)))
  · refine P_aload_n (pc := 19) dX6_number_19 rfl 1 rfl ?_
    refine P_callVi (Y' := mX6_sign) (as := []) (pc := 20) dX6_number_20 rfl (by decide : 0 < 2) sM_0 rfl ml_RX6_147 im_X6_sign se_X6_sign mk_X6_sign (Nat.le_of_ble_eq_true rfl) (c_X6_sign hT (by omega)) (fun z_ μ_ hq => ?_)
    obtain ⟨rfl, hμ_, hi_⟩ := hq
    subst hμ_
    try simp only [at_15, at_16, at_11, at_12, at_14, at_30, at_37, at_40, at_r1, at_r2, at_r3, at_r4, at_r5, at_r6, at_r7, at_r8, at_r9, at_r10, at_r11, at_r12, at_r13, at_r14, at_r15, at_r16, at_r17, at_r18, at_r19, at_r20, at_r21, at_r22, at_r23, at_r24, at_r25, at_r26, at_r27, at_r28, at_r29, at_r30, at_p15, at_p16, at_comes, at_happ, at_put (show (5 : Nat) ≠ 0 ∨ _ from Or.inl (by decide))]
    refine P_bipush (pc := 23) dX6_number_23 (by decide) ?_
    refine P_bipush (pc := 25) dX6_number_25 (by decide) ?_
    refine P_callSi (Y' := mX6_isIn) (as := [_, _, _]) (pc := 27) dX6_number_27 rfl (by decide : 0 < 2) ml_RX6_105 sm_X6_isIn mk_X6_isIn (Nat.le_of_ble_eq_true rfl) (c_X6_isIn (by unfold InR; omega) (by unfold InR; omega) (by unfold InR; omega)) (fun z_ μ_ hq => ?_)
    obtain ⟨hz, hμ_⟩ := hq
    subst hμ_
    have hz : z_ = 0 ∧ ¬ (48 ≤ sgn (μ.1 12) (μ.1 0 14) (dgR (μ.1 12) (μ.1 0 14) 9 a).2 ∧ sgn (μ.1 12) (μ.1 0 14) (dgR (μ.1 12) (μ.1 0 14) 9 a).2 ≤ 57) ∨ z_ = 1 ∧ (48 ≤ sgn (μ.1 12) (μ.1 0 14) (dgR (μ.1 12) (μ.1 0 14) 9 a).2 ∧ sgn (μ.1 12) (μ.1 0 14) (dgR (μ.1 12) (μ.1 0 14) 9 a).2 ≤ 57) := by rw [hz]; split <;> omega
    try simp only [at_15, at_16, at_11, at_12, at_14, at_30, at_37, at_40, at_r1, at_r2, at_r3, at_r4, at_r5, at_r6, at_r7, at_r8, at_r9, at_r10, at_r11, at_r12, at_r13, at_r14, at_r15, at_r16, at_r17, at_r18, at_r19, at_r20, at_r21, at_r22, at_r23, at_r24, at_r25, at_r26, at_r27, at_r28, at_r29, at_r30, at_p15, at_p16, at_comes, at_happ, at_put (show (5 : Nat) ≠ 0 ∨ _ from Or.inl (by decide))]
    refine P_if_eq (tgt := 45) (pc := 30) dX6_number_30 (by decide) (by first | assumption | (unfold InR; omega)) (fun c_30 => ?_) (fun c_30 => ?_)
    · refine P_iload_n (pc := 45) dX6_number_45 rfl 0 rfl ?_
      refine P_iload_n (pc := 46) dX6_number_46 rfl 2 rfl ?_
      refine P_iload_n (pc := 47) dX6_number_47 rfl 3 rfl ?_
      refine P_callSi (Y' := mX6_isIn) (as := [_, _, _]) (pc := 48) dX6_number_48 rfl (by decide : 0 < 2) ml_RX6_105 sm_X6_isIn mk_X6_isIn (Nat.le_of_ble_eq_true rfl) (c_X6_isIn (by unfold InR; omega) (by unfold InR; omega) (by unfold InR; omega)) (fun z_ μ_ hq => ?_)
      obtain ⟨hzz, hμ_⟩ := hq
      subst hμ_
      first | rw [if_pos (by omega)] at hs4 | rw [if_neg (by omega)] at hs4
      have hzz : z_ = 0 ∧ ¬ (lo ≤ (nuR (μ.1 12) (μ.1 0 14) a).1 ∧ (nuR (μ.1 12) (μ.1 0 14) a).1 ≤ hi) ∨ z_ = 1 ∧ (lo ≤ (nuR (μ.1 12) (μ.1 0 14) a).1 ∧ (nuR (μ.1 12) (μ.1 0 14) a).1 ≤ hi) := by rw [hzz, hs4]; split <;> (try dsimp only) <;> omega
      try simp only [at_15, at_16, at_11, at_12, at_14, at_30, at_37, at_40, at_r1, at_r2, at_r3, at_r4, at_r5, at_r6, at_r7, at_r8, at_r9, at_r10, at_r11, at_r12, at_r13, at_r14, at_r15, at_r16, at_r17, at_r18, at_r19, at_r20, at_r21, at_r22, at_r23, at_r24, at_r25, at_r26, at_r27, at_r28, at_r29, at_r30, at_p15, at_p16, at_comes, at_happ, at_put (show (5 : Nat) ≠ 0 ∨ _ from Or.inl (by decide))]
      refine P_if_eq (tgt := 56) (pc := 51) dX6_number_51 (by decide) (by first | assumption | (unfold InR; omega)) (fun c_51 => ?_) (fun c_51 => ?_)
      · refine P_aload_n (pc := 56) dX6_number_56 rfl 1 rfl ?_
        refine P_aload_n (pc := 57) dX6_number_57 rfl 1 rfl ?_
        refine P_getI (jj := 16) (pc := 58) dX6_number_58 fa_RX6_151 sM_0 fM0_16 rfl ?_
        try simp only [at_15, at_16, at_11, at_12, at_14, at_30, at_37, at_40, at_r1, at_r2, at_r3, at_r4, at_r5, at_r6, at_r7, at_r8, at_r9, at_r10, at_r11, at_r12, at_r13, at_r14, at_r15, at_r16, at_r17, at_r18, at_r19, at_r20, at_r21, at_r22, at_r23, at_r24, at_r25, at_r26, at_r27, at_r28, at_r29, at_r30, at_p15, at_p16, at_comes, at_happ, at_put (show (5 : Nat) ≠ 0 ∨ _ from Or.inl (by decide))]
        refine P_putI (jj := 15) (pc := 61) dX6_number_61 fa_RX6_144 fp_6_15 sM_0 fM0_15 rfl ?_
        try simp only [at_15, at_16, at_11, at_12, at_14, at_30, at_37, at_40, at_r1, at_r2, at_r3, at_r4, at_r5, at_r6, at_r7, at_r8, at_r9, at_r10, at_r11, at_r12, at_r13, at_r14, at_r15, at_r16, at_r17, at_r18, at_r19, at_r20, at_r21, at_r22, at_r23, at_r24, at_r25, at_r26, at_r27, at_r28, at_r29, at_r30, at_p15, at_p16, at_comes, at_happ, at_put (show (5 : Nat) ≠ 0 ∨ _ from Or.inl (by decide))]
        refine P_iconst (pc := 64) dX6_number_64 ?_
        exact P_iret (pc := 65) dX6_number_65 rfl (QI.mk (by first | (rw [if_pos (by omega)] at hs2; refine ⟨by rw [hs2, hs4], by rw [hs2, hs4], hs⟩) | (rw [if_neg (by omega)] at hs2; refine ⟨by rw [hs2], by rw [hs2], hs⟩)))
      · refine P_iload_n (pc := 54) dX6_number_54 rfl 0 rfl ?_
        exact P_iret (pc := 55) dX6_number_55 rfl (QI.mk (by first | (rw [if_pos (by omega)] at hs2; refine ⟨by rw [hs2, hs4], by rw [hs2, hs4], hs⟩) | (rw [if_neg (by omega)] at hs2; refine ⟨by rw [hs2], by rw [hs2], hs⟩)))
    · refine P_bipush (pc := 33) dX6_number_33 (by decide) ?_
      refine P_iload_n (pc := 35) dX6_number_35 rfl 0 rfl ?_
      refine P_imul (pc := 36) dX6_number_36 ?_
      refine P_aload_n (pc := 37) dX6_number_37 rfl 1 rfl ?_
      refine P_bipush (pc := 38) dX6_number_38 (by decide) ?_
      refine P_callVi (Y' := mX6_digit) (as := [_]) (pc := 40) dX6_number_40 rfl (by decide : 1 < 2) sM_0 rfl ml_RX6_154 im_X6_digit se_X6_digit mk_X6_digit (Nat.le_of_ble_eq_true rfl) (c_X6_digit hT (by omega) (by omega)) (fun z_ μ_ hq => ?_)
      obtain ⟨rfl, hμ_, hi_⟩ := hq
      subst hμ_
      try simp only [at_15, at_16, at_11, at_12, at_14, at_30, at_37, at_40, at_r1, at_r2, at_r3, at_r4, at_r5, at_r6, at_r7, at_r8, at_r9, at_r10, at_r11, at_r12, at_r13, at_r14, at_r15, at_r16, at_r17, at_r18, at_r19, at_r20, at_r21, at_r22, at_r23, at_r24, at_r25, at_r26, at_r27, at_r28, at_r29, at_r30, at_p15, at_p16, at_comes, at_happ, at_put (show (5 : Nat) ≠ 0 ∨ _ from Or.inl (by decide))]
      refine P_iadd (pc := 43) dX6_number_43 ?_
      refine P_istore_n (L' := [(3, vi _), (0, vr 0), (1, vi _), (2, vi _)]) (pc := 44) dX6_number_44 rfl (by decide) rfl ?_
      refine P_iload_n (pc := 45) dX6_number_45 rfl 0 rfl ?_
      refine P_iload_n (pc := 46) dX6_number_46 rfl 2 rfl ?_
      refine P_iload_n (pc := 47) dX6_number_47 rfl 3 rfl ?_
      refine P_callSi (Y' := mX6_isIn) (as := [_, _, _]) (pc := 48) dX6_number_48 rfl (by decide : 0 < 2) ml_RX6_105 sm_X6_isIn mk_X6_isIn (Nat.le_of_ble_eq_true rfl) (c_X6_isIn (by unfold InR; omega) (by unfold InR; omega) (by unfold InR; omega)) (fun z_ μ_ hq => ?_)
      obtain ⟨hzz, hμ_⟩ := hq
      subst hμ_
      first | rw [if_pos (by omega)] at hs4 | rw [if_neg (by omega)] at hs4
      have hzz : z_ = 0 ∧ ¬ (lo ≤ (nuR (μ.1 12) (μ.1 0 14) a).1 ∧ (nuR (μ.1 12) (μ.1 0 14) a).1 ≤ hi) ∨ z_ = 1 ∧ (lo ≤ (nuR (μ.1 12) (μ.1 0 14) a).1 ∧ (nuR (μ.1 12) (μ.1 0 14) a).1 ≤ hi) := by rw [hzz, hs4]; split <;> (try dsimp only) <;> omega
      try simp only [at_15, at_16, at_11, at_12, at_14, at_30, at_37, at_40, at_r1, at_r2, at_r3, at_r4, at_r5, at_r6, at_r7, at_r8, at_r9, at_r10, at_r11, at_r12, at_r13, at_r14, at_r15, at_r16, at_r17, at_r18, at_r19, at_r20, at_r21, at_r22, at_r23, at_r24, at_r25, at_r26, at_r27, at_r28, at_r29, at_r30, at_p15, at_p16, at_comes, at_happ, at_put (show (5 : Nat) ≠ 0 ∨ _ from Or.inl (by decide))]
      refine P_if_eq (tgt := 56) (pc := 51) dX6_number_51 (by decide) (by first | assumption | (unfold InR; omega)) (fun c_51 => ?_) (fun c_51 => ?_)
      · refine P_aload_n (pc := 56) dX6_number_56 rfl 1 rfl ?_
        refine P_aload_n (pc := 57) dX6_number_57 rfl 1 rfl ?_
        refine P_getI (jj := 16) (pc := 58) dX6_number_58 fa_RX6_151 sM_0 fM0_16 rfl ?_
        try simp only [at_15, at_16, at_11, at_12, at_14, at_30, at_37, at_40, at_r1, at_r2, at_r3, at_r4, at_r5, at_r6, at_r7, at_r8, at_r9, at_r10, at_r11, at_r12, at_r13, at_r14, at_r15, at_r16, at_r17, at_r18, at_r19, at_r20, at_r21, at_r22, at_r23, at_r24, at_r25, at_r26, at_r27, at_r28, at_r29, at_r30, at_p15, at_p16, at_comes, at_happ, at_put (show (5 : Nat) ≠ 0 ∨ _ from Or.inl (by decide))]
        refine P_putI (jj := 15) (pc := 61) dX6_number_61 fa_RX6_144 fp_6_15 sM_0 fM0_15 rfl ?_
        try simp only [at_15, at_16, at_11, at_12, at_14, at_30, at_37, at_40, at_r1, at_r2, at_r3, at_r4, at_r5, at_r6, at_r7, at_r8, at_r9, at_r10, at_r11, at_r12, at_r13, at_r14, at_r15, at_r16, at_r17, at_r18, at_r19, at_r20, at_r21, at_r22, at_r23, at_r24, at_r25, at_r26, at_r27, at_r28, at_r29, at_r30, at_p15, at_p16, at_comes, at_happ, at_put (show (5 : Nat) ≠ 0 ∨ _ from Or.inl (by decide))]
        refine P_iconst (pc := 64) dX6_number_64 ?_
        exact P_iret (pc := 65) dX6_number_65 rfl (QI.mk (by first | (rw [if_pos (by omega)] at hs2; refine ⟨by rw [hs2, hs4], by rw [hs2, hs4], hs⟩) | (rw [if_neg (by omega)] at hs2; refine ⟨by rw [hs2], by rw [hs2], hs⟩)))
      · refine P_iload_n (pc := 54) dX6_number_54 rfl 0 rfl ?_
        exact P_iret (pc := 55) dX6_number_55 rfl (QI.mk (by first | (rw [if_pos (by omega)] at hs2; refine ⟨by rw [hs2, hs4], by rw [hs2, hs4], hs⟩) | (rw [if_neg (by omega)] at hs2; refine ⟨by rw [hs2], by rw [hs2], hs⟩)))
