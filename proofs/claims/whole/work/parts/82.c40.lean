/-! THE RELATION of the class's memory μ and the model's ν between calls -/
def KP (ν : Mem) : Prop := KOK (kd ν.1) ∧ KNE (kd ν.1) ∧ ∀ j, ν.1 4 j = 0 ∨ ν.1 4 j = 1
def SRr (ν μ : Mem) : Prop := μ.1 1 9 = ν.1 0 37 ∧ ∀ i, μ.1 15 (i * 3) = ν.1 25 i ∧ μ.1 15 (i * 3 + 1) = ν.1 26 i ∧ μ.1 15 (i * 3 + 2) = ν.1 27 i
/-- the store and the model's data -/
def BR (μ ν : Mem) : Prop := KP ν ∧ FOK ν.1 ∧ SOK ν.1 ∧ KR (kd ν.1) μ ∧ HH (kd ν.1) μ ∧ FR ν.1 μ ∧ SRr ν μ
def BRC (μ μ' : Mem) : Prop := (∀ j, 6 ≤ j → j ≤ 11 → μ'.1 1 j = μ.1 1 j) ∧ ∀ q, 10 ≤ q → q ≤ 15 → μ'.1 q = μ.1 q
def BRM (ν ν' : Mem) : Prop := kd ν'.1 = kd ν.1 ∧ (ν'.1 0 11 = ν.1 0 11 ∧ ν'.1 0 30 = ν.1 0 30 ∧ ν'.1 0 37 = ν.1 0 37) ∧ ν'.1 4 = ν.1 4 ∧ (ν'.1 20 = ν.1 20 ∧ ν'.1 21 = ν.1 21 ∧ ν'.1 22 = ν.1 22) ∧ ν'.1 25 = ν.1 25 ∧ ν'.1 26 = ν.1 26 ∧ ν'.1 27 = ν.1 27
theorem BRC_rf {μ : Mem} : BRC μ μ := ⟨fun _ _ _ => rfl, fun _ _ _ => rfl⟩
theorem BRM_rf {ν : Mem} : BRM ν ν := ⟨rfl, ⟨rfl, rfl, rfl⟩, rfl, ⟨rfl, rfl, rfl⟩, rfl, rfl, rfl⟩
theorem BR_cg {μ μ' ν ν' : Mem} (h : BR μ ν) (c : BRC μ μ') (m : BRM ν ν') : BR μ' ν' := by
  obtain ⟨⟨k1, k2, k3⟩, f, s, r, hh, fr, sr⟩ := h
  obtain ⟨m1, ⟨m2, m3, m4⟩, m5, ⟨m6, m7, m8⟩, m9, m10, m11⟩ := m
  obtain ⟨c1, c2⟩ := c
  refine ⟨⟨by rw [m1]; exact k1, by rw [m1]; exact k2, by rw [m5]; exact k3⟩, ?_, ?_, ?_, ?_, ?_, ?_⟩
  · unfold FOK at f ⊢
    rw [m2, m3, m6, m7, m8]
    exact f
  · unfold SOK at s ⊢
    rw [m2, m4, m9, m10, m11]
    exact s
  · unfold KR at r ⊢
    rw [m1, c1 6 (by decide) (by decide), c1 7 (by decide) (by decide), c1 10 (by decide) (by decide), c2 10 (by decide) (by decide), c2 11 (by decide) (by decide), c2 12 (by decide) (by decide), c2 13 (by decide) (by decide)]
    exact r
  · unfold HH at hh ⊢
    rw [m1, c1 11 (by decide) (by decide)]
    exact hh
  · unfold FR at fr ⊢
    rw [m3, m6, m7, m8, c1 8 (by decide) (by decide), c2 14 (by decide) (by decide)]
    exact fr
  · unfold SRr at sr ⊢
    rw [m4, m9, m10, m11, c1 9 (by decide) (by decide), c2 15 (by decide) (by decide)]
    exact sr
/-- the model's data that count are the same -/
def EM (ν ν' : Mem) : Prop := (∀ q, (1 ≤ q ∧ q ≤ 12) ∨ (20 ≤ q ∧ q ≤ 22) ∨ (25 ≤ q ∧ q ≤ 27) ∨ q = 30 → ν'.1 q = ν.1 q) ∧ ∀ j : Int, j = 11 ∨ j = 12 ∨ j = 14 ∨ j = 30 ∨ j = 37 ∨ j = 40 → ν'.1 0 j = ν.1 0 j
theorem EM_kd {ν ν' : Mem} (h : EM ν ν') : kd ν'.1 = kd ν.1 := by
  funext q
  unfold kd
  by_cases h0 : q = 0
  · subst h0
    simp only [if_true, h.2 11 (by decide), h.2 12 (by decide)]
  · by_cases h2 : 2 ≤ q ∧ q ≤ 11
    · simp only [if_neg h0, if_pos h2, h.1 q (by omega)]
    · simp only [if_neg h0, if_neg h2]
theorem EM_BRM {ν ν' : Mem} (h : EM ν ν') : BRM ν ν' := ⟨EM_kd h, ⟨h.2 11 (by decide), h.2 30 (by decide), h.2 37 (by decide)⟩, h.1 4 (by decide), ⟨h.1 20 (by decide), h.1 21 (by decide), h.1 22 (by decide)⟩, h.1 25 (by decide), h.1 26 (by decide), h.1 27 (by decide)⟩
theorem PMT_EM {ν ν' : Mem} (h : PMT ν ν') : EM ν ν' := ⟨fun q hq => h.cell q (by omega), fun j hj => h.num j (by omega)⟩
/-- the model's image put back, the class's -/
def bk (ν : Mem) : Mem := backAll (putI ν 0 41 0)
theorem bk_2 {ν : Mem} : (bk ν).1 2 = rsF (ν.1 30) 0 12 (ν.1 2) := backAll_2.trans (by rw [putI_ne (by decide), putI_ne (by decide)])
theorem bk_3 {ν : Mem} : (bk ν).1 3 = rsF (ν.1 30) 12 12 (ν.1 3) := backAll_3.trans (by rw [putI_ne (by decide), putI_ne (by decide)])
theorem bk_4 {ν : Mem} : (bk ν).1 4 = rsF (ν.1 30) 24 12 (ν.1 4) := backAll_4.trans (by rw [putI_ne (by decide), putI_ne (by decide)])
theorem bk_5 {ν : Mem} : (bk ν).1 5 = rsF (ν.1 30) 36 12 (ν.1 5) := backAll_5.trans (by rw [putI_ne (by decide), putI_ne (by decide)])
theorem bk_6 {ν : Mem} : (bk ν).1 6 = rsF (ν.1 30) 48 3 (ν.1 6) := backAll_6.trans (by rw [putI_ne (by decide), putI_ne (by decide)])
theorem bk_7 {ν : Mem} : (bk ν).1 7 = rsF (ν.1 30) 51 60 (ν.1 7) := backAll_7.trans (by rw [putI_ne (by decide), putI_ne (by decide)])
theorem bk_8 {ν : Mem} : (bk ν).1 8 = rsF (ν.1 30) 111 60 (ν.1 8) := backAll_8.trans (by rw [putI_ne (by decide), putI_ne (by decide)])
theorem bk_9 {ν : Mem} : (bk ν).1 9 = rsF (ν.1 30) 171 60 (ν.1 9) := backAll_9.trans (by rw [putI_ne (by decide), putI_ne (by decide)])
theorem bk_10 {ν : Mem} : (bk ν).1 10 = rsF (ν.1 30) 231 60 (ν.1 10) := backAll_10.trans (by rw [putI_ne (by decide), putI_ne (by decide)])
theorem bk_11 {ν : Mem} : (bk ν).1 11 = rsF (ν.1 30) 291 60 (ν.1 11) := backAll_11.trans (by rw [putI_ne (by decide), putI_ne (by decide)])
theorem bk_20 {ν : Mem} : (bk ν).1 20 = rsF (ν.1 30) 351 12 (ν.1 20) := backAll_20.trans (by rw [putI_ne (by decide), putI_ne (by decide)])
theorem bk_21 {ν : Mem} : (bk ν).1 21 = rsF (ν.1 30) 363 12 (ν.1 21) := backAll_21.trans (by rw [putI_ne (by decide), putI_ne (by decide)])
theorem bk_22 {ν : Mem} : (bk ν).1 22 = rsF (ν.1 30) 375 12 (ν.1 22) := backAll_22.trans (by rw [putI_ne (by decide), putI_ne (by decide)])
theorem bk_25 {ν : Mem} : (bk ν).1 25 = rsF (ν.1 30) 387 5 (ν.1 25) := backAll_25.trans (by rw [putI_ne (by decide), putI_ne (by decide)])
theorem bk_26 {ν : Mem} : (bk ν).1 26 = rsF (ν.1 30) 392 5 (ν.1 26) := backAll_26.trans (by rw [putI_ne (by decide), putI_ne (by decide)])
theorem bk_27 {ν : Mem} : (bk ν).1 27 = rsF (ν.1 30) 397 5 (ν.1 27) := backAll_27.trans (by rw [putI_ne (by decide), putI_ne (by decide)])
theorem bk_0_11 {ν : Mem} : (bk ν).1 0 11 = ν.1 30 402 := backAll_0_11.trans (by rw [putI_ne (by decide)])
theorem bk_0_12 {ν : Mem} : (bk ν).1 0 12 = ν.1 30 403 := backAll_0_12.trans (by rw [putI_ne (by decide)])
theorem bk_0_30 {ν : Mem} : (bk ν).1 0 30 = ν.1 30 404 := backAll_0_30.trans (by rw [putI_ne (by decide)])
theorem bk_0_37 {ν : Mem} : (bk ν).1 0 37 = ν.1 30 405 := backAll_0_37.trans (by rw [putI_ne (by decide)])
theorem cc_10 {μ : Mem} : (cCopy1 μ).1 10 = cpF 12 (μ.1 16) (μ.1 10) := by
  unfold cCopy1
  simp (disch := decide) only [putI_ne, rowI_ne, rowI_q]
theorem cc_11 {μ : Mem} : (cCopy1 μ).1 11 = cpF 12 (μ.1 17) (μ.1 11) := by
  unfold cCopy1
  simp (disch := decide) only [putI_ne, rowI_ne, rowI_q]
theorem cc_12 {μ : Mem} : (cCopy1 μ).1 12 = cpF 3 (μ.1 18) (μ.1 12) := by
  unfold cCopy1
  simp (disch := decide) only [putI_ne, rowI_ne, rowI_q]
theorem cc_13 {μ : Mem} : (cCopy1 μ).1 13 = cpF 300 (μ.1 19) (μ.1 13) := by
  unfold cCopy1
  simp (disch := decide) only [putI_ne, rowI_ne, rowI_q]
theorem cc_14 {μ : Mem} : (cCopy1 μ).1 14 = cpF 36 (μ.1 20) (μ.1 14) := by
  unfold cCopy1
  simp (disch := decide) only [putI_ne, rowI_ne, rowI_q]
theorem cc_15 {μ : Mem} : (cCopy1 μ).1 15 = cpF 15 (μ.1 21) (μ.1 15) := by
  unfold cCopy1
  simp (disch := decide) only [putI_ne, rowI_ne, rowI_q]
theorem cc_1 {μ : Mem} {j : Int} (h : 6 ≤ j ∧ j ≤ 11) : (cCopy1 μ).1 1 j = μ.1 2 j := by
  rcases (show j = 6 ∨ j = 7 ∨ j = 8 ∨ j = 9 ∨ j = 10 ∨ j = 11 by omega) with rfl | rfl | rfl | rfl | rfl | rfl <;> (unfold cCopy1; simp [putI_i, rowI])
/-- the image -/
def IMG (μ ν : Mem) : Prop := BR (cCopy1 μ) (bk ν)
theorem EM_bk {ν ν' : Mem} (h : EM ν ν') : EM (bk ν) (bk ν') := by
  refine ⟨fun q hq => ?_, fun j hj => ?_⟩
  · rcases (show q = 1 ∨ q = 2 ∨ q = 3 ∨ q = 4 ∨ q = 5 ∨ q = 6 ∨ q = 7 ∨ q = 8 ∨ q = 9 ∨ q = 10 ∨ q = 11 ∨ q = 12 ∨ q = 20 ∨ q = 21 ∨ q = 22 ∨ q = 25 ∨ q = 26 ∨ q = 27 ∨ q = 30 by omega) with rfl | rfl | rfl | rfl | rfl | rfl | rfl | rfl | rfl | rfl | rfl | rfl | rfl | rfl | rfl | rfl | rfl | rfl | rfl
    · exact (backAll_q (by decide) (by decide)).trans ((putI_ne (by decide)).trans ((h.1 1 (by decide)).trans ((putI_ne (by decide)).symm.trans (backAll_q (by decide) (by decide)).symm)))
    · rw [bk_2, bk_2, h.1 2 (by decide), h.1 30 (by decide)]
    · rw [bk_3, bk_3, h.1 3 (by decide), h.1 30 (by decide)]
    · rw [bk_4, bk_4, h.1 4 (by decide), h.1 30 (by decide)]
    · rw [bk_5, bk_5, h.1 5 (by decide), h.1 30 (by decide)]
    · rw [bk_6, bk_6, h.1 6 (by decide), h.1 30 (by decide)]
    · rw [bk_7, bk_7, h.1 7 (by decide), h.1 30 (by decide)]
    · rw [bk_8, bk_8, h.1 8 (by decide), h.1 30 (by decide)]
    · rw [bk_9, bk_9, h.1 9 (by decide), h.1 30 (by decide)]
    · rw [bk_10, bk_10, h.1 10 (by decide), h.1 30 (by decide)]
    · rw [bk_11, bk_11, h.1 11 (by decide), h.1 30 (by decide)]
    · exact (backAll_q (by decide) (by decide)).trans ((putI_ne (by decide)).trans ((h.1 12 (by decide)).trans ((putI_ne (by decide)).symm.trans (backAll_q (by decide) (by decide)).symm)))
    · rw [bk_20, bk_20, h.1 20 (by decide), h.1 30 (by decide)]
    · rw [bk_21, bk_21, h.1 21 (by decide), h.1 30 (by decide)]
    · rw [bk_22, bk_22, h.1 22 (by decide), h.1 30 (by decide)]
    · rw [bk_25, bk_25, h.1 25 (by decide), h.1 30 (by decide)]
    · rw [bk_26, bk_26, h.1 26 (by decide), h.1 30 (by decide)]
    · rw [bk_27, bk_27, h.1 27 (by decide), h.1 30 (by decide)]
    · exact backAll_30.trans ((putI_ne (by decide)).trans ((h.1 30 (by decide)).trans ((putI_ne (by decide)).symm.trans backAll_30.symm)))
  · rcases hj with rfl | rfl | rfl | rfl | rfl | rfl
    · rw [bk_0_11, bk_0_11, h.1 30 (by decide)]
    · rw [bk_0_12, bk_0_12, h.1 30 (by decide)]
    · exact (backAll_0 (by decide) (by decide) (by decide) (by decide) (by decide)).trans (by rw [putI_i, if_neg (by decide), h.2 14 (by decide)]; exact ((backAll_0 (by decide) (by decide) (by decide) (by decide) (by decide)).trans (by rw [putI_i, if_neg (by decide)])).symm)
    · rw [bk_0_30, bk_0_30, h.1 30 (by decide)]
    · rw [bk_0_37, bk_0_37, h.1 30 (by decide)]
    · exact (backAll_0 (by decide) (by decide) (by decide) (by decide) (by decide)).trans (by rw [putI_i, if_neg (by decide), h.2 40 (by decide)]; exact ((backAll_0 (by decide) (by decide) (by decide) (by decide) (by decide)).trans (by rw [putI_i, if_neg (by decide)])).symm)
/-- the class's kept store is the same, and its store's rows -/
def EC (μ μ' : Mem) : Prop := (∀ j, 6 ≤ j → j ≤ 11 → μ'.1 2 j = μ.1 2 j) ∧ ∀ q, 10 ≤ q → q ≤ 21 → μ'.1 q = μ.1 q
theorem EC_cc {μ μ' : Mem} (h : EC μ μ') : BRC (cCopy1 μ) (cCopy1 μ') := by
  refine ⟨fun j a c => by rw [cc_1 ⟨a, c⟩, cc_1 ⟨a, c⟩, h.1 j a c], fun q a c => ?_⟩
  rcases (show q = 10 ∨ q = 11 ∨ q = 12 ∨ q = 13 ∨ q = 14 ∨ q = 15 by omega) with rfl | rfl | rfl | rfl | rfl | rfl
  · rw [cc_10, cc_10, h.2 10 (by decide) (by decide), h.2 16 (by decide) (by decide)]
  · rw [cc_11, cc_11, h.2 11 (by decide) (by decide), h.2 17 (by decide) (by decide)]
  · rw [cc_12, cc_12, h.2 12 (by decide) (by decide), h.2 18 (by decide) (by decide)]
  · rw [cc_13, cc_13, h.2 13 (by decide) (by decide), h.2 19 (by decide) (by decide)]
  · rw [cc_14, cc_14, h.2 14 (by decide) (by decide), h.2 20 (by decide) (by decide)]
  · rw [cc_15, cc_15, h.2 15 (by decide) (by decide), h.2 21 (by decide) (by decide)]
/-- a story, between calls -/
def STI (K : Cel) (μ : Mem) (b : Nat) : Prop := μ.1 (3 + b) 1 = 6 * (b : Int) ∧ (μ.1 (3 + b) 10 = 0 ∨ μ.1 (3 + b) 10 = 1) ∧ (-1 ≤ μ.1 (3 + b) 9 ∧ μ.1 (3 + b) 9 ≤ μ.1 1 12) ∧ (μ.1 (3 + b) 9 = μ.1 1 12 → SI K μ b)
def TXI (μ ν : Mem) : Prop := TL (ν.1 12) (ν.1 0 14) ∧ μ.1 37 = ν.1 12 ∧ μ.1 8 2 = ν.1 0 14
def RFI (μ ν : Mem) : Prop := ∀ j, 1 ≤ j → j ≤ 6 → μ.1 9 j = ν.1 1 j
def IMI (μ ν : Mem) : Prop := (ν.1 0 40 = 0 ∨ ν.1 0 40 = 1) ∧ μ.1 0 9 = ν.1 0 40 ∧ (ν.1 0 40 = 1 → IMG μ ν)
def RLN (n : Int) (μ ν : Mem) : Prop := BR μ ν ∧ TXI μ ν ∧ RFI μ ν ∧ IMI μ ν ∧ (STI (kd ν.1) μ 0 ∧ STI (kd ν.1) μ 1) ∧ (0 ≤ μ.1 1 12 ∧ μ.1 1 12 ≤ n)
theorem RL_sti {n : Int} {μ ν : Mem} {b : Nat} (h : RLN n μ ν) (hb : b < 2) : STI (kd ν.1) μ b := by
  rcases (show b = 0 ∨ b = 1 by omega) with rfl | rfl
  · exact h.2.2.2.2.1.1
  · exact h.2.2.2.2.1.2
theorem RL_em {n : Int} {μ ν ν' : Mem} (h : RLN n μ ν) (e : EM ν ν') : RLN n μ ν' := by
  obtain ⟨h1, h2, h3, h4, h5, h6⟩ := h
  refine ⟨BR_cg h1 BRC_rf (EM_BRM e), ?_, ?_, ?_, ?_, h6⟩
  · unfold TXI at h2 ⊢
    rw [e.1 12 (by decide), e.2 14 (by decide)]
    exact h2
  · unfold RFI at h3 ⊢
    rw [e.1 1 (by decide)]
    exact h3
  · obtain ⟨i1, i2, i3⟩ := h4
    unfold IMI
    rw [e.2 40 (by decide)]
    exact ⟨i1, i2, fun z => BR_cg (i3 z) BRC_rf (EM_BRM (EM_bk e))⟩
  · rw [EM_kd e]; exact h5
theorem RL_pmt {n : Int} {μ ν ν' : Mem} (h : RLN n μ ν) (e : PMT ν ν') : RLN n μ ν' := RL_em h (PMT_EM e)
/-- the class's memory but for its stories -/
def EQ (μ μ' : Mem) : Prop := (∀ q, q ≠ 3 → q ≠ 4 → (q < 24 ∨ 35 < q) → μ'.1 q = μ.1 q)
theorem RL_eq {n : Int} {μ μ' ν : Mem} (h : RLN n μ ν) (e : EQ μ μ') (h0 : STI (kd ν.1) μ' 0) (h1 : STI (kd ν.1) μ' 1) : RLN n μ' ν := by
  obtain ⟨a1, a2, a3, a4, a5, a6⟩ := h
  have c1 := e 1 (by decide) (by decide) (by decide)
  refine ⟨BR_cg a1 ⟨fun j _ _ => by rw [c1], fun q a c => e q (by omega) (by omega) (by omega)⟩ BRM_rf, ?_, ?_, ?_, ⟨h0, h1⟩, by rw [c1]; exact a6⟩
  · unfold TXI at a2 ⊢
    rw [e 37 (by decide) (by decide) (by decide), e 8 (by decide) (by decide) (by decide)]
    exact a2
  · unfold RFI at a3 ⊢
    rw [e 9 (by decide) (by decide) (by decide)]
    exact a3
  · obtain ⟨i1, i2, i3⟩ := a4
    unfold IMI
    rw [e 0 (by decide) (by decide) (by decide)]
    refine ⟨i1, i2, fun z => BR_cg (i3 z) (EC_cc ⟨fun j _ _ => by rw [e 2 (by decide) (by decide) (by decide)], fun q a c => e q (by omega) (by omega) (by omega)⟩) BRM_rf⟩
theorem STI_other {K : Cel} {b b' : Nat} {μ μ' : Mem} (hb : b < 2) (hb' : b' < 2) (hne : b' ≠ b) (h : FS b μ μ') (s : STI K μ b') : STI K μ' b' := by
  obtain ⟨s1, s2, s3, s4⟩ := s
  have e3 := h.1 (3 + b') (by omega) (by omega) (by omega) (by omega)
  have e1 := h.1 1 (by omega) (by omega) (by omega) (by omega)
  unfold STI
  rw [e3, e1]
  refine ⟨s1, s2, s3, fun z => ?_⟩
  obtain ⟨o, u⟩ := s4 z
  unfold SI OI at *
  rw [h.1 (25 + 7 * b') (by omega) (by omega) (by omega) (by omega), h.1 (24 + 7 * b') (by omega) (by omega) (by omega) (by omega), h.1 (26 + 7 * b') (by omega) (by omega) (by omega) (by omega), h.2.2.1 (23 + 7 * b') (by omega) (by omega) (by omega) (by omega)]
  exact ⟨o, u⟩
theorem STI_own {K : Cel} {b : Nat} {μ μ' : Mem} (hb : b < 2) (h : FS b μ μ') (s : STI K μ b) (hS : SI K μ' b) (h9 : μ'.1 (3 + b) 9 = μ'.1 1 12) : STI K μ' b := by
  have e1 := h.1 1 (by omega) (by omega) (by omega) (by omega)
  obtain ⟨s1, s2, s3, s4⟩ := s
  refine ⟨by rw [h.2.1 1 (by decide) (by decide)]; exact s1, h.2.2.2, ?_, fun _ => hS⟩
  rw [h9, e1]
  omega
theorem RL_fs {n : Int} {b : Nat} {μ μ' ν : Mem} (hb : b < 2) (h : RLN n μ ν) (f : FS b μ μ') (hS : SI (kd ν.1) μ' b) (h9 : μ'.1 (3 + b) 9 = μ'.1 1 12) : RLN n μ' ν := by
  have e : EQ μ μ' := fun q a c d => f.1 q (by omega) (by omega) (by omega) (by omega)
  rcases (show b = 0 ∨ b = 1 by omega) with rfl | rfl
  · exact RL_eq h e (STI_own hb f (RL_sti h hb) hS h9) (STI_other (b' := 1) hb (by decide) (by decide) f (RL_sti h (by decide)))
  · exact RL_eq h e (STI_other (b' := 0) hb (by decide) (by decide) f (RL_sti h (by decide))) (STI_own hb f (RL_sti h hb) hS h9)
theorem RL_st {n : Int} {b : Nat} {μ ν : Mem} {N A B : Pl} {s : Int} (hb : b < 2) (h : RLN n μ ν) (hs : s = 0 ∨ s = 1) : RLN n (stM μ b N A B s) ν := by
  have f : FS b μ (stM μ b N A B s) := FS_st (FS_rf (RL_sti h hb).2.1) hs
  have e : EQ μ (stM μ b N A B s) := fun q a c d => f.1 q (by omega) (by omega) (by omega) (by omega)
  have own : STI (kd ν.1) (stM μ b N A B s) b := by
    obtain ⟨s1, s2, s3, s4⟩ := RL_sti h hb
    refine ⟨by rw [st_j (by decide)]; exact s1, by rw [st_s]; exact hs, by rw [st_j (by decide), st_i (by omega)]; exact s3, fun z => SI_st (s4 ?_)⟩
    rw [st_j (by decide), st_i (by omega)] at z
    exact z
  rcases (show b = 0 ∨ b = 1 by omega) with rfl | rfl
  · exact RL_eq h e own (STI_other (b' := 1) hb (by decide) (by decide) f (RL_sti h (by decide)))
  · exact RL_eq h e (STI_other (b' := 0) hb (by decide) (by decide) f (RL_sti h (by decide))) own
theorem RL_36 {n : Int} {μ ν : Mem} {R : Pl} (h : RLN n μ ν) : RLN n (rowL μ 36 R) ν := by
  have k : ∀ b, b < 2 → STI (kd ν.1) μ b → STI (kd ν.1) (rowL μ 36 R) b := fun b hb s => by
    obtain ⟨s1, s2, s3, s4⟩ := s
    refine ⟨s1, s2, s3, fun z => ⟨(s4 z).1, ?_⟩⟩
    rw [rowL_ne (by omega)]
    exact (s4 z).2
  exact RL_eq h (fun _ _ _ _ => rfl) (k 0 (by decide) (RL_sti h (by decide))) (k 1 (by decide) (RL_sti h (by decide)))
theorem RL_fsp {n : Int} {μ μ' ν : Mem} (h : RLN n μ ν) (f : FSP μ μ') : RLN n μ' ν := by
  obtain ⟨R, N, A, B, s, hs, rfl⟩ := f
  exact RL_st (b := 0) (by decide) (RL_36 h) hs
theorem RL_ref {n w : Int} {μ ν : Mem} (h : RLN n μ ν) (hw : 1 ≤ w ∧ w ≤ 6) : RLN n (putI μ 9 w (μ.1 9 w + 1)) (refM ν (-w)) := by
  obtain ⟨a1, a2, a3, a4, a5, a6⟩ := h
  have e : ∀ q : Nat, q ≠ 9 → (putI μ 9 w (μ.1 9 w + 1)).1 q = μ.1 q := fun q hq => putI_ne hq
  have m : ∀ q : Nat, q ≠ 1 → (refM ν (-w)).1 q = ν.1 q := fun q hq => putI_ne hq
  have mk : kd (refM ν (-w)).1 = kd ν.1 := by
    funext q
    unfold kd
    by_cases h0 : q = 0
    · subst h0; rw [m 0 (by decide)]
    · by_cases h2 : 2 ≤ q ∧ q ≤ 11
      · rw [if_neg h0, if_neg h0, if_pos h2, if_pos h2, m q (by omega)]
      · rw [if_neg h0, if_neg h0, if_neg h2, if_neg h2]
  have mm : BRM ν (refM ν (-w)) := ⟨mk, ⟨by rw [m 0 (by decide)], by rw [m 0 (by decide)], by rw [m 0 (by decide)]⟩, m 4 (by decide), ⟨m 20 (by decide), m 21 (by decide), m 22 (by decide)⟩, m 25 (by decide), m 26 (by decide), m 27 (by decide)⟩
  refine ⟨BR_cg a1 ⟨fun j _ _ => by rw [e 1 (by decide)], fun q a c => e q (by omega)⟩ mm, ?_, ?_, ?_, ?_, by rw [e 1 (by decide)]; exact a6⟩
  · unfold TXI at a2 ⊢
    rw [e 37 (by decide), e 8 (by decide), m 12 (by decide), m 0 (by decide)]
    exact a2
  · intro j j1 j2
    unfold refM
    rw [putI_i, putI_i, Int.neg_neg]
    by_cases q : j = w
    · subst q
      rw [if_pos ⟨rfl, rfl⟩, if_pos ⟨rfl, rfl⟩, a3 j j1 j2]
    · rw [if_neg (fun z => q z.2), if_neg (fun z => q z.2), a3 j j1 j2]
  · obtain ⟨i1, i2, i3⟩ := a4
    unfold IMI
    rw [e 0 (by decide), m 0 (by decide)]
    refine ⟨i1, i2, fun z => BR_cg (i3 z) (EC_cc ⟨fun j _ _ => by rw [e 2 (by decide)], fun q a c => e q (by omega)⟩) ?_⟩
    refine ⟨?_, ⟨?_, ?_, ?_⟩, ?_, ⟨?_, ?_, ?_⟩, ?_, ?_, ?_⟩
    · funext q
      unfold kd
      by_cases h0 : q = 0
      · subst h0
        rw [if_pos rfl, if_pos rfl, bk_0_11, bk_0_11, bk_0_12, bk_0_12, m 30 (by decide)]
      · by_cases h2 : 2 ≤ q ∧ q ≤ 11
        · rw [if_neg h0, if_neg h0, if_pos h2, if_pos h2]
          rcases (show q = 2 ∨ q = 3 ∨ q = 4 ∨ q = 5 ∨ q = 6 ∨ q = 7 ∨ q = 8 ∨ q = 9 ∨ q = 10 ∨ q = 11 by omega) with rfl | rfl | rfl | rfl | rfl | rfl | rfl | rfl | rfl | rfl
          · rw [bk_2, bk_2, m 2 (by decide), m 30 (by decide)]
          · rw [bk_3, bk_3, m 3 (by decide), m 30 (by decide)]
          · rw [bk_4, bk_4, m 4 (by decide), m 30 (by decide)]
          · rw [bk_5, bk_5, m 5 (by decide), m 30 (by decide)]
          · rw [bk_6, bk_6, m 6 (by decide), m 30 (by decide)]
          · rw [bk_7, bk_7, m 7 (by decide), m 30 (by decide)]
          · rw [bk_8, bk_8, m 8 (by decide), m 30 (by decide)]
          · rw [bk_9, bk_9, m 9 (by decide), m 30 (by decide)]
          · rw [bk_10, bk_10, m 10 (by decide), m 30 (by decide)]
          · rw [bk_11, bk_11, m 11 (by decide), m 30 (by decide)]
        · rw [if_neg h0, if_neg h0, if_neg h2, if_neg h2]
    · rw [bk_0_11, bk_0_11, m 30 (by decide)]
    · rw [bk_0_30, bk_0_30, m 30 (by decide)]
    · rw [bk_0_37, bk_0_37, m 30 (by decide)]
    · rw [bk_4, bk_4, m 4 (by decide), m 30 (by decide)]
    · rw [bk_20, bk_20, m 20 (by decide), m 30 (by decide)]
    · rw [bk_21, bk_21, m 21 (by decide), m 30 (by decide)]
    · rw [bk_22, bk_22, m 22 (by decide), m 30 (by decide)]
    · rw [bk_25, bk_25, m 25 (by decide), m 30 (by decide)]
    · rw [bk_26, bk_26, m 26 (by decide), m 30 (by decide)]
    · rw [bk_27, bk_27, m 27 (by decide), m 30 (by decide)]
  · rw [mk]
    have k : ∀ b, b < 2 → STI (kd ν.1) μ b → STI (kd ν.1) (putI μ 9 w (μ.1 9 w + 1)) b := fun b hb s => by
      obtain ⟨s1, s2, s3, s4⟩ := s
      unfold STI
      rw [e (3 + b) (by omega), e 1 (by decide)]
      refine ⟨s1, s2, s3, fun z => ?_⟩
      obtain ⟨o, u⟩ := s4 z
      unfold SI OI at *
      rw [e (25 + 7 * b) (by omega), e (24 + 7 * b) (by omega), e (26 + 7 * b) (by omega)]
      exact ⟨o, u⟩
    exact ⟨k 0 (by decide) a5.1, k 1 (by decide) a5.2⟩
