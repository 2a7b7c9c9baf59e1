def szC (q : Nat) : Int := if q = 12 then 3 else if q = 13 then 300 else if q = 14 then 36 else if q = 15 then 15 else 12
def szM (q : Nat) : Int := if q = 6 then 3 else if 7 ≤ q ∧ q ≤ 11 then 60 else if 25 ≤ q then 5 else 12
/-- what an update leaves as it was -/
def UPC (μ μ' : Mem) : Prop := (∀ q, q ≠ 1 → (q < 10 ∨ 15 < q) → μ'.1 q = μ.1 q) ∧ μ'.2 = μ.2 ∧ ∀ q, 10 ≤ q → q ≤ 15 → ∀ j, (j < 0 ∨ szC q ≤ j) → μ'.1 q j = μ.1 q j
def UPM (ν ν' : Mem) : Prop := (ν'.1 1 = ν.1 1 ∧ ν'.1 12 = ν.1 12 ∧ ν'.1 30 = ν.1 30) ∧ (ν'.1 0 14 = ν.1 0 14 ∧ ν'.1 0 40 = ν.1 0 40) ∧ ∀ q, (2 ≤ q ∧ q ≤ 11) ∨ (20 ≤ q ∧ q ≤ 22) ∨ (25 ≤ q ∧ q ≤ 27) → ∀ j, (j < 0 ∨ szM q ≤ j) → ν'.1 q j = ν.1 q j
theorem cp_up {n : Int} {a a' b b' : Int → Int} (ha : a' = a) (hb : ∀ j, (j < 0 ∨ n ≤ j) → b' j = b j) : cpF n a' b' = cpF n a b := by
  funext j
  unfold cpF
  split
  · rw [ha]
  · exact hb j (by omega)
theorem rs_up {c n : Int} {k k' b b' : Int → Int} (hk : k' = k) (hb : ∀ j, (j < 0 ∨ n ≤ j) → b' j = b j) : rsF k' c n b' = rsF k c n b := by
  funext j
  unfold rsF
  split
  · rw [hk]
  · exact hb j (by omega)
theorem IMG_up {μ μ' ν ν' : Mem} (h : IMG μ ν) (c : UPC μ μ') (m : UPM ν ν') : IMG μ' ν' := by
  obtain ⟨c1, -, c2⟩ := c
  obtain ⟨⟨-, -, m1⟩, -, m2⟩ := m
  refine BR_cg h ⟨fun j a d => by rw [cc_1 ⟨a, d⟩, cc_1 ⟨a, d⟩, c1 2 (by decide) (by decide)], fun q a d => ?_⟩ ⟨?_, ⟨?_, ?_, ?_⟩, ?_, ⟨?_, ?_, ?_⟩, ?_, ?_, ?_⟩
  · rcases (show q = 10 ∨ q = 11 ∨ q = 12 ∨ q = 13 ∨ q = 14 ∨ q = 15 by omega) with rfl | rfl | rfl | rfl | rfl | rfl
    · rw [cc_10, cc_10]; exact cp_up (c1 16 (by decide) (by decide)) (c2 10 (by decide) (by decide))
    · rw [cc_11, cc_11]; exact cp_up (c1 17 (by decide) (by decide)) (c2 11 (by decide) (by decide))
    · rw [cc_12, cc_12]; exact cp_up (c1 18 (by decide) (by decide)) (c2 12 (by decide) (by decide))
    · rw [cc_13, cc_13]; exact cp_up (c1 19 (by decide) (by decide)) (c2 13 (by decide) (by decide))
    · rw [cc_14, cc_14]; exact cp_up (c1 20 (by decide) (by decide)) (c2 14 (by decide) (by decide))
    · rw [cc_15, cc_15]; exact cp_up (c1 21 (by decide) (by decide)) (c2 15 (by decide) (by decide))
  · funext q
    unfold kd
    by_cases h0 : q = 0
    · subst h0
      rw [if_pos rfl, if_pos rfl, bk_0_11, bk_0_11, bk_0_12, bk_0_12, m1]
    · by_cases h2 : 2 ≤ q ∧ q ≤ 11
      · rw [if_neg h0, if_neg h0, if_pos h2, if_pos h2]
        rcases (show q = 2 ∨ q = 3 ∨ q = 4 ∨ q = 5 ∨ q = 6 ∨ q = 7 ∨ q = 8 ∨ q = 9 ∨ q = 10 ∨ q = 11 by omega) with rfl | rfl | rfl | rfl | rfl | rfl | rfl | rfl | rfl | rfl
        · rw [bk_2, bk_2]; exact rs_up m1 (m2 2 (by decide))
        · rw [bk_3, bk_3]; exact rs_up m1 (m2 3 (by decide))
        · rw [bk_4, bk_4]; exact rs_up m1 (m2 4 (by decide))
        · rw [bk_5, bk_5]; exact rs_up m1 (m2 5 (by decide))
        · rw [bk_6, bk_6]; exact rs_up m1 (m2 6 (by decide))
        · rw [bk_7, bk_7]; exact rs_up m1 (m2 7 (by decide))
        · rw [bk_8, bk_8]; exact rs_up m1 (m2 8 (by decide))
        · rw [bk_9, bk_9]; exact rs_up m1 (m2 9 (by decide))
        · rw [bk_10, bk_10]; exact rs_up m1 (m2 10 (by decide))
        · rw [bk_11, bk_11]; exact rs_up m1 (m2 11 (by decide))
      · rw [if_neg h0, if_neg h0, if_neg h2, if_neg h2]
  · rw [bk_0_11, bk_0_11, m1]
  · rw [bk_0_30, bk_0_30, m1]
  · rw [bk_0_37, bk_0_37, m1]
  · rw [bk_4, bk_4]; exact rs_up m1 (m2 4 (by decide))
  · rw [bk_20, bk_20]; exact rs_up m1 (m2 20 (by decide))
  · rw [bk_21, bk_21]; exact rs_up m1 (m2 21 (by decide))
  · rw [bk_22, bk_22]; exact rs_up m1 (m2 22 (by decide))
  · rw [bk_25, bk_25]; exact rs_up m1 (m2 25 (by decide))
  · rw [bk_26, bk_26]; exact rs_up m1 (m2 26 (by decide))
  · rw [bk_27, bk_27]; exact rs_up m1 (m2 27 (by decide))
theorem RL_up {n : Int} {μ μ' ν ν' : Mem} (h : RLN n μ ν) (hB : BR μ' ν') (c : UPC μ μ') (m : UPM ν ν') (hch : μ'.1 1 12 = μ.1 1 12 + 1 ∨ (μ'.1 1 12 = μ.1 1 12 ∧ kd ν'.1 = kd ν.1)) : RLN (n + 1) μ' ν' := by
  obtain ⟨a1, a2, a3, a4, a5, a6⟩ := h
  obtain ⟨c1, c2, c3⟩ := id c
  obtain ⟨⟨m1, m2, m3⟩, ⟨m4, m5⟩, m6⟩ := id m
  have k : ∀ b, b < 2 → STI (kd ν.1) μ b → STI (kd ν'.1) μ' b := fun b hb s => by
    obtain ⟨s1, s2, s3, s4⟩ := s
    unfold STI
    rw [c1 (3 + b) (by omega) (by omega)]
    refine ⟨s1, s2, by omega, fun z => ?_⟩
    rcases hch with q | q
    · omega
    · obtain ⟨o, u⟩ := s4 (by omega)
      rw [q.2]
      unfold SI OI at *
      rw [c1 (25 + 7 * b) (by omega) (by omega), c1 (24 + 7 * b) (by omega) (by omega), c1 (26 + 7 * b) (by omega) (by omega), c2]
      exact ⟨o, u⟩
  refine ⟨hB, ?_, ?_, ?_, ⟨k 0 (by decide) a5.1, k 1 (by decide) a5.2⟩, by omega⟩
  · unfold TXI at a2 ⊢
    rw [m2, m4, c1 37 (by decide) (by decide), c1 8 (by decide) (by decide)]
    exact a2
  · unfold RFI at a3 ⊢
    rw [m1, c1 9 (by decide) (by decide)]
    exact a3
  · obtain ⟨i1, i2, i3⟩ := a4
    unfold IMI
    rw [m5, c1 0 (by decide) (by decide)]
    exact ⟨i1, i2, fun z => IMG_up (i3 z) c m⟩
theorem RL_mono {n n' : Int} {μ ν : Mem} (h : RLN n μ ν) (hn : n ≤ n') : RLN n' μ ν := ⟨h.1, h.2.1, h.2.2.1, h.2.2.2.1, h.2.2.2.2.1, by have := h.2.2.2.2.2; omega⟩
/-! one update after another -/
theorem UPC_take {μ : Mem} {k v : Int} (hk : 0 ≤ k ∧ k < 12) : UPC μ (cTake μ k v) := by
  unfold cTake
  refine ⟨fun q a d => by rw [putI_ne a, putI_ne (by omega)], rfl, fun q a d j hj => ?_⟩
  rw [putI_ne (by omega), putI_i]
  split
  · rename_i g
    unfold szC at hj
    rw [g.1] at hj
    omega
  · rfl
theorem UPM_put {ν : Mem} {q : Nat} {k v : Int} (hq : (2 ≤ q ∧ q ≤ 11) ∨ (20 ≤ q ∧ q ≤ 22) ∨ (25 ≤ q ∧ q ≤ 27)) (hk : 0 ≤ k ∧ k < szM q) : UPM ν (putI ν q k v) := by
  refine ⟨⟨putI_ne (by omega), putI_ne (by omega), putI_ne (by omega)⟩, ⟨by rw [putI_ne (by omega)], by rw [putI_ne (by omega)]⟩, fun q' hq' j hj => ?_⟩
  rw [putI_i]
  split
  · rename_i g
    rw [g.1] at hj
    omega
  · rfl
theorem UPM_num {ν : Mem} {k v : Int} (hk : k ≠ 14 ∧ k ≠ 40) : UPM ν (putI ν 0 k v) := by
  refine ⟨⟨putI_ne (by decide), putI_ne (by decide), putI_ne (by decide)⟩, ⟨by rw [putI_i, if_neg (by omega)], by rw [putI_i, if_neg (by omega)]⟩, fun q' hq' j _ => by rw [putI_ne (by omega)]⟩
theorem UPM_tr {a b c : Mem} (h : UPM a b) (g : UPM b c) : UPM a c := ⟨⟨g.1.1.trans h.1.1, g.1.2.1.trans h.1.2.1, g.1.2.2.trans h.1.2.2⟩, ⟨g.2.1.1.trans h.2.1.1, g.2.1.2.trans h.2.1.2⟩, fun q hq j hj => (g.2.2 q hq j hj).trans (h.2.2 q hq j hj)⟩
theorem UPC_put {μ : Mem} {q : Nat} {k v : Int} (hq : 10 ≤ q ∧ q ≤ 15) (hk : 0 ≤ k ∧ k < szC q) : UPC μ (putI μ q k v) := by
  refine ⟨fun q' a d => putI_ne (by omega), rfl, fun q' a d j hj => ?_⟩
  rw [putI_i]
  split
  · rename_i g
    rw [g.1] at hj
    omega
  · rfl
theorem UPC_num {μ : Mem} {k v : Int} : UPC μ (putI μ 1 k v) := ⟨fun q' a d => putI_ne a, rfl, fun q' a d j _ => by rw [putI_ne (by omega)]⟩
theorem UPC_tr {a b c : Mem} (h : UPC a b) (g : UPC b c) : UPC a c := ⟨fun q x y => (g.1 q x y).trans (h.1 q x y), g.2.1.trans h.2.1, fun q x y j hj => (g.2.2 q x y j hj).trans (h.2.2 q x y j hj)⟩
theorem BR_take {μ ν : Mem} {k v : Int} (h : BR μ ν) (hv : 0 ≤ v ∧ v ≤ 4) : BR (cTake μ k v) (putI ν 5 k v) := by
  obtain ⟨⟨k1, k2, k3⟩, f, s, r, hh, fr, sr⟩ := h
  have e5 : ∀ q : Nat, q ≠ 5 → (putI ν 5 k v).1 q = ν.1 q := fun q hq => putI_ne hq
  have c1 : ∀ j : Int, j ≠ 12 → (cTake μ k v).1 1 j = μ.1 1 j := fun j hj => by unfold cTake; rw [putI_i, if_neg (fun z => hj z.2), putI_ne (by decide)]
  have cq : ∀ q : Nat, q ≠ 1 → q ≠ 11 → (cTake μ k v).1 q = μ.1 q := fun q a d => by unfold cTake; rw [putI_ne a, putI_ne d]
  refine ⟨⟨?_, ?_, ?_⟩, ?_, ?_, ?_, ?_, ?_, ?_⟩
  · unfold KOK at k1 ⊢
    simp only [kd_11, kd_12, kr_2, kr_3, kr_4, kr_5, kr_6, kr_7, kr_8, kr_9, kr_10, kr_11] at k1 ⊢
    rw [e5 0 (by decide), e5 2 (by decide), e5 3 (by decide), e5 6 (by decide), e5 7 (by decide), e5 8 (by decide), e5 9 (by decide), e5 10 (by decide), e5 11 (by decide)]
    refine ⟨k1.1, k1.2.1, k1.2.2.1, k1.2.2.2.1, fun j => ?_, k1.2.2.2.2.2⟩
    rw [putI_i]
    split
    · exact hv
    · exact k1.2.2.2.2.1 j
  · unfold KNE at k2 ⊢
    simp only [kd_11, kd_12, kr_2, kr_3, kr_4, kr_5, kr_6, kr_7, kr_8, kr_9, kr_10, kr_11] at k2 ⊢
    rw [e5 0 (by decide), e5 8 (by decide), e5 9 (by decide), e5 10 (by decide)]
    exact k2
  · rw [e5 4 (by decide)]; exact k3
  · unfold FOK at f ⊢
    rw [e5 0 (by decide), e5 20 (by decide), e5 21 (by decide), e5 22 (by decide)]
    exact f
  · unfold SOK at s ⊢
    rw [e5 0 (by decide), e5 25 (by decide), e5 26 (by decide), e5 27 (by decide)]
    exact s
  · unfold KR at r ⊢
    simp only [kd_11, kd_12, kr_2, kr_3, kr_4, kr_5, kr_6, kr_7, kr_8, kr_9, kr_10, kr_11] at r ⊢
    rw [c1 6 (by decide), c1 7 (by decide), c1 10 (by decide), cq 10 (by decide) (by decide), cq 12 (by decide) (by decide), cq 13 (by decide) (by decide), e5 0 (by decide), e5 2 (by decide), e5 3 (by decide), e5 6 (by decide), e5 7 (by decide), e5 8 (by decide), e5 9 (by decide), e5 10 (by decide), e5 11 (by decide)]
    refine ⟨r.1, r.2.1, ?_, r.2.2.2⟩
    funext j
    unfold cTake
    rw [putI_ne (by decide), putI_i, putI_i, r.2.2.1]
    by_cases q : j = k <;> simp [q]
  · unfold HH at hh ⊢
    simp only [kd_11, kd_12, kr_2, kr_3, kr_4, kr_5, kr_6, kr_7, kr_8, kr_9, kr_10, kr_11] at hh ⊢
    rw [c1 11 (by decide), e5 0 (by decide), e5 4 (by decide)]
    exact hh
  · unfold FR at fr ⊢
    rw [c1 8 (by decide), cq 14 (by decide) (by decide), e5 0 (by decide), e5 20 (by decide), e5 21 (by decide), e5 22 (by decide)]
    exact fr
  · unfold SRr at sr ⊢
    rw [c1 9 (by decide), cq 15 (by decide) (by decide), e5 0 (by decide), e5 25 (by decide), e5 26 (by decide), e5 27 (by decide)]
    exact sr
