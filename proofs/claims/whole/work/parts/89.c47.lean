theorem UP_take {n : Int} {μ ν : Mem} {k v : Int} (h : RLN n μ ν) (hk : 0 ≤ k ∧ k < 12) (hv : 0 ≤ v ∧ v ≤ 4) : RLN (n + 1) (cTake μ k v) (putI ν 5 k v) := RL_up h (BR_take h.1 hv) (UPC_take hk) (UPM_put (by decide) (by unfold szM; simpa using hk)) (Or.inl (by unfold cTake; simp [putI_i]))
theorem UP_rule {n : Int} {μ ν : Mem} {k v : Int} (h : RLN n μ ν) (hk : 0 ≤ k ∧ k < 3) (hv : 0 ≤ v ∧ v ≤ 3) : RLN (n + 1) (cRule μ k v) (putI ν 6 k v) := RL_up h (BR_rule h.1 hv) (UPC_tr (UPC_put (by decide) (by unfold szC; simpa using hk)) UPC_num) (UPM_put (by decide) (by unfold szM; simpa using hk)) (Or.inl (by unfold cRule; simp [putI_i]))
theorem UP_drop {n : Int} {μ ν : Mem} (h : RLN n μ ν) (hE : 1 ≤ ν.1 0 12) : RLN (n + 1) (cDrop μ) (putI ν 0 12 (ν.1 0 12 - 1)) := RL_up h (BR_drop h.1 hE) (UPC_tr UPC_num UPC_num) (UPM_num (by decide)) (Or.inl (by unfold cDrop; simp [putI_i]))
theorem kd_num {ν : Mem} {j v : Int} (hj : j ≠ 11 ∧ j ≠ 12) : kd (putI ν 0 j v).1 = kd ν.1 := by
  funext q
  unfold kd
  by_cases h0 : q = 0
  · subst h0
    rw [if_pos rfl, if_pos rfl, putI_i, if_neg (by omega), putI_i, if_neg (by omega)]
  · rw [if_neg h0, if_neg h0, putI_ne h0]
theorem kd_row {ν : Mem} {q : Nat} {j v : Int} (hq : q ≠ 0 ∧ ¬ (2 ≤ q ∧ q ≤ 11)) : kd (putI ν q j v).1 = kd ν.1 := by
  funext q'
  unfold kd
  by_cases h0 : q' = 0
  · subst h0
    rw [if_pos rfl, if_pos rfl, putI_ne (by omega)]
  · by_cases h2 : 2 ≤ q' ∧ q' ≤ 11
    · rw [if_neg h0, if_neg h0, if_pos h2, if_pos h2, putI_ne (by omega)]
    · rw [if_neg h0, if_neg h0, if_neg h2, if_neg h2]
theorem UP_forget {n : Int} {μ ν : Mem} (h : RLN n μ ν) : RLN (n + 1) (putI μ 1 8 0) (putI ν 0 30 0) := RL_up h (BR_forget h.1) UPC_num (UPM_num (by decide)) (Or.inr ⟨by simp [putI_i], kd_num (by decide)⟩)
theorem UP_clear {n : Int} {μ ν : Mem} (h : RLN n μ ν) : RLN (n + 1) (putI μ 1 9 0) (putI ν 0 37 0) := RL_up h (BR_clear h.1) UPC_num (UPM_num (by decide)) (Or.inr ⟨by simp [putI_i], kd_num (by decide)⟩)
theorem UP_fact {n : Int} {μ ν : Mem} {t w c : Int} (h : RLN n μ ν) (hF : ν.1 0 30 < 12) (ht : 0 ≤ t ∧ t < ν.1 0 11) (hw : 0 ≤ w ∧ w ≤ 47) (hc : c = 0 ∨ c = 1) : RLN (n + 1) (cFact μ t w c) (factM ν t w c) := by
  have f0 := h.1.2.1.1
  have f8 := h.1.2.2.2.2.2.1.1
  refine RL_up h (BR_fact h.1 hF ht hw hc) ?_ ?_ (Or.inr ⟨by unfold cFact; simp [putI_i], ?_⟩)
  · exact UPC_tr (UPC_tr (UPC_tr (UPC_put (by decide) (by show _ ∧ _ < (36 : Int); omega)) (UPC_put (by decide) (by show _ ∧ _ < (36 : Int); omega))) (UPC_put (by decide) (by show _ ∧ _ < (36 : Int); omega))) UPC_num
  · exact UPM_tr (UPM_tr (UPM_tr (UPM_put (by decide) (by show _ ∧ _ < (12 : Int); omega)) (UPM_put (by decide) (by show _ ∧ _ < (12 : Int); omega))) (UPM_put (by decide) (by show _ ∧ _ < (12 : Int); omega))) (UPM_num (by decide))
  · unfold factM
    rw [kd_num (by decide), kd_row (by decide), kd_row (by decide), kd_row (by decide)]
theorem UP_step {n : Int} {μ ν : Mem} {k a b : Int} (h : RLN n μ ν) (hF : ν.1 0 37 < 5) (hk : 0 ≤ k ∧ k ≤ 4) (ha : 0 ≤ a ∧ a < ν.1 0 11) (hb : 0 ≤ b ∧ b < ν.1 0 11) (hab : a ≠ b) : RLN (n + 1) (cStep μ k a b) (stepM ν k a b) := by
  have f0 := h.1.2.2.1.1
  have f8 := h.1.2.2.2.2.2.2.1
  refine RL_up h (BR_step h.1 hF hk ha hb hab) ?_ ?_ (Or.inr ⟨by unfold cStep; simp [putI_i], ?_⟩)
  · exact UPC_tr (UPC_tr (UPC_tr (UPC_put (by decide) (by show _ ∧ _ < (15 : Int); omega)) (UPC_put (by decide) (by show _ ∧ _ < (15 : Int); omega))) (UPC_put (by decide) (by show _ ∧ _ < (15 : Int); omega))) UPC_num
  · exact UPM_tr (UPM_tr (UPM_tr (UPM_put (by decide) (by show _ ∧ _ < (5 : Int); omega)) (UPM_put (by decide) (by show _ ∧ _ < (5 : Int); omega))) (UPM_put (by decide) (by show _ ∧ _ < (5 : Int); omega))) (UPM_num (by decide))
  · unfold stepM
    rw [kd_num (by decide), kd_row (by decide), kd_row (by decide), kd_row (by decide)]
theorem UP_event {n : Int} {μ ν : Mem} {w k a b u : Int} (h : RLN n μ ν) (hE : ν.1 0 12 < 60) (hw : 0 ≤ w ∧ w ≤ 47) (hk : 0 ≤ k ∧ k ≤ 9) (ha : 0 ≤ a ∧ a < ν.1 0 11) (hb : k < 5 → (0 ≤ b ∧ b < ν.1 0 11) ∧ a ≠ b) (hb9 : k = 9 → 1 ≤ b ∧ b ≤ 4) (hu : -1 ≤ u ∧ u ≤ 15) (hu6 : u < 6 ∨ 10 ≤ u) : RLN (n + 1) (cEvent μ w k a b u) (happM ν w k a b u) := by
  have f7 := RL_7 h
  refine RL_up h (BR_event h.1 hE hw hk ha hb hb9 hu hu6) ?_ ?_ (Or.inl (by unfold cEvent; simp [putI_i]))
  · exact UPC_tr (UPC_tr (UPC_tr (UPC_tr (UPC_tr (UPC_tr (UPC_put (by decide) (by show _ ∧ _ < (300 : Int); omega)) (UPC_put (by decide) (by show _ ∧ _ < (300 : Int); omega))) (UPC_put (by decide) (by show _ ∧ _ < (300 : Int); omega))) (UPC_put (by decide) (by show _ ∧ _ < (300 : Int); omega))) (UPC_put (by decide) (by show _ ∧ _ < (300 : Int); omega))) UPC_num) UPC_num
  · exact UPM_tr (UPM_tr (UPM_tr (UPM_tr (UPM_tr (UPM_put (by decide) (by show _ ∧ _ < (60 : Int); omega)) (UPM_put (by decide) (by show _ ∧ _ < (60 : Int); omega))) (UPM_put (by decide) (by show _ ∧ _ < (60 : Int); omega))) (UPM_put (by decide) (by show _ ∧ _ < (60 : Int); omega))) (UPM_put (by decide) (by show _ ∧ _ < (60 : Int); omega))) (UPM_num (by decide))
theorem UP_thing {n : Int} {μ ν : Mem} {W H : Nat} {k w g : Int} (h : RLN n μ ν) (hW : μ.1 1 10 = (W : Int)) (hH : μ.1 1 11 = (H : Int)) (hT : ν.1 0 11 < 12) (hk : 0 ≤ k ∧ k ≤ 5) (hw : w = 0 ∨ w = 1) (hg : g = 0 ∨ g = 1) : RLN (n + 1) (cThing μ W H k w g) (comesM ν k w g) := by
  have f6 := RL_6 h
  refine RL_up h (BR_thing h.1 hW hH hT hk hw hg) ?_ ?_ (Or.inl (by unfold cThing; simp [putI_i]))
  · exact UPC_tr (UPC_tr (UPC_tr (UPC_tr (UPC_put (by decide) (by show _ ∧ _ < (12 : Int); omega)) UPC_num) UPC_num) UPC_num) UPC_num
  · exact UPM_tr (UPM_tr (UPM_tr (UPM_put (by decide) (by show _ ∧ _ < (12 : Int); omega)) (UPM_put (by decide) (by show _ ∧ _ < (12 : Int); omega))) (UPM_put (by decide) (by show _ ∧ _ < (12 : Int); omega))) (UPM_num (by decide))
