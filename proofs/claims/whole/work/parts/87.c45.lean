theorem BR_rule {μ ν : Mem} {k v : Int} (h : BR μ ν) (hv : 0 ≤ v ∧ v ≤ 3) : BR (cRule μ k v) (putI ν 6 k v) := by
  obtain ⟨⟨k1, k2, k3⟩, f, s, r, hh, fr, sr⟩ := h
  have e : ∀ q : Nat, q ≠ 6 → (putI ν 6 k v).1 q = ν.1 q := fun q h6 => by simp (disch := assumption) only [putI_ne]
  have e0 : ∀ j : Int, (putI ν 6 k v).1 0 j = ν.1 0 j := fun j  => by (try simp (disch := decide) only [putI_ne])
  have c1 : ∀ j : Int, j ≠ 12 → (cRule μ k v).1 1 j = μ.1 1 j := fun j g12 => by unfold cRule; simp [putI_i, g12]
  have cq : ∀ q : Nat, q ≠ 1 → q ≠ 12 → (cRule μ k v).1 q = μ.1 q := fun q h1 h12 => by unfold cRule; simp (disch := assumption) only [putI_ne]
  refine ⟨⟨?_, ?_, ?_⟩, ?_, ?_, ?_, ?_, ?_, ?_⟩
  · unfold KOK at k1 ⊢
    simp only [kd_11, kd_12, kr_2, kr_3, kr_4, kr_5, kr_6, kr_7, kr_8, kr_9, kr_10, kr_11] at k1 ⊢
    rw [e0 11, e0 12, e 2 (by decide), e 3 (by decide), e 5 (by decide), e 7 (by decide), e 8 (by decide), e 9 (by decide), e 10 (by decide), e 11 (by decide)]
    refine ⟨k1.1, k1.2.1, k1.2.2.1, k1.2.2.2.1, k1.2.2.2.2.1, fun j => ?_, k1.2.2.2.2.2.2⟩
    rw [putI_i]
    split
    · exact hv
    · exact k1.2.2.2.2.2.1 j
  · unfold KNE at k2 ⊢
    simp only [kd_11, kd_12, kr_2, kr_3, kr_4, kr_5, kr_6, kr_7, kr_8, kr_9, kr_10, kr_11] at k2 ⊢
    rw [e0 12, e 8 (by decide), e 9 (by decide), e 10 (by decide)]
    exact k2
  · rw [e 4 (by decide)]
    exact k3
  · unfold FOK at f ⊢
    rw [e0 30, e0 11, e 20 (by decide), e 21 (by decide), e 22 (by decide)]
    exact f
  · unfold SOK at s ⊢
    rw [e0 37, e0 11, e 25 (by decide), e 26 (by decide), e 27 (by decide)]
    exact s
  · unfold KR at r ⊢
    simp only [kd_11, kd_12, kr_2, kr_3, kr_4, kr_5, kr_6, kr_7, kr_8, kr_9, kr_10, kr_11] at r ⊢
    rw [e0 11, e0 12, e 2 (by decide), e 3 (by decide), e 5 (by decide), e 7 (by decide), e 8 (by decide), e 9 (by decide), e 10 (by decide), e 11 (by decide), c1 6 (by decide), c1 7 (by decide), c1 10 (by decide), cq 10 (by decide) (by decide), cq 11 (by decide) (by decide), cq 13 (by decide) (by decide)]
    refine ⟨r.1, r.2.1, r.2.2.1, ?_, r.2.2.2.2⟩
    funext j
    unfold cRule
    rw [putI_ne (by decide), putI_i, putI_i, r.2.2.2.1]
    by_cases q : j = k <;> simp [q]
  · unfold HH at hh ⊢
    simp only [kd_11, kd_12, kr_2, kr_3, kr_4, kr_5, kr_6, kr_7, kr_8, kr_9, kr_10, kr_11] at hh ⊢
    rw [e0 11, e 4 (by decide), c1 11 (by decide)]
    exact hh
  · unfold FR at fr ⊢
    rw [e0 30, e 20 (by decide), e 21 (by decide), e 22 (by decide), c1 8 (by decide), cq 14 (by decide) (by decide)]
    exact fr
  · unfold SRr at sr ⊢
    rw [e0 37, e 25 (by decide), e 26 (by decide), e 27 (by decide), c1 9 (by decide), cq 15 (by decide) (by decide)]
    exact sr
theorem BR_drop {μ ν : Mem}  (h : BR μ ν) (hE : 1 ≤ ν.1 0 12) : BR (cDrop μ) (putI ν 0 12 (ν.1 0 12 - 1)) := by
  obtain ⟨⟨k1, k2, k3⟩, f, s, r, hh, fr, sr⟩ := h
  have e : ∀ q : Nat, q ≠ 0 → (putI ν 0 12 (ν.1 0 12 - 1)).1 q = ν.1 q := fun q h0 => by simp (disch := assumption) only [putI_ne]
  have e0 : ∀ j : Int, j ≠ 12 → (putI ν 0 12 (ν.1 0 12 - 1)).1 0 j = ν.1 0 j := fun j g12 => by rw [putI_i, if_neg (fun z => g12 z.2)]; (try simp (disch := decide) only [putI_ne])
  have c1 : ∀ j : Int, j ≠ 7 → j ≠ 12 → (cDrop μ).1 1 j = μ.1 1 j := fun j g7 g12 => by unfold cDrop; simp [putI_i, g7, g12]
  have cq : ∀ q : Nat, q ≠ 1 → (cDrop μ).1 q = μ.1 q := fun q h1  => by unfold cDrop; simp (disch := assumption) only [putI_ne]
  refine ⟨⟨?_, ?_, ?_⟩, ?_, ?_, ?_, ?_, ?_, ?_⟩
  · unfold KOK at k1 ⊢
    simp only [kd_11, kd_12, kr_2, kr_3, kr_4, kr_5, kr_6, kr_7, kr_8, kr_9, kr_10, kr_11] at k1 ⊢
    rw [e0 11 (by decide), e 2 (by decide), e 3 (by decide), e 5 (by decide), e 6 (by decide), e 7 (by decide), e 8 (by decide), e 9 (by decide), e 10 (by decide), e 11 (by decide)]
    rw [putI_i, if_pos ⟨rfl, rfl⟩]
    exact ⟨k1.1, by omega, k1.2.2.1, k1.2.2.2.1, k1.2.2.2.2.1, k1.2.2.2.2.2.1, k1.2.2.2.2.2.2.1, k1.2.2.2.2.2.2.2.1, k1.2.2.2.2.2.2.2.2.1, fun e a c => k1.2.2.2.2.2.2.2.2.2 e a (by omega)⟩
  · unfold KNE at k2 ⊢
    simp only [kd_11, kd_12, kr_2, kr_3, kr_4, kr_5, kr_6, kr_7, kr_8, kr_9, kr_10, kr_11] at k2 ⊢
    rw [e 8 (by decide), e 9 (by decide), e 10 (by decide)]
    rw [putI_i, if_pos ⟨rfl, rfl⟩]
    exact fun e a c => k2 e a (by omega)
  · rw [e 4 (by decide)]
    exact k3
  · unfold FOK at f ⊢
    rw [e0 30 (by decide), e0 11 (by decide), e 20 (by decide), e 21 (by decide), e 22 (by decide)]
    exact f
  · unfold SOK at s ⊢
    rw [e0 37 (by decide), e0 11 (by decide), e 25 (by decide), e 26 (by decide), e 27 (by decide)]
    exact s
  · unfold KR at r ⊢
    simp only [kd_11, kd_12, kr_2, kr_3, kr_4, kr_5, kr_6, kr_7, kr_8, kr_9, kr_10, kr_11] at r ⊢
    rw [e0 11 (by decide), e 2 (by decide), e 3 (by decide), e 5 (by decide), e 6 (by decide), e 7 (by decide), e 8 (by decide), e 9 (by decide), e 10 (by decide), e 11 (by decide), c1 6 (by decide) (by decide), c1 10 (by decide) (by decide), cq 10 (by decide), cq 11 (by decide), cq 12 (by decide), cq 13 (by decide)]
    rw [putI_i, if_pos ⟨rfl, rfl⟩]
    refine ⟨⟨r.1.1, ?_⟩, r.2⟩
    unfold cDrop
    rw [putI_i, if_neg (by decide), putI_i, if_pos ⟨rfl, rfl⟩, r.1.2]
  · unfold HH at hh ⊢
    simp only [kd_11, kd_12, kr_2, kr_3, kr_4, kr_5, kr_6, kr_7, kr_8, kr_9, kr_10, kr_11] at hh ⊢
    rw [e0 11 (by decide), e 4 (by decide), c1 11 (by decide) (by decide)]
    exact hh
  · unfold FR at fr ⊢
    rw [e0 30 (by decide), e 20 (by decide), e 21 (by decide), e 22 (by decide), c1 8 (by decide) (by decide), cq 14 (by decide)]
    exact fr
  · unfold SRr at sr ⊢
    rw [e0 37 (by decide), e 25 (by decide), e 26 (by decide), e 27 (by decide), c1 9 (by decide) (by decide), cq 15 (by decide)]
    exact sr
theorem BR_forget {μ ν : Mem}  (h : BR μ ν)  : BR (putI μ 1 8 0) (putI ν 0 30 0) := by
  obtain ⟨⟨k1, k2, k3⟩, f, s, r, hh, fr, sr⟩ := h
  have e : ∀ q : Nat, q ≠ 0 → (putI ν 0 30 0).1 q = ν.1 q := fun q h0 => by simp (disch := assumption) only [putI_ne]
  have e0 : ∀ j : Int, j ≠ 30 → (putI ν 0 30 0).1 0 j = ν.1 0 j := fun j g30 => by rw [putI_i, if_neg (fun z => g30 z.2)]; (try simp (disch := decide) only [putI_ne])
  have c1 : ∀ j : Int, j ≠ 8 → (putI μ 1 8 0).1 1 j = μ.1 1 j := fun j g8 => by simp [putI_i, g8]
  have cq : ∀ q : Nat, q ≠ 1 → (putI μ 1 8 0).1 q = μ.1 q := fun q h1  => by simp (disch := assumption) only [putI_ne]
  refine ⟨⟨?_, ?_, ?_⟩, ?_, ?_, ?_, ?_, ?_, ?_⟩
  · unfold KOK at k1 ⊢
    simp only [kd_11, kd_12, kr_2, kr_3, kr_4, kr_5, kr_6, kr_7, kr_8, kr_9, kr_10, kr_11] at k1 ⊢
    rw [e0 11 (by decide), e0 12 (by decide), e 2 (by decide), e 3 (by decide), e 5 (by decide), e 6 (by decide), e 7 (by decide), e 8 (by decide), e 9 (by decide), e 10 (by decide), e 11 (by decide)]
    exact k1
  · unfold KNE at k2 ⊢
    simp only [kd_11, kd_12, kr_2, kr_3, kr_4, kr_5, kr_6, kr_7, kr_8, kr_9, kr_10, kr_11] at k2 ⊢
    rw [e0 12 (by decide), e 8 (by decide), e 9 (by decide), e 10 (by decide)]
    exact k2
  · rw [e 4 (by decide)]
    exact k3
  · unfold FOK at f ⊢
    rw [e0 11 (by decide), e 20 (by decide), e 21 (by decide), e 22 (by decide)]
    rw [putI_i, if_pos ⟨rfl, rfl⟩]
    exact ⟨by omega, f.2.1, f.2.2.1, fun e a c => by omega⟩
  · unfold SOK at s ⊢
    rw [e0 37 (by decide), e0 11 (by decide), e 25 (by decide), e 26 (by decide), e 27 (by decide)]
    exact s
  · unfold KR at r ⊢
    simp only [kd_11, kd_12, kr_2, kr_3, kr_4, kr_5, kr_6, kr_7, kr_8, kr_9, kr_10, kr_11] at r ⊢
    rw [e0 11 (by decide), e0 12 (by decide), e 2 (by decide), e 3 (by decide), e 5 (by decide), e 6 (by decide), e 7 (by decide), e 8 (by decide), e 9 (by decide), e 10 (by decide), e 11 (by decide), c1 6 (by decide), c1 7 (by decide), c1 10 (by decide), cq 10 (by decide), cq 11 (by decide), cq 12 (by decide), cq 13 (by decide)]
    exact r
  · unfold HH at hh ⊢
    simp only [kd_11, kd_12, kr_2, kr_3, kr_4, kr_5, kr_6, kr_7, kr_8, kr_9, kr_10, kr_11] at hh ⊢
    rw [e0 11 (by decide), e 4 (by decide), c1 11 (by decide)]
    exact hh
  · unfold FR at fr ⊢
    rw [e 20 (by decide), e 21 (by decide), e 22 (by decide), cq 14 (by decide)]
    rw [putI_i, if_pos ⟨rfl, rfl⟩]
    refine ⟨?_, fr.2⟩
    rw [putI_i, if_pos ⟨rfl, rfl⟩]
  · unfold SRr at sr ⊢
    rw [e0 37 (by decide), e 25 (by decide), e 26 (by decide), e 27 (by decide), c1 9 (by decide), cq 15 (by decide)]
    exact sr
theorem BR_clear {μ ν : Mem}  (h : BR μ ν)  : BR (putI μ 1 9 0) (putI ν 0 37 0) := by
  obtain ⟨⟨k1, k2, k3⟩, f, s, r, hh, fr, sr⟩ := h
  have e : ∀ q : Nat, q ≠ 0 → (putI ν 0 37 0).1 q = ν.1 q := fun q h0 => by simp (disch := assumption) only [putI_ne]
  have e0 : ∀ j : Int, j ≠ 37 → (putI ν 0 37 0).1 0 j = ν.1 0 j := fun j g37 => by rw [putI_i, if_neg (fun z => g37 z.2)]; (try simp (disch := decide) only [putI_ne])
  have c1 : ∀ j : Int, j ≠ 9 → (putI μ 1 9 0).1 1 j = μ.1 1 j := fun j g9 => by simp [putI_i, g9]
  have cq : ∀ q : Nat, q ≠ 1 → (putI μ 1 9 0).1 q = μ.1 q := fun q h1  => by simp (disch := assumption) only [putI_ne]
  refine ⟨⟨?_, ?_, ?_⟩, ?_, ?_, ?_, ?_, ?_, ?_⟩
  · unfold KOK at k1 ⊢
    simp only [kd_11, kd_12, kr_2, kr_3, kr_4, kr_5, kr_6, kr_7, kr_8, kr_9, kr_10, kr_11] at k1 ⊢
    rw [e0 11 (by decide), e0 12 (by decide), e 2 (by decide), e 3 (by decide), e 5 (by decide), e 6 (by decide), e 7 (by decide), e 8 (by decide), e 9 (by decide), e 10 (by decide), e 11 (by decide)]
    exact k1
  · unfold KNE at k2 ⊢
    simp only [kd_11, kd_12, kr_2, kr_3, kr_4, kr_5, kr_6, kr_7, kr_8, kr_9, kr_10, kr_11] at k2 ⊢
    rw [e0 12 (by decide), e 8 (by decide), e 9 (by decide), e 10 (by decide)]
    exact k2
  · rw [e 4 (by decide)]
    exact k3
  · unfold FOK at f ⊢
    rw [e0 30 (by decide), e0 11 (by decide), e 20 (by decide), e 21 (by decide), e 22 (by decide)]
    exact f
  · unfold SOK at s ⊢
    rw [e0 11 (by decide), e 25 (by decide), e 26 (by decide), e 27 (by decide)]
    rw [putI_i, if_pos ⟨rfl, rfl⟩]
    exact ⟨by omega, fun e a c => by omega⟩
  · unfold KR at r ⊢
    simp only [kd_11, kd_12, kr_2, kr_3, kr_4, kr_5, kr_6, kr_7, kr_8, kr_9, kr_10, kr_11] at r ⊢
    rw [e0 11 (by decide), e0 12 (by decide), e 2 (by decide), e 3 (by decide), e 5 (by decide), e 6 (by decide), e 7 (by decide), e 8 (by decide), e 9 (by decide), e 10 (by decide), e 11 (by decide), c1 6 (by decide), c1 7 (by decide), c1 10 (by decide), cq 10 (by decide), cq 11 (by decide), cq 12 (by decide), cq 13 (by decide)]
    exact r
  · unfold HH at hh ⊢
    simp only [kd_11, kd_12, kr_2, kr_3, kr_4, kr_5, kr_6, kr_7, kr_8, kr_9, kr_10, kr_11] at hh ⊢
    rw [e0 11 (by decide), e 4 (by decide), c1 11 (by decide)]
    exact hh
  · unfold FR at fr ⊢
    rw [e0 30 (by decide), e 20 (by decide), e 21 (by decide), e 22 (by decide), c1 8 (by decide), cq 14 (by decide)]
    exact fr
  · unfold SRr at sr ⊢
    rw [e 25 (by decide), e 26 (by decide), e 27 (by decide), cq 15 (by decide)]
    rw [putI_i, if_pos ⟨rfl, rfl⟩]
    refine ⟨?_, sr.2⟩
    rw [putI_i, if_pos ⟨rfl, rfl⟩]
theorem fM_v {ν : Mem} {t w c : Int} : (∀ e, (factM ν t w c).1 20 e = if e = ν.1 0 30 then t else ν.1 20 e) ∧ (∀ e, (factM ν t w c).1 21 e = if e = ν.1 0 30 then w else ν.1 21 e) ∧ (∀ e, (factM ν t w c).1 22 e = if e = ν.1 0 30 then c else ν.1 22 e) ∧ (factM ν t w c).1 0 30 = ν.1 0 30 + 1 := by
  unfold factM
  refine ⟨fun e => ?_, fun e => ?_, fun e => ?_, ?_⟩ <;> simp [putI_i]
theorem fC_v {μ : Mem} {t w c : Int} : (∀ e, (cFact μ t w c).1 14 (e * 3) = if e = μ.1 1 8 then t else μ.1 14 (e * 3)) ∧ (∀ e, (cFact μ t w c).1 14 (e * 3 + 1) = if e = μ.1 1 8 then w else μ.1 14 (e * 3 + 1)) ∧ (∀ e, (cFact μ t w c).1 14 (e * 3 + 2) = if e = μ.1 1 8 then c else μ.1 14 (e * 3 + 2)) ∧ (cFact μ t w c).1 1 8 = μ.1 1 8 + 1 := by
  unfold cFact
  refine ⟨fun e => ?_, fun e => ?_, fun e => ?_, ?_⟩
  · simp only [putI_i]
    by_cases q : e = μ.1 1 8
    · subst q; simp <;> omega
    · rw [if_neg q, if_neg (by omega), if_neg (by omega), if_neg (by omega), if_neg (by omega)]
  · simp only [putI_i]
    by_cases q : e = μ.1 1 8
    · subst q; simp <;> omega
    · rw [if_neg q, if_neg (by omega), if_neg (by omega), if_neg (by omega), if_neg (by omega)]
  · simp only [putI_i]
    by_cases q : e = μ.1 1 8
    · subst q; simp <;> omega
    · rw [if_neg q, if_neg (by omega), if_neg (by omega), if_neg (by omega), if_neg (by omega)]
  · simp [putI_i]
theorem BR_fact {μ ν : Mem} {t w c : Int} (h : BR μ ν) (hF : ν.1 0 30 < 12) (ht : 0 ≤ t ∧ t < ν.1 0 11) (hw : 0 ≤ w ∧ w ≤ 47) (hc : c = 0 ∨ c = 1) : BR (cFact μ t w c) (factM ν t w c) := by
  obtain ⟨⟨k1, k2, k3⟩, f, s, r, hh, fr, sr⟩ := h
  have e : ∀ q : Nat, q ≠ 0 → q ≠ 20 → q ≠ 21 → q ≠ 22 → (factM ν t w c).1 q = ν.1 q := fun q h0 h20 h21 h22 => by unfold factM; simp (disch := assumption) only [putI_ne]
  have e0 : ∀ j : Int, j ≠ 30 → (factM ν t w c).1 0 j = ν.1 0 j := fun j g30 => by unfold factM; rw [putI_i, if_neg (fun z => g30 z.2)]; (try simp (disch := decide) only [putI_ne])
  have c1 : ∀ j : Int, j ≠ 8 → (cFact μ t w c).1 1 j = μ.1 1 j := fun j g8 => by unfold cFact; simp [putI_i, g8]
  have cq : ∀ q : Nat, q ≠ 1 → q ≠ 14 → (cFact μ t w c).1 q = μ.1 q := fun q h1 h14 => by unfold cFact; simp (disch := assumption) only [putI_ne]
  refine ⟨⟨?_, ?_, ?_⟩, ?_, ?_, ?_, ?_, ?_, ?_⟩
  · unfold KOK at k1 ⊢
    simp only [kd_11, kd_12, kr_2, kr_3, kr_4, kr_5, kr_6, kr_7, kr_8, kr_9, kr_10, kr_11] at k1 ⊢
    rw [e0 11 (by decide), e0 12 (by decide), e 2 (by decide) (by decide) (by decide) (by decide), e 3 (by decide) (by decide) (by decide) (by decide), e 5 (by decide) (by decide) (by decide) (by decide), e 6 (by decide) (by decide) (by decide) (by decide), e 7 (by decide) (by decide) (by decide) (by decide), e 8 (by decide) (by decide) (by decide) (by decide), e 9 (by decide) (by decide) (by decide) (by decide), e 10 (by decide) (by decide) (by decide) (by decide), e 11 (by decide) (by decide) (by decide) (by decide)]
    exact k1
  · unfold KNE at k2 ⊢
    simp only [kd_11, kd_12, kr_2, kr_3, kr_4, kr_5, kr_6, kr_7, kr_8, kr_9, kr_10, kr_11] at k2 ⊢
    rw [e0 12 (by decide), e 8 (by decide) (by decide) (by decide) (by decide), e 9 (by decide) (by decide) (by decide) (by decide), e 10 (by decide) (by decide) (by decide) (by decide)]
    exact k2
  · rw [e 4 (by decide) (by decide) (by decide) (by decide)]
    exact k3
  · unfold FOK at f ⊢
    rw [e0 11 (by decide)]
    have v := fM_v (ν := ν) (t := t) (w := w) (c := c)
    rw [v.2.2.2]
    refine ⟨by omega, fun e => ?_, fun e => ?_, fun e a d => ?_⟩
    · rw [v.2.1]; split; exact hw; exact f.2.1 e
    · rw [v.2.2.1]; split; exact hc; exact f.2.2.1 e
    · rw [v.1]; split; exact ht; exact f.2.2.2 e a (by omega)
  · unfold SOK at s ⊢
    rw [e0 37 (by decide), e0 11 (by decide), e 25 (by decide) (by decide) (by decide) (by decide), e 26 (by decide) (by decide) (by decide) (by decide), e 27 (by decide) (by decide) (by decide) (by decide)]
    exact s
  · unfold KR at r ⊢
    simp only [kd_11, kd_12, kr_2, kr_3, kr_4, kr_5, kr_6, kr_7, kr_8, kr_9, kr_10, kr_11] at r ⊢
    rw [e0 11 (by decide), e0 12 (by decide), e 2 (by decide) (by decide) (by decide) (by decide), e 3 (by decide) (by decide) (by decide) (by decide), e 5 (by decide) (by decide) (by decide) (by decide), e 6 (by decide) (by decide) (by decide) (by decide), e 7 (by decide) (by decide) (by decide) (by decide), e 8 (by decide) (by decide) (by decide) (by decide), e 9 (by decide) (by decide) (by decide) (by decide), e 10 (by decide) (by decide) (by decide) (by decide), e 11 (by decide) (by decide) (by decide) (by decide), c1 6 (by decide), c1 7 (by decide), c1 10 (by decide), cq 10 (by decide) (by decide), cq 11 (by decide) (by decide), cq 12 (by decide) (by decide), cq 13 (by decide) (by decide)]
    exact r
  · unfold HH at hh ⊢
    simp only [kd_11, kd_12, kr_2, kr_3, kr_4, kr_5, kr_6, kr_7, kr_8, kr_9, kr_10, kr_11] at hh ⊢
    rw [e0 11 (by decide), e 4 (by decide) (by decide) (by decide) (by decide), c1 11 (by decide)]
    exact hh
  · unfold FR at fr ⊢
    have v := fM_v (ν := ν) (t := t) (w := w) (c := c)
    have u := fC_v (μ := μ) (t := t) (w := w) (c := c)
    rw [v.2.2.2, u.2.2.2, fr.1]
    refine ⟨rfl, fun e => ?_⟩
    rw [v.1, v.2.1, v.2.2.1, u.1, u.2.1, u.2.2.1, fr.1, (fr.2 e).1, (fr.2 e).2.1, (fr.2 e).2.2]
    exact ⟨rfl, rfl, rfl⟩
  · unfold SRr at sr ⊢
    rw [e0 37 (by decide), e 25 (by decide) (by decide) (by decide) (by decide), e 26 (by decide) (by decide) (by decide) (by decide), e 27 (by decide) (by decide) (by decide) (by decide), c1 9 (by decide), cq 15 (by decide) (by decide)]
    exact sr
