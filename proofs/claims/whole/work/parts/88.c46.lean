theorem sC_v {μ : Mem} {k a b : Int} : (∀ e, (cStep μ k a b).1 15 (e * 3) = if e = μ.1 1 9 then k else μ.1 15 (e * 3)) ∧ (∀ e, (cStep μ k a b).1 15 (e * 3 + 1) = if e = μ.1 1 9 then a else μ.1 15 (e * 3 + 1)) ∧ (∀ e, (cStep μ k a b).1 15 (e * 3 + 2) = if e = μ.1 1 9 then b else μ.1 15 (e * 3 + 2)) := by
  unfold cStep
  refine ⟨fun e => ?_, fun e => ?_, fun e => ?_⟩
  · simp only [putI_i]
    by_cases q : e = μ.1 1 9
    · subst q; simp <;> omega
    · rw [if_neg q, if_neg (by omega), if_neg (by omega), if_neg (by omega), if_neg (by omega)]
  · simp only [putI_i]
    by_cases q : e = μ.1 1 9
    · subst q; simp <;> omega
    · rw [if_neg q, if_neg (by omega), if_neg (by omega), if_neg (by omega), if_neg (by omega)]
  · simp only [putI_i]
    by_cases q : e = μ.1 1 9
    · subst q; simp <;> omega
    · rw [if_neg q, if_neg (by omega), if_neg (by omega), if_neg (by omega), if_neg (by omega)]
theorem eC_v {μ : Mem} {w k a b u : Int} : (∀ e, (cEvent μ w k a b u).1 13 (e * 5) = if e = μ.1 1 7 then w else μ.1 13 (e * 5)) ∧ (∀ e, (cEvent μ w k a b u).1 13 (e * 5 + 1) = if e = μ.1 1 7 then k else μ.1 13 (e * 5 + 1)) ∧ (∀ e, (cEvent μ w k a b u).1 13 (e * 5 + 2) = if e = μ.1 1 7 then a else μ.1 13 (e * 5 + 2)) ∧ (∀ e, (cEvent μ w k a b u).1 13 (e * 5 + 3) = if e = μ.1 1 7 then (if k ≤ 4 ∨ k = 9 then b else -9) else μ.1 13 (e * 5 + 3)) ∧ (∀ e, (cEvent μ w k a b u).1 13 (e * 5 + 4) = if e = μ.1 1 7 then u else μ.1 13 (e * 5 + 4)) := by
  unfold cEvent
  refine ⟨fun e => ?_, fun e => ?_, fun e => ?_, fun e => ?_, fun e => ?_⟩
  · simp only [putI_i]
    by_cases q : e = μ.1 1 7
    · subst q; simp <;> omega
    · rw [if_neg q, if_neg (by omega), if_neg (by omega), if_neg (by omega), if_neg (by omega), if_neg (by omega), if_neg (by omega), if_neg (by omega)]
  · simp only [putI_i]
    by_cases q : e = μ.1 1 7
    · subst q; simp <;> omega
    · rw [if_neg q, if_neg (by omega), if_neg (by omega), if_neg (by omega), if_neg (by omega), if_neg (by omega), if_neg (by omega), if_neg (by omega)]
  · simp only [putI_i]
    by_cases q : e = μ.1 1 7
    · subst q; simp <;> omega
    · rw [if_neg q, if_neg (by omega), if_neg (by omega), if_neg (by omega), if_neg (by omega), if_neg (by omega), if_neg (by omega), if_neg (by omega)]
  · simp only [putI_i]
    by_cases q : e = μ.1 1 7
    · subst q; simp <;> omega
    · rw [if_neg q, if_neg (by omega), if_neg (by omega), if_neg (by omega), if_neg (by omega), if_neg (by omega), if_neg (by omega), if_neg (by omega)]
  · simp only [putI_i]
    by_cases q : e = μ.1 1 7
    · subst q; simp <;> omega
    · rw [if_neg q, if_neg (by omega), if_neg (by omega), if_neg (by omega), if_neg (by omega), if_neg (by omega), if_neg (by omega), if_neg (by omega)]
theorem sM_v {ν : Mem} {k a b : Int} : (∀ e, (stepM ν k a b).1 25 e = if e = ν.1 0 37 then k else ν.1 25 e) ∧ (∀ e, (stepM ν k a b).1 26 e = if e = ν.1 0 37 then a else ν.1 26 e) ∧ (∀ e, (stepM ν k a b).1 27 e = if e = ν.1 0 37 then b else ν.1 27 e) ∧ (stepM ν k a b).1 0 37 = ν.1 0 37 + 1 := by
  unfold stepM
  refine ⟨fun e => ?_, fun e => ?_, fun e => ?_, ?_⟩ <;> simp [putI_i]
theorem eM_v {ν : Mem} {w k a b u : Int} : (∀ e, (happM ν w k a b u).1 7 e = if e = ν.1 0 12 then w else ν.1 7 e) ∧ (∀ e, (happM ν w k a b u).1 8 e = if e = ν.1 0 12 then k else ν.1 8 e) ∧ (∀ e, (happM ν w k a b u).1 9 e = if e = ν.1 0 12 then a else ν.1 9 e) ∧ (∀ e, (happM ν w k a b u).1 10 e = if e = ν.1 0 12 then (if k < 5 ∨ k = 9 then b else -9) else ν.1 10 e) ∧ (∀ e, (happM ν w k a b u).1 11 e = if e = ν.1 0 12 then u else ν.1 11 e) ∧ (happM ν w k a b u).1 0 12 = ν.1 0 12 + 1 := by
  unfold happM
  refine ⟨fun e => ?_, fun e => ?_, fun e => ?_, fun e => ?_, fun e => ?_, ?_⟩ <;> simp [putI_i]
theorem stC_1 {μ : Mem} {k a b : Int} : (cStep μ k a b).1 1 9 = μ.1 1 9 + 1 := by unfold cStep; simp [putI_i]
theorem eC_1 {μ : Mem} {w k a b u : Int} : (cEvent μ w k a b u).1 1 7 = μ.1 1 7 + 1 := by unfold cEvent; simp [putI_i]
theorem BR_step {μ ν : Mem} {k a b : Int} (h : BR μ ν) (hF : ν.1 0 37 < 5) (hk : 0 ≤ k ∧ k ≤ 4) (ha : 0 ≤ a ∧ a < ν.1 0 11) (hb : 0 ≤ b ∧ b < ν.1 0 11) (hab : a ≠ b) : BR (cStep μ k a b) (stepM ν k a b) := by
  obtain ⟨⟨k1, k2, k3⟩, f, s, r, hh, fr, sr⟩ := h
  have e : ∀ q : Nat, q ≠ 0 → q ≠ 25 → q ≠ 26 → q ≠ 27 → (stepM ν k a b).1 q = ν.1 q := fun q h0 h25 h26 h27 => by unfold stepM; simp (disch := assumption) only [putI_ne]
  have e0 : ∀ j : Int, j ≠ 37 → (stepM ν k a b).1 0 j = ν.1 0 j := fun j g37 => by unfold stepM; rw [putI_i, if_neg (fun z => g37 z.2)]; (try simp (disch := decide) only [putI_ne])
  have c1 : ∀ j : Int, j ≠ 9 → (cStep μ k a b).1 1 j = μ.1 1 j := fun j g9 => by unfold cStep; simp [putI_i, g9]
  have cq : ∀ q : Nat, q ≠ 1 → q ≠ 15 → (cStep μ k a b).1 q = μ.1 q := fun q h1 h15 => by unfold cStep; simp (disch := assumption) only [putI_ne]
  refine ⟨⟨?_, ?_, ?_⟩, ?_, ?_, ?_, ?_, ?_, ?_⟩
  · unfold KOK at k1 ⊢
    simp only [kd_11, kd_12, kr_2, kr_3, kr_4, kr_5, kr_6, kr_7, kr_8, kr_9, kr_10, kr_11] at k1 ⊢
    rw [e0 11 (by decide), e0 12 (by decide), e 2 (by decide) (by decide) (by decide) (by decide), e 3 (by decide) (by decide) (by decide) (by decide), e 5 (by decide) (by decide) (by decide) (by decide), e 6 (by decide) (by decide) (by decide) (by decide), e 7 (by decide) (by decide) (by decide) (by decide), e 8 (by decide) (by decide) (by decide) (by decide), e 9 (by decide) (by decide) (by decide) (by decide), e 10 (by decide) (by decide) (by decide) (by decide), e 11 (by decide) (by decide) (by decide) (by decide)]
    exact k1
  · unfold KNE at k2 ⊢
    simp only [kd_11, kd_12, kr_2, kr_3, kr_4, kr_5, kr_6, kr_7, kr_8, kr_9, kr_10, kr_11] at k2 ⊢
    rw [e0 12 (by decide), e 8 (by decide) (by decide) (by decide) (by decide), e 9 (by decide) (by decide) (by decide) (by decide), e 10 (by decide) (by decide) (by decide) (by decide)]
    exact k2
  · rw [e 4 (by decide) (by decide) (by decide) (by decide)]
    exact k3
  · unfold FOK at f ⊢
    rw [e0 30 (by decide), e0 11 (by decide), e 20 (by decide) (by decide) (by decide) (by decide), e 21 (by decide) (by decide) (by decide) (by decide), e 22 (by decide) (by decide) (by decide) (by decide)]
    exact f
  · unfold SOK at s ⊢
    rw [e0 11 (by decide)]
    have v := sM_v (ν := ν) (k := k) (a := a) (b := b)
    rw [v.2.2.2]
    refine ⟨by omega, fun e e0 e1 => ?_⟩
    rw [v.1, v.2.1, v.2.2.1]
    by_cases q : e = ν.1 0 37
    · rw [if_pos q, if_pos q, if_pos q]; exact ⟨hk, ha, hb, hab⟩
    · rw [if_neg q, if_neg q, if_neg q]; exact s.2 e e0 (by omega)
  · unfold KR at r ⊢
    simp only [kd_11, kd_12, kr_2, kr_3, kr_4, kr_5, kr_6, kr_7, kr_8, kr_9, kr_10, kr_11] at r ⊢
    rw [e0 11 (by decide), e0 12 (by decide), e 2 (by decide) (by decide) (by decide) (by decide), e 3 (by decide) (by decide) (by decide) (by decide), e 5 (by decide) (by decide) (by decide) (by decide), e 6 (by decide) (by decide) (by decide) (by decide), e 7 (by decide) (by decide) (by decide) (by decide), e 8 (by decide) (by decide) (by decide) (by decide), e 9 (by decide) (by decide) (by decide) (by decide), e 10 (by decide) (by decide) (by decide) (by decide), e 11 (by decide) (by decide) (by decide) (by decide), c1 6 (by decide), c1 7 (by decide), c1 10 (by decide), cq 10 (by decide) (by decide), cq 11 (by decide) (by decide), cq 12 (by decide) (by decide), cq 13 (by decide) (by decide)]
    exact r
  · unfold HH at hh ⊢
    simp only [kd_11, kd_12, kr_2, kr_3, kr_4, kr_5, kr_6, kr_7, kr_8, kr_9, kr_10, kr_11] at hh ⊢
    rw [e0 11 (by decide), e 4 (by decide) (by decide) (by decide) (by decide), c1 11 (by decide)]
    exact hh
  · unfold FR at fr ⊢
    rw [e0 30 (by decide), e 20 (by decide) (by decide) (by decide) (by decide), e 21 (by decide) (by decide) (by decide) (by decide), e 22 (by decide) (by decide) (by decide) (by decide), c1 8 (by decide), cq 14 (by decide) (by decide)]
    exact fr
  · unfold SRr at sr ⊢
    have v := sM_v (ν := ν) (k := k) (a := a) (b := b)
    have u := sC_v (μ := μ) (k := k) (a := a) (b := b)
    rw [v.2.2.2, stC_1, sr.1]
    refine ⟨rfl, fun e => ?_⟩
    rw [v.1, v.2.1, v.2.2.1, u.1, u.2.1, u.2.2, sr.1, (sr.2 e).1, (sr.2 e).2.1, (sr.2 e).2.2]
    exact ⟨rfl, rfl, rfl⟩
theorem BR_event {μ ν : Mem} {w k a b u : Int} (h : BR μ ν) (hE : ν.1 0 12 < 60) (hw : 0 ≤ w ∧ w ≤ 47) (hk : 0 ≤ k ∧ k ≤ 9) (ha : 0 ≤ a ∧ a < ν.1 0 11) (hb : k < 5 → (0 ≤ b ∧ b < ν.1 0 11) ∧ a ≠ b) (hb9 : k = 9 → 1 ≤ b ∧ b ≤ 4) (hu : -1 ≤ u ∧ u ≤ 15) (hu6 : u < 6 ∨ 10 ≤ u) : BR (cEvent μ w k a b u) (happM ν w k a b u) := by
  obtain ⟨⟨k1, k2, k3⟩, f, s, r, hh, fr, sr⟩ := h
  have e : ∀ q : Nat, q ≠ 0 → q ≠ 7 → q ≠ 8 → q ≠ 9 → q ≠ 10 → q ≠ 11 → (happM ν w k a b u).1 q = ν.1 q := fun q h0 h7 h8 h9 h10 h11 => by unfold happM; simp (disch := assumption) only [putI_ne]
  have e0 : ∀ j : Int, j ≠ 12 → (happM ν w k a b u).1 0 j = ν.1 0 j := fun j g12 => by unfold happM; rw [putI_i, if_neg (fun z => g12 z.2)]; (try simp (disch := decide) only [putI_ne])
  have c1 : ∀ j : Int, j ≠ 7 → j ≠ 12 → (cEvent μ w k a b u).1 1 j = μ.1 1 j := fun j g7 g12 => by unfold cEvent; simp [putI_i, g7, g12]
  have cq : ∀ q : Nat, q ≠ 1 → q ≠ 13 → (cEvent μ w k a b u).1 q = μ.1 q := fun q h1 h13 => by unfold cEvent; simp (disch := assumption) only [putI_ne]
  refine ⟨⟨?_, ?_, ?_⟩, ?_, ?_, ?_, ?_, ?_, ?_⟩
  · unfold KOK at k1 ⊢
    simp only [kd_11, kd_12, kr_2, kr_3, kr_4, kr_5, kr_6, kr_7, kr_8, kr_9, kr_10, kr_11] at k1 ⊢
    rw [e0 11 (by decide), e 2 (by decide) (by decide) (by decide) (by decide) (by decide) (by decide), e 3 (by decide) (by decide) (by decide) (by decide) (by decide) (by decide), e 5 (by decide) (by decide) (by decide) (by decide) (by decide) (by decide), e 6 (by decide) (by decide) (by decide) (by decide) (by decide) (by decide)]
    have v := eM_v (ν := ν) (w := w) (k := k) (a := a) (b := b) (u := u)
    rw [v.2.2.2.2.2]
    obtain ⟨q1, q2, q3, q4, q5, q6, q7, q8, q9, q10⟩ := k1
    refine ⟨q1, by omega, q3, q4, q5, q6, fun j => ?_, fun j => ?_, fun j => ?_, fun e e0 e1 => ?_⟩
    · rw [v.1]; split; exact hw; exact q7 j
    · rw [v.2.1]; split; exact hk; exact q8 j
    · rw [v.2.2.2.2.1]; split; exact hu; exact q9 j
    · rw [v.2.1, v.2.2.1, v.2.2.2.1, v.2.2.2.2.1]
      by_cases q : e = ν.1 0 12
      · rw [if_pos q, if_pos q, if_pos q, if_pos q]
        refine ⟨ha, fun z => ?_, fun z => ?_, hu6⟩
        · rw [if_pos (Or.inl z)]; exact (hb z).1
        · rw [if_pos (Or.inr z)]; exact hb9 z
      · rw [if_neg q, if_neg q, if_neg q, if_neg q]; exact q10 e e0 (by omega)
  · unfold KNE at k2 ⊢
    simp only [kd_11, kd_12, kr_2, kr_3, kr_4, kr_5, kr_6, kr_7, kr_8, kr_9, kr_10, kr_11] at k2 ⊢
    have v := eM_v (ν := ν) (w := w) (k := k) (a := a) (b := b) (u := u)
    rw [v.2.2.2.2.2]
    intro e e0 e1
    rw [v.2.1, v.2.2.1, v.2.2.2.1]
    by_cases q : e = ν.1 0 12
    · rw [if_pos q, if_pos q, if_pos q]
      intro z
      rw [if_pos (Or.inl z)]; exact (hb z).2
    · rw [if_neg q, if_neg q, if_neg q]; exact k2 e e0 (by omega)
  · rw [e 4 (by decide) (by decide) (by decide) (by decide) (by decide) (by decide)]
    exact k3
  · unfold FOK at f ⊢
    rw [e0 30 (by decide), e0 11 (by decide), e 20 (by decide) (by decide) (by decide) (by decide) (by decide) (by decide), e 21 (by decide) (by decide) (by decide) (by decide) (by decide) (by decide), e 22 (by decide) (by decide) (by decide) (by decide) (by decide) (by decide)]
    exact f
  · unfold SOK at s ⊢
    rw [e0 37 (by decide), e0 11 (by decide), e 25 (by decide) (by decide) (by decide) (by decide) (by decide) (by decide), e 26 (by decide) (by decide) (by decide) (by decide) (by decide) (by decide), e 27 (by decide) (by decide) (by decide) (by decide) (by decide) (by decide)]
    exact s
  · unfold KR at r ⊢
    simp only [kd_11, kd_12, kr_2, kr_3, kr_4, kr_5, kr_6, kr_7, kr_8, kr_9, kr_10, kr_11] at r ⊢
    rw [e0 11 (by decide), e 2 (by decide) (by decide) (by decide) (by decide) (by decide) (by decide), e 3 (by decide) (by decide) (by decide) (by decide) (by decide) (by decide), e 5 (by decide) (by decide) (by decide) (by decide) (by decide) (by decide), e 6 (by decide) (by decide) (by decide) (by decide) (by decide) (by decide), c1 6 (by decide) (by decide), c1 10 (by decide) (by decide), cq 10 (by decide) (by decide), cq 11 (by decide) (by decide), cq 12 (by decide) (by decide)]
    have v := eM_v (ν := ν) (w := w) (k := k) (a := a) (b := b) (u := u)
    have x := eC_v (μ := μ) (w := w) (k := k) (a := a) (b := b) (u := u)
    rw [v.2.2.2.2.2, eC_1]
    refine ⟨⟨r.1.1, by rw [r.1.2]⟩, r.2.1, r.2.2.1, r.2.2.2.1, fun e => ?_, r.2.2.2.2.2⟩
    have g := r.2.2.2.2.1 e
    rw [v.1, v.2.1, v.2.2.1, v.2.2.2.1, v.2.2.2.2.1, x.1, x.2.1, x.2.2.1, x.2.2.2.1, x.2.2.2.2, r.1.2, g.1, g.2.1, g.2.2.1, g.2.2.2.1, g.2.2.2.2]
    refine ⟨rfl, rfl, rfl, ?_, rfl⟩
    by_cases q : e = ν.1 0 12
    · rw [if_pos q, if_pos q]
      by_cases z : k < 5 ∨ k = 9
      · rw [if_pos z, if_pos (by omega)]
      · rw [if_neg z, if_neg (by omega)]
    · rw [if_neg q, if_neg q]
  · unfold HH at hh ⊢
    simp only [kd_11, kd_12, kr_2, kr_3, kr_4, kr_5, kr_6, kr_7, kr_8, kr_9, kr_10, kr_11] at hh ⊢
    rw [e0 11 (by decide), e 4 (by decide) (by decide) (by decide) (by decide) (by decide) (by decide), c1 11 (by decide) (by decide)]
    exact hh
  · unfold FR at fr ⊢
    rw [e0 30 (by decide), e 20 (by decide) (by decide) (by decide) (by decide) (by decide) (by decide), e 21 (by decide) (by decide) (by decide) (by decide) (by decide) (by decide), e 22 (by decide) (by decide) (by decide) (by decide) (by decide) (by decide), c1 8 (by decide) (by decide), cq 14 (by decide) (by decide)]
    exact fr
  · unfold SRr at sr ⊢
    rw [e0 37 (by decide), e 25 (by decide) (by decide) (by decide) (by decide) (by decide) (by decide), e 26 (by decide) (by decide) (by decide) (by decide) (by decide) (by decide), e 27 (by decide) (by decide) (by decide) (by decide) (by decide) (by decide), c1 9 (by decide) (by decide), cq 15 (by decide) (by decide)]
    exact sr
theorem tM_v {ν : Mem} {k w g : Int} : (∀ e, (comesM ν k w g).1 2 e = if e = ν.1 0 11 then k else ν.1 2 e) ∧ (∀ e, (comesM ν k w g).1 3 e = if e = ν.1 0 11 then w else ν.1 3 e) ∧ (∀ e, (comesM ν k w g).1 4 e = if e = ν.1 0 11 then g else ν.1 4 e) ∧ (comesM ν k w g).1 0 11 = ν.1 0 11 + 1 := by
  unfold comesM
  refine ⟨fun e => ?_, fun e => ?_, fun e => ?_, ?_⟩ <;> simp [putI_i]
theorem tC_v {μ : Mem} {W H : Nat} {k w g : Int} : (∀ e, (cThing μ W H k w g).1 10 e = if e = μ.1 1 6 then k else μ.1 10 e) ∧ (cThing μ W H k w g).1 1 6 = μ.1 1 6 + 1 ∧ (cThing μ W H k w g).1 1 10 = (wbN W (μ.1 1 6).toNat (decide (w ≠ 0 ∨ k = 2)) : Int) ∧ (cThing μ W H k w g).1 1 11 = (wbN H (μ.1 1 6).toNat (decide (g ≠ 0)) : Int) := by
  unfold cThing
  refine ⟨fun e => ?_, ?_, ?_, ?_⟩ <;> simp [putI_i]
theorem BR_thing {μ ν : Mem} {W H : Nat} {k w g : Int} (h : BR μ ν) (hW : μ.1 1 10 = (W : Int)) (hH : μ.1 1 11 = (H : Int)) (hT : ν.1 0 11 < 12) (hk : 0 ≤ k ∧ k ≤ 5) (hw : w = 0 ∨ w = 1) (hg : g = 0 ∨ g = 1) : BR (cThing μ W H k w g) (comesM ν k w g) := by
  obtain ⟨⟨k1, k2, k3⟩, f, s, r, hh, fr, sr⟩ := h
  have e : ∀ q : Nat, q ≠ 0 → q ≠ 2 → q ≠ 3 → q ≠ 4 → (comesM ν k w g).1 q = ν.1 q := fun q h0 h2 h3 h4 => by unfold comesM; simp (disch := assumption) only [putI_ne]
  have e0 : ∀ j : Int, j ≠ 11 → (comesM ν k w g).1 0 j = ν.1 0 j := fun j g11 => by unfold comesM; rw [putI_i, if_neg (fun z => g11 z.2)]; (try simp (disch := decide) only [putI_ne])
  have c1 : ∀ j : Int, j ≠ 6 → j ≠ 10 → j ≠ 11 → j ≠ 12 → (cThing μ W H k w g).1 1 j = μ.1 1 j := fun j g6 g10 g11 g12 => by unfold cThing; simp [putI_i, g6, g10, g11, g12]
  have cq : ∀ q : Nat, q ≠ 1 → q ≠ 10 → (cThing μ W H k w g).1 q = μ.1 q := fun q h1 h10 => by unfold cThing; simp (disch := assumption) only [putI_ne]
  refine ⟨⟨?_, ?_, ?_⟩, ?_, ?_, ?_, ?_, ?_, ?_⟩
  · unfold KOK at k1 ⊢
    simp only [kd_11, kd_12, kr_2, kr_3, kr_4, kr_5, kr_6, kr_7, kr_8, kr_9, kr_10, kr_11] at k1 ⊢
    rw [e0 12 (by decide), e 5 (by decide) (by decide) (by decide) (by decide), e 6 (by decide) (by decide) (by decide) (by decide), e 7 (by decide) (by decide) (by decide) (by decide), e 8 (by decide) (by decide) (by decide) (by decide), e 9 (by decide) (by decide) (by decide) (by decide), e 10 (by decide) (by decide) (by decide) (by decide), e 11 (by decide) (by decide) (by decide) (by decide)]
    have v := tM_v (ν := ν) (k := k) (w := w) (g := g)
    rw [v.2.2.2]
    obtain ⟨q1, q2, q3, q4, q5, q6, q7, q8, q9, q10⟩ := k1
    refine ⟨by omega, q2, fun j => ?_, fun j => ?_, q5, q6, q7, q8, q9, fun e e0 e1 => ?_⟩
    · rw [v.1]; split; exact hk; exact q3 j
    · rw [v.2.1]; split; exact hw; exact q4 j
    · obtain ⟨g1, g2, g3, g4⟩ := q10 e e0 e1
      exact ⟨by omega, fun z => by have := g2 z; omega, g3, g4⟩
  · unfold KNE at k2 ⊢
    simp only [kd_11, kd_12, kr_2, kr_3, kr_4, kr_5, kr_6, kr_7, kr_8, kr_9, kr_10, kr_11] at k2 ⊢
    rw [e0 12 (by decide), e 8 (by decide) (by decide) (by decide) (by decide), e 9 (by decide) (by decide) (by decide) (by decide), e 10 (by decide) (by decide) (by decide) (by decide)]
    exact k2
  · have v := tM_v (ν := ν) (k := k) (w := w) (g := g)
    intro j
    rw [v.2.2.1]
    split
    · exact hg
    · exact k3 j
  · unfold FOK at f ⊢
    rw [e0 30 (by decide), e 20 (by decide) (by decide) (by decide) (by decide), e 21 (by decide) (by decide) (by decide) (by decide), e 22 (by decide) (by decide) (by decide) (by decide)]
    have v := tM_v (ν := ν) (k := k) (w := w) (g := g)
    rw [v.2.2.2]
    exact ⟨f.1, f.2.1, f.2.2.1, fun e a c => by have := f.2.2.2 e a c; omega⟩
  · unfold SOK at s ⊢
    rw [e0 37 (by decide), e 25 (by decide) (by decide) (by decide) (by decide), e 26 (by decide) (by decide) (by decide) (by decide), e 27 (by decide) (by decide) (by decide) (by decide)]
    have v := tM_v (ν := ν) (k := k) (w := w) (g := g)
    rw [v.2.2.2]
    exact ⟨s.1, fun e a c => by obtain ⟨s1, s2, s3, s4⟩ := s.2 e a c; exact ⟨s1, by omega, by omega, s4⟩⟩
  · unfold KR at r ⊢
    simp only [kd_11, kd_12, kr_2, kr_3, kr_4, kr_5, kr_6, kr_7, kr_8, kr_9, kr_10, kr_11] at r ⊢
    rw [e0 12 (by decide), e 5 (by decide) (by decide) (by decide) (by decide), e 6 (by decide) (by decide) (by decide) (by decide), e 7 (by decide) (by decide) (by decide) (by decide), e 8 (by decide) (by decide) (by decide) (by decide), e 9 (by decide) (by decide) (by decide) (by decide), e 10 (by decide) (by decide) (by decide) (by decide), e 11 (by decide) (by decide) (by decide) (by decide), c1 7 (by decide) (by decide) (by decide) (by decide), cq 11 (by decide) (by decide), cq 12 (by decide) (by decide), cq 13 (by decide) (by decide)]
    have v := tM_v (ν := ν) (k := k) (w := w) (g := g)
    have x := tC_v (μ := μ) (W := W) (H := H) (k := k) (w := w) (g := g)
    rw [v.2.2.2, x.2.1, x.2.2.1]
    obtain ⟨r1, r2, r3, r4, r5, W0, w1, w2, w3⟩ := r
    have eW : W0 = W := by omega
    subst eW
    have hn := k1.1
    simp only [kd_11] at hn
    refine ⟨⟨by rw [r1.1], r1.2⟩, ?_, r3, r4, r5, _, rfl, wbN_lt (n := 12) w2 (by omega), fun t ht => ?_⟩
    · funext e; rw [x.1, v.1, r1.1, r2]
    · rw [wbN_bit, v.1, v.2.1]
      by_cases q : (t : Int) = ν.1 0 11
      · rw [if_pos (by omega), if_pos q, if_pos q, decide_eq_true_eq]
        omega
      · rw [if_neg (by omega), if_neg q, if_neg q]
        exact w3 t (by omega)
  · unfold HH at hh ⊢
    simp only [kd_11, kd_12, kr_2, kr_3, kr_4, kr_5, kr_6, kr_7, kr_8, kr_9, kr_10, kr_11] at hh ⊢
    have v := tM_v (ν := ν) (k := k) (w := w) (g := g)
    have x := tC_v (μ := μ) (W := W) (H := H) (k := k) (w := w) (g := g)
    rw [v.2.2.2, x.2.2.2]
    obtain ⟨H0, w1, w2, w3⟩ := hh
    have eH : H0 = H := by omega
    subst eH
    have hn := k1.1
    simp only [kd_11] at hn
    have r6 := r.1.1
    simp only [kd_11] at r6
    refine ⟨_, rfl, wbN_lt (n := 12) w2 (by omega), fun t ht => ?_⟩
    rw [wbN_bit, v.2.2.1]
    by_cases q : (t : Int) = ν.1 0 11
    · rw [if_pos (by omega), if_pos q, decide_eq_true_eq]
      omega
    · rw [if_neg (by omega), if_neg q]
      exact w3 t (by omega)
  · unfold FR at fr ⊢
    rw [e0 30 (by decide), e 20 (by decide) (by decide) (by decide) (by decide), e 21 (by decide) (by decide) (by decide) (by decide), e 22 (by decide) (by decide) (by decide) (by decide), c1 8 (by decide) (by decide) (by decide) (by decide), cq 14 (by decide) (by decide)]
    exact fr
  · unfold SRr at sr ⊢
    rw [e0 37 (by decide), e 25 (by decide) (by decide) (by decide) (by decide), e 26 (by decide) (by decide) (by decide) (by decide), e 27 (by decide) (by decide) (by decide) (by decide), c1 9 (by decide) (by decide) (by decide) (by decide), cq 15 (by decide) (by decide)]
    exact sr
