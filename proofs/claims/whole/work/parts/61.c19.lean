/-! ONE WAY'S BITS of the planes -/
def bw (N : Pl) (w : Nat) : Int → Bool := fun j => (N j).getLsbD w
def lesB (β φ : Int → Bool) (pl ba : Int) : Bool := (φ pl && !β ba) || (φ (pl + 1) && !β (ba + 1)) || (φ (pl + 2) && !β (ba + 2)) || (φ (pl + 3) && !β (ba + 3))
def lesb (β φ : Int → Bool) (pl ba : Int) : Int → Bool := fun j => if ba ≤ j ∧ j < ba + 4 then (β j || φ (pl + (j - ba))) else if ba + 4 ≤ j ∧ j < ba + 9 then (if lesB β φ pl ba = true then φ (pl + (j - ba)) else β j) else β j
theorem lesb_out {β φ : Int → Bool} {pl ba j : Int} (h : j < ba ∨ ba + 9 ≤ j) : lesb β φ pl ba j = β j := by
  unfold lesb
  rw [if_neg (by omega), if_neg (by omega)]
theorem lesL_bit {N F : Pl} {pl ba : Int} {W : BitVec 64} {w : Nat} (hw : w < 64) : (lesL N F pl ba W 4).getLsbD w = (W.getLsbD w && lesB (bw N w) (bw F w) pl ba) := by
  unfold lesL lesB bw
  simp only [Int.reduceLT, if_true, BitVec.getLsbD_or, BitVec.getLsbD_and, BitVec.getLsbD_not, decide_eq_true hw, Bool.true_and]
  cases W.getLsbD w <;> simp
theorem lesN_bit {N F : Pl} {pl ba : Int} {W : BitVec 64} {w : Nat} (hw : w < 64) : bw (lesN N F pl ba W) w = if W.getLsbD w = true then lesb (bw N w) (bw F w) pl ba else bw N w := by
  have hL := lesL_bit (N := N) (F := F) (pl := pl) (ba := ba) (W := W) hw
  funext j
  show ((lesN N F pl ba W) j).getLsbD w = _
  unfold lesN les2
  by_cases q : ba + 4 ≤ j ∧ j < ba + 9
  · have e : les1 N F pl ba W 4 j = N j := if_neg (by omega)
    rw [if_pos q, e, BitVec.getLsbD_or, BitVec.getLsbD_and, BitVec.getLsbD_and, BitVec.getLsbD_not, hL]
    cases hW : W.getLsbD w with
    | false => simp [bw, hw]
    | true =>
      rw [if_pos rfl]
      unfold lesb
      rw [if_neg (by omega), if_pos q]
      cases hB : lesB (bw N w) (bw F w) pl ba with
      | false => simp [bw, hw]
      | true => simp [bw]
  · rw [if_neg q]
    unfold les1
    by_cases r : ba ≤ j ∧ j < ba + 4
    · rw [if_pos r, BitVec.getLsbD_or, BitVec.getLsbD_and, BitVec.getLsbD_and, BitVec.getLsbD_not]
      cases hW : W.getLsbD w with
      | false => simp [bw]
      | true =>
        rw [if_pos rfl]
        unfold lesb
        rw [if_pos r]
        simp only [bw, decide_eq_true hw, Bool.true_and, Bool.and_true]
        cases (N j).getLsbD w <;> simp
    · rw [if_neg r]
      split
      · unfold lesb
        rw [if_neg r, if_neg q]
        rfl
      · rfl
theorem lput_bit {N : Pl} {j i : Int} {v : BitVec 64} {w : Nat} : bw (lput N j v) w i = if i = j then v.getLsbD w else bw N w i := by
  unfold bw lput
  split <;> rfl
theorem mkN_bit {N : Pl} {ba k i : Int} {W : BitVec 64} {w : Nat} (hw : w < 64) : bw (mkN N ba W k) w i = if ba ≤ i ∧ i < ba + k ∧ W.getLsbD w = true then false else bw N w i := by
  show (if ba ≤ i ∧ i < ba + k then N i &&& ~~~W else N i).getLsbD w = _
  by_cases q : ba ≤ i ∧ i < ba + k
  · rw [if_pos q, BitVec.getLsbD_and, BitVec.getLsbD_not]
    cases hW : W.getLsbD w with
    | false => simp [bw, hw]
    | true => simp [q]
  · rw [if_neg q, if_neg (fun h => q ⟨h.1, h.2.1⟩)]
    rfl
/-! a thing's record in a way: degree d, source s -/
def srcB (n : Nat) : Int := if n = 0 then 0 else 2 ^ (n - 1)
def TD (β : Int → Bool) (ba d s : Int) : Prop := (0 ≤ d ∧ d ≤ 4) ∧ β ba = decide (1 ≤ d ∧ d ≤ 1) ∧ β (ba + 1) = decide (1 ≤ d ∧ d ≤ 2) ∧ β (ba + 2) = decide (1 ≤ d ∧ d ≤ 3) ∧ β (ba + 3) = decide (1 ≤ d) ∧ (0 < d → ∃ n : Nat, n ≤ 20 ∧ s = srcB n ∧ ∀ k : Nat, k < 5 → β (ba + 4 + (k : Int)) = n.testBit k)
theorem TD_frame {β β' : Int → Bool} {ba ba' d s : Int} (h : TD β ba d s) (e : ∀ i, 0 ≤ i → i < 9 → β' (ba' + i) = β (ba + i)) : TD β' ba' d s := by
  obtain ⟨h1, h2, h3, h4, h5, h6⟩ := h
  have e0 := e 0 (by omega) (by omega)
  rw [Int.add_zero, Int.add_zero] at e0
  refine ⟨h1, e0.trans h2, (e 1 (by omega) (by omega)).trans h3, (e 2 (by omega) (by omega)).trans h4, (e 3 (by omega) (by omega)).trans h5, fun hd => ?_⟩
  obtain ⟨n, a1, a2, a3⟩ := h6 hd
  refine ⟨n, a1, a2, fun k hk => ?_⟩
  have := e (4 + (k : Int)) (by omega) (by omega)
  rw [← Int.add_assoc, ← Int.add_assoc] at this
  rw [this, a3 k hk]
theorem TD_0 {β : Int → Bool} {ba s : Int} (h : ∀ i, 0 ≤ i → i < 4 → β (ba + i) = false) : TD β ba 0 s := by
  have e0 := h 0 (by omega) (by omega)
  rw [Int.add_zero] at e0
  exact ⟨by omega, e0, h 1 (by omega) (by omega), h 2 (by omega) (by omega), h 3 (by omega) (by omega), fun q => absurd q (by decide)⟩
theorem TD_B {β φ : Int → Bool} {pl ba d s m u : Int} (h : TD β ba d s) (g : TD φ pl m u) : lesB β φ pl ba = decide (m ≠ 0 ∧ (d = 0 ∨ m < d)) := by
  obtain ⟨⟨h0, h9⟩, h1, h2, h3, h4, -⟩ := h
  obtain ⟨⟨g0, g9⟩, g1, g2, g3, g4, -⟩ := g
  unfold lesB
  rw [h1, h2, h3, h4, g1, g2, g3, g4]
  rcases (show d = 0 ∨ d = 1 ∨ d = 2 ∨ d = 3 ∨ d = 4 by omega) with rfl | rfl | rfl | rfl | rfl <;> rcases (show m = 0 ∨ m = 1 ∨ m = 2 ∨ m = 3 ∨ m = 4 by omega) with rfl | rfl | rfl | rfl | rfl <;> decide
theorem TD_les {β φ : Int → Bool} {pl ba d s m u : Int} (h : TD β ba d s) (g : TD φ pl m u) : TD (lesb β φ pl ba) ba (if m ≠ 0 ∧ (d = 0 ∨ m < d) then m else d) (if m ≠ 0 ∧ (d = 0 ∨ m < d) then u else s) := by
  have hB := TD_B h g
  obtain ⟨⟨h0, h9⟩, h1, h2, h3, h4, h5⟩ := h
  obtain ⟨⟨g0, g9⟩, g1, g2, g3, g4, g5⟩ := g
  have e0 : lesb β φ pl ba ba = (β ba || φ pl) := by
    unfold lesb
    rw [if_pos (by omega), Int.sub_self, Int.add_zero]
  have e : ∀ i : Int, 0 ≤ i → i < 4 → lesb β φ pl ba (ba + i) = (β (ba + i) || φ (pl + i)) := fun i q0 q1 => by
    unfold lesb
    rw [if_pos (by omega), show ba + i - ba = i by omega]
  have ed : ∀ k : Nat, k < 5 → lesb β φ pl ba (ba + 4 + (k : Int)) = if lesB β φ pl ba = true then φ (pl + 4 + (k : Int)) else β (ba + 4 + (k : Int)) := fun k hk => by
    unfold lesb
    rw [if_neg (by omega), if_pos (by omega), show pl + (ba + 4 + (k : Int) - ba) = pl + 4 + (k : Int) by omega]
  unfold TD
  rw [e0, e 1 (by omega) (by omega), e 2 (by omega) (by omega), e 3 (by omega) (by omega), h1, h2, h3, h4, g1, g2, g3, g4]
  by_cases q : m ≠ 0 ∧ (d = 0 ∨ m < d)
  · rw [if_pos q, if_pos q]
    rw [decide_eq_true q] at hB
    refine ⟨⟨g0, g9⟩, ?_, ?_, ?_, ?_, fun hm => ?_⟩
    · rw [← Bool.decide_or]; exact decide_eq_decide.mpr (by omega)
    · rw [← Bool.decide_or]; exact decide_eq_decide.mpr (by omega)
    · rw [← Bool.decide_or]; exact decide_eq_decide.mpr (by omega)
    · rw [← Bool.decide_or]; exact decide_eq_decide.mpr (by omega)
    · obtain ⟨n, a1, a2, a3⟩ := g5 hm
      exact ⟨n, a1, a2, fun k hk => by rw [ed k hk, if_pos hB, a3 k hk]⟩
  · rw [if_neg q, if_neg q]
    rw [decide_eq_false q] at hB
    refine ⟨⟨h0, h9⟩, ?_, ?_, ?_, ?_, fun hm => ?_⟩
    · rw [← Bool.decide_or]; exact decide_eq_decide.mpr (by omega)
    · rw [← Bool.decide_or]; exact decide_eq_decide.mpr (by omega)
    · rw [← Bool.decide_or]; exact decide_eq_decide.mpr (by omega)
    · rw [← Bool.decide_or]; exact decide_eq_decide.mpr (by omega)
    · obtain ⟨n, a1, a2, a3⟩ := h5 hm
      exact ⟨n, a1, a2, fun k hk => by rw [ed k hk, hB, if_neg (by decide), a3 k hk]⟩
/-- what a way's bits and the model's cells have in common, of a thing -/
def RT (K X : Cel) (β : Int → Bool) (t : Int) : Prop := TD β (t * 13) (X 13 t) (X 14 t) ∧ β (t * 13 + 9) = decide (X 19 t ≠ 0) ∧ β (t * 13 + 10) = decide (X 17 t ≠ 0) ∧ (K 2 t = 5 → β (t * 13 + 11) = decide (X 18 t ≠ 0)) ∧ (K 2 t = 3 → X 0 25 = 0 → β (t * 13 + 12) = decide (X 16 t ≠ 0)) ∧ (K 2 t ≠ 3 → X 16 t = 0) ∧ (X 13 t = 0 → X 14 t = 0) ∧ (K 2 t = 2 → X 19 t ≠ 0)
def RX (K X : Cel) (β : Int → Bool) : Prop := ∀ t, 0 ≤ t → t < K 0 11 → RT K X β t
theorem RT_frame {K X X' : Cel} {β β' : Int → Bool} {t : Int} (h : RT K X β t) (e : ∀ j, t * 13 ≤ j → j < t * 13 + 13 → β' j = β j) (e3 : X' 13 t = X 13 t) (e4 : X' 14 t = X 14 t) (e6 : X' 16 t = X 16 t) (e7 : X' 17 t = X 17 t) (e8 : X' 18 t = X 18 t) (e9 : X' 19 t = X 19 t) (e0 : X' 0 25 = X 0 25) : RT K X' β' t := by
  unfold RT at h ⊢
  rw [e3, e4, e6, e7, e8, e9, e0, e _ (by omega) (by omega), e _ (by omega) (by omega), e _ (by omega) (by omega), e _ (by omega) (by omega)]
  exact ⟨TD_frame h.1 (fun i h0 h1 => e _ (by omega) (by omega)), h.2⟩
theorem xput_v {X : Cel} {q q' : Nat} {j j' v : Int} : xput X q j v q' j' = if q' = q ∧ j' = j then v else X q' j' := by
  unfold xput
  by_cases a : q' = q
  · subst a; simp
  · simp [a]
/-- one thing alone is changed -/
theorem RX_upd {K X X' : Cel} {β β' : Int → Bool} {t : Int} (h : RX K X β) (e : ∀ j, j < t * 13 ∨ t * 13 + 13 ≤ j → β' j = β j) (ex : ∀ (q : Nat) (j : Int), j ≠ t → 13 ≤ q → X' q j = X q j) (e0 : X' 0 25 = X 0 25) (ht : RT K X' β' t) : RX K X' β' := by
  intro i h0 h1
  by_cases a : i = t
  · subst a; exact ht
  · exact RT_frame (h i h0 h1) (fun j g0 g1 => e j (by omega)) (ex _ _ a (by omega)) (ex _ _ a (by omega)) (ex _ _ a (by omega)) (ex _ _ a (by omega)) (ex _ _ a (by omega)) (ex _ _ a (by omega)) e0
theorem RX_bits {K X : Cel} {β β' : Int → Bool} (h : RX K X β) (e : β' = β) : RX K X β' := by subst e; exact h
/-- what is given, in the model -/
def gvX (X : Cel) (t c fr : Int) : Cel := setsX (if X 13 t = 0 ∨ c < X 13 t then xput X 14 t fr else X) t c
theorem gvX_v {X : Cel} {t c fr : Int} {q : Nat} {j : Int} : gvX X t c fr q j = if j = t ∧ q = 16 then 0 else if j = t ∧ q = 13 ∧ (X 13 t = 0 ∨ c < X 13 t) then c else if j = t ∧ q = 14 ∧ (X 13 t = 0 ∨ c < X 13 t) then fr else X q j := by
  unfold gvX setsX
  by_cases h : X 13 t = 0 ∨ c < X 13 t
  · rw [if_pos h]
    have e : xput X 14 t fr 13 t = X 13 t := by rw [xput_v, if_neg (by omega)]
    rw [e, if_pos h, xput_v, xput_v, xput_v]
    by_cases hj : j = t
    · subst hj
      by_cases a : q = 16
      · subst a; simp
      · by_cases b : q = 13
        · subst b; simp [h]
        · by_cases d : q = 14
          · subst d; simp [h]
          · simp [a, b, d]
    · simp [hj]
  · rw [if_neg h, if_neg h, xput_v]
    by_cases a : q = 16 ∧ j = t
    · rw [if_pos a, if_pos ⟨a.2, a.1⟩]
    · rw [if_neg a, if_neg (fun z => a ⟨z.2, z.1⟩), if_neg (fun z => h z.2.2), if_neg (fun z => h z.2.2)]
