theorem cleansX_v {X : Cel} {t : Int} {q : Nat} {j : Int} : cleansX X t q j = if j = t ∧ (q = 13 ∨ q = 14 ∨ q = 16) then 0 else X q j := by
  unfold cleansX
  rw [xput_v, xput_v, xput_v]
  by_cases hj : j = t
  · subst hj
    by_cases a : q = 16
    · subst a; simp
    · by_cases b : q = 14
      · subst b; simp
      · by_cases c : q = 13
        · subst c; simp
        · simp [a, b, c]
  · simp [hj]
/-- a thing is clean in a way: what the class keeps of its washing counts for persons alone -/
theorem RT_cleans {K X X' : Cel} {β β' : Int → Bool} {t : Int} (h : RT K X β t) (hβ : ∀ i, 0 ≤ i → i < 4 → β' (t * 13 + i) = false) (h9 : β' (t * 13 + 9) = β (t * 13 + 9)) (h11 : β' (t * 13 + 11) = β (t * 13 + 11)) (h10 : β' (t * 13 + 10) = decide (X' 17 t ≠ 0)) (h12 : K 2 t = 3 → X' 0 25 = 0 → β' (t * 13 + 12) = decide (X' 16 t ≠ 0)) (e13 : X' 13 t = 0) (e14 : X' 14 t = 0) (e16 : X' 16 t = 0) (e18 : X' 18 t = X 18 t) (e19 : X' 19 t = X 19 t) : RT K X' β' t := by
  obtain ⟨r1, r9, r10, r11, r12, r16, r14, r2⟩ := h
  refine ⟨?_, ?_, h10, fun k => ?_, h12, fun _ => e16, fun _ => e14, fun k => ?_⟩
  · rw [e13]; exact TD_0 hβ
  · rw [h9, r9, e19]
  · rw [h11, r11 k, e18]
  · rw [e19]; exact r2 k
theorem altN_off {K : Cel} {N : Pl} {k t : Int} {W : BitVec 64} {w : Nat} (hw : w < 64) (hW : W.getLsbD w = false) : bw (altN K N k t W) w = bw N w := by
  have l : ∀ (M : Pl) (i : Int) (v : BitVec 64), bw M w = bw N w → v.getLsbD w = bw N w i → bw (lput M i v) w = bw N w := fun M i v h1 h2 => by
    funext j
    rw [lput_bit]
    split
    · rename_i e; rw [h2, e]
    · rw [h1]
  have o : ∀ (i : Int), (N i ||| W).getLsbD w = bw N w i := fun i => by rw [BitVec.getLsbD_or, hW, Bool.or_false]; rfl
  have mk : bw (mkN N (t * 13) W 4) w = bw N w := by
    funext j
    rw [mkN_bit hw, hW]
    simp
  unfold altN
  split
  · split
    · exact mk
    · split
      · refine l _ _ _ rfl ?_
        unfold wshB
        simp [hW, bw]
      · rfl
  · split
    · split
      · exact l _ _ _ mk (o _)
      · rfl
    · split
      · exact l _ _ _ rfl (o _)
      · exact l _ _ _ rfl (o _)
theorem RX_put {K X X' : Cel} {N : Pl} {t : Int} {w : Nat} {c : Nat} {q : Nat} {v : BitVec 64} {x : Int} (hX : RX K X (bw N w)) (ht : 0 ≤ t ∧ t < K 0 11) (hc : (c = 9 ∧ q = 19 ∧ x ≠ 0 ∧ v.getLsbD w = true) ∨ (c = 11 ∧ q = 18 ∧ (K 2 t = 5 → v.getLsbD w = decide (x ≠ 0))) ∨ (c = 12 ∧ q = 16 ∧ K 2 t = 3 ∧ (X 0 25 = 0 → v.getLsbD w = decide (x ≠ 0)))) (hX' : X' = xput X q t x) : RX K X' (bw (lput N (t * 13 + (c : Int)) v) w) := by
  subst hX'
  have hR := hX t ht.1 ht.2
  obtain ⟨r1, r9, r10, r11, r12, r16, r14, r2⟩ := hR
  have e : ∀ (q' : Nat), q' ≠ q → xput X q t x q' = X q' := fun q' h => xput_ne h
  have e1 : ∀ i : Int, i ≠ t * 13 + (c : Int) → bw (lput N (t * 13 + (c : Int)) v) w i = bw N w i := fun i h => by rw [lput_bit, if_neg h]
  have e2 : bw (lput N (t * 13 + (c : Int)) v) w (t * 13 + (c : Int)) = v.getLsbD w := by rw [lput_bit, if_pos rfl]
  have e3 : xput X q t x q t = x := by rw [xput_v, if_pos ⟨rfl, rfl⟩]
  refine RX_upd (t := t) hX (fun j hj => e1 j (by omega)) (fun q' j hj _ => by rw [xput_v, if_neg (fun z => hj z.2)]) (by rw [e 0 (by omega)]) ?_
  rcases hc with ⟨rfl, rfl, h1, h2⟩ | ⟨rfl, rfl, h1⟩ | ⟨rfl, rfl, h1, h2⟩
  · refine ⟨?_, ?_, ?_, fun k => ?_, fun k g => ?_, fun k => ?_, fun z => ?_, fun k => ?_⟩
    · rw [e 13 (by decide), e 14 (by decide)]; exact TD_frame r1 (fun i a b => e1 _ (by omega))
    · rw [e3, decide_eq_true h1]; exact e2.trans h2
    · rw [e1 _ (by omega), r10, e 17 (by decide)]
    · rw [e1 _ (by omega), r11 k, e 18 (by decide)]
    · rw [e1 _ (by omega), r12 k (by rw [← e 0 (by decide)]; exact g), e 16 (by decide)]
    · rw [e 16 (by decide)]; exact r16 k
    · rw [e 14 (by decide)]; rw [e 13 (by decide)] at z; exact r14 z
    · rw [e3]; exact h1
  · refine ⟨?_, ?_, ?_, fun k => ?_, fun k g => ?_, fun k => ?_, fun z => ?_, fun k => ?_⟩
    · rw [e 13 (by decide), e 14 (by decide)]; exact TD_frame r1 (fun i a b => e1 _ (by omega))
    · rw [e1 _ (by omega), r9, e 19 (by decide)]
    · rw [e1 _ (by omega), r10, e 17 (by decide)]
    · rw [e3]; exact e2.trans (h1 k)
    · rw [e1 _ (by omega), r12 k (by rw [← e 0 (by decide)]; exact g), e 16 (by decide)]
    · rw [e 16 (by decide)]; exact r16 k
    · rw [e 14 (by decide)]; rw [e 13 (by decide)] at z; exact r14 z
    · rw [e 19 (by decide)]; exact r2 k
  · refine ⟨?_, ?_, ?_, fun k => ?_, fun k g => ?_, fun k => ?_, fun z => ?_, fun k => ?_⟩
    · rw [e 13 (by decide), e 14 (by decide)]; exact TD_frame r1 (fun i a b => e1 _ (by omega))
    · rw [e1 _ (by omega), r9, e 19 (by decide)]
    · rw [e1 _ (by omega), r10, e 17 (by decide)]
    · rw [e1 _ (by omega), r11 k, e 18 (by decide)]
    · rw [e3]; exact e2.trans (h2 (by rw [← e 0 (by decide)]; exact g))
    · exact absurd h1 k
    · rw [e 14 (by decide)]; rw [e 13 (by decide)] at z; exact r14 z
    · rw [e 19 (by decide)]; exact r2 k
theorem RX_alt {K X : Cel} {N : Pl} {k t y fr : Int} {W : BitVec 64} {w : Nat} (hw : w < 64) (hX : RX K X (bw N w)) (ht : 0 ≤ t ∧ t < K 0 11) (hk : 5 ≤ k ∧ k ≤ 8) (hW : W.getLsbD w = true) : RX K (actX K X k t y fr) (bw (altN K N k t W) w) := by
  have hR := hX t ht.1 ht.2
  have hR2 := hR
  obtain ⟨r1, r9, r10, r11, r12, r16, r14, r2⟩ := hR2
  have mb : ∀ i : Int, bw (mkN N (t * 13) W 4) w i = if t * 13 ≤ i ∧ i < t * 13 + 4 then false else bw N w i := fun i => by
    rw [mkN_bit hw, hW]
    simp
  rcases (show k = 5 ∨ k = 6 ∨ k = 7 ∨ k = 8 by omega) with rfl | rfl | rfl | rfl
  · show RX K (washesX K X t) _
    unfold altN washesX
    rw [if_pos rfl]
    dsimp only
    by_cases v : K 2 t = 0 ∨ K 2 t = 5
    · rw [if_pos v, if_pos v, if_neg (by omega)]
      refine RX_upd (t := t) hX (fun j hj => by rw [mb, if_neg (by omega)]) (fun q j hj _ => by rw [cleansX_v, if_neg (fun z => hj z.1)]) (by rw [cleansX_v, if_neg (by omega)]) ?_
      refine RT_cleans hR (fun i a b => ?_) ?_ ?_ ?_ (fun k3 => by omega) ?_ ?_ ?_ ?_ ?_
      · rw [mb, if_pos (by omega)]
      · rw [mb, if_neg (by omega)]
      · rw [mb, if_neg (by omega)]
      · rw [mb, if_neg (by omega), r10, cleansX_v, if_neg (by omega)]
      · rw [cleansX_v, if_pos ⟨rfl, Or.inl rfl⟩]
      · rw [cleansX_v, if_pos ⟨rfl, Or.inr (Or.inl rfl)⟩]
      · rw [cleansX_v, if_pos ⟨rfl, Or.inr (Or.inr rfl)⟩]
      · rw [cleansX_v, if_neg (by omega)]
      · rw [cleansX_v, if_neg (by omega)]
    · rw [if_neg v, if_neg v]
      by_cases k3 : K 2 t = 3
      · rw [if_pos k3]
        have hv : (N (t * 13 + 12) ||| wshB N W t).getLsbD w = (bw N w (t * 13 + 12) || decide (1 ≤ X 13 t)) := by
          have := r1.2.2.2.2.1
          unfold bw at this ⊢
          unfold wshB
          rw [BitVec.getLsbD_or, BitVec.getLsbD_and, BitVec.getLsbD_and, BitVec.getLsbD_not, hW, this, decide_eq_true hw]
          cases (N (t * 13 + 12)).getLsbD w <;> simp
        by_cases p : 0 < X 13 t
        · rw [if_pos ⟨k3, p⟩]
          refine RX_put hX ht (c := 12) (x := if X 0 25 = 0 then 1 else 0) (Or.inr (Or.inr ⟨rfl, rfl, k3, fun z => ?_⟩)) rfl
          rw [hv, if_pos z, decide_eq_true (by omega)]
          simp
        · rw [if_neg (fun z => p z.2)]
          refine RX_put hX ht (c := 12) (x := X 16 t) (Or.inr (Or.inr ⟨rfl, rfl, k3, fun z => ?_⟩)) ?_
          · rw [hv, r12 k3 z, decide_eq_false (by omega : ¬ 1 ≤ X 13 t), Bool.or_false]
          · funext q j
            rw [xput_v]
            split
            · rename_i g; rw [g.1, g.2]
            · rfl
      · rw [if_neg k3, if_neg (fun z => k3 z.1)]
        exact hX
  · unfold altN
    rw [if_neg (by decide), if_pos rfl]
    show RX K (if K 2 t = 0 ∨ K 2 t = 5 then xput (cleansX X t) 17 t 1 else X) _
    by_cases v : K 2 t = 0 ∨ K 2 t = 5
    · rw [if_pos v, if_pos v]
      have lb : ∀ i : Int, bw (lput (mkN N (t * 13) W 4) (t * 13 + 10) (N (t * 13 + 10) ||| W)) w i = if i = t * 13 + 10 then true else if t * 13 ≤ i ∧ i < t * 13 + 4 then false else bw N w i := fun i => by
        rw [lput_bit, mb, BitVec.getLsbD_or, hW, Bool.or_true]
      refine RX_upd (t := t) hX (fun j hj => by rw [lb, if_neg (by omega), if_neg (by omega)]) (fun q j hj _ => by rw [xput_v, if_neg (fun z => hj z.2), cleansX_v, if_neg (fun z => hj z.1)]) (by rw [xput_v, if_neg (by omega), cleansX_v, if_neg (by omega)]) ?_
      refine RT_cleans hR (fun i a b => ?_) ?_ ?_ ?_ (fun k3 => by omega) ?_ ?_ ?_ ?_ ?_
      · rw [lb, if_neg (by omega), if_pos (by omega)]
      · rw [lb, if_neg (by omega), if_neg (by omega)]
      · rw [lb, if_neg (by omega), if_neg (by omega)]
      · rw [lb, if_pos rfl, xput_v, if_pos ⟨rfl, rfl⟩]
        rfl
      · rw [xput_v, if_neg (by omega), cleansX_v, if_pos ⟨rfl, Or.inl rfl⟩]
      · rw [xput_v, if_neg (by omega), cleansX_v, if_pos ⟨rfl, Or.inr (Or.inl rfl)⟩]
      · rw [xput_v, if_neg (by omega), cleansX_v, if_pos ⟨rfl, Or.inr (Or.inr rfl)⟩]
      · rw [xput_v, if_neg (by omega), cleansX_v, if_neg (by omega)]
      · rw [xput_v, if_neg (by omega), cleansX_v, if_neg (by omega)]
    · rw [if_neg v, if_neg v]
      exact hX
  · unfold altN
    rw [if_neg (by decide), if_neg (by decide), if_pos rfl]
    show RX K (xput X 18 t (if K 2 t = 5 ∨ X 18 t ≠ 0 then 1 else 0)) _
    refine RX_put hX ht (c := 11) (Or.inr (Or.inl ⟨rfl, rfl, fun k5 => ?_⟩)) rfl
    rw [BitVec.getLsbD_or, hW, if_pos (Or.inl k5), Bool.or_true]
    rfl
  · unfold altN
    rw [if_neg (by decide), if_neg (by decide), if_neg (by decide)]
    show RX K (xput X 19 t 1) _
    refine RX_put hX ht (c := 9) (Or.inl ⟨rfl, rfl, by decide, ?_⟩) rfl
    rw [BitVec.getLsbD_or, hW, Bool.or_true]
