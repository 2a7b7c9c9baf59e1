theorem TD_at {φ : Int → Bool} {pl m u g : Int} (h : TD φ pl m u) (hg : 1 ≤ g ∧ g ≤ 4) : φ (pl + (g - 1)) = decide (1 ≤ m ∧ m ≤ g) := by
  obtain ⟨⟨h0, h9⟩, h1, h2, h3, h4, -⟩ := h
  rcases (show g = 1 ∨ g = 2 ∨ g = 3 ∨ g = 4 by omega) with rfl | rfl | rfl | rfl
  · rw [show pl + (1 - 1) = pl by omega, h1]
  · rw [show pl + (2 - 1) = pl + 1 by omega, h2]
  · rw [show pl + (3 - 1) = pl + 2 by omega, h3]
  · rw [show pl + (4 - 1) = pl + 3 by omega, h4]
    exact decide_eq_decide.mpr (by omega)
theorem ones_bit {w : Nat} (hw : w < 64) : (BitVec.allOnes 64).getLsbD w = true := by
  rw [BitVec.getLsbD_allOnes]
  exact decide_eq_true hw
theorem TD_hnd {K : Cel} {F : Pl} {t m u : Int} {w : Nat} (hw : w < 64) (h : TD (bw F w) 0 m u) (hm : 1 ≤ m) : TD (bw (hndF K t F) w) 0 (thenX K t m) u := by
  obtain ⟨⟨h0, h9⟩, h1, h2, h3, h4, h5⟩ := h
  have ed : ∀ i : Int, 4 ≤ i → bw (hndF K t F) w i = bw F w i := fun i hi => by
    unfold hndF
    split <;> rw [lput_bit, if_neg (by omega), lput_bit, if_neg (by omega), lput_bit, if_neg (by omega), lput_bit, if_neg (by omega)]
  have h50 := h5 (by omega)
  unfold thenX
  by_cases q : K 2 t = 2
  · rw [if_pos q]
    have e : ∀ i : Int, 0 ≤ i → i < 4 → bw (hndF K t F) w i = true := fun i a b => by
      unfold hndF
      rw [if_pos q]
      rcases (show i = 0 ∨ i = 1 ∨ i = 2 ∨ i = 3 by omega) with rfl | rfl | rfl | rfl
      · rw [lput_bit, if_pos rfl, ones_bit hw]
      · rw [lput_bit, if_neg (by decide), lput_bit, if_pos rfl, ones_bit hw]
      · rw [lput_bit, if_neg (by decide), lput_bit, if_neg (by decide), lput_bit, if_pos rfl, ones_bit hw]
      · rw [lput_bit, if_neg (by decide), lput_bit, if_neg (by decide), lput_bit, if_neg (by decide), lput_bit, if_pos rfl, ones_bit hw]
    refine ⟨by omega, e 0 (by omega) (by omega), e _ (by omega) (by omega), e _ (by omega) (by omega), e _ (by omega) (by omega), fun _ => ?_⟩
    obtain ⟨n, a1, a2, a3⟩ := h50
    exact ⟨n, a1, a2, fun k hk => (ed _ (by omega)).trans (a3 k hk)⟩
  · rw [if_neg q]
    have e0 : bw (hndF K t F) w 0 = false := by
      unfold hndF
      rw [if_neg q, lput_bit, if_pos rfl, BitVec.getLsbD_zero]
    have e1 : bw (hndF K t F) w (0 + 1) = bw F w 0 := by
      unfold hndF
      rw [if_neg q, lput_bit, if_neg (by decide), lput_bit, if_pos (by decide)]
      rfl
    have e2 : bw (hndF K t F) w (0 + 2) = bw F w (0 + 1) := by
      unfold hndF
      rw [if_neg q, lput_bit, if_neg (by decide), lput_bit, if_neg (by decide), lput_bit, if_pos (by decide)]
      rfl
    have e3 : bw (hndF K t F) w (0 + 3) = true := by
      unfold hndF
      rw [if_neg q, lput_bit, if_neg (by decide), lput_bit, if_neg (by decide), lput_bit, if_neg (by decide), lput_bit, if_pos (by decide), ones_bit hw]
    unfold TD
    rw [e0, e1, e2, e3, h1, h2]
    refine ⟨by split <;> omega, ?_, ?_, ?_, ?_, fun _ => ?_⟩
    · symm; exact decide_eq_false (by split <;> omega)
    · exact decide_eq_decide.mpr (by split <;> omega)
    · exact decide_eq_decide.mpr (by split <;> omega)
    · symm; exact decide_eq_true (by split <;> omega)
    · obtain ⟨n, a1, a2, a3⟩ := h50
      exact ⟨n, a1, a2, fun k hk => (ed _ (by omega)).trans (a3 k hk)⟩
theorem takB_bit {K : Cel} {p : Int} {N F : Pl} {t : Int} {W : BitVec 64} {w : Nat} (hw : w < 64) : (takB K p N F t W).getLsbD w = (decide (1 ≤ K 5 (p + K 2 t)) && bw F w (K 5 (p + K 2 t) - 1) && W.getLsbD w && !(bw N w (t * 13 + 10)) && (!(decide (K 2 t = 1 ∨ K 2 t = 2)) || bw N w (t * 13 + 9))) := by
  unfold takB bw
  by_cases g : K 5 (p + K 2 t) < 1
  · rw [if_pos g, decide_eq_false (by omega)]
    simp
  · rw [if_neg g, decide_eq_true (by omega)]
    by_cases f : K 2 t = 1 ∨ K 2 t = 2
    · rw [if_pos f, decide_eq_true f]
      simp [hw]
    · rw [if_neg f, decide_eq_false f]
      simp [hw]
theorem giveN_bit {K : Cel} {p : Int} {N F : Pl} {t : Int} {W : BitVec 64} {w : Nat} (hw : w < 64) : bw (giveN K p N F t W) w = if (takB K p N F t W).getLsbD w = true then (fun j => if j = t * 13 + 12 then false else lesb (bw N w) (bw (hndF K t F) w) 0 (t * 13) j) else bw N w := by
  unfold giveN
  generalize takB K p N F t W = T
  by_cases z : T = 0#64
  · rw [if_pos z, z]
    simp
  · rw [if_neg z]
    funext j
    rw [lput_bit, lesN_bit hw, BitVec.getLsbD_and, BitVec.getLsbD_not]
    cases hT : T.getLsbD w with
    | true => simp
    | false =>
      by_cases q : j = t * 13 + 12
      · subst q; simp [bw, hw]
      · simp [q]
theorem RX_gv {K X : Cel} {β φ : Int → Bool} {t c u : Int} (hX : RX K X β) (ht : 0 ≤ t ∧ t < K 0 11) (hn : TD φ 0 c u) (hc : 1 ≤ c ∧ c ≤ 4) : RX K (gvX X t c u) (fun j => if j = t * 13 + 12 then false else lesb β φ 0 (t * 13) j) := by
  have hR := hX t ht.1 ht.2
  obtain ⟨r1, r9, r10, r11, r12, r16, r14, r2⟩ := hR
  refine RX_upd (t := t) hX (fun j hj => ?_) (fun q j hj _ => ?_) ?_ ⟨?_, ?_, ?_, ?_, ?_, ?_, ?_, ?_⟩
  · show (if j = t * 13 + 12 then false else _) = _
    rw [if_neg (by omega)]
    exact lesb_out (by omega)
  · rw [gvX_v, if_neg (fun z => hj z.1), if_neg (fun z => hj z.1), if_neg (fun z => hj z.1)]
  · rw [gvX_v, if_neg (by omega), if_neg (by omega), if_neg (by omega)]
  · have h3 := TD_les r1 hn
    have e3 : gvX X t c u 13 t = if c ≠ 0 ∧ (X 13 t = 0 ∨ c < X 13 t) then c else X 13 t := by
      rw [gvX_v, if_neg (by omega)]
      by_cases q : X 13 t = 0 ∨ c < X 13 t
      · rw [if_pos ⟨rfl, rfl, q⟩, if_pos ⟨by omega, q⟩]
      · rw [if_neg (fun z => q z.2.2), if_neg (by omega), if_neg (fun z => q z.2)]
    have e4 : gvX X t c u 14 t = if c ≠ 0 ∧ (X 13 t = 0 ∨ c < X 13 t) then u else X 14 t := by
      rw [gvX_v, if_neg (by omega), if_neg (by omega)]
      by_cases q : X 13 t = 0 ∨ c < X 13 t
      · rw [if_pos ⟨rfl, rfl, q⟩, if_pos ⟨by omega, q⟩]
      · rw [if_neg (fun z => q z.2.2), if_neg (fun z => q z.2)]
    rw [e3, e4]
    exact TD_frame h3 (fun i a b => by
      show (if t * 13 + i = t * 13 + 12 then false else _) = _
      rw [if_neg (by omega)])
  · show (if t * 13 + 9 = t * 13 + 12 then false else _) = _
    rw [if_neg (by omega), lesb_out (by omega), r9, gvX_v, if_neg (by omega), if_neg (by omega), if_neg (by omega)]
  · show (if t * 13 + 10 = t * 13 + 12 then false else _) = _
    rw [if_neg (by omega), lesb_out (by omega), r10, gvX_v, if_neg (by omega), if_neg (by omega), if_neg (by omega)]
  · intro k5
    show (if t * 13 + 11 = t * 13 + 12 then false else _) = _
    rw [if_neg (by omega), lesb_out (by omega), r11 k5, gvX_v, if_neg (by omega), if_neg (by omega), if_neg (by omega)]
  · intro _ _
    show (if t * 13 + 12 = t * 13 + 12 then false else _) = _
    rw [if_pos rfl, gvX_v, if_pos ⟨rfl, rfl⟩]
    rfl
  · intro _
    rw [gvX_v, if_pos ⟨rfl, rfl⟩]
  · intro z
    exfalso
    rw [gvX_v, if_neg (by omega)] at z
    by_cases q : X 13 t = 0 ∨ c < X 13 t
    · rw [if_pos ⟨rfl, rfl, q⟩] at z
      omega
    · rw [if_neg (fun z => q z.2.2), if_neg (by omega)] at z
      exact q (Or.inl z)
  · intro k2
    rw [gvX_v, if_neg (by omega), if_neg (by omega), if_neg (by omega)]
    exact r2 k2
theorem RX_give {K X : Cel} {N F : Pl} {p t m u : Int} {W : BitVec 64} {w : Nat} (hw : w < 64) (hK : KOK K) (hX : RX K X (bw N w)) (ht : 0 ≤ t ∧ t < K 0 11) (hg : TD (bw F w) 0 m u) (hp : p = if X 0 24 ≠ 0 then 6 else 0) (hW : W.getLsbD w = true) : RX K (givesX K X t m u) (bw (giveN K p N F t W) w) := by
  have hR := hX t ht.1 ht.2
  obtain ⟨r1, r9, r10, r11, r12, r16, r14, r2⟩ := hR
  have hT := takB_bit (K := K) (p := p) (N := N) (F := F) (t := t) (W := W) hw
  have h5 := hK.2.2.2.2.1 (p + K 2 t)
  have eg : K 5 (if X 0 24 ≠ 0 then 6 + K 2 t else K 2 t) = K 5 (p + K 2 t) := by
    rw [hp]
    split
    · rfl
    · rw [Int.zero_add]
  have hT2 : (takB K p N F t W).getLsbD w = decide (¬ (m = 0 ∨ K 5 (p + K 2 t) < m ∨ X 17 t ≠ 0 ∨ (K 2 t = 1 ∧ X 19 t = 0))) := by
    rw [hT, hW, r9, r10]
    have hm := hg.1
    by_cases g1 : 1 ≤ K 5 (p + K 2 t)
    · have ha := TD_at hg (g := K 5 (p + K 2 t)) ⟨g1, h5.2⟩
      rw [Int.zero_add] at ha
      rw [ha]
      refine Bool.eq_iff_iff.mpr ?_
      simp only [Bool.and_eq_true, decide_eq_true_eq, Bool.or_eq_true, Bool.not_eq_true', decide_eq_false_iff_not, and_true]
      clear hT eg ha
      constructor
      · intro h; omega
      · intro h
        by_cases k2 : K 2 t = 2
        · have := r2 k2
          omega
        · omega
    · rw [decide_eq_false g1]
      simp only [Bool.false_and]
      symm
      exact decide_eq_false (by omega)
  rw [giveN_bit hw, hT2]
  unfold givesX
  rw [eg]
  by_cases C : m = 0 ∨ K 5 (p + K 2 t) < m ∨ X 17 t ≠ 0 ∨ (K 2 t = 1 ∧ X 19 t = 0)
  · rw [if_pos C, decide_eq_false (fun h => h C), if_neg (by decide)]
    exact hX
  · rw [if_neg C, decide_eq_true C, if_pos rfl]
    have hm := hg.1
    have hc := thenX_in (K := K) (t := t) hm
    have hn := TD_hnd (K := K) (t := t) hw hg (by omega)
    show RX K (gvX X t (thenX K t m) u) _
    generalize thenX K t m = c at hc hn ⊢
    exact RX_gv hX ht hn ⟨hc.1, hc.2⟩
theorem giveN_off {K : Cel} {p : Int} {N F : Pl} {t : Int} {W : BitVec 64} {w : Nat} (hw : w < 64) (hW : W.getLsbD w = false) : bw (giveN K p N F t W) w = bw N w := by
  rw [giveN_bit hw, takB_bit hw, hW]
  simp
