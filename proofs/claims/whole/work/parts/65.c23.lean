theorem gvX_0 {X : Cel} {t c fr : Int} {j : Int} : gvX X t c fr 0 j = X 0 j := by
  rw [gvX_v, if_neg (by omega), if_neg (by omega), if_neg (by omega)]
theorem givesX_0 {K X : Cel} {t d fr : Int} {j : Int} : (givesX K X t d fr) 0 j = X 0 j := by
  unfold givesX
  generalize K 5 (if X 0 24 ≠ 0 then 6 + K 2 t else K 2 t) = g
  split
  · rfl
  · exact gvX_0
theorem gvX_comm {X : Cel} {a b c c' s s' : Int} (h : a ≠ b) : gvX (gvX X b c s) a c' s' = gvX (gvX X a c' s') b c s := by
  funext q j
  have h1 : gvX X b c s 13 a = X 13 a := by rw [gvX_v, if_neg (fun z => h z.1), if_neg (fun z => h z.1), if_neg (fun z => h z.1)]
  have h2 : gvX X a c' s' 13 b = X 13 b := by rw [gvX_v, if_neg (fun z => h z.1.symm), if_neg (fun z => h z.1.symm), if_neg (fun z => h z.1.symm)]
  rw [gvX_v, h1, gvX_v, gvX_v (X := gvX X a c' s'), h2, gvX_v]
  by_cases ja : j = a
  · subst ja
    simp [h]
  · by_cases jb : j = b
    · subst jb
      simp [Ne.symm h]
    · simp [ja, jb]
theorem gvX_17 {X : Cel} {t c fr : Int} {q : Nat} {j : Int} (h : q = 17 ∨ q = 19) : gvX X t c fr q j = X q j := by
  rw [gvX_v, if_neg (by omega), if_neg (by omega), if_neg (by omega)]
theorem gives_comm {K X : Cel} {a b d d' s s' : Int} (h : a ≠ b) : givesX K (givesX K X b d s) a d' s' = givesX K (givesX K X a d' s') b d s := by
  have e : ∀ (Y : Cel) (t d fr : Int), givesX K Y t d fr = if d = 0 ∨ K 5 (if Y 0 24 ≠ 0 then 6 + K 2 t else K 2 t) < d ∨ Y 17 t ≠ 0 ∨ (K 2 t = 1 ∧ Y 19 t = 0) then Y else gvX Y t (thenX K t d) fr := fun _ _ _ _ => rfl
  have e17 : ∀ (Y : Cel) (t d fr : Int) (q : Nat) (j : Int), (q = 17 ∨ q = 19) → givesX K Y t d fr q j = Y q j := fun Y t d fr q j hq => by
    rw [e]
    generalize K 5 (if Y 0 24 ≠ 0 then 6 + K 2 t else K 2 t) = g
    split
    · rfl
    · exact gvX_17 hq
  rw [e (givesX K X b d s), e (givesX K X a d' s'), givesX_0, givesX_0, e17 _ _ _ _ _ _ (Or.inl rfl), e17 _ _ _ _ _ _ (Or.inr rfl), e17 _ _ _ _ _ _ (Or.inl rfl), e17 _ _ _ _ _ _ (Or.inr rfl), e X b d s, e X a d' s']
  by_cases c1 : d = 0 ∨ K 5 (if X 0 24 ≠ 0 then 6 + K 2 b else K 2 b) < d ∨ X 17 b ≠ 0 ∨ (K 2 b = 1 ∧ X 19 b = 0)
  · rw [if_pos c1]
    by_cases c2 : d' = 0 ∨ K 5 (if X 0 24 ≠ 0 then 6 + K 2 a else K 2 a) < d' ∨ X 17 a ≠ 0 ∨ (K 2 a = 1 ∧ X 19 a = 0)
    · rw [if_pos c2, if_pos c1]
    · rw [if_neg c2, if_pos c1]
  · rw [if_neg c1]
    by_cases c2 : d' = 0 ∨ K 5 (if X 0 24 ≠ 0 then 6 + K 2 a else K 2 a) < d' ∨ X 17 a ≠ 0 ∨ (K 2 a = 1 ∧ X 19 a = 0)
    · rw [if_pos c2, if_pos c2, if_neg c1]
    · rw [if_neg c2, if_neg c2, if_neg c1, gvX_comm h]
theorem gives_z {K X : Cel} {t fr : Int} : givesX K X t 0 fr = X := if_pos (Or.inl rfl)
theorem TD_cp {K X : Cel} {N : Pl} {t : Int} {w : Nat} (h : RT K X (bw N w) t) : TD (bw (cpN N t) w) 0 (X 13 t) (X 14 t) := TD_frame h.1 (fun i _ _ => by rw [Int.zero_add]; rfl)
theorem TD_kf {F : Pl} {w : Nat} {d s : Int} (h : TD (bw F w) 0 d s) : TD (bw (kfN F 4) w) 0 (if d = 1 then 1 else 0) s := by
  obtain ⟨⟨h0, h9⟩, h1, h2, h3, h4, h5⟩ := h
  have e : ∀ i : Int, 0 ≤ i → i < 4 → bw (kfN F 4) w i = bw F w 0 := fun i a b => by
    unfold bw kfN
    by_cases q : 1 ≤ i ∧ i < 4
    · rw [if_pos q]
    · rw [if_neg q, show i = 0 by omega]
  have ed : ∀ i : Int, 4 ≤ i → bw (kfN F 4) w i = bw F w i := fun i a => by
    unfold bw kfN
    rw [if_neg (by omega)]
  unfold TD
  rw [e 0 (by omega) (by omega), e (0 + 1) (by omega) (by omega), e (0 + 2) (by omega) (by omega), e (0 + 3) (by omega) (by omega), h1]
  refine ⟨by split <;> omega, decide_eq_decide.mpr (by split <;> omega), decide_eq_decide.mpr (by split <;> omega), decide_eq_decide.mpr (by split <;> omega), decide_eq_decide.mpr (by split <;> omega), fun q => ?_⟩
  obtain ⟨n, a1, a2, a3⟩ := h5 (by
    by_cases g : d = 1
    · omega
    · rw [if_neg g] at q; omega)
  exact ⟨n, a1, a2, fun k hk => (ed _ (by omega)).trans (a3 k hk)⟩
theorem RX_act {K X : Cel} {N : Pl} {p k x y fr : Int} {W : BitVec 64} {w : Nat} (hw : w < 64) (hK : KOK K) (hX : RX K X (bw N w)) (hx : 0 ≤ x ∧ x < K 0 11) (hy : k < 5 → (0 ≤ y ∧ y < K 0 11) ∧ x ≠ y) (hk : 0 ≤ k ∧ k ≤ 8) (hp : p = if X 0 24 ≠ 0 then 6 else 0) (hW : W.getLsbD w = true) : RX K (actX K X k x y fr) (bw (actN K p N k x y W) w) := by
  by_cases k5 : 4 < k
  · unfold actN
    rw [if_pos k5]
    exact RX_alt hw hX hx (by omega) hW
  · obtain ⟨hy1, hxy⟩ := hy (by omega)
    have tx := TD_cp (hX x hx.1 hx.2)
    have ty := TD_cp (hX y hy1.1 hy1.2)
    have hp2 : ∀ {t d fr : Int}, p = if (givesX K X t d fr) 0 24 ≠ 0 then 6 else 0 := fun {t d fr} => by rw [givesX_0]; exact hp
    unfold actN
    rw [if_neg k5]
    rcases (show k = 0 ∨ k = 1 ∨ k = 2 ∨ k = 3 ∨ k = 4 by omega) with rfl | rfl | rfl | rfl | rfl
    · rw [if_neg (by decide), if_neg (fun z => absurd z.1 (by decide))]
      show RX K (givesX K (givesX K X x (X 13 y) (X 14 y)) y (X 13 x) (X 14 x)) _
      exact RX_give hw hK (RX_give hw hK hX hx ty hp hW) hy1 tx hp2 hW
    · rw [if_pos (by decide)]
      show RX K (givesX K X x (X 13 y) (X 14 y)) _
      exact RX_give hw hK hX hx ty hp hW
    · rw [if_neg (by decide), if_neg (fun z => absurd z.1 (by decide))]
      have h1 := RX_give hw hK (RX_give hw hK hX hx (TD_kf ty) hp hW) hy1 (TD_kf tx) hp2 hW
      show RX K (if X 13 x = 1 then givesX K (if X 13 y = 1 then givesX K X x (X 13 y) (X 14 y) else X) y (X 13 x) (X 14 x) else (if X 13 y = 1 then givesX K X x (X 13 y) (X 14 y) else X)) _
      have e : (if X 13 x = 1 then givesX K (if X 13 y = 1 then givesX K X x (X 13 y) (X 14 y) else X) y (X 13 x) (X 14 x) else (if X 13 y = 1 then givesX K X x (X 13 y) (X 14 y) else X)) = givesX K (givesX K X x (if X 13 y = 1 then 1 else 0) (X 14 y)) y (if X 13 x = 1 then 1 else 0) (X 14 x) := by
        by_cases c1 : X 13 x = 1
        · rw [if_pos c1, if_pos c1]
          by_cases c2 : X 13 y = 1
          · rw [if_pos c2, if_pos c2, c1, c2]
          · rw [if_neg c2, if_neg c2, gives_z, c1]
        · rw [if_neg c1, if_neg c1, gives_z]
          by_cases c2 : X 13 y = 1
          · rw [if_pos c2, if_pos c2, c2]
          · rw [if_neg c2, if_neg c2, gives_z]
      rw [e]
      exact h1
    · rw [if_pos (by decide)]
      show RX K (givesX K X x (X 13 y) (X 14 y)) _
      exact RX_give hw hK hX hx ty hp hW
    · rw [if_neg (by decide)]
      show RX K (if K 6 0 = 1 then givesX K (givesX K X y (X 13 x) (X 14 x)) x (X 13 y) (X 14 y) else givesX K X y (X 13 x) (X 14 x)) _
      by_cases c : K 6 0 = 1
      · rw [if_pos c, if_neg (fun z => z.2 c), gives_comm hxy]
        exact RX_give hw hK (RX_give hw hK hX hx ty hp hW) hy1 tx hp2 hW
      · rw [if_neg c, if_pos ⟨rfl, c⟩]
        exact RX_give hw hK hX hy1 tx hp hW
theorem actN_off {K : Cel} {N : Pl} {p k x y : Int} {W : BitVec 64} {w : Nat} (hw : w < 64) (hW : W.getLsbD w = false) : bw (actN K p N k x y W) w = bw N w := by
  unfold actN
  split
  · exact altN_off hw hW
  · split
    · exact giveN_off hw hW
    · split
      · exact giveN_off hw hW
      · rw [giveN_off hw hW, giveN_off hw hW]
theorem RX_hap {K X : Cel} {N : Pl} {p k x y fr : Int} {W : BitVec 64} {w : Nat} (hw : w < 64) (hK : KOK K) (hX : RX K X (bw N w)) (hx : 0 ≤ x ∧ x < K 0 11) (hy : k < 5 → (0 ≤ y ∧ y < K 0 11) ∧ x ≠ y) (hk : 0 ≤ k ∧ k ≤ 8) (hp : p = if X 0 24 ≠ 0 then 6 else 0) : RX K (if W.getLsbD w = true then doesX K X k x y fr else X) (bw (hapN K p N k x y W) w) := by
  cases hW : W.getLsbD w with
  | true => exact RX_shr hw (RX_act hw hK hX hx hy hk hp hW) hW
  | false =>
    rw [if_neg (by decide)]
    unfold hapN shrN
    exact RX_bits hX ((shrN_off hw hW _).trans (actN_off hw hW))
theorem spF_bit {d : Int} {n : Nat} {w : Nat} (hw : w < 64) (i : Int) : bw (spF d n) w i = if i < 4 then decide (d ≤ i + 1) else n.testBit (i - 4).toNat := by
  unfold bw spF
  split
  · by_cases q : d ≤ i + 1
    · rw [if_pos q, ones_bit hw, decide_eq_true q]
    · rw [if_neg q, BitVec.getLsbD_zero, decide_eq_false q]
  · split
    · rename_i q; rw [ones_bit hw, q]
    · rename_i q
      rw [BitVec.getLsbD_zero]
      exact (Bool.eq_false_iff.mpr q).symm
theorem TD_sp {d : Int} {n : Nat} {w : Nat} (hw : w < 64) (hd : 1 ≤ d ∧ d ≤ 4) (hn : n ≤ 20) : TD (bw (spF d n) w) 0 d (srcB n) := by
  unfold TD
  rw [spF_bit hw, spF_bit hw, spF_bit hw, spF_bit hw, if_pos (by decide), if_pos (by decide), if_pos (by decide), if_pos (by decide)]
  refine ⟨by omega, decide_eq_decide.mpr (by omega), decide_eq_decide.mpr (by omega), decide_eq_decide.mpr (by omega), decide_eq_decide.mpr (by omega), fun _ => ⟨n, hn, rfl, fun k hk => ?_⟩⟩
  rw [spF_bit hw, if_neg (by omega), show (0 + 4 + (k : Int) - 4).toNat = k by omega]
theorem RX_spr {K X : Cel} {N : Pl} {t d : Int} {n : Nat} {W : BitVec 64} {w : Nat} (hw : w < 64) (hX : RX K X (bw N w)) (ht : 0 ≤ t ∧ t < K 0 11) (hd : 1 ≤ d ∧ d ≤ 4) (hn : n ≤ 20) : RX K (if W.getLsbD w = true then doesX K X 9 t d (srcB n) else X) (bw (sprN K N t d n W) w) := by
  have hb : bw (lput (lesN N (spF d n) 0 (t * 13) W) (t * 13 + 12) (N (t * 13 + 12) &&& ~~~W)) w = if W.getLsbD w = true then (fun j => if j = t * 13 + 12 then false else lesb (bw N w) (bw (spF d n) w) 0 (t * 13) j) else bw N w := by
    funext j
    rw [lput_bit, lesN_bit hw, BitVec.getLsbD_and, BitVec.getLsbD_not]
    cases hT : W.getLsbD w with
    | true => simp
    | false =>
      by_cases q : j = t * 13 + 12
      · subst q; simp [bw, hw]
      · simp [q]
  unfold sprN
  cases hW : W.getLsbD w with
  | true =>
    rw [hW, if_pos rfl] at hb
    rw [if_pos rfl]
    have h1 := RX_gv hX ht (TD_sp hw hd hn) hd
    rw [← hb] at h1
    exact RX_shr hw h1 hW
  | false =>
    rw [hW, if_neg (by decide)] at hb
    rw [if_neg (by decide)]
    unfold shrN
    exact RX_bits hX ((shrN_off hw hW _).trans hb)
