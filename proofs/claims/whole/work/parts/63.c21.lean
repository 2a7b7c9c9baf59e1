theorem setsJ_v {X : Cel} {a s d : Int} {q : Nat} {j : Int} : setsX (xput X 14 a s) a d q j = if j = a ∧ q = 16 then 0 else if j = a ∧ q = 14 then s else if j = a ∧ q = 13 ∧ (X 13 a = 0 ∨ d < X 13 a) then d else X q j := by
  unfold setsX
  have e : xput X 14 a s 13 a = X 13 a := by rw [xput_v, if_neg (by omega)]
  rw [e]
  by_cases h : X 13 a = 0 ∨ d < X 13 a
  · rw [if_pos h, xput_v, xput_v, xput_v]
    by_cases hj : j = a
    · subst hj
      by_cases a : q = 16
      · subst a; simp
      · by_cases b : q = 13
        · subst b; simp [h]
        · by_cases d : q = 14
          · subst d; simp
          · simp [a, b, d]
    · simp [hj]
  · rw [if_neg h, xput_v, xput_v]
    by_cases hj : j = a
    · subst hj
      by_cases a : q = 16
      · subst a; simp
      · by_cases d : q = 14
        · subst d; simp
        · rw [if_neg (fun z => a z.1), if_neg (fun z => d z.1), if_neg (fun z => a z.2), if_neg (fun z => d z.2), if_neg (fun z => h z.2.2)]
    · simp [hj]
theorem shJ_bit {N : Pl} {wy : BitVec 64} {t : Int} {w : Nat} (hw : w < 64) : bw (shJ N wy t) w = if wy.getLsbD w = true then (fun j => if j = t * 13 - 13 + 12 then bw N w j && !(lesB (lesb (bw N w) (bw N w) (t * 13 - 13) (t * 13)) (lesb (bw N w) (bw N w) (t * 13 - 13) (t * 13)) (t * 13) (t * 13 - 13)) else lesb (lesb (bw N w) (bw N w) (t * 13 - 13) (t * 13)) (lesb (bw N w) (bw N w) (t * 13 - 13) (t * 13)) (t * 13) (t * 13 - 13) j) else bw N w := by
  unfold shJ
  funext j
  have h1 := lesN_bit (N := N) (F := N) (pl := t * 13 - 13) (ba := t * 13) (W := wy) hw
  generalize lesN N N (t * 13 - 13) (t * 13) wy = N1 at h1 ⊢
  rw [lput_bit, lesN_bit hw, BitVec.getLsbD_and, BitVec.getLsbD_not, lesL_bit hw, h1]
  cases hT : wy.getLsbD w with
  | true =>
    simp only [if_true, Bool.true_and, decide_eq_true hw]
    by_cases q : j = t * 13 - 13 + 12
    · rw [if_pos q, if_pos q]
      subst q
      rfl
    · rw [if_neg q, if_neg q]
  | false =>
    by_cases q : j = t * 13 - 13 + 12
    · subst q
      simp [bw, hw]
    · simp [q]
theorem wyJ_bit {N : Pl} {W : BitVec 64} {t : Int} {w : Nat} (hw : w < 64) : (wyJ N W t).getLsbD w = (W.getLsbD w && !(bw N w (t * 13 + 11)) && !(bw N w (t * 13 + 10)) && !(bw N w (t * 13 - 13 + 10)) && (bw N w (t * 13 + 3) || bw N w (t * 13 - 13 + 3))) := by
  unfold wyJ bw
  simp [hw]
theorem shr1_off {K : Cel} {W : BitVec 64} {t : Int} {N : Pl} {w : Nat} (hw : w < 64) (hW : W.getLsbD w = false) : bw (shr1 K W t N) w = bw N w := by
  unfold shr1
  split
  · split
    · rfl
    · rw [shJ_bit hw, wyJ_bit hw, hW]
      simp
  · rfl
theorem RX_shr1 {K X : Cel} {N : Pl} {t : Int} {W : BitVec 64} {w : Nat} (hw : w < 64) (hX : RX K X (bw N w)) (ht : 1 ≤ t ∧ t < K 0 11) (hW : W.getLsbD w = true) : RX K (joinX K t X) (bw (shr1 K W t N) w) := by
  by_cases k5 : K 2 t = 5
  · obtain ⟨r1, r9, r10, r11, r12, r16, r14, r2⟩ := hX t (by omega) ht.2
    obtain ⟨s1, s9, s10, s11, s12, s16, s14, s2⟩ := hX (t - 1) (by omega) (by omega)
    rw [show (t - 1) * 13 = t * 13 - 13 by omega] at s1 s9 s10 s11 s12
    have hr := r1.1
    have hs := s1.1
    have hwy := wyJ_bit (N := N) (W := W) (t := t) hw
    rw [hW, r11 k5, r10, s10, r1.2.2.2.2.1, s1.2.2.2.2.1] at hwy
    have hq : bw (shr1 K W t N) w = bw (shJ N (wyJ N W t) t) w := by
      unfold shr1
      rw [if_pos k5]
      split
      · rename_i z
        rw [z, shJ_bit hw, BitVec.getLsbD_zero, if_neg (by decide)]
      · rfl
    rw [hq, shJ_bit hw]
    by_cases c : X 18 t = 0 ∧ X 17 t = 0 ∧ X 17 (t - 1) = 0 ∧ (1 ≤ X 13 t ∨ 1 ≤ X 13 (t - 1))
    · have e : (wyJ N W t).getLsbD w = true := by
        rw [hwy, decide_eq_false (show ¬ X 18 t ≠ 0 by omega), decide_eq_false (show ¬ X 17 t ≠ 0 by omega), decide_eq_false (show ¬ X 17 (t - 1) ≠ 0 by omega), ← Bool.decide_or, decide_eq_true c.2.2.2]
        rfl
      rw [if_pos e]
      have t1 := TD_les r1 s1
      have t2 : TD (lesb (bw N w) (bw N w) (t * 13 - 13) (t * 13)) (t * 13 - 13) (X 13 (t - 1)) (X 14 (t - 1)) := TD_frame s1 (fun i a b => lesb_out (by omega))
      have hB := TD_B t2 t1
      have t3 := TD_les t2 t1
      have eo : ∀ j, (j < t * 13 - 13 ∨ t * 13 - 13 + 9 ≤ j) → (j < t * 13 ∨ t * 13 + 9 ≤ j) → lesb (lesb (bw N w) (bw N w) (t * 13 - 13) (t * 13)) (lesb (bw N w) (bw N w) (t * 13 - 13) (t * 13)) (t * 13) (t * 13 - 13) j = bw N w j := fun j a b => by rw [lesb_out a, lesb_out b]
      have t4 : TD (lesb (lesb (bw N w) (bw N w) (t * 13 - 13) (t * 13)) (lesb (bw N w) (bw N w) (t * 13 - 13) (t * 13)) (t * 13) (t * 13 - 13)) (t * 13) _ _ := TD_frame t1 (fun i a b => lesb_out (by omega))
      generalize lesb (lesb (bw N w) (bw N w) (t * 13 - 13) (t * 13)) (lesb (bw N w) (bw N w) (t * 13 - 13) (t * 13)) (t * 13) (t * 13 - 13) = β2 at t3 t4 eo ⊢
      rw [hB]
      clear t1 t2 hB hwy e hq
      have key : ∀ X' : Cel, (∀ q : Nat, 13 ≤ q → ∀ j, j ≠ t → j ≠ t - 1 → X' q j = X q j) → X' 0 25 = X 0 25 → X' 17 t = X 17 t → X' 18 t = X 18 t → X' 19 t = X 19 t → X' 17 (t - 1) = X 17 (t - 1) → X' 18 (t - 1) = X 18 (t - 1) → X' 19 (t - 1) = X 19 (t - 1) → X' 16 t = 0 →
          X' 13 t = (if X 13 (t - 1) ≠ 0 ∧ (X 13 t = 0 ∨ X 13 (t - 1) < X 13 t) then X 13 (t - 1) else X 13 t) → X' 14 t = (if X 13 (t - 1) ≠ 0 ∧ (X 13 t = 0 ∨ X 13 (t - 1) < X 13 t) then X 14 (t - 1) else X 14 t) →
          X' 13 (t - 1) = (if X 13 t ≠ 0 ∧ (X 13 (t - 1) = 0 ∨ X 13 t < X 13 (t - 1)) then X 13 t else X 13 (t - 1)) → X' 14 (t - 1) = (if X 13 t ≠ 0 ∧ (X 13 (t - 1) = 0 ∨ X 13 t < X 13 (t - 1)) then X 14 t else X 14 (t - 1)) →
          X' 16 (t - 1) = (if X 13 t ≠ 0 ∧ (X 13 (t - 1) = 0 ∨ X 13 t < X 13 (t - 1)) then 0 else X 16 (t - 1)) →
          ∀ B' : Int → Bool, (∀ j, j ≠ t * 13 - 13 + 12 → B' j = β2 j) → B' (t * 13 - 13 + 12) = (bw N w (t * 13 - 13 + 12) && !(decide ((if X 13 (t - 1) ≠ 0 ∧ (X 13 t = 0 ∨ X 13 (t - 1) < X 13 t) then X 13 (t - 1) else X 13 t) ≠ 0 ∧ (X 13 (t - 1) = 0 ∨ (if X 13 (t - 1) ≠ 0 ∧ (X 13 t = 0 ∨ X 13 (t - 1) < X 13 t) then X 13 (t - 1) else X 13 t) < X 13 (t - 1))))) → RX K X' B' := by
        intro X' x0 x25 x17 x18 x19 y17 y18 y19 x16 x13 x14 y13 y14 y16 B' b1 b2 i hi0 hi1
        by_cases it : i = t
        · subst it
          refine ⟨?_, ?_, ?_, fun _ => ?_, fun z => ?_, fun _ => x16, fun z => ?_, fun z => ?_⟩
          · rw [x13, x14]
            exact TD_frame t4 (fun j a b => b1 _ (by omega))
          · rw [b1 _ (by omega), eo _ (by omega) (by omega), r9, x19]
          · rw [b1 _ (by omega), eo _ (by omega) (by omega), r10, x17]
          · rw [b1 _ (by omega), eo _ (by omega) (by omega), r11 k5, x18]
          · omega
          · rw [x14]
            rw [x13] at z
            split
            · rename_i g
              rw [if_pos g] at z
              exact absurd z g.1
            · rename_i g
              rw [if_neg g] at z
              exact r14 z
          · omega
        · by_cases ip : i = t - 1
          · subst ip
            have b13 : (t - 1) * 13 = t * 13 - 13 := by omega
            unfold RT
            rw [b13]
            refine ⟨?_, ?_, ?_, fun k => ?_, fun k x => ?_, fun k => ?_, fun z => ?_, fun k => ?_⟩
            · have c3 : (if (if X 13 (t - 1) ≠ 0 ∧ (X 13 t = 0 ∨ X 13 (t - 1) < X 13 t) then X 13 (t - 1) else X 13 t) ≠ 0 ∧ (X 13 (t - 1) = 0 ∨ (if X 13 (t - 1) ≠ 0 ∧ (X 13 t = 0 ∨ X 13 (t - 1) < X 13 t) then X 13 (t - 1) else X 13 t) < X 13 (t - 1)) then (if X 13 (t - 1) ≠ 0 ∧ (X 13 t = 0 ∨ X 13 (t - 1) < X 13 t) then X 13 (t - 1) else X 13 t) else X 13 (t - 1)) = X' 13 (t - 1) := by
                rw [y13]
                by_cases g : X 13 (t - 1) ≠ 0 ∧ (X 13 t = 0 ∨ X 13 (t - 1) < X 13 t)
                · rw [if_pos g, if_neg (by omega), if_neg (by omega)]
                · rw [if_neg g]
              have c4 : (if (if X 13 (t - 1) ≠ 0 ∧ (X 13 t = 0 ∨ X 13 (t - 1) < X 13 t) then X 13 (t - 1) else X 13 t) ≠ 0 ∧ (X 13 (t - 1) = 0 ∨ (if X 13 (t - 1) ≠ 0 ∧ (X 13 t = 0 ∨ X 13 (t - 1) < X 13 t) then X 13 (t - 1) else X 13 t) < X 13 (t - 1)) then (if X 13 (t - 1) ≠ 0 ∧ (X 13 t = 0 ∨ X 13 (t - 1) < X 13 t) then X 14 (t - 1) else X 14 t) else X 14 (t - 1)) = X' 14 (t - 1) := by
                rw [y14]
                by_cases g : X 13 (t - 1) ≠ 0 ∧ (X 13 t = 0 ∨ X 13 (t - 1) < X 13 t)
                · rw [if_pos g, if_neg (by omega), if_neg (by omega)]
                · rw [if_neg g, if_neg g]
              rw [c3, c4] at t3
              exact TD_frame t3 (fun j a b => b1 _ (by omega))
            · rw [b1 _ (by omega), eo _ (by omega) (by omega), s9, y19]
            · rw [b1 _ (by omega), eo _ (by omega) (by omega), s10, y17]
            · rw [b1 _ (by omega), eo _ (by omega) (by omega), s11 k, y18]
            · rw [b2, s12 k (by rw [← x25]; exact x), y16]
              by_cases g : X 13 t ≠ 0 ∧ (X 13 (t - 1) = 0 ∨ X 13 t < X 13 (t - 1))
              · rw [if_pos g, if_neg (by omega), decide_eq_true g]
                simp
              · rw [if_neg g]
                have : decide ((if X 13 (t - 1) ≠ 0 ∧ (X 13 t = 0 ∨ X 13 (t - 1) < X 13 t) then X 13 (t - 1) else X 13 t) ≠ 0 ∧ (X 13 (t - 1) = 0 ∨ (if X 13 (t - 1) ≠ 0 ∧ (X 13 t = 0 ∨ X 13 (t - 1) < X 13 t) then X 13 (t - 1) else X 13 t) < X 13 (t - 1))) = false := decide_eq_false (by split <;> omega)
                rw [this]
                simp
            · rw [y16, s16 k]
              split <;> rfl
            · rw [y14]
              rw [y13] at z
              split
              · rename_i g
                rw [if_pos g] at z
                exact absurd z g.1
              · rename_i g
                rw [if_neg g] at z
                exact s14 z
            · rw [y19]; exact s2 k
          · refine RT_frame (hX i hi0 hi1) (fun j a b => ?_) (x0 _ (by omega) _ it ip) (x0 _ (by omega) _ it ip) (x0 _ (by omega) _ it ip) (x0 _ (by omega) _ it ip) (x0 _ (by omega) _ it ip) (x0 _ (by omega) _ it ip) x25
            rw [b1 _ (by omega), eo _ (by omega) (by omega)]
      have z16 := r16 (by omega)
      unfold joinX
      by_cases d0 : X 13 t = X 13 (t - 1)
      · rw [if_pos (by omega)]
        refine key X (fun _ _ _ _ _ => rfl) rfl rfl rfl rfl rfl rfl rfl z16 ?_ ?_ ?_ ?_ ?_ _ (fun j hj => if_neg hj) (if_pos rfl)
        · rw [if_neg (by omega)]
        · rw [if_neg (by omega)]
        · rw [if_neg (by omega)]
        · rw [if_neg (by omega)]
        · rw [if_neg (by omega)]
      · rw [if_neg (by omega)]
        by_cases mi : X 13 (t - 1) = 0 ∨ (X 13 t ≠ 0 ∧ X 13 t < X 13 (t - 1))
        · rw [if_pos mi]
          refine key _ (fun q hq j j1 j2 => ?_) ?_ ?_ ?_ ?_ ?_ ?_ ?_ ?_ ?_ ?_ ?_ ?_ ?_ _ (fun j hj => if_neg hj) (if_pos rfl)
          · rw [setsJ_v, if_neg (fun z => j2 z.1), if_neg (fun z => j2 z.1), if_neg (fun z => j2 z.1)]
          · rw [setsJ_v, if_neg (by omega), if_neg (by omega), if_neg (by omega)]
          · rw [setsJ_v, if_neg (by omega), if_neg (by omega), if_neg (by omega)]
          · rw [setsJ_v, if_neg (by omega), if_neg (by omega), if_neg (by omega)]
          · rw [setsJ_v, if_neg (by omega), if_neg (by omega), if_neg (by omega)]
          · rw [setsJ_v, if_neg (by omega), if_neg (by omega), if_neg (by omega)]
          · rw [setsJ_v, if_neg (by omega), if_neg (by omega), if_neg (by omega)]
          · rw [setsJ_v, if_neg (by omega), if_neg (by omega), if_neg (by omega)]
          · rw [setsJ_v, if_neg (by omega), if_neg (by omega), if_neg (by omega), z16]
          · rw [setsJ_v, if_neg (by omega), if_neg (by omega), if_neg (by omega), if_neg (by omega)]
          · rw [setsJ_v, if_neg (by omega), if_neg (by omega), if_neg (by omega), if_neg (by omega)]
          · rw [setsJ_v, if_neg (by omega), if_neg (by omega), if_pos ⟨rfl, rfl, by omega⟩, if_pos (by omega)]
          · rw [setsJ_v, if_neg (by omega), if_pos ⟨rfl, rfl⟩, if_pos (by omega)]
          · rw [setsJ_v, if_pos ⟨rfl, rfl⟩, if_pos (by omega)]
        · rw [if_neg mi]
          refine key _ (fun q hq j j1 j2 => ?_) ?_ ?_ ?_ ?_ ?_ ?_ ?_ ?_ ?_ ?_ ?_ ?_ ?_ _ (fun j hj => if_neg hj) (if_pos rfl)
          · rw [setsJ_v, if_neg (fun z => j1 z.1), if_neg (fun z => j1 z.1), if_neg (fun z => j1 z.1)]
          · rw [setsJ_v, if_neg (by omega), if_neg (by omega), if_neg (by omega)]
          · rw [setsJ_v, if_neg (by omega), if_neg (by omega), if_neg (by omega)]
          · rw [setsJ_v, if_neg (by omega), if_neg (by omega), if_neg (by omega)]
          · rw [setsJ_v, if_neg (by omega), if_neg (by omega), if_neg (by omega)]
          · rw [setsJ_v, if_neg (by omega), if_neg (by omega), if_neg (by omega)]
          · rw [setsJ_v, if_neg (by omega), if_neg (by omega), if_neg (by omega)]
          · rw [setsJ_v, if_neg (by omega), if_neg (by omega), if_neg (by omega)]
          · rw [setsJ_v, if_pos ⟨rfl, rfl⟩]
          · rw [setsJ_v, if_neg (by omega), if_neg (by omega), if_pos ⟨rfl, rfl, by omega⟩, if_pos (by omega)]
          · rw [setsJ_v, if_neg (by omega), if_pos ⟨rfl, rfl⟩, if_pos (by omega)]
          · rw [setsJ_v, if_neg (by omega), if_neg (by omega), if_neg (by omega), if_neg (by omega)]
          · rw [setsJ_v, if_neg (by omega), if_neg (by omega), if_neg (by omega), if_neg (by omega)]
          · rw [setsJ_v, if_neg (by omega), if_neg (by omega), if_neg (by omega), if_neg (by omega)]
    · have e : (wyJ N W t).getLsbD w = false := by
        rw [hwy]
        refine Bool.eq_false_iff.mpr (fun z => c ?_)
        simp only [Bool.and_eq_true, Bool.not_eq_true', decide_eq_false_iff_not, Bool.or_eq_true, decide_eq_true_eq] at z
        omega
      rw [e, if_neg (by decide)]
      unfold joinX
      rw [if_pos (by omega)]
      exact hX
  · unfold joinX shr1
    rw [if_pos (Or.inl k5), if_neg k5]
    exact hX
theorem shrN_off {K : Cel} {W : BitVec 64} {N : Pl} {w : Nat} (hw : w < 64) (hW : W.getLsbD w = false) : ∀ n, bw (upN (shr1 K W) 1 n N) w = bw N w
  | 0 => rfl
  | n + 1 => by rw [upN_s, shr1_off hw hW, shrN_off hw hW n]
theorem RX_shrN {K X : Cel} {N : Pl} {W : BitVec 64} {w : Nat} (hw : w < 64) (hX : RX K X (bw N w)) (hW : W.getLsbD w = true) : ∀ n, n ≤ (K 0 11 - 1).toNat → RX K (upN (joinX K) 1 n X) (bw (upN (shr1 K W) 1 n N) w)
  | 0, _ => hX
  | n + 1, h => by
    rw [upN_s, upN_s]
    exact RX_shr1 hw (RX_shrN hw hX hW n (by omega)) (by omega) hW
theorem RX_shr {K X : Cel} {N : Pl} {W : BitVec 64} {w : Nat} (hw : w < 64) (hX : RX K X (bw N w)) (hW : W.getLsbD w = true) : RX K (joinsX K X) (bw (shrN K W N) w) := RX_shrN hw hX hW _ (Nat.le_refl _)
