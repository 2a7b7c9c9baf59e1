/-! THE PLANNER: its saved rows R, the first story's planes N -/
def pw (μ : Mem) (R N A B : Pl) (s : Int) : Mem := stM (rowL μ 36 R) 0 N A B s
section PWS
variable {μ : Mem} {q : Nat} {R N A B f : Pl} {s u j : Int}
theorem pw_N : (pw μ R N A B s).2 22 = N := st_N (b := 0)
theorem pw_R : (pw μ R N A B s).2 36 = R := by
  unfold pw
  rw [st_l (by omega), rowL_eq]
theorem pw_l (h : q ≠ 22 ∧ q ≠ 27 ∧ q ≠ 28 ∧ q ≠ 36) : (pw μ R N A B s).2 q = μ.2 q := by
  unfold pw
  rw [st_l (by omega), rowL_ne h.2.2.2]
theorem pw_i (h : q ≠ 3) : (pw μ R N A B s).1 q = μ.1 q := st_i (b := 0) (by omega)
theorem pw_s : (pw μ R N A B s).1 3 10 = s := st_s (b := 0)
theorem pw_j (h : j ≠ 10) : (pw μ R N A B s).1 3 j = μ.1 3 j := st_j (b := 0) h
theorem pw_ps : putI (pw μ R N A B s) 3 10 u = pw μ R N A B u := st_ps (b := 0)
theorem pw_rN : rowL (pw μ R N A B s) 22 f = pw μ R f A B s := st_rN (b := 0)
theorem pw_rR : rowL (pw μ R N A B s) 36 f = pw μ f N A B s := by
  refine Prod.ext rfl ?_
  funext q
  by_cases h : q = 36
  · subst h
    rw [rowL_eq, pw_R]
  · rw [rowL_ne h]
    unfold pw
    by_cases h1 : q = 22 + 7 * 0
    · subst h1; rw [st_N, st_N]
    · by_cases h2 : q = 27 + 7 * 0
      · subst h2; rw [st_A, st_A]
      · by_cases h3 : q = 28 + 7 * 0
        · subst h3; rw [st_B, st_B]
        · rw [st_l ⟨h1, h2, h3⟩, st_l ⟨h1, h2, h3⟩, rowL_ne h, rowL_ne h]
theorem pw_self : pw μ (μ.2 36) (μ.2 22) (μ.2 27) (μ.2 28) (μ.1 3 10) = μ := by
  unfold pw
  rw [rowL_self]
  exact st_self (b := 0)
end PWS
abbrev p0 : Int := 6 * ((0 : Nat) : Int)
def kpR (R N : Pl) (d : Int) : Pl := fun j => if d * 156 ≤ j ∧ j < d * 156 + 156 then N (0 + (j - d * 156)) else R j
def tkR (R N : Pl) (d : Int) : Pl := fun j => if 0 ≤ j ∧ j < 0 + 156 then R (d * 156 + (j - 0)) else N j
def AG (N N' : Pl) : Prop := ∀ j, 0 ≤ j → j < 156 → N j = N' j
theorem RX_ag {K X : Cel} {N N' : Pl} {w : Nat} (hK : KOK K) (h : RX K X (bw N w)) (ha : AG N N') : RX K X (bw N' w) := by
  have hK1 := hK.1
  intro t h0 h1
  refine RT_frame (h t h0 h1) (fun j a c => ?_) rfl rfl rfl rfl rfl rfl rfl
  unfold bw
  rw [ha j (by omega) (by omega)]
theorem tk_ag {R N N0 : Pl} {d : Int} (h : ∀ j, 0 ≤ j → j < 156 → R (d * 156 + j) = N0 j) : AG N0 (tkR R N d) := fun j a c => by
  unfold tkR
  rw [if_pos (by omega), Int.sub_zero, h j a c]
theorem kp_at {R N : Pl} {d : Int} : ∀ j, 0 ≤ j → j < 156 → kpR R N d (d * 156 + j) = N j := fun j a c => by
  unfold kpR
  rw [if_pos (by omega), show 0 + (d * 156 + j - d * 156) = j by omega]
/-! washing in the planes -/
def wsF (K : Cel) (W : BitVec 64) (S : Nat) (t : Int) (N : Pl) : Pl := if S.testBit t.toNat = true then hapN K p0 N 5 t t W else N
theorem does5 {K X : Cel} {t : Int} : doesX K X 5 t t 0 = doesX K X 5 t (-9) 0 := rfl
/-- a way's state against planes -/
def WR (K X : Cel) (h : Int) (β : Int → Bool) : Prop := RX K X β ∧ X 0 24 = 0 ∧ Eve X h
theorem WR_ws {K X : Cel} {N : Pl} {h t : Int} {S w : Nat} {W : BitVec 64} (hw : w < 64) (hK : KOK K) (hW : W.getLsbD w = true) (hr : WR K X h (bw N w)) (ht : 0 ≤ t) (hS : S.testBit t.toNat = true → t < K 0 11) : WR K (wsA K S t X) h (bw (wsF K W S t N) w) := by
  obtain ⟨h1, h2, h3⟩ := hr
  unfold wsA wsF
  by_cases q : S.testBit t.toNat = true
  · rw [if_pos q, if_pos q]
    have g := RX_hap (p := p0) (k := 5) (x := t) (y := t) (fr := 0) (W := W) hw hK h1 ⟨ht, hS q⟩ (fun z => absurd z (by decide)) (by decide) (by rw [h2]; rfl)
    rw [if_pos hW, does5] at g
    refine ⟨g, ?_, ?_⟩
    · rw [doesX_0]; exact h2
    · unfold Eve; rw [doesX_0]; exact h3
  · rw [if_neg q, if_neg q]
    exact ⟨h1, h2, h3⟩
theorem WR_wsN {K X : Cel} {N : Pl} {h : Int} {a S w : Nat} {W : BitVec 64} (hw : w < 64) (hK : KOK K) (hW : W.getLsbD w = true) (hr : WR K X h (bw N w)) (hS : ∀ t : Nat, S.testBit t = true → (t : Int) < K 0 11) : ∀ k : Nat, WR K (upN (wsA K S) (a : Int) k X) h (bw (upN (wsF K W S) (a : Int) k N) w)
  | 0 => hr
  | k + 1 => by
    rw [upN_s, upN_s]
    refine WR_ws hw hK hW (WR_wsN hw hK hW hr hS k) (by omega) (fun q => ?_)
    have := hS _ q
    omega
theorem WR_hrs {K X : Cel} {N : Pl} {a : Int} {w : Nat} (hw : w < 64) (hK : KOK K) (hN : KNE K) (hr : WR K X a (bw N w)) (n : Nat) : RX K (upN (goesX K (srcX K) (w : Int)) a n X) (bw (upN (hrN K p0) a n N) w) := (RX_hrs hw hK hN hr.1 (by rw [hr.2.1]; rfl) hr.2.2 n).1
theorem clN_rx {K X X' : Cel} {β : Int → Bool} (h : RX K X β) (h' : RX K X' β) : clN X (K 0 11).toNat = clN X' (K 0 11).toNat := by
  apply Nat.eq_of_testBit_eq
  intro t
  rw [clN_bit, clN_bit]
  by_cases q : t < (K 0 11).toNat
  · have a := (h (t : Int) (by omega) (by omega)).1
    have c := (h' (t : Int) (by omega) (by omega)).1
    have e : decide (1 ≤ X 13 (t : Int)) = decide (1 ≤ X' 13 (t : Int)) := a.2.2.2.2.1.symm.trans c.2.2.2.2.1
    have e2 := decide_eq_decide.mp e
    have a0 := a.1
    have c0 := c.1
    exact decide_eq_decide.mpr (by omega)
  · rw [decide_eq_false (fun z => q z.1), decide_eq_false (fun z => q z.1)]
theorem ar_iff {K F : Cel} {N : Pl} {W : BitVec 64} {th : Nat} {Xf : Nat → Cel} (hW : LWP K F 0 W) (h12 : K 0 11 ≤ 12) (hth : th < 2 ^ (K 0 11).toNat) (hX : ∀ w, w < 64 → leftB K F 0 w = true → RX K (Xf w) (bw N w)) : arB N th W 12 = true ↔ ∀ w, w < 64 → leftB K F 0 w = true → clN (Xf w) (K 0 11).toNat &&& th = th := by
  have hlt : ∀ t, th.testBit t = true → t < (K 0 11).toNat := fun t ht => by
    rcases Nat.lt_or_ge t (K 0 11).toNat with g | g
    · exact g
    · have := Nat.testBit_lt_two_pow (Nat.lt_of_lt_of_le hth (Nat.pow_le_pow_right (by decide) g))
      rw [this] at ht
      cases ht
  have h0 : ∀ w t, w < 64 → leftB K F 0 w = true → t < (K 0 11).toNat → (N ((t : Int) * 13 + 3)).getLsbD w = decide (1 ≤ Xf w 13 (t : Int)) := fun w t hw hl ht => (hX w hw hl (t : Int) (by omega) (by omega)).1.2.2.2.2.1
  unfold arB
  rw [allF_iff]
  constructor
  · intro h w hw hl
    refine and_sub.mpr (fun t ht => ?_)
    have ht2 := hlt t ht
    have g := h t (by omega)
    rw [ht, Bool.not_true, Bool.false_or, decide_eq_true_eq] at g
    have g2 := bv_0.mp g w hw
    rw [BitVec.getLsbD_and, h0 w t hw hl ht2, hW w hw] at g2
    have hl2 : leftB K F ((0 : Nat) : Int) w = true := hl
    rw [hl2, Bool.and_true, decide_eq_false_iff_not] at g2
    have hd := (hX w hw hl (t : Int) (by omega) (by omega)).1.1
    rw [clN_bit]
    exact decide_eq_true ⟨ht2, by omega⟩
  · intro h t ht
    cases e : th.testBit t with
    | false => rfl
    | true =>
      have ht2 := hlt t e
      rw [Bool.not_true, Bool.false_or, decide_eq_true_eq, bv_0]
      intro w hw
      rw [BitVec.getLsbD_and, hW w hw]
      show ((N ((t : Int) * 13 + 3)).getLsbD w && leftB K F 0 w) = false
      cases hl : leftB K F 0 w with
      | false => rw [Bool.and_false]
      | true =>
        have g := and_sub.mp (h w hw hl) t e
        rw [clN_bit, decide_eq_true_eq] at g
        rw [h0 w t hw hl ht2, decide_eq_false (by omega)]
        rfl
/-- unstirred: nothing is changed -/
theorem alt_same {K F : Cel} {N : Pl} {W : BitVec 64} {t : Int} {Xf : Nat → Cel} (hW : LWP K F 0 W) (ht : 0 ≤ t ∧ t < K 0 11) (hX : ∀ w, w < 64 → leftB K F 0 w = true → RX K (Xf w) (bw N w)) (hq : altQ K N 5 t W) : altN K N 5 t W = N := by
  have hq := hq rfl
  unfold altN
  rw [if_pos rfl]
  by_cases v : K 2 t = 0 ∨ K 2 t = 5
  · rw [if_pos v]
    have h3 := hq.1 v
    funext j
    unfold mkN
    by_cases q : t * 13 ≤ j ∧ j < t * 13 + 4
    · rw [if_pos q]
      refine bv_eq.mpr (fun w hw => ?_)
      rw [BitVec.getLsbD_and, BitVec.getLsbD_not, decide_eq_true hw, Bool.true_and, hW w hw]
      show ((N j).getLsbD w && !leftB K F 0 w) = (N j).getLsbD w
      cases hl : leftB K F 0 w with
      | false => rw [Bool.not_false, Bool.and_true]
      | true =>
        have g := bv_0.mp h3 w hw
        have hl2 : leftB K F ((0 : Nat) : Int) w = true := hl
        rw [BitVec.getLsbD_and, hW w hw, hl2, Bool.and_true] at g
        have hT := (hX w hw hl t ht.1 ht.2).1
        have e3 : decide (1 ≤ Xf w 13 t) = false := hT.2.2.2.2.1.symm.trans g
        have e4 := TD_pl hT (k := j - t * 13) (by omega)
        rw [show t * 13 + (j - t * 13) = j by omega] at e4
        unfold bw at e4
        rw [decide_eq_false_iff_not] at e3
        rw [e4, decide_eq_false (by omega)]
        rfl
    · rw [if_neg q]
  · rw [if_neg v]
    by_cases k3 : K 2 t = 3
    · rw [if_pos k3]
      refine lput_self ?_
      rw [hq.2 k3, BitVec.or_zero]
    · rw [if_neg k3]
set_option maxHeartbeats 1000000 in
set_option maxRecDepth 100000 in
theorem c_X2_keepRow {μ : Mem} {R N A B : Pl} {s d : Int} (hd : 0 ≤ d ∧ d < 5) : PC shC 1 mX2_keepRow [vr 7, vi d] (pw μ R N A B s) (QV (fun μ' => μ' = pw μ (kpR R N d) N A B s)) := by
  refine PC.of (by decide +kernel) (Nat.le_of_ble_eq_true rfl) ?_
  refine P_sub (L' := [(0, vr 7), (1, vi d)]) [0, 1] rfl ?_
  refine P_iload_n (pc := 0) dX2_keepRow_0 rfl 1 rfl ?_
  refine P_if_lt (tgt := 32) (pc := 1) dX2_keepRow_1 (by decide) (by first | assumption | (unfold InR; omega)) (fun c_1 => ?_) (fun c_1 => ?_)
  · try simp only [pw_N, pw_R, pw_rN, pw_rR]
    exact P_vret (pc := 32) dX2_keepRow_32 rfl (QV.mk (by first | (exfalso; omega) | rfl))
  · refine P_iload_n (pc := 4) dX2_keepRow_4 rfl 1 rfl ?_
    refine P_iconst (pc := 5) dX2_keepRow_5 ?_
    refine P_icmp_ge (tgt := 32) (pc := 6) dX2_keepRow_6 (by decide) (by first | assumption | (unfold InR; omega)) (by first | assumption | (unfold InR; omega)) (fun c_6 => ?_) (fun c_6 => ?_)
    · try simp only [pw_N, pw_R, pw_rN, pw_rR]
      exact P_vret (pc := 32) dX2_keepRow_32 rfl (QV.mk (by first | (exfalso; omega) | rfl))
    · refine P_aload_n (pc := 9) dX2_keepRow_9 rfl 0 rfl ?_
      refine P_getR (pc := 10) dX2_keepRow_10 fa_RX2_19 sC_7 fC7_1 ?_
      refine P_getR (pc := 13) dX2_keepRow_13 fa_RX2_83 sC_3 fC3_2 ?_
      refine P_iconst (pc := 16) dX2_keepRow_16 ?_
      refine P_aload_n (pc := 17) dX2_keepRow_17 rfl 0 rfl ?_
      refine P_getR (pc := 18) dX2_keepRow_18 fa_RX2_9 sC_7 fC7_2 ?_
      refine P_iload_n (pc := 21) dX2_keepRow_21 rfl 1 rfl ?_
      refine P_sipush (pc := 22) dX2_keepRow_22 (by decide) ?_
      refine P_imul (pc := 25) dX2_keepRow_25 ?_
      refine P_sipush (pc := 26) dX2_keepRow_26 (by decide) ?_
      refine P_copyL (pc := 29) dX2_keepRow_29 ml_RX2_86 (by decide) (Nat.le_of_ble_eq_true rfl) sC_22 sC_36 (by omega) (by omega) (by omega) (by omega) (by omega) (by decide) (by decide) ?_
      skip
      try simp only [pw_N, pw_R, pw_rN, pw_rR]
      exact P_vret (pc := 32) dX2_keepRow_32 rfl (QV.mk (by first | (exfalso; omega) | rfl))
set_option maxHeartbeats 1000000 in
set_option maxRecDepth 100000 in
theorem c_X2_takeRow {μ : Mem} {R N A B : Pl} {s d : Int} (hd : 0 ≤ d ∧ d < 5) : PC shC 1 mX2_takeRow [vr 7, vi d] (pw μ R N A B s) (QV (fun μ' => μ' = pw μ R (tkR R N d) A B s)) := by
  refine PC.of (by decide +kernel) (Nat.le_of_ble_eq_true rfl) ?_
  refine P_sub (L' := [(0, vr 7), (1, vi d)]) [0, 1] rfl ?_
  refine P_iload_n (pc := 0) dX2_takeRow_0 rfl 1 rfl ?_
  refine P_if_lt (tgt := 32) (pc := 1) dX2_takeRow_1 (by decide) (by first | assumption | (unfold InR; omega)) (fun c_1 => ?_) (fun c_1 => ?_)
  · try simp only [pw_N, pw_R, pw_rN, pw_rR]
    exact P_vret (pc := 32) dX2_takeRow_32 rfl (QV.mk (by first | (exfalso; omega) | rfl))
  · refine P_iload_n (pc := 4) dX2_takeRow_4 rfl 1 rfl ?_
    refine P_iconst (pc := 5) dX2_takeRow_5 ?_
    refine P_icmp_ge (tgt := 32) (pc := 6) dX2_takeRow_6 (by decide) (by first | assumption | (unfold InR; omega)) (by first | assumption | (unfold InR; omega)) (fun c_6 => ?_) (fun c_6 => ?_)
    · try simp only [pw_N, pw_R, pw_rN, pw_rR]
      exact P_vret (pc := 32) dX2_takeRow_32 rfl (QV.mk (by first | (exfalso; omega) | rfl))
    · refine P_aload_n (pc := 9) dX2_takeRow_9 rfl 0 rfl ?_
      refine P_getR (pc := 10) dX2_takeRow_10 fa_RX2_9 sC_7 fC7_2 ?_
      refine P_iload_n (pc := 13) dX2_takeRow_13 rfl 1 rfl ?_
      refine P_sipush (pc := 14) dX2_takeRow_14 (by decide) ?_
      refine P_imul (pc := 17) dX2_takeRow_17 ?_
      refine P_aload_n (pc := 18) dX2_takeRow_18 rfl 0 rfl ?_
      refine P_getR (pc := 19) dX2_takeRow_19 fa_RX2_19 sC_7 fC7_1 ?_
      refine P_getR (pc := 22) dX2_takeRow_22 fa_RX2_83 sC_3 fC3_2 ?_
      refine P_iconst (pc := 25) dX2_takeRow_25 ?_
      refine P_sipush (pc := 26) dX2_takeRow_26 (by decide) ?_
      refine P_copyL (pc := 29) dX2_takeRow_29 ml_RX2_86 (by decide) (Nat.le_of_ble_eq_true rfl) sC_36 sC_22 (by omega) (by omega) (by omega) (by omega) (by omega) (by decide) (by decide) ?_
      skip
      try simp only [pw_N, pw_R, pw_rN, pw_rR]
      exact P_vret (pc := 32) dX2_takeRow_32 rfl (QV.mk (by first | (exfalso; omega) | rfl))
