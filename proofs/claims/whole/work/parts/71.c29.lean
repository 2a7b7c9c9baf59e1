/-- the store holds which things are hidden -/
def HH (K : Cel) (μ : Mem) : Prop := ∃ Hn : Nat, μ.1 1 11 = (Hn : Int) ∧ Hn < 4096 ∧ ∀ t : Nat, (t : Int) < K 0 11 → (Hn.testBit t = true ↔ K 4 (t : Int) = 1)
theorem and_sub {A s : Nat} : (A &&& s = s) ↔ ∀ i, s.testBit i = true → A.testBit i = true := by
  constructor
  · intro h i hi
    have := congrArg (fun x => x.testBit i) h
    simp only [Nat.testBit_and] at this
    rw [hi] at this
    simpa using this
  · intro h
    apply Nat.eq_of_testBit_eq
    intro i
    rw [Nat.testBit_and]
    cases e : s.testBit i with
    | false => simp
    | true => rw [h i e]; rfl
theorem bit3 {x y v i : Nat} : (2 ^ x ||| 2 ^ y ||| 2 ^ v).testBit i = true ↔ (i = x ∨ i = y ∨ i = v) := by
  simp only [Nat.testBit_or, Nat.testBit_two_pow, Bool.or_eq_true, decide_eq_true_eq]
  constructor
  · rintro ((h | h) | h)
    · exact Or.inl h.symm
    · exact Or.inr (Or.inl h.symm)
    · exact Or.inr (Or.inr h.symm)
  · rintro (h | h | h)
    · exact Or.inl (Or.inl h.symm)
    · exact Or.inl (Or.inr h.symm)
    · exact Or.inr h.symm
theorem sub3 {A x y v : Nat} : (A &&& (2 ^ x ||| 2 ^ y ||| 2 ^ v) = (2 ^ x ||| 2 ^ y ||| 2 ^ v)) ↔ (A.testBit x = true ∧ A.testBit y = true ∧ A.testBit v = true) := by
  rw [and_sub]
  constructor
  · intro h
    exact ⟨h x (bit3.mpr (Or.inl rfl)), h y (bit3.mpr (Or.inr (Or.inl rfl))), h v (bit3.mpr (Or.inr (Or.inr rfl)))⟩
  · rintro ⟨h1, h2, h3⟩ i hi
    rcases bit3.mp hi with rfl | rfl | rfl
    · exact h1
    · exact h2
    · exact h3
theorem orN_bit {L : Nat → Bool} {C : Nat → Nat} {i : Nat} : ∀ {n : Nat}, (orN L C n).testBit i = true ↔ ∃ w, w < n ∧ L w = true ∧ (C w).testBit i = true
  | 0 => by
    constructor
    · intro h; simp [orN] at h
    · rintro ⟨w, h, -⟩; exact absurd h (Nat.not_lt_zero w)
  | n + 1 => by
    have ih := orN_bit (L := L) (C := C) (i := i) (n := n)
    simp only [orN]
    by_cases q : L n = true
    · rw [if_pos q, Nat.testBit_or, Bool.or_eq_true, ih]
      constructor
      · rintro (⟨w, a, b, c⟩ | h)
        · exact ⟨w, by omega, b, c⟩
        · exact ⟨n, by omega, q, h⟩
      · rintro ⟨w, a, b, c⟩
        rcases Nat.lt_or_ge w n with g | g
        · exact Or.inl ⟨w, g, b, c⟩
        · rw [show w = n by omega] at c; exact Or.inr c
    · rw [if_neg q, ih]
      constructor
      · rintro ⟨w, a, b, c⟩; exact ⟨w, by omega, b, c⟩
      · rintro ⟨w, a, b, c⟩
        rcases Nat.lt_or_ge w n with g | g
        · exact ⟨w, g, b, c⟩
        · rw [show w = n by omega] at b; exact absurd b q
theorem bv_ne {V : BitVec 64} : V ≠ 0#64 ↔ ∃ w, w < 64 ∧ V.getLsbD w = true := by
  constructor
  · intro h
    refine Classical.byContradiction (fun q => h (bv_0.mpr (fun w hw => ?_)))
    cases e : V.getLsbD w with
    | false => rfl
    | true => exact absurd ⟨w, hw, e⟩ q
  · rintro ⟨w, hw, e⟩ h
    rw [h, BitVec.getLsbD_zero] at e
    cases e
def rivC (W cx cy cv : BitVec 64) : Prop := W &&& ~~~cx ≠ 0#64 ∧ W &&& ~~~cy ≠ 0#64 ∧ W &&& ~~~cv ≠ 0#64 ∧ (W &&& ~~~cx) &&& (W &&& ~~~cy) &&& (W &&& ~~~cv) = 0#64
theorem clW_tb {K : Cel} {h : Int} {w t : Nat} : (clW K h w).testBit t = decide (t < (K 0 11).toNat ∧ simX K (w : Int) h 0 13 (t : Int) = 0) := clN_bit _ t _
theorem rivC_B {K F : Cel} {W cx cy cv : BitVec 64} {h : Int} {x y v : Nat} (hx : x < (K 0 11).toNat) (hy : y < (K 0 11).toNat) (hv : v < (K 0 11).toNat) (bx : ∀ w, w < 64 → (W &&& ~~~cx).getLsbD w = (leftB K F 0 w && decide (simX K (w : Int) h 0 13 (x : Int) = 0))) (by_ : ∀ w, w < 64 → (W &&& ~~~cy).getLsbD w = (leftB K F 0 w && decide (simX K (w : Int) h 0 13 (y : Int) = 0))) (bv : ∀ w, w < 64 → (W &&& ~~~cv).getLsbD w = (leftB K F 0 w && decide (simX K (w : Int) h 0 13 (v : Int) = 0))) : rivC W cx cy cv ↔ rivB K F h (2 ^ x ||| 2 ^ y ||| 2 ^ v) = true := by
  have ex : ∀ (c : BitVec 64) (i : Nat), i < (K 0 11).toNat → (∀ w, w < 64 → c.getLsbD w = (leftB K F 0 w && decide (simX K (w : Int) h 0 13 (i : Int) = 0))) → (c ≠ 0#64 ↔ (orN (leftB K F 0) (clW K h) 64).testBit i = true) := fun c i hi hc => by
    rw [bv_ne, orN_bit]
    constructor
    · rintro ⟨w, hw, e⟩
      rw [hc w hw, Bool.and_eq_true, decide_eq_true_eq] at e
      exact ⟨w, hw, e.1, by rw [clW_tb]; exact decide_eq_true ⟨hi, e.2⟩⟩
    · rintro ⟨w, hw, e1, e2⟩
      rw [clW_tb, decide_eq_true_eq] at e2
      exact ⟨w, hw, by rw [hc w hw, Bool.and_eq_true, decide_eq_true_eq]; exact ⟨e1, e2.2⟩⟩
  unfold rivC rivB
  rw [ex _ x hx bx, ex _ y hy by_, ex _ v hv bv, Bool.and_eq_true, decide_eq_true_eq, sub3, allF_iff, bv_0]
  constructor
  · rintro ⟨h1, h2, h3, h4⟩
    refine ⟨fun w hw => ?_, h1, h2, h3⟩
    have g := h4 w hw
    rw [BitVec.getLsbD_and, BitVec.getLsbD_and, bx w hw, by_ w hw, bv w hw] at g
    rw [Bool.or_eq_true, Bool.not_eq_true', decide_eq_true_eq]
    cases hl : leftB K F 0 w with
    | false => exact Or.inl rfl
    | true =>
      refine Or.inr (fun z => ?_)
      have z2 := sub3.mp z
      rw [clW_tb, clW_tb, clW_tb, decide_eq_true_eq, decide_eq_true_eq, decide_eq_true_eq] at z2
      rw [hl, decide_eq_true z2.1.2, decide_eq_true z2.2.1.2, decide_eq_true z2.2.2.2] at g
      cases g
  · rintro ⟨h4, h1, h2, h3⟩
    refine ⟨h1, h2, h3, fun w hw => ?_⟩
    have g := h4 w hw
    rw [BitVec.getLsbD_and, BitVec.getLsbD_and, bx w hw, by_ w hw, bv w hw]
    rw [Bool.or_eq_true, Bool.not_eq_true', decide_eq_true_eq] at g
    cases hl : leftB K F 0 w with
    | false => rfl
    | true =>
      rcases g with g | g
      · rw [hl] at g; cases g
      · by_cases q : simX K (w : Int) h 0 13 (x : Int) = 0 ∧ simX K (w : Int) h 0 13 (y : Int) = 0 ∧ simX K (w : Int) h 0 13 (v : Int) = 0
        · exfalso
          refine g (sub3.mpr ?_)
          rw [clW_tb, clW_tb, clW_tb, decide_eq_true_eq, decide_eq_true_eq, decide_eq_true_eq]
          exact ⟨⟨hx, q.1⟩, ⟨hy, q.2.1⟩, ⟨hv, q.2.2⟩⟩
        · by_cases q1 : simX K (w : Int) h 0 13 (x : Int) = 0
          · by_cases q2 : simX K (w : Int) h 0 13 (y : Int) = 0
            · rw [decide_eq_false (fun z => q ⟨q1, q2, z⟩)]; simp
            · rw [decide_eq_false q2]; simp
          · rw [decide_eq_false q1]; simp
/-! sets of two and of three, in their order -/
def exF (p : Nat → Bool) (n : Nat) : Bool := !(allF (fun i => !(p i)) n)
theorem exF_iff {p : Nat → Bool} {n : Nat} : exF p n = true ↔ ∃ i, i < n ∧ p i = true := by
  unfold exF
  rw [Bool.not_eq_true', Bool.eq_false_iff, Ne, allF_iff]
  constructor
  · intro h
    refine Classical.byContradiction (fun q => h (fun i hi => ?_))
    cases e : p i with
    | false => rfl
    | true => exact absurd ⟨i, hi, e⟩ q
  · rintro ⟨i, hi, e⟩ h
    have := h i hi
    rw [e] at this
    cases this
theorem all64 {P : Nat → Bool} (h : allF (fun i => allF (fun j => P (64 * i + j)) 64) 64 = true) : ∀ s, s < 4096 → P s = true := by
  intro s hs
  have h1 := (allF_iff.mp ((allF_iff.mp h) (s / 64) (by omega))) (s % 64) (by omega)
  rw [show 64 * (s / 64) + s % 64 = s by omega] at h1
  exact h1
theorem two_k : allF (fun i => allF (fun j => !(decide (cnt31 (64 * i + j) = 2)) || exF (fun y => exF (fun x => decide (64 * i + j = 2 ^ x ||| 2 ^ y)) y) 12) 64) 64 = true := by decide +kernel
theorem three_k : allF (fun i => allF (fun j => !(decide (cnt31 (64 * i + j) = 3)) || exF (fun v => exF (fun y => exF (fun x => decide (64 * i + j = 2 ^ x ||| 2 ^ y ||| 2 ^ v)) y) v) 12) 64) 64 = true := by decide +kernel
theorem two_all : ∀ s, s < 4096 → cnt31 s = 2 → ∃ y, y < 12 ∧ ∃ x, x < y ∧ s = 2 ^ x ||| 2 ^ y := by
  intro s hs hc
  have h := all64 (P := fun s => !(decide (cnt31 s = 2)) || exF (fun y => exF (fun x => decide (s = 2 ^ x ||| 2 ^ y)) y) 12) two_k s hs
  rw [decide_eq_true hc, Bool.not_true, Bool.false_or, exF_iff] at h
  obtain ⟨y, hy, h⟩ := h
  obtain ⟨x, hx, h⟩ := exF_iff.mp h
  exact ⟨y, hy, x, hx, of_decide_eq_true h⟩
theorem three_all : ∀ s, s < 4096 → cnt31 s = 3 → ∃ v, v < 12 ∧ ∃ y, y < v ∧ ∃ x, x < y ∧ s = 2 ^ x ||| 2 ^ y ||| 2 ^ v := by
  intro s hs hc
  have h := all64 (P := fun s => !(decide (cnt31 s = 3)) || exF (fun v => exF (fun y => exF (fun x => decide (s = 2 ^ x ||| 2 ^ y ||| 2 ^ v)) y) v) 12) three_k s hs
  rw [decide_eq_true hc, Bool.not_true, Bool.false_or, exF_iff] at h
  obtain ⟨v, hv, h⟩ := h
  obtain ⟨y, hy, h⟩ := exF_iff.mp h
  obtain ⟨x, hx, h⟩ := exF_iff.mp h
  exact ⟨v, hv, y, hy, x, hx, of_decide_eq_true h⟩
theorem two_cnt : ∀ y, y < 12 → ∀ x, x < y → cnt31 (2 ^ x ||| 2 ^ y) = 2 := by decide +kernel
theorem three_cnt : ∀ v, v < 12 → ∀ y, y < v → ∀ x, x < y → cnt31 (2 ^ x ||| 2 ^ y ||| 2 ^ v) = 3 := by decide +kernel
theorem two_l : allF (fun y => allF (fun x => allF (fun y' => allF (fun x' => !(decide (2 ^ x' ||| 2 ^ y' < 2 ^ x ||| 2 ^ y)) || (decide (y' < y) || (decide (y' = y) && decide (x' < x)))) y') 12) y) 12 = true := by decide +kernel
theorem three_l : allF (fun v => allF (fun y => allF (fun x => allF (fun v' => allF (fun y' => allF (fun x' => !(decide (2 ^ x' ||| 2 ^ y' ||| 2 ^ v' < 2 ^ x ||| 2 ^ y ||| 2 ^ v)) || (decide (v' < v) || (decide (v' = v) && (decide (y' < y) || (decide (y' = y) && decide (x' < x)))))) y') v') 12) y) v) 12 = true := by decide +kernel
theorem two_lt : ∀ y, y < 12 → ∀ x, x < y → ∀ y', y' < 12 → ∀ x', x' < y' → (2 ^ x' ||| 2 ^ y') < (2 ^ x ||| 2 ^ y) → y' < y ∨ (y' = y ∧ x' < x) := by
  intro y hy x hx y' hy' x' hx' h
  have := allF_iff.mp (allF_iff.mp (allF_iff.mp (allF_iff.mp two_l y hy) x hx) y' hy') x' hx'
  rw [decide_eq_true h, Bool.not_true, Bool.false_or] at this
  simpa only [Bool.or_eq_true, Bool.and_eq_true, decide_eq_true_eq] using this
theorem three_lt : ∀ v, v < 12 → ∀ y, y < v → ∀ x, x < y → ∀ v', v' < 12 → ∀ y', y' < v' → ∀ x', x' < y' → (2 ^ x' ||| 2 ^ y' ||| 2 ^ v') < (2 ^ x ||| 2 ^ y ||| 2 ^ v) → v' < v ∨ (v' = v ∧ (y' < y ∨ (y' = y ∧ x' < x))) := by
  intro v hv y hy x hx v' hv' y' hy' x' hx' h
  have := allF_iff.mp (allF_iff.mp (allF_iff.mp (allF_iff.mp (allF_iff.mp (allF_iff.mp three_l v hv) y hy) x hx) v' hv') y' hy') x' hx'
  rw [decide_eq_true h, Bool.not_true, Bool.false_or] at this
  simpa only [Bool.or_eq_true, Bool.and_eq_true, decide_eq_true_eq] using this
set_option maxHeartbeats 1000000 in
set_option maxRecDepth 100000 in
theorem l_X0_judge {μ : Mem} {b : Nat} {K F : Cel} {W : BitVec 64} {t r : Int} (hb : b < 2) (hK : KOK K) (hW : LWP K F 0 W) (hU : UI K 0 (μ.2 (23 + 7 * b)) 48) (hl : ¬ leftN K F 0 = 0) (ht : 0 ≤ t ∧ t < K 0 11) (hr : 0 ≤ r ∧ r ≤ 3) : ∀ (m n : Nat) (hh : Int), hh = (n : Int) - 1 → n ≤ 48 → n < m → PW shC 3 mX0_judge 38 [(0, vr (5 + b)), (1, vl W), (3, vi t), (5, vi r), (6, vi hh)] [] μ (QI (fun z μ' => z = judN K F r t.toNat n ∧ μ' = μ)) := by
  intro m
  induction m with
  | zero => intro n hh _ _ q; omega
  | succ m ih =>
  intro n hh hhe h48 hm
  have hK1 := hK.1
  have gs : ∀ hh : Int, 0 ≤ hh → hh < 48 → suC W (W &&& ~~~(μ.2 (23 + 7 * b) (hh * 12 + t))) = sureP K F 0 hh t.toNat := fun hh q q2 => suC_P (o := 0) hK (by decide) ht.1 hW (fun w hw => hU hh t w q q2 ht.1 ht.2 hw)
  have gm : ∀ hh : Int, 0 ≤ hh → hh < 48 → cnt (fun i => (W &&& ~~~(μ.2 (23 + 7 * b) (hh * 12 + t))).getLsbD i) 64 = manyP K F 0 hh t.toNat := fun hh q q2 => cl_n (o := 0) hK (by decide) ht.1 hW (fun w hw => hU hh t w q q2 ht.1 ht.2 hw)
  have gl : cnt (fun i => W.getLsbD i) 64 = leftN K F 0 := LW_n hW
  have gj : 0 ≤ hh → judN K F r t.toNat n = if sureP K F 0 hh t.toNat ≠ 1 then (if sureP K F 0 hh t.toNat = 2 then 1 else 0) else if r < 2 then r else if r = 2 then (if (leftN K F 0 : Int) < 2 * (manyP K F 0 hh t.toNat : Int) then 1 else 0) else judN K F r t.toNat (n - 1) := fun q => by
    obtain ⟨k, rfl⟩ : ∃ k, n = k + 1 := ⟨n - 1, by omega⟩
    rw [show hh = (k : Int) by omega]
    rfl
  have c64 := cnt_le (leftB K F 0) 64
  have c65 : leftN K F 0 ≤ 64 := c64
  have c66 : ∀ hh : Int, manyP K F 0 hh t.toNat ≤ 64 := fun hh => cnt_le _ 64
  have c67 := c66 hh
  refine P_iload (pc := 38) dX0_judge_38 4 rfl ?_
  refine P_if_lt (tgt := 122) (pc := 40) dX0_judge_40 (by decide) (by first | assumption | (unfold InR; omega)) (fun c_40 => ?_) (fun c_40 => ?_)
  · refine P_iconst (pc := 122) dX0_judge_122 ?_
    exact P_iret (pc := 123) dX0_judge_123 rfl (QI.mk (by first | (rw [if_pos (hl0.mp (by assumption))]; exact ⟨rfl, rfl⟩) | (have e9 : n = 0 := (by omega); subst e9; exact ⟨rfl, rfl⟩) | (rw [gj (by omega), ← hz]; refine ⟨?_, rfl⟩; first | (rw [if_pos (by omega), if_pos (by omega)]; done) | (rw [if_pos (by omega), if_neg (by omega)]; done) | (rw [if_neg (by omega), if_pos (by omega)]; done) | (rw [if_neg (by omega), if_neg (by omega), if_pos (by omega), if_pos (by omega)]; done) | (rw [if_neg (by omega), if_neg (by omega), if_pos (by omega), if_neg (by omega)]; done))))
  · refine P_aload_n (pc := 43) dX0_judge_43 rfl 0 rfl ?_
    refine P_lload_n (pc := 44) dX0_judge_44 rfl 1 rfl ?_
    refine P_iload_n (pc := 45) dX0_judge_45 rfl 2 rfl ?_
    refine P_iload (pc := 46) dX0_judge_46 4 rfl ?_
    refine P_callVi (Y' := mX0_sureIn) (as := [_, _, _]) (pc := 48) dX0_judge_48 rfl (by decide : 2 < 3) (sD_o hb) rfl ml_RX0_56 im_X0_sureIn se_X0_sureIn mk_X0_sureIn (Nat.le_of_ble_eq_true rfl) (c_X0_sureIn hb (by omega) (by omega)) (fun z_ μ_ hq => ?_)
    obtain ⟨hz, hμ_⟩ := hq
    have hμ_ := hμ_.symm
    subst hμ_
    rw [gs hh (by omega) (by omega)] at hz
    have hzr : InR z_ := by rw [hz]; unfold sureP InR; split; omega; split; omega; split <;> omega
    skip
    refine P_istore (L' := [(7, vi _), (0, vr (5 + b)), (1, vl _), (3, vi _), (5, vi _), (6, vi _)]) (pc := 51) dX0_judge_51 (by decide) rfl ?_
    refine P_iload (pc := 53) dX0_judge_53 0 rfl ?_
    refine P_iconst (pc := 55) dX0_judge_55 ?_
    refine P_icmp_eq (tgt := 71) (pc := 56) dX0_judge_56 (by decide) (by first | assumption | (unfold InR; omega)) (by first | assumption | (unfold InR; omega)) (fun c_56 => ?_) (fun c_56 => ?_)
    · refine P_iload (pc := 71) dX0_judge_71 4 rfl ?_
      refine P_iconst (pc := 73) dX0_judge_73 ?_
      refine P_icmp_ge (tgt := 80) (pc := 74) dX0_judge_74 (by decide) (by first | assumption | (unfold InR; omega)) (by first | assumption | (unfold InR; omega)) (fun c_74 => ?_) (fun c_74 => ?_)
      · refine P_iload (pc := 80) dX0_judge_80 4 rfl ?_
        refine P_iconst (pc := 82) dX0_judge_82 ?_
        refine P_icmp_ne (tgt := 116) (pc := 83) dX0_judge_83 (by decide) (by first | assumption | (unfold InR; omega)) (by first | assumption | (unfold InR; omega)) (fun c_83 => ?_) (fun c_83 => ?_)
        · refine P_iinc (L' := [(6, vi _), (7, vi _), (0, vr (5 + b)), (1, vl _), (3, vi _), (5, vi _)]) (pc := 116) dX0_judge_116 (by decide) 5 rfl rfl ?_
          refine P_goto (tgt := 38) (pc := 119) dX0_judge_119 (by decide) ?_
          refine P_sub (L' := [(0, vr (5 + b)), (1, vl _), (3, vi _), (5, vi _), (6, vi _)]) [2, 3, 4, 5, 0] rfl ?_
          have e9 : judN K F r t.toNat n = judN K F r t.toNat (n - 1) := by rw [gj (by omega), ← hz, if_neg (by omega), if_neg (by omega), if_neg (by omega)]
          rw [e9]
          exact ih (n - 1) (hh + -1) (by omega) (by omega) (by omega)
        · refine P_aload_n (pc := 86) dX0_judge_86 rfl 1 rfl ?_
          refine P_lload_n (pc := 87) dX0_judge_87 rfl 2 rfl ?_
          refine P_iload_n (pc := 88) dX0_judge_88 rfl 3 rfl ?_
          refine P_iload (pc := 89) dX0_judge_89 5 rfl ?_
          refine P_callVl (Y' := mX0_cleanIn) (as := [_, _, _]) (pc := 91) dX0_judge_91 rfl (by decide : 1 < 3) (sD_o hb) rfl ml_RX0_44 im_X0_cleanIn se_X0_cleanIn mk_X0_cleanIn (Nat.le_of_ble_eq_true rfl) (c_X0_cleanIn hb (by omega) (by omega)) (fun z_ μ_ hq => ?_)
          obtain ⟨hc, hμ_⟩ := hq
          have hμ_ := hμ_.symm
          subst hμ_
          subst hc
          skip
          refine P_callSi (Y' := mJ13_bitCount_95d88) (as := [_]) (pc := 94) dX0_judge_94 rfl (by decide : 0 < 3) ml_RX0_60 sm_J13_bitCount_95d88 mk_J13_bitCount_95d88 (Nat.le_of_ble_eq_true rfl) (c_J13_bitCount_95d88) (fun z_ μ_ hq => ?_)
          obtain ⟨hm2, hμ_⟩ := hq
          have hμ_ := hμ_.symm
          subst hμ_
          rw [gm hh (by omega) (by omega)] at hm2
          subst hm2
          skip
          refine P_istore (L' := [(8, vi _), (7, vi _), (0, vr (5 + b)), (1, vl _), (3, vi _), (5, vi _), (6, vi _)]) (pc := 97) dX0_judge_97 (by decide) rfl ?_
          refine P_iconst (pc := 99) dX0_judge_99 ?_
          refine P_iload (pc := 100) dX0_judge_100 0 rfl ?_
          refine P_imul (pc := 102) dX0_judge_102 ?_
          refine P_lload_n (pc := 103) dX0_judge_103 rfl 3 rfl ?_
          refine P_callSi (Y' := mJ13_bitCount_95d88) (as := [_]) (pc := 104) dX0_judge_104 rfl (by decide : 0 < 3) ml_RX0_60 sm_J13_bitCount_95d88 mk_J13_bitCount_95d88 (Nat.le_of_ble_eq_true rfl) (c_J13_bitCount_95d88) (fun z_ μ_ hq => ?_)
          obtain ⟨hl2, hμ_⟩ := hq
          have hμ_ := hμ_.symm
          subst hμ_
          rw [gl] at hl2
          subst hl2
          skip
          refine P_icmp_le (tgt := 114) (pc := 107) dX0_judge_107 (by decide) (by first | assumption | (unfold InR; omega)) (by first | assumption | (unfold InR; omega)) (fun c_107 => ?_) (fun c_107 => ?_)
          · refine P_iconst (pc := 114) dX0_judge_114 ?_
            exact P_iret (pc := 115) dX0_judge_115 rfl (QI.mk (by first | (rw [if_pos (hl0.mp (by assumption))]; exact ⟨rfl, rfl⟩) | (have e9 : n = 0 := (by omega); subst e9; exact ⟨rfl, rfl⟩) | (rw [gj (by omega), ← hz]; refine ⟨?_, rfl⟩; first | (rw [if_pos (by omega), if_pos (by omega)]; done) | (rw [if_pos (by omega), if_neg (by omega)]; done) | (rw [if_neg (by omega), if_pos (by omega)]; done) | (rw [if_neg (by omega), if_neg (by omega), if_pos (by omega), if_pos (by omega)]; done) | (rw [if_neg (by omega), if_neg (by omega), if_pos (by omega), if_neg (by omega)]; done))))
          · refine P_iconst (pc := 110) dX0_judge_110 ?_
            refine P_goto (tgt := 115) (pc := 111) dX0_judge_111 (by decide) ?_
            exact P_iret (pc := 115) dX0_judge_115 rfl (QI.mk (by first | (rw [if_pos (hl0.mp (by assumption))]; exact ⟨rfl, rfl⟩) | (have e9 : n = 0 := (by omega); subst e9; exact ⟨rfl, rfl⟩) | (rw [gj (by omega), ← hz]; refine ⟨?_, rfl⟩; first | (rw [if_pos (by omega), if_pos (by omega)]; done) | (rw [if_pos (by omega), if_neg (by omega)]; done) | (rw [if_neg (by omega), if_pos (by omega)]; done) | (rw [if_neg (by omega), if_neg (by omega), if_pos (by omega), if_pos (by omega)]; done) | (rw [if_neg (by omega), if_neg (by omega), if_pos (by omega), if_neg (by omega)]; done))))
      · refine P_iload (pc := 77) dX0_judge_77 4 rfl ?_
        exact P_iret (pc := 79) dX0_judge_79 rfl (QI.mk (by first | (rw [if_pos (hl0.mp (by assumption))]; exact ⟨rfl, rfl⟩) | (have e9 : n = 0 := (by omega); subst e9; exact ⟨rfl, rfl⟩) | (rw [gj (by omega), ← hz]; refine ⟨?_, rfl⟩; first | (rw [if_pos (by omega), if_pos (by omega)]; done) | (rw [if_pos (by omega), if_neg (by omega)]; done) | (rw [if_neg (by omega), if_pos (by omega)]; done) | (rw [if_neg (by omega), if_neg (by omega), if_pos (by omega), if_pos (by omega)]; done) | (rw [if_neg (by omega), if_neg (by omega), if_pos (by omega), if_neg (by omega)]; done))))
    · refine P_iload (pc := 59) dX0_judge_59 0 rfl ?_
      refine P_iconst (pc := 61) dX0_judge_61 ?_
      refine P_icmp_ne (tgt := 69) (pc := 62) dX0_judge_62 (by decide) (by first | assumption | (unfold InR; omega)) (by first | assumption | (unfold InR; omega)) (fun c_62 => ?_) (fun c_62 => ?_)
      · refine P_iconst (pc := 69) dX0_judge_69 ?_
        exact P_iret (pc := 70) dX0_judge_70 rfl (QI.mk (by first | (rw [if_pos (hl0.mp (by assumption))]; exact ⟨rfl, rfl⟩) | (have e9 : n = 0 := (by omega); subst e9; exact ⟨rfl, rfl⟩) | (rw [gj (by omega), ← hz]; refine ⟨?_, rfl⟩; first | (rw [if_pos (by omega), if_pos (by omega)]; done) | (rw [if_pos (by omega), if_neg (by omega)]; done) | (rw [if_neg (by omega), if_pos (by omega)]; done) | (rw [if_neg (by omega), if_neg (by omega), if_pos (by omega), if_pos (by omega)]; done) | (rw [if_neg (by omega), if_neg (by omega), if_pos (by omega), if_neg (by omega)]; done))))
      · refine P_iconst (pc := 65) dX0_judge_65 ?_
        refine P_goto (tgt := 70) (pc := 66) dX0_judge_66 (by decide) ?_
        exact P_iret (pc := 70) dX0_judge_70 rfl (QI.mk (by first | (rw [if_pos (hl0.mp (by assumption))]; exact ⟨rfl, rfl⟩) | (have e9 : n = 0 := (by omega); subst e9; exact ⟨rfl, rfl⟩) | (rw [gj (by omega), ← hz]; refine ⟨?_, rfl⟩; first | (rw [if_pos (by omega), if_pos (by omega)]; done) | (rw [if_pos (by omega), if_neg (by omega)]; done) | (rw [if_neg (by omega), if_pos (by omega)]; done) | (rw [if_neg (by omega), if_neg (by omega), if_pos (by omega), if_pos (by omega)]; done) | (rw [if_neg (by omega), if_neg (by omega), if_pos (by omega), if_neg (by omega)]; done))))
set_option maxHeartbeats 1000000 in
set_option maxRecDepth 100000 in
theorem c_X0_judge {μ : Mem} {b : Nat} {K F : Cel} {W : BitVec 64} {t h : Int} (hb : b < 2) (hK : KOK K) (hW : LWP K F 0 W) (hU : UI K 0 (μ.2 (23 + 7 * b)) 48) (hR : KR K μ) (hHH : HH K μ) (hK4 : ∀ j, K 4 j = 0 ∨ K 4 j = 1) (ht : 0 ≤ t ∧ t < K 0 11) (hh : 0 ≤ h ∧ h < 48) : PC shC 3 mX0_judge [vr (5 + b), vl W, vi t, vi h] (μ) (QI (fun z μ' => z = (if leftN K F 0 = 0 then -9 else judN K F (K 6 (1 + K 4 t)) t.toNat (h + 1).toNat) ∧ μ' = μ)) := by
  refine PC.of (by decide +kernel) (Nat.le_of_ble_eq_true rfl) ?_
  refine P_sub (L' := [(0, vr (5 + b)), (1, vl W), (3, vi t), (4, vi h)]) [0, 1, 2, 3] rfl ?_
  have hl0 : W = 0#64 ↔ leftN K F 0 = 0 := LW_0 hW
  obtain ⟨Hn, h1, h2, h3⟩ := hHH
  have h3 := h3 t.toNat (by omega)
  rw [show ((t.toNat : Nat) : Int) = t by omega] at h3
  have hK1 := hK.1
  have k61 := hK.2.2.2.2.2.1 1
  have k62 := hK.2.2.2.2.2.1 2
  refine P_lload_n (pc := 0) dX0_judge_0 rfl 1 rfl ?_
  refine P_lconst (b := 0#64) (pc := 1) dX0_judge_1 rfl ?_
  refine P_lcmp_ne (tgt := 9) (pc := 2) dX0_judge_2 dX0_judge_3 (by decide) (fun c_2 => ?_) (fun c_2 => ?_)
  · refine P_aload_n (pc := 9) dX0_judge_9 rfl 0 rfl ?_
    refine P_getR (pc := 10) dX0_judge_10 fa_RX0_9 (sD_o hb) fD_0 ?_
    refine P_aload_n (pc := 13) dX0_judge_13 rfl 0 rfl ?_
    refine P_getR (pc := 14) dX0_judge_14 fa_RX0_9 (sD_o hb) fD_0 ?_
    refine P_iload_n (pc := 17) dX0_judge_17 rfl 2 rfl ?_
    refine P_callVi (Y' := mX3_isHidden) (as := [_]) (pc := 18) dX0_judge_18 rfl (by decide : 0 < 3) sC_1 rfl ml_RX0_48 im_X3_isHidden se_X3_isHidden mk_X3_isHidden (Nat.le_of_ble_eq_true rfl) (c_X3_isHidden h1 h2 (by omega)) (fun z_ μ_ hq => ?_)
    obtain ⟨hz, hμ_⟩ := hq
    have hμ_ := hμ_.symm
    subst hμ_
    have hz := ite01 hz
    skip
    refine P_if_eq (tgt := 28) (pc := 21) dX0_judge_21 (by decide) (by first | assumption | (unfold InR; omega)) (fun c_21 => ?_) (fun c_21 => ?_)
    · refine P_iconst (pc := 28) dX0_judge_28 ?_
      refine P_callVi (Y' := mX3_ruleOf) (as := [_]) (pc := 29) dX0_judge_29 rfl (by decide : 0 < 3) sC_1 rfl ml_RX0_52 im_X3_ruleOf se_X3_ruleOf mk_X3_ruleOf (Nat.le_of_ble_eq_true rfl) (c_X3_ruleOf (by unfold InR; omega)) (fun z_ μ_ hq => ?_)
      obtain ⟨hr, hμ_⟩ := hq
      have hμ_ := hμ_.symm
      subst hμ_
      rw [if_pos (by omega), hR.2.2.2.1] at hr
      subst hr
      skip
      refine P_istore (L' := [(5, vi _), (0, vr (5 + b)), (1, vl _), (3, vi _), (4, vi _)]) (pc := 32) dX0_judge_32 (by decide) rfl ?_
      refine P_iload (pc := 34) dX0_judge_34 4 rfl ?_
      refine P_istore (L' := [(6, vi _), (5, vi _), (0, vr (5 + b)), (1, vl _), (3, vi _), (4, vi _)]) (pc := 36) dX0_judge_36 (by decide) rfl ?_
      refine P_sub (L' := [(0, vr (5 + b)), (1, vl _), (3, vi _), (5, vi _), (6, vi _)]) [2, 3, 4, 1, 0] rfl ?_
      rw [if_neg (fun z => c_2 (hl0.mpr z))]
      first
        | (have e4 : K 4 t = 1 := by rcases hz with q | q; omega; exact h3.mp q.2
           rw [e4, show (1 : Int) + 1 = 2 by omega]
           exact l_X0_judge hb hK hW hU (fun z => c_2 (hl0.mpr z)) ht k62 ((h + 1).toNat + 1) (h + 1).toNat h (by omega) (by omega) (by omega))
        | (have e4 : K 4 t = 0 := by rcases hK4 t with q | q; exact q; exact absurd (h3.mpr q) (by rcases hz with g | g; exact g.2; omega)
           rw [e4, show (1 : Int) + 0 = 1 by omega]
           exact l_X0_judge hb hK hW hU (fun z => c_2 (hl0.mpr z)) ht k61 ((h + 1).toNat + 1) (h + 1).toNat h (by omega) (by omega) (by omega))
    · refine P_iconst (pc := 24) dX0_judge_24 ?_
      refine P_goto (tgt := 29) (pc := 25) dX0_judge_25 (by decide) ?_
      refine P_callVi (Y' := mX3_ruleOf) (as := [_]) (pc := 29) dX0_judge_29 rfl (by decide : 0 < 3) sC_1 rfl ml_RX0_52 im_X3_ruleOf se_X3_ruleOf mk_X3_ruleOf (Nat.le_of_ble_eq_true rfl) (c_X3_ruleOf (by unfold InR; omega)) (fun z_ μ_ hq => ?_)
      obtain ⟨hr, hμ_⟩ := hq
      have hμ_ := hμ_.symm
      subst hμ_
      rw [if_pos (by omega), hR.2.2.2.1] at hr
      subst hr
      skip
      refine P_istore (L' := [(5, vi _), (0, vr (5 + b)), (1, vl _), (3, vi _), (4, vi _)]) (pc := 32) dX0_judge_32 (by decide) rfl ?_
      refine P_iload (pc := 34) dX0_judge_34 4 rfl ?_
      refine P_istore (L' := [(6, vi _), (5, vi _), (0, vr (5 + b)), (1, vl _), (3, vi _), (4, vi _)]) (pc := 36) dX0_judge_36 (by decide) rfl ?_
      refine P_sub (L' := [(0, vr (5 + b)), (1, vl _), (3, vi _), (5, vi _), (6, vi _)]) [2, 3, 4, 1, 0] rfl ?_
      rw [if_neg (fun z => c_2 (hl0.mpr z))]
      first
        | (have e4 : K 4 t = 1 := by rcases hz with q | q; omega; exact h3.mp q.2
           rw [e4, show (1 : Int) + 1 = 2 by omega]
           exact l_X0_judge hb hK hW hU (fun z => c_2 (hl0.mpr z)) ht k62 ((h + 1).toNat + 1) (h + 1).toNat h (by omega) (by omega) (by omega))
        | (have e4 : K 4 t = 0 := by rcases hK4 t with q | q; exact q; exact absurd (h3.mpr q) (by rcases hz with g | g; exact g.2; omega)
           rw [e4, show (1 : Int) + 0 = 1 by omega]
           exact l_X0_judge hb hK hW hU (fun z => c_2 (hl0.mpr z)) ht k61 ((h + 1).toNat + 1) (h + 1).toNat h (by omega) (by omega) (by omega))
  · refine P_bipush (pc := 6) dX0_judge_6 (by decide) ?_
    exact P_iret (pc := 8) dX0_judge_8 rfl (QI.mk (by first | (rw [if_pos (hl0.mp (by assumption))]; exact ⟨rfl, rfl⟩) | (have e9 : n = 0 := (by omega); subst e9; exact ⟨rfl, rfl⟩) | (rw [gj (by omega), ← hz]; refine ⟨?_, rfl⟩; first | (rw [if_pos (by omega), if_pos (by omega)]; done) | (rw [if_pos (by omega), if_neg (by omega)]; done) | (rw [if_neg (by omega), if_pos (by omega)]; done) | (rw [if_neg (by omega), if_neg (by omega), if_pos (by omega), if_pos (by omega)]; done) | (rw [if_neg (by omega), if_neg (by omega), if_pos (by omega), if_neg (by omega)]; done))))
set_option maxHeartbeats 1000000 in
set_option maxRecDepth 100000 in
theorem c_X0_areRivals {μ : Mem} {b : Nat} {W : BitVec 64} {h x y v : Int} (hb : b < 2) (hh : 0 ≤ h ∧ h < 48) (hx : 0 ≤ x ∧ x < 12) (hy : 0 ≤ y ∧ y < 12) (hv : 0 ≤ v ∧ v < 12) : PC shC 2 mX0_areRivals [vr (5 + b), vl W, vi h, vi x, vi y, vi v] (μ) (QI (fun z μ' => (z = 1 ∧ rivC W (μ.2 (23 + 7 * b) (h * 12 + x)) (μ.2 (23 + 7 * b) (h * 12 + y)) (μ.2 (23 + 7 * b) (h * 12 + v)) ∨ z = 0 ∧ ¬ rivC W (μ.2 (23 + 7 * b) (h * 12 + x)) (μ.2 (23 + 7 * b) (h * 12 + y)) (μ.2 (23 + 7 * b) (h * 12 + v))) ∧ μ' = μ)) := by
  refine PC.of (by decide +kernel) (Nat.le_of_ble_eq_true rfl) ?_
  refine P_sub (L' := [(0, vr (5 + b)), (1, vl W), (3, vi h), (4, vi x), (5, vi y), (6, vi v)]) [0, 1, 2, 3, 4, 5] rfl ?_
  refine P_aload_n (pc := 0) dX0_areRivals_0 rfl 0 rfl ?_
  refine P_lload_n (pc := 1) dX0_areRivals_1 rfl 1 rfl ?_
  refine P_iload (pc := 2) dX0_areRivals_2 3 rfl ?_
  refine P_iload_n (pc := 4) dX0_areRivals_4 rfl 2 rfl ?_
  refine P_callVl (Y' := mX0_cleanIn) (as := [_, _, _]) (pc := 5) dX0_areRivals_5 rfl (by decide : 1 < 2) (sD_o hb) rfl ml_RX0_44 im_X0_cleanIn se_X0_cleanIn mk_X0_cleanIn (Nat.le_of_ble_eq_true rfl) (c_X0_cleanIn hb hx hh) (fun z_ μ_ hq => ?_)
  obtain ⟨hz, hμ_⟩ := hq
  have hμ_ := hμ_.symm
  subst hμ_
  subst hz
  skip
  refine P_lstore (L' := [(7, vl _), (0, vr (5 + b)), (1, vl _), (3, vi _), (4, vi _), (5, vi _), (6, vi _)]) (pc := 8) dX0_areRivals_8 (by decide) rfl ?_
  refine P_aload_n (pc := 10) dX0_areRivals_10 rfl 1 rfl ?_
  refine P_lload_n (pc := 11) dX0_areRivals_11 rfl 2 rfl ?_
  refine P_iload (pc := 12) dX0_areRivals_12 5 rfl ?_
  refine P_iload_n (pc := 14) dX0_areRivals_14 rfl 3 rfl ?_
  refine P_callVl (Y' := mX0_cleanIn) (as := [_, _, _]) (pc := 15) dX0_areRivals_15 rfl (by decide : 1 < 2) (sD_o hb) rfl ml_RX0_44 im_X0_cleanIn se_X0_cleanIn mk_X0_cleanIn (Nat.le_of_ble_eq_true rfl) (c_X0_cleanIn hb hy hh) (fun z_ μ_ hq => ?_)
  obtain ⟨hz, hμ_⟩ := hq
  have hμ_ := hμ_.symm
  subst hμ_
  subst hz
  skip
  refine P_lstore (L' := [(9, vl _), (7, vl _), (0, vr (5 + b)), (1, vl _), (3, vi _), (4, vi _), (5, vi _), (6, vi _)]) (pc := 18) dX0_areRivals_18 (by decide) rfl ?_
  refine P_aload_n (pc := 20) dX0_areRivals_20 rfl 2 rfl ?_
  refine P_lload_n (pc := 21) dX0_areRivals_21 rfl 3 rfl ?_
  refine P_iload (pc := 22) dX0_areRivals_22 7 rfl ?_
  refine P_iload_n (pc := 24) dX0_areRivals_24 rfl 4 rfl ?_
  refine P_callVl (Y' := mX0_cleanIn) (as := [_, _, _]) (pc := 25) dX0_areRivals_25 rfl (by decide : 1 < 2) (sD_o hb) rfl ml_RX0_44 im_X0_cleanIn se_X0_cleanIn mk_X0_cleanIn (Nat.le_of_ble_eq_true rfl) (c_X0_cleanIn hb hv hh) (fun z_ μ_ hq => ?_)
  obtain ⟨hz, hμ_⟩ := hq
  have hμ_ := hμ_.symm
  subst hμ_
  subst hz
  skip
  refine P_lstore (L' := [(11, vl _), (9, vl _), (7, vl _), (0, vr (5 + b)), (1, vl _), (3, vi _), (4, vi _), (5, vi _), (6, vi _)]) (pc := 28) dX0_areRivals_28 (by decide) rfl ?_
  refine P_lload (pc := 30) dX0_areRivals_30 2 rfl ?_
  refine P_lconst (b := 0#64) (pc := 32) dX0_areRivals_32 rfl ?_
  refine P_lcmp_eq (tgt := 68) (pc := 33) dX0_areRivals_33 dX0_areRivals_34 (by decide) (fun c_33 => ?_) (fun c_33 => ?_)
  · refine P_iconst (pc := 68) dX0_areRivals_68 ?_
    exact P_zret (pc := 69) dX0_areRivals_69 rfl (by omega) (QI.mk (by first | exact ⟨Or.inl ⟨rfl, c_33, c_40, c_47, c_60⟩, rfl⟩ | exact ⟨Or.inr ⟨rfl, fun q => q.1 c_33⟩, rfl⟩ | exact ⟨Or.inr ⟨rfl, fun q => q.2.1 c_40⟩, rfl⟩ | exact ⟨Or.inr ⟨rfl, fun q => q.2.2.1 c_47⟩, rfl⟩ | exact ⟨Or.inr ⟨rfl, fun q => c_60 q.2.2.2⟩, rfl⟩))
  · refine P_lload (pc := 37) dX0_areRivals_37 1 rfl ?_
    refine P_lconst (b := 0#64) (pc := 39) dX0_areRivals_39 rfl ?_
    refine P_lcmp_eq (tgt := 68) (pc := 40) dX0_areRivals_40 dX0_areRivals_41 (by decide) (fun c_40 => ?_) (fun c_40 => ?_)
    · refine P_iconst (pc := 68) dX0_areRivals_68 ?_
      exact P_zret (pc := 69) dX0_areRivals_69 rfl (by omega) (QI.mk (by first | exact ⟨Or.inl ⟨rfl, c_33, c_40, c_47, c_60⟩, rfl⟩ | exact ⟨Or.inr ⟨rfl, fun q => q.1 c_33⟩, rfl⟩ | exact ⟨Or.inr ⟨rfl, fun q => q.2.1 c_40⟩, rfl⟩ | exact ⟨Or.inr ⟨rfl, fun q => q.2.2.1 c_47⟩, rfl⟩ | exact ⟨Or.inr ⟨rfl, fun q => c_60 q.2.2.2⟩, rfl⟩))
    · refine P_lload (pc := 44) dX0_areRivals_44 0 rfl ?_
      refine P_lconst (b := 0#64) (pc := 46) dX0_areRivals_46 rfl ?_
      refine P_lcmp_eq (tgt := 68) (pc := 47) dX0_areRivals_47 dX0_areRivals_48 (by decide) (fun c_47 => ?_) (fun c_47 => ?_)
      · refine P_iconst (pc := 68) dX0_areRivals_68 ?_
        exact P_zret (pc := 69) dX0_areRivals_69 rfl (by omega) (QI.mk (by first | exact ⟨Or.inl ⟨rfl, c_33, c_40, c_47, c_60⟩, rfl⟩ | exact ⟨Or.inr ⟨rfl, fun q => q.1 c_33⟩, rfl⟩ | exact ⟨Or.inr ⟨rfl, fun q => q.2.1 c_40⟩, rfl⟩ | exact ⟨Or.inr ⟨rfl, fun q => q.2.2.1 c_47⟩, rfl⟩ | exact ⟨Or.inr ⟨rfl, fun q => c_60 q.2.2.2⟩, rfl⟩))
      · refine P_lload (pc := 51) dX0_areRivals_51 2 rfl ?_
        refine P_lload (pc := 53) dX0_areRivals_53 1 rfl ?_
        refine P_land (pc := 55) dX0_areRivals_55 ?_
        refine P_lload (pc := 56) dX0_areRivals_56 0 rfl ?_
        refine P_land (pc := 58) dX0_areRivals_58 ?_
        refine P_lconst (b := 0#64) (pc := 59) dX0_areRivals_59 rfl ?_
        refine P_lcmp_ne (tgt := 68) (pc := 60) dX0_areRivals_60 dX0_areRivals_61 (by decide) (fun c_60 => ?_) (fun c_60 => ?_)
        · refine P_iconst (pc := 68) dX0_areRivals_68 ?_
          exact P_zret (pc := 69) dX0_areRivals_69 rfl (by omega) (QI.mk (by first | exact ⟨Or.inl ⟨rfl, c_33, c_40, c_47, c_60⟩, rfl⟩ | exact ⟨Or.inr ⟨rfl, fun q => q.1 c_33⟩, rfl⟩ | exact ⟨Or.inr ⟨rfl, fun q => q.2.1 c_40⟩, rfl⟩ | exact ⟨Or.inr ⟨rfl, fun q => q.2.2.1 c_47⟩, rfl⟩ | exact ⟨Or.inr ⟨rfl, fun q => c_60 q.2.2.2⟩, rfl⟩))
        · refine P_iconst (pc := 64) dX0_areRivals_64 ?_
          refine P_goto (tgt := 69) (pc := 65) dX0_areRivals_65 (by decide) ?_
          exact P_zret (pc := 69) dX0_areRivals_69 rfl (by omega) (QI.mk (by first | exact ⟨Or.inl ⟨rfl, c_33, c_40, c_47, c_60⟩, rfl⟩ | exact ⟨Or.inr ⟨rfl, fun q => q.1 c_33⟩, rfl⟩ | exact ⟨Or.inr ⟨rfl, fun q => q.2.1 c_40⟩, rfl⟩ | exact ⟨Or.inr ⟨rfl, fun q => q.2.2.1 c_47⟩, rfl⟩ | exact ⟨Or.inr ⟨rfl, fun q => c_60 q.2.2.2⟩, rfl⟩))
