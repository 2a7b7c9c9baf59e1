theorem andN_bit {L : Nat → Bool} {C : Nat → Nat} {a i : Nat} : ∀ {n : Nat}, (andN L C a n).testBit i = true ↔ a.testBit i = true ∧ ∀ w, w < n → L w = true → (C w).testBit i = true
  | 0 => ⟨fun h => ⟨h, fun w hw => absurd hw (Nat.not_lt_zero w)⟩, fun h => h.1⟩
  | n + 1 => by
    have ih := andN_bit (L := L) (C := C) (a := a) (i := i) (n := n)
    simp only [andN]
    by_cases q : L n = true
    · rw [if_pos q, Nat.testBit_and, Bool.and_eq_true, ih]
      constructor
      · rintro ⟨⟨h1, h2⟩, h3⟩
        refine ⟨h1, fun w hw hl => ?_⟩
        rcases Nat.lt_or_ge w n with g | g
        · exact h2 w g hl
        · rw [show w = n by omega]; exact h3
      · rintro ⟨h1, h2⟩
        exact ⟨⟨h1, fun w hw hl => h2 w (by omega) hl⟩, h2 n (by omega) q⟩
    · rw [if_neg q, ih]
      constructor
      · rintro ⟨h1, h2⟩
        refine ⟨h1, fun w hw hl => ?_⟩
        rcases Nat.lt_or_ge w n with g | g
        · exact h2 w g hl
        · rw [show w = n by omega] at hl; exact absurd hl q
      · rintro ⟨h1, h2⟩
        exact ⟨h1, fun w hw hl => h2 w (by omega) hl⟩
def dbN (V : BitVec 64) (U : Pl) (h : Int) (n : Nat) : Nat := cnt (fun t => decide (suC V (V &&& ~~~(U (h * 12 + (t : Int)))) = 1)) n
theorem suC_1 {V C : BitVec 64} : suC V C = 1 ↔ (V ≠ 0#64 ∧ C ≠ V ∧ C ≠ 0#64) := by
  unfold suC
  by_cases a : V = 0#64
  · rw [if_pos a]
    exact ⟨fun z => absurd z (by decide), fun z => absurd a z.1⟩
  · rw [if_neg a]
    by_cases c : C = V
    · rw [if_pos c]
      exact ⟨fun z => absurd z (by decide), fun z => absurd c z.2.1⟩
    · rw [if_neg c]
      by_cases d : C = 0#64
      · rw [if_pos d]
        exact ⟨fun z => absurd z (by decide), fun z => absurd d z.2.2⟩
      · rw [if_neg d]
        exact ⟨fun _ => ⟨a, c, d⟩, fun _ => rfl⟩
theorem db_P {K F : Cel} {V : BitVec 64} {U : Pl} {h : Int} {u c : Nat} (hK : KOK K) (hh : 0 ≤ h ∧ h < 48) (hV : ∀ w, w < 64 → V.getLsbD w = subB K F u c w) (hU : UI K 0 U 48) : dbN V U h (K 0 11).toNat = doubtN K F h u c := by
  have hK1 := hK.1
  have hc : ∀ t : Nat, t < (K 0 11).toNat → ∀ w, w < 64 → (V &&& ~~~(U (h * 12 + (t : Int)))).getLsbD w = (subB K F u c w && decide (simX K (w : Int) h 0 13 (t : Int) = 0)) := fun t ht w hw => by
    have hx := (XOK_sim (w := (w : Int)) (till := h) (o := 0) hK (Or.inl rfl)).1 (t : Int)
    have hu := hU h (t : Int) w hh.1 hh.2 (by omega) (by omega) hw
    rw [BitVec.getLsbD_and, BitVec.getLsbD_not, hV w hw, hu, decide_eq_true hw, Bool.true_and]
    congr 1
    show (!decide (1 ≤ simX K (w : Int) h 0 13 (t : Int))) = _
    by_cases q : 1 ≤ simX K (w : Int) h 0 13 (t : Int)
    · rw [decide_eq_true q, decide_eq_false (by omega)]; rfl
    · rw [decide_eq_false q, decide_eq_true (by omega)]; rfl
  unfold dbN doubtN
  by_cases z : cnt (subB K F u c) 64 = 0
  · rw [if_pos z]
    have hz := cnt_0iff.mp z
    have hv0 : V = 0#64 := bv_0.mpr (fun w hw => by rw [hV w hw, hz w hw])
    refine cnt_0iff.mpr (fun t ht => decide_eq_false (fun q => ?_))
    exact (suC_1.mp q).1 hv0
  · rw [if_neg z]
    have hv0 : V ≠ 0#64 := fun q => z (cnt_0iff.mpr (fun w hw => by rw [← hV w hw, q, BitVec.getLsbD_zero]))
    unfold cnt31
    have e31 : 31 = (K 0 11).toNat + (31 - (K 0 11).toNat) := by omega
    rw [e31, cnt_add]
    have e0 : cnt (fun i => (orN (subB K F u c) (clW K h) 64 ^^^ (orN (subB K F u c) (clW K h) 64 &&& andN (subB K F u c) (clW K h) (2 ^ (K 0 11).toNat - 1) 64)).testBit ((K 0 11).toNat + i)) (31 - (K 0 11).toNat) = 0 := by
      refine cnt_0iff.mpr (fun i hi => ?_)
      rw [Nat.testBit_xor, Nat.testBit_and]
      have : (orN (subB K F u c) (clW K h) 64).testBit ((K 0 11).toNat + i) = false := by
        refine Bool.eq_false_iff.mpr (fun q => ?_)
        obtain ⟨w, -, -, q3⟩ := orN_bit.mp q
        rw [clW_tb, decide_eq_true_eq] at q3
        omega
      rw [this]
      rfl
    rw [e0, Nat.add_zero]
    refine cnt_congr _ (fun t ht => ?_)
    have hct := hc t ht
    rw [Nat.testBit_xor, Nat.testBit_and]
    have b1 : (orN (subB K F u c) (clW K h) 64).testBit t = true ↔ (V &&& ~~~(U (h * 12 + (t : Int)))) ≠ 0#64 := by
      rw [orN_bit, bv_ne]
      constructor
      · rintro ⟨w, hw, h1, h2⟩
        rw [clW_tb, decide_eq_true_eq] at h2
        exact ⟨w, hw, by rw [hct w hw, h1, decide_eq_true h2.2]; rfl⟩
      · rintro ⟨w, hw, h1⟩
        rw [hct w hw, Bool.and_eq_true, decide_eq_true_eq] at h1
        exact ⟨w, hw, h1.1, by rw [clW_tb]; exact decide_eq_true ⟨ht, h1.2⟩⟩
    have b2 : (andN (subB K F u c) (clW K h) (2 ^ (K 0 11).toNat - 1) 64).testBit t = true ↔ (V &&& ~~~(U (h * 12 + (t : Int)))) = V := by
      rw [andN_bit, bv_eq, Nat.testBit_two_pow_sub_one, decide_eq_true_eq]
      constructor
      · rintro ⟨-, h2⟩ w hw
        rw [hct w hw, hV w hw]
        cases e : subB K F u c w with
        | false => rfl
        | true =>
          have := h2 w hw e
          rw [clW_tb, decide_eq_true_eq] at this
          rw [decide_eq_true this.2]
          rfl
      · intro h2
        refine ⟨ht, fun w hw e => ?_⟩
        have := h2 w hw
        rw [hct w hw, hV w hw, e, Bool.true_and] at this
        rw [clW_tb]
        exact decide_eq_true ⟨ht, of_decide_eq_true this⟩
    by_cases c1 : (V &&& ~~~(U (h * 12 + (t : Int)))) = 0#64
    · rw [Bool.eq_false_iff.mpr (fun q => b1.mp q c1), decide_eq_false (fun q => (suC_1.mp q).2.2 c1)]
      rfl
    · rw [b1.mpr c1]
      by_cases c2 : (V &&& ~~~(U (h * 12 + (t : Int)))) = V
      · rw [b2.mpr c2, decide_eq_false (fun q => (suC_1.mp q).2.1 c2)]
        rfl
      · rw [Bool.eq_false_iff.mpr (fun q => c2 (b2.mp q)), decide_eq_true (suC_1.mpr ⟨hv0, c2, c1⟩)]
        rfl
theorem sub_1 {K F : Cel} {W : BitVec 64} {u : Nat} (hu : u < 6) (hW : LWP K F 0 W) : ∀ w, w < 64 → (W &&& oneB (u : Int)).getLsbD w = subB K F u 1 w := by
  intro w hw
  have e := oneB_bit u hu w hw
  unfold subB
  rw [BitVec.getLsbD_and, hW w hw, e]
  show (leftB K F 0 w && _) = _
  congr 1
  cases w.testBit u <;> rfl
theorem sub_0 {K F : Cel} {W : BitVec 64} {u : Nat} (hu : u < 6) (hW : LWP K F 0 W) : ∀ w, w < 64 → (W &&& ~~~(oneB (u : Int))).getLsbD w = subB K F u 0 w := by
  intro w hw
  have e := oneB_bit u hu w hw
  unfold subB
  rw [BitVec.getLsbD_and, BitVec.getLsbD_not, hW w hw, e, decide_eq_true hw, Bool.true_and]
  show (leftB K F 0 w && _) = _
  congr 1
  cases w.testBit u <;> rfl
theorem doubt_le {K F : Cel} {h : Int} {u c : Nat} {V : BitVec 64} {U : Pl} (hK : KOK K) (e : dbN V U h (K 0 11).toNat = doubtN K F h u c) : doubtN K F h u c ≤ 12 := by
  rw [← e]
  have := cnt_le (fun t => decide (suC V (V &&& ~~~(U (h * 12 + (t : Int)))) = 1)) (K 0 11).toNat
  have hK1 := hK.1
  unfold dbN
  omega
theorem ques_pos {K F : Cel} {h : Int} : ∀ n : Nat, (0 ≤ (quesN K F h n).1 ↔ ∃ u, u < n ∧ (nmK K).testBit u = true) ∧ ((quesN K F h n).1 = -9 ∨ 0 ≤ (quesN K F h n).1)
  | 0 => ⟨⟨fun z => absurd (show (0 : Int) ≤ -9 from z) (by decide), fun ⟨u, hu, _⟩ => absurd hu (Nat.not_lt_zero u)⟩, Or.inl rfl⟩
  | n + 1 => by
    obtain ⟨h1, h2⟩ := ques_pos (K := K) (F := F) (h := h) n
    simp only [quesN]
    by_cases q : (nmK K).testBit n = true
    · rw [if_pos q]
      have g : ∃ u, u < n + 1 ∧ (nmK K).testBit u = true := ⟨n, by omega, q⟩
      split
      · rename_i r
        exact ⟨⟨fun _ => g, fun _ => r.1⟩, Or.inr r.1⟩
      · exact ⟨⟨fun _ => g, fun _ => by dsimp only; omega⟩, Or.inr (by dsimp only; omega)⟩
    · rw [if_neg q]
      refine ⟨h1.trans ⟨fun ⟨u, a, c⟩ => ⟨u, by omega, c⟩, fun ⟨u, a, c⟩ => ?_⟩, h2⟩
      rcases Nat.lt_or_ge u n with g | g
      · exact ⟨u, g, c⟩
      · rw [show u = n by omega] at c; exact absurd c q
theorem ques_nm {K F : Cel} {h : Int} (hK : KOK K) : 0 ≤ (quesN K F h 6).1 ↔ nmK K ≠ 0 := by
  rw [(ques_pos 6).1]
  constructor
  · rintro ⟨u, -, q⟩ z
    rw [z] at q
    simp at q
  · intro z
    obtain ⟨u, hu⟩ := Nat.exists_testBit_of_ne_zero z
    refine ⟨u, ?_, hu⟩
    rcases Nat.lt_or_ge u 6 with g | g
    · exact g
    · exfalso
      have := Nat.testBit_lt_two_pow (x := nmK K) (i := u) (Nat.lt_of_lt_of_le (nmK_lt hK) (Nat.pow_le_pow_right (n := 2) (i := 6) (j := u) (by decide) g))
      rw [this] at hu
      cases hu
set_option maxHeartbeats 1000000 in
set_option maxRecDepth 100000 in
theorem l_X0_inDoubt {μ : Mem} {b : Nat} {K : Cel} {V : BitVec 64} {h : Int} (hb : b < 2) (hK : KOK K) (h6 : μ.1 1 6 = K 0 11) (hh : 0 ≤ h ∧ h < 48) : ∀ (n t : Nat), t ≤ (K 0 11).toNat → (K 0 11).toNat - t < n → PW shC 3 mX0_inDoubt 6 [(0, vr (5 + b)), (1, vl V), (3, vi h), (4, vi (dbN V (μ.2 (23 + 7 * b)) h t : Int)), (5, vi (t : Int))] [] μ (QI (fun z μ' => z = (dbN V (μ.2 (23 + 7 * b)) h (K 0 11).toNat : Int) ∧ μ' = μ)) := by
  intro n
  induction n with
  | zero => intro t _ q; omega
  | succ n ih =>
  intro t ht hn
  have hK1 := hK.1
  have hd : dbN V (μ.2 (23 + 7 * b)) h (t + 1) = dbN V (μ.2 (23 + 7 * b)) h t + (if decide (suC V (V &&& ~~~(μ.2 (23 + 7 * b) (h * 12 + (t : Int)))) = 1) = true then 1 else 0) := rfl
  refine P_iload (pc := 6) dX0_inDoubt_6 4 rfl ?_
  refine P_aload_n (pc := 8) dX0_inDoubt_8 rfl 0 rfl ?_
  refine P_getR (pc := 9) dX0_inDoubt_9 fa_RX0_9 (sD_o hb) fD_0 ?_
  refine P_getI (jj := 6) (pc := 12) dX0_inDoubt_12 fa_RX0_66 sC_1 fC1_6 rfl ?_
  skip
  rw [h6]
  refine P_icmp_ge (tgt := 39) (pc := 15) dX0_inDoubt_15 (by decide) (by first | assumption | (unfold InR; omega)) (by first | assumption | (unfold InR; omega)) (fun c_15 => ?_) (fun c_15 => ?_)
  · refine P_iload (pc := 39) dX0_inDoubt_39 3 rfl ?_
    exact P_iret (pc := 41) dX0_inDoubt_41 rfl (QI.mk (by have e9 : t = (K 0 11).toNat := (by omega); rw [e9]; exact ⟨rfl, rfl⟩))
  · refine P_aload_n (pc := 18) dX0_inDoubt_18 rfl 0 rfl ?_
    refine P_lload_n (pc := 19) dX0_inDoubt_19 rfl 1 rfl ?_
    refine P_iload (pc := 20) dX0_inDoubt_20 4 rfl ?_
    refine P_iload_n (pc := 22) dX0_inDoubt_22 rfl 2 rfl ?_
    refine P_callVi (Y' := mX0_sureIn) (as := [_, _, _]) (pc := 23) dX0_inDoubt_23 rfl (by decide : 2 < 3) (sD_o hb) rfl ml_RX0_56 im_X0_sureIn se_X0_sureIn mk_X0_sureIn (Nat.le_of_ble_eq_true rfl) (c_X0_sureIn hb (by omega) (by omega)) (fun z_ μ_ hq => ?_)
    obtain ⟨hz, hμ_⟩ := hq
    have hμ_ := hμ_.symm
    subst hμ_
    have hzr : InR z_ := by rw [hz]; unfold suC InR; split; omega; split; omega; split <;> omega
    rw [hz] at hzr
    subst hz
    skip
    refine P_iconst (pc := 26) dX0_inDoubt_26 ?_
    refine P_icmp_ne (tgt := 33) (pc := 27) dX0_inDoubt_27 (by decide) (by first | assumption | (unfold InR; omega)) (by first | assumption | (unfold InR; omega)) (fun c_27 => ?_) (fun c_27 => ?_)
    · refine P_iinc (L' := [(5, vi _), (0, vr (5 + b)), (1, vl _), (3, vi _), (4, vi _)]) (pc := 33) dX0_inDoubt_33 (by decide) 4 rfl rfl ?_
      refine P_goto (tgt := 6) (pc := 36) dX0_inDoubt_36 (by decide) ?_
      refine P_sub (L' := [(0, vr (5 + b)), (1, vl _), (3, vi _), (4, vi _), (5, vi _)]) [1, 2, 3, 4, 0] rfl ?_
      refine P_cast (L' := [(0, vr (5 + b)), (1, vl V), (3, vi h), (4, vi (dbN V (μ.2 (23 + 7 * b)) h (t + 1) : Int)), (5, vi ((t + 1 : Nat) : Int))]) ?_ rfl (ih (t + 1) (by omega) (by omega))
      rw [hd]
      first
        | (rw [if_pos (decide_eq_true c_27)]; rfl)
        | (rw [if_neg (by rw [decide_eq_false c_27]; decide)]; rfl)
    · refine P_iinc (L' := [(4, vi _), (0, vr (5 + b)), (1, vl _), (3, vi _), (5, vi _)]) (pc := 30) dX0_inDoubt_30 (by decide) 3 rfl rfl ?_
      refine P_iinc (L' := [(5, vi _), (4, vi _), (0, vr (5 + b)), (1, vl _), (3, vi _)]) (pc := 33) dX0_inDoubt_33 (by decide) 4 rfl rfl ?_
      refine P_goto (tgt := 6) (pc := 36) dX0_inDoubt_36 (by decide) ?_
      refine P_sub (L' := [(0, vr (5 + b)), (1, vl _), (3, vi _), (4, vi _), (5, vi _)]) [2, 3, 4, 1, 0] rfl ?_
      refine P_cast (L' := [(0, vr (5 + b)), (1, vl V), (3, vi h), (4, vi (dbN V (μ.2 (23 + 7 * b)) h (t + 1) : Int)), (5, vi ((t + 1 : Nat) : Int))]) ?_ rfl (ih (t + 1) (by omega) (by omega))
      rw [hd]
      first
        | (rw [if_pos (decide_eq_true c_27)]; rfl)
        | (rw [if_neg (by rw [decide_eq_false c_27]; decide)]; rfl)
set_option maxHeartbeats 1000000 in
set_option maxRecDepth 100000 in
theorem c_X0_inDoubt {μ : Mem} {b : Nat} {K : Cel} {V : BitVec 64} {h : Int} (hb : b < 2) (hK : KOK K) (h6 : μ.1 1 6 = K 0 11) (hh : 0 ≤ h ∧ h < 48) : PC shC 3 mX0_inDoubt [vr (5 + b), vl V, vi h] (μ) (QI (fun z μ' => z = (dbN V (μ.2 (23 + 7 * b)) h (K 0 11).toNat : Int) ∧ μ' = μ)) := by
  refine PC.of (by decide +kernel) (Nat.le_of_ble_eq_true rfl) ?_
  refine P_sub (L' := [(0, vr (5 + b)), (1, vl V), (3, vi h)]) [0, 1, 2] rfl ?_
  refine P_iconst (pc := 0) dX0_inDoubt_0 ?_
  refine P_istore (L' := [(4, vi _), (0, vr (5 + b)), (1, vl _), (3, vi _)]) (pc := 1) dX0_inDoubt_1 (by decide) rfl ?_
  refine P_iconst (pc := 3) dX0_inDoubt_3 ?_
  refine P_istore (L' := [(5, vi _), (4, vi _), (0, vr (5 + b)), (1, vl _), (3, vi _)]) (pc := 4) dX0_inDoubt_4 (by decide) rfl ?_
  refine P_sub (L' := [(0, vr (5 + b)), (1, vl _), (3, vi _), (4, vi _), (5, vi _)]) [2, 3, 4, 1, 0] rfl ?_
  exact l_X0_inDoubt (V := V) hb hK h6 hh ((K 0 11).toNat + 1) 0 (Nat.zero_le _) (by omega)
set_option maxHeartbeats 1000000 in
set_option maxRecDepth 100000 in
theorem l_X0_best {μ : Mem} {b : Nat} {K F : Cel} {W : BitVec 64} {h wh : Int} (hb : b < 2) (hK : KOK K) (hW : LWP K F 0 W) (hU : UI K 0 (μ.2 (23 + 7 * b)) 48) (hR : KR K μ) (hh : 0 ≤ h ∧ h < 48) (hwh : 0 ≤ wh ∧ wh ≤ 1) : ∀ (n j : Nat) (be le : Int), j ≤ 6 → 6 - j < n → be = (quesN K F h j).1 → (0 ≤ be → le = (quesN K F h j).2 ∧ 0 ≤ le ∧ le ≤ 12 ∧ be ≤ 5) → (be < 0 → be = -9 ∧ le = 13) → PW shC 4 mX0_bestQuestion 29 [(0, vr (5 + b)), (1, vl W), (3, vi h), (4, vi wh), (5, vi (nmK K : Int)), (6, vi be), (7, vi le), (8, vi (j : Int))] [] μ (QI (fun z μ' => z = (if nmK K = 0 then -9 else if wh = 0 then (quesN K F h 6).1 else (quesN K F h 6).2) ∧ μ' = μ)) := by
  intro n
  induction n with
  | zero => intro j be le _ q; omega
  | succ n ih =>
  intro j be le hj hn h1 h2 h3
  have hnm := nmK_lt hK
  have d1 := wdiv (w := (nmK K : Int)) (n := ((j : Int)).toNat) (by omega) (by omega)
  have gb := wbitN (u := j) (show (nmK K : Int) = ((nmK K : Nat) : Int) from rfl)
  have hq : quesN K F h (j + 1) = if (nmK K).testBit j = true then (if 0 ≤ (quesN K F h j).1 ∧ (quesN K F h j).2 ≤ maxI (doubtN K F h j 0 : Int) (doubtN K F h j 1 : Int) then quesN K F h j else ((j : Int), maxI (doubtN K F h j 0 : Int) (doubtN K F h j 1 : Int))) else quesN K F h j := rfl
  have hbe : InR be := by unfold InR; omega
  have hle : InR le := by unfold InR; omega
  refine P_iload (pc := 29) dX0_bestQuestion_29 7 rfl ?_
  refine P_bipush (pc := 31) dX0_bestQuestion_31 (by decide) ?_
  refine P_icmp_ge (tgt := 112) (pc := 33) dX0_bestQuestion_33 (by decide) (by first | assumption | (unfold InR; omega) | (rw [gb]; unfold InR; split <;> omega)) (by first | assumption | (unfold InR; omega) | (rw [gb]; unfold InR; split <;> omega)) (fun c_33 => ?_) (fun c_33 => ?_)
  · refine P_iload (pc := 112) dX0_bestQuestion_112 3 rfl ?_
    refine P_if_eq (tgt := 124) (pc := 114) dX0_bestQuestion_114 (by decide) (by first | assumption | (unfold InR; omega) | (rw [gb]; unfold InR; split <;> omega)) (fun c_114 => ?_) (fun c_114 => ?_)
    · refine P_iload (pc := 124) dX0_bestQuestion_124 5 rfl ?_
      refine P_goto (tgt := 131) (pc := 126) dX0_bestQuestion_126 (by decide) ?_
      exact P_iret (pc := 131) dX0_bestQuestion_131 rfl (QI.mk (by
            first
              | (rw [if_pos (Or.inr (hl0.mp (by assumption)))]; exact ⟨rfl, rfl⟩)
              | (have e9 : j = 6 := by omega
                 subst e9
                 have hp := ques_nm (F := F) (h := h) hK
                 refine ⟨?_, rfl⟩
                 by_cases q : nmK K = 0
                 · have : ¬ 0 ≤ be := by rw [h1]; exact fun z => hp.mp z q
                   have := h3 (by omega)
                   rw [if_pos q]
                   omega
                 · have g : 0 ≤ be := by rw [h1]; exact hp.mpr q
                   have g2 := h2 g
                   rw [if_neg q]
                   first
                     | (rw [if_pos (by omega)]; omega)
                     | (rw [if_neg (by omega)]; omega))))
    · refine P_iload (pc := 117) dX0_bestQuestion_117 5 rfl ?_
      refine P_bipush (pc := 119) dX0_bestQuestion_119 (by decide) ?_
      refine P_icmp_ne (tgt := 129) (pc := 121) dX0_bestQuestion_121 (by decide) (by first | assumption | (unfold InR; omega) | (rw [gb]; unfold InR; split <;> omega)) (by first | assumption | (unfold InR; omega) | (rw [gb]; unfold InR; split <;> omega)) (fun c_121 => ?_) (fun c_121 => ?_)
      · refine P_iload (pc := 129) dX0_bestQuestion_129 6 rfl ?_
        exact P_iret (pc := 131) dX0_bestQuestion_131 rfl (QI.mk (by
              first
                | (rw [if_pos (Or.inr (hl0.mp (by assumption)))]; exact ⟨rfl, rfl⟩)
                | (have e9 : j = 6 := by omega
                   subst e9
                   have hp := ques_nm (F := F) (h := h) hK
                   refine ⟨?_, rfl⟩
                   by_cases q : nmK K = 0
                   · have : ¬ 0 ≤ be := by rw [h1]; exact fun z => hp.mp z q
                     have := h3 (by omega)
                     rw [if_pos q]
                     omega
                   · have g : 0 ≤ be := by rw [h1]; exact hp.mpr q
                     have g2 := h2 g
                     rw [if_neg q]
                     first
                       | (rw [if_pos (by omega)]; omega)
                       | (rw [if_neg (by omega)]; omega))))
      · refine P_iload (pc := 124) dX0_bestQuestion_124 5 rfl ?_
        refine P_goto (tgt := 131) (pc := 126) dX0_bestQuestion_126 (by decide) ?_
        exact P_iret (pc := 131) dX0_bestQuestion_131 rfl (QI.mk (by
              first
                | (rw [if_pos (Or.inr (hl0.mp (by assumption)))]; exact ⟨rfl, rfl⟩)
                | (have e9 : j = 6 := by omega
                   subst e9
                   have hp := ques_nm (F := F) (h := h) hK
                   refine ⟨?_, rfl⟩
                   by_cases q : nmK K = 0
                   · have : ¬ 0 ≤ be := by rw [h1]; exact fun z => hp.mp z q
                     have := h3 (by omega)
                     rw [if_pos q]
                     omega
                   · have g : 0 ≤ be := by rw [h1]; exact hp.mpr q
                     have g2 := h2 g
                     rw [if_neg q]
                     first
                       | (rw [if_pos (by omega)]; omega)
                       | (rw [if_neg (by omega)]; omega))))
  · refine P_iload (pc := 36) dX0_bestQuestion_36 4 rfl ?_
    refine P_iload (pc := 38) dX0_bestQuestion_38 7 rfl ?_
    refine P_iushr (pc := 40) dX0_bestQuestion_40 (wI_ushr (by omega) (by omega) (by omega) (by omega)) ?_
    refine P_iconst (pc := 41) dX0_bestQuestion_41 ?_
    refine P_iand (pc := 42) dX0_bestQuestion_42 (wI_and d1.1 d1.2 (by omega) (by omega)) ?_
    refine P_iconst (pc := 43) dX0_bestQuestion_43 ?_
    refine P_icmp_ne (tgt := 106) (pc := 44) dX0_bestQuestion_44 (by decide) (by first | assumption | (unfold InR; omega) | (rw [gb]; unfold InR; split <;> omega)) (by first | assumption | (unfold InR; omega) | (rw [gb]; unfold InR; split <;> omega)) (fun c_44 => ?_) (fun c_44 => ?_)
    · refine P_iinc (L' := [(8, vi _), (0, vr (5 + b)), (1, vl _), (3, vi _), (4, vi _), (5, vi _), (6, vi _), (7, vi _)]) (pc := 106) dX0_bestQuestion_106 (by decide) 7 rfl rfl ?_
      refine P_goto (tgt := 29) (pc := 109) dX0_bestQuestion_109 (by decide) ?_
      refine P_sub (L' := [(0, vr (5 + b)), (1, vl _), (3, vi _), (4, vi _), (5, vi _), (6, vi _), (7, vi _), (8, vi _)]) [1, 2, 3, 4, 5, 6, 7, 0] rfl ?_
      first
        | (have hbit : ¬ (nmK K).testBit j = true := by rw [gb] at c_44; clear ih; grind
           rw [if_neg hbit] at hq
           exact P_cast (L' := [(0, vr (5 + b)), (1, vl W), (3, vi h), (4, vi wh), (5, vi (nmK K : Int)), (6, vi be), (7, vi le), (8, vi ((j + 1 : Nat) : Int))]) rfl rfl (ih (j + 1) be le (by omega) (by omega) (by rw [hq]; exact h1) (by rw [hq]; exact h2) h3))
        | (have hmx : maxI (doubtN K F h j 0 : Int) (doubtN K F h j 1 : Int) = z_ := by unfold maxI; split at hz <;> split <;> omega
           rw [if_pos hbit, hmx] at hq
           have hz0 : 0 ≤ z_ ∧ z_ ≤ 12 := by rw [hz]; split <;> omega
           first
             | (have hg : 0 ≤ (quesN K F h j).1 ∧ (quesN K F h j).2 ≤ z_ := by
                  by_cases q : 0 ≤ be
                  · have := h2 q; omega
                  · have := h3 (by omega); omega
                rw [if_pos hg] at hq
                exact P_cast (L' := [(0, vr (5 + b)), (1, vl W), (3, vi h), (4, vi wh), (5, vi (nmK K : Int)), (6, vi be), (7, vi le), (8, vi ((j + 1 : Nat) : Int))]) rfl rfl (ih (j + 1) be le (by omega) (by omega) (by rw [hq]; exact h1) (by rw [hq]; exact h2) h3))
             | (have hg : ¬ (0 ≤ (quesN K F h j).1 ∧ (quesN K F h j).2 ≤ z_) := by
                  intro z
                  have := h2 (by omega)
                  omega
                rw [if_neg hg] at hq
                exact P_cast (L' := [(0, vr (5 + b)), (1, vl W), (3, vi h), (4, vi wh), (5, vi (nmK K : Int)), (6, vi (j : Int)), (7, vi z_), (8, vi ((j + 1 : Nat) : Int))]) rfl rfl (ih (j + 1) (j : Int) z_ (by omega) (by omega) (by rw [hq]) (fun _ => ⟨by rw [hq], hz0.1, hz0.2, by omega⟩) (fun q => by omega))))
    · have hbit : (nmK K).testBit j = true := by rw [gb] at c_44; grind
      have e1 : dbN (W &&& oneB (j : Int)) (μ.2 (23 + 7 * b)) h (K 0 11).toNat = doubtN K F h j 1 := db_P hK hh (sub_1 (by omega) hW) hU
      have e0 : dbN (W &&& ~~~(oneB (j : Int))) (μ.2 (23 + 7 * b)) h (K 0 11).toNat = doubtN K F h j 0 := db_P hK hh (sub_0 (by omega) hW) hU
      have l1 := doubt_le hK e1
      have l0 := doubt_le hK e0
      refine P_aload_n (pc := 47) dX0_bestQuestion_47 rfl 0 rfl ?_
      refine P_lload_n (pc := 48) dX0_bestQuestion_48 rfl 1 rfl ?_
      refine P_getsN (pc := 49) dX0_bestQuestion_49 nf_RX0_77 ?_
      refine P_iload (pc := 52) dX0_bestQuestion_52 7 rfl ?_
      refine P_tald (pc := 54) dX0_bestQuestion_54 (by omega) (by omega) ?_
      refine P_land (pc := 55) dX0_bestQuestion_55 ?_
      refine P_iload_n (pc := 56) dX0_bestQuestion_56 rfl 2 rfl ?_
      refine P_callVi (Y' := mX0_inDoubt) (as := [_, _]) (pc := 57) dX0_bestQuestion_57 rfl (by decide : 3 < 4) (sD_o hb) rfl ml_RX0_81 im_X0_inDoubt se_X0_inDoubt mk_X0_inDoubt (Nat.le_of_ble_eq_true rfl) (c_X0_inDoubt hb hK hR.1.1 hh) (fun z_ μ_ hq => ?_)
      obtain ⟨hz, hμ_⟩ := hq
      have hμ_ := hμ_.symm
      subst hμ_
      rw [e1] at hz
      subst hz
      skip
      refine P_istore (L' := [(9, vi _), (0, vr (5 + b)), (1, vl _), (3, vi _), (4, vi _), (5, vi _), (6, vi _), (7, vi _), (8, vi _)]) (pc := 60) dX0_bestQuestion_60 (by decide) rfl ?_
      refine P_aload_n (pc := 62) dX0_bestQuestion_62 rfl 1 rfl ?_
      refine P_lload_n (pc := 63) dX0_bestQuestion_63 rfl 2 rfl ?_
      refine P_getsN (pc := 64) dX0_bestQuestion_64 nf_RX0_77 ?_
      refine P_iload (pc := 67) dX0_bestQuestion_67 8 rfl ?_
      refine P_tald (pc := 69) dX0_bestQuestion_69 (by omega) (by omega) ?_
      refine P_ldc2 (b := BitVec.allOnes 64) (pc := 70) dX0_bestQuestion_70 kl_RX0_42 (by decide +kernel) ?_
      refine P_lnot (pc := 73) dX0_bestQuestion_73 ?_
      refine P_land (pc := 74) dX0_bestQuestion_74 ?_
      refine P_iload_n (pc := 75) dX0_bestQuestion_75 rfl 3 rfl ?_
      refine P_callVi (Y' := mX0_inDoubt) (as := [_, _]) (pc := 76) dX0_bestQuestion_76 rfl (by decide : 3 < 4) (sD_o hb) rfl ml_RX0_81 im_X0_inDoubt se_X0_inDoubt mk_X0_inDoubt (Nat.le_of_ble_eq_true rfl) (c_X0_inDoubt hb hK hR.1.1 hh) (fun z_ μ_ hq => ?_)
      obtain ⟨hz, hμ_⟩ := hq
      have hμ_ := hμ_.symm
      subst hμ_
      rw [e0] at hz
      subst hz
      skip
      refine P_istore (L' := [(10, vi _), (9, vi _), (0, vr (5 + b)), (1, vl _), (3, vi _), (4, vi _), (5, vi _), (6, vi _), (7, vi _), (8, vi _)]) (pc := 79) dX0_bestQuestion_79 (by decide) rfl ?_
      refine P_iload (pc := 81) dX0_bestQuestion_81 1 rfl ?_
      refine P_iload (pc := 83) dX0_bestQuestion_83 0 rfl ?_
      refine P_callSi (Y' := mJ9_max_7cf53) (as := [_, _]) (pc := 85) dX0_bestQuestion_85 rfl (by decide : 0 < 4) ml_RX0_85 sm_J9_max_7cf53 mk_J9_max_7cf53 (Nat.le_of_ble_eq_true rfl) (c_J9_max_7cf53 (by unfold InR; omega) (by unfold InR; omega)) (fun z_ μ_ hq => ?_)
      obtain ⟨hz, hμ_⟩ := hq
      have hμ_ := hμ_.symm
      subst hμ_
      skip
      refine P_iload (pc := 88) dX0_bestQuestion_88 8 rfl ?_
      refine P_icmp_ge (tgt := 106) (pc := 90) dX0_bestQuestion_90 (by decide) (by first | assumption | (unfold InR; omega) | (rw [gb]; unfold InR; split <;> omega)) (by first | assumption | (unfold InR; omega) | (rw [gb]; unfold InR; split <;> omega)) (fun c_90 => ?_) (fun c_90 => ?_)
      · refine P_iinc (L' := [(8, vi _), (10, vi _), (9, vi _), (0, vr (5 + b)), (1, vl _), (3, vi _), (4, vi _), (5, vi _), (6, vi _), (7, vi _)]) (pc := 106) dX0_bestQuestion_106 (by decide) 9 rfl rfl ?_
        refine P_goto (tgt := 29) (pc := 109) dX0_bestQuestion_109 (by decide) ?_
        refine P_sub (L' := [(0, vr (5 + b)), (1, vl _), (3, vi _), (4, vi _), (5, vi _), (6, vi _), (7, vi _), (8, vi _)]) [3, 4, 5, 6, 7, 8, 9, 0] rfl ?_
        first
          | (have hbit : ¬ (nmK K).testBit j = true := by rw [gb] at c_44; clear ih; grind
             rw [if_neg hbit] at hq
             exact P_cast (L' := [(0, vr (5 + b)), (1, vl W), (3, vi h), (4, vi wh), (5, vi (nmK K : Int)), (6, vi be), (7, vi le), (8, vi ((j + 1 : Nat) : Int))]) rfl rfl (ih (j + 1) be le (by omega) (by omega) (by rw [hq]; exact h1) (by rw [hq]; exact h2) h3))
          | (have hmx : maxI (doubtN K F h j 0 : Int) (doubtN K F h j 1 : Int) = z_ := by unfold maxI; split at hz <;> split <;> omega
             rw [if_pos hbit, hmx] at hq
             have hz0 : 0 ≤ z_ ∧ z_ ≤ 12 := by rw [hz]; split <;> omega
             first
               | (have hg : 0 ≤ (quesN K F h j).1 ∧ (quesN K F h j).2 ≤ z_ := by
                    by_cases q : 0 ≤ be
                    · have := h2 q; omega
                    · have := h3 (by omega); omega
                  rw [if_pos hg] at hq
                  exact P_cast (L' := [(0, vr (5 + b)), (1, vl W), (3, vi h), (4, vi wh), (5, vi (nmK K : Int)), (6, vi be), (7, vi le), (8, vi ((j + 1 : Nat) : Int))]) rfl rfl (ih (j + 1) be le (by omega) (by omega) (by rw [hq]; exact h1) (by rw [hq]; exact h2) h3))
               | (have hg : ¬ (0 ≤ (quesN K F h j).1 ∧ (quesN K F h j).2 ≤ z_) := by
                    intro z
                    have := h2 (by omega)
                    omega
                  rw [if_neg hg] at hq
                  exact P_cast (L' := [(0, vr (5 + b)), (1, vl W), (3, vi h), (4, vi wh), (5, vi (nmK K : Int)), (6, vi (j : Int)), (7, vi z_), (8, vi ((j + 1 : Nat) : Int))]) rfl rfl (ih (j + 1) (j : Int) z_ (by omega) (by omega) (by rw [hq]) (fun _ => ⟨by rw [hq], hz0.1, hz0.2, by omega⟩) (fun q => by omega))))
      · refine P_iload (pc := 93) dX0_bestQuestion_93 1 rfl ?_
        refine P_iload (pc := 95) dX0_bestQuestion_95 0 rfl ?_
        refine P_callSi (Y' := mJ9_max_7cf53) (as := [_, _]) (pc := 97) dX0_bestQuestion_97 rfl (by decide : 0 < 4) ml_RX0_85 sm_J9_max_7cf53 mk_J9_max_7cf53 (Nat.le_of_ble_eq_true rfl) (c_J9_max_7cf53 (by unfold InR; omega) (by unfold InR; omega)) (fun z_ μ_ hq => ?_)
        obtain ⟨hz, hμ_⟩ := hq
        have hμ_ := hμ_.symm
        subst hμ_
        skip
        refine P_istore (L' := [(7, vi _), (10, vi _), (9, vi _), (0, vr (5 + b)), (1, vl _), (3, vi _), (4, vi _), (5, vi _), (6, vi _), (8, vi _)]) (pc := 100) dX0_bestQuestion_100 (by decide) rfl ?_
        refine P_iload (pc := 102) dX0_bestQuestion_102 9 rfl ?_
        refine P_istore (L' := [(6, vi _), (7, vi _), (10, vi _), (9, vi _), (0, vr (5 + b)), (1, vl _), (3, vi _), (4, vi _), (5, vi _), (8, vi _)]) (pc := 104) dX0_bestQuestion_104 (by decide) rfl ?_
        refine P_iinc (L' := [(8, vi _), (6, vi _), (7, vi _), (10, vi _), (9, vi _), (0, vr (5 + b)), (1, vl _), (3, vi _), (4, vi _), (5, vi _)]) (pc := 106) dX0_bestQuestion_106 (by decide) 9 rfl rfl ?_
        refine P_goto (tgt := 29) (pc := 109) dX0_bestQuestion_109 (by decide) ?_
        refine P_sub (L' := [(0, vr (5 + b)), (1, vl _), (3, vi _), (4, vi _), (5, vi _), (6, vi _), (7, vi _), (8, vi _)]) [5, 6, 7, 8, 9, 1, 2, 0] rfl ?_
        first
          | (have hbit : ¬ (nmK K).testBit j = true := by rw [gb] at c_44; clear ih; grind
             rw [if_neg hbit] at hq
             exact P_cast (L' := [(0, vr (5 + b)), (1, vl W), (3, vi h), (4, vi wh), (5, vi (nmK K : Int)), (6, vi be), (7, vi le), (8, vi ((j + 1 : Nat) : Int))]) rfl rfl (ih (j + 1) be le (by omega) (by omega) (by rw [hq]; exact h1) (by rw [hq]; exact h2) h3))
          | (have hmx : maxI (doubtN K F h j 0 : Int) (doubtN K F h j 1 : Int) = z_ := by unfold maxI; split at hz <;> split <;> omega
             rw [if_pos hbit, hmx] at hq
             have hz0 : 0 ≤ z_ ∧ z_ ≤ 12 := by rw [hz]; split <;> omega
             first
               | (have hg : 0 ≤ (quesN K F h j).1 ∧ (quesN K F h j).2 ≤ z_ := by
                    by_cases q : 0 ≤ be
                    · have := h2 q; omega
                    · have := h3 (by omega); omega
                  rw [if_pos hg] at hq
                  exact P_cast (L' := [(0, vr (5 + b)), (1, vl W), (3, vi h), (4, vi wh), (5, vi (nmK K : Int)), (6, vi be), (7, vi le), (8, vi ((j + 1 : Nat) : Int))]) rfl rfl (ih (j + 1) be le (by omega) (by omega) (by rw [hq]; exact h1) (by rw [hq]; exact h2) h3))
               | (have hg : ¬ (0 ≤ (quesN K F h j).1 ∧ (quesN K F h j).2 ≤ z_) := by
                    intro z
                    have := h2 (by omega)
                    omega
                  rw [if_neg hg] at hq
                  exact P_cast (L' := [(0, vr (5 + b)), (1, vl W), (3, vi h), (4, vi wh), (5, vi (nmK K : Int)), (6, vi (j : Int)), (7, vi z_), (8, vi ((j + 1 : Nat) : Int))]) rfl rfl (ih (j + 1) (j : Int) z_ (by omega) (by omega) (by rw [hq]) (fun _ => ⟨by rw [hq], hz0.1, hz0.2, by omega⟩) (fun q => by omega))))
set_option maxHeartbeats 1000000 in
set_option maxRecDepth 100000 in
theorem c_X0_bestQuestion {μ : Mem} {b : Nat} {K F : Cel} {W : BitVec 64} {h wh : Int} (hb : b < 2) (hK : KOK K) (hW : LWP K F 0 W) (hU : UI K 0 (μ.2 (23 + 7 * b)) 48) (hR : KR K μ) (hh : 0 ≤ h ∧ h < 48) (hwh : 0 ≤ wh ∧ wh ≤ 1) : PC shC 4 mX0_bestQuestion [vr (5 + b), vl W, vi h, vi wh] (μ) (QI (fun z μ' => z = (if nmK K = 0 ∨ leftN K F 0 = 0 then -9 else if wh = 0 then (quesN K F h 6).1 else (quesN K F h 6).2) ∧ μ' = μ)) := by
  refine PC.of (by decide +kernel) (Nat.le_of_ble_eq_true rfl) ?_
  refine P_sub (L' := [(0, vr (5 + b)), (1, vl W), (3, vi h), (4, vi wh)]) [0, 1, 2, 3] rfl ?_
  have hl0 : W = 0#64 ↔ leftN K F 0 = 0 := LW_0 hW
  refine P_lload_n (pc := 0) dX0_bestQuestion_0 rfl 1 rfl ?_
  refine P_lconst (b := 0#64) (pc := 1) dX0_bestQuestion_1 rfl ?_
  refine P_lcmp_ne (tgt := 9) (pc := 2) dX0_bestQuestion_2 dX0_bestQuestion_3 (by decide) (fun c_2 => ?_) (fun c_2 => ?_)
  · refine P_aload_n (pc := 9) dX0_bestQuestion_9 rfl 0 rfl ?_
    refine P_getR (pc := 10) dX0_bestQuestion_10 fa_RX0_9 (sD_o hb) fD_0 ?_
    refine P_callVi (Y' := mX3_namedUnknowns) (as := []) (pc := 13) dX0_bestQuestion_13 rfl (by decide : 1 < 4) sC_1 rfl ml_RX0_73 im_X3_namedUnknowns se_X3_namedUnknowns mk_X3_namedUnknowns (Nat.le_of_ble_eq_true rfl) (c_X3_namedUnknowns hR hK) (fun z_ μ_ hq => ?_)
    obtain ⟨hz, hμ_⟩ := hq
    have hμ_ := hμ_.symm
    subst hμ_
    subst hz
    skip
    refine P_istore (L' := [(5, vi _), (0, vr (5 + b)), (1, vl _), (3, vi _), (4, vi _)]) (pc := 16) dX0_bestQuestion_16 (by decide) rfl ?_
    refine P_bipush (pc := 18) dX0_bestQuestion_18 (by decide) ?_
    refine P_istore (L' := [(6, vi _), (5, vi _), (0, vr (5 + b)), (1, vl _), (3, vi _), (4, vi _)]) (pc := 20) dX0_bestQuestion_20 (by decide) rfl ?_
    refine P_bipush (pc := 22) dX0_bestQuestion_22 (by decide) ?_
    refine P_istore (L' := [(7, vi _), (6, vi _), (5, vi _), (0, vr (5 + b)), (1, vl _), (3, vi _), (4, vi _)]) (pc := 24) dX0_bestQuestion_24 (by decide) rfl ?_
    refine P_iconst (pc := 26) dX0_bestQuestion_26 ?_
    refine P_istore (L' := [(8, vi _), (7, vi _), (6, vi _), (5, vi _), (0, vr (5 + b)), (1, vl _), (3, vi _), (4, vi _)]) (pc := 27) dX0_bestQuestion_27 (by decide) rfl ?_
    refine P_sub (L' := [(0, vr (5 + b)), (1, vl _), (3, vi _), (4, vi _), (5, vi _), (6, vi _), (7, vi _), (8, vi _)]) [4, 5, 6, 7, 3, 2, 1, 0] rfl ?_
    have hx := l_X0_best hb hK hW hU hR hh hwh 7 0 (-9) 13 (by omega) (by omega) rfl (fun q => absurd (show (0 : Int) ≤ -9 from q) (by decide)) (fun _ => ⟨rfl, rfl⟩)
    have hl1 : ¬ leftN K F 0 = 0 := fun z => c_2 (hl0.mpr z)
    have e9 : (if nmK K = 0 ∨ leftN K F 0 = 0 then (-9 : Int) else if wh = 0 then (quesN K F h 6).1 else (quesN K F h 6).2) = (if nmK K = 0 then -9 else if wh = 0 then (quesN K F h 6).1 else (quesN K F h 6).2) := by
      by_cases q : nmK K = 0
      · rw [if_pos (Or.inl q), if_pos q]
      · rw [if_neg (fun z => z.elim q hl1), if_neg q]
    rw [e9]
    exact hx
  · refine P_bipush (pc := 6) dX0_bestQuestion_6 (by decide) ?_
    exact P_iret (pc := 8) dX0_bestQuestion_8 rfl (QI.mk (by
          first
            | (rw [if_pos (Or.inr (hl0.mp (by assumption)))]; exact ⟨rfl, rfl⟩)
            | (have e9 : j = 6 := by omega
               subst e9
               have hp := ques_nm (F := F) (h := h) hK
               refine ⟨?_, rfl⟩
               by_cases q : nmK K = 0
               · have : ¬ 0 ≤ be := by rw [h1]; exact fun z => hp.mp z q
                 have := h3 (by omega)
                 rw [if_pos q]
                 omega
               · have g : 0 ≤ be := by rw [h1]; exact hp.mpr q
                 have g2 := h2 g
                 rw [if_neg q]
                 first
                   | (rw [if_pos (by omega)]; omega)
                   | (rw [if_neg (by omega)]; omega))))
