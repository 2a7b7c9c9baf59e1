/-! numbers: bits -/
theorem wI_and {x y : Int} (hx : 0 ≤ x) (hx2 : x < 2147483648) (hy : 0 ≤ y) (hy2 : y < 2147483648) : Int32.ofInt x &&& Int32.ofInt y = Int32.ofInt ((x.toNat &&& y.toNat : Nat) : Int) := by
  obtain ⟨a, rfl⟩ := Int.eq_ofNat_of_zero_le hx
  obtain ⟨b, rfl⟩ := Int.eq_ofNat_of_zero_le hy
  apply Int32.toBitVec_inj.mp
  show BitVec.ofNat 32 a &&& BitVec.ofNat 32 b = BitVec.ofNat 32 (a &&& b)
  rw [BitVec.ofNat_and]
theorem wI_or {x y : Int} (hx : 0 ≤ x) (hx2 : x < 2147483648) (hy : 0 ≤ y) (hy2 : y < 2147483648) : Int32.ofInt x ||| Int32.ofInt y = Int32.ofInt ((x.toNat ||| y.toNat : Nat) : Int) := by
  obtain ⟨a, rfl⟩ := Int.eq_ofNat_of_zero_le hx
  obtain ⟨b, rfl⟩ := Int.eq_ofNat_of_zero_le hy
  apply Int32.toBitVec_inj.mp
  show BitVec.ofNat 32 a ||| BitVec.ofNat 32 b = BitVec.ofNat 32 (a ||| b)
  rw [BitVec.ofNat_or]
theorem wI_not (x : Int) : Int32.ofInt x ^^^ Int32.ofInt (-1) = Int32.ofInt (-x - 1) := by
  apply Int32.toBitVec_inj.mp
  show BitVec.ofInt 32 x ^^^ BitVec.allOnes 32 = BitVec.ofInt 32 (-x - 1)
  rw [BitVec.xor_allOnes]
  have h := BitVec.neg_eq_not_add (BitVec.ofInt 32 x)
  have e2 : Int32.ofInt (-x - 1) = -(Int32.ofInt x) - Int32.ofInt 1 := by rw [wI_neg, wI_sub]
  have e3 : BitVec.ofInt 32 (-x - 1) = -(BitVec.ofInt 32 x) - 1#32 := congrArg Int32.toBitVec e2
  rw [e3, h, BitVec.add_sub_cancel]
theorem iR {z : Int} (h1 : -2147483648 ≤ z) (h2 : z < 2147483648) : InR z := ⟨h1, h2⟩
/-! THE MODEL's cells (KitchenTouchModel): 0 the object (its numbers by their places: things 11, events 12, taped 14, at 15, began 16, isOther 24, isEvening 25, facts 30, left 31, steps 37, hasImage 40, isKeeping 41, cursor 42); rows: refused 1, kind 2, wetAt 3, hidden 4, takes 5, law 6, hour 7, what 8, evA 9, evB 10, known 11, tape 12, degree 13, source 14, sourceOf 15, isWashed 16, isBroken 17, isApart 18, isWet 19, factOf 20, factHour 21, factClean 22, isLeft 23, cleanIn 24, stepKind 25, stepA 26, stepB 27, line 28, sureBy 29, kept 30 -/
abbrev Cel : Type := Nat → Int → Int
def xput (X : Cel) (q : Nat) (j v : Int) : Cel := fun q' => if q' = q then (fun j' => if j' = j then v else X q j') else X q'
theorem xput_ne {X : Cel} {q q' : Nat} {j v : Int} (h : q' ≠ q) : xput X q j v q' = X q' := if_neg h
theorem xput_eq {X : Cel} {q : Nat} {j v : Int} (i : Int) : xput X q j v q i = if i = j then v else X q i := by simp [xput]
theorem putI_ne {μ : Mem} {q q' : Nat} {j v : Int} (h : q' ≠ q) : (putI μ q j v).1 q' = μ.1 q' := if_neg h
theorem putI_eq {μ : Mem} {q : Nat} {j v : Int} (i : Int) : (putI μ q j v).1 q i = if i = j then v else μ.1 q i := by simp [putI]
theorem putI_2 {μ : Mem} {q : Nat} {j v : Int} : (putI μ q j v).2 = μ.2 := rfl
/-- the cells that a way's course is written in: degree .. isWet, isOther, isEvening -/
def setW (μ : Mem) (X : Cel) : Mem := (fun q => if q = 0 then (fun j => if j = 24 then X 0 24 else if j = 25 then X 0 25 else μ.1 0 j) else if 13 ≤ q ∧ q ≤ 19 then X q else μ.1 q, μ.2)
theorem setW_2 {μ : Mem} {X : Cel} : (setW μ X).2 = μ.2 := rfl
theorem setW_i {μ : Mem} {X : Cel} {q : Nat} (h : 13 ≤ q ∧ q ≤ 19) : (setW μ X).1 q = X q := by
  have h0 : ¬ q = 0 := by omega
  simp [setW, h, h0]
theorem setW_o {μ : Mem} {X : Cel} {q : Nat} (h0 : q ≠ 0) (h : q < 13 ∨ 19 < q) : (setW μ X).1 q = μ.1 q := by
  have h2 : ¬ (13 ≤ q ∧ q ≤ 19) := by omega
  simp [setW, h2, h0]
theorem setW_s {μ : Mem} {X : Cel} {j : Int} (h : j ≠ 24 ∧ j ≠ 25) : (setW μ X).1 0 j = μ.1 0 j := by simp [setW, h.1, h.2]
theorem setW_24 {μ : Mem} {X : Cel} : (setW μ X).1 0 24 = X 0 24 := rfl
theorem setW_25 {μ : Mem} {X : Cel} : (setW μ X).1 0 25 = X 0 25 := rfl
theorem setW_putA {μ : Mem} {X : Cel} {q : Nat} {j v : Int} (h : 13 ≤ q ∧ q ≤ 19) : putI (setW μ X) q j v = setW μ (xput X q j v) := by
  have h0 : q ≠ 0 := by omega
  unfold putI setW
  refine Prod.ext ?_ rfl
  funext q'
  by_cases hq : q' = q
  · subst hq
    simp [h, h0, xput]
  · by_cases h1 : q' = 0
    · subst h1
      simp [xput, Ne.symm h0]
    · simp [hq, h1, xput]
theorem setW_putS {μ : Mem} {X : Cel} {j v : Int} (h : j = 24 ∨ j = 25) : putI (setW μ X) 0 j v = setW μ (xput X 0 j v) := by
  unfold putI setW
  refine Prod.ext ?_ rfl
  funext q'
  by_cases h1 : q' = 0
  · subst h1
    funext j'
    rcases h with rfl | rfl
    · by_cases h2 : j' = 24
      · subst h2; simp [xput]
      · simp [h2, xput]
    · by_cases h2 : j' = 25
      · subst h2; simp [xput]
      · simp [h2, xput]
  · simp only [h1, if_false, xput]
theorem setW_self {μ : Mem} : setW μ μ.1 = μ := by
  unfold setW
  refine Prod.ext ?_ rfl
  funext q'
  by_cases h1 : q' = 0
  · subst h1
    funext j'
    by_cases h2 : j' = 24
    · subst h2; simp
    · by_cases h3 : j' = 25
      · subst h3; simp
      · simp [h2, h3]
  · simp [h1]
theorem setW_setW {μ : Mem} {X X' : Cel} : setW (setW μ X) X' = setW μ X' := by
  unfold setW
  refine Prod.ext ?_ rfl
  funext q'
  by_cases h1 : q' = 0
  · subst h1
    funext j'
    by_cases h2 : j' = 24
    · subst h2; simp
    · by_cases h3 : j' = 25
      · subst h3; simp
      · simp [h2, h3]
  · by_cases h4 : 13 ≤ q' ∧ q' ≤ 19
    · simp [h1, h4]
    · simp [h1, h4]
/-- the cells of things, laws and events, that a way's course reads -/
def kd (K : Cel) : Cel := fun q => if q = 0 then (fun j => if j = 11 then K 0 11 else if j = 12 then K 0 12 else 0) else if 2 ≤ q ∧ q ≤ 11 then K q else fun _ => 0
theorem kd_i {K : Cel} {q : Nat} (h : 2 ≤ q ∧ q ≤ 11) : kd K q = K q := by
  have h0 : ¬ q = 0 := by omega
  simp [kd, h, h0]
theorem kd_11 {K : Cel} : kd K 0 11 = K 0 11 := rfl
theorem kd_12 {K : Cel} : kd K 0 12 = K 0 12 := rfl
theorem kd_setW {μ : Mem} {X : Cel} : kd (setW μ X).1 = kd μ.1 := by
  funext q
  unfold kd
  by_cases h1 : q = 0
  · subst h1; rfl
  · by_cases h2 : 2 ≤ q ∧ q ≤ 11
    · have h3 := setW_o (μ := μ) (X := X) h1 (Or.inl (by omega))
      simp [h1, h2, h3]
    · simp [h1, h2]
theorem wr_1 {μ : Mem} {X : Cel} : (setW μ X).1 1 = μ.1 1 := rfl
theorem wr_2 {μ : Mem} {X : Cel} : (setW μ X).1 2 = μ.1 2 := rfl
theorem wr_3 {μ : Mem} {X : Cel} : (setW μ X).1 3 = μ.1 3 := rfl
theorem wr_4 {μ : Mem} {X : Cel} : (setW μ X).1 4 = μ.1 4 := rfl
theorem wr_5 {μ : Mem} {X : Cel} : (setW μ X).1 5 = μ.1 5 := rfl
theorem wr_6 {μ : Mem} {X : Cel} : (setW μ X).1 6 = μ.1 6 := rfl
theorem wr_7 {μ : Mem} {X : Cel} : (setW μ X).1 7 = μ.1 7 := rfl
theorem wr_8 {μ : Mem} {X : Cel} : (setW μ X).1 8 = μ.1 8 := rfl
theorem wr_9 {μ : Mem} {X : Cel} : (setW μ X).1 9 = μ.1 9 := rfl
theorem wr_10 {μ : Mem} {X : Cel} : (setW μ X).1 10 = μ.1 10 := rfl
theorem wr_11 {μ : Mem} {X : Cel} : (setW μ X).1 11 = μ.1 11 := rfl
theorem wr_12 {μ : Mem} {X : Cel} : (setW μ X).1 12 = μ.1 12 := rfl
theorem wr_20 {μ : Mem} {X : Cel} : (setW μ X).1 20 = μ.1 20 := rfl
theorem wr_21 {μ : Mem} {X : Cel} : (setW μ X).1 21 = μ.1 21 := rfl
theorem wr_22 {μ : Mem} {X : Cel} : (setW μ X).1 22 = μ.1 22 := rfl
theorem wr_23 {μ : Mem} {X : Cel} : (setW μ X).1 23 = μ.1 23 := rfl
theorem wr_24 {μ : Mem} {X : Cel} : (setW μ X).1 24 = μ.1 24 := rfl
theorem wr_25 {μ : Mem} {X : Cel} : (setW μ X).1 25 = μ.1 25 := rfl
theorem wr_26 {μ : Mem} {X : Cel} : (setW μ X).1 26 = μ.1 26 := rfl
theorem wr_27 {μ : Mem} {X : Cel} : (setW μ X).1 27 = μ.1 27 := rfl
theorem wr_28 {μ : Mem} {X : Cel} : (setW μ X).1 28 = μ.1 28 := rfl
theorem wr_29 {μ : Mem} {X : Cel} : (setW μ X).1 29 = μ.1 29 := rfl
theorem wr_30 {μ : Mem} {X : Cel} : (setW μ X).1 30 = μ.1 30 := rfl
theorem wr_13 {μ : Mem} {X : Cel} : (setW μ X).1 13 = X 13 := rfl
theorem wr_14 {μ : Mem} {X : Cel} : (setW μ X).1 14 = X 14 := rfl
theorem wr_15 {μ : Mem} {X : Cel} : (setW μ X).1 15 = X 15 := rfl
theorem wr_16 {μ : Mem} {X : Cel} : (setW μ X).1 16 = X 16 := rfl
theorem wr_17 {μ : Mem} {X : Cel} : (setW μ X).1 17 = X 17 := rfl
theorem wr_18 {μ : Mem} {X : Cel} : (setW μ X).1 18 = X 18 := rfl
theorem wr_19 {μ : Mem} {X : Cel} : (setW μ X).1 19 = X 19 := rfl
theorem wo_11 {μ : Mem} {X : Cel} : (setW μ X).1 0 11 = μ.1 0 11 := rfl
theorem wo_12 {μ : Mem} {X : Cel} : (setW μ X).1 0 12 = μ.1 0 12 := rfl
theorem wo_14 {μ : Mem} {X : Cel} : (setW μ X).1 0 14 = μ.1 0 14 := rfl
theorem wo_15 {μ : Mem} {X : Cel} : (setW μ X).1 0 15 = μ.1 0 15 := rfl
theorem wo_16 {μ : Mem} {X : Cel} : (setW μ X).1 0 16 = μ.1 0 16 := rfl
theorem wo_30 {μ : Mem} {X : Cel} : (setW μ X).1 0 30 = μ.1 0 30 := rfl
theorem wo_31 {μ : Mem} {X : Cel} : (setW μ X).1 0 31 = μ.1 0 31 := rfl
theorem wo_37 {μ : Mem} {X : Cel} : (setW μ X).1 0 37 = μ.1 0 37 := rfl
theorem wo_40 {μ : Mem} {X : Cel} : (setW μ X).1 0 40 = μ.1 0 40 := rfl
theorem wo_41 {μ : Mem} {X : Cel} : (setW μ X).1 0 41 = μ.1 0 41 := rfl
theorem wo_42 {μ : Mem} {X : Cel} : (setW μ X).1 0 42 = μ.1 0 42 := rfl
theorem wp_13 {μ : Mem} {X : Cel} {j v : Int} : putI (setW μ X) 13 j v = setW μ (xput X 13 j v) := setW_putA (by decide)
theorem wp_14 {μ : Mem} {X : Cel} {j v : Int} : putI (setW μ X) 14 j v = setW μ (xput X 14 j v) := setW_putA (by decide)
theorem wp_15 {μ : Mem} {X : Cel} {j v : Int} : putI (setW μ X) 15 j v = setW μ (xput X 15 j v) := setW_putA (by decide)
theorem wp_16 {μ : Mem} {X : Cel} {j v : Int} : putI (setW μ X) 16 j v = setW μ (xput X 16 j v) := setW_putA (by decide)
theorem wp_17 {μ : Mem} {X : Cel} {j v : Int} : putI (setW μ X) 17 j v = setW μ (xput X 17 j v) := setW_putA (by decide)
theorem wp_18 {μ : Mem} {X : Cel} {j v : Int} : putI (setW μ X) 18 j v = setW μ (xput X 18 j v) := setW_putA (by decide)
theorem wp_19 {μ : Mem} {X : Cel} {j v : Int} : putI (setW μ X) 19 j v = setW μ (xput X 19 j v) := setW_putA (by decide)
theorem wp_0_24 {μ : Mem} {X : Cel} {v : Int} : putI (setW μ X) 0 24 v = setW μ (xput X 0 24 v) := setW_putS (by decide)
theorem wp_0_25 {μ : Mem} {X : Cel} {v : Int} : putI (setW μ X) 0 25 v = setW μ (xput X 0 25 v) := setW_putS (by decide)
theorem xn_0_13 {X : Cel} {j v : Int} : xput X 0 j v 13 = X 13 := rfl
theorem xn_0_14 {X : Cel} {j v : Int} : xput X 0 j v 14 = X 14 := rfl
theorem xn_0_15 {X : Cel} {j v : Int} : xput X 0 j v 15 = X 15 := rfl
theorem xn_0_16 {X : Cel} {j v : Int} : xput X 0 j v 16 = X 16 := rfl
theorem xn_0_17 {X : Cel} {j v : Int} : xput X 0 j v 17 = X 17 := rfl
theorem xn_0_18 {X : Cel} {j v : Int} : xput X 0 j v 18 = X 18 := rfl
theorem xn_0_19 {X : Cel} {j v : Int} : xput X 0 j v 19 = X 19 := rfl
theorem xn_13_0 {X : Cel} {j v : Int} : xput X 13 j v 0 = X 0 := rfl
theorem xn_13_14 {X : Cel} {j v : Int} : xput X 13 j v 14 = X 14 := rfl
theorem xn_13_15 {X : Cel} {j v : Int} : xput X 13 j v 15 = X 15 := rfl
theorem xn_13_16 {X : Cel} {j v : Int} : xput X 13 j v 16 = X 16 := rfl
theorem xn_13_17 {X : Cel} {j v : Int} : xput X 13 j v 17 = X 17 := rfl
theorem xn_13_18 {X : Cel} {j v : Int} : xput X 13 j v 18 = X 18 := rfl
theorem xn_13_19 {X : Cel} {j v : Int} : xput X 13 j v 19 = X 19 := rfl
theorem xn_14_0 {X : Cel} {j v : Int} : xput X 14 j v 0 = X 0 := rfl
theorem xn_14_13 {X : Cel} {j v : Int} : xput X 14 j v 13 = X 13 := rfl
theorem xn_14_15 {X : Cel} {j v : Int} : xput X 14 j v 15 = X 15 := rfl
theorem xn_14_16 {X : Cel} {j v : Int} : xput X 14 j v 16 = X 16 := rfl
theorem xn_14_17 {X : Cel} {j v : Int} : xput X 14 j v 17 = X 17 := rfl
theorem xn_14_18 {X : Cel} {j v : Int} : xput X 14 j v 18 = X 18 := rfl
theorem xn_14_19 {X : Cel} {j v : Int} : xput X 14 j v 19 = X 19 := rfl
theorem xn_15_0 {X : Cel} {j v : Int} : xput X 15 j v 0 = X 0 := rfl
theorem xn_15_13 {X : Cel} {j v : Int} : xput X 15 j v 13 = X 13 := rfl
theorem xn_15_14 {X : Cel} {j v : Int} : xput X 15 j v 14 = X 14 := rfl
theorem xn_15_16 {X : Cel} {j v : Int} : xput X 15 j v 16 = X 16 := rfl
theorem xn_15_17 {X : Cel} {j v : Int} : xput X 15 j v 17 = X 17 := rfl
theorem xn_15_18 {X : Cel} {j v : Int} : xput X 15 j v 18 = X 18 := rfl
theorem xn_15_19 {X : Cel} {j v : Int} : xput X 15 j v 19 = X 19 := rfl
theorem xn_16_0 {X : Cel} {j v : Int} : xput X 16 j v 0 = X 0 := rfl
theorem xn_16_13 {X : Cel} {j v : Int} : xput X 16 j v 13 = X 13 := rfl
theorem xn_16_14 {X : Cel} {j v : Int} : xput X 16 j v 14 = X 14 := rfl
theorem xn_16_15 {X : Cel} {j v : Int} : xput X 16 j v 15 = X 15 := rfl
theorem xn_16_17 {X : Cel} {j v : Int} : xput X 16 j v 17 = X 17 := rfl
theorem xn_16_18 {X : Cel} {j v : Int} : xput X 16 j v 18 = X 18 := rfl
theorem xn_16_19 {X : Cel} {j v : Int} : xput X 16 j v 19 = X 19 := rfl
theorem xn_17_0 {X : Cel} {j v : Int} : xput X 17 j v 0 = X 0 := rfl
theorem xn_17_13 {X : Cel} {j v : Int} : xput X 17 j v 13 = X 13 := rfl
theorem xn_17_14 {X : Cel} {j v : Int} : xput X 17 j v 14 = X 14 := rfl
theorem xn_17_15 {X : Cel} {j v : Int} : xput X 17 j v 15 = X 15 := rfl
theorem xn_17_16 {X : Cel} {j v : Int} : xput X 17 j v 16 = X 16 := rfl
theorem xn_17_18 {X : Cel} {j v : Int} : xput X 17 j v 18 = X 18 := rfl
theorem xn_17_19 {X : Cel} {j v : Int} : xput X 17 j v 19 = X 19 := rfl
theorem xn_18_0 {X : Cel} {j v : Int} : xput X 18 j v 0 = X 0 := rfl
theorem xn_18_13 {X : Cel} {j v : Int} : xput X 18 j v 13 = X 13 := rfl
theorem xn_18_14 {X : Cel} {j v : Int} : xput X 18 j v 14 = X 14 := rfl
theorem xn_18_15 {X : Cel} {j v : Int} : xput X 18 j v 15 = X 15 := rfl
theorem xn_18_16 {X : Cel} {j v : Int} : xput X 18 j v 16 = X 16 := rfl
theorem xn_18_17 {X : Cel} {j v : Int} : xput X 18 j v 17 = X 17 := rfl
theorem xn_18_19 {X : Cel} {j v : Int} : xput X 18 j v 19 = X 19 := rfl
theorem xn_19_0 {X : Cel} {j v : Int} : xput X 19 j v 0 = X 0 := rfl
theorem xn_19_13 {X : Cel} {j v : Int} : xput X 19 j v 13 = X 13 := rfl
theorem xn_19_14 {X : Cel} {j v : Int} : xput X 19 j v 14 = X 14 := rfl
theorem xn_19_15 {X : Cel} {j v : Int} : xput X 19 j v 15 = X 15 := rfl
theorem xn_19_16 {X : Cel} {j v : Int} : xput X 19 j v 16 = X 16 := rfl
theorem xn_19_17 {X : Cel} {j v : Int} : xput X 19 j v 17 = X 17 := rfl
theorem xn_19_18 {X : Cel} {j v : Int} : xput X 19 j v 18 = X 18 := rfl
theorem kr_2 {K : Cel} : kd K 2 = K 2 := rfl
theorem kr_3 {K : Cel} : kd K 3 = K 3 := rfl
theorem kr_4 {K : Cel} : kd K 4 = K 4 := rfl
theorem kr_5 {K : Cel} : kd K 5 = K 5 := rfl
theorem kr_6 {K : Cel} : kd K 6 = K 6 := rfl
theorem kr_7 {K : Cel} : kd K 7 = K 7 := rfl
theorem kr_8 {K : Cel} : kd K 8 = K 8 := rfl
theorem kr_9 {K : Cel} : kd K 9 = K 9 := rfl
theorem kr_10 {K : Cel} : kd K 10 = K 10 := rfl
theorem kr_11 {K : Cel} : kd K 11 = K 11 := rfl
