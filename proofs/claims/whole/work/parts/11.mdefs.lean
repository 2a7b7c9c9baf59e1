/-! a memory's numbers beyond its cells' places count nothing -/
def Agr (S : List Shp) (μ μ' : Mem) : Prop := ∀ (k : Nat) (s : Shp), S[k]? = some s → match s with
  | .inl o => ∀ j : Nat, j < o.2.length → μ.1 k (j : Int) = μ'.1 k (j : Int)
  | .inr a => ∀ j : Int, 0 ≤ j → j < (a.1 : Int) → μ.1 k j = μ'.1 k j ∧ μ.2 k j = μ'.2 k j
theorem flds_agr {ad : Nat → Nat} {μ μ' : Mem} {k : Nat} (fs : List (Option Nat)) : ∀ i, (∀ j : Nat, i ≤ j → j < i + fs.length → μ.1 k (j : Int) = μ'.1 k (j : Int)) → flds ad μ k i fs = flds ad μ' k i fs := by
  induction fs with
  | nil => intro i _; rfl
  | cons a r ih =>
    intro i h
    have h1 := ih (i + 1) (fun j h1 h2 => h j (by omega) (by simp only [List.length_cons]; omega))
    have h2 := h i (Nat.le_refl _) (by simp only [List.length_cons]; omega)
    cases a <;> simp only [flds, h1, h2]
theorem arrV_agr (cA : ClassId) (n : Nat) (f g : Nat → Value) (h : ∀ j, j < n → f j = g j) : arrV cA n f = arrV cA n g := by
  unfold arrV
  congr 1
  apply Array.ext
  · simp
  · intro i h1 h2
    simp at h1 h2 ⊢
    exact h i (by omega)
theorem wld_agr {ad : Nat → Nat} {cs : Nat → ClassId} {μ μ' : Mem} {S : List Shp} {D : va_G} {H : Heap} (h : Agr S μ μ') (hP : va_P D vwCl (wld ad cs μ 0 S) H) : va_P D vwCl (wld ad cs μ' 0 S) H := by
  intro k q hk
  rw [wld_get] at hk
  cases hs : S[k]? with
  | none => rw [hs] at hk; cases hk
  | some s =>
    rw [hs] at hk
    simp only [Option.map_some, Option.some.injEq, Nat.zero_add] at hk
    subst hk
    have h1 := hP k _ (wld_at hs)
    have h2 := h k s hs
    rcases s with ⟨ci, fs⟩ | ⟨n, t⟩
    · have e := flds_agr (ad := ad) (μ := μ) (μ' := μ') (k := k) fs 0 (fun j _ hj => h2 j (by simpa using hj))
      simp only [cellE] at h1 ⊢
      rw [← e]; exact h1
    · have h2 : ∀ j : Int, 0 ≤ j → j < (n : Int) → μ.1 k j = μ'.1 k j ∧ μ.2 k j = μ'.2 k j := h2
      by_cases ht : t = 1
      · subst ht
        have h1 : H[ad k]? = some (arrV (cs 1) n (fun j => .long (Int64.ofBitVec (μ.2 k (j : Int))))) := h1
        show H[ad k]? = some (arrV (cs 1) n (fun j => .long (Int64.ofBitVec (μ'.2 k (j : Int)))))
        rw [h1]
        congr 1
        exact arrV_agr (cs 1) n _ _ (fun j hj => by rw [(h2 j (by omega) (by omega)).2])
      · have e1 : ∀ ν : Mem, cellE ad cs ν k (.inr (n, t)) = .inl (cs t, n, .inl (fun j : Nat => Int32.ofInt (ν.1 k (j : Int)))) := fun ν => if_neg ht
        rw [e1] at h1 ⊢
        have h1 : H[ad k]? = some (arrV (cs t) n (fun j => .int (Int32.ofInt (μ.1 k (j : Int))))) := h1
        show H[ad k]? = some (arrV (cs t) n (fun j => .int (Int32.ofInt (μ'.1 k (j : Int)))))
        rw [h1]
        congr 1
        exact arrV_agr (cs t) n _ _ (fun j hj => by rw [(h2 j (by omega) (by omega)).1])
theorem P_agr {S : List Shp} {d : Nat} {Y : Mth} {pc : Nat} {L : List (Nat × PV)} {st : List PV} {μ μ' : Mem} {Q : Option PV → Mem → Prop} (h : Agr S μ μ') (k : PW S d Y pc L st μ' Q) : PW S d Y pc L st μ Q := by
  intro p l e s m args below meth c D cs ad A H locs ls C X hl
  obtain ⟨hA, hS, hK, hP, hD, hT⟩ := X
  exact k p l e s m args below meth c D cs ad A H locs ls C ⟨hA, hS, hK, wld_agr h hP, wld_D hD, hT⟩ hl
theorem P_cast {S : List Shp} {d : Nat} {Y : Mth} {pc : Nat} {L L' : List (Nat × PV)} {st : List PV} {μ μ' : Mem} {Q : Option PV → Mem → Prop} (hL : L = L') (h : μ = μ') (k : PW S d Y pc L' st μ' Q) : PW S d Y pc L st μ Q := by subst hL; subst h; exact k
/-! numbers: bits -/
theorem wI_and {x y : Int} (hx : 0 ≤ x) (hx2 : x < 2147483648) (hy : 0 ≤ y) (hy2 : y < 2147483648) : Int32.ofInt x &&& Int32.ofInt y = Int32.ofInt ((x.toNat &&& y.toNat : Nat) : Int) := by
  obtain ⟨a, rfl⟩ := Int.eq_ofNat_of_zero_le hx
  obtain ⟨b, rfl⟩ := Int.eq_ofNat_of_zero_le hy
  apply Int32.toBitVec_inj.mp
  show BitVec.ofNat 32 a &&& BitVec.ofNat 32 b = BitVec.ofNat 32 (a &&& b)
  rw [BitVec.ofNat_and]
theorem wI_or {x y : Int} (hx : 0 ≤ x) (hx2 : x < 2147483648) (hy : 0 ≤ y) (hy2 : y < 2147483648) : Int32.ofInt x ||| Int32.ofInt y = Int32.ofInt ((x.toNat ||| y.toNat : Nat) : Int) := by
  obtain ⟨a, rfl⟩ := Int.eq_ofNat_of_zero_le hx
  obtain ⟨b, rfl⟩ := Int.eq_ofNat_of_zero_le hy
  apply Int32.toBitVec_inj.mp
  show BitVec.ofNat 32 a ||| BitVec.ofNat 32 b = BitVec.ofNat 32 (a ||| b)
  rw [BitVec.ofNat_or]
theorem wI_not (x : Int) : Int32.ofInt x ^^^ Int32.ofInt (-1) = Int32.ofInt (-x - 1) := by
  apply Int32.toBitVec_inj.mp
  show BitVec.ofInt 32 x ^^^ BitVec.allOnes 32 = BitVec.ofInt 32 (-x - 1)
  rw [BitVec.xor_allOnes]
  have h := BitVec.neg_eq_not_add (BitVec.ofInt 32 x)
  have e2 : Int32.ofInt (-x - 1) = -(Int32.ofInt x) - Int32.ofInt 1 := by rw [wI_neg, wI_sub]
  have e3 : BitVec.ofInt 32 (-x - 1) = -(BitVec.ofInt 32 x) - 1#32 := congrArg Int32.toBitVec e2
  rw [e3, h, BitVec.add_sub_cancel]
theorem iR {z : Int} (h1 : -2147483648 ≤ z) (h2 : z < 2147483648) : InR z := ⟨h1, h2⟩
/-! THE MODEL's cells (KitchenTouchModel): 0 the object (its numbers by their places: things 11, events 12, taped 14, at 15, began 16, isOther 24, isEvening 25, facts 30, left 31, steps 37, hasImage 40, isKeeping 41, cursor 42); rows: refused 1, kind 2, wetAt 3, hidden 4, takes 5, law 6, hour 7, what 8, evA 9, evB 10, known 11, tape 12, degree 13, source 14, sourceOf 15, isWashed 16, isBroken 17, isApart 18, isWet 19, factOf 20, factHour 21, factClean 22, isLeft 23, cleanIn 24, stepKind 25, stepA 26, stepB 27, line 28, sureBy 29, kept 30 -/
abbrev Cel : Type := Nat → Int → Int
def xput (X : Cel) (q : Nat) (j v : Int) : Cel := fun q' => if q' = q then (fun j' => if j' = j then v else X q j') else X q'
theorem xput_ne {X : Cel} {q q' : Nat} {j v : Int} (h : q' ≠ q) : xput X q j v q' = X q' := if_neg h
theorem xput_eq {X : Cel} {q : Nat} {j v : Int} (i : Int) : xput X q j v q i = if i = j then v else X q i := by simp [xput]
theorem putI_ne {μ : Mem} {q q' : Nat} {j v : Int} (h : q' ≠ q) : (putI μ q j v).1 q' = μ.1 q' := if_neg h
theorem putI_eq {μ : Mem} {q : Nat} {j v : Int} (i : Int) : (putI μ q j v).1 q i = if i = j then v else μ.1 q i := by simp [putI]
theorem putI_2 {μ : Mem} {q : Nat} {j v : Int} : (putI μ q j v).2 = μ.2 := rfl
/-- the cells that a way's course is written in: degree .. isWet, isOther, isEvening (X), sourceOf (S) -/
def setW (μ : Mem) (S : Int → Int) (X : Cel) : Mem := (fun q => if q = 0 then (fun j => if j = 24 then X 0 24 else if j = 25 then X 0 25 else μ.1 0 j) else if q = 15 then S else if 13 ≤ q ∧ q ≤ 19 then X q else μ.1 q, μ.2)
theorem setW_2 {μ : Mem} {S : Int → Int} {X : Cel} : (setW μ S X).2 = μ.2 := rfl
theorem setW_24 {μ : Mem} {S : Int → Int} {X : Cel} : (setW μ S X).1 0 24 = X 0 24 := rfl
theorem setW_25 {μ : Mem} {S : Int → Int} {X : Cel} : (setW μ S X).1 0 25 = X 0 25 := rfl
theorem setW_putA {μ : Mem} {S : Int → Int} {X : Cel} {q : Nat} {j v : Int} (h : 13 ≤ q ∧ q ≤ 19 ∧ q ≠ 15) : putI (setW μ S X) q j v = setW μ S (xput X q j v) := by
  have h0 : q ≠ 0 := by omega
  have h9 := h.2.2
  unfold putI setW
  refine Prod.ext ?_ rfl
  funext q'
  by_cases hq : q' = q
  · subst hq
    simp [h, h0, xput]
  · by_cases h1 : q' = 0
    · subst h1
      simp [xput, Ne.symm h0]
    · by_cases h2 : q' = 15
      · subst h2; simp [xput, Ne.symm h9]
      · simp [hq, h1, h2, xput]
theorem setW_put15 {μ : Mem} {S : Int → Int} {X : Cel} {j v : Int} : putI (setW μ S X) 15 j v = setW μ (fun i => if i = j then v else S i) X := by
  unfold putI setW
  refine Prod.ext ?_ rfl
  funext q'
  by_cases h1 : q' = 0
  · subst h1; simp
  · by_cases h2 : q' = 15
    · subst h2; simp
    · simp [h1, h2]
theorem setW_putS {μ : Mem} {S : Int → Int} {X : Cel} {j v : Int} (h : j = 24 ∨ j = 25) : putI (setW μ S X) 0 j v = setW μ S (xput X 0 j v) := by
  unfold putI setW
  refine Prod.ext ?_ rfl
  funext q'
  by_cases h1 : q' = 0
  · subst h1
    funext j'
    rcases h with rfl | rfl
    · by_cases h2 : j' = 24
      · subst h2; simp [xput]
      · simp [h2, xput]
    · by_cases h2 : j' = 25
      · subst h2; simp [xput]
      · simp [h2, xput]
  · simp only [h1, if_false, xput]
theorem setW_self {μ : Mem} : setW μ (μ.1 15) μ.1 = μ := by
  unfold setW
  refine Prod.ext ?_ rfl
  funext q'
  by_cases h1 : q' = 0
  · subst h1
    funext j'
    by_cases h2 : j' = 24
    · subst h2; simp
    · by_cases h3 : j' = 25
      · subst h3; simp
      · simp [h2, h3]
  · by_cases h2 : q' = 15
    · subst h2; simp
    · simp [h1, h2]
theorem setW_setW {μ : Mem} {S S' : Int → Int} {X X' : Cel} : setW (setW μ S X) S' X' = setW μ S' X' := by
  unfold setW
  refine Prod.ext ?_ rfl
  funext q'
  by_cases h1 : q' = 0
  · subst h1
    funext j'
    by_cases h2 : j' = 24
    · subst h2; simp
    · by_cases h3 : j' = 25
      · subst h3; simp
      · simp [h2, h3]
  · by_cases h5 : q' = 15
    · subst h5; simp
    · by_cases h4 : 13 ≤ q' ∧ q' ≤ 19
      · simp [h1, h4, h5]
      · simp [h1, h4, h5]
/-- the cells of things, laws and events, that a way's course reads -/
def kd (K : Cel) : Cel := fun q => if q = 0 then (fun j => if j = 11 then K 0 11 else if j = 12 then K 0 12 else 0) else if 2 ≤ q ∧ q ≤ 11 then K q else fun _ => 0
theorem kd_i {K : Cel} {q : Nat} (h : 2 ≤ q ∧ q ≤ 11) : kd K q = K q := by
  have h0 : ¬ q = 0 := by omega
  simp [kd, h, h0]
theorem kd_11 {K : Cel} : kd K 0 11 = K 0 11 := rfl
theorem kd_12 {K : Cel} : kd K 0 12 = K 0 12 := rfl
theorem kd_setW {μ : Mem} {S : Int → Int} {X : Cel} : kd (setW μ S X).1 = kd μ.1 := by
  funext q
  unfold kd
  by_cases h1 : q = 0
  · subst h1; rfl
  · by_cases h2 : 2 ≤ q ∧ q ≤ 11
    · have h3 : (setW μ S X).1 q = μ.1 q := by
        unfold setW
        simp only [h1, if_false, (show ¬ q = 15 by omega), (show ¬ (13 ≤ q ∧ q ≤ 19) by omega)]
      simp [h1, h2, h3]
    · simp [h1, h2]
theorem wr_1 {μ : Mem} {S : Int → Int} {X : Cel} : (setW μ S X).1 1 = μ.1 1 := rfl
theorem wr_2 {μ : Mem} {S : Int → Int} {X : Cel} : (setW μ S X).1 2 = μ.1 2 := rfl
theorem wr_3 {μ : Mem} {S : Int → Int} {X : Cel} : (setW μ S X).1 3 = μ.1 3 := rfl
theorem wr_4 {μ : Mem} {S : Int → Int} {X : Cel} : (setW μ S X).1 4 = μ.1 4 := rfl
theorem wr_5 {μ : Mem} {S : Int → Int} {X : Cel} : (setW μ S X).1 5 = μ.1 5 := rfl
theorem wr_6 {μ : Mem} {S : Int → Int} {X : Cel} : (setW μ S X).1 6 = μ.1 6 := rfl
theorem wr_7 {μ : Mem} {S : Int → Int} {X : Cel} : (setW μ S X).1 7 = μ.1 7 := rfl
theorem wr_8 {μ : Mem} {S : Int → Int} {X : Cel} : (setW μ S X).1 8 = μ.1 8 := rfl
theorem wr_9 {μ : Mem} {S : Int → Int} {X : Cel} : (setW μ S X).1 9 = μ.1 9 := rfl
theorem wr_10 {μ : Mem} {S : Int → Int} {X : Cel} : (setW μ S X).1 10 = μ.1 10 := rfl
theorem wr_11 {μ : Mem} {S : Int → Int} {X : Cel} : (setW μ S X).1 11 = μ.1 11 := rfl
theorem wr_12 {μ : Mem} {S : Int → Int} {X : Cel} : (setW μ S X).1 12 = μ.1 12 := rfl
theorem wr_20 {μ : Mem} {S : Int → Int} {X : Cel} : (setW μ S X).1 20 = μ.1 20 := rfl
theorem wr_21 {μ : Mem} {S : Int → Int} {X : Cel} : (setW μ S X).1 21 = μ.1 21 := rfl
theorem wr_22 {μ : Mem} {S : Int → Int} {X : Cel} : (setW μ S X).1 22 = μ.1 22 := rfl
theorem wr_23 {μ : Mem} {S : Int → Int} {X : Cel} : (setW μ S X).1 23 = μ.1 23 := rfl
theorem wr_24 {μ : Mem} {S : Int → Int} {X : Cel} : (setW μ S X).1 24 = μ.1 24 := rfl
theorem wr_25 {μ : Mem} {S : Int → Int} {X : Cel} : (setW μ S X).1 25 = μ.1 25 := rfl
theorem wr_26 {μ : Mem} {S : Int → Int} {X : Cel} : (setW μ S X).1 26 = μ.1 26 := rfl
theorem wr_27 {μ : Mem} {S : Int → Int} {X : Cel} : (setW μ S X).1 27 = μ.1 27 := rfl
theorem wr_28 {μ : Mem} {S : Int → Int} {X : Cel} : (setW μ S X).1 28 = μ.1 28 := rfl
theorem wr_29 {μ : Mem} {S : Int → Int} {X : Cel} : (setW μ S X).1 29 = μ.1 29 := rfl
theorem wr_30 {μ : Mem} {S : Int → Int} {X : Cel} : (setW μ S X).1 30 = μ.1 30 := rfl
theorem wr_13 {μ : Mem} {S : Int → Int} {X : Cel} : (setW μ S X).1 13 = X 13 := rfl
theorem wr_14 {μ : Mem} {S : Int → Int} {X : Cel} : (setW μ S X).1 14 = X 14 := rfl
theorem wr_16 {μ : Mem} {S : Int → Int} {X : Cel} : (setW μ S X).1 16 = X 16 := rfl
theorem wr_17 {μ : Mem} {S : Int → Int} {X : Cel} : (setW μ S X).1 17 = X 17 := rfl
theorem wr_18 {μ : Mem} {S : Int → Int} {X : Cel} : (setW μ S X).1 18 = X 18 := rfl
theorem wr_19 {μ : Mem} {S : Int → Int} {X : Cel} : (setW μ S X).1 19 = X 19 := rfl
theorem wr_15 {μ : Mem} {S : Int → Int} {X : Cel} : (setW μ S X).1 15 = S := rfl
theorem wo_11 {μ : Mem} {S : Int → Int} {X : Cel} : (setW μ S X).1 0 11 = μ.1 0 11 := rfl
theorem wo_12 {μ : Mem} {S : Int → Int} {X : Cel} : (setW μ S X).1 0 12 = μ.1 0 12 := rfl
theorem wo_14 {μ : Mem} {S : Int → Int} {X : Cel} : (setW μ S X).1 0 14 = μ.1 0 14 := rfl
theorem wo_15 {μ : Mem} {S : Int → Int} {X : Cel} : (setW μ S X).1 0 15 = μ.1 0 15 := rfl
theorem wo_16 {μ : Mem} {S : Int → Int} {X : Cel} : (setW μ S X).1 0 16 = μ.1 0 16 := rfl
theorem wo_30 {μ : Mem} {S : Int → Int} {X : Cel} : (setW μ S X).1 0 30 = μ.1 0 30 := rfl
theorem wo_31 {μ : Mem} {S : Int → Int} {X : Cel} : (setW μ S X).1 0 31 = μ.1 0 31 := rfl
theorem wo_37 {μ : Mem} {S : Int → Int} {X : Cel} : (setW μ S X).1 0 37 = μ.1 0 37 := rfl
theorem wo_40 {μ : Mem} {S : Int → Int} {X : Cel} : (setW μ S X).1 0 40 = μ.1 0 40 := rfl
theorem wo_41 {μ : Mem} {S : Int → Int} {X : Cel} : (setW μ S X).1 0 41 = μ.1 0 41 := rfl
theorem wo_42 {μ : Mem} {S : Int → Int} {X : Cel} : (setW μ S X).1 0 42 = μ.1 0 42 := rfl
theorem wp_13 {μ : Mem} {S : Int → Int} {X : Cel} {j v : Int} : putI (setW μ S X) 13 j v = setW μ S (xput X 13 j v) := setW_putA (by decide)
theorem wp_14 {μ : Mem} {S : Int → Int} {X : Cel} {j v : Int} : putI (setW μ S X) 14 j v = setW μ S (xput X 14 j v) := setW_putA (by decide)
theorem wp_16 {μ : Mem} {S : Int → Int} {X : Cel} {j v : Int} : putI (setW μ S X) 16 j v = setW μ S (xput X 16 j v) := setW_putA (by decide)
theorem wp_17 {μ : Mem} {S : Int → Int} {X : Cel} {j v : Int} : putI (setW μ S X) 17 j v = setW μ S (xput X 17 j v) := setW_putA (by decide)
theorem wp_18 {μ : Mem} {S : Int → Int} {X : Cel} {j v : Int} : putI (setW μ S X) 18 j v = setW μ S (xput X 18 j v) := setW_putA (by decide)
theorem wp_19 {μ : Mem} {S : Int → Int} {X : Cel} {j v : Int} : putI (setW μ S X) 19 j v = setW μ S (xput X 19 j v) := setW_putA (by decide)
theorem wp_0_24 {μ : Mem} {S : Int → Int} {X : Cel} {v : Int} : putI (setW μ S X) 0 24 v = setW μ S (xput X 0 24 v) := setW_putS (by decide)
theorem wp_0_25 {μ : Mem} {S : Int → Int} {X : Cel} {v : Int} : putI (setW μ S X) 0 25 v = setW μ S (xput X 0 25 v) := setW_putS (by decide)
theorem xn_0_13 {X : Cel} {j v : Int} : xput X 0 j v 13 = X 13 := rfl
theorem xn_0_14 {X : Cel} {j v : Int} : xput X 0 j v 14 = X 14 := rfl
theorem xn_0_15 {X : Cel} {j v : Int} : xput X 0 j v 15 = X 15 := rfl
theorem xn_0_16 {X : Cel} {j v : Int} : xput X 0 j v 16 = X 16 := rfl
theorem xn_0_17 {X : Cel} {j v : Int} : xput X 0 j v 17 = X 17 := rfl
theorem xn_0_18 {X : Cel} {j v : Int} : xput X 0 j v 18 = X 18 := rfl
theorem xn_0_19 {X : Cel} {j v : Int} : xput X 0 j v 19 = X 19 := rfl
theorem xn_13_0 {X : Cel} {j v : Int} : xput X 13 j v 0 = X 0 := rfl
theorem xn_13_14 {X : Cel} {j v : Int} : xput X 13 j v 14 = X 14 := rfl
theorem xn_13_15 {X : Cel} {j v : Int} : xput X 13 j v 15 = X 15 := rfl
theorem xn_13_16 {X : Cel} {j v : Int} : xput X 13 j v 16 = X 16 := rfl
theorem xn_13_17 {X : Cel} {j v : Int} : xput X 13 j v 17 = X 17 := rfl
theorem xn_13_18 {X : Cel} {j v : Int} : xput X 13 j v 18 = X 18 := rfl
theorem xn_13_19 {X : Cel} {j v : Int} : xput X 13 j v 19 = X 19 := rfl
theorem xn_14_0 {X : Cel} {j v : Int} : xput X 14 j v 0 = X 0 := rfl
theorem xn_14_13 {X : Cel} {j v : Int} : xput X 14 j v 13 = X 13 := rfl
theorem xn_14_15 {X : Cel} {j v : Int} : xput X 14 j v 15 = X 15 := rfl
theorem xn_14_16 {X : Cel} {j v : Int} : xput X 14 j v 16 = X 16 := rfl
theorem xn_14_17 {X : Cel} {j v : Int} : xput X 14 j v 17 = X 17 := rfl
theorem xn_14_18 {X : Cel} {j v : Int} : xput X 14 j v 18 = X 18 := rfl
theorem xn_14_19 {X : Cel} {j v : Int} : xput X 14 j v 19 = X 19 := rfl
theorem xn_15_0 {X : Cel} {j v : Int} : xput X 15 j v 0 = X 0 := rfl
theorem xn_15_13 {X : Cel} {j v : Int} : xput X 15 j v 13 = X 13 := rfl
theorem xn_15_14 {X : Cel} {j v : Int} : xput X 15 j v 14 = X 14 := rfl
theorem xn_15_16 {X : Cel} {j v : Int} : xput X 15 j v 16 = X 16 := rfl
theorem xn_15_17 {X : Cel} {j v : Int} : xput X 15 j v 17 = X 17 := rfl
theorem xn_15_18 {X : Cel} {j v : Int} : xput X 15 j v 18 = X 18 := rfl
theorem xn_15_19 {X : Cel} {j v : Int} : xput X 15 j v 19 = X 19 := rfl
theorem xn_16_0 {X : Cel} {j v : Int} : xput X 16 j v 0 = X 0 := rfl
theorem xn_16_13 {X : Cel} {j v : Int} : xput X 16 j v 13 = X 13 := rfl
theorem xn_16_14 {X : Cel} {j v : Int} : xput X 16 j v 14 = X 14 := rfl
theorem xn_16_15 {X : Cel} {j v : Int} : xput X 16 j v 15 = X 15 := rfl
theorem xn_16_17 {X : Cel} {j v : Int} : xput X 16 j v 17 = X 17 := rfl
theorem xn_16_18 {X : Cel} {j v : Int} : xput X 16 j v 18 = X 18 := rfl
theorem xn_16_19 {X : Cel} {j v : Int} : xput X 16 j v 19 = X 19 := rfl
theorem xn_17_0 {X : Cel} {j v : Int} : xput X 17 j v 0 = X 0 := rfl
theorem xn_17_13 {X : Cel} {j v : Int} : xput X 17 j v 13 = X 13 := rfl
theorem xn_17_14 {X : Cel} {j v : Int} : xput X 17 j v 14 = X 14 := rfl
theorem xn_17_15 {X : Cel} {j v : Int} : xput X 17 j v 15 = X 15 := rfl
theorem xn_17_16 {X : Cel} {j v : Int} : xput X 17 j v 16 = X 16 := rfl
theorem xn_17_18 {X : Cel} {j v : Int} : xput X 17 j v 18 = X 18 := rfl
theorem xn_17_19 {X : Cel} {j v : Int} : xput X 17 j v 19 = X 19 := rfl
theorem xn_18_0 {X : Cel} {j v : Int} : xput X 18 j v 0 = X 0 := rfl
theorem xn_18_13 {X : Cel} {j v : Int} : xput X 18 j v 13 = X 13 := rfl
theorem xn_18_14 {X : Cel} {j v : Int} : xput X 18 j v 14 = X 14 := rfl
theorem xn_18_15 {X : Cel} {j v : Int} : xput X 18 j v 15 = X 15 := rfl
theorem xn_18_16 {X : Cel} {j v : Int} : xput X 18 j v 16 = X 16 := rfl
theorem xn_18_17 {X : Cel} {j v : Int} : xput X 18 j v 17 = X 17 := rfl
theorem xn_18_19 {X : Cel} {j v : Int} : xput X 18 j v 19 = X 19 := rfl
theorem xn_19_0 {X : Cel} {j v : Int} : xput X 19 j v 0 = X 0 := rfl
theorem xn_19_13 {X : Cel} {j v : Int} : xput X 19 j v 13 = X 13 := rfl
theorem xn_19_14 {X : Cel} {j v : Int} : xput X 19 j v 14 = X 14 := rfl
theorem xn_19_15 {X : Cel} {j v : Int} : xput X 19 j v 15 = X 15 := rfl
theorem xn_19_16 {X : Cel} {j v : Int} : xput X 19 j v 16 = X 16 := rfl
theorem xn_19_17 {X : Cel} {j v : Int} : xput X 19 j v 17 = X 17 := rfl
theorem xn_19_18 {X : Cel} {j v : Int} : xput X 19 j v 18 = X 18 := rfl
theorem kr_2 {K : Cel} : kd K 2 = K 2 := rfl
theorem kr_3 {K : Cel} : kd K 3 = K 3 := rfl
theorem kr_4 {K : Cel} : kd K 4 = K 4 := rfl
theorem kr_5 {K : Cel} : kd K 5 = K 5 := rfl
theorem kr_6 {K : Cel} : kd K 6 = K 6 := rfl
theorem kr_7 {K : Cel} : kd K 7 = K 7 := rfl
theorem kr_8 {K : Cel} : kd K 8 = K 8 := rfl
theorem kr_9 {K : Cel} : kd K 9 = K 9 := rfl
theorem kr_10 {K : Cel} : kd K 10 = K 10 := rfl
theorem kr_11 {K : Cel} : kd K 11 = K 11 := rfl
