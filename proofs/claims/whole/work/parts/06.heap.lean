section PH
variable {S : List Shp} {d : Nat} {Y : Mth} {pc : Nat} {L : List (Nat × PV)} {st : List PV} {μ : Mem} {Q : Option PV → Mem → Prop}
/-- a number of a cell set -/
def putI (μ : Mem) (k : Nat) (i v : Int) : Mem := (fun q => if q = k then (fun j => if j = i then v else μ.1 k j) else μ.1 q, μ.2)
def putL (μ : Mem) (k : Nat) (i : Int) (v : BitVec 64) : Mem := (μ.1, fun q => if q = k then (fun j => if j = i then v else μ.2 k j) else μ.2 q)
/-- a whole row of longs set, of numbers set -/
def rowL (μ : Mem) (k : Nat) (f : Int → BitVec 64) : Mem := (μ.1, fun q => if q = k then f else μ.2 q)
def rowI (μ : Mem) (k : Nat) (f : Int → Int) : Mem := (fun q => if q = k then f else μ.1 q, μ.2)
theorem putI_off {μ : Mem} {k : Nat} {i v : Int} : Off k μ (putI μ k i v) := fun q hq => ⟨by simp [putI, hq], rfl⟩
theorem putL_off {μ : Mem} {k : Nat} {i : Int} {v : BitVec 64} : Off k μ (putL μ k i v) := fun q hq => ⟨rfl, by simp [putL, hq]⟩
theorem rowL_off {μ : Mem} {k : Nat} {f : Int → BitVec 64} : Off k μ (rowL μ k f) := fun q hq => ⟨rfl, by simp [rowL, hq]⟩
theorem rowI_off {μ : Mem} {k : Nat} {f : Int → Int} : Off k μ (rowI μ k f) := fun q hq => ⟨by simp [rowI, hq], rfl⟩
/-- a class's field stands in the tables as the words have it -/
def FAt (own : String) (idx ci j : Nat) : Prop := ∃ (C : String) (T : u_T) (N : Nat), vwCl[ci]? = some (C, T, N) ∧ j < N ∧ (∀ w ∈ u_ws C T N, w ∈ tblG) ∧ Cond.fieldLink own idx (T j).1 (T j).2.1 (T j).2.2.1 ∈ tblG
def FPt (ci j : Nat) (ty : FieldType) : Prop := ∃ (C : String) (T : u_T) (N : Nat) (ty0 : Nat → FieldType), vwCl[ci]? = some (C, T, N) ∧ (∀ k, k < N → parseFieldDescriptor (T k).2.2.1 = some (ty0 k)) ∧ (∀ a, a < N → ∀ b, b < N → a ≠ b → (T a).2.1 ≠ (T b).2.1) ∧ (T j).2.2.2 = false ∧ parseFieldDescriptor (T j).2.2.1 = some ty
theorem P_getI {idx ci j k : Nat} {jj : Int} {fs : List (Option Nat)} (hd : decode Y.2.1 pc = .ok (.getfield idx, 3)) (hf : FAt Y.1.cls idx ci j) (hs : S[k]? = some (.inl (ci, fs))) (hj : fs[j]? = some none) (hjj : (j : Int) = jj) (k0 : PW S d Y (pc + 3) L (vi (μ.1 k jj) :: st) μ Q) : PW S d Y pc L (vr k :: st) μ Q := by
  intro p l e s m args below meth c D cs ad A H locs ls C X hl
  obtain ⟨hx, hb, hml, hret, hlocks, hown, hts, hN⟩ := id C
  obtain ⟨hA, hS, hK, hP, hD, hT⟩ := X
  subst hjj
  obtain ⟨C0, T, N, h1, h2, h3, h4⟩ := hf
  refine va_get (D := D) hx hb hts h3 hown hK hP k (wld_at hs) h1 j h2 (hts _ h4) (fun _ h => h) (v := .int (Int32.ofInt (μ.1 k (j : Int)))) ?_ hd (k0 p l e s m args below meth c D cs ad A H locs ls C ⟨hA, hS, hK, hP, hD, hT⟩ hl)
  rw [flds_get, hj]
  simp
theorem P_getR {idx ci j k q : Nat} {fs : List (Option Nat)} (hd : decode Y.2.1 pc = .ok (.getfield idx, 3)) (hf : FAt Y.1.cls idx ci j) (hs : S[k]? = some (.inl (ci, fs))) (hj : fs[j]? = some (some q)) (k0 : PW S d Y (pc + 3) L (vr q :: st) μ Q) : PW S d Y pc L (vr k :: st) μ Q := by
  intro p l e s m args below meth c D cs ad A H locs ls C X hl
  obtain ⟨hx, hb, hml, hret, hlocks, hown, hts, hN⟩ := id C
  obtain ⟨hA, hS, hK, hP, hD, hT⟩ := X
  obtain ⟨C0, T, N, h1, h2, h3, h4⟩ := hf
  refine va_get (D := D) hx hb hts h3 hown hK hP k (wld_at hs) h1 j h2 (hts _ h4) (fun _ h => h) (v := .ref (ad q)) ?_ hd (k0 p l e s m args below meth c D cs ad A H locs ls C ⟨hA, hS, hK, hP, hD, hT⟩ hl)
  rw [flds_get, hj]
  simp
theorem flds_put {ad : Nat → Nat} {μ : Mem} {k : Nat} {v : Int} (fs : List (Option Nat)) {j : Nat} (hj : fs[j]? = some none) : (flds ad μ k 0 fs).set j (.int (Int32.ofInt v)) = flds ad (putI μ k (j : Int) v) k 0 fs := by
  apply List.ext_getElem?
  intro i
  have hlen : j < (flds ad μ k 0 fs).length := by rw [flds_len]; exact (List.getElem?_eq_some_iff.mp hj).1
  by_cases hi : i = j
  · subst hi
    rw [List.getElem?_set_self hlen, flds_get, hj]
    simp [putI]
  · rw [List.getElem?_set_ne (Ne.symm hi), flds_get, flds_get]
    cases h : fs[i]? with
    | none => rfl
    | some a =>
      cases a with
      | none =>
        have hij : ¬ ((i : Int) = (j : Int)) := by omega
        simp [putI, hij]
      | some q => rfl
theorem P_putI {idx ci j k : Nat} {v jj : Int} {fs : List (Option Nat)} (hd : decode Y.2.1 pc = .ok (.putfield idx, 3)) (hf : FAt Y.1.cls idx ci j) (hp : FPt ci j .int) (hs : S[k]? = some (.inl (ci, fs))) (hj : fs[j]? = some none) (hjj : (j : Int) = jj) (k0 : PW S d Y (pc + 3) L st (putI μ k jj v) Q) : PW S d Y pc L (vi v :: vr k :: st) μ Q := by
  intro p l e s m args below meth c D cs ad A H locs ls C X hl
  obtain ⟨hx, hb, hml, hret, hlocks, hown, hts, hN⟩ := id C
  obtain ⟨hA, hS, hK, hP, hD, hT⟩ := X
  subst hjj
  obtain ⟨C0, T, N, h1, h2, h3, h4⟩ := hf
  obtain ⟨C1, T1, N1, ty0, g1, g2, g3, g4, g5⟩ := hp
  rw [h1] at g1
  simp only [Option.some.injEq, Prod.mk.injEq] at g1
  obtain ⟨rfl, rfl, rfl⟩ := g1
  refine va_put (D := D) (v := .int (Int32.ofInt v)) hx hb hts h3 ty0 g2 g3 hown hK hP hD hS k (wld_at hs) h1 j h2 (hts _ h4) (fun _ h => h) g4 g5 rfl rfl (by rw [flds_len]; exact (List.getElem?_eq_some_iff.mp hj).1) hd (fun H1 locs1 hP1 hD1 hS1 => ?_)
  rw [flds_put fs hj] at hP1 hD1
  have e9 := wld_set (ad := ad) (cs := cs) (s := .inl (ci, fs)) hs (putI_off (μ := μ) (k := k) (i := (j : Int)) (v := v))
  simp only [cellE] at e9
  rw [e9] at hP1 hD1
  exact k0 p l e s m args below meth c D cs ad A H1 locs1 ls C ⟨hA, hS1, hK, hP1, hD1, hT⟩ hl
theorem P_putZ {idx ci j k : Nat} {v jj : Int} {fs : List (Option Nat)} (hd : decode Y.2.1 pc = .ok (.putfield idx, 3)) (hf : FAt Y.1.cls idx ci j) (hp : FPt ci j .boolean) (hs : S[k]? = some (.inl (ci, fs))) (hj : fs[j]? = some none) (hjj : (j : Int) = jj) (hv : v = 0 ∨ v = 1) (k0 : PW S d Y (pc + 3) L st (putI μ k jj v) Q) : PW S d Y pc L (vi v :: vr k :: st) μ Q := by
  intro p l e s m args below meth c D cs ad A H locs ls C X hl
  obtain ⟨hx, hb, hml, hret, hlocks, hown, hts, hN⟩ := id C
  obtain ⟨hA, hS, hK, hP, hD, hT⟩ := X
  subst hjj
  obtain ⟨C0, T, N, h1, h2, h3, h4⟩ := hf
  obtain ⟨C1, T1, N1, ty0, g1, g2, g3, g4, g5⟩ := hp
  rw [h1] at g1
  simp only [Option.some.injEq, Prod.mk.injEq] at g1
  obtain ⟨rfl, rfl, rfl⟩ := g1
  refine va_put (D := D) (v := .int (Int32.ofInt v)) hx hb hts h3 ty0 g2 g3 hown hK hP hD hS k (wld_at hs) h1 j h2 (hts _ h4) (fun _ h => h) g4 g5 (by rcases hv with rfl | rfl <;> decide) (by rcases hv with rfl | rfl <;> decide) (by rw [flds_len]; exact (List.getElem?_eq_some_iff.mp hj).1) hd (fun H1 locs1 hP1 hD1 hS1 => ?_)
  rw [flds_put fs hj] at hP1 hD1
  have e9 := wld_set (ad := ad) (cs := cs) (s := .inl (ci, fs)) hs (putI_off (μ := μ) (k := k) (i := (j : Int)) (v := v))
  simp only [cellE] at e9
  rw [e9] at hP1 hD1
  exact k0 p l e s m args below meth c D cs ad A H1 locs1 ls C ⟨hA, hS1, hK, hP1, hD1, hT⟩ hl
theorem P_iald {n k : Nat} {i : Int} (hd : decode Y.2.1 pc = .ok (.iaload, 1)) (hs : S[k]? = some (.inr (n, 0))) (h0 : 0 ≤ i) (h1 : i < n) (hn : n < 2147483648) (k0 : PW S d Y (pc + 1) L (vi (μ.1 k i) :: st) μ Q) : PW S d Y pc L (vi i :: vr k :: st) μ Q := by
  intro p l e s m args below meth c D cs ad A H locs ls C X hl
  obtain ⟨hx, hb, hml, hret, hlocks, hown, hts, hN⟩ := id C
  obtain ⟨hA, hS, hK, hP, hD, hT⟩ := X
  have ee := wI_cl h0 h1 hn
  refine va_iald hx hb hK hP k 0 (wld_at hs) rfl (wI_vp h0 h1 hn) hd ?_
  show W _ _ _ _ _ _ _ _ _ _ _ _ _ _ _ (F0 m (pc + 1) ls (Value.int (Int32.ofInt (μ.1 k (((Int32.ofInt i).toNatClampNeg : Nat) : Int))) :: _))
  rw [ee, Int.toNat_of_nonneg h0]
  exact k0 p l e s m args below meth c D cs ad A H locs ls C ⟨hA, hS, hK, hP, hD, hT⟩ hl
theorem P_zald {n k : Nat} {i : Int} (hd : decode Y.2.1 pc = .ok (.baload, 1)) (hs : S[k]? = some (.inr (n, 2))) (h0 : 0 ≤ i) (h1 : i < n) (hn : n < 2147483648) (k0 : PW S d Y (pc + 1) L (vi (μ.1 k i) :: st) μ Q) : PW S d Y pc L (vi i :: vr k :: st) μ Q := by
  intro p l e s m args below meth c D cs ad A H locs ls C X hl
  obtain ⟨hx, hb, hml, hret, hlocks, hown, hts, hN⟩ := id C
  obtain ⟨hA, hS, hK, hP, hD, hT⟩ := X
  have ee := wI_cl h0 h1 hn
  refine va_zald hx hb hK hP k 2 (wld_at hs) rfl (wI_vp h0 h1 hn) hd ?_
  show W _ _ _ _ _ _ _ _ _ _ _ _ _ _ _ (F0 m (pc + 1) ls (Value.int (Int32.ofInt (μ.1 k (((Int32.ofInt i).toNatClampNeg : Nat) : Int))) :: _))
  rw [ee, Int.toNat_of_nonneg h0]
  exact k0 p l e s m args below meth c D cs ad A H locs ls C ⟨hA, hS, hK, hP, hD, hT⟩ hl
theorem P_lald {n k : Nat} {i : Int} (hd : decode Y.2.1 pc = .ok (.laload, 1)) (hs : S[k]? = some (.inr (n, 1))) (h0 : 0 ≤ i) (h1 : i < n) (hn : n < 2147483648) (k0 : PW S d Y (pc + 1) L (vl (μ.2 k i) :: st) μ Q) : PW S d Y pc L (vi i :: vr k :: st) μ Q := by
  intro p l e s m args below meth c D cs ad A H locs ls C X hl
  obtain ⟨hx, hb, hml, hret, hlocks, hown, hts, hN⟩ := id C
  obtain ⟨hA, hS, hK, hP, hD, hT⟩ := X
  have ee := wI_cl h0 h1 hn
  refine va_lald hx hb hK hP k 1 (wld_at hs) rfl (wI_vp h0 h1 hn) hd ?_
  show W _ _ _ _ _ _ _ _ _ _ _ _ _ _ _ (F0 m (pc + 1) ls (Value.long (Int64.ofBitVec (μ.2 k (((Int32.ofInt i).toNatClampNeg : Nat) : Int))) :: _))
  rw [ee, Int.toNat_of_nonneg h0]
  exact k0 p l e s m args below meth c D cs ad A H locs ls C ⟨hA, hS, hK, hP, hD, hT⟩ hl
theorem P_iast {n k : Nat} {i : Int} {v : Int} (hd : decode Y.2.1 pc = .ok (.iastore, 1)) (hs : S[k]? = some (.inr (n, 0))) (h0 : 0 ≤ i) (h1 : i < n) (hn : n < 2147483648) (k0 : PW S d Y (pc + 1) L st (putI μ k i v) Q) : PW S d Y pc L (vi v :: vi i :: vr k :: st) μ Q := by
  intro p l e s m args below meth c D cs ad A H locs ls C X hl
  obtain ⟨hx, hb, hml, hret, hlocks, hown, hts, hN⟩ := id C
  obtain ⟨hA, hS, hK, hP, hD, hT⟩ := X
  have ee := wI_cl h0 h1 hn
  refine va_iast (x := Int32.ofInt v) hx hb hK hP hD hS k 0 (wld_at hs) rfl (wI_vp h0 h1 hn) hd (fun H1 locs1 hP1 hD1 hS1 => ?_)
  rw [ee] at hP1 hD1
  have e8 : upd (fun j : Nat => Int32.ofInt (μ.1 k (j : Int))) i.toNat (Int32.ofInt v) = fun j : Nat => Int32.ofInt ((putI μ k i v).1 k (j : Int)) := by
    funext j
    by_cases hj : j = i.toNat
    · subst hj
      simp [upd, putI, Int.toNat_of_nonneg h0]
    · have hj2 : ¬ ((j : Int) = i) := by omega
      simp [upd, putI, hj, hj2]
  rw [e8] at hP1 hD1
  have e9 : (wld ad cs μ 0 S).set k (ad k, cellE ad cs (putI μ k i v) k (.inr (n, 0))) = wld ad cs (putI μ k i v) 0 S := wld_set hs putI_off
  have hP1 : va_P D vwCl ((wld ad cs μ 0 S).set k (ad k, cellE ad cs (putI μ k i v) k (.inr (n, 0)))) H1 := hP1
  have hD1 : va_D A ((wld ad cs μ 0 S).set k (ad k, cellE ad cs (putI μ k i v) k (.inr (n, 0)))) := hD1
  rw [e9] at hP1 hD1
  exact k0 p l e s m args below meth c D cs ad A H1 locs1 ls C ⟨hA, hS1, hK, hP1, hD1, hT⟩ hl
theorem P_last {n k : Nat} {i : Int} {v : BitVec 64} (hd : decode Y.2.1 pc = .ok (.lastore, 1)) (hs : S[k]? = some (.inr (n, 1))) (h0 : 0 ≤ i) (h1 : i < n) (hn : n < 2147483648) (k0 : PW S d Y (pc + 1) L st (putL μ k i v) Q) : PW S d Y pc L (vl v :: vi i :: vr k :: st) μ Q := by
  intro p l e s m args below meth c D cs ad A H locs ls C X hl
  obtain ⟨hx, hb, hml, hret, hlocks, hown, hts, hN⟩ := id C
  obtain ⟨hA, hS, hK, hP, hD, hT⟩ := X
  have ee := wI_cl h0 h1 hn
  refine va_last (x := Int64.ofBitVec v) hx hb hK hP hD hS k 1 (wld_at hs) rfl (wI_vp h0 h1 hn) hd (fun H1 locs1 hP1 hD1 hS1 => ?_)
  rw [ee] at hP1 hD1
  have e8 : vp_updL (fun j : Nat => Int64.ofBitVec (μ.2 k (j : Int))) i.toNat (Int64.ofBitVec v) = fun j : Nat => Int64.ofBitVec ((putL μ k i v).2 k (j : Int)) := by
    funext j
    by_cases hj : j = i.toNat
    · subst hj
      simp [vp_updL, putL, Int.toNat_of_nonneg h0]
    · have hj2 : ¬ ((j : Int) = i) := by omega
      simp [vp_updL, putL, hj, hj2]
  rw [e8] at hP1 hD1
  have e9 : (wld ad cs μ 0 S).set k (ad k, cellE ad cs (putL μ k i v) k (.inr (n, 1))) = wld ad cs (putL μ k i v) 0 S := wld_set hs putL_off
  have hP1 : va_P D vwCl ((wld ad cs μ 0 S).set k (ad k, cellE ad cs (putL μ k i v) k (.inr (n, 1)))) H1 := hP1
  have hD1 : va_D A ((wld ad cs μ 0 S).set k (ad k, cellE ad cs (putL μ k i v) k (.inr (n, 1)))) := hD1
  rw [e9] at hP1 hD1
  exact k0 p l e s m args below meth c D cs ad A H1 locs1 ls C ⟨hA, hS1, hK, hP1, hD1, hT⟩ hl
theorem P_zast {n k : Nat} {i : Int} {v : Int} (hd : decode Y.2.1 pc = .ok (.bastore, 1)) (hs : S[k]? = some (.inr (n, 2))) (h0 : 0 ≤ i) (h1 : i < n) (hn : n < 2147483648) (hv : v = 0 ∨ v = 1) (k0 : PW S d Y (pc + 1) L st (putI μ k i v) Q) : PW S d Y pc L (vi v :: vi i :: vr k :: st) μ Q := by
  intro p l e s m args below meth c D cs ad A H locs ls C X hl
  obtain ⟨hx, hb, hml, hret, hlocks, hown, hts, hN⟩ := id C
  obtain ⟨hA, hS, hK, hP, hD, hT⟩ := X
  have ee := wI_cl h0 h1 hn
  have e7 : vp_nar .boolean (Int32.ofInt v) = Int32.ofInt v := by rcases hv with rfl | rfl <;> decide
  refine va_zast (x := Int32.ofInt v) hx hb hK hP hD hS k 2 (wld_at hs) rfl (wI_vp h0 h1 hn) hd (fun H1 locs1 hP1 hD1 hS1 => ?_)
  rw [e7] at hP1 hD1
  rw [ee] at hP1 hD1
  have e8 : upd (fun j : Nat => Int32.ofInt (μ.1 k (j : Int))) i.toNat (Int32.ofInt v) = fun j : Nat => Int32.ofInt ((putI μ k i v).1 k (j : Int)) := by
    funext j
    by_cases hj : j = i.toNat
    · subst hj
      simp [upd, putI, Int.toNat_of_nonneg h0]
    · have hj2 : ¬ ((j : Int) = i) := by omega
      simp [upd, putI, hj, hj2]
  rw [e8] at hP1 hD1
  have e9 : (wld ad cs μ 0 S).set k (ad k, cellE ad cs (putI μ k i v) k (.inr (n, 2))) = wld ad cs (putI μ k i v) 0 S := wld_set hs putI_off
  have hP1 : va_P D vwCl ((wld ad cs μ 0 S).set k (ad k, cellE ad cs (putI μ k i v) k (.inr (n, 2)))) H1 := hP1
  have hD1 : va_D A ((wld ad cs μ 0 S).set k (ad k, cellE ad cs (putI μ k i v) k (.inr (n, 2)))) := hD1
  rw [e9] at hP1 hD1
  exact k0 p l e s m args below meth c D cs ad A H1 locs1 ls C ⟨hA, hS1, hK, hP1, hD1, hT⟩ hl
theorem P_alen {n t k : Nat} (hd : decode Y.2.1 pc = .ok (.arraylength, 1)) (hs : S[k]? = some (.inr (n, t))) (ht : t < 3) (k0 : PW S d Y (pc + 1) L (vi (n : Int) :: st) μ Q) : PW S d Y pc L (vr k :: st) μ Q := by
  intro p l e s m args below meth c D cs ad A H locs ls C X hl
  obtain ⟨hx, hb, hml, hret, hlocks, hown, hts, hN⟩ := id C
  obtain ⟨hA, hS, hK, hP, hD, hT⟩ := X
  have h9 := k0 p l e s m args below meth c D cs ad A H locs ls C ⟨hA, hS, hK, hP, hD, hT⟩ hl
  by_cases h1 : t = 1
  · subst h1
    exact va_alen hx hb hK hP k 1 (wld_at hs) (ty := .long) rfl rfl hd h9
  · have h2 := wld_at (ad := ad) (cs := cs) (μ := μ) hs
    simp only [cellE, if_neg h1] at h2
    rcases (show t = 0 ∨ t = 2 by omega) with rfl | rfl
    · exact va_alen hx hb hK hP k 0 h2 (ty := .int) rfl rfl hd h9
    · exact va_alen hx hb hK hP k 2 h2 (ty := .boolean) rfl rfl hd h9
theorem P_gets {idx : Nat} (hd : decode Y.2.1 pc = .ok (.getstatic idx, 3)) (hc : Cond.fieldLink Y.1.cls idx "KitchenTouch" "IS_ONE" "[J" ∈ tblG) (k0 : PW S d Y (pc + 3) L (vr 99 :: st) μ Q) : PW S d Y pc L st μ Q := by
  intro p l e s m args below meth c D cs ad A H locs ls C X hl
  obtain ⟨hx, hb, hml, hret, hlocks, hown, hts, hN⟩ := id C
  obtain ⟨hA, hS, hK, hP, hD, hT⟩ := X
  exact va_gets hx hb hT.1 hS hown (hts _ hc) (fun _ h => h) hd (k0 p l e s m args below meth c D cs ad A H locs ls C ⟨hA, hS, hK, hP, hD, hT⟩ hl)
theorem P_getsN {idx : Nat} (hd : decode Y.2.1 pc = .ok (.getstatic idx, 3)) (hc : (Y.1.cls, idx, "KitchenTouch", "IS_ONE", "[J", "KitchenTouch") ∈ nestF) (k0 : PW S d Y (pc + 3) L (vr 99 :: st) μ Q) : PW S d Y pc L st μ Q := by
  intro p l e s m args below meth c D cs ad A H locs ls C X hl
  obtain ⟨hx, hb, hml, hret, hlocks, hown, hts, hN⟩ := id C
  obtain ⟨hA, hS, hK, hP, hD, hT⟩ := X
  exact va_getsN hx hb hT.1 hS hown (va_Nw.use rfl (hN.2 _ hc)) (fun _ h => h) hd (k0 p l e s m args below meth c D cs ad A H locs ls C ⟨hA, hS, hK, hP, hD, hT⟩ hl)
theorem P_tald {i : Int} (hd : decode Y.2.1 pc = .ok (.laload, 1)) (h0 : 0 ≤ i) (h1 : i < 6) (k0 : PW S d Y (pc + 1) L (vl (oneB i) :: st) μ Q) : PW S d Y pc L (vi i :: vr 99 :: st) μ Q := by
  intro p l e s m args below meth c D cs ad A H locs ls C X hl
  obtain ⟨hx, hb, hml, hret, hlocks, hown, hts, hN⟩ := id C
  obtain ⟨hA, hS, hK, hP, hD, hT⟩ := X
  have ee := wI_cl (n := 6) h0 h1 (by omega)
  exact va_tl hx hb hT.2 hS (wI_vp (n := 6) h0 h1 (by omega)) (v := .long (Int64.ofBitVec (oneB i))) (by rw [ee, Int.toNat_of_nonneg h0]) hd (k0 p l e s m args below meth c D cs ad A H locs ls C ⟨hA, hS, hK, hP, hD, hT⟩ hl)
theorem k_nat : Cond.native arraycopyName ∈ tblG := by decide +kernel
theorem k_stt : Cond.static arraycopyName ∈ tblG := by decide +kernel
theorem k_ini : Cond.initialized "java/lang/System" ∈ tblG := by decide +kernel
theorem P_copyL {idx n0 n1 k0 k1 : Nat} {sp dp n : Int} (hd : decode Y.2.1 pc = .ok (.invokestatic idx, 3)) (hlk : Cond.methodLink Y.1.cls idx arraycopyName ∈ tblG) (hd1 : 1 ≤ d) (hw : pwide st ≤ 8) (hs0 : S[k0]? = some (.inr (n0, 1))) (hs1 : S[k1]? = some (.inr (n1, 1))) (h1 : 0 ≤ sp) (h2 : 0 ≤ dp) (h3 : 0 ≤ n) (h4 : sp + n ≤ n0) (h5 : dp + n ≤ n1) (hn0 : n0 < 2147483647) (hn1 : n1 < 2147483647) (kk : PW S d Y (pc + 3) L st (rowL μ k1 (fun j => if dp ≤ j ∧ j < dp + n then μ.2 k0 (sp + (j - dp)) else μ.2 k1 j)) Q) : PW S d Y pc L (vi n :: vi dp :: vr k1 :: vi sp :: vr k0 :: st) μ Q := by
  intro p l e s m args below meth c D cs ad A H locs ls C X hl
  obtain ⟨hx, hb, hml, hret, hlocks, hown, hts, hN⟩ := id C
  obtain ⟨hA, hS, hK, hP, hD, hT⟩ := X
  have c1 : (Int32.ofInt sp).toNatClampNeg = sp.toNat := wI_cl (n := n0 + 1) h1 (by omega) (by omega)
  have c2 : (Int32.ofInt dp).toNatClampNeg = dp.toNat := wI_cl (n := n1 + 1) h2 (by omega) (by omega)
  have c3 : (Int32.ofInt n).toNatClampNeg = n.toNat := wI_cl (n := n1 + 1) h3 (by omega) (by omega)
  have z0 : InR 0 := by unfold InR; omega
  have g1 : ∀ z : Int, 0 ≤ z → z < 2147483648 → ¬ Int32.ofInt z < 0 := fun z q0 q1 h => by
    have := (wI_lt ⟨by omega, q1⟩ z0).mp h
    omega
  refine va_copyl hx hb (hml.trans hl.1.symm) hown (hts _ hlk) (hts _ k_nat) (hts _ k_stt) (hts _ k_ini) hK hP hD hS k0 k1 1 1 (wld_at hs0) (wld_at hs1) rfl rfl rfl (g1 sp h1 (by omega)) (g1 dp h2 (by omega)) (g1 n h3 (by omega)) (by rw [c1, c3]; omega) (by rw [c2, c3]; omega) (fun i _ => rfl) (show 1 ≤ (rm d).frames from hd1) ?_ hd (fun H1 locs1 hP1 hD1 hS1 => ?_)
  · show _ ≤ 64 * d
    rw [pwide_sum]
    have e7 : nativeFrameWords "java/lang/System" "arraycopy" 5 + 11 ≤ 50 := by decide +kernel
    omega
  · rw [c1, c2, c3] at hP1 hD1
    have e8 : va_cpy (fun j : Nat => Int64.ofBitVec (μ.2 k0 (j : Int))) (fun j : Nat => Int64.ofBitVec (μ.2 k1 (j : Int))) sp.toNat dp.toNat n.toNat = fun j : Nat => Int64.ofBitVec ((rowL μ k1 (fun j => if dp ≤ j ∧ j < dp + n then μ.2 k0 (sp + (j - dp)) else μ.2 k1 j)).2 k1 (j : Int)) := by
      funext j
      by_cases hj : dp.toNat ≤ j ∧ j < dp.toNat + n.toNat
      · have q1 : dp ≤ (j : Int) ∧ (j : Int) < dp + n := by omega
        have q2 : ((sp.toNat + (j - dp.toNat) : Nat) : Int) = sp + ((j : Int) - dp) := by omega
        simp [va_cpy, hj, q1, rowL, ← q2]
      · have q1 : ¬ (dp ≤ (j : Int) ∧ (j : Int) < dp + n) := by omega
        unfold va_cpy
        rw [if_neg hj]
        simp only [rowL, if_pos]
        rw [if_neg q1]
    rw [e8] at hP1 hD1
    generalize hμ : rowL μ k1 (fun j => if dp ≤ j ∧ j < dp + n then μ.2 k0 (sp + (j - dp)) else μ.2 k1 j) = μ1 at hP1 hD1 kk
    have e9 : (wld ad cs μ 0 S).set k1 (ad k1, cellE ad cs μ1 k1 (.inr (n1, 1))) = wld ad cs μ1 0 S := wld_set hs1 (by rw [← hμ]; exact rowL_off)
    have hP1 : va_P D vwCl ((wld ad cs μ 0 S).set k1 (ad k1, cellE ad cs μ1 k1 (.inr (n1, 1)))) H1 := hP1
    have hD1 : va_D A ((wld ad cs μ 0 S).set k1 (ad k1, cellE ad cs μ1 k1 (.inr (n1, 1)))) := hD1
    rw [e9] at hP1 hD1
    exact kk p l e s m args below meth c D cs ad A H1 locs1 ls C ⟨hA, hS1, hK, hP1, hD1, hT⟩ hl
theorem P_copyI {idx n0 n1 k0 k1 : Nat} {sp dp n : Int} (hd : decode Y.2.1 pc = .ok (.invokestatic idx, 3)) (hlk : Cond.methodLink Y.1.cls idx arraycopyName ∈ tblG) (hd1 : 1 ≤ d) (hw : pwide st ≤ 8) (hs0 : S[k0]? = some (.inr (n0, 0))) (hs1 : S[k1]? = some (.inr (n1, 0))) (h1 : 0 ≤ sp) (h2 : 0 ≤ dp) (h3 : 0 ≤ n) (h4 : sp + n ≤ n0) (h5 : dp + n ≤ n1) (hn0 : n0 < 2147483647) (hn1 : n1 < 2147483647) (kk : PW S d Y (pc + 3) L st (rowI μ k1 (fun j => if dp ≤ j ∧ j < dp + n then μ.1 k0 (sp + (j - dp)) else μ.1 k1 j)) Q) : PW S d Y pc L (vi n :: vi dp :: vr k1 :: vi sp :: vr k0 :: st) μ Q := by
  intro p l e s m args below meth c D cs ad A H locs ls C X hl
  obtain ⟨hx, hb, hml, hret, hlocks, hown, hts, hN⟩ := id C
  obtain ⟨hA, hS, hK, hP, hD, hT⟩ := X
  have c1 : (Int32.ofInt sp).toNatClampNeg = sp.toNat := wI_cl (n := n0 + 1) h1 (by omega) (by omega)
  have c2 : (Int32.ofInt dp).toNatClampNeg = dp.toNat := wI_cl (n := n1 + 1) h2 (by omega) (by omega)
  have c3 : (Int32.ofInt n).toNatClampNeg = n.toNat := wI_cl (n := n1 + 1) h3 (by omega) (by omega)
  have z0 : InR 0 := by unfold InR; omega
  have g1 : ∀ z : Int, 0 ≤ z → z < 2147483648 → ¬ Int32.ofInt z < 0 := fun z q0 q1 h => by
    have := (wI_lt ⟨by omega, q1⟩ z0).mp h
    omega
  refine va_copyi hx hb (hml.trans hl.1.symm) hown (hts _ hlk) (hts _ k_nat) (hts _ k_stt) (hts _ k_ini) hK hP hD hS k0 k1 0 0 (wld_at hs0) (wld_at hs1) rfl rfl rfl (g1 sp h1 (by omega)) (g1 dp h2 (by omega)) (g1 n h3 (by omega)) (by rw [c1, c3]; omega) (by rw [c2, c3]; omega) (fun i _ => rfl) (show 1 ≤ (rm d).frames from hd1) ?_ hd (fun H1 locs1 hP1 hD1 hS1 => ?_)
  · show _ ≤ 64 * d
    rw [pwide_sum]
    have e7 : nativeFrameWords "java/lang/System" "arraycopy" 5 + 11 ≤ 50 := by decide +kernel
    omega
  · rw [c1, c2, c3] at hP1 hD1
    have e8 : va_cpy (fun j : Nat => Int32.ofInt (μ.1 k0 (j : Int))) (fun j : Nat => Int32.ofInt (μ.1 k1 (j : Int))) sp.toNat dp.toNat n.toNat = fun j : Nat => Int32.ofInt ((rowI μ k1 (fun j => if dp ≤ j ∧ j < dp + n then μ.1 k0 (sp + (j - dp)) else μ.1 k1 j)).1 k1 (j : Int)) := by
      funext j
      by_cases hj : dp.toNat ≤ j ∧ j < dp.toNat + n.toNat
      · have q1 : dp ≤ (j : Int) ∧ (j : Int) < dp + n := by omega
        have q2 : ((sp.toNat + (j - dp.toNat) : Nat) : Int) = sp + ((j : Int) - dp) := by omega
        simp [va_cpy, hj, q1, rowI, ← q2]
      · have q1 : ¬ (dp ≤ (j : Int) ∧ (j : Int) < dp + n) := by omega
        unfold va_cpy
        rw [if_neg hj]
        simp only [rowI, if_pos]
        rw [if_neg q1]
    rw [e8] at hP1 hD1
    generalize hμ : rowI μ k1 (fun j => if dp ≤ j ∧ j < dp + n then μ.1 k0 (sp + (j - dp)) else μ.1 k1 j) = μ1 at hP1 hD1 kk
    have e9 : (wld ad cs μ 0 S).set k1 (ad k1, cellE ad cs μ1 k1 (.inr (n1, 0))) = wld ad cs μ1 0 S := wld_set hs1 (by rw [← hμ]; exact rowI_off)
    have hP1 : va_P D vwCl ((wld ad cs μ 0 S).set k1 (ad k1, cellE ad cs μ1 k1 (.inr (n1, 0)))) H1 := hP1
    have hD1 : va_D A ((wld ad cs μ 0 S).set k1 (ad k1, cellE ad cs μ1 k1 (.inr (n1, 0)))) := hD1
    rw [e9] at hP1 hD1
    exact kk p l e s m args below meth c D cs ad A H1 locs1 ls C ⟨hA, hS1, hK, hP1, hD1, hT⟩ hl
end PH
