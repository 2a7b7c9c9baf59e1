theorem and31 (x : Int32) : 0 ≤ (x &&& Int32.ofInt 31).toInt ∧ (x &&& Int32.ofInt 31).toInt ≤ 31 := by
  have e : (x &&& Int32.ofInt 31).toBitVec = x.toBitVec &&& 31#32 := rfl
  have h : (x.toBitVec &&& 31#32).toNat ≤ 31 := by rw [BitVec.toNat_and]; exact Nat.and_le_right
  have h2 : (x &&& Int32.ofInt 31).toInt = ((x.toBitVec &&& 31#32).toNat : Int) := by
    show (x &&& Int32.ofInt 31).toBitVec.toInt = _
    rw [e, BitVec.toInt_eq_toNat_of_lt (by omega)]
  omega
section LAWC
variable {p : Program} {l : Launch} {e : Env} {s : State} {m : MethodId} {below : List Frame} {meth : Method} {c : Code} {b N : Nat} {xs : Nat → Int32} {D : va_G} {cs : Nat → ClassId} {aC aM : Nat → Nat} {i : Int} {μ ν : Mem}
set_option maxHeartbeats 4000000 in
theorem law_loop (F : LwF p s m meth c b N xs D cs aC aM) : ∀ (n : Nat) (i : Int) (μ ν : Mem), ((N : Int) - i).toNat < n → 0 ≤ i → i ≤ N + 5 → RLN (81 * i) μ ν → LwP p l e s m below meth c b D cs aC aM i 18 [] μ ν := by
  intro n
  induction n with
  | zero => intro i μ ν q; omega
  | succ n ih =>
  intro i μ ν hm hi hiN h
  have hN3 := F.2.1
  refine L_i3 F dL_law_18 ?_
  refine L_a0 F dL_law_19 ?_
  refine L_len F dL_law_20 ?_
  refine L_bipush F dL_law_21 (by decide) ?_
  refine L_isub F dL_law_23 ?_
  refine L_gt (tgt := 1057) F dL_law_24 (by decide) (by unfold InR; omega) (by unfold InR; omega) (fun c0 => ?_) (fun c0 => ?_)
  · exact L_end F
  · have kx : ∀ μ' ν', RLN (81 * i + 81) μ' ν' → LwP p l e s m below meth c b D cs aC aM i 1051 [] μ' ν' := fun μ' ν' h' => L_next F (ih (i + 6) μ' ν' (by omega) (by omega) (by omega) (RL_mono h' (by omega)))
    have h5 : 0 ≤ i ∧ i + 5 < N := by omega
    refine L_a0 F dL_law_27 ?_
    refine L_i3 F dL_law_28 ?_
    refine L_ald F dL_law_29 (by omega) (by omega) ?_
    refine L_bipush F dL_law_30 (by decide) ?_
    obtain ⟨z, hz, hz0, hz1⟩ : ∃ z : Int, Int32.ofInt (sx xs i) &&& Int32.ofInt 31 = Int32.ofInt z ∧ 0 ≤ z ∧ z ≤ 31 := ⟨_, (wI_of _).symm, and31 _⟩
    refine L_iand F dL_law_32 hz ?_
    clear hz ih
    rcases (show z = 0 ∨ z = 1 ∨ z = 2 ∨ z = 3 ∨ z = 4 ∨ z = 5 ∨ z = 6 ∨ z = 7 ∨ z = 8 ∨ z = 9 ∨ z = 10 ∨ z = 11 ∨ z = 12 ∨ z = 13 ∨ z = 14 ∨ z = 15 ∨ z = 16 ∨ z = 17 ∨ z = 18 ∨ z = 19 ∨ z = 20 ∨ z = 21 ∨ z = 22 ∨ z = 23 ∨ z = 24 ∨ z = 25 ∨ z = 26 ∨ 26 < z by omega) with rfl | rfl | rfl | rfl | rfl | rfl | rfl | rfl | rfl | rfl | rfl | rfl | rfl | rfl | rfl | rfl | rfl | rfl | rfl | rfl | rfl | rfl | rfl | rfl | rfl | rfl | rfl | hz9
    · exact L_tin (tgt := 156) F dL_law_33 (by unfold InR; decide) (by decide) (by decide) rfl (by decide) (lc_0 F h h5 kx)
    · exact L_tin (tgt := 231) F dL_law_33 (by unfold InR; decide) (by decide) (by decide) rfl (by decide) (lc_1 F h h5 kx)
    · exact L_tin (tgt := 290) F dL_law_33 (by unfold InR; decide) (by decide) (by decide) rfl (by decide) (lc_2 F h h5 kx)
    · exact L_tin (tgt := 323) F dL_law_33 (by unfold InR; decide) (by decide) (by decide) rfl (by decide) (lc_3 F h h5 kx)
    · exact L_tin (tgt := 386) F dL_law_33 (by unfold InR; decide) (by decide) (by decide) rfl (by decide) (lc_4 F h h5 kx)
    · exact L_tin (tgt := 419) F dL_law_33 (by unfold InR; decide) (by decide) (by decide) rfl (by decide) (lc_5 F h h5 kx)
    · exact L_tin (tgt := 432) F dL_law_33 (by unfold InR; decide) (by decide) (by decide) rfl (by decide) (lc_6 F h h5 kx)
    · exact L_tin (tgt := 495) F dL_law_33 (by unfold InR; decide) (by decide) (by decide) rfl (by decide) (lc_7 F h h5 kx)
    · exact L_tin (tgt := 508) F dL_law_33 (by unfold InR; decide) (by decide) (by decide) rfl (by decide) (lc_8 F h h5 kx)
    · exact L_tin (tgt := 551) F dL_law_33 (by unfold InR; decide) (by decide) (by decide) rfl (by decide) (lc_9 F h h5 kx)
    · exact L_tin (tgt := 584) F dL_law_33 (by unfold InR; decide) (by decide) (by decide) rfl (by decide) (lc_10 F h h5 kx)
    · exact L_tin (tgt := 607) F dL_law_33 (by unfold InR; decide) (by decide) (by decide) rfl (by decide) (lc_11 F h h5 kx)
    · exact L_tin (tgt := 666) F dL_law_33 (by unfold InR; decide) (by decide) (by decide) rfl (by decide) (lc_12 F h h5 kx)
    · exact L_tin (tgt := 679) F dL_law_33 (by unfold InR; decide) (by decide) (by decide) rfl (by decide) (lc_13 F h h5 kx)
    · exact L_tin (tgt := 712) F dL_law_33 (by unfold InR; decide) (by decide) (by decide) rfl (by decide) (lc_14 F h h5 kx)
    · exact L_tin (tgt := 745) F dL_law_33 (by unfold InR; decide) (by decide) (by decide) rfl (by decide) (lc_15 F h h5 kx)
    · exact L_tin (tgt := 778) F dL_law_33 (by unfold InR; decide) (by decide) (by decide) rfl (by decide) (lc_16 F h h5 kx)
    · exact L_tin (tgt := 801) F dL_law_33 (by unfold InR; decide) (by decide) (by decide) rfl (by decide) (lc_17 F h h5 kx)
    · exact L_tin (tgt := 834) F dL_law_33 (by unfold InR; decide) (by decide) (by decide) rfl (by decide) (lc_18 F h h5 kx)
    · exact L_tin (tgt := 867) F dL_law_33 (by unfold InR; decide) (by decide) (by decide) rfl (by decide) (lc_19 F h h5 kx)
    · exact L_tin (tgt := 900) F dL_law_33 (by unfold InR; decide) (by decide) (by decide) rfl (by decide) (lc_20 F h h5 kx)
    · exact L_tin (tgt := 943) F dL_law_33 (by unfold InR; decide) (by decide) (by decide) rfl (by decide) (lc_21 F h h5 kx)
    · exact L_tin (tgt := 956) F dL_law_33 (by unfold InR; decide) (by decide) (by decide) rfl (by decide) (lc_22 F h h5 kx)
    · exact L_tin (tgt := 979) F dL_law_33 (by unfold InR; decide) (by decide) (by decide) rfl (by decide) (lc_23 F h h5 kx)
    · exact L_tin (tgt := 1002) F dL_law_33 (by unfold InR; decide) (by decide) (by decide) rfl (by decide) (lc_24 F h h5 kx)
    · exact L_tin (tgt := 1015) F dL_law_33 (by unfold InR; decide) (by decide) (by decide) rfl (by decide) (lc_25 F h h5 kx)
    · exact L_tin (tgt := 1028) F dL_law_33 (by unfold InR; decide) (by decide) (by decide) rfl (by decide) (lc_26 F h h5 kx)
    · exact L_tout (tgt := 1051) F dL_law_33 (by unfold InR; omega) (Or.inr hz9) (by decide) (kx μ ν (RL_mono h (by omega)))
end LAWC
/-! the first memories -/
def tkF (j : Int) : Int := if j = 0 then 1 else if j = 1 then 2 else if j = 2 then 3 else if j = 3 then 1 else if j = 4 then 0 else if j = 5 then 1 else if j = 6 then 1 else if j = 7 then 2 else if j = 8 then 3 else if j = 9 then 1 else if j = 10 then 0 else if j = 11 then 1 else 0
def rlF (j : Int) : Int := if j = 1 then 1 else 0
def m0M : Mem := (fun q => if q = 5 then tkF else if q = 6 then rlF else fun _ => 0, fun _ _ => 0#64)
def m0C : Mem := (fun q => if q = 3 then (fun j => if j = 9 then -1 else 0) else if q = 4 then (fun j => if j = 1 then 6 else if j = 9 then -1 else 0) else if q = 11 then tkF else if q = 17 then tkF else if q = 12 then rlF else if q = 18 then rlF else fun _ => 0, fun _ _ => 0#64)
theorem tkF_in (j : Int) : 0 ≤ tkF j ∧ tkF j ≤ 4 := by
  unfold tkF
  repeat' split
  all_goals decide
theorem rlF_in (j : Int) : 0 ≤ rlF j ∧ rlF j ≤ 3 := by
  unfold rlF
  split <;> decide
theorem RL_0 : RLN 0 m0C m0M := by
  refine ⟨⟨⟨⟨by decide, by decide, fun j => by show (0 : Int) ≤ 0 ∧ (0 : Int) ≤ 5; decide, fun j => Or.inl rfl, tkF_in, rlF_in, fun j => by show (0 : Int) ≤ 0 ∧ (0 : Int) ≤ 47; decide, fun j => by show (0 : Int) ≤ 0 ∧ (0 : Int) ≤ 9; decide, fun j => by show (-1 : Int) ≤ 0 ∧ (0 : Int) ≤ 15; decide, fun e a c => ?_⟩, fun e a c => ?_, fun j => Or.inl rfl⟩, ⟨by decide, fun j => by show (0 : Int) ≤ 0 ∧ (0 : Int) ≤ 47; decide, fun j => Or.inl rfl, fun e a c => ?_⟩, ⟨by decide, fun e a c => ?_⟩, ?_, ?_, ?_, ?_⟩, ?_, ?_, ?_, ⟨?_, ?_⟩, by decide⟩
  · exfalso
    have c : e < 0 := c
    omega
  · exfalso
    have c : e < 0 := c
    omega
  · exfalso
    have c : e < 0 := c
    omega
  · exfalso
    have c : e < 0 := c
    omega
  · refine ⟨⟨rfl, rfl⟩, rfl, rfl, rfl, fun e => ⟨rfl, rfl, rfl, rfl, rfl⟩, 0, rfl, by decide, fun t ht => ?_⟩
    exfalso
    have ht : (t : Int) < 0 := ht
    omega
  · refine ⟨0, rfl, by decide, fun t ht => ?_⟩
    exfalso
    have ht : (t : Int) < 0 := ht
    omega
  · exact ⟨rfl, fun f => ⟨rfl, rfl, rfl⟩⟩
  · exact ⟨rfl, fun f => ⟨rfl, rfl, rfl⟩⟩
  · exact ⟨⟨fun j => by show (0 : Int) ≤ 0 ∧ (0 : Int) ≤ 255; decide, by decide, by decide⟩, rfl, rfl⟩
  · exact fun j _ _ => rfl
  · refine ⟨Or.inl rfl, rfl, fun z => ?_⟩
    exfalso
    have z : (0 : Int) = 1 := z
    omega
  · refine ⟨rfl, Or.inl rfl, by decide, fun z => ?_⟩
    exfalso
    have z : (-1 : Int) = 0 := z
    omega
  · refine ⟨rfl, Or.inl rfl, by decide, fun z => ?_⟩
    exfalso
    have z : (-1 : Int) = 0 := z
    omega
theorem tkF_u : (fun j : Nat => Int32.ofInt (tkF (j : Int))) = (upd (upd (upd (upd (upd (upd (upd (upd (upd (upd (upd (upd (fun _ => 0) 0 1) 1 2) 2 3) 3 1) 4 0) 5 1) 6 1) 7 2) 8 3) 9 1) 10 0) 11 1) := by
  funext j
  by_cases h : j < 12
  · have k : ∀ j : Nat, j < 12 → Int32.ofInt (tkF (j : Int)) = (upd (upd (upd (upd (upd (upd (upd (upd (upd (upd (upd (upd (fun _ => 0) 0 1) 1 2) 2 3) 3 1) 4 0) 5 1) 6 1) 7 2) 8 3) 9 1) 10 0) 11 1) j := by decide +kernel
    exact k j h
  · unfold tkF
    simp only [upd]
    repeat rw [if_neg (by omega)]
    rfl
theorem rlF_u : (fun j : Nat => Int32.ofInt (rlF (j : Int))) = (upd (upd (upd (fun _ => 0) 0 0) 1 1) 2 0) := by
  funext j
  by_cases h : j < 3
  · have k : ∀ j : Nat, j < 3 → Int32.ofInt (rlF (j : Int)) = (upd (upd (upd (fun _ => 0) 0 0) 1 1) 2 0) j := by decide +kernel
    exact k j h
  · unfold rlF
    simp only [upd]
    repeat rw [if_neg (by omega)]
    rfl
theorem ce_I {ad : Nat → Nat} {cs : Nat → ClassId} {μ : Mem} {k N : Nat} (h : μ.1 k = fun _ => 0) : cellE ad cs μ k (.inr (N, 0)) = zI cs N := by
  simp only [cellE, h]
  rfl
theorem ce_Z {ad : Nat → Nat} {cs : Nat → ClassId} {μ : Mem} {k N : Nat} (h : μ.1 k = fun _ => 0) : cellE ad cs μ k (.inr (N, 2)) = zZ cs N := by
  simp only [cellE, h]
  rfl
theorem ce_L {ad : Nat → Nat} {cs : Nat → ClassId} {μ : Mem} {k N : Nat} (h : μ.2 k = fun _ => 0#64) : cellE ad cs μ k (.inr (N, 1)) = zL cs N := by
  simp only [cellE, h]
  rfl
theorem ce_T {ad : Nat → Nat} {cs : Nat → ClassId} {μ : Mem} {k : Nat} (h : μ.1 k = tkF) : cellE ad cs μ k (.inr (12, 0)) = .inl (cs 0, 12, .inl (upd (upd (upd (upd (upd (upd (upd (upd (upd (upd (upd (upd (fun _ => 0) 0 1) 1 2) 2 3) 3 1) 4 0) 5 1) 6 1) 7 2) 8 3) 9 1) 10 0) 11 1)) := by
  rw [← tkF_u]
  simp only [cellE, h]
  rfl
theorem ce_R {ad : Nat → Nat} {cs : Nat → ClassId} {μ : Mem} {k : Nat} (h : μ.1 k = rlF) : cellE ad cs μ k (.inr (3, 0)) = .inl (cs 0, 3, .inl (upd (upd (upd (fun _ => 0) 0 0) 1 1) 2 0)) := by
  rw [← rlF_u]
  simp only [cellE, h]
  rfl
abbrev aC (t : Nat) (h0 q0 q1 q2 q3 q4 q5 q6 q7 q8 q9 q10 q11 q12 q13 q14 q15 q16 q17 q18 q19 q20 q21 q22 q23 q24 q25 q26 q27 q28 q29 q30 q31 q32 q33 q34 q35 q36 : Nat) : Nat → Nat := fun k => if k = 99 then t else ([h0, q0, q7, q14, q22, q30, q31, q32, q34, q36, q1, q2, q3, q4, q5, q6, q8, q9, q10, q11, q12, q13, q15, q16, q17, q18, q19, q20, q21, q23, q24, q25, q26, q27, q28, q29, q33, q35] : List Nat).getD k 0
abbrev wC (cs : Nat → ClassId) (h0 q0 q1 q2 q3 q4 q5 q6 q7 q8 q9 q10 q11 q12 q13 q14 q15 q16 q17 q18 q19 q20 q21 q22 q23 q24 q25 q26 q27 q28 q29 q30 q31 q32 q33 q34 q35 q36 : Nat) : va_W := [(h0, .inr (5, [.ref q0, .ref q7, .ref q14, .ref q22, .ref q30, .ref q31, .ref q32, .ref q34, .ref q36, .int 0])), (q0, .inr (3, [.ref q1, .ref q2, .ref q3, .ref q4, .ref q5, .ref q6, .int 0, .int 0, .int 0, .int 0, .int 0, .int 0, .int 0])), (q7, .inr (3, [.ref q8, .ref q9, .ref q10, .ref q11, .ref q12, .ref q13, .int 0, .int 0, .int 0, .int 0, .int 0, .int 0, .int 0])), (q14, .inr (4, [.ref q0, .int 0, .ref q15, .ref q16, .ref q17, .ref q18, .ref q19, .ref q20, .ref q21, .int (-1), .int 0])), (q22, .inr (4, [.ref q0, .int 6, .ref q23, .ref q24, .ref q25, .ref q26, .ref q27, .ref q28, .ref q29, .int (-1), .int 0])), (q30, .inr (0, [.ref q0, .ref q14])), (q31, .inr (0, [.ref q0, .ref q22])), (q32, .inr (2, [.ref q0, .ref q14, .ref q33])), (q34, .inr (1, [.ref q0, .ref q35, .int 0, .int 0])), (q36, zI cs 7), (q1, zI cs 12), (q2, .inl (cs 0, 12, .inl (upd (upd (upd (upd (upd (upd (upd (upd (upd (upd (upd (upd (fun _ => 0) 0 1) 1 2) 2 3) 3 1) 4 0) 5 1) 6 1) 7 2) 8 3) 9 1) 10 0) 11 1))), (q3, .inl (cs 0, 3, .inl (upd (upd (upd (fun _ => 0) 0 0) 1 1) 2 0))), (q4, zI cs 300), (q5, zI cs 36), (q6, zI cs 15), (q8, zI cs 12), (q9, .inl (cs 0, 12, .inl (upd (upd (upd (upd (upd (upd (upd (upd (upd (upd (upd (upd (fun _ => 0) 0 1) 1 2) 2 3) 3 1) 4 0) 5 1) 6 1) 7 2) 8 3) 9 1) 10 0) 11 1))), (q10, .inl (cs 0, 3, .inl (upd (upd (upd (fun _ => 0) 0 0) 1 1) 2 0))), (q11, zI cs 300), (q12, zI cs 36), (q13, zI cs 15), (q15, zL cs 156), (q16, zL cs 576), (q17, zI cs 60), (q18, zI cs 49), (q19, zI cs 60), (q20, zL cs 9), (q21, zL cs 9), (q23, zL cs 156), (q24, zL cs 576), (q25, zI cs 60), (q26, zI cs 49), (q27, zI cs 60), (q28, zL cs 9), (q29, zL cs 9), (q33, zL cs 780), (q35, zI cs 80)]
set_option maxHeartbeats 4000000 in
set_option maxRecDepth 100000 in
theorem w0_C (cs : Nat → ClassId) (t h0 q0 q1 q2 q3 q4 q5 q6 q7 q8 q9 q10 q11 q12 q13 q14 q15 q16 q17 q18 q19 q20 q21 q22 q23 q24 q25 q26 q27 q28 q29 q30 q31 q32 q33 q34 q35 q36 : Nat) : wld (aC t h0 q0 q1 q2 q3 q4 q5 q6 q7 q8 q9 q10 q11 q12 q13 q14 q15 q16 q17 q18 q19 q20 q21 q22 q23 q24 q25 q26 q27 q28 q29 q30 q31 q32 q33 q34 q35 q36) cs m0C 0 shC = wC cs h0 q0 q1 q2 q3 q4 q5 q6 q7 q8 q9 q10 q11 q12 q13 q14 q15 q16 q17 q18 q19 q20 q21 q22 q23 q24 q25 q26 q27 q28 q29 q30 q31 q32 q33 q34 q35 q36 := by
  have e0 : cellE (aC t h0 q0 q1 q2 q3 q4 q5 q6 q7 q8 q9 q10 q11 q12 q13 q14 q15 q16 q17 q18 q19 q20 q21 q22 q23 q24 q25 q26 q27 q28 q29 q30 q31 q32 q33 q34 q35 q36) cs m0C 0 (.inl (5, [some 1, some 2, some 3, some 4, some 5, some 6, some 7, some 8, some 9, none])) = .inr (5, [.ref q0, .ref q7, .ref q14, .ref q22, .ref q30, .ref q31, .ref q32, .ref q34, .ref q36, .int 0]) := rfl
  have e1 : cellE (aC t h0 q0 q1 q2 q3 q4 q5 q6 q7 q8 q9 q10 q11 q12 q13 q14 q15 q16 q17 q18 q19 q20 q21 q22 q23 q24 q25 q26 q27 q28 q29 q30 q31 q32 q33 q34 q35 q36) cs m0C 1 (.inl (3, [some 10, some 11, some 12, some 13, some 14, some 15, none, none, none, none, none, none, none])) = .inr (3, [.ref q1, .ref q2, .ref q3, .ref q4, .ref q5, .ref q6, .int 0, .int 0, .int 0, .int 0, .int 0, .int 0, .int 0]) := rfl
  have e2 : cellE (aC t h0 q0 q1 q2 q3 q4 q5 q6 q7 q8 q9 q10 q11 q12 q13 q14 q15 q16 q17 q18 q19 q20 q21 q22 q23 q24 q25 q26 q27 q28 q29 q30 q31 q32 q33 q34 q35 q36) cs m0C 2 (.inl (3, [some 16, some 17, some 18, some 19, some 20, some 21, none, none, none, none, none, none, none])) = .inr (3, [.ref q8, .ref q9, .ref q10, .ref q11, .ref q12, .ref q13, .int 0, .int 0, .int 0, .int 0, .int 0, .int 0, .int 0]) := rfl
  have e3 : cellE (aC t h0 q0 q1 q2 q3 q4 q5 q6 q7 q8 q9 q10 q11 q12 q13 q14 q15 q16 q17 q18 q19 q20 q21 q22 q23 q24 q25 q26 q27 q28 q29 q30 q31 q32 q33 q34 q35 q36) cs m0C 3 (.inl (4, [some 1, none, some 22, some 23, some 24, some 25, some 26, some 27, some 28, none, none])) = .inr (4, [.ref q0, .int 0, .ref q15, .ref q16, .ref q17, .ref q18, .ref q19, .ref q20, .ref q21, .int (-1), .int 0]) := rfl
  have e4 : cellE (aC t h0 q0 q1 q2 q3 q4 q5 q6 q7 q8 q9 q10 q11 q12 q13 q14 q15 q16 q17 q18 q19 q20 q21 q22 q23 q24 q25 q26 q27 q28 q29 q30 q31 q32 q33 q34 q35 q36) cs m0C 4 (.inl (4, [some 1, none, some 29, some 30, some 31, some 32, some 33, some 34, some 35, none, none])) = .inr (4, [.ref q0, .int 6, .ref q23, .ref q24, .ref q25, .ref q26, .ref q27, .ref q28, .ref q29, .int (-1), .int 0]) := rfl
  have e5 : cellE (aC t h0 q0 q1 q2 q3 q4 q5 q6 q7 q8 q9 q10 q11 q12 q13 q14 q15 q16 q17 q18 q19 q20 q21 q22 q23 q24 q25 q26 q27 q28 q29 q30 q31 q32 q33 q34 q35 q36) cs m0C 5 (.inl (0, [some 1, some 3])) = .inr (0, [.ref q0, .ref q14]) := rfl
  have e6 : cellE (aC t h0 q0 q1 q2 q3 q4 q5 q6 q7 q8 q9 q10 q11 q12 q13 q14 q15 q16 q17 q18 q19 q20 q21 q22 q23 q24 q25 q26 q27 q28 q29 q30 q31 q32 q33 q34 q35 q36) cs m0C 6 (.inl (0, [some 1, some 4])) = .inr (0, [.ref q0, .ref q22]) := rfl
  have e7 : cellE (aC t h0 q0 q1 q2 q3 q4 q5 q6 q7 q8 q9 q10 q11 q12 q13 q14 q15 q16 q17 q18 q19 q20 q21 q22 q23 q24 q25 q26 q27 q28 q29 q30 q31 q32 q33 q34 q35 q36) cs m0C 7 (.inl (2, [some 1, some 3, some 36])) = .inr (2, [.ref q0, .ref q14, .ref q33]) := rfl
  have e8 : cellE (aC t h0 q0 q1 q2 q3 q4 q5 q6 q7 q8 q9 q10 q11 q12 q13 q14 q15 q16 q17 q18 q19 q20 q21 q22 q23 q24 q25 q26 q27 q28 q29 q30 q31 q32 q33 q34 q35 q36) cs m0C 8 (.inl (1, [some 1, some 37, none, none])) = .inr (1, [.ref q0, .ref q35, .int 0, .int 0]) := rfl
  have e9 : cellE (aC t h0 q0 q1 q2 q3 q4 q5 q6 q7 q8 q9 q10 q11 q12 q13 q14 q15 q16 q17 q18 q19 q20 q21 q22 q23 q24 q25 q26 q27 q28 q29 q30 q31 q32 q33 q34 q35 q36) cs m0C 9 (.inr (7, 0)) = zI cs 7 := ce_I rfl
  have e10 : cellE (aC t h0 q0 q1 q2 q3 q4 q5 q6 q7 q8 q9 q10 q11 q12 q13 q14 q15 q16 q17 q18 q19 q20 q21 q22 q23 q24 q25 q26 q27 q28 q29 q30 q31 q32 q33 q34 q35 q36) cs m0C 10 (.inr (12, 0)) = zI cs 12 := ce_I rfl
  have e11 : cellE (aC t h0 q0 q1 q2 q3 q4 q5 q6 q7 q8 q9 q10 q11 q12 q13 q14 q15 q16 q17 q18 q19 q20 q21 q22 q23 q24 q25 q26 q27 q28 q29 q30 q31 q32 q33 q34 q35 q36) cs m0C 11 (.inr (12, 0)) = .inl (cs 0, 12, .inl (upd (upd (upd (upd (upd (upd (upd (upd (upd (upd (upd (upd (fun _ => 0) 0 1) 1 2) 2 3) 3 1) 4 0) 5 1) 6 1) 7 2) 8 3) 9 1) 10 0) 11 1)) := ce_T rfl
  have e12 : cellE (aC t h0 q0 q1 q2 q3 q4 q5 q6 q7 q8 q9 q10 q11 q12 q13 q14 q15 q16 q17 q18 q19 q20 q21 q22 q23 q24 q25 q26 q27 q28 q29 q30 q31 q32 q33 q34 q35 q36) cs m0C 12 (.inr (3, 0)) = .inl (cs 0, 3, .inl (upd (upd (upd (fun _ => 0) 0 0) 1 1) 2 0)) := ce_R rfl
  have e13 : cellE (aC t h0 q0 q1 q2 q3 q4 q5 q6 q7 q8 q9 q10 q11 q12 q13 q14 q15 q16 q17 q18 q19 q20 q21 q22 q23 q24 q25 q26 q27 q28 q29 q30 q31 q32 q33 q34 q35 q36) cs m0C 13 (.inr (300, 0)) = zI cs 300 := ce_I rfl
  have e14 : cellE (aC t h0 q0 q1 q2 q3 q4 q5 q6 q7 q8 q9 q10 q11 q12 q13 q14 q15 q16 q17 q18 q19 q20 q21 q22 q23 q24 q25 q26 q27 q28 q29 q30 q31 q32 q33 q34 q35 q36) cs m0C 14 (.inr (36, 0)) = zI cs 36 := ce_I rfl
  have e15 : cellE (aC t h0 q0 q1 q2 q3 q4 q5 q6 q7 q8 q9 q10 q11 q12 q13 q14 q15 q16 q17 q18 q19 q20 q21 q22 q23 q24 q25 q26 q27 q28 q29 q30 q31 q32 q33 q34 q35 q36) cs m0C 15 (.inr (15, 0)) = zI cs 15 := ce_I rfl
  have e16 : cellE (aC t h0 q0 q1 q2 q3 q4 q5 q6 q7 q8 q9 q10 q11 q12 q13 q14 q15 q16 q17 q18 q19 q20 q21 q22 q23 q24 q25 q26 q27 q28 q29 q30 q31 q32 q33 q34 q35 q36) cs m0C 16 (.inr (12, 0)) = zI cs 12 := ce_I rfl
  have e17 : cellE (aC t h0 q0 q1 q2 q3 q4 q5 q6 q7 q8 q9 q10 q11 q12 q13 q14 q15 q16 q17 q18 q19 q20 q21 q22 q23 q24 q25 q26 q27 q28 q29 q30 q31 q32 q33 q34 q35 q36) cs m0C 17 (.inr (12, 0)) = .inl (cs 0, 12, .inl (upd (upd (upd (upd (upd (upd (upd (upd (upd (upd (upd (upd (fun _ => 0) 0 1) 1 2) 2 3) 3 1) 4 0) 5 1) 6 1) 7 2) 8 3) 9 1) 10 0) 11 1)) := ce_T rfl
  have e18 : cellE (aC t h0 q0 q1 q2 q3 q4 q5 q6 q7 q8 q9 q10 q11 q12 q13 q14 q15 q16 q17 q18 q19 q20 q21 q22 q23 q24 q25 q26 q27 q28 q29 q30 q31 q32 q33 q34 q35 q36) cs m0C 18 (.inr (3, 0)) = .inl (cs 0, 3, .inl (upd (upd (upd (fun _ => 0) 0 0) 1 1) 2 0)) := ce_R rfl
  have e19 : cellE (aC t h0 q0 q1 q2 q3 q4 q5 q6 q7 q8 q9 q10 q11 q12 q13 q14 q15 q16 q17 q18 q19 q20 q21 q22 q23 q24 q25 q26 q27 q28 q29 q30 q31 q32 q33 q34 q35 q36) cs m0C 19 (.inr (300, 0)) = zI cs 300 := ce_I rfl
  have e20 : cellE (aC t h0 q0 q1 q2 q3 q4 q5 q6 q7 q8 q9 q10 q11 q12 q13 q14 q15 q16 q17 q18 q19 q20 q21 q22 q23 q24 q25 q26 q27 q28 q29 q30 q31 q32 q33 q34 q35 q36) cs m0C 20 (.inr (36, 0)) = zI cs 36 := ce_I rfl
  have e21 : cellE (aC t h0 q0 q1 q2 q3 q4 q5 q6 q7 q8 q9 q10 q11 q12 q13 q14 q15 q16 q17 q18 q19 q20 q21 q22 q23 q24 q25 q26 q27 q28 q29 q30 q31 q32 q33 q34 q35 q36) cs m0C 21 (.inr (15, 0)) = zI cs 15 := ce_I rfl
  have e22 : cellE (aC t h0 q0 q1 q2 q3 q4 q5 q6 q7 q8 q9 q10 q11 q12 q13 q14 q15 q16 q17 q18 q19 q20 q21 q22 q23 q24 q25 q26 q27 q28 q29 q30 q31 q32 q33 q34 q35 q36) cs m0C 22 (.inr (156, 1)) = zL cs 156 := ce_L rfl
  have e23 : cellE (aC t h0 q0 q1 q2 q3 q4 q5 q6 q7 q8 q9 q10 q11 q12 q13 q14 q15 q16 q17 q18 q19 q20 q21 q22 q23 q24 q25 q26 q27 q28 q29 q30 q31 q32 q33 q34 q35 q36) cs m0C 23 (.inr (576, 1)) = zL cs 576 := ce_L rfl
  have e24 : cellE (aC t h0 q0 q1 q2 q3 q4 q5 q6 q7 q8 q9 q10 q11 q12 q13 q14 q15 q16 q17 q18 q19 q20 q21 q22 q23 q24 q25 q26 q27 q28 q29 q30 q31 q32 q33 q34 q35 q36) cs m0C 24 (.inr (60, 0)) = zI cs 60 := ce_I rfl
  have e25 : cellE (aC t h0 q0 q1 q2 q3 q4 q5 q6 q7 q8 q9 q10 q11 q12 q13 q14 q15 q16 q17 q18 q19 q20 q21 q22 q23 q24 q25 q26 q27 q28 q29 q30 q31 q32 q33 q34 q35 q36) cs m0C 25 (.inr (49, 0)) = zI cs 49 := ce_I rfl
  have e26 : cellE (aC t h0 q0 q1 q2 q3 q4 q5 q6 q7 q8 q9 q10 q11 q12 q13 q14 q15 q16 q17 q18 q19 q20 q21 q22 q23 q24 q25 q26 q27 q28 q29 q30 q31 q32 q33 q34 q35 q36) cs m0C 26 (.inr (60, 0)) = zI cs 60 := ce_I rfl
  have e27 : cellE (aC t h0 q0 q1 q2 q3 q4 q5 q6 q7 q8 q9 q10 q11 q12 q13 q14 q15 q16 q17 q18 q19 q20 q21 q22 q23 q24 q25 q26 q27 q28 q29 q30 q31 q32 q33 q34 q35 q36) cs m0C 27 (.inr (9, 1)) = zL cs 9 := ce_L rfl
  have e28 : cellE (aC t h0 q0 q1 q2 q3 q4 q5 q6 q7 q8 q9 q10 q11 q12 q13 q14 q15 q16 q17 q18 q19 q20 q21 q22 q23 q24 q25 q26 q27 q28 q29 q30 q31 q32 q33 q34 q35 q36) cs m0C 28 (.inr (9, 1)) = zL cs 9 := ce_L rfl
  have e29 : cellE (aC t h0 q0 q1 q2 q3 q4 q5 q6 q7 q8 q9 q10 q11 q12 q13 q14 q15 q16 q17 q18 q19 q20 q21 q22 q23 q24 q25 q26 q27 q28 q29 q30 q31 q32 q33 q34 q35 q36) cs m0C 29 (.inr (156, 1)) = zL cs 156 := ce_L rfl
  have e30 : cellE (aC t h0 q0 q1 q2 q3 q4 q5 q6 q7 q8 q9 q10 q11 q12 q13 q14 q15 q16 q17 q18 q19 q20 q21 q22 q23 q24 q25 q26 q27 q28 q29 q30 q31 q32 q33 q34 q35 q36) cs m0C 30 (.inr (576, 1)) = zL cs 576 := ce_L rfl
  have e31 : cellE (aC t h0 q0 q1 q2 q3 q4 q5 q6 q7 q8 q9 q10 q11 q12 q13 q14 q15 q16 q17 q18 q19 q20 q21 q22 q23 q24 q25 q26 q27 q28 q29 q30 q31 q32 q33 q34 q35 q36) cs m0C 31 (.inr (60, 0)) = zI cs 60 := ce_I rfl
  have e32 : cellE (aC t h0 q0 q1 q2 q3 q4 q5 q6 q7 q8 q9 q10 q11 q12 q13 q14 q15 q16 q17 q18 q19 q20 q21 q22 q23 q24 q25 q26 q27 q28 q29 q30 q31 q32 q33 q34 q35 q36) cs m0C 32 (.inr (49, 0)) = zI cs 49 := ce_I rfl
  have e33 : cellE (aC t h0 q0 q1 q2 q3 q4 q5 q6 q7 q8 q9 q10 q11 q12 q13 q14 q15 q16 q17 q18 q19 q20 q21 q22 q23 q24 q25 q26 q27 q28 q29 q30 q31 q32 q33 q34 q35 q36) cs m0C 33 (.inr (60, 0)) = zI cs 60 := ce_I rfl
  have e34 : cellE (aC t h0 q0 q1 q2 q3 q4 q5 q6 q7 q8 q9 q10 q11 q12 q13 q14 q15 q16 q17 q18 q19 q20 q21 q22 q23 q24 q25 q26 q27 q28 q29 q30 q31 q32 q33 q34 q35 q36) cs m0C 34 (.inr (9, 1)) = zL cs 9 := ce_L rfl
  have e35 : cellE (aC t h0 q0 q1 q2 q3 q4 q5 q6 q7 q8 q9 q10 q11 q12 q13 q14 q15 q16 q17 q18 q19 q20 q21 q22 q23 q24 q25 q26 q27 q28 q29 q30 q31 q32 q33 q34 q35 q36) cs m0C 35 (.inr (9, 1)) = zL cs 9 := ce_L rfl
  have e36 : cellE (aC t h0 q0 q1 q2 q3 q4 q5 q6 q7 q8 q9 q10 q11 q12 q13 q14 q15 q16 q17 q18 q19 q20 q21 q22 q23 q24 q25 q26 q27 q28 q29 q30 q31 q32 q33 q34 q35 q36) cs m0C 36 (.inr (780, 1)) = zL cs 780 := ce_L rfl
  have e37 : cellE (aC t h0 q0 q1 q2 q3 q4 q5 q6 q7 q8 q9 q10 q11 q12 q13 q14 q15 q16 q17 q18 q19 q20 q21 q22 q23 q24 q25 q26 q27 q28 q29 q30 q31 q32 q33 q34 q35 q36) cs m0C 37 (.inr (80, 0)) = zI cs 80 := ce_I rfl
  show [(aC t h0 q0 q1 q2 q3 q4 q5 q6 q7 q8 q9 q10 q11 q12 q13 q14 q15 q16 q17 q18 q19 q20 q21 q22 q23 q24 q25 q26 q27 q28 q29 q30 q31 q32 q33 q34 q35 q36 0, cellE (aC t h0 q0 q1 q2 q3 q4 q5 q6 q7 q8 q9 q10 q11 q12 q13 q14 q15 q16 q17 q18 q19 q20 q21 q22 q23 q24 q25 q26 q27 q28 q29 q30 q31 q32 q33 q34 q35 q36) cs m0C 0 (.inl (5, [some 1, some 2, some 3, some 4, some 5, some 6, some 7, some 8, some 9, none]))), (aC t h0 q0 q1 q2 q3 q4 q5 q6 q7 q8 q9 q10 q11 q12 q13 q14 q15 q16 q17 q18 q19 q20 q21 q22 q23 q24 q25 q26 q27 q28 q29 q30 q31 q32 q33 q34 q35 q36 1, cellE (aC t h0 q0 q1 q2 q3 q4 q5 q6 q7 q8 q9 q10 q11 q12 q13 q14 q15 q16 q17 q18 q19 q20 q21 q22 q23 q24 q25 q26 q27 q28 q29 q30 q31 q32 q33 q34 q35 q36) cs m0C 1 (.inl (3, [some 10, some 11, some 12, some 13, some 14, some 15, none, none, none, none, none, none, none]))), (aC t h0 q0 q1 q2 q3 q4 q5 q6 q7 q8 q9 q10 q11 q12 q13 q14 q15 q16 q17 q18 q19 q20 q21 q22 q23 q24 q25 q26 q27 q28 q29 q30 q31 q32 q33 q34 q35 q36 2, cellE (aC t h0 q0 q1 q2 q3 q4 q5 q6 q7 q8 q9 q10 q11 q12 q13 q14 q15 q16 q17 q18 q19 q20 q21 q22 q23 q24 q25 q26 q27 q28 q29 q30 q31 q32 q33 q34 q35 q36) cs m0C 2 (.inl (3, [some 16, some 17, some 18, some 19, some 20, some 21, none, none, none, none, none, none, none]))), (aC t h0 q0 q1 q2 q3 q4 q5 q6 q7 q8 q9 q10 q11 q12 q13 q14 q15 q16 q17 q18 q19 q20 q21 q22 q23 q24 q25 q26 q27 q28 q29 q30 q31 q32 q33 q34 q35 q36 3, cellE (aC t h0 q0 q1 q2 q3 q4 q5 q6 q7 q8 q9 q10 q11 q12 q13 q14 q15 q16 q17 q18 q19 q20 q21 q22 q23 q24 q25 q26 q27 q28 q29 q30 q31 q32 q33 q34 q35 q36) cs m0C 3 (.inl (4, [some 1, none, some 22, some 23, some 24, some 25, some 26, some 27, some 28, none, none]))), (aC t h0 q0 q1 q2 q3 q4 q5 q6 q7 q8 q9 q10 q11 q12 q13 q14 q15 q16 q17 q18 q19 q20 q21 q22 q23 q24 q25 q26 q27 q28 q29 q30 q31 q32 q33 q34 q35 q36 4, cellE (aC t h0 q0 q1 q2 q3 q4 q5 q6 q7 q8 q9 q10 q11 q12 q13 q14 q15 q16 q17 q18 q19 q20 q21 q22 q23 q24 q25 q26 q27 q28 q29 q30 q31 q32 q33 q34 q35 q36) cs m0C 4 (.inl (4, [some 1, none, some 29, some 30, some 31, some 32, some 33, some 34, some 35, none, none]))), (aC t h0 q0 q1 q2 q3 q4 q5 q6 q7 q8 q9 q10 q11 q12 q13 q14 q15 q16 q17 q18 q19 q20 q21 q22 q23 q24 q25 q26 q27 q28 q29 q30 q31 q32 q33 q34 q35 q36 5, cellE (aC t h0 q0 q1 q2 q3 q4 q5 q6 q7 q8 q9 q10 q11 q12 q13 q14 q15 q16 q17 q18 q19 q20 q21 q22 q23 q24 q25 q26 q27 q28 q29 q30 q31 q32 q33 q34 q35 q36) cs m0C 5 (.inl (0, [some 1, some 3]))), (aC t h0 q0 q1 q2 q3 q4 q5 q6 q7 q8 q9 q10 q11 q12 q13 q14 q15 q16 q17 q18 q19 q20 q21 q22 q23 q24 q25 q26 q27 q28 q29 q30 q31 q32 q33 q34 q35 q36 6, cellE (aC t h0 q0 q1 q2 q3 q4 q5 q6 q7 q8 q9 q10 q11 q12 q13 q14 q15 q16 q17 q18 q19 q20 q21 q22 q23 q24 q25 q26 q27 q28 q29 q30 q31 q32 q33 q34 q35 q36) cs m0C 6 (.inl (0, [some 1, some 4]))), (aC t h0 q0 q1 q2 q3 q4 q5 q6 q7 q8 q9 q10 q11 q12 q13 q14 q15 q16 q17 q18 q19 q20 q21 q22 q23 q24 q25 q26 q27 q28 q29 q30 q31 q32 q33 q34 q35 q36 7, cellE (aC t h0 q0 q1 q2 q3 q4 q5 q6 q7 q8 q9 q10 q11 q12 q13 q14 q15 q16 q17 q18 q19 q20 q21 q22 q23 q24 q25 q26 q27 q28 q29 q30 q31 q32 q33 q34 q35 q36) cs m0C 7 (.inl (2, [some 1, some 3, some 36]))), (aC t h0 q0 q1 q2 q3 q4 q5 q6 q7 q8 q9 q10 q11 q12 q13 q14 q15 q16 q17 q18 q19 q20 q21 q22 q23 q24 q25 q26 q27 q28 q29 q30 q31 q32 q33 q34 q35 q36 8, cellE (aC t h0 q0 q1 q2 q3 q4 q5 q6 q7 q8 q9 q10 q11 q12 q13 q14 q15 q16 q17 q18 q19 q20 q21 q22 q23 q24 q25 q26 q27 q28 q29 q30 q31 q32 q33 q34 q35 q36) cs m0C 8 (.inl (1, [some 1, some 37, none, none]))), (aC t h0 q0 q1 q2 q3 q4 q5 q6 q7 q8 q9 q10 q11 q12 q13 q14 q15 q16 q17 q18 q19 q20 q21 q22 q23 q24 q25 q26 q27 q28 q29 q30 q31 q32 q33 q34 q35 q36 9, cellE (aC t h0 q0 q1 q2 q3 q4 q5 q6 q7 q8 q9 q10 q11 q12 q13 q14 q15 q16 q17 q18 q19 q20 q21 q22 q23 q24 q25 q26 q27 q28 q29 q30 q31 q32 q33 q34 q35 q36) cs m0C 9 (.inr (7, 0))), (aC t h0 q0 q1 q2 q3 q4 q5 q6 q7 q8 q9 q10 q11 q12 q13 q14 q15 q16 q17 q18 q19 q20 q21 q22 q23 q24 q25 q26 q27 q28 q29 q30 q31 q32 q33 q34 q35 q36 10, cellE (aC t h0 q0 q1 q2 q3 q4 q5 q6 q7 q8 q9 q10 q11 q12 q13 q14 q15 q16 q17 q18 q19 q20 q21 q22 q23 q24 q25 q26 q27 q28 q29 q30 q31 q32 q33 q34 q35 q36) cs m0C 10 (.inr (12, 0))), (aC t h0 q0 q1 q2 q3 q4 q5 q6 q7 q8 q9 q10 q11 q12 q13 q14 q15 q16 q17 q18 q19 q20 q21 q22 q23 q24 q25 q26 q27 q28 q29 q30 q31 q32 q33 q34 q35 q36 11, cellE (aC t h0 q0 q1 q2 q3 q4 q5 q6 q7 q8 q9 q10 q11 q12 q13 q14 q15 q16 q17 q18 q19 q20 q21 q22 q23 q24 q25 q26 q27 q28 q29 q30 q31 q32 q33 q34 q35 q36) cs m0C 11 (.inr (12, 0))), (aC t h0 q0 q1 q2 q3 q4 q5 q6 q7 q8 q9 q10 q11 q12 q13 q14 q15 q16 q17 q18 q19 q20 q21 q22 q23 q24 q25 q26 q27 q28 q29 q30 q31 q32 q33 q34 q35 q36 12, cellE (aC t h0 q0 q1 q2 q3 q4 q5 q6 q7 q8 q9 q10 q11 q12 q13 q14 q15 q16 q17 q18 q19 q20 q21 q22 q23 q24 q25 q26 q27 q28 q29 q30 q31 q32 q33 q34 q35 q36) cs m0C 12 (.inr (3, 0))), (aC t h0 q0 q1 q2 q3 q4 q5 q6 q7 q8 q9 q10 q11 q12 q13 q14 q15 q16 q17 q18 q19 q20 q21 q22 q23 q24 q25 q26 q27 q28 q29 q30 q31 q32 q33 q34 q35 q36 13, cellE (aC t h0 q0 q1 q2 q3 q4 q5 q6 q7 q8 q9 q10 q11 q12 q13 q14 q15 q16 q17 q18 q19 q20 q21 q22 q23 q24 q25 q26 q27 q28 q29 q30 q31 q32 q33 q34 q35 q36) cs m0C 13 (.inr (300, 0))), (aC t h0 q0 q1 q2 q3 q4 q5 q6 q7 q8 q9 q10 q11 q12 q13 q14 q15 q16 q17 q18 q19 q20 q21 q22 q23 q24 q25 q26 q27 q28 q29 q30 q31 q32 q33 q34 q35 q36 14, cellE (aC t h0 q0 q1 q2 q3 q4 q5 q6 q7 q8 q9 q10 q11 q12 q13 q14 q15 q16 q17 q18 q19 q20 q21 q22 q23 q24 q25 q26 q27 q28 q29 q30 q31 q32 q33 q34 q35 q36) cs m0C 14 (.inr (36, 0))), (aC t h0 q0 q1 q2 q3 q4 q5 q6 q7 q8 q9 q10 q11 q12 q13 q14 q15 q16 q17 q18 q19 q20 q21 q22 q23 q24 q25 q26 q27 q28 q29 q30 q31 q32 q33 q34 q35 q36 15, cellE (aC t h0 q0 q1 q2 q3 q4 q5 q6 q7 q8 q9 q10 q11 q12 q13 q14 q15 q16 q17 q18 q19 q20 q21 q22 q23 q24 q25 q26 q27 q28 q29 q30 q31 q32 q33 q34 q35 q36) cs m0C 15 (.inr (15, 0))), (aC t h0 q0 q1 q2 q3 q4 q5 q6 q7 q8 q9 q10 q11 q12 q13 q14 q15 q16 q17 q18 q19 q20 q21 q22 q23 q24 q25 q26 q27 q28 q29 q30 q31 q32 q33 q34 q35 q36 16, cellE (aC t h0 q0 q1 q2 q3 q4 q5 q6 q7 q8 q9 q10 q11 q12 q13 q14 q15 q16 q17 q18 q19 q20 q21 q22 q23 q24 q25 q26 q27 q28 q29 q30 q31 q32 q33 q34 q35 q36) cs m0C 16 (.inr (12, 0))), (aC t h0 q0 q1 q2 q3 q4 q5 q6 q7 q8 q9 q10 q11 q12 q13 q14 q15 q16 q17 q18 q19 q20 q21 q22 q23 q24 q25 q26 q27 q28 q29 q30 q31 q32 q33 q34 q35 q36 17, cellE (aC t h0 q0 q1 q2 q3 q4 q5 q6 q7 q8 q9 q10 q11 q12 q13 q14 q15 q16 q17 q18 q19 q20 q21 q22 q23 q24 q25 q26 q27 q28 q29 q30 q31 q32 q33 q34 q35 q36) cs m0C 17 (.inr (12, 0))), (aC t h0 q0 q1 q2 q3 q4 q5 q6 q7 q8 q9 q10 q11 q12 q13 q14 q15 q16 q17 q18 q19 q20 q21 q22 q23 q24 q25 q26 q27 q28 q29 q30 q31 q32 q33 q34 q35 q36 18, cellE (aC t h0 q0 q1 q2 q3 q4 q5 q6 q7 q8 q9 q10 q11 q12 q13 q14 q15 q16 q17 q18 q19 q20 q21 q22 q23 q24 q25 q26 q27 q28 q29 q30 q31 q32 q33 q34 q35 q36) cs m0C 18 (.inr (3, 0))), (aC t h0 q0 q1 q2 q3 q4 q5 q6 q7 q8 q9 q10 q11 q12 q13 q14 q15 q16 q17 q18 q19 q20 q21 q22 q23 q24 q25 q26 q27 q28 q29 q30 q31 q32 q33 q34 q35 q36 19, cellE (aC t h0 q0 q1 q2 q3 q4 q5 q6 q7 q8 q9 q10 q11 q12 q13 q14 q15 q16 q17 q18 q19 q20 q21 q22 q23 q24 q25 q26 q27 q28 q29 q30 q31 q32 q33 q34 q35 q36) cs m0C 19 (.inr (300, 0))), (aC t h0 q0 q1 q2 q3 q4 q5 q6 q7 q8 q9 q10 q11 q12 q13 q14 q15 q16 q17 q18 q19 q20 q21 q22 q23 q24 q25 q26 q27 q28 q29 q30 q31 q32 q33 q34 q35 q36 20, cellE (aC t h0 q0 q1 q2 q3 q4 q5 q6 q7 q8 q9 q10 q11 q12 q13 q14 q15 q16 q17 q18 q19 q20 q21 q22 q23 q24 q25 q26 q27 q28 q29 q30 q31 q32 q33 q34 q35 q36) cs m0C 20 (.inr (36, 0))), (aC t h0 q0 q1 q2 q3 q4 q5 q6 q7 q8 q9 q10 q11 q12 q13 q14 q15 q16 q17 q18 q19 q20 q21 q22 q23 q24 q25 q26 q27 q28 q29 q30 q31 q32 q33 q34 q35 q36 21, cellE (aC t h0 q0 q1 q2 q3 q4 q5 q6 q7 q8 q9 q10 q11 q12 q13 q14 q15 q16 q17 q18 q19 q20 q21 q22 q23 q24 q25 q26 q27 q28 q29 q30 q31 q32 q33 q34 q35 q36) cs m0C 21 (.inr (15, 0))), (aC t h0 q0 q1 q2 q3 q4 q5 q6 q7 q8 q9 q10 q11 q12 q13 q14 q15 q16 q17 q18 q19 q20 q21 q22 q23 q24 q25 q26 q27 q28 q29 q30 q31 q32 q33 q34 q35 q36 22, cellE (aC t h0 q0 q1 q2 q3 q4 q5 q6 q7 q8 q9 q10 q11 q12 q13 q14 q15 q16 q17 q18 q19 q20 q21 q22 q23 q24 q25 q26 q27 q28 q29 q30 q31 q32 q33 q34 q35 q36) cs m0C 22 (.inr (156, 1))), (aC t h0 q0 q1 q2 q3 q4 q5 q6 q7 q8 q9 q10 q11 q12 q13 q14 q15 q16 q17 q18 q19 q20 q21 q22 q23 q24 q25 q26 q27 q28 q29 q30 q31 q32 q33 q34 q35 q36 23, cellE (aC t h0 q0 q1 q2 q3 q4 q5 q6 q7 q8 q9 q10 q11 q12 q13 q14 q15 q16 q17 q18 q19 q20 q21 q22 q23 q24 q25 q26 q27 q28 q29 q30 q31 q32 q33 q34 q35 q36) cs m0C 23 (.inr (576, 1))), (aC t h0 q0 q1 q2 q3 q4 q5 q6 q7 q8 q9 q10 q11 q12 q13 q14 q15 q16 q17 q18 q19 q20 q21 q22 q23 q24 q25 q26 q27 q28 q29 q30 q31 q32 q33 q34 q35 q36 24, cellE (aC t h0 q0 q1 q2 q3 q4 q5 q6 q7 q8 q9 q10 q11 q12 q13 q14 q15 q16 q17 q18 q19 q20 q21 q22 q23 q24 q25 q26 q27 q28 q29 q30 q31 q32 q33 q34 q35 q36) cs m0C 24 (.inr (60, 0))), (aC t h0 q0 q1 q2 q3 q4 q5 q6 q7 q8 q9 q10 q11 q12 q13 q14 q15 q16 q17 q18 q19 q20 q21 q22 q23 q24 q25 q26 q27 q28 q29 q30 q31 q32 q33 q34 q35 q36 25, cellE (aC t h0 q0 q1 q2 q3 q4 q5 q6 q7 q8 q9 q10 q11 q12 q13 q14 q15 q16 q17 q18 q19 q20 q21 q22 q23 q24 q25 q26 q27 q28 q29 q30 q31 q32 q33 q34 q35 q36) cs m0C 25 (.inr (49, 0))), (aC t h0 q0 q1 q2 q3 q4 q5 q6 q7 q8 q9 q10 q11 q12 q13 q14 q15 q16 q17 q18 q19 q20 q21 q22 q23 q24 q25 q26 q27 q28 q29 q30 q31 q32 q33 q34 q35 q36 26, cellE (aC t h0 q0 q1 q2 q3 q4 q5 q6 q7 q8 q9 q10 q11 q12 q13 q14 q15 q16 q17 q18 q19 q20 q21 q22 q23 q24 q25 q26 q27 q28 q29 q30 q31 q32 q33 q34 q35 q36) cs m0C 26 (.inr (60, 0))), (aC t h0 q0 q1 q2 q3 q4 q5 q6 q7 q8 q9 q10 q11 q12 q13 q14 q15 q16 q17 q18 q19 q20 q21 q22 q23 q24 q25 q26 q27 q28 q29 q30 q31 q32 q33 q34 q35 q36 27, cellE (aC t h0 q0 q1 q2 q3 q4 q5 q6 q7 q8 q9 q10 q11 q12 q13 q14 q15 q16 q17 q18 q19 q20 q21 q22 q23 q24 q25 q26 q27 q28 q29 q30 q31 q32 q33 q34 q35 q36) cs m0C 27 (.inr (9, 1))), (aC t h0 q0 q1 q2 q3 q4 q5 q6 q7 q8 q9 q10 q11 q12 q13 q14 q15 q16 q17 q18 q19 q20 q21 q22 q23 q24 q25 q26 q27 q28 q29 q30 q31 q32 q33 q34 q35 q36 28, cellE (aC t h0 q0 q1 q2 q3 q4 q5 q6 q7 q8 q9 q10 q11 q12 q13 q14 q15 q16 q17 q18 q19 q20 q21 q22 q23 q24 q25 q26 q27 q28 q29 q30 q31 q32 q33 q34 q35 q36) cs m0C 28 (.inr (9, 1))), (aC t h0 q0 q1 q2 q3 q4 q5 q6 q7 q8 q9 q10 q11 q12 q13 q14 q15 q16 q17 q18 q19 q20 q21 q22 q23 q24 q25 q26 q27 q28 q29 q30 q31 q32 q33 q34 q35 q36 29, cellE (aC t h0 q0 q1 q2 q3 q4 q5 q6 q7 q8 q9 q10 q11 q12 q13 q14 q15 q16 q17 q18 q19 q20 q21 q22 q23 q24 q25 q26 q27 q28 q29 q30 q31 q32 q33 q34 q35 q36) cs m0C 29 (.inr (156, 1))), (aC t h0 q0 q1 q2 q3 q4 q5 q6 q7 q8 q9 q10 q11 q12 q13 q14 q15 q16 q17 q18 q19 q20 q21 q22 q23 q24 q25 q26 q27 q28 q29 q30 q31 q32 q33 q34 q35 q36 30, cellE (aC t h0 q0 q1 q2 q3 q4 q5 q6 q7 q8 q9 q10 q11 q12 q13 q14 q15 q16 q17 q18 q19 q20 q21 q22 q23 q24 q25 q26 q27 q28 q29 q30 q31 q32 q33 q34 q35 q36) cs m0C 30 (.inr (576, 1))), (aC t h0 q0 q1 q2 q3 q4 q5 q6 q7 q8 q9 q10 q11 q12 q13 q14 q15 q16 q17 q18 q19 q20 q21 q22 q23 q24 q25 q26 q27 q28 q29 q30 q31 q32 q33 q34 q35 q36 31, cellE (aC t h0 q0 q1 q2 q3 q4 q5 q6 q7 q8 q9 q10 q11 q12 q13 q14 q15 q16 q17 q18 q19 q20 q21 q22 q23 q24 q25 q26 q27 q28 q29 q30 q31 q32 q33 q34 q35 q36) cs m0C 31 (.inr (60, 0))), (aC t h0 q0 q1 q2 q3 q4 q5 q6 q7 q8 q9 q10 q11 q12 q13 q14 q15 q16 q17 q18 q19 q20 q21 q22 q23 q24 q25 q26 q27 q28 q29 q30 q31 q32 q33 q34 q35 q36 32, cellE (aC t h0 q0 q1 q2 q3 q4 q5 q6 q7 q8 q9 q10 q11 q12 q13 q14 q15 q16 q17 q18 q19 q20 q21 q22 q23 q24 q25 q26 q27 q28 q29 q30 q31 q32 q33 q34 q35 q36) cs m0C 32 (.inr (49, 0))), (aC t h0 q0 q1 q2 q3 q4 q5 q6 q7 q8 q9 q10 q11 q12 q13 q14 q15 q16 q17 q18 q19 q20 q21 q22 q23 q24 q25 q26 q27 q28 q29 q30 q31 q32 q33 q34 q35 q36 33, cellE (aC t h0 q0 q1 q2 q3 q4 q5 q6 q7 q8 q9 q10 q11 q12 q13 q14 q15 q16 q17 q18 q19 q20 q21 q22 q23 q24 q25 q26 q27 q28 q29 q30 q31 q32 q33 q34 q35 q36) cs m0C 33 (.inr (60, 0))), (aC t h0 q0 q1 q2 q3 q4 q5 q6 q7 q8 q9 q10 q11 q12 q13 q14 q15 q16 q17 q18 q19 q20 q21 q22 q23 q24 q25 q26 q27 q28 q29 q30 q31 q32 q33 q34 q35 q36 34, cellE (aC t h0 q0 q1 q2 q3 q4 q5 q6 q7 q8 q9 q10 q11 q12 q13 q14 q15 q16 q17 q18 q19 q20 q21 q22 q23 q24 q25 q26 q27 q28 q29 q30 q31 q32 q33 q34 q35 q36) cs m0C 34 (.inr (9, 1))), (aC t h0 q0 q1 q2 q3 q4 q5 q6 q7 q8 q9 q10 q11 q12 q13 q14 q15 q16 q17 q18 q19 q20 q21 q22 q23 q24 q25 q26 q27 q28 q29 q30 q31 q32 q33 q34 q35 q36 35, cellE (aC t h0 q0 q1 q2 q3 q4 q5 q6 q7 q8 q9 q10 q11 q12 q13 q14 q15 q16 q17 q18 q19 q20 q21 q22 q23 q24 q25 q26 q27 q28 q29 q30 q31 q32 q33 q34 q35 q36) cs m0C 35 (.inr (9, 1))), (aC t h0 q0 q1 q2 q3 q4 q5 q6 q7 q8 q9 q10 q11 q12 q13 q14 q15 q16 q17 q18 q19 q20 q21 q22 q23 q24 q25 q26 q27 q28 q29 q30 q31 q32 q33 q34 q35 q36 36, cellE (aC t h0 q0 q1 q2 q3 q4 q5 q6 q7 q8 q9 q10 q11 q12 q13 q14 q15 q16 q17 q18 q19 q20 q21 q22 q23 q24 q25 q26 q27 q28 q29 q30 q31 q32 q33 q34 q35 q36) cs m0C 36 (.inr (780, 1))), (aC t h0 q0 q1 q2 q3 q4 q5 q6 q7 q8 q9 q10 q11 q12 q13 q14 q15 q16 q17 q18 q19 q20 q21 q22 q23 q24 q25 q26 q27 q28 q29 q30 q31 q32 q33 q34 q35 q36 37, cellE (aC t h0 q0 q1 q2 q3 q4 q5 q6 q7 q8 q9 q10 q11 q12 q13 q14 q15 q16 q17 q18 q19 q20 q21 q22 q23 q24 q25 q26 q27 q28 q29 q30 q31 q32 q33 q34 q35 q36) cs m0C 37 (.inr (80, 0)))] = _
  rw [e0, e1, e2, e3, e4, e5, e6, e7, e8, e9, e10, e11, e12, e13, e14, e15, e16, e17, e18, e19, e20, e21, e22, e23, e24, e25, e26, e27, e28, e29, e30, e31, e32, e33, e34, e35, e36, e37]
  rfl
abbrev aM (t : Nat) (h0 q0 q1 q2 q3 q4 q5 q6 q7 q8 q9 q10 q11 q12 q13 q14 q15 q16 q17 q18 q19 q20 q21 q22 q23 q24 q25 q26 q27 q28 q29 : Nat) : Nat → Nat := fun k => if k = 99 then t else ([h0, q0, q1, q2, q3, q4, q5, q6, q7, q8, q9, q10, q11, q12, q13, q14, q15, q16, q17, q18, q19, q20, q21, q22, q23, q24, q25, q26, q27, q28, q29] : List Nat).getD k 0
abbrev wM (cs : Nat → ClassId) (h0 q0 q1 q2 q3 q4 q5 q6 q7 q8 q9 q10 q11 q12 q13 q14 q15 q16 q17 q18 q19 q20 q21 q22 q23 q24 q25 q26 q27 q28 q29 : Nat) : va_W := [(h0, .inr (6, [.ref q0, .ref q1, .ref q2, .ref q3, .ref q4, .ref q5, .ref q6, .ref q7, .ref q8, .ref q9, .ref q10, .int 0, .int 0, .ref q11, .int 0, .int 0, .int 0, .ref q12, .ref q13, .ref q14, .ref q15, .ref q16, .ref q17, .ref q18, .int 0, .int 0, .ref q19, .ref q20, .ref q21, .ref q22, .int 0, .int 0, .ref q23, .ref q24, .ref q25, .ref q26, .ref q27, .int 0, .ref q28, .ref q29, .int 0, .int 0, .int 0])), (q0, zI cs 7), (q1, zI cs 12), (q2, zI cs 12), (q3, zI cs 12), (q4, .inl (cs 0, 12, .inl (upd (upd (upd (upd (upd (upd (upd (upd (upd (upd (upd (upd (fun _ => 0) 0 1) 1 2) 2 3) 3 1) 4 0) 5 1) 6 1) 7 2) 8 3) 9 1) 10 0) 11 1))), (q5, .inl (cs 0, 3, .inl (upd (upd (upd (fun _ => 0) 0 0) 1 1) 2 0))), (q6, zI cs 60), (q7, zI cs 60), (q8, zI cs 60), (q9, zI cs 60), (q10, zI cs 60), (q11, zI cs 80), (q12, zI cs 12), (q13, zI cs 12), (q14, zI cs 60), (q15, zZ cs 12), (q16, zZ cs 12), (q17, zZ cs 12), (q18, zZ cs 12), (q19, zI cs 12), (q20, zI cs 12), (q21, zI cs 12), (q22, zZ cs 64), (q23, zI cs 64), (q24, zI cs 5), (q25, zI cs 5), (q26, zI cs 5), (q27, zI cs 5), (q28, zI cs 12), (q29, zI cs 500)]
set_option maxHeartbeats 4000000 in
set_option maxRecDepth 100000 in
theorem w0_M (cs : Nat → ClassId) (t h0 q0 q1 q2 q3 q4 q5 q6 q7 q8 q9 q10 q11 q12 q13 q14 q15 q16 q17 q18 q19 q20 q21 q22 q23 q24 q25 q26 q27 q28 q29 : Nat) : wld (aM t h0 q0 q1 q2 q3 q4 q5 q6 q7 q8 q9 q10 q11 q12 q13 q14 q15 q16 q17 q18 q19 q20 q21 q22 q23 q24 q25 q26 q27 q28 q29) cs m0M 0 shM = wM cs h0 q0 q1 q2 q3 q4 q5 q6 q7 q8 q9 q10 q11 q12 q13 q14 q15 q16 q17 q18 q19 q20 q21 q22 q23 q24 q25 q26 q27 q28 q29 := by
  have e0 : cellE (aM t h0 q0 q1 q2 q3 q4 q5 q6 q7 q8 q9 q10 q11 q12 q13 q14 q15 q16 q17 q18 q19 q20 q21 q22 q23 q24 q25 q26 q27 q28 q29) cs m0M 0 (.inl (6, [some 1, some 2, some 3, some 4, some 5, some 6, some 7, some 8, some 9, some 10, some 11, none, none, some 12, none, none, none, some 13, some 14, some 15, some 16, some 17, some 18, some 19, none, none, some 20, some 21, some 22, some 23, none, none, some 24, some 25, some 26, some 27, some 28, none, some 29, some 30, none, none, none])) = .inr (6, [.ref q0, .ref q1, .ref q2, .ref q3, .ref q4, .ref q5, .ref q6, .ref q7, .ref q8, .ref q9, .ref q10, .int 0, .int 0, .ref q11, .int 0, .int 0, .int 0, .ref q12, .ref q13, .ref q14, .ref q15, .ref q16, .ref q17, .ref q18, .int 0, .int 0, .ref q19, .ref q20, .ref q21, .ref q22, .int 0, .int 0, .ref q23, .ref q24, .ref q25, .ref q26, .ref q27, .int 0, .ref q28, .ref q29, .int 0, .int 0, .int 0]) := rfl
  have e1 : cellE (aM t h0 q0 q1 q2 q3 q4 q5 q6 q7 q8 q9 q10 q11 q12 q13 q14 q15 q16 q17 q18 q19 q20 q21 q22 q23 q24 q25 q26 q27 q28 q29) cs m0M 1 (.inr (7, 0)) = zI cs 7 := ce_I rfl
  have e2 : cellE (aM t h0 q0 q1 q2 q3 q4 q5 q6 q7 q8 q9 q10 q11 q12 q13 q14 q15 q16 q17 q18 q19 q20 q21 q22 q23 q24 q25 q26 q27 q28 q29) cs m0M 2 (.inr (12, 0)) = zI cs 12 := ce_I rfl
  have e3 : cellE (aM t h0 q0 q1 q2 q3 q4 q5 q6 q7 q8 q9 q10 q11 q12 q13 q14 q15 q16 q17 q18 q19 q20 q21 q22 q23 q24 q25 q26 q27 q28 q29) cs m0M 3 (.inr (12, 0)) = zI cs 12 := ce_I rfl
  have e4 : cellE (aM t h0 q0 q1 q2 q3 q4 q5 q6 q7 q8 q9 q10 q11 q12 q13 q14 q15 q16 q17 q18 q19 q20 q21 q22 q23 q24 q25 q26 q27 q28 q29) cs m0M 4 (.inr (12, 0)) = zI cs 12 := ce_I rfl
  have e5 : cellE (aM t h0 q0 q1 q2 q3 q4 q5 q6 q7 q8 q9 q10 q11 q12 q13 q14 q15 q16 q17 q18 q19 q20 q21 q22 q23 q24 q25 q26 q27 q28 q29) cs m0M 5 (.inr (12, 0)) = .inl (cs 0, 12, .inl (upd (upd (upd (upd (upd (upd (upd (upd (upd (upd (upd (upd (fun _ => 0) 0 1) 1 2) 2 3) 3 1) 4 0) 5 1) 6 1) 7 2) 8 3) 9 1) 10 0) 11 1)) := ce_T rfl
  have e6 : cellE (aM t h0 q0 q1 q2 q3 q4 q5 q6 q7 q8 q9 q10 q11 q12 q13 q14 q15 q16 q17 q18 q19 q20 q21 q22 q23 q24 q25 q26 q27 q28 q29) cs m0M 6 (.inr (3, 0)) = .inl (cs 0, 3, .inl (upd (upd (upd (fun _ => 0) 0 0) 1 1) 2 0)) := ce_R rfl
  have e7 : cellE (aM t h0 q0 q1 q2 q3 q4 q5 q6 q7 q8 q9 q10 q11 q12 q13 q14 q15 q16 q17 q18 q19 q20 q21 q22 q23 q24 q25 q26 q27 q28 q29) cs m0M 7 (.inr (60, 0)) = zI cs 60 := ce_I rfl
  have e8 : cellE (aM t h0 q0 q1 q2 q3 q4 q5 q6 q7 q8 q9 q10 q11 q12 q13 q14 q15 q16 q17 q18 q19 q20 q21 q22 q23 q24 q25 q26 q27 q28 q29) cs m0M 8 (.inr (60, 0)) = zI cs 60 := ce_I rfl
  have e9 : cellE (aM t h0 q0 q1 q2 q3 q4 q5 q6 q7 q8 q9 q10 q11 q12 q13 q14 q15 q16 q17 q18 q19 q20 q21 q22 q23 q24 q25 q26 q27 q28 q29) cs m0M 9 (.inr (60, 0)) = zI cs 60 := ce_I rfl
  have e10 : cellE (aM t h0 q0 q1 q2 q3 q4 q5 q6 q7 q8 q9 q10 q11 q12 q13 q14 q15 q16 q17 q18 q19 q20 q21 q22 q23 q24 q25 q26 q27 q28 q29) cs m0M 10 (.inr (60, 0)) = zI cs 60 := ce_I rfl
  have e11 : cellE (aM t h0 q0 q1 q2 q3 q4 q5 q6 q7 q8 q9 q10 q11 q12 q13 q14 q15 q16 q17 q18 q19 q20 q21 q22 q23 q24 q25 q26 q27 q28 q29) cs m0M 11 (.inr (60, 0)) = zI cs 60 := ce_I rfl
  have e12 : cellE (aM t h0 q0 q1 q2 q3 q4 q5 q6 q7 q8 q9 q10 q11 q12 q13 q14 q15 q16 q17 q18 q19 q20 q21 q22 q23 q24 q25 q26 q27 q28 q29) cs m0M 12 (.inr (80, 0)) = zI cs 80 := ce_I rfl
  have e13 : cellE (aM t h0 q0 q1 q2 q3 q4 q5 q6 q7 q8 q9 q10 q11 q12 q13 q14 q15 q16 q17 q18 q19 q20 q21 q22 q23 q24 q25 q26 q27 q28 q29) cs m0M 13 (.inr (12, 0)) = zI cs 12 := ce_I rfl
  have e14 : cellE (aM t h0 q0 q1 q2 q3 q4 q5 q6 q7 q8 q9 q10 q11 q12 q13 q14 q15 q16 q17 q18 q19 q20 q21 q22 q23 q24 q25 q26 q27 q28 q29) cs m0M 14 (.inr (12, 0)) = zI cs 12 := ce_I rfl
  have e15 : cellE (aM t h0 q0 q1 q2 q3 q4 q5 q6 q7 q8 q9 q10 q11 q12 q13 q14 q15 q16 q17 q18 q19 q20 q21 q22 q23 q24 q25 q26 q27 q28 q29) cs m0M 15 (.inr (60, 0)) = zI cs 60 := ce_I rfl
  have e16 : cellE (aM t h0 q0 q1 q2 q3 q4 q5 q6 q7 q8 q9 q10 q11 q12 q13 q14 q15 q16 q17 q18 q19 q20 q21 q22 q23 q24 q25 q26 q27 q28 q29) cs m0M 16 (.inr (12, 2)) = zZ cs 12 := ce_Z rfl
  have e17 : cellE (aM t h0 q0 q1 q2 q3 q4 q5 q6 q7 q8 q9 q10 q11 q12 q13 q14 q15 q16 q17 q18 q19 q20 q21 q22 q23 q24 q25 q26 q27 q28 q29) cs m0M 17 (.inr (12, 2)) = zZ cs 12 := ce_Z rfl
  have e18 : cellE (aM t h0 q0 q1 q2 q3 q4 q5 q6 q7 q8 q9 q10 q11 q12 q13 q14 q15 q16 q17 q18 q19 q20 q21 q22 q23 q24 q25 q26 q27 q28 q29) cs m0M 18 (.inr (12, 2)) = zZ cs 12 := ce_Z rfl
  have e19 : cellE (aM t h0 q0 q1 q2 q3 q4 q5 q6 q7 q8 q9 q10 q11 q12 q13 q14 q15 q16 q17 q18 q19 q20 q21 q22 q23 q24 q25 q26 q27 q28 q29) cs m0M 19 (.inr (12, 2)) = zZ cs 12 := ce_Z rfl
  have e20 : cellE (aM t h0 q0 q1 q2 q3 q4 q5 q6 q7 q8 q9 q10 q11 q12 q13 q14 q15 q16 q17 q18 q19 q20 q21 q22 q23 q24 q25 q26 q27 q28 q29) cs m0M 20 (.inr (12, 0)) = zI cs 12 := ce_I rfl
  have e21 : cellE (aM t h0 q0 q1 q2 q3 q4 q5 q6 q7 q8 q9 q10 q11 q12 q13 q14 q15 q16 q17 q18 q19 q20 q21 q22 q23 q24 q25 q26 q27 q28 q29) cs m0M 21 (.inr (12, 0)) = zI cs 12 := ce_I rfl
  have e22 : cellE (aM t h0 q0 q1 q2 q3 q4 q5 q6 q7 q8 q9 q10 q11 q12 q13 q14 q15 q16 q17 q18 q19 q20 q21 q22 q23 q24 q25 q26 q27 q28 q29) cs m0M 22 (.inr (12, 0)) = zI cs 12 := ce_I rfl
  have e23 : cellE (aM t h0 q0 q1 q2 q3 q4 q5 q6 q7 q8 q9 q10 q11 q12 q13 q14 q15 q16 q17 q18 q19 q20 q21 q22 q23 q24 q25 q26 q27 q28 q29) cs m0M 23 (.inr (64, 2)) = zZ cs 64 := ce_Z rfl
  have e24 : cellE (aM t h0 q0 q1 q2 q3 q4 q5 q6 q7 q8 q9 q10 q11 q12 q13 q14 q15 q16 q17 q18 q19 q20 q21 q22 q23 q24 q25 q26 q27 q28 q29) cs m0M 24 (.inr (64, 0)) = zI cs 64 := ce_I rfl
  have e25 : cellE (aM t h0 q0 q1 q2 q3 q4 q5 q6 q7 q8 q9 q10 q11 q12 q13 q14 q15 q16 q17 q18 q19 q20 q21 q22 q23 q24 q25 q26 q27 q28 q29) cs m0M 25 (.inr (5, 0)) = zI cs 5 := ce_I rfl
  have e26 : cellE (aM t h0 q0 q1 q2 q3 q4 q5 q6 q7 q8 q9 q10 q11 q12 q13 q14 q15 q16 q17 q18 q19 q20 q21 q22 q23 q24 q25 q26 q27 q28 q29) cs m0M 26 (.inr (5, 0)) = zI cs 5 := ce_I rfl
  have e27 : cellE (aM t h0 q0 q1 q2 q3 q4 q5 q6 q7 q8 q9 q10 q11 q12 q13 q14 q15 q16 q17 q18 q19 q20 q21 q22 q23 q24 q25 q26 q27 q28 q29) cs m0M 27 (.inr (5, 0)) = zI cs 5 := ce_I rfl
  have e28 : cellE (aM t h0 q0 q1 q2 q3 q4 q5 q6 q7 q8 q9 q10 q11 q12 q13 q14 q15 q16 q17 q18 q19 q20 q21 q22 q23 q24 q25 q26 q27 q28 q29) cs m0M 28 (.inr (5, 0)) = zI cs 5 := ce_I rfl
  have e29 : cellE (aM t h0 q0 q1 q2 q3 q4 q5 q6 q7 q8 q9 q10 q11 q12 q13 q14 q15 q16 q17 q18 q19 q20 q21 q22 q23 q24 q25 q26 q27 q28 q29) cs m0M 29 (.inr (12, 0)) = zI cs 12 := ce_I rfl
  have e30 : cellE (aM t h0 q0 q1 q2 q3 q4 q5 q6 q7 q8 q9 q10 q11 q12 q13 q14 q15 q16 q17 q18 q19 q20 q21 q22 q23 q24 q25 q26 q27 q28 q29) cs m0M 30 (.inr (500, 0)) = zI cs 500 := ce_I rfl
  show [(aM t h0 q0 q1 q2 q3 q4 q5 q6 q7 q8 q9 q10 q11 q12 q13 q14 q15 q16 q17 q18 q19 q20 q21 q22 q23 q24 q25 q26 q27 q28 q29 0, cellE (aM t h0 q0 q1 q2 q3 q4 q5 q6 q7 q8 q9 q10 q11 q12 q13 q14 q15 q16 q17 q18 q19 q20 q21 q22 q23 q24 q25 q26 q27 q28 q29) cs m0M 0 (.inl (6, [some 1, some 2, some 3, some 4, some 5, some 6, some 7, some 8, some 9, some 10, some 11, none, none, some 12, none, none, none, some 13, some 14, some 15, some 16, some 17, some 18, some 19, none, none, some 20, some 21, some 22, some 23, none, none, some 24, some 25, some 26, some 27, some 28, none, some 29, some 30, none, none, none]))), (aM t h0 q0 q1 q2 q3 q4 q5 q6 q7 q8 q9 q10 q11 q12 q13 q14 q15 q16 q17 q18 q19 q20 q21 q22 q23 q24 q25 q26 q27 q28 q29 1, cellE (aM t h0 q0 q1 q2 q3 q4 q5 q6 q7 q8 q9 q10 q11 q12 q13 q14 q15 q16 q17 q18 q19 q20 q21 q22 q23 q24 q25 q26 q27 q28 q29) cs m0M 1 (.inr (7, 0))), (aM t h0 q0 q1 q2 q3 q4 q5 q6 q7 q8 q9 q10 q11 q12 q13 q14 q15 q16 q17 q18 q19 q20 q21 q22 q23 q24 q25 q26 q27 q28 q29 2, cellE (aM t h0 q0 q1 q2 q3 q4 q5 q6 q7 q8 q9 q10 q11 q12 q13 q14 q15 q16 q17 q18 q19 q20 q21 q22 q23 q24 q25 q26 q27 q28 q29) cs m0M 2 (.inr (12, 0))), (aM t h0 q0 q1 q2 q3 q4 q5 q6 q7 q8 q9 q10 q11 q12 q13 q14 q15 q16 q17 q18 q19 q20 q21 q22 q23 q24 q25 q26 q27 q28 q29 3, cellE (aM t h0 q0 q1 q2 q3 q4 q5 q6 q7 q8 q9 q10 q11 q12 q13 q14 q15 q16 q17 q18 q19 q20 q21 q22 q23 q24 q25 q26 q27 q28 q29) cs m0M 3 (.inr (12, 0))), (aM t h0 q0 q1 q2 q3 q4 q5 q6 q7 q8 q9 q10 q11 q12 q13 q14 q15 q16 q17 q18 q19 q20 q21 q22 q23 q24 q25 q26 q27 q28 q29 4, cellE (aM t h0 q0 q1 q2 q3 q4 q5 q6 q7 q8 q9 q10 q11 q12 q13 q14 q15 q16 q17 q18 q19 q20 q21 q22 q23 q24 q25 q26 q27 q28 q29) cs m0M 4 (.inr (12, 0))), (aM t h0 q0 q1 q2 q3 q4 q5 q6 q7 q8 q9 q10 q11 q12 q13 q14 q15 q16 q17 q18 q19 q20 q21 q22 q23 q24 q25 q26 q27 q28 q29 5, cellE (aM t h0 q0 q1 q2 q3 q4 q5 q6 q7 q8 q9 q10 q11 q12 q13 q14 q15 q16 q17 q18 q19 q20 q21 q22 q23 q24 q25 q26 q27 q28 q29) cs m0M 5 (.inr (12, 0))), (aM t h0 q0 q1 q2 q3 q4 q5 q6 q7 q8 q9 q10 q11 q12 q13 q14 q15 q16 q17 q18 q19 q20 q21 q22 q23 q24 q25 q26 q27 q28 q29 6, cellE (aM t h0 q0 q1 q2 q3 q4 q5 q6 q7 q8 q9 q10 q11 q12 q13 q14 q15 q16 q17 q18 q19 q20 q21 q22 q23 q24 q25 q26 q27 q28 q29) cs m0M 6 (.inr (3, 0))), (aM t h0 q0 q1 q2 q3 q4 q5 q6 q7 q8 q9 q10 q11 q12 q13 q14 q15 q16 q17 q18 q19 q20 q21 q22 q23 q24 q25 q26 q27 q28 q29 7, cellE (aM t h0 q0 q1 q2 q3 q4 q5 q6 q7 q8 q9 q10 q11 q12 q13 q14 q15 q16 q17 q18 q19 q20 q21 q22 q23 q24 q25 q26 q27 q28 q29) cs m0M 7 (.inr (60, 0))), (aM t h0 q0 q1 q2 q3 q4 q5 q6 q7 q8 q9 q10 q11 q12 q13 q14 q15 q16 q17 q18 q19 q20 q21 q22 q23 q24 q25 q26 q27 q28 q29 8, cellE (aM t h0 q0 q1 q2 q3 q4 q5 q6 q7 q8 q9 q10 q11 q12 q13 q14 q15 q16 q17 q18 q19 q20 q21 q22 q23 q24 q25 q26 q27 q28 q29) cs m0M 8 (.inr (60, 0))), (aM t h0 q0 q1 q2 q3 q4 q5 q6 q7 q8 q9 q10 q11 q12 q13 q14 q15 q16 q17 q18 q19 q20 q21 q22 q23 q24 q25 q26 q27 q28 q29 9, cellE (aM t h0 q0 q1 q2 q3 q4 q5 q6 q7 q8 q9 q10 q11 q12 q13 q14 q15 q16 q17 q18 q19 q20 q21 q22 q23 q24 q25 q26 q27 q28 q29) cs m0M 9 (.inr (60, 0))), (aM t h0 q0 q1 q2 q3 q4 q5 q6 q7 q8 q9 q10 q11 q12 q13 q14 q15 q16 q17 q18 q19 q20 q21 q22 q23 q24 q25 q26 q27 q28 q29 10, cellE (aM t h0 q0 q1 q2 q3 q4 q5 q6 q7 q8 q9 q10 q11 q12 q13 q14 q15 q16 q17 q18 q19 q20 q21 q22 q23 q24 q25 q26 q27 q28 q29) cs m0M 10 (.inr (60, 0))), (aM t h0 q0 q1 q2 q3 q4 q5 q6 q7 q8 q9 q10 q11 q12 q13 q14 q15 q16 q17 q18 q19 q20 q21 q22 q23 q24 q25 q26 q27 q28 q29 11, cellE (aM t h0 q0 q1 q2 q3 q4 q5 q6 q7 q8 q9 q10 q11 q12 q13 q14 q15 q16 q17 q18 q19 q20 q21 q22 q23 q24 q25 q26 q27 q28 q29) cs m0M 11 (.inr (60, 0))), (aM t h0 q0 q1 q2 q3 q4 q5 q6 q7 q8 q9 q10 q11 q12 q13 q14 q15 q16 q17 q18 q19 q20 q21 q22 q23 q24 q25 q26 q27 q28 q29 12, cellE (aM t h0 q0 q1 q2 q3 q4 q5 q6 q7 q8 q9 q10 q11 q12 q13 q14 q15 q16 q17 q18 q19 q20 q21 q22 q23 q24 q25 q26 q27 q28 q29) cs m0M 12 (.inr (80, 0))), (aM t h0 q0 q1 q2 q3 q4 q5 q6 q7 q8 q9 q10 q11 q12 q13 q14 q15 q16 q17 q18 q19 q20 q21 q22 q23 q24 q25 q26 q27 q28 q29 13, cellE (aM t h0 q0 q1 q2 q3 q4 q5 q6 q7 q8 q9 q10 q11 q12 q13 q14 q15 q16 q17 q18 q19 q20 q21 q22 q23 q24 q25 q26 q27 q28 q29) cs m0M 13 (.inr (12, 0))), (aM t h0 q0 q1 q2 q3 q4 q5 q6 q7 q8 q9 q10 q11 q12 q13 q14 q15 q16 q17 q18 q19 q20 q21 q22 q23 q24 q25 q26 q27 q28 q29 14, cellE (aM t h0 q0 q1 q2 q3 q4 q5 q6 q7 q8 q9 q10 q11 q12 q13 q14 q15 q16 q17 q18 q19 q20 q21 q22 q23 q24 q25 q26 q27 q28 q29) cs m0M 14 (.inr (12, 0))), (aM t h0 q0 q1 q2 q3 q4 q5 q6 q7 q8 q9 q10 q11 q12 q13 q14 q15 q16 q17 q18 q19 q20 q21 q22 q23 q24 q25 q26 q27 q28 q29 15, cellE (aM t h0 q0 q1 q2 q3 q4 q5 q6 q7 q8 q9 q10 q11 q12 q13 q14 q15 q16 q17 q18 q19 q20 q21 q22 q23 q24 q25 q26 q27 q28 q29) cs m0M 15 (.inr (60, 0))), (aM t h0 q0 q1 q2 q3 q4 q5 q6 q7 q8 q9 q10 q11 q12 q13 q14 q15 q16 q17 q18 q19 q20 q21 q22 q23 q24 q25 q26 q27 q28 q29 16, cellE (aM t h0 q0 q1 q2 q3 q4 q5 q6 q7 q8 q9 q10 q11 q12 q13 q14 q15 q16 q17 q18 q19 q20 q21 q22 q23 q24 q25 q26 q27 q28 q29) cs m0M 16 (.inr (12, 2))), (aM t h0 q0 q1 q2 q3 q4 q5 q6 q7 q8 q9 q10 q11 q12 q13 q14 q15 q16 q17 q18 q19 q20 q21 q22 q23 q24 q25 q26 q27 q28 q29 17, cellE (aM t h0 q0 q1 q2 q3 q4 q5 q6 q7 q8 q9 q10 q11 q12 q13 q14 q15 q16 q17 q18 q19 q20 q21 q22 q23 q24 q25 q26 q27 q28 q29) cs m0M 17 (.inr (12, 2))), (aM t h0 q0 q1 q2 q3 q4 q5 q6 q7 q8 q9 q10 q11 q12 q13 q14 q15 q16 q17 q18 q19 q20 q21 q22 q23 q24 q25 q26 q27 q28 q29 18, cellE (aM t h0 q0 q1 q2 q3 q4 q5 q6 q7 q8 q9 q10 q11 q12 q13 q14 q15 q16 q17 q18 q19 q20 q21 q22 q23 q24 q25 q26 q27 q28 q29) cs m0M 18 (.inr (12, 2))), (aM t h0 q0 q1 q2 q3 q4 q5 q6 q7 q8 q9 q10 q11 q12 q13 q14 q15 q16 q17 q18 q19 q20 q21 q22 q23 q24 q25 q26 q27 q28 q29 19, cellE (aM t h0 q0 q1 q2 q3 q4 q5 q6 q7 q8 q9 q10 q11 q12 q13 q14 q15 q16 q17 q18 q19 q20 q21 q22 q23 q24 q25 q26 q27 q28 q29) cs m0M 19 (.inr (12, 2))), (aM t h0 q0 q1 q2 q3 q4 q5 q6 q7 q8 q9 q10 q11 q12 q13 q14 q15 q16 q17 q18 q19 q20 q21 q22 q23 q24 q25 q26 q27 q28 q29 20, cellE (aM t h0 q0 q1 q2 q3 q4 q5 q6 q7 q8 q9 q10 q11 q12 q13 q14 q15 q16 q17 q18 q19 q20 q21 q22 q23 q24 q25 q26 q27 q28 q29) cs m0M 20 (.inr (12, 0))), (aM t h0 q0 q1 q2 q3 q4 q5 q6 q7 q8 q9 q10 q11 q12 q13 q14 q15 q16 q17 q18 q19 q20 q21 q22 q23 q24 q25 q26 q27 q28 q29 21, cellE (aM t h0 q0 q1 q2 q3 q4 q5 q6 q7 q8 q9 q10 q11 q12 q13 q14 q15 q16 q17 q18 q19 q20 q21 q22 q23 q24 q25 q26 q27 q28 q29) cs m0M 21 (.inr (12, 0))), (aM t h0 q0 q1 q2 q3 q4 q5 q6 q7 q8 q9 q10 q11 q12 q13 q14 q15 q16 q17 q18 q19 q20 q21 q22 q23 q24 q25 q26 q27 q28 q29 22, cellE (aM t h0 q0 q1 q2 q3 q4 q5 q6 q7 q8 q9 q10 q11 q12 q13 q14 q15 q16 q17 q18 q19 q20 q21 q22 q23 q24 q25 q26 q27 q28 q29) cs m0M 22 (.inr (12, 0))), (aM t h0 q0 q1 q2 q3 q4 q5 q6 q7 q8 q9 q10 q11 q12 q13 q14 q15 q16 q17 q18 q19 q20 q21 q22 q23 q24 q25 q26 q27 q28 q29 23, cellE (aM t h0 q0 q1 q2 q3 q4 q5 q6 q7 q8 q9 q10 q11 q12 q13 q14 q15 q16 q17 q18 q19 q20 q21 q22 q23 q24 q25 q26 q27 q28 q29) cs m0M 23 (.inr (64, 2))), (aM t h0 q0 q1 q2 q3 q4 q5 q6 q7 q8 q9 q10 q11 q12 q13 q14 q15 q16 q17 q18 q19 q20 q21 q22 q23 q24 q25 q26 q27 q28 q29 24, cellE (aM t h0 q0 q1 q2 q3 q4 q5 q6 q7 q8 q9 q10 q11 q12 q13 q14 q15 q16 q17 q18 q19 q20 q21 q22 q23 q24 q25 q26 q27 q28 q29) cs m0M 24 (.inr (64, 0))), (aM t h0 q0 q1 q2 q3 q4 q5 q6 q7 q8 q9 q10 q11 q12 q13 q14 q15 q16 q17 q18 q19 q20 q21 q22 q23 q24 q25 q26 q27 q28 q29 25, cellE (aM t h0 q0 q1 q2 q3 q4 q5 q6 q7 q8 q9 q10 q11 q12 q13 q14 q15 q16 q17 q18 q19 q20 q21 q22 q23 q24 q25 q26 q27 q28 q29) cs m0M 25 (.inr (5, 0))), (aM t h0 q0 q1 q2 q3 q4 q5 q6 q7 q8 q9 q10 q11 q12 q13 q14 q15 q16 q17 q18 q19 q20 q21 q22 q23 q24 q25 q26 q27 q28 q29 26, cellE (aM t h0 q0 q1 q2 q3 q4 q5 q6 q7 q8 q9 q10 q11 q12 q13 q14 q15 q16 q17 q18 q19 q20 q21 q22 q23 q24 q25 q26 q27 q28 q29) cs m0M 26 (.inr (5, 0))), (aM t h0 q0 q1 q2 q3 q4 q5 q6 q7 q8 q9 q10 q11 q12 q13 q14 q15 q16 q17 q18 q19 q20 q21 q22 q23 q24 q25 q26 q27 q28 q29 27, cellE (aM t h0 q0 q1 q2 q3 q4 q5 q6 q7 q8 q9 q10 q11 q12 q13 q14 q15 q16 q17 q18 q19 q20 q21 q22 q23 q24 q25 q26 q27 q28 q29) cs m0M 27 (.inr (5, 0))), (aM t h0 q0 q1 q2 q3 q4 q5 q6 q7 q8 q9 q10 q11 q12 q13 q14 q15 q16 q17 q18 q19 q20 q21 q22 q23 q24 q25 q26 q27 q28 q29 28, cellE (aM t h0 q0 q1 q2 q3 q4 q5 q6 q7 q8 q9 q10 q11 q12 q13 q14 q15 q16 q17 q18 q19 q20 q21 q22 q23 q24 q25 q26 q27 q28 q29) cs m0M 28 (.inr (5, 0))), (aM t h0 q0 q1 q2 q3 q4 q5 q6 q7 q8 q9 q10 q11 q12 q13 q14 q15 q16 q17 q18 q19 q20 q21 q22 q23 q24 q25 q26 q27 q28 q29 29, cellE (aM t h0 q0 q1 q2 q3 q4 q5 q6 q7 q8 q9 q10 q11 q12 q13 q14 q15 q16 q17 q18 q19 q20 q21 q22 q23 q24 q25 q26 q27 q28 q29) cs m0M 29 (.inr (12, 0))), (aM t h0 q0 q1 q2 q3 q4 q5 q6 q7 q8 q9 q10 q11 q12 q13 q14 q15 q16 q17 q18 q19 q20 q21 q22 q23 q24 q25 q26 q27 q28 q29 30, cellE (aM t h0 q0 q1 q2 q3 q4 q5 q6 q7 q8 q9 q10 q11 q12 q13 q14 q15 q16 q17 q18 q19 q20 q21 q22 q23 q24 q25 q26 q27 q28 q29) cs m0M 30 (.inr (500, 0)))] = _
  rw [e0, e1, e2, e3, e4, e5, e6, e7, e8, e9, e10, e11, e12, e13, e14, e15, e16, e17, e18, e19, e20, e21, e22, e23, e24, e25, e26, e27, e28, e29, e30]
  rfl
theorem sub_at {ws w' : va_W} {is : List Nat} (hs : is.map (fun i => ws[i]?) = w'.map some) {k : Nat} {q : Nat × va_E} (hq : w'[k]? = some q) : ∃ i ∈ is, ws[i]? = some q := by
  have h1 : (is.map (fun i => ws[i]?))[k]? = some (some q) := by rw [hs, List.getElem?_map, hq]; rfl
  rw [List.getElem?_map] at h1
  cases hi : is[k]? with
  | none => rw [hi] at h1; cases h1
  | some i => rw [hi] at h1; exact ⟨i, List.mem_of_getElem? hi, Option.some.inj h1⟩
theorem apart_sub {A : Nat → Prop} {ws w1 w2 : va_W} {is1 is2 : List Nat} {n : Nat} (hD : va_D A ws) (h1 : is1.map (fun i => ws[i]?) = w1.map some) (h2 : is2.map (fun i => ws[i]?) = w2.map some) (l1 : ∀ i ∈ is1, i < n) (l2 : ∀ i ∈ is2, n ≤ i) : ∀ (i j : Nat) (p q : Nat × va_E), w1[i]? = some p → w2[j]? = some q → p.1 ≠ q.1 := by
  intro i j p q hi hj e
  obtain ⟨i', m1, g1⟩ := sub_at h1 hi
  obtain ⟨j', m2, g2⟩ := sub_at h2 hj
  have := hD.1 i' j' p q g1 g2 e
  have := l1 i' m1
  have := l2 j' m2
  omega
/-- the law makes an object -/
theorem L_make {p : Program} {l : Launch} {e : Env} {s : State} {m : MethodId} {below : List Frame} {meth : Method} {c : Code} {b : Nat} {D : va_G} {cs : Nat → ClassId} {H : Heap} {locs : List Loc} {n k : Nat} {Qw : State → Prop} {ls : Array Slot} {ws : va_W} {pc idx idx2 ci N d2 mc ms : Nat} {C0 : String} {T : u_T} {fs : List Value} {Y2 : Mth} {Q2 : Nat → va_W → Prop}
    (hx : p.tables.exec = Jvm.exec) (hb : c.code = code) (hml : c.maxLocals = 4) (hown : s.vm.findClass RL = some m.cls) (hts : ∀ w ∈ tblG, w.before #[Value.ref b] s = true) (hN : Nst s) (hK : va_K D vwCl (ctys cs) s) (hls : ls.size = 4)
    (hP : va_P D vwCl ws H) (hD : va_D (LA s) ws) (hS : va_S (LA s) s.heap H locs)
    (d0 : decode code pc = .ok (.new idx, 3)) (d1 : decode code (pc + 3) = .ok (.dup, 1)) (d3 : decode code (pc + 3 + 1) = .ok (.invokespecial idx2, 3))
    (ty : Nat → FieldType) (hc : vwCl[ci]? = some (C0, T, N)) (hi : ∀ w ∈ u_ws C0 T N, w ∈ tblG) (hty : ∀ k, k < N → parseFieldDescriptor (T k).2.2.1 = some (ty k)) (hcl : Cond.classLink RL idx C0 ∈ tblG) (hinst : Cond.instantiable C0 N ∈ tblG) (hini : Cond.initialized C0 ∈ tblG) (hfs : ∀ j, j < N → defaultValue (ty j) = vp_V fs j)
    (hm : MOK Y2 0) (hr0 : Y2.2.2.2 = none) (hnm : Y2.1.name = "<init>") (hin : Cond.instanceMethod Y2.1 ∈ tblG) (hl0 : Cond.methodLink RL idx2 Y2.1 ∈ tblG) (hd2 : d2 ≤ 1000) (hcells : n + 1 + mc ≤ 600000) (hslots : k + N + ms ≤ 7302250)
    (h : ∀ q : Nat, NC D cs d2 mc ms Y2 [.ref q] [(q, (.inr (ci, fs) : va_E))] (Q2 q))
    (kk : ∀ (q : Nat) (u : va_W) (H1 : Heap) (locs1 : List Loc), Q2 q u → va_P D vwCl (ws ++ u) H1 → va_D (LA s) (ws ++ u) → va_S (LA s) s.heap H1 locs1 → W p l e room_1 s m #[Value.ref b] below meth c H1 locs1 (n + 1 + mc) (k + N + ms) Qw (F0 m (pc + 3 + 1 + 3) ls [.ref q])) : W p l e room_1 s m #[Value.ref b] below meth c H locs n k Qw (F0 m pc ls []) := by
  have hA : ∀ q : Nat, s.heap.size ≤ q → LA s q := fun _ h => h
  refine va_new (C := C0) (T := T) (N := N) hx hb hts hi ty hty hown (hts _ hcl) (hts _ hinst) (hts _ hini) hK hP hD hS hA hc hfs (by show n + 1 ≤ 600000; omega) (by show k + N ≤ 7302250; omega) d0 (fun q H1 hP1 hD1 hS1 => ?_)
  refine lv_dup hx hb d1 rfl ?_
  have hlast : (ws ++ [(q, (.inr (ci, fs) : va_E))])[ws.length]? = some (q, (.inr (ci, fs) : va_E)) := by simp
  have hPw : va_P D vwCl ws H1 := fun k x hx9 => hP1 k x (by rw [List.getElem?_append_left (List.getElem?_eq_some_iff.mp hx9).1]; exact hx9)
  have hDw : va_D (LA s) ws := hD
  have hPc : va_P D vwCl [(q, (.inr (ci, fs) : va_E))] H1 := fun k x hx9 => by
    have hz : k < 1 := (List.getElem?_eq_some_iff.mp hx9).1
    rw [show k = 0 by omega] at hx9
    cases hx9
    exact hP1 ws.length _ hlast
  have hDc : va_D (fun _ => True) [(q, (.inr (ci, fs) : va_E))] := ⟨fun i j x y hi9 hj9 _ => by
    have h1 : i < 1 := (List.getElem?_eq_some_iff.mp hi9).1
    have h2 : j < 1 := (List.getElem?_eq_some_iff.mp hj9).1
    omega, fun _ _ _ => trivial⟩
  have hFc : ∀ x, va_A [(q, (.inr (ci, fs) : va_E))] H1.size x → LA s x := by
    rintro x (⟨k2, e9, h2⟩ | h2)
    · have hz : k2 < 1 := (List.getElem?_eq_some_iff.mp h2).1
      rw [show k2 = 0 by omega] at h2
      cases h2
      exact hD1.2 ws.length _ hlast
    · exact Nat.le_trans hS1.1 h2
  have hpre : PreS s H1 (va_Pc [.ref q] (fun U => U.heap.size = H1.size ∧ va_P D vwCl [(q, (.inr (ci, fs) : va_E))] U.heap ∧ va_K D vwCl (ctys cs) U ∧ va_D (fun _ => True) [(q, (.inr (ci, fs) : va_E))] ∧ Nst U)) [.ref q] := by
    refine ⟨?_, fun U hU hW => ⟨rfl, by rw [hU], by rw [hU]; exact hPc, va_K.moved hW.alike hK, hDc, Nst.warm hW hN⟩⟩
    rintro a U g mk ⟨h1, h2, h3, h4, h5, h6⟩
    exact ⟨h1, h2, h3, va_K.moved (u := U) (U := U.calling g mk a) (Vm.Alike.refl U.vm) h4, h5, Nst.same (u := U) (U := U.calling g mk a) rfl h6⟩
  have hcb : CallB room_1 s #[Value.ref b] RL idx2 Y2.1 Y2.2.1 Y2.2.2.1 none (.code Y2.1 Y2.2.1 Y2.2.2.1 Y2.2.2.2 :: tblG) (rmC d2 mc ms) mc ms 0 := by
    obtain ⟨h1, h2, h3, h4, h5⟩ := hm
    rw [hr0] at h2 ⊢
    refine ⟨rfl, rfl, ?_, ?_, pay_in hts (fun w hw => ?_), List.mem_cons_self, hts _ h2, hts _ h1, h3, fun sig h => ?_, hts _ hl0⟩
    · show d2 + 1 ≤ 2048
      omega
    · show 8 + (Y2.2.2.1 + 11) + 64 * d2 ≤ 84000
      omega
    · rcases List.mem_cons.mp hw with rfl | hw
      · exact ⟨h2, tblG_good _ h2⟩
      · exact ⟨hw, tblG_good _ hw⟩
    · rw [h] at h4
      exact (Option.some.inj h4).symm
  have hrun := va_runI (p := p) (l := l) (e := e) (below := below) (meth := meth) (c := c) (locs := locs) (cells := n + 1) (slots := k + N) (g := F0 m (pc + 3 + 1) ls [.ref q, .ref q]) (b := q) (As := []) (rest := [.ref q]) ⟨hx, hb, hml, hown, hts⟩ (h q l H1.size) ⟨hcb, hnm, hts _ hin⟩ hpre rfl rfl hls rfl (lv_room (Nat.le_of_ble_eq_true rfl)) d3 ⟨hcells, hslots⟩
  refine va_callv hrun hS1 (fun q _ h => hFc q h) hFc (fun u t H2 locs2 ht hvm hw hB hz1 hk1 hS2 => ?_)
  obtain ⟨hP0, hK0, hD0⟩ := hB
  rw [ht] at hP0
  have hne : ∀ (k2 : Nat) (x : Nat × va_E), ws[k2]? = some x → ¬ va_A [(q, (.inr (ci, fs) : va_E))] H1.size x.1 := by
    rintro k2 x hx9 (⟨k3, e9, h2⟩ | h2)
    · have hz : k3 < 1 := (List.getElem?_eq_some_iff.mp h2).1
      rw [show k3 = 0 by omega] at h2
      have hlt := (List.getElem?_eq_some_iff.mp hx9).1
      have e8 : x.1 = q := (congrArg Prod.fst (Option.some.inj h2)).symm
      have := hD1.1 k2 ws.length x (q, (.inr (ci, fs) : va_E)) (by rw [List.getElem?_append_left hlt]; exact hx9) hlast e8
      omega
    · have := (hPw k2 x hx9).lt
      omega
  refine kk q u H2 locs2 hw (va_P.app (hPw.kept (fun k2 x hx9 => hk1 x.1 (hPw k2 x hx9).lt (hne k2 x hx9))) hP0) (va_D.app hDw (hD0.weaken (fun k2 x _ h => hFc x.1 h)) (fun i j x y hi9 hj9 e9 => hne i x hi9 (by rw [e9]; exact hD0.2 j y hj9))) hS2
