/-! A STORY's planes: N now, A and B what is handed, s whether stirred -/
abbrev Pl : Type := Int → BitVec 64
def lput (N : Pl) (j : Int) (v : BitVec 64) : Pl := fun i => if i = j then v else N i
theorem lput_eq {N : Pl} {j : Int} {v : BitVec 64} : lput N j v j = v := if_pos rfl
theorem lput_ne {N : Pl} {j i : Int} {v : BitVec 64} (h : i ≠ j) : lput N j v i = N i := if_neg h
theorem lput_self {N : Pl} {j : Int} {v : BitVec 64} (h : v = N j) : lput N j v = N := by
  funext i
  unfold lput
  by_cases q : i = j
  · rw [if_pos q, h, q]
  · rw [if_neg q]
def stM (μ : Mem) (b : Nat) (N A B : Pl) (s : Int) : Mem := (fun q => if q = 3 + b then (fun j => if j = 10 then s else μ.1 q j) else μ.1 q, fun q => if q = 22 + 7 * b then N else if q = 27 + 7 * b then A else if q = 28 + 7 * b then B else μ.2 q)
section STM
variable {μ : Mem} {b q : Nat} {N A B : Pl} {s j : Int} {v : BitVec 64} {u : Int}
theorem st_N : (stM μ b N A B s).2 (22 + 7 * b) = N := if_pos rfl
theorem st_A : (stM μ b N A B s).2 (27 + 7 * b) = A := by
  show (if _ then N else if _ then A else if _ then B else _) = A
  rw [if_neg (by omega), if_pos rfl]
theorem st_B : (stM μ b N A B s).2 (28 + 7 * b) = B := by
  show (if _ then N else if _ then A else if _ then B else _) = B
  rw [if_neg (by omega), if_neg (by omega), if_pos rfl]
theorem st_l (h : q ≠ 22 + 7 * b ∧ q ≠ 27 + 7 * b ∧ q ≠ 28 + 7 * b) : (stM μ b N A B s).2 q = μ.2 q := by
  show (if _ then N else if _ then A else if _ then B else _) = _
  rw [if_neg h.1, if_neg h.2.1, if_neg h.2.2]
theorem st_i (h : q ≠ 3 + b) : (stM μ b N A B s).1 q = μ.1 q := if_neg h
theorem st_s : (stM μ b N A B s).1 (3 + b) 10 = s := by
  show (if 3 + b = 3 + b then (fun j => if j = 10 then s else _) else _) (10 : Int) = s
  rw [if_pos rfl]; rfl
theorem st_j (h : j ≠ 10) : (stM μ b N A B s).1 (3 + b) j = μ.1 (3 + b) j := by
  show (if 3 + b = 3 + b then (fun j => if j = 10 then s else μ.1 (3 + b) j) else _) j = _
  rw [if_pos rfl]
  exact if_neg h
theorem st_ext {μ : Mem} {b : Nat} {N A B N' A' B' : Pl} {s s' : Int} (h1 : N = N') (h2 : A = A') (h3 : B = B') (h4 : s = s') : stM μ b N A B s = stM μ b N' A' B' s' := by subst h1; subst h2; subst h3; subst h4; rfl
theorem st_pN : putL (stM μ b N A B s) (22 + 7 * b) j v = stM μ b (lput N j v) A B s := by
  refine Prod.ext rfl ?_
  funext q
  by_cases h : q = 22 + 7 * b
  · subst h
    simp only [putL, if_pos rfl]
    rw [show (stM μ b N A B s).2 (22 + 7 * b) = N from st_N]
    exact st_N.symm
  · simp [putL, stM, h]
theorem st_pA : putL (stM μ b N A B s) (27 + 7 * b) j v = stM μ b N (lput A j v) B s := by
  refine Prod.ext rfl ?_
  funext q
  by_cases h : q = 27 + 7 * b
  · subst h
    simp only [putL, if_pos rfl]
    rw [show (stM μ b N A B s).2 (27 + 7 * b) = A from st_A]
    exact st_A.symm
  · simp [putL, stM, h]
theorem st_pB : putL (stM μ b N A B s) (28 + 7 * b) j v = stM μ b N A (lput B j v) s := by
  refine Prod.ext rfl ?_
  funext q
  by_cases h : q = 28 + 7 * b
  · subst h
    simp only [putL, if_pos rfl]
    rw [show (stM μ b N A B s).2 (28 + 7 * b) = B from st_B]
    exact st_B.symm
  · simp [putL, stM, h]
theorem st_ps : putI (stM μ b N A B s) (3 + b) 10 u = stM μ b N A B u := by
  refine Prod.ext ?_ rfl
  funext q
  by_cases h : q = 3 + b
  · subst h
    funext j
    show (if 3 + b = 3 + b then (fun j => if j = 10 then u else (stM μ b N A B s).1 (3 + b) j) else _) j = _
    rw [if_pos rfl]
    show (if j = 10 then u else (stM μ b N A B s).1 (3 + b) j) = _
    by_cases a : j = 10
    · subst a; rw [if_pos rfl, st_s]
    · rw [if_neg a, st_j a, st_j a]
  · simp [putI, stM, h]
theorem st_rN {f : Pl} : rowL (stM μ b N A B s) (22 + 7 * b) f = stM μ b f A B s := by
  refine Prod.ext rfl ?_
  funext q
  by_cases h : q = 22 + 7 * b
  · subst h; simp [rowL, stM]
  · simp [rowL, stM, h]
theorem st_rA {f : Pl} : rowL (stM μ b N A B s) (27 + 7 * b) f = stM μ b N f B s := by
  refine Prod.ext rfl ?_
  funext q
  by_cases h : q = 27 + 7 * b
  · subst h; simp [rowL, stM]
  · simp [rowL, stM, h]
theorem st_rB {f : Pl} : rowL (stM μ b N A B s) (28 + 7 * b) f = stM μ b N A f s := by
  refine Prod.ext rfl ?_
  funext q
  by_cases h : q = 28 + 7 * b
  · subst h; simp [rowL, stM]
  · simp [rowL, stM, h]
theorem st_self : stM μ b (μ.2 (22 + 7 * b)) (μ.2 (27 + 7 * b)) (μ.2 (28 + 7 * b)) (μ.1 (3 + b) 10) = μ := by
  refine Prod.ext ?_ ?_
  · funext q
    by_cases h : q = 3 + b
    · subst h
      funext j
      by_cases a : j = 10
      · subst a; exact st_s
      · exact st_j a
    · exact st_i h
  · funext q
    by_cases h : q = 22 + 7 * b
    · subst h; exact st_N
    · by_cases h2 : q = 27 + 7 * b
      · subst h2; exact st_A
      · by_cases h3 : q = 28 + 7 * b
        · subst h3; exact st_B
        · exact st_l ⟨h, h2, h3⟩
theorem st_st {N' A' B' : Pl} {s' : Int} : stM (stM μ b N A B s) b N' A' B' s' = stM μ b N' A' B' s' := by
  refine Prod.ext ?_ ?_
  · funext q
    by_cases h : q = 3 + b
    · subst h
      funext j
      by_cases a : j = 10
      · subst a; rw [st_s, st_s]
      · rw [st_j a, st_j a, st_j a]
    · rw [st_i h, st_i h, st_i h]
  · funext q
    by_cases h : q = 22 + 7 * b
    · subst h; rw [st_N, st_N]
    · by_cases h2 : q = 27 + 7 * b
      · subst h2; rw [st_A, st_A]
      · by_cases h3 : q = 28 + 7 * b
        · subst h3; rw [st_B, st_B]
        · rw [st_l ⟨h, h2, h3⟩, st_l ⟨h, h2, h3⟩, st_l ⟨h, h2, h3⟩]
end STM
/-! what a thing is handed, taken where it is less -/
def lesL (N F : Pl) (pl ba : Int) (w : BitVec 64) (k : Int) : BitVec 64 := (if 0 < k then F pl &&& w &&& ~~~(N ba) else 0#64) ||| (if 1 < k then F (pl + 1) &&& w &&& ~~~(N (ba + 1)) else 0#64) ||| (if 2 < k then F (pl + 2) &&& w &&& ~~~(N (ba + 2)) else 0#64) ||| (if 3 < k then F (pl + 3) &&& w &&& ~~~(N (ba + 3)) else 0#64)
def les1 (N F : Pl) (pl ba : Int) (w : BitVec 64) (k : Int) : Pl := fun j => if ba ≤ j ∧ j < ba + k then N j ||| (F (pl + (j - ba)) &&& w &&& ~~~(N j)) else N j
def les2 (N F : Pl) (pl ba : Int) (L : BitVec 64) (k : Int) : Pl := fun j => if ba + 4 ≤ j ∧ j < ba + k then (N j &&& ~~~L) ||| (F (pl + (j - ba)) &&& L) else N j
def lesN (N F : Pl) (pl ba : Int) (w : BitVec 64) : Pl := les2 (les1 N F pl ba w 4) F pl ba (lesL N F pl ba w 4) 9
theorem not_0 : ~~~(0#64) = BitVec.allOnes 64 := by decide
section LES
variable {N F : Pl} {pl ba k n : Int} {w L : BitVec 64}
theorem lesL_0 : lesL N F pl ba w 0 = 0#64 := by simp [lesL]
theorem lesL_s (h : 0 ≤ k ∧ k < 4) : lesL N F pl ba w (k + 1) = lesL N F pl ba w k ||| (F (pl + k) &&& w &&& ~~~(N (ba + k))) := by
  rcases (show k = 0 ∨ k = 1 ∨ k = 2 ∨ k = 3 by omega) with rfl | rfl | rfl | rfl <;> simp [lesL]
theorem les1_0 : les1 N F pl ba w 0 = N := by
  funext j; unfold les1; rw [if_neg (by omega)]
theorem les1_at : les1 N F pl ba w k (ba + k) = N (ba + k) := if_neg (by omega)
theorem les1_pl (h : ba + 9 ≤ pl ∨ pl + 9 ≤ ba) (hn : 0 ≤ n ∧ n ≤ 4) (hk : 0 ≤ k ∧ k < 9) : les1 N F pl ba w n (pl + k) = N (pl + k) := if_neg (by omega)
theorem les1_s (h : 0 ≤ k) : lput (les1 N F pl ba w k) (ba + k) (N (ba + k) ||| (F (pl + k) &&& w &&& ~~~(N (ba + k)))) = les1 N F pl ba w (k + 1) := by
  funext j
  unfold lput les1
  by_cases a : j = ba + k
  · subst a
    rw [if_pos rfl, if_pos (by omega), show ba + k - ba = k by omega]
  · rw [if_neg a]
    by_cases q : ba ≤ j ∧ j < ba + k
    · rw [if_pos q, if_pos (by omega)]
    · rw [if_neg q, if_neg (by omega)]
theorem les2_4 : les2 N F pl ba L 4 = N := by
  funext j; unfold les2; rw [if_neg (by omega)]
theorem les2_at : les2 N F pl ba L k (ba + k) = N (ba + k) := if_neg (by omega)
theorem les2_pl (h : ba + 9 ≤ pl ∨ pl + 9 ≤ ba) (hn : n ≤ 9) (hk : 0 ≤ k ∧ k < 9) : les2 N F pl ba L n (pl + k) = N (pl + k) := if_neg (by omega)
theorem les2_s (h : 4 ≤ k) : lput (les2 N F pl ba L k) (ba + k) ((N (ba + k) &&& ~~~L) ||| (F (pl + k) &&& L)) = les2 N F pl ba L (k + 1) := by
  funext j
  unfold lput les2
  by_cases a : j = ba + k
  · subst a
    rw [if_pos rfl, if_pos (by omega), show ba + k - ba = k by omega]
  · rw [if_neg a]
    by_cases q : ba + 4 ≤ j ∧ j < ba + k
    · rw [if_pos q, if_pos (by omega)]
    · rw [if_neg q, if_neg (by omega)]
theorem les2_z : les2 N F pl ba (0#64) 9 = N := by
  funext j
  unfold les2
  split
  · rw [BitVec.and_zero, BitVec.or_zero, not_0, BitVec.and_allOnes]
  · rfl
theorem lesN_z (h : lesL N F pl ba w 4 = 0#64) : lesN N F pl ba w = les1 N F pl ba w 4 := by unfold lesN; rw [h, les2_z]
theorem or_0 {a b : BitVec 64} (h : a ||| b = 0#64) : a = 0#64 ∧ b = 0#64 := by
  constructor
  · apply BitVec.eq_of_getLsbD_eq
    intro i hi
    have := congrArg (fun x => BitVec.getLsbD x i) h
    simp only [BitVec.getLsbD_or, BitVec.getLsbD_zero, Bool.or_eq_false_iff] at this
    simpa using this.1
  · apply BitVec.eq_of_getLsbD_eq
    intro i hi
    have := congrArg (fun x => BitVec.getLsbD x i) h
    simp only [BitVec.getLsbD_or, BitVec.getLsbD_zero, Bool.or_eq_false_iff] at this
    simpa using this.2
theorem lesN_same (h : lesL N F pl ba w 4 = 0#64) : lesN N F pl ba w = N := by
  rw [lesN_z h]
  unfold lesL at h
  simp only [Int.reduceLT, if_true] at h
  obtain ⟨h, h3⟩ := or_0 h
  obtain ⟨h, h2⟩ := or_0 h
  obtain ⟨h0, h1⟩ := or_0 h
  funext j
  unfold les1
  by_cases q : ba ≤ j ∧ j < ba + 4
  · rw [if_pos q]
    have e : F (pl + (j - ba)) &&& w &&& ~~~(N j) = 0#64 := by
      rcases (show j = ba ∨ j = ba + 1 ∨ j = ba + 2 ∨ j = ba + 3 by omega) with rfl | rfl | rfl | rfl
      · rw [show pl + (j - j) = pl by omega]; exact h0
      · rw [show pl + (ba + 1 - ba) = pl + 1 by omega]; exact h1
      · rw [show pl + (ba + 2 - ba) = pl + 2 by omega]; exact h2
      · rw [show pl + (ba + 3 - ba) = pl + 3 by omega]; exact h3
    rw [e, BitVec.or_zero]
  · rw [if_neg q]
theorem les2_congr {F' : Pl} (h : ∀ i, 4 ≤ i → i < 9 → F (pl + i) = F' (pl + i)) : les2 N F pl ba L 9 = les2 N F' pl ba L 9 := by
  funext j
  unfold les2
  by_cases q : ba + 4 ≤ j ∧ j < ba + 9
  · rw [if_pos q, if_pos q, h (j - ba) (by omega) (by omega)]
  · rw [if_neg q, if_neg q]
theorem lesL_congr {F' : Pl} (h : ∀ i, 0 ≤ i → i < 4 → F (pl + i) = F' (pl + i)) : lesL N F pl ba w 4 = lesL N F' pl ba w 4 := by
  unfold lesL
  have h0 := h 0 (by omega) (by omega)
  rw [Int.add_zero] at h0
  rw [h0, h 1 (by omega) (by omega), h 2 (by omega) (by omega), h 3 (by omega) (by omega)]
theorem lesN_congr {F' : Pl} (h : ∀ i, 0 ≤ i → i < 9 → F (pl + i) = F' (pl + i)) : lesN N F pl ba w = lesN N F' pl ba w := by
  have e : les1 N F pl ba w 4 = les1 N F' pl ba w 4 := by
    funext j
    unfold les1
    by_cases q : ba ≤ j ∧ j < ba + 4
    · rw [if_pos q, if_pos q, h (j - ba) (by omega) (by omega)]
    · rw [if_neg q, if_neg q]
  unfold lesN
  rw [e, lesL_congr (fun i h0 h1 => h i h0 (by omega)), les2_congr (fun i h0 h1 => h i (by omega) h1)]
end LES
/-- a degree taken away -/
def mkN (N : Pl) (ba : Int) (w : BitVec 64) (k : Int) : Pl := fun j => if ba ≤ j ∧ j < ba + k then N j &&& ~~~w else N j
theorem mkN_0 {N : Pl} {ba : Int} {w : BitVec 64} : mkN N ba w 0 = N := by
  funext j; unfold mkN; rw [if_neg (by omega)]
theorem mkN_at {N : Pl} {ba k : Int} {w : BitVec 64} : mkN N ba w k (ba + k) = N (ba + k) := if_neg (by omega)
theorem mkN_s {N : Pl} {ba k : Int} {w : BitVec 64} (h : 0 ≤ k) : lput (mkN N ba w k) (ba + k) (N (ba + k) &&& ~~~w) = mkN N ba w (k + 1) := by
  funext j
  unfold lput mkN
  by_cases a : j = ba + k
  · subst a; rw [if_pos rfl, if_pos (by omega)]
  · rw [if_neg a]
    by_cases q : ba ≤ j ∧ j < ba + k
    · rw [if_pos q, if_pos (by omega)]
    · rw [if_neg q, if_neg (by omega)]
def kfN (A : Pl) (k : Int) : Pl := fun j => if 1 ≤ j ∧ j < k then A 0 else A j
theorem kfN_1 {A : Pl} : kfN A 1 = A := by
  funext j; unfold kfN; rw [if_neg (by omega)]
theorem kfN_0 {A : Pl} {k : Int} : kfN A k 0 = A 0 := if_neg (by omega)
theorem kfN_s {A : Pl} {k : Int} (h : 1 ≤ k) : lput (kfN A k) k (A 0) = kfN A (k + 1) := by
  funext j
  unfold lput kfN
  by_cases a : j = k
  · subst a; rw [if_pos rfl, if_pos (by omega)]
  · rw [if_neg a]
    by_cases q : 1 ≤ j ∧ j < k
    · rw [if_pos q, if_pos (by omega)]
    · rw [if_neg q, if_neg (by omega)]
set_option maxHeartbeats 1000000 in
set_option maxRecDepth 100000 in
theorem l_X4_lessen2N {μ : Mem} {b : Nat} {N A B : Pl} {s : Int} {F : Pl} {ba pl : Int} {w L : BitVec 64} (hb : b < 2) (hba : 0 ≤ ba ∧ ba ≤ 143) (hpl : 0 ≤ pl ∧ pl ≤ 143) (hdj : ba + 9 ≤ pl ∨ pl + 9 ≤ ba) (hF : ∀ i, 4 ≤ i → i < 9 → N (pl + i) = F (pl + i)) : ∀ (n : Nat) (k : Int), 4 ≤ k ∧ k ≤ 9 → (9 - k).toNat < n → PW shC 0 mX4_lessen 79 [(0, vr (3 + b)), (1, vi ba), (2, vr (22 + 7 * b)), (3, vi pl), (4, vl w), (6, vl L), (8, vi k)] [] (stM μ b (les2 N F pl ba L k) A B s) (QL (fun z μ' => z = L ∧ μ' = stM μ b (les2 N F pl ba L 9) A B s)) := by
  intro n
  induction n with
  | zero => intro k _ q; omega
  | succ n ih =>
  intro k hk hn
  refine P_iload (pc := 79) dX4_lessen_79 6 rfl ?_
  refine P_bipush (pc := 81) dX4_lessen_81 (by decide) ?_
  refine P_icmp_ge (tgt := 127) (pc := 83) dX4_lessen_83 (by decide) (by first | assumption | (unfold InR; omega)) (by first | assumption | (unfold InR; omega)) (fun c_83 => ?_) (fun c_83 => ?_)
  · refine P_lload (pc := 127) dX4_lessen_127 5 rfl ?_
    exact P_lret (pc := 129) dX4_lessen_129 rfl (QL.mk (by first | (have e9 : k = 9 := (by omega); subst e9; exact ⟨rfl, rfl⟩) | (have e9 : k = 4 := (by omega); subst e9; exact ⟨rfl, by rw [if_pos (by assumption), lesN_z (by assumption)]⟩)))
  · refine P_aload_n (pc := 86) dX4_lessen_86 rfl 0 rfl ?_
    refine P_getR (pc := 87) dX4_lessen_87 fa_RX4_9 (sS_o hb) fS_2 ?_
    refine P_iload_n (pc := 90) dX4_lessen_90 rfl 1 rfl ?_
    refine P_iload (pc := 91) dX4_lessen_91 6 rfl ?_
    refine P_iadd (pc := 93) dX4_lessen_93 ?_
    refine P_aload_n (pc := 94) dX4_lessen_94 rfl 0 rfl ?_
    refine P_getR (pc := 95) dX4_lessen_95 fa_RX4_9 (sS_o hb) fS_2 ?_
    refine P_iload_n (pc := 98) dX4_lessen_98 rfl 1 rfl ?_
    refine P_iload (pc := 99) dX4_lessen_99 6 rfl ?_
    refine P_iadd (pc := 101) dX4_lessen_101 ?_
    refine P_lald (pc := 102) dX4_lessen_102 (sS_22 hb) (by omega) (by omega) (by decide) ?_
    try simp (disch := omega) only [st_N, st_A, st_B, st_i, st_s, st_j, st_pN, st_pA, st_pB, st_ps, st_rN, st_rA, st_rB, les1_at, les2_at, mkN_at, kfN_0, lput_eq, lput_ne]
    refine P_lload (pc := 103) dX4_lessen_103 5 rfl ?_
    refine P_ldc2 (b := BitVec.allOnes 64) (pc := 105) dX4_lessen_105 kl_RX4_63 (by decide +kernel) ?_
    refine P_lnot (pc := 108) dX4_lessen_108 ?_
    refine P_land (pc := 109) dX4_lessen_109 ?_
    refine P_aload_n (pc := 110) dX4_lessen_110 rfl 2 rfl ?_
    refine P_iload_n (pc := 111) dX4_lessen_111 rfl 3 rfl ?_
    refine P_iload (pc := 112) dX4_lessen_112 6 rfl ?_
    refine P_iadd (pc := 114) dX4_lessen_114 ?_
    refine P_lald (pc := 115) dX4_lessen_115 (sS_22 hb) (by omega) (by omega) (by decide) ?_
    try simp (disch := omega) only [st_N, st_A, st_B, st_i, st_s, st_j, st_pN, st_pA, st_pB, st_ps, st_rN, st_rA, st_rB, les1_at, les2_at, mkN_at, kfN_0, lput_eq, lput_ne]
    rw [les2_pl hdj (by omega) (by omega), hF k (by omega) (by omega)]
    refine P_lload (pc := 116) dX4_lessen_116 5 rfl ?_
    refine P_land (pc := 118) dX4_lessen_118 ?_
    refine P_lor (pc := 119) dX4_lessen_119 ?_
    refine P_last (pc := 120) dX4_lessen_120 (sS_22 hb) (by omega) (by omega) (by decide) ?_
    try simp (disch := omega) only [st_N, st_A, st_B, st_i, st_s, st_j, st_pN, st_pA, st_pB, st_ps, st_rN, st_rA, st_rB, les1_at, les2_at, mkN_at, kfN_0, lput_eq, lput_ne]
    refine P_iinc (L' := [(8, vi _), (0, vr (3 + b)), (1, vi _), (2, vr (22 + 7 * b)), (3, vi _), (4, vl _), (6, vl _)]) (pc := 121) dX4_lessen_121 (by decide) 6 rfl rfl ?_
    refine P_goto (tgt := 79) (pc := 124) dX4_lessen_124 (by decide) ?_
    refine P_sub (L' := [(0, vr (3 + b)), (1, vi _), (2, vr (22 + 7 * b)), (3, vi _), (4, vl _), (6, vl _), (8, vi _)]) [1, 2, 3, 4, 5, 6, 0] rfl ?_
    refine P_cast (L' := [(0, vr (3 + b)), (1, vi ba), (2, vr (22 + 7 * b)), (3, vi pl), (4, vl w), (6, vl L), (8, vi (k + 1))]) rfl ?_ (ih (k + 1) (by omega) (by omega))
    rw [les2_s (by omega)]
set_option maxHeartbeats 1000000 in
set_option maxRecDepth 100000 in
theorem l_X4_lessen1N {μ : Mem} {b : Nat} {N A B : Pl} {s : Int} {ba pl : Int} {w : BitVec 64} (hb : b < 2) (hba : 0 ≤ ba ∧ ba ≤ 143) (hpl : 0 ≤ pl ∧ pl ≤ 143) (hdj : ba + 9 ≤ pl ∨ pl + 9 ≤ ba) : ∀ (n : Nat) (k : Int), 0 ≤ k ∧ k ≤ 4 → (4 - k).toNat < n → PW shC 0 mX4_lessen 6 [(0, vr (3 + b)), (1, vi ba), (2, vr (22 + 7 * b)), (3, vi pl), (4, vl w), (6, vl (lesL N N pl ba w k)), (8, vi k)] [] (stM μ b (les1 N N pl ba w k) A B s) (QL (fun z μ' => z = lesL N N pl ba w 4 ∧ μ' = stM μ b (lesN N N pl ba w) A B (if lesL N N pl ba w 4 = 0#64 then s else 1))) := by
  intro n
  induction n with
  | zero => intro k _ q; omega
  | succ n ih =>
  intro k hk hn
  refine P_iload (pc := 6) dX4_lessen_6 6 rfl ?_
  refine P_iconst (pc := 8) dX4_lessen_8 ?_
  refine P_icmp_ge (tgt := 64) (pc := 9) dX4_lessen_9 (by decide) (by first | assumption | (unfold InR; omega)) (by first | assumption | (unfold InR; omega)) (fun c_9 => ?_) (fun c_9 => ?_)
  · refine P_lload (pc := 64) dX4_lessen_64 5 rfl ?_
    refine P_lconst (b := 0#64) (pc := 66) dX4_lessen_66 rfl ?_
    refine P_lcmp_eq (tgt := 127) (pc := 67) dX4_lessen_67 dX4_lessen_68 (by decide) (fun c_67 => ?_) (fun c_67 => ?_)
    · refine P_lload (pc := 127) dX4_lessen_127 5 rfl ?_
      exact P_lret (pc := 129) dX4_lessen_129 rfl (QL.mk (by first | (have e9 : k = 9 := (by omega); subst e9; exact ⟨rfl, rfl⟩) | (have e9 : k = 4 := (by omega); subst e9; exact ⟨rfl, by rw [if_pos (by assumption), lesN_z (by assumption)]⟩)))
    · refine P_aload_n (pc := 71) dX4_lessen_71 rfl 0 rfl ?_
      refine P_iconst (pc := 72) dX4_lessen_72 ?_
      refine P_putZ (jj := 10) (pc := 73) dX4_lessen_73 fa_RX4_144 fp_4_10 (sS_o hb) fS_10 rfl (by omega) ?_
      try simp (disch := omega) only [st_N, st_A, st_B, st_i, st_s, st_j, st_pN, st_pA, st_pB, st_ps, st_rN, st_rA, st_rB, les1_at, les2_at, mkN_at, kfN_0, lput_eq, lput_ne]
      refine P_iconst (pc := 76) dX4_lessen_76 ?_
      refine P_istore (L' := [(8, vi _), (0, vr (3 + b)), (1, vi _), (2, vr (22 + 7 * b)), (3, vi _), (4, vl _), (6, vl _)]) (pc := 77) dX4_lessen_77 (by decide) rfl ?_
      refine P_sub (L' := [(0, vr (3 + b)), (1, vi _), (2, vr (22 + 7 * b)), (3, vi _), (4, vl _), (6, vl _), (8, vi _)]) [1, 2, 3, 4, 5, 6, 0] rfl ?_
      have hz : ¬ lesL N N pl ba w 4 = 0#64 := by have e9 : k = 4 := (by omega); subst e9; assumption
      have e9 : k = 4 := (by omega)
      subst e9
      rw [if_neg hz]
      unfold lesN
      refine P_cast (L' := [(0, vr (3 + b)), (1, vi ba), (2, vr (22 + 7 * b)), (3, vi pl), (4, vl w), (6, vl (lesL N N pl ba w 4)), (8, vi 4)]) rfl ?_ (l_X4_lessen2N hb hba hpl hdj (F := N) (fun i h0 h1 => les1_pl hdj (by omega) (by omega)) 6 4 (by omega) (by omega))
      rw [les2_4]
  · refine P_aload_n (pc := 12) dX4_lessen_12 rfl 2 rfl ?_
    refine P_iload_n (pc := 13) dX4_lessen_13 rfl 3 rfl ?_
    refine P_iload (pc := 14) dX4_lessen_14 6 rfl ?_
    refine P_iadd (pc := 16) dX4_lessen_16 ?_
    refine P_lald (pc := 17) dX4_lessen_17 (sS_22 hb) (by omega) (by omega) (by decide) ?_
    try simp (disch := omega) only [st_N, st_A, st_B, st_i, st_s, st_j, st_pN, st_pA, st_pB, st_ps, st_rN, st_rA, st_rB, les1_at, les2_at, mkN_at, kfN_0, lput_eq, lput_ne]
    rw [les1_pl hdj (by omega) (by omega)]
    refine P_lload (pc := 18) dX4_lessen_18 4 rfl ?_
    refine P_land (pc := 20) dX4_lessen_20 ?_
    refine P_aload_n (pc := 21) dX4_lessen_21 rfl 0 rfl ?_
    refine P_getR (pc := 22) dX4_lessen_22 fa_RX4_9 (sS_o hb) fS_2 ?_
    refine P_iload_n (pc := 25) dX4_lessen_25 rfl 1 rfl ?_
    refine P_iload (pc := 26) dX4_lessen_26 6 rfl ?_
    refine P_iadd (pc := 28) dX4_lessen_28 ?_
    refine P_lald (pc := 29) dX4_lessen_29 (sS_22 hb) (by omega) (by omega) (by decide) ?_
    try simp (disch := omega) only [st_N, st_A, st_B, st_i, st_s, st_j, st_pN, st_pA, st_pB, st_ps, st_rN, st_rA, st_rB, les1_at, les2_at, mkN_at, kfN_0, lput_eq, lput_ne]
    refine P_ldc2 (b := BitVec.allOnes 64) (pc := 30) dX4_lessen_30 kl_RX4_63 (by decide +kernel) ?_
    refine P_lnot (pc := 33) dX4_lessen_33 ?_
    refine P_land (pc := 34) dX4_lessen_34 ?_
    refine P_lstore (L' := [(9, vl _), (0, vr (3 + b)), (1, vi _), (2, vr (22 + 7 * b)), (3, vi _), (4, vl _), (6, vl _), (8, vi _)]) (pc := 35) dX4_lessen_35 (by decide) rfl ?_
    refine P_aload_n (pc := 37) dX4_lessen_37 rfl 1 rfl ?_
    refine P_getR (pc := 38) dX4_lessen_38 fa_RX4_9 (sS_o hb) fS_2 ?_
    refine P_iload_n (pc := 41) dX4_lessen_41 rfl 2 rfl ?_
    refine P_iload (pc := 42) dX4_lessen_42 7 rfl ?_
    refine P_iadd (pc := 44) dX4_lessen_44 ?_
    refine P_dup2_11 (pc := 45) dX4_lessen_45 rfl rfl ?_
    refine P_lald (pc := 46) dX4_lessen_46 (sS_22 hb) (by omega) (by omega) (by decide) ?_
    try simp (disch := omega) only [st_N, st_A, st_B, st_i, st_s, st_j, st_pN, st_pA, st_pB, st_ps, st_rN, st_rA, st_rB, les1_at, les2_at, mkN_at, kfN_0, lput_eq, lput_ne]
    refine P_lload (pc := 47) dX4_lessen_47 0 rfl ?_
    refine P_lor (pc := 49) dX4_lessen_49 ?_
    refine P_last (pc := 50) dX4_lessen_50 (sS_22 hb) (by omega) (by omega) (by decide) ?_
    try simp (disch := omega) only [st_N, st_A, st_B, st_i, st_s, st_j, st_pN, st_pA, st_pB, st_ps, st_rN, st_rA, st_rB, les1_at, les2_at, mkN_at, kfN_0, lput_eq, lput_ne]
    refine P_lload (pc := 51) dX4_lessen_51 6 rfl ?_
    refine P_lload (pc := 53) dX4_lessen_53 0 rfl ?_
    refine P_lor (pc := 55) dX4_lessen_55 ?_
    refine P_lstore (L' := [(6, vl _), (9, vl _), (0, vr (3 + b)), (1, vi _), (2, vr (22 + 7 * b)), (3, vi _), (4, vl _), (8, vi _)]) (pc := 56) dX4_lessen_56 (by decide) rfl ?_
    refine P_iinc (L' := [(8, vi _), (6, vl _), (9, vl _), (0, vr (3 + b)), (1, vi _), (2, vr (22 + 7 * b)), (3, vi _), (4, vl _)]) (pc := 58) dX4_lessen_58 (by decide) 7 rfl rfl ?_
    refine P_goto (tgt := 6) (pc := 61) dX4_lessen_61 (by decide) ?_
    refine P_sub (L' := [(0, vr (3 + b)), (1, vi _), (2, vr (22 + 7 * b)), (3, vi _), (4, vl _), (6, vl _), (8, vi _)]) [3, 4, 5, 6, 7, 1, 0] rfl ?_
    refine P_cast (L' := [(0, vr (3 + b)), (1, vi ba), (2, vr (22 + 7 * b)), (3, vi pl), (4, vl w), (6, vl (lesL N N pl ba w (k + 1))), (8, vi (k + 1))]) (by rw [lesL_s (by omega)]) ?_ (ih (k + 1) (by omega) (by omega))
    rw [les1_s (by omega)]
set_option maxHeartbeats 1000000 in
set_option maxRecDepth 100000 in
theorem c_X4_lessenN {μ : Mem} {b : Nat} {N A B : Pl} {s : Int} {ba pl : Int} {w : BitVec 64} (hb : b < 2) (hba : 0 ≤ ba ∧ ba ≤ 143) (hpl : 0 ≤ pl ∧ pl ≤ 143) (hdj : ba + 9 ≤ pl ∨ pl + 9 ≤ ba) : PC shC 0 mX4_lessen [vr (3 + b), vi ba, vr (22 + 7 * b), vi pl, vl w] (stM μ b N A B s) (QL (fun z μ' => z = lesL N N pl ba w 4 ∧ μ' = stM μ b (lesN N N pl ba w) A B (if lesL N N pl ba w 4 = 0#64 then s else 1))) := by
  refine PC.of (by decide +kernel) (Nat.le_of_ble_eq_true rfl) ?_
  refine P_sub (L' := [(0, vr (3 + b)), (1, vi ba), (2, vr (22 + 7 * b)), (3, vi pl), (4, vl w)]) [0, 1, 2, 3, 4] rfl ?_
  refine P_lconst (b := 0#64) (pc := 0) dX4_lessen_0 rfl ?_
  refine P_lstore (L' := [(6, vl _), (0, vr (3 + b)), (1, vi _), (2, vr (22 + 7 * b)), (3, vi _), (4, vl _)]) (pc := 1) dX4_lessen_1 (by decide) rfl ?_
  refine P_iconst (pc := 3) dX4_lessen_3 ?_
  refine P_istore (L' := [(8, vi _), (6, vl _), (0, vr (3 + b)), (1, vi _), (2, vr (22 + 7 * b)), (3, vi _), (4, vl _)]) (pc := 4) dX4_lessen_4 (by decide) rfl ?_
  refine P_sub (L' := [(0, vr (3 + b)), (1, vi _), (2, vr (22 + 7 * b)), (3, vi _), (4, vl _), (6, vl _), (8, vi _)]) [2, 3, 4, 5, 6, 1, 0] rfl ?_
  refine P_cast (L' := [(0, vr (3 + b)), (1, vi ba), (2, vr (22 + 7 * b)), (3, vi pl), (4, vl w), (6, vl (lesL N N pl ba w 0)), (8, vi 0)]) (by rw [lesL_0]) ?_ (l_X4_lessen1N hb hba hpl hdj 5 0 (by omega) (by omega))
  rw [les1_0]
set_option maxHeartbeats 1000000 in
set_option maxRecDepth 100000 in
theorem l_X4_lessen2A {μ : Mem} {b : Nat} {N A B : Pl} {s : Int} {ba pl : Int} {w L : BitVec 64} (hb : b < 2) (hba : 0 ≤ ba ∧ ba ≤ 143) (hpl : pl = 0) : ∀ (n : Nat) (k : Int), 4 ≤ k ∧ k ≤ 9 → (9 - k).toNat < n → PW shC 0 mX4_lessen 79 [(0, vr (3 + b)), (1, vi ba), (2, vr (27 + 7 * b)), (3, vi pl), (4, vl w), (6, vl L), (8, vi k)] [] (stM μ b (les2 N A pl ba L k) A B s) (QL (fun z μ' => z = L ∧ μ' = stM μ b (les2 N A pl ba L 9) A B s)) := by
  intro n
  induction n with
  | zero => intro k _ q; omega
  | succ n ih =>
  intro k hk hn
  refine P_iload (pc := 79) dX4_lessen_79 6 rfl ?_
  refine P_bipush (pc := 81) dX4_lessen_81 (by decide) ?_
  refine P_icmp_ge (tgt := 127) (pc := 83) dX4_lessen_83 (by decide) (by first | assumption | (unfold InR; omega)) (by first | assumption | (unfold InR; omega)) (fun c_83 => ?_) (fun c_83 => ?_)
  · refine P_lload (pc := 127) dX4_lessen_127 5 rfl ?_
    exact P_lret (pc := 129) dX4_lessen_129 rfl (QL.mk (by first | (have e9 : k = 9 := (by omega); subst e9; exact ⟨rfl, rfl⟩) | (have e9 : k = 4 := (by omega); subst e9; exact ⟨rfl, by rw [if_pos (by assumption), lesN_z (by assumption)]⟩)))
  · refine P_aload_n (pc := 86) dX4_lessen_86 rfl 0 rfl ?_
    refine P_getR (pc := 87) dX4_lessen_87 fa_RX4_9 (sS_o hb) fS_2 ?_
    refine P_iload_n (pc := 90) dX4_lessen_90 rfl 1 rfl ?_
    refine P_iload (pc := 91) dX4_lessen_91 6 rfl ?_
    refine P_iadd (pc := 93) dX4_lessen_93 ?_
    refine P_aload_n (pc := 94) dX4_lessen_94 rfl 0 rfl ?_
    refine P_getR (pc := 95) dX4_lessen_95 fa_RX4_9 (sS_o hb) fS_2 ?_
    refine P_iload_n (pc := 98) dX4_lessen_98 rfl 1 rfl ?_
    refine P_iload (pc := 99) dX4_lessen_99 6 rfl ?_
    refine P_iadd (pc := 101) dX4_lessen_101 ?_
    refine P_lald (pc := 102) dX4_lessen_102 (sS_22 hb) (by omega) (by omega) (by decide) ?_
    try simp (disch := omega) only [st_N, st_A, st_B, st_i, st_s, st_j, st_pN, st_pA, st_pB, st_ps, st_rN, st_rA, st_rB, les1_at, les2_at, mkN_at, kfN_0, lput_eq, lput_ne]
    refine P_lload (pc := 103) dX4_lessen_103 5 rfl ?_
    refine P_ldc2 (b := BitVec.allOnes 64) (pc := 105) dX4_lessen_105 kl_RX4_63 (by decide +kernel) ?_
    refine P_lnot (pc := 108) dX4_lessen_108 ?_
    refine P_land (pc := 109) dX4_lessen_109 ?_
    refine P_aload_n (pc := 110) dX4_lessen_110 rfl 2 rfl ?_
    refine P_iload_n (pc := 111) dX4_lessen_111 rfl 3 rfl ?_
    refine P_iload (pc := 112) dX4_lessen_112 6 rfl ?_
    refine P_iadd (pc := 114) dX4_lessen_114 ?_
    refine P_lald (pc := 115) dX4_lessen_115 (sS_27 hb) (by omega) (by omega) (by decide) ?_
    try simp (disch := omega) only [st_N, st_A, st_B, st_i, st_s, st_j, st_pN, st_pA, st_pB, st_ps, st_rN, st_rA, st_rB, les1_at, les2_at, mkN_at, kfN_0, lput_eq, lput_ne]
    refine P_lload (pc := 116) dX4_lessen_116 5 rfl ?_
    refine P_land (pc := 118) dX4_lessen_118 ?_
    refine P_lor (pc := 119) dX4_lessen_119 ?_
    refine P_last (pc := 120) dX4_lessen_120 (sS_22 hb) (by omega) (by omega) (by decide) ?_
    try simp (disch := omega) only [st_N, st_A, st_B, st_i, st_s, st_j, st_pN, st_pA, st_pB, st_ps, st_rN, st_rA, st_rB, les1_at, les2_at, mkN_at, kfN_0, lput_eq, lput_ne]
    refine P_iinc (L' := [(8, vi _), (0, vr (3 + b)), (1, vi _), (2, vr (27 + 7 * b)), (3, vi _), (4, vl _), (6, vl _)]) (pc := 121) dX4_lessen_121 (by decide) 6 rfl rfl ?_
    refine P_goto (tgt := 79) (pc := 124) dX4_lessen_124 (by decide) ?_
    refine P_sub (L' := [(0, vr (3 + b)), (1, vi _), (2, vr (27 + 7 * b)), (3, vi _), (4, vl _), (6, vl _), (8, vi _)]) [1, 2, 3, 4, 5, 6, 0] rfl ?_
    refine P_cast (L' := [(0, vr (3 + b)), (1, vi ba), (2, vr (27 + 7 * b)), (3, vi pl), (4, vl w), (6, vl L), (8, vi (k + 1))]) rfl ?_ (ih (k + 1) (by omega) (by omega))
    rw [les2_s (by omega)]
set_option maxHeartbeats 1000000 in
set_option maxRecDepth 100000 in
theorem l_X4_lessen1A {μ : Mem} {b : Nat} {N A B : Pl} {s : Int} {ba pl : Int} {w : BitVec 64} (hb : b < 2) (hba : 0 ≤ ba ∧ ba ≤ 143) (hpl : pl = 0) : ∀ (n : Nat) (k : Int), 0 ≤ k ∧ k ≤ 4 → (4 - k).toNat < n → PW shC 0 mX4_lessen 6 [(0, vr (3 + b)), (1, vi ba), (2, vr (27 + 7 * b)), (3, vi pl), (4, vl w), (6, vl (lesL N A pl ba w k)), (8, vi k)] [] (stM μ b (les1 N A pl ba w k) A B s) (QL (fun z μ' => z = lesL N A pl ba w 4 ∧ μ' = stM μ b (lesN N A pl ba w) A B (if lesL N A pl ba w 4 = 0#64 then s else 1))) := by
  intro n
  induction n with
  | zero => intro k _ q; omega
  | succ n ih =>
  intro k hk hn
  refine P_iload (pc := 6) dX4_lessen_6 6 rfl ?_
  refine P_iconst (pc := 8) dX4_lessen_8 ?_
  refine P_icmp_ge (tgt := 64) (pc := 9) dX4_lessen_9 (by decide) (by first | assumption | (unfold InR; omega)) (by first | assumption | (unfold InR; omega)) (fun c_9 => ?_) (fun c_9 => ?_)
  · refine P_lload (pc := 64) dX4_lessen_64 5 rfl ?_
    refine P_lconst (b := 0#64) (pc := 66) dX4_lessen_66 rfl ?_
    refine P_lcmp_eq (tgt := 127) (pc := 67) dX4_lessen_67 dX4_lessen_68 (by decide) (fun c_67 => ?_) (fun c_67 => ?_)
    · refine P_lload (pc := 127) dX4_lessen_127 5 rfl ?_
      exact P_lret (pc := 129) dX4_lessen_129 rfl (QL.mk (by first | (have e9 : k = 9 := (by omega); subst e9; exact ⟨rfl, rfl⟩) | (have e9 : k = 4 := (by omega); subst e9; exact ⟨rfl, by rw [if_pos (by assumption), lesN_z (by assumption)]⟩)))
    · refine P_aload_n (pc := 71) dX4_lessen_71 rfl 0 rfl ?_
      refine P_iconst (pc := 72) dX4_lessen_72 ?_
      refine P_putZ (jj := 10) (pc := 73) dX4_lessen_73 fa_RX4_144 fp_4_10 (sS_o hb) fS_10 rfl (by omega) ?_
      try simp (disch := omega) only [st_N, st_A, st_B, st_i, st_s, st_j, st_pN, st_pA, st_pB, st_ps, st_rN, st_rA, st_rB, les1_at, les2_at, mkN_at, kfN_0, lput_eq, lput_ne]
      refine P_iconst (pc := 76) dX4_lessen_76 ?_
      refine P_istore (L' := [(8, vi _), (0, vr (3 + b)), (1, vi _), (2, vr (27 + 7 * b)), (3, vi _), (4, vl _), (6, vl _)]) (pc := 77) dX4_lessen_77 (by decide) rfl ?_
      refine P_sub (L' := [(0, vr (3 + b)), (1, vi _), (2, vr (27 + 7 * b)), (3, vi _), (4, vl _), (6, vl _), (8, vi _)]) [1, 2, 3, 4, 5, 6, 0] rfl ?_
      have hz : ¬ lesL N A pl ba w 4 = 0#64 := by have e9 : k = 4 := (by omega); subst e9; assumption
      have e9 : k = 4 := (by omega)
      subst e9
      rw [if_neg hz]
      unfold lesN
      refine P_cast (L' := [(0, vr (3 + b)), (1, vi ba), (2, vr (27 + 7 * b)), (3, vi pl), (4, vl w), (6, vl (lesL N A pl ba w 4)), (8, vi 4)]) rfl ?_ (l_X4_lessen2A hb hba hpl 6 4 (by omega) (by omega))
      rw [les2_4]
  · refine P_aload_n (pc := 12) dX4_lessen_12 rfl 2 rfl ?_
    refine P_iload_n (pc := 13) dX4_lessen_13 rfl 3 rfl ?_
    refine P_iload (pc := 14) dX4_lessen_14 6 rfl ?_
    refine P_iadd (pc := 16) dX4_lessen_16 ?_
    refine P_lald (pc := 17) dX4_lessen_17 (sS_27 hb) (by omega) (by omega) (by decide) ?_
    try simp (disch := omega) only [st_N, st_A, st_B, st_i, st_s, st_j, st_pN, st_pA, st_pB, st_ps, st_rN, st_rA, st_rB, les1_at, les2_at, mkN_at, kfN_0, lput_eq, lput_ne]
    refine P_lload (pc := 18) dX4_lessen_18 4 rfl ?_
    refine P_land (pc := 20) dX4_lessen_20 ?_
    refine P_aload_n (pc := 21) dX4_lessen_21 rfl 0 rfl ?_
    refine P_getR (pc := 22) dX4_lessen_22 fa_RX4_9 (sS_o hb) fS_2 ?_
    refine P_iload_n (pc := 25) dX4_lessen_25 rfl 1 rfl ?_
    refine P_iload (pc := 26) dX4_lessen_26 6 rfl ?_
    refine P_iadd (pc := 28) dX4_lessen_28 ?_
    refine P_lald (pc := 29) dX4_lessen_29 (sS_22 hb) (by omega) (by omega) (by decide) ?_
    try simp (disch := omega) only [st_N, st_A, st_B, st_i, st_s, st_j, st_pN, st_pA, st_pB, st_ps, st_rN, st_rA, st_rB, les1_at, les2_at, mkN_at, kfN_0, lput_eq, lput_ne]
    refine P_ldc2 (b := BitVec.allOnes 64) (pc := 30) dX4_lessen_30 kl_RX4_63 (by decide +kernel) ?_
    refine P_lnot (pc := 33) dX4_lessen_33 ?_
    refine P_land (pc := 34) dX4_lessen_34 ?_
    refine P_lstore (L' := [(9, vl _), (0, vr (3 + b)), (1, vi _), (2, vr (27 + 7 * b)), (3, vi _), (4, vl _), (6, vl _), (8, vi _)]) (pc := 35) dX4_lessen_35 (by decide) rfl ?_
    refine P_aload_n (pc := 37) dX4_lessen_37 rfl 1 rfl ?_
    refine P_getR (pc := 38) dX4_lessen_38 fa_RX4_9 (sS_o hb) fS_2 ?_
    refine P_iload_n (pc := 41) dX4_lessen_41 rfl 2 rfl ?_
    refine P_iload (pc := 42) dX4_lessen_42 7 rfl ?_
    refine P_iadd (pc := 44) dX4_lessen_44 ?_
    refine P_dup2_11 (pc := 45) dX4_lessen_45 rfl rfl ?_
    refine P_lald (pc := 46) dX4_lessen_46 (sS_22 hb) (by omega) (by omega) (by decide) ?_
    try simp (disch := omega) only [st_N, st_A, st_B, st_i, st_s, st_j, st_pN, st_pA, st_pB, st_ps, st_rN, st_rA, st_rB, les1_at, les2_at, mkN_at, kfN_0, lput_eq, lput_ne]
    refine P_lload (pc := 47) dX4_lessen_47 0 rfl ?_
    refine P_lor (pc := 49) dX4_lessen_49 ?_
    refine P_last (pc := 50) dX4_lessen_50 (sS_22 hb) (by omega) (by omega) (by decide) ?_
    try simp (disch := omega) only [st_N, st_A, st_B, st_i, st_s, st_j, st_pN, st_pA, st_pB, st_ps, st_rN, st_rA, st_rB, les1_at, les2_at, mkN_at, kfN_0, lput_eq, lput_ne]
    refine P_lload (pc := 51) dX4_lessen_51 6 rfl ?_
    refine P_lload (pc := 53) dX4_lessen_53 0 rfl ?_
    refine P_lor (pc := 55) dX4_lessen_55 ?_
    refine P_lstore (L' := [(6, vl _), (9, vl _), (0, vr (3 + b)), (1, vi _), (2, vr (27 + 7 * b)), (3, vi _), (4, vl _), (8, vi _)]) (pc := 56) dX4_lessen_56 (by decide) rfl ?_
    refine P_iinc (L' := [(8, vi _), (6, vl _), (9, vl _), (0, vr (3 + b)), (1, vi _), (2, vr (27 + 7 * b)), (3, vi _), (4, vl _)]) (pc := 58) dX4_lessen_58 (by decide) 7 rfl rfl ?_
    refine P_goto (tgt := 6) (pc := 61) dX4_lessen_61 (by decide) ?_
    refine P_sub (L' := [(0, vr (3 + b)), (1, vi _), (2, vr (27 + 7 * b)), (3, vi _), (4, vl _), (6, vl _), (8, vi _)]) [3, 4, 5, 6, 7, 1, 0] rfl ?_
    refine P_cast (L' := [(0, vr (3 + b)), (1, vi ba), (2, vr (27 + 7 * b)), (3, vi pl), (4, vl w), (6, vl (lesL N A pl ba w (k + 1))), (8, vi (k + 1))]) (by rw [lesL_s (by omega)]) ?_ (ih (k + 1) (by omega) (by omega))
    rw [les1_s (by omega)]
set_option maxHeartbeats 1000000 in
set_option maxRecDepth 100000 in
theorem c_X4_lessenA {μ : Mem} {b : Nat} {N A B : Pl} {s : Int} {ba pl : Int} {w : BitVec 64} (hb : b < 2) (hba : 0 ≤ ba ∧ ba ≤ 143) (hpl : pl = 0) : PC shC 0 mX4_lessen [vr (3 + b), vi ba, vr (27 + 7 * b), vi pl, vl w] (stM μ b N A B s) (QL (fun z μ' => z = lesL N A pl ba w 4 ∧ μ' = stM μ b (lesN N A pl ba w) A B (if lesL N A pl ba w 4 = 0#64 then s else 1))) := by
  refine PC.of (by decide +kernel) (Nat.le_of_ble_eq_true rfl) ?_
  refine P_sub (L' := [(0, vr (3 + b)), (1, vi ba), (2, vr (27 + 7 * b)), (3, vi pl), (4, vl w)]) [0, 1, 2, 3, 4] rfl ?_
  refine P_lconst (b := 0#64) (pc := 0) dX4_lessen_0 rfl ?_
  refine P_lstore (L' := [(6, vl _), (0, vr (3 + b)), (1, vi _), (2, vr (27 + 7 * b)), (3, vi _), (4, vl _)]) (pc := 1) dX4_lessen_1 (by decide) rfl ?_
  refine P_iconst (pc := 3) dX4_lessen_3 ?_
  refine P_istore (L' := [(8, vi _), (6, vl _), (0, vr (3 + b)), (1, vi _), (2, vr (27 + 7 * b)), (3, vi _), (4, vl _)]) (pc := 4) dX4_lessen_4 (by decide) rfl ?_
  refine P_sub (L' := [(0, vr (3 + b)), (1, vi _), (2, vr (27 + 7 * b)), (3, vi _), (4, vl _), (6, vl _), (8, vi _)]) [2, 3, 4, 5, 6, 1, 0] rfl ?_
  refine P_cast (L' := [(0, vr (3 + b)), (1, vi ba), (2, vr (27 + 7 * b)), (3, vi pl), (4, vl w), (6, vl (lesL N A pl ba w 0)), (8, vi 0)]) (by rw [lesL_0]) ?_ (l_X4_lessen1A hb hba hpl 5 0 (by omega) (by omega))
  rw [les1_0]
set_option maxHeartbeats 1000000 in
set_option maxRecDepth 100000 in
theorem l_X4_lessen2B {μ : Mem} {b : Nat} {N A B : Pl} {s : Int} {ba pl : Int} {w L : BitVec 64} (hb : b < 2) (hba : 0 ≤ ba ∧ ba ≤ 143) (hpl : pl = 0) : ∀ (n : Nat) (k : Int), 4 ≤ k ∧ k ≤ 9 → (9 - k).toNat < n → PW shC 0 mX4_lessen 79 [(0, vr (3 + b)), (1, vi ba), (2, vr (28 + 7 * b)), (3, vi pl), (4, vl w), (6, vl L), (8, vi k)] [] (stM μ b (les2 N B pl ba L k) A B s) (QL (fun z μ' => z = L ∧ μ' = stM μ b (les2 N B pl ba L 9) A B s)) := by
  intro n
  induction n with
  | zero => intro k _ q; omega
  | succ n ih =>
  intro k hk hn
  refine P_iload (pc := 79) dX4_lessen_79 6 rfl ?_
  refine P_bipush (pc := 81) dX4_lessen_81 (by decide) ?_
  refine P_icmp_ge (tgt := 127) (pc := 83) dX4_lessen_83 (by decide) (by first | assumption | (unfold InR; omega)) (by first | assumption | (unfold InR; omega)) (fun c_83 => ?_) (fun c_83 => ?_)
  · refine P_lload (pc := 127) dX4_lessen_127 5 rfl ?_
    exact P_lret (pc := 129) dX4_lessen_129 rfl (QL.mk (by first | (have e9 : k = 9 := (by omega); subst e9; exact ⟨rfl, rfl⟩) | (have e9 : k = 4 := (by omega); subst e9; exact ⟨rfl, by rw [if_pos (by assumption), lesN_z (by assumption)]⟩)))
  · refine P_aload_n (pc := 86) dX4_lessen_86 rfl 0 rfl ?_
    refine P_getR (pc := 87) dX4_lessen_87 fa_RX4_9 (sS_o hb) fS_2 ?_
    refine P_iload_n (pc := 90) dX4_lessen_90 rfl 1 rfl ?_
    refine P_iload (pc := 91) dX4_lessen_91 6 rfl ?_
    refine P_iadd (pc := 93) dX4_lessen_93 ?_
    refine P_aload_n (pc := 94) dX4_lessen_94 rfl 0 rfl ?_
    refine P_getR (pc := 95) dX4_lessen_95 fa_RX4_9 (sS_o hb) fS_2 ?_
    refine P_iload_n (pc := 98) dX4_lessen_98 rfl 1 rfl ?_
    refine P_iload (pc := 99) dX4_lessen_99 6 rfl ?_
    refine P_iadd (pc := 101) dX4_lessen_101 ?_
    refine P_lald (pc := 102) dX4_lessen_102 (sS_22 hb) (by omega) (by omega) (by decide) ?_
    try simp (disch := omega) only [st_N, st_A, st_B, st_i, st_s, st_j, st_pN, st_pA, st_pB, st_ps, st_rN, st_rA, st_rB, les1_at, les2_at, mkN_at, kfN_0, lput_eq, lput_ne]
    refine P_lload (pc := 103) dX4_lessen_103 5 rfl ?_
    refine P_ldc2 (b := BitVec.allOnes 64) (pc := 105) dX4_lessen_105 kl_RX4_63 (by decide +kernel) ?_
    refine P_lnot (pc := 108) dX4_lessen_108 ?_
    refine P_land (pc := 109) dX4_lessen_109 ?_
    refine P_aload_n (pc := 110) dX4_lessen_110 rfl 2 rfl ?_
    refine P_iload_n (pc := 111) dX4_lessen_111 rfl 3 rfl ?_
    refine P_iload (pc := 112) dX4_lessen_112 6 rfl ?_
    refine P_iadd (pc := 114) dX4_lessen_114 ?_
    refine P_lald (pc := 115) dX4_lessen_115 (sS_28 hb) (by omega) (by omega) (by decide) ?_
    try simp (disch := omega) only [st_N, st_A, st_B, st_i, st_s, st_j, st_pN, st_pA, st_pB, st_ps, st_rN, st_rA, st_rB, les1_at, les2_at, mkN_at, kfN_0, lput_eq, lput_ne]
    refine P_lload (pc := 116) dX4_lessen_116 5 rfl ?_
    refine P_land (pc := 118) dX4_lessen_118 ?_
    refine P_lor (pc := 119) dX4_lessen_119 ?_
    refine P_last (pc := 120) dX4_lessen_120 (sS_22 hb) (by omega) (by omega) (by decide) ?_
    try simp (disch := omega) only [st_N, st_A, st_B, st_i, st_s, st_j, st_pN, st_pA, st_pB, st_ps, st_rN, st_rA, st_rB, les1_at, les2_at, mkN_at, kfN_0, lput_eq, lput_ne]
    refine P_iinc (L' := [(8, vi _), (0, vr (3 + b)), (1, vi _), (2, vr (28 + 7 * b)), (3, vi _), (4, vl _), (6, vl _)]) (pc := 121) dX4_lessen_121 (by decide) 6 rfl rfl ?_
    refine P_goto (tgt := 79) (pc := 124) dX4_lessen_124 (by decide) ?_
    refine P_sub (L' := [(0, vr (3 + b)), (1, vi _), (2, vr (28 + 7 * b)), (3, vi _), (4, vl _), (6, vl _), (8, vi _)]) [1, 2, 3, 4, 5, 6, 0] rfl ?_
    refine P_cast (L' := [(0, vr (3 + b)), (1, vi ba), (2, vr (28 + 7 * b)), (3, vi pl), (4, vl w), (6, vl L), (8, vi (k + 1))]) rfl ?_ (ih (k + 1) (by omega) (by omega))
    rw [les2_s (by omega)]
set_option maxHeartbeats 1000000 in
set_option maxRecDepth 100000 in
theorem l_X4_lessen1B {μ : Mem} {b : Nat} {N A B : Pl} {s : Int} {ba pl : Int} {w : BitVec 64} (hb : b < 2) (hba : 0 ≤ ba ∧ ba ≤ 143) (hpl : pl = 0) : ∀ (n : Nat) (k : Int), 0 ≤ k ∧ k ≤ 4 → (4 - k).toNat < n → PW shC 0 mX4_lessen 6 [(0, vr (3 + b)), (1, vi ba), (2, vr (28 + 7 * b)), (3, vi pl), (4, vl w), (6, vl (lesL N B pl ba w k)), (8, vi k)] [] (stM μ b (les1 N B pl ba w k) A B s) (QL (fun z μ' => z = lesL N B pl ba w 4 ∧ μ' = stM μ b (lesN N B pl ba w) A B (if lesL N B pl ba w 4 = 0#64 then s else 1))) := by
  intro n
  induction n with
  | zero => intro k _ q; omega
  | succ n ih =>
  intro k hk hn
  refine P_iload (pc := 6) dX4_lessen_6 6 rfl ?_
  refine P_iconst (pc := 8) dX4_lessen_8 ?_
  refine P_icmp_ge (tgt := 64) (pc := 9) dX4_lessen_9 (by decide) (by first | assumption | (unfold InR; omega)) (by first | assumption | (unfold InR; omega)) (fun c_9 => ?_) (fun c_9 => ?_)
  · refine P_lload (pc := 64) dX4_lessen_64 5 rfl ?_
    refine P_lconst (b := 0#64) (pc := 66) dX4_lessen_66 rfl ?_
    refine P_lcmp_eq (tgt := 127) (pc := 67) dX4_lessen_67 dX4_lessen_68 (by decide) (fun c_67 => ?_) (fun c_67 => ?_)
    · refine P_lload (pc := 127) dX4_lessen_127 5 rfl ?_
      exact P_lret (pc := 129) dX4_lessen_129 rfl (QL.mk (by first | (have e9 : k = 9 := (by omega); subst e9; exact ⟨rfl, rfl⟩) | (have e9 : k = 4 := (by omega); subst e9; exact ⟨rfl, by rw [if_pos (by assumption), lesN_z (by assumption)]⟩)))
    · refine P_aload_n (pc := 71) dX4_lessen_71 rfl 0 rfl ?_
      refine P_iconst (pc := 72) dX4_lessen_72 ?_
      refine P_putZ (jj := 10) (pc := 73) dX4_lessen_73 fa_RX4_144 fp_4_10 (sS_o hb) fS_10 rfl (by omega) ?_
      try simp (disch := omega) only [st_N, st_A, st_B, st_i, st_s, st_j, st_pN, st_pA, st_pB, st_ps, st_rN, st_rA, st_rB, les1_at, les2_at, mkN_at, kfN_0, lput_eq, lput_ne]
      refine P_iconst (pc := 76) dX4_lessen_76 ?_
      refine P_istore (L' := [(8, vi _), (0, vr (3 + b)), (1, vi _), (2, vr (28 + 7 * b)), (3, vi _), (4, vl _), (6, vl _)]) (pc := 77) dX4_lessen_77 (by decide) rfl ?_
      refine P_sub (L' := [(0, vr (3 + b)), (1, vi _), (2, vr (28 + 7 * b)), (3, vi _), (4, vl _), (6, vl _), (8, vi _)]) [1, 2, 3, 4, 5, 6, 0] rfl ?_
      have hz : ¬ lesL N B pl ba w 4 = 0#64 := by have e9 : k = 4 := (by omega); subst e9; assumption
      have e9 : k = 4 := (by omega)
      subst e9
      rw [if_neg hz]
      unfold lesN
      refine P_cast (L' := [(0, vr (3 + b)), (1, vi ba), (2, vr (28 + 7 * b)), (3, vi pl), (4, vl w), (6, vl (lesL N B pl ba w 4)), (8, vi 4)]) rfl ?_ (l_X4_lessen2B hb hba hpl 6 4 (by omega) (by omega))
      rw [les2_4]
  · refine P_aload_n (pc := 12) dX4_lessen_12 rfl 2 rfl ?_
    refine P_iload_n (pc := 13) dX4_lessen_13 rfl 3 rfl ?_
    refine P_iload (pc := 14) dX4_lessen_14 6 rfl ?_
    refine P_iadd (pc := 16) dX4_lessen_16 ?_
    refine P_lald (pc := 17) dX4_lessen_17 (sS_28 hb) (by omega) (by omega) (by decide) ?_
    try simp (disch := omega) only [st_N, st_A, st_B, st_i, st_s, st_j, st_pN, st_pA, st_pB, st_ps, st_rN, st_rA, st_rB, les1_at, les2_at, mkN_at, kfN_0, lput_eq, lput_ne]
    refine P_lload (pc := 18) dX4_lessen_18 4 rfl ?_
    refine P_land (pc := 20) dX4_lessen_20 ?_
    refine P_aload_n (pc := 21) dX4_lessen_21 rfl 0 rfl ?_
    refine P_getR (pc := 22) dX4_lessen_22 fa_RX4_9 (sS_o hb) fS_2 ?_
    refine P_iload_n (pc := 25) dX4_lessen_25 rfl 1 rfl ?_
    refine P_iload (pc := 26) dX4_lessen_26 6 rfl ?_
    refine P_iadd (pc := 28) dX4_lessen_28 ?_
    refine P_lald (pc := 29) dX4_lessen_29 (sS_22 hb) (by omega) (by omega) (by decide) ?_
    try simp (disch := omega) only [st_N, st_A, st_B, st_i, st_s, st_j, st_pN, st_pA, st_pB, st_ps, st_rN, st_rA, st_rB, les1_at, les2_at, mkN_at, kfN_0, lput_eq, lput_ne]
    refine P_ldc2 (b := BitVec.allOnes 64) (pc := 30) dX4_lessen_30 kl_RX4_63 (by decide +kernel) ?_
    refine P_lnot (pc := 33) dX4_lessen_33 ?_
    refine P_land (pc := 34) dX4_lessen_34 ?_
    refine P_lstore (L' := [(9, vl _), (0, vr (3 + b)), (1, vi _), (2, vr (28 + 7 * b)), (3, vi _), (4, vl _), (6, vl _), (8, vi _)]) (pc := 35) dX4_lessen_35 (by decide) rfl ?_
    refine P_aload_n (pc := 37) dX4_lessen_37 rfl 1 rfl ?_
    refine P_getR (pc := 38) dX4_lessen_38 fa_RX4_9 (sS_o hb) fS_2 ?_
    refine P_iload_n (pc := 41) dX4_lessen_41 rfl 2 rfl ?_
    refine P_iload (pc := 42) dX4_lessen_42 7 rfl ?_
    refine P_iadd (pc := 44) dX4_lessen_44 ?_
    refine P_dup2_11 (pc := 45) dX4_lessen_45 rfl rfl ?_
    refine P_lald (pc := 46) dX4_lessen_46 (sS_22 hb) (by omega) (by omega) (by decide) ?_
    try simp (disch := omega) only [st_N, st_A, st_B, st_i, st_s, st_j, st_pN, st_pA, st_pB, st_ps, st_rN, st_rA, st_rB, les1_at, les2_at, mkN_at, kfN_0, lput_eq, lput_ne]
    refine P_lload (pc := 47) dX4_lessen_47 0 rfl ?_
    refine P_lor (pc := 49) dX4_lessen_49 ?_
    refine P_last (pc := 50) dX4_lessen_50 (sS_22 hb) (by omega) (by omega) (by decide) ?_
    try simp (disch := omega) only [st_N, st_A, st_B, st_i, st_s, st_j, st_pN, st_pA, st_pB, st_ps, st_rN, st_rA, st_rB, les1_at, les2_at, mkN_at, kfN_0, lput_eq, lput_ne]
    refine P_lload (pc := 51) dX4_lessen_51 6 rfl ?_
    refine P_lload (pc := 53) dX4_lessen_53 0 rfl ?_
    refine P_lor (pc := 55) dX4_lessen_55 ?_
    refine P_lstore (L' := [(6, vl _), (9, vl _), (0, vr (3 + b)), (1, vi _), (2, vr (28 + 7 * b)), (3, vi _), (4, vl _), (8, vi _)]) (pc := 56) dX4_lessen_56 (by decide) rfl ?_
    refine P_iinc (L' := [(8, vi _), (6, vl _), (9, vl _), (0, vr (3 + b)), (1, vi _), (2, vr (28 + 7 * b)), (3, vi _), (4, vl _)]) (pc := 58) dX4_lessen_58 (by decide) 7 rfl rfl ?_
    refine P_goto (tgt := 6) (pc := 61) dX4_lessen_61 (by decide) ?_
    refine P_sub (L' := [(0, vr (3 + b)), (1, vi _), (2, vr (28 + 7 * b)), (3, vi _), (4, vl _), (6, vl _), (8, vi _)]) [3, 4, 5, 6, 7, 1, 0] rfl ?_
    refine P_cast (L' := [(0, vr (3 + b)), (1, vi ba), (2, vr (28 + 7 * b)), (3, vi pl), (4, vl w), (6, vl (lesL N B pl ba w (k + 1))), (8, vi (k + 1))]) (by rw [lesL_s (by omega)]) ?_ (ih (k + 1) (by omega) (by omega))
    rw [les1_s (by omega)]
set_option maxHeartbeats 1000000 in
set_option maxRecDepth 100000 in
theorem c_X4_lessenB {μ : Mem} {b : Nat} {N A B : Pl} {s : Int} {ba pl : Int} {w : BitVec 64} (hb : b < 2) (hba : 0 ≤ ba ∧ ba ≤ 143) (hpl : pl = 0) : PC shC 0 mX4_lessen [vr (3 + b), vi ba, vr (28 + 7 * b), vi pl, vl w] (stM μ b N A B s) (QL (fun z μ' => z = lesL N B pl ba w 4 ∧ μ' = stM μ b (lesN N B pl ba w) A B (if lesL N B pl ba w 4 = 0#64 then s else 1))) := by
  refine PC.of (by decide +kernel) (Nat.le_of_ble_eq_true rfl) ?_
  refine P_sub (L' := [(0, vr (3 + b)), (1, vi ba), (2, vr (28 + 7 * b)), (3, vi pl), (4, vl w)]) [0, 1, 2, 3, 4] rfl ?_
  refine P_lconst (b := 0#64) (pc := 0) dX4_lessen_0 rfl ?_
  refine P_lstore (L' := [(6, vl _), (0, vr (3 + b)), (1, vi _), (2, vr (28 + 7 * b)), (3, vi _), (4, vl _)]) (pc := 1) dX4_lessen_1 (by decide) rfl ?_
  refine P_iconst (pc := 3) dX4_lessen_3 ?_
  refine P_istore (L' := [(8, vi _), (6, vl _), (0, vr (3 + b)), (1, vi _), (2, vr (28 + 7 * b)), (3, vi _), (4, vl _)]) (pc := 4) dX4_lessen_4 (by decide) rfl ?_
  refine P_sub (L' := [(0, vr (3 + b)), (1, vi _), (2, vr (28 + 7 * b)), (3, vi _), (4, vl _), (6, vl _), (8, vi _)]) [2, 3, 4, 5, 6, 1, 0] rfl ?_
  refine P_cast (L' := [(0, vr (3 + b)), (1, vi ba), (2, vr (28 + 7 * b)), (3, vi pl), (4, vl w), (6, vl (lesL N B pl ba w 0)), (8, vi 0)]) (by rw [lesL_0]) ?_ (l_X4_lessen1B hb hba hpl 5 0 (by omega) (by omega))
  rw [les1_0]
