theorem bit1 {x : BitVec 64} {w : Nat} : (x >>> w) &&& 1#64 = 1#64 ↔ x.getLsbD w = true := by
  constructor
  · intro h
    have := congrArg (fun y => BitVec.getLsbD y 0) h
    simpa using this
  · intro h
    apply BitVec.eq_of_getLsbD_eq
    intro i hi
    rw [BitVec.getLsbD_and, BitVec.getLsbD_ushiftRight, BitVec.getLsbD_one]
    by_cases q : i = 0
    · subst q
      rw [Nat.add_zero, h]
      rfl
    · rw [decide_eq_false q, Bool.and_false, Bool.and_false]
theorem TD_pl {φ : Int → Bool} {pl m u k : Int} (h : TD φ pl m u) (hk : 0 ≤ k ∧ k < 4) : φ (pl + k) = decide (1 ≤ m ∧ m ≤ k + 1) := by
  have := TD_at h (g := k + 1) (by omega)
  rw [show k + 1 - 1 = k by omega] at this
  exact this
/-- whether the things of a set are clean in some ways -/
def arB (N : Pl) (th : Nat) (V : BitVec 64) : Nat → Bool := allF (fun t => !(th.testBit t) || decide (N ((t : Int) * 13 + 3) &&& V = 0#64))
/-- sources found in some ways -/
def frD (N : Pl) (t : Int) (V : BitVec 64) (src : Nat) : Nat → BitVec 64
  | 0 => V &&& N (t * 13 + 3)
  | k + 1 => frD N t V src k &&& (if src.testBit k = true then N (t * 13 + 4 + (k : Int)) else ~~~(N (t * 13 + 4 + (k : Int))))
def orB (N : Pl) (t : Int) (V : BitVec 64) : Nat → Nat
  | 0 => 0
  | s + 1 => orB N t V s ||| (if frD N t V (s + 1) 5 = 0#64 then 0 else 2 ^ s)
theorem orB_lt {N : Pl} {t : Int} {V : BitVec 64} : ∀ n, orB N t V n < 2 ^ n
  | 0 => by show 0 < 1; decide
  | n + 1 => by
    have h := orB_lt (N := N) (t := t) (V := V) n
    have h2 : (2 : Nat) ^ n < 2 ^ (n + 1) := Nat.pow_lt_pow_right (by decide) (by omega)
    simp only [orB]
    apply Nat.or_lt_two_pow
    · omega
    · split
      · exact Nat.pow_pos (by decide)
      · exact h2
set_option maxHeartbeats 1000000 in
set_option maxRecDepth 100000 in
theorem l_X4_degree {μ : Mem} {b w : Nat} {t d s : Int} (hb : b < 2) (hw : w < 64) (ht : 0 ≤ t ∧ t < 12) (hT : TD (bw (μ.2 (22 + 7 * b)) w) (t * 13) d s) : ∀ (n : Nat) (k : Int), 0 ≤ k ∧ k ≤ 4 → (4 - k).toNat < n → (0 < k → ¬ (1 ≤ d ∧ d ≤ k)) → PW shC 0 mX4_degree 14 [(0, vr (3 + b)), (1, vi (w : Int)), (2, vi t), (3, vi k)] [] μ (QI (fun z μ' => z = d ∧ μ' = μ)) := by
  intro n
  induction n with
  | zero => intro k _ q; omega
  | succ n ih =>
  intro k hk hn hlo
  have hd := hT.1
  have hpl := fun q : k < 4 => TD_pl hT (k := k) ⟨hk.1, q⟩
  refine P_iload_n (pc := 14) dX4_degree_14 rfl 3 rfl ?_
  refine P_iconst (pc := 15) dX4_degree_15 ?_
  refine P_icmp_ge (tgt := 49) (pc := 16) dX4_degree_16 (by decide) (by first | assumption | (unfold InR; omega)) (by first | assumption | (unfold InR; omega)) (fun c_16 => ?_) (fun c_16 => ?_)
  · refine P_iconst (pc := 49) dX4_degree_49 ?_
    exact P_iret (pc := 50) dX4_degree_50 rfl (QI.mk (by first | (exfalso; omega) | (have e1 : (μ.2 (22 + 7 * b) (t * 13 + k)).getLsbD w = true := bit1.mp c_35; have e2 := hpl (by omega); unfold bw at e2; rw [e1] at e2; have e3 := of_decide_eq_true e2.symm; refine ⟨?_, rfl⟩; by_cases q : 0 < k; (have := hlo q; omega); omega) | (refine ⟨?_, rfl⟩; have e9 : k = 4 := (by omega); subst e9; have := hlo (by decide); omega)))
  · refine P_aload_n (pc := 19) dX4_degree_19 rfl 0 rfl ?_
    refine P_getR (pc := 20) dX4_degree_20 fa_RX4_9 (sS_o hb) fS_2 ?_
    refine P_iload_n (pc := 23) dX4_degree_23 rfl 2 rfl ?_
    refine P_bipush (pc := 24) dX4_degree_24 (by decide) ?_
    refine P_imul (pc := 26) dX4_degree_26 ?_
    refine P_iload_n (pc := 27) dX4_degree_27 rfl 3 rfl ?_
    refine P_iadd (pc := 28) dX4_degree_28 ?_
    refine P_lald (pc := 29) dX4_degree_29 (sS_22 hb) (by omega) (by omega) (by decide) ?_
    skip
    refine P_iload_n (pc := 30) dX4_degree_30 rfl 1 rfl ?_
    refine P_lushr (pc := 31) dX4_degree_31 (by omega) (by omega) ?_
    refine P_lconst (b := 1#64) (pc := 32) dX4_degree_32 rfl ?_
    refine P_land (pc := 33) dX4_degree_33 ?_
    refine P_lconst (b := 1#64) (pc := 34) dX4_degree_34 rfl ?_
    refine P_lcmp_ne (tgt := 43) (pc := 35) dX4_degree_35 dX4_degree_36 (by decide) (fun c_35 => ?_) (fun c_35 => ?_)
    · refine P_iinc (L' := [(3, vi _), (0, vr (3 + b)), (1, vi _), (2, vi _)]) (pc := 43) dX4_degree_43 (by decide) 3 rfl rfl ?_
      refine P_goto (tgt := 14) (pc := 46) dX4_degree_46 (by decide) ?_
      refine P_sub (L' := [(0, vr (3 + b)), (1, vi _), (2, vi _), (3, vi _)]) [1, 2, 3, 0] rfl ?_
      refine ih (k + 1) (by omega) (by omega) (fun _ q => ?_)
      have e1 : (μ.2 (22 + 7 * b) (t * 13 + k)).getLsbD w = true := by
        have := hpl (by omega)
        unfold bw at this
        rw [this]
        exact decide_eq_true q
      exact c_35 (bit1.mpr e1)
    · refine P_iload_n (pc := 39) dX4_degree_39 rfl 3 rfl ?_
      refine P_iconst (pc := 40) dX4_degree_40 ?_
      refine P_iadd (pc := 41) dX4_degree_41 ?_
      exact P_iret (pc := 42) dX4_degree_42 rfl (QI.mk (by first | (exfalso; omega) | (have e1 : (μ.2 (22 + 7 * b) (t * 13 + k)).getLsbD w = true := bit1.mp c_35; have e2 := hpl (by omega); unfold bw at e2; rw [e1] at e2; have e3 := of_decide_eq_true e2.symm; refine ⟨?_, rfl⟩; by_cases q : 0 < k; (have := hlo q; omega); omega) | (refine ⟨?_, rfl⟩; have e9 : k = 4 := (by omega); subst e9; have := hlo (by decide); omega)))
set_option maxHeartbeats 1000000 in
set_option maxRecDepth 100000 in
theorem c_X4_degree {μ : Mem} {b : Nat} {w : Nat} {t d s : Int} (hb : b < 2) (hw : w < 64) (ht : 0 ≤ t ∧ t < 12) (hT : TD (bw (μ.2 (22 + 7 * b)) w) (t * 13) d s) : PC shC 0 mX4_degree [vr (3 + b), vi (w : Int), vi t] (μ) (QI (fun z μ' => z = d ∧ μ' = μ)) := by
  refine PC.of (by decide +kernel) (Nat.le_of_ble_eq_true rfl) ?_
  refine P_sub (L' := [(0, vr (3 + b)), (1, vi (w : Int)), (2, vi t)]) [0, 1, 2] rfl ?_
  refine P_iload_n (pc := 0) dX4_degree_0 rfl 2 rfl ?_
  refine P_if_lt (tgt := 10) (pc := 1) dX4_degree_1 (by decide) (by first | assumption | (unfold InR; omega)) (fun c_1 => ?_) (fun c_1 => ?_)
  · refine P_iconst (pc := 10) dX4_degree_10 ?_
    exact P_iret (pc := 11) dX4_degree_11 rfl (QI.mk (by first | (exfalso; omega) | (have e1 : (μ.2 (22 + 7 * b) (t * 13 + k)).getLsbD w = true := bit1.mp c_35; have e2 := hpl (by omega); unfold bw at e2; rw [e1] at e2; have e3 := of_decide_eq_true e2.symm; refine ⟨?_, rfl⟩; by_cases q : 0 < k; (have := hlo q; omega); omega) | (refine ⟨?_, rfl⟩; have e9 : k = 4 := (by omega); subst e9; have := hlo (by decide); omega)))
  · refine P_iload_n (pc := 4) dX4_degree_4 rfl 2 rfl ?_
    refine P_bipush (pc := 5) dX4_degree_5 (by decide) ?_
    refine P_icmp_lt (tgt := 12) (pc := 7) dX4_degree_7 (by decide) (by first | assumption | (unfold InR; omega)) (by first | assumption | (unfold InR; omega)) (fun c_7 => ?_) (fun c_7 => ?_)
    · refine P_iconst (pc := 12) dX4_degree_12 ?_
      refine P_istore_n (L' := [(3, vi _), (0, vr (3 + b)), (1, vi _), (2, vi _)]) (pc := 13) dX4_degree_13 rfl (by decide) rfl ?_
      refine P_sub (L' := [(0, vr (3 + b)), (1, vi _), (2, vi _), (3, vi _)]) [1, 2, 3, 0] rfl ?_
      exact l_X4_degree hb hw ht hT 5 0 (by omega) (by omega) (fun q => absurd q (by decide))
    · refine P_iconst (pc := 10) dX4_degree_10 ?_
      exact P_iret (pc := 11) dX4_degree_11 rfl (QI.mk (by first | (exfalso; omega) | (have e1 : (μ.2 (22 + 7 * b) (t * 13 + k)).getLsbD w = true := bit1.mp c_35; have e2 := hpl (by omega); unfold bw at e2; rw [e1] at e2; have e3 := of_decide_eq_true e2.symm; refine ⟨?_, rfl⟩; by_cases q : 0 < k; (have := hlo q; omega); omega) | (refine ⟨?_, rfl⟩; have e9 : k = 4 := (by omega); subst e9; have := hlo (by decide); omega)))
set_option maxHeartbeats 1000000 in
set_option maxRecDepth 100000 in
theorem l_X4_areClean {μ : Mem} {b th : Nat} {V : BitVec 64} (hb : b < 2) (hth : th < 4096) : ∀ (n j : Nat), j ≤ 12 → 12 - j < n → arB (μ.2 (22 + 7 * b)) th V j = true → PW shC 0 mX4_areClean 3 [(0, vr (3 + b)), (1, vi (th : Int)), (2, vl V), (4, vi (j : Int))] [] μ (QI (fun z μ' => z = (if arB (μ.2 (22 + 7 * b)) th V 12 = true then 1 else 0) ∧ μ' = μ)) := by
  intro n
  induction n with
  | zero => intro j _ q; omega
  | succ n ih =>
  intro j hj hn hA
  have d1 := wdiv (w := (th : Int)) (n := ((j : Int)).toNat) (by omega) (by omega)
  have gb := wbitN (u := j) (show (th : Int) = ((th : Nat) : Int) from rfl)
  have hs : arB (μ.2 (22 + 7 * b)) th V (j + 1) = (arB (μ.2 (22 + 7 * b)) th V j && (!(th.testBit j) || decide (μ.2 (22 + 7 * b) ((j : Int) * 13 + 3) &&& V = 0#64))) := rfl
  refine P_iload (pc := 3) dX4_areClean_3 3 rfl ?_
  refine P_bipush (pc := 5) dX4_areClean_5 (by decide) ?_
  refine P_icmp_ge (tgt := 47) (pc := 7) dX4_areClean_7 (by decide) (by first | assumption | (unfold InR; omega) | (rw [gb]; unfold InR; split <;> omega)) (by first | assumption | (unfold InR; omega) | (rw [gb]; unfold InR; split <;> omega)) (fun c_7 => ?_) (fun c_7 => ?_)
  · refine P_iconst (pc := 47) dX4_areClean_47 ?_
    exact P_zret (pc := 48) dX4_areClean_48 rfl (by omega) (QI.mk (by
          first
            | (have e9 : j = 12 := by omega
               subst e9
               rw [if_pos hA]
               exact ⟨rfl, rfl⟩)
            | (have e : th.testBit j = true := by rw [gb] at c_17; clear ih; grind
               have e2 : ¬ arB (μ.2 (22 + 7 * b)) th V 12 = true := fun z => by
                 have := (allF_iff.mp z) j (by omega)
                 rw [e, decide_eq_false c_35] at this
                 cases this
               rw [if_neg e2]
               exact ⟨rfl, rfl⟩)))
  · refine P_iload_n (pc := 10) dX4_areClean_10 rfl 1 rfl ?_
    refine P_iload (pc := 11) dX4_areClean_11 3 rfl ?_
    refine P_iushr (pc := 13) dX4_areClean_13 (wI_ushr (by omega) (by omega) (by omega) (by omega)) ?_
    refine P_iconst (pc := 14) dX4_areClean_14 ?_
    refine P_iand (pc := 15) dX4_areClean_15 (wI_and d1.1 d1.2 (by omega) (by omega)) ?_
    refine P_iconst (pc := 16) dX4_areClean_16 ?_
    refine P_icmp_ne (tgt := 41) (pc := 17) dX4_areClean_17 (by decide) (by first | assumption | (unfold InR; omega) | (rw [gb]; unfold InR; split <;> omega)) (by first | assumption | (unfold InR; omega) | (rw [gb]; unfold InR; split <;> omega)) (fun c_17 => ?_) (fun c_17 => ?_)
    · refine P_iinc (L' := [(4, vi _), (0, vr (3 + b)), (1, vi _), (2, vl _)]) (pc := 41) dX4_areClean_41 (by decide) 3 rfl rfl ?_
      refine P_goto (tgt := 3) (pc := 44) dX4_areClean_44 (by decide) ?_
      refine P_sub (L' := [(0, vr (3 + b)), (1, vi _), (2, vl _), (4, vi _)]) [1, 2, 3, 0] rfl ?_
      refine P_cast (L' := [(0, vr (3 + b)), (1, vi (th : Int)), (2, vl V), (4, vi ((j + 1 : Nat) : Int))]) rfl rfl (ih (j + 1) (by omega) (by omega) ?_)
      rw [hs, hA, Bool.true_and]
      first
        | (have e : ¬ th.testBit j = true := by rw [gb] at c_17; clear ih; grind
           rw [Bool.eq_false_iff.mpr e]; rfl)
        | (rw [decide_eq_true c_35, Bool.or_true])
    · refine P_aload_n (pc := 20) dX4_areClean_20 rfl 0 rfl ?_
      refine P_getR (pc := 21) dX4_areClean_21 fa_RX4_9 (sS_o hb) fS_2 ?_
      refine P_iload (pc := 24) dX4_areClean_24 3 rfl ?_
      refine P_bipush (pc := 26) dX4_areClean_26 (by decide) ?_
      refine P_imul (pc := 28) dX4_areClean_28 ?_
      refine P_iconst (pc := 29) dX4_areClean_29 ?_
      refine P_iadd (pc := 30) dX4_areClean_30 ?_
      refine P_lald (pc := 31) dX4_areClean_31 (sS_22 hb) (by omega) (by omega) (by decide) ?_
      skip
      refine P_lload_n (pc := 32) dX4_areClean_32 rfl 2 rfl ?_
      refine P_land (pc := 33) dX4_areClean_33 ?_
      refine P_lconst (b := 0#64) (pc := 34) dX4_areClean_34 rfl ?_
      refine P_lcmp_eq (tgt := 41) (pc := 35) dX4_areClean_35 dX4_areClean_36 (by decide) (fun c_35 => ?_) (fun c_35 => ?_)
      · refine P_iinc (L' := [(4, vi _), (0, vr (3 + b)), (1, vi _), (2, vl _)]) (pc := 41) dX4_areClean_41 (by decide) 3 rfl rfl ?_
        refine P_goto (tgt := 3) (pc := 44) dX4_areClean_44 (by decide) ?_
        refine P_sub (L' := [(0, vr (3 + b)), (1, vi _), (2, vl _), (4, vi _)]) [1, 2, 3, 0] rfl ?_
        refine P_cast (L' := [(0, vr (3 + b)), (1, vi (th : Int)), (2, vl V), (4, vi ((j + 1 : Nat) : Int))]) rfl rfl (ih (j + 1) (by omega) (by omega) ?_)
        rw [hs, hA, Bool.true_and]
        first
          | (have e : ¬ th.testBit j = true := by rw [gb] at c_17; clear ih; grind
             rw [Bool.eq_false_iff.mpr e]; rfl)
          | (rw [decide_eq_true c_35, Bool.or_true])
      · refine P_iconst (pc := 39) dX4_areClean_39 ?_
        exact P_zret (pc := 40) dX4_areClean_40 rfl (by omega) (QI.mk (by
              first
                | (have e9 : j = 12 := by omega
                   subst e9
                   rw [if_pos hA]
                   exact ⟨rfl, rfl⟩)
                | (have e : th.testBit j = true := by rw [gb] at c_17; clear ih; grind
                   have e2 : ¬ arB (μ.2 (22 + 7 * b)) th V 12 = true := fun z => by
                     have := (allF_iff.mp z) j (by omega)
                     rw [e, decide_eq_false c_35] at this
                     cases this
                   rw [if_neg e2]
                   exact ⟨rfl, rfl⟩)))
set_option maxHeartbeats 1000000 in
set_option maxRecDepth 100000 in
theorem c_X4_areClean {μ : Mem} {b : Nat} {th : Nat} {V : BitVec 64} (hb : b < 2) (hth : th < 4096) : PC shC 0 mX4_areClean [vr (3 + b), vi (th : Int), vl V] (μ) (QI (fun z μ' => z = (if arB (μ.2 (22 + 7 * b)) th V 12 = true then 1 else 0) ∧ μ' = μ)) := by
  refine PC.of (by decide +kernel) (Nat.le_of_ble_eq_true rfl) ?_
  refine P_sub (L' := [(0, vr (3 + b)), (1, vi (th : Int)), (2, vl V)]) [0, 1, 2] rfl ?_
  refine P_iconst (pc := 0) dX4_areClean_0 ?_
  refine P_istore (L' := [(4, vi _), (0, vr (3 + b)), (1, vi _), (2, vl _)]) (pc := 1) dX4_areClean_1 (by decide) rfl ?_
  refine P_sub (L' := [(0, vr (3 + b)), (1, vi _), (2, vl _), (4, vi _)]) [1, 2, 3, 0] rfl ?_
  exact l_X4_areClean hb hth 13 0 (by omega) (by omega) rfl
set_option maxHeartbeats 1000000 in
set_option maxRecDepth 100000 in
theorem l_orig47 {μ : Mem} {b : Nat} {t : Int} {V : BitVec 64} {src : Nat} {o : Int} {Q : Option PV → Mem → Prop} (hb : b < 2) (ht : 0 ≤ t ∧ t < 12) (hs : src ≤ 20) (kx : PW shC 0 mX4_originBits 100 [(0, vr (3 + b)), (1, vi t), (2, vl V), (4, vi (t * 13)), (5, vi o), (6, vi (src : Int)), (7, vl (frD (μ.2 (22 + 7 * b)) t V src 5))] [] μ Q) : ∀ (n k : Nat), k ≤ 5 → 5 - k < n → PW shC 0 mX4_originBits 47 [(0, vr (3 + b)), (1, vi t), (2, vl V), (4, vi (t * 13)), (5, vi o), (6, vi (src : Int)), (7, vl (frD (μ.2 (22 + 7 * b)) t V src k)), (9, vi (k : Int))] [] μ Q := by
  intro n
  induction n with
  | zero => intro k _ q; omega
  | succ n ih =>
  intro k hk hn
  have d1 := wdiv (w := (src : Int)) (n := ((k : Int)).toNat) (by omega) (by omega)
  have gb := wbitN (u := k) (show (src : Int) = ((src : Nat) : Int) from rfl)
  have hf : frD (μ.2 (22 + 7 * b)) t V src (k + 1) = frD (μ.2 (22 + 7 * b)) t V src k &&& (if src.testBit k = true then μ.2 (22 + 7 * b) (t * 13 + 4 + (k : Int)) else ~~~(μ.2 (22 + 7 * b) (t * 13 + 4 + (k : Int)))) := rfl
  refine P_iload (pc := 47) dX4_originBits_47 7 rfl ?_
  refine P_iconst (pc := 49) dX4_originBits_49 ?_
  refine P_icmp_ge (tgt := 100) (pc := 50) dX4_originBits_50 (by decide) (by first | assumption | (unfold InR; omega) | (rw [gb]; unfold InR; split <;> omega)) (by first | assumption | (unfold InR; omega) | (rw [gb]; unfold InR; split <;> omega)) (fun c_50 => ?_) (fun c_50 => ?_)
  · refine P_sub (L' := [(0, vr (3 + b)), (1, vi _), (2, vl _), (4, vi _), (5, vi _), (6, vi _), (7, vl _)]) [0, 1, 2, 3, 4, 5, 6] rfl ?_
    have e9 : k = 5 := by omega
    subst e9
    exact kx
  · refine P_aload_n (pc := 53) dX4_originBits_53 rfl 0 rfl ?_
    refine P_getR (pc := 54) dX4_originBits_54 fa_RX4_9 (sS_o hb) fS_2 ?_
    refine P_iload (pc := 57) dX4_originBits_57 3 rfl ?_
    refine P_iconst (pc := 59) dX4_originBits_59 ?_
    refine P_iadd (pc := 60) dX4_originBits_60 ?_
    refine P_iload (pc := 61) dX4_originBits_61 7 rfl ?_
    refine P_iadd (pc := 63) dX4_originBits_63 ?_
    refine P_lald (pc := 64) dX4_originBits_64 (sS_22 hb) (by omega) (by omega) (by decide) ?_
    skip
    refine P_lstore (L' := [(10, vl _), (0, vr (3 + b)), (1, vi _), (2, vl _), (4, vi _), (5, vi _), (6, vi _), (7, vl _), (9, vi _)]) (pc := 65) dX4_originBits_65 (by decide) rfl ?_
    refine P_lload (pc := 67) dX4_originBits_67 7 rfl ?_
    refine P_iload (pc := 69) dX4_originBits_69 6 rfl ?_
    refine P_iload (pc := 71) dX4_originBits_71 8 rfl ?_
    refine P_iushr (pc := 73) dX4_originBits_73 (wI_ushr (by omega) (by omega) (by omega) (by omega)) ?_
    refine P_iconst (pc := 74) dX4_originBits_74 ?_
    refine P_iand (pc := 75) dX4_originBits_75 (wI_and d1.1 d1.2 (by omega) (by omega)) ?_
    refine P_iconst (pc := 76) dX4_originBits_76 ?_
    refine P_icmp_ne (tgt := 85) (pc := 77) dX4_originBits_77 (by decide) (by first | assumption | (unfold InR; omega) | (rw [gb]; unfold InR; split <;> omega)) (by first | assumption | (unfold InR; omega) | (rw [gb]; unfold InR; split <;> omega)) (fun c_77 => ?_) (fun c_77 => ?_)
    · refine P_lload (pc := 85) dX4_originBits_85 0 rfl ?_
      refine P_ldc2 (b := BitVec.allOnes 64) (pc := 87) dX4_originBits_87 kl_RX4_63 (by decide +kernel) ?_
      refine P_lnot (pc := 90) dX4_originBits_90 ?_
      refine P_land (pc := 91) dX4_originBits_91 ?_
      refine P_lstore (L' := [(7, vl _), (10, vl _), (0, vr (3 + b)), (1, vi _), (2, vl _), (4, vi _), (5, vi _), (6, vi _), (9, vi _)]) (pc := 92) dX4_originBits_92 (by decide) rfl ?_
      refine P_iinc (L' := [(9, vi _), (7, vl _), (10, vl _), (0, vr (3 + b)), (1, vi _), (2, vl _), (4, vi _), (5, vi _), (6, vi _)]) (pc := 94) dX4_originBits_94 (by decide) 8 rfl rfl ?_
      refine P_goto (tgt := 47) (pc := 97) dX4_originBits_97 (by decide) ?_
      refine P_sub (L' := [(0, vr (3 + b)), (1, vi _), (2, vl _), (4, vi _), (5, vi _), (6, vi _), (7, vl _), (9, vi _)]) [3, 4, 5, 6, 7, 8, 1, 0] rfl ?_
      refine P_cast (L' := [(0, vr (3 + b)), (1, vi t), (2, vl V), (4, vi (t * 13)), (5, vi o), (6, vi (src : Int)), (7, vl (frD (μ.2 (22 + 7 * b)) t V src (k + 1))), (9, vi ((k + 1 : Nat) : Int))]) ?_ rfl (ih (k + 1) (by omega) (by omega))
      rw [hf]
      rw [gb] at c_77
      first
        | (have e : src.testBit k = true := by clear ih kx; grind
           rw [if_pos e]; rfl)
        | (have e : ¬ src.testBit k = true := by clear ih kx; grind
           rw [if_neg e]; rfl)
    · refine P_lload (pc := 80) dX4_originBits_80 0 rfl ?_
      refine P_goto (tgt := 91) (pc := 82) dX4_originBits_82 (by decide) ?_
      refine P_land (pc := 91) dX4_originBits_91 ?_
      refine P_lstore (L' := [(7, vl _), (10, vl _), (0, vr (3 + b)), (1, vi _), (2, vl _), (4, vi _), (5, vi _), (6, vi _), (9, vi _)]) (pc := 92) dX4_originBits_92 (by decide) rfl ?_
      refine P_iinc (L' := [(9, vi _), (7, vl _), (10, vl _), (0, vr (3 + b)), (1, vi _), (2, vl _), (4, vi _), (5, vi _), (6, vi _)]) (pc := 94) dX4_originBits_94 (by decide) 8 rfl rfl ?_
      refine P_goto (tgt := 47) (pc := 97) dX4_originBits_97 (by decide) ?_
      refine P_sub (L' := [(0, vr (3 + b)), (1, vi _), (2, vl _), (4, vi _), (5, vi _), (6, vi _), (7, vl _), (9, vi _)]) [3, 4, 5, 6, 7, 8, 1, 0] rfl ?_
      refine P_cast (L' := [(0, vr (3 + b)), (1, vi t), (2, vl V), (4, vi (t * 13)), (5, vi o), (6, vi (src : Int)), (7, vl (frD (μ.2 (22 + 7 * b)) t V src (k + 1))), (9, vi ((k + 1 : Nat) : Int))]) ?_ rfl (ih (k + 1) (by omega) (by omega))
      rw [hf]
      rw [gb] at c_77
      first
        | (have e : src.testBit k = true := by clear ih kx; grind
           rw [if_pos e]; rfl)
        | (have e : ¬ src.testBit k = true := by clear ih kx; grind
           rw [if_neg e]; rfl)
set_option maxHeartbeats 1000000 in
set_option maxRecDepth 100000 in
theorem l_orig24 {μ : Mem} {b : Nat} {t : Int} {V : BitVec 64} (hb : b < 2) (ht : 0 ≤ t ∧ t < 12) : ∀ (n s : Nat), s ≤ 20 → 20 - s < n → PW shC 0 mX4_originBits 24 [(0, vr (3 + b)), (1, vi t), (2, vl V), (4, vi (t * 13)), (5, vi (orB (μ.2 (22 + 7 * b)) t V s : Int)), (6, vi ((s + 1 : Nat) : Int))] [] μ (QI (fun z μ' => z = (orB (μ.2 (22 + 7 * b)) t V 20 : Int) ∧ μ' = μ)) := by
  intro n
  induction n with
  | zero => intro s _ q; omega
  | succ n ih =>
  intro s hs hn
  have hlt := orB_lt (N := μ.2 (22 + 7 * b)) (t := t) (V := V) s
  have hp : 2 ^ s ≤ 2 ^ 20 := Nat.pow_le_pow_right (by decide) hs
  have hf : orB (μ.2 (22 + 7 * b)) t V (s + 1) = orB (μ.2 (22 + 7 * b)) t V s ||| (if frD (μ.2 (22 + 7 * b)) t V (s + 1) 5 = 0#64 then 0 else 2 ^ s) := rfl
  refine P_iload (pc := 24) dX4_originBits_24 5 rfl ?_
  refine P_bipush (pc := 26) dX4_originBits_26 (by decide) ?_
  refine P_icmp_gt (tgt := 124) (pc := 28) dX4_originBits_28 (by decide) (by first | assumption | (unfold InR; omega) | (rw [gb]; unfold InR; split <;> omega)) (by first | assumption | (unfold InR; omega) | (rw [gb]; unfold InR; split <;> omega)) (fun c_28 => ?_) (fun c_28 => ?_)
  · refine P_iload (pc := 124) dX4_originBits_124 4 rfl ?_
    exact P_iret (pc := 126) dX4_originBits_126 rfl (QI.mk (by first | (exfalso; omega) | (have e9 : s = 20 := (by omega); subst e9; exact ⟨rfl, rfl⟩)))
  · refine P_lload_n (pc := 31) dX4_originBits_31 rfl 2 rfl ?_
    refine P_aload_n (pc := 32) dX4_originBits_32 rfl 0 rfl ?_
    refine P_getR (pc := 33) dX4_originBits_33 fa_RX4_9 (sS_o hb) fS_2 ?_
    refine P_iload (pc := 36) dX4_originBits_36 3 rfl ?_
    refine P_iconst (pc := 38) dX4_originBits_38 ?_
    refine P_iadd (pc := 39) dX4_originBits_39 ?_
    refine P_lald (pc := 40) dX4_originBits_40 (sS_22 hb) (by omega) (by omega) (by decide) ?_
    skip
    refine P_land (pc := 41) dX4_originBits_41 ?_
    refine P_lstore (L' := [(7, vl _), (0, vr (3 + b)), (1, vi _), (2, vl _), (4, vi _), (5, vi _), (6, vi _)]) (pc := 42) dX4_originBits_42 (by decide) rfl ?_
    refine P_iconst (pc := 44) dX4_originBits_44 ?_
    refine P_istore (L' := [(9, vi _), (7, vl _), (0, vr (3 + b)), (1, vi _), (2, vl _), (4, vi _), (5, vi _), (6, vi _)]) (pc := 45) dX4_originBits_45 (by decide) rfl ?_
    refine P_sub (L' := [(0, vr (3 + b)), (1, vi _), (2, vl _), (4, vi _), (5, vi _), (6, vi _), (7, vl _), (9, vi _)]) [2, 3, 4, 5, 6, 7, 1, 0] rfl ?_
    refine l_orig47 hb ht (by omega) ?_ 6 0 (by omega) (by omega)
    · skip
      refine P_lload (pc := 100) dX4_originBits_100 6 rfl ?_
      refine P_lconst (b := 0#64) (pc := 102) dX4_originBits_102 rfl ?_
      refine P_lcmp_eq (tgt := 118) (pc := 103) dX4_originBits_103 dX4_originBits_104 (by decide) (fun c_103 => ?_) (fun c_103 => ?_)
      · refine P_iinc (L' := [(6, vi _), (0, vr (3 + b)), (1, vi _), (2, vl _), (4, vi _), (5, vi _), (7, vl _)]) (pc := 118) dX4_originBits_118 (by decide) 5 rfl rfl ?_
        refine P_goto (tgt := 24) (pc := 121) dX4_originBits_121 (by decide) ?_
        refine P_sub (L' := [(0, vr (3 + b)), (1, vi _), (2, vl _), (4, vi _), (5, vi _), (6, vi _)]) [1, 2, 3, 4, 5, 0] rfl ?_
        refine P_cast (L' := [(0, vr (3 + b)), (1, vi t), (2, vl V), (4, vi (t * 13)), (5, vi (orB (μ.2 (22 + 7 * b)) t V (s + 1) : Int)), (6, vi ((s + 1 + 1 : Nat) : Int))]) ?_ rfl (ih (s + 1) (by omega) (by omega))
        rw [hf]
        first
          | (rw [if_pos c_103, Nat.or_zero]; rfl)
          | (rw [if_neg c_103]; rfl)
      · refine P_iload (pc := 107) dX4_originBits_107 4 rfl ?_
        refine P_iconst (pc := 109) dX4_originBits_109 ?_
        refine P_iload (pc := 110) dX4_originBits_110 5 rfl ?_
        refine P_iconst (pc := 112) dX4_originBits_112 ?_
        refine P_isub (pc := 113) dX4_originBits_113 ?_
        rw [show ((s + 1 : Nat) : Int) - 1 = ((s : Nat) : Int) by omega]
        refine P_ishl (pc := 114) dX4_originBits_114 (wN_shl1N (by omega)) ?_
        refine P_ior (pc := 115) dX4_originBits_115 (wN_or) ?_
        refine P_istore (L' := [(5, vi _), (0, vr (3 + b)), (1, vi _), (2, vl _), (4, vi _), (6, vi _), (7, vl _)]) (pc := 116) dX4_originBits_116 (by decide) rfl ?_
        refine P_iinc (L' := [(6, vi _), (5, vi _), (0, vr (3 + b)), (1, vi _), (2, vl _), (4, vi _), (7, vl _)]) (pc := 118) dX4_originBits_118 (by decide) 5 rfl rfl ?_
        refine P_goto (tgt := 24) (pc := 121) dX4_originBits_121 (by decide) ?_
        refine P_sub (L' := [(0, vr (3 + b)), (1, vi _), (2, vl _), (4, vi _), (5, vi _), (6, vi _)]) [2, 3, 4, 5, 1, 0] rfl ?_
        refine P_cast (L' := [(0, vr (3 + b)), (1, vi t), (2, vl V), (4, vi (t * 13)), (5, vi (orB (μ.2 (22 + 7 * b)) t V (s + 1) : Int)), (6, vi ((s + 1 + 1 : Nat) : Int))]) ?_ rfl (ih (s + 1) (by omega) (by omega))
        rw [hf]
        first
          | (rw [if_pos c_103, Nat.or_zero]; rfl)
          | (rw [if_neg c_103]; rfl)
set_option maxHeartbeats 1000000 in
set_option maxRecDepth 100000 in
theorem c_X4_originBits {μ : Mem} {b : Nat} {t : Int} {V : BitVec 64} (hb : b < 2) (ht : 0 ≤ t ∧ t < 12) : PC shC 0 mX4_originBits [vr (3 + b), vi t, vl V] (μ) (QI (fun z μ' => z = (orB (μ.2 (22 + 7 * b)) t V 20 : Int) ∧ μ' = μ)) := by
  refine PC.of (by decide +kernel) (Nat.le_of_ble_eq_true rfl) ?_
  refine P_sub (L' := [(0, vr (3 + b)), (1, vi t), (2, vl V)]) [0, 1, 2] rfl ?_
  refine P_iload_n (pc := 0) dX4_originBits_0 rfl 1 rfl ?_
  refine P_if_lt (tgt := 10) (pc := 1) dX4_originBits_1 (by decide) (by first | assumption | (unfold InR; omega) | (rw [gb]; unfold InR; split <;> omega)) (fun c_1 => ?_) (fun c_1 => ?_)
  · refine P_iconst (pc := 10) dX4_originBits_10 ?_
    exact P_iret (pc := 11) dX4_originBits_11 rfl (QI.mk (by first | (exfalso; omega) | (have e9 : s = 20 := (by omega); subst e9; exact ⟨rfl, rfl⟩)))
  · refine P_iload_n (pc := 4) dX4_originBits_4 rfl 1 rfl ?_
    refine P_bipush (pc := 5) dX4_originBits_5 (by decide) ?_
    refine P_icmp_lt (tgt := 12) (pc := 7) dX4_originBits_7 (by decide) (by first | assumption | (unfold InR; omega) | (rw [gb]; unfold InR; split <;> omega)) (by first | assumption | (unfold InR; omega) | (rw [gb]; unfold InR; split <;> omega)) (fun c_7 => ?_) (fun c_7 => ?_)
    · refine P_iload_n (pc := 12) dX4_originBits_12 rfl 1 rfl ?_
      refine P_bipush (pc := 13) dX4_originBits_13 (by decide) ?_
      refine P_imul (pc := 15) dX4_originBits_15 ?_
      refine P_istore (L' := [(4, vi _), (0, vr (3 + b)), (1, vi _), (2, vl _)]) (pc := 16) dX4_originBits_16 (by decide) rfl ?_
      refine P_iconst (pc := 18) dX4_originBits_18 ?_
      refine P_istore (L' := [(5, vi _), (4, vi _), (0, vr (3 + b)), (1, vi _), (2, vl _)]) (pc := 19) dX4_originBits_19 (by decide) rfl ?_
      refine P_iconst (pc := 21) dX4_originBits_21 ?_
      refine P_istore (L' := [(6, vi _), (5, vi _), (4, vi _), (0, vr (3 + b)), (1, vi _), (2, vl _)]) (pc := 22) dX4_originBits_22 (by decide) rfl ?_
      refine P_sub (L' := [(0, vr (3 + b)), (1, vi _), (2, vl _), (4, vi _), (5, vi _), (6, vi _)]) [3, 4, 5, 2, 1, 0] rfl ?_
      exact l_orig24 hb ht 21 0 (by omega) (by omega)
    · refine P_iconst (pc := 10) dX4_originBits_10 ?_
      exact P_iret (pc := 11) dX4_originBits_11 rfl (QI.mk (by first | (exfalso; omega) | (have e9 : s = 20 := (by omega); subst e9; exact ⟨rfl, rfl⟩)))
