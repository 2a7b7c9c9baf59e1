/-! AN ORDER OF STEPS, as the planner seeks it -/
def findL (ok : List Nat → Bool) : List (List Nat) → Int
  | [] => -9
  | x :: r => if ok x = true then encL x else findL ok r
theorem encL_pos : ∀ x : List Nat, 0 ≤ encL x
  | [] => Int.le_refl 0
  | a :: r => by
    have := encL_pos r
    simp only [encL]
    omega
theorem findL_in (ok : List Nat → Bool) : ∀ L, findL ok L = -9 ∨ 0 ≤ findL ok L
  | [] => Or.inl rfl
  | x :: r => by
    simp only [findL]
    split
    · exact Or.inr (encL_pos x)
    · exact findL_in ok r
theorem findL_t {ok : List Nat → Bool} {x : List Nat} {r : List (List Nat)} (h : ok x = true) : findL ok (x :: r) = encL x := if_pos h
theorem findL_f {ok : List Nat → Bool} {x : List Nat} {r : List (List Nat)} (h : ¬ ok x = true) : findL ok (x :: r) = findL ok r := if_neg h
theorem findL_app (ok : List Nat → Bool) : ∀ L1 L2, findL ok (L1 ++ L2) = if findL ok L1 = -9 then findL ok L2 else findL ok L1
  | [], L2 => by
    show findL ok L2 = if (-9 : Int) = -9 then _ else _
    rw [if_pos rfl]
  | x :: r, L2 => by
    have h := encL_pos x
    rw [List.cons_append]
    by_cases q : ok x = true
    · rw [findL_t q, findL_t q, if_neg (by omega)]
    · rw [findL_f q, findL_f q]
      exact findL_app ok r L2
theorem findL_map (ok : List Nat → Bool) (a : Nat) : ∀ L, findL ok (L.map (a :: ·)) = if findL (fun x => ok (a :: x)) L = -9 then -9 else 6 * findL (fun x => ok (a :: x)) L + a + 1
  | [] => by
    show (-9 : Int) = if (-9 : Int) = -9 then _ else _
    rw [if_pos rfl]
  | x :: r => by
    have h := encL_pos x
    rw [List.map_cons]
    by_cases q : ok (a :: x) = true
    · rw [findL_t q, findL_t (ok := fun x => ok (a :: x)) q, if_neg (by omega)]
      rfl
    · rw [findL_f q, findL_f (ok := fun x => ok (a :: x)) q]
      exact findL_map ok a r
theorem findL_no {ok : List Nat → Bool} (h : ∀ x, ok x = false) : ∀ L, findL ok L = -9
  | [] => rfl
  | x :: r => by
    simp only [findL]
    rw [h x, if_neg (by decide)]
    exact findL_no h r
theorem findL_cg {ok ok' : List Nat → Bool} : ∀ L, (∀ x, x ∈ L → ok x = ok' x) → findL ok L = findL ok' L
  | [], _ => rfl
  | x :: r, h => by
    simp only [findL]
    rw [h x (List.mem_cons_self ..), findL_cg r (fun y hy => h y (List.mem_cons_of_mem _ hy))]
/-- what is not done yet, from j on -/
def seg (dn : Nat) : Nat → Nat → List Nat
  | 0, _ => []
  | n + 1, j => if dn.testBit j = true then seg dn n (j + 1) else j :: seg dn n (j + 1)
theorem seg_cg {dn dn' : Nat} : ∀ n j, (∀ i, j ≤ i → dn.testBit i = dn'.testBit i) → seg dn n j = seg dn' n j
  | 0, _, _ => rfl
  | n + 1, j, h => by
    simp only [seg]
    rw [h j (Nat.le_refl j), seg_cg n (j + 1) (fun i hi => h i (by omega))]
theorem or_bit {dn a i : Nat} : (dn ||| 2 ^ a).testBit i = (dn.testBit i || decide (a = i)) := by rw [Nat.testBit_or, Nat.testBit_two_pow]
theorem seg_erase {dn a : Nat} (ha : dn.testBit a = false) : ∀ n j, j ≤ a → (seg dn n j).erase a = seg (dn ||| 2 ^ a) n j
  | 0, _, _ => rfl
  | n + 1, j, h => by
    simp only [seg]
    by_cases q : j = a
    · subst q
      rw [or_bit, ha, decide_eq_true (rfl : j = j), if_neg (by decide), if_pos (by decide), List.erase_cons_head]
      exact seg_cg n (j + 1) (fun i hi => by rw [or_bit, decide_eq_false (by omega), Bool.or_false])
    · rw [or_bit, decide_eq_false (fun z => q z.symm), Bool.or_false]
      by_cases b : dn.testBit j = true
      · rw [if_pos b, if_pos b]
        exact seg_erase ha n (j + 1) (by omega)
      · rw [if_neg b, if_neg b, List.erase_cons_tail (by simpa using q), seg_erase ha n (j + 1) (by omega)]
theorem seg_range : ∀ s, s < 6 → seg 0 s 0 = List.range s := by decide
/-- a step done in all ways -/
def dnX (K A : Cel) (X : Nat → Cel) (a : Nat) : Nat → Cel := fun w => doesX K (X w) (A 25 (a : Int)) (A 26 (a : Int)) (A 27 (a : Int)) 0
def chkX (K F : Cel) (c : Nat) (X : Nat → Cel) : Bool := allF (fun w => !(leftB K F 0 w) || decide (clN (X w) (K 0 11).toNat &&& c = c)) 64
def okL (K F A : Cel) (c : Nat) : (Nat → Cel) → List Nat → Bool
  | _, [] => true
  | X, a :: r => chkX K F c (dnX K A X a) && okL K F A c (dnX K A X a) r
def dfsV (K F A : Cel) (c n : Nat) (X : Nat → Cel) (l : List Nat) : Int := findL (okL K F A c X) (prm n l)
/-- the search from a step on -/
def dfsJ (K F A : Cel) (c n : Nat) (X : Nat → Cel) (l l' : List Nat) : Int := findL (okL K F A c X) (l'.flatMap (fun a => (prm n (l.erase a)).map (a :: ·)))
theorem dfsJ_0 {K F A : Cel} {c n : Nat} {X : Nat → Cel} {l : List Nat} : dfsV K F A c (n + 1) X l = dfsJ K F A c n X l l := rfl
theorem dfsJ_s {K F A : Cel} {c n a : Nat} {X : Nat → Cel} {l r : List Nat} : dfsJ K F A c n X l (a :: r) = if chkX K F c (dnX K A X a) = true ∧ dfsV K F A c n (dnX K A X a) (l.erase a) ≠ -9 then 6 * dfsV K F A c n (dnX K A X a) (l.erase a) + a + 1 else dfsJ K F A c n X l r := by
  unfold dfsJ dfsV
  rw [List.flatMap_cons, findL_app, findL_map]
  cases hc : chkX K F c (dnX K A X a) with
  | false =>
    have e : findL (fun x => okL K F A c X (a :: x)) (prm n (l.erase a)) = -9 := findL_no (fun x => by
      show (chkX K F c (dnX K A X a) && _) = false
      rw [hc]; rfl) _
    rw [e, if_pos rfl, if_pos rfl, if_neg (fun z => absurd z.1 (by decide))]
  | true =>
    have e : findL (fun x => okL K F A c X (a :: x)) (prm n (l.erase a)) = findL (okL K F A c (dnX K A X a)) (prm n (l.erase a)) := findL_cg _ (fun x _ => by
      show (chkX K F c (dnX K A X a) && _) = _
      rw [hc]; rfl)
    rw [e]
    rcases findL_in (okL K F A c (dnX K A X a)) (prm n (l.erase a)) with q | q
    · rw [q, if_pos rfl, if_pos rfl, if_neg (fun z => z.2 rfl)]
    · rw [if_neg (by omega), if_neg (by omega), if_pos ⟨rfl, by omega⟩]
/-- the store holds the steps of A -/
def SR (A : Cel) (s : Nat) (μ : Mem) : Prop := (μ.1 1 9 = (s : Int) ∧ s ≤ 5) ∧ ∀ i, μ.1 15 (i * 3) = A 25 i ∧ μ.1 15 (i * 3 + 1) = A 26 i ∧ μ.1 15 (i * 3 + 2) = A 27 i
def SOS (K A : Cel) (s : Nat) : Prop := ∀ i : Int, 0 ≤ i → i < (s : Int) → (0 ≤ A 25 i ∧ A 25 i ≤ 4) ∧ (0 ≤ A 26 i ∧ A 26 i < K 0 11) ∧ (0 ≤ A 27 i ∧ A 27 i < K 0 11) ∧ A 26 i ≠ A 27 i
def XRL (K F : Cel) (X : Nat → Cel) (N : Pl) : Prop := ∀ w, w < 64 → leftB K F 0 w = true → RX K (X w) (bw N w) ∧ X w 0 24 = 0
theorem XRL_ag {K F : Cel} {X : Nat → Cel} {N N' : Pl} (hK : KOK K) (h : XRL K F X N) (ha : AG N N') : XRL K F X N' := fun w hw hl => ⟨RX_ag hK (h w hw hl).1 ha, (h w hw hl).2⟩
theorem XRL_s {K F A : Cel} {X : Nat → Cel} {N : Pl} {W : BitVec 64} {s j : Nat} (hK : KOK K) (hW : LWP K F 0 W) (hA : SOS K A s) (hj : j < s) (h : XRL K F X N) : XRL K F (dnX K A X j) (hapN K p0 N (A 25 (j : Int)) (A 26 (j : Int)) (A 27 (j : Int)) W) := fun w hw hl => by
  obtain ⟨a1, a2, a3, a4⟩ := hA (j : Int) (by omega) (by omega)
  obtain ⟨h1, h2⟩ := h w hw hl
  have g := RX_hap (p := p0) (k := A 25 (j : Int)) (x := A 26 (j : Int)) (y := A 27 (j : Int)) (fr := 0) (W := W) hw hK h1 a2 (fun _ => ⟨a3, a4⟩) (by omega) (by rw [h2]; rfl)
  have hl2 : W.getLsbD w = true := by rw [hW w hw]; exact hl
  rw [if_pos hl2] at g
  refine ⟨g, ?_⟩
  show (doesX K (X w) _ _ _ 0) 0 24 = 0
  rw [doesX_0]
  exact h2
theorem chk_ar {K F : Cel} {X : Nat → Cel} {N : Pl} {W : BitVec 64} {c : Nat} (hW : LWP K F 0 W) (h12 : K 0 11 ≤ 12) (hc : c < 2 ^ (K 0 11).toNat) (h : XRL K F X N) : arB N c W 12 = chkX K F c X := by
  have g := ar_iff (N := N) (Xf := X) hW h12 hc (fun w hw hl => (h w hw hl).1)
  refine Bool.eq_iff_iff.mpr (g.trans ?_)
  unfold chkX
  rw [allF_iff]
  constructor
  · intro h w hw
    cases hl : leftB K F 0 w with
    | false => rfl
    | true => rw [Bool.not_true, Bool.false_or, decide_eq_true_eq]; exact h w hw hl
  · intro h w hw hl
    have g := h w hw
    rw [hl, Bool.not_true, Bool.false_or, decide_eq_true_eq] at g
    exact g
set_option maxHeartbeats 1000000 in
set_option maxRecDepth 100000 in
theorem c_order0 {μ : Mem} {K F A0 : Cel} {R N A B : Pl} {sg : Int} {s c n dp dn : Nat} {W : BitVec 64} {X : Nat → Cel} (hR : KR K μ) (hK : KOK K) (hlp : μ.1 3 1 = p0) (hS : SR A0 s μ) (hA : SOS K A0 s) (hc : c < 2 ^ (K 0 11).toNat) (hW : LWP K F 0 W) (hd : dp = s) (hs : sg = 0 ∨ sg = 1) : PC shC 3 mX2_orderFrom [vr 7, vi (dp : Int), vi (dn : Int), vi (c : Int), vl W] (pw μ R N A B sg) (QI (fun z μ' => z = dfsV K F A0 c 0 X (seg dn s 0) ∧ (-9 ≤ z ∧ z < ((6 ^ 0 : Nat) : Int)) ∧ ∃ (R' N' A' B' : Pl) (s' : Int), (s' = 0 ∨ s' = 1) ∧ (∀ j, j < (dp : Int) * 156 → R' j = R j) ∧ μ' = pw μ R' N' A' B' s')) := by
  refine PC.of (by decide +kernel) (Nat.le_of_ble_eq_true rfl) ?_
  refine P_sub (L' := [(0, vr 7), (1, vi (dp : Int)), (2, vi (dn : Int)), (3, vi (c : Int)), (4, vl W)]) [0, 1, 2, 3, 4] rfl ?_
  have h9 := hS.1
  refine P_iload_n (pc := 0) dX2_orderFrom_0 rfl 1 rfl ?_
  refine P_aload_n (pc := 1) dX2_orderFrom_1 rfl 0 rfl ?_
  refine P_getR (pc := 2) dX2_orderFrom_2 fa_RX2_15 sC_7 fC7_0 ?_
  refine P_getI (jj := 9) (pc := 5) dX2_orderFrom_5 fa_RX2_77 sC_1 fC1_9 rfl ?_
  try simp (disch := omega) only [pw_N, pw_R, pw_i, pw_s, pw_j, pw_ps, pw_rN, pw_rR]
  rw [hS.1.1]
  refine P_icmp_ge (tgt := 16) (pc := 8) dX2_orderFrom_8 (by decide) (by first | assumption | (unfold InR; omega)) (by first | assumption | (unfold InR; omega)) (fun c_8 => ?_) (fun c_8 => ?_)
  · refine P_iconst (pc := 16) dX2_orderFrom_16 ?_
    exact P_iret (pc := 17) dX2_orderFrom_17 rfl (QI.mk (by exact ⟨rfl, by decide, R, N, A, B, sg, hs, fun _ _ => rfl, rfl⟩))
  · exfalso; omega
set_option maxHeartbeats 1000000 in
set_option maxRecDepth 100000 in
theorem l_orderS {μ : Mem} {K F A0 : Cel} {R N : Pl} {s c n dp dn : Nat} {W : BitVec 64} {X : Nat → Cel} (hR : KR K μ) (hK : KOK K) (hlp : μ.1 3 1 = p0) (hS : SR A0 s μ) (hA : SOS K A0 s) (hc : c < 2 ^ (K 0 11).toNat) (hW : LWP K F 0 W) (hd : dp + (n + 1) = s) (hdn : dn < 32) (hX : XRL K F X N) (IH : ∀ (dn : Nat) (X : Nat → Cel) (R N A B : Pl) (sg : Int), dn < 32 → (sg = 0 ∨ sg = 1) → XRL K F X N → PC shC (n + 3) mX2_orderFrom [vr 7, vi (((dp + 1 : Nat)) : Int), vi (dn : Int), vi (c : Int), vl W] (pw μ R N A B sg) (QI (fun z μ' => z = dfsV K F A0 c n X (seg dn s 0) ∧ (-9 ≤ z ∧ z < ((6 ^ n : Nat) : Int)) ∧ ∃ (R' N' A' B' : Pl) (s' : Int), (s' = 0 ∨ s' = 1) ∧ (∀ j, j < ((dp + 1 : Nat) : Int) * 156 → R' j = R j) ∧ μ' = pw μ R' N' A' B' s'))) : ∀ (m j : Nat) (R1 N1 A1 B1 : Pl) (sg1 : Int), j ≤ s → s - j < m → (sg1 = 0 ∨ sg1 = 1) → (∀ i, 0 ≤ i → i < 156 → R1 ((dp : Int) * 156 + i) = N i) → (∀ i, i < (dp : Int) * 156 → R1 i = R i) → dfsV K F A0 c (n + 1) X (seg dn s 0) = dfsJ K F A0 c n X (seg dn s 0) (seg dn (s - j) j) → PW shC (n + 1 + 3) mX2_orderFrom 26 [(0, vr 7), (1, vi (dp : Int)), (2, vi (dn : Int)), (3, vi (c : Int)), (4, vl W), (6, vi (j : Int))] [] (pw μ R1 N1 A1 B1 sg1) (QI (fun z μ' => z = dfsV K F A0 c (n + 1) X (seg dn s 0) ∧ (-9 ≤ z ∧ z < ((6 ^ (n + 1) : Nat) : Int)) ∧ ∃ (R' N' A' B' : Pl) (s' : Int), (s' = 0 ∨ s' = 1) ∧ (∀ j, j < (dp : Int) * 156 → R' j = R j) ∧ μ' = pw μ R' N' A' B' s')) := by
  intro m
  induction m with
  | zero => intro j R1 N1 A1 B1 sg1 _ q; omega
  | succ m ih =>
  intro j R1 N1 A1 B1 sg1 hj hm hs1 hR1 hR1b hQ
  have h9 := hS.1
  have hK1 := hK.1
  have hp : 2 ^ (K 0 11).toNat ≤ 2 ^ 12 := Nat.pow_le_pow_right (by decide) (by omega)
  have hp6 : 0 < 6 ^ (n + 1) := Nat.pow_pos (by decide)
  have d1 := wdiv (w := (dn : Int)) (n := ((j : Int)).toNat) (by omega) (by omega)
  have gb := wbitN (u := j) (show (dn : Int) = ((dn : Nat) : Int) from rfl)
  have hseg : j < s → seg dn (s - j) j = if dn.testBit j = true then seg dn (s - (j + 1)) (j + 1) else j :: seg dn (s - (j + 1)) (j + 1) := fun q => by
    rw [show s - j = (s - (j + 1)) + 1 by omega]
    rfl
  refine P_iload (pc := 26) dX2_orderFrom_26 5 rfl ?_
  refine P_aload_n (pc := 28) dX2_orderFrom_28 rfl 0 rfl ?_
  refine P_getR (pc := 29) dX2_orderFrom_29 fa_RX2_15 sC_7 fC7_0 ?_
  refine P_getI (jj := 9) (pc := 32) dX2_orderFrom_32 fa_RX2_77 sC_1 fC1_9 rfl ?_
  try simp (disch := omega) only [pw_N, pw_R, pw_i, pw_s, pw_j, pw_ps, pw_rN, pw_rR]
  rw [hS.1.1]
  refine P_icmp_ge (tgt := 146) (pc := 35) dX2_orderFrom_35 (by decide) (by first | assumption | (unfold InR; omega) | (rw [gb]; unfold InR; split <;> omega)) (by first | assumption | (unfold InR; omega) | (rw [gb]; unfold InR; split <;> omega)) (fun c_35 => ?_) (fun c_35 => ?_)
  · refine P_bipush (pc := 146) dX2_orderFrom_146 (by decide) ?_
    exact P_iret (pc := 148) dX2_orderFrom_148 rfl (QI.mk (by
          have e9 : j = s := by omega
          subst e9
          refine ⟨by rw [hQ, Nat.sub_self]; rfl, ⟨by decide, by omega⟩, R1, N1, A1, B1, sg1, hs1, hR1b, rfl⟩))
  · refine P_iload_n (pc := 38) dX2_orderFrom_38 rfl 2 rfl ?_
    refine P_iload (pc := 39) dX2_orderFrom_39 5 rfl ?_
    refine P_iushr (pc := 41) dX2_orderFrom_41 (wI_ushr (by omega) (by omega) (by omega) (by omega)) ?_
    refine P_iconst (pc := 42) dX2_orderFrom_42 ?_
    refine P_iand (pc := 43) dX2_orderFrom_43 (wI_and d1.1 d1.2 (by omega) (by omega)) ?_
    refine P_if_ne (tgt := 140) (pc := 44) dX2_orderFrom_44 (by decide) (by first | assumption | (unfold InR; omega) | (rw [gb]; unfold InR; split <;> omega)) (fun c_44 => ?_) (fun c_44 => ?_)
    · refine P_iinc (L' := [(6, vi _), (0, vr 7), (1, vi _), (2, vi _), (3, vi _), (4, vl _)]) (pc := 140) dX2_orderFrom_140 (by decide) 5 rfl rfl ?_
      refine P_goto (tgt := 26) (pc := 143) dX2_orderFrom_143 (by decide) ?_
      refine P_sub (L' := [(0, vr 7), (1, vi _), (2, vi _), (3, vi _), (4, vl _), (6, vi _)]) [1, 2, 3, 4, 5, 0] rfl ?_
      first
        | (have hbit : dn.testBit j = true := by rw [gb] at c_44; clear ih IH; grind
           rw [hseg (by omega), if_pos hbit] at hQ
           exact P_cast (L' := [(0, vr 7), (1, vi (dp : Int)), (2, vi (dn : Int)), (3, vi (c : Int)), (4, vl W), (6, vi ((j + 1 : Nat) : Int))]) rfl rfl (ih (j + 1) R1 N1 A1 B1 sg1 (by omega) (by omega) hs1 hR1 hR1b hQ))
        | (have hck : ¬ (chkX K F c (dnX K A0 X j) = true ∧ dfsV K F A0 c n (dnX K A0 X j) ((seg dn s 0).erase j) ≠ -9) := fun q => by
             rcases hz with hz | hz
             · exact hz.2 q.1
             · omega
           rw [if_neg hck] at hsJ
           exact P_cast (L' := [(0, vr 7), (1, vi (dp : Int)), (2, vi (dn : Int)), (3, vi (c : Int)), (4, vl W), (6, vi ((j + 1 : Nat) : Int))]) rfl rfl (ih (j + 1) R1 _ A_ B_ s_ (by omega) (by omega) hs_ hR1 hR1b (hQ.trans hsJ)))
        | (have hck : ¬ (chkX K F c (dnX K A0 X j) = true ∧ dfsV K F A0 c n (dnX K A0 X j) ((seg dn s 0).erase j) ≠ -9) := fun q => by
             rw [← hr] at q
             exact q.2 c_126
           rw [if_neg hck] at hsJ
           exact P_cast (L' := [(0, vr 7), (1, vi (dp : Int)), (2, vi (dn : Int)), (3, vi (c : Int)), (4, vl W), (6, vi ((j + 1 : Nat) : Int))]) rfl rfl (ih (j + 1) R2 N_ A_ B_ s2 (by omega) (by omega) hs2 (fun i a b => by rw [hR2 _ (by omega)]; exact hR1 i a b) (fun i a => by rw [hR2 _ (by omega)]; exact hR1b i a) (hQ.trans hsJ)))
    · have hbit : dn.testBit j = false := by
        have e : ¬ dn.testBit j = true := by rw [gb] at c_44; clear ih IH; grind
        exact Bool.eq_false_iff.mpr e
      have hsJ : dfsJ K F A0 c n X (seg dn s 0) (seg dn (s - j) j) = (if chkX K F c (dnX K A0 X j) = true ∧ dfsV K F A0 c n (dnX K A0 X j) ((seg dn s 0).erase j) ≠ -9 then 6 * dfsV K F A0 c n (dnX K A0 X j) ((seg dn s 0).erase j) + (j : Int) + 1 else dfsJ K F A0 c n X (seg dn s 0) (seg dn (s - (j + 1)) (j + 1))) := by
        rw [hseg (by omega), hbit, if_neg (by decide)]
        exact dfsJ_s
      have hl2 : (seg dn s 0).erase j = seg (dn ||| 2 ^ j) s 0 := seg_erase hbit s 0 (Nat.zero_le _)
      have hX1 := XRL_ag hK hX (tk_ag (R := R1) (N := N1) (d := (dp : Int)) hR1)
      have hX2 := XRL_s (j := j) hK hW hA (show j < s by omega) hX1
      have hst := hA (j : Int) (by omega) (by omega)
      have hor : dn ||| 2 ^ j < 32 := Nat.or_lt_two_pow (n := 5) hdn (Nat.pow_lt_pow_right (by decide) (by omega))
      refine P_aload_n (pc := 47) dX2_orderFrom_47 rfl 0 rfl ?_
      refine P_iload_n (pc := 48) dX2_orderFrom_48 rfl 1 rfl ?_
      refine P_callVv (Y' := mX2_takeRow) (as := [_]) (pc := 49) dX2_orderFrom_49 rfl (by omega : 1 < n + 1 + 3) sC_7 rfl ml_RX2_54 im_X2_takeRow se_X2_takeRow mk_X2_takeRow (Nat.le_of_ble_eq_true rfl) (c_X2_takeRow (by omega)) (fun μ_ hq => ?_)
      subst hq
      try simp (disch := omega) only [pw_N, pw_R, pw_i, pw_s, pw_j, pw_ps, pw_rN, pw_rR]
      refine P_aload_n (pc := 52) dX2_orderFrom_52 rfl 0 rfl ?_
      refine P_getR (pc := 53) dX2_orderFrom_53 fa_RX2_19 sC_7 fC7_1 ?_
      refine P_aload_n (pc := 56) dX2_orderFrom_56 rfl 0 rfl ?_
      refine P_getR (pc := 57) dX2_orderFrom_57 fa_RX2_15 sC_7 fC7_0 ?_
      refine P_iload (pc := 60) dX2_orderFrom_60 5 rfl ?_
      refine P_iconst (pc := 62) dX2_orderFrom_62 ?_
      refine P_callVi (Y' := mX3_stepPart) (as := [_, _]) (pc := 63) dX2_orderFrom_63 rfl (by omega : 0 < n + 1 + 3) sC_1 rfl ml_RX2_80 im_X3_stepPart se_X3_stepPart mk_X3_stepPart (Nat.le_of_ble_eq_true rfl) (c_X3_stepPart (by omega) (by omega)) (fun z_ μ_ hq => ?_)
      obtain ⟨hz, hμ_⟩ := hq
      subst hμ_
      rw [pw_i (by decide)] at hz
      try simp only [Int.add_zero] at hz
      rw [(hS.2 (j : Int)).1] at hz
      subst hz
      try simp (disch := omega) only [pw_N, pw_R, pw_i, pw_s, pw_j, pw_ps, pw_rN, pw_rR]
      refine P_aload_n (pc := 66) dX2_orderFrom_66 rfl 0 rfl ?_
      refine P_getR (pc := 67) dX2_orderFrom_67 fa_RX2_15 sC_7 fC7_0 ?_
      refine P_iload (pc := 70) dX2_orderFrom_70 5 rfl ?_
      refine P_iconst (pc := 72) dX2_orderFrom_72 ?_
      refine P_callVi (Y' := mX3_stepPart) (as := [_, _]) (pc := 73) dX2_orderFrom_73 rfl (by omega : 0 < n + 1 + 3) sC_1 rfl ml_RX2_80 im_X3_stepPart se_X3_stepPart mk_X3_stepPart (Nat.le_of_ble_eq_true rfl) (c_X3_stepPart (by omega) (by omega)) (fun z_ μ_ hq => ?_)
      obtain ⟨hz, hμ_⟩ := hq
      subst hμ_
      rw [pw_i (by decide)] at hz
      try simp only [Int.add_zero] at hz
      rw [(hS.2 (j : Int)).2.1] at hz
      subst hz
      try simp (disch := omega) only [pw_N, pw_R, pw_i, pw_s, pw_j, pw_ps, pw_rN, pw_rR]
      refine P_aload_n (pc := 76) dX2_orderFrom_76 rfl 0 rfl ?_
      refine P_getR (pc := 77) dX2_orderFrom_77 fa_RX2_15 sC_7 fC7_0 ?_
      refine P_iload (pc := 80) dX2_orderFrom_80 5 rfl ?_
      refine P_iconst (pc := 82) dX2_orderFrom_82 ?_
      refine P_callVi (Y' := mX3_stepPart) (as := [_, _]) (pc := 83) dX2_orderFrom_83 rfl (by omega : 0 < n + 1 + 3) sC_1 rfl ml_RX2_80 im_X3_stepPart se_X3_stepPart mk_X3_stepPart (Nat.le_of_ble_eq_true rfl) (c_X3_stepPart (by omega) (by omega)) (fun z_ μ_ hq => ?_)
      obtain ⟨hz, hμ_⟩ := hq
      subst hμ_
      rw [pw_i (by decide)] at hz
      try simp only [Int.add_zero] at hz
      rw [(hS.2 (j : Int)).2.2] at hz
      subst hz
      try simp (disch := omega) only [pw_N, pw_R, pw_i, pw_s, pw_j, pw_ps, pw_rN, pw_rR]
      refine P_lload (pc := 86) dX2_orderFrom_86 4 rfl ?_
      refine P_callVv (Y' := mX4_happen) (as := [_, _, _, _]) (pc := 88) dX2_orderFrom_88 rfl (by omega : 2 < n + 1 + 3) sC_3 rfl ml_RX2_61 im_X4_happen se_X4_happen mk_X4_happen (Nat.le_of_ble_eq_true rfl) (c_hap0 hR hK (by omega) (by omega) (by omega) hlp hs1) (fun μ_ hq => ?_)
      obtain ⟨A_, B_, s_, hs_, -, hμ_⟩ := hq
      subst hμ_
      try simp (disch := omega) only [pw_N, pw_R, pw_i, pw_s, pw_j, pw_ps, pw_rN, pw_rR]
      refine P_aload_n (pc := 91) dX2_orderFrom_91 rfl 0 rfl ?_
      refine P_getR (pc := 92) dX2_orderFrom_92 fa_RX2_19 sC_7 fC7_1 ?_
      refine P_iload_n (pc := 95) dX2_orderFrom_95 rfl 3 rfl ?_
      refine P_lload (pc := 96) dX2_orderFrom_96 4 rfl ?_
      refine P_callVi (Y' := mX4_areClean) (as := [_, _]) (pc := 98) dX2_orderFrom_98 rfl (by omega : 0 < n + 1 + 3) sC_3 rfl ml_RX2_69 im_X4_areClean se_X4_areClean mk_X4_areClean (Nat.le_of_ble_eq_true rfl) (c_arc0 (by omega)) (fun z_ μ_ hq => ?_)
      obtain ⟨hz, hμ_⟩ := hq
      subst hμ_
      rw [chk_ar hW hK1.2 hc hX2] at hz
      have hz := ite01 hz
      try simp (disch := omega) only [pw_N, pw_R, pw_i, pw_s, pw_j, pw_ps, pw_rN, pw_rR]
      refine P_if_eq (tgt := 140) (pc := 101) dX2_orderFrom_101 (by decide) (by first | assumption | (unfold InR; omega) | (rw [gb]; unfold InR; split <;> omega)) (fun c_101 => ?_) (fun c_101 => ?_)
      · refine P_iinc (L' := [(6, vi _), (0, vr 7), (1, vi _), (2, vi _), (3, vi _), (4, vl _)]) (pc := 140) dX2_orderFrom_140 (by decide) 5 rfl rfl ?_
        refine P_goto (tgt := 26) (pc := 143) dX2_orderFrom_143 (by decide) ?_
        refine P_sub (L' := [(0, vr 7), (1, vi _), (2, vi _), (3, vi _), (4, vl _), (6, vi _)]) [1, 2, 3, 4, 5, 0] rfl ?_
        first
          | (have hbit : dn.testBit j = true := by rw [gb] at c_44; clear ih IH; grind
             rw [hseg (by omega), if_pos hbit] at hQ
             exact P_cast (L' := [(0, vr 7), (1, vi (dp : Int)), (2, vi (dn : Int)), (3, vi (c : Int)), (4, vl W), (6, vi ((j + 1 : Nat) : Int))]) rfl rfl (ih (j + 1) R1 N1 A1 B1 sg1 (by omega) (by omega) hs1 hR1 hR1b hQ))
          | (have hck : ¬ (chkX K F c (dnX K A0 X j) = true ∧ dfsV K F A0 c n (dnX K A0 X j) ((seg dn s 0).erase j) ≠ -9) := fun q => by
               rcases hz with hz | hz
               · exact hz.2 q.1
               · omega
             rw [if_neg hck] at hsJ
             exact P_cast (L' := [(0, vr 7), (1, vi (dp : Int)), (2, vi (dn : Int)), (3, vi (c : Int)), (4, vl W), (6, vi ((j + 1 : Nat) : Int))]) rfl rfl (ih (j + 1) R1 _ A_ B_ s_ (by omega) (by omega) hs_ hR1 hR1b (hQ.trans hsJ)))
          | (have hck : ¬ (chkX K F c (dnX K A0 X j) = true ∧ dfsV K F A0 c n (dnX K A0 X j) ((seg dn s 0).erase j) ≠ -9) := fun q => by
               rw [← hr] at q
               exact q.2 c_126
             rw [if_neg hck] at hsJ
             exact P_cast (L' := [(0, vr 7), (1, vi (dp : Int)), (2, vi (dn : Int)), (3, vi (c : Int)), (4, vl W), (6, vi ((j + 1 : Nat) : Int))]) rfl rfl (ih (j + 1) R2 N_ A_ B_ s2 (by omega) (by omega) hs2 (fun i a b => by rw [hR2 _ (by omega)]; exact hR1 i a b) (fun i a => by rw [hR2 _ (by omega)]; exact hR1b i a) (hQ.trans hsJ)))
      · refine P_aload_n (pc := 104) dX2_orderFrom_104 rfl 0 rfl ?_
        refine P_iload_n (pc := 105) dX2_orderFrom_105 rfl 1 rfl ?_
        refine P_iconst (pc := 106) dX2_orderFrom_106 ?_
        refine P_iadd (pc := 107) dX2_orderFrom_107 ?_
        refine P_iload_n (pc := 108) dX2_orderFrom_108 rfl 2 rfl ?_
        refine P_iconst (pc := 109) dX2_orderFrom_109 ?_
        refine P_iload (pc := 110) dX2_orderFrom_110 5 rfl ?_
        refine P_ishl (pc := 112) dX2_orderFrom_112 (wN_shl1N (by omega)) ?_
        refine P_ior (pc := 113) dX2_orderFrom_113 (wN_or) ?_
        refine P_iload_n (pc := 114) dX2_orderFrom_114 rfl 3 rfl ?_
        refine P_lload (pc := 115) dX2_orderFrom_115 4 rfl ?_
        refine P_callVi (Y' := mX2_orderFrom) (as := [_, _, _, _]) (pc := 117) dX2_orderFrom_117 rfl (by omega : n + 3 < n + 1 + 3) sC_7 rfl ml_RX2_73 im_X2_orderFrom se_X2_orderFrom mk_X2_orderFrom (Nat.le_of_ble_eq_true rfl) (IH (dn ||| 2 ^ j) (dnX K A0 X j) _ _ _ _ s_ hor hs_ hX2) (fun z_ μ_ hq => ?_)
        obtain ⟨hr, hrb, R2, N_, A_, B_, s2, hs2, hR2, hμ_⟩ := hq
        subst hμ_
        have hn5 : (6 : Nat) ^ n ≤ 6 ^ 5 := Nat.pow_le_pow_right (by decide) (by omega)
        have hzr : InR z_ := by unfold InR; omega
        rw [← hl2] at hr
        try simp (disch := omega) only [pw_N, pw_R, pw_i, pw_s, pw_j, pw_ps, pw_rN, pw_rR]
        refine P_istore (L' := [(7, vi _), (0, vr 7), (1, vi _), (2, vi _), (3, vi _), (4, vl _), (6, vi _)]) (pc := 120) dX2_orderFrom_120 (by decide) rfl ?_
        refine P_iload (pc := 122) dX2_orderFrom_122 0 rfl ?_
        refine P_bipush (pc := 124) dX2_orderFrom_124 (by decide) ?_
        refine P_icmp_eq (tgt := 140) (pc := 126) dX2_orderFrom_126 (by decide) (by first | assumption | (unfold InR; omega) | (rw [gb]; unfold InR; split <;> omega)) (by first | assumption | (unfold InR; omega) | (rw [gb]; unfold InR; split <;> omega)) (fun c_126 => ?_) (fun c_126 => ?_)
        · refine P_iinc (L' := [(6, vi _), (7, vi _), (0, vr 7), (1, vi _), (2, vi _), (3, vi _), (4, vl _)]) (pc := 140) dX2_orderFrom_140 (by decide) 6 rfl rfl ?_
          refine P_goto (tgt := 26) (pc := 143) dX2_orderFrom_143 (by decide) ?_
          refine P_sub (L' := [(0, vr 7), (1, vi _), (2, vi _), (3, vi _), (4, vl _), (6, vi _)]) [2, 3, 4, 5, 6, 0] rfl ?_
          first
            | (have hbit : dn.testBit j = true := by rw [gb] at c_44; clear ih IH; grind
               rw [hseg (by omega), if_pos hbit] at hQ
               exact P_cast (L' := [(0, vr 7), (1, vi (dp : Int)), (2, vi (dn : Int)), (3, vi (c : Int)), (4, vl W), (6, vi ((j + 1 : Nat) : Int))]) rfl rfl (ih (j + 1) R1 N1 A1 B1 sg1 (by omega) (by omega) hs1 hR1 hR1b hQ))
            | (have hck : ¬ (chkX K F c (dnX K A0 X j) = true ∧ dfsV K F A0 c n (dnX K A0 X j) ((seg dn s 0).erase j) ≠ -9) := fun q => by
                 rcases hz with hz | hz
                 · exact hz.2 q.1
                 · omega
               rw [if_neg hck] at hsJ
               exact P_cast (L' := [(0, vr 7), (1, vi (dp : Int)), (2, vi (dn : Int)), (3, vi (c : Int)), (4, vl W), (6, vi ((j + 1 : Nat) : Int))]) rfl rfl (ih (j + 1) R1 _ A_ B_ s_ (by omega) (by omega) hs_ hR1 hR1b (hQ.trans hsJ)))
            | (have hck : ¬ (chkX K F c (dnX K A0 X j) = true ∧ dfsV K F A0 c n (dnX K A0 X j) ((seg dn s 0).erase j) ≠ -9) := fun q => by
                 rw [← hr] at q
                 exact q.2 c_126
               rw [if_neg hck] at hsJ
               exact P_cast (L' := [(0, vr 7), (1, vi (dp : Int)), (2, vi (dn : Int)), (3, vi (c : Int)), (4, vl W), (6, vi ((j + 1 : Nat) : Int))]) rfl rfl (ih (j + 1) R2 N_ A_ B_ s2 (by omega) (by omega) hs2 (fun i a b => by rw [hR2 _ (by omega)]; exact hR1 i a b) (fun i a => by rw [hR2 _ (by omega)]; exact hR1b i a) (hQ.trans hsJ)))
        · refine P_iload (pc := 129) dX2_orderFrom_129 0 rfl ?_
          refine P_bipush (pc := 131) dX2_orderFrom_131 (by decide) ?_
          refine P_imul (pc := 133) dX2_orderFrom_133 ?_
          refine P_iload (pc := 134) dX2_orderFrom_134 6 rfl ?_
          refine P_iadd (pc := 136) dX2_orderFrom_136 ?_
          refine P_iconst (pc := 137) dX2_orderFrom_137 ?_
          refine P_iadd (pc := 138) dX2_orderFrom_138 ?_
          exact P_iret (pc := 139) dX2_orderFrom_139 rfl (QI.mk (by
                have hck : chkX K F c (dnX K A0 X j) = true := by
                  rcases hz with hz | hz
                  · omega
                  · exact hz.2
                rw [if_pos ⟨hck, by rw [← hr]; exact c_126⟩, ← hr] at hsJ
                have h6 : (6 : Nat) ^ (n + 1) = 6 ^ n * 6 := Nat.pow_succ ..
                have hr0 : z_ = -9 ∨ 0 ≤ z_ := by rw [hr]; exact findL_in _ _
                refine ⟨by rw [hQ, hsJ]; omega, ⟨by omega, by omega⟩, R2, N_, A_, B_, s2, hs2, fun i hi => ?_, rfl⟩
                rw [hR2 i (by omega)]
                exact hR1b i hi))
set_option maxHeartbeats 1000000 in
set_option maxRecDepth 100000 in
theorem c_orderS {μ : Mem} {K F A0 : Cel} {R N A B : Pl} {sg : Int} {s c n dp dn : Nat} {W : BitVec 64} {X : Nat → Cel} (hR : KR K μ) (hK : KOK K) (hlp : μ.1 3 1 = p0) (hS : SR A0 s μ) (hA : SOS K A0 s) (hc : c < 2 ^ (K 0 11).toNat) (hW : LWP K F 0 W) (hd : dp + (n + 1) = s) (hdn : dn < 32) (hX : XRL K F X N) (IH : ∀ (dn : Nat) (X : Nat → Cel) (R N A B : Pl) (sg : Int), dn < 32 → (sg = 0 ∨ sg = 1) → XRL K F X N → PC shC (n + 3) mX2_orderFrom [vr 7, vi (((dp + 1 : Nat)) : Int), vi (dn : Int), vi (c : Int), vl W] (pw μ R N A B sg) (QI (fun z μ' => z = dfsV K F A0 c n X (seg dn s 0) ∧ (-9 ≤ z ∧ z < ((6 ^ n : Nat) : Int)) ∧ ∃ (R' N' A' B' : Pl) (s' : Int), (s' = 0 ∨ s' = 1) ∧ (∀ j, j < ((dp + 1 : Nat) : Int) * 156 → R' j = R j) ∧ μ' = pw μ R' N' A' B' s'))) (hs : sg = 0 ∨ sg = 1) : PC shC (n + 1 + 3) mX2_orderFrom [vr 7, vi (dp : Int), vi (dn : Int), vi (c : Int), vl W] (pw μ R N A B sg) (QI (fun z μ' => z = dfsV K F A0 c (n + 1) X (seg dn s 0) ∧ (-9 ≤ z ∧ z < ((6 ^ (n + 1) : Nat) : Int)) ∧ ∃ (R' N' A' B' : Pl) (s' : Int), (s' = 0 ∨ s' = 1) ∧ (∀ j, j < (dp : Int) * 156 → R' j = R j) ∧ μ' = pw μ R' N' A' B' s')) := by
  refine PC.of (by decide +kernel) (Nat.le_of_ble_eq_true rfl) ?_
  refine P_sub (L' := [(0, vr 7), (1, vi (dp : Int)), (2, vi (dn : Int)), (3, vi (c : Int)), (4, vl W)]) [0, 1, 2, 3, 4] rfl ?_
  have h9 := hS.1
  have hK1 := hK.1
  have hp : 2 ^ (K 0 11).toNat ≤ 2 ^ 12 := Nat.pow_le_pow_right (by decide) (by omega)
  refine P_iload_n (pc := 0) dX2_orderFrom_0 rfl 1 rfl ?_
  refine P_aload_n (pc := 1) dX2_orderFrom_1 rfl 0 rfl ?_
  refine P_getR (pc := 2) dX2_orderFrom_2 fa_RX2_15 sC_7 fC7_0 ?_
  refine P_getI (jj := 9) (pc := 5) dX2_orderFrom_5 fa_RX2_77 sC_1 fC1_9 rfl ?_
  try simp (disch := omega) only [pw_N, pw_R, pw_i, pw_s, pw_j, pw_ps, pw_rN, pw_rR]
  rw [hS.1.1]
  refine P_icmp_ge (tgt := 16) (pc := 8) dX2_orderFrom_8 (by decide) (by first | assumption | (unfold InR; omega) | (rw [gb]; unfold InR; split <;> omega)) (by first | assumption | (unfold InR; omega) | (rw [gb]; unfold InR; split <;> omega)) (fun c_8 => ?_) (fun c_8 => ?_)
  · exfalso; omega
  · refine P_iload_n (pc := 11) dX2_orderFrom_11 rfl 1 rfl ?_
    refine P_iconst (pc := 12) dX2_orderFrom_12 ?_
    refine P_icmp_lt (tgt := 18) (pc := 13) dX2_orderFrom_13 (by decide) (by first | assumption | (unfold InR; omega) | (rw [gb]; unfold InR; split <;> omega)) (by first | assumption | (unfold InR; omega) | (rw [gb]; unfold InR; split <;> omega)) (fun c_13 => ?_) (fun c_13 => ?_)
    · refine P_aload_n (pc := 18) dX2_orderFrom_18 rfl 0 rfl ?_
      refine P_iload_n (pc := 19) dX2_orderFrom_19 rfl 1 rfl ?_
      refine P_callVv (Y' := mX2_keepRow) (as := [_]) (pc := 20) dX2_orderFrom_20 rfl (by omega : 1 < n + 1 + 3) sC_7 rfl ml_RX2_29 im_X2_keepRow se_X2_keepRow mk_X2_keepRow (Nat.le_of_ble_eq_true rfl) (c_X2_keepRow (by omega)) (fun μ_ hq => ?_)
      subst hq
      try simp (disch := omega) only [pw_N, pw_R, pw_i, pw_s, pw_j, pw_ps, pw_rN, pw_rR]
      refine P_iconst (pc := 23) dX2_orderFrom_23 ?_
      refine P_istore (L' := [(6, vi _), (0, vr 7), (1, vi _), (2, vi _), (3, vi _), (4, vl _)]) (pc := 24) dX2_orderFrom_24 (by decide) rfl ?_
      refine P_sub (L' := [(0, vr 7), (1, vi _), (2, vi _), (3, vi _), (4, vl _), (6, vi _)]) [1, 2, 3, 4, 5, 0] rfl ?_
      exact l_orderS hR hK hlp hS hA hc hW hd hdn hX IH (s + 1) 0 _ N A B sg (by omega) (by omega) hs kp_at (fun i hi => by unfold kpR; rw [if_neg (by omega)]) (by rw [Nat.sub_zero]; rfl)
    · exfalso; omega
theorem c_order_all {μ : Mem} {K F A0 : Cel} {s c : Nat} {W : BitVec 64} (hR : KR K μ) (hK : KOK K) (hlp : μ.1 3 1 = p0) (hS : SR A0 s μ) (hA : SOS K A0 s) (hc : c < 2 ^ (K 0 11).toNat) (hW : LWP K F 0 W) : ∀ (n dp dn : Nat) (X : Nat → Cel) (R N A B : Pl) (sg : Int), dp + n = s → dn < 32 → (sg = 0 ∨ sg = 1) → XRL K F X N → PC shC (n + 3) mX2_orderFrom [vr 7, vi (dp : Int), vi (dn : Int), vi (c : Int), vl W] (pw μ R N A B sg) (QI (fun z μ' => z = dfsV K F A0 c n X (seg dn s 0) ∧ (-9 ≤ z ∧ z < ((6 ^ n : Nat) : Int)) ∧ ∃ (R' N' A' B' : Pl) (s' : Int), (s' = 0 ∨ s' = 1) ∧ (∀ j, j < (dp : Int) * 156 → R' j = R j) ∧ μ' = pw μ R' N' A' B' s')) := by
  intro n
  induction n with
  | zero => intro dp dn X R N A B sg hd _ hs _; exact c_order0 (n := 0) hR hK hlp hS hA hc hW (by omega) hs
  | succ n ih => intro dp dn X R N A B sg hd hdn hs hX; exact c_orderS hR hK hlp hS hA hc hW hd hdn hX (fun dn X R N A B sg a b c => ih (dp + 1) dn X R N A B sg (by omega) a b c) hs
