theorem upN_shift {α : Type} {f g : Int → α → α} {a c : Int} {x : α} : ∀ n : Nat, (∀ i : Nat, i < n → f (a + (i : Int)) = g (c + (i : Int))) → upN f a n x = upN g c n x
  | 0, _ => rfl
  | n + 1, h => by rw [upN_s, upN_s, upN_shift n (fun i hi => h i (by omega)), h n (by omega)]
theorem ck_cons {K A : Cel} {a : Nat} {r : List Nat} {y : Cel} (i : Nat) : upN (ckA K A (lnx (a :: r))) 0 (i + 1) y = upN (ckA K A (lnx r)) 0 i (doesX K y (A 25 (a : Int)) (A 26 (a : Int)) (A 27 (a : Int)) 0) := by
  have h := upN_add (ckA K A (lnx (a :: r))) 0 1 y i
  rw [show 1 + i = i + 1 by omega] at h
  rw [h]
  exact upN_shift i (fun j _ => by
    funext X
    unfold ckA lnx gx
    rw [show (0 + ((1 : Nat) : Int) + (j : Int)).toNat = j + 1 by omega, show (0 + (j : Int)).toNat = j by omega]
    rfl)
theorem ok_ck {K F A : Cel} {c : Nat} : ∀ (x : List Nat) (X : Nat → Cel), okL K F A c X x = true ↔ ∀ i, i < x.length → ∀ w, w < 64 → leftB K F 0 w = true → clN (upN (ckA K A (lnx x)) 0 (i + 1) (X w)) (K 0 11).toNat &&& c = c
  | [], X => ⟨fun _ i hi => absurd hi (Nat.not_lt_zero i), fun _ => rfl⟩
  | a :: r, X => by
    have ih := ok_ck (K := K) (F := F) (A := A) (c := c) r (dnX K A X a)
    show (chkX K F c (dnX K A X a) && okL K F A c (dnX K A X a) r) = true ↔ _
    rw [Bool.and_eq_true, ih]
    have h0 : chkX K F c (dnX K A X a) = true ↔ ∀ w, w < 64 → leftB K F 0 w = true → clN (dnX K A X a w) (K 0 11).toNat &&& c = c := by
      unfold chkX
      rw [allF_iff]
      constructor
      · intro h w hw hl
        have g := h w hw
        rw [hl, Bool.not_true, Bool.false_or, decide_eq_true_eq] at g
        exact g
      · intro h w hw
        cases hl : leftB K F 0 w with
        | false => rfl
        | true => rw [Bool.not_true, Bool.false_or, decide_eq_true_eq]; exact h w hw hl
    rw [h0]
    constructor
    · rintro ⟨h1, h2⟩ i hi w hw hl
      rw [ck_cons]
      cases i with
      | zero => exact h1 w hw hl
      | succ i => exact h2 i (by simp only [List.length_cons] at hi; omega) w hw hl
    · intro h
      refine ⟨fun w hw hl => ?_, fun i hi w hw hl => ?_⟩
      · have g := h 0 (by simp only [List.length_cons]; omega) w hw hl
        rw [ck_cons] at g
        exact g
      · have g := h (i + 1) (by simp only [List.length_cons]; omega) w hw hl
        rw [ck_cons] at g
        exact g
theorem prm_len : ∀ (n : Nat) (l x : List Nat), x ∈ prm n l → x.length = n
  | 0, l, x, h => by
    have : x ∈ [[]] := h
    rw [List.mem_singleton] at this
    rw [this]
    rfl
  | n + 1, l, x, h => by
    have h : x ∈ l.flatMap (fun a => (prm n (l.erase a)).map (a :: ·)) := h
    rw [List.mem_flatMap] at h
    obtain ⟨a, -, h⟩ := h
    rw [List.mem_map] at h
    obtain ⟨y, hy, rfl⟩ := h
    rw [List.length_cons, prm_len n _ y hy]
theorem ckB_iff {K F A : Cel} {ln : Int → Int} {c s : Nat} : ckB K F A ln c s = true ↔ ∀ i, i < s → ∀ w, w < 64 → leftB K F 0 w = true → clN (ckW K A ln (w : Int) (i + 1)) (K 0 11).toNat &&& c = c := by
  unfold ckB
  rw [allF_iff]
  constructor
  · intro h i hi w hw hl
    have g := h w hw
    rw [hl, Bool.not_true, Bool.false_or, allF_iff] at g
    exact of_decide_eq_true (g i hi)
  · intro h w hw
    cases hl : leftB K F 0 w with
    | false => rfl
    | true =>
      rw [Bool.not_true, Bool.false_or, allF_iff]
      intro i hi
      exact decide_eq_true (h i hi w hw hl)
theorem coo_find {K F A : Cel} {c s : Nat} : ∀ L : List (List Nat), cooN K F A c s L = findL (fun x => ckB K F A (lnx x) c s) L
  | [] => rfl
  | x :: r => by
    simp only [cooN, findL]
    rw [coo_find r]
theorem coo_dfs {K F A : Cel} {c s : Nat} (hs : s < 6) : cooN K F A c s (prmS s) = dfsV K F A c s (fun w => simX K (w : Int) 47 0) (seg 0 s 0) := by
  unfold dfsV
  rw [seg_range s hs, coo_find]
  refine findL_cg _ (fun x hx => Bool.eq_iff_iff.mpr ?_)
  rw [ok_ck, ckB_iff, prm_len s _ x hx]
  rfl
/-! sources -/
theorem or32_N {a c : Nat} (ha : a < 2 ^ 20) (hc : c < 2 ^ 20) : or32 (a : Int) (c : Int) = ((a ||| c : Nat) : Int) := by
  unfold or32
  rw [wN_or]
  have h := Nat.or_lt_two_pow ha hc
  exact Int32.toInt_ofInt_of_le (by omega) (by omega)
theorem frD_bit {N : Pl} {t : Int} {V : BitVec 64} {src w : Nat} (hw : w < 64) : ∀ k, (frD N t V src k).getLsbD w = true ↔ (V.getLsbD w = true ∧ (N (t * 13 + 3)).getLsbD w = true ∧ ∀ j, j < k → (N (t * 13 + 4 + (j : Int))).getLsbD w = src.testBit j)
  | 0 => by
    show (V &&& N (t * 13 + 3)).getLsbD w = true ↔ _
    rw [BitVec.getLsbD_and, Bool.and_eq_true]
    exact ⟨fun h => ⟨h.1, h.2, fun j hj => absurd hj (Nat.not_lt_zero j)⟩, fun h => ⟨h.1, h.2.1⟩⟩
  | k + 1 => by
    have ih := frD_bit (N := N) (t := t) (V := V) (src := src) hw k
    show (frD N t V src k &&& _).getLsbD w = true ↔ _
    rw [BitVec.getLsbD_and, Bool.and_eq_true, ih]
    have e : (if src.testBit k = true then N (t * 13 + 4 + (k : Int)) else ~~~(N (t * 13 + 4 + (k : Int)))).getLsbD w = true ↔ (N (t * 13 + 4 + (k : Int))).getLsbD w = src.testBit k := by
      by_cases q : src.testBit k = true
      · rw [if_pos q, q]
      · rw [if_neg q, BitVec.getLsbD_not, decide_eq_true hw, Bool.true_and, Bool.eq_false_iff.mpr q]
        cases (N (t * 13 + 4 + (k : Int))).getLsbD w <;> simp
    rw [e]
    constructor
    · rintro ⟨⟨h1, h2, h3⟩, h4⟩
      refine ⟨h1, h2, fun j hj => ?_⟩
      rcases Nat.lt_or_ge j k with g | g
      · exact h3 j g
      · rw [show j = k by omega]; exact h4
    · rintro ⟨h1, h2, h3⟩
      exact ⟨⟨h1, h2, fun j hj => h3 j (by omega)⟩, h3 k (by omega)⟩
theorem orB_bit {N : Pl} {t : Int} {V : BitVec 64} {i : Nat} : ∀ n, (orB N t V n).testBit i = true ↔ (i < n ∧ frD N t V (i + 1) 5 ≠ 0#64)
  | 0 => by simp [orB]
  | n + 1 => by
    have ih := orB_bit (N := N) (t := t) (V := V) (i := i) n
    simp only [orB]
    rw [Nat.testBit_or, Bool.or_eq_true, ih]
    by_cases q : frD N t V (n + 1) 5 = 0#64
    · rw [if_pos q]
      constructor
      · rintro (⟨h1, h2⟩ | h)
        · exact ⟨by omega, h2⟩
        · simp at h
      · rintro ⟨h1, h2⟩
        rcases Nat.lt_or_ge i n with g | g
        · exact Or.inl ⟨g, h2⟩
        · rw [show i = n by omega] at h2; exact absurd q h2
    · rw [if_neg q, Nat.testBit_two_pow, decide_eq_true_eq]
      constructor
      · rintro (⟨h1, h2⟩ | h)
        · exact ⟨by omega, h2⟩
        · rw [← h]; exact ⟨by omega, q⟩
      · rintro ⟨h1, h2⟩
        rcases Nat.lt_or_ge i n with g | g
        · exact Or.inl ⟨g, h2⟩
        · exact Or.inr (by omega)
theorem five_bits {a c : Nat} (ha : a < 32) (hc : c < 32) : (∀ j, j < 5 → a.testBit j = c.testBit j) → a = c := fun h => by
  apply Nat.eq_of_testBit_eq
  intro i
  rcases Nat.lt_or_ge i 5 with g | g
  · exact h i g
  · have h5 : (2 : Nat) ^ 5 ≤ 2 ^ i := Nat.pow_le_pow_right (by decide) g
    rw [Nat.testBit_lt_two_pow (Nat.lt_of_lt_of_le ha h5), Nat.testBit_lt_two_pow (Nat.lt_of_lt_of_le hc h5)]
theorem src_N {K X : Cel} {N : Pl} {t : Int} {w : Nat} (h : RT K X (bw N w) t) : ∃ v : Nat, X 14 t = (v : Int) ∧ v < 2 ^ 20 ∧ ∀ i, v.testBit i = true ↔ (i < 20 ∧ 1 ≤ X 13 t ∧ ∀ j : Nat, j < 5 → (N (t * 13 + 4 + (j : Int))).getLsbD w = (i + 1).testBit j) := by
  obtain ⟨r1, -, -, -, -, -, r14, -⟩ := h
  by_cases d : X 13 t = 0
  · refine ⟨0, r14 d, by decide, fun i => ⟨fun z => ?_, fun z => ?_⟩⟩
    · simp at z
    · omega
  · have hr := r1.1
    obtain ⟨n, hn, hs, hb⟩ := r1.2.2.2.2.2 (by omega)
    refine ⟨if n = 0 then 0 else 2 ^ (n - 1), ?_, ?_, fun i => ?_⟩
    · rw [hs]
      unfold srcB
      split
      · rfl
      · exact (Int.natCast_pow 2 (n - 1)).symm
    · split
      · decide
      · exact Nat.pow_lt_pow_right (by decide) (by omega)
    · by_cases z : n = 0
      · rw [if_pos z]
        constructor
        · intro q; simp at q
        · rintro ⟨h1, -, h3⟩
          exfalso
          have e := five_bits (a := n) (c := i + 1) (by omega) (by omega) (fun j hj => (hb j hj).symm.trans (h3 j hj))
          omega
      · rw [if_neg z, Nat.testBit_two_pow, decide_eq_true_eq]
        constructor
        · intro q
          refine ⟨by omega, by omega, fun j hj => ?_⟩
          rw [show i + 1 = n by omega]
          exact hb j hj
        · rintro ⟨h1, -, h3⟩
          have e := five_bits (a := n) (c := i + 1) (by omega) (by omega) (fun j hj => (hb j hj).symm.trans (h3 j hj))
          omega
theorem src_or {K F : Cel} {N : Pl} {W : BitVec 64} {h t : Int} (ht : 0 ≤ t ∧ t < K 0 11) (hW : LWP K F 0 W) (hN : ∀ w : Nat, w < 64 → RX K (simX K (w : Int) h 0) (bw N w)) : srcS K F h t 64 = (orB N t W 20 : Int) := by
  have hv : ∀ w : Nat, w < 64 → ∃ v : Nat, simX K (w : Int) h 0 14 t = (v : Int) ∧ v < 2 ^ 20 ∧ ∀ i, v.testBit i = true ↔ (i < 20 ∧ 1 ≤ simX K (w : Int) h 0 13 t ∧ ∀ j : Nat, j < 5 → (N (t * 13 + 4 + (j : Int))).getLsbD w = (i + 1).testBit j) := fun w hw => src_N (hN w hw t ht.1 ht.2)
  have e : ∀ n, n ≤ 64 → srcS K F h t n = (orN (leftB K F 0) (fun w => (simX K (w : Int) h 0 14 t).toNat) n : Int) ∧ orN (leftB K F 0) (fun w => (simX K (w : Int) h 0 14 t).toNat) n < 2 ^ 20 := by
    intro n
    induction n with
    | zero => intro _; exact ⟨rfl, by show 0 < _; decide⟩
    | succ n ih =>
      intro hn
      obtain ⟨i1, i2⟩ := ih (by omega)
      obtain ⟨v, v1, v2, -⟩ := hv n (by omega)
      simp only [srcS, orN]
      by_cases q : leftB K F 0 n = true
      · rw [if_pos q, if_pos q, i1, v1, show ((v : Int)).toNat = v by omega]
        exact ⟨or32_N i2 v2, Nat.or_lt_two_pow i2 v2⟩
      · rw [if_neg q, if_neg q]
        exact ⟨i1, i2⟩
  rw [(e 64 (Nat.le_refl _)).1]
  congr 1
  apply Nat.eq_of_testBit_eq
  intro i
  refine Bool.eq_iff_iff.mpr ?_
  rw [orN_bit, orB_bit, bv_ne]
  constructor
  · rintro ⟨w, hw, hl, hb⟩
    obtain ⟨v, v1, -, v3⟩ := hv w hw
    rw [v1, show ((v : Int)).toNat = v by omega] at hb
    obtain ⟨g1, g2, g3⟩ := (v3 i).mp hb
    refine ⟨g1, w, hw, (frD_bit hw 5).mpr ⟨by rw [hW w hw]; exact hl, ?_, g3⟩⟩
    have := (hN w hw t ht.1 ht.2).1.2.2.2.2.1
    unfold bw at this
    rw [this]
    exact decide_eq_true g2
  · rintro ⟨g1, w, hw, hf⟩
    obtain ⟨f1, f2, f3⟩ := (frD_bit hw 5).mp hf
    obtain ⟨v, v1, -, v3⟩ := hv w hw
    have := (hN w hw t ht.1 ht.2).1.2.2.2.2.1
    unfold bw at this
    rw [this, decide_eq_true_eq] at f2
    refine ⟨w, hw, ?_, ?_⟩
    · have := hW w hw
      rw [f1] at this
      exact this.symm
    · rw [v1, show ((v : Int)).toNat = v by omega]
      exact (v3 i).mpr ⟨g1, f2, f3⟩
set_option maxHeartbeats 1000000 in
set_option maxRecDepth 100000 in
theorem c_X2_firstOrder {μ : Mem} {K F A0 : Cel} {s c : Nat} {W : BitVec 64} (hR : KR K μ) (hK : KOK K) (hN : KNE K) (hO : OI K μ 0) (hlp : μ.1 3 1 = p0) (hS : SR A0 s μ) (hA : SOS K A0 s) (hc : c < 2 ^ (K 0 11).toNat) (hW : LWP K F 0 W) (hs : μ.1 3 10 = 0 ∨ μ.1 3 10 = 1) : PC shC 9 mX2_firstOrder [vr 7, vi (c : Int), vl W] (μ) (QI (fun z μ' => z = (if leftN K F 0 = 0 then -9 else cooN K F A0 c s (prmS s)) ∧ FSP μ μ')) := by
  refine PC.of (by decide +kernel) (Nat.le_of_ble_eq_true rfl) ?_
  refine P_sub (L' := [(0, vr 7), (1, vi (c : Int)), (2, vl W)]) [0, 1, 2] rfl ?_
  have hl0 : W = 0#64 ↔ leftN K F 0 = 0 := LW_0 hW
  have hs5 := hS.1.2
  refine P_lload_n (pc := 0) dX2_firstOrder_0 rfl 2 rfl ?_
  refine P_lconst (b := 0#64) (pc := 1) dX2_firstOrder_1 rfl ?_
  refine P_lcmp_ne (tgt := 9) (pc := 2) dX2_firstOrder_2 dX2_firstOrder_3 (by decide) (fun c_2 => ?_) (fun c_2 => ?_)
  · refine P_aload_n (pc := 9) dX2_firstOrder_9 rfl 0 rfl ?_
    refine P_getR (pc := 10) dX2_firstOrder_10 fa_RX2_19 sC_7 fC7_1 ?_
    refine P_bipush (pc := 13) dX2_firstOrder_13 (by decide) ?_
    refine P_callVv (Y' := mX4_playFromStart) (as := [_]) (pc := 15) dX2_firstOrder_15 rfl (by decide : 4 < 9) sC_3 rfl ml_RX2_23 im_X4_playFromStart se_X4_playFromStart mk_X4_playFromStart (Nat.le_of_ble_eq_true rfl) (c_pfs0 hR hK hN hO hlp (by omega) hs) (fun μ_ hq => ?_)
    obtain ⟨N_, A_, B_, s_, hs_, hsim, hμ_⟩ := hq
    subst hμ_
    have hXR : XRL K F (fun w => simX K (w : Int) 47 0) N_ := fun w hw _ => ⟨(hsim w hw).1, (hsim w hw).2.1⟩
    try simp (disch := omega) only [pw_N, pw_R, pw_i, pw_s, pw_j, pw_ps, pw_rN, pw_rR]
    refine P_aload_n (pc := 18) dX2_firstOrder_18 rfl 0 rfl ?_
    refine P_iconst (pc := 19) dX2_firstOrder_19 ?_
    refine P_iconst (pc := 20) dX2_firstOrder_20 ?_
    refine P_iload_n (pc := 21) dX2_firstOrder_21 rfl 1 rfl ?_
    refine P_lload_n (pc := 22) dX2_firstOrder_22 rfl 2 rfl ?_
    refine P_callVi (Y' := mX2_orderFrom) (as := [_, _, _, _]) (pc := 23) dX2_firstOrder_23 rfl (by omega : s + 3 < 9) sC_7 rfl ml_RX2_73 im_X2_orderFrom se_X2_orderFrom mk_X2_orderFrom (Nat.le_of_ble_eq_true rfl) (c_order_all hR hK hlp hS hA hc hW s 0 0 (fun w => simX K (w : Int) 47 0) _ _ _ _ s_ (by omega) (by decide) hs_ hXR) (fun z_ μ_ hq => ?_)
    obtain ⟨hz, hzb, R_, N2, A2, B2, s2, hs2, -, hμ_⟩ := hq
    subst hμ_
    try simp (disch := omega) only [pw_N, pw_R, pw_i, pw_s, pw_j, pw_ps, pw_rN, pw_rR]
    exact P_iret (pc := 26) dX2_firstOrder_26 rfl (QI.mk (by rw [if_neg (fun z => c_2 (hl0.mpr z)), coo_dfs (by omega)]; exact ⟨hz, _, _, _, _, _, hs2, rfl⟩))
  · refine P_bipush (pc := 6) dX2_firstOrder_6 (by decide) ?_
    exact P_iret (pc := 8) dX2_firstOrder_8 rfl (QI.mk (by rw [if_pos (hl0.mp (by assumption))]; exact ⟨rfl, FSP_rf hs⟩))
