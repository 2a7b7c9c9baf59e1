theorem ite01 {c : Prop} [Decidable c] {z : Int} (h : z = if c then 1 else 0) : z = 0 ∧ ¬ c ∨ z = 1 ∧ c := by
  by_cases q : c
  · rw [if_pos q] at h; exact Or.inr ⟨h, q⟩
  · rw [if_neg q] at h; exact Or.inl ⟨h, q⟩
def mjD (A : Cel) : Int := if 0 < A 0 11 ∧ A 2 (A 0 11 - 1) ≠ 4 then 5 else 4
/-- a thing that is read: does it stand, the place then, kind, wet, hidden -/
def rdT (T : Int → Int) (L d a : Int) : Int × Int × Int × Int × Int :=
  if (dgR T L d a).1 < 0 then (0, (dgR T L d a).2, 0, 0, 0)
  else if (tsR T L 59 (tsR T L 112 (tsR T L 119 (dgR T L d a).2).2).2).1 = 0 then (0, (tsR T L 59 (tsR T L 112 (tsR T L 119 (dgR T L d a).2).2).2).2, 0, 0, 0)
  else (1, (tsR T L 59 (tsR T L 112 (tsR T L 119 (dgR T L d a).2).2).2).2, (dgR T L d a).1, (tsR T L 119 (dgR T L d a).2).1, (tsR T L 112 (tsR T L 119 (dgR T L d a).2).2).1)
theorem rdT_in {T : Int → Int} {L d a : Int} (h : TL T L) (ha : a ≤ L) : ((rdT T L d a).1 = 0 ∨ (rdT T L d a).1 = 1 ∧ 0 ≤ (rdT T L d a).2.2.1 ∧ (rdT T L d a).2.2.1 ≤ d ∧ ((rdT T L d a).2.2.2.1 = 0 ∨ (rdT T L d a).2.2.2.1 = 1) ∧ ((rdT T L d a).2.2.2.2 = 0 ∨ (rdT T L d a).2.2.2.2 = 1)) ∧ a ≤ (rdT T L d a).2.1 ∧ (rdT T L d a).2.1 ≤ L := by
  have h1 := dgR_in (g := d) (a := a) h
  have h2 := tsR_in (c := 119) (a := (dgR T L d a).2) h (by decide)
  have h3 := tsR_in (c := 112) (a := (tsR T L 119 (dgR T L d a).2).2) h (by decide)
  have h4 := tsR_in (c := 59) (a := (tsR T L 112 (tsR T L 119 (dgR T L d a).2).2).2) h (by decide)
  unfold rdT
  split
  · dsimp only; omega
  · split <;> dsimp only <;> omega
def rdF (a : Int) : Int × Int × Int × Int × Int × Int × Int := (0, a, 0, 0, 0, 0, 0)
section
variable (T : Int → Int) (L n : Int)
def rdE10 (h k x b u a : Int) : Int × Int × Int × Int × Int × Int × Int := if (tsR T L 59 a).1 = 0 then rdF (tsR T L 59 a).2 else (1, (tsR T L 59 a).2, h, k, x, b, u)
def rdE9b (h k x b s d a : Int) := if s = 63 then rdE10 T L h k x b d a else rdE10 T L h k x b (10 + d) a
def rdE9 (h k x b s a : Int) := if (dgR T L 5 a).1 < 0 then rdF (dgR T L 5 a).2 else rdE9b T L h k x b s (dgR T L 5 a).1 (dgR T L 5 a).2
def rdE8 (h k x b a : Int) := if sgn T L a = 63 ∨ sgn T L a = 33 then rdE9 T L h k x b (sgn T L a) (a + 1) else rdE10 T L h k x b (-1) a
def rdE7d (h k x b a0 a : Int) := if k ≠ 9 ∧ b = x then rdF a0 else rdE8 T L h k x b a
def rdE7c (h k x lo hi a : Int) := if (nmR T L lo hi a).1 < 0 then rdF (nmR T L lo hi a).2 else rdE7d T L h k x (nmR T L lo hi a).1 a (nmR T L lo hi a).2
def rdE7 (h k x a : Int) := if k = 9 then rdE7c T L h k x 1 4 a else rdE7c T L h k x 0 (n - 1) a
def rdE6 (h k x a : Int) := if (tsR T L 44 a).1 = 0 then rdF (tsR T L 44 a).2 else rdE7 T L n h k x (tsR T L 44 a).2
def rdE5 (h k x a : Int) := if k < 5 ∨ k = 9 then rdE6 T L n h k x a else rdE8 T L h k x (-9) a
def rdE4 (h k a : Int) := if (nmR T L 0 (n - 1) a).1 < 0 then rdF (nmR T L 0 (n - 1) a).2 else rdE5 T L n h k (nmR T L 0 (n - 1) a).1 (nmR T L 0 (n - 1) a).2
def rdE3 (h k a : Int) := if (tsR T L 44 a).1 = 0 then rdF (tsR T L 44 a).2 else rdE4 T L n h k (tsR T L 44 a).2
def rdE2 (h a : Int) := if (dgR T L 9 a).1 < 0 then rdF (dgR T L 9 a).2 else rdE3 T L n h (dgR T L 9 a).1 (dgR T L 9 a).2
def rdE1 (h a : Int) := if (tsR T L 44 a).1 = 0 then rdF (tsR T L 44 a).2 else rdE2 T L n h (tsR T L 44 a).2
/-- an event that is read: does it stand, the place then, hour, kind, the two, which unknown -/
def rdE (a : Int) := if (nmR T L 0 47 a).1 < 0 then rdF (nmR T L 0 47 a).2 else rdE1 T L n (nmR T L 0 47 a).1 (nmR T L 0 47 a).2
/-- what a read event is -/
def EVP (a : Int) (r : Int × Int × Int × Int × Int × Int × Int) : Prop :=
  (r.1 = 0 ∨ r.1 = 1 ∧ (0 ≤ r.2.2.1 ∧ r.2.2.1 ≤ 47) ∧ (0 ≤ r.2.2.2.1 ∧ r.2.2.2.1 ≤ 9) ∧ (0 ≤ r.2.2.2.2.1 ∧ r.2.2.2.2.1 < n) ∧ (r.2.2.2.1 < 5 → 0 ≤ r.2.2.2.2.2.1 ∧ r.2.2.2.2.2.1 < n ∧ r.2.2.2.2.2.1 ≠ r.2.2.2.2.1) ∧ (r.2.2.2.1 = 9 → 1 ≤ r.2.2.2.2.2.1 ∧ r.2.2.2.2.2.1 ≤ 4) ∧ (r.2.2.2.2.2.2 = -1 ∨ (0 ≤ r.2.2.2.2.2.2 ∧ r.2.2.2.2.2.2 ≤ 5) ∨ (10 ≤ r.2.2.2.2.2.2 ∧ r.2.2.2.2.2.2 ≤ 15))) ∧ a ≤ r.2.1 ∧ r.2.1 ≤ L
end
section
variable {T : Int → Int} {L n : Int}
theorem EVP_F {a b : Int} (h : a ≤ b) (h2 : b ≤ L) : EVP L n a (rdF b) := ⟨Or.inl rfl, h, h2⟩
theorem EVP_le {a b : Int} {r : Int × Int × Int × Int × Int × Int × Int} (h : a ≤ b) (h2 : EVP L n b r) : EVP L n a r := ⟨h2.1, by have := h2.2; omega, h2.2.2⟩
theorem rdE10_in (hT : TL T L) {h k x b u a : Int} (ha : a ≤ L) (h1 : 0 ≤ h ∧ h ≤ 47) (h2 : 0 ≤ k ∧ k ≤ 9) (h3 : 0 ≤ x ∧ x < n) (h4 : k < 5 → 0 ≤ b ∧ b < n ∧ b ≠ x) (h5 : k = 9 → 1 ≤ b ∧ b ≤ 4) (h6 : u = -1 ∨ (0 ≤ u ∧ u ≤ 5) ∨ (10 ≤ u ∧ u ≤ 15)) : EVP L n a (rdE10 T L h k x b u a) := by
  have h := tsR_in (c := 59) (a := a) hT (by decide)
  unfold rdE10
  split
  · exact EVP_F (by omega) (by omega)
  · exact ⟨Or.inr ⟨rfl, h1, h2, h3, h4, h5, h6⟩, by dsimp only; omega, by dsimp only; omega⟩
theorem rdE9_in (hT : TL T L) {h k x b s a : Int} (ha : a ≤ L) (h1 : 0 ≤ h ∧ h ≤ 47) (h2 : 0 ≤ k ∧ k ≤ 9) (h3 : 0 ≤ x ∧ x < n) (h4 : k < 5 → 0 ≤ b ∧ b < n ∧ b ≠ x) (h5 : k = 9 → 1 ≤ b ∧ b ≤ 4) : EVP L n a (rdE9 T L h k x b s a) := by
  have h := dgR_in (g := 5) (a := a) hT
  unfold rdE9
  split
  · exact EVP_F (by omega) (by omega)
  · unfold rdE9b
    split
    · exact EVP_le (by omega) (rdE10_in hT (by omega) h1 h2 h3 h4 h5 (by omega))
    · exact EVP_le (by omega) (rdE10_in hT (by omega) h1 h2 h3 h4 h5 (by omega))
theorem rdE8_in (hT : TL T L) {h k x b a : Int} (ha : a ≤ L) (h1 : 0 ≤ h ∧ h ≤ 47) (h2 : 0 ≤ k ∧ k ≤ 9) (h3 : 0 ≤ x ∧ x < n) (h4 : k < 5 → 0 ≤ b ∧ b < n ∧ b ≠ x) (h5 : k = 9 → 1 ≤ b ∧ b ≤ 4) : EVP L n a (rdE8 T L h k x b a) := by
  have h := sgn_in (a := a) hT
  unfold rdE8
  split
  · exact EVP_le (by omega) (rdE9_in hT (by omega) h1 h2 h3 h4 h5)
  · exact rdE10_in hT ha h1 h2 h3 h4 h5 (by omega)
theorem rdE7c_in (hT : TL T L) {h k x lo hi a : Int} (ha : a ≤ L) (h1 : 0 ≤ h ∧ h ≤ 47) (h2 : 0 ≤ k ∧ k ≤ 9) (h3 : 0 ≤ x ∧ x < n) (hl : 0 ≤ lo) (h4 : k < 5 → hi ≤ n - 1) (h5 : k = 9 → 1 ≤ lo ∧ hi ≤ 4) : EVP L n a (rdE7c T L h k x lo hi a) := by
  have h := nmR_in (lo := lo) (hi := hi) (a := a) hT hl
  unfold rdE7c
  split
  · exact EVP_F (by omega) (by omega)
  · unfold rdE7d
    split
    · exact EVP_F (by omega) (by omega)
    · exact EVP_le (by omega) (rdE8_in hT (by omega) h1 h2 h3 (fun q => by omega) (fun q => by omega))
theorem rdE5_in (hT : TL T L) {h k x a : Int} (ha : a ≤ L) (h1 : 0 ≤ h ∧ h ≤ 47) (h2 : 0 ≤ k ∧ k ≤ 9) (h3 : 0 ≤ x ∧ x < n) : EVP L n a (rdE5 T L n h k x a) := by
  have h := tsR_in (c := 44) (a := a) hT (by decide)
  unfold rdE5
  split
  · unfold rdE6
    split
    · exact EVP_F (by omega) (by omega)
    · unfold rdE7
      split
      · exact EVP_le (by omega) (rdE7c_in hT (by omega) h1 h2 h3 (by omega) (fun q => by omega) (fun q => by omega))
      · exact EVP_le (by omega) (rdE7c_in hT (by omega) h1 h2 h3 (by omega) (fun q => by omega) (fun q => by omega))
  · exact rdE8_in hT ha h1 h2 h3 (fun q => by omega) (fun q => by omega)
theorem rdE3_in (hT : TL T L) {h k a : Int} (ha : a ≤ L) (h1 : 0 ≤ h ∧ h ≤ 47) (h2 : 0 ≤ k ∧ k ≤ 9) : EVP L n a (rdE3 T L n h k a) := by
  have h := tsR_in (c := 44) (a := a) hT (by decide)
  have h3 := nmR_in (lo := 0) (hi := n - 1) (a := (tsR T L 44 a).2) hT (by omega)
  unfold rdE3
  split
  · exact EVP_F (by omega) (by omega)
  · unfold rdE4
    split
    · exact EVP_F (by omega) (by omega)
    · exact EVP_le (by omega) (rdE5_in hT (by omega) h1 h2 (by omega))
theorem rdE_in (hT : TL T L) {a : Int} (ha : a ≤ L) : EVP L n a (rdE T L n a) := by
  have h1 := nmR_in (lo := 0) (hi := 47) (a := a) hT (by omega)
  unfold rdE
  split
  · exact EVP_F (by omega) (by omega)
  · have h2 := tsR_in (c := 44) (a := (nmR T L 0 47 a).2) hT (by decide)
    unfold rdE1
    split
    · exact EVP_F (by omega) (by omega)
    · have h3 := dgR_in (g := 9) (a := (tsR T L 44 (nmR T L 0 47 a).2).2) hT
      unfold rdE2
      split
      · exact EVP_F (by omega) (by omega)
      · exact EVP_le (by omega) (rdE3_in hT (by omega) (by omega) (by omega))
end
def rdK (T : Int → Int) (L a : Int) : Int × Int × Int × Int :=
  if (dgR T L 5 a).1 < 0 then (0, (dgR T L 5 a).2, 0, 0)
  else if (dgR T L 4 (dgR T L 5 a).2).1 < 0 then (0, (dgR T L 4 (dgR T L 5 a).2).2, 0, 0)
  else if (tsR T L 59 (dgR T L 4 (dgR T L 5 a).2).2).1 = 0 then (0, (tsR T L 59 (dgR T L 4 (dgR T L 5 a).2).2).2, 0, 0)
  else (1, (tsR T L 59 (dgR T L 4 (dgR T L 5 a).2).2).2, (dgR T L 5 a).1, (dgR T L 4 (dgR T L 5 a).2).1)
theorem rdK_in {T : Int → Int} {L a : Int} (h : TL T L) (ha : a ≤ L) : ((rdK T L a).1 = 0 ∨ (rdK T L a).1 = 1 ∧ (0 ≤ (rdK T L a).2.2.1 ∧ (rdK T L a).2.2.1 ≤ 5) ∧ 0 ≤ (rdK T L a).2.2.2 ∧ (rdK T L a).2.2.2 ≤ 4) ∧ a ≤ (rdK T L a).2.1 ∧ (rdK T L a).2.1 ≤ L := by
  have h1 := dgR_in (g := 5) (a := a) h
  have h2 := dgR_in (g := 4) (a := (dgR T L 5 a).2) h
  have h4 := tsR_in (c := 59) (a := (dgR T L 4 (dgR T L 5 a).2).2) h (by decide)
  unfold rdK
  split
  · dsimp only; omega
  · split
    · dsimp only; omega
    · split <;> dsimp only <;> omega
set_option maxHeartbeats 1000000 in
set_option maxRecDepth 100000 in
theorem c_X6_readsThing {μ : Mem} {a g : Int} (hT : TL (μ.1 12) (μ.1 0 14)) (ha : 0 ≤ a ∧ a ≤ μ.1 0 14) (h11 : 0 ≤ μ.1 0 11 ∧ μ.1 0 11 < 12) (hk2 : ∀ j, 0 ≤ μ.1 2 j ∧ μ.1 2 j ≤ 5) : PC shM 2 mX6_readsThing [vr 0] (atM μ a g) (QI (fun z μ' => z = (rdT (μ.1 12) (μ.1 0 14) (mjD μ.1) a).1 ∧ μ' = atM (if (rdT (μ.1 12) (μ.1 0 14) (mjD μ.1) a).1 = 1 then comesM μ (rdT (μ.1 12) (μ.1 0 14) (mjD μ.1) a).2.2.1 (rdT (μ.1 12) (μ.1 0 14) (mjD μ.1) a).2.2.2.1 (rdT (μ.1 12) (μ.1 0 14) (mjD μ.1) a).2.2.2.2 else μ) (rdT (μ.1 12) (μ.1 0 14) (mjD μ.1) a).2.1 g)) := by
  refine PC.of (by decide +kernel) (Nat.le_of_ble_eq_true rfl) ?_
  refine P_sub (L' := [(0, vr 0)]) [0] rfl ?_
  have hT2 := hT.2
  have hm : mjD μ.1 = if 0 < μ.1 0 11 ∧ μ.1 2 (μ.1 0 11 - 1) ≠ 4 then 5 else 4 := rfl
  have h12 : 0 ≤ μ.1 0 11 ∧ μ.1 0 11 ≤ 12 := by omega
  refine P_aload_n (pc := 0) dX6_readsThing_0 rfl 0 rfl ?_
  refine P_aload_n (pc := 1) dX6_readsThing_1 rfl 0 rfl ?_
  refine P_callVi (Y' := mX6_mayJoin) (as := []) (pc := 2) dX6_readsThing_2 rfl (by decide : 0 < 2) sM_0 rfl ml_RX6_113 im_X6_mayJoin se_X6_mayJoin mk_X6_mayJoin (Nat.le_of_ble_eq_true rfl) (c_X6_mayJoin h12 hk2) (fun z_ μ_ hq => ?_)
  obtain ⟨hz, hμ_⟩ := hq
  subst hμ_
  simp only [at_11, at_r2] at hz
  have hz := ite01 hz
  try simp only [at_15, at_16, at_11, at_12, at_14, at_30, at_37, at_40, at_r1, at_r2, at_r3, at_r4, at_r5, at_r6, at_r7, at_r8, at_r9, at_r10, at_r11, at_r12, at_r13, at_r14, at_r15, at_r16, at_r17, at_r18, at_r19, at_r20, at_r21, at_r22, at_r23, at_r24, at_r25, at_r26, at_r27, at_r28, at_r29, at_r30, at_p15, at_p16, at_comes, at_happ, at_put (show (5 : Nat) ≠ 0 ∨ _ from Or.inl (by decide))]
  refine P_if_eq (tgt := 12) (pc := 5) dX6_readsThing_5 (by decide) (by first | assumption | (unfold InR; omega)) (fun c_5 => ?_) (fun c_5 => ?_)
  · have hm5 : mjD μ.1 = 4 := by rw [hm, if_neg (by omega)]
    rw [hm5]
    refine P_iconst (pc := 12) dX6_readsThing_12 ?_
    refine P_callVi (Y' := mX6_digit) (as := [_]) (pc := 13) dX6_readsThing_13 rfl (by decide : 1 < 2) sM_0 rfl ml_RX6_154 im_X6_digit se_X6_digit mk_X6_digit (Nat.le_of_ble_eq_true rfl) (c_X6_digit hT (by omega) (by omega)) (fun z_ μ_ hq => ?_)
    obtain ⟨rfl, hμ_, hi_⟩ := hq
    subst hμ_
    try simp only [at_15, at_16, at_11, at_12, at_14, at_30, at_37, at_40, at_r1, at_r2, at_r3, at_r4, at_r5, at_r6, at_r7, at_r8, at_r9, at_r10, at_r11, at_r12, at_r13, at_r14, at_r15, at_r16, at_r17, at_r18, at_r19, at_r20, at_r21, at_r22, at_r23, at_r24, at_r25, at_r26, at_r27, at_r28, at_r29, at_r30, at_p15, at_p16, at_comes, at_happ, at_put (show (5 : Nat) ≠ 0 ∨ _ from Or.inl (by decide))]
    refine P_istore_n (L' := [(1, vi _), (0, vr 0)]) (pc := 16) dX6_readsThing_16 rfl (by decide) rfl ?_
    refine P_iload_n (pc := 17) dX6_readsThing_17 rfl 0 rfl ?_
    refine P_if_ge (tgt := 23) (pc := 18) dX6_readsThing_18 (by decide) (by first | assumption | (unfold InR; omega)) (fun c_18 => ?_) (fun c_18 => ?_)
    · refine P_aload_n (pc := 23) dX6_readsThing_23 rfl 1 rfl ?_
      refine P_bipush (pc := 24) dX6_readsThing_24 (by decide) ?_
      refine P_callVi (Y' := mX6_takesSign) (as := [_]) (pc := 26) dX6_readsThing_26 rfl (by decide : 1 < 2) sM_0 rfl ml_RX6_157 im_X6_takesSign se_X6_takesSign mk_X6_takesSign (Nat.le_of_ble_eq_true rfl) (c_X6_takesSign hT (by omega) (by omega)) (fun z_ μ_ hq => ?_)
      obtain ⟨rfl, hμ_, hi_⟩ := hq
      subst hμ_
      try simp only [at_15, at_16, at_11, at_12, at_14, at_30, at_37, at_40, at_r1, at_r2, at_r3, at_r4, at_r5, at_r6, at_r7, at_r8, at_r9, at_r10, at_r11, at_r12, at_r13, at_r14, at_r15, at_r16, at_r17, at_r18, at_r19, at_r20, at_r21, at_r22, at_r23, at_r24, at_r25, at_r26, at_r27, at_r28, at_r29, at_r30, at_p15, at_p16, at_comes, at_happ, at_put (show (5 : Nat) ≠ 0 ∨ _ from Or.inl (by decide))]
      refine P_istore_n (L' := [(2, vi _), (1, vi _), (0, vr 0)]) (pc := 29) dX6_readsThing_29 rfl (by decide) rfl ?_
      refine P_aload_n (pc := 30) dX6_readsThing_30 rfl 2 rfl ?_
      refine P_bipush (pc := 31) dX6_readsThing_31 (by decide) ?_
      refine P_callVi (Y' := mX6_takesSign) (as := [_]) (pc := 33) dX6_readsThing_33 rfl (by decide : 1 < 2) sM_0 rfl ml_RX6_157 im_X6_takesSign se_X6_takesSign mk_X6_takesSign (Nat.le_of_ble_eq_true rfl) (c_X6_takesSign hT (by omega) (by omega)) (fun z_ μ_ hq => ?_)
      obtain ⟨rfl, hμ_, hi_⟩ := hq
      subst hμ_
      try simp only [at_15, at_16, at_11, at_12, at_14, at_30, at_37, at_40, at_r1, at_r2, at_r3, at_r4, at_r5, at_r6, at_r7, at_r8, at_r9, at_r10, at_r11, at_r12, at_r13, at_r14, at_r15, at_r16, at_r17, at_r18, at_r19, at_r20, at_r21, at_r22, at_r23, at_r24, at_r25, at_r26, at_r27, at_r28, at_r29, at_r30, at_p15, at_p16, at_comes, at_happ, at_put (show (5 : Nat) ≠ 0 ∨ _ from Or.inl (by decide))]
      refine P_istore_n (L' := [(3, vi _), (2, vi _), (1, vi _), (0, vr 0)]) (pc := 36) dX6_readsThing_36 rfl (by decide) rfl ?_
      refine P_aload_n (pc := 37) dX6_readsThing_37 rfl 3 rfl ?_
      refine P_bipush (pc := 38) dX6_readsThing_38 (by decide) ?_
      refine P_callVi (Y' := mX6_takesSign) (as := [_]) (pc := 40) dX6_readsThing_40 rfl (by decide : 1 < 2) sM_0 rfl ml_RX6_157 im_X6_takesSign se_X6_takesSign mk_X6_takesSign (Nat.le_of_ble_eq_true rfl) (c_X6_takesSign hT (by omega) (by omega)) (fun z_ μ_ hq => ?_)
      obtain ⟨rfl, hμ_, hi_⟩ := hq
      subst hμ_
      try simp only [at_15, at_16, at_11, at_12, at_14, at_30, at_37, at_40, at_r1, at_r2, at_r3, at_r4, at_r5, at_r6, at_r7, at_r8, at_r9, at_r10, at_r11, at_r12, at_r13, at_r14, at_r15, at_r16, at_r17, at_r18, at_r19, at_r20, at_r21, at_r22, at_r23, at_r24, at_r25, at_r26, at_r27, at_r28, at_r29, at_r30, at_p15, at_p16, at_comes, at_happ, at_put (show (5 : Nat) ≠ 0 ∨ _ from Or.inl (by decide))]
      refine P_if_ne (tgt := 48) (pc := 43) dX6_readsThing_43 (by decide) (by first | assumption | (unfold InR; omega)) (fun c_43 => ?_) (fun c_43 => ?_)
      · refine P_aload_n (pc := 48) dX6_readsThing_48 rfl 3 rfl ?_
        refine P_iload_n (pc := 49) dX6_readsThing_49 rfl 2 rfl ?_
        refine P_iload_n (pc := 50) dX6_readsThing_50 rfl 1 rfl ?_
        refine P_iload_n (pc := 51) dX6_readsThing_51 rfl 0 rfl ?_
        refine P_callVi (Y' := mX6_comes) (as := [_, _, _]) (pc := 52) dX6_readsThing_52 rfl (by decide : 0 < 2) sM_0 rfl ml_RX6_117 im_X6_comes se_X6_comes mk_X6_comes (Nat.le_of_ble_eq_true rfl) (c_X6_comes h11 (by omega) (by omega)) (fun z_ μ_ hq => ?_)
        obtain ⟨rfl, hμ_⟩ := hq
        have hμ_ := hμ_.symm
        subst hμ_
        try simp only [at_15, at_16, at_11, at_12, at_14, at_30, at_37, at_40, at_r1, at_r2, at_r3, at_r4, at_r5, at_r6, at_r7, at_r8, at_r9, at_r10, at_r11, at_r12, at_r13, at_r14, at_r15, at_r16, at_r17, at_r18, at_r19, at_r20, at_r21, at_r22, at_r23, at_r24, at_r25, at_r26, at_r27, at_r28, at_r29, at_r30, at_p15, at_p16, at_comes, at_happ, at_put (show (5 : Nat) ≠ 0 ∨ _ from Or.inl (by decide))]
        refine P_pop (pc := 55) dX6_readsThing_55 rfl ?_
        refine P_iconst (pc := 56) dX6_readsThing_56 ?_
        exact P_zret (pc := 57) dX6_readsThing_57 rfl (by omega) (QI.mk (by unfold rdT; first | (rw [if_pos (by omega)]; exact ⟨rfl, rfl⟩) | (rw [if_neg (by omega)]; first | (rw [if_pos (by omega)]; exact ⟨rfl, rfl⟩) | (rw [if_neg (by omega)]; exact ⟨rfl, rfl⟩))))
      · refine P_iconst (pc := 46) dX6_readsThing_46 ?_
        exact P_zret (pc := 47) dX6_readsThing_47 rfl (by omega) (QI.mk (by unfold rdT; first | (rw [if_pos (by omega)]; exact ⟨rfl, rfl⟩) | (rw [if_neg (by omega)]; first | (rw [if_pos (by omega)]; exact ⟨rfl, rfl⟩) | (rw [if_neg (by omega)]; exact ⟨rfl, rfl⟩))))
    · refine P_iconst (pc := 21) dX6_readsThing_21 ?_
      exact P_zret (pc := 22) dX6_readsThing_22 rfl (by omega) (QI.mk (by unfold rdT; first | (rw [if_pos (by omega)]; exact ⟨rfl, rfl⟩) | (rw [if_neg (by omega)]; first | (rw [if_pos (by omega)]; exact ⟨rfl, rfl⟩) | (rw [if_neg (by omega)]; exact ⟨rfl, rfl⟩))))
  · have hm5 : mjD μ.1 = 5 := by rw [hm, if_pos (by omega)]
    rw [hm5]
    refine P_iconst (pc := 8) dX6_readsThing_8 ?_
    refine P_goto (tgt := 13) (pc := 9) dX6_readsThing_9 (by decide) ?_
    refine P_callVi (Y' := mX6_digit) (as := [_]) (pc := 13) dX6_readsThing_13 rfl (by decide : 1 < 2) sM_0 rfl ml_RX6_154 im_X6_digit se_X6_digit mk_X6_digit (Nat.le_of_ble_eq_true rfl) (c_X6_digit hT (by omega) (by omega)) (fun z_ μ_ hq => ?_)
    obtain ⟨rfl, hμ_, hi_⟩ := hq
    subst hμ_
    try simp only [at_15, at_16, at_11, at_12, at_14, at_30, at_37, at_40, at_r1, at_r2, at_r3, at_r4, at_r5, at_r6, at_r7, at_r8, at_r9, at_r10, at_r11, at_r12, at_r13, at_r14, at_r15, at_r16, at_r17, at_r18, at_r19, at_r20, at_r21, at_r22, at_r23, at_r24, at_r25, at_r26, at_r27, at_r28, at_r29, at_r30, at_p15, at_p16, at_comes, at_happ, at_put (show (5 : Nat) ≠ 0 ∨ _ from Or.inl (by decide))]
    refine P_istore_n (L' := [(1, vi _), (0, vr 0)]) (pc := 16) dX6_readsThing_16 rfl (by decide) rfl ?_
    refine P_iload_n (pc := 17) dX6_readsThing_17 rfl 0 rfl ?_
    refine P_if_ge (tgt := 23) (pc := 18) dX6_readsThing_18 (by decide) (by first | assumption | (unfold InR; omega)) (fun c_18 => ?_) (fun c_18 => ?_)
    · refine P_aload_n (pc := 23) dX6_readsThing_23 rfl 1 rfl ?_
      refine P_bipush (pc := 24) dX6_readsThing_24 (by decide) ?_
      refine P_callVi (Y' := mX6_takesSign) (as := [_]) (pc := 26) dX6_readsThing_26 rfl (by decide : 1 < 2) sM_0 rfl ml_RX6_157 im_X6_takesSign se_X6_takesSign mk_X6_takesSign (Nat.le_of_ble_eq_true rfl) (c_X6_takesSign hT (by omega) (by omega)) (fun z_ μ_ hq => ?_)
      obtain ⟨rfl, hμ_, hi_⟩ := hq
      subst hμ_
      try simp only [at_15, at_16, at_11, at_12, at_14, at_30, at_37, at_40, at_r1, at_r2, at_r3, at_r4, at_r5, at_r6, at_r7, at_r8, at_r9, at_r10, at_r11, at_r12, at_r13, at_r14, at_r15, at_r16, at_r17, at_r18, at_r19, at_r20, at_r21, at_r22, at_r23, at_r24, at_r25, at_r26, at_r27, at_r28, at_r29, at_r30, at_p15, at_p16, at_comes, at_happ, at_put (show (5 : Nat) ≠ 0 ∨ _ from Or.inl (by decide))]
      refine P_istore_n (L' := [(2, vi _), (1, vi _), (0, vr 0)]) (pc := 29) dX6_readsThing_29 rfl (by decide) rfl ?_
      refine P_aload_n (pc := 30) dX6_readsThing_30 rfl 2 rfl ?_
      refine P_bipush (pc := 31) dX6_readsThing_31 (by decide) ?_
      refine P_callVi (Y' := mX6_takesSign) (as := [_]) (pc := 33) dX6_readsThing_33 rfl (by decide : 1 < 2) sM_0 rfl ml_RX6_157 im_X6_takesSign se_X6_takesSign mk_X6_takesSign (Nat.le_of_ble_eq_true rfl) (c_X6_takesSign hT (by omega) (by omega)) (fun z_ μ_ hq => ?_)
      obtain ⟨rfl, hμ_, hi_⟩ := hq
      subst hμ_
      try simp only [at_15, at_16, at_11, at_12, at_14, at_30, at_37, at_40, at_r1, at_r2, at_r3, at_r4, at_r5, at_r6, at_r7, at_r8, at_r9, at_r10, at_r11, at_r12, at_r13, at_r14, at_r15, at_r16, at_r17, at_r18, at_r19, at_r20, at_r21, at_r22, at_r23, at_r24, at_r25, at_r26, at_r27, at_r28, at_r29, at_r30, at_p15, at_p16, at_comes, at_happ, at_put (show (5 : Nat) ≠ 0 ∨ _ from Or.inl (by decide))]
      refine P_istore_n (L' := [(3, vi _), (2, vi _), (1, vi _), (0, vr 0)]) (pc := 36) dX6_readsThing_36 rfl (by decide) rfl ?_
      refine P_aload_n (pc := 37) dX6_readsThing_37 rfl 3 rfl ?_
      refine P_bipush (pc := 38) dX6_readsThing_38 (by decide) ?_
      refine P_callVi (Y' := mX6_takesSign) (as := [_]) (pc := 40) dX6_readsThing_40 rfl (by decide : 1 < 2) sM_0 rfl ml_RX6_157 im_X6_takesSign se_X6_takesSign mk_X6_takesSign (Nat.le_of_ble_eq_true rfl) (c_X6_takesSign hT (by omega) (by omega)) (fun z_ μ_ hq => ?_)
      obtain ⟨rfl, hμ_, hi_⟩ := hq
      subst hμ_
      try simp only [at_15, at_16, at_11, at_12, at_14, at_30, at_37, at_40, at_r1, at_r2, at_r3, at_r4, at_r5, at_r6, at_r7, at_r8, at_r9, at_r10, at_r11, at_r12, at_r13, at_r14, at_r15, at_r16, at_r17, at_r18, at_r19, at_r20, at_r21, at_r22, at_r23, at_r24, at_r25, at_r26, at_r27, at_r28, at_r29, at_r30, at_p15, at_p16, at_comes, at_happ, at_put (show (5 : Nat) ≠ 0 ∨ _ from Or.inl (by decide))]
      refine P_if_ne (tgt := 48) (pc := 43) dX6_readsThing_43 (by decide) (by first | assumption | (unfold InR; omega)) (fun c_43 => ?_) (fun c_43 => ?_)
      · refine P_aload_n (pc := 48) dX6_readsThing_48 rfl 3 rfl ?_
        refine P_iload_n (pc := 49) dX6_readsThing_49 rfl 2 rfl ?_
        refine P_iload_n (pc := 50) dX6_readsThing_50 rfl 1 rfl ?_
        refine P_iload_n (pc := 51) dX6_readsThing_51 rfl 0 rfl ?_
        refine P_callVi (Y' := mX6_comes) (as := [_, _, _]) (pc := 52) dX6_readsThing_52 rfl (by decide : 0 < 2) sM_0 rfl ml_RX6_117 im_X6_comes se_X6_comes mk_X6_comes (Nat.le_of_ble_eq_true rfl) (c_X6_comes h11 (by omega) (by omega)) (fun z_ μ_ hq => ?_)
        obtain ⟨rfl, hμ_⟩ := hq
        have hμ_ := hμ_.symm
        subst hμ_
        try simp only [at_15, at_16, at_11, at_12, at_14, at_30, at_37, at_40, at_r1, at_r2, at_r3, at_r4, at_r5, at_r6, at_r7, at_r8, at_r9, at_r10, at_r11, at_r12, at_r13, at_r14, at_r15, at_r16, at_r17, at_r18, at_r19, at_r20, at_r21, at_r22, at_r23, at_r24, at_r25, at_r26, at_r27, at_r28, at_r29, at_r30, at_p15, at_p16, at_comes, at_happ, at_put (show (5 : Nat) ≠ 0 ∨ _ from Or.inl (by decide))]
        refine P_pop (pc := 55) dX6_readsThing_55 rfl ?_
        refine P_iconst (pc := 56) dX6_readsThing_56 ?_
        exact P_zret (pc := 57) dX6_readsThing_57 rfl (by omega) (QI.mk (by unfold rdT; first | (rw [if_pos (by omega)]; exact ⟨rfl, rfl⟩) | (rw [if_neg (by omega)]; first | (rw [if_pos (by omega)]; exact ⟨rfl, rfl⟩) | (rw [if_neg (by omega)]; exact ⟨rfl, rfl⟩))))
      · refine P_iconst (pc := 46) dX6_readsThing_46 ?_
        exact P_zret (pc := 47) dX6_readsThing_47 rfl (by omega) (QI.mk (by unfold rdT; first | (rw [if_pos (by omega)]; exact ⟨rfl, rfl⟩) | (rw [if_neg (by omega)]; first | (rw [if_pos (by omega)]; exact ⟨rfl, rfl⟩) | (rw [if_neg (by omega)]; exact ⟨rfl, rfl⟩))))
    · refine P_iconst (pc := 21) dX6_readsThing_21 ?_
      exact P_zret (pc := 22) dX6_readsThing_22 rfl (by omega) (QI.mk (by unfold rdT; first | (rw [if_pos (by omega)]; exact ⟨rfl, rfl⟩) | (rw [if_neg (by omega)]; first | (rw [if_pos (by omega)]; exact ⟨rfl, rfl⟩) | (rw [if_neg (by omega)]; exact ⟨rfl, rfl⟩))))
