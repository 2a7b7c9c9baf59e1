theorem upN_congr {α : Type} {f g : Int → α → α} {a : Int} {x : α} : ∀ n : Nat, (∀ i : Nat, i < n → f (a + (i : Int)) = g (a + (i : Int))) → upN f a n x = upN g a n x
  | 0, _ => rfl
  | n + 1, h => by rw [upN_s, upN_s, upN_congr n (fun i hi => h i (by omega)), h n (by omega)]
theorem enB_iff {K F : Cel} {till : Int} {s th : Nat} : enB K F till s th = true ↔ ∀ w, w < 64 → leftB K F 0 w = true → clN (wshX K (w : Int) till s) (K 0 11).toNat &&& th = th := by
  unfold enB
  rw [allF_iff]
  constructor
  · intro h w hw hl
    have g := h w hw
    rw [hl, Bool.not_true, Bool.false_or, decide_eq_true_eq] at g
    exact g
  · intro h w hw
    cases hl : leftB K F 0 w with
    | false => rfl
    | true => rw [Bool.not_true, Bool.false_or, decide_eq_true_eq]; exact h w hw hl
theorem drop_cnt : ∀ S, S < 256 → ∀ t, t < 8 → S.testBit t = true → cnt31 (S ^^^ 2 ^ t) < cnt31 S ∧ S ^^^ 2 ^ t < S := by decide +kernel
theorem xor_bit {S j i : Nat} : (S ^^^ 2 ^ j).testBit i = (S.testBit i ^^ decide (j = i)) := by rw [Nat.testBit_xor, Nat.testBit_two_pow]
def WSI (K F : Cel) (S j : Nat) (h : Int) (N : Pl) : Prop := ∀ w, w < 64 → leftB K F 0 w = true → WR K (upN (wsA K S) 0 j (simX K (w : Int) h 0)) (h + 1) (bw N w)
theorem WSI_0 {K F : Cel} {S : Nat} {h : Int} {N N0 : Pl} (hK : KOK K) (hh : 0 ≤ h) (h0 : SimA K 0 (h + 1).toNat N0) (ha : AG N0 N) : WSI K F S 0 h N := fun w hw _ => by
  obtain ⟨g1, g2, g3⟩ := h0 w hw
  have e : simX K (w : Int) h 0 = upN (goesX K (srcX K) (w : Int)) 0 (h + 1).toNat (begX K ((0 : Nat) : Int)) := rfl
  rw [upN_0, e]
  refine ⟨RX_ag hK g1 ha, g2, ?_⟩
  rw [show (((h + 1).toNat : Nat) : Int) = h + 1 by omega] at g3
  exact g3
theorem WSI_s {K F : Cel} {S j : Nat} {h : Int} {N : Pl} {W : BitVec 64} (hK : KOK K) (hW : LWP K F 0 W) (hS : ∀ t : Nat, S.testBit t = true → (t : Int) < K 0 11) (h0 : WSI K F S j h N) : WSI K F S (j + 1) h (wsF K W S (j : Int) N) := fun w hw hl => by
  rw [upN_s, Int.zero_add]
  refine WR_ws hw hK ?_ (h0 w hw hl) (by omega) (fun q => hS _ q)
  rw [hW w hw]
  exact hl
theorem unst {K F : Cel} {S j : Nat} {h : Int} {N : Pl} {W : BitVec 64} {th : Nat} (hK : KOK K) (hN : KNE K) (hW : LWP K F 0 W) (hS : ∀ t : Nat, S.testBit t = true → (t : Int) < K 0 11) (hj : j < 8) (hbit : S.testBit j = true) (h0 : WSI K F S j h N) (hsame : hapN K p0 N 5 (j : Int) (j : Int) W = N) (hen : enB K F h S th = true) : enB K F h (S ^^^ 2 ^ j) th = true := by
  rw [enB_iff] at hen ⊢
  intro w hw hl
  have hWw : W.getLsbD w = true := by rw [hW w hw]; exact hl
  have hWx := h0 w hw hl
  have h1 : WR K (upN (wsA K S) 0 (j + 1) (simX K (w : Int) h 0)) (h + 1) (bw N w) := by
    have g := WSI_s hK hW hS h0 w hw hl
    unfold wsF at g
    rw [show ((j : Int)).toNat = j by omega, if_pos hbit, hsame] at g
    exact g
  have e8 : ∀ T : Nat, upN (wsA K T) 0 8 (simX K (w : Int) h 0) = upN (wsA K T) ((j + 1 : Nat) : Int) (7 - j) (upN (wsA K T) 0 (j + 1) (simX K (w : Int) h 0)) := fun T => by
    have := upN_add (wsA K T) 0 (j + 1) (simX K (w : Int) h 0) (7 - j)
    rw [show j + 1 + (7 - j) = 8 by omega, Int.zero_add] at this
    exact this
  have hb : ∀ i, i ≠ j → (S ^^^ 2 ^ j).testBit i = S.testBit i := fun i hi => by rw [xor_bit, decide_eq_false (fun z => hi z.symm), Bool.xor_false]
  have hbj : (S ^^^ 2 ^ j).testBit j = false := by rw [xor_bit, hbit, decide_eq_true rfl]; rfl
  have ea : upN (wsA K (S ^^^ 2 ^ j)) 0 (j + 1) (simX K (w : Int) h 0) = upN (wsA K S) 0 j (simX K (w : Int) h 0) := by
    rw [upN_s, Int.zero_add]
    have e1 : upN (wsA K (S ^^^ 2 ^ j)) 0 j (simX K (w : Int) h 0) = upN (wsA K S) 0 j (simX K (w : Int) h 0) := upN_congr j (fun i hi => by
      funext X
      unfold wsA
      rw [Int.zero_add, show ((i : Int)).toNat = i by omega, hb i (by omega)])
    rw [e1]
    unfold wsA
    rw [show ((j : Int)).toNat = j by omega, hbj, if_neg (by decide)]
  have eb : ∀ X, upN (wsA K (S ^^^ 2 ^ j)) ((j + 1 : Nat) : Int) (7 - j) X = upN (wsA K S) ((j + 1 : Nat) : Int) (7 - j) X := fun X => upN_congr _ (fun i _ => by
    funext X
    unfold wsA
    rw [show (((j + 1 : Nat) : Int) + (i : Int)).toNat = j + 1 + i by omega, hb _ (by omega)])
  have q1 := WR_wsN (a := j + 1) hw hK hWw h1 hS (7 - j)
  have q2 := WR_wsN (a := j + 1) hw hK hWw hWx hS (7 - j)
  rw [← e8 S] at q1
  rw [← ea, ← eb, ← e8 (S ^^^ 2 ^ j)] at q2
  have r1 := WR_hrs hw hK hN q1 (47 - h).toNat
  have r2 := WR_hrs hw hK hN q2 (47 - h).toNat
  have g := hen w hw hl
  have e9 : clN (wshX K (w : Int) h (S ^^^ 2 ^ j)) (K 0 11).toNat = clN (wshX K (w : Int) h S) (K 0 11).toNat := clN_rx r2 r1
  rw [e9]
  exact g
theorem c_hap0 {μ : Mem} {K : Cel} {R N A B : Pl} {s k x y : Int} {w : BitVec 64} (hR : KR K μ) (hK : KOK K) (hk : 0 ≤ k ∧ k ≤ 8) (hx : 0 ≤ x ∧ x < 12) (hy : k < 5 → 0 ≤ y ∧ y < 12) (hlp : μ.1 3 1 = p0) (hs : s = 0 ∨ s = 1) : PC shC 2 mX4_happen [vr 3, vi k, vi x, vi y, vl w] (pw μ R N A B s) (QV (fun μ' => ∃ (A' B' : Pl) (s' : Int), (s' = 0 ∨ s' = 1) ∧ (s' = 0 → k = 5 → s = 0 ∧ altQ K N k x w ∧ hapN K p0 N k x y w = altN K N k x w) ∧ μ' = pw μ R (hapN K p0 N k x y w) A' B' s')) := c_X4_happen (b := 0) (μ := rowL μ 36 R) (by decide) hR hK hk hx hy hlp hs
theorem c_play0 {μ : Mem} {K : Cel} {R N A B : Pl} {s f l : Int} (hR : KR K μ) (hK : KOK K) (hO : OI K μ 0) (hlp : μ.1 3 1 = p0) (hf : 0 ≤ f ∧ f ≤ 48) (hl : -1 ≤ l ∧ l ≤ 47) (hs : s = 0 ∨ s = 1) : PC shC 3 mX4_playHours [vr 3, vi f, vi l] (pw μ R N A B s) (QV (fun μ' => ∃ (A' B' : Pl) (s' : Int), (s' = 0 ∨ s' = 1) ∧ μ' = pw μ R (upN (hrN K p0) f (l + 1 - f).toNat N) A' B' s')) := c_X4_playHours (b := 0) (μ := rowL μ 36 R) (by decide) hR hK hO hlp hf hl hs
theorem c_arc0 {μ : Mem} {R N A B : Pl} {s : Int} {th : Nat} {V : BitVec 64} (hth : th < 4096) : PC shC 0 mX4_areClean [vr 3, vi (th : Int), vl V] (pw μ R N A B s) (QI (fun z μ' => z = (if arB N th V 12 = true then 1 else 0) ∧ μ' = pw μ R N A B s)) := by
  have h := c_X4_areClean (μ := pw μ R N A B s) (b := 0) (V := V) (by decide) hth
  have e : (pw μ R N A B s).2 (22 + 7 * 0) = N := pw_N
  rw [e] at h
  exact h
theorem c_pfs0 {μ : Mem} {K : Cel} {l : Int} (hR : KR K μ) (hK : KOK K) (hN : KNE K) (hO : OI K μ 0) (hlp : μ.1 3 1 = p0) (hl : 0 ≤ l ∧ l ≤ 47) (hs : μ.1 3 10 = 0 ∨ μ.1 3 10 = 1) : PC shC 4 mX4_playFromStart [vr 3, vi l] μ (QV (fun μ' => ∃ (N' A' B' : Pl) (s' : Int), (s' = 0 ∨ s' = 1) ∧ SimA K 0 (l + 1).toNat N' ∧ μ' = pw μ (μ.2 36) N' A' B' s')) := by
  have h := c_X4_playFromStart (b := 0) (μ := μ) (N := μ.2 22) (A := μ.2 27) (B := μ.2 28) (s := μ.1 3 10) (by decide) hR hK hN hO hlp hl hs
  have e : stM μ 0 (μ.2 22) (μ.2 27) (μ.2 28) (μ.1 3 10) = μ := st_self (b := 0)
  rw [e] at h
  unfold pw
  rw [rowL_self]
  exact h
set_option maxHeartbeats 1000000 in
set_option maxRecDepth 100000 in
theorem l_X2_cleansAll {μ : Mem} {K F : Cel} {R : Pl} {h : Int} {S th : Nat} {W : BitVec 64} (hR : KR K μ) (hK : KOK K) (hN : KNE K) (hO : OI K μ 0) (hlp : μ.1 3 1 = p0) (hh : 0 ≤ h ∧ h < 48) (hS : ∀ t : Nat, S.testBit t = true → (t : Int) < K 0 11) (hS2 : S < 256) (hth : th < 2 ^ (K 0 11).toNat) (hW : LWP K F 0 W) : ∀ (n j : Nat) (N A B : Pl) (s : Int), j ≤ 8 → 8 - j < n → (s = 0 ∨ s = 1) → WSI K F S j h N → PW shC 4 mX2_cleansAll 8 [(0, vr 7), (1, vi (S : Int)), (2, vi h), (3, vi (th : Int)), (4, vl W), (6, vi (j : Int))] [] (pw μ R N A B s) (QI (fun z μ' => ((z = 1 ∧ enB K F h S th = true) ∨ (z = 0 ∧ (enB K F h S th = true → ∃ S' : Nat, S' < S ∧ cnt31 S' < cnt31 S ∧ enB K F h S' th = true))) ∧ ∃ (N' A' B' : Pl) (s' : Int), (s' = 0 ∨ s' = 1) ∧ μ' = pw μ R N' A' B' s')) := by
  intro n
  induction n with
  | zero => intro j N A B s _ q; omega
  | succ n ih =>
  intro j N A B s hj hn hs hI
  have hK1 := hK.1
  have hp : 2 ^ (K 0 11).toNat ≤ 2 ^ 12 := Nat.pow_le_pow_right (by decide) (by omega)
  have d1 := wdiv (w := (S : Int)) (n := ((j : Int)).toNat) (by omega) (by omega)
  have gb := wbitN (u := j) (show (S : Int) = ((S : Nat) : Int) from rfl)
  have hI2 := WSI_s hK hW hS hI
  unfold wsF at hI2
  rw [show ((j : Int)).toNat = j by omega] at hI2
  refine P_iload (pc := 8) dX2_cleansAll_8 5 rfl ?_
  refine P_bipush (pc := 10) dX2_cleansAll_10 (by decide) ?_
  refine P_icmp_ge (tgt := 65) (pc := 12) dX2_cleansAll_12 (by decide) (by first | assumption | (unfold InR; omega) | (rw [gb]; unfold InR; split <;> omega)) (by first | assumption | (unfold InR; omega) | (rw [gb]; unfold InR; split <;> omega)) (fun c_12 => ?_) (fun c_12 => ?_)
  · refine P_aload_n (pc := 65) dX2_cleansAll_65 rfl 0 rfl ?_
    refine P_getR (pc := 66) dX2_cleansAll_66 fa_RX2_19 sC_7 fC7_1 ?_
    refine P_iload_n (pc := 69) dX2_cleansAll_69 rfl 2 rfl ?_
    refine P_iconst (pc := 70) dX2_cleansAll_70 ?_
    refine P_iadd (pc := 71) dX2_cleansAll_71 ?_
    refine P_bipush (pc := 72) dX2_cleansAll_72 (by decide) ?_
    refine P_callVv (Y' := mX4_playHours) (as := [_, _]) (pc := 74) dX2_cleansAll_74 rfl (by decide : 3 < 4) sC_3 rfl ml_RX2_65 im_X4_playHours se_X4_playHours mk_X4_playHours (Nat.le_of_ble_eq_true rfl) (c_play0 hR hK hO hlp (by omega) (by omega) hs) (fun μ_ hq => ?_)
    obtain ⟨A_, B_, s_, hs_, hμ_⟩ := hq
    subst hμ_
    try simp (disch := omega) only [pw_N, pw_R, pw_i, pw_s, pw_j, pw_ps, pw_rN, pw_rR]
    refine P_aload_n (pc := 77) dX2_cleansAll_77 rfl 0 rfl ?_
    refine P_getR (pc := 78) dX2_cleansAll_78 fa_RX2_19 sC_7 fC7_1 ?_
    refine P_iload_n (pc := 81) dX2_cleansAll_81 rfl 3 rfl ?_
    refine P_lload (pc := 82) dX2_cleansAll_82 4 rfl ?_
    refine P_callVi (Y' := mX4_areClean) (as := [_, _]) (pc := 84) dX2_cleansAll_84 rfl (by decide : 0 < 4) sC_3 rfl ml_RX2_69 im_X4_areClean se_X4_areClean mk_X4_areClean (Nat.le_of_ble_eq_true rfl) (c_arc0 (by omega)) (fun z_ μ_ hq => ?_)
    obtain ⟨hz, hμ_⟩ := hq
    subst hμ_
    have hz := ite01 hz
    try simp (disch := omega) only [pw_N, pw_R, pw_i, pw_s, pw_j, pw_ps, pw_rN, pw_rR]
    exact P_zret (pc := 87) dX2_cleansAll_87 rfl (by omega) (QI.mk (by
          have e9 : j = 8 := by omega
          subst e9
          have hf := ar_iff (N := upN (hrN K p0) (h + 1) (47 + 1 - (h + 1)).toNat N) (Xf := fun w => wshX K (w : Int) h S) hW hK.1.2 hth (fun w hw hl => by
            have g := WR_hrs hw hK hN (hI w hw hl) (47 - h).toNat
            rw [show (47 + 1 - (h + 1)).toNat = (47 - h).toNat by omega]
            exact g)
          rw [← enB_iff] at hf
          refine ⟨?_, _, _, _, _, hs_, rfl⟩
          rcases hz with hz | hz
          · exact Or.inr ⟨hz.1, fun q => absurd (hf.mpr q) hz.2⟩
          · exact Or.inl ⟨hz.1, hf.mp hz.2⟩))
  · refine P_iload_n (pc := 15) dX2_cleansAll_15 rfl 1 rfl ?_
    refine P_iload (pc := 16) dX2_cleansAll_16 5 rfl ?_
    refine P_iushr (pc := 18) dX2_cleansAll_18 (wI_ushr (by omega) (by omega) (by omega) (by omega)) ?_
    refine P_iconst (pc := 19) dX2_cleansAll_19 ?_
    refine P_iand (pc := 20) dX2_cleansAll_20 (wI_and d1.1 d1.2 (by omega) (by omega)) ?_
    refine P_iconst (pc := 21) dX2_cleansAll_21 ?_
    refine P_icmp_ne (tgt := 59) (pc := 22) dX2_cleansAll_22 (by decide) (by first | assumption | (unfold InR; omega) | (rw [gb]; unfold InR; split <;> omega)) (by first | assumption | (unfold InR; omega) | (rw [gb]; unfold InR; split <;> omega)) (fun c_22 => ?_) (fun c_22 => ?_)
    · refine P_iinc (L' := [(6, vi _), (0, vr 7), (1, vi _), (2, vi _), (3, vi _), (4, vl _)]) (pc := 59) dX2_cleansAll_59 (by decide) 5 rfl rfl ?_
      refine P_goto (tgt := 8) (pc := 62) dX2_cleansAll_62 (by decide) ?_
      refine P_sub (L' := [(0, vr 7), (1, vi _), (2, vi _), (3, vi _), (4, vl _), (6, vi _)]) [1, 2, 3, 4, 5, 0] rfl ?_
      first
        | (have hbit : ¬ S.testBit j = true := by rw [gb] at c_22; clear ih; grind
           rw [if_neg hbit] at hI2
           exact P_cast (L' := [(0, vr 7), (1, vi (S : Int)), (2, vi h), (3, vi (th : Int)), (4, vl W), (6, vi ((j + 1 : Nat) : Int))]) rfl rfl (ih (j + 1) N A B s (by omega) (by omega) hs hI2))
        | (rw [if_pos hbit] at hI2
           exact P_cast (L' := [(0, vr 7), (1, vi (S : Int)), (2, vi h), (3, vi (th : Int)), (4, vl W), (6, vi ((j + 1 : Nat) : Int))]) rfl rfl (ih (j + 1) _ A_ B_ s_ (by omega) (by omega) hs_ hI2))
    · have hbit : S.testBit j = true := by rw [gb] at c_22; clear ih; grind
      have hjn := hS j hbit
      refine P_aload_n (pc := 25) dX2_cleansAll_25 rfl 0 rfl ?_
      refine P_getR (pc := 26) dX2_cleansAll_26 fa_RX2_19 sC_7 fC7_1 ?_
      refine P_iconst (pc := 29) dX2_cleansAll_29 ?_
      refine P_putZ (jj := 10) (pc := 30) dX2_cleansAll_30 fa_RX2_57 fp_4_10 sC_3 fC3_10 rfl (by omega) ?_
      try simp (disch := omega) only [pw_N, pw_R, pw_i, pw_s, pw_j, pw_ps, pw_rN, pw_rR]
      refine P_aload_n (pc := 33) dX2_cleansAll_33 rfl 0 rfl ?_
      refine P_getR (pc := 34) dX2_cleansAll_34 fa_RX2_19 sC_7 fC7_1 ?_
      refine P_iconst (pc := 37) dX2_cleansAll_37 ?_
      refine P_iload (pc := 38) dX2_cleansAll_38 5 rfl ?_
      refine P_iload (pc := 40) dX2_cleansAll_40 5 rfl ?_
      refine P_lload (pc := 42) dX2_cleansAll_42 4 rfl ?_
      refine P_callVv (Y' := mX4_happen) (as := [_, _, _, _]) (pc := 44) dX2_cleansAll_44 rfl (by decide : 2 < 4) sC_3 rfl ml_RX2_61 im_X4_happen se_X4_happen mk_X4_happen (Nat.le_of_ble_eq_true rfl) (c_hap0 hR hK (by omega) (by omega) (by omega) hlp (Or.inl rfl)) (fun μ_ hq => ?_)
      obtain ⟨A_, B_, s_, hs_, hq_, hμ_⟩ := hq
      subst hμ_
      try simp (disch := omega) only [pw_N, pw_R, pw_i, pw_s, pw_j, pw_ps, pw_rN, pw_rR]
      refine P_aload_n (pc := 47) dX2_cleansAll_47 rfl 0 rfl ?_
      refine P_getR (pc := 48) dX2_cleansAll_48 fa_RX2_19 sC_7 fC7_1 ?_
      refine P_getI (jj := 10) (pc := 51) dX2_cleansAll_51 fa_RX2_57 sC_3 fC3_10 rfl ?_
      try simp (disch := omega) only [pw_N, pw_R, pw_i, pw_s, pw_j, pw_ps, pw_rN, pw_rR]
      refine P_if_ne (tgt := 59) (pc := 54) dX2_cleansAll_54 (by decide) (by first | assumption | (unfold InR; omega) | (rw [gb]; unfold InR; split <;> omega)) (fun c_54 => ?_) (fun c_54 => ?_)
      · refine P_iinc (L' := [(6, vi _), (0, vr 7), (1, vi _), (2, vi _), (3, vi _), (4, vl _)]) (pc := 59) dX2_cleansAll_59 (by decide) 5 rfl rfl ?_
        refine P_goto (tgt := 8) (pc := 62) dX2_cleansAll_62 (by decide) ?_
        refine P_sub (L' := [(0, vr 7), (1, vi _), (2, vi _), (3, vi _), (4, vl _), (6, vi _)]) [1, 2, 3, 4, 5, 0] rfl ?_
        first
          | (have hbit : ¬ S.testBit j = true := by rw [gb] at c_22; clear ih; grind
             rw [if_neg hbit] at hI2
             exact P_cast (L' := [(0, vr 7), (1, vi (S : Int)), (2, vi h), (3, vi (th : Int)), (4, vl W), (6, vi ((j + 1 : Nat) : Int))]) rfl rfl (ih (j + 1) N A B s (by omega) (by omega) hs hI2))
          | (rw [if_pos hbit] at hI2
             exact P_cast (L' := [(0, vr 7), (1, vi (S : Int)), (2, vi h), (3, vi (th : Int)), (4, vl W), (6, vi ((j + 1 : Nat) : Int))]) rfl rfl (ih (j + 1) _ A_ B_ s_ (by omega) (by omega) hs_ hI2))
      · refine P_iconst (pc := 57) dX2_cleansAll_57 ?_
        exact P_zret (pc := 58) dX2_cleansAll_58 rfl (by omega) (QI.mk (by
              refine ⟨Or.inr ⟨rfl, fun he => ?_⟩, _, _, _, _, hs_, rfl⟩
              obtain ⟨q1, q2, q3⟩ := hq_ c_54 rfl
              rw [alt_same hW ⟨by omega, hS j hbit⟩ (fun w hw hl => (hI w hw hl).1) q2] at q3
              have hd := drop_cnt S hS2 j (by omega) hbit
              exact ⟨S ^^^ 2 ^ j, hd.2, hd.1, unst hK hN hW hS (by omega) hbit hI q3 he⟩))
set_option maxHeartbeats 1000000 in
set_option maxRecDepth 100000 in
theorem c_X2_cleansAll {μ : Mem} {K F : Cel} {R N A B N0 : Pl} {s h : Int} {S th : Nat} {W : BitVec 64} (hR : KR K μ) (hK : KOK K) (hN : KNE K) (hO : OI K μ 0) (hlp : μ.1 3 1 = p0) (hh : 0 ≤ h ∧ h < 48) (hS : ∀ t : Nat, S.testBit t = true → (t : Int) < K 0 11) (hS2 : S < 256) (hth : th < 2 ^ (K 0 11).toNat) (hW : LWP K F 0 W) (hN0 : SimA K 0 (h + 1).toNat N0) (hRow : ∀ j, 0 ≤ j → j < 156 → R (0 * 156 + j) = N0 j) (hs : s = 0 ∨ s = 1) : PC shC 4 mX2_cleansAll [vr 7, vi (S : Int), vi h, vi (th : Int), vl W] (pw μ R N A B s) (QI (fun z μ' => ((z = 1 ∧ enB K F h S th = true) ∨ (z = 0 ∧ (enB K F h S th = true → ∃ S' : Nat, S' < S ∧ cnt31 S' < cnt31 S ∧ enB K F h S' th = true))) ∧ ∃ (N' A' B' : Pl) (s' : Int), (s' = 0 ∨ s' = 1) ∧ μ' = pw μ R N' A' B' s')) := by
  refine PC.of (by decide +kernel) (Nat.le_of_ble_eq_true rfl) ?_
  refine P_sub (L' := [(0, vr 7), (1, vi (S : Int)), (2, vi h), (3, vi (th : Int)), (4, vl W)]) [0, 1, 2, 3, 4] rfl ?_
  refine P_aload_n (pc := 0) dX2_cleansAll_0 rfl 0 rfl ?_
  refine P_iconst (pc := 1) dX2_cleansAll_1 ?_
  refine P_callVv (Y' := mX2_takeRow) (as := [_]) (pc := 2) dX2_cleansAll_2 rfl (by decide : 1 < 4) sC_7 rfl ml_RX2_54 im_X2_takeRow se_X2_takeRow mk_X2_takeRow (Nat.le_of_ble_eq_true rfl) (c_X2_takeRow (by omega)) (fun μ_ hq => ?_)
  subst hq
  try simp (disch := omega) only [pw_N, pw_R, pw_i, pw_s, pw_j, pw_ps, pw_rN, pw_rR]
  refine P_iconst (pc := 5) dX2_cleansAll_5 ?_
  refine P_istore (L' := [(6, vi _), (0, vr 7), (1, vi _), (2, vi _), (3, vi _), (4, vl _)]) (pc := 6) dX2_cleansAll_6 (by decide) rfl ?_
  refine P_sub (L' := [(0, vr 7), (1, vi _), (2, vi _), (3, vi _), (4, vl _), (6, vi _)]) [1, 2, 3, 4, 5, 0] rfl ?_
  exact l_X2_cleansAll hR hK hN hO hlp hh hS hS2 hth hW 9 0 _ A B s (by omega) (by omega) hs (WSI_0 hK hh.1 hN0 (tk_ag hRow))
