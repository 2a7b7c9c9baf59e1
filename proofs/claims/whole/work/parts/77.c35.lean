theorem wb_char {K F : Cel} {till : Int} {th : Nat} : ∀ s : Nat, (wbestN K F till th s = -9 ∧ ∀ S, S < s → enB K F till S th = false) ∨ (∃ S : Nat, S < s ∧ wbestN K F till th s = (S : Int) ∧ enB K F till S th = true ∧ ∀ S', S' < s → enB K F till S' th = true → cnt31 S < cnt31 S' ∨ (cnt31 S = cnt31 S' ∧ S ≤ S'))
  | 0 => Or.inl ⟨rfl, fun S h => absurd h (Nat.not_lt_zero S)⟩
  | s + 1 => by
    simp only [wbestN]
    cases he : enB K F till s th with
    | false =>
      rw [if_neg (fun z => absurd z.2 (by decide))]
      rcases wb_char (K := K) (F := F) (till := till) (th := th) s with ⟨h1, h2⟩ | ⟨S, h0, h1, h2, h3⟩
      · refine Or.inl ⟨h1, fun S hS => ?_⟩
        rcases Nat.lt_or_ge S s with g | g
        · exact h2 S g
        · rw [show S = s by omega]; exact he
      · refine Or.inr ⟨S, by omega, h1, h2, fun S' hS' e' => ?_⟩
        rcases Nat.lt_or_ge S' s with g | g
        · exact h3 S' g e'
        · rw [show S' = s by omega, he] at e'; cases e'
    | true =>
      rcases wb_char (K := K) (F := F) (till := till) (th := th) s with ⟨h1, h2⟩ | ⟨S, h0, h1, h2, h3⟩
      · rw [if_pos ⟨Or.inl (by rw [h1]; decide), rfl⟩]
        refine Or.inr ⟨s, by omega, rfl, he, fun S' hS' e' => ?_⟩
        rcases Nat.lt_or_ge S' s with g | g
        · rw [h2 S' g] at e'; cases e'
        · rw [show S' = s by omega]; exact Or.inr ⟨rfl, Nat.le_refl _⟩
      · rw [h1]
        by_cases q : cnt31 s < cnt31 S
        · rw [if_pos ⟨Or.inr (by rw [show ((S : Int)).toNat = S by omega]; exact q), rfl⟩]
          refine Or.inr ⟨s, by omega, rfl, he, fun S' hS' e' => ?_⟩
          rcases Nat.lt_or_ge S' s with g | g
          · have := h3 S' g e'
            exact Or.inl (by omega)
          · rw [show S' = s by omega]; exact Or.inr ⟨rfl, Nat.le_refl _⟩
        · rw [if_neg (fun z => by
            rcases z.1 with a | a
            · omega
            · rw [show ((S : Int)).toNat = S by omega] at a
              exact q a)]
          refine Or.inr ⟨S, by omega, rfl, h2, fun S' hS' e' => ?_⟩
          rcases Nat.lt_or_ge S' s with g | g
          · exact h3 S' g e'
          · rw [show S' = s by omega]; omega
theorem wb_some {K F : Cel} {till : Int} {th S M : Nat} (hS : S < M) (he : enB K F till S th = true) (hQ : ∀ S', S' < M → (cnt31 S' < cnt31 S ∨ (cnt31 S' = cnt31 S ∧ S' < S)) → enB K F till S' th = false) : wbestN K F till th M = (S : Int) := by
  rcases wb_char (K := K) (F := F) (till := till) (th := th) M with ⟨h1, h2⟩ | ⟨T, h0, h1, h2, h3⟩
  · rw [h2 S hS] at he; cases he
  · rw [h1]
    have g1 := h3 S hS he
    by_cases q : T = S
    · rw [q]
    · have := hQ T h0 (by omega)
      rw [this] at h2; cases h2
theorem wb_none {K F : Cel} {till : Int} {th M : Nat} (hQ : ∀ S', S' < M → enB K F till S' th = false) : wbestN K F till th M = -9 := by
  rcases wb_char (K := K) (F := F) (till := till) (th := th) M with ⟨h1, h2⟩ | ⟨T, h0, h1, h2, h3⟩
  · exact h1
  · rw [hQ T h0] at h2; cases h2
theorem cnt_le8 : ∀ s, s < 256 → cnt31 s ≤ 8 := by decide +kernel
theorem bit_lt {S n t : Nat} (h : S < 2 ^ n) (ht : S.testBit t = true) : t < n := by
  rcases Nat.lt_or_ge t n with g | g
  · exact g
  · have := Nat.testBit_lt_two_pow (Nat.lt_of_lt_of_le h (Nat.pow_le_pow_right (by decide) g))
    rw [this] at ht
    cases ht
def mxW (K : Cel) : Nat := if K 0 11 < 8 then (K 0 11).toNat else 8
def QW (K F : Cel) (h : Int) (th sz st : Nat) : Prop := ∀ S', S' < 2 ^ mxW K → (cnt31 S' < sz ∨ (cnt31 S' = sz ∧ S' < st)) → enB K F h S' th = false
/-- what the planner may change -/
def FSP (μ ν : Mem) : Prop := ∃ (R N A B : Pl) (s : Int), (s = 0 ∨ s = 1) ∧ ν = pw μ R N A B s
theorem FSP_rf {μ : Mem} (hs : μ.1 3 10 = 0 ∨ μ.1 3 10 = 1) : FSP μ μ := ⟨_, _, _, _, _, hs, pw_self.symm⟩
theorem pw_pw {μ : Mem} {R N A B R' N' A' B' : Pl} {s s' : Int} : pw (pw μ R N A B s) R' N' A' B' s' = pw μ R' N' A' B' s' := by
  refine Prod.ext ?_ ?_
  · funext q
    by_cases h : q = 3
    · subst h
      funext j
      by_cases a : j = 10
      · subst a; rw [pw_s, pw_s]
      · rw [pw_j a, pw_j a, pw_j a]
    · rw [pw_i h, pw_i h, pw_i h]
  · funext q
    by_cases h4 : q = 36
    · subst h4; rw [pw_R, pw_R]
    · by_cases h : q = 22
      · subst h; rw [pw_N, pw_N]
      · by_cases h2 : q = 27
        · subst h2
          show (stM (rowL _ 36 R') 0 N' A' B' s').2 (27 + 7 * 0) = (stM (rowL _ 36 R') 0 N' A' B' s').2 (27 + 7 * 0)
          rw [st_A, st_A]
        · by_cases h3 : q = 28
          · subst h3
            show (stM (rowL _ 36 R') 0 N' A' B' s').2 (28 + 7 * 0) = (stM (rowL _ 36 R') 0 N' A' B' s').2 (28 + 7 * 0)
            rw [st_B, st_B]
          · rw [pw_l ⟨h, h2, h3, h4⟩, pw_l ⟨h, h2, h3, h4⟩, pw_l ⟨h, h2, h3, h4⟩]
set_option maxHeartbeats 1000000 in
set_option maxRecDepth 100000 in
theorem l_X2_fw51 {μ : Mem} {K F : Cel} {h : Int} {th : Nat} {W : BitVec 64} {R N0 : Pl} {sz : Nat} (hR : KR K μ) (hK : KOK K) (hN : KNE K) (hO : OI K μ 0) (hlp : μ.1 3 1 = p0) (hh : 0 ≤ h ∧ h < 48) (hth : th < 2 ^ (K 0 11).toNat) (hW : LWP K F 0 W) (hN0 : SimA K 0 (h + 1).toNat N0) (hRow : ∀ j, 0 ≤ j → j < 156 → R (0 * 156 + j) = N0 j) (hsz : sz ≤ 8) (hmx : mxW K ≤ 8 ∧ mxW K ≤ (K 0 11).toNat) (kx : ∀ (N A B : Pl) (s : Int), (s = 0 ∨ s = 1) → QW K F h th (sz + 1) 0 → PW shC 5 mX2_fewestWashes 89 [(0, vr 7), (1, vi h), (2, vi (th : Int)), (3, vl W), (5, vi (((2 ^ mxW K : Nat)) : Int)), (6, vi (sz : Int))] [] (pw μ R N A B s) (QI (fun z μ' => z = wbestN K F h th (2 ^ mxW K) ∧ FSP μ μ'))) : ∀ (n st : Nat) (N A B : Pl) (s : Int), st ≤ 2 ^ mxW K → 2 ^ mxW K - st < n → (s = 0 ∨ s = 1) → QW K F h th sz st → PW shC 5 mX2_fewestWashes 51 [(0, vr 7), (1, vi h), (2, vi (th : Int)), (3, vl W), (5, vi (((2 ^ mxW K : Nat)) : Int)), (6, vi (sz : Int)), (7, vi (st : Int))] [] (pw μ R N A B s) (QI (fun z μ' => z = wbestN K F h th (2 ^ mxW K) ∧ FSP μ μ')) := by
  intro n
  induction n with
  | zero => intro st N A B s _ q; omega
  | succ n ih =>
  intro st N A B s hst0 hn hs hQ
  have hp8 : 2 ^ mxW K ≤ 2 ^ 8 := Nat.pow_le_pow_right (by decide) hmx.1
  have hpos : 0 < 2 ^ mxW K := Nat.pow_pos (by decide)
  refine P_iload (pc := 51) dX2_fewestWashes_51 6 rfl ?_
  refine P_iload (pc := 53) dX2_fewestWashes_53 4 rfl ?_
  refine P_icmp_ge (tgt := 89) (pc := 55) dX2_fewestWashes_55 (by decide) (by first | assumption | (unfold InR; omega)) (by first | assumption | (unfold InR; omega)) (fun c_55 => ?_) (fun c_55 => ?_)
  · refine P_sub (L' := [(0, vr 7), (1, vi _), (2, vi _), (3, vl _), (5, vi _), (6, vi _)]) [0, 1, 2, 3, 4, 5] rfl ?_
    refine kx N A B s hs (fun S' g1 g2 => hQ S' g1 (by omega))
  · have hst : st < 256 := by omega
    have hSub : ∀ t : Nat, st.testBit t = true → (t : Int) < K 0 11 := fun t ht => by have := bit_lt (n := mxW K) (by omega) ht; omega
    have hc8 := cnt_le8 st hst
    refine P_iload (pc := 58) dX2_fewestWashes_58 6 rfl ?_
    refine P_callSi (Y' := mJ6_bitCount_0f7a4) (as := [_]) (pc := 60) dX2_fewestWashes_60 rfl (by decide : 0 < 5) ml_RX2_44 sm_J6_bitCount_0f7a4 mk_J6_bitCount_0f7a4 (Nat.le_of_ble_eq_true rfl) (c_J6_bitCount_0f7a4 hst) (fun z_ μ_ hq => ?_)
    obtain ⟨hz, hμ_⟩ := hq
    subst hμ_
    subst hz
    try simp (disch := omega) only [pw_N, pw_R, pw_i, pw_s, pw_j, pw_ps, pw_rN, pw_rR]
    refine P_iload (pc := 63) dX2_fewestWashes_63 5 rfl ?_
    refine P_icmp_ne (tgt := 83) (pc := 65) dX2_fewestWashes_65 (by decide) (by first | assumption | (unfold InR; omega)) (by first | assumption | (unfold InR; omega)) (fun c_65 => ?_) (fun c_65 => ?_)
    · refine P_iinc (L' := [(7, vi _), (0, vr 7), (1, vi _), (2, vi _), (3, vl _), (5, vi _), (6, vi _)]) (pc := 83) dX2_fewestWashes_83 (by decide) 6 rfl rfl ?_
      refine P_goto (tgt := 51) (pc := 86) dX2_fewestWashes_86 (by decide) ?_
      refine P_sub (L' := [(0, vr 7), (1, vi _), (2, vi _), (3, vl _), (5, vi _), (6, vi _), (7, vi _)]) [1, 2, 3, 4, 5, 6, 0] rfl ?_
      first
        | (refine P_cast (L' := [(0, vr 7), (1, vi h), (2, vi (th : Int)), (3, vl W), (5, vi (((2 ^ mxW K : Nat)) : Int)), (6, vi (sz : Int)), (7, vi ((st + 1 : Nat) : Int))]) rfl rfl (ih (st + 1) N A B s (by omega) (by omega) hs (fun S' g1 g2 => ?_))
           have hcn : cnt31 st ≠ sz := by omega
           by_cases q : S' = st
           · rw [q] at g2 ⊢
             exact hQ st (by omega) (Or.inl (by omega))
           · exact hQ S' g1 (by omega))
        | (refine P_cast (L' := [(0, vr 7), (1, vi h), (2, vi (th : Int)), (3, vl W), (5, vi (((2 ^ mxW K : Nat)) : Int)), (6, vi (sz : Int)), (7, vi ((st + 1 : Nat) : Int))]) rfl rfl (ih (st + 1) _ A_ B_ s_ (by omega) (by omega) hs_ (fun S' g1 g2 => ?_))
           by_cases q : S' = st
           · subst q
             refine Bool.eq_false_iff.mpr (fun e => ?_)
             rcases hz with hz | hz
             · omega
             · obtain ⟨T, t1, t2, t3⟩ := hz.2 e
               have := hQ T (by omega) (by omega)
               rw [this] at t3
               cases t3
           · exact hQ S' g1 (by omega))
    · refine P_aload_n (pc := 68) dX2_fewestWashes_68 rfl 0 rfl ?_
      refine P_iload (pc := 69) dX2_fewestWashes_69 6 rfl ?_
      refine P_iload_n (pc := 71) dX2_fewestWashes_71 rfl 1 rfl ?_
      refine P_iload_n (pc := 72) dX2_fewestWashes_72 rfl 2 rfl ?_
      refine P_lload_n (pc := 73) dX2_fewestWashes_73 rfl 3 rfl ?_
      refine P_callVi (Y' := mX2_cleansAll) (as := [_, _, _, _]) (pc := 74) dX2_fewestWashes_74 rfl (by decide : 4 < 5) sC_7 rfl ml_RX2_50 im_X2_cleansAll se_X2_cleansAll mk_X2_cleansAll (Nat.le_of_ble_eq_true rfl) (c_X2_cleansAll hR hK hN hO hlp hh hSub hst hth hW hN0 hRow hs) (fun z_ μ_ hq => ?_)
      obtain ⟨hz, N_, A_, B_, s_, hs_, hμ_⟩ := hq
      subst hμ_
      try simp (disch := omega) only [pw_N, pw_R, pw_i, pw_s, pw_j, pw_ps, pw_rN, pw_rR]
      refine P_if_eq (tgt := 83) (pc := 77) dX2_fewestWashes_77 (by decide) (by first | assumption | (unfold InR; omega)) (fun c_77 => ?_) (fun c_77 => ?_)
      · refine P_iinc (L' := [(7, vi _), (0, vr 7), (1, vi _), (2, vi _), (3, vl _), (5, vi _), (6, vi _)]) (pc := 83) dX2_fewestWashes_83 (by decide) 6 rfl rfl ?_
        refine P_goto (tgt := 51) (pc := 86) dX2_fewestWashes_86 (by decide) ?_
        refine P_sub (L' := [(0, vr 7), (1, vi _), (2, vi _), (3, vl _), (5, vi _), (6, vi _), (7, vi _)]) [1, 2, 3, 4, 5, 6, 0] rfl ?_
        first
          | (refine P_cast (L' := [(0, vr 7), (1, vi h), (2, vi (th : Int)), (3, vl W), (5, vi (((2 ^ mxW K : Nat)) : Int)), (6, vi (sz : Int)), (7, vi ((st + 1 : Nat) : Int))]) rfl rfl (ih (st + 1) N A B s (by omega) (by omega) hs (fun S' g1 g2 => ?_))
             have hcn : cnt31 st ≠ sz := by omega
             by_cases q : S' = st
             · rw [q] at g2 ⊢
               exact hQ st (by omega) (Or.inl (by omega))
             · exact hQ S' g1 (by omega))
          | (refine P_cast (L' := [(0, vr 7), (1, vi h), (2, vi (th : Int)), (3, vl W), (5, vi (((2 ^ mxW K : Nat)) : Int)), (6, vi (sz : Int)), (7, vi ((st + 1 : Nat) : Int))]) rfl rfl (ih (st + 1) _ A_ B_ s_ (by omega) (by omega) hs_ (fun S' g1 g2 => ?_))
             by_cases q : S' = st
             · subst q
               refine Bool.eq_false_iff.mpr (fun e => ?_)
               rcases hz with hz | hz
               · omega
               · obtain ⟨T, t1, t2, t3⟩ := hz.2 e
                 have := hQ T (by omega) (by omega)
                 rw [this] at t3
                 cases t3
             · exact hQ S' g1 (by omega))
      · refine P_iload (pc := 80) dX2_fewestWashes_80 6 rfl ?_
        exact P_iret (pc := 82) dX2_fewestWashes_82 rfl (QI.mk (by
              refine ⟨?_, _, _, _, _, _, hs_, rfl⟩
              rcases hz with hz | hz
              · exact (wb_some (by omega) hz.2 (fun S' g1 g2 => hQ S' g1 (by omega))).symm
              · omega))
set_option maxHeartbeats 1000000 in
set_option maxRecDepth 100000 in
theorem l_X2_fw41 {μ : Mem} {K F : Cel} {h : Int} {th : Nat} {W : BitVec 64} {R N0 : Pl} (hR : KR K μ) (hK : KOK K) (hN : KNE K) (hO : OI K μ 0) (hlp : μ.1 3 1 = p0) (hh : 0 ≤ h ∧ h < 48) (hth : th < 2 ^ (K 0 11).toNat) (hW : LWP K F 0 W) (hN0 : SimA K 0 (h + 1).toNat N0) (hRow : ∀ j, 0 ≤ j → j < 156 → R (0 * 156 + j) = N0 j) (hmx : mxW K ≤ 8 ∧ mxW K ≤ (K 0 11).toNat) : ∀ (n sz : Nat) (N A B : Pl) (s : Int), sz ≤ 9 → 9 - sz < n → (s = 0 ∨ s = 1) → QW K F h th sz 0 → PW shC 5 mX2_fewestWashes 41 [(0, vr 7), (1, vi h), (2, vi (th : Int)), (3, vl W), (5, vi (((2 ^ mxW K : Nat)) : Int)), (6, vi (sz : Int))] [] (pw μ R N A B s) (QI (fun z μ' => z = wbestN K F h th (2 ^ mxW K) ∧ FSP μ μ')) := by
  intro n
  induction n with
  | zero => intro sz N A B s _ q; omega
  | succ n ih =>
  intro sz N A B s hsz hn hs hQ
  have hp8 : 2 ^ mxW K ≤ 2 ^ 8 := Nat.pow_le_pow_right (by decide) hmx.1
  have hpos : 0 < 2 ^ mxW K := Nat.pow_pos (by decide)
  refine P_iload (pc := 41) dX2_fewestWashes_41 5 rfl ?_
  refine P_bipush (pc := 43) dX2_fewestWashes_43 (by decide) ?_
  refine P_icmp_gt (tgt := 95) (pc := 45) dX2_fewestWashes_45 (by decide) (by first | assumption | (unfold InR; omega)) (by first | assumption | (unfold InR; omega)) (fun c_45 => ?_) (fun c_45 => ?_)
  · refine P_bipush (pc := 95) dX2_fewestWashes_95 (by decide) ?_
    exact P_iret (pc := 97) dX2_fewestWashes_97 rfl (QI.mk (by
          refine ⟨(wb_none (fun S' g1 => hQ S' g1 (Or.inl ?_))).symm, _, _, _, _, _, hs, rfl⟩
          have := cnt_le8 S' (by omega)
          omega))
  · refine P_iconst (pc := 48) dX2_fewestWashes_48 ?_
    refine P_istore (L' := [(7, vi _), (0, vr 7), (1, vi _), (2, vi _), (3, vl _), (5, vi _), (6, vi _)]) (pc := 49) dX2_fewestWashes_49 (by decide) rfl ?_
    refine P_sub (L' := [(0, vr 7), (1, vi _), (2, vi _), (3, vl _), (5, vi _), (6, vi _), (7, vi _)]) [1, 2, 3, 4, 5, 6, 0] rfl ?_
    refine l_X2_fw51 hR hK hN hO hlp hh hth hW hN0 hRow (by omega) hmx (fun N_ A_ B_ s_ hs_ hQ_ => ?_) (2 ^ mxW K + 1) 0 N A B s (Nat.zero_le _) (by omega) hs hQ
    · skip
      refine P_iinc (L' := [(6, vi _), (0, vr 7), (1, vi _), (2, vi _), (3, vl _), (5, vi _)]) (pc := 89) dX2_fewestWashes_89 (by decide) 5 rfl rfl ?_
      refine P_goto (tgt := 41) (pc := 92) dX2_fewestWashes_92 (by decide) ?_
      refine P_sub (L' := [(0, vr 7), (1, vi _), (2, vi _), (3, vl _), (5, vi _), (6, vi _)]) [1, 2, 3, 4, 5, 0] rfl ?_
      exact P_cast (L' := [(0, vr 7), (1, vi h), (2, vi (th : Int)), (3, vl W), (5, vi (((2 ^ mxW K : Nat)) : Int)), (6, vi ((sz + 1 : Nat) : Int))]) rfl rfl (ih (sz + 1) N_ A_ B_ s_ (by omega) (by omega) hs_ hQ_)
set_option maxHeartbeats 1000000 in
set_option maxRecDepth 100000 in
theorem c_X2_fewestWashes {μ : Mem} {K F : Cel} {h : Int} {th : Nat} {W : BitVec 64} (hR : KR K μ) (hK : KOK K) (hN : KNE K) (hO : OI K μ 0) (hlp : μ.1 3 1 = p0) (hh : 0 ≤ h ∧ h < 48) (hth : th < 2 ^ (K 0 11).toNat) (hW : LWP K F 0 W) (hs : μ.1 3 10 = 0 ∨ μ.1 3 10 = 1) : PC shC 5 mX2_fewestWashes [vr 7, vi h, vi (th : Int), vl W] (μ) (QI (fun z μ' => z = (if leftN K F 0 = 0 then -9 else wbestN K F h th (2 ^ mxW K)) ∧ FSP μ μ')) := by
  refine PC.of (by decide +kernel) (Nat.le_of_ble_eq_true rfl) ?_
  refine P_sub (L' := [(0, vr 7), (1, vi h), (2, vi (th : Int)), (3, vl W)]) [0, 1, 2, 3] rfl ?_
  have hl0 : W = 0#64 ↔ leftN K F 0 = 0 := LW_0 hW
  have hK1 := hK.1
  have hmx : mxW K ≤ 8 ∧ mxW K ≤ (K 0 11).toNat ∧ (if K 0 11 > 8 then 8 else K 0 11).toNat = mxW K := by unfold mxW; split <;> split <;> omega
  refine P_lload_n (pc := 0) dX2_fewestWashes_0 rfl 3 rfl ?_
  refine P_lconst (b := 0#64) (pc := 1) dX2_fewestWashes_1 rfl ?_
  refine P_lcmp_ne (tgt := 9) (pc := 2) dX2_fewestWashes_2 dX2_fewestWashes_3 (by decide) (fun c_2 => ?_) (fun c_2 => ?_)
  · refine P_aload_n (pc := 9) dX2_fewestWashes_9 rfl 0 rfl ?_
    refine P_getR (pc := 10) dX2_fewestWashes_10 fa_RX2_19 sC_7 fC7_1 ?_
    refine P_iload_n (pc := 13) dX2_fewestWashes_13 rfl 1 rfl ?_
    refine P_callVv (Y' := mX4_playFromStart) (as := [_]) (pc := 14) dX2_fewestWashes_14 rfl (by decide : 4 < 5) sC_3 rfl ml_RX2_23 im_X4_playFromStart se_X4_playFromStart mk_X4_playFromStart (Nat.le_of_ble_eq_true rfl) (c_pfs0 hR hK hN hO hlp (by omega) hs) (fun μ_ hq => ?_)
    obtain ⟨N_, A_, B_, s_, hs_, hsim, hμ_⟩ := hq
    subst hμ_
    try simp (disch := omega) only [pw_N, pw_R, pw_i, pw_s, pw_j, pw_ps, pw_rN, pw_rR]
    refine P_aload_n (pc := 17) dX2_fewestWashes_17 rfl 0 rfl ?_
    refine P_iconst (pc := 18) dX2_fewestWashes_18 ?_
    refine P_callVv (Y' := mX2_keepRow) (as := [_]) (pc := 19) dX2_fewestWashes_19 rfl (by decide : 1 < 5) sC_7 rfl ml_RX2_29 im_X2_keepRow se_X2_keepRow mk_X2_keepRow (Nat.le_of_ble_eq_true rfl) (c_X2_keepRow (by omega)) (fun μ_ hq => ?_)
    subst hq
    try simp (disch := omega) only [pw_N, pw_R, pw_i, pw_s, pw_j, pw_ps, pw_rN, pw_rR]
    refine P_iconst (pc := 22) dX2_fewestWashes_22 ?_
    have hzi : InR (K 0 11) := by unfold InR; omega
    refine P_aload_n (pc := 23) dX2_fewestWashes_23 rfl 0 rfl ?_
    refine P_getR (pc := 24) dX2_fewestWashes_24 fa_RX2_15 sC_7 fC7_0 ?_
    refine P_getI (jj := 6) (pc := 27) dX2_fewestWashes_27 fa_RX2_32 sC_1 fC1_6 rfl ?_
    try simp (disch := omega) only [pw_N, pw_R, pw_i, pw_s, pw_j, pw_ps, pw_rN, pw_rR]
    rw [hR.1.1]
    refine P_bipush (pc := 30) dX2_fewestWashes_30 (by decide) ?_
    refine P_callSi (Y' := mJ9_min_7cf53) (as := [_, _]) (pc := 32) dX2_fewestWashes_32 rfl (by decide : 0 < 5) ml_RX2_38 sm_J9_min_7cf53 mk_J9_min_7cf53 (Nat.le_of_ble_eq_true rfl) (c_J9_min_7cf53 (by unfold InR; omega) (by unfold InR; omega)) (fun z_ μ_ hq => ?_)
    obtain ⟨hz, hμ_⟩ := hq
    subst hμ_
    have hzr : 0 ≤ z_ ∧ z_ ≤ 8 := by rw [hz]; split <;> omega
    have hz2 : z_.toNat = mxW K := by rw [hz]; exact hmx.2.2
    try simp (disch := omega) only [pw_N, pw_R, pw_i, pw_s, pw_j, pw_ps, pw_rN, pw_rR]
    refine P_ishl (pc := 35) dX2_fewestWashes_35 (wN_shl1 (by omega) (by omega)) ?_
    rw [hz2]
    refine P_istore (L' := [(5, vi _), (0, vr 7), (1, vi _), (2, vi _), (3, vl _)]) (pc := 36) dX2_fewestWashes_36 (by decide) rfl ?_
    refine P_iconst (pc := 38) dX2_fewestWashes_38 ?_
    refine P_istore (L' := [(6, vi _), (5, vi _), (0, vr 7), (1, vi _), (2, vi _), (3, vl _)]) (pc := 39) dX2_fewestWashes_39 (by decide) rfl ?_
    refine P_sub (L' := [(0, vr 7), (1, vi _), (2, vi _), (3, vl _), (5, vi _), (6, vi _)]) [2, 3, 4, 5, 1, 0] rfl ?_
    have hx := l_X2_fw41 hR hK hN hO hlp hh hth hW hsim (R := kpR (μ.2 36) N_ 0) kp_at ⟨hmx.1, hmx.2.1⟩ 10 0 N_ A_ B_ s_ (by omega) (by omega) hs_ (fun S' g1 g2 => by omega)
    rw [if_neg (fun z => c_2 (hl0.mpr z))]
    exact hx
  · refine P_bipush (pc := 6) dX2_fewestWashes_6 (by decide) ?_
    exact P_iret (pc := 8) dX2_fewestWashes_8 rfl (QI.mk (by rw [if_pos (hl0.mp (by assumption))]; exact ⟨rfl, FSP_rf hs⟩))
