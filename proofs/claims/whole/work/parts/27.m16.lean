def rivR (K F : Cel) (h : Int) : Nat → Nat → Int
  | 0, _ => -9
  | n + 1, z => match rivP K F h z with
    | some s => (s : Int)
    | none => rivR K F h n (z + 1)
def rivA (K F : Cel) (h : Int) (z i : Nat) : Bool := decide (cnt31 i = z) && rivB K F h i
theorem rivP_none {K F : Cel} {h : Int} {z : Nat} (hB : ∀ i, i < 2 ^ (K 0 11).toNat → rivA K F h z i = false) : rivP K F h z = none := by
  have := findN_at (p := rivA K F h z) (2 ^ (K 0 11).toNat) 0 0 (fun i _ h2 => hB i (by omega))
  exact this
theorem rivP_some {K F : Cel} {h : Int} {z s : Nat} (hB : ∀ i, i < s → rivA K F h z i = false) (hs : s < 2 ^ (K 0 11).toNat) (h1 : rivA K F h z s = true) : rivP K F h z = some s := by
  have h2 := findN_at (p := rivA K F h z) s (2 ^ (K 0 11).toNat - s) 0 (fun i _ h2 => hB i (by omega))
  rw [show s + (2 ^ (K 0 11).toNat - s) = 2 ^ (K 0 11).toNat by omega, Nat.zero_add] at h2
  have e : 2 ^ (K 0 11).toNat - s = (2 ^ (K 0 11).toNat - s - 1) + 1 := by omega
  rw [e] at h2
  have h3 : findN (rivA K F h z) (2 ^ (K 0 11).toNat - s - 1 + 1) s = some s := if_pos h1
  rw [h3] at h2
  exact h2
theorem rivR_some {K F : Cel} {h : Int} {n z s : Nat} (e : rivP K F h z = some s) : rivR K F h (n + 1) z = (s : Int) := by
  show (match rivP K F h z with | some s => (s : Int) | none => rivR K F h n (z + 1)) = _
  rw [e]
theorem rivR_none {K F : Cel} {h : Int} {n z : Nat} (e : rivP K F h z = none) : rivR K F h (n + 1) z = rivR K F h n (z + 1) := by
  show (match rivP K F h z with | some s => (s : Int) | none => rivR K F h n (z + 1)) = _
  rw [e]
theorem wN_shl1 {t : Int} (h0 : 0 ≤ t) (h1 : t < 31) : Int32.ofInt 1 <<< (Int32.ofInt t &&& 31) = Int32.ofInt ((2 ^ t.toNat : Nat) : Int) := by
  rw [wI_shl 1 h0 (by omega)]
  congr 1
  rw [Int.one_mul]
  simp
theorem cnt31_le (s : Nat) : cnt31 s ≤ 31 := cnt_le _ _
set_option maxHeartbeats 1000000 in
set_option maxRecDepth 100000 in
theorem l_X6_rivals2 {μ ν : Mem} {K F : Cel} {h : Int} (hK : KOK K) (hL : LC K F 0 h ν) (hP : PM μ ν) (c11 : ν.1 0 11 = K 0 11) {z : Nat} (hz4 : 2 ≤ z ∧ z < 4) (hR : rivR K F h 2 2 = rivR K F h (4 - z) z) (kx : (∀ i, i < 2 ^ (K 0 11).toNat → rivA K F h z i = false) → PW shM 6 mX6_rivals 83 [(0, vr 0), (1, vi h), (3, vi (z : Int))] [] ν (QI (fun z' μ' => z' = rivR K F h 2 2 ∧ PM μ μ'))) : ∀ (n s : Nat), s ≤ 2 ^ (K 0 11).toNat → 2 ^ (K 0 11).toNat - s < n → (∀ i, i < s → rivA K F h z i = false) → PW shM 6 mX6_rivals 45 [(0, vr 0), (1, vi h), (3, vi (z : Int)), (4, vi (s : Int))] [] ν (QI (fun z' μ' => z' = rivR K F h 2 2 ∧ PM μ μ')) := by
  intro n
  induction n with
  | zero => intro s _ q; omega
  | succ n ih =>
  intro s hs hn hB
  have hk1 := hK.1
  have g4 : (2 : Nat) ^ (K 0 11).toNat ≤ 2 ^ 12 := Nat.pow_le_pow_right (by decide) (by omega)
  have g5 := cnt31_le s
  have g6 : cnt (fun k => ((s : Int)).toNat.testBit k) 31 = cnt31 s := rfl
  have g7 : rivA K F h z s = (decide (cnt31 s = z) && rivB K F h s) := rfl
  refine P_iload (pc := 45) dX6_rivals_45 3 rfl ?_
  refine P_iconst (pc := 47) dX6_rivals_47 ?_
  refine P_aload_n (pc := 48) dX6_rivals_48 rfl 0 rfl ?_
  refine P_getI (jj := 11) (pc := 49) dX6_rivals_49 fa_RX6_101 sM_0 fM0_11 rfl ?_
  rw [c11]
  refine P_ishl (pc := 52) dX6_rivals_52 (wN_shl1 (by omega) (by omega)) ?_
  refine P_icmp_ge (tgt := 83) (pc := 53) dX6_rivals_53 (by decide) (by unfold InR; omega) (by unfold InR; omega) (fun c_53 => ?_) (fun c_53 => ?_)
  · refine P_sub (L' := [(0, vr 0), (1, vi _), (3, vi _)]) [0, 1, 2] rfl ?_
    exact kx (fun i hi => hB i (by omega))
  · refine P_iload (pc := 56) dX6_rivals_56 3 rfl ?_
    refine P_callSi (Y' := mX6_bits) (as := [_]) (pc := 58) dX6_rivals_58 rfl (by decide : 0 < 6) ml_RX6_238 sm_X6_bits mk_X6_bits (Nat.le_of_ble_eq_true rfl) (c_X6_bits (s := (s : Int)) (by omega)) (fun z_ μ_ hq => ?_)
    obtain ⟨rfl, hμ_⟩ := hq
    have hμ_ := hμ_.symm
    subst hμ_
    refine P_iload_n (pc := 61) dX6_rivals_61 rfl 2 rfl ?_
    refine P_icmp_ne (tgt := 77) (pc := 62) dX6_rivals_62 (by decide) (by unfold InR; omega) (by unfold InR; omega) (fun c_62 => ?_) (fun c_62 => ?_)
    · refine P_iinc (L' := [(4, vi _), (0, vr 0), (1, vi _), (3, vi _)]) (pc := 77) dX6_rivals_77 (by decide) 3 rfl rfl ?_
      refine P_goto (tgt := 45) (pc := 80) dX6_rivals_80 (by decide) ?_
      refine P_sub (L' := [(0, vr 0), (1, vi _), (3, vi _), (4, vi _)]) [1, 2, 3, 0] rfl ?_
      refine P_cast (L' := [(0, vr 0), (1, vi h), (3, vi (z : Int)), (4, vi ((s + 1 : Nat) : Int))]) rfl rfl (ih (s + 1) (by omega) (by omega) (fun i hi => ?_))
      rcases Nat.lt_or_ge i s with q | q
      · exact hB i q
      · have e : i = s := by omega
        subst e
        rw [g7]
        clear ih hB
        grind
    · refine P_aload_n (pc := 65) dX6_rivals_65 rfl 0 rfl ?_
      refine P_iload (pc := 66) dX6_rivals_66 3 rfl ?_
      refine P_callVi (Y' := mX6_areRivals) (as := [_]) (pc := 68) dX6_rivals_68 rfl (by decide : 0 < 6) sM_0 rfl ml_RX6_261 im_X6_areRivals se_X6_areRivals mk_X6_areRivals (Nat.le_of_ble_eq_true rfl) (c_X6_areRivals hK hL (by omega)) (fun z_ μ_ hq => ?_)
      obtain ⟨hzr, hμ_⟩ := hq
      have hμ_ := hμ_.symm
      subst hμ_
      have hzr : z_ = 0 ∧ rivB K F h s = false ∨ z_ = 1 ∧ rivB K F h s = true := by rw [hzr]; cases rivB K F h s <;> simp
      refine P_if_eq (tgt := 77) (pc := 71) dX6_rivals_71 (by decide) (by unfold InR; omega) (fun c_71 => ?_) (fun c_71 => ?_)
      · refine P_iinc (L' := [(4, vi _), (0, vr 0), (1, vi _), (3, vi _)]) (pc := 77) dX6_rivals_77 (by decide) 3 rfl rfl ?_
        refine P_goto (tgt := 45) (pc := 80) dX6_rivals_80 (by decide) ?_
        refine P_sub (L' := [(0, vr 0), (1, vi _), (3, vi _), (4, vi _)]) [1, 2, 3, 0] rfl ?_
        refine P_cast (L' := [(0, vr 0), (1, vi h), (3, vi (z : Int)), (4, vi ((s + 1 : Nat) : Int))]) rfl rfl (ih (s + 1) (by omega) (by omega) (fun i hi => ?_))
        rcases Nat.lt_or_ge i s with q | q
        · exact hB i q
        · have e : i = s := by omega
          subst e
          rw [g7]
          clear ih hB
          grind
      · refine P_iload (pc := 74) dX6_rivals_74 3 rfl ?_
        exact P_iret (pc := 76) dX6_rivals_76 rfl (QI.mk (by first | (exfalso; omega) | (rw [← hz]; exact ⟨by rw [if_neg (by omega)], by rw [refW, if_neg (by omega)]; exact PM.rf⟩) | (rw [← hz]; exact ⟨by rw [if_pos (by omega), if_pos (by omega)], by rw [refW, if_pos (by omega)]; exact hP⟩) | (refine ⟨?_, hP⟩; rw [hR, show 4 - z = (3 - z) + 1 by omega]; refine (rivR_some (rivP_some hB (by omega) ?_)).symm; rw [g7]; clear ih hB; grind) | (refine ⟨?_, hP⟩; have e9 : z = 4 := (by omega); rw [hR, e9]; rfl)))
set_option maxHeartbeats 1000000 in
set_option maxRecDepth 100000 in
theorem l_X6_rivals1 {μ ν : Mem} {K F : Cel} {h : Int} (hK : KOK K) (hL : LC K F 0 h ν) (hP : PM μ ν) (c11 : ν.1 0 11 = K 0 11) : ∀ (n z : Nat), 2 ≤ z → z ≤ 4 → 4 - z < n → rivR K F h 2 2 = rivR K F h (4 - z) z → PW shM 6 mX6_rivals 37 [(0, vr 0), (1, vi h), (3, vi (z : Int))] [] ν (QI (fun z' μ' => z' = rivR K F h 2 2 ∧ PM μ μ')) := by
  intro n
  induction n with
  | zero => intro z _ _ q; omega
  | succ n ih =>
  intro z hz2 hz4 hn hR
  refine P_iload_n (pc := 37) dX6_rivals_37 rfl 2 rfl ?_
  refine P_iconst (pc := 38) dX6_rivals_38 ?_
  refine P_icmp_ge (tgt := 89) (pc := 39) dX6_rivals_39 (by decide) (by unfold InR; omega) (by unfold InR; omega) (fun c_39 => ?_) (fun c_39 => ?_)
  · refine P_bipush (pc := 89) dX6_rivals_89 (by decide) ?_
    exact P_iret (pc := 91) dX6_rivals_91 rfl (QI.mk (by first | (exfalso; omega) | (rw [← hz]; exact ⟨by rw [if_neg (by omega)], by rw [refW, if_neg (by omega)]; exact PM.rf⟩) | (rw [← hz]; exact ⟨by rw [if_pos (by omega), if_pos (by omega)], by rw [refW, if_pos (by omega)]; exact hP⟩) | (refine ⟨?_, hP⟩; rw [hR, show 4 - z = (3 - z) + 1 by omega]; refine (rivR_some (rivP_some hB (by omega) ?_)).symm; rw [g7]; clear ih hB; grind) | (refine ⟨?_, hP⟩; have e9 : z = 4 := (by omega); rw [hR, e9]; rfl)))
  · refine P_iconst (pc := 42) dX6_rivals_42 ?_
    refine P_istore (L' := [(4, vi _), (0, vr 0), (1, vi _), (3, vi _)]) (pc := 43) dX6_rivals_43 (by decide) rfl ?_
    refine P_sub (L' := [(0, vr 0), (1, vi _), (3, vi _), (4, vi _)]) [1, 2, 3, 0] rfl ?_
    refine l_X6_rivals2 hK hL hP c11 (z := z) (by omega) hR ?_ (2 ^ (K 0 11).toNat + 1) 0 (Nat.zero_le _) (Nat.lt_succ_of_le (Nat.sub_le _ _)) (fun i hi => absurd hi (Nat.not_lt_zero i))
    · intro hin
      refine P_iinc (L' := [(3, vi _), (0, vr 0), (1, vi _)]) (pc := 83) dX6_rivals_83 (by decide) 2 rfl rfl ?_
      refine P_goto (tgt := 37) (pc := 86) dX6_rivals_86 (by decide) ?_
      refine P_sub (L' := [(0, vr 0), (1, vi _), (3, vi _)]) [1, 2, 0] rfl ?_
      refine P_cast (L' := [(0, vr 0), (1, vi h), (3, vi ((z + 1 : Nat) : Int))]) rfl rfl (ih (z + 1) (by omega) (by omega) (by omega) ?_)
      rw [hR, show 4 - z = (4 - (z + 1)) + 1 by omega]
      exact rivR_none (rivP_none hin)
set_option maxHeartbeats 1000000 in
set_option maxRecDepth 100000 in
theorem c_X6_rivals {μ : Mem} {K : Cel} {h : Int} (hk : kd μ.1 = K) (hK : KOK K) (hF : FOK μ.1) (hh : InR h) : PC shM 6 mX6_rivals [vr 0, vi h] (μ) (QI (fun z μ' => z = (if whyH h = 0 then (if leftN K μ.1 0 = 0 then -9 else rivR K μ.1 h 2 2) else whyH h) ∧ PM (refW μ (whyH h)) μ')) := by
  refine PC.of (by decide +kernel) (Nat.le_of_ble_eq_true rfl) ?_
  refine P_sub (L' := [(0, vr 0), (1, vi h)]) [0, 1] rfl ?_
  have hK1 := hK.1
  have hk11 : K 0 11 = μ.1 0 11 := by rw [← hk]; rfl
  have hn : InR (μ.1 0 11) := by unfold InR; omega
  have hle := leftN_le K μ.1 0
  refine P_iload_n (pc := 0) dX6_rivals_0 rfl 1 rfl ?_
  refine P_iconst (pc := 1) dX6_rivals_1 ?_
  refine P_bipush (pc := 2) dX6_rivals_2 (by decide) ?_
  refine P_callSi (Y' := mX6_out) (as := [_, _, _]) (pc := 4) dX6_rivals_4 rfl (by decide : 0 < 6) ml_RX6_121 sm_X6_out mk_X6_out (Nat.le_of_ble_eq_true rfl) (c_X6_out hh (by unfold InR; omega) (by unfold InR; omega)) (fun z_ μ_ hq => ?_)
  obtain ⟨hz, hμ_⟩ := hq
  have hμ_ := hμ_.symm
  subst hμ_
  have hz : z_ = whyH h := hz
  have hv := whyH_v h
  rw [← hz] at hv
  have hv0 : z_ = 0 → _ := fun e => whyH_0 (h := h) (hz ▸ e)
  refine P_istore_n (L' := [(2, vi _), (0, vr 0), (1, vi _)]) (pc := 7) dX6_rivals_7 rfl (by decide) rfl ?_
  refine P_iload_n (pc := 8) dX6_rivals_8 rfl 0 rfl ?_
  refine P_if_eq (tgt := 18) (pc := 9) dX6_rivals_9 (by decide) (by unfold InR; omega) (fun c_9 => ?_) (fun c_9 => ?_)
  · refine P_aload_n (pc := 18) dX6_rivals_18 rfl 1 rfl ?_
    refine P_iconst (pc := 19) dX6_rivals_19 ?_
    refine P_callVi (Y' := mX6_findLeft) (as := [_]) (pc := 20) dX6_rivals_20 rfl (by decide : 5 < 6) sM_0 rfl ml_RX6_241 im_X6_findLeft se_X6_findLeft mk_X6_findLeft (Nat.le_of_ble_eq_true rfl) (c_X6_findLeft hk hK hF (Or.inl rfl)) (fun z_ μ_ hq => ?_)
    obtain ⟨hzl, hP, hLF⟩ := hq
    refine P_if_ne (tgt := 29) (pc := 23) dX6_rivals_23 (by decide) (by unfold InR; omega) (fun c_23 => ?_) (fun c_23 => ?_)
    · refine P_aload_n (pc := 29) dX6_rivals_29 rfl 1 rfl ?_
      refine P_iload_n (pc := 30) dX6_rivals_30 rfl 2 rfl ?_
      refine P_iconst (pc := 31) dX6_rivals_31 ?_
      refine P_callVv (Y' := mX6_findClean) (as := [_, _]) (pc := 32) dX6_rivals_32 rfl (by decide : 5 < 6) sM_0 rfl ml_RX6_254 im_X6_findClean se_X6_findClean mk_X6_findClean (Nat.le_of_ble_eq_true rfl) (c_X6_findClean ((PM_kd hP).trans hk) hK (Or.inl rfl) (by omega) hLF) (fun μ_ hq => ?_)
      obtain ⟨hP2, hLC⟩ := hq
      have hP := hP.tr hP2
      refine P_iconst (pc := 35) dX6_rivals_35 ?_
      refine P_istore_n (L' := [(3, vi _), (2, vi _), (0, vr 0), (1, vi _)]) (pc := 36) dX6_rivals_36 rfl (by decide) rfl ?_
      refine P_sub (L' := [(0, vr 0), (1, vi _), (3, vi _)]) [2, 3, 0] rfl ?_
      have c11 : μ_.1 0 11 = K 0 11 := by rw [hP.num 11 (by decide), hk11]
      refine P_post (Q' := (QI (fun z μ' => z = rivR K μ.1 h 2 2 ∧ PM μ μ'))) (fun r μ' hq => ?_) (l_X6_rivals1 hK hLC hP c11 3 2 (by omega) (by omega) (by omega) rfl)
      obtain ⟨z9, hr9, hz9, hP9⟩ := hq
      refine ⟨z9, hr9, ?_, ?_⟩
      · rw [← hz, if_pos (by omega), if_neg (by omega)]; exact hz9
      · rw [← hz, refW, if_pos (by omega)]; exact hP9
    · refine P_bipush (pc := 26) dX6_rivals_26 (by decide) ?_
      exact P_iret (pc := 28) dX6_rivals_28 rfl (QI.mk (by first | (exfalso; omega) | (rw [← hz]; exact ⟨by rw [if_neg (by omega)], by rw [refW, if_neg (by omega)]; exact PM.rf⟩) | (rw [← hz]; exact ⟨by rw [if_pos (by omega), if_pos (by omega)], by rw [refW, if_pos (by omega)]; exact hP⟩) | (refine ⟨?_, hP⟩; rw [hR, show 4 - z = (3 - z) + 1 by omega]; refine (rivR_some (rivP_some hB (by omega) ?_)).symm; rw [g7]; clear ih hB; grind) | (refine ⟨?_, hP⟩; have e9 : z = 4 := (by omega); rw [hR, e9]; rfl)))
  · refine P_aload_n (pc := 12) dX6_rivals_12 rfl 1 rfl ?_
    refine P_iload_n (pc := 13) dX6_rivals_13 rfl 0 rfl ?_
    refine P_callVi (Y' := mX6_no) (as := [_]) (pc := 14) dX6_rivals_14 rfl (by decide : 0 < 6) sM_0 rfl ml_RX6_109 im_X6_no se_X6_no mk_X6_no (Nat.le_of_ble_eq_true rfl) (c_X6_no (by omega)) (fun z_ μ_ hq => ?_)
    obtain ⟨rfl, hμ_⟩ := hq
    have hμ_ := hμ_.symm
    subst hμ_
    exact P_iret (pc := 17) dX6_rivals_17 rfl (QI.mk (by first | (exfalso; omega) | (rw [← hz]; exact ⟨by rw [if_neg (by omega)], by rw [refW, if_neg (by omega)]; exact PM.rf⟩) | (rw [← hz]; exact ⟨by rw [if_pos (by omega), if_pos (by omega)], by rw [refW, if_pos (by omega)]; exact hP⟩) | (refine ⟨?_, hP⟩; rw [hR, show 4 - z = (3 - z) + 1 by omega]; refine (rivR_some (rivP_some hB (by omega) ?_)).symm; rw [g7]; clear ih hB; grind) | (refine ⟨?_, hP⟩; have e9 : z = 4 := (by omega); rw [hR, e9]; rfl)))
