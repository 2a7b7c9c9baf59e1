def wsA (K : Cel) (s : Nat) (t : Int) (X : Cel) : Cel := if s.testBit t.toNat = true then doesX K X 5 t (-9) 0 else X
def wshX (K : Cel) (w till : Int) (s : Nat) : Cel := upN (goesX K (srcX K) w) (till + 1) (47 - till).toNat (upN (wsA K s) 0 8 (simX K w till 0))
theorem XOK_wsA {K X : Cel} (h : XOK X) {s : Nat} {t : Int} : XOK (wsA K s t X) := by
  unfold wsA
  exact iteP (fun _ => XOK_does h (by omega) (by omega)) (fun _ => h)
theorem XOK_wsN {K X : Cel} (h : XOK X) {s : Nat} (n : Nat) : XOK (upN (wsA K s) 0 n X) := upN_inv XOK _ _ _ h n (fun m y _ hy => XOK_wsA hy) n (Nat.le_refl n)
theorem XOK_goN {K X : Cel} {S : Int → Int} {w a : Int} (hX : XOK X) (hK : KOK K) (n : Nat) : XOK (upN (goesX K S w) a n X) := upN_inv XOK _ _ _ hX n (fun m y _ hy => XOK_goes hy hK) n (Nat.le_refl n)
def enB (K F : Cel) (till : Int) (s th : Nat) : Bool := allF (fun w => !(leftB K F 0 w) || decide (clN (wshX K (w : Int) till s) (K 0 11).toNat &&& th = th)) 64
theorem enB_f {K F : Cel} {till : Int} {s th j : Nat} (hj : j < 64) (h1 : leftB K F 0 j = true) (h2 : clN (wshX K (j : Int) till s) (K 0 11).toNat &&& th ≠ th) : enB K F till s th = false := by
  cases e : enB K F till s th with
  | false => rfl
  | true =>
    have h3 := (allF_iff.mp e) j hj
    simp [h1, h2] at h3
theorem enB_t {K F : Cel} {till : Int} {s th : Nat} (h : ∀ j, j < 64 → leftB K F 0 j = true → clN (wshX K (j : Int) till s) (K 0 11).toNat &&& th = th) : enB K F till s th = true := by
  refine allF_iff.mpr (fun i hi => ?_)
  cases e : leftB K F 0 i with
  | false => rfl
  | true => simp [h i hi e]
def wbestN (K F : Cel) (till : Int) (th : Nat) : Nat → Int
  | 0 => -9
  | s + 1 => if (wbestN K F till th s < 0 ∨ cnt31 s < cnt31 (wbestN K F till th s).toNat) ∧ enB K F till s th = true then (s : Int) else wbestN K F till th s
theorem wbestN_in (K F : Cel) (till : Int) (th : Nat) : ∀ s : Nat, -9 ≤ wbestN K F till th s ∧ wbestN K F till th s ≤ s
  | 0 => by simp [wbestN]
  | s + 1 => by
    have h := wbestN_in K F till th s
    simp only [wbestN]
    split <;> omega
def whyWs (A : Cel) (h th : Int) : Int := if h < 0 ∨ th < 0 then -4 else if th / 2 ^ (A 0 11).toNat ≠ 0 then -1 else if h > 47 then -6 else 0
set_option maxHeartbeats 1000000 in
set_option maxRecDepth 100000 in
theorem l_X6_isEnough1 {μ ν : Mem} {K F : Cel} {S : Int → Int} {till w : Int} {s th : Nat} (hk : kd ν.1 = K) (hK : KOK K) (hw : 0 ≤ w ∧ w < 64) (ht : 0 ≤ till ∧ till < 48) (hS : (∀ i : Int, 0 ≤ i → i < K 0 12 → S i = srcX K i)) (hs : s < 256) (kx : PW shM 5 mX6_isEnough 67 [(0, vr 0), (1, vi till), (2, vi (s : Int)), (3, vi (th : Int)), (4, vi w)] [] (setW ν S (upN (wsA K s) 0 8 (simX K w till 0))) (QI (fun z μ' => z = (if enB K F till s th = true then 1 else 0) ∧ PM μ μ' ∧ LF K F 0 μ'))) : ∀ (n j : Nat), j ≤ 8 → 8 - j < n → PW shM 5 mX6_isEnough 34 [(0, vr 0), (1, vi till), (2, vi (s : Int)), (3, vi (th : Int)), (4, vi w), (5, vi (j : Int))] [] (setW ν S (upN (wsA K s) 0 j (simX K w till 0))) (QI (fun z μ' => z = (if enB K F till s th = true then 1 else 0) ∧ PM μ μ' ∧ LF K F 0 μ')) := by
  intro n
  induction n with
  | zero => intro j _ q; omega
  | succ n ih =>
  intro j hj hn
  have d1 := wdiv (w := (s : Int)) (n := ((j : Int)).toNat) (by omega) (by omega)
  have gb := wbitN (u := j) (show (s : Int) = ((s : Nat) : Int) from rfl)
  have g1 := upN_s (wsA K s) 0 j (simX K w till 0)
  rw [show (0 : Int) + (j : Int) = (j : Int) by omega] at g1
  have g2 : wsA K s (j : Int) (upN (wsA K s) 0 j (simX K w till 0)) = if s.testBit j = true then doesX K (upN (wsA K s) 0 j (simX K w till 0)) 5 (j : Int) (-9) 0 else upN (wsA K s) 0 j (simX K w till 0) := rfl
  refine P_iload (pc := 34) dX6_isEnough_34 5 rfl ?_
  refine P_bipush (pc := 36) dX6_isEnough_36 (by decide) ?_
  refine P_icmp_ge (tgt := 67) (pc := 38) dX6_isEnough_38 (by decide) (by first | (unfold InR; omega) | (unfold InR; rcases g2 (by omega) with q2 | q2 <;> omega) | (rw [gb]; unfold InR; split <;> omega)) (by first | (unfold InR; omega) | (unfold InR; rcases g2 (by omega) with q2 | q2 <;> omega) | (rw [gb]; unfold InR; split <;> omega)) (fun c_38 => ?_) (fun c_38 => ?_)
  · refine P_sub (L' := [(0, vr 0), (1, vi _), (2, vi _), (3, vi _), (4, vi _)]) [0, 1, 2, 3, 4] rfl ?_
    have e9 : j = 8 := by omega
    subst e9
    exact kx
  · refine P_iload_n (pc := 41) dX6_isEnough_41 rfl 2 rfl ?_
    refine P_iload (pc := 42) dX6_isEnough_42 5 rfl ?_
    refine P_ishr (pc := 44) dX6_isEnough_44 (wI_shr _ (by omega) (by omega) (by omega) (by omega)) ?_
    refine P_iconst (pc := 45) dX6_isEnough_45 ?_
    refine P_iand (pc := 46) dX6_isEnough_46 (wI_and d1.1 d1.2 (by omega) (by omega)) ?_
    refine P_iconst (pc := 47) dX6_isEnough_47 ?_
    refine P_icmp_ne (tgt := 61) (pc := 48) dX6_isEnough_48 (by decide) (by first | (unfold InR; omega) | (unfold InR; rcases g2 (by omega) with q2 | q2 <;> omega) | (rw [gb]; unfold InR; split <;> omega)) (by first | (unfold InR; omega) | (unfold InR; rcases g2 (by omega) with q2 | q2 <;> omega) | (rw [gb]; unfold InR; split <;> omega)) (fun c_48 => ?_) (fun c_48 => ?_)
    · refine P_iinc (L' := [(5, vi _), (0, vr 0), (1, vi _), (2, vi _), (3, vi _), (4, vi _)]) (pc := 61) dX6_isEnough_61 (by decide) 5 rfl rfl ?_
      refine P_goto (tgt := 34) (pc := 64) dX6_isEnough_64 (by decide) ?_
      refine P_sub (L' := [(0, vr 0), (1, vi _), (2, vi _), (3, vi _), (4, vi _), (5, vi _)]) [1, 2, 3, 4, 5, 0] rfl ?_
      refine P_cast (L' := [(0, vr 0), (1, vi till), (2, vi (s : Int)), (3, vi (th : Int)), (4, vi w), (5, vi ((j + 1 : Nat) : Int))]) rfl ?_ (ih (j + 1) (by omega) (by omega))
      rw [gb] at c_48
      rw [g1, g2]
      first
        | (rw [if_pos (by clear ih kx; grind)]; done)
        | (rw [if_neg (by clear ih kx; grind)]; done)
    · refine P_aload_n (pc := 51) dX6_isEnough_51 rfl 0 rfl ?_
      refine P_iconst (pc := 52) dX6_isEnough_52 ?_
      refine P_iload (pc := 53) dX6_isEnough_53 5 rfl ?_
      refine P_bipush (pc := 55) dX6_isEnough_55 (by decide) ?_
      refine P_iconst (pc := 57) dX6_isEnough_57 ?_
      refine P_callVv (Y' := mX6_does) (as := [_, _, _, _]) (pc := 58) dX6_isEnough_58 rfl (by decide : 2 < 5) sM_0 rfl ml_RX6_211 im_X6_does se_X6_does mk_X6_does (Nat.le_of_ble_eq_true rfl) (c_does hk hK (XOK_wsN (XOK_sim hK (Or.inl rfl)) j) (by omega) (by omega) (by omega) (by omega)) (fun μ_ hq => ?_)
      subst hq
      refine P_iinc (L' := [(5, vi _), (0, vr 0), (1, vi _), (2, vi _), (3, vi _), (4, vi _)]) (pc := 61) dX6_isEnough_61 (by decide) 5 rfl rfl ?_
      refine P_goto (tgt := 34) (pc := 64) dX6_isEnough_64 (by decide) ?_
      refine P_sub (L' := [(0, vr 0), (1, vi _), (2, vi _), (3, vi _), (4, vi _), (5, vi _)]) [1, 2, 3, 4, 5, 0] rfl ?_
      refine P_cast (L' := [(0, vr 0), (1, vi till), (2, vi (s : Int)), (3, vi (th : Int)), (4, vi w), (5, vi ((j + 1 : Nat) : Int))]) rfl ?_ (ih (j + 1) (by omega) (by omega))
      rw [gb] at c_48
      rw [g1, g2]
      first
        | (rw [if_pos (by clear ih kx; grind)]; done)
        | (rw [if_neg (by clear ih kx; grind)]; done)
set_option maxHeartbeats 1000000 in
set_option maxRecDepth 100000 in
theorem l_X6_isEnough2 {μ ν : Mem} {K F : Cel} {S : Int → Int} {till w : Int} {s th : Nat} (hk : kd ν.1 = K) (hK : KOK K) (hw : 0 ≤ w ∧ w < 64) (ht : 0 ≤ till ∧ till < 48) (hS : (∀ i : Int, 0 ≤ i → i < K 0 12 → S i = srcX K i)) (kx : PW shM 5 mX6_isEnough 93 [(0, vr 0), (1, vi till), (2, vi (s : Int)), (3, vi (th : Int)), (4, vi w)] [] (setW ν S (wshX K w till s)) (QI (fun z μ' => z = (if enB K F till s th = true then 1 else 0) ∧ PM μ μ' ∧ LF K F 0 μ'))) : ∀ (n j : Nat) (h : Int), h = till + 1 + (j : Int) → j ≤ (47 - till).toNat → (47 - till).toNat - j < n → PW shM 5 mX6_isEnough 72 [(0, vr 0), (1, vi till), (2, vi (s : Int)), (3, vi (th : Int)), (4, vi w), (5, vi h)] [] (setW ν S (upN (goesX K (srcX K) w) (till + 1) j (upN (wsA K s) 0 8 (simX K w till 0)))) (QI (fun z μ' => z = (if enB K F till s th = true then 1 else 0) ∧ PM μ μ' ∧ LF K F 0 μ')) := by
  intro n
  induction n with
  | zero => intro j h _ _ q; omega
  | succ n ih =>
  intro j h hh hj hn
  have g1 := upN_s (goesX K (srcX K) w) (till + 1) j (upN (wsA K s) 0 8 (simX K w till 0))
  rw [← hh] at g1
  refine P_iload (pc := 72) dX6_isEnough_72 5 rfl ?_
  refine P_bipush (pc := 74) dX6_isEnough_74 (by decide) ?_
  refine P_icmp_gt (tgt := 93) (pc := 76) dX6_isEnough_76 (by decide) (by first | (unfold InR; omega) | (unfold InR; rcases g2 (by omega) with q2 | q2 <;> omega) | (rw [gb]; unfold InR; split <;> omega)) (by first | (unfold InR; omega) | (unfold InR; rcases g2 (by omega) with q2 | q2 <;> omega) | (rw [gb]; unfold InR; split <;> omega)) (fun c_76 => ?_) (fun c_76 => ?_)
  · refine P_sub (L' := [(0, vr 0), (1, vi _), (2, vi _), (3, vi _), (4, vi _)]) [0, 1, 2, 3, 4] rfl ?_
    have e9 : j = (47 - till).toNat := by omega
    rw [e9]
    exact kx
  · refine P_aload_n (pc := 79) dX6_isEnough_79 rfl 0 rfl ?_
    refine P_iload (pc := 80) dX6_isEnough_80 4 rfl ?_
    refine P_iload (pc := 82) dX6_isEnough_82 5 rfl ?_
    refine P_callVv (Y' := mX6_goes) (as := [_, _]) (pc := 84) dX6_isEnough_84 rfl (by decide : 3 < 5) sM_0 rfl ml_RX6_219 im_X6_goes se_X6_goes mk_X6_goes (Nat.le_of_ble_eq_true rfl) (c_goes hk hK (XOK_goN (XOK_wsN (XOK_sim hK (Or.inl rfl)) 8) hK j) hw (by omega) hS) (fun μ_ hq => ?_)
    subst hq
    refine P_iinc (L' := [(5, vi _), (0, vr 0), (1, vi _), (2, vi _), (3, vi _), (4, vi _)]) (pc := 87) dX6_isEnough_87 (by decide) 5 rfl rfl ?_
    refine P_goto (tgt := 72) (pc := 90) dX6_isEnough_90 (by decide) ?_
    refine P_sub (L' := [(0, vr 0), (1, vi _), (2, vi _), (3, vi _), (4, vi _), (5, vi _)]) [1, 2, 3, 4, 5, 0] rfl ?_
    rw [← g1]
    exact ih (j + 1) (h + 1) (by omega) (by omega) (by omega)
set_option maxHeartbeats 1000000 in
set_option maxRecDepth 100000 in
theorem l_X6_isEnough3 {μ : Mem} {K F : Cel} {till : Int} {s th : Nat} (hk : kd μ.1 = K) (hK : KOK K) (ht : 0 ≤ till ∧ till < 48) (hs : s < 256) (hth : th < 4096) : ∀ (n j : Nat) (w : Int) (ν : Mem), w = (j : Int) → j ≤ 64 → 64 - j < n → PM μ ν → LF K F 0 ν → (∀ i, i < j → leftB K F 0 i = true → clN (wshX K (i : Int) till s) (K 0 11).toNat &&& th = th) → PW shM 5 mX6_isEnough 3 [(0, vr 0), (1, vi till), (2, vi (s : Int)), (3, vi (th : Int)), (4, vi w)] [] ν (QI (fun z μ' => z = (if enB K F till s th = true then 1 else 0) ∧ PM μ μ' ∧ LF K F 0 μ')) := by
  intro n
  induction n with
  | zero => intro j w ν _ _ q; omega
  | succ n ih =>
  intro j w ν hw hj hn hP hL hB
  have g2 : j < 64 → _ := fun q => LF_l hL hw q
  have hk11 : K 0 11 = μ.1 0 11 := by rw [← hk]; rfl
  have g3 := clN_lt (wshX K w till s) (K 0 11).toNat
  have hk1 := hK.1
  have g4 : (2 : Nat) ^ (K 0 11).toNat ≤ 2 ^ 12 := Nat.pow_le_pow_right (by decide) (by omega)
  have g5 := Nat.and_le_right (n := clN (wshX K w till s) (K 0 11).toNat) (m := th)
  refine P_iload (pc := 3) dX6_isEnough_3 4 rfl ?_
  refine P_bipush (pc := 5) dX6_isEnough_5 (by decide) ?_
  refine P_icmp_ge (tgt := 111) (pc := 7) dX6_isEnough_7 (by decide) (by first | (unfold InR; omega) | (unfold InR; rcases g2 (by omega) with q2 | q2 <;> omega) | (rw [gb]; unfold InR; split <;> omega)) (by first | (unfold InR; omega) | (unfold InR; rcases g2 (by omega) with q2 | q2 <;> omega) | (rw [gb]; unfold InR; split <;> omega)) (fun c_7 => ?_) (fun c_7 => ?_)
  · refine P_iconst (pc := 111) dX6_isEnough_111 ?_
    exact P_zret (pc := 112) dX6_isEnough_112 rfl (by omega) (QI.mk (by first | (refine ⟨?_, PM_setW hP, LF_setW hL⟩; have hl : leftB K F 0 j = true := (by rcases g2 (by omega) with q2 | q2; omega; exact q2.2); have e9 : enB K F till s th = false := enB_f (j := j) (by omega) hl (by rw [← hw]; omega); simp only [e9]; rfl) | (have e9 : j = 64 := (by omega); subst e9; refine ⟨?_, hP, hL⟩; have e9 := enB_t hB; simp only [e9]; rfl)))
  · refine P_aload_n (pc := 10) dX6_isEnough_10 rfl 0 rfl ?_
    refine P_getR (pc := 11) dX6_isEnough_11 fa_RX6_77 sM_0 fM0_29 ?_
    refine P_iload (pc := 14) dX6_isEnough_14 4 rfl ?_
    refine P_zald (pc := 16) dX6_isEnough_16 sM_23 (by omega) (by omega) (by decide) ?_
    refine P_if_ne (tgt := 23) (pc := 17) dX6_isEnough_17 (by decide) (by first | (unfold InR; omega) | (unfold InR; rcases g2 (by omega) with q2 | q2 <;> omega) | (rw [gb]; unfold InR; split <;> omega)) (fun c_17 => ?_) (fun c_17 => ?_)
    · refine P_aload_n (pc := 23) dX6_isEnough_23 rfl 0 rfl ?_
      refine P_iload (pc := 24) dX6_isEnough_24 4 rfl ?_
      refine P_iload_n (pc := 26) dX6_isEnough_26 rfl 1 rfl ?_
      refine P_iconst (pc := 27) dX6_isEnough_27 ?_
      refine P_callVv (Y' := mX6_runs) (as := [_, _, _]) (pc := 28) dX6_isEnough_28 rfl (by decide : 4 < 5) sM_0 rfl ml_RX6_222 im_X6_runs se_X6_runs mk_X6_runs (Nat.le_of_ble_eq_true rfl) (c_X6_runs ((PM_kd hP).trans hk) hK (Or.inl rfl) (by omega) (by omega)) (fun μ_ hq => ?_)
      obtain ⟨S, hS, rfl⟩ := hq
      refine P_iconst (pc := 31) dX6_isEnough_31 ?_
      refine P_istore (L' := [(5, vi _), (0, vr 0), (1, vi _), (2, vi _), (3, vi _), (4, vi _)]) (pc := 32) dX6_isEnough_32 (by decide) rfl ?_
      refine P_sub (L' := [(0, vr 0), (1, vi _), (2, vi _), (3, vi _), (4, vi _), (5, vi _)]) [1, 2, 3, 4, 5, 0] rfl ?_
      refine l_X6_isEnough1 (μ := μ) (F := F) (th := th) ((PM_kd hP).trans hk) hK (by omega) ht hS hs ?_ 9 0 (by omega) (by omega)
      · skip
        refine P_iload_n (pc := 67) dX6_isEnough_67 rfl 1 rfl ?_
        refine P_iconst (pc := 68) dX6_isEnough_68 ?_
        refine P_iadd (pc := 69) dX6_isEnough_69 ?_
        refine P_istore (L' := [(5, vi _), (0, vr 0), (1, vi _), (2, vi _), (3, vi _), (4, vi _)]) (pc := 70) dX6_isEnough_70 (by decide) rfl ?_
        refine P_sub (L' := [(0, vr 0), (1, vi _), (2, vi _), (3, vi _), (4, vi _), (5, vi _)]) [1, 2, 3, 4, 5, 0] rfl ?_
        refine l_X6_isEnough2 (μ := μ) (F := F) (th := th) ((PM_kd hP).trans hk) hK (by omega) ht hS ?_ ((47 - till).toNat + 1) 0 (till + 1) (by omega) (Nat.zero_le _) (by omega)
        · skip
          refine P_aload_n (pc := 93) dX6_isEnough_93 rfl 0 rfl ?_
          refine P_callVi (Y' := mX6_cleanNow) (as := []) (pc := 94) dX6_isEnough_94 rfl (by decide : 0 < 5) sM_0 rfl ml_RX6_248 im_X6_cleanNow se_X6_cleanNow mk_X6_cleanNow (Nat.le_of_ble_eq_true rfl) (c_X6_cleanNow (X := wshX K w till s) (XOK_goN (XOK_wsN (XOK_sim hK (Or.inl rfl)) 8) hK _) rfl (by simp only [wo_11]; rw [hP.num 11 (by decide), ← hk11]; exact hK.1)) (fun z_ μ_ hq => ?_)
          obtain ⟨hz, hμ_⟩ := hq
          have hμ_ := hμ_.symm
          subst hμ_
          simp only [wo_11] at hz
          rw [hP.num 11 (by decide), ← hk11] at hz
          subst hz
          refine P_iload_n (pc := 97) dX6_isEnough_97 rfl 3 rfl ?_
          refine P_iand (pc := 98) dX6_isEnough_98 (wN_and) ?_
          refine P_iload_n (pc := 99) dX6_isEnough_99 rfl 3 rfl ?_
          refine P_icmp_eq (tgt := 105) (pc := 100) dX6_isEnough_100 (by decide) (by first | (unfold InR; omega) | (unfold InR; rcases g2 (by omega) with q2 | q2 <;> omega) | (rw [gb]; unfold InR; split <;> omega)) (by first | (unfold InR; omega) | (unfold InR; rcases g2 (by omega) with q2 | q2 <;> omega) | (rw [gb]; unfold InR; split <;> omega)) (fun c_100 => ?_) (fun c_100 => ?_)
          · refine P_iinc (L' := [(4, vi _), (0, vr 0), (1, vi _), (2, vi _), (3, vi _)]) (pc := 105) dX6_isEnough_105 (by decide) 4 rfl rfl ?_
            refine P_goto (tgt := 3) (pc := 108) dX6_isEnough_108 (by decide) ?_
            refine P_sub (L' := [(0, vr 0), (1, vi _), (2, vi _), (3, vi _), (4, vi _)]) [1, 2, 3, 4, 0] rfl ?_
            first
              | (refine ih (j + 1) (w + 1) ν (by omega) (by omega) (by omega) hP hL (fun i hi hi2 => ?_)
                 rcases Nat.lt_or_ge i j with q | q
                 · exact hB i q hi2
                 · exfalso
                   have e : i = j := by omega
                   subst e
                   rcases g2 (by omega) with q2 | q2
                   · rw [q2.2] at hi2; cases hi2
                   · omega)
              | (refine ih (j + 1) (w + 1) _ (by omega) (by omega) (by omega) (PM_setW hP) (LF_setW hL) (fun i hi hi2 => ?_)
                 rcases Nat.lt_or_ge i j with q | q
                 · exact hB i q hi2
                 · have e : i = j := by omega
                   subst e
                   rw [← hw]
                   omega)
          · refine P_iconst (pc := 103) dX6_isEnough_103 ?_
            exact P_zret (pc := 104) dX6_isEnough_104 rfl (by omega) (QI.mk (by first | (refine ⟨?_, PM_setW hP, LF_setW hL⟩; have hl : leftB K F 0 j = true := (by rcases g2 (by omega) with q2 | q2; omega; exact q2.2); have e9 : enB K F till s th = false := enB_f (j := j) (by omega) hl (by rw [← hw]; omega); simp only [e9]; rfl) | (have e9 : j = 64 := (by omega); subst e9; refine ⟨?_, hP, hL⟩; have e9 := enB_t hB; simp only [e9]; rfl)))
    · refine P_goto (tgt := 105) (pc := 20) dX6_isEnough_20 (by decide) ?_
      refine P_iinc (L' := [(4, vi _), (0, vr 0), (1, vi _), (2, vi _), (3, vi _)]) (pc := 105) dX6_isEnough_105 (by decide) 4 rfl rfl ?_
      refine P_goto (tgt := 3) (pc := 108) dX6_isEnough_108 (by decide) ?_
      refine P_sub (L' := [(0, vr 0), (1, vi _), (2, vi _), (3, vi _), (4, vi _)]) [1, 2, 3, 4, 0] rfl ?_
      first
        | (refine ih (j + 1) (w + 1) ν (by omega) (by omega) (by omega) hP hL (fun i hi hi2 => ?_)
           rcases Nat.lt_or_ge i j with q | q
           · exact hB i q hi2
           · exfalso
             have e : i = j := by omega
             subst e
             rcases g2 (by omega) with q2 | q2
             · rw [q2.2] at hi2; cases hi2
             · omega)
        | (refine ih (j + 1) (w + 1) _ (by omega) (by omega) (by omega) (PM_setW hP) (LF_setW hL) (fun i hi hi2 => ?_)
           rcases Nat.lt_or_ge i j with q | q
           · exact hB i q hi2
           · have e : i = j := by omega
             subst e
             rw [← hw]
             omega)
set_option maxHeartbeats 1000000 in
set_option maxRecDepth 100000 in
theorem c_X6_isEnough {μ : Mem} {K : Cel} {F : Cel} {till : Int} {s th : Nat} (hk : kd μ.1 = K) (hK : KOK K) (ht : 0 ≤ till ∧ till < 48) (hs : s < 256) (hth : th < 4096) (hLF : LF K F 0 μ) : PC shM 5 mX6_isEnough [vr 0, vi till, vi (s : Int), vi (th : Int)] (μ) (QI (fun z μ' => z = (if enB K F till s th = true then 1 else 0) ∧ PM μ μ' ∧ LF K F 0 μ')) := by
  refine PC.of (by decide +kernel) (Nat.le_of_ble_eq_true rfl) ?_
  refine P_sub (L' := [(0, vr 0), (1, vi till), (2, vi (s : Int)), (3, vi (th : Int))]) [0, 1, 2, 3] rfl ?_
  refine P_iconst (pc := 0) dX6_isEnough_0 ?_
  refine P_istore (L' := [(4, vi _), (0, vr 0), (1, vi _), (2, vi _), (3, vi _)]) (pc := 1) dX6_isEnough_1 (by decide) rfl ?_
  refine P_sub (L' := [(0, vr 0), (1, vi _), (2, vi _), (3, vi _), (4, vi _)]) [1, 2, 3, 4, 0] rfl ?_
  exact l_X6_isEnough3 hk hK ht hs hth 65 0 0 μ rfl (by omega) (by omega) PM.rf hLF (fun i hi => absurd hi (Nat.not_lt_zero i))
