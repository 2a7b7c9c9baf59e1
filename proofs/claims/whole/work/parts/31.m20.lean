theorem wN_shl1N {t : Nat} (h : t < 31) : Int32.ofInt 1 <<< (Int32.ofInt (t : Int) &&& 31) = Int32.ofInt ((2 ^ t : Nat) : Int) := wN_shl1 (t := (t : Int)) (by omega) (by omega)
theorem wbestN_s {K F : Cel} {till : Int} {th : Nat} (s : Nat) : wbestN K F till th (s + 1) = if (wbestN K F till th s < 0 ∨ cnt31 s < cnt31 (wbestN K F till th s).toNat) ∧ enB K F till s th = true then (s : Int) else wbestN K F till th s := rfl
theorem washT {t T : Int} (h0 : 0 ≤ t) (hT : 0 ≤ T ∧ T ≤ 12) (h : t / 2 ^ T.toNat = 0) : t.toNat < 4096 := by
  have hp : (0 : Int) < 2 ^ T.toNat := Int.pow_pos (by omega)
  have h1 : t < 2 ^ T.toNat := by
    have := Int.lt_ediv_add_one_mul_self t hp
    rw [h] at this
    omega
  have h2 : ((2 : Int) ^ T.toNat).toNat ≤ 2 ^ 12 := by rw [pow2T]; exact Nat.pow_le_pow_right (by decide) (by omega)
  omega
set_option maxHeartbeats 1000000 in
set_option maxRecDepth 100000 in
theorem l_X6_washing {μ : Mem} {K F : Cel} {till : Int} {th mst : Nat} (hk : kd μ.1 = K) (hK : KOK K) (ht : 0 ≤ till ∧ till < 48) (hth : th < 4096) (hm : mst ≤ 8) : ∀ (n s : Nat) (ν : Mem), s ≤ 2 ^ mst → 2 ^ mst - s < n → PM μ ν → LF K F 0 ν → PW shM 6 mX6_washing 87 [(0, vr 0), (1, vi till), (2, vi (th : Int)), (4, vi (wbestN K F till th s)), (5, vi (mst : Int)), (6, vi (s : Int))] [] ν (QI (fun z' μ' => z' = wbestN K F till th (2 ^ mst) ∧ PM μ μ')) := by
  intro n
  induction n with
  | zero => intro s ν _ q; omega
  | succ n ih =>
  intro s ν hs hn hP hLF
  have g1 : (2 : Nat) ^ mst ≤ 2 ^ 8 := Nat.pow_le_pow_right (by decide) hm
  have g2 := wbestN_in K F till th s
  have g3 := cnt31_le s
  have g4 := cnt31_le (wbestN K F till th s).toNat
  have g5 := wbestN_s (K := K) (F := F) (till := till) (th := th) s
  have g6 : ((mst : Int)).toNat = mst := Int.toNat_natCast mst
  have g7 : cnt (fun k => ((s : Int)).toNat.testBit k) 31 = cnt31 s := rfl
  have g8 : cnt (fun k => (wbestN K F till th s).toNat.testBit k) 31 = cnt31 (wbestN K F till th s).toNat := rfl
  refine P_iload (pc := 87) dX6_washing_87 5 rfl ?_
  refine P_iconst (pc := 89) dX6_washing_89 ?_
  refine P_iload (pc := 90) dX6_washing_90 4 rfl ?_
  refine P_ishl (pc := 92) dX6_washing_92 (wN_shl1N (by omega)) ?_
  refine P_icmp_ge (tgt := 135) (pc := 93) dX6_washing_93 (by decide) (by first | assumption | (unfold InR; omega)) (by first | assumption | (unfold InR; omega)) (fun c_93 => ?_) (fun c_93 => ?_)
  · refine P_iload (pc := 135) dX6_washing_135 3 rfl ?_
    exact P_iret (pc := 137) dX6_washing_137 rfl (QI.mk (by first | (exfalso; omega) | (have hwy : whyWs μ.1 h th = -4 := (by unfold whyWs; rw [if_pos (by omega)]); rw [hwy]; exact ⟨rfl, PM.rf⟩) | (have hwy : whyWs μ.1 h th = -1 := (by unfold whyWs; rw [if_neg (by omega), if_pos (by omega)]); rw [hwy]; exact ⟨rfl, PM.rf⟩) | (have hwy : whyWs μ.1 h th = -6 := (by unfold whyWs; rw [if_neg (by omega), if_neg (by omega), if_pos (by omega)]); rw [hwy]; exact ⟨rfl, PM.rf⟩) | (have hwy : whyWs μ.1 h th = 0 := (by unfold whyWs; rw [if_neg (by omega), if_neg (by omega), if_neg (by omega)]); rw [hwy]; exact ⟨by rw [if_pos rfl, if_pos (by omega)], hP⟩) | (have e9 : s = 2 ^ mst := (by omega); rw [← e9]; exact ⟨rfl, hP⟩)))
  · refine P_iload (pc := 96) dX6_washing_96 3 rfl ?_
    refine P_if_lt (tgt := 114) (pc := 98) dX6_washing_98 (by decide) (by first | assumption | (unfold InR; omega)) (fun c_98 => ?_) (fun c_98 => ?_)
    · refine P_aload_n (pc := 114) dX6_washing_114 rfl 0 rfl ?_
      refine P_iload_n (pc := 115) dX6_washing_115 rfl 1 rfl ?_
      refine P_iload (pc := 116) dX6_washing_116 5 rfl ?_
      refine P_iload_n (pc := 118) dX6_washing_118 rfl 2 rfl ?_
      refine P_callVi (Y' := mX6_isEnough) (as := [_, _, _]) (pc := 119) dX6_washing_119 rfl (by decide : 5 < 6) sM_0 rfl ml_RX6_267 im_X6_isEnough se_X6_isEnough mk_X6_isEnough (Nat.le_of_ble_eq_true rfl) (c_X6_isEnough ((PM_kd hP).trans hk) hK ht (by omega) hth hLF) (fun z_ μ_ hq => ?_)
      obtain ⟨hz, hP2, hLF2⟩ := hq
      have hz : z_ = 0 ∧ enB K F till s th = false ∨ z_ = 1 ∧ enB K F till s th = true := by rw [hz]; cases enB K F till s th <;> simp
      refine P_if_eq (tgt := 129) (pc := 122) dX6_washing_122 (by decide) (by first | assumption | (unfold InR; omega)) (fun c_122 => ?_) (fun c_122 => ?_)
      · refine P_iinc (L' := [(6, vi _), (0, vr 0), (1, vi _), (2, vi _), (4, vi _), (5, vi _)]) (pc := 129) dX6_washing_129 (by decide) 5 rfl rfl ?_
        refine P_goto (tgt := 87) (pc := 132) dX6_washing_132 (by decide) ?_
        refine P_sub (L' := [(0, vr 0), (1, vi _), (2, vi _), (4, vi _), (5, vi _), (6, vi _)]) [1, 2, 3, 4, 5, 0] rfl ?_
        first
          | (refine P_cast (L' := [(0, vr 0), (1, vi till), (2, vi (th : Int)), (4, vi (wbestN K F till th (s + 1))), (5, vi (mst : Int)), (6, vi ((s + 1 : Nat) : Int))]) ?_ rfl (ih (s + 1) _ (by omega) (by omega) (by first | exact hP.tr hP2 | exact hP) (by first | exact hLF2 | exact hLF))
             rw [g5]
             first
               | (rw [if_pos (by clear ih; grind)]; (try rfl); done)
               | (rw [if_neg (by clear ih; grind)]; (try rfl); done))
      · refine P_iload (pc := 125) dX6_washing_125 5 rfl ?_
        refine P_istore (L' := [(4, vi _), (0, vr 0), (1, vi _), (2, vi _), (5, vi _), (6, vi _)]) (pc := 127) dX6_washing_127 (by decide) rfl ?_
        refine P_iinc (L' := [(6, vi _), (4, vi _), (0, vr 0), (1, vi _), (2, vi _), (5, vi _)]) (pc := 129) dX6_washing_129 (by decide) 5 rfl rfl ?_
        refine P_goto (tgt := 87) (pc := 132) dX6_washing_132 (by decide) ?_
        refine P_sub (L' := [(0, vr 0), (1, vi _), (2, vi _), (4, vi _), (5, vi _), (6, vi _)]) [2, 3, 4, 1, 5, 0] rfl ?_
        first
          | (refine P_cast (L' := [(0, vr 0), (1, vi till), (2, vi (th : Int)), (4, vi (wbestN K F till th (s + 1))), (5, vi (mst : Int)), (6, vi ((s + 1 : Nat) : Int))]) ?_ rfl (ih (s + 1) _ (by omega) (by omega) (by first | exact hP.tr hP2 | exact hP) (by first | exact hLF2 | exact hLF))
             rw [g5]
             first
               | (rw [if_pos (by clear ih; grind)]; (try rfl); done)
               | (rw [if_neg (by clear ih; grind)]; (try rfl); done))
    · refine P_iload (pc := 101) dX6_washing_101 5 rfl ?_
      refine P_callSi (Y' := mX6_bits) (as := [_]) (pc := 103) dX6_washing_103 rfl (by decide : 0 < 6) ml_RX6_238 sm_X6_bits mk_X6_bits (Nat.le_of_ble_eq_true rfl) (c_X6_bits (by omega)) (fun z_ μ_ hq => ?_)
      obtain ⟨rfl, hμ_⟩ := hq
      have hμ_ := hμ_.symm
      subst hμ_
      refine P_iload (pc := 106) dX6_washing_106 3 rfl ?_
      refine P_callSi (Y' := mX6_bits) (as := [_]) (pc := 108) dX6_washing_108 rfl (by decide : 0 < 6) ml_RX6_238 sm_X6_bits mk_X6_bits (Nat.le_of_ble_eq_true rfl) (c_X6_bits (by omega)) (fun z_ μ_ hq => ?_)
      obtain ⟨rfl, hμ_⟩ := hq
      have hμ_ := hμ_.symm
      subst hμ_
      refine P_icmp_ge (tgt := 129) (pc := 111) dX6_washing_111 (by decide) (by first | assumption | (unfold InR; omega)) (by first | assumption | (unfold InR; omega)) (fun c_111 => ?_) (fun c_111 => ?_)
      · refine P_iinc (L' := [(6, vi _), (0, vr 0), (1, vi _), (2, vi _), (4, vi _), (5, vi _)]) (pc := 129) dX6_washing_129 (by decide) 5 rfl rfl ?_
        refine P_goto (tgt := 87) (pc := 132) dX6_washing_132 (by decide) ?_
        refine P_sub (L' := [(0, vr 0), (1, vi _), (2, vi _), (4, vi _), (5, vi _), (6, vi _)]) [1, 2, 3, 4, 5, 0] rfl ?_
        first
          | (refine P_cast (L' := [(0, vr 0), (1, vi till), (2, vi (th : Int)), (4, vi (wbestN K F till th (s + 1))), (5, vi (mst : Int)), (6, vi ((s + 1 : Nat) : Int))]) ?_ rfl (ih (s + 1) _ (by omega) (by omega) (by first | exact hP.tr hP2 | exact hP) (by first | exact hLF2 | exact hLF))
             rw [g5]
             first
               | (rw [if_pos (by clear ih; grind)]; (try rfl); done)
               | (rw [if_neg (by clear ih; grind)]; (try rfl); done))
      · refine P_aload_n (pc := 114) dX6_washing_114 rfl 0 rfl ?_
        refine P_iload_n (pc := 115) dX6_washing_115 rfl 1 rfl ?_
        refine P_iload (pc := 116) dX6_washing_116 5 rfl ?_
        refine P_iload_n (pc := 118) dX6_washing_118 rfl 2 rfl ?_
        refine P_callVi (Y' := mX6_isEnough) (as := [_, _, _]) (pc := 119) dX6_washing_119 rfl (by decide : 5 < 6) sM_0 rfl ml_RX6_267 im_X6_isEnough se_X6_isEnough mk_X6_isEnough (Nat.le_of_ble_eq_true rfl) (c_X6_isEnough ((PM_kd hP).trans hk) hK ht (by omega) hth hLF) (fun z_ μ_ hq => ?_)
        obtain ⟨hz, hP2, hLF2⟩ := hq
        have hz : z_ = 0 ∧ enB K F till s th = false ∨ z_ = 1 ∧ enB K F till s th = true := by rw [hz]; cases enB K F till s th <;> simp
        refine P_if_eq (tgt := 129) (pc := 122) dX6_washing_122 (by decide) (by first | assumption | (unfold InR; omega)) (fun c_122 => ?_) (fun c_122 => ?_)
        · refine P_iinc (L' := [(6, vi _), (0, vr 0), (1, vi _), (2, vi _), (4, vi _), (5, vi _)]) (pc := 129) dX6_washing_129 (by decide) 5 rfl rfl ?_
          refine P_goto (tgt := 87) (pc := 132) dX6_washing_132 (by decide) ?_
          refine P_sub (L' := [(0, vr 0), (1, vi _), (2, vi _), (4, vi _), (5, vi _), (6, vi _)]) [1, 2, 3, 4, 5, 0] rfl ?_
          first
            | (refine P_cast (L' := [(0, vr 0), (1, vi till), (2, vi (th : Int)), (4, vi (wbestN K F till th (s + 1))), (5, vi (mst : Int)), (6, vi ((s + 1 : Nat) : Int))]) ?_ rfl (ih (s + 1) _ (by omega) (by omega) (by first | exact hP.tr hP2 | exact hP) (by first | exact hLF2 | exact hLF))
               rw [g5]
               first
                 | (rw [if_pos (by clear ih; grind)]; (try rfl); done)
                 | (rw [if_neg (by clear ih; grind)]; (try rfl); done))
        · refine P_iload (pc := 125) dX6_washing_125 5 rfl ?_
          refine P_istore (L' := [(4, vi _), (0, vr 0), (1, vi _), (2, vi _), (5, vi _), (6, vi _)]) (pc := 127) dX6_washing_127 (by decide) rfl ?_
          refine P_iinc (L' := [(6, vi _), (4, vi _), (0, vr 0), (1, vi _), (2, vi _), (5, vi _)]) (pc := 129) dX6_washing_129 (by decide) 5 rfl rfl ?_
          refine P_goto (tgt := 87) (pc := 132) dX6_washing_132 (by decide) ?_
          refine P_sub (L' := [(0, vr 0), (1, vi _), (2, vi _), (4, vi _), (5, vi _), (6, vi _)]) [2, 3, 4, 1, 5, 0] rfl ?_
          first
            | (refine P_cast (L' := [(0, vr 0), (1, vi till), (2, vi (th : Int)), (4, vi (wbestN K F till th (s + 1))), (5, vi (mst : Int)), (6, vi ((s + 1 : Nat) : Int))]) ?_ rfl (ih (s + 1) _ (by omega) (by omega) (by first | exact hP.tr hP2 | exact hP) (by first | exact hLF2 | exact hLF))
               rw [g5]
               first
                 | (rw [if_pos (by clear ih; grind)]; (try rfl); done)
                 | (rw [if_neg (by clear ih; grind)]; (try rfl); done))
set_option maxHeartbeats 1000000 in
set_option maxRecDepth 100000 in
theorem c_X6_washing {μ : Mem} {K : Cel} {h th : Int} (hk : kd μ.1 = K) (hK : KOK K) (hF : FOK μ.1) (hh : InR h) (hth : InR th) : PC shM 6 mX6_washing [vr 0, vi h, vi (th : Int)] (μ) (QI (fun z μ' => z = (if whyWs μ.1 h th = 0 then (if leftN K μ.1 0 = 0 then -9 else wbestN K μ.1 h th.toNat (2 ^ (if K 0 11 < 8 then (K 0 11).toNat else 8))) else whyWs μ.1 h th) ∧ PM (refW μ (whyWs μ.1 h th)) μ')) := by
  refine PC.of (by decide +kernel) (Nat.le_of_ble_eq_true rfl) ?_
  refine P_sub (L' := [(0, vr 0), (1, vi h), (2, vi (th : Int))]) [0, 1, 2] rfl ?_
  have hK1 := hK.1
  have hk11 : K 0 11 = μ.1 0 11 := by rw [← hk]; rfl
  have hn : InR (μ.1 0 11) := by unfold InR; omega
  have hle := leftN_le K μ.1 0
  have d0 : 0 ≤ th → _ := fun q => wdiv (w := th) (n := (μ.1 0 11).toNat) q (by unfold InR at hth; omega)
  refine P_iload_n (pc := 0) dX6_washing_0 rfl 1 rfl ?_
  refine P_if_lt (tgt := 8) (pc := 1) dX6_washing_1 (by decide) (by first | assumption | (unfold InR; omega)) (fun c_1 => ?_) (fun c_1 => ?_)
  · refine P_bipush (pc := 8) dX6_washing_8 (by decide) ?_
    refine P_goto (tgt := 38) (pc := 10) dX6_washing_10 (by decide) ?_
    refine P_istore_n (L' := [(3, vi _), (0, vr 0), (1, vi _), (2, vi _)]) (pc := 38) dX6_washing_38 rfl (by decide) rfl ?_
    refine P_iload_n (pc := 39) dX6_washing_39 rfl 0 rfl ?_
    refine P_if_eq (tgt := 49) (pc := 40) dX6_washing_40 (by decide) (by first | assumption | (unfold InR; omega)) (fun c_40 => ?_) (fun c_40 => ?_)
    · refine P_aload_n (pc := 49) dX6_washing_49 rfl 1 rfl ?_
      refine P_iconst (pc := 50) dX6_washing_50 ?_
      refine P_callVi (Y' := mX6_findLeft) (as := [_]) (pc := 51) dX6_washing_51 rfl (by decide : 5 < 6) sM_0 rfl ml_RX6_241 im_X6_findLeft se_X6_findLeft mk_X6_findLeft (Nat.le_of_ble_eq_true rfl) (c_X6_findLeft hk hK hF (Or.inl rfl)) (fun z_ μ_ hq => ?_)
      obtain ⟨hzl, hP, hLF⟩ := hq
      refine P_if_ne (tgt := 60) (pc := 54) dX6_washing_54 (by decide) (by first | assumption | (unfold InR; omega)) (fun c_54 => ?_) (fun c_54 => ?_)
      · refine P_bipush (pc := 60) dX6_washing_60 (by decide) ?_
        refine P_istore (L' := [(4, vi _), (3, vi _), (0, vr 0), (1, vi _), (2, vi _)]) (pc := 62) dX6_washing_62 (by decide) rfl ?_
        refine P_aload_n (pc := 64) dX6_washing_64 rfl 2 rfl ?_
        refine P_getI (jj := 11) (pc := 65) dX6_washing_65 fa_RX6_101 sM_0 fM0_11 rfl ?_
        rw [hP.num 11 (by decide), ← hk11]
        refine P_bipush (pc := 68) dX6_washing_68 (by decide) ?_
        refine P_icmp_ge (tgt := 80) (pc := 70) dX6_washing_70 (by decide) (by first | assumption | (unfold InR; omega)) (by first | assumption | (unfold InR; omega)) (fun c_70 => ?_) (fun c_70 => ?_)
        · refine P_bipush (pc := 80) dX6_washing_80 (by decide) ?_
          refine P_istore (L' := [(5, vi _), (4, vi _), (3, vi _), (0, vr 0), (1, vi _), (2, vi _)]) (pc := 82) dX6_washing_82 (by decide) rfl ?_
          refine P_iconst (pc := 84) dX6_washing_84 ?_
          refine P_istore (L' := [(6, vi _), (5, vi _), (4, vi _), (3, vi _), (0, vr 0), (1, vi _), (2, vi _)]) (pc := 85) dX6_washing_85 (by decide) rfl ?_
          refine P_sub (L' := [(0, vr 0), (1, vi _), (2, vi _), (4, vi _), (5, vi _), (6, vi _)]) [4, 5, 6, 2, 1, 0] rfl ?_
          refine P_post (Q' := (QI (fun z μ' => z = wbestN K μ.1 h th.toNat (2 ^ (if K 0 11 < 8 then (K 0 11).toNat else 8)) ∧ PM μ μ'))) (fun r μ' hq => ?_) ?_
          · obtain ⟨z9, hr9, hz9, hP9⟩ := hq
            have hwy : whyWs μ.1 h th = 0 := by unfold whyWs; rw [if_neg (by omega), if_neg (by omega), if_neg (by omega)]
            refine ⟨z9, hr9, ?_, ?_⟩
            · rw [hwy, if_pos rfl, if_neg (by omega)]; exact hz9
            · rw [hwy]; exact hP9
          have hlt : th.toNat < 4096 := washT (T := μ.1 0 11) (by omega) (by omega) (by omega)
          first
            | (rw [if_pos (by omega)]
               refine P_cast (L' := [(0, vr 0), (1, vi h), (2, vi (th.toNat : Int)), (4, vi (wbestN K μ.1 h th.toNat 0)), (5, vi ((K 0 11).toNat : Int)), (6, vi ((0 : Nat) : Int))]) ?_ rfl (l_X6_washing hk hK (by omega) hlt (by omega) (2 ^ (K 0 11).toNat + 1) 0 _ (Nat.zero_le _) (Nat.lt_succ_of_le (Nat.sub_le _ _)) hP hLF)
               rw [Int.toNat_of_nonneg (by omega), Int.toNat_of_nonneg (by omega)]; rfl)
            | (rw [if_neg (by omega)]
               refine P_cast (L' := [(0, vr 0), (1, vi h), (2, vi (th.toNat : Int)), (4, vi (wbestN K μ.1 h th.toNat 0)), (5, vi ((8 : Nat) : Int)), (6, vi ((0 : Nat) : Int))]) ?_ rfl (l_X6_washing hk hK (by omega) hlt (by omega) (2 ^ 8 + 1) 0 _ (Nat.zero_le _) (Nat.lt_succ_of_le (Nat.sub_le _ _)) hP hLF)
               rw [Int.toNat_of_nonneg (by omega)]; rfl)
        · refine P_aload_n (pc := 73) dX6_washing_73 rfl 2 rfl ?_
          refine P_getI (jj := 11) (pc := 74) dX6_washing_74 fa_RX6_101 sM_0 fM0_11 rfl ?_
          rw [hP.num 11 (by decide), ← hk11]
          refine P_goto (tgt := 82) (pc := 77) dX6_washing_77 (by decide) ?_
          refine P_istore (L' := [(5, vi _), (4, vi _), (3, vi _), (0, vr 0), (1, vi _), (2, vi _)]) (pc := 82) dX6_washing_82 (by decide) rfl ?_
          refine P_iconst (pc := 84) dX6_washing_84 ?_
          refine P_istore (L' := [(6, vi _), (5, vi _), (4, vi _), (3, vi _), (0, vr 0), (1, vi _), (2, vi _)]) (pc := 85) dX6_washing_85 (by decide) rfl ?_
          refine P_sub (L' := [(0, vr 0), (1, vi _), (2, vi _), (4, vi _), (5, vi _), (6, vi _)]) [4, 5, 6, 2, 1, 0] rfl ?_
          refine P_post (Q' := (QI (fun z μ' => z = wbestN K μ.1 h th.toNat (2 ^ (if K 0 11 < 8 then (K 0 11).toNat else 8)) ∧ PM μ μ'))) (fun r μ' hq => ?_) ?_
          · obtain ⟨z9, hr9, hz9, hP9⟩ := hq
            have hwy : whyWs μ.1 h th = 0 := by unfold whyWs; rw [if_neg (by omega), if_neg (by omega), if_neg (by omega)]
            refine ⟨z9, hr9, ?_, ?_⟩
            · rw [hwy, if_pos rfl, if_neg (by omega)]; exact hz9
            · rw [hwy]; exact hP9
          have hlt : th.toNat < 4096 := washT (T := μ.1 0 11) (by omega) (by omega) (by omega)
          first
            | (rw [if_pos (by omega)]
               refine P_cast (L' := [(0, vr 0), (1, vi h), (2, vi (th.toNat : Int)), (4, vi (wbestN K μ.1 h th.toNat 0)), (5, vi ((K 0 11).toNat : Int)), (6, vi ((0 : Nat) : Int))]) ?_ rfl (l_X6_washing hk hK (by omega) hlt (by omega) (2 ^ (K 0 11).toNat + 1) 0 _ (Nat.zero_le _) (Nat.lt_succ_of_le (Nat.sub_le _ _)) hP hLF)
               rw [Int.toNat_of_nonneg (by omega), Int.toNat_of_nonneg (by omega)]; rfl)
            | (rw [if_neg (by omega)]
               refine P_cast (L' := [(0, vr 0), (1, vi h), (2, vi (th.toNat : Int)), (4, vi (wbestN K μ.1 h th.toNat 0)), (5, vi ((8 : Nat) : Int)), (6, vi ((0 : Nat) : Int))]) ?_ rfl (l_X6_washing hk hK (by omega) hlt (by omega) (2 ^ 8 + 1) 0 _ (Nat.zero_le _) (Nat.lt_succ_of_le (Nat.sub_le _ _)) hP hLF)
               rw [Int.toNat_of_nonneg (by omega)]; rfl)
      · refine P_bipush (pc := 57) dX6_washing_57 (by decide) ?_
        exact P_iret (pc := 59) dX6_washing_59 rfl (QI.mk (by first | (exfalso; omega) | (have hwy : whyWs μ.1 h th = -4 := (by unfold whyWs; rw [if_pos (by omega)]); rw [hwy]; exact ⟨rfl, PM.rf⟩) | (have hwy : whyWs μ.1 h th = -1 := (by unfold whyWs; rw [if_neg (by omega), if_pos (by omega)]); rw [hwy]; exact ⟨rfl, PM.rf⟩) | (have hwy : whyWs μ.1 h th = -6 := (by unfold whyWs; rw [if_neg (by omega), if_neg (by omega), if_pos (by omega)]); rw [hwy]; exact ⟨rfl, PM.rf⟩) | (have hwy : whyWs μ.1 h th = 0 := (by unfold whyWs; rw [if_neg (by omega), if_neg (by omega), if_neg (by omega)]); rw [hwy]; exact ⟨by rw [if_pos rfl, if_pos (by omega)], hP⟩) | (have e9 : s = 2 ^ mst := (by omega); rw [← e9]; exact ⟨rfl, hP⟩)))
    · refine P_aload_n (pc := 43) dX6_washing_43 rfl 1 rfl ?_
      refine P_iload_n (pc := 44) dX6_washing_44 rfl 0 rfl ?_
      refine P_callVi (Y' := mX6_no) (as := [_]) (pc := 45) dX6_washing_45 rfl (by decide : 0 < 6) sM_0 rfl ml_RX6_109 im_X6_no se_X6_no mk_X6_no (Nat.le_of_ble_eq_true rfl) (c_X6_no (by omega)) (fun z_ μ_ hq => ?_)
      obtain ⟨rfl, hμ_⟩ := hq
      have hμ_ := hμ_.symm
      subst hμ_
      exact P_iret (pc := 48) dX6_washing_48 rfl (QI.mk (by first | (exfalso; omega) | (have hwy : whyWs μ.1 h th = -4 := (by unfold whyWs; rw [if_pos (by omega)]); rw [hwy]; exact ⟨rfl, PM.rf⟩) | (have hwy : whyWs μ.1 h th = -1 := (by unfold whyWs; rw [if_neg (by omega), if_pos (by omega)]); rw [hwy]; exact ⟨rfl, PM.rf⟩) | (have hwy : whyWs μ.1 h th = -6 := (by unfold whyWs; rw [if_neg (by omega), if_neg (by omega), if_pos (by omega)]); rw [hwy]; exact ⟨rfl, PM.rf⟩) | (have hwy : whyWs μ.1 h th = 0 := (by unfold whyWs; rw [if_neg (by omega), if_neg (by omega), if_neg (by omega)]); rw [hwy]; exact ⟨by rw [if_pos rfl, if_pos (by omega)], hP⟩) | (have e9 : s = 2 ^ mst := (by omega); rw [← e9]; exact ⟨rfl, hP⟩)))
  · refine P_iload_n (pc := 4) dX6_washing_4 rfl 2 rfl ?_
    refine P_if_ge (tgt := 13) (pc := 5) dX6_washing_5 (by decide) (by first | assumption | (unfold InR; omega)) (fun c_5 => ?_) (fun c_5 => ?_)
    · refine P_iload_n (pc := 13) dX6_washing_13 rfl 2 rfl ?_
      refine P_aload_n (pc := 14) dX6_washing_14 rfl 0 rfl ?_
      refine P_getI (jj := 11) (pc := 15) dX6_washing_15 fa_RX6_101 sM_0 fM0_11 rfl ?_
      refine P_ishr (pc := 18) dX6_washing_18 (wI_shr _ (by omega) (by omega) (by omega) (by unfold InR at hth; omega)) ?_
      refine P_if_eq (tgt := 26) (pc := 19) dX6_washing_19 (by decide) (by first | assumption | (unfold InR; omega)) (fun c_19 => ?_) (fun c_19 => ?_)
      · refine P_iload_n (pc := 26) dX6_washing_26 rfl 1 rfl ?_
        refine P_bipush (pc := 27) dX6_washing_27 (by decide) ?_
        refine P_icmp_le (tgt := 37) (pc := 29) dX6_washing_29 (by decide) (by first | assumption | (unfold InR; omega)) (by first | assumption | (unfold InR; omega)) (fun c_29 => ?_) (fun c_29 => ?_)
        · refine P_iconst (pc := 37) dX6_washing_37 ?_
          refine P_istore_n (L' := [(3, vi _), (0, vr 0), (1, vi _), (2, vi _)]) (pc := 38) dX6_washing_38 rfl (by decide) rfl ?_
          refine P_iload_n (pc := 39) dX6_washing_39 rfl 0 rfl ?_
          refine P_if_eq (tgt := 49) (pc := 40) dX6_washing_40 (by decide) (by first | assumption | (unfold InR; omega)) (fun c_40 => ?_) (fun c_40 => ?_)
          · refine P_aload_n (pc := 49) dX6_washing_49 rfl 1 rfl ?_
            refine P_iconst (pc := 50) dX6_washing_50 ?_
            refine P_callVi (Y' := mX6_findLeft) (as := [_]) (pc := 51) dX6_washing_51 rfl (by decide : 5 < 6) sM_0 rfl ml_RX6_241 im_X6_findLeft se_X6_findLeft mk_X6_findLeft (Nat.le_of_ble_eq_true rfl) (c_X6_findLeft hk hK hF (Or.inl rfl)) (fun z_ μ_ hq => ?_)
            obtain ⟨hzl, hP, hLF⟩ := hq
            refine P_if_ne (tgt := 60) (pc := 54) dX6_washing_54 (by decide) (by first | assumption | (unfold InR; omega)) (fun c_54 => ?_) (fun c_54 => ?_)
            · refine P_bipush (pc := 60) dX6_washing_60 (by decide) ?_
              refine P_istore (L' := [(4, vi _), (3, vi _), (0, vr 0), (1, vi _), (2, vi _)]) (pc := 62) dX6_washing_62 (by decide) rfl ?_
              refine P_aload_n (pc := 64) dX6_washing_64 rfl 2 rfl ?_
              refine P_getI (jj := 11) (pc := 65) dX6_washing_65 fa_RX6_101 sM_0 fM0_11 rfl ?_
              rw [hP.num 11 (by decide), ← hk11]
              refine P_bipush (pc := 68) dX6_washing_68 (by decide) ?_
              refine P_icmp_ge (tgt := 80) (pc := 70) dX6_washing_70 (by decide) (by first | assumption | (unfold InR; omega)) (by first | assumption | (unfold InR; omega)) (fun c_70 => ?_) (fun c_70 => ?_)
              · refine P_bipush (pc := 80) dX6_washing_80 (by decide) ?_
                refine P_istore (L' := [(5, vi _), (4, vi _), (3, vi _), (0, vr 0), (1, vi _), (2, vi _)]) (pc := 82) dX6_washing_82 (by decide) rfl ?_
                refine P_iconst (pc := 84) dX6_washing_84 ?_
                refine P_istore (L' := [(6, vi _), (5, vi _), (4, vi _), (3, vi _), (0, vr 0), (1, vi _), (2, vi _)]) (pc := 85) dX6_washing_85 (by decide) rfl ?_
                refine P_sub (L' := [(0, vr 0), (1, vi _), (2, vi _), (4, vi _), (5, vi _), (6, vi _)]) [4, 5, 6, 2, 1, 0] rfl ?_
                refine P_post (Q' := (QI (fun z μ' => z = wbestN K μ.1 h th.toNat (2 ^ (if K 0 11 < 8 then (K 0 11).toNat else 8)) ∧ PM μ μ'))) (fun r μ' hq => ?_) ?_
                · obtain ⟨z9, hr9, hz9, hP9⟩ := hq
                  have hwy : whyWs μ.1 h th = 0 := by unfold whyWs; rw [if_neg (by omega), if_neg (by omega), if_neg (by omega)]
                  refine ⟨z9, hr9, ?_, ?_⟩
                  · rw [hwy, if_pos rfl, if_neg (by omega)]; exact hz9
                  · rw [hwy]; exact hP9
                have hlt : th.toNat < 4096 := washT (T := μ.1 0 11) (by omega) (by omega) (by omega)
                first
                  | (rw [if_pos (by omega)]
                     refine P_cast (L' := [(0, vr 0), (1, vi h), (2, vi (th.toNat : Int)), (4, vi (wbestN K μ.1 h th.toNat 0)), (5, vi ((K 0 11).toNat : Int)), (6, vi ((0 : Nat) : Int))]) ?_ rfl (l_X6_washing hk hK (by omega) hlt (by omega) (2 ^ (K 0 11).toNat + 1) 0 _ (Nat.zero_le _) (Nat.lt_succ_of_le (Nat.sub_le _ _)) hP hLF)
                     rw [Int.toNat_of_nonneg (by omega), Int.toNat_of_nonneg (by omega)]; rfl)
                  | (rw [if_neg (by omega)]
                     refine P_cast (L' := [(0, vr 0), (1, vi h), (2, vi (th.toNat : Int)), (4, vi (wbestN K μ.1 h th.toNat 0)), (5, vi ((8 : Nat) : Int)), (6, vi ((0 : Nat) : Int))]) ?_ rfl (l_X6_washing hk hK (by omega) hlt (by omega) (2 ^ 8 + 1) 0 _ (Nat.zero_le _) (Nat.lt_succ_of_le (Nat.sub_le _ _)) hP hLF)
                     rw [Int.toNat_of_nonneg (by omega)]; rfl)
              · refine P_aload_n (pc := 73) dX6_washing_73 rfl 2 rfl ?_
                refine P_getI (jj := 11) (pc := 74) dX6_washing_74 fa_RX6_101 sM_0 fM0_11 rfl ?_
                rw [hP.num 11 (by decide), ← hk11]
                refine P_goto (tgt := 82) (pc := 77) dX6_washing_77 (by decide) ?_
                refine P_istore (L' := [(5, vi _), (4, vi _), (3, vi _), (0, vr 0), (1, vi _), (2, vi _)]) (pc := 82) dX6_washing_82 (by decide) rfl ?_
                refine P_iconst (pc := 84) dX6_washing_84 ?_
                refine P_istore (L' := [(6, vi _), (5, vi _), (4, vi _), (3, vi _), (0, vr 0), (1, vi _), (2, vi _)]) (pc := 85) dX6_washing_85 (by decide) rfl ?_
                refine P_sub (L' := [(0, vr 0), (1, vi _), (2, vi _), (4, vi _), (5, vi _), (6, vi _)]) [4, 5, 6, 2, 1, 0] rfl ?_
                refine P_post (Q' := (QI (fun z μ' => z = wbestN K μ.1 h th.toNat (2 ^ (if K 0 11 < 8 then (K 0 11).toNat else 8)) ∧ PM μ μ'))) (fun r μ' hq => ?_) ?_
                · obtain ⟨z9, hr9, hz9, hP9⟩ := hq
                  have hwy : whyWs μ.1 h th = 0 := by unfold whyWs; rw [if_neg (by omega), if_neg (by omega), if_neg (by omega)]
                  refine ⟨z9, hr9, ?_, ?_⟩
                  · rw [hwy, if_pos rfl, if_neg (by omega)]; exact hz9
                  · rw [hwy]; exact hP9
                have hlt : th.toNat < 4096 := washT (T := μ.1 0 11) (by omega) (by omega) (by omega)
                first
                  | (rw [if_pos (by omega)]
                     refine P_cast (L' := [(0, vr 0), (1, vi h), (2, vi (th.toNat : Int)), (4, vi (wbestN K μ.1 h th.toNat 0)), (5, vi ((K 0 11).toNat : Int)), (6, vi ((0 : Nat) : Int))]) ?_ rfl (l_X6_washing hk hK (by omega) hlt (by omega) (2 ^ (K 0 11).toNat + 1) 0 _ (Nat.zero_le _) (Nat.lt_succ_of_le (Nat.sub_le _ _)) hP hLF)
                     rw [Int.toNat_of_nonneg (by omega), Int.toNat_of_nonneg (by omega)]; rfl)
                  | (rw [if_neg (by omega)]
                     refine P_cast (L' := [(0, vr 0), (1, vi h), (2, vi (th.toNat : Int)), (4, vi (wbestN K μ.1 h th.toNat 0)), (5, vi ((8 : Nat) : Int)), (6, vi ((0 : Nat) : Int))]) ?_ rfl (l_X6_washing hk hK (by omega) hlt (by omega) (2 ^ 8 + 1) 0 _ (Nat.zero_le _) (Nat.lt_succ_of_le (Nat.sub_le _ _)) hP hLF)
                     rw [Int.toNat_of_nonneg (by omega)]; rfl)
            · refine P_bipush (pc := 57) dX6_washing_57 (by decide) ?_
              exact P_iret (pc := 59) dX6_washing_59 rfl (QI.mk (by first | (exfalso; omega) | (have hwy : whyWs μ.1 h th = -4 := (by unfold whyWs; rw [if_pos (by omega)]); rw [hwy]; exact ⟨rfl, PM.rf⟩) | (have hwy : whyWs μ.1 h th = -1 := (by unfold whyWs; rw [if_neg (by omega), if_pos (by omega)]); rw [hwy]; exact ⟨rfl, PM.rf⟩) | (have hwy : whyWs μ.1 h th = -6 := (by unfold whyWs; rw [if_neg (by omega), if_neg (by omega), if_pos (by omega)]); rw [hwy]; exact ⟨rfl, PM.rf⟩) | (have hwy : whyWs μ.1 h th = 0 := (by unfold whyWs; rw [if_neg (by omega), if_neg (by omega), if_neg (by omega)]); rw [hwy]; exact ⟨by rw [if_pos rfl, if_pos (by omega)], hP⟩) | (have e9 : s = 2 ^ mst := (by omega); rw [← e9]; exact ⟨rfl, hP⟩)))
          · refine P_aload_n (pc := 43) dX6_washing_43 rfl 1 rfl ?_
            refine P_iload_n (pc := 44) dX6_washing_44 rfl 0 rfl ?_
            refine P_callVi (Y' := mX6_no) (as := [_]) (pc := 45) dX6_washing_45 rfl (by decide : 0 < 6) sM_0 rfl ml_RX6_109 im_X6_no se_X6_no mk_X6_no (Nat.le_of_ble_eq_true rfl) (c_X6_no (by omega)) (fun z_ μ_ hq => ?_)
            obtain ⟨rfl, hμ_⟩ := hq
            have hμ_ := hμ_.symm
            subst hμ_
            exact P_iret (pc := 48) dX6_washing_48 rfl (QI.mk (by first | (exfalso; omega) | (have hwy : whyWs μ.1 h th = -4 := (by unfold whyWs; rw [if_pos (by omega)]); rw [hwy]; exact ⟨rfl, PM.rf⟩) | (have hwy : whyWs μ.1 h th = -1 := (by unfold whyWs; rw [if_neg (by omega), if_pos (by omega)]); rw [hwy]; exact ⟨rfl, PM.rf⟩) | (have hwy : whyWs μ.1 h th = -6 := (by unfold whyWs; rw [if_neg (by omega), if_neg (by omega), if_pos (by omega)]); rw [hwy]; exact ⟨rfl, PM.rf⟩) | (have hwy : whyWs μ.1 h th = 0 := (by unfold whyWs; rw [if_neg (by omega), if_neg (by omega), if_neg (by omega)]); rw [hwy]; exact ⟨by rw [if_pos rfl, if_pos (by omega)], hP⟩) | (have e9 : s = 2 ^ mst := (by omega); rw [← e9]; exact ⟨rfl, hP⟩)))
        · refine P_bipush (pc := 32) dX6_washing_32 (by decide) ?_
          refine P_goto (tgt := 38) (pc := 34) dX6_washing_34 (by decide) ?_
          refine P_istore_n (L' := [(3, vi _), (0, vr 0), (1, vi _), (2, vi _)]) (pc := 38) dX6_washing_38 rfl (by decide) rfl ?_
          refine P_iload_n (pc := 39) dX6_washing_39 rfl 0 rfl ?_
          refine P_if_eq (tgt := 49) (pc := 40) dX6_washing_40 (by decide) (by first | assumption | (unfold InR; omega)) (fun c_40 => ?_) (fun c_40 => ?_)
          · refine P_aload_n (pc := 49) dX6_washing_49 rfl 1 rfl ?_
            refine P_iconst (pc := 50) dX6_washing_50 ?_
            refine P_callVi (Y' := mX6_findLeft) (as := [_]) (pc := 51) dX6_washing_51 rfl (by decide : 5 < 6) sM_0 rfl ml_RX6_241 im_X6_findLeft se_X6_findLeft mk_X6_findLeft (Nat.le_of_ble_eq_true rfl) (c_X6_findLeft hk hK hF (Or.inl rfl)) (fun z_ μ_ hq => ?_)
            obtain ⟨hzl, hP, hLF⟩ := hq
            refine P_if_ne (tgt := 60) (pc := 54) dX6_washing_54 (by decide) (by first | assumption | (unfold InR; omega)) (fun c_54 => ?_) (fun c_54 => ?_)
            · refine P_bipush (pc := 60) dX6_washing_60 (by decide) ?_
              refine P_istore (L' := [(4, vi _), (3, vi _), (0, vr 0), (1, vi _), (2, vi _)]) (pc := 62) dX6_washing_62 (by decide) rfl ?_
              refine P_aload_n (pc := 64) dX6_washing_64 rfl 2 rfl ?_
              refine P_getI (jj := 11) (pc := 65) dX6_washing_65 fa_RX6_101 sM_0 fM0_11 rfl ?_
              rw [hP.num 11 (by decide), ← hk11]
              refine P_bipush (pc := 68) dX6_washing_68 (by decide) ?_
              refine P_icmp_ge (tgt := 80) (pc := 70) dX6_washing_70 (by decide) (by first | assumption | (unfold InR; omega)) (by first | assumption | (unfold InR; omega)) (fun c_70 => ?_) (fun c_70 => ?_)
              · refine P_bipush (pc := 80) dX6_washing_80 (by decide) ?_
                refine P_istore (L' := [(5, vi _), (4, vi _), (3, vi _), (0, vr 0), (1, vi _), (2, vi _)]) (pc := 82) dX6_washing_82 (by decide) rfl ?_
                refine P_iconst (pc := 84) dX6_washing_84 ?_
                refine P_istore (L' := [(6, vi _), (5, vi _), (4, vi _), (3, vi _), (0, vr 0), (1, vi _), (2, vi _)]) (pc := 85) dX6_washing_85 (by decide) rfl ?_
                refine P_sub (L' := [(0, vr 0), (1, vi _), (2, vi _), (4, vi _), (5, vi _), (6, vi _)]) [4, 5, 6, 2, 1, 0] rfl ?_
                refine P_post (Q' := (QI (fun z μ' => z = wbestN K μ.1 h th.toNat (2 ^ (if K 0 11 < 8 then (K 0 11).toNat else 8)) ∧ PM μ μ'))) (fun r μ' hq => ?_) ?_
                · obtain ⟨z9, hr9, hz9, hP9⟩ := hq
                  have hwy : whyWs μ.1 h th = 0 := by unfold whyWs; rw [if_neg (by omega), if_neg (by omega), if_neg (by omega)]
                  refine ⟨z9, hr9, ?_, ?_⟩
                  · rw [hwy, if_pos rfl, if_neg (by omega)]; exact hz9
                  · rw [hwy]; exact hP9
                have hlt : th.toNat < 4096 := washT (T := μ.1 0 11) (by omega) (by omega) (by omega)
                first
                  | (rw [if_pos (by omega)]
                     refine P_cast (L' := [(0, vr 0), (1, vi h), (2, vi (th.toNat : Int)), (4, vi (wbestN K μ.1 h th.toNat 0)), (5, vi ((K 0 11).toNat : Int)), (6, vi ((0 : Nat) : Int))]) ?_ rfl (l_X6_washing hk hK (by omega) hlt (by omega) (2 ^ (K 0 11).toNat + 1) 0 _ (Nat.zero_le _) (Nat.lt_succ_of_le (Nat.sub_le _ _)) hP hLF)
                     rw [Int.toNat_of_nonneg (by omega), Int.toNat_of_nonneg (by omega)]; rfl)
                  | (rw [if_neg (by omega)]
                     refine P_cast (L' := [(0, vr 0), (1, vi h), (2, vi (th.toNat : Int)), (4, vi (wbestN K μ.1 h th.toNat 0)), (5, vi ((8 : Nat) : Int)), (6, vi ((0 : Nat) : Int))]) ?_ rfl (l_X6_washing hk hK (by omega) hlt (by omega) (2 ^ 8 + 1) 0 _ (Nat.zero_le _) (Nat.lt_succ_of_le (Nat.sub_le _ _)) hP hLF)
                     rw [Int.toNat_of_nonneg (by omega)]; rfl)
              · refine P_aload_n (pc := 73) dX6_washing_73 rfl 2 rfl ?_
                refine P_getI (jj := 11) (pc := 74) dX6_washing_74 fa_RX6_101 sM_0 fM0_11 rfl ?_
                rw [hP.num 11 (by decide), ← hk11]
                refine P_goto (tgt := 82) (pc := 77) dX6_washing_77 (by decide) ?_
                refine P_istore (L' := [(5, vi _), (4, vi _), (3, vi _), (0, vr 0), (1, vi _), (2, vi _)]) (pc := 82) dX6_washing_82 (by decide) rfl ?_
                refine P_iconst (pc := 84) dX6_washing_84 ?_
                refine P_istore (L' := [(6, vi _), (5, vi _), (4, vi _), (3, vi _), (0, vr 0), (1, vi _), (2, vi _)]) (pc := 85) dX6_washing_85 (by decide) rfl ?_
                refine P_sub (L' := [(0, vr 0), (1, vi _), (2, vi _), (4, vi _), (5, vi _), (6, vi _)]) [4, 5, 6, 2, 1, 0] rfl ?_
                refine P_post (Q' := (QI (fun z μ' => z = wbestN K μ.1 h th.toNat (2 ^ (if K 0 11 < 8 then (K 0 11).toNat else 8)) ∧ PM μ μ'))) (fun r μ' hq => ?_) ?_
                · obtain ⟨z9, hr9, hz9, hP9⟩ := hq
                  have hwy : whyWs μ.1 h th = 0 := by unfold whyWs; rw [if_neg (by omega), if_neg (by omega), if_neg (by omega)]
                  refine ⟨z9, hr9, ?_, ?_⟩
                  · rw [hwy, if_pos rfl, if_neg (by omega)]; exact hz9
                  · rw [hwy]; exact hP9
                have hlt : th.toNat < 4096 := washT (T := μ.1 0 11) (by omega) (by omega) (by omega)
                first
                  | (rw [if_pos (by omega)]
                     refine P_cast (L' := [(0, vr 0), (1, vi h), (2, vi (th.toNat : Int)), (4, vi (wbestN K μ.1 h th.toNat 0)), (5, vi ((K 0 11).toNat : Int)), (6, vi ((0 : Nat) : Int))]) ?_ rfl (l_X6_washing hk hK (by omega) hlt (by omega) (2 ^ (K 0 11).toNat + 1) 0 _ (Nat.zero_le _) (Nat.lt_succ_of_le (Nat.sub_le _ _)) hP hLF)
                     rw [Int.toNat_of_nonneg (by omega), Int.toNat_of_nonneg (by omega)]; rfl)
                  | (rw [if_neg (by omega)]
                     refine P_cast (L' := [(0, vr 0), (1, vi h), (2, vi (th.toNat : Int)), (4, vi (wbestN K μ.1 h th.toNat 0)), (5, vi ((8 : Nat) : Int)), (6, vi ((0 : Nat) : Int))]) ?_ rfl (l_X6_washing hk hK (by omega) hlt (by omega) (2 ^ 8 + 1) 0 _ (Nat.zero_le _) (Nat.lt_succ_of_le (Nat.sub_le _ _)) hP hLF)
                     rw [Int.toNat_of_nonneg (by omega)]; rfl)
            · refine P_bipush (pc := 57) dX6_washing_57 (by decide) ?_
              exact P_iret (pc := 59) dX6_washing_59 rfl (QI.mk (by first | (exfalso; omega) | (have hwy : whyWs μ.1 h th = -4 := (by unfold whyWs; rw [if_pos (by omega)]); rw [hwy]; exact ⟨rfl, PM.rf⟩) | (have hwy : whyWs μ.1 h th = -1 := (by unfold whyWs; rw [if_neg (by omega), if_pos (by omega)]); rw [hwy]; exact ⟨rfl, PM.rf⟩) | (have hwy : whyWs μ.1 h th = -6 := (by unfold whyWs; rw [if_neg (by omega), if_neg (by omega), if_pos (by omega)]); rw [hwy]; exact ⟨rfl, PM.rf⟩) | (have hwy : whyWs μ.1 h th = 0 := (by unfold whyWs; rw [if_neg (by omega), if_neg (by omega), if_neg (by omega)]); rw [hwy]; exact ⟨by rw [if_pos rfl, if_pos (by omega)], hP⟩) | (have e9 : s = 2 ^ mst := (by omega); rw [← e9]; exact ⟨rfl, hP⟩)))
          · refine P_aload_n (pc := 43) dX6_washing_43 rfl 1 rfl ?_
            refine P_iload_n (pc := 44) dX6_washing_44 rfl 0 rfl ?_
            refine P_callVi (Y' := mX6_no) (as := [_]) (pc := 45) dX6_washing_45 rfl (by decide : 0 < 6) sM_0 rfl ml_RX6_109 im_X6_no se_X6_no mk_X6_no (Nat.le_of_ble_eq_true rfl) (c_X6_no (by omega)) (fun z_ μ_ hq => ?_)
            obtain ⟨rfl, hμ_⟩ := hq
            have hμ_ := hμ_.symm
            subst hμ_
            exact P_iret (pc := 48) dX6_washing_48 rfl (QI.mk (by first | (exfalso; omega) | (have hwy : whyWs μ.1 h th = -4 := (by unfold whyWs; rw [if_pos (by omega)]); rw [hwy]; exact ⟨rfl, PM.rf⟩) | (have hwy : whyWs μ.1 h th = -1 := (by unfold whyWs; rw [if_neg (by omega), if_pos (by omega)]); rw [hwy]; exact ⟨rfl, PM.rf⟩) | (have hwy : whyWs μ.1 h th = -6 := (by unfold whyWs; rw [if_neg (by omega), if_neg (by omega), if_pos (by omega)]); rw [hwy]; exact ⟨rfl, PM.rf⟩) | (have hwy : whyWs μ.1 h th = 0 := (by unfold whyWs; rw [if_neg (by omega), if_neg (by omega), if_neg (by omega)]); rw [hwy]; exact ⟨by rw [if_pos rfl, if_pos (by omega)], hP⟩) | (have e9 : s = 2 ^ mst := (by omega); rw [← e9]; exact ⟨rfl, hP⟩)))
      · refine P_iconst (pc := 22) dX6_washing_22 ?_
        refine P_goto (tgt := 38) (pc := 23) dX6_washing_23 (by decide) ?_
        refine P_istore_n (L' := [(3, vi _), (0, vr 0), (1, vi _), (2, vi _)]) (pc := 38) dX6_washing_38 rfl (by decide) rfl ?_
        refine P_iload_n (pc := 39) dX6_washing_39 rfl 0 rfl ?_
        refine P_if_eq (tgt := 49) (pc := 40) dX6_washing_40 (by decide) (by first | assumption | (unfold InR; omega)) (fun c_40 => ?_) (fun c_40 => ?_)
        · refine P_aload_n (pc := 49) dX6_washing_49 rfl 1 rfl ?_
          refine P_iconst (pc := 50) dX6_washing_50 ?_
          refine P_callVi (Y' := mX6_findLeft) (as := [_]) (pc := 51) dX6_washing_51 rfl (by decide : 5 < 6) sM_0 rfl ml_RX6_241 im_X6_findLeft se_X6_findLeft mk_X6_findLeft (Nat.le_of_ble_eq_true rfl) (c_X6_findLeft hk hK hF (Or.inl rfl)) (fun z_ μ_ hq => ?_)
          obtain ⟨hzl, hP, hLF⟩ := hq
          refine P_if_ne (tgt := 60) (pc := 54) dX6_washing_54 (by decide) (by first | assumption | (unfold InR; omega)) (fun c_54 => ?_) (fun c_54 => ?_)
          · refine P_bipush (pc := 60) dX6_washing_60 (by decide) ?_
            refine P_istore (L' := [(4, vi _), (3, vi _), (0, vr 0), (1, vi _), (2, vi _)]) (pc := 62) dX6_washing_62 (by decide) rfl ?_
            refine P_aload_n (pc := 64) dX6_washing_64 rfl 2 rfl ?_
            refine P_getI (jj := 11) (pc := 65) dX6_washing_65 fa_RX6_101 sM_0 fM0_11 rfl ?_
            rw [hP.num 11 (by decide), ← hk11]
            refine P_bipush (pc := 68) dX6_washing_68 (by decide) ?_
            refine P_icmp_ge (tgt := 80) (pc := 70) dX6_washing_70 (by decide) (by first | assumption | (unfold InR; omega)) (by first | assumption | (unfold InR; omega)) (fun c_70 => ?_) (fun c_70 => ?_)
            · refine P_bipush (pc := 80) dX6_washing_80 (by decide) ?_
              refine P_istore (L' := [(5, vi _), (4, vi _), (3, vi _), (0, vr 0), (1, vi _), (2, vi _)]) (pc := 82) dX6_washing_82 (by decide) rfl ?_
              refine P_iconst (pc := 84) dX6_washing_84 ?_
              refine P_istore (L' := [(6, vi _), (5, vi _), (4, vi _), (3, vi _), (0, vr 0), (1, vi _), (2, vi _)]) (pc := 85) dX6_washing_85 (by decide) rfl ?_
              refine P_sub (L' := [(0, vr 0), (1, vi _), (2, vi _), (4, vi _), (5, vi _), (6, vi _)]) [4, 5, 6, 2, 1, 0] rfl ?_
              refine P_post (Q' := (QI (fun z μ' => z = wbestN K μ.1 h th.toNat (2 ^ (if K 0 11 < 8 then (K 0 11).toNat else 8)) ∧ PM μ μ'))) (fun r μ' hq => ?_) ?_
              · obtain ⟨z9, hr9, hz9, hP9⟩ := hq
                have hwy : whyWs μ.1 h th = 0 := by unfold whyWs; rw [if_neg (by omega), if_neg (by omega), if_neg (by omega)]
                refine ⟨z9, hr9, ?_, ?_⟩
                · rw [hwy, if_pos rfl, if_neg (by omega)]; exact hz9
                · rw [hwy]; exact hP9
              have hlt : th.toNat < 4096 := washT (T := μ.1 0 11) (by omega) (by omega) (by omega)
              first
                | (rw [if_pos (by omega)]
                   refine P_cast (L' := [(0, vr 0), (1, vi h), (2, vi (th.toNat : Int)), (4, vi (wbestN K μ.1 h th.toNat 0)), (5, vi ((K 0 11).toNat : Int)), (6, vi ((0 : Nat) : Int))]) ?_ rfl (l_X6_washing hk hK (by omega) hlt (by omega) (2 ^ (K 0 11).toNat + 1) 0 _ (Nat.zero_le _) (Nat.lt_succ_of_le (Nat.sub_le _ _)) hP hLF)
                   rw [Int.toNat_of_nonneg (by omega), Int.toNat_of_nonneg (by omega)]; rfl)
                | (rw [if_neg (by omega)]
                   refine P_cast (L' := [(0, vr 0), (1, vi h), (2, vi (th.toNat : Int)), (4, vi (wbestN K μ.1 h th.toNat 0)), (5, vi ((8 : Nat) : Int)), (6, vi ((0 : Nat) : Int))]) ?_ rfl (l_X6_washing hk hK (by omega) hlt (by omega) (2 ^ 8 + 1) 0 _ (Nat.zero_le _) (Nat.lt_succ_of_le (Nat.sub_le _ _)) hP hLF)
                   rw [Int.toNat_of_nonneg (by omega)]; rfl)
            · refine P_aload_n (pc := 73) dX6_washing_73 rfl 2 rfl ?_
              refine P_getI (jj := 11) (pc := 74) dX6_washing_74 fa_RX6_101 sM_0 fM0_11 rfl ?_
              rw [hP.num 11 (by decide), ← hk11]
              refine P_goto (tgt := 82) (pc := 77) dX6_washing_77 (by decide) ?_
              refine P_istore (L' := [(5, vi _), (4, vi _), (3, vi _), (0, vr 0), (1, vi _), (2, vi _)]) (pc := 82) dX6_washing_82 (by decide) rfl ?_
              refine P_iconst (pc := 84) dX6_washing_84 ?_
              refine P_istore (L' := [(6, vi _), (5, vi _), (4, vi _), (3, vi _), (0, vr 0), (1, vi _), (2, vi _)]) (pc := 85) dX6_washing_85 (by decide) rfl ?_
              refine P_sub (L' := [(0, vr 0), (1, vi _), (2, vi _), (4, vi _), (5, vi _), (6, vi _)]) [4, 5, 6, 2, 1, 0] rfl ?_
              refine P_post (Q' := (QI (fun z μ' => z = wbestN K μ.1 h th.toNat (2 ^ (if K 0 11 < 8 then (K 0 11).toNat else 8)) ∧ PM μ μ'))) (fun r μ' hq => ?_) ?_
              · obtain ⟨z9, hr9, hz9, hP9⟩ := hq
                have hwy : whyWs μ.1 h th = 0 := by unfold whyWs; rw [if_neg (by omega), if_neg (by omega), if_neg (by omega)]
                refine ⟨z9, hr9, ?_, ?_⟩
                · rw [hwy, if_pos rfl, if_neg (by omega)]; exact hz9
                · rw [hwy]; exact hP9
              have hlt : th.toNat < 4096 := washT (T := μ.1 0 11) (by omega) (by omega) (by omega)
              first
                | (rw [if_pos (by omega)]
                   refine P_cast (L' := [(0, vr 0), (1, vi h), (2, vi (th.toNat : Int)), (4, vi (wbestN K μ.1 h th.toNat 0)), (5, vi ((K 0 11).toNat : Int)), (6, vi ((0 : Nat) : Int))]) ?_ rfl (l_X6_washing hk hK (by omega) hlt (by omega) (2 ^ (K 0 11).toNat + 1) 0 _ (Nat.zero_le _) (Nat.lt_succ_of_le (Nat.sub_le _ _)) hP hLF)
                   rw [Int.toNat_of_nonneg (by omega), Int.toNat_of_nonneg (by omega)]; rfl)
                | (rw [if_neg (by omega)]
                   refine P_cast (L' := [(0, vr 0), (1, vi h), (2, vi (th.toNat : Int)), (4, vi (wbestN K μ.1 h th.toNat 0)), (5, vi ((8 : Nat) : Int)), (6, vi ((0 : Nat) : Int))]) ?_ rfl (l_X6_washing hk hK (by omega) hlt (by omega) (2 ^ 8 + 1) 0 _ (Nat.zero_le _) (Nat.lt_succ_of_le (Nat.sub_le _ _)) hP hLF)
                   rw [Int.toNat_of_nonneg (by omega)]; rfl)
          · refine P_bipush (pc := 57) dX6_washing_57 (by decide) ?_
            exact P_iret (pc := 59) dX6_washing_59 rfl (QI.mk (by first | (exfalso; omega) | (have hwy : whyWs μ.1 h th = -4 := (by unfold whyWs; rw [if_pos (by omega)]); rw [hwy]; exact ⟨rfl, PM.rf⟩) | (have hwy : whyWs μ.1 h th = -1 := (by unfold whyWs; rw [if_neg (by omega), if_pos (by omega)]); rw [hwy]; exact ⟨rfl, PM.rf⟩) | (have hwy : whyWs μ.1 h th = -6 := (by unfold whyWs; rw [if_neg (by omega), if_neg (by omega), if_pos (by omega)]); rw [hwy]; exact ⟨rfl, PM.rf⟩) | (have hwy : whyWs μ.1 h th = 0 := (by unfold whyWs; rw [if_neg (by omega), if_neg (by omega), if_neg (by omega)]); rw [hwy]; exact ⟨by rw [if_pos rfl, if_pos (by omega)], hP⟩) | (have e9 : s = 2 ^ mst := (by omega); rw [← e9]; exact ⟨rfl, hP⟩)))
        · refine P_aload_n (pc := 43) dX6_washing_43 rfl 1 rfl ?_
          refine P_iload_n (pc := 44) dX6_washing_44 rfl 0 rfl ?_
          refine P_callVi (Y' := mX6_no) (as := [_]) (pc := 45) dX6_washing_45 rfl (by decide : 0 < 6) sM_0 rfl ml_RX6_109 im_X6_no se_X6_no mk_X6_no (Nat.le_of_ble_eq_true rfl) (c_X6_no (by omega)) (fun z_ μ_ hq => ?_)
          obtain ⟨rfl, hμ_⟩ := hq
          have hμ_ := hμ_.symm
          subst hμ_
          exact P_iret (pc := 48) dX6_washing_48 rfl (QI.mk (by first | (exfalso; omega) | (have hwy : whyWs μ.1 h th = -4 := (by unfold whyWs; rw [if_pos (by omega)]); rw [hwy]; exact ⟨rfl, PM.rf⟩) | (have hwy : whyWs μ.1 h th = -1 := (by unfold whyWs; rw [if_neg (by omega), if_pos (by omega)]); rw [hwy]; exact ⟨rfl, PM.rf⟩) | (have hwy : whyWs μ.1 h th = -6 := (by unfold whyWs; rw [if_neg (by omega), if_neg (by omega), if_pos (by omega)]); rw [hwy]; exact ⟨rfl, PM.rf⟩) | (have hwy : whyWs μ.1 h th = 0 := (by unfold whyWs; rw [if_neg (by omega), if_neg (by omega), if_neg (by omega)]); rw [hwy]; exact ⟨by rw [if_pos rfl, if_pos (by omega)], hP⟩) | (have e9 : s = 2 ^ mst := (by omega); rw [← e9]; exact ⟨rfl, hP⟩)))
    · refine P_bipush (pc := 8) dX6_washing_8 (by decide) ?_
      refine P_goto (tgt := 38) (pc := 10) dX6_washing_10 (by decide) ?_
      refine P_istore_n (L' := [(3, vi _), (0, vr 0), (1, vi _), (2, vi _)]) (pc := 38) dX6_washing_38 rfl (by decide) rfl ?_
      refine P_iload_n (pc := 39) dX6_washing_39 rfl 0 rfl ?_
      refine P_if_eq (tgt := 49) (pc := 40) dX6_washing_40 (by decide) (by first | assumption | (unfold InR; omega)) (fun c_40 => ?_) (fun c_40 => ?_)
      · refine P_aload_n (pc := 49) dX6_washing_49 rfl 1 rfl ?_
        refine P_iconst (pc := 50) dX6_washing_50 ?_
        refine P_callVi (Y' := mX6_findLeft) (as := [_]) (pc := 51) dX6_washing_51 rfl (by decide : 5 < 6) sM_0 rfl ml_RX6_241 im_X6_findLeft se_X6_findLeft mk_X6_findLeft (Nat.le_of_ble_eq_true rfl) (c_X6_findLeft hk hK hF (Or.inl rfl)) (fun z_ μ_ hq => ?_)
        obtain ⟨hzl, hP, hLF⟩ := hq
        refine P_if_ne (tgt := 60) (pc := 54) dX6_washing_54 (by decide) (by first | assumption | (unfold InR; omega)) (fun c_54 => ?_) (fun c_54 => ?_)
        · refine P_bipush (pc := 60) dX6_washing_60 (by decide) ?_
          refine P_istore (L' := [(4, vi _), (3, vi _), (0, vr 0), (1, vi _), (2, vi _)]) (pc := 62) dX6_washing_62 (by decide) rfl ?_
          refine P_aload_n (pc := 64) dX6_washing_64 rfl 2 rfl ?_
          refine P_getI (jj := 11) (pc := 65) dX6_washing_65 fa_RX6_101 sM_0 fM0_11 rfl ?_
          rw [hP.num 11 (by decide), ← hk11]
          refine P_bipush (pc := 68) dX6_washing_68 (by decide) ?_
          refine P_icmp_ge (tgt := 80) (pc := 70) dX6_washing_70 (by decide) (by first | assumption | (unfold InR; omega)) (by first | assumption | (unfold InR; omega)) (fun c_70 => ?_) (fun c_70 => ?_)
          · refine P_bipush (pc := 80) dX6_washing_80 (by decide) ?_
            refine P_istore (L' := [(5, vi _), (4, vi _), (3, vi _), (0, vr 0), (1, vi _), (2, vi _)]) (pc := 82) dX6_washing_82 (by decide) rfl ?_
            refine P_iconst (pc := 84) dX6_washing_84 ?_
            refine P_istore (L' := [(6, vi _), (5, vi _), (4, vi _), (3, vi _), (0, vr 0), (1, vi _), (2, vi _)]) (pc := 85) dX6_washing_85 (by decide) rfl ?_
            refine P_sub (L' := [(0, vr 0), (1, vi _), (2, vi _), (4, vi _), (5, vi _), (6, vi _)]) [4, 5, 6, 2, 1, 0] rfl ?_
            refine P_post (Q' := (QI (fun z μ' => z = wbestN K μ.1 h th.toNat (2 ^ (if K 0 11 < 8 then (K 0 11).toNat else 8)) ∧ PM μ μ'))) (fun r μ' hq => ?_) ?_
            · obtain ⟨z9, hr9, hz9, hP9⟩ := hq
              have hwy : whyWs μ.1 h th = 0 := by unfold whyWs; rw [if_neg (by omega), if_neg (by omega), if_neg (by omega)]
              refine ⟨z9, hr9, ?_, ?_⟩
              · rw [hwy, if_pos rfl, if_neg (by omega)]; exact hz9
              · rw [hwy]; exact hP9
            have hlt : th.toNat < 4096 := washT (T := μ.1 0 11) (by omega) (by omega) (by omega)
            first
              | (rw [if_pos (by omega)]
                 refine P_cast (L' := [(0, vr 0), (1, vi h), (2, vi (th.toNat : Int)), (4, vi (wbestN K μ.1 h th.toNat 0)), (5, vi ((K 0 11).toNat : Int)), (6, vi ((0 : Nat) : Int))]) ?_ rfl (l_X6_washing hk hK (by omega) hlt (by omega) (2 ^ (K 0 11).toNat + 1) 0 _ (Nat.zero_le _) (Nat.lt_succ_of_le (Nat.sub_le _ _)) hP hLF)
                 rw [Int.toNat_of_nonneg (by omega), Int.toNat_of_nonneg (by omega)]; rfl)
              | (rw [if_neg (by omega)]
                 refine P_cast (L' := [(0, vr 0), (1, vi h), (2, vi (th.toNat : Int)), (4, vi (wbestN K μ.1 h th.toNat 0)), (5, vi ((8 : Nat) : Int)), (6, vi ((0 : Nat) : Int))]) ?_ rfl (l_X6_washing hk hK (by omega) hlt (by omega) (2 ^ 8 + 1) 0 _ (Nat.zero_le _) (Nat.lt_succ_of_le (Nat.sub_le _ _)) hP hLF)
                 rw [Int.toNat_of_nonneg (by omega)]; rfl)
          · refine P_aload_n (pc := 73) dX6_washing_73 rfl 2 rfl ?_
            refine P_getI (jj := 11) (pc := 74) dX6_washing_74 fa_RX6_101 sM_0 fM0_11 rfl ?_
            rw [hP.num 11 (by decide), ← hk11]
            refine P_goto (tgt := 82) (pc := 77) dX6_washing_77 (by decide) ?_
            refine P_istore (L' := [(5, vi _), (4, vi _), (3, vi _), (0, vr 0), (1, vi _), (2, vi _)]) (pc := 82) dX6_washing_82 (by decide) rfl ?_
            refine P_iconst (pc := 84) dX6_washing_84 ?_
            refine P_istore (L' := [(6, vi _), (5, vi _), (4, vi _), (3, vi _), (0, vr 0), (1, vi _), (2, vi _)]) (pc := 85) dX6_washing_85 (by decide) rfl ?_
            refine P_sub (L' := [(0, vr 0), (1, vi _), (2, vi _), (4, vi _), (5, vi _), (6, vi _)]) [4, 5, 6, 2, 1, 0] rfl ?_
            refine P_post (Q' := (QI (fun z μ' => z = wbestN K μ.1 h th.toNat (2 ^ (if K 0 11 < 8 then (K 0 11).toNat else 8)) ∧ PM μ μ'))) (fun r μ' hq => ?_) ?_
            · obtain ⟨z9, hr9, hz9, hP9⟩ := hq
              have hwy : whyWs μ.1 h th = 0 := by unfold whyWs; rw [if_neg (by omega), if_neg (by omega), if_neg (by omega)]
              refine ⟨z9, hr9, ?_, ?_⟩
              · rw [hwy, if_pos rfl, if_neg (by omega)]; exact hz9
              · rw [hwy]; exact hP9
            have hlt : th.toNat < 4096 := washT (T := μ.1 0 11) (by omega) (by omega) (by omega)
            first
              | (rw [if_pos (by omega)]
                 refine P_cast (L' := [(0, vr 0), (1, vi h), (2, vi (th.toNat : Int)), (4, vi (wbestN K μ.1 h th.toNat 0)), (5, vi ((K 0 11).toNat : Int)), (6, vi ((0 : Nat) : Int))]) ?_ rfl (l_X6_washing hk hK (by omega) hlt (by omega) (2 ^ (K 0 11).toNat + 1) 0 _ (Nat.zero_le _) (Nat.lt_succ_of_le (Nat.sub_le _ _)) hP hLF)
                 rw [Int.toNat_of_nonneg (by omega), Int.toNat_of_nonneg (by omega)]; rfl)
              | (rw [if_neg (by omega)]
                 refine P_cast (L' := [(0, vr 0), (1, vi h), (2, vi (th.toNat : Int)), (4, vi (wbestN K μ.1 h th.toNat 0)), (5, vi ((8 : Nat) : Int)), (6, vi ((0 : Nat) : Int))]) ?_ rfl (l_X6_washing hk hK (by omega) hlt (by omega) (2 ^ 8 + 1) 0 _ (Nat.zero_le _) (Nat.lt_succ_of_le (Nat.sub_le _ _)) hP hLF)
                 rw [Int.toNat_of_nonneg (by omega)]; rfl)
        · refine P_bipush (pc := 57) dX6_washing_57 (by decide) ?_
          exact P_iret (pc := 59) dX6_washing_59 rfl (QI.mk (by first | (exfalso; omega) | (have hwy : whyWs μ.1 h th = -4 := (by unfold whyWs; rw [if_pos (by omega)]); rw [hwy]; exact ⟨rfl, PM.rf⟩) | (have hwy : whyWs μ.1 h th = -1 := (by unfold whyWs; rw [if_neg (by omega), if_pos (by omega)]); rw [hwy]; exact ⟨rfl, PM.rf⟩) | (have hwy : whyWs μ.1 h th = -6 := (by unfold whyWs; rw [if_neg (by omega), if_neg (by omega), if_pos (by omega)]); rw [hwy]; exact ⟨rfl, PM.rf⟩) | (have hwy : whyWs μ.1 h th = 0 := (by unfold whyWs; rw [if_neg (by omega), if_neg (by omega), if_neg (by omega)]); rw [hwy]; exact ⟨by rw [if_pos rfl, if_pos (by omega)], hP⟩) | (have e9 : s = 2 ^ mst := (by omega); rw [← e9]; exact ⟨rfl, hP⟩)))
      · refine P_aload_n (pc := 43) dX6_washing_43 rfl 1 rfl ?_
        refine P_iload_n (pc := 44) dX6_washing_44 rfl 0 rfl ?_
        refine P_callVi (Y' := mX6_no) (as := [_]) (pc := 45) dX6_washing_45 rfl (by decide : 0 < 6) sM_0 rfl ml_RX6_109 im_X6_no se_X6_no mk_X6_no (Nat.le_of_ble_eq_true rfl) (c_X6_no (by omega)) (fun z_ μ_ hq => ?_)
        obtain ⟨rfl, hμ_⟩ := hq
        have hμ_ := hμ_.symm
        subst hμ_
        exact P_iret (pc := 48) dX6_washing_48 rfl (QI.mk (by first | (exfalso; omega) | (have hwy : whyWs μ.1 h th = -4 := (by unfold whyWs; rw [if_pos (by omega)]); rw [hwy]; exact ⟨rfl, PM.rf⟩) | (have hwy : whyWs μ.1 h th = -1 := (by unfold whyWs; rw [if_neg (by omega), if_pos (by omega)]); rw [hwy]; exact ⟨rfl, PM.rf⟩) | (have hwy : whyWs μ.1 h th = -6 := (by unfold whyWs; rw [if_neg (by omega), if_neg (by omega), if_pos (by omega)]); rw [hwy]; exact ⟨rfl, PM.rf⟩) | (have hwy : whyWs μ.1 h th = 0 := (by unfold whyWs; rw [if_neg (by omega), if_neg (by omega), if_neg (by omega)]); rw [hwy]; exact ⟨by rw [if_pos rfl, if_pos (by omega)], hP⟩) | (have e9 : s = 2 ^ mst := (by omega); rw [← e9]; exact ⟨rfl, hP⟩)))
