/-- as it is judged, by its law's doubt and the hours ahead -/
def judN (K F : Cel) (by_ : Int) (t : Nat) : Nat → Int
  | 0 => 1
  | n + 1 => if sureP K F 0 (n : Int) t ≠ 1 then (if sureP K F 0 (n : Int) t = 2 then 1 else 0) else if by_ < 2 then by_ else if by_ = 2 then (if (leftN K F 0 : Int) < 2 * (manyP K F 0 (n : Int) t : Int) then 1 else 0) else judN K F by_ t n
theorem judN_s {K F : Cel} {b : Int} {t n : Nat} {h : Int} (hh : h = (n : Int)) : judN K F b t (n + 1) = if sureP K F 0 h t ≠ 1 then (if sureP K F 0 h t = 2 then 1 else 0) else if b < 2 then b else if b = 2 then (if (leftN K F 0 : Int) < 2 * (manyP K F 0 h t : Int) then 1 else 0) else judN K F b t n := by subst hh; rfl
theorem sureP_v (K F : Cel) (o h : Int) (t : Nat) : sureP K F o h t = -9 ∨ sureP K F o h t = 0 ∨ sureP K F o h t = 1 ∨ sureP K F o h t = 2 := by unfold sureP; split; omega; split; omega; split <;> omega
theorem wI_andx {x y : Int} (hx : 0 ≤ x) (hy : 0 ≤ y) : Int32.ofInt x &&& Int32.ofInt (-y - 1) = Int32.ofInt ((x.toNat ^^^ (x.toNat &&& y.toNat) : Nat) : Int) := by
  obtain ⟨a, rfl⟩ := Int.eq_ofNat_of_zero_le hx
  obtain ⟨b, rfl⟩ := Int.eq_ofNat_of_zero_le hy
  rw [← wI_not]
  apply Int32.toBitVec_inj.mp
  show BitVec.ofNat 32 a &&& (BitVec.ofNat 32 b ^^^ BitVec.allOnes 32) = BitVec.ofNat 32 (a ^^^ (a &&& b))
  rw [BitVec.ofNat_xor, BitVec.ofNat_and, BitVec.xor_allOnes]
  apply BitVec.eq_of_getLsbD_eq
  intro i hi
  simp only [BitVec.getLsbD_and, BitVec.getLsbD_xor, BitVec.getLsbD_not, hi, decide_true, Bool.true_and]
  cases (BitVec.ofNat 32 a).getLsbD i <;> cases (BitVec.ofNat 32 b).getLsbD i <;> rfl
def or32 (a b : Int) : Int := (Int32.ofInt a ||| Int32.ofInt b).toInt
theorem wI_or32 (a b : Int) : Int32.ofInt a ||| Int32.ofInt b = Int32.ofInt (or32 a b) := (wI_of _).symm
def orN (L : Nat → Bool) (C : Nat → Nat) : Nat → Nat
  | 0 => 0
  | n + 1 => if L n = true then orN L C n ||| C n else orN L C n
def andN (L : Nat → Bool) (C : Nat → Nat) (a : Nat) : Nat → Nat
  | 0 => a
  | n + 1 => if L n = true then andN L C a n &&& C n else andN L C a n
theorem orN_lt {L : Nat → Bool} {C : Nat → Nat} {k : Nat} (h : ∀ w, C w < 2 ^ k) : ∀ n, orN L C n < 2 ^ k
  | 0 => Nat.pow_pos (by decide)
  | n + 1 => by
    simp only [orN]
    split
    · exact Nat.or_lt_two_pow (orN_lt h n) (h n)
    · exact orN_lt h n
theorem andN_lt {L : Nat → Bool} {C : Nat → Nat} {a : Nat} : ∀ n, andN L C a n ≤ a
  | 0 => Nat.le_refl a
  | n + 1 => by
    simp only [andN]
    split
    · exact Nat.le_trans Nat.and_le_left (andN_lt n)
    · exact andN_lt n
/-- what is clean in a way at an hour, as bits -/
def clW (K : Cel) (h : Int) (w : Nat) : Nat := clN (simX K (w : Int) h 0) (K 0 11).toNat
theorem clW_lt {K : Cel} (hK : KOK K) (h : Int) (w : Nat) : clW K h w < 2 ^ 12 := Nat.lt_of_lt_of_le (clN_lt _ _) (Nat.pow_le_pow_right (by decide) (by have := hK.1; omega))
theorem LC_c {K F : Cel} {h : Int} {ν : Mem} (hL : LC K F 0 h ν) {w : Int} {j : Nat} (hw : w = (j : Int)) (hj : j < 64) (hl : leftB K F 0 j = true) : ν.1 24 w = (clW K h j : Int) := by subst hw; exact hL.2 j hj hl
theorem LC_l {K F : Cel} {o h : Int} {ν : Mem} (hL : LC K F o h ν) {w : Int} {j : Nat} (hw : w = (j : Int)) (hj : j < 64) : (ν.1 23 w = 0 ∧ leftB K F o j = false ∨ ν.1 23 w = 1 ∧ leftB K F o j = true) := by
  subst hw
  rw [hL.1.1 j hj]
  cases leftB K F o j <;> simp
def rivB (K F : Cel) (h : Int) (s : Nat) : Bool := allF (fun w => !(leftB K F 0 w) || decide (clW K h w &&& s ≠ s)) 64 && decide (orN (leftB K F 0) (clW K h) 64 &&& s = s)
def findN (p : Nat → Bool) : Nat → Nat → Option Nat
  | 0, _ => none
  | n + 1, s => if p s = true then some s else findN p n (s + 1)
theorem findN_at {p : Nat → Bool} : ∀ (n m s : Nat), (∀ i, s ≤ i → i < s + n → p i = false) → findN p (n + m) s = findN p m (s + n)
  | 0, m, s, _ => by rw [Nat.zero_add]; rfl
  | n + 1, m, s, h => by
    have e : n + 1 + m = (n + m) + 1 := by omega
    rw [e]
    show (if p s = true then some s else findN p (n + m) (s + 1)) = _
    rw [h s (Nat.le_refl s) (by omega), if_neg (by decide), findN_at n m (s + 1) (fun i h1 h2 => h i (by omega) (by omega))]
    congr 1
    omega
def cnt31 (s : Nat) : Nat := cnt (fun k => s.testBit k) 31
def rivP (K F : Cel) (h : Int) (z : Nat) : Option Nat := findN (fun s => decide (cnt31 s = z) && rivB K F h s) (2 ^ (K 0 11).toNat) 0
def whyH (h : Int) : Int := if h < 0 then -4 else if h > 47 then -6 else 0
theorem whyH_v (h : Int) : whyH h = -4 ∨ whyH h = -6 ∨ whyH h = 0 := by unfold whyH; split; omega; split <;> omega
theorem whyH_0 {h : Int} (e : whyH h = 0) : 0 ≤ h ∧ h < 48 := by unfold whyH at e; grind
def rivZ (K F : Cel) (h : Int) : Int := if leftN K F 0 = 0 then -9 else match rivP K F h 2 with
  | some s => (s : Int)
  | none => match rivP K F h 3 with
    | some s => (s : Int)
    | none => -9
set_option maxHeartbeats 1000000 in
set_option maxRecDepth 100000 in
theorem l_X6_judged {μ : Mem} {K F : Cel} {t b : Int} {m : Nat} (hk : kd μ.1 = K) (hK : KOK K) (ht : 0 ≤ t ∧ t < K 0 11) (hb : 0 ≤ b ∧ b ≤ 3) (hm : m ≤ 48) : ∀ (n : Nat) (h : Int) (ν : Mem), h + 1 = (n : Int) → n ≤ m → judN K F b t.toNat m = judN K F b t.toNat n → PM μ ν → LF K F 0 ν → PW shM 6 mX6_judged 46 [(0, vr 0), (1, vi t), (4, vi b), (5, vi h)] [] ν (QI (fun z μ' => z = judN K F b t.toNat m ∧ PM μ μ')) := by
  intro n
  induction n with
  | zero =>
    intro h ν hh hn hj hP hLF
    refine P_iload (pc := 46) dX6_judged_46 3 rfl ?_
    refine P_if_lt (tgt := 124) (pc := 48) dX6_judged_48 (by decide) (by unfold InR; omega) (fun c_48 => ?_) (fun c_48 => by exfalso; omega)
    refine P_iconst (pc := 124) dX6_judged_124 ?_
    exact P_iret (pc := 125) dX6_judged_125 rfl (QI.mk ⟨hj.symm, hP⟩)
  | succ n ih =>
  intro h ν hh hn hj hP hLF
  have hjs := judN_s (K := K) (F := F) (b := b) (t := t.toNat) (n := n) (h := h) (by omega)
  rw [← hj] at hjs
  have sv := sureP_v K F 0 h t.toNat
  have mv := manyP_le K F 0 h t.toNat
  have lv := leftN_le K F 0
  have hl31 := hLF.2
  refine P_iload (pc := 46) dX6_judged_46 3 rfl ?_
  refine P_if_lt (tgt := 124) (pc := 48) dX6_judged_48 (by decide) (by unfold InR; omega) (fun c_48 => ?_) (fun c_48 => ?_)
  · refine P_iconst (pc := 124) dX6_judged_124 ?_
    exact P_iret (pc := 125) dX6_judged_125 rfl (QI.mk (by first | (exfalso; omega) | (rw [← hz]; exact ⟨by rw [if_neg (by omega)], by rw [refW, if_neg (by omega)]; exact PM.rf⟩) | (rw [← hz]; exact ⟨by rw [if_pos (by omega), if_pos (by omega)], by rw [refW, if_pos (by omega)]; exact hP⟩) | (refine ⟨?_, hP⟩; rw [hjs]; clear ih; grind)))
  · refine P_aload_n (pc := 51) dX6_judged_51 rfl 0 rfl ?_
    refine P_iload (pc := 52) dX6_judged_52 3 rfl ?_
    refine P_iconst (pc := 54) dX6_judged_54 ?_
    refine P_callVv (Y' := mX6_findClean) (as := [_, _]) (pc := 55) dX6_judged_55 rfl (by decide : 5 < 6) sM_0 rfl ml_RX6_254 im_X6_findClean se_X6_findClean mk_X6_findClean (Nat.le_of_ble_eq_true rfl) (c_X6_findClean ((PM_kd hP).trans hk) hK (Or.inl rfl) (by omega) hLF) (fun μ_ hq => ?_)
    obtain ⟨hP2, hLC⟩ := hq
    have hP := hP.tr hP2
    try simp only [hLC.1.2]
    refine P_aload_n (pc := 58) dX6_judged_58 rfl 0 rfl ?_
    refine P_iload_n (pc := 59) dX6_judged_59 rfl 1 rfl ?_
    refine P_callVi (Y' := mX6_sureOf) (as := [_]) (pc := 60) dX6_judged_60 rfl (by decide : 1 < 6) sM_0 rfl ml_RX6_258 im_X6_sureOf se_X6_sureOf mk_X6_sureOf (Nat.le_of_ble_eq_true rfl) (c_X6_sureOf hLC (by omega) hK) (fun z_ μ_ hq => ?_)
    obtain ⟨rfl, hμ_⟩ := hq
    have hμ_ := hμ_.symm
    subst hμ_
    try simp only [hLC.1.2]
    refine P_istore (L' := [(6, vi _), (0, vr 0), (1, vi _), (4, vi _), (5, vi _)]) (pc := 63) dX6_judged_63 (by decide) rfl ?_
    refine P_iload (pc := 65) dX6_judged_65 0 rfl ?_
    refine P_iconst (pc := 67) dX6_judged_67 ?_
    refine P_icmp_eq (tgt := 83) (pc := 68) dX6_judged_68 (by decide) (by unfold InR; omega) (by unfold InR; omega) (fun c_68 => ?_) (fun c_68 => ?_)
    · refine P_iload (pc := 83) dX6_judged_83 3 rfl ?_
      refine P_iconst (pc := 85) dX6_judged_85 ?_
      refine P_icmp_ge (tgt := 92) (pc := 86) dX6_judged_86 (by decide) (by unfold InR; omega) (by unfold InR; omega) (fun c_86 => ?_) (fun c_86 => ?_)
      · refine P_iload (pc := 92) dX6_judged_92 3 rfl ?_
        refine P_iconst (pc := 94) dX6_judged_94 ?_
        refine P_icmp_ne (tgt := 118) (pc := 95) dX6_judged_95 (by decide) (by unfold InR; omega) (by unfold InR; omega) (fun c_95 => ?_) (fun c_95 => ?_)
        · refine P_iinc (L' := [(5, vi _), (6, vi _), (0, vr 0), (1, vi _), (4, vi _)]) (pc := 118) dX6_judged_118 (by decide) 4 rfl rfl ?_
          refine P_goto (tgt := 46) (pc := 121) dX6_judged_121 (by decide) ?_
          refine P_sub (L' := [(0, vr 0), (1, vi _), (4, vi _), (5, vi _)]) [2, 3, 4, 0] rfl ?_
          refine ih (h + -1) _ (by omega) (by omega) ?_ hP hLC.1
          rw [hjs]
          clear ih
          grind
        · refine P_iconst (pc := 98) dX6_judged_98 ?_
          refine P_aload_n (pc := 99) dX6_judged_99 rfl 1 rfl ?_
          refine P_iload_n (pc := 100) dX6_judged_100 rfl 2 rfl ?_
          refine P_callVi (Y' := mX6_manyOf) (as := [_]) (pc := 101) dX6_judged_101 rfl (by decide : 0 < 6) sM_0 rfl ml_RX6_251 im_X6_manyOf se_X6_manyOf mk_X6_manyOf (Nat.le_of_ble_eq_true rfl) (c_X6_manyOf hLC (by omega) hK) (fun z_ μ_ hq => ?_)
          obtain ⟨rfl, hμ_⟩ := hq
          have hμ_ := hμ_.symm
          subst hμ_
          try simp only [hLC.1.2]
          refine P_imul (pc := 104) dX6_judged_104 ?_
          refine P_aload_n (pc := 105) dX6_judged_105 rfl 1 rfl ?_
          refine P_getI (jj := 31) (pc := 106) dX6_judged_106 fa_RX6_232 sM_0 fM0_31 rfl ?_
          try simp only [hLC.1.2]
          refine P_icmp_le (tgt := 116) (pc := 109) dX6_judged_109 (by decide) (by unfold InR; omega) (by unfold InR; omega) (fun c_109 => ?_) (fun c_109 => ?_)
          · refine P_iconst (pc := 116) dX6_judged_116 ?_
            exact P_iret (pc := 117) dX6_judged_117 rfl (QI.mk (by first | (exfalso; omega) | (rw [← hz]; exact ⟨by rw [if_neg (by omega)], by rw [refW, if_neg (by omega)]; exact PM.rf⟩) | (rw [← hz]; exact ⟨by rw [if_pos (by omega), if_pos (by omega)], by rw [refW, if_pos (by omega)]; exact hP⟩) | (refine ⟨?_, hP⟩; rw [hjs]; clear ih; grind)))
          · refine P_iconst (pc := 112) dX6_judged_112 ?_
            refine P_goto (tgt := 117) (pc := 113) dX6_judged_113 (by decide) ?_
            exact P_iret (pc := 117) dX6_judged_117 rfl (QI.mk (by first | (exfalso; omega) | (rw [← hz]; exact ⟨by rw [if_neg (by omega)], by rw [refW, if_neg (by omega)]; exact PM.rf⟩) | (rw [← hz]; exact ⟨by rw [if_pos (by omega), if_pos (by omega)], by rw [refW, if_pos (by omega)]; exact hP⟩) | (refine ⟨?_, hP⟩; rw [hjs]; clear ih; grind)))
      · refine P_iload (pc := 89) dX6_judged_89 3 rfl ?_
        exact P_iret (pc := 91) dX6_judged_91 rfl (QI.mk (by first | (exfalso; omega) | (rw [← hz]; exact ⟨by rw [if_neg (by omega)], by rw [refW, if_neg (by omega)]; exact PM.rf⟩) | (rw [← hz]; exact ⟨by rw [if_pos (by omega), if_pos (by omega)], by rw [refW, if_pos (by omega)]; exact hP⟩) | (refine ⟨?_, hP⟩; rw [hjs]; clear ih; grind)))
    · refine P_iload (pc := 71) dX6_judged_71 0 rfl ?_
      refine P_iconst (pc := 73) dX6_judged_73 ?_
      refine P_icmp_ne (tgt := 81) (pc := 74) dX6_judged_74 (by decide) (by unfold InR; omega) (by unfold InR; omega) (fun c_74 => ?_) (fun c_74 => ?_)
      · refine P_iconst (pc := 81) dX6_judged_81 ?_
        exact P_iret (pc := 82) dX6_judged_82 rfl (QI.mk (by first | (exfalso; omega) | (rw [← hz]; exact ⟨by rw [if_neg (by omega)], by rw [refW, if_neg (by omega)]; exact PM.rf⟩) | (rw [← hz]; exact ⟨by rw [if_pos (by omega), if_pos (by omega)], by rw [refW, if_pos (by omega)]; exact hP⟩) | (refine ⟨?_, hP⟩; rw [hjs]; clear ih; grind)))
      · refine P_iconst (pc := 77) dX6_judged_77 ?_
        refine P_goto (tgt := 82) (pc := 78) dX6_judged_78 (by decide) ?_
        exact P_iret (pc := 82) dX6_judged_82 rfl (QI.mk (by first | (exfalso; omega) | (rw [← hz]; exact ⟨by rw [if_neg (by omega)], by rw [refW, if_neg (by omega)]; exact PM.rf⟩) | (rw [← hz]; exact ⟨by rw [if_pos (by omega), if_pos (by omega)], by rw [refW, if_pos (by omega)]; exact hP⟩) | (refine ⟨?_, hP⟩; rw [hjs]; clear ih; grind)))
set_option maxHeartbeats 1000000 in
set_option maxRecDepth 100000 in
theorem c_X6_judged {μ : Mem} {K : Cel} {t h : Int} (hk : kd μ.1 = K) (hK : KOK K) (hF : FOK μ.1) (hH : ∀ j, μ.1 4 j = 0 ∨ μ.1 4 j = 1) (ht : InR t) (hh : InR h) : PC shM 6 mX6_judged [vr 0, vi t, vi h] (μ) (QI (fun z μ' => z = (if whyTH μ.1 t h = 0 then (if leftN K μ.1 0 = 0 then -9 else judN K μ.1 (μ.1 6 (1 + μ.1 4 t)) t.toNat (h + 1).toNat) else whyTH μ.1 t h) ∧ PM (refW μ (whyTH μ.1 t h)) μ')) := by
  refine PC.of (by decide +kernel) (Nat.le_of_ble_eq_true rfl) ?_
  refine P_sub (L' := [(0, vr 0), (1, vi t), (2, vi h)]) [0, 1, 2] rfl ?_
  have hK1 := hK.1
  have hk11 : K 0 11 = μ.1 0 11 := by rw [← hk]; rfl
  have hn : InR (μ.1 0 11) := by unfold InR; omega
  have hhid := hH t
  refine P_aload_n (pc := 0) dX6_judged_0 rfl 0 rfl ?_
  refine P_iload_n (pc := 1) dX6_judged_1 rfl 1 rfl ?_
  refine P_iload_n (pc := 2) dX6_judged_2 rfl 2 rfl ?_
  refine P_callVi (Y' := mX6_why) (as := [_, _]) (pc := 3) dX6_judged_3 rfl (by decide : 1 < 6) sM_0 rfl ml_RX6_245 im_X6_why se_X6_why mk_X6_why (Nat.le_of_ble_eq_true rfl) (c_X6_why ht hh hn) (fun z_ μ_ hq => ?_)
  obtain ⟨hz, hμ_⟩ := hq
  have hμ_ := hμ_.symm
  subst hμ_
  have hv := whyTH_v μ.1 t h
  rw [← hz] at hv
  have hv0 : z_ = 0 → _ := fun e => whyTH_0 (A := μ.1) (t := t) (h := h) (hz ▸ e)
  try simp only [hLC.1.2]
  refine P_istore_n (L' := [(3, vi _), (0, vr 0), (1, vi _), (2, vi _)]) (pc := 6) dX6_judged_6 rfl (by decide) rfl ?_
  refine P_iload_n (pc := 7) dX6_judged_7 rfl 0 rfl ?_
  refine P_if_eq (tgt := 17) (pc := 8) dX6_judged_8 (by decide) (by unfold InR; omega) (fun c_8 => ?_) (fun c_8 => ?_)
  · refine P_aload_n (pc := 17) dX6_judged_17 rfl 1 rfl ?_
    refine P_iconst (pc := 18) dX6_judged_18 ?_
    refine P_callVi (Y' := mX6_findLeft) (as := [_]) (pc := 19) dX6_judged_19 rfl (by decide : 5 < 6) sM_0 rfl ml_RX6_241 im_X6_findLeft se_X6_findLeft mk_X6_findLeft (Nat.le_of_ble_eq_true rfl) (c_X6_findLeft hk hK hF (Or.inl rfl)) (fun z_ μ_ hq => ?_)
    obtain ⟨hzl, hP, hLF⟩ := hq
    have hle := leftN_le K μ.1 0
    have c6 := hP.cell 6 (by decide)
    have c4 := hP.cell 4 (by decide)
    have h6 := hK.2.2.2.2.2.1 (1 + μ.1 4 t)
    rw [← hk] at h6
    simp only [kr_6] at h6
    try simp only [hLC.1.2]
    refine P_if_ne (tgt := 28) (pc := 22) dX6_judged_22 (by decide) (by unfold InR; omega) (fun c_22 => ?_) (fun c_22 => ?_)
    · refine P_aload_n (pc := 28) dX6_judged_28 rfl 1 rfl ?_
      refine P_getR (pc := 29) dX6_judged_29 fa_RX6_25 sM_0 fM0_5 ?_
      refine P_iconst (pc := 32) dX6_judged_32 ?_
      refine P_aload_n (pc := 33) dX6_judged_33 rfl 1 rfl ?_
      refine P_getR (pc := 34) dX6_judged_34 fa_RX6_19 sM_0 fM0_3 ?_
      refine P_iload_n (pc := 37) dX6_judged_37 rfl 2 rfl ?_
      refine P_iald (pc := 38) dX6_judged_38 sM_4 (by first | omega | (rw [c4]; omega)) (by first | omega | (rw [c4]; omega)) (by decide) ?_
      try simp only [hLC.1.2]
      refine P_iadd (pc := 39) dX6_judged_39 ?_
      refine P_iald (pc := 40) dX6_judged_40 sM_6 (by first | omega | (rw [c4]; omega)) (by first | omega | (rw [c4]; omega)) (by decide) ?_
      try simp only [hLC.1.2]
      refine P_istore (L' := [(4, vi _), (3, vi _), (0, vr 0), (1, vi _), (2, vi _)]) (pc := 41) dX6_judged_41 (by decide) rfl ?_
      refine P_iload_n (pc := 43) dX6_judged_43 rfl 4 rfl ?_
      refine P_istore (L' := [(5, vi _), (4, vi _), (3, vi _), (0, vr 0), (1, vi _), (2, vi _)]) (pc := 44) dX6_judged_44 (by decide) rfl ?_
      refine P_sub (L' := [(0, vr 0), (1, vi _), (4, vi _), (5, vi _)]) [3, 4, 1, 0] rfl ?_
      rw [c6, c4]
      refine P_post (Q' := (QI (fun z μ' => z = judN K μ.1 (μ.1 6 (1 + μ.1 4 t)) t.toNat (h + 1).toNat ∧ PM μ μ'))) (fun r μ' hq => ?_) (l_X6_judged hk hK (by omega) h6 (by omega) _ h _ (by omega) (Nat.le_refl _) rfl hP hLF)
      obtain ⟨z9, hr9, hz9, hP9⟩ := hq
      refine ⟨z9, hr9, ?_, ?_⟩
      · rw [← hz, if_pos (by omega), if_neg (by omega)]; exact hz9
      · rw [← hz, refW, if_pos (by omega)]; exact hP9
    · refine P_bipush (pc := 25) dX6_judged_25 (by decide) ?_
      exact P_iret (pc := 27) dX6_judged_27 rfl (QI.mk (by first | (exfalso; omega) | (rw [← hz]; exact ⟨by rw [if_neg (by omega)], by rw [refW, if_neg (by omega)]; exact PM.rf⟩) | (rw [← hz]; exact ⟨by rw [if_pos (by omega), if_pos (by omega)], by rw [refW, if_pos (by omega)]; exact hP⟩) | (refine ⟨?_, hP⟩; rw [hjs]; clear ih; grind)))
  · refine P_aload_n (pc := 11) dX6_judged_11 rfl 1 rfl ?_
    refine P_iload_n (pc := 12) dX6_judged_12 rfl 0 rfl ?_
    refine P_callVi (Y' := mX6_no) (as := [_]) (pc := 13) dX6_judged_13 rfl (by decide : 0 < 6) sM_0 rfl ml_RX6_109 im_X6_no se_X6_no mk_X6_no (Nat.le_of_ble_eq_true rfl) (c_X6_no (by omega)) (fun z_ μ_ hq => ?_)
    obtain ⟨rfl, hμ_⟩ := hq
    have hμ_ := hμ_.symm
    subst hμ_
    try simp only [hLC.1.2]
    exact P_iret (pc := 16) dX6_judged_16 rfl (QI.mk (by first | (exfalso; omega) | (rw [← hz]; exact ⟨by rw [if_neg (by omega)], by rw [refW, if_neg (by omega)]; exact PM.rf⟩) | (rw [← hz]; exact ⟨by rw [if_pos (by omega), if_pos (by omega)], by rw [refW, if_pos (by omega)]; exact hP⟩) | (refine ⟨?_, hP⟩; rw [hjs]; clear ih; grind)))
