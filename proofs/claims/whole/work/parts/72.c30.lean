theorem findN_non {p : Nat → Bool} {n : Nat} (h : ∀ i, i < n → p i = false) : findN p n 0 = none := by
  have := findN_at (p := p) n 0 0 (fun i _ hi => h i (by omega))
  exact this
theorem findN_som {p : Nat → Bool} {n i : Nat} (hi : i < n) (h1 : p i = true) (h : ∀ j, j < i → p j = false) : findN p n 0 = some i := by
  have := findN_at (p := p) i (n - i) 0 (fun j _ hj => h j (by omega))
  rw [show i + (n - i) = n by omega, Nat.zero_add] at this
  rw [this]
  obtain ⟨k, hk⟩ : ∃ k, n - i = k + 1 := ⟨n - i - 1, by omega⟩
  rw [hk]
  simp only [findN]
  rw [if_pos h1]
def P2 (K F : Cel) (h : Int) (y x : Nat) : Prop := ∀ y' x', x' < y' → (y' < y ∨ (y' = y ∧ x' < x)) → rivB K F h (2 ^ x' ||| 2 ^ y') = false
def P3 (K F : Cel) (h : Int) (v y x : Nat) : Prop := ∀ v' y' x', x' < y' → y' < v' → (v' < v ∨ (v' = v ∧ (y' < y ∨ (y' = y ∧ x' < x)))) → rivB K F h (2 ^ x' ||| 2 ^ y' ||| 2 ^ v') = false
theorem pow_le_or {x y : Nat} : 2 ^ y ≤ 2 ^ x ||| 2 ^ y := Nat.right_le_or
theorem riv2_some {K F : Cel} {h : Int} {y x : Nat} (hK : KOK K) (hx : x < y) (hy : y < (K 0 11).toNat) (hB : rivB K F h (2 ^ x ||| 2 ^ y) = true) (hP : P2 K F h y x) : rivP K F h 2 = some (2 ^ x ||| 2 ^ y) := by
  have hK1 := hK.1
  have hp : 2 ^ (K 0 11).toNat ≤ 2 ^ 12 := Nat.pow_le_pow_right (by decide) (by omega)
  have hlt : 2 ^ x ||| 2 ^ y < 2 ^ (K 0 11).toNat := Nat.or_lt_two_pow (Nat.pow_lt_pow_right (by decide) (by omega)) (Nat.pow_lt_pow_right (by decide) hy)
  refine findN_som hlt ?_ (fun s hs => ?_)
  · rw [hB, two_cnt y (by omega) x hx]; rfl
  · by_cases q : cnt31 s = 2
    · obtain ⟨y', hy', x', hx', rfl⟩ := two_all s (by omega) q
      rw [hP y' x' hx' (two_lt y (by omega) x hx y' hy' x' hx' hs), Bool.and_false]
    · rw [decide_eq_false q]; rfl
theorem riv2_none {K F : Cel} {h : Int} (hK : KOK K) (hP : P2 K F h (K 0 11).toNat 0) : rivP K F h 2 = none := by
  have hK1 := hK.1
  have hp : 2 ^ (K 0 11).toNat ≤ 2 ^ 12 := Nat.pow_le_pow_right (by decide) (by omega)
  refine findN_non (fun s hs => ?_)
  by_cases q : cnt31 s = 2
  · obtain ⟨y', hy', x', hx', rfl⟩ := two_all s (by omega) q
    have g : 2 ^ y' < 2 ^ (K 0 11).toNat := Nat.lt_of_le_of_lt pow_le_or hs
    have g2 : y' < (K 0 11).toNat := (Nat.pow_lt_pow_iff_right (by decide)).mp g
    rw [hP y' x' hx' (Or.inl g2), Bool.and_false]
  · rw [decide_eq_false q]; rfl
theorem riv3_some {K F : Cel} {h : Int} {v y x : Nat} (hK : KOK K) (hx : x < y) (hy : y < v) (hv : v < (K 0 11).toNat) (hB : rivB K F h (2 ^ x ||| 2 ^ y ||| 2 ^ v) = true) (hP : P3 K F h v y x) : rivP K F h 3 = some (2 ^ x ||| 2 ^ y ||| 2 ^ v) := by
  have hK1 := hK.1
  have hp : 2 ^ (K 0 11).toNat ≤ 2 ^ 12 := Nat.pow_le_pow_right (by decide) (by omega)
  have hlt : 2 ^ x ||| 2 ^ y ||| 2 ^ v < 2 ^ (K 0 11).toNat := Nat.or_lt_two_pow (Nat.or_lt_two_pow (Nat.pow_lt_pow_right (by decide) (by omega)) (Nat.pow_lt_pow_right (by decide) (by omega))) (Nat.pow_lt_pow_right (by decide) hv)
  refine findN_som hlt ?_ (fun s hs => ?_)
  · rw [hB, three_cnt v (by omega) y hy x hx]; rfl
  · by_cases q : cnt31 s = 3
    · obtain ⟨v', hv', y', hy', x', hx', rfl⟩ := three_all s (by omega) q
      rw [hP v' y' x' hx' hy' (three_lt v (by omega) y hy x hx v' hv' y' hy' x' hx' hs), Bool.and_false]
    · rw [decide_eq_false q]; rfl
theorem riv3_none {K F : Cel} {h : Int} (hK : KOK K) (hP : P3 K F h (K 0 11).toNat 0 0) : rivP K F h 3 = none := by
  have hK1 := hK.1
  have hp : 2 ^ (K 0 11).toNat ≤ 2 ^ 12 := Nat.pow_le_pow_right (by decide) (by omega)
  refine findN_non (fun s hs => ?_)
  by_cases q : cnt31 s = 3
  · obtain ⟨v', hv', y', hy', x', hx', rfl⟩ := three_all s (by omega) q
    have g : 2 ^ v' < 2 ^ (K 0 11).toNat := Nat.lt_of_le_of_lt (Nat.right_le_or : 2 ^ v' ≤ (2 ^ x' ||| 2 ^ y') ||| 2 ^ v') hs
    have g2 : v' < (K 0 11).toNat := (Nat.pow_lt_pow_iff_right (by decide)).mp g
    rw [hP v' y' x' hx' hy' (Or.inl g2), Bool.and_false]
  · rw [decide_eq_false q]; rfl
theorem rivR_2 {K F : Cel} {h : Int} {s : Nat} (h2 : rivP K F h 2 = some s) : rivR K F h 2 2 = (s : Int) := by
  simp only [rivR]
  rw [h2]
theorem rivR_3 {K F : Cel} {h : Int} {s : Nat} (h2 : rivP K F h 2 = none) (h3 : rivP K F h 3 = some s) : rivR K F h 2 2 = (s : Int) := by
  simp only [rivR]
  rw [h2]
  dsimp only
  rw [show 2 + 1 = 3 from rfl, h3]
theorem rivR_n {K F : Cel} {h : Int} (h2 : rivP K F h 2 = none) (h3 : rivP K F h 3 = none) : rivR K F h 2 2 = -9 := by
  simp only [rivR]
  rw [h2]
  dsimp only
  rw [show 2 + 1 = 3 from rfl, h3]
theorem riv_bits {K F : Cel} {W : BitVec 64} {U : Pl} {h : Int} (hK : KOK K) (hW : LWP K F 0 W) (hU : UI K 0 U 48) (hh : 0 ≤ h ∧ h < 48) {x y v : Nat} (hx : x < (K 0 11).toNat) (hy : y < (K 0 11).toNat) (hv : v < (K 0 11).toNat) : rivC W (U (h * 12 + (x : Int))) (U (h * 12 + (y : Int))) (U (h * 12 + (v : Int))) ↔ rivB K F h (2 ^ x ||| 2 ^ y ||| 2 ^ v) = true :=
  rivC_B hx hy hv (cl_bit (o := 0) hK (by decide) (by omega) hW (fun w hw => hU h (x : Int) w hh.1 hh.2 (by omega) (by omega) hw)) (cl_bit (o := 0) hK (by decide) (by omega) hW (fun w hw => hU h (y : Int) w hh.1 hh.2 (by omega) (by omega) hw)) (cl_bit (o := 0) hK (by decide) (by omega) hW (fun w hw => hU h (v : Int) w hh.1 hh.2 (by omega) (by omega) hw))
set_option maxHeartbeats 1000000 in
set_option maxRecDepth 100000 in
theorem l_riv90 {μ : Mem} {b : Nat} {K F : Cel} {W : BitVec 64} {h : Int} {v y : Nat} (hb : b < 2) (hK : KOK K) (hW : LWP K F 0 W) (hU : UI K 0 (μ.2 (23 + 7 * b)) 48) (h6 : μ.1 1 6 = K 0 11) (hh : 0 ≤ h ∧ h < 48) (hv : v < (K 0 11).toNat) (hy : y < v) (hR2 : rivP K F h 2 = none) (kx : P3 K F h v (y + 1) 0 → PW shC 3 mX0_fewestRivals 133 [(0, vr (5 + b)), (1, vl W), (3, vi h), (4, vi (v : Int)), (5, vi (y : Int))] [] μ (QI (fun z μ' => z = rivR K F h 2 2 ∧ μ' = μ))) : ∀ (n x : Nat), x ≤ y → y - x < n → P3 K F h v y x → PW shC 3 mX0_fewestRivals 90 [(0, vr (5 + b)), (1, vl W), (3, vi h), (4, vi (v : Int)), (5, vi (y : Int)), (6, vi (x : Int))] [] μ (QI (fun z μ' => z = rivR K F h 2 2 ∧ μ' = μ)) := by
  intro n
  induction n with
  | zero => intro x _ q; omega
  | succ n ih =>
  intro x hx hn hP
  have hK1 := hK.1
  have hrb := fun q : x < y => riv_bits (x := x) (y := y) (v := v) hK hW hU hh (by omega) (by omega) (by omega)
  refine P_iload (pc := 90) dX0_fewestRivals_90 5 rfl ?_
  refine P_iload (pc := 92) dX0_fewestRivals_92 4 rfl ?_
  refine P_icmp_ge (tgt := 133) (pc := 94) dX0_fewestRivals_94 (by decide) (by first | assumption | (unfold InR; omega)) (by first | assumption | (unfold InR; omega)) (fun c_94 => ?_) (fun c_94 => ?_)
  · refine P_sub (L' := [(0, vr (5 + b)), (1, vl _), (3, vi _), (4, vi _), (5, vi _)]) [0, 1, 2, 3, 4] rfl ?_
    have e9 : x = y := by omega
    subst e9
    refine kx (fun v' y' x' g1 g2 g3 => hP v' y' x' g1 g2 (by omega))
  · refine P_aload_n (pc := 97) dX0_fewestRivals_97 rfl 0 rfl ?_
    refine P_lload_n (pc := 98) dX0_fewestRivals_98 rfl 1 rfl ?_
    refine P_iload_n (pc := 99) dX0_fewestRivals_99 rfl 2 rfl ?_
    refine P_iload (pc := 100) dX0_fewestRivals_100 5 rfl ?_
    refine P_iload (pc := 102) dX0_fewestRivals_102 4 rfl ?_
    refine P_iload (pc := 104) dX0_fewestRivals_104 3 rfl ?_
    refine P_callVi (Y' := mX0_areRivals) (as := [_, _, _, _, _]) (pc := 106) dX0_fewestRivals_106 rfl (by decide : 2 < 3) (sD_o hb) rfl ml_RX0_69 im_X0_areRivals se_X0_areRivals mk_X0_areRivals (Nat.le_of_ble_eq_true rfl) (c_X0_areRivals hb hh (by omega) (by omega) (by omega)) (fun z_ μ_ hq => ?_)
    obtain ⟨hz, hμ_⟩ := hq
    have hμ_ := hμ_.symm
    subst hμ_
    skip
    refine P_if_eq (tgt := 127) (pc := 109) dX0_fewestRivals_109 (by decide) (by first | assumption | (unfold InR; omega)) (fun c_109 => ?_) (fun c_109 => ?_)
    · refine P_iinc (L' := [(6, vi _), (0, vr (5 + b)), (1, vl _), (3, vi _), (4, vi _), (5, vi _)]) (pc := 127) dX0_fewestRivals_127 (by decide) 5 rfl rfl ?_
      refine P_goto (tgt := 90) (pc := 130) dX0_fewestRivals_130 (by decide) ?_
      refine P_sub (L' := [(0, vr (5 + b)), (1, vl _), (3, vi _), (4, vi _), (5, vi _), (6, vi _)]) [1, 2, 3, 4, 5, 0] rfl ?_
      refine P_cast (L' := [(0, vr (5 + b)), (1, vl W), (3, vi h), (4, vi (v : Int)), (5, vi (y : Int)), (6, vi ((x + 1 : Nat) : Int))]) rfl rfl (ih (x + 1) (by omega) (by omega) (fun v' y' x' g1 g2 g3 => ?_))
      by_cases q : v' = v ∧ y' = y ∧ x' = x
      · obtain ⟨rfl, rfl, rfl⟩ := q
        have := hrb (by omega)
        refine Bool.eq_false_iff.mpr (fun z => ?_)
        rcases hz with hz | hz
        · omega
        · exact hz.2 (this.mpr z)
      · exact hP v' y' x' g1 g2 (by omega)
    · refine P_iconst (pc := 112) dX0_fewestRivals_112 ?_
      refine P_iload (pc := 113) dX0_fewestRivals_113 5 rfl ?_
      refine P_ishl (pc := 115) dX0_fewestRivals_115 (wN_shl1N (by omega)) ?_
      refine P_iconst (pc := 116) dX0_fewestRivals_116 ?_
      refine P_iload (pc := 117) dX0_fewestRivals_117 4 rfl ?_
      refine P_ishl (pc := 119) dX0_fewestRivals_119 (wN_shl1N (by omega)) ?_
      refine P_ior (pc := 120) dX0_fewestRivals_120 (wN_or) ?_
      refine P_iconst (pc := 121) dX0_fewestRivals_121 ?_
      refine P_iload (pc := 122) dX0_fewestRivals_122 3 rfl ?_
      refine P_ishl (pc := 124) dX0_fewestRivals_124 (wN_shl1N (by omega)) ?_
      refine P_ior (pc := 125) dX0_fewestRivals_125 (wN_or) ?_
      exact P_iret (pc := 126) dX0_fewestRivals_126 rfl (QI.mk (by exact ⟨(rivR_3 (s := 2 ^ x ||| 2 ^ y ||| 2 ^ v) hR2 (riv3_some hK (by omega) (by omega) (by omega) ((hrb (by omega)).mp (by rcases hz with hz | hz; exact hz.2; omega)) hP)).symm, rfl⟩))
set_option maxHeartbeats 1000000 in
set_option maxRecDepth 100000 in
theorem l_riv80 {μ : Mem} {b : Nat} {K F : Cel} {W : BitVec 64} {h : Int} {v : Nat} (hb : b < 2) (hK : KOK K) (hW : LWP K F 0 W) (hU : UI K 0 (μ.2 (23 + 7 * b)) 48) (h6 : μ.1 1 6 = K 0 11) (hh : 0 ≤ h ∧ h < 48) (hv : v < (K 0 11).toNat) (hv2 : 2 ≤ v) (hR2 : rivP K F h 2 = none) (kx : P3 K F h (v + 1) 0 0 → PW shC 3 mX0_fewestRivals 139 [(0, vr (5 + b)), (1, vl W), (3, vi h), (4, vi (v : Int))] [] μ (QI (fun z μ' => z = rivR K F h 2 2 ∧ μ' = μ))) : ∀ (n y : Nat), 1 ≤ y → y ≤ v → v - y < n → P3 K F h v y 0 → PW shC 3 mX0_fewestRivals 80 [(0, vr (5 + b)), (1, vl W), (3, vi h), (4, vi (v : Int)), (5, vi (y : Int))] [] μ (QI (fun z μ' => z = rivR K F h 2 2 ∧ μ' = μ)) := by
  intro n
  induction n with
  | zero => intro y _ _ q; omega
  | succ n ih =>
  intro y hy1 hy hn hP
  have hK1 := hK.1
  refine P_iload (pc := 80) dX0_fewestRivals_80 4 rfl ?_
  refine P_iload (pc := 82) dX0_fewestRivals_82 3 rfl ?_
  refine P_icmp_ge (tgt := 139) (pc := 84) dX0_fewestRivals_84 (by decide) (by first | assumption | (unfold InR; omega)) (by first | assumption | (unfold InR; omega)) (fun c_84 => ?_) (fun c_84 => ?_)
  · refine P_sub (L' := [(0, vr (5 + b)), (1, vl _), (3, vi _), (4, vi _)]) [0, 1, 2, 3] rfl ?_
    have e9 : y = v := by omega
    subst e9
    refine kx (fun v' y' x' g1 g2 g3 => hP v' y' x' g1 g2 (by omega))
  · refine P_iconst (pc := 87) dX0_fewestRivals_87 ?_
    refine P_istore (L' := [(6, vi _), (0, vr (5 + b)), (1, vl _), (3, vi _), (4, vi _), (5, vi _)]) (pc := 88) dX0_fewestRivals_88 (by decide) rfl ?_
    refine P_sub (L' := [(0, vr (5 + b)), (1, vl _), (3, vi _), (4, vi _), (5, vi _), (6, vi _)]) [1, 2, 3, 4, 5, 0] rfl ?_
    refine l_riv90 hb hK hW hU h6 hh (by omega) (by omega) hR2 (fun hP9 => ?_) (y + 1) 0 (by omega) (by omega) hP
    · skip
      refine P_iinc (L' := [(5, vi _), (0, vr (5 + b)), (1, vl _), (3, vi _), (4, vi _)]) (pc := 133) dX0_fewestRivals_133 (by decide) 4 rfl rfl ?_
      refine P_goto (tgt := 80) (pc := 136) dX0_fewestRivals_136 (by decide) ?_
      refine P_sub (L' := [(0, vr (5 + b)), (1, vl _), (3, vi _), (4, vi _), (5, vi _)]) [1, 2, 3, 4, 0] rfl ?_
      exact P_cast (L' := [(0, vr (5 + b)), (1, vl W), (3, vi h), (4, vi (v : Int)), (5, vi ((y + 1 : Nat) : Int))]) rfl rfl (ih (y + 1) (by omega) (by omega) (by omega) hP9)
set_option maxHeartbeats 1000000 in
set_option maxRecDepth 100000 in
theorem l_riv65 {μ : Mem} {b : Nat} {K F : Cel} {W : BitVec 64} {h : Int} (hb : b < 2) (hK : KOK K) (hW : LWP K F 0 W) (hU : UI K 0 (μ.2 (23 + 7 * b)) 48) (h6 : μ.1 1 6 = K 0 11) (hh : 0 ≤ h ∧ h < 48) (hR2 : rivP K F h 2 = none) : ∀ (n v : Nat), 2 ≤ v → v ≤ 12 → 13 - v < n → P3 K F h v 0 0 → PW shC 3 mX0_fewestRivals 65 [(0, vr (5 + b)), (1, vl W), (3, vi h), (4, vi (v : Int))] [] μ (QI (fun z μ' => z = rivR K F h 2 2 ∧ μ' = μ)) := by
  intro n
  induction n with
  | zero => intro v _ _ q; omega
  | succ n ih =>
  intro v hv hv12 hn hP
  have hK1 := hK.1
  refine P_iload (pc := 65) dX0_fewestRivals_65 3 rfl ?_
  refine P_aload_n (pc := 67) dX0_fewestRivals_67 rfl 0 rfl ?_
  refine P_getR (pc := 68) dX0_fewestRivals_68 fa_RX0_9 (sD_o hb) fD_0 ?_
  refine P_getI (jj := 6) (pc := 71) dX0_fewestRivals_71 fa_RX0_66 sC_1 fC1_6 rfl ?_
  skip
  rw [h6]
  refine P_icmp_ge (tgt := 145) (pc := 74) dX0_fewestRivals_74 (by decide) (by first | assumption | (unfold InR; omega)) (by first | assumption | (unfold InR; omega)) (fun c_74 => ?_) (fun c_74 => ?_)
  · refine P_bipush (pc := 145) dX0_fewestRivals_145 (by decide) ?_
    exact P_iret (pc := 147) dX0_fewestRivals_147 rfl (QI.mk (by exact ⟨(rivR_n hR2 (riv3_none hK (fun v' y' x' g1 g2 g3 => hP v' y' x' g1 g2 (by omega)))).symm, rfl⟩))
  · refine P_iconst (pc := 77) dX0_fewestRivals_77 ?_
    refine P_istore (L' := [(5, vi _), (0, vr (5 + b)), (1, vl _), (3, vi _), (4, vi _)]) (pc := 78) dX0_fewestRivals_78 (by decide) rfl ?_
    refine P_sub (L' := [(0, vr (5 + b)), (1, vl _), (3, vi _), (4, vi _), (5, vi _)]) [1, 2, 3, 4, 0] rfl ?_
    refine l_riv80 hb hK hW hU h6 hh (by omega) (by omega) hR2 (fun hP9 => ?_) (v + 1) 1 (by omega) (by omega) (by omega) (fun v' y' x' g1 g2 g3 => hP v' y' x' g1 g2 (by omega))
    · skip
      refine P_iinc (L' := [(4, vi _), (0, vr (5 + b)), (1, vl _), (3, vi _)]) (pc := 139) dX0_fewestRivals_139 (by decide) 3 rfl rfl ?_
      refine P_goto (tgt := 65) (pc := 142) dX0_fewestRivals_142 (by decide) ?_
      refine P_sub (L' := [(0, vr (5 + b)), (1, vl _), (3, vi _), (4, vi _)]) [1, 2, 3, 0] rfl ?_
      exact P_cast (L' := [(0, vr (5 + b)), (1, vl W), (3, vi h), (4, vi ((v + 1 : Nat) : Int))]) rfl rfl (ih (v + 1) (by omega) (by omega) (by omega) hP9)
set_option maxHeartbeats 1000000 in
set_option maxRecDepth 100000 in
theorem l_riv18 {μ : Mem} {b : Nat} {K F : Cel} {W : BitVec 64} {h : Int} {y : Nat} (hb : b < 2) (hK : KOK K) (hW : LWP K F 0 W) (hU : UI K 0 (μ.2 (23 + 7 * b)) 48) (h6 : μ.1 1 6 = K 0 11) (hh : 0 ≤ h ∧ h < 48) (hy : y < (K 0 11).toNat) (kx : P2 K F h (y + 1) 0 → PW shC 3 mX0_fewestRivals 56 [(0, vr (5 + b)), (1, vl W), (3, vi h), (4, vi (y : Int))] [] μ (QI (fun z μ' => z = rivR K F h 2 2 ∧ μ' = μ))) : ∀ (n x : Nat), x ≤ y → y - x < n → P2 K F h y x → PW shC 3 mX0_fewestRivals 18 [(0, vr (5 + b)), (1, vl W), (3, vi h), (4, vi (y : Int)), (5, vi (x : Int))] [] μ (QI (fun z μ' => z = rivR K F h 2 2 ∧ μ' = μ)) := by
  intro n
  induction n with
  | zero => intro x _ q; omega
  | succ n ih =>
  intro x hx hn hP
  have hK1 := hK.1
  have hrb := fun q : x < y => riv_bits (x := x) (y := y) (v := y) hK hW hU hh (by omega) (by omega) (by omega)
  rw [Nat.or_assoc, Nat.or_self] at hrb
  refine P_iload (pc := 18) dX0_fewestRivals_18 4 rfl ?_
  refine P_iload (pc := 20) dX0_fewestRivals_20 3 rfl ?_
  refine P_icmp_ge (tgt := 56) (pc := 22) dX0_fewestRivals_22 (by decide) (by first | assumption | (unfold InR; omega)) (by first | assumption | (unfold InR; omega)) (fun c_22 => ?_) (fun c_22 => ?_)
  · refine P_sub (L' := [(0, vr (5 + b)), (1, vl _), (3, vi _), (4, vi _)]) [0, 1, 2, 3] rfl ?_
    have e9 : x = y := by omega
    subst e9
    refine kx (fun y' x' g1 g2 => hP y' x' g1 (by omega))
  · refine P_aload_n (pc := 25) dX0_fewestRivals_25 rfl 0 rfl ?_
    refine P_lload_n (pc := 26) dX0_fewestRivals_26 rfl 1 rfl ?_
    refine P_iload_n (pc := 27) dX0_fewestRivals_27 rfl 2 rfl ?_
    refine P_iload (pc := 28) dX0_fewestRivals_28 4 rfl ?_
    refine P_iload (pc := 30) dX0_fewestRivals_30 3 rfl ?_
    refine P_iload (pc := 32) dX0_fewestRivals_32 3 rfl ?_
    refine P_callVi (Y' := mX0_areRivals) (as := [_, _, _, _, _]) (pc := 34) dX0_fewestRivals_34 rfl (by decide : 2 < 3) (sD_o hb) rfl ml_RX0_69 im_X0_areRivals se_X0_areRivals mk_X0_areRivals (Nat.le_of_ble_eq_true rfl) (c_X0_areRivals hb hh (by omega) (by omega) (by omega)) (fun z_ μ_ hq => ?_)
    obtain ⟨hz, hμ_⟩ := hq
    have hμ_ := hμ_.symm
    subst hμ_
    skip
    refine P_if_eq (tgt := 50) (pc := 37) dX0_fewestRivals_37 (by decide) (by first | assumption | (unfold InR; omega)) (fun c_37 => ?_) (fun c_37 => ?_)
    · refine P_iinc (L' := [(5, vi _), (0, vr (5 + b)), (1, vl _), (3, vi _), (4, vi _)]) (pc := 50) dX0_fewestRivals_50 (by decide) 4 rfl rfl ?_
      refine P_goto (tgt := 18) (pc := 53) dX0_fewestRivals_53 (by decide) ?_
      refine P_sub (L' := [(0, vr (5 + b)), (1, vl _), (3, vi _), (4, vi _), (5, vi _)]) [1, 2, 3, 4, 0] rfl ?_
      refine P_cast (L' := [(0, vr (5 + b)), (1, vl W), (3, vi h), (4, vi (y : Int)), (5, vi ((x + 1 : Nat) : Int))]) rfl rfl (ih (x + 1) (by omega) (by omega) (fun y' x' g1 g2 => ?_))
      by_cases q : y' = y ∧ x' = x
      · obtain ⟨rfl, rfl⟩ := q
        have := hrb (by omega)
        refine Bool.eq_false_iff.mpr (fun z => ?_)
        rcases hz with hz | hz
        · omega
        · exact hz.2 (this.mpr z)
      · exact hP y' x' g1 (by omega)
    · refine P_iconst (pc := 40) dX0_fewestRivals_40 ?_
      refine P_iload (pc := 41) dX0_fewestRivals_41 4 rfl ?_
      refine P_ishl (pc := 43) dX0_fewestRivals_43 (wN_shl1N (by omega)) ?_
      refine P_iconst (pc := 44) dX0_fewestRivals_44 ?_
      refine P_iload (pc := 45) dX0_fewestRivals_45 3 rfl ?_
      refine P_ishl (pc := 47) dX0_fewestRivals_47 (wN_shl1N (by omega)) ?_
      refine P_ior (pc := 48) dX0_fewestRivals_48 (wN_or) ?_
      exact P_iret (pc := 49) dX0_fewestRivals_49 rfl (QI.mk (by exact ⟨(rivR_2 (s := 2 ^ x ||| 2 ^ y) (riv2_some hK (by omega) (by omega) ((hrb (by omega)).mp (by rcases hz with hz | hz; exact hz.2; omega)) hP)).symm, rfl⟩))
set_option maxHeartbeats 1000000 in
set_option maxRecDepth 100000 in
theorem l_riv3 {μ : Mem} {b : Nat} {K F : Cel} {W : BitVec 64} {h : Int} (hb : b < 2) (hK : KOK K) (hW : LWP K F 0 W) (hU : UI K 0 (μ.2 (23 + 7 * b)) 48) (h6 : μ.1 1 6 = K 0 11) (hh : 0 ≤ h ∧ h < 48) : ∀ (n y : Nat), 1 ≤ y → y ≤ 12 → 13 - y < n → P2 K F h y 0 → PW shC 3 mX0_fewestRivals 3 [(0, vr (5 + b)), (1, vl W), (3, vi h), (4, vi (y : Int))] [] μ (QI (fun z μ' => z = rivR K F h 2 2 ∧ μ' = μ)) := by
  intro n
  induction n with
  | zero => intro y _ _ q; omega
  | succ n ih =>
  intro y hy hy12 hn hP
  have hK1 := hK.1
  refine P_iload (pc := 3) dX0_fewestRivals_3 3 rfl ?_
  refine P_aload_n (pc := 5) dX0_fewestRivals_5 rfl 0 rfl ?_
  refine P_getR (pc := 6) dX0_fewestRivals_6 fa_RX0_9 (sD_o hb) fD_0 ?_
  refine P_getI (jj := 6) (pc := 9) dX0_fewestRivals_9 fa_RX0_66 sC_1 fC1_6 rfl ?_
  skip
  rw [h6]
  refine P_icmp_ge (tgt := 62) (pc := 12) dX0_fewestRivals_12 (by decide) (by first | assumption | (unfold InR; omega)) (by first | assumption | (unfold InR; omega)) (fun c_12 => ?_) (fun c_12 => ?_)
  · refine P_iconst (pc := 62) dX0_fewestRivals_62 ?_
    refine P_istore (L' := [(4, vi _), (0, vr (5 + b)), (1, vl _), (3, vi _)]) (pc := 63) dX0_fewestRivals_63 (by decide) rfl ?_
    refine P_sub (L' := [(0, vr (5 + b)), (1, vl _), (3, vi _), (4, vi _)]) [1, 2, 3, 0] rfl ?_
    exact l_riv65 hb hK hW hU h6 hh (riv2_none hK (fun y' x' g1 g2 => hP y' x' g1 (by omega))) 12 2 (by omega) (by omega) (by omega) (fun v' y' x' g1 g2 g3 => by omega)
  · refine P_iconst (pc := 15) dX0_fewestRivals_15 ?_
    refine P_istore (L' := [(5, vi _), (0, vr (5 + b)), (1, vl _), (3, vi _), (4, vi _)]) (pc := 16) dX0_fewestRivals_16 (by decide) rfl ?_
    refine P_sub (L' := [(0, vr (5 + b)), (1, vl _), (3, vi _), (4, vi _), (5, vi _)]) [1, 2, 3, 4, 0] rfl ?_
    refine l_riv18 hb hK hW hU h6 hh (by omega) (fun hP9 => ?_) (y + 1) 0 (by omega) (by omega) hP
    · skip
      refine P_iinc (L' := [(4, vi _), (0, vr (5 + b)), (1, vl _), (3, vi _)]) (pc := 56) dX0_fewestRivals_56 (by decide) 3 rfl rfl ?_
      refine P_goto (tgt := 3) (pc := 59) dX0_fewestRivals_59 (by decide) ?_
      refine P_sub (L' := [(0, vr (5 + b)), (1, vl _), (3, vi _), (4, vi _)]) [1, 2, 3, 0] rfl ?_
      exact P_cast (L' := [(0, vr (5 + b)), (1, vl W), (3, vi h), (4, vi ((y + 1 : Nat) : Int))]) rfl rfl (ih (y + 1) (by omega) (by omega) (by omega) hP9)
set_option maxHeartbeats 1000000 in
set_option maxRecDepth 100000 in
theorem c_X0_fewestRivals {μ : Mem} {b : Nat} {K F : Cel} {W : BitVec 64} {h : Int} (hb : b < 2) (hK : KOK K) (hW : LWP K F 0 W) (hU : UI K 0 (μ.2 (23 + 7 * b)) 48) (h6 : μ.1 1 6 = K 0 11) (hh : 0 ≤ h ∧ h < 48) : PC shC 3 mX0_fewestRivals [vr (5 + b), vl W, vi h] (μ) (QI (fun z μ' => z = rivR K F h 2 2 ∧ μ' = μ)) := by
  refine PC.of (by decide +kernel) (Nat.le_of_ble_eq_true rfl) ?_
  refine P_sub (L' := [(0, vr (5 + b)), (1, vl W), (3, vi h)]) [0, 1, 2] rfl ?_
  refine P_iconst (pc := 0) dX0_fewestRivals_0 ?_
  refine P_istore (L' := [(4, vi _), (0, vr (5 + b)), (1, vl _), (3, vi _)]) (pc := 1) dX0_fewestRivals_1 (by decide) rfl ?_
  refine P_sub (L' := [(0, vr (5 + b)), (1, vl _), (3, vi _), (4, vi _)]) [1, 2, 3, 0] rfl ?_
  exact l_riv3 hb hK hW hU h6 hh 13 1 (by omega) (by omega) (by omega) (fun y' x' g1 g2 => by omega)
