/-- what a copied row holds -/
def cpF (n : Int) (a b : Int → Int) : Int → Int := fun j => if 0 ≤ j ∧ j < n then a j else b j
theorem cpF_e {n : Int} {a b : Int → Int} : (fun j => if 0 ≤ j ∧ j < 0 + n then a (0 + (j - 0)) else b j) = cpF n a b := by
  funext j
  unfold cpF
  by_cases h : 0 ≤ j ∧ j < n
  · rw [if_pos (by omega), if_pos h]; congr 1; omega
  · rw [if_neg (by omega), if_neg h]
theorem rowI_q {μ : Mem} {k : Nat} {f : Int → Int} : (rowI μ k f).1 k = f := by simp [rowI]
theorem rowI_ne {μ : Mem} {k q : Nat} {f : Int → Int} (h : q ≠ k) : (rowI μ k f).1 q = μ.1 q := by simp [rowI, h]
set_option maxHeartbeats 1000000 in
set_option maxRecDepth 100000 in
theorem c_X3_copyRow10_16 {μ : Mem}  : PC shC 1 mX3_copyRow [vr 10, vr 16] (μ) (QV (fun μ' => μ' = rowI μ 16 (cpF 12 (μ.1 10) (μ.1 16)))) := by
  refine PC.of (by decide +kernel) (Nat.le_of_ble_eq_true rfl) ?_
  refine P_sub (L' := [(0, vr 10), (1, vr 16)]) [0, 1] rfl ?_
  refine P_aload_n (pc := 0) dX3_copyRow_0 rfl 0 rfl ?_
  refine P_iconst (pc := 1) dX3_copyRow_1 ?_
  refine P_aload_n (pc := 2) dX3_copyRow_2 rfl 1 rfl ?_
  refine P_iconst (pc := 3) dX3_copyRow_3 ?_
  refine P_aload_n (pc := 4) dX3_copyRow_4 rfl 0 rfl ?_
  refine P_alen (pc := 5) dX3_copyRow_5 sC_10 (by decide) ?_
  refine P_aload_n (pc := 6) dX3_copyRow_6 rfl 1 rfl ?_
  refine P_alen (pc := 7) dX3_copyRow_7 sC_16 (by decide) ?_
  refine P_callSi (Y' := mJ9_min_7cf53) (as := [_, _]) (pc := 8) dX3_copyRow_8 rfl (by decide : 0 < 1) ml_RX3_78 sm_J9_min_7cf53 mk_J9_min_7cf53 (Nat.le_of_ble_eq_true rfl) (c_J9_min_7cf53 (by unfold InR; omega) (by unfold InR; omega)) (fun z_ μ_ hq => ?_)
  obtain ⟨hz, hμ_⟩ := hq
  subst hμ_
  have hz : z_ = 12 := by rw [hz]; rfl
  subst hz
  try simp (disch := decide) only [putI_ne, putI_self, putI_nej, rowI_q, rowI_ne, cpF_e]
  refine P_copyI (pc := 11) dX3_copyRow_11 ml_RX3_83 (by decide) (Nat.le_of_ble_eq_true rfl) sC_10 sC_16 (by omega) (by omega) (by omega) (by omega) (by omega) (by decide) (by decide) ?_
  try simp (disch := decide) only [putI_ne, putI_self, putI_nej, rowI_q, rowI_ne, cpF_e]
  exact P_vret (pc := 14) dX3_copyRow_14 rfl (QV.mk (by rfl))
set_option maxHeartbeats 1000000 in
set_option maxRecDepth 100000 in
theorem c_X3_copyRow11_17 {μ : Mem}  : PC shC 1 mX3_copyRow [vr 11, vr 17] (μ) (QV (fun μ' => μ' = rowI μ 17 (cpF 12 (μ.1 11) (μ.1 17)))) := by
  refine PC.of (by decide +kernel) (Nat.le_of_ble_eq_true rfl) ?_
  refine P_sub (L' := [(0, vr 11), (1, vr 17)]) [0, 1] rfl ?_
  refine P_aload_n (pc := 0) dX3_copyRow_0 rfl 0 rfl ?_
  refine P_iconst (pc := 1) dX3_copyRow_1 ?_
  refine P_aload_n (pc := 2) dX3_copyRow_2 rfl 1 rfl ?_
  refine P_iconst (pc := 3) dX3_copyRow_3 ?_
  refine P_aload_n (pc := 4) dX3_copyRow_4 rfl 0 rfl ?_
  refine P_alen (pc := 5) dX3_copyRow_5 sC_11 (by decide) ?_
  refine P_aload_n (pc := 6) dX3_copyRow_6 rfl 1 rfl ?_
  refine P_alen (pc := 7) dX3_copyRow_7 sC_17 (by decide) ?_
  refine P_callSi (Y' := mJ9_min_7cf53) (as := [_, _]) (pc := 8) dX3_copyRow_8 rfl (by decide : 0 < 1) ml_RX3_78 sm_J9_min_7cf53 mk_J9_min_7cf53 (Nat.le_of_ble_eq_true rfl) (c_J9_min_7cf53 (by unfold InR; omega) (by unfold InR; omega)) (fun z_ μ_ hq => ?_)
  obtain ⟨hz, hμ_⟩ := hq
  subst hμ_
  have hz : z_ = 12 := by rw [hz]; rfl
  subst hz
  try simp (disch := decide) only [putI_ne, putI_self, putI_nej, rowI_q, rowI_ne, cpF_e]
  refine P_copyI (pc := 11) dX3_copyRow_11 ml_RX3_83 (by decide) (Nat.le_of_ble_eq_true rfl) sC_11 sC_17 (by omega) (by omega) (by omega) (by omega) (by omega) (by decide) (by decide) ?_
  try simp (disch := decide) only [putI_ne, putI_self, putI_nej, rowI_q, rowI_ne, cpF_e]
  exact P_vret (pc := 14) dX3_copyRow_14 rfl (QV.mk (by rfl))
set_option maxHeartbeats 1000000 in
set_option maxRecDepth 100000 in
theorem c_X3_copyRow12_18 {μ : Mem}  : PC shC 1 mX3_copyRow [vr 12, vr 18] (μ) (QV (fun μ' => μ' = rowI μ 18 (cpF 3 (μ.1 12) (μ.1 18)))) := by
  refine PC.of (by decide +kernel) (Nat.le_of_ble_eq_true rfl) ?_
  refine P_sub (L' := [(0, vr 12), (1, vr 18)]) [0, 1] rfl ?_
  refine P_aload_n (pc := 0) dX3_copyRow_0 rfl 0 rfl ?_
  refine P_iconst (pc := 1) dX3_copyRow_1 ?_
  refine P_aload_n (pc := 2) dX3_copyRow_2 rfl 1 rfl ?_
  refine P_iconst (pc := 3) dX3_copyRow_3 ?_
  refine P_aload_n (pc := 4) dX3_copyRow_4 rfl 0 rfl ?_
  refine P_alen (pc := 5) dX3_copyRow_5 sC_12 (by decide) ?_
  refine P_aload_n (pc := 6) dX3_copyRow_6 rfl 1 rfl ?_
  refine P_alen (pc := 7) dX3_copyRow_7 sC_18 (by decide) ?_
  refine P_callSi (Y' := mJ9_min_7cf53) (as := [_, _]) (pc := 8) dX3_copyRow_8 rfl (by decide : 0 < 1) ml_RX3_78 sm_J9_min_7cf53 mk_J9_min_7cf53 (Nat.le_of_ble_eq_true rfl) (c_J9_min_7cf53 (by unfold InR; omega) (by unfold InR; omega)) (fun z_ μ_ hq => ?_)
  obtain ⟨hz, hμ_⟩ := hq
  subst hμ_
  have hz : z_ = 3 := by rw [hz]; rfl
  subst hz
  try simp (disch := decide) only [putI_ne, putI_self, putI_nej, rowI_q, rowI_ne, cpF_e]
  refine P_copyI (pc := 11) dX3_copyRow_11 ml_RX3_83 (by decide) (Nat.le_of_ble_eq_true rfl) sC_12 sC_18 (by omega) (by omega) (by omega) (by omega) (by omega) (by decide) (by decide) ?_
  try simp (disch := decide) only [putI_ne, putI_self, putI_nej, rowI_q, rowI_ne, cpF_e]
  exact P_vret (pc := 14) dX3_copyRow_14 rfl (QV.mk (by rfl))
set_option maxHeartbeats 1000000 in
set_option maxRecDepth 100000 in
theorem c_X3_copyRow13_19 {μ : Mem}  : PC shC 1 mX3_copyRow [vr 13, vr 19] (μ) (QV (fun μ' => μ' = rowI μ 19 (cpF 300 (μ.1 13) (μ.1 19)))) := by
  refine PC.of (by decide +kernel) (Nat.le_of_ble_eq_true rfl) ?_
  refine P_sub (L' := [(0, vr 13), (1, vr 19)]) [0, 1] rfl ?_
  refine P_aload_n (pc := 0) dX3_copyRow_0 rfl 0 rfl ?_
  refine P_iconst (pc := 1) dX3_copyRow_1 ?_
  refine P_aload_n (pc := 2) dX3_copyRow_2 rfl 1 rfl ?_
  refine P_iconst (pc := 3) dX3_copyRow_3 ?_
  refine P_aload_n (pc := 4) dX3_copyRow_4 rfl 0 rfl ?_
  refine P_alen (pc := 5) dX3_copyRow_5 sC_13 (by decide) ?_
  refine P_aload_n (pc := 6) dX3_copyRow_6 rfl 1 rfl ?_
  refine P_alen (pc := 7) dX3_copyRow_7 sC_19 (by decide) ?_
  refine P_callSi (Y' := mJ9_min_7cf53) (as := [_, _]) (pc := 8) dX3_copyRow_8 rfl (by decide : 0 < 1) ml_RX3_78 sm_J9_min_7cf53 mk_J9_min_7cf53 (Nat.le_of_ble_eq_true rfl) (c_J9_min_7cf53 (by unfold InR; omega) (by unfold InR; omega)) (fun z_ μ_ hq => ?_)
  obtain ⟨hz, hμ_⟩ := hq
  subst hμ_
  have hz : z_ = 300 := by rw [hz]; rfl
  subst hz
  try simp (disch := decide) only [putI_ne, putI_self, putI_nej, rowI_q, rowI_ne, cpF_e]
  refine P_copyI (pc := 11) dX3_copyRow_11 ml_RX3_83 (by decide) (Nat.le_of_ble_eq_true rfl) sC_13 sC_19 (by omega) (by omega) (by omega) (by omega) (by omega) (by decide) (by decide) ?_
  try simp (disch := decide) only [putI_ne, putI_self, putI_nej, rowI_q, rowI_ne, cpF_e]
  exact P_vret (pc := 14) dX3_copyRow_14 rfl (QV.mk (by rfl))
set_option maxHeartbeats 1000000 in
set_option maxRecDepth 100000 in
theorem c_X3_copyRow14_20 {μ : Mem}  : PC shC 1 mX3_copyRow [vr 14, vr 20] (μ) (QV (fun μ' => μ' = rowI μ 20 (cpF 36 (μ.1 14) (μ.1 20)))) := by
  refine PC.of (by decide +kernel) (Nat.le_of_ble_eq_true rfl) ?_
  refine P_sub (L' := [(0, vr 14), (1, vr 20)]) [0, 1] rfl ?_
  refine P_aload_n (pc := 0) dX3_copyRow_0 rfl 0 rfl ?_
  refine P_iconst (pc := 1) dX3_copyRow_1 ?_
  refine P_aload_n (pc := 2) dX3_copyRow_2 rfl 1 rfl ?_
  refine P_iconst (pc := 3) dX3_copyRow_3 ?_
  refine P_aload_n (pc := 4) dX3_copyRow_4 rfl 0 rfl ?_
  refine P_alen (pc := 5) dX3_copyRow_5 sC_14 (by decide) ?_
  refine P_aload_n (pc := 6) dX3_copyRow_6 rfl 1 rfl ?_
  refine P_alen (pc := 7) dX3_copyRow_7 sC_20 (by decide) ?_
  refine P_callSi (Y' := mJ9_min_7cf53) (as := [_, _]) (pc := 8) dX3_copyRow_8 rfl (by decide : 0 < 1) ml_RX3_78 sm_J9_min_7cf53 mk_J9_min_7cf53 (Nat.le_of_ble_eq_true rfl) (c_J9_min_7cf53 (by unfold InR; omega) (by unfold InR; omega)) (fun z_ μ_ hq => ?_)
  obtain ⟨hz, hμ_⟩ := hq
  subst hμ_
  have hz : z_ = 36 := by rw [hz]; rfl
  subst hz
  try simp (disch := decide) only [putI_ne, putI_self, putI_nej, rowI_q, rowI_ne, cpF_e]
  refine P_copyI (pc := 11) dX3_copyRow_11 ml_RX3_83 (by decide) (Nat.le_of_ble_eq_true rfl) sC_14 sC_20 (by omega) (by omega) (by omega) (by omega) (by omega) (by decide) (by decide) ?_
  try simp (disch := decide) only [putI_ne, putI_self, putI_nej, rowI_q, rowI_ne, cpF_e]
  exact P_vret (pc := 14) dX3_copyRow_14 rfl (QV.mk (by rfl))
set_option maxHeartbeats 1000000 in
set_option maxRecDepth 100000 in
theorem c_X3_copyRow15_21 {μ : Mem}  : PC shC 1 mX3_copyRow [vr 15, vr 21] (μ) (QV (fun μ' => μ' = rowI μ 21 (cpF 15 (μ.1 15) (μ.1 21)))) := by
  refine PC.of (by decide +kernel) (Nat.le_of_ble_eq_true rfl) ?_
  refine P_sub (L' := [(0, vr 15), (1, vr 21)]) [0, 1] rfl ?_
  refine P_aload_n (pc := 0) dX3_copyRow_0 rfl 0 rfl ?_
  refine P_iconst (pc := 1) dX3_copyRow_1 ?_
  refine P_aload_n (pc := 2) dX3_copyRow_2 rfl 1 rfl ?_
  refine P_iconst (pc := 3) dX3_copyRow_3 ?_
  refine P_aload_n (pc := 4) dX3_copyRow_4 rfl 0 rfl ?_
  refine P_alen (pc := 5) dX3_copyRow_5 sC_15 (by decide) ?_
  refine P_aload_n (pc := 6) dX3_copyRow_6 rfl 1 rfl ?_
  refine P_alen (pc := 7) dX3_copyRow_7 sC_21 (by decide) ?_
  refine P_callSi (Y' := mJ9_min_7cf53) (as := [_, _]) (pc := 8) dX3_copyRow_8 rfl (by decide : 0 < 1) ml_RX3_78 sm_J9_min_7cf53 mk_J9_min_7cf53 (Nat.le_of_ble_eq_true rfl) (c_J9_min_7cf53 (by unfold InR; omega) (by unfold InR; omega)) (fun z_ μ_ hq => ?_)
  obtain ⟨hz, hμ_⟩ := hq
  subst hμ_
  have hz : z_ = 15 := by rw [hz]; rfl
  subst hz
  try simp (disch := decide) only [putI_ne, putI_self, putI_nej, rowI_q, rowI_ne, cpF_e]
  refine P_copyI (pc := 11) dX3_copyRow_11 ml_RX3_83 (by decide) (Nat.le_of_ble_eq_true rfl) sC_15 sC_21 (by omega) (by omega) (by omega) (by omega) (by omega) (by decide) (by decide) ?_
  try simp (disch := decide) only [putI_ne, putI_self, putI_nej, rowI_q, rowI_ne, cpF_e]
  exact P_vret (pc := 14) dX3_copyRow_14 rfl (QV.mk (by rfl))
set_option maxHeartbeats 1000000 in
set_option maxRecDepth 100000 in
theorem c_X3_copyRow16_10 {μ : Mem}  : PC shC 1 mX3_copyRow [vr 16, vr 10] (μ) (QV (fun μ' => μ' = rowI μ 10 (cpF 12 (μ.1 16) (μ.1 10)))) := by
  refine PC.of (by decide +kernel) (Nat.le_of_ble_eq_true rfl) ?_
  refine P_sub (L' := [(0, vr 16), (1, vr 10)]) [0, 1] rfl ?_
  refine P_aload_n (pc := 0) dX3_copyRow_0 rfl 0 rfl ?_
  refine P_iconst (pc := 1) dX3_copyRow_1 ?_
  refine P_aload_n (pc := 2) dX3_copyRow_2 rfl 1 rfl ?_
  refine P_iconst (pc := 3) dX3_copyRow_3 ?_
  refine P_aload_n (pc := 4) dX3_copyRow_4 rfl 0 rfl ?_
  refine P_alen (pc := 5) dX3_copyRow_5 sC_16 (by decide) ?_
  refine P_aload_n (pc := 6) dX3_copyRow_6 rfl 1 rfl ?_
  refine P_alen (pc := 7) dX3_copyRow_7 sC_10 (by decide) ?_
  refine P_callSi (Y' := mJ9_min_7cf53) (as := [_, _]) (pc := 8) dX3_copyRow_8 rfl (by decide : 0 < 1) ml_RX3_78 sm_J9_min_7cf53 mk_J9_min_7cf53 (Nat.le_of_ble_eq_true rfl) (c_J9_min_7cf53 (by unfold InR; omega) (by unfold InR; omega)) (fun z_ μ_ hq => ?_)
  obtain ⟨hz, hμ_⟩ := hq
  subst hμ_
  have hz : z_ = 12 := by rw [hz]; rfl
  subst hz
  try simp (disch := decide) only [putI_ne, putI_self, putI_nej, rowI_q, rowI_ne, cpF_e]
  refine P_copyI (pc := 11) dX3_copyRow_11 ml_RX3_83 (by decide) (Nat.le_of_ble_eq_true rfl) sC_16 sC_10 (by omega) (by omega) (by omega) (by omega) (by omega) (by decide) (by decide) ?_
  try simp (disch := decide) only [putI_ne, putI_self, putI_nej, rowI_q, rowI_ne, cpF_e]
  exact P_vret (pc := 14) dX3_copyRow_14 rfl (QV.mk (by rfl))
set_option maxHeartbeats 1000000 in
set_option maxRecDepth 100000 in
theorem c_X3_copyRow17_11 {μ : Mem}  : PC shC 1 mX3_copyRow [vr 17, vr 11] (μ) (QV (fun μ' => μ' = rowI μ 11 (cpF 12 (μ.1 17) (μ.1 11)))) := by
  refine PC.of (by decide +kernel) (Nat.le_of_ble_eq_true rfl) ?_
  refine P_sub (L' := [(0, vr 17), (1, vr 11)]) [0, 1] rfl ?_
  refine P_aload_n (pc := 0) dX3_copyRow_0 rfl 0 rfl ?_
  refine P_iconst (pc := 1) dX3_copyRow_1 ?_
  refine P_aload_n (pc := 2) dX3_copyRow_2 rfl 1 rfl ?_
  refine P_iconst (pc := 3) dX3_copyRow_3 ?_
  refine P_aload_n (pc := 4) dX3_copyRow_4 rfl 0 rfl ?_
  refine P_alen (pc := 5) dX3_copyRow_5 sC_17 (by decide) ?_
  refine P_aload_n (pc := 6) dX3_copyRow_6 rfl 1 rfl ?_
  refine P_alen (pc := 7) dX3_copyRow_7 sC_11 (by decide) ?_
  refine P_callSi (Y' := mJ9_min_7cf53) (as := [_, _]) (pc := 8) dX3_copyRow_8 rfl (by decide : 0 < 1) ml_RX3_78 sm_J9_min_7cf53 mk_J9_min_7cf53 (Nat.le_of_ble_eq_true rfl) (c_J9_min_7cf53 (by unfold InR; omega) (by unfold InR; omega)) (fun z_ μ_ hq => ?_)
  obtain ⟨hz, hμ_⟩ := hq
  subst hμ_
  have hz : z_ = 12 := by rw [hz]; rfl
  subst hz
  try simp (disch := decide) only [putI_ne, putI_self, putI_nej, rowI_q, rowI_ne, cpF_e]
  refine P_copyI (pc := 11) dX3_copyRow_11 ml_RX3_83 (by decide) (Nat.le_of_ble_eq_true rfl) sC_17 sC_11 (by omega) (by omega) (by omega) (by omega) (by omega) (by decide) (by decide) ?_
  try simp (disch := decide) only [putI_ne, putI_self, putI_nej, rowI_q, rowI_ne, cpF_e]
  exact P_vret (pc := 14) dX3_copyRow_14 rfl (QV.mk (by rfl))
set_option maxHeartbeats 1000000 in
set_option maxRecDepth 100000 in
theorem c_X3_copyRow18_12 {μ : Mem}  : PC shC 1 mX3_copyRow [vr 18, vr 12] (μ) (QV (fun μ' => μ' = rowI μ 12 (cpF 3 (μ.1 18) (μ.1 12)))) := by
  refine PC.of (by decide +kernel) (Nat.le_of_ble_eq_true rfl) ?_
  refine P_sub (L' := [(0, vr 18), (1, vr 12)]) [0, 1] rfl ?_
  refine P_aload_n (pc := 0) dX3_copyRow_0 rfl 0 rfl ?_
  refine P_iconst (pc := 1) dX3_copyRow_1 ?_
  refine P_aload_n (pc := 2) dX3_copyRow_2 rfl 1 rfl ?_
  refine P_iconst (pc := 3) dX3_copyRow_3 ?_
  refine P_aload_n (pc := 4) dX3_copyRow_4 rfl 0 rfl ?_
  refine P_alen (pc := 5) dX3_copyRow_5 sC_18 (by decide) ?_
  refine P_aload_n (pc := 6) dX3_copyRow_6 rfl 1 rfl ?_
  refine P_alen (pc := 7) dX3_copyRow_7 sC_12 (by decide) ?_
  refine P_callSi (Y' := mJ9_min_7cf53) (as := [_, _]) (pc := 8) dX3_copyRow_8 rfl (by decide : 0 < 1) ml_RX3_78 sm_J9_min_7cf53 mk_J9_min_7cf53 (Nat.le_of_ble_eq_true rfl) (c_J9_min_7cf53 (by unfold InR; omega) (by unfold InR; omega)) (fun z_ μ_ hq => ?_)
  obtain ⟨hz, hμ_⟩ := hq
  subst hμ_
  have hz : z_ = 3 := by rw [hz]; rfl
  subst hz
  try simp (disch := decide) only [putI_ne, putI_self, putI_nej, rowI_q, rowI_ne, cpF_e]
  refine P_copyI (pc := 11) dX3_copyRow_11 ml_RX3_83 (by decide) (Nat.le_of_ble_eq_true rfl) sC_18 sC_12 (by omega) (by omega) (by omega) (by omega) (by omega) (by decide) (by decide) ?_
  try simp (disch := decide) only [putI_ne, putI_self, putI_nej, rowI_q, rowI_ne, cpF_e]
  exact P_vret (pc := 14) dX3_copyRow_14 rfl (QV.mk (by rfl))
set_option maxHeartbeats 1000000 in
set_option maxRecDepth 100000 in
theorem c_X3_copyRow19_13 {μ : Mem}  : PC shC 1 mX3_copyRow [vr 19, vr 13] (μ) (QV (fun μ' => μ' = rowI μ 13 (cpF 300 (μ.1 19) (μ.1 13)))) := by
  refine PC.of (by decide +kernel) (Nat.le_of_ble_eq_true rfl) ?_
  refine P_sub (L' := [(0, vr 19), (1, vr 13)]) [0, 1] rfl ?_
  refine P_aload_n (pc := 0) dX3_copyRow_0 rfl 0 rfl ?_
  refine P_iconst (pc := 1) dX3_copyRow_1 ?_
  refine P_aload_n (pc := 2) dX3_copyRow_2 rfl 1 rfl ?_
  refine P_iconst (pc := 3) dX3_copyRow_3 ?_
  refine P_aload_n (pc := 4) dX3_copyRow_4 rfl 0 rfl ?_
  refine P_alen (pc := 5) dX3_copyRow_5 sC_19 (by decide) ?_
  refine P_aload_n (pc := 6) dX3_copyRow_6 rfl 1 rfl ?_
  refine P_alen (pc := 7) dX3_copyRow_7 sC_13 (by decide) ?_
  refine P_callSi (Y' := mJ9_min_7cf53) (as := [_, _]) (pc := 8) dX3_copyRow_8 rfl (by decide : 0 < 1) ml_RX3_78 sm_J9_min_7cf53 mk_J9_min_7cf53 (Nat.le_of_ble_eq_true rfl) (c_J9_min_7cf53 (by unfold InR; omega) (by unfold InR; omega)) (fun z_ μ_ hq => ?_)
  obtain ⟨hz, hμ_⟩ := hq
  subst hμ_
  have hz : z_ = 300 := by rw [hz]; rfl
  subst hz
  try simp (disch := decide) only [putI_ne, putI_self, putI_nej, rowI_q, rowI_ne, cpF_e]
  refine P_copyI (pc := 11) dX3_copyRow_11 ml_RX3_83 (by decide) (Nat.le_of_ble_eq_true rfl) sC_19 sC_13 (by omega) (by omega) (by omega) (by omega) (by omega) (by decide) (by decide) ?_
  try simp (disch := decide) only [putI_ne, putI_self, putI_nej, rowI_q, rowI_ne, cpF_e]
  exact P_vret (pc := 14) dX3_copyRow_14 rfl (QV.mk (by rfl))
set_option maxHeartbeats 1000000 in
set_option maxRecDepth 100000 in
theorem c_X3_copyRow20_14 {μ : Mem}  : PC shC 1 mX3_copyRow [vr 20, vr 14] (μ) (QV (fun μ' => μ' = rowI μ 14 (cpF 36 (μ.1 20) (μ.1 14)))) := by
  refine PC.of (by decide +kernel) (Nat.le_of_ble_eq_true rfl) ?_
  refine P_sub (L' := [(0, vr 20), (1, vr 14)]) [0, 1] rfl ?_
  refine P_aload_n (pc := 0) dX3_copyRow_0 rfl 0 rfl ?_
  refine P_iconst (pc := 1) dX3_copyRow_1 ?_
  refine P_aload_n (pc := 2) dX3_copyRow_2 rfl 1 rfl ?_
  refine P_iconst (pc := 3) dX3_copyRow_3 ?_
  refine P_aload_n (pc := 4) dX3_copyRow_4 rfl 0 rfl ?_
  refine P_alen (pc := 5) dX3_copyRow_5 sC_20 (by decide) ?_
  refine P_aload_n (pc := 6) dX3_copyRow_6 rfl 1 rfl ?_
  refine P_alen (pc := 7) dX3_copyRow_7 sC_14 (by decide) ?_
  refine P_callSi (Y' := mJ9_min_7cf53) (as := [_, _]) (pc := 8) dX3_copyRow_8 rfl (by decide : 0 < 1) ml_RX3_78 sm_J9_min_7cf53 mk_J9_min_7cf53 (Nat.le_of_ble_eq_true rfl) (c_J9_min_7cf53 (by unfold InR; omega) (by unfold InR; omega)) (fun z_ μ_ hq => ?_)
  obtain ⟨hz, hμ_⟩ := hq
  subst hμ_
  have hz : z_ = 36 := by rw [hz]; rfl
  subst hz
  try simp (disch := decide) only [putI_ne, putI_self, putI_nej, rowI_q, rowI_ne, cpF_e]
  refine P_copyI (pc := 11) dX3_copyRow_11 ml_RX3_83 (by decide) (Nat.le_of_ble_eq_true rfl) sC_20 sC_14 (by omega) (by omega) (by omega) (by omega) (by omega) (by decide) (by decide) ?_
  try simp (disch := decide) only [putI_ne, putI_self, putI_nej, rowI_q, rowI_ne, cpF_e]
  exact P_vret (pc := 14) dX3_copyRow_14 rfl (QV.mk (by rfl))
set_option maxHeartbeats 1000000 in
set_option maxRecDepth 100000 in
theorem c_X3_copyRow21_15 {μ : Mem}  : PC shC 1 mX3_copyRow [vr 21, vr 15] (μ) (QV (fun μ' => μ' = rowI μ 15 (cpF 15 (μ.1 21) (μ.1 15)))) := by
  refine PC.of (by decide +kernel) (Nat.le_of_ble_eq_true rfl) ?_
  refine P_sub (L' := [(0, vr 21), (1, vr 15)]) [0, 1] rfl ?_
  refine P_aload_n (pc := 0) dX3_copyRow_0 rfl 0 rfl ?_
  refine P_iconst (pc := 1) dX3_copyRow_1 ?_
  refine P_aload_n (pc := 2) dX3_copyRow_2 rfl 1 rfl ?_
  refine P_iconst (pc := 3) dX3_copyRow_3 ?_
  refine P_aload_n (pc := 4) dX3_copyRow_4 rfl 0 rfl ?_
  refine P_alen (pc := 5) dX3_copyRow_5 sC_21 (by decide) ?_
  refine P_aload_n (pc := 6) dX3_copyRow_6 rfl 1 rfl ?_
  refine P_alen (pc := 7) dX3_copyRow_7 sC_15 (by decide) ?_
  refine P_callSi (Y' := mJ9_min_7cf53) (as := [_, _]) (pc := 8) dX3_copyRow_8 rfl (by decide : 0 < 1) ml_RX3_78 sm_J9_min_7cf53 mk_J9_min_7cf53 (Nat.le_of_ble_eq_true rfl) (c_J9_min_7cf53 (by unfold InR; omega) (by unfold InR; omega)) (fun z_ μ_ hq => ?_)
  obtain ⟨hz, hμ_⟩ := hq
  subst hμ_
  have hz : z_ = 15 := by rw [hz]; rfl
  subst hz
  try simp (disch := decide) only [putI_ne, putI_self, putI_nej, rowI_q, rowI_ne, cpF_e]
  refine P_copyI (pc := 11) dX3_copyRow_11 ml_RX3_83 (by decide) (Nat.le_of_ble_eq_true rfl) sC_21 sC_15 (by omega) (by omega) (by omega) (by omega) (by omega) (by decide) (by decide) ?_
  try simp (disch := decide) only [putI_ne, putI_self, putI_nej, rowI_q, rowI_ne, cpF_e]
  exact P_vret (pc := 14) dX3_copyRow_14 rfl (QV.mk (by rfl))
def cCopy2 (μ : Mem) : Mem := (putI (putI (putI (putI (putI (putI (putI (rowI (rowI (rowI (rowI (rowI (rowI μ 16 (cpF 12 (μ.1 10) (μ.1 16))) 17 (cpF 12 (μ.1 11) (μ.1 17))) 18 (cpF 3 (μ.1 12) (μ.1 18))) 19 (cpF 300 (μ.1 13) (μ.1 19))) 20 (cpF 36 (μ.1 14) (μ.1 20))) 21 (cpF 15 (μ.1 15) (μ.1 21))) 2 6 (μ.1 1 6)) 2 7 (μ.1 1 7)) 2 8 (μ.1 1 8)) 2 9 (μ.1 1 9)) 2 10 (μ.1 1 10)) 2 11 (μ.1 1 11)) 2 12 (μ.1 2 12 + 1))
set_option maxHeartbeats 1000000 in
set_option maxRecDepth 100000 in
theorem c_X3_copyFrom2 {μ : Mem}  : PC shC 2 mX3_copyFrom [vr 2, vr 1] (μ) (QV (fun μ' => μ' = cCopy2 μ)) := by
  refine PC.of (by decide +kernel) (Nat.le_of_ble_eq_true rfl) ?_
  refine P_sub (L' := [(0, vr 2), (1, vr 1)]) [0, 1] rfl ?_
  refine P_aload_n (pc := 0) dX3_copyFrom_0 rfl 1 rfl ?_
  refine P_getR (pc := 1) dX3_copyFrom_1 fa_RX3_9 sC_1 fC1_0 ?_
  refine P_aload_n (pc := 4) dX3_copyFrom_4 rfl 0 rfl ?_
  refine P_getR (pc := 5) dX3_copyFrom_5 fa_RX3_9 sC_2 fC2_0 ?_
  refine P_callSv (Y' := mX3_copyRow) (as := [_, _]) (pc := 8) dX3_copyFrom_8 rfl (by decide : 1 < 2) ml_RX3_74 sm_X3_copyRow mk_X3_copyRow (Nat.le_of_ble_eq_true rfl) (c_X3_copyRow10_16) (fun μ_ hq => ?_)
  subst hq
  try simp (disch := decide) only [putI_ne, putI_self, putI_nej, rowI_q, rowI_ne, cpF_e]
  refine P_aload_n (pc := 11) dX3_copyFrom_11 rfl 1 rfl ?_
  refine P_getR (pc := 12) dX3_copyFrom_12 fa_RX3_15 sC_1 fC1_1 ?_
  refine P_aload_n (pc := 15) dX3_copyFrom_15 rfl 0 rfl ?_
  refine P_getR (pc := 16) dX3_copyFrom_16 fa_RX3_15 sC_2 fC2_1 ?_
  refine P_callSv (Y' := mX3_copyRow) (as := [_, _]) (pc := 19) dX3_copyFrom_19 rfl (by decide : 1 < 2) ml_RX3_74 sm_X3_copyRow mk_X3_copyRow (Nat.le_of_ble_eq_true rfl) (c_X3_copyRow11_17) (fun μ_ hq => ?_)
  subst hq
  try simp (disch := decide) only [putI_ne, putI_self, putI_nej, rowI_q, rowI_ne, cpF_e]
  refine P_aload_n (pc := 22) dX3_copyFrom_22 rfl 1 rfl ?_
  refine P_getR (pc := 23) dX3_copyFrom_23 fa_RX3_18 sC_1 fC1_2 ?_
  refine P_aload_n (pc := 26) dX3_copyFrom_26 rfl 0 rfl ?_
  refine P_getR (pc := 27) dX3_copyFrom_27 fa_RX3_18 sC_2 fC2_2 ?_
  refine P_callSv (Y' := mX3_copyRow) (as := [_, _]) (pc := 30) dX3_copyFrom_30 rfl (by decide : 1 < 2) ml_RX3_74 sm_X3_copyRow mk_X3_copyRow (Nat.le_of_ble_eq_true rfl) (c_X3_copyRow12_18) (fun μ_ hq => ?_)
  subst hq
  try simp (disch := decide) only [putI_ne, putI_self, putI_nej, rowI_q, rowI_ne, cpF_e]
  refine P_aload_n (pc := 33) dX3_copyFrom_33 rfl 1 rfl ?_
  refine P_getR (pc := 34) dX3_copyFrom_34 fa_RX3_21 sC_1 fC1_3 ?_
  refine P_aload_n (pc := 37) dX3_copyFrom_37 rfl 0 rfl ?_
  refine P_getR (pc := 38) dX3_copyFrom_38 fa_RX3_21 sC_2 fC2_3 ?_
  refine P_callSv (Y' := mX3_copyRow) (as := [_, _]) (pc := 41) dX3_copyFrom_41 rfl (by decide : 1 < 2) ml_RX3_74 sm_X3_copyRow mk_X3_copyRow (Nat.le_of_ble_eq_true rfl) (c_X3_copyRow13_19) (fun μ_ hq => ?_)
  subst hq
  try simp (disch := decide) only [putI_ne, putI_self, putI_nej, rowI_q, rowI_ne, cpF_e]
  refine P_aload_n (pc := 44) dX3_copyFrom_44 rfl 1 rfl ?_
  refine P_getR (pc := 45) dX3_copyFrom_45 fa_RX3_24 sC_1 fC1_4 ?_
  refine P_aload_n (pc := 48) dX3_copyFrom_48 rfl 0 rfl ?_
  refine P_getR (pc := 49) dX3_copyFrom_49 fa_RX3_24 sC_2 fC2_4 ?_
  refine P_callSv (Y' := mX3_copyRow) (as := [_, _]) (pc := 52) dX3_copyFrom_52 rfl (by decide : 1 < 2) ml_RX3_74 sm_X3_copyRow mk_X3_copyRow (Nat.le_of_ble_eq_true rfl) (c_X3_copyRow14_20) (fun μ_ hq => ?_)
  subst hq
  try simp (disch := decide) only [putI_ne, putI_self, putI_nej, rowI_q, rowI_ne, cpF_e]
  refine P_aload_n (pc := 55) dX3_copyFrom_55 rfl 1 rfl ?_
  refine P_getR (pc := 56) dX3_copyFrom_56 fa_RX3_27 sC_1 fC1_5 ?_
  refine P_aload_n (pc := 59) dX3_copyFrom_59 rfl 0 rfl ?_
  refine P_getR (pc := 60) dX3_copyFrom_60 fa_RX3_27 sC_2 fC2_5 ?_
  refine P_callSv (Y' := mX3_copyRow) (as := [_, _]) (pc := 63) dX3_copyFrom_63 rfl (by decide : 1 < 2) ml_RX3_74 sm_X3_copyRow mk_X3_copyRow (Nat.le_of_ble_eq_true rfl) (c_X3_copyRow15_21) (fun μ_ hq => ?_)
  subst hq
  try simp (disch := decide) only [putI_ne, putI_self, putI_nej, rowI_q, rowI_ne, cpF_e]
  refine P_aload_n (pc := 66) dX3_copyFrom_66 rfl 0 rfl ?_
  refine P_aload_n (pc := 67) dX3_copyFrom_67 rfl 1 rfl ?_
  refine P_getI (jj := 6) (pc := 68) dX3_copyFrom_68 fa_RX3_30 sC_1 fC1_6 rfl ?_
  try simp (disch := decide) only [putI_ne, putI_self, putI_nej, rowI_q, rowI_ne, cpF_e]
  refine P_putI (jj := 6) (pc := 71) dX3_copyFrom_71 fa_RX3_30 fp_3_6 sC_2 fC2_6 rfl ?_
  try simp (disch := decide) only [putI_ne, putI_self, putI_nej, rowI_q, rowI_ne, cpF_e]
  refine P_aload_n (pc := 74) dX3_copyFrom_74 rfl 0 rfl ?_
  refine P_aload_n (pc := 75) dX3_copyFrom_75 rfl 1 rfl ?_
  refine P_getI (jj := 7) (pc := 76) dX3_copyFrom_76 fa_RX3_47 sC_1 fC1_7 rfl ?_
  try simp (disch := decide) only [putI_ne, putI_self, putI_nej, rowI_q, rowI_ne, cpF_e]
  refine P_putI (jj := 7) (pc := 79) dX3_copyFrom_79 fa_RX3_47 fp_3_7 sC_2 fC2_7 rfl ?_
  try simp (disch := decide) only [putI_ne, putI_self, putI_nej, rowI_q, rowI_ne, cpF_e]
  refine P_aload_n (pc := 82) dX3_copyFrom_82 rfl 0 rfl ?_
  refine P_aload_n (pc := 83) dX3_copyFrom_83 rfl 1 rfl ?_
  refine P_getI (jj := 8) (pc := 84) dX3_copyFrom_84 fa_RX3_54 sC_1 fC1_8 rfl ?_
  try simp (disch := decide) only [putI_ne, putI_self, putI_nej, rowI_q, rowI_ne, cpF_e]
  refine P_putI (jj := 8) (pc := 87) dX3_copyFrom_87 fa_RX3_54 fp_3_8 sC_2 fC2_8 rfl ?_
  try simp (disch := decide) only [putI_ne, putI_self, putI_nej, rowI_q, rowI_ne, cpF_e]
  refine P_aload_n (pc := 90) dX3_copyFrom_90 rfl 0 rfl ?_
  refine P_aload_n (pc := 91) dX3_copyFrom_91 rfl 1 rfl ?_
  refine P_getI (jj := 9) (pc := 92) dX3_copyFrom_92 fa_RX3_57 sC_1 fC1_9 rfl ?_
  try simp (disch := decide) only [putI_ne, putI_self, putI_nej, rowI_q, rowI_ne, cpF_e]
  refine P_putI (jj := 9) (pc := 95) dX3_copyFrom_95 fa_RX3_57 fp_3_9 sC_2 fC2_9 rfl ?_
  try simp (disch := decide) only [putI_ne, putI_self, putI_nej, rowI_q, rowI_ne, cpF_e]
  refine P_aload_n (pc := 98) dX3_copyFrom_98 rfl 0 rfl ?_
  refine P_aload_n (pc := 99) dX3_copyFrom_99 rfl 1 rfl ?_
  refine P_getI (jj := 10) (pc := 100) dX3_copyFrom_100 fa_RX3_37 sC_1 fC1_10 rfl ?_
  try simp (disch := decide) only [putI_ne, putI_self, putI_nej, rowI_q, rowI_ne, cpF_e]
  refine P_putI (jj := 10) (pc := 103) dX3_copyFrom_103 fa_RX3_37 fp_3_10 sC_2 fC2_10 rfl ?_
  try simp (disch := decide) only [putI_ne, putI_self, putI_nej, rowI_q, rowI_ne, cpF_e]
  refine P_aload_n (pc := 106) dX3_copyFrom_106 rfl 0 rfl ?_
  refine P_aload_n (pc := 107) dX3_copyFrom_107 rfl 1 rfl ?_
  refine P_getI (jj := 11) (pc := 108) dX3_copyFrom_108 fa_RX3_34 sC_1 fC1_11 rfl ?_
  try simp (disch := decide) only [putI_ne, putI_self, putI_nej, rowI_q, rowI_ne, cpF_e]
  refine P_putI (jj := 11) (pc := 111) dX3_copyFrom_111 fa_RX3_34 fp_3_11 sC_2 fC2_11 rfl ?_
  try simp (disch := decide) only [putI_ne, putI_self, putI_nej, rowI_q, rowI_ne, cpF_e]
  refine P_aload_n (pc := 114) dX3_copyFrom_114 rfl 0 rfl ?_
  refine P_dup (pc := 115) dX3_copyFrom_115 rfl ?_
  refine P_getI (jj := 12) (pc := 116) dX3_copyFrom_116 fa_RX3_44 sC_2 fC2_12 rfl ?_
  try simp (disch := decide) only [putI_ne, putI_self, putI_nej, rowI_q, rowI_ne, cpF_e]
  refine P_iconst (pc := 119) dX3_copyFrom_119 ?_
  refine P_iadd (pc := 120) dX3_copyFrom_120 ?_
  refine P_putI (jj := 12) (pc := 121) dX3_copyFrom_121 fa_RX3_44 fp_3_12 sC_2 fC2_12 rfl ?_
  try simp (disch := decide) only [putI_ne, putI_self, putI_nej, rowI_q, rowI_ne, cpF_e]
  exact P_vret (pc := 124) dX3_copyFrom_124 rfl (QV.mk (by rfl))
def cCopy1 (μ : Mem) : Mem := (putI (putI (putI (putI (putI (putI (putI (rowI (rowI (rowI (rowI (rowI (rowI μ 10 (cpF 12 (μ.1 16) (μ.1 10))) 11 (cpF 12 (μ.1 17) (μ.1 11))) 12 (cpF 3 (μ.1 18) (μ.1 12))) 13 (cpF 300 (μ.1 19) (μ.1 13))) 14 (cpF 36 (μ.1 20) (μ.1 14))) 15 (cpF 15 (μ.1 21) (μ.1 15))) 1 6 (μ.1 2 6)) 1 7 (μ.1 2 7)) 1 8 (μ.1 2 8)) 1 9 (μ.1 2 9)) 1 10 (μ.1 2 10)) 1 11 (μ.1 2 11)) 1 12 (μ.1 1 12 + 1))
set_option maxHeartbeats 1000000 in
set_option maxRecDepth 100000 in
theorem c_X3_copyFrom1 {μ : Mem}  : PC shC 2 mX3_copyFrom [vr 1, vr 2] (μ) (QV (fun μ' => μ' = cCopy1 μ)) := by
  refine PC.of (by decide +kernel) (Nat.le_of_ble_eq_true rfl) ?_
  refine P_sub (L' := [(0, vr 1), (1, vr 2)]) [0, 1] rfl ?_
  refine P_aload_n (pc := 0) dX3_copyFrom_0 rfl 1 rfl ?_
  refine P_getR (pc := 1) dX3_copyFrom_1 fa_RX3_9 sC_2 fC2_0 ?_
  refine P_aload_n (pc := 4) dX3_copyFrom_4 rfl 0 rfl ?_
  refine P_getR (pc := 5) dX3_copyFrom_5 fa_RX3_9 sC_1 fC1_0 ?_
  refine P_callSv (Y' := mX3_copyRow) (as := [_, _]) (pc := 8) dX3_copyFrom_8 rfl (by decide : 1 < 2) ml_RX3_74 sm_X3_copyRow mk_X3_copyRow (Nat.le_of_ble_eq_true rfl) (c_X3_copyRow16_10) (fun μ_ hq => ?_)
  subst hq
  try simp (disch := decide) only [putI_ne, putI_self, putI_nej, rowI_q, rowI_ne, cpF_e]
  refine P_aload_n (pc := 11) dX3_copyFrom_11 rfl 1 rfl ?_
  refine P_getR (pc := 12) dX3_copyFrom_12 fa_RX3_15 sC_2 fC2_1 ?_
  refine P_aload_n (pc := 15) dX3_copyFrom_15 rfl 0 rfl ?_
  refine P_getR (pc := 16) dX3_copyFrom_16 fa_RX3_15 sC_1 fC1_1 ?_
  refine P_callSv (Y' := mX3_copyRow) (as := [_, _]) (pc := 19) dX3_copyFrom_19 rfl (by decide : 1 < 2) ml_RX3_74 sm_X3_copyRow mk_X3_copyRow (Nat.le_of_ble_eq_true rfl) (c_X3_copyRow17_11) (fun μ_ hq => ?_)
  subst hq
  try simp (disch := decide) only [putI_ne, putI_self, putI_nej, rowI_q, rowI_ne, cpF_e]
  refine P_aload_n (pc := 22) dX3_copyFrom_22 rfl 1 rfl ?_
  refine P_getR (pc := 23) dX3_copyFrom_23 fa_RX3_18 sC_2 fC2_2 ?_
  refine P_aload_n (pc := 26) dX3_copyFrom_26 rfl 0 rfl ?_
  refine P_getR (pc := 27) dX3_copyFrom_27 fa_RX3_18 sC_1 fC1_2 ?_
  refine P_callSv (Y' := mX3_copyRow) (as := [_, _]) (pc := 30) dX3_copyFrom_30 rfl (by decide : 1 < 2) ml_RX3_74 sm_X3_copyRow mk_X3_copyRow (Nat.le_of_ble_eq_true rfl) (c_X3_copyRow18_12) (fun μ_ hq => ?_)
  subst hq
  try simp (disch := decide) only [putI_ne, putI_self, putI_nej, rowI_q, rowI_ne, cpF_e]
  refine P_aload_n (pc := 33) dX3_copyFrom_33 rfl 1 rfl ?_
  refine P_getR (pc := 34) dX3_copyFrom_34 fa_RX3_21 sC_2 fC2_3 ?_
  refine P_aload_n (pc := 37) dX3_copyFrom_37 rfl 0 rfl ?_
  refine P_getR (pc := 38) dX3_copyFrom_38 fa_RX3_21 sC_1 fC1_3 ?_
  refine P_callSv (Y' := mX3_copyRow) (as := [_, _]) (pc := 41) dX3_copyFrom_41 rfl (by decide : 1 < 2) ml_RX3_74 sm_X3_copyRow mk_X3_copyRow (Nat.le_of_ble_eq_true rfl) (c_X3_copyRow19_13) (fun μ_ hq => ?_)
  subst hq
  try simp (disch := decide) only [putI_ne, putI_self, putI_nej, rowI_q, rowI_ne, cpF_e]
  refine P_aload_n (pc := 44) dX3_copyFrom_44 rfl 1 rfl ?_
  refine P_getR (pc := 45) dX3_copyFrom_45 fa_RX3_24 sC_2 fC2_4 ?_
  refine P_aload_n (pc := 48) dX3_copyFrom_48 rfl 0 rfl ?_
  refine P_getR (pc := 49) dX3_copyFrom_49 fa_RX3_24 sC_1 fC1_4 ?_
  refine P_callSv (Y' := mX3_copyRow) (as := [_, _]) (pc := 52) dX3_copyFrom_52 rfl (by decide : 1 < 2) ml_RX3_74 sm_X3_copyRow mk_X3_copyRow (Nat.le_of_ble_eq_true rfl) (c_X3_copyRow20_14) (fun μ_ hq => ?_)
  subst hq
  try simp (disch := decide) only [putI_ne, putI_self, putI_nej, rowI_q, rowI_ne, cpF_e]
  refine P_aload_n (pc := 55) dX3_copyFrom_55 rfl 1 rfl ?_
  refine P_getR (pc := 56) dX3_copyFrom_56 fa_RX3_27 sC_2 fC2_5 ?_
  refine P_aload_n (pc := 59) dX3_copyFrom_59 rfl 0 rfl ?_
  refine P_getR (pc := 60) dX3_copyFrom_60 fa_RX3_27 sC_1 fC1_5 ?_
  refine P_callSv (Y' := mX3_copyRow) (as := [_, _]) (pc := 63) dX3_copyFrom_63 rfl (by decide : 1 < 2) ml_RX3_74 sm_X3_copyRow mk_X3_copyRow (Nat.le_of_ble_eq_true rfl) (c_X3_copyRow21_15) (fun μ_ hq => ?_)
  subst hq
  try simp (disch := decide) only [putI_ne, putI_self, putI_nej, rowI_q, rowI_ne, cpF_e]
  refine P_aload_n (pc := 66) dX3_copyFrom_66 rfl 0 rfl ?_
  refine P_aload_n (pc := 67) dX3_copyFrom_67 rfl 1 rfl ?_
  refine P_getI (jj := 6) (pc := 68) dX3_copyFrom_68 fa_RX3_30 sC_2 fC2_6 rfl ?_
  try simp (disch := decide) only [putI_ne, putI_self, putI_nej, rowI_q, rowI_ne, cpF_e]
  refine P_putI (jj := 6) (pc := 71) dX3_copyFrom_71 fa_RX3_30 fp_3_6 sC_1 fC1_6 rfl ?_
  try simp (disch := decide) only [putI_ne, putI_self, putI_nej, rowI_q, rowI_ne, cpF_e]
  refine P_aload_n (pc := 74) dX3_copyFrom_74 rfl 0 rfl ?_
  refine P_aload_n (pc := 75) dX3_copyFrom_75 rfl 1 rfl ?_
  refine P_getI (jj := 7) (pc := 76) dX3_copyFrom_76 fa_RX3_47 sC_2 fC2_7 rfl ?_
  try simp (disch := decide) only [putI_ne, putI_self, putI_nej, rowI_q, rowI_ne, cpF_e]
  refine P_putI (jj := 7) (pc := 79) dX3_copyFrom_79 fa_RX3_47 fp_3_7 sC_1 fC1_7 rfl ?_
  try simp (disch := decide) only [putI_ne, putI_self, putI_nej, rowI_q, rowI_ne, cpF_e]
  refine P_aload_n (pc := 82) dX3_copyFrom_82 rfl 0 rfl ?_
  refine P_aload_n (pc := 83) dX3_copyFrom_83 rfl 1 rfl ?_
  refine P_getI (jj := 8) (pc := 84) dX3_copyFrom_84 fa_RX3_54 sC_2 fC2_8 rfl ?_
  try simp (disch := decide) only [putI_ne, putI_self, putI_nej, rowI_q, rowI_ne, cpF_e]
  refine P_putI (jj := 8) (pc := 87) dX3_copyFrom_87 fa_RX3_54 fp_3_8 sC_1 fC1_8 rfl ?_
  try simp (disch := decide) only [putI_ne, putI_self, putI_nej, rowI_q, rowI_ne, cpF_e]
  refine P_aload_n (pc := 90) dX3_copyFrom_90 rfl 0 rfl ?_
  refine P_aload_n (pc := 91) dX3_copyFrom_91 rfl 1 rfl ?_
  refine P_getI (jj := 9) (pc := 92) dX3_copyFrom_92 fa_RX3_57 sC_2 fC2_9 rfl ?_
  try simp (disch := decide) only [putI_ne, putI_self, putI_nej, rowI_q, rowI_ne, cpF_e]
  refine P_putI (jj := 9) (pc := 95) dX3_copyFrom_95 fa_RX3_57 fp_3_9 sC_1 fC1_9 rfl ?_
  try simp (disch := decide) only [putI_ne, putI_self, putI_nej, rowI_q, rowI_ne, cpF_e]
  refine P_aload_n (pc := 98) dX3_copyFrom_98 rfl 0 rfl ?_
  refine P_aload_n (pc := 99) dX3_copyFrom_99 rfl 1 rfl ?_
  refine P_getI (jj := 10) (pc := 100) dX3_copyFrom_100 fa_RX3_37 sC_2 fC2_10 rfl ?_
  try simp (disch := decide) only [putI_ne, putI_self, putI_nej, rowI_q, rowI_ne, cpF_e]
  refine P_putI (jj := 10) (pc := 103) dX3_copyFrom_103 fa_RX3_37 fp_3_10 sC_1 fC1_10 rfl ?_
  try simp (disch := decide) only [putI_ne, putI_self, putI_nej, rowI_q, rowI_ne, cpF_e]
  refine P_aload_n (pc := 106) dX3_copyFrom_106 rfl 0 rfl ?_
  refine P_aload_n (pc := 107) dX3_copyFrom_107 rfl 1 rfl ?_
  refine P_getI (jj := 11) (pc := 108) dX3_copyFrom_108 fa_RX3_34 sC_2 fC2_11 rfl ?_
  try simp (disch := decide) only [putI_ne, putI_self, putI_nej, rowI_q, rowI_ne, cpF_e]
  refine P_putI (jj := 11) (pc := 111) dX3_copyFrom_111 fa_RX3_34 fp_3_11 sC_1 fC1_11 rfl ?_
  try simp (disch := decide) only [putI_ne, putI_self, putI_nej, rowI_q, rowI_ne, cpF_e]
  refine P_aload_n (pc := 114) dX3_copyFrom_114 rfl 0 rfl ?_
  refine P_dup (pc := 115) dX3_copyFrom_115 rfl ?_
  refine P_getI (jj := 12) (pc := 116) dX3_copyFrom_116 fa_RX3_44 sC_1 fC1_12 rfl ?_
  try simp (disch := decide) only [putI_ne, putI_self, putI_nej, rowI_q, rowI_ne, cpF_e]
  refine P_iconst (pc := 119) dX3_copyFrom_119 ?_
  refine P_iadd (pc := 120) dX3_copyFrom_120 ?_
  refine P_putI (jj := 12) (pc := 121) dX3_copyFrom_121 fa_RX3_44 fp_3_12 sC_1 fC1_12 rfl ?_
  try simp (disch := decide) only [putI_ne, putI_self, putI_nej, rowI_q, rowI_ne, cpF_e]
  exact P_vret (pc := 124) dX3_copyFrom_124 rfl (QV.mk (by rfl))
