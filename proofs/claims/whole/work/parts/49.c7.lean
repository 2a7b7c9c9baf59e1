def fiF {α : Type} (v : α) (n : Int) (old : Int → α) : Int → α := fun j => if 0 ≤ j ∧ j < n then v else old j
theorem fiF_0 {α : Type} {v : α} {old : Int → α} : fiF v 0 old = old := by
  funext j; unfold fiF; rw [if_neg (by omega)]
theorem fiF_s {α : Type} {v : α} {n : Int} {old : Int → α} (h : 0 ≤ n) : (fun j => if j = n then v else fiF v n old j) = fiF v (n + 1) old := by
  funext j
  unfold fiF
  by_cases a : j = n
  · subst a; rw [if_pos rfl, if_pos (by omega)]
  · rw [if_neg a]
    by_cases b : 0 ≤ j ∧ j < n
    · rw [if_pos b, if_pos (by omega)]
    · rw [if_neg b, if_neg (by omega)]
theorem rowL_self {μ : Mem} {k : Nat} : rowL μ k (μ.2 k) = μ := by
  refine Prod.ext rfl ?_
  funext q
  by_cases h : q = k
  · subst h; simp [rowL]
  · simp [rowL, h]
theorem rowI_self {μ : Mem} {k : Nat} : rowI μ k (μ.1 k) = μ := by
  refine Prod.ext ?_ rfl
  funext q
  by_cases h : q = k
  · subst h; simp [rowI]
  · simp [rowI, h]
theorem rowL_put {μ : Mem} {k : Nat} {f : Int → BitVec 64} {i : Int} {v : BitVec 64} : putL (rowL μ k f) k i v = rowL μ k (fun j => if j = i then v else f j) := by
  refine Prod.ext rfl ?_
  funext q j
  by_cases h : q = k
  · subst h
    by_cases a : j = i <;> simp [rowL, putL, a]
  · simp [rowL, putL, h]
theorem rowI_put {μ : Mem} {k : Nat} {f : Int → Int} {i v : Int} : putI (rowI μ k f) k i v = rowI μ k (fun j => if j = i then v else f j) := by
  refine Prod.ext ?_ rfl
  funext q j
  by_cases h : q = k
  · subst h
    by_cases a : j = i <;> simp [rowI, putI, a]
  · simp [rowI, putI, h]
set_option maxHeartbeats 1000000 in
set_option maxRecDepth 100000 in
theorem l_fill_now {μ : Mem} {b : Nat} {v : BitVec 64} (hb : b < 2) : ∀ (n : Nat) (j : Int), 0 ≤ j ∧ j ≤ 156 → (156 - j).toNat < n → PW shC 0 mJ7_fill_d0a16 6 [(0, vr (22 + 7 * b)), (1, vl v), (3, vi j), (4, vi ((156 : Nat) : Int))] [] (rowL μ (22 + 7 * b) (fiF v j (μ.2 (22 + 7 * b)))) (QV (fun μ' => μ' = (rowL μ (22 + 7 * b) (fiF v 156 (μ.2 (22 + 7 * b)))))) := by
  intro n
  induction n with
  | zero => intro j _ q; omega
  | succ n ih =>
  intro j hj hn
  refine P_iload_n (pc := 6) dJ7_fill_d0a16_6 rfl 2 rfl ?_
  refine P_iload (pc := 7) dJ7_fill_d0a16_7 3 rfl ?_
  refine P_icmp_ge (tgt := 22) (pc := 9) dJ7_fill_d0a16_9 (by decide) (by unfold InR; omega) (by unfold InR; omega) (fun c_9 => ?_) (fun c_9 => ?_)
  · exact P_vret (pc := 22) dJ7_fill_d0a16_22 rfl (QV.mk (by have e9 : j = 156 := (by omega); subst e9; rfl))
  · refine P_aload_n (pc := 12) dJ7_fill_d0a16_12 rfl 0 rfl ?_
    refine P_iload_n (pc := 13) dJ7_fill_d0a16_13 rfl 2 rfl ?_
    refine P_lload_n (pc := 14) dJ7_fill_d0a16_14 rfl 1 rfl ?_
    refine P_last (pc := 15) dJ7_fill_d0a16_15 (sS_22 hb) (by omega) (by omega) (by decide) ?_
    try simp only [rowL_put]
    refine P_iinc (L' := [(3, vi _), (0, vr (22 + 7 * b)), (1, vl _), (4, vi _)]) (pc := 16) dJ7_fill_d0a16_16 (by decide) 2 rfl rfl ?_
    refine P_goto (tgt := 6) (pc := 19) dJ7_fill_d0a16_19 (by decide) ?_
    refine P_sub (L' := [(0, vr (22 + 7 * b)), (1, vl _), (3, vi _), (4, vi _)]) [1, 2, 0, 3] rfl ?_
    refine P_cast (L' := [(0, vr (22 + 7 * b)), (1, vl v), (3, vi (j + 1)), (4, vi ((156 : Nat) : Int))]) rfl ?_ (ih (j + 1) (by omega) (by omega))
    rw [fiF_s hj.1]
set_option maxHeartbeats 1000000 in
set_option maxRecDepth 100000 in
theorem c_fill_now {μ : Mem} {b : Nat} {v : BitVec 64} (hb : b < 2) : PC shC 0 mJ7_fill_d0a16 [vr (22 + 7 * b), vl v] (μ) (QV (fun μ' => μ' = (rowL μ (22 + 7 * b) (fiF v 156 (μ.2 (22 + 7 * b)))))) := by
  refine PC.ofF (by decide +kernel) (Nat.le_of_ble_eq_true rfl) ?_
  refine P_sub (L' := [(0, vr (22 + 7 * b)), (1, vl v)]) [0, 1] rfl ?_
  refine P_iconst (pc := 0) dJ7_fill_d0a16_0 ?_
  refine P_istore_n (L' := [(3, vi _), (0, vr (22 + 7 * b)), (1, vl _)]) (pc := 1) dJ7_fill_d0a16_1 rfl (by decide) rfl ?_
  refine P_aload_n (pc := 2) dJ7_fill_d0a16_2 rfl 1 rfl ?_
  refine P_alen (pc := 3) dJ7_fill_d0a16_3 (sS_22 hb) (by decide) ?_
  refine P_istore (L' := [(4, vi _), (3, vi _), (0, vr (22 + 7 * b)), (1, vl _)]) (pc := 4) dJ7_fill_d0a16_4 (by decide) rfl ?_
  refine P_sub (L' := [(0, vr (22 + 7 * b)), (1, vl _), (3, vi _), (4, vi _)]) [2, 3, 1, 0] rfl ?_
  refine P_cast (L' := [(0, vr (22 + 7 * b)), (1, vl v), (3, vi 0), (4, vi ((156 : Nat) : Int))]) rfl ?_ (l_fill_now hb (156 + 1) 0 (by omega) (by omega))
  rw [fiF_0, rowL_self]
set_option maxHeartbeats 1000000 in
set_option maxRecDepth 100000 in
theorem l_fill_hs {μ : Mem} {b : Nat} {v : Int} (hb : b < 2) : ∀ (n : Nat) (j : Int), 0 ≤ j ∧ j ≤ 49 → (49 - j).toNat < n → PW shC 0 mJ7_fill_53178 5 [(0, vr (25 + 7 * b)), (1, vi v), (2, vi j), (3, vi ((49 : Nat) : Int))] [] (rowI μ (25 + 7 * b) (fiF v j (μ.1 (25 + 7 * b)))) (QV (fun μ' => μ' = (rowI μ (25 + 7 * b) (fiF v 49 (μ.1 (25 + 7 * b)))))) := by
  intro n
  induction n with
  | zero => intro j _ q; omega
  | succ n ih =>
  intro j hj hn
  refine P_iload_n (pc := 5) dJ7_fill_53178_5 rfl 2 rfl ?_
  refine P_iload_n (pc := 6) dJ7_fill_53178_6 rfl 3 rfl ?_
  refine P_icmp_ge (tgt := 20) (pc := 7) dJ7_fill_53178_7 (by decide) (by unfold InR; omega) (by unfold InR; omega) (fun c_7 => ?_) (fun c_7 => ?_)
  · exact P_vret (pc := 20) dJ7_fill_53178_20 rfl (QV.mk (by have e9 : j = 49 := (by omega); subst e9; rfl))
  · refine P_aload_n (pc := 10) dJ7_fill_53178_10 rfl 0 rfl ?_
    refine P_iload_n (pc := 11) dJ7_fill_53178_11 rfl 2 rfl ?_
    refine P_iload_n (pc := 12) dJ7_fill_53178_12 rfl 1 rfl ?_
    refine P_iast (pc := 13) dJ7_fill_53178_13 (sS_25 hb) (by omega) (by omega) (by decide) ?_
    try simp only [rowI_put]
    refine P_iinc (L' := [(2, vi _), (0, vr (25 + 7 * b)), (1, vi _), (3, vi _)]) (pc := 14) dJ7_fill_53178_14 (by decide) 2 rfl rfl ?_
    refine P_goto (tgt := 5) (pc := 17) dJ7_fill_53178_17 (by decide) ?_
    refine P_sub (L' := [(0, vr (25 + 7 * b)), (1, vi _), (2, vi _), (3, vi _)]) [1, 2, 0, 3] rfl ?_
    refine P_cast (L' := [(0, vr (25 + 7 * b)), (1, vi v), (2, vi (j + 1)), (3, vi ((49 : Nat) : Int))]) rfl ?_ (ih (j + 1) (by omega) (by omega))
    rw [fiF_s hj.1]
set_option maxHeartbeats 1000000 in
set_option maxRecDepth 100000 in
theorem c_fill_hs {μ : Mem} {b : Nat} {v : Int} (hb : b < 2) : PC shC 0 mJ7_fill_53178 [vr (25 + 7 * b), vi v] (μ) (QV (fun μ' => μ' = (rowI μ (25 + 7 * b) (fiF v 49 (μ.1 (25 + 7 * b)))))) := by
  refine PC.ofF (by decide +kernel) (Nat.le_of_ble_eq_true rfl) ?_
  refine P_sub (L' := [(0, vr (25 + 7 * b)), (1, vi v)]) [0, 1] rfl ?_
  refine P_iconst (pc := 0) dJ7_fill_53178_0 ?_
  refine P_istore_n (L' := [(2, vi _), (0, vr (25 + 7 * b)), (1, vi _)]) (pc := 1) dJ7_fill_53178_1 rfl (by decide) rfl ?_
  refine P_aload_n (pc := 2) dJ7_fill_53178_2 rfl 1 rfl ?_
  refine P_alen (pc := 3) dJ7_fill_53178_3 (sS_25 hb) (by decide) ?_
  refine P_istore_n (L' := [(3, vi _), (2, vi _), (0, vr (25 + 7 * b)), (1, vi _)]) (pc := 4) dJ7_fill_53178_4 rfl (by decide) rfl ?_
  refine P_sub (L' := [(0, vr (25 + 7 * b)), (1, vi _), (2, vi _), (3, vi _)]) [2, 3, 1, 0] rfl ?_
  refine P_cast (L' := [(0, vr (25 + 7 * b)), (1, vi v), (2, vi 0), (3, vi ((49 : Nat) : Int))]) rfl ?_ (l_fill_hs hb (49 + 1) 0 (by omega) (by omega))
  rw [fiF_0, rowI_self]
