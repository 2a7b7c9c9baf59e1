/-- the number of a source, by its event -/
def nsF (K : Cel) (j : Int) : Int := if j < K 0 12 ∧ K 8 j = 9 ∧ srcN K j.toNat < 20 then srcN K j.toNat + 1 else 0
def nsG (K : Cel) (j : Int) (old : Int → Int) : Int → Int := fun i => if 0 ≤ i ∧ i < j then nsF K i else old i
theorem nsG_0 {K : Cel} {old : Int → Int} : nsG K 0 old = old := by
  funext j; unfold nsG; rw [if_neg (by omega)]
theorem nsG_s {K : Cel} {j v : Int} {old : Int → Int} (h : 0 ≤ j) (hv : v = nsF K j) : (fun i => if i = j then v else nsG K j old i) = nsG K (j + 1) old := by
  funext i
  unfold nsG
  by_cases a : i = j
  · subst a; rw [if_pos rfl, if_pos (by omega), hv]
  · rw [if_neg a]
    by_cases b : 0 ≤ i ∧ i < j
    · rw [if_pos b, if_pos (by omega)]
    · rw [if_neg b, if_neg (by omega)]
theorem nsG_s2 {K : Cel} {j v u : Int} {old : Int → Int} (h : 0 ≤ j) (hv : v = nsF K j) : (fun i => if i = j then v else if i = j then u else nsG K j old i) = nsG K (j + 1) old := by
  rw [← nsG_s h hv]
  funext i
  by_cases a : i = j
  · rw [if_pos a, if_pos a]
  · rw [if_neg a, if_neg a, if_neg a]
theorem srcNb (K : Cel) : ∀ n : Nat, 0 ≤ srcN K n ∧ srcN K n ≤ n
  | 0 => by simp [srcN]
  | n + 1 => by
    have h := srcNb K n
    simp only [srcN]
    split <;> omega
set_option maxHeartbeats 1000000 in
set_option maxRecDepth 100000 in
theorem l_X4_numberSources {μ : Mem} {b : Nat} {K : Cel} (hb : b < 2) (hR : KR K μ) (hK : KOK K) : ∀ (n j : Nat) (e c : Int), e = (j : Int) → j ≤ 60 → 60 - j < n → c = srcN K (min j (K 0 12).toNat) → PW shC 1 mX4_numberSources 4 [(0, vr (3 + b)), (1, vi c), (2, vi e)] [] (rowI μ (26 + 7 * b) (nsG K e (μ.1 (26 + 7 * b)))) (QV (fun μ' => μ' = (rowI μ (26 + 7 * b) (nsG K 60 (μ.1 (26 + 7 * b)))))) := by
  intro n
  induction n with
  | zero => intro j e c _ _ q; omega
  | succ n ih =>
  intro j e c he hj hn hc
  have h12 := hR.1.2
  have hK2 := hK.2.1
  have g1 := (hR.2.2.2.2.1 e).2.1
  have g2 := hK.2.2.2.2.2.2.2.1 e
  have g3 := srcNb K (min j (K 0 12).toNat)
  have g4 : nsF K e = if e < K 0 12 ∧ K 8 e = 9 ∧ srcN K j < 20 then srcN K j + 1 else 0 := by subst he; rfl
  have g5 : srcN K (j + 1) = srcN K j + (if K 8 e = 9 then 1 else 0) := by subst he; rfl
  have g6 : e < K 0 12 → min j (K 0 12).toNat = j ∧ min (j + 1) (K 0 12).toNat = j + 1 := fun q => by omega
  have g7 : ¬ e < K 0 12 → min (j + 1) (K 0 12).toNat = min j (K 0 12).toNat := fun q => by omega
  refine P_iload_n (pc := 4) dX4_numberSources_4 rfl 2 rfl ?_
  refine P_bipush (pc := 5) dX4_numberSources_5 (by decide) ?_
  refine P_icmp_ge (tgt := 68) (pc := 7) dX4_numberSources_7 (by decide) (by first | assumption | (unfold InR; omega)) (by first | assumption | (unfold InR; omega)) (fun c_7 => ?_) (fun c_7 => ?_)
  · exact P_vret (pc := 68) dX4_numberSources_68 rfl (QV.mk (by have e9 : e = 60 := (by omega); subst e9; rfl))
  · refine P_aload_n (pc := 10) dX4_numberSources_10 rfl 0 rfl ?_
    refine P_getR (pc := 11) dX4_numberSources_11 fa_RX4_25 (sS_o hb) fS_6 ?_
    refine P_iload_n (pc := 14) dX4_numberSources_14 rfl 2 rfl ?_
    refine P_iconst (pc := 15) dX4_numberSources_15 ?_
    refine P_iast (pc := 16) dX4_numberSources_16 (sS_26 hb) (by omega) (by omega) (by decide) ?_
    try simp (disch := omega) only [rowI_put, rowI_ne]
    refine P_iload_n (pc := 17) dX4_numberSources_17 rfl 2 rfl ?_
    refine P_aload_n (pc := 18) dX4_numberSources_18 rfl 0 rfl ?_
    refine P_getR (pc := 19) dX4_numberSources_19 fa_RX4_38 (sS_o hb) fS_0 ?_
    refine P_getI (jj := 7) (pc := 22) dX4_numberSources_22 fa_RX4_65 sC_1 fC1_7 rfl ?_
    try simp (disch := omega) only [rowI_put, rowI_ne]
    rw [h12]
    refine P_icmp_ge (tgt := 62) (pc := 25) dX4_numberSources_25 (by decide) (by first | assumption | (unfold InR; omega)) (by first | assumption | (unfold InR; omega)) (fun c_25 => ?_) (fun c_25 => ?_)
    · refine P_iinc (L' := [(2, vi _), (0, vr (3 + b)), (1, vi _)]) (pc := 62) dX4_numberSources_62 (by decide) 2 rfl rfl ?_
      refine P_goto (tgt := 4) (pc := 65) dX4_numberSources_65 (by decide) ?_
      refine P_sub (L' := [(0, vr (3 + b)), (1, vi _), (2, vi _)]) [1, 2, 0] rfl ?_
      first
        | (have q := g7 (by omega)
           rw [nsG_s (by omega) (by rw [g4, if_neg (by omega)])]
           exact ih (j + 1) (e + 1) _ (by omega) (by omega) (by omega) (by rw [hc, q]))
        | (have q := g6 (by omega)
           rw [q.1] at hc
           have k9 : ¬ K 8 e = 9 := by omega
           rw [nsG_s (by omega) (by rw [g4, if_neg (fun z => k9 z.2.1)])]
           exact ih (j + 1) (e + 1) _ (by omega) (by omega) (by omega) (by rw [hc, q.2, g5, if_neg k9, Int.add_zero]))
        | (have q := g6 (by omega)
           rw [q.1] at hc
           have k9 : K 8 e = 9 := by omega
           rw [if_pos k9] at g5
           first
             | rw [nsG_s2 (by omega) (by rw [g4, if_pos ⟨by omega, k9, by omega⟩, hc])]
             | rw [nsG_s2 (by omega) (by rw [g4, if_neg (fun z => by have := z.2.2; omega)])]
           exact ih (j + 1) (e + 1) _ (by omega) (by omega) (by omega) (by rw [hc, q.2, g5]))
    · refine P_aload_n (pc := 28) dX4_numberSources_28 rfl 0 rfl ?_
      refine P_getR (pc := 29) dX4_numberSources_29 fa_RX4_38 (sS_o hb) fS_0 ?_
      refine P_iload_n (pc := 32) dX4_numberSources_32 rfl 2 rfl ?_
      refine P_iconst (pc := 33) dX4_numberSources_33 ?_
      refine P_callVi (Y' := mX3_eventPart) (as := [_, _]) (pc := 34) dX4_numberSources_34 rfl (by decide : 0 < 1) sC_1 rfl ml_RX4_68 im_X3_eventPart se_X3_eventPart mk_X3_eventPart (Nat.le_of_ble_eq_true rfl) (c_X3_eventPart (by omega) (by omega)) (fun z_ μ_ hq => ?_)
      obtain ⟨rfl, hμ_⟩ := hq
      subst hμ_
      try simp (disch := omega) only [rowI_put, rowI_ne]
      rw [g1]
      refine P_bipush (pc := 37) dX4_numberSources_37 (by decide) ?_
      refine P_icmp_ne (tgt := 62) (pc := 39) dX4_numberSources_39 (by decide) (by first | assumption | (unfold InR; omega)) (by first | assumption | (unfold InR; omega)) (fun c_39 => ?_) (fun c_39 => ?_)
      · refine P_iinc (L' := [(2, vi _), (0, vr (3 + b)), (1, vi _)]) (pc := 62) dX4_numberSources_62 (by decide) 2 rfl rfl ?_
        refine P_goto (tgt := 4) (pc := 65) dX4_numberSources_65 (by decide) ?_
        refine P_sub (L' := [(0, vr (3 + b)), (1, vi _), (2, vi _)]) [1, 2, 0] rfl ?_
        first
          | (have q := g7 (by omega)
             rw [nsG_s (by omega) (by rw [g4, if_neg (by omega)])]
             exact ih (j + 1) (e + 1) _ (by omega) (by omega) (by omega) (by rw [hc, q]))
          | (have q := g6 (by omega)
             rw [q.1] at hc
             have k9 : ¬ K 8 e = 9 := by omega
             rw [nsG_s (by omega) (by rw [g4, if_neg (fun z => k9 z.2.1)])]
             exact ih (j + 1) (e + 1) _ (by omega) (by omega) (by omega) (by rw [hc, q.2, g5, if_neg k9, Int.add_zero]))
          | (have q := g6 (by omega)
             rw [q.1] at hc
             have k9 : K 8 e = 9 := by omega
             rw [if_pos k9] at g5
             first
               | rw [nsG_s2 (by omega) (by rw [g4, if_pos ⟨by omega, k9, by omega⟩, hc])]
               | rw [nsG_s2 (by omega) (by rw [g4, if_neg (fun z => by have := z.2.2; omega)])]
             exact ih (j + 1) (e + 1) _ (by omega) (by omega) (by omega) (by rw [hc, q.2, g5]))
      · refine P_iinc (L' := [(1, vi _), (0, vr (3 + b)), (2, vi _)]) (pc := 42) dX4_numberSources_42 (by decide) 1 rfl rfl ?_
        refine P_aload_n (pc := 45) dX4_numberSources_45 rfl 1 rfl ?_
        refine P_getR (pc := 46) dX4_numberSources_46 fa_RX4_25 (sS_o hb) fS_6 ?_
        refine P_iload_n (pc := 49) dX4_numberSources_49 rfl 2 rfl ?_
        refine P_iload_n (pc := 50) dX4_numberSources_50 rfl 0 rfl ?_
        refine P_bipush (pc := 51) dX4_numberSources_51 (by decide) ?_
        refine P_icmp_gt (tgt := 60) (pc := 53) dX4_numberSources_53 (by decide) (by first | assumption | (unfold InR; omega)) (by first | assumption | (unfold InR; omega)) (fun c_53 => ?_) (fun c_53 => ?_)
        · refine P_iconst (pc := 60) dX4_numberSources_60 ?_
          refine P_iast (pc := 61) dX4_numberSources_61 (sS_26 hb) (by omega) (by omega) (by decide) ?_
          try simp (disch := omega) only [rowI_put, rowI_ne]
          refine P_iinc (L' := [(2, vi _), (1, vi _), (0, vr (3 + b))]) (pc := 62) dX4_numberSources_62 (by decide) 2 rfl rfl ?_
          refine P_goto (tgt := 4) (pc := 65) dX4_numberSources_65 (by decide) ?_
          refine P_sub (L' := [(0, vr (3 + b)), (1, vi _), (2, vi _)]) [2, 1, 0] rfl ?_
          first
            | (have q := g7 (by omega)
               rw [nsG_s (by omega) (by rw [g4, if_neg (by omega)])]
               exact ih (j + 1) (e + 1) _ (by omega) (by omega) (by omega) (by rw [hc, q]))
            | (have q := g6 (by omega)
               rw [q.1] at hc
               have k9 : ¬ K 8 e = 9 := by omega
               rw [nsG_s (by omega) (by rw [g4, if_neg (fun z => k9 z.2.1)])]
               exact ih (j + 1) (e + 1) _ (by omega) (by omega) (by omega) (by rw [hc, q.2, g5, if_neg k9, Int.add_zero]))
            | (have q := g6 (by omega)
               rw [q.1] at hc
               have k9 : K 8 e = 9 := by omega
               rw [if_pos k9] at g5
               first
                 | rw [nsG_s2 (by omega) (by rw [g4, if_pos ⟨by omega, k9, by omega⟩, hc])]
                 | rw [nsG_s2 (by omega) (by rw [g4, if_neg (fun z => by have := z.2.2; omega)])]
               exact ih (j + 1) (e + 1) _ (by omega) (by omega) (by omega) (by rw [hc, q.2, g5]))
        · refine P_iload_n (pc := 56) dX4_numberSources_56 rfl 0 rfl ?_
          refine P_goto (tgt := 61) (pc := 57) dX4_numberSources_57 (by decide) ?_
          refine P_iast (pc := 61) dX4_numberSources_61 (sS_26 hb) (by omega) (by omega) (by decide) ?_
          try simp (disch := omega) only [rowI_put, rowI_ne]
          refine P_iinc (L' := [(2, vi _), (1, vi _), (0, vr (3 + b))]) (pc := 62) dX4_numberSources_62 (by decide) 2 rfl rfl ?_
          refine P_goto (tgt := 4) (pc := 65) dX4_numberSources_65 (by decide) ?_
          refine P_sub (L' := [(0, vr (3 + b)), (1, vi _), (2, vi _)]) [2, 1, 0] rfl ?_
          first
            | (have q := g7 (by omega)
               rw [nsG_s (by omega) (by rw [g4, if_neg (by omega)])]
               exact ih (j + 1) (e + 1) _ (by omega) (by omega) (by omega) (by rw [hc, q]))
            | (have q := g6 (by omega)
               rw [q.1] at hc
               have k9 : ¬ K 8 e = 9 := by omega
               rw [nsG_s (by omega) (by rw [g4, if_neg (fun z => k9 z.2.1)])]
               exact ih (j + 1) (e + 1) _ (by omega) (by omega) (by omega) (by rw [hc, q.2, g5, if_neg k9, Int.add_zero]))
            | (have q := g6 (by omega)
               rw [q.1] at hc
               have k9 : K 8 e = 9 := by omega
               rw [if_pos k9] at g5
               first
                 | rw [nsG_s2 (by omega) (by rw [g4, if_pos ⟨by omega, k9, by omega⟩, hc])]
                 | rw [nsG_s2 (by omega) (by rw [g4, if_neg (fun z => by have := z.2.2; omega)])]
               exact ih (j + 1) (e + 1) _ (by omega) (by omega) (by omega) (by rw [hc, q.2, g5]))
set_option maxHeartbeats 1000000 in
set_option maxRecDepth 100000 in
theorem c_X4_numberSources {μ : Mem} {b : Nat} {K : Cel} (hb : b < 2) (hR : KR K μ) (hK : KOK K) : PC shC 1 mX4_numberSources [vr (3 + b)] (μ) (QV (fun μ' => μ' = (rowI μ (26 + 7 * b) (nsG K 60 (μ.1 (26 + 7 * b)))))) := by
  refine PC.of (by decide +kernel) (Nat.le_of_ble_eq_true rfl) ?_
  refine P_sub (L' := [(0, vr (3 + b))]) [0] rfl ?_
  refine P_iconst (pc := 0) dX4_numberSources_0 ?_
  refine P_istore_n (L' := [(1, vi _), (0, vr (3 + b))]) (pc := 1) dX4_numberSources_1 rfl (by decide) rfl ?_
  refine P_iconst (pc := 2) dX4_numberSources_2 ?_
  refine P_istore_n (L' := [(2, vi _), (1, vi _), (0, vr (3 + b))]) (pc := 3) dX4_numberSources_3 rfl (by decide) rfl ?_
  refine P_sub (L' := [(0, vr (3 + b)), (1, vi _), (2, vi _)]) [2, 1, 0] rfl ?_
  refine P_cast (L' := [(0, vr (3 + b)), (1, vi 0), (2, vi 0)]) rfl ?_ (l_X4_numberSources hb hR hK 61 0 0 0 rfl (Nat.zero_le _) (by omega) (by rw [Nat.zero_min]; rfl))
  rw [nsG_0, rowI_self]
