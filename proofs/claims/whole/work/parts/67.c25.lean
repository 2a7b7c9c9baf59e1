/-! EVENTS BY THEIR HOURS, counted -/
def cntH (K : Cel) (h : Int) (m : Nat) : Nat := cnt (fun i => decide (K 7 (i : Int) = h)) m
def cntB (K : Cel) (h : Int) (m : Nat) : Nat := cnt (fun i => decide (K 7 (i : Int) < h)) m
theorem cnt_mono (p : Nat → Bool) (m : Nat) : ∀ d, cnt p m ≤ cnt p (m + d)
  | 0 => Nat.le_refl _
  | d + 1 => by
    have := cnt_mono p m d
    show cnt p m ≤ cnt p (m + d) + _
    omega
theorem cnt_imp {p q : Nat → Bool} (h : ∀ i, p i = true → q i = true) : ∀ n, cnt p n ≤ cnt q n
  | 0 => Nat.le_refl 0
  | n + 1 => by
    have := cnt_imp h n
    simp only [cnt]
    by_cases a : p n = true
    · rw [if_pos a, if_pos (h n a)]; omega
    · rw [if_neg a]; omega
theorem cnt_zero {p : Nat → Bool} (h : ∀ i, p i = false) : ∀ n, cnt p n = 0
  | 0 => rfl
  | n + 1 => by
    simp only [cnt]
    rw [cnt_zero h n, h n]
    rfl
theorem cnt_two {p q r : Nat → Bool} (h : ∀ i, (if r i = true then 1 else 0) = (if p i = true then 1 else 0) + (if q i = true then (1 : Nat) else 0)) : ∀ n, cnt r n = cnt p n + cnt q n
  | 0 => rfl
  | n + 1 => by
    have h1 := cnt_two h n
    have h2 := h n
    simp only [cnt]
    omega
theorem cnt_find (p : Nat → Bool) : ∀ n c, c < cnt p n → ∃ e, e < n ∧ p e = true ∧ cnt p e = c
  | 0, c, h => absurd h (Nat.not_lt_zero c)
  | n + 1, c, h => by
    by_cases q : c < cnt p n
    · obtain ⟨e, h1, h2, h3⟩ := cnt_find p n c q
      exact ⟨e, by omega, h2, h3⟩
    · simp only [cnt] at h
      by_cases a : p n = true
      · rw [if_pos a] at h
        exact ⟨n, by omega, a, by omega⟩
      · rw [if_neg a] at h
        omega
theorem cntB_s {K : Cel} {h : Int} {n : Nat} : cntB K (h + 1) n = cntB K h n + cntH K h n := by
  refine cnt_two (fun i => ?_) n
  simp only [decide_eq_true_eq]
  by_cases a : K 7 (i : Int) < h
  · rw [if_pos a, if_pos (by omega), if_neg (by omega)]
  · rw [if_neg a]
    by_cases b : K 7 (i : Int) = h
    · rw [if_pos b, if_pos (by omega)]
    · rw [if_neg b, if_neg (by omega)]
theorem cntB_mono {K : Cel} {h h' : Int} {n : Nat} (q : h ≤ h') : cntB K h n ≤ cntB K h' n := cnt_imp (fun i hi => by
  simp only [decide_eq_true_eq] at hi ⊢
  omega) n
theorem cntB_0 {K : Cel} (hK : KOK K) {n : Nat} : cntB K 0 n = 0 := cnt_zero (fun i => decide_eq_false (by have := hK.2.2.2.2.2.2.1 (i : Int); omega)) n
theorem cntH_s {K : Cel} {h : Int} {m : Nat} : cntH K h (m + 1) = cntH K h m + (if K 7 (m : Int) = h then 1 else 0) := by
  show cntH K h m + (if decide (K 7 (m : Int) = h) = true then 1 else 0) = _
  simp only [decide_eq_true_eq]
/-- an event's place among all, by hours -/
def posE (K : Cel) (e : Nat) : Nat := cntB K (K 7 (e : Int)) (K 0 12).toNat + cntH K (K 7 (e : Int)) e
theorem posE_ne {K : Cel} {i e : Nat} (h : i < e) (he : e < (K 0 12).toNat) : posE K e ≠ posE K i := by
  unfold posE
  by_cases q : K 7 (e : Int) = K 7 (i : Int)
  · rw [q]
    have h1 := cnt_mono (fun j => decide (K 7 (j : Int) = K 7 (i : Int))) (i + 1) (e - (i + 1))
    have h2 : cntH K (K 7 (i : Int)) (i + 1) = _ := cntH_s
    rw [if_pos rfl] at h2
    rw [show i + 1 + (e - (i + 1)) = e by omega] at h1
    unfold cntH at h2 ⊢
    omega
  · have g : ∀ x y : Nat, x < (K 0 12).toNat → K 7 (x : Int) < K 7 (y : Int) → cntB K (K 7 (x : Int)) (K 0 12).toNat + cntH K (K 7 (x : Int)) x < cntB K (K 7 (y : Int)) (K 0 12).toNat + cntH K (K 7 (y : Int)) y := fun x y hx hxy => by
      have h1 := cnt_mono (fun j => decide (K 7 (j : Int) = K 7 (x : Int))) (x + 1) ((K 0 12).toNat - (x + 1))
      rw [show x + 1 + ((K 0 12).toNat - (x + 1)) = (K 0 12).toNat by omega] at h1
      have h2 : cntH K (K 7 (x : Int)) (x + 1) = _ := cntH_s
      rw [if_pos rfl] at h2
      have h3 : cntB K (K 7 (x : Int) + 1) (K 0 12).toNat = _ := cntB_s
      have h4 : cntB K (K 7 (x : Int) + 1) (K 0 12).toNat ≤ cntB K (K 7 (y : Int)) (K 0 12).toNat := cntB_mono (by omega)
      unfold cntH at h2 h3 ⊢
      omega
    rcases Int.lt_or_gt_of_ne q with r | r
    · have := g e i he r; omega
    · have := g i e (by omega) r; omega
theorem posE_lt {K : Cel} {e : Nat} (he : e < (K 0 12).toNat) : posE K e < (K 0 12).toNat := by
  have h1 := cnt_mono (fun j => decide (K 7 (j : Int) = K 7 (e : Int))) (e + 1) ((K 0 12).toNat - (e + 1))
  rw [show e + 1 + ((K 0 12).toNat - (e + 1)) = (K 0 12).toNat by omega] at h1
  have h2 : cntH K (K 7 (e : Int)) (e + 1) = _ := cntH_s
  rw [if_pos rfl] at h2
  have h3 : cntB K (K 7 (e : Int) + 1) (K 0 12).toNat = _ := cntB_s
  have h4 := cnt_le (fun i => decide (K 7 (i : Int) < K 7 (e : Int) + 1)) (K 0 12).toNat
  unfold posE
  unfold cntH at h2 h3 ⊢
  unfold cntB at h3 h4 ⊢
  omega
/-- the rows of the order: O the events, H where each hour starts -/
def odM (μ : Mem) (b : Nat) (O H : Int → Int) : Mem := (fun q => if q = 24 + 7 * b then O else if q = 25 + 7 * b then H else μ.1 q, μ.2)
section OD
variable {μ : Mem} {b q : Nat} {O H : Int → Int} {j v : Int}
theorem od_O : (odM μ b O H).1 (24 + 7 * b) = O := if_pos rfl
theorem od_H : (odM μ b O H).1 (25 + 7 * b) = H := by
  show (if _ then O else if _ then H else _) = H
  rw [if_neg (by omega), if_pos rfl]
theorem od_i (h : q ≠ 24 + 7 * b ∧ q ≠ 25 + 7 * b) : (odM μ b O H).1 q = μ.1 q := by
  show (if _ then O else if _ then H else _) = _
  rw [if_neg h.1, if_neg h.2]
theorem od_2 : (odM μ b O H).2 = μ.2 := rfl
theorem od_pO : putI (odM μ b O H) (24 + 7 * b) j v = odM μ b (fun i => if i = j then v else O i) H := by
  refine Prod.ext ?_ rfl
  funext q
  by_cases h : q = 24 + 7 * b
  · subst h
    show (if 24 + 7 * b = 24 + 7 * b then (fun i => if i = j then v else (odM μ b O H).1 (24 + 7 * b) i) else _) = _
    rw [if_pos rfl, od_O, od_O]
  · simp [putI, odM, h]
theorem od_pH : putI (odM μ b O H) (25 + 7 * b) j v = odM μ b O (fun i => if i = j then v else H i) := by
  refine Prod.ext ?_ rfl
  funext q
  by_cases h : q = 25 + 7 * b
  · subst h
    show (if 25 + 7 * b = 25 + 7 * b then (fun i => if i = j then v else (odM μ b O H).1 (25 + 7 * b) i) else _) = _
    rw [if_pos rfl, od_H, od_H]
  · simp [putI, odM, h]
theorem od_rH {f : Int → Int} : rowI (odM μ b O H) (25 + 7 * b) f = odM μ b O f := by
  refine Prod.ext ?_ rfl
  funext q
  by_cases h : q = 25 + 7 * b
  · subst h
    show (if 25 + 7 * b = 25 + 7 * b then f else _) = _
    rw [if_pos rfl, od_H]
  · simp [rowI, odM, h]
theorem od_self : odM μ b (μ.1 (24 + 7 * b)) (μ.1 (25 + 7 * b)) = μ := by
  refine Prod.ext ?_ rfl
  funext q
  by_cases h : q = 24 + 7 * b
  · subst h; exact od_O
  · by_cases h2 : q = 25 + 7 * b
    · subst h2; exact od_H
    · exact od_i ⟨h, h2⟩
end OD
/-- hours counted ahead of m events; sums below h; ahead of what is still to be placed -/
def hcF (K : Cel) (m : Nat) (old : Int → Int) : Int → Int := fun j => if 0 ≤ j ∧ j < 49 then (cntH K j m : Int) else old j
def hsF (K : Cel) (h : Int) (old : Int → Int) : Int → Int := fun j => if 0 ≤ j ∧ j < 49 then (if j < h then (cntB K (j + 1) (K 0 12).toNat : Int) else (cntH K j (K 0 12).toNat : Int)) else old j
def hpF (K : Cel) (m : Nat) (old : Int → Int) : Int → Int := fun j => if 0 ≤ j ∧ j < 49 then (cntB K j (K 0 12).toNat : Int) + (cntH K j m : Int) else old j
theorem hcF_0 {K : Cel} {old : Int → Int} : fiF 0 49 old = hcF K 0 old := by
  funext j
  unfold fiF hcF
  split <;> rfl
theorem hcF_v {K : Cel} {m : Nat} {old : Int → Int} {j : Int} (h : 0 ≤ j ∧ j < 49) : hcF K m old j = (cntH K j m : Int) := if_pos h
theorem hcF_s {K : Cel} {m : Nat} {old : Int → Int} {h : Int} (hh : 0 ≤ h ∧ h < 48) (he : K 7 (m : Int) = h) : (fun i => if i = h then hcF K m old h + 1 else hcF K m old i) = hcF K (m + 1) old := by
  funext i
  by_cases r : i = h
  · subst r
    rw [if_pos rfl, hcF_v (by omega), hcF_v (by omega), cntH_s, if_pos he]
    rfl
  · rw [if_neg r]
    unfold hcF
    by_cases q : 0 ≤ i ∧ i < 49
    · rw [if_pos q, if_pos q, cntH_s, if_neg (fun z => r (z.symm.trans he))]
      rfl
    · rw [if_neg q, if_neg q]
theorem hsF_1 {K : Cel} (hK : KOK K) {old : Int → Int} : hcF K (K 0 12).toNat old = hsF K 1 old := by
  funext i
  unfold hcF hsF
  by_cases q : 0 ≤ i ∧ i < 49
  · rw [if_pos q, if_pos q]
    by_cases r : i < 1
    · rw [if_pos r, show i = 0 by omega, cntB_s, cntB_0 hK, Nat.zero_add]
    · rw [if_neg r]
  · rw [if_neg q, if_neg q]
theorem hsF_lo {K : Cel} {old : Int → Int} {h j : Int} (hj : 0 ≤ j ∧ j < 49) (q : j < h) : hsF K h old j = (cntB K (j + 1) (K 0 12).toNat : Int) := by
  unfold hsF
  rw [if_pos hj, if_pos q]
theorem hsF_hi {K : Cel} {old : Int → Int} {h j : Int} (hj : 0 ≤ j ∧ j < 49) (q : h ≤ j) : hsF K h old j = (cntH K j (K 0 12).toNat : Int) := by
  unfold hsF
  rw [if_pos hj, if_neg (by omega)]
theorem hsF_s {K : Cel} {old : Int → Int} {h : Int} (hh : 1 ≤ h ∧ h ≤ 48) : (fun i => if i = h then hsF K h old h + hsF K h old (h - 1) else hsF K h old i) = hsF K (h + 1) old := by
  funext i
  by_cases r : i = h
  · subst r
    rw [if_pos rfl, hsF_hi (by omega) (by omega), hsF_lo (by omega) (by omega), hsF_lo (by omega) (by omega), show i - 1 + 1 = i by omega, cntB_s]
    omega
  · rw [if_neg r]
    by_cases q : 0 ≤ i ∧ i < 49
    · by_cases r2 : i < h
      · rw [hsF_lo q r2, hsF_lo q (by omega)]
      · rw [hsF_hi q (by omega), hsF_hi q (by omega)]
    · unfold hsF
      rw [if_neg q, if_neg q]
theorem hpF_n {K : Cel} {old : Int → Int} : hsF K 49 old = hpF K (K 0 12).toNat old := by
  funext i
  unfold hsF hpF
  by_cases q : 0 ≤ i ∧ i < 49
  · rw [if_pos q, if_pos (by omega), if_pos q, cntB_s]
    omega
  · rw [if_neg q, if_neg q]
theorem hpF_at {K : Cel} {m : Nat} {old : Int → Int} {h : Int} (hh : 0 ≤ h ∧ h < 48) (he : K 7 (m : Int) = h) : hpF K (m + 1) old h = (posE K m : Int) + 1 := by
  unfold hpF posE
  rw [if_pos (by omega), cntH_s, he, if_pos rfl]
  omega
theorem hpF_v {K : Cel} {m : Nat} {old : Int → Int} {j : Int} (h : 0 ≤ j ∧ j < 49) : hpF K m old j = (cntB K j (K 0 12).toNat : Int) + (cntH K j m : Int) := if_pos h
theorem hpF_s {K : Cel} {m : Nat} {old : Int → Int} {h v : Int} (hh : 0 ≤ h ∧ h < 48) (he : K 7 (m : Int) = h) (hv : v = (posE K m : Int)) : (fun i => if i = h then v else hpF K (m + 1) old i) = hpF K m old := by
  funext i
  subst hv
  by_cases r : i = h
  · subst r
    rw [if_pos rfl, hpF_v (by omega)]
    unfold posE
    rw [he]
    omega
  · rw [if_neg r]
    unfold hpF
    by_cases q : 0 ≤ i ∧ i < 49
    · rw [if_pos q, if_pos q, cntH_s, if_neg (fun z => r (z.symm.trans he))]
      rfl
    · rw [if_neg q, if_neg q]
set_option maxHeartbeats 1000000 in
set_option maxRecDepth 100000 in
theorem l_X4_order3 {μ : Mem} {b : Nat} {O H : Int → Int} {K : Cel} (hb : b < 2) (hR : KR K μ) (hK : KOK K) : ∀ (m : Nat) (e : Int) (O1 : Int → Int), e = (m : Int) - 1 → m ≤ (K 0 12).toNat → (∀ i : Nat, m ≤ i → i < (K 0 12).toNat → O1 (posE K i : Int) = (i : Int)) → PW shC 1 mX4_orderByHours 98 [(0, vr (3 + b)), (1, vi e)] [] (odM μ b O1 (hpF K m H)) (QV (fun μ' => ∃ O' H' : Int → Int, (∀ j, 0 ≤ j → j ≤ 48 → H' j = (cntB K j (K 0 12).toNat : Int)) ∧ (∀ e : Nat, e < (K 0 12).toNat → O' (posE K e : Int) = (e : Int)) ∧ μ' = odM μ b O' H')) := by
  intro m
  induction m with
  | zero =>
    intro e O1 he hm hO
    refine P_iload_n (pc := 98) dX4_orderByHours_98 rfl 1 rfl ?_
    refine P_if_lt (tgt := 170) (pc := 99) dX4_orderByHours_99 (by decide) (by unfold InR; omega) (fun _ => ?_) (fun c => by exfalso; omega)
    exact P_vret (pc := 170) dX4_orderByHours_170 rfl (QV.mk ⟨O1, hpF K 0 H, fun j a b => (by unfold hpF; rw [if_pos (by omega)]; show _ + ((0 : Nat) : Int) = _; omega), fun i hi => hO i (Nat.zero_le _) hi, rfl⟩)
  | succ m ih =>
  intro e O1 he hm hO
  have h12 := hR.1.2
  have hK2 := hK.2.1
  have g1 := hK.2.2.2.2.2.2.1 e
  have he2 : e = (m : Int) := by omega
  have gH : ∃ h, K 7 e = h ∧ (0 ≤ h ∧ h < 48) := ⟨_, rfl, by omega⟩
  obtain ⟨h, gh, hh⟩ := gH
  have gh2 : K 7 (m : Int) = h := by rw [← he2]; exact gh
  have gp := posE_lt (K := K) (e := m) (by omega)
  have ga := hpF_at (K := K) (m := m) (old := H) hh gh2
  have gs := fun v => hpF_s (K := K) (m := m) (old := H) (v := v) hh gh2
  rw [gh] at g1
  refine P_iload_n (pc := 98) dX4_orderByHours_98 rfl 1 rfl ?_
  refine P_if_lt (tgt := 170) (pc := 99) dX4_orderByHours_99 (by decide) (by first | assumption | (unfold InR; omega)) (fun c_99 => ?_) (fun c_99 => ?_)
  · exact P_vret (pc := 170) dX4_orderByHours_170 rfl (QV.mk (by exfalso; omega))
  · refine P_aload_n (pc := 102) dX4_orderByHours_102 rfl 0 rfl ?_
    refine P_getR (pc := 103) dX4_orderByHours_103 fa_RX4_38 (sS_o hb) fS_0 ?_
    refine P_iload_n (pc := 106) dX4_orderByHours_106 rfl 1 rfl ?_
    refine P_iconst (pc := 107) dX4_orderByHours_107 ?_
    refine P_callVi (Y' := mX3_eventPart) (as := [_, _]) (pc := 108) dX4_orderByHours_108 rfl (by decide : 0 < 1) sC_1 rfl ml_RX4_68 im_X3_eventPart se_X3_eventPart mk_X3_eventPart (Nat.le_of_ble_eq_true rfl) (c_X3_eventPart (by omega) (by omega)) (fun z_ μ_ hq => ?_)
    obtain ⟨hz, hμ_⟩ := hq
    subst hμ_
    simp (disch := omega) only [od_i, Int.add_zero] at hz
    rw [(hR.2.2.2.2.1 e).1] at hz
    try rw [gh] at hz
    subst hz
    try simp (disch := omega) only [od_O, od_H, od_i, od_2, od_pO, od_pH, od_rH, eq_self, if_true]
    refine P_istore_n (L' := [(2, vi _), (0, vr (3 + b)), (1, vi _)]) (pc := 111) dX4_orderByHours_111 rfl (by decide) rfl ?_
    refine P_iload_n (pc := 112) dX4_orderByHours_112 rfl 0 rfl ?_
    refine P_if_lt (tgt := 164) (pc := 113) dX4_orderByHours_113 (by decide) (by first | assumption | (unfold InR; omega)) (fun c_113 => ?_) (fun c_113 => ?_)
    · refine P_iinc (L' := [(1, vi _), (2, vi _), (0, vr (3 + b))]) (pc := 164) dX4_orderByHours_164 (by decide) 2 rfl rfl ?_
      refine P_goto (tgt := 98) (pc := 167) dX4_orderByHours_167 (by decide) ?_
      refine P_sub (L' := [(0, vr (3 + b)), (1, vi _)]) [2, 0] rfl ?_
      first
        | (exfalso; omega)
        | (rw [gs _ (by omega)]
           refine ih (e + -1) _ (by omega) (by omega) (fun i hi1 hi2 => ?_)
           by_cases q : i = m
           · subst q
             rw [if_pos (by omega)]
             omega
           · have := posE_ne (K := K) (i := m) (e := i) (by omega) hi2
             rw [if_neg (by omega)]
             exact hO i (by omega) hi2)
    · refine P_iload_n (pc := 116) dX4_orderByHours_116 rfl 0 rfl ?_
      refine P_bipush (pc := 117) dX4_orderByHours_117 (by decide) ?_
      refine P_icmp_ge (tgt := 164) (pc := 119) dX4_orderByHours_119 (by decide) (by first | assumption | (unfold InR; omega)) (by first | assumption | (unfold InR; omega)) (fun c_119 => ?_) (fun c_119 => ?_)
      · refine P_iinc (L' := [(1, vi _), (2, vi _), (0, vr (3 + b))]) (pc := 164) dX4_orderByHours_164 (by decide) 2 rfl rfl ?_
        refine P_goto (tgt := 98) (pc := 167) dX4_orderByHours_167 (by decide) ?_
        refine P_sub (L' := [(0, vr (3 + b)), (1, vi _)]) [2, 0] rfl ?_
        first
          | (exfalso; omega)
          | (rw [gs _ (by omega)]
             refine ih (e + -1) _ (by omega) (by omega) (fun i hi1 hi2 => ?_)
             by_cases q : i = m
             · subst q
               rw [if_pos (by omega)]
               omega
             · have := posE_ne (K := K) (i := m) (e := i) (by omega) hi2
               rw [if_neg (by omega)]
               exact hO i (by omega) hi2)
      · refine P_aload_n (pc := 122) dX4_orderByHours_122 rfl 1 rfl ?_
        refine P_getR (pc := 123) dX4_orderByHours_123 fa_RX4_22 (sS_o hb) fS_5 ?_
        refine P_iload_n (pc := 126) dX4_orderByHours_126 rfl 0 rfl ?_
        refine P_iald (pc := 127) dX4_orderByHours_127 (sS_25 hb) (by omega) (by omega) (by decide) ?_
        try simp (disch := omega) only [od_O, od_H, od_i, od_2, od_pO, od_pH, od_rH, eq_self, if_true]
        refine P_if_le (tgt := 164) (pc := 128) dX4_orderByHours_128 (by decide) (by first | assumption | (unfold InR; omega)) (fun c_128 => ?_) (fun c_128 => ?_)
        · refine P_iinc (L' := [(1, vi _), (2, vi _), (0, vr (3 + b))]) (pc := 164) dX4_orderByHours_164 (by decide) 2 rfl rfl ?_
          refine P_goto (tgt := 98) (pc := 167) dX4_orderByHours_167 (by decide) ?_
          refine P_sub (L' := [(0, vr (3 + b)), (1, vi _)]) [2, 0] rfl ?_
          first
            | (exfalso; omega)
            | (rw [gs _ (by omega)]
               refine ih (e + -1) _ (by omega) (by omega) (fun i hi1 hi2 => ?_)
               by_cases q : i = m
               · subst q
                 rw [if_pos (by omega)]
                 omega
               · have := posE_ne (K := K) (i := m) (e := i) (by omega) hi2
                 rw [if_neg (by omega)]
                 exact hO i (by omega) hi2)
        · refine P_aload_n (pc := 131) dX4_orderByHours_131 rfl 1 rfl ?_
          refine P_getR (pc := 132) dX4_orderByHours_132 fa_RX4_22 (sS_o hb) fS_5 ?_
          refine P_iload_n (pc := 135) dX4_orderByHours_135 rfl 0 rfl ?_
          refine P_iald (pc := 136) dX4_orderByHours_136 (sS_25 hb) (by omega) (by omega) (by decide) ?_
          try simp (disch := omega) only [od_O, od_H, od_i, od_2, od_pO, od_pH, od_rH, eq_self, if_true]
          refine P_bipush (pc := 137) dX4_orderByHours_137 (by decide) ?_
          refine P_icmp_gt (tgt := 164) (pc := 139) dX4_orderByHours_139 (by decide) (by first | assumption | (unfold InR; omega)) (by first | assumption | (unfold InR; omega)) (fun c_139 => ?_) (fun c_139 => ?_)
          · refine P_iinc (L' := [(1, vi _), (2, vi _), (0, vr (3 + b))]) (pc := 164) dX4_orderByHours_164 (by decide) 2 rfl rfl ?_
            refine P_goto (tgt := 98) (pc := 167) dX4_orderByHours_167 (by decide) ?_
            refine P_sub (L' := [(0, vr (3 + b)), (1, vi _)]) [2, 0] rfl ?_
            first
              | (exfalso; omega)
              | (rw [gs _ (by omega)]
                 refine ih (e + -1) _ (by omega) (by omega) (fun i hi1 hi2 => ?_)
                 by_cases q : i = m
                 · subst q
                   rw [if_pos (by omega)]
                   omega
                 · have := posE_ne (K := K) (i := m) (e := i) (by omega) hi2
                   rw [if_neg (by omega)]
                   exact hO i (by omega) hi2)
          · refine P_aload_n (pc := 142) dX4_orderByHours_142 rfl 1 rfl ?_
            refine P_getR (pc := 143) dX4_orderByHours_143 fa_RX4_22 (sS_o hb) fS_5 ?_
            refine P_iload_n (pc := 146) dX4_orderByHours_146 rfl 0 rfl ?_
            refine P_dup2_11 (pc := 147) dX4_orderByHours_147 rfl rfl ?_
            refine P_iald (pc := 148) dX4_orderByHours_148 (sS_25 hb) (by omega) (by omega) (by decide) ?_
            try simp (disch := omega) only [od_O, od_H, od_i, od_2, od_pO, od_pH, od_rH, eq_self, if_true]
            refine P_iconst (pc := 149) dX4_orderByHours_149 ?_
            refine P_isub (pc := 150) dX4_orderByHours_150 ?_
            refine P_iast (pc := 151) dX4_orderByHours_151 (sS_25 hb) (by omega) (by omega) (by decide) ?_
            try simp (disch := omega) only [od_O, od_H, od_i, od_2, od_pO, od_pH, od_rH, eq_self, if_true]
            refine P_aload_n (pc := 152) dX4_orderByHours_152 rfl 1 rfl ?_
            refine P_getR (pc := 153) dX4_orderByHours_153 fa_RX4_18 (sS_o hb) fS_4 ?_
            refine P_aload_n (pc := 156) dX4_orderByHours_156 rfl 1 rfl ?_
            refine P_getR (pc := 157) dX4_orderByHours_157 fa_RX4_22 (sS_o hb) fS_5 ?_
            refine P_iload_n (pc := 160) dX4_orderByHours_160 rfl 0 rfl ?_
            refine P_iald (pc := 161) dX4_orderByHours_161 (sS_25 hb) (by omega) (by omega) (by decide) ?_
            try simp (disch := omega) only [od_O, od_H, od_i, od_2, od_pO, od_pH, od_rH, eq_self, if_true]
            refine P_iload_n (pc := 162) dX4_orderByHours_162 rfl 2 rfl ?_
            refine P_iast (pc := 163) dX4_orderByHours_163 (sS_24 hb) (by omega) (by omega) (by decide) ?_
            try simp (disch := omega) only [od_O, od_H, od_i, od_2, od_pO, od_pH, od_rH, eq_self, if_true]
            refine P_iinc (L' := [(1, vi _), (2, vi _), (0, vr (3 + b))]) (pc := 164) dX4_orderByHours_164 (by decide) 2 rfl rfl ?_
            refine P_goto (tgt := 98) (pc := 167) dX4_orderByHours_167 (by decide) ?_
            refine P_sub (L' := [(0, vr (3 + b)), (1, vi _)]) [2, 0] rfl ?_
            first
              | (exfalso; omega)
              | (rw [gs _ (by omega)]
                 refine ih (e + -1) _ (by omega) (by omega) (fun i hi1 hi2 => ?_)
                 by_cases q : i = m
                 · subst q
                   rw [if_pos (by omega)]
                   omega
                 · have := posE_ne (K := K) (i := m) (e := i) (by omega) hi2
                   rw [if_neg (by omega)]
                   exact hO i (by omega) hi2)
set_option maxHeartbeats 1000000 in
set_option maxRecDepth 100000 in
theorem l_X4_order2 {μ : Mem} {b : Nat} {O H : Int → Int} {K : Cel} (hb : b < 2) (hR : KR K μ) (hK : KOK K) : ∀ (n : Nat) (h : Int), 1 ≤ h ∧ h ≤ 49 → (49 - h).toNat < n → PW shC 1 mX4_orderByHours 59 [(0, vr (3 + b)), (1, vi h)] [] (odM μ b O (hsF K h H)) (QV (fun μ' => ∃ O' H' : Int → Int, (∀ j, 0 ≤ j → j ≤ 48 → H' j = (cntB K j (K 0 12).toNat : Int)) ∧ (∀ e : Nat, e < (K 0 12).toNat → O' (posE K e : Int) = (e : Int)) ∧ μ' = odM μ b O' H')) := by
  intro n
  induction n with
  | zero => intro h _ q; omega
  | succ n ih =>
  intro h hh hn
  have h12 := hR.1.2
  have hK2 := hK.2.1
  refine P_iload_n (pc := 59) dX4_orderByHours_59 rfl 1 rfl ?_
  refine P_bipush (pc := 60) dX4_orderByHours_60 (by decide) ?_
  refine P_icmp_gt (tgt := 88) (pc := 62) dX4_orderByHours_62 (by decide) (by first | assumption | (unfold InR; omega)) (by first | assumption | (unfold InR; omega)) (fun c_62 => ?_) (fun c_62 => ?_)
  · refine P_aload_n (pc := 88) dX4_orderByHours_88 rfl 0 rfl ?_
    refine P_getR (pc := 89) dX4_orderByHours_89 fa_RX4_38 (sS_o hb) fS_0 ?_
    refine P_getI (jj := 7) (pc := 92) dX4_orderByHours_92 fa_RX4_65 sC_1 fC1_7 rfl ?_
    try simp (disch := omega) only [od_O, od_H, od_i, od_2, od_pO, od_pH, od_rH, eq_self, if_true]
    rw [h12]
    refine P_iconst (pc := 95) dX4_orderByHours_95 ?_
    refine P_isub (pc := 96) dX4_orderByHours_96 ?_
    refine P_istore_n (L' := [(1, vi _), (0, vr (3 + b))]) (pc := 97) dX4_orderByHours_97 rfl (by decide) rfl ?_
    refine P_sub (L' := [(0, vr (3 + b)), (1, vi _)]) [1, 0] rfl ?_
    have e9 : h = 49 := (by omega)
    subst e9
    rw [hpF_n]
    exact l_X4_order3 (O := O) hb hR hK _ _ O (by omega) (Nat.le_refl _) (fun i h1 h2 => absurd h2 (by omega))
  · refine P_aload_n (pc := 65) dX4_orderByHours_65 rfl 0 rfl ?_
    refine P_getR (pc := 66) dX4_orderByHours_66 fa_RX4_22 (sS_o hb) fS_5 ?_
    refine P_iload_n (pc := 69) dX4_orderByHours_69 rfl 1 rfl ?_
    refine P_dup2_11 (pc := 70) dX4_orderByHours_70 rfl rfl ?_
    refine P_iald (pc := 71) dX4_orderByHours_71 (sS_25 hb) (by omega) (by omega) (by decide) ?_
    try simp (disch := omega) only [od_O, od_H, od_i, od_2, od_pO, od_pH, od_rH, eq_self, if_true]
    refine P_aload_n (pc := 72) dX4_orderByHours_72 rfl 0 rfl ?_
    refine P_getR (pc := 73) dX4_orderByHours_73 fa_RX4_22 (sS_o hb) fS_5 ?_
    refine P_iload_n (pc := 76) dX4_orderByHours_76 rfl 1 rfl ?_
    refine P_iconst (pc := 77) dX4_orderByHours_77 ?_
    refine P_isub (pc := 78) dX4_orderByHours_78 ?_
    refine P_iald (pc := 79) dX4_orderByHours_79 (sS_25 hb) (by omega) (by omega) (by decide) ?_
    try simp (disch := omega) only [od_O, od_H, od_i, od_2, od_pO, od_pH, od_rH, eq_self, if_true]
    refine P_iadd (pc := 80) dX4_orderByHours_80 ?_
    refine P_iast (pc := 81) dX4_orderByHours_81 (sS_25 hb) (by omega) (by omega) (by decide) ?_
    try simp (disch := omega) only [od_O, od_H, od_i, od_2, od_pO, od_pH, od_rH, eq_self, if_true]
    refine P_iinc (L' := [(1, vi _), (0, vr (3 + b))]) (pc := 82) dX4_orderByHours_82 (by decide) 1 rfl rfl ?_
    refine P_goto (tgt := 59) (pc := 85) dX4_orderByHours_85 (by decide) ?_
    refine P_sub (L' := [(0, vr (3 + b)), (1, vi _)]) [1, 0] rfl ?_
    rw [hsF_s (by omega)]
    exact ih (h + 1) (by omega) (by omega)
set_option maxHeartbeats 1000000 in
set_option maxRecDepth 100000 in
theorem l_X4_order1 {μ : Mem} {b : Nat} {O H : Int → Int} {K : Cel} (hb : b < 2) (hR : KR K μ) (hK : KOK K) : ∀ (n m : Nat) (e : Int), e = (m : Int) → m ≤ (K 0 12).toNat → (K 0 12).toNat - m < n → PW shC 1 mX4_orderByHours 10 [(0, vr (3 + b)), (1, vi e)] [] (odM μ b O (hcF K m H)) (QV (fun μ' => ∃ O' H' : Int → Int, (∀ j, 0 ≤ j → j ≤ 48 → H' j = (cntB K j (K 0 12).toNat : Int)) ∧ (∀ e : Nat, e < (K 0 12).toNat → O' (posE K e : Int) = (e : Int)) ∧ μ' = odM μ b O' H')) := by
  intro n
  induction n with
  | zero => intro m e _ _ q; omega
  | succ n ih =>
  intro m e he hm hn
  have h12 := hR.1.2
  have hK2 := hK.2.1
  have g1 := hK.2.2.2.2.2.2.1 e
  refine P_iload_n (pc := 10) dX4_orderByHours_10 rfl 1 rfl ?_
  refine P_aload_n (pc := 11) dX4_orderByHours_11 rfl 0 rfl ?_
  refine P_getR (pc := 12) dX4_orderByHours_12 fa_RX4_38 (sS_o hb) fS_0 ?_
  refine P_getI (jj := 7) (pc := 15) dX4_orderByHours_15 fa_RX4_65 sC_1 fC1_7 rfl ?_
  try simp (disch := omega) only [od_O, od_H, od_i, od_2, od_pO, od_pH, od_rH, eq_self, if_true]
  rw [h12]
  refine P_icmp_ge (tgt := 57) (pc := 18) dX4_orderByHours_18 (by decide) (by first | assumption | (unfold InR; omega)) (by first | assumption | (unfold InR; omega)) (fun c_18 => ?_) (fun c_18 => ?_)
  · refine P_iconst (pc := 57) dX4_orderByHours_57 ?_
    refine P_istore_n (L' := [(1, vi _), (0, vr (3 + b))]) (pc := 58) dX4_orderByHours_58 rfl (by decide) rfl ?_
    refine P_sub (L' := [(0, vr (3 + b)), (1, vi _)]) [1, 0] rfl ?_
    have e9 : m = (K 0 12).toNat := (by omega)
    subst e9
    rw [hsF_1 hK]
    exact l_X4_order2 hb hR hK 49 1 (by omega) (by omega)
  · refine P_aload_n (pc := 21) dX4_orderByHours_21 rfl 0 rfl ?_
    refine P_getR (pc := 22) dX4_orderByHours_22 fa_RX4_38 (sS_o hb) fS_0 ?_
    refine P_iload_n (pc := 25) dX4_orderByHours_25 rfl 1 rfl ?_
    refine P_iconst (pc := 26) dX4_orderByHours_26 ?_
    refine P_callVi (Y' := mX3_eventPart) (as := [_, _]) (pc := 27) dX4_orderByHours_27 rfl (by decide : 0 < 1) sC_1 rfl ml_RX4_68 im_X3_eventPart se_X3_eventPart mk_X3_eventPart (Nat.le_of_ble_eq_true rfl) (c_X3_eventPart (by omega) (by omega)) (fun z_ μ_ hq => ?_)
    obtain ⟨hz, hμ_⟩ := hq
    subst hμ_
    simp (disch := omega) only [od_i, Int.add_zero] at hz
    rw [(hR.2.2.2.2.1 e).1] at hz
    try rw [gh] at hz
    subst hz
    try simp (disch := omega) only [od_O, od_H, od_i, od_2, od_pO, od_pH, od_rH, eq_self, if_true]
    refine P_istore_n (L' := [(2, vi _), (0, vr (3 + b)), (1, vi _)]) (pc := 30) dX4_orderByHours_30 rfl (by decide) rfl ?_
    refine P_iload_n (pc := 31) dX4_orderByHours_31 rfl 0 rfl ?_
    refine P_if_lt (tgt := 51) (pc := 32) dX4_orderByHours_32 (by decide) (by first | assumption | (unfold InR; omega)) (fun c_32 => ?_) (fun c_32 => ?_)
    · refine P_iinc (L' := [(1, vi _), (2, vi _), (0, vr (3 + b))]) (pc := 51) dX4_orderByHours_51 (by decide) 2 rfl rfl ?_
      refine P_goto (tgt := 10) (pc := 54) dX4_orderByHours_54 (by decide) ?_
      refine P_sub (L' := [(0, vr (3 + b)), (1, vi _)]) [2, 0] rfl ?_
      first
        | (exfalso; omega)
        | (rw [hcF_s (by omega) (by rw [← he])]
           exact ih (m + 1) (e + 1) (by omega) (by omega) (by omega))
    · refine P_iload_n (pc := 35) dX4_orderByHours_35 rfl 0 rfl ?_
      refine P_bipush (pc := 36) dX4_orderByHours_36 (by decide) ?_
      refine P_icmp_ge (tgt := 51) (pc := 38) dX4_orderByHours_38 (by decide) (by first | assumption | (unfold InR; omega)) (by first | assumption | (unfold InR; omega)) (fun c_38 => ?_) (fun c_38 => ?_)
      · refine P_iinc (L' := [(1, vi _), (2, vi _), (0, vr (3 + b))]) (pc := 51) dX4_orderByHours_51 (by decide) 2 rfl rfl ?_
        refine P_goto (tgt := 10) (pc := 54) dX4_orderByHours_54 (by decide) ?_
        refine P_sub (L' := [(0, vr (3 + b)), (1, vi _)]) [2, 0] rfl ?_
        first
          | (exfalso; omega)
          | (rw [hcF_s (by omega) (by rw [← he])]
             exact ih (m + 1) (e + 1) (by omega) (by omega) (by omega))
      · refine P_aload_n (pc := 41) dX4_orderByHours_41 rfl 1 rfl ?_
        refine P_getR (pc := 42) dX4_orderByHours_42 fa_RX4_22 (sS_o hb) fS_5 ?_
        refine P_iload_n (pc := 45) dX4_orderByHours_45 rfl 0 rfl ?_
        refine P_dup2_11 (pc := 46) dX4_orderByHours_46 rfl rfl ?_
        refine P_iald (pc := 47) dX4_orderByHours_47 (sS_25 hb) (by omega) (by omega) (by decide) ?_
        try simp (disch := omega) only [od_O, od_H, od_i, od_2, od_pO, od_pH, od_rH, eq_self, if_true]
        refine P_iconst (pc := 48) dX4_orderByHours_48 ?_
        refine P_iadd (pc := 49) dX4_orderByHours_49 ?_
        refine P_iast (pc := 50) dX4_orderByHours_50 (sS_25 hb) (by omega) (by omega) (by decide) ?_
        try simp (disch := omega) only [od_O, od_H, od_i, od_2, od_pO, od_pH, od_rH, eq_self, if_true]
        refine P_iinc (L' := [(1, vi _), (2, vi _), (0, vr (3 + b))]) (pc := 51) dX4_orderByHours_51 (by decide) 2 rfl rfl ?_
        refine P_goto (tgt := 10) (pc := 54) dX4_orderByHours_54 (by decide) ?_
        refine P_sub (L' := [(0, vr (3 + b)), (1, vi _)]) [2, 0] rfl ?_
        first
          | (exfalso; omega)
          | (rw [hcF_s (by omega) (by rw [← he])]
             exact ih (m + 1) (e + 1) (by omega) (by omega) (by omega))
set_option maxHeartbeats 1000000 in
set_option maxRecDepth 100000 in
theorem c_X4_orderByHours {μ : Mem} {b : Nat} {O H : Int → Int} {K : Cel} (hb : b < 2) (hR : KR K μ) (hK : KOK K) : PC shC 1 mX4_orderByHours [vr (3 + b)] (odM μ b O H) (QV (fun μ' => ∃ O' H' : Int → Int, (∀ j, 0 ≤ j → j ≤ 48 → H' j = (cntB K j (K 0 12).toNat : Int)) ∧ (∀ e : Nat, e < (K 0 12).toNat → O' (posE K e : Int) = (e : Int)) ∧ μ' = odM μ b O' H')) := by
  refine PC.of (by decide +kernel) (Nat.le_of_ble_eq_true rfl) ?_
  refine P_sub (L' := [(0, vr (3 + b))]) [0] rfl ?_
  refine P_aload_n (pc := 0) dX4_orderByHours_0 rfl 0 rfl ?_
  refine P_getR (pc := 1) dX4_orderByHours_1 fa_RX4_22 (sS_o hb) fS_5 ?_
  refine P_iconst (pc := 4) dX4_orderByHours_4 ?_
  refine P_callSv (Y' := mJ7_fill_53178) (as := [_, _]) (pc := 5) dX4_orderByHours_5 rfl (by decide : 0 < 1) ml_RX4_72 sm_J7_fill_53178 mk_J7_fill_53178 (Nat.le_of_ble_eq_true rfl) (c_fill_hs hb) (fun μ_ hq => ?_)
  subst hq
  try simp (disch := omega) only [od_O, od_H, od_i, od_2, od_pO, od_pH, od_rH, eq_self, if_true]
  refine P_iconst (pc := 8) dX4_orderByHours_8 ?_
  refine P_istore_n (L' := [(1, vi _), (0, vr (3 + b))]) (pc := 9) dX4_orderByHours_9 rfl (by decide) rfl ?_
  refine P_sub (L' := [(0, vr (3 + b)), (1, vi _)]) [1, 0] rfl ?_
  rw [hcF_0 (K := K)]
  exact l_X4_order1 hb hR hK ((K 0 12).toNat + 1) 0 0 rfl (Nat.zero_le _) (by omega)
