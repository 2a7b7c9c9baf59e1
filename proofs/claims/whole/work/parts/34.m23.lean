def updI (g : Int → Int) (j v : Int) : Int → Int := fun i => if i = j then v else g i
def setL (μ : Mem) (g : Int → Int) : Mem := (fun q => if q = 28 then g else μ.1 q, μ.2)
theorem setL_28 {μ : Mem} {g : Int → Int} : (setL μ g).1 28 = g := rfl
theorem setL_0 {μ : Mem} {g : Int → Int} : (setL μ g).1 0 = μ.1 0 := rfl
theorem setL_put {μ : Mem} {j v : Int} : putI μ 28 j v = setL μ (updI (μ.1 28) j v) := by
  unfold putI setL updI
  refine Prod.ext ?_ rfl
  funext q i
  by_cases h : q = 28
  · subst h; by_cases h2 : i = j <;> simp [h2]
  · simp [h]
theorem setL_setL {μ : Mem} {g g' : Int → Int} : setL (setL μ g) g' = setL μ g' := by
  unfold setL
  refine Prod.ext ?_ rfl
  funext q
  by_cases h : q = 28 <;> simp [h]
def swF (f : Int → Int) (p q : Int) : Int → Int := updI (updI f p (f q)) q (f p)
def rvF (h : Int → Int) (p s : Int) (t : Int) : Int → Int := fun j => if (p < j ∧ j < p + 1 + t) ∨ (s - 1 - t < j ∧ j < s) then h (p + s - j) else h j
theorem rvF_0 {h : Int → Int} {p s : Int} : rvF h p s 0 = h := by
  funext j
  unfold rvF
  rw [if_neg (by omega)]
theorem rvF_s {h : Int → Int} {p s t : Int} (h0 : 0 ≤ t) (h1 : p + 1 + t < s - 1 - t) : updI (updI (rvF h p s t) (p + 1 + t) (rvF h p s t (s - 1 - t))) (s - 1 - t) (rvF h p s t (p + 1 + t)) = rvF h p s (t + 1) := by
  funext j
  unfold updI rvF
  by_cases a : j = s - 1 - t
  · subst a
    rw [if_pos rfl, if_neg (by omega), if_pos (by omega)]
    congr 1; omega
  · by_cases b : j = p + 1 + t
    · subst b
      rw [if_neg a, if_pos rfl, if_neg (by omega), if_pos (by omega)]
      congr 1; omega
    · rw [if_neg a, if_neg b]
      by_cases c : (p < j ∧ j < p + 1 + t) ∨ (s - 1 - t < j ∧ j < s)
      · rw [if_pos c, if_pos (by omega)]
      · rw [if_neg c, if_neg (by omega)]
def nlF (f : Int → Int) (p q s : Int) : Int → Int := fun j => if p < j ∧ j < s then swF f p q (p + s - j) else swF f p q j
theorem rvF_e {h : Int → Int} {p s t : Int} (h0 : 0 ≤ t) (h1 : s - 1 - t ≤ p + 1 + t) (h2 : p + 1 + t ≤ s - t) : rvF h p s t = fun j => if p < j ∧ j < s then h (p + s - j) else h j := by
  funext j
  unfold rvF
  by_cases c : (p < j ∧ j < p + 1 + t) ∨ (s - 1 - t < j ∧ j < s)
  · rw [if_pos c, if_pos (by omega)]
  · rw [if_neg c]
    by_cases d : p < j ∧ j < s
    · rw [if_pos d, show p + s - j = j by omega]
    · rw [if_neg d]
def nlR (f : Int → Int) (p q s : Int) : Prop := (0 ≤ p ∧ p + 1 < s) ∧ f p ≤ f (p + 1) ∧ (∀ j, p < j → j + 1 < s → f (j + 1) < f j) ∧ (p < q ∧ q < s) ∧ f p ≤ f q ∧ ∀ k, q < k → k < s → f k < f p
def nlQ (μ : Mem) (s z : Int) (μ' : Mem) : Prop := (z = 0 ∧ μ' = μ ∧ ∀ j, 0 ≤ j → j + 1 < s → μ.1 28 (j + 1) < μ.1 28 j) ∨ (z = 1 ∧ ∃ p q : Int, nlR (μ.1 28) p q s ∧ μ' = setL μ (nlF (μ.1 28) p q s))
set_option maxHeartbeats 1000000 in
set_option maxRecDepth 100000 in
theorem l_X6_nextLine3 {μ : Mem} {s : Int} (hs : μ.1 0 37 = s) (hs5 : 0 ≤ s ∧ s ≤ 5) {p q : Int} (hp : 0 ≤ p ∧ p + 1 < s) (hR : nlR (μ.1 28) p q s) : ∀ (n j : Nat) (t a b : Int), t = (j : Int) → a = p + 1 + t → b = s - 1 - t → a ≤ s - t → (s - t).toNat < n → PW shM 0 mX6_nextLine 107 [(0, vr 0), (4, vi a), (5, vi b)] [] (setL μ (rvF (swF (μ.1 28) p q) p s t)) (QI (fun z μ' => nlQ μ s z μ')) := by
  intro n
  induction n with
  | zero => intro j t a b _ _ _ _ q; omega
  | succ n ih =>
  intro j t a b ht ha hb hab hn
  refine P_iload (pc := 107) dX6_nextLine_107 1 rfl ?_
  refine P_iload (pc := 109) dX6_nextLine_109 2 rfl ?_
  refine P_icmp_ge (tgt := 153) (pc := 111) dX6_nextLine_111 (by decide) (by unfold InR; omega) (by unfold InR; omega) (fun c_111 => ?_) (fun c_111 => ?_)
  · refine P_iconst (pc := 153) dX6_nextLine_153 ?_
    exact P_zret (pc := 154) dX6_nextLine_154 rfl (by omega) (QI.mk (by first | (refine Or.inl ⟨rfl, rfl, fun j h1 h2 => hd j (by omega) h2⟩) | (refine Or.inr ⟨rfl, p, q, hR, ?_⟩; rw [rvF_e (by omega) (by omega) (by omega)]; rfl)))
  · refine P_aload_n (pc := 114) dX6_nextLine_114 rfl 0 rfl ?_
    refine P_getR (pc := 115) dX6_nextLine_115 fa_RX6_92 sM_0 fM0_36 ?_
    refine P_iload (pc := 118) dX6_nextLine_118 1 rfl ?_
    refine P_iald (pc := 120) dX6_nextLine_120 sM_28 (by omega) (by omega) (by decide) ?_
    try simp only [setL_put, setL_28, setL_0, setL_setL]
    refine P_istore_n (L' := [(3, vi _), (0, vr 0), (4, vi _), (5, vi _)]) (pc := 121) dX6_nextLine_121 rfl (by decide) rfl ?_
    refine P_aload_n (pc := 122) dX6_nextLine_122 rfl 1 rfl ?_
    refine P_getR (pc := 123) dX6_nextLine_123 fa_RX6_92 sM_0 fM0_36 ?_
    refine P_iload (pc := 126) dX6_nextLine_126 2 rfl ?_
    refine P_aload_n (pc := 128) dX6_nextLine_128 rfl 1 rfl ?_
    refine P_getR (pc := 129) dX6_nextLine_129 fa_RX6_92 sM_0 fM0_36 ?_
    refine P_iload (pc := 132) dX6_nextLine_132 3 rfl ?_
    refine P_iald (pc := 134) dX6_nextLine_134 sM_28 (by omega) (by omega) (by decide) ?_
    try simp only [setL_put, setL_28, setL_0, setL_setL]
    refine P_iast (pc := 135) dX6_nextLine_135 sM_28 (by omega) (by omega) (by decide) ?_
    try simp only [setL_put, setL_28, setL_0, setL_setL]
    refine P_aload_n (pc := 136) dX6_nextLine_136 rfl 1 rfl ?_
    refine P_getR (pc := 137) dX6_nextLine_137 fa_RX6_92 sM_0 fM0_36 ?_
    refine P_iload (pc := 140) dX6_nextLine_140 3 rfl ?_
    refine P_iload_n (pc := 142) dX6_nextLine_142 rfl 0 rfl ?_
    refine P_iast (pc := 143) dX6_nextLine_143 sM_28 (by omega) (by omega) (by decide) ?_
    try simp only [setL_put, setL_28, setL_0, setL_setL]
    refine P_iinc (L' := [(4, vi _), (3, vi _), (0, vr 0), (5, vi _)]) (pc := 144) dX6_nextLine_144 (by decide) 2 rfl rfl ?_
    refine P_iinc (L' := [(5, vi _), (4, vi _), (3, vi _), (0, vr 0)]) (pc := 147) dX6_nextLine_147 (by decide) 3 rfl rfl ?_
    refine P_goto (tgt := 107) (pc := 150) dX6_nextLine_150 (by decide) ?_
    refine P_sub (L' := [(0, vr 0), (4, vi _), (5, vi _)]) [3, 1, 0] rfl ?_
    refine P_cast (L' := [(0, vr 0), (4, vi (a + 1)), (5, vi (b - 1))]) ?_ ?_ (ih (j + 1) (t + 1) (a + 1) (b - 1) (by omega) (by omega) (by omega) (by omega) (by omega))
    · (try rfl)
    · subst ha; subst hb; rw [rvF_s (by omega) (by omega)]
set_option maxHeartbeats 1000000 in
set_option maxRecDepth 100000 in
theorem l_X6_nextLine2 {μ : Mem} {s : Int} (hs : μ.1 0 37 = s) (hs5 : 0 ≤ s ∧ s ≤ 5) (hf : ∀ j, 0 ≤ j → j < s → 0 ≤ μ.1 28 j ∧ μ.1 28 j < s) {i : Int} (hi : 0 ≤ i ∧ i + 1 < s) (hi2 : μ.1 28 i ≤ μ.1 28 (i + 1)) (hd : ∀ j, i < j → j + 1 < s → μ.1 28 (j + 1) < μ.1 28 j) : ∀ (n : Nat) (k : Int), i < k → k < s → k.toNat < n → (∀ j, k < j → j < s → μ.1 28 j < μ.1 28 i) → PW shM 0 mX6_nextLine 47 [(0, vr 0), (1, vi i), (2, vi k)] [] μ (QI (fun z μ' => nlQ μ s z μ')) := by
  intro n
  induction n with
  | zero => intro k _ _ q; omega
  | succ n ih =>
  intro k hk0 hk1 hn hk
  have g1 := hf i (by omega) (by omega)
  have g2 := hf k (by omega) (by omega)
  refine P_aload_n (pc := 47) dX6_nextLine_47 rfl 0 rfl ?_
  refine P_getR (pc := 48) dX6_nextLine_48 fa_RX6_92 sM_0 fM0_36 ?_
  refine P_iload_n (pc := 51) dX6_nextLine_51 rfl 2 rfl ?_
  refine P_iald (pc := 52) dX6_nextLine_52 sM_28 (by omega) (by omega) (by decide) ?_
  try simp only [setL_put, setL_28, setL_0, setL_setL]
  refine P_aload_n (pc := 53) dX6_nextLine_53 rfl 0 rfl ?_
  refine P_getR (pc := 54) dX6_nextLine_54 fa_RX6_92 sM_0 fM0_36 ?_
  refine P_iload_n (pc := 57) dX6_nextLine_57 rfl 1 rfl ?_
  refine P_iald (pc := 58) dX6_nextLine_58 sM_28 (by omega) (by omega) (by decide) ?_
  try simp only [setL_put, setL_28, setL_0, setL_setL]
  refine P_icmp_ge (tgt := 68) (pc := 59) dX6_nextLine_59 (by decide) (by unfold InR; omega) (by unfold InR; omega) (fun c_59 => ?_) (fun c_59 => ?_)
  · refine P_aload_n (pc := 68) dX6_nextLine_68 rfl 0 rfl ?_
    refine P_getR (pc := 69) dX6_nextLine_69 fa_RX6_92 sM_0 fM0_36 ?_
    refine P_iload_n (pc := 72) dX6_nextLine_72 rfl 1 rfl ?_
    refine P_iald (pc := 73) dX6_nextLine_73 sM_28 (by omega) (by omega) (by decide) ?_
    try simp only [setL_put, setL_28, setL_0, setL_setL]
    refine P_istore_n (L' := [(3, vi _), (0, vr 0), (1, vi _), (2, vi _)]) (pc := 74) dX6_nextLine_74 rfl (by decide) rfl ?_
    refine P_aload_n (pc := 75) dX6_nextLine_75 rfl 1 rfl ?_
    refine P_getR (pc := 76) dX6_nextLine_76 fa_RX6_92 sM_0 fM0_36 ?_
    refine P_iload_n (pc := 79) dX6_nextLine_79 rfl 2 rfl ?_
    refine P_aload_n (pc := 80) dX6_nextLine_80 rfl 1 rfl ?_
    refine P_getR (pc := 81) dX6_nextLine_81 fa_RX6_92 sM_0 fM0_36 ?_
    refine P_iload_n (pc := 84) dX6_nextLine_84 rfl 3 rfl ?_
    refine P_iald (pc := 85) dX6_nextLine_85 sM_28 (by omega) (by omega) (by decide) ?_
    try simp only [setL_put, setL_28, setL_0, setL_setL]
    refine P_iast (pc := 86) dX6_nextLine_86 sM_28 (by omega) (by omega) (by decide) ?_
    try simp only [setL_put, setL_28, setL_0, setL_setL]
    refine P_aload_n (pc := 87) dX6_nextLine_87 rfl 1 rfl ?_
    refine P_getR (pc := 88) dX6_nextLine_88 fa_RX6_92 sM_0 fM0_36 ?_
    refine P_iload_n (pc := 91) dX6_nextLine_91 rfl 3 rfl ?_
    refine P_iload_n (pc := 92) dX6_nextLine_92 rfl 0 rfl ?_
    refine P_iast (pc := 93) dX6_nextLine_93 sM_28 (by omega) (by omega) (by decide) ?_
    try simp only [setL_put, setL_28, setL_0, setL_setL]
    refine P_iload_n (pc := 94) dX6_nextLine_94 rfl 2 rfl ?_
    refine P_iconst (pc := 95) dX6_nextLine_95 ?_
    refine P_iadd (pc := 96) dX6_nextLine_96 ?_
    refine P_istore (L' := [(4, vi _), (3, vi _), (0, vr 0), (1, vi _), (2, vi _)]) (pc := 97) dX6_nextLine_97 (by decide) rfl ?_
    refine P_aload_n (pc := 99) dX6_nextLine_99 rfl 2 rfl ?_
    refine P_getI (jj := 37) (pc := 100) dX6_nextLine_100 fa_RX6_270 sM_0 fM0_37 rfl ?_
    try simp only [setL_put, setL_28, setL_0, setL_setL]
    rw [hs]
    refine P_iconst (pc := 103) dX6_nextLine_103 ?_
    refine P_isub (pc := 104) dX6_nextLine_104 ?_
    refine P_istore (L' := [(5, vi _), (4, vi _), (3, vi _), (0, vr 0), (1, vi _), (2, vi _)]) (pc := 105) dX6_nextLine_105 (by decide) rfl ?_
    refine P_sub (L' := [(0, vr 0), (4, vi _), (5, vi _)]) [3, 1, 0] rfl ?_
    refine P_cast (L' := [(0, vr 0), (4, vi (i + 1)), (5, vi (s - 1))]) (by (try rfl)) ?_ (l_X6_nextLine3 hs hs5 (p := i) (q := k) (by omega) ⟨by omega, by omega, hd, by omega, by omega, hk⟩ ((s - 0).toNat + 1) 0 0 (i + 1) (s - 1) rfl (by omega) (by omega) (by omega) (by omega))
    rw [rvF_0]; rfl
  · refine P_iinc (L' := [(2, vi _), (0, vr 0), (1, vi _)]) (pc := 62) dX6_nextLine_62 (by decide) 2 rfl rfl ?_
    refine P_goto (tgt := 47) (pc := 65) dX6_nextLine_65 (by decide) ?_
    refine P_sub (L' := [(0, vr 0), (1, vi _), (2, vi _)]) [1, 2, 0] rfl ?_
    refine P_cast (L' := [(0, vr 0), (1, vi i), (2, vi (k - 1))]) (by (try rfl)) rfl (ih (k - 1) ?_ (by omega) (by omega) (fun j h1 h2 => ?_))
    · rcases Int.lt_or_le i (k - 1) with h | h
      · exact h
      · exfalso
        have e : k = i + 1 := by omega
        subst e
        omega
    · rcases Int.lt_or_le k j with h | h
      · exact hk j h h2
      · have e : j = k := by omega
        subst e
        omega
set_option maxHeartbeats 1000000 in
set_option maxRecDepth 100000 in
theorem l_X6_nextLine1 {μ : Mem} {s : Int} (hs : μ.1 0 37 = s) (hs5 : 0 ≤ s ∧ s ≤ 5) (hf : ∀ j, 0 ≤ j → j < s → 0 ≤ μ.1 28 j ∧ μ.1 28 j < s) : ∀ (n : Nat) (i : Int), i ≤ s - 2 → -2 ≤ i → (i + 2).toNat < n → (∀ j, i < j → j + 1 < s → μ.1 28 (j + 1) < μ.1 28 j) → PW shM 0 mX6_nextLine 7 [(0, vr 0), (1, vi i)] [] μ (QI (fun z μ' => nlQ μ s z μ')) := by
  intro n
  induction n with
  | zero => intro i _ _ q; omega
  | succ n ih =>
  intro i hi0 hi1 hn hd
  have g1 : 0 ≤ i → _ := fun h => hf i h (by omega)
  have g2 : 0 ≤ i → _ := fun h => hf (i + 1) (by omega) (by omega)
  refine P_iload_n (pc := 7) dX6_nextLine_7 rfl 1 rfl ?_
  refine P_if_lt (tgt := 34) (pc := 8) dX6_nextLine_8 (by decide) (by unfold InR; omega) (fun c_8 => ?_) (fun c_8 => ?_)
  · refine P_iload_n (pc := 34) dX6_nextLine_34 rfl 1 rfl ?_
    refine P_if_ge (tgt := 40) (pc := 35) dX6_nextLine_35 (by decide) (by unfold InR; omega) (fun c_35 => ?_) (fun c_35 => ?_)
    · refine P_aload_n (pc := 40) dX6_nextLine_40 rfl 0 rfl ?_
      refine P_getI (jj := 37) (pc := 41) dX6_nextLine_41 fa_RX6_270 sM_0 fM0_37 rfl ?_
      try simp only [setL_put, setL_28, setL_0, setL_setL]
      rw [hs]
      refine P_iconst (pc := 44) dX6_nextLine_44 ?_
      refine P_isub (pc := 45) dX6_nextLine_45 ?_
      refine P_istore_n (L' := [(2, vi _), (0, vr 0), (1, vi _)]) (pc := 46) dX6_nextLine_46 rfl (by decide) rfl ?_
      refine P_sub (L' := [(0, vr 0), (1, vi _), (2, vi _)]) [1, 2, 0] rfl ?_
      exact l_X6_nextLine2 hs hs5 hf (by omega) (by omega) hd (s.toNat + 1) (s - 1) (by omega) (by omega) (by omega) (fun j h1 h2 => by omega)
    · refine P_iconst (pc := 38) dX6_nextLine_38 ?_
      exact P_zret (pc := 39) dX6_nextLine_39 rfl (by omega) (QI.mk (by first | (refine Or.inl ⟨rfl, rfl, fun j h1 h2 => hd j (by omega) h2⟩) | (refine Or.inr ⟨rfl, p, q, hR, ?_⟩; rw [rvF_e (by omega) (by omega) (by omega)]; rfl)))
  · refine P_aload_n (pc := 11) dX6_nextLine_11 rfl 0 rfl ?_
    refine P_getR (pc := 12) dX6_nextLine_12 fa_RX6_92 sM_0 fM0_36 ?_
    refine P_iload_n (pc := 15) dX6_nextLine_15 rfl 1 rfl ?_
    refine P_iald (pc := 16) dX6_nextLine_16 sM_28 (by omega) (by omega) (by decide) ?_
    try simp only [setL_put, setL_28, setL_0, setL_setL]
    refine P_aload_n (pc := 17) dX6_nextLine_17 rfl 0 rfl ?_
    refine P_getR (pc := 18) dX6_nextLine_18 fa_RX6_92 sM_0 fM0_36 ?_
    refine P_iload_n (pc := 21) dX6_nextLine_21 rfl 1 rfl ?_
    refine P_iconst (pc := 22) dX6_nextLine_22 ?_
    refine P_iadd (pc := 23) dX6_nextLine_23 ?_
    refine P_iald (pc := 24) dX6_nextLine_24 sM_28 (by omega) (by omega) (by decide) ?_
    try simp only [setL_put, setL_28, setL_0, setL_setL]
    refine P_icmp_le (tgt := 34) (pc := 25) dX6_nextLine_25 (by decide) (by unfold InR; omega) (by unfold InR; omega) (fun c_25 => ?_) (fun c_25 => ?_)
    · refine P_iload_n (pc := 34) dX6_nextLine_34 rfl 1 rfl ?_
      refine P_if_ge (tgt := 40) (pc := 35) dX6_nextLine_35 (by decide) (by unfold InR; omega) (fun c_35 => ?_) (fun c_35 => ?_)
      · refine P_aload_n (pc := 40) dX6_nextLine_40 rfl 0 rfl ?_
        refine P_getI (jj := 37) (pc := 41) dX6_nextLine_41 fa_RX6_270 sM_0 fM0_37 rfl ?_
        try simp only [setL_put, setL_28, setL_0, setL_setL]
        rw [hs]
        refine P_iconst (pc := 44) dX6_nextLine_44 ?_
        refine P_isub (pc := 45) dX6_nextLine_45 ?_
        refine P_istore_n (L' := [(2, vi _), (0, vr 0), (1, vi _)]) (pc := 46) dX6_nextLine_46 rfl (by decide) rfl ?_
        refine P_sub (L' := [(0, vr 0), (1, vi _), (2, vi _)]) [1, 2, 0] rfl ?_
        exact l_X6_nextLine2 hs hs5 hf (by omega) (by omega) hd (s.toNat + 1) (s - 1) (by omega) (by omega) (by omega) (fun j h1 h2 => by omega)
      · refine P_iconst (pc := 38) dX6_nextLine_38 ?_
        exact P_zret (pc := 39) dX6_nextLine_39 rfl (by omega) (QI.mk (by first | (refine Or.inl ⟨rfl, rfl, fun j h1 h2 => hd j (by omega) h2⟩) | (refine Or.inr ⟨rfl, p, q, hR, ?_⟩; rw [rvF_e (by omega) (by omega) (by omega)]; rfl)))
    · refine P_iinc (L' := [(1, vi _), (0, vr 0)]) (pc := 28) dX6_nextLine_28 (by decide) 1 rfl rfl ?_
      refine P_goto (tgt := 7) (pc := 31) dX6_nextLine_31 (by decide) ?_
      refine P_sub (L' := [(0, vr 0), (1, vi _)]) [1, 0] rfl ?_
      refine P_cast (L' := [(0, vr 0), (1, vi (i - 1))]) (by (try rfl)) rfl (ih (i - 1) (by omega) (by omega) (by omega) (fun j h1 h2 => ?_))
      rcases Int.lt_or_le i j with h | h
      · exact hd j h h2
      · have e : j = i := by omega
        subst e
        omega
set_option maxHeartbeats 1000000 in
set_option maxRecDepth 100000 in
theorem c_X6_nextLine {μ : Mem} {s : Int}  (hs : μ.1 0 37 = s) (hs5 : 0 ≤ s ∧ s ≤ 5) (hf : ∀ j, 0 ≤ j → j < s → 0 ≤ μ.1 28 j ∧ μ.1 28 j < s) : PC shM 0 mX6_nextLine [vr 0] (μ) (QI (fun z μ' => nlQ μ s z μ')) := by
  refine PC.of (by decide +kernel) (Nat.le_of_ble_eq_true rfl) ?_
  refine P_sub (L' := [(0, vr 0)]) [0] rfl ?_
  refine P_aload_n (pc := 0) dX6_nextLine_0 rfl 0 rfl ?_
  refine P_getI (jj := 37) (pc := 1) dX6_nextLine_1 fa_RX6_270 sM_0 fM0_37 rfl ?_
  try simp only [setL_put, setL_28, setL_0, setL_setL]
  rw [hs]
  refine P_iconst (pc := 4) dX6_nextLine_4 ?_
  refine P_isub (pc := 5) dX6_nextLine_5 ?_
  refine P_istore_n (L' := [(1, vi _), (0, vr 0)]) (pc := 6) dX6_nextLine_6 rfl (by decide) rfl ?_
  refine P_sub (L' := [(0, vr 0), (1, vi _)]) [1, 0] rfl ?_
  exact l_X6_nextLine1 hs hs5 hf ((s - 2 + 2).toNat + 1) (s - 2) (by omega) (by omega) (by omega) (fun j h1 h2 => by omega)
