def setR (μ : Mem) (q : Nat) (f : Int → Int) (c : Int) : Mem := (fun q' => if q' = 0 then (fun j => if j = 42 then c else μ.1 0 j) else if q' = q then f else μ.1 q', μ.2)
theorem sr_42 {μ : Mem} {q : Nat} {f : Int → Int} {c : Int} : (setR μ q f c).1 0 42 = c := rfl
theorem sr_0 {μ : Mem} {q : Nat} {f : Int → Int} {c j : Int} (h : j ≠ 42) : (setR μ q f c).1 0 j = μ.1 0 j := if_neg h
theorem sr_q {μ : Mem} {q : Nat} {f : Int → Int} {c : Int} (h : q ≠ 0) : (setR μ q f c).1 q = f := by simp [setR, h]
theorem sr_ne {μ : Mem} {q q' : Nat} {f : Int → Int} {c : Int} (h : q' ≠ 0) (h2 : q' ≠ q) : (setR μ q f c).1 q' = μ.1 q' := by simp [setR, h, h2]
theorem sr_putq {μ : Mem} {q : Nat} {f : Int → Int} {c i v : Int} (h : q ≠ 0) : putI (setR μ q f c) q i v = setR μ q (updI f i v) c := by
  refine Prod.ext ?_ rfl
  funext q' j
  by_cases a : q' = q
  · subst a
    by_cases b : j = i <;> simp [putI, setR, h, updI, b]
  · by_cases b : q' = 0
    · subst b; simp [putI, setR, a]
    · simp [putI, setR, a, b]
theorem sr_put42 {μ : Mem} {q : Nat} {f : Int → Int} {c v : Int} : putI (setR μ q f c) 0 42 v = setR μ q f v := by
  refine Prod.ext ?_ rfl
  funext q' j
  by_cases b : q' = 0
  · subst b
    by_cases a : j = 42 <;> simp [putI, setR, a]
  · simp [putI, setR, b]
theorem sr_self {μ : Mem} {q : Nat} : setR μ q (μ.1 q) (μ.1 0 42) = μ := by
  refine Prod.ext ?_ rfl
  funext q' j
  by_cases b : q' = 0
  · subst b
    by_cases a : j = 42
    · subst a; simp [setR]
    · simp [setR, a]
  · by_cases a : q' = q
    · subst a; simp [setR, b]
    · simp [setR, a, b]
/-- a row in the image's row -/
def kpF (r : Int → Int) (c n : Int) (old : Int → Int) : Int → Int := fun t => if c ≤ t ∧ t < c + n then r (t - c) else old t
theorem kpF_0 {r old : Int → Int} {c : Int} : kpF r c 0 old = old := by
  funext t; unfold kpF; rw [if_neg (by omega)]
theorem kpF_s {r old : Int → Int} {c n : Int} (h : 0 ≤ n) : updI (kpF r c n old) (c + n) (r n) = kpF r c (n + 1) old := by
  funext t
  unfold updI kpF
  by_cases a : t = c + n
  · subst a
    rw [if_pos rfl, if_pos (by omega)]
    congr 1; omega
  · rw [if_neg a]
    by_cases b : c ≤ t ∧ t < c + n
    · rw [if_pos b, if_pos (by omega)]
    · rw [if_neg b, if_neg (by omega)]
/-- a row out of the image's row -/
def rsF (k : Int → Int) (c n : Int) (old : Int → Int) : Int → Int := fun t => if 0 ≤ t ∧ t < n then k (c + t) else old t
theorem rsF_0 {k old : Int → Int} {c : Int} : rsF k c 0 old = old := by
  funext t; unfold rsF; rw [if_neg (by omega)]
theorem rsF_s {k old : Int → Int} {c n : Int} (h : 0 ≤ n) : updI (rsF k c n old) n (k (c + n)) = rsF k c (n + 1) old := by
  funext t
  unfold updI rsF
  by_cases a : t = n
  · subst a
    rw [if_pos rfl, if_pos (by omega)]
  · rw [if_neg a]
    by_cases b : 0 ≤ t ∧ t < n
    · rw [if_pos b, if_pos (by omega)]
    · rw [if_neg b, if_neg (by omega)]
def keep1 (μ : Mem) (q : Nat) (n : Int) : Mem := setR μ 30 (kpF (μ.1 q) (μ.1 0 42) n (μ.1 30)) (μ.1 0 42 + n)
def back1 (μ : Mem) (q : Nat) (n : Int) : Mem := setR μ q (rsF (μ.1 30) (μ.1 0 42) n (μ.1 q)) (μ.1 0 42 + n)
theorem keep1_41 {μ : Mem} {q : Nat} {n : Int} : (keep1 μ q n).1 0 41 = μ.1 0 41 := rfl
theorem keep1_42 {μ : Mem} {q : Nat} {n : Int} : (keep1 μ q n).1 0 42 = μ.1 0 42 + n := rfl
theorem back1_41 {μ : Mem} {q : Nat} {n : Int} : (back1 μ q n).1 0 41 = μ.1 0 41 := rfl
theorem back1_42 {μ : Mem} {q : Nat} {n : Int} : (back1 μ q n).1 0 42 = μ.1 0 42 + n := rfl
set_option maxHeartbeats 1000000 in
set_option maxRecDepth 100000 in
theorem l_X6_passes2_1 {μ : Mem} (hk : μ.1 0 41 = 1) (hc : 0 ≤ μ.1 0 42 ∧ μ.1 0 42 + 12 ≤ 500) : ∀ (n : Nat) (j : Int), 0 ≤ j ∧ j ≤ 12 → (12 - j).toNat < n → PW shM 0 mX6_passes 2 [(0, vr 0), (1, vr 2), (2, vi j)] [] (setR μ 30 (kpF (μ.1 2) (μ.1 0 42) j (μ.1 30)) (μ.1 0 42 + j)) (QV (fun μ' => μ' = keep1 μ 2 12)) := by
  intro n
  induction n with
  | zero => intro j _ h; omega
  | succ n ih =>
  intro j hj hn
  refine P_iload_n (pc := 2) dX6_passes_2 rfl 2 rfl ?_
  refine P_aload_n (pc := 3) dX6_passes_3 rfl 1 rfl ?_
  refine P_alen (pc := 4) dX6_passes_4 sM_2 (by decide) ?_
  refine P_icmp_ge (tgt := 58) (pc := 5) dX6_passes_5 (by decide) (by unfold InR; omega) (by unfold InR; omega) (fun c_5 => ?_) (fun c_5 => ?_)
  · exact P_vret (pc := 58) dX6_passes_58 rfl (QV.mk (by have e9 : j = 12 := (by omega); subst e9; rfl))
  · refine P_aload_n (pc := 8) dX6_passes_8 rfl 0 rfl ?_
    refine P_getI (jj := 41) (pc := 9) dX6_passes_9 fa_RX6_279 sM_0 fM0_41 rfl ?_
    try simp (disch := decide) only [sr_42, sr_0, sr_q, sr_ne, sr_putq, sr_put42]
    refine P_if_eq (tgt := 30) (pc := 12) dX6_passes_12 (by decide) (by unfold InR; omega) (fun c_12 => ?_) (fun c_12 => ?_)
    · exfalso; omega
    · refine P_aload_n (pc := 15) dX6_passes_15 rfl 0 rfl ?_
      refine P_getR (pc := 16) dX6_passes_16 fa_RX6_98 sM_0 fM0_39 ?_
      refine P_aload_n (pc := 19) dX6_passes_19 rfl 0 rfl ?_
      refine P_getI (jj := 42) (pc := 20) dX6_passes_20 fa_RX6_282 sM_0 fM0_42 rfl ?_
      try simp (disch := decide) only [sr_42, sr_0, sr_q, sr_ne, sr_putq, sr_put42]
      refine P_aload_n (pc := 23) dX6_passes_23 rfl 1 rfl ?_
      refine P_iload_n (pc := 24) dX6_passes_24 rfl 2 rfl ?_
      refine P_iald (pc := 25) dX6_passes_25 sM_2 (by omega) (by omega) (by decide) ?_
      try simp (disch := decide) only [sr_42, sr_0, sr_q, sr_ne, sr_putq, sr_put42]
      refine P_iast (pc := 26) dX6_passes_26 sM_30 (by omega) (by omega) (by decide) ?_
      try simp (disch := decide) only [sr_42, sr_0, sr_q, sr_ne, sr_putq, sr_put42]
      refine P_goto (tgt := 42) (pc := 27) dX6_passes_27 (by decide) ?_
      refine P_aload_n (pc := 42) dX6_passes_42 rfl 0 rfl ?_
      refine P_dup (pc := 43) dX6_passes_43 rfl ?_
      refine P_getI (jj := 42) (pc := 44) dX6_passes_44 fa_RX6_282 sM_0 fM0_42 rfl ?_
      try simp (disch := decide) only [sr_42, sr_0, sr_q, sr_ne, sr_putq, sr_put42]
      refine P_iconst (pc := 47) dX6_passes_47 ?_
      refine P_iadd (pc := 48) dX6_passes_48 ?_
      refine P_putI (jj := 42) (pc := 49) dX6_passes_49 fa_RX6_282 fp_6_42 sM_0 fM0_42 rfl ?_
      try simp (disch := decide) only [sr_42, sr_0, sr_q, sr_ne, sr_putq, sr_put42]
      refine P_iinc (L' := [(2, vi _), (0, vr 0), (1, vr 2)]) (pc := 52) dX6_passes_52 (by decide) 2 rfl rfl ?_
      refine P_goto (tgt := 2) (pc := 55) dX6_passes_55 (by decide) ?_
      refine P_sub (L' := [(0, vr 0), (1, vr 2), (2, vi _)]) [1, 2, 0] rfl ?_
      refine P_cast (L' := [(0, vr 0), (1, vr 2), (2, vi (j + 1))]) rfl ?_ (ih (j + 1) (by omega) (by omega))
      rw [kpF_s hj.1, Int.add_assoc]
set_option maxHeartbeats 1000000 in
set_option maxRecDepth 100000 in
theorem c_X6_passes2_1 {μ : Mem} (hk : μ.1 0 41 = 1) (hc : 0 ≤ μ.1 0 42 ∧ μ.1 0 42 + 12 ≤ 500) : PC shM 0 mX6_passes [vr 0, vr 2] (μ) (QV (fun μ' => μ' = keep1 μ 2 12)) := by
  refine PC.of (by decide +kernel) (Nat.le_of_ble_eq_true rfl) ?_
  refine P_sub (L' := [(0, vr 0), (1, vr 2)]) [0, 1] rfl ?_
  refine P_iconst (pc := 0) dX6_passes_0 ?_
  refine P_istore_n (L' := [(2, vi _), (0, vr 0), (1, vr 2)]) (pc := 1) dX6_passes_1 rfl (by decide) rfl ?_
  refine P_sub (L' := [(0, vr 0), (1, vr 2), (2, vi _)]) [1, 2, 0] rfl ?_
  refine P_cast (L' := [(0, vr 0), (1, vr 2), (2, vi 0)]) rfl ?_ (l_X6_passes2_1 hk hc (12 + 1) 0 (by omega) (by omega))
  rw [kpF_0, Int.add_zero, sr_self]
set_option maxHeartbeats 1000000 in
set_option maxRecDepth 100000 in
theorem l_X6_passes2_0 {μ : Mem} (hk : μ.1 0 41 = 0) (hc : 0 ≤ μ.1 0 42 ∧ μ.1 0 42 + 12 ≤ 500) : ∀ (n : Nat) (j : Int), 0 ≤ j ∧ j ≤ 12 → (12 - j).toNat < n → PW shM 0 mX6_passes 2 [(0, vr 0), (1, vr 2), (2, vi j)] [] (setR μ 2 (rsF (μ.1 30) (μ.1 0 42) j (μ.1 2)) (μ.1 0 42 + j)) (QV (fun μ' => μ' = back1 μ 2 12)) := by
  intro n
  induction n with
  | zero => intro j _ h; omega
  | succ n ih =>
  intro j hj hn
  refine P_iload_n (pc := 2) dX6_passes_2 rfl 2 rfl ?_
  refine P_aload_n (pc := 3) dX6_passes_3 rfl 1 rfl ?_
  refine P_alen (pc := 4) dX6_passes_4 sM_2 (by decide) ?_
  refine P_icmp_ge (tgt := 58) (pc := 5) dX6_passes_5 (by decide) (by unfold InR; omega) (by unfold InR; omega) (fun c_5 => ?_) (fun c_5 => ?_)
  · exact P_vret (pc := 58) dX6_passes_58 rfl (QV.mk (by have e9 : j = 12 := (by omega); subst e9; rfl))
  · refine P_aload_n (pc := 8) dX6_passes_8 rfl 0 rfl ?_
    refine P_getI (jj := 41) (pc := 9) dX6_passes_9 fa_RX6_279 sM_0 fM0_41 rfl ?_
    try simp (disch := decide) only [sr_42, sr_0, sr_q, sr_ne, sr_putq, sr_put42]
    refine P_if_eq (tgt := 30) (pc := 12) dX6_passes_12 (by decide) (by unfold InR; omega) (fun c_12 => ?_) (fun c_12 => ?_)
    · refine P_aload_n (pc := 30) dX6_passes_30 rfl 1 rfl ?_
      refine P_iload_n (pc := 31) dX6_passes_31 rfl 2 rfl ?_
      refine P_aload_n (pc := 32) dX6_passes_32 rfl 0 rfl ?_
      refine P_getR (pc := 33) dX6_passes_33 fa_RX6_98 sM_0 fM0_39 ?_
      refine P_aload_n (pc := 36) dX6_passes_36 rfl 0 rfl ?_
      refine P_getI (jj := 42) (pc := 37) dX6_passes_37 fa_RX6_282 sM_0 fM0_42 rfl ?_
      try simp (disch := decide) only [sr_42, sr_0, sr_q, sr_ne, sr_putq, sr_put42]
      refine P_iald (pc := 40) dX6_passes_40 sM_30 (by omega) (by omega) (by decide) ?_
      try simp (disch := decide) only [sr_42, sr_0, sr_q, sr_ne, sr_putq, sr_put42]
      refine P_iast (pc := 41) dX6_passes_41 sM_2 (by omega) (by omega) (by decide) ?_
      try simp (disch := decide) only [sr_42, sr_0, sr_q, sr_ne, sr_putq, sr_put42]
      refine P_aload_n (pc := 42) dX6_passes_42 rfl 0 rfl ?_
      refine P_dup (pc := 43) dX6_passes_43 rfl ?_
      refine P_getI (jj := 42) (pc := 44) dX6_passes_44 fa_RX6_282 sM_0 fM0_42 rfl ?_
      try simp (disch := decide) only [sr_42, sr_0, sr_q, sr_ne, sr_putq, sr_put42]
      refine P_iconst (pc := 47) dX6_passes_47 ?_
      refine P_iadd (pc := 48) dX6_passes_48 ?_
      refine P_putI (jj := 42) (pc := 49) dX6_passes_49 fa_RX6_282 fp_6_42 sM_0 fM0_42 rfl ?_
      try simp (disch := decide) only [sr_42, sr_0, sr_q, sr_ne, sr_putq, sr_put42]
      refine P_iinc (L' := [(2, vi _), (0, vr 0), (1, vr 2)]) (pc := 52) dX6_passes_52 (by decide) 2 rfl rfl ?_
      refine P_goto (tgt := 2) (pc := 55) dX6_passes_55 (by decide) ?_
      refine P_sub (L' := [(0, vr 0), (1, vr 2), (2, vi _)]) [1, 2, 0] rfl ?_
      refine P_cast (L' := [(0, vr 0), (1, vr 2), (2, vi (j + 1))]) rfl ?_ (ih (j + 1) (by omega) (by omega))
      rw [rsF_s hj.1, Int.add_assoc]
    · exfalso; omega
set_option maxHeartbeats 1000000 in
set_option maxRecDepth 100000 in
theorem c_X6_passes2_0 {μ : Mem} (hk : μ.1 0 41 = 0) (hc : 0 ≤ μ.1 0 42 ∧ μ.1 0 42 + 12 ≤ 500) : PC shM 0 mX6_passes [vr 0, vr 2] (μ) (QV (fun μ' => μ' = back1 μ 2 12)) := by
  refine PC.of (by decide +kernel) (Nat.le_of_ble_eq_true rfl) ?_
  refine P_sub (L' := [(0, vr 0), (1, vr 2)]) [0, 1] rfl ?_
  refine P_iconst (pc := 0) dX6_passes_0 ?_
  refine P_istore_n (L' := [(2, vi _), (0, vr 0), (1, vr 2)]) (pc := 1) dX6_passes_1 rfl (by decide) rfl ?_
  refine P_sub (L' := [(0, vr 0), (1, vr 2), (2, vi _)]) [1, 2, 0] rfl ?_
  refine P_cast (L' := [(0, vr 0), (1, vr 2), (2, vi 0)]) rfl ?_ (l_X6_passes2_0 hk hc (12 + 1) 0 (by omega) (by omega))
  rw [rsF_0, Int.add_zero, sr_self]
set_option maxHeartbeats 1000000 in
set_option maxRecDepth 100000 in
theorem l_X6_passes3_1 {μ : Mem} (hk : μ.1 0 41 = 1) (hc : 0 ≤ μ.1 0 42 ∧ μ.1 0 42 + 12 ≤ 500) : ∀ (n : Nat) (j : Int), 0 ≤ j ∧ j ≤ 12 → (12 - j).toNat < n → PW shM 0 mX6_passes 2 [(0, vr 0), (1, vr 3), (2, vi j)] [] (setR μ 30 (kpF (μ.1 3) (μ.1 0 42) j (μ.1 30)) (μ.1 0 42 + j)) (QV (fun μ' => μ' = keep1 μ 3 12)) := by
  intro n
  induction n with
  | zero => intro j _ h; omega
  | succ n ih =>
  intro j hj hn
  refine P_iload_n (pc := 2) dX6_passes_2 rfl 2 rfl ?_
  refine P_aload_n (pc := 3) dX6_passes_3 rfl 1 rfl ?_
  refine P_alen (pc := 4) dX6_passes_4 sM_3 (by decide) ?_
  refine P_icmp_ge (tgt := 58) (pc := 5) dX6_passes_5 (by decide) (by unfold InR; omega) (by unfold InR; omega) (fun c_5 => ?_) (fun c_5 => ?_)
  · exact P_vret (pc := 58) dX6_passes_58 rfl (QV.mk (by have e9 : j = 12 := (by omega); subst e9; rfl))
  · refine P_aload_n (pc := 8) dX6_passes_8 rfl 0 rfl ?_
    refine P_getI (jj := 41) (pc := 9) dX6_passes_9 fa_RX6_279 sM_0 fM0_41 rfl ?_
    try simp (disch := decide) only [sr_42, sr_0, sr_q, sr_ne, sr_putq, sr_put42]
    refine P_if_eq (tgt := 30) (pc := 12) dX6_passes_12 (by decide) (by unfold InR; omega) (fun c_12 => ?_) (fun c_12 => ?_)
    · exfalso; omega
    · refine P_aload_n (pc := 15) dX6_passes_15 rfl 0 rfl ?_
      refine P_getR (pc := 16) dX6_passes_16 fa_RX6_98 sM_0 fM0_39 ?_
      refine P_aload_n (pc := 19) dX6_passes_19 rfl 0 rfl ?_
      refine P_getI (jj := 42) (pc := 20) dX6_passes_20 fa_RX6_282 sM_0 fM0_42 rfl ?_
      try simp (disch := decide) only [sr_42, sr_0, sr_q, sr_ne, sr_putq, sr_put42]
      refine P_aload_n (pc := 23) dX6_passes_23 rfl 1 rfl ?_
      refine P_iload_n (pc := 24) dX6_passes_24 rfl 2 rfl ?_
      refine P_iald (pc := 25) dX6_passes_25 sM_3 (by omega) (by omega) (by decide) ?_
      try simp (disch := decide) only [sr_42, sr_0, sr_q, sr_ne, sr_putq, sr_put42]
      refine P_iast (pc := 26) dX6_passes_26 sM_30 (by omega) (by omega) (by decide) ?_
      try simp (disch := decide) only [sr_42, sr_0, sr_q, sr_ne, sr_putq, sr_put42]
      refine P_goto (tgt := 42) (pc := 27) dX6_passes_27 (by decide) ?_
      refine P_aload_n (pc := 42) dX6_passes_42 rfl 0 rfl ?_
      refine P_dup (pc := 43) dX6_passes_43 rfl ?_
      refine P_getI (jj := 42) (pc := 44) dX6_passes_44 fa_RX6_282 sM_0 fM0_42 rfl ?_
      try simp (disch := decide) only [sr_42, sr_0, sr_q, sr_ne, sr_putq, sr_put42]
      refine P_iconst (pc := 47) dX6_passes_47 ?_
      refine P_iadd (pc := 48) dX6_passes_48 ?_
      refine P_putI (jj := 42) (pc := 49) dX6_passes_49 fa_RX6_282 fp_6_42 sM_0 fM0_42 rfl ?_
      try simp (disch := decide) only [sr_42, sr_0, sr_q, sr_ne, sr_putq, sr_put42]
      refine P_iinc (L' := [(2, vi _), (0, vr 0), (1, vr 3)]) (pc := 52) dX6_passes_52 (by decide) 2 rfl rfl ?_
      refine P_goto (tgt := 2) (pc := 55) dX6_passes_55 (by decide) ?_
      refine P_sub (L' := [(0, vr 0), (1, vr 3), (2, vi _)]) [1, 2, 0] rfl ?_
      refine P_cast (L' := [(0, vr 0), (1, vr 3), (2, vi (j + 1))]) rfl ?_ (ih (j + 1) (by omega) (by omega))
      rw [kpF_s hj.1, Int.add_assoc]
set_option maxHeartbeats 1000000 in
set_option maxRecDepth 100000 in
theorem c_X6_passes3_1 {μ : Mem} (hk : μ.1 0 41 = 1) (hc : 0 ≤ μ.1 0 42 ∧ μ.1 0 42 + 12 ≤ 500) : PC shM 0 mX6_passes [vr 0, vr 3] (μ) (QV (fun μ' => μ' = keep1 μ 3 12)) := by
  refine PC.of (by decide +kernel) (Nat.le_of_ble_eq_true rfl) ?_
  refine P_sub (L' := [(0, vr 0), (1, vr 3)]) [0, 1] rfl ?_
  refine P_iconst (pc := 0) dX6_passes_0 ?_
  refine P_istore_n (L' := [(2, vi _), (0, vr 0), (1, vr 3)]) (pc := 1) dX6_passes_1 rfl (by decide) rfl ?_
  refine P_sub (L' := [(0, vr 0), (1, vr 3), (2, vi _)]) [1, 2, 0] rfl ?_
  refine P_cast (L' := [(0, vr 0), (1, vr 3), (2, vi 0)]) rfl ?_ (l_X6_passes3_1 hk hc (12 + 1) 0 (by omega) (by omega))
  rw [kpF_0, Int.add_zero, sr_self]
set_option maxHeartbeats 1000000 in
set_option maxRecDepth 100000 in
theorem l_X6_passes3_0 {μ : Mem} (hk : μ.1 0 41 = 0) (hc : 0 ≤ μ.1 0 42 ∧ μ.1 0 42 + 12 ≤ 500) : ∀ (n : Nat) (j : Int), 0 ≤ j ∧ j ≤ 12 → (12 - j).toNat < n → PW shM 0 mX6_passes 2 [(0, vr 0), (1, vr 3), (2, vi j)] [] (setR μ 3 (rsF (μ.1 30) (μ.1 0 42) j (μ.1 3)) (μ.1 0 42 + j)) (QV (fun μ' => μ' = back1 μ 3 12)) := by
  intro n
  induction n with
  | zero => intro j _ h; omega
  | succ n ih =>
  intro j hj hn
  refine P_iload_n (pc := 2) dX6_passes_2 rfl 2 rfl ?_
  refine P_aload_n (pc := 3) dX6_passes_3 rfl 1 rfl ?_
  refine P_alen (pc := 4) dX6_passes_4 sM_3 (by decide) ?_
  refine P_icmp_ge (tgt := 58) (pc := 5) dX6_passes_5 (by decide) (by unfold InR; omega) (by unfold InR; omega) (fun c_5 => ?_) (fun c_5 => ?_)
  · exact P_vret (pc := 58) dX6_passes_58 rfl (QV.mk (by have e9 : j = 12 := (by omega); subst e9; rfl))
  · refine P_aload_n (pc := 8) dX6_passes_8 rfl 0 rfl ?_
    refine P_getI (jj := 41) (pc := 9) dX6_passes_9 fa_RX6_279 sM_0 fM0_41 rfl ?_
    try simp (disch := decide) only [sr_42, sr_0, sr_q, sr_ne, sr_putq, sr_put42]
    refine P_if_eq (tgt := 30) (pc := 12) dX6_passes_12 (by decide) (by unfold InR; omega) (fun c_12 => ?_) (fun c_12 => ?_)
    · refine P_aload_n (pc := 30) dX6_passes_30 rfl 1 rfl ?_
      refine P_iload_n (pc := 31) dX6_passes_31 rfl 2 rfl ?_
      refine P_aload_n (pc := 32) dX6_passes_32 rfl 0 rfl ?_
      refine P_getR (pc := 33) dX6_passes_33 fa_RX6_98 sM_0 fM0_39 ?_
      refine P_aload_n (pc := 36) dX6_passes_36 rfl 0 rfl ?_
      refine P_getI (jj := 42) (pc := 37) dX6_passes_37 fa_RX6_282 sM_0 fM0_42 rfl ?_
      try simp (disch := decide) only [sr_42, sr_0, sr_q, sr_ne, sr_putq, sr_put42]
      refine P_iald (pc := 40) dX6_passes_40 sM_30 (by omega) (by omega) (by decide) ?_
      try simp (disch := decide) only [sr_42, sr_0, sr_q, sr_ne, sr_putq, sr_put42]
      refine P_iast (pc := 41) dX6_passes_41 sM_3 (by omega) (by omega) (by decide) ?_
      try simp (disch := decide) only [sr_42, sr_0, sr_q, sr_ne, sr_putq, sr_put42]
      refine P_aload_n (pc := 42) dX6_passes_42 rfl 0 rfl ?_
      refine P_dup (pc := 43) dX6_passes_43 rfl ?_
      refine P_getI (jj := 42) (pc := 44) dX6_passes_44 fa_RX6_282 sM_0 fM0_42 rfl ?_
      try simp (disch := decide) only [sr_42, sr_0, sr_q, sr_ne, sr_putq, sr_put42]
      refine P_iconst (pc := 47) dX6_passes_47 ?_
      refine P_iadd (pc := 48) dX6_passes_48 ?_
      refine P_putI (jj := 42) (pc := 49) dX6_passes_49 fa_RX6_282 fp_6_42 sM_0 fM0_42 rfl ?_
      try simp (disch := decide) only [sr_42, sr_0, sr_q, sr_ne, sr_putq, sr_put42]
      refine P_iinc (L' := [(2, vi _), (0, vr 0), (1, vr 3)]) (pc := 52) dX6_passes_52 (by decide) 2 rfl rfl ?_
      refine P_goto (tgt := 2) (pc := 55) dX6_passes_55 (by decide) ?_
      refine P_sub (L' := [(0, vr 0), (1, vr 3), (2, vi _)]) [1, 2, 0] rfl ?_
      refine P_cast (L' := [(0, vr 0), (1, vr 3), (2, vi (j + 1))]) rfl ?_ (ih (j + 1) (by omega) (by omega))
      rw [rsF_s hj.1, Int.add_assoc]
    · exfalso; omega
set_option maxHeartbeats 1000000 in
set_option maxRecDepth 100000 in
theorem c_X6_passes3_0 {μ : Mem} (hk : μ.1 0 41 = 0) (hc : 0 ≤ μ.1 0 42 ∧ μ.1 0 42 + 12 ≤ 500) : PC shM 0 mX6_passes [vr 0, vr 3] (μ) (QV (fun μ' => μ' = back1 μ 3 12)) := by
  refine PC.of (by decide +kernel) (Nat.le_of_ble_eq_true rfl) ?_
  refine P_sub (L' := [(0, vr 0), (1, vr 3)]) [0, 1] rfl ?_
  refine P_iconst (pc := 0) dX6_passes_0 ?_
  refine P_istore_n (L' := [(2, vi _), (0, vr 0), (1, vr 3)]) (pc := 1) dX6_passes_1 rfl (by decide) rfl ?_
  refine P_sub (L' := [(0, vr 0), (1, vr 3), (2, vi _)]) [1, 2, 0] rfl ?_
  refine P_cast (L' := [(0, vr 0), (1, vr 3), (2, vi 0)]) rfl ?_ (l_X6_passes3_0 hk hc (12 + 1) 0 (by omega) (by omega))
  rw [rsF_0, Int.add_zero, sr_self]
set_option maxHeartbeats 1000000 in
set_option maxRecDepth 100000 in
theorem l_X6_passes4_1 {μ : Mem} (hk : μ.1 0 41 = 1) (hc : 0 ≤ μ.1 0 42 ∧ μ.1 0 42 + 12 ≤ 500) : ∀ (n : Nat) (j : Int), 0 ≤ j ∧ j ≤ 12 → (12 - j).toNat < n → PW shM 0 mX6_passes 2 [(0, vr 0), (1, vr 4), (2, vi j)] [] (setR μ 30 (kpF (μ.1 4) (μ.1 0 42) j (μ.1 30)) (μ.1 0 42 + j)) (QV (fun μ' => μ' = keep1 μ 4 12)) := by
  intro n
  induction n with
  | zero => intro j _ h; omega
  | succ n ih =>
  intro j hj hn
  refine P_iload_n (pc := 2) dX6_passes_2 rfl 2 rfl ?_
  refine P_aload_n (pc := 3) dX6_passes_3 rfl 1 rfl ?_
  refine P_alen (pc := 4) dX6_passes_4 sM_4 (by decide) ?_
  refine P_icmp_ge (tgt := 58) (pc := 5) dX6_passes_5 (by decide) (by unfold InR; omega) (by unfold InR; omega) (fun c_5 => ?_) (fun c_5 => ?_)
  · exact P_vret (pc := 58) dX6_passes_58 rfl (QV.mk (by have e9 : j = 12 := (by omega); subst e9; rfl))
  · refine P_aload_n (pc := 8) dX6_passes_8 rfl 0 rfl ?_
    refine P_getI (jj := 41) (pc := 9) dX6_passes_9 fa_RX6_279 sM_0 fM0_41 rfl ?_
    try simp (disch := decide) only [sr_42, sr_0, sr_q, sr_ne, sr_putq, sr_put42]
    refine P_if_eq (tgt := 30) (pc := 12) dX6_passes_12 (by decide) (by unfold InR; omega) (fun c_12 => ?_) (fun c_12 => ?_)
    · exfalso; omega
    · refine P_aload_n (pc := 15) dX6_passes_15 rfl 0 rfl ?_
      refine P_getR (pc := 16) dX6_passes_16 fa_RX6_98 sM_0 fM0_39 ?_
      refine P_aload_n (pc := 19) dX6_passes_19 rfl 0 rfl ?_
      refine P_getI (jj := 42) (pc := 20) dX6_passes_20 fa_RX6_282 sM_0 fM0_42 rfl ?_
      try simp (disch := decide) only [sr_42, sr_0, sr_q, sr_ne, sr_putq, sr_put42]
      refine P_aload_n (pc := 23) dX6_passes_23 rfl 1 rfl ?_
      refine P_iload_n (pc := 24) dX6_passes_24 rfl 2 rfl ?_
      refine P_iald (pc := 25) dX6_passes_25 sM_4 (by omega) (by omega) (by decide) ?_
      try simp (disch := decide) only [sr_42, sr_0, sr_q, sr_ne, sr_putq, sr_put42]
      refine P_iast (pc := 26) dX6_passes_26 sM_30 (by omega) (by omega) (by decide) ?_
      try simp (disch := decide) only [sr_42, sr_0, sr_q, sr_ne, sr_putq, sr_put42]
      refine P_goto (tgt := 42) (pc := 27) dX6_passes_27 (by decide) ?_
      refine P_aload_n (pc := 42) dX6_passes_42 rfl 0 rfl ?_
      refine P_dup (pc := 43) dX6_passes_43 rfl ?_
      refine P_getI (jj := 42) (pc := 44) dX6_passes_44 fa_RX6_282 sM_0 fM0_42 rfl ?_
      try simp (disch := decide) only [sr_42, sr_0, sr_q, sr_ne, sr_putq, sr_put42]
      refine P_iconst (pc := 47) dX6_passes_47 ?_
      refine P_iadd (pc := 48) dX6_passes_48 ?_
      refine P_putI (jj := 42) (pc := 49) dX6_passes_49 fa_RX6_282 fp_6_42 sM_0 fM0_42 rfl ?_
      try simp (disch := decide) only [sr_42, sr_0, sr_q, sr_ne, sr_putq, sr_put42]
      refine P_iinc (L' := [(2, vi _), (0, vr 0), (1, vr 4)]) (pc := 52) dX6_passes_52 (by decide) 2 rfl rfl ?_
      refine P_goto (tgt := 2) (pc := 55) dX6_passes_55 (by decide) ?_
      refine P_sub (L' := [(0, vr 0), (1, vr 4), (2, vi _)]) [1, 2, 0] rfl ?_
      refine P_cast (L' := [(0, vr 0), (1, vr 4), (2, vi (j + 1))]) rfl ?_ (ih (j + 1) (by omega) (by omega))
      rw [kpF_s hj.1, Int.add_assoc]
set_option maxHeartbeats 1000000 in
set_option maxRecDepth 100000 in
theorem c_X6_passes4_1 {μ : Mem} (hk : μ.1 0 41 = 1) (hc : 0 ≤ μ.1 0 42 ∧ μ.1 0 42 + 12 ≤ 500) : PC shM 0 mX6_passes [vr 0, vr 4] (μ) (QV (fun μ' => μ' = keep1 μ 4 12)) := by
  refine PC.of (by decide +kernel) (Nat.le_of_ble_eq_true rfl) ?_
  refine P_sub (L' := [(0, vr 0), (1, vr 4)]) [0, 1] rfl ?_
  refine P_iconst (pc := 0) dX6_passes_0 ?_
  refine P_istore_n (L' := [(2, vi _), (0, vr 0), (1, vr 4)]) (pc := 1) dX6_passes_1 rfl (by decide) rfl ?_
  refine P_sub (L' := [(0, vr 0), (1, vr 4), (2, vi _)]) [1, 2, 0] rfl ?_
  refine P_cast (L' := [(0, vr 0), (1, vr 4), (2, vi 0)]) rfl ?_ (l_X6_passes4_1 hk hc (12 + 1) 0 (by omega) (by omega))
  rw [kpF_0, Int.add_zero, sr_self]
set_option maxHeartbeats 1000000 in
set_option maxRecDepth 100000 in
theorem l_X6_passes4_0 {μ : Mem} (hk : μ.1 0 41 = 0) (hc : 0 ≤ μ.1 0 42 ∧ μ.1 0 42 + 12 ≤ 500) : ∀ (n : Nat) (j : Int), 0 ≤ j ∧ j ≤ 12 → (12 - j).toNat < n → PW shM 0 mX6_passes 2 [(0, vr 0), (1, vr 4), (2, vi j)] [] (setR μ 4 (rsF (μ.1 30) (μ.1 0 42) j (μ.1 4)) (μ.1 0 42 + j)) (QV (fun μ' => μ' = back1 μ 4 12)) := by
  intro n
  induction n with
  | zero => intro j _ h; omega
  | succ n ih =>
  intro j hj hn
  refine P_iload_n (pc := 2) dX6_passes_2 rfl 2 rfl ?_
  refine P_aload_n (pc := 3) dX6_passes_3 rfl 1 rfl ?_
  refine P_alen (pc := 4) dX6_passes_4 sM_4 (by decide) ?_
  refine P_icmp_ge (tgt := 58) (pc := 5) dX6_passes_5 (by decide) (by unfold InR; omega) (by unfold InR; omega) (fun c_5 => ?_) (fun c_5 => ?_)
  · exact P_vret (pc := 58) dX6_passes_58 rfl (QV.mk (by have e9 : j = 12 := (by omega); subst e9; rfl))
  · refine P_aload_n (pc := 8) dX6_passes_8 rfl 0 rfl ?_
    refine P_getI (jj := 41) (pc := 9) dX6_passes_9 fa_RX6_279 sM_0 fM0_41 rfl ?_
    try simp (disch := decide) only [sr_42, sr_0, sr_q, sr_ne, sr_putq, sr_put42]
    refine P_if_eq (tgt := 30) (pc := 12) dX6_passes_12 (by decide) (by unfold InR; omega) (fun c_12 => ?_) (fun c_12 => ?_)
    · refine P_aload_n (pc := 30) dX6_passes_30 rfl 1 rfl ?_
      refine P_iload_n (pc := 31) dX6_passes_31 rfl 2 rfl ?_
      refine P_aload_n (pc := 32) dX6_passes_32 rfl 0 rfl ?_
      refine P_getR (pc := 33) dX6_passes_33 fa_RX6_98 sM_0 fM0_39 ?_
      refine P_aload_n (pc := 36) dX6_passes_36 rfl 0 rfl ?_
      refine P_getI (jj := 42) (pc := 37) dX6_passes_37 fa_RX6_282 sM_0 fM0_42 rfl ?_
      try simp (disch := decide) only [sr_42, sr_0, sr_q, sr_ne, sr_putq, sr_put42]
      refine P_iald (pc := 40) dX6_passes_40 sM_30 (by omega) (by omega) (by decide) ?_
      try simp (disch := decide) only [sr_42, sr_0, sr_q, sr_ne, sr_putq, sr_put42]
      refine P_iast (pc := 41) dX6_passes_41 sM_4 (by omega) (by omega) (by decide) ?_
      try simp (disch := decide) only [sr_42, sr_0, sr_q, sr_ne, sr_putq, sr_put42]
      refine P_aload_n (pc := 42) dX6_passes_42 rfl 0 rfl ?_
      refine P_dup (pc := 43) dX6_passes_43 rfl ?_
      refine P_getI (jj := 42) (pc := 44) dX6_passes_44 fa_RX6_282 sM_0 fM0_42 rfl ?_
      try simp (disch := decide) only [sr_42, sr_0, sr_q, sr_ne, sr_putq, sr_put42]
      refine P_iconst (pc := 47) dX6_passes_47 ?_
      refine P_iadd (pc := 48) dX6_passes_48 ?_
      refine P_putI (jj := 42) (pc := 49) dX6_passes_49 fa_RX6_282 fp_6_42 sM_0 fM0_42 rfl ?_
      try simp (disch := decide) only [sr_42, sr_0, sr_q, sr_ne, sr_putq, sr_put42]
      refine P_iinc (L' := [(2, vi _), (0, vr 0), (1, vr 4)]) (pc := 52) dX6_passes_52 (by decide) 2 rfl rfl ?_
      refine P_goto (tgt := 2) (pc := 55) dX6_passes_55 (by decide) ?_
      refine P_sub (L' := [(0, vr 0), (1, vr 4), (2, vi _)]) [1, 2, 0] rfl ?_
      refine P_cast (L' := [(0, vr 0), (1, vr 4), (2, vi (j + 1))]) rfl ?_ (ih (j + 1) (by omega) (by omega))
      rw [rsF_s hj.1, Int.add_assoc]
    · exfalso; omega
set_option maxHeartbeats 1000000 in
set_option maxRecDepth 100000 in
theorem c_X6_passes4_0 {μ : Mem} (hk : μ.1 0 41 = 0) (hc : 0 ≤ μ.1 0 42 ∧ μ.1 0 42 + 12 ≤ 500) : PC shM 0 mX6_passes [vr 0, vr 4] (μ) (QV (fun μ' => μ' = back1 μ 4 12)) := by
  refine PC.of (by decide +kernel) (Nat.le_of_ble_eq_true rfl) ?_
  refine P_sub (L' := [(0, vr 0), (1, vr 4)]) [0, 1] rfl ?_
  refine P_iconst (pc := 0) dX6_passes_0 ?_
  refine P_istore_n (L' := [(2, vi _), (0, vr 0), (1, vr 4)]) (pc := 1) dX6_passes_1 rfl (by decide) rfl ?_
  refine P_sub (L' := [(0, vr 0), (1, vr 4), (2, vi _)]) [1, 2, 0] rfl ?_
  refine P_cast (L' := [(0, vr 0), (1, vr 4), (2, vi 0)]) rfl ?_ (l_X6_passes4_0 hk hc (12 + 1) 0 (by omega) (by omega))
  rw [rsF_0, Int.add_zero, sr_self]
set_option maxHeartbeats 1000000 in
set_option maxRecDepth 100000 in
theorem l_X6_passes5_1 {μ : Mem} (hk : μ.1 0 41 = 1) (hc : 0 ≤ μ.1 0 42 ∧ μ.1 0 42 + 12 ≤ 500) : ∀ (n : Nat) (j : Int), 0 ≤ j ∧ j ≤ 12 → (12 - j).toNat < n → PW shM 0 mX6_passes 2 [(0, vr 0), (1, vr 5), (2, vi j)] [] (setR μ 30 (kpF (μ.1 5) (μ.1 0 42) j (μ.1 30)) (μ.1 0 42 + j)) (QV (fun μ' => μ' = keep1 μ 5 12)) := by
  intro n
  induction n with
  | zero => intro j _ h; omega
  | succ n ih =>
  intro j hj hn
  refine P_iload_n (pc := 2) dX6_passes_2 rfl 2 rfl ?_
  refine P_aload_n (pc := 3) dX6_passes_3 rfl 1 rfl ?_
  refine P_alen (pc := 4) dX6_passes_4 sM_5 (by decide) ?_
  refine P_icmp_ge (tgt := 58) (pc := 5) dX6_passes_5 (by decide) (by unfold InR; omega) (by unfold InR; omega) (fun c_5 => ?_) (fun c_5 => ?_)
  · exact P_vret (pc := 58) dX6_passes_58 rfl (QV.mk (by have e9 : j = 12 := (by omega); subst e9; rfl))
  · refine P_aload_n (pc := 8) dX6_passes_8 rfl 0 rfl ?_
    refine P_getI (jj := 41) (pc := 9) dX6_passes_9 fa_RX6_279 sM_0 fM0_41 rfl ?_
    try simp (disch := decide) only [sr_42, sr_0, sr_q, sr_ne, sr_putq, sr_put42]
    refine P_if_eq (tgt := 30) (pc := 12) dX6_passes_12 (by decide) (by unfold InR; omega) (fun c_12 => ?_) (fun c_12 => ?_)
    · exfalso; omega
    · refine P_aload_n (pc := 15) dX6_passes_15 rfl 0 rfl ?_
      refine P_getR (pc := 16) dX6_passes_16 fa_RX6_98 sM_0 fM0_39 ?_
      refine P_aload_n (pc := 19) dX6_passes_19 rfl 0 rfl ?_
      refine P_getI (jj := 42) (pc := 20) dX6_passes_20 fa_RX6_282 sM_0 fM0_42 rfl ?_
      try simp (disch := decide) only [sr_42, sr_0, sr_q, sr_ne, sr_putq, sr_put42]
      refine P_aload_n (pc := 23) dX6_passes_23 rfl 1 rfl ?_
      refine P_iload_n (pc := 24) dX6_passes_24 rfl 2 rfl ?_
      refine P_iald (pc := 25) dX6_passes_25 sM_5 (by omega) (by omega) (by decide) ?_
      try simp (disch := decide) only [sr_42, sr_0, sr_q, sr_ne, sr_putq, sr_put42]
      refine P_iast (pc := 26) dX6_passes_26 sM_30 (by omega) (by omega) (by decide) ?_
      try simp (disch := decide) only [sr_42, sr_0, sr_q, sr_ne, sr_putq, sr_put42]
      refine P_goto (tgt := 42) (pc := 27) dX6_passes_27 (by decide) ?_
      refine P_aload_n (pc := 42) dX6_passes_42 rfl 0 rfl ?_
      refine P_dup (pc := 43) dX6_passes_43 rfl ?_
      refine P_getI (jj := 42) (pc := 44) dX6_passes_44 fa_RX6_282 sM_0 fM0_42 rfl ?_
      try simp (disch := decide) only [sr_42, sr_0, sr_q, sr_ne, sr_putq, sr_put42]
      refine P_iconst (pc := 47) dX6_passes_47 ?_
      refine P_iadd (pc := 48) dX6_passes_48 ?_
      refine P_putI (jj := 42) (pc := 49) dX6_passes_49 fa_RX6_282 fp_6_42 sM_0 fM0_42 rfl ?_
      try simp (disch := decide) only [sr_42, sr_0, sr_q, sr_ne, sr_putq, sr_put42]
      refine P_iinc (L' := [(2, vi _), (0, vr 0), (1, vr 5)]) (pc := 52) dX6_passes_52 (by decide) 2 rfl rfl ?_
      refine P_goto (tgt := 2) (pc := 55) dX6_passes_55 (by decide) ?_
      refine P_sub (L' := [(0, vr 0), (1, vr 5), (2, vi _)]) [1, 2, 0] rfl ?_
      refine P_cast (L' := [(0, vr 0), (1, vr 5), (2, vi (j + 1))]) rfl ?_ (ih (j + 1) (by omega) (by omega))
      rw [kpF_s hj.1, Int.add_assoc]
set_option maxHeartbeats 1000000 in
set_option maxRecDepth 100000 in
theorem c_X6_passes5_1 {μ : Mem} (hk : μ.1 0 41 = 1) (hc : 0 ≤ μ.1 0 42 ∧ μ.1 0 42 + 12 ≤ 500) : PC shM 0 mX6_passes [vr 0, vr 5] (μ) (QV (fun μ' => μ' = keep1 μ 5 12)) := by
  refine PC.of (by decide +kernel) (Nat.le_of_ble_eq_true rfl) ?_
  refine P_sub (L' := [(0, vr 0), (1, vr 5)]) [0, 1] rfl ?_
  refine P_iconst (pc := 0) dX6_passes_0 ?_
  refine P_istore_n (L' := [(2, vi _), (0, vr 0), (1, vr 5)]) (pc := 1) dX6_passes_1 rfl (by decide) rfl ?_
  refine P_sub (L' := [(0, vr 0), (1, vr 5), (2, vi _)]) [1, 2, 0] rfl ?_
  refine P_cast (L' := [(0, vr 0), (1, vr 5), (2, vi 0)]) rfl ?_ (l_X6_passes5_1 hk hc (12 + 1) 0 (by omega) (by omega))
  rw [kpF_0, Int.add_zero, sr_self]
set_option maxHeartbeats 1000000 in
set_option maxRecDepth 100000 in
theorem l_X6_passes5_0 {μ : Mem} (hk : μ.1 0 41 = 0) (hc : 0 ≤ μ.1 0 42 ∧ μ.1 0 42 + 12 ≤ 500) : ∀ (n : Nat) (j : Int), 0 ≤ j ∧ j ≤ 12 → (12 - j).toNat < n → PW shM 0 mX6_passes 2 [(0, vr 0), (1, vr 5), (2, vi j)] [] (setR μ 5 (rsF (μ.1 30) (μ.1 0 42) j (μ.1 5)) (μ.1 0 42 + j)) (QV (fun μ' => μ' = back1 μ 5 12)) := by
  intro n
  induction n with
  | zero => intro j _ h; omega
  | succ n ih =>
  intro j hj hn
  refine P_iload_n (pc := 2) dX6_passes_2 rfl 2 rfl ?_
  refine P_aload_n (pc := 3) dX6_passes_3 rfl 1 rfl ?_
  refine P_alen (pc := 4) dX6_passes_4 sM_5 (by decide) ?_
  refine P_icmp_ge (tgt := 58) (pc := 5) dX6_passes_5 (by decide) (by unfold InR; omega) (by unfold InR; omega) (fun c_5 => ?_) (fun c_5 => ?_)
  · exact P_vret (pc := 58) dX6_passes_58 rfl (QV.mk (by have e9 : j = 12 := (by omega); subst e9; rfl))
  · refine P_aload_n (pc := 8) dX6_passes_8 rfl 0 rfl ?_
    refine P_getI (jj := 41) (pc := 9) dX6_passes_9 fa_RX6_279 sM_0 fM0_41 rfl ?_
    try simp (disch := decide) only [sr_42, sr_0, sr_q, sr_ne, sr_putq, sr_put42]
    refine P_if_eq (tgt := 30) (pc := 12) dX6_passes_12 (by decide) (by unfold InR; omega) (fun c_12 => ?_) (fun c_12 => ?_)
    · refine P_aload_n (pc := 30) dX6_passes_30 rfl 1 rfl ?_
      refine P_iload_n (pc := 31) dX6_passes_31 rfl 2 rfl ?_
      refine P_aload_n (pc := 32) dX6_passes_32 rfl 0 rfl ?_
      refine P_getR (pc := 33) dX6_passes_33 fa_RX6_98 sM_0 fM0_39 ?_
      refine P_aload_n (pc := 36) dX6_passes_36 rfl 0 rfl ?_
      refine P_getI (jj := 42) (pc := 37) dX6_passes_37 fa_RX6_282 sM_0 fM0_42 rfl ?_
      try simp (disch := decide) only [sr_42, sr_0, sr_q, sr_ne, sr_putq, sr_put42]
      refine P_iald (pc := 40) dX6_passes_40 sM_30 (by omega) (by omega) (by decide) ?_
      try simp (disch := decide) only [sr_42, sr_0, sr_q, sr_ne, sr_putq, sr_put42]
      refine P_iast (pc := 41) dX6_passes_41 sM_5 (by omega) (by omega) (by decide) ?_
      try simp (disch := decide) only [sr_42, sr_0, sr_q, sr_ne, sr_putq, sr_put42]
      refine P_aload_n (pc := 42) dX6_passes_42 rfl 0 rfl ?_
      refine P_dup (pc := 43) dX6_passes_43 rfl ?_
      refine P_getI (jj := 42) (pc := 44) dX6_passes_44 fa_RX6_282 sM_0 fM0_42 rfl ?_
      try simp (disch := decide) only [sr_42, sr_0, sr_q, sr_ne, sr_putq, sr_put42]
      refine P_iconst (pc := 47) dX6_passes_47 ?_
      refine P_iadd (pc := 48) dX6_passes_48 ?_
      refine P_putI (jj := 42) (pc := 49) dX6_passes_49 fa_RX6_282 fp_6_42 sM_0 fM0_42 rfl ?_
      try simp (disch := decide) only [sr_42, sr_0, sr_q, sr_ne, sr_putq, sr_put42]
      refine P_iinc (L' := [(2, vi _), (0, vr 0), (1, vr 5)]) (pc := 52) dX6_passes_52 (by decide) 2 rfl rfl ?_
      refine P_goto (tgt := 2) (pc := 55) dX6_passes_55 (by decide) ?_
      refine P_sub (L' := [(0, vr 0), (1, vr 5), (2, vi _)]) [1, 2, 0] rfl ?_
      refine P_cast (L' := [(0, vr 0), (1, vr 5), (2, vi (j + 1))]) rfl ?_ (ih (j + 1) (by omega) (by omega))
      rw [rsF_s hj.1, Int.add_assoc]
    · exfalso; omega
set_option maxHeartbeats 1000000 in
set_option maxRecDepth 100000 in
theorem c_X6_passes5_0 {μ : Mem} (hk : μ.1 0 41 = 0) (hc : 0 ≤ μ.1 0 42 ∧ μ.1 0 42 + 12 ≤ 500) : PC shM 0 mX6_passes [vr 0, vr 5] (μ) (QV (fun μ' => μ' = back1 μ 5 12)) := by
  refine PC.of (by decide +kernel) (Nat.le_of_ble_eq_true rfl) ?_
  refine P_sub (L' := [(0, vr 0), (1, vr 5)]) [0, 1] rfl ?_
  refine P_iconst (pc := 0) dX6_passes_0 ?_
  refine P_istore_n (L' := [(2, vi _), (0, vr 0), (1, vr 5)]) (pc := 1) dX6_passes_1 rfl (by decide) rfl ?_
  refine P_sub (L' := [(0, vr 0), (1, vr 5), (2, vi _)]) [1, 2, 0] rfl ?_
  refine P_cast (L' := [(0, vr 0), (1, vr 5), (2, vi 0)]) rfl ?_ (l_X6_passes5_0 hk hc (12 + 1) 0 (by omega) (by omega))
  rw [rsF_0, Int.add_zero, sr_self]
set_option maxHeartbeats 1000000 in
set_option maxRecDepth 100000 in
theorem l_X6_passes6_1 {μ : Mem} (hk : μ.1 0 41 = 1) (hc : 0 ≤ μ.1 0 42 ∧ μ.1 0 42 + 3 ≤ 500) : ∀ (n : Nat) (j : Int), 0 ≤ j ∧ j ≤ 3 → (3 - j).toNat < n → PW shM 0 mX6_passes 2 [(0, vr 0), (1, vr 6), (2, vi j)] [] (setR μ 30 (kpF (μ.1 6) (μ.1 0 42) j (μ.1 30)) (μ.1 0 42 + j)) (QV (fun μ' => μ' = keep1 μ 6 3)) := by
  intro n
  induction n with
  | zero => intro j _ h; omega
  | succ n ih =>
  intro j hj hn
  refine P_iload_n (pc := 2) dX6_passes_2 rfl 2 rfl ?_
  refine P_aload_n (pc := 3) dX6_passes_3 rfl 1 rfl ?_
  refine P_alen (pc := 4) dX6_passes_4 sM_6 (by decide) ?_
  refine P_icmp_ge (tgt := 58) (pc := 5) dX6_passes_5 (by decide) (by unfold InR; omega) (by unfold InR; omega) (fun c_5 => ?_) (fun c_5 => ?_)
  · exact P_vret (pc := 58) dX6_passes_58 rfl (QV.mk (by have e9 : j = 3 := (by omega); subst e9; rfl))
  · refine P_aload_n (pc := 8) dX6_passes_8 rfl 0 rfl ?_
    refine P_getI (jj := 41) (pc := 9) dX6_passes_9 fa_RX6_279 sM_0 fM0_41 rfl ?_
    try simp (disch := decide) only [sr_42, sr_0, sr_q, sr_ne, sr_putq, sr_put42]
    refine P_if_eq (tgt := 30) (pc := 12) dX6_passes_12 (by decide) (by unfold InR; omega) (fun c_12 => ?_) (fun c_12 => ?_)
    · exfalso; omega
    · refine P_aload_n (pc := 15) dX6_passes_15 rfl 0 rfl ?_
      refine P_getR (pc := 16) dX6_passes_16 fa_RX6_98 sM_0 fM0_39 ?_
      refine P_aload_n (pc := 19) dX6_passes_19 rfl 0 rfl ?_
      refine P_getI (jj := 42) (pc := 20) dX6_passes_20 fa_RX6_282 sM_0 fM0_42 rfl ?_
      try simp (disch := decide) only [sr_42, sr_0, sr_q, sr_ne, sr_putq, sr_put42]
      refine P_aload_n (pc := 23) dX6_passes_23 rfl 1 rfl ?_
      refine P_iload_n (pc := 24) dX6_passes_24 rfl 2 rfl ?_
      refine P_iald (pc := 25) dX6_passes_25 sM_6 (by omega) (by omega) (by decide) ?_
      try simp (disch := decide) only [sr_42, sr_0, sr_q, sr_ne, sr_putq, sr_put42]
      refine P_iast (pc := 26) dX6_passes_26 sM_30 (by omega) (by omega) (by decide) ?_
      try simp (disch := decide) only [sr_42, sr_0, sr_q, sr_ne, sr_putq, sr_put42]
      refine P_goto (tgt := 42) (pc := 27) dX6_passes_27 (by decide) ?_
      refine P_aload_n (pc := 42) dX6_passes_42 rfl 0 rfl ?_
      refine P_dup (pc := 43) dX6_passes_43 rfl ?_
      refine P_getI (jj := 42) (pc := 44) dX6_passes_44 fa_RX6_282 sM_0 fM0_42 rfl ?_
      try simp (disch := decide) only [sr_42, sr_0, sr_q, sr_ne, sr_putq, sr_put42]
      refine P_iconst (pc := 47) dX6_passes_47 ?_
      refine P_iadd (pc := 48) dX6_passes_48 ?_
      refine P_putI (jj := 42) (pc := 49) dX6_passes_49 fa_RX6_282 fp_6_42 sM_0 fM0_42 rfl ?_
      try simp (disch := decide) only [sr_42, sr_0, sr_q, sr_ne, sr_putq, sr_put42]
      refine P_iinc (L' := [(2, vi _), (0, vr 0), (1, vr 6)]) (pc := 52) dX6_passes_52 (by decide) 2 rfl rfl ?_
      refine P_goto (tgt := 2) (pc := 55) dX6_passes_55 (by decide) ?_
      refine P_sub (L' := [(0, vr 0), (1, vr 6), (2, vi _)]) [1, 2, 0] rfl ?_
      refine P_cast (L' := [(0, vr 0), (1, vr 6), (2, vi (j + 1))]) rfl ?_ (ih (j + 1) (by omega) (by omega))
      rw [kpF_s hj.1, Int.add_assoc]
set_option maxHeartbeats 1000000 in
set_option maxRecDepth 100000 in
theorem c_X6_passes6_1 {μ : Mem} (hk : μ.1 0 41 = 1) (hc : 0 ≤ μ.1 0 42 ∧ μ.1 0 42 + 3 ≤ 500) : PC shM 0 mX6_passes [vr 0, vr 6] (μ) (QV (fun μ' => μ' = keep1 μ 6 3)) := by
  refine PC.of (by decide +kernel) (Nat.le_of_ble_eq_true rfl) ?_
  refine P_sub (L' := [(0, vr 0), (1, vr 6)]) [0, 1] rfl ?_
  refine P_iconst (pc := 0) dX6_passes_0 ?_
  refine P_istore_n (L' := [(2, vi _), (0, vr 0), (1, vr 6)]) (pc := 1) dX6_passes_1 rfl (by decide) rfl ?_
  refine P_sub (L' := [(0, vr 0), (1, vr 6), (2, vi _)]) [1, 2, 0] rfl ?_
  refine P_cast (L' := [(0, vr 0), (1, vr 6), (2, vi 0)]) rfl ?_ (l_X6_passes6_1 hk hc (3 + 1) 0 (by omega) (by omega))
  rw [kpF_0, Int.add_zero, sr_self]
set_option maxHeartbeats 1000000 in
set_option maxRecDepth 100000 in
theorem l_X6_passes6_0 {μ : Mem} (hk : μ.1 0 41 = 0) (hc : 0 ≤ μ.1 0 42 ∧ μ.1 0 42 + 3 ≤ 500) : ∀ (n : Nat) (j : Int), 0 ≤ j ∧ j ≤ 3 → (3 - j).toNat < n → PW shM 0 mX6_passes 2 [(0, vr 0), (1, vr 6), (2, vi j)] [] (setR μ 6 (rsF (μ.1 30) (μ.1 0 42) j (μ.1 6)) (μ.1 0 42 + j)) (QV (fun μ' => μ' = back1 μ 6 3)) := by
  intro n
  induction n with
  | zero => intro j _ h; omega
  | succ n ih =>
  intro j hj hn
  refine P_iload_n (pc := 2) dX6_passes_2 rfl 2 rfl ?_
  refine P_aload_n (pc := 3) dX6_passes_3 rfl 1 rfl ?_
  refine P_alen (pc := 4) dX6_passes_4 sM_6 (by decide) ?_
  refine P_icmp_ge (tgt := 58) (pc := 5) dX6_passes_5 (by decide) (by unfold InR; omega) (by unfold InR; omega) (fun c_5 => ?_) (fun c_5 => ?_)
  · exact P_vret (pc := 58) dX6_passes_58 rfl (QV.mk (by have e9 : j = 3 := (by omega); subst e9; rfl))
  · refine P_aload_n (pc := 8) dX6_passes_8 rfl 0 rfl ?_
    refine P_getI (jj := 41) (pc := 9) dX6_passes_9 fa_RX6_279 sM_0 fM0_41 rfl ?_
    try simp (disch := decide) only [sr_42, sr_0, sr_q, sr_ne, sr_putq, sr_put42]
    refine P_if_eq (tgt := 30) (pc := 12) dX6_passes_12 (by decide) (by unfold InR; omega) (fun c_12 => ?_) (fun c_12 => ?_)
    · refine P_aload_n (pc := 30) dX6_passes_30 rfl 1 rfl ?_
      refine P_iload_n (pc := 31) dX6_passes_31 rfl 2 rfl ?_
      refine P_aload_n (pc := 32) dX6_passes_32 rfl 0 rfl ?_
      refine P_getR (pc := 33) dX6_passes_33 fa_RX6_98 sM_0 fM0_39 ?_
      refine P_aload_n (pc := 36) dX6_passes_36 rfl 0 rfl ?_
      refine P_getI (jj := 42) (pc := 37) dX6_passes_37 fa_RX6_282 sM_0 fM0_42 rfl ?_
      try simp (disch := decide) only [sr_42, sr_0, sr_q, sr_ne, sr_putq, sr_put42]
      refine P_iald (pc := 40) dX6_passes_40 sM_30 (by omega) (by omega) (by decide) ?_
      try simp (disch := decide) only [sr_42, sr_0, sr_q, sr_ne, sr_putq, sr_put42]
      refine P_iast (pc := 41) dX6_passes_41 sM_6 (by omega) (by omega) (by decide) ?_
      try simp (disch := decide) only [sr_42, sr_0, sr_q, sr_ne, sr_putq, sr_put42]
      refine P_aload_n (pc := 42) dX6_passes_42 rfl 0 rfl ?_
      refine P_dup (pc := 43) dX6_passes_43 rfl ?_
      refine P_getI (jj := 42) (pc := 44) dX6_passes_44 fa_RX6_282 sM_0 fM0_42 rfl ?_
      try simp (disch := decide) only [sr_42, sr_0, sr_q, sr_ne, sr_putq, sr_put42]
      refine P_iconst (pc := 47) dX6_passes_47 ?_
      refine P_iadd (pc := 48) dX6_passes_48 ?_
      refine P_putI (jj := 42) (pc := 49) dX6_passes_49 fa_RX6_282 fp_6_42 sM_0 fM0_42 rfl ?_
      try simp (disch := decide) only [sr_42, sr_0, sr_q, sr_ne, sr_putq, sr_put42]
      refine P_iinc (L' := [(2, vi _), (0, vr 0), (1, vr 6)]) (pc := 52) dX6_passes_52 (by decide) 2 rfl rfl ?_
      refine P_goto (tgt := 2) (pc := 55) dX6_passes_55 (by decide) ?_
      refine P_sub (L' := [(0, vr 0), (1, vr 6), (2, vi _)]) [1, 2, 0] rfl ?_
      refine P_cast (L' := [(0, vr 0), (1, vr 6), (2, vi (j + 1))]) rfl ?_ (ih (j + 1) (by omega) (by omega))
      rw [rsF_s hj.1, Int.add_assoc]
    · exfalso; omega
set_option maxHeartbeats 1000000 in
set_option maxRecDepth 100000 in
theorem c_X6_passes6_0 {μ : Mem} (hk : μ.1 0 41 = 0) (hc : 0 ≤ μ.1 0 42 ∧ μ.1 0 42 + 3 ≤ 500) : PC shM 0 mX6_passes [vr 0, vr 6] (μ) (QV (fun μ' => μ' = back1 μ 6 3)) := by
  refine PC.of (by decide +kernel) (Nat.le_of_ble_eq_true rfl) ?_
  refine P_sub (L' := [(0, vr 0), (1, vr 6)]) [0, 1] rfl ?_
  refine P_iconst (pc := 0) dX6_passes_0 ?_
  refine P_istore_n (L' := [(2, vi _), (0, vr 0), (1, vr 6)]) (pc := 1) dX6_passes_1 rfl (by decide) rfl ?_
  refine P_sub (L' := [(0, vr 0), (1, vr 6), (2, vi _)]) [1, 2, 0] rfl ?_
  refine P_cast (L' := [(0, vr 0), (1, vr 6), (2, vi 0)]) rfl ?_ (l_X6_passes6_0 hk hc (3 + 1) 0 (by omega) (by omega))
  rw [rsF_0, Int.add_zero, sr_self]
set_option maxHeartbeats 1000000 in
set_option maxRecDepth 100000 in
theorem l_X6_passes7_1 {μ : Mem} (hk : μ.1 0 41 = 1) (hc : 0 ≤ μ.1 0 42 ∧ μ.1 0 42 + 60 ≤ 500) : ∀ (n : Nat) (j : Int), 0 ≤ j ∧ j ≤ 60 → (60 - j).toNat < n → PW shM 0 mX6_passes 2 [(0, vr 0), (1, vr 7), (2, vi j)] [] (setR μ 30 (kpF (μ.1 7) (μ.1 0 42) j (μ.1 30)) (μ.1 0 42 + j)) (QV (fun μ' => μ' = keep1 μ 7 60)) := by
  intro n
  induction n with
  | zero => intro j _ h; omega
  | succ n ih =>
  intro j hj hn
  refine P_iload_n (pc := 2) dX6_passes_2 rfl 2 rfl ?_
  refine P_aload_n (pc := 3) dX6_passes_3 rfl 1 rfl ?_
  refine P_alen (pc := 4) dX6_passes_4 sM_7 (by decide) ?_
  refine P_icmp_ge (tgt := 58) (pc := 5) dX6_passes_5 (by decide) (by unfold InR; omega) (by unfold InR; omega) (fun c_5 => ?_) (fun c_5 => ?_)
  · exact P_vret (pc := 58) dX6_passes_58 rfl (QV.mk (by have e9 : j = 60 := (by omega); subst e9; rfl))
  · refine P_aload_n (pc := 8) dX6_passes_8 rfl 0 rfl ?_
    refine P_getI (jj := 41) (pc := 9) dX6_passes_9 fa_RX6_279 sM_0 fM0_41 rfl ?_
    try simp (disch := decide) only [sr_42, sr_0, sr_q, sr_ne, sr_putq, sr_put42]
    refine P_if_eq (tgt := 30) (pc := 12) dX6_passes_12 (by decide) (by unfold InR; omega) (fun c_12 => ?_) (fun c_12 => ?_)
    · exfalso; omega
    · refine P_aload_n (pc := 15) dX6_passes_15 rfl 0 rfl ?_
      refine P_getR (pc := 16) dX6_passes_16 fa_RX6_98 sM_0 fM0_39 ?_
      refine P_aload_n (pc := 19) dX6_passes_19 rfl 0 rfl ?_
      refine P_getI (jj := 42) (pc := 20) dX6_passes_20 fa_RX6_282 sM_0 fM0_42 rfl ?_
      try simp (disch := decide) only [sr_42, sr_0, sr_q, sr_ne, sr_putq, sr_put42]
      refine P_aload_n (pc := 23) dX6_passes_23 rfl 1 rfl ?_
      refine P_iload_n (pc := 24) dX6_passes_24 rfl 2 rfl ?_
      refine P_iald (pc := 25) dX6_passes_25 sM_7 (by omega) (by omega) (by decide) ?_
      try simp (disch := decide) only [sr_42, sr_0, sr_q, sr_ne, sr_putq, sr_put42]
      refine P_iast (pc := 26) dX6_passes_26 sM_30 (by omega) (by omega) (by decide) ?_
      try simp (disch := decide) only [sr_42, sr_0, sr_q, sr_ne, sr_putq, sr_put42]
      refine P_goto (tgt := 42) (pc := 27) dX6_passes_27 (by decide) ?_
      refine P_aload_n (pc := 42) dX6_passes_42 rfl 0 rfl ?_
      refine P_dup (pc := 43) dX6_passes_43 rfl ?_
      refine P_getI (jj := 42) (pc := 44) dX6_passes_44 fa_RX6_282 sM_0 fM0_42 rfl ?_
      try simp (disch := decide) only [sr_42, sr_0, sr_q, sr_ne, sr_putq, sr_put42]
      refine P_iconst (pc := 47) dX6_passes_47 ?_
      refine P_iadd (pc := 48) dX6_passes_48 ?_
      refine P_putI (jj := 42) (pc := 49) dX6_passes_49 fa_RX6_282 fp_6_42 sM_0 fM0_42 rfl ?_
      try simp (disch := decide) only [sr_42, sr_0, sr_q, sr_ne, sr_putq, sr_put42]
      refine P_iinc (L' := [(2, vi _), (0, vr 0), (1, vr 7)]) (pc := 52) dX6_passes_52 (by decide) 2 rfl rfl ?_
      refine P_goto (tgt := 2) (pc := 55) dX6_passes_55 (by decide) ?_
      refine P_sub (L' := [(0, vr 0), (1, vr 7), (2, vi _)]) [1, 2, 0] rfl ?_
      refine P_cast (L' := [(0, vr 0), (1, vr 7), (2, vi (j + 1))]) rfl ?_ (ih (j + 1) (by omega) (by omega))
      rw [kpF_s hj.1, Int.add_assoc]
set_option maxHeartbeats 1000000 in
set_option maxRecDepth 100000 in
theorem c_X6_passes7_1 {μ : Mem} (hk : μ.1 0 41 = 1) (hc : 0 ≤ μ.1 0 42 ∧ μ.1 0 42 + 60 ≤ 500) : PC shM 0 mX6_passes [vr 0, vr 7] (μ) (QV (fun μ' => μ' = keep1 μ 7 60)) := by
  refine PC.of (by decide +kernel) (Nat.le_of_ble_eq_true rfl) ?_
  refine P_sub (L' := [(0, vr 0), (1, vr 7)]) [0, 1] rfl ?_
  refine P_iconst (pc := 0) dX6_passes_0 ?_
  refine P_istore_n (L' := [(2, vi _), (0, vr 0), (1, vr 7)]) (pc := 1) dX6_passes_1 rfl (by decide) rfl ?_
  refine P_sub (L' := [(0, vr 0), (1, vr 7), (2, vi _)]) [1, 2, 0] rfl ?_
  refine P_cast (L' := [(0, vr 0), (1, vr 7), (2, vi 0)]) rfl ?_ (l_X6_passes7_1 hk hc (60 + 1) 0 (by omega) (by omega))
  rw [kpF_0, Int.add_zero, sr_self]
set_option maxHeartbeats 1000000 in
set_option maxRecDepth 100000 in
theorem l_X6_passes7_0 {μ : Mem} (hk : μ.1 0 41 = 0) (hc : 0 ≤ μ.1 0 42 ∧ μ.1 0 42 + 60 ≤ 500) : ∀ (n : Nat) (j : Int), 0 ≤ j ∧ j ≤ 60 → (60 - j).toNat < n → PW shM 0 mX6_passes 2 [(0, vr 0), (1, vr 7), (2, vi j)] [] (setR μ 7 (rsF (μ.1 30) (μ.1 0 42) j (μ.1 7)) (μ.1 0 42 + j)) (QV (fun μ' => μ' = back1 μ 7 60)) := by
  intro n
  induction n with
  | zero => intro j _ h; omega
  | succ n ih =>
  intro j hj hn
  refine P_iload_n (pc := 2) dX6_passes_2 rfl 2 rfl ?_
  refine P_aload_n (pc := 3) dX6_passes_3 rfl 1 rfl ?_
  refine P_alen (pc := 4) dX6_passes_4 sM_7 (by decide) ?_
  refine P_icmp_ge (tgt := 58) (pc := 5) dX6_passes_5 (by decide) (by unfold InR; omega) (by unfold InR; omega) (fun c_5 => ?_) (fun c_5 => ?_)
  · exact P_vret (pc := 58) dX6_passes_58 rfl (QV.mk (by have e9 : j = 60 := (by omega); subst e9; rfl))
  · refine P_aload_n (pc := 8) dX6_passes_8 rfl 0 rfl ?_
    refine P_getI (jj := 41) (pc := 9) dX6_passes_9 fa_RX6_279 sM_0 fM0_41 rfl ?_
    try simp (disch := decide) only [sr_42, sr_0, sr_q, sr_ne, sr_putq, sr_put42]
    refine P_if_eq (tgt := 30) (pc := 12) dX6_passes_12 (by decide) (by unfold InR; omega) (fun c_12 => ?_) (fun c_12 => ?_)
    · refine P_aload_n (pc := 30) dX6_passes_30 rfl 1 rfl ?_
      refine P_iload_n (pc := 31) dX6_passes_31 rfl 2 rfl ?_
      refine P_aload_n (pc := 32) dX6_passes_32 rfl 0 rfl ?_
      refine P_getR (pc := 33) dX6_passes_33 fa_RX6_98 sM_0 fM0_39 ?_
      refine P_aload_n (pc := 36) dX6_passes_36 rfl 0 rfl ?_
      refine P_getI (jj := 42) (pc := 37) dX6_passes_37 fa_RX6_282 sM_0 fM0_42 rfl ?_
      try simp (disch := decide) only [sr_42, sr_0, sr_q, sr_ne, sr_putq, sr_put42]
      refine P_iald (pc := 40) dX6_passes_40 sM_30 (by omega) (by omega) (by decide) ?_
      try simp (disch := decide) only [sr_42, sr_0, sr_q, sr_ne, sr_putq, sr_put42]
      refine P_iast (pc := 41) dX6_passes_41 sM_7 (by omega) (by omega) (by decide) ?_
      try simp (disch := decide) only [sr_42, sr_0, sr_q, sr_ne, sr_putq, sr_put42]
      refine P_aload_n (pc := 42) dX6_passes_42 rfl 0 rfl ?_
      refine P_dup (pc := 43) dX6_passes_43 rfl ?_
      refine P_getI (jj := 42) (pc := 44) dX6_passes_44 fa_RX6_282 sM_0 fM0_42 rfl ?_
      try simp (disch := decide) only [sr_42, sr_0, sr_q, sr_ne, sr_putq, sr_put42]
      refine P_iconst (pc := 47) dX6_passes_47 ?_
      refine P_iadd (pc := 48) dX6_passes_48 ?_
      refine P_putI (jj := 42) (pc := 49) dX6_passes_49 fa_RX6_282 fp_6_42 sM_0 fM0_42 rfl ?_
      try simp (disch := decide) only [sr_42, sr_0, sr_q, sr_ne, sr_putq, sr_put42]
      refine P_iinc (L' := [(2, vi _), (0, vr 0), (1, vr 7)]) (pc := 52) dX6_passes_52 (by decide) 2 rfl rfl ?_
      refine P_goto (tgt := 2) (pc := 55) dX6_passes_55 (by decide) ?_
      refine P_sub (L' := [(0, vr 0), (1, vr 7), (2, vi _)]) [1, 2, 0] rfl ?_
      refine P_cast (L' := [(0, vr 0), (1, vr 7), (2, vi (j + 1))]) rfl ?_ (ih (j + 1) (by omega) (by omega))
      rw [rsF_s hj.1, Int.add_assoc]
    · exfalso; omega
set_option maxHeartbeats 1000000 in
set_option maxRecDepth 100000 in
theorem c_X6_passes7_0 {μ : Mem} (hk : μ.1 0 41 = 0) (hc : 0 ≤ μ.1 0 42 ∧ μ.1 0 42 + 60 ≤ 500) : PC shM 0 mX6_passes [vr 0, vr 7] (μ) (QV (fun μ' => μ' = back1 μ 7 60)) := by
  refine PC.of (by decide +kernel) (Nat.le_of_ble_eq_true rfl) ?_
  refine P_sub (L' := [(0, vr 0), (1, vr 7)]) [0, 1] rfl ?_
  refine P_iconst (pc := 0) dX6_passes_0 ?_
  refine P_istore_n (L' := [(2, vi _), (0, vr 0), (1, vr 7)]) (pc := 1) dX6_passes_1 rfl (by decide) rfl ?_
  refine P_sub (L' := [(0, vr 0), (1, vr 7), (2, vi _)]) [1, 2, 0] rfl ?_
  refine P_cast (L' := [(0, vr 0), (1, vr 7), (2, vi 0)]) rfl ?_ (l_X6_passes7_0 hk hc (60 + 1) 0 (by omega) (by omega))
  rw [rsF_0, Int.add_zero, sr_self]
set_option maxHeartbeats 1000000 in
set_option maxRecDepth 100000 in
theorem l_X6_passes8_1 {μ : Mem} (hk : μ.1 0 41 = 1) (hc : 0 ≤ μ.1 0 42 ∧ μ.1 0 42 + 60 ≤ 500) : ∀ (n : Nat) (j : Int), 0 ≤ j ∧ j ≤ 60 → (60 - j).toNat < n → PW shM 0 mX6_passes 2 [(0, vr 0), (1, vr 8), (2, vi j)] [] (setR μ 30 (kpF (μ.1 8) (μ.1 0 42) j (μ.1 30)) (μ.1 0 42 + j)) (QV (fun μ' => μ' = keep1 μ 8 60)) := by
  intro n
  induction n with
  | zero => intro j _ h; omega
  | succ n ih =>
  intro j hj hn
  refine P_iload_n (pc := 2) dX6_passes_2 rfl 2 rfl ?_
  refine P_aload_n (pc := 3) dX6_passes_3 rfl 1 rfl ?_
  refine P_alen (pc := 4) dX6_passes_4 sM_8 (by decide) ?_
  refine P_icmp_ge (tgt := 58) (pc := 5) dX6_passes_5 (by decide) (by unfold InR; omega) (by unfold InR; omega) (fun c_5 => ?_) (fun c_5 => ?_)
  · exact P_vret (pc := 58) dX6_passes_58 rfl (QV.mk (by have e9 : j = 60 := (by omega); subst e9; rfl))
  · refine P_aload_n (pc := 8) dX6_passes_8 rfl 0 rfl ?_
    refine P_getI (jj := 41) (pc := 9) dX6_passes_9 fa_RX6_279 sM_0 fM0_41 rfl ?_
    try simp (disch := decide) only [sr_42, sr_0, sr_q, sr_ne, sr_putq, sr_put42]
    refine P_if_eq (tgt := 30) (pc := 12) dX6_passes_12 (by decide) (by unfold InR; omega) (fun c_12 => ?_) (fun c_12 => ?_)
    · exfalso; omega
    · refine P_aload_n (pc := 15) dX6_passes_15 rfl 0 rfl ?_
      refine P_getR (pc := 16) dX6_passes_16 fa_RX6_98 sM_0 fM0_39 ?_
      refine P_aload_n (pc := 19) dX6_passes_19 rfl 0 rfl ?_
      refine P_getI (jj := 42) (pc := 20) dX6_passes_20 fa_RX6_282 sM_0 fM0_42 rfl ?_
      try simp (disch := decide) only [sr_42, sr_0, sr_q, sr_ne, sr_putq, sr_put42]
      refine P_aload_n (pc := 23) dX6_passes_23 rfl 1 rfl ?_
      refine P_iload_n (pc := 24) dX6_passes_24 rfl 2 rfl ?_
      refine P_iald (pc := 25) dX6_passes_25 sM_8 (by omega) (by omega) (by decide) ?_
      try simp (disch := decide) only [sr_42, sr_0, sr_q, sr_ne, sr_putq, sr_put42]
      refine P_iast (pc := 26) dX6_passes_26 sM_30 (by omega) (by omega) (by decide) ?_
      try simp (disch := decide) only [sr_42, sr_0, sr_q, sr_ne, sr_putq, sr_put42]
      refine P_goto (tgt := 42) (pc := 27) dX6_passes_27 (by decide) ?_
      refine P_aload_n (pc := 42) dX6_passes_42 rfl 0 rfl ?_
      refine P_dup (pc := 43) dX6_passes_43 rfl ?_
      refine P_getI (jj := 42) (pc := 44) dX6_passes_44 fa_RX6_282 sM_0 fM0_42 rfl ?_
      try simp (disch := decide) only [sr_42, sr_0, sr_q, sr_ne, sr_putq, sr_put42]
      refine P_iconst (pc := 47) dX6_passes_47 ?_
      refine P_iadd (pc := 48) dX6_passes_48 ?_
      refine P_putI (jj := 42) (pc := 49) dX6_passes_49 fa_RX6_282 fp_6_42 sM_0 fM0_42 rfl ?_
      try simp (disch := decide) only [sr_42, sr_0, sr_q, sr_ne, sr_putq, sr_put42]
      refine P_iinc (L' := [(2, vi _), (0, vr 0), (1, vr 8)]) (pc := 52) dX6_passes_52 (by decide) 2 rfl rfl ?_
      refine P_goto (tgt := 2) (pc := 55) dX6_passes_55 (by decide) ?_
      refine P_sub (L' := [(0, vr 0), (1, vr 8), (2, vi _)]) [1, 2, 0] rfl ?_
      refine P_cast (L' := [(0, vr 0), (1, vr 8), (2, vi (j + 1))]) rfl ?_ (ih (j + 1) (by omega) (by omega))
      rw [kpF_s hj.1, Int.add_assoc]
set_option maxHeartbeats 1000000 in
set_option maxRecDepth 100000 in
theorem c_X6_passes8_1 {μ : Mem} (hk : μ.1 0 41 = 1) (hc : 0 ≤ μ.1 0 42 ∧ μ.1 0 42 + 60 ≤ 500) : PC shM 0 mX6_passes [vr 0, vr 8] (μ) (QV (fun μ' => μ' = keep1 μ 8 60)) := by
  refine PC.of (by decide +kernel) (Nat.le_of_ble_eq_true rfl) ?_
  refine P_sub (L' := [(0, vr 0), (1, vr 8)]) [0, 1] rfl ?_
  refine P_iconst (pc := 0) dX6_passes_0 ?_
  refine P_istore_n (L' := [(2, vi _), (0, vr 0), (1, vr 8)]) (pc := 1) dX6_passes_1 rfl (by decide) rfl ?_
  refine P_sub (L' := [(0, vr 0), (1, vr 8), (2, vi _)]) [1, 2, 0] rfl ?_
  refine P_cast (L' := [(0, vr 0), (1, vr 8), (2, vi 0)]) rfl ?_ (l_X6_passes8_1 hk hc (60 + 1) 0 (by omega) (by omega))
  rw [kpF_0, Int.add_zero, sr_self]
set_option maxHeartbeats 1000000 in
set_option maxRecDepth 100000 in
theorem l_X6_passes8_0 {μ : Mem} (hk : μ.1 0 41 = 0) (hc : 0 ≤ μ.1 0 42 ∧ μ.1 0 42 + 60 ≤ 500) : ∀ (n : Nat) (j : Int), 0 ≤ j ∧ j ≤ 60 → (60 - j).toNat < n → PW shM 0 mX6_passes 2 [(0, vr 0), (1, vr 8), (2, vi j)] [] (setR μ 8 (rsF (μ.1 30) (μ.1 0 42) j (μ.1 8)) (μ.1 0 42 + j)) (QV (fun μ' => μ' = back1 μ 8 60)) := by
  intro n
  induction n with
  | zero => intro j _ h; omega
  | succ n ih =>
  intro j hj hn
  refine P_iload_n (pc := 2) dX6_passes_2 rfl 2 rfl ?_
  refine P_aload_n (pc := 3) dX6_passes_3 rfl 1 rfl ?_
  refine P_alen (pc := 4) dX6_passes_4 sM_8 (by decide) ?_
  refine P_icmp_ge (tgt := 58) (pc := 5) dX6_passes_5 (by decide) (by unfold InR; omega) (by unfold InR; omega) (fun c_5 => ?_) (fun c_5 => ?_)
  · exact P_vret (pc := 58) dX6_passes_58 rfl (QV.mk (by have e9 : j = 60 := (by omega); subst e9; rfl))
  · refine P_aload_n (pc := 8) dX6_passes_8 rfl 0 rfl ?_
    refine P_getI (jj := 41) (pc := 9) dX6_passes_9 fa_RX6_279 sM_0 fM0_41 rfl ?_
    try simp (disch := decide) only [sr_42, sr_0, sr_q, sr_ne, sr_putq, sr_put42]
    refine P_if_eq (tgt := 30) (pc := 12) dX6_passes_12 (by decide) (by unfold InR; omega) (fun c_12 => ?_) (fun c_12 => ?_)
    · refine P_aload_n (pc := 30) dX6_passes_30 rfl 1 rfl ?_
      refine P_iload_n (pc := 31) dX6_passes_31 rfl 2 rfl ?_
      refine P_aload_n (pc := 32) dX6_passes_32 rfl 0 rfl ?_
      refine P_getR (pc := 33) dX6_passes_33 fa_RX6_98 sM_0 fM0_39 ?_
      refine P_aload_n (pc := 36) dX6_passes_36 rfl 0 rfl ?_
      refine P_getI (jj := 42) (pc := 37) dX6_passes_37 fa_RX6_282 sM_0 fM0_42 rfl ?_
      try simp (disch := decide) only [sr_42, sr_0, sr_q, sr_ne, sr_putq, sr_put42]
      refine P_iald (pc := 40) dX6_passes_40 sM_30 (by omega) (by omega) (by decide) ?_
      try simp (disch := decide) only [sr_42, sr_0, sr_q, sr_ne, sr_putq, sr_put42]
      refine P_iast (pc := 41) dX6_passes_41 sM_8 (by omega) (by omega) (by decide) ?_
      try simp (disch := decide) only [sr_42, sr_0, sr_q, sr_ne, sr_putq, sr_put42]
      refine P_aload_n (pc := 42) dX6_passes_42 rfl 0 rfl ?_
      refine P_dup (pc := 43) dX6_passes_43 rfl ?_
      refine P_getI (jj := 42) (pc := 44) dX6_passes_44 fa_RX6_282 sM_0 fM0_42 rfl ?_
      try simp (disch := decide) only [sr_42, sr_0, sr_q, sr_ne, sr_putq, sr_put42]
      refine P_iconst (pc := 47) dX6_passes_47 ?_
      refine P_iadd (pc := 48) dX6_passes_48 ?_
      refine P_putI (jj := 42) (pc := 49) dX6_passes_49 fa_RX6_282 fp_6_42 sM_0 fM0_42 rfl ?_
      try simp (disch := decide) only [sr_42, sr_0, sr_q, sr_ne, sr_putq, sr_put42]
      refine P_iinc (L' := [(2, vi _), (0, vr 0), (1, vr 8)]) (pc := 52) dX6_passes_52 (by decide) 2 rfl rfl ?_
      refine P_goto (tgt := 2) (pc := 55) dX6_passes_55 (by decide) ?_
      refine P_sub (L' := [(0, vr 0), (1, vr 8), (2, vi _)]) [1, 2, 0] rfl ?_
      refine P_cast (L' := [(0, vr 0), (1, vr 8), (2, vi (j + 1))]) rfl ?_ (ih (j + 1) (by omega) (by omega))
      rw [rsF_s hj.1, Int.add_assoc]
    · exfalso; omega
set_option maxHeartbeats 1000000 in
set_option maxRecDepth 100000 in
theorem c_X6_passes8_0 {μ : Mem} (hk : μ.1 0 41 = 0) (hc : 0 ≤ μ.1 0 42 ∧ μ.1 0 42 + 60 ≤ 500) : PC shM 0 mX6_passes [vr 0, vr 8] (μ) (QV (fun μ' => μ' = back1 μ 8 60)) := by
  refine PC.of (by decide +kernel) (Nat.le_of_ble_eq_true rfl) ?_
  refine P_sub (L' := [(0, vr 0), (1, vr 8)]) [0, 1] rfl ?_
  refine P_iconst (pc := 0) dX6_passes_0 ?_
  refine P_istore_n (L' := [(2, vi _), (0, vr 0), (1, vr 8)]) (pc := 1) dX6_passes_1 rfl (by decide) rfl ?_
  refine P_sub (L' := [(0, vr 0), (1, vr 8), (2, vi _)]) [1, 2, 0] rfl ?_
  refine P_cast (L' := [(0, vr 0), (1, vr 8), (2, vi 0)]) rfl ?_ (l_X6_passes8_0 hk hc (60 + 1) 0 (by omega) (by omega))
  rw [rsF_0, Int.add_zero, sr_self]
set_option maxHeartbeats 1000000 in
set_option maxRecDepth 100000 in
theorem l_X6_passes9_1 {μ : Mem} (hk : μ.1 0 41 = 1) (hc : 0 ≤ μ.1 0 42 ∧ μ.1 0 42 + 60 ≤ 500) : ∀ (n : Nat) (j : Int), 0 ≤ j ∧ j ≤ 60 → (60 - j).toNat < n → PW shM 0 mX6_passes 2 [(0, vr 0), (1, vr 9), (2, vi j)] [] (setR μ 30 (kpF (μ.1 9) (μ.1 0 42) j (μ.1 30)) (μ.1 0 42 + j)) (QV (fun μ' => μ' = keep1 μ 9 60)) := by
  intro n
  induction n with
  | zero => intro j _ h; omega
  | succ n ih =>
  intro j hj hn
  refine P_iload_n (pc := 2) dX6_passes_2 rfl 2 rfl ?_
  refine P_aload_n (pc := 3) dX6_passes_3 rfl 1 rfl ?_
  refine P_alen (pc := 4) dX6_passes_4 sM_9 (by decide) ?_
  refine P_icmp_ge (tgt := 58) (pc := 5) dX6_passes_5 (by decide) (by unfold InR; omega) (by unfold InR; omega) (fun c_5 => ?_) (fun c_5 => ?_)
  · exact P_vret (pc := 58) dX6_passes_58 rfl (QV.mk (by have e9 : j = 60 := (by omega); subst e9; rfl))
  · refine P_aload_n (pc := 8) dX6_passes_8 rfl 0 rfl ?_
    refine P_getI (jj := 41) (pc := 9) dX6_passes_9 fa_RX6_279 sM_0 fM0_41 rfl ?_
    try simp (disch := decide) only [sr_42, sr_0, sr_q, sr_ne, sr_putq, sr_put42]
    refine P_if_eq (tgt := 30) (pc := 12) dX6_passes_12 (by decide) (by unfold InR; omega) (fun c_12 => ?_) (fun c_12 => ?_)
    · exfalso; omega
    · refine P_aload_n (pc := 15) dX6_passes_15 rfl 0 rfl ?_
      refine P_getR (pc := 16) dX6_passes_16 fa_RX6_98 sM_0 fM0_39 ?_
      refine P_aload_n (pc := 19) dX6_passes_19 rfl 0 rfl ?_
      refine P_getI (jj := 42) (pc := 20) dX6_passes_20 fa_RX6_282 sM_0 fM0_42 rfl ?_
      try simp (disch := decide) only [sr_42, sr_0, sr_q, sr_ne, sr_putq, sr_put42]
      refine P_aload_n (pc := 23) dX6_passes_23 rfl 1 rfl ?_
      refine P_iload_n (pc := 24) dX6_passes_24 rfl 2 rfl ?_
      refine P_iald (pc := 25) dX6_passes_25 sM_9 (by omega) (by omega) (by decide) ?_
      try simp (disch := decide) only [sr_42, sr_0, sr_q, sr_ne, sr_putq, sr_put42]
      refine P_iast (pc := 26) dX6_passes_26 sM_30 (by omega) (by omega) (by decide) ?_
      try simp (disch := decide) only [sr_42, sr_0, sr_q, sr_ne, sr_putq, sr_put42]
      refine P_goto (tgt := 42) (pc := 27) dX6_passes_27 (by decide) ?_
      refine P_aload_n (pc := 42) dX6_passes_42 rfl 0 rfl ?_
      refine P_dup (pc := 43) dX6_passes_43 rfl ?_
      refine P_getI (jj := 42) (pc := 44) dX6_passes_44 fa_RX6_282 sM_0 fM0_42 rfl ?_
      try simp (disch := decide) only [sr_42, sr_0, sr_q, sr_ne, sr_putq, sr_put42]
      refine P_iconst (pc := 47) dX6_passes_47 ?_
      refine P_iadd (pc := 48) dX6_passes_48 ?_
      refine P_putI (jj := 42) (pc := 49) dX6_passes_49 fa_RX6_282 fp_6_42 sM_0 fM0_42 rfl ?_
      try simp (disch := decide) only [sr_42, sr_0, sr_q, sr_ne, sr_putq, sr_put42]
      refine P_iinc (L' := [(2, vi _), (0, vr 0), (1, vr 9)]) (pc := 52) dX6_passes_52 (by decide) 2 rfl rfl ?_
      refine P_goto (tgt := 2) (pc := 55) dX6_passes_55 (by decide) ?_
      refine P_sub (L' := [(0, vr 0), (1, vr 9), (2, vi _)]) [1, 2, 0] rfl ?_
      refine P_cast (L' := [(0, vr 0), (1, vr 9), (2, vi (j + 1))]) rfl ?_ (ih (j + 1) (by omega) (by omega))
      rw [kpF_s hj.1, Int.add_assoc]
set_option maxHeartbeats 1000000 in
set_option maxRecDepth 100000 in
theorem c_X6_passes9_1 {μ : Mem} (hk : μ.1 0 41 = 1) (hc : 0 ≤ μ.1 0 42 ∧ μ.1 0 42 + 60 ≤ 500) : PC shM 0 mX6_passes [vr 0, vr 9] (μ) (QV (fun μ' => μ' = keep1 μ 9 60)) := by
  refine PC.of (by decide +kernel) (Nat.le_of_ble_eq_true rfl) ?_
  refine P_sub (L' := [(0, vr 0), (1, vr 9)]) [0, 1] rfl ?_
  refine P_iconst (pc := 0) dX6_passes_0 ?_
  refine P_istore_n (L' := [(2, vi _), (0, vr 0), (1, vr 9)]) (pc := 1) dX6_passes_1 rfl (by decide) rfl ?_
  refine P_sub (L' := [(0, vr 0), (1, vr 9), (2, vi _)]) [1, 2, 0] rfl ?_
  refine P_cast (L' := [(0, vr 0), (1, vr 9), (2, vi 0)]) rfl ?_ (l_X6_passes9_1 hk hc (60 + 1) 0 (by omega) (by omega))
  rw [kpF_0, Int.add_zero, sr_self]
set_option maxHeartbeats 1000000 in
set_option maxRecDepth 100000 in
theorem l_X6_passes9_0 {μ : Mem} (hk : μ.1 0 41 = 0) (hc : 0 ≤ μ.1 0 42 ∧ μ.1 0 42 + 60 ≤ 500) : ∀ (n : Nat) (j : Int), 0 ≤ j ∧ j ≤ 60 → (60 - j).toNat < n → PW shM 0 mX6_passes 2 [(0, vr 0), (1, vr 9), (2, vi j)] [] (setR μ 9 (rsF (μ.1 30) (μ.1 0 42) j (μ.1 9)) (μ.1 0 42 + j)) (QV (fun μ' => μ' = back1 μ 9 60)) := by
  intro n
  induction n with
  | zero => intro j _ h; omega
  | succ n ih =>
  intro j hj hn
  refine P_iload_n (pc := 2) dX6_passes_2 rfl 2 rfl ?_
  refine P_aload_n (pc := 3) dX6_passes_3 rfl 1 rfl ?_
  refine P_alen (pc := 4) dX6_passes_4 sM_9 (by decide) ?_
  refine P_icmp_ge (tgt := 58) (pc := 5) dX6_passes_5 (by decide) (by unfold InR; omega) (by unfold InR; omega) (fun c_5 => ?_) (fun c_5 => ?_)
  · exact P_vret (pc := 58) dX6_passes_58 rfl (QV.mk (by have e9 : j = 60 := (by omega); subst e9; rfl))
  · refine P_aload_n (pc := 8) dX6_passes_8 rfl 0 rfl ?_
    refine P_getI (jj := 41) (pc := 9) dX6_passes_9 fa_RX6_279 sM_0 fM0_41 rfl ?_
    try simp (disch := decide) only [sr_42, sr_0, sr_q, sr_ne, sr_putq, sr_put42]
    refine P_if_eq (tgt := 30) (pc := 12) dX6_passes_12 (by decide) (by unfold InR; omega) (fun c_12 => ?_) (fun c_12 => ?_)
    · refine P_aload_n (pc := 30) dX6_passes_30 rfl 1 rfl ?_
      refine P_iload_n (pc := 31) dX6_passes_31 rfl 2 rfl ?_
      refine P_aload_n (pc := 32) dX6_passes_32 rfl 0 rfl ?_
      refine P_getR (pc := 33) dX6_passes_33 fa_RX6_98 sM_0 fM0_39 ?_
      refine P_aload_n (pc := 36) dX6_passes_36 rfl 0 rfl ?_
      refine P_getI (jj := 42) (pc := 37) dX6_passes_37 fa_RX6_282 sM_0 fM0_42 rfl ?_
      try simp (disch := decide) only [sr_42, sr_0, sr_q, sr_ne, sr_putq, sr_put42]
      refine P_iald (pc := 40) dX6_passes_40 sM_30 (by omega) (by omega) (by decide) ?_
      try simp (disch := decide) only [sr_42, sr_0, sr_q, sr_ne, sr_putq, sr_put42]
      refine P_iast (pc := 41) dX6_passes_41 sM_9 (by omega) (by omega) (by decide) ?_
      try simp (disch := decide) only [sr_42, sr_0, sr_q, sr_ne, sr_putq, sr_put42]
      refine P_aload_n (pc := 42) dX6_passes_42 rfl 0 rfl ?_
      refine P_dup (pc := 43) dX6_passes_43 rfl ?_
      refine P_getI (jj := 42) (pc := 44) dX6_passes_44 fa_RX6_282 sM_0 fM0_42 rfl ?_
      try simp (disch := decide) only [sr_42, sr_0, sr_q, sr_ne, sr_putq, sr_put42]
      refine P_iconst (pc := 47) dX6_passes_47 ?_
      refine P_iadd (pc := 48) dX6_passes_48 ?_
      refine P_putI (jj := 42) (pc := 49) dX6_passes_49 fa_RX6_282 fp_6_42 sM_0 fM0_42 rfl ?_
      try simp (disch := decide) only [sr_42, sr_0, sr_q, sr_ne, sr_putq, sr_put42]
      refine P_iinc (L' := [(2, vi _), (0, vr 0), (1, vr 9)]) (pc := 52) dX6_passes_52 (by decide) 2 rfl rfl ?_
      refine P_goto (tgt := 2) (pc := 55) dX6_passes_55 (by decide) ?_
      refine P_sub (L' := [(0, vr 0), (1, vr 9), (2, vi _)]) [1, 2, 0] rfl ?_
      refine P_cast (L' := [(0, vr 0), (1, vr 9), (2, vi (j + 1))]) rfl ?_ (ih (j + 1) (by omega) (by omega))
      rw [rsF_s hj.1, Int.add_assoc]
    · exfalso; omega
set_option maxHeartbeats 1000000 in
set_option maxRecDepth 100000 in
theorem c_X6_passes9_0 {μ : Mem} (hk : μ.1 0 41 = 0) (hc : 0 ≤ μ.1 0 42 ∧ μ.1 0 42 + 60 ≤ 500) : PC shM 0 mX6_passes [vr 0, vr 9] (μ) (QV (fun μ' => μ' = back1 μ 9 60)) := by
  refine PC.of (by decide +kernel) (Nat.le_of_ble_eq_true rfl) ?_
  refine P_sub (L' := [(0, vr 0), (1, vr 9)]) [0, 1] rfl ?_
  refine P_iconst (pc := 0) dX6_passes_0 ?_
  refine P_istore_n (L' := [(2, vi _), (0, vr 0), (1, vr 9)]) (pc := 1) dX6_passes_1 rfl (by decide) rfl ?_
  refine P_sub (L' := [(0, vr 0), (1, vr 9), (2, vi _)]) [1, 2, 0] rfl ?_
  refine P_cast (L' := [(0, vr 0), (1, vr 9), (2, vi 0)]) rfl ?_ (l_X6_passes9_0 hk hc (60 + 1) 0 (by omega) (by omega))
  rw [rsF_0, Int.add_zero, sr_self]
set_option maxHeartbeats 1000000 in
set_option maxRecDepth 100000 in
theorem l_X6_passes10_1 {μ : Mem} (hk : μ.1 0 41 = 1) (hc : 0 ≤ μ.1 0 42 ∧ μ.1 0 42 + 60 ≤ 500) : ∀ (n : Nat) (j : Int), 0 ≤ j ∧ j ≤ 60 → (60 - j).toNat < n → PW shM 0 mX6_passes 2 [(0, vr 0), (1, vr 10), (2, vi j)] [] (setR μ 30 (kpF (μ.1 10) (μ.1 0 42) j (μ.1 30)) (μ.1 0 42 + j)) (QV (fun μ' => μ' = keep1 μ 10 60)) := by
  intro n
  induction n with
  | zero => intro j _ h; omega
  | succ n ih =>
  intro j hj hn
  refine P_iload_n (pc := 2) dX6_passes_2 rfl 2 rfl ?_
  refine P_aload_n (pc := 3) dX6_passes_3 rfl 1 rfl ?_
  refine P_alen (pc := 4) dX6_passes_4 sM_10 (by decide) ?_
  refine P_icmp_ge (tgt := 58) (pc := 5) dX6_passes_5 (by decide) (by unfold InR; omega) (by unfold InR; omega) (fun c_5 => ?_) (fun c_5 => ?_)
  · exact P_vret (pc := 58) dX6_passes_58 rfl (QV.mk (by have e9 : j = 60 := (by omega); subst e9; rfl))
  · refine P_aload_n (pc := 8) dX6_passes_8 rfl 0 rfl ?_
    refine P_getI (jj := 41) (pc := 9) dX6_passes_9 fa_RX6_279 sM_0 fM0_41 rfl ?_
    try simp (disch := decide) only [sr_42, sr_0, sr_q, sr_ne, sr_putq, sr_put42]
    refine P_if_eq (tgt := 30) (pc := 12) dX6_passes_12 (by decide) (by unfold InR; omega) (fun c_12 => ?_) (fun c_12 => ?_)
    · exfalso; omega
    · refine P_aload_n (pc := 15) dX6_passes_15 rfl 0 rfl ?_
      refine P_getR (pc := 16) dX6_passes_16 fa_RX6_98 sM_0 fM0_39 ?_
      refine P_aload_n (pc := 19) dX6_passes_19 rfl 0 rfl ?_
      refine P_getI (jj := 42) (pc := 20) dX6_passes_20 fa_RX6_282 sM_0 fM0_42 rfl ?_
      try simp (disch := decide) only [sr_42, sr_0, sr_q, sr_ne, sr_putq, sr_put42]
      refine P_aload_n (pc := 23) dX6_passes_23 rfl 1 rfl ?_
      refine P_iload_n (pc := 24) dX6_passes_24 rfl 2 rfl ?_
      refine P_iald (pc := 25) dX6_passes_25 sM_10 (by omega) (by omega) (by decide) ?_
      try simp (disch := decide) only [sr_42, sr_0, sr_q, sr_ne, sr_putq, sr_put42]
      refine P_iast (pc := 26) dX6_passes_26 sM_30 (by omega) (by omega) (by decide) ?_
      try simp (disch := decide) only [sr_42, sr_0, sr_q, sr_ne, sr_putq, sr_put42]
      refine P_goto (tgt := 42) (pc := 27) dX6_passes_27 (by decide) ?_
      refine P_aload_n (pc := 42) dX6_passes_42 rfl 0 rfl ?_
      refine P_dup (pc := 43) dX6_passes_43 rfl ?_
      refine P_getI (jj := 42) (pc := 44) dX6_passes_44 fa_RX6_282 sM_0 fM0_42 rfl ?_
      try simp (disch := decide) only [sr_42, sr_0, sr_q, sr_ne, sr_putq, sr_put42]
      refine P_iconst (pc := 47) dX6_passes_47 ?_
      refine P_iadd (pc := 48) dX6_passes_48 ?_
      refine P_putI (jj := 42) (pc := 49) dX6_passes_49 fa_RX6_282 fp_6_42 sM_0 fM0_42 rfl ?_
      try simp (disch := decide) only [sr_42, sr_0, sr_q, sr_ne, sr_putq, sr_put42]
      refine P_iinc (L' := [(2, vi _), (0, vr 0), (1, vr 10)]) (pc := 52) dX6_passes_52 (by decide) 2 rfl rfl ?_
      refine P_goto (tgt := 2) (pc := 55) dX6_passes_55 (by decide) ?_
      refine P_sub (L' := [(0, vr 0), (1, vr 10), (2, vi _)]) [1, 2, 0] rfl ?_
      refine P_cast (L' := [(0, vr 0), (1, vr 10), (2, vi (j + 1))]) rfl ?_ (ih (j + 1) (by omega) (by omega))
      rw [kpF_s hj.1, Int.add_assoc]
set_option maxHeartbeats 1000000 in
set_option maxRecDepth 100000 in
theorem c_X6_passes10_1 {μ : Mem} (hk : μ.1 0 41 = 1) (hc : 0 ≤ μ.1 0 42 ∧ μ.1 0 42 + 60 ≤ 500) : PC shM 0 mX6_passes [vr 0, vr 10] (μ) (QV (fun μ' => μ' = keep1 μ 10 60)) := by
  refine PC.of (by decide +kernel) (Nat.le_of_ble_eq_true rfl) ?_
  refine P_sub (L' := [(0, vr 0), (1, vr 10)]) [0, 1] rfl ?_
  refine P_iconst (pc := 0) dX6_passes_0 ?_
  refine P_istore_n (L' := [(2, vi _), (0, vr 0), (1, vr 10)]) (pc := 1) dX6_passes_1 rfl (by decide) rfl ?_
  refine P_sub (L' := [(0, vr 0), (1, vr 10), (2, vi _)]) [1, 2, 0] rfl ?_
  refine P_cast (L' := [(0, vr 0), (1, vr 10), (2, vi 0)]) rfl ?_ (l_X6_passes10_1 hk hc (60 + 1) 0 (by omega) (by omega))
  rw [kpF_0, Int.add_zero, sr_self]
set_option maxHeartbeats 1000000 in
set_option maxRecDepth 100000 in
theorem l_X6_passes10_0 {μ : Mem} (hk : μ.1 0 41 = 0) (hc : 0 ≤ μ.1 0 42 ∧ μ.1 0 42 + 60 ≤ 500) : ∀ (n : Nat) (j : Int), 0 ≤ j ∧ j ≤ 60 → (60 - j).toNat < n → PW shM 0 mX6_passes 2 [(0, vr 0), (1, vr 10), (2, vi j)] [] (setR μ 10 (rsF (μ.1 30) (μ.1 0 42) j (μ.1 10)) (μ.1 0 42 + j)) (QV (fun μ' => μ' = back1 μ 10 60)) := by
  intro n
  induction n with
  | zero => intro j _ h; omega
  | succ n ih =>
  intro j hj hn
  refine P_iload_n (pc := 2) dX6_passes_2 rfl 2 rfl ?_
  refine P_aload_n (pc := 3) dX6_passes_3 rfl 1 rfl ?_
  refine P_alen (pc := 4) dX6_passes_4 sM_10 (by decide) ?_
  refine P_icmp_ge (tgt := 58) (pc := 5) dX6_passes_5 (by decide) (by unfold InR; omega) (by unfold InR; omega) (fun c_5 => ?_) (fun c_5 => ?_)
  · exact P_vret (pc := 58) dX6_passes_58 rfl (QV.mk (by have e9 : j = 60 := (by omega); subst e9; rfl))
  · refine P_aload_n (pc := 8) dX6_passes_8 rfl 0 rfl ?_
    refine P_getI (jj := 41) (pc := 9) dX6_passes_9 fa_RX6_279 sM_0 fM0_41 rfl ?_
    try simp (disch := decide) only [sr_42, sr_0, sr_q, sr_ne, sr_putq, sr_put42]
    refine P_if_eq (tgt := 30) (pc := 12) dX6_passes_12 (by decide) (by unfold InR; omega) (fun c_12 => ?_) (fun c_12 => ?_)
    · refine P_aload_n (pc := 30) dX6_passes_30 rfl 1 rfl ?_
      refine P_iload_n (pc := 31) dX6_passes_31 rfl 2 rfl ?_
      refine P_aload_n (pc := 32) dX6_passes_32 rfl 0 rfl ?_
      refine P_getR (pc := 33) dX6_passes_33 fa_RX6_98 sM_0 fM0_39 ?_
      refine P_aload_n (pc := 36) dX6_passes_36 rfl 0 rfl ?_
      refine P_getI (jj := 42) (pc := 37) dX6_passes_37 fa_RX6_282 sM_0 fM0_42 rfl ?_
      try simp (disch := decide) only [sr_42, sr_0, sr_q, sr_ne, sr_putq, sr_put42]
      refine P_iald (pc := 40) dX6_passes_40 sM_30 (by omega) (by omega) (by decide) ?_
      try simp (disch := decide) only [sr_42, sr_0, sr_q, sr_ne, sr_putq, sr_put42]
      refine P_iast (pc := 41) dX6_passes_41 sM_10 (by omega) (by omega) (by decide) ?_
      try simp (disch := decide) only [sr_42, sr_0, sr_q, sr_ne, sr_putq, sr_put42]
      refine P_aload_n (pc := 42) dX6_passes_42 rfl 0 rfl ?_
      refine P_dup (pc := 43) dX6_passes_43 rfl ?_
      refine P_getI (jj := 42) (pc := 44) dX6_passes_44 fa_RX6_282 sM_0 fM0_42 rfl ?_
      try simp (disch := decide) only [sr_42, sr_0, sr_q, sr_ne, sr_putq, sr_put42]
      refine P_iconst (pc := 47) dX6_passes_47 ?_
      refine P_iadd (pc := 48) dX6_passes_48 ?_
      refine P_putI (jj := 42) (pc := 49) dX6_passes_49 fa_RX6_282 fp_6_42 sM_0 fM0_42 rfl ?_
      try simp (disch := decide) only [sr_42, sr_0, sr_q, sr_ne, sr_putq, sr_put42]
      refine P_iinc (L' := [(2, vi _), (0, vr 0), (1, vr 10)]) (pc := 52) dX6_passes_52 (by decide) 2 rfl rfl ?_
      refine P_goto (tgt := 2) (pc := 55) dX6_passes_55 (by decide) ?_
      refine P_sub (L' := [(0, vr 0), (1, vr 10), (2, vi _)]) [1, 2, 0] rfl ?_
      refine P_cast (L' := [(0, vr 0), (1, vr 10), (2, vi (j + 1))]) rfl ?_ (ih (j + 1) (by omega) (by omega))
      rw [rsF_s hj.1, Int.add_assoc]
    · exfalso; omega
set_option maxHeartbeats 1000000 in
set_option maxRecDepth 100000 in
theorem c_X6_passes10_0 {μ : Mem} (hk : μ.1 0 41 = 0) (hc : 0 ≤ μ.1 0 42 ∧ μ.1 0 42 + 60 ≤ 500) : PC shM 0 mX6_passes [vr 0, vr 10] (μ) (QV (fun μ' => μ' = back1 μ 10 60)) := by
  refine PC.of (by decide +kernel) (Nat.le_of_ble_eq_true rfl) ?_
  refine P_sub (L' := [(0, vr 0), (1, vr 10)]) [0, 1] rfl ?_
  refine P_iconst (pc := 0) dX6_passes_0 ?_
  refine P_istore_n (L' := [(2, vi _), (0, vr 0), (1, vr 10)]) (pc := 1) dX6_passes_1 rfl (by decide) rfl ?_
  refine P_sub (L' := [(0, vr 0), (1, vr 10), (2, vi _)]) [1, 2, 0] rfl ?_
  refine P_cast (L' := [(0, vr 0), (1, vr 10), (2, vi 0)]) rfl ?_ (l_X6_passes10_0 hk hc (60 + 1) 0 (by omega) (by omega))
  rw [rsF_0, Int.add_zero, sr_self]
set_option maxHeartbeats 1000000 in
set_option maxRecDepth 100000 in
theorem l_X6_passes11_1 {μ : Mem} (hk : μ.1 0 41 = 1) (hc : 0 ≤ μ.1 0 42 ∧ μ.1 0 42 + 60 ≤ 500) : ∀ (n : Nat) (j : Int), 0 ≤ j ∧ j ≤ 60 → (60 - j).toNat < n → PW shM 0 mX6_passes 2 [(0, vr 0), (1, vr 11), (2, vi j)] [] (setR μ 30 (kpF (μ.1 11) (μ.1 0 42) j (μ.1 30)) (μ.1 0 42 + j)) (QV (fun μ' => μ' = keep1 μ 11 60)) := by
  intro n
  induction n with
  | zero => intro j _ h; omega
  | succ n ih =>
  intro j hj hn
  refine P_iload_n (pc := 2) dX6_passes_2 rfl 2 rfl ?_
  refine P_aload_n (pc := 3) dX6_passes_3 rfl 1 rfl ?_
  refine P_alen (pc := 4) dX6_passes_4 sM_11 (by decide) ?_
  refine P_icmp_ge (tgt := 58) (pc := 5) dX6_passes_5 (by decide) (by unfold InR; omega) (by unfold InR; omega) (fun c_5 => ?_) (fun c_5 => ?_)
  · exact P_vret (pc := 58) dX6_passes_58 rfl (QV.mk (by have e9 : j = 60 := (by omega); subst e9; rfl))
  · refine P_aload_n (pc := 8) dX6_passes_8 rfl 0 rfl ?_
    refine P_getI (jj := 41) (pc := 9) dX6_passes_9 fa_RX6_279 sM_0 fM0_41 rfl ?_
    try simp (disch := decide) only [sr_42, sr_0, sr_q, sr_ne, sr_putq, sr_put42]
    refine P_if_eq (tgt := 30) (pc := 12) dX6_passes_12 (by decide) (by unfold InR; omega) (fun c_12 => ?_) (fun c_12 => ?_)
    · exfalso; omega
    · refine P_aload_n (pc := 15) dX6_passes_15 rfl 0 rfl ?_
      refine P_getR (pc := 16) dX6_passes_16 fa_RX6_98 sM_0 fM0_39 ?_
      refine P_aload_n (pc := 19) dX6_passes_19 rfl 0 rfl ?_
      refine P_getI (jj := 42) (pc := 20) dX6_passes_20 fa_RX6_282 sM_0 fM0_42 rfl ?_
      try simp (disch := decide) only [sr_42, sr_0, sr_q, sr_ne, sr_putq, sr_put42]
      refine P_aload_n (pc := 23) dX6_passes_23 rfl 1 rfl ?_
      refine P_iload_n (pc := 24) dX6_passes_24 rfl 2 rfl ?_
      refine P_iald (pc := 25) dX6_passes_25 sM_11 (by omega) (by omega) (by decide) ?_
      try simp (disch := decide) only [sr_42, sr_0, sr_q, sr_ne, sr_putq, sr_put42]
      refine P_iast (pc := 26) dX6_passes_26 sM_30 (by omega) (by omega) (by decide) ?_
      try simp (disch := decide) only [sr_42, sr_0, sr_q, sr_ne, sr_putq, sr_put42]
      refine P_goto (tgt := 42) (pc := 27) dX6_passes_27 (by decide) ?_
      refine P_aload_n (pc := 42) dX6_passes_42 rfl 0 rfl ?_
      refine P_dup (pc := 43) dX6_passes_43 rfl ?_
      refine P_getI (jj := 42) (pc := 44) dX6_passes_44 fa_RX6_282 sM_0 fM0_42 rfl ?_
      try simp (disch := decide) only [sr_42, sr_0, sr_q, sr_ne, sr_putq, sr_put42]
      refine P_iconst (pc := 47) dX6_passes_47 ?_
      refine P_iadd (pc := 48) dX6_passes_48 ?_
      refine P_putI (jj := 42) (pc := 49) dX6_passes_49 fa_RX6_282 fp_6_42 sM_0 fM0_42 rfl ?_
      try simp (disch := decide) only [sr_42, sr_0, sr_q, sr_ne, sr_putq, sr_put42]
      refine P_iinc (L' := [(2, vi _), (0, vr 0), (1, vr 11)]) (pc := 52) dX6_passes_52 (by decide) 2 rfl rfl ?_
      refine P_goto (tgt := 2) (pc := 55) dX6_passes_55 (by decide) ?_
      refine P_sub (L' := [(0, vr 0), (1, vr 11), (2, vi _)]) [1, 2, 0] rfl ?_
      refine P_cast (L' := [(0, vr 0), (1, vr 11), (2, vi (j + 1))]) rfl ?_ (ih (j + 1) (by omega) (by omega))
      rw [kpF_s hj.1, Int.add_assoc]
set_option maxHeartbeats 1000000 in
set_option maxRecDepth 100000 in
theorem c_X6_passes11_1 {μ : Mem} (hk : μ.1 0 41 = 1) (hc : 0 ≤ μ.1 0 42 ∧ μ.1 0 42 + 60 ≤ 500) : PC shM 0 mX6_passes [vr 0, vr 11] (μ) (QV (fun μ' => μ' = keep1 μ 11 60)) := by
  refine PC.of (by decide +kernel) (Nat.le_of_ble_eq_true rfl) ?_
  refine P_sub (L' := [(0, vr 0), (1, vr 11)]) [0, 1] rfl ?_
  refine P_iconst (pc := 0) dX6_passes_0 ?_
  refine P_istore_n (L' := [(2, vi _), (0, vr 0), (1, vr 11)]) (pc := 1) dX6_passes_1 rfl (by decide) rfl ?_
  refine P_sub (L' := [(0, vr 0), (1, vr 11), (2, vi _)]) [1, 2, 0] rfl ?_
  refine P_cast (L' := [(0, vr 0), (1, vr 11), (2, vi 0)]) rfl ?_ (l_X6_passes11_1 hk hc (60 + 1) 0 (by omega) (by omega))
  rw [kpF_0, Int.add_zero, sr_self]
set_option maxHeartbeats 1000000 in
set_option maxRecDepth 100000 in
theorem l_X6_passes11_0 {μ : Mem} (hk : μ.1 0 41 = 0) (hc : 0 ≤ μ.1 0 42 ∧ μ.1 0 42 + 60 ≤ 500) : ∀ (n : Nat) (j : Int), 0 ≤ j ∧ j ≤ 60 → (60 - j).toNat < n → PW shM 0 mX6_passes 2 [(0, vr 0), (1, vr 11), (2, vi j)] [] (setR μ 11 (rsF (μ.1 30) (μ.1 0 42) j (μ.1 11)) (μ.1 0 42 + j)) (QV (fun μ' => μ' = back1 μ 11 60)) := by
  intro n
  induction n with
  | zero => intro j _ h; omega
  | succ n ih =>
  intro j hj hn
  refine P_iload_n (pc := 2) dX6_passes_2 rfl 2 rfl ?_
  refine P_aload_n (pc := 3) dX6_passes_3 rfl 1 rfl ?_
  refine P_alen (pc := 4) dX6_passes_4 sM_11 (by decide) ?_
  refine P_icmp_ge (tgt := 58) (pc := 5) dX6_passes_5 (by decide) (by unfold InR; omega) (by unfold InR; omega) (fun c_5 => ?_) (fun c_5 => ?_)
  · exact P_vret (pc := 58) dX6_passes_58 rfl (QV.mk (by have e9 : j = 60 := (by omega); subst e9; rfl))
  · refine P_aload_n (pc := 8) dX6_passes_8 rfl 0 rfl ?_
    refine P_getI (jj := 41) (pc := 9) dX6_passes_9 fa_RX6_279 sM_0 fM0_41 rfl ?_
    try simp (disch := decide) only [sr_42, sr_0, sr_q, sr_ne, sr_putq, sr_put42]
    refine P_if_eq (tgt := 30) (pc := 12) dX6_passes_12 (by decide) (by unfold InR; omega) (fun c_12 => ?_) (fun c_12 => ?_)
    · refine P_aload_n (pc := 30) dX6_passes_30 rfl 1 rfl ?_
      refine P_iload_n (pc := 31) dX6_passes_31 rfl 2 rfl ?_
      refine P_aload_n (pc := 32) dX6_passes_32 rfl 0 rfl ?_
      refine P_getR (pc := 33) dX6_passes_33 fa_RX6_98 sM_0 fM0_39 ?_
      refine P_aload_n (pc := 36) dX6_passes_36 rfl 0 rfl ?_
      refine P_getI (jj := 42) (pc := 37) dX6_passes_37 fa_RX6_282 sM_0 fM0_42 rfl ?_
      try simp (disch := decide) only [sr_42, sr_0, sr_q, sr_ne, sr_putq, sr_put42]
      refine P_iald (pc := 40) dX6_passes_40 sM_30 (by omega) (by omega) (by decide) ?_
      try simp (disch := decide) only [sr_42, sr_0, sr_q, sr_ne, sr_putq, sr_put42]
      refine P_iast (pc := 41) dX6_passes_41 sM_11 (by omega) (by omega) (by decide) ?_
      try simp (disch := decide) only [sr_42, sr_0, sr_q, sr_ne, sr_putq, sr_put42]
      refine P_aload_n (pc := 42) dX6_passes_42 rfl 0 rfl ?_
      refine P_dup (pc := 43) dX6_passes_43 rfl ?_
      refine P_getI (jj := 42) (pc := 44) dX6_passes_44 fa_RX6_282 sM_0 fM0_42 rfl ?_
      try simp (disch := decide) only [sr_42, sr_0, sr_q, sr_ne, sr_putq, sr_put42]
      refine P_iconst (pc := 47) dX6_passes_47 ?_
      refine P_iadd (pc := 48) dX6_passes_48 ?_
      refine P_putI (jj := 42) (pc := 49) dX6_passes_49 fa_RX6_282 fp_6_42 sM_0 fM0_42 rfl ?_
      try simp (disch := decide) only [sr_42, sr_0, sr_q, sr_ne, sr_putq, sr_put42]
      refine P_iinc (L' := [(2, vi _), (0, vr 0), (1, vr 11)]) (pc := 52) dX6_passes_52 (by decide) 2 rfl rfl ?_
      refine P_goto (tgt := 2) (pc := 55) dX6_passes_55 (by decide) ?_
      refine P_sub (L' := [(0, vr 0), (1, vr 11), (2, vi _)]) [1, 2, 0] rfl ?_
      refine P_cast (L' := [(0, vr 0), (1, vr 11), (2, vi (j + 1))]) rfl ?_ (ih (j + 1) (by omega) (by omega))
      rw [rsF_s hj.1, Int.add_assoc]
    · exfalso; omega
set_option maxHeartbeats 1000000 in
set_option maxRecDepth 100000 in
theorem c_X6_passes11_0 {μ : Mem} (hk : μ.1 0 41 = 0) (hc : 0 ≤ μ.1 0 42 ∧ μ.1 0 42 + 60 ≤ 500) : PC shM 0 mX6_passes [vr 0, vr 11] (μ) (QV (fun μ' => μ' = back1 μ 11 60)) := by
  refine PC.of (by decide +kernel) (Nat.le_of_ble_eq_true rfl) ?_
  refine P_sub (L' := [(0, vr 0), (1, vr 11)]) [0, 1] rfl ?_
  refine P_iconst (pc := 0) dX6_passes_0 ?_
  refine P_istore_n (L' := [(2, vi _), (0, vr 0), (1, vr 11)]) (pc := 1) dX6_passes_1 rfl (by decide) rfl ?_
  refine P_sub (L' := [(0, vr 0), (1, vr 11), (2, vi _)]) [1, 2, 0] rfl ?_
  refine P_cast (L' := [(0, vr 0), (1, vr 11), (2, vi 0)]) rfl ?_ (l_X6_passes11_0 hk hc (60 + 1) 0 (by omega) (by omega))
  rw [rsF_0, Int.add_zero, sr_self]
set_option maxHeartbeats 1000000 in
set_option maxRecDepth 100000 in
theorem l_X6_passes20_1 {μ : Mem} (hk : μ.1 0 41 = 1) (hc : 0 ≤ μ.1 0 42 ∧ μ.1 0 42 + 12 ≤ 500) : ∀ (n : Nat) (j : Int), 0 ≤ j ∧ j ≤ 12 → (12 - j).toNat < n → PW shM 0 mX6_passes 2 [(0, vr 0), (1, vr 20), (2, vi j)] [] (setR μ 30 (kpF (μ.1 20) (μ.1 0 42) j (μ.1 30)) (μ.1 0 42 + j)) (QV (fun μ' => μ' = keep1 μ 20 12)) := by
  intro n
  induction n with
  | zero => intro j _ h; omega
  | succ n ih =>
  intro j hj hn
  refine P_iload_n (pc := 2) dX6_passes_2 rfl 2 rfl ?_
  refine P_aload_n (pc := 3) dX6_passes_3 rfl 1 rfl ?_
  refine P_alen (pc := 4) dX6_passes_4 sM_20 (by decide) ?_
  refine P_icmp_ge (tgt := 58) (pc := 5) dX6_passes_5 (by decide) (by unfold InR; omega) (by unfold InR; omega) (fun c_5 => ?_) (fun c_5 => ?_)
  · exact P_vret (pc := 58) dX6_passes_58 rfl (QV.mk (by have e9 : j = 12 := (by omega); subst e9; rfl))
  · refine P_aload_n (pc := 8) dX6_passes_8 rfl 0 rfl ?_
    refine P_getI (jj := 41) (pc := 9) dX6_passes_9 fa_RX6_279 sM_0 fM0_41 rfl ?_
    try simp (disch := decide) only [sr_42, sr_0, sr_q, sr_ne, sr_putq, sr_put42]
    refine P_if_eq (tgt := 30) (pc := 12) dX6_passes_12 (by decide) (by unfold InR; omega) (fun c_12 => ?_) (fun c_12 => ?_)
    · exfalso; omega
    · refine P_aload_n (pc := 15) dX6_passes_15 rfl 0 rfl ?_
      refine P_getR (pc := 16) dX6_passes_16 fa_RX6_98 sM_0 fM0_39 ?_
      refine P_aload_n (pc := 19) dX6_passes_19 rfl 0 rfl ?_
      refine P_getI (jj := 42) (pc := 20) dX6_passes_20 fa_RX6_282 sM_0 fM0_42 rfl ?_
      try simp (disch := decide) only [sr_42, sr_0, sr_q, sr_ne, sr_putq, sr_put42]
      refine P_aload_n (pc := 23) dX6_passes_23 rfl 1 rfl ?_
      refine P_iload_n (pc := 24) dX6_passes_24 rfl 2 rfl ?_
      refine P_iald (pc := 25) dX6_passes_25 sM_20 (by omega) (by omega) (by decide) ?_
      try simp (disch := decide) only [sr_42, sr_0, sr_q, sr_ne, sr_putq, sr_put42]
      refine P_iast (pc := 26) dX6_passes_26 sM_30 (by omega) (by omega) (by decide) ?_
      try simp (disch := decide) only [sr_42, sr_0, sr_q, sr_ne, sr_putq, sr_put42]
      refine P_goto (tgt := 42) (pc := 27) dX6_passes_27 (by decide) ?_
      refine P_aload_n (pc := 42) dX6_passes_42 rfl 0 rfl ?_
      refine P_dup (pc := 43) dX6_passes_43 rfl ?_
      refine P_getI (jj := 42) (pc := 44) dX6_passes_44 fa_RX6_282 sM_0 fM0_42 rfl ?_
      try simp (disch := decide) only [sr_42, sr_0, sr_q, sr_ne, sr_putq, sr_put42]
      refine P_iconst (pc := 47) dX6_passes_47 ?_
      refine P_iadd (pc := 48) dX6_passes_48 ?_
      refine P_putI (jj := 42) (pc := 49) dX6_passes_49 fa_RX6_282 fp_6_42 sM_0 fM0_42 rfl ?_
      try simp (disch := decide) only [sr_42, sr_0, sr_q, sr_ne, sr_putq, sr_put42]
      refine P_iinc (L' := [(2, vi _), (0, vr 0), (1, vr 20)]) (pc := 52) dX6_passes_52 (by decide) 2 rfl rfl ?_
      refine P_goto (tgt := 2) (pc := 55) dX6_passes_55 (by decide) ?_
      refine P_sub (L' := [(0, vr 0), (1, vr 20), (2, vi _)]) [1, 2, 0] rfl ?_
      refine P_cast (L' := [(0, vr 0), (1, vr 20), (2, vi (j + 1))]) rfl ?_ (ih (j + 1) (by omega) (by omega))
      rw [kpF_s hj.1, Int.add_assoc]
set_option maxHeartbeats 1000000 in
set_option maxRecDepth 100000 in
theorem c_X6_passes20_1 {μ : Mem} (hk : μ.1 0 41 = 1) (hc : 0 ≤ μ.1 0 42 ∧ μ.1 0 42 + 12 ≤ 500) : PC shM 0 mX6_passes [vr 0, vr 20] (μ) (QV (fun μ' => μ' = keep1 μ 20 12)) := by
  refine PC.of (by decide +kernel) (Nat.le_of_ble_eq_true rfl) ?_
  refine P_sub (L' := [(0, vr 0), (1, vr 20)]) [0, 1] rfl ?_
  refine P_iconst (pc := 0) dX6_passes_0 ?_
  refine P_istore_n (L' := [(2, vi _), (0, vr 0), (1, vr 20)]) (pc := 1) dX6_passes_1 rfl (by decide) rfl ?_
  refine P_sub (L' := [(0, vr 0), (1, vr 20), (2, vi _)]) [1, 2, 0] rfl ?_
  refine P_cast (L' := [(0, vr 0), (1, vr 20), (2, vi 0)]) rfl ?_ (l_X6_passes20_1 hk hc (12 + 1) 0 (by omega) (by omega))
  rw [kpF_0, Int.add_zero, sr_self]
set_option maxHeartbeats 1000000 in
set_option maxRecDepth 100000 in
theorem l_X6_passes20_0 {μ : Mem} (hk : μ.1 0 41 = 0) (hc : 0 ≤ μ.1 0 42 ∧ μ.1 0 42 + 12 ≤ 500) : ∀ (n : Nat) (j : Int), 0 ≤ j ∧ j ≤ 12 → (12 - j).toNat < n → PW shM 0 mX6_passes 2 [(0, vr 0), (1, vr 20), (2, vi j)] [] (setR μ 20 (rsF (μ.1 30) (μ.1 0 42) j (μ.1 20)) (μ.1 0 42 + j)) (QV (fun μ' => μ' = back1 μ 20 12)) := by
  intro n
  induction n with
  | zero => intro j _ h; omega
  | succ n ih =>
  intro j hj hn
  refine P_iload_n (pc := 2) dX6_passes_2 rfl 2 rfl ?_
  refine P_aload_n (pc := 3) dX6_passes_3 rfl 1 rfl ?_
  refine P_alen (pc := 4) dX6_passes_4 sM_20 (by decide) ?_
  refine P_icmp_ge (tgt := 58) (pc := 5) dX6_passes_5 (by decide) (by unfold InR; omega) (by unfold InR; omega) (fun c_5 => ?_) (fun c_5 => ?_)
  · exact P_vret (pc := 58) dX6_passes_58 rfl (QV.mk (by have e9 : j = 12 := (by omega); subst e9; rfl))
  · refine P_aload_n (pc := 8) dX6_passes_8 rfl 0 rfl ?_
    refine P_getI (jj := 41) (pc := 9) dX6_passes_9 fa_RX6_279 sM_0 fM0_41 rfl ?_
    try simp (disch := decide) only [sr_42, sr_0, sr_q, sr_ne, sr_putq, sr_put42]
    refine P_if_eq (tgt := 30) (pc := 12) dX6_passes_12 (by decide) (by unfold InR; omega) (fun c_12 => ?_) (fun c_12 => ?_)
    · refine P_aload_n (pc := 30) dX6_passes_30 rfl 1 rfl ?_
      refine P_iload_n (pc := 31) dX6_passes_31 rfl 2 rfl ?_
      refine P_aload_n (pc := 32) dX6_passes_32 rfl 0 rfl ?_
      refine P_getR (pc := 33) dX6_passes_33 fa_RX6_98 sM_0 fM0_39 ?_
      refine P_aload_n (pc := 36) dX6_passes_36 rfl 0 rfl ?_
      refine P_getI (jj := 42) (pc := 37) dX6_passes_37 fa_RX6_282 sM_0 fM0_42 rfl ?_
      try simp (disch := decide) only [sr_42, sr_0, sr_q, sr_ne, sr_putq, sr_put42]
      refine P_iald (pc := 40) dX6_passes_40 sM_30 (by omega) (by omega) (by decide) ?_
      try simp (disch := decide) only [sr_42, sr_0, sr_q, sr_ne, sr_putq, sr_put42]
      refine P_iast (pc := 41) dX6_passes_41 sM_20 (by omega) (by omega) (by decide) ?_
      try simp (disch := decide) only [sr_42, sr_0, sr_q, sr_ne, sr_putq, sr_put42]
      refine P_aload_n (pc := 42) dX6_passes_42 rfl 0 rfl ?_
      refine P_dup (pc := 43) dX6_passes_43 rfl ?_
      refine P_getI (jj := 42) (pc := 44) dX6_passes_44 fa_RX6_282 sM_0 fM0_42 rfl ?_
      try simp (disch := decide) only [sr_42, sr_0, sr_q, sr_ne, sr_putq, sr_put42]
      refine P_iconst (pc := 47) dX6_passes_47 ?_
      refine P_iadd (pc := 48) dX6_passes_48 ?_
      refine P_putI (jj := 42) (pc := 49) dX6_passes_49 fa_RX6_282 fp_6_42 sM_0 fM0_42 rfl ?_
      try simp (disch := decide) only [sr_42, sr_0, sr_q, sr_ne, sr_putq, sr_put42]
      refine P_iinc (L' := [(2, vi _), (0, vr 0), (1, vr 20)]) (pc := 52) dX6_passes_52 (by decide) 2 rfl rfl ?_
      refine P_goto (tgt := 2) (pc := 55) dX6_passes_55 (by decide) ?_
      refine P_sub (L' := [(0, vr 0), (1, vr 20), (2, vi _)]) [1, 2, 0] rfl ?_
      refine P_cast (L' := [(0, vr 0), (1, vr 20), (2, vi (j + 1))]) rfl ?_ (ih (j + 1) (by omega) (by omega))
      rw [rsF_s hj.1, Int.add_assoc]
    · exfalso; omega
set_option maxHeartbeats 1000000 in
set_option maxRecDepth 100000 in
theorem c_X6_passes20_0 {μ : Mem} (hk : μ.1 0 41 = 0) (hc : 0 ≤ μ.1 0 42 ∧ μ.1 0 42 + 12 ≤ 500) : PC shM 0 mX6_passes [vr 0, vr 20] (μ) (QV (fun μ' => μ' = back1 μ 20 12)) := by
  refine PC.of (by decide +kernel) (Nat.le_of_ble_eq_true rfl) ?_
  refine P_sub (L' := [(0, vr 0), (1, vr 20)]) [0, 1] rfl ?_
  refine P_iconst (pc := 0) dX6_passes_0 ?_
  refine P_istore_n (L' := [(2, vi _), (0, vr 0), (1, vr 20)]) (pc := 1) dX6_passes_1 rfl (by decide) rfl ?_
  refine P_sub (L' := [(0, vr 0), (1, vr 20), (2, vi _)]) [1, 2, 0] rfl ?_
  refine P_cast (L' := [(0, vr 0), (1, vr 20), (2, vi 0)]) rfl ?_ (l_X6_passes20_0 hk hc (12 + 1) 0 (by omega) (by omega))
  rw [rsF_0, Int.add_zero, sr_self]
set_option maxHeartbeats 1000000 in
set_option maxRecDepth 100000 in
theorem l_X6_passes21_1 {μ : Mem} (hk : μ.1 0 41 = 1) (hc : 0 ≤ μ.1 0 42 ∧ μ.1 0 42 + 12 ≤ 500) : ∀ (n : Nat) (j : Int), 0 ≤ j ∧ j ≤ 12 → (12 - j).toNat < n → PW shM 0 mX6_passes 2 [(0, vr 0), (1, vr 21), (2, vi j)] [] (setR μ 30 (kpF (μ.1 21) (μ.1 0 42) j (μ.1 30)) (μ.1 0 42 + j)) (QV (fun μ' => μ' = keep1 μ 21 12)) := by
  intro n
  induction n with
  | zero => intro j _ h; omega
  | succ n ih =>
  intro j hj hn
  refine P_iload_n (pc := 2) dX6_passes_2 rfl 2 rfl ?_
  refine P_aload_n (pc := 3) dX6_passes_3 rfl 1 rfl ?_
  refine P_alen (pc := 4) dX6_passes_4 sM_21 (by decide) ?_
  refine P_icmp_ge (tgt := 58) (pc := 5) dX6_passes_5 (by decide) (by unfold InR; omega) (by unfold InR; omega) (fun c_5 => ?_) (fun c_5 => ?_)
  · exact P_vret (pc := 58) dX6_passes_58 rfl (QV.mk (by have e9 : j = 12 := (by omega); subst e9; rfl))
  · refine P_aload_n (pc := 8) dX6_passes_8 rfl 0 rfl ?_
    refine P_getI (jj := 41) (pc := 9) dX6_passes_9 fa_RX6_279 sM_0 fM0_41 rfl ?_
    try simp (disch := decide) only [sr_42, sr_0, sr_q, sr_ne, sr_putq, sr_put42]
    refine P_if_eq (tgt := 30) (pc := 12) dX6_passes_12 (by decide) (by unfold InR; omega) (fun c_12 => ?_) (fun c_12 => ?_)
    · exfalso; omega
    · refine P_aload_n (pc := 15) dX6_passes_15 rfl 0 rfl ?_
      refine P_getR (pc := 16) dX6_passes_16 fa_RX6_98 sM_0 fM0_39 ?_
      refine P_aload_n (pc := 19) dX6_passes_19 rfl 0 rfl ?_
      refine P_getI (jj := 42) (pc := 20) dX6_passes_20 fa_RX6_282 sM_0 fM0_42 rfl ?_
      try simp (disch := decide) only [sr_42, sr_0, sr_q, sr_ne, sr_putq, sr_put42]
      refine P_aload_n (pc := 23) dX6_passes_23 rfl 1 rfl ?_
      refine P_iload_n (pc := 24) dX6_passes_24 rfl 2 rfl ?_
      refine P_iald (pc := 25) dX6_passes_25 sM_21 (by omega) (by omega) (by decide) ?_
      try simp (disch := decide) only [sr_42, sr_0, sr_q, sr_ne, sr_putq, sr_put42]
      refine P_iast (pc := 26) dX6_passes_26 sM_30 (by omega) (by omega) (by decide) ?_
      try simp (disch := decide) only [sr_42, sr_0, sr_q, sr_ne, sr_putq, sr_put42]
      refine P_goto (tgt := 42) (pc := 27) dX6_passes_27 (by decide) ?_
      refine P_aload_n (pc := 42) dX6_passes_42 rfl 0 rfl ?_
      refine P_dup (pc := 43) dX6_passes_43 rfl ?_
      refine P_getI (jj := 42) (pc := 44) dX6_passes_44 fa_RX6_282 sM_0 fM0_42 rfl ?_
      try simp (disch := decide) only [sr_42, sr_0, sr_q, sr_ne, sr_putq, sr_put42]
      refine P_iconst (pc := 47) dX6_passes_47 ?_
      refine P_iadd (pc := 48) dX6_passes_48 ?_
      refine P_putI (jj := 42) (pc := 49) dX6_passes_49 fa_RX6_282 fp_6_42 sM_0 fM0_42 rfl ?_
      try simp (disch := decide) only [sr_42, sr_0, sr_q, sr_ne, sr_putq, sr_put42]
      refine P_iinc (L' := [(2, vi _), (0, vr 0), (1, vr 21)]) (pc := 52) dX6_passes_52 (by decide) 2 rfl rfl ?_
      refine P_goto (tgt := 2) (pc := 55) dX6_passes_55 (by decide) ?_
      refine P_sub (L' := [(0, vr 0), (1, vr 21), (2, vi _)]) [1, 2, 0] rfl ?_
      refine P_cast (L' := [(0, vr 0), (1, vr 21), (2, vi (j + 1))]) rfl ?_ (ih (j + 1) (by omega) (by omega))
      rw [kpF_s hj.1, Int.add_assoc]
set_option maxHeartbeats 1000000 in
set_option maxRecDepth 100000 in
theorem c_X6_passes21_1 {μ : Mem} (hk : μ.1 0 41 = 1) (hc : 0 ≤ μ.1 0 42 ∧ μ.1 0 42 + 12 ≤ 500) : PC shM 0 mX6_passes [vr 0, vr 21] (μ) (QV (fun μ' => μ' = keep1 μ 21 12)) := by
  refine PC.of (by decide +kernel) (Nat.le_of_ble_eq_true rfl) ?_
  refine P_sub (L' := [(0, vr 0), (1, vr 21)]) [0, 1] rfl ?_
  refine P_iconst (pc := 0) dX6_passes_0 ?_
  refine P_istore_n (L' := [(2, vi _), (0, vr 0), (1, vr 21)]) (pc := 1) dX6_passes_1 rfl (by decide) rfl ?_
  refine P_sub (L' := [(0, vr 0), (1, vr 21), (2, vi _)]) [1, 2, 0] rfl ?_
  refine P_cast (L' := [(0, vr 0), (1, vr 21), (2, vi 0)]) rfl ?_ (l_X6_passes21_1 hk hc (12 + 1) 0 (by omega) (by omega))
  rw [kpF_0, Int.add_zero, sr_self]
set_option maxHeartbeats 1000000 in
set_option maxRecDepth 100000 in
theorem l_X6_passes21_0 {μ : Mem} (hk : μ.1 0 41 = 0) (hc : 0 ≤ μ.1 0 42 ∧ μ.1 0 42 + 12 ≤ 500) : ∀ (n : Nat) (j : Int), 0 ≤ j ∧ j ≤ 12 → (12 - j).toNat < n → PW shM 0 mX6_passes 2 [(0, vr 0), (1, vr 21), (2, vi j)] [] (setR μ 21 (rsF (μ.1 30) (μ.1 0 42) j (μ.1 21)) (μ.1 0 42 + j)) (QV (fun μ' => μ' = back1 μ 21 12)) := by
  intro n
  induction n with
  | zero => intro j _ h; omega
  | succ n ih =>
  intro j hj hn
  refine P_iload_n (pc := 2) dX6_passes_2 rfl 2 rfl ?_
  refine P_aload_n (pc := 3) dX6_passes_3 rfl 1 rfl ?_
  refine P_alen (pc := 4) dX6_passes_4 sM_21 (by decide) ?_
  refine P_icmp_ge (tgt := 58) (pc := 5) dX6_passes_5 (by decide) (by unfold InR; omega) (by unfold InR; omega) (fun c_5 => ?_) (fun c_5 => ?_)
  · exact P_vret (pc := 58) dX6_passes_58 rfl (QV.mk (by have e9 : j = 12 := (by omega); subst e9; rfl))
  · refine P_aload_n (pc := 8) dX6_passes_8 rfl 0 rfl ?_
    refine P_getI (jj := 41) (pc := 9) dX6_passes_9 fa_RX6_279 sM_0 fM0_41 rfl ?_
    try simp (disch := decide) only [sr_42, sr_0, sr_q, sr_ne, sr_putq, sr_put42]
    refine P_if_eq (tgt := 30) (pc := 12) dX6_passes_12 (by decide) (by unfold InR; omega) (fun c_12 => ?_) (fun c_12 => ?_)
    · refine P_aload_n (pc := 30) dX6_passes_30 rfl 1 rfl ?_
      refine P_iload_n (pc := 31) dX6_passes_31 rfl 2 rfl ?_
      refine P_aload_n (pc := 32) dX6_passes_32 rfl 0 rfl ?_
      refine P_getR (pc := 33) dX6_passes_33 fa_RX6_98 sM_0 fM0_39 ?_
      refine P_aload_n (pc := 36) dX6_passes_36 rfl 0 rfl ?_
      refine P_getI (jj := 42) (pc := 37) dX6_passes_37 fa_RX6_282 sM_0 fM0_42 rfl ?_
      try simp (disch := decide) only [sr_42, sr_0, sr_q, sr_ne, sr_putq, sr_put42]
      refine P_iald (pc := 40) dX6_passes_40 sM_30 (by omega) (by omega) (by decide) ?_
      try simp (disch := decide) only [sr_42, sr_0, sr_q, sr_ne, sr_putq, sr_put42]
      refine P_iast (pc := 41) dX6_passes_41 sM_21 (by omega) (by omega) (by decide) ?_
      try simp (disch := decide) only [sr_42, sr_0, sr_q, sr_ne, sr_putq, sr_put42]
      refine P_aload_n (pc := 42) dX6_passes_42 rfl 0 rfl ?_
      refine P_dup (pc := 43) dX6_passes_43 rfl ?_
      refine P_getI (jj := 42) (pc := 44) dX6_passes_44 fa_RX6_282 sM_0 fM0_42 rfl ?_
      try simp (disch := decide) only [sr_42, sr_0, sr_q, sr_ne, sr_putq, sr_put42]
      refine P_iconst (pc := 47) dX6_passes_47 ?_
      refine P_iadd (pc := 48) dX6_passes_48 ?_
      refine P_putI (jj := 42) (pc := 49) dX6_passes_49 fa_RX6_282 fp_6_42 sM_0 fM0_42 rfl ?_
      try simp (disch := decide) only [sr_42, sr_0, sr_q, sr_ne, sr_putq, sr_put42]
      refine P_iinc (L' := [(2, vi _), (0, vr 0), (1, vr 21)]) (pc := 52) dX6_passes_52 (by decide) 2 rfl rfl ?_
      refine P_goto (tgt := 2) (pc := 55) dX6_passes_55 (by decide) ?_
      refine P_sub (L' := [(0, vr 0), (1, vr 21), (2, vi _)]) [1, 2, 0] rfl ?_
      refine P_cast (L' := [(0, vr 0), (1, vr 21), (2, vi (j + 1))]) rfl ?_ (ih (j + 1) (by omega) (by omega))
      rw [rsF_s hj.1, Int.add_assoc]
    · exfalso; omega
set_option maxHeartbeats 1000000 in
set_option maxRecDepth 100000 in
theorem c_X6_passes21_0 {μ : Mem} (hk : μ.1 0 41 = 0) (hc : 0 ≤ μ.1 0 42 ∧ μ.1 0 42 + 12 ≤ 500) : PC shM 0 mX6_passes [vr 0, vr 21] (μ) (QV (fun μ' => μ' = back1 μ 21 12)) := by
  refine PC.of (by decide +kernel) (Nat.le_of_ble_eq_true rfl) ?_
  refine P_sub (L' := [(0, vr 0), (1, vr 21)]) [0, 1] rfl ?_
  refine P_iconst (pc := 0) dX6_passes_0 ?_
  refine P_istore_n (L' := [(2, vi _), (0, vr 0), (1, vr 21)]) (pc := 1) dX6_passes_1 rfl (by decide) rfl ?_
  refine P_sub (L' := [(0, vr 0), (1, vr 21), (2, vi _)]) [1, 2, 0] rfl ?_
  refine P_cast (L' := [(0, vr 0), (1, vr 21), (2, vi 0)]) rfl ?_ (l_X6_passes21_0 hk hc (12 + 1) 0 (by omega) (by omega))
  rw [rsF_0, Int.add_zero, sr_self]
set_option maxHeartbeats 1000000 in
set_option maxRecDepth 100000 in
theorem l_X6_passes22_1 {μ : Mem} (hk : μ.1 0 41 = 1) (hc : 0 ≤ μ.1 0 42 ∧ μ.1 0 42 + 12 ≤ 500) : ∀ (n : Nat) (j : Int), 0 ≤ j ∧ j ≤ 12 → (12 - j).toNat < n → PW shM 0 mX6_passes 2 [(0, vr 0), (1, vr 22), (2, vi j)] [] (setR μ 30 (kpF (μ.1 22) (μ.1 0 42) j (μ.1 30)) (μ.1 0 42 + j)) (QV (fun μ' => μ' = keep1 μ 22 12)) := by
  intro n
  induction n with
  | zero => intro j _ h; omega
  | succ n ih =>
  intro j hj hn
  refine P_iload_n (pc := 2) dX6_passes_2 rfl 2 rfl ?_
  refine P_aload_n (pc := 3) dX6_passes_3 rfl 1 rfl ?_
  refine P_alen (pc := 4) dX6_passes_4 sM_22 (by decide) ?_
  refine P_icmp_ge (tgt := 58) (pc := 5) dX6_passes_5 (by decide) (by unfold InR; omega) (by unfold InR; omega) (fun c_5 => ?_) (fun c_5 => ?_)
  · exact P_vret (pc := 58) dX6_passes_58 rfl (QV.mk (by have e9 : j = 12 := (by omega); subst e9; rfl))
  · refine P_aload_n (pc := 8) dX6_passes_8 rfl 0 rfl ?_
    refine P_getI (jj := 41) (pc := 9) dX6_passes_9 fa_RX6_279 sM_0 fM0_41 rfl ?_
    try simp (disch := decide) only [sr_42, sr_0, sr_q, sr_ne, sr_putq, sr_put42]
    refine P_if_eq (tgt := 30) (pc := 12) dX6_passes_12 (by decide) (by unfold InR; omega) (fun c_12 => ?_) (fun c_12 => ?_)
    · exfalso; omega
    · refine P_aload_n (pc := 15) dX6_passes_15 rfl 0 rfl ?_
      refine P_getR (pc := 16) dX6_passes_16 fa_RX6_98 sM_0 fM0_39 ?_
      refine P_aload_n (pc := 19) dX6_passes_19 rfl 0 rfl ?_
      refine P_getI (jj := 42) (pc := 20) dX6_passes_20 fa_RX6_282 sM_0 fM0_42 rfl ?_
      try simp (disch := decide) only [sr_42, sr_0, sr_q, sr_ne, sr_putq, sr_put42]
      refine P_aload_n (pc := 23) dX6_passes_23 rfl 1 rfl ?_
      refine P_iload_n (pc := 24) dX6_passes_24 rfl 2 rfl ?_
      refine P_iald (pc := 25) dX6_passes_25 sM_22 (by omega) (by omega) (by decide) ?_
      try simp (disch := decide) only [sr_42, sr_0, sr_q, sr_ne, sr_putq, sr_put42]
      refine P_iast (pc := 26) dX6_passes_26 sM_30 (by omega) (by omega) (by decide) ?_
      try simp (disch := decide) only [sr_42, sr_0, sr_q, sr_ne, sr_putq, sr_put42]
      refine P_goto (tgt := 42) (pc := 27) dX6_passes_27 (by decide) ?_
      refine P_aload_n (pc := 42) dX6_passes_42 rfl 0 rfl ?_
      refine P_dup (pc := 43) dX6_passes_43 rfl ?_
      refine P_getI (jj := 42) (pc := 44) dX6_passes_44 fa_RX6_282 sM_0 fM0_42 rfl ?_
      try simp (disch := decide) only [sr_42, sr_0, sr_q, sr_ne, sr_putq, sr_put42]
      refine P_iconst (pc := 47) dX6_passes_47 ?_
      refine P_iadd (pc := 48) dX6_passes_48 ?_
      refine P_putI (jj := 42) (pc := 49) dX6_passes_49 fa_RX6_282 fp_6_42 sM_0 fM0_42 rfl ?_
      try simp (disch := decide) only [sr_42, sr_0, sr_q, sr_ne, sr_putq, sr_put42]
      refine P_iinc (L' := [(2, vi _), (0, vr 0), (1, vr 22)]) (pc := 52) dX6_passes_52 (by decide) 2 rfl rfl ?_
      refine P_goto (tgt := 2) (pc := 55) dX6_passes_55 (by decide) ?_
      refine P_sub (L' := [(0, vr 0), (1, vr 22), (2, vi _)]) [1, 2, 0] rfl ?_
      refine P_cast (L' := [(0, vr 0), (1, vr 22), (2, vi (j + 1))]) rfl ?_ (ih (j + 1) (by omega) (by omega))
      rw [kpF_s hj.1, Int.add_assoc]
set_option maxHeartbeats 1000000 in
set_option maxRecDepth 100000 in
theorem c_X6_passes22_1 {μ : Mem} (hk : μ.1 0 41 = 1) (hc : 0 ≤ μ.1 0 42 ∧ μ.1 0 42 + 12 ≤ 500) : PC shM 0 mX6_passes [vr 0, vr 22] (μ) (QV (fun μ' => μ' = keep1 μ 22 12)) := by
  refine PC.of (by decide +kernel) (Nat.le_of_ble_eq_true rfl) ?_
  refine P_sub (L' := [(0, vr 0), (1, vr 22)]) [0, 1] rfl ?_
  refine P_iconst (pc := 0) dX6_passes_0 ?_
  refine P_istore_n (L' := [(2, vi _), (0, vr 0), (1, vr 22)]) (pc := 1) dX6_passes_1 rfl (by decide) rfl ?_
  refine P_sub (L' := [(0, vr 0), (1, vr 22), (2, vi _)]) [1, 2, 0] rfl ?_
  refine P_cast (L' := [(0, vr 0), (1, vr 22), (2, vi 0)]) rfl ?_ (l_X6_passes22_1 hk hc (12 + 1) 0 (by omega) (by omega))
  rw [kpF_0, Int.add_zero, sr_self]
set_option maxHeartbeats 1000000 in
set_option maxRecDepth 100000 in
theorem l_X6_passes22_0 {μ : Mem} (hk : μ.1 0 41 = 0) (hc : 0 ≤ μ.1 0 42 ∧ μ.1 0 42 + 12 ≤ 500) : ∀ (n : Nat) (j : Int), 0 ≤ j ∧ j ≤ 12 → (12 - j).toNat < n → PW shM 0 mX6_passes 2 [(0, vr 0), (1, vr 22), (2, vi j)] [] (setR μ 22 (rsF (μ.1 30) (μ.1 0 42) j (μ.1 22)) (μ.1 0 42 + j)) (QV (fun μ' => μ' = back1 μ 22 12)) := by
  intro n
  induction n with
  | zero => intro j _ h; omega
  | succ n ih =>
  intro j hj hn
  refine P_iload_n (pc := 2) dX6_passes_2 rfl 2 rfl ?_
  refine P_aload_n (pc := 3) dX6_passes_3 rfl 1 rfl ?_
  refine P_alen (pc := 4) dX6_passes_4 sM_22 (by decide) ?_
  refine P_icmp_ge (tgt := 58) (pc := 5) dX6_passes_5 (by decide) (by unfold InR; omega) (by unfold InR; omega) (fun c_5 => ?_) (fun c_5 => ?_)
  · exact P_vret (pc := 58) dX6_passes_58 rfl (QV.mk (by have e9 : j = 12 := (by omega); subst e9; rfl))
  · refine P_aload_n (pc := 8) dX6_passes_8 rfl 0 rfl ?_
    refine P_getI (jj := 41) (pc := 9) dX6_passes_9 fa_RX6_279 sM_0 fM0_41 rfl ?_
    try simp (disch := decide) only [sr_42, sr_0, sr_q, sr_ne, sr_putq, sr_put42]
    refine P_if_eq (tgt := 30) (pc := 12) dX6_passes_12 (by decide) (by unfold InR; omega) (fun c_12 => ?_) (fun c_12 => ?_)
    · refine P_aload_n (pc := 30) dX6_passes_30 rfl 1 rfl ?_
      refine P_iload_n (pc := 31) dX6_passes_31 rfl 2 rfl ?_
      refine P_aload_n (pc := 32) dX6_passes_32 rfl 0 rfl ?_
      refine P_getR (pc := 33) dX6_passes_33 fa_RX6_98 sM_0 fM0_39 ?_
      refine P_aload_n (pc := 36) dX6_passes_36 rfl 0 rfl ?_
      refine P_getI (jj := 42) (pc := 37) dX6_passes_37 fa_RX6_282 sM_0 fM0_42 rfl ?_
      try simp (disch := decide) only [sr_42, sr_0, sr_q, sr_ne, sr_putq, sr_put42]
      refine P_iald (pc := 40) dX6_passes_40 sM_30 (by omega) (by omega) (by decide) ?_
      try simp (disch := decide) only [sr_42, sr_0, sr_q, sr_ne, sr_putq, sr_put42]
      refine P_iast (pc := 41) dX6_passes_41 sM_22 (by omega) (by omega) (by decide) ?_
      try simp (disch := decide) only [sr_42, sr_0, sr_q, sr_ne, sr_putq, sr_put42]
      refine P_aload_n (pc := 42) dX6_passes_42 rfl 0 rfl ?_
      refine P_dup (pc := 43) dX6_passes_43 rfl ?_
      refine P_getI (jj := 42) (pc := 44) dX6_passes_44 fa_RX6_282 sM_0 fM0_42 rfl ?_
      try simp (disch := decide) only [sr_42, sr_0, sr_q, sr_ne, sr_putq, sr_put42]
      refine P_iconst (pc := 47) dX6_passes_47 ?_
      refine P_iadd (pc := 48) dX6_passes_48 ?_
      refine P_putI (jj := 42) (pc := 49) dX6_passes_49 fa_RX6_282 fp_6_42 sM_0 fM0_42 rfl ?_
      try simp (disch := decide) only [sr_42, sr_0, sr_q, sr_ne, sr_putq, sr_put42]
      refine P_iinc (L' := [(2, vi _), (0, vr 0), (1, vr 22)]) (pc := 52) dX6_passes_52 (by decide) 2 rfl rfl ?_
      refine P_goto (tgt := 2) (pc := 55) dX6_passes_55 (by decide) ?_
      refine P_sub (L' := [(0, vr 0), (1, vr 22), (2, vi _)]) [1, 2, 0] rfl ?_
      refine P_cast (L' := [(0, vr 0), (1, vr 22), (2, vi (j + 1))]) rfl ?_ (ih (j + 1) (by omega) (by omega))
      rw [rsF_s hj.1, Int.add_assoc]
    · exfalso; omega
set_option maxHeartbeats 1000000 in
set_option maxRecDepth 100000 in
theorem c_X6_passes22_0 {μ : Mem} (hk : μ.1 0 41 = 0) (hc : 0 ≤ μ.1 0 42 ∧ μ.1 0 42 + 12 ≤ 500) : PC shM 0 mX6_passes [vr 0, vr 22] (μ) (QV (fun μ' => μ' = back1 μ 22 12)) := by
  refine PC.of (by decide +kernel) (Nat.le_of_ble_eq_true rfl) ?_
  refine P_sub (L' := [(0, vr 0), (1, vr 22)]) [0, 1] rfl ?_
  refine P_iconst (pc := 0) dX6_passes_0 ?_
  refine P_istore_n (L' := [(2, vi _), (0, vr 0), (1, vr 22)]) (pc := 1) dX6_passes_1 rfl (by decide) rfl ?_
  refine P_sub (L' := [(0, vr 0), (1, vr 22), (2, vi _)]) [1, 2, 0] rfl ?_
  refine P_cast (L' := [(0, vr 0), (1, vr 22), (2, vi 0)]) rfl ?_ (l_X6_passes22_0 hk hc (12 + 1) 0 (by omega) (by omega))
  rw [rsF_0, Int.add_zero, sr_self]
set_option maxHeartbeats 1000000 in
set_option maxRecDepth 100000 in
theorem l_X6_passes25_1 {μ : Mem} (hk : μ.1 0 41 = 1) (hc : 0 ≤ μ.1 0 42 ∧ μ.1 0 42 + 5 ≤ 500) : ∀ (n : Nat) (j : Int), 0 ≤ j ∧ j ≤ 5 → (5 - j).toNat < n → PW shM 0 mX6_passes 2 [(0, vr 0), (1, vr 25), (2, vi j)] [] (setR μ 30 (kpF (μ.1 25) (μ.1 0 42) j (μ.1 30)) (μ.1 0 42 + j)) (QV (fun μ' => μ' = keep1 μ 25 5)) := by
  intro n
  induction n with
  | zero => intro j _ h; omega
  | succ n ih =>
  intro j hj hn
  refine P_iload_n (pc := 2) dX6_passes_2 rfl 2 rfl ?_
  refine P_aload_n (pc := 3) dX6_passes_3 rfl 1 rfl ?_
  refine P_alen (pc := 4) dX6_passes_4 sM_25 (by decide) ?_
  refine P_icmp_ge (tgt := 58) (pc := 5) dX6_passes_5 (by decide) (by unfold InR; omega) (by unfold InR; omega) (fun c_5 => ?_) (fun c_5 => ?_)
  · exact P_vret (pc := 58) dX6_passes_58 rfl (QV.mk (by have e9 : j = 5 := (by omega); subst e9; rfl))
  · refine P_aload_n (pc := 8) dX6_passes_8 rfl 0 rfl ?_
    refine P_getI (jj := 41) (pc := 9) dX6_passes_9 fa_RX6_279 sM_0 fM0_41 rfl ?_
    try simp (disch := decide) only [sr_42, sr_0, sr_q, sr_ne, sr_putq, sr_put42]
    refine P_if_eq (tgt := 30) (pc := 12) dX6_passes_12 (by decide) (by unfold InR; omega) (fun c_12 => ?_) (fun c_12 => ?_)
    · exfalso; omega
    · refine P_aload_n (pc := 15) dX6_passes_15 rfl 0 rfl ?_
      refine P_getR (pc := 16) dX6_passes_16 fa_RX6_98 sM_0 fM0_39 ?_
      refine P_aload_n (pc := 19) dX6_passes_19 rfl 0 rfl ?_
      refine P_getI (jj := 42) (pc := 20) dX6_passes_20 fa_RX6_282 sM_0 fM0_42 rfl ?_
      try simp (disch := decide) only [sr_42, sr_0, sr_q, sr_ne, sr_putq, sr_put42]
      refine P_aload_n (pc := 23) dX6_passes_23 rfl 1 rfl ?_
      refine P_iload_n (pc := 24) dX6_passes_24 rfl 2 rfl ?_
      refine P_iald (pc := 25) dX6_passes_25 sM_25 (by omega) (by omega) (by decide) ?_
      try simp (disch := decide) only [sr_42, sr_0, sr_q, sr_ne, sr_putq, sr_put42]
      refine P_iast (pc := 26) dX6_passes_26 sM_30 (by omega) (by omega) (by decide) ?_
      try simp (disch := decide) only [sr_42, sr_0, sr_q, sr_ne, sr_putq, sr_put42]
      refine P_goto (tgt := 42) (pc := 27) dX6_passes_27 (by decide) ?_
      refine P_aload_n (pc := 42) dX6_passes_42 rfl 0 rfl ?_
      refine P_dup (pc := 43) dX6_passes_43 rfl ?_
      refine P_getI (jj := 42) (pc := 44) dX6_passes_44 fa_RX6_282 sM_0 fM0_42 rfl ?_
      try simp (disch := decide) only [sr_42, sr_0, sr_q, sr_ne, sr_putq, sr_put42]
      refine P_iconst (pc := 47) dX6_passes_47 ?_
      refine P_iadd (pc := 48) dX6_passes_48 ?_
      refine P_putI (jj := 42) (pc := 49) dX6_passes_49 fa_RX6_282 fp_6_42 sM_0 fM0_42 rfl ?_
      try simp (disch := decide) only [sr_42, sr_0, sr_q, sr_ne, sr_putq, sr_put42]
      refine P_iinc (L' := [(2, vi _), (0, vr 0), (1, vr 25)]) (pc := 52) dX6_passes_52 (by decide) 2 rfl rfl ?_
      refine P_goto (tgt := 2) (pc := 55) dX6_passes_55 (by decide) ?_
      refine P_sub (L' := [(0, vr 0), (1, vr 25), (2, vi _)]) [1, 2, 0] rfl ?_
      refine P_cast (L' := [(0, vr 0), (1, vr 25), (2, vi (j + 1))]) rfl ?_ (ih (j + 1) (by omega) (by omega))
      rw [kpF_s hj.1, Int.add_assoc]
set_option maxHeartbeats 1000000 in
set_option maxRecDepth 100000 in
theorem c_X6_passes25_1 {μ : Mem} (hk : μ.1 0 41 = 1) (hc : 0 ≤ μ.1 0 42 ∧ μ.1 0 42 + 5 ≤ 500) : PC shM 0 mX6_passes [vr 0, vr 25] (μ) (QV (fun μ' => μ' = keep1 μ 25 5)) := by
  refine PC.of (by decide +kernel) (Nat.le_of_ble_eq_true rfl) ?_
  refine P_sub (L' := [(0, vr 0), (1, vr 25)]) [0, 1] rfl ?_
  refine P_iconst (pc := 0) dX6_passes_0 ?_
  refine P_istore_n (L' := [(2, vi _), (0, vr 0), (1, vr 25)]) (pc := 1) dX6_passes_1 rfl (by decide) rfl ?_
  refine P_sub (L' := [(0, vr 0), (1, vr 25), (2, vi _)]) [1, 2, 0] rfl ?_
  refine P_cast (L' := [(0, vr 0), (1, vr 25), (2, vi 0)]) rfl ?_ (l_X6_passes25_1 hk hc (5 + 1) 0 (by omega) (by omega))
  rw [kpF_0, Int.add_zero, sr_self]
set_option maxHeartbeats 1000000 in
set_option maxRecDepth 100000 in
theorem l_X6_passes25_0 {μ : Mem} (hk : μ.1 0 41 = 0) (hc : 0 ≤ μ.1 0 42 ∧ μ.1 0 42 + 5 ≤ 500) : ∀ (n : Nat) (j : Int), 0 ≤ j ∧ j ≤ 5 → (5 - j).toNat < n → PW shM 0 mX6_passes 2 [(0, vr 0), (1, vr 25), (2, vi j)] [] (setR μ 25 (rsF (μ.1 30) (μ.1 0 42) j (μ.1 25)) (μ.1 0 42 + j)) (QV (fun μ' => μ' = back1 μ 25 5)) := by
  intro n
  induction n with
  | zero => intro j _ h; omega
  | succ n ih =>
  intro j hj hn
  refine P_iload_n (pc := 2) dX6_passes_2 rfl 2 rfl ?_
  refine P_aload_n (pc := 3) dX6_passes_3 rfl 1 rfl ?_
  refine P_alen (pc := 4) dX6_passes_4 sM_25 (by decide) ?_
  refine P_icmp_ge (tgt := 58) (pc := 5) dX6_passes_5 (by decide) (by unfold InR; omega) (by unfold InR; omega) (fun c_5 => ?_) (fun c_5 => ?_)
  · exact P_vret (pc := 58) dX6_passes_58 rfl (QV.mk (by have e9 : j = 5 := (by omega); subst e9; rfl))
  · refine P_aload_n (pc := 8) dX6_passes_8 rfl 0 rfl ?_
    refine P_getI (jj := 41) (pc := 9) dX6_passes_9 fa_RX6_279 sM_0 fM0_41 rfl ?_
    try simp (disch := decide) only [sr_42, sr_0, sr_q, sr_ne, sr_putq, sr_put42]
    refine P_if_eq (tgt := 30) (pc := 12) dX6_passes_12 (by decide) (by unfold InR; omega) (fun c_12 => ?_) (fun c_12 => ?_)
    · refine P_aload_n (pc := 30) dX6_passes_30 rfl 1 rfl ?_
      refine P_iload_n (pc := 31) dX6_passes_31 rfl 2 rfl ?_
      refine P_aload_n (pc := 32) dX6_passes_32 rfl 0 rfl ?_
      refine P_getR (pc := 33) dX6_passes_33 fa_RX6_98 sM_0 fM0_39 ?_
      refine P_aload_n (pc := 36) dX6_passes_36 rfl 0 rfl ?_
      refine P_getI (jj := 42) (pc := 37) dX6_passes_37 fa_RX6_282 sM_0 fM0_42 rfl ?_
      try simp (disch := decide) only [sr_42, sr_0, sr_q, sr_ne, sr_putq, sr_put42]
      refine P_iald (pc := 40) dX6_passes_40 sM_30 (by omega) (by omega) (by decide) ?_
      try simp (disch := decide) only [sr_42, sr_0, sr_q, sr_ne, sr_putq, sr_put42]
      refine P_iast (pc := 41) dX6_passes_41 sM_25 (by omega) (by omega) (by decide) ?_
      try simp (disch := decide) only [sr_42, sr_0, sr_q, sr_ne, sr_putq, sr_put42]
      refine P_aload_n (pc := 42) dX6_passes_42 rfl 0 rfl ?_
      refine P_dup (pc := 43) dX6_passes_43 rfl ?_
      refine P_getI (jj := 42) (pc := 44) dX6_passes_44 fa_RX6_282 sM_0 fM0_42 rfl ?_
      try simp (disch := decide) only [sr_42, sr_0, sr_q, sr_ne, sr_putq, sr_put42]
      refine P_iconst (pc := 47) dX6_passes_47 ?_
      refine P_iadd (pc := 48) dX6_passes_48 ?_
      refine P_putI (jj := 42) (pc := 49) dX6_passes_49 fa_RX6_282 fp_6_42 sM_0 fM0_42 rfl ?_
      try simp (disch := decide) only [sr_42, sr_0, sr_q, sr_ne, sr_putq, sr_put42]
      refine P_iinc (L' := [(2, vi _), (0, vr 0), (1, vr 25)]) (pc := 52) dX6_passes_52 (by decide) 2 rfl rfl ?_
      refine P_goto (tgt := 2) (pc := 55) dX6_passes_55 (by decide) ?_
      refine P_sub (L' := [(0, vr 0), (1, vr 25), (2, vi _)]) [1, 2, 0] rfl ?_
      refine P_cast (L' := [(0, vr 0), (1, vr 25), (2, vi (j + 1))]) rfl ?_ (ih (j + 1) (by omega) (by omega))
      rw [rsF_s hj.1, Int.add_assoc]
    · exfalso; omega
set_option maxHeartbeats 1000000 in
set_option maxRecDepth 100000 in
theorem c_X6_passes25_0 {μ : Mem} (hk : μ.1 0 41 = 0) (hc : 0 ≤ μ.1 0 42 ∧ μ.1 0 42 + 5 ≤ 500) : PC shM 0 mX6_passes [vr 0, vr 25] (μ) (QV (fun μ' => μ' = back1 μ 25 5)) := by
  refine PC.of (by decide +kernel) (Nat.le_of_ble_eq_true rfl) ?_
  refine P_sub (L' := [(0, vr 0), (1, vr 25)]) [0, 1] rfl ?_
  refine P_iconst (pc := 0) dX6_passes_0 ?_
  refine P_istore_n (L' := [(2, vi _), (0, vr 0), (1, vr 25)]) (pc := 1) dX6_passes_1 rfl (by decide) rfl ?_
  refine P_sub (L' := [(0, vr 0), (1, vr 25), (2, vi _)]) [1, 2, 0] rfl ?_
  refine P_cast (L' := [(0, vr 0), (1, vr 25), (2, vi 0)]) rfl ?_ (l_X6_passes25_0 hk hc (5 + 1) 0 (by omega) (by omega))
  rw [rsF_0, Int.add_zero, sr_self]
set_option maxHeartbeats 1000000 in
set_option maxRecDepth 100000 in
theorem l_X6_passes26_1 {μ : Mem} (hk : μ.1 0 41 = 1) (hc : 0 ≤ μ.1 0 42 ∧ μ.1 0 42 + 5 ≤ 500) : ∀ (n : Nat) (j : Int), 0 ≤ j ∧ j ≤ 5 → (5 - j).toNat < n → PW shM 0 mX6_passes 2 [(0, vr 0), (1, vr 26), (2, vi j)] [] (setR μ 30 (kpF (μ.1 26) (μ.1 0 42) j (μ.1 30)) (μ.1 0 42 + j)) (QV (fun μ' => μ' = keep1 μ 26 5)) := by
  intro n
  induction n with
  | zero => intro j _ h; omega
  | succ n ih =>
  intro j hj hn
  refine P_iload_n (pc := 2) dX6_passes_2 rfl 2 rfl ?_
  refine P_aload_n (pc := 3) dX6_passes_3 rfl 1 rfl ?_
  refine P_alen (pc := 4) dX6_passes_4 sM_26 (by decide) ?_
  refine P_icmp_ge (tgt := 58) (pc := 5) dX6_passes_5 (by decide) (by unfold InR; omega) (by unfold InR; omega) (fun c_5 => ?_) (fun c_5 => ?_)
  · exact P_vret (pc := 58) dX6_passes_58 rfl (QV.mk (by have e9 : j = 5 := (by omega); subst e9; rfl))
  · refine P_aload_n (pc := 8) dX6_passes_8 rfl 0 rfl ?_
    refine P_getI (jj := 41) (pc := 9) dX6_passes_9 fa_RX6_279 sM_0 fM0_41 rfl ?_
    try simp (disch := decide) only [sr_42, sr_0, sr_q, sr_ne, sr_putq, sr_put42]
    refine P_if_eq (tgt := 30) (pc := 12) dX6_passes_12 (by decide) (by unfold InR; omega) (fun c_12 => ?_) (fun c_12 => ?_)
    · exfalso; omega
    · refine P_aload_n (pc := 15) dX6_passes_15 rfl 0 rfl ?_
      refine P_getR (pc := 16) dX6_passes_16 fa_RX6_98 sM_0 fM0_39 ?_
      refine P_aload_n (pc := 19) dX6_passes_19 rfl 0 rfl ?_
      refine P_getI (jj := 42) (pc := 20) dX6_passes_20 fa_RX6_282 sM_0 fM0_42 rfl ?_
      try simp (disch := decide) only [sr_42, sr_0, sr_q, sr_ne, sr_putq, sr_put42]
      refine P_aload_n (pc := 23) dX6_passes_23 rfl 1 rfl ?_
      refine P_iload_n (pc := 24) dX6_passes_24 rfl 2 rfl ?_
      refine P_iald (pc := 25) dX6_passes_25 sM_26 (by omega) (by omega) (by decide) ?_
      try simp (disch := decide) only [sr_42, sr_0, sr_q, sr_ne, sr_putq, sr_put42]
      refine P_iast (pc := 26) dX6_passes_26 sM_30 (by omega) (by omega) (by decide) ?_
      try simp (disch := decide) only [sr_42, sr_0, sr_q, sr_ne, sr_putq, sr_put42]
      refine P_goto (tgt := 42) (pc := 27) dX6_passes_27 (by decide) ?_
      refine P_aload_n (pc := 42) dX6_passes_42 rfl 0 rfl ?_
      refine P_dup (pc := 43) dX6_passes_43 rfl ?_
      refine P_getI (jj := 42) (pc := 44) dX6_passes_44 fa_RX6_282 sM_0 fM0_42 rfl ?_
      try simp (disch := decide) only [sr_42, sr_0, sr_q, sr_ne, sr_putq, sr_put42]
      refine P_iconst (pc := 47) dX6_passes_47 ?_
      refine P_iadd (pc := 48) dX6_passes_48 ?_
      refine P_putI (jj := 42) (pc := 49) dX6_passes_49 fa_RX6_282 fp_6_42 sM_0 fM0_42 rfl ?_
      try simp (disch := decide) only [sr_42, sr_0, sr_q, sr_ne, sr_putq, sr_put42]
      refine P_iinc (L' := [(2, vi _), (0, vr 0), (1, vr 26)]) (pc := 52) dX6_passes_52 (by decide) 2 rfl rfl ?_
      refine P_goto (tgt := 2) (pc := 55) dX6_passes_55 (by decide) ?_
      refine P_sub (L' := [(0, vr 0), (1, vr 26), (2, vi _)]) [1, 2, 0] rfl ?_
      refine P_cast (L' := [(0, vr 0), (1, vr 26), (2, vi (j + 1))]) rfl ?_ (ih (j + 1) (by omega) (by omega))
      rw [kpF_s hj.1, Int.add_assoc]
set_option maxHeartbeats 1000000 in
set_option maxRecDepth 100000 in
theorem c_X6_passes26_1 {μ : Mem} (hk : μ.1 0 41 = 1) (hc : 0 ≤ μ.1 0 42 ∧ μ.1 0 42 + 5 ≤ 500) : PC shM 0 mX6_passes [vr 0, vr 26] (μ) (QV (fun μ' => μ' = keep1 μ 26 5)) := by
  refine PC.of (by decide +kernel) (Nat.le_of_ble_eq_true rfl) ?_
  refine P_sub (L' := [(0, vr 0), (1, vr 26)]) [0, 1] rfl ?_
  refine P_iconst (pc := 0) dX6_passes_0 ?_
  refine P_istore_n (L' := [(2, vi _), (0, vr 0), (1, vr 26)]) (pc := 1) dX6_passes_1 rfl (by decide) rfl ?_
  refine P_sub (L' := [(0, vr 0), (1, vr 26), (2, vi _)]) [1, 2, 0] rfl ?_
  refine P_cast (L' := [(0, vr 0), (1, vr 26), (2, vi 0)]) rfl ?_ (l_X6_passes26_1 hk hc (5 + 1) 0 (by omega) (by omega))
  rw [kpF_0, Int.add_zero, sr_self]
set_option maxHeartbeats 1000000 in
set_option maxRecDepth 100000 in
theorem l_X6_passes26_0 {μ : Mem} (hk : μ.1 0 41 = 0) (hc : 0 ≤ μ.1 0 42 ∧ μ.1 0 42 + 5 ≤ 500) : ∀ (n : Nat) (j : Int), 0 ≤ j ∧ j ≤ 5 → (5 - j).toNat < n → PW shM 0 mX6_passes 2 [(0, vr 0), (1, vr 26), (2, vi j)] [] (setR μ 26 (rsF (μ.1 30) (μ.1 0 42) j (μ.1 26)) (μ.1 0 42 + j)) (QV (fun μ' => μ' = back1 μ 26 5)) := by
  intro n
  induction n with
  | zero => intro j _ h; omega
  | succ n ih =>
  intro j hj hn
  refine P_iload_n (pc := 2) dX6_passes_2 rfl 2 rfl ?_
  refine P_aload_n (pc := 3) dX6_passes_3 rfl 1 rfl ?_
  refine P_alen (pc := 4) dX6_passes_4 sM_26 (by decide) ?_
  refine P_icmp_ge (tgt := 58) (pc := 5) dX6_passes_5 (by decide) (by unfold InR; omega) (by unfold InR; omega) (fun c_5 => ?_) (fun c_5 => ?_)
  · exact P_vret (pc := 58) dX6_passes_58 rfl (QV.mk (by have e9 : j = 5 := (by omega); subst e9; rfl))
  · refine P_aload_n (pc := 8) dX6_passes_8 rfl 0 rfl ?_
    refine P_getI (jj := 41) (pc := 9) dX6_passes_9 fa_RX6_279 sM_0 fM0_41 rfl ?_
    try simp (disch := decide) only [sr_42, sr_0, sr_q, sr_ne, sr_putq, sr_put42]
    refine P_if_eq (tgt := 30) (pc := 12) dX6_passes_12 (by decide) (by unfold InR; omega) (fun c_12 => ?_) (fun c_12 => ?_)
    · refine P_aload_n (pc := 30) dX6_passes_30 rfl 1 rfl ?_
      refine P_iload_n (pc := 31) dX6_passes_31 rfl 2 rfl ?_
      refine P_aload_n (pc := 32) dX6_passes_32 rfl 0 rfl ?_
      refine P_getR (pc := 33) dX6_passes_33 fa_RX6_98 sM_0 fM0_39 ?_
      refine P_aload_n (pc := 36) dX6_passes_36 rfl 0 rfl ?_
      refine P_getI (jj := 42) (pc := 37) dX6_passes_37 fa_RX6_282 sM_0 fM0_42 rfl ?_
      try simp (disch := decide) only [sr_42, sr_0, sr_q, sr_ne, sr_putq, sr_put42]
      refine P_iald (pc := 40) dX6_passes_40 sM_30 (by omega) (by omega) (by decide) ?_
      try simp (disch := decide) only [sr_42, sr_0, sr_q, sr_ne, sr_putq, sr_put42]
      refine P_iast (pc := 41) dX6_passes_41 sM_26 (by omega) (by omega) (by decide) ?_
      try simp (disch := decide) only [sr_42, sr_0, sr_q, sr_ne, sr_putq, sr_put42]
      refine P_aload_n (pc := 42) dX6_passes_42 rfl 0 rfl ?_
      refine P_dup (pc := 43) dX6_passes_43 rfl ?_
      refine P_getI (jj := 42) (pc := 44) dX6_passes_44 fa_RX6_282 sM_0 fM0_42 rfl ?_
      try simp (disch := decide) only [sr_42, sr_0, sr_q, sr_ne, sr_putq, sr_put42]
      refine P_iconst (pc := 47) dX6_passes_47 ?_
      refine P_iadd (pc := 48) dX6_passes_48 ?_
      refine P_putI (jj := 42) (pc := 49) dX6_passes_49 fa_RX6_282 fp_6_42 sM_0 fM0_42 rfl ?_
      try simp (disch := decide) only [sr_42, sr_0, sr_q, sr_ne, sr_putq, sr_put42]
      refine P_iinc (L' := [(2, vi _), (0, vr 0), (1, vr 26)]) (pc := 52) dX6_passes_52 (by decide) 2 rfl rfl ?_
      refine P_goto (tgt := 2) (pc := 55) dX6_passes_55 (by decide) ?_
      refine P_sub (L' := [(0, vr 0), (1, vr 26), (2, vi _)]) [1, 2, 0] rfl ?_
      refine P_cast (L' := [(0, vr 0), (1, vr 26), (2, vi (j + 1))]) rfl ?_ (ih (j + 1) (by omega) (by omega))
      rw [rsF_s hj.1, Int.add_assoc]
    · exfalso; omega
set_option maxHeartbeats 1000000 in
set_option maxRecDepth 100000 in
theorem c_X6_passes26_0 {μ : Mem} (hk : μ.1 0 41 = 0) (hc : 0 ≤ μ.1 0 42 ∧ μ.1 0 42 + 5 ≤ 500) : PC shM 0 mX6_passes [vr 0, vr 26] (μ) (QV (fun μ' => μ' = back1 μ 26 5)) := by
  refine PC.of (by decide +kernel) (Nat.le_of_ble_eq_true rfl) ?_
  refine P_sub (L' := [(0, vr 0), (1, vr 26)]) [0, 1] rfl ?_
  refine P_iconst (pc := 0) dX6_passes_0 ?_
  refine P_istore_n (L' := [(2, vi _), (0, vr 0), (1, vr 26)]) (pc := 1) dX6_passes_1 rfl (by decide) rfl ?_
  refine P_sub (L' := [(0, vr 0), (1, vr 26), (2, vi _)]) [1, 2, 0] rfl ?_
  refine P_cast (L' := [(0, vr 0), (1, vr 26), (2, vi 0)]) rfl ?_ (l_X6_passes26_0 hk hc (5 + 1) 0 (by omega) (by omega))
  rw [rsF_0, Int.add_zero, sr_self]
set_option maxHeartbeats 1000000 in
set_option maxRecDepth 100000 in
theorem l_X6_passes27_1 {μ : Mem} (hk : μ.1 0 41 = 1) (hc : 0 ≤ μ.1 0 42 ∧ μ.1 0 42 + 5 ≤ 500) : ∀ (n : Nat) (j : Int), 0 ≤ j ∧ j ≤ 5 → (5 - j).toNat < n → PW shM 0 mX6_passes 2 [(0, vr 0), (1, vr 27), (2, vi j)] [] (setR μ 30 (kpF (μ.1 27) (μ.1 0 42) j (μ.1 30)) (μ.1 0 42 + j)) (QV (fun μ' => μ' = keep1 μ 27 5)) := by
  intro n
  induction n with
  | zero => intro j _ h; omega
  | succ n ih =>
  intro j hj hn
  refine P_iload_n (pc := 2) dX6_passes_2 rfl 2 rfl ?_
  refine P_aload_n (pc := 3) dX6_passes_3 rfl 1 rfl ?_
  refine P_alen (pc := 4) dX6_passes_4 sM_27 (by decide) ?_
  refine P_icmp_ge (tgt := 58) (pc := 5) dX6_passes_5 (by decide) (by unfold InR; omega) (by unfold InR; omega) (fun c_5 => ?_) (fun c_5 => ?_)
  · exact P_vret (pc := 58) dX6_passes_58 rfl (QV.mk (by have e9 : j = 5 := (by omega); subst e9; rfl))
  · refine P_aload_n (pc := 8) dX6_passes_8 rfl 0 rfl ?_
    refine P_getI (jj := 41) (pc := 9) dX6_passes_9 fa_RX6_279 sM_0 fM0_41 rfl ?_
    try simp (disch := decide) only [sr_42, sr_0, sr_q, sr_ne, sr_putq, sr_put42]
    refine P_if_eq (tgt := 30) (pc := 12) dX6_passes_12 (by decide) (by unfold InR; omega) (fun c_12 => ?_) (fun c_12 => ?_)
    · exfalso; omega
    · refine P_aload_n (pc := 15) dX6_passes_15 rfl 0 rfl ?_
      refine P_getR (pc := 16) dX6_passes_16 fa_RX6_98 sM_0 fM0_39 ?_
      refine P_aload_n (pc := 19) dX6_passes_19 rfl 0 rfl ?_
      refine P_getI (jj := 42) (pc := 20) dX6_passes_20 fa_RX6_282 sM_0 fM0_42 rfl ?_
      try simp (disch := decide) only [sr_42, sr_0, sr_q, sr_ne, sr_putq, sr_put42]
      refine P_aload_n (pc := 23) dX6_passes_23 rfl 1 rfl ?_
      refine P_iload_n (pc := 24) dX6_passes_24 rfl 2 rfl ?_
      refine P_iald (pc := 25) dX6_passes_25 sM_27 (by omega) (by omega) (by decide) ?_
      try simp (disch := decide) only [sr_42, sr_0, sr_q, sr_ne, sr_putq, sr_put42]
      refine P_iast (pc := 26) dX6_passes_26 sM_30 (by omega) (by omega) (by decide) ?_
      try simp (disch := decide) only [sr_42, sr_0, sr_q, sr_ne, sr_putq, sr_put42]
      refine P_goto (tgt := 42) (pc := 27) dX6_passes_27 (by decide) ?_
      refine P_aload_n (pc := 42) dX6_passes_42 rfl 0 rfl ?_
      refine P_dup (pc := 43) dX6_passes_43 rfl ?_
      refine P_getI (jj := 42) (pc := 44) dX6_passes_44 fa_RX6_282 sM_0 fM0_42 rfl ?_
      try simp (disch := decide) only [sr_42, sr_0, sr_q, sr_ne, sr_putq, sr_put42]
      refine P_iconst (pc := 47) dX6_passes_47 ?_
      refine P_iadd (pc := 48) dX6_passes_48 ?_
      refine P_putI (jj := 42) (pc := 49) dX6_passes_49 fa_RX6_282 fp_6_42 sM_0 fM0_42 rfl ?_
      try simp (disch := decide) only [sr_42, sr_0, sr_q, sr_ne, sr_putq, sr_put42]
      refine P_iinc (L' := [(2, vi _), (0, vr 0), (1, vr 27)]) (pc := 52) dX6_passes_52 (by decide) 2 rfl rfl ?_
      refine P_goto (tgt := 2) (pc := 55) dX6_passes_55 (by decide) ?_
      refine P_sub (L' := [(0, vr 0), (1, vr 27), (2, vi _)]) [1, 2, 0] rfl ?_
      refine P_cast (L' := [(0, vr 0), (1, vr 27), (2, vi (j + 1))]) rfl ?_ (ih (j + 1) (by omega) (by omega))
      rw [kpF_s hj.1, Int.add_assoc]
set_option maxHeartbeats 1000000 in
set_option maxRecDepth 100000 in
theorem c_X6_passes27_1 {μ : Mem} (hk : μ.1 0 41 = 1) (hc : 0 ≤ μ.1 0 42 ∧ μ.1 0 42 + 5 ≤ 500) : PC shM 0 mX6_passes [vr 0, vr 27] (μ) (QV (fun μ' => μ' = keep1 μ 27 5)) := by
  refine PC.of (by decide +kernel) (Nat.le_of_ble_eq_true rfl) ?_
  refine P_sub (L' := [(0, vr 0), (1, vr 27)]) [0, 1] rfl ?_
  refine P_iconst (pc := 0) dX6_passes_0 ?_
  refine P_istore_n (L' := [(2, vi _), (0, vr 0), (1, vr 27)]) (pc := 1) dX6_passes_1 rfl (by decide) rfl ?_
  refine P_sub (L' := [(0, vr 0), (1, vr 27), (2, vi _)]) [1, 2, 0] rfl ?_
  refine P_cast (L' := [(0, vr 0), (1, vr 27), (2, vi 0)]) rfl ?_ (l_X6_passes27_1 hk hc (5 + 1) 0 (by omega) (by omega))
  rw [kpF_0, Int.add_zero, sr_self]
set_option maxHeartbeats 1000000 in
set_option maxRecDepth 100000 in
theorem l_X6_passes27_0 {μ : Mem} (hk : μ.1 0 41 = 0) (hc : 0 ≤ μ.1 0 42 ∧ μ.1 0 42 + 5 ≤ 500) : ∀ (n : Nat) (j : Int), 0 ≤ j ∧ j ≤ 5 → (5 - j).toNat < n → PW shM 0 mX6_passes 2 [(0, vr 0), (1, vr 27), (2, vi j)] [] (setR μ 27 (rsF (μ.1 30) (μ.1 0 42) j (μ.1 27)) (μ.1 0 42 + j)) (QV (fun μ' => μ' = back1 μ 27 5)) := by
  intro n
  induction n with
  | zero => intro j _ h; omega
  | succ n ih =>
  intro j hj hn
  refine P_iload_n (pc := 2) dX6_passes_2 rfl 2 rfl ?_
  refine P_aload_n (pc := 3) dX6_passes_3 rfl 1 rfl ?_
  refine P_alen (pc := 4) dX6_passes_4 sM_27 (by decide) ?_
  refine P_icmp_ge (tgt := 58) (pc := 5) dX6_passes_5 (by decide) (by unfold InR; omega) (by unfold InR; omega) (fun c_5 => ?_) (fun c_5 => ?_)
  · exact P_vret (pc := 58) dX6_passes_58 rfl (QV.mk (by have e9 : j = 5 := (by omega); subst e9; rfl))
  · refine P_aload_n (pc := 8) dX6_passes_8 rfl 0 rfl ?_
    refine P_getI (jj := 41) (pc := 9) dX6_passes_9 fa_RX6_279 sM_0 fM0_41 rfl ?_
    try simp (disch := decide) only [sr_42, sr_0, sr_q, sr_ne, sr_putq, sr_put42]
    refine P_if_eq (tgt := 30) (pc := 12) dX6_passes_12 (by decide) (by unfold InR; omega) (fun c_12 => ?_) (fun c_12 => ?_)
    · refine P_aload_n (pc := 30) dX6_passes_30 rfl 1 rfl ?_
      refine P_iload_n (pc := 31) dX6_passes_31 rfl 2 rfl ?_
      refine P_aload_n (pc := 32) dX6_passes_32 rfl 0 rfl ?_
      refine P_getR (pc := 33) dX6_passes_33 fa_RX6_98 sM_0 fM0_39 ?_
      refine P_aload_n (pc := 36) dX6_passes_36 rfl 0 rfl ?_
      refine P_getI (jj := 42) (pc := 37) dX6_passes_37 fa_RX6_282 sM_0 fM0_42 rfl ?_
      try simp (disch := decide) only [sr_42, sr_0, sr_q, sr_ne, sr_putq, sr_put42]
      refine P_iald (pc := 40) dX6_passes_40 sM_30 (by omega) (by omega) (by decide) ?_
      try simp (disch := decide) only [sr_42, sr_0, sr_q, sr_ne, sr_putq, sr_put42]
      refine P_iast (pc := 41) dX6_passes_41 sM_27 (by omega) (by omega) (by decide) ?_
      try simp (disch := decide) only [sr_42, sr_0, sr_q, sr_ne, sr_putq, sr_put42]
      refine P_aload_n (pc := 42) dX6_passes_42 rfl 0 rfl ?_
      refine P_dup (pc := 43) dX6_passes_43 rfl ?_
      refine P_getI (jj := 42) (pc := 44) dX6_passes_44 fa_RX6_282 sM_0 fM0_42 rfl ?_
      try simp (disch := decide) only [sr_42, sr_0, sr_q, sr_ne, sr_putq, sr_put42]
      refine P_iconst (pc := 47) dX6_passes_47 ?_
      refine P_iadd (pc := 48) dX6_passes_48 ?_
      refine P_putI (jj := 42) (pc := 49) dX6_passes_49 fa_RX6_282 fp_6_42 sM_0 fM0_42 rfl ?_
      try simp (disch := decide) only [sr_42, sr_0, sr_q, sr_ne, sr_putq, sr_put42]
      refine P_iinc (L' := [(2, vi _), (0, vr 0), (1, vr 27)]) (pc := 52) dX6_passes_52 (by decide) 2 rfl rfl ?_
      refine P_goto (tgt := 2) (pc := 55) dX6_passes_55 (by decide) ?_
      refine P_sub (L' := [(0, vr 0), (1, vr 27), (2, vi _)]) [1, 2, 0] rfl ?_
      refine P_cast (L' := [(0, vr 0), (1, vr 27), (2, vi (j + 1))]) rfl ?_ (ih (j + 1) (by omega) (by omega))
      rw [rsF_s hj.1, Int.add_assoc]
    · exfalso; omega
set_option maxHeartbeats 1000000 in
set_option maxRecDepth 100000 in
theorem c_X6_passes27_0 {μ : Mem} (hk : μ.1 0 41 = 0) (hc : 0 ≤ μ.1 0 42 ∧ μ.1 0 42 + 5 ≤ 500) : PC shM 0 mX6_passes [vr 0, vr 27] (μ) (QV (fun μ' => μ' = back1 μ 27 5)) := by
  refine PC.of (by decide +kernel) (Nat.le_of_ble_eq_true rfl) ?_
  refine P_sub (L' := [(0, vr 0), (1, vr 27)]) [0, 1] rfl ?_
  refine P_iconst (pc := 0) dX6_passes_0 ?_
  refine P_istore_n (L' := [(2, vi _), (0, vr 0), (1, vr 27)]) (pc := 1) dX6_passes_1 rfl (by decide) rfl ?_
  refine P_sub (L' := [(0, vr 0), (1, vr 27), (2, vi _)]) [1, 2, 0] rfl ?_
  refine P_cast (L' := [(0, vr 0), (1, vr 27), (2, vi 0)]) rfl ?_ (l_X6_passes27_0 hk hc (5 + 1) 0 (by omega) (by omega))
  rw [rsF_0, Int.add_zero, sr_self]
