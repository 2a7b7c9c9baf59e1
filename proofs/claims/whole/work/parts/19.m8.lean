theorem wI_rem {x y : Int} (hx : 0 ≤ x) (hx2 : x < 2147483648) (hy : 0 < y) (hy2 : y < 2147483648) : Int32.ofInt x - Int32.ofInt x / Int32.ofInt y * Int32.ofInt y = Int32.ofInt (x % y) := by
  obtain ⟨a, rfl⟩ := Int.eq_ofNat_of_zero_le hx
  obtain ⟨b, rfl⟩ := Int.eq_ofNat_of_zero_le (Int.le_of_lt hy)
  exact pk_rem (a := a) (d := b) (by omega) (by omega) (by omega)
theorem wI_andn6 : ∀ w, w < 64 → ∀ s, s < 64 → Int32.ofInt (w : Nat) &&& Int32.ofInt (-(s : Nat) - 1) = Int32.ofInt ((w - (w &&& s) : Nat) : Int) := by decide +kernel
theorem wI_andn {w s : Int} (hw : 0 ≤ w ∧ w < 64) (hs : 0 ≤ s ∧ s < 64) : Int32.ofInt w &&& Int32.ofInt (-s - 1) = Int32.ofInt ((w.toNat - (w.toNat &&& s.toNat) : Nat) : Int) := by
  obtain ⟨a, rfl⟩ := Int.eq_ofNat_of_zero_le hw.1
  obtain ⟨b, rfl⟩ := Int.eq_ofNat_of_zero_le hs.1
  exact wI_andn6 a (by omega) b (by omega)
/-- the model's own cells that no promise reads between calls -/
def scr (q : Nat) (j : Int) : Prop := (13 ≤ q ∧ q ≤ 19) ∨ q = 23 ∨ q = 24 ∨ (q = 0 ∧ (j = 16 ∨ j = 24 ∨ j = 25 ∨ j = 31))
def PM (μ ν : Mem) : Prop := ν.2 = μ.2 ∧ ∀ (q : Nat) (j : Int), ¬ scr q j → ν.1 q j = μ.1 q j
theorem PM.rf {μ : Mem} : PM μ μ := ⟨rfl, fun _ _ _ => rfl⟩
theorem PM.tr {μ ν ρ : Mem} (h : PM μ ν) (h2 : PM ν ρ) : PM μ ρ := ⟨h2.1.trans h.1, fun q j hq => (h2.2 q j hq).trans (h.2 q j hq)⟩
theorem PM.cell {μ ν : Mem} (h : PM μ ν) (q : Nat) (hq : q ≠ 0 ∧ (q < 13 ∨ 19 < q) ∧ q ≠ 23 ∧ q ≠ 24 ∧ q ≠ 28 ∧ q ≠ 29) : ν.1 q = μ.1 q := by
  funext j
  exact h.2 q j (by unfold scr; omega)
theorem PM.num {μ ν : Mem} (h : PM μ ν) (j : Int) (hj : j ≠ 16 ∧ j ≠ 24 ∧ j ≠ 25 ∧ j ≠ 31) : ν.1 0 j = μ.1 0 j := h.2 0 j (by unfold scr; omega)
theorem PM_setW {μ ν : Mem} {S : Int → Int} {X : Cel} (h : PM μ ν) : PM μ (setW ν S X) := by
  refine h.tr ⟨rfl, fun q j hq => ?_⟩
  unfold setW
  unfold scr at hq
  by_cases h0 : q = 0
  · subst h0
    simp only [if_true]
    rw [if_neg (by omega), if_neg (by omega)]
  · simp only [if_neg h0]
    rw [if_neg (by omega), if_neg (by omega)]
theorem PM.put {μ ν : Mem} {q : Nat} {i v : Int} (h : PM μ ν) (hq : scr q i) : PM μ (putI ν q i v) := by
  refine h.tr ⟨rfl, fun q' j hq' => ?_⟩
  unfold putI
  by_cases h0 : q' = q
  · subst h0
    have hj : ¬ j = i := by
      intro e
      subst e
      exact hq' hq
    simp [hj]
  · simp [h0]
theorem PM_kd {μ ν : Mem} (h : PM μ ν) : kd ν.1 = kd μ.1 := by
  funext q
  unfold kd
  by_cases h0 : q = 0
  · subst h0
    simp only [if_true, h.num 11 (by decide), h.num 12 (by decide)]
  · by_cases h2 : 2 ≤ q ∧ q ≤ 11
    · simp only [if_neg h0, if_pos h2, h.cell q (by omega)]
    · simp only [if_neg h0, if_neg h2]
def cnt (p : Nat → Bool) : Nat → Nat
  | 0 => 0
  | n + 1 => cnt p n + (if p n = true then 1 else 0)
def allF (p : Nat → Bool) : Nat → Bool
  | 0 => true
  | n + 1 => allF p n && p n
theorem allF_iff {p : Nat → Bool} : ∀ {n : Nat}, allF p n = true ↔ ∀ i, i < n → p i = true
  | 0 => ⟨fun _ i h => absurd h (Nat.not_lt_zero i), fun _ => rfl⟩
  | n + 1 => by
    simp only [allF, Bool.and_eq_true, allF_iff (n := n)]
    constructor
    · rintro ⟨h1, h2⟩ i hi
      rcases Nat.lt_or_ge i n with h | h
      · exact h1 i h
      · have : i = n := by omega
        subst this; exact h2
    · intro h
      exact ⟨fun i hi => h i (by omega), h n (by omega)⟩
def simX (K : Cel) (w till o : Int) : Cel := runsX K (srcX K) w till o
def factB (K F : Cel) (o w : Int) (f : Nat) : Bool := decide (simX K w (F 21 (f : Int)) o 13 (F 20 (f : Int)) = 0) == decide (F 22 (f : Int) = 1)
def agB (K F : Cel) (o w : Int) : Bool := allF (factB K F o w) (F 0 30).toNat
/-- the unknowns that events name, as bits -/
def nmN (K : Cel) : Nat → Nat
  | 0 => 0
  | n + 1 => nmN K n ||| (if K 11 (n : Int) < 0 then 0 else 2 ^ (K 11 (n : Int) % 10).toNat)
def nmK (K : Cel) : Nat := nmN K (K 0 12).toNat
def leftB (K F : Cel) (o : Int) (w : Nat) : Bool := decide (w &&& nmK K = w) && agB K F o (w : Int)
/-- what is asked of the facts -/
def FOK (F : Cel) : Prop := (0 ≤ F 0 30 ∧ F 0 30 ≤ 12) ∧ (∀ j, 0 ≤ F 21 j ∧ F 21 j ≤ 47) ∧ (∀ j, F 22 j = 0 ∨ F 22 j = 1) ∧ (∀ f, 0 ≤ f → f < F 0 30 → 0 ≤ F 20 f ∧ F 20 f < F 0 11)
theorem nmN_lt {K : Cel} (hK : ∀ j, -1 ≤ K 11 j ∧ K 11 j ≤ 15) (h6 : ∀ e, 0 ≤ e → e < K 0 12 → K 11 e < 6 ∨ 10 ≤ K 11 e) : ∀ n : Nat, (n : Int) ≤ K 0 12 → nmN K n < 64
  | 0, _ => by show 0 < 64; decide
  | n + 1, hn => by
    have h1 := nmN_lt hK h6 n (by omega)
    have h2 := hK (n : Int)
    have h3 := h6 (n : Int) (by omega) (by omega)
    simp only [nmN]
    apply Nat.or_lt_two_pow (n := 6) h1
    split
    · decide
    · have h4 : (K 11 (n : Int) % 10).toNat < 6 := by omega
      exact Nat.pow_lt_pow_right (by decide) h4
theorem nmK_lt {K : Cel} (hK : KOK K) : nmK K < 64 := nmN_lt hK.2.2.2.2.2.2.2.2.1 (fun e h0 h1 => (hK.2.2.2.2.2.2.2.2.2 e h0 h1).2.2.2) _ (by have := hK.2.1; omega)
theorem evX_S {K : Cel} {S S' : Int → Int} {w h e : Int} {X : Cel} (hS : S e = S' e) : evX K S w h e X = evX K S' w h e X := by unfold evX; rw [hS]
theorem evN_S {K : Cel} {S S' : Int → Int} {w h : Int} {X : Cel} (hS : ∀ e : Int, 0 ≤ e → e < K 0 12 → S e = S' e) : ∀ n : Nat, n ≤ (K 0 12).toNat → upN (evX K S w h) 0 n X = upN (evX K S' w h) 0 n X
  | 0, _ => rfl
  | n + 1, hn => by
    rw [upN_s, upN_s, evN_S hS n (by omega)]
    exact evX_S (hS _ (by omega) (by omega))
theorem goesX_S {K : Cel} {S S' : Int → Int} {w h : Int} {X : Cel} (hS : ∀ e : Int, 0 ≤ e → e < K 0 12 → S e = S' e) : goesX K S w h X = goesX K S' w h X := evN_S hS _ (Nat.le_refl _)
theorem runsN_S {K : Cel} {S S' : Int → Int} {w o : Int} (hS : ∀ e : Int, 0 ≤ e → e < K 0 12 → S e = S' e) : ∀ n : Nat, upN (goesX K S w) 0 n (begX K o) = upN (goesX K S' w) 0 n (begX K o)
  | 0 => rfl
  | n + 1 => by rw [upN_s, upN_s, runsN_S hS n]; exact goesX_S hS
theorem runsX_S {K : Cel} {S : Int → Int} {w till o : Int} (hS : ∀ e : Int, 0 ≤ e → e < K 0 12 → S e = srcX K e) : runsX K S w till o = simX K w till o := runsN_S hS _
theorem simX_s {K : Cel} {w h o : Int} {n : Nat} (hh : h = (n : Int)) : simX K w h o = goesX K (srcX K) w h (upN (goesX K (srcX K) w) 0 n (begX K o)) := by
  subst hh
  unfold simX runsX
  have e : ((n : Int) + 1).toNat = n + 1 := by omega
  rw [e, upN_s, Int.zero_add]
theorem XOK_sim {K : Cel} {w till o : Int} (hK : KOK K) (ho : o = 0 ∨ o = 1) : XOK (simX K w till o) := XOK_runsN hK ho _
theorem c_begins {μ : Mem} {K : Cel} {o : Int} (hk : kd μ.1 = K) (hK : KOK K) (ho : o = 0 ∨ o = 1) : PC shM 0 mX6_begins [vr 0, vi o] μ (QV (fun μ' => ∃ S' : Int → Int, (∀ i : Int, 0 ≤ i → i < K 0 12 → S' i = srcX K i) ∧ μ' = setW μ S' (begX K o))) := by
  subst hk
  have h := c_X6_begins (S := μ.1 15) (X := μ.1) hK ho
  rw [setW_self] at h
  exact h
theorem c_goes {μ : Mem} {K : Cel} {S : Int → Int} {X : Cel} {w h : Int} (hk : kd μ.1 = K) (hK : KOK K) (hX : XOK X) (hw : 0 ≤ w ∧ w < 64) (hh : 0 ≤ h ∧ h < 48) (hS : ∀ i : Int, 0 ≤ i → i < K 0 12 → S i = srcX K i) : PC shM 3 mX6_goes [vr 0, vi w, vi h] (setW μ S X) (QV (fun μ' => μ' = setW μ S (goesX K (srcX K) w h X))) := by
  subst hk
  refine PC.post (c_X6_goes hK hX hw hh) (fun r μ' hq => ⟨hq.1, ?_⟩)
  rw [hq.2, goesX_S hS]
theorem c_does {μ : Mem} {K : Cel} {S : Int → Int} {X : Cel} {k a b fr : Int} (hk0 : kd μ.1 = K) (hK : KOK K) (hX : XOK X) (hk : 0 ≤ k ∧ k ≤ 9) (ha : 0 ≤ a ∧ a < 12) (hb : k < 5 → 0 ≤ b ∧ b < 12) (hb9 : k = 9 → 1 ≤ b ∧ b ≤ 4) : PC shM 2 mX6_does [vr 0, vi k, vi a, vi b, vi fr] (setW μ S X) (QV (fun μ' => μ' = setW μ S (doesX K X k a b fr))) := by
  subst hk0
  exact c_X6_does hK hX hk ha hb hb9
set_option maxHeartbeats 1000000 in
set_option maxRecDepth 100000 in
theorem l_X6_runs {μ : Mem} {K : Cel} {S : Int → Int} {w till o : Int} (hk : kd μ.1 = K) (hK : KOK K) (ho : o = 0 ∨ o = 1) (hw : 0 ≤ w ∧ w < 64) (ht : -1 ≤ till ∧ till < 48) (hS : (∀ i : Int, 0 ≤ i → i < K 0 12 → S i = srcX K i)) : ∀ (n j : Nat) (h : Int), h = (j : Int) → j ≤ (till + 1).toNat → (till + 1).toNat - j < n → PW shM 4 mX6_runs 8 [(0, vr 0), (1, vi w), (2, vi till), (3, vi o), (4, vi h)] [] (setW μ S (upN (goesX K (srcX K) w) 0 j (begX K o))) (QV (fun μ' => ∃ S' : Int → Int, (∀ i : Int, 0 ≤ i → i < K 0 12 → S' i = srcX K i) ∧ μ' = setW μ S' (simX K w till o))) := by
  intro n
  induction n with
  | zero => intro j h _ _ q; omega
  | succ n ih =>
  intro j h hh hj hn
  have hX := XOK_runsN (S := srcX K) (w := w) hK ho j
  have hs := upN_s (goesX K (srcX K) w) 0 j (begX K o)
  rw [show (0 : Int) + (j : Int) = h by omega] at hs
  refine P_iload (pc := 8) dX6_runs_8 4 rfl ?_
  refine P_iload_n (pc := 10) dX6_runs_10 rfl 2 rfl ?_
  refine P_icmp_gt (tgt := 27) (pc := 11) dX6_runs_11 (by decide) (by unfold InR; omega) (by unfold InR; omega) (fun c_11 => ?_) (fun c_11 => ?_)
  · exact P_vret (pc := 27) dX6_runs_27 rfl (QV.mk (by refine ⟨S, hS, ?_⟩; have e9 : j = (till + 1).toNat := (by omega); rw [e9]; rfl))
  · refine P_aload_n (pc := 14) dX6_runs_14 rfl 0 rfl ?_
    refine P_iload_n (pc := 15) dX6_runs_15 rfl 1 rfl ?_
    refine P_iload (pc := 16) dX6_runs_16 4 rfl ?_
    refine P_callVv (Y' := mX6_goes) (as := [_, _]) (pc := 18) dX6_runs_18 rfl (by decide : 3 < 4) sM_0 rfl ml_RX6_219 im_X6_goes se_X6_goes mk_X6_goes (Nat.le_of_ble_eq_true rfl) (c_goes hk hK hX hw (by omega) hS) (fun μ_ hq => ?_)
    subst hq
    refine P_iinc (L' := [(4, vi _), (0, vr 0), (1, vi _), (2, vi _), (3, vi _)]) (pc := 21) dX6_runs_21 (by decide) 4 rfl rfl ?_
    refine P_goto (tgt := 8) (pc := 24) dX6_runs_24 (by decide) ?_
    refine P_sub (L' := [(0, vr 0), (1, vi _), (2, vi _), (3, vi _), (4, vi _)]) [1, 2, 3, 4, 0] rfl ?_
    rw [← hs]
    exact ih (j + 1) (h + 1) (by omega) (by omega) (by omega)
set_option maxHeartbeats 1000000 in
set_option maxRecDepth 100000 in
theorem c_X6_runs {μ : Mem} {K : Cel} {w till o : Int} (hk : kd μ.1 = K) (hK : KOK K) (ho : o = 0 ∨ o = 1) (hw : 0 ≤ w ∧ w < 64) (ht : -1 ≤ till ∧ till < 48) : PC shM 4 mX6_runs [vr 0, vi w, vi till, vi o] (μ) (QV (fun μ' => ∃ S' : Int → Int, (∀ i : Int, 0 ≤ i → i < K 0 12 → S' i = srcX K i) ∧ μ' = setW μ S' (simX K w till o))) := by
  refine PC.of (by decide +kernel) (Nat.le_of_ble_eq_true rfl) ?_
  refine P_sub (L' := [(0, vr 0), (1, vi w), (2, vi till), (3, vi o)]) [0, 1, 2, 3] rfl ?_
  refine P_aload_n (pc := 0) dX6_runs_0 rfl 0 rfl ?_
  refine P_iload_n (pc := 1) dX6_runs_1 rfl 3 rfl ?_
  refine P_callVv (Y' := mX6_begins) (as := [_]) (pc := 2) dX6_runs_2 rfl (by decide : 0 < 4) sM_0 rfl ml_RX6_215 im_X6_begins se_X6_begins mk_X6_begins (Nat.le_of_ble_eq_true rfl) (c_begins hk hK ho) (fun μ_ hq => ?_)
  obtain ⟨S, hS, rfl⟩ := hq
  refine P_iconst (pc := 5) dX6_runs_5 ?_
  refine P_istore (L' := [(4, vi _), (0, vr 0), (1, vi _), (2, vi _), (3, vi _)]) (pc := 6) dX6_runs_6 (by decide) rfl ?_
  refine P_sub (L' := [(0, vr 0), (1, vi _), (2, vi _), (3, vi _), (4, vi _)]) [1, 2, 3, 4, 0] rfl ?_
  exact l_X6_runs hk hK ho hw ht hS ((till + 1).toNat + 1) 0 0 rfl (Nat.zero_le _) (by omega)
