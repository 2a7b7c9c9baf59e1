theorem upN_add {α : Type} (f : Int → α → α) (a : Int) (n : Nat) (x : α) : ∀ k : Nat, upN f a (n + k) x = upN f (a + (n : Int)) k (upN f a n x)
  | 0 => rfl
  | k + 1 => by
    show upN f a (n + k + 1) x = _
    rw [upN_s, upN_s, upN_add f a n x k, show a + ((n + k : Nat) : Int) = a + (n : Int) + (k : Int) by omega]
/-- a story's planes, n hours played -/
def SimA (K : Cel) (b n : Nat) (N : Pl) : Prop := ∀ w : Nat, w < 64 → RX K (upN (goesX K (srcX K) (w : Int)) 0 n (begX K (b : Int))) (bw N w) ∧ (upN (goesX K (srcX K) (w : Int)) 0 n (begX K (b : Int))) 0 24 = (b : Int) ∧ Eve (upN (goesX K (srcX K) (w : Int)) 0 n (begX K (b : Int))) (n : Int)
theorem SimA_0 {K : Cel} {b W : Nat} {old : Pl} (hW : ∀ t : Nat, (t : Int) < K 0 11 → (W.testBit t = true ↔ (K 3 (t : Int) = 1 ∨ K 2 (t : Int) = 2))) (h11 : K 0 11 ≤ 12) : SimA K b 0 (bgF W 12 old) := fun w hw => ⟨RX_beg hw hW h11, rfl, ⟨fun _ => by decide, fun _ => rfl⟩⟩
theorem SimA_s {K : Cel} {b n : Nat} {N : Pl} (hb : b < 2) (hK : KOK K) (hN : KNE K) (h : SimA K b n N) (k : Nat) : SimA K b (n + k) (upN (hrN K (6 * (b : Int))) (n : Int) k N) := by
  intro w hw
  obtain ⟨h1, h2, h3⟩ := h w hw
  have hp : 6 * (b : Int) = if (upN (goesX K (srcX K) (w : Int)) 0 n (begX K (b : Int))) 0 24 ≠ 0 then 6 else 0 := by
    rw [h2]
    split <;> omega
  obtain ⟨g1, g2, g3⟩ := RX_hrs (a := (n : Int)) hw hK hN h1 hp h3 k
  have e := upN_add (goesX K (srcX K) (w : Int)) 0 n (begX K (b : Int)) k
  rw [Int.zero_add] at e
  rw [e]
  exact ⟨g1, g2.trans h2, by rw [show ((n + k : Nat) : Int) = (n : Int) + (k : Int) by omega]; exact g3⟩
theorem simX_n {K : Cel} {w h o : Int} {n : Nat} (hn : n = (h + 1).toNat) : simX K w h o = upN (goesX K (srcX K) w) 0 n (begX K o) := by subst hn; rfl
/-- what a story may change -/
def FS (b : Nat) (μ ν : Mem) : Prop := (∀ q, q ≠ 3 + b → q ≠ 24 + 7 * b → q ≠ 25 + 7 * b → q ≠ 26 + 7 * b → ν.1 q = μ.1 q) ∧ (∀ j, j ≠ 9 → j ≠ 10 → ν.1 (3 + b) j = μ.1 (3 + b) j) ∧ (∀ q, q ≠ 22 + 7 * b → q ≠ 23 + 7 * b → q ≠ 27 + 7 * b → q ≠ 28 + 7 * b → ν.2 q = μ.2 q) ∧ (ν.1 (3 + b) 10 = 0 ∨ ν.1 (3 + b) 10 = 1)
theorem FS_rf {b : Nat} {μ : Mem} (h : μ.1 (3 + b) 10 = 0 ∨ μ.1 (3 + b) 10 = 1) : FS b μ μ := ⟨fun _ _ _ _ _ => rfl, fun _ _ _ => rfl, fun _ _ _ _ _ => rfl, h⟩
theorem FS_tr {b : Nat} {μ ν ρ : Mem} (h : FS b μ ν) (g : FS b ν ρ) : FS b μ ρ := ⟨fun q a1 a2 a3 a4 => (g.1 q a1 a2 a3 a4).trans (h.1 q a1 a2 a3 a4), fun j a1 a2 => (g.2.1 j a1 a2).trans (h.2.1 j a1 a2), fun q a1 a2 a3 a4 => (g.2.2.1 q a1 a2 a3 a4).trans (h.2.2.1 q a1 a2 a3 a4), g.2.2.2⟩
theorem FS_st {b : Nat} {μ ν : Mem} {N A B : Pl} {s : Int} (h : FS b μ ν) (hs : s = 0 ∨ s = 1) : FS b μ (stM ν b N A B s) := FS_tr h ⟨fun q a1 _ _ _ => st_i a1, fun j _ a2 => st_j a2, fun q a1 _ a3 a4 => st_l ⟨a1, a3, a4⟩, by rw [st_s]; exact hs⟩
theorem FS_KR {b : Nat} {K : Cel} {μ ν : Mem} (hb : b < 2) (h : FS b μ ν) (hR : KR K μ) : KR K ν := by
  unfold KR at hR ⊢
  rw [h.1 1 (by omega) (by omega) (by omega) (by omega), h.1 10 (by omega) (by omega) (by omega) (by omega), h.1 11 (by omega) (by omega) (by omega) (by omega), h.1 12 (by omega) (by omega) (by omega) (by omega), h.1 13 (by omega) (by omega) (by omega) (by omega)]
  exact hR
/-- what a story knows of when things are unclean -/
def UI (K : Cel) (b : Nat) (U : Pl) (h : Int) : Prop := ∀ (h' t : Int) (w : Nat), 0 ≤ h' → h' < h → 0 ≤ t → t < K 0 11 → w < 64 → (U (h' * 12 + t)).getLsbD w = decide (1 ≤ simX K (w : Int) h' (b : Int) 13 t)
def SI (K : Cel) (μ : Mem) (b : Nat) : Prop := OI K μ b ∧ UI K b (μ.2 (23 + 7 * b)) 48
theorem OI_st {K : Cel} {μ : Mem} {b : Nat} {N A B : Pl} {s : Int} (h : OI K μ b) : OI K (stM μ b N A B s) b := by
  unfold OI at h ⊢
  rw [st_i (show 25 + 7 * b ≠ 3 + b by omega), st_i (show 24 + 7 * b ≠ 3 + b by omega), st_i (show 26 + 7 * b ≠ 3 + b by omega)]
  exact h
theorem SI_st {K : Cel} {μ : Mem} {b : Nat} {N A B : Pl} {s : Int} (h : SI K μ b) : SI K (stM μ b N A B s) b := by
  refine ⟨OI_st h.1, ?_⟩
  rw [st_l (by omega)]
  exact h.2
/-- while a story is refreshed -/
def RFP (K : Cel) (b : Nat) (μ ν : Mem) (h : Nat) : Prop := FS b μ ν ∧ ν.1 (3 + b) 9 = ν.1 1 12 ∧ OI K ν b ∧ SimA K b h (ν.2 (22 + 7 * b)) ∧ UI K b (ν.2 (23 + 7 * b)) (h : Int)
def ubF (h t : Int) (N U : Pl) : Pl := fun j => if h * 12 ≤ j ∧ j < h * 12 + t then N ((j - h * 12) * 13 + 3) else U j
theorem ubF_0 {h : Int} {N U : Pl} : ubF h 0 N U = U := by
  funext j; unfold ubF; rw [if_neg (by omega)]
theorem ubF_s {h t : Int} {N U : Pl} (ht : 0 ≤ t) : (fun j => if j = h * 12 + t then N (t * 13 + 3) else ubF h t N U j) = ubF h (t + 1) N U := by
  funext j
  unfold ubF
  by_cases a : j = h * 12 + t
  · subst a
    rw [if_pos rfl, if_pos (by omega), show h * 12 + t - h * 12 = t by omega]
  · rw [if_neg a]
    by_cases q : h * 12 ≤ j ∧ j < h * 12 + t
    · rw [if_pos q, if_pos (by omega)]
    · rw [if_neg q, if_neg (by omega)]
theorem UI_s {K : Cel} {b h : Nat} {N U : Pl} (hK : KOK K) (hU : UI K b U (h : Int)) (hN : SimA K b (h + 1) N) : UI K b (ubF (h : Int) 12 N U) ((h + 1 : Nat) : Int) := by
  intro h' t w a1 a2 a3 a4 a5
  have hK1 := hK.1
  unfold ubF
  by_cases q : h' = (h : Int)
  · subst q
    rw [if_pos (by omega), show (h : Int) * 12 + t - (h : Int) * 12 = t by omega, simX_n (n := h + 1) (by omega)]
    exact ((hN w a5).1 t a3 a4).1.2.2.2.2.1
  · rw [if_neg (by omega)]
    exact hU h' t w a1 (by omega) a3 a4 a5
theorem rowL_eq {μ : Mem} {k : Nat} {f : Pl} : (rowL μ k f).2 k = f := by simp [rowL]
theorem rowL_ne {μ : Mem} {k q : Nat} {f : Pl} (h : q ≠ k) : (rowL μ k f).2 q = μ.2 q := by simp [rowL, h]
theorem rowL_1 {μ : Mem} {k : Nat} {f : Pl} : (rowL μ k f).1 = μ.1 := rfl
theorem RFP_play {K : Cel} {b : Nat} {μ ν : Mem} {h : Nat} {A B : Pl} {s : Int} (hb : b < 2) (hK : KOK K) (hN : KNE K) (hs : s = 0 ∨ s = 1) (r : RFP K b μ ν h) {hh : Int} (hhe : hh = (h : Int)) : ∃ ρ, stM ν b (upN (hrN K (6 * (b : Int))) hh (hh + 1 - hh).toNat (ν.2 (22 + 7 * b))) A B s = ρ ∧ FS b μ ρ ∧ ρ.1 (3 + b) 9 = ρ.1 1 12 ∧ OI K ρ b ∧ SimA K b (h + 1) (ρ.2 (22 + 7 * b)) ∧ UI K b (ρ.2 (23 + 7 * b)) (h : Int) := by
  obtain ⟨r1, r2, r3, r4, r5⟩ := r
  refine ⟨_, rfl, FS_st r1 hs, ?_, OI_st r3, ?_, ?_⟩
  · rw [st_j (by decide), st_i (by omega)]; exact r2
  · rw [st_N, hhe, show ((h : Int) + 1 - (h : Int)).toNat = 1 by omega]
    exact SimA_s hb hK hN r4 1
  · rw [st_l (by omega)]; exact r5
theorem RFP_store {K : Cel} {b : Nat} {μ ρ : Mem} {h : Nat} {hh : Int} (hK : KOK K) (hhe : hh = (h : Int)) (r1 : FS b μ ρ) (r2 : ρ.1 (3 + b) 9 = ρ.1 1 12) (r3 : OI K ρ b) (r4 : SimA K b (h + 1) (ρ.2 (22 + 7 * b))) (r5 : UI K b (ρ.2 (23 + 7 * b)) (h : Int)) : RFP K b μ (rowL ρ (23 + 7 * b) (ubF hh 12 (ρ.2 (22 + 7 * b)) (ρ.2 (23 + 7 * b)))) (h + 1) := by
  subst hhe
  refine ⟨FS_tr r1 ⟨fun _ _ _ _ _ => rfl, fun _ _ _ => rfl, fun q _ a2 _ _ => rowL_ne a2, r1.2.2.2⟩, r2, r3, ?_, ?_⟩
  · rw [rowL_ne (by omega)]; exact r4
  · rw [rowL_eq]; exact UI_s hK r5 r4
theorem c_play {μ : Mem} {b : Nat} {K : Cel} {f l : Int} (hb : b < 2) (hR : KR K μ) (hK : KOK K) (hO : OI K μ b) (hlp : μ.1 (3 + b) 1 = 6 * (b : Int)) (hf : 0 ≤ f ∧ f ≤ 48) (hl : -1 ≤ l ∧ l ≤ 47) (hs : μ.1 (3 + b) 10 = 0 ∨ μ.1 (3 + b) 10 = 1) : PC shC 3 mX4_playHours [vr (3 + b), vi f, vi l] μ (QV (fun μ' => (∃ (A' B' : Pl) (s' : Int), (s' = 0 ∨ s' = 1) ∧ μ' = stM μ b (upN (hrN K (6 * (b : Int))) f (l + 1 - f).toNat (μ.2 (22 + 7 * b))) A' B' s'))) := by
  have h := c_X4_playHours (N := μ.2 (22 + 7 * b)) (A := μ.2 (27 + 7 * b)) (B := μ.2 (28 + 7 * b)) (s := μ.1 (3 + b) 10) hb hR hK hO hlp hf hl hs
  rw [st_self] at h
  exact h
theorem c_order {μ : Mem} {b : Nat} {K : Cel} (hb : b < 2) (hR : KR K μ) (hK : KOK K) : PC shC 1 mX4_orderByHours [vr (3 + b)] μ (QV (fun μ' => ∃ O' H' : Int → Int, (∀ j, 0 ≤ j → j ≤ 48 → H' j = (cntB K j (K 0 12).toNat : Int)) ∧ (∀ e : Nat, e < (K 0 12).toNat → O' (posE K e : Int) = (e : Int)) ∧ μ' = odM μ b O' H')) := by
  have h := c_X4_orderByHours (O := μ.1 (24 + 7 * b)) (H := μ.1 (25 + 7 * b)) hb hR hK
  rw [od_self] at h
  exact h
theorem RF_put {b : Nat} {μ : Mem} (hb : b < 2) (hs : μ.1 (3 + b) 10 = 0 ∨ μ.1 (3 + b) 10 = 1) : ∃ ν, putI μ (3 + b) 9 (μ.1 1 12) = ν ∧ FS b μ ν ∧ ν.1 (3 + b) 9 = ν.1 1 12 := by
  refine ⟨_, rfl, ⟨fun q a _ _ _ => putI_ne a, fun j a _ => ?_, fun _ _ _ _ _ => rfl, ?_⟩, ?_⟩
  · rw [putI_i, if_neg (fun z => a z.2)]
  · rw [putI_i, if_neg (fun z => absurd z.2 (by decide))]; exact hs
  · rw [putI_i, if_pos ⟨rfl, rfl⟩, putI_ne (by omega)]
theorem RF_ns {K : Cel} {b : Nat} {μ ν : Mem} (hb : b < 2) (hF : FS b μ ν) (h9 : ν.1 (3 + b) 9 = ν.1 1 12) : ∃ ρ, rowI ν (26 + 7 * b) (nsG K 60 (ν.1 (26 + 7 * b))) = ρ ∧ FS b μ ρ ∧ ρ.1 (3 + b) 9 = ρ.1 1 12 ∧ (∀ e, 0 ≤ e → e < 60 → ρ.1 (26 + 7 * b) e = nsF K e) := by
  refine ⟨_, rfl, FS_tr hF ⟨fun q _ _ _ a => rowI_ne a, fun j _ _ => by rw [rowI_ne (by omega)], fun _ _ _ _ _ => rfl, ?_⟩, ?_, fun e a c => ?_⟩
  · rw [rowI_ne (by omega)]; exact hF.2.2.2
  · rw [rowI_ne (by omega), rowI_ne (by omega)]; exact h9
  · rw [rowI_q]; unfold nsG; rw [if_pos ⟨a, c⟩]
theorem RF_od {K : Cel} {b : Nat} {μ ν : Mem} {O H : Int → Int} (hb : b < 2) (hF : FS b μ ν) (h9 : ν.1 (3 + b) 9 = ν.1 1 12) (h6 : ∀ e, 0 ≤ e → e < 60 → ν.1 (26 + 7 * b) e = nsF K e) (hH : ∀ j, 0 ≤ j → j ≤ 48 → H j = (cntB K j (K 0 12).toNat : Int)) (hO : ∀ e : Nat, e < (K 0 12).toNat → O (posE K e : Int) = (e : Int)) : ∃ ρ, odM ν b O H = ρ ∧ FS b μ ρ ∧ ρ.1 (3 + b) 9 = ρ.1 1 12 ∧ OI K ρ b := by
  refine ⟨_, rfl, FS_tr hF ⟨fun q _ a c _ => od_i ⟨a, c⟩, fun j _ _ => by rw [od_i (by omega)], fun _ _ _ _ _ => rfl, ?_⟩, ?_, ?_⟩
  · rw [od_i (by omega)]; exact hF.2.2.2
  · rw [od_i (by omega), od_i (by omega)]; exact h9
  · unfold OI
    rw [od_O, od_H, od_i (by omega)]
    exact ⟨hH, hO, h6⟩
theorem RF_bg {K : Cel} {b W : Nat} {μ ν : Mem} (hF : FS b μ ν) (h9 : ν.1 (3 + b) 9 = ν.1 1 12) (hO : OI K ν b) (hW : ∀ t : Nat, (t : Int) < K 0 11 → (W.testBit t = true ↔ (K 3 (t : Int) = 1 ∨ K 2 (t : Int) = 2))) (h11 : K 0 11 ≤ 12) : RFP K b μ (rowL ν (22 + 7 * b) (bgF W 12 (ν.2 (22 + 7 * b)))) 0 := by
  refine ⟨FS_tr hF ⟨fun _ _ _ _ _ => rfl, fun _ _ _ => rfl, fun q a _ _ _ => rowL_ne a, hF.2.2.2⟩, h9, hO, ?_, fun h' t w a1 a2 => absurd a1 (by have : h' < 0 := a2; omega)⟩
  rw [rowL_eq]
  exact SimA_0 hW h11
set_option maxHeartbeats 1000000 in
set_option maxRecDepth 100000 in
theorem c_X4_playFromStart {μ : Mem} {b : Nat} {N A B : Pl} {s : Int} {K : Cel} {l : Int} (hb : b < 2) (hR : KR K μ) (hK : KOK K) (hN : KNE K) (hO : OI K μ b) (hlp : μ.1 (3 + b) 1 = 6 * (b : Int)) (hl : 0 ≤ l ∧ l ≤ 47) (hs : s = 0 ∨ s = 1) : PC shC 4 mX4_playFromStart [vr (3 + b), vi l] (stM μ b N A B s) (QV (fun μ' => ∃ (N' A' B' : Pl) (s' : Int), (s' = 0 ∨ s' = 1) ∧ SimA K b (l + 1).toNat N' ∧ μ' = stM μ b N' A' B' s')) := by
  refine PC.of (by decide +kernel) (Nat.le_of_ble_eq_true rfl) ?_
  refine P_sub (L' := [(0, vr (3 + b)), (1, vi l)]) [0, 1] rfl ?_
  obtain ⟨W, hW, hW2, hW3⟩ := hR.2.2.2.2.2
  have hK1 := hK.1
  refine P_aload_n (pc := 0) dX4_playFromStart_0 rfl 0 rfl ?_
  refine P_callVv (Y' := mX4_begin) (as := []) (pc := 1) dX4_playFromStart_1 rfl (by decide : 1 < 4) (sS_o hb) rfl ml_RX4_56 im_X4_begin se_X4_begin mk_X4_begin (Nat.le_of_ble_eq_true rfl) (c_X4_begin hb (by rw [st_i (by omega)]; exact hW) hW2) (fun μ_ hq => ?_)
  subst hq
  try simp (disch := omega) only [st_N, st_A, st_B, st_i, st_s, st_j, st_pN, st_pA, st_pB, st_ps, st_rN, st_rA, st_rB, les1_at, les2_at, mkN_at, kfN_0, lput_eq, lput_ne, lesN_out, mkN_out]
  refine P_aload_n (pc := 4) dX4_playFromStart_4 rfl 0 rfl ?_
  refine P_iconst (pc := 5) dX4_playFromStart_5 ?_
  refine P_iload_n (pc := 6) dX4_playFromStart_6 rfl 1 rfl ?_
  refine P_callVv (Y' := mX4_playHours) (as := [_, _]) (pc := 7) dX4_playFromStart_7 rfl (by decide : 3 < 4) (sS_o hb) rfl ml_RX4_59 im_X4_playHours se_X4_playHours mk_X4_playHours (Nat.le_of_ble_eq_true rfl) (c_X4_playHours hb hR hK hO hlp (by omega) (by omega) hs) (fun μ_ hq => ?_)
  obtain ⟨A_, B_, s_, hs_, hμ_⟩ := hq
  subst hμ_
  try simp (disch := omega) only [st_N, st_A, st_B, st_i, st_s, st_j, st_pN, st_pA, st_pB, st_ps, st_rN, st_rA, st_rB, les1_at, les2_at, mkN_at, kfN_0, lput_eq, lput_ne, lesN_out, mkN_out]
  exact P_vret (pc := 10) dX4_playFromStart_10 rfl (QV.mk (by have g := SimA_s hb hK hN (SimA_0 (old := N) (b := b) hW3 hK1.2) (l + 1).toNat; rw [Nat.zero_add] at g; rw [Int.sub_zero]; exact ⟨_, _, _, _, hs_, g, rfl⟩))
set_option maxHeartbeats 1000000 in
set_option maxRecDepth 100000 in
theorem l_X4_refresh1 {μ : Mem} {b : Nat} {h : Int} {Q : Option PV → Mem → Prop} (hb : b < 2) (hh : 0 ≤ h ∧ h < 48) (kx : PW shC 4 mX4_refresh 88 [(0, vr (3 + b)), (1, vi h)] [] (rowL μ (23 + 7 * b) (ubF h 12 (μ.2 (22 + 7 * b)) (μ.2 (23 + 7 * b)))) Q) : ∀ (n : Nat) (t : Int), 0 ≤ t ∧ t ≤ 12 → (12 - t).toNat < n → PW shC 4 mX4_refresh 54 [(0, vr (3 + b)), (1, vi h), (2, vi t)] [] (rowL μ (23 + 7 * b) (ubF h t (μ.2 (22 + 7 * b)) (μ.2 (23 + 7 * b)))) Q := by
  intro n
  induction n with
  | zero => intro t _ q; omega
  | succ n ih =>
  intro t ht hn
  refine P_iload_n (pc := 54) dX4_refresh_54 rfl 2 rfl ?_
  refine P_bipush (pc := 55) dX4_refresh_55 (by decide) ?_
  refine P_icmp_ge (tgt := 88) (pc := 57) dX4_refresh_57 (by decide) (by first | assumption | (unfold InR; omega)) (by first | assumption | (unfold InR; omega)) (fun c_57 => ?_) (fun c_57 => ?_)
  · refine P_sub (L' := [(0, vr (3 + b)), (1, vi _)]) [0, 1] rfl ?_
    have e9 : t = 12 := by omega
    subst e9
    exact kx
  · refine P_aload_n (pc := 60) dX4_refresh_60 rfl 0 rfl ?_
    refine P_getR (pc := 61) dX4_refresh_61 fa_RX4_15 (sS_o hb) fS_3 ?_
    refine P_iload_n (pc := 64) dX4_refresh_64 rfl 1 rfl ?_
    refine P_bipush (pc := 65) dX4_refresh_65 (by decide) ?_
    refine P_imul (pc := 67) dX4_refresh_67 ?_
    refine P_iload_n (pc := 68) dX4_refresh_68 rfl 2 rfl ?_
    refine P_iadd (pc := 69) dX4_refresh_69 ?_
    refine P_aload_n (pc := 70) dX4_refresh_70 rfl 0 rfl ?_
    refine P_getR (pc := 71) dX4_refresh_71 fa_RX4_9 (sS_o hb) fS_2 ?_
    refine P_iload_n (pc := 74) dX4_refresh_74 rfl 2 rfl ?_
    refine P_bipush (pc := 75) dX4_refresh_75 (by decide) ?_
    refine P_imul (pc := 77) dX4_refresh_77 ?_
    refine P_iconst (pc := 78) dX4_refresh_78 ?_
    refine P_iadd (pc := 79) dX4_refresh_79 ?_
    refine P_lald (pc := 80) dX4_refresh_80 (sS_22 hb) (by omega) (by omega) (by decide) ?_
    try simp only [rowL_put]
    refine P_last (pc := 81) dX4_refresh_81 (sS_23 hb) (by omega) (by omega) (by decide) ?_
    try simp only [rowL_put]
    refine P_iinc (L' := [(2, vi _), (0, vr (3 + b)), (1, vi _)]) (pc := 82) dX4_refresh_82 (by decide) 2 rfl rfl ?_
    refine P_goto (tgt := 54) (pc := 85) dX4_refresh_85 (by decide) ?_
    refine P_sub (L' := [(0, vr (3 + b)), (1, vi _), (2, vi _)]) [1, 2, 0] rfl ?_
    rw [rowL_ne (by omega), ubF_s (by omega)]
    exact ih (t + 1) (by omega) (by omega)
set_option maxHeartbeats 1000000 in
set_option maxRecDepth 100000 in
theorem l_X4_refresh2 {μ : Mem} {b : Nat} {K : Cel} (hb : b < 2) (hR : KR K μ) (hK : KOK K) (hN : KNE K) (hlp : μ.1 (3 + b) 1 = 6 * (b : Int)) (hs : μ.1 (3 + b) 10 = 0 ∨ μ.1 (3 + b) 10 = 1) : ∀ (n h : Nat) (hh : Int) (ν : Mem), hh = (h : Int) → h ≤ 48 → 48 - h < n → RFP K b μ ν h → PW shC 4 mX4_refresh 40 [(0, vr (3 + b)), (1, vi hh)] [] ν (QV (fun μ' => (FS b μ μ' ∧ SI K μ' b ∧ μ'.1 (3 + b) 9 = μ'.1 1 12))) := by
  intro n
  induction n with
  | zero => intro h hh ν _ _ q; omega
  | succ n ih =>
  intro h hh ν hhe h48 hn r
  have hRν := FS_KR hb r.1 hR
  have hlpν : ν.1 (3 + b) 1 = 6 * (b : Int) := (r.1.2.1 1 (by decide) (by decide)).trans hlp
  refine P_iload_n (pc := 40) dX4_refresh_40 rfl 1 rfl ?_
  refine P_bipush (pc := 41) dX4_refresh_41 (by decide) ?_
  refine P_icmp_ge (tgt := 94) (pc := 43) dX4_refresh_43 (by decide) (by first | assumption | (unfold InR; omega)) (by first | assumption | (unfold InR; omega)) (fun c_43 => ?_) (fun c_43 => ?_)
  · exact P_vret (pc := 94) dX4_refresh_94 rfl (QV.mk (by first | exact ⟨FS_rf hs, hc (by assumption), by assumption⟩ | (have e9 : h = 48 := (by omega); subst e9; exact ⟨r.1, ⟨r.2.2.1, r.2.2.2.2⟩, r.2.1⟩)))
  · refine P_aload_n (pc := 46) dX4_refresh_46 rfl 0 rfl ?_
    refine P_iload_n (pc := 47) dX4_refresh_47 rfl 1 rfl ?_
    refine P_iload_n (pc := 48) dX4_refresh_48 rfl 1 rfl ?_
    refine P_callVv (Y' := mX4_playHours) (as := [_, _]) (pc := 49) dX4_refresh_49 rfl (by decide : 3 < 4) (sS_o hb) rfl ml_RX4_59 im_X4_playHours se_X4_playHours mk_X4_playHours (Nat.le_of_ble_eq_true rfl) (c_play hb hRν hK r.2.2.1 hlpν (by omega) (by omega) r.1.2.2.2) (fun μ_ hq => ?_)
    obtain ⟨A_, B_, s_, hs_, hμ_⟩ := hq
    subst hμ_
    obtain ⟨ρ, hρ, p1, p2, p3, p4, p5⟩ := RFP_play (A := A_) (B := B_) hb hK hN hs_ r hhe
    rw [hρ]
    clear hρ
    try simp only [rowL_put]
    refine P_iconst (pc := 52) dX4_refresh_52 ?_
    refine P_istore_n (L' := [(2, vi _), (0, vr (3 + b)), (1, vi _)]) (pc := 53) dX4_refresh_53 rfl (by decide) rfl ?_
    refine P_sub (L' := [(0, vr (3 + b)), (1, vi _), (2, vi _)]) [1, 2, 0] rfl ?_
    have hx := fun kx => l_X4_refresh1 (Q := QV (fun μ' => (FS b μ μ' ∧ SI K μ' b ∧ μ'.1 (3 + b) 9 = μ'.1 1 12))) (μ := ρ) hb (h := hh) (by omega) kx 13 0 (by omega) (by omega)
    rw [ubF_0, rowL_self] at hx
    refine hx ?_
    · skip
      refine P_iinc (L' := [(1, vi _), (0, vr (3 + b))]) (pc := 88) dX4_refresh_88 (by decide) 1 rfl rfl ?_
      refine P_goto (tgt := 40) (pc := 91) dX4_refresh_91 (by decide) ?_
      refine P_sub (L' := [(0, vr (3 + b)), (1, vi _)]) [1, 0] rfl ?_
      exact ih (h + 1) (hh + 1) _ (by omega) (by omega) (by omega) (RFP_store hK hhe p1 p2 p3 p4 p5)
set_option maxHeartbeats 1000000 in
set_option maxRecDepth 100000 in
theorem c_X4_refresh {μ : Mem} {b : Nat} {K : Cel} (hb : b < 2) (hR : KR K μ) (hK : KOK K) (hN : KNE K) (hlp : μ.1 (3 + b) 1 = 6 * (b : Int)) (hs : μ.1 (3 + b) 10 = 0 ∨ μ.1 (3 + b) 10 = 1) (hc : μ.1 (3 + b) 9 = μ.1 1 12 → SI K μ b) (hi1 : InR (μ.1 (3 + b) 9)) (hi2 : InR (μ.1 1 12)) : PC shC 4 mX4_refresh [vr (3 + b)] (μ) (QV (fun μ' => (FS b μ μ' ∧ SI K μ' b ∧ μ'.1 (3 + b) 9 = μ'.1 1 12))) := by
  refine PC.of (by decide +kernel) (Nat.le_of_ble_eq_true rfl) ?_
  refine P_sub (L' := [(0, vr (3 + b))]) [0] rfl ?_
  refine P_aload_n (pc := 0) dX4_refresh_0 rfl 0 rfl ?_
  refine P_getI (jj := 9) (pc := 1) dX4_refresh_1 fa_RX4_34 (sS_o hb) fS_9 rfl ?_
  try simp only [rowL_put]
  refine P_aload_n (pc := 4) dX4_refresh_4 rfl 0 rfl ?_
  refine P_getR (pc := 5) dX4_refresh_5 fa_RX4_38 (sS_o hb) fS_0 ?_
  refine P_getI (jj := 12) (pc := 8) dX4_refresh_8 fa_RX4_45 sC_1 fC1_12 rfl ?_
  try simp only [rowL_put]
  refine P_icmp_ne (tgt := 15) (pc := 11) dX4_refresh_11 (by decide) (by first | assumption | (unfold InR; omega)) (by first | assumption | (unfold InR; omega)) (fun c_11 => ?_) (fun c_11 => ?_)
  · refine P_aload_n (pc := 15) dX4_refresh_15 rfl 0 rfl ?_
    refine P_aload_n (pc := 16) dX4_refresh_16 rfl 0 rfl ?_
    refine P_getR (pc := 17) dX4_refresh_17 fa_RX4_38 (sS_o hb) fS_0 ?_
    refine P_getI (jj := 12) (pc := 20) dX4_refresh_20 fa_RX4_45 sC_1 fC1_12 rfl ?_
    try simp only [rowL_put]
    refine P_putI (jj := 9) (pc := 23) dX4_refresh_23 fa_RX4_34 fp_4_9 (sS_o hb) fS_9 rfl ?_
    try simp only [rowL_put]
    obtain ⟨ν, hν, hF, h9⟩ := RF_put hb hs
    rw [hν]
    clear hν
    have hRν := FS_KR hb hF hR
    refine P_aload_n (pc := 26) dX4_refresh_26 rfl 0 rfl ?_
    refine P_callVv (Y' := mX4_numberSources) (as := []) (pc := 27) dX4_refresh_27 rfl (by decide : 1 < 4) (sS_o hb) rfl ml_RX4_50 im_X4_numberSources se_X4_numberSources mk_X4_numberSources (Nat.le_of_ble_eq_true rfl) (c_X4_numberSources hb hRν hK) (fun μ_ hq => ?_)
    subst hq
    try simp only [rowL_put]
    obtain ⟨ν1, hν1, hF1, h91, h61⟩ := RF_ns (K := K) hb hF h9
    rw [hν1]
    clear hν1
    have hRν1 := FS_KR hb hF1 hR
    refine P_aload_n (pc := 30) dX4_refresh_30 rfl 0 rfl ?_
    refine P_callVv (Y' := mX4_orderByHours) (as := []) (pc := 31) dX4_refresh_31 rfl (by decide : 1 < 4) (sS_o hb) rfl ml_RX4_53 im_X4_orderByHours se_X4_orderByHours mk_X4_orderByHours (Nat.le_of_ble_eq_true rfl) (c_order hb hRν1 hK) (fun μ_ hq => ?_)
    obtain ⟨O_, H_, hH_, hO_, hμ_⟩ := hq
    subst hμ_
    obtain ⟨ν2, hν2, hF2, h92, hO2⟩ := RF_od hb hF1 h91 h61 hH_ hO_
    rw [hν2]
    clear hν2
    obtain ⟨W, hW, hW2, hW3⟩ := (FS_KR hb hF2 hR).2.2.2.2.2
    try simp only [rowL_put]
    refine P_aload_n (pc := 34) dX4_refresh_34 rfl 0 rfl ?_
    refine P_callVv (Y' := mX4_begin) (as := []) (pc := 35) dX4_refresh_35 rfl (by decide : 1 < 4) (sS_o hb) rfl ml_RX4_56 im_X4_begin se_X4_begin mk_X4_begin (Nat.le_of_ble_eq_true rfl) (c_X4_begin hb hW hW2) (fun μ_ hq => ?_)
    subst hq
    try simp only [rowL_put]
    have r0 := RF_bg hF2 h92 hO2 hW3 hK.1.2
    refine P_iconst (pc := 38) dX4_refresh_38 ?_
    refine P_istore_n (L' := [(1, vi _), (0, vr (3 + b))]) (pc := 39) dX4_refresh_39 rfl (by decide) rfl ?_
    refine P_sub (L' := [(0, vr (3 + b)), (1, vi _)]) [1, 0] rfl ?_
    exact l_X4_refresh2 hb hR hK hN hlp hs 49 0 0 _ rfl (by omega) (by omega) r0
  · exact P_vret (pc := 14) dX4_refresh_14 rfl (QV.mk (by first | exact ⟨FS_rf hs, hc (by assumption), by assumption⟩ | (have e9 : h = 48 := (by omega); subst e9; exact ⟨r.1, ⟨r.2.2.1, r.2.2.2.2⟩, r.2.1⟩)))
